set_option maxHeartbeats 4000000 in
set_option maxRecDepth 100000 in
theorem c_isIn (l : Launch) (D : zG) (sz : Nat) (a b c1 : Int32) : Met l yX4_isIn wsX4_isIn ({ frames := 0, cells := 0, slots := 0, locals := 0 }) (zPc D [] ([]) sz [.int a, .int b, .int c1]) (vp_Si (fun r => r = if b ≤ a ∧ a ≤ c1 then 1 else 0)) 0 0 (fun _ => False) := by
  refine Met.ofW (cc := cX4_isIn) (maxL := 3) (ret := (some .boolean)) (by decide) rfl ?_
  intro p e s m args below meth c s₁ B hml hv
  obtain ⟨rfl, hsz, hP, hK, hD0⟩ := hv
  have hx := B.exec
  have hb := B.bytes
  have hr := B.returns
  have hts := atoms_spec (ws := wsX4_isIn) B.pre
  have hown : s.vm.findClass RX4 = some m.cls := findClass_of_methodNamed B.named
  have hlocks := B.notSynchronized
  subst hsz
  have hD := hD0
  generalize hAe : (fun _ : Nat => True) = A at hD
  have hl := lv_entry ([.int a, .int b, .int c1]) (n := 3) (Nat.le_of_ble_eq_true rfl)
  rw [lg_entry_eq]
  generalize (lg_sl ([.int a, .int b, .int c1]) ++ List.replicate (3 - (lg_sl ([.int a, .int b, .int c1])).length) Slot.unset).toArray = ls at hl ⊢
  have hl : lv_has ls 3 [(0, .int a), (1, .int b), (2, .int c1)] := hl
  have hP : va_P D vwCl ([]) s.heap := hP
  generalize hRe : (headSpec _ _).room = R
  have hRf : R.frames = 0 := by rw [← hRe]; rfl
  have hRc : R.cells = 0 := by rw [← hRe]; rfl
  have hRs : R.slots = 0 := by rw [← hRe]; rfl
  have hRl : R.locals = 0 := by rw [← hRe]; rfl
  clear hRe
  refine lv_iload_n hx hb dX4_isIn_0 rfl (lv_at hl 0 rfl) ?_
  refine lv_iload_n hx hb dX4_isIn_1 rfl (lv_at hl 1 rfl) ?_
  refine lv_icmp_lt (tgt := 14) hx hb dX4_isIn_2 (by decide) (fun c_1 => ?_) (fun c_1 => ?_)
  · have h_b := True.intro
    refine lv_iconst (v := 0) hx hb dX4_isIn_14 (by decide) ?_
    exact W.zret (ty := .boolean) (v := 0) hx hb hr rfl (fun t ht hW => ⟨0, rfl, (if_neg (fun h => absurd h.1 (Int32.not_le.mpr c_1))).symm, ht⟩) (fun _ h => by cases h) dX4_isIn_15
  · have h_b := True.intro
    refine lv_iload_n hx hb dX4_isIn_5 rfl (lv_at hl 0 rfl) ?_
    refine lv_iload_n hx hb dX4_isIn_6 rfl (lv_at hl 2 rfl) ?_
    refine lv_icmp_gt (tgt := 14) hx hb dX4_isIn_7 (by decide) (fun c_2 => ?_) (fun c_2 => ?_)
    · have h_b := True.intro
      refine lv_iconst (v := 0) hx hb dX4_isIn_14 (by decide) ?_
      exact W.zret (ty := .boolean) (v := 0) hx hb hr rfl (fun t ht hW => ⟨0, rfl, (if_neg (fun h => absurd h.2 (Int32.not_le.mpr c_2))).symm, ht⟩) (fun _ h => by cases h) dX4_isIn_15
    · have h_b := True.intro
      refine lv_iconst (v := 1) hx hb dX4_isIn_10 (by decide) ?_
      refine lv_goto (tgt := 15) hx hb dX4_isIn_11 (by decide) ?_
      exact W.zret (ty := .boolean) (v := 1) hx hb hr rfl (fun t ht hW => ⟨1, rfl, (if_pos ⟨Int32.not_lt.mp c_1, Int32.not_lt.mp c_2⟩).symm, ht⟩) (fun _ h => by cases h) dX4_isIn_15
set_option maxHeartbeats 4000000 in
set_option maxRecDepth 100000 in
theorem c_isCellM (l : Launch) (D : zG) (sz : Nat) (a b : Int32) : Met l yX4_isCell wsX4_isCell ({ frames := 1, cells := 0, slots := 0, locals := 22 }) (zPc D [] ([]) sz [.int a, .int b]) (vp_Si (fun r => r = if (0 ≤ a ∧ a ≤ 11) ∧ (0 ≤ b ∧ b ≤ 9) then 1 else 0)) 0 0 (fun _ => False) := by
  refine Met.ofW (cc := cX4_isCell) (maxL := 2) (ret := (some .boolean)) (by decide) rfl ?_
  intro p e s m args below meth c s₁ B hml hv
  obtain ⟨rfl, hsz, hP, hK, hD0⟩ := hv
  have hx := B.exec
  have hb := B.bytes
  have hr := B.returns
  have hts := atoms_spec (ws := wsX4_isCell) B.pre
  have hown : s.vm.findClass RX4 = some m.cls := findClass_of_methodNamed B.named
  have hlocks := B.notSynchronized
  subst hsz
  have hD := hD0
  generalize hAe : (fun _ : Nat => True) = A at hD
  have hl := lv_entry ([.int a, .int b]) (n := 2) (Nat.le_of_ble_eq_true rfl)
  rw [lg_entry_eq]
  generalize (lg_sl ([.int a, .int b]) ++ List.replicate (2 - (lg_sl ([.int a, .int b])).length) Slot.unset).toArray = ls at hl ⊢
  have hl : lv_has ls 2 [(0, .int a), (1, .int b)] := hl
  have hP : va_P D vwCl ([]) s.heap := hP
  generalize hRe : (headSpec _ _).room = R
  have hRf : R.frames = 1 := by rw [← hRe]; rfl
  have hRc : R.cells = 0 := by rw [← hRe]; rfl
  have hRs : R.slots = 0 := by rw [← hRe]; rfl
  have hRl : R.locals = 22 := by rw [← hRe]; rfl
  clear hRe
  refine lv_iload_n hx hb dX4_isCell_0 rfl (lv_at hl 0 rfl) ?_
  refine lv_iconst (v := 0) hx hb dX4_isCell_1 (by decide) ?_
  refine lv_bipush (v := 11) hx hb dX4_isCell_2 (by decide) ?_
  refine zrdS (As := [.int a, .int 0, .int 11]) (rest := []) (wc := []) ⟨hx, hb, hml, hown, hts⟩ (c_isIn l D _ a 0 11) (va_cwS 3 hts gX4_isCell_X4_isIn rfl rfl rfl (by decide +kernel) ⟨by rw [hRf]; exact Nat.le_of_ble_eq_true rfl, by rw [hRl]; exact Nat.le_of_ble_eq_true rfl⟩) hK hP hD [] rfl (by decide) [] rfl rfl hl.1 rfl (Nat.le_of_ble_eq_true rfl) dX4_isCell_4 ⟨by omega, by omega⟩ (fun r_3 hr_3 => ?_)
  refine lv_if_eq (tgt := 24) hx hb dX4_isCell_7 (by decide) (fun c_4 => ?_) (fun c_4 => ?_)
  · have h_b := True.intro
    have k_5 : ¬ (0 ≤ a ∧ a ≤ 11) := fun h9 => absurd ((hr_3.trans (if_pos h9)).symm.trans c_4) (by decide)
    refine lv_iconst (v := 0) hx hb dX4_isCell_24 (by decide) ?_
    exact W.zret (ty := .boolean) (v := 0) hx hb hr rfl (fun t ht hW => ⟨0, rfl, (if_neg (fun h => absurd h.1 k_5)).symm, ht⟩) (fun _ h => by cases h) dX4_isCell_25
  · have h_b := True.intro
    have k_6 : 0 ≤ a ∧ a ≤ 11 := Decidable.byContradiction fun h9 => absurd (hr_3.trans (if_neg h9)) c_4
    refine lv_iload_n hx hb dX4_isCell_10 rfl (lv_at hl 1 rfl) ?_
    refine lv_iconst (v := 0) hx hb dX4_isCell_11 (by decide) ?_
    refine lv_bipush (v := 9) hx hb dX4_isCell_12 (by decide) ?_
    refine zrdS (As := [.int b, .int 0, .int 9]) (rest := []) (wc := []) ⟨hx, hb, hml, hown, hts⟩ (c_isIn l D _ b 0 9) (va_cwS 3 hts gX4_isCell_X4_isIn rfl rfl rfl (by decide +kernel) ⟨by rw [hRf]; exact Nat.le_of_ble_eq_true rfl, by rw [hRl]; exact Nat.le_of_ble_eq_true rfl⟩) hK hP hD [] rfl (by decide) [] rfl rfl hl.1 rfl (Nat.le_of_ble_eq_true rfl) dX4_isCell_14 ⟨by omega, by omega⟩ (fun r_7 hr_7 => ?_)
    refine lv_if_eq (tgt := 24) hx hb dX4_isCell_17 (by decide) (fun c_8 => ?_) (fun c_8 => ?_)
    · have h_b := True.intro
      have k_9 : ¬ (0 ≤ b ∧ b ≤ 9) := fun h9 => absurd ((hr_7.trans (if_pos h9)).symm.trans c_8) (by decide)
      refine lv_iconst (v := 0) hx hb dX4_isCell_24 (by decide) ?_
      exact W.zret (ty := .boolean) (v := 0) hx hb hr rfl (fun t ht hW => ⟨0, rfl, (if_neg (fun h => absurd h.2 k_9)).symm, ht⟩) (fun _ h => by cases h) dX4_isCell_25
    · have h_b := True.intro
      have k_10 : 0 ≤ b ∧ b ≤ 9 := Decidable.byContradiction fun h9 => absurd (hr_7.trans (if_neg h9)) c_8
      refine lv_iconst (v := 1) hx hb dX4_isCell_20 (by decide) ?_
      refine lv_goto (tgt := 25) hx hb dX4_isCell_21 (by decide) ?_
      exact W.zret (ty := .boolean) (v := 1) hx hb hr rfl (fun t ht hW => ⟨1, rfl, (if_pos ⟨k_6, k_10⟩).symm, ht⟩) (fun _ h => by cases h) dX4_isCell_25
set_option maxHeartbeats 4000000 in
set_option maxRecDepth 100000 in
theorem c_isKind0 (l : Launch) (D : zG) (sz : Nat) (mo kT tb ld lK lC : Nat) (a : Int32) : Met l yX4_isKind wsX4_isKind ({ frames := 1, cells := 0, slots := 0, locals := 25 }) (zPc D [] ([(mo, .inr (4, [.int 0, .int 0, .ref kT, .int 20, .int 60, .int 2000, .int 0, .int 0, .ref tb, .ref ld, .int 0, .ref lK, .ref lC, .int 0]))]) sz [.ref mo, .int a]) (vp_Si (fun r => r = 0)) 0 0 (fun _ => False) := by
  refine Met.ofW (cc := cX4_isKind) (maxL := 2) (ret := (some .boolean)) (by decide) rfl ?_
  intro p e s m args below meth c s₁ B hml hv
  obtain ⟨rfl, hsz, hP, hK, hD0⟩ := hv
  have hx := B.exec
  have hb := B.bytes
  have hr := B.returns
  have hts := atoms_spec (ws := wsX4_isKind) B.pre
  have hown : s.vm.findClass RX4 = some m.cls := findClass_of_methodNamed B.named
  have hlocks := B.notSynchronized
  subst hsz
  have hD := hD0
  generalize hAe : (fun _ : Nat => True) = A at hD
  have hl := lv_entry ([.ref mo, .int a]) (n := 2) (Nat.le_of_ble_eq_true rfl)
  rw [lg_entry_eq]
  generalize (lg_sl ([.ref mo, .int a]) ++ List.replicate (2 - (lg_sl ([.ref mo, .int a])).length) Slot.unset).toArray = ls at hl ⊢
  have hl : lv_has ls 2 [(0, .ref mo), (1, .int a)] := hl
  have hP : va_P D vwCl ([(mo, .inr (4, [.int 0, .int 0, .ref kT, .int 20, .int 60, .int 2000, .int 0, .int 0, .ref tb, .ref ld, .int 0, .ref lK, .ref lC, .int 0]))]) s.heap := hP
  generalize hRe : (headSpec _ _).room = R
  have hRf : R.frames = 1 := by rw [← hRe]; rfl
  have hRc : R.cells = 0 := by rw [← hRe]; rfl
  have hRs : R.slots = 0 := by rw [← hRe]; rfl
  have hRl : R.locals = 25 := by rw [← hRe]; rfl
  clear hRe
  refine lv_iload_n hx hb dX4_isKind_0 rfl (lv_at hl 1 rfl) ?_
  refine lv_iconst (v := 0) hx hb dX4_isKind_1 (by decide) ?_
  refine lv_aload_n hx hb dX4_isKind_2 rfl (lv_at hl 0 rfl) ?_
  refine va_get (D := D) (ci := 4) (v := .int 0) (C := RX4) (T := TX4) (N := 14) hx hb hts (fun _ h9 => List.mem_cons_of_mem _ (List.mem_append_right _ h9)) hown hK hP 0 rfl rfl 1 (by decide) (hts (.fieldLink RX4 38 "PalletStackModel" "kinds" "I") (List.mem_of_getElem? (i := 1) (by rfl))) (fun _ h9 => h9) rfl dX4_isKind_3 ?_
  refine lv_iconst (v := 1) hx hb dX4_isKind_6 (by decide) ?_
  refine lv_isub hx hb dX4_isKind_7 ?_
  refine lv_topi (fun v_11 ev_11 => ?_)
  obtain rfl : v_11 = (-1) := ev_11.trans (by decide)
  refine zrdS (As := [.int a, .int 0, .int (-1)]) (rest := []) (wc := []) ⟨hx, hb, hml, hown, hts⟩ (c_isIn l D _ a 0 (-1)) (va_cwS 3 hts gX4_isKind_X4_isIn rfl rfl rfl (by decide +kernel) ⟨by rw [hRf]; exact Nat.le_of_ble_eq_true rfl, by rw [hRl]; exact Nat.le_of_ble_eq_true rfl⟩) hK hP hD [] rfl (by decide) [] rfl rfl hl.1 rfl (Nat.le_of_ble_eq_true rfl) dX4_isKind_8 ⟨by omega, by omega⟩ (fun r_12 hr_12 => ?_)
  refine lv_topi (fun v_13 ev_13 => ?_)
  obtain rfl : v_13 = 0 := ev_13.trans (hr_12.trans (if_neg (fun h9 => absurd (Int32.le_trans h9.1 h9.2) (by decide))))
  exact W.zret (ty := .boolean) (v := 0) hx hb hr rfl (fun t ht hW => ⟨0, rfl, rfl, ht⟩) (fun _ h => by cases h) dX4_isKind_11
set_option maxHeartbeats 4000000 in
set_option maxRecDepth 100000 in
theorem c_isItem0 (l : Launch) (D : zG) (sz : Nat) (mo kT tb ld lK lC : Nat) (a : Int32) : Met l yX4_isItem wsX4_isItem ({ frames := 2, cells := 0, slots := 0, locals := 60 }) (zPc D [] ([(mo, .inr (4, [.int 0, .int 0, .ref kT, .int 20, .int 60, .int 2000, .int 0, .int 0, .ref tb, .ref ld, .int 0, .ref lK, .ref lC, .int 0]))]) sz [.ref mo, .int a]) (vp_Si (fun r => r = 0)) 0 0 (fun _ => False) := by
  refine Met.ofW (cc := cX4_isItem) (maxL := 2) (ret := (some .boolean)) (by decide) rfl ?_
  intro p e s m args below meth c s₁ B hml hv
  obtain ⟨rfl, hsz, hP, hK, hD0⟩ := hv
  have hx := B.exec
  have hb := B.bytes
  have hr := B.returns
  have hts := atoms_spec (ws := wsX4_isItem) B.pre
  have hown : s.vm.findClass RX4 = some m.cls := findClass_of_methodNamed B.named
  have hlocks := B.notSynchronized
  subst hsz
  have hD := hD0
  generalize hAe : (fun _ : Nat => True) = A at hD
  have hl := lv_entry ([.ref mo, .int a]) (n := 2) (Nat.le_of_ble_eq_true rfl)
  rw [lg_entry_eq]
  generalize (lg_sl ([.ref mo, .int a]) ++ List.replicate (2 - (lg_sl ([.ref mo, .int a])).length) Slot.unset).toArray = ls at hl ⊢
  have hl : lv_has ls 2 [(0, .ref mo), (1, .int a)] := hl
  have hP : va_P D vwCl ([(mo, .inr (4, [.int 0, .int 0, .ref kT, .int 20, .int 60, .int 2000, .int 0, .int 0, .ref tb, .ref ld, .int 0, .ref lK, .ref lC, .int 0]))]) s.heap := hP
  generalize hRe : (headSpec _ _).room = R
  have hRf : R.frames = 2 := by rw [← hRe]; rfl
  have hRc : R.cells = 0 := by rw [← hRe]; rfl
  have hRs : R.slots = 0 := by rw [← hRe]; rfl
  have hRl : R.locals = 60 := by rw [← hRe]; rfl
  clear hRe
  refine lv_iload_n hx hb dX4_isItem_0 rfl (lv_at hl 1 rfl) ?_
  refine lv_iconst (v := 0) hx hb dX4_isItem_1 (by decide) ?_
  refine lv_aload_n hx hb dX4_isItem_2 rfl (lv_at hl 0 rfl) ?_
  refine va_get (D := D) (ci := 4) (v := .int 0) (C := RX4) (T := TX4) (N := 14) hx hb hts (fun _ h9 => List.mem_cons_of_mem _ (List.mem_append_right _ h9)) hown hK hP 0 rfl rfl 7 (by decide) (hts (.fieldLink RX4 59 "PalletStackModel" "came" "I") (List.mem_of_getElem? (i := 1) (by rfl))) (fun _ h9 => h9) rfl dX4_isItem_3 ?_
  refine lv_iconst (v := 1) hx hb dX4_isItem_6 (by decide) ?_
  refine lv_isub hx hb dX4_isItem_7 ?_
  refine lv_topi (fun v_14 ev_14 => ?_)
  obtain rfl : v_14 = (-1) := ev_14.trans (by decide)
  refine zrdS (As := [.int a, .int 0, .int (-1)]) (rest := []) (wc := []) ⟨hx, hb, hml, hown, hts⟩ (c_isIn l D _ a 0 (-1)) (va_cwS 3 hts gX4_isItem_X4_isIn rfl rfl rfl (by decide +kernel) ⟨by rw [hRf]; exact Nat.le_of_ble_eq_true rfl, by rw [hRl]; exact Nat.le_of_ble_eq_true rfl⟩) hK hP hD [] rfl (by decide) [] rfl rfl hl.1 rfl (Nat.le_of_ble_eq_true rfl) dX4_isItem_8 ⟨by omega, by omega⟩ (fun r_15 hr_15 => ?_)
  refine lv_topi (fun v_16 ev_16 => ?_)
  obtain rfl : v_16 = 0 := ev_16.trans (hr_15.trans (if_neg (fun h9 => absurd (Int32.le_trans h9.1 h9.2) (by decide))))
  refine lv_if_eq (tgt := 26) hx hb dX4_isItem_11 (by decide) (fun c_17 => ?_) (fun c_17 => absurd (rfl) c_17)
  refine lv_iconst (v := 0) hx hb dX4_isItem_26 (by decide) ?_
  exact W.zret (ty := .boolean) (v := 0) hx hb hr rfl (fun t ht hW => ⟨0, rfl, rfl, ht⟩) (fun _ h => by cases h) dX4_isItem_27
set_option maxHeartbeats 4000000 in
set_option maxRecDepth 100000 in
theorem c_fail (l : Launch) (D : zG) (sz : Nat) (mo kT tb ld lK lC : Nat) (t n : Int32) : Met l yX4_fail wsX4_fail ({ frames := 0, cells := 0, slots := 0, locals := 0 }) (zPc D [] ([(mo, .inr (4, [.int t, .int 0, .ref kT, .int 20, .int 60, .int 2000, .int 0, .int 0, .ref tb, .ref ld, .int 0, .ref lK, .ref lC, .int 0]))]) sz [.ref mo, .int n]) (va_Qi (fun (r : Int32) (u : Unit) => r = 0) (zB D (va_A ([(mo, .inr (4, [.int t, .int 0, .ref kT, .int 20, .int 60, .int 2000, .int 0, .int 0, .ref tb, .ref ld, .int 0, .ref lK, .ref lC, .int 0]))]) sz) (fun _ => []) 0 (fun _ => [(mo, .inr (4, [.int n, .int 0, .ref kT, .int 20, .int 60, .int 2000, .int 0, .int 0, .ref tb, .ref ld, .int 0, .ref lK, .ref lC, .int 0]))])) (va_A ([(mo, .inr (4, [.int t, .int 0, .ref kT, .int 20, .int 60, .int 2000, .int 0, .int 0, .ref tb, .ref ld, .int 0, .ref lK, .ref lC, .int 0]))]) sz)) 0 0 (va_A ([(mo, .inr (4, [.int t, .int 0, .ref kT, .int 20, .int 60, .int 2000, .int 0, .int 0, .ref tb, .ref ld, .int 0, .ref lK, .ref lC, .int 0]))]) sz) := by
  refine Met.ofW (cc := cX4_fail) (maxL := 2) (ret := (some .int)) (by decide) rfl ?_
  intro p e s m args below meth c s₁ B hml hv
  obtain ⟨rfl, hsz, hP, hK, hD0⟩ := hv
  have hx := B.exec
  have hb := B.bytes
  have hr := B.returns
  have hts := atoms_spec (ws := wsX4_fail) B.pre
  have hown : s.vm.findClass RX4 = some m.cls := findClass_of_methodNamed B.named
  have hlocks := B.notSynchronized
  subst hsz
  have hD := hD0.self (sz := s.heap.size)
  generalize hAe : va_A ([(mo, .inr (4, [.int t, .int 0, .ref kT, .int 20, .int 60, .int 2000, .int 0, .int 0, .ref tb, .ref ld, .int 0, .ref lK, .ref lC, .int 0]))]) s.heap.size = A at hD ⊢
  have hA : ∀ q : Nat, s.heap.size ≤ q → A q := fun q h => by rw [← hAe]; exact Or.inr h
  have hS : va_S A s.heap s.heap [] := va_S.rf
  have hl := lv_entry ([.ref mo, .int n]) (n := 2) (Nat.le_of_ble_eq_true rfl)
  rw [lg_entry_eq]
  generalize (lg_sl ([.ref mo, .int n]) ++ List.replicate (2 - (lg_sl ([.ref mo, .int n])).length) Slot.unset).toArray = ls at hl ⊢
  have hl : lv_has ls 2 [(0, .ref mo), (1, .int n)] := hl
  have hP : va_P D vwCl ([(mo, .inr (4, [.int t, .int 0, .ref kT, .int 20, .int 60, .int 2000, .int 0, .int 0, .ref tb, .ref ld, .int 0, .ref lK, .ref lC, .int 0]))]) s.heap := hP
  generalize hRe : (headSpec _ _).room = R
  have hRf : R.frames = 0 := by rw [← hRe]; rfl
  have hRc : R.cells = 0 := by rw [← hRe]; rfl
  have hRs : R.slots = 0 := by rw [← hRe]; rfl
  have hRl : R.locals = 0 := by rw [← hRe]; rfl
  clear hRe
  refine lv_aload_n hx hb dX4_fail_0 rfl (lv_at hl 0 rfl) ?_
  refine lv_iload_n hx hb dX4_fail_1 rfl (lv_at hl 1 rfl) ?_
  refine va_put (D := D) (ci := 4) (v := .int n) (ty := .int) (C := RX4) (T := TX4) (N := 14) hx hb hts (fun _ h9 => List.mem_cons_of_mem _ (List.mem_append_right _ h9)) tyX4 tyX4_ok nmX4 hown hK hP hD hS 0 rfl rfl 0 (by decide) (hts (.fieldLink RX4 35 "PalletStackModel" "thrown" "I") (List.mem_of_getElem? (i := 1) (by rfl))) (fun _ h9 => h9) rfl (by decide +kernel) rfl rfl (Nat.le_of_ble_eq_true rfl) dX4_fail_2 (fun H locs hP hD hS => ?_)
  have hP : va_P D vwCl ([(mo, .inr (4, [.int n, .int 0, .ref kT, .int 20, .int 60, .int 2000, .int 0, .int 0, .ref tb, .ref ld, .int 0, .ref lK, .ref lC, .int 0]))]) H := hP
  have hD : va_D A ([(mo, .inr (4, [.int n, .int 0, .ref kT, .int 20, .int 60, .int 2000, .int 0, .int 0, .ref tb, .ref ld, .int 0, .ref lK, .ref lC, .int 0]))]) := hD
  refine lv_iconst (v := 0) hx hb dX4_fail_5 (by decide) ?_
  exact W.iret (v := 0) hx hb hr (fun t ht hW => ⟨⟨0, (), rfl, rfl, ⟨Nat.zero_le _, by rw [ht]; exact hP, va_K.moved hW.alike (hK.sub (tys' := []) [] rfl), hD⟩⟩, hS.F ht⟩) hS.2.2 dX4_fail_6
set_option maxHeartbeats 4000000 in
set_option maxRecDepth 100000 in
theorem c_thrown (l : Launch) (D : zG) (sz : Nat) (mo : Nat) (fs : List Value) (tv : Int32) (hfs : fs[0]? = some (.int tv)) : Met l yX4_thrown wsX4_thrown ({ frames := 0, cells := 0, slots := 0, locals := 0 }) (zPc D [] ([(mo, .inr (4, fs))]) sz [.ref mo]) (vp_Si (fun r => r = tv)) 0 0 (fun _ => False) := by
  refine Met.ofW (cc := cX4_thrown) (maxL := 1) (ret := (some .int)) (by decide) rfl ?_
  intro p e s m args below meth c s₁ B hml hv
  obtain ⟨rfl, hsz, hP, hK, hD0⟩ := hv
  have hx := B.exec
  have hb := B.bytes
  have hr := B.returns
  have hts := atoms_spec (ws := wsX4_thrown) B.pre
  have hown : s.vm.findClass RX4 = some m.cls := findClass_of_methodNamed B.named
  have hlocks := B.notSynchronized
  subst hsz
  have hD := hD0
  generalize hAe : (fun _ : Nat => True) = A at hD
  have hl := lv_entry ([.ref mo]) (n := 1) (Nat.le_of_ble_eq_true rfl)
  rw [lg_entry_eq]
  generalize (lg_sl ([.ref mo]) ++ List.replicate (1 - (lg_sl ([.ref mo])).length) Slot.unset).toArray = ls at hl ⊢
  have hl : lv_has ls 1 [(0, .ref mo)] := hl
  have hP : va_P D vwCl ([(mo, .inr (4, fs))]) s.heap := hP
  generalize hRe : (headSpec _ _).room = R
  have hRf : R.frames = 0 := by rw [← hRe]; rfl
  have hRc : R.cells = 0 := by rw [← hRe]; rfl
  have hRs : R.slots = 0 := by rw [← hRe]; rfl
  have hRl : R.locals = 0 := by rw [← hRe]; rfl
  clear hRe
  refine lv_aload_n hx hb dX4_thrown_0 rfl (lv_at hl 0 rfl) ?_
  refine va_get (D := D) (ci := 4) (v := .int tv) (C := RX4) (T := TX4) (N := 14) hx hb hts (fun _ h9 => List.mem_cons_of_mem _ (List.mem_append_right _ h9)) hown hK hP 0 rfl rfl 0 (by decide) (hts (.fieldLink RX4 35 "PalletStackModel" "thrown" "I") (List.mem_of_getElem? (i := 1) (by rfl))) (fun _ h9 => h9) hfs dX4_thrown_1 ?_
  exact W.iret (v := tv) hx hb hr (fun t ht hW => ⟨tv, rfl, rfl, ht⟩) (fun _ h => by cases h) dX4_thrown_4
set_option maxHeartbeats 4000000 in
set_option maxRecDepth 100000 in
theorem c_present0 (l : Launch) (D : zG) (sz : Nat) (mo kT tb ld lK lC : Nat) : Met l yX4_present wsX4_present ({ frames := 1, cells := 0, slots := 0, locals := 25 }) (zPc D [] ([(mo, .inr (4, [.int 0, .int 0, .ref kT, .int 20, .int 60, .int 2000, .int 0, .int 0, .ref tb, .ref ld, .int 0, .ref lK, .ref lC, .int 0]))]) sz [.ref mo]) (vp_Si (fun r => r = 0)) 0 0 (fun _ => False) := by
  refine Met.ofW (cc := cX4_present) (maxL := 3) (ret := (some .int)) (by decide) rfl ?_
  intro p e s m args below meth c s₁ B hml hv
  obtain ⟨rfl, hsz, hP, hK, hD0⟩ := hv
  have hx := B.exec
  have hb := B.bytes
  have hr := B.returns
  have hts := atoms_spec (ws := wsX4_present) B.pre
  have hown : s.vm.findClass RX4 = some m.cls := findClass_of_methodNamed B.named
  have hlocks := B.notSynchronized
  subst hsz
  have hD := hD0
  generalize hAe : (fun _ : Nat => True) = A at hD
  have hl := lv_entry ([.ref mo]) (n := 3) (Nat.le_of_ble_eq_true rfl)
  rw [lg_entry_eq]
  generalize (lg_sl ([.ref mo]) ++ List.replicate (3 - (lg_sl ([.ref mo])).length) Slot.unset).toArray = ls at hl ⊢
  have hl : lv_has ls 3 [(0, .ref mo)] := hl
  have hP : va_P D vwCl ([(mo, .inr (4, [.int 0, .int 0, .ref kT, .int 20, .int 60, .int 2000, .int 0, .int 0, .ref tb, .ref ld, .int 0, .ref lK, .ref lC, .int 0]))]) s.heap := hP
  generalize hRe : (headSpec _ _).room = R
  have hRf : R.frames = 1 := by rw [← hRe]; rfl
  have hRc : R.cells = 0 := by rw [← hRe]; rfl
  have hRs : R.slots = 0 := by rw [← hRe]; rfl
  have hRl : R.locals = 25 := by rw [← hRe]; rfl
  clear hRe
  refine lv_iconst (v := 0) hx hb dX4_present_0 (by decide) ?_
  refine lv_istore_n (lv' := [(1, .int 0), (0, .ref mo)]) hx hb dX4_present_1 rfl hl (by decide) rfl (fun ls hl => ?_)
  refine lv_iconst (v := 0) hx hb dX4_present_2 (by decide) ?_
  refine lv_istore_n (lv' := [(2, .int 0), (1, .int 0), (0, .ref mo)]) hx hb dX4_present_3 rfl hl (by decide) rfl (fun ls hl => ?_)
  refine lv_iload_n hx hb dX4_present_4 rfl (lv_at hl 0 rfl) ?_
  refine lv_aload_n hx hb dX4_present_5 rfl (lv_at hl 2 rfl) ?_
  refine va_get (D := D) (ci := 4) (v := .int 0) (C := RX4) (T := TX4) (N := 14) hx hb hts (fun _ h9 => List.mem_cons_of_mem _ (List.mem_append_right _ h9)) hown hK hP 0 rfl rfl 7 (by decide) (hts (.fieldLink RX4 59 "PalletStackModel" "came" "I") (List.mem_of_getElem? (i := 1) (by rfl))) (fun _ h9 => h9) rfl dX4_present_6 ?_
  refine lv_icmp_ge (tgt := 34) hx hb dX4_present_9 (by decide) (fun c_18 => ?_) (fun c_18 => absurd (Int32.le_refl _) c_18)
  refine lv_iload_n hx hb dX4_present_34 rfl (lv_at hl 1 rfl) ?_
  exact W.iret (v := 0) hx hb hr (fun t ht hW => ⟨0, rfl, rfl, ht⟩) (fun _ h => by cases h) dX4_present_35
set_option maxHeartbeats 4000000 in
set_option maxRecDepth 100000 in
theorem c_counted0_0 (l : Launch) (D : zG) (sz : Nat) (mo kT tb ld lK lC : Nat) : Met l yX4_counted wsX4_counted ({ frames := 2, cells := 0, slots := 0, locals := 60 }) (zPc D [] ([(mo, .inr (4, [.int 0, .int 0, .ref kT, .int 20, .int 60, .int 2000, .int 0, .int 0, .ref tb, .ref ld, .int 0, .ref lK, .ref lC, .int 0]))]) sz [.ref mo, .int 0]) (vp_Si (fun r => r = 0)) 0 0 (fun _ => False) := by
  refine Met.ofW (cc := cX4_counted) (maxL := 2) (ret := (some .int)) (by decide) rfl ?_
  intro p e s m args below meth c s₁ B hml hv
  obtain ⟨rfl, hsz, hP, hK, hD0⟩ := hv
  have hx := B.exec
  have hb := B.bytes
  have hr := B.returns
  have hts := atoms_spec (ws := wsX4_counted) B.pre
  have hown : s.vm.findClass RX4 = some m.cls := findClass_of_methodNamed B.named
  have hlocks := B.notSynchronized
  subst hsz
  have hD := hD0
  generalize hAe : (fun _ : Nat => True) = A at hD
  have hl := lv_entry ([.ref mo, .int 0]) (n := 2) (Nat.le_of_ble_eq_true rfl)
  rw [lg_entry_eq]
  generalize (lg_sl ([.ref mo, .int 0]) ++ List.replicate (2 - (lg_sl ([.ref mo, .int 0])).length) Slot.unset).toArray = ls at hl ⊢
  have hl : lv_has ls 2 [(0, .ref mo), (1, .int 0)] := hl
  have hP : va_P D vwCl ([(mo, .inr (4, [.int 0, .int 0, .ref kT, .int 20, .int 60, .int 2000, .int 0, .int 0, .ref tb, .ref ld, .int 0, .ref lK, .ref lC, .int 0]))]) s.heap := hP
  generalize hRe : (headSpec _ _).room = R
  have hRf : R.frames = 2 := by rw [← hRe]; rfl
  have hRc : R.cells = 0 := by rw [← hRe]; rfl
  have hRs : R.slots = 0 := by rw [← hRe]; rfl
  have hRl : R.locals = 60 := by rw [← hRe]; rfl
  clear hRe
  refine lv_iload_n hx hb dX4_counted_0 rfl (lv_at hl 1 rfl) ?_
  refine lv_if_ne (tgt := 11) hx hb dX4_counted_1 (by decide) (fun c_19 => absurd (rfl) c_19) (fun c_19 => ?_)
  refine lv_aload_n hx hb dX4_counted_4 rfl (lv_at hl 0 rfl) ?_
  refine va_get (D := D) (ci := 4) (v := .int 0) (C := RX4) (T := TX4) (N := 14) hx hb hts (fun _ h9 => List.mem_cons_of_mem _ (List.mem_append_right _ h9)) hown hK hP 0 rfl rfl 1 (by decide) (hts (.fieldLink RX4 38 "PalletStackModel" "kinds" "I") (List.mem_of_getElem? (i := 1) (by rfl))) (fun _ h9 => h9) rfl dX4_counted_5 ?_
  refine lv_goto (tgt := 39) hx hb dX4_counted_8 (by decide) ?_
  exact W.iret (v := 0) hx hb hr (fun t ht hW => ⟨0, rfl, rfl, ht⟩) (fun _ h => by cases h) dX4_counted_39
set_option maxHeartbeats 4000000 in
set_option maxRecDepth 100000 in
theorem c_counted0_1 (l : Launch) (D : zG) (sz : Nat) (mo kT tb ld lK lC : Nat) : Met l yX4_counted wsX4_counted ({ frames := 2, cells := 0, slots := 0, locals := 60 }) (zPc D [] ([(mo, .inr (4, [.int 0, .int 0, .ref kT, .int 20, .int 60, .int 2000, .int 0, .int 0, .ref tb, .ref ld, .int 0, .ref lK, .ref lC, .int 0]))]) sz [.ref mo, .int 1]) (vp_Si (fun r => r = 0)) 0 0 (fun _ => False) := by
  refine Met.ofW (cc := cX4_counted) (maxL := 2) (ret := (some .int)) (by decide) rfl ?_
  intro p e s m args below meth c s₁ B hml hv
  obtain ⟨rfl, hsz, hP, hK, hD0⟩ := hv
  have hx := B.exec
  have hb := B.bytes
  have hr := B.returns
  have hts := atoms_spec (ws := wsX4_counted) B.pre
  have hown : s.vm.findClass RX4 = some m.cls := findClass_of_methodNamed B.named
  have hlocks := B.notSynchronized
  subst hsz
  have hD := hD0
  generalize hAe : (fun _ : Nat => True) = A at hD
  have hl := lv_entry ([.ref mo, .int 1]) (n := 2) (Nat.le_of_ble_eq_true rfl)
  rw [lg_entry_eq]
  generalize (lg_sl ([.ref mo, .int 1]) ++ List.replicate (2 - (lg_sl ([.ref mo, .int 1])).length) Slot.unset).toArray = ls at hl ⊢
  have hl : lv_has ls 2 [(0, .ref mo), (1, .int 1)] := hl
  have hP : va_P D vwCl ([(mo, .inr (4, [.int 0, .int 0, .ref kT, .int 20, .int 60, .int 2000, .int 0, .int 0, .ref tb, .ref ld, .int 0, .ref lK, .ref lC, .int 0]))]) s.heap := hP
  generalize hRe : (headSpec _ _).room = R
  have hRf : R.frames = 2 := by rw [← hRe]; rfl
  have hRc : R.cells = 0 := by rw [← hRe]; rfl
  have hRs : R.slots = 0 := by rw [← hRe]; rfl
  have hRl : R.locals = 60 := by rw [← hRe]; rfl
  clear hRe
  refine lv_iload_n hx hb dX4_counted_0 rfl (lv_at hl 1 rfl) ?_
  refine lv_if_ne (tgt := 11) hx hb dX4_counted_1 (by decide) (fun c_20 => ?_) (fun c_20 => absurd c_20 (by decide))
  refine lv_iload_n hx hb dX4_counted_11 rfl (lv_at hl 1 rfl) ?_
  refine lv_iconst (v := 1) hx hb dX4_counted_12 (by decide) ?_
  refine lv_icmp_ne (tgt := 23) hx hb dX4_counted_13 (by decide) (fun c_21 => absurd (rfl) c_21) (fun c_21 => ?_)
  refine lv_aload_n hx hb dX4_counted_16 rfl (lv_at hl 0 rfl) ?_
  refine zrdV (As := []) (rest := []) (wc := [(mo, .inr (4, [.int 0, .int 0, .ref kT, .int 20, .int 60, .int 2000, .int 0, .int 0, .ref tb, .ref ld, .int 0, .ref lK, .ref lC, .int 0]))]) ⟨hx, hb, hml, hown, hts⟩ (c_present0 l D _ mo kT tb ld lK lC) (cwV 0 hts gX4_counted_X4_present rfl rfl rfl (by decide +kernel) ⟨by rw [hRf]; exact Nat.le_of_ble_eq_true rfl, by rw [hRl]; exact Nat.le_of_ble_eq_true rfl⟩) hK hP hD [0] rfl (by decide) [] rfl (ci := 4) (q0 := 0) rfl rfl rfl hl.1 rfl (Nat.le_of_ble_eq_true rfl) dX4_counted_17 ⟨by omega, by omega⟩ (fun r_22 hr_22 => ?_)
  refine lv_topi (fun v_23 ev_23 => ?_)
  obtain rfl : v_23 = 0 := ev_23.trans hr_22
  refine lv_goto (tgt := 39) hx hb dX4_counted_20 (by decide) ?_
  exact W.iret (v := 0) hx hb hr (fun t ht hW => ⟨0, rfl, rfl, ht⟩) (fun _ h => by cases h) dX4_counted_39
set_option maxHeartbeats 4000000 in
set_option maxRecDepth 100000 in
theorem c_counted0_2 (l : Launch) (D : zG) (sz : Nat) (mo kT tb ld lK lC : Nat) : Met l yX4_counted wsX4_counted ({ frames := 2, cells := 0, slots := 0, locals := 60 }) (zPc D [] ([(mo, .inr (4, [.int 0, .int 0, .ref kT, .int 20, .int 60, .int 2000, .int 0, .int 0, .ref tb, .ref ld, .int 0, .ref lK, .ref lC, .int 0]))]) sz [.ref mo, .int 2]) (vp_Si (fun r => r = 0)) 0 0 (fun _ => False) := by
  refine Met.ofW (cc := cX4_counted) (maxL := 2) (ret := (some .int)) (by decide) rfl ?_
  intro p e s m args below meth c s₁ B hml hv
  obtain ⟨rfl, hsz, hP, hK, hD0⟩ := hv
  have hx := B.exec
  have hb := B.bytes
  have hr := B.returns
  have hts := atoms_spec (ws := wsX4_counted) B.pre
  have hown : s.vm.findClass RX4 = some m.cls := findClass_of_methodNamed B.named
  have hlocks := B.notSynchronized
  subst hsz
  have hD := hD0
  generalize hAe : (fun _ : Nat => True) = A at hD
  have hl := lv_entry ([.ref mo, .int 2]) (n := 2) (Nat.le_of_ble_eq_true rfl)
  rw [lg_entry_eq]
  generalize (lg_sl ([.ref mo, .int 2]) ++ List.replicate (2 - (lg_sl ([.ref mo, .int 2])).length) Slot.unset).toArray = ls at hl ⊢
  have hl : lv_has ls 2 [(0, .ref mo), (1, .int 2)] := hl
  have hP : va_P D vwCl ([(mo, .inr (4, [.int 0, .int 0, .ref kT, .int 20, .int 60, .int 2000, .int 0, .int 0, .ref tb, .ref ld, .int 0, .ref lK, .ref lC, .int 0]))]) s.heap := hP
  generalize hRe : (headSpec _ _).room = R
  have hRf : R.frames = 2 := by rw [← hRe]; rfl
  have hRc : R.cells = 0 := by rw [← hRe]; rfl
  have hRs : R.slots = 0 := by rw [← hRe]; rfl
  have hRl : R.locals = 60 := by rw [← hRe]; rfl
  clear hRe
  refine lv_iload_n hx hb dX4_counted_0 rfl (lv_at hl 1 rfl) ?_
  refine lv_if_ne (tgt := 11) hx hb dX4_counted_1 (by decide) (fun c_24 => ?_) (fun c_24 => absurd c_24 (by decide))
  refine lv_iload_n hx hb dX4_counted_11 rfl (lv_at hl 1 rfl) ?_
  refine lv_iconst (v := 1) hx hb dX4_counted_12 (by decide) ?_
  refine lv_icmp_ne (tgt := 23) hx hb dX4_counted_13 (by decide) (fun c_25 => ?_) (fun c_25 => absurd c_25 (by decide))
  refine lv_iload_n hx hb dX4_counted_23 rfl (lv_at hl 1 rfl) ?_
  refine lv_iconst (v := 2) hx hb dX4_counted_24 (by decide) ?_
  refine lv_icmp_ne (tgt := 35) hx hb dX4_counted_25 (by decide) (fun c_26 => absurd (rfl) c_26) (fun c_26 => ?_)
  refine lv_aload_n hx hb dX4_counted_28 rfl (lv_at hl 0 rfl) ?_
  refine va_get (D := D) (ci := 4) (v := .int 0) (C := RX4) (T := TX4) (N := 14) hx hb hts (fun _ h9 => List.mem_cons_of_mem _ (List.mem_append_right _ h9)) hown hK hP 0 rfl rfl 7 (by decide) (hts (.fieldLink RX4 59 "PalletStackModel" "came" "I") (List.mem_of_getElem? (i := 2) (by rfl))) (fun _ h9 => h9) rfl dX4_counted_29 ?_
  refine lv_goto (tgt := 39) hx hb dX4_counted_32 (by decide) ?_
  exact W.iret (v := 0) hx hb hr (fun t ht hW => ⟨0, rfl, rfl, ht⟩) (fun _ h => by cases h) dX4_counted_39
set_option maxHeartbeats 4000000 in
set_option maxRecDepth 100000 in
theorem c_counted0_3 (l : Launch) (D : zG) (sz : Nat) (mo kT tb ld lK lC : Nat) : Met l yX4_counted wsX4_counted ({ frames := 2, cells := 0, slots := 0, locals := 60 }) (zPc D [] ([(mo, .inr (4, [.int 0, .int 0, .ref kT, .int 20, .int 60, .int 2000, .int 0, .int 0, .ref tb, .ref ld, .int 0, .ref lK, .ref lC, .int 0]))]) sz [.ref mo, .int 3]) (vp_Si (fun r => r = 0)) 0 0 (fun _ => False) := by
  refine Met.ofW (cc := cX4_counted) (maxL := 2) (ret := (some .int)) (by decide) rfl ?_
  intro p e s m args below meth c s₁ B hml hv
  obtain ⟨rfl, hsz, hP, hK, hD0⟩ := hv
  have hx := B.exec
  have hb := B.bytes
  have hr := B.returns
  have hts := atoms_spec (ws := wsX4_counted) B.pre
  have hown : s.vm.findClass RX4 = some m.cls := findClass_of_methodNamed B.named
  have hlocks := B.notSynchronized
  subst hsz
  have hD := hD0
  generalize hAe : (fun _ : Nat => True) = A at hD
  have hl := lv_entry ([.ref mo, .int 3]) (n := 2) (Nat.le_of_ble_eq_true rfl)
  rw [lg_entry_eq]
  generalize (lg_sl ([.ref mo, .int 3]) ++ List.replicate (2 - (lg_sl ([.ref mo, .int 3])).length) Slot.unset).toArray = ls at hl ⊢
  have hl : lv_has ls 2 [(0, .ref mo), (1, .int 3)] := hl
  have hP : va_P D vwCl ([(mo, .inr (4, [.int 0, .int 0, .ref kT, .int 20, .int 60, .int 2000, .int 0, .int 0, .ref tb, .ref ld, .int 0, .ref lK, .ref lC, .int 0]))]) s.heap := hP
  generalize hRe : (headSpec _ _).room = R
  have hRf : R.frames = 2 := by rw [← hRe]; rfl
  have hRc : R.cells = 0 := by rw [← hRe]; rfl
  have hRs : R.slots = 0 := by rw [← hRe]; rfl
  have hRl : R.locals = 60 := by rw [← hRe]; rfl
  clear hRe
  refine lv_iload_n hx hb dX4_counted_0 rfl (lv_at hl 1 rfl) ?_
  refine lv_if_ne (tgt := 11) hx hb dX4_counted_1 (by decide) (fun c_27 => ?_) (fun c_27 => absurd c_27 (by decide))
  refine lv_iload_n hx hb dX4_counted_11 rfl (lv_at hl 1 rfl) ?_
  refine lv_iconst (v := 1) hx hb dX4_counted_12 (by decide) ?_
  refine lv_icmp_ne (tgt := 23) hx hb dX4_counted_13 (by decide) (fun c_28 => ?_) (fun c_28 => absurd c_28 (by decide))
  refine lv_iload_n hx hb dX4_counted_23 rfl (lv_at hl 1 rfl) ?_
  refine lv_iconst (v := 2) hx hb dX4_counted_24 (by decide) ?_
  refine lv_icmp_ne (tgt := 35) hx hb dX4_counted_25 (by decide) (fun c_29 => ?_) (fun c_29 => absurd c_29 (by decide))
  refine lv_aload_n hx hb dX4_counted_35 rfl (lv_at hl 0 rfl) ?_
  refine va_get (D := D) (ci := 4) (v := .int 0) (C := RX4) (T := TX4) (N := 14) hx hb hts (fun _ h9 => List.mem_cons_of_mem _ (List.mem_append_right _ h9)) hown hK hP 0 rfl rfl 10 (by decide) (hts (.fieldLink RX4 70 "PalletStackModel" "lines" "I") (List.mem_of_getElem? (i := 3) (by rfl))) (fun _ h9 => h9) rfl dX4_counted_36 ?_
  exact W.iret (v := 0) hx hb hr (fun t ht hW => ⟨0, rfl, rfl, ht⟩) (fun _ h => by cases h) dX4_counted_39
theorem c_counted0 (l : Launch) (D : zG) (sz : Nat) (mo kT tb ld lK lC : Nat) (a : Int32) (ha : 0 ≤ a ∧ a ≤ 3) : Met l yX4_counted wsX4_counted ({ frames := 2, cells := 0, slots := 0, locals := 60 }) (zPc D [] ([(mo, .inr (4, [.int 0, .int 0, .ref kT, .int 20, .int 60, .int 2000, .int 0, .int 0, .ref tb, .ref ld, .int 0, .ref lK, .ref lC, .int 0]))]) sz [.ref mo, .int a]) (vp_Si (fun r => r = 0)) 0 0 (fun _ => False) := by
  rcases z03 ha with rfl | rfl | rfl | rfl
  · exact c_counted0_0 l D sz mo kT tb ld lK lC
  · exact c_counted0_1 l D sz mo kT tb ld lK lC
  · exact c_counted0_2 l D sz mo kT tb ld lK lC
  · exact c_counted0_3 l D sz mo kT tb ld lK lC
set_option maxHeartbeats 4000000 in
set_option maxRecDepth 100000 in
theorem c_isHere0 (l : Launch) (D : zG) (sz : Nat) (mo kT tb ld lK lC : Nat) (e2 : ClassId) (i : Nat) (hi : i < 61) : Met l yX4_isHere wsX4_isHere ({ frames := 0, cells := 0, slots := 0, locals := 0 }) (zPc D [(e2, .int)] ([(mo, .inr (4, [.int 0, .int 0, .ref kT, .int 20, .int 60, .int 2000, .int 0, .int 0, .ref tb, .ref ld, .int 0, .ref lK, .ref lC, .int 0])), (tb, .inl (e2, 366, .inl (fun _ => 0)))]) sz [.ref mo, .int (nI i)]) (vp_Si (fun r => r = 0)) 0 0 (fun _ => False) := by
  refine Met.ofW (cc := cX4_isHere) (maxL := 2) (ret := (some .boolean)) (by decide) rfl ?_
  intro p e s m args below meth c s₁ B hml hv
  obtain ⟨rfl, hsz, hP, hK, hD0⟩ := hv
  have hx := B.exec
  have hb := B.bytes
  have hr := B.returns
  have hts := atoms_spec (ws := wsX4_isHere) B.pre
  have hown : s.vm.findClass RX4 = some m.cls := findClass_of_methodNamed B.named
  have hlocks := B.notSynchronized
  subst hsz
  have hD := hD0
  generalize hAe : (fun _ : Nat => True) = A at hD
  have hl := lv_entry ([.ref mo, .int (nI i)]) (n := 2) (Nat.le_of_ble_eq_true rfl)
  rw [lg_entry_eq]
  generalize (lg_sl ([.ref mo, .int (nI i)]) ++ List.replicate (2 - (lg_sl ([.ref mo, .int (nI i)])).length) Slot.unset).toArray = ls at hl ⊢
  have hl : lv_has ls 2 [(0, .ref mo), (1, .int (nI i))] := hl
  have hP : va_P D vwCl ([(mo, .inr (4, [.int 0, .int 0, .ref kT, .int 20, .int 60, .int 2000, .int 0, .int 0, .ref tb, .ref ld, .int 0, .ref lK, .ref lC, .int 0])), (tb, .inl (e2, 366, .inl (fun _ => 0)))]) s.heap := hP
  generalize hRe : (headSpec _ _).room = R
  have hRf : R.frames = 0 := by rw [← hRe]; rfl
  have hRc : R.cells = 0 := by rw [← hRe]; rfl
  have hRs : R.slots = 0 := by rw [← hRe]; rfl
  have hRl : R.locals = 0 := by rw [← hRe]; rfl
  clear hRe
  refine lv_aload_n hx hb dX4_isHere_0 rfl (lv_at hl 0 rfl) ?_
  refine va_get (D := D) (ci := 4) (v := .ref tb) (C := RX4) (T := TX4) (N := 14) hx hb hts (fun _ h9 => List.mem_cons_of_mem _ (List.mem_append_right _ h9)) hown hK hP 0 rfl rfl 8 (by decide) (hts (.fieldLink RX4 23 "PalletStackModel" "table" "[I") (List.mem_of_getElem? (i := 1) (by rfl))) (fun _ h9 => h9) rfl dX4_isHere_1 ?_
  refine lv_bipush (v := 6) hx hb dX4_isHere_4 (by decide) ?_
  refine lv_iload_n hx hb dX4_isHere_6 rfl (lv_at hl 1 rfl) ?_
  refine lv_imul hx hb dX4_isHere_7 ?_
  refine lv_topi (fun v_30 ev_30 => ?_)
  obtain rfl : v_30 = (nI (6 * i)) := ev_30.trans (pk_mul 6 i)
  refine lv_iconst (v := 5) hx hb dX4_isHere_8 (by decide) ?_
  refine lv_iadd hx hb dX4_isHere_9 ?_
  refine lv_topi (fun v_31 ev_31 => ?_)
  obtain rfl : v_31 = (nI (6 * i + 5)) := ev_31.trans (nI_add _ 5)
  refine va_iald hx hb hK hP 1 0 rfl rfl (vp_in_nI (N := 366) (by omega) (by decide)) dX4_isHere_10 ?_
  refine lv_topi (fun v_32 ev_32 => ?_)
  obtain rfl : v_32 = 0 := ev_32.trans rfl
  refine lv_iconst (v := 1) hx hb dX4_isHere_11 (by decide) ?_
  refine lv_icmp_ne (tgt := 19) hx hb dX4_isHere_12 (by decide) (fun c_33 => ?_) (fun c_33 => absurd c_33 (by decide))
  refine lv_iconst (v := 0) hx hb dX4_isHere_19 (by decide) ?_
  exact W.zret (ty := .boolean) (v := 0) hx hb hr rfl (fun t ht hW => ⟨0, rfl, rfl, ht⟩) (fun _ h => by cases h) dX4_isHere_20
set_option maxHeartbeats 4000000 in
set_option maxRecDepth 100000 in
theorem c_weights0 (l : Launch) (D : zG) (sz : Nat) (mo kT tb ld lK lC : Nat) (e2 : ClassId) : Met l yX4_weights wsX4_weights ({ frames := 1, cells := 0, slots := 0, locals := 25 }) (zPc D [(e2, .int)] ([(mo, .inr (4, [.int 0, .int 0, .ref kT, .int 20, .int 60, .int 2000, .int 0, .int 0, .ref tb, .ref ld, .int 0, .ref lK, .ref lC, .int 0])), (tb, .inl (e2, 366, .inl (fun _ => 0)))]) sz [.ref mo]) (vp_Si (fun r => r = 0)) 0 0 (fun _ => False) := by
  refine Met.ofW (cc := cX4_weights) (maxL := 3) (ret := (some .int)) (by decide) rfl ?_
  intro p e s m args below meth c s₁ B hml hv
  obtain ⟨rfl, hsz, hP, hK, hD0⟩ := hv
  have hx := B.exec
  have hb := B.bytes
  have hr := B.returns
  have hts := atoms_spec (ws := wsX4_weights) B.pre
  have hown : s.vm.findClass RX4 = some m.cls := findClass_of_methodNamed B.named
  have hlocks := B.notSynchronized
  subst hsz
  have hD := hD0
  generalize hAe : (fun _ : Nat => True) = A at hD
  have hl := lv_entry ([.ref mo]) (n := 3) (Nat.le_of_ble_eq_true rfl)
  rw [lg_entry_eq]
  generalize (lg_sl ([.ref mo]) ++ List.replicate (3 - (lg_sl ([.ref mo])).length) Slot.unset).toArray = ls at hl ⊢
  have hl : lv_has ls 3 [(0, .ref mo)] := hl
  have hP : va_P D vwCl ([(mo, .inr (4, [.int 0, .int 0, .ref kT, .int 20, .int 60, .int 2000, .int 0, .int 0, .ref tb, .ref ld, .int 0, .ref lK, .ref lC, .int 0])), (tb, .inl (e2, 366, .inl (fun _ => 0)))]) s.heap := hP
  generalize hRe : (headSpec _ _).room = R
  have hRf : R.frames = 1 := by rw [← hRe]; rfl
  have hRc : R.cells = 0 := by rw [← hRe]; rfl
  have hRs : R.slots = 0 := by rw [← hRe]; rfl
  have hRl : R.locals = 25 := by rw [← hRe]; rfl
  clear hRe
  refine lv_iconst (v := 0) hx hb dX4_weights_0 (by decide) ?_
  refine lv_istore_n (lv' := [(1, .int 0), (0, .ref mo)]) hx hb dX4_weights_1 rfl hl (by decide) rfl (fun ls hl => ?_)
  refine lv_iconst (v := 0) hx hb dX4_weights_2 (by decide) ?_
  refine lv_istore_n (lv' := [(2, .int 0), (1, .int 0), (0, .ref mo)]) hx hb dX4_weights_3 rfl hl (by decide) rfl (fun ls hl => ?_)
  generalize hQe : MQ _ _ _ _ _ _ _ = Q
  have loop : ∀ (k i : Nat), i + k = 61 → ∀ (ls : Array Slot), lv_has ls 3 [(2, .int (nI i)), (1, .int 0), (0, .ref mo)] → W p l e R s m ([.ref mo] : List Value).toArray below meth c s.heap [] 0 0 Q (F0 m 4 ls []) := by
    intro k
    induction k with
    | zero =>
      intro i hi ls hl
      obtain rfl : i = 61 := by omega
      refine lv_iload_n hx hb dX4_weights_4 rfl (lv_at hl 0 rfl) ?_
      refine lv_bipush (v := 60) hx hb dX4_weights_5 (by decide) ?_
      refine lv_icmp_gt (tgt := 36) hx hb dX4_weights_7 (by decide) (fun c_34 => ?_) (fun c_34 => absurd (by decide) c_34)
      refine lv_iload_n hx hb dX4_weights_36 rfl (lv_at hl 1 rfl) ?_
      rw [← hQe]
      exact W.iret (v := 0) hx hb hr (fun t ht hW => ⟨0, rfl, rfl, ht⟩) (fun _ h => by cases h) dX4_weights_37
    | succ k ih =>
      intro i hi ls hl
      refine lv_iload_n hx hb dX4_weights_4 rfl (lv_at hl 0 rfl) ?_
      refine lv_bipush (v := 60) hx hb dX4_weights_5 (by decide) ?_
      refine lv_icmp_gt (tgt := 36) hx hb dX4_weights_7 (by decide) (fun c_35 => absurd c_35 (fun h => absurd (Int32.not_le.mpr h) (not_not_intro ((nI_leI (a := i) (b := 60) (by omega) (by decide)).mpr (by omega))))) (fun c_35 => ?_)
      refine lv_iload_n hx hb dX4_weights_10 rfl (lv_at hl 1 rfl) ?_
      refine lv_aload_n hx hb dX4_weights_11 rfl (lv_at hl 2 rfl) ?_
      refine lv_iload_n hx hb dX4_weights_12 rfl (lv_at hl 0 rfl) ?_
      refine zrdV (As := [.int (nI i)]) (rest := [.int 0]) (wc := [(mo, .inr (4, [.int 0, .int 0, .ref kT, .int 20, .int 60, .int 2000, .int 0, .int 0, .ref tb, .ref ld, .int 0, .ref lK, .ref lC, .int 0])), (tb, .inl (e2, 366, .inl (fun _ => 0)))]) ⟨hx, hb, hml, hown, hts⟩ (c_isHere0 l D _ mo kT tb ld lK lC e2 i (by omega)) (cwV 1 hts gX4_weights_X4_isHere rfl rfl rfl (by decide +kernel) ⟨by rw [hRf]; exact Nat.le_of_ble_eq_true rfl, by rw [hRl]; exact Nat.le_of_ble_eq_true rfl⟩) hK hP hD [0, 1] rfl (by decide) [0] rfl (ci := 4) (q0 := 0) rfl rfl rfl hl.1 rfl (Nat.le_of_ble_eq_true rfl) dX4_weights_13 ⟨by omega, by omega⟩ (fun r_36 hr_36 => ?_)
      refine lv_topi (fun v_37 ev_37 => ?_)
      obtain rfl : v_37 = 0 := ev_37.trans hr_36
      refine lv_if_eq (tgt := 27) hx hb dX4_weights_16 (by decide) (fun c_38 => ?_) (fun c_38 => absurd (rfl) c_38)
      refine lv_iconst (v := 0) hx hb dX4_weights_27 (by decide) ?_
      refine lv_iadd hx hb dX4_weights_28 ?_
      refine lv_topi (fun v_39 ev_39 => ?_)
      obtain rfl : v_39 = 0 := ev_39.trans (by decide)
      refine lv_istore_n (lv' := [(1, .int 0), (2, .int (nI i)), (0, .ref mo)]) hx hb dX4_weights_29 rfl hl (by decide) rfl (fun ls hl => ?_)
      refine lv_iinc (v := (nI (i + 1))) (lv' := [(2, .int (nI (i + 1))), (1, .int 0), (0, .ref mo)]) hx hb dX4_weights_30 hl (k := 1) rfl (nI_1 i) (by decide) rfl (fun ls hl => ?_)
      refine lv_goto (tgt := 4) hx hb dX4_weights_33 (by decide) ?_
      have hl := lv_sub hl (l' := [(2, .int (nI (i + 1))), (1, .int 0), (0, .ref mo)]) [0, 1, 2] rfl
      exact ih (i + 1) (by omega) ls hl
  exact loop 61 0 rfl ls hl
set_option maxHeartbeats 4000000 in
set_option maxRecDepth 100000 in
theorem c_reckon0 (l : Launch) (D : zG) (sz : Nat) (mo kT tb ld lK lC : Nat) (e2 e3 : ClassId) (l0 : Nat → Int32) : Met l yX4_reckonLoads wsX4_reckonLoads ({ frames := 1, cells := 0, slots := 0, locals := 30 }) (zPc D [(e2, .int), (e3, .int)] ([(mo, .inr (4, [.int 0, .int 0, .ref kT, .int 20, .int 60, .int 2000, .int 0, .int 0, .ref tb, .ref ld, .int 0, .ref lK, .ref lC, .int 0])), (tb, .inl (e2, 366, .inl (fun _ => 0))), (ld, .inl (e3, 61, .inl (l0)))]) sz [.ref mo]) (va_Qv (fun (u : Nat → Int32) => True) (zB D (va_A ([(mo, .inr (4, [.int 0, .int 0, .ref kT, .int 20, .int 60, .int 2000, .int 0, .int 0, .ref tb, .ref ld, .int 0, .ref lK, .ref lC, .int 0])), (tb, .inl (e2, 366, .inl (fun _ => 0))), (ld, .inl (e3, 61, .inl (l0)))]) sz) (fun _ => []) 0 (fun u => [(mo, .inr (4, [.int 0, .int 0, .ref kT, .int 20, .int 60, .int 2000, .int 0, .int 0, .ref tb, .ref ld, .int 0, .ref lK, .ref lC, .int 0])), (tb, .inl (e2, 366, .inl (fun _ => 0))), (ld, .inl (e3, 61, .inl (u)))])) (va_A ([(mo, .inr (4, [.int 0, .int 0, .ref kT, .int 20, .int 60, .int 2000, .int 0, .int 0, .ref tb, .ref ld, .int 0, .ref lK, .ref lC, .int 0])), (tb, .inl (e2, 366, .inl (fun _ => 0))), (ld, .inl (e3, 61, .inl (l0)))]) sz)) 0 0 (va_A ([(mo, .inr (4, [.int 0, .int 0, .ref kT, .int 20, .int 60, .int 2000, .int 0, .int 0, .ref tb, .ref ld, .int 0, .ref lK, .ref lC, .int 0])), (tb, .inl (e2, 366, .inl (fun _ => 0))), (ld, .inl (e3, 61, .inl (l0)))]) sz) := by
  refine Met.ofW (cc := cX4_reckonLoads) (maxL := 7) (ret := none) (by decide) rfl ?_
  intro p e s m args below meth c s₁ B hml hv
  obtain ⟨rfl, hsz, hP, hK, hD0⟩ := hv
  have hx := B.exec
  have hb := B.bytes
  have hr := B.returns
  have hts := atoms_spec (ws := wsX4_reckonLoads) B.pre
  have hown : s.vm.findClass RX4 = some m.cls := findClass_of_methodNamed B.named
  have hlocks := B.notSynchronized
  subst hsz
  have hD := hD0.self (sz := s.heap.size)
  generalize hAe : va_A ([(mo, .inr (4, [.int 0, .int 0, .ref kT, .int 20, .int 60, .int 2000, .int 0, .int 0, .ref tb, .ref ld, .int 0, .ref lK, .ref lC, .int 0])), (tb, .inl (e2, 366, .inl (fun _ => 0))), (ld, .inl (e3, 61, .inl (l0)))]) s.heap.size = A at hD ⊢
  have hA : ∀ q : Nat, s.heap.size ≤ q → A q := fun q h => by rw [← hAe]; exact Or.inr h
  have hS : va_S A s.heap s.heap [] := va_S.rf
  have hl := lv_entry ([.ref mo]) (n := 7) (Nat.le_of_ble_eq_true rfl)
  rw [lg_entry_eq]
  generalize (lg_sl ([.ref mo]) ++ List.replicate (7 - (lg_sl ([.ref mo])).length) Slot.unset).toArray = ls at hl ⊢
  have hl : lv_has ls 7 [(0, .ref mo)] := hl
  have hP : va_P D vwCl ([(mo, .inr (4, [.int 0, .int 0, .ref kT, .int 20, .int 60, .int 2000, .int 0, .int 0, .ref tb, .ref ld, .int 0, .ref lK, .ref lC, .int 0])), (tb, .inl (e2, 366, .inl (fun _ => 0))), (ld, .inl (e3, 61, .inl (l0)))]) s.heap := hP
  generalize hRe : (headSpec _ _).room = R
  have hRf : R.frames = 1 := by rw [← hRe]; rfl
  have hRc : R.cells = 0 := by rw [← hRe]; rfl
  have hRs : R.slots = 0 := by rw [← hRe]; rfl
  have hRl : R.locals = 30 := by rw [← hRe]; rfl
  clear hRe
  refine lv_iconst (v := 0) hx hb dX4_reckonLoads_0 (by decide) ?_
  refine lv_istore_n (lv' := [(1, .int 0), (0, .ref mo)]) hx hb dX4_reckonLoads_1 rfl hl (by decide) rfl (fun ls hl => ?_)
  refine lv_iconst (v := 0) hx hb dX4_reckonLoads_2 (by decide) ?_
  refine lv_istore_n (lv' := [(2, .int 0), (1, .int 0), (0, .ref mo)]) hx hb dX4_reckonLoads_3 rfl hl (by decide) rfl (fun ls hl => ?_)
  generalize hQe : MQ _ _ _ _ _ _ _ = Q
  have loop : ∀ (k i : Nat), i + k = 61 → ∀ (l0 : Nat → Int32) (H : Heap) (locs : List Loc) (ls : Array Slot), va_P D vwCl ([(mo, .inr (4, [.int 0, .int 0, .ref kT, .int 20, .int 60, .int 2000, .int 0, .int 0, .ref tb, .ref ld, .int 0, .ref lK, .ref lC, .int 0])), (tb, .inl (e2, 366, .inl (fun _ => 0))), (ld, .inl (e3, 61, .inl (l0)))]) H → va_D A ([(mo, .inr (4, [.int 0, .int 0, .ref kT, .int 20, .int 60, .int 2000, .int 0, .int 0, .ref tb, .ref ld, .int 0, .ref lK, .ref lC, .int 0])), (tb, .inl (e2, 366, .inl (fun _ => 0))), (ld, .inl (e3, 61, .inl (l0)))]) → va_S A s.heap H locs → lv_has ls 7 [(2, .int (nI i)), (1, .int 0), (0, .ref mo)] → W p l e R s m ([.ref mo] : List Value).toArray below meth c H locs 0 0 Q (F0 m 4 ls []) := by
    intro k
    induction k with
    | zero =>
      intro i hi l0 H locs ls hP hD hS hl
      obtain rfl : i = 61 := by omega
      refine lv_iload_n hx hb dX4_reckonLoads_4 rfl (lv_at hl 0 rfl) ?_
      refine lv_bipush (v := 60) hx hb dX4_reckonLoads_5 (by decide) ?_
      refine lv_icmp_gt (tgt := 42) hx hb dX4_reckonLoads_7 (by decide) (fun c_40 => ?_) (fun c_40 => absurd (by decide) c_40)
      refine lv_iload_n hx hb dX4_reckonLoads_42 rfl (lv_at hl 1 rfl) ?_
      refine lv_istore_n (lv' := [(2, .int 0), (1, .int 0), (0, .ref mo)]) hx hb dX4_reckonLoads_43 rfl hl (by decide) rfl (fun ls hl => ?_)
      refine lv_iload_n hx hb dX4_reckonLoads_44 rfl (lv_at hl 0 rfl) ?_
      refine lv_if_le (tgt := 163) hx hb dX4_reckonLoads_45 (by decide) (fun c_41 => ?_) (fun c_41 => absurd (Int32.le_refl _) c_41)
      rw [← hQe]
      exact W.vret hx hb hr (fun t ht hW => ⟨⟨l0, rfl, True.intro, ⟨Nat.zero_le _, by rw [ht]; exact hP, va_K.moved hW.alike (hK.sub (tys' := []) [] rfl), hD⟩⟩, hS.F ht⟩) hS.2.2 dX4_reckonLoads_163
    | succ k ih =>
      intro i hi l0 H locs ls hP hD hS hl
      refine lv_iload_n hx hb dX4_reckonLoads_4 rfl (lv_at hl 0 rfl) ?_
      refine lv_bipush (v := 60) hx hb dX4_reckonLoads_5 (by decide) ?_
      refine lv_icmp_gt (tgt := 42) hx hb dX4_reckonLoads_7 (by decide) (fun c_42 => absurd c_42 (fun h => absurd (Int32.not_le.mpr h) (not_not_intro ((nI_leI (a := i) (b := 60) (by omega) (by decide)).mpr (by omega))))) (fun c_42 => ?_)
      refine lv_aload_n hx hb dX4_reckonLoads_10 rfl (lv_at hl 2 rfl) ?_
      refine va_get (D := D) (ci := 4) (v := .ref ld) (C := RX4) (T := TX4) (N := 14) hx hb hts (fun _ h9 => List.mem_cons_of_mem _ (List.mem_append_right _ h9)) hown hK hP 0 rfl rfl 9 (by decide) (hts (.fieldLink RX4 26 "PalletStackModel" "loads" "[I") (List.mem_of_getElem? (i := 1) (by rfl))) (fun _ h9 => h9) rfl dX4_reckonLoads_11 ?_
      refine lv_iload_n hx hb dX4_reckonLoads_14 rfl (lv_at hl 0 rfl) ?_
      refine lv_iconst (v := 0) hx hb dX4_reckonLoads_15 (by decide) ?_
      refine va_iast hx hb hK hP hD hS 2 1 rfl rfl (vp_in_nI (N := 61) (by omega) (by decide)) dX4_reckonLoads_16 (fun H locs hP hD hS => ?_)
      have hP : va_P D vwCl ([(mo, .inr (4, [.int 0, .int 0, .ref kT, .int 20, .int 60, .int 2000, .int 0, .int 0, .ref tb, .ref ld, .int 0, .ref lK, .ref lC, .int 0])), (tb, .inl (e2, 366, .inl (fun _ => 0))), (ld, .inl (e3, 61, .inl (upd (l0) ((nI i) : Int32).toNatClampNeg 0)))]) H := hP
      have hD : va_D A ([(mo, .inr (4, [.int 0, .int 0, .ref kT, .int 20, .int 60, .int 2000, .int 0, .int 0, .ref tb, .ref ld, .int 0, .ref lK, .ref lC, .int 0])), (tb, .inl (e2, 366, .inl (fun _ => 0))), (ld, .inl (e3, 61, .inl (upd (l0) ((nI i) : Int32).toNatClampNeg 0)))]) := hD
      refine lv_aload_n hx hb dX4_reckonLoads_17 rfl (lv_at hl 2 rfl) ?_
      refine lv_iload_n hx hb dX4_reckonLoads_18 rfl (lv_at hl 0 rfl) ?_
      refine zrdV (As := [.int (nI i)]) (rest := []) (wc := [(mo, .inr (4, [.int 0, .int 0, .ref kT, .int 20, .int 60, .int 2000, .int 0, .int 0, .ref tb, .ref ld, .int 0, .ref lK, .ref lC, .int 0])), (tb, .inl (e2, 366, .inl (fun _ => 0)))]) ⟨hx, hb, hml, hown, hts⟩ (c_isHere0 l D _ mo kT tb ld lK lC e2 i (by omega)) (cwV 1 hts gX4_reckonLoads_X4_isHere rfl rfl rfl (by decide +kernel) ⟨by rw [hRf]; exact Nat.le_of_ble_eq_true rfl, by rw [hRl]; exact Nat.le_of_ble_eq_true rfl⟩) hK hP hD [0, 1] rfl (by decide) [0] rfl (ci := 4) (q0 := 0) rfl rfl rfl hl.1 rfl (Nat.le_of_ble_eq_true rfl) dX4_reckonLoads_19 ⟨by omega, by omega⟩ (fun r_43 hr_43 => ?_)
      refine lv_topi (fun v_44 ev_44 => ?_)
      obtain rfl : v_44 = 0 := ev_44.trans hr_43
      refine lv_if_eq (tgt := 36) hx hb dX4_reckonLoads_22 (by decide) (fun c_45 => ?_) (fun c_45 => absurd (rfl) c_45)
      refine lv_iinc (v := (nI (i + 1))) (lv' := [(2, .int (nI (i + 1))), (1, .int 0), (0, .ref mo)]) hx hb dX4_reckonLoads_36 hl (k := 0) rfl (nI_1 i) (by decide) rfl (fun ls hl => ?_)
      refine lv_goto (tgt := 4) hx hb dX4_reckonLoads_39 (by decide) ?_
      have hl := lv_sub hl (l' := [(2, .int (nI (i + 1))), (1, .int 0), (0, .ref mo)]) [0, 1, 2] rfl
      exact ih (i + 1) (by omega) _ H locs ls hP hD hS hl
  exact loop 61 0 rfl l0 s.heap [] ls hP hD hS hl
set_option maxHeartbeats 4000000 in
set_option maxRecDepth 100000 in
theorem c_sumOfM_0 (l : Launch) (D : zG) (sz : Nat) (mo kT tb ld lK lC : Nat) (e2 e3 : ClassId) (l0 : Nat → Int32) : Met l yX4_sumOf wsX4_sumOf ({ frames := 2, cells := 0, slots := 0, locals := 60 }) (zPc D [(e2, .int), (e3, .int)] ([(mo, .inr (4, [.int 0, .int 0, .ref kT, .int 20, .int 60, .int 2000, .int 0, .int 0, .ref tb, .ref ld, .int 0, .ref lK, .ref lC, .int 0])), (tb, .inl (e2, 366, .inl (fun _ => 0))), (ld, .inl (e3, 61, .inl (l0)))]) sz [.ref mo, .int 0]) (va_Qi (fun (r : Int32) (u : Nat → Int32) => r = 0) (zB D (va_A ([(mo, .inr (4, [.int 0, .int 0, .ref kT, .int 20, .int 60, .int 2000, .int 0, .int 0, .ref tb, .ref ld, .int 0, .ref lK, .ref lC, .int 0])), (tb, .inl (e2, 366, .inl (fun _ => 0))), (ld, .inl (e3, 61, .inl (l0)))]) sz) (fun _ => []) 0 (fun u => [(mo, .inr (4, [.int 0, .int 0, .ref kT, .int 20, .int 60, .int 2000, .int 0, .int 0, .ref tb, .ref ld, .int 0, .ref lK, .ref lC, .int 0])), (tb, .inl (e2, 366, .inl (fun _ => 0))), (ld, .inl (e3, 61, .inl (u)))])) (va_A ([(mo, .inr (4, [.int 0, .int 0, .ref kT, .int 20, .int 60, .int 2000, .int 0, .int 0, .ref tb, .ref ld, .int 0, .ref lK, .ref lC, .int 0])), (tb, .inl (e2, 366, .inl (fun _ => 0))), (ld, .inl (e3, 61, .inl (l0)))]) sz)) 0 0 (va_A ([(mo, .inr (4, [.int 0, .int 0, .ref kT, .int 20, .int 60, .int 2000, .int 0, .int 0, .ref tb, .ref ld, .int 0, .ref lK, .ref lC, .int 0])), (tb, .inl (e2, 366, .inl (fun _ => 0))), (ld, .inl (e3, 61, .inl (l0)))]) sz) := by
  refine Met.ofW (cc := cX4_sumOf) (maxL := 4) (ret := (some .int)) (by decide) rfl ?_
  intro p e s m args below meth c s₁ B hml hv
  obtain ⟨rfl, hsz, hP, hK, hD0⟩ := hv
  have hx := B.exec
  have hb := B.bytes
  have hr := B.returns
  have hts := atoms_spec (ws := wsX4_sumOf) B.pre
  have hown : s.vm.findClass RX4 = some m.cls := findClass_of_methodNamed B.named
  have hlocks := B.notSynchronized
  subst hsz
  have hD := hD0.self (sz := s.heap.size)
  generalize hAe : va_A ([(mo, .inr (4, [.int 0, .int 0, .ref kT, .int 20, .int 60, .int 2000, .int 0, .int 0, .ref tb, .ref ld, .int 0, .ref lK, .ref lC, .int 0])), (tb, .inl (e2, 366, .inl (fun _ => 0))), (ld, .inl (e3, 61, .inl (l0)))]) s.heap.size = A at hD ⊢
  have hA : ∀ q : Nat, s.heap.size ≤ q → A q := fun q h => by rw [← hAe]; exact Or.inr h
  have hS : va_S A s.heap s.heap [] := va_S.rf
  have hl := lv_entry ([.ref mo, .int 0]) (n := 4) (Nat.le_of_ble_eq_true rfl)
  rw [lg_entry_eq]
  generalize (lg_sl ([.ref mo, .int 0]) ++ List.replicate (4 - (lg_sl ([.ref mo, .int 0])).length) Slot.unset).toArray = ls at hl ⊢
  have hl : lv_has ls 4 [(0, .ref mo), (1, .int 0)] := hl
  have hP : va_P D vwCl ([(mo, .inr (4, [.int 0, .int 0, .ref kT, .int 20, .int 60, .int 2000, .int 0, .int 0, .ref tb, .ref ld, .int 0, .ref lK, .ref lC, .int 0])), (tb, .inl (e2, 366, .inl (fun _ => 0))), (ld, .inl (e3, 61, .inl (l0)))]) s.heap := hP
  generalize hRe : (headSpec _ _).room = R
  have hRf : R.frames = 2 := by rw [← hRe]; rfl
  have hRc : R.cells = 0 := by rw [← hRe]; rfl
  have hRs : R.slots = 0 := by rw [← hRe]; rfl
  have hRl : R.locals = 60 := by rw [← hRe]; rfl
  clear hRe
  refine lv_iload_n hx hb dX4_sumOf_0 rfl (lv_at hl 1 rfl) ?_
  refine lv_if_ne (tgt := 9) hx hb dX4_sumOf_1 (by decide) (fun c_46 => absurd (rfl) c_46) (fun c_46 => ?_)
  refine lv_aload_n hx hb dX4_sumOf_4 rfl (lv_at hl 0 rfl) ?_
  refine zrdV (As := []) (rest := []) (wc := [(mo, .inr (4, [.int 0, .int 0, .ref kT, .int 20, .int 60, .int 2000, .int 0, .int 0, .ref tb, .ref ld, .int 0, .ref lK, .ref lC, .int 0])), (tb, .inl (e2, 366, .inl (fun _ => 0)))]) ⟨hx, hb, hml, hown, hts⟩ (c_weights0 l D _ mo kT tb ld lK lC e2) (cwV 0 hts gX4_sumOf_X4_weights rfl rfl rfl (by decide +kernel) ⟨by rw [hRf]; exact Nat.le_of_ble_eq_true rfl, by rw [hRl]; exact Nat.le_of_ble_eq_true rfl⟩) hK hP hD [0, 1] rfl (by decide) [0] rfl (ci := 4) (q0 := 0) rfl rfl rfl hl.1 rfl (Nat.le_of_ble_eq_true rfl) dX4_sumOf_5 ⟨by omega, by omega⟩ (fun r_47 hr_47 => ?_)
  refine lv_topi (fun v_48 ev_48 => ?_)
  obtain rfl : v_48 = 0 := ev_48.trans hr_47
  exact W.iret (v := 0) hx hb hr (fun t ht hW => ⟨⟨0, l0, rfl, rfl, ⟨Nat.zero_le _, by rw [ht]; exact hP, va_K.moved hW.alike (hK.sub (tys' := []) [] rfl), hD⟩⟩, hS.F ht⟩) hS.2.2 dX4_sumOf_8
set_option maxHeartbeats 4000000 in
set_option maxRecDepth 100000 in
theorem c_sumOfM_1 (l : Launch) (D : zG) (sz : Nat) (mo kT tb ld lK lC : Nat) (e2 e3 : ClassId) (l0 : Nat → Int32) : Met l yX4_sumOf wsX4_sumOf ({ frames := 2, cells := 0, slots := 0, locals := 60 }) (zPc D [(e2, .int), (e3, .int)] ([(mo, .inr (4, [.int 0, .int 0, .ref kT, .int 20, .int 60, .int 2000, .int 0, .int 0, .ref tb, .ref ld, .int 0, .ref lK, .ref lC, .int 0])), (tb, .inl (e2, 366, .inl (fun _ => 0))), (ld, .inl (e3, 61, .inl (l0)))]) sz [.ref mo, .int 1]) (va_Qi (fun (r : Int32) (u : Nat → Int32) => r = 0) (zB D (va_A ([(mo, .inr (4, [.int 0, .int 0, .ref kT, .int 20, .int 60, .int 2000, .int 0, .int 0, .ref tb, .ref ld, .int 0, .ref lK, .ref lC, .int 0])), (tb, .inl (e2, 366, .inl (fun _ => 0))), (ld, .inl (e3, 61, .inl (l0)))]) sz) (fun _ => []) 0 (fun u => [(mo, .inr (4, [.int 0, .int 0, .ref kT, .int 20, .int 60, .int 2000, .int 0, .int 0, .ref tb, .ref ld, .int 0, .ref lK, .ref lC, .int 0])), (tb, .inl (e2, 366, .inl (fun _ => 0))), (ld, .inl (e3, 61, .inl (u)))])) (va_A ([(mo, .inr (4, [.int 0, .int 0, .ref kT, .int 20, .int 60, .int 2000, .int 0, .int 0, .ref tb, .ref ld, .int 0, .ref lK, .ref lC, .int 0])), (tb, .inl (e2, 366, .inl (fun _ => 0))), (ld, .inl (e3, 61, .inl (l0)))]) sz)) 0 0 (va_A ([(mo, .inr (4, [.int 0, .int 0, .ref kT, .int 20, .int 60, .int 2000, .int 0, .int 0, .ref tb, .ref ld, .int 0, .ref lK, .ref lC, .int 0])), (tb, .inl (e2, 366, .inl (fun _ => 0))), (ld, .inl (e3, 61, .inl (l0)))]) sz) := by
  refine Met.ofW (cc := cX4_sumOf) (maxL := 4) (ret := (some .int)) (by decide) rfl ?_
  intro p e s m args below meth c s₁ B hml hv
  obtain ⟨rfl, hsz, hP, hK, hD0⟩ := hv
  have hx := B.exec
  have hb := B.bytes
  have hr := B.returns
  have hts := atoms_spec (ws := wsX4_sumOf) B.pre
  have hown : s.vm.findClass RX4 = some m.cls := findClass_of_methodNamed B.named
  have hlocks := B.notSynchronized
  subst hsz
  have hD := hD0.self (sz := s.heap.size)
  generalize hAe : va_A ([(mo, .inr (4, [.int 0, .int 0, .ref kT, .int 20, .int 60, .int 2000, .int 0, .int 0, .ref tb, .ref ld, .int 0, .ref lK, .ref lC, .int 0])), (tb, .inl (e2, 366, .inl (fun _ => 0))), (ld, .inl (e3, 61, .inl (l0)))]) s.heap.size = A at hD ⊢
  have hA : ∀ q : Nat, s.heap.size ≤ q → A q := fun q h => by rw [← hAe]; exact Or.inr h
  have hS : va_S A s.heap s.heap [] := va_S.rf
  have hl := lv_entry ([.ref mo, .int 1]) (n := 4) (Nat.le_of_ble_eq_true rfl)
  rw [lg_entry_eq]
  generalize (lg_sl ([.ref mo, .int 1]) ++ List.replicate (4 - (lg_sl ([.ref mo, .int 1])).length) Slot.unset).toArray = ls at hl ⊢
  have hl : lv_has ls 4 [(0, .ref mo), (1, .int 1)] := hl
  have hP : va_P D vwCl ([(mo, .inr (4, [.int 0, .int 0, .ref kT, .int 20, .int 60, .int 2000, .int 0, .int 0, .ref tb, .ref ld, .int 0, .ref lK, .ref lC, .int 0])), (tb, .inl (e2, 366, .inl (fun _ => 0))), (ld, .inl (e3, 61, .inl (l0)))]) s.heap := hP
  generalize hRe : (headSpec _ _).room = R
  have hRf : R.frames = 2 := by rw [← hRe]; rfl
  have hRc : R.cells = 0 := by rw [← hRe]; rfl
  have hRs : R.slots = 0 := by rw [← hRe]; rfl
  have hRl : R.locals = 60 := by rw [← hRe]; rfl
  clear hRe
  refine lv_iload_n hx hb dX4_sumOf_0 rfl (lv_at hl 1 rfl) ?_
  refine lv_if_ne (tgt := 9) hx hb dX4_sumOf_1 (by decide) (fun c_49 => ?_) (fun c_49 => absurd c_49 (by decide))
  refine lv_iconst (v := 0) hx hb dX4_sumOf_9 (by decide) ?_
  refine lv_istore_n (lv' := [(2, .int 0), (0, .ref mo), (1, .int 1)]) hx hb dX4_sumOf_10 rfl hl (by decide) rfl (fun ls hl => ?_)
  refine lv_aload_n hx hb dX4_sumOf_11 rfl (lv_at hl 1 rfl) ?_
  refine zcallvV (As := []) (rest := []) (wc := [(mo, .inr (4, [.int 0, .int 0, .ref kT, .int 20, .int 60, .int 2000, .int 0, .int 0, .ref tb, .ref ld, .int 0, .ref lK, .ref lC, .int 0])), (tb, .inl (e2, 366, .inl (fun _ => 0))), (ld, .inl (e3, 61, .inl (l0)))]) (wr := []) ⟨hx, hb, hml, hown, hts⟩ (c_reckon0 l D _ mo kT tb ld lK lC e2 e3 l0) (cwV 0 hts gX4_sumOf_X4_reckonLoads rfl rfl rfl (by decide +kernel) ⟨by rw [hRf]; exact Nat.le_of_ble_eq_true rfl, by rw [hRl]; exact Nat.le_of_ble_eq_true rfl⟩) hK hP hD hS hA [0, 1, 2] [] rfl (by decide) rfl (by decide) (by decide) [0, 1] rfl (ci := 4) (q0 := 0) rfl rfl rfl hl.1 rfl (Nat.le_of_ble_eq_true rfl) dX4_sumOf_12 ⟨by omega, by omega⟩ (fun u_51 H locs hwu_51 hnu_51 hzu_51 hK hP hD hS => ?_)
  have hK : va_K D vwCl [(e2, .int), (e3, .int)] s := hK
  have hP : va_P D vwCl ([(mo, .inr (4, [.int 0, .int 0, .ref kT, .int 20, .int 60, .int 2000, .int 0, .int 0, .ref tb, .ref ld, .int 0, .ref lK, .ref lC, .int 0])), (tb, .inl (e2, 366, .inl (fun _ => 0))), (ld, .inl (e3, 61, .inl (u_51)))]) H := hP
  have hD : va_D A ([(mo, .inr (4, [.int 0, .int 0, .ref kT, .int 20, .int 60, .int 2000, .int 0, .int 0, .ref tb, .ref ld, .int 0, .ref lK, .ref lC, .int 0])), (tb, .inl (e2, 366, .inl (fun _ => 0))), (ld, .inl (e3, 61, .inl (u_51)))]) := hD
  refine lv_iconst (v := 0) hx hb dX4_sumOf_15 (by decide) ?_
  refine lv_istore_n (lv' := [(3, .int 0), (2, .int 0), (0, .ref mo), (1, .int 1)]) hx hb dX4_sumOf_16 rfl hl (by decide) rfl (fun ls hl => ?_)
  refine lv_iload_n hx hb dX4_sumOf_17 rfl (lv_at hl 0 rfl) ?_
  refine lv_aload_n hx hb dX4_sumOf_18 rfl (lv_at hl 2 rfl) ?_
  refine va_get (D := D) (ci := 4) (v := .int 0) (C := RX4) (T := TX4) (N := 14) hx hb hts (fun _ h9 => List.mem_cons_of_mem _ (List.mem_append_right _ h9)) hown hK hP 0 rfl rfl 7 (by decide) (hts (.fieldLink RX4 59 "PalletStackModel" "came" "I") (List.mem_of_getElem? (i := 1) (by rfl))) (fun _ h9 => h9) rfl dX4_sumOf_19 ?_
  refine lv_icmp_ge (tgt := 100) hx hb dX4_sumOf_22 (by decide) (fun c_52 => ?_) (fun c_52 => absurd (Int32.le_refl _) c_52)
  refine lv_iload_n hx hb dX4_sumOf_100 rfl (lv_at hl 1 rfl) ?_
  exact W.iret (v := 0) hx hb hr (fun t ht hW => ⟨⟨0, u_51, rfl, rfl, ⟨Nat.zero_le _, by rw [ht]; exact hP, va_K.moved hW.alike (hK.sub (tys' := []) [] rfl), hD⟩⟩, hS.F ht⟩) hS.2.2 dX4_sumOf_101
set_option maxHeartbeats 4000000 in
set_option maxRecDepth 100000 in
theorem c_sumOfM_2 (l : Launch) (D : zG) (sz : Nat) (mo kT tb ld lK lC : Nat) (e2 e3 : ClassId) (l0 : Nat → Int32) : Met l yX4_sumOf wsX4_sumOf ({ frames := 2, cells := 0, slots := 0, locals := 60 }) (zPc D [(e2, .int), (e3, .int)] ([(mo, .inr (4, [.int 0, .int 0, .ref kT, .int 20, .int 60, .int 2000, .int 0, .int 0, .ref tb, .ref ld, .int 0, .ref lK, .ref lC, .int 0])), (tb, .inl (e2, 366, .inl (fun _ => 0))), (ld, .inl (e3, 61, .inl (l0)))]) sz [.ref mo, .int 2]) (va_Qi (fun (r : Int32) (u : Nat → Int32) => r = 0) (zB D (va_A ([(mo, .inr (4, [.int 0, .int 0, .ref kT, .int 20, .int 60, .int 2000, .int 0, .int 0, .ref tb, .ref ld, .int 0, .ref lK, .ref lC, .int 0])), (tb, .inl (e2, 366, .inl (fun _ => 0))), (ld, .inl (e3, 61, .inl (l0)))]) sz) (fun _ => []) 0 (fun u => [(mo, .inr (4, [.int 0, .int 0, .ref kT, .int 20, .int 60, .int 2000, .int 0, .int 0, .ref tb, .ref ld, .int 0, .ref lK, .ref lC, .int 0])), (tb, .inl (e2, 366, .inl (fun _ => 0))), (ld, .inl (e3, 61, .inl (u)))])) (va_A ([(mo, .inr (4, [.int 0, .int 0, .ref kT, .int 20, .int 60, .int 2000, .int 0, .int 0, .ref tb, .ref ld, .int 0, .ref lK, .ref lC, .int 0])), (tb, .inl (e2, 366, .inl (fun _ => 0))), (ld, .inl (e3, 61, .inl (l0)))]) sz)) 0 0 (va_A ([(mo, .inr (4, [.int 0, .int 0, .ref kT, .int 20, .int 60, .int 2000, .int 0, .int 0, .ref tb, .ref ld, .int 0, .ref lK, .ref lC, .int 0])), (tb, .inl (e2, 366, .inl (fun _ => 0))), (ld, .inl (e3, 61, .inl (l0)))]) sz) := by
  refine Met.ofW (cc := cX4_sumOf) (maxL := 4) (ret := (some .int)) (by decide) rfl ?_
  intro p e s m args below meth c s₁ B hml hv
  obtain ⟨rfl, hsz, hP, hK, hD0⟩ := hv
  have hx := B.exec
  have hb := B.bytes
  have hr := B.returns
  have hts := atoms_spec (ws := wsX4_sumOf) B.pre
  have hown : s.vm.findClass RX4 = some m.cls := findClass_of_methodNamed B.named
  have hlocks := B.notSynchronized
  subst hsz
  have hD := hD0.self (sz := s.heap.size)
  generalize hAe : va_A ([(mo, .inr (4, [.int 0, .int 0, .ref kT, .int 20, .int 60, .int 2000, .int 0, .int 0, .ref tb, .ref ld, .int 0, .ref lK, .ref lC, .int 0])), (tb, .inl (e2, 366, .inl (fun _ => 0))), (ld, .inl (e3, 61, .inl (l0)))]) s.heap.size = A at hD ⊢
  have hA : ∀ q : Nat, s.heap.size ≤ q → A q := fun q h => by rw [← hAe]; exact Or.inr h
  have hS : va_S A s.heap s.heap [] := va_S.rf
  have hl := lv_entry ([.ref mo, .int 2]) (n := 4) (Nat.le_of_ble_eq_true rfl)
  rw [lg_entry_eq]
  generalize (lg_sl ([.ref mo, .int 2]) ++ List.replicate (4 - (lg_sl ([.ref mo, .int 2])).length) Slot.unset).toArray = ls at hl ⊢
  have hl : lv_has ls 4 [(0, .ref mo), (1, .int 2)] := hl
  have hP : va_P D vwCl ([(mo, .inr (4, [.int 0, .int 0, .ref kT, .int 20, .int 60, .int 2000, .int 0, .int 0, .ref tb, .ref ld, .int 0, .ref lK, .ref lC, .int 0])), (tb, .inl (e2, 366, .inl (fun _ => 0))), (ld, .inl (e3, 61, .inl (l0)))]) s.heap := hP
  generalize hRe : (headSpec _ _).room = R
  have hRf : R.frames = 2 := by rw [← hRe]; rfl
  have hRc : R.cells = 0 := by rw [← hRe]; rfl
  have hRs : R.slots = 0 := by rw [← hRe]; rfl
  have hRl : R.locals = 60 := by rw [← hRe]; rfl
  clear hRe
  refine lv_iload_n hx hb dX4_sumOf_0 rfl (lv_at hl 1 rfl) ?_
  refine lv_if_ne (tgt := 9) hx hb dX4_sumOf_1 (by decide) (fun c_53 => ?_) (fun c_53 => absurd c_53 (by decide))
  refine lv_iconst (v := 0) hx hb dX4_sumOf_9 (by decide) ?_
  refine lv_istore_n (lv' := [(2, .int 0), (0, .ref mo), (1, .int 2)]) hx hb dX4_sumOf_10 rfl hl (by decide) rfl (fun ls hl => ?_)
  refine lv_aload_n hx hb dX4_sumOf_11 rfl (lv_at hl 1 rfl) ?_
  refine zcallvV (As := []) (rest := []) (wc := [(mo, .inr (4, [.int 0, .int 0, .ref kT, .int 20, .int 60, .int 2000, .int 0, .int 0, .ref tb, .ref ld, .int 0, .ref lK, .ref lC, .int 0])), (tb, .inl (e2, 366, .inl (fun _ => 0))), (ld, .inl (e3, 61, .inl (l0)))]) (wr := []) ⟨hx, hb, hml, hown, hts⟩ (c_reckon0 l D _ mo kT tb ld lK lC e2 e3 l0) (cwV 0 hts gX4_sumOf_X4_reckonLoads rfl rfl rfl (by decide +kernel) ⟨by rw [hRf]; exact Nat.le_of_ble_eq_true rfl, by rw [hRl]; exact Nat.le_of_ble_eq_true rfl⟩) hK hP hD hS hA [0, 1, 2] [] rfl (by decide) rfl (by decide) (by decide) [0, 1] rfl (ci := 4) (q0 := 0) rfl rfl rfl hl.1 rfl (Nat.le_of_ble_eq_true rfl) dX4_sumOf_12 ⟨by omega, by omega⟩ (fun u_55 H locs hwu_55 hnu_55 hzu_55 hK hP hD hS => ?_)
  have hK : va_K D vwCl [(e2, .int), (e3, .int)] s := hK
  have hP : va_P D vwCl ([(mo, .inr (4, [.int 0, .int 0, .ref kT, .int 20, .int 60, .int 2000, .int 0, .int 0, .ref tb, .ref ld, .int 0, .ref lK, .ref lC, .int 0])), (tb, .inl (e2, 366, .inl (fun _ => 0))), (ld, .inl (e3, 61, .inl (u_55)))]) H := hP
  have hD : va_D A ([(mo, .inr (4, [.int 0, .int 0, .ref kT, .int 20, .int 60, .int 2000, .int 0, .int 0, .ref tb, .ref ld, .int 0, .ref lK, .ref lC, .int 0])), (tb, .inl (e2, 366, .inl (fun _ => 0))), (ld, .inl (e3, 61, .inl (u_55)))]) := hD
  refine lv_iconst (v := 0) hx hb dX4_sumOf_15 (by decide) ?_
  refine lv_istore_n (lv' := [(3, .int 0), (2, .int 0), (0, .ref mo), (1, .int 2)]) hx hb dX4_sumOf_16 rfl hl (by decide) rfl (fun ls hl => ?_)
  refine lv_iload_n hx hb dX4_sumOf_17 rfl (lv_at hl 0 rfl) ?_
  refine lv_aload_n hx hb dX4_sumOf_18 rfl (lv_at hl 2 rfl) ?_
  refine va_get (D := D) (ci := 4) (v := .int 0) (C := RX4) (T := TX4) (N := 14) hx hb hts (fun _ h9 => List.mem_cons_of_mem _ (List.mem_append_right _ h9)) hown hK hP 0 rfl rfl 7 (by decide) (hts (.fieldLink RX4 59 "PalletStackModel" "came" "I") (List.mem_of_getElem? (i := 1) (by rfl))) (fun _ h9 => h9) rfl dX4_sumOf_19 ?_
  refine lv_icmp_ge (tgt := 100) hx hb dX4_sumOf_22 (by decide) (fun c_56 => ?_) (fun c_56 => absurd (Int32.le_refl _) c_56)
  refine lv_iload_n hx hb dX4_sumOf_100 rfl (lv_at hl 1 rfl) ?_
  exact W.iret (v := 0) hx hb hr (fun t ht hW => ⟨⟨0, u_55, rfl, rfl, ⟨Nat.zero_le _, by rw [ht]; exact hP, va_K.moved hW.alike (hK.sub (tys' := []) [] rfl), hD⟩⟩, hS.F ht⟩) hS.2.2 dX4_sumOf_101
set_option maxHeartbeats 4000000 in
set_option maxRecDepth 100000 in
theorem c_sumOfM_3 (l : Launch) (D : zG) (sz : Nat) (mo kT tb ld lK lC : Nat) (e2 e3 : ClassId) (l0 : Nat → Int32) : Met l yX4_sumOf wsX4_sumOf ({ frames := 2, cells := 0, slots := 0, locals := 60 }) (zPc D [(e2, .int), (e3, .int)] ([(mo, .inr (4, [.int 0, .int 0, .ref kT, .int 20, .int 60, .int 2000, .int 0, .int 0, .ref tb, .ref ld, .int 0, .ref lK, .ref lC, .int 0])), (tb, .inl (e2, 366, .inl (fun _ => 0))), (ld, .inl (e3, 61, .inl (l0)))]) sz [.ref mo, .int 3]) (va_Qi (fun (r : Int32) (u : Nat → Int32) => r = 0) (zB D (va_A ([(mo, .inr (4, [.int 0, .int 0, .ref kT, .int 20, .int 60, .int 2000, .int 0, .int 0, .ref tb, .ref ld, .int 0, .ref lK, .ref lC, .int 0])), (tb, .inl (e2, 366, .inl (fun _ => 0))), (ld, .inl (e3, 61, .inl (l0)))]) sz) (fun _ => []) 0 (fun u => [(mo, .inr (4, [.int 0, .int 0, .ref kT, .int 20, .int 60, .int 2000, .int 0, .int 0, .ref tb, .ref ld, .int 0, .ref lK, .ref lC, .int 0])), (tb, .inl (e2, 366, .inl (fun _ => 0))), (ld, .inl (e3, 61, .inl (u)))])) (va_A ([(mo, .inr (4, [.int 0, .int 0, .ref kT, .int 20, .int 60, .int 2000, .int 0, .int 0, .ref tb, .ref ld, .int 0, .ref lK, .ref lC, .int 0])), (tb, .inl (e2, 366, .inl (fun _ => 0))), (ld, .inl (e3, 61, .inl (l0)))]) sz)) 0 0 (va_A ([(mo, .inr (4, [.int 0, .int 0, .ref kT, .int 20, .int 60, .int 2000, .int 0, .int 0, .ref tb, .ref ld, .int 0, .ref lK, .ref lC, .int 0])), (tb, .inl (e2, 366, .inl (fun _ => 0))), (ld, .inl (e3, 61, .inl (l0)))]) sz) := by
  refine Met.ofW (cc := cX4_sumOf) (maxL := 4) (ret := (some .int)) (by decide) rfl ?_
  intro p e s m args below meth c s₁ B hml hv
  obtain ⟨rfl, hsz, hP, hK, hD0⟩ := hv
  have hx := B.exec
  have hb := B.bytes
  have hr := B.returns
  have hts := atoms_spec (ws := wsX4_sumOf) B.pre
  have hown : s.vm.findClass RX4 = some m.cls := findClass_of_methodNamed B.named
  have hlocks := B.notSynchronized
  subst hsz
  have hD := hD0.self (sz := s.heap.size)
  generalize hAe : va_A ([(mo, .inr (4, [.int 0, .int 0, .ref kT, .int 20, .int 60, .int 2000, .int 0, .int 0, .ref tb, .ref ld, .int 0, .ref lK, .ref lC, .int 0])), (tb, .inl (e2, 366, .inl (fun _ => 0))), (ld, .inl (e3, 61, .inl (l0)))]) s.heap.size = A at hD ⊢
  have hA : ∀ q : Nat, s.heap.size ≤ q → A q := fun q h => by rw [← hAe]; exact Or.inr h
  have hS : va_S A s.heap s.heap [] := va_S.rf
  have hl := lv_entry ([.ref mo, .int 3]) (n := 4) (Nat.le_of_ble_eq_true rfl)
  rw [lg_entry_eq]
  generalize (lg_sl ([.ref mo, .int 3]) ++ List.replicate (4 - (lg_sl ([.ref mo, .int 3])).length) Slot.unset).toArray = ls at hl ⊢
  have hl : lv_has ls 4 [(0, .ref mo), (1, .int 3)] := hl
  have hP : va_P D vwCl ([(mo, .inr (4, [.int 0, .int 0, .ref kT, .int 20, .int 60, .int 2000, .int 0, .int 0, .ref tb, .ref ld, .int 0, .ref lK, .ref lC, .int 0])), (tb, .inl (e2, 366, .inl (fun _ => 0))), (ld, .inl (e3, 61, .inl (l0)))]) s.heap := hP
  generalize hRe : (headSpec _ _).room = R
  have hRf : R.frames = 2 := by rw [← hRe]; rfl
  have hRc : R.cells = 0 := by rw [← hRe]; rfl
  have hRs : R.slots = 0 := by rw [← hRe]; rfl
  have hRl : R.locals = 60 := by rw [← hRe]; rfl
  clear hRe
  refine lv_iload_n hx hb dX4_sumOf_0 rfl (lv_at hl 1 rfl) ?_
  refine lv_if_ne (tgt := 9) hx hb dX4_sumOf_1 (by decide) (fun c_57 => ?_) (fun c_57 => absurd c_57 (by decide))
  refine lv_iconst (v := 0) hx hb dX4_sumOf_9 (by decide) ?_
  refine lv_istore_n (lv' := [(2, .int 0), (0, .ref mo), (1, .int 3)]) hx hb dX4_sumOf_10 rfl hl (by decide) rfl (fun ls hl => ?_)
  refine lv_aload_n hx hb dX4_sumOf_11 rfl (lv_at hl 1 rfl) ?_
  refine zcallvV (As := []) (rest := []) (wc := [(mo, .inr (4, [.int 0, .int 0, .ref kT, .int 20, .int 60, .int 2000, .int 0, .int 0, .ref tb, .ref ld, .int 0, .ref lK, .ref lC, .int 0])), (tb, .inl (e2, 366, .inl (fun _ => 0))), (ld, .inl (e3, 61, .inl (l0)))]) (wr := []) ⟨hx, hb, hml, hown, hts⟩ (c_reckon0 l D _ mo kT tb ld lK lC e2 e3 l0) (cwV 0 hts gX4_sumOf_X4_reckonLoads rfl rfl rfl (by decide +kernel) ⟨by rw [hRf]; exact Nat.le_of_ble_eq_true rfl, by rw [hRl]; exact Nat.le_of_ble_eq_true rfl⟩) hK hP hD hS hA [0, 1, 2] [] rfl (by decide) rfl (by decide) (by decide) [0, 1] rfl (ci := 4) (q0 := 0) rfl rfl rfl hl.1 rfl (Nat.le_of_ble_eq_true rfl) dX4_sumOf_12 ⟨by omega, by omega⟩ (fun u_59 H locs hwu_59 hnu_59 hzu_59 hK hP hD hS => ?_)
  have hK : va_K D vwCl [(e2, .int), (e3, .int)] s := hK
  have hP : va_P D vwCl ([(mo, .inr (4, [.int 0, .int 0, .ref kT, .int 20, .int 60, .int 2000, .int 0, .int 0, .ref tb, .ref ld, .int 0, .ref lK, .ref lC, .int 0])), (tb, .inl (e2, 366, .inl (fun _ => 0))), (ld, .inl (e3, 61, .inl (u_59)))]) H := hP
  have hD : va_D A ([(mo, .inr (4, [.int 0, .int 0, .ref kT, .int 20, .int 60, .int 2000, .int 0, .int 0, .ref tb, .ref ld, .int 0, .ref lK, .ref lC, .int 0])), (tb, .inl (e2, 366, .inl (fun _ => 0))), (ld, .inl (e3, 61, .inl (u_59)))]) := hD
  refine lv_iconst (v := 0) hx hb dX4_sumOf_15 (by decide) ?_
  refine lv_istore_n (lv' := [(3, .int 0), (2, .int 0), (0, .ref mo), (1, .int 3)]) hx hb dX4_sumOf_16 rfl hl (by decide) rfl (fun ls hl => ?_)
  refine lv_iload_n hx hb dX4_sumOf_17 rfl (lv_at hl 0 rfl) ?_
  refine lv_aload_n hx hb dX4_sumOf_18 rfl (lv_at hl 2 rfl) ?_
  refine va_get (D := D) (ci := 4) (v := .int 0) (C := RX4) (T := TX4) (N := 14) hx hb hts (fun _ h9 => List.mem_cons_of_mem _ (List.mem_append_right _ h9)) hown hK hP 0 rfl rfl 7 (by decide) (hts (.fieldLink RX4 59 "PalletStackModel" "came" "I") (List.mem_of_getElem? (i := 1) (by rfl))) (fun _ h9 => h9) rfl dX4_sumOf_19 ?_
  refine lv_icmp_ge (tgt := 100) hx hb dX4_sumOf_22 (by decide) (fun c_60 => ?_) (fun c_60 => absurd (Int32.le_refl _) c_60)
  refine lv_iload_n hx hb dX4_sumOf_100 rfl (lv_at hl 1 rfl) ?_
  exact W.iret (v := 0) hx hb hr (fun t ht hW => ⟨⟨0, u_59, rfl, rfl, ⟨Nat.zero_le _, by rw [ht]; exact hP, va_K.moved hW.alike (hK.sub (tys' := []) [] rfl), hD⟩⟩, hS.F ht⟩) hS.2.2 dX4_sumOf_101
theorem c_sumOfM (l : Launch) (D : zG) (sz : Nat) (mo kT tb ld lK lC : Nat) (e2 e3 : ClassId) (l0 : Nat → Int32) (a : Int32) (ha : 0 ≤ a ∧ a ≤ 3) : Met l yX4_sumOf wsX4_sumOf ({ frames := 2, cells := 0, slots := 0, locals := 60 }) (zPc D [(e2, .int), (e3, .int)] ([(mo, .inr (4, [.int 0, .int 0, .ref kT, .int 20, .int 60, .int 2000, .int 0, .int 0, .ref tb, .ref ld, .int 0, .ref lK, .ref lC, .int 0])), (tb, .inl (e2, 366, .inl (fun _ => 0))), (ld, .inl (e3, 61, .inl (l0)))]) sz [.ref mo, .int a]) (va_Qi (fun (r : Int32) (u : Nat → Int32) => r = 0) (zB D (va_A ([(mo, .inr (4, [.int 0, .int 0, .ref kT, .int 20, .int 60, .int 2000, .int 0, .int 0, .ref tb, .ref ld, .int 0, .ref lK, .ref lC, .int 0])), (tb, .inl (e2, 366, .inl (fun _ => 0))), (ld, .inl (e3, 61, .inl (l0)))]) sz) (fun _ => []) 0 (fun u => [(mo, .inr (4, [.int 0, .int 0, .ref kT, .int 20, .int 60, .int 2000, .int 0, .int 0, .ref tb, .ref ld, .int 0, .ref lK, .ref lC, .int 0])), (tb, .inl (e2, 366, .inl (fun _ => 0))), (ld, .inl (e3, 61, .inl (u)))])) (va_A ([(mo, .inr (4, [.int 0, .int 0, .ref kT, .int 20, .int 60, .int 2000, .int 0, .int 0, .ref tb, .ref ld, .int 0, .ref lK, .ref lC, .int 0])), (tb, .inl (e2, 366, .inl (fun _ => 0))), (ld, .inl (e3, 61, .inl (l0)))]) sz)) 0 0 (va_A ([(mo, .inr (4, [.int 0, .int 0, .ref kT, .int 20, .int 60, .int 2000, .int 0, .int 0, .ref tb, .ref ld, .int 0, .ref lK, .ref lC, .int 0])), (tb, .inl (e2, 366, .inl (fun _ => 0))), (ld, .inl (e3, 61, .inl (l0)))]) sz) := by
  rcases z03 ha with rfl | rfl | rfl | rfl
  · exact c_sumOfM_0 l D sz mo kT tb ld lK lC e2 e3 l0
  · exact c_sumOfM_1 l D sz mo kT tb ld lK lC e2 e3 l0
  · exact c_sumOfM_2 l D sz mo kT tb ld lK lC e2 e3 l0
  · exact c_sumOfM_3 l D sz mo kT tb ld lK lC e2 e3 l0
set_option maxHeartbeats 4000000 in
set_option maxRecDepth 100000 in
theorem c_Mreason (l : Launch) (D : zG) (sz : Nat) (mo kT tb ld lK lC : Nat) (a b c1 c2 : Int32) : Met l yX4_reason wsX4_reason ({ frames := 3, cells := 0, slots := 0, locals := 120 }) (zPc D [] ([(mo, .inr (4, [.int 0, .int 0, .ref kT, .int 20, .int 60, .int 2000, .int 0, .int 0, .ref tb, .ref ld, .int 0, .ref lK, .ref lC, .int 0]))]) sz [.ref mo, .int a, .int b, .int c1, .int c2]) (va_Qi (fun (r : Int32) (u : Unit) => r = 0) (zB D (va_A ([(mo, .inr (4, [.int 0, .int 0, .ref kT, .int 20, .int 60, .int 2000, .int 0, .int 0, .ref tb, .ref ld, .int 0, .ref lK, .ref lC, .int 0]))]) sz) (fun _ => []) 0 (fun _ => [(mo, .inr (4, [.int 1, .int 0, .ref kT, .int 20, .int 60, .int 2000, .int 0, .int 0, .ref tb, .ref ld, .int 0, .ref lK, .ref lC, .int 0]))])) (va_A ([(mo, .inr (4, [.int 0, .int 0, .ref kT, .int 20, .int 60, .int 2000, .int 0, .int 0, .ref tb, .ref ld, .int 0, .ref lK, .ref lC, .int 0]))]) sz)) 0 0 (va_A ([(mo, .inr (4, [.int 0, .int 0, .ref kT, .int 20, .int 60, .int 2000, .int 0, .int 0, .ref tb, .ref ld, .int 0, .ref lK, .ref lC, .int 0]))]) sz) := by
  refine Met.ofW (cc := cX4_reason) (maxL := 5) (ret := (some .int)) (by decide) rfl ?_
  intro p e s m args below meth c s₁ B hml hv
  obtain ⟨rfl, hsz, hP, hK, hD0⟩ := hv
  have hx := B.exec
  have hb := B.bytes
  have hr := B.returns
  have hts := atoms_spec (ws := wsX4_reason) B.pre
  have hown : s.vm.findClass RX4 = some m.cls := findClass_of_methodNamed B.named
  have hlocks := B.notSynchronized
  subst hsz
  have hD := hD0.self (sz := s.heap.size)
  generalize hAe : va_A ([(mo, .inr (4, [.int 0, .int 0, .ref kT, .int 20, .int 60, .int 2000, .int 0, .int 0, .ref tb, .ref ld, .int 0, .ref lK, .ref lC, .int 0]))]) s.heap.size = A at hD ⊢
  have hA : ∀ q : Nat, s.heap.size ≤ q → A q := fun q h => by rw [← hAe]; exact Or.inr h
  have hS : va_S A s.heap s.heap [] := va_S.rf
  have hl := lv_entry ([.ref mo, .int a, .int b, .int c1, .int c2]) (n := 5) (Nat.le_of_ble_eq_true rfl)
  rw [lg_entry_eq]
  generalize (lg_sl ([.ref mo, .int a, .int b, .int c1, .int c2]) ++ List.replicate (5 - (lg_sl ([.ref mo, .int a, .int b, .int c1, .int c2])).length) Slot.unset).toArray = ls at hl ⊢
  have hl : lv_has ls 5 [(0, .ref mo), (1, .int a), (2, .int b), (3, .int c1), (4, .int c2)] := hl
  have hP : va_P D vwCl ([(mo, .inr (4, [.int 0, .int 0, .ref kT, .int 20, .int 60, .int 2000, .int 0, .int 0, .ref tb, .ref ld, .int 0, .ref lK, .ref lC, .int 0]))]) s.heap := hP
  generalize hRe : (headSpec _ _).room = R
  have hRf : R.frames = 3 := by rw [← hRe]; rfl
  have hRc : R.cells = 0 := by rw [← hRe]; rfl
  have hRs : R.slots = 0 := by rw [← hRe]; rfl
  have hRl : R.locals = 120 := by rw [← hRe]; rfl
  clear hRe
  refine lv_aload_n hx hb dX4_reason_0 rfl (lv_at hl 0 rfl) ?_
  refine lv_iconst (v := 0) hx hb dX4_reason_1 (by decide) ?_
  refine va_put (D := D) (ci := 4) (v := .int 0) (ty := .int) (C := RX4) (T := TX4) (N := 14) hx hb hts (fun _ h9 => List.mem_cons_of_mem _ (List.mem_append_right _ h9)) tyX4 tyX4_ok nmX4 hown hK hP hD hS 0 rfl rfl 0 (by decide) (hts (.fieldLink RX4 35 "PalletStackModel" "thrown" "I") (List.mem_of_getElem? (i := 1) (by rfl))) (fun _ h9 => h9) rfl (by decide +kernel) rfl rfl (Nat.le_of_ble_eq_true rfl) dX4_reason_2 (fun H locs hP hD hS => ?_)
  have hP : va_P D vwCl ([(mo, .inr (4, [.int 0, .int 0, .ref kT, .int 20, .int 60, .int 2000, .int 0, .int 0, .ref tb, .ref ld, .int 0, .ref lK, .ref lC, .int 0]))]) H := hP
  have hD : va_D A ([(mo, .inr (4, [.int 0, .int 0, .ref kT, .int 20, .int 60, .int 2000, .int 0, .int 0, .ref tb, .ref ld, .int 0, .ref lK, .ref lC, .int 0]))]) := hD
  refine lv_aload_n hx hb dX4_reason_5 rfl (lv_at hl 0 rfl) ?_
  refine lv_iload_n hx hb dX4_reason_6 rfl (lv_at hl 1 rfl) ?_
  refine zrdV (As := [.int a]) (rest := []) (wc := [(mo, .inr (4, [.int 0, .int 0, .ref kT, .int 20, .int 60, .int 2000, .int 0, .int 0, .ref tb, .ref ld, .int 0, .ref lK, .ref lC, .int 0]))]) ⟨hx, hb, hml, hown, hts⟩ (c_isKind0 l D _ mo kT tb ld lK lC a) (cwV 1 hts gX4_reason_X4_isKind rfl rfl rfl (by decide +kernel) ⟨by rw [hRf]; exact Nat.le_of_ble_eq_true rfl, by rw [hRl]; exact Nat.le_of_ble_eq_true rfl⟩) hK hP hD [0] rfl (by decide) [] rfl (ci := 4) (q0 := 0) rfl rfl rfl hl.1 rfl (Nat.le_of_ble_eq_true rfl) dX4_reason_7 ⟨by omega, by omega⟩ (fun r_61 hr_61 => ?_)
  refine lv_topi (fun v_62 ev_62 => ?_)
  obtain rfl : v_62 = 0 := ev_62.trans hr_61
  refine lv_if_eq (tgt := 25) hx hb dX4_reason_10 (by decide) (fun c_63 => ?_) (fun c_63 => absurd (rfl) c_63)
  refine lv_aload_n hx hb dX4_reason_25 rfl (lv_at hl 0 rfl) ?_
  refine lv_iconst (v := 1) hx hb dX4_reason_26 (by decide) ?_
  refine zcalliV (As := [.int 1]) (rest := []) (wc := [(mo, .inr (4, [.int 0, .int 0, .ref kT, .int 20, .int 60, .int 2000, .int 0, .int 0, .ref tb, .ref ld, .int 0, .ref lK, .ref lC, .int 0]))]) (wr := []) ⟨hx, hb, hml, hown, hts⟩ (c_fail l D _ mo kT tb ld lK lC 0 1) (cwV 1 hts gX4_reason_X4_fail rfl rfl rfl (by decide +kernel) ⟨by rw [hRf]; exact Nat.le_of_ble_eq_true rfl, by rw [hRl]; exact Nat.le_of_ble_eq_true rfl⟩) hK hP hD hS hA [0] [] rfl (by decide) rfl (by decide) (by decide) [] rfl (ci := 4) (q0 := 0) rfl rfl rfl hl.1 rfl (Nat.le_of_ble_eq_true rfl) dX4_reason_27 ⟨by omega, by omega⟩ (fun r_64 u_65 H locs hwu_65 hnu_65 hzu_65 hK hP hD hS => ?_)
  have hK : va_K D vwCl [] s := hK
  have hP : va_P D vwCl ([(mo, .inr (4, [.int 1, .int 0, .ref kT, .int 20, .int 60, .int 2000, .int 0, .int 0, .ref tb, .ref ld, .int 0, .ref lK, .ref lC, .int 0]))]) H := hP
  have hD : va_D A ([(mo, .inr (4, [.int 1, .int 0, .ref kT, .int 20, .int 60, .int 2000, .int 0, .int 0, .ref tb, .ref ld, .int 0, .ref lK, .ref lC, .int 0]))]) := hD
  refine lv_topi (fun v_66 ev_66 => ?_)
  obtain rfl : v_66 = 0 := ev_66.trans hwu_65
  have hP := hP.sub (ws' := [(mo, .inr (4, [.int 1, .int 0, .ref kT, .int 20, .int 60, .int 2000, .int 0, .int 0, .ref tb, .ref ld, .int 0, .ref lK, .ref lC, .int 0]))]) [0] rfl
  have hD := hD.sub (ws' := [(mo, .inr (4, [.int 1, .int 0, .ref kT, .int 20, .int 60, .int 2000, .int 0, .int 0, .ref tb, .ref ld, .int 0, .ref lK, .ref lC, .int 0]))]) [0] (by decide) rfl
  exact W.iret (v := 0) hx hb hr (fun t ht hW => ⟨⟨0, (), rfl, rfl, ⟨Nat.zero_le _, by rw [ht]; exact hP, va_K.moved hW.alike (hK.sub (tys' := []) [] rfl), hD⟩⟩, hS.F ht⟩) hS.2.2 dX4_reason_30
set_option maxHeartbeats 4000000 in
set_option maxRecDepth 100000 in
theorem c_Mput (l : Launch) (D : zG) (sz : Nat) (mo kT tb ld lK lC : Nat) (a b c1 c2 : Int32) : Met l yX4_put wsX4_put ({ frames := 3, cells := 0, slots := 0, locals := 120 }) (zPc D [] ([(mo, .inr (4, [.int 0, .int 0, .ref kT, .int 20, .int 60, .int 2000, .int 0, .int 0, .ref tb, .ref ld, .int 0, .ref lK, .ref lC, .int 0]))]) sz [.ref mo, .int a, .int b, .int c1, .int c2]) (va_Qi (fun (r : Int32) (u : Unit) => r = 0) (zB D (va_A ([(mo, .inr (4, [.int 0, .int 0, .ref kT, .int 20, .int 60, .int 2000, .int 0, .int 0, .ref tb, .ref ld, .int 0, .ref lK, .ref lC, .int 0]))]) sz) (fun _ => []) 0 (fun _ => [(mo, .inr (4, [.int 1, .int 0, .ref kT, .int 20, .int 60, .int 2000, .int 0, .int 0, .ref tb, .ref ld, .int 0, .ref lK, .ref lC, .int 0]))])) (va_A ([(mo, .inr (4, [.int 0, .int 0, .ref kT, .int 20, .int 60, .int 2000, .int 0, .int 0, .ref tb, .ref ld, .int 0, .ref lK, .ref lC, .int 0]))]) sz)) 0 0 (va_A ([(mo, .inr (4, [.int 0, .int 0, .ref kT, .int 20, .int 60, .int 2000, .int 0, .int 0, .ref tb, .ref ld, .int 0, .ref lK, .ref lC, .int 0]))]) sz) := by
  refine Met.ofW (cc := cX4_put) (maxL := 5) (ret := (some .int)) (by decide) rfl ?_
  intro p e s m args below meth c s₁ B hml hv
  obtain ⟨rfl, hsz, hP, hK, hD0⟩ := hv
  have hx := B.exec
  have hb := B.bytes
  have hr := B.returns
  have hts := atoms_spec (ws := wsX4_put) B.pre
  have hown : s.vm.findClass RX4 = some m.cls := findClass_of_methodNamed B.named
  have hlocks := B.notSynchronized
  subst hsz
  have hD := hD0.self (sz := s.heap.size)
  generalize hAe : va_A ([(mo, .inr (4, [.int 0, .int 0, .ref kT, .int 20, .int 60, .int 2000, .int 0, .int 0, .ref tb, .ref ld, .int 0, .ref lK, .ref lC, .int 0]))]) s.heap.size = A at hD ⊢
  have hA : ∀ q : Nat, s.heap.size ≤ q → A q := fun q h => by rw [← hAe]; exact Or.inr h
  have hS : va_S A s.heap s.heap [] := va_S.rf
  have hl := lv_entry ([.ref mo, .int a, .int b, .int c1, .int c2]) (n := 5) (Nat.le_of_ble_eq_true rfl)
  rw [lg_entry_eq]
  generalize (lg_sl ([.ref mo, .int a, .int b, .int c1, .int c2]) ++ List.replicate (5 - (lg_sl ([.ref mo, .int a, .int b, .int c1, .int c2])).length) Slot.unset).toArray = ls at hl ⊢
  have hl : lv_has ls 5 [(0, .ref mo), (1, .int a), (2, .int b), (3, .int c1), (4, .int c2)] := hl
  have hP : va_P D vwCl ([(mo, .inr (4, [.int 0, .int 0, .ref kT, .int 20, .int 60, .int 2000, .int 0, .int 0, .ref tb, .ref ld, .int 0, .ref lK, .ref lC, .int 0]))]) s.heap := hP
  generalize hRe : (headSpec _ _).room = R
  have hRf : R.frames = 3 := by rw [← hRe]; rfl
  have hRc : R.cells = 0 := by rw [← hRe]; rfl
  have hRs : R.slots = 0 := by rw [← hRe]; rfl
  have hRl : R.locals = 120 := by rw [← hRe]; rfl
  clear hRe
  refine lv_aload_n hx hb dX4_put_0 rfl (lv_at hl 0 rfl) ?_
  refine lv_iconst (v := 0) hx hb dX4_put_1 (by decide) ?_
  refine va_put (D := D) (ci := 4) (v := .int 0) (ty := .int) (C := RX4) (T := TX4) (N := 14) hx hb hts (fun _ h9 => List.mem_cons_of_mem _ (List.mem_append_right _ h9)) tyX4 tyX4_ok nmX4 hown hK hP hD hS 0 rfl rfl 0 (by decide) (hts (.fieldLink RX4 35 "PalletStackModel" "thrown" "I") (List.mem_of_getElem? (i := 1) (by rfl))) (fun _ h9 => h9) rfl (by decide +kernel) rfl rfl (Nat.le_of_ble_eq_true rfl) dX4_put_2 (fun H locs hP hD hS => ?_)
  have hP : va_P D vwCl ([(mo, .inr (4, [.int 0, .int 0, .ref kT, .int 20, .int 60, .int 2000, .int 0, .int 0, .ref tb, .ref ld, .int 0, .ref lK, .ref lC, .int 0]))]) H := hP
  have hD : va_D A ([(mo, .inr (4, [.int 0, .int 0, .ref kT, .int 20, .int 60, .int 2000, .int 0, .int 0, .ref tb, .ref ld, .int 0, .ref lK, .ref lC, .int 0]))]) := hD
  refine lv_aload_n hx hb dX4_put_5 rfl (lv_at hl 0 rfl) ?_
  refine lv_iload_n hx hb dX4_put_6 rfl (lv_at hl 1 rfl) ?_
  refine zrdV (As := [.int a]) (rest := []) (wc := [(mo, .inr (4, [.int 0, .int 0, .ref kT, .int 20, .int 60, .int 2000, .int 0, .int 0, .ref tb, .ref ld, .int 0, .ref lK, .ref lC, .int 0]))]) ⟨hx, hb, hml, hown, hts⟩ (c_isKind0 l D _ mo kT tb ld lK lC a) (cwV 1 hts gX4_put_X4_isKind rfl rfl rfl (by decide +kernel) ⟨by rw [hRf]; exact Nat.le_of_ble_eq_true rfl, by rw [hRl]; exact Nat.le_of_ble_eq_true rfl⟩) hK hP hD [0] rfl (by decide) [] rfl (ci := 4) (q0 := 0) rfl rfl rfl hl.1 rfl (Nat.le_of_ble_eq_true rfl) dX4_put_7 ⟨by omega, by omega⟩ (fun r_67 hr_67 => ?_)
  refine lv_topi (fun v_68 ev_68 => ?_)
  obtain rfl : v_68 = 0 := ev_68.trans hr_67
  refine lv_if_ne (tgt := 19) hx hb dX4_put_10 (by decide) (fun c_69 => absurd (rfl) c_69) (fun c_69 => ?_)
  refine lv_aload_n hx hb dX4_put_13 rfl (lv_at hl 0 rfl) ?_
  refine lv_iconst (v := 1) hx hb dX4_put_14 (by decide) ?_
  refine zcalliV (As := [.int 1]) (rest := []) (wc := [(mo, .inr (4, [.int 0, .int 0, .ref kT, .int 20, .int 60, .int 2000, .int 0, .int 0, .ref tb, .ref ld, .int 0, .ref lK, .ref lC, .int 0]))]) (wr := []) ⟨hx, hb, hml, hown, hts⟩ (c_fail l D _ mo kT tb ld lK lC 0 1) (cwV 1 hts gX4_put_X4_fail rfl rfl rfl (by decide +kernel) ⟨by rw [hRf]; exact Nat.le_of_ble_eq_true rfl, by rw [hRl]; exact Nat.le_of_ble_eq_true rfl⟩) hK hP hD hS hA [0] [] rfl (by decide) rfl (by decide) (by decide) [] rfl (ci := 4) (q0 := 0) rfl rfl rfl hl.1 rfl (Nat.le_of_ble_eq_true rfl) dX4_put_15 ⟨by omega, by omega⟩ (fun r_70 u_71 H locs hwu_71 hnu_71 hzu_71 hK hP hD hS => ?_)
  have hK : va_K D vwCl [] s := hK
  have hP : va_P D vwCl ([(mo, .inr (4, [.int 1, .int 0, .ref kT, .int 20, .int 60, .int 2000, .int 0, .int 0, .ref tb, .ref ld, .int 0, .ref lK, .ref lC, .int 0]))]) H := hP
  have hD : va_D A ([(mo, .inr (4, [.int 1, .int 0, .ref kT, .int 20, .int 60, .int 2000, .int 0, .int 0, .ref tb, .ref ld, .int 0, .ref lK, .ref lC, .int 0]))]) := hD
  refine lv_topi (fun v_72 ev_72 => ?_)
  obtain rfl : v_72 = 0 := ev_72.trans hwu_71
  have hP := hP.sub (ws' := [(mo, .inr (4, [.int 1, .int 0, .ref kT, .int 20, .int 60, .int 2000, .int 0, .int 0, .ref tb, .ref ld, .int 0, .ref lK, .ref lC, .int 0]))]) [0] rfl
  have hD := hD.sub (ws' := [(mo, .inr (4, [.int 1, .int 0, .ref kT, .int 20, .int 60, .int 2000, .int 0, .int 0, .ref tb, .ref ld, .int 0, .ref lK, .ref lC, .int 0]))]) [0] (by decide) rfl
  exact W.iret (v := 0) hx hb hr (fun t ht hW => ⟨⟨0, (), rfl, rfl, ⟨Nat.zero_le _, by rw [ht]; exact hP, va_K.moved hW.alike (hK.sub (tys' := []) [] rfl), hD⟩⟩, hS.F ht⟩) hS.2.2 dX4_put_18
set_option maxHeartbeats 4000000 in
set_option maxRecDepth 100000 in
theorem c_MtakeOff (l : Launch) (D : zG) (sz : Nat) (mo kT tb ld lK lC : Nat) (a : Int32) : Met l yX4_takeOff wsX4_takeOff ({ frames := 3, cells := 0, slots := 0, locals := 120 }) (zPc D [] ([(mo, .inr (4, [.int 0, .int 0, .ref kT, .int 20, .int 60, .int 2000, .int 0, .int 0, .ref tb, .ref ld, .int 0, .ref lK, .ref lC, .int 0]))]) sz [.ref mo, .int a]) (va_Qi (fun (r : Int32) (u : Unit) => r = 0) (zB D (va_A ([(mo, .inr (4, [.int 0, .int 0, .ref kT, .int 20, .int 60, .int 2000, .int 0, .int 0, .ref tb, .ref ld, .int 0, .ref lK, .ref lC, .int 0]))]) sz) (fun _ => []) 0 (fun _ => [(mo, .inr (4, [.int 1, .int 0, .ref kT, .int 20, .int 60, .int 2000, .int 0, .int 0, .ref tb, .ref ld, .int 0, .ref lK, .ref lC, .int 0]))])) (va_A ([(mo, .inr (4, [.int 0, .int 0, .ref kT, .int 20, .int 60, .int 2000, .int 0, .int 0, .ref tb, .ref ld, .int 0, .ref lK, .ref lC, .int 0]))]) sz)) 0 0 (va_A ([(mo, .inr (4, [.int 0, .int 0, .ref kT, .int 20, .int 60, .int 2000, .int 0, .int 0, .ref tb, .ref ld, .int 0, .ref lK, .ref lC, .int 0]))]) sz) := by
  refine Met.ofW (cc := cX4_takeOff) (maxL := 2) (ret := (some .int)) (by decide) rfl ?_
  intro p e s m args below meth c s₁ B hml hv
  obtain ⟨rfl, hsz, hP, hK, hD0⟩ := hv
  have hx := B.exec
  have hb := B.bytes
  have hr := B.returns
  have hts := atoms_spec (ws := wsX4_takeOff) B.pre
  have hown : s.vm.findClass RX4 = some m.cls := findClass_of_methodNamed B.named
  have hlocks := B.notSynchronized
  subst hsz
  have hD := hD0.self (sz := s.heap.size)
  generalize hAe : va_A ([(mo, .inr (4, [.int 0, .int 0, .ref kT, .int 20, .int 60, .int 2000, .int 0, .int 0, .ref tb, .ref ld, .int 0, .ref lK, .ref lC, .int 0]))]) s.heap.size = A at hD ⊢
  have hA : ∀ q : Nat, s.heap.size ≤ q → A q := fun q h => by rw [← hAe]; exact Or.inr h
  have hS : va_S A s.heap s.heap [] := va_S.rf
  have hl := lv_entry ([.ref mo, .int a]) (n := 2) (Nat.le_of_ble_eq_true rfl)
  rw [lg_entry_eq]
  generalize (lg_sl ([.ref mo, .int a]) ++ List.replicate (2 - (lg_sl ([.ref mo, .int a])).length) Slot.unset).toArray = ls at hl ⊢
  have hl : lv_has ls 2 [(0, .ref mo), (1, .int a)] := hl
  have hP : va_P D vwCl ([(mo, .inr (4, [.int 0, .int 0, .ref kT, .int 20, .int 60, .int 2000, .int 0, .int 0, .ref tb, .ref ld, .int 0, .ref lK, .ref lC, .int 0]))]) s.heap := hP
  generalize hRe : (headSpec _ _).room = R
  have hRf : R.frames = 3 := by rw [← hRe]; rfl
  have hRc : R.cells = 0 := by rw [← hRe]; rfl
  have hRs : R.slots = 0 := by rw [← hRe]; rfl
  have hRl : R.locals = 120 := by rw [← hRe]; rfl
  clear hRe
  refine lv_aload_n hx hb dX4_takeOff_0 rfl (lv_at hl 0 rfl) ?_
  refine lv_iconst (v := 0) hx hb dX4_takeOff_1 (by decide) ?_
  refine va_put (D := D) (ci := 4) (v := .int 0) (ty := .int) (C := RX4) (T := TX4) (N := 14) hx hb hts (fun _ h9 => List.mem_cons_of_mem _ (List.mem_append_right _ h9)) tyX4 tyX4_ok nmX4 hown hK hP hD hS 0 rfl rfl 0 (by decide) (hts (.fieldLink RX4 35 "PalletStackModel" "thrown" "I") (List.mem_of_getElem? (i := 1) (by rfl))) (fun _ h9 => h9) rfl (by decide +kernel) rfl rfl (Nat.le_of_ble_eq_true rfl) dX4_takeOff_2 (fun H locs hP hD hS => ?_)
  have hP : va_P D vwCl ([(mo, .inr (4, [.int 0, .int 0, .ref kT, .int 20, .int 60, .int 2000, .int 0, .int 0, .ref tb, .ref ld, .int 0, .ref lK, .ref lC, .int 0]))]) H := hP
  have hD : va_D A ([(mo, .inr (4, [.int 0, .int 0, .ref kT, .int 20, .int 60, .int 2000, .int 0, .int 0, .ref tb, .ref ld, .int 0, .ref lK, .ref lC, .int 0]))]) := hD
  refine lv_aload_n hx hb dX4_takeOff_5 rfl (lv_at hl 0 rfl) ?_
  refine lv_iload_n hx hb dX4_takeOff_6 rfl (lv_at hl 1 rfl) ?_
  refine zrdV (As := [.int a]) (rest := []) (wc := [(mo, .inr (4, [.int 0, .int 0, .ref kT, .int 20, .int 60, .int 2000, .int 0, .int 0, .ref tb, .ref ld, .int 0, .ref lK, .ref lC, .int 0]))]) ⟨hx, hb, hml, hown, hts⟩ (c_isItem0 l D _ mo kT tb ld lK lC a) (cwV 1 hts gX4_takeOff_X4_isItem rfl rfl rfl (by decide +kernel) ⟨by rw [hRf]; exact Nat.le_of_ble_eq_true rfl, by rw [hRl]; exact Nat.le_of_ble_eq_true rfl⟩) hK hP hD [0] rfl (by decide) [] rfl (ci := 4) (q0 := 0) rfl rfl rfl hl.1 rfl (Nat.le_of_ble_eq_true rfl) dX4_takeOff_7 ⟨by omega, by omega⟩ (fun r_73 hr_73 => ?_)
  refine lv_topi (fun v_74 ev_74 => ?_)
  obtain rfl : v_74 = 0 := ev_74.trans hr_73
  refine lv_if_ne (tgt := 19) hx hb dX4_takeOff_10 (by decide) (fun c_75 => absurd (rfl) c_75) (fun c_75 => ?_)
  refine lv_aload_n hx hb dX4_takeOff_13 rfl (lv_at hl 0 rfl) ?_
  refine lv_iconst (v := 1) hx hb dX4_takeOff_14 (by decide) ?_
  refine zcalliV (As := [.int 1]) (rest := []) (wc := [(mo, .inr (4, [.int 0, .int 0, .ref kT, .int 20, .int 60, .int 2000, .int 0, .int 0, .ref tb, .ref ld, .int 0, .ref lK, .ref lC, .int 0]))]) (wr := []) ⟨hx, hb, hml, hown, hts⟩ (c_fail l D _ mo kT tb ld lK lC 0 1) (cwV 1 hts gX4_takeOff_X4_fail rfl rfl rfl (by decide +kernel) ⟨by rw [hRf]; exact Nat.le_of_ble_eq_true rfl, by rw [hRl]; exact Nat.le_of_ble_eq_true rfl⟩) hK hP hD hS hA [0] [] rfl (by decide) rfl (by decide) (by decide) [] rfl (ci := 4) (q0 := 0) rfl rfl rfl hl.1 rfl (Nat.le_of_ble_eq_true rfl) dX4_takeOff_15 ⟨by omega, by omega⟩ (fun r_76 u_77 H locs hwu_77 hnu_77 hzu_77 hK hP hD hS => ?_)
  have hK : va_K D vwCl [] s := hK
  have hP : va_P D vwCl ([(mo, .inr (4, [.int 1, .int 0, .ref kT, .int 20, .int 60, .int 2000, .int 0, .int 0, .ref tb, .ref ld, .int 0, .ref lK, .ref lC, .int 0]))]) H := hP
  have hD : va_D A ([(mo, .inr (4, [.int 1, .int 0, .ref kT, .int 20, .int 60, .int 2000, .int 0, .int 0, .ref tb, .ref ld, .int 0, .ref lK, .ref lC, .int 0]))]) := hD
  refine lv_topi (fun v_78 ev_78 => ?_)
  obtain rfl : v_78 = 0 := ev_78.trans hwu_77
  have hP := hP.sub (ws' := [(mo, .inr (4, [.int 1, .int 0, .ref kT, .int 20, .int 60, .int 2000, .int 0, .int 0, .ref tb, .ref ld, .int 0, .ref lK, .ref lC, .int 0]))]) [0] rfl
  have hD := hD.sub (ws' := [(mo, .inr (4, [.int 1, .int 0, .ref kT, .int 20, .int 60, .int 2000, .int 0, .int 0, .ref tb, .ref ld, .int 0, .ref lK, .ref lC, .int 0]))]) [0] (by decide) rfl
  exact W.iret (v := 0) hx hb hr (fun t ht hW => ⟨⟨0, (), rfl, rfl, ⟨Nat.zero_le _, by rw [ht]; exact hP, va_K.moved hW.alike (hK.sub (tys' := []) [] rfl), hD⟩⟩, hS.F ht⟩) hS.2.2 dX4_takeOff_18
set_option maxHeartbeats 4000000 in
set_option maxRecDepth 100000 in
theorem c_Mitem (l : Launch) (D : zG) (sz : Nat) (mo kT tb ld lK lC : Nat) (a b : Int32) : Met l yX4_item wsX4_item ({ frames := 3, cells := 0, slots := 0, locals := 120 }) (zPc D [] ([(mo, .inr (4, [.int 0, .int 0, .ref kT, .int 20, .int 60, .int 2000, .int 0, .int 0, .ref tb, .ref ld, .int 0, .ref lK, .ref lC, .int 0]))]) sz [.ref mo, .int a, .int b]) (va_Qi (fun (r : Int32) (u : Unit) => r = 0) (zB D (va_A ([(mo, .inr (4, [.int 0, .int 0, .ref kT, .int 20, .int 60, .int 2000, .int 0, .int 0, .ref tb, .ref ld, .int 0, .ref lK, .ref lC, .int 0]))]) sz) (fun _ => []) 0 (fun _ => [(mo, .inr (4, [.int 1, .int 0, .ref kT, .int 20, .int 60, .int 2000, .int 0, .int 0, .ref tb, .ref ld, .int 0, .ref lK, .ref lC, .int 0]))])) (va_A ([(mo, .inr (4, [.int 0, .int 0, .ref kT, .int 20, .int 60, .int 2000, .int 0, .int 0, .ref tb, .ref ld, .int 0, .ref lK, .ref lC, .int 0]))]) sz)) 0 0 (va_A ([(mo, .inr (4, [.int 0, .int 0, .ref kT, .int 20, .int 60, .int 2000, .int 0, .int 0, .ref tb, .ref ld, .int 0, .ref lK, .ref lC, .int 0]))]) sz) := by
  refine Met.ofW (cc := cX4_item) (maxL := 3) (ret := (some .int)) (by decide) rfl ?_
  intro p e s m args below meth c s₁ B hml hv
  obtain ⟨rfl, hsz, hP, hK, hD0⟩ := hv
  have hx := B.exec
  have hb := B.bytes
  have hr := B.returns
  have hts := atoms_spec (ws := wsX4_item) B.pre
  have hown : s.vm.findClass RX4 = some m.cls := findClass_of_methodNamed B.named
  have hlocks := B.notSynchronized
  subst hsz
  have hD := hD0.self (sz := s.heap.size)
  generalize hAe : va_A ([(mo, .inr (4, [.int 0, .int 0, .ref kT, .int 20, .int 60, .int 2000, .int 0, .int 0, .ref tb, .ref ld, .int 0, .ref lK, .ref lC, .int 0]))]) s.heap.size = A at hD ⊢
  have hA : ∀ q : Nat, s.heap.size ≤ q → A q := fun q h => by rw [← hAe]; exact Or.inr h
  have hS : va_S A s.heap s.heap [] := va_S.rf
  have hl := lv_entry ([.ref mo, .int a, .int b]) (n := 3) (Nat.le_of_ble_eq_true rfl)
  rw [lg_entry_eq]
  generalize (lg_sl ([.ref mo, .int a, .int b]) ++ List.replicate (3 - (lg_sl ([.ref mo, .int a, .int b])).length) Slot.unset).toArray = ls at hl ⊢
  have hl : lv_has ls 3 [(0, .ref mo), (1, .int a), (2, .int b)] := hl
  have hP : va_P D vwCl ([(mo, .inr (4, [.int 0, .int 0, .ref kT, .int 20, .int 60, .int 2000, .int 0, .int 0, .ref tb, .ref ld, .int 0, .ref lK, .ref lC, .int 0]))]) s.heap := hP
  generalize hRe : (headSpec _ _).room = R
  have hRf : R.frames = 3 := by rw [← hRe]; rfl
  have hRc : R.cells = 0 := by rw [← hRe]; rfl
  have hRs : R.slots = 0 := by rw [← hRe]; rfl
  have hRl : R.locals = 120 := by rw [← hRe]; rfl
  clear hRe
  refine lv_aload_n hx hb dX4_item_0 rfl (lv_at hl 0 rfl) ?_
  refine lv_iconst (v := 0) hx hb dX4_item_1 (by decide) ?_
  refine va_put (D := D) (ci := 4) (v := .int 0) (ty := .int) (C := RX4) (T := TX4) (N := 14) hx hb hts (fun _ h9 => List.mem_cons_of_mem _ (List.mem_append_right _ h9)) tyX4 tyX4_ok nmX4 hown hK hP hD hS 0 rfl rfl 0 (by decide) (hts (.fieldLink RX4 35 "PalletStackModel" "thrown" "I") (List.mem_of_getElem? (i := 1) (by rfl))) (fun _ h9 => h9) rfl (by decide +kernel) rfl rfl (Nat.le_of_ble_eq_true rfl) dX4_item_2 (fun H locs hP hD hS => ?_)
  have hP : va_P D vwCl ([(mo, .inr (4, [.int 0, .int 0, .ref kT, .int 20, .int 60, .int 2000, .int 0, .int 0, .ref tb, .ref ld, .int 0, .ref lK, .ref lC, .int 0]))]) H := hP
  have hD : va_D A ([(mo, .inr (4, [.int 0, .int 0, .ref kT, .int 20, .int 60, .int 2000, .int 0, .int 0, .ref tb, .ref ld, .int 0, .ref lK, .ref lC, .int 0]))]) := hD
  refine lv_aload_n hx hb dX4_item_5 rfl (lv_at hl 0 rfl) ?_
  refine lv_iload_n hx hb dX4_item_6 rfl (lv_at hl 1 rfl) ?_
  refine zrdV (As := [.int a]) (rest := []) (wc := [(mo, .inr (4, [.int 0, .int 0, .ref kT, .int 20, .int 60, .int 2000, .int 0, .int 0, .ref tb, .ref ld, .int 0, .ref lK, .ref lC, .int 0]))]) ⟨hx, hb, hml, hown, hts⟩ (c_isItem0 l D _ mo kT tb ld lK lC a) (cwV 1 hts gX4_item_X4_isItem rfl rfl rfl (by decide +kernel) ⟨by rw [hRf]; exact Nat.le_of_ble_eq_true rfl, by rw [hRl]; exact Nat.le_of_ble_eq_true rfl⟩) hK hP hD [0] rfl (by decide) [] rfl (ci := 4) (q0 := 0) rfl rfl rfl hl.1 rfl (Nat.le_of_ble_eq_true rfl) dX4_item_7 ⟨by omega, by omega⟩ (fun r_79 hr_79 => ?_)
  refine lv_topi (fun v_80 ev_80 => ?_)
  obtain rfl : v_80 = 0 := ev_80.trans hr_79
  refine lv_if_eq (tgt := 23) hx hb dX4_item_10 (by decide) (fun c_81 => ?_) (fun c_81 => absurd (rfl) c_81)
  refine lv_aload_n hx hb dX4_item_23 rfl (lv_at hl 0 rfl) ?_
  refine lv_iconst (v := 1) hx hb dX4_item_24 (by decide) ?_
  refine zcalliV (As := [.int 1]) (rest := []) (wc := [(mo, .inr (4, [.int 0, .int 0, .ref kT, .int 20, .int 60, .int 2000, .int 0, .int 0, .ref tb, .ref ld, .int 0, .ref lK, .ref lC, .int 0]))]) (wr := []) ⟨hx, hb, hml, hown, hts⟩ (c_fail l D _ mo kT tb ld lK lC 0 1) (cwV 1 hts gX4_item_X4_fail rfl rfl rfl (by decide +kernel) ⟨by rw [hRf]; exact Nat.le_of_ble_eq_true rfl, by rw [hRl]; exact Nat.le_of_ble_eq_true rfl⟩) hK hP hD hS hA [0] [] rfl (by decide) rfl (by decide) (by decide) [] rfl (ci := 4) (q0 := 0) rfl rfl rfl hl.1 rfl (Nat.le_of_ble_eq_true rfl) dX4_item_25 ⟨by omega, by omega⟩ (fun r_82 u_83 H locs hwu_83 hnu_83 hzu_83 hK hP hD hS => ?_)
  have hK : va_K D vwCl [] s := hK
  have hP : va_P D vwCl ([(mo, .inr (4, [.int 1, .int 0, .ref kT, .int 20, .int 60, .int 2000, .int 0, .int 0, .ref tb, .ref ld, .int 0, .ref lK, .ref lC, .int 0]))]) H := hP
  have hD : va_D A ([(mo, .inr (4, [.int 1, .int 0, .ref kT, .int 20, .int 60, .int 2000, .int 0, .int 0, .ref tb, .ref ld, .int 0, .ref lK, .ref lC, .int 0]))]) := hD
  refine lv_topi (fun v_84 ev_84 => ?_)
  obtain rfl : v_84 = 0 := ev_84.trans hwu_83
  have hP := hP.sub (ws' := [(mo, .inr (4, [.int 1, .int 0, .ref kT, .int 20, .int 60, .int 2000, .int 0, .int 0, .ref tb, .ref ld, .int 0, .ref lK, .ref lC, .int 0]))]) [0] rfl
  have hD := hD.sub (ws' := [(mo, .inr (4, [.int 1, .int 0, .ref kT, .int 20, .int 60, .int 2000, .int 0, .int 0, .ref tb, .ref ld, .int 0, .ref lK, .ref lC, .int 0]))]) [0] (by decide) rfl
  exact W.iret (v := 0) hx hb hr (fun t ht hW => ⟨⟨0, (), rfl, rfl, ⟨Nat.zero_le _, by rw [ht]; exact hP, va_K.moved hW.alike (hK.sub (tys' := []) [] rfl), hD⟩⟩, hS.F ht⟩) hS.2.2 dX4_item_28
set_option maxHeartbeats 4000000 in
set_option maxRecDepth 100000 in
theorem c_Mbest (l : Launch) (D : zG) (sz : Nat) (mo kT tb ld lK lC : Nat) (a : Int32) : Met l yX4_best wsX4_best ({ frames := 3, cells := 0, slots := 0, locals := 120 }) (zPc D [] ([(mo, .inr (4, [.int 0, .int 0, .ref kT, .int 20, .int 60, .int 2000, .int 0, .int 0, .ref tb, .ref ld, .int 0, .ref lK, .ref lC, .int 0]))]) sz [.ref mo, .int a]) (va_Qi (fun (r : Int32) (u : Unit) => r = 0) (zB D (va_A ([(mo, .inr (4, [.int 0, .int 0, .ref kT, .int 20, .int 60, .int 2000, .int 0, .int 0, .ref tb, .ref ld, .int 0, .ref lK, .ref lC, .int 0]))]) sz) (fun _ => []) 0 (fun _ => [(mo, .inr (4, [.int 1, .int 0, .ref kT, .int 20, .int 60, .int 2000, .int 0, .int 0, .ref tb, .ref ld, .int 0, .ref lK, .ref lC, .int 0]))])) (va_A ([(mo, .inr (4, [.int 0, .int 0, .ref kT, .int 20, .int 60, .int 2000, .int 0, .int 0, .ref tb, .ref ld, .int 0, .ref lK, .ref lC, .int 0]))]) sz)) 0 0 (va_A ([(mo, .inr (4, [.int 0, .int 0, .ref kT, .int 20, .int 60, .int 2000, .int 0, .int 0, .ref tb, .ref ld, .int 0, .ref lK, .ref lC, .int 0]))]) sz) := by
  refine Met.ofW (cc := cX4_best) (maxL := 2) (ret := (some .int)) (by decide) rfl ?_
  intro p e s m args below meth c s₁ B hml hv
  obtain ⟨rfl, hsz, hP, hK, hD0⟩ := hv
  have hx := B.exec
  have hb := B.bytes
  have hr := B.returns
  have hts := atoms_spec (ws := wsX4_best) B.pre
  have hown : s.vm.findClass RX4 = some m.cls := findClass_of_methodNamed B.named
  have hlocks := B.notSynchronized
  subst hsz
  have hD := hD0.self (sz := s.heap.size)
  generalize hAe : va_A ([(mo, .inr (4, [.int 0, .int 0, .ref kT, .int 20, .int 60, .int 2000, .int 0, .int 0, .ref tb, .ref ld, .int 0, .ref lK, .ref lC, .int 0]))]) s.heap.size = A at hD ⊢
  have hA : ∀ q : Nat, s.heap.size ≤ q → A q := fun q h => by rw [← hAe]; exact Or.inr h
  have hS : va_S A s.heap s.heap [] := va_S.rf
  have hl := lv_entry ([.ref mo, .int a]) (n := 2) (Nat.le_of_ble_eq_true rfl)
  rw [lg_entry_eq]
  generalize (lg_sl ([.ref mo, .int a]) ++ List.replicate (2 - (lg_sl ([.ref mo, .int a])).length) Slot.unset).toArray = ls at hl ⊢
  have hl : lv_has ls 2 [(0, .ref mo), (1, .int a)] := hl
  have hP : va_P D vwCl ([(mo, .inr (4, [.int 0, .int 0, .ref kT, .int 20, .int 60, .int 2000, .int 0, .int 0, .ref tb, .ref ld, .int 0, .ref lK, .ref lC, .int 0]))]) s.heap := hP
  generalize hRe : (headSpec _ _).room = R
  have hRf : R.frames = 3 := by rw [← hRe]; rfl
  have hRc : R.cells = 0 := by rw [← hRe]; rfl
  have hRs : R.slots = 0 := by rw [← hRe]; rfl
  have hRl : R.locals = 120 := by rw [← hRe]; rfl
  clear hRe
  refine lv_aload_n hx hb dX4_best_0 rfl (lv_at hl 0 rfl) ?_
  refine lv_iconst (v := 0) hx hb dX4_best_1 (by decide) ?_
  refine va_put (D := D) (ci := 4) (v := .int 0) (ty := .int) (C := RX4) (T := TX4) (N := 14) hx hb hts (fun _ h9 => List.mem_cons_of_mem _ (List.mem_append_right _ h9)) tyX4 tyX4_ok nmX4 hown hK hP hD hS 0 rfl rfl 0 (by decide) (hts (.fieldLink RX4 35 "PalletStackModel" "thrown" "I") (List.mem_of_getElem? (i := 1) (by rfl))) (fun _ h9 => h9) rfl (by decide +kernel) rfl rfl (Nat.le_of_ble_eq_true rfl) dX4_best_2 (fun H locs hP hD hS => ?_)
  have hP : va_P D vwCl ([(mo, .inr (4, [.int 0, .int 0, .ref kT, .int 20, .int 60, .int 2000, .int 0, .int 0, .ref tb, .ref ld, .int 0, .ref lK, .ref lC, .int 0]))]) H := hP
  have hD : va_D A ([(mo, .inr (4, [.int 0, .int 0, .ref kT, .int 20, .int 60, .int 2000, .int 0, .int 0, .ref tb, .ref ld, .int 0, .ref lK, .ref lC, .int 0]))]) := hD
  refine lv_aload_n hx hb dX4_best_5 rfl (lv_at hl 0 rfl) ?_
  refine lv_iload_n hx hb dX4_best_6 rfl (lv_at hl 1 rfl) ?_
  refine zrdV (As := [.int a]) (rest := []) (wc := [(mo, .inr (4, [.int 0, .int 0, .ref kT, .int 20, .int 60, .int 2000, .int 0, .int 0, .ref tb, .ref ld, .int 0, .ref lK, .ref lC, .int 0]))]) ⟨hx, hb, hml, hown, hts⟩ (c_isKind0 l D _ mo kT tb ld lK lC a) (cwV 1 hts gX4_best_X4_isKind rfl rfl rfl (by decide +kernel) ⟨by rw [hRf]; exact Nat.le_of_ble_eq_true rfl, by rw [hRl]; exact Nat.le_of_ble_eq_true rfl⟩) hK hP hD [0] rfl (by decide) [] rfl (ci := 4) (q0 := 0) rfl rfl rfl hl.1 rfl (Nat.le_of_ble_eq_true rfl) dX4_best_7 ⟨by omega, by omega⟩ (fun r_85 hr_85 => ?_)
  refine lv_topi (fun v_86 ev_86 => ?_)
  obtain rfl : v_86 = 0 := ev_86.trans hr_85
  refine lv_if_eq (tgt := 21) hx hb dX4_best_10 (by decide) (fun c_87 => ?_) (fun c_87 => absurd (rfl) c_87)
  refine lv_aload_n hx hb dX4_best_21 rfl (lv_at hl 0 rfl) ?_
  refine lv_iconst (v := 1) hx hb dX4_best_22 (by decide) ?_
  refine zcalliV (As := [.int 1]) (rest := []) (wc := [(mo, .inr (4, [.int 0, .int 0, .ref kT, .int 20, .int 60, .int 2000, .int 0, .int 0, .ref tb, .ref ld, .int 0, .ref lK, .ref lC, .int 0]))]) (wr := []) ⟨hx, hb, hml, hown, hts⟩ (c_fail l D _ mo kT tb ld lK lC 0 1) (cwV 1 hts gX4_best_X4_fail rfl rfl rfl (by decide +kernel) ⟨by rw [hRf]; exact Nat.le_of_ble_eq_true rfl, by rw [hRl]; exact Nat.le_of_ble_eq_true rfl⟩) hK hP hD hS hA [0] [] rfl (by decide) rfl (by decide) (by decide) [] rfl (ci := 4) (q0 := 0) rfl rfl rfl hl.1 rfl (Nat.le_of_ble_eq_true rfl) dX4_best_23 ⟨by omega, by omega⟩ (fun r_88 u_89 H locs hwu_89 hnu_89 hzu_89 hK hP hD hS => ?_)
  have hK : va_K D vwCl [] s := hK
  have hP : va_P D vwCl ([(mo, .inr (4, [.int 1, .int 0, .ref kT, .int 20, .int 60, .int 2000, .int 0, .int 0, .ref tb, .ref ld, .int 0, .ref lK, .ref lC, .int 0]))]) H := hP
  have hD : va_D A ([(mo, .inr (4, [.int 1, .int 0, .ref kT, .int 20, .int 60, .int 2000, .int 0, .int 0, .ref tb, .ref ld, .int 0, .ref lK, .ref lC, .int 0]))]) := hD
  refine lv_topi (fun v_90 ev_90 => ?_)
  obtain rfl : v_90 = 0 := ev_90.trans hwu_89
  have hP := hP.sub (ws' := [(mo, .inr (4, [.int 1, .int 0, .ref kT, .int 20, .int 60, .int 2000, .int 0, .int 0, .ref tb, .ref ld, .int 0, .ref lK, .ref lC, .int 0]))]) [0] rfl
  have hD := hD.sub (ws' := [(mo, .inr (4, [.int 1, .int 0, .ref kT, .int 20, .int 60, .int 2000, .int 0, .int 0, .ref tb, .ref ld, .int 0, .ref lK, .ref lC, .int 0]))]) [0] (by decide) rfl
  exact W.iret (v := 0) hx hb hr (fun t ht hW => ⟨⟨0, (), rfl, rfl, ⟨Nat.zero_le _, by rw [ht]; exact hP, va_K.moved hW.alike (hK.sub (tys' := []) [] rfl), hD⟩⟩, hS.F ht⟩) hS.2.2 dX4_best_26
set_option maxHeartbeats 4000000 in
set_option maxRecDepth 100000 in
theorem c_Mfill (l : Launch) (D : zG) (sz : Nat) (mo kT tb ld lK lC : Nat) (a b : Int32) : Met l yX4_fill wsX4_fill ({ frames := 3, cells := 0, slots := 0, locals := 120 }) (zPc D [] ([(mo, .inr (4, [.int 0, .int 0, .ref kT, .int 20, .int 60, .int 2000, .int 0, .int 0, .ref tb, .ref ld, .int 0, .ref lK, .ref lC, .int 0]))]) sz [.ref mo, .int a, .int b]) (va_Qi (fun (r : Int32) (u : Unit) => r = 0) (zB D (va_A ([(mo, .inr (4, [.int 0, .int 0, .ref kT, .int 20, .int 60, .int 2000, .int 0, .int 0, .ref tb, .ref ld, .int 0, .ref lK, .ref lC, .int 0]))]) sz) (fun _ => []) 0 (fun _ => [(mo, .inr (4, [.int 1, .int 0, .ref kT, .int 20, .int 60, .int 2000, .int 0, .int 0, .ref tb, .ref ld, .int 0, .ref lK, .ref lC, .int 0]))])) (va_A ([(mo, .inr (4, [.int 0, .int 0, .ref kT, .int 20, .int 60, .int 2000, .int 0, .int 0, .ref tb, .ref ld, .int 0, .ref lK, .ref lC, .int 0]))]) sz)) 0 0 (va_A ([(mo, .inr (4, [.int 0, .int 0, .ref kT, .int 20, .int 60, .int 2000, .int 0, .int 0, .ref tb, .ref ld, .int 0, .ref lK, .ref lC, .int 0]))]) sz) := by
  refine Met.ofW (cc := cX4_fill) (maxL := 4) (ret := (some .int)) (by decide) rfl ?_
  intro p e s m args below meth c s₁ B hml hv
  obtain ⟨rfl, hsz, hP, hK, hD0⟩ := hv
  have hx := B.exec
  have hb := B.bytes
  have hr := B.returns
  have hts := atoms_spec (ws := wsX4_fill) B.pre
  have hown : s.vm.findClass RX4 = some m.cls := findClass_of_methodNamed B.named
  have hlocks := B.notSynchronized
  subst hsz
  have hD := hD0.self (sz := s.heap.size)
  generalize hAe : va_A ([(mo, .inr (4, [.int 0, .int 0, .ref kT, .int 20, .int 60, .int 2000, .int 0, .int 0, .ref tb, .ref ld, .int 0, .ref lK, .ref lC, .int 0]))]) s.heap.size = A at hD ⊢
  have hA : ∀ q : Nat, s.heap.size ≤ q → A q := fun q h => by rw [← hAe]; exact Or.inr h
  have hS : va_S A s.heap s.heap [] := va_S.rf
  have hl := lv_entry ([.ref mo, .int a, .int b]) (n := 4) (Nat.le_of_ble_eq_true rfl)
  rw [lg_entry_eq]
  generalize (lg_sl ([.ref mo, .int a, .int b]) ++ List.replicate (4 - (lg_sl ([.ref mo, .int a, .int b])).length) Slot.unset).toArray = ls at hl ⊢
  have hl : lv_has ls 4 [(0, .ref mo), (1, .int a), (2, .int b)] := hl
  have hP : va_P D vwCl ([(mo, .inr (4, [.int 0, .int 0, .ref kT, .int 20, .int 60, .int 2000, .int 0, .int 0, .ref tb, .ref ld, .int 0, .ref lK, .ref lC, .int 0]))]) s.heap := hP
  generalize hRe : (headSpec _ _).room = R
  have hRf : R.frames = 3 := by rw [← hRe]; rfl
  have hRc : R.cells = 0 := by rw [← hRe]; rfl
  have hRs : R.slots = 0 := by rw [← hRe]; rfl
  have hRl : R.locals = 120 := by rw [← hRe]; rfl
  clear hRe
  refine lv_aload_n hx hb dX4_fill_0 rfl (lv_at hl 0 rfl) ?_
  refine lv_iconst (v := 0) hx hb dX4_fill_1 (by decide) ?_
  refine va_put (D := D) (ci := 4) (v := .int 0) (ty := .int) (C := RX4) (T := TX4) (N := 14) hx hb hts (fun _ h9 => List.mem_cons_of_mem _ (List.mem_append_right _ h9)) tyX4 tyX4_ok nmX4 hown hK hP hD hS 0 rfl rfl 0 (by decide) (hts (.fieldLink RX4 35 "PalletStackModel" "thrown" "I") (List.mem_of_getElem? (i := 1) (by rfl))) (fun _ h9 => h9) rfl (by decide +kernel) rfl rfl (Nat.le_of_ble_eq_true rfl) dX4_fill_2 (fun H locs hP hD hS => ?_)
  have hP : va_P D vwCl ([(mo, .inr (4, [.int 0, .int 0, .ref kT, .int 20, .int 60, .int 2000, .int 0, .int 0, .ref tb, .ref ld, .int 0, .ref lK, .ref lC, .int 0]))]) H := hP
  have hD : va_D A ([(mo, .inr (4, [.int 0, .int 0, .ref kT, .int 20, .int 60, .int 2000, .int 0, .int 0, .ref tb, .ref ld, .int 0, .ref lK, .ref lC, .int 0]))]) := hD
  refine lv_aload_n hx hb dX4_fill_5 rfl (lv_at hl 0 rfl) ?_
  refine lv_iload_n hx hb dX4_fill_6 rfl (lv_at hl 1 rfl) ?_
  refine zrdV (As := [.int a]) (rest := []) (wc := [(mo, .inr (4, [.int 0, .int 0, .ref kT, .int 20, .int 60, .int 2000, .int 0, .int 0, .ref tb, .ref ld, .int 0, .ref lK, .ref lC, .int 0]))]) ⟨hx, hb, hml, hown, hts⟩ (c_isKind0 l D _ mo kT tb ld lK lC a) (cwV 1 hts gX4_fill_X4_isKind rfl rfl rfl (by decide +kernel) ⟨by rw [hRf]; exact Nat.le_of_ble_eq_true rfl, by rw [hRl]; exact Nat.le_of_ble_eq_true rfl⟩) hK hP hD [0] rfl (by decide) [] rfl (ci := 4) (q0 := 0) rfl rfl rfl hl.1 rfl (Nat.le_of_ble_eq_true rfl) dX4_fill_7 ⟨by omega, by omega⟩ (fun r_91 hr_91 => ?_)
  refine lv_topi (fun v_92 ev_92 => ?_)
  obtain rfl : v_92 = 0 := ev_92.trans hr_91
  refine lv_if_ne (tgt := 19) hx hb dX4_fill_10 (by decide) (fun c_93 => absurd (rfl) c_93) (fun c_93 => ?_)
  refine lv_aload_n hx hb dX4_fill_13 rfl (lv_at hl 0 rfl) ?_
  refine lv_iconst (v := 1) hx hb dX4_fill_14 (by decide) ?_
  refine zcalliV (As := [.int 1]) (rest := []) (wc := [(mo, .inr (4, [.int 0, .int 0, .ref kT, .int 20, .int 60, .int 2000, .int 0, .int 0, .ref tb, .ref ld, .int 0, .ref lK, .ref lC, .int 0]))]) (wr := []) ⟨hx, hb, hml, hown, hts⟩ (c_fail l D _ mo kT tb ld lK lC 0 1) (cwV 1 hts gX4_fill_X4_fail rfl rfl rfl (by decide +kernel) ⟨by rw [hRf]; exact Nat.le_of_ble_eq_true rfl, by rw [hRl]; exact Nat.le_of_ble_eq_true rfl⟩) hK hP hD hS hA [0] [] rfl (by decide) rfl (by decide) (by decide) [] rfl (ci := 4) (q0 := 0) rfl rfl rfl hl.1 rfl (Nat.le_of_ble_eq_true rfl) dX4_fill_15 ⟨by omega, by omega⟩ (fun r_94 u_95 H locs hwu_95 hnu_95 hzu_95 hK hP hD hS => ?_)
  have hK : va_K D vwCl [] s := hK
  have hP : va_P D vwCl ([(mo, .inr (4, [.int 1, .int 0, .ref kT, .int 20, .int 60, .int 2000, .int 0, .int 0, .ref tb, .ref ld, .int 0, .ref lK, .ref lC, .int 0]))]) H := hP
  have hD : va_D A ([(mo, .inr (4, [.int 1, .int 0, .ref kT, .int 20, .int 60, .int 2000, .int 0, .int 0, .ref tb, .ref ld, .int 0, .ref lK, .ref lC, .int 0]))]) := hD
  refine lv_topi (fun v_96 ev_96 => ?_)
  obtain rfl : v_96 = 0 := ev_96.trans hwu_95
  have hP := hP.sub (ws' := [(mo, .inr (4, [.int 1, .int 0, .ref kT, .int 20, .int 60, .int 2000, .int 0, .int 0, .ref tb, .ref ld, .int 0, .ref lK, .ref lC, .int 0]))]) [0] rfl
  have hD := hD.sub (ws' := [(mo, .inr (4, [.int 1, .int 0, .ref kT, .int 20, .int 60, .int 2000, .int 0, .int 0, .ref tb, .ref ld, .int 0, .ref lK, .ref lC, .int 0]))]) [0] (by decide) rfl
  exact W.iret (v := 0) hx hb hr (fun t ht hW => ⟨⟨0, (), rfl, rfl, ⟨Nat.zero_le _, by rw [ht]; exact hP, va_K.moved hW.alike (hK.sub (tys' := []) [] rfl), hD⟩⟩, hS.F ht⟩) hS.2.2 dX4_fill_18
set_option maxHeartbeats 4000000 in
set_option maxRecDepth 100000 in
theorem c_MaddLine (l : Launch) (D : zG) (sz : Nat) (mo kT tb ld lK lC : Nat) (a b : Int32) : Met l yX4_addLine wsX4_addLine ({ frames := 3, cells := 0, slots := 0, locals := 120 }) (zPc D [] ([(mo, .inr (4, [.int 0, .int 0, .ref kT, .int 20, .int 60, .int 2000, .int 0, .int 0, .ref tb, .ref ld, .int 0, .ref lK, .ref lC, .int 0]))]) sz [.ref mo, .int a, .int b]) (va_Qi (fun (r : Int32) (u : Unit) => r = 0) (zB D (va_A ([(mo, .inr (4, [.int 0, .int 0, .ref kT, .int 20, .int 60, .int 2000, .int 0, .int 0, .ref tb, .ref ld, .int 0, .ref lK, .ref lC, .int 0]))]) sz) (fun _ => []) 0 (fun _ => [(mo, .inr (4, [.int 1, .int 0, .ref kT, .int 20, .int 60, .int 2000, .int 0, .int 0, .ref tb, .ref ld, .int 0, .ref lK, .ref lC, .int 0]))])) (va_A ([(mo, .inr (4, [.int 0, .int 0, .ref kT, .int 20, .int 60, .int 2000, .int 0, .int 0, .ref tb, .ref ld, .int 0, .ref lK, .ref lC, .int 0]))]) sz)) 0 0 (va_A ([(mo, .inr (4, [.int 0, .int 0, .ref kT, .int 20, .int 60, .int 2000, .int 0, .int 0, .ref tb, .ref ld, .int 0, .ref lK, .ref lC, .int 0]))]) sz) := by
  refine Met.ofW (cc := cX4_addLine) (maxL := 3) (ret := (some .int)) (by decide) rfl ?_
  intro p e s m args below meth c s₁ B hml hv
  obtain ⟨rfl, hsz, hP, hK, hD0⟩ := hv
  have hx := B.exec
  have hb := B.bytes
  have hr := B.returns
  have hts := atoms_spec (ws := wsX4_addLine) B.pre
  have hown : s.vm.findClass RX4 = some m.cls := findClass_of_methodNamed B.named
  have hlocks := B.notSynchronized
  subst hsz
  have hD := hD0.self (sz := s.heap.size)
  generalize hAe : va_A ([(mo, .inr (4, [.int 0, .int 0, .ref kT, .int 20, .int 60, .int 2000, .int 0, .int 0, .ref tb, .ref ld, .int 0, .ref lK, .ref lC, .int 0]))]) s.heap.size = A at hD ⊢
  have hA : ∀ q : Nat, s.heap.size ≤ q → A q := fun q h => by rw [← hAe]; exact Or.inr h
  have hS : va_S A s.heap s.heap [] := va_S.rf
  have hl := lv_entry ([.ref mo, .int a, .int b]) (n := 3) (Nat.le_of_ble_eq_true rfl)
  rw [lg_entry_eq]
  generalize (lg_sl ([.ref mo, .int a, .int b]) ++ List.replicate (3 - (lg_sl ([.ref mo, .int a, .int b])).length) Slot.unset).toArray = ls at hl ⊢
  have hl : lv_has ls 3 [(0, .ref mo), (1, .int a), (2, .int b)] := hl
  have hP : va_P D vwCl ([(mo, .inr (4, [.int 0, .int 0, .ref kT, .int 20, .int 60, .int 2000, .int 0, .int 0, .ref tb, .ref ld, .int 0, .ref lK, .ref lC, .int 0]))]) s.heap := hP
  generalize hRe : (headSpec _ _).room = R
  have hRf : R.frames = 3 := by rw [← hRe]; rfl
  have hRc : R.cells = 0 := by rw [← hRe]; rfl
  have hRs : R.slots = 0 := by rw [← hRe]; rfl
  have hRl : R.locals = 120 := by rw [← hRe]; rfl
  clear hRe
  refine lv_aload_n hx hb dX4_addLine_0 rfl (lv_at hl 0 rfl) ?_
  refine lv_iconst (v := 0) hx hb dX4_addLine_1 (by decide) ?_
  refine va_put (D := D) (ci := 4) (v := .int 0) (ty := .int) (C := RX4) (T := TX4) (N := 14) hx hb hts (fun _ h9 => List.mem_cons_of_mem _ (List.mem_append_right _ h9)) tyX4 tyX4_ok nmX4 hown hK hP hD hS 0 rfl rfl 0 (by decide) (hts (.fieldLink RX4 35 "PalletStackModel" "thrown" "I") (List.mem_of_getElem? (i := 1) (by rfl))) (fun _ h9 => h9) rfl (by decide +kernel) rfl rfl (Nat.le_of_ble_eq_true rfl) dX4_addLine_2 (fun H locs hP hD hS => ?_)
  have hP : va_P D vwCl ([(mo, .inr (4, [.int 0, .int 0, .ref kT, .int 20, .int 60, .int 2000, .int 0, .int 0, .ref tb, .ref ld, .int 0, .ref lK, .ref lC, .int 0]))]) H := hP
  have hD : va_D A ([(mo, .inr (4, [.int 0, .int 0, .ref kT, .int 20, .int 60, .int 2000, .int 0, .int 0, .ref tb, .ref ld, .int 0, .ref lK, .ref lC, .int 0]))]) := hD
  refine lv_aload_n hx hb dX4_addLine_5 rfl (lv_at hl 0 rfl) ?_
  refine lv_iload_n hx hb dX4_addLine_6 rfl (lv_at hl 1 rfl) ?_
  refine zrdV (As := [.int a]) (rest := []) (wc := [(mo, .inr (4, [.int 0, .int 0, .ref kT, .int 20, .int 60, .int 2000, .int 0, .int 0, .ref tb, .ref ld, .int 0, .ref lK, .ref lC, .int 0]))]) ⟨hx, hb, hml, hown, hts⟩ (c_isKind0 l D _ mo kT tb ld lK lC a) (cwV 1 hts gX4_addLine_X4_isKind rfl rfl rfl (by decide +kernel) ⟨by rw [hRf]; exact Nat.le_of_ble_eq_true rfl, by rw [hRl]; exact Nat.le_of_ble_eq_true rfl⟩) hK hP hD [0] rfl (by decide) [] rfl (ci := 4) (q0 := 0) rfl rfl rfl hl.1 rfl (Nat.le_of_ble_eq_true rfl) dX4_addLine_7 ⟨by omega, by omega⟩ (fun r_97 hr_97 => ?_)
  refine lv_topi (fun v_98 ev_98 => ?_)
  obtain rfl : v_98 = 0 := ev_98.trans hr_97
  refine lv_if_ne (tgt := 19) hx hb dX4_addLine_10 (by decide) (fun c_99 => absurd (rfl) c_99) (fun c_99 => ?_)
  refine lv_aload_n hx hb dX4_addLine_13 rfl (lv_at hl 0 rfl) ?_
  refine lv_iconst (v := 1) hx hb dX4_addLine_14 (by decide) ?_
  refine zcalliV (As := [.int 1]) (rest := []) (wc := [(mo, .inr (4, [.int 0, .int 0, .ref kT, .int 20, .int 60, .int 2000, .int 0, .int 0, .ref tb, .ref ld, .int 0, .ref lK, .ref lC, .int 0]))]) (wr := []) ⟨hx, hb, hml, hown, hts⟩ (c_fail l D _ mo kT tb ld lK lC 0 1) (cwV 1 hts gX4_addLine_X4_fail rfl rfl rfl (by decide +kernel) ⟨by rw [hRf]; exact Nat.le_of_ble_eq_true rfl, by rw [hRl]; exact Nat.le_of_ble_eq_true rfl⟩) hK hP hD hS hA [0] [] rfl (by decide) rfl (by decide) (by decide) [] rfl (ci := 4) (q0 := 0) rfl rfl rfl hl.1 rfl (Nat.le_of_ble_eq_true rfl) dX4_addLine_15 ⟨by omega, by omega⟩ (fun r_100 u_101 H locs hwu_101 hnu_101 hzu_101 hK hP hD hS => ?_)
  have hK : va_K D vwCl [] s := hK
  have hP : va_P D vwCl ([(mo, .inr (4, [.int 1, .int 0, .ref kT, .int 20, .int 60, .int 2000, .int 0, .int 0, .ref tb, .ref ld, .int 0, .ref lK, .ref lC, .int 0]))]) H := hP
  have hD : va_D A ([(mo, .inr (4, [.int 1, .int 0, .ref kT, .int 20, .int 60, .int 2000, .int 0, .int 0, .ref tb, .ref ld, .int 0, .ref lK, .ref lC, .int 0]))]) := hD
  refine lv_topi (fun v_102 ev_102 => ?_)
  obtain rfl : v_102 = 0 := ev_102.trans hwu_101
  have hP := hP.sub (ws' := [(mo, .inr (4, [.int 1, .int 0, .ref kT, .int 20, .int 60, .int 2000, .int 0, .int 0, .ref tb, .ref ld, .int 0, .ref lK, .ref lC, .int 0]))]) [0] rfl
  have hD := hD.sub (ws' := [(mo, .inr (4, [.int 1, .int 0, .ref kT, .int 20, .int 60, .int 2000, .int 0, .int 0, .ref tb, .ref ld, .int 0, .ref lK, .ref lC, .int 0]))]) [0] (by decide) rfl
  exact W.iret (v := 0) hx hb hr (fun t ht hW => ⟨⟨0, (), rfl, rfl, ⟨Nat.zero_le _, by rw [ht]; exact hP, va_K.moved hW.alike (hK.sub (tys' := []) [] rfl), hD⟩⟩, hS.F ht⟩) hS.2.2 dX4_addLine_18
set_option maxHeartbeats 4000000 in
set_option maxRecDepth 100000 in
theorem c_Mline (l : Launch) (D : zG) (sz : Nat) (mo kT tb ld lK lC : Nat) (a b : Int32) : Met l yX4_line wsX4_line ({ frames := 3, cells := 0, slots := 0, locals := 120 }) (zPc D [] ([(mo, .inr (4, [.int 0, .int 0, .ref kT, .int 20, .int 60, .int 2000, .int 0, .int 0, .ref tb, .ref ld, .int 0, .ref lK, .ref lC, .int 0]))]) sz [.ref mo, .int a, .int b]) (va_Qi (fun (r : Int32) (u : Unit) => r = 0) (zB D (va_A ([(mo, .inr (4, [.int 0, .int 0, .ref kT, .int 20, .int 60, .int 2000, .int 0, .int 0, .ref tb, .ref ld, .int 0, .ref lK, .ref lC, .int 0]))]) sz) (fun _ => []) 0 (fun _ => [(mo, .inr (4, [.int 1, .int 0, .ref kT, .int 20, .int 60, .int 2000, .int 0, .int 0, .ref tb, .ref ld, .int 0, .ref lK, .ref lC, .int 0]))])) (va_A ([(mo, .inr (4, [.int 0, .int 0, .ref kT, .int 20, .int 60, .int 2000, .int 0, .int 0, .ref tb, .ref ld, .int 0, .ref lK, .ref lC, .int 0]))]) sz)) 0 0 (va_A ([(mo, .inr (4, [.int 0, .int 0, .ref kT, .int 20, .int 60, .int 2000, .int 0, .int 0, .ref tb, .ref ld, .int 0, .ref lK, .ref lC, .int 0]))]) sz) := by
  refine Met.ofW (cc := cX4_line) (maxL := 3) (ret := (some .int)) (by decide) rfl ?_
  intro p e s m args below meth c s₁ B hml hv
  obtain ⟨rfl, hsz, hP, hK, hD0⟩ := hv
  have hx := B.exec
  have hb := B.bytes
  have hr := B.returns
  have hts := atoms_spec (ws := wsX4_line) B.pre
  have hown : s.vm.findClass RX4 = some m.cls := findClass_of_methodNamed B.named
  have hlocks := B.notSynchronized
  subst hsz
  have hD := hD0.self (sz := s.heap.size)
  generalize hAe : va_A ([(mo, .inr (4, [.int 0, .int 0, .ref kT, .int 20, .int 60, .int 2000, .int 0, .int 0, .ref tb, .ref ld, .int 0, .ref lK, .ref lC, .int 0]))]) s.heap.size = A at hD ⊢
  have hA : ∀ q : Nat, s.heap.size ≤ q → A q := fun q h => by rw [← hAe]; exact Or.inr h
  have hS : va_S A s.heap s.heap [] := va_S.rf
  have hl := lv_entry ([.ref mo, .int a, .int b]) (n := 3) (Nat.le_of_ble_eq_true rfl)
  rw [lg_entry_eq]
  generalize (lg_sl ([.ref mo, .int a, .int b]) ++ List.replicate (3 - (lg_sl ([.ref mo, .int a, .int b])).length) Slot.unset).toArray = ls at hl ⊢
  have hl : lv_has ls 3 [(0, .ref mo), (1, .int a), (2, .int b)] := hl
  have hP : va_P D vwCl ([(mo, .inr (4, [.int 0, .int 0, .ref kT, .int 20, .int 60, .int 2000, .int 0, .int 0, .ref tb, .ref ld, .int 0, .ref lK, .ref lC, .int 0]))]) s.heap := hP
  generalize hRe : (headSpec _ _).room = R
  have hRf : R.frames = 3 := by rw [← hRe]; rfl
  have hRc : R.cells = 0 := by rw [← hRe]; rfl
  have hRs : R.slots = 0 := by rw [← hRe]; rfl
  have hRl : R.locals = 120 := by rw [← hRe]; rfl
  clear hRe
  refine lv_aload_n hx hb dX4_line_0 rfl (lv_at hl 0 rfl) ?_
  refine lv_iconst (v := 0) hx hb dX4_line_1 (by decide) ?_
  refine va_put (D := D) (ci := 4) (v := .int 0) (ty := .int) (C := RX4) (T := TX4) (N := 14) hx hb hts (fun _ h9 => List.mem_cons_of_mem _ (List.mem_append_right _ h9)) tyX4 tyX4_ok nmX4 hown hK hP hD hS 0 rfl rfl 0 (by decide) (hts (.fieldLink RX4 35 "PalletStackModel" "thrown" "I") (List.mem_of_getElem? (i := 1) (by rfl))) (fun _ h9 => h9) rfl (by decide +kernel) rfl rfl (Nat.le_of_ble_eq_true rfl) dX4_line_2 (fun H locs hP hD hS => ?_)
  have hP : va_P D vwCl ([(mo, .inr (4, [.int 0, .int 0, .ref kT, .int 20, .int 60, .int 2000, .int 0, .int 0, .ref tb, .ref ld, .int 0, .ref lK, .ref lC, .int 0]))]) H := hP
  have hD : va_D A ([(mo, .inr (4, [.int 0, .int 0, .ref kT, .int 20, .int 60, .int 2000, .int 0, .int 0, .ref tb, .ref ld, .int 0, .ref lK, .ref lC, .int 0]))]) := hD
  refine lv_iload_n hx hb dX4_line_5 rfl (lv_at hl 1 rfl) ?_
  refine lv_iconst (v := 0) hx hb dX4_line_6 (by decide) ?_
  refine lv_aload_n hx hb dX4_line_7 rfl (lv_at hl 0 rfl) ?_
  refine va_get (D := D) (ci := 4) (v := .int 0) (C := RX4) (T := TX4) (N := 14) hx hb hts (fun _ h9 => List.mem_cons_of_mem _ (List.mem_append_right _ h9)) hown hK hP 0 rfl rfl 10 (by decide) (hts (.fieldLink RX4 70 "PalletStackModel" "lines" "I") (List.mem_of_getElem? (i := 2) (by rfl))) (fun _ h9 => h9) rfl dX4_line_8 ?_
  refine lv_iconst (v := 1) hx hb dX4_line_11 (by decide) ?_
  refine lv_isub hx hb dX4_line_12 ?_
  refine lv_topi (fun v_103 ev_103 => ?_)
  obtain rfl : v_103 = (-1) := ev_103.trans (by decide)
  refine zrdS (As := [.int a, .int 0, .int (-1)]) (rest := []) (wc := []) ⟨hx, hb, hml, hown, hts⟩ (c_isIn l D _ a 0 (-1)) (va_cwS 3 hts gX4_line_X4_isIn rfl rfl rfl (by decide +kernel) ⟨by rw [hRf]; exact Nat.le_of_ble_eq_true rfl, by rw [hRl]; exact Nat.le_of_ble_eq_true rfl⟩) hK hP hD [] rfl (by decide) [] rfl rfl hl.1 rfl (Nat.le_of_ble_eq_true rfl) dX4_line_13 ⟨by omega, by omega⟩ (fun r_104 hr_104 => ?_)
  refine lv_topi (fun v_105 ev_105 => ?_)
  obtain rfl : v_105 = 0 := ev_105.trans (hr_104.trans (if_neg (fun h9 => absurd (Int32.le_trans h9.1 h9.2) (by decide))))
  refine lv_if_ne (tgt := 25) hx hb dX4_line_16 (by decide) (fun c_106 => absurd (rfl) c_106) (fun c_106 => ?_)
  refine lv_aload_n hx hb dX4_line_19 rfl (lv_at hl 0 rfl) ?_
  refine lv_iconst (v := 1) hx hb dX4_line_20 (by decide) ?_
  refine zcalliV (As := [.int 1]) (rest := []) (wc := [(mo, .inr (4, [.int 0, .int 0, .ref kT, .int 20, .int 60, .int 2000, .int 0, .int 0, .ref tb, .ref ld, .int 0, .ref lK, .ref lC, .int 0]))]) (wr := []) ⟨hx, hb, hml, hown, hts⟩ (c_fail l D _ mo kT tb ld lK lC 0 1) (cwV 1 hts gX4_line_X4_fail rfl rfl rfl (by decide +kernel) ⟨by rw [hRf]; exact Nat.le_of_ble_eq_true rfl, by rw [hRl]; exact Nat.le_of_ble_eq_true rfl⟩) hK hP hD hS hA [0] [] rfl (by decide) rfl (by decide) (by decide) [] rfl (ci := 4) (q0 := 0) rfl rfl rfl hl.1 rfl (Nat.le_of_ble_eq_true rfl) dX4_line_21 ⟨by omega, by omega⟩ (fun r_107 u_108 H locs hwu_108 hnu_108 hzu_108 hK hP hD hS => ?_)
  have hK : va_K D vwCl [] s := hK
  have hP : va_P D vwCl ([(mo, .inr (4, [.int 1, .int 0, .ref kT, .int 20, .int 60, .int 2000, .int 0, .int 0, .ref tb, .ref ld, .int 0, .ref lK, .ref lC, .int 0]))]) H := hP
  have hD : va_D A ([(mo, .inr (4, [.int 1, .int 0, .ref kT, .int 20, .int 60, .int 2000, .int 0, .int 0, .ref tb, .ref ld, .int 0, .ref lK, .ref lC, .int 0]))]) := hD
  refine lv_topi (fun v_109 ev_109 => ?_)
  obtain rfl : v_109 = 0 := ev_109.trans hwu_108
  have hP := hP.sub (ws' := [(mo, .inr (4, [.int 1, .int 0, .ref kT, .int 20, .int 60, .int 2000, .int 0, .int 0, .ref tb, .ref ld, .int 0, .ref lK, .ref lC, .int 0]))]) [0] rfl
  have hD := hD.sub (ws' := [(mo, .inr (4, [.int 1, .int 0, .ref kT, .int 20, .int 60, .int 2000, .int 0, .int 0, .ref tb, .ref ld, .int 0, .ref lK, .ref lC, .int 0]))]) [0] (by decide) rfl
  exact W.iret (v := 0) hx hb hr (fun t ht hW => ⟨⟨0, (), rfl, rfl, ⟨Nat.zero_le _, by rw [ht]; exact hP, va_K.moved hW.alike (hK.sub (tys' := []) [] rfl), hD⟩⟩, hS.F ht⟩) hS.2.2 dX4_line_24
set_option maxHeartbeats 4000000 in
set_option maxRecDepth 100000 in
theorem c_MrestsOn (l : Launch) (D : zG) (sz : Nat) (mo kT tb ld lK lC : Nat) (a b : Int32) : Met l yX4_restsOn wsX4_restsOn ({ frames := 3, cells := 0, slots := 0, locals := 120 }) (zPc D [] ([(mo, .inr (4, [.int 0, .int 0, .ref kT, .int 20, .int 60, .int 2000, .int 0, .int 0, .ref tb, .ref ld, .int 0, .ref lK, .ref lC, .int 0]))]) sz [.ref mo, .int a, .int b]) (va_Qi (fun (r : Int32) (u : Unit) => r = 0) (zB D (va_A ([(mo, .inr (4, [.int 0, .int 0, .ref kT, .int 20, .int 60, .int 2000, .int 0, .int 0, .ref tb, .ref ld, .int 0, .ref lK, .ref lC, .int 0]))]) sz) (fun _ => []) 0 (fun _ => [(mo, .inr (4, [.int 1, .int 0, .ref kT, .int 20, .int 60, .int 2000, .int 0, .int 0, .ref tb, .ref ld, .int 0, .ref lK, .ref lC, .int 0]))])) (va_A ([(mo, .inr (4, [.int 0, .int 0, .ref kT, .int 20, .int 60, .int 2000, .int 0, .int 0, .ref tb, .ref ld, .int 0, .ref lK, .ref lC, .int 0]))]) sz)) 0 0 (va_A ([(mo, .inr (4, [.int 0, .int 0, .ref kT, .int 20, .int 60, .int 2000, .int 0, .int 0, .ref tb, .ref ld, .int 0, .ref lK, .ref lC, .int 0]))]) sz) := by
  refine Met.ofW (cc := cX4_restsOn) (maxL := 3) (ret := (some .boolean)) (by decide) rfl ?_
  intro p e s m args below meth c s₁ B hml hv
  obtain ⟨rfl, hsz, hP, hK, hD0⟩ := hv
  have hx := B.exec
  have hb := B.bytes
  have hr := B.returns
  have hts := atoms_spec (ws := wsX4_restsOn) B.pre
  have hown : s.vm.findClass RX4 = some m.cls := findClass_of_methodNamed B.named
  have hlocks := B.notSynchronized
  subst hsz
  have hD := hD0.self (sz := s.heap.size)
  generalize hAe : va_A ([(mo, .inr (4, [.int 0, .int 0, .ref kT, .int 20, .int 60, .int 2000, .int 0, .int 0, .ref tb, .ref ld, .int 0, .ref lK, .ref lC, .int 0]))]) s.heap.size = A at hD ⊢
  have hA : ∀ q : Nat, s.heap.size ≤ q → A q := fun q h => by rw [← hAe]; exact Or.inr h
  have hS : va_S A s.heap s.heap [] := va_S.rf
  have hl := lv_entry ([.ref mo, .int a, .int b]) (n := 3) (Nat.le_of_ble_eq_true rfl)
  rw [lg_entry_eq]
  generalize (lg_sl ([.ref mo, .int a, .int b]) ++ List.replicate (3 - (lg_sl ([.ref mo, .int a, .int b])).length) Slot.unset).toArray = ls at hl ⊢
  have hl : lv_has ls 3 [(0, .ref mo), (1, .int a), (2, .int b)] := hl
  have hP : va_P D vwCl ([(mo, .inr (4, [.int 0, .int 0, .ref kT, .int 20, .int 60, .int 2000, .int 0, .int 0, .ref tb, .ref ld, .int 0, .ref lK, .ref lC, .int 0]))]) s.heap := hP
  generalize hRe : (headSpec _ _).room = R
  have hRf : R.frames = 3 := by rw [← hRe]; rfl
  have hRc : R.cells = 0 := by rw [← hRe]; rfl
  have hRs : R.slots = 0 := by rw [← hRe]; rfl
  have hRl : R.locals = 120 := by rw [← hRe]; rfl
  clear hRe
  refine lv_aload_n hx hb dX4_restsOn_0 rfl (lv_at hl 0 rfl) ?_
  refine lv_aload_n hx hb dX4_restsOn_1 rfl (lv_at hl 0 rfl) ?_
  refine lv_iload_n hx hb dX4_restsOn_2 rfl (lv_at hl 1 rfl) ?_
  refine zrdV (As := [.int a]) (rest := [.ref mo]) (wc := [(mo, .inr (4, [.int 0, .int 0, .ref kT, .int 20, .int 60, .int 2000, .int 0, .int 0, .ref tb, .ref ld, .int 0, .ref lK, .ref lC, .int 0]))]) ⟨hx, hb, hml, hown, hts⟩ (c_isItem0 l D _ mo kT tb ld lK lC a) (cwV 1 hts gX4_restsOn_X4_isItem rfl rfl rfl (by decide +kernel) ⟨by rw [hRf]; exact Nat.le_of_ble_eq_true rfl, by rw [hRl]; exact Nat.le_of_ble_eq_true rfl⟩) hK hP hD [0] rfl (by decide) [] rfl (ci := 4) (q0 := 0) rfl rfl rfl hl.1 rfl (Nat.le_of_ble_eq_true rfl) dX4_restsOn_3 ⟨by omega, by omega⟩ (fun r_110 hr_110 => ?_)
  refine lv_topi (fun v_111 ev_111 => ?_)
  obtain rfl : v_111 = 0 := ev_111.trans hr_110
  refine lv_if_eq (tgt := 21) hx hb dX4_restsOn_6 (by decide) (fun c_112 => ?_) (fun c_112 => absurd (rfl) c_112)
  refine lv_iconst (v := 1) hx hb dX4_restsOn_21 (by decide) ?_
  refine va_put (D := D) (ci := 4) (v := .int 1) (ty := .int) (C := RX4) (T := TX4) (N := 14) hx hb hts (fun _ h9 => List.mem_cons_of_mem _ (List.mem_append_right _ h9)) tyX4 tyX4_ok nmX4 hown hK hP hD hS 0 rfl rfl 0 (by decide) (hts (.fieldLink RX4 35 "PalletStackModel" "thrown" "I") (List.mem_of_getElem? (i := 1) (by rfl))) (fun _ h9 => h9) rfl (by decide +kernel) rfl rfl (Nat.le_of_ble_eq_true rfl) dX4_restsOn_22 (fun H locs hP hD hS => ?_)
  have hP : va_P D vwCl ([(mo, .inr (4, [.int 1, .int 0, .ref kT, .int 20, .int 60, .int 2000, .int 0, .int 0, .ref tb, .ref ld, .int 0, .ref lK, .ref lC, .int 0]))]) H := hP
  have hD : va_D A ([(mo, .inr (4, [.int 1, .int 0, .ref kT, .int 20, .int 60, .int 2000, .int 0, .int 0, .ref tb, .ref ld, .int 0, .ref lK, .ref lC, .int 0]))]) := hD
  refine lv_aload_n hx hb dX4_restsOn_25 rfl (lv_at hl 0 rfl) ?_
  refine va_get (D := D) (ci := 4) (v := .int 1) (C := RX4) (T := TX4) (N := 14) hx hb hts (fun _ h9 => List.mem_cons_of_mem _ (List.mem_append_right _ h9)) hown hK hP 0 rfl rfl 0 (by decide) (hts (.fieldLink RX4 35 "PalletStackModel" "thrown" "I") (List.mem_of_getElem? (i := 1) (by rfl))) (fun _ h9 => h9) rfl dX4_restsOn_26 ?_
  refine lv_if_ne (tgt := 45) hx hb dX4_restsOn_29 (by decide) (fun c_113 => ?_) (fun c_113 => absurd c_113 (by decide))
  refine lv_iconst (v := 0) hx hb dX4_restsOn_45 (by decide) ?_
  exact W.zret (ty := .boolean) (v := 0) hx hb hr rfl (fun t ht hW => ⟨⟨0, (), rfl, rfl, ⟨Nat.zero_le _, by rw [ht]; exact hP, va_K.moved hW.alike (hK.sub (tys' := []) [] rfl), hD⟩⟩, hS.F ht⟩) hS.2.2 dX4_restsOn_46
set_option maxHeartbeats 4000000 in
set_option maxRecDepth 100000 in
theorem c_Mcount_ok (l : Launch) (D : zG) (sz : Nat) (mo kT tb ld lK lC : Nat) (a : Int32) (ha : (0 ≤ a ∧ a ≤ 3)) : Met l yX4_count wsX4_count ({ frames := 3, cells := 0, slots := 0, locals := 120 }) (zPc D [] ([(mo, .inr (4, [.int 0, .int 0, .ref kT, .int 20, .int 60, .int 2000, .int 0, .int 0, .ref tb, .ref ld, .int 0, .ref lK, .ref lC, .int 0]))]) sz [.ref mo, .int a]) (va_Qi (fun (r : Int32) (u : Unit) => r = 0) (zB D (va_A ([(mo, .inr (4, [.int 0, .int 0, .ref kT, .int 20, .int 60, .int 2000, .int 0, .int 0, .ref tb, .ref ld, .int 0, .ref lK, .ref lC, .int 0]))]) sz) (fun _ => []) 0 (fun _ => [(mo, .inr (4, [.int 0, .int 0, .ref kT, .int 20, .int 60, .int 2000, .int 0, .int 0, .ref tb, .ref ld, .int 0, .ref lK, .ref lC, .int 0]))])) (va_A ([(mo, .inr (4, [.int 0, .int 0, .ref kT, .int 20, .int 60, .int 2000, .int 0, .int 0, .ref tb, .ref ld, .int 0, .ref lK, .ref lC, .int 0]))]) sz)) 0 0 (va_A ([(mo, .inr (4, [.int 0, .int 0, .ref kT, .int 20, .int 60, .int 2000, .int 0, .int 0, .ref tb, .ref ld, .int 0, .ref lK, .ref lC, .int 0]))]) sz) := by
  refine Met.ofW (cc := cX4_count) (maxL := 2) (ret := (some .int)) (by decide) rfl ?_
  intro p e s m args below meth c s₁ B hml hv
  obtain ⟨rfl, hsz, hP, hK, hD0⟩ := hv
  have hx := B.exec
  have hb := B.bytes
  have hr := B.returns
  have hts := atoms_spec (ws := wsX4_count) B.pre
  have hown : s.vm.findClass RX4 = some m.cls := findClass_of_methodNamed B.named
  have hlocks := B.notSynchronized
  subst hsz
  have hD := hD0.self (sz := s.heap.size)
  generalize hAe : va_A ([(mo, .inr (4, [.int 0, .int 0, .ref kT, .int 20, .int 60, .int 2000, .int 0, .int 0, .ref tb, .ref ld, .int 0, .ref lK, .ref lC, .int 0]))]) s.heap.size = A at hD ⊢
  have hA : ∀ q : Nat, s.heap.size ≤ q → A q := fun q h => by rw [← hAe]; exact Or.inr h
  have hS : va_S A s.heap s.heap [] := va_S.rf
  have hl := lv_entry ([.ref mo, .int a]) (n := 2) (Nat.le_of_ble_eq_true rfl)
  rw [lg_entry_eq]
  generalize (lg_sl ([.ref mo, .int a]) ++ List.replicate (2 - (lg_sl ([.ref mo, .int a])).length) Slot.unset).toArray = ls at hl ⊢
  have hl : lv_has ls 2 [(0, .ref mo), (1, .int a)] := hl
  have hP : va_P D vwCl ([(mo, .inr (4, [.int 0, .int 0, .ref kT, .int 20, .int 60, .int 2000, .int 0, .int 0, .ref tb, .ref ld, .int 0, .ref lK, .ref lC, .int 0]))]) s.heap := hP
  generalize hRe : (headSpec _ _).room = R
  have hRf : R.frames = 3 := by rw [← hRe]; rfl
  have hRc : R.cells = 0 := by rw [← hRe]; rfl
  have hRs : R.slots = 0 := by rw [← hRe]; rfl
  have hRl : R.locals = 120 := by rw [← hRe]; rfl
  clear hRe
  refine lv_aload_n hx hb dX4_count_0 rfl (lv_at hl 0 rfl) ?_
  refine lv_iconst (v := 0) hx hb dX4_count_1 (by decide) ?_
  refine va_put (D := D) (ci := 4) (v := .int 0) (ty := .int) (C := RX4) (T := TX4) (N := 14) hx hb hts (fun _ h9 => List.mem_cons_of_mem _ (List.mem_append_right _ h9)) tyX4 tyX4_ok nmX4 hown hK hP hD hS 0 rfl rfl 0 (by decide) (hts (.fieldLink RX4 35 "PalletStackModel" "thrown" "I") (List.mem_of_getElem? (i := 1) (by rfl))) (fun _ h9 => h9) rfl (by decide +kernel) rfl rfl (Nat.le_of_ble_eq_true rfl) dX4_count_2 (fun H locs hP hD hS => ?_)
  have hP : va_P D vwCl ([(mo, .inr (4, [.int 0, .int 0, .ref kT, .int 20, .int 60, .int 2000, .int 0, .int 0, .ref tb, .ref ld, .int 0, .ref lK, .ref lC, .int 0]))]) H := hP
  have hD : va_D A ([(mo, .inr (4, [.int 0, .int 0, .ref kT, .int 20, .int 60, .int 2000, .int 0, .int 0, .ref tb, .ref ld, .int 0, .ref lK, .ref lC, .int 0]))]) := hD
  refine lv_iload_n hx hb dX4_count_5 rfl (lv_at hl 1 rfl) ?_
  refine lv_iconst (v := 0) hx hb dX4_count_6 (by decide) ?_
  refine lv_iconst (v := 3) hx hb dX4_count_7 (by decide) ?_
  refine zrdS (As := [.int a, .int 0, .int 3]) (rest := []) (wc := []) ⟨hx, hb, hml, hown, hts⟩ (c_isIn l D _ a 0 3) (va_cwS 3 hts gX4_count_X4_isIn rfl rfl rfl (by decide +kernel) ⟨by rw [hRf]; exact Nat.le_of_ble_eq_true rfl, by rw [hRl]; exact Nat.le_of_ble_eq_true rfl⟩) hK hP hD [] rfl (by decide) [] rfl rfl hl.1 rfl (Nat.le_of_ble_eq_true rfl) dX4_count_8 ⟨by omega, by omega⟩ (fun r_114 hr_114 => ?_)
  refine lv_topi (fun v_115 ev_115 => ?_)
  obtain rfl : v_115 = 1 := ev_115.trans (hr_114.trans (if_pos ha))
  refine lv_if_eq (tgt := 22) hx hb dX4_count_11 (by decide) (fun c_116 => absurd c_116 (by decide)) (fun c_116 => ?_)
  refine lv_aload_n hx hb dX4_count_14 rfl (lv_at hl 0 rfl) ?_
  refine lv_iload_n hx hb dX4_count_15 rfl (lv_at hl 1 rfl) ?_
  refine zrdV (As := [.int a]) (rest := []) (wc := [(mo, .inr (4, [.int 0, .int 0, .ref kT, .int 20, .int 60, .int 2000, .int 0, .int 0, .ref tb, .ref ld, .int 0, .ref lK, .ref lC, .int 0]))]) ⟨hx, hb, hml, hown, hts⟩ (c_counted0 l D _ mo kT tb ld lK lC a ha) (cwV 1 hts gX4_count_X4_counted rfl rfl rfl (by decide +kernel) ⟨by rw [hRf]; exact Nat.le_of_ble_eq_true rfl, by rw [hRl]; exact Nat.le_of_ble_eq_true rfl⟩) hK hP hD [0] rfl (by decide) [] rfl (ci := 4) (q0 := 0) rfl rfl rfl hl.1 rfl (Nat.le_of_ble_eq_true rfl) dX4_count_16 ⟨by omega, by omega⟩ (fun r_117 hr_117 => ?_)
  refine lv_topi (fun v_118 ev_118 => ?_)
  obtain rfl : v_118 = 0 := ev_118.trans hr_117
  refine lv_goto (tgt := 27) hx hb dX4_count_19 (by decide) ?_
  have hP := hP.sub (ws' := [(mo, .inr (4, [.int 0, .int 0, .ref kT, .int 20, .int 60, .int 2000, .int 0, .int 0, .ref tb, .ref ld, .int 0, .ref lK, .ref lC, .int 0]))]) [0] rfl
  have hD := hD.sub (ws' := [(mo, .inr (4, [.int 0, .int 0, .ref kT, .int 20, .int 60, .int 2000, .int 0, .int 0, .ref tb, .ref ld, .int 0, .ref lK, .ref lC, .int 0]))]) [0] (by decide) rfl
  exact W.iret (v := 0) hx hb hr (fun t ht hW => ⟨⟨0, (), rfl, rfl, ⟨Nat.zero_le _, by rw [ht]; exact hP, va_K.moved hW.alike (hK.sub (tys' := []) [] rfl), hD⟩⟩, hS.F ht⟩) hS.2.2 dX4_count_27
set_option maxHeartbeats 4000000 in
set_option maxRecDepth 100000 in
theorem c_Mcount_x (l : Launch) (D : zG) (sz : Nat) (mo kT tb ld lK lC : Nat) (a : Int32) (ha : ¬ (0 ≤ a ∧ a ≤ 3)) : Met l yX4_count wsX4_count ({ frames := 3, cells := 0, slots := 0, locals := 120 }) (zPc D [] ([(mo, .inr (4, [.int 0, .int 0, .ref kT, .int 20, .int 60, .int 2000, .int 0, .int 0, .ref tb, .ref ld, .int 0, .ref lK, .ref lC, .int 0]))]) sz [.ref mo, .int a]) (va_Qi (fun (r : Int32) (u : Unit) => r = 0) (zB D (va_A ([(mo, .inr (4, [.int 0, .int 0, .ref kT, .int 20, .int 60, .int 2000, .int 0, .int 0, .ref tb, .ref ld, .int 0, .ref lK, .ref lC, .int 0]))]) sz) (fun _ => []) 0 (fun _ => [(mo, .inr (4, [.int 1, .int 0, .ref kT, .int 20, .int 60, .int 2000, .int 0, .int 0, .ref tb, .ref ld, .int 0, .ref lK, .ref lC, .int 0]))])) (va_A ([(mo, .inr (4, [.int 0, .int 0, .ref kT, .int 20, .int 60, .int 2000, .int 0, .int 0, .ref tb, .ref ld, .int 0, .ref lK, .ref lC, .int 0]))]) sz)) 0 0 (va_A ([(mo, .inr (4, [.int 0, .int 0, .ref kT, .int 20, .int 60, .int 2000, .int 0, .int 0, .ref tb, .ref ld, .int 0, .ref lK, .ref lC, .int 0]))]) sz) := by
  refine Met.ofW (cc := cX4_count) (maxL := 2) (ret := (some .int)) (by decide) rfl ?_
  intro p e s m args below meth c s₁ B hml hv
  obtain ⟨rfl, hsz, hP, hK, hD0⟩ := hv
  have hx := B.exec
  have hb := B.bytes
  have hr := B.returns
  have hts := atoms_spec (ws := wsX4_count) B.pre
  have hown : s.vm.findClass RX4 = some m.cls := findClass_of_methodNamed B.named
  have hlocks := B.notSynchronized
  subst hsz
  have hD := hD0.self (sz := s.heap.size)
  generalize hAe : va_A ([(mo, .inr (4, [.int 0, .int 0, .ref kT, .int 20, .int 60, .int 2000, .int 0, .int 0, .ref tb, .ref ld, .int 0, .ref lK, .ref lC, .int 0]))]) s.heap.size = A at hD ⊢
  have hA : ∀ q : Nat, s.heap.size ≤ q → A q := fun q h => by rw [← hAe]; exact Or.inr h
  have hS : va_S A s.heap s.heap [] := va_S.rf
  have hl := lv_entry ([.ref mo, .int a]) (n := 2) (Nat.le_of_ble_eq_true rfl)
  rw [lg_entry_eq]
  generalize (lg_sl ([.ref mo, .int a]) ++ List.replicate (2 - (lg_sl ([.ref mo, .int a])).length) Slot.unset).toArray = ls at hl ⊢
  have hl : lv_has ls 2 [(0, .ref mo), (1, .int a)] := hl
  have hP : va_P D vwCl ([(mo, .inr (4, [.int 0, .int 0, .ref kT, .int 20, .int 60, .int 2000, .int 0, .int 0, .ref tb, .ref ld, .int 0, .ref lK, .ref lC, .int 0]))]) s.heap := hP
  generalize hRe : (headSpec _ _).room = R
  have hRf : R.frames = 3 := by rw [← hRe]; rfl
  have hRc : R.cells = 0 := by rw [← hRe]; rfl
  have hRs : R.slots = 0 := by rw [← hRe]; rfl
  have hRl : R.locals = 120 := by rw [← hRe]; rfl
  clear hRe
  refine lv_aload_n hx hb dX4_count_0 rfl (lv_at hl 0 rfl) ?_
  refine lv_iconst (v := 0) hx hb dX4_count_1 (by decide) ?_
  refine va_put (D := D) (ci := 4) (v := .int 0) (ty := .int) (C := RX4) (T := TX4) (N := 14) hx hb hts (fun _ h9 => List.mem_cons_of_mem _ (List.mem_append_right _ h9)) tyX4 tyX4_ok nmX4 hown hK hP hD hS 0 rfl rfl 0 (by decide) (hts (.fieldLink RX4 35 "PalletStackModel" "thrown" "I") (List.mem_of_getElem? (i := 1) (by rfl))) (fun _ h9 => h9) rfl (by decide +kernel) rfl rfl (Nat.le_of_ble_eq_true rfl) dX4_count_2 (fun H locs hP hD hS => ?_)
  have hP : va_P D vwCl ([(mo, .inr (4, [.int 0, .int 0, .ref kT, .int 20, .int 60, .int 2000, .int 0, .int 0, .ref tb, .ref ld, .int 0, .ref lK, .ref lC, .int 0]))]) H := hP
  have hD : va_D A ([(mo, .inr (4, [.int 0, .int 0, .ref kT, .int 20, .int 60, .int 2000, .int 0, .int 0, .ref tb, .ref ld, .int 0, .ref lK, .ref lC, .int 0]))]) := hD
  refine lv_iload_n hx hb dX4_count_5 rfl (lv_at hl 1 rfl) ?_
  refine lv_iconst (v := 0) hx hb dX4_count_6 (by decide) ?_
  refine lv_iconst (v := 3) hx hb dX4_count_7 (by decide) ?_
  refine zrdS (As := [.int a, .int 0, .int 3]) (rest := []) (wc := []) ⟨hx, hb, hml, hown, hts⟩ (c_isIn l D _ a 0 3) (va_cwS 3 hts gX4_count_X4_isIn rfl rfl rfl (by decide +kernel) ⟨by rw [hRf]; exact Nat.le_of_ble_eq_true rfl, by rw [hRl]; exact Nat.le_of_ble_eq_true rfl⟩) hK hP hD [] rfl (by decide) [] rfl rfl hl.1 rfl (Nat.le_of_ble_eq_true rfl) dX4_count_8 ⟨by omega, by omega⟩ (fun r_119 hr_119 => ?_)
  refine lv_topi (fun v_120 ev_120 => ?_)
  obtain rfl : v_120 = 0 := ev_120.trans (hr_119.trans (if_neg ha))
  refine lv_if_eq (tgt := 22) hx hb dX4_count_11 (by decide) (fun c_121 => ?_) (fun c_121 => absurd (rfl) c_121)
  refine lv_aload_n hx hb dX4_count_22 rfl (lv_at hl 0 rfl) ?_
  refine lv_iconst (v := 1) hx hb dX4_count_23 (by decide) ?_
  refine zcalliV (As := [.int 1]) (rest := []) (wc := [(mo, .inr (4, [.int 0, .int 0, .ref kT, .int 20, .int 60, .int 2000, .int 0, .int 0, .ref tb, .ref ld, .int 0, .ref lK, .ref lC, .int 0]))]) (wr := []) ⟨hx, hb, hml, hown, hts⟩ (c_fail l D _ mo kT tb ld lK lC 0 1) (cwV 1 hts gX4_count_X4_fail rfl rfl rfl (by decide +kernel) ⟨by rw [hRf]; exact Nat.le_of_ble_eq_true rfl, by rw [hRl]; exact Nat.le_of_ble_eq_true rfl⟩) hK hP hD hS hA [0] [] rfl (by decide) rfl (by decide) (by decide) [] rfl (ci := 4) (q0 := 0) rfl rfl rfl hl.1 rfl (Nat.le_of_ble_eq_true rfl) dX4_count_24 ⟨by omega, by omega⟩ (fun r_122 u_123 H locs hwu_123 hnu_123 hzu_123 hK hP hD hS => ?_)
  have hK : va_K D vwCl [] s := hK
  have hP : va_P D vwCl ([(mo, .inr (4, [.int 1, .int 0, .ref kT, .int 20, .int 60, .int 2000, .int 0, .int 0, .ref tb, .ref ld, .int 0, .ref lK, .ref lC, .int 0]))]) H := hP
  have hD : va_D A ([(mo, .inr (4, [.int 1, .int 0, .ref kT, .int 20, .int 60, .int 2000, .int 0, .int 0, .ref tb, .ref ld, .int 0, .ref lK, .ref lC, .int 0]))]) := hD
  refine lv_topi (fun v_124 ev_124 => ?_)
  obtain rfl : v_124 = 0 := ev_124.trans hwu_123
  have hP := hP.sub (ws' := [(mo, .inr (4, [.int 1, .int 0, .ref kT, .int 20, .int 60, .int 2000, .int 0, .int 0, .ref tb, .ref ld, .int 0, .ref lK, .ref lC, .int 0]))]) [0] rfl
  have hD := hD.sub (ws' := [(mo, .inr (4, [.int 1, .int 0, .ref kT, .int 20, .int 60, .int 2000, .int 0, .int 0, .ref tb, .ref ld, .int 0, .ref lK, .ref lC, .int 0]))]) [0] (by decide) rfl
  exact W.iret (v := 0) hx hb hr (fun t ht hW => ⟨⟨0, (), rfl, rfl, ⟨Nat.zero_le _, by rw [ht]; exact hP, va_K.moved hW.alike (hK.sub (tys' := []) [] rfl), hD⟩⟩, hS.F ht⟩) hS.2.2 dX4_count_27
set_option maxHeartbeats 4000000 in
set_option maxRecDepth 100000 in
theorem c_Msum_ok (l : Launch) (D : zG) (sz : Nat) (mo kT tb ld lK lC : Nat) (e2 e3 : ClassId) (l0 : Nat → Int32) (a : Int32) (ha : (0 ≤ a ∧ a ≤ 3)) : Met l yX4_sum wsX4_sum ({ frames := 3, cells := 0, slots := 0, locals := 120 }) (zPc D [(e2, .int), (e3, .int)] ([(mo, .inr (4, [.int 0, .int 0, .ref kT, .int 20, .int 60, .int 2000, .int 0, .int 0, .ref tb, .ref ld, .int 0, .ref lK, .ref lC, .int 0])), (tb, .inl (e2, 366, .inl (fun _ => 0))), (ld, .inl (e3, 61, .inl (l0)))]) sz [.ref mo, .int a]) (va_Qi (fun (r : Int32) (u : Unit) => r = 0) (zB D (va_A ([(mo, .inr (4, [.int 0, .int 0, .ref kT, .int 20, .int 60, .int 2000, .int 0, .int 0, .ref tb, .ref ld, .int 0, .ref lK, .ref lC, .int 0])), (tb, .inl (e2, 366, .inl (fun _ => 0))), (ld, .inl (e3, 61, .inl (l0)))]) sz) (fun _ => []) 0 (fun _ => [(mo, .inr (4, [.int 0, .int 0, .ref kT, .int 20, .int 60, .int 2000, .int 0, .int 0, .ref tb, .ref ld, .int 0, .ref lK, .ref lC, .int 0]))])) (va_A ([(mo, .inr (4, [.int 0, .int 0, .ref kT, .int 20, .int 60, .int 2000, .int 0, .int 0, .ref tb, .ref ld, .int 0, .ref lK, .ref lC, .int 0])), (tb, .inl (e2, 366, .inl (fun _ => 0))), (ld, .inl (e3, 61, .inl (l0)))]) sz)) 0 0 (va_A ([(mo, .inr (4, [.int 0, .int 0, .ref kT, .int 20, .int 60, .int 2000, .int 0, .int 0, .ref tb, .ref ld, .int 0, .ref lK, .ref lC, .int 0])), (tb, .inl (e2, 366, .inl (fun _ => 0))), (ld, .inl (e3, 61, .inl (l0)))]) sz) := by
  refine Met.ofW (cc := cX4_sum) (maxL := 2) (ret := (some .int)) (by decide) rfl ?_
  intro p e s m args below meth c s₁ B hml hv
  obtain ⟨rfl, hsz, hP, hK, hD0⟩ := hv
  have hx := B.exec
  have hb := B.bytes
  have hr := B.returns
  have hts := atoms_spec (ws := wsX4_sum) B.pre
  have hown : s.vm.findClass RX4 = some m.cls := findClass_of_methodNamed B.named
  have hlocks := B.notSynchronized
  subst hsz
  have hD := hD0.self (sz := s.heap.size)
  generalize hAe : va_A ([(mo, .inr (4, [.int 0, .int 0, .ref kT, .int 20, .int 60, .int 2000, .int 0, .int 0, .ref tb, .ref ld, .int 0, .ref lK, .ref lC, .int 0])), (tb, .inl (e2, 366, .inl (fun _ => 0))), (ld, .inl (e3, 61, .inl (l0)))]) s.heap.size = A at hD ⊢
  have hA : ∀ q : Nat, s.heap.size ≤ q → A q := fun q h => by rw [← hAe]; exact Or.inr h
  have hS : va_S A s.heap s.heap [] := va_S.rf
  have hl := lv_entry ([.ref mo, .int a]) (n := 2) (Nat.le_of_ble_eq_true rfl)
  rw [lg_entry_eq]
  generalize (lg_sl ([.ref mo, .int a]) ++ List.replicate (2 - (lg_sl ([.ref mo, .int a])).length) Slot.unset).toArray = ls at hl ⊢
  have hl : lv_has ls 2 [(0, .ref mo), (1, .int a)] := hl
  have hP : va_P D vwCl ([(mo, .inr (4, [.int 0, .int 0, .ref kT, .int 20, .int 60, .int 2000, .int 0, .int 0, .ref tb, .ref ld, .int 0, .ref lK, .ref lC, .int 0])), (tb, .inl (e2, 366, .inl (fun _ => 0))), (ld, .inl (e3, 61, .inl (l0)))]) s.heap := hP
  generalize hRe : (headSpec _ _).room = R
  have hRf : R.frames = 3 := by rw [← hRe]; rfl
  have hRc : R.cells = 0 := by rw [← hRe]; rfl
  have hRs : R.slots = 0 := by rw [← hRe]; rfl
  have hRl : R.locals = 120 := by rw [← hRe]; rfl
  clear hRe
  refine lv_aload_n hx hb dX4_sum_0 rfl (lv_at hl 0 rfl) ?_
  refine lv_iconst (v := 0) hx hb dX4_sum_1 (by decide) ?_
  refine va_put (D := D) (ci := 4) (v := .int 0) (ty := .int) (C := RX4) (T := TX4) (N := 14) hx hb hts (fun _ h9 => List.mem_cons_of_mem _ (List.mem_append_right _ h9)) tyX4 tyX4_ok nmX4 hown hK hP hD hS 0 rfl rfl 0 (by decide) (hts (.fieldLink RX4 35 "PalletStackModel" "thrown" "I") (List.mem_of_getElem? (i := 1) (by rfl))) (fun _ h9 => h9) rfl (by decide +kernel) rfl rfl (Nat.le_of_ble_eq_true rfl) dX4_sum_2 (fun H locs hP hD hS => ?_)
  have hP : va_P D vwCl ([(mo, .inr (4, [.int 0, .int 0, .ref kT, .int 20, .int 60, .int 2000, .int 0, .int 0, .ref tb, .ref ld, .int 0, .ref lK, .ref lC, .int 0])), (tb, .inl (e2, 366, .inl (fun _ => 0))), (ld, .inl (e3, 61, .inl (l0)))]) H := hP
  have hD : va_D A ([(mo, .inr (4, [.int 0, .int 0, .ref kT, .int 20, .int 60, .int 2000, .int 0, .int 0, .ref tb, .ref ld, .int 0, .ref lK, .ref lC, .int 0])), (tb, .inl (e2, 366, .inl (fun _ => 0))), (ld, .inl (e3, 61, .inl (l0)))]) := hD
  refine lv_iload_n hx hb dX4_sum_5 rfl (lv_at hl 1 rfl) ?_
  refine lv_iconst (v := 0) hx hb dX4_sum_6 (by decide) ?_
  refine lv_iconst (v := 3) hx hb dX4_sum_7 (by decide) ?_
  refine zrdS (As := [.int a, .int 0, .int 3]) (rest := []) (wc := []) ⟨hx, hb, hml, hown, hts⟩ (c_isIn l D _ a 0 3) (va_cwS 3 hts gX4_sum_X4_isIn rfl rfl rfl (by decide +kernel) ⟨by rw [hRf]; exact Nat.le_of_ble_eq_true rfl, by rw [hRl]; exact Nat.le_of_ble_eq_true rfl⟩) hK hP hD [] rfl (by decide) [] rfl rfl hl.1 rfl (Nat.le_of_ble_eq_true rfl) dX4_sum_8 ⟨by omega, by omega⟩ (fun r_125 hr_125 => ?_)
  refine lv_topi (fun v_126 ev_126 => ?_)
  obtain rfl : v_126 = 1 := ev_126.trans (hr_125.trans (if_pos ha))
  refine lv_if_eq (tgt := 22) hx hb dX4_sum_11 (by decide) (fun c_127 => absurd c_127 (by decide)) (fun c_127 => ?_)
  refine lv_aload_n hx hb dX4_sum_14 rfl (lv_at hl 0 rfl) ?_
  refine lv_iload_n hx hb dX4_sum_15 rfl (lv_at hl 1 rfl) ?_
  refine zcalliV (As := [.int a]) (rest := []) (wc := [(mo, .inr (4, [.int 0, .int 0, .ref kT, .int 20, .int 60, .int 2000, .int 0, .int 0, .ref tb, .ref ld, .int 0, .ref lK, .ref lC, .int 0])), (tb, .inl (e2, 366, .inl (fun _ => 0))), (ld, .inl (e3, 61, .inl (l0)))]) (wr := []) ⟨hx, hb, hml, hown, hts⟩ (c_sumOfM l D _ mo kT tb ld lK lC e2 e3 l0 a ha) (cwV 1 hts gX4_sum_X4_sumOf rfl rfl rfl (by decide +kernel) ⟨by rw [hRf]; exact Nat.le_of_ble_eq_true rfl, by rw [hRl]; exact Nat.le_of_ble_eq_true rfl⟩) hK hP hD hS hA [0, 1, 2] [] rfl (by decide) rfl (by decide) (by decide) [0, 1] rfl (ci := 4) (q0 := 0) rfl rfl rfl hl.1 rfl (Nat.le_of_ble_eq_true rfl) dX4_sum_16 ⟨by omega, by omega⟩ (fun r_128 u_129 H locs hwu_129 hnu_129 hzu_129 hK hP hD hS => ?_)
  have hK : va_K D vwCl [(e2, .int), (e3, .int)] s := hK
  have hP : va_P D vwCl ([(mo, .inr (4, [.int 0, .int 0, .ref kT, .int 20, .int 60, .int 2000, .int 0, .int 0, .ref tb, .ref ld, .int 0, .ref lK, .ref lC, .int 0])), (tb, .inl (e2, 366, .inl (fun _ => 0))), (ld, .inl (e3, 61, .inl (u_129)))]) H := hP
  have hD : va_D A ([(mo, .inr (4, [.int 0, .int 0, .ref kT, .int 20, .int 60, .int 2000, .int 0, .int 0, .ref tb, .ref ld, .int 0, .ref lK, .ref lC, .int 0])), (tb, .inl (e2, 366, .inl (fun _ => 0))), (ld, .inl (e3, 61, .inl (u_129)))]) := hD
  refine lv_topi (fun v_130 ev_130 => ?_)
  obtain rfl : v_130 = 0 := ev_130.trans hwu_129
  refine lv_goto (tgt := 27) hx hb dX4_sum_19 (by decide) ?_
  have hP := hP.sub (ws' := [(mo, .inr (4, [.int 0, .int 0, .ref kT, .int 20, .int 60, .int 2000, .int 0, .int 0, .ref tb, .ref ld, .int 0, .ref lK, .ref lC, .int 0]))]) [0] rfl
  have hD := hD.sub (ws' := [(mo, .inr (4, [.int 0, .int 0, .ref kT, .int 20, .int 60, .int 2000, .int 0, .int 0, .ref tb, .ref ld, .int 0, .ref lK, .ref lC, .int 0]))]) [0] (by decide) rfl
  exact W.iret (v := 0) hx hb hr (fun t ht hW => ⟨⟨0, (), rfl, rfl, ⟨Nat.zero_le _, by rw [ht]; exact hP, va_K.moved hW.alike (hK.sub (tys' := []) [] rfl), hD⟩⟩, hS.F ht⟩) hS.2.2 dX4_sum_27
set_option maxHeartbeats 4000000 in
set_option maxRecDepth 100000 in
theorem c_Msum_x (l : Launch) (D : zG) (sz : Nat) (mo kT tb ld lK lC : Nat) (e2 e3 : ClassId) (l0 : Nat → Int32) (a : Int32) (ha : ¬ (0 ≤ a ∧ a ≤ 3)) : Met l yX4_sum wsX4_sum ({ frames := 3, cells := 0, slots := 0, locals := 120 }) (zPc D [(e2, .int), (e3, .int)] ([(mo, .inr (4, [.int 0, .int 0, .ref kT, .int 20, .int 60, .int 2000, .int 0, .int 0, .ref tb, .ref ld, .int 0, .ref lK, .ref lC, .int 0])), (tb, .inl (e2, 366, .inl (fun _ => 0))), (ld, .inl (e3, 61, .inl (l0)))]) sz [.ref mo, .int a]) (va_Qi (fun (r : Int32) (u : Unit) => r = 0) (zB D (va_A ([(mo, .inr (4, [.int 0, .int 0, .ref kT, .int 20, .int 60, .int 2000, .int 0, .int 0, .ref tb, .ref ld, .int 0, .ref lK, .ref lC, .int 0])), (tb, .inl (e2, 366, .inl (fun _ => 0))), (ld, .inl (e3, 61, .inl (l0)))]) sz) (fun _ => []) 0 (fun _ => [(mo, .inr (4, [.int 1, .int 0, .ref kT, .int 20, .int 60, .int 2000, .int 0, .int 0, .ref tb, .ref ld, .int 0, .ref lK, .ref lC, .int 0]))])) (va_A ([(mo, .inr (4, [.int 0, .int 0, .ref kT, .int 20, .int 60, .int 2000, .int 0, .int 0, .ref tb, .ref ld, .int 0, .ref lK, .ref lC, .int 0])), (tb, .inl (e2, 366, .inl (fun _ => 0))), (ld, .inl (e3, 61, .inl (l0)))]) sz)) 0 0 (va_A ([(mo, .inr (4, [.int 0, .int 0, .ref kT, .int 20, .int 60, .int 2000, .int 0, .int 0, .ref tb, .ref ld, .int 0, .ref lK, .ref lC, .int 0])), (tb, .inl (e2, 366, .inl (fun _ => 0))), (ld, .inl (e3, 61, .inl (l0)))]) sz) := by
  refine Met.ofW (cc := cX4_sum) (maxL := 2) (ret := (some .int)) (by decide) rfl ?_
  intro p e s m args below meth c s₁ B hml hv
  obtain ⟨rfl, hsz, hP, hK, hD0⟩ := hv
  have hx := B.exec
  have hb := B.bytes
  have hr := B.returns
  have hts := atoms_spec (ws := wsX4_sum) B.pre
  have hown : s.vm.findClass RX4 = some m.cls := findClass_of_methodNamed B.named
  have hlocks := B.notSynchronized
  subst hsz
  have hD := hD0.self (sz := s.heap.size)
  generalize hAe : va_A ([(mo, .inr (4, [.int 0, .int 0, .ref kT, .int 20, .int 60, .int 2000, .int 0, .int 0, .ref tb, .ref ld, .int 0, .ref lK, .ref lC, .int 0])), (tb, .inl (e2, 366, .inl (fun _ => 0))), (ld, .inl (e3, 61, .inl (l0)))]) s.heap.size = A at hD ⊢
  have hA : ∀ q : Nat, s.heap.size ≤ q → A q := fun q h => by rw [← hAe]; exact Or.inr h
  have hS : va_S A s.heap s.heap [] := va_S.rf
  have hl := lv_entry ([.ref mo, .int a]) (n := 2) (Nat.le_of_ble_eq_true rfl)
  rw [lg_entry_eq]
  generalize (lg_sl ([.ref mo, .int a]) ++ List.replicate (2 - (lg_sl ([.ref mo, .int a])).length) Slot.unset).toArray = ls at hl ⊢
  have hl : lv_has ls 2 [(0, .ref mo), (1, .int a)] := hl
  have hP : va_P D vwCl ([(mo, .inr (4, [.int 0, .int 0, .ref kT, .int 20, .int 60, .int 2000, .int 0, .int 0, .ref tb, .ref ld, .int 0, .ref lK, .ref lC, .int 0])), (tb, .inl (e2, 366, .inl (fun _ => 0))), (ld, .inl (e3, 61, .inl (l0)))]) s.heap := hP
  generalize hRe : (headSpec _ _).room = R
  have hRf : R.frames = 3 := by rw [← hRe]; rfl
  have hRc : R.cells = 0 := by rw [← hRe]; rfl
  have hRs : R.slots = 0 := by rw [← hRe]; rfl
  have hRl : R.locals = 120 := by rw [← hRe]; rfl
  clear hRe
  refine lv_aload_n hx hb dX4_sum_0 rfl (lv_at hl 0 rfl) ?_
  refine lv_iconst (v := 0) hx hb dX4_sum_1 (by decide) ?_
  refine va_put (D := D) (ci := 4) (v := .int 0) (ty := .int) (C := RX4) (T := TX4) (N := 14) hx hb hts (fun _ h9 => List.mem_cons_of_mem _ (List.mem_append_right _ h9)) tyX4 tyX4_ok nmX4 hown hK hP hD hS 0 rfl rfl 0 (by decide) (hts (.fieldLink RX4 35 "PalletStackModel" "thrown" "I") (List.mem_of_getElem? (i := 1) (by rfl))) (fun _ h9 => h9) rfl (by decide +kernel) rfl rfl (Nat.le_of_ble_eq_true rfl) dX4_sum_2 (fun H locs hP hD hS => ?_)
  have hP : va_P D vwCl ([(mo, .inr (4, [.int 0, .int 0, .ref kT, .int 20, .int 60, .int 2000, .int 0, .int 0, .ref tb, .ref ld, .int 0, .ref lK, .ref lC, .int 0])), (tb, .inl (e2, 366, .inl (fun _ => 0))), (ld, .inl (e3, 61, .inl (l0)))]) H := hP
  have hD : va_D A ([(mo, .inr (4, [.int 0, .int 0, .ref kT, .int 20, .int 60, .int 2000, .int 0, .int 0, .ref tb, .ref ld, .int 0, .ref lK, .ref lC, .int 0])), (tb, .inl (e2, 366, .inl (fun _ => 0))), (ld, .inl (e3, 61, .inl (l0)))]) := hD
  refine lv_iload_n hx hb dX4_sum_5 rfl (lv_at hl 1 rfl) ?_
  refine lv_iconst (v := 0) hx hb dX4_sum_6 (by decide) ?_
  refine lv_iconst (v := 3) hx hb dX4_sum_7 (by decide) ?_
  refine zrdS (As := [.int a, .int 0, .int 3]) (rest := []) (wc := []) ⟨hx, hb, hml, hown, hts⟩ (c_isIn l D _ a 0 3) (va_cwS 3 hts gX4_sum_X4_isIn rfl rfl rfl (by decide +kernel) ⟨by rw [hRf]; exact Nat.le_of_ble_eq_true rfl, by rw [hRl]; exact Nat.le_of_ble_eq_true rfl⟩) hK hP hD [] rfl (by decide) [] rfl rfl hl.1 rfl (Nat.le_of_ble_eq_true rfl) dX4_sum_8 ⟨by omega, by omega⟩ (fun r_131 hr_131 => ?_)
  refine lv_topi (fun v_132 ev_132 => ?_)
  obtain rfl : v_132 = 0 := ev_132.trans (hr_131.trans (if_neg ha))
  refine lv_if_eq (tgt := 22) hx hb dX4_sum_11 (by decide) (fun c_133 => ?_) (fun c_133 => absurd (rfl) c_133)
  refine lv_aload_n hx hb dX4_sum_22 rfl (lv_at hl 0 rfl) ?_
  refine lv_iconst (v := 1) hx hb dX4_sum_23 (by decide) ?_
  refine zcalliV (As := [.int 1]) (rest := []) (wc := [(mo, .inr (4, [.int 0, .int 0, .ref kT, .int 20, .int 60, .int 2000, .int 0, .int 0, .ref tb, .ref ld, .int 0, .ref lK, .ref lC, .int 0]))]) (wr := [(tb, .inl (e2, 366, .inl (fun _ => 0))), (ld, .inl (e3, 61, .inl (l0)))]) ⟨hx, hb, hml, hown, hts⟩ (c_fail l D _ mo kT tb ld lK lC 0 1) (cwV 1 hts gX4_sum_X4_fail rfl rfl rfl (by decide +kernel) ⟨by rw [hRf]; exact Nat.le_of_ble_eq_true rfl, by rw [hRl]; exact Nat.le_of_ble_eq_true rfl⟩) hK hP hD hS hA [0] [1, 2] rfl (by decide) rfl (by decide) (by decide) [] rfl (ci := 4) (q0 := 0) rfl rfl rfl hl.1 rfl (Nat.le_of_ble_eq_true rfl) dX4_sum_24 ⟨by omega, by omega⟩ (fun r_134 u_135 H locs hwu_135 hnu_135 hzu_135 hK hP hD hS => ?_)
  have hK : va_K D vwCl [(e2, .int), (e3, .int)] s := hK
  have hP : va_P D vwCl ([(tb, .inl (e2, 366, .inl (fun _ => 0))), (ld, .inl (e3, 61, .inl (l0))), (mo, .inr (4, [.int 1, .int 0, .ref kT, .int 20, .int 60, .int 2000, .int 0, .int 0, .ref tb, .ref ld, .int 0, .ref lK, .ref lC, .int 0]))]) H := hP
  have hD : va_D A ([(tb, .inl (e2, 366, .inl (fun _ => 0))), (ld, .inl (e3, 61, .inl (l0))), (mo, .inr (4, [.int 1, .int 0, .ref kT, .int 20, .int 60, .int 2000, .int 0, .int 0, .ref tb, .ref ld, .int 0, .ref lK, .ref lC, .int 0]))]) := hD
  refine lv_topi (fun v_136 ev_136 => ?_)
  obtain rfl : v_136 = 0 := ev_136.trans hwu_135
  have hP := hP.sub (ws' := [(mo, .inr (4, [.int 1, .int 0, .ref kT, .int 20, .int 60, .int 2000, .int 0, .int 0, .ref tb, .ref ld, .int 0, .ref lK, .ref lC, .int 0]))]) [2] rfl
  have hD := hD.sub (ws' := [(mo, .inr (4, [.int 1, .int 0, .ref kT, .int 20, .int 60, .int 2000, .int 0, .int 0, .ref tb, .ref ld, .int 0, .ref lK, .ref lC, .int 0]))]) [2] (by decide) rfl
  exact W.iret (v := 0) hx hb hr (fun t ht hW => ⟨⟨0, (), rfl, rfl, ⟨Nat.zero_le _, by rw [ht]; exact hP, va_K.moved hW.alike (hK.sub (tys' := []) [] rfl), hD⟩⟩, hS.F ht⟩) hS.2.2 dX4_sum_27
set_option maxHeartbeats 4000000 in
set_option maxRecDepth 100000 in
theorem c_Mtop_ok (l : Launch) (D : zG) (sz : Nat) (mo kT tb ld lK lC : Nat) (a b : Int32) (h : ((0 ≤ a ∧ a ≤ 11) ∧ (0 ≤ b ∧ b ≤ 9))) : Met l yX4_top wsX4_top ({ frames := 3, cells := 0, slots := 0, locals := 120 }) (zPc D [] ([(mo, .inr (4, [.int 0, .int 0, .ref kT, .int 20, .int 60, .int 2000, .int 0, .int 0, .ref tb, .ref ld, .int 0, .ref lK, .ref lC, .int 0]))]) sz [.ref mo, .int a, .int b]) (va_Qi (fun (r : Int32) (u : Unit) => r = 0) (zB D (va_A ([(mo, .inr (4, [.int 0, .int 0, .ref kT, .int 20, .int 60, .int 2000, .int 0, .int 0, .ref tb, .ref ld, .int 0, .ref lK, .ref lC, .int 0]))]) sz) (fun _ => []) 0 (fun _ => [(mo, .inr (4, [.int 0, .int 0, .ref kT, .int 20, .int 60, .int 2000, .int 0, .int 0, .ref tb, .ref ld, .int 0, .ref lK, .ref lC, .int 0]))])) (va_A ([(mo, .inr (4, [.int 0, .int 0, .ref kT, .int 20, .int 60, .int 2000, .int 0, .int 0, .ref tb, .ref ld, .int 0, .ref lK, .ref lC, .int 0]))]) sz)) 0 0 (va_A ([(mo, .inr (4, [.int 0, .int 0, .ref kT, .int 20, .int 60, .int 2000, .int 0, .int 0, .ref tb, .ref ld, .int 0, .ref lK, .ref lC, .int 0]))]) sz) := by
  refine Met.ofW (cc := cX4_top) (maxL := 5) (ret := (some .int)) (by decide) rfl ?_
  intro p e s m args below meth c s₁ B hml hv
  obtain ⟨rfl, hsz, hP, hK, hD0⟩ := hv
  have hx := B.exec
  have hb := B.bytes
  have hr := B.returns
  have hts := atoms_spec (ws := wsX4_top) B.pre
  have hown : s.vm.findClass RX4 = some m.cls := findClass_of_methodNamed B.named
  have hlocks := B.notSynchronized
  subst hsz
  have hD := hD0.self (sz := s.heap.size)
  generalize hAe : va_A ([(mo, .inr (4, [.int 0, .int 0, .ref kT, .int 20, .int 60, .int 2000, .int 0, .int 0, .ref tb, .ref ld, .int 0, .ref lK, .ref lC, .int 0]))]) s.heap.size = A at hD ⊢
  have hA : ∀ q : Nat, s.heap.size ≤ q → A q := fun q h => by rw [← hAe]; exact Or.inr h
  have hS : va_S A s.heap s.heap [] := va_S.rf
  have hl := lv_entry ([.ref mo, .int a, .int b]) (n := 5) (Nat.le_of_ble_eq_true rfl)
  rw [lg_entry_eq]
  generalize (lg_sl ([.ref mo, .int a, .int b]) ++ List.replicate (5 - (lg_sl ([.ref mo, .int a, .int b])).length) Slot.unset).toArray = ls at hl ⊢
  have hl : lv_has ls 5 [(0, .ref mo), (1, .int a), (2, .int b)] := hl
  have hP : va_P D vwCl ([(mo, .inr (4, [.int 0, .int 0, .ref kT, .int 20, .int 60, .int 2000, .int 0, .int 0, .ref tb, .ref ld, .int 0, .ref lK, .ref lC, .int 0]))]) s.heap := hP
  generalize hRe : (headSpec _ _).room = R
  have hRf : R.frames = 3 := by rw [← hRe]; rfl
  have hRc : R.cells = 0 := by rw [← hRe]; rfl
  have hRs : R.slots = 0 := by rw [← hRe]; rfl
  have hRl : R.locals = 120 := by rw [← hRe]; rfl
  clear hRe
  refine lv_aload_n hx hb dX4_top_0 rfl (lv_at hl 0 rfl) ?_
  refine lv_iconst (v := 0) hx hb dX4_top_1 (by decide) ?_
  refine va_put (D := D) (ci := 4) (v := .int 0) (ty := .int) (C := RX4) (T := TX4) (N := 14) hx hb hts (fun _ h9 => List.mem_cons_of_mem _ (List.mem_append_right _ h9)) tyX4 tyX4_ok nmX4 hown hK hP hD hS 0 rfl rfl 0 (by decide) (hts (.fieldLink RX4 35 "PalletStackModel" "thrown" "I") (List.mem_of_getElem? (i := 1) (by rfl))) (fun _ h9 => h9) rfl (by decide +kernel) rfl rfl (Nat.le_of_ble_eq_true rfl) dX4_top_2 (fun H locs hP hD hS => ?_)
  have hP : va_P D vwCl ([(mo, .inr (4, [.int 0, .int 0, .ref kT, .int 20, .int 60, .int 2000, .int 0, .int 0, .ref tb, .ref ld, .int 0, .ref lK, .ref lC, .int 0]))]) H := hP
  have hD : va_D A ([(mo, .inr (4, [.int 0, .int 0, .ref kT, .int 20, .int 60, .int 2000, .int 0, .int 0, .ref tb, .ref ld, .int 0, .ref lK, .ref lC, .int 0]))]) := hD
  refine lv_iload_n hx hb dX4_top_5 rfl (lv_at hl 1 rfl) ?_
  refine lv_iload_n hx hb dX4_top_6 rfl (lv_at hl 2 rfl) ?_
  refine zrdS (As := [.int a, .int b]) (rest := []) (wc := []) ⟨hx, hb, hml, hown, hts⟩ (c_isCellM l D _ a b) (va_cwS 2 hts gX4_top_X4_isCell rfl rfl rfl (by decide +kernel) ⟨by rw [hRf]; exact Nat.le_of_ble_eq_true rfl, by rw [hRl]; exact Nat.le_of_ble_eq_true rfl⟩) hK hP hD [] rfl (by decide) [] rfl rfl hl.1 rfl (Nat.le_of_ble_eq_true rfl) dX4_top_7 ⟨by omega, by omega⟩ (fun r_137 hr_137 => ?_)
  refine lv_topi (fun v_138 ev_138 => ?_)
  obtain rfl : v_138 = 1 := ev_138.trans (hr_137.trans (if_pos h))
  refine lv_if_ne (tgt := 19) hx hb dX4_top_10 (by decide) (fun c_139 => ?_) (fun c_139 => absurd c_139 (by decide))
  refine lv_iconst (v := 0) hx hb dX4_top_19 (by decide) ?_
  refine lv_istore_n (lv' := [(3, .int 0), (0, .ref mo), (1, .int a), (2, .int b)]) hx hb dX4_top_20 rfl hl (by decide) rfl (fun ls hl => ?_)
  refine lv_iconst (v := 0) hx hb dX4_top_21 (by decide) ?_
  refine lv_istore (lv' := [(4, .int 0), (3, .int 0), (0, .ref mo), (1, .int a), (2, .int b)]) hx hb dX4_top_22 hl (by decide) rfl (fun ls hl => ?_)
  refine lv_iload hx hb dX4_top_24 (lv_at hl 0 rfl) ?_
  refine lv_aload_n hx hb dX4_top_26 rfl (lv_at hl 2 rfl) ?_
  refine va_get (D := D) (ci := 4) (v := .int 0) (C := RX4) (T := TX4) (N := 14) hx hb hts (fun _ h9 => List.mem_cons_of_mem _ (List.mem_append_right _ h9)) hown hK hP 0 rfl rfl 7 (by decide) (hts (.fieldLink RX4 59 "PalletStackModel" "came" "I") (List.mem_of_getElem? (i := 2) (by rfl))) (fun _ h9 => h9) rfl dX4_top_27 ?_
  refine lv_icmp_ge (tgt := 70) hx hb dX4_top_30 (by decide) (fun c_140 => ?_) (fun c_140 => absurd (Int32.le_refl _) c_140)
  refine lv_iload_n hx hb dX4_top_70 rfl (lv_at hl 1 rfl) ?_
  exact W.iret (v := 0) hx hb hr (fun t ht hW => ⟨⟨0, (), rfl, rfl, ⟨Nat.zero_le _, by rw [ht]; exact hP, va_K.moved hW.alike (hK.sub (tys' := []) [] rfl), hD⟩⟩, hS.F ht⟩) hS.2.2 dX4_top_71
set_option maxHeartbeats 4000000 in
set_option maxRecDepth 100000 in
theorem c_Mat_ok (l : Launch) (D : zG) (sz : Nat) (mo kT tb ld lK lC : Nat) (a b c1 : Int32) (h : (((0 ≤ a ∧ a ≤ 11) ∧ (0 ≤ b ∧ b ≤ 9)) ∧ (0 ≤ c1 ∧ c1 ≤ 39))) : Met l yX4_at wsX4_at ({ frames := 3, cells := 0, slots := 0, locals := 120 }) (zPc D [] ([(mo, .inr (4, [.int 0, .int 0, .ref kT, .int 20, .int 60, .int 2000, .int 0, .int 0, .ref tb, .ref ld, .int 0, .ref lK, .ref lC, .int 0]))]) sz [.ref mo, .int a, .int b, .int c1]) (va_Qi (fun (r : Int32) (u : Unit) => r = -1) (zB D (va_A ([(mo, .inr (4, [.int 0, .int 0, .ref kT, .int 20, .int 60, .int 2000, .int 0, .int 0, .ref tb, .ref ld, .int 0, .ref lK, .ref lC, .int 0]))]) sz) (fun _ => []) 0 (fun _ => [(mo, .inr (4, [.int 0, .int 0, .ref kT, .int 20, .int 60, .int 2000, .int 0, .int 0, .ref tb, .ref ld, .int 0, .ref lK, .ref lC, .int 0]))])) (va_A ([(mo, .inr (4, [.int 0, .int 0, .ref kT, .int 20, .int 60, .int 2000, .int 0, .int 0, .ref tb, .ref ld, .int 0, .ref lK, .ref lC, .int 0]))]) sz)) 0 0 (va_A ([(mo, .inr (4, [.int 0, .int 0, .ref kT, .int 20, .int 60, .int 2000, .int 0, .int 0, .ref tb, .ref ld, .int 0, .ref lK, .ref lC, .int 0]))]) sz) := by
  refine Met.ofW (cc := cX4_at) (maxL := 5) (ret := (some .int)) (by decide) rfl ?_
  intro p e s m args below meth c s₁ B hml hv
  obtain ⟨rfl, hsz, hP, hK, hD0⟩ := hv
  have hx := B.exec
  have hb := B.bytes
  have hr := B.returns
  have hts := atoms_spec (ws := wsX4_at) B.pre
  have hown : s.vm.findClass RX4 = some m.cls := findClass_of_methodNamed B.named
  have hlocks := B.notSynchronized
  subst hsz
  have hD := hD0.self (sz := s.heap.size)
  generalize hAe : va_A ([(mo, .inr (4, [.int 0, .int 0, .ref kT, .int 20, .int 60, .int 2000, .int 0, .int 0, .ref tb, .ref ld, .int 0, .ref lK, .ref lC, .int 0]))]) s.heap.size = A at hD ⊢
  have hA : ∀ q : Nat, s.heap.size ≤ q → A q := fun q h => by rw [← hAe]; exact Or.inr h
  have hS : va_S A s.heap s.heap [] := va_S.rf
  have hl := lv_entry ([.ref mo, .int a, .int b, .int c1]) (n := 5) (Nat.le_of_ble_eq_true rfl)
  rw [lg_entry_eq]
  generalize (lg_sl ([.ref mo, .int a, .int b, .int c1]) ++ List.replicate (5 - (lg_sl ([.ref mo, .int a, .int b, .int c1])).length) Slot.unset).toArray = ls at hl ⊢
  have hl : lv_has ls 5 [(0, .ref mo), (1, .int a), (2, .int b), (3, .int c1)] := hl
  have hP : va_P D vwCl ([(mo, .inr (4, [.int 0, .int 0, .ref kT, .int 20, .int 60, .int 2000, .int 0, .int 0, .ref tb, .ref ld, .int 0, .ref lK, .ref lC, .int 0]))]) s.heap := hP
  generalize hRe : (headSpec _ _).room = R
  have hRf : R.frames = 3 := by rw [← hRe]; rfl
  have hRc : R.cells = 0 := by rw [← hRe]; rfl
  have hRs : R.slots = 0 := by rw [← hRe]; rfl
  have hRl : R.locals = 120 := by rw [← hRe]; rfl
  clear hRe
  refine lv_aload_n hx hb dX4_at_0 rfl (lv_at hl 0 rfl) ?_
  refine lv_iconst (v := 0) hx hb dX4_at_1 (by decide) ?_
  refine va_put (D := D) (ci := 4) (v := .int 0) (ty := .int) (C := RX4) (T := TX4) (N := 14) hx hb hts (fun _ h9 => List.mem_cons_of_mem _ (List.mem_append_right _ h9)) tyX4 tyX4_ok nmX4 hown hK hP hD hS 0 rfl rfl 0 (by decide) (hts (.fieldLink RX4 35 "PalletStackModel" "thrown" "I") (List.mem_of_getElem? (i := 1) (by rfl))) (fun _ h9 => h9) rfl (by decide +kernel) rfl rfl (Nat.le_of_ble_eq_true rfl) dX4_at_2 (fun H locs hP hD hS => ?_)
  have hP : va_P D vwCl ([(mo, .inr (4, [.int 0, .int 0, .ref kT, .int 20, .int 60, .int 2000, .int 0, .int 0, .ref tb, .ref ld, .int 0, .ref lK, .ref lC, .int 0]))]) H := hP
  have hD : va_D A ([(mo, .inr (4, [.int 0, .int 0, .ref kT, .int 20, .int 60, .int 2000, .int 0, .int 0, .ref tb, .ref ld, .int 0, .ref lK, .ref lC, .int 0]))]) := hD
  refine lv_iload_n hx hb dX4_at_5 rfl (lv_at hl 1 rfl) ?_
  refine lv_iload_n hx hb dX4_at_6 rfl (lv_at hl 2 rfl) ?_
  refine zrdS (As := [.int a, .int b]) (rest := []) (wc := []) ⟨hx, hb, hml, hown, hts⟩ (c_isCellM l D _ a b) (va_cwS 2 hts gX4_at_X4_isCell rfl rfl rfl (by decide +kernel) ⟨by rw [hRf]; exact Nat.le_of_ble_eq_true rfl, by rw [hRl]; exact Nat.le_of_ble_eq_true rfl⟩) hK hP hD [] rfl (by decide) [] rfl rfl hl.1 rfl (Nat.le_of_ble_eq_true rfl) dX4_at_7 ⟨by omega, by omega⟩ (fun r_141 hr_141 => ?_)
  refine lv_topi (fun v_142 ev_142 => ?_)
  obtain rfl : v_142 = 1 := ev_142.trans (hr_141.trans (if_pos h.1))
  refine lv_if_eq (tgt := 23) hx hb dX4_at_10 (by decide) (fun c_143 => absurd c_143 (by decide)) (fun c_143 => ?_)
  refine lv_iload_n hx hb dX4_at_13 rfl (lv_at hl 3 rfl) ?_
  refine lv_iconst (v := 0) hx hb dX4_at_14 (by decide) ?_
  refine lv_bipush (v := 39) hx hb dX4_at_15 (by decide) ?_
  refine zrdS (As := [.int c1, .int 0, .int 39]) (rest := []) (wc := []) ⟨hx, hb, hml, hown, hts⟩ (c_isIn l D _ c1 0 39) (va_cwS 3 hts gX4_at_X4_isIn rfl rfl rfl (by decide +kernel) ⟨by rw [hRf]; exact Nat.le_of_ble_eq_true rfl, by rw [hRl]; exact Nat.le_of_ble_eq_true rfl⟩) hK hP hD [] rfl (by decide) [] rfl rfl hl.1 rfl (Nat.le_of_ble_eq_true rfl) dX4_at_17 ⟨by omega, by omega⟩ (fun r_144 hr_144 => ?_)
  refine lv_topi (fun v_145 ev_145 => ?_)
  obtain rfl : v_145 = 1 := ev_145.trans (hr_144.trans (if_pos h.2))
  refine lv_if_ne (tgt := 29) hx hb dX4_at_20 (by decide) (fun c_146 => ?_) (fun c_146 => absurd c_146 (by decide))
  refine lv_iconst (v := 0) hx hb dX4_at_29 (by decide) ?_
  refine lv_istore (lv' := [(4, .int 0), (0, .ref mo), (1, .int a), (2, .int b), (3, .int c1)]) hx hb dX4_at_30 hl (by decide) rfl (fun ls hl => ?_)
  refine lv_iload hx hb dX4_at_32 (lv_at hl 0 rfl) ?_
  refine lv_aload_n hx hb dX4_at_34 rfl (lv_at hl 1 rfl) ?_
  refine va_get (D := D) (ci := 4) (v := .int 0) (C := RX4) (T := TX4) (N := 14) hx hb hts (fun _ h9 => List.mem_cons_of_mem _ (List.mem_append_right _ h9)) hown hK hP 0 rfl rfl 7 (by decide) (hts (.fieldLink RX4 59 "PalletStackModel" "came" "I") (List.mem_of_getElem? (i := 2) (by rfl))) (fun _ h9 => h9) rfl dX4_at_35 ?_
  refine lv_icmp_ge (tgt := 92) hx hb dX4_at_38 (by decide) (fun c_147 => ?_) (fun c_147 => absurd (Int32.le_refl _) c_147)
  refine lv_iconst (v := (-1)) hx hb dX4_at_92 (by decide) ?_
  exact W.iret (v := (-1)) hx hb hr (fun t ht hW => ⟨⟨(-1), (), rfl, rfl, ⟨Nat.zero_le _, by rw [ht]; exact hP, va_K.moved hW.alike (hK.sub (tys' := []) [] rfl), hD⟩⟩, hS.F ht⟩) hS.2.2 dX4_at_93
set_option maxHeartbeats 4000000 in
set_option maxRecDepth 100000 in
theorem c_Mtop_x (l : Launch) (D : zG) (sz : Nat) (mo kT tb ld lK lC : Nat) (a b : Int32) (h : ¬ ((0 ≤ a ∧ a ≤ 11) ∧ (0 ≤ b ∧ b ≤ 9))) : Met l yX4_top wsX4_top ({ frames := 3, cells := 0, slots := 0, locals := 120 }) (zPc D [] ([(mo, .inr (4, [.int 0, .int 0, .ref kT, .int 20, .int 60, .int 2000, .int 0, .int 0, .ref tb, .ref ld, .int 0, .ref lK, .ref lC, .int 0]))]) sz [.ref mo, .int a, .int b]) (va_Qi (fun (r : Int32) (u : Unit) => r = 0) (zB D (va_A ([(mo, .inr (4, [.int 0, .int 0, .ref kT, .int 20, .int 60, .int 2000, .int 0, .int 0, .ref tb, .ref ld, .int 0, .ref lK, .ref lC, .int 0]))]) sz) (fun _ => []) 0 (fun _ => [(mo, .inr (4, [.int 1, .int 0, .ref kT, .int 20, .int 60, .int 2000, .int 0, .int 0, .ref tb, .ref ld, .int 0, .ref lK, .ref lC, .int 0]))])) (va_A ([(mo, .inr (4, [.int 0, .int 0, .ref kT, .int 20, .int 60, .int 2000, .int 0, .int 0, .ref tb, .ref ld, .int 0, .ref lK, .ref lC, .int 0]))]) sz)) 0 0 (va_A ([(mo, .inr (4, [.int 0, .int 0, .ref kT, .int 20, .int 60, .int 2000, .int 0, .int 0, .ref tb, .ref ld, .int 0, .ref lK, .ref lC, .int 0]))]) sz) := by
  refine Met.ofW (cc := cX4_top) (maxL := 5) (ret := (some .int)) (by decide) rfl ?_
  intro p e s m args below meth c s₁ B hml hv
  obtain ⟨rfl, hsz, hP, hK, hD0⟩ := hv
  have hx := B.exec
  have hb := B.bytes
  have hr := B.returns
  have hts := atoms_spec (ws := wsX4_top) B.pre
  have hown : s.vm.findClass RX4 = some m.cls := findClass_of_methodNamed B.named
  have hlocks := B.notSynchronized
  subst hsz
  have hD := hD0.self (sz := s.heap.size)
  generalize hAe : va_A ([(mo, .inr (4, [.int 0, .int 0, .ref kT, .int 20, .int 60, .int 2000, .int 0, .int 0, .ref tb, .ref ld, .int 0, .ref lK, .ref lC, .int 0]))]) s.heap.size = A at hD ⊢
  have hA : ∀ q : Nat, s.heap.size ≤ q → A q := fun q h => by rw [← hAe]; exact Or.inr h
  have hS : va_S A s.heap s.heap [] := va_S.rf
  have hl := lv_entry ([.ref mo, .int a, .int b]) (n := 5) (Nat.le_of_ble_eq_true rfl)
  rw [lg_entry_eq]
  generalize (lg_sl ([.ref mo, .int a, .int b]) ++ List.replicate (5 - (lg_sl ([.ref mo, .int a, .int b])).length) Slot.unset).toArray = ls at hl ⊢
  have hl : lv_has ls 5 [(0, .ref mo), (1, .int a), (2, .int b)] := hl
  have hP : va_P D vwCl ([(mo, .inr (4, [.int 0, .int 0, .ref kT, .int 20, .int 60, .int 2000, .int 0, .int 0, .ref tb, .ref ld, .int 0, .ref lK, .ref lC, .int 0]))]) s.heap := hP
  generalize hRe : (headSpec _ _).room = R
  have hRf : R.frames = 3 := by rw [← hRe]; rfl
  have hRc : R.cells = 0 := by rw [← hRe]; rfl
  have hRs : R.slots = 0 := by rw [← hRe]; rfl
  have hRl : R.locals = 120 := by rw [← hRe]; rfl
  clear hRe
  refine lv_aload_n hx hb dX4_top_0 rfl (lv_at hl 0 rfl) ?_
  refine lv_iconst (v := 0) hx hb dX4_top_1 (by decide) ?_
  refine va_put (D := D) (ci := 4) (v := .int 0) (ty := .int) (C := RX4) (T := TX4) (N := 14) hx hb hts (fun _ h9 => List.mem_cons_of_mem _ (List.mem_append_right _ h9)) tyX4 tyX4_ok nmX4 hown hK hP hD hS 0 rfl rfl 0 (by decide) (hts (.fieldLink RX4 35 "PalletStackModel" "thrown" "I") (List.mem_of_getElem? (i := 1) (by rfl))) (fun _ h9 => h9) rfl (by decide +kernel) rfl rfl (Nat.le_of_ble_eq_true rfl) dX4_top_2 (fun H locs hP hD hS => ?_)
  have hP : va_P D vwCl ([(mo, .inr (4, [.int 0, .int 0, .ref kT, .int 20, .int 60, .int 2000, .int 0, .int 0, .ref tb, .ref ld, .int 0, .ref lK, .ref lC, .int 0]))]) H := hP
  have hD : va_D A ([(mo, .inr (4, [.int 0, .int 0, .ref kT, .int 20, .int 60, .int 2000, .int 0, .int 0, .ref tb, .ref ld, .int 0, .ref lK, .ref lC, .int 0]))]) := hD
  refine lv_iload_n hx hb dX4_top_5 rfl (lv_at hl 1 rfl) ?_
  refine lv_iload_n hx hb dX4_top_6 rfl (lv_at hl 2 rfl) ?_
  refine zrdS (As := [.int a, .int b]) (rest := []) (wc := []) ⟨hx, hb, hml, hown, hts⟩ (c_isCellM l D _ a b) (va_cwS 2 hts gX4_top_X4_isCell rfl rfl rfl (by decide +kernel) ⟨by rw [hRf]; exact Nat.le_of_ble_eq_true rfl, by rw [hRl]; exact Nat.le_of_ble_eq_true rfl⟩) hK hP hD [] rfl (by decide) [] rfl rfl hl.1 rfl (Nat.le_of_ble_eq_true rfl) dX4_top_7 ⟨by omega, by omega⟩ (fun r_148 hr_148 => ?_)
  refine lv_topi (fun v_149 ev_149 => ?_)
  obtain rfl : v_149 = 0 := ev_149.trans (hr_148.trans (if_neg h))
  refine lv_if_ne (tgt := 19) hx hb dX4_top_10 (by decide) (fun c_150 => absurd (rfl) c_150) (fun c_150 => ?_)
  refine lv_aload_n hx hb dX4_top_13 rfl (lv_at hl 0 rfl) ?_
  refine lv_iconst (v := 1) hx hb dX4_top_14 (by decide) ?_
  refine zcalliV (As := [.int 1]) (rest := []) (wc := [(mo, .inr (4, [.int 0, .int 0, .ref kT, .int 20, .int 60, .int 2000, .int 0, .int 0, .ref tb, .ref ld, .int 0, .ref lK, .ref lC, .int 0]))]) (wr := []) ⟨hx, hb, hml, hown, hts⟩ (c_fail l D _ mo kT tb ld lK lC 0 1) (cwV 1 hts gX4_top_X4_fail rfl rfl rfl (by decide +kernel) ⟨by rw [hRf]; exact Nat.le_of_ble_eq_true rfl, by rw [hRl]; exact Nat.le_of_ble_eq_true rfl⟩) hK hP hD hS hA [0] [] rfl (by decide) rfl (by decide) (by decide) [] rfl (ci := 4) (q0 := 0) rfl rfl rfl hl.1 rfl (Nat.le_of_ble_eq_true rfl) dX4_top_15 ⟨by omega, by omega⟩ (fun r_151 u_152 H locs hwu_152 hnu_152 hzu_152 hK hP hD hS => ?_)
  have hK : va_K D vwCl [] s := hK
  have hP : va_P D vwCl ([(mo, .inr (4, [.int 1, .int 0, .ref kT, .int 20, .int 60, .int 2000, .int 0, .int 0, .ref tb, .ref ld, .int 0, .ref lK, .ref lC, .int 0]))]) H := hP
  have hD : va_D A ([(mo, .inr (4, [.int 1, .int 0, .ref kT, .int 20, .int 60, .int 2000, .int 0, .int 0, .ref tb, .ref ld, .int 0, .ref lK, .ref lC, .int 0]))]) := hD
  refine lv_topi (fun v_153 ev_153 => ?_)
  obtain rfl : v_153 = 0 := ev_153.trans hwu_152
  have hP := hP.sub (ws' := [(mo, .inr (4, [.int 1, .int 0, .ref kT, .int 20, .int 60, .int 2000, .int 0, .int 0, .ref tb, .ref ld, .int 0, .ref lK, .ref lC, .int 0]))]) [0] rfl
  have hD := hD.sub (ws' := [(mo, .inr (4, [.int 1, .int 0, .ref kT, .int 20, .int 60, .int 2000, .int 0, .int 0, .ref tb, .ref ld, .int 0, .ref lK, .ref lC, .int 0]))]) [0] (by decide) rfl
  exact W.iret (v := 0) hx hb hr (fun t ht hW => ⟨⟨0, (), rfl, rfl, ⟨Nat.zero_le _, by rw [ht]; exact hP, va_K.moved hW.alike (hK.sub (tys' := []) [] rfl), hD⟩⟩, hS.F ht⟩) hS.2.2 dX4_top_18
set_option maxHeartbeats 4000000 in
set_option maxRecDepth 100000 in
theorem c_Mat_x (l : Launch) (D : zG) (sz : Nat) (mo kT tb ld lK lC : Nat) (a b c1 : Int32) (h : ¬ (((0 ≤ a ∧ a ≤ 11) ∧ (0 ≤ b ∧ b ≤ 9)) ∧ (0 ≤ c1 ∧ c1 ≤ 39))) : Met l yX4_at wsX4_at ({ frames := 3, cells := 0, slots := 0, locals := 120 }) (zPc D [] ([(mo, .inr (4, [.int 0, .int 0, .ref kT, .int 20, .int 60, .int 2000, .int 0, .int 0, .ref tb, .ref ld, .int 0, .ref lK, .ref lC, .int 0]))]) sz [.ref mo, .int a, .int b, .int c1]) (va_Qi (fun (r : Int32) (u : Unit) => r = 0) (zB D (va_A ([(mo, .inr (4, [.int 0, .int 0, .ref kT, .int 20, .int 60, .int 2000, .int 0, .int 0, .ref tb, .ref ld, .int 0, .ref lK, .ref lC, .int 0]))]) sz) (fun _ => []) 0 (fun _ => [(mo, .inr (4, [.int 1, .int 0, .ref kT, .int 20, .int 60, .int 2000, .int 0, .int 0, .ref tb, .ref ld, .int 0, .ref lK, .ref lC, .int 0]))])) (va_A ([(mo, .inr (4, [.int 0, .int 0, .ref kT, .int 20, .int 60, .int 2000, .int 0, .int 0, .ref tb, .ref ld, .int 0, .ref lK, .ref lC, .int 0]))]) sz)) 0 0 (va_A ([(mo, .inr (4, [.int 0, .int 0, .ref kT, .int 20, .int 60, .int 2000, .int 0, .int 0, .ref tb, .ref ld, .int 0, .ref lK, .ref lC, .int 0]))]) sz) := by
  refine Met.ofW (cc := cX4_at) (maxL := 5) (ret := (some .int)) (by decide) rfl ?_
  intro p e s m args below meth c s₁ B hml hv
  obtain ⟨rfl, hsz, hP, hK, hD0⟩ := hv
  have hx := B.exec
  have hb := B.bytes
  have hr := B.returns
  have hts := atoms_spec (ws := wsX4_at) B.pre
  have hown : s.vm.findClass RX4 = some m.cls := findClass_of_methodNamed B.named
  have hlocks := B.notSynchronized
  subst hsz
  have hD := hD0.self (sz := s.heap.size)
  generalize hAe : va_A ([(mo, .inr (4, [.int 0, .int 0, .ref kT, .int 20, .int 60, .int 2000, .int 0, .int 0, .ref tb, .ref ld, .int 0, .ref lK, .ref lC, .int 0]))]) s.heap.size = A at hD ⊢
  have hA : ∀ q : Nat, s.heap.size ≤ q → A q := fun q h => by rw [← hAe]; exact Or.inr h
  have hS : va_S A s.heap s.heap [] := va_S.rf
  have hl := lv_entry ([.ref mo, .int a, .int b, .int c1]) (n := 5) (Nat.le_of_ble_eq_true rfl)
  rw [lg_entry_eq]
  generalize (lg_sl ([.ref mo, .int a, .int b, .int c1]) ++ List.replicate (5 - (lg_sl ([.ref mo, .int a, .int b, .int c1])).length) Slot.unset).toArray = ls at hl ⊢
  have hl : lv_has ls 5 [(0, .ref mo), (1, .int a), (2, .int b), (3, .int c1)] := hl
  have hP : va_P D vwCl ([(mo, .inr (4, [.int 0, .int 0, .ref kT, .int 20, .int 60, .int 2000, .int 0, .int 0, .ref tb, .ref ld, .int 0, .ref lK, .ref lC, .int 0]))]) s.heap := hP
  generalize hRe : (headSpec _ _).room = R
  have hRf : R.frames = 3 := by rw [← hRe]; rfl
  have hRc : R.cells = 0 := by rw [← hRe]; rfl
  have hRs : R.slots = 0 := by rw [← hRe]; rfl
  have hRl : R.locals = 120 := by rw [← hRe]; rfl
  clear hRe
  refine lv_aload_n hx hb dX4_at_0 rfl (lv_at hl 0 rfl) ?_
  refine lv_iconst (v := 0) hx hb dX4_at_1 (by decide) ?_
  refine va_put (D := D) (ci := 4) (v := .int 0) (ty := .int) (C := RX4) (T := TX4) (N := 14) hx hb hts (fun _ h9 => List.mem_cons_of_mem _ (List.mem_append_right _ h9)) tyX4 tyX4_ok nmX4 hown hK hP hD hS 0 rfl rfl 0 (by decide) (hts (.fieldLink RX4 35 "PalletStackModel" "thrown" "I") (List.mem_of_getElem? (i := 1) (by rfl))) (fun _ h9 => h9) rfl (by decide +kernel) rfl rfl (Nat.le_of_ble_eq_true rfl) dX4_at_2 (fun H locs hP hD hS => ?_)
  have hP : va_P D vwCl ([(mo, .inr (4, [.int 0, .int 0, .ref kT, .int 20, .int 60, .int 2000, .int 0, .int 0, .ref tb, .ref ld, .int 0, .ref lK, .ref lC, .int 0]))]) H := hP
  have hD : va_D A ([(mo, .inr (4, [.int 0, .int 0, .ref kT, .int 20, .int 60, .int 2000, .int 0, .int 0, .ref tb, .ref ld, .int 0, .ref lK, .ref lC, .int 0]))]) := hD
  refine lv_iload_n hx hb dX4_at_5 rfl (lv_at hl 1 rfl) ?_
  refine lv_iload_n hx hb dX4_at_6 rfl (lv_at hl 2 rfl) ?_
  refine zrdS (As := [.int a, .int b]) (rest := []) (wc := []) ⟨hx, hb, hml, hown, hts⟩ (c_isCellM l D _ a b) (va_cwS 2 hts gX4_at_X4_isCell rfl rfl rfl (by decide +kernel) ⟨by rw [hRf]; exact Nat.le_of_ble_eq_true rfl, by rw [hRl]; exact Nat.le_of_ble_eq_true rfl⟩) hK hP hD [] rfl (by decide) [] rfl rfl hl.1 rfl (Nat.le_of_ble_eq_true rfl) dX4_at_7 ⟨by omega, by omega⟩ (fun r_154 hr_154 => ?_)
  refine lv_if_eq (tgt := 23) hx hb dX4_at_10 (by decide) (fun c_155 => ?_) (fun c_155 => ?_)
  · have h_b := True.intro
    have k_156 : ¬ ((0 ≤ a ∧ a ≤ 11) ∧ (0 ≤ b ∧ b ≤ 9)) := fun h9 => absurd ((hr_154.trans (if_pos h9)).symm.trans c_155) (by decide)
    refine lv_aload_n hx hb dX4_at_23 rfl (lv_at hl 0 rfl) ?_
    refine lv_iconst (v := 1) hx hb dX4_at_24 (by decide) ?_
    refine zcalliV (As := [.int 1]) (rest := []) (wc := [(mo, .inr (4, [.int 0, .int 0, .ref kT, .int 20, .int 60, .int 2000, .int 0, .int 0, .ref tb, .ref ld, .int 0, .ref lK, .ref lC, .int 0]))]) (wr := []) ⟨hx, hb, hml, hown, hts⟩ (c_fail l D _ mo kT tb ld lK lC 0 1) (cwV 1 hts gX4_at_X4_fail rfl rfl rfl (by decide +kernel) ⟨by rw [hRf]; exact Nat.le_of_ble_eq_true rfl, by rw [hRl]; exact Nat.le_of_ble_eq_true rfl⟩) hK hP hD hS hA [0] [] rfl (by decide) rfl (by decide) (by decide) [] rfl (ci := 4) (q0 := 0) rfl rfl rfl hl.1 rfl (Nat.le_of_ble_eq_true rfl) dX4_at_25 ⟨by omega, by omega⟩ (fun r_157 u_158 H locs hwu_158 hnu_158 hzu_158 hK hP hD hS => ?_)
    have hK : va_K D vwCl [] s := hK
    have hP : va_P D vwCl ([(mo, .inr (4, [.int 1, .int 0, .ref kT, .int 20, .int 60, .int 2000, .int 0, .int 0, .ref tb, .ref ld, .int 0, .ref lK, .ref lC, .int 0]))]) H := hP
    have hD : va_D A ([(mo, .inr (4, [.int 1, .int 0, .ref kT, .int 20, .int 60, .int 2000, .int 0, .int 0, .ref tb, .ref ld, .int 0, .ref lK, .ref lC, .int 0]))]) := hD
    refine lv_topi (fun v_159 ev_159 => ?_)
    obtain rfl : v_159 = 0 := ev_159.trans hwu_158
    have hP := hP.sub (ws' := [(mo, .inr (4, [.int 1, .int 0, .ref kT, .int 20, .int 60, .int 2000, .int 0, .int 0, .ref tb, .ref ld, .int 0, .ref lK, .ref lC, .int 0]))]) [0] rfl
    have hD := hD.sub (ws' := [(mo, .inr (4, [.int 1, .int 0, .ref kT, .int 20, .int 60, .int 2000, .int 0, .int 0, .ref tb, .ref ld, .int 0, .ref lK, .ref lC, .int 0]))]) [0] (by decide) rfl
    exact W.iret (v := 0) hx hb hr (fun t ht hW => ⟨⟨0, (), rfl, rfl, ⟨Nat.zero_le _, by rw [ht]; exact hP, va_K.moved hW.alike (hK.sub (tys' := []) [] rfl), hD⟩⟩, hS.F ht⟩) hS.2.2 dX4_at_28
  · have h_b := True.intro
    have k_160 : (0 ≤ a ∧ a ≤ 11) ∧ (0 ≤ b ∧ b ≤ 9) := Decidable.byContradiction fun h9 => absurd (hr_154.trans (if_neg h9)) c_155
    refine lv_iload_n hx hb dX4_at_13 rfl (lv_at hl 3 rfl) ?_
    refine lv_iconst (v := 0) hx hb dX4_at_14 (by decide) ?_
    refine lv_bipush (v := 39) hx hb dX4_at_15 (by decide) ?_
    refine zrdS (As := [.int c1, .int 0, .int 39]) (rest := []) (wc := []) ⟨hx, hb, hml, hown, hts⟩ (c_isIn l D _ c1 0 39) (va_cwS 3 hts gX4_at_X4_isIn rfl rfl rfl (by decide +kernel) ⟨by rw [hRf]; exact Nat.le_of_ble_eq_true rfl, by rw [hRl]; exact Nat.le_of_ble_eq_true rfl⟩) hK hP hD [] rfl (by decide) [] rfl rfl hl.1 rfl (Nat.le_of_ble_eq_true rfl) dX4_at_17 ⟨by omega, by omega⟩ (fun r_161 hr_161 => ?_)
    refine lv_topi (fun v_162 ev_162 => ?_)
    obtain rfl : v_162 = 0 := ev_162.trans (hr_161.trans (if_neg (fun h9 => h ⟨k_160, h9⟩)))
    refine lv_if_ne (tgt := 29) hx hb dX4_at_20 (by decide) (fun c_163 => absurd (rfl) c_163) (fun c_163 => ?_)
    refine lv_aload_n hx hb dX4_at_23 rfl (lv_at hl 0 rfl) ?_
    refine lv_iconst (v := 1) hx hb dX4_at_24 (by decide) ?_
    refine zcalliV (As := [.int 1]) (rest := []) (wc := [(mo, .inr (4, [.int 0, .int 0, .ref kT, .int 20, .int 60, .int 2000, .int 0, .int 0, .ref tb, .ref ld, .int 0, .ref lK, .ref lC, .int 0]))]) (wr := []) ⟨hx, hb, hml, hown, hts⟩ (c_fail l D _ mo kT tb ld lK lC 0 1) (cwV 1 hts gX4_at_X4_fail rfl rfl rfl (by decide +kernel) ⟨by rw [hRf]; exact Nat.le_of_ble_eq_true rfl, by rw [hRl]; exact Nat.le_of_ble_eq_true rfl⟩) hK hP hD hS hA [0] [] rfl (by decide) rfl (by decide) (by decide) [] rfl (ci := 4) (q0 := 0) rfl rfl rfl hl.1 rfl (Nat.le_of_ble_eq_true rfl) dX4_at_25 ⟨by omega, by omega⟩ (fun r_164 u_165 H locs hwu_165 hnu_165 hzu_165 hK hP hD hS => ?_)
    have hK : va_K D vwCl [] s := hK
    have hP : va_P D vwCl ([(mo, .inr (4, [.int 1, .int 0, .ref kT, .int 20, .int 60, .int 2000, .int 0, .int 0, .ref tb, .ref ld, .int 0, .ref lK, .ref lC, .int 0]))]) H := hP
    have hD : va_D A ([(mo, .inr (4, [.int 1, .int 0, .ref kT, .int 20, .int 60, .int 2000, .int 0, .int 0, .ref tb, .ref ld, .int 0, .ref lK, .ref lC, .int 0]))]) := hD
    refine lv_topi (fun v_166 ev_166 => ?_)
    obtain rfl : v_166 = 0 := ev_166.trans hwu_165
    have hP := hP.sub (ws' := [(mo, .inr (4, [.int 1, .int 0, .ref kT, .int 20, .int 60, .int 2000, .int 0, .int 0, .ref tb, .ref ld, .int 0, .ref lK, .ref lC, .int 0]))]) [0] rfl
    have hD := hD.sub (ws' := [(mo, .inr (4, [.int 1, .int 0, .ref kT, .int 20, .int 60, .int 2000, .int 0, .int 0, .ref tb, .ref ld, .int 0, .ref lK, .ref lC, .int 0]))]) [0] (by decide) rfl
    exact W.iret (v := 0) hx hb hr (fun t ht hW => ⟨⟨0, (), rfl, rfl, ⟨Nat.zero_le _, by rw [ht]; exact hP, va_K.moved hW.alike (hK.sub (tys' := []) [] rfl), hD⟩⟩, hS.F ht⟩) hS.2.2 dX4_at_28
set_option maxHeartbeats 4000000 in
set_option maxRecDepth 100000 in
theorem c_MsetRules_x (l : Launch) (D : zG) (sz : Nat) (mo kT tb ld lK lC : Nat) (a b c1 t : Int32) (h : ¬ ((1 ≤ a ∧ a ≤ 40) ∧ (0 ≤ b ∧ b ≤ 100) ∧ (1 ≤ c1 ∧ c1 ≤ 20000))) : Met l yX4_setRules wsX4_setRules ({ frames := 3, cells := 0, slots := 0, locals := 120 }) (zPc D [] ([(mo, .inr (4, [.int 0, .int 0, .ref kT, .int 20, .int 60, .int 2000, .int 0, .int 0, .ref tb, .ref ld, .int 0, .ref lK, .ref lC, .int 0]))]) sz [.ref mo, .int a, .int b, .int c1, .int t]) (va_Qi (fun (r : Int32) (u : Unit) => r = 0) (zB D (va_A ([(mo, .inr (4, [.int 0, .int 0, .ref kT, .int 20, .int 60, .int 2000, .int 0, .int 0, .ref tb, .ref ld, .int 0, .ref lK, .ref lC, .int 0]))]) sz) (fun _ => []) 0 (fun _ => [(mo, .inr (4, [.int 1, .int 0, .ref kT, .int 20, .int 60, .int 2000, .int 0, .int 0, .ref tb, .ref ld, .int 0, .ref lK, .ref lC, .int 0]))])) (va_A ([(mo, .inr (4, [.int 0, .int 0, .ref kT, .int 20, .int 60, .int 2000, .int 0, .int 0, .ref tb, .ref ld, .int 0, .ref lK, .ref lC, .int 0]))]) sz)) 0 0 (va_A ([(mo, .inr (4, [.int 0, .int 0, .ref kT, .int 20, .int 60, .int 2000, .int 0, .int 0, .ref tb, .ref ld, .int 0, .ref lK, .ref lC, .int 0]))]) sz) := by
  refine Met.ofW (cc := cX4_setRules) (maxL := 6) (ret := (some .int)) (by decide) rfl ?_
  intro p e s m args below meth c s₁ B hml hv
  obtain ⟨rfl, hsz, hP, hK, hD0⟩ := hv
  have hx := B.exec
  have hb := B.bytes
  have hr := B.returns
  have hts := atoms_spec (ws := wsX4_setRules) B.pre
  have hown : s.vm.findClass RX4 = some m.cls := findClass_of_methodNamed B.named
  have hlocks := B.notSynchronized
  subst hsz
  have hD := hD0.self (sz := s.heap.size)
  generalize hAe : va_A ([(mo, .inr (4, [.int 0, .int 0, .ref kT, .int 20, .int 60, .int 2000, .int 0, .int 0, .ref tb, .ref ld, .int 0, .ref lK, .ref lC, .int 0]))]) s.heap.size = A at hD ⊢
  have hA : ∀ q : Nat, s.heap.size ≤ q → A q := fun q h => by rw [← hAe]; exact Or.inr h
  have hS : va_S A s.heap s.heap [] := va_S.rf
  have hl := lv_entry ([.ref mo, .int a, .int b, .int c1, .int t]) (n := 6) (Nat.le_of_ble_eq_true rfl)
  rw [lg_entry_eq]
  generalize (lg_sl ([.ref mo, .int a, .int b, .int c1, .int t]) ++ List.replicate (6 - (lg_sl ([.ref mo, .int a, .int b, .int c1, .int t])).length) Slot.unset).toArray = ls at hl ⊢
  have hl : lv_has ls 6 [(0, .ref mo), (1, .int a), (2, .int b), (3, .int c1), (4, .int t)] := hl
  have hP : va_P D vwCl ([(mo, .inr (4, [.int 0, .int 0, .ref kT, .int 20, .int 60, .int 2000, .int 0, .int 0, .ref tb, .ref ld, .int 0, .ref lK, .ref lC, .int 0]))]) s.heap := hP
  generalize hRe : (headSpec _ _).room = R
  have hRf : R.frames = 3 := by rw [← hRe]; rfl
  have hRc : R.cells = 0 := by rw [← hRe]; rfl
  have hRs : R.slots = 0 := by rw [← hRe]; rfl
  have hRl : R.locals = 120 := by rw [← hRe]; rfl
  clear hRe
  refine lv_aload_n hx hb dX4_setRules_0 rfl (lv_at hl 0 rfl) ?_
  refine lv_iconst (v := 0) hx hb dX4_setRules_1 (by decide) ?_
  refine va_put (D := D) (ci := 4) (v := .int 0) (ty := .int) (C := RX4) (T := TX4) (N := 14) hx hb hts (fun _ h9 => List.mem_cons_of_mem _ (List.mem_append_right _ h9)) tyX4 tyX4_ok nmX4 hown hK hP hD hS 0 rfl rfl 0 (by decide) (hts (.fieldLink RX4 35 "PalletStackModel" "thrown" "I") (List.mem_of_getElem? (i := 1) (by rfl))) (fun _ h9 => h9) rfl (by decide +kernel) rfl rfl (Nat.le_of_ble_eq_true rfl) dX4_setRules_2 (fun H locs hP hD hS => ?_)
  have hP : va_P D vwCl ([(mo, .inr (4, [.int 0, .int 0, .ref kT, .int 20, .int 60, .int 2000, .int 0, .int 0, .ref tb, .ref ld, .int 0, .ref lK, .ref lC, .int 0]))]) H := hP
  have hD : va_D A ([(mo, .inr (4, [.int 0, .int 0, .ref kT, .int 20, .int 60, .int 2000, .int 0, .int 0, .ref tb, .ref ld, .int 0, .ref lK, .ref lC, .int 0]))]) := hD
  refine lv_iload_n hx hb dX4_setRules_5 rfl (lv_at hl 1 rfl) ?_
  refine lv_iconst (v := 1) hx hb dX4_setRules_6 (by decide) ?_
  refine lv_bipush (v := 40) hx hb dX4_setRules_7 (by decide) ?_
  refine zrdS (As := [.int a, .int 1, .int 40]) (rest := []) (wc := []) ⟨hx, hb, hml, hown, hts⟩ (c_isIn l D _ a 1 40) (va_cwS 3 hts gX4_setRules_X4_isIn rfl rfl rfl (by decide +kernel) ⟨by rw [hRf]; exact Nat.le_of_ble_eq_true rfl, by rw [hRl]; exact Nat.le_of_ble_eq_true rfl⟩) hK hP hD [] rfl (by decide) [] rfl rfl hl.1 rfl (Nat.le_of_ble_eq_true rfl) dX4_setRules_9 ⟨by omega, by omega⟩ (fun r_167 hr_167 => ?_)
  refine lv_if_eq (tgt := 36) hx hb dX4_setRules_12 (by decide) (fun c_168 => ?_) (fun c_168 => ?_)
  · have h_b := True.intro
    have k_169 : ¬ (1 ≤ a ∧ a ≤ 40) := fun h9 => absurd ((hr_167.trans (if_pos h9)).symm.trans c_168) (by decide)
    refine lv_aload_n hx hb dX4_setRules_36 rfl (lv_at hl 0 rfl) ?_
    refine lv_iconst (v := 1) hx hb dX4_setRules_37 (by decide) ?_
    refine zcalliV (As := [.int 1]) (rest := []) (wc := [(mo, .inr (4, [.int 0, .int 0, .ref kT, .int 20, .int 60, .int 2000, .int 0, .int 0, .ref tb, .ref ld, .int 0, .ref lK, .ref lC, .int 0]))]) (wr := []) ⟨hx, hb, hml, hown, hts⟩ (c_fail l D _ mo kT tb ld lK lC 0 1) (cwV 1 hts gX4_setRules_X4_fail rfl rfl rfl (by decide +kernel) ⟨by rw [hRf]; exact Nat.le_of_ble_eq_true rfl, by rw [hRl]; exact Nat.le_of_ble_eq_true rfl⟩) hK hP hD hS hA [0] [] rfl (by decide) rfl (by decide) (by decide) [] rfl (ci := 4) (q0 := 0) rfl rfl rfl hl.1 rfl (Nat.le_of_ble_eq_true rfl) dX4_setRules_38 ⟨by omega, by omega⟩ (fun r_170 u_171 H locs hwu_171 hnu_171 hzu_171 hK hP hD hS => ?_)
    have hK : va_K D vwCl [] s := hK
    have hP : va_P D vwCl ([(mo, .inr (4, [.int 1, .int 0, .ref kT, .int 20, .int 60, .int 2000, .int 0, .int 0, .ref tb, .ref ld, .int 0, .ref lK, .ref lC, .int 0]))]) H := hP
    have hD : va_D A ([(mo, .inr (4, [.int 1, .int 0, .ref kT, .int 20, .int 60, .int 2000, .int 0, .int 0, .ref tb, .ref ld, .int 0, .ref lK, .ref lC, .int 0]))]) := hD
    refine lv_topi (fun v_172 ev_172 => ?_)
    obtain rfl : v_172 = 0 := ev_172.trans hwu_171
    have hP := hP.sub (ws' := [(mo, .inr (4, [.int 1, .int 0, .ref kT, .int 20, .int 60, .int 2000, .int 0, .int 0, .ref tb, .ref ld, .int 0, .ref lK, .ref lC, .int 0]))]) [0] rfl
    have hD := hD.sub (ws' := [(mo, .inr (4, [.int 1, .int 0, .ref kT, .int 20, .int 60, .int 2000, .int 0, .int 0, .ref tb, .ref ld, .int 0, .ref lK, .ref lC, .int 0]))]) [0] (by decide) rfl
    exact W.iret (v := 0) hx hb hr (fun t ht hW => ⟨⟨0, (), rfl, rfl, ⟨Nat.zero_le _, by rw [ht]; exact hP, va_K.moved hW.alike (hK.sub (tys' := []) [] rfl), hD⟩⟩, hS.F ht⟩) hS.2.2 dX4_setRules_41
  · have h_b := True.intro
    have k_173 : 1 ≤ a ∧ a ≤ 40 := Decidable.byContradiction fun h9 => absurd (hr_167.trans (if_neg h9)) c_168
    refine lv_iload_n hx hb dX4_setRules_15 rfl (lv_at hl 2 rfl) ?_
    refine lv_iconst (v := 0) hx hb dX4_setRules_16 (by decide) ?_
    refine lv_bipush (v := 100) hx hb dX4_setRules_17 (by decide) ?_
    refine zrdS (As := [.int b, .int 0, .int 100]) (rest := []) (wc := []) ⟨hx, hb, hml, hown, hts⟩ (c_isIn l D _ b 0 100) (va_cwS 3 hts gX4_setRules_X4_isIn rfl rfl rfl (by decide +kernel) ⟨by rw [hRf]; exact Nat.le_of_ble_eq_true rfl, by rw [hRl]; exact Nat.le_of_ble_eq_true rfl⟩) hK hP hD [] rfl (by decide) [] rfl rfl hl.1 rfl (Nat.le_of_ble_eq_true rfl) dX4_setRules_19 ⟨by omega, by omega⟩ (fun r_174 hr_174 => ?_)
    refine lv_if_eq (tgt := 36) hx hb dX4_setRules_22 (by decide) (fun c_175 => ?_) (fun c_175 => ?_)
    · have h_b := True.intro
      have k_176 : ¬ (0 ≤ b ∧ b ≤ 100) := fun h9 => absurd ((hr_174.trans (if_pos h9)).symm.trans c_175) (by decide)
      refine lv_aload_n hx hb dX4_setRules_36 rfl (lv_at hl 0 rfl) ?_
      refine lv_iconst (v := 1) hx hb dX4_setRules_37 (by decide) ?_
      refine zcalliV (As := [.int 1]) (rest := []) (wc := [(mo, .inr (4, [.int 0, .int 0, .ref kT, .int 20, .int 60, .int 2000, .int 0, .int 0, .ref tb, .ref ld, .int 0, .ref lK, .ref lC, .int 0]))]) (wr := []) ⟨hx, hb, hml, hown, hts⟩ (c_fail l D _ mo kT tb ld lK lC 0 1) (cwV 1 hts gX4_setRules_X4_fail rfl rfl rfl (by decide +kernel) ⟨by rw [hRf]; exact Nat.le_of_ble_eq_true rfl, by rw [hRl]; exact Nat.le_of_ble_eq_true rfl⟩) hK hP hD hS hA [0] [] rfl (by decide) rfl (by decide) (by decide) [] rfl (ci := 4) (q0 := 0) rfl rfl rfl hl.1 rfl (Nat.le_of_ble_eq_true rfl) dX4_setRules_38 ⟨by omega, by omega⟩ (fun r_177 u_178 H locs hwu_178 hnu_178 hzu_178 hK hP hD hS => ?_)
      have hK : va_K D vwCl [] s := hK
      have hP : va_P D vwCl ([(mo, .inr (4, [.int 1, .int 0, .ref kT, .int 20, .int 60, .int 2000, .int 0, .int 0, .ref tb, .ref ld, .int 0, .ref lK, .ref lC, .int 0]))]) H := hP
      have hD : va_D A ([(mo, .inr (4, [.int 1, .int 0, .ref kT, .int 20, .int 60, .int 2000, .int 0, .int 0, .ref tb, .ref ld, .int 0, .ref lK, .ref lC, .int 0]))]) := hD
      refine lv_topi (fun v_179 ev_179 => ?_)
      obtain rfl : v_179 = 0 := ev_179.trans hwu_178
      have hP := hP.sub (ws' := [(mo, .inr (4, [.int 1, .int 0, .ref kT, .int 20, .int 60, .int 2000, .int 0, .int 0, .ref tb, .ref ld, .int 0, .ref lK, .ref lC, .int 0]))]) [0] rfl
      have hD := hD.sub (ws' := [(mo, .inr (4, [.int 1, .int 0, .ref kT, .int 20, .int 60, .int 2000, .int 0, .int 0, .ref tb, .ref ld, .int 0, .ref lK, .ref lC, .int 0]))]) [0] (by decide) rfl
      exact W.iret (v := 0) hx hb hr (fun t ht hW => ⟨⟨0, (), rfl, rfl, ⟨Nat.zero_le _, by rw [ht]; exact hP, va_K.moved hW.alike (hK.sub (tys' := []) [] rfl), hD⟩⟩, hS.F ht⟩) hS.2.2 dX4_setRules_41
    · have h_b := True.intro
      have k_180 : 0 ≤ b ∧ b ≤ 100 := Decidable.byContradiction fun h9 => absurd (hr_174.trans (if_neg h9)) c_175
      refine lv_iload_n hx hb dX4_setRules_25 rfl (lv_at hl 3 rfl) ?_
      refine lv_iconst (v := 1) hx hb dX4_setRules_26 (by decide) ?_
      refine lv_sipush (v := 20000) hx hb dX4_setRules_27 (by decide) ?_
      refine zrdS (As := [.int c1, .int 1, .int 20000]) (rest := []) (wc := []) ⟨hx, hb, hml, hown, hts⟩ (c_isIn l D _ c1 1 20000) (va_cwS 3 hts gX4_setRules_X4_isIn rfl rfl rfl (by decide +kernel) ⟨by rw [hRf]; exact Nat.le_of_ble_eq_true rfl, by rw [hRl]; exact Nat.le_of_ble_eq_true rfl⟩) hK hP hD [] rfl (by decide) [] rfl rfl hl.1 rfl (Nat.le_of_ble_eq_true rfl) dX4_setRules_30 ⟨by omega, by omega⟩ (fun r_181 hr_181 => ?_)
      refine lv_topi (fun v_182 ev_182 => ?_)
      obtain rfl : v_182 = 0 := ev_182.trans (hr_181.trans (if_neg (fun h9 => h ⟨k_173, k_180, h9⟩)))
      refine lv_if_ne (tgt := 42) hx hb dX4_setRules_33 (by decide) (fun c_183 => absurd (rfl) c_183) (fun c_183 => ?_)
      refine lv_aload_n hx hb dX4_setRules_36 rfl (lv_at hl 0 rfl) ?_
      refine lv_iconst (v := 1) hx hb dX4_setRules_37 (by decide) ?_
      refine zcalliV (As := [.int 1]) (rest := []) (wc := [(mo, .inr (4, [.int 0, .int 0, .ref kT, .int 20, .int 60, .int 2000, .int 0, .int 0, .ref tb, .ref ld, .int 0, .ref lK, .ref lC, .int 0]))]) (wr := []) ⟨hx, hb, hml, hown, hts⟩ (c_fail l D _ mo kT tb ld lK lC 0 1) (cwV 1 hts gX4_setRules_X4_fail rfl rfl rfl (by decide +kernel) ⟨by rw [hRf]; exact Nat.le_of_ble_eq_true rfl, by rw [hRl]; exact Nat.le_of_ble_eq_true rfl⟩) hK hP hD hS hA [0] [] rfl (by decide) rfl (by decide) (by decide) [] rfl (ci := 4) (q0 := 0) rfl rfl rfl hl.1 rfl (Nat.le_of_ble_eq_true rfl) dX4_setRules_38 ⟨by omega, by omega⟩ (fun r_184 u_185 H locs hwu_185 hnu_185 hzu_185 hK hP hD hS => ?_)
      have hK : va_K D vwCl [] s := hK
      have hP : va_P D vwCl ([(mo, .inr (4, [.int 1, .int 0, .ref kT, .int 20, .int 60, .int 2000, .int 0, .int 0, .ref tb, .ref ld, .int 0, .ref lK, .ref lC, .int 0]))]) H := hP
      have hD : va_D A ([(mo, .inr (4, [.int 1, .int 0, .ref kT, .int 20, .int 60, .int 2000, .int 0, .int 0, .ref tb, .ref ld, .int 0, .ref lK, .ref lC, .int 0]))]) := hD
      refine lv_topi (fun v_186 ev_186 => ?_)
      obtain rfl : v_186 = 0 := ev_186.trans hwu_185
      have hP := hP.sub (ws' := [(mo, .inr (4, [.int 1, .int 0, .ref kT, .int 20, .int 60, .int 2000, .int 0, .int 0, .ref tb, .ref ld, .int 0, .ref lK, .ref lC, .int 0]))]) [0] rfl
      have hD := hD.sub (ws' := [(mo, .inr (4, [.int 1, .int 0, .ref kT, .int 20, .int 60, .int 2000, .int 0, .int 0, .ref tb, .ref ld, .int 0, .ref lK, .ref lC, .int 0]))]) [0] (by decide) rfl
      exact W.iret (v := 0) hx hb hr (fun t ht hW => ⟨⟨0, (), rfl, rfl, ⟨Nat.zero_le _, by rw [ht]; exact hP, va_K.moved hW.alike (hK.sub (tys' := []) [] rfl), hD⟩⟩, hS.F ht⟩) hS.2.2 dX4_setRules_41
set_option maxHeartbeats 4000000 in
set_option maxRecDepth 100000 in
theorem c_MaddKind_x (l : Launch) (D : zG) (sz : Nat) (mo kT tb ld lK lC : Nat) (a b c1 d e0 f : Int32) (h : ¬ ((1 ≤ a ∧ a ≤ 6) ∧ (1 ≤ b ∧ b ≤ 6) ∧ (1 ≤ c1 ∧ c1 ≤ 8) ∧ (1 ≤ d ∧ d ≤ 500) ∧ (0 ≤ e0 ∧ e0 ≤ 5000) ∧ (0 ≤ f ∧ f ≤ 3))) : Met l yX4_addKind wsX4_addKind ({ frames := 3, cells := 0, slots := 0, locals := 120 }) (zPc D [] ([(mo, .inr (4, [.int 0, .int 0, .ref kT, .int 20, .int 60, .int 2000, .int 0, .int 0, .ref tb, .ref ld, .int 0, .ref lK, .ref lC, .int 0]))]) sz [.ref mo, .int a, .int b, .int c1, .int d, .int e0, .int f]) (va_Qi (fun (r : Int32) (u : Unit) => r = 0) (zB D (va_A ([(mo, .inr (4, [.int 0, .int 0, .ref kT, .int 20, .int 60, .int 2000, .int 0, .int 0, .ref tb, .ref ld, .int 0, .ref lK, .ref lC, .int 0]))]) sz) (fun _ => []) 0 (fun _ => [(mo, .inr (4, [.int 1, .int 0, .ref kT, .int 20, .int 60, .int 2000, .int 0, .int 0, .ref tb, .ref ld, .int 0, .ref lK, .ref lC, .int 0]))])) (va_A ([(mo, .inr (4, [.int 0, .int 0, .ref kT, .int 20, .int 60, .int 2000, .int 0, .int 0, .ref tb, .ref ld, .int 0, .ref lK, .ref lC, .int 0]))]) sz)) 0 0 (va_A ([(mo, .inr (4, [.int 0, .int 0, .ref kT, .int 20, .int 60, .int 2000, .int 0, .int 0, .ref tb, .ref ld, .int 0, .ref lK, .ref lC, .int 0]))]) sz) := by
  refine Met.ofW (cc := cX4_addKind) (maxL := 8) (ret := (some .int)) (by decide) rfl ?_
  intro p e s m args below meth c s₁ B hml hv
  obtain ⟨rfl, hsz, hP, hK, hD0⟩ := hv
  have hx := B.exec
  have hb := B.bytes
  have hr := B.returns
  have hts := atoms_spec (ws := wsX4_addKind) B.pre
  have hown : s.vm.findClass RX4 = some m.cls := findClass_of_methodNamed B.named
  have hlocks := B.notSynchronized
  subst hsz
  have hD := hD0.self (sz := s.heap.size)
  generalize hAe : va_A ([(mo, .inr (4, [.int 0, .int 0, .ref kT, .int 20, .int 60, .int 2000, .int 0, .int 0, .ref tb, .ref ld, .int 0, .ref lK, .ref lC, .int 0]))]) s.heap.size = A at hD ⊢
  have hA : ∀ q : Nat, s.heap.size ≤ q → A q := fun q h => by rw [← hAe]; exact Or.inr h
  have hS : va_S A s.heap s.heap [] := va_S.rf
  have hl := lv_entry ([.ref mo, .int a, .int b, .int c1, .int d, .int e0, .int f]) (n := 8) (Nat.le_of_ble_eq_true rfl)
  rw [lg_entry_eq]
  generalize (lg_sl ([.ref mo, .int a, .int b, .int c1, .int d, .int e0, .int f]) ++ List.replicate (8 - (lg_sl ([.ref mo, .int a, .int b, .int c1, .int d, .int e0, .int f])).length) Slot.unset).toArray = ls at hl ⊢
  have hl : lv_has ls 8 [(0, .ref mo), (1, .int a), (2, .int b), (3, .int c1), (4, .int d), (5, .int e0), (6, .int f)] := hl
  have hP : va_P D vwCl ([(mo, .inr (4, [.int 0, .int 0, .ref kT, .int 20, .int 60, .int 2000, .int 0, .int 0, .ref tb, .ref ld, .int 0, .ref lK, .ref lC, .int 0]))]) s.heap := hP
  generalize hRe : (headSpec _ _).room = R
  have hRf : R.frames = 3 := by rw [← hRe]; rfl
  have hRc : R.cells = 0 := by rw [← hRe]; rfl
  have hRs : R.slots = 0 := by rw [← hRe]; rfl
  have hRl : R.locals = 120 := by rw [← hRe]; rfl
  clear hRe
  refine lv_aload_n hx hb dX4_addKind_0 rfl (lv_at hl 0 rfl) ?_
  refine lv_iconst (v := 0) hx hb dX4_addKind_1 (by decide) ?_
  refine va_put (D := D) (ci := 4) (v := .int 0) (ty := .int) (C := RX4) (T := TX4) (N := 14) hx hb hts (fun _ h9 => List.mem_cons_of_mem _ (List.mem_append_right _ h9)) tyX4 tyX4_ok nmX4 hown hK hP hD hS 0 rfl rfl 0 (by decide) (hts (.fieldLink RX4 35 "PalletStackModel" "thrown" "I") (List.mem_of_getElem? (i := 1) (by rfl))) (fun _ h9 => h9) rfl (by decide +kernel) rfl rfl (Nat.le_of_ble_eq_true rfl) dX4_addKind_2 (fun H locs hP hD hS => ?_)
  have hP : va_P D vwCl ([(mo, .inr (4, [.int 0, .int 0, .ref kT, .int 20, .int 60, .int 2000, .int 0, .int 0, .ref tb, .ref ld, .int 0, .ref lK, .ref lC, .int 0]))]) H := hP
  have hD : va_D A ([(mo, .inr (4, [.int 0, .int 0, .ref kT, .int 20, .int 60, .int 2000, .int 0, .int 0, .ref tb, .ref ld, .int 0, .ref lK, .ref lC, .int 0]))]) := hD
  refine lv_iload_n hx hb dX4_addKind_5 rfl (lv_at hl 1 rfl) ?_
  refine lv_iconst (v := 1) hx hb dX4_addKind_6 (by decide) ?_
  refine lv_bipush (v := 6) hx hb dX4_addKind_7 (by decide) ?_
  refine zrdS (As := [.int a, .int 1, .int 6]) (rest := []) (wc := []) ⟨hx, hb, hml, hown, hts⟩ (c_isIn l D _ a 1 6) (va_cwS 3 hts gX4_addKind_X4_isIn rfl rfl rfl (by decide +kernel) ⟨by rw [hRf]; exact Nat.le_of_ble_eq_true rfl, by rw [hRl]; exact Nat.le_of_ble_eq_true rfl⟩) hK hP hD [] rfl (by decide) [] rfl rfl hl.1 rfl (Nat.le_of_ble_eq_true rfl) dX4_addKind_9 ⟨by omega, by omega⟩ (fun r_187 hr_187 => ?_)
  refine lv_if_eq (tgt := 69) hx hb dX4_addKind_12 (by decide) (fun c_188 => ?_) (fun c_188 => ?_)
  · have h_b := True.intro
    have k_189 : ¬ (1 ≤ a ∧ a ≤ 6) := fun h9 => absurd ((hr_187.trans (if_pos h9)).symm.trans c_188) (by decide)
    refine lv_aload_n hx hb dX4_addKind_69 rfl (lv_at hl 0 rfl) ?_
    refine lv_iconst (v := 1) hx hb dX4_addKind_70 (by decide) ?_
    refine zcalliV (As := [.int 1]) (rest := []) (wc := [(mo, .inr (4, [.int 0, .int 0, .ref kT, .int 20, .int 60, .int 2000, .int 0, .int 0, .ref tb, .ref ld, .int 0, .ref lK, .ref lC, .int 0]))]) (wr := []) ⟨hx, hb, hml, hown, hts⟩ (c_fail l D _ mo kT tb ld lK lC 0 1) (cwV 1 hts gX4_addKind_X4_fail rfl rfl rfl (by decide +kernel) ⟨by rw [hRf]; exact Nat.le_of_ble_eq_true rfl, by rw [hRl]; exact Nat.le_of_ble_eq_true rfl⟩) hK hP hD hS hA [0] [] rfl (by decide) rfl (by decide) (by decide) [] rfl (ci := 4) (q0 := 0) rfl rfl rfl hl.1 rfl (Nat.le_of_ble_eq_true rfl) dX4_addKind_71 ⟨by omega, by omega⟩ (fun r_190 u_191 H locs hwu_191 hnu_191 hzu_191 hK hP hD hS => ?_)
    have hK : va_K D vwCl [] s := hK
    have hP : va_P D vwCl ([(mo, .inr (4, [.int 1, .int 0, .ref kT, .int 20, .int 60, .int 2000, .int 0, .int 0, .ref tb, .ref ld, .int 0, .ref lK, .ref lC, .int 0]))]) H := hP
    have hD : va_D A ([(mo, .inr (4, [.int 1, .int 0, .ref kT, .int 20, .int 60, .int 2000, .int 0, .int 0, .ref tb, .ref ld, .int 0, .ref lK, .ref lC, .int 0]))]) := hD
    refine lv_topi (fun v_192 ev_192 => ?_)
    obtain rfl : v_192 = 0 := ev_192.trans hwu_191
    have hP := hP.sub (ws' := [(mo, .inr (4, [.int 1, .int 0, .ref kT, .int 20, .int 60, .int 2000, .int 0, .int 0, .ref tb, .ref ld, .int 0, .ref lK, .ref lC, .int 0]))]) [0] rfl
    have hD := hD.sub (ws' := [(mo, .inr (4, [.int 1, .int 0, .ref kT, .int 20, .int 60, .int 2000, .int 0, .int 0, .ref tb, .ref ld, .int 0, .ref lK, .ref lC, .int 0]))]) [0] (by decide) rfl
    exact W.iret (v := 0) hx hb hr (fun t ht hW => ⟨⟨0, (), rfl, rfl, ⟨Nat.zero_le _, by rw [ht]; exact hP, va_K.moved hW.alike (hK.sub (tys' := []) [] rfl), hD⟩⟩, hS.F ht⟩) hS.2.2 dX4_addKind_74
  · have h_b := True.intro
    have k_193 : 1 ≤ a ∧ a ≤ 6 := Decidable.byContradiction fun h9 => absurd (hr_187.trans (if_neg h9)) c_188
    refine lv_iload_n hx hb dX4_addKind_15 rfl (lv_at hl 2 rfl) ?_
    refine lv_iconst (v := 1) hx hb dX4_addKind_16 (by decide) ?_
    refine lv_bipush (v := 6) hx hb dX4_addKind_17 (by decide) ?_
    refine zrdS (As := [.int b, .int 1, .int 6]) (rest := []) (wc := []) ⟨hx, hb, hml, hown, hts⟩ (c_isIn l D _ b 1 6) (va_cwS 3 hts gX4_addKind_X4_isIn rfl rfl rfl (by decide +kernel) ⟨by rw [hRf]; exact Nat.le_of_ble_eq_true rfl, by rw [hRl]; exact Nat.le_of_ble_eq_true rfl⟩) hK hP hD [] rfl (by decide) [] rfl rfl hl.1 rfl (Nat.le_of_ble_eq_true rfl) dX4_addKind_19 ⟨by omega, by omega⟩ (fun r_194 hr_194 => ?_)
    refine lv_if_eq (tgt := 69) hx hb dX4_addKind_22 (by decide) (fun c_195 => ?_) (fun c_195 => ?_)
    · have h_b := True.intro
      have k_196 : ¬ (1 ≤ b ∧ b ≤ 6) := fun h9 => absurd ((hr_194.trans (if_pos h9)).symm.trans c_195) (by decide)
      refine lv_aload_n hx hb dX4_addKind_69 rfl (lv_at hl 0 rfl) ?_
      refine lv_iconst (v := 1) hx hb dX4_addKind_70 (by decide) ?_
      refine zcalliV (As := [.int 1]) (rest := []) (wc := [(mo, .inr (4, [.int 0, .int 0, .ref kT, .int 20, .int 60, .int 2000, .int 0, .int 0, .ref tb, .ref ld, .int 0, .ref lK, .ref lC, .int 0]))]) (wr := []) ⟨hx, hb, hml, hown, hts⟩ (c_fail l D _ mo kT tb ld lK lC 0 1) (cwV 1 hts gX4_addKind_X4_fail rfl rfl rfl (by decide +kernel) ⟨by rw [hRf]; exact Nat.le_of_ble_eq_true rfl, by rw [hRl]; exact Nat.le_of_ble_eq_true rfl⟩) hK hP hD hS hA [0] [] rfl (by decide) rfl (by decide) (by decide) [] rfl (ci := 4) (q0 := 0) rfl rfl rfl hl.1 rfl (Nat.le_of_ble_eq_true rfl) dX4_addKind_71 ⟨by omega, by omega⟩ (fun r_197 u_198 H locs hwu_198 hnu_198 hzu_198 hK hP hD hS => ?_)
      have hK : va_K D vwCl [] s := hK
      have hP : va_P D vwCl ([(mo, .inr (4, [.int 1, .int 0, .ref kT, .int 20, .int 60, .int 2000, .int 0, .int 0, .ref tb, .ref ld, .int 0, .ref lK, .ref lC, .int 0]))]) H := hP
      have hD : va_D A ([(mo, .inr (4, [.int 1, .int 0, .ref kT, .int 20, .int 60, .int 2000, .int 0, .int 0, .ref tb, .ref ld, .int 0, .ref lK, .ref lC, .int 0]))]) := hD
      refine lv_topi (fun v_199 ev_199 => ?_)
      obtain rfl : v_199 = 0 := ev_199.trans hwu_198
      have hP := hP.sub (ws' := [(mo, .inr (4, [.int 1, .int 0, .ref kT, .int 20, .int 60, .int 2000, .int 0, .int 0, .ref tb, .ref ld, .int 0, .ref lK, .ref lC, .int 0]))]) [0] rfl
      have hD := hD.sub (ws' := [(mo, .inr (4, [.int 1, .int 0, .ref kT, .int 20, .int 60, .int 2000, .int 0, .int 0, .ref tb, .ref ld, .int 0, .ref lK, .ref lC, .int 0]))]) [0] (by decide) rfl
      exact W.iret (v := 0) hx hb hr (fun t ht hW => ⟨⟨0, (), rfl, rfl, ⟨Nat.zero_le _, by rw [ht]; exact hP, va_K.moved hW.alike (hK.sub (tys' := []) [] rfl), hD⟩⟩, hS.F ht⟩) hS.2.2 dX4_addKind_74
    · have h_b := True.intro
      have k_200 : 1 ≤ b ∧ b ≤ 6 := Decidable.byContradiction fun h9 => absurd (hr_194.trans (if_neg h9)) c_195
      refine lv_iload_n hx hb dX4_addKind_25 rfl (lv_at hl 3 rfl) ?_
      refine lv_iconst (v := 1) hx hb dX4_addKind_26 (by decide) ?_
      refine lv_bipush (v := 8) hx hb dX4_addKind_27 (by decide) ?_
      refine zrdS (As := [.int c1, .int 1, .int 8]) (rest := []) (wc := []) ⟨hx, hb, hml, hown, hts⟩ (c_isIn l D _ c1 1 8) (va_cwS 3 hts gX4_addKind_X4_isIn rfl rfl rfl (by decide +kernel) ⟨by rw [hRf]; exact Nat.le_of_ble_eq_true rfl, by rw [hRl]; exact Nat.le_of_ble_eq_true rfl⟩) hK hP hD [] rfl (by decide) [] rfl rfl hl.1 rfl (Nat.le_of_ble_eq_true rfl) dX4_addKind_29 ⟨by omega, by omega⟩ (fun r_201 hr_201 => ?_)
      refine lv_if_eq (tgt := 69) hx hb dX4_addKind_32 (by decide) (fun c_202 => ?_) (fun c_202 => ?_)
      · have h_b := True.intro
        have k_203 : ¬ (1 ≤ c1 ∧ c1 ≤ 8) := fun h9 => absurd ((hr_201.trans (if_pos h9)).symm.trans c_202) (by decide)
        refine lv_aload_n hx hb dX4_addKind_69 rfl (lv_at hl 0 rfl) ?_
        refine lv_iconst (v := 1) hx hb dX4_addKind_70 (by decide) ?_
        refine zcalliV (As := [.int 1]) (rest := []) (wc := [(mo, .inr (4, [.int 0, .int 0, .ref kT, .int 20, .int 60, .int 2000, .int 0, .int 0, .ref tb, .ref ld, .int 0, .ref lK, .ref lC, .int 0]))]) (wr := []) ⟨hx, hb, hml, hown, hts⟩ (c_fail l D _ mo kT tb ld lK lC 0 1) (cwV 1 hts gX4_addKind_X4_fail rfl rfl rfl (by decide +kernel) ⟨by rw [hRf]; exact Nat.le_of_ble_eq_true rfl, by rw [hRl]; exact Nat.le_of_ble_eq_true rfl⟩) hK hP hD hS hA [0] [] rfl (by decide) rfl (by decide) (by decide) [] rfl (ci := 4) (q0 := 0) rfl rfl rfl hl.1 rfl (Nat.le_of_ble_eq_true rfl) dX4_addKind_71 ⟨by omega, by omega⟩ (fun r_204 u_205 H locs hwu_205 hnu_205 hzu_205 hK hP hD hS => ?_)
        have hK : va_K D vwCl [] s := hK
        have hP : va_P D vwCl ([(mo, .inr (4, [.int 1, .int 0, .ref kT, .int 20, .int 60, .int 2000, .int 0, .int 0, .ref tb, .ref ld, .int 0, .ref lK, .ref lC, .int 0]))]) H := hP
        have hD : va_D A ([(mo, .inr (4, [.int 1, .int 0, .ref kT, .int 20, .int 60, .int 2000, .int 0, .int 0, .ref tb, .ref ld, .int 0, .ref lK, .ref lC, .int 0]))]) := hD
        refine lv_topi (fun v_206 ev_206 => ?_)
        obtain rfl : v_206 = 0 := ev_206.trans hwu_205
        have hP := hP.sub (ws' := [(mo, .inr (4, [.int 1, .int 0, .ref kT, .int 20, .int 60, .int 2000, .int 0, .int 0, .ref tb, .ref ld, .int 0, .ref lK, .ref lC, .int 0]))]) [0] rfl
        have hD := hD.sub (ws' := [(mo, .inr (4, [.int 1, .int 0, .ref kT, .int 20, .int 60, .int 2000, .int 0, .int 0, .ref tb, .ref ld, .int 0, .ref lK, .ref lC, .int 0]))]) [0] (by decide) rfl
        exact W.iret (v := 0) hx hb hr (fun t ht hW => ⟨⟨0, (), rfl, rfl, ⟨Nat.zero_le _, by rw [ht]; exact hP, va_K.moved hW.alike (hK.sub (tys' := []) [] rfl), hD⟩⟩, hS.F ht⟩) hS.2.2 dX4_addKind_74
      · have h_b := True.intro
        have k_207 : 1 ≤ c1 ∧ c1 ≤ 8 := Decidable.byContradiction fun h9 => absurd (hr_201.trans (if_neg h9)) c_202
        refine lv_iload hx hb dX4_addKind_35 (lv_at hl 4 rfl) ?_
        refine lv_iconst (v := 1) hx hb dX4_addKind_37 (by decide) ?_
        refine lv_sipush (v := 500) hx hb dX4_addKind_38 (by decide) ?_
        refine zrdS (As := [.int d, .int 1, .int 500]) (rest := []) (wc := []) ⟨hx, hb, hml, hown, hts⟩ (c_isIn l D _ d 1 500) (va_cwS 3 hts gX4_addKind_X4_isIn rfl rfl rfl (by decide +kernel) ⟨by rw [hRf]; exact Nat.le_of_ble_eq_true rfl, by rw [hRl]; exact Nat.le_of_ble_eq_true rfl⟩) hK hP hD [] rfl (by decide) [] rfl rfl hl.1 rfl (Nat.le_of_ble_eq_true rfl) dX4_addKind_41 ⟨by omega, by omega⟩ (fun r_208 hr_208 => ?_)
        refine lv_if_eq (tgt := 69) hx hb dX4_addKind_44 (by decide) (fun c_209 => ?_) (fun c_209 => ?_)
        · have h_b := True.intro
          have k_210 : ¬ (1 ≤ d ∧ d ≤ 500) := fun h9 => absurd ((hr_208.trans (if_pos h9)).symm.trans c_209) (by decide)
          refine lv_aload_n hx hb dX4_addKind_69 rfl (lv_at hl 0 rfl) ?_
          refine lv_iconst (v := 1) hx hb dX4_addKind_70 (by decide) ?_
          refine zcalliV (As := [.int 1]) (rest := []) (wc := [(mo, .inr (4, [.int 0, .int 0, .ref kT, .int 20, .int 60, .int 2000, .int 0, .int 0, .ref tb, .ref ld, .int 0, .ref lK, .ref lC, .int 0]))]) (wr := []) ⟨hx, hb, hml, hown, hts⟩ (c_fail l D _ mo kT tb ld lK lC 0 1) (cwV 1 hts gX4_addKind_X4_fail rfl rfl rfl (by decide +kernel) ⟨by rw [hRf]; exact Nat.le_of_ble_eq_true rfl, by rw [hRl]; exact Nat.le_of_ble_eq_true rfl⟩) hK hP hD hS hA [0] [] rfl (by decide) rfl (by decide) (by decide) [] rfl (ci := 4) (q0 := 0) rfl rfl rfl hl.1 rfl (Nat.le_of_ble_eq_true rfl) dX4_addKind_71 ⟨by omega, by omega⟩ (fun r_211 u_212 H locs hwu_212 hnu_212 hzu_212 hK hP hD hS => ?_)
          have hK : va_K D vwCl [] s := hK
          have hP : va_P D vwCl ([(mo, .inr (4, [.int 1, .int 0, .ref kT, .int 20, .int 60, .int 2000, .int 0, .int 0, .ref tb, .ref ld, .int 0, .ref lK, .ref lC, .int 0]))]) H := hP
          have hD : va_D A ([(mo, .inr (4, [.int 1, .int 0, .ref kT, .int 20, .int 60, .int 2000, .int 0, .int 0, .ref tb, .ref ld, .int 0, .ref lK, .ref lC, .int 0]))]) := hD
          refine lv_topi (fun v_213 ev_213 => ?_)
          obtain rfl : v_213 = 0 := ev_213.trans hwu_212
          have hP := hP.sub (ws' := [(mo, .inr (4, [.int 1, .int 0, .ref kT, .int 20, .int 60, .int 2000, .int 0, .int 0, .ref tb, .ref ld, .int 0, .ref lK, .ref lC, .int 0]))]) [0] rfl
          have hD := hD.sub (ws' := [(mo, .inr (4, [.int 1, .int 0, .ref kT, .int 20, .int 60, .int 2000, .int 0, .int 0, .ref tb, .ref ld, .int 0, .ref lK, .ref lC, .int 0]))]) [0] (by decide) rfl
          exact W.iret (v := 0) hx hb hr (fun t ht hW => ⟨⟨0, (), rfl, rfl, ⟨Nat.zero_le _, by rw [ht]; exact hP, va_K.moved hW.alike (hK.sub (tys' := []) [] rfl), hD⟩⟩, hS.F ht⟩) hS.2.2 dX4_addKind_74
        · have h_b := True.intro
          have k_214 : 1 ≤ d ∧ d ≤ 500 := Decidable.byContradiction fun h9 => absurd (hr_208.trans (if_neg h9)) c_209
          refine lv_iload hx hb dX4_addKind_47 (lv_at hl 5 rfl) ?_
          refine lv_iconst (v := 0) hx hb dX4_addKind_49 (by decide) ?_
          refine lv_sipush (v := 5000) hx hb dX4_addKind_50 (by decide) ?_
          refine zrdS (As := [.int e0, .int 0, .int 5000]) (rest := []) (wc := []) ⟨hx, hb, hml, hown, hts⟩ (c_isIn l D _ e0 0 5000) (va_cwS 3 hts gX4_addKind_X4_isIn rfl rfl rfl (by decide +kernel) ⟨by rw [hRf]; exact Nat.le_of_ble_eq_true rfl, by rw [hRl]; exact Nat.le_of_ble_eq_true rfl⟩) hK hP hD [] rfl (by decide) [] rfl rfl hl.1 rfl (Nat.le_of_ble_eq_true rfl) dX4_addKind_53 ⟨by omega, by omega⟩ (fun r_215 hr_215 => ?_)
          refine lv_if_eq (tgt := 69) hx hb dX4_addKind_56 (by decide) (fun c_216 => ?_) (fun c_216 => ?_)
          · have h_b := True.intro
            have k_217 : ¬ (0 ≤ e0 ∧ e0 ≤ 5000) := fun h9 => absurd ((hr_215.trans (if_pos h9)).symm.trans c_216) (by decide)
            refine lv_aload_n hx hb dX4_addKind_69 rfl (lv_at hl 0 rfl) ?_
            refine lv_iconst (v := 1) hx hb dX4_addKind_70 (by decide) ?_
            refine zcalliV (As := [.int 1]) (rest := []) (wc := [(mo, .inr (4, [.int 0, .int 0, .ref kT, .int 20, .int 60, .int 2000, .int 0, .int 0, .ref tb, .ref ld, .int 0, .ref lK, .ref lC, .int 0]))]) (wr := []) ⟨hx, hb, hml, hown, hts⟩ (c_fail l D _ mo kT tb ld lK lC 0 1) (cwV 1 hts gX4_addKind_X4_fail rfl rfl rfl (by decide +kernel) ⟨by rw [hRf]; exact Nat.le_of_ble_eq_true rfl, by rw [hRl]; exact Nat.le_of_ble_eq_true rfl⟩) hK hP hD hS hA [0] [] rfl (by decide) rfl (by decide) (by decide) [] rfl (ci := 4) (q0 := 0) rfl rfl rfl hl.1 rfl (Nat.le_of_ble_eq_true rfl) dX4_addKind_71 ⟨by omega, by omega⟩ (fun r_218 u_219 H locs hwu_219 hnu_219 hzu_219 hK hP hD hS => ?_)
            have hK : va_K D vwCl [] s := hK
            have hP : va_P D vwCl ([(mo, .inr (4, [.int 1, .int 0, .ref kT, .int 20, .int 60, .int 2000, .int 0, .int 0, .ref tb, .ref ld, .int 0, .ref lK, .ref lC, .int 0]))]) H := hP
            have hD : va_D A ([(mo, .inr (4, [.int 1, .int 0, .ref kT, .int 20, .int 60, .int 2000, .int 0, .int 0, .ref tb, .ref ld, .int 0, .ref lK, .ref lC, .int 0]))]) := hD
            refine lv_topi (fun v_220 ev_220 => ?_)
            obtain rfl : v_220 = 0 := ev_220.trans hwu_219
            have hP := hP.sub (ws' := [(mo, .inr (4, [.int 1, .int 0, .ref kT, .int 20, .int 60, .int 2000, .int 0, .int 0, .ref tb, .ref ld, .int 0, .ref lK, .ref lC, .int 0]))]) [0] rfl
            have hD := hD.sub (ws' := [(mo, .inr (4, [.int 1, .int 0, .ref kT, .int 20, .int 60, .int 2000, .int 0, .int 0, .ref tb, .ref ld, .int 0, .ref lK, .ref lC, .int 0]))]) [0] (by decide) rfl
            exact W.iret (v := 0) hx hb hr (fun t ht hW => ⟨⟨0, (), rfl, rfl, ⟨Nat.zero_le _, by rw [ht]; exact hP, va_K.moved hW.alike (hK.sub (tys' := []) [] rfl), hD⟩⟩, hS.F ht⟩) hS.2.2 dX4_addKind_74
          · have h_b := True.intro
            have k_221 : 0 ≤ e0 ∧ e0 ≤ 5000 := Decidable.byContradiction fun h9 => absurd (hr_215.trans (if_neg h9)) c_216
            refine lv_iload hx hb dX4_addKind_59 (lv_at hl 6 rfl) ?_
            refine lv_iconst (v := 0) hx hb dX4_addKind_61 (by decide) ?_
            refine lv_iconst (v := 3) hx hb dX4_addKind_62 (by decide) ?_
            refine zrdS (As := [.int f, .int 0, .int 3]) (rest := []) (wc := []) ⟨hx, hb, hml, hown, hts⟩ (c_isIn l D _ f 0 3) (va_cwS 3 hts gX4_addKind_X4_isIn rfl rfl rfl (by decide +kernel) ⟨by rw [hRf]; exact Nat.le_of_ble_eq_true rfl, by rw [hRl]; exact Nat.le_of_ble_eq_true rfl⟩) hK hP hD [] rfl (by decide) [] rfl rfl hl.1 rfl (Nat.le_of_ble_eq_true rfl) dX4_addKind_63 ⟨by omega, by omega⟩ (fun r_222 hr_222 => ?_)
            refine lv_topi (fun v_223 ev_223 => ?_)
            obtain rfl : v_223 = 0 := ev_223.trans (hr_222.trans (if_neg (fun h9 => h ⟨k_193, k_200, k_207, k_214, k_221, h9⟩)))
            refine lv_if_ne (tgt := 75) hx hb dX4_addKind_66 (by decide) (fun c_224 => absurd (rfl) c_224) (fun c_224 => ?_)
            refine lv_aload_n hx hb dX4_addKind_69 rfl (lv_at hl 0 rfl) ?_
            refine lv_iconst (v := 1) hx hb dX4_addKind_70 (by decide) ?_
            refine zcalliV (As := [.int 1]) (rest := []) (wc := [(mo, .inr (4, [.int 0, .int 0, .ref kT, .int 20, .int 60, .int 2000, .int 0, .int 0, .ref tb, .ref ld, .int 0, .ref lK, .ref lC, .int 0]))]) (wr := []) ⟨hx, hb, hml, hown, hts⟩ (c_fail l D _ mo kT tb ld lK lC 0 1) (cwV 1 hts gX4_addKind_X4_fail rfl rfl rfl (by decide +kernel) ⟨by rw [hRf]; exact Nat.le_of_ble_eq_true rfl, by rw [hRl]; exact Nat.le_of_ble_eq_true rfl⟩) hK hP hD hS hA [0] [] rfl (by decide) rfl (by decide) (by decide) [] rfl (ci := 4) (q0 := 0) rfl rfl rfl hl.1 rfl (Nat.le_of_ble_eq_true rfl) dX4_addKind_71 ⟨by omega, by omega⟩ (fun r_225 u_226 H locs hwu_226 hnu_226 hzu_226 hK hP hD hS => ?_)
            have hK : va_K D vwCl [] s := hK
            have hP : va_P D vwCl ([(mo, .inr (4, [.int 1, .int 0, .ref kT, .int 20, .int 60, .int 2000, .int 0, .int 0, .ref tb, .ref ld, .int 0, .ref lK, .ref lC, .int 0]))]) H := hP
            have hD : va_D A ([(mo, .inr (4, [.int 1, .int 0, .ref kT, .int 20, .int 60, .int 2000, .int 0, .int 0, .ref tb, .ref ld, .int 0, .ref lK, .ref lC, .int 0]))]) := hD
            refine lv_topi (fun v_227 ev_227 => ?_)
            obtain rfl : v_227 = 0 := ev_227.trans hwu_226
            have hP := hP.sub (ws' := [(mo, .inr (4, [.int 1, .int 0, .ref kT, .int 20, .int 60, .int 2000, .int 0, .int 0, .ref tb, .ref ld, .int 0, .ref lK, .ref lC, .int 0]))]) [0] rfl
            have hD := hD.sub (ws' := [(mo, .inr (4, [.int 1, .int 0, .ref kT, .int 20, .int 60, .int 2000, .int 0, .int 0, .ref tb, .ref ld, .int 0, .ref lK, .ref lC, .int 0]))]) [0] (by decide) rfl
            exact W.iret (v := 0) hx hb hr (fun t ht hW => ⟨⟨0, (), rfl, rfl, ⟨Nat.zero_le _, by rw [ht]; exact hP, va_K.moved hW.alike (hK.sub (tys' := []) [] rfl), hD⟩⟩, hS.F ht⟩) hS.2.2 dX4_addKind_74
set_option maxHeartbeats 4000000 in
set_option maxRecDepth 100000 in
theorem c_MsetRules_ok_0 (l : Launch) (D : zG) (sz : Nat) (mo kT tb ld lK lC : Nat) (a b c1 : Int32) (h : (1 ≤ a ∧ a ≤ 40) ∧ (0 ≤ b ∧ b ≤ 100) ∧ (1 ≤ c1 ∧ c1 ≤ 20000)) : Met l yX4_setRules wsX4_setRules ({ frames := 1, cells := 0, slots := 0, locals := 30 }) (zPc D [] ([(mo, .inr (4, [.int 0, .int 0, .ref kT, .int 20, .int 60, .int 2000, .int 0, .int 0, .ref tb, .ref ld, .int 0, .ref lK, .ref lC, .int 0]))]) sz [.ref mo, .int a, .int b, .int c1, .int 0]) (va_Qi (fun (r : Int32) (u : Unit) => r = 20) (zB D (va_A ([(mo, .inr (4, [.int 0, .int 0, .ref kT, .int 20, .int 60, .int 2000, .int 0, .int 0, .ref tb, .ref ld, .int 0, .ref lK, .ref lC, .int 0]))]) sz) (fun _ => []) 0 (fun _ => [(mo, .inr (4, [.int 0, .int 0, .ref kT, .int a, .int b, .int c1, .int 0, .int 0, .ref tb, .ref ld, .int 0, .ref lK, .ref lC, .int 0]))])) (va_A ([(mo, .inr (4, [.int 0, .int 0, .ref kT, .int 20, .int 60, .int 2000, .int 0, .int 0, .ref tb, .ref ld, .int 0, .ref lK, .ref lC, .int 0]))]) sz)) 0 0 (va_A ([(mo, .inr (4, [.int 0, .int 0, .ref kT, .int 20, .int 60, .int 2000, .int 0, .int 0, .ref tb, .ref ld, .int 0, .ref lK, .ref lC, .int 0]))]) sz) := by
  refine Met.ofW (cc := cX4_setRules) (maxL := 6) (ret := (some .int)) (by decide) rfl ?_
  intro p e s m args below meth c s₁ B hml hv
  obtain ⟨rfl, hsz, hP, hK, hD0⟩ := hv
  have hx := B.exec
  have hb := B.bytes
  have hr := B.returns
  have hts := atoms_spec (ws := wsX4_setRules) B.pre
  have hown : s.vm.findClass RX4 = some m.cls := findClass_of_methodNamed B.named
  have hlocks := B.notSynchronized
  subst hsz
  have hD := hD0.self (sz := s.heap.size)
  generalize hAe : va_A ([(mo, .inr (4, [.int 0, .int 0, .ref kT, .int 20, .int 60, .int 2000, .int 0, .int 0, .ref tb, .ref ld, .int 0, .ref lK, .ref lC, .int 0]))]) s.heap.size = A at hD ⊢
  have hA : ∀ q : Nat, s.heap.size ≤ q → A q := fun q h => by rw [← hAe]; exact Or.inr h
  have hS : va_S A s.heap s.heap [] := va_S.rf
  have hl := lv_entry ([.ref mo, .int a, .int b, .int c1, .int 0]) (n := 6) (Nat.le_of_ble_eq_true rfl)
  rw [lg_entry_eq]
  generalize (lg_sl ([.ref mo, .int a, .int b, .int c1, .int 0]) ++ List.replicate (6 - (lg_sl ([.ref mo, .int a, .int b, .int c1, .int 0])).length) Slot.unset).toArray = ls at hl ⊢
  have hl : lv_has ls 6 [(0, .ref mo), (1, .int a), (2, .int b), (3, .int c1), (4, .int 0)] := hl
  have hP : va_P D vwCl ([(mo, .inr (4, [.int 0, .int 0, .ref kT, .int 20, .int 60, .int 2000, .int 0, .int 0, .ref tb, .ref ld, .int 0, .ref lK, .ref lC, .int 0]))]) s.heap := hP
  generalize hRe : (headSpec _ _).room = R
  have hRf : R.frames = 1 := by rw [← hRe]; rfl
  have hRc : R.cells = 0 := by rw [← hRe]; rfl
  have hRs : R.slots = 0 := by rw [← hRe]; rfl
  have hRl : R.locals = 30 := by rw [← hRe]; rfl
  clear hRe
  refine lv_aload_n hx hb dX4_setRules_0 rfl (lv_at hl 0 rfl) ?_
  refine lv_iconst (v := 0) hx hb dX4_setRules_1 (by decide) ?_
  refine va_put (D := D) (ci := 4) (v := .int 0) (ty := .int) (C := RX4) (T := TX4) (N := 14) hx hb hts (fun _ h9 => List.mem_cons_of_mem _ (List.mem_append_right _ h9)) tyX4 tyX4_ok nmX4 hown hK hP hD hS 0 rfl rfl 0 (by decide) (hts (.fieldLink RX4 35 "PalletStackModel" "thrown" "I") (List.mem_of_getElem? (i := 1) (by rfl))) (fun _ h9 => h9) rfl (by decide +kernel) rfl rfl (Nat.le_of_ble_eq_true rfl) dX4_setRules_2 (fun H locs hP hD hS => ?_)
  have hP : va_P D vwCl ([(mo, .inr (4, [.int 0, .int 0, .ref kT, .int 20, .int 60, .int 2000, .int 0, .int 0, .ref tb, .ref ld, .int 0, .ref lK, .ref lC, .int 0]))]) H := hP
  have hD : va_D A ([(mo, .inr (4, [.int 0, .int 0, .ref kT, .int 20, .int 60, .int 2000, .int 0, .int 0, .ref tb, .ref ld, .int 0, .ref lK, .ref lC, .int 0]))]) := hD
  refine lv_iload_n hx hb dX4_setRules_5 rfl (lv_at hl 1 rfl) ?_
  refine lv_iconst (v := 1) hx hb dX4_setRules_6 (by decide) ?_
  refine lv_bipush (v := 40) hx hb dX4_setRules_7 (by decide) ?_
  refine zrdS (As := [.int a, .int 1, .int 40]) (rest := []) (wc := []) ⟨hx, hb, hml, hown, hts⟩ (c_isIn l D _ a 1 40) (va_cwS 3 hts gX4_setRules_X4_isIn rfl rfl rfl (by decide +kernel) ⟨by rw [hRf]; exact Nat.le_of_ble_eq_true rfl, by rw [hRl]; exact Nat.le_of_ble_eq_true rfl⟩) hK hP hD [] rfl (by decide) [] rfl rfl hl.1 rfl (Nat.le_of_ble_eq_true rfl) dX4_setRules_9 ⟨by omega, by omega⟩ (fun r_228 hr_228 => ?_)
  refine lv_topi (fun v_229 ev_229 => ?_)
  obtain rfl : v_229 = 1 := ev_229.trans (hr_228.trans (if_pos h.1))
  refine lv_if_eq (tgt := 36) hx hb dX4_setRules_12 (by decide) (fun c_230 => absurd c_230 (by decide)) (fun c_230 => ?_)
  refine lv_iload_n hx hb dX4_setRules_15 rfl (lv_at hl 2 rfl) ?_
  refine lv_iconst (v := 0) hx hb dX4_setRules_16 (by decide) ?_
  refine lv_bipush (v := 100) hx hb dX4_setRules_17 (by decide) ?_
  refine zrdS (As := [.int b, .int 0, .int 100]) (rest := []) (wc := []) ⟨hx, hb, hml, hown, hts⟩ (c_isIn l D _ b 0 100) (va_cwS 3 hts gX4_setRules_X4_isIn rfl rfl rfl (by decide +kernel) ⟨by rw [hRf]; exact Nat.le_of_ble_eq_true rfl, by rw [hRl]; exact Nat.le_of_ble_eq_true rfl⟩) hK hP hD [] rfl (by decide) [] rfl rfl hl.1 rfl (Nat.le_of_ble_eq_true rfl) dX4_setRules_19 ⟨by omega, by omega⟩ (fun r_231 hr_231 => ?_)
  refine lv_topi (fun v_232 ev_232 => ?_)
  obtain rfl : v_232 = 1 := ev_232.trans (hr_231.trans (if_pos h.2.1))
  refine lv_if_eq (tgt := 36) hx hb dX4_setRules_22 (by decide) (fun c_233 => absurd c_233 (by decide)) (fun c_233 => ?_)
  refine lv_iload_n hx hb dX4_setRules_25 rfl (lv_at hl 3 rfl) ?_
  refine lv_iconst (v := 1) hx hb dX4_setRules_26 (by decide) ?_
  refine lv_sipush (v := 20000) hx hb dX4_setRules_27 (by decide) ?_
  refine zrdS (As := [.int c1, .int 1, .int 20000]) (rest := []) (wc := []) ⟨hx, hb, hml, hown, hts⟩ (c_isIn l D _ c1 1 20000) (va_cwS 3 hts gX4_setRules_X4_isIn rfl rfl rfl (by decide +kernel) ⟨by rw [hRf]; exact Nat.le_of_ble_eq_true rfl, by rw [hRl]; exact Nat.le_of_ble_eq_true rfl⟩) hK hP hD [] rfl (by decide) [] rfl rfl hl.1 rfl (Nat.le_of_ble_eq_true rfl) dX4_setRules_30 ⟨by omega, by omega⟩ (fun r_234 hr_234 => ?_)
  refine lv_topi (fun v_235 ev_235 => ?_)
  obtain rfl : v_235 = 1 := ev_235.trans (hr_234.trans (if_pos h.2.2))
  refine lv_if_ne (tgt := 42) hx hb dX4_setRules_33 (by decide) (fun c_236 => ?_) (fun c_236 => absurd c_236 (by decide))
  refine lv_aload_n hx hb dX4_setRules_42 rfl (lv_at hl 0 rfl) ?_
  refine va_get (D := D) (ci := 4) (v := .int 20) (C := RX4) (T := TX4) (N := 14) hx hb hts (fun _ h9 => List.mem_cons_of_mem _ (List.mem_append_right _ h9)) hown hK hP 0 rfl rfl 3 (by decide) (hts (.fieldLink RX4 13 "PalletStackModel" "highest" "I") (List.mem_of_getElem? (i := 2) (by rfl))) (fun _ h9 => h9) rfl dX4_setRules_43 ?_
  refine lv_istore (lv' := [(5, .int 20), (0, .ref mo), (1, .int a), (2, .int b), (3, .int c1), (4, .int 0)]) hx hb dX4_setRules_46 hl (by decide) rfl (fun ls hl => ?_)
  refine lv_aload_n hx hb dX4_setRules_48 rfl (lv_at hl 1 rfl) ?_
  refine lv_iload_n hx hb dX4_setRules_49 rfl (lv_at hl 2 rfl) ?_
  refine va_put (D := D) (ci := 4) (v := .int a) (ty := .int) (C := RX4) (T := TX4) (N := 14) hx hb hts (fun _ h9 => List.mem_cons_of_mem _ (List.mem_append_right _ h9)) tyX4 tyX4_ok nmX4 hown hK hP hD hS 0 rfl rfl 3 (by decide) (hts (.fieldLink RX4 13 "PalletStackModel" "highest" "I") (List.mem_of_getElem? (i := 2) (by rfl))) (fun _ h9 => h9) rfl (by decide +kernel) rfl rfl (Nat.le_of_ble_eq_true rfl) dX4_setRules_50 (fun H locs hP hD hS => ?_)
  have hP : va_P D vwCl ([(mo, .inr (4, [.int 0, .int 0, .ref kT, .int a, .int 60, .int 2000, .int 0, .int 0, .ref tb, .ref ld, .int 0, .ref lK, .ref lC, .int 0]))]) H := hP
  have hD : va_D A ([(mo, .inr (4, [.int 0, .int 0, .ref kT, .int a, .int 60, .int 2000, .int 0, .int 0, .ref tb, .ref ld, .int 0, .ref lK, .ref lC, .int 0]))]) := hD
  refine lv_aload_n hx hb dX4_setRules_53 rfl (lv_at hl 1 rfl) ?_
  refine lv_iload_n hx hb dX4_setRules_54 rfl (lv_at hl 3 rfl) ?_
  refine va_put (D := D) (ci := 4) (v := .int b) (ty := .int) (C := RX4) (T := TX4) (N := 14) hx hb hts (fun _ h9 => List.mem_cons_of_mem _ (List.mem_append_right _ h9)) tyX4 tyX4_ok nmX4 hown hK hP hD hS 0 rfl rfl 4 (by decide) (hts (.fieldLink RX4 17 "PalletStackModel" "support" "I") (List.mem_of_getElem? (i := 3) (by rfl))) (fun _ h9 => h9) rfl (by decide +kernel) rfl rfl (Nat.le_of_ble_eq_true rfl) dX4_setRules_55 (fun H locs hP hD hS => ?_)
  have hP : va_P D vwCl ([(mo, .inr (4, [.int 0, .int 0, .ref kT, .int a, .int b, .int 2000, .int 0, .int 0, .ref tb, .ref ld, .int 0, .ref lK, .ref lC, .int 0]))]) H := hP
  have hD : va_D A ([(mo, .inr (4, [.int 0, .int 0, .ref kT, .int a, .int b, .int 2000, .int 0, .int 0, .ref tb, .ref ld, .int 0, .ref lK, .ref lC, .int 0]))]) := hD
  refine lv_aload_n hx hb dX4_setRules_58 rfl (lv_at hl 1 rfl) ?_
  refine lv_iload_n hx hb dX4_setRules_59 rfl (lv_at hl 4 rfl) ?_
  refine va_put (D := D) (ci := 4) (v := .int c1) (ty := .int) (C := RX4) (T := TX4) (N := 14) hx hb hts (fun _ h9 => List.mem_cons_of_mem _ (List.mem_append_right _ h9)) tyX4 tyX4_ok nmX4 hown hK hP hD hS 0 rfl rfl 5 (by decide) (hts (.fieldLink RX4 20 "PalletStackModel" "limit" "I") (List.mem_of_getElem? (i := 4) (by rfl))) (fun _ h9 => h9) rfl (by decide +kernel) rfl rfl (Nat.le_of_ble_eq_true rfl) dX4_setRules_60 (fun H locs hP hD hS => ?_)
  have hP : va_P D vwCl ([(mo, .inr (4, [.int 0, .int 0, .ref kT, .int a, .int b, .int c1, .int 0, .int 0, .ref tb, .ref ld, .int 0, .ref lK, .ref lC, .int 0]))]) H := hP
  have hD : va_D A ([(mo, .inr (4, [.int 0, .int 0, .ref kT, .int a, .int b, .int c1, .int 0, .int 0, .ref tb, .ref ld, .int 0, .ref lK, .ref lC, .int 0]))]) := hD
  refine lv_aload_n hx hb dX4_setRules_63 rfl (lv_at hl 1 rfl) ?_
  refine lv_iload hx hb dX4_setRules_64 (lv_at hl 5 rfl) ?_
  refine va_put (D := D) (ci := 4) (v := .int 0) (ty := .boolean) (C := RX4) (T := TX4) (N := 14) hx hb hts (fun _ h9 => List.mem_cons_of_mem _ (List.mem_append_right _ h9)) tyX4 tyX4_ok nmX4 hown hK hP hD hS 0 rfl rfl 6 (by decide) (hts (.fieldLink RX4 55 "PalletStackModel" "areCorners" "Z") (List.mem_of_getElem? (i := 5) (by rfl))) (fun _ h9 => h9) rfl (by decide +kernel) rfl rfl (Nat.le_of_ble_eq_true rfl) dX4_setRules_66 (fun H locs hP hD hS => ?_)
  have hP : va_P D vwCl ([(mo, .inr (4, [.int 0, .int 0, .ref kT, .int a, .int b, .int c1, .int 0, .int 0, .ref tb, .ref ld, .int 0, .ref lK, .ref lC, .int 0]))]) H := hP
  have hD : va_D A ([(mo, .inr (4, [.int 0, .int 0, .ref kT, .int a, .int b, .int c1, .int 0, .int 0, .ref tb, .ref ld, .int 0, .ref lK, .ref lC, .int 0]))]) := hD
  refine lv_iload hx hb dX4_setRules_69 (lv_at hl 0 rfl) ?_
  exact W.iret (v := 20) hx hb hr (fun t ht hW => ⟨⟨20, (), rfl, rfl, ⟨Nat.zero_le _, by rw [ht]; exact hP, va_K.moved hW.alike (hK.sub (tys' := []) [] rfl), hD⟩⟩, hS.F ht⟩) hS.2.2 dX4_setRules_71
set_option maxHeartbeats 4000000 in
set_option maxRecDepth 100000 in
theorem c_MsetRules_ok_1 (l : Launch) (D : zG) (sz : Nat) (mo kT tb ld lK lC : Nat) (a b c1 : Int32) (h : (1 ≤ a ∧ a ≤ 40) ∧ (0 ≤ b ∧ b ≤ 100) ∧ (1 ≤ c1 ∧ c1 ≤ 20000)) : Met l yX4_setRules wsX4_setRules ({ frames := 1, cells := 0, slots := 0, locals := 30 }) (zPc D [] ([(mo, .inr (4, [.int 0, .int 0, .ref kT, .int 20, .int 60, .int 2000, .int 0, .int 0, .ref tb, .ref ld, .int 0, .ref lK, .ref lC, .int 0]))]) sz [.ref mo, .int a, .int b, .int c1, .int 1]) (va_Qi (fun (r : Int32) (u : Unit) => r = 20) (zB D (va_A ([(mo, .inr (4, [.int 0, .int 0, .ref kT, .int 20, .int 60, .int 2000, .int 0, .int 0, .ref tb, .ref ld, .int 0, .ref lK, .ref lC, .int 0]))]) sz) (fun _ => []) 0 (fun _ => [(mo, .inr (4, [.int 0, .int 0, .ref kT, .int a, .int b, .int c1, .int 1, .int 0, .ref tb, .ref ld, .int 0, .ref lK, .ref lC, .int 0]))])) (va_A ([(mo, .inr (4, [.int 0, .int 0, .ref kT, .int 20, .int 60, .int 2000, .int 0, .int 0, .ref tb, .ref ld, .int 0, .ref lK, .ref lC, .int 0]))]) sz)) 0 0 (va_A ([(mo, .inr (4, [.int 0, .int 0, .ref kT, .int 20, .int 60, .int 2000, .int 0, .int 0, .ref tb, .ref ld, .int 0, .ref lK, .ref lC, .int 0]))]) sz) := by
  refine Met.ofW (cc := cX4_setRules) (maxL := 6) (ret := (some .int)) (by decide) rfl ?_
  intro p e s m args below meth c s₁ B hml hv
  obtain ⟨rfl, hsz, hP, hK, hD0⟩ := hv
  have hx := B.exec
  have hb := B.bytes
  have hr := B.returns
  have hts := atoms_spec (ws := wsX4_setRules) B.pre
  have hown : s.vm.findClass RX4 = some m.cls := findClass_of_methodNamed B.named
  have hlocks := B.notSynchronized
  subst hsz
  have hD := hD0.self (sz := s.heap.size)
  generalize hAe : va_A ([(mo, .inr (4, [.int 0, .int 0, .ref kT, .int 20, .int 60, .int 2000, .int 0, .int 0, .ref tb, .ref ld, .int 0, .ref lK, .ref lC, .int 0]))]) s.heap.size = A at hD ⊢
  have hA : ∀ q : Nat, s.heap.size ≤ q → A q := fun q h => by rw [← hAe]; exact Or.inr h
  have hS : va_S A s.heap s.heap [] := va_S.rf
  have hl := lv_entry ([.ref mo, .int a, .int b, .int c1, .int 1]) (n := 6) (Nat.le_of_ble_eq_true rfl)
  rw [lg_entry_eq]
  generalize (lg_sl ([.ref mo, .int a, .int b, .int c1, .int 1]) ++ List.replicate (6 - (lg_sl ([.ref mo, .int a, .int b, .int c1, .int 1])).length) Slot.unset).toArray = ls at hl ⊢
  have hl : lv_has ls 6 [(0, .ref mo), (1, .int a), (2, .int b), (3, .int c1), (4, .int 1)] := hl
  have hP : va_P D vwCl ([(mo, .inr (4, [.int 0, .int 0, .ref kT, .int 20, .int 60, .int 2000, .int 0, .int 0, .ref tb, .ref ld, .int 0, .ref lK, .ref lC, .int 0]))]) s.heap := hP
  generalize hRe : (headSpec _ _).room = R
  have hRf : R.frames = 1 := by rw [← hRe]; rfl
  have hRc : R.cells = 0 := by rw [← hRe]; rfl
  have hRs : R.slots = 0 := by rw [← hRe]; rfl
  have hRl : R.locals = 30 := by rw [← hRe]; rfl
  clear hRe
  refine lv_aload_n hx hb dX4_setRules_0 rfl (lv_at hl 0 rfl) ?_
  refine lv_iconst (v := 0) hx hb dX4_setRules_1 (by decide) ?_
  refine va_put (D := D) (ci := 4) (v := .int 0) (ty := .int) (C := RX4) (T := TX4) (N := 14) hx hb hts (fun _ h9 => List.mem_cons_of_mem _ (List.mem_append_right _ h9)) tyX4 tyX4_ok nmX4 hown hK hP hD hS 0 rfl rfl 0 (by decide) (hts (.fieldLink RX4 35 "PalletStackModel" "thrown" "I") (List.mem_of_getElem? (i := 1) (by rfl))) (fun _ h9 => h9) rfl (by decide +kernel) rfl rfl (Nat.le_of_ble_eq_true rfl) dX4_setRules_2 (fun H locs hP hD hS => ?_)
  have hP : va_P D vwCl ([(mo, .inr (4, [.int 0, .int 0, .ref kT, .int 20, .int 60, .int 2000, .int 0, .int 0, .ref tb, .ref ld, .int 0, .ref lK, .ref lC, .int 0]))]) H := hP
  have hD : va_D A ([(mo, .inr (4, [.int 0, .int 0, .ref kT, .int 20, .int 60, .int 2000, .int 0, .int 0, .ref tb, .ref ld, .int 0, .ref lK, .ref lC, .int 0]))]) := hD
  refine lv_iload_n hx hb dX4_setRules_5 rfl (lv_at hl 1 rfl) ?_
  refine lv_iconst (v := 1) hx hb dX4_setRules_6 (by decide) ?_
  refine lv_bipush (v := 40) hx hb dX4_setRules_7 (by decide) ?_
  refine zrdS (As := [.int a, .int 1, .int 40]) (rest := []) (wc := []) ⟨hx, hb, hml, hown, hts⟩ (c_isIn l D _ a 1 40) (va_cwS 3 hts gX4_setRules_X4_isIn rfl rfl rfl (by decide +kernel) ⟨by rw [hRf]; exact Nat.le_of_ble_eq_true rfl, by rw [hRl]; exact Nat.le_of_ble_eq_true rfl⟩) hK hP hD [] rfl (by decide) [] rfl rfl hl.1 rfl (Nat.le_of_ble_eq_true rfl) dX4_setRules_9 ⟨by omega, by omega⟩ (fun r_237 hr_237 => ?_)
  refine lv_topi (fun v_238 ev_238 => ?_)
  obtain rfl : v_238 = 1 := ev_238.trans (hr_237.trans (if_pos h.1))
  refine lv_if_eq (tgt := 36) hx hb dX4_setRules_12 (by decide) (fun c_239 => absurd c_239 (by decide)) (fun c_239 => ?_)
  refine lv_iload_n hx hb dX4_setRules_15 rfl (lv_at hl 2 rfl) ?_
  refine lv_iconst (v := 0) hx hb dX4_setRules_16 (by decide) ?_
  refine lv_bipush (v := 100) hx hb dX4_setRules_17 (by decide) ?_
  refine zrdS (As := [.int b, .int 0, .int 100]) (rest := []) (wc := []) ⟨hx, hb, hml, hown, hts⟩ (c_isIn l D _ b 0 100) (va_cwS 3 hts gX4_setRules_X4_isIn rfl rfl rfl (by decide +kernel) ⟨by rw [hRf]; exact Nat.le_of_ble_eq_true rfl, by rw [hRl]; exact Nat.le_of_ble_eq_true rfl⟩) hK hP hD [] rfl (by decide) [] rfl rfl hl.1 rfl (Nat.le_of_ble_eq_true rfl) dX4_setRules_19 ⟨by omega, by omega⟩ (fun r_240 hr_240 => ?_)
  refine lv_topi (fun v_241 ev_241 => ?_)
  obtain rfl : v_241 = 1 := ev_241.trans (hr_240.trans (if_pos h.2.1))
  refine lv_if_eq (tgt := 36) hx hb dX4_setRules_22 (by decide) (fun c_242 => absurd c_242 (by decide)) (fun c_242 => ?_)
  refine lv_iload_n hx hb dX4_setRules_25 rfl (lv_at hl 3 rfl) ?_
  refine lv_iconst (v := 1) hx hb dX4_setRules_26 (by decide) ?_
  refine lv_sipush (v := 20000) hx hb dX4_setRules_27 (by decide) ?_
  refine zrdS (As := [.int c1, .int 1, .int 20000]) (rest := []) (wc := []) ⟨hx, hb, hml, hown, hts⟩ (c_isIn l D _ c1 1 20000) (va_cwS 3 hts gX4_setRules_X4_isIn rfl rfl rfl (by decide +kernel) ⟨by rw [hRf]; exact Nat.le_of_ble_eq_true rfl, by rw [hRl]; exact Nat.le_of_ble_eq_true rfl⟩) hK hP hD [] rfl (by decide) [] rfl rfl hl.1 rfl (Nat.le_of_ble_eq_true rfl) dX4_setRules_30 ⟨by omega, by omega⟩ (fun r_243 hr_243 => ?_)
  refine lv_topi (fun v_244 ev_244 => ?_)
  obtain rfl : v_244 = 1 := ev_244.trans (hr_243.trans (if_pos h.2.2))
  refine lv_if_ne (tgt := 42) hx hb dX4_setRules_33 (by decide) (fun c_245 => ?_) (fun c_245 => absurd c_245 (by decide))
  refine lv_aload_n hx hb dX4_setRules_42 rfl (lv_at hl 0 rfl) ?_
  refine va_get (D := D) (ci := 4) (v := .int 20) (C := RX4) (T := TX4) (N := 14) hx hb hts (fun _ h9 => List.mem_cons_of_mem _ (List.mem_append_right _ h9)) hown hK hP 0 rfl rfl 3 (by decide) (hts (.fieldLink RX4 13 "PalletStackModel" "highest" "I") (List.mem_of_getElem? (i := 2) (by rfl))) (fun _ h9 => h9) rfl dX4_setRules_43 ?_
  refine lv_istore (lv' := [(5, .int 20), (0, .ref mo), (1, .int a), (2, .int b), (3, .int c1), (4, .int 1)]) hx hb dX4_setRules_46 hl (by decide) rfl (fun ls hl => ?_)
  refine lv_aload_n hx hb dX4_setRules_48 rfl (lv_at hl 1 rfl) ?_
  refine lv_iload_n hx hb dX4_setRules_49 rfl (lv_at hl 2 rfl) ?_
  refine va_put (D := D) (ci := 4) (v := .int a) (ty := .int) (C := RX4) (T := TX4) (N := 14) hx hb hts (fun _ h9 => List.mem_cons_of_mem _ (List.mem_append_right _ h9)) tyX4 tyX4_ok nmX4 hown hK hP hD hS 0 rfl rfl 3 (by decide) (hts (.fieldLink RX4 13 "PalletStackModel" "highest" "I") (List.mem_of_getElem? (i := 2) (by rfl))) (fun _ h9 => h9) rfl (by decide +kernel) rfl rfl (Nat.le_of_ble_eq_true rfl) dX4_setRules_50 (fun H locs hP hD hS => ?_)
  have hP : va_P D vwCl ([(mo, .inr (4, [.int 0, .int 0, .ref kT, .int a, .int 60, .int 2000, .int 0, .int 0, .ref tb, .ref ld, .int 0, .ref lK, .ref lC, .int 0]))]) H := hP
  have hD : va_D A ([(mo, .inr (4, [.int 0, .int 0, .ref kT, .int a, .int 60, .int 2000, .int 0, .int 0, .ref tb, .ref ld, .int 0, .ref lK, .ref lC, .int 0]))]) := hD
  refine lv_aload_n hx hb dX4_setRules_53 rfl (lv_at hl 1 rfl) ?_
  refine lv_iload_n hx hb dX4_setRules_54 rfl (lv_at hl 3 rfl) ?_
  refine va_put (D := D) (ci := 4) (v := .int b) (ty := .int) (C := RX4) (T := TX4) (N := 14) hx hb hts (fun _ h9 => List.mem_cons_of_mem _ (List.mem_append_right _ h9)) tyX4 tyX4_ok nmX4 hown hK hP hD hS 0 rfl rfl 4 (by decide) (hts (.fieldLink RX4 17 "PalletStackModel" "support" "I") (List.mem_of_getElem? (i := 3) (by rfl))) (fun _ h9 => h9) rfl (by decide +kernel) rfl rfl (Nat.le_of_ble_eq_true rfl) dX4_setRules_55 (fun H locs hP hD hS => ?_)
  have hP : va_P D vwCl ([(mo, .inr (4, [.int 0, .int 0, .ref kT, .int a, .int b, .int 2000, .int 0, .int 0, .ref tb, .ref ld, .int 0, .ref lK, .ref lC, .int 0]))]) H := hP
  have hD : va_D A ([(mo, .inr (4, [.int 0, .int 0, .ref kT, .int a, .int b, .int 2000, .int 0, .int 0, .ref tb, .ref ld, .int 0, .ref lK, .ref lC, .int 0]))]) := hD
  refine lv_aload_n hx hb dX4_setRules_58 rfl (lv_at hl 1 rfl) ?_
  refine lv_iload_n hx hb dX4_setRules_59 rfl (lv_at hl 4 rfl) ?_
  refine va_put (D := D) (ci := 4) (v := .int c1) (ty := .int) (C := RX4) (T := TX4) (N := 14) hx hb hts (fun _ h9 => List.mem_cons_of_mem _ (List.mem_append_right _ h9)) tyX4 tyX4_ok nmX4 hown hK hP hD hS 0 rfl rfl 5 (by decide) (hts (.fieldLink RX4 20 "PalletStackModel" "limit" "I") (List.mem_of_getElem? (i := 4) (by rfl))) (fun _ h9 => h9) rfl (by decide +kernel) rfl rfl (Nat.le_of_ble_eq_true rfl) dX4_setRules_60 (fun H locs hP hD hS => ?_)
  have hP : va_P D vwCl ([(mo, .inr (4, [.int 0, .int 0, .ref kT, .int a, .int b, .int c1, .int 0, .int 0, .ref tb, .ref ld, .int 0, .ref lK, .ref lC, .int 0]))]) H := hP
  have hD : va_D A ([(mo, .inr (4, [.int 0, .int 0, .ref kT, .int a, .int b, .int c1, .int 0, .int 0, .ref tb, .ref ld, .int 0, .ref lK, .ref lC, .int 0]))]) := hD
  refine lv_aload_n hx hb dX4_setRules_63 rfl (lv_at hl 1 rfl) ?_
  refine lv_iload hx hb dX4_setRules_64 (lv_at hl 5 rfl) ?_
  refine va_put (D := D) (ci := 4) (v := .int 1) (ty := .boolean) (C := RX4) (T := TX4) (N := 14) hx hb hts (fun _ h9 => List.mem_cons_of_mem _ (List.mem_append_right _ h9)) tyX4 tyX4_ok nmX4 hown hK hP hD hS 0 rfl rfl 6 (by decide) (hts (.fieldLink RX4 55 "PalletStackModel" "areCorners" "Z") (List.mem_of_getElem? (i := 5) (by rfl))) (fun _ h9 => h9) rfl (by decide +kernel) rfl rfl (Nat.le_of_ble_eq_true rfl) dX4_setRules_66 (fun H locs hP hD hS => ?_)
  have hP : va_P D vwCl ([(mo, .inr (4, [.int 0, .int 0, .ref kT, .int a, .int b, .int c1, .int 1, .int 0, .ref tb, .ref ld, .int 0, .ref lK, .ref lC, .int 0]))]) H := hP
  have hD : va_D A ([(mo, .inr (4, [.int 0, .int 0, .ref kT, .int a, .int b, .int c1, .int 1, .int 0, .ref tb, .ref ld, .int 0, .ref lK, .ref lC, .int 0]))]) := hD
  refine lv_iload hx hb dX4_setRules_69 (lv_at hl 0 rfl) ?_
  exact W.iret (v := 20) hx hb hr (fun t ht hW => ⟨⟨20, (), rfl, rfl, ⟨Nat.zero_le _, by rw [ht]; exact hP, va_K.moved hW.alike (hK.sub (tys' := []) [] rfl), hD⟩⟩, hS.F ht⟩) hS.2.2 dX4_setRules_71
set_option maxHeartbeats 4000000 in
set_option maxRecDepth 100000 in
theorem c_MaddKind_ok (l : Launch) (D : zG) (sz : Nat) (mo kT tb ld lK lC : Nat) (e1 : ClassId) (a b c1 d e0 f : Int32) (h : (1 ≤ a ∧ a ≤ 6) ∧ (1 ≤ b ∧ b ≤ 6) ∧ (1 ≤ c1 ∧ c1 ≤ 8) ∧ (1 ≤ d ∧ d ≤ 500) ∧ (0 ≤ e0 ∧ e0 ≤ 5000) ∧ (0 ≤ f ∧ f ≤ 3)) : Met l yX4_addKind wsX4_addKind ({ frames := 1, cells := 1, slots := 6, locals := 60 }) (zPc D [(e1, .int)] ([(mo, .inr (4, [.int 0, .int 0, .ref kT, .int 20, .int 60, .int 2000, .int 0, .int 0, .ref tb, .ref ld, .int 0, .ref lK, .ref lC, .int 0])), (kT, .inl (e1, 60, .inl (fun _ => 0)))]) sz [.ref mo, .int a, .int b, .int c1, .int d, .int e0, .int f]) (va_Qi (fun (r : Int32) (u : Unit) => r = 0) (zB D (va_A ([(mo, .inr (4, [.int 0, .int 0, .ref kT, .int 20, .int 60, .int 2000, .int 0, .int 0, .ref tb, .ref ld, .int 0, .ref lK, .ref lC, .int 0])), (kT, .inl (e1, 60, .inl (fun _ => 0)))]) sz) (fun _ => []) 0 (fun _ => [(mo, .inr (4, [.int 0, .int 1, .ref kT, .int 20, .int 60, .int 2000, .int 0, .int 0, .ref tb, .ref ld, .int 0, .ref lK, .ref lC, .int 0]))])) (va_A ([(mo, .inr (4, [.int 0, .int 0, .ref kT, .int 20, .int 60, .int 2000, .int 0, .int 0, .ref tb, .ref ld, .int 0, .ref lK, .ref lC, .int 0])), (kT, .inl (e1, 60, .inl (fun _ => 0)))]) sz)) 1 6 (va_A ([(mo, .inr (4, [.int 0, .int 0, .ref kT, .int 20, .int 60, .int 2000, .int 0, .int 0, .ref tb, .ref ld, .int 0, .ref lK, .ref lC, .int 0])), (kT, .inl (e1, 60, .inl (fun _ => 0)))]) sz) := by
  refine Met.ofW (cc := cX4_addKind) (maxL := 8) (ret := (some .int)) (by decide) rfl ?_
  intro p e s m args below meth c s₁ B hml hv
  obtain ⟨rfl, hsz, hP, hK, hD0⟩ := hv
  have hx := B.exec
  have hb := B.bytes
  have hr := B.returns
  have hts := atoms_spec (ws := wsX4_addKind) B.pre
  have hown : s.vm.findClass RX4 = some m.cls := findClass_of_methodNamed B.named
  have hlocks := B.notSynchronized
  subst hsz
  have hD := hD0.self (sz := s.heap.size)
  generalize hAe : va_A ([(mo, .inr (4, [.int 0, .int 0, .ref kT, .int 20, .int 60, .int 2000, .int 0, .int 0, .ref tb, .ref ld, .int 0, .ref lK, .ref lC, .int 0])), (kT, .inl (e1, 60, .inl (fun _ => 0)))]) s.heap.size = A at hD ⊢
  have hA : ∀ q : Nat, s.heap.size ≤ q → A q := fun q h => by rw [← hAe]; exact Or.inr h
  have hS : va_S A s.heap s.heap [] := va_S.rf
  have hl := lv_entry ([.ref mo, .int a, .int b, .int c1, .int d, .int e0, .int f]) (n := 8) (Nat.le_of_ble_eq_true rfl)
  rw [lg_entry_eq]
  generalize (lg_sl ([.ref mo, .int a, .int b, .int c1, .int d, .int e0, .int f]) ++ List.replicate (8 - (lg_sl ([.ref mo, .int a, .int b, .int c1, .int d, .int e0, .int f])).length) Slot.unset).toArray = ls at hl ⊢
  have hl : lv_has ls 8 [(0, .ref mo), (1, .int a), (2, .int b), (3, .int c1), (4, .int d), (5, .int e0), (6, .int f)] := hl
  have hP : va_P D vwCl ([(mo, .inr (4, [.int 0, .int 0, .ref kT, .int 20, .int 60, .int 2000, .int 0, .int 0, .ref tb, .ref ld, .int 0, .ref lK, .ref lC, .int 0])), (kT, .inl (e1, 60, .inl (fun _ => 0)))]) s.heap := hP
  generalize hRe : (headSpec _ _).room = R
  have hRf : R.frames = 1 := by rw [← hRe]; rfl
  have hRc : R.cells = 1 := by rw [← hRe]; rfl
  have hRs : R.slots = 6 := by rw [← hRe]; rfl
  have hRl : R.locals = 60 := by rw [← hRe]; rfl
  clear hRe
  refine lv_aload_n hx hb dX4_addKind_0 rfl (lv_at hl 0 rfl) ?_
  refine lv_iconst (v := 0) hx hb dX4_addKind_1 (by decide) ?_
  refine va_put (D := D) (ci := 4) (v := .int 0) (ty := .int) (C := RX4) (T := TX4) (N := 14) hx hb hts (fun _ h9 => List.mem_cons_of_mem _ (List.mem_append_right _ h9)) tyX4 tyX4_ok nmX4 hown hK hP hD hS 0 rfl rfl 0 (by decide) (hts (.fieldLink RX4 35 "PalletStackModel" "thrown" "I") (List.mem_of_getElem? (i := 1) (by rfl))) (fun _ h9 => h9) rfl (by decide +kernel) rfl rfl (Nat.le_of_ble_eq_true rfl) dX4_addKind_2 (fun H locs hP hD hS => ?_)
  have hP : va_P D vwCl ([(mo, .inr (4, [.int 0, .int 0, .ref kT, .int 20, .int 60, .int 2000, .int 0, .int 0, .ref tb, .ref ld, .int 0, .ref lK, .ref lC, .int 0])), (kT, .inl (e1, 60, .inl (fun _ => 0)))]) H := hP
  have hD : va_D A ([(mo, .inr (4, [.int 0, .int 0, .ref kT, .int 20, .int 60, .int 2000, .int 0, .int 0, .ref tb, .ref ld, .int 0, .ref lK, .ref lC, .int 0])), (kT, .inl (e1, 60, .inl (fun _ => 0)))]) := hD
  refine lv_iload_n hx hb dX4_addKind_5 rfl (lv_at hl 1 rfl) ?_
  refine lv_iconst (v := 1) hx hb dX4_addKind_6 (by decide) ?_
  refine lv_bipush (v := 6) hx hb dX4_addKind_7 (by decide) ?_
  refine zrdS (As := [.int a, .int 1, .int 6]) (rest := []) (wc := []) ⟨hx, hb, hml, hown, hts⟩ (c_isIn l D _ a 1 6) (va_cwS 3 hts gX4_addKind_X4_isIn rfl rfl rfl (by decide +kernel) ⟨by rw [hRf]; exact Nat.le_of_ble_eq_true rfl, by rw [hRl]; exact Nat.le_of_ble_eq_true rfl⟩) hK hP hD [] rfl (by decide) [] rfl rfl hl.1 rfl (Nat.le_of_ble_eq_true rfl) dX4_addKind_9 ⟨by omega, by omega⟩ (fun r_246 hr_246 => ?_)
  refine lv_topi (fun v_247 ev_247 => ?_)
  obtain rfl : v_247 = 1 := ev_247.trans (hr_246.trans (if_pos h.1))
  refine lv_if_eq (tgt := 69) hx hb dX4_addKind_12 (by decide) (fun c_248 => absurd c_248 (by decide)) (fun c_248 => ?_)
  refine lv_iload_n hx hb dX4_addKind_15 rfl (lv_at hl 2 rfl) ?_
  refine lv_iconst (v := 1) hx hb dX4_addKind_16 (by decide) ?_
  refine lv_bipush (v := 6) hx hb dX4_addKind_17 (by decide) ?_
  refine zrdS (As := [.int b, .int 1, .int 6]) (rest := []) (wc := []) ⟨hx, hb, hml, hown, hts⟩ (c_isIn l D _ b 1 6) (va_cwS 3 hts gX4_addKind_X4_isIn rfl rfl rfl (by decide +kernel) ⟨by rw [hRf]; exact Nat.le_of_ble_eq_true rfl, by rw [hRl]; exact Nat.le_of_ble_eq_true rfl⟩) hK hP hD [] rfl (by decide) [] rfl rfl hl.1 rfl (Nat.le_of_ble_eq_true rfl) dX4_addKind_19 ⟨by omega, by omega⟩ (fun r_249 hr_249 => ?_)
  refine lv_topi (fun v_250 ev_250 => ?_)
  obtain rfl : v_250 = 1 := ev_250.trans (hr_249.trans (if_pos h.2.1))
  refine lv_if_eq (tgt := 69) hx hb dX4_addKind_22 (by decide) (fun c_251 => absurd c_251 (by decide)) (fun c_251 => ?_)
  refine lv_iload_n hx hb dX4_addKind_25 rfl (lv_at hl 3 rfl) ?_
  refine lv_iconst (v := 1) hx hb dX4_addKind_26 (by decide) ?_
  refine lv_bipush (v := 8) hx hb dX4_addKind_27 (by decide) ?_
  refine zrdS (As := [.int c1, .int 1, .int 8]) (rest := []) (wc := []) ⟨hx, hb, hml, hown, hts⟩ (c_isIn l D _ c1 1 8) (va_cwS 3 hts gX4_addKind_X4_isIn rfl rfl rfl (by decide +kernel) ⟨by rw [hRf]; exact Nat.le_of_ble_eq_true rfl, by rw [hRl]; exact Nat.le_of_ble_eq_true rfl⟩) hK hP hD [] rfl (by decide) [] rfl rfl hl.1 rfl (Nat.le_of_ble_eq_true rfl) dX4_addKind_29 ⟨by omega, by omega⟩ (fun r_252 hr_252 => ?_)
  refine lv_topi (fun v_253 ev_253 => ?_)
  obtain rfl : v_253 = 1 := ev_253.trans (hr_252.trans (if_pos h.2.2.1))
  refine lv_if_eq (tgt := 69) hx hb dX4_addKind_32 (by decide) (fun c_254 => absurd c_254 (by decide)) (fun c_254 => ?_)
  refine lv_iload hx hb dX4_addKind_35 (lv_at hl 4 rfl) ?_
  refine lv_iconst (v := 1) hx hb dX4_addKind_37 (by decide) ?_
  refine lv_sipush (v := 500) hx hb dX4_addKind_38 (by decide) ?_
  refine zrdS (As := [.int d, .int 1, .int 500]) (rest := []) (wc := []) ⟨hx, hb, hml, hown, hts⟩ (c_isIn l D _ d 1 500) (va_cwS 3 hts gX4_addKind_X4_isIn rfl rfl rfl (by decide +kernel) ⟨by rw [hRf]; exact Nat.le_of_ble_eq_true rfl, by rw [hRl]; exact Nat.le_of_ble_eq_true rfl⟩) hK hP hD [] rfl (by decide) [] rfl rfl hl.1 rfl (Nat.le_of_ble_eq_true rfl) dX4_addKind_41 ⟨by omega, by omega⟩ (fun r_255 hr_255 => ?_)
  refine lv_topi (fun v_256 ev_256 => ?_)
  obtain rfl : v_256 = 1 := ev_256.trans (hr_255.trans (if_pos h.2.2.2.1))
  refine lv_if_eq (tgt := 69) hx hb dX4_addKind_44 (by decide) (fun c_257 => absurd c_257 (by decide)) (fun c_257 => ?_)
  refine lv_iload hx hb dX4_addKind_47 (lv_at hl 5 rfl) ?_
  refine lv_iconst (v := 0) hx hb dX4_addKind_49 (by decide) ?_
  refine lv_sipush (v := 5000) hx hb dX4_addKind_50 (by decide) ?_
  refine zrdS (As := [.int e0, .int 0, .int 5000]) (rest := []) (wc := []) ⟨hx, hb, hml, hown, hts⟩ (c_isIn l D _ e0 0 5000) (va_cwS 3 hts gX4_addKind_X4_isIn rfl rfl rfl (by decide +kernel) ⟨by rw [hRf]; exact Nat.le_of_ble_eq_true rfl, by rw [hRl]; exact Nat.le_of_ble_eq_true rfl⟩) hK hP hD [] rfl (by decide) [] rfl rfl hl.1 rfl (Nat.le_of_ble_eq_true rfl) dX4_addKind_53 ⟨by omega, by omega⟩ (fun r_258 hr_258 => ?_)
  refine lv_topi (fun v_259 ev_259 => ?_)
  obtain rfl : v_259 = 1 := ev_259.trans (hr_258.trans (if_pos h.2.2.2.2.1))
  refine lv_if_eq (tgt := 69) hx hb dX4_addKind_56 (by decide) (fun c_260 => absurd c_260 (by decide)) (fun c_260 => ?_)
  refine lv_iload hx hb dX4_addKind_59 (lv_at hl 6 rfl) ?_
  refine lv_iconst (v := 0) hx hb dX4_addKind_61 (by decide) ?_
  refine lv_iconst (v := 3) hx hb dX4_addKind_62 (by decide) ?_
  refine zrdS (As := [.int f, .int 0, .int 3]) (rest := []) (wc := []) ⟨hx, hb, hml, hown, hts⟩ (c_isIn l D _ f 0 3) (va_cwS 3 hts gX4_addKind_X4_isIn rfl rfl rfl (by decide +kernel) ⟨by rw [hRf]; exact Nat.le_of_ble_eq_true rfl, by rw [hRl]; exact Nat.le_of_ble_eq_true rfl⟩) hK hP hD [] rfl (by decide) [] rfl rfl hl.1 rfl (Nat.le_of_ble_eq_true rfl) dX4_addKind_63 ⟨by omega, by omega⟩ (fun r_261 hr_261 => ?_)
  refine lv_topi (fun v_262 ev_262 => ?_)
  obtain rfl : v_262 = 1 := ev_262.trans (hr_261.trans (if_pos h.2.2.2.2.2))
  refine lv_if_ne (tgt := 75) hx hb dX4_addKind_66 (by decide) (fun c_263 => ?_) (fun c_263 => absurd c_263 (by decide))
  refine lv_aload_n hx hb dX4_addKind_75 rfl (lv_at hl 0 rfl) ?_
  refine va_get (D := D) (ci := 4) (v := .int 0) (C := RX4) (T := TX4) (N := 14) hx hb hts (fun _ h9 => List.mem_cons_of_mem _ (List.mem_append_right _ h9)) hown hK hP 0 rfl rfl 1 (by decide) (hts (.fieldLink RX4 38 "PalletStackModel" "kinds" "I") (List.mem_of_getElem? (i := 2) (by rfl))) (fun _ h9 => h9) rfl dX4_addKind_76 ?_
  refine lv_bipush (v := 10) hx hb dX4_addKind_79 (by decide) ?_
  refine lv_icmp_ne (tgt := 90) hx hb dX4_addKind_81 (by decide) (fun c_264 => ?_) (fun c_264 => absurd c_264 (by decide))
  refine lv_bipush (v := 6) hx hb dX4_addKind_90 (by decide) ?_
  refine znewa (atype := .int) (ty := .int) (N' := 6) (a0 := (6, .inl (fun _ => 0))) hx hb (hts (.arrayClass .int) (List.mem_of_getElem? (i := 3) (by rfl))) rfl hK hP hD hS hA (fun _ => rfl) (by decide) rfl (Nat.le_of_ble_eq_true rfl) (by omega) (by omega) dX4_addKind_92 (fun q_265 cy_266 H hz_267 hK hP hD hS => ?_)
  have hP : va_P D vwCl ([(mo, .inr (4, [.int 0, .int 0, .ref kT, .int 20, .int 60, .int 2000, .int 0, .int 0, .ref tb, .ref ld, .int 0, .ref lK, .ref lC, .int 0])), (kT, .inl (e1, 60, .inl (fun _ => 0))), (q_265, .inl (cy_266, 6, .inl (fun _ => 0)))]) H := hP
  have hD : va_D A ([(mo, .inr (4, [.int 0, .int 0, .ref kT, .int 20, .int 60, .int 2000, .int 0, .int 0, .ref tb, .ref ld, .int 0, .ref lK, .ref lC, .int 0])), (kT, .inl (e1, 60, .inl (fun _ => 0))), (q_265, .inl (cy_266, 6, .inl (fun _ => 0)))]) := hD
  refine lv_dup hx hb dX4_addKind_94 rfl ?_
  refine lv_iconst (v := 0) hx hb dX4_addKind_95 (by decide) ?_
  refine lv_iload_n hx hb dX4_addKind_96 rfl (lv_at hl 1 rfl) ?_
  refine va_iast hx hb hK hP hD hS 2 1 rfl rfl (vp_in_nI (n := 0) (N := 6) (by decide) (by decide)) dX4_addKind_97 (fun H locs hP hD hS => ?_)
  have hP : va_P D vwCl ([(mo, .inr (4, [.int 0, .int 0, .ref kT, .int 20, .int 60, .int 2000, .int 0, .int 0, .ref tb, .ref ld, .int 0, .ref lK, .ref lC, .int 0])), (kT, .inl (e1, 60, .inl (fun _ => 0))), (q_265, .inl (cy_266, 6, .inl (upd (fun _ => 0) 0 a)))]) H := hP
  have hD : va_D A ([(mo, .inr (4, [.int 0, .int 0, .ref kT, .int 20, .int 60, .int 2000, .int 0, .int 0, .ref tb, .ref ld, .int 0, .ref lK, .ref lC, .int 0])), (kT, .inl (e1, 60, .inl (fun _ => 0))), (q_265, .inl (cy_266, 6, .inl (upd (fun _ => 0) 0 a)))]) := hD
  refine lv_dup hx hb dX4_addKind_98 rfl ?_
  refine lv_iconst (v := 1) hx hb dX4_addKind_99 (by decide) ?_
  refine lv_iload_n hx hb dX4_addKind_100 rfl (lv_at hl 2 rfl) ?_
  refine va_iast hx hb hK hP hD hS 2 1 rfl rfl (vp_in_nI (n := 1) (N := 6) (by decide) (by decide)) dX4_addKind_101 (fun H locs hP hD hS => ?_)
  have hP : va_P D vwCl ([(mo, .inr (4, [.int 0, .int 0, .ref kT, .int 20, .int 60, .int 2000, .int 0, .int 0, .ref tb, .ref ld, .int 0, .ref lK, .ref lC, .int 0])), (kT, .inl (e1, 60, .inl (fun _ => 0))), (q_265, .inl (cy_266, 6, .inl (upd (upd (fun _ => 0) 0 a) 1 b)))]) H := hP
  have hD : va_D A ([(mo, .inr (4, [.int 0, .int 0, .ref kT, .int 20, .int 60, .int 2000, .int 0, .int 0, .ref tb, .ref ld, .int 0, .ref lK, .ref lC, .int 0])), (kT, .inl (e1, 60, .inl (fun _ => 0))), (q_265, .inl (cy_266, 6, .inl (upd (upd (fun _ => 0) 0 a) 1 b)))]) := hD
  refine lv_dup hx hb dX4_addKind_102 rfl ?_
  refine lv_iconst (v := 2) hx hb dX4_addKind_103 (by decide) ?_
  refine lv_iload_n hx hb dX4_addKind_104 rfl (lv_at hl 3 rfl) ?_
  refine va_iast hx hb hK hP hD hS 2 1 rfl rfl (vp_in_nI (n := 2) (N := 6) (by decide) (by decide)) dX4_addKind_105 (fun H locs hP hD hS => ?_)
  have hP : va_P D vwCl ([(mo, .inr (4, [.int 0, .int 0, .ref kT, .int 20, .int 60, .int 2000, .int 0, .int 0, .ref tb, .ref ld, .int 0, .ref lK, .ref lC, .int 0])), (kT, .inl (e1, 60, .inl (fun _ => 0))), (q_265, .inl (cy_266, 6, .inl (upd (upd (upd (fun _ => 0) 0 a) 1 b) 2 c1)))]) H := hP
  have hD : va_D A ([(mo, .inr (4, [.int 0, .int 0, .ref kT, .int 20, .int 60, .int 2000, .int 0, .int 0, .ref tb, .ref ld, .int 0, .ref lK, .ref lC, .int 0])), (kT, .inl (e1, 60, .inl (fun _ => 0))), (q_265, .inl (cy_266, 6, .inl (upd (upd (upd (fun _ => 0) 0 a) 1 b) 2 c1)))]) := hD
  refine lv_dup hx hb dX4_addKind_106 rfl ?_
  refine lv_iconst (v := 3) hx hb dX4_addKind_107 (by decide) ?_
  refine lv_iload hx hb dX4_addKind_108 (lv_at hl 4 rfl) ?_
  refine va_iast hx hb hK hP hD hS 2 1 rfl rfl (vp_in_nI (n := 3) (N := 6) (by decide) (by decide)) dX4_addKind_110 (fun H locs hP hD hS => ?_)
  have hP : va_P D vwCl ([(mo, .inr (4, [.int 0, .int 0, .ref kT, .int 20, .int 60, .int 2000, .int 0, .int 0, .ref tb, .ref ld, .int 0, .ref lK, .ref lC, .int 0])), (kT, .inl (e1, 60, .inl (fun _ => 0))), (q_265, .inl (cy_266, 6, .inl (upd (upd (upd (upd (fun _ => 0) 0 a) 1 b) 2 c1) 3 d)))]) H := hP
  have hD : va_D A ([(mo, .inr (4, [.int 0, .int 0, .ref kT, .int 20, .int 60, .int 2000, .int 0, .int 0, .ref tb, .ref ld, .int 0, .ref lK, .ref lC, .int 0])), (kT, .inl (e1, 60, .inl (fun _ => 0))), (q_265, .inl (cy_266, 6, .inl (upd (upd (upd (upd (fun _ => 0) 0 a) 1 b) 2 c1) 3 d)))]) := hD
  refine lv_dup hx hb dX4_addKind_111 rfl ?_
  refine lv_iconst (v := 4) hx hb dX4_addKind_112 (by decide) ?_
  refine lv_iload hx hb dX4_addKind_113 (lv_at hl 5 rfl) ?_
  refine va_iast hx hb hK hP hD hS 2 1 rfl rfl (vp_in_nI (n := 4) (N := 6) (by decide) (by decide)) dX4_addKind_115 (fun H locs hP hD hS => ?_)
  have hP : va_P D vwCl ([(mo, .inr (4, [.int 0, .int 0, .ref kT, .int 20, .int 60, .int 2000, .int 0, .int 0, .ref tb, .ref ld, .int 0, .ref lK, .ref lC, .int 0])), (kT, .inl (e1, 60, .inl (fun _ => 0))), (q_265, .inl (cy_266, 6, .inl (upd (upd (upd (upd (upd (fun _ => 0) 0 a) 1 b) 2 c1) 3 d) 4 e0)))]) H := hP
  have hD : va_D A ([(mo, .inr (4, [.int 0, .int 0, .ref kT, .int 20, .int 60, .int 2000, .int 0, .int 0, .ref tb, .ref ld, .int 0, .ref lK, .ref lC, .int 0])), (kT, .inl (e1, 60, .inl (fun _ => 0))), (q_265, .inl (cy_266, 6, .inl (upd (upd (upd (upd (upd (fun _ => 0) 0 a) 1 b) 2 c1) 3 d) 4 e0)))]) := hD
  refine lv_dup hx hb dX4_addKind_116 rfl ?_
  refine lv_iconst (v := 5) hx hb dX4_addKind_117 (by decide) ?_
  refine lv_iload hx hb dX4_addKind_118 (lv_at hl 6 rfl) ?_
  refine va_iast hx hb hK hP hD hS 2 1 rfl rfl (vp_in_nI (n := 5) (N := 6) (by decide) (by decide)) dX4_addKind_120 (fun H locs hP hD hS => ?_)
  have hP : va_P D vwCl ([(mo, .inr (4, [.int 0, .int 0, .ref kT, .int 20, .int 60, .int 2000, .int 0, .int 0, .ref tb, .ref ld, .int 0, .ref lK, .ref lC, .int 0])), (kT, .inl (e1, 60, .inl (fun _ => 0))), (q_265, .inl (cy_266, 6, .inl (upd (upd (upd (upd (upd (upd (fun _ => 0) 0 a) 1 b) 2 c1) 3 d) 4 e0) 5 f)))]) H := hP
  have hD : va_D A ([(mo, .inr (4, [.int 0, .int 0, .ref kT, .int 20, .int 60, .int 2000, .int 0, .int 0, .ref tb, .ref ld, .int 0, .ref lK, .ref lC, .int 0])), (kT, .inl (e1, 60, .inl (fun _ => 0))), (q_265, .inl (cy_266, 6, .inl (upd (upd (upd (upd (upd (upd (fun _ => 0) 0 a) 1 b) 2 c1) 3 d) 4 e0) 5 f)))]) := hD
  refine lv_astore (lv' := [(7, .ref q_265), (0, .ref mo), (1, .int a), (2, .int b), (3, .int c1), (4, .int d), (5, .int e0), (6, .int f)]) hx hb dX4_addKind_121 hl (by decide) rfl (fun ls hl => ?_)
  refine lv_aload hx hb dX4_addKind_123 (lv_at hl 0 rfl) ?_
  refine lv_iconst (v := 0) hx hb dX4_addKind_125 (by decide) ?_
  refine lv_aload_n hx hb dX4_addKind_126 rfl (lv_at hl 1 rfl) ?_
  refine va_get (D := D) (ci := 4) (v := .ref kT) (C := RX4) (T := TX4) (N := 14) hx hb hts (fun _ h9 => List.mem_cons_of_mem _ (List.mem_append_right _ h9)) hown hK hP 0 rfl rfl 2 (by decide) (hts (.fieldLink RX4 9 "PalletStackModel" "kindTable" "[I") (List.mem_of_getElem? (i := 4) (by rfl))) (fun _ h9 => h9) rfl dX4_addKind_127 ?_
  refine lv_bipush (v := 6) hx hb dX4_addKind_130 (by decide) ?_
  refine lv_aload_n hx hb dX4_addKind_132 rfl (lv_at hl 1 rfl) ?_
  refine va_get (D := D) (ci := 4) (v := .int 0) (C := RX4) (T := TX4) (N := 14) hx hb hts (fun _ h9 => List.mem_cons_of_mem _ (List.mem_append_right _ h9)) hown hK hP 0 rfl rfl 1 (by decide) (hts (.fieldLink RX4 38 "PalletStackModel" "kinds" "I") (List.mem_of_getElem? (i := 2) (by rfl))) (fun _ h9 => h9) rfl dX4_addKind_133 ?_
  refine lv_imul hx hb dX4_addKind_136 ?_
  refine lv_topi (fun v_268 ev_268 => ?_)
  obtain rfl : v_268 = 0 := ev_268.trans (by decide)
  refine lv_bipush (v := 6) hx hb dX4_addKind_137 (by decide) ?_
  refine va_copyi (ty := .int) hx hb (by rw [hml]; exact hl.1.symm) hown (hts (.methodLink RX4 49 arraycopyName) (List.mem_of_getElem? (i := 5) (by rfl))) (hts (.native arraycopyName) (List.mem_of_getElem? (i := 6) (by rfl))) (hts (.static arraycopyName) (List.mem_of_getElem? (i := 7) (by rfl))) (hts (.initialized "java/lang/System") (List.mem_of_getElem? (i := 8) (by rfl))) hK hP hD hS 2 1 1 0 rfl rfl rfl rfl rfl (by decide) (by decide) (by decide) (by decide) (by decide) (fun _ _ => rfl) (by rw [hRf]; exact Nat.le_of_ble_eq_true rfl) (by rw [hRl]; exact Nat.le_of_ble_eq_true rfl) dX4_addKind_139 (fun H locs hP hD hS => ?_)
  have hP : va_P D vwCl ([(mo, .inr (4, [.int 0, .int 0, .ref kT, .int 20, .int 60, .int 2000, .int 0, .int 0, .ref tb, .ref ld, .int 0, .ref lK, .ref lC, .int 0])), (kT, .inl (e1, 60, .inl (va_cpy (upd (upd (upd (upd (upd (upd (fun _ => 0) 0 a) 1 b) 2 c1) 3 d) 4 e0) 5 f) (fun _ => 0) 0 0 6))), (q_265, .inl (cy_266, 6, .inl (upd (upd (upd (upd (upd (upd (fun _ => 0) 0 a) 1 b) 2 c1) 3 d) 4 e0) 5 f)))]) H := hP
  have hD : va_D A ([(mo, .inr (4, [.int 0, .int 0, .ref kT, .int 20, .int 60, .int 2000, .int 0, .int 0, .ref tb, .ref ld, .int 0, .ref lK, .ref lC, .int 0])), (kT, .inl (e1, 60, .inl (va_cpy (upd (upd (upd (upd (upd (upd (fun _ => 0) 0 a) 1 b) 2 c1) 3 d) 4 e0) 5 f) (fun _ => 0) 0 0 6))), (q_265, .inl (cy_266, 6, .inl (upd (upd (upd (upd (upd (upd (fun _ => 0) 0 a) 1 b) 2 c1) 3 d) 4 e0) 5 f)))]) := hD
  refine lv_aload_n hx hb dX4_addKind_142 rfl (lv_at hl 1 rfl) ?_
  refine lv_dup hx hb dX4_addKind_143 rfl ?_
  refine va_get (D := D) (ci := 4) (v := .int 0) (C := RX4) (T := TX4) (N := 14) hx hb hts (fun _ h9 => List.mem_cons_of_mem _ (List.mem_append_right _ h9)) hown hK hP 0 rfl rfl 1 (by decide) (hts (.fieldLink RX4 38 "PalletStackModel" "kinds" "I") (List.mem_of_getElem? (i := 2) (by rfl))) (fun _ h9 => h9) rfl dX4_addKind_144 ?_
  refine lv_iconst (v := 1) hx hb dX4_addKind_147 (by decide) ?_
  refine lv_iadd hx hb dX4_addKind_148 ?_
  refine lv_topi (fun v_269 ev_269 => ?_)
  obtain rfl : v_269 = 1 := ev_269.trans (by decide)
  refine va_put (D := D) (ci := 4) (v := .int 1) (ty := .int) (C := RX4) (T := TX4) (N := 14) hx hb hts (fun _ h9 => List.mem_cons_of_mem _ (List.mem_append_right _ h9)) tyX4 tyX4_ok nmX4 hown hK hP hD hS 0 rfl rfl 1 (by decide) (hts (.fieldLink RX4 38 "PalletStackModel" "kinds" "I") (List.mem_of_getElem? (i := 2) (by rfl))) (fun _ h9 => h9) rfl (by decide +kernel) rfl rfl (Nat.le_of_ble_eq_true rfl) dX4_addKind_149 (fun H locs hP hD hS => ?_)
  have hP : va_P D vwCl ([(mo, .inr (4, [.int 0, .int 1, .ref kT, .int 20, .int 60, .int 2000, .int 0, .int 0, .ref tb, .ref ld, .int 0, .ref lK, .ref lC, .int 0])), (kT, .inl (e1, 60, .inl (va_cpy (upd (upd (upd (upd (upd (upd (fun _ => 0) 0 a) 1 b) 2 c1) 3 d) 4 e0) 5 f) (fun _ => 0) 0 0 6))), (q_265, .inl (cy_266, 6, .inl (upd (upd (upd (upd (upd (upd (fun _ => 0) 0 a) 1 b) 2 c1) 3 d) 4 e0) 5 f)))]) H := hP
  have hD : va_D A ([(mo, .inr (4, [.int 0, .int 1, .ref kT, .int 20, .int 60, .int 2000, .int 0, .int 0, .ref tb, .ref ld, .int 0, .ref lK, .ref lC, .int 0])), (kT, .inl (e1, 60, .inl (va_cpy (upd (upd (upd (upd (upd (upd (fun _ => 0) 0 a) 1 b) 2 c1) 3 d) 4 e0) 5 f) (fun _ => 0) 0 0 6))), (q_265, .inl (cy_266, 6, .inl (upd (upd (upd (upd (upd (upd (fun _ => 0) 0 a) 1 b) 2 c1) 3 d) 4 e0) 5 f)))]) := hD
  refine lv_aload_n hx hb dX4_addKind_152 rfl (lv_at hl 1 rfl) ?_
  refine va_get (D := D) (ci := 4) (v := .int 1) (C := RX4) (T := TX4) (N := 14) hx hb hts (fun _ h9 => List.mem_cons_of_mem _ (List.mem_append_right _ h9)) hown hK hP 0 rfl rfl 1 (by decide) (hts (.fieldLink RX4 38 "PalletStackModel" "kinds" "I") (List.mem_of_getElem? (i := 2) (by rfl))) (fun _ h9 => h9) rfl dX4_addKind_153 ?_
  refine lv_iconst (v := 1) hx hb dX4_addKind_156 (by decide) ?_
  refine lv_isub hx hb dX4_addKind_157 ?_
  refine lv_topi (fun v_270 ev_270 => ?_)
  obtain rfl : v_270 = 0 := ev_270.trans (by decide)
  have hP := hP.sub (ws' := [(mo, .inr (4, [.int 0, .int 1, .ref kT, .int 20, .int 60, .int 2000, .int 0, .int 0, .ref tb, .ref ld, .int 0, .ref lK, .ref lC, .int 0]))]) [0] rfl
  have hD := hD.sub (ws' := [(mo, .inr (4, [.int 0, .int 1, .ref kT, .int 20, .int 60, .int 2000, .int 0, .int 0, .ref tb, .ref ld, .int 0, .ref lK, .ref lC, .int 0]))]) [0] (by decide) rfl
  refine W.widen (k := 1) (n := 6) (by omega) (by omega) ?_
  exact W.iret (v := 0) hx hb hr (fun t ht hW => ⟨⟨0, (), rfl, rfl, ⟨Nat.zero_le _, by rw [ht]; exact hP, va_K.moved hW.alike (hK.sub (tys' := []) [] rfl), hD⟩⟩, hS.F ht⟩) hS.2.2 dX4_addKind_158
set_option maxHeartbeats 4000000 in
set_option maxRecDepth 100000 in
theorem c_Mstack (l : Launch) (D : zG) (sz : Nat) (mo kT tb ld lK lC : Nat) : Met l yX4_stack wsX4_stack ({ frames := 3, cells := 1, slots := 20, locals := 120 }) (zPc D [] ([(mo, .inr (4, [.int 0, .int 0, .ref kT, .int 20, .int 60, .int 2000, .int 0, .int 0, .ref tb, .ref ld, .int 0, .ref lK, .ref lC, .int 0]))]) sz [.ref mo]) (va_Qi (fun (r : Int32) (u : Unit) => r = 0) (zB D (va_A ([(mo, .inr (4, [.int 0, .int 0, .ref kT, .int 20, .int 60, .int 2000, .int 0, .int 0, .ref tb, .ref ld, .int 0, .ref lK, .ref lC, .int 0]))]) sz) (fun _ => []) 0 (fun _ => [(mo, .inr (4, [.int 0, .int 0, .ref kT, .int 20, .int 60, .int 2000, .int 0, .int 0, .ref tb, .ref ld, .int 0, .ref lK, .ref lC, .int 0]))])) (va_A ([(mo, .inr (4, [.int 0, .int 0, .ref kT, .int 20, .int 60, .int 2000, .int 0, .int 0, .ref tb, .ref ld, .int 0, .ref lK, .ref lC, .int 0]))]) sz)) 1 20 (va_A ([(mo, .inr (4, [.int 0, .int 0, .ref kT, .int 20, .int 60, .int 2000, .int 0, .int 0, .ref tb, .ref ld, .int 0, .ref lK, .ref lC, .int 0]))]) sz) := by
  refine Met.ofW (cc := cX4_stack) (maxL := 5) (ret := (some .int)) (by decide) rfl ?_
  intro p e s m args below meth c s₁ B hml hv
  obtain ⟨rfl, hsz, hP, hK, hD0⟩ := hv
  have hx := B.exec
  have hb := B.bytes
  have hr := B.returns
  have hts := atoms_spec (ws := wsX4_stack) B.pre
  have hown : s.vm.findClass RX4 = some m.cls := findClass_of_methodNamed B.named
  have hlocks := B.notSynchronized
  subst hsz
  have hD := hD0.self (sz := s.heap.size)
  generalize hAe : va_A ([(mo, .inr (4, [.int 0, .int 0, .ref kT, .int 20, .int 60, .int 2000, .int 0, .int 0, .ref tb, .ref ld, .int 0, .ref lK, .ref lC, .int 0]))]) s.heap.size = A at hD ⊢
  have hA : ∀ q : Nat, s.heap.size ≤ q → A q := fun q h => by rw [← hAe]; exact Or.inr h
  have hS : va_S A s.heap s.heap [] := va_S.rf
  have hl := lv_entry ([.ref mo]) (n := 5) (Nat.le_of_ble_eq_true rfl)
  rw [lg_entry_eq]
  generalize (lg_sl ([.ref mo]) ++ List.replicate (5 - (lg_sl ([.ref mo])).length) Slot.unset).toArray = ls at hl ⊢
  have hl : lv_has ls 5 [(0, .ref mo)] := hl
  have hP : va_P D vwCl ([(mo, .inr (4, [.int 0, .int 0, .ref kT, .int 20, .int 60, .int 2000, .int 0, .int 0, .ref tb, .ref ld, .int 0, .ref lK, .ref lC, .int 0]))]) s.heap := hP
  generalize hRe : (headSpec _ _).room = R
  have hRf : R.frames = 3 := by rw [← hRe]; rfl
  have hRc : R.cells = 1 := by rw [← hRe]; rfl
  have hRs : R.slots = 20 := by rw [← hRe]; rfl
  have hRl : R.locals = 120 := by rw [← hRe]; rfl
  clear hRe
  refine lv_aload_n hx hb dX4_stack_0 rfl (lv_at hl 0 rfl) ?_
  refine lv_iconst (v := 0) hx hb dX4_stack_1 (by decide) ?_
  refine va_put (D := D) (ci := 4) (v := .int 0) (ty := .int) (C := RX4) (T := TX4) (N := 14) hx hb hts (fun _ h9 => List.mem_cons_of_mem _ (List.mem_append_right _ h9)) tyX4 tyX4_ok nmX4 hown hK hP hD hS 0 rfl rfl 0 (by decide) (hts (.fieldLink RX4 35 "PalletStackModel" "thrown" "I") (List.mem_of_getElem? (i := 1) (by rfl))) (fun _ h9 => h9) rfl (by decide +kernel) rfl rfl (Nat.le_of_ble_eq_true rfl) dX4_stack_2 (fun H locs hP hD hS => ?_)
  have hP : va_P D vwCl ([(mo, .inr (4, [.int 0, .int 0, .ref kT, .int 20, .int 60, .int 2000, .int 0, .int 0, .ref tb, .ref ld, .int 0, .ref lK, .ref lC, .int 0]))]) H := hP
  have hD : va_D A ([(mo, .inr (4, [.int 0, .int 0, .ref kT, .int 20, .int 60, .int 2000, .int 0, .int 0, .ref tb, .ref ld, .int 0, .ref lK, .ref lC, .int 0]))]) := hD
  refine lv_bipush (v := 20) hx hb dX4_stack_5 (by decide) ?_
  refine znewa (atype := .boolean) (ty := .boolean) (N' := 20) (a0 := (20, .inl (fun _ => 0))) hx hb (hts (.arrayClass .boolean) (List.mem_of_getElem? (i := 2) (by rfl))) rfl hK hP hD hS hA (fun _ => rfl) (by decide) rfl (Nat.le_of_ble_eq_true rfl) (by omega) (by omega) dX4_stack_7 (fun q_271 cy_272 H hz_273 hK hP hD hS => ?_)
  have hP : va_P D vwCl ([(mo, .inr (4, [.int 0, .int 0, .ref kT, .int 20, .int 60, .int 2000, .int 0, .int 0, .ref tb, .ref ld, .int 0, .ref lK, .ref lC, .int 0])), (q_271, .inl (cy_272, 20, .inl (fun _ => 0)))]) H := hP
  have hD : va_D A ([(mo, .inr (4, [.int 0, .int 0, .ref kT, .int 20, .int 60, .int 2000, .int 0, .int 0, .ref tb, .ref ld, .int 0, .ref lK, .ref lC, .int 0])), (q_271, .inl (cy_272, 20, .inl (fun _ => 0)))]) := hD
  refine lv_astore_n (lv' := [(1, .ref q_271), (0, .ref mo)]) hx hb dX4_stack_9 rfl hl (by decide) rfl (fun ls hl => ?_)
  refine lv_iconst (v := 0) hx hb dX4_stack_10 (by decide) ?_
  refine lv_istore_n (lv' := [(2, .int 0), (1, .ref q_271), (0, .ref mo)]) hx hb dX4_stack_11 rfl hl (by decide) rfl (fun ls hl => ?_)
  refine lv_iconst (v := 0) hx hb dX4_stack_12 (by decide) ?_
  refine lv_istore_n (lv' := [(3, .int 0), (2, .int 0), (1, .ref q_271), (0, .ref mo)]) hx hb dX4_stack_13 rfl hl (by decide) rfl (fun ls hl => ?_)
  refine lv_iload_n hx hb dX4_stack_14 rfl (lv_at hl 0 rfl) ?_
  refine lv_iconst (v := (-1)) hx hb dX4_stack_15 (by decide) ?_
  refine lv_icmp_eq (tgt := 118) hx hb dX4_stack_16 (by decide) (fun c_274 => absurd c_274 (by decide)) (fun c_274 => ?_)
  refine lv_iconst (v := (-1)) hx hb dX4_stack_19 (by decide) ?_
  refine lv_istore_n (lv' := [(3, .int (-1)), (2, .int 0), (1, .ref q_271), (0, .ref mo)]) hx hb dX4_stack_20 rfl hl (by decide) rfl (fun ls hl => ?_)
  refine lv_iconst (v := 0) hx hb dX4_stack_21 (by decide) ?_
  refine lv_istore (lv' := [(4, .int 0), (3, .int (-1)), (2, .int 0), (1, .ref q_271), (0, .ref mo)]) hx hb dX4_stack_22 hl (by decide) rfl (fun ls hl => ?_)
  refine lv_iload hx hb dX4_stack_24 (lv_at hl 0 rfl) ?_
  refine lv_aload_n hx hb dX4_stack_26 rfl (lv_at hl 4 rfl) ?_
  refine va_get (D := D) (ci := 4) (v := .int 0) (C := RX4) (T := TX4) (N := 14) hx hb hts (fun _ h9 => List.mem_cons_of_mem _ (List.mem_append_right _ h9)) hown hK hP 0 rfl rfl 10 (by decide) (hts (.fieldLink RX4 70 "PalletStackModel" "lines" "I") (List.mem_of_getElem? (i := 3) (by rfl))) (fun _ h9 => h9) rfl dX4_stack_27 ?_
  refine lv_icmp_ge (tgt := 74) hx hb dX4_stack_30 (by decide) (fun c_275 => ?_) (fun c_275 => absurd (Int32.le_refl _) c_275)
  refine lv_iload_n hx hb dX4_stack_74 rfl (lv_at hl 1 rfl) ?_
  refine lv_iconst (v := (-1)) hx hb dX4_stack_75 (by decide) ?_
  refine lv_icmp_ne (tgt := 82) hx hb dX4_stack_76 (by decide) (fun c_276 => absurd (rfl) c_276) (fun c_276 => ?_)
  refine lv_goto (tgt := 14) hx hb dX4_stack_79 (by decide) ?_
  refine lv_iload_n hx hb dX4_stack_14 rfl (lv_at hl 1 rfl) ?_
  refine lv_iconst (v := (-1)) hx hb dX4_stack_15 (by decide) ?_
  refine lv_icmp_eq (tgt := 118) hx hb dX4_stack_16 (by decide) (fun c_277 => ?_) (fun c_277 => absurd (rfl) c_277)
  refine lv_iload_n hx hb dX4_stack_118 rfl (lv_at hl 2 rfl) ?_
  have hP := hP.sub (ws' := [(mo, .inr (4, [.int 0, .int 0, .ref kT, .int 20, .int 60, .int 2000, .int 0, .int 0, .ref tb, .ref ld, .int 0, .ref lK, .ref lC, .int 0]))]) [0] rfl
  have hD := hD.sub (ws' := [(mo, .inr (4, [.int 0, .int 0, .ref kT, .int 20, .int 60, .int 2000, .int 0, .int 0, .ref tb, .ref ld, .int 0, .ref lK, .ref lC, .int 0]))]) [0] (by decide) rfl
  refine W.widen (k := 1) (n := 20) (by omega) (by omega) ?_
  exact W.iret (v := 0) hx hb hr (fun t ht hW => ⟨⟨0, (), rfl, rfl, ⟨Nat.zero_le _, by rw [ht]; exact hP, va_K.moved hW.alike (hK.sub (tys' := []) [] rfl), hD⟩⟩, hS.F ht⟩) hS.2.2 dX4_stack_119
set_option maxHeartbeats 4000000 in
set_option maxRecDepth 100000 in
theorem c_Mclear (l : Launch) (D : zG) (sz : Nat) (mo kT tb ld lK lC : Nat) (e2 : ClassId) : Met l yX4_clear wsX4_clear ({ frames := 3, cells := 0, slots := 0, locals := 120 }) (zPc D [(e2, .int)] ([(mo, .inr (4, [.int 0, .int 0, .ref kT, .int 20, .int 60, .int 2000, .int 0, .int 0, .ref tb, .ref ld, .int 0, .ref lK, .ref lC, .int 0])), (tb, .inl (e2, 366, .inl (fun _ => 0)))]) sz [.ref mo]) (va_Qi (fun (r : Int32) (u : Unit) => r = 0) (zB D (va_A ([(mo, .inr (4, [.int 0, .int 0, .ref kT, .int 20, .int 60, .int 2000, .int 0, .int 0, .ref tb, .ref ld, .int 0, .ref lK, .ref lC, .int 0])), (tb, .inl (e2, 366, .inl (fun _ => 0)))]) sz) (fun _ => []) 0 (fun _ => [(mo, .inr (4, [.int 0, .int 0, .ref kT, .int 20, .int 60, .int 2000, .int 0, .int 0, .ref tb, .ref ld, .int 0, .ref lK, .ref lC, .int 0]))])) (va_A ([(mo, .inr (4, [.int 0, .int 0, .ref kT, .int 20, .int 60, .int 2000, .int 0, .int 0, .ref tb, .ref ld, .int 0, .ref lK, .ref lC, .int 0])), (tb, .inl (e2, 366, .inl (fun _ => 0)))]) sz)) 0 0 (va_A ([(mo, .inr (4, [.int 0, .int 0, .ref kT, .int 20, .int 60, .int 2000, .int 0, .int 0, .ref tb, .ref ld, .int 0, .ref lK, .ref lC, .int 0])), (tb, .inl (e2, 366, .inl (fun _ => 0)))]) sz) := by
  refine Met.ofW (cc := cX4_clear) (maxL := 3) (ret := (some .int)) (by decide) rfl ?_
  intro p e s m args below meth c s₁ B hml hv
  obtain ⟨rfl, hsz, hP, hK, hD0⟩ := hv
  have hx := B.exec
  have hb := B.bytes
  have hr := B.returns
  have hts := atoms_spec (ws := wsX4_clear) B.pre
  have hown : s.vm.findClass RX4 = some m.cls := findClass_of_methodNamed B.named
  have hlocks := B.notSynchronized
  subst hsz
  have hD := hD0.self (sz := s.heap.size)
  generalize hAe : va_A ([(mo, .inr (4, [.int 0, .int 0, .ref kT, .int 20, .int 60, .int 2000, .int 0, .int 0, .ref tb, .ref ld, .int 0, .ref lK, .ref lC, .int 0])), (tb, .inl (e2, 366, .inl (fun _ => 0)))]) s.heap.size = A at hD ⊢
  have hA : ∀ q : Nat, s.heap.size ≤ q → A q := fun q h => by rw [← hAe]; exact Or.inr h
  have hS : va_S A s.heap s.heap [] := va_S.rf
  have hl := lv_entry ([.ref mo]) (n := 3) (Nat.le_of_ble_eq_true rfl)
  rw [lg_entry_eq]
  generalize (lg_sl ([.ref mo]) ++ List.replicate (3 - (lg_sl ([.ref mo])).length) Slot.unset).toArray = ls at hl ⊢
  have hl : lv_has ls 3 [(0, .ref mo)] := hl
  have hP : va_P D vwCl ([(mo, .inr (4, [.int 0, .int 0, .ref kT, .int 20, .int 60, .int 2000, .int 0, .int 0, .ref tb, .ref ld, .int 0, .ref lK, .ref lC, .int 0])), (tb, .inl (e2, 366, .inl (fun _ => 0)))]) s.heap := hP
  generalize hRe : (headSpec _ _).room = R
  have hRf : R.frames = 3 := by rw [← hRe]; rfl
  have hRc : R.cells = 0 := by rw [← hRe]; rfl
  have hRs : R.slots = 0 := by rw [← hRe]; rfl
  have hRl : R.locals = 120 := by rw [← hRe]; rfl
  clear hRe
  refine lv_aload_n hx hb dX4_clear_0 rfl (lv_at hl 0 rfl) ?_
  refine lv_iconst (v := 0) hx hb dX4_clear_1 (by decide) ?_
  refine va_put (D := D) (ci := 4) (v := .int 0) (ty := .int) (C := RX4) (T := TX4) (N := 14) hx hb hts (fun _ h9 => List.mem_cons_of_mem _ (List.mem_append_right _ h9)) tyX4 tyX4_ok nmX4 hown hK hP hD hS 0 rfl rfl 0 (by decide) (hts (.fieldLink RX4 35 "PalletStackModel" "thrown" "I") (List.mem_of_getElem? (i := 1) (by rfl))) (fun _ h9 => h9) rfl (by decide +kernel) rfl rfl (Nat.le_of_ble_eq_true rfl) dX4_clear_2 (fun H locs hP hD hS => ?_)
  have hP : va_P D vwCl ([(mo, .inr (4, [.int 0, .int 0, .ref kT, .int 20, .int 60, .int 2000, .int 0, .int 0, .ref tb, .ref ld, .int 0, .ref lK, .ref lC, .int 0])), (tb, .inl (e2, 366, .inl (fun _ => 0)))]) H := hP
  have hD : va_D A ([(mo, .inr (4, [.int 0, .int 0, .ref kT, .int 20, .int 60, .int 2000, .int 0, .int 0, .ref tb, .ref ld, .int 0, .ref lK, .ref lC, .int 0])), (tb, .inl (e2, 366, .inl (fun _ => 0)))]) := hD
  refine lv_aload_n hx hb dX4_clear_5 rfl (lv_at hl 0 rfl) ?_
  refine zrdV (As := []) (rest := []) (wc := [(mo, .inr (4, [.int 0, .int 0, .ref kT, .int 20, .int 60, .int 2000, .int 0, .int 0, .ref tb, .ref ld, .int 0, .ref lK, .ref lC, .int 0]))]) ⟨hx, hb, hml, hown, hts⟩ (c_present0 l D _ mo kT tb ld lK lC) (cwV 0 hts gX4_clear_X4_present rfl rfl rfl (by decide +kernel) ⟨by rw [hRf]; exact Nat.le_of_ble_eq_true rfl, by rw [hRl]; exact Nat.le_of_ble_eq_true rfl⟩) hK hP hD [0] rfl (by decide) [] rfl (ci := 4) (q0 := 0) rfl rfl rfl hl.1 rfl (Nat.le_of_ble_eq_true rfl) dX4_clear_6 ⟨by omega, by omega⟩ (fun r_278 hr_278 => ?_)
  refine lv_topi (fun v_279 ev_279 => ?_)
  obtain rfl : v_279 = 0 := ev_279.trans hr_278
  refine lv_istore_n (lv' := [(1, .int 0), (0, .ref mo)]) hx hb dX4_clear_9 rfl hl (by decide) rfl (fun ls hl => ?_)
  refine lv_iconst (v := 0) hx hb dX4_clear_10 (by decide) ?_
  refine lv_istore_n (lv' := [(2, .int 0), (1, .int 0), (0, .ref mo)]) hx hb dX4_clear_11 rfl hl (by decide) rfl (fun ls hl => ?_)
  generalize hQe : MQ _ _ _ _ _ _ _ = Q
  have hl := lv_sub hl (l' := [(2, .int 0), (1, .int 0), (0, .ref mo)]) [0, 1, 2] rfl
  have loop : ∀ (k i : Nat), i + k = 61 → ∀ (t0 : Nat → Int32) (H : Heap) (locs : List Loc) (ls : Array Slot), va_P D vwCl ([(mo, .inr (4, [.int 0, .int 0, .ref kT, .int 20, .int 60, .int 2000, .int 0, .int 0, .ref tb, .ref ld, .int 0, .ref lK, .ref lC, .int 0])), (tb, .inl (e2, 366, .inl (t0)))]) H → va_D A ([(mo, .inr (4, [.int 0, .int 0, .ref kT, .int 20, .int 60, .int 2000, .int 0, .int 0, .ref tb, .ref ld, .int 0, .ref lK, .ref lC, .int 0])), (tb, .inl (e2, 366, .inl (t0)))]) → va_S A s.heap H locs → lv_has ls 3 [(2, .int (nI i)), (1, .int 0), (0, .ref mo)] → W p l e R s m ([.ref mo] : List Value).toArray below meth c H locs 0 0 Q (F0 m 12 ls []) := by
    intro k
    induction k with
    | zero =>
      intro i hi t0 H locs ls hP hD hS hl
      obtain rfl : i = 61 := by omega
      refine lv_iload_n hx hb dX4_clear_12 rfl (lv_at hl 0 rfl) ?_
      refine lv_bipush (v := 60) hx hb dX4_clear_13 (by decide) ?_
      refine lv_icmp_gt (tgt := 36) hx hb dX4_clear_15 (by decide) (fun c_280 => ?_) (fun c_280 => absurd (by decide) c_280)
      refine lv_aload_n hx hb dX4_clear_36 rfl (lv_at hl 2 rfl) ?_
      refine lv_iconst (v := 0) hx hb dX4_clear_37 (by decide) ?_
      refine va_put (D := D) (ci := 4) (v := .int 0) (ty := .int) (C := RX4) (T := TX4) (N := 14) hx hb hts (fun _ h9 => List.mem_cons_of_mem _ (List.mem_append_right _ h9)) tyX4 tyX4_ok nmX4 hown hK hP hD hS 0 rfl rfl 7 (by decide) (hts (.fieldLink RX4 59 "PalletStackModel" "came" "I") (List.mem_of_getElem? (i := 3) (by rfl))) (fun _ h9 => h9) rfl (by decide +kernel) rfl rfl (Nat.le_of_ble_eq_true rfl) dX4_clear_38 (fun H locs hP hD hS => ?_)
      have hP : va_P D vwCl ([(mo, .inr (4, [.int 0, .int 0, .ref kT, .int 20, .int 60, .int 2000, .int 0, .int 0, .ref tb, .ref ld, .int 0, .ref lK, .ref lC, .int 0])), (tb, .inl (e2, 366, .inl (t0)))]) H := hP
      have hD : va_D A ([(mo, .inr (4, [.int 0, .int 0, .ref kT, .int 20, .int 60, .int 2000, .int 0, .int 0, .ref tb, .ref ld, .int 0, .ref lK, .ref lC, .int 0])), (tb, .inl (e2, 366, .inl (t0)))]) := hD
      refine lv_aload_n hx hb dX4_clear_41 rfl (lv_at hl 2 rfl) ?_
      refine lv_iconst (v := 0) hx hb dX4_clear_42 (by decide) ?_
      refine va_put (D := D) (ci := 4) (v := .int 0) (ty := .int) (C := RX4) (T := TX4) (N := 14) hx hb hts (fun _ h9 => List.mem_cons_of_mem _ (List.mem_append_right _ h9)) tyX4 tyX4_ok nmX4 hown hK hP hD hS 0 rfl rfl 10 (by decide) (hts (.fieldLink RX4 70 "PalletStackModel" "lines" "I") (List.mem_of_getElem? (i := 4) (by rfl))) (fun _ h9 => h9) rfl (by decide +kernel) rfl rfl (Nat.le_of_ble_eq_true rfl) dX4_clear_43 (fun H locs hP hD hS => ?_)
      have hP : va_P D vwCl ([(mo, .inr (4, [.int 0, .int 0, .ref kT, .int 20, .int 60, .int 2000, .int 0, .int 0, .ref tb, .ref ld, .int 0, .ref lK, .ref lC, .int 0])), (tb, .inl (e2, 366, .inl (t0)))]) H := hP
      have hD : va_D A ([(mo, .inr (4, [.int 0, .int 0, .ref kT, .int 20, .int 60, .int 2000, .int 0, .int 0, .ref tb, .ref ld, .int 0, .ref lK, .ref lC, .int 0])), (tb, .inl (e2, 366, .inl (t0)))]) := hD
      refine lv_iload_n hx hb dX4_clear_46 rfl (lv_at hl 1 rfl) ?_
      have hP := hP.sub (ws' := [(mo, .inr (4, [.int 0, .int 0, .ref kT, .int 20, .int 60, .int 2000, .int 0, .int 0, .ref tb, .ref ld, .int 0, .ref lK, .ref lC, .int 0]))]) [0] rfl
      have hD := hD.sub (ws' := [(mo, .inr (4, [.int 0, .int 0, .ref kT, .int 20, .int 60, .int 2000, .int 0, .int 0, .ref tb, .ref ld, .int 0, .ref lK, .ref lC, .int 0]))]) [0] (by decide) rfl
      rw [← hQe]
      exact W.iret (v := 0) hx hb hr (fun t ht hW => ⟨⟨0, (), rfl, rfl, ⟨Nat.zero_le _, by rw [ht]; exact hP, va_K.moved hW.alike (hK.sub (tys' := []) [] rfl), hD⟩⟩, hS.F ht⟩) hS.2.2 dX4_clear_47
    | succ k ih =>
      intro i hi t0 H locs ls hP hD hS hl
      refine lv_iload_n hx hb dX4_clear_12 rfl (lv_at hl 0 rfl) ?_
      refine lv_bipush (v := 60) hx hb dX4_clear_13 (by decide) ?_
      refine lv_icmp_gt (tgt := 36) hx hb dX4_clear_15 (by decide) (fun c_281 => absurd c_281 (fun h => absurd (Int32.not_le.mpr h) (not_not_intro ((nI_leI (a := i) (b := 60) (by omega) (by decide)).mpr (by omega))))) (fun c_281 => ?_)
      refine lv_aload_n hx hb dX4_clear_18 rfl (lv_at hl 2 rfl) ?_
      refine va_get (D := D) (ci := 4) (v := .ref tb) (C := RX4) (T := TX4) (N := 14) hx hb hts (fun _ h9 => List.mem_cons_of_mem _ (List.mem_append_right _ h9)) hown hK hP 0 rfl rfl 8 (by decide) (hts (.fieldLink RX4 23 "PalletStackModel" "table" "[I") (List.mem_of_getElem? (i := 2) (by rfl))) (fun _ h9 => h9) rfl dX4_clear_19 ?_
      refine lv_bipush (v := 6) hx hb dX4_clear_22 (by decide) ?_
      refine lv_iload_n hx hb dX4_clear_24 rfl (lv_at hl 0 rfl) ?_
      refine lv_imul hx hb dX4_clear_25 ?_
      refine lv_topi (fun v_282 ev_282 => ?_)
      obtain rfl : v_282 = (nI (6 * i)) := ev_282.trans (pk_mul 6 i)
      refine lv_iconst (v := 5) hx hb dX4_clear_26 (by decide) ?_
      refine lv_iadd hx hb dX4_clear_27 ?_
      refine lv_topi (fun v_283 ev_283 => ?_)
      obtain rfl : v_283 = (nI (6 * i + 5)) := ev_283.trans (nI_add _ 5)
      refine lv_iconst (v := 0) hx hb dX4_clear_28 (by decide) ?_
      refine va_iast hx hb hK hP hD hS 1 0 rfl rfl (vp_in_nI (N := 366) (by omega) (by decide)) dX4_clear_29 (fun H locs hP hD hS => ?_)
      have hP : va_P D vwCl ([(mo, .inr (4, [.int 0, .int 0, .ref kT, .int 20, .int 60, .int 2000, .int 0, .int 0, .ref tb, .ref ld, .int 0, .ref lK, .ref lC, .int 0])), (tb, .inl (e2, 366, .inl (upd (t0) ((nI (6 * i + 5)) : Int32).toNatClampNeg 0)))]) H := hP
      have hD : va_D A ([(mo, .inr (4, [.int 0, .int 0, .ref kT, .int 20, .int 60, .int 2000, .int 0, .int 0, .ref tb, .ref ld, .int 0, .ref lK, .ref lC, .int 0])), (tb, .inl (e2, 366, .inl (upd (t0) ((nI (6 * i + 5)) : Int32).toNatClampNeg 0)))]) := hD
      refine lv_iinc (v := (nI (i + 1))) (lv' := [(2, .int (nI (i + 1))), (1, .int 0), (0, .ref mo)]) hx hb dX4_clear_30 hl (k := 0) rfl (nI_1 i) (by decide) rfl (fun ls hl => ?_)
      refine lv_goto (tgt := 12) hx hb dX4_clear_33 (by decide) ?_
      have hl := lv_sub hl (l' := [(2, .int (nI (i + 1))), (1, .int 0), (0, .ref mo)]) [0, 1, 2] rfl
      exact ih (i + 1) (by omega) _ H locs ls hP hD hS hl
  exact loop 61 0 rfl _ H locs ls hP hD hS hl
set_option maxHeartbeats 4000000 in
set_option maxRecDepth 100000 in
theorem c_Mmiddle (l : Launch) (D : zG) (sz : Nat) (mo kT tb ld lK lC : Nat) (e2 : ClassId) (a : Int32) : Met l yX4_middle wsX4_middle ({ frames := 3, cells := 0, slots := 0, locals := 120 }) (zPc D [(e2, .int)] ([(mo, .inr (4, [.int 0, .int 0, .ref kT, .int 20, .int 60, .int 2000, .int 0, .int 0, .ref tb, .ref ld, .int 0, .ref lK, .ref lC, .int 0])), (tb, .inl (e2, 366, .inl (fun _ => 0)))]) sz [.ref mo, .int a]) (va_Qd (fun (r : UInt64) (u : Unit) => r = FP.dconst0) (zB D (va_A ([(mo, .inr (4, [.int 0, .int 0, .ref kT, .int 20, .int 60, .int 2000, .int 0, .int 0, .ref tb, .ref ld, .int 0, .ref lK, .ref lC, .int 0])), (tb, .inl (e2, 366, .inl (fun _ => 0)))]) sz) (fun _ => []) 0 (fun _ => [(mo, .inr (4, [.int 0, .int 0, .ref kT, .int 20, .int 60, .int 2000, .int 0, .int 0, .ref tb, .ref ld, .int 0, .ref lK, .ref lC, .int 0]))])) (va_A ([(mo, .inr (4, [.int 0, .int 0, .ref kT, .int 20, .int 60, .int 2000, .int 0, .int 0, .ref tb, .ref ld, .int 0, .ref lK, .ref lC, .int 0])), (tb, .inl (e2, 366, .inl (fun _ => 0)))]) sz)) 0 0 (va_A ([(mo, .inr (4, [.int 0, .int 0, .ref kT, .int 20, .int 60, .int 2000, .int 0, .int 0, .ref tb, .ref ld, .int 0, .ref lK, .ref lC, .int 0])), (tb, .inl (e2, 366, .inl (fun _ => 0)))]) sz) := by
  refine Met.ofW (cc := cX4_middle) (maxL := 4) (ret := (some .double)) (by decide) rfl ?_
  intro p e s m args below meth c s₁ B hml hv
  obtain ⟨rfl, hsz, hP, hK, hD0⟩ := hv
  have hx := B.exec
  have hb := B.bytes
  have hr := B.returns
  have hts := atoms_spec (ws := wsX4_middle) B.pre
  have hown : s.vm.findClass RX4 = some m.cls := findClass_of_methodNamed B.named
  have hlocks := B.notSynchronized
  subst hsz
  have hD := hD0.self (sz := s.heap.size)
  generalize hAe : va_A ([(mo, .inr (4, [.int 0, .int 0, .ref kT, .int 20, .int 60, .int 2000, .int 0, .int 0, .ref tb, .ref ld, .int 0, .ref lK, .ref lC, .int 0])), (tb, .inl (e2, 366, .inl (fun _ => 0)))]) s.heap.size = A at hD ⊢
  have hA : ∀ q : Nat, s.heap.size ≤ q → A q := fun q h => by rw [← hAe]; exact Or.inr h
  have hS : va_S A s.heap s.heap [] := va_S.rf
  have hl := lv_entry ([.ref mo, .int a]) (n := 4) (Nat.le_of_ble_eq_true rfl)
  rw [lg_entry_eq]
  generalize (lg_sl ([.ref mo, .int a]) ++ List.replicate (4 - (lg_sl ([.ref mo, .int a])).length) Slot.unset).toArray = ls at hl ⊢
  have hl : lv_has ls 4 [(0, .ref mo), (1, .int a)] := hl
  have hP : va_P D vwCl ([(mo, .inr (4, [.int 0, .int 0, .ref kT, .int 20, .int 60, .int 2000, .int 0, .int 0, .ref tb, .ref ld, .int 0, .ref lK, .ref lC, .int 0])), (tb, .inl (e2, 366, .inl (fun _ => 0)))]) s.heap := hP
  generalize hRe : (headSpec _ _).room = R
  have hRf : R.frames = 3 := by rw [← hRe]; rfl
  have hRc : R.cells = 0 := by rw [← hRe]; rfl
  have hRs : R.slots = 0 := by rw [← hRe]; rfl
  have hRl : R.locals = 120 := by rw [← hRe]; rfl
  clear hRe
  refine lv_aload_n hx hb dX4_middle_0 rfl (lv_at hl 0 rfl) ?_
  refine lv_iconst (v := 0) hx hb dX4_middle_1 (by decide) ?_
  refine va_put (D := D) (ci := 4) (v := .int 0) (ty := .int) (C := RX4) (T := TX4) (N := 14) hx hb hts (fun _ h9 => List.mem_cons_of_mem _ (List.mem_append_right _ h9)) tyX4 tyX4_ok nmX4 hown hK hP hD hS 0 rfl rfl 0 (by decide) (hts (.fieldLink RX4 35 "PalletStackModel" "thrown" "I") (List.mem_of_getElem? (i := 1) (by rfl))) (fun _ h9 => h9) rfl (by decide +kernel) rfl rfl (Nat.le_of_ble_eq_true rfl) dX4_middle_2 (fun H locs hP hD hS => ?_)
  have hP : va_P D vwCl ([(mo, .inr (4, [.int 0, .int 0, .ref kT, .int 20, .int 60, .int 2000, .int 0, .int 0, .ref tb, .ref ld, .int 0, .ref lK, .ref lC, .int 0])), (tb, .inl (e2, 366, .inl (fun _ => 0)))]) H := hP
  have hD : va_D A ([(mo, .inr (4, [.int 0, .int 0, .ref kT, .int 20, .int 60, .int 2000, .int 0, .int 0, .ref tb, .ref ld, .int 0, .ref lK, .ref lC, .int 0])), (tb, .inl (e2, 366, .inl (fun _ => 0)))]) := hD
  refine lv_iconst (v := 0) hx hb dX4_middle_5 (by decide) ?_
  refine lv_istore_n (lv' := [(2, .int 0), (0, .ref mo), (1, .int a)]) hx hb dX4_middle_6 rfl hl (by decide) rfl (fun ls hl => ?_)
  refine lv_iconst (v := 0) hx hb dX4_middle_7 (by decide) ?_
  refine lv_istore_n (lv' := [(3, .int 0), (2, .int 0), (0, .ref mo), (1, .int a)]) hx hb dX4_middle_8 rfl hl (by decide) rfl (fun ls hl => ?_)
  refine lv_iload_n hx hb dX4_middle_9 rfl (lv_at hl 0 rfl) ?_
  refine lv_aload_n hx hb dX4_middle_10 rfl (lv_at hl 2 rfl) ?_
  refine va_get (D := D) (ci := 4) (v := .int 0) (C := RX4) (T := TX4) (N := 14) hx hb hts (fun _ h9 => List.mem_cons_of_mem _ (List.mem_append_right _ h9)) hown hK hP 0 rfl rfl 7 (by decide) (hts (.fieldLink RX4 59 "PalletStackModel" "came" "I") (List.mem_of_getElem? (i := 2) (by rfl))) (fun _ h9 => h9) rfl dX4_middle_11 ?_
  refine lv_icmp_ge (tgt := 75) hx hb dX4_middle_14 (by decide) (fun c_284 => ?_) (fun c_284 => absurd (Int32.le_refl _) c_284)
  refine lv_aload_n hx hb dX4_middle_75 rfl (lv_at hl 2 rfl) ?_
  refine zrdV (As := []) (rest := []) (wc := [(mo, .inr (4, [.int 0, .int 0, .ref kT, .int 20, .int 60, .int 2000, .int 0, .int 0, .ref tb, .ref ld, .int 0, .ref lK, .ref lC, .int 0])), (tb, .inl (e2, 366, .inl (fun _ => 0)))]) ⟨hx, hb, hml, hown, hts⟩ (c_weights0 l D _ mo kT tb ld lK lC e2) (cwV 0 hts gX4_middle_X4_weights rfl rfl rfl (by decide +kernel) ⟨by rw [hRf]; exact Nat.le_of_ble_eq_true rfl, by rw [hRl]; exact Nat.le_of_ble_eq_true rfl⟩) hK hP hD [0, 1] rfl (by decide) [0] rfl (ci := 4) (q0 := 0) rfl rfl rfl hl.1 rfl (Nat.le_of_ble_eq_true rfl) dX4_middle_76 ⟨by omega, by omega⟩ (fun r_285 hr_285 => ?_)
  refine lv_topi (fun v_286 ev_286 => ?_)
  obtain rfl : v_286 = 0 := ev_286.trans hr_285
  refine lv_if_ne (tgt := 86) hx hb dX4_middle_79 (by decide) (fun c_287 => absurd (rfl) c_287) (fun c_287 => ?_)
  refine lv_dconst0 hx hb dX4_middle_82 ?_
  refine lv_goto (tgt := 96) hx hb dX4_middle_83 (by decide) ?_
  have hP := hP.sub (ws' := [(mo, .inr (4, [.int 0, .int 0, .ref kT, .int 20, .int 60, .int 2000, .int 0, .int 0, .ref tb, .ref ld, .int 0, .ref lK, .ref lC, .int 0]))]) [0] rfl
  have hD := hD.sub (ws' := [(mo, .inr (4, [.int 0, .int 0, .ref kT, .int 20, .int 60, .int 2000, .int 0, .int 0, .ref tb, .ref ld, .int 0, .ref lK, .ref lC, .int 0]))]) [0] (by decide) rfl
  exact W.dret (v := FP.dconst0) hx hb hr (fun t ht hW => ⟨⟨FP.dconst0, (), rfl, rfl, ⟨Nat.zero_le _, by rw [ht]; exact hP, va_K.moved hW.alike (hK.sub (tys' := []) [] rfl), hD⟩⟩, hS.F ht⟩) hS.2.2 dX4_middle_96
set_option maxHeartbeats 4000000 in
set_option maxRecDepth 100000 in
theorem c_Mfilled (l : Launch) (D : zG) (sz : Nat) (mo kT tb ld lK lC : Nat) : Met l yX4_filled wsX4_filled ({ frames := 3, cells := 0, slots := 0, locals := 120 }) (zPc D [] ([(mo, .inr (4, [.int 0, .int 0, .ref kT, .int 20, .int 60, .int 2000, .int 0, .int 0, .ref tb, .ref ld, .int 0, .ref lK, .ref lC, .int 0]))]) sz [.ref mo]) (va_Qd (fun (r : UInt64) (u : Unit) => r = FP.dconst0) (zB D (va_A ([(mo, .inr (4, [.int 0, .int 0, .ref kT, .int 20, .int 60, .int 2000, .int 0, .int 0, .ref tb, .ref ld, .int 0, .ref lK, .ref lC, .int 0]))]) sz) (fun _ => []) 0 (fun _ => [(mo, .inr (4, [.int 0, .int 0, .ref kT, .int 20, .int 60, .int 2000, .int 0, .int 0, .ref tb, .ref ld, .int 0, .ref lK, .ref lC, .int 0]))])) (va_A ([(mo, .inr (4, [.int 0, .int 0, .ref kT, .int 20, .int 60, .int 2000, .int 0, .int 0, .ref tb, .ref ld, .int 0, .ref lK, .ref lC, .int 0]))]) sz)) 0 0 (va_A ([(mo, .inr (4, [.int 0, .int 0, .ref kT, .int 20, .int 60, .int 2000, .int 0, .int 0, .ref tb, .ref ld, .int 0, .ref lK, .ref lC, .int 0]))]) sz) := by
  refine Met.ofW (cc := cX4_filled) (maxL := 3) (ret := (some .double)) (by decide) rfl ?_
  intro p e s m args below meth c s₁ B hml hv
  obtain ⟨rfl, hsz, hP, hK, hD0⟩ := hv
  have hx := B.exec
  have hb := B.bytes
  have hr := B.returns
  have hts := atoms_spec (ws := wsX4_filled) B.pre
  have hown : s.vm.findClass RX4 = some m.cls := findClass_of_methodNamed B.named
  have hlocks := B.notSynchronized
  subst hsz
  have hD := hD0.self (sz := s.heap.size)
  generalize hAe : va_A ([(mo, .inr (4, [.int 0, .int 0, .ref kT, .int 20, .int 60, .int 2000, .int 0, .int 0, .ref tb, .ref ld, .int 0, .ref lK, .ref lC, .int 0]))]) s.heap.size = A at hD ⊢
  have hA : ∀ q : Nat, s.heap.size ≤ q → A q := fun q h => by rw [← hAe]; exact Or.inr h
  have hS : va_S A s.heap s.heap [] := va_S.rf
  have hl := lv_entry ([.ref mo]) (n := 3) (Nat.le_of_ble_eq_true rfl)
  rw [lg_entry_eq]
  generalize (lg_sl ([.ref mo]) ++ List.replicate (3 - (lg_sl ([.ref mo])).length) Slot.unset).toArray = ls at hl ⊢
  have hl : lv_has ls 3 [(0, .ref mo)] := hl
  have hP : va_P D vwCl ([(mo, .inr (4, [.int 0, .int 0, .ref kT, .int 20, .int 60, .int 2000, .int 0, .int 0, .ref tb, .ref ld, .int 0, .ref lK, .ref lC, .int 0]))]) s.heap := hP
  generalize hRe : (headSpec _ _).room = R
  have hRf : R.frames = 3 := by rw [← hRe]; rfl
  have hRc : R.cells = 0 := by rw [← hRe]; rfl
  have hRs : R.slots = 0 := by rw [← hRe]; rfl
  have hRl : R.locals = 120 := by rw [← hRe]; rfl
  clear hRe
  refine lv_aload_n hx hb dX4_filled_0 rfl (lv_at hl 0 rfl) ?_
  refine lv_iconst (v := 0) hx hb dX4_filled_1 (by decide) ?_
  refine va_put (D := D) (ci := 4) (v := .int 0) (ty := .int) (C := RX4) (T := TX4) (N := 14) hx hb hts (fun _ h9 => List.mem_cons_of_mem _ (List.mem_append_right _ h9)) tyX4 tyX4_ok nmX4 hown hK hP hD hS 0 rfl rfl 0 (by decide) (hts (.fieldLink RX4 35 "PalletStackModel" "thrown" "I") (List.mem_of_getElem? (i := 1) (by rfl))) (fun _ h9 => h9) rfl (by decide +kernel) rfl rfl (Nat.le_of_ble_eq_true rfl) dX4_filled_2 (fun H locs hP hD hS => ?_)
  have hP : va_P D vwCl ([(mo, .inr (4, [.int 0, .int 0, .ref kT, .int 20, .int 60, .int 2000, .int 0, .int 0, .ref tb, .ref ld, .int 0, .ref lK, .ref lC, .int 0]))]) H := hP
  have hD : va_D A ([(mo, .inr (4, [.int 0, .int 0, .ref kT, .int 20, .int 60, .int 2000, .int 0, .int 0, .ref tb, .ref ld, .int 0, .ref lK, .ref lC, .int 0]))]) := hD
  refine lv_iconst (v := 0) hx hb dX4_filled_5 (by decide) ?_
  refine lv_istore_n (lv' := [(1, .int 0), (0, .ref mo)]) hx hb dX4_filled_6 rfl hl (by decide) rfl (fun ls hl => ?_)
  refine lv_iconst (v := 0) hx hb dX4_filled_7 (by decide) ?_
  refine lv_istore_n (lv' := [(2, .int 0), (1, .int 0), (0, .ref mo)]) hx hb dX4_filled_8 rfl hl (by decide) rfl (fun ls hl => ?_)
  refine lv_iload_n hx hb dX4_filled_9 rfl (lv_at hl 0 rfl) ?_
  refine lv_aload_n hx hb dX4_filled_10 rfl (lv_at hl 2 rfl) ?_
  refine va_get (D := D) (ci := 4) (v := .int 0) (C := RX4) (T := TX4) (N := 14) hx hb hts (fun _ h9 => List.mem_cons_of_mem _ (List.mem_append_right _ h9)) hown hK hP 0 rfl rfl 7 (by decide) (hts (.fieldLink RX4 59 "PalletStackModel" "came" "I") (List.mem_of_getElem? (i := 2) (by rfl))) (fun _ h9 => h9) rfl dX4_filled_11 ?_
  refine lv_icmp_ge (tgt := 55) hx hb dX4_filled_14 (by decide) (fun c_288 => ?_) (fun c_288 => absurd (Int32.le_refl _) c_288)
  refine lv_iload_n hx hb dX4_filled_55 rfl (lv_at hl 1 rfl) ?_
  refine lv_if_ne (tgt := 63) hx hb dX4_filled_56 (by decide) (fun c_289 => absurd (rfl) c_289) (fun c_289 => ?_)
  refine lv_dconst0 hx hb dX4_filled_59 ?_
  refine lv_goto (tgt := 75) hx hb dX4_filled_60 (by decide) ?_
  have hP := hP.sub (ws' := [(mo, .inr (4, [.int 0, .int 0, .ref kT, .int 20, .int 60, .int 2000, .int 0, .int 0, .ref tb, .ref ld, .int 0, .ref lK, .ref lC, .int 0]))]) [0] rfl
  have hD := hD.sub (ws' := [(mo, .inr (4, [.int 0, .int 0, .ref kT, .int 20, .int 60, .int 2000, .int 0, .int 0, .ref tb, .ref ld, .int 0, .ref lK, .ref lC, .int 0]))]) [0] (by decide) rfl
  exact W.dret (v := FP.dconst0) hx hb hr (fun t ht hW => ⟨⟨FP.dconst0, (), rfl, rfl, ⟨Nat.zero_le _, by rw [ht]; exact hP, va_K.moved hW.alike (hK.sub (tys' := []) [] rfl), hD⟩⟩, hS.F ht⟩) hS.2.2 dX4_filled_75
set_option maxHeartbeats 4000000 in
set_option maxRecDepth 100000 in
theorem c_Mdigest (l : Launch) (D : zG) (sz : Nat) (mo kT tb ld lK lC : Nat) (e2 e3 : ClassId) (l0 : Nat → Int32) : Met l yX4_digest wsX4_digest ({ frames := 3, cells := 0, slots := 0, locals := 120 }) (zPc D [(e2, .int), (e3, .int)] ([(mo, .inr (4, [.int 0, .int 0, .ref kT, .int 20, .int 60, .int 2000, .int 0, .int 0, .ref tb, .ref ld, .int 0, .ref lK, .ref lC, .int 0])), (tb, .inl (e2, 366, .inl (fun _ => 0))), (ld, .inl (e3, 61, .inl (l0)))]) sz [.ref mo]) (va_Ql (fun (r : Int64) (u : Unit) => r = 297658972066909) (zB D (va_A ([(mo, .inr (4, [.int 0, .int 0, .ref kT, .int 20, .int 60, .int 2000, .int 0, .int 0, .ref tb, .ref ld, .int 0, .ref lK, .ref lC, .int 0])), (tb, .inl (e2, 366, .inl (fun _ => 0))), (ld, .inl (e3, 61, .inl (l0)))]) sz) (fun _ => []) 0 (fun _ => [(mo, .inr (4, [.int 0, .int 0, .ref kT, .int 20, .int 60, .int 2000, .int 0, .int 0, .ref tb, .ref ld, .int 0, .ref lK, .ref lC, .int 0]))])) (va_A ([(mo, .inr (4, [.int 0, .int 0, .ref kT, .int 20, .int 60, .int 2000, .int 0, .int 0, .ref tb, .ref ld, .int 0, .ref lK, .ref lC, .int 0])), (tb, .inl (e2, 366, .inl (fun _ => 0))), (ld, .inl (e3, 61, .inl (l0)))]) sz)) 0 0 (va_A ([(mo, .inr (4, [.int 0, .int 0, .ref kT, .int 20, .int 60, .int 2000, .int 0, .int 0, .ref tb, .ref ld, .int 0, .ref lK, .ref lC, .int 0])), (tb, .inl (e2, 366, .inl (fun _ => 0))), (ld, .inl (e3, 61, .inl (l0)))]) sz) := by
  refine Met.ofW (cc := cX4_digest) (maxL := 5) (ret := (some .long)) (by decide) rfl ?_
  intro p e s m args below meth c s₁ B hml hv
  obtain ⟨rfl, hsz, hP, hK, hD0⟩ := hv
  have hx := B.exec
  have hb := B.bytes
  have hr := B.returns
  have hts := atoms_spec (ws := wsX4_digest) B.pre
  have hown : s.vm.findClass RX4 = some m.cls := findClass_of_methodNamed B.named
  have hlocks := B.notSynchronized
  subst hsz
  have hD := hD0.self (sz := s.heap.size)
  generalize hAe : va_A ([(mo, .inr (4, [.int 0, .int 0, .ref kT, .int 20, .int 60, .int 2000, .int 0, .int 0, .ref tb, .ref ld, .int 0, .ref lK, .ref lC, .int 0])), (tb, .inl (e2, 366, .inl (fun _ => 0))), (ld, .inl (e3, 61, .inl (l0)))]) s.heap.size = A at hD ⊢
  have hA : ∀ q : Nat, s.heap.size ≤ q → A q := fun q h => by rw [← hAe]; exact Or.inr h
  have hS : va_S A s.heap s.heap [] := va_S.rf
  have hl := lv_entry ([.ref mo]) (n := 5) (Nat.le_of_ble_eq_true rfl)
  rw [lg_entry_eq]
  generalize (lg_sl ([.ref mo]) ++ List.replicate (5 - (lg_sl ([.ref mo])).length) Slot.unset).toArray = ls at hl ⊢
  have hl : lv_has ls 5 [(0, .ref mo)] := hl
  have hP : va_P D vwCl ([(mo, .inr (4, [.int 0, .int 0, .ref kT, .int 20, .int 60, .int 2000, .int 0, .int 0, .ref tb, .ref ld, .int 0, .ref lK, .ref lC, .int 0])), (tb, .inl (e2, 366, .inl (fun _ => 0))), (ld, .inl (e3, 61, .inl (l0)))]) s.heap := hP
  generalize hRe : (headSpec _ _).room = R
  have hRf : R.frames = 3 := by rw [← hRe]; rfl
  have hRc : R.cells = 0 := by rw [← hRe]; rfl
  have hRs : R.slots = 0 := by rw [← hRe]; rfl
  have hRl : R.locals = 120 := by rw [← hRe]; rfl
  clear hRe
  refine lv_aload_n hx hb dX4_digest_0 rfl (lv_at hl 0 rfl) ?_
  refine lv_iconst (v := 0) hx hb dX4_digest_1 (by decide) ?_
  refine va_put (D := D) (ci := 4) (v := .int 0) (ty := .int) (C := RX4) (T := TX4) (N := 14) hx hb hts (fun _ h9 => List.mem_cons_of_mem _ (List.mem_append_right _ h9)) tyX4 tyX4_ok nmX4 hown hK hP hD hS 0 rfl rfl 0 (by decide) (hts (.fieldLink RX4 35 "PalletStackModel" "thrown" "I") (List.mem_of_getElem? (i := 1) (by rfl))) (fun _ h9 => h9) rfl (by decide +kernel) rfl rfl (Nat.le_of_ble_eq_true rfl) dX4_digest_2 (fun H locs hP hD hS => ?_)
  have hP : va_P D vwCl ([(mo, .inr (4, [.int 0, .int 0, .ref kT, .int 20, .int 60, .int 2000, .int 0, .int 0, .ref tb, .ref ld, .int 0, .ref lK, .ref lC, .int 0])), (tb, .inl (e2, 366, .inl (fun _ => 0))), (ld, .inl (e3, 61, .inl (l0)))]) H := hP
  have hD : va_D A ([(mo, .inr (4, [.int 0, .int 0, .ref kT, .int 20, .int 60, .int 2000, .int 0, .int 0, .ref tb, .ref ld, .int 0, .ref lK, .ref lC, .int 0])), (tb, .inl (e2, 366, .inl (fun _ => 0))), (ld, .inl (e3, 61, .inl (l0)))]) := hD
  refine lv_ldc2 (v := (349 : Int64)) hx hb hown (hts (.constantLong RX4 193 (349)) (List.mem_of_getElem? (i := 2) (by rfl))) dX4_digest_5 ?_
  refine lv_lstore_n (lv' := [(1, .long (349 : Int64)), (0, .ref mo)]) hx hb dX4_digest_8 rfl hl (by decide) rfl (fun ls hl => ?_)
  refine lv_iconst (v := 0) hx hb dX4_digest_9 (by decide) ?_
  refine lv_istore_n (lv' := [(3, .int 0), (1, .long (349 : Int64)), (0, .ref mo)]) hx hb dX4_digest_10 rfl hl (by decide) rfl (fun ls hl => ?_)
  refine lv_iload_n hx hb dX4_digest_11 rfl (lv_at hl 0 rfl) ?_
  refine lv_iconst (v := 4) hx hb dX4_digest_12 (by decide) ?_
  refine lv_icmp_ge (tgt := 35) hx hb dX4_digest_13 (by decide) (fun c_290 => absurd c_290 (by decide)) (fun c_290 => ?_)
  refine lv_lload_n hx hb dX4_digest_16 rfl (lv_at hl 1 rfl) ?_
  refine lv_ldc2 (v := (31 : Int64)) hx hb hown (hts (.constantLong RX4 195 (31)) (List.mem_of_getElem? (i := 3) (by rfl))) dX4_digest_17 ?_
  refine lv_lmul hx hb dX4_digest_20 ?_
  refine lv_topl (fun v_291 ev_291 => ?_)
  obtain rfl : v_291 = (10819 : Int64) := ev_291.trans (by decide)
  refine lv_aload_n hx hb dX4_digest_21 rfl (lv_at hl 2 rfl) ?_
  refine lv_iload_n hx hb dX4_digest_22 rfl (lv_at hl 0 rfl) ?_
  refine zrdV (As := [.int 0]) (rest := [.long (10819 : Int64)]) (wc := [(mo, .inr (4, [.int 0, .int 0, .ref kT, .int 20, .int 60, .int 2000, .int 0, .int 0, .ref tb, .ref ld, .int 0, .ref lK, .ref lC, .int 0]))]) ⟨hx, hb, hml, hown, hts⟩ (c_counted0_0 l D _ mo kT tb ld lK lC) (cwV 1 hts gX4_digest_X4_counted rfl rfl rfl (by decide +kernel) ⟨by rw [hRf]; exact Nat.le_of_ble_eq_true rfl, by rw [hRl]; exact Nat.le_of_ble_eq_true rfl⟩) hK hP hD [0] rfl (by decide) [] rfl (ci := 4) (q0 := 0) rfl rfl rfl hl.1 rfl (Nat.le_of_ble_eq_true rfl) dX4_digest_23 ⟨by omega, by omega⟩ (fun r_292 hr_292 => ?_)
  refine lv_topi (fun v_293 ev_293 => ?_)
  obtain rfl : v_293 = 0 := ev_293.trans hr_292
  refine lv_i2l (v := (0 : Int64)) hx hb dX4_digest_26 (by decide) ?_
  refine lv_ladd hx hb dX4_digest_27 ?_
  refine lv_topl (fun v_294 ev_294 => ?_)
  obtain rfl : v_294 = (10819 : Int64) := ev_294.trans (by decide)
  refine lv_lstore_n (lv' := [(1, .long (10819 : Int64)), (3, .int 0), (0, .ref mo)]) hx hb dX4_digest_28 rfl hl (by decide) rfl (fun ls hl => ?_)
  refine lv_iinc (v := 1) (lv' := [(3, .int 1), (1, .long (10819 : Int64)), (0, .ref mo)]) hx hb dX4_digest_29 hl (k := 1) rfl ((by decide)) (by decide) rfl (fun ls hl => ?_)
  refine lv_goto (tgt := 11) hx hb dX4_digest_32 (by decide) ?_
  refine lv_iload_n hx hb dX4_digest_11 rfl (lv_at hl 0 rfl) ?_
  refine lv_iconst (v := 4) hx hb dX4_digest_12 (by decide) ?_
  refine lv_icmp_ge (tgt := 35) hx hb dX4_digest_13 (by decide) (fun c_295 => absurd c_295 (by decide)) (fun c_295 => ?_)
  refine lv_lload_n hx hb dX4_digest_16 rfl (lv_at hl 1 rfl) ?_
  refine lv_ldc2 (v := (31 : Int64)) hx hb hown (hts (.constantLong RX4 195 (31)) (List.mem_of_getElem? (i := 3) (by rfl))) dX4_digest_17 ?_
  refine lv_lmul hx hb dX4_digest_20 ?_
  refine lv_topl (fun v_296 ev_296 => ?_)
  obtain rfl : v_296 = (335389 : Int64) := ev_296.trans (by decide)
  refine lv_aload_n hx hb dX4_digest_21 rfl (lv_at hl 2 rfl) ?_
  refine lv_iload_n hx hb dX4_digest_22 rfl (lv_at hl 0 rfl) ?_
  refine zrdV (As := [.int 1]) (rest := [.long (335389 : Int64)]) (wc := [(mo, .inr (4, [.int 0, .int 0, .ref kT, .int 20, .int 60, .int 2000, .int 0, .int 0, .ref tb, .ref ld, .int 0, .ref lK, .ref lC, .int 0]))]) ⟨hx, hb, hml, hown, hts⟩ (c_counted0_1 l D _ mo kT tb ld lK lC) (cwV 1 hts gX4_digest_X4_counted rfl rfl rfl (by decide +kernel) ⟨by rw [hRf]; exact Nat.le_of_ble_eq_true rfl, by rw [hRl]; exact Nat.le_of_ble_eq_true rfl⟩) hK hP hD [0] rfl (by decide) [] rfl (ci := 4) (q0 := 0) rfl rfl rfl hl.1 rfl (Nat.le_of_ble_eq_true rfl) dX4_digest_23 ⟨by omega, by omega⟩ (fun r_297 hr_297 => ?_)
  refine lv_topi (fun v_298 ev_298 => ?_)
  obtain rfl : v_298 = 0 := ev_298.trans hr_297
  refine lv_i2l (v := (0 : Int64)) hx hb dX4_digest_26 (by decide) ?_
  refine lv_ladd hx hb dX4_digest_27 ?_
  refine lv_topl (fun v_299 ev_299 => ?_)
  obtain rfl : v_299 = (335389 : Int64) := ev_299.trans (by decide)
  refine lv_lstore_n (lv' := [(1, .long (335389 : Int64)), (3, .int 1), (0, .ref mo)]) hx hb dX4_digest_28 rfl hl (by decide) rfl (fun ls hl => ?_)
  refine lv_iinc (v := 2) (lv' := [(3, .int 2), (1, .long (335389 : Int64)), (0, .ref mo)]) hx hb dX4_digest_29 hl (k := 1) rfl ((by decide)) (by decide) rfl (fun ls hl => ?_)
  refine lv_goto (tgt := 11) hx hb dX4_digest_32 (by decide) ?_
  refine lv_iload_n hx hb dX4_digest_11 rfl (lv_at hl 0 rfl) ?_
  refine lv_iconst (v := 4) hx hb dX4_digest_12 (by decide) ?_
  refine lv_icmp_ge (tgt := 35) hx hb dX4_digest_13 (by decide) (fun c_300 => absurd c_300 (by decide)) (fun c_300 => ?_)
  refine lv_lload_n hx hb dX4_digest_16 rfl (lv_at hl 1 rfl) ?_
  refine lv_ldc2 (v := (31 : Int64)) hx hb hown (hts (.constantLong RX4 195 (31)) (List.mem_of_getElem? (i := 3) (by rfl))) dX4_digest_17 ?_
  refine lv_lmul hx hb dX4_digest_20 ?_
  refine lv_topl (fun v_301 ev_301 => ?_)
  obtain rfl : v_301 = (10397059 : Int64) := ev_301.trans (by decide)
  refine lv_aload_n hx hb dX4_digest_21 rfl (lv_at hl 2 rfl) ?_
  refine lv_iload_n hx hb dX4_digest_22 rfl (lv_at hl 0 rfl) ?_
  refine zrdV (As := [.int 2]) (rest := [.long (10397059 : Int64)]) (wc := [(mo, .inr (4, [.int 0, .int 0, .ref kT, .int 20, .int 60, .int 2000, .int 0, .int 0, .ref tb, .ref ld, .int 0, .ref lK, .ref lC, .int 0]))]) ⟨hx, hb, hml, hown, hts⟩ (c_counted0_2 l D _ mo kT tb ld lK lC) (cwV 1 hts gX4_digest_X4_counted rfl rfl rfl (by decide +kernel) ⟨by rw [hRf]; exact Nat.le_of_ble_eq_true rfl, by rw [hRl]; exact Nat.le_of_ble_eq_true rfl⟩) hK hP hD [0] rfl (by decide) [] rfl (ci := 4) (q0 := 0) rfl rfl rfl hl.1 rfl (Nat.le_of_ble_eq_true rfl) dX4_digest_23 ⟨by omega, by omega⟩ (fun r_302 hr_302 => ?_)
  refine lv_topi (fun v_303 ev_303 => ?_)
  obtain rfl : v_303 = 0 := ev_303.trans hr_302
  refine lv_i2l (v := (0 : Int64)) hx hb dX4_digest_26 (by decide) ?_
  refine lv_ladd hx hb dX4_digest_27 ?_
  refine lv_topl (fun v_304 ev_304 => ?_)
  obtain rfl : v_304 = (10397059 : Int64) := ev_304.trans (by decide)
  refine lv_lstore_n (lv' := [(1, .long (10397059 : Int64)), (3, .int 2), (0, .ref mo)]) hx hb dX4_digest_28 rfl hl (by decide) rfl (fun ls hl => ?_)
  refine lv_iinc (v := 3) (lv' := [(3, .int 3), (1, .long (10397059 : Int64)), (0, .ref mo)]) hx hb dX4_digest_29 hl (k := 1) rfl ((by decide)) (by decide) rfl (fun ls hl => ?_)
  refine lv_goto (tgt := 11) hx hb dX4_digest_32 (by decide) ?_
  refine lv_iload_n hx hb dX4_digest_11 rfl (lv_at hl 0 rfl) ?_
  refine lv_iconst (v := 4) hx hb dX4_digest_12 (by decide) ?_
  refine lv_icmp_ge (tgt := 35) hx hb dX4_digest_13 (by decide) (fun c_305 => absurd c_305 (by decide)) (fun c_305 => ?_)
  refine lv_lload_n hx hb dX4_digest_16 rfl (lv_at hl 1 rfl) ?_
  refine lv_ldc2 (v := (31 : Int64)) hx hb hown (hts (.constantLong RX4 195 (31)) (List.mem_of_getElem? (i := 3) (by rfl))) dX4_digest_17 ?_
  refine lv_lmul hx hb dX4_digest_20 ?_
  refine lv_topl (fun v_306 ev_306 => ?_)
  obtain rfl : v_306 = (322308829 : Int64) := ev_306.trans (by decide)
  refine lv_aload_n hx hb dX4_digest_21 rfl (lv_at hl 2 rfl) ?_
  refine lv_iload_n hx hb dX4_digest_22 rfl (lv_at hl 0 rfl) ?_
  refine zrdV (As := [.int 3]) (rest := [.long (322308829 : Int64)]) (wc := [(mo, .inr (4, [.int 0, .int 0, .ref kT, .int 20, .int 60, .int 2000, .int 0, .int 0, .ref tb, .ref ld, .int 0, .ref lK, .ref lC, .int 0]))]) ⟨hx, hb, hml, hown, hts⟩ (c_counted0_3 l D _ mo kT tb ld lK lC) (cwV 1 hts gX4_digest_X4_counted rfl rfl rfl (by decide +kernel) ⟨by rw [hRf]; exact Nat.le_of_ble_eq_true rfl, by rw [hRl]; exact Nat.le_of_ble_eq_true rfl⟩) hK hP hD [0] rfl (by decide) [] rfl (ci := 4) (q0 := 0) rfl rfl rfl hl.1 rfl (Nat.le_of_ble_eq_true rfl) dX4_digest_23 ⟨by omega, by omega⟩ (fun r_307 hr_307 => ?_)
  refine lv_topi (fun v_308 ev_308 => ?_)
  obtain rfl : v_308 = 0 := ev_308.trans hr_307
  refine lv_i2l (v := (0 : Int64)) hx hb dX4_digest_26 (by decide) ?_
  refine lv_ladd hx hb dX4_digest_27 ?_
  refine lv_topl (fun v_309 ev_309 => ?_)
  obtain rfl : v_309 = (322308829 : Int64) := ev_309.trans (by decide)
  refine lv_lstore_n (lv' := [(1, .long (322308829 : Int64)), (3, .int 3), (0, .ref mo)]) hx hb dX4_digest_28 rfl hl (by decide) rfl (fun ls hl => ?_)
  refine lv_iinc (v := 4) (lv' := [(3, .int 4), (1, .long (322308829 : Int64)), (0, .ref mo)]) hx hb dX4_digest_29 hl (k := 1) rfl ((by decide)) (by decide) rfl (fun ls hl => ?_)
  refine lv_goto (tgt := 11) hx hb dX4_digest_32 (by decide) ?_
  refine lv_iload_n hx hb dX4_digest_11 rfl (lv_at hl 0 rfl) ?_
  refine lv_iconst (v := 4) hx hb dX4_digest_12 (by decide) ?_
  refine lv_icmp_ge (tgt := 35) hx hb dX4_digest_13 (by decide) (fun c_310 => ?_) (fun c_310 => absurd (by decide) c_310)
  refine lv_aload_n hx hb dX4_digest_35 rfl (lv_at hl 2 rfl) ?_
  refine zcallvV (As := []) (rest := []) (wc := [(mo, .inr (4, [.int 0, .int 0, .ref kT, .int 20, .int 60, .int 2000, .int 0, .int 0, .ref tb, .ref ld, .int 0, .ref lK, .ref lC, .int 0])), (tb, .inl (e2, 366, .inl (fun _ => 0))), (ld, .inl (e3, 61, .inl (l0)))]) (wr := []) ⟨hx, hb, hml, hown, hts⟩ (c_reckon0 l D _ mo kT tb ld lK lC e2 e3 l0) (cwV 0 hts gX4_digest_X4_reckonLoads rfl rfl rfl (by decide +kernel) ⟨by rw [hRf]; exact Nat.le_of_ble_eq_true rfl, by rw [hRl]; exact Nat.le_of_ble_eq_true rfl⟩) hK hP hD hS hA [0, 1, 2] [] rfl (by decide) rfl (by decide) (by decide) [0, 1] rfl (ci := 4) (q0 := 0) rfl rfl rfl hl.1 rfl (Nat.le_of_ble_eq_true rfl) dX4_digest_36 ⟨by omega, by omega⟩ (fun u_312 H locs hwu_312 hnu_312 hzu_312 hK hP hD hS => ?_)
  have hK : va_K D vwCl [(e2, .int), (e3, .int)] s := hK
  have hP : va_P D vwCl ([(mo, .inr (4, [.int 0, .int 0, .ref kT, .int 20, .int 60, .int 2000, .int 0, .int 0, .ref tb, .ref ld, .int 0, .ref lK, .ref lC, .int 0])), (tb, .inl (e2, 366, .inl (fun _ => 0))), (ld, .inl (e3, 61, .inl (u_312)))]) H := hP
  have hD : va_D A ([(mo, .inr (4, [.int 0, .int 0, .ref kT, .int 20, .int 60, .int 2000, .int 0, .int 0, .ref tb, .ref ld, .int 0, .ref lK, .ref lC, .int 0])), (tb, .inl (e2, 366, .inl (fun _ => 0))), (ld, .inl (e3, 61, .inl (u_312)))]) := hD
  refine lv_iconst (v := 0) hx hb dX4_digest_39 (by decide) ?_
  refine lv_istore_n (lv' := [(3, .int 0), (1, .long (322308829 : Int64)), (0, .ref mo)]) hx hb dX4_digest_40 rfl hl (by decide) rfl (fun ls hl => ?_)
  refine lv_iload_n hx hb dX4_digest_41 rfl (lv_at hl 0 rfl) ?_
  refine lv_aload_n hx hb dX4_digest_42 rfl (lv_at hl 2 rfl) ?_
  refine va_get (D := D) (ci := 4) (v := .int 0) (C := RX4) (T := TX4) (N := 14) hx hb hts (fun _ h9 => List.mem_cons_of_mem _ (List.mem_append_right _ h9)) hown hK hP 0 rfl rfl 7 (by decide) (hts (.fieldLink RX4 59 "PalletStackModel" "came" "I") (List.mem_of_getElem? (i := 4) (by rfl))) (fun _ h9 => h9) rfl dX4_digest_43 ?_
  refine lv_icmp_ge (tgt := 106) hx hb dX4_digest_46 (by decide) (fun c_313 => ?_) (fun c_313 => absurd (Int32.le_refl _) c_313)
  refine lv_iconst (v := 0) hx hb dX4_digest_106 (by decide) ?_
  refine lv_istore_n (lv' := [(3, .int 0), (1, .long (322308829 : Int64)), (0, .ref mo)]) hx hb dX4_digest_107 rfl hl (by decide) rfl (fun ls hl => ?_)
  refine lv_iload_n hx hb dX4_digest_108 rfl (lv_at hl 0 rfl) ?_
  refine lv_aload_n hx hb dX4_digest_109 rfl (lv_at hl 2 rfl) ?_
  refine va_get (D := D) (ci := 4) (v := .int 0) (C := RX4) (T := TX4) (N := 14) hx hb hts (fun _ h9 => List.mem_cons_of_mem _ (List.mem_append_right _ h9)) hown hK hP 0 rfl rfl 10 (by decide) (hts (.fieldLink RX4 70 "PalletStackModel" "lines" "I") (List.mem_of_getElem? (i := 5) (by rfl))) (fun _ h9 => h9) rfl dX4_digest_110 ?_
  refine lv_icmp_ge (tgt := 148) hx hb dX4_digest_113 (by decide) (fun c_314 => ?_) (fun c_314 => absurd (Int32.le_refl _) c_314)
  refine lv_iconst (v := 0) hx hb dX4_digest_148 (by decide) ?_
  refine lv_istore_n (lv' := [(3, .int 0), (1, .long (322308829 : Int64)), (0, .ref mo)]) hx hb dX4_digest_149 rfl hl (by decide) rfl (fun ls hl => ?_)
  refine lv_iload_n hx hb dX4_digest_150 rfl (lv_at hl 0 rfl) ?_
  refine lv_iconst (v := 4) hx hb dX4_digest_151 (by decide) ?_
  refine lv_icmp_ge (tgt := 174) hx hb dX4_digest_152 (by decide) (fun c_315 => absurd c_315 (by decide)) (fun c_315 => ?_)
  refine lv_lload_n hx hb dX4_digest_155 rfl (lv_at hl 1 rfl) ?_
  refine lv_ldc2 (v := (31 : Int64)) hx hb hown (hts (.constantLong RX4 195 (31)) (List.mem_of_getElem? (i := 3) (by rfl))) dX4_digest_156 ?_
  refine lv_lmul hx hb dX4_digest_159 ?_
  refine lv_topl (fun v_316 ev_316 => ?_)
  obtain rfl : v_316 = (9991573699 : Int64) := ev_316.trans (by decide)
  refine lv_aload_n hx hb dX4_digest_160 rfl (lv_at hl 2 rfl) ?_
  refine lv_iload_n hx hb dX4_digest_161 rfl (lv_at hl 0 rfl) ?_
  refine zcalliV (As := [.int 0]) (rest := [.long (9991573699 : Int64)]) (wc := [(mo, .inr (4, [.int 0, .int 0, .ref kT, .int 20, .int 60, .int 2000, .int 0, .int 0, .ref tb, .ref ld, .int 0, .ref lK, .ref lC, .int 0])), (tb, .inl (e2, 366, .inl (fun _ => 0))), (ld, .inl (e3, 61, .inl (u_312)))]) (wr := []) ⟨hx, hb, hml, hown, hts⟩ (c_sumOfM_0 l D _ mo kT tb ld lK lC e2 e3 u_312) (cwV 1 hts gX4_digest_X4_sumOf rfl rfl rfl (by decide +kernel) ⟨by rw [hRf]; exact Nat.le_of_ble_eq_true rfl, by rw [hRl]; exact Nat.le_of_ble_eq_true rfl⟩) hK hP hD hS hA [0, 1, 2] [] rfl (by decide) rfl (by decide) (by decide) [0, 1] rfl (ci := 4) (q0 := 0) rfl rfl rfl hl.1 rfl (Nat.le_of_ble_eq_true rfl) dX4_digest_162 ⟨by omega, by omega⟩ (fun r_317 u_318 H locs hwu_318 hnu_318 hzu_318 hK hP hD hS => ?_)
  have hK : va_K D vwCl [(e2, .int), (e3, .int)] s := hK
  have hP : va_P D vwCl ([(mo, .inr (4, [.int 0, .int 0, .ref kT, .int 20, .int 60, .int 2000, .int 0, .int 0, .ref tb, .ref ld, .int 0, .ref lK, .ref lC, .int 0])), (tb, .inl (e2, 366, .inl (fun _ => 0))), (ld, .inl (e3, 61, .inl (u_318)))]) H := hP
  have hD : va_D A ([(mo, .inr (4, [.int 0, .int 0, .ref kT, .int 20, .int 60, .int 2000, .int 0, .int 0, .ref tb, .ref ld, .int 0, .ref lK, .ref lC, .int 0])), (tb, .inl (e2, 366, .inl (fun _ => 0))), (ld, .inl (e3, 61, .inl (u_318)))]) := hD
  refine lv_topi (fun v_319 ev_319 => ?_)
  obtain rfl : v_319 = 0 := ev_319.trans hwu_318
  refine lv_i2l (v := (0 : Int64)) hx hb dX4_digest_165 (by decide) ?_
  refine lv_ladd hx hb dX4_digest_166 ?_
  refine lv_topl (fun v_320 ev_320 => ?_)
  obtain rfl : v_320 = (9991573699 : Int64) := ev_320.trans (by decide)
  refine lv_lstore_n (lv' := [(1, .long (9991573699 : Int64)), (3, .int 0), (0, .ref mo)]) hx hb dX4_digest_167 rfl hl (by decide) rfl (fun ls hl => ?_)
  refine lv_iinc (v := 1) (lv' := [(3, .int 1), (1, .long (9991573699 : Int64)), (0, .ref mo)]) hx hb dX4_digest_168 hl (k := 1) rfl ((by decide)) (by decide) rfl (fun ls hl => ?_)
  refine lv_goto (tgt := 150) hx hb dX4_digest_171 (by decide) ?_
  refine lv_iload_n hx hb dX4_digest_150 rfl (lv_at hl 0 rfl) ?_
  refine lv_iconst (v := 4) hx hb dX4_digest_151 (by decide) ?_
  refine lv_icmp_ge (tgt := 174) hx hb dX4_digest_152 (by decide) (fun c_321 => absurd c_321 (by decide)) (fun c_321 => ?_)
  refine lv_lload_n hx hb dX4_digest_155 rfl (lv_at hl 1 rfl) ?_
  refine lv_ldc2 (v := (31 : Int64)) hx hb hown (hts (.constantLong RX4 195 (31)) (List.mem_of_getElem? (i := 3) (by rfl))) dX4_digest_156 ?_
  refine lv_lmul hx hb dX4_digest_159 ?_
  refine lv_topl (fun v_322 ev_322 => ?_)
  obtain rfl : v_322 = (309738784669 : Int64) := ev_322.trans (by decide)
  refine lv_aload_n hx hb dX4_digest_160 rfl (lv_at hl 2 rfl) ?_
  refine lv_iload_n hx hb dX4_digest_161 rfl (lv_at hl 0 rfl) ?_
  refine zcalliV (As := [.int 1]) (rest := [.long (309738784669 : Int64)]) (wc := [(mo, .inr (4, [.int 0, .int 0, .ref kT, .int 20, .int 60, .int 2000, .int 0, .int 0, .ref tb, .ref ld, .int 0, .ref lK, .ref lC, .int 0])), (tb, .inl (e2, 366, .inl (fun _ => 0))), (ld, .inl (e3, 61, .inl (u_318)))]) (wr := []) ⟨hx, hb, hml, hown, hts⟩ (c_sumOfM_1 l D _ mo kT tb ld lK lC e2 e3 u_318) (cwV 1 hts gX4_digest_X4_sumOf rfl rfl rfl (by decide +kernel) ⟨by rw [hRf]; exact Nat.le_of_ble_eq_true rfl, by rw [hRl]; exact Nat.le_of_ble_eq_true rfl⟩) hK hP hD hS hA [0, 1, 2] [] rfl (by decide) rfl (by decide) (by decide) [0, 1] rfl (ci := 4) (q0 := 0) rfl rfl rfl hl.1 rfl (Nat.le_of_ble_eq_true rfl) dX4_digest_162 ⟨by omega, by omega⟩ (fun r_323 u_324 H locs hwu_324 hnu_324 hzu_324 hK hP hD hS => ?_)
  have hK : va_K D vwCl [(e2, .int), (e3, .int)] s := hK
  have hP : va_P D vwCl ([(mo, .inr (4, [.int 0, .int 0, .ref kT, .int 20, .int 60, .int 2000, .int 0, .int 0, .ref tb, .ref ld, .int 0, .ref lK, .ref lC, .int 0])), (tb, .inl (e2, 366, .inl (fun _ => 0))), (ld, .inl (e3, 61, .inl (u_324)))]) H := hP
  have hD : va_D A ([(mo, .inr (4, [.int 0, .int 0, .ref kT, .int 20, .int 60, .int 2000, .int 0, .int 0, .ref tb, .ref ld, .int 0, .ref lK, .ref lC, .int 0])), (tb, .inl (e2, 366, .inl (fun _ => 0))), (ld, .inl (e3, 61, .inl (u_324)))]) := hD
  refine lv_topi (fun v_325 ev_325 => ?_)
  obtain rfl : v_325 = 0 := ev_325.trans hwu_324
  refine lv_i2l (v := (0 : Int64)) hx hb dX4_digest_165 (by decide) ?_
  refine lv_ladd hx hb dX4_digest_166 ?_
  refine lv_topl (fun v_326 ev_326 => ?_)
  obtain rfl : v_326 = (309738784669 : Int64) := ev_326.trans (by decide)
  refine lv_lstore_n (lv' := [(1, .long (309738784669 : Int64)), (3, .int 1), (0, .ref mo)]) hx hb dX4_digest_167 rfl hl (by decide) rfl (fun ls hl => ?_)
  refine lv_iinc (v := 2) (lv' := [(3, .int 2), (1, .long (309738784669 : Int64)), (0, .ref mo)]) hx hb dX4_digest_168 hl (k := 1) rfl ((by decide)) (by decide) rfl (fun ls hl => ?_)
  refine lv_goto (tgt := 150) hx hb dX4_digest_171 (by decide) ?_
  refine lv_iload_n hx hb dX4_digest_150 rfl (lv_at hl 0 rfl) ?_
  refine lv_iconst (v := 4) hx hb dX4_digest_151 (by decide) ?_
  refine lv_icmp_ge (tgt := 174) hx hb dX4_digest_152 (by decide) (fun c_327 => absurd c_327 (by decide)) (fun c_327 => ?_)
  refine lv_lload_n hx hb dX4_digest_155 rfl (lv_at hl 1 rfl) ?_
  refine lv_ldc2 (v := (31 : Int64)) hx hb hown (hts (.constantLong RX4 195 (31)) (List.mem_of_getElem? (i := 3) (by rfl))) dX4_digest_156 ?_
  refine lv_lmul hx hb dX4_digest_159 ?_
  refine lv_topl (fun v_328 ev_328 => ?_)
  obtain rfl : v_328 = (9601902324739 : Int64) := ev_328.trans (by decide)
  refine lv_aload_n hx hb dX4_digest_160 rfl (lv_at hl 2 rfl) ?_
  refine lv_iload_n hx hb dX4_digest_161 rfl (lv_at hl 0 rfl) ?_
  refine zcalliV (As := [.int 2]) (rest := [.long (9601902324739 : Int64)]) (wc := [(mo, .inr (4, [.int 0, .int 0, .ref kT, .int 20, .int 60, .int 2000, .int 0, .int 0, .ref tb, .ref ld, .int 0, .ref lK, .ref lC, .int 0])), (tb, .inl (e2, 366, .inl (fun _ => 0))), (ld, .inl (e3, 61, .inl (u_324)))]) (wr := []) ⟨hx, hb, hml, hown, hts⟩ (c_sumOfM_2 l D _ mo kT tb ld lK lC e2 e3 u_324) (cwV 1 hts gX4_digest_X4_sumOf rfl rfl rfl (by decide +kernel) ⟨by rw [hRf]; exact Nat.le_of_ble_eq_true rfl, by rw [hRl]; exact Nat.le_of_ble_eq_true rfl⟩) hK hP hD hS hA [0, 1, 2] [] rfl (by decide) rfl (by decide) (by decide) [0, 1] rfl (ci := 4) (q0 := 0) rfl rfl rfl hl.1 rfl (Nat.le_of_ble_eq_true rfl) dX4_digest_162 ⟨by omega, by omega⟩ (fun r_329 u_330 H locs hwu_330 hnu_330 hzu_330 hK hP hD hS => ?_)
  have hK : va_K D vwCl [(e2, .int), (e3, .int)] s := hK
  have hP : va_P D vwCl ([(mo, .inr (4, [.int 0, .int 0, .ref kT, .int 20, .int 60, .int 2000, .int 0, .int 0, .ref tb, .ref ld, .int 0, .ref lK, .ref lC, .int 0])), (tb, .inl (e2, 366, .inl (fun _ => 0))), (ld, .inl (e3, 61, .inl (u_330)))]) H := hP
  have hD : va_D A ([(mo, .inr (4, [.int 0, .int 0, .ref kT, .int 20, .int 60, .int 2000, .int 0, .int 0, .ref tb, .ref ld, .int 0, .ref lK, .ref lC, .int 0])), (tb, .inl (e2, 366, .inl (fun _ => 0))), (ld, .inl (e3, 61, .inl (u_330)))]) := hD
  refine lv_topi (fun v_331 ev_331 => ?_)
  obtain rfl : v_331 = 0 := ev_331.trans hwu_330
  refine lv_i2l (v := (0 : Int64)) hx hb dX4_digest_165 (by decide) ?_
  refine lv_ladd hx hb dX4_digest_166 ?_
  refine lv_topl (fun v_332 ev_332 => ?_)
  obtain rfl : v_332 = (9601902324739 : Int64) := ev_332.trans (by decide)
  refine lv_lstore_n (lv' := [(1, .long (9601902324739 : Int64)), (3, .int 2), (0, .ref mo)]) hx hb dX4_digest_167 rfl hl (by decide) rfl (fun ls hl => ?_)
  refine lv_iinc (v := 3) (lv' := [(3, .int 3), (1, .long (9601902324739 : Int64)), (0, .ref mo)]) hx hb dX4_digest_168 hl (k := 1) rfl ((by decide)) (by decide) rfl (fun ls hl => ?_)
  refine lv_goto (tgt := 150) hx hb dX4_digest_171 (by decide) ?_
  refine lv_iload_n hx hb dX4_digest_150 rfl (lv_at hl 0 rfl) ?_
  refine lv_iconst (v := 4) hx hb dX4_digest_151 (by decide) ?_
  refine lv_icmp_ge (tgt := 174) hx hb dX4_digest_152 (by decide) (fun c_333 => absurd c_333 (by decide)) (fun c_333 => ?_)
  refine lv_lload_n hx hb dX4_digest_155 rfl (lv_at hl 1 rfl) ?_
  refine lv_ldc2 (v := (31 : Int64)) hx hb hown (hts (.constantLong RX4 195 (31)) (List.mem_of_getElem? (i := 3) (by rfl))) dX4_digest_156 ?_
  refine lv_lmul hx hb dX4_digest_159 ?_
  refine lv_topl (fun v_334 ev_334 => ?_)
  obtain rfl : v_334 = (297658972066909 : Int64) := ev_334.trans (by decide)
  refine lv_aload_n hx hb dX4_digest_160 rfl (lv_at hl 2 rfl) ?_
  refine lv_iload_n hx hb dX4_digest_161 rfl (lv_at hl 0 rfl) ?_
  refine zcalliV (As := [.int 3]) (rest := [.long (297658972066909 : Int64)]) (wc := [(mo, .inr (4, [.int 0, .int 0, .ref kT, .int 20, .int 60, .int 2000, .int 0, .int 0, .ref tb, .ref ld, .int 0, .ref lK, .ref lC, .int 0])), (tb, .inl (e2, 366, .inl (fun _ => 0))), (ld, .inl (e3, 61, .inl (u_330)))]) (wr := []) ⟨hx, hb, hml, hown, hts⟩ (c_sumOfM_3 l D _ mo kT tb ld lK lC e2 e3 u_330) (cwV 1 hts gX4_digest_X4_sumOf rfl rfl rfl (by decide +kernel) ⟨by rw [hRf]; exact Nat.le_of_ble_eq_true rfl, by rw [hRl]; exact Nat.le_of_ble_eq_true rfl⟩) hK hP hD hS hA [0, 1, 2] [] rfl (by decide) rfl (by decide) (by decide) [0, 1] rfl (ci := 4) (q0 := 0) rfl rfl rfl hl.1 rfl (Nat.le_of_ble_eq_true rfl) dX4_digest_162 ⟨by omega, by omega⟩ (fun r_335 u_336 H locs hwu_336 hnu_336 hzu_336 hK hP hD hS => ?_)
  have hK : va_K D vwCl [(e2, .int), (e3, .int)] s := hK
  have hP : va_P D vwCl ([(mo, .inr (4, [.int 0, .int 0, .ref kT, .int 20, .int 60, .int 2000, .int 0, .int 0, .ref tb, .ref ld, .int 0, .ref lK, .ref lC, .int 0])), (tb, .inl (e2, 366, .inl (fun _ => 0))), (ld, .inl (e3, 61, .inl (u_336)))]) H := hP
  have hD : va_D A ([(mo, .inr (4, [.int 0, .int 0, .ref kT, .int 20, .int 60, .int 2000, .int 0, .int 0, .ref tb, .ref ld, .int 0, .ref lK, .ref lC, .int 0])), (tb, .inl (e2, 366, .inl (fun _ => 0))), (ld, .inl (e3, 61, .inl (u_336)))]) := hD
  refine lv_topi (fun v_337 ev_337 => ?_)
  obtain rfl : v_337 = 0 := ev_337.trans hwu_336
  refine lv_i2l (v := (0 : Int64)) hx hb dX4_digest_165 (by decide) ?_
  refine lv_ladd hx hb dX4_digest_166 ?_
  refine lv_topl (fun v_338 ev_338 => ?_)
  obtain rfl : v_338 = (297658972066909 : Int64) := ev_338.trans (by decide)
  refine lv_lstore_n (lv' := [(1, .long (297658972066909 : Int64)), (3, .int 3), (0, .ref mo)]) hx hb dX4_digest_167 rfl hl (by decide) rfl (fun ls hl => ?_)
  refine lv_iinc (v := 4) (lv' := [(3, .int 4), (1, .long (297658972066909 : Int64)), (0, .ref mo)]) hx hb dX4_digest_168 hl (k := 1) rfl ((by decide)) (by decide) rfl (fun ls hl => ?_)
  refine lv_goto (tgt := 150) hx hb dX4_digest_171 (by decide) ?_
  refine lv_iload_n hx hb dX4_digest_150 rfl (lv_at hl 0 rfl) ?_
  refine lv_iconst (v := 4) hx hb dX4_digest_151 (by decide) ?_
  refine lv_icmp_ge (tgt := 174) hx hb dX4_digest_152 (by decide) (fun c_339 => ?_) (fun c_339 => absurd (by decide) c_339)
  refine lv_lload_n hx hb dX4_digest_174 rfl (lv_at hl 1 rfl) ?_
  have hP := hP.sub (ws' := [(mo, .inr (4, [.int 0, .int 0, .ref kT, .int 20, .int 60, .int 2000, .int 0, .int 0, .ref tb, .ref ld, .int 0, .ref lK, .ref lC, .int 0]))]) [0] rfl
  have hD := hD.sub (ws' := [(mo, .inr (4, [.int 0, .int 0, .ref kT, .int 20, .int 60, .int 2000, .int 0, .int 0, .ref tb, .ref ld, .int 0, .ref lK, .ref lC, .int 0]))]) [0] (by decide) rfl
  exact W.lret (v := (297658972066909 : Int64)) hx hb hr (fun t ht hW => ⟨⟨(297658972066909 : Int64), (), rfl, rfl, ⟨Nat.zero_le _, by rw [ht]; exact hP, va_K.moved hW.alike (hK.sub (tys' := []) [] rfl), hD⟩⟩, hS.F ht⟩) hS.2.2 dX4_digest_175
set_option maxHeartbeats 4000000 in
set_option maxRecDepth 100000 in
theorem c_M_init (l : Launch) (D : zG) (sz : Nat) (mo : Nat) : Met l yX4_init wsX4_init ({ frames := 1, cells := 5, slots := 527, locals := 16 }) (zPc D [] ([(mo, .inr (4, [.int 0, .int 0, .null, .int 0, .int 0, .int 0, .int 0, .int 0, .null, .null, .int 0, .null, .null, .int 0]))]) sz [.ref mo]) (va_Qv (fun (u : (Nat → Nat) × (Nat → ClassId)) => True) (zB D (va_A ([(mo, .inr (4, [.int 0, .int 0, .null, .int 0, .int 0, .int 0, .int 0, .int 0, .null, .null, .int 0, .null, .null, .int 0]))]) sz) (fun u => [((u.2 0), .int), ((u.2 1), .int), ((u.2 2), .int)]) 0 (fun u => [(mo, .inr (4, [.int 0, .int 0, .ref (u.1 0), .int 20, .int 60, .int 2000, .int 0, .int 0, .ref (u.1 1), .ref (u.1 2), .int 0, .ref (u.1 3), .ref (u.1 4), .int 0])), ((u.1 0), .inl ((u.2 0), 60, .inl (fun _ => 0))), ((u.1 1), .inl ((u.2 1), 366, .inl (fun _ => 0))), ((u.1 2), .inl ((u.2 2), 61, .inl (fun _ => 0)))])) (va_A ([(mo, .inr (4, [.int 0, .int 0, .null, .int 0, .int 0, .int 0, .int 0, .int 0, .null, .null, .int 0, .null, .null, .int 0]))]) sz)) 5 527 (va_A ([(mo, .inr (4, [.int 0, .int 0, .null, .int 0, .int 0, .int 0, .int 0, .int 0, .null, .null, .int 0, .null, .null, .int 0]))]) sz) := by
  refine Met.ofW (cc := cX4_init) (maxL := 1) (ret := none) (by decide) rfl ?_
  intro p e s m args below meth c s₁ B hml hv
  obtain ⟨rfl, hsz, hP, hK, hD0⟩ := hv
  have hx := B.exec
  have hb := B.bytes
  have hr := B.returns
  have hts := atoms_spec (ws := wsX4_init) B.pre
  have hown : s.vm.findClass RX4 = some m.cls := findClass_of_methodNamed B.named
  have hlocks := B.notSynchronized
  have hin : meth.name = "<init>" := (name_of_methodNamed B.named B.method).1
  subst hsz
  have hD := hD0.self (sz := s.heap.size)
  generalize hAe : va_A ([(mo, .inr (4, [.int 0, .int 0, .null, .int 0, .int 0, .int 0, .int 0, .int 0, .null, .null, .int 0, .null, .null, .int 0]))]) s.heap.size = A at hD ⊢
  have hA : ∀ q : Nat, s.heap.size ≤ q → A q := fun q h => by rw [← hAe]; exact Or.inr h
  have hS : va_S A s.heap s.heap [] := va_S.rf
  have hl := lv_entry ([.ref mo]) (n := 1) (Nat.le_of_ble_eq_true rfl)
  rw [lg_entry_eq]
  generalize (lg_sl ([.ref mo]) ++ List.replicate (1 - (lg_sl ([.ref mo])).length) Slot.unset).toArray = ls at hl ⊢
  have hl : lv_has ls 1 [(0, .ref mo)] := hl
  have hP : va_P D vwCl ([(mo, .inr (4, [.int 0, .int 0, .null, .int 0, .int 0, .int 0, .int 0, .int 0, .null, .null, .int 0, .null, .null, .int 0]))]) s.heap := hP
  generalize hRe : (headSpec _ _).room = R
  have hRf : R.frames = 1 := by rw [← hRe]; rfl
  have hRc : R.cells = 5 := by rw [← hRe]; rfl
  have hRs : R.slots = 527 := by rw [← hRe]; rfl
  have hRl : R.locals = 16 := by rw [← hRe]; rfl
  clear hRe
  refine lv_aload_n hx hb dX4_init_0 rfl (lv_at hl 0 rfl) ?_
  refine W.objInit hx hb hown (hts (.methodLink RX4 1 objectInit) (List.mem_of_getElem? (i := 1) (by rfl))) (hts (.instanceMethod objectInit) (List.mem_of_getElem? (i := 2) (by rfl))) (hts (.code objectInit ⟨#[0xb1]⟩ 1 none) (List.mem_of_getElem? (i := 3) (by rfl))) rfl (by rw [hml]; exact hl.1) rfl dX4_init_1 (by rw [hRf]; exact Nat.le_of_ble_eq_true rfl) (by rw [hRl]; exact Nat.le_of_ble_eq_true rfl) ?_
  refine W.eq (g2 := F0 m 4 ls []) rfl ?_
  refine lv_aload_n hx hb dX4_init_4 rfl (lv_at hl 0 rfl) ?_
  refine lv_bipush (v := 60) hx hb dX4_init_5 (by decide) ?_
  refine znewa (atype := .int) (ty := .int) (N' := 60) (a0 := (60, .inl (fun _ => 0))) hx hb (hts (.arrayClass .int) (List.mem_of_getElem? (i := 4) (by rfl))) rfl hK hP hD hS hA (fun _ => rfl) (by decide) rfl (Nat.le_of_ble_eq_true rfl) (by omega) (by omega) dX4_init_7 (fun q_340 cy_341 H hz_342 hK hP hD hS => ?_)
  have hP : va_P D vwCl ([(mo, .inr (4, [.int 0, .int 0, .null, .int 0, .int 0, .int 0, .int 0, .int 0, .null, .null, .int 0, .null, .null, .int 0])), (q_340, .inl (cy_341, 60, .inl (fun _ => 0)))]) H := hP
  have hD : va_D A ([(mo, .inr (4, [.int 0, .int 0, .null, .int 0, .int 0, .int 0, .int 0, .int 0, .null, .null, .int 0, .null, .null, .int 0])), (q_340, .inl (cy_341, 60, .inl (fun _ => 0)))]) := hD
  refine va_putF (D := D) (ci := 4) (v := .ref q_340) (ty := .array .int) (C := RX4) (T := TX4) (N := 14) hx hb hts (fun _ h9 => List.mem_cons_of_mem _ (List.mem_append_right _ h9)) tyX4 tyX4_ok nmX4 hown hK hP hD hS 0 rfl rfl 2 (by decide) (hts (.fieldLink RX4 9 "PalletStackModel" "kindTable" "[I") (List.mem_of_getElem? (i := 5) (by rfl))) (fun _ h9 => h9) rfl hin rfl (by decide +kernel) rfl rfl (Nat.le_of_ble_eq_true rfl) dX4_init_9 (fun H locs hP hD hS => ?_)
  have hP : va_P D vwCl ([(mo, .inr (4, [.int 0, .int 0, .ref q_340, .int 0, .int 0, .int 0, .int 0, .int 0, .null, .null, .int 0, .null, .null, .int 0])), (q_340, .inl (cy_341, 60, .inl (fun _ => 0)))]) H := hP
  have hD : va_D A ([(mo, .inr (4, [.int 0, .int 0, .ref q_340, .int 0, .int 0, .int 0, .int 0, .int 0, .null, .null, .int 0, .null, .null, .int 0])), (q_340, .inl (cy_341, 60, .inl (fun _ => 0)))]) := hD
  refine lv_aload_n hx hb dX4_init_12 rfl (lv_at hl 0 rfl) ?_
  refine lv_bipush (v := 20) hx hb dX4_init_13 (by decide) ?_
  refine va_put (D := D) (ci := 4) (v := .int 20) (ty := .int) (C := RX4) (T := TX4) (N := 14) hx hb hts (fun _ h9 => List.mem_cons_of_mem _ (List.mem_append_right _ h9)) tyX4 tyX4_ok nmX4 hown hK hP hD hS 0 rfl rfl 3 (by decide) (hts (.fieldLink RX4 13 "PalletStackModel" "highest" "I") (List.mem_of_getElem? (i := 6) (by rfl))) (fun _ h9 => h9) rfl (by decide +kernel) rfl rfl (Nat.le_of_ble_eq_true rfl) dX4_init_15 (fun H locs hP hD hS => ?_)
  have hP : va_P D vwCl ([(mo, .inr (4, [.int 0, .int 0, .ref q_340, .int 20, .int 0, .int 0, .int 0, .int 0, .null, .null, .int 0, .null, .null, .int 0])), (q_340, .inl (cy_341, 60, .inl (fun _ => 0)))]) H := hP
  have hD : va_D A ([(mo, .inr (4, [.int 0, .int 0, .ref q_340, .int 20, .int 0, .int 0, .int 0, .int 0, .null, .null, .int 0, .null, .null, .int 0])), (q_340, .inl (cy_341, 60, .inl (fun _ => 0)))]) := hD
  refine lv_aload_n hx hb dX4_init_18 rfl (lv_at hl 0 rfl) ?_
  refine lv_bipush (v := 60) hx hb dX4_init_19 (by decide) ?_
  refine va_put (D := D) (ci := 4) (v := .int 60) (ty := .int) (C := RX4) (T := TX4) (N := 14) hx hb hts (fun _ h9 => List.mem_cons_of_mem _ (List.mem_append_right _ h9)) tyX4 tyX4_ok nmX4 hown hK hP hD hS 0 rfl rfl 4 (by decide) (hts (.fieldLink RX4 17 "PalletStackModel" "support" "I") (List.mem_of_getElem? (i := 7) (by rfl))) (fun _ h9 => h9) rfl (by decide +kernel) rfl rfl (Nat.le_of_ble_eq_true rfl) dX4_init_21 (fun H locs hP hD hS => ?_)
  have hP : va_P D vwCl ([(mo, .inr (4, [.int 0, .int 0, .ref q_340, .int 20, .int 60, .int 0, .int 0, .int 0, .null, .null, .int 0, .null, .null, .int 0])), (q_340, .inl (cy_341, 60, .inl (fun _ => 0)))]) H := hP
  have hD : va_D A ([(mo, .inr (4, [.int 0, .int 0, .ref q_340, .int 20, .int 60, .int 0, .int 0, .int 0, .null, .null, .int 0, .null, .null, .int 0])), (q_340, .inl (cy_341, 60, .inl (fun _ => 0)))]) := hD
  refine lv_aload_n hx hb dX4_init_24 rfl (lv_at hl 0 rfl) ?_
  refine lv_sipush (v := 2000) hx hb dX4_init_25 (by decide) ?_
  refine va_put (D := D) (ci := 4) (v := .int 2000) (ty := .int) (C := RX4) (T := TX4) (N := 14) hx hb hts (fun _ h9 => List.mem_cons_of_mem _ (List.mem_append_right _ h9)) tyX4 tyX4_ok nmX4 hown hK hP hD hS 0 rfl rfl 5 (by decide) (hts (.fieldLink RX4 20 "PalletStackModel" "limit" "I") (List.mem_of_getElem? (i := 8) (by rfl))) (fun _ h9 => h9) rfl (by decide +kernel) rfl rfl (Nat.le_of_ble_eq_true rfl) dX4_init_28 (fun H locs hP hD hS => ?_)
  have hP : va_P D vwCl ([(mo, .inr (4, [.int 0, .int 0, .ref q_340, .int 20, .int 60, .int 2000, .int 0, .int 0, .null, .null, .int 0, .null, .null, .int 0])), (q_340, .inl (cy_341, 60, .inl (fun _ => 0)))]) H := hP
  have hD : va_D A ([(mo, .inr (4, [.int 0, .int 0, .ref q_340, .int 20, .int 60, .int 2000, .int 0, .int 0, .null, .null, .int 0, .null, .null, .int 0])), (q_340, .inl (cy_341, 60, .inl (fun _ => 0)))]) := hD
  refine lv_aload_n hx hb dX4_init_31 rfl (lv_at hl 0 rfl) ?_
  refine lv_sipush (v := 366) hx hb dX4_init_32 (by decide) ?_
  refine znewa (atype := .int) (ty := .int) (N' := 366) (a0 := (366, .inl (fun _ => 0))) hx hb (hts (.arrayClass .int) (List.mem_of_getElem? (i := 4) (by rfl))) rfl hK hP hD hS hA (fun _ => rfl) (by decide) rfl (Nat.le_of_ble_eq_true rfl) (by omega) (by omega) dX4_init_35 (fun q_343 cy_344 H hz_345 hK hP hD hS => ?_)
  have hP : va_P D vwCl ([(mo, .inr (4, [.int 0, .int 0, .ref q_340, .int 20, .int 60, .int 2000, .int 0, .int 0, .null, .null, .int 0, .null, .null, .int 0])), (q_340, .inl (cy_341, 60, .inl (fun _ => 0))), (q_343, .inl (cy_344, 366, .inl (fun _ => 0)))]) H := hP
  have hD : va_D A ([(mo, .inr (4, [.int 0, .int 0, .ref q_340, .int 20, .int 60, .int 2000, .int 0, .int 0, .null, .null, .int 0, .null, .null, .int 0])), (q_340, .inl (cy_341, 60, .inl (fun _ => 0))), (q_343, .inl (cy_344, 366, .inl (fun _ => 0)))]) := hD
  refine va_putF (D := D) (ci := 4) (v := .ref q_343) (ty := .array .int) (C := RX4) (T := TX4) (N := 14) hx hb hts (fun _ h9 => List.mem_cons_of_mem _ (List.mem_append_right _ h9)) tyX4 tyX4_ok nmX4 hown hK hP hD hS 0 rfl rfl 8 (by decide) (hts (.fieldLink RX4 23 "PalletStackModel" "table" "[I") (List.mem_of_getElem? (i := 9) (by rfl))) (fun _ h9 => h9) rfl hin rfl (by decide +kernel) rfl rfl (Nat.le_of_ble_eq_true rfl) dX4_init_37 (fun H locs hP hD hS => ?_)
  have hP : va_P D vwCl ([(mo, .inr (4, [.int 0, .int 0, .ref q_340, .int 20, .int 60, .int 2000, .int 0, .int 0, .ref q_343, .null, .int 0, .null, .null, .int 0])), (q_340, .inl (cy_341, 60, .inl (fun _ => 0))), (q_343, .inl (cy_344, 366, .inl (fun _ => 0)))]) H := hP
  have hD : va_D A ([(mo, .inr (4, [.int 0, .int 0, .ref q_340, .int 20, .int 60, .int 2000, .int 0, .int 0, .ref q_343, .null, .int 0, .null, .null, .int 0])), (q_340, .inl (cy_341, 60, .inl (fun _ => 0))), (q_343, .inl (cy_344, 366, .inl (fun _ => 0)))]) := hD
  refine lv_aload_n hx hb dX4_init_40 rfl (lv_at hl 0 rfl) ?_
  refine lv_bipush (v := 61) hx hb dX4_init_41 (by decide) ?_
  refine znewa (atype := .int) (ty := .int) (N' := 61) (a0 := (61, .inl (fun _ => 0))) hx hb (hts (.arrayClass .int) (List.mem_of_getElem? (i := 4) (by rfl))) rfl hK hP hD hS hA (fun _ => rfl) (by decide) rfl (Nat.le_of_ble_eq_true rfl) (by omega) (by omega) dX4_init_43 (fun q_346 cy_347 H hz_348 hK hP hD hS => ?_)
  have hP : va_P D vwCl ([(mo, .inr (4, [.int 0, .int 0, .ref q_340, .int 20, .int 60, .int 2000, .int 0, .int 0, .ref q_343, .null, .int 0, .null, .null, .int 0])), (q_340, .inl (cy_341, 60, .inl (fun _ => 0))), (q_343, .inl (cy_344, 366, .inl (fun _ => 0))), (q_346, .inl (cy_347, 61, .inl (fun _ => 0)))]) H := hP
  have hD : va_D A ([(mo, .inr (4, [.int 0, .int 0, .ref q_340, .int 20, .int 60, .int 2000, .int 0, .int 0, .ref q_343, .null, .int 0, .null, .null, .int 0])), (q_340, .inl (cy_341, 60, .inl (fun _ => 0))), (q_343, .inl (cy_344, 366, .inl (fun _ => 0))), (q_346, .inl (cy_347, 61, .inl (fun _ => 0)))]) := hD
  refine va_putF (D := D) (ci := 4) (v := .ref q_346) (ty := .array .int) (C := RX4) (T := TX4) (N := 14) hx hb hts (fun _ h9 => List.mem_cons_of_mem _ (List.mem_append_right _ h9)) tyX4 tyX4_ok nmX4 hown hK hP hD hS 0 rfl rfl 9 (by decide) (hts (.fieldLink RX4 26 "PalletStackModel" "loads" "[I") (List.mem_of_getElem? (i := 10) (by rfl))) (fun _ h9 => h9) rfl hin rfl (by decide +kernel) rfl rfl (Nat.le_of_ble_eq_true rfl) dX4_init_45 (fun H locs hP hD hS => ?_)
  have hP : va_P D vwCl ([(mo, .inr (4, [.int 0, .int 0, .ref q_340, .int 20, .int 60, .int 2000, .int 0, .int 0, .ref q_343, .ref q_346, .int 0, .null, .null, .int 0])), (q_340, .inl (cy_341, 60, .inl (fun _ => 0))), (q_343, .inl (cy_344, 366, .inl (fun _ => 0))), (q_346, .inl (cy_347, 61, .inl (fun _ => 0)))]) H := hP
  have hD : va_D A ([(mo, .inr (4, [.int 0, .int 0, .ref q_340, .int 20, .int 60, .int 2000, .int 0, .int 0, .ref q_343, .ref q_346, .int 0, .null, .null, .int 0])), (q_340, .inl (cy_341, 60, .inl (fun _ => 0))), (q_343, .inl (cy_344, 366, .inl (fun _ => 0))), (q_346, .inl (cy_347, 61, .inl (fun _ => 0)))]) := hD
  refine lv_aload_n hx hb dX4_init_48 rfl (lv_at hl 0 rfl) ?_
  refine lv_bipush (v := 20) hx hb dX4_init_49 (by decide) ?_
  refine znewa (atype := .int) (ty := .int) (N' := 20) (a0 := (20, .inl (fun _ => 0))) hx hb (hts (.arrayClass .int) (List.mem_of_getElem? (i := 4) (by rfl))) rfl hK hP hD hS hA (fun _ => rfl) (by decide) rfl (Nat.le_of_ble_eq_true rfl) (by omega) (by omega) dX4_init_51 (fun q_349 cy_350 H hz_351 hK hP hD hS => ?_)
  have hP : va_P D vwCl ([(mo, .inr (4, [.int 0, .int 0, .ref q_340, .int 20, .int 60, .int 2000, .int 0, .int 0, .ref q_343, .ref q_346, .int 0, .null, .null, .int 0])), (q_340, .inl (cy_341, 60, .inl (fun _ => 0))), (q_343, .inl (cy_344, 366, .inl (fun _ => 0))), (q_346, .inl (cy_347, 61, .inl (fun _ => 0))), (q_349, .inl (cy_350, 20, .inl (fun _ => 0)))]) H := hP
  have hD : va_D A ([(mo, .inr (4, [.int 0, .int 0, .ref q_340, .int 20, .int 60, .int 2000, .int 0, .int 0, .ref q_343, .ref q_346, .int 0, .null, .null, .int 0])), (q_340, .inl (cy_341, 60, .inl (fun _ => 0))), (q_343, .inl (cy_344, 366, .inl (fun _ => 0))), (q_346, .inl (cy_347, 61, .inl (fun _ => 0))), (q_349, .inl (cy_350, 20, .inl (fun _ => 0)))]) := hD
  refine va_putF (D := D) (ci := 4) (v := .ref q_349) (ty := .array .int) (C := RX4) (T := TX4) (N := 14) hx hb hts (fun _ h9 => List.mem_cons_of_mem _ (List.mem_append_right _ h9)) tyX4 tyX4_ok nmX4 hown hK hP hD hS 0 rfl rfl 11 (by decide) (hts (.fieldLink RX4 29 "PalletStackModel" "lineKinds" "[I") (List.mem_of_getElem? (i := 11) (by rfl))) (fun _ h9 => h9) rfl hin rfl (by decide +kernel) rfl rfl (Nat.le_of_ble_eq_true rfl) dX4_init_53 (fun H locs hP hD hS => ?_)
  have hP : va_P D vwCl ([(mo, .inr (4, [.int 0, .int 0, .ref q_340, .int 20, .int 60, .int 2000, .int 0, .int 0, .ref q_343, .ref q_346, .int 0, .ref q_349, .null, .int 0])), (q_340, .inl (cy_341, 60, .inl (fun _ => 0))), (q_343, .inl (cy_344, 366, .inl (fun _ => 0))), (q_346, .inl (cy_347, 61, .inl (fun _ => 0))), (q_349, .inl (cy_350, 20, .inl (fun _ => 0)))]) H := hP
  have hD : va_D A ([(mo, .inr (4, [.int 0, .int 0, .ref q_340, .int 20, .int 60, .int 2000, .int 0, .int 0, .ref q_343, .ref q_346, .int 0, .ref q_349, .null, .int 0])), (q_340, .inl (cy_341, 60, .inl (fun _ => 0))), (q_343, .inl (cy_344, 366, .inl (fun _ => 0))), (q_346, .inl (cy_347, 61, .inl (fun _ => 0))), (q_349, .inl (cy_350, 20, .inl (fun _ => 0)))]) := hD
  refine lv_aload_n hx hb dX4_init_56 rfl (lv_at hl 0 rfl) ?_
  refine lv_bipush (v := 20) hx hb dX4_init_57 (by decide) ?_
  refine znewa (atype := .int) (ty := .int) (N' := 20) (a0 := (20, .inl (fun _ => 0))) hx hb (hts (.arrayClass .int) (List.mem_of_getElem? (i := 4) (by rfl))) rfl hK hP hD hS hA (fun _ => rfl) (by decide) rfl (Nat.le_of_ble_eq_true rfl) (by omega) (by omega) dX4_init_59 (fun q_352 cy_353 H hz_354 hK hP hD hS => ?_)
  have hP : va_P D vwCl ([(mo, .inr (4, [.int 0, .int 0, .ref q_340, .int 20, .int 60, .int 2000, .int 0, .int 0, .ref q_343, .ref q_346, .int 0, .ref q_349, .null, .int 0])), (q_340, .inl (cy_341, 60, .inl (fun _ => 0))), (q_343, .inl (cy_344, 366, .inl (fun _ => 0))), (q_346, .inl (cy_347, 61, .inl (fun _ => 0))), (q_349, .inl (cy_350, 20, .inl (fun _ => 0))), (q_352, .inl (cy_353, 20, .inl (fun _ => 0)))]) H := hP
  have hD : va_D A ([(mo, .inr (4, [.int 0, .int 0, .ref q_340, .int 20, .int 60, .int 2000, .int 0, .int 0, .ref q_343, .ref q_346, .int 0, .ref q_349, .null, .int 0])), (q_340, .inl (cy_341, 60, .inl (fun _ => 0))), (q_343, .inl (cy_344, 366, .inl (fun _ => 0))), (q_346, .inl (cy_347, 61, .inl (fun _ => 0))), (q_349, .inl (cy_350, 20, .inl (fun _ => 0))), (q_352, .inl (cy_353, 20, .inl (fun _ => 0)))]) := hD
  refine va_putF (D := D) (ci := 4) (v := .ref q_352) (ty := .array .int) (C := RX4) (T := TX4) (N := 14) hx hb hts (fun _ h9 => List.mem_cons_of_mem _ (List.mem_append_right _ h9)) tyX4 tyX4_ok nmX4 hown hK hP hD hS 0 rfl rfl 12 (by decide) (hts (.fieldLink RX4 32 "PalletStackModel" "lineCounts" "[I") (List.mem_of_getElem? (i := 12) (by rfl))) (fun _ h9 => h9) rfl hin rfl (by decide +kernel) rfl rfl (Nat.le_of_ble_eq_true rfl) dX4_init_61 (fun H locs hP hD hS => ?_)
  have hP : va_P D vwCl ([(mo, .inr (4, [.int 0, .int 0, .ref q_340, .int 20, .int 60, .int 2000, .int 0, .int 0, .ref q_343, .ref q_346, .int 0, .ref q_349, .ref q_352, .int 0])), (q_340, .inl (cy_341, 60, .inl (fun _ => 0))), (q_343, .inl (cy_344, 366, .inl (fun _ => 0))), (q_346, .inl (cy_347, 61, .inl (fun _ => 0))), (q_349, .inl (cy_350, 20, .inl (fun _ => 0))), (q_352, .inl (cy_353, 20, .inl (fun _ => 0)))]) H := hP
  have hD : va_D A ([(mo, .inr (4, [.int 0, .int 0, .ref q_340, .int 20, .int 60, .int 2000, .int 0, .int 0, .ref q_343, .ref q_346, .int 0, .ref q_349, .ref q_352, .int 0])), (q_340, .inl (cy_341, 60, .inl (fun _ => 0))), (q_343, .inl (cy_344, 366, .inl (fun _ => 0))), (q_346, .inl (cy_347, 61, .inl (fun _ => 0))), (q_349, .inl (cy_350, 20, .inl (fun _ => 0))), (q_352, .inl (cy_353, 20, .inl (fun _ => 0)))]) := hD
  have hP := hP.sub (ws' := [(mo, .inr (4, [.int 0, .int 0, .ref q_340, .int 20, .int 60, .int 2000, .int 0, .int 0, .ref q_343, .ref q_346, .int 0, .ref q_349, .ref q_352, .int 0])), (q_340, .inl (cy_341, 60, .inl (fun _ => 0))), (q_343, .inl (cy_344, 366, .inl (fun _ => 0))), (q_346, .inl (cy_347, 61, .inl (fun _ => 0)))]) [0, 1, 2, 3] rfl
  have hD := hD.sub (ws' := [(mo, .inr (4, [.int 0, .int 0, .ref q_340, .int 20, .int 60, .int 2000, .int 0, .int 0, .ref q_343, .ref q_346, .int 0, .ref q_349, .ref q_352, .int 0])), (q_340, .inl (cy_341, 60, .inl (fun _ => 0))), (q_343, .inl (cy_344, 366, .inl (fun _ => 0))), (q_346, .inl (cy_347, 61, .inl (fun _ => 0)))]) [0, 1, 2, 3] (by decide) rfl
  refine W.widen (k := 5) (n := 527) (by omega) (by omega) ?_
  exact W.vret hx hb hr (fun t ht hW => ⟨⟨(fun i => [q_340, q_343, q_346, q_349, q_352].getD i 0, fun i => [cy_341, cy_344, cy_347].getD i 0), rfl, True.intro, ⟨Nat.zero_le _, by rw [ht]; exact hP, va_K.moved hW.alike (hK.sub (tys' := [(cy_341, .int), (cy_344, .int), (cy_347, .int)]) [0, 1, 2] rfl), hD⟩⟩, hS.F ht⟩) hS.2.2 dX4_init_64
