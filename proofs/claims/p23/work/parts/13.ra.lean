set_option maxHeartbeats 4000000 in
set_option maxRecDepth 100000 in
theorem c_isWithin (l : Launch) (D : zG) (sz : Nat) (a b c1 : Int32) : Met l yX3_isWithin wsX3_isWithin ({ frames := 0, cells := 0, slots := 0, locals := 0 }) (zPc D [] ([]) sz [.int a, .int b, .int c1]) (vp_Si (fun r => r = if b ≤ a ∧ a ≤ c1 then 1 else 0)) 0 0 (fun _ => False) := by
  refine Met.ofW (cc := cX3_isWithin) (maxL := 3) (ret := (some .boolean)) (by decide) rfl ?_
  intro p e s m args below meth c s₁ B hml hv
  obtain ⟨rfl, hsz, hP, hK, hD0⟩ := hv
  have hx := B.exec
  have hb := B.bytes
  have hr := B.returns
  have hts := atoms_spec (ws := wsX3_isWithin) B.pre
  have hown : s.vm.findClass RX3 = some m.cls := findClass_of_methodNamed B.named
  have hlocks := B.notSynchronized
  subst hsz
  have hD := hD0
  generalize hAe : (fun _ : Nat => True) = A at hD
  have hl := lv_entry ([.int a, .int b, .int c1]) (n := 3) (Nat.le_of_ble_eq_true rfl)
  rw [lg_entry_eq]
  generalize (lg_sl ([.int a, .int b, .int c1]) ++ List.replicate (3 - (lg_sl ([.int a, .int b, .int c1])).length) Slot.unset).toArray = ls at hl ⊢
  have hl : lv_has ls 3 [(0, .int a), (1, .int b), (2, .int c1)] := hl
  have hP : va_P D vwCl ([]) s.heap := hP
  generalize hRe : (headSpec _ _).room = R
  have hRf : R.frames = 0 := by rw [← hRe]; rfl
  have hRc : R.cells = 0 := by rw [← hRe]; rfl
  have hRs : R.slots = 0 := by rw [← hRe]; rfl
  have hRl : R.locals = 0 := by rw [← hRe]; rfl
  clear hRe
  refine lv_iload_n hx hb dX3_isWithin_0 rfl (lv_at hl 0 rfl) ?_
  refine lv_iload_n hx hb dX3_isWithin_1 rfl (lv_at hl 1 rfl) ?_
  refine lv_icmp_lt (tgt := 14) hx hb dX3_isWithin_2 (by decide) (fun c_1 => ?_) (fun c_1 => ?_)
  · have h_b := True.intro
    refine lv_iconst (v := 0) hx hb dX3_isWithin_14 (by decide) ?_
    exact W.zret (ty := .boolean) (v := 0) hx hb hr rfl (fun t ht hW => ⟨0, rfl, (if_neg (fun h => absurd h.1 (Int32.not_le.mpr c_1))).symm, ht⟩) (fun _ h => by cases h) dX3_isWithin_15
  · have h_b := True.intro
    refine lv_iload_n hx hb dX3_isWithin_5 rfl (lv_at hl 0 rfl) ?_
    refine lv_iload_n hx hb dX3_isWithin_6 rfl (lv_at hl 2 rfl) ?_
    refine lv_icmp_gt (tgt := 14) hx hb dX3_isWithin_7 (by decide) (fun c_2 => ?_) (fun c_2 => ?_)
    · have h_b := True.intro
      refine lv_iconst (v := 0) hx hb dX3_isWithin_14 (by decide) ?_
      exact W.zret (ty := .boolean) (v := 0) hx hb hr rfl (fun t ht hW => ⟨0, rfl, (if_neg (fun h => absurd h.2 (Int32.not_le.mpr c_2))).symm, ht⟩) (fun _ h => by cases h) dX3_isWithin_15
    · have h_b := True.intro
      refine lv_iconst (v := 1) hx hb dX3_isWithin_10 (by decide) ?_
      refine lv_goto (tgt := 15) hx hb dX3_isWithin_11 (by decide) ?_
      exact W.zret (ty := .boolean) (v := 1) hx hb hr rfl (fun t ht hW => ⟨1, rfl, (if_pos ⟨Int32.not_lt.mp c_1, Int32.not_lt.mp c_2⟩).symm, ht⟩) (fun _ h => by cases h) dX3_isWithin_15
set_option maxHeartbeats 4000000 in
set_option maxRecDepth 100000 in
theorem c_isCell (l : Launch) (D : zG) (sz : Nat) (a b : Int32) : Met l yX3_isCell wsX3_isCell ({ frames := 1, cells := 0, slots := 0, locals := 22 }) (zPc D [] ([]) sz [.int a, .int b]) (vp_Si (fun r => r = if (0 ≤ a ∧ a ≤ 11) ∧ (0 ≤ b ∧ b ≤ 9) then 1 else 0)) 0 0 (fun _ => False) := by
  refine Met.ofW (cc := cX3_isCell) (maxL := 2) (ret := (some .boolean)) (by decide) rfl ?_
  intro p e s m args below meth c s₁ B hml hv
  obtain ⟨rfl, hsz, hP, hK, hD0⟩ := hv
  have hx := B.exec
  have hb := B.bytes
  have hr := B.returns
  have hts := atoms_spec (ws := wsX3_isCell) B.pre
  have hown : s.vm.findClass RX3 = some m.cls := findClass_of_methodNamed B.named
  have hlocks := B.notSynchronized
  subst hsz
  have hD := hD0
  generalize hAe : (fun _ : Nat => True) = A at hD
  have hl := lv_entry ([.int a, .int b]) (n := 2) (Nat.le_of_ble_eq_true rfl)
  rw [lg_entry_eq]
  generalize (lg_sl ([.int a, .int b]) ++ List.replicate (2 - (lg_sl ([.int a, .int b])).length) Slot.unset).toArray = ls at hl ⊢
  have hl : lv_has ls 2 [(0, .int a), (1, .int b)] := hl
  have hP : va_P D vwCl ([]) s.heap := hP
  generalize hRe : (headSpec _ _).room = R
  have hRf : R.frames = 1 := by rw [← hRe]; rfl
  have hRc : R.cells = 0 := by rw [← hRe]; rfl
  have hRs : R.slots = 0 := by rw [← hRe]; rfl
  have hRl : R.locals = 22 := by rw [← hRe]; rfl
  clear hRe
  refine lv_iload_n hx hb dX3_isCell_0 rfl (lv_at hl 0 rfl) ?_
  refine lv_iconst (v := 0) hx hb dX3_isCell_1 (by decide) ?_
  refine lv_bipush (v := 11) hx hb dX3_isCell_2 (by decide) ?_
  refine zrdS (As := [.int a, .int 0, .int 11]) (rest := []) (wc := []) ⟨hx, hb, hml, hown, hts⟩ (c_isWithin l D _ a 0 11) (va_cwS 3 hts gX3_isCell_X3_isWithin rfl rfl rfl (by decide +kernel) ⟨by rw [hRf]; exact Nat.le_of_ble_eq_true rfl, by rw [hRl]; exact Nat.le_of_ble_eq_true rfl⟩) hK hP hD [] rfl (by decide) [] rfl rfl hl.1 rfl (Nat.le_of_ble_eq_true rfl) dX3_isCell_4 ⟨by omega, by omega⟩ (fun r_3 hr_3 => ?_)
  refine lv_if_eq (tgt := 24) hx hb dX3_isCell_7 (by decide) (fun c_4 => ?_) (fun c_4 => ?_)
  · have h_b := True.intro
    have k_5 : ¬ (0 ≤ a ∧ a ≤ 11) := fun h9 => absurd ((hr_3.trans (if_pos h9)).symm.trans c_4) (by decide)
    refine lv_iconst (v := 0) hx hb dX3_isCell_24 (by decide) ?_
    exact W.zret (ty := .boolean) (v := 0) hx hb hr rfl (fun t ht hW => ⟨0, rfl, (if_neg (fun h => absurd h.1 k_5)).symm, ht⟩) (fun _ h => by cases h) dX3_isCell_25
  · have h_b := True.intro
    have k_6 : 0 ≤ a ∧ a ≤ 11 := Decidable.byContradiction fun h9 => absurd (hr_3.trans (if_neg h9)) c_4
    refine lv_iload_n hx hb dX3_isCell_10 rfl (lv_at hl 1 rfl) ?_
    refine lv_iconst (v := 0) hx hb dX3_isCell_11 (by decide) ?_
    refine lv_bipush (v := 9) hx hb dX3_isCell_12 (by decide) ?_
    refine zrdS (As := [.int b, .int 0, .int 9]) (rest := []) (wc := []) ⟨hx, hb, hml, hown, hts⟩ (c_isWithin l D _ b 0 9) (va_cwS 3 hts gX3_isCell_X3_isWithin rfl rfl rfl (by decide +kernel) ⟨by rw [hRf]; exact Nat.le_of_ble_eq_true rfl, by rw [hRl]; exact Nat.le_of_ble_eq_true rfl⟩) hK hP hD [] rfl (by decide) [] rfl rfl hl.1 rfl (Nat.le_of_ble_eq_true rfl) dX3_isCell_14 ⟨by omega, by omega⟩ (fun r_7 hr_7 => ?_)
    refine lv_if_eq (tgt := 24) hx hb dX3_isCell_17 (by decide) (fun c_8 => ?_) (fun c_8 => ?_)
    · have h_b := True.intro
      have k_9 : ¬ (0 ≤ b ∧ b ≤ 9) := fun h9 => absurd ((hr_7.trans (if_pos h9)).symm.trans c_8) (by decide)
      refine lv_iconst (v := 0) hx hb dX3_isCell_24 (by decide) ?_
      exact W.zret (ty := .boolean) (v := 0) hx hb hr rfl (fun t ht hW => ⟨0, rfl, (if_neg (fun h => absurd h.2 k_9)).symm, ht⟩) (fun _ h => by cases h) dX3_isCell_25
    · have h_b := True.intro
      have k_10 : 0 ≤ b ∧ b ≤ 9 := Decidable.byContradiction fun h9 => absurd (hr_7.trans (if_neg h9)) c_8
      refine lv_iconst (v := 1) hx hb dX3_isCell_20 (by decide) ?_
      refine lv_goto (tgt := 25) hx hb dX3_isCell_21 (by decide) ?_
      exact W.zret (ty := .boolean) (v := 1) hx hb hr rfl (fun t ht hW => ⟨1, rfl, (if_pos ⟨k_6, k_10⟩).symm, ht⟩) (fun _ h => by cases h) dX3_isCell_25
set_option maxHeartbeats 4000000 in
set_option maxRecDepth 100000 in
theorem c_xOf (l : Launch) (D : zG) (sz : Nat) (c1 : Nat) (hc : c1 < 240) : Met l yX3_xOf wsX3_xOf ({ frames := 0, cells := 0, slots := 0, locals := 0 }) (zPc D [] ([]) sz [.int (nI c1)]) (vp_Si (fun r => r = nI (c1 / 2 % 12))) 0 0 (fun _ => False) := by
  refine Met.ofW (cc := cX3_xOf) (maxL := 1) (ret := (some .int)) (by decide) rfl ?_
  intro p e s m args below meth c s₁ B hml hv
  obtain ⟨rfl, hsz, hP, hK, hD0⟩ := hv
  have hx := B.exec
  have hb := B.bytes
  have hr := B.returns
  have hts := atoms_spec (ws := wsX3_xOf) B.pre
  have hown : s.vm.findClass RX3 = some m.cls := findClass_of_methodNamed B.named
  have hlocks := B.notSynchronized
  subst hsz
  have hD := hD0
  generalize hAe : (fun _ : Nat => True) = A at hD
  have hl := lv_entry ([.int (nI c1)]) (n := 1) (Nat.le_of_ble_eq_true rfl)
  rw [lg_entry_eq]
  generalize (lg_sl ([.int (nI c1)]) ++ List.replicate (1 - (lg_sl ([.int (nI c1)])).length) Slot.unset).toArray = ls at hl ⊢
  have hl : lv_has ls 1 [(0, .int (nI c1))] := hl
  have hP : va_P D vwCl ([]) s.heap := hP
  generalize hRe : (headSpec _ _).room = R
  have hRf : R.frames = 0 := by rw [← hRe]; rfl
  have hRc : R.cells = 0 := by rw [← hRe]; rfl
  have hRs : R.slots = 0 := by rw [← hRe]; rfl
  have hRl : R.locals = 0 := by rw [← hRe]; rfl
  clear hRe
  refine lv_iload_n hx hb dX3_xOf_0 rfl (lv_at hl 0 rfl) ?_
  refine lv_iconst (v := 2) hx hb dX3_xOf_1 (by decide) ?_
  refine lv_idiv hx hb dX3_xOf_2 (by decide) ?_
  refine lv_topi (fun v_11 ev_11 => ?_)
  obtain rfl : v_11 = (nI (c1 / 2)) := ev_11.trans (pk_div (d := 2) (by omega) (by decide) (by decide))
  refine lv_bipush (v := 12) hx hb dX3_xOf_3 (by decide) ?_
  refine lv_irem hx hb dX3_xOf_5 (by decide) ?_
  refine lv_topi (fun v_12 ev_12 => ?_)
  obtain rfl : v_12 = (nI (c1 / 2 % 12)) := ev_12.trans (pk_rem (d := 12) (by omega) (by decide) (by decide))
  exact W.iret (v := (nI (c1 / 2 % 12))) hx hb hr (fun t ht hW => ⟨(nI (c1 / 2 % 12)), rfl, rfl, ht⟩) (fun _ h => by cases h) dX3_xOf_6
set_option maxHeartbeats 4000000 in
set_option maxRecDepth 100000 in
theorem c_yOf (l : Launch) (D : zG) (sz : Nat) (c1 : Nat) (hc : c1 < 240) : Met l yX3_yOf wsX3_yOf ({ frames := 0, cells := 0, slots := 0, locals := 0 }) (zPc D [] ([]) sz [.int (nI c1)]) (vp_Si (fun r => r = nI (c1 / 2 / 12))) 0 0 (fun _ => False) := by
  refine Met.ofW (cc := cX3_yOf) (maxL := 1) (ret := (some .int)) (by decide) rfl ?_
  intro p e s m args below meth c s₁ B hml hv
  obtain ⟨rfl, hsz, hP, hK, hD0⟩ := hv
  have hx := B.exec
  have hb := B.bytes
  have hr := B.returns
  have hts := atoms_spec (ws := wsX3_yOf) B.pre
  have hown : s.vm.findClass RX3 = some m.cls := findClass_of_methodNamed B.named
  have hlocks := B.notSynchronized
  subst hsz
  have hD := hD0
  generalize hAe : (fun _ : Nat => True) = A at hD
  have hl := lv_entry ([.int (nI c1)]) (n := 1) (Nat.le_of_ble_eq_true rfl)
  rw [lg_entry_eq]
  generalize (lg_sl ([.int (nI c1)]) ++ List.replicate (1 - (lg_sl ([.int (nI c1)])).length) Slot.unset).toArray = ls at hl ⊢
  have hl : lv_has ls 1 [(0, .int (nI c1))] := hl
  have hP : va_P D vwCl ([]) s.heap := hP
  generalize hRe : (headSpec _ _).room = R
  have hRf : R.frames = 0 := by rw [← hRe]; rfl
  have hRc : R.cells = 0 := by rw [← hRe]; rfl
  have hRs : R.slots = 0 := by rw [← hRe]; rfl
  have hRl : R.locals = 0 := by rw [← hRe]; rfl
  clear hRe
  refine lv_iload_n hx hb dX3_yOf_0 rfl (lv_at hl 0 rfl) ?_
  refine lv_iconst (v := 2) hx hb dX3_yOf_1 (by decide) ?_
  refine lv_idiv hx hb dX3_yOf_2 (by decide) ?_
  refine lv_topi (fun v_13 ev_13 => ?_)
  obtain rfl : v_13 = (nI (c1 / 2)) := ev_13.trans (pk_div (d := 2) (by omega) (by decide) (by decide))
  refine lv_bipush (v := 12) hx hb dX3_yOf_3 (by decide) ?_
  refine lv_idiv hx hb dX3_yOf_5 (by decide) ?_
  refine lv_topi (fun v_14 ev_14 => ?_)
  obtain rfl : v_14 = (nI (c1 / 2 / 12)) := ev_14.trans (pk_div (d := 12) (by omega) (by decide) (by decide))
  exact W.iret (v := (nI (c1 / 2 / 12))) hx hb hr (fun t ht hW => ⟨(nI (c1 / 2 / 12)), rfl, rfl, ht⟩) (fun _ h => by cases h) dX3_yOf_6
set_option maxHeartbeats 4000000 in
set_option maxRecDepth 100000 in
theorem c_isTurnedIn (l : Launch) (D : zG) (sz : Nat) (c1 : Nat) (hc : c1 < 240) : Met l yX3_isTurnedIn wsX3_isTurnedIn ({ frames := 0, cells := 0, slots := 0, locals := 0 }) (zPc D [] ([]) sz [.int (nI c1)]) (vp_Si (fun r => r = nI (c1 % 2))) 0 0 (fun _ => False) := by
  refine Met.ofW (cc := cX3_isTurnedIn) (maxL := 1) (ret := (some .boolean)) (by decide) rfl ?_
  intro p e s m args below meth c s₁ B hml hv
  obtain ⟨rfl, hsz, hP, hK, hD0⟩ := hv
  have hx := B.exec
  have hb := B.bytes
  have hr := B.returns
  have hts := atoms_spec (ws := wsX3_isTurnedIn) B.pre
  have hown : s.vm.findClass RX3 = some m.cls := findClass_of_methodNamed B.named
  have hlocks := B.notSynchronized
  subst hsz
  have hD := hD0
  generalize hAe : (fun _ : Nat => True) = A at hD
  have hl := lv_entry ([.int (nI c1)]) (n := 1) (Nat.le_of_ble_eq_true rfl)
  rw [lg_entry_eq]
  generalize (lg_sl ([.int (nI c1)]) ++ List.replicate (1 - (lg_sl ([.int (nI c1)])).length) Slot.unset).toArray = ls at hl ⊢
  have hl : lv_has ls 1 [(0, .int (nI c1))] := hl
  have hP : va_P D vwCl ([]) s.heap := hP
  generalize hRe : (headSpec _ _).room = R
  have hRf : R.frames = 0 := by rw [← hRe]; rfl
  have hRc : R.cells = 0 := by rw [← hRe]; rfl
  have hRs : R.slots = 0 := by rw [← hRe]; rfl
  have hRl : R.locals = 0 := by rw [← hRe]; rfl
  clear hRe
  refine lv_iload_n hx hb dX3_isTurnedIn_0 rfl (lv_at hl 0 rfl) ?_
  refine lv_iconst (v := 2) hx hb dX3_isTurnedIn_1 (by decide) ?_
  refine lv_irem hx hb dX3_isTurnedIn_2 (by decide) ?_
  refine lv_topi (fun v_15 ev_15 => ?_)
  obtain rfl : v_15 = (nI (c1 % 2)) := ev_15.trans (pk_rem (d := 2) (by omega) (by decide) (by decide))
  refine lv_iconst (v := 1) hx hb dX3_isTurnedIn_3 (by decide) ?_
  refine lv_icmp_ne (tgt := 11) hx hb dX3_isTurnedIn_4 (by decide) (fun c_16 => ?_) (fun c_16 => ?_)
  · have h_b := True.intro
    refine lv_iconst (v := 0) hx hb dX3_isTurnedIn_11 (by decide) ?_
    exact W.zret (ty := .boolean) (v := 0) hx hb hr rfl (fun t ht hW => ⟨0, rfl, by rcases Nat.mod_two_eq_zero_or_one c1 with h | h <;> rw [h] at c_16 ⊢ <;> first | rfl | exact absurd rfl c_16, ht⟩) (fun _ h => by cases h) dX3_isTurnedIn_12
  · have h_b := True.intro
    refine lv_iconst (v := 1) hx hb dX3_isTurnedIn_7 (by decide) ?_
    refine lv_goto (tgt := 12) hx hb dX3_isTurnedIn_8 (by decide) ?_
    exact W.zret (ty := .boolean) (v := 1) hx hb hr rfl (fun t ht hW => ⟨1, rfl, by rcases Nat.mod_two_eq_zero_or_one c1 with h | h <;> rw [h] at c_16 ⊢ <;> first | rfl | exact absurd c_16 (by decide), ht⟩) (fun _ h => by cases h) dX3_isTurnedIn_12
set_option maxHeartbeats 4000000 in
set_option maxRecDepth 100000 in
theorem c_cells (l : Launch) (D : zG) (sz : Nat) (B : qB) (R : qR0) (N : qN0) (i : Nat) (hi : i < 61) : Met l yX0_cells wsX0_cells ({ frames := 0, cells := 0, slots := 0, locals := 0 }) (zPc D (qT B) (qG B R N) sz [.ref (qA B 0 i)]) (vp_Si (fun r => r = nI (N 0 i 4 * N 0 i 5))) 0 0 (fun _ => False) := by
  refine Met.ofW (cc := cX0_cells) (maxL := 1) (ret := (some .int)) (by decide) rfl ?_
  intro p e s m args below meth c s₁ B9 hml hv
  obtain ⟨rfl, hsz, hP, hK, hD0⟩ := hv
  have hx := B9.exec
  have hb := B9.bytes
  have hr := B9.returns
  have hts := atoms_spec (ws := wsX0_cells) B9.pre
  have hown : s.vm.findClass RX0 = some m.cls := findClass_of_methodNamed B9.named
  have hlocks := B9.notSynchronized
  subst hsz
  have hD := hD0
  generalize hAe : (fun _ : Nat => True) = A at hD
  have hl := lv_entry ([.ref (qA B 0 i)]) (n := 1) (Nat.le_of_ble_eq_true rfl)
  rw [lg_entry_eq]
  generalize (lg_sl ([.ref (qA B 0 i)]) ++ List.replicate (1 - (lg_sl ([.ref (qA B 0 i)])).length) Slot.unset).toArray = ls at hl ⊢
  have hl : lv_has ls 1 [(0, .ref (qA B 0 i))] := hl
  have hP : va_P D vwCl (qG B R N) s.heap := hP
  generalize hRe : (headSpec _ _).room = R9
  have hRf : R9.frames = 0 := by rw [← hRe]; rfl
  have hRc : R9.cells = 0 := by rw [← hRe]; rfl
  have hRs : R9.slots = 0 := by rw [← hRe]; rfl
  have hRl : R9.locals = 0 := by rw [← hRe]; rfl
  clear hRe
  refine lv_aload_n hx hb dX0_cells_0 rfl (lv_at hl 0 rfl) ?_
  refine va_get (D := D) (ci := 0) (v := .int (nI (N 0 i 4))) (C := RX0) (T := TX0) (N := 18) hx hb hts (fun _ h9 => List.mem_cons_of_mem _ (List.mem_append_right _ h9)) hown hK hP (5 + i) (qG_i (by omega)) rfl 4 (by decide) (hts (.fieldLink RX0 25 "PalletStack$Item" "width" "I") (List.mem_of_getElem? (i := 1) (by rfl))) (fun _ h9 => h9) rfl dX0_cells_1 ?_
  refine lv_aload_n hx hb dX0_cells_4 rfl (lv_at hl 0 rfl) ?_
  refine va_get (D := D) (ci := 0) (v := .int (nI (N 0 i 5))) (C := RX0) (T := TX0) (N := 18) hx hb hts (fun _ h9 => List.mem_cons_of_mem _ (List.mem_append_right _ h9)) hown hK hP (5 + i) (qG_i (by omega)) rfl 5 (by decide) (hts (.fieldLink RX0 28 "PalletStack$Item" "depth" "I") (List.mem_of_getElem? (i := 2) (by rfl))) (fun _ h9 => h9) rfl dX0_cells_5 ?_
  refine lv_imul hx hb dX0_cells_8 ?_
  refine lv_topi (fun v_17 ev_17 => ?_)
  obtain rfl : v_17 = (nI (N 0 i 4 * N 0 i 5)) := ev_17.trans (pk_mul _ _)
  exact W.iret (v := (nI (N 0 i 4 * N 0 i 5))) hx hb hr (fun t ht hW => ⟨(nI (N 0 i 4 * N 0 i 5)), rfl, rfl, ht⟩) (fun _ h => by cases h) dX0_cells_9
set_option maxHeartbeats 4000000 in
set_option maxRecDepth 100000 in
theorem c_covers (l : Launch) (D : zG) (sz : Nat) (B : qB) (R : qR0) (N : qN0) (i cx cy : Nat) (hi : i < 61) (hM : qM N) (hcx : cx < 1000) (hcy : cy < 1000) : Met l yX0_covers wsX0_covers ({ frames := 0, cells := 0, slots := 0, locals := 0 }) (zPc D (qT B) (qG B R N) sz [.ref (qA B 0 i), .int (nI cx), .int (nI cy)]) (vp_Si (fun r => r = if qcov (N 0 i 6) (N 0 i 4) (N 0 i 7) (N 0 i 5) cx cy = true then 1 else 0)) 0 0 (fun _ => False) := by
  refine Met.ofW (cc := cX0_covers) (maxL := 3) (ret := (some .boolean)) (by decide) rfl ?_
  intro p e s m args below meth c s₁ B9 hml hv
  obtain ⟨rfl, hsz, hP, hK, hD0⟩ := hv
  have hx := B9.exec
  have hb := B9.bytes
  have hr := B9.returns
  have hts := atoms_spec (ws := wsX0_covers) B9.pre
  have hown : s.vm.findClass RX0 = some m.cls := findClass_of_methodNamed B9.named
  have hlocks := B9.notSynchronized
  subst hsz
  have hD := hD0
  generalize hAe : (fun _ : Nat => True) = A at hD
  have hl := lv_entry ([.ref (qA B 0 i), .int (nI cx), .int (nI cy)]) (n := 3) (Nat.le_of_ble_eq_true rfl)
  rw [lg_entry_eq]
  generalize (lg_sl ([.ref (qA B 0 i), .int (nI cx), .int (nI cy)]) ++ List.replicate (3 - (lg_sl ([.ref (qA B 0 i), .int (nI cx), .int (nI cy)])).length) Slot.unset).toArray = ls at hl ⊢
  have hl : lv_has ls 3 [(0, .ref (qA B 0 i)), (1, .int (nI cx)), (2, .int (nI cy))] := hl
  have hP : va_P D vwCl (qG B R N) s.heap := hP
  generalize hRe : (headSpec _ _).room = R9
  have hRf : R9.frames = 0 := by rw [← hRe]; rfl
  have hRc : R9.cells = 0 := by rw [← hRe]; rfl
  have hRs : R9.slots = 0 := by rw [← hRe]; rfl
  have hRl : R9.locals = 0 := by rw [← hRe]; rfl
  clear hRe
  have b4 := hM 0 i 4
  have b5 := hM 0 i 5
  have b6 := hM 0 i 6
  have b7 := hM 0 i 7
  refine lv_iload_n hx hb dX0_covers_0 rfl (lv_at hl 1 rfl) ?_
  refine lv_aload_n hx hb dX0_covers_1 rfl (lv_at hl 0 rfl) ?_
  refine va_get (D := D) (ci := 0) (v := .int (nI (N 0 i 6))) (C := RX0) (T := TX0) (N := 18) hx hb hts (fun _ h9 => List.mem_cons_of_mem _ (List.mem_append_right _ h9)) hown hK hP (5 + i) (qG_i (by omega)) rfl 6 (by decide) (hts (.fieldLink RX0 31 "PalletStack$Item" "x" "I") (List.mem_of_getElem? (i := 1) (by rfl))) (fun _ h9 => h9) rfl dX0_covers_2 ?_
  refine lv_icmp_lt (tgt := 46) hx hb dX0_covers_5 (by decide) (fun c_18 => ?_) (fun c_18 => ?_)
  · have h_b := True.intro
    have k_19 : cx < (N 0 i 6) := (nI_ltI (a := cx) (b := (N 0 i 6)) (by omega) (by omega)).mp c_18
    refine lv_iconst (v := 0) hx hb dX0_covers_46 (by decide) ?_
    exact W.zret (ty := .boolean) (v := 0) hx hb hr rfl (fun t ht hW => ⟨0, rfl, (if_neg (fun h => by have h := qcov_iff.mp h; omega)).symm, ht⟩) (fun _ h => by cases h) dX0_covers_47
  · have h_b := True.intro
    have k_20 : ¬ (cx < (N 0 i 6)) := fun h9 => c_18 ((nI_ltI (a := cx) (b := (N 0 i 6)) (by omega) (by omega)).mpr h9)
    refine lv_iload_n hx hb dX0_covers_8 rfl (lv_at hl 1 rfl) ?_
    refine lv_aload_n hx hb dX0_covers_9 rfl (lv_at hl 0 rfl) ?_
    refine va_get (D := D) (ci := 0) (v := .int (nI (N 0 i 6))) (C := RX0) (T := TX0) (N := 18) hx hb hts (fun _ h9 => List.mem_cons_of_mem _ (List.mem_append_right _ h9)) hown hK hP (5 + i) (qG_i (by omega)) rfl 6 (by decide) (hts (.fieldLink RX0 31 "PalletStack$Item" "x" "I") (List.mem_of_getElem? (i := 1) (by rfl))) (fun _ h9 => h9) rfl dX0_covers_10 ?_
    refine lv_aload_n hx hb dX0_covers_13 rfl (lv_at hl 0 rfl) ?_
    refine va_get (D := D) (ci := 0) (v := .int (nI (N 0 i 4))) (C := RX0) (T := TX0) (N := 18) hx hb hts (fun _ h9 => List.mem_cons_of_mem _ (List.mem_append_right _ h9)) hown hK hP (5 + i) (qG_i (by omega)) rfl 4 (by decide) (hts (.fieldLink RX0 25 "PalletStack$Item" "width" "I") (List.mem_of_getElem? (i := 2) (by rfl))) (fun _ h9 => h9) rfl dX0_covers_14 ?_
    refine lv_iadd hx hb dX0_covers_17 ?_
    refine lv_topi (fun v_21 ev_21 => ?_)
    obtain rfl : v_21 = (nI (N 0 i 6 + N 0 i 4)) := ev_21.trans (nI_add _ _)
    refine lv_icmp_ge (tgt := 46) hx hb dX0_covers_18 (by decide) (fun c_22 => ?_) (fun c_22 => ?_)
    · have h_b := True.intro
      have k_23 : (N 0 i 6 + N 0 i 4) ≤ cx := (nI_leI (a := (N 0 i 6 + N 0 i 4)) (b := cx) (by omega) (by omega)).mp c_22
      refine lv_iconst (v := 0) hx hb dX0_covers_46 (by decide) ?_
      exact W.zret (ty := .boolean) (v := 0) hx hb hr rfl (fun t ht hW => ⟨0, rfl, (if_neg (fun h => by have h := qcov_iff.mp h; omega)).symm, ht⟩) (fun _ h => by cases h) dX0_covers_47
    · have h_b := True.intro
      have k_24 : ¬ ((N 0 i 6 + N 0 i 4) ≤ cx) := fun h9 => c_22 ((nI_leI (a := (N 0 i 6 + N 0 i 4)) (b := cx) (by omega) (by omega)).mpr h9)
      refine lv_iload_n hx hb dX0_covers_21 rfl (lv_at hl 2 rfl) ?_
      refine lv_aload_n hx hb dX0_covers_22 rfl (lv_at hl 0 rfl) ?_
      refine va_get (D := D) (ci := 0) (v := .int (nI (N 0 i 7))) (C := RX0) (T := TX0) (N := 18) hx hb hts (fun _ h9 => List.mem_cons_of_mem _ (List.mem_append_right _ h9)) hown hK hP (5 + i) (qG_i (by omega)) rfl 7 (by decide) (hts (.fieldLink RX0 34 "PalletStack$Item" "y" "I") (List.mem_of_getElem? (i := 3) (by rfl))) (fun _ h9 => h9) rfl dX0_covers_23 ?_
      refine lv_icmp_lt (tgt := 46) hx hb dX0_covers_26 (by decide) (fun c_25 => ?_) (fun c_25 => ?_)
      · have h_b := True.intro
        have k_26 : cy < (N 0 i 7) := (nI_ltI (a := cy) (b := (N 0 i 7)) (by omega) (by omega)).mp c_25
        refine lv_iconst (v := 0) hx hb dX0_covers_46 (by decide) ?_
        exact W.zret (ty := .boolean) (v := 0) hx hb hr rfl (fun t ht hW => ⟨0, rfl, (if_neg (fun h => by have h := qcov_iff.mp h; omega)).symm, ht⟩) (fun _ h => by cases h) dX0_covers_47
      · have h_b := True.intro
        have k_27 : ¬ (cy < (N 0 i 7)) := fun h9 => c_25 ((nI_ltI (a := cy) (b := (N 0 i 7)) (by omega) (by omega)).mpr h9)
        refine lv_iload_n hx hb dX0_covers_29 rfl (lv_at hl 2 rfl) ?_
        refine lv_aload_n hx hb dX0_covers_30 rfl (lv_at hl 0 rfl) ?_
        refine va_get (D := D) (ci := 0) (v := .int (nI (N 0 i 7))) (C := RX0) (T := TX0) (N := 18) hx hb hts (fun _ h9 => List.mem_cons_of_mem _ (List.mem_append_right _ h9)) hown hK hP (5 + i) (qG_i (by omega)) rfl 7 (by decide) (hts (.fieldLink RX0 34 "PalletStack$Item" "y" "I") (List.mem_of_getElem? (i := 3) (by rfl))) (fun _ h9 => h9) rfl dX0_covers_31 ?_
        refine lv_aload_n hx hb dX0_covers_34 rfl (lv_at hl 0 rfl) ?_
        refine va_get (D := D) (ci := 0) (v := .int (nI (N 0 i 5))) (C := RX0) (T := TX0) (N := 18) hx hb hts (fun _ h9 => List.mem_cons_of_mem _ (List.mem_append_right _ h9)) hown hK hP (5 + i) (qG_i (by omega)) rfl 5 (by decide) (hts (.fieldLink RX0 28 "PalletStack$Item" "depth" "I") (List.mem_of_getElem? (i := 4) (by rfl))) (fun _ h9 => h9) rfl dX0_covers_35 ?_
        refine lv_iadd hx hb dX0_covers_38 ?_
        refine lv_topi (fun v_28 ev_28 => ?_)
        obtain rfl : v_28 = (nI (N 0 i 7 + N 0 i 5)) := ev_28.trans (nI_add _ _)
        refine lv_icmp_ge (tgt := 46) hx hb dX0_covers_39 (by decide) (fun c_29 => ?_) (fun c_29 => ?_)
        · have h_b := True.intro
          have k_30 : (N 0 i 7 + N 0 i 5) ≤ cy := (nI_leI (a := (N 0 i 7 + N 0 i 5)) (b := cy) (by omega) (by omega)).mp c_29
          refine lv_iconst (v := 0) hx hb dX0_covers_46 (by decide) ?_
          exact W.zret (ty := .boolean) (v := 0) hx hb hr rfl (fun t ht hW => ⟨0, rfl, (if_neg (fun h => by have h := qcov_iff.mp h; omega)).symm, ht⟩) (fun _ h => by cases h) dX0_covers_47
        · have h_b := True.intro
          have k_31 : ¬ ((N 0 i 7 + N 0 i 5) ≤ cy) := fun h9 => c_29 ((nI_leI (a := (N 0 i 7 + N 0 i 5)) (b := cy) (by omega) (by omega)).mpr h9)
          refine lv_iconst (v := 1) hx hb dX0_covers_42 (by decide) ?_
          refine lv_goto (tgt := 47) hx hb dX0_covers_43 (by decide) ?_
          exact W.zret (ty := .boolean) (v := 1) hx hb hr rfl (fun t ht hW => ⟨1, rfl, (if_pos (qcov_iff.mpr (by omega))).symm, ht⟩) (fun _ h => by cases h) dX0_covers_47
set_option maxHeartbeats 4000000 in
set_option maxRecDepth 100000 in
theorem c_common (l : Launch) (D : zG) (sz : Nat) (B : qB) (R : qR0) (N : qN0) (i j : Nat) (hi : i < 61) (hj : j < 61) (hM : qM N) : Met l yX0_cellsInCommon wsX0_cellsInCommon ({ frames := 1, cells := 0, slots := 0, locals := 20 }) (zPc D (qT B) (qG B R N) sz [.ref (qA B 0 i), .ref (qA B 0 j)]) (vp_Si (fun r => r = nI (qov (N 0 i 6) (N 0 i 4) (N 0 j 6) (N 0 j 4) * qov (N 0 i 7) (N 0 i 5) (N 0 j 7) (N 0 j 5)))) 0 0 (fun _ => False) := by
  refine Met.ofW (cc := cX0_cellsInCommon) (maxL := 4) (ret := (some .int)) (by decide) rfl ?_
  intro p e s m args below meth c s₁ B9 hml hv
  obtain ⟨rfl, hsz, hP, hK, hD0⟩ := hv
  have hx := B9.exec
  have hb := B9.bytes
  have hr := B9.returns
  have hts := atoms_spec (ws := wsX0_cellsInCommon) B9.pre
  have hown : s.vm.findClass RX0 = some m.cls := findClass_of_methodNamed B9.named
  have hlocks := B9.notSynchronized
  subst hsz
  have hD := hD0
  generalize hAe : (fun _ : Nat => True) = A at hD
  have hl := lv_entry ([.ref (qA B 0 i), .ref (qA B 0 j)]) (n := 4) (Nat.le_of_ble_eq_true rfl)
  rw [lg_entry_eq]
  generalize (lg_sl ([.ref (qA B 0 i), .ref (qA B 0 j)]) ++ List.replicate (4 - (lg_sl ([.ref (qA B 0 i), .ref (qA B 0 j)])).length) Slot.unset).toArray = ls at hl ⊢
  have hl : lv_has ls 4 [(0, .ref (qA B 0 i)), (1, .ref (qA B 0 j))] := hl
  have hP : va_P D vwCl (qG B R N) s.heap := hP
  generalize hRe : (headSpec _ _).room = R9
  have hRf : R9.frames = 1 := by rw [← hRe]; rfl
  have hRc : R9.cells = 0 := by rw [← hRe]; rfl
  have hRs : R9.slots = 0 := by rw [← hRe]; rfl
  have hRl : R9.locals = 20 := by rw [← hRe]; rfl
  clear hRe
  have bi4 := hM 0 i 4
  have bi5 := hM 0 i 5
  have bi6 := hM 0 i 6
  have bi7 := hM 0 i 7
  have bj4 := hM 0 j 4
  have bj5 := hM 0 j 5
  have bj6 := hM 0 j 6
  have bj7 := hM 0 j 7
  refine lv_aload_n hx hb dX0_cellsInCommon_0 rfl (lv_at hl 0 rfl) ?_
  refine va_get (D := D) (ci := 0) (v := .int (nI (N 0 i 6))) (C := RX0) (T := TX0) (N := 18) hx hb hts (fun _ h9 => List.mem_cons_of_mem _ (List.mem_append_right _ h9)) hown hK hP (5 + i) (qG_i (by omega)) rfl 6 (by decide) (hts (.fieldLink RX0 31 "PalletStack$Item" "x" "I") (List.mem_of_getElem? (i := 1) (by rfl))) (fun _ h9 => h9) rfl dX0_cellsInCommon_1 ?_
  refine lv_aload_n hx hb dX0_cellsInCommon_4 rfl (lv_at hl 0 rfl) ?_
  refine va_get (D := D) (ci := 0) (v := .int (nI (N 0 i 4))) (C := RX0) (T := TX0) (N := 18) hx hb hts (fun _ h9 => List.mem_cons_of_mem _ (List.mem_append_right _ h9)) hown hK hP (5 + i) (qG_i (by omega)) rfl 4 (by decide) (hts (.fieldLink RX0 25 "PalletStack$Item" "width" "I") (List.mem_of_getElem? (i := 2) (by rfl))) (fun _ h9 => h9) rfl dX0_cellsInCommon_5 ?_
  refine lv_iadd hx hb dX0_cellsInCommon_8 ?_
  refine lv_topi (fun v_32 ev_32 => ?_)
  obtain rfl : v_32 = (nI (N 0 i 6 + N 0 i 4)) := ev_32.trans (nI_add _ _)
  refine lv_aload_n hx hb dX0_cellsInCommon_9 rfl (lv_at hl 1 rfl) ?_
  refine va_get (D := D) (ci := 0) (v := .int (nI (N 0 j 6))) (C := RX0) (T := TX0) (N := 18) hx hb hts (fun _ h9 => List.mem_cons_of_mem _ (List.mem_append_right _ h9)) hown hK hP (5 + j) (qG_i (by omega)) rfl 6 (by decide) (hts (.fieldLink RX0 31 "PalletStack$Item" "x" "I") (List.mem_of_getElem? (i := 1) (by rfl))) (fun _ h9 => h9) rfl dX0_cellsInCommon_10 ?_
  refine lv_aload_n hx hb dX0_cellsInCommon_13 rfl (lv_at hl 1 rfl) ?_
  refine va_get (D := D) (ci := 0) (v := .int (nI (N 0 j 4))) (C := RX0) (T := TX0) (N := 18) hx hb hts (fun _ h9 => List.mem_cons_of_mem _ (List.mem_append_right _ h9)) hown hK hP (5 + j) (qG_i (by omega)) rfl 4 (by decide) (hts (.fieldLink RX0 25 "PalletStack$Item" "width" "I") (List.mem_of_getElem? (i := 2) (by rfl))) (fun _ h9 => h9) rfl dX0_cellsInCommon_14 ?_
  refine lv_iadd hx hb dX0_cellsInCommon_17 ?_
  refine lv_topi (fun v_33 ev_33 => ?_)
  obtain rfl : v_33 = (nI (N 0 j 6 + N 0 j 4)) := ev_33.trans (nI_add _ _)
  refine va_mmin hx hb (hml.trans hl.1.symm) hown (hts (.methodLink RX0 78 Lib.Math.min.name) (List.mem_of_getElem? (i := 3) (by rfl))) (hts (.static Lib.Math.min.name) (List.mem_of_getElem? (i := 4) (by rfl))) (hts (.initialized "java/lang/Math") (List.mem_of_getElem? (i := 5) (by rfl))) (hts (.code Lib.Math.min.name Lib.Math.min.code 2 (some .int)) (List.mem_of_getElem? (i := 6) (by rfl))) (by rw [hRf]; decide) (by rw [hRl]; exact Nat.le_of_ble_eq_true rfl) (Nat.zero_le _) (Nat.zero_le _) dX0_cellsInCommon_18 ?_
  refine lv_topi (fun v_34 ev_34 => ?_)
  obtain rfl : v_34 = nI (min (N 0 i 6 + N 0 i 4) (N 0 j 6 + N 0 j 4)) := ev_34.trans (qmin (by omega) (by omega))
  refine lv_aload_n hx hb dX0_cellsInCommon_21 rfl (lv_at hl 0 rfl) ?_
  refine va_get (D := D) (ci := 0) (v := .int (nI (N 0 i 6))) (C := RX0) (T := TX0) (N := 18) hx hb hts (fun _ h9 => List.mem_cons_of_mem _ (List.mem_append_right _ h9)) hown hK hP (5 + i) (qG_i (by omega)) rfl 6 (by decide) (hts (.fieldLink RX0 31 "PalletStack$Item" "x" "I") (List.mem_of_getElem? (i := 1) (by rfl))) (fun _ h9 => h9) rfl dX0_cellsInCommon_22 ?_
  refine lv_aload_n hx hb dX0_cellsInCommon_25 rfl (lv_at hl 1 rfl) ?_
  refine va_get (D := D) (ci := 0) (v := .int (nI (N 0 j 6))) (C := RX0) (T := TX0) (N := 18) hx hb hts (fun _ h9 => List.mem_cons_of_mem _ (List.mem_append_right _ h9)) hown hK hP (5 + j) (qG_i (by omega)) rfl 6 (by decide) (hts (.fieldLink RX0 31 "PalletStack$Item" "x" "I") (List.mem_of_getElem? (i := 1) (by rfl))) (fun _ h9 => h9) rfl dX0_cellsInCommon_26 ?_
  refine va_mmax hx hb (hml.trans hl.1.symm) hown (hts (.methodLink RX0 84 Lib.Math.max.name) (List.mem_of_getElem? (i := 7) (by rfl))) (hts (.static Lib.Math.max.name) (List.mem_of_getElem? (i := 8) (by rfl))) (hts (.initialized "java/lang/Math") (List.mem_of_getElem? (i := 5) (by rfl))) (hts (.code Lib.Math.max.name Lib.Math.max.code 2 (some .int)) (List.mem_of_getElem? (i := 9) (by rfl))) (by rw [hRf]; decide) (by rw [hRl]; exact Nat.le_of_ble_eq_true rfl) (Nat.zero_le _) (Nat.zero_le _) dX0_cellsInCommon_29 ?_
  refine lv_topi (fun v_35 ev_35 => ?_)
  obtain rfl : v_35 = nI (max (N 0 i 6) (N 0 j 6)) := ev_35.trans (qmax (by omega) (by omega))
  refine lv_isub hx hb dX0_cellsInCommon_32 ?_
  refine lv_topi (fun v_36 ev_36 => ?_)
  have hv_36 : v_36 = nI (min (N 0 i 6 + N 0 i 4) (N 0 j 6 + N 0 j 4)) - nI (max (N 0 i 6) (N 0 j 6)) := ev_36
  refine lv_istore_n (lv' := [(2, .int v_36), (0, .ref (qA B 0 i)), (1, .ref (qA B 0 j))]) hx hb dX0_cellsInCommon_33 rfl hl (by decide) rfl (fun ls hl => ?_)
  refine lv_aload_n hx hb dX0_cellsInCommon_34 rfl (lv_at hl 1 rfl) ?_
  refine va_get (D := D) (ci := 0) (v := .int (nI (N 0 i 7))) (C := RX0) (T := TX0) (N := 18) hx hb hts (fun _ h9 => List.mem_cons_of_mem _ (List.mem_append_right _ h9)) hown hK hP (5 + i) (qG_i (by omega)) rfl 7 (by decide) (hts (.fieldLink RX0 34 "PalletStack$Item" "y" "I") (List.mem_of_getElem? (i := 10) (by rfl))) (fun _ h9 => h9) rfl dX0_cellsInCommon_35 ?_
  refine lv_aload_n hx hb dX0_cellsInCommon_38 rfl (lv_at hl 1 rfl) ?_
  refine va_get (D := D) (ci := 0) (v := .int (nI (N 0 i 5))) (C := RX0) (T := TX0) (N := 18) hx hb hts (fun _ h9 => List.mem_cons_of_mem _ (List.mem_append_right _ h9)) hown hK hP (5 + i) (qG_i (by omega)) rfl 5 (by decide) (hts (.fieldLink RX0 28 "PalletStack$Item" "depth" "I") (List.mem_of_getElem? (i := 11) (by rfl))) (fun _ h9 => h9) rfl dX0_cellsInCommon_39 ?_
  refine lv_iadd hx hb dX0_cellsInCommon_42 ?_
  refine lv_topi (fun v_37 ev_37 => ?_)
  obtain rfl : v_37 = (nI (N 0 i 7 + N 0 i 5)) := ev_37.trans (nI_add _ _)
  refine lv_aload_n hx hb dX0_cellsInCommon_43 rfl (lv_at hl 2 rfl) ?_
  refine va_get (D := D) (ci := 0) (v := .int (nI (N 0 j 7))) (C := RX0) (T := TX0) (N := 18) hx hb hts (fun _ h9 => List.mem_cons_of_mem _ (List.mem_append_right _ h9)) hown hK hP (5 + j) (qG_i (by omega)) rfl 7 (by decide) (hts (.fieldLink RX0 34 "PalletStack$Item" "y" "I") (List.mem_of_getElem? (i := 10) (by rfl))) (fun _ h9 => h9) rfl dX0_cellsInCommon_44 ?_
  refine lv_aload_n hx hb dX0_cellsInCommon_47 rfl (lv_at hl 2 rfl) ?_
  refine va_get (D := D) (ci := 0) (v := .int (nI (N 0 j 5))) (C := RX0) (T := TX0) (N := 18) hx hb hts (fun _ h9 => List.mem_cons_of_mem _ (List.mem_append_right _ h9)) hown hK hP (5 + j) (qG_i (by omega)) rfl 5 (by decide) (hts (.fieldLink RX0 28 "PalletStack$Item" "depth" "I") (List.mem_of_getElem? (i := 11) (by rfl))) (fun _ h9 => h9) rfl dX0_cellsInCommon_48 ?_
  refine lv_iadd hx hb dX0_cellsInCommon_51 ?_
  refine lv_topi (fun v_38 ev_38 => ?_)
  obtain rfl : v_38 = (nI (N 0 j 7 + N 0 j 5)) := ev_38.trans (nI_add _ _)
  refine va_mmin hx hb (hml.trans hl.1.symm) hown (hts (.methodLink RX0 78 Lib.Math.min.name) (List.mem_of_getElem? (i := 3) (by rfl))) (hts (.static Lib.Math.min.name) (List.mem_of_getElem? (i := 4) (by rfl))) (hts (.initialized "java/lang/Math") (List.mem_of_getElem? (i := 5) (by rfl))) (hts (.code Lib.Math.min.name Lib.Math.min.code 2 (some .int)) (List.mem_of_getElem? (i := 6) (by rfl))) (by rw [hRf]; decide) (by rw [hRl]; exact Nat.le_of_ble_eq_true rfl) (Nat.zero_le _) (Nat.zero_le _) dX0_cellsInCommon_52 ?_
  refine lv_topi (fun v_39 ev_39 => ?_)
  obtain rfl : v_39 = nI (min (N 0 i 7 + N 0 i 5) (N 0 j 7 + N 0 j 5)) := ev_39.trans (qmin (by omega) (by omega))
  refine lv_aload_n hx hb dX0_cellsInCommon_55 rfl (lv_at hl 1 rfl) ?_
  refine va_get (D := D) (ci := 0) (v := .int (nI (N 0 i 7))) (C := RX0) (T := TX0) (N := 18) hx hb hts (fun _ h9 => List.mem_cons_of_mem _ (List.mem_append_right _ h9)) hown hK hP (5 + i) (qG_i (by omega)) rfl 7 (by decide) (hts (.fieldLink RX0 34 "PalletStack$Item" "y" "I") (List.mem_of_getElem? (i := 10) (by rfl))) (fun _ h9 => h9) rfl dX0_cellsInCommon_56 ?_
  refine lv_aload_n hx hb dX0_cellsInCommon_59 rfl (lv_at hl 2 rfl) ?_
  refine va_get (D := D) (ci := 0) (v := .int (nI (N 0 j 7))) (C := RX0) (T := TX0) (N := 18) hx hb hts (fun _ h9 => List.mem_cons_of_mem _ (List.mem_append_right _ h9)) hown hK hP (5 + j) (qG_i (by omega)) rfl 7 (by decide) (hts (.fieldLink RX0 34 "PalletStack$Item" "y" "I") (List.mem_of_getElem? (i := 10) (by rfl))) (fun _ h9 => h9) rfl dX0_cellsInCommon_60 ?_
  refine va_mmax hx hb (hml.trans hl.1.symm) hown (hts (.methodLink RX0 84 Lib.Math.max.name) (List.mem_of_getElem? (i := 7) (by rfl))) (hts (.static Lib.Math.max.name) (List.mem_of_getElem? (i := 8) (by rfl))) (hts (.initialized "java/lang/Math") (List.mem_of_getElem? (i := 5) (by rfl))) (hts (.code Lib.Math.max.name Lib.Math.max.code 2 (some .int)) (List.mem_of_getElem? (i := 9) (by rfl))) (by rw [hRf]; decide) (by rw [hRl]; exact Nat.le_of_ble_eq_true rfl) (Nat.zero_le _) (Nat.zero_le _) dX0_cellsInCommon_63 ?_
  refine lv_topi (fun v_40 ev_40 => ?_)
  obtain rfl : v_40 = nI (max (N 0 i 7) (N 0 j 7)) := ev_40.trans (qmax (by omega) (by omega))
  refine lv_isub hx hb dX0_cellsInCommon_66 ?_
  refine lv_topi (fun v_41 ev_41 => ?_)
  have hv_41 : v_41 = nI (min (N 0 i 7 + N 0 i 5) (N 0 j 7 + N 0 j 5)) - nI (max (N 0 i 7) (N 0 j 7)) := ev_41
  refine lv_istore_n (lv' := [(3, .int v_41), (2, .int v_36), (0, .ref (qA B 0 i)), (1, .ref (qA B 0 j))]) hx hb dX0_cellsInCommon_67 rfl hl (by decide) rfl (fun ls hl => ?_)
  refine lv_iload_n hx hb dX0_cellsInCommon_68 rfl (lv_at hl 1 rfl) ?_
  refine lv_if_le (tgt := 82) hx hb dX0_cellsInCommon_69 (by decide) (fun c_42 => ?_) (fun c_42 => ?_)
  · have h_b := True.intro
    have z1 := (qsub_le (by omega) (by omega)).mp (hv_36 ▸ c_42)
    refine lv_iconst (v := 0) hx hb dX0_cellsInCommon_82 (by decide) ?_
    exact W.iret (v := 0) hx hb hr (fun t ht hW => ⟨0, rfl, (by rw [show qov (N 0 i 6) (N 0 i 4) (N 0 j 6) (N 0 j 4) = 0 by unfold qov; omega, Nat.zero_mul]; rfl), ht⟩) (fun _ h => by cases h) dX0_cellsInCommon_83
  · have h_b := True.intro
    refine lv_iload_n hx hb dX0_cellsInCommon_72 rfl (lv_at hl 0 rfl) ?_
    refine lv_if_le (tgt := 82) hx hb dX0_cellsInCommon_73 (by decide) (fun c_43 => ?_) (fun c_43 => ?_)
    · have h_b := True.intro
      have z2 := (qsub_le (by omega) (by omega)).mp (hv_41 ▸ c_43)
      refine lv_iconst (v := 0) hx hb dX0_cellsInCommon_82 (by decide) ?_
      exact W.iret (v := 0) hx hb hr (fun t ht hW => ⟨0, rfl, (by rw [show qov (N 0 i 7) (N 0 i 5) (N 0 j 7) (N 0 j 5) = 0 by unfold qov; omega, Nat.mul_zero]; rfl), ht⟩) (fun _ h => by cases h) dX0_cellsInCommon_83
    · have h_b := True.intro
      have z1 : ¬ (min (N 0 i 6 + N 0 i 4) (N 0 j 6 + N 0 j 4) ≤ max (N 0 i 6) (N 0 j 6)) := fun h9 => c_42 (hv_36 ▸ (qsub_le (by omega) (by omega)).mpr h9)
      have z2 : ¬ (min (N 0 i 7 + N 0 i 5) (N 0 j 7 + N 0 j 5) ≤ max (N 0 i 7) (N 0 j 7)) := fun h9 => c_43 (hv_41 ▸ (qsub_le (by omega) (by omega)).mpr h9)
      refine lv_iload_n hx hb dX0_cellsInCommon_76 rfl (lv_at hl 1 rfl) ?_
      refine lv_iload_n hx hb dX0_cellsInCommon_77 rfl (lv_at hl 0 rfl) ?_
      refine lv_imul hx hb dX0_cellsInCommon_78 ?_
      refine lv_topi (fun v_44 ev_44 => ?_)
      refine lv_goto (tgt := 83) hx hb dX0_cellsInCommon_79 (by decide) ?_
      exact W.iret (v := v_44) hx hb hr (fun t ht hW => ⟨v_44, rfl, (by rw [ev_44, hv_36, hv_41, pk_sub (Nat.le_of_lt (Nat.lt_of_not_le z1)), pk_sub (Nat.le_of_lt (Nat.lt_of_not_le z2)), pk_mul]; rfl), ht⟩) (fun _ h => by cases h) dX0_cellsInCommon_83
set_option maxHeartbeats 4000000 in
set_option maxRecDepth 100000 in
theorem c_kindOf (l : Launch) (D : zG) (sz : Nat) (B : qB) (R : qR0) (N : qN0) (k : Nat) (hk : k < qk B) (hO : qOK B N) : Met l yX3_kindOf wsX3_kindOf ({ frames := 1, cells := 0, slots := 0, locals := 22 }) (zPc D (qT B) (qG B R N) sz [.ref (qA B 5 0), .int (nI k)]) (va_Sq (fun r => r = some (qA B 3 k))) 0 0 (fun _ => False) := by
  refine Met.ofW (cc := cX3_kindOf) (maxL := 2) (ret := (some (.object "PalletStack$Kind"))) (by decide) rfl ?_
  intro p e s m args below meth c s₁ B9 hml hv
  obtain ⟨rfl, hsz, hP, hK, hD0⟩ := hv
  have hx := B9.exec
  have hb := B9.bytes
  have hr := B9.returns
  have hts := atoms_spec (ws := wsX3_kindOf) B9.pre
  have hown : s.vm.findClass RX3 = some m.cls := findClass_of_methodNamed B9.named
  have hlocks := B9.notSynchronized
  subst hsz
  have hD := hD0
  generalize hAe : (fun _ : Nat => True) = A at hD
  have hl := lv_entry ([.ref (qA B 5 0), .int (nI k)]) (n := 2) (Nat.le_of_ble_eq_true rfl)
  rw [lg_entry_eq]
  generalize (lg_sl ([.ref (qA B 5 0), .int (nI k)]) ++ List.replicate (2 - (lg_sl ([.ref (qA B 5 0), .int (nI k)])).length) Slot.unset).toArray = ls at hl ⊢
  have hl : lv_has ls 2 [(0, .ref (qA B 5 0)), (1, .int (nI k))] := hl
  have hP : va_P D vwCl (qG B R N) s.heap := hP
  generalize hRe : (headSpec _ _).room = R9
  have hRf : R9.frames = 1 := by rw [← hRe]; rfl
  have hRc : R9.cells = 0 := by rw [← hRe]; rfl
  have hRs : R9.slots = 0 := by rw [← hRe]; rfl
  have hRl : R9.locals = 22 := by rw [← hRe]; rfl
  clear hRe
  obtain ⟨o1, o2, o3, o4, o5, o6, o7, o8, o9⟩ := hO
  refine lv_iload_n hx hb dX3_kindOf_0 rfl (lv_at hl 1 rfl) ?_
  refine lv_iconst (v := 0) hx hb dX3_kindOf_1 (by decide) ?_
  refine lv_bipush (v := 9) hx hb dX3_kindOf_2 (by decide) ?_
  refine zrdS (As := [.int (nI k), .int 0, .int 9]) (rest := []) (wc := []) ⟨hx, hb, hml, hown, hts⟩ (c_isWithin l D _ (nI k) 0 9) (va_cwS 3 hts gX3_kindOf_X3_isWithin rfl rfl rfl (by decide +kernel) ⟨by rw [hRf]; exact Nat.le_of_ble_eq_true rfl, by rw [hRl]; exact Nat.le_of_ble_eq_true rfl⟩) hK hP hD [] rfl (by decide) [] rfl rfl hl.1 rfl (Nat.le_of_ble_eq_true rfl) dX3_kindOf_4 ⟨by omega, by omega⟩ (fun r_45 hr_45 => ?_)
  refine lv_topi (fun v_46 ev_46 => ?_)
  obtain rfl : v_46 = 1 := ev_46.trans (hr_45.trans (if_pos ⟨nI_pos' (by omega), (nI_leI (b := 9) (by omega) (by decide)).mpr (by omega)⟩))
  refine lv_if_eq (tgt := 27) hx hb dX3_kindOf_7 (by decide) (fun c_47 => absurd c_47 (by decide)) (fun c_47 => ?_)
  refine lv_iload_n hx hb dX3_kindOf_10 rfl (lv_at hl 1 rfl) ?_
  refine lv_aload_n hx hb dX3_kindOf_11 rfl (lv_at hl 0 rfl) ?_
  refine va_get (D := D) (ci := 3) (v := .int (nI (N 4 1 0))) (C := RX3) (T := TX3) (N := 14) hx hb hts (fun _ h9 => List.mem_cons_of_mem _ (List.mem_append_right _ h9)) hown hK hP 0 rfl rfl 1 (by decide) (hts (.fieldLink RX3 15 "PalletStack" "kindCount" "I") (List.mem_of_getElem? (i := 1) (by rfl))) (fun _ h9 => h9) rfl dX3_kindOf_12 ?_
  refine lv_icmp_ge (tgt := 27) hx hb dX3_kindOf_15 (by decide) (fun c_48 => absurd c_48 (fun h => absurd ((nI_leI (by omega) (by omega)).mp h) (by omega))) (fun c_48 => ?_)
  refine lv_aload_n hx hb dX3_kindOf_18 rfl (lv_at hl 0 rfl) ?_
  refine va_get (D := D) (ci := 3) (v := .ref (qA B 5 1)) (C := RX3) (T := TX3) (N := 14) hx hb hts (fun _ h9 => List.mem_cons_of_mem _ (List.mem_append_right _ h9)) hown hK hP 0 rfl rfl 0 (by decide) (hts (.fieldLink RX3 11 "PalletStack" "kinds" "[LPalletStack$Kind;") (List.mem_of_getElem? (i := 2) (by rfl))) (fun _ h9 => h9) rfl dX3_kindOf_19 ?_
  refine lv_iload_n hx hb dX3_kindOf_22 rfl (lv_at hl 1 rfl) ?_
  refine va_aldq hx hb hK hP 1 0 rfl rfl (vp_in_nI (n := k) (N := 10) (by omega) (by decide)) dX3_kindOf_23 ?_
  refine W.eq (g2 := F0 m 24 ls [.ref (qA B 3 k)]) (by rw [nI_clamp (by omega), o2 k hk]; rfl) ?_
  refine lv_goto (tgt := 28) hx hb dX3_kindOf_24 (by decide) ?_
  exact W.aret (v := .ref (qA B 3 k)) hx hb hr (.inl ⟨_, rfl⟩) (.inr ⟨_, rfl⟩) (fun t ht hW => ⟨some (qA B 3 k), rfl, rfl, ht⟩) (fun _ h => by cases h) dX3_kindOf_28
set_option maxHeartbeats 4000000 in
set_option maxRecDepth 100000 in
theorem c_lineOf (l : Launch) (D : zG) (sz : Nat) (B : qB) (R : qR0) (N : qN0) (k : Nat) (hk : k < ql B) (hO : qOK B N) : Met l yX3_lineOf wsX3_lineOf ({ frames := 1, cells := 0, slots := 0, locals := 22 }) (zPc D (qT B) (qG B R N) sz [.ref (qA B 5 0), .int (nI k)]) (va_Sq (fun r => r = some (qA B 4 k))) 0 0 (fun _ => False) := by
  refine Met.ofW (cc := cX3_lineOf) (maxL := 2) (ret := (some (.object "PalletStack$Line"))) (by decide) rfl ?_
  intro p e s m args below meth c s₁ B9 hml hv
  obtain ⟨rfl, hsz, hP, hK, hD0⟩ := hv
  have hx := B9.exec
  have hb := B9.bytes
  have hr := B9.returns
  have hts := atoms_spec (ws := wsX3_lineOf) B9.pre
  have hown : s.vm.findClass RX3 = some m.cls := findClass_of_methodNamed B9.named
  have hlocks := B9.notSynchronized
  subst hsz
  have hD := hD0
  generalize hAe : (fun _ : Nat => True) = A at hD
  have hl := lv_entry ([.ref (qA B 5 0), .int (nI k)]) (n := 2) (Nat.le_of_ble_eq_true rfl)
  rw [lg_entry_eq]
  generalize (lg_sl ([.ref (qA B 5 0), .int (nI k)]) ++ List.replicate (2 - (lg_sl ([.ref (qA B 5 0), .int (nI k)])).length) Slot.unset).toArray = ls at hl ⊢
  have hl : lv_has ls 2 [(0, .ref (qA B 5 0)), (1, .int (nI k))] := hl
  have hP : va_P D vwCl (qG B R N) s.heap := hP
  generalize hRe : (headSpec _ _).room = R9
  have hRf : R9.frames = 1 := by rw [← hRe]; rfl
  have hRc : R9.cells = 0 := by rw [← hRe]; rfl
  have hRs : R9.slots = 0 := by rw [← hRe]; rfl
  have hRl : R9.locals = 22 := by rw [← hRe]; rfl
  clear hRe
  obtain ⟨o1, o2, o3, o4, o5, o6, o7, o8, o9⟩ := hO
  refine lv_iload_n hx hb dX3_lineOf_0 rfl (lv_at hl 1 rfl) ?_
  refine lv_iconst (v := 0) hx hb dX3_lineOf_1 (by decide) ?_
  refine lv_bipush (v := 19) hx hb dX3_lineOf_2 (by decide) ?_
  refine zrdS (As := [.int (nI k), .int 0, .int 19]) (rest := []) (wc := []) ⟨hx, hb, hml, hown, hts⟩ (c_isWithin l D _ (nI k) 0 19) (va_cwS 3 hts gX3_lineOf_X3_isWithin rfl rfl rfl (by decide +kernel) ⟨by rw [hRf]; exact Nat.le_of_ble_eq_true rfl, by rw [hRl]; exact Nat.le_of_ble_eq_true rfl⟩) hK hP hD [] rfl (by decide) [] rfl rfl hl.1 rfl (Nat.le_of_ble_eq_true rfl) dX3_lineOf_4 ⟨by omega, by omega⟩ (fun r_49 hr_49 => ?_)
  refine lv_topi (fun v_50 ev_50 => ?_)
  obtain rfl : v_50 = 1 := ev_50.trans (hr_49.trans (if_pos ⟨nI_pos' (by omega), (nI_leI (b := 19) (by omega) (by decide)).mpr (by omega)⟩))
  refine lv_if_eq (tgt := 27) hx hb dX3_lineOf_7 (by decide) (fun c_51 => absurd c_51 (by decide)) (fun c_51 => ?_)
  refine lv_iload_n hx hb dX3_lineOf_10 rfl (lv_at hl 1 rfl) ?_
  refine lv_aload_n hx hb dX3_lineOf_11 rfl (lv_at hl 0 rfl) ?_
  refine va_get (D := D) (ci := 3) (v := .int (nI (N 4 1 8))) (C := RX3) (T := TX3) (N := 14) hx hb hts (fun _ h9 => List.mem_cons_of_mem _ (List.mem_append_right _ h9)) hown hK hP 0 rfl rfl 13 (by decide) (hts (.fieldLink RX3 62 "PalletStack" "lineCount" "I") (List.mem_of_getElem? (i := 1) (by rfl))) (fun _ h9 => h9) rfl dX3_lineOf_12 ?_
  refine lv_icmp_ge (tgt := 27) hx hb dX3_lineOf_15 (by decide) (fun c_52 => absurd c_52 (fun h => absurd ((nI_leI (by omega) (by omega)).mp h) (by omega))) (fun c_52 => ?_)
  refine lv_aload_n hx hb dX3_lineOf_18 rfl (lv_at hl 0 rfl) ?_
  refine va_get (D := D) (ci := 3) (v := .ref (qA B 5 4)) (C := RX3) (T := TX3) (N := 14) hx hb hts (fun _ h9 => List.mem_cons_of_mem _ (List.mem_append_right _ h9)) hown hK hP 0 rfl rfl 12 (by decide) (hts (.fieldLink RX3 58 "PalletStack" "lines" "[LPalletStack$Line;") (List.mem_of_getElem? (i := 2) (by rfl))) (fun _ h9 => h9) rfl dX3_lineOf_19 ?_
  refine lv_iload_n hx hb dX3_lineOf_22 rfl (lv_at hl 1 rfl) ?_
  refine va_aldq hx hb hK hP 4 3 rfl rfl (vp_in_nI (n := k) (N := 20) (by omega) (by decide)) dX3_lineOf_23 ?_
  refine W.eq (g2 := F0 m 24 ls [.ref (qA B 4 k)]) (by rw [nI_clamp (by omega), o3 k hk]; rfl) ?_
  refine lv_goto (tgt := 28) hx hb dX3_lineOf_24 (by decide) ?_
  exact W.aret (v := .ref (qA B 4 k)) hx hb hr (.inl ⟨_, rfl⟩) (.inr ⟨_, rfl⟩) (fun t ht hW => ⟨some (qA B 4 k), rfl, rfl, ht⟩) (fun _ h => by cases h) dX3_lineOf_28
set_option maxHeartbeats 4000000 in
set_option maxRecDepth 100000 in
theorem c_itemOf (l : Launch) (D : zG) (sz : Nat) (B : qB) (R : qR0) (N : qN0) (i : Nat) (hi : i < N 4 1 5) (hO : qOK B N) : Met l yX3_itemOf wsX3_itemOf ({ frames := 0, cells := 0, slots := 0, locals := 0 }) (zPc D (qT B) (qG B R N) sz [.ref (qA B 5 0), .int (nI i)]) (va_Sq (fun r => r = some (qA B 0 i))) 0 0 (fun _ => False) := by
  refine Met.ofW (cc := cX3_itemOf) (maxL := 3) (ret := (some (.object "PalletStack$Item"))) (by decide) rfl ?_
  intro p e s m args below meth c s₁ B9 hml hv
  obtain ⟨rfl, hsz, hP, hK, hD0⟩ := hv
  have hx := B9.exec
  have hb := B9.bytes
  have hr := B9.returns
  have hts := atoms_spec (ws := wsX3_itemOf) B9.pre
  have hown : s.vm.findClass RX3 = some m.cls := findClass_of_methodNamed B9.named
  have hlocks := B9.notSynchronized
  subst hsz
  have hD := hD0
  generalize hAe : (fun _ : Nat => True) = A at hD
  have hl := lv_entry ([.ref (qA B 5 0), .int (nI i)]) (n := 3) (Nat.le_of_ble_eq_true rfl)
  rw [lg_entry_eq]
  generalize (lg_sl ([.ref (qA B 5 0), .int (nI i)]) ++ List.replicate (3 - (lg_sl ([.ref (qA B 5 0), .int (nI i)])).length) Slot.unset).toArray = ls at hl ⊢
  have hl : lv_has ls 3 [(0, .ref (qA B 5 0)), (1, .int (nI i))] := hl
  have hP : va_P D vwCl (qG B R N) s.heap := hP
  generalize hRe : (headSpec _ _).room = R9
  have hRf : R9.frames = 0 := by rw [← hRe]; rfl
  have hRc : R9.cells = 0 := by rw [← hRe]; rfl
  have hRs : R9.slots = 0 := by rw [← hRe]; rfl
  have hRl : R9.locals = 0 := by rw [← hRe]; rfl
  clear hRe
  obtain ⟨o1, o2, o3, o4, o5, o6, o7, o8, o9⟩ := hO
  refine lv_iload_n hx hb dX3_itemOf_0 rfl (lv_at hl 1 rfl) ?_
  refine lv_if_lt (tgt := 18) hx hb dX3_itemOf_1 (by decide) (fun c_53 => absurd c_53 (nI_pos (by omega))) (fun c_53 => ?_)
  refine lv_iload_n hx hb dX3_itemOf_4 rfl (lv_at hl 1 rfl) ?_
  refine lv_bipush (v := 60) hx hb dX3_itemOf_5 (by decide) ?_
  refine lv_icmp_ge (tgt := 18) hx hb dX3_itemOf_7 (by decide) (fun c_54 => absurd c_54 (nI_ge (b := 60) (by omega) (by decide))) (fun c_54 => ?_)
  refine lv_iload_n hx hb dX3_itemOf_10 rfl (lv_at hl 1 rfl) ?_
  refine lv_aload_n hx hb dX3_itemOf_11 rfl (lv_at hl 0 rfl) ?_
  refine va_get (D := D) (ci := 3) (v := .int (nI (N 4 1 5))) (C := RX3) (T := TX3) (N := 14) hx hb hts (fun _ h9 => List.mem_cons_of_mem _ (List.mem_append_left _ (List.mem_append_right _ h9))) hown hK hP 0 rfl rfl 7 (by decide) (hts (.fieldLink RX3 38 "PalletStack" "cameCount" "I") (List.mem_of_getElem? (i := 1) (by rfl))) (fun _ h9 => h9) rfl dX3_itemOf_12 ?_
  refine lv_icmp_lt (tgt := 20) hx hb dX3_itemOf_15 (by decide) (fun c_55 => ?_) (fun c_55 => absurd ((nI_ltI (by omega) (by omega)).mpr hi) c_55)
  refine lv_aload_n hx hb dX3_itemOf_20 rfl (lv_at hl 0 rfl) ?_
  refine va_get (D := D) (ci := 3) (v := .ref (qA B 5 2)) (C := RX3) (T := TX3) (N := 14) hx hb hts (fun _ h9 => List.mem_cons_of_mem _ (List.mem_append_left _ (List.mem_append_right _ h9))) hown hK hP 0 rfl rfl 6 (by decide) (hts (.fieldLink RX3 34 "PalletStack" "items" "[LPalletStack$Item;") (List.mem_of_getElem? (i := 2) (by rfl))) (fun _ h9 => h9) rfl dX3_itemOf_21 ?_
  refine lv_iload_n hx hb dX3_itemOf_24 rfl (lv_at hl 1 rfl) ?_
  refine va_aldq hx hb hK hP 2 1 rfl rfl (vp_in_nI (n := i) (N := 60) (by omega) (by decide)) dX3_itemOf_25 ?_
  refine W.eq (g2 := F0 m 26 ls [.ref (qA B 0 i)]) (by rw [nI_clamp (by omega), o1 i (by omega)]; rfl) ?_
  refine lv_astore_n (lv' := [(2, .ref (qA B 0 i)), (0, .ref (qA B 5 0)), (1, .int (nI i))]) hx hb dX3_itemOf_26 rfl hl (by decide) rfl (fun ls hl => ?_)
  refine lv_aload_n hx hb dX3_itemOf_27 rfl (lv_at hl 0 rfl) ?_
  refine lv_ifnull hx hb dX3_itemOf_28 ?_
  refine lv_aload_n hx hb dX3_itemOf_31 rfl (lv_at hl 0 rfl) ?_
  refine va_get (D := D) (ci := 0) (v := .int (nI (N 0 i 13))) (C := RX0) (T := TX0) (N := 18) hx hb hts (fun _ h9 => List.mem_cons_of_mem _ (List.mem_append_right _ h9)) hown hK hP (5 + i) (qG_i (by omega)) rfl 13 (by decide) (hts (.fieldLink RX3 104 "PalletStack$Item" "isOnPallet" "Z") (List.mem_of_getElem? (i := 3) (by rfl))) (fun _ h9 => h9) rfl dX3_itemOf_32 ?_
  refine lv_if_eq (tgt := 42) hx hb dX3_itemOf_35 (by decide) (fun c_57 => absurd c_57 (by rw [o9 i hi]; decide)) (fun c_57 => ?_)
  refine lv_aload_n hx hb dX3_itemOf_38 rfl (lv_at hl 0 rfl) ?_
  refine lv_goto (tgt := 43) hx hb dX3_itemOf_39 (by decide) ?_
  exact W.aret (v := .ref (qA B 0 i)) hx hb hr (.inl ⟨_, rfl⟩) (.inr ⟨_, rfl⟩) (fun t ht hW => ⟨some (qA B 0 i), rfl, rfl, ht⟩) (fun _ h => by cases h) dX3_itemOf_43
set_option maxHeartbeats 4000000 in
set_option maxRecDepth 100000 in
theorem c_topOf (l : Launch) (D : zG) (sz : Nat) (B : qB) (R : qR0) (N : qN0) (a b : Nat) (ha : a < 12) (hb2 : b < 10) : Met l yX3_topOf wsX3_topOf ({ frames := 0, cells := 0, slots := 0, locals := 0 }) (zPc D (qT B) (qG B R N) sz [.ref (qA B 5 0), .int (nI a), .int (nI b)]) (vp_Si (fun r => r = nI (N 4 0 (b * 12 + a)))) 0 0 (fun _ => False) := by
  refine Met.ofW (cc := cX3_topOf) (maxL := 4) (ret := (some .int)) (by decide) rfl ?_
  intro p e s m args below meth c s₁ B9 hml hv
  obtain ⟨rfl, hsz, hP, hK, hD0⟩ := hv
  have hx := B9.exec
  have hb := B9.bytes
  have hr := B9.returns
  have hts := atoms_spec (ws := wsX3_topOf) B9.pre
  have hown : s.vm.findClass RX3 = some m.cls := findClass_of_methodNamed B9.named
  have hlocks := B9.notSynchronized
  subst hsz
  have hD := hD0
  generalize hAe : (fun _ : Nat => True) = A at hD
  have hl := lv_entry ([.ref (qA B 5 0), .int (nI a), .int (nI b)]) (n := 4) (Nat.le_of_ble_eq_true rfl)
  rw [lg_entry_eq]
  generalize (lg_sl ([.ref (qA B 5 0), .int (nI a), .int (nI b)]) ++ List.replicate (4 - (lg_sl ([.ref (qA B 5 0), .int (nI a), .int (nI b)])).length) Slot.unset).toArray = ls at hl ⊢
  have hl : lv_has ls 4 [(0, .ref (qA B 5 0)), (1, .int (nI a)), (2, .int (nI b))] := hl
  have hP : va_P D vwCl (qG B R N) s.heap := hP
  generalize hRe : (headSpec _ _).room = R9
  have hRf : R9.frames = 0 := by rw [← hRe]; rfl
  have hRc : R9.cells = 0 := by rw [← hRe]; rfl
  have hRs : R9.slots = 0 := by rw [← hRe]; rfl
  have hRl : R9.locals = 0 := by rw [← hRe]; rfl
  clear hRe
  refine lv_iload_n hx hb dX3_topOf_0 rfl (lv_at hl 2 rfl) ?_
  refine lv_bipush (v := 12) hx hb dX3_topOf_1 (by decide) ?_
  refine lv_imul hx hb dX3_topOf_3 ?_
  refine lv_topi (fun v_58 ev_58 => ?_)
  obtain rfl : v_58 = (nI (b * 12)) := ev_58.trans (pk_mul b 12)
  refine lv_iload_n hx hb dX3_topOf_4 rfl (lv_at hl 1 rfl) ?_
  refine lv_iadd hx hb dX3_topOf_5 ?_
  refine lv_topi (fun v_59 ev_59 => ?_)
  obtain rfl : v_59 = (nI (b * 12 + a)) := ev_59.trans (nI_add _ _)
  refine lv_istore_n (lv' := [(3, .int (nI (b * 12 + a))), (0, .ref (qA B 5 0)), (1, .int (nI a)), (2, .int (nI b))]) hx hb dX3_topOf_6 rfl hl (by decide) rfl (fun ls hl => ?_)
  refine lv_iload_n hx hb dX3_topOf_7 rfl (lv_at hl 0 rfl) ?_
  refine lv_if_lt (tgt := 26) hx hb dX3_topOf_8 (by decide) (fun c_60 => absurd c_60 (nI_pos (by omega))) (fun c_60 => ?_)
  refine lv_iload_n hx hb dX3_topOf_11 rfl (lv_at hl 0 rfl) ?_
  refine lv_bipush (v := 120) hx hb dX3_topOf_12 (by decide) ?_
  refine lv_icmp_ge (tgt := 26) hx hb dX3_topOf_14 (by decide) (fun c_61 => absurd c_61 (nI_ge (b := 120) (by omega) (by decide))) (fun c_61 => ?_)
  refine lv_aload_n hx hb dX3_topOf_17 rfl (lv_at hl 1 rfl) ?_
  refine va_get (D := D) (ci := 3) (v := .ref (qA B 5 3)) (C := RX3) (T := TX3) (N := 14) hx hb hts (fun _ h9 => List.mem_cons_of_mem _ (List.mem_append_right _ h9)) hown hK hP 0 rfl rfl 10 (by decide) (hts (.fieldLink RX3 47 "PalletStack" "tops" "[I") (List.mem_of_getElem? (i := 1) (by rfl))) (fun _ h9 => h9) rfl dX3_topOf_18 ?_
  refine lv_iload_n hx hb dX3_topOf_21 rfl (lv_at hl 0 rfl) ?_
  refine va_iald hx hb hK hP 3 2 rfl rfl (vp_in_nI (n := (b * 12 + a)) (N := 120) (by omega) (by decide)) dX3_topOf_22 ?_
  refine lv_topi (fun v_62 ev_62 => ?_)
  obtain rfl : v_62 = (nI (N 4 0 (b * 12 + a))) := ev_62.trans (by rw [nI_clamp (by omega)])
  refine lv_goto (tgt := 27) hx hb dX3_topOf_23 (by decide) ?_
  exact W.iret (v := (nI (N 4 0 (b * 12 + a)))) hx hb hr (fun t ht hW => ⟨(nI (N 4 0 (b * 12 + a))), rfl, rfl, ht⟩) (fun _ h => by cases h) dX3_topOf_27
set_option maxHeartbeats 4000000 in
set_option maxRecDepth 100000 in
theorem c_countOf1 (l : Launch) (D : zG) (sz : Nat) (B : qB) (R : qR0) (N : qN0)  : Met l yX3_countOf wsX3_countOf ({ frames := 0, cells := 0, slots := 0, locals := 0 }) (zPc D (qT B) (qG B R N) sz [.ref (qA B 5 0), .int 1]) (vp_Si (fun r => r = nI (N 4 1 6))) 0 0 (fun _ => False) := by
  refine Met.ofW (cc := cX3_countOf) (maxL := 2) (ret := (some .int)) (by decide) rfl ?_
  intro p e s m args below meth c s₁ B9 hml hv
  obtain ⟨rfl, hsz, hP, hK, hD0⟩ := hv
  have hx := B9.exec
  have hb := B9.bytes
  have hr := B9.returns
  have hts := atoms_spec (ws := wsX3_countOf) B9.pre
  have hown : s.vm.findClass RX3 = some m.cls := findClass_of_methodNamed B9.named
  have hlocks := B9.notSynchronized
  subst hsz
  have hD := hD0
  generalize hAe : (fun _ : Nat => True) = A at hD
  have hl := lv_entry ([.ref (qA B 5 0), .int 1]) (n := 2) (Nat.le_of_ble_eq_true rfl)
  rw [lg_entry_eq]
  generalize (lg_sl ([.ref (qA B 5 0), .int 1]) ++ List.replicate (2 - (lg_sl ([.ref (qA B 5 0), .int 1])).length) Slot.unset).toArray = ls at hl ⊢
  have hl : lv_has ls 2 [(0, .ref (qA B 5 0)), (1, .int 1)] := hl
  have hP : va_P D vwCl (qG B R N) s.heap := hP
  generalize hRe : (headSpec _ _).room = R9
  have hRf : R9.frames = 0 := by rw [← hRe]; rfl
  have hRc : R9.cells = 0 := by rw [← hRe]; rfl
  have hRs : R9.slots = 0 := by rw [← hRe]; rfl
  have hRl : R9.locals = 0 := by rw [← hRe]; rfl
  clear hRe
  refine lv_iload_n hx hb dX3_countOf_0 rfl (lv_at hl 1 rfl) ?_
  refine lv_tableIn (off := 32) (tgt := 33) hx hb dX3_countOf_1 (by decide) (by decide) (by decide) (by decide) ?_
  refine lv_aload_n hx hb dX3_countOf_33 rfl (lv_at hl 0 rfl) ?_
  refine va_get (D := D) (ci := 3) (v := .int (nI (N 4 1 6))) (C := RX3) (T := TX3) (N := 14) hx hb hts (fun _ h9 => List.mem_cons_of_mem _ (List.mem_append_right _ h9)) hown hK hP 0 rfl rfl 8 (by decide) (hts (.fieldLink RX3 41 "PalletStack" "onPalletCount" "I") (List.mem_of_getElem? (i := 2) (by rfl))) (fun _ h9 => h9) rfl dX3_countOf_34 ?_
  exact W.iret (v := (nI (N 4 1 6))) hx hb hr (fun t ht hW => ⟨(nI (N 4 1 6)), rfl, rfl, ht⟩) (fun _ h => by cases h) dX3_countOf_37
set_option maxHeartbeats 4000000 in
set_option maxRecDepth 100000 in
theorem c_count1 (l : Launch) (D : zG) (sz : Nat) (B : qB) (R : qR0) (N : qN0)  : Met l yX3_count wsX3_count ({ frames := 1, cells := 0, slots := 0, locals := 30 }) (zPc D (qT B) (qG B R N) sz [.ref (qA B 5 0), .int 1]) (vp_Si (fun r => r = nI (N 4 1 6))) 0 0 (fun _ => False) := by
  refine Met.ofW (cc := cX3_count) (maxL := 2) (ret := (some .int)) (by decide) rfl ?_
  intro p e s m args below meth c s₁ B9 hml hv
  obtain ⟨rfl, hsz, hP, hK, hD0⟩ := hv
  have hx := B9.exec
  have hb := B9.bytes
  have hr := B9.returns
  have hts := atoms_spec (ws := wsX3_count) B9.pre
  have hown : s.vm.findClass RX3 = some m.cls := findClass_of_methodNamed B9.named
  have hlocks := B9.notSynchronized
  subst hsz
  have hD := hD0
  generalize hAe : (fun _ : Nat => True) = A at hD
  have hl := lv_entry ([.ref (qA B 5 0), .int 1]) (n := 2) (Nat.le_of_ble_eq_true rfl)
  rw [lg_entry_eq]
  generalize (lg_sl ([.ref (qA B 5 0), .int 1]) ++ List.replicate (2 - (lg_sl ([.ref (qA B 5 0), .int 1])).length) Slot.unset).toArray = ls at hl ⊢
  have hl : lv_has ls 2 [(0, .ref (qA B 5 0)), (1, .int 1)] := hl
  have hP : va_P D vwCl (qG B R N) s.heap := hP
  generalize hRe : (headSpec _ _).room = R9
  have hRf : R9.frames = 1 := by rw [← hRe]; rfl
  have hRc : R9.cells = 0 := by rw [← hRe]; rfl
  have hRs : R9.slots = 0 := by rw [← hRe]; rfl
  have hRl : R9.locals = 30 := by rw [← hRe]; rfl
  clear hRe
  refine lv_iload_n hx hb dX3_count_0 rfl (lv_at hl 1 rfl) ?_
  refine lv_iconst (v := 0) hx hb dX3_count_1 (by decide) ?_
  refine lv_iconst (v := 3) hx hb dX3_count_2 (by decide) ?_
  refine zrdS (As := [.int 1, .int 0, .int 3]) (rest := []) (wc := []) ⟨hx, hb, hml, hown, hts⟩ (c_isWithin l D _ 1 0 3) (va_cwS 3 hts gX3_count_X3_isWithin rfl rfl rfl (by decide +kernel) ⟨by rw [hRf]; exact Nat.le_of_ble_eq_true rfl, by rw [hRl]; exact Nat.le_of_ble_eq_true rfl⟩) hK hP hD [] rfl (by decide) [] rfl rfl hl.1 rfl (Nat.le_of_ble_eq_true rfl) dX3_count_3 ⟨by omega, by omega⟩ (fun r_63 hr_63 => ?_)
  refine lv_topi (fun v_64 ev_64 => ?_)
  obtain rfl : v_64 = 1 := ev_64.trans (hr_63.trans (by decide))
  refine lv_if_ne (tgt := 17) hx hb dX3_count_6 (by decide) (fun c_65 => ?_) (fun c_65 => absurd c_65 (by decide))
  refine lv_aload_n hx hb dX3_count_17 rfl (lv_at hl 0 rfl) ?_
  refine lv_iload_n hx hb dX3_count_18 rfl (lv_at hl 1 rfl) ?_
  refine zrdV2 (As := [.int 1]) (rest := []) (wc := qG B R N) ⟨hx, hb, hml, hown, hts⟩ (c_countOf1 l D _ B R N) (cwV 1 hts gX3_count_X3_countOf rfl rfl rfl (by decide +kernel) ⟨by rw [hRf]; exact Nat.le_of_ble_eq_true rfl, by rw [hRl]; exact Nat.le_of_ble_eq_true rfl⟩) hK hP hD [0, 1, 2, 3] rfl (ci := 3) (q0 := 0) rfl rfl rfl hl.1 rfl (Nat.le_of_ble_eq_true rfl) dX3_count_19 ⟨by omega, by omega⟩ (fun r_66 hr_66 => ?_)
  refine lv_topi (fun v_67 ev_67 => ?_)
  obtain rfl : v_67 = (nI (N 4 1 6)) := ev_67.trans hr_66
  exact W.iret (v := (nI (N 4 1 6))) hx hb hr (fun t ht hW => ⟨(nI (N 4 1 6)), rfl, rfl, ht⟩) (fun _ h => by cases h) dX3_count_22
set_option maxHeartbeats 4000000 in
set_option maxRecDepth 100000 in
theorem c_factOf_0 (l : Launch) (D : zG) (sz : Nat) (B : qB) (R : qR0) (N : qN0) (i : Nat) (hi : i < 61) : Met l yX3_factOf wsX3_factOf ({ frames := 0, cells := 0, slots := 0, locals := 0 }) (zPc D (qT B) (qG B R N) sz [.ref (qA B 5 0), .ref (qA B 0 i), .int 0]) (vp_Si (fun r => r = nI (N 0 i 0))) 0 0 (fun _ => False) := by
  refine Met.ofW (cc := cX3_factOf) (maxL := 3) (ret := (some .int)) (by decide) rfl ?_
  intro p e s m args below meth c s₁ B9 hml hv
  obtain ⟨rfl, hsz, hP, hK, hD0⟩ := hv
  have hx := B9.exec
  have hb := B9.bytes
  have hr := B9.returns
  have hts := atoms_spec (ws := wsX3_factOf) B9.pre
  have hown : s.vm.findClass RX3 = some m.cls := findClass_of_methodNamed B9.named
  have hlocks := B9.notSynchronized
  subst hsz
  have hD := hD0
  generalize hAe : (fun _ : Nat => True) = A at hD
  have hl := lv_entry ([.ref (qA B 5 0), .ref (qA B 0 i), .int 0]) (n := 3) (Nat.le_of_ble_eq_true rfl)
  rw [lg_entry_eq]
  generalize (lg_sl ([.ref (qA B 5 0), .ref (qA B 0 i), .int 0]) ++ List.replicate (3 - (lg_sl ([.ref (qA B 5 0), .ref (qA B 0 i), .int 0])).length) Slot.unset).toArray = ls at hl ⊢
  have hl : lv_has ls 3 [(0, .ref (qA B 5 0)), (1, .ref (qA B 0 i)), (2, .int 0)] := hl
  have hP : va_P D vwCl (qG B R N) s.heap := hP
  generalize hRe : (headSpec _ _).room = R9
  have hRf : R9.frames = 0 := by rw [← hRe]; rfl
  have hRc : R9.cells = 0 := by rw [← hRe]; rfl
  have hRs : R9.slots = 0 := by rw [← hRe]; rfl
  have hRl : R9.locals = 0 := by rw [← hRe]; rfl
  clear hRe
  refine lv_iload_n hx hb dX3_factOf_0 rfl (lv_at hl 2 rfl) ?_
  refine lv_tableIn (off := 51) (tgt := 52) hx hb dX3_factOf_1 (by decide) (by decide) (by decide) (by decide) ?_
  refine lv_aload_n hx hb dX3_factOf_52 rfl (lv_at hl 1 rfl) ?_
  refine va_get (D := D) (ci := 0) (v := .int (nI (N 0 i 0))) (C := RX0) (T := TX0) (N := 18) hx hb hts (fun _ h9 => List.mem_cons_of_mem _ (List.mem_append_left _ (List.mem_append_right _ h9))) hown hK hP (5 + i) (qG_i (by omega)) rfl 0 (by decide) (hts (.fieldLink RX3 203 "PalletStack$Item" "kind" "I") (List.mem_of_getElem? (i := 1) (by rfl))) (fun _ h9 => h9) rfl dX3_factOf_53 ?_
  exact W.iret (v := (nI (N 0 i 0))) hx hb hr (fun t ht hW => ⟨(nI (N 0 i 0)), rfl, rfl, ht⟩) (fun _ h => by cases h) dX3_factOf_56
set_option maxHeartbeats 4000000 in
set_option maxRecDepth 100000 in
theorem c_item_0 (l : Launch) (D : zG) (sz : Nat) (B : qB) (R : qR0) (N : qN0) (i : Nat) (hi : i < N 4 1 5) (hO : qOK B N) : Met l yX3_item wsX3_item ({ frames := 2, cells := 0, slots := 0, locals := 45 }) (zPc D (qT B) (qG B R N) sz [.ref (qA B 5 0), .int (nI i), .int 0]) (vp_Si (fun r => r = nI (N 0 i 0))) 0 0 (fun _ => False) := by
  refine Met.ofW (cc := cX3_item) (maxL := 4) (ret := (some .int)) (by decide) rfl ?_
  intro p e s m args below meth c s₁ B9 hml hv
  obtain ⟨rfl, hsz, hP, hK, hD0⟩ := hv
  have hx := B9.exec
  have hb := B9.bytes
  have hr := B9.returns
  have hts := atoms_spec (ws := wsX3_item) B9.pre
  have hown : s.vm.findClass RX3 = some m.cls := findClass_of_methodNamed B9.named
  have hlocks := B9.notSynchronized
  subst hsz
  have hD := hD0
  generalize hAe : (fun _ : Nat => True) = A at hD
  have hl := lv_entry ([.ref (qA B 5 0), .int (nI i), .int 0]) (n := 4) (Nat.le_of_ble_eq_true rfl)
  rw [lg_entry_eq]
  generalize (lg_sl ([.ref (qA B 5 0), .int (nI i), .int 0]) ++ List.replicate (4 - (lg_sl ([.ref (qA B 5 0), .int (nI i), .int 0])).length) Slot.unset).toArray = ls at hl ⊢
  have hl : lv_has ls 4 [(0, .ref (qA B 5 0)), (1, .int (nI i)), (2, .int 0)] := hl
  have hP : va_P D vwCl (qG B R N) s.heap := hP
  generalize hRe : (headSpec _ _).room = R9
  have hRf : R9.frames = 2 := by rw [← hRe]; rfl
  have hRc : R9.cells = 0 := by rw [← hRe]; rfl
  have hRs : R9.slots = 0 := by rw [← hRe]; rfl
  have hRl : R9.locals = 45 := by rw [← hRe]; rfl
  clear hRe
  have o8 := hO.2.2.2.2.2.2.2.1
  refine lv_aload_n hx hb dX3_item_0 rfl (lv_at hl 0 rfl) ?_
  refine lv_iload_n hx hb dX3_item_1 rfl (lv_at hl 1 rfl) ?_
  refine zrdVq2 (As := [.int (nI i)]) (rest := []) (wc := qG B R N) ⟨hx, hb, hml, hown, hts⟩ (c_itemOf l D _ B R N i hi hO) (cwV 1 hts gX3_item_X3_itemOf rfl rfl rfl (by decide +kernel) ⟨by rw [hRf]; exact Nat.le_of_ble_eq_true rfl, by rw [hRl]; exact Nat.le_of_ble_eq_true rfl⟩) hK hP hD [0, 1, 2, 3] rfl (ci := 3) (q0 := 0) rfl rfl rfl hl.1 rfl (Nat.le_of_ble_eq_true rfl) dX3_item_2 ⟨by omega, by omega⟩ (fun r_68 hr_68 => ?_)
  refine W.eq (g2 := F0 m 5 ls [.ref (qA B 0 i)]) (by rw [hr_68]; rfl) ?_
  refine lv_astore_n (lv' := [(3, .ref (qA B 0 i)), (0, .ref (qA B 5 0)), (1, .int (nI i)), (2, .int 0)]) hx hb dX3_item_5 rfl hl (by decide) rfl (fun ls hl => ?_)
  refine lv_aload_n hx hb dX3_item_6 rfl (lv_at hl 0 rfl) ?_
  refine lv_ifnull hx hb dX3_item_7 ?_
  refine lv_iload_n hx hb dX3_item_10 rfl (lv_at hl 3 rfl) ?_
  refine lv_iconst (v := 0) hx hb dX3_item_11 (by decide) ?_
  refine lv_bipush (v := 9) hx hb dX3_item_12 (by decide) ?_
  refine zrdS (As := [.int 0, .int 0, .int 9]) (rest := []) (wc := []) ⟨hx, hb, hml, hown, hts⟩ (c_isWithin l D _ 0 0 9) (va_cwS 3 hts gX3_item_X3_isWithin rfl rfl rfl (by decide +kernel) ⟨by rw [hRf]; exact Nat.le_of_ble_eq_true rfl, by rw [hRl]; exact Nat.le_of_ble_eq_true rfl⟩) hK hP hD [] rfl (by decide) [] rfl rfl hl.1 rfl (Nat.le_of_ble_eq_true rfl) dX3_item_14 ⟨by omega, by omega⟩ (fun r_70 hr_70 => ?_)
  refine lv_topi (fun v_71 ev_71 => ?_)
  obtain rfl : v_71 = 1 := ev_71.trans (hr_70.trans (by decide))
  refine lv_if_ne (tgt := 28) hx hb dX3_item_17 (by decide) (fun c_72 => ?_) (fun c_72 => absurd c_72 (by decide))
  refine lv_aload_n hx hb dX3_item_28 rfl (lv_at hl 1 rfl) ?_
  refine lv_aload_n hx hb dX3_item_29 rfl (lv_at hl 0 rfl) ?_
  refine lv_iload_n hx hb dX3_item_30 rfl (lv_at hl 3 rfl) ?_
  refine zrdV2 (As := [.ref (qA B 0 i), .int 0]) (rest := []) (wc := qG B R N) ⟨hx, hb, hml, hown, hts⟩ (c_factOf_0 l D _ B R N i (by omega)) (cwV 2 hts gX3_item_X3_factOf rfl rfl rfl (by decide +kernel) ⟨by rw [hRf]; exact Nat.le_of_ble_eq_true rfl, by rw [hRl]; exact Nat.le_of_ble_eq_true rfl⟩) hK hP hD [0, 1, 2, 3] rfl (ci := 3) (q0 := 0) rfl rfl rfl hl.1 rfl (Nat.le_of_ble_eq_true rfl) dX3_item_31 ⟨by omega, by omega⟩ (fun r_73 hr_73 => ?_)
  refine lv_topi (fun v_74 ev_74 => ?_)
  obtain rfl : v_74 = (nI (N 0 i 0)) := ev_74.trans hr_73
  exact W.iret (v := (nI (N 0 i 0))) hx hb hr (fun t ht hW => ⟨(nI (N 0 i 0)), rfl, rfl, ht⟩) (fun _ h => by cases h) dX3_item_34
set_option maxHeartbeats 4000000 in
set_option maxRecDepth 100000 in
theorem c_factOf_1 (l : Launch) (D : zG) (sz : Nat) (B : qB) (R : qR0) (N : qN0) (i : Nat) (hi : i < 61) : Met l yX3_factOf wsX3_factOf ({ frames := 0, cells := 0, slots := 0, locals := 0 }) (zPc D (qT B) (qG B R N) sz [.ref (qA B 5 0), .ref (qA B 0 i), .int 1]) (vp_Si (fun r => r = nI (N 0 i 6))) 0 0 (fun _ => False) := by
  refine Met.ofW (cc := cX3_factOf) (maxL := 3) (ret := (some .int)) (by decide) rfl ?_
  intro p e s m args below meth c s₁ B9 hml hv
  obtain ⟨rfl, hsz, hP, hK, hD0⟩ := hv
  have hx := B9.exec
  have hb := B9.bytes
  have hr := B9.returns
  have hts := atoms_spec (ws := wsX3_factOf) B9.pre
  have hown : s.vm.findClass RX3 = some m.cls := findClass_of_methodNamed B9.named
  have hlocks := B9.notSynchronized
  subst hsz
  have hD := hD0
  generalize hAe : (fun _ : Nat => True) = A at hD
  have hl := lv_entry ([.ref (qA B 5 0), .ref (qA B 0 i), .int 1]) (n := 3) (Nat.le_of_ble_eq_true rfl)
  rw [lg_entry_eq]
  generalize (lg_sl ([.ref (qA B 5 0), .ref (qA B 0 i), .int 1]) ++ List.replicate (3 - (lg_sl ([.ref (qA B 5 0), .ref (qA B 0 i), .int 1])).length) Slot.unset).toArray = ls at hl ⊢
  have hl : lv_has ls 3 [(0, .ref (qA B 5 0)), (1, .ref (qA B 0 i)), (2, .int 1)] := hl
  have hP : va_P D vwCl (qG B R N) s.heap := hP
  generalize hRe : (headSpec _ _).room = R9
  have hRf : R9.frames = 0 := by rw [← hRe]; rfl
  have hRc : R9.cells = 0 := by rw [← hRe]; rfl
  have hRs : R9.slots = 0 := by rw [← hRe]; rfl
  have hRl : R9.locals = 0 := by rw [← hRe]; rfl
  clear hRe
  refine lv_iload_n hx hb dX3_factOf_0 rfl (lv_at hl 2 rfl) ?_
  refine lv_tableIn (off := 56) (tgt := 57) hx hb dX3_factOf_1 (by decide) (by decide) (by decide) (by decide) ?_
  refine lv_aload_n hx hb dX3_factOf_57 rfl (lv_at hl 1 rfl) ?_
  refine va_get (D := D) (ci := 0) (v := .int (nI (N 0 i 6))) (C := RX0) (T := TX0) (N := 18) hx hb hts (fun _ h9 => List.mem_cons_of_mem _ (List.mem_append_left _ (List.mem_append_right _ h9))) hown hK hP (5 + i) (qG_i (by omega)) rfl 6 (by decide) (hts (.fieldLink RX3 182 "PalletStack$Item" "x" "I") (List.mem_of_getElem? (i := 2) (by rfl))) (fun _ h9 => h9) rfl dX3_factOf_58 ?_
  exact W.iret (v := (nI (N 0 i 6))) hx hb hr (fun t ht hW => ⟨(nI (N 0 i 6)), rfl, rfl, ht⟩) (fun _ h => by cases h) dX3_factOf_61
set_option maxHeartbeats 4000000 in
set_option maxRecDepth 100000 in
theorem c_item_1 (l : Launch) (D : zG) (sz : Nat) (B : qB) (R : qR0) (N : qN0) (i : Nat) (hi : i < N 4 1 5) (hO : qOK B N) : Met l yX3_item wsX3_item ({ frames := 2, cells := 0, slots := 0, locals := 45 }) (zPc D (qT B) (qG B R N) sz [.ref (qA B 5 0), .int (nI i), .int 1]) (vp_Si (fun r => r = nI (N 0 i 6))) 0 0 (fun _ => False) := by
  refine Met.ofW (cc := cX3_item) (maxL := 4) (ret := (some .int)) (by decide) rfl ?_
  intro p e s m args below meth c s₁ B9 hml hv
  obtain ⟨rfl, hsz, hP, hK, hD0⟩ := hv
  have hx := B9.exec
  have hb := B9.bytes
  have hr := B9.returns
  have hts := atoms_spec (ws := wsX3_item) B9.pre
  have hown : s.vm.findClass RX3 = some m.cls := findClass_of_methodNamed B9.named
  have hlocks := B9.notSynchronized
  subst hsz
  have hD := hD0
  generalize hAe : (fun _ : Nat => True) = A at hD
  have hl := lv_entry ([.ref (qA B 5 0), .int (nI i), .int 1]) (n := 4) (Nat.le_of_ble_eq_true rfl)
  rw [lg_entry_eq]
  generalize (lg_sl ([.ref (qA B 5 0), .int (nI i), .int 1]) ++ List.replicate (4 - (lg_sl ([.ref (qA B 5 0), .int (nI i), .int 1])).length) Slot.unset).toArray = ls at hl ⊢
  have hl : lv_has ls 4 [(0, .ref (qA B 5 0)), (1, .int (nI i)), (2, .int 1)] := hl
  have hP : va_P D vwCl (qG B R N) s.heap := hP
  generalize hRe : (headSpec _ _).room = R9
  have hRf : R9.frames = 2 := by rw [← hRe]; rfl
  have hRc : R9.cells = 0 := by rw [← hRe]; rfl
  have hRs : R9.slots = 0 := by rw [← hRe]; rfl
  have hRl : R9.locals = 45 := by rw [← hRe]; rfl
  clear hRe
  have o8 := hO.2.2.2.2.2.2.2.1
  refine lv_aload_n hx hb dX3_item_0 rfl (lv_at hl 0 rfl) ?_
  refine lv_iload_n hx hb dX3_item_1 rfl (lv_at hl 1 rfl) ?_
  refine zrdVq2 (As := [.int (nI i)]) (rest := []) (wc := qG B R N) ⟨hx, hb, hml, hown, hts⟩ (c_itemOf l D _ B R N i hi hO) (cwV 1 hts gX3_item_X3_itemOf rfl rfl rfl (by decide +kernel) ⟨by rw [hRf]; exact Nat.le_of_ble_eq_true rfl, by rw [hRl]; exact Nat.le_of_ble_eq_true rfl⟩) hK hP hD [0, 1, 2, 3] rfl (ci := 3) (q0 := 0) rfl rfl rfl hl.1 rfl (Nat.le_of_ble_eq_true rfl) dX3_item_2 ⟨by omega, by omega⟩ (fun r_75 hr_75 => ?_)
  refine W.eq (g2 := F0 m 5 ls [.ref (qA B 0 i)]) (by rw [hr_75]; rfl) ?_
  refine lv_astore_n (lv' := [(3, .ref (qA B 0 i)), (0, .ref (qA B 5 0)), (1, .int (nI i)), (2, .int 1)]) hx hb dX3_item_5 rfl hl (by decide) rfl (fun ls hl => ?_)
  refine lv_aload_n hx hb dX3_item_6 rfl (lv_at hl 0 rfl) ?_
  refine lv_ifnull hx hb dX3_item_7 ?_
  refine lv_iload_n hx hb dX3_item_10 rfl (lv_at hl 3 rfl) ?_
  refine lv_iconst (v := 0) hx hb dX3_item_11 (by decide) ?_
  refine lv_bipush (v := 9) hx hb dX3_item_12 (by decide) ?_
  refine zrdS (As := [.int 1, .int 0, .int 9]) (rest := []) (wc := []) ⟨hx, hb, hml, hown, hts⟩ (c_isWithin l D _ 1 0 9) (va_cwS 3 hts gX3_item_X3_isWithin rfl rfl rfl (by decide +kernel) ⟨by rw [hRf]; exact Nat.le_of_ble_eq_true rfl, by rw [hRl]; exact Nat.le_of_ble_eq_true rfl⟩) hK hP hD [] rfl (by decide) [] rfl rfl hl.1 rfl (Nat.le_of_ble_eq_true rfl) dX3_item_14 ⟨by omega, by omega⟩ (fun r_77 hr_77 => ?_)
  refine lv_topi (fun v_78 ev_78 => ?_)
  obtain rfl : v_78 = 1 := ev_78.trans (hr_77.trans (by decide))
  refine lv_if_ne (tgt := 28) hx hb dX3_item_17 (by decide) (fun c_79 => ?_) (fun c_79 => absurd c_79 (by decide))
  refine lv_aload_n hx hb dX3_item_28 rfl (lv_at hl 1 rfl) ?_
  refine lv_aload_n hx hb dX3_item_29 rfl (lv_at hl 0 rfl) ?_
  refine lv_iload_n hx hb dX3_item_30 rfl (lv_at hl 3 rfl) ?_
  refine zrdV2 (As := [.ref (qA B 0 i), .int 1]) (rest := []) (wc := qG B R N) ⟨hx, hb, hml, hown, hts⟩ (c_factOf_1 l D _ B R N i (by omega)) (cwV 2 hts gX3_item_X3_factOf rfl rfl rfl (by decide +kernel) ⟨by rw [hRf]; exact Nat.le_of_ble_eq_true rfl, by rw [hRl]; exact Nat.le_of_ble_eq_true rfl⟩) hK hP hD [0, 1, 2, 3] rfl (ci := 3) (q0 := 0) rfl rfl rfl hl.1 rfl (Nat.le_of_ble_eq_true rfl) dX3_item_31 ⟨by omega, by omega⟩ (fun r_80 hr_80 => ?_)
  refine lv_topi (fun v_81 ev_81 => ?_)
  obtain rfl : v_81 = (nI (N 0 i 6)) := ev_81.trans hr_80
  exact W.iret (v := (nI (N 0 i 6))) hx hb hr (fun t ht hW => ⟨(nI (N 0 i 6)), rfl, rfl, ht⟩) (fun _ h => by cases h) dX3_item_34
set_option maxHeartbeats 4000000 in
set_option maxRecDepth 100000 in
theorem c_factOf_2 (l : Launch) (D : zG) (sz : Nat) (B : qB) (R : qR0) (N : qN0) (i : Nat) (hi : i < 61) : Met l yX3_factOf wsX3_factOf ({ frames := 0, cells := 0, slots := 0, locals := 0 }) (zPc D (qT B) (qG B R N) sz [.ref (qA B 5 0), .ref (qA B 0 i), .int 2]) (vp_Si (fun r => r = nI (N 0 i 7))) 0 0 (fun _ => False) := by
  refine Met.ofW (cc := cX3_factOf) (maxL := 3) (ret := (some .int)) (by decide) rfl ?_
  intro p e s m args below meth c s₁ B9 hml hv
  obtain ⟨rfl, hsz, hP, hK, hD0⟩ := hv
  have hx := B9.exec
  have hb := B9.bytes
  have hr := B9.returns
  have hts := atoms_spec (ws := wsX3_factOf) B9.pre
  have hown : s.vm.findClass RX3 = some m.cls := findClass_of_methodNamed B9.named
  have hlocks := B9.notSynchronized
  subst hsz
  have hD := hD0
  generalize hAe : (fun _ : Nat => True) = A at hD
  have hl := lv_entry ([.ref (qA B 5 0), .ref (qA B 0 i), .int 2]) (n := 3) (Nat.le_of_ble_eq_true rfl)
  rw [lg_entry_eq]
  generalize (lg_sl ([.ref (qA B 5 0), .ref (qA B 0 i), .int 2]) ++ List.replicate (3 - (lg_sl ([.ref (qA B 5 0), .ref (qA B 0 i), .int 2])).length) Slot.unset).toArray = ls at hl ⊢
  have hl : lv_has ls 3 [(0, .ref (qA B 5 0)), (1, .ref (qA B 0 i)), (2, .int 2)] := hl
  have hP : va_P D vwCl (qG B R N) s.heap := hP
  generalize hRe : (headSpec _ _).room = R9
  have hRf : R9.frames = 0 := by rw [← hRe]; rfl
  have hRc : R9.cells = 0 := by rw [← hRe]; rfl
  have hRs : R9.slots = 0 := by rw [← hRe]; rfl
  have hRl : R9.locals = 0 := by rw [← hRe]; rfl
  clear hRe
  refine lv_iload_n hx hb dX3_factOf_0 rfl (lv_at hl 2 rfl) ?_
  refine lv_tableIn (off := 61) (tgt := 62) hx hb dX3_factOf_1 (by decide) (by decide) (by decide) (by decide) ?_
  refine lv_aload_n hx hb dX3_factOf_62 rfl (lv_at hl 1 rfl) ?_
  refine va_get (D := D) (ci := 0) (v := .int (nI (N 0 i 7))) (C := RX0) (T := TX0) (N := 18) hx hb hts (fun _ h9 => List.mem_cons_of_mem _ (List.mem_append_left _ (List.mem_append_right _ h9))) hown hK hP (5 + i) (qG_i (by omega)) rfl 7 (by decide) (hts (.fieldLink RX3 176 "PalletStack$Item" "y" "I") (List.mem_of_getElem? (i := 3) (by rfl))) (fun _ h9 => h9) rfl dX3_factOf_63 ?_
  exact W.iret (v := (nI (N 0 i 7))) hx hb hr (fun t ht hW => ⟨(nI (N 0 i 7)), rfl, rfl, ht⟩) (fun _ h => by cases h) dX3_factOf_66
set_option maxHeartbeats 4000000 in
set_option maxRecDepth 100000 in
theorem c_item_2 (l : Launch) (D : zG) (sz : Nat) (B : qB) (R : qR0) (N : qN0) (i : Nat) (hi : i < N 4 1 5) (hO : qOK B N) : Met l yX3_item wsX3_item ({ frames := 2, cells := 0, slots := 0, locals := 45 }) (zPc D (qT B) (qG B R N) sz [.ref (qA B 5 0), .int (nI i), .int 2]) (vp_Si (fun r => r = nI (N 0 i 7))) 0 0 (fun _ => False) := by
  refine Met.ofW (cc := cX3_item) (maxL := 4) (ret := (some .int)) (by decide) rfl ?_
  intro p e s m args below meth c s₁ B9 hml hv
  obtain ⟨rfl, hsz, hP, hK, hD0⟩ := hv
  have hx := B9.exec
  have hb := B9.bytes
  have hr := B9.returns
  have hts := atoms_spec (ws := wsX3_item) B9.pre
  have hown : s.vm.findClass RX3 = some m.cls := findClass_of_methodNamed B9.named
  have hlocks := B9.notSynchronized
  subst hsz
  have hD := hD0
  generalize hAe : (fun _ : Nat => True) = A at hD
  have hl := lv_entry ([.ref (qA B 5 0), .int (nI i), .int 2]) (n := 4) (Nat.le_of_ble_eq_true rfl)
  rw [lg_entry_eq]
  generalize (lg_sl ([.ref (qA B 5 0), .int (nI i), .int 2]) ++ List.replicate (4 - (lg_sl ([.ref (qA B 5 0), .int (nI i), .int 2])).length) Slot.unset).toArray = ls at hl ⊢
  have hl : lv_has ls 4 [(0, .ref (qA B 5 0)), (1, .int (nI i)), (2, .int 2)] := hl
  have hP : va_P D vwCl (qG B R N) s.heap := hP
  generalize hRe : (headSpec _ _).room = R9
  have hRf : R9.frames = 2 := by rw [← hRe]; rfl
  have hRc : R9.cells = 0 := by rw [← hRe]; rfl
  have hRs : R9.slots = 0 := by rw [← hRe]; rfl
  have hRl : R9.locals = 45 := by rw [← hRe]; rfl
  clear hRe
  have o8 := hO.2.2.2.2.2.2.2.1
  refine lv_aload_n hx hb dX3_item_0 rfl (lv_at hl 0 rfl) ?_
  refine lv_iload_n hx hb dX3_item_1 rfl (lv_at hl 1 rfl) ?_
  refine zrdVq2 (As := [.int (nI i)]) (rest := []) (wc := qG B R N) ⟨hx, hb, hml, hown, hts⟩ (c_itemOf l D _ B R N i hi hO) (cwV 1 hts gX3_item_X3_itemOf rfl rfl rfl (by decide +kernel) ⟨by rw [hRf]; exact Nat.le_of_ble_eq_true rfl, by rw [hRl]; exact Nat.le_of_ble_eq_true rfl⟩) hK hP hD [0, 1, 2, 3] rfl (ci := 3) (q0 := 0) rfl rfl rfl hl.1 rfl (Nat.le_of_ble_eq_true rfl) dX3_item_2 ⟨by omega, by omega⟩ (fun r_82 hr_82 => ?_)
  refine W.eq (g2 := F0 m 5 ls [.ref (qA B 0 i)]) (by rw [hr_82]; rfl) ?_
  refine lv_astore_n (lv' := [(3, .ref (qA B 0 i)), (0, .ref (qA B 5 0)), (1, .int (nI i)), (2, .int 2)]) hx hb dX3_item_5 rfl hl (by decide) rfl (fun ls hl => ?_)
  refine lv_aload_n hx hb dX3_item_6 rfl (lv_at hl 0 rfl) ?_
  refine lv_ifnull hx hb dX3_item_7 ?_
  refine lv_iload_n hx hb dX3_item_10 rfl (lv_at hl 3 rfl) ?_
  refine lv_iconst (v := 0) hx hb dX3_item_11 (by decide) ?_
  refine lv_bipush (v := 9) hx hb dX3_item_12 (by decide) ?_
  refine zrdS (As := [.int 2, .int 0, .int 9]) (rest := []) (wc := []) ⟨hx, hb, hml, hown, hts⟩ (c_isWithin l D _ 2 0 9) (va_cwS 3 hts gX3_item_X3_isWithin rfl rfl rfl (by decide +kernel) ⟨by rw [hRf]; exact Nat.le_of_ble_eq_true rfl, by rw [hRl]; exact Nat.le_of_ble_eq_true rfl⟩) hK hP hD [] rfl (by decide) [] rfl rfl hl.1 rfl (Nat.le_of_ble_eq_true rfl) dX3_item_14 ⟨by omega, by omega⟩ (fun r_84 hr_84 => ?_)
  refine lv_topi (fun v_85 ev_85 => ?_)
  obtain rfl : v_85 = 1 := ev_85.trans (hr_84.trans (by decide))
  refine lv_if_ne (tgt := 28) hx hb dX3_item_17 (by decide) (fun c_86 => ?_) (fun c_86 => absurd c_86 (by decide))
  refine lv_aload_n hx hb dX3_item_28 rfl (lv_at hl 1 rfl) ?_
  refine lv_aload_n hx hb dX3_item_29 rfl (lv_at hl 0 rfl) ?_
  refine lv_iload_n hx hb dX3_item_30 rfl (lv_at hl 3 rfl) ?_
  refine zrdV2 (As := [.ref (qA B 0 i), .int 2]) (rest := []) (wc := qG B R N) ⟨hx, hb, hml, hown, hts⟩ (c_factOf_2 l D _ B R N i (by omega)) (cwV 2 hts gX3_item_X3_factOf rfl rfl rfl (by decide +kernel) ⟨by rw [hRf]; exact Nat.le_of_ble_eq_true rfl, by rw [hRl]; exact Nat.le_of_ble_eq_true rfl⟩) hK hP hD [0, 1, 2, 3] rfl (ci := 3) (q0 := 0) rfl rfl rfl hl.1 rfl (Nat.le_of_ble_eq_true rfl) dX3_item_31 ⟨by omega, by omega⟩ (fun r_87 hr_87 => ?_)
  refine lv_topi (fun v_88 ev_88 => ?_)
  obtain rfl : v_88 = (nI (N 0 i 7)) := ev_88.trans hr_87
  exact W.iret (v := (nI (N 0 i 7))) hx hb hr (fun t ht hW => ⟨(nI (N 0 i 7)), rfl, rfl, ht⟩) (fun _ h => by cases h) dX3_item_34
set_option maxHeartbeats 4000000 in
set_option maxRecDepth 100000 in
theorem c_factOf_3 (l : Launch) (D : zG) (sz : Nat) (B : qB) (R : qR0) (N : qN0) (i : Nat) (hi : i < 61) : Met l yX3_factOf wsX3_factOf ({ frames := 0, cells := 0, slots := 0, locals := 0 }) (zPc D (qT B) (qG B R N) sz [.ref (qA B 5 0), .ref (qA B 0 i), .int 3]) (vp_Si (fun r => r = nI (N 0 i 8))) 0 0 (fun _ => False) := by
  refine Met.ofW (cc := cX3_factOf) (maxL := 3) (ret := (some .int)) (by decide) rfl ?_
  intro p e s m args below meth c s₁ B9 hml hv
  obtain ⟨rfl, hsz, hP, hK, hD0⟩ := hv
  have hx := B9.exec
  have hb := B9.bytes
  have hr := B9.returns
  have hts := atoms_spec (ws := wsX3_factOf) B9.pre
  have hown : s.vm.findClass RX3 = some m.cls := findClass_of_methodNamed B9.named
  have hlocks := B9.notSynchronized
  subst hsz
  have hD := hD0
  generalize hAe : (fun _ : Nat => True) = A at hD
  have hl := lv_entry ([.ref (qA B 5 0), .ref (qA B 0 i), .int 3]) (n := 3) (Nat.le_of_ble_eq_true rfl)
  rw [lg_entry_eq]
  generalize (lg_sl ([.ref (qA B 5 0), .ref (qA B 0 i), .int 3]) ++ List.replicate (3 - (lg_sl ([.ref (qA B 5 0), .ref (qA B 0 i), .int 3])).length) Slot.unset).toArray = ls at hl ⊢
  have hl : lv_has ls 3 [(0, .ref (qA B 5 0)), (1, .ref (qA B 0 i)), (2, .int 3)] := hl
  have hP : va_P D vwCl (qG B R N) s.heap := hP
  generalize hRe : (headSpec _ _).room = R9
  have hRf : R9.frames = 0 := by rw [← hRe]; rfl
  have hRc : R9.cells = 0 := by rw [← hRe]; rfl
  have hRs : R9.slots = 0 := by rw [← hRe]; rfl
  have hRl : R9.locals = 0 := by rw [← hRe]; rfl
  clear hRe
  refine lv_iload_n hx hb dX3_factOf_0 rfl (lv_at hl 2 rfl) ?_
  refine lv_tableIn (off := 66) (tgt := 67) hx hb dX3_factOf_1 (by decide) (by decide) (by decide) (by decide) ?_
  refine lv_aload_n hx hb dX3_factOf_67 rfl (lv_at hl 1 rfl) ?_
  refine va_get (D := D) (ci := 0) (v := .int (nI (N 0 i 8))) (C := RX0) (T := TX0) (N := 18) hx hb hts (fun _ h9 => List.mem_cons_of_mem _ (List.mem_append_left _ (List.mem_append_right _ h9))) hown hK hP (5 + i) (qG_i (by omega)) rfl 8 (by decide) (hts (.fieldLink RX3 131 "PalletStack$Item" "bottom" "I") (List.mem_of_getElem? (i := 4) (by rfl))) (fun _ h9 => h9) rfl dX3_factOf_68 ?_
  exact W.iret (v := (nI (N 0 i 8))) hx hb hr (fun t ht hW => ⟨(nI (N 0 i 8)), rfl, rfl, ht⟩) (fun _ h => by cases h) dX3_factOf_71
set_option maxHeartbeats 4000000 in
set_option maxRecDepth 100000 in
theorem c_item_3 (l : Launch) (D : zG) (sz : Nat) (B : qB) (R : qR0) (N : qN0) (i : Nat) (hi : i < N 4 1 5) (hO : qOK B N) : Met l yX3_item wsX3_item ({ frames := 2, cells := 0, slots := 0, locals := 45 }) (zPc D (qT B) (qG B R N) sz [.ref (qA B 5 0), .int (nI i), .int 3]) (vp_Si (fun r => r = nI (N 0 i 8))) 0 0 (fun _ => False) := by
  refine Met.ofW (cc := cX3_item) (maxL := 4) (ret := (some .int)) (by decide) rfl ?_
  intro p e s m args below meth c s₁ B9 hml hv
  obtain ⟨rfl, hsz, hP, hK, hD0⟩ := hv
  have hx := B9.exec
  have hb := B9.bytes
  have hr := B9.returns
  have hts := atoms_spec (ws := wsX3_item) B9.pre
  have hown : s.vm.findClass RX3 = some m.cls := findClass_of_methodNamed B9.named
  have hlocks := B9.notSynchronized
  subst hsz
  have hD := hD0
  generalize hAe : (fun _ : Nat => True) = A at hD
  have hl := lv_entry ([.ref (qA B 5 0), .int (nI i), .int 3]) (n := 4) (Nat.le_of_ble_eq_true rfl)
  rw [lg_entry_eq]
  generalize (lg_sl ([.ref (qA B 5 0), .int (nI i), .int 3]) ++ List.replicate (4 - (lg_sl ([.ref (qA B 5 0), .int (nI i), .int 3])).length) Slot.unset).toArray = ls at hl ⊢
  have hl : lv_has ls 4 [(0, .ref (qA B 5 0)), (1, .int (nI i)), (2, .int 3)] := hl
  have hP : va_P D vwCl (qG B R N) s.heap := hP
  generalize hRe : (headSpec _ _).room = R9
  have hRf : R9.frames = 2 := by rw [← hRe]; rfl
  have hRc : R9.cells = 0 := by rw [← hRe]; rfl
  have hRs : R9.slots = 0 := by rw [← hRe]; rfl
  have hRl : R9.locals = 45 := by rw [← hRe]; rfl
  clear hRe
  have o8 := hO.2.2.2.2.2.2.2.1
  refine lv_aload_n hx hb dX3_item_0 rfl (lv_at hl 0 rfl) ?_
  refine lv_iload_n hx hb dX3_item_1 rfl (lv_at hl 1 rfl) ?_
  refine zrdVq2 (As := [.int (nI i)]) (rest := []) (wc := qG B R N) ⟨hx, hb, hml, hown, hts⟩ (c_itemOf l D _ B R N i hi hO) (cwV 1 hts gX3_item_X3_itemOf rfl rfl rfl (by decide +kernel) ⟨by rw [hRf]; exact Nat.le_of_ble_eq_true rfl, by rw [hRl]; exact Nat.le_of_ble_eq_true rfl⟩) hK hP hD [0, 1, 2, 3] rfl (ci := 3) (q0 := 0) rfl rfl rfl hl.1 rfl (Nat.le_of_ble_eq_true rfl) dX3_item_2 ⟨by omega, by omega⟩ (fun r_89 hr_89 => ?_)
  refine W.eq (g2 := F0 m 5 ls [.ref (qA B 0 i)]) (by rw [hr_89]; rfl) ?_
  refine lv_astore_n (lv' := [(3, .ref (qA B 0 i)), (0, .ref (qA B 5 0)), (1, .int (nI i)), (2, .int 3)]) hx hb dX3_item_5 rfl hl (by decide) rfl (fun ls hl => ?_)
  refine lv_aload_n hx hb dX3_item_6 rfl (lv_at hl 0 rfl) ?_
  refine lv_ifnull hx hb dX3_item_7 ?_
  refine lv_iload_n hx hb dX3_item_10 rfl (lv_at hl 3 rfl) ?_
  refine lv_iconst (v := 0) hx hb dX3_item_11 (by decide) ?_
  refine lv_bipush (v := 9) hx hb dX3_item_12 (by decide) ?_
  refine zrdS (As := [.int 3, .int 0, .int 9]) (rest := []) (wc := []) ⟨hx, hb, hml, hown, hts⟩ (c_isWithin l D _ 3 0 9) (va_cwS 3 hts gX3_item_X3_isWithin rfl rfl rfl (by decide +kernel) ⟨by rw [hRf]; exact Nat.le_of_ble_eq_true rfl, by rw [hRl]; exact Nat.le_of_ble_eq_true rfl⟩) hK hP hD [] rfl (by decide) [] rfl rfl hl.1 rfl (Nat.le_of_ble_eq_true rfl) dX3_item_14 ⟨by omega, by omega⟩ (fun r_91 hr_91 => ?_)
  refine lv_topi (fun v_92 ev_92 => ?_)
  obtain rfl : v_92 = 1 := ev_92.trans (hr_91.trans (by decide))
  refine lv_if_ne (tgt := 28) hx hb dX3_item_17 (by decide) (fun c_93 => ?_) (fun c_93 => absurd c_93 (by decide))
  refine lv_aload_n hx hb dX3_item_28 rfl (lv_at hl 1 rfl) ?_
  refine lv_aload_n hx hb dX3_item_29 rfl (lv_at hl 0 rfl) ?_
  refine lv_iload_n hx hb dX3_item_30 rfl (lv_at hl 3 rfl) ?_
  refine zrdV2 (As := [.ref (qA B 0 i), .int 3]) (rest := []) (wc := qG B R N) ⟨hx, hb, hml, hown, hts⟩ (c_factOf_3 l D _ B R N i (by omega)) (cwV 2 hts gX3_item_X3_factOf rfl rfl rfl (by decide +kernel) ⟨by rw [hRf]; exact Nat.le_of_ble_eq_true rfl, by rw [hRl]; exact Nat.le_of_ble_eq_true rfl⟩) hK hP hD [0, 1, 2, 3] rfl (ci := 3) (q0 := 0) rfl rfl rfl hl.1 rfl (Nat.le_of_ble_eq_true rfl) dX3_item_31 ⟨by omega, by omega⟩ (fun r_94 hr_94 => ?_)
  refine lv_topi (fun v_95 ev_95 => ?_)
  obtain rfl : v_95 = (nI (N 0 i 8)) := ev_95.trans hr_94
  exact W.iret (v := (nI (N 0 i 8))) hx hb hr (fun t ht hW => ⟨(nI (N 0 i 8)), rfl, rfl, ht⟩) (fun _ h => by cases h) dX3_item_34
set_option maxHeartbeats 4000000 in
set_option maxRecDepth 100000 in
theorem c_factOf_4 (l : Launch) (D : zG) (sz : Nat) (B : qB) (R : qR0) (N : qN0) (i : Nat) (hi : i < 61) : Met l yX3_factOf wsX3_factOf ({ frames := 0, cells := 0, slots := 0, locals := 0 }) (zPc D (qT B) (qG B R N) sz [.ref (qA B 5 0), .ref (qA B 0 i), .int 4]) (vp_Si (fun r => r = nI (N 0 i 9))) 0 0 (fun _ => False) := by
  refine Met.ofW (cc := cX3_factOf) (maxL := 3) (ret := (some .int)) (by decide) rfl ?_
  intro p e s m args below meth c s₁ B9 hml hv
  obtain ⟨rfl, hsz, hP, hK, hD0⟩ := hv
  have hx := B9.exec
  have hb := B9.bytes
  have hr := B9.returns
  have hts := atoms_spec (ws := wsX3_factOf) B9.pre
  have hown : s.vm.findClass RX3 = some m.cls := findClass_of_methodNamed B9.named
  have hlocks := B9.notSynchronized
  subst hsz
  have hD := hD0
  generalize hAe : (fun _ : Nat => True) = A at hD
  have hl := lv_entry ([.ref (qA B 5 0), .ref (qA B 0 i), .int 4]) (n := 3) (Nat.le_of_ble_eq_true rfl)
  rw [lg_entry_eq]
  generalize (lg_sl ([.ref (qA B 5 0), .ref (qA B 0 i), .int 4]) ++ List.replicate (3 - (lg_sl ([.ref (qA B 5 0), .ref (qA B 0 i), .int 4])).length) Slot.unset).toArray = ls at hl ⊢
  have hl : lv_has ls 3 [(0, .ref (qA B 5 0)), (1, .ref (qA B 0 i)), (2, .int 4)] := hl
  have hP : va_P D vwCl (qG B R N) s.heap := hP
  generalize hRe : (headSpec _ _).room = R9
  have hRf : R9.frames = 0 := by rw [← hRe]; rfl
  have hRc : R9.cells = 0 := by rw [← hRe]; rfl
  have hRs : R9.slots = 0 := by rw [← hRe]; rfl
  have hRl : R9.locals = 0 := by rw [← hRe]; rfl
  clear hRe
  refine lv_iload_n hx hb dX3_factOf_0 rfl (lv_at hl 2 rfl) ?_
  refine lv_tableIn (off := 71) (tgt := 72) hx hb dX3_factOf_1 (by decide) (by decide) (by decide) (by decide) ?_
  refine lv_aload_n hx hb dX3_factOf_72 rfl (lv_at hl 1 rfl) ?_
  refine va_get (D := D) (ci := 0) (v := .int (nI (N 0 i 9))) (C := RX0) (T := TX0) (N := 18) hx hb hts (fun _ h9 => List.mem_cons_of_mem _ (List.mem_append_left _ (List.mem_append_right _ h9))) hown hK hP (5 + i) (qG_i (by omega)) rfl 9 (by decide) (hts (.fieldLink RX3 134 "PalletStack$Item" "top" "I") (List.mem_of_getElem? (i := 5) (by rfl))) (fun _ h9 => h9) rfl dX3_factOf_73 ?_
  exact W.iret (v := (nI (N 0 i 9))) hx hb hr (fun t ht hW => ⟨(nI (N 0 i 9)), rfl, rfl, ht⟩) (fun _ h => by cases h) dX3_factOf_76
set_option maxHeartbeats 4000000 in
set_option maxRecDepth 100000 in
theorem c_item_4 (l : Launch) (D : zG) (sz : Nat) (B : qB) (R : qR0) (N : qN0) (i : Nat) (hi : i < N 4 1 5) (hO : qOK B N) : Met l yX3_item wsX3_item ({ frames := 2, cells := 0, slots := 0, locals := 45 }) (zPc D (qT B) (qG B R N) sz [.ref (qA B 5 0), .int (nI i), .int 4]) (vp_Si (fun r => r = nI (N 0 i 9))) 0 0 (fun _ => False) := by
  refine Met.ofW (cc := cX3_item) (maxL := 4) (ret := (some .int)) (by decide) rfl ?_
  intro p e s m args below meth c s₁ B9 hml hv
  obtain ⟨rfl, hsz, hP, hK, hD0⟩ := hv
  have hx := B9.exec
  have hb := B9.bytes
  have hr := B9.returns
  have hts := atoms_spec (ws := wsX3_item) B9.pre
  have hown : s.vm.findClass RX3 = some m.cls := findClass_of_methodNamed B9.named
  have hlocks := B9.notSynchronized
  subst hsz
  have hD := hD0
  generalize hAe : (fun _ : Nat => True) = A at hD
  have hl := lv_entry ([.ref (qA B 5 0), .int (nI i), .int 4]) (n := 4) (Nat.le_of_ble_eq_true rfl)
  rw [lg_entry_eq]
  generalize (lg_sl ([.ref (qA B 5 0), .int (nI i), .int 4]) ++ List.replicate (4 - (lg_sl ([.ref (qA B 5 0), .int (nI i), .int 4])).length) Slot.unset).toArray = ls at hl ⊢
  have hl : lv_has ls 4 [(0, .ref (qA B 5 0)), (1, .int (nI i)), (2, .int 4)] := hl
  have hP : va_P D vwCl (qG B R N) s.heap := hP
  generalize hRe : (headSpec _ _).room = R9
  have hRf : R9.frames = 2 := by rw [← hRe]; rfl
  have hRc : R9.cells = 0 := by rw [← hRe]; rfl
  have hRs : R9.slots = 0 := by rw [← hRe]; rfl
  have hRl : R9.locals = 45 := by rw [← hRe]; rfl
  clear hRe
  have o8 := hO.2.2.2.2.2.2.2.1
  refine lv_aload_n hx hb dX3_item_0 rfl (lv_at hl 0 rfl) ?_
  refine lv_iload_n hx hb dX3_item_1 rfl (lv_at hl 1 rfl) ?_
  refine zrdVq2 (As := [.int (nI i)]) (rest := []) (wc := qG B R N) ⟨hx, hb, hml, hown, hts⟩ (c_itemOf l D _ B R N i hi hO) (cwV 1 hts gX3_item_X3_itemOf rfl rfl rfl (by decide +kernel) ⟨by rw [hRf]; exact Nat.le_of_ble_eq_true rfl, by rw [hRl]; exact Nat.le_of_ble_eq_true rfl⟩) hK hP hD [0, 1, 2, 3] rfl (ci := 3) (q0 := 0) rfl rfl rfl hl.1 rfl (Nat.le_of_ble_eq_true rfl) dX3_item_2 ⟨by omega, by omega⟩ (fun r_96 hr_96 => ?_)
  refine W.eq (g2 := F0 m 5 ls [.ref (qA B 0 i)]) (by rw [hr_96]; rfl) ?_
  refine lv_astore_n (lv' := [(3, .ref (qA B 0 i)), (0, .ref (qA B 5 0)), (1, .int (nI i)), (2, .int 4)]) hx hb dX3_item_5 rfl hl (by decide) rfl (fun ls hl => ?_)
  refine lv_aload_n hx hb dX3_item_6 rfl (lv_at hl 0 rfl) ?_
  refine lv_ifnull hx hb dX3_item_7 ?_
  refine lv_iload_n hx hb dX3_item_10 rfl (lv_at hl 3 rfl) ?_
  refine lv_iconst (v := 0) hx hb dX3_item_11 (by decide) ?_
  refine lv_bipush (v := 9) hx hb dX3_item_12 (by decide) ?_
  refine zrdS (As := [.int 4, .int 0, .int 9]) (rest := []) (wc := []) ⟨hx, hb, hml, hown, hts⟩ (c_isWithin l D _ 4 0 9) (va_cwS 3 hts gX3_item_X3_isWithin rfl rfl rfl (by decide +kernel) ⟨by rw [hRf]; exact Nat.le_of_ble_eq_true rfl, by rw [hRl]; exact Nat.le_of_ble_eq_true rfl⟩) hK hP hD [] rfl (by decide) [] rfl rfl hl.1 rfl (Nat.le_of_ble_eq_true rfl) dX3_item_14 ⟨by omega, by omega⟩ (fun r_98 hr_98 => ?_)
  refine lv_topi (fun v_99 ev_99 => ?_)
  obtain rfl : v_99 = 1 := ev_99.trans (hr_98.trans (by decide))
  refine lv_if_ne (tgt := 28) hx hb dX3_item_17 (by decide) (fun c_100 => ?_) (fun c_100 => absurd c_100 (by decide))
  refine lv_aload_n hx hb dX3_item_28 rfl (lv_at hl 1 rfl) ?_
  refine lv_aload_n hx hb dX3_item_29 rfl (lv_at hl 0 rfl) ?_
  refine lv_iload_n hx hb dX3_item_30 rfl (lv_at hl 3 rfl) ?_
  refine zrdV2 (As := [.ref (qA B 0 i), .int 4]) (rest := []) (wc := qG B R N) ⟨hx, hb, hml, hown, hts⟩ (c_factOf_4 l D _ B R N i (by omega)) (cwV 2 hts gX3_item_X3_factOf rfl rfl rfl (by decide +kernel) ⟨by rw [hRf]; exact Nat.le_of_ble_eq_true rfl, by rw [hRl]; exact Nat.le_of_ble_eq_true rfl⟩) hK hP hD [0, 1, 2, 3] rfl (ci := 3) (q0 := 0) rfl rfl rfl hl.1 rfl (Nat.le_of_ble_eq_true rfl) dX3_item_31 ⟨by omega, by omega⟩ (fun r_101 hr_101 => ?_)
  refine lv_topi (fun v_102 ev_102 => ?_)
  obtain rfl : v_102 = (nI (N 0 i 9)) := ev_102.trans hr_101
  exact W.iret (v := (nI (N 0 i 9))) hx hb hr (fun t ht hW => ⟨(nI (N 0 i 9)), rfl, rfl, ht⟩) (fun _ h => by cases h) dX3_item_34
set_option maxHeartbeats 4000000 in
set_option maxRecDepth 100000 in
theorem c_factOf_5 (l : Launch) (D : zG) (sz : Nat) (B : qB) (R : qR0) (N : qN0) (i : Nat) (hi : i < 61) (h3 : N 0 i 3 < 2) : Met l yX3_factOf wsX3_factOf ({ frames := 0, cells := 0, slots := 0, locals := 0 }) (zPc D (qT B) (qG B R N) sz [.ref (qA B 5 0), .ref (qA B 0 i), .int 5]) (vp_Si (fun r => r = nI (N 0 i 3))) 0 0 (fun _ => False) := by
  refine Met.ofW (cc := cX3_factOf) (maxL := 3) (ret := (some .int)) (by decide) rfl ?_
  intro p e s m args below meth c s₁ B9 hml hv
  obtain ⟨rfl, hsz, hP, hK, hD0⟩ := hv
  have hx := B9.exec
  have hb := B9.bytes
  have hr := B9.returns
  have hts := atoms_spec (ws := wsX3_factOf) B9.pre
  have hown : s.vm.findClass RX3 = some m.cls := findClass_of_methodNamed B9.named
  have hlocks := B9.notSynchronized
  subst hsz
  have hD := hD0
  generalize hAe : (fun _ : Nat => True) = A at hD
  have hl := lv_entry ([.ref (qA B 5 0), .ref (qA B 0 i), .int 5]) (n := 3) (Nat.le_of_ble_eq_true rfl)
  rw [lg_entry_eq]
  generalize (lg_sl ([.ref (qA B 5 0), .ref (qA B 0 i), .int 5]) ++ List.replicate (3 - (lg_sl ([.ref (qA B 5 0), .ref (qA B 0 i), .int 5])).length) Slot.unset).toArray = ls at hl ⊢
  have hl : lv_has ls 3 [(0, .ref (qA B 5 0)), (1, .ref (qA B 0 i)), (2, .int 5)] := hl
  have hP : va_P D vwCl (qG B R N) s.heap := hP
  generalize hRe : (headSpec _ _).room = R9
  have hRf : R9.frames = 0 := by rw [← hRe]; rfl
  have hRc : R9.cells = 0 := by rw [← hRe]; rfl
  have hRs : R9.slots = 0 := by rw [← hRe]; rfl
  have hRl : R9.locals = 0 := by rw [← hRe]; rfl
  clear hRe
  refine lv_iload_n hx hb dX3_factOf_0 rfl (lv_at hl 2 rfl) ?_
  refine lv_tableIn (off := 76) (tgt := 77) hx hb dX3_factOf_1 (by decide) (by decide) (by decide) (by decide) ?_
  refine lv_aload_n hx hb dX3_factOf_77 rfl (lv_at hl 1 rfl) ?_
  refine va_get (D := D) (ci := 0) (v := .int (nI (N 0 i 3))) (C := RX0) (T := TX0) (N := 18) hx hb hts (fun _ h9 => List.mem_cons_of_mem _ (List.mem_append_left _ (List.mem_append_right _ h9))) hown hK hP (5 + i) (qG_i (by omega)) rfl 3 (by decide) (hts (.fieldLink RX3 205 "PalletStack$Item" "isTurned" "Z") (List.mem_of_getElem? (i := 6) (by rfl))) (fun _ h9 => h9) rfl dX3_factOf_78 ?_
  refine lv_if_eq (tgt := 88) hx hb dX3_factOf_81 (by decide) (fun c_103 => ?_) (fun c_103 => ?_)
  · have h_b := True.intro
    refine lv_iconst (v := 0) hx hb dX3_factOf_88 (by decide) ?_
    exact W.iret (v := 0) hx hb hr (fun t ht hW => ⟨0, rfl, (by have := (qeq (a := N 0 i 3) (b := 0) (by omega) (by decide)).mp (c_103 : nI (N 0 i 3) = nI 0); rw [this]; rfl), ht⟩) (fun _ h => by cases h) dX3_factOf_89
  · have h_b := True.intro
    refine lv_iconst (v := 1) hx hb dX3_factOf_84 (by decide) ?_
    refine lv_goto (tgt := 89) hx hb dX3_factOf_85 (by decide) ?_
    exact W.iret (v := 1) hx hb hr (fun t ht hW => ⟨1, rfl, (by rcases (show N 0 i 3 = 0 ∨ N 0 i 3 = 1 by omega) with h | h <;> rw [h] at c_103 ⊢ <;> first | rfl | exact absurd rfl c_103), ht⟩) (fun _ h => by cases h) dX3_factOf_89
set_option maxHeartbeats 4000000 in
set_option maxRecDepth 100000 in
theorem c_item_5 (l : Launch) (D : zG) (sz : Nat) (B : qB) (R : qR0) (N : qN0) (i : Nat) (hi : i < N 4 1 5) (hO : qOK B N) (h3 : N 0 i 3 < 2) : Met l yX3_item wsX3_item ({ frames := 2, cells := 0, slots := 0, locals := 45 }) (zPc D (qT B) (qG B R N) sz [.ref (qA B 5 0), .int (nI i), .int 5]) (vp_Si (fun r => r = nI (N 0 i 3))) 0 0 (fun _ => False) := by
  refine Met.ofW (cc := cX3_item) (maxL := 4) (ret := (some .int)) (by decide) rfl ?_
  intro p e s m args below meth c s₁ B9 hml hv
  obtain ⟨rfl, hsz, hP, hK, hD0⟩ := hv
  have hx := B9.exec
  have hb := B9.bytes
  have hr := B9.returns
  have hts := atoms_spec (ws := wsX3_item) B9.pre
  have hown : s.vm.findClass RX3 = some m.cls := findClass_of_methodNamed B9.named
  have hlocks := B9.notSynchronized
  subst hsz
  have hD := hD0
  generalize hAe : (fun _ : Nat => True) = A at hD
  have hl := lv_entry ([.ref (qA B 5 0), .int (nI i), .int 5]) (n := 4) (Nat.le_of_ble_eq_true rfl)
  rw [lg_entry_eq]
  generalize (lg_sl ([.ref (qA B 5 0), .int (nI i), .int 5]) ++ List.replicate (4 - (lg_sl ([.ref (qA B 5 0), .int (nI i), .int 5])).length) Slot.unset).toArray = ls at hl ⊢
  have hl : lv_has ls 4 [(0, .ref (qA B 5 0)), (1, .int (nI i)), (2, .int 5)] := hl
  have hP : va_P D vwCl (qG B R N) s.heap := hP
  generalize hRe : (headSpec _ _).room = R9
  have hRf : R9.frames = 2 := by rw [← hRe]; rfl
  have hRc : R9.cells = 0 := by rw [← hRe]; rfl
  have hRs : R9.slots = 0 := by rw [← hRe]; rfl
  have hRl : R9.locals = 45 := by rw [← hRe]; rfl
  clear hRe
  have o8 := hO.2.2.2.2.2.2.2.1
  refine lv_aload_n hx hb dX3_item_0 rfl (lv_at hl 0 rfl) ?_
  refine lv_iload_n hx hb dX3_item_1 rfl (lv_at hl 1 rfl) ?_
  refine zrdVq2 (As := [.int (nI i)]) (rest := []) (wc := qG B R N) ⟨hx, hb, hml, hown, hts⟩ (c_itemOf l D _ B R N i hi hO) (cwV 1 hts gX3_item_X3_itemOf rfl rfl rfl (by decide +kernel) ⟨by rw [hRf]; exact Nat.le_of_ble_eq_true rfl, by rw [hRl]; exact Nat.le_of_ble_eq_true rfl⟩) hK hP hD [0, 1, 2, 3] rfl (ci := 3) (q0 := 0) rfl rfl rfl hl.1 rfl (Nat.le_of_ble_eq_true rfl) dX3_item_2 ⟨by omega, by omega⟩ (fun r_104 hr_104 => ?_)
  refine W.eq (g2 := F0 m 5 ls [.ref (qA B 0 i)]) (by rw [hr_104]; rfl) ?_
  refine lv_astore_n (lv' := [(3, .ref (qA B 0 i)), (0, .ref (qA B 5 0)), (1, .int (nI i)), (2, .int 5)]) hx hb dX3_item_5 rfl hl (by decide) rfl (fun ls hl => ?_)
  refine lv_aload_n hx hb dX3_item_6 rfl (lv_at hl 0 rfl) ?_
  refine lv_ifnull hx hb dX3_item_7 ?_
  refine lv_iload_n hx hb dX3_item_10 rfl (lv_at hl 3 rfl) ?_
  refine lv_iconst (v := 0) hx hb dX3_item_11 (by decide) ?_
  refine lv_bipush (v := 9) hx hb dX3_item_12 (by decide) ?_
  refine zrdS (As := [.int 5, .int 0, .int 9]) (rest := []) (wc := []) ⟨hx, hb, hml, hown, hts⟩ (c_isWithin l D _ 5 0 9) (va_cwS 3 hts gX3_item_X3_isWithin rfl rfl rfl (by decide +kernel) ⟨by rw [hRf]; exact Nat.le_of_ble_eq_true rfl, by rw [hRl]; exact Nat.le_of_ble_eq_true rfl⟩) hK hP hD [] rfl (by decide) [] rfl rfl hl.1 rfl (Nat.le_of_ble_eq_true rfl) dX3_item_14 ⟨by omega, by omega⟩ (fun r_106 hr_106 => ?_)
  refine lv_topi (fun v_107 ev_107 => ?_)
  obtain rfl : v_107 = 1 := ev_107.trans (hr_106.trans (by decide))
  refine lv_if_ne (tgt := 28) hx hb dX3_item_17 (by decide) (fun c_108 => ?_) (fun c_108 => absurd c_108 (by decide))
  refine lv_aload_n hx hb dX3_item_28 rfl (lv_at hl 1 rfl) ?_
  refine lv_aload_n hx hb dX3_item_29 rfl (lv_at hl 0 rfl) ?_
  refine lv_iload_n hx hb dX3_item_30 rfl (lv_at hl 3 rfl) ?_
  refine zrdV2 (As := [.ref (qA B 0 i), .int 5]) (rest := []) (wc := qG B R N) ⟨hx, hb, hml, hown, hts⟩ (c_factOf_5 l D _ B R N i (by omega) h3) (cwV 2 hts gX3_item_X3_factOf rfl rfl rfl (by decide +kernel) ⟨by rw [hRf]; exact Nat.le_of_ble_eq_true rfl, by rw [hRl]; exact Nat.le_of_ble_eq_true rfl⟩) hK hP hD [0, 1, 2, 3] rfl (ci := 3) (q0 := 0) rfl rfl rfl hl.1 rfl (Nat.le_of_ble_eq_true rfl) dX3_item_31 ⟨by omega, by omega⟩ (fun r_109 hr_109 => ?_)
  refine lv_topi (fun v_110 ev_110 => ?_)
  obtain rfl : v_110 = (nI (N 0 i 3)) := ev_110.trans hr_109
  exact W.iret (v := (nI (N 0 i 3))) hx hb hr (fun t ht hW => ⟨(nI (N 0 i 3)), rfl, rfl, ht⟩) (fun _ h => by cases h) dX3_item_34
set_option maxHeartbeats 4000000 in
set_option maxRecDepth 100000 in
theorem c_factOf_6 (l : Launch) (D : zG) (sz : Nat) (B : qB) (R : qR0) (N : qN0) (i : Nat) (hi : i < 61) : Met l yX3_factOf wsX3_factOf ({ frames := 0, cells := 0, slots := 0, locals := 0 }) (zPc D (qT B) (qG B R N) sz [.ref (qA B 5 0), .ref (qA B 0 i), .int 6]) (vp_Si (fun r => r = nI (N 0 i 11))) 0 0 (fun _ => False) := by
  refine Met.ofW (cc := cX3_factOf) (maxL := 3) (ret := (some .int)) (by decide) rfl ?_
  intro p e s m args below meth c s₁ B9 hml hv
  obtain ⟨rfl, hsz, hP, hK, hD0⟩ := hv
  have hx := B9.exec
  have hb := B9.bytes
  have hr := B9.returns
  have hts := atoms_spec (ws := wsX3_factOf) B9.pre
  have hown : s.vm.findClass RX3 = some m.cls := findClass_of_methodNamed B9.named
  have hlocks := B9.notSynchronized
  subst hsz
  have hD := hD0
  generalize hAe : (fun _ : Nat => True) = A at hD
  have hl := lv_entry ([.ref (qA B 5 0), .ref (qA B 0 i), .int 6]) (n := 3) (Nat.le_of_ble_eq_true rfl)
  rw [lg_entry_eq]
  generalize (lg_sl ([.ref (qA B 5 0), .ref (qA B 0 i), .int 6]) ++ List.replicate (3 - (lg_sl ([.ref (qA B 5 0), .ref (qA B 0 i), .int 6])).length) Slot.unset).toArray = ls at hl ⊢
  have hl : lv_has ls 3 [(0, .ref (qA B 5 0)), (1, .ref (qA B 0 i)), (2, .int 6)] := hl
  have hP : va_P D vwCl (qG B R N) s.heap := hP
  generalize hRe : (headSpec _ _).room = R9
  have hRf : R9.frames = 0 := by rw [← hRe]; rfl
  have hRc : R9.cells = 0 := by rw [← hRe]; rfl
  have hRs : R9.slots = 0 := by rw [← hRe]; rfl
  have hRl : R9.locals = 0 := by rw [← hRe]; rfl
  clear hRe
  refine lv_iload_n hx hb dX3_factOf_0 rfl (lv_at hl 2 rfl) ?_
  refine lv_tableIn (off := 89) (tgt := 90) hx hb dX3_factOf_1 (by decide) (by decide) (by decide) (by decide) ?_
  refine lv_aload_n hx hb dX3_factOf_90 rfl (lv_at hl 1 rfl) ?_
  refine va_get (D := D) (ci := 0) (v := .int (nI (N 0 i 11))) (C := RX0) (T := TX0) (N := 18) hx hb hts (fun _ h9 => List.mem_cons_of_mem _ (List.mem_append_left _ (List.mem_append_right _ h9))) hown hK hP (5 + i) (qG_i (by omega)) rfl 11 (by decide) (hts (.fieldLink RX3 208 "PalletStack$Item" "load" "I") (List.mem_of_getElem? (i := 7) (by rfl))) (fun _ h9 => h9) rfl dX3_factOf_91 ?_
  exact W.iret (v := (nI (N 0 i 11))) hx hb hr (fun t ht hW => ⟨(nI (N 0 i 11)), rfl, rfl, ht⟩) (fun _ h => by cases h) dX3_factOf_94
set_option maxHeartbeats 4000000 in
set_option maxRecDepth 100000 in
theorem c_item_6 (l : Launch) (D : zG) (sz : Nat) (B : qB) (R : qR0) (N : qN0) (i : Nat) (hi : i < N 4 1 5) (hO : qOK B N) : Met l yX3_item wsX3_item ({ frames := 2, cells := 0, slots := 0, locals := 45 }) (zPc D (qT B) (qG B R N) sz [.ref (qA B 5 0), .int (nI i), .int 6]) (vp_Si (fun r => r = nI (N 0 i 11))) 0 0 (fun _ => False) := by
  refine Met.ofW (cc := cX3_item) (maxL := 4) (ret := (some .int)) (by decide) rfl ?_
  intro p e s m args below meth c s₁ B9 hml hv
  obtain ⟨rfl, hsz, hP, hK, hD0⟩ := hv
  have hx := B9.exec
  have hb := B9.bytes
  have hr := B9.returns
  have hts := atoms_spec (ws := wsX3_item) B9.pre
  have hown : s.vm.findClass RX3 = some m.cls := findClass_of_methodNamed B9.named
  have hlocks := B9.notSynchronized
  subst hsz
  have hD := hD0
  generalize hAe : (fun _ : Nat => True) = A at hD
  have hl := lv_entry ([.ref (qA B 5 0), .int (nI i), .int 6]) (n := 4) (Nat.le_of_ble_eq_true rfl)
  rw [lg_entry_eq]
  generalize (lg_sl ([.ref (qA B 5 0), .int (nI i), .int 6]) ++ List.replicate (4 - (lg_sl ([.ref (qA B 5 0), .int (nI i), .int 6])).length) Slot.unset).toArray = ls at hl ⊢
  have hl : lv_has ls 4 [(0, .ref (qA B 5 0)), (1, .int (nI i)), (2, .int 6)] := hl
  have hP : va_P D vwCl (qG B R N) s.heap := hP
  generalize hRe : (headSpec _ _).room = R9
  have hRf : R9.frames = 2 := by rw [← hRe]; rfl
  have hRc : R9.cells = 0 := by rw [← hRe]; rfl
  have hRs : R9.slots = 0 := by rw [← hRe]; rfl
  have hRl : R9.locals = 45 := by rw [← hRe]; rfl
  clear hRe
  have o8 := hO.2.2.2.2.2.2.2.1
  refine lv_aload_n hx hb dX3_item_0 rfl (lv_at hl 0 rfl) ?_
  refine lv_iload_n hx hb dX3_item_1 rfl (lv_at hl 1 rfl) ?_
  refine zrdVq2 (As := [.int (nI i)]) (rest := []) (wc := qG B R N) ⟨hx, hb, hml, hown, hts⟩ (c_itemOf l D _ B R N i hi hO) (cwV 1 hts gX3_item_X3_itemOf rfl rfl rfl (by decide +kernel) ⟨by rw [hRf]; exact Nat.le_of_ble_eq_true rfl, by rw [hRl]; exact Nat.le_of_ble_eq_true rfl⟩) hK hP hD [0, 1, 2, 3] rfl (ci := 3) (q0 := 0) rfl rfl rfl hl.1 rfl (Nat.le_of_ble_eq_true rfl) dX3_item_2 ⟨by omega, by omega⟩ (fun r_111 hr_111 => ?_)
  refine W.eq (g2 := F0 m 5 ls [.ref (qA B 0 i)]) (by rw [hr_111]; rfl) ?_
  refine lv_astore_n (lv' := [(3, .ref (qA B 0 i)), (0, .ref (qA B 5 0)), (1, .int (nI i)), (2, .int 6)]) hx hb dX3_item_5 rfl hl (by decide) rfl (fun ls hl => ?_)
  refine lv_aload_n hx hb dX3_item_6 rfl (lv_at hl 0 rfl) ?_
  refine lv_ifnull hx hb dX3_item_7 ?_
  refine lv_iload_n hx hb dX3_item_10 rfl (lv_at hl 3 rfl) ?_
  refine lv_iconst (v := 0) hx hb dX3_item_11 (by decide) ?_
  refine lv_bipush (v := 9) hx hb dX3_item_12 (by decide) ?_
  refine zrdS (As := [.int 6, .int 0, .int 9]) (rest := []) (wc := []) ⟨hx, hb, hml, hown, hts⟩ (c_isWithin l D _ 6 0 9) (va_cwS 3 hts gX3_item_X3_isWithin rfl rfl rfl (by decide +kernel) ⟨by rw [hRf]; exact Nat.le_of_ble_eq_true rfl, by rw [hRl]; exact Nat.le_of_ble_eq_true rfl⟩) hK hP hD [] rfl (by decide) [] rfl rfl hl.1 rfl (Nat.le_of_ble_eq_true rfl) dX3_item_14 ⟨by omega, by omega⟩ (fun r_113 hr_113 => ?_)
  refine lv_topi (fun v_114 ev_114 => ?_)
  obtain rfl : v_114 = 1 := ev_114.trans (hr_113.trans (by decide))
  refine lv_if_ne (tgt := 28) hx hb dX3_item_17 (by decide) (fun c_115 => ?_) (fun c_115 => absurd c_115 (by decide))
  refine lv_aload_n hx hb dX3_item_28 rfl (lv_at hl 1 rfl) ?_
  refine lv_aload_n hx hb dX3_item_29 rfl (lv_at hl 0 rfl) ?_
  refine lv_iload_n hx hb dX3_item_30 rfl (lv_at hl 3 rfl) ?_
  refine zrdV2 (As := [.ref (qA B 0 i), .int 6]) (rest := []) (wc := qG B R N) ⟨hx, hb, hml, hown, hts⟩ (c_factOf_6 l D _ B R N i (by omega)) (cwV 2 hts gX3_item_X3_factOf rfl rfl rfl (by decide +kernel) ⟨by rw [hRf]; exact Nat.le_of_ble_eq_true rfl, by rw [hRl]; exact Nat.le_of_ble_eq_true rfl⟩) hK hP hD [0, 1, 2, 3] rfl (ci := 3) (q0 := 0) rfl rfl rfl hl.1 rfl (Nat.le_of_ble_eq_true rfl) dX3_item_31 ⟨by omega, by omega⟩ (fun r_116 hr_116 => ?_)
  refine lv_topi (fun v_117 ev_117 => ?_)
  obtain rfl : v_117 = (nI (N 0 i 11)) := ev_117.trans hr_116
  exact W.iret (v := (nI (N 0 i 11))) hx hb hr (fun t ht hW => ⟨(nI (N 0 i 11)), rfl, rfl, ht⟩) (fun _ h => by cases h) dX3_item_34
set_option maxHeartbeats 4000000 in
set_option maxRecDepth 100000 in
theorem c_factOf_8 (l : Launch) (D : zG) (sz : Nat) (B : qB) (R : qR0) (N : qN0) (i : Nat) (hi : i < 61) : Met l yX3_factOf wsX3_factOf ({ frames := 0, cells := 0, slots := 0, locals := 0 }) (zPc D (qT B) (qG B R N) sz [.ref (qA B 5 0), .ref (qA B 0 i), .int 8]) (vp_Si (fun r => r = nI (N 0 i 15))) 0 0 (fun _ => False) := by
  refine Met.ofW (cc := cX3_factOf) (maxL := 3) (ret := (some .int)) (by decide) rfl ?_
  intro p e s m args below meth c s₁ B9 hml hv
  obtain ⟨rfl, hsz, hP, hK, hD0⟩ := hv
  have hx := B9.exec
  have hb := B9.bytes
  have hr := B9.returns
  have hts := atoms_spec (ws := wsX3_factOf) B9.pre
  have hown : s.vm.findClass RX3 = some m.cls := findClass_of_methodNamed B9.named
  have hlocks := B9.notSynchronized
  subst hsz
  have hD := hD0
  generalize hAe : (fun _ : Nat => True) = A at hD
  have hl := lv_entry ([.ref (qA B 5 0), .ref (qA B 0 i), .int 8]) (n := 3) (Nat.le_of_ble_eq_true rfl)
  rw [lg_entry_eq]
  generalize (lg_sl ([.ref (qA B 5 0), .ref (qA B 0 i), .int 8]) ++ List.replicate (3 - (lg_sl ([.ref (qA B 5 0), .ref (qA B 0 i), .int 8])).length) Slot.unset).toArray = ls at hl ⊢
  have hl : lv_has ls 3 [(0, .ref (qA B 5 0)), (1, .ref (qA B 0 i)), (2, .int 8)] := hl
  have hP : va_P D vwCl (qG B R N) s.heap := hP
  generalize hRe : (headSpec _ _).room = R9
  have hRf : R9.frames = 0 := by rw [← hRe]; rfl
  have hRc : R9.cells = 0 := by rw [← hRe]; rfl
  have hRs : R9.slots = 0 := by rw [← hRe]; rfl
  have hRl : R9.locals = 0 := by rw [← hRe]; rfl
  clear hRe
  refine lv_iload_n hx hb dX3_factOf_0 rfl (lv_at hl 2 rfl) ?_
  refine lv_tableIn (off := 100) (tgt := 101) hx hb dX3_factOf_1 (by decide) (by decide) (by decide) (by decide) ?_
  refine lv_aload_n hx hb dX3_factOf_101 rfl (lv_at hl 1 rfl) ?_
  refine va_get (D := D) (ci := 0) (v := .int (nI (N 0 i 15))) (C := RX0) (T := TX0) (N := 18) hx hb hts (fun _ h9 => List.mem_cons_of_mem _ (List.mem_append_left _ (List.mem_append_right _ h9))) hown hK hP (5 + i) (qG_i (by omega)) rfl 15 (by decide) (hts (.fieldLink RX3 211 "PalletStack$Item" "supportCount" "I") (List.mem_of_getElem? (i := 8) (by rfl))) (fun _ h9 => h9) rfl dX3_factOf_102 ?_
  exact W.iret (v := (nI (N 0 i 15))) hx hb hr (fun t ht hW => ⟨(nI (N 0 i 15)), rfl, rfl, ht⟩) (fun _ h => by cases h) dX3_factOf_105
set_option maxHeartbeats 4000000 in
set_option maxRecDepth 100000 in
theorem c_item_8 (l : Launch) (D : zG) (sz : Nat) (B : qB) (R : qR0) (N : qN0) (i : Nat) (hi : i < N 4 1 5) (hO : qOK B N) : Met l yX3_item wsX3_item ({ frames := 2, cells := 0, slots := 0, locals := 45 }) (zPc D (qT B) (qG B R N) sz [.ref (qA B 5 0), .int (nI i), .int 8]) (vp_Si (fun r => r = nI (N 0 i 15))) 0 0 (fun _ => False) := by
  refine Met.ofW (cc := cX3_item) (maxL := 4) (ret := (some .int)) (by decide) rfl ?_
  intro p e s m args below meth c s₁ B9 hml hv
  obtain ⟨rfl, hsz, hP, hK, hD0⟩ := hv
  have hx := B9.exec
  have hb := B9.bytes
  have hr := B9.returns
  have hts := atoms_spec (ws := wsX3_item) B9.pre
  have hown : s.vm.findClass RX3 = some m.cls := findClass_of_methodNamed B9.named
  have hlocks := B9.notSynchronized
  subst hsz
  have hD := hD0
  generalize hAe : (fun _ : Nat => True) = A at hD
  have hl := lv_entry ([.ref (qA B 5 0), .int (nI i), .int 8]) (n := 4) (Nat.le_of_ble_eq_true rfl)
  rw [lg_entry_eq]
  generalize (lg_sl ([.ref (qA B 5 0), .int (nI i), .int 8]) ++ List.replicate (4 - (lg_sl ([.ref (qA B 5 0), .int (nI i), .int 8])).length) Slot.unset).toArray = ls at hl ⊢
  have hl : lv_has ls 4 [(0, .ref (qA B 5 0)), (1, .int (nI i)), (2, .int 8)] := hl
  have hP : va_P D vwCl (qG B R N) s.heap := hP
  generalize hRe : (headSpec _ _).room = R9
  have hRf : R9.frames = 2 := by rw [← hRe]; rfl
  have hRc : R9.cells = 0 := by rw [← hRe]; rfl
  have hRs : R9.slots = 0 := by rw [← hRe]; rfl
  have hRl : R9.locals = 45 := by rw [← hRe]; rfl
  clear hRe
  have o8 := hO.2.2.2.2.2.2.2.1
  refine lv_aload_n hx hb dX3_item_0 rfl (lv_at hl 0 rfl) ?_
  refine lv_iload_n hx hb dX3_item_1 rfl (lv_at hl 1 rfl) ?_
  refine zrdVq2 (As := [.int (nI i)]) (rest := []) (wc := qG B R N) ⟨hx, hb, hml, hown, hts⟩ (c_itemOf l D _ B R N i hi hO) (cwV 1 hts gX3_item_X3_itemOf rfl rfl rfl (by decide +kernel) ⟨by rw [hRf]; exact Nat.le_of_ble_eq_true rfl, by rw [hRl]; exact Nat.le_of_ble_eq_true rfl⟩) hK hP hD [0, 1, 2, 3] rfl (ci := 3) (q0 := 0) rfl rfl rfl hl.1 rfl (Nat.le_of_ble_eq_true rfl) dX3_item_2 ⟨by omega, by omega⟩ (fun r_118 hr_118 => ?_)
  refine W.eq (g2 := F0 m 5 ls [.ref (qA B 0 i)]) (by rw [hr_118]; rfl) ?_
  refine lv_astore_n (lv' := [(3, .ref (qA B 0 i)), (0, .ref (qA B 5 0)), (1, .int (nI i)), (2, .int 8)]) hx hb dX3_item_5 rfl hl (by decide) rfl (fun ls hl => ?_)
  refine lv_aload_n hx hb dX3_item_6 rfl (lv_at hl 0 rfl) ?_
  refine lv_ifnull hx hb dX3_item_7 ?_
  refine lv_iload_n hx hb dX3_item_10 rfl (lv_at hl 3 rfl) ?_
  refine lv_iconst (v := 0) hx hb dX3_item_11 (by decide) ?_
  refine lv_bipush (v := 9) hx hb dX3_item_12 (by decide) ?_
  refine zrdS (As := [.int 8, .int 0, .int 9]) (rest := []) (wc := []) ⟨hx, hb, hml, hown, hts⟩ (c_isWithin l D _ 8 0 9) (va_cwS 3 hts gX3_item_X3_isWithin rfl rfl rfl (by decide +kernel) ⟨by rw [hRf]; exact Nat.le_of_ble_eq_true rfl, by rw [hRl]; exact Nat.le_of_ble_eq_true rfl⟩) hK hP hD [] rfl (by decide) [] rfl rfl hl.1 rfl (Nat.le_of_ble_eq_true rfl) dX3_item_14 ⟨by omega, by omega⟩ (fun r_120 hr_120 => ?_)
  refine lv_topi (fun v_121 ev_121 => ?_)
  obtain rfl : v_121 = 1 := ev_121.trans (hr_120.trans (by decide))
  refine lv_if_ne (tgt := 28) hx hb dX3_item_17 (by decide) (fun c_122 => ?_) (fun c_122 => absurd c_122 (by decide))
  refine lv_aload_n hx hb dX3_item_28 rfl (lv_at hl 1 rfl) ?_
  refine lv_aload_n hx hb dX3_item_29 rfl (lv_at hl 0 rfl) ?_
  refine lv_iload_n hx hb dX3_item_30 rfl (lv_at hl 3 rfl) ?_
  refine zrdV2 (As := [.ref (qA B 0 i), .int 8]) (rest := []) (wc := qG B R N) ⟨hx, hb, hml, hown, hts⟩ (c_factOf_8 l D _ B R N i (by omega)) (cwV 2 hts gX3_item_X3_factOf rfl rfl rfl (by decide +kernel) ⟨by rw [hRf]; exact Nat.le_of_ble_eq_true rfl, by rw [hRl]; exact Nat.le_of_ble_eq_true rfl⟩) hK hP hD [0, 1, 2, 3] rfl (ci := 3) (q0 := 0) rfl rfl rfl hl.1 rfl (Nat.le_of_ble_eq_true rfl) dX3_item_31 ⟨by omega, by omega⟩ (fun r_123 hr_123 => ?_)
  refine lv_topi (fun v_124 ev_124 => ?_)
  obtain rfl : v_124 = (nI (N 0 i 15)) := ev_124.trans hr_123
  exact W.iret (v := (nI (N 0 i 15))) hx hb hr (fun t ht hW => ⟨(nI (N 0 i 15)), rfl, rfl, ht⟩) (fun _ h => by cases h) dX3_item_34
set_option maxHeartbeats 4000000 in
set_option maxRecDepth 100000 in
theorem c_factOf_9 (l : Launch) (D : zG) (sz : Nat) (B : qB) (R : qR0) (N : qN0) (i : Nat) (hi : i < 61) : Met l yX3_factOf wsX3_factOf ({ frames := 0, cells := 0, slots := 0, locals := 0 }) (zPc D (qT B) (qG B R N) sz [.ref (qA B 5 0), .ref (qA B 0 i), .int 9]) (vp_Si (fun r => r = nI (N 0 i 10))) 0 0 (fun _ => False) := by
  refine Met.ofW (cc := cX3_factOf) (maxL := 3) (ret := (some .int)) (by decide) rfl ?_
  intro p e s m args below meth c s₁ B9 hml hv
  obtain ⟨rfl, hsz, hP, hK, hD0⟩ := hv
  have hx := B9.exec
  have hb := B9.bytes
  have hr := B9.returns
  have hts := atoms_spec (ws := wsX3_factOf) B9.pre
  have hown : s.vm.findClass RX3 = some m.cls := findClass_of_methodNamed B9.named
  have hlocks := B9.notSynchronized
  subst hsz
  have hD := hD0
  generalize hAe : (fun _ : Nat => True) = A at hD
  have hl := lv_entry ([.ref (qA B 5 0), .ref (qA B 0 i), .int 9]) (n := 3) (Nat.le_of_ble_eq_true rfl)
  rw [lg_entry_eq]
  generalize (lg_sl ([.ref (qA B 5 0), .ref (qA B 0 i), .int 9]) ++ List.replicate (3 - (lg_sl ([.ref (qA B 5 0), .ref (qA B 0 i), .int 9])).length) Slot.unset).toArray = ls at hl ⊢
  have hl : lv_has ls 3 [(0, .ref (qA B 5 0)), (1, .ref (qA B 0 i)), (2, .int 9)] := hl
  have hP : va_P D vwCl (qG B R N) s.heap := hP
  generalize hRe : (headSpec _ _).room = R9
  have hRf : R9.frames = 0 := by rw [← hRe]; rfl
  have hRc : R9.cells = 0 := by rw [← hRe]; rfl
  have hRs : R9.slots = 0 := by rw [← hRe]; rfl
  have hRl : R9.locals = 0 := by rw [← hRe]; rfl
  clear hRe
  refine lv_iload_n hx hb dX3_factOf_0 rfl (lv_at hl 2 rfl) ?_
  refine lv_tableOut (tgt := 106) hx hb dX3_factOf_1 (by decide) (by decide) ?_
  refine lv_aload_n hx hb dX3_factOf_106 rfl (lv_at hl 1 rfl) ?_
  refine va_get (D := D) (ci := 0) (v := .int (nI (N 0 i 10))) (C := RX0) (T := TX0) (N := 18) hx hb hts (fun _ h9 => List.mem_cons_of_mem _ (List.mem_append_left _ (List.mem_append_right _ h9))) hown hK hP (5 + i) (qG_i (by omega)) rfl 10 (by decide) (hts (.fieldLink RX3 214 "PalletStack$Item" "ground" "I") (List.mem_of_getElem? (i := 9) (by rfl))) (fun _ h9 => h9) rfl dX3_factOf_107 ?_
  exact W.iret (v := (nI (N 0 i 10))) hx hb hr (fun t ht hW => ⟨(nI (N 0 i 10)), rfl, rfl, ht⟩) (fun _ h => by cases h) dX3_factOf_110
set_option maxHeartbeats 4000000 in
set_option maxRecDepth 100000 in
theorem c_item_9 (l : Launch) (D : zG) (sz : Nat) (B : qB) (R : qR0) (N : qN0) (i : Nat) (hi : i < N 4 1 5) (hO : qOK B N) : Met l yX3_item wsX3_item ({ frames := 2, cells := 0, slots := 0, locals := 45 }) (zPc D (qT B) (qG B R N) sz [.ref (qA B 5 0), .int (nI i), .int 9]) (vp_Si (fun r => r = nI (N 0 i 10))) 0 0 (fun _ => False) := by
  refine Met.ofW (cc := cX3_item) (maxL := 4) (ret := (some .int)) (by decide) rfl ?_
  intro p e s m args below meth c s₁ B9 hml hv
  obtain ⟨rfl, hsz, hP, hK, hD0⟩ := hv
  have hx := B9.exec
  have hb := B9.bytes
  have hr := B9.returns
  have hts := atoms_spec (ws := wsX3_item) B9.pre
  have hown : s.vm.findClass RX3 = some m.cls := findClass_of_methodNamed B9.named
  have hlocks := B9.notSynchronized
  subst hsz
  have hD := hD0
  generalize hAe : (fun _ : Nat => True) = A at hD
  have hl := lv_entry ([.ref (qA B 5 0), .int (nI i), .int 9]) (n := 4) (Nat.le_of_ble_eq_true rfl)
  rw [lg_entry_eq]
  generalize (lg_sl ([.ref (qA B 5 0), .int (nI i), .int 9]) ++ List.replicate (4 - (lg_sl ([.ref (qA B 5 0), .int (nI i), .int 9])).length) Slot.unset).toArray = ls at hl ⊢
  have hl : lv_has ls 4 [(0, .ref (qA B 5 0)), (1, .int (nI i)), (2, .int 9)] := hl
  have hP : va_P D vwCl (qG B R N) s.heap := hP
  generalize hRe : (headSpec _ _).room = R9
  have hRf : R9.frames = 2 := by rw [← hRe]; rfl
  have hRc : R9.cells = 0 := by rw [← hRe]; rfl
  have hRs : R9.slots = 0 := by rw [← hRe]; rfl
  have hRl : R9.locals = 45 := by rw [← hRe]; rfl
  clear hRe
  have o8 := hO.2.2.2.2.2.2.2.1
  refine lv_aload_n hx hb dX3_item_0 rfl (lv_at hl 0 rfl) ?_
  refine lv_iload_n hx hb dX3_item_1 rfl (lv_at hl 1 rfl) ?_
  refine zrdVq2 (As := [.int (nI i)]) (rest := []) (wc := qG B R N) ⟨hx, hb, hml, hown, hts⟩ (c_itemOf l D _ B R N i hi hO) (cwV 1 hts gX3_item_X3_itemOf rfl rfl rfl (by decide +kernel) ⟨by rw [hRf]; exact Nat.le_of_ble_eq_true rfl, by rw [hRl]; exact Nat.le_of_ble_eq_true rfl⟩) hK hP hD [0, 1, 2, 3] rfl (ci := 3) (q0 := 0) rfl rfl rfl hl.1 rfl (Nat.le_of_ble_eq_true rfl) dX3_item_2 ⟨by omega, by omega⟩ (fun r_125 hr_125 => ?_)
  refine W.eq (g2 := F0 m 5 ls [.ref (qA B 0 i)]) (by rw [hr_125]; rfl) ?_
  refine lv_astore_n (lv' := [(3, .ref (qA B 0 i)), (0, .ref (qA B 5 0)), (1, .int (nI i)), (2, .int 9)]) hx hb dX3_item_5 rfl hl (by decide) rfl (fun ls hl => ?_)
  refine lv_aload_n hx hb dX3_item_6 rfl (lv_at hl 0 rfl) ?_
  refine lv_ifnull hx hb dX3_item_7 ?_
  refine lv_iload_n hx hb dX3_item_10 rfl (lv_at hl 3 rfl) ?_
  refine lv_iconst (v := 0) hx hb dX3_item_11 (by decide) ?_
  refine lv_bipush (v := 9) hx hb dX3_item_12 (by decide) ?_
  refine zrdS (As := [.int 9, .int 0, .int 9]) (rest := []) (wc := []) ⟨hx, hb, hml, hown, hts⟩ (c_isWithin l D _ 9 0 9) (va_cwS 3 hts gX3_item_X3_isWithin rfl rfl rfl (by decide +kernel) ⟨by rw [hRf]; exact Nat.le_of_ble_eq_true rfl, by rw [hRl]; exact Nat.le_of_ble_eq_true rfl⟩) hK hP hD [] rfl (by decide) [] rfl rfl hl.1 rfl (Nat.le_of_ble_eq_true rfl) dX3_item_14 ⟨by omega, by omega⟩ (fun r_127 hr_127 => ?_)
  refine lv_topi (fun v_128 ev_128 => ?_)
  obtain rfl : v_128 = 1 := ev_128.trans (hr_127.trans (by decide))
  refine lv_if_ne (tgt := 28) hx hb dX3_item_17 (by decide) (fun c_129 => ?_) (fun c_129 => absurd c_129 (by decide))
  refine lv_aload_n hx hb dX3_item_28 rfl (lv_at hl 1 rfl) ?_
  refine lv_aload_n hx hb dX3_item_29 rfl (lv_at hl 0 rfl) ?_
  refine lv_iload_n hx hb dX3_item_30 rfl (lv_at hl 3 rfl) ?_
  refine zrdV2 (As := [.ref (qA B 0 i), .int 9]) (rest := []) (wc := qG B R N) ⟨hx, hb, hml, hown, hts⟩ (c_factOf_9 l D _ B R N i (by omega)) (cwV 2 hts gX3_item_X3_factOf rfl rfl rfl (by decide +kernel) ⟨by rw [hRf]; exact Nat.le_of_ble_eq_true rfl, by rw [hRl]; exact Nat.le_of_ble_eq_true rfl⟩) hK hP hD [0, 1, 2, 3] rfl (ci := 3) (q0 := 0) rfl rfl rfl hl.1 rfl (Nat.le_of_ble_eq_true rfl) dX3_item_31 ⟨by omega, by omega⟩ (fun r_130 hr_130 => ?_)
  refine lv_topi (fun v_131 ev_131 => ?_)
  obtain rfl : v_131 = (nI (N 0 i 10)) := ev_131.trans hr_130
  exact W.iret (v := (nI (N 0 i 10))) hx hb hr (fun t ht hW => ⟨(nI (N 0 i 10)), rfl, rfl, ht⟩) (fun _ h => by cases h) dX3_item_34
