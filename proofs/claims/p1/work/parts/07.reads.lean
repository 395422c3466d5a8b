theorem z03 {a : Int32} (h : 0 ≤ a ∧ a ≤ 3) : a = 0 ∨ a = 1 ∨ a = 2 ∨ a = 3 := by
  obtain ⟨n, hn, rfl⟩ := zNat (k := 3) (by decide) h.1 h.2
  have h4 : n = 0 ∨ n = 1 ∨ n = 2 ∨ n = 3 := by omega
  rcases h4 with rfl | rfl | rfl | rfl
  · exact Or.inl rfl
  · exact Or.inr (Or.inl rfl)
  · exact Or.inr (Or.inr (Or.inl rfl))
  · exact Or.inr (Or.inr (Or.inr rfl))
set_option maxHeartbeats 4000000 in
set_option maxRecDepth 100000 in
theorem c_isWithin (l : Launch) (D : zG) (sz : Nat) (a b c1 : Int32) : Met l yX3_isWithin wsX3_isWithin ({ frames := 0, cells := 0, slots := 0, locals := 0 }) (zPc D [] ([]) sz [.int a, .int b, .int c1]) (vp_Si (fun r => r = if b ≤ a ∧ a ≤ c1 then 1 else 0)) 0 0 (fun _ => False) := by
  refine Met.ofW (cc := cX3_isWithin) (maxL := 3) (ret := (some .boolean)) (by decide) rfl ?_
  intro p e s m args below meth c s₁ B hml hv
  obtain ⟨rfl, hsz, hP, hK, hD0⟩ := hv
  have hx := B.exec
  have hb := B.bytes
  have hr := B.returns
  have hts := atoms_spec (ws := wsX3_isWithin) B.pre
  have hown : s.vm.findClass RX3 = some m.cls := findClass_of_methodNamed B.named
  have hlocks := B.notSynchronized
  subst hsz
  have hD := hD0
  generalize hAe : (fun _ : Nat => True) = A at hD
  have hl := lv_entry ([.int a, .int b, .int c1]) (n := 3) (Nat.le_of_ble_eq_true rfl)
  rw [lg_entry_eq]
  generalize (lg_sl ([.int a, .int b, .int c1]) ++ List.replicate (3 - (lg_sl ([.int a, .int b, .int c1])).length) Slot.unset).toArray = ls at hl ⊢
  have hl : lv_has ls 3 [(0, .int a), (1, .int b), (2, .int c1)] := hl
  have hP : va_P D vwCl ([]) s.heap := hP
  generalize hRe : (headSpec _ _).room = R
  have hRf : R.frames = 0 := by rw [← hRe]; rfl
  have hRc : R.cells = 0 := by rw [← hRe]; rfl
  have hRs : R.slots = 0 := by rw [← hRe]; rfl
  have hRl : R.locals = 0 := by rw [← hRe]; rfl
  clear hRe
  refine lv_iload_n hx hb dX3_isWithin_0 rfl (lv_at hl 0 rfl) ?_
  refine lv_iload_n hx hb dX3_isWithin_1 rfl (lv_at hl 1 rfl) ?_
  refine lv_icmp_lt (tgt := 14) hx hb dX3_isWithin_2 (by decide) (fun c_1 => ?_) (fun c_1 => ?_)
  · have h_b := True.intro
    refine lv_iconst (v := 0) hx hb dX3_isWithin_14 (by decide) ?_
    exact W.zret (ty := .boolean) (v := 0) hx hb hr rfl (fun t ht hW => ⟨0, rfl, (if_neg (fun h => absurd h.1 (Int32.not_le.mpr c_1))).symm, ht⟩) (fun _ h => by cases h) dX3_isWithin_15
  · have h_b := True.intro
    refine lv_iload_n hx hb dX3_isWithin_5 rfl (lv_at hl 0 rfl) ?_
    refine lv_iload_n hx hb dX3_isWithin_6 rfl (lv_at hl 2 rfl) ?_
    refine lv_icmp_gt (tgt := 14) hx hb dX3_isWithin_7 (by decide) (fun c_2 => ?_) (fun c_2 => ?_)
    · have h_b := True.intro
      refine lv_iconst (v := 0) hx hb dX3_isWithin_14 (by decide) ?_
      exact W.zret (ty := .boolean) (v := 0) hx hb hr rfl (fun t ht hW => ⟨0, rfl, (if_neg (fun h => absurd h.2 (Int32.not_le.mpr c_2))).symm, ht⟩) (fun _ h => by cases h) dX3_isWithin_15
    · have h_b := True.intro
      refine lv_iconst (v := 1) hx hb dX3_isWithin_10 (by decide) ?_
      refine lv_goto (tgt := 15) hx hb dX3_isWithin_11 (by decide) ?_
      exact W.zret (ty := .boolean) (v := 1) hx hb hr rfl (fun t ht hW => ⟨1, rfl, (if_pos ⟨Int32.not_lt.mp c_1, Int32.not_lt.mp c_2⟩).symm, ht⟩) (fun _ h => by cases h) dX3_isWithin_15
set_option maxHeartbeats 4000000 in
set_option maxRecDepth 100000 in
theorem c_isCell (l : Launch) (D : zG) (sz : Nat) (a b : Int32) : Met l yX3_isCell wsX3_isCell ({ frames := 1, cells := 0, slots := 0, locals := 22 }) (zPc D [] ([]) sz [.int a, .int b]) (vp_Si (fun r => r = if (0 ≤ a ∧ a ≤ 11) ∧ (0 ≤ b ∧ b ≤ 9) then 1 else 0)) 0 0 (fun _ => False) := by
  refine Met.ofW (cc := cX3_isCell) (maxL := 2) (ret := (some .boolean)) (by decide) rfl ?_
  intro p e s m args below meth c s₁ B hml hv
  obtain ⟨rfl, hsz, hP, hK, hD0⟩ := hv
  have hx := B.exec
  have hb := B.bytes
  have hr := B.returns
  have hts := atoms_spec (ws := wsX3_isCell) B.pre
  have hown : s.vm.findClass RX3 = some m.cls := findClass_of_methodNamed B.named
  have hlocks := B.notSynchronized
  subst hsz
  have hD := hD0
  generalize hAe : (fun _ : Nat => True) = A at hD
  have hl := lv_entry ([.int a, .int b]) (n := 2) (Nat.le_of_ble_eq_true rfl)
  rw [lg_entry_eq]
  generalize (lg_sl ([.int a, .int b]) ++ List.replicate (2 - (lg_sl ([.int a, .int b])).length) Slot.unset).toArray = ls at hl ⊢
  have hl : lv_has ls 2 [(0, .int a), (1, .int b)] := hl
  have hP : va_P D vwCl ([]) s.heap := hP
  generalize hRe : (headSpec _ _).room = R
  have hRf : R.frames = 1 := by rw [← hRe]; rfl
  have hRc : R.cells = 0 := by rw [← hRe]; rfl
  have hRs : R.slots = 0 := by rw [← hRe]; rfl
  have hRl : R.locals = 22 := by rw [← hRe]; rfl
  clear hRe
  refine lv_iload_n hx hb dX3_isCell_0 rfl (lv_at hl 0 rfl) ?_
  refine lv_iconst (v := 0) hx hb dX3_isCell_1 (by decide) ?_
  refine lv_bipush (v := 11) hx hb dX3_isCell_2 (by decide) ?_
  refine zrdS (As := [.int a, .int 0, .int 11]) (rest := []) (wc := []) ⟨hx, hb, hml, hown, hts⟩ (c_isWithin l D _ a 0 11) (va_cwS 3 hts gX3_isCell_X3_isWithin rfl rfl rfl (by decide +kernel) ⟨by rw [hRf]; exact Nat.le_of_ble_eq_true rfl, by rw [hRl]; exact Nat.le_of_ble_eq_true rfl⟩) hK hP hD [] rfl (by decide) [] rfl rfl hl.1 rfl (Nat.le_of_ble_eq_true rfl) dX3_isCell_4 ⟨by omega, by omega⟩ (fun r_3 hr_3 => ?_)
  refine lv_if_eq (tgt := 24) hx hb dX3_isCell_7 (by decide) (fun c_4 => ?_) (fun c_4 => ?_)
  · have h_b := True.intro
    have k_5 : ¬ (0 ≤ a ∧ a ≤ 11) := fun h9 => absurd ((hr_3.trans (if_pos h9)).symm.trans c_4) (by decide)
    refine lv_iconst (v := 0) hx hb dX3_isCell_24 (by decide) ?_
    exact W.zret (ty := .boolean) (v := 0) hx hb hr rfl (fun t ht hW => ⟨0, rfl, (if_neg (fun h => absurd h.1 k_5)).symm, ht⟩) (fun _ h => by cases h) dX3_isCell_25
  · have h_b := True.intro
    have k_6 : 0 ≤ a ∧ a ≤ 11 := Decidable.byContradiction fun h9 => absurd (hr_3.trans (if_neg h9)) c_4
    refine lv_iload_n hx hb dX3_isCell_10 rfl (lv_at hl 1 rfl) ?_
    refine lv_iconst (v := 0) hx hb dX3_isCell_11 (by decide) ?_
    refine lv_bipush (v := 9) hx hb dX3_isCell_12 (by decide) ?_
    refine zrdS (As := [.int b, .int 0, .int 9]) (rest := []) (wc := []) ⟨hx, hb, hml, hown, hts⟩ (c_isWithin l D _ b 0 9) (va_cwS 3 hts gX3_isCell_X3_isWithin rfl rfl rfl (by decide +kernel) ⟨by rw [hRf]; exact Nat.le_of_ble_eq_true rfl, by rw [hRl]; exact Nat.le_of_ble_eq_true rfl⟩) hK hP hD [] rfl (by decide) [] rfl rfl hl.1 rfl (Nat.le_of_ble_eq_true rfl) dX3_isCell_14 ⟨by omega, by omega⟩ (fun r_7 hr_7 => ?_)
    refine lv_if_eq (tgt := 24) hx hb dX3_isCell_17 (by decide) (fun c_8 => ?_) (fun c_8 => ?_)
    · have h_b := True.intro
      have k_9 : ¬ (0 ≤ b ∧ b ≤ 9) := fun h9 => absurd ((hr_7.trans (if_pos h9)).symm.trans c_8) (by decide)
      refine lv_iconst (v := 0) hx hb dX3_isCell_24 (by decide) ?_
      exact W.zret (ty := .boolean) (v := 0) hx hb hr rfl (fun t ht hW => ⟨0, rfl, (if_neg (fun h => absurd h.2 k_9)).symm, ht⟩) (fun _ h => by cases h) dX3_isCell_25
    · have h_b := True.intro
      have k_10 : 0 ≤ b ∧ b ≤ 9 := Decidable.byContradiction fun h9 => absurd (hr_7.trans (if_neg h9)) c_8
      refine lv_iconst (v := 1) hx hb dX3_isCell_20 (by decide) ?_
      refine lv_goto (tgt := 25) hx hb dX3_isCell_21 (by decide) ?_
      exact W.zret (ty := .boolean) (v := 1) hx hb hr rfl (fun t ht hW => ⟨1, rfl, (if_pos ⟨k_6, k_10⟩).symm, ht⟩) (fun _ h => by cases h) dX3_isCell_25
set_option maxHeartbeats 4000000 in
set_option maxRecDepth 100000 in
theorem c_kindOf0 (l : Launch) (D : zG) (sz : Nat) (o kA iA tA tr lA : Nat) (a : Int32) : Met l yX3_kindOf wsX3_kindOf ({ frames := 1, cells := 0, slots := 0, locals := 22 }) (zPc D [] ([(o, .inr (3, [.ref kA, .int 0, .int 20, .int 60, .int 2000, .int 0, .ref iA, .int 0, .int 0, .int 0, .ref tA, .ref tr, .ref lA, .int 0]))]) sz [.ref o, .int a]) (va_Sq (fun r => r = none)) 0 0 (fun _ => False) := by
  refine Met.ofW (cc := cX3_kindOf) (maxL := 2) (ret := (some (.object "PalletStack$Kind"))) (by decide) rfl ?_
  intro p e s m args below meth c s₁ B hml hv
  obtain ⟨rfl, hsz, hP, hK, hD0⟩ := hv
  have hx := B.exec
  have hb := B.bytes
  have hr := B.returns
  have hts := atoms_spec (ws := wsX3_kindOf) B.pre
  have hown : s.vm.findClass RX3 = some m.cls := findClass_of_methodNamed B.named
  have hlocks := B.notSynchronized
  subst hsz
  have hD := hD0
  generalize hAe : (fun _ : Nat => True) = A at hD
  have hl := lv_entry ([.ref o, .int a]) (n := 2) (Nat.le_of_ble_eq_true rfl)
  rw [lg_entry_eq]
  generalize (lg_sl ([.ref o, .int a]) ++ List.replicate (2 - (lg_sl ([.ref o, .int a])).length) Slot.unset).toArray = ls at hl ⊢
  have hl : lv_has ls 2 [(0, .ref o), (1, .int a)] := hl
  have hP : va_P D vwCl ([(o, .inr (3, [.ref kA, .int 0, .int 20, .int 60, .int 2000, .int 0, .ref iA, .int 0, .int 0, .int 0, .ref tA, .ref tr, .ref lA, .int 0]))]) s.heap := hP
  generalize hRe : (headSpec _ _).room = R
  have hRf : R.frames = 1 := by rw [← hRe]; rfl
  have hRc : R.cells = 0 := by rw [← hRe]; rfl
  have hRs : R.slots = 0 := by rw [← hRe]; rfl
  have hRl : R.locals = 22 := by rw [← hRe]; rfl
  clear hRe
  refine lv_iload_n hx hb dX3_kindOf_0 rfl (lv_at hl 1 rfl) ?_
  refine lv_iconst (v := 0) hx hb dX3_kindOf_1 (by decide) ?_
  refine lv_bipush (v := 9) hx hb dX3_kindOf_2 (by decide) ?_
  refine zrdS (As := [.int a, .int 0, .int 9]) (rest := []) (wc := []) ⟨hx, hb, hml, hown, hts⟩ (c_isWithin l D _ a 0 9) (va_cwS 3 hts gX3_kindOf_X3_isWithin rfl rfl rfl (by decide +kernel) ⟨by rw [hRf]; exact Nat.le_of_ble_eq_true rfl, by rw [hRl]; exact Nat.le_of_ble_eq_true rfl⟩) hK hP hD [] rfl (by decide) [] rfl rfl hl.1 rfl (Nat.le_of_ble_eq_true rfl) dX3_kindOf_4 ⟨by omega, by omega⟩ (fun r_11 hr_11 => ?_)
  refine lv_if_eq (tgt := 27) hx hb dX3_kindOf_7 (by decide) (fun c_12 => ?_) (fun c_12 => ?_)
  · have h_b := True.intro
    have k_13 : ¬ (0 ≤ a ∧ a ≤ 9) := fun h9 => absurd ((hr_11.trans (if_pos h9)).symm.trans c_12) (by decide)
    refine lv_null hx hb dX3_kindOf_27 ?_
    exact W.aret (v := .null) hx hb hr (.inl ⟨_, rfl⟩) (.inl rfl) (fun t ht hW => ⟨none, rfl, rfl, ht⟩) (fun _ h => by cases h) dX3_kindOf_28
  · have h_b := True.intro
    have k_14 : 0 ≤ a ∧ a ≤ 9 := Decidable.byContradiction fun h9 => absurd (hr_11.trans (if_neg h9)) c_12
    refine lv_iload_n hx hb dX3_kindOf_10 rfl (lv_at hl 1 rfl) ?_
    refine lv_aload_n hx hb dX3_kindOf_11 rfl (lv_at hl 0 rfl) ?_
    refine va_get (D := D) (ci := 3) (v := .int 0) (C := RX3) (T := TX3) (N := 14) hx hb hts (fun _ h9 => List.mem_cons_of_mem _ (List.mem_append_right _ h9)) hown hK hP 0 rfl rfl 1 (by decide) (hts (.fieldLink RX3 15 "PalletStack" "kindCount" "I") (List.mem_of_getElem? (i := 1) (by rfl))) (fun _ h9 => h9) rfl dX3_kindOf_12 ?_
    refine lv_icmp_ge (tgt := 27) hx hb dX3_kindOf_15 (by decide) (fun c_15 => ?_) (fun c_15 => absurd (k_14.1) c_15)
    refine lv_null hx hb dX3_kindOf_27 ?_
    exact W.aret (v := .null) hx hb hr (.inl ⟨_, rfl⟩) (.inl rfl) (fun t ht hW => ⟨none, rfl, rfl, ht⟩) (fun _ h => by cases h) dX3_kindOf_28
set_option maxHeartbeats 4000000 in
set_option maxRecDepth 100000 in
theorem c_lineOf0 (l : Launch) (D : zG) (sz : Nat) (o kA iA tA tr lA : Nat) (a : Int32) : Met l yX3_lineOf wsX3_lineOf ({ frames := 1, cells := 0, slots := 0, locals := 22 }) (zPc D [] ([(o, .inr (3, [.ref kA, .int 0, .int 20, .int 60, .int 2000, .int 0, .ref iA, .int 0, .int 0, .int 0, .ref tA, .ref tr, .ref lA, .int 0]))]) sz [.ref o, .int a]) (va_Sq (fun r => r = none)) 0 0 (fun _ => False) := by
  refine Met.ofW (cc := cX3_lineOf) (maxL := 2) (ret := (some (.object "PalletStack$Line"))) (by decide) rfl ?_
  intro p e s m args below meth c s₁ B hml hv
  obtain ⟨rfl, hsz, hP, hK, hD0⟩ := hv
  have hx := B.exec
  have hb := B.bytes
  have hr := B.returns
  have hts := atoms_spec (ws := wsX3_lineOf) B.pre
  have hown : s.vm.findClass RX3 = some m.cls := findClass_of_methodNamed B.named
  have hlocks := B.notSynchronized
  subst hsz
  have hD := hD0
  generalize hAe : (fun _ : Nat => True) = A at hD
  have hl := lv_entry ([.ref o, .int a]) (n := 2) (Nat.le_of_ble_eq_true rfl)
  rw [lg_entry_eq]
  generalize (lg_sl ([.ref o, .int a]) ++ List.replicate (2 - (lg_sl ([.ref o, .int a])).length) Slot.unset).toArray = ls at hl ⊢
  have hl : lv_has ls 2 [(0, .ref o), (1, .int a)] := hl
  have hP : va_P D vwCl ([(o, .inr (3, [.ref kA, .int 0, .int 20, .int 60, .int 2000, .int 0, .ref iA, .int 0, .int 0, .int 0, .ref tA, .ref tr, .ref lA, .int 0]))]) s.heap := hP
  generalize hRe : (headSpec _ _).room = R
  have hRf : R.frames = 1 := by rw [← hRe]; rfl
  have hRc : R.cells = 0 := by rw [← hRe]; rfl
  have hRs : R.slots = 0 := by rw [← hRe]; rfl
  have hRl : R.locals = 22 := by rw [← hRe]; rfl
  clear hRe
  refine lv_iload_n hx hb dX3_lineOf_0 rfl (lv_at hl 1 rfl) ?_
  refine lv_iconst (v := 0) hx hb dX3_lineOf_1 (by decide) ?_
  refine lv_bipush (v := 19) hx hb dX3_lineOf_2 (by decide) ?_
  refine zrdS (As := [.int a, .int 0, .int 19]) (rest := []) (wc := []) ⟨hx, hb, hml, hown, hts⟩ (c_isWithin l D _ a 0 19) (va_cwS 3 hts gX3_lineOf_X3_isWithin rfl rfl rfl (by decide +kernel) ⟨by rw [hRf]; exact Nat.le_of_ble_eq_true rfl, by rw [hRl]; exact Nat.le_of_ble_eq_true rfl⟩) hK hP hD [] rfl (by decide) [] rfl rfl hl.1 rfl (Nat.le_of_ble_eq_true rfl) dX3_lineOf_4 ⟨by omega, by omega⟩ (fun r_16 hr_16 => ?_)
  refine lv_if_eq (tgt := 27) hx hb dX3_lineOf_7 (by decide) (fun c_17 => ?_) (fun c_17 => ?_)
  · have h_b := True.intro
    have k_18 : ¬ (0 ≤ a ∧ a ≤ 19) := fun h9 => absurd ((hr_16.trans (if_pos h9)).symm.trans c_17) (by decide)
    refine lv_null hx hb dX3_lineOf_27 ?_
    exact W.aret (v := .null) hx hb hr (.inl ⟨_, rfl⟩) (.inl rfl) (fun t ht hW => ⟨none, rfl, rfl, ht⟩) (fun _ h => by cases h) dX3_lineOf_28
  · have h_b := True.intro
    have k_19 : 0 ≤ a ∧ a ≤ 19 := Decidable.byContradiction fun h9 => absurd (hr_16.trans (if_neg h9)) c_17
    refine lv_iload_n hx hb dX3_lineOf_10 rfl (lv_at hl 1 rfl) ?_
    refine lv_aload_n hx hb dX3_lineOf_11 rfl (lv_at hl 0 rfl) ?_
    refine va_get (D := D) (ci := 3) (v := .int 0) (C := RX3) (T := TX3) (N := 14) hx hb hts (fun _ h9 => List.mem_cons_of_mem _ (List.mem_append_right _ h9)) hown hK hP 0 rfl rfl 13 (by decide) (hts (.fieldLink RX3 62 "PalletStack" "lineCount" "I") (List.mem_of_getElem? (i := 1) (by rfl))) (fun _ h9 => h9) rfl dX3_lineOf_12 ?_
    refine lv_icmp_ge (tgt := 27) hx hb dX3_lineOf_15 (by decide) (fun c_20 => ?_) (fun c_20 => absurd (k_19.1) c_20)
    refine lv_null hx hb dX3_lineOf_27 ?_
    exact W.aret (v := .null) hx hb hr (.inl ⟨_, rfl⟩) (.inl rfl) (fun t ht hW => ⟨none, rfl, rfl, ht⟩) (fun _ h => by cases h) dX3_lineOf_28
set_option maxHeartbeats 4000000 in
set_option maxRecDepth 100000 in
theorem c_itemOf0 (l : Launch) (D : zG) (sz : Nat) (o kA iA tA tr lA : Nat) (a : Int32) : Met l yX3_itemOf wsX3_itemOf ({ frames := 0, cells := 0, slots := 0, locals := 0 }) (zPc D [] ([(o, .inr (3, [.ref kA, .int 0, .int 20, .int 60, .int 2000, .int 0, .ref iA, .int 0, .int 0, .int 0, .ref tA, .ref tr, .ref lA, .int 0]))]) sz [.ref o, .int a]) (va_Sq (fun r => r = none)) 0 0 (fun _ => False) := by
  refine Met.ofW (cc := cX3_itemOf) (maxL := 3) (ret := (some (.object "PalletStack$Item"))) (by decide) rfl ?_
  intro p e s m args below meth c s₁ B hml hv
  obtain ⟨rfl, hsz, hP, hK, hD0⟩ := hv
  have hx := B.exec
  have hb := B.bytes
  have hr := B.returns
  have hts := atoms_spec (ws := wsX3_itemOf) B.pre
  have hown : s.vm.findClass RX3 = some m.cls := findClass_of_methodNamed B.named
  have hlocks := B.notSynchronized
  subst hsz
  have hD := hD0
  generalize hAe : (fun _ : Nat => True) = A at hD
  have hl := lv_entry ([.ref o, .int a]) (n := 3) (Nat.le_of_ble_eq_true rfl)
  rw [lg_entry_eq]
  generalize (lg_sl ([.ref o, .int a]) ++ List.replicate (3 - (lg_sl ([.ref o, .int a])).length) Slot.unset).toArray = ls at hl ⊢
  have hl : lv_has ls 3 [(0, .ref o), (1, .int a)] := hl
  have hP : va_P D vwCl ([(o, .inr (3, [.ref kA, .int 0, .int 20, .int 60, .int 2000, .int 0, .ref iA, .int 0, .int 0, .int 0, .ref tA, .ref tr, .ref lA, .int 0]))]) s.heap := hP
  generalize hRe : (headSpec _ _).room = R
  have hRf : R.frames = 0 := by rw [← hRe]; rfl
  have hRc : R.cells = 0 := by rw [← hRe]; rfl
  have hRs : R.slots = 0 := by rw [← hRe]; rfl
  have hRl : R.locals = 0 := by rw [← hRe]; rfl
  clear hRe
  refine lv_iload_n hx hb dX3_itemOf_0 rfl (lv_at hl 1 rfl) ?_
  refine lv_if_lt (tgt := 18) hx hb dX3_itemOf_1 (by decide) (fun c_21 => ?_) (fun c_21 => ?_)
  · have h_b := True.intro
    refine lv_null hx hb dX3_itemOf_18 ?_
    exact W.aret (v := .null) hx hb hr (.inl ⟨_, rfl⟩) (.inl rfl) (fun t ht hW => ⟨none, rfl, rfl, ht⟩) (fun _ h => by cases h) dX3_itemOf_19
  · have h_b := True.intro
    refine lv_iload_n hx hb dX3_itemOf_4 rfl (lv_at hl 1 rfl) ?_
    refine lv_bipush (v := 60) hx hb dX3_itemOf_5 (by decide) ?_
    refine lv_icmp_ge (tgt := 18) hx hb dX3_itemOf_7 (by decide) (fun c_22 => ?_) (fun c_22 => ?_)
    · have h_b := True.intro
      refine lv_null hx hb dX3_itemOf_18 ?_
      exact W.aret (v := .null) hx hb hr (.inl ⟨_, rfl⟩) (.inl rfl) (fun t ht hW => ⟨none, rfl, rfl, ht⟩) (fun _ h => by cases h) dX3_itemOf_19
    · have h_b := True.intro
      refine lv_iload_n hx hb dX3_itemOf_10 rfl (lv_at hl 1 rfl) ?_
      refine lv_aload_n hx hb dX3_itemOf_11 rfl (lv_at hl 0 rfl) ?_
      refine va_get (D := D) (ci := 3) (v := .int 0) (C := RX3) (T := TX3) (N := 14) hx hb hts (fun _ h9 => List.mem_cons_of_mem _ (List.mem_append_left _ (List.mem_append_right _ h9))) hown hK hP 0 rfl rfl 7 (by decide) (hts (.fieldLink RX3 38 "PalletStack" "cameCount" "I") (List.mem_of_getElem? (i := 1) (by rfl))) (fun _ h9 => h9) rfl dX3_itemOf_12 ?_
      refine lv_icmp_lt (tgt := 20) hx hb dX3_itemOf_15 (by decide) (fun c_23 => absurd c_23 (c_21)) (fun c_23 => ?_)
      refine lv_null hx hb dX3_itemOf_18 ?_
      exact W.aret (v := .null) hx hb hr (.inl ⟨_, rfl⟩) (.inl rfl) (fun t ht hW => ⟨none, rfl, rfl, ht⟩) (fun _ h => by cases h) dX3_itemOf_19
set_option maxHeartbeats 4000000 in
set_option maxRecDepth 100000 in
theorem c_topOfN (l : Launch) (D : zG) (sz : Nat) (o kA iA tA tr lA : Nat) (cT : ClassId) (a b : Nat) (ha : a < 12) (hb2 : b < 10) : Met l yX3_topOf wsX3_topOf ({ frames := 0, cells := 0, slots := 0, locals := 0 }) (zPc D [(cT, .int)] ([(o, .inr (3, [.ref kA, .int 0, .int 20, .int 60, .int 2000, .int 0, .ref iA, .int 0, .int 0, .int 0, .ref tA, .ref tr, .ref lA, .int 0])), (tA, .inl (cT, 120, .inl (fun _ => 0)))]) sz [.ref o, .int (nI a), .int (nI b)]) (vp_Si (fun r => r = 0)) 0 0 (fun _ => False) := by
  refine Met.ofW (cc := cX3_topOf) (maxL := 4) (ret := (some .int)) (by decide) rfl ?_
  intro p e s m args below meth c s₁ B hml hv
  obtain ⟨rfl, hsz, hP, hK, hD0⟩ := hv
  have hx := B.exec
  have hb := B.bytes
  have hr := B.returns
  have hts := atoms_spec (ws := wsX3_topOf) B.pre
  have hown : s.vm.findClass RX3 = some m.cls := findClass_of_methodNamed B.named
  have hlocks := B.notSynchronized
  subst hsz
  have hD := hD0
  generalize hAe : (fun _ : Nat => True) = A at hD
  have hl := lv_entry ([.ref o, .int (nI a), .int (nI b)]) (n := 4) (Nat.le_of_ble_eq_true rfl)
  rw [lg_entry_eq]
  generalize (lg_sl ([.ref o, .int (nI a), .int (nI b)]) ++ List.replicate (4 - (lg_sl ([.ref o, .int (nI a), .int (nI b)])).length) Slot.unset).toArray = ls at hl ⊢
  have hl : lv_has ls 4 [(0, .ref o), (1, .int (nI a)), (2, .int (nI b))] := hl
  have hP : va_P D vwCl ([(o, .inr (3, [.ref kA, .int 0, .int 20, .int 60, .int 2000, .int 0, .ref iA, .int 0, .int 0, .int 0, .ref tA, .ref tr, .ref lA, .int 0])), (tA, .inl (cT, 120, .inl (fun _ => 0)))]) s.heap := hP
  generalize hRe : (headSpec _ _).room = R
  have hRf : R.frames = 0 := by rw [← hRe]; rfl
  have hRc : R.cells = 0 := by rw [← hRe]; rfl
  have hRs : R.slots = 0 := by rw [← hRe]; rfl
  have hRl : R.locals = 0 := by rw [← hRe]; rfl
  clear hRe
  refine lv_iload_n hx hb dX3_topOf_0 rfl (lv_at hl 2 rfl) ?_
  refine lv_bipush (v := 12) hx hb dX3_topOf_1 (by decide) ?_
  refine lv_imul hx hb dX3_topOf_3 ?_
  refine lv_topi (fun v_24 ev_24 => ?_)
  obtain rfl : v_24 = (nI (b * 12)) := ev_24.trans (pk_mul b 12)
  refine lv_iload_n hx hb dX3_topOf_4 rfl (lv_at hl 1 rfl) ?_
  refine lv_iadd hx hb dX3_topOf_5 ?_
  refine lv_topi (fun v_25 ev_25 => ?_)
  obtain rfl : v_25 = (nI (b * 12 + a)) := ev_25.trans (nI_add _ _)
  refine lv_istore_n (lv' := [(3, .int (nI (b * 12 + a))), (0, .ref o), (1, .int (nI a)), (2, .int (nI b))]) hx hb dX3_topOf_6 rfl hl (by decide) rfl (fun ls hl => ?_)
  refine lv_iload_n hx hb dX3_topOf_7 rfl (lv_at hl 0 rfl) ?_
  refine lv_if_lt (tgt := 26) hx hb dX3_topOf_8 (by decide) (fun c_26 => absurd c_26 (nI_pos (by omega))) (fun c_26 => ?_)
  refine lv_iload_n hx hb dX3_topOf_11 rfl (lv_at hl 0 rfl) ?_
  refine lv_bipush (v := 120) hx hb dX3_topOf_12 (by decide) ?_
  refine lv_icmp_ge (tgt := 26) hx hb dX3_topOf_14 (by decide) (fun c_27 => absurd c_27 (nI_ge (b := 120) (by omega) (by decide))) (fun c_27 => ?_)
  refine lv_aload_n hx hb dX3_topOf_17 rfl (lv_at hl 1 rfl) ?_
  refine va_get (D := D) (ci := 3) (v := .ref tA) (C := RX3) (T := TX3) (N := 14) hx hb hts (fun _ h9 => List.mem_cons_of_mem _ (List.mem_append_right _ h9)) hown hK hP 0 rfl rfl 10 (by decide) (hts (.fieldLink RX3 47 "PalletStack" "tops" "[I") (List.mem_of_getElem? (i := 1) (by rfl))) (fun _ h9 => h9) rfl dX3_topOf_18 ?_
  refine lv_iload_n hx hb dX3_topOf_21 rfl (lv_at hl 0 rfl) ?_
  refine va_iald hx hb hK hP 1 0 rfl rfl (vp_in_nI (N := 120) (by omega) (by decide)) dX3_topOf_22 ?_
  refine lv_topi (fun v_28 ev_28 => ?_)
  obtain rfl : v_28 = 0 := ev_28.trans rfl
  refine lv_goto (tgt := 27) hx hb dX3_topOf_23 (by decide) ?_
  exact W.iret (v := 0) hx hb hr (fun t ht hW => ⟨0, rfl, rfl, ht⟩) (fun _ h => by cases h) dX3_topOf_27
theorem c_topOf0 (l : Launch) (D : zG) (sz : Nat) (o kA iA tA tr lA : Nat) (cT : ClassId) (a b : Int32) (h : (0 ≤ a ∧ a ≤ 11) ∧ (0 ≤ b ∧ b ≤ 9)) : Met l yX3_topOf wsX3_topOf ({ frames := 0, cells := 0, slots := 0, locals := 0 }) (zPc D [(cT, .int)] ([(o, .inr (3, [.ref kA, .int 0, .int 20, .int 60, .int 2000, .int 0, .ref iA, .int 0, .int 0, .int 0, .ref tA, .ref tr, .ref lA, .int 0])), (tA, .inl (cT, 120, .inl (fun _ => 0)))]) sz [.ref o, .int a, .int b]) (vp_Si (fun r => r = 0)) 0 0 (fun _ => False) := by
  obtain ⟨a, ha, rfl⟩ := zNat (k := 11) (by decide) h.1.1 h.1.2
  obtain ⟨b, hb, rfl⟩ := zNat (k := 9) (by decide) h.2.1 h.2.2
  exact c_topOfN l D sz o kA iA tA tr lA cT a b (by omega) (by omega)
set_option maxHeartbeats 4000000 in
set_option maxRecDepth 100000 in
theorem c_countOf0_0 (l : Launch) (D : zG) (sz : Nat) (o kA iA tA tr lA : Nat) : Met l yX3_countOf wsX3_countOf ({ frames := 0, cells := 0, slots := 0, locals := 0 }) (zPc D [] ([(o, .inr (3, [.ref kA, .int 0, .int 20, .int 60, .int 2000, .int 0, .ref iA, .int 0, .int 0, .int 0, .ref tA, .ref tr, .ref lA, .int 0]))]) sz [.ref o, .int 0]) (vp_Si (fun r => r = 0)) 0 0 (fun _ => False) := by
  refine Met.ofW (cc := cX3_countOf) (maxL := 2) (ret := (some .int)) (by decide) rfl ?_
  intro p e s m args below meth c s₁ B hml hv
  obtain ⟨rfl, hsz, hP, hK, hD0⟩ := hv
  have hx := B.exec
  have hb := B.bytes
  have hr := B.returns
  have hts := atoms_spec (ws := wsX3_countOf) B.pre
  have hown : s.vm.findClass RX3 = some m.cls := findClass_of_methodNamed B.named
  have hlocks := B.notSynchronized
  subst hsz
  have hD := hD0
  generalize hAe : (fun _ : Nat => True) = A at hD
  have hl := lv_entry ([.ref o, .int 0]) (n := 2) (Nat.le_of_ble_eq_true rfl)
  rw [lg_entry_eq]
  generalize (lg_sl ([.ref o, .int 0]) ++ List.replicate (2 - (lg_sl ([.ref o, .int 0])).length) Slot.unset).toArray = ls at hl ⊢
  have hl : lv_has ls 2 [(0, .ref o), (1, .int 0)] := hl
  have hP : va_P D vwCl ([(o, .inr (3, [.ref kA, .int 0, .int 20, .int 60, .int 2000, .int 0, .ref iA, .int 0, .int 0, .int 0, .ref tA, .ref tr, .ref lA, .int 0]))]) s.heap := hP
  generalize hRe : (headSpec _ _).room = R
  have hRf : R.frames = 0 := by rw [← hRe]; rfl
  have hRc : R.cells = 0 := by rw [← hRe]; rfl
  have hRs : R.slots = 0 := by rw [← hRe]; rfl
  have hRl : R.locals = 0 := by rw [← hRe]; rfl
  clear hRe
  refine lv_iload_n hx hb dX3_countOf_0 rfl (lv_at hl 1 rfl) ?_
  refine lv_tableIn (off := 27) (tgt := 28) hx hb dX3_countOf_1 (by decide) (by decide) (by decide) (by decide) ?_
  refine lv_aload_n hx hb dX3_countOf_28 rfl (lv_at hl 0 rfl) ?_
  refine va_get (D := D) (ci := 3) (v := .int 0) (C := RX3) (T := TX3) (N := 14) hx hb hts (fun _ h9 => List.mem_cons_of_mem _ (List.mem_append_right _ h9)) hown hK hP 0 rfl rfl 1 (by decide) (hts (.fieldLink RX3 15 "PalletStack" "kindCount" "I") (List.mem_of_getElem? (i := 1) (by rfl))) (fun _ h9 => h9) rfl dX3_countOf_29 ?_
  exact W.iret (v := 0) hx hb hr (fun t ht hW => ⟨0, rfl, rfl, ht⟩) (fun _ h => by cases h) dX3_countOf_32
set_option maxHeartbeats 4000000 in
set_option maxRecDepth 100000 in
theorem c_countOf0_1 (l : Launch) (D : zG) (sz : Nat) (o kA iA tA tr lA : Nat) : Met l yX3_countOf wsX3_countOf ({ frames := 0, cells := 0, slots := 0, locals := 0 }) (zPc D [] ([(o, .inr (3, [.ref kA, .int 0, .int 20, .int 60, .int 2000, .int 0, .ref iA, .int 0, .int 0, .int 0, .ref tA, .ref tr, .ref lA, .int 0]))]) sz [.ref o, .int 1]) (vp_Si (fun r => r = 0)) 0 0 (fun _ => False) := by
  refine Met.ofW (cc := cX3_countOf) (maxL := 2) (ret := (some .int)) (by decide) rfl ?_
  intro p e s m args below meth c s₁ B hml hv
  obtain ⟨rfl, hsz, hP, hK, hD0⟩ := hv
  have hx := B.exec
  have hb := B.bytes
  have hr := B.returns
  have hts := atoms_spec (ws := wsX3_countOf) B.pre
  have hown : s.vm.findClass RX3 = some m.cls := findClass_of_methodNamed B.named
  have hlocks := B.notSynchronized
  subst hsz
  have hD := hD0
  generalize hAe : (fun _ : Nat => True) = A at hD
  have hl := lv_entry ([.ref o, .int 1]) (n := 2) (Nat.le_of_ble_eq_true rfl)
  rw [lg_entry_eq]
  generalize (lg_sl ([.ref o, .int 1]) ++ List.replicate (2 - (lg_sl ([.ref o, .int 1])).length) Slot.unset).toArray = ls at hl ⊢
  have hl : lv_has ls 2 [(0, .ref o), (1, .int 1)] := hl
  have hP : va_P D vwCl ([(o, .inr (3, [.ref kA, .int 0, .int 20, .int 60, .int 2000, .int 0, .ref iA, .int 0, .int 0, .int 0, .ref tA, .ref tr, .ref lA, .int 0]))]) s.heap := hP
  generalize hRe : (headSpec _ _).room = R
  have hRf : R.frames = 0 := by rw [← hRe]; rfl
  have hRc : R.cells = 0 := by rw [← hRe]; rfl
  have hRs : R.slots = 0 := by rw [← hRe]; rfl
  have hRl : R.locals = 0 := by rw [← hRe]; rfl
  clear hRe
  refine lv_iload_n hx hb dX3_countOf_0 rfl (lv_at hl 1 rfl) ?_
  refine lv_tableIn (off := 32) (tgt := 33) hx hb dX3_countOf_1 (by decide) (by decide) (by decide) (by decide) ?_
  refine lv_aload_n hx hb dX3_countOf_33 rfl (lv_at hl 0 rfl) ?_
  refine va_get (D := D) (ci := 3) (v := .int 0) (C := RX3) (T := TX3) (N := 14) hx hb hts (fun _ h9 => List.mem_cons_of_mem _ (List.mem_append_right _ h9)) hown hK hP 0 rfl rfl 8 (by decide) (hts (.fieldLink RX3 41 "PalletStack" "onPalletCount" "I") (List.mem_of_getElem? (i := 2) (by rfl))) (fun _ h9 => h9) rfl dX3_countOf_34 ?_
  exact W.iret (v := 0) hx hb hr (fun t ht hW => ⟨0, rfl, rfl, ht⟩) (fun _ h => by cases h) dX3_countOf_37
set_option maxHeartbeats 4000000 in
set_option maxRecDepth 100000 in
theorem c_countOf0_2 (l : Launch) (D : zG) (sz : Nat) (o kA iA tA tr lA : Nat) : Met l yX3_countOf wsX3_countOf ({ frames := 0, cells := 0, slots := 0, locals := 0 }) (zPc D [] ([(o, .inr (3, [.ref kA, .int 0, .int 20, .int 60, .int 2000, .int 0, .ref iA, .int 0, .int 0, .int 0, .ref tA, .ref tr, .ref lA, .int 0]))]) sz [.ref o, .int 2]) (vp_Si (fun r => r = 0)) 0 0 (fun _ => False) := by
  refine Met.ofW (cc := cX3_countOf) (maxL := 2) (ret := (some .int)) (by decide) rfl ?_
  intro p e s m args below meth c s₁ B hml hv
  obtain ⟨rfl, hsz, hP, hK, hD0⟩ := hv
  have hx := B.exec
  have hb := B.bytes
  have hr := B.returns
  have hts := atoms_spec (ws := wsX3_countOf) B.pre
  have hown : s.vm.findClass RX3 = some m.cls := findClass_of_methodNamed B.named
  have hlocks := B.notSynchronized
  subst hsz
  have hD := hD0
  generalize hAe : (fun _ : Nat => True) = A at hD
  have hl := lv_entry ([.ref o, .int 2]) (n := 2) (Nat.le_of_ble_eq_true rfl)
  rw [lg_entry_eq]
  generalize (lg_sl ([.ref o, .int 2]) ++ List.replicate (2 - (lg_sl ([.ref o, .int 2])).length) Slot.unset).toArray = ls at hl ⊢
  have hl : lv_has ls 2 [(0, .ref o), (1, .int 2)] := hl
  have hP : va_P D vwCl ([(o, .inr (3, [.ref kA, .int 0, .int 20, .int 60, .int 2000, .int 0, .ref iA, .int 0, .int 0, .int 0, .ref tA, .ref tr, .ref lA, .int 0]))]) s.heap := hP
  generalize hRe : (headSpec _ _).room = R
  have hRf : R.frames = 0 := by rw [← hRe]; rfl
  have hRc : R.cells = 0 := by rw [← hRe]; rfl
  have hRs : R.slots = 0 := by rw [← hRe]; rfl
  have hRl : R.locals = 0 := by rw [← hRe]; rfl
  clear hRe
  refine lv_iload_n hx hb dX3_countOf_0 rfl (lv_at hl 1 rfl) ?_
  refine lv_tableIn (off := 37) (tgt := 38) hx hb dX3_countOf_1 (by decide) (by decide) (by decide) (by decide) ?_
  refine lv_aload_n hx hb dX3_countOf_38 rfl (lv_at hl 0 rfl) ?_
  refine va_get (D := D) (ci := 3) (v := .int 0) (C := RX3) (T := TX3) (N := 14) hx hb hts (fun _ h9 => List.mem_cons_of_mem _ (List.mem_append_right _ h9)) hown hK hP 0 rfl rfl 7 (by decide) (hts (.fieldLink RX3 38 "PalletStack" "cameCount" "I") (List.mem_of_getElem? (i := 3) (by rfl))) (fun _ h9 => h9) rfl dX3_countOf_39 ?_
  exact W.iret (v := 0) hx hb hr (fun t ht hW => ⟨0, rfl, rfl, ht⟩) (fun _ h => by cases h) dX3_countOf_42
set_option maxHeartbeats 4000000 in
set_option maxRecDepth 100000 in
theorem c_countOf0_3 (l : Launch) (D : zG) (sz : Nat) (o kA iA tA tr lA : Nat) : Met l yX3_countOf wsX3_countOf ({ frames := 0, cells := 0, slots := 0, locals := 0 }) (zPc D [] ([(o, .inr (3, [.ref kA, .int 0, .int 20, .int 60, .int 2000, .int 0, .ref iA, .int 0, .int 0, .int 0, .ref tA, .ref tr, .ref lA, .int 0]))]) sz [.ref o, .int 3]) (vp_Si (fun r => r = 0)) 0 0 (fun _ => False) := by
  refine Met.ofW (cc := cX3_countOf) (maxL := 2) (ret := (some .int)) (by decide) rfl ?_
  intro p e s m args below meth c s₁ B hml hv
  obtain ⟨rfl, hsz, hP, hK, hD0⟩ := hv
  have hx := B.exec
  have hb := B.bytes
  have hr := B.returns
  have hts := atoms_spec (ws := wsX3_countOf) B.pre
  have hown : s.vm.findClass RX3 = some m.cls := findClass_of_methodNamed B.named
  have hlocks := B.notSynchronized
  subst hsz
  have hD := hD0
  generalize hAe : (fun _ : Nat => True) = A at hD
  have hl := lv_entry ([.ref o, .int 3]) (n := 2) (Nat.le_of_ble_eq_true rfl)
  rw [lg_entry_eq]
  generalize (lg_sl ([.ref o, .int 3]) ++ List.replicate (2 - (lg_sl ([.ref o, .int 3])).length) Slot.unset).toArray = ls at hl ⊢
  have hl : lv_has ls 2 [(0, .ref o), (1, .int 3)] := hl
  have hP : va_P D vwCl ([(o, .inr (3, [.ref kA, .int 0, .int 20, .int 60, .int 2000, .int 0, .ref iA, .int 0, .int 0, .int 0, .ref tA, .ref tr, .ref lA, .int 0]))]) s.heap := hP
  generalize hRe : (headSpec _ _).room = R
  have hRf : R.frames = 0 := by rw [← hRe]; rfl
  have hRc : R.cells = 0 := by rw [← hRe]; rfl
  have hRs : R.slots = 0 := by rw [← hRe]; rfl
  have hRl : R.locals = 0 := by rw [← hRe]; rfl
  clear hRe
  refine lv_iload_n hx hb dX3_countOf_0 rfl (lv_at hl 1 rfl) ?_
  refine lv_tableOut (tgt := 43) hx hb dX3_countOf_1 (by decide) (by decide) ?_
  refine lv_aload_n hx hb dX3_countOf_43 rfl (lv_at hl 0 rfl) ?_
  refine va_get (D := D) (ci := 3) (v := .int 0) (C := RX3) (T := TX3) (N := 14) hx hb hts (fun _ h9 => List.mem_cons_of_mem _ (List.mem_append_right _ h9)) hown hK hP 0 rfl rfl 13 (by decide) (hts (.fieldLink RX3 62 "PalletStack" "lineCount" "I") (List.mem_of_getElem? (i := 4) (by rfl))) (fun _ h9 => h9) rfl dX3_countOf_44 ?_
  exact W.iret (v := 0) hx hb hr (fun t ht hW => ⟨0, rfl, rfl, ht⟩) (fun _ h => by cases h) dX3_countOf_47
theorem c_countOf0 (l : Launch) (D : zG) (sz : Nat) (o kA iA tA tr lA : Nat) (a : Int32) (ha : 0 ≤ a ∧ a ≤ 3) : Met l yX3_countOf wsX3_countOf ({ frames := 0, cells := 0, slots := 0, locals := 0 }) (zPc D [] ([(o, .inr (3, [.ref kA, .int 0, .int 20, .int 60, .int 2000, .int 0, .ref iA, .int 0, .int 0, .int 0, .ref tA, .ref tr, .ref lA, .int 0]))]) sz [.ref o, .int a]) (vp_Si (fun r => r = 0)) 0 0 (fun _ => False) := by
  rcases z03 ha with rfl | rfl | rfl | rfl
  · exact c_countOf0_0 l D sz o kA iA tA tr lA
  · exact c_countOf0_1 l D sz o kA iA tA tr lA
  · exact c_countOf0_2 l D sz o kA iA tA tr lA
  · exact c_countOf0_3 l D sz o kA iA tA tr lA
set_option maxHeartbeats 4000000 in
set_option maxRecDepth 100000 in
theorem c_greatestTop0 (l : Launch) (D : zG) (sz : Nat) (o kA iA tA tr lA : Nat) : Met l yX3_greatestTop wsX3_greatestTop ({ frames := 0, cells := 0, slots := 0, locals := 0 }) (zPc D [] ([(o, .inr (3, [.ref kA, .int 0, .int 20, .int 60, .int 2000, .int 0, .ref iA, .int 0, .int 0, .int 0, .ref tA, .ref tr, .ref lA, .int 0]))]) sz [.ref o]) (vp_Si (fun r => r = 0)) 0 0 (fun _ => False) := by
  refine Met.ofW (cc := cX3_greatestTop) (maxL := 4) (ret := (some .int)) (by decide) rfl ?_
  intro p e s m args below meth c s₁ B hml hv
  obtain ⟨rfl, hsz, hP, hK, hD0⟩ := hv
  have hx := B.exec
  have hb := B.bytes
  have hr := B.returns
  have hts := atoms_spec (ws := wsX3_greatestTop) B.pre
  have hown : s.vm.findClass RX3 = some m.cls := findClass_of_methodNamed B.named
  have hlocks := B.notSynchronized
  subst hsz
  have hD := hD0
  generalize hAe : (fun _ : Nat => True) = A at hD
  have hl := lv_entry ([.ref o]) (n := 4) (Nat.le_of_ble_eq_true rfl)
  rw [lg_entry_eq]
  generalize (lg_sl ([.ref o]) ++ List.replicate (4 - (lg_sl ([.ref o])).length) Slot.unset).toArray = ls at hl ⊢
  have hl : lv_has ls 4 [(0, .ref o)] := hl
  have hP : va_P D vwCl ([(o, .inr (3, [.ref kA, .int 0, .int 20, .int 60, .int 2000, .int 0, .ref iA, .int 0, .int 0, .int 0, .ref tA, .ref tr, .ref lA, .int 0]))]) s.heap := hP
  generalize hRe : (headSpec _ _).room = R
  have hRf : R.frames = 0 := by rw [← hRe]; rfl
  have hRc : R.cells = 0 := by rw [← hRe]; rfl
  have hRs : R.slots = 0 := by rw [← hRe]; rfl
  have hRl : R.locals = 0 := by rw [← hRe]; rfl
  clear hRe
  refine lv_iconst (v := 0) hx hb dX3_greatestTop_0 (by decide) ?_
  refine lv_istore_n (lv' := [(1, .int 0), (0, .ref o)]) hx hb dX3_greatestTop_1 rfl hl (by decide) rfl (fun ls hl => ?_)
  refine lv_iconst (v := 0) hx hb dX3_greatestTop_2 (by decide) ?_
  refine lv_istore_n (lv' := [(2, .int 0), (1, .int 0), (0, .ref o)]) hx hb dX3_greatestTop_3 rfl hl (by decide) rfl (fun ls hl => ?_)
  refine lv_iload_n hx hb dX3_greatestTop_4 rfl (lv_at hl 0 rfl) ?_
  refine lv_aload_n hx hb dX3_greatestTop_5 rfl (lv_at hl 2 rfl) ?_
  refine va_get (D := D) (ci := 3) (v := .int 0) (C := RX3) (T := TX3) (N := 14) hx hb hts (fun _ h9 => List.mem_cons_of_mem _ (List.mem_append_left _ (List.mem_append_right _ h9))) hown hK hP 0 rfl rfl 7 (by decide) (hts (.fieldLink RX3 38 "PalletStack" "cameCount" "I") (List.mem_of_getElem? (i := 1) (by rfl))) (fun _ h9 => h9) rfl dX3_greatestTop_6 ?_
  refine lv_icmp_ge (tgt := 41) hx hb dX3_greatestTop_9 (by decide) (fun c_29 => ?_) (fun c_29 => absurd (Int32.le_refl _) c_29)
  refine lv_iload_n hx hb dX3_greatestTop_41 rfl (lv_at hl 1 rfl) ?_
  exact W.iret (v := 0) hx hb hr (fun t ht hW => ⟨0, rfl, rfl, ht⟩) (fun _ h => by cases h) dX3_greatestTop_42
set_option maxHeartbeats 4000000 in
set_option maxRecDepth 100000 in
theorem c_greatestLoad0 (l : Launch) (D : zG) (sz : Nat) (o kA iA tA tr lA : Nat) : Met l yX3_greatestLoad wsX3_greatestLoad ({ frames := 0, cells := 0, slots := 0, locals := 0 }) (zPc D [] ([(o, .inr (3, [.ref kA, .int 0, .int 20, .int 60, .int 2000, .int 0, .ref iA, .int 0, .int 0, .int 0, .ref tA, .ref tr, .ref lA, .int 0]))]) sz [.ref o]) (vp_Si (fun r => r = 0)) 0 0 (fun _ => False) := by
  refine Met.ofW (cc := cX3_greatestLoad) (maxL := 4) (ret := (some .int)) (by decide) rfl ?_
  intro p e s m args below meth c s₁ B hml hv
  obtain ⟨rfl, hsz, hP, hK, hD0⟩ := hv
  have hx := B.exec
  have hb := B.bytes
  have hr := B.returns
  have hts := atoms_spec (ws := wsX3_greatestLoad) B.pre
  have hown : s.vm.findClass RX3 = some m.cls := findClass_of_methodNamed B.named
  have hlocks := B.notSynchronized
  subst hsz
  have hD := hD0
  generalize hAe : (fun _ : Nat => True) = A at hD
  have hl := lv_entry ([.ref o]) (n := 4) (Nat.le_of_ble_eq_true rfl)
  rw [lg_entry_eq]
  generalize (lg_sl ([.ref o]) ++ List.replicate (4 - (lg_sl ([.ref o])).length) Slot.unset).toArray = ls at hl ⊢
  have hl : lv_has ls 4 [(0, .ref o)] := hl
  have hP : va_P D vwCl ([(o, .inr (3, [.ref kA, .int 0, .int 20, .int 60, .int 2000, .int 0, .ref iA, .int 0, .int 0, .int 0, .ref tA, .ref tr, .ref lA, .int 0]))]) s.heap := hP
  generalize hRe : (headSpec _ _).room = R
  have hRf : R.frames = 0 := by rw [← hRe]; rfl
  have hRc : R.cells = 0 := by rw [← hRe]; rfl
  have hRs : R.slots = 0 := by rw [← hRe]; rfl
  have hRl : R.locals = 0 := by rw [← hRe]; rfl
  clear hRe
  refine lv_iconst (v := 0) hx hb dX3_greatestLoad_0 (by decide) ?_
  refine lv_istore_n (lv' := [(1, .int 0), (0, .ref o)]) hx hb dX3_greatestLoad_1 rfl hl (by decide) rfl (fun ls hl => ?_)
  refine lv_iconst (v := 0) hx hb dX3_greatestLoad_2 (by decide) ?_
  refine lv_istore_n (lv' := [(2, .int 0), (1, .int 0), (0, .ref o)]) hx hb dX3_greatestLoad_3 rfl hl (by decide) rfl (fun ls hl => ?_)
  refine lv_iload_n hx hb dX3_greatestLoad_4 rfl (lv_at hl 0 rfl) ?_
  refine lv_aload_n hx hb dX3_greatestLoad_5 rfl (lv_at hl 2 rfl) ?_
  refine va_get (D := D) (ci := 3) (v := .int 0) (C := RX3) (T := TX3) (N := 14) hx hb hts (fun _ h9 => List.mem_cons_of_mem _ (List.mem_append_left _ (List.mem_append_right _ h9))) hown hK hP 0 rfl rfl 7 (by decide) (hts (.fieldLink RX3 38 "PalletStack" "cameCount" "I") (List.mem_of_getElem? (i := 1) (by rfl))) (fun _ h9 => h9) rfl dX3_greatestLoad_6 ?_
  refine lv_icmp_ge (tgt := 41) hx hb dX3_greatestLoad_9 (by decide) (fun c_30 => ?_) (fun c_30 => absurd (Int32.le_refl _) c_30)
  refine lv_iload_n hx hb dX3_greatestLoad_41 rfl (lv_at hl 1 rfl) ?_
  exact W.iret (v := 0) hx hb hr (fun t ht hW => ⟨0, rfl, rfl, ht⟩) (fun _ h => by cases h) dX3_greatestLoad_42
set_option maxHeartbeats 4000000 in
set_option maxRecDepth 100000 in
theorem c_coveredDeck0 (l : Launch) (D : zG) (sz : Nat) (o kA iA tA tr lA : Nat) : Met l yX3_coveredDeck wsX3_coveredDeck ({ frames := 0, cells := 0, slots := 0, locals := 0 }) (zPc D [] ([(o, .inr (3, [.ref kA, .int 0, .int 20, .int 60, .int 2000, .int 0, .ref iA, .int 0, .int 0, .int 0, .ref tA, .ref tr, .ref lA, .int 0]))]) sz [.ref o]) (vp_Si (fun r => r = 0)) 0 0 (fun _ => False) := by
  refine Met.ofW (cc := cX3_coveredDeck) (maxL := 4) (ret := (some .int)) (by decide) rfl ?_
  intro p e s m args below meth c s₁ B hml hv
  obtain ⟨rfl, hsz, hP, hK, hD0⟩ := hv
  have hx := B.exec
  have hb := B.bytes
  have hr := B.returns
  have hts := atoms_spec (ws := wsX3_coveredDeck) B.pre
  have hown : s.vm.findClass RX3 = some m.cls := findClass_of_methodNamed B.named
  have hlocks := B.notSynchronized
  subst hsz
  have hD := hD0
  generalize hAe : (fun _ : Nat => True) = A at hD
  have hl := lv_entry ([.ref o]) (n := 4) (Nat.le_of_ble_eq_true rfl)
  rw [lg_entry_eq]
  generalize (lg_sl ([.ref o]) ++ List.replicate (4 - (lg_sl ([.ref o])).length) Slot.unset).toArray = ls at hl ⊢
  have hl : lv_has ls 4 [(0, .ref o)] := hl
  have hP : va_P D vwCl ([(o, .inr (3, [.ref kA, .int 0, .int 20, .int 60, .int 2000, .int 0, .ref iA, .int 0, .int 0, .int 0, .ref tA, .ref tr, .ref lA, .int 0]))]) s.heap := hP
  generalize hRe : (headSpec _ _).room = R
  have hRf : R.frames = 0 := by rw [← hRe]; rfl
  have hRc : R.cells = 0 := by rw [← hRe]; rfl
  have hRs : R.slots = 0 := by rw [← hRe]; rfl
  have hRl : R.locals = 0 := by rw [← hRe]; rfl
  clear hRe
  refine lv_iconst (v := 0) hx hb dX3_coveredDeck_0 (by decide) ?_
  refine lv_istore_n (lv' := [(1, .int 0), (0, .ref o)]) hx hb dX3_coveredDeck_1 rfl hl (by decide) rfl (fun ls hl => ?_)
  refine lv_iconst (v := 0) hx hb dX3_coveredDeck_2 (by decide) ?_
  refine lv_istore_n (lv' := [(2, .int 0), (1, .int 0), (0, .ref o)]) hx hb dX3_coveredDeck_3 rfl hl (by decide) rfl (fun ls hl => ?_)
  refine lv_iload_n hx hb dX3_coveredDeck_4 rfl (lv_at hl 0 rfl) ?_
  refine lv_aload_n hx hb dX3_coveredDeck_5 rfl (lv_at hl 2 rfl) ?_
  refine va_get (D := D) (ci := 3) (v := .int 0) (C := RX3) (T := TX3) (N := 14) hx hb hts (fun _ h9 => List.mem_cons_of_mem _ (List.mem_append_left _ (List.mem_append_right _ h9))) hown hK hP 0 rfl rfl 7 (by decide) (hts (.fieldLink RX3 38 "PalletStack" "cameCount" "I") (List.mem_of_getElem? (i := 1) (by rfl))) (fun _ h9 => h9) rfl dX3_coveredDeck_6 ?_
  refine lv_icmp_ge (tgt := 42) hx hb dX3_coveredDeck_9 (by decide) (fun c_31 => ?_) (fun c_31 => absurd (Int32.le_refl _) c_31)
  refine lv_iload_n hx hb dX3_coveredDeck_42 rfl (lv_at hl 1 rfl) ?_
  exact W.iret (v := 0) hx hb hr (fun t ht hW => ⟨0, rfl, rfl, ht⟩) (fun _ h => by cases h) dX3_coveredDeck_43
set_option maxHeartbeats 4000000 in
set_option maxRecDepth 100000 in
theorem c_sumOf0_0 (l : Launch) (D : zG) (sz : Nat) (o kA iA tA tr lA : Nat) : Met l yX3_sumOf wsX3_sumOf ({ frames := 1, cells := 0, slots := 0, locals := 30 }) (zPc D [] ([(o, .inr (3, [.ref kA, .int 0, .int 20, .int 60, .int 2000, .int 0, .ref iA, .int 0, .int 0, .int 0, .ref tA, .ref tr, .ref lA, .int 0]))]) sz [.ref o, .int 0]) (vp_Si (fun r => r = 0)) 0 0 (fun _ => False) := by
  refine Met.ofW (cc := cX3_sumOf) (maxL := 2) (ret := (some .int)) (by decide) rfl ?_
  intro p e s m args below meth c s₁ B hml hv
  obtain ⟨rfl, hsz, hP, hK, hD0⟩ := hv
  have hx := B.exec
  have hb := B.bytes
  have hr := B.returns
  have hts := atoms_spec (ws := wsX3_sumOf) B.pre
  have hown : s.vm.findClass RX3 = some m.cls := findClass_of_methodNamed B.named
  have hlocks := B.notSynchronized
  subst hsz
  have hD := hD0
  generalize hAe : (fun _ : Nat => True) = A at hD
  have hl := lv_entry ([.ref o, .int 0]) (n := 2) (Nat.le_of_ble_eq_true rfl)
  rw [lg_entry_eq]
  generalize (lg_sl ([.ref o, .int 0]) ++ List.replicate (2 - (lg_sl ([.ref o, .int 0])).length) Slot.unset).toArray = ls at hl ⊢
  have hl : lv_has ls 2 [(0, .ref o), (1, .int 0)] := hl
  have hP : va_P D vwCl ([(o, .inr (3, [.ref kA, .int 0, .int 20, .int 60, .int 2000, .int 0, .ref iA, .int 0, .int 0, .int 0, .ref tA, .ref tr, .ref lA, .int 0]))]) s.heap := hP
  generalize hRe : (headSpec _ _).room = R
  have hRf : R.frames = 1 := by rw [← hRe]; rfl
  have hRc : R.cells = 0 := by rw [← hRe]; rfl
  have hRs : R.slots = 0 := by rw [← hRe]; rfl
  have hRl : R.locals = 30 := by rw [← hRe]; rfl
  clear hRe
  refine lv_iload_n hx hb dX3_sumOf_0 rfl (lv_at hl 1 rfl) ?_
  refine lv_tableIn (off := 27) (tgt := 28) hx hb dX3_sumOf_1 (by decide) (by decide) (by decide) (by decide) ?_
  refine lv_aload_n hx hb dX3_sumOf_28 rfl (lv_at hl 0 rfl) ?_
  refine va_get (D := D) (ci := 3) (v := .int 0) (C := RX3) (T := TX3) (N := 14) hx hb hts (fun _ h9 => List.mem_cons_of_mem _ (List.mem_append_left _ (List.mem_append_right _ h9))) hown hK hP 0 rfl rfl 9 (by decide) (hts (.fieldLink RX3 44 "PalletStack" "weightOnPallet" "I") (List.mem_of_getElem? (i := 1) (by rfl))) (fun _ h9 => h9) rfl dX3_sumOf_29 ?_
  exact W.iret (v := 0) hx hb hr (fun t ht hW => ⟨0, rfl, rfl, ht⟩) (fun _ h => by cases h) dX3_sumOf_32
set_option maxHeartbeats 4000000 in
set_option maxRecDepth 100000 in
theorem c_sumOf0_1 (l : Launch) (D : zG) (sz : Nat) (o kA iA tA tr lA : Nat) : Met l yX3_sumOf wsX3_sumOf ({ frames := 1, cells := 0, slots := 0, locals := 30 }) (zPc D [] ([(o, .inr (3, [.ref kA, .int 0, .int 20, .int 60, .int 2000, .int 0, .ref iA, .int 0, .int 0, .int 0, .ref tA, .ref tr, .ref lA, .int 0]))]) sz [.ref o, .int 1]) (vp_Si (fun r => r = 0)) 0 0 (fun _ => False) := by
  refine Met.ofW (cc := cX3_sumOf) (maxL := 2) (ret := (some .int)) (by decide) rfl ?_
  intro p e s m args below meth c s₁ B hml hv
  obtain ⟨rfl, hsz, hP, hK, hD0⟩ := hv
  have hx := B.exec
  have hb := B.bytes
  have hr := B.returns
  have hts := atoms_spec (ws := wsX3_sumOf) B.pre
  have hown : s.vm.findClass RX3 = some m.cls := findClass_of_methodNamed B.named
  have hlocks := B.notSynchronized
  subst hsz
  have hD := hD0
  generalize hAe : (fun _ : Nat => True) = A at hD
  have hl := lv_entry ([.ref o, .int 1]) (n := 2) (Nat.le_of_ble_eq_true rfl)
  rw [lg_entry_eq]
  generalize (lg_sl ([.ref o, .int 1]) ++ List.replicate (2 - (lg_sl ([.ref o, .int 1])).length) Slot.unset).toArray = ls at hl ⊢
  have hl : lv_has ls 2 [(0, .ref o), (1, .int 1)] := hl
  have hP : va_P D vwCl ([(o, .inr (3, [.ref kA, .int 0, .int 20, .int 60, .int 2000, .int 0, .ref iA, .int 0, .int 0, .int 0, .ref tA, .ref tr, .ref lA, .int 0]))]) s.heap := hP
  generalize hRe : (headSpec _ _).room = R
  have hRf : R.frames = 1 := by rw [← hRe]; rfl
  have hRc : R.cells = 0 := by rw [← hRe]; rfl
  have hRs : R.slots = 0 := by rw [← hRe]; rfl
  have hRl : R.locals = 30 := by rw [← hRe]; rfl
  clear hRe
  refine lv_iload_n hx hb dX3_sumOf_0 rfl (lv_at hl 1 rfl) ?_
  refine lv_tableIn (off := 32) (tgt := 33) hx hb dX3_sumOf_1 (by decide) (by decide) (by decide) (by decide) ?_
  refine lv_aload_n hx hb dX3_sumOf_33 rfl (lv_at hl 0 rfl) ?_
  refine zrdV (As := []) (rest := []) (wc := [(o, .inr (3, [.ref kA, .int 0, .int 20, .int 60, .int 2000, .int 0, .ref iA, .int 0, .int 0, .int 0, .ref tA, .ref tr, .ref lA, .int 0]))]) ⟨hx, hb, hml, hown, hts⟩ (c_greatestTop0 l D _ o kA iA tA tr lA) (cwV 0 hts gX3_sumOf_X3_greatestTop rfl rfl rfl (by decide +kernel) ⟨by rw [hRf]; exact Nat.le_of_ble_eq_true rfl, by rw [hRl]; exact Nat.le_of_ble_eq_true rfl⟩) hK hP hD [0] rfl (by decide) [] rfl (ci := 3) (q0 := 0) rfl rfl rfl hl.1 rfl (Nat.le_of_ble_eq_true rfl) dX3_sumOf_34 ⟨by omega, by omega⟩ (fun r_32 hr_32 => ?_)
  refine lv_topi (fun v_33 ev_33 => ?_)
  obtain rfl : v_33 = 0 := ev_33.trans hr_32
  exact W.iret (v := 0) hx hb hr (fun t ht hW => ⟨0, rfl, rfl, ht⟩) (fun _ h => by cases h) dX3_sumOf_37
set_option maxHeartbeats 4000000 in
set_option maxRecDepth 100000 in
theorem c_sumOf0_2 (l : Launch) (D : zG) (sz : Nat) (o kA iA tA tr lA : Nat) : Met l yX3_sumOf wsX3_sumOf ({ frames := 1, cells := 0, slots := 0, locals := 30 }) (zPc D [] ([(o, .inr (3, [.ref kA, .int 0, .int 20, .int 60, .int 2000, .int 0, .ref iA, .int 0, .int 0, .int 0, .ref tA, .ref tr, .ref lA, .int 0]))]) sz [.ref o, .int 2]) (vp_Si (fun r => r = 0)) 0 0 (fun _ => False) := by
  refine Met.ofW (cc := cX3_sumOf) (maxL := 2) (ret := (some .int)) (by decide) rfl ?_
  intro p e s m args below meth c s₁ B hml hv
  obtain ⟨rfl, hsz, hP, hK, hD0⟩ := hv
  have hx := B.exec
  have hb := B.bytes
  have hr := B.returns
  have hts := atoms_spec (ws := wsX3_sumOf) B.pre
  have hown : s.vm.findClass RX3 = some m.cls := findClass_of_methodNamed B.named
  have hlocks := B.notSynchronized
  subst hsz
  have hD := hD0
  generalize hAe : (fun _ : Nat => True) = A at hD
  have hl := lv_entry ([.ref o, .int 2]) (n := 2) (Nat.le_of_ble_eq_true rfl)
  rw [lg_entry_eq]
  generalize (lg_sl ([.ref o, .int 2]) ++ List.replicate (2 - (lg_sl ([.ref o, .int 2])).length) Slot.unset).toArray = ls at hl ⊢
  have hl : lv_has ls 2 [(0, .ref o), (1, .int 2)] := hl
  have hP : va_P D vwCl ([(o, .inr (3, [.ref kA, .int 0, .int 20, .int 60, .int 2000, .int 0, .ref iA, .int 0, .int 0, .int 0, .ref tA, .ref tr, .ref lA, .int 0]))]) s.heap := hP
  generalize hRe : (headSpec _ _).room = R
  have hRf : R.frames = 1 := by rw [← hRe]; rfl
  have hRc : R.cells = 0 := by rw [← hRe]; rfl
  have hRs : R.slots = 0 := by rw [← hRe]; rfl
  have hRl : R.locals = 30 := by rw [← hRe]; rfl
  clear hRe
  refine lv_iload_n hx hb dX3_sumOf_0 rfl (lv_at hl 1 rfl) ?_
  refine lv_tableIn (off := 37) (tgt := 38) hx hb dX3_sumOf_1 (by decide) (by decide) (by decide) (by decide) ?_
  refine lv_aload_n hx hb dX3_sumOf_38 rfl (lv_at hl 0 rfl) ?_
  refine zrdV (As := []) (rest := []) (wc := [(o, .inr (3, [.ref kA, .int 0, .int 20, .int 60, .int 2000, .int 0, .ref iA, .int 0, .int 0, .int 0, .ref tA, .ref tr, .ref lA, .int 0]))]) ⟨hx, hb, hml, hown, hts⟩ (c_greatestLoad0 l D _ o kA iA tA tr lA) (cwV 0 hts gX3_sumOf_X3_greatestLoad rfl rfl rfl (by decide +kernel) ⟨by rw [hRf]; exact Nat.le_of_ble_eq_true rfl, by rw [hRl]; exact Nat.le_of_ble_eq_true rfl⟩) hK hP hD [0] rfl (by decide) [] rfl (ci := 3) (q0 := 0) rfl rfl rfl hl.1 rfl (Nat.le_of_ble_eq_true rfl) dX3_sumOf_39 ⟨by omega, by omega⟩ (fun r_34 hr_34 => ?_)
  refine lv_topi (fun v_35 ev_35 => ?_)
  obtain rfl : v_35 = 0 := ev_35.trans hr_34
  exact W.iret (v := 0) hx hb hr (fun t ht hW => ⟨0, rfl, rfl, ht⟩) (fun _ h => by cases h) dX3_sumOf_42
set_option maxHeartbeats 4000000 in
set_option maxRecDepth 100000 in
theorem c_sumOf0_3 (l : Launch) (D : zG) (sz : Nat) (o kA iA tA tr lA : Nat) : Met l yX3_sumOf wsX3_sumOf ({ frames := 1, cells := 0, slots := 0, locals := 30 }) (zPc D [] ([(o, .inr (3, [.ref kA, .int 0, .int 20, .int 60, .int 2000, .int 0, .ref iA, .int 0, .int 0, .int 0, .ref tA, .ref tr, .ref lA, .int 0]))]) sz [.ref o, .int 3]) (vp_Si (fun r => r = 0)) 0 0 (fun _ => False) := by
  refine Met.ofW (cc := cX3_sumOf) (maxL := 2) (ret := (some .int)) (by decide) rfl ?_
  intro p e s m args below meth c s₁ B hml hv
  obtain ⟨rfl, hsz, hP, hK, hD0⟩ := hv
  have hx := B.exec
  have hb := B.bytes
  have hr := B.returns
  have hts := atoms_spec (ws := wsX3_sumOf) B.pre
  have hown : s.vm.findClass RX3 = some m.cls := findClass_of_methodNamed B.named
  have hlocks := B.notSynchronized
  subst hsz
  have hD := hD0
  generalize hAe : (fun _ : Nat => True) = A at hD
  have hl := lv_entry ([.ref o, .int 3]) (n := 2) (Nat.le_of_ble_eq_true rfl)
  rw [lg_entry_eq]
  generalize (lg_sl ([.ref o, .int 3]) ++ List.replicate (2 - (lg_sl ([.ref o, .int 3])).length) Slot.unset).toArray = ls at hl ⊢
  have hl : lv_has ls 2 [(0, .ref o), (1, .int 3)] := hl
  have hP : va_P D vwCl ([(o, .inr (3, [.ref kA, .int 0, .int 20, .int 60, .int 2000, .int 0, .ref iA, .int 0, .int 0, .int 0, .ref tA, .ref tr, .ref lA, .int 0]))]) s.heap := hP
  generalize hRe : (headSpec _ _).room = R
  have hRf : R.frames = 1 := by rw [← hRe]; rfl
  have hRc : R.cells = 0 := by rw [← hRe]; rfl
  have hRs : R.slots = 0 := by rw [← hRe]; rfl
  have hRl : R.locals = 30 := by rw [← hRe]; rfl
  clear hRe
  refine lv_iload_n hx hb dX3_sumOf_0 rfl (lv_at hl 1 rfl) ?_
  refine lv_tableOut (tgt := 43) hx hb dX3_sumOf_1 (by decide) (by decide) ?_
  refine lv_aload_n hx hb dX3_sumOf_43 rfl (lv_at hl 0 rfl) ?_
  refine zrdV (As := []) (rest := []) (wc := [(o, .inr (3, [.ref kA, .int 0, .int 20, .int 60, .int 2000, .int 0, .ref iA, .int 0, .int 0, .int 0, .ref tA, .ref tr, .ref lA, .int 0]))]) ⟨hx, hb, hml, hown, hts⟩ (c_coveredDeck0 l D _ o kA iA tA tr lA) (cwV 0 hts gX3_sumOf_X3_coveredDeck rfl rfl rfl (by decide +kernel) ⟨by rw [hRf]; exact Nat.le_of_ble_eq_true rfl, by rw [hRl]; exact Nat.le_of_ble_eq_true rfl⟩) hK hP hD [0] rfl (by decide) [] rfl (ci := 3) (q0 := 0) rfl rfl rfl hl.1 rfl (Nat.le_of_ble_eq_true rfl) dX3_sumOf_44 ⟨by omega, by omega⟩ (fun r_36 hr_36 => ?_)
  refine lv_topi (fun v_37 ev_37 => ?_)
  obtain rfl : v_37 = 0 := ev_37.trans hr_36
  exact W.iret (v := 0) hx hb hr (fun t ht hW => ⟨0, rfl, rfl, ht⟩) (fun _ h => by cases h) dX3_sumOf_47
theorem c_sumOf0 (l : Launch) (D : zG) (sz : Nat) (o kA iA tA tr lA : Nat) (a : Int32) (ha : 0 ≤ a ∧ a ≤ 3) : Met l yX3_sumOf wsX3_sumOf ({ frames := 1, cells := 0, slots := 0, locals := 30 }) (zPc D [] ([(o, .inr (3, [.ref kA, .int 0, .int 20, .int 60, .int 2000, .int 0, .ref iA, .int 0, .int 0, .int 0, .ref tA, .ref tr, .ref lA, .int 0]))]) sz [.ref o, .int a]) (vp_Si (fun r => r = 0)) 0 0 (fun _ => False) := by
  rcases z03 ha with rfl | rfl | rfl | rfl
  · exact c_sumOf0_0 l D sz o kA iA tA tr lA
  · exact c_sumOf0_1 l D sz o kA iA tA tr lA
  · exact c_sumOf0_2 l D sz o kA iA tA tr lA
  · exact c_sumOf0_3 l D sz o kA iA tA tr lA
set_option maxHeartbeats 4000000 in
set_option maxRecDepth 100000 in
theorem c_count_ok (l : Launch) (D : zG) (sz : Nat) (o kA iA tA tr lA : Nat) (a : Int32) (ha : 0 ≤ a ∧ a ≤ 3) : Met l yX3_count wsX3_count ({ frames := 2, cells := 0, slots := 0, locals := 60 }) (zPc D [] ([(o, .inr (3, [.ref kA, .int 0, .int 20, .int 60, .int 2000, .int 0, .ref iA, .int 0, .int 0, .int 0, .ref tA, .ref tr, .ref lA, .int 0]))]) sz [.ref o, .int a]) (vp_Si (fun r => r = 0)) 0 0 (fun _ => False) := by
  refine Met.ofW (cc := cX3_count) (maxL := 2) (ret := (some .int)) (by decide) rfl ?_
  intro p e s m args below meth c s₁ B hml hv
  obtain ⟨rfl, hsz, hP, hK, hD0⟩ := hv
  have hx := B.exec
  have hb := B.bytes
  have hr := B.returns
  have hts := atoms_spec (ws := wsX3_count) B.pre
  have hown : s.vm.findClass RX3 = some m.cls := findClass_of_methodNamed B.named
  have hlocks := B.notSynchronized
  subst hsz
  have hD := hD0
  generalize hAe : (fun _ : Nat => True) = A at hD
  have hl := lv_entry ([.ref o, .int a]) (n := 2) (Nat.le_of_ble_eq_true rfl)
  rw [lg_entry_eq]
  generalize (lg_sl ([.ref o, .int a]) ++ List.replicate (2 - (lg_sl ([.ref o, .int a])).length) Slot.unset).toArray = ls at hl ⊢
  have hl : lv_has ls 2 [(0, .ref o), (1, .int a)] := hl
  have hP : va_P D vwCl ([(o, .inr (3, [.ref kA, .int 0, .int 20, .int 60, .int 2000, .int 0, .ref iA, .int 0, .int 0, .int 0, .ref tA, .ref tr, .ref lA, .int 0]))]) s.heap := hP
  generalize hRe : (headSpec _ _).room = R
  have hRf : R.frames = 2 := by rw [← hRe]; rfl
  have hRc : R.cells = 0 := by rw [← hRe]; rfl
  have hRs : R.slots = 0 := by rw [← hRe]; rfl
  have hRl : R.locals = 60 := by rw [← hRe]; rfl
  clear hRe
  refine lv_iload_n hx hb dX3_count_0 rfl (lv_at hl 1 rfl) ?_
  refine lv_iconst (v := 0) hx hb dX3_count_1 (by decide) ?_
  refine lv_iconst (v := 3) hx hb dX3_count_2 (by decide) ?_
  refine zrdS (As := [.int a, .int 0, .int 3]) (rest := []) (wc := []) ⟨hx, hb, hml, hown, hts⟩ (c_isWithin l D _ a 0 3) (va_cwS 3 hts gX3_count_X3_isWithin rfl rfl rfl (by decide +kernel) ⟨by rw [hRf]; exact Nat.le_of_ble_eq_true rfl, by rw [hRl]; exact Nat.le_of_ble_eq_true rfl⟩) hK hP hD [] rfl (by decide) [] rfl rfl hl.1 rfl (Nat.le_of_ble_eq_true rfl) dX3_count_3 ⟨by omega, by omega⟩ (fun r_38 hr_38 => ?_)
  refine lv_topi (fun v_39 ev_39 => ?_)
  obtain rfl : v_39 = 1 := ev_39.trans (hr_38.trans (if_pos ha))
  refine lv_if_ne (tgt := 17) hx hb dX3_count_6 (by decide) (fun c_40 => ?_) (fun c_40 => absurd c_40 (by decide))
  refine lv_aload_n hx hb dX3_count_17 rfl (lv_at hl 0 rfl) ?_
  refine lv_iload_n hx hb dX3_count_18 rfl (lv_at hl 1 rfl) ?_
  refine zrdV (As := [.int a]) (rest := []) (wc := [(o, .inr (3, [.ref kA, .int 0, .int 20, .int 60, .int 2000, .int 0, .ref iA, .int 0, .int 0, .int 0, .ref tA, .ref tr, .ref lA, .int 0]))]) ⟨hx, hb, hml, hown, hts⟩ (c_countOf0 l D _ o kA iA tA tr lA a ha) (cwV 1 hts gX3_count_X3_countOf rfl rfl rfl (by decide +kernel) ⟨by rw [hRf]; exact Nat.le_of_ble_eq_true rfl, by rw [hRl]; exact Nat.le_of_ble_eq_true rfl⟩) hK hP hD [0] rfl (by decide) [] rfl (ci := 3) (q0 := 0) rfl rfl rfl hl.1 rfl (Nat.le_of_ble_eq_true rfl) dX3_count_19 ⟨by omega, by omega⟩ (fun r_41 hr_41 => ?_)
  refine lv_topi (fun v_42 ev_42 => ?_)
  obtain rfl : v_42 = 0 := ev_42.trans hr_41
  exact W.iret (v := 0) hx hb hr (fun t ht hW => ⟨0, rfl, rfl, ht⟩) (fun _ h => by cases h) dX3_count_22
set_option maxHeartbeats 4000000 in
set_option maxRecDepth 100000 in
theorem c_sum_ok (l : Launch) (D : zG) (sz : Nat) (o kA iA tA tr lA : Nat) (a : Int32) (ha : 0 ≤ a ∧ a ≤ 3) : Met l yX3_sum wsX3_sum ({ frames := 3, cells := 0, slots := 0, locals := 90 }) (zPc D [] ([(o, .inr (3, [.ref kA, .int 0, .int 20, .int 60, .int 2000, .int 0, .ref iA, .int 0, .int 0, .int 0, .ref tA, .ref tr, .ref lA, .int 0]))]) sz [.ref o, .int a]) (vp_Si (fun r => r = 0)) 0 0 (fun _ => False) := by
  refine Met.ofW (cc := cX3_sum) (maxL := 2) (ret := (some .int)) (by decide) rfl ?_
  intro p e s m args below meth c s₁ B hml hv
  obtain ⟨rfl, hsz, hP, hK, hD0⟩ := hv
  have hx := B.exec
  have hb := B.bytes
  have hr := B.returns
  have hts := atoms_spec (ws := wsX3_sum) B.pre
  have hown : s.vm.findClass RX3 = some m.cls := findClass_of_methodNamed B.named
  have hlocks := B.notSynchronized
  subst hsz
  have hD := hD0
  generalize hAe : (fun _ : Nat => True) = A at hD
  have hl := lv_entry ([.ref o, .int a]) (n := 2) (Nat.le_of_ble_eq_true rfl)
  rw [lg_entry_eq]
  generalize (lg_sl ([.ref o, .int a]) ++ List.replicate (2 - (lg_sl ([.ref o, .int a])).length) Slot.unset).toArray = ls at hl ⊢
  have hl : lv_has ls 2 [(0, .ref o), (1, .int a)] := hl
  have hP : va_P D vwCl ([(o, .inr (3, [.ref kA, .int 0, .int 20, .int 60, .int 2000, .int 0, .ref iA, .int 0, .int 0, .int 0, .ref tA, .ref tr, .ref lA, .int 0]))]) s.heap := hP
  generalize hRe : (headSpec _ _).room = R
  have hRf : R.frames = 3 := by rw [← hRe]; rfl
  have hRc : R.cells = 0 := by rw [← hRe]; rfl
  have hRs : R.slots = 0 := by rw [← hRe]; rfl
  have hRl : R.locals = 90 := by rw [← hRe]; rfl
  clear hRe
  refine lv_iload_n hx hb dX3_sum_0 rfl (lv_at hl 1 rfl) ?_
  refine lv_iconst (v := 0) hx hb dX3_sum_1 (by decide) ?_
  refine lv_iconst (v := 3) hx hb dX3_sum_2 (by decide) ?_
  refine zrdS (As := [.int a, .int 0, .int 3]) (rest := []) (wc := []) ⟨hx, hb, hml, hown, hts⟩ (c_isWithin l D _ a 0 3) (va_cwS 3 hts gX3_sum_X3_isWithin rfl rfl rfl (by decide +kernel) ⟨by rw [hRf]; exact Nat.le_of_ble_eq_true rfl, by rw [hRl]; exact Nat.le_of_ble_eq_true rfl⟩) hK hP hD [] rfl (by decide) [] rfl rfl hl.1 rfl (Nat.le_of_ble_eq_true rfl) dX3_sum_3 ⟨by omega, by omega⟩ (fun r_43 hr_43 => ?_)
  refine lv_topi (fun v_44 ev_44 => ?_)
  obtain rfl : v_44 = 1 := ev_44.trans (hr_43.trans (if_pos ha))
  refine lv_if_ne (tgt := 17) hx hb dX3_sum_6 (by decide) (fun c_45 => ?_) (fun c_45 => absurd c_45 (by decide))
  refine lv_aload_n hx hb dX3_sum_17 rfl (lv_at hl 0 rfl) ?_
  refine lv_iload_n hx hb dX3_sum_18 rfl (lv_at hl 1 rfl) ?_
  refine zrdV (As := [.int a]) (rest := []) (wc := [(o, .inr (3, [.ref kA, .int 0, .int 20, .int 60, .int 2000, .int 0, .ref iA, .int 0, .int 0, .int 0, .ref tA, .ref tr, .ref lA, .int 0]))]) ⟨hx, hb, hml, hown, hts⟩ (c_sumOf0 l D _ o kA iA tA tr lA a ha) (cwV 1 hts gX3_sum_X3_sumOf rfl rfl rfl (by decide +kernel) ⟨by rw [hRf]; exact Nat.le_of_ble_eq_true rfl, by rw [hRl]; exact Nat.le_of_ble_eq_true rfl⟩) hK hP hD [0] rfl (by decide) [] rfl (ci := 3) (q0 := 0) rfl rfl rfl hl.1 rfl (Nat.le_of_ble_eq_true rfl) dX3_sum_19 ⟨by omega, by omega⟩ (fun r_46 hr_46 => ?_)
  refine lv_topi (fun v_47 ev_47 => ?_)
  obtain rfl : v_47 = 0 := ev_47.trans hr_46
  exact W.iret (v := 0) hx hb hr (fun t ht hW => ⟨0, rfl, rfl, ht⟩) (fun _ h => by cases h) dX3_sum_22
set_option maxHeartbeats 4000000 in
set_option maxRecDepth 100000 in
theorem c_top_ok (l : Launch) (D : zG) (sz : Nat) (o kA iA tA tr lA : Nat) (cT : ClassId) (a b : Int32) (h : (0 ≤ a ∧ a ≤ 11) ∧ (0 ≤ b ∧ b ≤ 9)) : Met l yX3_top wsX3_top ({ frames := 2, cells := 0, slots := 0, locals := 60 }) (zPc D [(cT, .int)] ([(o, .inr (3, [.ref kA, .int 0, .int 20, .int 60, .int 2000, .int 0, .ref iA, .int 0, .int 0, .int 0, .ref tA, .ref tr, .ref lA, .int 0])), (tA, .inl (cT, 120, .inl (fun _ => 0)))]) sz [.ref o, .int a, .int b]) (vp_Si (fun r => r = 0)) 0 0 (fun _ => False) := by
  refine Met.ofW (cc := cX3_top) (maxL := 3) (ret := (some .int)) (by decide) rfl ?_
  intro p e s m args below meth c s₁ B hml hv
  obtain ⟨rfl, hsz, hP, hK, hD0⟩ := hv
  have hx := B.exec
  have hb := B.bytes
  have hr := B.returns
  have hts := atoms_spec (ws := wsX3_top) B.pre
  have hown : s.vm.findClass RX3 = some m.cls := findClass_of_methodNamed B.named
  have hlocks := B.notSynchronized
  subst hsz
  have hD := hD0
  generalize hAe : (fun _ : Nat => True) = A at hD
  have hl := lv_entry ([.ref o, .int a, .int b]) (n := 3) (Nat.le_of_ble_eq_true rfl)
  rw [lg_entry_eq]
  generalize (lg_sl ([.ref o, .int a, .int b]) ++ List.replicate (3 - (lg_sl ([.ref o, .int a, .int b])).length) Slot.unset).toArray = ls at hl ⊢
  have hl : lv_has ls 3 [(0, .ref o), (1, .int a), (2, .int b)] := hl
  have hP : va_P D vwCl ([(o, .inr (3, [.ref kA, .int 0, .int 20, .int 60, .int 2000, .int 0, .ref iA, .int 0, .int 0, .int 0, .ref tA, .ref tr, .ref lA, .int 0])), (tA, .inl (cT, 120, .inl (fun _ => 0)))]) s.heap := hP
  generalize hRe : (headSpec _ _).room = R
  have hRf : R.frames = 2 := by rw [← hRe]; rfl
  have hRc : R.cells = 0 := by rw [← hRe]; rfl
  have hRs : R.slots = 0 := by rw [← hRe]; rfl
  have hRl : R.locals = 60 := by rw [← hRe]; rfl
  clear hRe
  refine lv_iload_n hx hb dX3_top_0 rfl (lv_at hl 1 rfl) ?_
  refine lv_iload_n hx hb dX3_top_1 rfl (lv_at hl 2 rfl) ?_
  refine zrdS (As := [.int a, .int b]) (rest := []) (wc := []) ⟨hx, hb, hml, hown, hts⟩ (c_isCell l D _ a b) (va_cwS 2 hts gX3_top_X3_isCell rfl rfl rfl (by decide +kernel) ⟨by rw [hRf]; exact Nat.le_of_ble_eq_true rfl, by rw [hRl]; exact Nat.le_of_ble_eq_true rfl⟩) hK hP hD [] rfl (by decide) [] rfl rfl hl.1 rfl (Nat.le_of_ble_eq_true rfl) dX3_top_2 ⟨by omega, by omega⟩ (fun r_48 hr_48 => ?_)
  refine lv_topi (fun v_49 ev_49 => ?_)
  obtain rfl : v_49 = 1 := ev_49.trans (hr_48.trans (if_pos h))
  refine lv_if_ne (tgt := 16) hx hb dX3_top_5 (by decide) (fun c_50 => ?_) (fun c_50 => absurd c_50 (by decide))
  refine lv_aload_n hx hb dX3_top_16 rfl (lv_at hl 0 rfl) ?_
  refine lv_iload_n hx hb dX3_top_17 rfl (lv_at hl 1 rfl) ?_
  refine lv_iload_n hx hb dX3_top_18 rfl (lv_at hl 2 rfl) ?_
  refine zrdV (As := [.int a, .int b]) (rest := []) (wc := [(o, .inr (3, [.ref kA, .int 0, .int 20, .int 60, .int 2000, .int 0, .ref iA, .int 0, .int 0, .int 0, .ref tA, .ref tr, .ref lA, .int 0])), (tA, .inl (cT, 120, .inl (fun _ => 0)))]) ⟨hx, hb, hml, hown, hts⟩ (c_topOf0 l D _ o kA iA tA tr lA cT a b h) (cwV 2 hts gX3_top_X3_topOf rfl rfl rfl (by decide +kernel) ⟨by rw [hRf]; exact Nat.le_of_ble_eq_true rfl, by rw [hRl]; exact Nat.le_of_ble_eq_true rfl⟩) hK hP hD [0, 1] rfl (by decide) [0] rfl (ci := 3) (q0 := 0) rfl rfl rfl hl.1 rfl (Nat.le_of_ble_eq_true rfl) dX3_top_19 ⟨by omega, by omega⟩ (fun r_51 hr_51 => ?_)
  refine lv_topi (fun v_52 ev_52 => ?_)
  obtain rfl : v_52 = 0 := ev_52.trans hr_51
  exact W.iret (v := 0) hx hb hr (fun t ht hW => ⟨0, rfl, rfl, ht⟩) (fun _ h => by cases h) dX3_top_22
set_option maxHeartbeats 4000000 in
set_option maxRecDepth 100000 in
theorem c_at_ok (l : Launch) (D : zG) (sz : Nat) (o kA iA tA tr lA : Nat) (a b c1 : Int32) (h : (0 ≤ a ∧ a ≤ 11) ∧ (0 ≤ b ∧ b ≤ 9)) (h3 : 0 ≤ c1 ∧ c1 ≤ 39) : Met l yX3_at wsX3_at ({ frames := 2, cells := 0, slots := 0, locals := 60 }) (zPc D [] ([(o, .inr (3, [.ref kA, .int 0, .int 20, .int 60, .int 2000, .int 0, .ref iA, .int 0, .int 0, .int 0, .ref tA, .ref tr, .ref lA, .int 0]))]) sz [.ref o, .int a, .int b, .int c1]) (vp_Si (fun r => r = -1)) 0 0 (fun _ => False) := by
  refine Met.ofW (cc := cX3_at) (maxL := 6) (ret := (some .int)) (by decide) rfl ?_
  intro p e s m args below meth c s₁ B hml hv
  obtain ⟨rfl, hsz, hP, hK, hD0⟩ := hv
  have hx := B.exec
  have hb := B.bytes
  have hr := B.returns
  have hts := atoms_spec (ws := wsX3_at) B.pre
  have hown : s.vm.findClass RX3 = some m.cls := findClass_of_methodNamed B.named
  have hlocks := B.notSynchronized
  subst hsz
  have hD := hD0
  generalize hAe : (fun _ : Nat => True) = A at hD
  have hl := lv_entry ([.ref o, .int a, .int b, .int c1]) (n := 6) (Nat.le_of_ble_eq_true rfl)
  rw [lg_entry_eq]
  generalize (lg_sl ([.ref o, .int a, .int b, .int c1]) ++ List.replicate (6 - (lg_sl ([.ref o, .int a, .int b, .int c1])).length) Slot.unset).toArray = ls at hl ⊢
  have hl : lv_has ls 6 [(0, .ref o), (1, .int a), (2, .int b), (3, .int c1)] := hl
  have hP : va_P D vwCl ([(o, .inr (3, [.ref kA, .int 0, .int 20, .int 60, .int 2000, .int 0, .ref iA, .int 0, .int 0, .int 0, .ref tA, .ref tr, .ref lA, .int 0]))]) s.heap := hP
  generalize hRe : (headSpec _ _).room = R
  have hRf : R.frames = 2 := by rw [← hRe]; rfl
  have hRc : R.cells = 0 := by rw [← hRe]; rfl
  have hRs : R.slots = 0 := by rw [← hRe]; rfl
  have hRl : R.locals = 60 := by rw [← hRe]; rfl
  clear hRe
  refine lv_iload_n hx hb dX3_at_0 rfl (lv_at hl 1 rfl) ?_
  refine lv_iload_n hx hb dX3_at_1 rfl (lv_at hl 2 rfl) ?_
  refine zrdS (As := [.int a, .int b]) (rest := []) (wc := []) ⟨hx, hb, hml, hown, hts⟩ (c_isCell l D _ a b) (va_cwS 2 hts gX3_at_X3_isCell rfl rfl rfl (by decide +kernel) ⟨by rw [hRf]; exact Nat.le_of_ble_eq_true rfl, by rw [hRl]; exact Nat.le_of_ble_eq_true rfl⟩) hK hP hD [] rfl (by decide) [] rfl rfl hl.1 rfl (Nat.le_of_ble_eq_true rfl) dX3_at_2 ⟨by omega, by omega⟩ (fun r_53 hr_53 => ?_)
  refine lv_topi (fun v_54 ev_54 => ?_)
  obtain rfl : v_54 = 1 := ev_54.trans (hr_53.trans (if_pos h))
  refine lv_if_eq (tgt := 18) hx hb dX3_at_5 (by decide) (fun c_55 => absurd c_55 (by decide)) (fun c_55 => ?_)
  refine lv_iload_n hx hb dX3_at_8 rfl (lv_at hl 3 rfl) ?_
  refine lv_iconst (v := 0) hx hb dX3_at_9 (by decide) ?_
  refine lv_bipush (v := 39) hx hb dX3_at_10 (by decide) ?_
  refine zrdS (As := [.int c1, .int 0, .int 39]) (rest := []) (wc := []) ⟨hx, hb, hml, hown, hts⟩ (c_isWithin l D _ c1 0 39) (va_cwS 3 hts gX3_at_X3_isWithin rfl rfl rfl (by decide +kernel) ⟨by rw [hRf]; exact Nat.le_of_ble_eq_true rfl, by rw [hRl]; exact Nat.le_of_ble_eq_true rfl⟩) hK hP hD [] rfl (by decide) [] rfl rfl hl.1 rfl (Nat.le_of_ble_eq_true rfl) dX3_at_12 ⟨by omega, by omega⟩ (fun r_56 hr_56 => ?_)
  refine lv_topi (fun v_57 ev_57 => ?_)
  obtain rfl : v_57 = 1 := ev_57.trans (hr_56.trans (if_pos h3))
  refine lv_if_ne (tgt := 26) hx hb dX3_at_15 (by decide) (fun c_58 => ?_) (fun c_58 => absurd c_58 (by decide))
  refine lv_iconst (v := 0) hx hb dX3_at_26 (by decide) ?_
  refine lv_istore (lv' := [(4, .int 0), (0, .ref o), (1, .int a), (2, .int b), (3, .int c1)]) hx hb dX3_at_27 hl (by decide) rfl (fun ls hl => ?_)
  refine lv_iload hx hb dX3_at_29 (lv_at hl 0 rfl) ?_
  refine lv_aload_n hx hb dX3_at_31 rfl (lv_at hl 1 rfl) ?_
  refine va_get (D := D) (ci := 3) (v := .int 0) (C := RX3) (T := TX3) (N := 14) hx hb hts (fun _ h9 => List.mem_cons_of_mem _ (List.mem_append_left _ (List.mem_append_left _ (List.mem_append_right _ h9)))) hown hK hP 0 rfl rfl 7 (by decide) (hts (.fieldLink RX3 38 "PalletStack" "cameCount" "I") (List.mem_of_getElem? (i := 3) (by rfl))) (fun _ h9 => h9) rfl dX3_at_32 ?_
  refine lv_icmp_ge (tgt := 88) hx hb dX3_at_35 (by decide) (fun c_59 => ?_) (fun c_59 => absurd (Int32.le_refl _) c_59)
  refine lv_iconst (v := (-1)) hx hb dX3_at_88 (by decide) ?_
  exact W.iret (v := (-1)) hx hb hr (fun t ht hW => ⟨(-1), rfl, rfl, ht⟩) (fun _ h => by cases h) dX3_at_89
set_option maxHeartbeats 4000000 in
set_option maxRecDepth 100000 in
theorem c_nextLine0 (l : Launch) (D : zG) (sz : Nat) (o kA iA tA tr lA : Nat) : Met l yX3_nextLine wsX3_nextLine ({ frames := 0, cells := 0, slots := 0, locals := 0 }) (zPc D [] ([(o, .inr (3, [.ref kA, .int 0, .int 20, .int 60, .int 2000, .int 0, .ref iA, .int 0, .int 0, .int 0, .ref tA, .ref tr, .ref lA, .int 0]))]) sz [.ref o]) (va_Sq (fun r => r = none)) 0 0 (fun _ => False) := by
  refine Met.ofW (cc := cX3_nextLine) (maxL := 4) (ret := (some (.object "PalletStack$Line"))) (by decide) rfl ?_
  intro p e s m args below meth c s₁ B hml hv
  obtain ⟨rfl, hsz, hP, hK, hD0⟩ := hv
  have hx := B.exec
  have hb := B.bytes
  have hr := B.returns
  have hts := atoms_spec (ws := wsX3_nextLine) B.pre
  have hown : s.vm.findClass RX3 = some m.cls := findClass_of_methodNamed B.named
  have hlocks := B.notSynchronized
  subst hsz
  have hD := hD0
  generalize hAe : (fun _ : Nat => True) = A at hD
  have hl := lv_entry ([.ref o]) (n := 4) (Nat.le_of_ble_eq_true rfl)
  rw [lg_entry_eq]
  generalize (lg_sl ([.ref o]) ++ List.replicate (4 - (lg_sl ([.ref o])).length) Slot.unset).toArray = ls at hl ⊢
  have hl : lv_has ls 4 [(0, .ref o)] := hl
  have hP : va_P D vwCl ([(o, .inr (3, [.ref kA, .int 0, .int 20, .int 60, .int 2000, .int 0, .ref iA, .int 0, .int 0, .int 0, .ref tA, .ref tr, .ref lA, .int 0]))]) s.heap := hP
  generalize hRe : (headSpec _ _).room = R
  have hRf : R.frames = 0 := by rw [← hRe]; rfl
  have hRc : R.cells = 0 := by rw [← hRe]; rfl
  have hRs : R.slots = 0 := by rw [← hRe]; rfl
  have hRl : R.locals = 0 := by rw [← hRe]; rfl
  clear hRe
  refine lv_null hx hb dX3_nextLine_0 ?_
  refine lv_astore_nN (lv' := [(1, .null), (0, .ref o)]) hx hb dX3_nextLine_1 rfl hl (by decide) rfl (fun ls hl => ?_)
  refine lv_iconst (v := 0) hx hb dX3_nextLine_2 (by decide) ?_
  refine lv_istore_n (lv' := [(2, .int 0), (1, .null), (0, .ref o)]) hx hb dX3_nextLine_3 rfl hl (by decide) rfl (fun ls hl => ?_)
  refine lv_iload_n hx hb dX3_nextLine_4 rfl (lv_at hl 0 rfl) ?_
  refine lv_aload_n hx hb dX3_nextLine_5 rfl (lv_at hl 2 rfl) ?_
  refine va_get (D := D) (ci := 3) (v := .int 0) (C := RX3) (T := TX3) (N := 14) hx hb hts (fun _ h9 => List.mem_cons_of_mem _ (List.mem_append_left _ (List.mem_append_left _ (List.mem_append_right _ h9)))) hown hK hP 0 rfl rfl 13 (by decide) (hts (.fieldLink RX3 62 "PalletStack" "lineCount" "I") (List.mem_of_getElem? (i := 1) (by rfl))) (fun _ h9 => h9) rfl dX3_nextLine_6 ?_
  refine lv_icmp_ge (tgt := 62) hx hb dX3_nextLine_9 (by decide) (fun c_60 => ?_) (fun c_60 => absurd (Int32.le_refl _) c_60)
  refine lv_aload_nN hx hb dX3_nextLine_62 rfl (lv_at hl 1 rfl) ?_
  exact W.aret (v := .null) hx hb hr (.inl ⟨_, rfl⟩) (.inl rfl) (fun t ht hW => ⟨none, rfl, rfl, ht⟩) (fun _ h => by cases h) dX3_nextLine_63
set_option maxHeartbeats 4000000 in
set_option maxRecDepth 100000 in
theorem c_stack0 (l : Launch) (D : zG) (sz : Nat) (o kA iA tA tr lA : Nat) : Met l yX3_stack wsX3_stack ({ frames := 1, cells := 0, slots := 0, locals := 30 }) (zPc D [] ([(o, .inr (3, [.ref kA, .int 0, .int 20, .int 60, .int 2000, .int 0, .ref iA, .int 0, .int 0, .int 0, .ref tA, .ref tr, .ref lA, .int 0]))]) sz [.ref o]) (vp_Si (fun r => r = 0)) 0 0 (fun _ => False) := by
  refine Met.ofW (cc := cX3_stack) (maxL := 4) (ret := (some .int)) (by decide) rfl ?_
  intro p e s m args below meth c s₁ B hml hv
  obtain ⟨rfl, hsz, hP, hK, hD0⟩ := hv
  have hx := B.exec
  have hb := B.bytes
  have hr := B.returns
  have hts := atoms_spec (ws := wsX3_stack) B.pre
  have hown : s.vm.findClass RX3 = some m.cls := findClass_of_methodNamed B.named
  have hlocks := B.notSynchronized
  subst hsz
  have hD := hD0
  generalize hAe : (fun _ : Nat => True) = A at hD
  have hl := lv_entry ([.ref o]) (n := 4) (Nat.le_of_ble_eq_true rfl)
  rw [lg_entry_eq]
  generalize (lg_sl ([.ref o]) ++ List.replicate (4 - (lg_sl ([.ref o])).length) Slot.unset).toArray = ls at hl ⊢
  have hl : lv_has ls 4 [(0, .ref o)] := hl
  have hP : va_P D vwCl ([(o, .inr (3, [.ref kA, .int 0, .int 20, .int 60, .int 2000, .int 0, .ref iA, .int 0, .int 0, .int 0, .ref tA, .ref tr, .ref lA, .int 0]))]) s.heap := hP
  generalize hRe : (headSpec _ _).room = R
  have hRf : R.frames = 1 := by rw [← hRe]; rfl
  have hRc : R.cells = 0 := by rw [← hRe]; rfl
  have hRs : R.slots = 0 := by rw [← hRe]; rfl
  have hRl : R.locals = 30 := by rw [← hRe]; rfl
  clear hRe
  refine lv_iconst (v := 0) hx hb dX3_stack_0 (by decide) ?_
  refine lv_istore_n (lv' := [(1, .int 0), (0, .ref o)]) hx hb dX3_stack_1 rfl hl (by decide) rfl (fun ls hl => ?_)
  refine lv_iload_n hx hb dX3_stack_2 rfl (lv_at hl 0 rfl) ?_
  refine lv_aload_n hx hb dX3_stack_3 rfl (lv_at hl 1 rfl) ?_
  refine va_get (D := D) (ci := 3) (v := .int 0) (C := RX3) (T := TX3) (N := 14) hx hb hts (fun _ h9 => List.mem_cons_of_mem _ (List.mem_append_left _ (List.mem_append_left _ (List.mem_append_left _ (List.mem_append_right _ h9))))) hown hK hP 0 rfl rfl 13 (by decide) (hts (.fieldLink RX3 62 "PalletStack" "lineCount" "I") (List.mem_of_getElem? (i := 1) (by rfl))) (fun _ h9 => h9) rfl dX3_stack_4 ?_
  refine lv_icmp_ge (tgt := 31) hx hb dX3_stack_7 (by decide) (fun c_61 => ?_) (fun c_61 => absurd (Int32.le_refl _) c_61)
  refine lv_iconst (v := 0) hx hb dX3_stack_31 (by decide) ?_
  refine lv_istore_n (lv' := [(1, .int 0), (0, .ref o)]) hx hb dX3_stack_32 rfl hl (by decide) rfl (fun ls hl => ?_)
  refine lv_iconst (v := 0) hx hb dX3_stack_33 (by decide) ?_
  refine lv_istore_n (lv' := [(2, .int 0), (1, .int 0), (0, .ref o)]) hx hb dX3_stack_34 rfl hl (by decide) rfl (fun ls hl => ?_)
  refine lv_iload_n hx hb dX3_stack_35 rfl (lv_at hl 0 rfl) ?_
  refine lv_bipush (v := 80) hx hb dX3_stack_36 (by decide) ?_
  refine lv_icmp_ge (tgt := 90) hx hb dX3_stack_38 (by decide) (fun c_62 => absurd c_62 (by decide)) (fun c_62 => ?_)
  refine lv_aload_n hx hb dX3_stack_41 rfl (lv_at hl 2 rfl) ?_
  refine zrdVq (As := []) (rest := []) (wc := [(o, .inr (3, [.ref kA, .int 0, .int 20, .int 60, .int 2000, .int 0, .ref iA, .int 0, .int 0, .int 0, .ref tA, .ref tr, .ref lA, .int 0]))]) ⟨hx, hb, hml, hown, hts⟩ (c_nextLine0 l D _ o kA iA tA tr lA) (cwV 0 hts gX3_stack_X3_nextLine rfl rfl rfl (by decide +kernel) ⟨by rw [hRf]; exact Nat.le_of_ble_eq_true rfl, by rw [hRl]; exact Nat.le_of_ble_eq_true rfl⟩) hK hP hD [0] rfl (by decide) [] rfl (ci := 3) (q0 := 0) rfl rfl rfl hl.1 rfl (Nat.le_of_ble_eq_true rfl) dX3_stack_42 ⟨by omega, by omega⟩ (fun r_63 hr_63 => ?_)
  refine W.eq (g2 := F0 m 45 ls [.null]) (by rw [hr_63]; rfl) ?_
  refine lv_astore_nN (lv' := [(3, .null), (2, .int 0), (1, .int 0), (0, .ref o)]) hx hb dX3_stack_45 rfl hl (by decide) rfl (fun ls hl => ?_)
  refine lv_aload_nN hx hb dX3_stack_46 rfl (lv_at hl 0 rfl) ?_
  refine lv_ifnonnullN hx hb dX3_stack_47 ?_
  refine lv_iload_n hx hb dX3_stack_50 rfl (lv_at hl 2 rfl) ?_
  exact W.iret (v := 0) hx hb hr (fun t ht hW => ⟨0, rfl, rfl, ht⟩) (fun _ h => by cases h) dX3_stack_51
set_option maxHeartbeats 4000000 in
set_option maxRecDepth 100000 in
theorem c_middle0 (l : Launch) (D : zG) (sz : Nat) (o kA iA tA tr lA : Nat) (a : Int32) : Met l yX3_middle wsX3_middle ({ frames := 0, cells := 0, slots := 0, locals := 0 }) (zPc D [] ([(o, .inr (3, [.ref kA, .int 0, .int 20, .int 60, .int 2000, .int 0, .ref iA, .int 0, .int 0, .int 0, .ref tA, .ref tr, .ref lA, .int 0]))]) sz [.ref o, .int a]) (vp_Sd (fun r => r = FP.dconst0)) 0 0 (fun _ => False) := by
  refine Met.ofW (cc := cX3_middle) (maxL := 5) (ret := (some .double)) (by decide) rfl ?_
  intro p e s m args below meth c s₁ B hml hv
  obtain ⟨rfl, hsz, hP, hK, hD0⟩ := hv
  have hx := B.exec
  have hb := B.bytes
  have hr := B.returns
  have hts := atoms_spec (ws := wsX3_middle) B.pre
  have hown : s.vm.findClass RX3 = some m.cls := findClass_of_methodNamed B.named
  have hlocks := B.notSynchronized
  subst hsz
  have hD := hD0
  generalize hAe : (fun _ : Nat => True) = A at hD
  have hl := lv_entry ([.ref o, .int a]) (n := 5) (Nat.le_of_ble_eq_true rfl)
  rw [lg_entry_eq]
  generalize (lg_sl ([.ref o, .int a]) ++ List.replicate (5 - (lg_sl ([.ref o, .int a])).length) Slot.unset).toArray = ls at hl ⊢
  have hl : lv_has ls 5 [(0, .ref o), (1, .int a)] := hl
  have hP : va_P D vwCl ([(o, .inr (3, [.ref kA, .int 0, .int 20, .int 60, .int 2000, .int 0, .ref iA, .int 0, .int 0, .int 0, .ref tA, .ref tr, .ref lA, .int 0]))]) s.heap := hP
  generalize hRe : (headSpec _ _).room = R
  have hRf : R.frames = 0 := by rw [← hRe]; rfl
  have hRc : R.cells = 0 := by rw [← hRe]; rfl
  have hRs : R.slots = 0 := by rw [← hRe]; rfl
  have hRl : R.locals = 0 := by rw [← hRe]; rfl
  clear hRe
  refine lv_iconst (v := 0) hx hb dX3_middle_0 (by decide) ?_
  refine lv_istore_n (lv' := [(2, .int 0), (0, .ref o), (1, .int a)]) hx hb dX3_middle_1 rfl hl (by decide) rfl (fun ls hl => ?_)
  refine lv_iconst (v := 0) hx hb dX3_middle_2 (by decide) ?_
  refine lv_istore_n (lv' := [(3, .int 0), (2, .int 0), (0, .ref o), (1, .int a)]) hx hb dX3_middle_3 rfl hl (by decide) rfl (fun ls hl => ?_)
  refine lv_iload_n hx hb dX3_middle_4 rfl (lv_at hl 0 rfl) ?_
  refine lv_aload_n hx hb dX3_middle_5 rfl (lv_at hl 2 rfl) ?_
  refine va_get (D := D) (ci := 3) (v := .int 0) (C := RX3) (T := TX3) (N := 14) hx hb hts (fun _ h9 => List.mem_cons_of_mem _ (List.mem_append_left _ (List.mem_append_right _ h9))) hown hK hP 0 rfl rfl 7 (by decide) (hts (.fieldLink RX3 38 "PalletStack" "cameCount" "I") (List.mem_of_getElem? (i := 1) (by rfl))) (fun _ h9 => h9) rfl dX3_middle_6 ?_
  refine lv_icmp_ge (tgt := 72) hx hb dX3_middle_9 (by decide) (fun c_65 => ?_) (fun c_65 => absurd (Int32.le_refl _) c_65)
  refine lv_aload_n hx hb dX3_middle_72 rfl (lv_at hl 2 rfl) ?_
  refine va_get (D := D) (ci := 3) (v := .int 0) (C := RX3) (T := TX3) (N := 14) hx hb hts (fun _ h9 => List.mem_cons_of_mem _ (List.mem_append_left _ (List.mem_append_right _ h9))) hown hK hP 0 rfl rfl 9 (by decide) (hts (.fieldLink RX3 44 "PalletStack" "weightOnPallet" "I") (List.mem_of_getElem? (i := 7) (by rfl))) (fun _ h9 => h9) rfl dX3_middle_73 ?_
  refine lv_if_gt (tgt := 83) hx hb dX3_middle_76 (by decide) (fun c_66 => absurd c_66 (by decide)) (fun c_66 => ?_)
  refine lv_dconst0 hx hb dX3_middle_79 ?_
  refine lv_goto (tgt := 93) hx hb dX3_middle_80 (by decide) ?_
  exact W.dret (v := FP.dconst0) hx hb hr (fun t ht hW => ⟨FP.dconst0, rfl, rfl, ht⟩) (fun _ h => by cases h) dX3_middle_93
set_option maxHeartbeats 4000000 in
set_option maxRecDepth 100000 in
theorem c_filled0 (l : Launch) (D : zG) (sz : Nat) (o kA iA tA tr lA : Nat) : Met l yX3_filled wsX3_filled ({ frames := 1, cells := 0, slots := 0, locals := 30 }) (zPc D [] ([(o, .inr (3, [.ref kA, .int 0, .int 20, .int 60, .int 2000, .int 0, .ref iA, .int 0, .int 0, .int 0, .ref tA, .ref tr, .ref lA, .int 0]))]) sz [.ref o]) (vp_Sd (fun r => r = FP.dconst0)) 0 0 (fun _ => False) := by
  refine Met.ofW (cc := cX3_filled) (maxL := 4) (ret := (some .double)) (by decide) rfl ?_
  intro p e s m args below meth c s₁ B hml hv
  obtain ⟨rfl, hsz, hP, hK, hD0⟩ := hv
  have hx := B.exec
  have hb := B.bytes
  have hr := B.returns
  have hts := atoms_spec (ws := wsX3_filled) B.pre
  have hown : s.vm.findClass RX3 = some m.cls := findClass_of_methodNamed B.named
  have hlocks := B.notSynchronized
  subst hsz
  have hD := hD0
  generalize hAe : (fun _ : Nat => True) = A at hD
  have hl := lv_entry ([.ref o]) (n := 4) (Nat.le_of_ble_eq_true rfl)
  rw [lg_entry_eq]
  generalize (lg_sl ([.ref o]) ++ List.replicate (4 - (lg_sl ([.ref o])).length) Slot.unset).toArray = ls at hl ⊢
  have hl : lv_has ls 4 [(0, .ref o)] := hl
  have hP : va_P D vwCl ([(o, .inr (3, [.ref kA, .int 0, .int 20, .int 60, .int 2000, .int 0, .ref iA, .int 0, .int 0, .int 0, .ref tA, .ref tr, .ref lA, .int 0]))]) s.heap := hP
  generalize hRe : (headSpec _ _).room = R
  have hRf : R.frames = 1 := by rw [← hRe]; rfl
  have hRc : R.cells = 0 := by rw [← hRe]; rfl
  have hRs : R.slots = 0 := by rw [← hRe]; rfl
  have hRl : R.locals = 30 := by rw [← hRe]; rfl
  clear hRe
  refine lv_iconst (v := 0) hx hb dX3_filled_0 (by decide) ?_
  refine lv_istore_n (lv' := [(1, .int 0), (0, .ref o)]) hx hb dX3_filled_1 rfl hl (by decide) rfl (fun ls hl => ?_)
  refine lv_iconst (v := 0) hx hb dX3_filled_2 (by decide) ?_
  refine lv_istore_n (lv' := [(2, .int 0), (1, .int 0), (0, .ref o)]) hx hb dX3_filled_3 rfl hl (by decide) rfl (fun ls hl => ?_)
  refine lv_iload_n hx hb dX3_filled_4 rfl (lv_at hl 0 rfl) ?_
  refine lv_aload_n hx hb dX3_filled_5 rfl (lv_at hl 2 rfl) ?_
  refine va_get (D := D) (ci := 3) (v := .int 0) (C := RX3) (T := TX3) (N := 14) hx hb hts (fun _ h9 => List.mem_cons_of_mem _ (List.mem_append_left _ (List.mem_append_right _ h9))) hown hK hP 0 rfl rfl 7 (by decide) (hts (.fieldLink RX3 38 "PalletStack" "cameCount" "I") (List.mem_of_getElem? (i := 1) (by rfl))) (fun _ h9 => h9) rfl dX3_filled_6 ?_
  refine lv_icmp_ge (tgt := 45) hx hb dX3_filled_9 (by decide) (fun c_67 => ?_) (fun c_67 => absurd (Int32.le_refl _) c_67)
  refine lv_aload_n hx hb dX3_filled_45 rfl (lv_at hl 2 rfl) ?_
  refine zrdV (As := []) (rest := []) (wc := [(o, .inr (3, [.ref kA, .int 0, .int 20, .int 60, .int 2000, .int 0, .ref iA, .int 0, .int 0, .int 0, .ref tA, .ref tr, .ref lA, .int 0]))]) ⟨hx, hb, hml, hown, hts⟩ (c_greatestTop0 l D _ o kA iA tA tr lA) (cwV 0 hts gX3_filled_X3_greatestTop rfl rfl rfl (by decide +kernel) ⟨by rw [hRf]; exact Nat.le_of_ble_eq_true rfl, by rw [hRl]; exact Nat.le_of_ble_eq_true rfl⟩) hK hP hD [0] rfl (by decide) [] rfl (ci := 3) (q0 := 0) rfl rfl rfl hl.1 rfl (Nat.le_of_ble_eq_true rfl) dX3_filled_46 ⟨by omega, by omega⟩ (fun r_68 hr_68 => ?_)
  refine lv_topi (fun v_69 ev_69 => ?_)
  obtain rfl : v_69 = 0 := ev_69.trans hr_68
  refine lv_istore_n (lv' := [(2, .int 0), (1, .int 0), (0, .ref o)]) hx hb dX3_filled_49 rfl hl (by decide) rfl (fun ls hl => ?_)
  refine lv_iload_n hx hb dX3_filled_50 rfl (lv_at hl 0 rfl) ?_
  refine lv_if_gt (tgt := 58) hx hb dX3_filled_51 (by decide) (fun c_70 => absurd c_70 (by decide)) (fun c_70 => ?_)
  refine lv_dconst0 hx hb dX3_filled_54 ?_
  refine lv_goto (tgt := 66) hx hb dX3_filled_55 (by decide) ?_
  exact W.dret (v := FP.dconst0) hx hb hr (fun t ht hW => ⟨FP.dconst0, rfl, rfl, ht⟩) (fun _ h => by cases h) dX3_filled_66
set_option maxHeartbeats 4000000 in
set_option maxRecDepth 100000 in
theorem c_digest0 (l : Launch) (D : zG) (sz : Nat) (o kA iA tA tr lA : Nat) : Met l yX3_digest wsX3_digest ({ frames := 2, cells := 0, slots := 0, locals := 60 }) (zPc D [] ([(o, .inr (3, [.ref kA, .int 0, .int 20, .int 60, .int 2000, .int 0, .ref iA, .int 0, .int 0, .int 0, .ref tA, .ref tr, .ref lA, .int 0]))]) sz [.ref o]) (vp_Sl (fun r => r = 297658972066909)) 0 0 (fun _ => False) := by
  refine Met.ofW (cc := cX3_digest) (maxL := 5) (ret := (some .long)) (by decide) rfl ?_
  intro p e s m args below meth c s₁ B hml hv
  obtain ⟨rfl, hsz, hP, hK, hD0⟩ := hv
  have hx := B.exec
  have hb := B.bytes
  have hr := B.returns
  have hts := atoms_spec (ws := wsX3_digest) B.pre
  have hown : s.vm.findClass RX3 = some m.cls := findClass_of_methodNamed B.named
  have hlocks := B.notSynchronized
  subst hsz
  have hD := hD0
  generalize hAe : (fun _ : Nat => True) = A at hD
  have hl := lv_entry ([.ref o]) (n := 5) (Nat.le_of_ble_eq_true rfl)
  rw [lg_entry_eq]
  generalize (lg_sl ([.ref o]) ++ List.replicate (5 - (lg_sl ([.ref o])).length) Slot.unset).toArray = ls at hl ⊢
  have hl : lv_has ls 5 [(0, .ref o)] := hl
  have hP : va_P D vwCl ([(o, .inr (3, [.ref kA, .int 0, .int 20, .int 60, .int 2000, .int 0, .ref iA, .int 0, .int 0, .int 0, .ref tA, .ref tr, .ref lA, .int 0]))]) s.heap := hP
  generalize hRe : (headSpec _ _).room = R
  have hRf : R.frames = 2 := by rw [← hRe]; rfl
  have hRc : R.cells = 0 := by rw [← hRe]; rfl
  have hRs : R.slots = 0 := by rw [← hRe]; rfl
  have hRl : R.locals = 60 := by rw [← hRe]; rfl
  clear hRe
  refine lv_ldc2 (v := (349 : Int64)) hx hb hown (hts (.constantLong RX3 195 (349)) (List.mem_of_getElem? (i := 1) (by rfl))) dX3_digest_0 ?_
  refine lv_lstore_n (lv' := [(1, .long (349 : Int64)), (0, .ref o)]) hx hb dX3_digest_3 rfl hl (by decide) rfl (fun ls hl => ?_)
  refine lv_iconst (v := 0) hx hb dX3_digest_4 (by decide) ?_
  refine lv_istore_n (lv' := [(3, .int 0), (1, .long (349 : Int64)), (0, .ref o)]) hx hb dX3_digest_5 rfl hl (by decide) rfl (fun ls hl => ?_)
  refine lv_iload_n hx hb dX3_digest_6 rfl (lv_at hl 0 rfl) ?_
  refine lv_iconst (v := 4) hx hb dX3_digest_7 (by decide) ?_
  refine lv_icmp_ge (tgt := 30) hx hb dX3_digest_8 (by decide) (fun c_71 => absurd c_71 (by decide)) (fun c_71 => ?_)
  refine lv_lload_n hx hb dX3_digest_11 rfl (lv_at hl 1 rfl) ?_
  refine lv_ldc2 (v := (31 : Int64)) hx hb hown (hts (.constantLong RX3 197 (31)) (List.mem_of_getElem? (i := 2) (by rfl))) dX3_digest_12 ?_
  refine lv_lmul hx hb dX3_digest_15 ?_
  refine lv_topl (fun v_72 ev_72 => ?_)
  obtain rfl : v_72 = (10819 : Int64) := ev_72.trans (by decide)
  refine lv_aload_n hx hb dX3_digest_16 rfl (lv_at hl 2 rfl) ?_
  refine lv_iload_n hx hb dX3_digest_17 rfl (lv_at hl 0 rfl) ?_
  refine zrdV (As := [.int 0]) (rest := [.long (10819 : Int64)]) (wc := [(o, .inr (3, [.ref kA, .int 0, .int 20, .int 60, .int 2000, .int 0, .ref iA, .int 0, .int 0, .int 0, .ref tA, .ref tr, .ref lA, .int 0]))]) ⟨hx, hb, hml, hown, hts⟩ (c_countOf0_0 l D _ o kA iA tA tr lA) (cwV 1 hts gX3_digest_X3_countOf rfl rfl rfl (by decide +kernel) ⟨by rw [hRf]; exact Nat.le_of_ble_eq_true rfl, by rw [hRl]; exact Nat.le_of_ble_eq_true rfl⟩) hK hP hD [0] rfl (by decide) [] rfl (ci := 3) (q0 := 0) rfl rfl rfl hl.1 rfl (Nat.le_of_ble_eq_true rfl) dX3_digest_18 ⟨by omega, by omega⟩ (fun r_73 hr_73 => ?_)
  refine lv_topi (fun v_74 ev_74 => ?_)
  obtain rfl : v_74 = 0 := ev_74.trans hr_73
  refine lv_i2l (v := (0 : Int64)) hx hb dX3_digest_21 (by decide) ?_
  refine lv_ladd hx hb dX3_digest_22 ?_
  refine lv_topl (fun v_75 ev_75 => ?_)
  obtain rfl : v_75 = (10819 : Int64) := ev_75.trans (by decide)
  refine lv_lstore_n (lv' := [(1, .long (10819 : Int64)), (3, .int 0), (0, .ref o)]) hx hb dX3_digest_23 rfl hl (by decide) rfl (fun ls hl => ?_)
  refine lv_iinc (v := 1) (lv' := [(3, .int 1), (1, .long (10819 : Int64)), (0, .ref o)]) hx hb dX3_digest_24 hl (k := 1) rfl ((by decide)) (by decide) rfl (fun ls hl => ?_)
  refine lv_goto (tgt := 6) hx hb dX3_digest_27 (by decide) ?_
  refine lv_iload_n hx hb dX3_digest_6 rfl (lv_at hl 0 rfl) ?_
  refine lv_iconst (v := 4) hx hb dX3_digest_7 (by decide) ?_
  refine lv_icmp_ge (tgt := 30) hx hb dX3_digest_8 (by decide) (fun c_76 => absurd c_76 (by decide)) (fun c_76 => ?_)
  refine lv_lload_n hx hb dX3_digest_11 rfl (lv_at hl 1 rfl) ?_
  refine lv_ldc2 (v := (31 : Int64)) hx hb hown (hts (.constantLong RX3 197 (31)) (List.mem_of_getElem? (i := 2) (by rfl))) dX3_digest_12 ?_
  refine lv_lmul hx hb dX3_digest_15 ?_
  refine lv_topl (fun v_77 ev_77 => ?_)
  obtain rfl : v_77 = (335389 : Int64) := ev_77.trans (by decide)
  refine lv_aload_n hx hb dX3_digest_16 rfl (lv_at hl 2 rfl) ?_
  refine lv_iload_n hx hb dX3_digest_17 rfl (lv_at hl 0 rfl) ?_
  refine zrdV (As := [.int 1]) (rest := [.long (335389 : Int64)]) (wc := [(o, .inr (3, [.ref kA, .int 0, .int 20, .int 60, .int 2000, .int 0, .ref iA, .int 0, .int 0, .int 0, .ref tA, .ref tr, .ref lA, .int 0]))]) ⟨hx, hb, hml, hown, hts⟩ (c_countOf0_1 l D _ o kA iA tA tr lA) (cwV 1 hts gX3_digest_X3_countOf rfl rfl rfl (by decide +kernel) ⟨by rw [hRf]; exact Nat.le_of_ble_eq_true rfl, by rw [hRl]; exact Nat.le_of_ble_eq_true rfl⟩) hK hP hD [0] rfl (by decide) [] rfl (ci := 3) (q0 := 0) rfl rfl rfl hl.1 rfl (Nat.le_of_ble_eq_true rfl) dX3_digest_18 ⟨by omega, by omega⟩ (fun r_78 hr_78 => ?_)
  refine lv_topi (fun v_79 ev_79 => ?_)
  obtain rfl : v_79 = 0 := ev_79.trans hr_78
  refine lv_i2l (v := (0 : Int64)) hx hb dX3_digest_21 (by decide) ?_
  refine lv_ladd hx hb dX3_digest_22 ?_
  refine lv_topl (fun v_80 ev_80 => ?_)
  obtain rfl : v_80 = (335389 : Int64) := ev_80.trans (by decide)
  refine lv_lstore_n (lv' := [(1, .long (335389 : Int64)), (3, .int 1), (0, .ref o)]) hx hb dX3_digest_23 rfl hl (by decide) rfl (fun ls hl => ?_)
  refine lv_iinc (v := 2) (lv' := [(3, .int 2), (1, .long (335389 : Int64)), (0, .ref o)]) hx hb dX3_digest_24 hl (k := 1) rfl ((by decide)) (by decide) rfl (fun ls hl => ?_)
  refine lv_goto (tgt := 6) hx hb dX3_digest_27 (by decide) ?_
  refine lv_iload_n hx hb dX3_digest_6 rfl (lv_at hl 0 rfl) ?_
  refine lv_iconst (v := 4) hx hb dX3_digest_7 (by decide) ?_
  refine lv_icmp_ge (tgt := 30) hx hb dX3_digest_8 (by decide) (fun c_81 => absurd c_81 (by decide)) (fun c_81 => ?_)
  refine lv_lload_n hx hb dX3_digest_11 rfl (lv_at hl 1 rfl) ?_
  refine lv_ldc2 (v := (31 : Int64)) hx hb hown (hts (.constantLong RX3 197 (31)) (List.mem_of_getElem? (i := 2) (by rfl))) dX3_digest_12 ?_
  refine lv_lmul hx hb dX3_digest_15 ?_
  refine lv_topl (fun v_82 ev_82 => ?_)
  obtain rfl : v_82 = (10397059 : Int64) := ev_82.trans (by decide)
  refine lv_aload_n hx hb dX3_digest_16 rfl (lv_at hl 2 rfl) ?_
  refine lv_iload_n hx hb dX3_digest_17 rfl (lv_at hl 0 rfl) ?_
  refine zrdV (As := [.int 2]) (rest := [.long (10397059 : Int64)]) (wc := [(o, .inr (3, [.ref kA, .int 0, .int 20, .int 60, .int 2000, .int 0, .ref iA, .int 0, .int 0, .int 0, .ref tA, .ref tr, .ref lA, .int 0]))]) ⟨hx, hb, hml, hown, hts⟩ (c_countOf0_2 l D _ o kA iA tA tr lA) (cwV 1 hts gX3_digest_X3_countOf rfl rfl rfl (by decide +kernel) ⟨by rw [hRf]; exact Nat.le_of_ble_eq_true rfl, by rw [hRl]; exact Nat.le_of_ble_eq_true rfl⟩) hK hP hD [0] rfl (by decide) [] rfl (ci := 3) (q0 := 0) rfl rfl rfl hl.1 rfl (Nat.le_of_ble_eq_true rfl) dX3_digest_18 ⟨by omega, by omega⟩ (fun r_83 hr_83 => ?_)
  refine lv_topi (fun v_84 ev_84 => ?_)
  obtain rfl : v_84 = 0 := ev_84.trans hr_83
  refine lv_i2l (v := (0 : Int64)) hx hb dX3_digest_21 (by decide) ?_
  refine lv_ladd hx hb dX3_digest_22 ?_
  refine lv_topl (fun v_85 ev_85 => ?_)
  obtain rfl : v_85 = (10397059 : Int64) := ev_85.trans (by decide)
  refine lv_lstore_n (lv' := [(1, .long (10397059 : Int64)), (3, .int 2), (0, .ref o)]) hx hb dX3_digest_23 rfl hl (by decide) rfl (fun ls hl => ?_)
  refine lv_iinc (v := 3) (lv' := [(3, .int 3), (1, .long (10397059 : Int64)), (0, .ref o)]) hx hb dX3_digest_24 hl (k := 1) rfl ((by decide)) (by decide) rfl (fun ls hl => ?_)
  refine lv_goto (tgt := 6) hx hb dX3_digest_27 (by decide) ?_
  refine lv_iload_n hx hb dX3_digest_6 rfl (lv_at hl 0 rfl) ?_
  refine lv_iconst (v := 4) hx hb dX3_digest_7 (by decide) ?_
  refine lv_icmp_ge (tgt := 30) hx hb dX3_digest_8 (by decide) (fun c_86 => absurd c_86 (by decide)) (fun c_86 => ?_)
  refine lv_lload_n hx hb dX3_digest_11 rfl (lv_at hl 1 rfl) ?_
  refine lv_ldc2 (v := (31 : Int64)) hx hb hown (hts (.constantLong RX3 197 (31)) (List.mem_of_getElem? (i := 2) (by rfl))) dX3_digest_12 ?_
  refine lv_lmul hx hb dX3_digest_15 ?_
  refine lv_topl (fun v_87 ev_87 => ?_)
  obtain rfl : v_87 = (322308829 : Int64) := ev_87.trans (by decide)
  refine lv_aload_n hx hb dX3_digest_16 rfl (lv_at hl 2 rfl) ?_
  refine lv_iload_n hx hb dX3_digest_17 rfl (lv_at hl 0 rfl) ?_
  refine zrdV (As := [.int 3]) (rest := [.long (322308829 : Int64)]) (wc := [(o, .inr (3, [.ref kA, .int 0, .int 20, .int 60, .int 2000, .int 0, .ref iA, .int 0, .int 0, .int 0, .ref tA, .ref tr, .ref lA, .int 0]))]) ⟨hx, hb, hml, hown, hts⟩ (c_countOf0_3 l D _ o kA iA tA tr lA) (cwV 1 hts gX3_digest_X3_countOf rfl rfl rfl (by decide +kernel) ⟨by rw [hRf]; exact Nat.le_of_ble_eq_true rfl, by rw [hRl]; exact Nat.le_of_ble_eq_true rfl⟩) hK hP hD [0] rfl (by decide) [] rfl (ci := 3) (q0 := 0) rfl rfl rfl hl.1 rfl (Nat.le_of_ble_eq_true rfl) dX3_digest_18 ⟨by omega, by omega⟩ (fun r_88 hr_88 => ?_)
  refine lv_topi (fun v_89 ev_89 => ?_)
  obtain rfl : v_89 = 0 := ev_89.trans hr_88
  refine lv_i2l (v := (0 : Int64)) hx hb dX3_digest_21 (by decide) ?_
  refine lv_ladd hx hb dX3_digest_22 ?_
  refine lv_topl (fun v_90 ev_90 => ?_)
  obtain rfl : v_90 = (322308829 : Int64) := ev_90.trans (by decide)
  refine lv_lstore_n (lv' := [(1, .long (322308829 : Int64)), (3, .int 3), (0, .ref o)]) hx hb dX3_digest_23 rfl hl (by decide) rfl (fun ls hl => ?_)
  refine lv_iinc (v := 4) (lv' := [(3, .int 4), (1, .long (322308829 : Int64)), (0, .ref o)]) hx hb dX3_digest_24 hl (k := 1) rfl ((by decide)) (by decide) rfl (fun ls hl => ?_)
  refine lv_goto (tgt := 6) hx hb dX3_digest_27 (by decide) ?_
  refine lv_iload_n hx hb dX3_digest_6 rfl (lv_at hl 0 rfl) ?_
  refine lv_iconst (v := 4) hx hb dX3_digest_7 (by decide) ?_
  refine lv_icmp_ge (tgt := 30) hx hb dX3_digest_8 (by decide) (fun c_91 => ?_) (fun c_91 => absurd (by decide) c_91)
  refine lv_iconst (v := 0) hx hb dX3_digest_30 (by decide) ?_
  refine lv_istore_n (lv' := [(3, .int 0), (1, .long (322308829 : Int64)), (0, .ref o)]) hx hb dX3_digest_31 rfl hl (by decide) rfl (fun ls hl => ?_)
  refine lv_iload_n hx hb dX3_digest_32 rfl (lv_at hl 0 rfl) ?_
  refine lv_aload_n hx hb dX3_digest_33 rfl (lv_at hl 2 rfl) ?_
  refine va_get (D := D) (ci := 3) (v := .int 0) (C := RX3) (T := TX3) (N := 14) hx hb hts (fun _ h9 => List.mem_cons_of_mem _ (List.mem_append_left _ (List.mem_append_left _ (List.mem_append_left _ (List.mem_append_right _ h9))))) hown hK hP 0 rfl rfl 7 (by decide) (hts (.fieldLink RX3 38 "PalletStack" "cameCount" "I") (List.mem_of_getElem? (i := 3) (by rfl))) (fun _ h9 => h9) rfl dX3_digest_34 ?_
  refine lv_icmp_ge (tgt := 73) hx hb dX3_digest_37 (by decide) (fun c_92 => ?_) (fun c_92 => absurd (Int32.le_refl _) c_92)
  refine lv_iconst (v := 0) hx hb dX3_digest_73 (by decide) ?_
  refine lv_istore_n (lv' := [(3, .int 0), (1, .long (322308829 : Int64)), (0, .ref o)]) hx hb dX3_digest_74 rfl hl (by decide) rfl (fun ls hl => ?_)
  refine lv_iload_n hx hb dX3_digest_75 rfl (lv_at hl 0 rfl) ?_
  refine lv_aload_n hx hb dX3_digest_76 rfl (lv_at hl 2 rfl) ?_
  refine va_get (D := D) (ci := 3) (v := .int 0) (C := RX3) (T := TX3) (N := 14) hx hb hts (fun _ h9 => List.mem_cons_of_mem _ (List.mem_append_left _ (List.mem_append_left _ (List.mem_append_left _ (List.mem_append_right _ h9))))) hown hK hP 0 rfl rfl 13 (by decide) (hts (.fieldLink RX3 62 "PalletStack" "lineCount" "I") (List.mem_of_getElem? (i := 4) (by rfl))) (fun _ h9 => h9) rfl dX3_digest_77 ?_
  refine lv_icmp_ge (tgt := 128) hx hb dX3_digest_80 (by decide) (fun c_93 => ?_) (fun c_93 => absurd (Int32.le_refl _) c_93)
  refine lv_iconst (v := 0) hx hb dX3_digest_128 (by decide) ?_
  refine lv_istore_n (lv' := [(3, .int 0), (1, .long (322308829 : Int64)), (0, .ref o)]) hx hb dX3_digest_129 rfl hl (by decide) rfl (fun ls hl => ?_)
  refine lv_iload_n hx hb dX3_digest_130 rfl (lv_at hl 0 rfl) ?_
  refine lv_iconst (v := 4) hx hb dX3_digest_131 (by decide) ?_
  refine lv_icmp_ge (tgt := 154) hx hb dX3_digest_132 (by decide) (fun c_94 => absurd c_94 (by decide)) (fun c_94 => ?_)
  refine lv_lload_n hx hb dX3_digest_135 rfl (lv_at hl 1 rfl) ?_
  refine lv_ldc2 (v := (31 : Int64)) hx hb hown (hts (.constantLong RX3 197 (31)) (List.mem_of_getElem? (i := 2) (by rfl))) dX3_digest_136 ?_
  refine lv_lmul hx hb dX3_digest_139 ?_
  refine lv_topl (fun v_95 ev_95 => ?_)
  obtain rfl : v_95 = (9991573699 : Int64) := ev_95.trans (by decide)
  refine lv_aload_n hx hb dX3_digest_140 rfl (lv_at hl 2 rfl) ?_
  refine lv_iload_n hx hb dX3_digest_141 rfl (lv_at hl 0 rfl) ?_
  refine zrdV (As := [.int 0]) (rest := [.long (9991573699 : Int64)]) (wc := [(o, .inr (3, [.ref kA, .int 0, .int 20, .int 60, .int 2000, .int 0, .ref iA, .int 0, .int 0, .int 0, .ref tA, .ref tr, .ref lA, .int 0]))]) ⟨hx, hb, hml, hown, hts⟩ (c_sumOf0_0 l D _ o kA iA tA tr lA) (cwV 1 hts gX3_digest_X3_sumOf rfl rfl rfl (by decide +kernel) ⟨by rw [hRf]; exact Nat.le_of_ble_eq_true rfl, by rw [hRl]; exact Nat.le_of_ble_eq_true rfl⟩) hK hP hD [0] rfl (by decide) [] rfl (ci := 3) (q0 := 0) rfl rfl rfl hl.1 rfl (Nat.le_of_ble_eq_true rfl) dX3_digest_142 ⟨by omega, by omega⟩ (fun r_96 hr_96 => ?_)
  refine lv_topi (fun v_97 ev_97 => ?_)
  obtain rfl : v_97 = 0 := ev_97.trans hr_96
  refine lv_i2l (v := (0 : Int64)) hx hb dX3_digest_145 (by decide) ?_
  refine lv_ladd hx hb dX3_digest_146 ?_
  refine lv_topl (fun v_98 ev_98 => ?_)
  obtain rfl : v_98 = (9991573699 : Int64) := ev_98.trans (by decide)
  refine lv_lstore_n (lv' := [(1, .long (9991573699 : Int64)), (3, .int 0), (0, .ref o)]) hx hb dX3_digest_147 rfl hl (by decide) rfl (fun ls hl => ?_)
  refine lv_iinc (v := 1) (lv' := [(3, .int 1), (1, .long (9991573699 : Int64)), (0, .ref o)]) hx hb dX3_digest_148 hl (k := 1) rfl ((by decide)) (by decide) rfl (fun ls hl => ?_)
  refine lv_goto (tgt := 130) hx hb dX3_digest_151 (by decide) ?_
  refine lv_iload_n hx hb dX3_digest_130 rfl (lv_at hl 0 rfl) ?_
  refine lv_iconst (v := 4) hx hb dX3_digest_131 (by decide) ?_
  refine lv_icmp_ge (tgt := 154) hx hb dX3_digest_132 (by decide) (fun c_99 => absurd c_99 (by decide)) (fun c_99 => ?_)
  refine lv_lload_n hx hb dX3_digest_135 rfl (lv_at hl 1 rfl) ?_
  refine lv_ldc2 (v := (31 : Int64)) hx hb hown (hts (.constantLong RX3 197 (31)) (List.mem_of_getElem? (i := 2) (by rfl))) dX3_digest_136 ?_
  refine lv_lmul hx hb dX3_digest_139 ?_
  refine lv_topl (fun v_100 ev_100 => ?_)
  obtain rfl : v_100 = (309738784669 : Int64) := ev_100.trans (by decide)
  refine lv_aload_n hx hb dX3_digest_140 rfl (lv_at hl 2 rfl) ?_
  refine lv_iload_n hx hb dX3_digest_141 rfl (lv_at hl 0 rfl) ?_
  refine zrdV (As := [.int 1]) (rest := [.long (309738784669 : Int64)]) (wc := [(o, .inr (3, [.ref kA, .int 0, .int 20, .int 60, .int 2000, .int 0, .ref iA, .int 0, .int 0, .int 0, .ref tA, .ref tr, .ref lA, .int 0]))]) ⟨hx, hb, hml, hown, hts⟩ (c_sumOf0_1 l D _ o kA iA tA tr lA) (cwV 1 hts gX3_digest_X3_sumOf rfl rfl rfl (by decide +kernel) ⟨by rw [hRf]; exact Nat.le_of_ble_eq_true rfl, by rw [hRl]; exact Nat.le_of_ble_eq_true rfl⟩) hK hP hD [0] rfl (by decide) [] rfl (ci := 3) (q0 := 0) rfl rfl rfl hl.1 rfl (Nat.le_of_ble_eq_true rfl) dX3_digest_142 ⟨by omega, by omega⟩ (fun r_101 hr_101 => ?_)
  refine lv_topi (fun v_102 ev_102 => ?_)
  obtain rfl : v_102 = 0 := ev_102.trans hr_101
  refine lv_i2l (v := (0 : Int64)) hx hb dX3_digest_145 (by decide) ?_
  refine lv_ladd hx hb dX3_digest_146 ?_
  refine lv_topl (fun v_103 ev_103 => ?_)
  obtain rfl : v_103 = (309738784669 : Int64) := ev_103.trans (by decide)
  refine lv_lstore_n (lv' := [(1, .long (309738784669 : Int64)), (3, .int 1), (0, .ref o)]) hx hb dX3_digest_147 rfl hl (by decide) rfl (fun ls hl => ?_)
  refine lv_iinc (v := 2) (lv' := [(3, .int 2), (1, .long (309738784669 : Int64)), (0, .ref o)]) hx hb dX3_digest_148 hl (k := 1) rfl ((by decide)) (by decide) rfl (fun ls hl => ?_)
  refine lv_goto (tgt := 130) hx hb dX3_digest_151 (by decide) ?_
  refine lv_iload_n hx hb dX3_digest_130 rfl (lv_at hl 0 rfl) ?_
  refine lv_iconst (v := 4) hx hb dX3_digest_131 (by decide) ?_
  refine lv_icmp_ge (tgt := 154) hx hb dX3_digest_132 (by decide) (fun c_104 => absurd c_104 (by decide)) (fun c_104 => ?_)
  refine lv_lload_n hx hb dX3_digest_135 rfl (lv_at hl 1 rfl) ?_
  refine lv_ldc2 (v := (31 : Int64)) hx hb hown (hts (.constantLong RX3 197 (31)) (List.mem_of_getElem? (i := 2) (by rfl))) dX3_digest_136 ?_
  refine lv_lmul hx hb dX3_digest_139 ?_
  refine lv_topl (fun v_105 ev_105 => ?_)
  obtain rfl : v_105 = (9601902324739 : Int64) := ev_105.trans (by decide)
  refine lv_aload_n hx hb dX3_digest_140 rfl (lv_at hl 2 rfl) ?_
  refine lv_iload_n hx hb dX3_digest_141 rfl (lv_at hl 0 rfl) ?_
  refine zrdV (As := [.int 2]) (rest := [.long (9601902324739 : Int64)]) (wc := [(o, .inr (3, [.ref kA, .int 0, .int 20, .int 60, .int 2000, .int 0, .ref iA, .int 0, .int 0, .int 0, .ref tA, .ref tr, .ref lA, .int 0]))]) ⟨hx, hb, hml, hown, hts⟩ (c_sumOf0_2 l D _ o kA iA tA tr lA) (cwV 1 hts gX3_digest_X3_sumOf rfl rfl rfl (by decide +kernel) ⟨by rw [hRf]; exact Nat.le_of_ble_eq_true rfl, by rw [hRl]; exact Nat.le_of_ble_eq_true rfl⟩) hK hP hD [0] rfl (by decide) [] rfl (ci := 3) (q0 := 0) rfl rfl rfl hl.1 rfl (Nat.le_of_ble_eq_true rfl) dX3_digest_142 ⟨by omega, by omega⟩ (fun r_106 hr_106 => ?_)
  refine lv_topi (fun v_107 ev_107 => ?_)
  obtain rfl : v_107 = 0 := ev_107.trans hr_106
  refine lv_i2l (v := (0 : Int64)) hx hb dX3_digest_145 (by decide) ?_
  refine lv_ladd hx hb dX3_digest_146 ?_
  refine lv_topl (fun v_108 ev_108 => ?_)
  obtain rfl : v_108 = (9601902324739 : Int64) := ev_108.trans (by decide)
  refine lv_lstore_n (lv' := [(1, .long (9601902324739 : Int64)), (3, .int 2), (0, .ref o)]) hx hb dX3_digest_147 rfl hl (by decide) rfl (fun ls hl => ?_)
  refine lv_iinc (v := 3) (lv' := [(3, .int 3), (1, .long (9601902324739 : Int64)), (0, .ref o)]) hx hb dX3_digest_148 hl (k := 1) rfl ((by decide)) (by decide) rfl (fun ls hl => ?_)
  refine lv_goto (tgt := 130) hx hb dX3_digest_151 (by decide) ?_
  refine lv_iload_n hx hb dX3_digest_130 rfl (lv_at hl 0 rfl) ?_
  refine lv_iconst (v := 4) hx hb dX3_digest_131 (by decide) ?_
  refine lv_icmp_ge (tgt := 154) hx hb dX3_digest_132 (by decide) (fun c_109 => absurd c_109 (by decide)) (fun c_109 => ?_)
  refine lv_lload_n hx hb dX3_digest_135 rfl (lv_at hl 1 rfl) ?_
  refine lv_ldc2 (v := (31 : Int64)) hx hb hown (hts (.constantLong RX3 197 (31)) (List.mem_of_getElem? (i := 2) (by rfl))) dX3_digest_136 ?_
  refine lv_lmul hx hb dX3_digest_139 ?_
  refine lv_topl (fun v_110 ev_110 => ?_)
  obtain rfl : v_110 = (297658972066909 : Int64) := ev_110.trans (by decide)
  refine lv_aload_n hx hb dX3_digest_140 rfl (lv_at hl 2 rfl) ?_
  refine lv_iload_n hx hb dX3_digest_141 rfl (lv_at hl 0 rfl) ?_
  refine zrdV (As := [.int 3]) (rest := [.long (297658972066909 : Int64)]) (wc := [(o, .inr (3, [.ref kA, .int 0, .int 20, .int 60, .int 2000, .int 0, .ref iA, .int 0, .int 0, .int 0, .ref tA, .ref tr, .ref lA, .int 0]))]) ⟨hx, hb, hml, hown, hts⟩ (c_sumOf0_3 l D _ o kA iA tA tr lA) (cwV 1 hts gX3_digest_X3_sumOf rfl rfl rfl (by decide +kernel) ⟨by rw [hRf]; exact Nat.le_of_ble_eq_true rfl, by rw [hRl]; exact Nat.le_of_ble_eq_true rfl⟩) hK hP hD [0] rfl (by decide) [] rfl (ci := 3) (q0 := 0) rfl rfl rfl hl.1 rfl (Nat.le_of_ble_eq_true rfl) dX3_digest_142 ⟨by omega, by omega⟩ (fun r_111 hr_111 => ?_)
  refine lv_topi (fun v_112 ev_112 => ?_)
  obtain rfl : v_112 = 0 := ev_112.trans hr_111
  refine lv_i2l (v := (0 : Int64)) hx hb dX3_digest_145 (by decide) ?_
  refine lv_ladd hx hb dX3_digest_146 ?_
  refine lv_topl (fun v_113 ev_113 => ?_)
  obtain rfl : v_113 = (297658972066909 : Int64) := ev_113.trans (by decide)
  refine lv_lstore_n (lv' := [(1, .long (297658972066909 : Int64)), (3, .int 3), (0, .ref o)]) hx hb dX3_digest_147 rfl hl (by decide) rfl (fun ls hl => ?_)
  refine lv_iinc (v := 4) (lv' := [(3, .int 4), (1, .long (297658972066909 : Int64)), (0, .ref o)]) hx hb dX3_digest_148 hl (k := 1) rfl ((by decide)) (by decide) rfl (fun ls hl => ?_)
  refine lv_goto (tgt := 130) hx hb dX3_digest_151 (by decide) ?_
  refine lv_iload_n hx hb dX3_digest_130 rfl (lv_at hl 0 rfl) ?_
  refine lv_iconst (v := 4) hx hb dX3_digest_131 (by decide) ?_
  refine lv_icmp_ge (tgt := 154) hx hb dX3_digest_132 (by decide) (fun c_114 => ?_) (fun c_114 => absurd (by decide) c_114)
  refine lv_lload_n hx hb dX3_digest_154 rfl (lv_at hl 1 rfl) ?_
  exact W.lret (v := (297658972066909 : Int64)) hx hb hr (fun t ht hW => ⟨(297658972066909 : Int64), rfl, rfl, ht⟩) (fun _ h => by cases h) dX3_digest_155
