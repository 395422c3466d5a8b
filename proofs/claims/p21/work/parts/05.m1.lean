set_option maxHeartbeats 4000000 in
set_option maxRecDepth 100000 in
/-- isWithin -/
theorem c_isWithin (l : Launch) (D : zG) (sz : Nat) (a b c1 : Int32) : Met l yX3_isWithin wsX3_isWithin ({ frames := 0, cells := 0, slots := 0, locals := 0 }) (zPc D [] ([]) sz [.int a, .int b, .int c1]) (vp_Si (fun r => r = if b ≤ a ∧ a ≤ c1 then 1 else 0)) 0 0 (fun _ => False) := by
  refine Met.ofW (cc := cX3_isWithin) (maxL := 3) (ret := (some .boolean)) (by decide) rfl ?_
  intro p e s m args below meth c s₁ B hml hv
  obtain ⟨rfl, hsz, hP, hK, hD0⟩ := hv
  have hx := B.exec
  have hb := B.bytes
  have hr := B.returns
  have hts := atoms_spec (ws := wsX3_isWithin) B.pre
  have hown : s.vm.findClass RX3 = some m.cls := findClass_of_methodNamed B.named
  have hlocks := B.notSynchronized
  subst hsz
  have hD := hD0
  generalize hAe : (fun _ : Nat => True) = A at hD
  have hl := lv_entry ([.int a, .int b, .int c1]) (n := 3) (Nat.le_of_ble_eq_true rfl)
  rw [lg_entry_eq]
  generalize (lg_sl ([.int a, .int b, .int c1]) ++ List.replicate (3 - (lg_sl ([.int a, .int b, .int c1])).length) Slot.unset).toArray = ls at hl ⊢
  have hl : lv_has ls 3 [(0, .int a), (1, .int b), (2, .int c1)] := hl
  have hP : va_P D vwCl ([]) s.heap := hP
  generalize hRe : (headSpec _ _).room = R
  have hRf : R.frames = 0 := by rw [← hRe]; rfl
  have hRc : R.cells = 0 := by rw [← hRe]; rfl
  have hRs : R.slots = 0 := by rw [← hRe]; rfl
  have hRl : R.locals = 0 := by rw [← hRe]; rfl
  clear hRe
  refine lv_iload_n hx hb dX3_isWithin_0 rfl (lv_at hl 0 rfl) ?_
  refine lv_iload_n hx hb dX3_isWithin_1 rfl (lv_at hl 1 rfl) ?_
  refine lv_icmp_lt (tgt := 14) hx hb dX3_isWithin_2 (by decide) (fun c_1 => ?_) (fun c_1 => ?_)
  · have h_b := True.intro
    refine lv_iconst (v := 0) hx hb dX3_isWithin_14 (by decide) ?_
    exact W.zret (ty := .boolean) (v := 0) hx hb hr rfl (fun t ht hW => ⟨0, rfl, (if_neg (fun h => absurd h.1 (Int32.not_le.mpr c_1))).symm, ht⟩) (fun _ h => by cases h) dX3_isWithin_15
  · have h_b := True.intro
    refine lv_iload_n hx hb dX3_isWithin_5 rfl (lv_at hl 0 rfl) ?_
    refine lv_iload_n hx hb dX3_isWithin_6 rfl (lv_at hl 2 rfl) ?_
    refine lv_icmp_gt (tgt := 14) hx hb dX3_isWithin_7 (by decide) (fun c_2 => ?_) (fun c_2 => ?_)
    · have h_b := True.intro
      refine lv_iconst (v := 0) hx hb dX3_isWithin_14 (by decide) ?_
      exact W.zret (ty := .boolean) (v := 0) hx hb hr rfl (fun t ht hW => ⟨0, rfl, (if_neg (fun h => absurd h.2 (Int32.not_le.mpr c_2))).symm, ht⟩) (fun _ h => by cases h) dX3_isWithin_15
    · have h_b := True.intro
      refine lv_iconst (v := 1) hx hb dX3_isWithin_10 (by decide) ?_
      refine lv_goto (tgt := 15) hx hb dX3_isWithin_11 (by decide) ?_
      exact W.zret (ty := .boolean) (v := 1) hx hb hr rfl (fun t ht hW => ⟨1, rfl, (if_pos ⟨Int32.not_lt.mp c_1, Int32.not_lt.mp c_2⟩).symm, ht⟩) (fun _ h => by cases h) dX3_isWithin_15
set_option maxHeartbeats 4000000 in
set_option maxRecDepth 100000 in
/-- xOf -/
theorem c_xOf (l : Launch) (D : zG) (sz : Nat) (c1 : Nat) (hc : c1 < 240) : Met l yX3_xOf wsX3_xOf ({ frames := 0, cells := 0, slots := 0, locals := 0 }) (zPc D [] ([]) sz [.int (nI c1)]) (vp_Si (fun r => r = nI (c1 / 2 % 12))) 0 0 (fun _ => False) := by
  refine Met.ofW (cc := cX3_xOf) (maxL := 1) (ret := (some .int)) (by decide) rfl ?_
  intro p e s m args below meth c s₁ B hml hv
  obtain ⟨rfl, hsz, hP, hK, hD0⟩ := hv
  have hx := B.exec
  have hb := B.bytes
  have hr := B.returns
  have hts := atoms_spec (ws := wsX3_xOf) B.pre
  have hown : s.vm.findClass RX3 = some m.cls := findClass_of_methodNamed B.named
  have hlocks := B.notSynchronized
  subst hsz
  have hD := hD0
  generalize hAe : (fun _ : Nat => True) = A at hD
  have hl := lv_entry ([.int (nI c1)]) (n := 1) (Nat.le_of_ble_eq_true rfl)
  rw [lg_entry_eq]
  generalize (lg_sl ([.int (nI c1)]) ++ List.replicate (1 - (lg_sl ([.int (nI c1)])).length) Slot.unset).toArray = ls at hl ⊢
  have hl : lv_has ls 1 [(0, .int (nI c1))] := hl
  have hP : va_P D vwCl ([]) s.heap := hP
  generalize hRe : (headSpec _ _).room = R
  have hRf : R.frames = 0 := by rw [← hRe]; rfl
  have hRc : R.cells = 0 := by rw [← hRe]; rfl
  have hRs : R.slots = 0 := by rw [← hRe]; rfl
  have hRl : R.locals = 0 := by rw [← hRe]; rfl
  clear hRe
  refine lv_iload_n hx hb dX3_xOf_0 rfl (lv_at hl 0 rfl) ?_
  refine lv_iconst (v := 2) hx hb dX3_xOf_1 (by decide) ?_
  refine lv_idiv hx hb dX3_xOf_2 (by decide) ?_
  refine lv_topi (fun v_3 ev_3 => ?_)
  obtain rfl : v_3 = (nI (c1 / 2)) := ev_3.trans (pk_div (d := 2) (by omega) (by decide) (by decide))
  refine lv_bipush (v := 12) hx hb dX3_xOf_3 (by decide) ?_
  refine lv_irem hx hb dX3_xOf_5 (by decide) ?_
  refine lv_topi (fun v_4 ev_4 => ?_)
  obtain rfl : v_4 = (nI (c1 / 2 % 12)) := ev_4.trans (pk_rem (d := 12) (by omega) (by decide) (by decide))
  exact W.iret (v := (nI (c1 / 2 % 12))) hx hb hr (fun t ht hW => ⟨(nI (c1 / 2 % 12)), rfl, rfl, ht⟩) (fun _ h => by cases h) dX3_xOf_6
set_option maxHeartbeats 4000000 in
set_option maxRecDepth 100000 in
/-- yOf -/
theorem c_yOf (l : Launch) (D : zG) (sz : Nat) (c1 : Nat) (hc : c1 < 240) : Met l yX3_yOf wsX3_yOf ({ frames := 0, cells := 0, slots := 0, locals := 0 }) (zPc D [] ([]) sz [.int (nI c1)]) (vp_Si (fun r => r = nI (c1 / 2 / 12))) 0 0 (fun _ => False) := by
  refine Met.ofW (cc := cX3_yOf) (maxL := 1) (ret := (some .int)) (by decide) rfl ?_
  intro p e s m args below meth c s₁ B hml hv
  obtain ⟨rfl, hsz, hP, hK, hD0⟩ := hv
  have hx := B.exec
  have hb := B.bytes
  have hr := B.returns
  have hts := atoms_spec (ws := wsX3_yOf) B.pre
  have hown : s.vm.findClass RX3 = some m.cls := findClass_of_methodNamed B.named
  have hlocks := B.notSynchronized
  subst hsz
  have hD := hD0
  generalize hAe : (fun _ : Nat => True) = A at hD
  have hl := lv_entry ([.int (nI c1)]) (n := 1) (Nat.le_of_ble_eq_true rfl)
  rw [lg_entry_eq]
  generalize (lg_sl ([.int (nI c1)]) ++ List.replicate (1 - (lg_sl ([.int (nI c1)])).length) Slot.unset).toArray = ls at hl ⊢
  have hl : lv_has ls 1 [(0, .int (nI c1))] := hl
  have hP : va_P D vwCl ([]) s.heap := hP
  generalize hRe : (headSpec _ _).room = R
  have hRf : R.frames = 0 := by rw [← hRe]; rfl
  have hRc : R.cells = 0 := by rw [← hRe]; rfl
  have hRs : R.slots = 0 := by rw [← hRe]; rfl
  have hRl : R.locals = 0 := by rw [← hRe]; rfl
  clear hRe
  refine lv_iload_n hx hb dX3_yOf_0 rfl (lv_at hl 0 rfl) ?_
  refine lv_iconst (v := 2) hx hb dX3_yOf_1 (by decide) ?_
  refine lv_idiv hx hb dX3_yOf_2 (by decide) ?_
  refine lv_topi (fun v_5 ev_5 => ?_)
  obtain rfl : v_5 = (nI (c1 / 2)) := ev_5.trans (pk_div (d := 2) (by omega) (by decide) (by decide))
  refine lv_bipush (v := 12) hx hb dX3_yOf_3 (by decide) ?_
  refine lv_idiv hx hb dX3_yOf_5 (by decide) ?_
  refine lv_topi (fun v_6 ev_6 => ?_)
  obtain rfl : v_6 = (nI (c1 / 2 / 12)) := ev_6.trans (pk_div (d := 12) (by omega) (by decide) (by decide))
  exact W.iret (v := (nI (c1 / 2 / 12))) hx hb hr (fun t ht hW => ⟨(nI (c1 / 2 / 12)), rfl, rfl, ht⟩) (fun _ h => by cases h) dX3_yOf_6
set_option maxHeartbeats 4000000 in
set_option maxRecDepth 100000 in
/-- isTurnedIn -/
theorem c_isTurnedIn (l : Launch) (D : zG) (sz : Nat) (c1 : Nat) (hc : c1 < 240) : Met l yX3_isTurnedIn wsX3_isTurnedIn ({ frames := 0, cells := 0, slots := 0, locals := 0 }) (zPc D [] ([]) sz [.int (nI c1)]) (vp_Si (fun r => r = nI (c1 % 2))) 0 0 (fun _ => False) := by
  refine Met.ofW (cc := cX3_isTurnedIn) (maxL := 1) (ret := (some .boolean)) (by decide) rfl ?_
  intro p e s m args below meth c s₁ B hml hv
  obtain ⟨rfl, hsz, hP, hK, hD0⟩ := hv
  have hx := B.exec
  have hb := B.bytes
  have hr := B.returns
  have hts := atoms_spec (ws := wsX3_isTurnedIn) B.pre
  have hown : s.vm.findClass RX3 = some m.cls := findClass_of_methodNamed B.named
  have hlocks := B.notSynchronized
  subst hsz
  have hD := hD0
  generalize hAe : (fun _ : Nat => True) = A at hD
  have hl := lv_entry ([.int (nI c1)]) (n := 1) (Nat.le_of_ble_eq_true rfl)
  rw [lg_entry_eq]
  generalize (lg_sl ([.int (nI c1)]) ++ List.replicate (1 - (lg_sl ([.int (nI c1)])).length) Slot.unset).toArray = ls at hl ⊢
  have hl : lv_has ls 1 [(0, .int (nI c1))] := hl
  have hP : va_P D vwCl ([]) s.heap := hP
  generalize hRe : (headSpec _ _).room = R
  have hRf : R.frames = 0 := by rw [← hRe]; rfl
  have hRc : R.cells = 0 := by rw [← hRe]; rfl
  have hRs : R.slots = 0 := by rw [← hRe]; rfl
  have hRl : R.locals = 0 := by rw [← hRe]; rfl
  clear hRe
  refine lv_iload_n hx hb dX3_isTurnedIn_0 rfl (lv_at hl 0 rfl) ?_
  refine lv_iconst (v := 2) hx hb dX3_isTurnedIn_1 (by decide) ?_
  refine lv_irem hx hb dX3_isTurnedIn_2 (by decide) ?_
  refine lv_topi (fun v_7 ev_7 => ?_)
  obtain rfl : v_7 = (nI (c1 % 2)) := ev_7.trans (pk_rem (d := 2) (by omega) (by decide) (by decide))
  refine lv_iconst (v := 1) hx hb dX3_isTurnedIn_3 (by decide) ?_
  refine lv_icmp_ne (tgt := 11) hx hb dX3_isTurnedIn_4 (by decide) (fun c_8 => ?_) (fun c_8 => ?_)
  · have h_b := True.intro
    refine lv_iconst (v := 0) hx hb dX3_isTurnedIn_11 (by decide) ?_
    exact W.zret (ty := .boolean) (v := 0) hx hb hr rfl (fun t ht hW => ⟨0, rfl, by rcases Nat.mod_two_eq_zero_or_one c1 with h | h <;> rw [h] at c_8 ⊢ <;> first | rfl | exact absurd rfl c_8, ht⟩) (fun _ h => by cases h) dX3_isTurnedIn_12
  · have h_b := True.intro
    refine lv_iconst (v := 1) hx hb dX3_isTurnedIn_7 (by decide) ?_
    refine lv_goto (tgt := 12) hx hb dX3_isTurnedIn_8 (by decide) ?_
    exact W.zret (ty := .boolean) (v := 1) hx hb hr rfl (fun t ht hW => ⟨1, rfl, by rcases Nat.mod_two_eq_zero_or_one c1 with h | h <;> rw [h] at c_8 ⊢ <;> first | rfl | exact absurd c_8 (by decide), ht⟩) (fun _ h => by cases h) dX3_isTurnedIn_12
