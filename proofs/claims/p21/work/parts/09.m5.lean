set_option maxHeartbeats 4000000 in
set_option maxRecDepth 100000 in
theorem c_isIn (l : Launch) (D : zG) (sz : Nat) (a b c1 : Int32) : Met l yX4_isIn wsX4_isIn ({ frames := 0, cells := 0, slots := 0, locals := 0 }) (zPc D [] ([]) sz [.int a, .int b, .int c1]) (vp_Si (fun r => r = if b ≤ a ∧ a ≤ c1 then 1 else 0)) 0 0 (fun _ => False) := by
  refine Met.ofW (cc := cX4_isIn) (maxL := 3) (ret := (some .boolean)) (by decide) rfl ?_
  intro p e s m args below meth c s₁ B hml hv
  obtain ⟨rfl, hsz, hP, hK, hD0⟩ := hv
  have hx := B.exec
  have hb := B.bytes
  have hr := B.returns
  have hts := atoms_spec (ws := wsX4_isIn) B.pre
  have hown : s.vm.findClass RX4 = some m.cls := findClass_of_methodNamed B.named
  have hlocks := B.notSynchronized
  subst hsz
  have hD := hD0
  generalize hAe : (fun _ : Nat => True) = A at hD
  have hl := lv_entry ([.int a, .int b, .int c1]) (n := 3) (Nat.le_of_ble_eq_true rfl)
  rw [lg_entry_eq]
  generalize (lg_sl ([.int a, .int b, .int c1]) ++ List.replicate (3 - (lg_sl ([.int a, .int b, .int c1])).length) Slot.unset).toArray = ls at hl ⊢
  have hl : lv_has ls 3 [(0, .int a), (1, .int b), (2, .int c1)] := hl
  have hP : va_P D vwCl ([]) s.heap := hP
  generalize hRe : (headSpec _ _).room = R
  have hRf : R.frames = 0 := by rw [← hRe]; rfl
  have hRc : R.cells = 0 := by rw [← hRe]; rfl
  have hRs : R.slots = 0 := by rw [← hRe]; rfl
  have hRl : R.locals = 0 := by rw [← hRe]; rfl
  clear hRe
  refine lv_iload_n hx hb dX4_isIn_0 rfl (lv_at hl 0 rfl) ?_
  refine lv_iload_n hx hb dX4_isIn_1 rfl (lv_at hl 1 rfl) ?_
  refine lv_icmp_lt (tgt := 14) hx hb dX4_isIn_2 (by decide) (fun c_190 => ?_) (fun c_190 => ?_)
  · have h_b := True.intro
    refine lv_iconst (v := 0) hx hb dX4_isIn_14 (by decide) ?_
    exact W.zret (ty := .boolean) (v := 0) hx hb hr rfl (fun t ht hW => ⟨0, rfl, (if_neg (fun h => absurd h.1 (Int32.not_le.mpr c_190))).symm, ht⟩) (fun _ h => by cases h) dX4_isIn_15
  · have h_b := True.intro
    refine lv_iload_n hx hb dX4_isIn_5 rfl (lv_at hl 0 rfl) ?_
    refine lv_iload_n hx hb dX4_isIn_6 rfl (lv_at hl 2 rfl) ?_
    refine lv_icmp_gt (tgt := 14) hx hb dX4_isIn_7 (by decide) (fun c_191 => ?_) (fun c_191 => ?_)
    · have h_b := True.intro
      refine lv_iconst (v := 0) hx hb dX4_isIn_14 (by decide) ?_
      exact W.zret (ty := .boolean) (v := 0) hx hb hr rfl (fun t ht hW => ⟨0, rfl, (if_neg (fun h => absurd h.2 (Int32.not_le.mpr c_191))).symm, ht⟩) (fun _ h => by cases h) dX4_isIn_15
    · have h_b := True.intro
      refine lv_iconst (v := 1) hx hb dX4_isIn_10 (by decide) ?_
      refine lv_goto (tgt := 15) hx hb dX4_isIn_11 (by decide) ?_
      exact W.zret (ty := .boolean) (v := 1) hx hb hr rfl (fun t ht hW => ⟨1, rfl, (if_pos ⟨Int32.not_lt.mp c_190, Int32.not_lt.mp c_191⟩).symm, ht⟩) (fun _ h => by cases h) dX4_isIn_15
set_option maxHeartbeats 4000000 in
set_option maxRecDepth 100000 in
theorem c_canTurn (l : Launch) (D : zG) (sz : Nat)  : Met l yX4_canTurn wsX4_canTurn ({ frames := 0, cells := 0, slots := 0, locals := 0 }) (zPc D [] ([]) sz [.int 1]) (vp_Si (fun r => r = 1)) 0 0 (fun _ => False) := by
  refine Met.ofW (cc := cX4_canTurn) (maxL := 1) (ret := (some .boolean)) (by decide) rfl ?_
  intro p e s m args below meth c s₁ B hml hv
  obtain ⟨rfl, hsz, hP, hK, hD0⟩ := hv
  have hx := B.exec
  have hb := B.bytes
  have hr := B.returns
  have hts := atoms_spec (ws := wsX4_canTurn) B.pre
  have hown : s.vm.findClass RX4 = some m.cls := findClass_of_methodNamed B.named
  have hlocks := B.notSynchronized
  subst hsz
  have hD := hD0
  generalize hAe : (fun _ : Nat => True) = A at hD
  have hl := lv_entry ([.int 1]) (n := 1) (Nat.le_of_ble_eq_true rfl)
  rw [lg_entry_eq]
  generalize (lg_sl ([.int 1]) ++ List.replicate (1 - (lg_sl ([.int 1])).length) Slot.unset).toArray = ls at hl ⊢
  have hl : lv_has ls 1 [(0, .int 1)] := hl
  have hP : va_P D vwCl ([]) s.heap := hP
  generalize hRe : (headSpec _ _).room = R
  have hRf : R.frames = 0 := by rw [← hRe]; rfl
  have hRc : R.cells = 0 := by rw [← hRe]; rfl
  have hRs : R.slots = 0 := by rw [← hRe]; rfl
  have hRl : R.locals = 0 := by rw [← hRe]; rfl
  clear hRe
  refine lv_iload_n hx hb dX4_canTurn_0 rfl (lv_at hl 0 rfl) ?_
  refine lv_iconst (v := 2) hx hb dX4_canTurn_1 (by decide) ?_
  refine lv_irem hx hb dX4_canTurn_2 (by decide) ?_
  refine lv_topi (fun v_192 ev_192 => ?_)
  obtain rfl : v_192 = 1 := ev_192.trans (by decide)
  refine lv_iconst (v := 1) hx hb dX4_canTurn_3 (by decide) ?_
  refine lv_icmp_ne (tgt := 11) hx hb dX4_canTurn_4 (by decide) (fun c_193 => absurd (rfl) c_193) (fun c_193 => ?_)
  refine lv_iconst (v := 1) hx hb dX4_canTurn_7 (by decide) ?_
  refine lv_goto (tgt := 12) hx hb dX4_canTurn_8 (by decide) ?_
  exact W.zret (ty := .boolean) (v := 1) hx hb hr rfl (fun t ht hW => ⟨1, rfl, rfl, ht⟩) (fun _ h => by cases h) dX4_canTurn_12
set_option maxHeartbeats 4000000 in
set_option maxRecDepth 100000 in
theorem c_needsDeck (l : Launch) (D : zG) (sz : Nat)  : Met l yX4_needsDeck wsX4_needsDeck ({ frames := 0, cells := 0, slots := 0, locals := 0 }) (zPc D [] ([]) sz [.int 1]) (vp_Si (fun r => r = 0)) 0 0 (fun _ => False) := by
  refine Met.ofW (cc := cX4_needsDeck) (maxL := 1) (ret := (some .boolean)) (by decide) rfl ?_
  intro p e s m args below meth c s₁ B hml hv
  obtain ⟨rfl, hsz, hP, hK, hD0⟩ := hv
  have hx := B.exec
  have hb := B.bytes
  have hr := B.returns
  have hts := atoms_spec (ws := wsX4_needsDeck) B.pre
  have hown : s.vm.findClass RX4 = some m.cls := findClass_of_methodNamed B.named
  have hlocks := B.notSynchronized
  subst hsz
  have hD := hD0
  generalize hAe : (fun _ : Nat => True) = A at hD
  have hl := lv_entry ([.int 1]) (n := 1) (Nat.le_of_ble_eq_true rfl)
  rw [lg_entry_eq]
  generalize (lg_sl ([.int 1]) ++ List.replicate (1 - (lg_sl ([.int 1])).length) Slot.unset).toArray = ls at hl ⊢
  have hl : lv_has ls 1 [(0, .int 1)] := hl
  have hP : va_P D vwCl ([]) s.heap := hP
  generalize hRe : (headSpec _ _).room = R
  have hRf : R.frames = 0 := by rw [← hRe]; rfl
  have hRc : R.cells = 0 := by rw [← hRe]; rfl
  have hRs : R.slots = 0 := by rw [← hRe]; rfl
  have hRl : R.locals = 0 := by rw [← hRe]; rfl
  clear hRe
  refine lv_iload_n hx hb dX4_needsDeck_0 rfl (lv_at hl 0 rfl) ?_
  refine lv_iconst (v := 1) hx hb dX4_needsDeck_1 (by decide) ?_
  refine lv_icmp_le (tgt := 9) hx hb dX4_needsDeck_2 (by decide) (fun c_194 => ?_) (fun c_194 => absurd (by decide) c_194)
  refine lv_iconst (v := 0) hx hb dX4_needsDeck_9 (by decide) ?_
  exact W.zret (ty := .boolean) (v := 0) hx hb hr rfl (fun t ht hW => ⟨0, rfl, rfl, ht⟩) (fun _ h => by cases h) dX4_needsDeck_10
set_option maxHeartbeats 4000000 in
set_option maxRecDepth 100000 in
theorem c_kind (l : Launch) (D : zG) (sz : Nat) (mo kT tb ld lK lC n : Nat) (e1 : ClassId) (g : Nat → Int32) (v : Int32) (k : Nat) (hv : v = nI k) (hk : k < 6) : Met l yX4_kind wsX4_kind ({ frames := 0, cells := 0, slots := 0, locals := 0 }) (zPc D [(e1, .int)] ([(mo, .inr (4, [.int 0, .int 1, .ref kT, .int 1, .int 0, .int 1, .int 0, .int 0, .ref tb, .ref ld, .int (nI n), .ref lK, .ref lC, .int 0])), (kT, .inl (e1, 60, .inl (g)))]) sz [.ref mo, .int 0, .int v]) (vp_Si (fun r => r = g k)) 0 0 (fun _ => False) := by
  refine Met.ofW (cc := cX4_kind) (maxL := 3) (ret := (some .int)) (by decide) rfl ?_
  intro p e s m args below meth c s₁ B hml hv
  obtain ⟨rfl, hsz, hP, hK, hD0⟩ := hv
  have hx := B.exec
  have hb := B.bytes
  have hr := B.returns
  have hts := atoms_spec (ws := wsX4_kind) B.pre
  have hown : s.vm.findClass RX4 = some m.cls := findClass_of_methodNamed B.named
  have hlocks := B.notSynchronized
  subst hsz
  have hD := hD0
  generalize hAe : (fun _ : Nat => True) = A at hD
  have hl := lv_entry ([.ref mo, .int 0, .int v]) (n := 3) (Nat.le_of_ble_eq_true rfl)
  rw [lg_entry_eq]
  generalize (lg_sl ([.ref mo, .int 0, .int v]) ++ List.replicate (3 - (lg_sl ([.ref mo, .int 0, .int v])).length) Slot.unset).toArray = ls at hl ⊢
  have hl : lv_has ls 3 [(0, .ref mo), (1, .int 0), (2, .int v)] := hl
  have hP : va_P D vwCl ([(mo, .inr (4, [.int 0, .int 1, .ref kT, .int 1, .int 0, .int 1, .int 0, .int 0, .ref tb, .ref ld, .int (nI n), .ref lK, .ref lC, .int 0])), (kT, .inl (e1, 60, .inl (g)))]) s.heap := hP
  generalize hRe : (headSpec _ _).room = R
  have hRf : R.frames = 0 := by rw [← hRe]; rfl
  have hRc : R.cells = 0 := by rw [← hRe]; rfl
  have hRs : R.slots = 0 := by rw [← hRe]; rfl
  have hRl : R.locals = 0 := by rw [← hRe]; rfl
  clear hRe
  subst hv
  refine lv_aload_n hx hb dX4_kind_0 rfl (lv_at hl 0 rfl) ?_
  refine va_get (D := D) (ci := 4) (v := .ref kT) (C := RX4) (T := TX4) (N := 14) hx hb hts (fun _ h9 => List.mem_cons_of_mem _ (List.mem_append_right _ h9)) hown hK hP 0 rfl rfl 2 (by decide) (hts (.fieldLink RX4 9 "PalletStackModel" "kindTable" "[I") (List.mem_of_getElem? (i := 1) (by rfl))) (fun _ h9 => h9) rfl dX4_kind_1 ?_
  refine lv_bipush (v := 6) hx hb dX4_kind_4 (by decide) ?_
  refine lv_iload_n hx hb dX4_kind_6 rfl (lv_at hl 1 rfl) ?_
  refine lv_imul hx hb dX4_kind_7 ?_
  refine lv_topi (fun v_195 ev_195 => ?_)
  obtain rfl : v_195 = 0 := ev_195.trans (by decide)
  refine lv_iload_n hx hb dX4_kind_8 rfl (lv_at hl 2 rfl) ?_
  refine lv_iadd hx hb dX4_kind_9 ?_
  refine lv_topi (fun v_196 ev_196 => ?_)
  obtain rfl : v_196 = (nI k) := ev_196.trans (Int32.zero_add _)
  refine va_iald hx hb hK hP 1 0 rfl rfl (vp_in_nI (N := 60) (by omega) (by decide)) dX4_kind_10 ?_
  refine lv_topi (fun v_197 ev_197 => ?_)
  obtain rfl : v_197 = (g k) := ev_197.trans (by rw [nI_clamp (by omega)])
  exact W.iret (v := (g k)) hx hb hr (fun t ht hW => ⟨(g k), rfl, rfl, ht⟩) (fun _ h => by cases h) dX4_kind_11
set_option maxHeartbeats 4000000 in
set_option maxRecDepth 100000 in
theorem c_get (l : Launch) (D : zG) (sz : Nat) (mo kT tb ld lK lC n : Nat) (e2 : ClassId) (tf : Nat → Int32) (v : Int32) (k : Nat) (hv : v = nI k) (hk : k < 6) : Met l yX4_get wsX4_get ({ frames := 0, cells := 0, slots := 0, locals := 0 }) (zPc D [(e2, .int)] ([(mo, .inr (4, [.int 0, .int 1, .ref kT, .int 1, .int 0, .int 1, .int 0, .int 0, .ref tb, .ref ld, .int (nI n), .ref lK, .ref lC, .int 0])), (tb, .inl (e2, 366, .inl (tf)))]) sz [.ref mo, .int 60, .int v]) (vp_Si (fun r => r = tf (360 + k))) 0 0 (fun _ => False) := by
  refine Met.ofW (cc := cX4_get) (maxL := 3) (ret := (some .int)) (by decide) rfl ?_
  intro p e s m args below meth c s₁ B hml hv
  obtain ⟨rfl, hsz, hP, hK, hD0⟩ := hv
  have hx := B.exec
  have hb := B.bytes
  have hr := B.returns
  have hts := atoms_spec (ws := wsX4_get) B.pre
  have hown : s.vm.findClass RX4 = some m.cls := findClass_of_methodNamed B.named
  have hlocks := B.notSynchronized
  subst hsz
  have hD := hD0
  generalize hAe : (fun _ : Nat => True) = A at hD
  have hl := lv_entry ([.ref mo, .int 60, .int v]) (n := 3) (Nat.le_of_ble_eq_true rfl)
  rw [lg_entry_eq]
  generalize (lg_sl ([.ref mo, .int 60, .int v]) ++ List.replicate (3 - (lg_sl ([.ref mo, .int 60, .int v])).length) Slot.unset).toArray = ls at hl ⊢
  have hl : lv_has ls 3 [(0, .ref mo), (1, .int 60), (2, .int v)] := hl
  have hP : va_P D vwCl ([(mo, .inr (4, [.int 0, .int 1, .ref kT, .int 1, .int 0, .int 1, .int 0, .int 0, .ref tb, .ref ld, .int (nI n), .ref lK, .ref lC, .int 0])), (tb, .inl (e2, 366, .inl (tf)))]) s.heap := hP
  generalize hRe : (headSpec _ _).room = R
  have hRf : R.frames = 0 := by rw [← hRe]; rfl
  have hRc : R.cells = 0 := by rw [← hRe]; rfl
  have hRs : R.slots = 0 := by rw [← hRe]; rfl
  have hRl : R.locals = 0 := by rw [← hRe]; rfl
  clear hRe
  subst hv
  refine lv_aload_n hx hb dX4_get_0 rfl (lv_at hl 0 rfl) ?_
  refine va_get (D := D) (ci := 4) (v := .ref tb) (C := RX4) (T := TX4) (N := 14) hx hb hts (fun _ h9 => List.mem_cons_of_mem _ (List.mem_append_right _ h9)) hown hK hP 0 rfl rfl 8 (by decide) (hts (.fieldLink RX4 23 "PalletStackModel" "table" "[I") (List.mem_of_getElem? (i := 1) (by rfl))) (fun _ h9 => h9) rfl dX4_get_1 ?_
  refine lv_bipush (v := 6) hx hb dX4_get_4 (by decide) ?_
  refine lv_iload_n hx hb dX4_get_6 rfl (lv_at hl 1 rfl) ?_
  refine lv_imul hx hb dX4_get_7 ?_
  refine lv_topi (fun v_198 ev_198 => ?_)
  obtain rfl : v_198 = (nI 360) := ev_198.trans (by decide)
  refine lv_iload_n hx hb dX4_get_8 rfl (lv_at hl 2 rfl) ?_
  refine lv_iadd hx hb dX4_get_9 ?_
  refine lv_topi (fun v_199 ev_199 => ?_)
  obtain rfl : v_199 = (nI (360 + k)) := ev_199.trans (nI_add _ _)
  refine va_iald hx hb hK hP 1 0 rfl rfl (vp_in_nI (N := 366) (by omega) (by decide)) dX4_get_10 ?_
  refine lv_topi (fun v_200 ev_200 => ?_)
  obtain rfl : v_200 = (tf (360 + k)) := ev_200.trans (by rw [nI_clamp (by omega)])
  exact W.iret (v := (tf (360 + k))) hx hb hr (fun t ht hW => ⟨(tf (360 + k)), rfl, rfl, ht⟩) (fun _ h => by cases h) dX4_get_11
set_option maxHeartbeats 4000000 in
set_option maxRecDepth 100000 in
theorem c_topOfM (l : Launch) (D : zG) (sz : Nat) (mo kT tb ld lK lC n : Nat) (e1 e2 : ClassId) (g : Nat → Int32) (hg : g 0 = 1 ∧ g 1 = 1 ∧ g 2 = 2 ∧ g 3 = 1 ∧ g 4 = 0 ∧ g 5 = 1) (tf : Nat → Int32) (h0 : tf 360 = 0) (h3 : tf 363 = 0) : Met l yX4_topOf wsX4_topOf ({ frames := 1, cells := 0, slots := 0, locals := 22 }) (zPc D [(e1, .int), (e2, .int)] ([(mo, .inr (4, [.int 0, .int 1, .ref kT, .int 1, .int 0, .int 1, .int 0, .int 0, .ref tb, .ref ld, .int (nI n), .ref lK, .ref lC, .int 0])), (kT, .inl (e1, 60, .inl (g))), (tb, .inl (e2, 366, .inl (tf)))]) sz [.ref mo, .int 60]) (vp_Si (fun r => r = 2)) 0 0 (fun _ => False) := by
  refine Met.ofW (cc := cX4_topOf) (maxL := 2) (ret := (some .int)) (by decide) rfl ?_
  intro p e s m args below meth c s₁ B hml hv
  obtain ⟨rfl, hsz, hP, hK, hD0⟩ := hv
  have hx := B.exec
  have hb := B.bytes
  have hr := B.returns
  have hts := atoms_spec (ws := wsX4_topOf) B.pre
  have hown : s.vm.findClass RX4 = some m.cls := findClass_of_methodNamed B.named
  have hlocks := B.notSynchronized
  subst hsz
  have hD := hD0
  generalize hAe : (fun _ : Nat => True) = A at hD
  have hl := lv_entry ([.ref mo, .int 60]) (n := 2) (Nat.le_of_ble_eq_true rfl)
  rw [lg_entry_eq]
  generalize (lg_sl ([.ref mo, .int 60]) ++ List.replicate (2 - (lg_sl ([.ref mo, .int 60])).length) Slot.unset).toArray = ls at hl ⊢
  have hl : lv_has ls 2 [(0, .ref mo), (1, .int 60)] := hl
  have hP : va_P D vwCl ([(mo, .inr (4, [.int 0, .int 1, .ref kT, .int 1, .int 0, .int 1, .int 0, .int 0, .ref tb, .ref ld, .int (nI n), .ref lK, .ref lC, .int 0])), (kT, .inl (e1, 60, .inl (g))), (tb, .inl (e2, 366, .inl (tf)))]) s.heap := hP
  generalize hRe : (headSpec _ _).room = R
  have hRf : R.frames = 1 := by rw [← hRe]; rfl
  have hRc : R.cells = 0 := by rw [← hRe]; rfl
  have hRs : R.slots = 0 := by rw [← hRe]; rfl
  have hRl : R.locals = 22 := by rw [← hRe]; rfl
  clear hRe
  refine lv_aload_n hx hb dX4_topOf_0 rfl (lv_at hl 0 rfl) ?_
  refine lv_iload_n hx hb dX4_topOf_1 rfl (lv_at hl 1 rfl) ?_
  refine lv_iconst (v := 3) hx hb dX4_topOf_2 (by decide) ?_
  refine zrdV (As := [.int 60, .int 3]) (rest := []) (wc := [(mo, .inr (4, [.int 0, .int 1, .ref kT, .int 1, .int 0, .int 1, .int 0, .int 0, .ref tb, .ref ld, .int (nI n), .ref lK, .ref lC, .int 0])), (tb, .inl (e2, 366, .inl (tf)))]) ⟨hx, hb, hml, hown, hts⟩ (c_get l D _ mo kT tb ld lK lC n e2 tf 3 3 rfl (by decide)) (cwV 2 hts gX4_topOf_X4_get rfl rfl rfl (by decide +kernel) ⟨by rw [hRf]; exact Nat.le_of_ble_eq_true rfl, by rw [hRl]; exact Nat.le_of_ble_eq_true rfl⟩) hK hP hD [0, 2] rfl (by decide) [1] rfl (ci := 4) (q0 := 0) rfl rfl rfl hl.1 rfl (Nat.le_of_ble_eq_true rfl) dX4_topOf_3 ⟨by omega, by omega⟩ (fun r_201 hr_201 => ?_)
  refine lv_topi (fun v_202 ev_202 => ?_)
  obtain rfl : v_202 = 0 := ev_202.trans (hr_201.trans h3)
  refine lv_aload_n hx hb dX4_topOf_6 rfl (lv_at hl 0 rfl) ?_
  refine lv_aload_n hx hb dX4_topOf_7 rfl (lv_at hl 0 rfl) ?_
  refine lv_iload_n hx hb dX4_topOf_8 rfl (lv_at hl 1 rfl) ?_
  refine lv_iconst (v := 0) hx hb dX4_topOf_9 (by decide) ?_
  refine zrdV (As := [.int 60, .int 0]) (rest := [.ref mo, .int 0]) (wc := [(mo, .inr (4, [.int 0, .int 1, .ref kT, .int 1, .int 0, .int 1, .int 0, .int 0, .ref tb, .ref ld, .int (nI n), .ref lK, .ref lC, .int 0])), (tb, .inl (e2, 366, .inl (tf)))]) ⟨hx, hb, hml, hown, hts⟩ (c_get l D _ mo kT tb ld lK lC n e2 tf 0 0 rfl (by decide)) (cwV 2 hts gX4_topOf_X4_get rfl rfl rfl (by decide +kernel) ⟨by rw [hRf]; exact Nat.le_of_ble_eq_true rfl, by rw [hRl]; exact Nat.le_of_ble_eq_true rfl⟩) hK hP hD [0, 2] rfl (by decide) [1] rfl (ci := 4) (q0 := 0) rfl rfl rfl hl.1 rfl (Nat.le_of_ble_eq_true rfl) dX4_topOf_10 ⟨by omega, by omega⟩ (fun r_203 hr_203 => ?_)
  refine lv_topi (fun v_204 ev_204 => ?_)
  obtain rfl : v_204 = 0 := ev_204.trans (hr_203.trans h0)
  refine lv_iconst (v := 2) hx hb dX4_topOf_13 (by decide) ?_
  refine zrdV (As := [.int 0, .int 2]) (rest := [.int 0]) (wc := [(mo, .inr (4, [.int 0, .int 1, .ref kT, .int 1, .int 0, .int 1, .int 0, .int 0, .ref tb, .ref ld, .int (nI n), .ref lK, .ref lC, .int 0])), (kT, .inl (e1, 60, .inl (g)))]) ⟨hx, hb, hml, hown, hts⟩ (c_kind l D _ mo kT tb ld lK lC n e1 g 2 2 rfl (by decide)) (cwV 2 hts gX4_topOf_X4_kind rfl rfl rfl (by decide +kernel) ⟨by rw [hRf]; exact Nat.le_of_ble_eq_true rfl, by rw [hRl]; exact Nat.le_of_ble_eq_true rfl⟩) hK hP hD [0, 1] rfl (by decide) [0] rfl (ci := 4) (q0 := 0) rfl rfl rfl hl.1 rfl (Nat.le_of_ble_eq_true rfl) dX4_topOf_14 ⟨by omega, by omega⟩ (fun r_205 hr_205 => ?_)
  refine lv_topi (fun v_206 ev_206 => ?_)
  obtain rfl : v_206 = 2 := ev_206.trans (hr_205.trans hg.2.2.1)
  refine lv_iadd hx hb dX4_topOf_17 ?_
  refine lv_topi (fun v_207 ev_207 => ?_)
  obtain rfl : v_207 = 2 := ev_207.trans (by decide)
  exact W.iret (v := 2) hx hb hr (fun t ht hW => ⟨2, rfl, rfl, ht⟩) (fun _ h => by cases h) dX4_topOf_18
set_option maxHeartbeats 4000000 in
set_option maxRecDepth 100000 in
theorem c_lay_0 (l : Launch) (D : zG) (sz : Nat) (mo kT tb ld lK lC n : Nat) (e2 : ClassId) (tf : Nat → Int32) (a b : Nat) : Met l yX4_lay wsX4_lay ({ frames := 1, cells := 1, slots := 6, locals := 20 }) (zPc D [(e2, .int)] ([(mo, .inr (4, [.int 0, .int 1, .ref kT, .int 1, .int 0, .int 1, .int 0, .int 0, .ref tb, .ref ld, .int (nI n), .ref lK, .ref lC, .int 0])), (tb, .inl (e2, 366, .inl (tf)))]) sz [.ref mo, .int 60, .int 0, .int (nI a), .int (nI b), .int 0]) (va_Qv (fun (u : Nat → Int32) => u 360 = 0 ∧ u 363 = 0) (zB D (va_A ([(mo, .inr (4, [.int 0, .int 1, .ref kT, .int 1, .int 0, .int 1, .int 0, .int 0, .ref tb, .ref ld, .int (nI n), .ref lK, .ref lC, .int 0])), (tb, .inl (e2, 366, .inl (tf)))]) sz) (fun _ => []) (sz + 1) (fun u => [(mo, .inr (4, [.int 0, .int 1, .ref kT, .int 1, .int 0, .int 1, .int 0, .int 0, .ref tb, .ref ld, .int (nI n), .ref lK, .ref lC, .int 0])), (tb, .inl (e2, 366, .inl (u)))])) (va_A ([(mo, .inr (4, [.int 0, .int 1, .ref kT, .int 1, .int 0, .int 1, .int 0, .int 0, .ref tb, .ref ld, .int (nI n), .ref lK, .ref lC, .int 0])), (tb, .inl (e2, 366, .inl (tf)))]) sz)) 1 6 (va_A ([(mo, .inr (4, [.int 0, .int 1, .ref kT, .int 1, .int 0, .int 1, .int 0, .int 0, .ref tb, .ref ld, .int (nI n), .ref lK, .ref lC, .int 0])), (tb, .inl (e2, 366, .inl (tf)))]) sz) := by
  refine Met.ofW (cc := cX4_lay) (maxL := 9) (ret := none) (by decide) rfl ?_
  intro p e s m args below meth c s₁ B hml hv
  obtain ⟨rfl, hsz, hP, hK, hD0⟩ := hv
  have hx := B.exec
  have hb := B.bytes
  have hr := B.returns
  have hts := atoms_spec (ws := wsX4_lay) B.pre
  have hown : s.vm.findClass RX4 = some m.cls := findClass_of_methodNamed B.named
  have hlocks := B.notSynchronized
  subst hsz
  have hD := hD0.self (sz := s.heap.size)
  generalize hAe : va_A ([(mo, .inr (4, [.int 0, .int 1, .ref kT, .int 1, .int 0, .int 1, .int 0, .int 0, .ref tb, .ref ld, .int (nI n), .ref lK, .ref lC, .int 0])), (tb, .inl (e2, 366, .inl (tf)))]) s.heap.size = A at hD ⊢
  have hA : ∀ q : Nat, s.heap.size ≤ q → A q := fun q h => by rw [← hAe]; exact Or.inr h
  have hS : va_S A s.heap s.heap [] := va_S.rf
  have hl := lv_entry ([.ref mo, .int 60, .int 0, .int (nI a), .int (nI b), .int 0]) (n := 9) (Nat.le_of_ble_eq_true rfl)
  rw [lg_entry_eq]
  generalize (lg_sl ([.ref mo, .int 60, .int 0, .int (nI a), .int (nI b), .int 0]) ++ List.replicate (9 - (lg_sl ([.ref mo, .int 60, .int 0, .int (nI a), .int (nI b), .int 0])).length) Slot.unset).toArray = ls at hl ⊢
  have hl : lv_has ls 9 [(0, .ref mo), (1, .int 60), (2, .int 0), (3, .int (nI a)), (4, .int (nI b)), (5, .int 0)] := hl
  have hP : va_P D vwCl ([(mo, .inr (4, [.int 0, .int 1, .ref kT, .int 1, .int 0, .int 1, .int 0, .int 0, .ref tb, .ref ld, .int (nI n), .ref lK, .ref lC, .int 0])), (tb, .inl (e2, 366, .inl (tf)))]) s.heap := hP
  generalize hRe : (headSpec _ _).room = R
  have hRf : R.frames = 1 := by rw [← hRe]; rfl
  have hRc : R.cells = 1 := by rw [← hRe]; rfl
  have hRs : R.slots = 6 := by rw [← hRe]; rfl
  have hRl : R.locals = 20 := by rw [← hRe]; rfl
  clear hRe
  refine lv_bipush (v := 6) hx hb dX4_lay_0 (by decide) ?_
  refine znewa (atype := .int) (ty := .int) (N' := 6) (a0 := (6, .inl (fun _ => 0))) hx hb (hts (.arrayClass .int) (List.mem_of_getElem? (i := 1) (by rfl))) rfl hK hP hD hS hA (fun _ => rfl) (by decide) rfl (Nat.le_of_ble_eq_true rfl) (by omega) (by omega) dX4_lay_2 (fun q_208 cy_209 H hz_210 hK hP hD hS => ?_)
  have hP : va_P D vwCl ([(mo, .inr (4, [.int 0, .int 1, .ref kT, .int 1, .int 0, .int 1, .int 0, .int 0, .ref tb, .ref ld, .int (nI n), .ref lK, .ref lC, .int 0])), (tb, .inl (e2, 366, .inl (tf))), (q_208, .inl (cy_209, 6, .inl (fun _ => 0)))]) H := hP
  have hD : va_D A ([(mo, .inr (4, [.int 0, .int 1, .ref kT, .int 1, .int 0, .int 1, .int 0, .int 0, .ref tb, .ref ld, .int (nI n), .ref lK, .ref lC, .int 0])), (tb, .inl (e2, 366, .inl (tf))), (q_208, .inl (cy_209, 6, .inl (fun _ => 0)))]) := hD
  have hS0 := hS
  have hS := hS.re
  refine lv_dup hx hb dX4_lay_4 rfl ?_
  refine lv_iconst (v := 0) hx hb dX4_lay_5 (by decide) ?_
  refine lv_iload_n hx hb dX4_lay_6 rfl (lv_at hl 2 rfl) ?_
  refine va_iast hx hb hK hP hD hS 2 1 rfl rfl (vp_in_nI (n := 0) (N := 6) (by decide) (by decide)) dX4_lay_7 (fun H locs hP hD hS => ?_)
  have hP : va_P D vwCl ([(mo, .inr (4, [.int 0, .int 1, .ref kT, .int 1, .int 0, .int 1, .int 0, .int 0, .ref tb, .ref ld, .int (nI n), .ref lK, .ref lC, .int 0])), (tb, .inl (e2, 366, .inl (tf))), (q_208, .inl (cy_209, 6, .inl (upd (fun _ => 0) 0 0)))]) H := hP
  have hD : va_D A ([(mo, .inr (4, [.int 0, .int 1, .ref kT, .int 1, .int 0, .int 1, .int 0, .int 0, .ref tb, .ref ld, .int (nI n), .ref lK, .ref lC, .int 0])), (tb, .inl (e2, 366, .inl (tf))), (q_208, .inl (cy_209, 6, .inl (upd (fun _ => 0) 0 0)))]) := hD
  refine lv_dup hx hb dX4_lay_8 rfl ?_
  refine lv_iconst (v := 1) hx hb dX4_lay_9 (by decide) ?_
  refine lv_iload_n hx hb dX4_lay_10 rfl (lv_at hl 3 rfl) ?_
  refine va_iast hx hb hK hP hD hS 2 1 rfl rfl (vp_in_nI (n := 1) (N := 6) (by decide) (by decide)) dX4_lay_11 (fun H locs hP hD hS => ?_)
  have hP : va_P D vwCl ([(mo, .inr (4, [.int 0, .int 1, .ref kT, .int 1, .int 0, .int 1, .int 0, .int 0, .ref tb, .ref ld, .int (nI n), .ref lK, .ref lC, .int 0])), (tb, .inl (e2, 366, .inl (tf))), (q_208, .inl (cy_209, 6, .inl (upd (upd (fun _ => 0) 0 0) 1 (nI a))))]) H := hP
  have hD : va_D A ([(mo, .inr (4, [.int 0, .int 1, .ref kT, .int 1, .int 0, .int 1, .int 0, .int 0, .ref tb, .ref ld, .int (nI n), .ref lK, .ref lC, .int 0])), (tb, .inl (e2, 366, .inl (tf))), (q_208, .inl (cy_209, 6, .inl (upd (upd (fun _ => 0) 0 0) 1 (nI a))))]) := hD
  refine lv_dup hx hb dX4_lay_12 rfl ?_
  refine lv_iconst (v := 2) hx hb dX4_lay_13 (by decide) ?_
  refine lv_iload hx hb dX4_lay_14 (lv_at hl 4 rfl) ?_
  refine va_iast hx hb hK hP hD hS 2 1 rfl rfl (vp_in_nI (n := 2) (N := 6) (by decide) (by decide)) dX4_lay_16 (fun H locs hP hD hS => ?_)
  have hP : va_P D vwCl ([(mo, .inr (4, [.int 0, .int 1, .ref kT, .int 1, .int 0, .int 1, .int 0, .int 0, .ref tb, .ref ld, .int (nI n), .ref lK, .ref lC, .int 0])), (tb, .inl (e2, 366, .inl (tf))), (q_208, .inl (cy_209, 6, .inl (upd (upd (upd (fun _ => 0) 0 0) 1 (nI a)) 2 (nI b))))]) H := hP
  have hD : va_D A ([(mo, .inr (4, [.int 0, .int 1, .ref kT, .int 1, .int 0, .int 1, .int 0, .int 0, .ref tb, .ref ld, .int (nI n), .ref lK, .ref lC, .int 0])), (tb, .inl (e2, 366, .inl (tf))), (q_208, .inl (cy_209, 6, .inl (upd (upd (upd (fun _ => 0) 0 0) 1 (nI a)) 2 (nI b))))]) := hD
  refine lv_dup hx hb dX4_lay_17 rfl ?_
  refine lv_iconst (v := 3) hx hb dX4_lay_18 (by decide) ?_
  refine lv_iconst (v := 0) hx hb dX4_lay_19 (by decide) ?_
  refine va_iast hx hb hK hP hD hS 2 1 rfl rfl (vp_in_nI (n := 3) (N := 6) (by decide) (by decide)) dX4_lay_20 (fun H locs hP hD hS => ?_)
  have hP : va_P D vwCl ([(mo, .inr (4, [.int 0, .int 1, .ref kT, .int 1, .int 0, .int 1, .int 0, .int 0, .ref tb, .ref ld, .int (nI n), .ref lK, .ref lC, .int 0])), (tb, .inl (e2, 366, .inl (tf))), (q_208, .inl (cy_209, 6, .inl (upd (upd (upd (upd (fun _ => 0) 0 0) 1 (nI a)) 2 (nI b)) 3 0)))]) H := hP
  have hD : va_D A ([(mo, .inr (4, [.int 0, .int 1, .ref kT, .int 1, .int 0, .int 1, .int 0, .int 0, .ref tb, .ref ld, .int (nI n), .ref lK, .ref lC, .int 0])), (tb, .inl (e2, 366, .inl (tf))), (q_208, .inl (cy_209, 6, .inl (upd (upd (upd (upd (fun _ => 0) 0 0) 1 (nI a)) 2 (nI b)) 3 0)))]) := hD
  refine lv_dup hx hb dX4_lay_21 rfl ?_
  refine lv_iconst (v := 4) hx hb dX4_lay_22 (by decide) ?_
  refine lv_iload hx hb dX4_lay_23 (lv_at hl 5 rfl) ?_
  refine lv_if_eq (tgt := 32) hx hb dX4_lay_25 (by decide) (fun c_211 => ?_) (fun c_211 => absurd (rfl) c_211)
  refine lv_iconst (v := 0) hx hb dX4_lay_32 (by decide) ?_
  refine va_iast hx hb hK hP hD hS 2 1 rfl rfl (vp_in_nI (n := 4) (N := 6) (by decide) (by decide)) dX4_lay_33 (fun H locs hP hD hS => ?_)
  have hP : va_P D vwCl ([(mo, .inr (4, [.int 0, .int 1, .ref kT, .int 1, .int 0, .int 1, .int 0, .int 0, .ref tb, .ref ld, .int (nI n), .ref lK, .ref lC, .int 0])), (tb, .inl (e2, 366, .inl (tf))), (q_208, .inl (cy_209, 6, .inl (upd (upd (upd (upd (upd (fun _ => 0) 0 0) 1 (nI a)) 2 (nI b)) 3 0) 4 0)))]) H := hP
  have hD : va_D A ([(mo, .inr (4, [.int 0, .int 1, .ref kT, .int 1, .int 0, .int 1, .int 0, .int 0, .ref tb, .ref ld, .int (nI n), .ref lK, .ref lC, .int 0])), (tb, .inl (e2, 366, .inl (tf))), (q_208, .inl (cy_209, 6, .inl (upd (upd (upd (upd (upd (fun _ => 0) 0 0) 1 (nI a)) 2 (nI b)) 3 0) 4 0)))]) := hD
  refine lv_dup hx hb dX4_lay_34 rfl ?_
  refine lv_iconst (v := 5) hx hb dX4_lay_35 (by decide) ?_
  refine lv_iconst (v := 0) hx hb dX4_lay_36 (by decide) ?_
  refine va_iast hx hb hK hP hD hS 2 1 rfl rfl (vp_in_nI (n := 5) (N := 6) (by decide) (by decide)) dX4_lay_37 (fun H locs hP hD hS => ?_)
  have hP : va_P D vwCl ([(mo, .inr (4, [.int 0, .int 1, .ref kT, .int 1, .int 0, .int 1, .int 0, .int 0, .ref tb, .ref ld, .int (nI n), .ref lK, .ref lC, .int 0])), (tb, .inl (e2, 366, .inl (tf))), (q_208, .inl (cy_209, 6, .inl (upd (upd (upd (upd (upd (upd (fun _ => 0) 0 0) 1 (nI a)) 2 (nI b)) 3 0) 4 0) 5 0)))]) H := hP
  have hD : va_D A ([(mo, .inr (4, [.int 0, .int 1, .ref kT, .int 1, .int 0, .int 1, .int 0, .int 0, .ref tb, .ref ld, .int (nI n), .ref lK, .ref lC, .int 0])), (tb, .inl (e2, 366, .inl (tf))), (q_208, .inl (cy_209, 6, .inl (upd (upd (upd (upd (upd (upd (fun _ => 0) 0 0) 1 (nI a)) 2 (nI b)) 3 0) 4 0) 5 0)))]) := hD
  refine lv_astore (lv' := [(6, .ref q_208), (0, .ref mo), (1, .int 60), (2, .int 0), (3, .int (nI a)), (4, .int (nI b)), (5, .int 0)]) hx hb dX4_lay_38 hl (by decide) rfl (fun ls hl => ?_)
  refine lv_aload hx hb dX4_lay_40 (lv_at hl 0 rfl) ?_
  refine lv_iconst (v := 0) hx hb dX4_lay_42 (by decide) ?_
  refine lv_aload_n hx hb dX4_lay_43 rfl (lv_at hl 1 rfl) ?_
  refine va_get (D := D) (ci := 4) (v := .ref tb) (C := RX4) (T := TX4) (N := 14) hx hb hts (fun _ h9 => List.mem_cons_of_mem _ (List.mem_append_right _ h9)) hown hK hP 0 rfl rfl 8 (by decide) (hts (.fieldLink RX4 23 "PalletStackModel" "table" "[I") (List.mem_of_getElem? (i := 2) (by rfl))) (fun _ h9 => h9) rfl dX4_lay_44 ?_
  refine lv_bipush (v := 6) hx hb dX4_lay_47 (by decide) ?_
  refine lv_iload_n hx hb dX4_lay_49 rfl (lv_at hl 2 rfl) ?_
  refine lv_imul hx hb dX4_lay_50 ?_
  refine lv_topi (fun v_212 ev_212 => ?_)
  obtain rfl : v_212 = 360 := ev_212.trans (by decide)
  refine lv_bipush (v := 6) hx hb dX4_lay_51 (by decide) ?_
  refine va_copyi (ty := .int) hx hb (by rw [hml]; exact hl.1.symm) hown (hts (.methodLink RX4 49 arraycopyName) (List.mem_of_getElem? (i := 3) (by rfl))) (hts (.native arraycopyName) (List.mem_of_getElem? (i := 4) (by rfl))) (hts (.static arraycopyName) (List.mem_of_getElem? (i := 5) (by rfl))) (hts (.initialized "java/lang/System") (List.mem_of_getElem? (i := 6) (by rfl))) hK hP hD hS 2 1 1 0 rfl rfl rfl rfl rfl (by decide) (by decide) (by decide) (by decide) (by decide) (fun _ _ => rfl) (by rw [hRf]; exact Nat.le_of_ble_eq_true rfl) (by rw [hRl]; exact Nat.le_of_ble_eq_true rfl) dX4_lay_53 (fun H locs hP hD hS => ?_)
  have hP : va_P D vwCl ([(mo, .inr (4, [.int 0, .int 1, .ref kT, .int 1, .int 0, .int 1, .int 0, .int 0, .ref tb, .ref ld, .int (nI n), .ref lK, .ref lC, .int 0])), (tb, .inl (e2, 366, .inl (va_cpy (upd (upd (upd (upd (upd (upd (fun _ => 0) 0 0) 1 (nI a)) 2 (nI b)) 3 0) 4 0) 5 0) (tf) 0 360 6))), (q_208, .inl (cy_209, 6, .inl (upd (upd (upd (upd (upd (upd (fun _ => 0) 0 0) 1 (nI a)) 2 (nI b)) 3 0) 4 0) 5 0)))]) H := hP
  have hD : va_D A ([(mo, .inr (4, [.int 0, .int 1, .ref kT, .int 1, .int 0, .int 1, .int 0, .int 0, .ref tb, .ref ld, .int (nI n), .ref lK, .ref lC, .int 0])), (tb, .inl (e2, 366, .inl (va_cpy (upd (upd (upd (upd (upd (upd (fun _ => 0) 0 0) 1 (nI a)) 2 (nI b)) 3 0) 4 0) 5 0) (tf) 0 360 6))), (q_208, .inl (cy_209, 6, .inl (upd (upd (upd (upd (upd (upd (fun _ => 0) 0 0) 1 (nI a)) 2 (nI b)) 3 0) 4 0) 5 0)))]) := hD
  refine lv_iconst (v := 0) hx hb dX4_lay_56 (by decide) ?_
  refine lv_istore (lv' := [(7, .int 0), (6, .ref q_208), (0, .ref mo), (1, .int 60), (2, .int 0), (3, .int (nI a)), (4, .int (nI b)), (5, .int 0)]) hx hb dX4_lay_57 hl (by decide) rfl (fun ls hl => ?_)
  refine lv_iconst (v := 0) hx hb dX4_lay_59 (by decide) ?_
  refine lv_istore (lv' := [(8, .int 0), (7, .int 0), (6, .ref q_208), (0, .ref mo), (1, .int 60), (2, .int 0), (3, .int (nI a)), (4, .int (nI b)), (5, .int 0)]) hx hb dX4_lay_60 hl (by decide) rfl (fun ls hl => ?_)
  refine lv_iload hx hb dX4_lay_62 (lv_at hl 0 rfl) ?_
  refine lv_aload_n hx hb dX4_lay_64 rfl (lv_at hl 3 rfl) ?_
  refine va_get (D := D) (ci := 4) (v := .int 0) (C := RX4) (T := TX4) (N := 14) hx hb hts (fun _ h9 => List.mem_cons_of_mem _ (List.mem_append_right _ h9)) hown hK hP 0 rfl rfl 7 (by decide) (hts (.fieldLink RX4 59 "PalletStackModel" "came" "I") (List.mem_of_getElem? (i := 7) (by rfl))) (fun _ h9 => h9) rfl dX4_lay_65 ?_
  refine lv_icmp_ge (tgt := 109) hx hb dX4_lay_68 (by decide) (fun c_213 => ?_) (fun c_213 => absurd (by decide) c_213)
  refine lv_aload_n hx hb dX4_lay_109 rfl (lv_at hl 3 rfl) ?_
  refine va_get (D := D) (ci := 4) (v := .ref tb) (C := RX4) (T := TX4) (N := 14) hx hb hts (fun _ h9 => List.mem_cons_of_mem _ (List.mem_append_right _ h9)) hown hK hP 0 rfl rfl 8 (by decide) (hts (.fieldLink RX4 23 "PalletStackModel" "table" "[I") (List.mem_of_getElem? (i := 2) (by rfl))) (fun _ h9 => h9) rfl dX4_lay_110 ?_
  refine lv_bipush (v := 6) hx hb dX4_lay_113 (by decide) ?_
  refine lv_iload_n hx hb dX4_lay_115 rfl (lv_at hl 4 rfl) ?_
  refine lv_imul hx hb dX4_lay_116 ?_
  refine lv_topi (fun v_214 ev_214 => ?_)
  obtain rfl : v_214 = 360 := ev_214.trans (by decide)
  refine lv_iconst (v := 3) hx hb dX4_lay_117 (by decide) ?_
  refine lv_iadd hx hb dX4_lay_118 ?_
  refine lv_topi (fun v_215 ev_215 => ?_)
  obtain rfl : v_215 = 363 := ev_215.trans (by decide)
  refine lv_iload hx hb dX4_lay_119 (lv_at hl 1 rfl) ?_
  refine va_iast hx hb hK hP hD hS 1 0 rfl rfl (vp_in_nI (n := 363) (N := 366) (by decide) (by decide)) dX4_lay_121 (fun H locs hP hD hS => ?_)
  have hP : va_P D vwCl ([(mo, .inr (4, [.int 0, .int 1, .ref kT, .int 1, .int 0, .int 1, .int 0, .int 0, .ref tb, .ref ld, .int (nI n), .ref lK, .ref lC, .int 0])), (tb, .inl (e2, 366, .inl (upd (va_cpy (upd (upd (upd (upd (upd (upd (fun _ => 0) 0 0) 1 (nI a)) 2 (nI b)) 3 0) 4 0) 5 0) (tf) 0 360 6) 363 0))), (q_208, .inl (cy_209, 6, .inl (upd (upd (upd (upd (upd (upd (fun _ => 0) 0 0) 1 (nI a)) 2 (nI b)) 3 0) 4 0) 5 0)))]) H := hP
  have hD : va_D A ([(mo, .inr (4, [.int 0, .int 1, .ref kT, .int 1, .int 0, .int 1, .int 0, .int 0, .ref tb, .ref ld, .int (nI n), .ref lK, .ref lC, .int 0])), (tb, .inl (e2, 366, .inl (upd (va_cpy (upd (upd (upd (upd (upd (upd (fun _ => 0) 0 0) 1 (nI a)) 2 (nI b)) 3 0) 4 0) 5 0) (tf) 0 360 6) 363 0))), (q_208, .inl (cy_209, 6, .inl (upd (upd (upd (upd (upd (upd (fun _ => 0) 0 0) 1 (nI a)) 2 (nI b)) 3 0) 4 0) 5 0)))]) := hD
  have hP := hP.sub (ws' := [(mo, .inr (4, [.int 0, .int 1, .ref kT, .int 1, .int 0, .int 1, .int 0, .int 0, .ref tb, .ref ld, .int (nI n), .ref lK, .ref lC, .int 0])), (tb, .inl (e2, 366, .inl (upd (va_cpy (upd (upd (upd (upd (upd (upd (fun _ => 0) 0 0) 1 (nI a)) 2 (nI b)) 3 0) 4 0) 5 0) (tf) 0 360 6) 363 0)))]) [0, 1] rfl
  have hD := hD.sub (ws' := [(mo, .inr (4, [.int 0, .int 1, .ref kT, .int 1, .int 0, .int 1, .int 0, .int 0, .ref tb, .ref ld, .int (nI n), .ref lK, .ref lC, .int 0])), (tb, .inl (e2, 366, .inl (upd (va_cpy (upd (upd (upd (upd (upd (upd (fun _ => 0) 0 0) 1 (nI a)) 2 (nI b)) 3 0) 4 0) 5 0) (tf) 0 360 6) 363 0)))]) [0, 1] (by decide) rfl
  have hz9 := hS.1
  have hS := hS0.tr hS
  refine W.widen (k := 1) (n := 6) (by omega) (by omega) ?_
  exact W.vret hx hb hr (fun t ht hW => ⟨⟨(upd (va_cpy (upd (upd (upd (upd (upd (upd (fun _ => 0) 0 0) 1 (nI a)) 2 (nI b)) 3 0) 4 0) 5 0) (tf) 0 360 6) 363 0), rfl, ⟨rfl, rfl⟩, ⟨(by rw [ht]; omega), by rw [ht]; exact hP, va_K.moved hW.alike (hK.sub (tys' := []) [] rfl), hD⟩⟩, hS.F ht⟩) hS.2.2 dX4_lay_122
set_option maxHeartbeats 4000000 in
set_option maxRecDepth 100000 in
theorem c_lay_1 (l : Launch) (D : zG) (sz : Nat) (mo kT tb ld lK lC n : Nat) (e2 : ClassId) (tf : Nat → Int32) (a b : Nat) : Met l yX4_lay wsX4_lay ({ frames := 1, cells := 1, slots := 6, locals := 20 }) (zPc D [(e2, .int)] ([(mo, .inr (4, [.int 0, .int 1, .ref kT, .int 1, .int 0, .int 1, .int 0, .int 0, .ref tb, .ref ld, .int (nI n), .ref lK, .ref lC, .int 0])), (tb, .inl (e2, 366, .inl (tf)))]) sz [.ref mo, .int 60, .int 0, .int (nI a), .int (nI b), .int 1]) (va_Qv (fun (u : Nat → Int32) => u 360 = 0 ∧ u 363 = 0) (zB D (va_A ([(mo, .inr (4, [.int 0, .int 1, .ref kT, .int 1, .int 0, .int 1, .int 0, .int 0, .ref tb, .ref ld, .int (nI n), .ref lK, .ref lC, .int 0])), (tb, .inl (e2, 366, .inl (tf)))]) sz) (fun _ => []) (sz + 1) (fun u => [(mo, .inr (4, [.int 0, .int 1, .ref kT, .int 1, .int 0, .int 1, .int 0, .int 0, .ref tb, .ref ld, .int (nI n), .ref lK, .ref lC, .int 0])), (tb, .inl (e2, 366, .inl (u)))])) (va_A ([(mo, .inr (4, [.int 0, .int 1, .ref kT, .int 1, .int 0, .int 1, .int 0, .int 0, .ref tb, .ref ld, .int (nI n), .ref lK, .ref lC, .int 0])), (tb, .inl (e2, 366, .inl (tf)))]) sz)) 1 6 (va_A ([(mo, .inr (4, [.int 0, .int 1, .ref kT, .int 1, .int 0, .int 1, .int 0, .int 0, .ref tb, .ref ld, .int (nI n), .ref lK, .ref lC, .int 0])), (tb, .inl (e2, 366, .inl (tf)))]) sz) := by
  refine Met.ofW (cc := cX4_lay) (maxL := 9) (ret := none) (by decide) rfl ?_
  intro p e s m args below meth c s₁ B hml hv
  obtain ⟨rfl, hsz, hP, hK, hD0⟩ := hv
  have hx := B.exec
  have hb := B.bytes
  have hr := B.returns
  have hts := atoms_spec (ws := wsX4_lay) B.pre
  have hown : s.vm.findClass RX4 = some m.cls := findClass_of_methodNamed B.named
  have hlocks := B.notSynchronized
  subst hsz
  have hD := hD0.self (sz := s.heap.size)
  generalize hAe : va_A ([(mo, .inr (4, [.int 0, .int 1, .ref kT, .int 1, .int 0, .int 1, .int 0, .int 0, .ref tb, .ref ld, .int (nI n), .ref lK, .ref lC, .int 0])), (tb, .inl (e2, 366, .inl (tf)))]) s.heap.size = A at hD ⊢
  have hA : ∀ q : Nat, s.heap.size ≤ q → A q := fun q h => by rw [← hAe]; exact Or.inr h
  have hS : va_S A s.heap s.heap [] := va_S.rf
  have hl := lv_entry ([.ref mo, .int 60, .int 0, .int (nI a), .int (nI b), .int 1]) (n := 9) (Nat.le_of_ble_eq_true rfl)
  rw [lg_entry_eq]
  generalize (lg_sl ([.ref mo, .int 60, .int 0, .int (nI a), .int (nI b), .int 1]) ++ List.replicate (9 - (lg_sl ([.ref mo, .int 60, .int 0, .int (nI a), .int (nI b), .int 1])).length) Slot.unset).toArray = ls at hl ⊢
  have hl : lv_has ls 9 [(0, .ref mo), (1, .int 60), (2, .int 0), (3, .int (nI a)), (4, .int (nI b)), (5, .int 1)] := hl
  have hP : va_P D vwCl ([(mo, .inr (4, [.int 0, .int 1, .ref kT, .int 1, .int 0, .int 1, .int 0, .int 0, .ref tb, .ref ld, .int (nI n), .ref lK, .ref lC, .int 0])), (tb, .inl (e2, 366, .inl (tf)))]) s.heap := hP
  generalize hRe : (headSpec _ _).room = R
  have hRf : R.frames = 1 := by rw [← hRe]; rfl
  have hRc : R.cells = 1 := by rw [← hRe]; rfl
  have hRs : R.slots = 6 := by rw [← hRe]; rfl
  have hRl : R.locals = 20 := by rw [← hRe]; rfl
  clear hRe
  refine lv_bipush (v := 6) hx hb dX4_lay_0 (by decide) ?_
  refine znewa (atype := .int) (ty := .int) (N' := 6) (a0 := (6, .inl (fun _ => 0))) hx hb (hts (.arrayClass .int) (List.mem_of_getElem? (i := 1) (by rfl))) rfl hK hP hD hS hA (fun _ => rfl) (by decide) rfl (Nat.le_of_ble_eq_true rfl) (by omega) (by omega) dX4_lay_2 (fun q_216 cy_217 H hz_218 hK hP hD hS => ?_)
  have hP : va_P D vwCl ([(mo, .inr (4, [.int 0, .int 1, .ref kT, .int 1, .int 0, .int 1, .int 0, .int 0, .ref tb, .ref ld, .int (nI n), .ref lK, .ref lC, .int 0])), (tb, .inl (e2, 366, .inl (tf))), (q_216, .inl (cy_217, 6, .inl (fun _ => 0)))]) H := hP
  have hD : va_D A ([(mo, .inr (4, [.int 0, .int 1, .ref kT, .int 1, .int 0, .int 1, .int 0, .int 0, .ref tb, .ref ld, .int (nI n), .ref lK, .ref lC, .int 0])), (tb, .inl (e2, 366, .inl (tf))), (q_216, .inl (cy_217, 6, .inl (fun _ => 0)))]) := hD
  have hS0 := hS
  have hS := hS.re
  refine lv_dup hx hb dX4_lay_4 rfl ?_
  refine lv_iconst (v := 0) hx hb dX4_lay_5 (by decide) ?_
  refine lv_iload_n hx hb dX4_lay_6 rfl (lv_at hl 2 rfl) ?_
  refine va_iast hx hb hK hP hD hS 2 1 rfl rfl (vp_in_nI (n := 0) (N := 6) (by decide) (by decide)) dX4_lay_7 (fun H locs hP hD hS => ?_)
  have hP : va_P D vwCl ([(mo, .inr (4, [.int 0, .int 1, .ref kT, .int 1, .int 0, .int 1, .int 0, .int 0, .ref tb, .ref ld, .int (nI n), .ref lK, .ref lC, .int 0])), (tb, .inl (e2, 366, .inl (tf))), (q_216, .inl (cy_217, 6, .inl (upd (fun _ => 0) 0 0)))]) H := hP
  have hD : va_D A ([(mo, .inr (4, [.int 0, .int 1, .ref kT, .int 1, .int 0, .int 1, .int 0, .int 0, .ref tb, .ref ld, .int (nI n), .ref lK, .ref lC, .int 0])), (tb, .inl (e2, 366, .inl (tf))), (q_216, .inl (cy_217, 6, .inl (upd (fun _ => 0) 0 0)))]) := hD
  refine lv_dup hx hb dX4_lay_8 rfl ?_
  refine lv_iconst (v := 1) hx hb dX4_lay_9 (by decide) ?_
  refine lv_iload_n hx hb dX4_lay_10 rfl (lv_at hl 3 rfl) ?_
  refine va_iast hx hb hK hP hD hS 2 1 rfl rfl (vp_in_nI (n := 1) (N := 6) (by decide) (by decide)) dX4_lay_11 (fun H locs hP hD hS => ?_)
  have hP : va_P D vwCl ([(mo, .inr (4, [.int 0, .int 1, .ref kT, .int 1, .int 0, .int 1, .int 0, .int 0, .ref tb, .ref ld, .int (nI n), .ref lK, .ref lC, .int 0])), (tb, .inl (e2, 366, .inl (tf))), (q_216, .inl (cy_217, 6, .inl (upd (upd (fun _ => 0) 0 0) 1 (nI a))))]) H := hP
  have hD : va_D A ([(mo, .inr (4, [.int 0, .int 1, .ref kT, .int 1, .int 0, .int 1, .int 0, .int 0, .ref tb, .ref ld, .int (nI n), .ref lK, .ref lC, .int 0])), (tb, .inl (e2, 366, .inl (tf))), (q_216, .inl (cy_217, 6, .inl (upd (upd (fun _ => 0) 0 0) 1 (nI a))))]) := hD
  refine lv_dup hx hb dX4_lay_12 rfl ?_
  refine lv_iconst (v := 2) hx hb dX4_lay_13 (by decide) ?_
  refine lv_iload hx hb dX4_lay_14 (lv_at hl 4 rfl) ?_
  refine va_iast hx hb hK hP hD hS 2 1 rfl rfl (vp_in_nI (n := 2) (N := 6) (by decide) (by decide)) dX4_lay_16 (fun H locs hP hD hS => ?_)
  have hP : va_P D vwCl ([(mo, .inr (4, [.int 0, .int 1, .ref kT, .int 1, .int 0, .int 1, .int 0, .int 0, .ref tb, .ref ld, .int (nI n), .ref lK, .ref lC, .int 0])), (tb, .inl (e2, 366, .inl (tf))), (q_216, .inl (cy_217, 6, .inl (upd (upd (upd (fun _ => 0) 0 0) 1 (nI a)) 2 (nI b))))]) H := hP
  have hD : va_D A ([(mo, .inr (4, [.int 0, .int 1, .ref kT, .int 1, .int 0, .int 1, .int 0, .int 0, .ref tb, .ref ld, .int (nI n), .ref lK, .ref lC, .int 0])), (tb, .inl (e2, 366, .inl (tf))), (q_216, .inl (cy_217, 6, .inl (upd (upd (upd (fun _ => 0) 0 0) 1 (nI a)) 2 (nI b))))]) := hD
  refine lv_dup hx hb dX4_lay_17 rfl ?_
  refine lv_iconst (v := 3) hx hb dX4_lay_18 (by decide) ?_
  refine lv_iconst (v := 0) hx hb dX4_lay_19 (by decide) ?_
  refine va_iast hx hb hK hP hD hS 2 1 rfl rfl (vp_in_nI (n := 3) (N := 6) (by decide) (by decide)) dX4_lay_20 (fun H locs hP hD hS => ?_)
  have hP : va_P D vwCl ([(mo, .inr (4, [.int 0, .int 1, .ref kT, .int 1, .int 0, .int 1, .int 0, .int 0, .ref tb, .ref ld, .int (nI n), .ref lK, .ref lC, .int 0])), (tb, .inl (e2, 366, .inl (tf))), (q_216, .inl (cy_217, 6, .inl (upd (upd (upd (upd (fun _ => 0) 0 0) 1 (nI a)) 2 (nI b)) 3 0)))]) H := hP
  have hD : va_D A ([(mo, .inr (4, [.int 0, .int 1, .ref kT, .int 1, .int 0, .int 1, .int 0, .int 0, .ref tb, .ref ld, .int (nI n), .ref lK, .ref lC, .int 0])), (tb, .inl (e2, 366, .inl (tf))), (q_216, .inl (cy_217, 6, .inl (upd (upd (upd (upd (fun _ => 0) 0 0) 1 (nI a)) 2 (nI b)) 3 0)))]) := hD
  refine lv_dup hx hb dX4_lay_21 rfl ?_
  refine lv_iconst (v := 4) hx hb dX4_lay_22 (by decide) ?_
  refine lv_iload hx hb dX4_lay_23 (lv_at hl 5 rfl) ?_
  refine lv_if_eq (tgt := 32) hx hb dX4_lay_25 (by decide) (fun c_219 => absurd c_219 (by decide)) (fun c_219 => ?_)
  refine lv_iconst (v := 1) hx hb dX4_lay_28 (by decide) ?_
  refine lv_goto (tgt := 33) hx hb dX4_lay_29 (by decide) ?_
  refine va_iast hx hb hK hP hD hS 2 1 rfl rfl (vp_in_nI (n := 4) (N := 6) (by decide) (by decide)) dX4_lay_33 (fun H locs hP hD hS => ?_)
  have hP : va_P D vwCl ([(mo, .inr (4, [.int 0, .int 1, .ref kT, .int 1, .int 0, .int 1, .int 0, .int 0, .ref tb, .ref ld, .int (nI n), .ref lK, .ref lC, .int 0])), (tb, .inl (e2, 366, .inl (tf))), (q_216, .inl (cy_217, 6, .inl (upd (upd (upd (upd (upd (fun _ => 0) 0 0) 1 (nI a)) 2 (nI b)) 3 0) 4 1)))]) H := hP
  have hD : va_D A ([(mo, .inr (4, [.int 0, .int 1, .ref kT, .int 1, .int 0, .int 1, .int 0, .int 0, .ref tb, .ref ld, .int (nI n), .ref lK, .ref lC, .int 0])), (tb, .inl (e2, 366, .inl (tf))), (q_216, .inl (cy_217, 6, .inl (upd (upd (upd (upd (upd (fun _ => 0) 0 0) 1 (nI a)) 2 (nI b)) 3 0) 4 1)))]) := hD
  refine lv_dup hx hb dX4_lay_34 rfl ?_
  refine lv_iconst (v := 5) hx hb dX4_lay_35 (by decide) ?_
  refine lv_iconst (v := 0) hx hb dX4_lay_36 (by decide) ?_
  refine va_iast hx hb hK hP hD hS 2 1 rfl rfl (vp_in_nI (n := 5) (N := 6) (by decide) (by decide)) dX4_lay_37 (fun H locs hP hD hS => ?_)
  have hP : va_P D vwCl ([(mo, .inr (4, [.int 0, .int 1, .ref kT, .int 1, .int 0, .int 1, .int 0, .int 0, .ref tb, .ref ld, .int (nI n), .ref lK, .ref lC, .int 0])), (tb, .inl (e2, 366, .inl (tf))), (q_216, .inl (cy_217, 6, .inl (upd (upd (upd (upd (upd (upd (fun _ => 0) 0 0) 1 (nI a)) 2 (nI b)) 3 0) 4 1) 5 0)))]) H := hP
  have hD : va_D A ([(mo, .inr (4, [.int 0, .int 1, .ref kT, .int 1, .int 0, .int 1, .int 0, .int 0, .ref tb, .ref ld, .int (nI n), .ref lK, .ref lC, .int 0])), (tb, .inl (e2, 366, .inl (tf))), (q_216, .inl (cy_217, 6, .inl (upd (upd (upd (upd (upd (upd (fun _ => 0) 0 0) 1 (nI a)) 2 (nI b)) 3 0) 4 1) 5 0)))]) := hD
  refine lv_astore (lv' := [(6, .ref q_216), (0, .ref mo), (1, .int 60), (2, .int 0), (3, .int (nI a)), (4, .int (nI b)), (5, .int 1)]) hx hb dX4_lay_38 hl (by decide) rfl (fun ls hl => ?_)
  refine lv_aload hx hb dX4_lay_40 (lv_at hl 0 rfl) ?_
  refine lv_iconst (v := 0) hx hb dX4_lay_42 (by decide) ?_
  refine lv_aload_n hx hb dX4_lay_43 rfl (lv_at hl 1 rfl) ?_
  refine va_get (D := D) (ci := 4) (v := .ref tb) (C := RX4) (T := TX4) (N := 14) hx hb hts (fun _ h9 => List.mem_cons_of_mem _ (List.mem_append_right _ h9)) hown hK hP 0 rfl rfl 8 (by decide) (hts (.fieldLink RX4 23 "PalletStackModel" "table" "[I") (List.mem_of_getElem? (i := 2) (by rfl))) (fun _ h9 => h9) rfl dX4_lay_44 ?_
  refine lv_bipush (v := 6) hx hb dX4_lay_47 (by decide) ?_
  refine lv_iload_n hx hb dX4_lay_49 rfl (lv_at hl 2 rfl) ?_
  refine lv_imul hx hb dX4_lay_50 ?_
  refine lv_topi (fun v_220 ev_220 => ?_)
  obtain rfl : v_220 = 360 := ev_220.trans (by decide)
  refine lv_bipush (v := 6) hx hb dX4_lay_51 (by decide) ?_
  refine va_copyi (ty := .int) hx hb (by rw [hml]; exact hl.1.symm) hown (hts (.methodLink RX4 49 arraycopyName) (List.mem_of_getElem? (i := 3) (by rfl))) (hts (.native arraycopyName) (List.mem_of_getElem? (i := 4) (by rfl))) (hts (.static arraycopyName) (List.mem_of_getElem? (i := 5) (by rfl))) (hts (.initialized "java/lang/System") (List.mem_of_getElem? (i := 6) (by rfl))) hK hP hD hS 2 1 1 0 rfl rfl rfl rfl rfl (by decide) (by decide) (by decide) (by decide) (by decide) (fun _ _ => rfl) (by rw [hRf]; exact Nat.le_of_ble_eq_true rfl) (by rw [hRl]; exact Nat.le_of_ble_eq_true rfl) dX4_lay_53 (fun H locs hP hD hS => ?_)
  have hP : va_P D vwCl ([(mo, .inr (4, [.int 0, .int 1, .ref kT, .int 1, .int 0, .int 1, .int 0, .int 0, .ref tb, .ref ld, .int (nI n), .ref lK, .ref lC, .int 0])), (tb, .inl (e2, 366, .inl (va_cpy (upd (upd (upd (upd (upd (upd (fun _ => 0) 0 0) 1 (nI a)) 2 (nI b)) 3 0) 4 1) 5 0) (tf) 0 360 6))), (q_216, .inl (cy_217, 6, .inl (upd (upd (upd (upd (upd (upd (fun _ => 0) 0 0) 1 (nI a)) 2 (nI b)) 3 0) 4 1) 5 0)))]) H := hP
  have hD : va_D A ([(mo, .inr (4, [.int 0, .int 1, .ref kT, .int 1, .int 0, .int 1, .int 0, .int 0, .ref tb, .ref ld, .int (nI n), .ref lK, .ref lC, .int 0])), (tb, .inl (e2, 366, .inl (va_cpy (upd (upd (upd (upd (upd (upd (fun _ => 0) 0 0) 1 (nI a)) 2 (nI b)) 3 0) 4 1) 5 0) (tf) 0 360 6))), (q_216, .inl (cy_217, 6, .inl (upd (upd (upd (upd (upd (upd (fun _ => 0) 0 0) 1 (nI a)) 2 (nI b)) 3 0) 4 1) 5 0)))]) := hD
  refine lv_iconst (v := 0) hx hb dX4_lay_56 (by decide) ?_
  refine lv_istore (lv' := [(7, .int 0), (6, .ref q_216), (0, .ref mo), (1, .int 60), (2, .int 0), (3, .int (nI a)), (4, .int (nI b)), (5, .int 1)]) hx hb dX4_lay_57 hl (by decide) rfl (fun ls hl => ?_)
  refine lv_iconst (v := 0) hx hb dX4_lay_59 (by decide) ?_
  refine lv_istore (lv' := [(8, .int 0), (7, .int 0), (6, .ref q_216), (0, .ref mo), (1, .int 60), (2, .int 0), (3, .int (nI a)), (4, .int (nI b)), (5, .int 1)]) hx hb dX4_lay_60 hl (by decide) rfl (fun ls hl => ?_)
  refine lv_iload hx hb dX4_lay_62 (lv_at hl 0 rfl) ?_
  refine lv_aload_n hx hb dX4_lay_64 rfl (lv_at hl 3 rfl) ?_
  refine va_get (D := D) (ci := 4) (v := .int 0) (C := RX4) (T := TX4) (N := 14) hx hb hts (fun _ h9 => List.mem_cons_of_mem _ (List.mem_append_right _ h9)) hown hK hP 0 rfl rfl 7 (by decide) (hts (.fieldLink RX4 59 "PalletStackModel" "came" "I") (List.mem_of_getElem? (i := 7) (by rfl))) (fun _ h9 => h9) rfl dX4_lay_65 ?_
  refine lv_icmp_ge (tgt := 109) hx hb dX4_lay_68 (by decide) (fun c_221 => ?_) (fun c_221 => absurd (by decide) c_221)
  refine lv_aload_n hx hb dX4_lay_109 rfl (lv_at hl 3 rfl) ?_
  refine va_get (D := D) (ci := 4) (v := .ref tb) (C := RX4) (T := TX4) (N := 14) hx hb hts (fun _ h9 => List.mem_cons_of_mem _ (List.mem_append_right _ h9)) hown hK hP 0 rfl rfl 8 (by decide) (hts (.fieldLink RX4 23 "PalletStackModel" "table" "[I") (List.mem_of_getElem? (i := 2) (by rfl))) (fun _ h9 => h9) rfl dX4_lay_110 ?_
  refine lv_bipush (v := 6) hx hb dX4_lay_113 (by decide) ?_
  refine lv_iload_n hx hb dX4_lay_115 rfl (lv_at hl 4 rfl) ?_
  refine lv_imul hx hb dX4_lay_116 ?_
  refine lv_topi (fun v_222 ev_222 => ?_)
  obtain rfl : v_222 = 360 := ev_222.trans (by decide)
  refine lv_iconst (v := 3) hx hb dX4_lay_117 (by decide) ?_
  refine lv_iadd hx hb dX4_lay_118 ?_
  refine lv_topi (fun v_223 ev_223 => ?_)
  obtain rfl : v_223 = 363 := ev_223.trans (by decide)
  refine lv_iload hx hb dX4_lay_119 (lv_at hl 1 rfl) ?_
  refine va_iast hx hb hK hP hD hS 1 0 rfl rfl (vp_in_nI (n := 363) (N := 366) (by decide) (by decide)) dX4_lay_121 (fun H locs hP hD hS => ?_)
  have hP : va_P D vwCl ([(mo, .inr (4, [.int 0, .int 1, .ref kT, .int 1, .int 0, .int 1, .int 0, .int 0, .ref tb, .ref ld, .int (nI n), .ref lK, .ref lC, .int 0])), (tb, .inl (e2, 366, .inl (upd (va_cpy (upd (upd (upd (upd (upd (upd (fun _ => 0) 0 0) 1 (nI a)) 2 (nI b)) 3 0) 4 1) 5 0) (tf) 0 360 6) 363 0))), (q_216, .inl (cy_217, 6, .inl (upd (upd (upd (upd (upd (upd (fun _ => 0) 0 0) 1 (nI a)) 2 (nI b)) 3 0) 4 1) 5 0)))]) H := hP
  have hD : va_D A ([(mo, .inr (4, [.int 0, .int 1, .ref kT, .int 1, .int 0, .int 1, .int 0, .int 0, .ref tb, .ref ld, .int (nI n), .ref lK, .ref lC, .int 0])), (tb, .inl (e2, 366, .inl (upd (va_cpy (upd (upd (upd (upd (upd (upd (fun _ => 0) 0 0) 1 (nI a)) 2 (nI b)) 3 0) 4 1) 5 0) (tf) 0 360 6) 363 0))), (q_216, .inl (cy_217, 6, .inl (upd (upd (upd (upd (upd (upd (fun _ => 0) 0 0) 1 (nI a)) 2 (nI b)) 3 0) 4 1) 5 0)))]) := hD
  have hP := hP.sub (ws' := [(mo, .inr (4, [.int 0, .int 1, .ref kT, .int 1, .int 0, .int 1, .int 0, .int 0, .ref tb, .ref ld, .int (nI n), .ref lK, .ref lC, .int 0])), (tb, .inl (e2, 366, .inl (upd (va_cpy (upd (upd (upd (upd (upd (upd (fun _ => 0) 0 0) 1 (nI a)) 2 (nI b)) 3 0) 4 1) 5 0) (tf) 0 360 6) 363 0)))]) [0, 1] rfl
  have hD := hD.sub (ws' := [(mo, .inr (4, [.int 0, .int 1, .ref kT, .int 1, .int 0, .int 1, .int 0, .int 0, .ref tb, .ref ld, .int (nI n), .ref lK, .ref lC, .int 0])), (tb, .inl (e2, 366, .inl (upd (va_cpy (upd (upd (upd (upd (upd (upd (fun _ => 0) 0 0) 1 (nI a)) 2 (nI b)) 3 0) 4 1) 5 0) (tf) 0 360 6) 363 0)))]) [0, 1] (by decide) rfl
  have hz9 := hS.1
  have hS := hS0.tr hS
  refine W.widen (k := 1) (n := 6) (by omega) (by omega) ?_
  exact W.vret hx hb hr (fun t ht hW => ⟨⟨(upd (va_cpy (upd (upd (upd (upd (upd (upd (fun _ => 0) 0 0) 1 (nI a)) 2 (nI b)) 3 0) 4 1) 5 0) (tf) 0 360 6) 363 0), rfl, ⟨rfl, rfl⟩, ⟨(by rw [ht]; omega), by rw [ht]; exact hP, va_K.moved hW.alike (hK.sub (tys' := []) [] rfl), hD⟩⟩, hS.F ht⟩) hS.2.2 dX4_lay_122
theorem c_lay (l : Launch) (D : zG) (sz : Nat) (mo kT tb ld lK lC n : Nat) (e2 : ClassId) (tf : Nat → Int32) (a b : Nat) (t : Int32) (ht : t = 0 ∨ t = 1) : Met l yX4_lay wsX4_lay ({ frames := 1, cells := 1, slots := 6, locals := 20 }) (zPc D [(e2, .int)] ([(mo, .inr (4, [.int 0, .int 1, .ref kT, .int 1, .int 0, .int 1, .int 0, .int 0, .ref tb, .ref ld, .int (nI n), .ref lK, .ref lC, .int 0])), (tb, .inl (e2, 366, .inl (tf)))]) sz [.ref mo, .int 60, .int 0, .int (nI a), .int (nI b), .int t]) (va_Qv (fun (u : Nat → Int32) => u 360 = 0 ∧ u 363 = 0) (zB D (va_A ([(mo, .inr (4, [.int 0, .int 1, .ref kT, .int 1, .int 0, .int 1, .int 0, .int 0, .ref tb, .ref ld, .int (nI n), .ref lK, .ref lC, .int 0])), (tb, .inl (e2, 366, .inl (tf)))]) sz) (fun _ => []) (sz + 1) (fun u => [(mo, .inr (4, [.int 0, .int 1, .ref kT, .int 1, .int 0, .int 1, .int 0, .int 0, .ref tb, .ref ld, .int (nI n), .ref lK, .ref lC, .int 0])), (tb, .inl (e2, 366, .inl (u)))])) (va_A ([(mo, .inr (4, [.int 0, .int 1, .ref kT, .int 1, .int 0, .int 1, .int 0, .int 0, .ref tb, .ref ld, .int (nI n), .ref lK, .ref lC, .int 0])), (tb, .inl (e2, 366, .inl (tf)))]) sz)) 1 6 (va_A ([(mo, .inr (4, [.int 0, .int 1, .ref kT, .int 1, .int 0, .int 1, .int 0, .int 0, .ref tb, .ref ld, .int (nI n), .ref lK, .ref lC, .int 0])), (tb, .inl (e2, 366, .inl (tf)))]) sz) := by
  rcases ht with rfl | rfl
  · exact c_lay_0 l D sz mo kT tb ld lK lC n e2 tf a b
  · exact c_lay_1 l D sz mo kT tb ld lK lC n e2 tf a b
set_option maxHeartbeats 4000000 in
set_option maxRecDepth 100000 in
theorem c_why_0 (l : Launch) (D : zG) (sz : Nat) (mo kT tb ld lK lC n : Nat) (e1 e2 : ClassId) (g : Nat → Int32) (hg : g 0 = 1 ∧ g 1 = 1 ∧ g 2 = 2 ∧ g 3 = 1 ∧ g 4 = 0 ∧ g 5 = 1) (tf : Nat → Int32) (a b : Nat) (ha : a < 12) (hb2 : b < 10) : Met l yX4_why wsX4_why ({ frames := 2, cells := 1, slots := 6, locals := 48 }) (zPc D [(e1, .int), (e2, .int)] ([(mo, .inr (4, [.int 0, .int 1, .ref kT, .int 1, .int 0, .int 1, .int 0, .int 0, .ref tb, .ref ld, .int (nI n), .ref lK, .ref lC, .int 0])), (kT, .inl (e1, 60, .inl (g))), (tb, .inl (e2, 366, .inl (tf)))]) sz [.ref mo, .int 0, .int (nI a), .int (nI b), .int 0]) (va_Qi (fun (r : Int32) (u : Nat → Int32) => r = 2) (zB D (va_A ([(mo, .inr (4, [.int 0, .int 1, .ref kT, .int 1, .int 0, .int 1, .int 0, .int 0, .ref tb, .ref ld, .int (nI n), .ref lK, .ref lC, .int 0])), (kT, .inl (e1, 60, .inl (g))), (tb, .inl (e2, 366, .inl (tf)))]) sz) (fun _ => []) (sz + 1) (fun u => [(mo, .inr (4, [.int 0, .int 1, .ref kT, .int 1, .int 0, .int 1, .int 0, .int 0, .ref tb, .ref ld, .int (nI n), .ref lK, .ref lC, .int 0])), (kT, .inl (e1, 60, .inl (g))), (tb, .inl (e2, 366, .inl (u)))])) (va_A ([(mo, .inr (4, [.int 0, .int 1, .ref kT, .int 1, .int 0, .int 1, .int 0, .int 0, .ref tb, .ref ld, .int (nI n), .ref lK, .ref lC, .int 0])), (kT, .inl (e1, 60, .inl (g))), (tb, .inl (e2, 366, .inl (tf)))]) sz)) 1 6 (va_A ([(mo, .inr (4, [.int 0, .int 1, .ref kT, .int 1, .int 0, .int 1, .int 0, .int 0, .ref tb, .ref ld, .int (nI n), .ref lK, .ref lC, .int 0])), (kT, .inl (e1, 60, .inl (g))), (tb, .inl (e2, 366, .inl (tf)))]) sz) := by
  refine Met.ofW (cc := cX4_why) (maxL := 9) (ret := (some .int)) (by decide) rfl ?_
  intro p e s m args below meth c s₁ B hml hv
  obtain ⟨rfl, hsz, hP, hK, hD0⟩ := hv
  have hx := B.exec
  have hb := B.bytes
  have hr := B.returns
  have hts := atoms_spec (ws := wsX4_why) B.pre
  have hown : s.vm.findClass RX4 = some m.cls := findClass_of_methodNamed B.named
  have hlocks := B.notSynchronized
  subst hsz
  have hD := hD0.self (sz := s.heap.size)
  generalize hAe : va_A ([(mo, .inr (4, [.int 0, .int 1, .ref kT, .int 1, .int 0, .int 1, .int 0, .int 0, .ref tb, .ref ld, .int (nI n), .ref lK, .ref lC, .int 0])), (kT, .inl (e1, 60, .inl (g))), (tb, .inl (e2, 366, .inl (tf)))]) s.heap.size = A at hD ⊢
  have hA : ∀ q : Nat, s.heap.size ≤ q → A q := fun q h => by rw [← hAe]; exact Or.inr h
  have hS : va_S A s.heap s.heap [] := va_S.rf
  have hl := lv_entry ([.ref mo, .int 0, .int (nI a), .int (nI b), .int 0]) (n := 9) (Nat.le_of_ble_eq_true rfl)
  rw [lg_entry_eq]
  generalize (lg_sl ([.ref mo, .int 0, .int (nI a), .int (nI b), .int 0]) ++ List.replicate (9 - (lg_sl ([.ref mo, .int 0, .int (nI a), .int (nI b), .int 0])).length) Slot.unset).toArray = ls at hl ⊢
  have hl : lv_has ls 9 [(0, .ref mo), (1, .int 0), (2, .int (nI a)), (3, .int (nI b)), (4, .int 0)] := hl
  have hP : va_P D vwCl ([(mo, .inr (4, [.int 0, .int 1, .ref kT, .int 1, .int 0, .int 1, .int 0, .int 0, .ref tb, .ref ld, .int (nI n), .ref lK, .ref lC, .int 0])), (kT, .inl (e1, 60, .inl (g))), (tb, .inl (e2, 366, .inl (tf)))]) s.heap := hP
  generalize hRe : (headSpec _ _).room = R
  have hRf : R.frames = 2 := by rw [← hRe]; rfl
  have hRc : R.cells = 1 := by rw [← hRe]; rfl
  have hRs : R.slots = 6 := by rw [← hRe]; rfl
  have hRl : R.locals = 48 := by rw [← hRe]; rfl
  clear hRe
  refine lv_aload_n hx hb dX4_why_0 rfl (lv_at hl 0 rfl) ?_
  refine lv_iload_n hx hb dX4_why_1 rfl (lv_at hl 1 rfl) ?_
  refine lv_iconst (v := 5) hx hb dX4_why_2 (by decide) ?_
  refine zrdV (As := [.int 0, .int 5]) (rest := []) (wc := [(mo, .inr (4, [.int 0, .int 1, .ref kT, .int 1, .int 0, .int 1, .int 0, .int 0, .ref tb, .ref ld, .int (nI n), .ref lK, .ref lC, .int 0])), (kT, .inl (e1, 60, .inl (g)))]) ⟨hx, hb, hml, hown, hts⟩ (c_kind l D _ mo kT tb ld lK lC n e1 g 5 5 rfl (by decide)) (cwV 2 hts gX4_why_X4_kind rfl rfl rfl (by decide +kernel) ⟨by rw [hRf]; exact Nat.le_of_ble_eq_true rfl, by rw [hRl]; exact Nat.le_of_ble_eq_true rfl⟩) hK hP hD [0, 1] rfl (by decide) [0] rfl (ci := 4) (q0 := 0) rfl rfl rfl hl.1 rfl (Nat.le_of_ble_eq_true rfl) dX4_why_3 ⟨by omega, by omega⟩ (fun r_224 hr_224 => ?_)
  refine lv_topi (fun v_225 ev_225 => ?_)
  obtain rfl : v_225 = 1 := ev_225.trans (hr_224.trans hg.2.2.2.2.2)
  refine lv_istore (lv' := [(5, .int 1), (0, .ref mo), (1, .int 0), (2, .int (nI a)), (3, .int (nI b)), (4, .int 0)]) hx hb dX4_why_6 hl (by decide) rfl (fun ls hl => ?_)
  refine lv_iload hx hb dX4_why_8 (lv_at hl 5 rfl) ?_
  refine lv_if_eq (tgt := 23) hx hb dX4_why_10 (by decide) (fun c_226 => ?_) (fun c_226 => absurd (rfl) c_226)
  refine lv_aload_n hx hb dX4_why_23 rfl (lv_at hl 1 rfl) ?_
  refine lv_iload_n hx hb dX4_why_24 rfl (lv_at hl 2 rfl) ?_
  refine lv_iload hx hb dX4_why_25 (lv_at hl 5 rfl) ?_
  refine lv_if_eq (tgt := 34) hx hb dX4_why_27 (by decide) (fun c_227 => ?_) (fun c_227 => absurd (rfl) c_227)
  refine lv_iconst (v := 0) hx hb dX4_why_34 (by decide) ?_
  refine zrdV (As := [.int 0, .int 0]) (rest := []) (wc := [(mo, .inr (4, [.int 0, .int 1, .ref kT, .int 1, .int 0, .int 1, .int 0, .int 0, .ref tb, .ref ld, .int (nI n), .ref lK, .ref lC, .int 0])), (kT, .inl (e1, 60, .inl (g)))]) ⟨hx, hb, hml, hown, hts⟩ (c_kind l D _ mo kT tb ld lK lC n e1 g 0 0 rfl (by decide)) (cwV 2 hts gX4_why_X4_kind rfl rfl rfl (by decide +kernel) ⟨by rw [hRf]; exact Nat.le_of_ble_eq_true rfl, by rw [hRl]; exact Nat.le_of_ble_eq_true rfl⟩) hK hP hD [0, 1] rfl (by decide) [0] rfl (ci := 4) (q0 := 0) rfl rfl rfl hl.1 rfl (Nat.le_of_ble_eq_true rfl) dX4_why_35 ⟨by omega, by omega⟩ (fun r_228 hr_228 => ?_)
  refine lv_topi (fun v_229 ev_229 => ?_)
  obtain rfl : v_229 = 1 := ev_229.trans (hr_228.trans hg.1)
  refine lv_istore (lv' := [(6, .int 1), (5, .int 1), (0, .ref mo), (1, .int 0), (2, .int (nI a)), (3, .int (nI b)), (4, .int 0)]) hx hb dX4_why_38 hl (by decide) rfl (fun ls hl => ?_)
  refine lv_aload_n hx hb dX4_why_40 rfl (lv_at hl 2 rfl) ?_
  refine lv_iload_n hx hb dX4_why_41 rfl (lv_at hl 3 rfl) ?_
  refine lv_iload hx hb dX4_why_42 (lv_at hl 6 rfl) ?_
  refine lv_if_eq (tgt := 51) hx hb dX4_why_44 (by decide) (fun c_230 => ?_) (fun c_230 => absurd (rfl) c_230)
  refine lv_iconst (v := 1) hx hb dX4_why_51 (by decide) ?_
  refine zrdV (As := [.int 0, .int 1]) (rest := []) (wc := [(mo, .inr (4, [.int 0, .int 1, .ref kT, .int 1, .int 0, .int 1, .int 0, .int 0, .ref tb, .ref ld, .int (nI n), .ref lK, .ref lC, .int 0])), (kT, .inl (e1, 60, .inl (g)))]) ⟨hx, hb, hml, hown, hts⟩ (c_kind l D _ mo kT tb ld lK lC n e1 g 1 1 rfl (by decide)) (cwV 2 hts gX4_why_X4_kind rfl rfl rfl (by decide +kernel) ⟨by rw [hRf]; exact Nat.le_of_ble_eq_true rfl, by rw [hRl]; exact Nat.le_of_ble_eq_true rfl⟩) hK hP hD [0, 1] rfl (by decide) [0] rfl (ci := 4) (q0 := 0) rfl rfl rfl hl.1 rfl (Nat.le_of_ble_eq_true rfl) dX4_why_52 ⟨by omega, by omega⟩ (fun r_231 hr_231 => ?_)
  refine lv_topi (fun v_232 ev_232 => ?_)
  obtain rfl : v_232 = 1 := ev_232.trans (hr_231.trans hg.2.1)
  refine lv_istore (lv' := [(7, .int 1), (6, .int 1), (5, .int 1), (0, .ref mo), (1, .int 0), (2, .int (nI a)), (3, .int (nI b)), (4, .int 0)]) hx hb dX4_why_55 hl (by decide) rfl (fun ls hl => ?_)
  refine lv_iload_n hx hb dX4_why_57 rfl (lv_at hl 5 rfl) ?_
  refine lv_iconst (v := 0) hx hb dX4_why_58 (by decide) ?_
  refine lv_bipush (v := 12) hx hb dX4_why_59 (by decide) ?_
  refine lv_iload hx hb dX4_why_61 (lv_at hl 1 rfl) ?_
  refine lv_isub hx hb dX4_why_63 ?_
  refine lv_topi (fun v_233 ev_233 => ?_)
  obtain rfl : v_233 = 11 := ev_233.trans (by decide)
  refine zrdS (As := [.int (nI a), .int 0, .int 11]) (rest := []) (wc := []) ⟨hx, hb, hml, hown, hts⟩ (c_isIn l D _ (nI a) 0 11) (va_cwS 3 hts gX4_why_X4_isIn rfl rfl rfl (by decide +kernel) ⟨by rw [hRf]; exact Nat.le_of_ble_eq_true rfl, by rw [hRl]; exact Nat.le_of_ble_eq_true rfl⟩) hK hP hD [] rfl (by decide) [] rfl rfl hl.1 rfl (Nat.le_of_ble_eq_true rfl) dX4_why_64 ⟨by omega, by omega⟩ (fun r_234 hr_234 => ?_)
  refine lv_topi (fun v_235 ev_235 => ?_)
  obtain rfl : v_235 = 1 := ev_235.trans (hr_234.trans (if_pos ⟨nI_pos' (by omega), (nI_leI (b := 11) (by omega) (by decide)).mpr (by omega)⟩))
  refine lv_if_eq (tgt := 83) hx hb dX4_why_67 (by decide) (fun c_236 => absurd c_236 (by decide)) (fun c_236 => ?_)
  refine lv_iload_n hx hb dX4_why_70 rfl (lv_at hl 6 rfl) ?_
  refine lv_iconst (v := 0) hx hb dX4_why_71 (by decide) ?_
  refine lv_bipush (v := 10) hx hb dX4_why_72 (by decide) ?_
  refine lv_iload hx hb dX4_why_74 (lv_at hl 0 rfl) ?_
  refine lv_isub hx hb dX4_why_76 ?_
  refine lv_topi (fun v_237 ev_237 => ?_)
  obtain rfl : v_237 = 9 := ev_237.trans (by decide)
  refine zrdS (As := [.int (nI b), .int 0, .int 9]) (rest := []) (wc := []) ⟨hx, hb, hml, hown, hts⟩ (c_isIn l D _ (nI b) 0 9) (va_cwS 3 hts gX4_why_X4_isIn rfl rfl rfl (by decide +kernel) ⟨by rw [hRf]; exact Nat.le_of_ble_eq_true rfl, by rw [hRl]; exact Nat.le_of_ble_eq_true rfl⟩) hK hP hD [] rfl (by decide) [] rfl rfl hl.1 rfl (Nat.le_of_ble_eq_true rfl) dX4_why_77 ⟨by omega, by omega⟩ (fun r_238 hr_238 => ?_)
  refine lv_topi (fun v_239 ev_239 => ?_)
  obtain rfl : v_239 = 1 := ev_239.trans (hr_238.trans (if_pos ⟨nI_pos' (by omega), (nI_leI (b := 9) (by omega) (by decide)).mpr (by omega)⟩))
  refine lv_if_ne (tgt := 85) hx hb dX4_why_80 (by decide) (fun c_240 => ?_) (fun c_240 => absurd c_240 (by decide))
  refine lv_aload_n hx hb dX4_why_85 rfl (lv_at hl 3 rfl) ?_
  refine lv_bipush (v := 60) hx hb dX4_why_86 (by decide) ?_
  refine lv_iload_n hx hb dX4_why_88 rfl (lv_at hl 4 rfl) ?_
  refine lv_iload_n hx hb dX4_why_89 rfl (lv_at hl 5 rfl) ?_
  refine lv_iload_n hx hb dX4_why_90 rfl (lv_at hl 6 rfl) ?_
  refine lv_iload hx hb dX4_why_91 (lv_at hl 7 rfl) ?_
  refine zcallvV (As := [.int 60, .int 0, .int (nI a), .int (nI b), .int 0]) (rest := []) (wc := [(mo, .inr (4, [.int 0, .int 1, .ref kT, .int 1, .int 0, .int 1, .int 0, .int 0, .ref tb, .ref ld, .int (nI n), .ref lK, .ref lC, .int 0])), (tb, .inl (e2, 366, .inl (tf)))]) (wr := [(kT, .inl (e1, 60, .inl (g)))]) ⟨hx, hb, hml, hown, hts⟩ (c_lay l D _ mo kT tb ld lK lC n e2 tf a b 0 (by decide)) (cwV 5 hts gX4_why_X4_lay rfl rfl rfl (by decide +kernel) ⟨by rw [hRf]; exact Nat.le_of_ble_eq_true rfl, by rw [hRl]; exact Nat.le_of_ble_eq_true rfl⟩) hK hP hD hS hA [0, 2] [1] rfl (by decide) rfl (by decide) (by decide) [1] rfl (ci := 4) (q0 := 0) rfl rfl rfl hl.1 rfl (Nat.le_of_ble_eq_true rfl) dX4_why_93 ⟨by omega, by omega⟩ (fun u_242 H locs hwu_242 hnu_242 hzu_242 hK hP hD hS => ?_)
  have hK : va_K D vwCl [(e1, .int), (e2, .int)] s := hK
  have hP : va_P D vwCl ([(kT, .inl (e1, 60, .inl (g))), (mo, .inr (4, [.int 0, .int 1, .ref kT, .int 1, .int 0, .int 1, .int 0, .int 0, .ref tb, .ref ld, .int (nI n), .ref lK, .ref lC, .int 0])), (tb, .inl (e2, 366, .inl (u_242)))]) H := hP
  have hD : va_D A ([(kT, .inl (e1, 60, .inl (g))), (mo, .inr (4, [.int 0, .int 1, .ref kT, .int 1, .int 0, .int 1, .int 0, .int 0, .ref tb, .ref ld, .int (nI n), .ref lK, .ref lC, .int 0])), (tb, .inl (e2, 366, .inl (u_242)))]) := hD
  have hP := hP.sub (ws' := [(mo, .inr (4, [.int 0, .int 1, .ref kT, .int 1, .int 0, .int 1, .int 0, .int 0, .ref tb, .ref ld, .int (nI n), .ref lK, .ref lC, .int 0])), (kT, .inl (e1, 60, .inl (g))), (tb, .inl (e2, 366, .inl (u_242)))]) [1, 0, 2] rfl
  have hD := hD.sub (ws' := [(mo, .inr (4, [.int 0, .int 1, .ref kT, .int 1, .int 0, .int 1, .int 0, .int 0, .ref tb, .ref ld, .int (nI n), .ref lK, .ref lC, .int 0])), (kT, .inl (e1, 60, .inl (g))), (tb, .inl (e2, 366, .inl (u_242)))]) [1, 0, 2] (by decide) rfl
  refine lv_aload_n hx hb dX4_why_96 rfl (lv_at hl 3 rfl) ?_
  refine lv_bipush (v := 60) hx hb dX4_why_97 (by decide) ?_
  refine zrdV (As := [.int 60]) (rest := []) (wc := [(mo, .inr (4, [.int 0, .int 1, .ref kT, .int 1, .int 0, .int 1, .int 0, .int 0, .ref tb, .ref ld, .int (nI n), .ref lK, .ref lC, .int 0])), (kT, .inl (e1, 60, .inl (g))), (tb, .inl (e2, 366, .inl (u_242)))]) ⟨hx, hb, hml, hown, hts⟩ (c_topOfM l D _ mo kT tb ld lK lC n e1 e2 g hg u_242 hwu_242.1 hwu_242.2) (cwV 1 hts gX4_why_X4_topOf rfl rfl rfl (by decide +kernel) ⟨by rw [hRf]; exact Nat.le_of_ble_eq_true rfl, by rw [hRl]; exact Nat.le_of_ble_eq_true rfl⟩) hK hP hD [0, 1, 2] rfl (by decide) [0, 1] rfl (ci := 4) (q0 := 0) rfl rfl rfl hl.1 rfl (Nat.le_of_ble_eq_true rfl) dX4_why_99 ⟨by omega, by omega⟩ (fun r_243 hr_243 => ?_)
  refine lv_topi (fun v_244 ev_244 => ?_)
  obtain rfl : v_244 = 2 := ev_244.trans hr_243
  refine lv_aload_n hx hb dX4_why_102 rfl (lv_at hl 3 rfl) ?_
  refine va_get (D := D) (ci := 4) (v := .int 1) (C := RX4) (T := TX4) (N := 14) hx hb hts (fun _ h9 => List.mem_cons_of_mem _ (List.mem_append_right _ h9)) hown hK hP 0 rfl rfl 3 (by decide) (hts (.fieldLink RX4 13 "PalletStackModel" "highest" "I") (List.mem_of_getElem? (i := 1) (by rfl))) (fun _ h9 => h9) rfl dX4_why_103 ?_
  refine lv_icmp_le (tgt := 111) hx hb dX4_why_106 (by decide) (fun c_245 => absurd c_245 (by decide)) (fun c_245 => ?_)
  refine lv_iconst (v := 2) hx hb dX4_why_109 (by decide) ?_
  refine W.widen (k := 1) (n := 6) (by omega) (by omega) ?_
  exact W.iret (v := 2) hx hb hr (fun t ht hW => ⟨⟨2, u_242, rfl, rfl, ⟨(by rw [ht]; exact hnu_242), by rw [ht]; exact hP, va_K.moved hW.alike (hK.sub (tys' := []) [] rfl), hD⟩⟩, hS.F ht⟩) hS.2.2 dX4_why_110
set_option maxHeartbeats 4000000 in
set_option maxRecDepth 100000 in
theorem c_why_1 (l : Launch) (D : zG) (sz : Nat) (mo kT tb ld lK lC n : Nat) (e1 e2 : ClassId) (g : Nat → Int32) (hg : g 0 = 1 ∧ g 1 = 1 ∧ g 2 = 2 ∧ g 3 = 1 ∧ g 4 = 0 ∧ g 5 = 1) (tf : Nat → Int32) (a b : Nat) (ha : a < 12) (hb2 : b < 10) : Met l yX4_why wsX4_why ({ frames := 2, cells := 1, slots := 6, locals := 48 }) (zPc D [(e1, .int), (e2, .int)] ([(mo, .inr (4, [.int 0, .int 1, .ref kT, .int 1, .int 0, .int 1, .int 0, .int 0, .ref tb, .ref ld, .int (nI n), .ref lK, .ref lC, .int 0])), (kT, .inl (e1, 60, .inl (g))), (tb, .inl (e2, 366, .inl (tf)))]) sz [.ref mo, .int 0, .int (nI a), .int (nI b), .int 1]) (va_Qi (fun (r : Int32) (u : Nat → Int32) => r = 2) (zB D (va_A ([(mo, .inr (4, [.int 0, .int 1, .ref kT, .int 1, .int 0, .int 1, .int 0, .int 0, .ref tb, .ref ld, .int (nI n), .ref lK, .ref lC, .int 0])), (kT, .inl (e1, 60, .inl (g))), (tb, .inl (e2, 366, .inl (tf)))]) sz) (fun _ => []) (sz + 1) (fun u => [(mo, .inr (4, [.int 0, .int 1, .ref kT, .int 1, .int 0, .int 1, .int 0, .int 0, .ref tb, .ref ld, .int (nI n), .ref lK, .ref lC, .int 0])), (kT, .inl (e1, 60, .inl (g))), (tb, .inl (e2, 366, .inl (u)))])) (va_A ([(mo, .inr (4, [.int 0, .int 1, .ref kT, .int 1, .int 0, .int 1, .int 0, .int 0, .ref tb, .ref ld, .int (nI n), .ref lK, .ref lC, .int 0])), (kT, .inl (e1, 60, .inl (g))), (tb, .inl (e2, 366, .inl (tf)))]) sz)) 1 6 (va_A ([(mo, .inr (4, [.int 0, .int 1, .ref kT, .int 1, .int 0, .int 1, .int 0, .int 0, .ref tb, .ref ld, .int (nI n), .ref lK, .ref lC, .int 0])), (kT, .inl (e1, 60, .inl (g))), (tb, .inl (e2, 366, .inl (tf)))]) sz) := by
  refine Met.ofW (cc := cX4_why) (maxL := 9) (ret := (some .int)) (by decide) rfl ?_
  intro p e s m args below meth c s₁ B hml hv
  obtain ⟨rfl, hsz, hP, hK, hD0⟩ := hv
  have hx := B.exec
  have hb := B.bytes
  have hr := B.returns
  have hts := atoms_spec (ws := wsX4_why) B.pre
  have hown : s.vm.findClass RX4 = some m.cls := findClass_of_methodNamed B.named
  have hlocks := B.notSynchronized
  subst hsz
  have hD := hD0.self (sz := s.heap.size)
  generalize hAe : va_A ([(mo, .inr (4, [.int 0, .int 1, .ref kT, .int 1, .int 0, .int 1, .int 0, .int 0, .ref tb, .ref ld, .int (nI n), .ref lK, .ref lC, .int 0])), (kT, .inl (e1, 60, .inl (g))), (tb, .inl (e2, 366, .inl (tf)))]) s.heap.size = A at hD ⊢
  have hA : ∀ q : Nat, s.heap.size ≤ q → A q := fun q h => by rw [← hAe]; exact Or.inr h
  have hS : va_S A s.heap s.heap [] := va_S.rf
  have hl := lv_entry ([.ref mo, .int 0, .int (nI a), .int (nI b), .int 1]) (n := 9) (Nat.le_of_ble_eq_true rfl)
  rw [lg_entry_eq]
  generalize (lg_sl ([.ref mo, .int 0, .int (nI a), .int (nI b), .int 1]) ++ List.replicate (9 - (lg_sl ([.ref mo, .int 0, .int (nI a), .int (nI b), .int 1])).length) Slot.unset).toArray = ls at hl ⊢
  have hl : lv_has ls 9 [(0, .ref mo), (1, .int 0), (2, .int (nI a)), (3, .int (nI b)), (4, .int 1)] := hl
  have hP : va_P D vwCl ([(mo, .inr (4, [.int 0, .int 1, .ref kT, .int 1, .int 0, .int 1, .int 0, .int 0, .ref tb, .ref ld, .int (nI n), .ref lK, .ref lC, .int 0])), (kT, .inl (e1, 60, .inl (g))), (tb, .inl (e2, 366, .inl (tf)))]) s.heap := hP
  generalize hRe : (headSpec _ _).room = R
  have hRf : R.frames = 2 := by rw [← hRe]; rfl
  have hRc : R.cells = 1 := by rw [← hRe]; rfl
  have hRs : R.slots = 6 := by rw [← hRe]; rfl
  have hRl : R.locals = 48 := by rw [← hRe]; rfl
  clear hRe
  refine lv_aload_n hx hb dX4_why_0 rfl (lv_at hl 0 rfl) ?_
  refine lv_iload_n hx hb dX4_why_1 rfl (lv_at hl 1 rfl) ?_
  refine lv_iconst (v := 5) hx hb dX4_why_2 (by decide) ?_
  refine zrdV (As := [.int 0, .int 5]) (rest := []) (wc := [(mo, .inr (4, [.int 0, .int 1, .ref kT, .int 1, .int 0, .int 1, .int 0, .int 0, .ref tb, .ref ld, .int (nI n), .ref lK, .ref lC, .int 0])), (kT, .inl (e1, 60, .inl (g)))]) ⟨hx, hb, hml, hown, hts⟩ (c_kind l D _ mo kT tb ld lK lC n e1 g 5 5 rfl (by decide)) (cwV 2 hts gX4_why_X4_kind rfl rfl rfl (by decide +kernel) ⟨by rw [hRf]; exact Nat.le_of_ble_eq_true rfl, by rw [hRl]; exact Nat.le_of_ble_eq_true rfl⟩) hK hP hD [0, 1] rfl (by decide) [0] rfl (ci := 4) (q0 := 0) rfl rfl rfl hl.1 rfl (Nat.le_of_ble_eq_true rfl) dX4_why_3 ⟨by omega, by omega⟩ (fun r_246 hr_246 => ?_)
  refine lv_topi (fun v_247 ev_247 => ?_)
  obtain rfl : v_247 = 1 := ev_247.trans (hr_246.trans hg.2.2.2.2.2)
  refine lv_istore (lv' := [(5, .int 1), (0, .ref mo), (1, .int 0), (2, .int (nI a)), (3, .int (nI b)), (4, .int 1)]) hx hb dX4_why_6 hl (by decide) rfl (fun ls hl => ?_)
  refine lv_iload hx hb dX4_why_8 (lv_at hl 5 rfl) ?_
  refine lv_if_eq (tgt := 23) hx hb dX4_why_10 (by decide) (fun c_248 => absurd c_248 (by decide)) (fun c_248 => ?_)
  refine lv_iload hx hb dX4_why_13 (lv_at hl 0 rfl) ?_
  refine zrdS (As := [.int 1]) (rest := []) (wc := []) ⟨hx, hb, hml, hown, hts⟩ (c_canTurn l D _) (va_cwS 1 hts gX4_why_X4_canTurn rfl rfl rfl (by decide +kernel) ⟨by rw [hRf]; exact Nat.le_of_ble_eq_true rfl, by rw [hRl]; exact Nat.le_of_ble_eq_true rfl⟩) hK hP hD [] rfl (by decide) [] rfl rfl hl.1 rfl (Nat.le_of_ble_eq_true rfl) dX4_why_15 ⟨by omega, by omega⟩ (fun r_249 hr_249 => ?_)
  refine lv_topi (fun v_250 ev_250 => ?_)
  obtain rfl : v_250 = 1 := ev_250.trans hr_249
  refine lv_if_ne (tgt := 23) hx hb dX4_why_18 (by decide) (fun c_251 => ?_) (fun c_251 => absurd c_251 (by decide))
  refine lv_aload_n hx hb dX4_why_23 rfl (lv_at hl 1 rfl) ?_
  refine lv_iload_n hx hb dX4_why_24 rfl (lv_at hl 2 rfl) ?_
  refine lv_iload hx hb dX4_why_25 (lv_at hl 5 rfl) ?_
  refine lv_if_eq (tgt := 34) hx hb dX4_why_27 (by decide) (fun c_252 => absurd c_252 (by decide)) (fun c_252 => ?_)
  refine lv_iconst (v := 1) hx hb dX4_why_30 (by decide) ?_
  refine lv_goto (tgt := 35) hx hb dX4_why_31 (by decide) ?_
  refine zrdV (As := [.int 0, .int 1]) (rest := []) (wc := [(mo, .inr (4, [.int 0, .int 1, .ref kT, .int 1, .int 0, .int 1, .int 0, .int 0, .ref tb, .ref ld, .int (nI n), .ref lK, .ref lC, .int 0])), (kT, .inl (e1, 60, .inl (g)))]) ⟨hx, hb, hml, hown, hts⟩ (c_kind l D _ mo kT tb ld lK lC n e1 g 1 1 rfl (by decide)) (cwV 2 hts gX4_why_X4_kind rfl rfl rfl (by decide +kernel) ⟨by rw [hRf]; exact Nat.le_of_ble_eq_true rfl, by rw [hRl]; exact Nat.le_of_ble_eq_true rfl⟩) hK hP hD [0, 1] rfl (by decide) [0] rfl (ci := 4) (q0 := 0) rfl rfl rfl hl.1 rfl (Nat.le_of_ble_eq_true rfl) dX4_why_35 ⟨by omega, by omega⟩ (fun r_253 hr_253 => ?_)
  refine lv_topi (fun v_254 ev_254 => ?_)
  obtain rfl : v_254 = 1 := ev_254.trans (hr_253.trans hg.2.1)
  refine lv_istore (lv' := [(6, .int 1), (5, .int 1), (0, .ref mo), (1, .int 0), (2, .int (nI a)), (3, .int (nI b)), (4, .int 1)]) hx hb dX4_why_38 hl (by decide) rfl (fun ls hl => ?_)
  refine lv_aload_n hx hb dX4_why_40 rfl (lv_at hl 2 rfl) ?_
  refine lv_iload_n hx hb dX4_why_41 rfl (lv_at hl 3 rfl) ?_
  refine lv_iload hx hb dX4_why_42 (lv_at hl 6 rfl) ?_
  refine lv_if_eq (tgt := 51) hx hb dX4_why_44 (by decide) (fun c_255 => absurd c_255 (by decide)) (fun c_255 => ?_)
  refine lv_iconst (v := 0) hx hb dX4_why_47 (by decide) ?_
  refine lv_goto (tgt := 52) hx hb dX4_why_48 (by decide) ?_
  refine zrdV (As := [.int 0, .int 0]) (rest := []) (wc := [(mo, .inr (4, [.int 0, .int 1, .ref kT, .int 1, .int 0, .int 1, .int 0, .int 0, .ref tb, .ref ld, .int (nI n), .ref lK, .ref lC, .int 0])), (kT, .inl (e1, 60, .inl (g)))]) ⟨hx, hb, hml, hown, hts⟩ (c_kind l D _ mo kT tb ld lK lC n e1 g 0 0 rfl (by decide)) (cwV 2 hts gX4_why_X4_kind rfl rfl rfl (by decide +kernel) ⟨by rw [hRf]; exact Nat.le_of_ble_eq_true rfl, by rw [hRl]; exact Nat.le_of_ble_eq_true rfl⟩) hK hP hD [0, 1] rfl (by decide) [0] rfl (ci := 4) (q0 := 0) rfl rfl rfl hl.1 rfl (Nat.le_of_ble_eq_true rfl) dX4_why_52 ⟨by omega, by omega⟩ (fun r_256 hr_256 => ?_)
  refine lv_topi (fun v_257 ev_257 => ?_)
  obtain rfl : v_257 = 1 := ev_257.trans (hr_256.trans hg.1)
  refine lv_istore (lv' := [(7, .int 1), (6, .int 1), (5, .int 1), (0, .ref mo), (1, .int 0), (2, .int (nI a)), (3, .int (nI b)), (4, .int 1)]) hx hb dX4_why_55 hl (by decide) rfl (fun ls hl => ?_)
  refine lv_iload_n hx hb dX4_why_57 rfl (lv_at hl 5 rfl) ?_
  refine lv_iconst (v := 0) hx hb dX4_why_58 (by decide) ?_
  refine lv_bipush (v := 12) hx hb dX4_why_59 (by decide) ?_
  refine lv_iload hx hb dX4_why_61 (lv_at hl 1 rfl) ?_
  refine lv_isub hx hb dX4_why_63 ?_
  refine lv_topi (fun v_258 ev_258 => ?_)
  obtain rfl : v_258 = 11 := ev_258.trans (by decide)
  refine zrdS (As := [.int (nI a), .int 0, .int 11]) (rest := []) (wc := []) ⟨hx, hb, hml, hown, hts⟩ (c_isIn l D _ (nI a) 0 11) (va_cwS 3 hts gX4_why_X4_isIn rfl rfl rfl (by decide +kernel) ⟨by rw [hRf]; exact Nat.le_of_ble_eq_true rfl, by rw [hRl]; exact Nat.le_of_ble_eq_true rfl⟩) hK hP hD [] rfl (by decide) [] rfl rfl hl.1 rfl (Nat.le_of_ble_eq_true rfl) dX4_why_64 ⟨by omega, by omega⟩ (fun r_259 hr_259 => ?_)
  refine lv_topi (fun v_260 ev_260 => ?_)
  obtain rfl : v_260 = 1 := ev_260.trans (hr_259.trans (if_pos ⟨nI_pos' (by omega), (nI_leI (b := 11) (by omega) (by decide)).mpr (by omega)⟩))
  refine lv_if_eq (tgt := 83) hx hb dX4_why_67 (by decide) (fun c_261 => absurd c_261 (by decide)) (fun c_261 => ?_)
  refine lv_iload_n hx hb dX4_why_70 rfl (lv_at hl 6 rfl) ?_
  refine lv_iconst (v := 0) hx hb dX4_why_71 (by decide) ?_
  refine lv_bipush (v := 10) hx hb dX4_why_72 (by decide) ?_
  refine lv_iload hx hb dX4_why_74 (lv_at hl 0 rfl) ?_
  refine lv_isub hx hb dX4_why_76 ?_
  refine lv_topi (fun v_262 ev_262 => ?_)
  obtain rfl : v_262 = 9 := ev_262.trans (by decide)
  refine zrdS (As := [.int (nI b), .int 0, .int 9]) (rest := []) (wc := []) ⟨hx, hb, hml, hown, hts⟩ (c_isIn l D _ (nI b) 0 9) (va_cwS 3 hts gX4_why_X4_isIn rfl rfl rfl (by decide +kernel) ⟨by rw [hRf]; exact Nat.le_of_ble_eq_true rfl, by rw [hRl]; exact Nat.le_of_ble_eq_true rfl⟩) hK hP hD [] rfl (by decide) [] rfl rfl hl.1 rfl (Nat.le_of_ble_eq_true rfl) dX4_why_77 ⟨by omega, by omega⟩ (fun r_263 hr_263 => ?_)
  refine lv_topi (fun v_264 ev_264 => ?_)
  obtain rfl : v_264 = 1 := ev_264.trans (hr_263.trans (if_pos ⟨nI_pos' (by omega), (nI_leI (b := 9) (by omega) (by decide)).mpr (by omega)⟩))
  refine lv_if_ne (tgt := 85) hx hb dX4_why_80 (by decide) (fun c_265 => ?_) (fun c_265 => absurd c_265 (by decide))
  refine lv_aload_n hx hb dX4_why_85 rfl (lv_at hl 3 rfl) ?_
  refine lv_bipush (v := 60) hx hb dX4_why_86 (by decide) ?_
  refine lv_iload_n hx hb dX4_why_88 rfl (lv_at hl 4 rfl) ?_
  refine lv_iload_n hx hb dX4_why_89 rfl (lv_at hl 5 rfl) ?_
  refine lv_iload_n hx hb dX4_why_90 rfl (lv_at hl 6 rfl) ?_
  refine lv_iload hx hb dX4_why_91 (lv_at hl 7 rfl) ?_
  refine zcallvV (As := [.int 60, .int 0, .int (nI a), .int (nI b), .int 1]) (rest := []) (wc := [(mo, .inr (4, [.int 0, .int 1, .ref kT, .int 1, .int 0, .int 1, .int 0, .int 0, .ref tb, .ref ld, .int (nI n), .ref lK, .ref lC, .int 0])), (tb, .inl (e2, 366, .inl (tf)))]) (wr := [(kT, .inl (e1, 60, .inl (g)))]) ⟨hx, hb, hml, hown, hts⟩ (c_lay l D _ mo kT tb ld lK lC n e2 tf a b 1 (by decide)) (cwV 5 hts gX4_why_X4_lay rfl rfl rfl (by decide +kernel) ⟨by rw [hRf]; exact Nat.le_of_ble_eq_true rfl, by rw [hRl]; exact Nat.le_of_ble_eq_true rfl⟩) hK hP hD hS hA [0, 2] [1] rfl (by decide) rfl (by decide) (by decide) [1] rfl (ci := 4) (q0 := 0) rfl rfl rfl hl.1 rfl (Nat.le_of_ble_eq_true rfl) dX4_why_93 ⟨by omega, by omega⟩ (fun u_267 H locs hwu_267 hnu_267 hzu_267 hK hP hD hS => ?_)
  have hK : va_K D vwCl [(e1, .int), (e2, .int)] s := hK
  have hP : va_P D vwCl ([(kT, .inl (e1, 60, .inl (g))), (mo, .inr (4, [.int 0, .int 1, .ref kT, .int 1, .int 0, .int 1, .int 0, .int 0, .ref tb, .ref ld, .int (nI n), .ref lK, .ref lC, .int 0])), (tb, .inl (e2, 366, .inl (u_267)))]) H := hP
  have hD : va_D A ([(kT, .inl (e1, 60, .inl (g))), (mo, .inr (4, [.int 0, .int 1, .ref kT, .int 1, .int 0, .int 1, .int 0, .int 0, .ref tb, .ref ld, .int (nI n), .ref lK, .ref lC, .int 0])), (tb, .inl (e2, 366, .inl (u_267)))]) := hD
  have hP := hP.sub (ws' := [(mo, .inr (4, [.int 0, .int 1, .ref kT, .int 1, .int 0, .int 1, .int 0, .int 0, .ref tb, .ref ld, .int (nI n), .ref lK, .ref lC, .int 0])), (kT, .inl (e1, 60, .inl (g))), (tb, .inl (e2, 366, .inl (u_267)))]) [1, 0, 2] rfl
  have hD := hD.sub (ws' := [(mo, .inr (4, [.int 0, .int 1, .ref kT, .int 1, .int 0, .int 1, .int 0, .int 0, .ref tb, .ref ld, .int (nI n), .ref lK, .ref lC, .int 0])), (kT, .inl (e1, 60, .inl (g))), (tb, .inl (e2, 366, .inl (u_267)))]) [1, 0, 2] (by decide) rfl
  refine lv_aload_n hx hb dX4_why_96 rfl (lv_at hl 3 rfl) ?_
  refine lv_bipush (v := 60) hx hb dX4_why_97 (by decide) ?_
  refine zrdV (As := [.int 60]) (rest := []) (wc := [(mo, .inr (4, [.int 0, .int 1, .ref kT, .int 1, .int 0, .int 1, .int 0, .int 0, .ref tb, .ref ld, .int (nI n), .ref lK, .ref lC, .int 0])), (kT, .inl (e1, 60, .inl (g))), (tb, .inl (e2, 366, .inl (u_267)))]) ⟨hx, hb, hml, hown, hts⟩ (c_topOfM l D _ mo kT tb ld lK lC n e1 e2 g hg u_267 hwu_267.1 hwu_267.2) (cwV 1 hts gX4_why_X4_topOf rfl rfl rfl (by decide +kernel) ⟨by rw [hRf]; exact Nat.le_of_ble_eq_true rfl, by rw [hRl]; exact Nat.le_of_ble_eq_true rfl⟩) hK hP hD [0, 1, 2] rfl (by decide) [0, 1] rfl (ci := 4) (q0 := 0) rfl rfl rfl hl.1 rfl (Nat.le_of_ble_eq_true rfl) dX4_why_99 ⟨by omega, by omega⟩ (fun r_268 hr_268 => ?_)
  refine lv_topi (fun v_269 ev_269 => ?_)
  obtain rfl : v_269 = 2 := ev_269.trans hr_268
  refine lv_aload_n hx hb dX4_why_102 rfl (lv_at hl 3 rfl) ?_
  refine va_get (D := D) (ci := 4) (v := .int 1) (C := RX4) (T := TX4) (N := 14) hx hb hts (fun _ h9 => List.mem_cons_of_mem _ (List.mem_append_right _ h9)) hown hK hP 0 rfl rfl 3 (by decide) (hts (.fieldLink RX4 13 "PalletStackModel" "highest" "I") (List.mem_of_getElem? (i := 1) (by rfl))) (fun _ h9 => h9) rfl dX4_why_103 ?_
  refine lv_icmp_le (tgt := 111) hx hb dX4_why_106 (by decide) (fun c_270 => absurd c_270 (by decide)) (fun c_270 => ?_)
  refine lv_iconst (v := 2) hx hb dX4_why_109 (by decide) ?_
  refine W.widen (k := 1) (n := 6) (by omega) (by omega) ?_
  exact W.iret (v := 2) hx hb hr (fun t ht hW => ⟨⟨2, u_267, rfl, rfl, ⟨(by rw [ht]; exact hnu_267), by rw [ht]; exact hP, va_K.moved hW.alike (hK.sub (tys' := []) [] rfl), hD⟩⟩, hS.F ht⟩) hS.2.2 dX4_why_110
theorem c_why (l : Launch) (D : zG) (sz : Nat) (mo kT tb ld lK lC n : Nat) (e1 e2 : ClassId) (g : Nat → Int32) (hg : g 0 = 1 ∧ g 1 = 1 ∧ g 2 = 2 ∧ g 3 = 1 ∧ g 4 = 0 ∧ g 5 = 1) (tf : Nat → Int32) (a b : Nat) (ha : a < 12) (hb2 : b < 10) (t : Int32) (ht : t = 0 ∨ t = 1) : Met l yX4_why wsX4_why ({ frames := 2, cells := 1, slots := 6, locals := 48 }) (zPc D [(e1, .int), (e2, .int)] ([(mo, .inr (4, [.int 0, .int 1, .ref kT, .int 1, .int 0, .int 1, .int 0, .int 0, .ref tb, .ref ld, .int (nI n), .ref lK, .ref lC, .int 0])), (kT, .inl (e1, 60, .inl (g))), (tb, .inl (e2, 366, .inl (tf)))]) sz [.ref mo, .int 0, .int (nI a), .int (nI b), .int t]) (va_Qi (fun (r : Int32) (u : Nat → Int32) => r = 2) (zB D (va_A ([(mo, .inr (4, [.int 0, .int 1, .ref kT, .int 1, .int 0, .int 1, .int 0, .int 0, .ref tb, .ref ld, .int (nI n), .ref lK, .ref lC, .int 0])), (kT, .inl (e1, 60, .inl (g))), (tb, .inl (e2, 366, .inl (tf)))]) sz) (fun _ => []) (sz + 1) (fun u => [(mo, .inr (4, [.int 0, .int 1, .ref kT, .int 1, .int 0, .int 1, .int 0, .int 0, .ref tb, .ref ld, .int (nI n), .ref lK, .ref lC, .int 0])), (kT, .inl (e1, 60, .inl (g))), (tb, .inl (e2, 366, .inl (u)))])) (va_A ([(mo, .inr (4, [.int 0, .int 1, .ref kT, .int 1, .int 0, .int 1, .int 0, .int 0, .ref tb, .ref ld, .int (nI n), .ref lK, .ref lC, .int 0])), (kT, .inl (e1, 60, .inl (g))), (tb, .inl (e2, 366, .inl (tf)))]) sz)) 1 6 (va_A ([(mo, .inr (4, [.int 0, .int 1, .ref kT, .int 1, .int 0, .int 1, .int 0, .int 0, .ref tb, .ref ld, .int (nI n), .ref lK, .ref lC, .int 0])), (kT, .inl (e1, 60, .inl (g))), (tb, .inl (e2, 366, .inl (tf)))]) sz) := by
  rcases ht with rfl | rfl
  · exact c_why_0 l D sz mo kT tb ld lK lC n e1 e2 g hg tf a b ha hb2
  · exact c_why_1 l D sz mo kT tb ld lK lC n e1 e2 g hg tf a b ha hb2
set_option maxHeartbeats 4000000 in
set_option maxRecDepth 100000 in
theorem c_bestFor (l : Launch) (D : zG) (sz : Nat) (mo kT tb ld lK lC n : Nat) (e1 e2 : ClassId) (g : Nat → Int32) (hg : g 0 = 1 ∧ g 1 = 1 ∧ g 2 = 2 ∧ g 3 = 1 ∧ g 4 = 0 ∧ g 5 = 1) (tf : Nat → Int32) : Met l yX4_bestFor wsX4_bestFor ({ frames := 3, cells := 240, slots := 1440, locals := 76 }) (zPc D [(e1, .int), (e2, .int)] ([(mo, .inr (4, [.int 0, .int 1, .ref kT, .int 1, .int 0, .int 1, .int 0, .int 0, .ref tb, .ref ld, .int (nI n), .ref lK, .ref lC, .int 0])), (kT, .inl (e1, 60, .inl (g))), (tb, .inl (e2, 366, .inl (tf)))]) sz [.ref mo, .int 0]) (va_Qi (fun (r : Int32) (u : Nat → Int32) => r = -1) (zB D (va_A ([(mo, .inr (4, [.int 0, .int 1, .ref kT, .int 1, .int 0, .int 1, .int 0, .int 0, .ref tb, .ref ld, .int (nI n), .ref lK, .ref lC, .int 0])), (kT, .inl (e1, 60, .inl (g))), (tb, .inl (e2, 366, .inl (tf)))]) sz) (fun _ => []) (sz + 240) (fun u => [(mo, .inr (4, [.int 0, .int 1, .ref kT, .int 1, .int 0, .int 1, .int 0, .int 0, .ref tb, .ref ld, .int (nI n), .ref lK, .ref lC, .int 0])), (kT, .inl (e1, 60, .inl (g))), (tb, .inl (e2, 366, .inl (u)))])) (va_A ([(mo, .inr (4, [.int 0, .int 1, .ref kT, .int 1, .int 0, .int 1, .int 0, .int 0, .ref tb, .ref ld, .int (nI n), .ref lK, .ref lC, .int 0])), (kT, .inl (e1, 60, .inl (g))), (tb, .inl (e2, 366, .inl (tf)))]) sz)) 240 1440 (va_A ([(mo, .inr (4, [.int 0, .int 1, .ref kT, .int 1, .int 0, .int 1, .int 0, .int 0, .ref tb, .ref ld, .int (nI n), .ref lK, .ref lC, .int 0])), (kT, .inl (e1, 60, .inl (g))), (tb, .inl (e2, 366, .inl (tf)))]) sz) := by
  refine Met.ofW (cc := cX4_bestFor) (maxL := 8) (ret := (some .int)) (by decide) rfl ?_
  intro p e s m args below meth c s₁ B hml hv
  obtain ⟨rfl, hsz, hP, hK, hD0⟩ := hv
  have hx := B.exec
  have hb := B.bytes
  have hr := B.returns
  have hts := atoms_spec (ws := wsX4_bestFor) B.pre
  have hown : s.vm.findClass RX4 = some m.cls := findClass_of_methodNamed B.named
  have hlocks := B.notSynchronized
  subst hsz
  have hD := hD0.self (sz := s.heap.size)
  generalize hAe : va_A ([(mo, .inr (4, [.int 0, .int 1, .ref kT, .int 1, .int 0, .int 1, .int 0, .int 0, .ref tb, .ref ld, .int (nI n), .ref lK, .ref lC, .int 0])), (kT, .inl (e1, 60, .inl (g))), (tb, .inl (e2, 366, .inl (tf)))]) s.heap.size = A at hD ⊢
  have hA : ∀ q : Nat, s.heap.size ≤ q → A q := fun q h => by rw [← hAe]; exact Or.inr h
  have hS : va_S A s.heap s.heap [] := va_S.rf
  have hl := lv_entry ([.ref mo, .int 0]) (n := 8) (Nat.le_of_ble_eq_true rfl)
  rw [lg_entry_eq]
  generalize (lg_sl ([.ref mo, .int 0]) ++ List.replicate (8 - (lg_sl ([.ref mo, .int 0])).length) Slot.unset).toArray = ls at hl ⊢
  have hl : lv_has ls 8 [(0, .ref mo), (1, .int 0)] := hl
  have hP : va_P D vwCl ([(mo, .inr (4, [.int 0, .int 1, .ref kT, .int 1, .int 0, .int 1, .int 0, .int 0, .ref tb, .ref ld, .int (nI n), .ref lK, .ref lC, .int 0])), (kT, .inl (e1, 60, .inl (g))), (tb, .inl (e2, 366, .inl (tf)))]) s.heap := hP
  generalize hRe : (headSpec _ _).room = R
  have hRf : R.frames = 3 := by rw [← hRe]; rfl
  have hRc : R.cells = 240 := by rw [← hRe]; rfl
  have hRs : R.slots = 1440 := by rw [← hRe]; rfl
  have hRl : R.locals = 76 := by rw [← hRe]; rfl
  clear hRe
  refine lv_iconst (v := (-1)) hx hb dX4_bestFor_0 (by decide) ?_
  refine lv_istore_n (lv' := [(2, .int (-1)), (0, .ref mo), (1, .int 0)]) hx hb dX4_bestFor_1 rfl hl (by decide) rfl (fun ls hl => ?_)
  refine lv_iconst (v := 0) hx hb dX4_bestFor_2 (by decide) ?_
  refine lv_istore_n (lv' := [(3, .int 0), (2, .int (-1)), (0, .ref mo), (1, .int 0)]) hx hb dX4_bestFor_3 rfl hl (by decide) rfl (fun ls hl => ?_)
  refine lv_iconst (v := 0) hx hb dX4_bestFor_4 (by decide) ?_
  refine lv_istore (lv' := [(4, .int 0), (3, .int 0), (2, .int (-1)), (0, .ref mo), (1, .int 0)]) hx hb dX4_bestFor_5 hl (by decide) rfl (fun ls hl => ?_)
  refine lv_iconst (v := 0) hx hb dX4_bestFor_7 (by decide) ?_
  refine lv_istore (lv' := [(5, .int 0), (4, .int 0), (3, .int 0), (2, .int (-1)), (0, .ref mo), (1, .int 0)]) hx hb dX4_bestFor_8 hl (by decide) rfl (fun ls hl => ?_)
  generalize hQe : MQ _ _ _ _ _ _ _ = Q
  have hl := lv_sub hl (l' := [(5, .int 0), (4, .int 0), (3, .int 0), (2, .int (-1)), (1, .int 0), (0, .ref mo)]) [0, 1, 2, 3, 5, 4] rfl
  have loop : ∀ (k c1 : Nat), c1 + k = 240 → ∀ (tf : Nat → Int32) (H : Heap) (locs : List Loc) (ls : Array Slot), s.heap.size + c1 ≤ H.size → va_P D vwCl ([(mo, .inr (4, [.int 0, .int 1, .ref kT, .int 1, .int 0, .int 1, .int 0, .int 0, .ref tb, .ref ld, .int (nI n), .ref lK, .ref lC, .int 0])), (kT, .inl (e1, 60, .inl (g))), (tb, .inl (e2, 366, .inl (tf)))]) H → va_D A ([(mo, .inr (4, [.int 0, .int 1, .ref kT, .int 1, .int 0, .int 1, .int 0, .int 0, .ref tb, .ref ld, .int (nI n), .ref lK, .ref lC, .int 0])), (kT, .inl (e1, 60, .inl (g))), (tb, .inl (e2, 366, .inl (tf)))]) → va_S A s.heap H locs → lv_has ls 8 [(5, .int (nI c1)), (4, .int 0), (3, .int 0), (2, .int (-1)), (1, .int 0), (0, .ref mo)] → W p l e R s m ([.ref mo, .int 0] : List Value).toArray below meth c H locs c1 (6 * c1) Q (F0 m 10 ls []) := by
    intro k
    induction k with
    | zero =>
      intro c1 hc tf H locs ls hsz hP hD hS hl
      obtain rfl : c1 = 240 := by omega
      refine lv_iload hx hb dX4_bestFor_10 (lv_at hl 0 rfl) ?_
      refine lv_sipush (v := 240) hx hb dX4_bestFor_12 (by decide) ?_
      refine lv_icmp_ge (tgt := 114) hx hb dX4_bestFor_15 (by decide) (fun c_271 => ?_) (fun c_271 => absurd (by decide) c_271)
      refine lv_iload_n hx hb dX4_bestFor_114 rfl (lv_at hl 3 rfl) ?_
      refine W.widen (k := 240) (n := 1440) (by omega) (by omega) ?_
      rw [← hQe]
      exact W.iret (v := (-1)) hx hb hr (fun t ht hW => ⟨⟨(-1), tf, rfl, rfl, ⟨(by rw [ht]; exact hsz), by rw [ht]; exact hP, va_K.moved hW.alike (hK.sub (tys' := []) [] rfl), hD⟩⟩, hS.F ht⟩) hS.2.2 dX4_bestFor_115
    | succ k ih =>
      intro c1 hc tf H locs ls hsz hP hD hS hl
      have hx1 : c1 / 2 % 12 < 12 := Nat.mod_lt _ (by decide)
      have hy1 : c1 / 2 / 12 < 10 := by omega
      refine lv_iload hx hb dX4_bestFor_10 (lv_at hl 0 rfl) ?_
      refine lv_sipush (v := 240) hx hb dX4_bestFor_12 (by decide) ?_
      refine lv_icmp_ge (tgt := 114) hx hb dX4_bestFor_15 (by decide) (fun c_272 => absurd c_272 (nI_ge (b := 240) (by omega) (by decide))) (fun c_272 => ?_)
      refine lv_iload hx hb dX4_bestFor_18 (lv_at hl 0 rfl) ?_
      refine lv_iconst (v := 2) hx hb dX4_bestFor_20 (by decide) ?_
      refine lv_idiv hx hb dX4_bestFor_21 (by decide) ?_
      refine lv_topi (fun v_273 ev_273 => ?_)
      obtain rfl : v_273 = (nI (c1 / 2)) := ev_273.trans (pk_div (d := 2) (by omega) (by decide) (by decide))
      refine lv_istore (lv' := [(6, .int (nI (c1 / 2))), (5, .int (nI c1)), (4, .int 0), (3, .int 0), (2, .int (-1)), (1, .int 0), (0, .ref mo)]) hx hb dX4_bestFor_22 hl (by decide) rfl (fun ls hl => ?_)
      refine lv_aload_n hx hb dX4_bestFor_24 rfl (lv_at hl 6 rfl) ?_
      refine lv_iload_n hx hb dX4_bestFor_25 rfl (lv_at hl 5 rfl) ?_
      refine lv_iload hx hb dX4_bestFor_26 (lv_at hl 0 rfl) ?_
      refine lv_bipush (v := 12) hx hb dX4_bestFor_28 (by decide) ?_
      refine lv_irem hx hb dX4_bestFor_30 (by decide) ?_
      refine lv_topi (fun v_274 ev_274 => ?_)
      obtain rfl : v_274 = (nI (c1 / 2 % 12)) := ev_274.trans (pk_rem (d := 12) (by omega) (by decide) (by decide))
      refine lv_iload hx hb dX4_bestFor_31 (lv_at hl 0 rfl) ?_
      refine lv_bipush (v := 12) hx hb dX4_bestFor_33 (by decide) ?_
      refine lv_idiv hx hb dX4_bestFor_35 (by decide) ?_
      refine lv_topi (fun v_275 ev_275 => ?_)
      obtain rfl : v_275 = (nI (c1 / 2 / 12)) := ev_275.trans (pk_div (d := 12) (by omega) (by decide) (by decide))
      refine lv_iload hx hb dX4_bestFor_36 (lv_at hl 1 rfl) ?_
      refine lv_iconst (v := 2) hx hb dX4_bestFor_38 (by decide) ?_
      refine lv_irem hx hb dX4_bestFor_39 (by decide) ?_
      refine lv_topi (fun v_276 ev_276 => ?_)
      obtain rfl : v_276 = (nI (c1 % 2)) := ev_276.trans (pk_rem (d := 2) (by omega) (by decide) (by decide))
      refine lv_iconst (v := 1) hx hb dX4_bestFor_40 (by decide) ?_
      rcases Nat.mod_two_eq_zero_or_one c1 with hm | hm
      · have h_b := True.intro
        refine lv_icmp_ne (tgt := 48) hx hb dX4_bestFor_41 (by decide) (fun c_277 => ?_) (fun c_277 => absurd c_277 (by rw [hm]; decide))
        refine lv_iconst (v := 0) hx hb dX4_bestFor_48 (by decide) ?_
        refine zcalliV (As := [.int 0, .int (nI (c1 / 2 % 12)), .int (nI (c1 / 2 / 12)), .int 0]) (rest := []) (wc := [(mo, .inr (4, [.int 0, .int 1, .ref kT, .int 1, .int 0, .int 1, .int 0, .int 0, .ref tb, .ref ld, .int (nI n), .ref lK, .ref lC, .int 0])), (kT, .inl (e1, 60, .inl (g))), (tb, .inl (e2, 366, .inl (tf)))]) (wr := []) ⟨hx, hb, hml, hown, hts⟩ (c_why l D _ mo kT tb ld lK lC n e1 e2 g hg tf _ _ hx1 hy1 0 (by decide)) (cwV 4 hts gX4_bestFor_X4_why rfl rfl rfl (by decide +kernel) ⟨by rw [hRf]; exact Nat.le_of_ble_eq_true rfl, by rw [hRl]; exact Nat.le_of_ble_eq_true rfl⟩) hK hP hD hS hA [0, 1, 2] [] rfl (by decide) rfl (by decide) (by decide) [0, 1] rfl (ci := 4) (q0 := 0) rfl rfl rfl hl.1 rfl (Nat.le_of_ble_eq_true rfl) dX4_bestFor_49 ⟨by omega, by omega⟩ (fun r_278 u_279 H locs hwu_279 hnu_279 hzu_279 hK hP hD hS => ?_)
        have hK : va_K D vwCl [(e1, .int), (e2, .int)] s := hK
        have hP : va_P D vwCl ([(mo, .inr (4, [.int 0, .int 1, .ref kT, .int 1, .int 0, .int 1, .int 0, .int 0, .ref tb, .ref ld, .int (nI n), .ref lK, .ref lC, .int 0])), (kT, .inl (e1, 60, .inl (g))), (tb, .inl (e2, 366, .inl (u_279)))]) H := hP
        have hD : va_D A ([(mo, .inr (4, [.int 0, .int 1, .ref kT, .int 1, .int 0, .int 1, .int 0, .int 0, .ref tb, .ref ld, .int (nI n), .ref lK, .ref lC, .int 0])), (kT, .inl (e1, 60, .inl (g))), (tb, .inl (e2, 366, .inl (u_279)))]) := hD
        refine lv_topi (fun v_280 ev_280 => ?_)
        obtain rfl : v_280 = 2 := ev_280.trans hwu_279
        refine lv_if_eq (tgt := 58) hx hb dX4_bestFor_52 (by decide) (fun c_281 => absurd c_281 (by decide)) (fun c_281 => ?_)
        refine lv_goto (tgt := 108) hx hb dX4_bestFor_55 (by decide) ?_
        refine lv_iinc (v := (nI (c1 + 1))) (lv' := [(5, .int (nI (c1 + 1))), (6, .int (nI (c1 / 2))), (4, .int 0), (3, .int 0), (2, .int (-1)), (1, .int 0), (0, .ref mo)]) hx hb dX4_bestFor_108 hl (k := 1) rfl (nI_1 c1) (by decide) rfl (fun ls hl => ?_)
        refine lv_goto (tgt := 10) hx hb dX4_bestFor_111 (by decide) ?_
        have hl := lv_sub hl (l' := [(5, .int (nI (c1 + 1))), (4, .int 0), (3, .int 0), (2, .int (-1)), (1, .int 0), (0, .ref mo)]) [0, 2, 3, 4, 5, 6] rfl
        refine W.widen (k := (c1 + 1)) (n := (6 * (c1 + 1))) (by omega) (by omega) ?_
        exact ih (c1 + 1) (by omega) u_279 H locs ls (by omega) hP hD hS hl
      · have h_b := True.intro
        refine lv_icmp_ne (tgt := 48) hx hb dX4_bestFor_41 (by decide) (fun c_282 => absurd (by rw [hm]; rfl) c_282) (fun c_282 => ?_)
        refine lv_iconst (v := 1) hx hb dX4_bestFor_44 (by decide) ?_
        refine lv_goto (tgt := 49) hx hb dX4_bestFor_45 (by decide) ?_
        refine zcalliV (As := [.int 0, .int (nI (c1 / 2 % 12)), .int (nI (c1 / 2 / 12)), .int 1]) (rest := []) (wc := [(mo, .inr (4, [.int 0, .int 1, .ref kT, .int 1, .int 0, .int 1, .int 0, .int 0, .ref tb, .ref ld, .int (nI n), .ref lK, .ref lC, .int 0])), (kT, .inl (e1, 60, .inl (g))), (tb, .inl (e2, 366, .inl (tf)))]) (wr := []) ⟨hx, hb, hml, hown, hts⟩ (c_why l D _ mo kT tb ld lK lC n e1 e2 g hg tf _ _ hx1 hy1 1 (by decide)) (cwV 4 hts gX4_bestFor_X4_why rfl rfl rfl (by decide +kernel) ⟨by rw [hRf]; exact Nat.le_of_ble_eq_true rfl, by rw [hRl]; exact Nat.le_of_ble_eq_true rfl⟩) hK hP hD hS hA [0, 1, 2] [] rfl (by decide) rfl (by decide) (by decide) [0, 1] rfl (ci := 4) (q0 := 0) rfl rfl rfl hl.1 rfl (Nat.le_of_ble_eq_true rfl) dX4_bestFor_49 ⟨by omega, by omega⟩ (fun r_283 u_284 H locs hwu_284 hnu_284 hzu_284 hK hP hD hS => ?_)
        have hK : va_K D vwCl [(e1, .int), (e2, .int)] s := hK
        have hP : va_P D vwCl ([(mo, .inr (4, [.int 0, .int 1, .ref kT, .int 1, .int 0, .int 1, .int 0, .int 0, .ref tb, .ref ld, .int (nI n), .ref lK, .ref lC, .int 0])), (kT, .inl (e1, 60, .inl (g))), (tb, .inl (e2, 366, .inl (u_284)))]) H := hP
        have hD : va_D A ([(mo, .inr (4, [.int 0, .int 1, .ref kT, .int 1, .int 0, .int 1, .int 0, .int 0, .ref tb, .ref ld, .int (nI n), .ref lK, .ref lC, .int 0])), (kT, .inl (e1, 60, .inl (g))), (tb, .inl (e2, 366, .inl (u_284)))]) := hD
        refine lv_topi (fun v_285 ev_285 => ?_)
        obtain rfl : v_285 = 2 := ev_285.trans hwu_284
        refine lv_if_eq (tgt := 58) hx hb dX4_bestFor_52 (by decide) (fun c_286 => absurd c_286 (by decide)) (fun c_286 => ?_)
        refine lv_goto (tgt := 108) hx hb dX4_bestFor_55 (by decide) ?_
        refine lv_iinc (v := (nI (c1 + 1))) (lv' := [(5, .int (nI (c1 + 1))), (6, .int (nI (c1 / 2))), (4, .int 0), (3, .int 0), (2, .int (-1)), (1, .int 0), (0, .ref mo)]) hx hb dX4_bestFor_108 hl (k := 1) rfl (nI_1 c1) (by decide) rfl (fun ls hl => ?_)
        refine lv_goto (tgt := 10) hx hb dX4_bestFor_111 (by decide) ?_
        have hl := lv_sub hl (l' := [(5, .int (nI (c1 + 1))), (4, .int 0), (3, .int 0), (2, .int (-1)), (1, .int 0), (0, .ref mo)]) [0, 2, 3, 4, 5, 6] rfl
        refine W.widen (k := (c1 + 1)) (n := (6 * (c1 + 1))) (by omega) (by omega) ?_
        exact ih (c1 + 1) (by omega) u_284 H locs ls (by omega) hP hD hS hl
  exact loop 240 0 rfl tf s.heap [] ls (Nat.le_refl _) hP hD hS hl
set_option maxHeartbeats 4000000 in
set_option maxRecDepth 100000 in
theorem c_putBest (l : Launch) (D : zG) (sz : Nat) (mo kT tb ld lK lC n : Nat) (e1 e2 : ClassId) (g : Nat → Int32) (hg : g 0 = 1 ∧ g 1 = 1 ∧ g 2 = 2 ∧ g 3 = 1 ∧ g 4 = 0 ∧ g 5 = 1) (tf : Nat → Int32) : Met l yX4_putBest wsX4_putBest ({ frames := 4, cells := 240, slots := 1440, locals := 103 }) (zPc D [(e1, .int), (e2, .int)] ([(mo, .inr (4, [.int 0, .int 1, .ref kT, .int 1, .int 0, .int 1, .int 0, .int 0, .ref tb, .ref ld, .int (nI n), .ref lK, .ref lC, .int 0])), (kT, .inl (e1, 60, .inl (g))), (tb, .inl (e2, 366, .inl (tf)))]) sz [.ref mo, .int 0]) (va_Qi (fun (r : Int32) (u : Nat → Int32) => r = 0) (zB D (va_A ([(mo, .inr (4, [.int 0, .int 1, .ref kT, .int 1, .int 0, .int 1, .int 0, .int 0, .ref tb, .ref ld, .int (nI n), .ref lK, .ref lC, .int 0])), (kT, .inl (e1, 60, .inl (g))), (tb, .inl (e2, 366, .inl (tf)))]) sz) (fun _ => []) (sz + 240) (fun u => [(mo, .inr (4, [.int 0, .int 1, .ref kT, .int 1, .int 0, .int 1, .int 0, .int 0, .ref tb, .ref ld, .int (nI n), .ref lK, .ref lC, .int 0])), (kT, .inl (e1, 60, .inl (g))), (tb, .inl (e2, 366, .inl (u)))])) (va_A ([(mo, .inr (4, [.int 0, .int 1, .ref kT, .int 1, .int 0, .int 1, .int 0, .int 0, .ref tb, .ref ld, .int (nI n), .ref lK, .ref lC, .int 0])), (kT, .inl (e1, 60, .inl (g))), (tb, .inl (e2, 366, .inl (tf)))]) sz)) 240 1440 (va_A ([(mo, .inr (4, [.int 0, .int 1, .ref kT, .int 1, .int 0, .int 1, .int 0, .int 0, .ref tb, .ref ld, .int (nI n), .ref lK, .ref lC, .int 0])), (kT, .inl (e1, 60, .inl (g))), (tb, .inl (e2, 366, .inl (tf)))]) sz) := by
  refine Met.ofW (cc := cX4_putBest) (maxL := 3) (ret := (some .boolean)) (by decide) rfl ?_
  intro p e s m args below meth c s₁ B hml hv
  obtain ⟨rfl, hsz, hP, hK, hD0⟩ := hv
  have hx := B.exec
  have hb := B.bytes
  have hr := B.returns
  have hts := atoms_spec (ws := wsX4_putBest) B.pre
  have hown : s.vm.findClass RX4 = some m.cls := findClass_of_methodNamed B.named
  have hlocks := B.notSynchronized
  subst hsz
  have hD := hD0.self (sz := s.heap.size)
  generalize hAe : va_A ([(mo, .inr (4, [.int 0, .int 1, .ref kT, .int 1, .int 0, .int 1, .int 0, .int 0, .ref tb, .ref ld, .int (nI n), .ref lK, .ref lC, .int 0])), (kT, .inl (e1, 60, .inl (g))), (tb, .inl (e2, 366, .inl (tf)))]) s.heap.size = A at hD ⊢
  have hA : ∀ q : Nat, s.heap.size ≤ q → A q := fun q h => by rw [← hAe]; exact Or.inr h
  have hS : va_S A s.heap s.heap [] := va_S.rf
  have hl := lv_entry ([.ref mo, .int 0]) (n := 3) (Nat.le_of_ble_eq_true rfl)
  rw [lg_entry_eq]
  generalize (lg_sl ([.ref mo, .int 0]) ++ List.replicate (3 - (lg_sl ([.ref mo, .int 0])).length) Slot.unset).toArray = ls at hl ⊢
  have hl : lv_has ls 3 [(0, .ref mo), (1, .int 0)] := hl
  have hP : va_P D vwCl ([(mo, .inr (4, [.int 0, .int 1, .ref kT, .int 1, .int 0, .int 1, .int 0, .int 0, .ref tb, .ref ld, .int (nI n), .ref lK, .ref lC, .int 0])), (kT, .inl (e1, 60, .inl (g))), (tb, .inl (e2, 366, .inl (tf)))]) s.heap := hP
  generalize hRe : (headSpec _ _).room = R
  have hRf : R.frames = 4 := by rw [← hRe]; rfl
  have hRc : R.cells = 240 := by rw [← hRe]; rfl
  have hRs : R.slots = 1440 := by rw [← hRe]; rfl
  have hRl : R.locals = 103 := by rw [← hRe]; rfl
  clear hRe
  refine lv_aload_n hx hb dX4_putBest_0 rfl (lv_at hl 0 rfl) ?_
  refine va_get (D := D) (ci := 4) (v := .int 0) (C := RX4) (T := TX4) (N := 14) hx hb hts (fun _ h9 => List.mem_cons_of_mem _ (List.mem_append_right _ h9)) hown hK hP 0 rfl rfl 7 (by decide) (hts (.fieldLink RX4 59 "PalletStackModel" "came" "I") (List.mem_of_getElem? (i := 1) (by rfl))) (fun _ h9 => h9) rfl dX4_putBest_1 ?_
  refine lv_bipush (v := 60) hx hb dX4_putBest_4 (by decide) ?_
  refine lv_icmp_ne (tgt := 13) hx hb dX4_putBest_6 (by decide) (fun c_287 => ?_) (fun c_287 => absurd c_287 (by decide))
  refine lv_aload_n hx hb dX4_putBest_13 rfl (lv_at hl 0 rfl) ?_
  refine lv_iload_n hx hb dX4_putBest_14 rfl (lv_at hl 1 rfl) ?_
  refine zcalliV (As := [.int 0]) (rest := []) (wc := [(mo, .inr (4, [.int 0, .int 1, .ref kT, .int 1, .int 0, .int 1, .int 0, .int 0, .ref tb, .ref ld, .int (nI n), .ref lK, .ref lC, .int 0])), (kT, .inl (e1, 60, .inl (g))), (tb, .inl (e2, 366, .inl (tf)))]) (wr := []) ⟨hx, hb, hml, hown, hts⟩ (c_bestFor l D _ mo kT tb ld lK lC n e1 e2 g hg tf) (cwV 1 hts gX4_putBest_X4_bestFor rfl rfl rfl (by decide +kernel) ⟨by rw [hRf]; exact Nat.le_of_ble_eq_true rfl, by rw [hRl]; exact Nat.le_of_ble_eq_true rfl⟩) hK hP hD hS hA [0, 1, 2] [] rfl (by decide) rfl (by decide) (by decide) [0, 1] rfl (ci := 4) (q0 := 0) rfl rfl rfl hl.1 rfl (Nat.le_of_ble_eq_true rfl) dX4_putBest_15 ⟨by omega, by omega⟩ (fun r_288 u_289 H locs hwu_289 hnu_289 hzu_289 hK hP hD hS => ?_)
  have hK : va_K D vwCl [(e1, .int), (e2, .int)] s := hK
  have hP : va_P D vwCl ([(mo, .inr (4, [.int 0, .int 1, .ref kT, .int 1, .int 0, .int 1, .int 0, .int 0, .ref tb, .ref ld, .int (nI n), .ref lK, .ref lC, .int 0])), (kT, .inl (e1, 60, .inl (g))), (tb, .inl (e2, 366, .inl (u_289)))]) H := hP
  have hD : va_D A ([(mo, .inr (4, [.int 0, .int 1, .ref kT, .int 1, .int 0, .int 1, .int 0, .int 0, .ref tb, .ref ld, .int (nI n), .ref lK, .ref lC, .int 0])), (kT, .inl (e1, 60, .inl (g))), (tb, .inl (e2, 366, .inl (u_289)))]) := hD
  refine lv_topi (fun v_290 ev_290 => ?_)
  obtain rfl : v_290 = (-1) := ev_290.trans hwu_289
  refine lv_istore_n (lv' := [(2, .int (-1)), (0, .ref mo), (1, .int 0)]) hx hb dX4_putBest_18 rfl hl (by decide) rfl (fun ls hl => ?_)
  refine lv_iload_n hx hb dX4_putBest_19 rfl (lv_at hl 0 rfl) ?_
  refine lv_iconst (v := (-1)) hx hb dX4_putBest_20 (by decide) ?_
  refine lv_icmp_ne (tgt := 26) hx hb dX4_putBest_21 (by decide) (fun c_291 => absurd (rfl) c_291) (fun c_291 => ?_)
  refine lv_iconst (v := 0) hx hb dX4_putBest_24 (by decide) ?_
  refine W.widen (k := 240) (n := 1440) (by omega) (by omega) ?_
  exact W.zret (ty := .boolean) (v := 0) hx hb hr rfl (fun t ht hW => ⟨⟨0, u_289, rfl, rfl, ⟨(by rw [ht]; exact hnu_289), by rw [ht]; exact hP, va_K.moved hW.alike (hK.sub (tys' := []) [] rfl), hD⟩⟩, hS.F ht⟩) hS.2.2 dX4_putBest_25
set_option maxHeartbeats 4000000 in
set_option maxRecDepth 100000 in
theorem c_isAhead (l : Launch) (D : zG) (sz : Nat) (mo kT tb ld lK lC n : Nat) (e1 e3 : ClassId) (g : Nat → Int32) (hg : g 0 = 1 ∧ g 1 = 1 ∧ g 2 = 2 ∧ g 3 = 1 ∧ g 4 = 0 ∧ g 5 = 1) (hk : Nat → Int32) (i j : Nat) (hi : i < 20) (hj : j < 20) (h1 : hk i = 0) (h2 : hk j = 0) : Met l yX4_isAhead wsX4_isAhead ({ frames := 1, cells := 0, slots := 0, locals := 22 }) (zPc D [(e1, .int), (e3, .int)] ([(mo, .inr (4, [.int 0, .int 1, .ref kT, .int 1, .int 0, .int 1, .int 0, .int 0, .ref tb, .ref ld, .int (nI n), .ref lK, .ref lC, .int 0])), (kT, .inl (e1, 60, .inl (g))), (lK, .inl (e3, 20, .inl (hk)))]) sz [.ref mo, .int (nI i), .int (nI j)]) (vp_Si (fun r => r = 0)) 0 0 (fun _ => False) := by
  refine Met.ofW (cc := cX4_isAhead) (maxL := 5) (ret := (some .boolean)) (by decide) rfl ?_
  intro p e s m args below meth c s₁ B hml hv
  obtain ⟨rfl, hsz, hP, hK, hD0⟩ := hv
  have hx := B.exec
  have hb := B.bytes
  have hr := B.returns
  have hts := atoms_spec (ws := wsX4_isAhead) B.pre
  have hown : s.vm.findClass RX4 = some m.cls := findClass_of_methodNamed B.named
  have hlocks := B.notSynchronized
  subst hsz
  have hD := hD0
  generalize hAe : (fun _ : Nat => True) = A at hD
  have hl := lv_entry ([.ref mo, .int (nI i), .int (nI j)]) (n := 5) (Nat.le_of_ble_eq_true rfl)
  rw [lg_entry_eq]
  generalize (lg_sl ([.ref mo, .int (nI i), .int (nI j)]) ++ List.replicate (5 - (lg_sl ([.ref mo, .int (nI i), .int (nI j)])).length) Slot.unset).toArray = ls at hl ⊢
  have hl : lv_has ls 5 [(0, .ref mo), (1, .int (nI i)), (2, .int (nI j))] := hl
  have hP : va_P D vwCl ([(mo, .inr (4, [.int 0, .int 1, .ref kT, .int 1, .int 0, .int 1, .int 0, .int 0, .ref tb, .ref ld, .int (nI n), .ref lK, .ref lC, .int 0])), (kT, .inl (e1, 60, .inl (g))), (lK, .inl (e3, 20, .inl (hk)))]) s.heap := hP
  generalize hRe : (headSpec _ _).room = R
  have hRf : R.frames = 1 := by rw [← hRe]; rfl
  have hRc : R.cells = 0 := by rw [← hRe]; rfl
  have hRs : R.slots = 0 := by rw [← hRe]; rfl
  have hRl : R.locals = 22 := by rw [← hRe]; rfl
  clear hRe
  refine lv_aload_n hx hb dX4_isAhead_0 rfl (lv_at hl 0 rfl) ?_
  refine va_get (D := D) (ci := 4) (v := .ref lK) (C := RX4) (T := TX4) (N := 14) hx hb hts (fun _ h9 => List.mem_cons_of_mem _ (List.mem_append_right _ h9)) hown hK hP 0 rfl rfl 11 (by decide) (hts (.fieldLink RX4 29 "PalletStackModel" "lineKinds" "[I") (List.mem_of_getElem? (i := 1) (by rfl))) (fun _ h9 => h9) rfl dX4_isAhead_1 ?_
  refine lv_iload_n hx hb dX4_isAhead_4 rfl (lv_at hl 1 rfl) ?_
  refine va_iald hx hb hK hP 2 1 rfl rfl (vp_in_nI (N := 20) hi (by decide)) dX4_isAhead_5 ?_
  refine lv_topi (fun v_292 ev_292 => ?_)
  obtain rfl : v_292 = 0 := ev_292.trans (by rw [nI_clamp (by omega)]; exact h1)
  refine lv_istore_n (lv' := [(3, .int 0), (0, .ref mo), (1, .int (nI i)), (2, .int (nI j))]) hx hb dX4_isAhead_6 rfl hl (by decide) rfl (fun ls hl => ?_)
  refine lv_aload_n hx hb dX4_isAhead_7 rfl (lv_at hl 1 rfl) ?_
  refine va_get (D := D) (ci := 4) (v := .ref lK) (C := RX4) (T := TX4) (N := 14) hx hb hts (fun _ h9 => List.mem_cons_of_mem _ (List.mem_append_right _ h9)) hown hK hP 0 rfl rfl 11 (by decide) (hts (.fieldLink RX4 29 "PalletStackModel" "lineKinds" "[I") (List.mem_of_getElem? (i := 1) (by rfl))) (fun _ h9 => h9) rfl dX4_isAhead_8 ?_
  refine lv_iload_n hx hb dX4_isAhead_11 rfl (lv_at hl 3 rfl) ?_
  refine va_iald hx hb hK hP 2 1 rfl rfl (vp_in_nI (N := 20) hj (by decide)) dX4_isAhead_12 ?_
  refine lv_topi (fun v_293 ev_293 => ?_)
  obtain rfl : v_293 = 0 := ev_293.trans (by rw [nI_clamp (by omega)]; exact h2)
  refine lv_istore (lv' := [(4, .int 0), (3, .int 0), (0, .ref mo), (1, .int (nI i)), (2, .int (nI j))]) hx hb dX4_isAhead_13 hl (by decide) rfl (fun ls hl => ?_)
  refine lv_aload_n hx hb dX4_isAhead_15 rfl (lv_at hl 2 rfl) ?_
  refine lv_iload_n hx hb dX4_isAhead_16 rfl (lv_at hl 1 rfl) ?_
  refine lv_iconst (v := 5) hx hb dX4_isAhead_17 (by decide) ?_
  refine zrdV (As := [.int 0, .int 5]) (rest := []) (wc := [(mo, .inr (4, [.int 0, .int 1, .ref kT, .int 1, .int 0, .int 1, .int 0, .int 0, .ref tb, .ref ld, .int (nI n), .ref lK, .ref lC, .int 0])), (kT, .inl (e1, 60, .inl (g)))]) ⟨hx, hb, hml, hown, hts⟩ (c_kind l D _ mo kT tb ld lK lC n e1 g 5 5 rfl (by decide)) (cwV 2 hts gX4_isAhead_X4_kind rfl rfl rfl (by decide +kernel) ⟨by rw [hRf]; exact Nat.le_of_ble_eq_true rfl, by rw [hRl]; exact Nat.le_of_ble_eq_true rfl⟩) hK hP hD [0, 1] rfl (by decide) [0] rfl (ci := 4) (q0 := 0) rfl rfl rfl hl.1 rfl (Nat.le_of_ble_eq_true rfl) dX4_isAhead_18 ⟨by omega, by omega⟩ (fun r_294 hr_294 => ?_)
  refine lv_topi (fun v_295 ev_295 => ?_)
  obtain rfl : v_295 = 1 := ev_295.trans (hr_294.trans hg.2.2.2.2.2)
  refine zrdS (As := [.int 1]) (rest := []) (wc := []) ⟨hx, hb, hml, hown, hts⟩ (c_needsDeck l D _) (va_cwS 1 hts gX4_isAhead_X4_needsDeck rfl rfl rfl (by decide +kernel) ⟨by rw [hRf]; exact Nat.le_of_ble_eq_true rfl, by rw [hRl]; exact Nat.le_of_ble_eq_true rfl⟩) hK hP hD [] rfl (by decide) [] rfl rfl hl.1 rfl (Nat.le_of_ble_eq_true rfl) dX4_isAhead_21 ⟨by omega, by omega⟩ (fun r_296 hr_296 => ?_)
  refine lv_topi (fun v_297 ev_297 => ?_)
  obtain rfl : v_297 = 0 := ev_297.trans hr_296
  refine lv_aload_n hx hb dX4_isAhead_24 rfl (lv_at hl 2 rfl) ?_
  refine lv_iload hx hb dX4_isAhead_25 (lv_at hl 0 rfl) ?_
  refine lv_iconst (v := 5) hx hb dX4_isAhead_27 (by decide) ?_
  refine zrdV (As := [.int 0, .int 5]) (rest := [.int 0]) (wc := [(mo, .inr (4, [.int 0, .int 1, .ref kT, .int 1, .int 0, .int 1, .int 0, .int 0, .ref tb, .ref ld, .int (nI n), .ref lK, .ref lC, .int 0])), (kT, .inl (e1, 60, .inl (g)))]) ⟨hx, hb, hml, hown, hts⟩ (c_kind l D _ mo kT tb ld lK lC n e1 g 5 5 rfl (by decide)) (cwV 2 hts gX4_isAhead_X4_kind rfl rfl rfl (by decide +kernel) ⟨by rw [hRf]; exact Nat.le_of_ble_eq_true rfl, by rw [hRl]; exact Nat.le_of_ble_eq_true rfl⟩) hK hP hD [0, 1] rfl (by decide) [0] rfl (ci := 4) (q0 := 0) rfl rfl rfl hl.1 rfl (Nat.le_of_ble_eq_true rfl) dX4_isAhead_28 ⟨by omega, by omega⟩ (fun r_298 hr_298 => ?_)
  refine lv_topi (fun v_299 ev_299 => ?_)
  obtain rfl : v_299 = 1 := ev_299.trans (hr_298.trans hg.2.2.2.2.2)
  refine zrdS (As := [.int 1]) (rest := [.int 0]) (wc := []) ⟨hx, hb, hml, hown, hts⟩ (c_needsDeck l D _) (va_cwS 1 hts gX4_isAhead_X4_needsDeck rfl rfl rfl (by decide +kernel) ⟨by rw [hRf]; exact Nat.le_of_ble_eq_true rfl, by rw [hRl]; exact Nat.le_of_ble_eq_true rfl⟩) hK hP hD [] rfl (by decide) [] rfl rfl hl.1 rfl (Nat.le_of_ble_eq_true rfl) dX4_isAhead_31 ⟨by omega, by omega⟩ (fun r_300 hr_300 => ?_)
  refine lv_topi (fun v_301 ev_301 => ?_)
  obtain rfl : v_301 = 0 := ev_301.trans hr_300
  refine lv_icmp_eq (tgt := 47) hx hb dX4_isAhead_34 (by decide) (fun c_302 => ?_) (fun c_302 => absurd (rfl) c_302)
  refine lv_aload_n hx hb dX4_isAhead_47 rfl (lv_at hl 2 rfl) ?_
  refine lv_iload_n hx hb dX4_isAhead_48 rfl (lv_at hl 1 rfl) ?_
  refine lv_iconst (v := 4) hx hb dX4_isAhead_49 (by decide) ?_
  refine zrdV (As := [.int 0, .int 4]) (rest := []) (wc := [(mo, .inr (4, [.int 0, .int 1, .ref kT, .int 1, .int 0, .int 1, .int 0, .int 0, .ref tb, .ref ld, .int (nI n), .ref lK, .ref lC, .int 0])), (kT, .inl (e1, 60, .inl (g)))]) ⟨hx, hb, hml, hown, hts⟩ (c_kind l D _ mo kT tb ld lK lC n e1 g 4 4 rfl (by decide)) (cwV 2 hts gX4_isAhead_X4_kind rfl rfl rfl (by decide +kernel) ⟨by rw [hRf]; exact Nat.le_of_ble_eq_true rfl, by rw [hRl]; exact Nat.le_of_ble_eq_true rfl⟩) hK hP hD [0, 1] rfl (by decide) [0] rfl (ci := 4) (q0 := 0) rfl rfl rfl hl.1 rfl (Nat.le_of_ble_eq_true rfl) dX4_isAhead_50 ⟨by omega, by omega⟩ (fun r_303 hr_303 => ?_)
  refine lv_topi (fun v_304 ev_304 => ?_)
  obtain rfl : v_304 = 0 := ev_304.trans (hr_303.trans hg.2.2.2.2.1)
  refine lv_aload_n hx hb dX4_isAhead_53 rfl (lv_at hl 2 rfl) ?_
  refine lv_iload hx hb dX4_isAhead_54 (lv_at hl 0 rfl) ?_
  refine lv_iconst (v := 4) hx hb dX4_isAhead_56 (by decide) ?_
  refine zrdV (As := [.int 0, .int 4]) (rest := [.int 0]) (wc := [(mo, .inr (4, [.int 0, .int 1, .ref kT, .int 1, .int 0, .int 1, .int 0, .int 0, .ref tb, .ref ld, .int (nI n), .ref lK, .ref lC, .int 0])), (kT, .inl (e1, 60, .inl (g)))]) ⟨hx, hb, hml, hown, hts⟩ (c_kind l D _ mo kT tb ld lK lC n e1 g 4 4 rfl (by decide)) (cwV 2 hts gX4_isAhead_X4_kind rfl rfl rfl (by decide +kernel) ⟨by rw [hRf]; exact Nat.le_of_ble_eq_true rfl, by rw [hRl]; exact Nat.le_of_ble_eq_true rfl⟩) hK hP hD [0, 1] rfl (by decide) [0] rfl (ci := 4) (q0 := 0) rfl rfl rfl hl.1 rfl (Nat.le_of_ble_eq_true rfl) dX4_isAhead_57 ⟨by omega, by omega⟩ (fun r_305 hr_305 => ?_)
  refine lv_topi (fun v_306 ev_306 => ?_)
  obtain rfl : v_306 = 0 := ev_306.trans (hr_305.trans hg.2.2.2.2.1)
  refine lv_icmp_eq (tgt := 85) hx hb dX4_isAhead_60 (by decide) (fun c_307 => ?_) (fun c_307 => absurd (rfl) c_307)
  refine lv_aload_n hx hb dX4_isAhead_85 rfl (lv_at hl 2 rfl) ?_
  refine lv_iload_n hx hb dX4_isAhead_86 rfl (lv_at hl 1 rfl) ?_
  refine lv_iconst (v := 3) hx hb dX4_isAhead_87 (by decide) ?_
  refine zrdV (As := [.int 0, .int 3]) (rest := []) (wc := [(mo, .inr (4, [.int 0, .int 1, .ref kT, .int 1, .int 0, .int 1, .int 0, .int 0, .ref tb, .ref ld, .int (nI n), .ref lK, .ref lC, .int 0])), (kT, .inl (e1, 60, .inl (g)))]) ⟨hx, hb, hml, hown, hts⟩ (c_kind l D _ mo kT tb ld lK lC n e1 g 3 3 rfl (by decide)) (cwV 2 hts gX4_isAhead_X4_kind rfl rfl rfl (by decide +kernel) ⟨by rw [hRf]; exact Nat.le_of_ble_eq_true rfl, by rw [hRl]; exact Nat.le_of_ble_eq_true rfl⟩) hK hP hD [0, 1] rfl (by decide) [0] rfl (ci := 4) (q0 := 0) rfl rfl rfl hl.1 rfl (Nat.le_of_ble_eq_true rfl) dX4_isAhead_88 ⟨by omega, by omega⟩ (fun r_308 hr_308 => ?_)
  refine lv_topi (fun v_309 ev_309 => ?_)
  obtain rfl : v_309 = 1 := ev_309.trans (hr_308.trans hg.2.2.2.1)
  refine lv_aload_n hx hb dX4_isAhead_91 rfl (lv_at hl 2 rfl) ?_
  refine lv_iload hx hb dX4_isAhead_92 (lv_at hl 0 rfl) ?_
  refine lv_iconst (v := 3) hx hb dX4_isAhead_94 (by decide) ?_
  refine zrdV (As := [.int 0, .int 3]) (rest := [.int 1]) (wc := [(mo, .inr (4, [.int 0, .int 1, .ref kT, .int 1, .int 0, .int 1, .int 0, .int 0, .ref tb, .ref ld, .int (nI n), .ref lK, .ref lC, .int 0])), (kT, .inl (e1, 60, .inl (g)))]) ⟨hx, hb, hml, hown, hts⟩ (c_kind l D _ mo kT tb ld lK lC n e1 g 3 3 rfl (by decide)) (cwV 2 hts gX4_isAhead_X4_kind rfl rfl rfl (by decide +kernel) ⟨by rw [hRf]; exact Nat.le_of_ble_eq_true rfl, by rw [hRl]; exact Nat.le_of_ble_eq_true rfl⟩) hK hP hD [0, 1] rfl (by decide) [0] rfl (ci := 4) (q0 := 0) rfl rfl rfl hl.1 rfl (Nat.le_of_ble_eq_true rfl) dX4_isAhead_95 ⟨by omega, by omega⟩ (fun r_310 hr_310 => ?_)
  refine lv_topi (fun v_311 ev_311 => ?_)
  obtain rfl : v_311 = 1 := ev_311.trans (hr_310.trans hg.2.2.2.1)
  refine lv_icmp_le (tgt := 105) hx hb dX4_isAhead_98 (by decide) (fun c_312 => ?_) (fun c_312 => absurd (by decide) c_312)
  refine lv_iconst (v := 0) hx hb dX4_isAhead_105 (by decide) ?_
  exact W.zret (ty := .boolean) (v := 0) hx hb hr rfl (fun t ht hW => ⟨0, rfl, rfl, ht⟩) (fun _ h => by cases h) dX4_isAhead_106
