set_option maxHeartbeats 4000000 in
set_option maxRecDepth 100000 in
theorem c_below (l : Launch) (D : zG) (sz : Nat) (v : Int32) (n : Nat) (hn : 0 < n) (hn2 : n < 2 ^ 31) : Met l yL_below wsL_below ({ frames := 0, cells := 0, slots := 0, locals := 0 }) (zPc D [] ([]) sz [.int v, .int (nI n)]) (vp_Si (fun r => ∃ k, r = nI k ∧ k < n)) 0 0 (fun _ => False) := by
  refine Met.ofW (cc := cL_below) (maxL := 2) (ret := (some .int)) (by decide) rfl ?_
  intro p e s m args below meth c s₁ B hml hv
  obtain ⟨rfl, hsz, hP, hK, hD0⟩ := hv
  have hx := B.exec
  have hb := B.bytes
  have hr := B.returns
  have hts := atoms_spec (ws := wsL_below) B.pre
  have hown : s.vm.findClass RL = some m.cls := findClass_of_methodNamed B.named
  have hlocks := B.notSynchronized
  subst hsz
  have hD := hD0
  generalize hAe : (fun _ : Nat => True) = A at hD
  have hl := lv_entry ([.int v, .int (nI n)]) (n := 2) (Nat.le_of_ble_eq_true rfl)
  rw [lg_entry_eq]
  generalize (lg_sl ([.int v, .int (nI n)]) ++ List.replicate (2 - (lg_sl ([.int v, .int (nI n)])).length) Slot.unset).toArray = ls at hl ⊢
  have hl : lv_has ls 2 [(0, .int v), (1, .int (nI n))] := hl
  have hP : va_P D vwCl ([]) s.heap := hP
  generalize hRe : (headSpec _ _).room = R
  have hRf : R.frames = 0 := by rw [← hRe]; rfl
  have hRc : R.cells = 0 := by rw [← hRe]; rfl
  have hRs : R.slots = 0 := by rw [← hRe]; rfl
  have hRl : R.locals = 0 := by rw [← hRe]; rfl
  clear hRe
  refine lv_iload_n hx hb dL_below_0 rfl (lv_at hl 0 rfl) ?_
  refine lv_ldc (v := (2147483647 : Int32)) hx hb hown (hts (.constant RL 7 (2147483647)) (List.mem_of_getElem? (i := 1) (by rfl))) dL_below_1 ?_
  refine lv_iand hx hb dL_below_3 ?_
  refine lv_topi (fun v_1 ev_1 => ?_)
  obtain rfl : v_1 = (nI (v.toBitVec.toNat % 2 ^ 31)) := ev_1.trans (pk_and v (m := 2147483647) 31 (by decide))
  have hlt : v.toBitVec.toNat % 2 ^ 31 < 2 ^ 31 := Nat.mod_lt _ (by decide)
  refine lv_iload_n hx hb dL_below_4 rfl (lv_at hl 1 rfl) ?_
  refine lv_irem hx hb dL_below_5 (fun h => absurd ((qeq (b := 0) (by omega) (by decide)).mp h) (by omega)) ?_
  refine lv_topi (fun v_2 ev_2 => ?_)
  obtain rfl : v_2 = (nI (v.toBitVec.toNat % 2 ^ 31 % n)) := ev_2.trans (pk_rem hlt hn hn2)
  exact W.iret (v := (nI (v.toBitVec.toNat % 2 ^ 31 % n))) hx hb hr (fun t ht hW => ⟨(nI (v.toBitVec.toNat % 2 ^ 31 % n)), rfl, ⟨_, rfl, Nat.mod_lt _ hn⟩, ht⟩) (fun _ h => by cases h) dL_below_6
set_option maxHeartbeats 4000000 in
set_option maxRecDepth 100000 in
theorem c_cell (l : Launch) (D : zG) (sz : Nat) (b L : Nat) (xs : Nat → Int32) (hL : L ≤ 1000) (k : Nat) (hk : k < 1000) : Met l yL_cell wsL_cell ({ frames := 0, cells := 0, slots := 0, locals := 0 }) (zPcK D [] ([]) sz ((fun U => va_X b L xs U U.heap)) [.ref b, .int (nI k)]) (vp_Si (fun r => True)) 0 0 (fun _ => False) := by
  refine Met.ofW (cc := cL_cell) (maxL := 2) (ret := (some .int)) (by decide) rfl ?_
  intro p e s m args below meth c s₁ B hml hv
  obtain ⟨rfl, ⟨hsz, hP, hK, hD0⟩, hKx⟩ := hv
  have hx := B.exec
  have hb := B.bytes
  have hr := B.returns
  have hts := atoms_spec (ws := wsL_cell) B.pre
  have hown : s.vm.findClass RL = some m.cls := findClass_of_methodNamed B.named
  have hlocks := B.notSynchronized
  subst hsz
  have hD := hD0
  generalize hAe : (fun _ : Nat => True) = A at hD
  have hl := lv_entry ([.ref b, .int (nI k)]) (n := 2) (Nat.le_of_ble_eq_true rfl)
  rw [lg_entry_eq]
  generalize (lg_sl ([.ref b, .int (nI k)]) ++ List.replicate (2 - (lg_sl ([.ref b, .int (nI k)])).length) Slot.unset).toArray = ls at hl ⊢
  have hl : lv_has ls 2 [(0, .ref b), (1, .int (nI k))] := hl
  have hP : va_P D vwCl ([]) s.heap := hP
  generalize hRe : (headSpec _ _).room = R
  have hRf : R.frames = 0 := by rw [← hRe]; rfl
  have hRc : R.cells = 0 := by rw [← hRe]; rfl
  have hRs : R.slots = 0 := by rw [← hRe]; rfl
  have hRl : R.locals = 0 := by rw [← hRe]; rfl
  clear hRe
  have hbl : b < s.heap.size := by obtain ⟨scr, h1, -⟩ := hKx; exact (Array.getElem?_eq_some_iff.mp h1).1
  have hS0 : va_S (fun _ => False) s.heap s.heap [] := va_S.rf
  refine lv_iload_n hx hb dL_cell_0 rfl (lv_at hl 1 rfl) ?_
  refine lv_aload_n hx hb dL_cell_1 rfl (lv_at hl 0 rfl) ?_
  refine va_slen (A := fun _ => False) hx hb hKx hbl (fun h => h) hS0 dL_cell_2 ?_
  refine W.eq (g2 := F0 m 3 ls [.int (nI L), .int (nI k)]) rfl ?_
  refine lv_icmp_ge (tgt := 12) hx hb dL_cell_3 (by decide) (fun c_3 => ?_) (fun c_3 => ?_)
  · have h_b := True.intro
    refine lv_ldc (v := (790386105 : Int32)) hx hb hown (hts (.constant RL 8 (790386105)) (List.mem_of_getElem? (i := 1) (by rfl))) dL_cell_12 ?_
    refine lv_iload_n hx hb dL_cell_14 rfl (lv_at hl 1 rfl) ?_
    refine lv_iconst (v := 3) hx hb dL_cell_15 (by decide) ?_
    refine lv_iadd hx hb dL_cell_16 ?_
    refine lv_imul hx hb dL_cell_17 ?_
    exact W.iret (v := ((790386105 : Int32) * ((nI k) + 3))) hx hb hr (fun t ht hW => ⟨((790386105 : Int32) * ((nI k) + 3)), rfl, trivial, ht⟩) (fun _ h => by cases h) dL_cell_18
  · have h_b := True.intro
    have hkL : k < L := Nat.lt_of_not_le (fun h9 => c_3 (nI_le h9 (by omega)))
    refine lv_aload_n hx hb dL_cell_6 rfl (lv_at hl 0 rfl) ?_
    refine lv_iload_n hx hb dL_cell_7 rfl (lv_at hl 1 rfl) ?_
    refine va_sld (A := fun _ => False) hx hb hKx hbl (fun h => h) hS0 (vp_in_nI (n := k) (N := L) hkL (by omega)) dL_cell_8 ?_
    refine lv_goto (tgt := 18) hx hb dL_cell_9 (by decide) ?_
    exact W.iret (v := (xs (nI k).toNatClampNeg)) hx hb hr (fun t ht hW => ⟨(xs (nI k).toNatClampNeg), rfl, trivial, ht⟩) (fun _ h => by cases h) dL_cell_18
set_option maxHeartbeats 4000000 in
set_option maxRecDepth 100000 in
theorem c_Hand_init (l : Launch) (D : zG) (sz : Nat) (h : Nat) : Met l yX4_init wsX4_init ({ frames := 1, cells := 3, slots := 64, locals := 16 }) (zPcK D [] ([(h, .inr (4, [.null, .null, .int 0, .null]))]) sz (qAO) [.ref h]) (va_Qv (fun (u : (Nat → Nat) × (Nat → Int32) × ClassId) => u.2.1 0 = nI 20 ∧ u.2.1 1 = nI 60 ∧ u.2.1 2 = nI 2000 ∧ u.2.1 3 = nI 0) (zB D (va_A ([(h, .inr (4, [.null, .null, .int 0, .null]))]) sz) (fun u => [(u.2.2, .int)]) 0 (fun u => [(h, .inr (4, [.ref (u.1 1), .ref (u.1 2), .int 0, .ref (u.1 3)])), (u.1 3, .inl (u.2.2, 4, .inl u.2.1))])) (va_A ([(h, .inr (4, [.null, .null, .int 0, .null]))]) sz)) 3 64 (va_A ([(h, .inr (4, [.null, .null, .int 0, .null]))]) sz) := by
  refine Met.ofW (cc := cX4_init) (maxL := 1) (ret := none) (by decide) rfl ?_
  intro p e s m args below meth c s₁ B hml hv
  obtain ⟨rfl, ⟨hsz, hP, hK, hD0⟩, hKx⟩ := hv
  have hx := B.exec
  have hb := B.bytes
  have hr := B.returns
  have hts := atoms_spec (ws := wsX4_init) B.pre
  have hown : s.vm.findClass RX4 = some m.cls := findClass_of_methodNamed B.named
  have hlocks := B.notSynchronized
  have hin : meth.name = "<init>" := (name_of_methodNamed B.named B.method).1
  subst hsz
  have hD := hD0.self (sz := s.heap.size)
  generalize hAe : va_A ([(h, .inr (4, [.null, .null, .int 0, .null]))]) s.heap.size = A at hD ⊢
  have hA : ∀ q : Nat, s.heap.size ≤ q → A q := fun q h => by rw [← hAe]; exact Or.inr h
  have hS : va_S A s.heap s.heap [] := va_S.rf
  have hl := lv_entry ([.ref h]) (n := 1) (Nat.le_of_ble_eq_true rfl)
  rw [lg_entry_eq]
  generalize (lg_sl ([.ref h]) ++ List.replicate (1 - (lg_sl ([.ref h])).length) Slot.unset).toArray = ls at hl ⊢
  have hl : lv_has ls 1 [(0, .ref h)] := hl
  have hP : va_P D vwCl ([(h, .inr (4, [.null, .null, .int 0, .null]))]) s.heap := hP
  generalize hRe : (headSpec _ _).room = R
  have hRf : R.frames = 1 := by rw [← hRe]; rfl
  have hRc : R.cells = 3 := by rw [← hRe]; rfl
  have hRs : R.slots = 64 := by rw [← hRe]; rfl
  have hRl : R.locals = 16 := by rw [← hRe]; rfl
  clear hRe
  refine lv_aload_n hx hb dX4_init_0 rfl (lv_at hl 0 rfl) ?_
  refine W.objInit hx hb hown (hts (.methodLink RX4 1 objectInit) (List.mem_of_getElem? (i := 1) (by rfl))) (hts (.instanceMethod objectInit) (List.mem_of_getElem? (i := 2) (by rfl))) (hts (.code objectInit ⟨#[0xb1]⟩ 1 none) (List.mem_of_getElem? (i := 3) (by rfl))) rfl (by rw [hml]; exact hl.1) rfl dX4_init_1 (by rw [hRf]; exact Nat.le_of_ble_eq_true rfl) (by rw [hRl]; exact Nat.le_of_ble_eq_true rfl) ?_
  refine W.eq (g2 := F0 m 4 ls []) rfl ?_
  refine lv_aload_n hx hb dX4_init_4 rfl (lv_at hl 0 rfl) ?_
  refine lv_iconst (v := 0) hx hb dX4_init_5 (by decide) ?_
  refine qnewA (N' := 0) hx hb hown (hts (.classLink RX4 7 "[I") (List.mem_of_getElem? (i := 4) (by rfl))) (hKx.use) hK hP hD hS hA (by decide) rfl (Nat.le_of_ble_eq_true rfl) (by omega) (by omega) dX4_init_6 (fun q_4 cy_5 H hKAcy_5 hK hP hD hS => ?_)
  have hP : va_P D vwCl ([(h, .inr (4, [.null, .null, .int 0, .null])), (q_4, .inl (cy_5, 0, .inr (.inr (.inr (.inr (fun _ => none))))))]) H := hP
  have hD : va_D A ([(h, .inr (4, [.null, .null, .int 0, .null])), (q_4, .inl (cy_5, 0, .inr (.inr (.inr (.inr (fun _ => none))))))]) := hD
  refine va_put (D := D) (ci := 4) (v := .ref q_4) (ty := .array (.array .int)) (C := RX4) (T := TX4) (N := 4) hx hb hts (fun _ h9 => List.mem_cons_of_mem _ (List.mem_append_right _ h9)) tyX4 tyX4_ok nmX4 hown hK hP hD hS 0 rfl rfl 0 (by decide) (hts (.fieldLink RX4 9 "PalletStackLaw$Hand" "kinds" "[[I") (List.mem_of_getElem? (i := 5) (by rfl))) (fun _ h9 => h9) rfl (by decide +kernel) rfl rfl (Nat.le_of_ble_eq_true rfl) dX4_init_9 (fun H locs hP hD hS => ?_)
  have hP : va_P D vwCl ([(h, .inr (4, [.ref q_4, .null, .int 0, .null])), (q_4, .inl (cy_5, 0, .inr (.inr (.inr (.inr (fun _ => none))))))]) H := hP
  have hD : va_D A ([(h, .inr (4, [.ref q_4, .null, .int 0, .null])), (q_4, .inl (cy_5, 0, .inr (.inr (.inr (.inr (fun _ => none))))))]) := hD
  refine lv_aload_n hx hb dX4_init_12 rfl (lv_at hl 0 rfl) ?_
  refine lv_bipush (v := 60) hx hb dX4_init_13 (by decide) ?_
  refine qnewA (N' := 60) hx hb hown (hts (.classLink RX4 7 "[I") (List.mem_of_getElem? (i := 4) (by rfl))) (hKx.use) hK hP hD hS hA (by decide) rfl (Nat.le_of_ble_eq_true rfl) (by omega) (by omega) dX4_init_15 (fun q_6 cy_7 H hKAcy_7 hK hP hD hS => ?_)
  have hP : va_P D vwCl ([(h, .inr (4, [.ref q_4, .null, .int 0, .null])), (q_4, .inl (cy_5, 0, .inr (.inr (.inr (.inr (fun _ => none)))))), (q_6, .inl (cy_7, 60, .inr (.inr (.inr (.inr (fun _ => none))))))]) H := hP
  have hD : va_D A ([(h, .inr (4, [.ref q_4, .null, .int 0, .null])), (q_4, .inl (cy_5, 0, .inr (.inr (.inr (.inr (fun _ => none)))))), (q_6, .inl (cy_7, 60, .inr (.inr (.inr (.inr (fun _ => none))))))]) := hD
  refine va_put (D := D) (ci := 4) (v := .ref q_6) (ty := .array (.array .int)) (C := RX4) (T := TX4) (N := 4) hx hb hts (fun _ h9 => List.mem_cons_of_mem _ (List.mem_append_right _ h9)) tyX4 tyX4_ok nmX4 hown hK hP hD hS 0 rfl rfl 1 (by decide) (hts (.fieldLink RX4 15 "PalletStackLaw$Hand" "items" "[[I") (List.mem_of_getElem? (i := 6) (by rfl))) (fun _ h9 => h9) rfl (by decide +kernel) rfl rfl (Nat.le_of_ble_eq_true rfl) dX4_init_18 (fun H locs hP hD hS => ?_)
  have hP : va_P D vwCl ([(h, .inr (4, [.ref q_4, .ref q_6, .int 0, .null])), (q_4, .inl (cy_5, 0, .inr (.inr (.inr (.inr (fun _ => none)))))), (q_6, .inl (cy_7, 60, .inr (.inr (.inr (.inr (fun _ => none))))))]) H := hP
  have hD : va_D A ([(h, .inr (4, [.ref q_4, .ref q_6, .int 0, .null])), (q_4, .inl (cy_5, 0, .inr (.inr (.inr (.inr (fun _ => none)))))), (q_6, .inl (cy_7, 60, .inr (.inr (.inr (.inr (fun _ => none))))))]) := hD
  refine lv_aload_n hx hb dX4_init_21 rfl (lv_at hl 0 rfl) ?_
  refine lv_iconst (v := 4) hx hb dX4_init_22 (by decide) ?_
  refine znewa (atype := .int) (ty := .int) (N' := 4) (a0 := (4, .inl (fun _ => 0))) hx hb (hts (.arrayClass .int) (List.mem_of_getElem? (i := 7) (by rfl))) rfl hK hP hD hS hA (fun _ => rfl) (by decide) rfl (Nat.le_of_ble_eq_true rfl) (by omega) (by omega) dX4_init_23 (fun q_8 cy_9 H hz_10 hK hP hD hS => ?_)
  have hP : va_P D vwCl ([(h, .inr (4, [.ref q_4, .ref q_6, .int 0, .null])), (q_4, .inl (cy_5, 0, .inr (.inr (.inr (.inr (fun _ => none)))))), (q_6, .inl (cy_7, 60, .inr (.inr (.inr (.inr (fun _ => none)))))), (q_8, .inl (cy_9, 4, .inl (fun _ => 0)))]) H := hP
  have hD : va_D A ([(h, .inr (4, [.ref q_4, .ref q_6, .int 0, .null])), (q_4, .inl (cy_5, 0, .inr (.inr (.inr (.inr (fun _ => none)))))), (q_6, .inl (cy_7, 60, .inr (.inr (.inr (.inr (fun _ => none)))))), (q_8, .inl (cy_9, 4, .inl (fun _ => 0)))]) := hD
  refine lv_dup hx hb dX4_init_25 rfl ?_
  refine lv_iconst (v := 0) hx hb dX4_init_26 (by decide) ?_
  refine lv_bipush (v := 20) hx hb dX4_init_27 (by decide) ?_
  refine va_iast hx hb hK hP hD hS 3 2 rfl rfl (vp_in_nI (n := 0) (N := 4) (by decide) (by decide)) dX4_init_29 (fun H locs hP hD hS => ?_)
  have hP : va_P D vwCl ([(h, .inr (4, [.ref q_4, .ref q_6, .int 0, .null])), (q_4, .inl (cy_5, 0, .inr (.inr (.inr (.inr (fun _ => none)))))), (q_6, .inl (cy_7, 60, .inr (.inr (.inr (.inr (fun _ => none)))))), (q_8, .inl (cy_9, 4, .inl (upd (fun _ => 0) 0 20)))]) H := hP
  have hD : va_D A ([(h, .inr (4, [.ref q_4, .ref q_6, .int 0, .null])), (q_4, .inl (cy_5, 0, .inr (.inr (.inr (.inr (fun _ => none)))))), (q_6, .inl (cy_7, 60, .inr (.inr (.inr (.inr (fun _ => none)))))), (q_8, .inl (cy_9, 4, .inl (upd (fun _ => 0) 0 20)))]) := hD
  refine lv_dup hx hb dX4_init_30 rfl ?_
  refine lv_iconst (v := 1) hx hb dX4_init_31 (by decide) ?_
  refine lv_bipush (v := 60) hx hb dX4_init_32 (by decide) ?_
  refine va_iast hx hb hK hP hD hS 3 2 rfl rfl (vp_in_nI (n := 1) (N := 4) (by decide) (by decide)) dX4_init_34 (fun H locs hP hD hS => ?_)
  have hP : va_P D vwCl ([(h, .inr (4, [.ref q_4, .ref q_6, .int 0, .null])), (q_4, .inl (cy_5, 0, .inr (.inr (.inr (.inr (fun _ => none)))))), (q_6, .inl (cy_7, 60, .inr (.inr (.inr (.inr (fun _ => none)))))), (q_8, .inl (cy_9, 4, .inl (upd (upd (fun _ => 0) 0 20) 1 60)))]) H := hP
  have hD : va_D A ([(h, .inr (4, [.ref q_4, .ref q_6, .int 0, .null])), (q_4, .inl (cy_5, 0, .inr (.inr (.inr (.inr (fun _ => none)))))), (q_6, .inl (cy_7, 60, .inr (.inr (.inr (.inr (fun _ => none)))))), (q_8, .inl (cy_9, 4, .inl (upd (upd (fun _ => 0) 0 20) 1 60)))]) := hD
  refine lv_dup hx hb dX4_init_35 rfl ?_
  refine lv_iconst (v := 2) hx hb dX4_init_36 (by decide) ?_
  refine lv_sipush (v := 2000) hx hb dX4_init_37 (by decide) ?_
  refine va_iast hx hb hK hP hD hS 3 2 rfl rfl (vp_in_nI (n := 2) (N := 4) (by decide) (by decide)) dX4_init_40 (fun H locs hP hD hS => ?_)
  have hP : va_P D vwCl ([(h, .inr (4, [.ref q_4, .ref q_6, .int 0, .null])), (q_4, .inl (cy_5, 0, .inr (.inr (.inr (.inr (fun _ => none)))))), (q_6, .inl (cy_7, 60, .inr (.inr (.inr (.inr (fun _ => none)))))), (q_8, .inl (cy_9, 4, .inl (upd (upd (upd (fun _ => 0) 0 20) 1 60) 2 2000)))]) H := hP
  have hD : va_D A ([(h, .inr (4, [.ref q_4, .ref q_6, .int 0, .null])), (q_4, .inl (cy_5, 0, .inr (.inr (.inr (.inr (fun _ => none)))))), (q_6, .inl (cy_7, 60, .inr (.inr (.inr (.inr (fun _ => none)))))), (q_8, .inl (cy_9, 4, .inl (upd (upd (upd (fun _ => 0) 0 20) 1 60) 2 2000)))]) := hD
  refine lv_dup hx hb dX4_init_41 rfl ?_
  refine lv_iconst (v := 3) hx hb dX4_init_42 (by decide) ?_
  refine lv_iconst (v := 0) hx hb dX4_init_43 (by decide) ?_
  refine va_iast hx hb hK hP hD hS 3 2 rfl rfl (vp_in_nI (n := 3) (N := 4) (by decide) (by decide)) dX4_init_44 (fun H locs hP hD hS => ?_)
  have hP : va_P D vwCl ([(h, .inr (4, [.ref q_4, .ref q_6, .int 0, .null])), (q_4, .inl (cy_5, 0, .inr (.inr (.inr (.inr (fun _ => none)))))), (q_6, .inl (cy_7, 60, .inr (.inr (.inr (.inr (fun _ => none)))))), (q_8, .inl (cy_9, 4, .inl (upd (upd (upd (upd (fun _ => 0) 0 20) 1 60) 2 2000) 3 0)))]) H := hP
  have hD : va_D A ([(h, .inr (4, [.ref q_4, .ref q_6, .int 0, .null])), (q_4, .inl (cy_5, 0, .inr (.inr (.inr (.inr (fun _ => none)))))), (q_6, .inl (cy_7, 60, .inr (.inr (.inr (.inr (fun _ => none)))))), (q_8, .inl (cy_9, 4, .inl (upd (upd (upd (upd (fun _ => 0) 0 20) 1 60) 2 2000) 3 0)))]) := hD
  refine va_put (D := D) (ci := 4) (v := .ref q_8) (ty := .array .int) (C := RX4) (T := TX4) (N := 4) hx hb hts (fun _ h9 => List.mem_cons_of_mem _ (List.mem_append_right _ h9)) tyX4 tyX4_ok nmX4 hown hK hP hD hS 0 rfl rfl 3 (by decide) (hts (.fieldLink RX4 18 "PalletStackLaw$Hand" "rules" "[I") (List.mem_of_getElem? (i := 8) (by rfl))) (fun _ h9 => h9) rfl (by decide +kernel) rfl rfl (Nat.le_of_ble_eq_true rfl) dX4_init_45 (fun H locs hP hD hS => ?_)
  have hP : va_P D vwCl ([(h, .inr (4, [.ref q_4, .ref q_6, .int 0, .ref q_8])), (q_4, .inl (cy_5, 0, .inr (.inr (.inr (.inr (fun _ => none)))))), (q_6, .inl (cy_7, 60, .inr (.inr (.inr (.inr (fun _ => none)))))), (q_8, .inl (cy_9, 4, .inl (upd (upd (upd (upd (fun _ => 0) 0 20) 1 60) 2 2000) 3 0)))]) H := hP
  have hD : va_D A ([(h, .inr (4, [.ref q_4, .ref q_6, .int 0, .ref q_8])), (q_4, .inl (cy_5, 0, .inr (.inr (.inr (.inr (fun _ => none)))))), (q_6, .inl (cy_7, 60, .inr (.inr (.inr (.inr (fun _ => none)))))), (q_8, .inl (cy_9, 4, .inl (upd (upd (upd (upd (fun _ => 0) 0 20) 1 60) 2 2000) 3 0)))]) := hD
  have hP := hP.sub (ws' := [(h, .inr (4, [.ref q_4, .ref q_6, .int 0, .ref q_8])), (q_8, .inl (cy_9, 4, .inl (upd (upd (upd (upd (fun _ => 0) 0 20) 1 60) 2 2000) 3 0)))]) [0, 3] rfl
  have hD := hD.sub (ws' := [(h, .inr (4, [.ref q_4, .ref q_6, .int 0, .ref q_8])), (q_8, .inl (cy_9, 4, .inl (upd (upd (upd (upd (fun _ => 0) 0 20) 1 60) 2 2000) 3 0)))]) [0, 3] (by decide) rfl
  refine W.widen (k := 3) (n := 64) (by omega) (by omega) ?_
  exact W.vret hx hb hr (fun t ht hW => ⟨⟨(fun i => [h, q_4, q_6, q_8].getD i 0, upd (upd (upd (upd (fun _ => 0) 0 20) 1 60) 2 2000) 3 0, cy_9), rfl, ⟨rfl, rfl, rfl, rfl⟩, ⟨Nat.zero_le _, by rw [ht]; exact hP, va_K.moved hW.alike (hK.sub (tys' := [(cy_9, .int)]) [2] rfl), hD⟩⟩, hS.F ht⟩) hS.2.2 dX4_init_48
