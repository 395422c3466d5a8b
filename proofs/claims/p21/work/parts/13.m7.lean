set_option maxHeartbeats 4000000 in
set_option maxRecDepth 100000 in
theorem c_LaddKind (l : Launch) (D : zG) (sz : Nat) (o kA iA tA tr lA n : Nat) (ou : Nat) (cK cJ : ClassId) (h : Nat → Int64) (hn : n = 0) : Met l yL_addKind wsL_addKind ({ frames := 3, cells := 1, slots := 8, locals := 90 }) (zPc D [(cK, .object RX1), (cJ, .long)] ([(o, .inr (3, [.ref kA, .int 0, .int 20, .int 60, .int 2000, .int 0, .ref iA, .int 0, .int 0, .int 0, .ref tA, .ref tr, .ref lA, .int (nI n)])), (kA, .inl (cK, 10, .inr (.inr (.inr (.inr (fun _ => none)))))), (ou, .inl (cJ, 1, .inr (.inl (h))))]) sz [.ref o, .int 1, .int 1, .int 2, .int 1, .int 0, .int 1, .ref ou]) (va_Qi (fun (r : Int32) (u : Nat) => r = 0) (zB D (va_A ([(o, .inr (3, [.ref kA, .int 0, .int 20, .int 60, .int 2000, .int 0, .ref iA, .int 0, .int 0, .int 0, .ref tA, .ref tr, .ref lA, .int (nI n)])), (kA, .inl (cK, 10, .inr (.inr (.inr (.inr (fun _ => none)))))), (ou, .inl (cJ, 1, .inr (.inl (h))))]) sz) (fun _ => [(cK, .object RX1), (cJ, .long)]) 0 (fun u => [(o, .inr (3, [.ref kA, .int 1, .int 20, .int 60, .int 2000, .int 0, .ref iA, .int 0, .int 0, .int 0, .ref tA, .ref tr, .ref lA, .int (nI n)])), (kA, .inl (cK, 10, .inr (.inr (.inr (.inr (va_up (fun _ => none) 0 (some u))))))), (u, .inr (1, [.int 0, .int 1, .int 1, .int 2, .int 1, .int 0, .int 1, .int 0])), (ou, .inl (cJ, 1, .inr (.inl (vp_updL h 0 (0 : Int32).toInt64))))])) (va_A ([(o, .inr (3, [.ref kA, .int 0, .int 20, .int 60, .int 2000, .int 0, .ref iA, .int 0, .int 0, .int 0, .ref tA, .ref tr, .ref lA, .int (nI n)])), (kA, .inl (cK, 10, .inr (.inr (.inr (.inr (fun _ => none)))))), (ou, .inl (cJ, 1, .inr (.inl (h))))]) sz)) 1 8 (va_A ([(o, .inr (3, [.ref kA, .int 0, .int 20, .int 60, .int 2000, .int 0, .ref iA, .int 0, .int 0, .int 0, .ref tA, .ref tr, .ref lA, .int (nI n)])), (kA, .inl (cK, 10, .inr (.inr (.inr (.inr (fun _ => none)))))), (ou, .inl (cJ, 1, .inr (.inl (h))))]) sz) := by
  refine va_MetW (cc := cL_addKind) (maxL := 9) (ret := (some .int)) (hh := [(0, 18, 21, 13), (0, 18, 25, 15)]) (by decide) rfl ?_
  intro p e s m args below meth c s₁ B hml hv
  obtain ⟨rfl, hsz, hP, hK, hD0⟩ := hv
  have hx := B.exec
  have hb := B.bytes
  have hr := B.returns
  have hts := atoms_spec (ws := wsL_addKind) B.pre
  have hown : s.vm.findClass RL = some m.cls := findClass_of_methodNamed B.named
  have hlocks := B.notSynchronized
  subst hsz
  have hD := hD0.self (sz := s.heap.size)
  generalize hAe : va_A ([(o, .inr (3, [.ref kA, .int 0, .int 20, .int 60, .int 2000, .int 0, .ref iA, .int 0, .int 0, .int 0, .ref tA, .ref tr, .ref lA, .int (nI n)])), (kA, .inl (cK, 10, .inr (.inr (.inr (.inr (fun _ => none)))))), (ou, .inl (cJ, 1, .inr (.inl (h))))]) s.heap.size = A at hD ⊢
  have hA : ∀ q : Nat, s.heap.size ≤ q → A q := fun q h => by rw [← hAe]; exact Or.inr h
  have hS : va_S A s.heap s.heap [] := va_S.rf
  have hl := lv_entry ([.ref o, .int 1, .int 1, .int 2, .int 1, .int 0, .int 1, .ref ou]) (n := 9) (Nat.le_of_ble_eq_true rfl)
  rw [lg_entry_eq]
  generalize (lg_sl ([.ref o, .int 1, .int 1, .int 2, .int 1, .int 0, .int 1, .ref ou]) ++ List.replicate (9 - (lg_sl ([.ref o, .int 1, .int 1, .int 2, .int 1, .int 0, .int 1, .ref ou])).length) Slot.unset).toArray = ls at hl ⊢
  have hl : lv_has ls 9 [(0, .ref o), (1, .int 1), (2, .int 1), (3, .int 2), (4, .int 1), (5, .int 0), (6, .int 1), (7, .ref ou)] := hl
  have hP : va_P D vwCl ([(o, .inr (3, [.ref kA, .int 0, .int 20, .int 60, .int 2000, .int 0, .ref iA, .int 0, .int 0, .int 0, .ref tA, .ref tr, .ref lA, .int (nI n)])), (kA, .inl (cK, 10, .inr (.inr (.inr (.inr (fun _ => none)))))), (ou, .inl (cJ, 1, .inr (.inl (h))))]) s.heap := hP
  generalize hRe : (headSpec _ _).room = R
  have hRf : R.frames = 3 := by rw [← hRe]; rfl
  have hRc : R.cells = 1 := by rw [← hRe]; rfl
  have hRs : R.slots = 8 := by rw [← hRe]; rfl
  have hRl : R.locals = 90 := by rw [← hRe]; rfl
  clear hRe
  refine lv_aload hx hb dL_addKind_0 (lv_at hl 7 rfl) ?_
  refine lv_iconst (v := 0) hx hb dL_addKind_2 (by decide) ?_
  refine lv_aload_n hx hb dL_addKind_3 rfl (lv_at hl 0 rfl) ?_
  refine lv_iload_n hx hb dL_addKind_4 rfl (lv_at hl 1 rfl) ?_
  refine lv_iload_n hx hb dL_addKind_5 rfl (lv_at hl 2 rfl) ?_
  refine lv_iload_n hx hb dL_addKind_6 rfl (lv_at hl 3 rfl) ?_
  refine lv_iload hx hb dL_addKind_7 (lv_at hl 4 rfl) ?_
  refine lv_iload hx hb dL_addKind_9 (lv_at hl 5 rfl) ?_
  refine lv_iload hx hb dL_addKind_11 (lv_at hl 6 rfl) ?_
  refine zcalliV (As := [.int 1, .int 1, .int 2, .int 1, .int 0, .int 1]) (rest := [.int 0, .ref ou]) (wc := [(o, .inr (3, [.ref kA, .int 0, .int 20, .int 60, .int 2000, .int 0, .ref iA, .int 0, .int 0, .int 0, .ref tA, .ref tr, .ref lA, .int (nI n)])), (kA, .inl (cK, 10, .inr (.inr (.inr (.inr (fun _ => none))))))]) (wr := [(ou, .inl (cJ, 1, .inr (.inl (h))))]) ⟨hx, hb, hml, hown, hts⟩ (c_addKind l D _ o kA iA tA tr lA n cK hn) (cwV 6 hts gL_addKind_X3_addKind rfl rfl rfl (by decide +kernel) ⟨by rw [hRf]; exact Nat.le_of_ble_eq_true rfl, by rw [hRl]; exact Nat.le_of_ble_eq_true rfl⟩) hK hP hD hS hA [0, 1] [2] rfl (by decide) rfl (by decide) (by decide) [0] rfl (ci := 3) (q0 := 0) rfl rfl rfl hl.1 rfl (Nat.le_of_ble_eq_true rfl) dL_addKind_13 ⟨by omega, by omega⟩ (fun r_408 u_409 H locs hwu_409 hnu_409 hzu_409 hK hP hD hS => ?_)
  have hK : va_K D vwCl [(cK, .object RX1), (cJ, .long), (cK, .object RX1)] s := hK
  have hP : va_P D vwCl ([(ou, .inl (cJ, 1, .inr (.inl (h)))), (o, .inr (3, [.ref kA, .int 1, .int 20, .int 60, .int 2000, .int 0, .ref iA, .int 0, .int 0, .int 0, .ref tA, .ref tr, .ref lA, .int (nI n)])), (kA, .inl (cK, 10, .inr (.inr (.inr (.inr (va_up (fun _ => none) 0 (some u_409))))))), (u_409, .inr (1, [.int 0, .int 1, .int 1, .int 2, .int 1, .int 0, .int 1, .int 0]))]) H := hP
  have hD : va_D A ([(ou, .inl (cJ, 1, .inr (.inl (h)))), (o, .inr (3, [.ref kA, .int 1, .int 20, .int 60, .int 2000, .int 0, .ref iA, .int 0, .int 0, .int 0, .ref tA, .ref tr, .ref lA, .int (nI n)])), (kA, .inl (cK, 10, .inr (.inr (.inr (.inr (va_up (fun _ => none) 0 (some u_409))))))), (u_409, .inr (1, [.int 0, .int 1, .int 1, .int 2, .int 1, .int 0, .int 1, .int 0]))]) := hD
  refine lv_topi (fun v_410 ev_410 => ?_)
  obtain rfl : v_410 = 0 := ev_410.trans hwu_409
  refine lv_i2l (v := (0 : Int32).toInt64) hx hb dL_addKind_16 rfl ?_
  refine va_last hx hb hK hP hD hS 0 1 rfl rfl (vp_in_nI (n := 0) (N := 1) (by decide) (by decide)) dL_addKind_17 (fun H locs hP hD hS => ?_)
  have hP : va_P D vwCl ([(ou, .inl (cJ, 1, .inr (.inl (vp_updL (h) 0 ((0 : Int32).toInt64))))), (o, .inr (3, [.ref kA, .int 1, .int 20, .int 60, .int 2000, .int 0, .ref iA, .int 0, .int 0, .int 0, .ref tA, .ref tr, .ref lA, .int (nI n)])), (kA, .inl (cK, 10, .inr (.inr (.inr (.inr (va_up (fun _ => none) 0 (some u_409))))))), (u_409, .inr (1, [.int 0, .int 1, .int 1, .int 2, .int 1, .int 0, .int 1, .int 0]))]) H := hP
  have hD : va_D A ([(ou, .inl (cJ, 1, .inr (.inl (vp_updL (h) 0 ((0 : Int32).toInt64))))), (o, .inr (3, [.ref kA, .int 1, .int 20, .int 60, .int 2000, .int 0, .ref iA, .int 0, .int 0, .int 0, .ref tA, .ref tr, .ref lA, .int (nI n)])), (kA, .inl (cK, 10, .inr (.inr (.inr (.inr (va_up (fun _ => none) 0 (some u_409))))))), (u_409, .inr (1, [.int 0, .int 1, .int 1, .int 2, .int 1, .int 0, .int 1, .int 0]))]) := hD
  have hP := hP.sub (ws' := [(o, .inr (3, [.ref kA, .int 1, .int 20, .int 60, .int 2000, .int 0, .ref iA, .int 0, .int 0, .int 0, .ref tA, .ref tr, .ref lA, .int (nI n)])), (kA, .inl (cK, 10, .inr (.inr (.inr (.inr (va_up (fun _ => none) 0 (some u_409))))))), (u_409, .inr (1, [.int 0, .int 1, .int 1, .int 2, .int 1, .int 0, .int 1, .int 0])), (ou, .inl (cJ, 1, .inr (.inl (vp_updL (h) 0 ((0 : Int32).toInt64)))))]) [1, 2, 3, 0] rfl
  have hD := hD.sub (ws' := [(o, .inr (3, [.ref kA, .int 1, .int 20, .int 60, .int 2000, .int 0, .ref iA, .int 0, .int 0, .int 0, .ref tA, .ref tr, .ref lA, .int (nI n)])), (kA, .inl (cK, 10, .inr (.inr (.inr (.inr (va_up (fun _ => none) 0 (some u_409))))))), (u_409, .inr (1, [.int 0, .int 1, .int 1, .int 2, .int 1, .int 0, .int 1, .int 0])), (ou, .inl (cJ, 1, .inr (.inl (vp_updL (h) 0 ((0 : Int32).toInt64)))))]) [1, 2, 3, 0] (by decide) rfl
  refine lv_goto (tgt := 29) hx hb dL_addKind_18 (by decide) ?_
  refine lv_iconst (v := 0) hx hb dL_addKind_29 (by decide) ?_
  refine W.widen (k := 1) (n := 8) (by omega) (by omega) ?_
  exact W.iret (v := 0) hx hb hr (fun t ht hW => ⟨⟨0, u_409, rfl, rfl, ⟨Nat.zero_le _, by rw [ht]; exact hP, va_K.moved hW.alike (hK.sub (tys' := [(cK, .object RX1), (cJ, .long)]) [0, 1] rfl), hD⟩⟩, hS.F ht⟩) hS.2.2 dL_addKind_30
set_option maxHeartbeats 4000000 in
set_option maxRecDepth 100000 in
theorem c_LsetRules (l : Launch) (D : zG) (sz : Nat) (o kA iA tA tr lA n : Nat) (ou : Nat) (cJ : ClassId) (h : Nat → Int64) : Met l yL_setRules wsL_setRules ({ frames := 3, cells := 0, slots := 0, locals := 60 }) (zPc D [(cJ, .long)] ([(o, .inr (3, [.ref kA, .int 1, .int 20, .int 60, .int 2000, .int 0, .ref iA, .int 0, .int 0, .int 0, .ref tA, .ref tr, .ref lA, .int (nI n)])), (ou, .inl (cJ, 1, .inr (.inl (h))))]) sz [.ref o, .int 1, .int 0, .int 1, .int 0, .ref ou]) (va_Qi (fun (r : Int32) (u : Unit) => r = 0) (zB D (va_A ([(o, .inr (3, [.ref kA, .int 1, .int 20, .int 60, .int 2000, .int 0, .ref iA, .int 0, .int 0, .int 0, .ref tA, .ref tr, .ref lA, .int (nI n)])), (ou, .inl (cJ, 1, .inr (.inl (h))))]) sz) (fun _ => [(cJ, .long)]) 0 (fun _ => [(o, .inr (3, [.ref kA, .int 1, .int 1, .int 0, .int 1, .int 0, .ref iA, .int 0, .int 0, .int 0, .ref tA, .ref tr, .ref lA, .int (nI n)])), (ou, .inl (cJ, 1, .inr (.inl (vp_updL h 0 (20 : Int32).toInt64))))])) (va_A ([(o, .inr (3, [.ref kA, .int 1, .int 20, .int 60, .int 2000, .int 0, .ref iA, .int 0, .int 0, .int 0, .ref tA, .ref tr, .ref lA, .int (nI n)])), (ou, .inl (cJ, 1, .inr (.inl (h))))]) sz)) 0 0 (va_A ([(o, .inr (3, [.ref kA, .int 1, .int 20, .int 60, .int 2000, .int 0, .ref iA, .int 0, .int 0, .int 0, .ref tA, .ref tr, .ref lA, .int (nI n)])), (ou, .inl (cJ, 1, .inr (.inl (h))))]) sz) := by
  refine va_MetW (cc := cL_setRules) (maxL := 7) (ret := (some .int)) (hh := [(0, 14, 17, 13)]) (by decide) rfl ?_
  intro p e s m args below meth c s₁ B hml hv
  obtain ⟨rfl, hsz, hP, hK, hD0⟩ := hv
  have hx := B.exec
  have hb := B.bytes
  have hr := B.returns
  have hts := atoms_spec (ws := wsL_setRules) B.pre
  have hown : s.vm.findClass RL = some m.cls := findClass_of_methodNamed B.named
  have hlocks := B.notSynchronized
  subst hsz
  have hD := hD0.self (sz := s.heap.size)
  generalize hAe : va_A ([(o, .inr (3, [.ref kA, .int 1, .int 20, .int 60, .int 2000, .int 0, .ref iA, .int 0, .int 0, .int 0, .ref tA, .ref tr, .ref lA, .int (nI n)])), (ou, .inl (cJ, 1, .inr (.inl (h))))]) s.heap.size = A at hD ⊢
  have hA : ∀ q : Nat, s.heap.size ≤ q → A q := fun q h => by rw [← hAe]; exact Or.inr h
  have hS : va_S A s.heap s.heap [] := va_S.rf
  have hl := lv_entry ([.ref o, .int 1, .int 0, .int 1, .int 0, .ref ou]) (n := 7) (Nat.le_of_ble_eq_true rfl)
  rw [lg_entry_eq]
  generalize (lg_sl ([.ref o, .int 1, .int 0, .int 1, .int 0, .ref ou]) ++ List.replicate (7 - (lg_sl ([.ref o, .int 1, .int 0, .int 1, .int 0, .ref ou])).length) Slot.unset).toArray = ls at hl ⊢
  have hl : lv_has ls 7 [(0, .ref o), (1, .int 1), (2, .int 0), (3, .int 1), (4, .int 0), (5, .ref ou)] := hl
  have hP : va_P D vwCl ([(o, .inr (3, [.ref kA, .int 1, .int 20, .int 60, .int 2000, .int 0, .ref iA, .int 0, .int 0, .int 0, .ref tA, .ref tr, .ref lA, .int (nI n)])), (ou, .inl (cJ, 1, .inr (.inl (h))))]) s.heap := hP
  generalize hRe : (headSpec _ _).room = R
  have hRf : R.frames = 3 := by rw [← hRe]; rfl
  have hRc : R.cells = 0 := by rw [← hRe]; rfl
  have hRs : R.slots = 0 := by rw [← hRe]; rfl
  have hRl : R.locals = 60 := by rw [← hRe]; rfl
  clear hRe
  refine lv_aload hx hb dL_setRules_0 (lv_at hl 5 rfl) ?_
  refine lv_iconst (v := 0) hx hb dL_setRules_2 (by decide) ?_
  refine lv_aload_n hx hb dL_setRules_3 rfl (lv_at hl 0 rfl) ?_
  refine lv_iload_n hx hb dL_setRules_4 rfl (lv_at hl 1 rfl) ?_
  refine lv_iload_n hx hb dL_setRules_5 rfl (lv_at hl 2 rfl) ?_
  refine lv_iload_n hx hb dL_setRules_6 rfl (lv_at hl 3 rfl) ?_
  refine lv_iload hx hb dL_setRules_7 (lv_at hl 4 rfl) ?_
  refine zcalliV (As := [.int 1, .int 0, .int 1, .int 0]) (rest := [.int 0, .ref ou]) (wc := [(o, .inr (3, [.ref kA, .int 1, .int 20, .int 60, .int 2000, .int 0, .ref iA, .int 0, .int 0, .int 0, .ref tA, .ref tr, .ref lA, .int (nI n)]))]) (wr := [(ou, .inl (cJ, 1, .inr (.inl (h))))]) ⟨hx, hb, hml, hown, hts⟩ (c_setRules l D _ o kA iA tA tr lA n) (cwV 4 hts gL_setRules_X3_setRules rfl rfl rfl (by decide +kernel) ⟨by rw [hRf]; exact Nat.le_of_ble_eq_true rfl, by rw [hRl]; exact Nat.le_of_ble_eq_true rfl⟩) hK hP hD hS hA [0] [1] rfl (by decide) rfl (by decide) (by decide) [] rfl (ci := 3) (q0 := 0) rfl rfl rfl hl.1 rfl (Nat.le_of_ble_eq_true rfl) dL_setRules_9 ⟨by omega, by omega⟩ (fun r_411 u_412 H locs hwu_412 hnu_412 hzu_412 hK hP hD hS => ?_)
  have hK : va_K D vwCl [(cJ, .long)] s := hK
  have hP : va_P D vwCl ([(ou, .inl (cJ, 1, .inr (.inl (h)))), (o, .inr (3, [.ref kA, .int 1, .int 1, .int 0, .int 1, .int 0, .ref iA, .int 0, .int 0, .int 0, .ref tA, .ref tr, .ref lA, .int (nI n)]))]) H := hP
  have hD : va_D A ([(ou, .inl (cJ, 1, .inr (.inl (h)))), (o, .inr (3, [.ref kA, .int 1, .int 1, .int 0, .int 1, .int 0, .ref iA, .int 0, .int 0, .int 0, .ref tA, .ref tr, .ref lA, .int (nI n)]))]) := hD
  refine lv_topi (fun v_413 ev_413 => ?_)
  obtain rfl : v_413 = 20 := ev_413.trans hwu_412
  refine lv_i2l (v := (20 : Int32).toInt64) hx hb dL_setRules_12 rfl ?_
  refine va_last hx hb hK hP hD hS 0 0 rfl rfl (vp_in_nI (n := 0) (N := 1) (by decide) (by decide)) dL_setRules_13 (fun H locs hP hD hS => ?_)
  have hP : va_P D vwCl ([(ou, .inl (cJ, 1, .inr (.inl (vp_updL (h) 0 ((20 : Int32).toInt64))))), (o, .inr (3, [.ref kA, .int 1, .int 1, .int 0, .int 1, .int 0, .ref iA, .int 0, .int 0, .int 0, .ref tA, .ref tr, .ref lA, .int (nI n)]))]) H := hP
  have hD : va_D A ([(ou, .inl (cJ, 1, .inr (.inl (vp_updL (h) 0 ((20 : Int32).toInt64))))), (o, .inr (3, [.ref kA, .int 1, .int 1, .int 0, .int 1, .int 0, .ref iA, .int 0, .int 0, .int 0, .ref tA, .ref tr, .ref lA, .int (nI n)]))]) := hD
  have hP := hP.sub (ws' := [(o, .inr (3, [.ref kA, .int 1, .int 1, .int 0, .int 1, .int 0, .ref iA, .int 0, .int 0, .int 0, .ref tA, .ref tr, .ref lA, .int (nI n)])), (ou, .inl (cJ, 1, .inr (.inl (vp_updL (h) 0 ((20 : Int32).toInt64)))))]) [1, 0] rfl
  have hD := hD.sub (ws' := [(o, .inr (3, [.ref kA, .int 1, .int 1, .int 0, .int 1, .int 0, .ref iA, .int 0, .int 0, .int 0, .ref tA, .ref tr, .ref lA, .int (nI n)])), (ou, .inl (cJ, 1, .inr (.inl (vp_updL (h) 0 ((20 : Int32).toInt64)))))]) [1, 0] (by decide) rfl
  refine lv_goto (tgt := 21) hx hb dL_setRules_14 (by decide) ?_
  refine lv_iconst (v := 0) hx hb dL_setRules_21 (by decide) ?_
  refine W.widen (k := 0) (n := 0) (by omega) (by omega) ?_
  exact W.iret (v := 0) hx hb hr (fun t ht hW => ⟨⟨0, (), rfl, rfl, ⟨Nat.zero_le _, by rw [ht]; exact hP, va_K.moved hW.alike (hK.sub (tys' := [(cJ, .long)]) [0] rfl), hD⟩⟩, hS.F ht⟩) hS.2.2 dL_setRules_22
set_option maxHeartbeats 4000000 in
set_option maxRecDepth 100000 in
theorem c_LaddLine (l : Launch) (D : zG) (sz : Nat) (o kA iA tA tr lA n : Nat) (ou : Nat) (cK cL cJ : ClassId) (g f : Nat → Option Nat) (k0 : Nat) (hg : g 0 = some k0) (hn : n < 20) (h : Nat → Int64) : Met l yL_addLine wsL_addLine ({ frames := 3, cells := 1, slots := 3, locals := 75 }) (zPc D [(cK, .object RX1), (cL, .object RX2), (cJ, .long)] ([(o, .inr (3, [.ref kA, .int 1, .int 1, .int 0, .int 1, .int 0, .ref iA, .int 0, .int 0, .int 0, .ref tA, .ref tr, .ref lA, .int (nI n)])), (kA, .inl (cK, 10, .inr (.inr (.inr (.inr (g)))))), (lA, .inl (cL, 20, .inr (.inr (.inr (.inr (f)))))), (k0, .inr (1, [.int 0, .int 1, .int 1, .int 2, .int 1, .int 0, .int 1, .int 0])), (ou, .inl (cJ, 1, .inr (.inl (h))))]) sz [.ref o, .int 0, .int 1, .ref ou]) (va_Qi (fun (r : Int32) (u : Nat) => r = 0) (zB D (va_A ([(o, .inr (3, [.ref kA, .int 1, .int 1, .int 0, .int 1, .int 0, .ref iA, .int 0, .int 0, .int 0, .ref tA, .ref tr, .ref lA, .int (nI n)])), (kA, .inl (cK, 10, .inr (.inr (.inr (.inr (g)))))), (lA, .inl (cL, 20, .inr (.inr (.inr (.inr (f)))))), (k0, .inr (1, [.int 0, .int 1, .int 1, .int 2, .int 1, .int 0, .int 1, .int 0])), (ou, .inl (cJ, 1, .inr (.inl (h))))]) sz) (fun _ => []) 0 (fun u => [(o, .inr (3, [.ref kA, .int 1, .int 1, .int 0, .int 1, .int 0, .ref iA, .int 0, .int 0, .int 0, .ref tA, .ref tr, .ref lA, .int (nI (n + 1))])), (kA, .inl (cK, 10, .inr (.inr (.inr (.inr (g)))))), (lA, .inl (cL, 20, .inr (.inr (.inr (.inr (va_up f n (some u))))))), (k0, .inr (1, [.int 0, .int 1, .int 1, .int 2, .int 1, .int 0, .int 1, .int 0])), (ou, .inl (cJ, 1, .inr (.inl (vp_updL h 0 (nI n : Int32).toInt64)))), (u, .inr (2, [.ref k0, .int 1, .int 0]))])) (va_A ([(o, .inr (3, [.ref kA, .int 1, .int 1, .int 0, .int 1, .int 0, .ref iA, .int 0, .int 0, .int 0, .ref tA, .ref tr, .ref lA, .int (nI n)])), (kA, .inl (cK, 10, .inr (.inr (.inr (.inr (g)))))), (lA, .inl (cL, 20, .inr (.inr (.inr (.inr (f)))))), (k0, .inr (1, [.int 0, .int 1, .int 1, .int 2, .int 1, .int 0, .int 1, .int 0])), (ou, .inl (cJ, 1, .inr (.inl (h))))]) sz)) 1 3 (va_A ([(o, .inr (3, [.ref kA, .int 1, .int 1, .int 0, .int 1, .int 0, .ref iA, .int 0, .int 0, .int 0, .ref tA, .ref tr, .ref lA, .int (nI n)])), (kA, .inl (cK, 10, .inr (.inr (.inr (.inr (g)))))), (lA, .inl (cL, 20, .inr (.inr (.inr (.inr (f)))))), (k0, .inr (1, [.int 0, .int 1, .int 1, .int 2, .int 1, .int 0, .int 1, .int 0])), (ou, .inl (cJ, 1, .inr (.inl (h))))]) sz) := by
  refine va_MetW (cc := cL_addLine) (maxL := 5) (ret := (some .int)) (hh := [(0, 10, 13, 25), (0, 10, 17, 13), (0, 10, 21, 15)]) (by decide) rfl ?_
  intro p e s m args below meth c s₁ B hml hv
  obtain ⟨rfl, hsz, hP, hK, hD0⟩ := hv
  have hx := B.exec
  have hb := B.bytes
  have hr := B.returns
  have hts := atoms_spec (ws := wsL_addLine) B.pre
  have hown : s.vm.findClass RL = some m.cls := findClass_of_methodNamed B.named
  have hlocks := B.notSynchronized
  subst hsz
  have hD := hD0.self (sz := s.heap.size)
  generalize hAe : va_A ([(o, .inr (3, [.ref kA, .int 1, .int 1, .int 0, .int 1, .int 0, .ref iA, .int 0, .int 0, .int 0, .ref tA, .ref tr, .ref lA, .int (nI n)])), (kA, .inl (cK, 10, .inr (.inr (.inr (.inr (g)))))), (lA, .inl (cL, 20, .inr (.inr (.inr (.inr (f)))))), (k0, .inr (1, [.int 0, .int 1, .int 1, .int 2, .int 1, .int 0, .int 1, .int 0])), (ou, .inl (cJ, 1, .inr (.inl (h))))]) s.heap.size = A at hD ⊢
  have hA : ∀ q : Nat, s.heap.size ≤ q → A q := fun q h => by rw [← hAe]; exact Or.inr h
  have hS : va_S A s.heap s.heap [] := va_S.rf
  have hl := lv_entry ([.ref o, .int 0, .int 1, .ref ou]) (n := 5) (Nat.le_of_ble_eq_true rfl)
  rw [lg_entry_eq]
  generalize (lg_sl ([.ref o, .int 0, .int 1, .ref ou]) ++ List.replicate (5 - (lg_sl ([.ref o, .int 0, .int 1, .ref ou])).length) Slot.unset).toArray = ls at hl ⊢
  have hl : lv_has ls 5 [(0, .ref o), (1, .int 0), (2, .int 1), (3, .ref ou)] := hl
  have hP : va_P D vwCl ([(o, .inr (3, [.ref kA, .int 1, .int 1, .int 0, .int 1, .int 0, .ref iA, .int 0, .int 0, .int 0, .ref tA, .ref tr, .ref lA, .int (nI n)])), (kA, .inl (cK, 10, .inr (.inr (.inr (.inr (g)))))), (lA, .inl (cL, 20, .inr (.inr (.inr (.inr (f)))))), (k0, .inr (1, [.int 0, .int 1, .int 1, .int 2, .int 1, .int 0, .int 1, .int 0])), (ou, .inl (cJ, 1, .inr (.inl (h))))]) s.heap := hP
  generalize hRe : (headSpec _ _).room = R
  have hRf : R.frames = 3 := by rw [← hRe]; rfl
  have hRc : R.cells = 1 := by rw [← hRe]; rfl
  have hRs : R.slots = 3 := by rw [← hRe]; rfl
  have hRl : R.locals = 75 := by rw [← hRe]; rfl
  clear hRe
  refine lv_aload_n hx hb dL_addLine_0 rfl (lv_at hl 3 rfl) ?_
  refine lv_iconst (v := 0) hx hb dL_addLine_1 (by decide) ?_
  refine lv_aload_n hx hb dL_addLine_2 rfl (lv_at hl 0 rfl) ?_
  refine lv_iload_n hx hb dL_addLine_3 rfl (lv_at hl 1 rfl) ?_
  refine lv_iload_n hx hb dL_addLine_4 rfl (lv_at hl 2 rfl) ?_
  refine zcalliV (As := [.int 0, .int 1]) (rest := [.int 0, .ref ou]) (wc := [(o, .inr (3, [.ref kA, .int 1, .int 1, .int 0, .int 1, .int 0, .ref iA, .int 0, .int 0, .int 0, .ref tA, .ref tr, .ref lA, .int (nI n)])), (kA, .inl (cK, 10, .inr (.inr (.inr (.inr (g)))))), (lA, .inl (cL, 20, .inr (.inr (.inr (.inr (f)))))), (k0, .inr (1, [.int 0, .int 1, .int 1, .int 2, .int 1, .int 0, .int 1, .int 0]))]) (wr := [(ou, .inl (cJ, 1, .inr (.inl (h))))]) ⟨hx, hb, hml, hown, hts⟩ (c_addLine l D _ o kA iA tA tr lA n cK cL g f k0 hg hn) (cwV 2 hts gL_addLine_X3_addLine rfl rfl rfl (by decide +kernel) ⟨by rw [hRf]; exact Nat.le_of_ble_eq_true rfl, by rw [hRl]; exact Nat.le_of_ble_eq_true rfl⟩) hK hP hD hS hA [0, 1, 2, 3] [4] rfl (by decide) rfl (by decide) (by decide) [0, 1] rfl (ci := 3) (q0 := 0) rfl rfl rfl hl.1 rfl (Nat.le_of_ble_eq_true rfl) dL_addLine_5 ⟨by omega, by omega⟩ (fun r_414 u_415 H locs hwu_415 hnu_415 hzu_415 hK hP hD hS => ?_)
  have hK : va_K D vwCl [(cK, .object RX1), (cL, .object RX2), (cJ, .long), (cK, .object RX1), (cL, .object RX2)] s := hK
  have hP : va_P D vwCl ([(ou, .inl (cJ, 1, .inr (.inl (h)))), (o, .inr (3, [.ref kA, .int 1, .int 1, .int 0, .int 1, .int 0, .ref iA, .int 0, .int 0, .int 0, .ref tA, .ref tr, .ref lA, .int (nI (n + 1))])), (kA, .inl (cK, 10, .inr (.inr (.inr (.inr (g)))))), (lA, .inl (cL, 20, .inr (.inr (.inr (.inr (va_up f n (some u_415))))))), (k0, .inr (1, [.int 0, .int 1, .int 1, .int 2, .int 1, .int 0, .int 1, .int 0])), (u_415, .inr (2, [.ref k0, .int 1, .int 0]))]) H := hP
  have hD : va_D A ([(ou, .inl (cJ, 1, .inr (.inl (h)))), (o, .inr (3, [.ref kA, .int 1, .int 1, .int 0, .int 1, .int 0, .ref iA, .int 0, .int 0, .int 0, .ref tA, .ref tr, .ref lA, .int (nI (n + 1))])), (kA, .inl (cK, 10, .inr (.inr (.inr (.inr (g)))))), (lA, .inl (cL, 20, .inr (.inr (.inr (.inr (va_up f n (some u_415))))))), (k0, .inr (1, [.int 0, .int 1, .int 1, .int 2, .int 1, .int 0, .int 1, .int 0])), (u_415, .inr (2, [.ref k0, .int 1, .int 0]))]) := hD
  refine lv_topi (fun v_416 ev_416 => ?_)
  obtain rfl : v_416 = nI n := ev_416.trans hwu_415
  refine lv_i2l (v := (nI n : Int32).toInt64) hx hb dL_addLine_8 rfl ?_
  refine va_last hx hb hK hP hD hS 0 2 rfl rfl (vp_in_nI (n := 0) (N := 1) (by decide) (by decide)) dL_addLine_9 (fun H locs hP hD hS => ?_)
  have hP : va_P D vwCl ([(ou, .inl (cJ, 1, .inr (.inl (vp_updL (h) 0 ((nI n : Int32).toInt64))))), (o, .inr (3, [.ref kA, .int 1, .int 1, .int 0, .int 1, .int 0, .ref iA, .int 0, .int 0, .int 0, .ref tA, .ref tr, .ref lA, .int (nI (n + 1))])), (kA, .inl (cK, 10, .inr (.inr (.inr (.inr (g)))))), (lA, .inl (cL, 20, .inr (.inr (.inr (.inr (va_up f n (some u_415))))))), (k0, .inr (1, [.int 0, .int 1, .int 1, .int 2, .int 1, .int 0, .int 1, .int 0])), (u_415, .inr (2, [.ref k0, .int 1, .int 0]))]) H := hP
  have hD : va_D A ([(ou, .inl (cJ, 1, .inr (.inl (vp_updL (h) 0 ((nI n : Int32).toInt64))))), (o, .inr (3, [.ref kA, .int 1, .int 1, .int 0, .int 1, .int 0, .ref iA, .int 0, .int 0, .int 0, .ref tA, .ref tr, .ref lA, .int (nI (n + 1))])), (kA, .inl (cK, 10, .inr (.inr (.inr (.inr (g)))))), (lA, .inl (cL, 20, .inr (.inr (.inr (.inr (va_up f n (some u_415))))))), (k0, .inr (1, [.int 0, .int 1, .int 1, .int 2, .int 1, .int 0, .int 1, .int 0])), (u_415, .inr (2, [.ref k0, .int 1, .int 0]))]) := hD
  have hP := hP.sub (ws' := [(o, .inr (3, [.ref kA, .int 1, .int 1, .int 0, .int 1, .int 0, .ref iA, .int 0, .int 0, .int 0, .ref tA, .ref tr, .ref lA, .int (nI (n + 1))])), (kA, .inl (cK, 10, .inr (.inr (.inr (.inr (g)))))), (lA, .inl (cL, 20, .inr (.inr (.inr (.inr (va_up f n (some u_415))))))), (k0, .inr (1, [.int 0, .int 1, .int 1, .int 2, .int 1, .int 0, .int 1, .int 0])), (ou, .inl (cJ, 1, .inr (.inl (vp_updL (h) 0 ((nI n : Int32).toInt64))))), (u_415, .inr (2, [.ref k0, .int 1, .int 0]))]) [1, 2, 3, 4, 0, 5] rfl
  have hD := hD.sub (ws' := [(o, .inr (3, [.ref kA, .int 1, .int 1, .int 0, .int 1, .int 0, .ref iA, .int 0, .int 0, .int 0, .ref tA, .ref tr, .ref lA, .int (nI (n + 1))])), (kA, .inl (cK, 10, .inr (.inr (.inr (.inr (g)))))), (lA, .inl (cL, 20, .inr (.inr (.inr (.inr (va_up f n (some u_415))))))), (k0, .inr (1, [.int 0, .int 1, .int 1, .int 2, .int 1, .int 0, .int 1, .int 0])), (ou, .inl (cJ, 1, .inr (.inl (vp_updL (h) 0 ((nI n : Int32).toInt64))))), (u_415, .inr (2, [.ref k0, .int 1, .int 0]))]) [1, 2, 3, 4, 0, 5] (by decide) rfl
  refine lv_goto (tgt := 25) hx hb dL_addLine_10 (by decide) ?_
  refine lv_iconst (v := 0) hx hb dL_addLine_25 (by decide) ?_
  refine W.widen (k := 1) (n := 3) (by omega) (by omega) ?_
  exact W.iret (v := 0) hx hb hr (fun t ht hW => ⟨⟨0, u_415, rfl, rfl, ⟨Nat.zero_le _, by rw [ht]; exact hP, va_K.moved hW.alike (hK.sub (tys' := []) [] rfl), hD⟩⟩, hS.F ht⟩) hS.2.2 dL_addLine_26
