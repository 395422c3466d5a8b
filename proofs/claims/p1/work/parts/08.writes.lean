set_option maxHeartbeats 4000000 in
set_option maxRecDepth 100000 in
theorem c_reason_x (l : Launch) (hfl : l.stackTraces = false) (D : zG) (sz : Nat) (o kA iA tA tr lA : Nat) (a b c1 c2 : Int32) : vx_Met l yX3_reason wsX3_reason ({ frames := 6, cells := 1, slots := 6, locals := 100 }) (zPcK D [] ([(o, .inr (3, [.ref kA, .int 0, .int 20, .int 60, .int 2000, .int 0, .ref iA, .int 0, .int 0, .int 0, .ref tA, .ref tr, .ref lA, .int 0]))]) sz (zKX (va_A ([(o, .inr (3, [.ref kA, .int 0, .int 20, .int 60, .int 2000, .int 0, .ref iA, .int 0, .int 0, .int 0, .ref tA, .ref tr, .ref lA, .int 0]))]) sz)) [.ref o, .int a, .int b, .int c1, .int c2]) (zQX (va_A ([(o, .inr (3, [.ref kA, .int 0, .int 20, .int 60, .int 2000, .int 0, .ref iA, .int 0, .int 0, .int 0, .ref tA, .ref tr, .ref lA, .int 0]))]) sz)) (zXC "java/lang/IndexOutOfBoundsException" (va_A ([(o, .inr (3, [.ref kA, .int 0, .int 20, .int 60, .int 2000, .int 0, .ref iA, .int 0, .int 0, .int 0, .ref tA, .ref tr, .ref lA, .int 0]))]) sz)) 1 6 (va_A ([(o, .inr (3, [.ref kA, .int 0, .int 20, .int 60, .int 2000, .int 0, .ref iA, .int 0, .int 0, .int 0, .ref tA, .ref tr, .ref lA, .int 0]))]) sz) := by
  refine vx_ofW (cc := cX3_reason) (maxL := 6) (ret := (some .int)) (by decide) rfl ?_
  intro p e s m args below meth c s₁ B hml hT hv
  obtain ⟨rfl, ⟨hsz, hP, hK, hD0⟩, hKX⟩ := hv
  have hx := B.exec
  have hb := B.bytes
  have hr := B.returns
  have hts := atoms_spec (ws := wsX3_reason) B.pre
  have hown : s.vm.findClass RX3 = some m.cls := findClass_of_methodNamed B.named
  have hlocks := B.notSynchronized
  subst hsz
  have hD := hD0.self (sz := s.heap.size)
  generalize hAe : va_A ([(o, .inr (3, [.ref kA, .int 0, .int 20, .int 60, .int 2000, .int 0, .ref iA, .int 0, .int 0, .int 0, .ref tA, .ref tr, .ref lA, .int 0]))]) s.heap.size = A at hD hKX ⊢
  have hA : ∀ q : Nat, s.heap.size ≤ q → A q := fun q h => by rw [← hAe]; exact Or.inr h
  have hS : va_S A s.heap s.heap [] := va_S.rf
  have hl := lv_entry ([.ref o, .int a, .int b, .int c1, .int c2]) (n := 6) (Nat.le_of_ble_eq_true rfl)
  rw [lg_entry_eq]
  generalize (lg_sl ([.ref o, .int a, .int b, .int c1, .int c2]) ++ List.replicate (6 - (lg_sl ([.ref o, .int a, .int b, .int c1, .int c2])).length) Slot.unset).toArray = ls at hl ⊢
  have hl : lv_has ls 6 [(0, .ref o), (1, .int a), (2, .int b), (3, .int c1), (4, .int c2)] := hl
  have hP : va_P D vwCl ([(o, .inr (3, [.ref kA, .int 0, .int 20, .int 60, .int 2000, .int 0, .ref iA, .int 0, .int 0, .int 0, .ref tA, .ref tr, .ref lA, .int 0]))]) s.heap := hP
  generalize hRe : (headSpec _ _).room = R
  have hRf : R.frames = 6 := by rw [← hRe]; rfl
  have hRc : R.cells = 1 := by rw [← hRe]; rfl
  have hRs : R.slots = 6 := by rw [← hRe]; rfl
  have hRl : R.locals = 100 := by rw [← hRe]; rfl
  have hRc := hRc
  clear hRe
  refine lv_aload_n hx hb dX3_reason_0 rfl (lv_at hl 0 rfl) ?_
  refine lv_iload_n hx hb dX3_reason_1 rfl (lv_at hl 1 rfl) ?_
  refine zrdVq (As := [.int a]) (rest := []) (wc := [(o, .inr (3, [.ref kA, .int 0, .int 20, .int 60, .int 2000, .int 0, .ref iA, .int 0, .int 0, .int 0, .ref tA, .ref tr, .ref lA, .int 0]))]) ⟨hx, hb, hml, hown, hts⟩ (c_kindOf0 l D _ o kA iA tA tr lA _) (cwV 1 hts gX3_reason_X3_kindOf rfl rfl rfl (by decide +kernel) ⟨by rw [hRf]; exact Nat.le_of_ble_eq_true rfl, by rw [hRl]; exact Nat.le_of_ble_eq_true rfl⟩) hK hP hD [0] rfl (by decide) [] rfl (ci := 3) (q0 := 0) rfl rfl rfl hl.1 rfl (Nat.le_of_ble_eq_true rfl) dX3_reason_2 ⟨by omega, by omega⟩ (fun r_1 hr_1 => ?_)
  refine W.eq (g2 := F0 m 5 ls [.null]) (by rw [hr_1]; rfl) ?_
  refine lv_astoreN (lv' := [(5, .null), (0, .ref o), (1, .int a), (2, .int b), (3, .int c1), (4, .int c2)]) hx hb dX3_reason_5 hl (by decide) rfl (fun ls hl => ?_)
  refine lv_aloadN hx hb dX3_reason_7 (lv_at hl 0 rfl) ?_
  refine lv_ifnonnullN hx hb dX3_reason_9 ?_
  exact zthrow (own := RX3) (ik := 78) (ic := 80) (cls := "java/lang/IndexOutOfBoundsException") hx hb hfl hown (by decide +kernel) (hts (.classLink RX3 78 "java/lang/IndexOutOfBoundsException") (List.mem_of_getElem? (i := 1) (by rfl))) (hts (.initialized "java/lang/IndexOutOfBoundsException") (List.mem_of_getElem? (i := 2) (by rfl))) (zhat 80 "java/lang/IndexOutOfBoundsException" hKX.2.2.2.2.2.2 (fun w9 h9 => hts w9 (List.mem_cons_of_mem _ (List.mem_append_right _ h9))) hKX (by decide +kernel)) (by decide +kernel) hKX hS (hl.1.trans hml.symm) dX3_reason_12 dX3_reason_15 dX3_reason_16 dX3_reason_19 hT (by rw [hRf]; decide) (by rw [hRl]; decide) (Nat.le_of_ble_eq_true rfl) (by rw [hRc]; decide) (by rw [hRs]; decide) hlocks (Nat.le_of_ble_eq_true rfl) (Nat.le_of_ble_eq_true rfl)
set_option maxHeartbeats 4000000 in
set_option maxRecDepth 100000 in
theorem c_put_x (l : Launch) (hfl : l.stackTraces = false) (D : zG) (sz : Nat) (o kA iA tA tr lA : Nat) (a b c1 c2 : Int32) : vx_Met l yX3_put wsX3_put ({ frames := 6, cells := 1, slots := 6, locals := 100 }) (zPcK D [] ([(o, .inr (3, [.ref kA, .int 0, .int 20, .int 60, .int 2000, .int 0, .ref iA, .int 0, .int 0, .int 0, .ref tA, .ref tr, .ref lA, .int 0]))]) sz (zKX (va_A ([(o, .inr (3, [.ref kA, .int 0, .int 20, .int 60, .int 2000, .int 0, .ref iA, .int 0, .int 0, .int 0, .ref tA, .ref tr, .ref lA, .int 0]))]) sz)) [.ref o, .int a, .int b, .int c1, .int c2]) (zQX (va_A ([(o, .inr (3, [.ref kA, .int 0, .int 20, .int 60, .int 2000, .int 0, .ref iA, .int 0, .int 0, .int 0, .ref tA, .ref tr, .ref lA, .int 0]))]) sz)) (zXC "java/lang/IndexOutOfBoundsException" (va_A ([(o, .inr (3, [.ref kA, .int 0, .int 20, .int 60, .int 2000, .int 0, .ref iA, .int 0, .int 0, .int 0, .ref tA, .ref tr, .ref lA, .int 0]))]) sz)) 1 6 (va_A ([(o, .inr (3, [.ref kA, .int 0, .int 20, .int 60, .int 2000, .int 0, .ref iA, .int 0, .int 0, .int 0, .ref tA, .ref tr, .ref lA, .int 0]))]) sz) := by
  refine vx_ofW (cc := cX3_put) (maxL := 6) (ret := (some .int)) (by decide) rfl ?_
  intro p e s m args below meth c s₁ B hml hT hv
  obtain ⟨rfl, ⟨hsz, hP, hK, hD0⟩, hKX⟩ := hv
  have hx := B.exec
  have hb := B.bytes
  have hr := B.returns
  have hts := atoms_spec (ws := wsX3_put) B.pre
  have hown : s.vm.findClass RX3 = some m.cls := findClass_of_methodNamed B.named
  have hlocks := B.notSynchronized
  subst hsz
  have hD := hD0.self (sz := s.heap.size)
  generalize hAe : va_A ([(o, .inr (3, [.ref kA, .int 0, .int 20, .int 60, .int 2000, .int 0, .ref iA, .int 0, .int 0, .int 0, .ref tA, .ref tr, .ref lA, .int 0]))]) s.heap.size = A at hD hKX ⊢
  have hA : ∀ q : Nat, s.heap.size ≤ q → A q := fun q h => by rw [← hAe]; exact Or.inr h
  have hS : va_S A s.heap s.heap [] := va_S.rf
  have hl := lv_entry ([.ref o, .int a, .int b, .int c1, .int c2]) (n := 6) (Nat.le_of_ble_eq_true rfl)
  rw [lg_entry_eq]
  generalize (lg_sl ([.ref o, .int a, .int b, .int c1, .int c2]) ++ List.replicate (6 - (lg_sl ([.ref o, .int a, .int b, .int c1, .int c2])).length) Slot.unset).toArray = ls at hl ⊢
  have hl : lv_has ls 6 [(0, .ref o), (1, .int a), (2, .int b), (3, .int c1), (4, .int c2)] := hl
  have hP : va_P D vwCl ([(o, .inr (3, [.ref kA, .int 0, .int 20, .int 60, .int 2000, .int 0, .ref iA, .int 0, .int 0, .int 0, .ref tA, .ref tr, .ref lA, .int 0]))]) s.heap := hP
  generalize hRe : (headSpec _ _).room = R
  have hRf : R.frames = 6 := by rw [← hRe]; rfl
  have hRc : R.cells = 1 := by rw [← hRe]; rfl
  have hRs : R.slots = 6 := by rw [← hRe]; rfl
  have hRl : R.locals = 100 := by rw [← hRe]; rfl
  have hRc := hRc
  clear hRe
  refine lv_aload_n hx hb dX3_put_0 rfl (lv_at hl 0 rfl) ?_
  refine lv_iload_n hx hb dX3_put_1 rfl (lv_at hl 1 rfl) ?_
  refine zrdVq (As := [.int a]) (rest := []) (wc := [(o, .inr (3, [.ref kA, .int 0, .int 20, .int 60, .int 2000, .int 0, .ref iA, .int 0, .int 0, .int 0, .ref tA, .ref tr, .ref lA, .int 0]))]) ⟨hx, hb, hml, hown, hts⟩ (c_kindOf0 l D _ o kA iA tA tr lA _) (cwV 1 hts gX3_put_X3_kindOf rfl rfl rfl (by decide +kernel) ⟨by rw [hRf]; exact Nat.le_of_ble_eq_true rfl, by rw [hRl]; exact Nat.le_of_ble_eq_true rfl⟩) hK hP hD [0] rfl (by decide) [] rfl (ci := 3) (q0 := 0) rfl rfl rfl hl.1 rfl (Nat.le_of_ble_eq_true rfl) dX3_put_2 ⟨by omega, by omega⟩ (fun r_3 hr_3 => ?_)
  refine W.eq (g2 := F0 m 5 ls [.null]) (by rw [hr_3]; rfl) ?_
  refine lv_astoreN (lv' := [(5, .null), (0, .ref o), (1, .int a), (2, .int b), (3, .int c1), (4, .int c2)]) hx hb dX3_put_5 hl (by decide) rfl (fun ls hl => ?_)
  refine lv_aloadN hx hb dX3_put_7 (lv_at hl 0 rfl) ?_
  refine lv_ifnonnullN hx hb dX3_put_9 ?_
  exact zthrow (own := RX3) (ik := 78) (ic := 80) (cls := "java/lang/IndexOutOfBoundsException") hx hb hfl hown (by decide +kernel) (hts (.classLink RX3 78 "java/lang/IndexOutOfBoundsException") (List.mem_of_getElem? (i := 1) (by rfl))) (hts (.initialized "java/lang/IndexOutOfBoundsException") (List.mem_of_getElem? (i := 2) (by rfl))) (zhat 80 "java/lang/IndexOutOfBoundsException" hKX.2.2.2.2.2.2 (fun w9 h9 => hts w9 (List.mem_cons_of_mem _ (List.mem_append_left _ (List.mem_append_right _ h9)))) hKX (by decide +kernel)) (by decide +kernel) hKX hS (hl.1.trans hml.symm) dX3_put_12 dX3_put_15 dX3_put_16 dX3_put_19 hT (by rw [hRf]; decide) (by rw [hRl]; decide) (Nat.le_of_ble_eq_true rfl) (by rw [hRc]; decide) (by rw [hRs]; decide) hlocks (Nat.le_of_ble_eq_true rfl) (Nat.le_of_ble_eq_true rfl)
set_option maxHeartbeats 4000000 in
set_option maxRecDepth 100000 in
theorem c_takeOff_x (l : Launch) (hfl : l.stackTraces = false) (D : zG) (sz : Nat) (o kA iA tA tr lA : Nat) (a : Int32) : vx_Met l yX3_takeOff wsX3_takeOff ({ frames := 6, cells := 1, slots := 6, locals := 100 }) (zPcK D [] ([(o, .inr (3, [.ref kA, .int 0, .int 20, .int 60, .int 2000, .int 0, .ref iA, .int 0, .int 0, .int 0, .ref tA, .ref tr, .ref lA, .int 0]))]) sz (zKX (va_A ([(o, .inr (3, [.ref kA, .int 0, .int 20, .int 60, .int 2000, .int 0, .ref iA, .int 0, .int 0, .int 0, .ref tA, .ref tr, .ref lA, .int 0]))]) sz)) [.ref o, .int a]) (zQX (va_A ([(o, .inr (3, [.ref kA, .int 0, .int 20, .int 60, .int 2000, .int 0, .ref iA, .int 0, .int 0, .int 0, .ref tA, .ref tr, .ref lA, .int 0]))]) sz)) (zXC "java/lang/IndexOutOfBoundsException" (va_A ([(o, .inr (3, [.ref kA, .int 0, .int 20, .int 60, .int 2000, .int 0, .ref iA, .int 0, .int 0, .int 0, .ref tA, .ref tr, .ref lA, .int 0]))]) sz)) 1 6 (va_A ([(o, .inr (3, [.ref kA, .int 0, .int 20, .int 60, .int 2000, .int 0, .ref iA, .int 0, .int 0, .int 0, .ref tA, .ref tr, .ref lA, .int 0]))]) sz) := by
  refine vx_ofW (cc := cX3_takeOff) (maxL := 3) (ret := (some .int)) (by decide) rfl ?_
  intro p e s m args below meth c s₁ B hml hT hv
  obtain ⟨rfl, ⟨hsz, hP, hK, hD0⟩, hKX⟩ := hv
  have hx := B.exec
  have hb := B.bytes
  have hr := B.returns
  have hts := atoms_spec (ws := wsX3_takeOff) B.pre
  have hown : s.vm.findClass RX3 = some m.cls := findClass_of_methodNamed B.named
  have hlocks := B.notSynchronized
  subst hsz
  have hD := hD0.self (sz := s.heap.size)
  generalize hAe : va_A ([(o, .inr (3, [.ref kA, .int 0, .int 20, .int 60, .int 2000, .int 0, .ref iA, .int 0, .int 0, .int 0, .ref tA, .ref tr, .ref lA, .int 0]))]) s.heap.size = A at hD hKX ⊢
  have hA : ∀ q : Nat, s.heap.size ≤ q → A q := fun q h => by rw [← hAe]; exact Or.inr h
  have hS : va_S A s.heap s.heap [] := va_S.rf
  have hl := lv_entry ([.ref o, .int a]) (n := 3) (Nat.le_of_ble_eq_true rfl)
  rw [lg_entry_eq]
  generalize (lg_sl ([.ref o, .int a]) ++ List.replicate (3 - (lg_sl ([.ref o, .int a])).length) Slot.unset).toArray = ls at hl ⊢
  have hl : lv_has ls 3 [(0, .ref o), (1, .int a)] := hl
  have hP : va_P D vwCl ([(o, .inr (3, [.ref kA, .int 0, .int 20, .int 60, .int 2000, .int 0, .ref iA, .int 0, .int 0, .int 0, .ref tA, .ref tr, .ref lA, .int 0]))]) s.heap := hP
  generalize hRe : (headSpec _ _).room = R
  have hRf : R.frames = 6 := by rw [← hRe]; rfl
  have hRc : R.cells = 1 := by rw [← hRe]; rfl
  have hRs : R.slots = 6 := by rw [← hRe]; rfl
  have hRl : R.locals = 100 := by rw [← hRe]; rfl
  have hRc := hRc
  clear hRe
  refine lv_aload_n hx hb dX3_takeOff_0 rfl (lv_at hl 0 rfl) ?_
  refine lv_iload_n hx hb dX3_takeOff_1 rfl (lv_at hl 1 rfl) ?_
  refine zrdVq (As := [.int a]) (rest := []) (wc := [(o, .inr (3, [.ref kA, .int 0, .int 20, .int 60, .int 2000, .int 0, .ref iA, .int 0, .int 0, .int 0, .ref tA, .ref tr, .ref lA, .int 0]))]) ⟨hx, hb, hml, hown, hts⟩ (c_itemOf0 l D _ o kA iA tA tr lA _) (cwV 1 hts gX3_takeOff_X3_itemOf rfl rfl rfl (by decide +kernel) ⟨by rw [hRf]; exact Nat.le_of_ble_eq_true rfl, by rw [hRl]; exact Nat.le_of_ble_eq_true rfl⟩) hK hP hD [0] rfl (by decide) [] rfl (ci := 3) (q0 := 0) rfl rfl rfl hl.1 rfl (Nat.le_of_ble_eq_true rfl) dX3_takeOff_2 ⟨by omega, by omega⟩ (fun r_5 hr_5 => ?_)
  refine W.eq (g2 := F0 m 5 ls [.null]) (by rw [hr_5]; rfl) ?_
  refine lv_astore_nN (lv' := [(2, .null), (0, .ref o), (1, .int a)]) hx hb dX3_takeOff_5 rfl hl (by decide) rfl (fun ls hl => ?_)
  refine lv_aload_nN hx hb dX3_takeOff_6 rfl (lv_at hl 0 rfl) ?_
  refine lv_ifnonnullN hx hb dX3_takeOff_7 ?_
  exact zthrow (own := RX3) (ik := 78) (ic := 80) (cls := "java/lang/IndexOutOfBoundsException") hx hb hfl hown (by decide +kernel) (hts (.classLink RX3 78 "java/lang/IndexOutOfBoundsException") (List.mem_of_getElem? (i := 1) (by rfl))) (hts (.initialized "java/lang/IndexOutOfBoundsException") (List.mem_of_getElem? (i := 2) (by rfl))) (zhat 80 "java/lang/IndexOutOfBoundsException" hKX.2.2.2.2.2.2 (fun w9 h9 => hts w9 (List.mem_cons_of_mem _ (List.mem_append_left _ (List.mem_append_right _ h9)))) hKX (by decide +kernel)) (by decide +kernel) hKX hS (hl.1.trans hml.symm) dX3_takeOff_10 dX3_takeOff_13 dX3_takeOff_14 dX3_takeOff_17 hT (by rw [hRf]; decide) (by rw [hRl]; decide) (Nat.le_of_ble_eq_true rfl) (by rw [hRc]; decide) (by rw [hRs]; decide) hlocks (Nat.le_of_ble_eq_true rfl) (Nat.le_of_ble_eq_true rfl)
set_option maxHeartbeats 4000000 in
set_option maxRecDepth 100000 in
theorem c_best_x (l : Launch) (hfl : l.stackTraces = false) (D : zG) (sz : Nat) (o kA iA tA tr lA : Nat) (a : Int32) : vx_Met l yX3_best wsX3_best ({ frames := 6, cells := 1, slots := 6, locals := 100 }) (zPcK D [] ([(o, .inr (3, [.ref kA, .int 0, .int 20, .int 60, .int 2000, .int 0, .ref iA, .int 0, .int 0, .int 0, .ref tA, .ref tr, .ref lA, .int 0]))]) sz (zKX (va_A ([(o, .inr (3, [.ref kA, .int 0, .int 20, .int 60, .int 2000, .int 0, .ref iA, .int 0, .int 0, .int 0, .ref tA, .ref tr, .ref lA, .int 0]))]) sz)) [.ref o, .int a]) (zQX (va_A ([(o, .inr (3, [.ref kA, .int 0, .int 20, .int 60, .int 2000, .int 0, .ref iA, .int 0, .int 0, .int 0, .ref tA, .ref tr, .ref lA, .int 0]))]) sz)) (zXC "java/lang/IndexOutOfBoundsException" (va_A ([(o, .inr (3, [.ref kA, .int 0, .int 20, .int 60, .int 2000, .int 0, .ref iA, .int 0, .int 0, .int 0, .ref tA, .ref tr, .ref lA, .int 0]))]) sz)) 1 6 (va_A ([(o, .inr (3, [.ref kA, .int 0, .int 20, .int 60, .int 2000, .int 0, .ref iA, .int 0, .int 0, .int 0, .ref tA, .ref tr, .ref lA, .int 0]))]) sz) := by
  refine vx_ofW (cc := cX3_best) (maxL := 3) (ret := (some .int)) (by decide) rfl ?_
  intro p e s m args below meth c s₁ B hml hT hv
  obtain ⟨rfl, ⟨hsz, hP, hK, hD0⟩, hKX⟩ := hv
  have hx := B.exec
  have hb := B.bytes
  have hr := B.returns
  have hts := atoms_spec (ws := wsX3_best) B.pre
  have hown : s.vm.findClass RX3 = some m.cls := findClass_of_methodNamed B.named
  have hlocks := B.notSynchronized
  subst hsz
  have hD := hD0.self (sz := s.heap.size)
  generalize hAe : va_A ([(o, .inr (3, [.ref kA, .int 0, .int 20, .int 60, .int 2000, .int 0, .ref iA, .int 0, .int 0, .int 0, .ref tA, .ref tr, .ref lA, .int 0]))]) s.heap.size = A at hD hKX ⊢
  have hA : ∀ q : Nat, s.heap.size ≤ q → A q := fun q h => by rw [← hAe]; exact Or.inr h
  have hS : va_S A s.heap s.heap [] := va_S.rf
  have hl := lv_entry ([.ref o, .int a]) (n := 3) (Nat.le_of_ble_eq_true rfl)
  rw [lg_entry_eq]
  generalize (lg_sl ([.ref o, .int a]) ++ List.replicate (3 - (lg_sl ([.ref o, .int a])).length) Slot.unset).toArray = ls at hl ⊢
  have hl : lv_has ls 3 [(0, .ref o), (1, .int a)] := hl
  have hP : va_P D vwCl ([(o, .inr (3, [.ref kA, .int 0, .int 20, .int 60, .int 2000, .int 0, .ref iA, .int 0, .int 0, .int 0, .ref tA, .ref tr, .ref lA, .int 0]))]) s.heap := hP
  generalize hRe : (headSpec _ _).room = R
  have hRf : R.frames = 6 := by rw [← hRe]; rfl
  have hRc : R.cells = 1 := by rw [← hRe]; rfl
  have hRs : R.slots = 6 := by rw [← hRe]; rfl
  have hRl : R.locals = 100 := by rw [← hRe]; rfl
  have hRc := hRc
  clear hRe
  refine lv_aload_n hx hb dX3_best_0 rfl (lv_at hl 0 rfl) ?_
  refine lv_iload_n hx hb dX3_best_1 rfl (lv_at hl 1 rfl) ?_
  refine zrdVq (As := [.int a]) (rest := []) (wc := [(o, .inr (3, [.ref kA, .int 0, .int 20, .int 60, .int 2000, .int 0, .ref iA, .int 0, .int 0, .int 0, .ref tA, .ref tr, .ref lA, .int 0]))]) ⟨hx, hb, hml, hown, hts⟩ (c_kindOf0 l D _ o kA iA tA tr lA _) (cwV 1 hts gX3_best_X3_kindOf rfl rfl rfl (by decide +kernel) ⟨by rw [hRf]; exact Nat.le_of_ble_eq_true rfl, by rw [hRl]; exact Nat.le_of_ble_eq_true rfl⟩) hK hP hD [0] rfl (by decide) [] rfl (ci := 3) (q0 := 0) rfl rfl rfl hl.1 rfl (Nat.le_of_ble_eq_true rfl) dX3_best_2 ⟨by omega, by omega⟩ (fun r_7 hr_7 => ?_)
  refine W.eq (g2 := F0 m 5 ls [.null]) (by rw [hr_7]; rfl) ?_
  refine lv_astore_nN (lv' := [(2, .null), (0, .ref o), (1, .int a)]) hx hb dX3_best_5 rfl hl (by decide) rfl (fun ls hl => ?_)
  refine lv_aload_nN hx hb dX3_best_6 rfl (lv_at hl 0 rfl) ?_
  refine lv_ifnonnullN hx hb dX3_best_7 ?_
  exact zthrow (own := RX3) (ik := 78) (ic := 80) (cls := "java/lang/IndexOutOfBoundsException") hx hb hfl hown (by decide +kernel) (hts (.classLink RX3 78 "java/lang/IndexOutOfBoundsException") (List.mem_of_getElem? (i := 1) (by rfl))) (hts (.initialized "java/lang/IndexOutOfBoundsException") (List.mem_of_getElem? (i := 2) (by rfl))) (zhat 80 "java/lang/IndexOutOfBoundsException" hKX.2.2.2.2.2.2 (fun w9 h9 => hts w9 (List.mem_cons_of_mem _ (List.mem_append_right _ h9))) hKX (by decide +kernel)) (by decide +kernel) hKX hS (hl.1.trans hml.symm) dX3_best_10 dX3_best_13 dX3_best_14 dX3_best_17 hT (by rw [hRf]; decide) (by rw [hRl]; decide) (Nat.le_of_ble_eq_true rfl) (by rw [hRc]; decide) (by rw [hRs]; decide) hlocks (Nat.le_of_ble_eq_true rfl) (Nat.le_of_ble_eq_true rfl)
set_option maxHeartbeats 4000000 in
set_option maxRecDepth 100000 in
theorem c_fill_x (l : Launch) (hfl : l.stackTraces = false) (D : zG) (sz : Nat) (o kA iA tA tr lA : Nat) (a b : Int32) : vx_Met l yX3_fill wsX3_fill ({ frames := 6, cells := 1, slots := 6, locals := 100 }) (zPcK D [] ([(o, .inr (3, [.ref kA, .int 0, .int 20, .int 60, .int 2000, .int 0, .ref iA, .int 0, .int 0, .int 0, .ref tA, .ref tr, .ref lA, .int 0]))]) sz (zKX (va_A ([(o, .inr (3, [.ref kA, .int 0, .int 20, .int 60, .int 2000, .int 0, .ref iA, .int 0, .int 0, .int 0, .ref tA, .ref tr, .ref lA, .int 0]))]) sz)) [.ref o, .int a, .int b]) (zQX (va_A ([(o, .inr (3, [.ref kA, .int 0, .int 20, .int 60, .int 2000, .int 0, .ref iA, .int 0, .int 0, .int 0, .ref tA, .ref tr, .ref lA, .int 0]))]) sz)) (zXC "java/lang/IndexOutOfBoundsException" (va_A ([(o, .inr (3, [.ref kA, .int 0, .int 20, .int 60, .int 2000, .int 0, .ref iA, .int 0, .int 0, .int 0, .ref tA, .ref tr, .ref lA, .int 0]))]) sz)) 1 6 (va_A ([(o, .inr (3, [.ref kA, .int 0, .int 20, .int 60, .int 2000, .int 0, .ref iA, .int 0, .int 0, .int 0, .ref tA, .ref tr, .ref lA, .int 0]))]) sz) := by
  refine vx_ofW (cc := cX3_fill) (maxL := 5) (ret := (some .int)) (by decide) rfl ?_
  intro p e s m args below meth c s₁ B hml hT hv
  obtain ⟨rfl, ⟨hsz, hP, hK, hD0⟩, hKX⟩ := hv
  have hx := B.exec
  have hb := B.bytes
  have hr := B.returns
  have hts := atoms_spec (ws := wsX3_fill) B.pre
  have hown : s.vm.findClass RX3 = some m.cls := findClass_of_methodNamed B.named
  have hlocks := B.notSynchronized
  subst hsz
  have hD := hD0.self (sz := s.heap.size)
  generalize hAe : va_A ([(o, .inr (3, [.ref kA, .int 0, .int 20, .int 60, .int 2000, .int 0, .ref iA, .int 0, .int 0, .int 0, .ref tA, .ref tr, .ref lA, .int 0]))]) s.heap.size = A at hD hKX ⊢
  have hA : ∀ q : Nat, s.heap.size ≤ q → A q := fun q h => by rw [← hAe]; exact Or.inr h
  have hS : va_S A s.heap s.heap [] := va_S.rf
  have hl := lv_entry ([.ref o, .int a, .int b]) (n := 5) (Nat.le_of_ble_eq_true rfl)
  rw [lg_entry_eq]
  generalize (lg_sl ([.ref o, .int a, .int b]) ++ List.replicate (5 - (lg_sl ([.ref o, .int a, .int b])).length) Slot.unset).toArray = ls at hl ⊢
  have hl : lv_has ls 5 [(0, .ref o), (1, .int a), (2, .int b)] := hl
  have hP : va_P D vwCl ([(o, .inr (3, [.ref kA, .int 0, .int 20, .int 60, .int 2000, .int 0, .ref iA, .int 0, .int 0, .int 0, .ref tA, .ref tr, .ref lA, .int 0]))]) s.heap := hP
  generalize hRe : (headSpec _ _).room = R
  have hRf : R.frames = 6 := by rw [← hRe]; rfl
  have hRc : R.cells = 1 := by rw [← hRe]; rfl
  have hRs : R.slots = 6 := by rw [← hRe]; rfl
  have hRl : R.locals = 100 := by rw [← hRe]; rfl
  have hRc := hRc
  clear hRe
  refine lv_aload_n hx hb dX3_fill_0 rfl (lv_at hl 0 rfl) ?_
  refine lv_iload_n hx hb dX3_fill_1 rfl (lv_at hl 1 rfl) ?_
  refine zrdVq (As := [.int a]) (rest := []) (wc := [(o, .inr (3, [.ref kA, .int 0, .int 20, .int 60, .int 2000, .int 0, .ref iA, .int 0, .int 0, .int 0, .ref tA, .ref tr, .ref lA, .int 0]))]) ⟨hx, hb, hml, hown, hts⟩ (c_kindOf0 l D _ o kA iA tA tr lA _) (cwV 1 hts gX3_fill_X3_kindOf rfl rfl rfl (by decide +kernel) ⟨by rw [hRf]; exact Nat.le_of_ble_eq_true rfl, by rw [hRl]; exact Nat.le_of_ble_eq_true rfl⟩) hK hP hD [0] rfl (by decide) [] rfl (ci := 3) (q0 := 0) rfl rfl rfl hl.1 rfl (Nat.le_of_ble_eq_true rfl) dX3_fill_2 ⟨by omega, by omega⟩ (fun r_9 hr_9 => ?_)
  refine W.eq (g2 := F0 m 5 ls [.null]) (by rw [hr_9]; rfl) ?_
  refine lv_astore_nN (lv' := [(3, .null), (0, .ref o), (1, .int a), (2, .int b)]) hx hb dX3_fill_5 rfl hl (by decide) rfl (fun ls hl => ?_)
  refine lv_aload_nN hx hb dX3_fill_6 rfl (lv_at hl 0 rfl) ?_
  refine lv_ifnonnullN hx hb dX3_fill_7 ?_
  exact zthrow (own := RX3) (ik := 78) (ic := 80) (cls := "java/lang/IndexOutOfBoundsException") hx hb hfl hown (by decide +kernel) (hts (.classLink RX3 78 "java/lang/IndexOutOfBoundsException") (List.mem_of_getElem? (i := 1) (by rfl))) (hts (.initialized "java/lang/IndexOutOfBoundsException") (List.mem_of_getElem? (i := 2) (by rfl))) (zhat 80 "java/lang/IndexOutOfBoundsException" hKX.2.2.2.2.2.2 (fun w9 h9 => hts w9 (List.mem_cons_of_mem _ (List.mem_append_left _ (List.mem_append_right _ h9)))) hKX (by decide +kernel)) (by decide +kernel) hKX hS (hl.1.trans hml.symm) dX3_fill_10 dX3_fill_13 dX3_fill_14 dX3_fill_17 hT (by rw [hRf]; decide) (by rw [hRl]; decide) (Nat.le_of_ble_eq_true rfl) (by rw [hRc]; decide) (by rw [hRs]; decide) hlocks (Nat.le_of_ble_eq_true rfl) (Nat.le_of_ble_eq_true rfl)
set_option maxHeartbeats 4000000 in
set_option maxRecDepth 100000 in
theorem c_addLine_x (l : Launch) (hfl : l.stackTraces = false) (D : zG) (sz : Nat) (o kA iA tA tr lA : Nat) (a b : Int32) : vx_Met l yX3_addLine wsX3_addLine ({ frames := 6, cells := 1, slots := 6, locals := 100 }) (zPcK D [] ([(o, .inr (3, [.ref kA, .int 0, .int 20, .int 60, .int 2000, .int 0, .ref iA, .int 0, .int 0, .int 0, .ref tA, .ref tr, .ref lA, .int 0]))]) sz (zKX (va_A ([(o, .inr (3, [.ref kA, .int 0, .int 20, .int 60, .int 2000, .int 0, .ref iA, .int 0, .int 0, .int 0, .ref tA, .ref tr, .ref lA, .int 0]))]) sz)) [.ref o, .int a, .int b]) (zQX (va_A ([(o, .inr (3, [.ref kA, .int 0, .int 20, .int 60, .int 2000, .int 0, .ref iA, .int 0, .int 0, .int 0, .ref tA, .ref tr, .ref lA, .int 0]))]) sz)) (zXC "java/lang/IndexOutOfBoundsException" (va_A ([(o, .inr (3, [.ref kA, .int 0, .int 20, .int 60, .int 2000, .int 0, .ref iA, .int 0, .int 0, .int 0, .ref tA, .ref tr, .ref lA, .int 0]))]) sz)) 1 6 (va_A ([(o, .inr (3, [.ref kA, .int 0, .int 20, .int 60, .int 2000, .int 0, .ref iA, .int 0, .int 0, .int 0, .ref tA, .ref tr, .ref lA, .int 0]))]) sz) := by
  refine vx_ofW (cc := cX3_addLine) (maxL := 5) (ret := (some .int)) (by decide) rfl ?_
  intro p e s m args below meth c s₁ B hml hT hv
  obtain ⟨rfl, ⟨hsz, hP, hK, hD0⟩, hKX⟩ := hv
  have hx := B.exec
  have hb := B.bytes
  have hr := B.returns
  have hts := atoms_spec (ws := wsX3_addLine) B.pre
  have hown : s.vm.findClass RX3 = some m.cls := findClass_of_methodNamed B.named
  have hlocks := B.notSynchronized
  subst hsz
  have hD := hD0.self (sz := s.heap.size)
  generalize hAe : va_A ([(o, .inr (3, [.ref kA, .int 0, .int 20, .int 60, .int 2000, .int 0, .ref iA, .int 0, .int 0, .int 0, .ref tA, .ref tr, .ref lA, .int 0]))]) s.heap.size = A at hD hKX ⊢
  have hA : ∀ q : Nat, s.heap.size ≤ q → A q := fun q h => by rw [← hAe]; exact Or.inr h
  have hS : va_S A s.heap s.heap [] := va_S.rf
  have hl := lv_entry ([.ref o, .int a, .int b]) (n := 5) (Nat.le_of_ble_eq_true rfl)
  rw [lg_entry_eq]
  generalize (lg_sl ([.ref o, .int a, .int b]) ++ List.replicate (5 - (lg_sl ([.ref o, .int a, .int b])).length) Slot.unset).toArray = ls at hl ⊢
  have hl : lv_has ls 5 [(0, .ref o), (1, .int a), (2, .int b)] := hl
  have hP : va_P D vwCl ([(o, .inr (3, [.ref kA, .int 0, .int 20, .int 60, .int 2000, .int 0, .ref iA, .int 0, .int 0, .int 0, .ref tA, .ref tr, .ref lA, .int 0]))]) s.heap := hP
  generalize hRe : (headSpec _ _).room = R
  have hRf : R.frames = 6 := by rw [← hRe]; rfl
  have hRc : R.cells = 1 := by rw [← hRe]; rfl
  have hRs : R.slots = 6 := by rw [← hRe]; rfl
  have hRl : R.locals = 100 := by rw [← hRe]; rfl
  have hRc := hRc
  clear hRe
  refine lv_aload_n hx hb dX3_addLine_0 rfl (lv_at hl 0 rfl) ?_
  refine lv_iload_n hx hb dX3_addLine_1 rfl (lv_at hl 1 rfl) ?_
  refine zrdVq (As := [.int a]) (rest := []) (wc := [(o, .inr (3, [.ref kA, .int 0, .int 20, .int 60, .int 2000, .int 0, .ref iA, .int 0, .int 0, .int 0, .ref tA, .ref tr, .ref lA, .int 0]))]) ⟨hx, hb, hml, hown, hts⟩ (c_kindOf0 l D _ o kA iA tA tr lA _) (cwV 1 hts gX3_addLine_X3_kindOf rfl rfl rfl (by decide +kernel) ⟨by rw [hRf]; exact Nat.le_of_ble_eq_true rfl, by rw [hRl]; exact Nat.le_of_ble_eq_true rfl⟩) hK hP hD [0] rfl (by decide) [] rfl (ci := 3) (q0 := 0) rfl rfl rfl hl.1 rfl (Nat.le_of_ble_eq_true rfl) dX3_addLine_2 ⟨by omega, by omega⟩ (fun r_11 hr_11 => ?_)
  refine W.eq (g2 := F0 m 5 ls [.null]) (by rw [hr_11]; rfl) ?_
  refine lv_astore_nN (lv' := [(3, .null), (0, .ref o), (1, .int a), (2, .int b)]) hx hb dX3_addLine_5 rfl hl (by decide) rfl (fun ls hl => ?_)
  refine lv_aload_nN hx hb dX3_addLine_6 rfl (lv_at hl 0 rfl) ?_
  refine lv_ifnonnullN hx hb dX3_addLine_7 ?_
  exact zthrow (own := RX3) (ik := 78) (ic := 80) (cls := "java/lang/IndexOutOfBoundsException") hx hb hfl hown (by decide +kernel) (hts (.classLink RX3 78 "java/lang/IndexOutOfBoundsException") (List.mem_of_getElem? (i := 1) (by rfl))) (hts (.initialized "java/lang/IndexOutOfBoundsException") (List.mem_of_getElem? (i := 2) (by rfl))) (zhat 80 "java/lang/IndexOutOfBoundsException" hKX.2.2.2.2.2.2 (fun w9 h9 => hts w9 (List.mem_cons_of_mem _ (List.mem_append_left _ (List.mem_append_left _ (List.mem_append_right _ h9))))) hKX (by decide +kernel)) (by decide +kernel) hKX hS (hl.1.trans hml.symm) dX3_addLine_10 dX3_addLine_13 dX3_addLine_14 dX3_addLine_17 hT (by rw [hRf]; decide) (by rw [hRl]; decide) (Nat.le_of_ble_eq_true rfl) (by rw [hRc]; decide) (by rw [hRs]; decide) hlocks (Nat.le_of_ble_eq_true rfl) (Nat.le_of_ble_eq_true rfl)
set_option maxHeartbeats 4000000 in
set_option maxRecDepth 100000 in
theorem c_line_x (l : Launch) (hfl : l.stackTraces = false) (D : zG) (sz : Nat) (o kA iA tA tr lA : Nat) (a b : Int32) : vx_Met l yX3_line wsX3_line ({ frames := 6, cells := 1, slots := 6, locals := 100 }) (zPcK D [] ([(o, .inr (3, [.ref kA, .int 0, .int 20, .int 60, .int 2000, .int 0, .ref iA, .int 0, .int 0, .int 0, .ref tA, .ref tr, .ref lA, .int 0]))]) sz (zKX (va_A ([(o, .inr (3, [.ref kA, .int 0, .int 20, .int 60, .int 2000, .int 0, .ref iA, .int 0, .int 0, .int 0, .ref tA, .ref tr, .ref lA, .int 0]))]) sz)) [.ref o, .int a, .int b]) (zQX (va_A ([(o, .inr (3, [.ref kA, .int 0, .int 20, .int 60, .int 2000, .int 0, .ref iA, .int 0, .int 0, .int 0, .ref tA, .ref tr, .ref lA, .int 0]))]) sz)) (zXC "java/lang/IndexOutOfBoundsException" (va_A ([(o, .inr (3, [.ref kA, .int 0, .int 20, .int 60, .int 2000, .int 0, .ref iA, .int 0, .int 0, .int 0, .ref tA, .ref tr, .ref lA, .int 0]))]) sz)) 1 6 (va_A ([(o, .inr (3, [.ref kA, .int 0, .int 20, .int 60, .int 2000, .int 0, .ref iA, .int 0, .int 0, .int 0, .ref tA, .ref tr, .ref lA, .int 0]))]) sz) := by
  refine vx_ofW (cc := cX3_line) (maxL := 4) (ret := (some .int)) (by decide) rfl ?_
  intro p e s m args below meth c s₁ B hml hT hv
  obtain ⟨rfl, ⟨hsz, hP, hK, hD0⟩, hKX⟩ := hv
  have hx := B.exec
  have hb := B.bytes
  have hr := B.returns
  have hts := atoms_spec (ws := wsX3_line) B.pre
  have hown : s.vm.findClass RX3 = some m.cls := findClass_of_methodNamed B.named
  have hlocks := B.notSynchronized
  subst hsz
  have hD := hD0.self (sz := s.heap.size)
  generalize hAe : va_A ([(o, .inr (3, [.ref kA, .int 0, .int 20, .int 60, .int 2000, .int 0, .ref iA, .int 0, .int 0, .int 0, .ref tA, .ref tr, .ref lA, .int 0]))]) s.heap.size = A at hD hKX ⊢
  have hA : ∀ q : Nat, s.heap.size ≤ q → A q := fun q h => by rw [← hAe]; exact Or.inr h
  have hS : va_S A s.heap s.heap [] := va_S.rf
  have hl := lv_entry ([.ref o, .int a, .int b]) (n := 4) (Nat.le_of_ble_eq_true rfl)
  rw [lg_entry_eq]
  generalize (lg_sl ([.ref o, .int a, .int b]) ++ List.replicate (4 - (lg_sl ([.ref o, .int a, .int b])).length) Slot.unset).toArray = ls at hl ⊢
  have hl : lv_has ls 4 [(0, .ref o), (1, .int a), (2, .int b)] := hl
  have hP : va_P D vwCl ([(o, .inr (3, [.ref kA, .int 0, .int 20, .int 60, .int 2000, .int 0, .ref iA, .int 0, .int 0, .int 0, .ref tA, .ref tr, .ref lA, .int 0]))]) s.heap := hP
  generalize hRe : (headSpec _ _).room = R
  have hRf : R.frames = 6 := by rw [← hRe]; rfl
  have hRc : R.cells = 1 := by rw [← hRe]; rfl
  have hRs : R.slots = 6 := by rw [← hRe]; rfl
  have hRl : R.locals = 100 := by rw [← hRe]; rfl
  have hRc := hRc
  clear hRe
  refine lv_aload_n hx hb dX3_line_0 rfl (lv_at hl 0 rfl) ?_
  refine lv_iload_n hx hb dX3_line_1 rfl (lv_at hl 1 rfl) ?_
  refine zrdVq (As := [.int a]) (rest := []) (wc := [(o, .inr (3, [.ref kA, .int 0, .int 20, .int 60, .int 2000, .int 0, .ref iA, .int 0, .int 0, .int 0, .ref tA, .ref tr, .ref lA, .int 0]))]) ⟨hx, hb, hml, hown, hts⟩ (c_lineOf0 l D _ o kA iA tA tr lA _) (cwV 1 hts gX3_line_X3_lineOf rfl rfl rfl (by decide +kernel) ⟨by rw [hRf]; exact Nat.le_of_ble_eq_true rfl, by rw [hRl]; exact Nat.le_of_ble_eq_true rfl⟩) hK hP hD [0] rfl (by decide) [] rfl (ci := 3) (q0 := 0) rfl rfl rfl hl.1 rfl (Nat.le_of_ble_eq_true rfl) dX3_line_2 ⟨by omega, by omega⟩ (fun r_13 hr_13 => ?_)
  refine W.eq (g2 := F0 m 5 ls [.null]) (by rw [hr_13]; rfl) ?_
  refine lv_astore_nN (lv' := [(3, .null), (0, .ref o), (1, .int a), (2, .int b)]) hx hb dX3_line_5 rfl hl (by decide) rfl (fun ls hl => ?_)
  refine lv_aload_nN hx hb dX3_line_6 rfl (lv_at hl 0 rfl) ?_
  refine lv_ifnonnullN hx hb dX3_line_7 ?_
  exact zthrow (own := RX3) (ik := 78) (ic := 80) (cls := "java/lang/IndexOutOfBoundsException") hx hb hfl hown (by decide +kernel) (hts (.classLink RX3 78 "java/lang/IndexOutOfBoundsException") (List.mem_of_getElem? (i := 1) (by rfl))) (hts (.initialized "java/lang/IndexOutOfBoundsException") (List.mem_of_getElem? (i := 2) (by rfl))) (zhat 80 "java/lang/IndexOutOfBoundsException" hKX.2.2.2.2.2.2 (fun w9 h9 => hts w9 (List.mem_cons_of_mem _ (List.mem_append_right _ h9))) hKX (by decide +kernel)) (by decide +kernel) hKX hS (hl.1.trans hml.symm) dX3_line_10 dX3_line_13 dX3_line_14 dX3_line_17 hT (by rw [hRf]; decide) (by rw [hRl]; decide) (Nat.le_of_ble_eq_true rfl) (by rw [hRc]; decide) (by rw [hRs]; decide) hlocks (Nat.le_of_ble_eq_true rfl) (Nat.le_of_ble_eq_true rfl)
set_option maxHeartbeats 4000000 in
set_option maxRecDepth 100000 in
theorem c_item_x (l : Launch) (hfl : l.stackTraces = false) (D : zG) (sz : Nat) (o kA iA tA tr lA : Nat) (a b : Int32) : vx_Met l yX3_item wsX3_item ({ frames := 6, cells := 1, slots := 6, locals := 100 }) (zPcK D [] ([(o, .inr (3, [.ref kA, .int 0, .int 20, .int 60, .int 2000, .int 0, .ref iA, .int 0, .int 0, .int 0, .ref tA, .ref tr, .ref lA, .int 0]))]) sz (zKX (va_A ([(o, .inr (3, [.ref kA, .int 0, .int 20, .int 60, .int 2000, .int 0, .ref iA, .int 0, .int 0, .int 0, .ref tA, .ref tr, .ref lA, .int 0]))]) sz)) [.ref o, .int a, .int b]) (zQX (va_A ([(o, .inr (3, [.ref kA, .int 0, .int 20, .int 60, .int 2000, .int 0, .ref iA, .int 0, .int 0, .int 0, .ref tA, .ref tr, .ref lA, .int 0]))]) sz)) (zXC "java/lang/IndexOutOfBoundsException" (va_A ([(o, .inr (3, [.ref kA, .int 0, .int 20, .int 60, .int 2000, .int 0, .ref iA, .int 0, .int 0, .int 0, .ref tA, .ref tr, .ref lA, .int 0]))]) sz)) 1 6 (va_A ([(o, .inr (3, [.ref kA, .int 0, .int 20, .int 60, .int 2000, .int 0, .ref iA, .int 0, .int 0, .int 0, .ref tA, .ref tr, .ref lA, .int 0]))]) sz) := by
  refine vx_ofW (cc := cX3_item) (maxL := 4) (ret := (some .int)) (by decide) rfl ?_
  intro p e s m args below meth c s₁ B hml hT hv
  obtain ⟨rfl, ⟨hsz, hP, hK, hD0⟩, hKX⟩ := hv
  have hx := B.exec
  have hb := B.bytes
  have hr := B.returns
  have hts := atoms_spec (ws := wsX3_item) B.pre
  have hown : s.vm.findClass RX3 = some m.cls := findClass_of_methodNamed B.named
  have hlocks := B.notSynchronized
  subst hsz
  have hD := hD0.self (sz := s.heap.size)
  generalize hAe : va_A ([(o, .inr (3, [.ref kA, .int 0, .int 20, .int 60, .int 2000, .int 0, .ref iA, .int 0, .int 0, .int 0, .ref tA, .ref tr, .ref lA, .int 0]))]) s.heap.size = A at hD hKX ⊢
  have hA : ∀ q : Nat, s.heap.size ≤ q → A q := fun q h => by rw [← hAe]; exact Or.inr h
  have hS : va_S A s.heap s.heap [] := va_S.rf
  have hl := lv_entry ([.ref o, .int a, .int b]) (n := 4) (Nat.le_of_ble_eq_true rfl)
  rw [lg_entry_eq]
  generalize (lg_sl ([.ref o, .int a, .int b]) ++ List.replicate (4 - (lg_sl ([.ref o, .int a, .int b])).length) Slot.unset).toArray = ls at hl ⊢
  have hl : lv_has ls 4 [(0, .ref o), (1, .int a), (2, .int b)] := hl
  have hP : va_P D vwCl ([(o, .inr (3, [.ref kA, .int 0, .int 20, .int 60, .int 2000, .int 0, .ref iA, .int 0, .int 0, .int 0, .ref tA, .ref tr, .ref lA, .int 0]))]) s.heap := hP
  generalize hRe : (headSpec _ _).room = R
  have hRf : R.frames = 6 := by rw [← hRe]; rfl
  have hRc : R.cells = 1 := by rw [← hRe]; rfl
  have hRs : R.slots = 6 := by rw [← hRe]; rfl
  have hRl : R.locals = 100 := by rw [← hRe]; rfl
  have hRc := hRc
  clear hRe
  refine lv_aload_n hx hb dX3_item_0 rfl (lv_at hl 0 rfl) ?_
  refine lv_iload_n hx hb dX3_item_1 rfl (lv_at hl 1 rfl) ?_
  refine zrdVq (As := [.int a]) (rest := []) (wc := [(o, .inr (3, [.ref kA, .int 0, .int 20, .int 60, .int 2000, .int 0, .ref iA, .int 0, .int 0, .int 0, .ref tA, .ref tr, .ref lA, .int 0]))]) ⟨hx, hb, hml, hown, hts⟩ (c_itemOf0 l D _ o kA iA tA tr lA _) (cwV 1 hts gX3_item_X3_itemOf rfl rfl rfl (by decide +kernel) ⟨by rw [hRf]; exact Nat.le_of_ble_eq_true rfl, by rw [hRl]; exact Nat.le_of_ble_eq_true rfl⟩) hK hP hD [0] rfl (by decide) [] rfl (ci := 3) (q0 := 0) rfl rfl rfl hl.1 rfl (Nat.le_of_ble_eq_true rfl) dX3_item_2 ⟨by omega, by omega⟩ (fun r_15 hr_15 => ?_)
  refine W.eq (g2 := F0 m 5 ls [.null]) (by rw [hr_15]; rfl) ?_
  refine lv_astore_nN (lv' := [(3, .null), (0, .ref o), (1, .int a), (2, .int b)]) hx hb dX3_item_5 rfl hl (by decide) rfl (fun ls hl => ?_)
  refine lv_aload_nN hx hb dX3_item_6 rfl (lv_at hl 0 rfl) ?_
  refine lv_ifnullN (tgt := 20) hx hb dX3_item_7 (by decide) ?_
  exact zthrow (own := RX3) (ik := 78) (ic := 80) (cls := "java/lang/IndexOutOfBoundsException") hx hb hfl hown (by decide +kernel) (hts (.classLink RX3 78 "java/lang/IndexOutOfBoundsException") (List.mem_of_getElem? (i := 1) (by rfl))) (hts (.initialized "java/lang/IndexOutOfBoundsException") (List.mem_of_getElem? (i := 2) (by rfl))) (zhat 80 "java/lang/IndexOutOfBoundsException" hKX.2.2.2.2.2.2 (fun w9 h9 => hts w9 (List.mem_cons_of_mem _ (List.mem_append_right _ h9))) hKX (by decide +kernel)) (by decide +kernel) hKX hS (hl.1.trans hml.symm) dX3_item_20 dX3_item_23 dX3_item_24 dX3_item_27 hT (by rw [hRf]; decide) (by rw [hRl]; decide) (Nat.le_of_ble_eq_true rfl) (by rw [hRc]; decide) (by rw [hRs]; decide) hlocks (Nat.le_of_ble_eq_true rfl) (Nat.le_of_ble_eq_true rfl)
set_option maxHeartbeats 4000000 in
set_option maxRecDepth 100000 in
theorem c_restsOn_x (l : Launch) (hfl : l.stackTraces = false) (D : zG) (sz : Nat) (o kA iA tA tr lA : Nat) (a b : Int32) : vx_Met l yX3_restsOn wsX3_restsOn ({ frames := 6, cells := 1, slots := 6, locals := 100 }) (zPcK D [] ([(o, .inr (3, [.ref kA, .int 0, .int 20, .int 60, .int 2000, .int 0, .ref iA, .int 0, .int 0, .int 0, .ref tA, .ref tr, .ref lA, .int 0]))]) sz (zKX (va_A ([(o, .inr (3, [.ref kA, .int 0, .int 20, .int 60, .int 2000, .int 0, .ref iA, .int 0, .int 0, .int 0, .ref tA, .ref tr, .ref lA, .int 0]))]) sz)) [.ref o, .int a, .int b]) (zQX (va_A ([(o, .inr (3, [.ref kA, .int 0, .int 20, .int 60, .int 2000, .int 0, .ref iA, .int 0, .int 0, .int 0, .ref tA, .ref tr, .ref lA, .int 0]))]) sz)) (zXC "java/lang/IndexOutOfBoundsException" (va_A ([(o, .inr (3, [.ref kA, .int 0, .int 20, .int 60, .int 2000, .int 0, .ref iA, .int 0, .int 0, .int 0, .ref tA, .ref tr, .ref lA, .int 0]))]) sz)) 1 6 (va_A ([(o, .inr (3, [.ref kA, .int 0, .int 20, .int 60, .int 2000, .int 0, .ref iA, .int 0, .int 0, .int 0, .ref tA, .ref tr, .ref lA, .int 0]))]) sz) := by
  refine vx_ofW (cc := cX3_restsOn) (maxL := 5) (ret := (some .boolean)) (by decide) rfl ?_
  intro p e s m args below meth c s₁ B hml hT hv
  obtain ⟨rfl, ⟨hsz, hP, hK, hD0⟩, hKX⟩ := hv
  have hx := B.exec
  have hb := B.bytes
  have hr := B.returns
  have hts := atoms_spec (ws := wsX3_restsOn) B.pre
  have hown : s.vm.findClass RX3 = some m.cls := findClass_of_methodNamed B.named
  have hlocks := B.notSynchronized
  subst hsz
  have hD := hD0.self (sz := s.heap.size)
  generalize hAe : va_A ([(o, .inr (3, [.ref kA, .int 0, .int 20, .int 60, .int 2000, .int 0, .ref iA, .int 0, .int 0, .int 0, .ref tA, .ref tr, .ref lA, .int 0]))]) s.heap.size = A at hD hKX ⊢
  have hA : ∀ q : Nat, s.heap.size ≤ q → A q := fun q h => by rw [← hAe]; exact Or.inr h
  have hS : va_S A s.heap s.heap [] := va_S.rf
  have hl := lv_entry ([.ref o, .int a, .int b]) (n := 5) (Nat.le_of_ble_eq_true rfl)
  rw [lg_entry_eq]
  generalize (lg_sl ([.ref o, .int a, .int b]) ++ List.replicate (5 - (lg_sl ([.ref o, .int a, .int b])).length) Slot.unset).toArray = ls at hl ⊢
  have hl : lv_has ls 5 [(0, .ref o), (1, .int a), (2, .int b)] := hl
  have hP : va_P D vwCl ([(o, .inr (3, [.ref kA, .int 0, .int 20, .int 60, .int 2000, .int 0, .ref iA, .int 0, .int 0, .int 0, .ref tA, .ref tr, .ref lA, .int 0]))]) s.heap := hP
  generalize hRe : (headSpec _ _).room = R
  have hRf : R.frames = 6 := by rw [← hRe]; rfl
  have hRc : R.cells = 1 := by rw [← hRe]; rfl
  have hRs : R.slots = 6 := by rw [← hRe]; rfl
  have hRl : R.locals = 100 := by rw [← hRe]; rfl
  have hRc := hRc
  clear hRe
  refine lv_aload_n hx hb dX3_restsOn_0 rfl (lv_at hl 0 rfl) ?_
  refine lv_iload_n hx hb dX3_restsOn_1 rfl (lv_at hl 1 rfl) ?_
  refine zrdVq (As := [.int a]) (rest := []) (wc := [(o, .inr (3, [.ref kA, .int 0, .int 20, .int 60, .int 2000, .int 0, .ref iA, .int 0, .int 0, .int 0, .ref tA, .ref tr, .ref lA, .int 0]))]) ⟨hx, hb, hml, hown, hts⟩ (c_itemOf0 l D _ o kA iA tA tr lA _) (cwV 1 hts gX3_restsOn_X3_itemOf rfl rfl rfl (by decide +kernel) ⟨by rw [hRf]; exact Nat.le_of_ble_eq_true rfl, by rw [hRl]; exact Nat.le_of_ble_eq_true rfl⟩) hK hP hD [0] rfl (by decide) [] rfl (ci := 3) (q0 := 0) rfl rfl rfl hl.1 rfl (Nat.le_of_ble_eq_true rfl) dX3_restsOn_2 ⟨by omega, by omega⟩ (fun r_17 hr_17 => ?_)
  refine W.eq (g2 := F0 m 5 ls [.null]) (by rw [hr_17]; rfl) ?_
  refine lv_astore_nN (lv' := [(3, .null), (0, .ref o), (1, .int a), (2, .int b)]) hx hb dX3_restsOn_5 rfl hl (by decide) rfl (fun ls hl => ?_)
  refine lv_aload_n hx hb dX3_restsOn_6 rfl (lv_at hl 1 rfl) ?_
  refine lv_iload_n hx hb dX3_restsOn_7 rfl (lv_at hl 3 rfl) ?_
  refine zrdVq (As := [.int b]) (rest := []) (wc := [(o, .inr (3, [.ref kA, .int 0, .int 20, .int 60, .int 2000, .int 0, .ref iA, .int 0, .int 0, .int 0, .ref tA, .ref tr, .ref lA, .int 0]))]) ⟨hx, hb, hml, hown, hts⟩ (c_itemOf0 l D _ o kA iA tA tr lA _) (cwV 1 hts gX3_restsOn_X3_itemOf rfl rfl rfl (by decide +kernel) ⟨by rw [hRf]; exact Nat.le_of_ble_eq_true rfl, by rw [hRl]; exact Nat.le_of_ble_eq_true rfl⟩) hK hP hD [0] rfl (by decide) [] rfl (ci := 3) (q0 := 0) rfl rfl rfl hl.1 rfl (Nat.le_of_ble_eq_true rfl) dX3_restsOn_8 ⟨by omega, by omega⟩ (fun r_18 hr_18 => ?_)
  refine W.eq (g2 := F0 m 11 ls [.null]) (by rw [hr_18]; rfl) ?_
  refine lv_astoreN (lv' := [(4, .null), (3, .null), (0, .ref o), (1, .int a), (2, .int b)]) hx hb dX3_restsOn_11 hl (by decide) rfl (fun ls hl => ?_)
  refine lv_aload_nN hx hb dX3_restsOn_13 rfl (lv_at hl 1 rfl) ?_
  refine lv_ifnullN (tgt := 22) hx hb dX3_restsOn_14 (by decide) ?_
  exact zthrow (own := RX3) (ik := 78) (ic := 80) (cls := "java/lang/IndexOutOfBoundsException") hx hb hfl hown (by decide +kernel) (hts (.classLink RX3 78 "java/lang/IndexOutOfBoundsException") (List.mem_of_getElem? (i := 1) (by rfl))) (hts (.initialized "java/lang/IndexOutOfBoundsException") (List.mem_of_getElem? (i := 2) (by rfl))) (zhat 80 "java/lang/IndexOutOfBoundsException" hKX.2.2.2.2.2.2 (fun w9 h9 => hts w9 (List.mem_cons_of_mem _ (List.mem_append_right _ h9))) hKX (by decide +kernel)) (by decide +kernel) hKX hS (hl.1.trans hml.symm) dX3_restsOn_22 dX3_restsOn_25 dX3_restsOn_26 dX3_restsOn_29 hT (by rw [hRf]; decide) (by rw [hRl]; decide) (Nat.le_of_ble_eq_true rfl) (by rw [hRc]; decide) (by rw [hRs]; decide) hlocks (Nat.le_of_ble_eq_true rfl) (Nat.le_of_ble_eq_true rfl)
set_option maxHeartbeats 4000000 in
set_option maxRecDepth 100000 in
theorem c_count_x (l : Launch) (hfl : l.stackTraces = false) (D : zG) (sz : Nat) (o kA iA tA tr lA : Nat) (a : Int32) (ha : ¬ (0 ≤ a ∧ a ≤ 3)) : vx_Met l yX3_count wsX3_count ({ frames := 6, cells := 1, slots := 6, locals := 100 }) (zPcK D [] ([(o, .inr (3, [.ref kA, .int 0, .int 20, .int 60, .int 2000, .int 0, .ref iA, .int 0, .int 0, .int 0, .ref tA, .ref tr, .ref lA, .int 0]))]) sz (zKX (va_A ([(o, .inr (3, [.ref kA, .int 0, .int 20, .int 60, .int 2000, .int 0, .ref iA, .int 0, .int 0, .int 0, .ref tA, .ref tr, .ref lA, .int 0]))]) sz)) [.ref o, .int a]) (zQX (va_A ([(o, .inr (3, [.ref kA, .int 0, .int 20, .int 60, .int 2000, .int 0, .ref iA, .int 0, .int 0, .int 0, .ref tA, .ref tr, .ref lA, .int 0]))]) sz)) (zXC "java/lang/IndexOutOfBoundsException" (va_A ([(o, .inr (3, [.ref kA, .int 0, .int 20, .int 60, .int 2000, .int 0, .ref iA, .int 0, .int 0, .int 0, .ref tA, .ref tr, .ref lA, .int 0]))]) sz)) 1 6 (va_A ([(o, .inr (3, [.ref kA, .int 0, .int 20, .int 60, .int 2000, .int 0, .ref iA, .int 0, .int 0, .int 0, .ref tA, .ref tr, .ref lA, .int 0]))]) sz) := by
  refine vx_ofW (cc := cX3_count) (maxL := 2) (ret := (some .int)) (by decide) rfl ?_
  intro p e s m args below meth c s₁ B hml hT hv
  obtain ⟨rfl, ⟨hsz, hP, hK, hD0⟩, hKX⟩ := hv
  have hx := B.exec
  have hb := B.bytes
  have hr := B.returns
  have hts := atoms_spec (ws := wsX3_count) B.pre
  have hown : s.vm.findClass RX3 = some m.cls := findClass_of_methodNamed B.named
  have hlocks := B.notSynchronized
  subst hsz
  have hD := hD0.self (sz := s.heap.size)
  generalize hAe : va_A ([(o, .inr (3, [.ref kA, .int 0, .int 20, .int 60, .int 2000, .int 0, .ref iA, .int 0, .int 0, .int 0, .ref tA, .ref tr, .ref lA, .int 0]))]) s.heap.size = A at hD hKX ⊢
  have hA : ∀ q : Nat, s.heap.size ≤ q → A q := fun q h => by rw [← hAe]; exact Or.inr h
  have hS : va_S A s.heap s.heap [] := va_S.rf
  have hl := lv_entry ([.ref o, .int a]) (n := 2) (Nat.le_of_ble_eq_true rfl)
  rw [lg_entry_eq]
  generalize (lg_sl ([.ref o, .int a]) ++ List.replicate (2 - (lg_sl ([.ref o, .int a])).length) Slot.unset).toArray = ls at hl ⊢
  have hl : lv_has ls 2 [(0, .ref o), (1, .int a)] := hl
  have hP : va_P D vwCl ([(o, .inr (3, [.ref kA, .int 0, .int 20, .int 60, .int 2000, .int 0, .ref iA, .int 0, .int 0, .int 0, .ref tA, .ref tr, .ref lA, .int 0]))]) s.heap := hP
  generalize hRe : (headSpec _ _).room = R
  have hRf : R.frames = 6 := by rw [← hRe]; rfl
  have hRc : R.cells = 1 := by rw [← hRe]; rfl
  have hRs : R.slots = 6 := by rw [← hRe]; rfl
  have hRl : R.locals = 100 := by rw [← hRe]; rfl
  have hRc := hRc
  clear hRe
  refine lv_iload_n hx hb dX3_count_0 rfl (lv_at hl 1 rfl) ?_
  refine lv_iconst (v := 0) hx hb dX3_count_1 (by decide) ?_
  refine lv_iconst (v := 3) hx hb dX3_count_2 (by decide) ?_
  refine zrdS (As := [.int a, .int 0, .int 3]) (rest := []) (wc := []) ⟨hx, hb, hml, hown, hts⟩ (c_isWithin l D _ a 0 3) (va_cwS 3 hts gX3_count_X3_isWithin rfl rfl rfl (by decide +kernel) ⟨by rw [hRf]; exact Nat.le_of_ble_eq_true rfl, by rw [hRl]; exact Nat.le_of_ble_eq_true rfl⟩) hK hP hD [] rfl (by decide) [] rfl rfl hl.1 rfl (Nat.le_of_ble_eq_true rfl) dX3_count_3 ⟨by omega, by omega⟩ (fun r_20 hr_20 => ?_)
  refine lv_topi (fun v_21 ev_21 => ?_)
  obtain rfl : v_21 = 0 := ev_21.trans (hr_20.trans (if_neg ha))
  refine lv_if_ne (tgt := 17) hx hb dX3_count_6 (by decide) (fun c_22 => absurd (rfl) c_22) (fun c_22 => ?_)
  exact zthrow (own := RX3) (ik := 78) (ic := 80) (cls := "java/lang/IndexOutOfBoundsException") hx hb hfl hown (by decide +kernel) (hts (.classLink RX3 78 "java/lang/IndexOutOfBoundsException") (List.mem_of_getElem? (i := 1) (by rfl))) (hts (.initialized "java/lang/IndexOutOfBoundsException") (List.mem_of_getElem? (i := 2) (by rfl))) (zhat 80 "java/lang/IndexOutOfBoundsException" hKX.2.2.2.2.2.2 (fun w9 h9 => hts w9 (List.mem_cons_of_mem _ (List.mem_append_right _ h9))) hKX (by decide +kernel)) (by decide +kernel) hKX hS (hl.1.trans hml.symm) dX3_count_9 dX3_count_12 dX3_count_13 dX3_count_16 hT (by rw [hRf]; decide) (by rw [hRl]; decide) (Nat.le_of_ble_eq_true rfl) (by rw [hRc]; decide) (by rw [hRs]; decide) hlocks (Nat.le_of_ble_eq_true rfl) (Nat.le_of_ble_eq_true rfl)
set_option maxHeartbeats 4000000 in
set_option maxRecDepth 100000 in
theorem c_sum_x (l : Launch) (hfl : l.stackTraces = false) (D : zG) (sz : Nat) (o kA iA tA tr lA : Nat) (a : Int32) (ha : ¬ (0 ≤ a ∧ a ≤ 3)) : vx_Met l yX3_sum wsX3_sum ({ frames := 6, cells := 1, slots := 6, locals := 100 }) (zPcK D [] ([(o, .inr (3, [.ref kA, .int 0, .int 20, .int 60, .int 2000, .int 0, .ref iA, .int 0, .int 0, .int 0, .ref tA, .ref tr, .ref lA, .int 0]))]) sz (zKX (va_A ([(o, .inr (3, [.ref kA, .int 0, .int 20, .int 60, .int 2000, .int 0, .ref iA, .int 0, .int 0, .int 0, .ref tA, .ref tr, .ref lA, .int 0]))]) sz)) [.ref o, .int a]) (zQX (va_A ([(o, .inr (3, [.ref kA, .int 0, .int 20, .int 60, .int 2000, .int 0, .ref iA, .int 0, .int 0, .int 0, .ref tA, .ref tr, .ref lA, .int 0]))]) sz)) (zXC "java/lang/IndexOutOfBoundsException" (va_A ([(o, .inr (3, [.ref kA, .int 0, .int 20, .int 60, .int 2000, .int 0, .ref iA, .int 0, .int 0, .int 0, .ref tA, .ref tr, .ref lA, .int 0]))]) sz)) 1 6 (va_A ([(o, .inr (3, [.ref kA, .int 0, .int 20, .int 60, .int 2000, .int 0, .ref iA, .int 0, .int 0, .int 0, .ref tA, .ref tr, .ref lA, .int 0]))]) sz) := by
  refine vx_ofW (cc := cX3_sum) (maxL := 2) (ret := (some .int)) (by decide) rfl ?_
  intro p e s m args below meth c s₁ B hml hT hv
  obtain ⟨rfl, ⟨hsz, hP, hK, hD0⟩, hKX⟩ := hv
  have hx := B.exec
  have hb := B.bytes
  have hr := B.returns
  have hts := atoms_spec (ws := wsX3_sum) B.pre
  have hown : s.vm.findClass RX3 = some m.cls := findClass_of_methodNamed B.named
  have hlocks := B.notSynchronized
  subst hsz
  have hD := hD0.self (sz := s.heap.size)
  generalize hAe : va_A ([(o, .inr (3, [.ref kA, .int 0, .int 20, .int 60, .int 2000, .int 0, .ref iA, .int 0, .int 0, .int 0, .ref tA, .ref tr, .ref lA, .int 0]))]) s.heap.size = A at hD hKX ⊢
  have hA : ∀ q : Nat, s.heap.size ≤ q → A q := fun q h => by rw [← hAe]; exact Or.inr h
  have hS : va_S A s.heap s.heap [] := va_S.rf
  have hl := lv_entry ([.ref o, .int a]) (n := 2) (Nat.le_of_ble_eq_true rfl)
  rw [lg_entry_eq]
  generalize (lg_sl ([.ref o, .int a]) ++ List.replicate (2 - (lg_sl ([.ref o, .int a])).length) Slot.unset).toArray = ls at hl ⊢
  have hl : lv_has ls 2 [(0, .ref o), (1, .int a)] := hl
  have hP : va_P D vwCl ([(o, .inr (3, [.ref kA, .int 0, .int 20, .int 60, .int 2000, .int 0, .ref iA, .int 0, .int 0, .int 0, .ref tA, .ref tr, .ref lA, .int 0]))]) s.heap := hP
  generalize hRe : (headSpec _ _).room = R
  have hRf : R.frames = 6 := by rw [← hRe]; rfl
  have hRc : R.cells = 1 := by rw [← hRe]; rfl
  have hRs : R.slots = 6 := by rw [← hRe]; rfl
  have hRl : R.locals = 100 := by rw [← hRe]; rfl
  have hRc := hRc
  clear hRe
  refine lv_iload_n hx hb dX3_sum_0 rfl (lv_at hl 1 rfl) ?_
  refine lv_iconst (v := 0) hx hb dX3_sum_1 (by decide) ?_
  refine lv_iconst (v := 3) hx hb dX3_sum_2 (by decide) ?_
  refine zrdS (As := [.int a, .int 0, .int 3]) (rest := []) (wc := []) ⟨hx, hb, hml, hown, hts⟩ (c_isWithin l D _ a 0 3) (va_cwS 3 hts gX3_sum_X3_isWithin rfl rfl rfl (by decide +kernel) ⟨by rw [hRf]; exact Nat.le_of_ble_eq_true rfl, by rw [hRl]; exact Nat.le_of_ble_eq_true rfl⟩) hK hP hD [] rfl (by decide) [] rfl rfl hl.1 rfl (Nat.le_of_ble_eq_true rfl) dX3_sum_3 ⟨by omega, by omega⟩ (fun r_23 hr_23 => ?_)
  refine lv_topi (fun v_24 ev_24 => ?_)
  obtain rfl : v_24 = 0 := ev_24.trans (hr_23.trans (if_neg ha))
  refine lv_if_ne (tgt := 17) hx hb dX3_sum_6 (by decide) (fun c_25 => absurd (rfl) c_25) (fun c_25 => ?_)
  exact zthrow (own := RX3) (ik := 78) (ic := 80) (cls := "java/lang/IndexOutOfBoundsException") hx hb hfl hown (by decide +kernel) (hts (.classLink RX3 78 "java/lang/IndexOutOfBoundsException") (List.mem_of_getElem? (i := 1) (by rfl))) (hts (.initialized "java/lang/IndexOutOfBoundsException") (List.mem_of_getElem? (i := 2) (by rfl))) (zhat 80 "java/lang/IndexOutOfBoundsException" hKX.2.2.2.2.2.2 (fun w9 h9 => hts w9 (List.mem_cons_of_mem _ (List.mem_append_right _ h9))) hKX (by decide +kernel)) (by decide +kernel) hKX hS (hl.1.trans hml.symm) dX3_sum_9 dX3_sum_12 dX3_sum_13 dX3_sum_16 hT (by rw [hRf]; decide) (by rw [hRl]; decide) (Nat.le_of_ble_eq_true rfl) (by rw [hRc]; decide) (by rw [hRs]; decide) hlocks (Nat.le_of_ble_eq_true rfl) (Nat.le_of_ble_eq_true rfl)
set_option maxHeartbeats 4000000 in
set_option maxRecDepth 100000 in
theorem c_top_x (l : Launch) (hfl : l.stackTraces = false) (D : zG) (sz : Nat) (o kA iA tA tr lA : Nat) (a b : Int32) (h : ¬ ((0 ≤ a ∧ a ≤ 11) ∧ (0 ≤ b ∧ b ≤ 9))) : vx_Met l yX3_top wsX3_top ({ frames := 6, cells := 1, slots := 6, locals := 100 }) (zPcK D [] ([(o, .inr (3, [.ref kA, .int 0, .int 20, .int 60, .int 2000, .int 0, .ref iA, .int 0, .int 0, .int 0, .ref tA, .ref tr, .ref lA, .int 0]))]) sz (zKX (va_A ([(o, .inr (3, [.ref kA, .int 0, .int 20, .int 60, .int 2000, .int 0, .ref iA, .int 0, .int 0, .int 0, .ref tA, .ref tr, .ref lA, .int 0]))]) sz)) [.ref o, .int a, .int b]) (zQX (va_A ([(o, .inr (3, [.ref kA, .int 0, .int 20, .int 60, .int 2000, .int 0, .ref iA, .int 0, .int 0, .int 0, .ref tA, .ref tr, .ref lA, .int 0]))]) sz)) (zXC "java/lang/IndexOutOfBoundsException" (va_A ([(o, .inr (3, [.ref kA, .int 0, .int 20, .int 60, .int 2000, .int 0, .ref iA, .int 0, .int 0, .int 0, .ref tA, .ref tr, .ref lA, .int 0]))]) sz)) 1 6 (va_A ([(o, .inr (3, [.ref kA, .int 0, .int 20, .int 60, .int 2000, .int 0, .ref iA, .int 0, .int 0, .int 0, .ref tA, .ref tr, .ref lA, .int 0]))]) sz) := by
  refine vx_ofW (cc := cX3_top) (maxL := 3) (ret := (some .int)) (by decide) rfl ?_
  intro p e s m args below meth c s₁ B hml hT hv
  obtain ⟨rfl, ⟨hsz, hP, hK, hD0⟩, hKX⟩ := hv
  have hx := B.exec
  have hb := B.bytes
  have hr := B.returns
  have hts := atoms_spec (ws := wsX3_top) B.pre
  have hown : s.vm.findClass RX3 = some m.cls := findClass_of_methodNamed B.named
  have hlocks := B.notSynchronized
  subst hsz
  have hD := hD0.self (sz := s.heap.size)
  generalize hAe : va_A ([(o, .inr (3, [.ref kA, .int 0, .int 20, .int 60, .int 2000, .int 0, .ref iA, .int 0, .int 0, .int 0, .ref tA, .ref tr, .ref lA, .int 0]))]) s.heap.size = A at hD hKX ⊢
  have hA : ∀ q : Nat, s.heap.size ≤ q → A q := fun q h => by rw [← hAe]; exact Or.inr h
  have hS : va_S A s.heap s.heap [] := va_S.rf
  have hl := lv_entry ([.ref o, .int a, .int b]) (n := 3) (Nat.le_of_ble_eq_true rfl)
  rw [lg_entry_eq]
  generalize (lg_sl ([.ref o, .int a, .int b]) ++ List.replicate (3 - (lg_sl ([.ref o, .int a, .int b])).length) Slot.unset).toArray = ls at hl ⊢
  have hl : lv_has ls 3 [(0, .ref o), (1, .int a), (2, .int b)] := hl
  have hP : va_P D vwCl ([(o, .inr (3, [.ref kA, .int 0, .int 20, .int 60, .int 2000, .int 0, .ref iA, .int 0, .int 0, .int 0, .ref tA, .ref tr, .ref lA, .int 0]))]) s.heap := hP
  generalize hRe : (headSpec _ _).room = R
  have hRf : R.frames = 6 := by rw [← hRe]; rfl
  have hRc : R.cells = 1 := by rw [← hRe]; rfl
  have hRs : R.slots = 6 := by rw [← hRe]; rfl
  have hRl : R.locals = 100 := by rw [← hRe]; rfl
  have hRc := hRc
  clear hRe
  refine lv_iload_n hx hb dX3_top_0 rfl (lv_at hl 1 rfl) ?_
  refine lv_iload_n hx hb dX3_top_1 rfl (lv_at hl 2 rfl) ?_
  refine zrdS (As := [.int a, .int b]) (rest := []) (wc := []) ⟨hx, hb, hml, hown, hts⟩ (c_isCell l D _ a b) (va_cwS 2 hts gX3_top_X3_isCell rfl rfl rfl (by decide +kernel) ⟨by rw [hRf]; exact Nat.le_of_ble_eq_true rfl, by rw [hRl]; exact Nat.le_of_ble_eq_true rfl⟩) hK hP hD [] rfl (by decide) [] rfl rfl hl.1 rfl (Nat.le_of_ble_eq_true rfl) dX3_top_2 ⟨by omega, by omega⟩ (fun r_26 hr_26 => ?_)
  refine lv_topi (fun v_27 ev_27 => ?_)
  obtain rfl : v_27 = 0 := ev_27.trans (hr_26.trans (if_neg h))
  refine lv_if_ne (tgt := 16) hx hb dX3_top_5 (by decide) (fun c_28 => absurd (rfl) c_28) (fun c_28 => ?_)
  exact zthrow (own := RX3) (ik := 78) (ic := 80) (cls := "java/lang/IndexOutOfBoundsException") hx hb hfl hown (by decide +kernel) (hts (.classLink RX3 78 "java/lang/IndexOutOfBoundsException") (List.mem_of_getElem? (i := 1) (by rfl))) (hts (.initialized "java/lang/IndexOutOfBoundsException") (List.mem_of_getElem? (i := 2) (by rfl))) (zhat 80 "java/lang/IndexOutOfBoundsException" hKX.2.2.2.2.2.2 (fun w9 h9 => hts w9 (List.mem_cons_of_mem _ (List.mem_append_right _ h9))) hKX (by decide +kernel)) (by decide +kernel) hKX hS (hl.1.trans hml.symm) dX3_top_8 dX3_top_11 dX3_top_12 dX3_top_15 hT (by rw [hRf]; decide) (by rw [hRl]; decide) (Nat.le_of_ble_eq_true rfl) (by rw [hRc]; decide) (by rw [hRs]; decide) hlocks (Nat.le_of_ble_eq_true rfl) (Nat.le_of_ble_eq_true rfl)
set_option maxHeartbeats 4000000 in
set_option maxRecDepth 100000 in
theorem c_at_x (l : Launch) (hfl : l.stackTraces = false) (D : zG) (sz : Nat) (o kA iA tA tr lA : Nat) (a b c1 : Int32) (h : ¬ (((0 ≤ a ∧ a ≤ 11) ∧ (0 ≤ b ∧ b ≤ 9)) ∧ (0 ≤ c1 ∧ c1 ≤ 39))) : vx_Met l yX3_at wsX3_at ({ frames := 6, cells := 1, slots := 6, locals := 100 }) (zPcK D [] ([(o, .inr (3, [.ref kA, .int 0, .int 20, .int 60, .int 2000, .int 0, .ref iA, .int 0, .int 0, .int 0, .ref tA, .ref tr, .ref lA, .int 0]))]) sz (zKX (va_A ([(o, .inr (3, [.ref kA, .int 0, .int 20, .int 60, .int 2000, .int 0, .ref iA, .int 0, .int 0, .int 0, .ref tA, .ref tr, .ref lA, .int 0]))]) sz)) [.ref o, .int a, .int b, .int c1]) (zQX (va_A ([(o, .inr (3, [.ref kA, .int 0, .int 20, .int 60, .int 2000, .int 0, .ref iA, .int 0, .int 0, .int 0, .ref tA, .ref tr, .ref lA, .int 0]))]) sz)) (zXC "java/lang/IndexOutOfBoundsException" (va_A ([(o, .inr (3, [.ref kA, .int 0, .int 20, .int 60, .int 2000, .int 0, .ref iA, .int 0, .int 0, .int 0, .ref tA, .ref tr, .ref lA, .int 0]))]) sz)) 1 6 (va_A ([(o, .inr (3, [.ref kA, .int 0, .int 20, .int 60, .int 2000, .int 0, .ref iA, .int 0, .int 0, .int 0, .ref tA, .ref tr, .ref lA, .int 0]))]) sz) := by
  refine vx_ofW (cc := cX3_at) (maxL := 6) (ret := (some .int)) (by decide) rfl ?_
  intro p e s m args below meth c s₁ B hml hT hv
  obtain ⟨rfl, ⟨hsz, hP, hK, hD0⟩, hKX⟩ := hv
  have hx := B.exec
  have hb := B.bytes
  have hr := B.returns
  have hts := atoms_spec (ws := wsX3_at) B.pre
  have hown : s.vm.findClass RX3 = some m.cls := findClass_of_methodNamed B.named
  have hlocks := B.notSynchronized
  subst hsz
  have hD := hD0.self (sz := s.heap.size)
  generalize hAe : va_A ([(o, .inr (3, [.ref kA, .int 0, .int 20, .int 60, .int 2000, .int 0, .ref iA, .int 0, .int 0, .int 0, .ref tA, .ref tr, .ref lA, .int 0]))]) s.heap.size = A at hD hKX ⊢
  have hA : ∀ q : Nat, s.heap.size ≤ q → A q := fun q h => by rw [← hAe]; exact Or.inr h
  have hS : va_S A s.heap s.heap [] := va_S.rf
  have hl := lv_entry ([.ref o, .int a, .int b, .int c1]) (n := 6) (Nat.le_of_ble_eq_true rfl)
  rw [lg_entry_eq]
  generalize (lg_sl ([.ref o, .int a, .int b, .int c1]) ++ List.replicate (6 - (lg_sl ([.ref o, .int a, .int b, .int c1])).length) Slot.unset).toArray = ls at hl ⊢
  have hl : lv_has ls 6 [(0, .ref o), (1, .int a), (2, .int b), (3, .int c1)] := hl
  have hP : va_P D vwCl ([(o, .inr (3, [.ref kA, .int 0, .int 20, .int 60, .int 2000, .int 0, .ref iA, .int 0, .int 0, .int 0, .ref tA, .ref tr, .ref lA, .int 0]))]) s.heap := hP
  generalize hRe : (headSpec _ _).room = R
  have hRf : R.frames = 6 := by rw [← hRe]; rfl
  have hRc : R.cells = 1 := by rw [← hRe]; rfl
  have hRs : R.slots = 6 := by rw [← hRe]; rfl
  have hRl : R.locals = 100 := by rw [← hRe]; rfl
  have hRc := hRc
  clear hRe
  refine lv_iload_n hx hb dX3_at_0 rfl (lv_at hl 1 rfl) ?_
  refine lv_iload_n hx hb dX3_at_1 rfl (lv_at hl 2 rfl) ?_
  refine zrdS (As := [.int a, .int b]) (rest := []) (wc := []) ⟨hx, hb, hml, hown, hts⟩ (c_isCell l D _ a b) (va_cwS 2 hts gX3_at_X3_isCell rfl rfl rfl (by decide +kernel) ⟨by rw [hRf]; exact Nat.le_of_ble_eq_true rfl, by rw [hRl]; exact Nat.le_of_ble_eq_true rfl⟩) hK hP hD [] rfl (by decide) [] rfl rfl hl.1 rfl (Nat.le_of_ble_eq_true rfl) dX3_at_2 ⟨by omega, by omega⟩ (fun r_29 hr_29 => ?_)
  refine lv_if_eq (tgt := 18) hx hb dX3_at_5 (by decide) (fun c_30 => ?_) (fun c_30 => ?_)
  · have h_b := True.intro
    have k_31 : ¬ ((0 ≤ a ∧ a ≤ 11) ∧ (0 ≤ b ∧ b ≤ 9)) := fun h9 => absurd ((hr_29.trans (if_pos h9)).symm.trans c_30) (by decide)
    exact zthrow (own := RX3) (ik := 78) (ic := 80) (cls := "java/lang/IndexOutOfBoundsException") hx hb hfl hown (by decide +kernel) (hts (.classLink RX3 78 "java/lang/IndexOutOfBoundsException") (List.mem_of_getElem? (i := 1) (by rfl))) (hts (.initialized "java/lang/IndexOutOfBoundsException") (List.mem_of_getElem? (i := 2) (by rfl))) (zhat 80 "java/lang/IndexOutOfBoundsException" hKX.2.2.2.2.2.2 (fun w9 h9 => hts w9 (List.mem_cons_of_mem _ (List.mem_append_right _ h9))) hKX (by decide +kernel)) (by decide +kernel) hKX hS (hl.1.trans hml.symm) dX3_at_18 dX3_at_21 dX3_at_22 dX3_at_25 hT (by rw [hRf]; decide) (by rw [hRl]; decide) (Nat.le_of_ble_eq_true rfl) (by rw [hRc]; decide) (by rw [hRs]; decide) hlocks (Nat.le_of_ble_eq_true rfl) (Nat.le_of_ble_eq_true rfl)
  · have h_b := True.intro
    have k_32 : (0 ≤ a ∧ a ≤ 11) ∧ (0 ≤ b ∧ b ≤ 9) := Decidable.byContradiction fun h9 => absurd (hr_29.trans (if_neg h9)) c_30
    refine lv_iload_n hx hb dX3_at_8 rfl (lv_at hl 3 rfl) ?_
    refine lv_iconst (v := 0) hx hb dX3_at_9 (by decide) ?_
    refine lv_bipush (v := 39) hx hb dX3_at_10 (by decide) ?_
    refine zrdS (As := [.int c1, .int 0, .int 39]) (rest := []) (wc := []) ⟨hx, hb, hml, hown, hts⟩ (c_isWithin l D _ c1 0 39) (va_cwS 3 hts gX3_at_X3_isWithin rfl rfl rfl (by decide +kernel) ⟨by rw [hRf]; exact Nat.le_of_ble_eq_true rfl, by rw [hRl]; exact Nat.le_of_ble_eq_true rfl⟩) hK hP hD [] rfl (by decide) [] rfl rfl hl.1 rfl (Nat.le_of_ble_eq_true rfl) dX3_at_12 ⟨by omega, by omega⟩ (fun r_33 hr_33 => ?_)
    refine lv_topi (fun v_34 ev_34 => ?_)
    obtain rfl : v_34 = 0 := ev_34.trans (hr_33.trans (if_neg (fun h9 => h ⟨k_32, h9⟩)))
    refine lv_if_ne (tgt := 26) hx hb dX3_at_15 (by decide) (fun c_35 => absurd (rfl) c_35) (fun c_35 => ?_)
    exact zthrow (own := RX3) (ik := 78) (ic := 80) (cls := "java/lang/IndexOutOfBoundsException") hx hb hfl hown (by decide +kernel) (hts (.classLink RX3 78 "java/lang/IndexOutOfBoundsException") (List.mem_of_getElem? (i := 1) (by rfl))) (hts (.initialized "java/lang/IndexOutOfBoundsException") (List.mem_of_getElem? (i := 2) (by rfl))) (zhat 80 "java/lang/IndexOutOfBoundsException" hKX.2.2.2.2.2.2 (fun w9 h9 => hts w9 (List.mem_cons_of_mem _ (List.mem_append_right _ h9))) hKX (by decide +kernel)) (by decide +kernel) hKX hS (hl.1.trans hml.symm) dX3_at_18 dX3_at_21 dX3_at_22 dX3_at_25 hT (by rw [hRf]; decide) (by rw [hRl]; decide) (Nat.le_of_ble_eq_true rfl) (by rw [hRc]; decide) (by rw [hRs]; decide) hlocks (Nat.le_of_ble_eq_true rfl) (Nat.le_of_ble_eq_true rfl)
set_option maxHeartbeats 4000000 in
set_option maxRecDepth 100000 in
theorem c_setRules_x (l : Launch) (hfl : l.stackTraces = false) (D : zG) (sz : Nat) (o kA iA tA tr lA : Nat) (a b c1 t : Int32) (h : ¬ ((1 ≤ a ∧ a ≤ 40) ∧ (0 ≤ b ∧ b ≤ 100) ∧ (1 ≤ c1 ∧ c1 ≤ 20000))) : vx_Met l yX3_setRules wsX3_setRules ({ frames := 6, cells := 1, slots := 6, locals := 100 }) (zPcK D [] ([(o, .inr (3, [.ref kA, .int 0, .int 20, .int 60, .int 2000, .int 0, .ref iA, .int 0, .int 0, .int 0, .ref tA, .ref tr, .ref lA, .int 0]))]) sz (zKX (va_A ([(o, .inr (3, [.ref kA, .int 0, .int 20, .int 60, .int 2000, .int 0, .ref iA, .int 0, .int 0, .int 0, .ref tA, .ref tr, .ref lA, .int 0]))]) sz)) [.ref o, .int a, .int b, .int c1, .int t]) (zQX (va_A ([(o, .inr (3, [.ref kA, .int 0, .int 20, .int 60, .int 2000, .int 0, .ref iA, .int 0, .int 0, .int 0, .ref tA, .ref tr, .ref lA, .int 0]))]) sz)) (zXC "java/lang/IllegalArgumentException" (va_A ([(o, .inr (3, [.ref kA, .int 0, .int 20, .int 60, .int 2000, .int 0, .ref iA, .int 0, .int 0, .int 0, .ref tA, .ref tr, .ref lA, .int 0]))]) sz)) 1 6 (va_A ([(o, .inr (3, [.ref kA, .int 0, .int 20, .int 60, .int 2000, .int 0, .ref iA, .int 0, .int 0, .int 0, .ref tA, .ref tr, .ref lA, .int 0]))]) sz) := by
  refine vx_ofW (cc := cX3_setRules) (maxL := 6) (ret := (some .int)) (by decide) rfl ?_
  intro p e s m args below meth c s₁ B hml hT hv
  obtain ⟨rfl, ⟨hsz, hP, hK, hD0⟩, hKX⟩ := hv
  have hx := B.exec
  have hb := B.bytes
  have hr := B.returns
  have hts := atoms_spec (ws := wsX3_setRules) B.pre
  have hown : s.vm.findClass RX3 = some m.cls := findClass_of_methodNamed B.named
  have hlocks := B.notSynchronized
  subst hsz
  have hD := hD0.self (sz := s.heap.size)
  generalize hAe : va_A ([(o, .inr (3, [.ref kA, .int 0, .int 20, .int 60, .int 2000, .int 0, .ref iA, .int 0, .int 0, .int 0, .ref tA, .ref tr, .ref lA, .int 0]))]) s.heap.size = A at hD hKX ⊢
  have hA : ∀ q : Nat, s.heap.size ≤ q → A q := fun q h => by rw [← hAe]; exact Or.inr h
  have hS : va_S A s.heap s.heap [] := va_S.rf
  have hl := lv_entry ([.ref o, .int a, .int b, .int c1, .int t]) (n := 6) (Nat.le_of_ble_eq_true rfl)
  rw [lg_entry_eq]
  generalize (lg_sl ([.ref o, .int a, .int b, .int c1, .int t]) ++ List.replicate (6 - (lg_sl ([.ref o, .int a, .int b, .int c1, .int t])).length) Slot.unset).toArray = ls at hl ⊢
  have hl : lv_has ls 6 [(0, .ref o), (1, .int a), (2, .int b), (3, .int c1), (4, .int t)] := hl
  have hP : va_P D vwCl ([(o, .inr (3, [.ref kA, .int 0, .int 20, .int 60, .int 2000, .int 0, .ref iA, .int 0, .int 0, .int 0, .ref tA, .ref tr, .ref lA, .int 0]))]) s.heap := hP
  generalize hRe : (headSpec _ _).room = R
  have hRf : R.frames = 6 := by rw [← hRe]; rfl
  have hRc : R.cells = 1 := by rw [← hRe]; rfl
  have hRs : R.slots = 6 := by rw [← hRe]; rfl
  have hRl : R.locals = 100 := by rw [← hRe]; rfl
  have hRc := hRc
  clear hRe
  refine lv_iload_n hx hb dX3_setRules_0 rfl (lv_at hl 1 rfl) ?_
  refine lv_iconst (v := 1) hx hb dX3_setRules_1 (by decide) ?_
  refine lv_bipush (v := 40) hx hb dX3_setRules_2 (by decide) ?_
  refine zrdS (As := [.int a, .int 1, .int 40]) (rest := []) (wc := []) ⟨hx, hb, hml, hown, hts⟩ (c_isWithin l D _ a 1 40) (va_cwS 3 hts gX3_setRules_X3_isWithin rfl rfl rfl (by decide +kernel) ⟨by rw [hRf]; exact Nat.le_of_ble_eq_true rfl, by rw [hRl]; exact Nat.le_of_ble_eq_true rfl⟩) hK hP hD [] rfl (by decide) [] rfl rfl hl.1 rfl (Nat.le_of_ble_eq_true rfl) dX3_setRules_4 ⟨by omega, by omega⟩ (fun r_36 hr_36 => ?_)
  refine lv_if_eq (tgt := 31) hx hb dX3_setRules_7 (by decide) (fun c_37 => ?_) (fun c_37 => ?_)
  · have h_b := True.intro
    have k_38 : ¬ (1 ≤ a ∧ a ≤ 40) := fun h9 => absurd ((hr_36.trans (if_pos h9)).symm.trans c_37) (by decide)
    exact zthrow (own := RX3) (ik := 69) (ic := 71) (cls := "java/lang/IllegalArgumentException") hx hb hfl hown (by decide +kernel) (hts (.classLink RX3 69 "java/lang/IllegalArgumentException") (List.mem_of_getElem? (i := 1) (by rfl))) (hts (.initialized "java/lang/IllegalArgumentException") (List.mem_of_getElem? (i := 2) (by rfl))) (zhat 71 "java/lang/IllegalArgumentException" hKX.2.2.2.2.2.1 (fun w9 h9 => hts w9 (List.mem_cons_of_mem _ (List.mem_append_right _ h9))) hKX (by decide +kernel)) (by decide +kernel) hKX hS (hl.1.trans hml.symm) dX3_setRules_31 dX3_setRules_34 dX3_setRules_35 dX3_setRules_38 hT (by rw [hRf]; decide) (by rw [hRl]; decide) (Nat.le_of_ble_eq_true rfl) (by rw [hRc]; decide) (by rw [hRs]; decide) hlocks (Nat.le_of_ble_eq_true rfl) (Nat.le_of_ble_eq_true rfl)
  · have h_b := True.intro
    have k_39 : 1 ≤ a ∧ a ≤ 40 := Decidable.byContradiction fun h9 => absurd (hr_36.trans (if_neg h9)) c_37
    refine lv_iload_n hx hb dX3_setRules_10 rfl (lv_at hl 2 rfl) ?_
    refine lv_iconst (v := 0) hx hb dX3_setRules_11 (by decide) ?_
    refine lv_bipush (v := 100) hx hb dX3_setRules_12 (by decide) ?_
    refine zrdS (As := [.int b, .int 0, .int 100]) (rest := []) (wc := []) ⟨hx, hb, hml, hown, hts⟩ (c_isWithin l D _ b 0 100) (va_cwS 3 hts gX3_setRules_X3_isWithin rfl rfl rfl (by decide +kernel) ⟨by rw [hRf]; exact Nat.le_of_ble_eq_true rfl, by rw [hRl]; exact Nat.le_of_ble_eq_true rfl⟩) hK hP hD [] rfl (by decide) [] rfl rfl hl.1 rfl (Nat.le_of_ble_eq_true rfl) dX3_setRules_14 ⟨by omega, by omega⟩ (fun r_40 hr_40 => ?_)
    refine lv_if_eq (tgt := 31) hx hb dX3_setRules_17 (by decide) (fun c_41 => ?_) (fun c_41 => ?_)
    · have h_b := True.intro
      have k_42 : ¬ (0 ≤ b ∧ b ≤ 100) := fun h9 => absurd ((hr_40.trans (if_pos h9)).symm.trans c_41) (by decide)
      exact zthrow (own := RX3) (ik := 69) (ic := 71) (cls := "java/lang/IllegalArgumentException") hx hb hfl hown (by decide +kernel) (hts (.classLink RX3 69 "java/lang/IllegalArgumentException") (List.mem_of_getElem? (i := 1) (by rfl))) (hts (.initialized "java/lang/IllegalArgumentException") (List.mem_of_getElem? (i := 2) (by rfl))) (zhat 71 "java/lang/IllegalArgumentException" hKX.2.2.2.2.2.1 (fun w9 h9 => hts w9 (List.mem_cons_of_mem _ (List.mem_append_right _ h9))) hKX (by decide +kernel)) (by decide +kernel) hKX hS (hl.1.trans hml.symm) dX3_setRules_31 dX3_setRules_34 dX3_setRules_35 dX3_setRules_38 hT (by rw [hRf]; decide) (by rw [hRl]; decide) (Nat.le_of_ble_eq_true rfl) (by rw [hRc]; decide) (by rw [hRs]; decide) hlocks (Nat.le_of_ble_eq_true rfl) (Nat.le_of_ble_eq_true rfl)
    · have h_b := True.intro
      have k_43 : 0 ≤ b ∧ b ≤ 100 := Decidable.byContradiction fun h9 => absurd (hr_40.trans (if_neg h9)) c_41
      refine lv_iload_n hx hb dX3_setRules_20 rfl (lv_at hl 3 rfl) ?_
      refine lv_iconst (v := 1) hx hb dX3_setRules_21 (by decide) ?_
      refine lv_sipush (v := 20000) hx hb dX3_setRules_22 (by decide) ?_
      refine zrdS (As := [.int c1, .int 1, .int 20000]) (rest := []) (wc := []) ⟨hx, hb, hml, hown, hts⟩ (c_isWithin l D _ c1 1 20000) (va_cwS 3 hts gX3_setRules_X3_isWithin rfl rfl rfl (by decide +kernel) ⟨by rw [hRf]; exact Nat.le_of_ble_eq_true rfl, by rw [hRl]; exact Nat.le_of_ble_eq_true rfl⟩) hK hP hD [] rfl (by decide) [] rfl rfl hl.1 rfl (Nat.le_of_ble_eq_true rfl) dX3_setRules_25 ⟨by omega, by omega⟩ (fun r_44 hr_44 => ?_)
      refine lv_topi (fun v_45 ev_45 => ?_)
      obtain rfl : v_45 = 0 := ev_45.trans (hr_44.trans (if_neg (fun h9 => h ⟨k_39, k_43, h9⟩)))
      refine lv_if_ne (tgt := 39) hx hb dX3_setRules_28 (by decide) (fun c_46 => absurd (rfl) c_46) (fun c_46 => ?_)
      exact zthrow (own := RX3) (ik := 69) (ic := 71) (cls := "java/lang/IllegalArgumentException") hx hb hfl hown (by decide +kernel) (hts (.classLink RX3 69 "java/lang/IllegalArgumentException") (List.mem_of_getElem? (i := 1) (by rfl))) (hts (.initialized "java/lang/IllegalArgumentException") (List.mem_of_getElem? (i := 2) (by rfl))) (zhat 71 "java/lang/IllegalArgumentException" hKX.2.2.2.2.2.1 (fun w9 h9 => hts w9 (List.mem_cons_of_mem _ (List.mem_append_right _ h9))) hKX (by decide +kernel)) (by decide +kernel) hKX hS (hl.1.trans hml.symm) dX3_setRules_31 dX3_setRules_34 dX3_setRules_35 dX3_setRules_38 hT (by rw [hRf]; decide) (by rw [hRl]; decide) (Nat.le_of_ble_eq_true rfl) (by rw [hRc]; decide) (by rw [hRs]; decide) hlocks (Nat.le_of_ble_eq_true rfl) (Nat.le_of_ble_eq_true rfl)
set_option maxHeartbeats 4000000 in
set_option maxRecDepth 100000 in
theorem c_addKind_x (l : Launch) (hfl : l.stackTraces = false) (D : zG) (sz : Nat) (o kA iA tA tr lA : Nat) (a b c1 d e1 f : Int32) (h : ¬ ((1 ≤ a ∧ a ≤ 6) ∧ (1 ≤ b ∧ b ≤ 6) ∧ (1 ≤ c1 ∧ c1 ≤ 8) ∧ (1 ≤ d ∧ d ≤ 500) ∧ (0 ≤ e1 ∧ e1 ≤ 5000) ∧ (0 ≤ f ∧ f ≤ 3))) : vx_Met l yX3_addKind wsX3_addKind ({ frames := 6, cells := 1, slots := 6, locals := 100 }) (zPcK D [] ([(o, .inr (3, [.ref kA, .int 0, .int 20, .int 60, .int 2000, .int 0, .ref iA, .int 0, .int 0, .int 0, .ref tA, .ref tr, .ref lA, .int 0]))]) sz (zKX (va_A ([(o, .inr (3, [.ref kA, .int 0, .int 20, .int 60, .int 2000, .int 0, .ref iA, .int 0, .int 0, .int 0, .ref tA, .ref tr, .ref lA, .int 0]))]) sz)) [.ref o, .int a, .int b, .int c1, .int d, .int e1, .int f]) (zQX (va_A ([(o, .inr (3, [.ref kA, .int 0, .int 20, .int 60, .int 2000, .int 0, .ref iA, .int 0, .int 0, .int 0, .ref tA, .ref tr, .ref lA, .int 0]))]) sz)) (zXC "java/lang/IllegalArgumentException" (va_A ([(o, .inr (3, [.ref kA, .int 0, .int 20, .int 60, .int 2000, .int 0, .ref iA, .int 0, .int 0, .int 0, .ref tA, .ref tr, .ref lA, .int 0]))]) sz)) 1 6 (va_A ([(o, .inr (3, [.ref kA, .int 0, .int 20, .int 60, .int 2000, .int 0, .ref iA, .int 0, .int 0, .int 0, .ref tA, .ref tr, .ref lA, .int 0]))]) sz) := by
  refine vx_ofW (cc := cX3_addKind) (maxL := 8) (ret := (some .int)) (by decide) rfl ?_
  intro p e s m args below meth c s₁ B hml hT hv
  obtain ⟨rfl, ⟨hsz, hP, hK, hD0⟩, hKX⟩ := hv
  have hx := B.exec
  have hb := B.bytes
  have hr := B.returns
  have hts := atoms_spec (ws := wsX3_addKind) B.pre
  have hown : s.vm.findClass RX3 = some m.cls := findClass_of_methodNamed B.named
  have hlocks := B.notSynchronized
  subst hsz
  have hD := hD0.self (sz := s.heap.size)
  generalize hAe : va_A ([(o, .inr (3, [.ref kA, .int 0, .int 20, .int 60, .int 2000, .int 0, .ref iA, .int 0, .int 0, .int 0, .ref tA, .ref tr, .ref lA, .int 0]))]) s.heap.size = A at hD hKX ⊢
  have hA : ∀ q : Nat, s.heap.size ≤ q → A q := fun q h => by rw [← hAe]; exact Or.inr h
  have hS : va_S A s.heap s.heap [] := va_S.rf
  have hl := lv_entry ([.ref o, .int a, .int b, .int c1, .int d, .int e1, .int f]) (n := 8) (Nat.le_of_ble_eq_true rfl)
  rw [lg_entry_eq]
  generalize (lg_sl ([.ref o, .int a, .int b, .int c1, .int d, .int e1, .int f]) ++ List.replicate (8 - (lg_sl ([.ref o, .int a, .int b, .int c1, .int d, .int e1, .int f])).length) Slot.unset).toArray = ls at hl ⊢
  have hl : lv_has ls 8 [(0, .ref o), (1, .int a), (2, .int b), (3, .int c1), (4, .int d), (5, .int e1), (6, .int f)] := hl
  have hP : va_P D vwCl ([(o, .inr (3, [.ref kA, .int 0, .int 20, .int 60, .int 2000, .int 0, .ref iA, .int 0, .int 0, .int 0, .ref tA, .ref tr, .ref lA, .int 0]))]) s.heap := hP
  generalize hRe : (headSpec _ _).room = R
  have hRf : R.frames = 6 := by rw [← hRe]; rfl
  have hRc : R.cells = 1 := by rw [← hRe]; rfl
  have hRs : R.slots = 6 := by rw [← hRe]; rfl
  have hRl : R.locals = 100 := by rw [← hRe]; rfl
  have hRc := hRc
  clear hRe
  refine lv_iload_n hx hb dX3_addKind_0 rfl (lv_at hl 1 rfl) ?_
  refine lv_iconst (v := 1) hx hb dX3_addKind_1 (by decide) ?_
  refine lv_bipush (v := 6) hx hb dX3_addKind_2 (by decide) ?_
  refine zrdS (As := [.int a, .int 1, .int 6]) (rest := []) (wc := []) ⟨hx, hb, hml, hown, hts⟩ (c_isWithin l D _ a 1 6) (va_cwS 3 hts gX3_addKind_X3_isWithin rfl rfl rfl (by decide +kernel) ⟨by rw [hRf]; exact Nat.le_of_ble_eq_true rfl, by rw [hRl]; exact Nat.le_of_ble_eq_true rfl⟩) hK hP hD [] rfl (by decide) [] rfl rfl hl.1 rfl (Nat.le_of_ble_eq_true rfl) dX3_addKind_4 ⟨by omega, by omega⟩ (fun r_47 hr_47 => ?_)
  refine lv_if_eq (tgt := 64) hx hb dX3_addKind_7 (by decide) (fun c_48 => ?_) (fun c_48 => ?_)
  · have h_b := True.intro
    have k_49 : ¬ (1 ≤ a ∧ a ≤ 6) := fun h9 => absurd ((hr_47.trans (if_pos h9)).symm.trans c_48) (by decide)
    exact zthrow (own := RX3) (ik := 69) (ic := 71) (cls := "java/lang/IllegalArgumentException") hx hb hfl hown (by decide +kernel) (hts (.classLink RX3 69 "java/lang/IllegalArgumentException") (List.mem_of_getElem? (i := 1) (by rfl))) (hts (.initialized "java/lang/IllegalArgumentException") (List.mem_of_getElem? (i := 2) (by rfl))) (zhat 71 "java/lang/IllegalArgumentException" hKX.2.2.2.2.2.1 (fun w9 h9 => hts w9 (List.mem_cons_of_mem _ (List.mem_append_left _ (List.mem_append_right _ h9)))) hKX (by decide +kernel)) (by decide +kernel) hKX hS (hl.1.trans hml.symm) dX3_addKind_64 dX3_addKind_67 dX3_addKind_68 dX3_addKind_71 hT (by rw [hRf]; decide) (by rw [hRl]; decide) (Nat.le_of_ble_eq_true rfl) (by rw [hRc]; decide) (by rw [hRs]; decide) hlocks (Nat.le_of_ble_eq_true rfl) (Nat.le_of_ble_eq_true rfl)
  · have h_b := True.intro
    have k_50 : 1 ≤ a ∧ a ≤ 6 := Decidable.byContradiction fun h9 => absurd (hr_47.trans (if_neg h9)) c_48
    refine lv_iload_n hx hb dX3_addKind_10 rfl (lv_at hl 2 rfl) ?_
    refine lv_iconst (v := 1) hx hb dX3_addKind_11 (by decide) ?_
    refine lv_bipush (v := 6) hx hb dX3_addKind_12 (by decide) ?_
    refine zrdS (As := [.int b, .int 1, .int 6]) (rest := []) (wc := []) ⟨hx, hb, hml, hown, hts⟩ (c_isWithin l D _ b 1 6) (va_cwS 3 hts gX3_addKind_X3_isWithin rfl rfl rfl (by decide +kernel) ⟨by rw [hRf]; exact Nat.le_of_ble_eq_true rfl, by rw [hRl]; exact Nat.le_of_ble_eq_true rfl⟩) hK hP hD [] rfl (by decide) [] rfl rfl hl.1 rfl (Nat.le_of_ble_eq_true rfl) dX3_addKind_14 ⟨by omega, by omega⟩ (fun r_51 hr_51 => ?_)
    refine lv_if_eq (tgt := 64) hx hb dX3_addKind_17 (by decide) (fun c_52 => ?_) (fun c_52 => ?_)
    · have h_b := True.intro
      have k_53 : ¬ (1 ≤ b ∧ b ≤ 6) := fun h9 => absurd ((hr_51.trans (if_pos h9)).symm.trans c_52) (by decide)
      exact zthrow (own := RX3) (ik := 69) (ic := 71) (cls := "java/lang/IllegalArgumentException") hx hb hfl hown (by decide +kernel) (hts (.classLink RX3 69 "java/lang/IllegalArgumentException") (List.mem_of_getElem? (i := 1) (by rfl))) (hts (.initialized "java/lang/IllegalArgumentException") (List.mem_of_getElem? (i := 2) (by rfl))) (zhat 71 "java/lang/IllegalArgumentException" hKX.2.2.2.2.2.1 (fun w9 h9 => hts w9 (List.mem_cons_of_mem _ (List.mem_append_left _ (List.mem_append_right _ h9)))) hKX (by decide +kernel)) (by decide +kernel) hKX hS (hl.1.trans hml.symm) dX3_addKind_64 dX3_addKind_67 dX3_addKind_68 dX3_addKind_71 hT (by rw [hRf]; decide) (by rw [hRl]; decide) (Nat.le_of_ble_eq_true rfl) (by rw [hRc]; decide) (by rw [hRs]; decide) hlocks (Nat.le_of_ble_eq_true rfl) (Nat.le_of_ble_eq_true rfl)
    · have h_b := True.intro
      have k_54 : 1 ≤ b ∧ b ≤ 6 := Decidable.byContradiction fun h9 => absurd (hr_51.trans (if_neg h9)) c_52
      refine lv_iload_n hx hb dX3_addKind_20 rfl (lv_at hl 3 rfl) ?_
      refine lv_iconst (v := 1) hx hb dX3_addKind_21 (by decide) ?_
      refine lv_bipush (v := 8) hx hb dX3_addKind_22 (by decide) ?_
      refine zrdS (As := [.int c1, .int 1, .int 8]) (rest := []) (wc := []) ⟨hx, hb, hml, hown, hts⟩ (c_isWithin l D _ c1 1 8) (va_cwS 3 hts gX3_addKind_X3_isWithin rfl rfl rfl (by decide +kernel) ⟨by rw [hRf]; exact Nat.le_of_ble_eq_true rfl, by rw [hRl]; exact Nat.le_of_ble_eq_true rfl⟩) hK hP hD [] rfl (by decide) [] rfl rfl hl.1 rfl (Nat.le_of_ble_eq_true rfl) dX3_addKind_24 ⟨by omega, by omega⟩ (fun r_55 hr_55 => ?_)
      refine lv_if_eq (tgt := 64) hx hb dX3_addKind_27 (by decide) (fun c_56 => ?_) (fun c_56 => ?_)
      · have h_b := True.intro
        have k_57 : ¬ (1 ≤ c1 ∧ c1 ≤ 8) := fun h9 => absurd ((hr_55.trans (if_pos h9)).symm.trans c_56) (by decide)
        exact zthrow (own := RX3) (ik := 69) (ic := 71) (cls := "java/lang/IllegalArgumentException") hx hb hfl hown (by decide +kernel) (hts (.classLink RX3 69 "java/lang/IllegalArgumentException") (List.mem_of_getElem? (i := 1) (by rfl))) (hts (.initialized "java/lang/IllegalArgumentException") (List.mem_of_getElem? (i := 2) (by rfl))) (zhat 71 "java/lang/IllegalArgumentException" hKX.2.2.2.2.2.1 (fun w9 h9 => hts w9 (List.mem_cons_of_mem _ (List.mem_append_left _ (List.mem_append_right _ h9)))) hKX (by decide +kernel)) (by decide +kernel) hKX hS (hl.1.trans hml.symm) dX3_addKind_64 dX3_addKind_67 dX3_addKind_68 dX3_addKind_71 hT (by rw [hRf]; decide) (by rw [hRl]; decide) (Nat.le_of_ble_eq_true rfl) (by rw [hRc]; decide) (by rw [hRs]; decide) hlocks (Nat.le_of_ble_eq_true rfl) (Nat.le_of_ble_eq_true rfl)
      · have h_b := True.intro
        have k_58 : 1 ≤ c1 ∧ c1 ≤ 8 := Decidable.byContradiction fun h9 => absurd (hr_55.trans (if_neg h9)) c_56
        refine lv_iload hx hb dX3_addKind_30 (lv_at hl 4 rfl) ?_
        refine lv_iconst (v := 1) hx hb dX3_addKind_32 (by decide) ?_
        refine lv_sipush (v := 500) hx hb dX3_addKind_33 (by decide) ?_
        refine zrdS (As := [.int d, .int 1, .int 500]) (rest := []) (wc := []) ⟨hx, hb, hml, hown, hts⟩ (c_isWithin l D _ d 1 500) (va_cwS 3 hts gX3_addKind_X3_isWithin rfl rfl rfl (by decide +kernel) ⟨by rw [hRf]; exact Nat.le_of_ble_eq_true rfl, by rw [hRl]; exact Nat.le_of_ble_eq_true rfl⟩) hK hP hD [] rfl (by decide) [] rfl rfl hl.1 rfl (Nat.le_of_ble_eq_true rfl) dX3_addKind_36 ⟨by omega, by omega⟩ (fun r_59 hr_59 => ?_)
        refine lv_if_eq (tgt := 64) hx hb dX3_addKind_39 (by decide) (fun c_60 => ?_) (fun c_60 => ?_)
        · have h_b := True.intro
          have k_61 : ¬ (1 ≤ d ∧ d ≤ 500) := fun h9 => absurd ((hr_59.trans (if_pos h9)).symm.trans c_60) (by decide)
          exact zthrow (own := RX3) (ik := 69) (ic := 71) (cls := "java/lang/IllegalArgumentException") hx hb hfl hown (by decide +kernel) (hts (.classLink RX3 69 "java/lang/IllegalArgumentException") (List.mem_of_getElem? (i := 1) (by rfl))) (hts (.initialized "java/lang/IllegalArgumentException") (List.mem_of_getElem? (i := 2) (by rfl))) (zhat 71 "java/lang/IllegalArgumentException" hKX.2.2.2.2.2.1 (fun w9 h9 => hts w9 (List.mem_cons_of_mem _ (List.mem_append_left _ (List.mem_append_right _ h9)))) hKX (by decide +kernel)) (by decide +kernel) hKX hS (hl.1.trans hml.symm) dX3_addKind_64 dX3_addKind_67 dX3_addKind_68 dX3_addKind_71 hT (by rw [hRf]; decide) (by rw [hRl]; decide) (Nat.le_of_ble_eq_true rfl) (by rw [hRc]; decide) (by rw [hRs]; decide) hlocks (Nat.le_of_ble_eq_true rfl) (Nat.le_of_ble_eq_true rfl)
        · have h_b := True.intro
          have k_62 : 1 ≤ d ∧ d ≤ 500 := Decidable.byContradiction fun h9 => absurd (hr_59.trans (if_neg h9)) c_60
          refine lv_iload hx hb dX3_addKind_42 (lv_at hl 5 rfl) ?_
          refine lv_iconst (v := 0) hx hb dX3_addKind_44 (by decide) ?_
          refine lv_sipush (v := 5000) hx hb dX3_addKind_45 (by decide) ?_
          refine zrdS (As := [.int e1, .int 0, .int 5000]) (rest := []) (wc := []) ⟨hx, hb, hml, hown, hts⟩ (c_isWithin l D _ e1 0 5000) (va_cwS 3 hts gX3_addKind_X3_isWithin rfl rfl rfl (by decide +kernel) ⟨by rw [hRf]; exact Nat.le_of_ble_eq_true rfl, by rw [hRl]; exact Nat.le_of_ble_eq_true rfl⟩) hK hP hD [] rfl (by decide) [] rfl rfl hl.1 rfl (Nat.le_of_ble_eq_true rfl) dX3_addKind_48 ⟨by omega, by omega⟩ (fun r_63 hr_63 => ?_)
          refine lv_if_eq (tgt := 64) hx hb dX3_addKind_51 (by decide) (fun c_64 => ?_) (fun c_64 => ?_)
          · have h_b := True.intro
            have k_65 : ¬ (0 ≤ e1 ∧ e1 ≤ 5000) := fun h9 => absurd ((hr_63.trans (if_pos h9)).symm.trans c_64) (by decide)
            exact zthrow (own := RX3) (ik := 69) (ic := 71) (cls := "java/lang/IllegalArgumentException") hx hb hfl hown (by decide +kernel) (hts (.classLink RX3 69 "java/lang/IllegalArgumentException") (List.mem_of_getElem? (i := 1) (by rfl))) (hts (.initialized "java/lang/IllegalArgumentException") (List.mem_of_getElem? (i := 2) (by rfl))) (zhat 71 "java/lang/IllegalArgumentException" hKX.2.2.2.2.2.1 (fun w9 h9 => hts w9 (List.mem_cons_of_mem _ (List.mem_append_left _ (List.mem_append_right _ h9)))) hKX (by decide +kernel)) (by decide +kernel) hKX hS (hl.1.trans hml.symm) dX3_addKind_64 dX3_addKind_67 dX3_addKind_68 dX3_addKind_71 hT (by rw [hRf]; decide) (by rw [hRl]; decide) (Nat.le_of_ble_eq_true rfl) (by rw [hRc]; decide) (by rw [hRs]; decide) hlocks (Nat.le_of_ble_eq_true rfl) (Nat.le_of_ble_eq_true rfl)
          · have h_b := True.intro
            have k_66 : 0 ≤ e1 ∧ e1 ≤ 5000 := Decidable.byContradiction fun h9 => absurd (hr_63.trans (if_neg h9)) c_64
            refine lv_iload hx hb dX3_addKind_54 (lv_at hl 6 rfl) ?_
            refine lv_iconst (v := 0) hx hb dX3_addKind_56 (by decide) ?_
            refine lv_iconst (v := 3) hx hb dX3_addKind_57 (by decide) ?_
            refine zrdS (As := [.int f, .int 0, .int 3]) (rest := []) (wc := []) ⟨hx, hb, hml, hown, hts⟩ (c_isWithin l D _ f 0 3) (va_cwS 3 hts gX3_addKind_X3_isWithin rfl rfl rfl (by decide +kernel) ⟨by rw [hRf]; exact Nat.le_of_ble_eq_true rfl, by rw [hRl]; exact Nat.le_of_ble_eq_true rfl⟩) hK hP hD [] rfl (by decide) [] rfl rfl hl.1 rfl (Nat.le_of_ble_eq_true rfl) dX3_addKind_58 ⟨by omega, by omega⟩ (fun r_67 hr_67 => ?_)
            refine lv_topi (fun v_68 ev_68 => ?_)
            obtain rfl : v_68 = 0 := ev_68.trans (hr_67.trans (if_neg (fun h9 => h ⟨k_50, k_54, k_58, k_62, k_66, h9⟩)))
            refine lv_if_ne (tgt := 72) hx hb dX3_addKind_61 (by decide) (fun c_69 => absurd (rfl) c_69) (fun c_69 => ?_)
            exact zthrow (own := RX3) (ik := 69) (ic := 71) (cls := "java/lang/IllegalArgumentException") hx hb hfl hown (by decide +kernel) (hts (.classLink RX3 69 "java/lang/IllegalArgumentException") (List.mem_of_getElem? (i := 1) (by rfl))) (hts (.initialized "java/lang/IllegalArgumentException") (List.mem_of_getElem? (i := 2) (by rfl))) (zhat 71 "java/lang/IllegalArgumentException" hKX.2.2.2.2.2.1 (fun w9 h9 => hts w9 (List.mem_cons_of_mem _ (List.mem_append_left _ (List.mem_append_right _ h9)))) hKX (by decide +kernel)) (by decide +kernel) hKX hS (hl.1.trans hml.symm) dX3_addKind_64 dX3_addKind_67 dX3_addKind_68 dX3_addKind_71 hT (by rw [hRf]; decide) (by rw [hRl]; decide) (Nat.le_of_ble_eq_true rfl) (by rw [hRc]; decide) (by rw [hRs]; decide) hlocks (Nat.le_of_ble_eq_true rfl) (Nat.le_of_ble_eq_true rfl)
set_option maxHeartbeats 4000000 in
set_option maxRecDepth 100000 in
theorem c_setRules_ok_0 (l : Launch) (D : zG) (sz : Nat) (o kA iA tA tr lA : Nat) (a b c1 : Int32) (h : (1 ≤ a ∧ a ≤ 40) ∧ (0 ≤ b ∧ b ≤ 100) ∧ (1 ≤ c1 ∧ c1 ≤ 20000)) : Met l yX3_setRules wsX3_setRules ({ frames := 1, cells := 0, slots := 0, locals := 25 }) (zPc D [] ([(o, .inr (3, [.ref kA, .int 0, .int 20, .int 60, .int 2000, .int 0, .ref iA, .int 0, .int 0, .int 0, .ref tA, .ref tr, .ref lA, .int 0]))]) sz [.ref o, .int a, .int b, .int c1, .int 0]) (va_Qi (fun (r : Int32) (u : Unit) => r = 20) (zB D (va_A ([(o, .inr (3, [.ref kA, .int 0, .int 20, .int 60, .int 2000, .int 0, .ref iA, .int 0, .int 0, .int 0, .ref tA, .ref tr, .ref lA, .int 0]))]) sz) (fun _ => []) 0 (fun _ => [])) (va_A ([(o, .inr (3, [.ref kA, .int 0, .int 20, .int 60, .int 2000, .int 0, .ref iA, .int 0, .int 0, .int 0, .ref tA, .ref tr, .ref lA, .int 0]))]) sz)) 0 0 (va_A ([(o, .inr (3, [.ref kA, .int 0, .int 20, .int 60, .int 2000, .int 0, .ref iA, .int 0, .int 0, .int 0, .ref tA, .ref tr, .ref lA, .int 0]))]) sz) := by
  refine Met.ofW (cc := cX3_setRules) (maxL := 6) (ret := (some .int)) (by decide) rfl ?_
  intro p e s m args below meth c s₁ B hml hv
  obtain ⟨rfl, hsz, hP, hK, hD0⟩ := hv
  have hx := B.exec
  have hb := B.bytes
  have hr := B.returns
  have hts := atoms_spec (ws := wsX3_setRules) B.pre
  have hown : s.vm.findClass RX3 = some m.cls := findClass_of_methodNamed B.named
  have hlocks := B.notSynchronized
  subst hsz
  have hD := hD0.self (sz := s.heap.size)
  generalize hAe : va_A ([(o, .inr (3, [.ref kA, .int 0, .int 20, .int 60, .int 2000, .int 0, .ref iA, .int 0, .int 0, .int 0, .ref tA, .ref tr, .ref lA, .int 0]))]) s.heap.size = A at hD ⊢
  have hA : ∀ q : Nat, s.heap.size ≤ q → A q := fun q h => by rw [← hAe]; exact Or.inr h
  have hS : va_S A s.heap s.heap [] := va_S.rf
  have hl := lv_entry ([.ref o, .int a, .int b, .int c1, .int 0]) (n := 6) (Nat.le_of_ble_eq_true rfl)
  rw [lg_entry_eq]
  generalize (lg_sl ([.ref o, .int a, .int b, .int c1, .int 0]) ++ List.replicate (6 - (lg_sl ([.ref o, .int a, .int b, .int c1, .int 0])).length) Slot.unset).toArray = ls at hl ⊢
  have hl : lv_has ls 6 [(0, .ref o), (1, .int a), (2, .int b), (3, .int c1), (4, .int 0)] := hl
  have hP : va_P D vwCl ([(o, .inr (3, [.ref kA, .int 0, .int 20, .int 60, .int 2000, .int 0, .ref iA, .int 0, .int 0, .int 0, .ref tA, .ref tr, .ref lA, .int 0]))]) s.heap := hP
  generalize hRe : (headSpec _ _).room = R
  have hRf : R.frames = 1 := by rw [← hRe]; rfl
  have hRc : R.cells = 0 := by rw [← hRe]; rfl
  have hRs : R.slots = 0 := by rw [← hRe]; rfl
  have hRl : R.locals = 25 := by rw [← hRe]; rfl
  clear hRe
  refine lv_iload_n hx hb dX3_setRules_0 rfl (lv_at hl 1 rfl) ?_
  refine lv_iconst (v := 1) hx hb dX3_setRules_1 (by decide) ?_
  refine lv_bipush (v := 40) hx hb dX3_setRules_2 (by decide) ?_
  refine zrdS (As := [.int a, .int 1, .int 40]) (rest := []) (wc := []) ⟨hx, hb, hml, hown, hts⟩ (c_isWithin l D _ a 1 40) (va_cwS 3 hts gX3_setRules_X3_isWithin rfl rfl rfl (by decide +kernel) ⟨by rw [hRf]; exact Nat.le_of_ble_eq_true rfl, by rw [hRl]; exact Nat.le_of_ble_eq_true rfl⟩) hK hP hD [] rfl (by decide) [] rfl rfl hl.1 rfl (Nat.le_of_ble_eq_true rfl) dX3_setRules_4 ⟨by omega, by omega⟩ (fun r_70 hr_70 => ?_)
  refine lv_topi (fun v_71 ev_71 => ?_)
  obtain rfl : v_71 = 1 := ev_71.trans (hr_70.trans (if_pos h.1))
  refine lv_if_eq (tgt := 31) hx hb dX3_setRules_7 (by decide) (fun c_72 => absurd c_72 (by decide)) (fun c_72 => ?_)
  refine lv_iload_n hx hb dX3_setRules_10 rfl (lv_at hl 2 rfl) ?_
  refine lv_iconst (v := 0) hx hb dX3_setRules_11 (by decide) ?_
  refine lv_bipush (v := 100) hx hb dX3_setRules_12 (by decide) ?_
  refine zrdS (As := [.int b, .int 0, .int 100]) (rest := []) (wc := []) ⟨hx, hb, hml, hown, hts⟩ (c_isWithin l D _ b 0 100) (va_cwS 3 hts gX3_setRules_X3_isWithin rfl rfl rfl (by decide +kernel) ⟨by rw [hRf]; exact Nat.le_of_ble_eq_true rfl, by rw [hRl]; exact Nat.le_of_ble_eq_true rfl⟩) hK hP hD [] rfl (by decide) [] rfl rfl hl.1 rfl (Nat.le_of_ble_eq_true rfl) dX3_setRules_14 ⟨by omega, by omega⟩ (fun r_73 hr_73 => ?_)
  refine lv_topi (fun v_74 ev_74 => ?_)
  obtain rfl : v_74 = 1 := ev_74.trans (hr_73.trans (if_pos h.2.1))
  refine lv_if_eq (tgt := 31) hx hb dX3_setRules_17 (by decide) (fun c_75 => absurd c_75 (by decide)) (fun c_75 => ?_)
  refine lv_iload_n hx hb dX3_setRules_20 rfl (lv_at hl 3 rfl) ?_
  refine lv_iconst (v := 1) hx hb dX3_setRules_21 (by decide) ?_
  refine lv_sipush (v := 20000) hx hb dX3_setRules_22 (by decide) ?_
  refine zrdS (As := [.int c1, .int 1, .int 20000]) (rest := []) (wc := []) ⟨hx, hb, hml, hown, hts⟩ (c_isWithin l D _ c1 1 20000) (va_cwS 3 hts gX3_setRules_X3_isWithin rfl rfl rfl (by decide +kernel) ⟨by rw [hRf]; exact Nat.le_of_ble_eq_true rfl, by rw [hRl]; exact Nat.le_of_ble_eq_true rfl⟩) hK hP hD [] rfl (by decide) [] rfl rfl hl.1 rfl (Nat.le_of_ble_eq_true rfl) dX3_setRules_25 ⟨by omega, by omega⟩ (fun r_76 hr_76 => ?_)
  refine lv_topi (fun v_77 ev_77 => ?_)
  obtain rfl : v_77 = 1 := ev_77.trans (hr_76.trans (if_pos h.2.2))
  refine lv_if_ne (tgt := 39) hx hb dX3_setRules_28 (by decide) (fun c_78 => ?_) (fun c_78 => absurd c_78 (by decide))
  refine lv_aload_n hx hb dX3_setRules_39 rfl (lv_at hl 0 rfl) ?_
  refine va_get (D := D) (ci := 3) (v := .int 20) (C := RX3) (T := TX3) (N := 14) hx hb hts (fun _ h9 => List.mem_cons_of_mem _ (List.mem_append_left _ (List.mem_append_right _ h9))) hown hK hP 0 rfl rfl 2 (by decide) (hts (.fieldLink RX3 19 "PalletStack" "greatestHeight" "I") (List.mem_of_getElem? (i := 3) (by rfl))) (fun _ h9 => h9) rfl dX3_setRules_40 ?_
  refine lv_istore (lv' := [(5, .int 20), (0, .ref o), (1, .int a), (2, .int b), (3, .int c1), (4, .int 0)]) hx hb dX3_setRules_43 hl (by decide) rfl (fun ls hl => ?_)
  refine lv_aload_n hx hb dX3_setRules_45 rfl (lv_at hl 1 rfl) ?_
  refine lv_iload_n hx hb dX3_setRules_46 rfl (lv_at hl 2 rfl) ?_
  refine va_put (D := D) (ci := 3) (v := .int a) (ty := .int) (C := RX3) (T := TX3) (N := 14) hx hb hts (fun _ h9 => List.mem_cons_of_mem _ (List.mem_append_left _ (List.mem_append_right _ h9))) tyX3 tyX3_ok nmX3 hown hK hP hD hS 0 rfl rfl 2 (by decide) (hts (.fieldLink RX3 19 "PalletStack" "greatestHeight" "I") (List.mem_of_getElem? (i := 3) (by rfl))) (fun _ h9 => h9) rfl (by decide +kernel) rfl rfl (Nat.le_of_ble_eq_true rfl) dX3_setRules_47 (fun H locs hP hD hS => ?_)
  have hP : va_P D vwCl ([(o, .inr (3, [.ref kA, .int 0, .int a, .int 60, .int 2000, .int 0, .ref iA, .int 0, .int 0, .int 0, .ref tA, .ref tr, .ref lA, .int 0]))]) H := hP
  have hD : va_D A ([(o, .inr (3, [.ref kA, .int 0, .int a, .int 60, .int 2000, .int 0, .ref iA, .int 0, .int 0, .int 0, .ref tA, .ref tr, .ref lA, .int 0]))]) := hD
  refine lv_aload_n hx hb dX3_setRules_50 rfl (lv_at hl 1 rfl) ?_
  refine lv_iload_n hx hb dX3_setRules_51 rfl (lv_at hl 3 rfl) ?_
  refine va_put (D := D) (ci := 3) (v := .int b) (ty := .int) (C := RX3) (T := TX3) (N := 14) hx hb hts (fun _ h9 => List.mem_cons_of_mem _ (List.mem_append_left _ (List.mem_append_right _ h9))) tyX3 tyX3_ok nmX3 hown hK hP hD hS 0 rfl rfl 3 (by decide) (hts (.fieldLink RX3 22 "PalletStack" "support" "I") (List.mem_of_getElem? (i := 4) (by rfl))) (fun _ h9 => h9) rfl (by decide +kernel) rfl rfl (Nat.le_of_ble_eq_true rfl) dX3_setRules_52 (fun H locs hP hD hS => ?_)
  have hP : va_P D vwCl ([(o, .inr (3, [.ref kA, .int 0, .int a, .int b, .int 2000, .int 0, .ref iA, .int 0, .int 0, .int 0, .ref tA, .ref tr, .ref lA, .int 0]))]) H := hP
  have hD : va_D A ([(o, .inr (3, [.ref kA, .int 0, .int a, .int b, .int 2000, .int 0, .ref iA, .int 0, .int 0, .int 0, .ref tA, .ref tr, .ref lA, .int 0]))]) := hD
  refine lv_aload_n hx hb dX3_setRules_55 rfl (lv_at hl 1 rfl) ?_
  refine lv_iload_n hx hb dX3_setRules_56 rfl (lv_at hl 4 rfl) ?_
  refine va_put (D := D) (ci := 3) (v := .int c1) (ty := .int) (C := RX3) (T := TX3) (N := 14) hx hb hts (fun _ h9 => List.mem_cons_of_mem _ (List.mem_append_left _ (List.mem_append_right _ h9))) tyX3 tyX3_ok nmX3 hown hK hP hD hS 0 rfl rfl 4 (by decide) (hts (.fieldLink RX3 25 "PalletStack" "limit" "I") (List.mem_of_getElem? (i := 5) (by rfl))) (fun _ h9 => h9) rfl (by decide +kernel) rfl rfl (Nat.le_of_ble_eq_true rfl) dX3_setRules_57 (fun H locs hP hD hS => ?_)
  have hP : va_P D vwCl ([(o, .inr (3, [.ref kA, .int 0, .int a, .int b, .int c1, .int 0, .ref iA, .int 0, .int 0, .int 0, .ref tA, .ref tr, .ref lA, .int 0]))]) H := hP
  have hD : va_D A ([(o, .inr (3, [.ref kA, .int 0, .int a, .int b, .int c1, .int 0, .ref iA, .int 0, .int 0, .int 0, .ref tA, .ref tr, .ref lA, .int 0]))]) := hD
  refine lv_aload_n hx hb dX3_setRules_60 rfl (lv_at hl 1 rfl) ?_
  refine lv_iload hx hb dX3_setRules_61 (lv_at hl 5 rfl) ?_
  refine va_put (D := D) (ci := 3) (v := .int 0) (ty := .boolean) (C := RX3) (T := TX3) (N := 14) hx hb hts (fun _ h9 => List.mem_cons_of_mem _ (List.mem_append_left _ (List.mem_append_right _ h9))) tyX3 tyX3_ok nmX3 hown hK hP hD hS 0 rfl rfl 5 (by decide) (hts (.fieldLink RX3 28 "PalletStack" "hasCornerRule" "Z") (List.mem_of_getElem? (i := 6) (by rfl))) (fun _ h9 => h9) rfl (by decide +kernel) rfl rfl (Nat.le_of_ble_eq_true rfl) dX3_setRules_63 (fun H locs hP hD hS => ?_)
  have hP : va_P D vwCl ([(o, .inr (3, [.ref kA, .int 0, .int a, .int b, .int c1, .int 0, .ref iA, .int 0, .int 0, .int 0, .ref tA, .ref tr, .ref lA, .int 0]))]) H := hP
  have hD : va_D A ([(o, .inr (3, [.ref kA, .int 0, .int a, .int b, .int c1, .int 0, .ref iA, .int 0, .int 0, .int 0, .ref tA, .ref tr, .ref lA, .int 0]))]) := hD
  refine lv_iload hx hb dX3_setRules_66 (lv_at hl 0 rfl) ?_
  have hP := hP.sub (ws' := []) [] rfl
  have hD := hD.sub (ws' := []) [] (by decide) rfl
  exact W.iret (v := 20) hx hb hr (fun t ht hW => ⟨⟨20, (), rfl, rfl, ⟨Nat.zero_le _, by rw [ht]; exact hP, va_K.moved hW.alike (hK.sub (tys' := []) [] rfl), hD⟩⟩, hS.F ht⟩) hS.2.2 dX3_setRules_68
set_option maxHeartbeats 4000000 in
set_option maxRecDepth 100000 in
theorem c_setRules_ok_1 (l : Launch) (D : zG) (sz : Nat) (o kA iA tA tr lA : Nat) (a b c1 : Int32) (h : (1 ≤ a ∧ a ≤ 40) ∧ (0 ≤ b ∧ b ≤ 100) ∧ (1 ≤ c1 ∧ c1 ≤ 20000)) : Met l yX3_setRules wsX3_setRules ({ frames := 1, cells := 0, slots := 0, locals := 25 }) (zPc D [] ([(o, .inr (3, [.ref kA, .int 0, .int 20, .int 60, .int 2000, .int 0, .ref iA, .int 0, .int 0, .int 0, .ref tA, .ref tr, .ref lA, .int 0]))]) sz [.ref o, .int a, .int b, .int c1, .int 1]) (va_Qi (fun (r : Int32) (u : Unit) => r = 20) (zB D (va_A ([(o, .inr (3, [.ref kA, .int 0, .int 20, .int 60, .int 2000, .int 0, .ref iA, .int 0, .int 0, .int 0, .ref tA, .ref tr, .ref lA, .int 0]))]) sz) (fun _ => []) 0 (fun _ => [])) (va_A ([(o, .inr (3, [.ref kA, .int 0, .int 20, .int 60, .int 2000, .int 0, .ref iA, .int 0, .int 0, .int 0, .ref tA, .ref tr, .ref lA, .int 0]))]) sz)) 0 0 (va_A ([(o, .inr (3, [.ref kA, .int 0, .int 20, .int 60, .int 2000, .int 0, .ref iA, .int 0, .int 0, .int 0, .ref tA, .ref tr, .ref lA, .int 0]))]) sz) := by
  refine Met.ofW (cc := cX3_setRules) (maxL := 6) (ret := (some .int)) (by decide) rfl ?_
  intro p e s m args below meth c s₁ B hml hv
  obtain ⟨rfl, hsz, hP, hK, hD0⟩ := hv
  have hx := B.exec
  have hb := B.bytes
  have hr := B.returns
  have hts := atoms_spec (ws := wsX3_setRules) B.pre
  have hown : s.vm.findClass RX3 = some m.cls := findClass_of_methodNamed B.named
  have hlocks := B.notSynchronized
  subst hsz
  have hD := hD0.self (sz := s.heap.size)
  generalize hAe : va_A ([(o, .inr (3, [.ref kA, .int 0, .int 20, .int 60, .int 2000, .int 0, .ref iA, .int 0, .int 0, .int 0, .ref tA, .ref tr, .ref lA, .int 0]))]) s.heap.size = A at hD ⊢
  have hA : ∀ q : Nat, s.heap.size ≤ q → A q := fun q h => by rw [← hAe]; exact Or.inr h
  have hS : va_S A s.heap s.heap [] := va_S.rf
  have hl := lv_entry ([.ref o, .int a, .int b, .int c1, .int 1]) (n := 6) (Nat.le_of_ble_eq_true rfl)
  rw [lg_entry_eq]
  generalize (lg_sl ([.ref o, .int a, .int b, .int c1, .int 1]) ++ List.replicate (6 - (lg_sl ([.ref o, .int a, .int b, .int c1, .int 1])).length) Slot.unset).toArray = ls at hl ⊢
  have hl : lv_has ls 6 [(0, .ref o), (1, .int a), (2, .int b), (3, .int c1), (4, .int 1)] := hl
  have hP : va_P D vwCl ([(o, .inr (3, [.ref kA, .int 0, .int 20, .int 60, .int 2000, .int 0, .ref iA, .int 0, .int 0, .int 0, .ref tA, .ref tr, .ref lA, .int 0]))]) s.heap := hP
  generalize hRe : (headSpec _ _).room = R
  have hRf : R.frames = 1 := by rw [← hRe]; rfl
  have hRc : R.cells = 0 := by rw [← hRe]; rfl
  have hRs : R.slots = 0 := by rw [← hRe]; rfl
  have hRl : R.locals = 25 := by rw [← hRe]; rfl
  clear hRe
  refine lv_iload_n hx hb dX3_setRules_0 rfl (lv_at hl 1 rfl) ?_
  refine lv_iconst (v := 1) hx hb dX3_setRules_1 (by decide) ?_
  refine lv_bipush (v := 40) hx hb dX3_setRules_2 (by decide) ?_
  refine zrdS (As := [.int a, .int 1, .int 40]) (rest := []) (wc := []) ⟨hx, hb, hml, hown, hts⟩ (c_isWithin l D _ a 1 40) (va_cwS 3 hts gX3_setRules_X3_isWithin rfl rfl rfl (by decide +kernel) ⟨by rw [hRf]; exact Nat.le_of_ble_eq_true rfl, by rw [hRl]; exact Nat.le_of_ble_eq_true rfl⟩) hK hP hD [] rfl (by decide) [] rfl rfl hl.1 rfl (Nat.le_of_ble_eq_true rfl) dX3_setRules_4 ⟨by omega, by omega⟩ (fun r_79 hr_79 => ?_)
  refine lv_topi (fun v_80 ev_80 => ?_)
  obtain rfl : v_80 = 1 := ev_80.trans (hr_79.trans (if_pos h.1))
  refine lv_if_eq (tgt := 31) hx hb dX3_setRules_7 (by decide) (fun c_81 => absurd c_81 (by decide)) (fun c_81 => ?_)
  refine lv_iload_n hx hb dX3_setRules_10 rfl (lv_at hl 2 rfl) ?_
  refine lv_iconst (v := 0) hx hb dX3_setRules_11 (by decide) ?_
  refine lv_bipush (v := 100) hx hb dX3_setRules_12 (by decide) ?_
  refine zrdS (As := [.int b, .int 0, .int 100]) (rest := []) (wc := []) ⟨hx, hb, hml, hown, hts⟩ (c_isWithin l D _ b 0 100) (va_cwS 3 hts gX3_setRules_X3_isWithin rfl rfl rfl (by decide +kernel) ⟨by rw [hRf]; exact Nat.le_of_ble_eq_true rfl, by rw [hRl]; exact Nat.le_of_ble_eq_true rfl⟩) hK hP hD [] rfl (by decide) [] rfl rfl hl.1 rfl (Nat.le_of_ble_eq_true rfl) dX3_setRules_14 ⟨by omega, by omega⟩ (fun r_82 hr_82 => ?_)
  refine lv_topi (fun v_83 ev_83 => ?_)
  obtain rfl : v_83 = 1 := ev_83.trans (hr_82.trans (if_pos h.2.1))
  refine lv_if_eq (tgt := 31) hx hb dX3_setRules_17 (by decide) (fun c_84 => absurd c_84 (by decide)) (fun c_84 => ?_)
  refine lv_iload_n hx hb dX3_setRules_20 rfl (lv_at hl 3 rfl) ?_
  refine lv_iconst (v := 1) hx hb dX3_setRules_21 (by decide) ?_
  refine lv_sipush (v := 20000) hx hb dX3_setRules_22 (by decide) ?_
  refine zrdS (As := [.int c1, .int 1, .int 20000]) (rest := []) (wc := []) ⟨hx, hb, hml, hown, hts⟩ (c_isWithin l D _ c1 1 20000) (va_cwS 3 hts gX3_setRules_X3_isWithin rfl rfl rfl (by decide +kernel) ⟨by rw [hRf]; exact Nat.le_of_ble_eq_true rfl, by rw [hRl]; exact Nat.le_of_ble_eq_true rfl⟩) hK hP hD [] rfl (by decide) [] rfl rfl hl.1 rfl (Nat.le_of_ble_eq_true rfl) dX3_setRules_25 ⟨by omega, by omega⟩ (fun r_85 hr_85 => ?_)
  refine lv_topi (fun v_86 ev_86 => ?_)
  obtain rfl : v_86 = 1 := ev_86.trans (hr_85.trans (if_pos h.2.2))
  refine lv_if_ne (tgt := 39) hx hb dX3_setRules_28 (by decide) (fun c_87 => ?_) (fun c_87 => absurd c_87 (by decide))
  refine lv_aload_n hx hb dX3_setRules_39 rfl (lv_at hl 0 rfl) ?_
  refine va_get (D := D) (ci := 3) (v := .int 20) (C := RX3) (T := TX3) (N := 14) hx hb hts (fun _ h9 => List.mem_cons_of_mem _ (List.mem_append_left _ (List.mem_append_right _ h9))) hown hK hP 0 rfl rfl 2 (by decide) (hts (.fieldLink RX3 19 "PalletStack" "greatestHeight" "I") (List.mem_of_getElem? (i := 3) (by rfl))) (fun _ h9 => h9) rfl dX3_setRules_40 ?_
  refine lv_istore (lv' := [(5, .int 20), (0, .ref o), (1, .int a), (2, .int b), (3, .int c1), (4, .int 1)]) hx hb dX3_setRules_43 hl (by decide) rfl (fun ls hl => ?_)
  refine lv_aload_n hx hb dX3_setRules_45 rfl (lv_at hl 1 rfl) ?_
  refine lv_iload_n hx hb dX3_setRules_46 rfl (lv_at hl 2 rfl) ?_
  refine va_put (D := D) (ci := 3) (v := .int a) (ty := .int) (C := RX3) (T := TX3) (N := 14) hx hb hts (fun _ h9 => List.mem_cons_of_mem _ (List.mem_append_left _ (List.mem_append_right _ h9))) tyX3 tyX3_ok nmX3 hown hK hP hD hS 0 rfl rfl 2 (by decide) (hts (.fieldLink RX3 19 "PalletStack" "greatestHeight" "I") (List.mem_of_getElem? (i := 3) (by rfl))) (fun _ h9 => h9) rfl (by decide +kernel) rfl rfl (Nat.le_of_ble_eq_true rfl) dX3_setRules_47 (fun H locs hP hD hS => ?_)
  have hP : va_P D vwCl ([(o, .inr (3, [.ref kA, .int 0, .int a, .int 60, .int 2000, .int 0, .ref iA, .int 0, .int 0, .int 0, .ref tA, .ref tr, .ref lA, .int 0]))]) H := hP
  have hD : va_D A ([(o, .inr (3, [.ref kA, .int 0, .int a, .int 60, .int 2000, .int 0, .ref iA, .int 0, .int 0, .int 0, .ref tA, .ref tr, .ref lA, .int 0]))]) := hD
  refine lv_aload_n hx hb dX3_setRules_50 rfl (lv_at hl 1 rfl) ?_
  refine lv_iload_n hx hb dX3_setRules_51 rfl (lv_at hl 3 rfl) ?_
  refine va_put (D := D) (ci := 3) (v := .int b) (ty := .int) (C := RX3) (T := TX3) (N := 14) hx hb hts (fun _ h9 => List.mem_cons_of_mem _ (List.mem_append_left _ (List.mem_append_right _ h9))) tyX3 tyX3_ok nmX3 hown hK hP hD hS 0 rfl rfl 3 (by decide) (hts (.fieldLink RX3 22 "PalletStack" "support" "I") (List.mem_of_getElem? (i := 4) (by rfl))) (fun _ h9 => h9) rfl (by decide +kernel) rfl rfl (Nat.le_of_ble_eq_true rfl) dX3_setRules_52 (fun H locs hP hD hS => ?_)
  have hP : va_P D vwCl ([(o, .inr (3, [.ref kA, .int 0, .int a, .int b, .int 2000, .int 0, .ref iA, .int 0, .int 0, .int 0, .ref tA, .ref tr, .ref lA, .int 0]))]) H := hP
  have hD : va_D A ([(o, .inr (3, [.ref kA, .int 0, .int a, .int b, .int 2000, .int 0, .ref iA, .int 0, .int 0, .int 0, .ref tA, .ref tr, .ref lA, .int 0]))]) := hD
  refine lv_aload_n hx hb dX3_setRules_55 rfl (lv_at hl 1 rfl) ?_
  refine lv_iload_n hx hb dX3_setRules_56 rfl (lv_at hl 4 rfl) ?_
  refine va_put (D := D) (ci := 3) (v := .int c1) (ty := .int) (C := RX3) (T := TX3) (N := 14) hx hb hts (fun _ h9 => List.mem_cons_of_mem _ (List.mem_append_left _ (List.mem_append_right _ h9))) tyX3 tyX3_ok nmX3 hown hK hP hD hS 0 rfl rfl 4 (by decide) (hts (.fieldLink RX3 25 "PalletStack" "limit" "I") (List.mem_of_getElem? (i := 5) (by rfl))) (fun _ h9 => h9) rfl (by decide +kernel) rfl rfl (Nat.le_of_ble_eq_true rfl) dX3_setRules_57 (fun H locs hP hD hS => ?_)
  have hP : va_P D vwCl ([(o, .inr (3, [.ref kA, .int 0, .int a, .int b, .int c1, .int 0, .ref iA, .int 0, .int 0, .int 0, .ref tA, .ref tr, .ref lA, .int 0]))]) H := hP
  have hD : va_D A ([(o, .inr (3, [.ref kA, .int 0, .int a, .int b, .int c1, .int 0, .ref iA, .int 0, .int 0, .int 0, .ref tA, .ref tr, .ref lA, .int 0]))]) := hD
  refine lv_aload_n hx hb dX3_setRules_60 rfl (lv_at hl 1 rfl) ?_
  refine lv_iload hx hb dX3_setRules_61 (lv_at hl 5 rfl) ?_
  refine va_put (D := D) (ci := 3) (v := .int 1) (ty := .boolean) (C := RX3) (T := TX3) (N := 14) hx hb hts (fun _ h9 => List.mem_cons_of_mem _ (List.mem_append_left _ (List.mem_append_right _ h9))) tyX3 tyX3_ok nmX3 hown hK hP hD hS 0 rfl rfl 5 (by decide) (hts (.fieldLink RX3 28 "PalletStack" "hasCornerRule" "Z") (List.mem_of_getElem? (i := 6) (by rfl))) (fun _ h9 => h9) rfl (by decide +kernel) rfl rfl (Nat.le_of_ble_eq_true rfl) dX3_setRules_63 (fun H locs hP hD hS => ?_)
  have hP : va_P D vwCl ([(o, .inr (3, [.ref kA, .int 0, .int a, .int b, .int c1, .int 1, .ref iA, .int 0, .int 0, .int 0, .ref tA, .ref tr, .ref lA, .int 0]))]) H := hP
  have hD : va_D A ([(o, .inr (3, [.ref kA, .int 0, .int a, .int b, .int c1, .int 1, .ref iA, .int 0, .int 0, .int 0, .ref tA, .ref tr, .ref lA, .int 0]))]) := hD
  refine lv_iload hx hb dX3_setRules_66 (lv_at hl 0 rfl) ?_
  have hP := hP.sub (ws' := []) [] rfl
  have hD := hD.sub (ws' := []) [] (by decide) rfl
  exact W.iret (v := 20) hx hb hr (fun t ht hW => ⟨⟨20, (), rfl, rfl, ⟨Nat.zero_le _, by rw [ht]; exact hP, va_K.moved hW.alike (hK.sub (tys' := []) [] rfl), hD⟩⟩, hS.F ht⟩) hS.2.2 dX3_setRules_68
set_option maxHeartbeats 4000000 in
set_option maxRecDepth 100000 in
theorem c_Kind_init (l : Launch) (D : zG) (sz : Nat) (k0 : Nat) (n a b c1 d e1 f : Int32) : Met l yX1_init wsX1_init ({ frames := 1, cells := 0, slots := 0, locals := 16 }) (zPc D [] ([(k0, .inr (1, [.int 0, .int 0, .int 0, .int 0, .int 0, .int 0, .int 0, .int 0]))]) sz [.ref k0, .int n, .int a, .int b, .int c1, .int d, .int e1, .int f]) (va_Qv (fun (u : Int32 × Int32) => True) (zB D (va_A ([(k0, .inr (1, [.int 0, .int 0, .int 0, .int 0, .int 0, .int 0, .int 0, .int 0]))]) sz) (fun _ => []) 0 (fun u => [(k0, .inr (1, [.int n, .int a, .int b, .int c1, .int d, .int e1, .int u.1, .int u.2]))])) (va_A ([(k0, .inr (1, [.int 0, .int 0, .int 0, .int 0, .int 0, .int 0, .int 0, .int 0]))]) sz)) 0 0 (va_A ([(k0, .inr (1, [.int 0, .int 0, .int 0, .int 0, .int 0, .int 0, .int 0, .int 0]))]) sz) := by
  refine Met.ofW (cc := cX1_init) (maxL := 8) (ret := none) (by decide) rfl ?_
  intro p e s m args below meth c s₁ B hml hv
  obtain ⟨rfl, hsz, hP, hK, hD0⟩ := hv
  have hx := B.exec
  have hb := B.bytes
  have hr := B.returns
  have hts := atoms_spec (ws := wsX1_init) B.pre
  have hown : s.vm.findClass RX1 = some m.cls := findClass_of_methodNamed B.named
  have hlocks := B.notSynchronized
  have hin : meth.name = "<init>" := (name_of_methodNamed B.named B.method).1
  subst hsz
  have hD := hD0.self (sz := s.heap.size)
  generalize hAe : va_A ([(k0, .inr (1, [.int 0, .int 0, .int 0, .int 0, .int 0, .int 0, .int 0, .int 0]))]) s.heap.size = A at hD ⊢
  have hA : ∀ q : Nat, s.heap.size ≤ q → A q := fun q h => by rw [← hAe]; exact Or.inr h
  have hS : va_S A s.heap s.heap [] := va_S.rf
  have hl := lv_entry ([.ref k0, .int n, .int a, .int b, .int c1, .int d, .int e1, .int f]) (n := 8) (Nat.le_of_ble_eq_true rfl)
  rw [lg_entry_eq]
  generalize (lg_sl ([.ref k0, .int n, .int a, .int b, .int c1, .int d, .int e1, .int f]) ++ List.replicate (8 - (lg_sl ([.ref k0, .int n, .int a, .int b, .int c1, .int d, .int e1, .int f])).length) Slot.unset).toArray = ls at hl ⊢
  have hl : lv_has ls 8 [(0, .ref k0), (1, .int n), (2, .int a), (3, .int b), (4, .int c1), (5, .int d), (6, .int e1), (7, .int f)] := hl
  have hP : va_P D vwCl ([(k0, .inr (1, [.int 0, .int 0, .int 0, .int 0, .int 0, .int 0, .int 0, .int 0]))]) s.heap := hP
  generalize hRe : (headSpec _ _).room = R
  have hRf : R.frames = 1 := by rw [← hRe]; rfl
  have hRc : R.cells = 0 := by rw [← hRe]; rfl
  have hRs : R.slots = 0 := by rw [← hRe]; rfl
  have hRl : R.locals = 16 := by rw [← hRe]; rfl
  clear hRe
  refine lv_aload_n hx hb dX1_init_0 rfl (lv_at hl 0 rfl) ?_
  refine W.objInit hx hb hown (hts (.methodLink RX1 1 objectInit) (List.mem_of_getElem? (i := 1) (by rfl))) (hts (.instanceMethod objectInit) (List.mem_of_getElem? (i := 2) (by rfl))) (hts (.code objectInit ⟨#[0xb1]⟩ 1 none) (List.mem_of_getElem? (i := 3) (by rfl))) rfl (by rw [hml]; exact hl.1) rfl dX1_init_1 (by rw [hRf]; exact Nat.le_of_ble_eq_true rfl) (by rw [hRl]; exact Nat.le_of_ble_eq_true rfl) ?_
  refine W.eq (g2 := F0 m 4 ls []) rfl ?_
  refine lv_aload_n hx hb dX1_init_4 rfl (lv_at hl 0 rfl) ?_
  refine lv_iload_n hx hb dX1_init_5 rfl (lv_at hl 1 rfl) ?_
  refine va_putF (D := D) (ci := 1) (v := .int n) (ty := .int) (C := RX1) (T := TX1) (N := 8) hx hb hts (fun _ h9 => List.mem_cons_of_mem _ (List.mem_append_right _ h9)) tyX1 tyX1_ok nmX1 hown hK hP hD hS 0 rfl rfl 0 (by decide) (hts (.fieldLink RX1 7 "PalletStack$Kind" "number" "I") (List.mem_of_getElem? (i := 4) (by rfl))) (fun _ h9 => h9) rfl hin rfl (by decide +kernel) rfl rfl (Nat.le_of_ble_eq_true rfl) dX1_init_6 (fun H locs hP hD hS => ?_)
  have hP : va_P D vwCl ([(k0, .inr (1, [.int n, .int 0, .int 0, .int 0, .int 0, .int 0, .int 0, .int 0]))]) H := hP
  have hD : va_D A ([(k0, .inr (1, [.int n, .int 0, .int 0, .int 0, .int 0, .int 0, .int 0, .int 0]))]) := hD
  refine lv_aload_n hx hb dX1_init_9 rfl (lv_at hl 0 rfl) ?_
  refine lv_iload_n hx hb dX1_init_10 rfl (lv_at hl 2 rfl) ?_
  refine va_putF (D := D) (ci := 1) (v := .int a) (ty := .int) (C := RX1) (T := TX1) (N := 8) hx hb hts (fun _ h9 => List.mem_cons_of_mem _ (List.mem_append_right _ h9)) tyX1 tyX1_ok nmX1 hown hK hP hD hS 0 rfl rfl 1 (by decide) (hts (.fieldLink RX1 13 "PalletStack$Kind" "width" "I") (List.mem_of_getElem? (i := 5) (by rfl))) (fun _ h9 => h9) rfl hin rfl (by decide +kernel) rfl rfl (Nat.le_of_ble_eq_true rfl) dX1_init_11 (fun H locs hP hD hS => ?_)
  have hP : va_P D vwCl ([(k0, .inr (1, [.int n, .int a, .int 0, .int 0, .int 0, .int 0, .int 0, .int 0]))]) H := hP
  have hD : va_D A ([(k0, .inr (1, [.int n, .int a, .int 0, .int 0, .int 0, .int 0, .int 0, .int 0]))]) := hD
  refine lv_aload_n hx hb dX1_init_14 rfl (lv_at hl 0 rfl) ?_
  refine lv_iload_n hx hb dX1_init_15 rfl (lv_at hl 3 rfl) ?_
  refine va_putF (D := D) (ci := 1) (v := .int b) (ty := .int) (C := RX1) (T := TX1) (N := 8) hx hb hts (fun _ h9 => List.mem_cons_of_mem _ (List.mem_append_right _ h9)) tyX1 tyX1_ok nmX1 hown hK hP hD hS 0 rfl rfl 2 (by decide) (hts (.fieldLink RX1 16 "PalletStack$Kind" "depth" "I") (List.mem_of_getElem? (i := 6) (by rfl))) (fun _ h9 => h9) rfl hin rfl (by decide +kernel) rfl rfl (Nat.le_of_ble_eq_true rfl) dX1_init_16 (fun H locs hP hD hS => ?_)
  have hP : va_P D vwCl ([(k0, .inr (1, [.int n, .int a, .int b, .int 0, .int 0, .int 0, .int 0, .int 0]))]) H := hP
  have hD : va_D A ([(k0, .inr (1, [.int n, .int a, .int b, .int 0, .int 0, .int 0, .int 0, .int 0]))]) := hD
  refine lv_aload_n hx hb dX1_init_19 rfl (lv_at hl 0 rfl) ?_
  refine lv_iload hx hb dX1_init_20 (lv_at hl 4 rfl) ?_
  refine va_putF (D := D) (ci := 1) (v := .int c1) (ty := .int) (C := RX1) (T := TX1) (N := 8) hx hb hts (fun _ h9 => List.mem_cons_of_mem _ (List.mem_append_right _ h9)) tyX1 tyX1_ok nmX1 hown hK hP hD hS 0 rfl rfl 3 (by decide) (hts (.fieldLink RX1 19 "PalletStack$Kind" "height" "I") (List.mem_of_getElem? (i := 7) (by rfl))) (fun _ h9 => h9) rfl hin rfl (by decide +kernel) rfl rfl (Nat.le_of_ble_eq_true rfl) dX1_init_22 (fun H locs hP hD hS => ?_)
  have hP : va_P D vwCl ([(k0, .inr (1, [.int n, .int a, .int b, .int c1, .int 0, .int 0, .int 0, .int 0]))]) H := hP
  have hD : va_D A ([(k0, .inr (1, [.int n, .int a, .int b, .int c1, .int 0, .int 0, .int 0, .int 0]))]) := hD
  refine lv_aload_n hx hb dX1_init_25 rfl (lv_at hl 0 rfl) ?_
  refine lv_iload hx hb dX1_init_26 (lv_at hl 5 rfl) ?_
  refine va_putF (D := D) (ci := 1) (v := .int d) (ty := .int) (C := RX1) (T := TX1) (N := 8) hx hb hts (fun _ h9 => List.mem_cons_of_mem _ (List.mem_append_right _ h9)) tyX1 tyX1_ok nmX1 hown hK hP hD hS 0 rfl rfl 4 (by decide) (hts (.fieldLink RX1 22 "PalletStack$Kind" "weight" "I") (List.mem_of_getElem? (i := 8) (by rfl))) (fun _ h9 => h9) rfl hin rfl (by decide +kernel) rfl rfl (Nat.le_of_ble_eq_true rfl) dX1_init_28 (fun H locs hP hD hS => ?_)
  have hP : va_P D vwCl ([(k0, .inr (1, [.int n, .int a, .int b, .int c1, .int d, .int 0, .int 0, .int 0]))]) H := hP
  have hD : va_D A ([(k0, .inr (1, [.int n, .int a, .int b, .int c1, .int d, .int 0, .int 0, .int 0]))]) := hD
  refine lv_aload_n hx hb dX1_init_31 rfl (lv_at hl 0 rfl) ?_
  refine lv_iload hx hb dX1_init_32 (lv_at hl 6 rfl) ?_
  refine va_putF (D := D) (ci := 1) (v := .int e1) (ty := .int) (C := RX1) (T := TX1) (N := 8) hx hb hts (fun _ h9 => List.mem_cons_of_mem _ (List.mem_append_right _ h9)) tyX1 tyX1_ok nmX1 hown hK hP hD hS 0 rfl rfl 5 (by decide) (hts (.fieldLink RX1 25 "PalletStack$Kind" "strength" "I") (List.mem_of_getElem? (i := 9) (by rfl))) (fun _ h9 => h9) rfl hin rfl (by decide +kernel) rfl rfl (Nat.le_of_ble_eq_true rfl) dX1_init_34 (fun H locs hP hD hS => ?_)
  have hP : va_P D vwCl ([(k0, .inr (1, [.int n, .int a, .int b, .int c1, .int d, .int e1, .int 0, .int 0]))]) H := hP
  have hD : va_D A ([(k0, .inr (1, [.int n, .int a, .int b, .int c1, .int d, .int e1, .int 0, .int 0]))]) := hD
  refine lv_aload_n hx hb dX1_init_37 rfl (lv_at hl 0 rfl) ?_
  refine lv_iload hx hb dX1_init_38 (lv_at hl 7 rfl) ?_
  refine lv_iconst (v := 1) hx hb dX1_init_40 (by decide) ?_
  refine lv_icmp_eq (tgt := 50) hx hb dX1_init_41 (by decide) (fun c_88 => ?_) (fun c_88 => ?_)
  · have h_b := True.intro
    refine lv_iconst (v := 1) hx hb dX1_init_50 (by decide) ?_
    refine lv_goto (tgt := 55) hx hb dX1_init_51 (by decide) ?_
    refine va_putF (D := D) (ci := 1) (v := .int 1) (ty := .boolean) (C := RX1) (T := TX1) (N := 8) hx hb hts (fun _ h9 => List.mem_cons_of_mem _ (List.mem_append_right _ h9)) tyX1 tyX1_ok nmX1 hown hK hP hD hS 0 rfl rfl 6 (by decide) (hts (.fieldLink RX1 28 "PalletStack$Kind" "canTurn" "Z") (List.mem_of_getElem? (i := 10) (by rfl))) (fun _ h9 => h9) rfl hin rfl (by decide +kernel) rfl rfl (Nat.le_of_ble_eq_true rfl) dX1_init_55 (fun H locs hP hD hS => ?_)
    have hP : va_P D vwCl ([(k0, .inr (1, [.int n, .int a, .int b, .int c1, .int d, .int e1, .int 1, .int 0]))]) H := hP
    have hD : va_D A ([(k0, .inr (1, [.int n, .int a, .int b, .int c1, .int d, .int e1, .int 1, .int 0]))]) := hD
    refine lv_aload_n hx hb dX1_init_58 rfl (lv_at hl 0 rfl) ?_
    refine lv_iload hx hb dX1_init_59 (lv_at hl 7 rfl) ?_
    refine lv_iconst (v := 2) hx hb dX1_init_61 (by decide) ?_
    refine lv_icmp_eq (tgt := 71) hx hb dX1_init_62 (by decide) (fun c_89 => ?_) (fun c_89 => ?_)
    · have h_b := True.intro
      refine lv_iconst (v := 1) hx hb dX1_init_71 (by decide) ?_
      refine lv_goto (tgt := 76) hx hb dX1_init_72 (by decide) ?_
      refine va_putF (D := D) (ci := 1) (v := .int 1) (ty := .boolean) (C := RX1) (T := TX1) (N := 8) hx hb hts (fun _ h9 => List.mem_cons_of_mem _ (List.mem_append_right _ h9)) tyX1 tyX1_ok nmX1 hown hK hP hD hS 0 rfl rfl 7 (by decide) (hts (.fieldLink RX1 32 "PalletStack$Kind" "needsDeck" "Z") (List.mem_of_getElem? (i := 11) (by rfl))) (fun _ h9 => h9) rfl hin rfl (by decide +kernel) rfl rfl (Nat.le_of_ble_eq_true rfl) dX1_init_76 (fun H locs hP hD hS => ?_)
      have hP : va_P D vwCl ([(k0, .inr (1, [.int n, .int a, .int b, .int c1, .int d, .int e1, .int 1, .int 1]))]) H := hP
      have hD : va_D A ([(k0, .inr (1, [.int n, .int a, .int b, .int c1, .int d, .int e1, .int 1, .int 1]))]) := hD
      exact W.vret hx hb hr (fun t ht hW => ⟨⟨(1, 1), rfl, True.intro, ⟨Nat.zero_le _, by rw [ht]; exact hP, va_K.moved hW.alike (hK.sub (tys' := []) [] rfl), hD⟩⟩, hS.F ht⟩) hS.2.2 dX1_init_79
    · have h_b := True.intro
      refine lv_iload hx hb dX1_init_65 (lv_at hl 7 rfl) ?_
      refine lv_iconst (v := 3) hx hb dX1_init_67 (by decide) ?_
      refine lv_icmp_ne (tgt := 75) hx hb dX1_init_68 (by decide) (fun c_90 => ?_) (fun c_90 => ?_)
      · have h_b := True.intro
        refine lv_iconst (v := 0) hx hb dX1_init_75 (by decide) ?_
        refine va_putF (D := D) (ci := 1) (v := .int 0) (ty := .boolean) (C := RX1) (T := TX1) (N := 8) hx hb hts (fun _ h9 => List.mem_cons_of_mem _ (List.mem_append_right _ h9)) tyX1 tyX1_ok nmX1 hown hK hP hD hS 0 rfl rfl 7 (by decide) (hts (.fieldLink RX1 32 "PalletStack$Kind" "needsDeck" "Z") (List.mem_of_getElem? (i := 11) (by rfl))) (fun _ h9 => h9) rfl hin rfl (by decide +kernel) rfl rfl (Nat.le_of_ble_eq_true rfl) dX1_init_76 (fun H locs hP hD hS => ?_)
        have hP : va_P D vwCl ([(k0, .inr (1, [.int n, .int a, .int b, .int c1, .int d, .int e1, .int 1, .int 0]))]) H := hP
        have hD : va_D A ([(k0, .inr (1, [.int n, .int a, .int b, .int c1, .int d, .int e1, .int 1, .int 0]))]) := hD
        exact W.vret hx hb hr (fun t ht hW => ⟨⟨(1, 0), rfl, True.intro, ⟨Nat.zero_le _, by rw [ht]; exact hP, va_K.moved hW.alike (hK.sub (tys' := []) [] rfl), hD⟩⟩, hS.F ht⟩) hS.2.2 dX1_init_79
      · have h_b := True.intro
        refine lv_iconst (v := 1) hx hb dX1_init_71 (by decide) ?_
        refine lv_goto (tgt := 76) hx hb dX1_init_72 (by decide) ?_
        refine va_putF (D := D) (ci := 1) (v := .int 1) (ty := .boolean) (C := RX1) (T := TX1) (N := 8) hx hb hts (fun _ h9 => List.mem_cons_of_mem _ (List.mem_append_right _ h9)) tyX1 tyX1_ok nmX1 hown hK hP hD hS 0 rfl rfl 7 (by decide) (hts (.fieldLink RX1 32 "PalletStack$Kind" "needsDeck" "Z") (List.mem_of_getElem? (i := 11) (by rfl))) (fun _ h9 => h9) rfl hin rfl (by decide +kernel) rfl rfl (Nat.le_of_ble_eq_true rfl) dX1_init_76 (fun H locs hP hD hS => ?_)
        have hP : va_P D vwCl ([(k0, .inr (1, [.int n, .int a, .int b, .int c1, .int d, .int e1, .int 1, .int 1]))]) H := hP
        have hD : va_D A ([(k0, .inr (1, [.int n, .int a, .int b, .int c1, .int d, .int e1, .int 1, .int 1]))]) := hD
        exact W.vret hx hb hr (fun t ht hW => ⟨⟨(1, 1), rfl, True.intro, ⟨Nat.zero_le _, by rw [ht]; exact hP, va_K.moved hW.alike (hK.sub (tys' := []) [] rfl), hD⟩⟩, hS.F ht⟩) hS.2.2 dX1_init_79
  · have h_b := True.intro
    refine lv_iload hx hb dX1_init_44 (lv_at hl 7 rfl) ?_
    refine lv_iconst (v := 3) hx hb dX1_init_46 (by decide) ?_
    refine lv_icmp_ne (tgt := 54) hx hb dX1_init_47 (by decide) (fun c_91 => ?_) (fun c_91 => ?_)
    · have h_b := True.intro
      refine lv_iconst (v := 0) hx hb dX1_init_54 (by decide) ?_
      refine va_putF (D := D) (ci := 1) (v := .int 0) (ty := .boolean) (C := RX1) (T := TX1) (N := 8) hx hb hts (fun _ h9 => List.mem_cons_of_mem _ (List.mem_append_right _ h9)) tyX1 tyX1_ok nmX1 hown hK hP hD hS 0 rfl rfl 6 (by decide) (hts (.fieldLink RX1 28 "PalletStack$Kind" "canTurn" "Z") (List.mem_of_getElem? (i := 10) (by rfl))) (fun _ h9 => h9) rfl hin rfl (by decide +kernel) rfl rfl (Nat.le_of_ble_eq_true rfl) dX1_init_55 (fun H locs hP hD hS => ?_)
      have hP : va_P D vwCl ([(k0, .inr (1, [.int n, .int a, .int b, .int c1, .int d, .int e1, .int 0, .int 0]))]) H := hP
      have hD : va_D A ([(k0, .inr (1, [.int n, .int a, .int b, .int c1, .int d, .int e1, .int 0, .int 0]))]) := hD
      refine lv_aload_n hx hb dX1_init_58 rfl (lv_at hl 0 rfl) ?_
      refine lv_iload hx hb dX1_init_59 (lv_at hl 7 rfl) ?_
      refine lv_iconst (v := 2) hx hb dX1_init_61 (by decide) ?_
      refine lv_icmp_eq (tgt := 71) hx hb dX1_init_62 (by decide) (fun c_92 => ?_) (fun c_92 => ?_)
      · have h_b := True.intro
        refine lv_iconst (v := 1) hx hb dX1_init_71 (by decide) ?_
        refine lv_goto (tgt := 76) hx hb dX1_init_72 (by decide) ?_
        refine va_putF (D := D) (ci := 1) (v := .int 1) (ty := .boolean) (C := RX1) (T := TX1) (N := 8) hx hb hts (fun _ h9 => List.mem_cons_of_mem _ (List.mem_append_right _ h9)) tyX1 tyX1_ok nmX1 hown hK hP hD hS 0 rfl rfl 7 (by decide) (hts (.fieldLink RX1 32 "PalletStack$Kind" "needsDeck" "Z") (List.mem_of_getElem? (i := 11) (by rfl))) (fun _ h9 => h9) rfl hin rfl (by decide +kernel) rfl rfl (Nat.le_of_ble_eq_true rfl) dX1_init_76 (fun H locs hP hD hS => ?_)
        have hP : va_P D vwCl ([(k0, .inr (1, [.int n, .int a, .int b, .int c1, .int d, .int e1, .int 0, .int 1]))]) H := hP
        have hD : va_D A ([(k0, .inr (1, [.int n, .int a, .int b, .int c1, .int d, .int e1, .int 0, .int 1]))]) := hD
        exact W.vret hx hb hr (fun t ht hW => ⟨⟨(0, 1), rfl, True.intro, ⟨Nat.zero_le _, by rw [ht]; exact hP, va_K.moved hW.alike (hK.sub (tys' := []) [] rfl), hD⟩⟩, hS.F ht⟩) hS.2.2 dX1_init_79
      · have h_b := True.intro
        refine lv_iload hx hb dX1_init_65 (lv_at hl 7 rfl) ?_
        refine lv_iconst (v := 3) hx hb dX1_init_67 (by decide) ?_
        refine lv_icmp_ne (tgt := 75) hx hb dX1_init_68 (by decide) (fun c_93 => ?_) (fun c_93 => ?_)
        · have h_b := True.intro
          refine lv_iconst (v := 0) hx hb dX1_init_75 (by decide) ?_
          refine va_putF (D := D) (ci := 1) (v := .int 0) (ty := .boolean) (C := RX1) (T := TX1) (N := 8) hx hb hts (fun _ h9 => List.mem_cons_of_mem _ (List.mem_append_right _ h9)) tyX1 tyX1_ok nmX1 hown hK hP hD hS 0 rfl rfl 7 (by decide) (hts (.fieldLink RX1 32 "PalletStack$Kind" "needsDeck" "Z") (List.mem_of_getElem? (i := 11) (by rfl))) (fun _ h9 => h9) rfl hin rfl (by decide +kernel) rfl rfl (Nat.le_of_ble_eq_true rfl) dX1_init_76 (fun H locs hP hD hS => ?_)
          have hP : va_P D vwCl ([(k0, .inr (1, [.int n, .int a, .int b, .int c1, .int d, .int e1, .int 0, .int 0]))]) H := hP
          have hD : va_D A ([(k0, .inr (1, [.int n, .int a, .int b, .int c1, .int d, .int e1, .int 0, .int 0]))]) := hD
          exact W.vret hx hb hr (fun t ht hW => ⟨⟨(0, 0), rfl, True.intro, ⟨Nat.zero_le _, by rw [ht]; exact hP, va_K.moved hW.alike (hK.sub (tys' := []) [] rfl), hD⟩⟩, hS.F ht⟩) hS.2.2 dX1_init_79
        · have h_b := True.intro
          refine lv_iconst (v := 1) hx hb dX1_init_71 (by decide) ?_
          refine lv_goto (tgt := 76) hx hb dX1_init_72 (by decide) ?_
          refine va_putF (D := D) (ci := 1) (v := .int 1) (ty := .boolean) (C := RX1) (T := TX1) (N := 8) hx hb hts (fun _ h9 => List.mem_cons_of_mem _ (List.mem_append_right _ h9)) tyX1 tyX1_ok nmX1 hown hK hP hD hS 0 rfl rfl 7 (by decide) (hts (.fieldLink RX1 32 "PalletStack$Kind" "needsDeck" "Z") (List.mem_of_getElem? (i := 11) (by rfl))) (fun _ h9 => h9) rfl hin rfl (by decide +kernel) rfl rfl (Nat.le_of_ble_eq_true rfl) dX1_init_76 (fun H locs hP hD hS => ?_)
          have hP : va_P D vwCl ([(k0, .inr (1, [.int n, .int a, .int b, .int c1, .int d, .int e1, .int 0, .int 1]))]) H := hP
          have hD : va_D A ([(k0, .inr (1, [.int n, .int a, .int b, .int c1, .int d, .int e1, .int 0, .int 1]))]) := hD
          exact W.vret hx hb hr (fun t ht hW => ⟨⟨(0, 1), rfl, True.intro, ⟨Nat.zero_le _, by rw [ht]; exact hP, va_K.moved hW.alike (hK.sub (tys' := []) [] rfl), hD⟩⟩, hS.F ht⟩) hS.2.2 dX1_init_79
    · have h_b := True.intro
      refine lv_iconst (v := 1) hx hb dX1_init_50 (by decide) ?_
      refine lv_goto (tgt := 55) hx hb dX1_init_51 (by decide) ?_
      refine va_putF (D := D) (ci := 1) (v := .int 1) (ty := .boolean) (C := RX1) (T := TX1) (N := 8) hx hb hts (fun _ h9 => List.mem_cons_of_mem _ (List.mem_append_right _ h9)) tyX1 tyX1_ok nmX1 hown hK hP hD hS 0 rfl rfl 6 (by decide) (hts (.fieldLink RX1 28 "PalletStack$Kind" "canTurn" "Z") (List.mem_of_getElem? (i := 10) (by rfl))) (fun _ h9 => h9) rfl hin rfl (by decide +kernel) rfl rfl (Nat.le_of_ble_eq_true rfl) dX1_init_55 (fun H locs hP hD hS => ?_)
      have hP : va_P D vwCl ([(k0, .inr (1, [.int n, .int a, .int b, .int c1, .int d, .int e1, .int 1, .int 0]))]) H := hP
      have hD : va_D A ([(k0, .inr (1, [.int n, .int a, .int b, .int c1, .int d, .int e1, .int 1, .int 0]))]) := hD
      refine lv_aload_n hx hb dX1_init_58 rfl (lv_at hl 0 rfl) ?_
      refine lv_iload hx hb dX1_init_59 (lv_at hl 7 rfl) ?_
      refine lv_iconst (v := 2) hx hb dX1_init_61 (by decide) ?_
      refine lv_icmp_eq (tgt := 71) hx hb dX1_init_62 (by decide) (fun c_94 => ?_) (fun c_94 => ?_)
      · have h_b := True.intro
        refine lv_iconst (v := 1) hx hb dX1_init_71 (by decide) ?_
        refine lv_goto (tgt := 76) hx hb dX1_init_72 (by decide) ?_
        refine va_putF (D := D) (ci := 1) (v := .int 1) (ty := .boolean) (C := RX1) (T := TX1) (N := 8) hx hb hts (fun _ h9 => List.mem_cons_of_mem _ (List.mem_append_right _ h9)) tyX1 tyX1_ok nmX1 hown hK hP hD hS 0 rfl rfl 7 (by decide) (hts (.fieldLink RX1 32 "PalletStack$Kind" "needsDeck" "Z") (List.mem_of_getElem? (i := 11) (by rfl))) (fun _ h9 => h9) rfl hin rfl (by decide +kernel) rfl rfl (Nat.le_of_ble_eq_true rfl) dX1_init_76 (fun H locs hP hD hS => ?_)
        have hP : va_P D vwCl ([(k0, .inr (1, [.int n, .int a, .int b, .int c1, .int d, .int e1, .int 1, .int 1]))]) H := hP
        have hD : va_D A ([(k0, .inr (1, [.int n, .int a, .int b, .int c1, .int d, .int e1, .int 1, .int 1]))]) := hD
        exact W.vret hx hb hr (fun t ht hW => ⟨⟨(1, 1), rfl, True.intro, ⟨Nat.zero_le _, by rw [ht]; exact hP, va_K.moved hW.alike (hK.sub (tys' := []) [] rfl), hD⟩⟩, hS.F ht⟩) hS.2.2 dX1_init_79
      · have h_b := True.intro
        refine lv_iload hx hb dX1_init_65 (lv_at hl 7 rfl) ?_
        refine lv_iconst (v := 3) hx hb dX1_init_67 (by decide) ?_
        refine lv_icmp_ne (tgt := 75) hx hb dX1_init_68 (by decide) (fun c_95 => ?_) (fun c_95 => ?_)
        · have h_b := True.intro
          refine lv_iconst (v := 0) hx hb dX1_init_75 (by decide) ?_
          refine va_putF (D := D) (ci := 1) (v := .int 0) (ty := .boolean) (C := RX1) (T := TX1) (N := 8) hx hb hts (fun _ h9 => List.mem_cons_of_mem _ (List.mem_append_right _ h9)) tyX1 tyX1_ok nmX1 hown hK hP hD hS 0 rfl rfl 7 (by decide) (hts (.fieldLink RX1 32 "PalletStack$Kind" "needsDeck" "Z") (List.mem_of_getElem? (i := 11) (by rfl))) (fun _ h9 => h9) rfl hin rfl (by decide +kernel) rfl rfl (Nat.le_of_ble_eq_true rfl) dX1_init_76 (fun H locs hP hD hS => ?_)
          have hP : va_P D vwCl ([(k0, .inr (1, [.int n, .int a, .int b, .int c1, .int d, .int e1, .int 1, .int 0]))]) H := hP
          have hD : va_D A ([(k0, .inr (1, [.int n, .int a, .int b, .int c1, .int d, .int e1, .int 1, .int 0]))]) := hD
          exact W.vret hx hb hr (fun t ht hW => ⟨⟨(1, 0), rfl, True.intro, ⟨Nat.zero_le _, by rw [ht]; exact hP, va_K.moved hW.alike (hK.sub (tys' := []) [] rfl), hD⟩⟩, hS.F ht⟩) hS.2.2 dX1_init_79
        · have h_b := True.intro
          refine lv_iconst (v := 1) hx hb dX1_init_71 (by decide) ?_
          refine lv_goto (tgt := 76) hx hb dX1_init_72 (by decide) ?_
          refine va_putF (D := D) (ci := 1) (v := .int 1) (ty := .boolean) (C := RX1) (T := TX1) (N := 8) hx hb hts (fun _ h9 => List.mem_cons_of_mem _ (List.mem_append_right _ h9)) tyX1 tyX1_ok nmX1 hown hK hP hD hS 0 rfl rfl 7 (by decide) (hts (.fieldLink RX1 32 "PalletStack$Kind" "needsDeck" "Z") (List.mem_of_getElem? (i := 11) (by rfl))) (fun _ h9 => h9) rfl hin rfl (by decide +kernel) rfl rfl (Nat.le_of_ble_eq_true rfl) dX1_init_76 (fun H locs hP hD hS => ?_)
          have hP : va_P D vwCl ([(k0, .inr (1, [.int n, .int a, .int b, .int c1, .int d, .int e1, .int 1, .int 1]))]) H := hP
          have hD : va_D A ([(k0, .inr (1, [.int n, .int a, .int b, .int c1, .int d, .int e1, .int 1, .int 1]))]) := hD
          exact W.vret hx hb hr (fun t ht hW => ⟨⟨(1, 1), rfl, True.intro, ⟨Nat.zero_le _, by rw [ht]; exact hP, va_K.moved hW.alike (hK.sub (tys' := []) [] rfl), hD⟩⟩, hS.F ht⟩) hS.2.2 dX1_init_79
set_option maxHeartbeats 4000000 in
set_option maxRecDepth 100000 in
theorem c_addKind_ok (l : Launch) (D : zG) (sz : Nat) (o kA iA tA tr lA : Nat) (cK : ClassId) (a b c1 d e1 f : Int32) (h : (1 ≤ a ∧ a ≤ 6) ∧ (1 ≤ b ∧ b ≤ 6) ∧ (1 ≤ c1 ∧ c1 ≤ 8) ∧ (1 ≤ d ∧ d ≤ 500) ∧ (0 ≤ e1 ∧ e1 ≤ 5000) ∧ (0 ≤ f ∧ f ≤ 3)) : Met l yX3_addKind wsX3_addKind ({ frames := 2, cells := 1, slots := 8, locals := 60 }) (zPc D [(cK, .object RX1)] ([(o, .inr (3, [.ref kA, .int 0, .int 20, .int 60, .int 2000, .int 0, .ref iA, .int 0, .int 0, .int 0, .ref tA, .ref tr, .ref lA, .int 0])), (kA, .inl (cK, 10, .inr (.inr (.inr (.inr (fun _ => none))))))]) sz [.ref o, .int a, .int b, .int c1, .int d, .int e1, .int f]) (va_Qi (fun (r : Int32) (u : Unit) => r = 0) (zB D (va_A ([(o, .inr (3, [.ref kA, .int 0, .int 20, .int 60, .int 2000, .int 0, .ref iA, .int 0, .int 0, .int 0, .ref tA, .ref tr, .ref lA, .int 0])), (kA, .inl (cK, 10, .inr (.inr (.inr (.inr (fun _ => none))))))]) sz) (fun _ => []) 0 (fun _ => [])) (va_A ([(o, .inr (3, [.ref kA, .int 0, .int 20, .int 60, .int 2000, .int 0, .ref iA, .int 0, .int 0, .int 0, .ref tA, .ref tr, .ref lA, .int 0])), (kA, .inl (cK, 10, .inr (.inr (.inr (.inr (fun _ => none))))))]) sz)) 1 8 (va_A ([(o, .inr (3, [.ref kA, .int 0, .int 20, .int 60, .int 2000, .int 0, .ref iA, .int 0, .int 0, .int 0, .ref tA, .ref tr, .ref lA, .int 0])), (kA, .inl (cK, 10, .inr (.inr (.inr (.inr (fun _ => none))))))]) sz) := by
  refine Met.ofW (cc := cX3_addKind) (maxL := 8) (ret := (some .int)) (by decide) rfl ?_
  intro p e s m args below meth c s₁ B hml hv
  obtain ⟨rfl, hsz, hP, hK, hD0⟩ := hv
  have hx := B.exec
  have hb := B.bytes
  have hr := B.returns
  have hts := atoms_spec (ws := wsX3_addKind) B.pre
  have hown : s.vm.findClass RX3 = some m.cls := findClass_of_methodNamed B.named
  have hlocks := B.notSynchronized
  subst hsz
  have hD := hD0.self (sz := s.heap.size)
  generalize hAe : va_A ([(o, .inr (3, [.ref kA, .int 0, .int 20, .int 60, .int 2000, .int 0, .ref iA, .int 0, .int 0, .int 0, .ref tA, .ref tr, .ref lA, .int 0])), (kA, .inl (cK, 10, .inr (.inr (.inr (.inr (fun _ => none))))))]) s.heap.size = A at hD ⊢
  have hA : ∀ q : Nat, s.heap.size ≤ q → A q := fun q h => by rw [← hAe]; exact Or.inr h
  have hS : va_S A s.heap s.heap [] := va_S.rf
  have hl := lv_entry ([.ref o, .int a, .int b, .int c1, .int d, .int e1, .int f]) (n := 8) (Nat.le_of_ble_eq_true rfl)
  rw [lg_entry_eq]
  generalize (lg_sl ([.ref o, .int a, .int b, .int c1, .int d, .int e1, .int f]) ++ List.replicate (8 - (lg_sl ([.ref o, .int a, .int b, .int c1, .int d, .int e1, .int f])).length) Slot.unset).toArray = ls at hl ⊢
  have hl : lv_has ls 8 [(0, .ref o), (1, .int a), (2, .int b), (3, .int c1), (4, .int d), (5, .int e1), (6, .int f)] := hl
  have hP : va_P D vwCl ([(o, .inr (3, [.ref kA, .int 0, .int 20, .int 60, .int 2000, .int 0, .ref iA, .int 0, .int 0, .int 0, .ref tA, .ref tr, .ref lA, .int 0])), (kA, .inl (cK, 10, .inr (.inr (.inr (.inr (fun _ => none))))))]) s.heap := hP
  generalize hRe : (headSpec _ _).room = R
  have hRf : R.frames = 2 := by rw [← hRe]; rfl
  have hRc : R.cells = 1 := by rw [← hRe]; rfl
  have hRs : R.slots = 8 := by rw [← hRe]; rfl
  have hRl : R.locals = 60 := by rw [← hRe]; rfl
  clear hRe
  refine lv_iload_n hx hb dX3_addKind_0 rfl (lv_at hl 1 rfl) ?_
  refine lv_iconst (v := 1) hx hb dX3_addKind_1 (by decide) ?_
  refine lv_bipush (v := 6) hx hb dX3_addKind_2 (by decide) ?_
  refine zrdS (As := [.int a, .int 1, .int 6]) (rest := []) (wc := []) ⟨hx, hb, hml, hown, hts⟩ (c_isWithin l D _ a 1 6) (va_cwS 3 hts gX3_addKind_X3_isWithin rfl rfl rfl (by decide +kernel) ⟨by rw [hRf]; exact Nat.le_of_ble_eq_true rfl, by rw [hRl]; exact Nat.le_of_ble_eq_true rfl⟩) hK hP hD [] rfl (by decide) [] rfl rfl hl.1 rfl (Nat.le_of_ble_eq_true rfl) dX3_addKind_4 ⟨by omega, by omega⟩ (fun r_96 hr_96 => ?_)
  refine lv_topi (fun v_97 ev_97 => ?_)
  obtain rfl : v_97 = 1 := ev_97.trans (hr_96.trans (if_pos h.1))
  refine lv_if_eq (tgt := 64) hx hb dX3_addKind_7 (by decide) (fun c_98 => absurd c_98 (by decide)) (fun c_98 => ?_)
  refine lv_iload_n hx hb dX3_addKind_10 rfl (lv_at hl 2 rfl) ?_
  refine lv_iconst (v := 1) hx hb dX3_addKind_11 (by decide) ?_
  refine lv_bipush (v := 6) hx hb dX3_addKind_12 (by decide) ?_
  refine zrdS (As := [.int b, .int 1, .int 6]) (rest := []) (wc := []) ⟨hx, hb, hml, hown, hts⟩ (c_isWithin l D _ b 1 6) (va_cwS 3 hts gX3_addKind_X3_isWithin rfl rfl rfl (by decide +kernel) ⟨by rw [hRf]; exact Nat.le_of_ble_eq_true rfl, by rw [hRl]; exact Nat.le_of_ble_eq_true rfl⟩) hK hP hD [] rfl (by decide) [] rfl rfl hl.1 rfl (Nat.le_of_ble_eq_true rfl) dX3_addKind_14 ⟨by omega, by omega⟩ (fun r_99 hr_99 => ?_)
  refine lv_topi (fun v_100 ev_100 => ?_)
  obtain rfl : v_100 = 1 := ev_100.trans (hr_99.trans (if_pos h.2.1))
  refine lv_if_eq (tgt := 64) hx hb dX3_addKind_17 (by decide) (fun c_101 => absurd c_101 (by decide)) (fun c_101 => ?_)
  refine lv_iload_n hx hb dX3_addKind_20 rfl (lv_at hl 3 rfl) ?_
  refine lv_iconst (v := 1) hx hb dX3_addKind_21 (by decide) ?_
  refine lv_bipush (v := 8) hx hb dX3_addKind_22 (by decide) ?_
  refine zrdS (As := [.int c1, .int 1, .int 8]) (rest := []) (wc := []) ⟨hx, hb, hml, hown, hts⟩ (c_isWithin l D _ c1 1 8) (va_cwS 3 hts gX3_addKind_X3_isWithin rfl rfl rfl (by decide +kernel) ⟨by rw [hRf]; exact Nat.le_of_ble_eq_true rfl, by rw [hRl]; exact Nat.le_of_ble_eq_true rfl⟩) hK hP hD [] rfl (by decide) [] rfl rfl hl.1 rfl (Nat.le_of_ble_eq_true rfl) dX3_addKind_24 ⟨by omega, by omega⟩ (fun r_102 hr_102 => ?_)
  refine lv_topi (fun v_103 ev_103 => ?_)
  obtain rfl : v_103 = 1 := ev_103.trans (hr_102.trans (if_pos h.2.2.1))
  refine lv_if_eq (tgt := 64) hx hb dX3_addKind_27 (by decide) (fun c_104 => absurd c_104 (by decide)) (fun c_104 => ?_)
  refine lv_iload hx hb dX3_addKind_30 (lv_at hl 4 rfl) ?_
  refine lv_iconst (v := 1) hx hb dX3_addKind_32 (by decide) ?_
  refine lv_sipush (v := 500) hx hb dX3_addKind_33 (by decide) ?_
  refine zrdS (As := [.int d, .int 1, .int 500]) (rest := []) (wc := []) ⟨hx, hb, hml, hown, hts⟩ (c_isWithin l D _ d 1 500) (va_cwS 3 hts gX3_addKind_X3_isWithin rfl rfl rfl (by decide +kernel) ⟨by rw [hRf]; exact Nat.le_of_ble_eq_true rfl, by rw [hRl]; exact Nat.le_of_ble_eq_true rfl⟩) hK hP hD [] rfl (by decide) [] rfl rfl hl.1 rfl (Nat.le_of_ble_eq_true rfl) dX3_addKind_36 ⟨by omega, by omega⟩ (fun r_105 hr_105 => ?_)
  refine lv_topi (fun v_106 ev_106 => ?_)
  obtain rfl : v_106 = 1 := ev_106.trans (hr_105.trans (if_pos h.2.2.2.1))
  refine lv_if_eq (tgt := 64) hx hb dX3_addKind_39 (by decide) (fun c_107 => absurd c_107 (by decide)) (fun c_107 => ?_)
  refine lv_iload hx hb dX3_addKind_42 (lv_at hl 5 rfl) ?_
  refine lv_iconst (v := 0) hx hb dX3_addKind_44 (by decide) ?_
  refine lv_sipush (v := 5000) hx hb dX3_addKind_45 (by decide) ?_
  refine zrdS (As := [.int e1, .int 0, .int 5000]) (rest := []) (wc := []) ⟨hx, hb, hml, hown, hts⟩ (c_isWithin l D _ e1 0 5000) (va_cwS 3 hts gX3_addKind_X3_isWithin rfl rfl rfl (by decide +kernel) ⟨by rw [hRf]; exact Nat.le_of_ble_eq_true rfl, by rw [hRl]; exact Nat.le_of_ble_eq_true rfl⟩) hK hP hD [] rfl (by decide) [] rfl rfl hl.1 rfl (Nat.le_of_ble_eq_true rfl) dX3_addKind_48 ⟨by omega, by omega⟩ (fun r_108 hr_108 => ?_)
  refine lv_topi (fun v_109 ev_109 => ?_)
  obtain rfl : v_109 = 1 := ev_109.trans (hr_108.trans (if_pos h.2.2.2.2.1))
  refine lv_if_eq (tgt := 64) hx hb dX3_addKind_51 (by decide) (fun c_110 => absurd c_110 (by decide)) (fun c_110 => ?_)
  refine lv_iload hx hb dX3_addKind_54 (lv_at hl 6 rfl) ?_
  refine lv_iconst (v := 0) hx hb dX3_addKind_56 (by decide) ?_
  refine lv_iconst (v := 3) hx hb dX3_addKind_57 (by decide) ?_
  refine zrdS (As := [.int f, .int 0, .int 3]) (rest := []) (wc := []) ⟨hx, hb, hml, hown, hts⟩ (c_isWithin l D _ f 0 3) (va_cwS 3 hts gX3_addKind_X3_isWithin rfl rfl rfl (by decide +kernel) ⟨by rw [hRf]; exact Nat.le_of_ble_eq_true rfl, by rw [hRl]; exact Nat.le_of_ble_eq_true rfl⟩) hK hP hD [] rfl (by decide) [] rfl rfl hl.1 rfl (Nat.le_of_ble_eq_true rfl) dX3_addKind_58 ⟨by omega, by omega⟩ (fun r_111 hr_111 => ?_)
  refine lv_topi (fun v_112 ev_112 => ?_)
  obtain rfl : v_112 = 1 := ev_112.trans (hr_111.trans (if_pos h.2.2.2.2.2))
  refine lv_if_ne (tgt := 72) hx hb dX3_addKind_61 (by decide) (fun c_113 => ?_) (fun c_113 => absurd c_113 (by decide))
  refine lv_aload_n hx hb dX3_addKind_72 rfl (lv_at hl 0 rfl) ?_
  refine va_get (D := D) (ci := 3) (v := .int 0) (C := RX3) (T := TX3) (N := 14) hx hb hts (fun _ h9 => List.mem_cons_of_mem _ (List.mem_append_left _ (List.mem_append_left _ (List.mem_append_left _ (List.mem_append_right _ h9))))) hown hK hP 0 rfl rfl 1 (by decide) (hts (.fieldLink RX3 15 "PalletStack" "kindCount" "I") (List.mem_of_getElem? (i := 5) (by rfl))) (fun _ h9 => h9) rfl dX3_addKind_73 ?_
  refine lv_if_lt (tgt := 88) hx hb dX3_addKind_76 (by decide) (fun c_114 => absurd c_114 (by decide)) (fun c_114 => ?_)
  refine lv_aload_n hx hb dX3_addKind_79 rfl (lv_at hl 0 rfl) ?_
  refine va_get (D := D) (ci := 3) (v := .int 0) (C := RX3) (T := TX3) (N := 14) hx hb hts (fun _ h9 => List.mem_cons_of_mem _ (List.mem_append_left _ (List.mem_append_left _ (List.mem_append_left _ (List.mem_append_right _ h9))))) hown hK hP 0 rfl rfl 1 (by decide) (hts (.fieldLink RX3 15 "PalletStack" "kindCount" "I") (List.mem_of_getElem? (i := 5) (by rfl))) (fun _ h9 => h9) rfl dX3_addKind_80 ?_
  refine lv_bipush (v := 10) hx hb dX3_addKind_83 (by decide) ?_
  refine lv_icmp_lt (tgt := 96) hx hb dX3_addKind_85 (by decide) (fun c_115 => ?_) (fun c_115 => absurd (by decide) c_115)
  refine lv_aload_n hx hb dX3_addKind_96 rfl (lv_at hl 0 rfl) ?_
  refine va_get (D := D) (ci := 3) (v := .int 0) (C := RX3) (T := TX3) (N := 14) hx hb hts (fun _ h9 => List.mem_cons_of_mem _ (List.mem_append_left _ (List.mem_append_left _ (List.mem_append_left _ (List.mem_append_right _ h9))))) hown hK hP 0 rfl rfl 1 (by decide) (hts (.fieldLink RX3 15 "PalletStack" "kindCount" "I") (List.mem_of_getElem? (i := 5) (by rfl))) (fun _ h9 => h9) rfl dX3_addKind_97 ?_
  refine lv_istore (lv' := [(7, .int 0), (0, .ref o), (1, .int a), (2, .int b), (3, .int c1), (4, .int d), (5, .int e1), (6, .int f)]) hx hb dX3_addKind_100 hl (by decide) rfl (fun ls hl => ?_)
  refine lv_aload_n hx hb dX3_addKind_102 rfl (lv_at hl 1 rfl) ?_
  refine va_get (D := D) (ci := 3) (v := .ref kA) (C := RX3) (T := TX3) (N := 14) hx hb hts (fun _ h9 => List.mem_cons_of_mem _ (List.mem_append_left _ (List.mem_append_left _ (List.mem_append_left _ (List.mem_append_right _ h9))))) hown hK hP 0 rfl rfl 0 (by decide) (hts (.fieldLink RX3 11 "PalletStack" "kinds" "[LPalletStack$Kind;") (List.mem_of_getElem? (i := 6) (by rfl))) (fun _ h9 => h9) rfl dX3_addKind_103 ?_
  refine lv_iload hx hb dX3_addKind_106 (lv_at hl 0 rfl) ?_
  refine va_new (D := D) (ci := 1) (fs := [.int 0, .int 0, .int 0, .int 0, .int 0, .int 0, .int 0, .int 0]) (C := RX1) (T := TX1) (N := 8) hx hb hts (fun _ h9 => List.mem_cons_of_mem _ (List.mem_append_left _ (List.mem_append_left _ (List.mem_append_right _ h9)))) tyX1 tyX1_ok hown (hts (.classLink RX3 9 RX1) (List.mem_of_getElem? (i := 7) (by rfl))) (hts (.instantiable RX1 8) (List.mem_of_getElem? (i := 8) (by rfl))) (hts (.initialized RX1) (List.mem_of_getElem? (i := 9) (by rfl))) hK hP hD hS hA rfl (fun j hj => by rcases (show j = 0 ∨ j = 1 ∨ j = 2 ∨ j = 3 ∨ j = 4 ∨ j = 5 ∨ j = 6 ∨ j = 7 by omega) with rfl | rfl | rfl | rfl | rfl | rfl | rfl | rfl <;> rfl) (by omega) (by omega) dX3_addKind_108 (fun q_116 H hP hD hS => ?_)
  have hP : va_P D vwCl ([(o, .inr (3, [.ref kA, .int 0, .int 20, .int 60, .int 2000, .int 0, .ref iA, .int 0, .int 0, .int 0, .ref tA, .ref tr, .ref lA, .int 0])), (kA, .inl (cK, 10, .inr (.inr (.inr (.inr (fun _ => none)))))), (q_116, .inr (1, [.int 0, .int 0, .int 0, .int 0, .int 0, .int 0, .int 0, .int 0]))]) H := hP
  have hD : va_D A ([(o, .inr (3, [.ref kA, .int 0, .int 20, .int 60, .int 2000, .int 0, .ref iA, .int 0, .int 0, .int 0, .ref tA, .ref tr, .ref lA, .int 0])), (kA, .inl (cK, 10, .inr (.inr (.inr (.inr (fun _ => none)))))), (q_116, .inr (1, [.int 0, .int 0, .int 0, .int 0, .int 0, .int 0, .int 0, .int 0]))]) := hD
  refine lv_dup hx hb dX3_addKind_111 rfl ?_
  refine lv_iload hx hb dX3_addKind_112 (lv_at hl 0 rfl) ?_
  refine lv_iload_n hx hb dX3_addKind_114 rfl (lv_at hl 2 rfl) ?_
  refine lv_iload_n hx hb dX3_addKind_115 rfl (lv_at hl 3 rfl) ?_
  refine lv_iload_n hx hb dX3_addKind_116 rfl (lv_at hl 4 rfl) ?_
  refine lv_iload hx hb dX3_addKind_117 (lv_at hl 5 rfl) ?_
  refine lv_iload hx hb dX3_addKind_119 (lv_at hl 6 rfl) ?_
  refine lv_iload hx hb dX3_addKind_121 (lv_at hl 7 rfl) ?_
  refine zcallvI (As := [.int 0, .int a, .int b, .int c1, .int d, .int e1, .int f]) (rest := [.ref q_116, .int 0, .ref kA]) (wc := [(q_116, .inr (1, [.int 0, .int 0, .int 0, .int 0, .int 0, .int 0, .int 0, .int 0]))]) (wr := [(o, .inr (3, [.ref kA, .int 0, .int 20, .int 60, .int 2000, .int 0, .ref iA, .int 0, .int 0, .int 0, .ref tA, .ref tr, .ref lA, .int 0])), (kA, .inl (cK, 10, .inr (.inr (.inr (.inr (fun _ => none))))))]) ⟨hx, hb, hml, hown, hts⟩ (c_Kind_init l D _ q_116 0 a b c1 d e1 f) (⟨callB_of 7 hts gX3_addKind_X1_init rfl rfl rfl (hts (.initialized RX1) (List.mem_of_getElem? (i := 9) (by rfl))) (hts (.methodLink RX3 75 yX1_init) (List.mem_of_getElem? (i := 14) (by rfl))) (by decide +kernel) ⟨by rw [hRf]; exact Nat.le_of_ble_eq_true rfl, by rw [hRl]; exact Nat.le_of_ble_eq_true rfl⟩, rfl, (hts (.instanceMethod yX1_init) (List.mem_of_getElem? (i := 15) (by rfl)))⟩) hK hP hD hS hA [2] [0, 1] rfl (by decide) rfl (by decide) (by decide) [] rfl rfl hl.1 rfl (Nat.le_of_ble_eq_true rfl) dX3_addKind_123 ⟨by omega, by omega⟩ (fun u_118 H locs hwu_118 hnu_118 hzu_118 hK hP hD hS => ?_)
  have hK : va_K D vwCl [(cK, .object RX1)] s := hK
  have hP : va_P D vwCl ([(o, .inr (3, [.ref kA, .int 0, .int 20, .int 60, .int 2000, .int 0, .ref iA, .int 0, .int 0, .int 0, .ref tA, .ref tr, .ref lA, .int 0])), (kA, .inl (cK, 10, .inr (.inr (.inr (.inr (fun _ => none)))))), (q_116, .inr (1, [.int 0, .int a, .int b, .int c1, .int d, .int e1, .int u_118.1, .int u_118.2]))]) H := hP
  have hD : va_D A ([(o, .inr (3, [.ref kA, .int 0, .int 20, .int 60, .int 2000, .int 0, .ref iA, .int 0, .int 0, .int 0, .ref tA, .ref tr, .ref lA, .int 0])), (kA, .inl (cK, 10, .inr (.inr (.inr (.inr (fun _ => none)))))), (q_116, .inr (1, [.int 0, .int a, .int b, .int c1, .int d, .int e1, .int u_118.1, .int u_118.2]))]) := hD
  refine va_astq hx hb hK hP hD hS 1 0 2 1 rfl rfl rfl rfl (vp_in_nI (n := 0) (N := 10) (by decide) (by decide)) dX3_addKind_126 (fun H locs hP hD hS => ?_)
  have hP : va_P D vwCl ([(o, .inr (3, [.ref kA, .int 0, .int 20, .int 60, .int 2000, .int 0, .ref iA, .int 0, .int 0, .int 0, .ref tA, .ref tr, .ref lA, .int 0])), (kA, .inl (cK, 10, .inr (.inr (.inr (.inr (va_up (fun _ => none) 0 (some q_116))))))), (q_116, .inr (1, [.int 0, .int a, .int b, .int c1, .int d, .int e1, .int u_118.1, .int u_118.2]))]) H := hP
  have hD : va_D A ([(o, .inr (3, [.ref kA, .int 0, .int 20, .int 60, .int 2000, .int 0, .ref iA, .int 0, .int 0, .int 0, .ref tA, .ref tr, .ref lA, .int 0])), (kA, .inl (cK, 10, .inr (.inr (.inr (.inr (va_up (fun _ => none) 0 (some q_116))))))), (q_116, .inr (1, [.int 0, .int a, .int b, .int c1, .int d, .int e1, .int u_118.1, .int u_118.2]))]) := hD
  refine lv_aload_n hx hb dX3_addKind_127 rfl (lv_at hl 1 rfl) ?_
  refine lv_iload hx hb dX3_addKind_128 (lv_at hl 0 rfl) ?_
  refine lv_iconst (v := 1) hx hb dX3_addKind_130 (by decide) ?_
  refine lv_iadd hx hb dX3_addKind_131 ?_
  refine va_put (D := D) (ci := 3) (v := .int (0 + 1)) (ty := .int) (C := RX3) (T := TX3) (N := 14) hx hb hts (fun _ h9 => List.mem_cons_of_mem _ (List.mem_append_left _ (List.mem_append_left _ (List.mem_append_left _ (List.mem_append_right _ h9))))) tyX3 tyX3_ok nmX3 hown hK hP hD hS 0 rfl rfl 1 (by decide) (hts (.fieldLink RX3 15 "PalletStack" "kindCount" "I") (List.mem_of_getElem? (i := 5) (by rfl))) (fun _ h9 => h9) rfl (by decide +kernel) rfl rfl (Nat.le_of_ble_eq_true rfl) dX3_addKind_132 (fun H locs hP hD hS => ?_)
  have hP : va_P D vwCl ([(o, .inr (3, [.ref kA, .int (0 + 1), .int 20, .int 60, .int 2000, .int 0, .ref iA, .int 0, .int 0, .int 0, .ref tA, .ref tr, .ref lA, .int 0])), (kA, .inl (cK, 10, .inr (.inr (.inr (.inr (va_up (fun _ => none) 0 (some q_116))))))), (q_116, .inr (1, [.int 0, .int a, .int b, .int c1, .int d, .int e1, .int u_118.1, .int u_118.2]))]) H := hP
  have hD : va_D A ([(o, .inr (3, [.ref kA, .int (0 + 1), .int 20, .int 60, .int 2000, .int 0, .ref iA, .int 0, .int 0, .int 0, .ref tA, .ref tr, .ref lA, .int 0])), (kA, .inl (cK, 10, .inr (.inr (.inr (.inr (va_up (fun _ => none) 0 (some q_116))))))), (q_116, .inr (1, [.int 0, .int a, .int b, .int c1, .int d, .int e1, .int u_118.1, .int u_118.2]))]) := hD
  refine lv_iload hx hb dX3_addKind_135 (lv_at hl 0 rfl) ?_
  refine W.widen (k := 1) (n := 8) (by omega) (by omega) ?_
  have hP := hP.sub (ws' := []) [] rfl
  have hD := hD.sub (ws' := []) [] (by decide) rfl
  exact W.iret (v := 0) hx hb hr (fun t ht hW => ⟨⟨0, (), rfl, rfl, ⟨Nat.zero_le _, by rw [ht]; exact hP, va_K.moved hW.alike (hK.sub (tys' := []) [] rfl), hD⟩⟩, hS.F ht⟩) hS.2.2 dX3_addKind_137
set_option maxHeartbeats 4000000 in
set_option maxRecDepth 100000 in
theorem c_layAllTops0 (l : Launch) (D : zG) (sz : Nat) (o kA iA tA tr lA : Nat) (cT : ClassId) (t0 : Nat → Int32) : Met l yX3_layAllTops wsX3_layAllTops ({ frames := 1, cells := 0, slots := 0, locals := 30 }) (zPc D [(cT, .int)] ([(o, .inr (3, [.ref kA, .int 0, .int 20, .int 60, .int 2000, .int 0, .ref iA, .int 0, .int 0, .int 0, .ref tA, .ref tr, .ref lA, .int 0])), (tA, .inl (cT, 120, .inl (t0)))]) sz [.ref o]) (va_Qv (fun (u : Unit) => True) (zB D (va_A ([(o, .inr (3, [.ref kA, .int 0, .int 20, .int 60, .int 2000, .int 0, .ref iA, .int 0, .int 0, .int 0, .ref tA, .ref tr, .ref lA, .int 0])), (tA, .inl (cT, 120, .inl (t0)))]) sz) (fun _ => []) 0 (fun _ => [])) (va_A ([(o, .inr (3, [.ref kA, .int 0, .int 20, .int 60, .int 2000, .int 0, .ref iA, .int 0, .int 0, .int 0, .ref tA, .ref tr, .ref lA, .int 0])), (tA, .inl (cT, 120, .inl (t0)))]) sz)) 0 0 (va_A ([(o, .inr (3, [.ref kA, .int 0, .int 20, .int 60, .int 2000, .int 0, .ref iA, .int 0, .int 0, .int 0, .ref tA, .ref tr, .ref lA, .int 0])), (tA, .inl (cT, 120, .inl (t0)))]) sz) := by
  refine Met.ofW (cc := cX3_layAllTops) (maxL := 3) (ret := none) (by decide) rfl ?_
  intro p e s m args below meth c s₁ B hml hv
  obtain ⟨rfl, hsz, hP, hK, hD0⟩ := hv
  have hx := B.exec
  have hb := B.bytes
  have hr := B.returns
  have hts := atoms_spec (ws := wsX3_layAllTops) B.pre
  have hown : s.vm.findClass RX3 = some m.cls := findClass_of_methodNamed B.named
  have hlocks := B.notSynchronized
  subst hsz
  have hD := hD0.self (sz := s.heap.size)
  generalize hAe : va_A ([(o, .inr (3, [.ref kA, .int 0, .int 20, .int 60, .int 2000, .int 0, .ref iA, .int 0, .int 0, .int 0, .ref tA, .ref tr, .ref lA, .int 0])), (tA, .inl (cT, 120, .inl (t0)))]) s.heap.size = A at hD ⊢
  have hA : ∀ q : Nat, s.heap.size ≤ q → A q := fun q h => by rw [← hAe]; exact Or.inr h
  have hS : va_S A s.heap s.heap [] := va_S.rf
  have hl := lv_entry ([.ref o]) (n := 3) (Nat.le_of_ble_eq_true rfl)
  rw [lg_entry_eq]
  generalize (lg_sl ([.ref o]) ++ List.replicate (3 - (lg_sl ([.ref o])).length) Slot.unset).toArray = ls at hl ⊢
  have hl : lv_has ls 3 [(0, .ref o)] := hl
  have hP : va_P D vwCl ([(o, .inr (3, [.ref kA, .int 0, .int 20, .int 60, .int 2000, .int 0, .ref iA, .int 0, .int 0, .int 0, .ref tA, .ref tr, .ref lA, .int 0])), (tA, .inl (cT, 120, .inl (t0)))]) s.heap := hP
  generalize hRe : (headSpec _ _).room = R
  have hRf : R.frames = 1 := by rw [← hRe]; rfl
  have hRc : R.cells = 0 := by rw [← hRe]; rfl
  have hRs : R.slots = 0 := by rw [← hRe]; rfl
  have hRl : R.locals = 30 := by rw [← hRe]; rfl
  clear hRe
  refine lv_iconst (v := 0) hx hb dX3_layAllTops_0 (by decide) ?_
  refine lv_istore_n (lv' := [(1, .int 0), (0, .ref o)]) hx hb dX3_layAllTops_1 rfl hl (by decide) rfl (fun ls hl => ?_)
  generalize hQe : MQ _ _ _ _ _ _ _ = Q
  have loop : ∀ (k i : Nat), i + k = 120 → ∀ (t0 : Nat → Int32) (H : Heap) (locs : List Loc) (ls : Array Slot), va_P D vwCl ([(o, .inr (3, [.ref kA, .int 0, .int 20, .int 60, .int 2000, .int 0, .ref iA, .int 0, .int 0, .int 0, .ref tA, .ref tr, .ref lA, .int 0])), (tA, .inl (cT, 120, .inl (t0)))]) H → va_D A ([(o, .inr (3, [.ref kA, .int 0, .int 20, .int 60, .int 2000, .int 0, .ref iA, .int 0, .int 0, .int 0, .ref tA, .ref tr, .ref lA, .int 0])), (tA, .inl (cT, 120, .inl (t0)))]) → va_S A s.heap H locs → lv_has ls 3 [(1, .int (nI i)), (0, .ref o)] → W p l e R s m ([.ref o] : List Value).toArray below meth c H locs 0 0 Q (F0 m 2 ls []) := by
    intro k
    induction k with
    | zero =>
      intro i hi t0 H locs ls hP hD hS hl
      obtain rfl : i = 120 := by omega
      refine lv_iload_n hx hb dX3_layAllTops_2 rfl (lv_at hl 0 rfl) ?_
      refine lv_bipush (v := 120) hx hb dX3_layAllTops_3 (by decide) ?_
      refine lv_icmp_ge (tgt := 21) hx hb dX3_layAllTops_5 (by decide) (fun c_119 => ?_) (fun c_119 => absurd (by decide) c_119)
      refine lv_iconst (v := 0) hx hb dX3_layAllTops_21 (by decide) ?_
      refine lv_istore_n (lv' := [(1, .int 0), (0, .ref o)]) hx hb dX3_layAllTops_22 rfl hl (by decide) rfl (fun ls hl => ?_)
      refine lv_iload_n hx hb dX3_layAllTops_23 rfl (lv_at hl 0 rfl) ?_
      refine lv_aload_n hx hb dX3_layAllTops_24 rfl (lv_at hl 1 rfl) ?_
      refine va_get (D := D) (ci := 3) (v := .int 0) (C := RX3) (T := TX3) (N := 14) hx hb hts (fun _ h9 => List.mem_cons_of_mem _ (List.mem_append_left _ (List.mem_append_right _ h9))) hown hK hP 0 rfl rfl 7 (by decide) (hts (.fieldLink RX3 38 "PalletStack" "cameCount" "I") (List.mem_of_getElem? (i := 2) (by rfl))) (fun _ h9 => h9) rfl dX3_layAllTops_25 ?_
      refine lv_icmp_ge (tgt := 52) hx hb dX3_layAllTops_28 (by decide) (fun c_120 => ?_) (fun c_120 => absurd (Int32.le_refl _) c_120)
      have hP := hP.sub (ws' := []) [] rfl
      have hD := hD.sub (ws' := []) [] (by decide) rfl
      rw [← hQe]
      exact W.vret hx hb hr (fun t ht hW => ⟨⟨(), rfl, True.intro, ⟨Nat.zero_le _, by rw [ht]; exact hP, va_K.moved hW.alike (hK.sub (tys' := []) [] rfl), hD⟩⟩, hS.F ht⟩) hS.2.2 dX3_layAllTops_52
    | succ k ih =>
      intro i hi t0 H locs ls hP hD hS hl
      refine lv_iload_n hx hb dX3_layAllTops_2 rfl (lv_at hl 0 rfl) ?_
      refine lv_bipush (v := 120) hx hb dX3_layAllTops_3 (by decide) ?_
      refine lv_icmp_ge (tgt := 21) hx hb dX3_layAllTops_5 (by decide) (fun c_121 => absurd c_121 (nI_ge (b := 120) (by omega) (by decide))) (fun c_121 => ?_)
      refine lv_aload_n hx hb dX3_layAllTops_8 rfl (lv_at hl 1 rfl) ?_
      refine va_get (D := D) (ci := 3) (v := .ref tA) (C := RX3) (T := TX3) (N := 14) hx hb hts (fun _ h9 => List.mem_cons_of_mem _ (List.mem_append_left _ (List.mem_append_right _ h9))) hown hK hP 0 rfl rfl 10 (by decide) (hts (.fieldLink RX3 47 "PalletStack" "tops" "[I") (List.mem_of_getElem? (i := 1) (by rfl))) (fun _ h9 => h9) rfl dX3_layAllTops_9 ?_
      refine lv_iload_n hx hb dX3_layAllTops_12 rfl (lv_at hl 0 rfl) ?_
      refine lv_iconst (v := 0) hx hb dX3_layAllTops_13 (by decide) ?_
      refine va_iast hx hb hK hP hD hS 1 0 rfl rfl (vp_in_nI (N := 120) (by omega) (by decide)) dX3_layAllTops_14 (fun H locs hP hD hS => ?_)
      have hP : va_P D vwCl ([(o, .inr (3, [.ref kA, .int 0, .int 20, .int 60, .int 2000, .int 0, .ref iA, .int 0, .int 0, .int 0, .ref tA, .ref tr, .ref lA, .int 0])), (tA, .inl (cT, 120, .inl (upd (t0) ((nI i) : Int32).toNatClampNeg 0)))]) H := hP
      have hD : va_D A ([(o, .inr (3, [.ref kA, .int 0, .int 20, .int 60, .int 2000, .int 0, .ref iA, .int 0, .int 0, .int 0, .ref tA, .ref tr, .ref lA, .int 0])), (tA, .inl (cT, 120, .inl (upd (t0) ((nI i) : Int32).toNatClampNeg 0)))]) := hD
      refine lv_iinc (v := (nI (i + 1))) (lv' := [(1, .int (nI (i + 1))), (0, .ref o)]) hx hb dX3_layAllTops_15 hl (k := 0) rfl (nI_1 i) (by decide) rfl (fun ls hl => ?_)
      refine lv_goto (tgt := 2) hx hb dX3_layAllTops_18 (by decide) ?_
      have hl := lv_sub hl (l' := [(1, .int (nI (i + 1))), (0, .ref o)]) [0, 1] rfl
      exact ih (i + 1) (by omega) _ H locs ls hP hD hS hl
  exact loop 120 0 rfl t0 s.heap [] ls hP hD hS hl
set_option maxHeartbeats 4000000 in
set_option maxRecDepth 100000 in
theorem c_clear0 (l : Launch) (D : zG) (sz : Nat) (o kA iA tA tr lA : Nat) (cT : ClassId) : Met l yX3_clear wsX3_clear ({ frames := 2, cells := 0, slots := 0, locals := 60 }) (zPc D [(cT, .int)] ([(o, .inr (3, [.ref kA, .int 0, .int 20, .int 60, .int 2000, .int 0, .ref iA, .int 0, .int 0, .int 0, .ref tA, .ref tr, .ref lA, .int 0])), (tA, .inl (cT, 120, .inl (fun _ => 0)))]) sz [.ref o]) (va_Qi (fun (r : Int32) (u : Unit) => r = 0) (zB D (va_A ([(o, .inr (3, [.ref kA, .int 0, .int 20, .int 60, .int 2000, .int 0, .ref iA, .int 0, .int 0, .int 0, .ref tA, .ref tr, .ref lA, .int 0])), (tA, .inl (cT, 120, .inl (fun _ => 0)))]) sz) (fun _ => []) 0 (fun _ => [])) (va_A ([(o, .inr (3, [.ref kA, .int 0, .int 20, .int 60, .int 2000, .int 0, .ref iA, .int 0, .int 0, .int 0, .ref tA, .ref tr, .ref lA, .int 0])), (tA, .inl (cT, 120, .inl (fun _ => 0)))]) sz)) 0 0 (va_A ([(o, .inr (3, [.ref kA, .int 0, .int 20, .int 60, .int 2000, .int 0, .ref iA, .int 0, .int 0, .int 0, .ref tA, .ref tr, .ref lA, .int 0])), (tA, .inl (cT, 120, .inl (fun _ => 0)))]) sz) := by
  refine Met.ofW (cc := cX3_clear) (maxL := 4) (ret := (some .int)) (by decide) rfl ?_
  intro p e s m args below meth c s₁ B hml hv
  obtain ⟨rfl, hsz, hP, hK, hD0⟩ := hv
  have hx := B.exec
  have hb := B.bytes
  have hr := B.returns
  have hts := atoms_spec (ws := wsX3_clear) B.pre
  have hown : s.vm.findClass RX3 = some m.cls := findClass_of_methodNamed B.named
  have hlocks := B.notSynchronized
  subst hsz
  have hD := hD0.self (sz := s.heap.size)
  generalize hAe : va_A ([(o, .inr (3, [.ref kA, .int 0, .int 20, .int 60, .int 2000, .int 0, .ref iA, .int 0, .int 0, .int 0, .ref tA, .ref tr, .ref lA, .int 0])), (tA, .inl (cT, 120, .inl (fun _ => 0)))]) s.heap.size = A at hD ⊢
  have hA : ∀ q : Nat, s.heap.size ≤ q → A q := fun q h => by rw [← hAe]; exact Or.inr h
  have hS : va_S A s.heap s.heap [] := va_S.rf
  have hl := lv_entry ([.ref o]) (n := 4) (Nat.le_of_ble_eq_true rfl)
  rw [lg_entry_eq]
  generalize (lg_sl ([.ref o]) ++ List.replicate (4 - (lg_sl ([.ref o])).length) Slot.unset).toArray = ls at hl ⊢
  have hl : lv_has ls 4 [(0, .ref o)] := hl
  have hP : va_P D vwCl ([(o, .inr (3, [.ref kA, .int 0, .int 20, .int 60, .int 2000, .int 0, .ref iA, .int 0, .int 0, .int 0, .ref tA, .ref tr, .ref lA, .int 0])), (tA, .inl (cT, 120, .inl (fun _ => 0)))]) s.heap := hP
  generalize hRe : (headSpec _ _).room = R
  have hRf : R.frames = 2 := by rw [← hRe]; rfl
  have hRc : R.cells = 0 := by rw [← hRe]; rfl
  have hRs : R.slots = 0 := by rw [← hRe]; rfl
  have hRl : R.locals = 60 := by rw [← hRe]; rfl
  clear hRe
  refine lv_aload_n hx hb dX3_clear_0 rfl (lv_at hl 0 rfl) ?_
  refine va_get (D := D) (ci := 3) (v := .int 0) (C := RX3) (T := TX3) (N := 14) hx hb hts (fun _ h9 => List.mem_cons_of_mem _ (List.mem_append_left _ (List.mem_append_right _ h9))) hown hK hP 0 rfl rfl 8 (by decide) (hts (.fieldLink RX3 41 "PalletStack" "onPalletCount" "I") (List.mem_of_getElem? (i := 1) (by rfl))) (fun _ h9 => h9) rfl dX3_clear_1 ?_
  refine lv_istore_n (lv' := [(1, .int 0), (0, .ref o)]) hx hb dX3_clear_4 rfl hl (by decide) rfl (fun ls hl => ?_)
  refine lv_iconst (v := 0) hx hb dX3_clear_5 (by decide) ?_
  refine lv_istore_n (lv' := [(2, .int 0), (1, .int 0), (0, .ref o)]) hx hb dX3_clear_6 rfl hl (by decide) rfl (fun ls hl => ?_)
  refine lv_iload_n hx hb dX3_clear_7 rfl (lv_at hl 0 rfl) ?_
  refine lv_aload_n hx hb dX3_clear_8 rfl (lv_at hl 2 rfl) ?_
  refine va_get (D := D) (ci := 3) (v := .int 0) (C := RX3) (T := TX3) (N := 14) hx hb hts (fun _ h9 => List.mem_cons_of_mem _ (List.mem_append_left _ (List.mem_append_right _ h9))) hown hK hP 0 rfl rfl 7 (by decide) (hts (.fieldLink RX3 38 "PalletStack" "cameCount" "I") (List.mem_of_getElem? (i := 2) (by rfl))) (fun _ h9 => h9) rfl dX3_clear_9 ?_
  refine lv_icmp_ge (tgt := 36) hx hb dX3_clear_12 (by decide) (fun c_122 => ?_) (fun c_122 => absurd (Int32.le_refl _) c_122)
  refine lv_aload_n hx hb dX3_clear_36 rfl (lv_at hl 2 rfl) ?_
  refine lv_iconst (v := 0) hx hb dX3_clear_37 (by decide) ?_
  refine va_put (D := D) (ci := 3) (v := .int 0) (ty := .int) (C := RX3) (T := TX3) (N := 14) hx hb hts (fun _ h9 => List.mem_cons_of_mem _ (List.mem_append_left _ (List.mem_append_right _ h9))) tyX3 tyX3_ok nmX3 hown hK hP hD hS 0 rfl rfl 7 (by decide) (hts (.fieldLink RX3 38 "PalletStack" "cameCount" "I") (List.mem_of_getElem? (i := 2) (by rfl))) (fun _ h9 => h9) rfl (by decide +kernel) rfl rfl (Nat.le_of_ble_eq_true rfl) dX3_clear_38 (fun H locs hP hD hS => ?_)
  have hP : va_P D vwCl ([(o, .inr (3, [.ref kA, .int 0, .int 20, .int 60, .int 2000, .int 0, .ref iA, .int 0, .int 0, .int 0, .ref tA, .ref tr, .ref lA, .int 0])), (tA, .inl (cT, 120, .inl (fun _ => 0)))]) H := hP
  have hD : va_D A ([(o, .inr (3, [.ref kA, .int 0, .int 20, .int 60, .int 2000, .int 0, .ref iA, .int 0, .int 0, .int 0, .ref tA, .ref tr, .ref lA, .int 0])), (tA, .inl (cT, 120, .inl (fun _ => 0)))]) := hD
  refine lv_aload_n hx hb dX3_clear_41 rfl (lv_at hl 2 rfl) ?_
  refine lv_iconst (v := 0) hx hb dX3_clear_42 (by decide) ?_
  refine va_put (D := D) (ci := 3) (v := .int 0) (ty := .int) (C := RX3) (T := TX3) (N := 14) hx hb hts (fun _ h9 => List.mem_cons_of_mem _ (List.mem_append_left _ (List.mem_append_right _ h9))) tyX3 tyX3_ok nmX3 hown hK hP hD hS 0 rfl rfl 8 (by decide) (hts (.fieldLink RX3 41 "PalletStack" "onPalletCount" "I") (List.mem_of_getElem? (i := 1) (by rfl))) (fun _ h9 => h9) rfl (by decide +kernel) rfl rfl (Nat.le_of_ble_eq_true rfl) dX3_clear_43 (fun H locs hP hD hS => ?_)
  have hP : va_P D vwCl ([(o, .inr (3, [.ref kA, .int 0, .int 20, .int 60, .int 2000, .int 0, .ref iA, .int 0, .int 0, .int 0, .ref tA, .ref tr, .ref lA, .int 0])), (tA, .inl (cT, 120, .inl (fun _ => 0)))]) H := hP
  have hD : va_D A ([(o, .inr (3, [.ref kA, .int 0, .int 20, .int 60, .int 2000, .int 0, .ref iA, .int 0, .int 0, .int 0, .ref tA, .ref tr, .ref lA, .int 0])), (tA, .inl (cT, 120, .inl (fun _ => 0)))]) := hD
  refine lv_aload_n hx hb dX3_clear_46 rfl (lv_at hl 2 rfl) ?_
  refine lv_iconst (v := 0) hx hb dX3_clear_47 (by decide) ?_
  refine va_put (D := D) (ci := 3) (v := .int 0) (ty := .int) (C := RX3) (T := TX3) (N := 14) hx hb hts (fun _ h9 => List.mem_cons_of_mem _ (List.mem_append_left _ (List.mem_append_right _ h9))) tyX3 tyX3_ok nmX3 hown hK hP hD hS 0 rfl rfl 9 (by decide) (hts (.fieldLink RX3 44 "PalletStack" "weightOnPallet" "I") (List.mem_of_getElem? (i := 4) (by rfl))) (fun _ h9 => h9) rfl (by decide +kernel) rfl rfl (Nat.le_of_ble_eq_true rfl) dX3_clear_48 (fun H locs hP hD hS => ?_)
  have hP : va_P D vwCl ([(o, .inr (3, [.ref kA, .int 0, .int 20, .int 60, .int 2000, .int 0, .ref iA, .int 0, .int 0, .int 0, .ref tA, .ref tr, .ref lA, .int 0])), (tA, .inl (cT, 120, .inl (fun _ => 0)))]) H := hP
  have hD : va_D A ([(o, .inr (3, [.ref kA, .int 0, .int 20, .int 60, .int 2000, .int 0, .ref iA, .int 0, .int 0, .int 0, .ref tA, .ref tr, .ref lA, .int 0])), (tA, .inl (cT, 120, .inl (fun _ => 0)))]) := hD
  refine lv_aload_n hx hb dX3_clear_51 rfl (lv_at hl 2 rfl) ?_
  refine lv_iconst (v := 0) hx hb dX3_clear_52 (by decide) ?_
  refine va_put (D := D) (ci := 3) (v := .int 0) (ty := .int) (C := RX3) (T := TX3) (N := 14) hx hb hts (fun _ h9 => List.mem_cons_of_mem _ (List.mem_append_left _ (List.mem_append_right _ h9))) tyX3 tyX3_ok nmX3 hown hK hP hD hS 0 rfl rfl 13 (by decide) (hts (.fieldLink RX3 62 "PalletStack" "lineCount" "I") (List.mem_of_getElem? (i := 5) (by rfl))) (fun _ h9 => h9) rfl (by decide +kernel) rfl rfl (Nat.le_of_ble_eq_true rfl) dX3_clear_53 (fun H locs hP hD hS => ?_)
  have hP : va_P D vwCl ([(o, .inr (3, [.ref kA, .int 0, .int 20, .int 60, .int 2000, .int 0, .ref iA, .int 0, .int 0, .int 0, .ref tA, .ref tr, .ref lA, .int 0])), (tA, .inl (cT, 120, .inl (fun _ => 0)))]) H := hP
  have hD : va_D A ([(o, .inr (3, [.ref kA, .int 0, .int 20, .int 60, .int 2000, .int 0, .ref iA, .int 0, .int 0, .int 0, .ref tA, .ref tr, .ref lA, .int 0])), (tA, .inl (cT, 120, .inl (fun _ => 0)))]) := hD
  refine lv_aload_n hx hb dX3_clear_56 rfl (lv_at hl 2 rfl) ?_
  refine zcallvV (As := []) (rest := []) (wc := [(o, .inr (3, [.ref kA, .int 0, .int 20, .int 60, .int 2000, .int 0, .ref iA, .int 0, .int 0, .int 0, .ref tA, .ref tr, .ref lA, .int 0])), (tA, .inl (cT, 120, .inl (fun _ => 0)))]) (wr := []) ⟨hx, hb, hml, hown, hts⟩ (c_layAllTops0 l D _ o kA iA tA tr lA cT (fun _ => 0)) (cwV 0 hts gX3_clear_X3_layAllTops rfl rfl rfl (by decide +kernel) ⟨by rw [hRf]; exact Nat.le_of_ble_eq_true rfl, by rw [hRl]; exact Nat.le_of_ble_eq_true rfl⟩) hK hP hD hS hA [0, 1] [] rfl (by decide) rfl (by decide) (by decide) [0] rfl (ci := 3) (q0 := 0) rfl rfl rfl hl.1 rfl (Nat.le_of_ble_eq_true rfl) dX3_clear_57 ⟨by omega, by omega⟩ (fun u_124 H locs hwu_124 hnu_124 hzu_124 hK hP hD hS => ?_)
  have hK : va_K D vwCl [(cT, .int)] s := hK
  have hP : va_P D vwCl ([]) H := hP
  have hD : va_D A ([]) := hD
  refine lv_iload_n hx hb dX3_clear_60 rfl (lv_at hl 1 rfl) ?_
  have hP := hP.sub (ws' := []) [] rfl
  have hD := hD.sub (ws' := []) [] (by decide) rfl
  exact W.iret (v := 0) hx hb hr (fun t ht hW => ⟨⟨0, (), rfl, rfl, ⟨Nat.zero_le _, by rw [ht]; exact hP, va_K.moved hW.alike (hK.sub (tys' := []) [] rfl), hD⟩⟩, hS.F ht⟩) hS.2.2 dX3_clear_61
set_option maxHeartbeats 4000000 in
set_option maxRecDepth 100000 in
theorem c_Item_init (l : Launch) (D : zG) (sz : Nat) (h : Nat) : Met l yX0_init wsX0_init ({ frames := 1, cells := 2, slots := 72, locals := 16 }) (zPcK D [] ([(h, .inr (0, [.int 0, .int 0, .int 0, .int 0, .int 0, .int 0, .int 0, .int 0, .int 0, .int 0, .int 0, .int 0, .int 0, .int 0, .int 0, .int 0, .null, .null]))]) sz (va_AO RX0) [.ref h]) (va_Qv (fun (u : Nat × Nat) => True) (zB D (va_A ([(h, .inr (0, [.int 0, .int 0, .int 0, .int 0, .int 0, .int 0, .int 0, .int 0, .int 0, .int 0, .int 0, .int 0, .int 0, .int 0, .int 0, .int 0, .null, .null]))]) sz) (fun _ => []) 0 (fun u => [(h, .inr (0, [.int 0, .int 0, .int 0, .int 0, .int 0, .int 0, .int 0, .int 0, .int 0, .int 0, .int 0, .int 0, .int 0, .int 0, .int 0, .int 0, .ref u.1, .ref u.2]))])) (va_A ([(h, .inr (0, [.int 0, .int 0, .int 0, .int 0, .int 0, .int 0, .int 0, .int 0, .int 0, .int 0, .int 0, .int 0, .int 0, .int 0, .int 0, .int 0, .null, .null]))]) sz)) 2 72 (va_A ([(h, .inr (0, [.int 0, .int 0, .int 0, .int 0, .int 0, .int 0, .int 0, .int 0, .int 0, .int 0, .int 0, .int 0, .int 0, .int 0, .int 0, .int 0, .null, .null]))]) sz) := by
  refine Met.ofW (cc := cX0_init) (maxL := 1) (ret := none) (by decide) rfl ?_
  intro p e s m args below meth c s₁ B hml hv
  obtain ⟨rfl, ⟨hsz, hP, hK, hD0⟩, hKx⟩ := hv
  have hx := B.exec
  have hb := B.bytes
  have hr := B.returns
  have hts := atoms_spec (ws := wsX0_init) B.pre
  have hown : s.vm.findClass RX0 = some m.cls := findClass_of_methodNamed B.named
  have hlocks := B.notSynchronized
  have hin : meth.name = "<init>" := (name_of_methodNamed B.named B.method).1
  subst hsz
  have hD := hD0.self (sz := s.heap.size)
  generalize hAe : va_A ([(h, .inr (0, [.int 0, .int 0, .int 0, .int 0, .int 0, .int 0, .int 0, .int 0, .int 0, .int 0, .int 0, .int 0, .int 0, .int 0, .int 0, .int 0, .null, .null]))]) s.heap.size = A at hD ⊢
  have hA : ∀ q : Nat, s.heap.size ≤ q → A q := fun q h => by rw [← hAe]; exact Or.inr h
  have hS : va_S A s.heap s.heap [] := va_S.rf
  have hl := lv_entry ([.ref h]) (n := 1) (Nat.le_of_ble_eq_true rfl)
  rw [lg_entry_eq]
  generalize (lg_sl ([.ref h]) ++ List.replicate (1 - (lg_sl ([.ref h])).length) Slot.unset).toArray = ls at hl ⊢
  have hl : lv_has ls 1 [(0, .ref h)] := hl
  have hP : va_P D vwCl ([(h, .inr (0, [.int 0, .int 0, .int 0, .int 0, .int 0, .int 0, .int 0, .int 0, .int 0, .int 0, .int 0, .int 0, .int 0, .int 0, .int 0, .int 0, .null, .null]))]) s.heap := hP
  generalize hRe : (headSpec _ _).room = R
  have hRf : R.frames = 1 := by rw [← hRe]; rfl
  have hRc : R.cells = 2 := by rw [← hRe]; rfl
  have hRs : R.slots = 72 := by rw [← hRe]; rfl
  have hRl : R.locals = 16 := by rw [← hRe]; rfl
  clear hRe
  refine lv_aload_n hx hb dX0_init_0 rfl (lv_at hl 0 rfl) ?_
  refine W.objInit hx hb hown (hts (.methodLink RX0 3 objectInit) (List.mem_of_getElem? (i := 1) (by rfl))) (hts (.instanceMethod objectInit) (List.mem_of_getElem? (i := 2) (by rfl))) (hts (.code objectInit ⟨#[0xb1]⟩ 1 none) (List.mem_of_getElem? (i := 3) (by rfl))) rfl (by rw [hml]; exact hl.1) rfl dX0_init_1 (by rw [hRf]; exact Nat.le_of_ble_eq_true rfl) (by rw [hRl]; exact Nat.le_of_ble_eq_true rfl) ?_
  refine W.eq (g2 := F0 m 4 ls []) rfl ?_
  refine lv_aload_n hx hb dX0_init_4 rfl (lv_at hl 0 rfl) ?_
  refine lv_iconst (v := 0) hx hb dX0_init_5 (by decide) ?_
  refine va_put (D := D) (ci := 0) (v := .int 0) (ty := .int) (C := RX0) (T := TX0) (N := 18) hx hb hts (fun _ h9 => List.mem_cons_of_mem _ (List.mem_append_right _ h9)) tyX0 tyX0_ok nmX0 hown hK hP hD hS 0 rfl rfl 0 (by decide) (hts (.fieldLink RX0 9 "PalletStack$Item" "kind" "I") (List.mem_of_getElem? (i := 4) (by rfl))) (fun _ h9 => h9) rfl (by decide +kernel) rfl rfl (Nat.le_of_ble_eq_true rfl) dX0_init_6 (fun H locs hP hD hS => ?_)
  have hP : va_P D vwCl ([(h, .inr (0, [.int 0, .int 0, .int 0, .int 0, .int 0, .int 0, .int 0, .int 0, .int 0, .int 0, .int 0, .int 0, .int 0, .int 0, .int 0, .int 0, .null, .null]))]) H := hP
  have hD : va_D A ([(h, .inr (0, [.int 0, .int 0, .int 0, .int 0, .int 0, .int 0, .int 0, .int 0, .int 0, .int 0, .int 0, .int 0, .int 0, .int 0, .int 0, .int 0, .null, .null]))]) := hD
  refine lv_aload_n hx hb dX0_init_9 rfl (lv_at hl 0 rfl) ?_
  refine lv_iconst (v := 0) hx hb dX0_init_10 (by decide) ?_
  refine va_put (D := D) (ci := 0) (v := .int 0) (ty := .int) (C := RX0) (T := TX0) (N := 18) hx hb hts (fun _ h9 => List.mem_cons_of_mem _ (List.mem_append_right _ h9)) tyX0 tyX0_ok nmX0 hown hK hP hD hS 0 rfl rfl 1 (by decide) (hts (.fieldLink RX0 15 "PalletStack$Item" "weight" "I") (List.mem_of_getElem? (i := 5) (by rfl))) (fun _ h9 => h9) rfl (by decide +kernel) rfl rfl (Nat.le_of_ble_eq_true rfl) dX0_init_11 (fun H locs hP hD hS => ?_)
  have hP : va_P D vwCl ([(h, .inr (0, [.int 0, .int 0, .int 0, .int 0, .int 0, .int 0, .int 0, .int 0, .int 0, .int 0, .int 0, .int 0, .int 0, .int 0, .int 0, .int 0, .null, .null]))]) H := hP
  have hD : va_D A ([(h, .inr (0, [.int 0, .int 0, .int 0, .int 0, .int 0, .int 0, .int 0, .int 0, .int 0, .int 0, .int 0, .int 0, .int 0, .int 0, .int 0, .int 0, .null, .null]))]) := hD
  refine lv_aload_n hx hb dX0_init_14 rfl (lv_at hl 0 rfl) ?_
  refine lv_iconst (v := 0) hx hb dX0_init_15 (by decide) ?_
  refine va_put (D := D) (ci := 0) (v := .int 0) (ty := .int) (C := RX0) (T := TX0) (N := 18) hx hb hts (fun _ h9 => List.mem_cons_of_mem _ (List.mem_append_right _ h9)) tyX0 tyX0_ok nmX0 hown hK hP hD hS 0 rfl rfl 2 (by decide) (hts (.fieldLink RX0 18 "PalletStack$Item" "strength" "I") (List.mem_of_getElem? (i := 6) (by rfl))) (fun _ h9 => h9) rfl (by decide +kernel) rfl rfl (Nat.le_of_ble_eq_true rfl) dX0_init_16 (fun H locs hP hD hS => ?_)
  have hP : va_P D vwCl ([(h, .inr (0, [.int 0, .int 0, .int 0, .int 0, .int 0, .int 0, .int 0, .int 0, .int 0, .int 0, .int 0, .int 0, .int 0, .int 0, .int 0, .int 0, .null, .null]))]) H := hP
  have hD : va_D A ([(h, .inr (0, [.int 0, .int 0, .int 0, .int 0, .int 0, .int 0, .int 0, .int 0, .int 0, .int 0, .int 0, .int 0, .int 0, .int 0, .int 0, .int 0, .null, .null]))]) := hD
  refine lv_aload_n hx hb dX0_init_19 rfl (lv_at hl 0 rfl) ?_
  refine lv_iconst (v := 0) hx hb dX0_init_20 (by decide) ?_
  refine va_put (D := D) (ci := 0) (v := .int 0) (ty := .boolean) (C := RX0) (T := TX0) (N := 18) hx hb hts (fun _ h9 => List.mem_cons_of_mem _ (List.mem_append_right _ h9)) tyX0 tyX0_ok nmX0 hown hK hP hD hS 0 rfl rfl 3 (by decide) (hts (.fieldLink RX0 21 "PalletStack$Item" "isTurned" "Z") (List.mem_of_getElem? (i := 7) (by rfl))) (fun _ h9 => h9) rfl (by decide +kernel) rfl rfl (Nat.le_of_ble_eq_true rfl) dX0_init_21 (fun H locs hP hD hS => ?_)
  have hP : va_P D vwCl ([(h, .inr (0, [.int 0, .int 0, .int 0, .int 0, .int 0, .int 0, .int 0, .int 0, .int 0, .int 0, .int 0, .int 0, .int 0, .int 0, .int 0, .int 0, .null, .null]))]) H := hP
  have hD : va_D A ([(h, .inr (0, [.int 0, .int 0, .int 0, .int 0, .int 0, .int 0, .int 0, .int 0, .int 0, .int 0, .int 0, .int 0, .int 0, .int 0, .int 0, .int 0, .null, .null]))]) := hD
  refine lv_aload_n hx hb dX0_init_24 rfl (lv_at hl 0 rfl) ?_
  refine lv_iconst (v := 0) hx hb dX0_init_25 (by decide) ?_
  refine va_put (D := D) (ci := 0) (v := .int 0) (ty := .int) (C := RX0) (T := TX0) (N := 18) hx hb hts (fun _ h9 => List.mem_cons_of_mem _ (List.mem_append_right _ h9)) tyX0 tyX0_ok nmX0 hown hK hP hD hS 0 rfl rfl 4 (by decide) (hts (.fieldLink RX0 25 "PalletStack$Item" "width" "I") (List.mem_of_getElem? (i := 8) (by rfl))) (fun _ h9 => h9) rfl (by decide +kernel) rfl rfl (Nat.le_of_ble_eq_true rfl) dX0_init_26 (fun H locs hP hD hS => ?_)
  have hP : va_P D vwCl ([(h, .inr (0, [.int 0, .int 0, .int 0, .int 0, .int 0, .int 0, .int 0, .int 0, .int 0, .int 0, .int 0, .int 0, .int 0, .int 0, .int 0, .int 0, .null, .null]))]) H := hP
  have hD : va_D A ([(h, .inr (0, [.int 0, .int 0, .int 0, .int 0, .int 0, .int 0, .int 0, .int 0, .int 0, .int 0, .int 0, .int 0, .int 0, .int 0, .int 0, .int 0, .null, .null]))]) := hD
  refine lv_aload_n hx hb dX0_init_29 rfl (lv_at hl 0 rfl) ?_
  refine lv_iconst (v := 0) hx hb dX0_init_30 (by decide) ?_
  refine va_put (D := D) (ci := 0) (v := .int 0) (ty := .int) (C := RX0) (T := TX0) (N := 18) hx hb hts (fun _ h9 => List.mem_cons_of_mem _ (List.mem_append_right _ h9)) tyX0 tyX0_ok nmX0 hown hK hP hD hS 0 rfl rfl 5 (by decide) (hts (.fieldLink RX0 28 "PalletStack$Item" "depth" "I") (List.mem_of_getElem? (i := 9) (by rfl))) (fun _ h9 => h9) rfl (by decide +kernel) rfl rfl (Nat.le_of_ble_eq_true rfl) dX0_init_31 (fun H locs hP hD hS => ?_)
  have hP : va_P D vwCl ([(h, .inr (0, [.int 0, .int 0, .int 0, .int 0, .int 0, .int 0, .int 0, .int 0, .int 0, .int 0, .int 0, .int 0, .int 0, .int 0, .int 0, .int 0, .null, .null]))]) H := hP
  have hD : va_D A ([(h, .inr (0, [.int 0, .int 0, .int 0, .int 0, .int 0, .int 0, .int 0, .int 0, .int 0, .int 0, .int 0, .int 0, .int 0, .int 0, .int 0, .int 0, .null, .null]))]) := hD
  refine lv_aload_n hx hb dX0_init_34 rfl (lv_at hl 0 rfl) ?_
  refine lv_iconst (v := 0) hx hb dX0_init_35 (by decide) ?_
  refine va_put (D := D) (ci := 0) (v := .int 0) (ty := .int) (C := RX0) (T := TX0) (N := 18) hx hb hts (fun _ h9 => List.mem_cons_of_mem _ (List.mem_append_right _ h9)) tyX0 tyX0_ok nmX0 hown hK hP hD hS 0 rfl rfl 6 (by decide) (hts (.fieldLink RX0 31 "PalletStack$Item" "x" "I") (List.mem_of_getElem? (i := 10) (by rfl))) (fun _ h9 => h9) rfl (by decide +kernel) rfl rfl (Nat.le_of_ble_eq_true rfl) dX0_init_36 (fun H locs hP hD hS => ?_)
  have hP : va_P D vwCl ([(h, .inr (0, [.int 0, .int 0, .int 0, .int 0, .int 0, .int 0, .int 0, .int 0, .int 0, .int 0, .int 0, .int 0, .int 0, .int 0, .int 0, .int 0, .null, .null]))]) H := hP
  have hD : va_D A ([(h, .inr (0, [.int 0, .int 0, .int 0, .int 0, .int 0, .int 0, .int 0, .int 0, .int 0, .int 0, .int 0, .int 0, .int 0, .int 0, .int 0, .int 0, .null, .null]))]) := hD
  refine lv_aload_n hx hb dX0_init_39 rfl (lv_at hl 0 rfl) ?_
  refine lv_iconst (v := 0) hx hb dX0_init_40 (by decide) ?_
  refine va_put (D := D) (ci := 0) (v := .int 0) (ty := .int) (C := RX0) (T := TX0) (N := 18) hx hb hts (fun _ h9 => List.mem_cons_of_mem _ (List.mem_append_right _ h9)) tyX0 tyX0_ok nmX0 hown hK hP hD hS 0 rfl rfl 7 (by decide) (hts (.fieldLink RX0 34 "PalletStack$Item" "y" "I") (List.mem_of_getElem? (i := 11) (by rfl))) (fun _ h9 => h9) rfl (by decide +kernel) rfl rfl (Nat.le_of_ble_eq_true rfl) dX0_init_41 (fun H locs hP hD hS => ?_)
  have hP : va_P D vwCl ([(h, .inr (0, [.int 0, .int 0, .int 0, .int 0, .int 0, .int 0, .int 0, .int 0, .int 0, .int 0, .int 0, .int 0, .int 0, .int 0, .int 0, .int 0, .null, .null]))]) H := hP
  have hD : va_D A ([(h, .inr (0, [.int 0, .int 0, .int 0, .int 0, .int 0, .int 0, .int 0, .int 0, .int 0, .int 0, .int 0, .int 0, .int 0, .int 0, .int 0, .int 0, .null, .null]))]) := hD
  refine lv_aload_n hx hb dX0_init_44 rfl (lv_at hl 0 rfl) ?_
  refine lv_iconst (v := 0) hx hb dX0_init_45 (by decide) ?_
  refine va_put (D := D) (ci := 0) (v := .int 0) (ty := .int) (C := RX0) (T := TX0) (N := 18) hx hb hts (fun _ h9 => List.mem_cons_of_mem _ (List.mem_append_right _ h9)) tyX0 tyX0_ok nmX0 hown hK hP hD hS 0 rfl rfl 8 (by decide) (hts (.fieldLink RX0 37 "PalletStack$Item" "bottom" "I") (List.mem_of_getElem? (i := 12) (by rfl))) (fun _ h9 => h9) rfl (by decide +kernel) rfl rfl (Nat.le_of_ble_eq_true rfl) dX0_init_46 (fun H locs hP hD hS => ?_)
  have hP : va_P D vwCl ([(h, .inr (0, [.int 0, .int 0, .int 0, .int 0, .int 0, .int 0, .int 0, .int 0, .int 0, .int 0, .int 0, .int 0, .int 0, .int 0, .int 0, .int 0, .null, .null]))]) H := hP
  have hD : va_D A ([(h, .inr (0, [.int 0, .int 0, .int 0, .int 0, .int 0, .int 0, .int 0, .int 0, .int 0, .int 0, .int 0, .int 0, .int 0, .int 0, .int 0, .int 0, .null, .null]))]) := hD
  refine lv_aload_n hx hb dX0_init_49 rfl (lv_at hl 0 rfl) ?_
  refine lv_iconst (v := 0) hx hb dX0_init_50 (by decide) ?_
  refine va_put (D := D) (ci := 0) (v := .int 0) (ty := .int) (C := RX0) (T := TX0) (N := 18) hx hb hts (fun _ h9 => List.mem_cons_of_mem _ (List.mem_append_right _ h9)) tyX0 tyX0_ok nmX0 hown hK hP hD hS 0 rfl rfl 9 (by decide) (hts (.fieldLink RX0 40 "PalletStack$Item" "top" "I") (List.mem_of_getElem? (i := 13) (by rfl))) (fun _ h9 => h9) rfl (by decide +kernel) rfl rfl (Nat.le_of_ble_eq_true rfl) dX0_init_51 (fun H locs hP hD hS => ?_)
  have hP : va_P D vwCl ([(h, .inr (0, [.int 0, .int 0, .int 0, .int 0, .int 0, .int 0, .int 0, .int 0, .int 0, .int 0, .int 0, .int 0, .int 0, .int 0, .int 0, .int 0, .null, .null]))]) H := hP
  have hD : va_D A ([(h, .inr (0, [.int 0, .int 0, .int 0, .int 0, .int 0, .int 0, .int 0, .int 0, .int 0, .int 0, .int 0, .int 0, .int 0, .int 0, .int 0, .int 0, .null, .null]))]) := hD
  refine lv_aload_n hx hb dX0_init_54 rfl (lv_at hl 0 rfl) ?_
  refine lv_iconst (v := 0) hx hb dX0_init_55 (by decide) ?_
  refine va_put (D := D) (ci := 0) (v := .int 0) (ty := .int) (C := RX0) (T := TX0) (N := 18) hx hb hts (fun _ h9 => List.mem_cons_of_mem _ (List.mem_append_right _ h9)) tyX0 tyX0_ok nmX0 hown hK hP hD hS 0 rfl rfl 10 (by decide) (hts (.fieldLink RX0 43 "PalletStack$Item" "ground" "I") (List.mem_of_getElem? (i := 14) (by rfl))) (fun _ h9 => h9) rfl (by decide +kernel) rfl rfl (Nat.le_of_ble_eq_true rfl) dX0_init_56 (fun H locs hP hD hS => ?_)
  have hP : va_P D vwCl ([(h, .inr (0, [.int 0, .int 0, .int 0, .int 0, .int 0, .int 0, .int 0, .int 0, .int 0, .int 0, .int 0, .int 0, .int 0, .int 0, .int 0, .int 0, .null, .null]))]) H := hP
  have hD : va_D A ([(h, .inr (0, [.int 0, .int 0, .int 0, .int 0, .int 0, .int 0, .int 0, .int 0, .int 0, .int 0, .int 0, .int 0, .int 0, .int 0, .int 0, .int 0, .null, .null]))]) := hD
  refine lv_aload_n hx hb dX0_init_59 rfl (lv_at hl 0 rfl) ?_
  refine lv_iconst (v := 0) hx hb dX0_init_60 (by decide) ?_
  refine va_put (D := D) (ci := 0) (v := .int 0) (ty := .int) (C := RX0) (T := TX0) (N := 18) hx hb hts (fun _ h9 => List.mem_cons_of_mem _ (List.mem_append_right _ h9)) tyX0 tyX0_ok nmX0 hown hK hP hD hS 0 rfl rfl 11 (by decide) (hts (.fieldLink RX0 46 "PalletStack$Item" "load" "I") (List.mem_of_getElem? (i := 15) (by rfl))) (fun _ h9 => h9) rfl (by decide +kernel) rfl rfl (Nat.le_of_ble_eq_true rfl) dX0_init_61 (fun H locs hP hD hS => ?_)
  have hP : va_P D vwCl ([(h, .inr (0, [.int 0, .int 0, .int 0, .int 0, .int 0, .int 0, .int 0, .int 0, .int 0, .int 0, .int 0, .int 0, .int 0, .int 0, .int 0, .int 0, .null, .null]))]) H := hP
  have hD : va_D A ([(h, .inr (0, [.int 0, .int 0, .int 0, .int 0, .int 0, .int 0, .int 0, .int 0, .int 0, .int 0, .int 0, .int 0, .int 0, .int 0, .int 0, .int 0, .null, .null]))]) := hD
  refine lv_aload_n hx hb dX0_init_64 rfl (lv_at hl 0 rfl) ?_
  refine lv_iconst (v := 0) hx hb dX0_init_65 (by decide) ?_
  refine va_put (D := D) (ci := 0) (v := .int 0) (ty := .int) (C := RX0) (T := TX0) (N := 18) hx hb hts (fun _ h9 => List.mem_cons_of_mem _ (List.mem_append_right _ h9)) tyX0 tyX0_ok nmX0 hown hK hP hD hS 0 rfl rfl 12 (by decide) (hts (.fieldLink RX0 49 "PalletStack$Item" "nextLoad" "I") (List.mem_of_getElem? (i := 16) (by rfl))) (fun _ h9 => h9) rfl (by decide +kernel) rfl rfl (Nat.le_of_ble_eq_true rfl) dX0_init_66 (fun H locs hP hD hS => ?_)
  have hP : va_P D vwCl ([(h, .inr (0, [.int 0, .int 0, .int 0, .int 0, .int 0, .int 0, .int 0, .int 0, .int 0, .int 0, .int 0, .int 0, .int 0, .int 0, .int 0, .int 0, .null, .null]))]) H := hP
  have hD : va_D A ([(h, .inr (0, [.int 0, .int 0, .int 0, .int 0, .int 0, .int 0, .int 0, .int 0, .int 0, .int 0, .int 0, .int 0, .int 0, .int 0, .int 0, .int 0, .null, .null]))]) := hD
  refine lv_aload_n hx hb dX0_init_69 rfl (lv_at hl 0 rfl) ?_
  refine lv_iconst (v := 0) hx hb dX0_init_70 (by decide) ?_
  refine va_put (D := D) (ci := 0) (v := .int 0) (ty := .boolean) (C := RX0) (T := TX0) (N := 18) hx hb hts (fun _ h9 => List.mem_cons_of_mem _ (List.mem_append_right _ h9)) tyX0 tyX0_ok nmX0 hown hK hP hD hS 0 rfl rfl 13 (by decide) (hts (.fieldLink RX0 52 "PalletStack$Item" "isOnPallet" "Z") (List.mem_of_getElem? (i := 17) (by rfl))) (fun _ h9 => h9) rfl (by decide +kernel) rfl rfl (Nat.le_of_ble_eq_true rfl) dX0_init_71 (fun H locs hP hD hS => ?_)
  have hP : va_P D vwCl ([(h, .inr (0, [.int 0, .int 0, .int 0, .int 0, .int 0, .int 0, .int 0, .int 0, .int 0, .int 0, .int 0, .int 0, .int 0, .int 0, .int 0, .int 0, .null, .null]))]) H := hP
  have hD : va_D A ([(h, .inr (0, [.int 0, .int 0, .int 0, .int 0, .int 0, .int 0, .int 0, .int 0, .int 0, .int 0, .int 0, .int 0, .int 0, .int 0, .int 0, .int 0, .null, .null]))]) := hD
  refine lv_aload_n hx hb dX0_init_74 rfl (lv_at hl 0 rfl) ?_
  refine lv_iconst (v := 0) hx hb dX0_init_75 (by decide) ?_
  refine va_put (D := D) (ci := 0) (v := .int 0) (ty := .boolean) (C := RX0) (T := TX0) (N := 18) hx hb hts (fun _ h9 => List.mem_cons_of_mem _ (List.mem_append_right _ h9)) tyX0 tyX0_ok nmX0 hown hK hP hD hS 0 rfl rfl 14 (by decide) (hts (.fieldLink RX0 55 "PalletStack$Item" "isReached" "Z") (List.mem_of_getElem? (i := 18) (by rfl))) (fun _ h9 => h9) rfl (by decide +kernel) rfl rfl (Nat.le_of_ble_eq_true rfl) dX0_init_76 (fun H locs hP hD hS => ?_)
  have hP : va_P D vwCl ([(h, .inr (0, [.int 0, .int 0, .int 0, .int 0, .int 0, .int 0, .int 0, .int 0, .int 0, .int 0, .int 0, .int 0, .int 0, .int 0, .int 0, .int 0, .null, .null]))]) H := hP
  have hD : va_D A ([(h, .inr (0, [.int 0, .int 0, .int 0, .int 0, .int 0, .int 0, .int 0, .int 0, .int 0, .int 0, .int 0, .int 0, .int 0, .int 0, .int 0, .int 0, .null, .null]))]) := hD
  refine lv_aload_n hx hb dX0_init_79 rfl (lv_at hl 0 rfl) ?_
  refine lv_iconst (v := 0) hx hb dX0_init_80 (by decide) ?_
  refine va_put (D := D) (ci := 0) (v := .int 0) (ty := .int) (C := RX0) (T := TX0) (N := 18) hx hb hts (fun _ h9 => List.mem_cons_of_mem _ (List.mem_append_right _ h9)) tyX0 tyX0_ok nmX0 hown hK hP hD hS 0 rfl rfl 15 (by decide) (hts (.fieldLink RX0 58 "PalletStack$Item" "supportCount" "I") (List.mem_of_getElem? (i := 19) (by rfl))) (fun _ h9 => h9) rfl (by decide +kernel) rfl rfl (Nat.le_of_ble_eq_true rfl) dX0_init_81 (fun H locs hP hD hS => ?_)
  have hP : va_P D vwCl ([(h, .inr (0, [.int 0, .int 0, .int 0, .int 0, .int 0, .int 0, .int 0, .int 0, .int 0, .int 0, .int 0, .int 0, .int 0, .int 0, .int 0, .int 0, .null, .null]))]) H := hP
  have hD : va_D A ([(h, .inr (0, [.int 0, .int 0, .int 0, .int 0, .int 0, .int 0, .int 0, .int 0, .int 0, .int 0, .int 0, .int 0, .int 0, .int 0, .int 0, .int 0, .null, .null]))]) := hD
  refine lv_aload_n hx hb dX0_init_84 rfl (lv_at hl 0 rfl) ?_
  refine lv_bipush (v := 36) hx hb dX0_init_85 (by decide) ?_
  refine va_newq (C := RX0) (N' := 36) hx hb hown (hts (.classLink RX0 10 RX0) (List.mem_of_getElem? (i := 20) (by rfl))) (hKx) hK hP hD hS hA (by decide) rfl (Nat.le_of_ble_eq_true rfl) (by omega) (by omega) dX0_init_87 (fun q_125 cy_126 H hK hP hD hS => ?_)
  have hP : va_P D vwCl ([(h, .inr (0, [.int 0, .int 0, .int 0, .int 0, .int 0, .int 0, .int 0, .int 0, .int 0, .int 0, .int 0, .int 0, .int 0, .int 0, .int 0, .int 0, .null, .null])), (q_125, .inl (cy_126, 36, .inr (.inr (.inr (.inr (fun _ => none))))))]) H := hP
  have hD : va_D A ([(h, .inr (0, [.int 0, .int 0, .int 0, .int 0, .int 0, .int 0, .int 0, .int 0, .int 0, .int 0, .int 0, .int 0, .int 0, .int 0, .int 0, .int 0, .null, .null])), (q_125, .inl (cy_126, 36, .inr (.inr (.inr (.inr (fun _ => none))))))]) := hD
  refine va_putF (D := D) (ci := 0) (v := .ref q_125) (ty := .array (.object "PalletStack$Item")) (C := RX0) (T := TX0) (N := 18) hx hb hts (fun _ h9 => List.mem_cons_of_mem _ (List.mem_append_right _ h9)) tyX0 tyX0_ok nmX0 hown hK hP hD hS 0 rfl rfl 16 (by decide) (hts (.fieldLink RX0 61 "PalletStack$Item" "supports" "[LPalletStack$Item;") (List.mem_of_getElem? (i := 21) (by rfl))) (fun _ h9 => h9) rfl hin rfl (by decide +kernel) rfl rfl (Nat.le_of_ble_eq_true rfl) dX0_init_90 (fun H locs hP hD hS => ?_)
  have hP : va_P D vwCl ([(h, .inr (0, [.int 0, .int 0, .int 0, .int 0, .int 0, .int 0, .int 0, .int 0, .int 0, .int 0, .int 0, .int 0, .int 0, .int 0, .int 0, .int 0, .ref q_125, .null])), (q_125, .inl (cy_126, 36, .inr (.inr (.inr (.inr (fun _ => none))))))]) H := hP
  have hD : va_D A ([(h, .inr (0, [.int 0, .int 0, .int 0, .int 0, .int 0, .int 0, .int 0, .int 0, .int 0, .int 0, .int 0, .int 0, .int 0, .int 0, .int 0, .int 0, .ref q_125, .null])), (q_125, .inl (cy_126, 36, .inr (.inr (.inr (.inr (fun _ => none))))))]) := hD
  refine lv_aload_n hx hb dX0_init_93 rfl (lv_at hl 0 rfl) ?_
  refine lv_bipush (v := 36) hx hb dX0_init_94 (by decide) ?_
  refine znewa (atype := .int) (ty := .int) (N' := 36) (a0 := (36, .inl (fun _ => 0))) hx hb (hts (.arrayClass .int) (List.mem_of_getElem? (i := 22) (by rfl))) rfl hK hP hD hS hA (fun _ => rfl) (by decide) rfl (Nat.le_of_ble_eq_true rfl) (by omega) (by omega) dX0_init_96 (fun q_127 cy_128 H hz_129 hK hP hD hS => ?_)
  have hP : va_P D vwCl ([(h, .inr (0, [.int 0, .int 0, .int 0, .int 0, .int 0, .int 0, .int 0, .int 0, .int 0, .int 0, .int 0, .int 0, .int 0, .int 0, .int 0, .int 0, .ref q_125, .null])), (q_125, .inl (cy_126, 36, .inr (.inr (.inr (.inr (fun _ => none)))))), (q_127, .inl (cy_128, 36, .inl (fun _ => 0)))]) H := hP
  have hD : va_D A ([(h, .inr (0, [.int 0, .int 0, .int 0, .int 0, .int 0, .int 0, .int 0, .int 0, .int 0, .int 0, .int 0, .int 0, .int 0, .int 0, .int 0, .int 0, .ref q_125, .null])), (q_125, .inl (cy_126, 36, .inr (.inr (.inr (.inr (fun _ => none)))))), (q_127, .inl (cy_128, 36, .inl (fun _ => 0)))]) := hD
  refine va_putF (D := D) (ci := 0) (v := .ref q_127) (ty := .array .int) (C := RX0) (T := TX0) (N := 18) hx hb hts (fun _ h9 => List.mem_cons_of_mem _ (List.mem_append_right _ h9)) tyX0 tyX0_ok nmX0 hown hK hP hD hS 0 rfl rfl 17 (by decide) (hts (.fieldLink RX0 65 "PalletStack$Item" "supportCells" "[I") (List.mem_of_getElem? (i := 23) (by rfl))) (fun _ h9 => h9) rfl hin rfl (by decide +kernel) rfl rfl (Nat.le_of_ble_eq_true rfl) dX0_init_98 (fun H locs hP hD hS => ?_)
  have hP : va_P D vwCl ([(h, .inr (0, [.int 0, .int 0, .int 0, .int 0, .int 0, .int 0, .int 0, .int 0, .int 0, .int 0, .int 0, .int 0, .int 0, .int 0, .int 0, .int 0, .ref q_125, .ref q_127])), (q_125, .inl (cy_126, 36, .inr (.inr (.inr (.inr (fun _ => none)))))), (q_127, .inl (cy_128, 36, .inl (fun _ => 0)))]) H := hP
  have hD : va_D A ([(h, .inr (0, [.int 0, .int 0, .int 0, .int 0, .int 0, .int 0, .int 0, .int 0, .int 0, .int 0, .int 0, .int 0, .int 0, .int 0, .int 0, .int 0, .ref q_125, .ref q_127])), (q_125, .inl (cy_126, 36, .inr (.inr (.inr (.inr (fun _ => none)))))), (q_127, .inl (cy_128, 36, .inl (fun _ => 0)))]) := hD
  have hP := hP.sub (ws' := [(h, .inr (0, [.int 0, .int 0, .int 0, .int 0, .int 0, .int 0, .int 0, .int 0, .int 0, .int 0, .int 0, .int 0, .int 0, .int 0, .int 0, .int 0, .ref q_125, .ref q_127]))]) [0] rfl
  have hD := hD.sub (ws' := [(h, .inr (0, [.int 0, .int 0, .int 0, .int 0, .int 0, .int 0, .int 0, .int 0, .int 0, .int 0, .int 0, .int 0, .int 0, .int 0, .int 0, .int 0, .ref q_125, .ref q_127]))]) [0] (by decide) rfl
  refine W.widen (k := 2) (n := 72) (by omega) (by omega) ?_
  exact W.vret hx hb hr (fun t ht hW => ⟨⟨(q_125, q_127), rfl, True.intro, ⟨Nat.zero_le _, by rw [ht]; exact hP, va_K.moved hW.alike (hK.sub (tys' := []) [] rfl), hD⟩⟩, hS.F ht⟩) hS.2.2 dX0_init_101
set_option maxHeartbeats 4000000 in
set_option maxRecDepth 100000 in
theorem c_PS_init (l : Launch) (D : zG) (sz : Nat) (o : Nat) : Met l yX3_init wsX3_init ({ frames := 2, cells := 187, slots := 5700, locals := 60 }) (zPcK D [] ([(o, .inr (3, [.null, .int 0, .int 0, .int 0, .int 0, .int 0, .null, .int 0, .int 0, .int 0, .null, .null, .null, .int 0]))]) sz ((fun U => va_AO RX0 U ∧ va_AO RX1 U ∧ va_AO RX2 U ∧ va_Nw (.methodLinkNest RX3 51 yX0_init "PalletStack") U)) [.ref o]) (va_Qv (fun (u : (Nat → Nat) × (Nat → ClassId)) => True) (zB D (va_A ([(o, .inr (3, [.null, .int 0, .int 0, .int 0, .int 0, .int 0, .null, .int 0, .int 0, .int 0, .null, .null, .null, .int 0]))]) sz) (fun u => [((u.2 0), .object RX1), ((u.2 1), .int)]) 0 (fun u => [(o, .inr (3, [.ref (u.1 0), .int 0, .int 20, .int 60, .int 2000, .int 0, .ref (u.1 1), .int 0, .int 0, .int 0, .ref (u.1 2), .ref (u.1 3), .ref (u.1 4), .int 0])), ((u.1 0), .inl ((u.2 0), 10, .inr (.inr (.inr (.inr (fun _ => none)))))), ((u.1 2), .inl ((u.2 1), 120, .inl (fun _ => 0)))])) (va_A ([(o, .inr (3, [.null, .int 0, .int 0, .int 0, .int 0, .int 0, .null, .int 0, .int 0, .int 0, .null, .null, .null, .int 0]))]) sz)) 187 5700 (va_A ([(o, .inr (3, [.null, .int 0, .int 0, .int 0, .int 0, .int 0, .null, .int 0, .int 0, .int 0, .null, .null, .null, .int 0]))]) sz) := by
  refine Met.ofW (cc := cX3_init) (maxL := 2) (ret := none) (by decide) rfl ?_
  intro p e s m args below meth c s₁ B hml hv
  obtain ⟨rfl, ⟨hsz, hP, hK, hD0⟩, hKx⟩ := hv
  have hx := B.exec
  have hb := B.bytes
  have hr := B.returns
  have hts := atoms_spec (ws := wsX3_init) B.pre
  have hown : s.vm.findClass RX3 = some m.cls := findClass_of_methodNamed B.named
  have hlocks := B.notSynchronized
  have hin : meth.name = "<init>" := (name_of_methodNamed B.named B.method).1
  subst hsz
  have hD := hD0.self (sz := s.heap.size)
  generalize hAe : va_A ([(o, .inr (3, [.null, .int 0, .int 0, .int 0, .int 0, .int 0, .null, .int 0, .int 0, .int 0, .null, .null, .null, .int 0]))]) s.heap.size = A at hD ⊢
  have hA : ∀ q : Nat, s.heap.size ≤ q → A q := fun q h => by rw [← hAe]; exact Or.inr h
  have hS : va_S A s.heap s.heap [] := va_S.rf
  have hl := lv_entry ([.ref o]) (n := 2) (Nat.le_of_ble_eq_true rfl)
  rw [lg_entry_eq]
  generalize (lg_sl ([.ref o]) ++ List.replicate (2 - (lg_sl ([.ref o])).length) Slot.unset).toArray = ls at hl ⊢
  have hl : lv_has ls 2 [(0, .ref o)] := hl
  have hP : va_P D vwCl ([(o, .inr (3, [.null, .int 0, .int 0, .int 0, .int 0, .int 0, .null, .int 0, .int 0, .int 0, .null, .null, .null, .int 0]))]) s.heap := hP
  generalize hRe : (headSpec _ _).room = R
  have hRf : R.frames = 2 := by rw [← hRe]; rfl
  have hRc : R.cells = 187 := by rw [← hRe]; rfl
  have hRs : R.slots = 5700 := by rw [← hRe]; rfl
  have hRl : R.locals = 60 := by rw [← hRe]; rfl
  clear hRe
  obtain ⟨hK0, hK1, hK2, hKn⟩ := hKx
  refine lv_aload_n hx hb dX3_init_0 rfl (lv_at hl 0 rfl) ?_
  refine W.objInit hx hb hown (hts (.methodLink RX3 3 objectInit) (List.mem_of_getElem? (i := 1) (by rfl))) (hts (.instanceMethod objectInit) (List.mem_of_getElem? (i := 2) (by rfl))) (hts (.code objectInit ⟨#[0xb1]⟩ 1 none) (List.mem_of_getElem? (i := 3) (by rfl))) rfl (by rw [hml]; exact hl.1) rfl dX3_init_1 (by rw [hRf]; exact Nat.le_of_ble_eq_true rfl) (by rw [hRl]; exact Nat.le_of_ble_eq_true rfl) ?_
  refine W.eq (g2 := F0 m 4 ls []) rfl ?_
  refine lv_aload_n hx hb dX3_init_4 rfl (lv_at hl 0 rfl) ?_
  refine lv_bipush (v := 10) hx hb dX3_init_5 (by decide) ?_
  refine va_newq (C := RX1) (N' := 10) hx hb hown (hts (.classLink RX3 9 RX1) (List.mem_of_getElem? (i := 4) (by rfl))) (hK1) hK hP hD hS hA (by decide) rfl (Nat.le_of_ble_eq_true rfl) (by omega) (by omega) dX3_init_7 (fun q_130 cy_131 H hK hP hD hS => ?_)
  have hP : va_P D vwCl ([(o, .inr (3, [.null, .int 0, .int 0, .int 0, .int 0, .int 0, .null, .int 0, .int 0, .int 0, .null, .null, .null, .int 0])), (q_130, .inl (cy_131, 10, .inr (.inr (.inr (.inr (fun _ => none))))))]) H := hP
  have hD : va_D A ([(o, .inr (3, [.null, .int 0, .int 0, .int 0, .int 0, .int 0, .null, .int 0, .int 0, .int 0, .null, .null, .null, .int 0])), (q_130, .inl (cy_131, 10, .inr (.inr (.inr (.inr (fun _ => none))))))]) := hD
  refine va_putF (D := D) (ci := 3) (v := .ref q_130) (ty := .array (.object "PalletStack$Kind")) (C := RX3) (T := TX3) (N := 14) hx hb hts (fun _ h9 => List.mem_cons_of_mem _ (List.mem_append_left _ (List.mem_append_right _ h9))) tyX3 tyX3_ok nmX3 hown hK hP hD hS 0 rfl rfl 0 (by decide) (hts (.fieldLink RX3 11 "PalletStack" "kinds" "[LPalletStack$Kind;") (List.mem_of_getElem? (i := 5) (by rfl))) (fun _ h9 => h9) rfl hin rfl (by decide +kernel) rfl rfl (Nat.le_of_ble_eq_true rfl) dX3_init_10 (fun H locs hP hD hS => ?_)
  have hP : va_P D vwCl ([(o, .inr (3, [.ref q_130, .int 0, .int 0, .int 0, .int 0, .int 0, .null, .int 0, .int 0, .int 0, .null, .null, .null, .int 0])), (q_130, .inl (cy_131, 10, .inr (.inr (.inr (.inr (fun _ => none))))))]) H := hP
  have hD : va_D A ([(o, .inr (3, [.ref q_130, .int 0, .int 0, .int 0, .int 0, .int 0, .null, .int 0, .int 0, .int 0, .null, .null, .null, .int 0])), (q_130, .inl (cy_131, 10, .inr (.inr (.inr (.inr (fun _ => none))))))]) := hD
  refine lv_aload_n hx hb dX3_init_13 rfl (lv_at hl 0 rfl) ?_
  refine lv_iconst (v := 0) hx hb dX3_init_14 (by decide) ?_
  refine va_put (D := D) (ci := 3) (v := .int 0) (ty := .int) (C := RX3) (T := TX3) (N := 14) hx hb hts (fun _ h9 => List.mem_cons_of_mem _ (List.mem_append_left _ (List.mem_append_right _ h9))) tyX3 tyX3_ok nmX3 hown hK hP hD hS 0 rfl rfl 1 (by decide) (hts (.fieldLink RX3 15 "PalletStack" "kindCount" "I") (List.mem_of_getElem? (i := 6) (by rfl))) (fun _ h9 => h9) rfl (by decide +kernel) rfl rfl (Nat.le_of_ble_eq_true rfl) dX3_init_15 (fun H locs hP hD hS => ?_)
  have hP : va_P D vwCl ([(o, .inr (3, [.ref q_130, .int 0, .int 0, .int 0, .int 0, .int 0, .null, .int 0, .int 0, .int 0, .null, .null, .null, .int 0])), (q_130, .inl (cy_131, 10, .inr (.inr (.inr (.inr (fun _ => none))))))]) H := hP
  have hD : va_D A ([(o, .inr (3, [.ref q_130, .int 0, .int 0, .int 0, .int 0, .int 0, .null, .int 0, .int 0, .int 0, .null, .null, .null, .int 0])), (q_130, .inl (cy_131, 10, .inr (.inr (.inr (.inr (fun _ => none))))))]) := hD
  refine lv_aload_n hx hb dX3_init_18 rfl (lv_at hl 0 rfl) ?_
  refine lv_bipush (v := 20) hx hb dX3_init_19 (by decide) ?_
  refine va_put (D := D) (ci := 3) (v := .int 20) (ty := .int) (C := RX3) (T := TX3) (N := 14) hx hb hts (fun _ h9 => List.mem_cons_of_mem _ (List.mem_append_left _ (List.mem_append_right _ h9))) tyX3 tyX3_ok nmX3 hown hK hP hD hS 0 rfl rfl 2 (by decide) (hts (.fieldLink RX3 19 "PalletStack" "greatestHeight" "I") (List.mem_of_getElem? (i := 7) (by rfl))) (fun _ h9 => h9) rfl (by decide +kernel) rfl rfl (Nat.le_of_ble_eq_true rfl) dX3_init_21 (fun H locs hP hD hS => ?_)
  have hP : va_P D vwCl ([(o, .inr (3, [.ref q_130, .int 0, .int 20, .int 0, .int 0, .int 0, .null, .int 0, .int 0, .int 0, .null, .null, .null, .int 0])), (q_130, .inl (cy_131, 10, .inr (.inr (.inr (.inr (fun _ => none))))))]) H := hP
  have hD : va_D A ([(o, .inr (3, [.ref q_130, .int 0, .int 20, .int 0, .int 0, .int 0, .null, .int 0, .int 0, .int 0, .null, .null, .null, .int 0])), (q_130, .inl (cy_131, 10, .inr (.inr (.inr (.inr (fun _ => none))))))]) := hD
  refine lv_aload_n hx hb dX3_init_24 rfl (lv_at hl 0 rfl) ?_
  refine lv_bipush (v := 60) hx hb dX3_init_25 (by decide) ?_
  refine va_put (D := D) (ci := 3) (v := .int 60) (ty := .int) (C := RX3) (T := TX3) (N := 14) hx hb hts (fun _ h9 => List.mem_cons_of_mem _ (List.mem_append_left _ (List.mem_append_right _ h9))) tyX3 tyX3_ok nmX3 hown hK hP hD hS 0 rfl rfl 3 (by decide) (hts (.fieldLink RX3 22 "PalletStack" "support" "I") (List.mem_of_getElem? (i := 8) (by rfl))) (fun _ h9 => h9) rfl (by decide +kernel) rfl rfl (Nat.le_of_ble_eq_true rfl) dX3_init_27 (fun H locs hP hD hS => ?_)
  have hP : va_P D vwCl ([(o, .inr (3, [.ref q_130, .int 0, .int 20, .int 60, .int 0, .int 0, .null, .int 0, .int 0, .int 0, .null, .null, .null, .int 0])), (q_130, .inl (cy_131, 10, .inr (.inr (.inr (.inr (fun _ => none))))))]) H := hP
  have hD : va_D A ([(o, .inr (3, [.ref q_130, .int 0, .int 20, .int 60, .int 0, .int 0, .null, .int 0, .int 0, .int 0, .null, .null, .null, .int 0])), (q_130, .inl (cy_131, 10, .inr (.inr (.inr (.inr (fun _ => none))))))]) := hD
  refine lv_aload_n hx hb dX3_init_30 rfl (lv_at hl 0 rfl) ?_
  refine lv_sipush (v := 2000) hx hb dX3_init_31 (by decide) ?_
  refine va_put (D := D) (ci := 3) (v := .int 2000) (ty := .int) (C := RX3) (T := TX3) (N := 14) hx hb hts (fun _ h9 => List.mem_cons_of_mem _ (List.mem_append_left _ (List.mem_append_right _ h9))) tyX3 tyX3_ok nmX3 hown hK hP hD hS 0 rfl rfl 4 (by decide) (hts (.fieldLink RX3 25 "PalletStack" "limit" "I") (List.mem_of_getElem? (i := 9) (by rfl))) (fun _ h9 => h9) rfl (by decide +kernel) rfl rfl (Nat.le_of_ble_eq_true rfl) dX3_init_34 (fun H locs hP hD hS => ?_)
  have hP : va_P D vwCl ([(o, .inr (3, [.ref q_130, .int 0, .int 20, .int 60, .int 2000, .int 0, .null, .int 0, .int 0, .int 0, .null, .null, .null, .int 0])), (q_130, .inl (cy_131, 10, .inr (.inr (.inr (.inr (fun _ => none))))))]) H := hP
  have hD : va_D A ([(o, .inr (3, [.ref q_130, .int 0, .int 20, .int 60, .int 2000, .int 0, .null, .int 0, .int 0, .int 0, .null, .null, .null, .int 0])), (q_130, .inl (cy_131, 10, .inr (.inr (.inr (.inr (fun _ => none))))))]) := hD
  refine lv_aload_n hx hb dX3_init_37 rfl (lv_at hl 0 rfl) ?_
  refine lv_iconst (v := 0) hx hb dX3_init_38 (by decide) ?_
  refine va_put (D := D) (ci := 3) (v := .int 0) (ty := .boolean) (C := RX3) (T := TX3) (N := 14) hx hb hts (fun _ h9 => List.mem_cons_of_mem _ (List.mem_append_left _ (List.mem_append_right _ h9))) tyX3 tyX3_ok nmX3 hown hK hP hD hS 0 rfl rfl 5 (by decide) (hts (.fieldLink RX3 28 "PalletStack" "hasCornerRule" "Z") (List.mem_of_getElem? (i := 10) (by rfl))) (fun _ h9 => h9) rfl (by decide +kernel) rfl rfl (Nat.le_of_ble_eq_true rfl) dX3_init_39 (fun H locs hP hD hS => ?_)
  have hP : va_P D vwCl ([(o, .inr (3, [.ref q_130, .int 0, .int 20, .int 60, .int 2000, .int 0, .null, .int 0, .int 0, .int 0, .null, .null, .null, .int 0])), (q_130, .inl (cy_131, 10, .inr (.inr (.inr (.inr (fun _ => none))))))]) H := hP
  have hD : va_D A ([(o, .inr (3, [.ref q_130, .int 0, .int 20, .int 60, .int 2000, .int 0, .null, .int 0, .int 0, .int 0, .null, .null, .null, .int 0])), (q_130, .inl (cy_131, 10, .inr (.inr (.inr (.inr (fun _ => none))))))]) := hD
  refine lv_aload_n hx hb dX3_init_42 rfl (lv_at hl 0 rfl) ?_
  refine lv_bipush (v := 60) hx hb dX3_init_43 (by decide) ?_
  refine va_newq (C := RX0) (N' := 60) hx hb hown (hts (.classLink RX3 32 RX0) (List.mem_of_getElem? (i := 11) (by rfl))) (hK0) hK hP hD hS hA (by decide) rfl (Nat.le_of_ble_eq_true rfl) (by omega) (by omega) dX3_init_45 (fun q_132 cy_133 H hK hP hD hS => ?_)
  have hP : va_P D vwCl ([(o, .inr (3, [.ref q_130, .int 0, .int 20, .int 60, .int 2000, .int 0, .null, .int 0, .int 0, .int 0, .null, .null, .null, .int 0])), (q_130, .inl (cy_131, 10, .inr (.inr (.inr (.inr (fun _ => none)))))), (q_132, .inl (cy_133, 60, .inr (.inr (.inr (.inr (fun _ => none))))))]) H := hP
  have hD : va_D A ([(o, .inr (3, [.ref q_130, .int 0, .int 20, .int 60, .int 2000, .int 0, .null, .int 0, .int 0, .int 0, .null, .null, .null, .int 0])), (q_130, .inl (cy_131, 10, .inr (.inr (.inr (.inr (fun _ => none)))))), (q_132, .inl (cy_133, 60, .inr (.inr (.inr (.inr (fun _ => none))))))]) := hD
  refine va_putF (D := D) (ci := 3) (v := .ref q_132) (ty := .array (.object "PalletStack$Item")) (C := RX3) (T := TX3) (N := 14) hx hb hts (fun _ h9 => List.mem_cons_of_mem _ (List.mem_append_left _ (List.mem_append_right _ h9))) tyX3 tyX3_ok nmX3 hown hK hP hD hS 0 rfl rfl 6 (by decide) (hts (.fieldLink RX3 34 "PalletStack" "items" "[LPalletStack$Item;") (List.mem_of_getElem? (i := 12) (by rfl))) (fun _ h9 => h9) rfl hin rfl (by decide +kernel) rfl rfl (Nat.le_of_ble_eq_true rfl) dX3_init_48 (fun H locs hP hD hS => ?_)
  have hP : va_P D vwCl ([(o, .inr (3, [.ref q_130, .int 0, .int 20, .int 60, .int 2000, .int 0, .ref q_132, .int 0, .int 0, .int 0, .null, .null, .null, .int 0])), (q_130, .inl (cy_131, 10, .inr (.inr (.inr (.inr (fun _ => none)))))), (q_132, .inl (cy_133, 60, .inr (.inr (.inr (.inr (fun _ => none))))))]) H := hP
  have hD : va_D A ([(o, .inr (3, [.ref q_130, .int 0, .int 20, .int 60, .int 2000, .int 0, .ref q_132, .int 0, .int 0, .int 0, .null, .null, .null, .int 0])), (q_130, .inl (cy_131, 10, .inr (.inr (.inr (.inr (fun _ => none)))))), (q_132, .inl (cy_133, 60, .inr (.inr (.inr (.inr (fun _ => none))))))]) := hD
  refine lv_aload_n hx hb dX3_init_51 rfl (lv_at hl 0 rfl) ?_
  refine lv_iconst (v := 0) hx hb dX3_init_52 (by decide) ?_
  refine va_put (D := D) (ci := 3) (v := .int 0) (ty := .int) (C := RX3) (T := TX3) (N := 14) hx hb hts (fun _ h9 => List.mem_cons_of_mem _ (List.mem_append_left _ (List.mem_append_right _ h9))) tyX3 tyX3_ok nmX3 hown hK hP hD hS 0 rfl rfl 7 (by decide) (hts (.fieldLink RX3 38 "PalletStack" "cameCount" "I") (List.mem_of_getElem? (i := 13) (by rfl))) (fun _ h9 => h9) rfl (by decide +kernel) rfl rfl (Nat.le_of_ble_eq_true rfl) dX3_init_53 (fun H locs hP hD hS => ?_)
  have hP : va_P D vwCl ([(o, .inr (3, [.ref q_130, .int 0, .int 20, .int 60, .int 2000, .int 0, .ref q_132, .int 0, .int 0, .int 0, .null, .null, .null, .int 0])), (q_130, .inl (cy_131, 10, .inr (.inr (.inr (.inr (fun _ => none)))))), (q_132, .inl (cy_133, 60, .inr (.inr (.inr (.inr (fun _ => none))))))]) H := hP
  have hD : va_D A ([(o, .inr (3, [.ref q_130, .int 0, .int 20, .int 60, .int 2000, .int 0, .ref q_132, .int 0, .int 0, .int 0, .null, .null, .null, .int 0])), (q_130, .inl (cy_131, 10, .inr (.inr (.inr (.inr (fun _ => none)))))), (q_132, .inl (cy_133, 60, .inr (.inr (.inr (.inr (fun _ => none))))))]) := hD
  refine lv_aload_n hx hb dX3_init_56 rfl (lv_at hl 0 rfl) ?_
  refine lv_iconst (v := 0) hx hb dX3_init_57 (by decide) ?_
  refine va_put (D := D) (ci := 3) (v := .int 0) (ty := .int) (C := RX3) (T := TX3) (N := 14) hx hb hts (fun _ h9 => List.mem_cons_of_mem _ (List.mem_append_left _ (List.mem_append_right _ h9))) tyX3 tyX3_ok nmX3 hown hK hP hD hS 0 rfl rfl 8 (by decide) (hts (.fieldLink RX3 41 "PalletStack" "onPalletCount" "I") (List.mem_of_getElem? (i := 14) (by rfl))) (fun _ h9 => h9) rfl (by decide +kernel) rfl rfl (Nat.le_of_ble_eq_true rfl) dX3_init_58 (fun H locs hP hD hS => ?_)
  have hP : va_P D vwCl ([(o, .inr (3, [.ref q_130, .int 0, .int 20, .int 60, .int 2000, .int 0, .ref q_132, .int 0, .int 0, .int 0, .null, .null, .null, .int 0])), (q_130, .inl (cy_131, 10, .inr (.inr (.inr (.inr (fun _ => none)))))), (q_132, .inl (cy_133, 60, .inr (.inr (.inr (.inr (fun _ => none))))))]) H := hP
  have hD : va_D A ([(o, .inr (3, [.ref q_130, .int 0, .int 20, .int 60, .int 2000, .int 0, .ref q_132, .int 0, .int 0, .int 0, .null, .null, .null, .int 0])), (q_130, .inl (cy_131, 10, .inr (.inr (.inr (.inr (fun _ => none)))))), (q_132, .inl (cy_133, 60, .inr (.inr (.inr (.inr (fun _ => none))))))]) := hD
  refine lv_aload_n hx hb dX3_init_61 rfl (lv_at hl 0 rfl) ?_
  refine lv_iconst (v := 0) hx hb dX3_init_62 (by decide) ?_
  refine va_put (D := D) (ci := 3) (v := .int 0) (ty := .int) (C := RX3) (T := TX3) (N := 14) hx hb hts (fun _ h9 => List.mem_cons_of_mem _ (List.mem_append_left _ (List.mem_append_right _ h9))) tyX3 tyX3_ok nmX3 hown hK hP hD hS 0 rfl rfl 9 (by decide) (hts (.fieldLink RX3 44 "PalletStack" "weightOnPallet" "I") (List.mem_of_getElem? (i := 15) (by rfl))) (fun _ h9 => h9) rfl (by decide +kernel) rfl rfl (Nat.le_of_ble_eq_true rfl) dX3_init_63 (fun H locs hP hD hS => ?_)
  have hP : va_P D vwCl ([(o, .inr (3, [.ref q_130, .int 0, .int 20, .int 60, .int 2000, .int 0, .ref q_132, .int 0, .int 0, .int 0, .null, .null, .null, .int 0])), (q_130, .inl (cy_131, 10, .inr (.inr (.inr (.inr (fun _ => none)))))), (q_132, .inl (cy_133, 60, .inr (.inr (.inr (.inr (fun _ => none))))))]) H := hP
  have hD : va_D A ([(o, .inr (3, [.ref q_130, .int 0, .int 20, .int 60, .int 2000, .int 0, .ref q_132, .int 0, .int 0, .int 0, .null, .null, .null, .int 0])), (q_130, .inl (cy_131, 10, .inr (.inr (.inr (.inr (fun _ => none)))))), (q_132, .inl (cy_133, 60, .inr (.inr (.inr (.inr (fun _ => none))))))]) := hD
  refine lv_aload_n hx hb dX3_init_66 rfl (lv_at hl 0 rfl) ?_
  refine lv_bipush (v := 120) hx hb dX3_init_67 (by decide) ?_
  refine znewa (atype := .int) (ty := .int) (N' := 120) (a0 := (120, .inl (fun _ => 0))) hx hb (hts (.arrayClass .int) (List.mem_of_getElem? (i := 16) (by rfl))) rfl hK hP hD hS hA (fun _ => rfl) (by decide) rfl (Nat.le_of_ble_eq_true rfl) (by omega) (by omega) dX3_init_69 (fun q_134 cy_135 H hz_136 hK hP hD hS => ?_)
  have hP : va_P D vwCl ([(o, .inr (3, [.ref q_130, .int 0, .int 20, .int 60, .int 2000, .int 0, .ref q_132, .int 0, .int 0, .int 0, .null, .null, .null, .int 0])), (q_130, .inl (cy_131, 10, .inr (.inr (.inr (.inr (fun _ => none)))))), (q_132, .inl (cy_133, 60, .inr (.inr (.inr (.inr (fun _ => none)))))), (q_134, .inl (cy_135, 120, .inl (fun _ => 0)))]) H := hP
  have hD : va_D A ([(o, .inr (3, [.ref q_130, .int 0, .int 20, .int 60, .int 2000, .int 0, .ref q_132, .int 0, .int 0, .int 0, .null, .null, .null, .int 0])), (q_130, .inl (cy_131, 10, .inr (.inr (.inr (.inr (fun _ => none)))))), (q_132, .inl (cy_133, 60, .inr (.inr (.inr (.inr (fun _ => none)))))), (q_134, .inl (cy_135, 120, .inl (fun _ => 0)))]) := hD
  refine va_putF (D := D) (ci := 3) (v := .ref q_134) (ty := .array .int) (C := RX3) (T := TX3) (N := 14) hx hb hts (fun _ h9 => List.mem_cons_of_mem _ (List.mem_append_left _ (List.mem_append_right _ h9))) tyX3 tyX3_ok nmX3 hown hK hP hD hS 0 rfl rfl 10 (by decide) (hts (.fieldLink RX3 47 "PalletStack" "tops" "[I") (List.mem_of_getElem? (i := 17) (by rfl))) (fun _ h9 => h9) rfl hin rfl (by decide +kernel) rfl rfl (Nat.le_of_ble_eq_true rfl) dX3_init_71 (fun H locs hP hD hS => ?_)
  have hP : va_P D vwCl ([(o, .inr (3, [.ref q_130, .int 0, .int 20, .int 60, .int 2000, .int 0, .ref q_132, .int 0, .int 0, .int 0, .ref q_134, .null, .null, .int 0])), (q_130, .inl (cy_131, 10, .inr (.inr (.inr (.inr (fun _ => none)))))), (q_132, .inl (cy_133, 60, .inr (.inr (.inr (.inr (fun _ => none)))))), (q_134, .inl (cy_135, 120, .inl (fun _ => 0)))]) H := hP
  have hD : va_D A ([(o, .inr (3, [.ref q_130, .int 0, .int 20, .int 60, .int 2000, .int 0, .ref q_132, .int 0, .int 0, .int 0, .ref q_134, .null, .null, .int 0])), (q_130, .inl (cy_131, 10, .inr (.inr (.inr (.inr (fun _ => none)))))), (q_132, .inl (cy_133, 60, .inr (.inr (.inr (.inr (fun _ => none)))))), (q_134, .inl (cy_135, 120, .inl (fun _ => 0)))]) := hD
  refine lv_aload_n hx hb dX3_init_74 rfl (lv_at hl 0 rfl) ?_
  refine va_new (D := D) (ci := 0) (fs := [.int 0, .int 0, .int 0, .int 0, .int 0, .int 0, .int 0, .int 0, .int 0, .int 0, .int 0, .int 0, .int 0, .int 0, .int 0, .int 0, .null, .null]) (C := RX0) (T := TX0) (N := 18) hx hb hts (fun _ h9 => List.mem_cons_of_mem _ (List.mem_append_right _ h9)) tyX0 tyX0_ok hown (hts (.classLink RX3 32 RX0) (List.mem_of_getElem? (i := 11) (by rfl))) (hts (.instantiable RX0 18) (List.mem_of_getElem? (i := 18) (by rfl))) (hts (.initialized RX0) (List.mem_of_getElem? (i := 19) (by rfl))) hK hP hD hS hA rfl (fun j hj => by rcases (show j = 0 ∨ j = 1 ∨ j = 2 ∨ j = 3 ∨ j = 4 ∨ j = 5 ∨ j = 6 ∨ j = 7 ∨ j = 8 ∨ j = 9 ∨ j = 10 ∨ j = 11 ∨ j = 12 ∨ j = 13 ∨ j = 14 ∨ j = 15 ∨ j = 16 ∨ j = 17 by omega) with rfl | rfl | rfl | rfl | rfl | rfl | rfl | rfl | rfl | rfl | rfl | rfl | rfl | rfl | rfl | rfl | rfl | rfl <;> rfl) (by omega) (by omega) dX3_init_75 (fun q_137 H hP hD hS => ?_)
  have hP : va_P D vwCl ([(o, .inr (3, [.ref q_130, .int 0, .int 20, .int 60, .int 2000, .int 0, .ref q_132, .int 0, .int 0, .int 0, .ref q_134, .null, .null, .int 0])), (q_130, .inl (cy_131, 10, .inr (.inr (.inr (.inr (fun _ => none)))))), (q_132, .inl (cy_133, 60, .inr (.inr (.inr (.inr (fun _ => none)))))), (q_134, .inl (cy_135, 120, .inl (fun _ => 0))), (q_137, .inr (0, [.int 0, .int 0, .int 0, .int 0, .int 0, .int 0, .int 0, .int 0, .int 0, .int 0, .int 0, .int 0, .int 0, .int 0, .int 0, .int 0, .null, .null]))]) H := hP
  have hD : va_D A ([(o, .inr (3, [.ref q_130, .int 0, .int 20, .int 60, .int 2000, .int 0, .ref q_132, .int 0, .int 0, .int 0, .ref q_134, .null, .null, .int 0])), (q_130, .inl (cy_131, 10, .inr (.inr (.inr (.inr (fun _ => none)))))), (q_132, .inl (cy_133, 60, .inr (.inr (.inr (.inr (fun _ => none)))))), (q_134, .inl (cy_135, 120, .inl (fun _ => 0))), (q_137, .inr (0, [.int 0, .int 0, .int 0, .int 0, .int 0, .int 0, .int 0, .int 0, .int 0, .int 0, .int 0, .int 0, .int 0, .int 0, .int 0, .int 0, .null, .null]))]) := hD
  refine lv_dup hx hb dX3_init_78 rfl ?_
  refine zcallvINK (As := []) (rest := [.ref q_137, .ref o]) (wc := [(q_137, .inr (0, [.int 0, .int 0, .int 0, .int 0, .int 0, .int 0, .int 0, .int 0, .int 0, .int 0, .int 0, .int 0, .int 0, .int 0, .int 0, .int 0, .null, .null]))]) (wr := [(o, .inr (3, [.ref q_130, .int 0, .int 20, .int 60, .int 2000, .int 0, .ref q_132, .int 0, .int 0, .int 0, .ref q_134, .null, .null, .int 0])), (q_130, .inl (cy_131, 10, .inr (.inr (.inr (.inr (fun _ => none)))))), (q_132, .inl (cy_133, 60, .inr (.inr (.inr (.inr (fun _ => none)))))), (q_134, .inl (cy_135, 120, .inl (fun _ => 0)))]) ⟨hx, hb, hml, hown, hts⟩ (c_Item_init l D _ q_137) (⟨va_cnB (host := "PalletStack") 0 hts gX3_init_X0_init_n51 rfl rfl rfl (hKn) (hts (.initialized RX0) (List.mem_of_getElem? (i := 19) (by rfl))) (by decide +kernel) ⟨by rw [hRf]; exact Nat.le_of_ble_eq_true rfl, by rw [hRl]; exact Nat.le_of_ble_eq_true rfl⟩, rfl, (hts (.instanceMethod yX0_init) (List.mem_of_getElem? (i := 24) (by rfl)))⟩) (fun _ U _ _ h => h.moved (Vm.Alike.refl U.vm)) (fun U hW => hK0.moved hW.alike) hK hP hD hS hA [4] [0, 1, 2, 3] rfl (by decide) rfl (by decide) (by decide) [] rfl rfl hl.1 rfl (Nat.le_of_ble_eq_true rfl) dX3_init_79 ⟨by omega, by omega⟩ (fun u_139 H locs hwu_139 hnu_139 hzu_139 hK hP hD hS => ?_)
  have hK : va_K D vwCl [(cy_131, .object RX1), (cy_133, .object RX0), (cy_135, .int)] s := hK
  have hP : va_P D vwCl ([(o, .inr (3, [.ref q_130, .int 0, .int 20, .int 60, .int 2000, .int 0, .ref q_132, .int 0, .int 0, .int 0, .ref q_134, .null, .null, .int 0])), (q_130, .inl (cy_131, 10, .inr (.inr (.inr (.inr (fun _ => none)))))), (q_132, .inl (cy_133, 60, .inr (.inr (.inr (.inr (fun _ => none)))))), (q_134, .inl (cy_135, 120, .inl (fun _ => 0))), (q_137, .inr (0, [.int 0, .int 0, .int 0, .int 0, .int 0, .int 0, .int 0, .int 0, .int 0, .int 0, .int 0, .int 0, .int 0, .int 0, .int 0, .int 0, .ref u_139.1, .ref u_139.2]))]) H := hP
  have hD : va_D A ([(o, .inr (3, [.ref q_130, .int 0, .int 20, .int 60, .int 2000, .int 0, .ref q_132, .int 0, .int 0, .int 0, .ref q_134, .null, .null, .int 0])), (q_130, .inl (cy_131, 10, .inr (.inr (.inr (.inr (fun _ => none)))))), (q_132, .inl (cy_133, 60, .inr (.inr (.inr (.inr (fun _ => none)))))), (q_134, .inl (cy_135, 120, .inl (fun _ => 0))), (q_137, .inr (0, [.int 0, .int 0, .int 0, .int 0, .int 0, .int 0, .int 0, .int 0, .int 0, .int 0, .int 0, .int 0, .int 0, .int 0, .int 0, .int 0, .ref u_139.1, .ref u_139.2]))]) := hD
  refine va_put (D := D) (ci := 3) (v := .ref q_137) (ty := .object "PalletStack$Item") (C := RX3) (T := TX3) (N := 14) hx hb hts (fun _ h9 => List.mem_cons_of_mem _ (List.mem_append_left _ (List.mem_append_right _ h9))) tyX3 tyX3_ok nmX3 hown hK hP hD hS 0 rfl rfl 11 (by decide) (hts (.fieldLink RX3 52 "PalletStack" "trial" "LPalletStack$Item;") (List.mem_of_getElem? (i := 20) (by rfl))) (fun _ h9 => h9) rfl (by decide +kernel) rfl rfl (Nat.le_of_ble_eq_true rfl) dX3_init_82 (fun H locs hP hD hS => ?_)
  have hP : va_P D vwCl ([(o, .inr (3, [.ref q_130, .int 0, .int 20, .int 60, .int 2000, .int 0, .ref q_132, .int 0, .int 0, .int 0, .ref q_134, .ref q_137, .null, .int 0])), (q_130, .inl (cy_131, 10, .inr (.inr (.inr (.inr (fun _ => none)))))), (q_132, .inl (cy_133, 60, .inr (.inr (.inr (.inr (fun _ => none)))))), (q_134, .inl (cy_135, 120, .inl (fun _ => 0))), (q_137, .inr (0, [.int 0, .int 0, .int 0, .int 0, .int 0, .int 0, .int 0, .int 0, .int 0, .int 0, .int 0, .int 0, .int 0, .int 0, .int 0, .int 0, .ref u_139.1, .ref u_139.2]))]) H := hP
  have hD : va_D A ([(o, .inr (3, [.ref q_130, .int 0, .int 20, .int 60, .int 2000, .int 0, .ref q_132, .int 0, .int 0, .int 0, .ref q_134, .ref q_137, .null, .int 0])), (q_130, .inl (cy_131, 10, .inr (.inr (.inr (.inr (fun _ => none)))))), (q_132, .inl (cy_133, 60, .inr (.inr (.inr (.inr (fun _ => none)))))), (q_134, .inl (cy_135, 120, .inl (fun _ => 0))), (q_137, .inr (0, [.int 0, .int 0, .int 0, .int 0, .int 0, .int 0, .int 0, .int 0, .int 0, .int 0, .int 0, .int 0, .int 0, .int 0, .int 0, .int 0, .ref u_139.1, .ref u_139.2]))]) := hD
  refine lv_aload_n hx hb dX3_init_85 rfl (lv_at hl 0 rfl) ?_
  refine lv_bipush (v := 20) hx hb dX3_init_86 (by decide) ?_
  refine va_newq (C := RX2) (N' := 20) hx hb hown (hts (.classLink RX3 56 RX2) (List.mem_of_getElem? (i := 21) (by rfl))) (hK2) hK hP hD hS hA (by decide) rfl (Nat.le_of_ble_eq_true rfl) (by omega) (by omega) dX3_init_88 (fun q_140 cy_141 H hK hP hD hS => ?_)
  have hP : va_P D vwCl ([(o, .inr (3, [.ref q_130, .int 0, .int 20, .int 60, .int 2000, .int 0, .ref q_132, .int 0, .int 0, .int 0, .ref q_134, .ref q_137, .null, .int 0])), (q_130, .inl (cy_131, 10, .inr (.inr (.inr (.inr (fun _ => none)))))), (q_132, .inl (cy_133, 60, .inr (.inr (.inr (.inr (fun _ => none)))))), (q_134, .inl (cy_135, 120, .inl (fun _ => 0))), (q_137, .inr (0, [.int 0, .int 0, .int 0, .int 0, .int 0, .int 0, .int 0, .int 0, .int 0, .int 0, .int 0, .int 0, .int 0, .int 0, .int 0, .int 0, .ref u_139.1, .ref u_139.2])), (q_140, .inl (cy_141, 20, .inr (.inr (.inr (.inr (fun _ => none))))))]) H := hP
  have hD : va_D A ([(o, .inr (3, [.ref q_130, .int 0, .int 20, .int 60, .int 2000, .int 0, .ref q_132, .int 0, .int 0, .int 0, .ref q_134, .ref q_137, .null, .int 0])), (q_130, .inl (cy_131, 10, .inr (.inr (.inr (.inr (fun _ => none)))))), (q_132, .inl (cy_133, 60, .inr (.inr (.inr (.inr (fun _ => none)))))), (q_134, .inl (cy_135, 120, .inl (fun _ => 0))), (q_137, .inr (0, [.int 0, .int 0, .int 0, .int 0, .int 0, .int 0, .int 0, .int 0, .int 0, .int 0, .int 0, .int 0, .int 0, .int 0, .int 0, .int 0, .ref u_139.1, .ref u_139.2])), (q_140, .inl (cy_141, 20, .inr (.inr (.inr (.inr (fun _ => none))))))]) := hD
  refine va_putF (D := D) (ci := 3) (v := .ref q_140) (ty := .array (.object "PalletStack$Line")) (C := RX3) (T := TX3) (N := 14) hx hb hts (fun _ h9 => List.mem_cons_of_mem _ (List.mem_append_left _ (List.mem_append_right _ h9))) tyX3 tyX3_ok nmX3 hown hK hP hD hS 0 rfl rfl 12 (by decide) (hts (.fieldLink RX3 58 "PalletStack" "lines" "[LPalletStack$Line;") (List.mem_of_getElem? (i := 22) (by rfl))) (fun _ h9 => h9) rfl hin rfl (by decide +kernel) rfl rfl (Nat.le_of_ble_eq_true rfl) dX3_init_91 (fun H locs hP hD hS => ?_)
  have hP : va_P D vwCl ([(o, .inr (3, [.ref q_130, .int 0, .int 20, .int 60, .int 2000, .int 0, .ref q_132, .int 0, .int 0, .int 0, .ref q_134, .ref q_137, .ref q_140, .int 0])), (q_130, .inl (cy_131, 10, .inr (.inr (.inr (.inr (fun _ => none)))))), (q_132, .inl (cy_133, 60, .inr (.inr (.inr (.inr (fun _ => none)))))), (q_134, .inl (cy_135, 120, .inl (fun _ => 0))), (q_137, .inr (0, [.int 0, .int 0, .int 0, .int 0, .int 0, .int 0, .int 0, .int 0, .int 0, .int 0, .int 0, .int 0, .int 0, .int 0, .int 0, .int 0, .ref u_139.1, .ref u_139.2])), (q_140, .inl (cy_141, 20, .inr (.inr (.inr (.inr (fun _ => none))))))]) H := hP
  have hD : va_D A ([(o, .inr (3, [.ref q_130, .int 0, .int 20, .int 60, .int 2000, .int 0, .ref q_132, .int 0, .int 0, .int 0, .ref q_134, .ref q_137, .ref q_140, .int 0])), (q_130, .inl (cy_131, 10, .inr (.inr (.inr (.inr (fun _ => none)))))), (q_132, .inl (cy_133, 60, .inr (.inr (.inr (.inr (fun _ => none)))))), (q_134, .inl (cy_135, 120, .inl (fun _ => 0))), (q_137, .inr (0, [.int 0, .int 0, .int 0, .int 0, .int 0, .int 0, .int 0, .int 0, .int 0, .int 0, .int 0, .int 0, .int 0, .int 0, .int 0, .int 0, .ref u_139.1, .ref u_139.2])), (q_140, .inl (cy_141, 20, .inr (.inr (.inr (.inr (fun _ => none))))))]) := hD
  refine lv_aload_n hx hb dX3_init_94 rfl (lv_at hl 0 rfl) ?_
  refine lv_iconst (v := 0) hx hb dX3_init_95 (by decide) ?_
  refine va_put (D := D) (ci := 3) (v := .int 0) (ty := .int) (C := RX3) (T := TX3) (N := 14) hx hb hts (fun _ h9 => List.mem_cons_of_mem _ (List.mem_append_left _ (List.mem_append_right _ h9))) tyX3 tyX3_ok nmX3 hown hK hP hD hS 0 rfl rfl 13 (by decide) (hts (.fieldLink RX3 62 "PalletStack" "lineCount" "I") (List.mem_of_getElem? (i := 23) (by rfl))) (fun _ h9 => h9) rfl (by decide +kernel) rfl rfl (Nat.le_of_ble_eq_true rfl) dX3_init_96 (fun H locs hP hD hS => ?_)
  have hP : va_P D vwCl ([(o, .inr (3, [.ref q_130, .int 0, .int 20, .int 60, .int 2000, .int 0, .ref q_132, .int 0, .int 0, .int 0, .ref q_134, .ref q_137, .ref q_140, .int 0])), (q_130, .inl (cy_131, 10, .inr (.inr (.inr (.inr (fun _ => none)))))), (q_132, .inl (cy_133, 60, .inr (.inr (.inr (.inr (fun _ => none)))))), (q_134, .inl (cy_135, 120, .inl (fun _ => 0))), (q_137, .inr (0, [.int 0, .int 0, .int 0, .int 0, .int 0, .int 0, .int 0, .int 0, .int 0, .int 0, .int 0, .int 0, .int 0, .int 0, .int 0, .int 0, .ref u_139.1, .ref u_139.2])), (q_140, .inl (cy_141, 20, .inr (.inr (.inr (.inr (fun _ => none))))))]) H := hP
  have hD : va_D A ([(o, .inr (3, [.ref q_130, .int 0, .int 20, .int 60, .int 2000, .int 0, .ref q_132, .int 0, .int 0, .int 0, .ref q_134, .ref q_137, .ref q_140, .int 0])), (q_130, .inl (cy_131, 10, .inr (.inr (.inr (.inr (fun _ => none)))))), (q_132, .inl (cy_133, 60, .inr (.inr (.inr (.inr (fun _ => none)))))), (q_134, .inl (cy_135, 120, .inl (fun _ => 0))), (q_137, .inr (0, [.int 0, .int 0, .int 0, .int 0, .int 0, .int 0, .int 0, .int 0, .int 0, .int 0, .int 0, .int 0, .int 0, .int 0, .int 0, .int 0, .ref u_139.1, .ref u_139.2])), (q_140, .inl (cy_141, 20, .inr (.inr (.inr (.inr (fun _ => none))))))]) := hD
  refine lv_iconst (v := 0) hx hb dX3_init_99 (by decide) ?_
  refine lv_istore_n (lv' := [(1, .int 0), (0, .ref o)]) hx hb dX3_init_100 rfl hl (by decide) rfl (fun ls hl => ?_)
  generalize hQe : MQ _ _ _ _ _ _ _ = Q
  have hP := hP.sub (ws' := [(o, .inr (3, [.ref q_130, .int 0, .int 20, .int 60, .int 2000, .int 0, .ref q_132, .int 0, .int 0, .int 0, .ref q_134, .ref q_137, .ref q_140, .int 0])), (q_130, .inl (cy_131, 10, .inr (.inr (.inr (.inr (fun _ => none)))))), (q_132, .inl (cy_133, 60, .inr (.inr (.inr (.inr (fun _ => none)))))), (q_134, .inl (cy_135, 120, .inl (fun _ => 0)))]) [0, 1, 2, 3] rfl
  have hD := hD.sub (ws' := [(o, .inr (3, [.ref q_130, .int 0, .int 20, .int 60, .int 2000, .int 0, .ref q_132, .int 0, .int 0, .int 0, .ref q_134, .ref q_137, .ref q_140, .int 0])), (q_130, .inl (cy_131, 10, .inr (.inr (.inr (.inr (fun _ => none)))))), (q_132, .inl (cy_133, 60, .inr (.inr (.inr (.inr (fun _ => none)))))), (q_134, .inl (cy_135, 120, .inl (fun _ => 0)))]) [0, 1, 2, 3] (by decide) rfl
  have hl := lv_sub hl (l' := [(1, .int 0), (0, .ref o)]) [0, 1] rfl
  refine W.widen (k := 7 + 3 * 0) (n := 300 + 90 * 0) (by omega) (by omega) ?_
  have loop : ∀ (k i : Nat), i + k = 60 → ∀ (f : Nat → Option Nat) (H : Heap) (locs : List Loc) (ls : Array Slot), va_P D vwCl ([(o, .inr (3, [.ref q_130, .int 0, .int 20, .int 60, .int 2000, .int 0, .ref q_132, .int 0, .int 0, .int 0, .ref q_134, .ref q_137, .ref q_140, .int 0])), (q_130, .inl (cy_131, 10, .inr (.inr (.inr (.inr (fun _ => none)))))), (q_132, .inl (cy_133, 60, .inr (.inr (.inr (.inr (f)))))), (q_134, .inl (cy_135, 120, .inl (fun _ => 0)))]) H → va_D A ([(o, .inr (3, [.ref q_130, .int 0, .int 20, .int 60, .int 2000, .int 0, .ref q_132, .int 0, .int 0, .int 0, .ref q_134, .ref q_137, .ref q_140, .int 0])), (q_130, .inl (cy_131, 10, .inr (.inr (.inr (.inr (fun _ => none)))))), (q_132, .inl (cy_133, 60, .inr (.inr (.inr (.inr (f)))))), (q_134, .inl (cy_135, 120, .inl (fun _ => 0)))]) → va_S A s.heap H locs → lv_has ls 2 [(1, .int (nI i)), (0, .ref o)] → W p l e R s m ([.ref o] : List Value).toArray below meth c H locs (7 + 3 * i) (300 + 90 * i) Q (F0 m 101 ls []) := by
    intro k
    induction k with
    | zero =>
      intro i hi f H locs ls hP hD hS hl
      obtain rfl : i = 60 := by omega
      refine lv_iload_n hx hb dX3_init_101 rfl (lv_at hl 0 rfl) ?_
      refine lv_bipush (v := 60) hx hb dX3_init_102 (by decide) ?_
      refine lv_icmp_ge (tgt := 126) hx hb dX3_init_104 (by decide) (fun c_142 => ?_) (fun c_142 => absurd (by decide) c_142)
      refine W.widen (k := 187) (n := 5700) (by omega) (by omega) ?_
      have hP := hP.sub (ws' := [(o, .inr (3, [.ref q_130, .int 0, .int 20, .int 60, .int 2000, .int 0, .ref q_132, .int 0, .int 0, .int 0, .ref q_134, .ref q_137, .ref q_140, .int 0])), (q_130, .inl (cy_131, 10, .inr (.inr (.inr (.inr (fun _ => none)))))), (q_134, .inl (cy_135, 120, .inl (fun _ => 0)))]) [0, 1, 3] rfl
      have hD := hD.sub (ws' := [(o, .inr (3, [.ref q_130, .int 0, .int 20, .int 60, .int 2000, .int 0, .ref q_132, .int 0, .int 0, .int 0, .ref q_134, .ref q_137, .ref q_140, .int 0])), (q_130, .inl (cy_131, 10, .inr (.inr (.inr (.inr (fun _ => none)))))), (q_134, .inl (cy_135, 120, .inl (fun _ => 0)))]) [0, 1, 3] (by decide) rfl
      rw [← hQe]
      exact W.vret hx hb hr (fun t ht hW => ⟨⟨(fun i => [q_130, q_132, q_134, q_137, q_140].getD i 0, fun i => [cy_131, cy_135].getD i 0), rfl, True.intro, ⟨Nat.zero_le _, by rw [ht]; exact hP, va_K.moved hW.alike (hK.sub (tys' := [(cy_131, .object RX1), (cy_135, .int)]) [0, 2] rfl), hD⟩⟩, hS.F ht⟩) hS.2.2 dX3_init_126
    | succ k ih =>
      intro i hi f H locs ls hP hD hS hl
      refine lv_iload_n hx hb dX3_init_101 rfl (lv_at hl 0 rfl) ?_
      refine lv_bipush (v := 60) hx hb dX3_init_102 (by decide) ?_
      refine lv_icmp_ge (tgt := 126) hx hb dX3_init_104 (by decide) (fun c_143 => absurd c_143 (nI_ge (b := 60) (by omega) (by decide))) (fun c_143 => ?_)
      refine lv_aload_n hx hb dX3_init_107 rfl (lv_at hl 1 rfl) ?_
      refine va_get (D := D) (ci := 3) (v := .ref q_132) (C := RX3) (T := TX3) (N := 14) hx hb hts (fun _ h9 => List.mem_cons_of_mem _ (List.mem_append_left _ (List.mem_append_right _ h9))) hown hK hP 0 rfl rfl 6 (by decide) (hts (.fieldLink RX3 34 "PalletStack" "items" "[LPalletStack$Item;") (List.mem_of_getElem? (i := 12) (by rfl))) (fun _ h9 => h9) rfl dX3_init_108 ?_
      refine lv_iload_n hx hb dX3_init_111 rfl (lv_at hl 0 rfl) ?_
      refine va_new (D := D) (ci := 0) (fs := [.int 0, .int 0, .int 0, .int 0, .int 0, .int 0, .int 0, .int 0, .int 0, .int 0, .int 0, .int 0, .int 0, .int 0, .int 0, .int 0, .null, .null]) (C := RX0) (T := TX0) (N := 18) hx hb hts (fun _ h9 => List.mem_cons_of_mem _ (List.mem_append_right _ h9)) tyX0 tyX0_ok hown (hts (.classLink RX3 32 RX0) (List.mem_of_getElem? (i := 11) (by rfl))) (hts (.instantiable RX0 18) (List.mem_of_getElem? (i := 18) (by rfl))) (hts (.initialized RX0) (List.mem_of_getElem? (i := 19) (by rfl))) hK hP hD hS hA rfl (fun j hj => by rcases (show j = 0 ∨ j = 1 ∨ j = 2 ∨ j = 3 ∨ j = 4 ∨ j = 5 ∨ j = 6 ∨ j = 7 ∨ j = 8 ∨ j = 9 ∨ j = 10 ∨ j = 11 ∨ j = 12 ∨ j = 13 ∨ j = 14 ∨ j = 15 ∨ j = 16 ∨ j = 17 by omega) with rfl | rfl | rfl | rfl | rfl | rfl | rfl | rfl | rfl | rfl | rfl | rfl | rfl | rfl | rfl | rfl | rfl | rfl <;> rfl) (by omega) (by omega) dX3_init_112 (fun q_144 H hP hD hS => ?_)
      have hP : va_P D vwCl ([(o, .inr (3, [.ref q_130, .int 0, .int 20, .int 60, .int 2000, .int 0, .ref q_132, .int 0, .int 0, .int 0, .ref q_134, .ref q_137, .ref q_140, .int 0])), (q_130, .inl (cy_131, 10, .inr (.inr (.inr (.inr (fun _ => none)))))), (q_132, .inl (cy_133, 60, .inr (.inr (.inr (.inr (f)))))), (q_134, .inl (cy_135, 120, .inl (fun _ => 0))), (q_144, .inr (0, [.int 0, .int 0, .int 0, .int 0, .int 0, .int 0, .int 0, .int 0, .int 0, .int 0, .int 0, .int 0, .int 0, .int 0, .int 0, .int 0, .null, .null]))]) H := hP
      have hD : va_D A ([(o, .inr (3, [.ref q_130, .int 0, .int 20, .int 60, .int 2000, .int 0, .ref q_132, .int 0, .int 0, .int 0, .ref q_134, .ref q_137, .ref q_140, .int 0])), (q_130, .inl (cy_131, 10, .inr (.inr (.inr (.inr (fun _ => none)))))), (q_132, .inl (cy_133, 60, .inr (.inr (.inr (.inr (f)))))), (q_134, .inl (cy_135, 120, .inl (fun _ => 0))), (q_144, .inr (0, [.int 0, .int 0, .int 0, .int 0, .int 0, .int 0, .int 0, .int 0, .int 0, .int 0, .int 0, .int 0, .int 0, .int 0, .int 0, .int 0, .null, .null]))]) := hD
      refine lv_dup hx hb dX3_init_115 rfl ?_
      refine zcallvINK (As := []) (rest := [.ref q_144, .int (nI i), .ref q_132]) (wc := [(q_144, .inr (0, [.int 0, .int 0, .int 0, .int 0, .int 0, .int 0, .int 0, .int 0, .int 0, .int 0, .int 0, .int 0, .int 0, .int 0, .int 0, .int 0, .null, .null]))]) (wr := [(o, .inr (3, [.ref q_130, .int 0, .int 20, .int 60, .int 2000, .int 0, .ref q_132, .int 0, .int 0, .int 0, .ref q_134, .ref q_137, .ref q_140, .int 0])), (q_130, .inl (cy_131, 10, .inr (.inr (.inr (.inr (fun _ => none)))))), (q_132, .inl (cy_133, 60, .inr (.inr (.inr (.inr (f)))))), (q_134, .inl (cy_135, 120, .inl (fun _ => 0)))]) ⟨hx, hb, hml, hown, hts⟩ (c_Item_init l D _ q_144) (⟨va_cnB (host := "PalletStack") 0 hts gX3_init_X0_init_n51 rfl rfl rfl (hKn) (hts (.initialized RX0) (List.mem_of_getElem? (i := 19) (by rfl))) (by decide +kernel) ⟨by rw [hRf]; exact Nat.le_of_ble_eq_true rfl, by rw [hRl]; exact Nat.le_of_ble_eq_true rfl⟩, rfl, (hts (.instanceMethod yX0_init) (List.mem_of_getElem? (i := 24) (by rfl)))⟩) (fun _ U _ _ h => h.moved (Vm.Alike.refl U.vm)) (fun U hW => hK0.moved hW.alike) hK hP hD hS hA [4] [0, 1, 2, 3] rfl (by decide) rfl (by decide) (by decide) [] rfl rfl hl.1 rfl (Nat.le_of_ble_eq_true rfl) dX3_init_116 ⟨by omega, by omega⟩ (fun u_146 H locs hwu_146 hnu_146 hzu_146 hK hP hD hS => ?_)
      have hK : va_K D vwCl [(cy_131, .object RX1), (cy_133, .object RX0), (cy_135, .int), (cy_141, .object RX2)] s := hK
      have hP : va_P D vwCl ([(o, .inr (3, [.ref q_130, .int 0, .int 20, .int 60, .int 2000, .int 0, .ref q_132, .int 0, .int 0, .int 0, .ref q_134, .ref q_137, .ref q_140, .int 0])), (q_130, .inl (cy_131, 10, .inr (.inr (.inr (.inr (fun _ => none)))))), (q_132, .inl (cy_133, 60, .inr (.inr (.inr (.inr (f)))))), (q_134, .inl (cy_135, 120, .inl (fun _ => 0))), (q_144, .inr (0, [.int 0, .int 0, .int 0, .int 0, .int 0, .int 0, .int 0, .int 0, .int 0, .int 0, .int 0, .int 0, .int 0, .int 0, .int 0, .int 0, .ref u_146.1, .ref u_146.2]))]) H := hP
      have hD : va_D A ([(o, .inr (3, [.ref q_130, .int 0, .int 20, .int 60, .int 2000, .int 0, .ref q_132, .int 0, .int 0, .int 0, .ref q_134, .ref q_137, .ref q_140, .int 0])), (q_130, .inl (cy_131, 10, .inr (.inr (.inr (.inr (fun _ => none)))))), (q_132, .inl (cy_133, 60, .inr (.inr (.inr (.inr (f)))))), (q_134, .inl (cy_135, 120, .inl (fun _ => 0))), (q_144, .inr (0, [.int 0, .int 0, .int 0, .int 0, .int 0, .int 0, .int 0, .int 0, .int 0, .int 0, .int 0, .int 0, .int 0, .int 0, .int 0, .int 0, .ref u_146.1, .ref u_146.2]))]) := hD
      refine va_astq hx hb hK hP hD hS 2 1 4 0 rfl rfl rfl rfl (vp_in_nI (N := 60) (by omega) (by decide)) dX3_init_119 (fun H locs hP hD hS => ?_)
      have hP : va_P D vwCl ([(o, .inr (3, [.ref q_130, .int 0, .int 20, .int 60, .int 2000, .int 0, .ref q_132, .int 0, .int 0, .int 0, .ref q_134, .ref q_137, .ref q_140, .int 0])), (q_130, .inl (cy_131, 10, .inr (.inr (.inr (.inr (fun _ => none)))))), (q_132, .inl (cy_133, 60, .inr (.inr (.inr (.inr (va_up (f) ((nI i) : Int32).toNatClampNeg (some q_144))))))), (q_134, .inl (cy_135, 120, .inl (fun _ => 0))), (q_144, .inr (0, [.int 0, .int 0, .int 0, .int 0, .int 0, .int 0, .int 0, .int 0, .int 0, .int 0, .int 0, .int 0, .int 0, .int 0, .int 0, .int 0, .ref u_146.1, .ref u_146.2]))]) H := hP
      have hD : va_D A ([(o, .inr (3, [.ref q_130, .int 0, .int 20, .int 60, .int 2000, .int 0, .ref q_132, .int 0, .int 0, .int 0, .ref q_134, .ref q_137, .ref q_140, .int 0])), (q_130, .inl (cy_131, 10, .inr (.inr (.inr (.inr (fun _ => none)))))), (q_132, .inl (cy_133, 60, .inr (.inr (.inr (.inr (va_up (f) ((nI i) : Int32).toNatClampNeg (some q_144))))))), (q_134, .inl (cy_135, 120, .inl (fun _ => 0))), (q_144, .inr (0, [.int 0, .int 0, .int 0, .int 0, .int 0, .int 0, .int 0, .int 0, .int 0, .int 0, .int 0, .int 0, .int 0, .int 0, .int 0, .int 0, .ref u_146.1, .ref u_146.2]))]) := hD
      refine lv_iinc (v := (nI (i + 1))) (lv' := [(1, .int (nI (i + 1))), (0, .ref o)]) hx hb dX3_init_120 hl (k := 0) rfl (nI_1 i) (by decide) rfl (fun ls hl => ?_)
      refine lv_goto (tgt := 101) hx hb dX3_init_123 (by decide) ?_
      have hl := lv_sub hl (l' := [(1, .int (nI (i + 1))), (0, .ref o)]) [0, 1] rfl
      have hP := hP.sub (ws' := [(o, .inr (3, [.ref q_130, .int 0, .int 20, .int 60, .int 2000, .int 0, .ref q_132, .int 0, .int 0, .int 0, .ref q_134, .ref q_137, .ref q_140, .int 0])), (q_130, .inl (cy_131, 10, .inr (.inr (.inr (.inr (fun _ => none)))))), (q_132, .inl (cy_133, 60, .inr (.inr (.inr (.inr (va_up (f) ((nI i) : Int32).toNatClampNeg (some q_144))))))), (q_134, .inl (cy_135, 120, .inl (fun _ => 0)))]) [0, 1, 2, 3] rfl
      have hD := hD.sub (ws' := [(o, .inr (3, [.ref q_130, .int 0, .int 20, .int 60, .int 2000, .int 0, .ref q_132, .int 0, .int 0, .int 0, .ref q_134, .ref q_137, .ref q_140, .int 0])), (q_130, .inl (cy_131, 10, .inr (.inr (.inr (.inr (fun _ => none)))))), (q_132, .inl (cy_133, 60, .inr (.inr (.inr (.inr (va_up (f) ((nI i) : Int32).toNatClampNeg (some q_144))))))), (q_134, .inl (cy_135, 120, .inl (fun _ => 0)))]) [0, 1, 2, 3] (by decide) rfl
      refine W.widen (k := (7 + 3 * (i + 1))) (n := (300 + 90 * (i + 1))) (by omega) (by omega) ?_
      exact ih (i + 1) (by omega) _ H locs ls hP hD hS hl
  exact loop 60 0 rfl _ H locs ls hP hD hS hl
