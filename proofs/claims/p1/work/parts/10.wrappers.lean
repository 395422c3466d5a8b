set_option maxHeartbeats 4000000 in
set_option maxRecDepth 100000 in
theorem c_Lreason_x (l : Launch) (D : zG) (sz : Nat) (hfl : l.stackTraces = false) (o kA iA tA tr lA : Nat) (ou : Nat) (a b c1 c2 : Int32) : Met l yL_reason wsL_reason ({ frames := 8, cells := 1, slots := 6, locals := 200 }) (zPcK D [] ([(o, .inr (3, [.ref kA, .int 0, .int 20, .int 60, .int 2000, .int 0, .ref iA, .int 0, .int 0, .int 0, .ref tA, .ref tr, .ref lA, .int 0]))]) sz ((zKX (va_A [(o, .inr (3, [.ref kA, .int 0, .int 20, .int 60, .int 2000, .int 0, .ref iA, .int 0, .int 0, .int 0, .ref tA, .ref tr, .ref lA, .int 0]))] sz))) [.ref o, .int a, .int b, .int c1, .int c2, .ref ou]) (va_Qi (fun (r : Int32) (u : Unit) => r = 1) (zB D (va_A ([(o, .inr (3, [.ref kA, .int 0, .int 20, .int 60, .int 2000, .int 0, .ref iA, .int 0, .int 0, .int 0, .ref tA, .ref tr, .ref lA, .int 0]))]) sz) (fun _ => []) 0 (fun _ => [])) (va_A ([(o, .inr (3, [.ref kA, .int 0, .int 20, .int 60, .int 2000, .int 0, .ref iA, .int 0, .int 0, .int 0, .ref tA, .ref tr, .ref lA, .int 0]))]) sz)) 1 6 (va_A ([(o, .inr (3, [.ref kA, .int 0, .int 20, .int 60, .int 2000, .int 0, .ref iA, .int 0, .int 0, .int 0, .ref tA, .ref tr, .ref lA, .int 0]))]) sz) := by
  refine va_MetW (cc := cL_reason) (maxL := 7) (ret := (some .int)) (hh := [(0, 14, 17, 25)]) (by decide) rfl ?_
  intro p e s m args below meth c s₁ B hml hv
  obtain ⟨rfl, ⟨hsz, hP, hK, hD0⟩, hKx⟩ := hv
  have hx := B.exec
  have hb := B.bytes
  have hr := B.returns
  have hts := atoms_spec (ws := wsL_reason) B.pre
  have hown : s.vm.findClass RL = some m.cls := findClass_of_methodNamed B.named
  have hlocks := B.notSynchronized
  subst hsz
  have hD := hD0.self (sz := s.heap.size)
  generalize hAe : va_A ([(o, .inr (3, [.ref kA, .int 0, .int 20, .int 60, .int 2000, .int 0, .ref iA, .int 0, .int 0, .int 0, .ref tA, .ref tr, .ref lA, .int 0]))]) s.heap.size = A at hD hKx ⊢
  have hA : ∀ q : Nat, s.heap.size ≤ q → A q := fun q h => by rw [← hAe]; exact Or.inr h
  have hS : va_S A s.heap s.heap [] := va_S.rf
  have hl := lv_entry ([.ref o, .int a, .int b, .int c1, .int c2, .ref ou]) (n := 7) (Nat.le_of_ble_eq_true rfl)
  rw [lg_entry_eq]
  generalize (lg_sl ([.ref o, .int a, .int b, .int c1, .int c2, .ref ou]) ++ List.replicate (7 - (lg_sl ([.ref o, .int a, .int b, .int c1, .int c2, .ref ou])).length) Slot.unset).toArray = ls at hl ⊢
  have hl : lv_has ls 7 [(0, .ref o), (1, .int a), (2, .int b), (3, .int c1), (4, .int c2), (5, .ref ou)] := hl
  have hP : va_P D vwCl ([(o, .inr (3, [.ref kA, .int 0, .int 20, .int 60, .int 2000, .int 0, .ref iA, .int 0, .int 0, .int 0, .ref tA, .ref tr, .ref lA, .int 0]))]) s.heap := hP
  generalize hRe : (headSpec _ _).room = R
  have hRf : R.frames = 8 := by rw [← hRe]; rfl
  have hRc : R.cells = 1 := by rw [← hRe]; rfl
  have hRs : R.slots = 6 := by rw [← hRe]; rfl
  have hRl : R.locals = 200 := by rw [← hRe]; rfl
  clear hRe
  have hT := vx_table (x := yL_reason) B (hts (.codeWith yL_reason cL_reason 7 (some .int) [(0, 14, 17, 25)]) List.mem_cons_self)
  refine lv_aload hx hb dL_reason_0 (lv_at hl 5 rfl) ?_
  refine lv_iconst (v := 0) hx hb dL_reason_2 (by decide) ?_
  refine lv_aload_n hx hb dL_reason_3 rfl (lv_at hl 0 rfl) ?_
  refine lv_iload_n hx hb dL_reason_4 rfl (lv_at hl 1 rfl) ?_
  refine lv_iload_n hx hb dL_reason_5 rfl (lv_at hl 2 rfl) ?_
  refine lv_iload_n hx hb dL_reason_6 rfl (lv_at hl 3 rfl) ?_
  refine lv_iload hx hb dL_reason_7 (lv_at hl 4 rfl) ?_
  refine zthrowV (As := [.int a, .int b, .int c1, .int c2]) (rest := [.int 0, .ref ou]) (wc := [(o, .inr (3, [.ref kA, .int 0, .int 20, .int 60, .int 2000, .int 0, .ref iA, .int 0, .int 0, .int 0, .ref tA, .ref tr, .ref lA, .int 0]))]) (wr := []) ⟨hx, hb, hml, hown, hts⟩ (c_reason_x l hfl D _ o kA iA tA tr lA a b c1 c2) (cwV 4 hts gL_reason_X3_reason rfl rfl rfl (by decide +kernel) ⟨by rw [hRf]; exact Nat.le_of_ble_eq_true rfl, by rw [hRl]; exact Nat.le_of_ble_eq_true rfl⟩) hKx hK hP hD hS hA [0] [] rfl (by decide) rfl (by decide) (by decide) [] rfl (ci := 3) (q0 := 0) rfl rfl rfl hl.1 rfl (Nat.le_of_ble_eq_true rfl) dL_reason_9 ⟨by omega, by omega⟩ (fun ce q9 H locs hz hP hD hS hce hcv hcl => ?_)
  refine zcatch (hh := [(0, 14, 17, 25)]) (s0 := 0) (e0 := 14) (h0 := 17) (c0 := 25) (suf := []) hown hT rfl (by decide) (by decide) (hts (.classLink RL 25 "java/lang/IndexOutOfBoundsException") (List.mem_of_getElem? (i := 1) (by rfl))) hKx.2.2.2.2.2.2 hce hcv hcl ?_
  refine lv_astore (lv' := [(6, .ref q9), (0, .ref o), (1, .int a), (2, .int b), (3, .int c1), (4, .int c2), (5, .ref ou)]) hx hb dL_reason_17 hl (by decide) rfl (fun ls hl => ?_)
  refine lv_iconst (v := 1) hx hb dL_reason_19 (by decide) ?_
  refine W.widen (k := 1) (n := 6) (by omega) (by omega) ?_
  exact W.iret (v := 1) hx hb hr (fun t ht hW => ⟨⟨1, (), rfl, rfl, ⟨Nat.zero_le _, by rw [ht]; exact hP, va_K.moved hW.alike (hK.sub (tys' := []) [] rfl), hD⟩⟩, hS.F ht⟩) hS.2.2 dL_reason_20
set_option maxHeartbeats 4000000 in
set_option maxRecDepth 100000 in
theorem c_Lput_x (l : Launch) (D : zG) (sz : Nat) (hfl : l.stackTraces = false) (o kA iA tA tr lA : Nat) (ou : Nat) (a b c1 c2 : Int32) : Met l yL_put wsL_put ({ frames := 8, cells := 1, slots := 6, locals := 200 }) (zPcK D [] ([(o, .inr (3, [.ref kA, .int 0, .int 20, .int 60, .int 2000, .int 0, .ref iA, .int 0, .int 0, .int 0, .ref tA, .ref tr, .ref lA, .int 0]))]) sz ((zKX (va_A [(o, .inr (3, [.ref kA, .int 0, .int 20, .int 60, .int 2000, .int 0, .ref iA, .int 0, .int 0, .int 0, .ref tA, .ref tr, .ref lA, .int 0]))] sz))) [.ref o, .int a, .int b, .int c1, .int c2, .ref ou]) (va_Qi (fun (r : Int32) (u : Unit) => r = 1) (zB D (va_A ([(o, .inr (3, [.ref kA, .int 0, .int 20, .int 60, .int 2000, .int 0, .ref iA, .int 0, .int 0, .int 0, .ref tA, .ref tr, .ref lA, .int 0]))]) sz) (fun _ => []) 0 (fun _ => [])) (va_A ([(o, .inr (3, [.ref kA, .int 0, .int 20, .int 60, .int 2000, .int 0, .ref iA, .int 0, .int 0, .int 0, .ref tA, .ref tr, .ref lA, .int 0]))]) sz)) 1 6 (va_A ([(o, .inr (3, [.ref kA, .int 0, .int 20, .int 60, .int 2000, .int 0, .ref iA, .int 0, .int 0, .int 0, .ref tA, .ref tr, .ref lA, .int 0]))]) sz) := by
  refine va_MetW (cc := cL_put) (maxL := 7) (ret := (some .int)) (hh := [(0, 14, 17, 25), (0, 14, 21, 15)]) (by decide) rfl ?_
  intro p e s m args below meth c s₁ B hml hv
  obtain ⟨rfl, ⟨hsz, hP, hK, hD0⟩, hKx⟩ := hv
  have hx := B.exec
  have hb := B.bytes
  have hr := B.returns
  have hts := atoms_spec (ws := wsL_put) B.pre
  have hown : s.vm.findClass RL = some m.cls := findClass_of_methodNamed B.named
  have hlocks := B.notSynchronized
  subst hsz
  have hD := hD0.self (sz := s.heap.size)
  generalize hAe : va_A ([(o, .inr (3, [.ref kA, .int 0, .int 20, .int 60, .int 2000, .int 0, .ref iA, .int 0, .int 0, .int 0, .ref tA, .ref tr, .ref lA, .int 0]))]) s.heap.size = A at hD hKx ⊢
  have hA : ∀ q : Nat, s.heap.size ≤ q → A q := fun q h => by rw [← hAe]; exact Or.inr h
  have hS : va_S A s.heap s.heap [] := va_S.rf
  have hl := lv_entry ([.ref o, .int a, .int b, .int c1, .int c2, .ref ou]) (n := 7) (Nat.le_of_ble_eq_true rfl)
  rw [lg_entry_eq]
  generalize (lg_sl ([.ref o, .int a, .int b, .int c1, .int c2, .ref ou]) ++ List.replicate (7 - (lg_sl ([.ref o, .int a, .int b, .int c1, .int c2, .ref ou])).length) Slot.unset).toArray = ls at hl ⊢
  have hl : lv_has ls 7 [(0, .ref o), (1, .int a), (2, .int b), (3, .int c1), (4, .int c2), (5, .ref ou)] := hl
  have hP : va_P D vwCl ([(o, .inr (3, [.ref kA, .int 0, .int 20, .int 60, .int 2000, .int 0, .ref iA, .int 0, .int 0, .int 0, .ref tA, .ref tr, .ref lA, .int 0]))]) s.heap := hP
  generalize hRe : (headSpec _ _).room = R
  have hRf : R.frames = 8 := by rw [← hRe]; rfl
  have hRc : R.cells = 1 := by rw [← hRe]; rfl
  have hRs : R.slots = 6 := by rw [← hRe]; rfl
  have hRl : R.locals = 200 := by rw [← hRe]; rfl
  clear hRe
  have hT := vx_table (x := yL_put) B (hts (.codeWith yL_put cL_put 7 (some .int) [(0, 14, 17, 25), (0, 14, 21, 15)]) List.mem_cons_self)
  refine lv_aload hx hb dL_put_0 (lv_at hl 5 rfl) ?_
  refine lv_iconst (v := 0) hx hb dL_put_2 (by decide) ?_
  refine lv_aload_n hx hb dL_put_3 rfl (lv_at hl 0 rfl) ?_
  refine lv_iload_n hx hb dL_put_4 rfl (lv_at hl 1 rfl) ?_
  refine lv_iload_n hx hb dL_put_5 rfl (lv_at hl 2 rfl) ?_
  refine lv_iload_n hx hb dL_put_6 rfl (lv_at hl 3 rfl) ?_
  refine lv_iload hx hb dL_put_7 (lv_at hl 4 rfl) ?_
  refine zthrowV (As := [.int a, .int b, .int c1, .int c2]) (rest := [.int 0, .ref ou]) (wc := [(o, .inr (3, [.ref kA, .int 0, .int 20, .int 60, .int 2000, .int 0, .ref iA, .int 0, .int 0, .int 0, .ref tA, .ref tr, .ref lA, .int 0]))]) (wr := []) ⟨hx, hb, hml, hown, hts⟩ (c_put_x l hfl D _ o kA iA tA tr lA a b c1 c2) (cwV 4 hts gL_put_X3_put rfl rfl rfl (by decide +kernel) ⟨by rw [hRf]; exact Nat.le_of_ble_eq_true rfl, by rw [hRl]; exact Nat.le_of_ble_eq_true rfl⟩) hKx hK hP hD hS hA [0] [] rfl (by decide) rfl (by decide) (by decide) [] rfl (ci := 3) (q0 := 0) rfl rfl rfl hl.1 rfl (Nat.le_of_ble_eq_true rfl) dL_put_9 ⟨by omega, by omega⟩ (fun ce q9 H locs hz hP hD hS hce hcv hcl => ?_)
  refine zcatch (hh := [(0, 14, 17, 25), (0, 14, 21, 15)]) (s0 := 0) (e0 := 14) (h0 := 17) (c0 := 25) (suf := [(0, 14, 21, 15)]) hown hT rfl (by decide) (by decide) (hts (.classLink RL 25 "java/lang/IndexOutOfBoundsException") (List.mem_of_getElem? (i := 1) (by rfl))) hKx.2.2.2.2.2.2 hce hcv hcl ?_
  refine lv_astore (lv' := [(6, .ref q9), (0, .ref o), (1, .int a), (2, .int b), (3, .int c1), (4, .int c2), (5, .ref ou)]) hx hb dL_put_17 hl (by decide) rfl (fun ls hl => ?_)
  refine lv_iconst (v := 1) hx hb dL_put_19 (by decide) ?_
  refine W.widen (k := 1) (n := 6) (by omega) (by omega) ?_
  exact W.iret (v := 1) hx hb hr (fun t ht hW => ⟨⟨1, (), rfl, rfl, ⟨Nat.zero_le _, by rw [ht]; exact hP, va_K.moved hW.alike (hK.sub (tys' := []) [] rfl), hD⟩⟩, hS.F ht⟩) hS.2.2 dL_put_20
set_option maxHeartbeats 4000000 in
set_option maxRecDepth 100000 in
theorem c_LtakeOff_x (l : Launch) (D : zG) (sz : Nat) (hfl : l.stackTraces = false) (o kA iA tA tr lA : Nat) (ou : Nat) (a : Int32) : Met l yL_takeOff wsL_takeOff ({ frames := 8, cells := 1, slots := 6, locals := 200 }) (zPcK D [] ([(o, .inr (3, [.ref kA, .int 0, .int 20, .int 60, .int 2000, .int 0, .ref iA, .int 0, .int 0, .int 0, .ref tA, .ref tr, .ref lA, .int 0]))]) sz ((zKX (va_A [(o, .inr (3, [.ref kA, .int 0, .int 20, .int 60, .int 2000, .int 0, .ref iA, .int 0, .int 0, .int 0, .ref tA, .ref tr, .ref lA, .int 0]))] sz))) [.ref o, .int a, .ref ou]) (va_Qi (fun (r : Int32) (u : Unit) => r = 1) (zB D (va_A ([(o, .inr (3, [.ref kA, .int 0, .int 20, .int 60, .int 2000, .int 0, .ref iA, .int 0, .int 0, .int 0, .ref tA, .ref tr, .ref lA, .int 0]))]) sz) (fun _ => []) 0 (fun _ => [])) (va_A ([(o, .inr (3, [.ref kA, .int 0, .int 20, .int 60, .int 2000, .int 0, .ref iA, .int 0, .int 0, .int 0, .ref tA, .ref tr, .ref lA, .int 0]))]) sz)) 1 6 (va_A ([(o, .inr (3, [.ref kA, .int 0, .int 20, .int 60, .int 2000, .int 0, .ref iA, .int 0, .int 0, .int 0, .ref tA, .ref tr, .ref lA, .int 0]))]) sz) := by
  refine va_MetW (cc := cL_takeOff) (maxL := 4) (ret := (some .int)) (hh := [(0, 9, 12, 25), (0, 9, 15, 15)]) (by decide) rfl ?_
  intro p e s m args below meth c s₁ B hml hv
  obtain ⟨rfl, ⟨hsz, hP, hK, hD0⟩, hKx⟩ := hv
  have hx := B.exec
  have hb := B.bytes
  have hr := B.returns
  have hts := atoms_spec (ws := wsL_takeOff) B.pre
  have hown : s.vm.findClass RL = some m.cls := findClass_of_methodNamed B.named
  have hlocks := B.notSynchronized
  subst hsz
  have hD := hD0.self (sz := s.heap.size)
  generalize hAe : va_A ([(o, .inr (3, [.ref kA, .int 0, .int 20, .int 60, .int 2000, .int 0, .ref iA, .int 0, .int 0, .int 0, .ref tA, .ref tr, .ref lA, .int 0]))]) s.heap.size = A at hD hKx ⊢
  have hA : ∀ q : Nat, s.heap.size ≤ q → A q := fun q h => by rw [← hAe]; exact Or.inr h
  have hS : va_S A s.heap s.heap [] := va_S.rf
  have hl := lv_entry ([.ref o, .int a, .ref ou]) (n := 4) (Nat.le_of_ble_eq_true rfl)
  rw [lg_entry_eq]
  generalize (lg_sl ([.ref o, .int a, .ref ou]) ++ List.replicate (4 - (lg_sl ([.ref o, .int a, .ref ou])).length) Slot.unset).toArray = ls at hl ⊢
  have hl : lv_has ls 4 [(0, .ref o), (1, .int a), (2, .ref ou)] := hl
  have hP : va_P D vwCl ([(o, .inr (3, [.ref kA, .int 0, .int 20, .int 60, .int 2000, .int 0, .ref iA, .int 0, .int 0, .int 0, .ref tA, .ref tr, .ref lA, .int 0]))]) s.heap := hP
  generalize hRe : (headSpec _ _).room = R
  have hRf : R.frames = 8 := by rw [← hRe]; rfl
  have hRc : R.cells = 1 := by rw [← hRe]; rfl
  have hRs : R.slots = 6 := by rw [← hRe]; rfl
  have hRl : R.locals = 200 := by rw [← hRe]; rfl
  clear hRe
  have hT := vx_table (x := yL_takeOff) B (hts (.codeWith yL_takeOff cL_takeOff 4 (some .int) [(0, 9, 12, 25), (0, 9, 15, 15)]) List.mem_cons_self)
  refine lv_aload_n hx hb dL_takeOff_0 rfl (lv_at hl 2 rfl) ?_
  refine lv_iconst (v := 0) hx hb dL_takeOff_1 (by decide) ?_
  refine lv_aload_n hx hb dL_takeOff_2 rfl (lv_at hl 0 rfl) ?_
  refine lv_iload_n hx hb dL_takeOff_3 rfl (lv_at hl 1 rfl) ?_
  refine zthrowV (As := [.int a]) (rest := [.int 0, .ref ou]) (wc := [(o, .inr (3, [.ref kA, .int 0, .int 20, .int 60, .int 2000, .int 0, .ref iA, .int 0, .int 0, .int 0, .ref tA, .ref tr, .ref lA, .int 0]))]) (wr := []) ⟨hx, hb, hml, hown, hts⟩ (c_takeOff_x l hfl D _ o kA iA tA tr lA a) (cwV 1 hts gL_takeOff_X3_takeOff rfl rfl rfl (by decide +kernel) ⟨by rw [hRf]; exact Nat.le_of_ble_eq_true rfl, by rw [hRl]; exact Nat.le_of_ble_eq_true rfl⟩) hKx hK hP hD hS hA [0] [] rfl (by decide) rfl (by decide) (by decide) [] rfl (ci := 3) (q0 := 0) rfl rfl rfl hl.1 rfl (Nat.le_of_ble_eq_true rfl) dL_takeOff_4 ⟨by omega, by omega⟩ (fun ce q9 H locs hz hP hD hS hce hcv hcl => ?_)
  refine zcatch (hh := [(0, 9, 12, 25), (0, 9, 15, 15)]) (s0 := 0) (e0 := 9) (h0 := 12) (c0 := 25) (suf := [(0, 9, 15, 15)]) hown hT rfl (by decide) (by decide) (hts (.classLink RL 25 "java/lang/IndexOutOfBoundsException") (List.mem_of_getElem? (i := 1) (by rfl))) hKx.2.2.2.2.2.2 hce hcv hcl ?_
  refine lv_astore_n (lv' := [(3, .ref q9), (0, .ref o), (1, .int a), (2, .ref ou)]) hx hb dL_takeOff_12 rfl hl (by decide) rfl (fun ls hl => ?_)
  refine lv_iconst (v := 1) hx hb dL_takeOff_13 (by decide) ?_
  refine W.widen (k := 1) (n := 6) (by omega) (by omega) ?_
  exact W.iret (v := 1) hx hb hr (fun t ht hW => ⟨⟨1, (), rfl, rfl, ⟨Nat.zero_le _, by rw [ht]; exact hP, va_K.moved hW.alike (hK.sub (tys' := []) [] rfl), hD⟩⟩, hS.F ht⟩) hS.2.2 dL_takeOff_14
set_option maxHeartbeats 4000000 in
set_option maxRecDepth 100000 in
theorem c_Litem_x (l : Launch) (D : zG) (sz : Nat) (hfl : l.stackTraces = false) (o kA iA tA tr lA : Nat) (ou : Nat) (a b : Int32) : Met l yL_item wsL_item ({ frames := 8, cells := 1, slots := 6, locals := 200 }) (zPcK D [] ([(o, .inr (3, [.ref kA, .int 0, .int 20, .int 60, .int 2000, .int 0, .ref iA, .int 0, .int 0, .int 0, .ref tA, .ref tr, .ref lA, .int 0]))]) sz ((zKX (va_A [(o, .inr (3, [.ref kA, .int 0, .int 20, .int 60, .int 2000, .int 0, .ref iA, .int 0, .int 0, .int 0, .ref tA, .ref tr, .ref lA, .int 0]))] sz))) [.ref o, .int a, .int b, .ref ou]) (va_Qi (fun (r : Int32) (u : Unit) => r = 1) (zB D (va_A ([(o, .inr (3, [.ref kA, .int 0, .int 20, .int 60, .int 2000, .int 0, .ref iA, .int 0, .int 0, .int 0, .ref tA, .ref tr, .ref lA, .int 0]))]) sz) (fun _ => []) 0 (fun _ => [])) (va_A ([(o, .inr (3, [.ref kA, .int 0, .int 20, .int 60, .int 2000, .int 0, .ref iA, .int 0, .int 0, .int 0, .ref tA, .ref tr, .ref lA, .int 0]))]) sz)) 1 6 (va_A ([(o, .inr (3, [.ref kA, .int 0, .int 20, .int 60, .int 2000, .int 0, .ref iA, .int 0, .int 0, .int 0, .ref tA, .ref tr, .ref lA, .int 0]))]) sz) := by
  refine va_MetW (cc := cL_item) (maxL := 5) (ret := (some .int)) (hh := [(0, 10, 13, 25)]) (by decide) rfl ?_
  intro p e s m args below meth c s₁ B hml hv
  obtain ⟨rfl, ⟨hsz, hP, hK, hD0⟩, hKx⟩ := hv
  have hx := B.exec
  have hb := B.bytes
  have hr := B.returns
  have hts := atoms_spec (ws := wsL_item) B.pre
  have hown : s.vm.findClass RL = some m.cls := findClass_of_methodNamed B.named
  have hlocks := B.notSynchronized
  subst hsz
  have hD := hD0.self (sz := s.heap.size)
  generalize hAe : va_A ([(o, .inr (3, [.ref kA, .int 0, .int 20, .int 60, .int 2000, .int 0, .ref iA, .int 0, .int 0, .int 0, .ref tA, .ref tr, .ref lA, .int 0]))]) s.heap.size = A at hD hKx ⊢
  have hA : ∀ q : Nat, s.heap.size ≤ q → A q := fun q h => by rw [← hAe]; exact Or.inr h
  have hS : va_S A s.heap s.heap [] := va_S.rf
  have hl := lv_entry ([.ref o, .int a, .int b, .ref ou]) (n := 5) (Nat.le_of_ble_eq_true rfl)
  rw [lg_entry_eq]
  generalize (lg_sl ([.ref o, .int a, .int b, .ref ou]) ++ List.replicate (5 - (lg_sl ([.ref o, .int a, .int b, .ref ou])).length) Slot.unset).toArray = ls at hl ⊢
  have hl : lv_has ls 5 [(0, .ref o), (1, .int a), (2, .int b), (3, .ref ou)] := hl
  have hP : va_P D vwCl ([(o, .inr (3, [.ref kA, .int 0, .int 20, .int 60, .int 2000, .int 0, .ref iA, .int 0, .int 0, .int 0, .ref tA, .ref tr, .ref lA, .int 0]))]) s.heap := hP
  generalize hRe : (headSpec _ _).room = R
  have hRf : R.frames = 8 := by rw [← hRe]; rfl
  have hRc : R.cells = 1 := by rw [← hRe]; rfl
  have hRs : R.slots = 6 := by rw [← hRe]; rfl
  have hRl : R.locals = 200 := by rw [← hRe]; rfl
  clear hRe
  have hT := vx_table (x := yL_item) B (hts (.codeWith yL_item cL_item 5 (some .int) [(0, 10, 13, 25)]) List.mem_cons_self)
  refine lv_aload_n hx hb dL_item_0 rfl (lv_at hl 3 rfl) ?_
  refine lv_iconst (v := 0) hx hb dL_item_1 (by decide) ?_
  refine lv_aload_n hx hb dL_item_2 rfl (lv_at hl 0 rfl) ?_
  refine lv_iload_n hx hb dL_item_3 rfl (lv_at hl 1 rfl) ?_
  refine lv_iload_n hx hb dL_item_4 rfl (lv_at hl 2 rfl) ?_
  refine zthrowV (As := [.int a, .int b]) (rest := [.int 0, .ref ou]) (wc := [(o, .inr (3, [.ref kA, .int 0, .int 20, .int 60, .int 2000, .int 0, .ref iA, .int 0, .int 0, .int 0, .ref tA, .ref tr, .ref lA, .int 0]))]) (wr := []) ⟨hx, hb, hml, hown, hts⟩ (c_item_x l hfl D _ o kA iA tA tr lA a b) (cwV 2 hts gL_item_X3_item rfl rfl rfl (by decide +kernel) ⟨by rw [hRf]; exact Nat.le_of_ble_eq_true rfl, by rw [hRl]; exact Nat.le_of_ble_eq_true rfl⟩) hKx hK hP hD hS hA [0] [] rfl (by decide) rfl (by decide) (by decide) [] rfl (ci := 3) (q0 := 0) rfl rfl rfl hl.1 rfl (Nat.le_of_ble_eq_true rfl) dL_item_5 ⟨by omega, by omega⟩ (fun ce q9 H locs hz hP hD hS hce hcv hcl => ?_)
  refine zcatch (hh := [(0, 10, 13, 25)]) (s0 := 0) (e0 := 10) (h0 := 13) (c0 := 25) (suf := []) hown hT rfl (by decide) (by decide) (hts (.classLink RL 25 "java/lang/IndexOutOfBoundsException") (List.mem_of_getElem? (i := 1) (by rfl))) hKx.2.2.2.2.2.2 hce hcv hcl ?_
  refine lv_astore (lv' := [(4, .ref q9), (0, .ref o), (1, .int a), (2, .int b), (3, .ref ou)]) hx hb dL_item_13 hl (by decide) rfl (fun ls hl => ?_)
  refine lv_iconst (v := 1) hx hb dL_item_15 (by decide) ?_
  refine W.widen (k := 1) (n := 6) (by omega) (by omega) ?_
  exact W.iret (v := 1) hx hb hr (fun t ht hW => ⟨⟨1, (), rfl, rfl, ⟨Nat.zero_le _, by rw [ht]; exact hP, va_K.moved hW.alike (hK.sub (tys' := []) [] rfl), hD⟩⟩, hS.F ht⟩) hS.2.2 dL_item_16
set_option maxHeartbeats 4000000 in
set_option maxRecDepth 100000 in
theorem c_LrestsOn_x (l : Launch) (D : zG) (sz : Nat) (hfl : l.stackTraces = false) (o kA iA tA tr lA : Nat) (ou : Nat) (a b : Int32) : Met l yL_restsOn wsL_restsOn ({ frames := 8, cells := 1, slots := 6, locals := 200 }) (zPcK D [] ([(o, .inr (3, [.ref kA, .int 0, .int 20, .int 60, .int 2000, .int 0, .ref iA, .int 0, .int 0, .int 0, .ref tA, .ref tr, .ref lA, .int 0]))]) sz ((zKX (va_A [(o, .inr (3, [.ref kA, .int 0, .int 20, .int 60, .int 2000, .int 0, .ref iA, .int 0, .int 0, .int 0, .ref tA, .ref tr, .ref lA, .int 0]))] sz))) [.ref o, .int a, .int b, .ref ou]) (va_Qi (fun (r : Int32) (u : Unit) => r = 1) (zB D (va_A ([(o, .inr (3, [.ref kA, .int 0, .int 20, .int 60, .int 2000, .int 0, .ref iA, .int 0, .int 0, .int 0, .ref tA, .ref tr, .ref lA, .int 0]))]) sz) (fun _ => []) 0 (fun _ => [])) (va_A ([(o, .inr (3, [.ref kA, .int 0, .int 20, .int 60, .int 2000, .int 0, .ref iA, .int 0, .int 0, .int 0, .ref tA, .ref tr, .ref lA, .int 0]))]) sz)) 1 6 (va_A ([(o, .inr (3, [.ref kA, .int 0, .int 20, .int 60, .int 2000, .int 0, .ref iA, .int 0, .int 0, .int 0, .ref tA, .ref tr, .ref lA, .int 0]))]) sz) := by
  refine va_MetW (cc := cL_restsOn) (maxL := 5) (ret := (some .int)) (hh := [(0, 17, 20, 25)]) (by decide) rfl ?_
  intro p e s m args below meth c s₁ B hml hv
  obtain ⟨rfl, ⟨hsz, hP, hK, hD0⟩, hKx⟩ := hv
  have hx := B.exec
  have hb := B.bytes
  have hr := B.returns
  have hts := atoms_spec (ws := wsL_restsOn) B.pre
  have hown : s.vm.findClass RL = some m.cls := findClass_of_methodNamed B.named
  have hlocks := B.notSynchronized
  subst hsz
  have hD := hD0.self (sz := s.heap.size)
  generalize hAe : va_A ([(o, .inr (3, [.ref kA, .int 0, .int 20, .int 60, .int 2000, .int 0, .ref iA, .int 0, .int 0, .int 0, .ref tA, .ref tr, .ref lA, .int 0]))]) s.heap.size = A at hD hKx ⊢
  have hA : ∀ q : Nat, s.heap.size ≤ q → A q := fun q h => by rw [← hAe]; exact Or.inr h
  have hS : va_S A s.heap s.heap [] := va_S.rf
  have hl := lv_entry ([.ref o, .int a, .int b, .ref ou]) (n := 5) (Nat.le_of_ble_eq_true rfl)
  rw [lg_entry_eq]
  generalize (lg_sl ([.ref o, .int a, .int b, .ref ou]) ++ List.replicate (5 - (lg_sl ([.ref o, .int a, .int b, .ref ou])).length) Slot.unset).toArray = ls at hl ⊢
  have hl : lv_has ls 5 [(0, .ref o), (1, .int a), (2, .int b), (3, .ref ou)] := hl
  have hP : va_P D vwCl ([(o, .inr (3, [.ref kA, .int 0, .int 20, .int 60, .int 2000, .int 0, .ref iA, .int 0, .int 0, .int 0, .ref tA, .ref tr, .ref lA, .int 0]))]) s.heap := hP
  generalize hRe : (headSpec _ _).room = R
  have hRf : R.frames = 8 := by rw [← hRe]; rfl
  have hRc : R.cells = 1 := by rw [← hRe]; rfl
  have hRs : R.slots = 6 := by rw [← hRe]; rfl
  have hRl : R.locals = 200 := by rw [← hRe]; rfl
  clear hRe
  have hT := vx_table (x := yL_restsOn) B (hts (.codeWith yL_restsOn cL_restsOn 5 (some .int) [(0, 17, 20, 25)]) List.mem_cons_self)
  refine lv_aload_n hx hb dL_restsOn_0 rfl (lv_at hl 3 rfl) ?_
  refine lv_iconst (v := 0) hx hb dL_restsOn_1 (by decide) ?_
  refine lv_aload_n hx hb dL_restsOn_2 rfl (lv_at hl 0 rfl) ?_
  refine lv_iload_n hx hb dL_restsOn_3 rfl (lv_at hl 1 rfl) ?_
  refine lv_iload_n hx hb dL_restsOn_4 rfl (lv_at hl 2 rfl) ?_
  refine zthrowV (As := [.int a, .int b]) (rest := [.int 0, .ref ou]) (wc := [(o, .inr (3, [.ref kA, .int 0, .int 20, .int 60, .int 2000, .int 0, .ref iA, .int 0, .int 0, .int 0, .ref tA, .ref tr, .ref lA, .int 0]))]) (wr := []) ⟨hx, hb, hml, hown, hts⟩ (c_restsOn_x l hfl D _ o kA iA tA tr lA a b) (cwV 2 hts gL_restsOn_X3_restsOn rfl rfl rfl (by decide +kernel) ⟨by rw [hRf]; exact Nat.le_of_ble_eq_true rfl, by rw [hRl]; exact Nat.le_of_ble_eq_true rfl⟩) hKx hK hP hD hS hA [0] [] rfl (by decide) rfl (by decide) (by decide) [] rfl (ci := 3) (q0 := 0) rfl rfl rfl hl.1 rfl (Nat.le_of_ble_eq_true rfl) dL_restsOn_5 ⟨by omega, by omega⟩ (fun ce q9 H locs hz hP hD hS hce hcv hcl => ?_)
  refine zcatch (hh := [(0, 17, 20, 25)]) (s0 := 0) (e0 := 17) (h0 := 20) (c0 := 25) (suf := []) hown hT rfl (by decide) (by decide) (hts (.classLink RL 25 "java/lang/IndexOutOfBoundsException") (List.mem_of_getElem? (i := 1) (by rfl))) hKx.2.2.2.2.2.2 hce hcv hcl ?_
  refine lv_astore (lv' := [(4, .ref q9), (0, .ref o), (1, .int a), (2, .int b), (3, .ref ou)]) hx hb dL_restsOn_20 hl (by decide) rfl (fun ls hl => ?_)
  refine lv_iconst (v := 1) hx hb dL_restsOn_22 (by decide) ?_
  refine W.widen (k := 1) (n := 6) (by omega) (by omega) ?_
  exact W.iret (v := 1) hx hb hr (fun t ht hW => ⟨⟨1, (), rfl, rfl, ⟨Nat.zero_le _, by rw [ht]; exact hP, va_K.moved hW.alike (hK.sub (tys' := []) [] rfl), hD⟩⟩, hS.F ht⟩) hS.2.2 dL_restsOn_23
set_option maxHeartbeats 4000000 in
set_option maxRecDepth 100000 in
theorem c_Lbest_x (l : Launch) (D : zG) (sz : Nat) (hfl : l.stackTraces = false) (o kA iA tA tr lA : Nat) (ou : Nat) (a : Int32) : Met l yL_best wsL_best ({ frames := 8, cells := 1, slots := 6, locals := 200 }) (zPcK D [] ([(o, .inr (3, [.ref kA, .int 0, .int 20, .int 60, .int 2000, .int 0, .ref iA, .int 0, .int 0, .int 0, .ref tA, .ref tr, .ref lA, .int 0]))]) sz ((zKX (va_A [(o, .inr (3, [.ref kA, .int 0, .int 20, .int 60, .int 2000, .int 0, .ref iA, .int 0, .int 0, .int 0, .ref tA, .ref tr, .ref lA, .int 0]))] sz))) [.ref o, .int a, .ref ou]) (va_Qi (fun (r : Int32) (u : Unit) => r = 1) (zB D (va_A ([(o, .inr (3, [.ref kA, .int 0, .int 20, .int 60, .int 2000, .int 0, .ref iA, .int 0, .int 0, .int 0, .ref tA, .ref tr, .ref lA, .int 0]))]) sz) (fun _ => []) 0 (fun _ => [])) (va_A ([(o, .inr (3, [.ref kA, .int 0, .int 20, .int 60, .int 2000, .int 0, .ref iA, .int 0, .int 0, .int 0, .ref tA, .ref tr, .ref lA, .int 0]))]) sz)) 1 6 (va_A ([(o, .inr (3, [.ref kA, .int 0, .int 20, .int 60, .int 2000, .int 0, .ref iA, .int 0, .int 0, .int 0, .ref tA, .ref tr, .ref lA, .int 0]))]) sz) := by
  refine va_MetW (cc := cL_best) (maxL := 4) (ret := (some .int)) (hh := [(0, 9, 12, 25)]) (by decide) rfl ?_
  intro p e s m args below meth c s₁ B hml hv
  obtain ⟨rfl, ⟨hsz, hP, hK, hD0⟩, hKx⟩ := hv
  have hx := B.exec
  have hb := B.bytes
  have hr := B.returns
  have hts := atoms_spec (ws := wsL_best) B.pre
  have hown : s.vm.findClass RL = some m.cls := findClass_of_methodNamed B.named
  have hlocks := B.notSynchronized
  subst hsz
  have hD := hD0.self (sz := s.heap.size)
  generalize hAe : va_A ([(o, .inr (3, [.ref kA, .int 0, .int 20, .int 60, .int 2000, .int 0, .ref iA, .int 0, .int 0, .int 0, .ref tA, .ref tr, .ref lA, .int 0]))]) s.heap.size = A at hD hKx ⊢
  have hA : ∀ q : Nat, s.heap.size ≤ q → A q := fun q h => by rw [← hAe]; exact Or.inr h
  have hS : va_S A s.heap s.heap [] := va_S.rf
  have hl := lv_entry ([.ref o, .int a, .ref ou]) (n := 4) (Nat.le_of_ble_eq_true rfl)
  rw [lg_entry_eq]
  generalize (lg_sl ([.ref o, .int a, .ref ou]) ++ List.replicate (4 - (lg_sl ([.ref o, .int a, .ref ou])).length) Slot.unset).toArray = ls at hl ⊢
  have hl : lv_has ls 4 [(0, .ref o), (1, .int a), (2, .ref ou)] := hl
  have hP : va_P D vwCl ([(o, .inr (3, [.ref kA, .int 0, .int 20, .int 60, .int 2000, .int 0, .ref iA, .int 0, .int 0, .int 0, .ref tA, .ref tr, .ref lA, .int 0]))]) s.heap := hP
  generalize hRe : (headSpec _ _).room = R
  have hRf : R.frames = 8 := by rw [← hRe]; rfl
  have hRc : R.cells = 1 := by rw [← hRe]; rfl
  have hRs : R.slots = 6 := by rw [← hRe]; rfl
  have hRl : R.locals = 200 := by rw [← hRe]; rfl
  clear hRe
  have hT := vx_table (x := yL_best) B (hts (.codeWith yL_best cL_best 4 (some .int) [(0, 9, 12, 25)]) List.mem_cons_self)
  refine lv_aload_n hx hb dL_best_0 rfl (lv_at hl 2 rfl) ?_
  refine lv_iconst (v := 0) hx hb dL_best_1 (by decide) ?_
  refine lv_aload_n hx hb dL_best_2 rfl (lv_at hl 0 rfl) ?_
  refine lv_iload_n hx hb dL_best_3 rfl (lv_at hl 1 rfl) ?_
  refine zthrowV (As := [.int a]) (rest := [.int 0, .ref ou]) (wc := [(o, .inr (3, [.ref kA, .int 0, .int 20, .int 60, .int 2000, .int 0, .ref iA, .int 0, .int 0, .int 0, .ref tA, .ref tr, .ref lA, .int 0]))]) (wr := []) ⟨hx, hb, hml, hown, hts⟩ (c_best_x l hfl D _ o kA iA tA tr lA a) (cwV 1 hts gL_best_X3_best rfl rfl rfl (by decide +kernel) ⟨by rw [hRf]; exact Nat.le_of_ble_eq_true rfl, by rw [hRl]; exact Nat.le_of_ble_eq_true rfl⟩) hKx hK hP hD hS hA [0] [] rfl (by decide) rfl (by decide) (by decide) [] rfl (ci := 3) (q0 := 0) rfl rfl rfl hl.1 rfl (Nat.le_of_ble_eq_true rfl) dL_best_4 ⟨by omega, by omega⟩ (fun ce q9 H locs hz hP hD hS hce hcv hcl => ?_)
  refine zcatch (hh := [(0, 9, 12, 25)]) (s0 := 0) (e0 := 9) (h0 := 12) (c0 := 25) (suf := []) hown hT rfl (by decide) (by decide) (hts (.classLink RL 25 "java/lang/IndexOutOfBoundsException") (List.mem_of_getElem? (i := 1) (by rfl))) hKx.2.2.2.2.2.2 hce hcv hcl ?_
  refine lv_astore_n (lv' := [(3, .ref q9), (0, .ref o), (1, .int a), (2, .ref ou)]) hx hb dL_best_12 rfl hl (by decide) rfl (fun ls hl => ?_)
  refine lv_iconst (v := 1) hx hb dL_best_13 (by decide) ?_
  refine W.widen (k := 1) (n := 6) (by omega) (by omega) ?_
  exact W.iret (v := 1) hx hb hr (fun t ht hW => ⟨⟨1, (), rfl, rfl, ⟨Nat.zero_le _, by rw [ht]; exact hP, va_K.moved hW.alike (hK.sub (tys' := []) [] rfl), hD⟩⟩, hS.F ht⟩) hS.2.2 dL_best_14
set_option maxHeartbeats 4000000 in
set_option maxRecDepth 100000 in
theorem c_Lfill_x (l : Launch) (D : zG) (sz : Nat) (hfl : l.stackTraces = false) (o kA iA tA tr lA : Nat) (ou : Nat) (a b : Int32) : Met l yL_fill wsL_fill ({ frames := 8, cells := 1, slots := 6, locals := 200 }) (zPcK D [] ([(o, .inr (3, [.ref kA, .int 0, .int 20, .int 60, .int 2000, .int 0, .ref iA, .int 0, .int 0, .int 0, .ref tA, .ref tr, .ref lA, .int 0]))]) sz ((zKX (va_A [(o, .inr (3, [.ref kA, .int 0, .int 20, .int 60, .int 2000, .int 0, .ref iA, .int 0, .int 0, .int 0, .ref tA, .ref tr, .ref lA, .int 0]))] sz))) [.ref o, .int a, .int b, .ref ou]) (va_Qi (fun (r : Int32) (u : Unit) => r = 1) (zB D (va_A ([(o, .inr (3, [.ref kA, .int 0, .int 20, .int 60, .int 2000, .int 0, .ref iA, .int 0, .int 0, .int 0, .ref tA, .ref tr, .ref lA, .int 0]))]) sz) (fun _ => []) 0 (fun _ => [])) (va_A ([(o, .inr (3, [.ref kA, .int 0, .int 20, .int 60, .int 2000, .int 0, .ref iA, .int 0, .int 0, .int 0, .ref tA, .ref tr, .ref lA, .int 0]))]) sz)) 1 6 (va_A ([(o, .inr (3, [.ref kA, .int 0, .int 20, .int 60, .int 2000, .int 0, .ref iA, .int 0, .int 0, .int 0, .ref tA, .ref tr, .ref lA, .int 0]))]) sz) := by
  refine va_MetW (cc := cL_fill) (maxL := 5) (ret := (some .int)) (hh := [(0, 10, 13, 25), (0, 10, 17, 13)]) (by decide) rfl ?_
  intro p e s m args below meth c s₁ B hml hv
  obtain ⟨rfl, ⟨hsz, hP, hK, hD0⟩, hKx⟩ := hv
  have hx := B.exec
  have hb := B.bytes
  have hr := B.returns
  have hts := atoms_spec (ws := wsL_fill) B.pre
  have hown : s.vm.findClass RL = some m.cls := findClass_of_methodNamed B.named
  have hlocks := B.notSynchronized
  subst hsz
  have hD := hD0.self (sz := s.heap.size)
  generalize hAe : va_A ([(o, .inr (3, [.ref kA, .int 0, .int 20, .int 60, .int 2000, .int 0, .ref iA, .int 0, .int 0, .int 0, .ref tA, .ref tr, .ref lA, .int 0]))]) s.heap.size = A at hD hKx ⊢
  have hA : ∀ q : Nat, s.heap.size ≤ q → A q := fun q h => by rw [← hAe]; exact Or.inr h
  have hS : va_S A s.heap s.heap [] := va_S.rf
  have hl := lv_entry ([.ref o, .int a, .int b, .ref ou]) (n := 5) (Nat.le_of_ble_eq_true rfl)
  rw [lg_entry_eq]
  generalize (lg_sl ([.ref o, .int a, .int b, .ref ou]) ++ List.replicate (5 - (lg_sl ([.ref o, .int a, .int b, .ref ou])).length) Slot.unset).toArray = ls at hl ⊢
  have hl : lv_has ls 5 [(0, .ref o), (1, .int a), (2, .int b), (3, .ref ou)] := hl
  have hP : va_P D vwCl ([(o, .inr (3, [.ref kA, .int 0, .int 20, .int 60, .int 2000, .int 0, .ref iA, .int 0, .int 0, .int 0, .ref tA, .ref tr, .ref lA, .int 0]))]) s.heap := hP
  generalize hRe : (headSpec _ _).room = R
  have hRf : R.frames = 8 := by rw [← hRe]; rfl
  have hRc : R.cells = 1 := by rw [← hRe]; rfl
  have hRs : R.slots = 6 := by rw [← hRe]; rfl
  have hRl : R.locals = 200 := by rw [← hRe]; rfl
  clear hRe
  have hT := vx_table (x := yL_fill) B (hts (.codeWith yL_fill cL_fill 5 (some .int) [(0, 10, 13, 25), (0, 10, 17, 13)]) List.mem_cons_self)
  refine lv_aload_n hx hb dL_fill_0 rfl (lv_at hl 3 rfl) ?_
  refine lv_iconst (v := 0) hx hb dL_fill_1 (by decide) ?_
  refine lv_aload_n hx hb dL_fill_2 rfl (lv_at hl 0 rfl) ?_
  refine lv_iload_n hx hb dL_fill_3 rfl (lv_at hl 1 rfl) ?_
  refine lv_iload_n hx hb dL_fill_4 rfl (lv_at hl 2 rfl) ?_
  refine zthrowV (As := [.int a, .int b]) (rest := [.int 0, .ref ou]) (wc := [(o, .inr (3, [.ref kA, .int 0, .int 20, .int 60, .int 2000, .int 0, .ref iA, .int 0, .int 0, .int 0, .ref tA, .ref tr, .ref lA, .int 0]))]) (wr := []) ⟨hx, hb, hml, hown, hts⟩ (c_fill_x l hfl D _ o kA iA tA tr lA a b) (cwV 2 hts gL_fill_X3_fill rfl rfl rfl (by decide +kernel) ⟨by rw [hRf]; exact Nat.le_of_ble_eq_true rfl, by rw [hRl]; exact Nat.le_of_ble_eq_true rfl⟩) hKx hK hP hD hS hA [0] [] rfl (by decide) rfl (by decide) (by decide) [] rfl (ci := 3) (q0 := 0) rfl rfl rfl hl.1 rfl (Nat.le_of_ble_eq_true rfl) dL_fill_5 ⟨by omega, by omega⟩ (fun ce q9 H locs hz hP hD hS hce hcv hcl => ?_)
  refine zcatch (hh := [(0, 10, 13, 25), (0, 10, 17, 13)]) (s0 := 0) (e0 := 10) (h0 := 13) (c0 := 25) (suf := [(0, 10, 17, 13)]) hown hT rfl (by decide) (by decide) (hts (.classLink RL 25 "java/lang/IndexOutOfBoundsException") (List.mem_of_getElem? (i := 1) (by rfl))) hKx.2.2.2.2.2.2 hce hcv hcl ?_
  refine lv_astore (lv' := [(4, .ref q9), (0, .ref o), (1, .int a), (2, .int b), (3, .ref ou)]) hx hb dL_fill_13 hl (by decide) rfl (fun ls hl => ?_)
  refine lv_iconst (v := 1) hx hb dL_fill_15 (by decide) ?_
  refine W.widen (k := 1) (n := 6) (by omega) (by omega) ?_
  exact W.iret (v := 1) hx hb hr (fun t ht hW => ⟨⟨1, (), rfl, rfl, ⟨Nat.zero_le _, by rw [ht]; exact hP, va_K.moved hW.alike (hK.sub (tys' := []) [] rfl), hD⟩⟩, hS.F ht⟩) hS.2.2 dL_fill_16
set_option maxHeartbeats 4000000 in
set_option maxRecDepth 100000 in
theorem c_LaddLine_x (l : Launch) (D : zG) (sz : Nat) (hfl : l.stackTraces = false) (o kA iA tA tr lA : Nat) (ou : Nat) (a b : Int32) : Met l yL_addLine wsL_addLine ({ frames := 8, cells := 1, slots := 6, locals := 200 }) (zPcK D [] ([(o, .inr (3, [.ref kA, .int 0, .int 20, .int 60, .int 2000, .int 0, .ref iA, .int 0, .int 0, .int 0, .ref tA, .ref tr, .ref lA, .int 0]))]) sz ((zKX (va_A [(o, .inr (3, [.ref kA, .int 0, .int 20, .int 60, .int 2000, .int 0, .ref iA, .int 0, .int 0, .int 0, .ref tA, .ref tr, .ref lA, .int 0]))] sz))) [.ref o, .int a, .int b, .ref ou]) (va_Qi (fun (r : Int32) (u : Unit) => r = 1) (zB D (va_A ([(o, .inr (3, [.ref kA, .int 0, .int 20, .int 60, .int 2000, .int 0, .ref iA, .int 0, .int 0, .int 0, .ref tA, .ref tr, .ref lA, .int 0]))]) sz) (fun _ => []) 0 (fun _ => [])) (va_A ([(o, .inr (3, [.ref kA, .int 0, .int 20, .int 60, .int 2000, .int 0, .ref iA, .int 0, .int 0, .int 0, .ref tA, .ref tr, .ref lA, .int 0]))]) sz)) 1 6 (va_A ([(o, .inr (3, [.ref kA, .int 0, .int 20, .int 60, .int 2000, .int 0, .ref iA, .int 0, .int 0, .int 0, .ref tA, .ref tr, .ref lA, .int 0]))]) sz) := by
  refine va_MetW (cc := cL_addLine) (maxL := 5) (ret := (some .int)) (hh := [(0, 10, 13, 25), (0, 10, 17, 13), (0, 10, 21, 15)]) (by decide) rfl ?_
  intro p e s m args below meth c s₁ B hml hv
  obtain ⟨rfl, ⟨hsz, hP, hK, hD0⟩, hKx⟩ := hv
  have hx := B.exec
  have hb := B.bytes
  have hr := B.returns
  have hts := atoms_spec (ws := wsL_addLine) B.pre
  have hown : s.vm.findClass RL = some m.cls := findClass_of_methodNamed B.named
  have hlocks := B.notSynchronized
  subst hsz
  have hD := hD0.self (sz := s.heap.size)
  generalize hAe : va_A ([(o, .inr (3, [.ref kA, .int 0, .int 20, .int 60, .int 2000, .int 0, .ref iA, .int 0, .int 0, .int 0, .ref tA, .ref tr, .ref lA, .int 0]))]) s.heap.size = A at hD hKx ⊢
  have hA : ∀ q : Nat, s.heap.size ≤ q → A q := fun q h => by rw [← hAe]; exact Or.inr h
  have hS : va_S A s.heap s.heap [] := va_S.rf
  have hl := lv_entry ([.ref o, .int a, .int b, .ref ou]) (n := 5) (Nat.le_of_ble_eq_true rfl)
  rw [lg_entry_eq]
  generalize (lg_sl ([.ref o, .int a, .int b, .ref ou]) ++ List.replicate (5 - (lg_sl ([.ref o, .int a, .int b, .ref ou])).length) Slot.unset).toArray = ls at hl ⊢
  have hl : lv_has ls 5 [(0, .ref o), (1, .int a), (2, .int b), (3, .ref ou)] := hl
  have hP : va_P D vwCl ([(o, .inr (3, [.ref kA, .int 0, .int 20, .int 60, .int 2000, .int 0, .ref iA, .int 0, .int 0, .int 0, .ref tA, .ref tr, .ref lA, .int 0]))]) s.heap := hP
  generalize hRe : (headSpec _ _).room = R
  have hRf : R.frames = 8 := by rw [← hRe]; rfl
  have hRc : R.cells = 1 := by rw [← hRe]; rfl
  have hRs : R.slots = 6 := by rw [← hRe]; rfl
  have hRl : R.locals = 200 := by rw [← hRe]; rfl
  clear hRe
  have hT := vx_table (x := yL_addLine) B (hts (.codeWith yL_addLine cL_addLine 5 (some .int) [(0, 10, 13, 25), (0, 10, 17, 13), (0, 10, 21, 15)]) List.mem_cons_self)
  refine lv_aload_n hx hb dL_addLine_0 rfl (lv_at hl 3 rfl) ?_
  refine lv_iconst (v := 0) hx hb dL_addLine_1 (by decide) ?_
  refine lv_aload_n hx hb dL_addLine_2 rfl (lv_at hl 0 rfl) ?_
  refine lv_iload_n hx hb dL_addLine_3 rfl (lv_at hl 1 rfl) ?_
  refine lv_iload_n hx hb dL_addLine_4 rfl (lv_at hl 2 rfl) ?_
  refine zthrowV (As := [.int a, .int b]) (rest := [.int 0, .ref ou]) (wc := [(o, .inr (3, [.ref kA, .int 0, .int 20, .int 60, .int 2000, .int 0, .ref iA, .int 0, .int 0, .int 0, .ref tA, .ref tr, .ref lA, .int 0]))]) (wr := []) ⟨hx, hb, hml, hown, hts⟩ (c_addLine_x l hfl D _ o kA iA tA tr lA a b) (cwV 2 hts gL_addLine_X3_addLine rfl rfl rfl (by decide +kernel) ⟨by rw [hRf]; exact Nat.le_of_ble_eq_true rfl, by rw [hRl]; exact Nat.le_of_ble_eq_true rfl⟩) hKx hK hP hD hS hA [0] [] rfl (by decide) rfl (by decide) (by decide) [] rfl (ci := 3) (q0 := 0) rfl rfl rfl hl.1 rfl (Nat.le_of_ble_eq_true rfl) dL_addLine_5 ⟨by omega, by omega⟩ (fun ce q9 H locs hz hP hD hS hce hcv hcl => ?_)
  refine zcatch (hh := [(0, 10, 13, 25), (0, 10, 17, 13), (0, 10, 21, 15)]) (s0 := 0) (e0 := 10) (h0 := 13) (c0 := 25) (suf := [(0, 10, 17, 13), (0, 10, 21, 15)]) hown hT rfl (by decide) (by decide) (hts (.classLink RL 25 "java/lang/IndexOutOfBoundsException") (List.mem_of_getElem? (i := 1) (by rfl))) hKx.2.2.2.2.2.2 hce hcv hcl ?_
  refine lv_astore (lv' := [(4, .ref q9), (0, .ref o), (1, .int a), (2, .int b), (3, .ref ou)]) hx hb dL_addLine_13 hl (by decide) rfl (fun ls hl => ?_)
  refine lv_iconst (v := 1) hx hb dL_addLine_15 (by decide) ?_
  refine W.widen (k := 1) (n := 6) (by omega) (by omega) ?_
  exact W.iret (v := 1) hx hb hr (fun t ht hW => ⟨⟨1, (), rfl, rfl, ⟨Nat.zero_le _, by rw [ht]; exact hP, va_K.moved hW.alike (hK.sub (tys' := []) [] rfl), hD⟩⟩, hS.F ht⟩) hS.2.2 dL_addLine_16
set_option maxHeartbeats 4000000 in
set_option maxRecDepth 100000 in
theorem c_Lline_x (l : Launch) (D : zG) (sz : Nat) (hfl : l.stackTraces = false) (o kA iA tA tr lA : Nat) (ou : Nat) (a b : Int32) : Met l yL_line wsL_line ({ frames := 8, cells := 1, slots := 6, locals := 200 }) (zPcK D [] ([(o, .inr (3, [.ref kA, .int 0, .int 20, .int 60, .int 2000, .int 0, .ref iA, .int 0, .int 0, .int 0, .ref tA, .ref tr, .ref lA, .int 0]))]) sz ((zKX (va_A [(o, .inr (3, [.ref kA, .int 0, .int 20, .int 60, .int 2000, .int 0, .ref iA, .int 0, .int 0, .int 0, .ref tA, .ref tr, .ref lA, .int 0]))] sz))) [.ref o, .int a, .int b, .ref ou]) (va_Qi (fun (r : Int32) (u : Unit) => r = 1) (zB D (va_A ([(o, .inr (3, [.ref kA, .int 0, .int 20, .int 60, .int 2000, .int 0, .ref iA, .int 0, .int 0, .int 0, .ref tA, .ref tr, .ref lA, .int 0]))]) sz) (fun _ => []) 0 (fun _ => [])) (va_A ([(o, .inr (3, [.ref kA, .int 0, .int 20, .int 60, .int 2000, .int 0, .ref iA, .int 0, .int 0, .int 0, .ref tA, .ref tr, .ref lA, .int 0]))]) sz)) 1 6 (va_A ([(o, .inr (3, [.ref kA, .int 0, .int 20, .int 60, .int 2000, .int 0, .ref iA, .int 0, .int 0, .int 0, .ref tA, .ref tr, .ref lA, .int 0]))]) sz) := by
  refine va_MetW (cc := cL_line) (maxL := 5) (ret := (some .int)) (hh := [(0, 10, 13, 25)]) (by decide) rfl ?_
  intro p e s m args below meth c s₁ B hml hv
  obtain ⟨rfl, ⟨hsz, hP, hK, hD0⟩, hKx⟩ := hv
  have hx := B.exec
  have hb := B.bytes
  have hr := B.returns
  have hts := atoms_spec (ws := wsL_line) B.pre
  have hown : s.vm.findClass RL = some m.cls := findClass_of_methodNamed B.named
  have hlocks := B.notSynchronized
  subst hsz
  have hD := hD0.self (sz := s.heap.size)
  generalize hAe : va_A ([(o, .inr (3, [.ref kA, .int 0, .int 20, .int 60, .int 2000, .int 0, .ref iA, .int 0, .int 0, .int 0, .ref tA, .ref tr, .ref lA, .int 0]))]) s.heap.size = A at hD hKx ⊢
  have hA : ∀ q : Nat, s.heap.size ≤ q → A q := fun q h => by rw [← hAe]; exact Or.inr h
  have hS : va_S A s.heap s.heap [] := va_S.rf
  have hl := lv_entry ([.ref o, .int a, .int b, .ref ou]) (n := 5) (Nat.le_of_ble_eq_true rfl)
  rw [lg_entry_eq]
  generalize (lg_sl ([.ref o, .int a, .int b, .ref ou]) ++ List.replicate (5 - (lg_sl ([.ref o, .int a, .int b, .ref ou])).length) Slot.unset).toArray = ls at hl ⊢
  have hl : lv_has ls 5 [(0, .ref o), (1, .int a), (2, .int b), (3, .ref ou)] := hl
  have hP : va_P D vwCl ([(o, .inr (3, [.ref kA, .int 0, .int 20, .int 60, .int 2000, .int 0, .ref iA, .int 0, .int 0, .int 0, .ref tA, .ref tr, .ref lA, .int 0]))]) s.heap := hP
  generalize hRe : (headSpec _ _).room = R
  have hRf : R.frames = 8 := by rw [← hRe]; rfl
  have hRc : R.cells = 1 := by rw [← hRe]; rfl
  have hRs : R.slots = 6 := by rw [← hRe]; rfl
  have hRl : R.locals = 200 := by rw [← hRe]; rfl
  clear hRe
  have hT := vx_table (x := yL_line) B (hts (.codeWith yL_line cL_line 5 (some .int) [(0, 10, 13, 25)]) List.mem_cons_self)
  refine lv_aload_n hx hb dL_line_0 rfl (lv_at hl 3 rfl) ?_
  refine lv_iconst (v := 0) hx hb dL_line_1 (by decide) ?_
  refine lv_aload_n hx hb dL_line_2 rfl (lv_at hl 0 rfl) ?_
  refine lv_iload_n hx hb dL_line_3 rfl (lv_at hl 1 rfl) ?_
  refine lv_iload_n hx hb dL_line_4 rfl (lv_at hl 2 rfl) ?_
  refine zthrowV (As := [.int a, .int b]) (rest := [.int 0, .ref ou]) (wc := [(o, .inr (3, [.ref kA, .int 0, .int 20, .int 60, .int 2000, .int 0, .ref iA, .int 0, .int 0, .int 0, .ref tA, .ref tr, .ref lA, .int 0]))]) (wr := []) ⟨hx, hb, hml, hown, hts⟩ (c_line_x l hfl D _ o kA iA tA tr lA a b) (cwV 2 hts gL_line_X3_line rfl rfl rfl (by decide +kernel) ⟨by rw [hRf]; exact Nat.le_of_ble_eq_true rfl, by rw [hRl]; exact Nat.le_of_ble_eq_true rfl⟩) hKx hK hP hD hS hA [0] [] rfl (by decide) rfl (by decide) (by decide) [] rfl (ci := 3) (q0 := 0) rfl rfl rfl hl.1 rfl (Nat.le_of_ble_eq_true rfl) dL_line_5 ⟨by omega, by omega⟩ (fun ce q9 H locs hz hP hD hS hce hcv hcl => ?_)
  refine zcatch (hh := [(0, 10, 13, 25)]) (s0 := 0) (e0 := 10) (h0 := 13) (c0 := 25) (suf := []) hown hT rfl (by decide) (by decide) (hts (.classLink RL 25 "java/lang/IndexOutOfBoundsException") (List.mem_of_getElem? (i := 1) (by rfl))) hKx.2.2.2.2.2.2 hce hcv hcl ?_
  refine lv_astore (lv' := [(4, .ref q9), (0, .ref o), (1, .int a), (2, .int b), (3, .ref ou)]) hx hb dL_line_13 hl (by decide) rfl (fun ls hl => ?_)
  refine lv_iconst (v := 1) hx hb dL_line_15 (by decide) ?_
  refine W.widen (k := 1) (n := 6) (by omega) (by omega) ?_
  exact W.iret (v := 1) hx hb hr (fun t ht hW => ⟨⟨1, (), rfl, rfl, ⟨Nat.zero_le _, by rw [ht]; exact hP, va_K.moved hW.alike (hK.sub (tys' := []) [] rfl), hD⟩⟩, hS.F ht⟩) hS.2.2 dL_line_16
set_option maxHeartbeats 4000000 in
set_option maxRecDepth 100000 in
theorem c_Lcount_x (l : Launch) (D : zG) (sz : Nat) (hfl : l.stackTraces = false) (o kA iA tA tr lA : Nat) (ou : Nat) (a : Int32) (h : ¬ (0 ≤ a ∧ a ≤ 3)) : Met l yL_count wsL_count ({ frames := 8, cells := 1, slots := 6, locals := 200 }) (zPcK D [] ([(o, .inr (3, [.ref kA, .int 0, .int 20, .int 60, .int 2000, .int 0, .ref iA, .int 0, .int 0, .int 0, .ref tA, .ref tr, .ref lA, .int 0]))]) sz ((zKX (va_A [(o, .inr (3, [.ref kA, .int 0, .int 20, .int 60, .int 2000, .int 0, .ref iA, .int 0, .int 0, .int 0, .ref tA, .ref tr, .ref lA, .int 0]))] sz))) [.ref o, .int a, .ref ou]) (va_Qi (fun (r : Int32) (u : Unit) => r = 1) (zB D (va_A ([(o, .inr (3, [.ref kA, .int 0, .int 20, .int 60, .int 2000, .int 0, .ref iA, .int 0, .int 0, .int 0, .ref tA, .ref tr, .ref lA, .int 0]))]) sz) (fun _ => []) 0 (fun _ => [])) (va_A ([(o, .inr (3, [.ref kA, .int 0, .int 20, .int 60, .int 2000, .int 0, .ref iA, .int 0, .int 0, .int 0, .ref tA, .ref tr, .ref lA, .int 0]))]) sz)) 1 6 (va_A ([(o, .inr (3, [.ref kA, .int 0, .int 20, .int 60, .int 2000, .int 0, .ref iA, .int 0, .int 0, .int 0, .ref tA, .ref tr, .ref lA, .int 0]))]) sz) := by
  refine va_MetW (cc := cL_count) (maxL := 4) (ret := (some .int)) (hh := [(0, 9, 12, 25)]) (by decide) rfl ?_
  intro p e s m args below meth c s₁ B hml hv
  obtain ⟨rfl, ⟨hsz, hP, hK, hD0⟩, hKx⟩ := hv
  have hx := B.exec
  have hb := B.bytes
  have hr := B.returns
  have hts := atoms_spec (ws := wsL_count) B.pre
  have hown : s.vm.findClass RL = some m.cls := findClass_of_methodNamed B.named
  have hlocks := B.notSynchronized
  subst hsz
  have hD := hD0.self (sz := s.heap.size)
  generalize hAe : va_A ([(o, .inr (3, [.ref kA, .int 0, .int 20, .int 60, .int 2000, .int 0, .ref iA, .int 0, .int 0, .int 0, .ref tA, .ref tr, .ref lA, .int 0]))]) s.heap.size = A at hD hKx ⊢
  have hA : ∀ q : Nat, s.heap.size ≤ q → A q := fun q h => by rw [← hAe]; exact Or.inr h
  have hS : va_S A s.heap s.heap [] := va_S.rf
  have hl := lv_entry ([.ref o, .int a, .ref ou]) (n := 4) (Nat.le_of_ble_eq_true rfl)
  rw [lg_entry_eq]
  generalize (lg_sl ([.ref o, .int a, .ref ou]) ++ List.replicate (4 - (lg_sl ([.ref o, .int a, .ref ou])).length) Slot.unset).toArray = ls at hl ⊢
  have hl : lv_has ls 4 [(0, .ref o), (1, .int a), (2, .ref ou)] := hl
  have hP : va_P D vwCl ([(o, .inr (3, [.ref kA, .int 0, .int 20, .int 60, .int 2000, .int 0, .ref iA, .int 0, .int 0, .int 0, .ref tA, .ref tr, .ref lA, .int 0]))]) s.heap := hP
  generalize hRe : (headSpec _ _).room = R
  have hRf : R.frames = 8 := by rw [← hRe]; rfl
  have hRc : R.cells = 1 := by rw [← hRe]; rfl
  have hRs : R.slots = 6 := by rw [← hRe]; rfl
  have hRl : R.locals = 200 := by rw [← hRe]; rfl
  clear hRe
  have hT := vx_table (x := yL_count) B (hts (.codeWith yL_count cL_count 4 (some .int) [(0, 9, 12, 25)]) List.mem_cons_self)
  refine lv_aload_n hx hb dL_count_0 rfl (lv_at hl 2 rfl) ?_
  refine lv_iconst (v := 0) hx hb dL_count_1 (by decide) ?_
  refine lv_aload_n hx hb dL_count_2 rfl (lv_at hl 0 rfl) ?_
  refine lv_iload_n hx hb dL_count_3 rfl (lv_at hl 1 rfl) ?_
  refine zthrowV (As := [.int a]) (rest := [.int 0, .ref ou]) (wc := [(o, .inr (3, [.ref kA, .int 0, .int 20, .int 60, .int 2000, .int 0, .ref iA, .int 0, .int 0, .int 0, .ref tA, .ref tr, .ref lA, .int 0]))]) (wr := []) ⟨hx, hb, hml, hown, hts⟩ (c_count_x l hfl D _ o kA iA tA tr lA a h) (cwV 1 hts gL_count_X3_count rfl rfl rfl (by decide +kernel) ⟨by rw [hRf]; exact Nat.le_of_ble_eq_true rfl, by rw [hRl]; exact Nat.le_of_ble_eq_true rfl⟩) hKx hK hP hD hS hA [0] [] rfl (by decide) rfl (by decide) (by decide) [] rfl (ci := 3) (q0 := 0) rfl rfl rfl hl.1 rfl (Nat.le_of_ble_eq_true rfl) dL_count_4 ⟨by omega, by omega⟩ (fun ce q9 H locs hz hP hD hS hce hcv hcl => ?_)
  refine zcatch (hh := [(0, 9, 12, 25)]) (s0 := 0) (e0 := 9) (h0 := 12) (c0 := 25) (suf := []) hown hT rfl (by decide) (by decide) (hts (.classLink RL 25 "java/lang/IndexOutOfBoundsException") (List.mem_of_getElem? (i := 1) (by rfl))) hKx.2.2.2.2.2.2 hce hcv hcl ?_
  refine lv_astore_n (lv' := [(3, .ref q9), (0, .ref o), (1, .int a), (2, .ref ou)]) hx hb dL_count_12 rfl hl (by decide) rfl (fun ls hl => ?_)
  refine lv_iconst (v := 1) hx hb dL_count_13 (by decide) ?_
  refine W.widen (k := 1) (n := 6) (by omega) (by omega) ?_
  exact W.iret (v := 1) hx hb hr (fun t ht hW => ⟨⟨1, (), rfl, rfl, ⟨Nat.zero_le _, by rw [ht]; exact hP, va_K.moved hW.alike (hK.sub (tys' := []) [] rfl), hD⟩⟩, hS.F ht⟩) hS.2.2 dL_count_14
set_option maxHeartbeats 4000000 in
set_option maxRecDepth 100000 in
theorem c_Lsum_x (l : Launch) (D : zG) (sz : Nat) (hfl : l.stackTraces = false) (o kA iA tA tr lA : Nat) (ou : Nat) (a : Int32) (h : ¬ (0 ≤ a ∧ a ≤ 3)) : Met l yL_sum wsL_sum ({ frames := 8, cells := 1, slots := 6, locals := 200 }) (zPcK D [] ([(o, .inr (3, [.ref kA, .int 0, .int 20, .int 60, .int 2000, .int 0, .ref iA, .int 0, .int 0, .int 0, .ref tA, .ref tr, .ref lA, .int 0]))]) sz ((zKX (va_A [(o, .inr (3, [.ref kA, .int 0, .int 20, .int 60, .int 2000, .int 0, .ref iA, .int 0, .int 0, .int 0, .ref tA, .ref tr, .ref lA, .int 0]))] sz))) [.ref o, .int a, .ref ou]) (va_Qi (fun (r : Int32) (u : Unit) => r = 1) (zB D (va_A ([(o, .inr (3, [.ref kA, .int 0, .int 20, .int 60, .int 2000, .int 0, .ref iA, .int 0, .int 0, .int 0, .ref tA, .ref tr, .ref lA, .int 0]))]) sz) (fun _ => []) 0 (fun _ => [])) (va_A ([(o, .inr (3, [.ref kA, .int 0, .int 20, .int 60, .int 2000, .int 0, .ref iA, .int 0, .int 0, .int 0, .ref tA, .ref tr, .ref lA, .int 0]))]) sz)) 1 6 (va_A ([(o, .inr (3, [.ref kA, .int 0, .int 20, .int 60, .int 2000, .int 0, .ref iA, .int 0, .int 0, .int 0, .ref tA, .ref tr, .ref lA, .int 0]))]) sz) := by
  refine va_MetW (cc := cL_sum) (maxL := 4) (ret := (some .int)) (hh := [(0, 9, 12, 25)]) (by decide) rfl ?_
  intro p e s m args below meth c s₁ B hml hv
  obtain ⟨rfl, ⟨hsz, hP, hK, hD0⟩, hKx⟩ := hv
  have hx := B.exec
  have hb := B.bytes
  have hr := B.returns
  have hts := atoms_spec (ws := wsL_sum) B.pre
  have hown : s.vm.findClass RL = some m.cls := findClass_of_methodNamed B.named
  have hlocks := B.notSynchronized
  subst hsz
  have hD := hD0.self (sz := s.heap.size)
  generalize hAe : va_A ([(o, .inr (3, [.ref kA, .int 0, .int 20, .int 60, .int 2000, .int 0, .ref iA, .int 0, .int 0, .int 0, .ref tA, .ref tr, .ref lA, .int 0]))]) s.heap.size = A at hD hKx ⊢
  have hA : ∀ q : Nat, s.heap.size ≤ q → A q := fun q h => by rw [← hAe]; exact Or.inr h
  have hS : va_S A s.heap s.heap [] := va_S.rf
  have hl := lv_entry ([.ref o, .int a, .ref ou]) (n := 4) (Nat.le_of_ble_eq_true rfl)
  rw [lg_entry_eq]
  generalize (lg_sl ([.ref o, .int a, .ref ou]) ++ List.replicate (4 - (lg_sl ([.ref o, .int a, .ref ou])).length) Slot.unset).toArray = ls at hl ⊢
  have hl : lv_has ls 4 [(0, .ref o), (1, .int a), (2, .ref ou)] := hl
  have hP : va_P D vwCl ([(o, .inr (3, [.ref kA, .int 0, .int 20, .int 60, .int 2000, .int 0, .ref iA, .int 0, .int 0, .int 0, .ref tA, .ref tr, .ref lA, .int 0]))]) s.heap := hP
  generalize hRe : (headSpec _ _).room = R
  have hRf : R.frames = 8 := by rw [← hRe]; rfl
  have hRc : R.cells = 1 := by rw [← hRe]; rfl
  have hRs : R.slots = 6 := by rw [← hRe]; rfl
  have hRl : R.locals = 200 := by rw [← hRe]; rfl
  clear hRe
  have hT := vx_table (x := yL_sum) B (hts (.codeWith yL_sum cL_sum 4 (some .int) [(0, 9, 12, 25)]) List.mem_cons_self)
  refine lv_aload_n hx hb dL_sum_0 rfl (lv_at hl 2 rfl) ?_
  refine lv_iconst (v := 0) hx hb dL_sum_1 (by decide) ?_
  refine lv_aload_n hx hb dL_sum_2 rfl (lv_at hl 0 rfl) ?_
  refine lv_iload_n hx hb dL_sum_3 rfl (lv_at hl 1 rfl) ?_
  refine zthrowV (As := [.int a]) (rest := [.int 0, .ref ou]) (wc := [(o, .inr (3, [.ref kA, .int 0, .int 20, .int 60, .int 2000, .int 0, .ref iA, .int 0, .int 0, .int 0, .ref tA, .ref tr, .ref lA, .int 0]))]) (wr := []) ⟨hx, hb, hml, hown, hts⟩ (c_sum_x l hfl D _ o kA iA tA tr lA a h) (cwV 1 hts gL_sum_X3_sum rfl rfl rfl (by decide +kernel) ⟨by rw [hRf]; exact Nat.le_of_ble_eq_true rfl, by rw [hRl]; exact Nat.le_of_ble_eq_true rfl⟩) hKx hK hP hD hS hA [0] [] rfl (by decide) rfl (by decide) (by decide) [] rfl (ci := 3) (q0 := 0) rfl rfl rfl hl.1 rfl (Nat.le_of_ble_eq_true rfl) dL_sum_4 ⟨by omega, by omega⟩ (fun ce q9 H locs hz hP hD hS hce hcv hcl => ?_)
  refine zcatch (hh := [(0, 9, 12, 25)]) (s0 := 0) (e0 := 9) (h0 := 12) (c0 := 25) (suf := []) hown hT rfl (by decide) (by decide) (hts (.classLink RL 25 "java/lang/IndexOutOfBoundsException") (List.mem_of_getElem? (i := 1) (by rfl))) hKx.2.2.2.2.2.2 hce hcv hcl ?_
  refine lv_astore_n (lv' := [(3, .ref q9), (0, .ref o), (1, .int a), (2, .ref ou)]) hx hb dL_sum_12 rfl hl (by decide) rfl (fun ls hl => ?_)
  refine lv_iconst (v := 1) hx hb dL_sum_13 (by decide) ?_
  refine W.widen (k := 1) (n := 6) (by omega) (by omega) ?_
  exact W.iret (v := 1) hx hb hr (fun t ht hW => ⟨⟨1, (), rfl, rfl, ⟨Nat.zero_le _, by rw [ht]; exact hP, va_K.moved hW.alike (hK.sub (tys' := []) [] rfl), hD⟩⟩, hS.F ht⟩) hS.2.2 dL_sum_14
set_option maxHeartbeats 4000000 in
set_option maxRecDepth 100000 in
theorem c_Ltop_x (l : Launch) (D : zG) (sz : Nat) (hfl : l.stackTraces = false) (o kA iA tA tr lA : Nat) (ou : Nat) (a b : Int32) (h : ¬ ((0 ≤ a ∧ a ≤ 11) ∧ (0 ≤ b ∧ b ≤ 9))) : Met l yL_top wsL_top ({ frames := 8, cells := 1, slots := 6, locals := 200 }) (zPcK D [] ([(o, .inr (3, [.ref kA, .int 0, .int 20, .int 60, .int 2000, .int 0, .ref iA, .int 0, .int 0, .int 0, .ref tA, .ref tr, .ref lA, .int 0]))]) sz ((zKX (va_A [(o, .inr (3, [.ref kA, .int 0, .int 20, .int 60, .int 2000, .int 0, .ref iA, .int 0, .int 0, .int 0, .ref tA, .ref tr, .ref lA, .int 0]))] sz))) [.ref o, .int a, .int b, .ref ou]) (va_Qi (fun (r : Int32) (u : Unit) => r = 1) (zB D (va_A ([(o, .inr (3, [.ref kA, .int 0, .int 20, .int 60, .int 2000, .int 0, .ref iA, .int 0, .int 0, .int 0, .ref tA, .ref tr, .ref lA, .int 0]))]) sz) (fun _ => []) 0 (fun _ => [])) (va_A ([(o, .inr (3, [.ref kA, .int 0, .int 20, .int 60, .int 2000, .int 0, .ref iA, .int 0, .int 0, .int 0, .ref tA, .ref tr, .ref lA, .int 0]))]) sz)) 1 6 (va_A ([(o, .inr (3, [.ref kA, .int 0, .int 20, .int 60, .int 2000, .int 0, .ref iA, .int 0, .int 0, .int 0, .ref tA, .ref tr, .ref lA, .int 0]))]) sz) := by
  refine va_MetW (cc := cL_top) (maxL := 5) (ret := (some .int)) (hh := [(0, 10, 13, 25)]) (by decide) rfl ?_
  intro p e s m args below meth c s₁ B hml hv
  obtain ⟨rfl, ⟨hsz, hP, hK, hD0⟩, hKx⟩ := hv
  have hx := B.exec
  have hb := B.bytes
  have hr := B.returns
  have hts := atoms_spec (ws := wsL_top) B.pre
  have hown : s.vm.findClass RL = some m.cls := findClass_of_methodNamed B.named
  have hlocks := B.notSynchronized
  subst hsz
  have hD := hD0.self (sz := s.heap.size)
  generalize hAe : va_A ([(o, .inr (3, [.ref kA, .int 0, .int 20, .int 60, .int 2000, .int 0, .ref iA, .int 0, .int 0, .int 0, .ref tA, .ref tr, .ref lA, .int 0]))]) s.heap.size = A at hD hKx ⊢
  have hA : ∀ q : Nat, s.heap.size ≤ q → A q := fun q h => by rw [← hAe]; exact Or.inr h
  have hS : va_S A s.heap s.heap [] := va_S.rf
  have hl := lv_entry ([.ref o, .int a, .int b, .ref ou]) (n := 5) (Nat.le_of_ble_eq_true rfl)
  rw [lg_entry_eq]
  generalize (lg_sl ([.ref o, .int a, .int b, .ref ou]) ++ List.replicate (5 - (lg_sl ([.ref o, .int a, .int b, .ref ou])).length) Slot.unset).toArray = ls at hl ⊢
  have hl : lv_has ls 5 [(0, .ref o), (1, .int a), (2, .int b), (3, .ref ou)] := hl
  have hP : va_P D vwCl ([(o, .inr (3, [.ref kA, .int 0, .int 20, .int 60, .int 2000, .int 0, .ref iA, .int 0, .int 0, .int 0, .ref tA, .ref tr, .ref lA, .int 0]))]) s.heap := hP
  generalize hRe : (headSpec _ _).room = R
  have hRf : R.frames = 8 := by rw [← hRe]; rfl
  have hRc : R.cells = 1 := by rw [← hRe]; rfl
  have hRs : R.slots = 6 := by rw [← hRe]; rfl
  have hRl : R.locals = 200 := by rw [← hRe]; rfl
  clear hRe
  have hT := vx_table (x := yL_top) B (hts (.codeWith yL_top cL_top 5 (some .int) [(0, 10, 13, 25)]) List.mem_cons_self)
  refine lv_aload_n hx hb dL_top_0 rfl (lv_at hl 3 rfl) ?_
  refine lv_iconst (v := 0) hx hb dL_top_1 (by decide) ?_
  refine lv_aload_n hx hb dL_top_2 rfl (lv_at hl 0 rfl) ?_
  refine lv_iload_n hx hb dL_top_3 rfl (lv_at hl 1 rfl) ?_
  refine lv_iload_n hx hb dL_top_4 rfl (lv_at hl 2 rfl) ?_
  refine zthrowV (As := [.int a, .int b]) (rest := [.int 0, .ref ou]) (wc := [(o, .inr (3, [.ref kA, .int 0, .int 20, .int 60, .int 2000, .int 0, .ref iA, .int 0, .int 0, .int 0, .ref tA, .ref tr, .ref lA, .int 0]))]) (wr := []) ⟨hx, hb, hml, hown, hts⟩ (c_top_x l hfl D _ o kA iA tA tr lA a b h) (cwV 2 hts gL_top_X3_top rfl rfl rfl (by decide +kernel) ⟨by rw [hRf]; exact Nat.le_of_ble_eq_true rfl, by rw [hRl]; exact Nat.le_of_ble_eq_true rfl⟩) hKx hK hP hD hS hA [0] [] rfl (by decide) rfl (by decide) (by decide) [] rfl (ci := 3) (q0 := 0) rfl rfl rfl hl.1 rfl (Nat.le_of_ble_eq_true rfl) dL_top_5 ⟨by omega, by omega⟩ (fun ce q9 H locs hz hP hD hS hce hcv hcl => ?_)
  refine zcatch (hh := [(0, 10, 13, 25)]) (s0 := 0) (e0 := 10) (h0 := 13) (c0 := 25) (suf := []) hown hT rfl (by decide) (by decide) (hts (.classLink RL 25 "java/lang/IndexOutOfBoundsException") (List.mem_of_getElem? (i := 1) (by rfl))) hKx.2.2.2.2.2.2 hce hcv hcl ?_
  refine lv_astore (lv' := [(4, .ref q9), (0, .ref o), (1, .int a), (2, .int b), (3, .ref ou)]) hx hb dL_top_13 hl (by decide) rfl (fun ls hl => ?_)
  refine lv_iconst (v := 1) hx hb dL_top_15 (by decide) ?_
  refine W.widen (k := 1) (n := 6) (by omega) (by omega) ?_
  exact W.iret (v := 1) hx hb hr (fun t ht hW => ⟨⟨1, (), rfl, rfl, ⟨Nat.zero_le _, by rw [ht]; exact hP, va_K.moved hW.alike (hK.sub (tys' := []) [] rfl), hD⟩⟩, hS.F ht⟩) hS.2.2 dL_top_16
set_option maxHeartbeats 4000000 in
set_option maxRecDepth 100000 in
theorem c_Lat_x (l : Launch) (D : zG) (sz : Nat) (hfl : l.stackTraces = false) (o kA iA tA tr lA : Nat) (ou : Nat) (a b c1 : Int32) (h : ¬ (((0 ≤ a ∧ a ≤ 11) ∧ (0 ≤ b ∧ b ≤ 9)) ∧ (0 ≤ c1 ∧ c1 ≤ 39))) : Met l yL_at wsL_at ({ frames := 8, cells := 1, slots := 6, locals := 200 }) (zPcK D [] ([(o, .inr (3, [.ref kA, .int 0, .int 20, .int 60, .int 2000, .int 0, .ref iA, .int 0, .int 0, .int 0, .ref tA, .ref tr, .ref lA, .int 0]))]) sz ((zKX (va_A [(o, .inr (3, [.ref kA, .int 0, .int 20, .int 60, .int 2000, .int 0, .ref iA, .int 0, .int 0, .int 0, .ref tA, .ref tr, .ref lA, .int 0]))] sz))) [.ref o, .int a, .int b, .int c1, .ref ou]) (va_Qi (fun (r : Int32) (u : Unit) => r = 1) (zB D (va_A ([(o, .inr (3, [.ref kA, .int 0, .int 20, .int 60, .int 2000, .int 0, .ref iA, .int 0, .int 0, .int 0, .ref tA, .ref tr, .ref lA, .int 0]))]) sz) (fun _ => []) 0 (fun _ => [])) (va_A ([(o, .inr (3, [.ref kA, .int 0, .int 20, .int 60, .int 2000, .int 0, .ref iA, .int 0, .int 0, .int 0, .ref tA, .ref tr, .ref lA, .int 0]))]) sz)) 1 6 (va_A ([(o, .inr (3, [.ref kA, .int 0, .int 20, .int 60, .int 2000, .int 0, .ref iA, .int 0, .int 0, .int 0, .ref tA, .ref tr, .ref lA, .int 0]))]) sz) := by
  refine va_MetW (cc := cL_at) (maxL := 6) (ret := (some .int)) (hh := [(0, 12, 15, 25)]) (by decide) rfl ?_
  intro p e s m args below meth c s₁ B hml hv
  obtain ⟨rfl, ⟨hsz, hP, hK, hD0⟩, hKx⟩ := hv
  have hx := B.exec
  have hb := B.bytes
  have hr := B.returns
  have hts := atoms_spec (ws := wsL_at) B.pre
  have hown : s.vm.findClass RL = some m.cls := findClass_of_methodNamed B.named
  have hlocks := B.notSynchronized
  subst hsz
  have hD := hD0.self (sz := s.heap.size)
  generalize hAe : va_A ([(o, .inr (3, [.ref kA, .int 0, .int 20, .int 60, .int 2000, .int 0, .ref iA, .int 0, .int 0, .int 0, .ref tA, .ref tr, .ref lA, .int 0]))]) s.heap.size = A at hD hKx ⊢
  have hA : ∀ q : Nat, s.heap.size ≤ q → A q := fun q h => by rw [← hAe]; exact Or.inr h
  have hS : va_S A s.heap s.heap [] := va_S.rf
  have hl := lv_entry ([.ref o, .int a, .int b, .int c1, .ref ou]) (n := 6) (Nat.le_of_ble_eq_true rfl)
  rw [lg_entry_eq]
  generalize (lg_sl ([.ref o, .int a, .int b, .int c1, .ref ou]) ++ List.replicate (6 - (lg_sl ([.ref o, .int a, .int b, .int c1, .ref ou])).length) Slot.unset).toArray = ls at hl ⊢
  have hl : lv_has ls 6 [(0, .ref o), (1, .int a), (2, .int b), (3, .int c1), (4, .ref ou)] := hl
  have hP : va_P D vwCl ([(o, .inr (3, [.ref kA, .int 0, .int 20, .int 60, .int 2000, .int 0, .ref iA, .int 0, .int 0, .int 0, .ref tA, .ref tr, .ref lA, .int 0]))]) s.heap := hP
  generalize hRe : (headSpec _ _).room = R
  have hRf : R.frames = 8 := by rw [← hRe]; rfl
  have hRc : R.cells = 1 := by rw [← hRe]; rfl
  have hRs : R.slots = 6 := by rw [← hRe]; rfl
  have hRl : R.locals = 200 := by rw [← hRe]; rfl
  clear hRe
  have hT := vx_table (x := yL_at) B (hts (.codeWith yL_at cL_at 6 (some .int) [(0, 12, 15, 25)]) List.mem_cons_self)
  refine lv_aload hx hb dL_at_0 (lv_at hl 4 rfl) ?_
  refine lv_iconst (v := 0) hx hb dL_at_2 (by decide) ?_
  refine lv_aload_n hx hb dL_at_3 rfl (lv_at hl 0 rfl) ?_
  refine lv_iload_n hx hb dL_at_4 rfl (lv_at hl 1 rfl) ?_
  refine lv_iload_n hx hb dL_at_5 rfl (lv_at hl 2 rfl) ?_
  refine lv_iload_n hx hb dL_at_6 rfl (lv_at hl 3 rfl) ?_
  refine zthrowV (As := [.int a, .int b, .int c1]) (rest := [.int 0, .ref ou]) (wc := [(o, .inr (3, [.ref kA, .int 0, .int 20, .int 60, .int 2000, .int 0, .ref iA, .int 0, .int 0, .int 0, .ref tA, .ref tr, .ref lA, .int 0]))]) (wr := []) ⟨hx, hb, hml, hown, hts⟩ (c_at_x l hfl D _ o kA iA tA tr lA a b c1 h) (cwV 3 hts gL_at_X3_at rfl rfl rfl (by decide +kernel) ⟨by rw [hRf]; exact Nat.le_of_ble_eq_true rfl, by rw [hRl]; exact Nat.le_of_ble_eq_true rfl⟩) hKx hK hP hD hS hA [0] [] rfl (by decide) rfl (by decide) (by decide) [] rfl (ci := 3) (q0 := 0) rfl rfl rfl hl.1 rfl (Nat.le_of_ble_eq_true rfl) dL_at_7 ⟨by omega, by omega⟩ (fun ce q9 H locs hz hP hD hS hce hcv hcl => ?_)
  refine zcatch (hh := [(0, 12, 15, 25)]) (s0 := 0) (e0 := 12) (h0 := 15) (c0 := 25) (suf := []) hown hT rfl (by decide) (by decide) (hts (.classLink RL 25 "java/lang/IndexOutOfBoundsException") (List.mem_of_getElem? (i := 1) (by rfl))) hKx.2.2.2.2.2.2 hce hcv hcl ?_
  refine lv_astore (lv' := [(5, .ref q9), (0, .ref o), (1, .int a), (2, .int b), (3, .int c1), (4, .ref ou)]) hx hb dL_at_15 hl (by decide) rfl (fun ls hl => ?_)
  refine lv_iconst (v := 1) hx hb dL_at_17 (by decide) ?_
  refine W.widen (k := 1) (n := 6) (by omega) (by omega) ?_
  exact W.iret (v := 1) hx hb hr (fun t ht hW => ⟨⟨1, (), rfl, rfl, ⟨Nat.zero_le _, by rw [ht]; exact hP, va_K.moved hW.alike (hK.sub (tys' := []) [] rfl), hD⟩⟩, hS.F ht⟩) hS.2.2 dL_at_18
set_option maxHeartbeats 4000000 in
set_option maxRecDepth 100000 in
theorem c_LsetRules_x (l : Launch) (D : zG) (sz : Nat) (hfl : l.stackTraces = false) (o kA iA tA tr lA : Nat) (ou : Nat) (a b c1 t : Int32) (h : ¬ ((1 ≤ a ∧ a ≤ 40) ∧ (0 ≤ b ∧ b ≤ 100) ∧ (1 ≤ c1 ∧ c1 ≤ 20000))) : Met l yL_setRules wsL_setRules ({ frames := 8, cells := 1, slots := 6, locals := 200 }) (zPcK D [] ([(o, .inr (3, [.ref kA, .int 0, .int 20, .int 60, .int 2000, .int 0, .ref iA, .int 0, .int 0, .int 0, .ref tA, .ref tr, .ref lA, .int 0]))]) sz ((zKX (va_A [(o, .inr (3, [.ref kA, .int 0, .int 20, .int 60, .int 2000, .int 0, .ref iA, .int 0, .int 0, .int 0, .ref tA, .ref tr, .ref lA, .int 0]))] sz))) [.ref o, .int a, .int b, .int c1, .int t, .ref ou]) (va_Qi (fun (r : Int32) (u : Unit) => r = 1) (zB D (va_A ([(o, .inr (3, [.ref kA, .int 0, .int 20, .int 60, .int 2000, .int 0, .ref iA, .int 0, .int 0, .int 0, .ref tA, .ref tr, .ref lA, .int 0]))]) sz) (fun _ => []) 0 (fun _ => [])) (va_A ([(o, .inr (3, [.ref kA, .int 0, .int 20, .int 60, .int 2000, .int 0, .ref iA, .int 0, .int 0, .int 0, .ref tA, .ref tr, .ref lA, .int 0]))]) sz)) 1 6 (va_A ([(o, .inr (3, [.ref kA, .int 0, .int 20, .int 60, .int 2000, .int 0, .ref iA, .int 0, .int 0, .int 0, .ref tA, .ref tr, .ref lA, .int 0]))]) sz) := by
  refine va_MetW (cc := cL_setRules) (maxL := 7) (ret := (some .int)) (hh := [(0, 14, 17, 13)]) (by decide) rfl ?_
  intro p e s m args below meth c s₁ B hml hv
  obtain ⟨rfl, ⟨hsz, hP, hK, hD0⟩, hKx⟩ := hv
  have hx := B.exec
  have hb := B.bytes
  have hr := B.returns
  have hts := atoms_spec (ws := wsL_setRules) B.pre
  have hown : s.vm.findClass RL = some m.cls := findClass_of_methodNamed B.named
  have hlocks := B.notSynchronized
  subst hsz
  have hD := hD0.self (sz := s.heap.size)
  generalize hAe : va_A ([(o, .inr (3, [.ref kA, .int 0, .int 20, .int 60, .int 2000, .int 0, .ref iA, .int 0, .int 0, .int 0, .ref tA, .ref tr, .ref lA, .int 0]))]) s.heap.size = A at hD hKx ⊢
  have hA : ∀ q : Nat, s.heap.size ≤ q → A q := fun q h => by rw [← hAe]; exact Or.inr h
  have hS : va_S A s.heap s.heap [] := va_S.rf
  have hl := lv_entry ([.ref o, .int a, .int b, .int c1, .int t, .ref ou]) (n := 7) (Nat.le_of_ble_eq_true rfl)
  rw [lg_entry_eq]
  generalize (lg_sl ([.ref o, .int a, .int b, .int c1, .int t, .ref ou]) ++ List.replicate (7 - (lg_sl ([.ref o, .int a, .int b, .int c1, .int t, .ref ou])).length) Slot.unset).toArray = ls at hl ⊢
  have hl : lv_has ls 7 [(0, .ref o), (1, .int a), (2, .int b), (3, .int c1), (4, .int t), (5, .ref ou)] := hl
  have hP : va_P D vwCl ([(o, .inr (3, [.ref kA, .int 0, .int 20, .int 60, .int 2000, .int 0, .ref iA, .int 0, .int 0, .int 0, .ref tA, .ref tr, .ref lA, .int 0]))]) s.heap := hP
  generalize hRe : (headSpec _ _).room = R
  have hRf : R.frames = 8 := by rw [← hRe]; rfl
  have hRc : R.cells = 1 := by rw [← hRe]; rfl
  have hRs : R.slots = 6 := by rw [← hRe]; rfl
  have hRl : R.locals = 200 := by rw [← hRe]; rfl
  clear hRe
  have hT := vx_table (x := yL_setRules) B (hts (.codeWith yL_setRules cL_setRules 7 (some .int) [(0, 14, 17, 13)]) List.mem_cons_self)
  refine lv_aload hx hb dL_setRules_0 (lv_at hl 5 rfl) ?_
  refine lv_iconst (v := 0) hx hb dL_setRules_2 (by decide) ?_
  refine lv_aload_n hx hb dL_setRules_3 rfl (lv_at hl 0 rfl) ?_
  refine lv_iload_n hx hb dL_setRules_4 rfl (lv_at hl 1 rfl) ?_
  refine lv_iload_n hx hb dL_setRules_5 rfl (lv_at hl 2 rfl) ?_
  refine lv_iload_n hx hb dL_setRules_6 rfl (lv_at hl 3 rfl) ?_
  refine lv_iload hx hb dL_setRules_7 (lv_at hl 4 rfl) ?_
  refine zthrowV (As := [.int a, .int b, .int c1, .int t]) (rest := [.int 0, .ref ou]) (wc := [(o, .inr (3, [.ref kA, .int 0, .int 20, .int 60, .int 2000, .int 0, .ref iA, .int 0, .int 0, .int 0, .ref tA, .ref tr, .ref lA, .int 0]))]) (wr := []) ⟨hx, hb, hml, hown, hts⟩ (c_setRules_x l hfl D _ o kA iA tA tr lA a b c1 t h) (cwV 4 hts gL_setRules_X3_setRules rfl rfl rfl (by decide +kernel) ⟨by rw [hRf]; exact Nat.le_of_ble_eq_true rfl, by rw [hRl]; exact Nat.le_of_ble_eq_true rfl⟩) hKx hK hP hD hS hA [0] [] rfl (by decide) rfl (by decide) (by decide) [] rfl (ci := 3) (q0 := 0) rfl rfl rfl hl.1 rfl (Nat.le_of_ble_eq_true rfl) dL_setRules_9 ⟨by omega, by omega⟩ (fun ce q9 H locs hz hP hD hS hce hcv hcl => ?_)
  refine zcatch (hh := [(0, 14, 17, 13)]) (s0 := 0) (e0 := 14) (h0 := 17) (c0 := 13) (suf := []) hown hT rfl (by decide) (by decide) (hts (.classLink RL 13 "java/lang/IllegalArgumentException") (List.mem_of_getElem? (i := 1) (by rfl))) hKx.2.2.2.2.2.1 hce hcv hcl ?_
  refine lv_astore (lv' := [(6, .ref q9), (0, .ref o), (1, .int a), (2, .int b), (3, .int c1), (4, .int t), (5, .ref ou)]) hx hb dL_setRules_17 hl (by decide) rfl (fun ls hl => ?_)
  refine lv_iconst (v := 1) hx hb dL_setRules_19 (by decide) ?_
  refine W.widen (k := 1) (n := 6) (by omega) (by omega) ?_
  exact W.iret (v := 1) hx hb hr (fun t ht hW => ⟨⟨1, (), rfl, rfl, ⟨Nat.zero_le _, by rw [ht]; exact hP, va_K.moved hW.alike (hK.sub (tys' := []) [] rfl), hD⟩⟩, hS.F ht⟩) hS.2.2 dL_setRules_20
set_option maxHeartbeats 4000000 in
set_option maxRecDepth 100000 in
theorem c_LaddKind_x (l : Launch) (D : zG) (sz : Nat) (hfl : l.stackTraces = false) (o kA iA tA tr lA : Nat) (ou : Nat) (a b c1 d e1 f : Int32) (h : ¬ ((1 ≤ a ∧ a ≤ 6) ∧ (1 ≤ b ∧ b ≤ 6) ∧ (1 ≤ c1 ∧ c1 ≤ 8) ∧ (1 ≤ d ∧ d ≤ 500) ∧ (0 ≤ e1 ∧ e1 ≤ 5000) ∧ (0 ≤ f ∧ f ≤ 3))) : Met l yL_addKind wsL_addKind ({ frames := 8, cells := 1, slots := 6, locals := 200 }) (zPcK D [] ([(o, .inr (3, [.ref kA, .int 0, .int 20, .int 60, .int 2000, .int 0, .ref iA, .int 0, .int 0, .int 0, .ref tA, .ref tr, .ref lA, .int 0]))]) sz ((zKX (va_A [(o, .inr (3, [.ref kA, .int 0, .int 20, .int 60, .int 2000, .int 0, .ref iA, .int 0, .int 0, .int 0, .ref tA, .ref tr, .ref lA, .int 0]))] sz))) [.ref o, .int a, .int b, .int c1, .int d, .int e1, .int f, .ref ou]) (va_Qi (fun (r : Int32) (u : Unit) => r = 1) (zB D (va_A ([(o, .inr (3, [.ref kA, .int 0, .int 20, .int 60, .int 2000, .int 0, .ref iA, .int 0, .int 0, .int 0, .ref tA, .ref tr, .ref lA, .int 0]))]) sz) (fun _ => []) 0 (fun _ => [])) (va_A ([(o, .inr (3, [.ref kA, .int 0, .int 20, .int 60, .int 2000, .int 0, .ref iA, .int 0, .int 0, .int 0, .ref tA, .ref tr, .ref lA, .int 0]))]) sz)) 1 6 (va_A ([(o, .inr (3, [.ref kA, .int 0, .int 20, .int 60, .int 2000, .int 0, .ref iA, .int 0, .int 0, .int 0, .ref tA, .ref tr, .ref lA, .int 0]))]) sz) := by
  refine va_MetW (cc := cL_addKind) (maxL := 9) (ret := (some .int)) (hh := [(0, 18, 21, 13), (0, 18, 25, 15)]) (by decide) rfl ?_
  intro p e s m args below meth c s₁ B hml hv
  obtain ⟨rfl, ⟨hsz, hP, hK, hD0⟩, hKx⟩ := hv
  have hx := B.exec
  have hb := B.bytes
  have hr := B.returns
  have hts := atoms_spec (ws := wsL_addKind) B.pre
  have hown : s.vm.findClass RL = some m.cls := findClass_of_methodNamed B.named
  have hlocks := B.notSynchronized
  subst hsz
  have hD := hD0.self (sz := s.heap.size)
  generalize hAe : va_A ([(o, .inr (3, [.ref kA, .int 0, .int 20, .int 60, .int 2000, .int 0, .ref iA, .int 0, .int 0, .int 0, .ref tA, .ref tr, .ref lA, .int 0]))]) s.heap.size = A at hD hKx ⊢
  have hA : ∀ q : Nat, s.heap.size ≤ q → A q := fun q h => by rw [← hAe]; exact Or.inr h
  have hS : va_S A s.heap s.heap [] := va_S.rf
  have hl := lv_entry ([.ref o, .int a, .int b, .int c1, .int d, .int e1, .int f, .ref ou]) (n := 9) (Nat.le_of_ble_eq_true rfl)
  rw [lg_entry_eq]
  generalize (lg_sl ([.ref o, .int a, .int b, .int c1, .int d, .int e1, .int f, .ref ou]) ++ List.replicate (9 - (lg_sl ([.ref o, .int a, .int b, .int c1, .int d, .int e1, .int f, .ref ou])).length) Slot.unset).toArray = ls at hl ⊢
  have hl : lv_has ls 9 [(0, .ref o), (1, .int a), (2, .int b), (3, .int c1), (4, .int d), (5, .int e1), (6, .int f), (7, .ref ou)] := hl
  have hP : va_P D vwCl ([(o, .inr (3, [.ref kA, .int 0, .int 20, .int 60, .int 2000, .int 0, .ref iA, .int 0, .int 0, .int 0, .ref tA, .ref tr, .ref lA, .int 0]))]) s.heap := hP
  generalize hRe : (headSpec _ _).room = R
  have hRf : R.frames = 8 := by rw [← hRe]; rfl
  have hRc : R.cells = 1 := by rw [← hRe]; rfl
  have hRs : R.slots = 6 := by rw [← hRe]; rfl
  have hRl : R.locals = 200 := by rw [← hRe]; rfl
  clear hRe
  have hT := vx_table (x := yL_addKind) B (hts (.codeWith yL_addKind cL_addKind 9 (some .int) [(0, 18, 21, 13), (0, 18, 25, 15)]) List.mem_cons_self)
  refine lv_aload hx hb dL_addKind_0 (lv_at hl 7 rfl) ?_
  refine lv_iconst (v := 0) hx hb dL_addKind_2 (by decide) ?_
  refine lv_aload_n hx hb dL_addKind_3 rfl (lv_at hl 0 rfl) ?_
  refine lv_iload_n hx hb dL_addKind_4 rfl (lv_at hl 1 rfl) ?_
  refine lv_iload_n hx hb dL_addKind_5 rfl (lv_at hl 2 rfl) ?_
  refine lv_iload_n hx hb dL_addKind_6 rfl (lv_at hl 3 rfl) ?_
  refine lv_iload hx hb dL_addKind_7 (lv_at hl 4 rfl) ?_
  refine lv_iload hx hb dL_addKind_9 (lv_at hl 5 rfl) ?_
  refine lv_iload hx hb dL_addKind_11 (lv_at hl 6 rfl) ?_
  refine zthrowV (As := [.int a, .int b, .int c1, .int d, .int e1, .int f]) (rest := [.int 0, .ref ou]) (wc := [(o, .inr (3, [.ref kA, .int 0, .int 20, .int 60, .int 2000, .int 0, .ref iA, .int 0, .int 0, .int 0, .ref tA, .ref tr, .ref lA, .int 0]))]) (wr := []) ⟨hx, hb, hml, hown, hts⟩ (c_addKind_x l hfl D _ o kA iA tA tr lA a b c1 d e1 f h) (cwV 6 hts gL_addKind_X3_addKind rfl rfl rfl (by decide +kernel) ⟨by rw [hRf]; exact Nat.le_of_ble_eq_true rfl, by rw [hRl]; exact Nat.le_of_ble_eq_true rfl⟩) hKx hK hP hD hS hA [0] [] rfl (by decide) rfl (by decide) (by decide) [] rfl (ci := 3) (q0 := 0) rfl rfl rfl hl.1 rfl (Nat.le_of_ble_eq_true rfl) dL_addKind_13 ⟨by omega, by omega⟩ (fun ce q9 H locs hz hP hD hS hce hcv hcl => ?_)
  refine zcatch (hh := [(0, 18, 21, 13), (0, 18, 25, 15)]) (s0 := 0) (e0 := 18) (h0 := 21) (c0 := 13) (suf := [(0, 18, 25, 15)]) hown hT rfl (by decide) (by decide) (hts (.classLink RL 13 "java/lang/IllegalArgumentException") (List.mem_of_getElem? (i := 1) (by rfl))) hKx.2.2.2.2.2.1 hce hcv hcl ?_
  refine lv_astore (lv' := [(8, .ref q9), (0, .ref o), (1, .int a), (2, .int b), (3, .int c1), (4, .int d), (5, .int e1), (6, .int f), (7, .ref ou)]) hx hb dL_addKind_21 hl (by decide) rfl (fun ls hl => ?_)
  refine lv_iconst (v := 1) hx hb dL_addKind_23 (by decide) ?_
  refine W.widen (k := 1) (n := 6) (by omega) (by omega) ?_
  exact W.iret (v := 1) hx hb hr (fun t ht hW => ⟨⟨1, (), rfl, rfl, ⟨Nat.zero_le _, by rw [ht]; exact hP, va_K.moved hW.alike (hK.sub (tys' := []) [] rfl), hD⟩⟩, hS.F ht⟩) hS.2.2 dL_addKind_24
set_option maxHeartbeats 4000000 in
set_option maxRecDepth 100000 in
theorem c_Lcount_ok (l : Launch) (D : zG) (sz : Nat) (o kA iA tA tr lA : Nat) (ou : Nat) (cJ : ClassId) (hj : Nat → Int64) (a : Int32) (ha : 0 ≤ a ∧ a ≤ 3) : Met l yL_count wsL_count ({ frames := 8, cells := 0, slots := 0, locals := 200 }) (zPc D [(cJ, .long)] ([(o, .inr (3, [.ref kA, .int 0, .int 20, .int 60, .int 2000, .int 0, .ref iA, .int 0, .int 0, .int 0, .ref tA, .ref tr, .ref lA, .int 0])), (ou, .inl (cJ, 1, .inr (.inl (hj))))]) sz [.ref o, .int a, .ref ou]) (va_Qi (fun (r : Int32) (u : Unit) => r = 0) (zB D (va_A ([(o, .inr (3, [.ref kA, .int 0, .int 20, .int 60, .int 2000, .int 0, .ref iA, .int 0, .int 0, .int 0, .ref tA, .ref tr, .ref lA, .int 0])), (ou, .inl (cJ, 1, .inr (.inl (hj))))]) sz) (fun _ => [(cJ, .long)]) 0 (fun _ => [(ou, .inl (cJ, 1, .inr (.inl (vp_updL hj 0 (0 : Int32).toInt64))))])) (va_A ([(o, .inr (3, [.ref kA, .int 0, .int 20, .int 60, .int 2000, .int 0, .ref iA, .int 0, .int 0, .int 0, .ref tA, .ref tr, .ref lA, .int 0])), (ou, .inl (cJ, 1, .inr (.inl (hj))))]) sz)) 0 0 (va_A ([(o, .inr (3, [.ref kA, .int 0, .int 20, .int 60, .int 2000, .int 0, .ref iA, .int 0, .int 0, .int 0, .ref tA, .ref tr, .ref lA, .int 0])), (ou, .inl (cJ, 1, .inr (.inl (hj))))]) sz) := by
  refine va_MetW (cc := cL_count) (maxL := 4) (ret := (some .int)) (hh := [(0, 9, 12, 25)]) (by decide) rfl ?_
  intro p e s m args below meth c s₁ B hml hv
  obtain ⟨rfl, hsz, hP, hK, hD0⟩ := hv
  have hx := B.exec
  have hb := B.bytes
  have hr := B.returns
  have hts := atoms_spec (ws := wsL_count) B.pre
  have hown : s.vm.findClass RL = some m.cls := findClass_of_methodNamed B.named
  have hlocks := B.notSynchronized
  subst hsz
  have hD := hD0.self (sz := s.heap.size)
  generalize hAe : va_A ([(o, .inr (3, [.ref kA, .int 0, .int 20, .int 60, .int 2000, .int 0, .ref iA, .int 0, .int 0, .int 0, .ref tA, .ref tr, .ref lA, .int 0])), (ou, .inl (cJ, 1, .inr (.inl (hj))))]) s.heap.size = A at hD ⊢
  have hA : ∀ q : Nat, s.heap.size ≤ q → A q := fun q h => by rw [← hAe]; exact Or.inr h
  have hS : va_S A s.heap s.heap [] := va_S.rf
  have hl := lv_entry ([.ref o, .int a, .ref ou]) (n := 4) (Nat.le_of_ble_eq_true rfl)
  rw [lg_entry_eq]
  generalize (lg_sl ([.ref o, .int a, .ref ou]) ++ List.replicate (4 - (lg_sl ([.ref o, .int a, .ref ou])).length) Slot.unset).toArray = ls at hl ⊢
  have hl : lv_has ls 4 [(0, .ref o), (1, .int a), (2, .ref ou)] := hl
  have hP : va_P D vwCl ([(o, .inr (3, [.ref kA, .int 0, .int 20, .int 60, .int 2000, .int 0, .ref iA, .int 0, .int 0, .int 0, .ref tA, .ref tr, .ref lA, .int 0])), (ou, .inl (cJ, 1, .inr (.inl (hj))))]) s.heap := hP
  generalize hRe : (headSpec _ _).room = R
  have hRf : R.frames = 8 := by rw [← hRe]; rfl
  have hRc : R.cells = 0 := by rw [← hRe]; rfl
  have hRs : R.slots = 0 := by rw [← hRe]; rfl
  have hRl : R.locals = 200 := by rw [← hRe]; rfl
  clear hRe
  refine lv_aload_n hx hb dL_count_0 rfl (lv_at hl 2 rfl) ?_
  refine lv_iconst (v := 0) hx hb dL_count_1 (by decide) ?_
  refine lv_aload_n hx hb dL_count_2 rfl (lv_at hl 0 rfl) ?_
  refine lv_iload_n hx hb dL_count_3 rfl (lv_at hl 1 rfl) ?_
  refine zrdV (As := [.int a]) (rest := [.int 0, .ref ou]) (wc := [(o, .inr (3, [.ref kA, .int 0, .int 20, .int 60, .int 2000, .int 0, .ref iA, .int 0, .int 0, .int 0, .ref tA, .ref tr, .ref lA, .int 0]))]) ⟨hx, hb, hml, hown, hts⟩ (c_count_ok l D _ o kA iA tA tr lA a ha) (cwV 1 hts gL_count_X3_count rfl rfl rfl (by decide +kernel) ⟨by rw [hRf]; exact Nat.le_of_ble_eq_true rfl, by rw [hRl]; exact Nat.le_of_ble_eq_true rfl⟩) hK hP hD [0] rfl (by decide) [] rfl (ci := 3) (q0 := 0) rfl rfl rfl hl.1 rfl (Nat.le_of_ble_eq_true rfl) dL_count_4 ⟨by omega, by omega⟩ (fun r_1 hr_1 => ?_)
  refine lv_topi (fun v_2 ev_2 => ?_)
  obtain rfl : v_2 = 0 := ev_2.trans hr_1
  refine lv_i2l (v := (0 : Int32).toInt64) hx hb dL_count_7 rfl ?_
  refine va_last hx hb hK hP hD hS 1 0 rfl rfl (vp_in_nI (n := 0) (N := 1) (by decide) (by decide)) dL_count_8 (fun H locs hP hD hS => ?_)
  have hP : va_P D vwCl ([(o, .inr (3, [.ref kA, .int 0, .int 20, .int 60, .int 2000, .int 0, .ref iA, .int 0, .int 0, .int 0, .ref tA, .ref tr, .ref lA, .int 0])), (ou, .inl (cJ, 1, .inr (.inl (vp_updL (hj) 0 ((0 : Int32).toInt64)))))]) H := hP
  have hD : va_D A ([(o, .inr (3, [.ref kA, .int 0, .int 20, .int 60, .int 2000, .int 0, .ref iA, .int 0, .int 0, .int 0, .ref tA, .ref tr, .ref lA, .int 0])), (ou, .inl (cJ, 1, .inr (.inl (vp_updL (hj) 0 ((0 : Int32).toInt64)))))]) := hD
  refine lv_goto (tgt := 15) hx hb dL_count_9 (by decide) ?_
  refine lv_iconst (v := 0) hx hb dL_count_15 (by decide) ?_
  have hP := hP.sub (ws' := [(ou, .inl (cJ, 1, .inr (.inl (vp_updL (hj) 0 ((0 : Int32).toInt64)))))]) [1] rfl
  have hD := hD.sub (ws' := [(ou, .inl (cJ, 1, .inr (.inl (vp_updL (hj) 0 ((0 : Int32).toInt64)))))]) [1] (by decide) rfl
  exact W.iret (v := 0) hx hb hr (fun t ht hW => ⟨⟨0, (), rfl, rfl, ⟨Nat.zero_le _, by rw [ht]; exact hP, va_K.moved hW.alike (hK.sub (tys' := [(cJ, .long)]) [0] rfl), hD⟩⟩, hS.F ht⟩) hS.2.2 dL_count_16
set_option maxHeartbeats 4000000 in
set_option maxRecDepth 100000 in
theorem c_Lsum_ok (l : Launch) (D : zG) (sz : Nat) (o kA iA tA tr lA : Nat) (ou : Nat) (cJ : ClassId) (hj : Nat → Int64) (a : Int32) (ha : 0 ≤ a ∧ a ≤ 3) : Met l yL_sum wsL_sum ({ frames := 8, cells := 0, slots := 0, locals := 200 }) (zPc D [(cJ, .long)] ([(o, .inr (3, [.ref kA, .int 0, .int 20, .int 60, .int 2000, .int 0, .ref iA, .int 0, .int 0, .int 0, .ref tA, .ref tr, .ref lA, .int 0])), (ou, .inl (cJ, 1, .inr (.inl (hj))))]) sz [.ref o, .int a, .ref ou]) (va_Qi (fun (r : Int32) (u : Unit) => r = 0) (zB D (va_A ([(o, .inr (3, [.ref kA, .int 0, .int 20, .int 60, .int 2000, .int 0, .ref iA, .int 0, .int 0, .int 0, .ref tA, .ref tr, .ref lA, .int 0])), (ou, .inl (cJ, 1, .inr (.inl (hj))))]) sz) (fun _ => [(cJ, .long)]) 0 (fun _ => [(ou, .inl (cJ, 1, .inr (.inl (vp_updL hj 0 (0 : Int32).toInt64))))])) (va_A ([(o, .inr (3, [.ref kA, .int 0, .int 20, .int 60, .int 2000, .int 0, .ref iA, .int 0, .int 0, .int 0, .ref tA, .ref tr, .ref lA, .int 0])), (ou, .inl (cJ, 1, .inr (.inl (hj))))]) sz)) 0 0 (va_A ([(o, .inr (3, [.ref kA, .int 0, .int 20, .int 60, .int 2000, .int 0, .ref iA, .int 0, .int 0, .int 0, .ref tA, .ref tr, .ref lA, .int 0])), (ou, .inl (cJ, 1, .inr (.inl (hj))))]) sz) := by
  refine va_MetW (cc := cL_sum) (maxL := 4) (ret := (some .int)) (hh := [(0, 9, 12, 25)]) (by decide) rfl ?_
  intro p e s m args below meth c s₁ B hml hv
  obtain ⟨rfl, hsz, hP, hK, hD0⟩ := hv
  have hx := B.exec
  have hb := B.bytes
  have hr := B.returns
  have hts := atoms_spec (ws := wsL_sum) B.pre
  have hown : s.vm.findClass RL = some m.cls := findClass_of_methodNamed B.named
  have hlocks := B.notSynchronized
  subst hsz
  have hD := hD0.self (sz := s.heap.size)
  generalize hAe : va_A ([(o, .inr (3, [.ref kA, .int 0, .int 20, .int 60, .int 2000, .int 0, .ref iA, .int 0, .int 0, .int 0, .ref tA, .ref tr, .ref lA, .int 0])), (ou, .inl (cJ, 1, .inr (.inl (hj))))]) s.heap.size = A at hD ⊢
  have hA : ∀ q : Nat, s.heap.size ≤ q → A q := fun q h => by rw [← hAe]; exact Or.inr h
  have hS : va_S A s.heap s.heap [] := va_S.rf
  have hl := lv_entry ([.ref o, .int a, .ref ou]) (n := 4) (Nat.le_of_ble_eq_true rfl)
  rw [lg_entry_eq]
  generalize (lg_sl ([.ref o, .int a, .ref ou]) ++ List.replicate (4 - (lg_sl ([.ref o, .int a, .ref ou])).length) Slot.unset).toArray = ls at hl ⊢
  have hl : lv_has ls 4 [(0, .ref o), (1, .int a), (2, .ref ou)] := hl
  have hP : va_P D vwCl ([(o, .inr (3, [.ref kA, .int 0, .int 20, .int 60, .int 2000, .int 0, .ref iA, .int 0, .int 0, .int 0, .ref tA, .ref tr, .ref lA, .int 0])), (ou, .inl (cJ, 1, .inr (.inl (hj))))]) s.heap := hP
  generalize hRe : (headSpec _ _).room = R
  have hRf : R.frames = 8 := by rw [← hRe]; rfl
  have hRc : R.cells = 0 := by rw [← hRe]; rfl
  have hRs : R.slots = 0 := by rw [← hRe]; rfl
  have hRl : R.locals = 200 := by rw [← hRe]; rfl
  clear hRe
  refine lv_aload_n hx hb dL_sum_0 rfl (lv_at hl 2 rfl) ?_
  refine lv_iconst (v := 0) hx hb dL_sum_1 (by decide) ?_
  refine lv_aload_n hx hb dL_sum_2 rfl (lv_at hl 0 rfl) ?_
  refine lv_iload_n hx hb dL_sum_3 rfl (lv_at hl 1 rfl) ?_
  refine zrdV (As := [.int a]) (rest := [.int 0, .ref ou]) (wc := [(o, .inr (3, [.ref kA, .int 0, .int 20, .int 60, .int 2000, .int 0, .ref iA, .int 0, .int 0, .int 0, .ref tA, .ref tr, .ref lA, .int 0]))]) ⟨hx, hb, hml, hown, hts⟩ (c_sum_ok l D _ o kA iA tA tr lA a ha) (cwV 1 hts gL_sum_X3_sum rfl rfl rfl (by decide +kernel) ⟨by rw [hRf]; exact Nat.le_of_ble_eq_true rfl, by rw [hRl]; exact Nat.le_of_ble_eq_true rfl⟩) hK hP hD [0] rfl (by decide) [] rfl (ci := 3) (q0 := 0) rfl rfl rfl hl.1 rfl (Nat.le_of_ble_eq_true rfl) dL_sum_4 ⟨by omega, by omega⟩ (fun r_3 hr_3 => ?_)
  refine lv_topi (fun v_4 ev_4 => ?_)
  obtain rfl : v_4 = 0 := ev_4.trans hr_3
  refine lv_i2l (v := (0 : Int32).toInt64) hx hb dL_sum_7 rfl ?_
  refine va_last hx hb hK hP hD hS 1 0 rfl rfl (vp_in_nI (n := 0) (N := 1) (by decide) (by decide)) dL_sum_8 (fun H locs hP hD hS => ?_)
  have hP : va_P D vwCl ([(o, .inr (3, [.ref kA, .int 0, .int 20, .int 60, .int 2000, .int 0, .ref iA, .int 0, .int 0, .int 0, .ref tA, .ref tr, .ref lA, .int 0])), (ou, .inl (cJ, 1, .inr (.inl (vp_updL (hj) 0 ((0 : Int32).toInt64)))))]) H := hP
  have hD : va_D A ([(o, .inr (3, [.ref kA, .int 0, .int 20, .int 60, .int 2000, .int 0, .ref iA, .int 0, .int 0, .int 0, .ref tA, .ref tr, .ref lA, .int 0])), (ou, .inl (cJ, 1, .inr (.inl (vp_updL (hj) 0 ((0 : Int32).toInt64)))))]) := hD
  refine lv_goto (tgt := 15) hx hb dL_sum_9 (by decide) ?_
  refine lv_iconst (v := 0) hx hb dL_sum_15 (by decide) ?_
  have hP := hP.sub (ws' := [(ou, .inl (cJ, 1, .inr (.inl (vp_updL (hj) 0 ((0 : Int32).toInt64)))))]) [1] rfl
  have hD := hD.sub (ws' := [(ou, .inl (cJ, 1, .inr (.inl (vp_updL (hj) 0 ((0 : Int32).toInt64)))))]) [1] (by decide) rfl
  exact W.iret (v := 0) hx hb hr (fun t ht hW => ⟨⟨0, (), rfl, rfl, ⟨Nat.zero_le _, by rw [ht]; exact hP, va_K.moved hW.alike (hK.sub (tys' := [(cJ, .long)]) [0] rfl), hD⟩⟩, hS.F ht⟩) hS.2.2 dL_sum_16
set_option maxHeartbeats 4000000 in
set_option maxRecDepth 100000 in
theorem c_Ltop_ok (l : Launch) (D : zG) (sz : Nat) (o kA iA tA tr lA : Nat) (ou : Nat) (cT : ClassId) (cJ : ClassId) (hj : Nat → Int64) (a b : Int32) (h : (0 ≤ a ∧ a ≤ 11) ∧ (0 ≤ b ∧ b ≤ 9)) : Met l yL_top wsL_top ({ frames := 8, cells := 0, slots := 0, locals := 200 }) (zPc D [(cT, .int), (cJ, .long)] ([(o, .inr (3, [.ref kA, .int 0, .int 20, .int 60, .int 2000, .int 0, .ref iA, .int 0, .int 0, .int 0, .ref tA, .ref tr, .ref lA, .int 0])), (tA, .inl (cT, 120, .inl (fun _ => 0))), (ou, .inl (cJ, 1, .inr (.inl (hj))))]) sz [.ref o, .int a, .int b, .ref ou]) (va_Qi (fun (r : Int32) (u : Unit) => r = 0) (zB D (va_A ([(o, .inr (3, [.ref kA, .int 0, .int 20, .int 60, .int 2000, .int 0, .ref iA, .int 0, .int 0, .int 0, .ref tA, .ref tr, .ref lA, .int 0])), (tA, .inl (cT, 120, .inl (fun _ => 0))), (ou, .inl (cJ, 1, .inr (.inl (hj))))]) sz) (fun _ => [(cJ, .long)]) 0 (fun _ => [(ou, .inl (cJ, 1, .inr (.inl (vp_updL hj 0 (0 : Int32).toInt64))))])) (va_A ([(o, .inr (3, [.ref kA, .int 0, .int 20, .int 60, .int 2000, .int 0, .ref iA, .int 0, .int 0, .int 0, .ref tA, .ref tr, .ref lA, .int 0])), (tA, .inl (cT, 120, .inl (fun _ => 0))), (ou, .inl (cJ, 1, .inr (.inl (hj))))]) sz)) 0 0 (va_A ([(o, .inr (3, [.ref kA, .int 0, .int 20, .int 60, .int 2000, .int 0, .ref iA, .int 0, .int 0, .int 0, .ref tA, .ref tr, .ref lA, .int 0])), (tA, .inl (cT, 120, .inl (fun _ => 0))), (ou, .inl (cJ, 1, .inr (.inl (hj))))]) sz) := by
  refine va_MetW (cc := cL_top) (maxL := 5) (ret := (some .int)) (hh := [(0, 10, 13, 25)]) (by decide) rfl ?_
  intro p e s m args below meth c s₁ B hml hv
  obtain ⟨rfl, hsz, hP, hK, hD0⟩ := hv
  have hx := B.exec
  have hb := B.bytes
  have hr := B.returns
  have hts := atoms_spec (ws := wsL_top) B.pre
  have hown : s.vm.findClass RL = some m.cls := findClass_of_methodNamed B.named
  have hlocks := B.notSynchronized
  subst hsz
  have hD := hD0.self (sz := s.heap.size)
  generalize hAe : va_A ([(o, .inr (3, [.ref kA, .int 0, .int 20, .int 60, .int 2000, .int 0, .ref iA, .int 0, .int 0, .int 0, .ref tA, .ref tr, .ref lA, .int 0])), (tA, .inl (cT, 120, .inl (fun _ => 0))), (ou, .inl (cJ, 1, .inr (.inl (hj))))]) s.heap.size = A at hD ⊢
  have hA : ∀ q : Nat, s.heap.size ≤ q → A q := fun q h => by rw [← hAe]; exact Or.inr h
  have hS : va_S A s.heap s.heap [] := va_S.rf
  have hl := lv_entry ([.ref o, .int a, .int b, .ref ou]) (n := 5) (Nat.le_of_ble_eq_true rfl)
  rw [lg_entry_eq]
  generalize (lg_sl ([.ref o, .int a, .int b, .ref ou]) ++ List.replicate (5 - (lg_sl ([.ref o, .int a, .int b, .ref ou])).length) Slot.unset).toArray = ls at hl ⊢
  have hl : lv_has ls 5 [(0, .ref o), (1, .int a), (2, .int b), (3, .ref ou)] := hl
  have hP : va_P D vwCl ([(o, .inr (3, [.ref kA, .int 0, .int 20, .int 60, .int 2000, .int 0, .ref iA, .int 0, .int 0, .int 0, .ref tA, .ref tr, .ref lA, .int 0])), (tA, .inl (cT, 120, .inl (fun _ => 0))), (ou, .inl (cJ, 1, .inr (.inl (hj))))]) s.heap := hP
  generalize hRe : (headSpec _ _).room = R
  have hRf : R.frames = 8 := by rw [← hRe]; rfl
  have hRc : R.cells = 0 := by rw [← hRe]; rfl
  have hRs : R.slots = 0 := by rw [← hRe]; rfl
  have hRl : R.locals = 200 := by rw [← hRe]; rfl
  clear hRe
  refine lv_aload_n hx hb dL_top_0 rfl (lv_at hl 3 rfl) ?_
  refine lv_iconst (v := 0) hx hb dL_top_1 (by decide) ?_
  refine lv_aload_n hx hb dL_top_2 rfl (lv_at hl 0 rfl) ?_
  refine lv_iload_n hx hb dL_top_3 rfl (lv_at hl 1 rfl) ?_
  refine lv_iload_n hx hb dL_top_4 rfl (lv_at hl 2 rfl) ?_
  refine zrdV (As := [.int a, .int b]) (rest := [.int 0, .ref ou]) (wc := [(o, .inr (3, [.ref kA, .int 0, .int 20, .int 60, .int 2000, .int 0, .ref iA, .int 0, .int 0, .int 0, .ref tA, .ref tr, .ref lA, .int 0])), (tA, .inl (cT, 120, .inl (fun _ => 0)))]) ⟨hx, hb, hml, hown, hts⟩ (c_top_ok l D _ o kA iA tA tr lA cT a b h) (cwV 2 hts gL_top_X3_top rfl rfl rfl (by decide +kernel) ⟨by rw [hRf]; exact Nat.le_of_ble_eq_true rfl, by rw [hRl]; exact Nat.le_of_ble_eq_true rfl⟩) hK hP hD [0, 1] rfl (by decide) [0] rfl (ci := 3) (q0 := 0) rfl rfl rfl hl.1 rfl (Nat.le_of_ble_eq_true rfl) dL_top_5 ⟨by omega, by omega⟩ (fun r_5 hr_5 => ?_)
  refine lv_topi (fun v_6 ev_6 => ?_)
  obtain rfl : v_6 = 0 := ev_6.trans hr_5
  refine lv_i2l (v := (0 : Int32).toInt64) hx hb dL_top_8 rfl ?_
  refine va_last hx hb hK hP hD hS 2 1 rfl rfl (vp_in_nI (n := 0) (N := 1) (by decide) (by decide)) dL_top_9 (fun H locs hP hD hS => ?_)
  have hP : va_P D vwCl ([(o, .inr (3, [.ref kA, .int 0, .int 20, .int 60, .int 2000, .int 0, .ref iA, .int 0, .int 0, .int 0, .ref tA, .ref tr, .ref lA, .int 0])), (tA, .inl (cT, 120, .inl (fun _ => 0))), (ou, .inl (cJ, 1, .inr (.inl (vp_updL (hj) 0 ((0 : Int32).toInt64)))))]) H := hP
  have hD : va_D A ([(o, .inr (3, [.ref kA, .int 0, .int 20, .int 60, .int 2000, .int 0, .ref iA, .int 0, .int 0, .int 0, .ref tA, .ref tr, .ref lA, .int 0])), (tA, .inl (cT, 120, .inl (fun _ => 0))), (ou, .inl (cJ, 1, .inr (.inl (vp_updL (hj) 0 ((0 : Int32).toInt64)))))]) := hD
  refine lv_goto (tgt := 17) hx hb dL_top_10 (by decide) ?_
  refine lv_iconst (v := 0) hx hb dL_top_17 (by decide) ?_
  have hP := hP.sub (ws' := [(ou, .inl (cJ, 1, .inr (.inl (vp_updL (hj) 0 ((0 : Int32).toInt64)))))]) [2] rfl
  have hD := hD.sub (ws' := [(ou, .inl (cJ, 1, .inr (.inl (vp_updL (hj) 0 ((0 : Int32).toInt64)))))]) [2] (by decide) rfl
  exact W.iret (v := 0) hx hb hr (fun t ht hW => ⟨⟨0, (), rfl, rfl, ⟨Nat.zero_le _, by rw [ht]; exact hP, va_K.moved hW.alike (hK.sub (tys' := [(cJ, .long)]) [1] rfl), hD⟩⟩, hS.F ht⟩) hS.2.2 dL_top_18
set_option maxHeartbeats 4000000 in
set_option maxRecDepth 100000 in
theorem c_Lat_ok (l : Launch) (D : zG) (sz : Nat) (o kA iA tA tr lA : Nat) (ou : Nat) (cJ : ClassId) (hj : Nat → Int64) (a b c1 : Int32) (h : (0 ≤ a ∧ a ≤ 11) ∧ (0 ≤ b ∧ b ≤ 9)) (h3 : 0 ≤ c1 ∧ c1 ≤ 39) : Met l yL_at wsL_at ({ frames := 8, cells := 0, slots := 0, locals := 200 }) (zPc D [(cJ, .long)] ([(o, .inr (3, [.ref kA, .int 0, .int 20, .int 60, .int 2000, .int 0, .ref iA, .int 0, .int 0, .int 0, .ref tA, .ref tr, .ref lA, .int 0])), (ou, .inl (cJ, 1, .inr (.inl (hj))))]) sz [.ref o, .int a, .int b, .int c1, .ref ou]) (va_Qi (fun (r : Int32) (u : Unit) => r = 0) (zB D (va_A ([(o, .inr (3, [.ref kA, .int 0, .int 20, .int 60, .int 2000, .int 0, .ref iA, .int 0, .int 0, .int 0, .ref tA, .ref tr, .ref lA, .int 0])), (ou, .inl (cJ, 1, .inr (.inl (hj))))]) sz) (fun _ => [(cJ, .long)]) 0 (fun _ => [(ou, .inl (cJ, 1, .inr (.inl (vp_updL hj 0 ((-1) : Int32).toInt64))))])) (va_A ([(o, .inr (3, [.ref kA, .int 0, .int 20, .int 60, .int 2000, .int 0, .ref iA, .int 0, .int 0, .int 0, .ref tA, .ref tr, .ref lA, .int 0])), (ou, .inl (cJ, 1, .inr (.inl (hj))))]) sz)) 0 0 (va_A ([(o, .inr (3, [.ref kA, .int 0, .int 20, .int 60, .int 2000, .int 0, .ref iA, .int 0, .int 0, .int 0, .ref tA, .ref tr, .ref lA, .int 0])), (ou, .inl (cJ, 1, .inr (.inl (hj))))]) sz) := by
  refine va_MetW (cc := cL_at) (maxL := 6) (ret := (some .int)) (hh := [(0, 12, 15, 25)]) (by decide) rfl ?_
  intro p e s m args below meth c s₁ B hml hv
  obtain ⟨rfl, hsz, hP, hK, hD0⟩ := hv
  have hx := B.exec
  have hb := B.bytes
  have hr := B.returns
  have hts := atoms_spec (ws := wsL_at) B.pre
  have hown : s.vm.findClass RL = some m.cls := findClass_of_methodNamed B.named
  have hlocks := B.notSynchronized
  subst hsz
  have hD := hD0.self (sz := s.heap.size)
  generalize hAe : va_A ([(o, .inr (3, [.ref kA, .int 0, .int 20, .int 60, .int 2000, .int 0, .ref iA, .int 0, .int 0, .int 0, .ref tA, .ref tr, .ref lA, .int 0])), (ou, .inl (cJ, 1, .inr (.inl (hj))))]) s.heap.size = A at hD ⊢
  have hA : ∀ q : Nat, s.heap.size ≤ q → A q := fun q h => by rw [← hAe]; exact Or.inr h
  have hS : va_S A s.heap s.heap [] := va_S.rf
  have hl := lv_entry ([.ref o, .int a, .int b, .int c1, .ref ou]) (n := 6) (Nat.le_of_ble_eq_true rfl)
  rw [lg_entry_eq]
  generalize (lg_sl ([.ref o, .int a, .int b, .int c1, .ref ou]) ++ List.replicate (6 - (lg_sl ([.ref o, .int a, .int b, .int c1, .ref ou])).length) Slot.unset).toArray = ls at hl ⊢
  have hl : lv_has ls 6 [(0, .ref o), (1, .int a), (2, .int b), (3, .int c1), (4, .ref ou)] := hl
  have hP : va_P D vwCl ([(o, .inr (3, [.ref kA, .int 0, .int 20, .int 60, .int 2000, .int 0, .ref iA, .int 0, .int 0, .int 0, .ref tA, .ref tr, .ref lA, .int 0])), (ou, .inl (cJ, 1, .inr (.inl (hj))))]) s.heap := hP
  generalize hRe : (headSpec _ _).room = R
  have hRf : R.frames = 8 := by rw [← hRe]; rfl
  have hRc : R.cells = 0 := by rw [← hRe]; rfl
  have hRs : R.slots = 0 := by rw [← hRe]; rfl
  have hRl : R.locals = 200 := by rw [← hRe]; rfl
  clear hRe
  refine lv_aload hx hb dL_at_0 (lv_at hl 4 rfl) ?_
  refine lv_iconst (v := 0) hx hb dL_at_2 (by decide) ?_
  refine lv_aload_n hx hb dL_at_3 rfl (lv_at hl 0 rfl) ?_
  refine lv_iload_n hx hb dL_at_4 rfl (lv_at hl 1 rfl) ?_
  refine lv_iload_n hx hb dL_at_5 rfl (lv_at hl 2 rfl) ?_
  refine lv_iload_n hx hb dL_at_6 rfl (lv_at hl 3 rfl) ?_
  refine zrdV (As := [.int a, .int b, .int c1]) (rest := [.int 0, .ref ou]) (wc := [(o, .inr (3, [.ref kA, .int 0, .int 20, .int 60, .int 2000, .int 0, .ref iA, .int 0, .int 0, .int 0, .ref tA, .ref tr, .ref lA, .int 0]))]) ⟨hx, hb, hml, hown, hts⟩ (c_at_ok l D _ o kA iA tA tr lA a b c1 h h3) (cwV 3 hts gL_at_X3_at rfl rfl rfl (by decide +kernel) ⟨by rw [hRf]; exact Nat.le_of_ble_eq_true rfl, by rw [hRl]; exact Nat.le_of_ble_eq_true rfl⟩) hK hP hD [0] rfl (by decide) [] rfl (ci := 3) (q0 := 0) rfl rfl rfl hl.1 rfl (Nat.le_of_ble_eq_true rfl) dL_at_7 ⟨by omega, by omega⟩ (fun r_7 hr_7 => ?_)
  refine lv_topi (fun v_8 ev_8 => ?_)
  obtain rfl : v_8 = (-1) := ev_8.trans hr_7
  refine lv_i2l (v := ((-1) : Int32).toInt64) hx hb dL_at_10 rfl ?_
  refine va_last hx hb hK hP hD hS 1 0 rfl rfl (vp_in_nI (n := 0) (N := 1) (by decide) (by decide)) dL_at_11 (fun H locs hP hD hS => ?_)
  have hP : va_P D vwCl ([(o, .inr (3, [.ref kA, .int 0, .int 20, .int 60, .int 2000, .int 0, .ref iA, .int 0, .int 0, .int 0, .ref tA, .ref tr, .ref lA, .int 0])), (ou, .inl (cJ, 1, .inr (.inl (vp_updL (hj) 0 (((-1) : Int32).toInt64)))))]) H := hP
  have hD : va_D A ([(o, .inr (3, [.ref kA, .int 0, .int 20, .int 60, .int 2000, .int 0, .ref iA, .int 0, .int 0, .int 0, .ref tA, .ref tr, .ref lA, .int 0])), (ou, .inl (cJ, 1, .inr (.inl (vp_updL (hj) 0 (((-1) : Int32).toInt64)))))]) := hD
  refine lv_goto (tgt := 19) hx hb dL_at_12 (by decide) ?_
  refine lv_iconst (v := 0) hx hb dL_at_19 (by decide) ?_
  have hP := hP.sub (ws' := [(ou, .inl (cJ, 1, .inr (.inl (vp_updL (hj) 0 (((-1) : Int32).toInt64)))))]) [1] rfl
  have hD := hD.sub (ws' := [(ou, .inl (cJ, 1, .inr (.inl (vp_updL (hj) 0 (((-1) : Int32).toInt64)))))]) [1] (by decide) rfl
  exact W.iret (v := 0) hx hb hr (fun t ht hW => ⟨⟨0, (), rfl, rfl, ⟨Nat.zero_le _, by rw [ht]; exact hP, va_K.moved hW.alike (hK.sub (tys' := [(cJ, .long)]) [0] rfl), hD⟩⟩, hS.F ht⟩) hS.2.2 dL_at_20
set_option maxHeartbeats 4000000 in
set_option maxRecDepth 100000 in
theorem c_LsetRules_ok_0 (l : Launch) (D : zG) (sz : Nat) (o kA iA tA tr lA : Nat) (ou : Nat) (cJ : ClassId) (hj : Nat → Int64) (a b c1 : Int32) (h : (1 ≤ a ∧ a ≤ 40) ∧ (0 ≤ b ∧ b ≤ 100) ∧ (1 ≤ c1 ∧ c1 ≤ 20000)) : Met l yL_setRules wsL_setRules ({ frames := 8, cells := 0, slots := 0, locals := 200 }) (zPc D [(cJ, .long)] ([(o, .inr (3, [.ref kA, .int 0, .int 20, .int 60, .int 2000, .int 0, .ref iA, .int 0, .int 0, .int 0, .ref tA, .ref tr, .ref lA, .int 0])), (ou, .inl (cJ, 1, .inr (.inl (hj))))]) sz [.ref o, .int a, .int b, .int c1, .int 0, .ref ou]) (va_Qi (fun (r : Int32) (u : Unit) => r = 0) (zB D (va_A ([(o, .inr (3, [.ref kA, .int 0, .int 20, .int 60, .int 2000, .int 0, .ref iA, .int 0, .int 0, .int 0, .ref tA, .ref tr, .ref lA, .int 0])), (ou, .inl (cJ, 1, .inr (.inl (hj))))]) sz) (fun _ => [(cJ, .long)]) 0 (fun _ => [(ou, .inl (cJ, 1, .inr (.inl (vp_updL hj 0 (20 : Int32).toInt64))))])) (va_A ([(o, .inr (3, [.ref kA, .int 0, .int 20, .int 60, .int 2000, .int 0, .ref iA, .int 0, .int 0, .int 0, .ref tA, .ref tr, .ref lA, .int 0])), (ou, .inl (cJ, 1, .inr (.inl (hj))))]) sz)) 0 0 (va_A ([(o, .inr (3, [.ref kA, .int 0, .int 20, .int 60, .int 2000, .int 0, .ref iA, .int 0, .int 0, .int 0, .ref tA, .ref tr, .ref lA, .int 0])), (ou, .inl (cJ, 1, .inr (.inl (hj))))]) sz) := by
  refine va_MetW (cc := cL_setRules) (maxL := 7) (ret := (some .int)) (hh := [(0, 14, 17, 13)]) (by decide) rfl ?_
  intro p e s m args below meth c s₁ B hml hv
  obtain ⟨rfl, hsz, hP, hK, hD0⟩ := hv
  have hx := B.exec
  have hb := B.bytes
  have hr := B.returns
  have hts := atoms_spec (ws := wsL_setRules) B.pre
  have hown : s.vm.findClass RL = some m.cls := findClass_of_methodNamed B.named
  have hlocks := B.notSynchronized
  subst hsz
  have hD := hD0.self (sz := s.heap.size)
  generalize hAe : va_A ([(o, .inr (3, [.ref kA, .int 0, .int 20, .int 60, .int 2000, .int 0, .ref iA, .int 0, .int 0, .int 0, .ref tA, .ref tr, .ref lA, .int 0])), (ou, .inl (cJ, 1, .inr (.inl (hj))))]) s.heap.size = A at hD ⊢
  have hA : ∀ q : Nat, s.heap.size ≤ q → A q := fun q h => by rw [← hAe]; exact Or.inr h
  have hS : va_S A s.heap s.heap [] := va_S.rf
  have hl := lv_entry ([.ref o, .int a, .int b, .int c1, .int 0, .ref ou]) (n := 7) (Nat.le_of_ble_eq_true rfl)
  rw [lg_entry_eq]
  generalize (lg_sl ([.ref o, .int a, .int b, .int c1, .int 0, .ref ou]) ++ List.replicate (7 - (lg_sl ([.ref o, .int a, .int b, .int c1, .int 0, .ref ou])).length) Slot.unset).toArray = ls at hl ⊢
  have hl : lv_has ls 7 [(0, .ref o), (1, .int a), (2, .int b), (3, .int c1), (4, .int 0), (5, .ref ou)] := hl
  have hP : va_P D vwCl ([(o, .inr (3, [.ref kA, .int 0, .int 20, .int 60, .int 2000, .int 0, .ref iA, .int 0, .int 0, .int 0, .ref tA, .ref tr, .ref lA, .int 0])), (ou, .inl (cJ, 1, .inr (.inl (hj))))]) s.heap := hP
  generalize hRe : (headSpec _ _).room = R
  have hRf : R.frames = 8 := by rw [← hRe]; rfl
  have hRc : R.cells = 0 := by rw [← hRe]; rfl
  have hRs : R.slots = 0 := by rw [← hRe]; rfl
  have hRl : R.locals = 200 := by rw [← hRe]; rfl
  clear hRe
  refine lv_aload hx hb dL_setRules_0 (lv_at hl 5 rfl) ?_
  refine lv_iconst (v := 0) hx hb dL_setRules_2 (by decide) ?_
  refine lv_aload_n hx hb dL_setRules_3 rfl (lv_at hl 0 rfl) ?_
  refine lv_iload_n hx hb dL_setRules_4 rfl (lv_at hl 1 rfl) ?_
  refine lv_iload_n hx hb dL_setRules_5 rfl (lv_at hl 2 rfl) ?_
  refine lv_iload_n hx hb dL_setRules_6 rfl (lv_at hl 3 rfl) ?_
  refine lv_iload hx hb dL_setRules_7 (lv_at hl 4 rfl) ?_
  refine zcalliV (As := [.int a, .int b, .int c1, .int 0]) (rest := [.int 0, .ref ou]) (wc := [(o, .inr (3, [.ref kA, .int 0, .int 20, .int 60, .int 2000, .int 0, .ref iA, .int 0, .int 0, .int 0, .ref tA, .ref tr, .ref lA, .int 0]))]) (wr := [(ou, .inl (cJ, 1, .inr (.inl (hj))))]) ⟨hx, hb, hml, hown, hts⟩ (c_setRules_ok_0 l D _ o kA iA tA tr lA a b c1 h) (cwV 4 hts gL_setRules_X3_setRules rfl rfl rfl (by decide +kernel) ⟨by rw [hRf]; exact Nat.le_of_ble_eq_true rfl, by rw [hRl]; exact Nat.le_of_ble_eq_true rfl⟩) hK hP hD hS hA [0] [1] rfl (by decide) rfl (by decide) (by decide) [] rfl (ci := 3) (q0 := 0) rfl rfl rfl hl.1 rfl (Nat.le_of_ble_eq_true rfl) dL_setRules_9 ⟨by omega, by omega⟩ (fun r_9 u_10 H locs hwu_10 hnu_10 hzu_10 hK hP hD hS => ?_)
  have hK : va_K D vwCl [(cJ, .long)] s := hK
  have hP : va_P D vwCl ([(ou, .inl (cJ, 1, .inr (.inl (hj))))]) H := hP
  have hD : va_D A ([(ou, .inl (cJ, 1, .inr (.inl (hj))))]) := hD
  refine lv_topi (fun v_11 ev_11 => ?_)
  obtain rfl : v_11 = 20 := ev_11.trans hwu_10
  refine lv_i2l (v := (20 : Int32).toInt64) hx hb dL_setRules_12 rfl ?_
  refine va_last hx hb hK hP hD hS 0 0 rfl rfl (vp_in_nI (n := 0) (N := 1) (by decide) (by decide)) dL_setRules_13 (fun H locs hP hD hS => ?_)
  have hP : va_P D vwCl ([(ou, .inl (cJ, 1, .inr (.inl (vp_updL (hj) 0 ((20 : Int32).toInt64)))))]) H := hP
  have hD : va_D A ([(ou, .inl (cJ, 1, .inr (.inl (vp_updL (hj) 0 ((20 : Int32).toInt64)))))]) := hD
  refine lv_goto (tgt := 21) hx hb dL_setRules_14 (by decide) ?_
  refine lv_iconst (v := 0) hx hb dL_setRules_21 (by decide) ?_
  have hP := hP.sub (ws' := [(ou, .inl (cJ, 1, .inr (.inl (vp_updL (hj) 0 ((20 : Int32).toInt64)))))]) [0] rfl
  have hD := hD.sub (ws' := [(ou, .inl (cJ, 1, .inr (.inl (vp_updL (hj) 0 ((20 : Int32).toInt64)))))]) [0] (by decide) rfl
  exact W.iret (v := 0) hx hb hr (fun t ht hW => ⟨⟨0, (), rfl, rfl, ⟨Nat.zero_le _, by rw [ht]; exact hP, va_K.moved hW.alike (hK.sub (tys' := [(cJ, .long)]) [0] rfl), hD⟩⟩, hS.F ht⟩) hS.2.2 dL_setRules_22
set_option maxHeartbeats 4000000 in
set_option maxRecDepth 100000 in
theorem c_LsetRules_ok_1 (l : Launch) (D : zG) (sz : Nat) (o kA iA tA tr lA : Nat) (ou : Nat) (cJ : ClassId) (hj : Nat → Int64) (a b c1 : Int32) (h : (1 ≤ a ∧ a ≤ 40) ∧ (0 ≤ b ∧ b ≤ 100) ∧ (1 ≤ c1 ∧ c1 ≤ 20000)) : Met l yL_setRules wsL_setRules ({ frames := 8, cells := 0, slots := 0, locals := 200 }) (zPc D [(cJ, .long)] ([(o, .inr (3, [.ref kA, .int 0, .int 20, .int 60, .int 2000, .int 0, .ref iA, .int 0, .int 0, .int 0, .ref tA, .ref tr, .ref lA, .int 0])), (ou, .inl (cJ, 1, .inr (.inl (hj))))]) sz [.ref o, .int a, .int b, .int c1, .int 1, .ref ou]) (va_Qi (fun (r : Int32) (u : Unit) => r = 0) (zB D (va_A ([(o, .inr (3, [.ref kA, .int 0, .int 20, .int 60, .int 2000, .int 0, .ref iA, .int 0, .int 0, .int 0, .ref tA, .ref tr, .ref lA, .int 0])), (ou, .inl (cJ, 1, .inr (.inl (hj))))]) sz) (fun _ => [(cJ, .long)]) 0 (fun _ => [(ou, .inl (cJ, 1, .inr (.inl (vp_updL hj 0 (20 : Int32).toInt64))))])) (va_A ([(o, .inr (3, [.ref kA, .int 0, .int 20, .int 60, .int 2000, .int 0, .ref iA, .int 0, .int 0, .int 0, .ref tA, .ref tr, .ref lA, .int 0])), (ou, .inl (cJ, 1, .inr (.inl (hj))))]) sz)) 0 0 (va_A ([(o, .inr (3, [.ref kA, .int 0, .int 20, .int 60, .int 2000, .int 0, .ref iA, .int 0, .int 0, .int 0, .ref tA, .ref tr, .ref lA, .int 0])), (ou, .inl (cJ, 1, .inr (.inl (hj))))]) sz) := by
  refine va_MetW (cc := cL_setRules) (maxL := 7) (ret := (some .int)) (hh := [(0, 14, 17, 13)]) (by decide) rfl ?_
  intro p e s m args below meth c s₁ B hml hv
  obtain ⟨rfl, hsz, hP, hK, hD0⟩ := hv
  have hx := B.exec
  have hb := B.bytes
  have hr := B.returns
  have hts := atoms_spec (ws := wsL_setRules) B.pre
  have hown : s.vm.findClass RL = some m.cls := findClass_of_methodNamed B.named
  have hlocks := B.notSynchronized
  subst hsz
  have hD := hD0.self (sz := s.heap.size)
  generalize hAe : va_A ([(o, .inr (3, [.ref kA, .int 0, .int 20, .int 60, .int 2000, .int 0, .ref iA, .int 0, .int 0, .int 0, .ref tA, .ref tr, .ref lA, .int 0])), (ou, .inl (cJ, 1, .inr (.inl (hj))))]) s.heap.size = A at hD ⊢
  have hA : ∀ q : Nat, s.heap.size ≤ q → A q := fun q h => by rw [← hAe]; exact Or.inr h
  have hS : va_S A s.heap s.heap [] := va_S.rf
  have hl := lv_entry ([.ref o, .int a, .int b, .int c1, .int 1, .ref ou]) (n := 7) (Nat.le_of_ble_eq_true rfl)
  rw [lg_entry_eq]
  generalize (lg_sl ([.ref o, .int a, .int b, .int c1, .int 1, .ref ou]) ++ List.replicate (7 - (lg_sl ([.ref o, .int a, .int b, .int c1, .int 1, .ref ou])).length) Slot.unset).toArray = ls at hl ⊢
  have hl : lv_has ls 7 [(0, .ref o), (1, .int a), (2, .int b), (3, .int c1), (4, .int 1), (5, .ref ou)] := hl
  have hP : va_P D vwCl ([(o, .inr (3, [.ref kA, .int 0, .int 20, .int 60, .int 2000, .int 0, .ref iA, .int 0, .int 0, .int 0, .ref tA, .ref tr, .ref lA, .int 0])), (ou, .inl (cJ, 1, .inr (.inl (hj))))]) s.heap := hP
  generalize hRe : (headSpec _ _).room = R
  have hRf : R.frames = 8 := by rw [← hRe]; rfl
  have hRc : R.cells = 0 := by rw [← hRe]; rfl
  have hRs : R.slots = 0 := by rw [← hRe]; rfl
  have hRl : R.locals = 200 := by rw [← hRe]; rfl
  clear hRe
  refine lv_aload hx hb dL_setRules_0 (lv_at hl 5 rfl) ?_
  refine lv_iconst (v := 0) hx hb dL_setRules_2 (by decide) ?_
  refine lv_aload_n hx hb dL_setRules_3 rfl (lv_at hl 0 rfl) ?_
  refine lv_iload_n hx hb dL_setRules_4 rfl (lv_at hl 1 rfl) ?_
  refine lv_iload_n hx hb dL_setRules_5 rfl (lv_at hl 2 rfl) ?_
  refine lv_iload_n hx hb dL_setRules_6 rfl (lv_at hl 3 rfl) ?_
  refine lv_iload hx hb dL_setRules_7 (lv_at hl 4 rfl) ?_
  refine zcalliV (As := [.int a, .int b, .int c1, .int 1]) (rest := [.int 0, .ref ou]) (wc := [(o, .inr (3, [.ref kA, .int 0, .int 20, .int 60, .int 2000, .int 0, .ref iA, .int 0, .int 0, .int 0, .ref tA, .ref tr, .ref lA, .int 0]))]) (wr := [(ou, .inl (cJ, 1, .inr (.inl (hj))))]) ⟨hx, hb, hml, hown, hts⟩ (c_setRules_ok_1 l D _ o kA iA tA tr lA a b c1 h) (cwV 4 hts gL_setRules_X3_setRules rfl rfl rfl (by decide +kernel) ⟨by rw [hRf]; exact Nat.le_of_ble_eq_true rfl, by rw [hRl]; exact Nat.le_of_ble_eq_true rfl⟩) hK hP hD hS hA [0] [1] rfl (by decide) rfl (by decide) (by decide) [] rfl (ci := 3) (q0 := 0) rfl rfl rfl hl.1 rfl (Nat.le_of_ble_eq_true rfl) dL_setRules_9 ⟨by omega, by omega⟩ (fun r_12 u_13 H locs hwu_13 hnu_13 hzu_13 hK hP hD hS => ?_)
  have hK : va_K D vwCl [(cJ, .long)] s := hK
  have hP : va_P D vwCl ([(ou, .inl (cJ, 1, .inr (.inl (hj))))]) H := hP
  have hD : va_D A ([(ou, .inl (cJ, 1, .inr (.inl (hj))))]) := hD
  refine lv_topi (fun v_14 ev_14 => ?_)
  obtain rfl : v_14 = 20 := ev_14.trans hwu_13
  refine lv_i2l (v := (20 : Int32).toInt64) hx hb dL_setRules_12 rfl ?_
  refine va_last hx hb hK hP hD hS 0 0 rfl rfl (vp_in_nI (n := 0) (N := 1) (by decide) (by decide)) dL_setRules_13 (fun H locs hP hD hS => ?_)
  have hP : va_P D vwCl ([(ou, .inl (cJ, 1, .inr (.inl (vp_updL (hj) 0 ((20 : Int32).toInt64)))))]) H := hP
  have hD : va_D A ([(ou, .inl (cJ, 1, .inr (.inl (vp_updL (hj) 0 ((20 : Int32).toInt64)))))]) := hD
  refine lv_goto (tgt := 21) hx hb dL_setRules_14 (by decide) ?_
  refine lv_iconst (v := 0) hx hb dL_setRules_21 (by decide) ?_
  have hP := hP.sub (ws' := [(ou, .inl (cJ, 1, .inr (.inl (vp_updL (hj) 0 ((20 : Int32).toInt64)))))]) [0] rfl
  have hD := hD.sub (ws' := [(ou, .inl (cJ, 1, .inr (.inl (vp_updL (hj) 0 ((20 : Int32).toInt64)))))]) [0] (by decide) rfl
  exact W.iret (v := 0) hx hb hr (fun t ht hW => ⟨⟨0, (), rfl, rfl, ⟨Nat.zero_le _, by rw [ht]; exact hP, va_K.moved hW.alike (hK.sub (tys' := [(cJ, .long)]) [0] rfl), hD⟩⟩, hS.F ht⟩) hS.2.2 dL_setRules_22
set_option maxHeartbeats 4000000 in
set_option maxRecDepth 100000 in
theorem c_LaddKind_ok (l : Launch) (D : zG) (sz : Nat) (o kA iA tA tr lA : Nat) (ou : Nat) (cK : ClassId) (cJ : ClassId) (hj : Nat → Int64) (a b c1 d e1 f : Int32) (h : (1 ≤ a ∧ a ≤ 6) ∧ (1 ≤ b ∧ b ≤ 6) ∧ (1 ≤ c1 ∧ c1 ≤ 8) ∧ (1 ≤ d ∧ d ≤ 500) ∧ (0 ≤ e1 ∧ e1 ≤ 5000) ∧ (0 ≤ f ∧ f ≤ 3)) : Met l yL_addKind wsL_addKind ({ frames := 8, cells := 1, slots := 8, locals := 200 }) (zPc D [(cK, .object RX1), (cJ, .long)] ([(o, .inr (3, [.ref kA, .int 0, .int 20, .int 60, .int 2000, .int 0, .ref iA, .int 0, .int 0, .int 0, .ref tA, .ref tr, .ref lA, .int 0])), (kA, .inl (cK, 10, .inr (.inr (.inr (.inr (fun _ => none)))))), (ou, .inl (cJ, 1, .inr (.inl (hj))))]) sz [.ref o, .int a, .int b, .int c1, .int d, .int e1, .int f, .ref ou]) (va_Qi (fun (r : Int32) (u : Unit) => r = 0) (zB D (va_A ([(o, .inr (3, [.ref kA, .int 0, .int 20, .int 60, .int 2000, .int 0, .ref iA, .int 0, .int 0, .int 0, .ref tA, .ref tr, .ref lA, .int 0])), (kA, .inl (cK, 10, .inr (.inr (.inr (.inr (fun _ => none)))))), (ou, .inl (cJ, 1, .inr (.inl (hj))))]) sz) (fun _ => [(cJ, .long)]) 0 (fun _ => [(ou, .inl (cJ, 1, .inr (.inl (vp_updL hj 0 (0 : Int32).toInt64))))])) (va_A ([(o, .inr (3, [.ref kA, .int 0, .int 20, .int 60, .int 2000, .int 0, .ref iA, .int 0, .int 0, .int 0, .ref tA, .ref tr, .ref lA, .int 0])), (kA, .inl (cK, 10, .inr (.inr (.inr (.inr (fun _ => none)))))), (ou, .inl (cJ, 1, .inr (.inl (hj))))]) sz)) 1 8 (va_A ([(o, .inr (3, [.ref kA, .int 0, .int 20, .int 60, .int 2000, .int 0, .ref iA, .int 0, .int 0, .int 0, .ref tA, .ref tr, .ref lA, .int 0])), (kA, .inl (cK, 10, .inr (.inr (.inr (.inr (fun _ => none)))))), (ou, .inl (cJ, 1, .inr (.inl (hj))))]) sz) := by
  refine va_MetW (cc := cL_addKind) (maxL := 9) (ret := (some .int)) (hh := [(0, 18, 21, 13), (0, 18, 25, 15)]) (by decide) rfl ?_
  intro p e s m args below meth c s₁ B hml hv
  obtain ⟨rfl, hsz, hP, hK, hD0⟩ := hv
  have hx := B.exec
  have hb := B.bytes
  have hr := B.returns
  have hts := atoms_spec (ws := wsL_addKind) B.pre
  have hown : s.vm.findClass RL = some m.cls := findClass_of_methodNamed B.named
  have hlocks := B.notSynchronized
  subst hsz
  have hD := hD0.self (sz := s.heap.size)
  generalize hAe : va_A ([(o, .inr (3, [.ref kA, .int 0, .int 20, .int 60, .int 2000, .int 0, .ref iA, .int 0, .int 0, .int 0, .ref tA, .ref tr, .ref lA, .int 0])), (kA, .inl (cK, 10, .inr (.inr (.inr (.inr (fun _ => none)))))), (ou, .inl (cJ, 1, .inr (.inl (hj))))]) s.heap.size = A at hD ⊢
  have hA : ∀ q : Nat, s.heap.size ≤ q → A q := fun q h => by rw [← hAe]; exact Or.inr h
  have hS : va_S A s.heap s.heap [] := va_S.rf
  have hl := lv_entry ([.ref o, .int a, .int b, .int c1, .int d, .int e1, .int f, .ref ou]) (n := 9) (Nat.le_of_ble_eq_true rfl)
  rw [lg_entry_eq]
  generalize (lg_sl ([.ref o, .int a, .int b, .int c1, .int d, .int e1, .int f, .ref ou]) ++ List.replicate (9 - (lg_sl ([.ref o, .int a, .int b, .int c1, .int d, .int e1, .int f, .ref ou])).length) Slot.unset).toArray = ls at hl ⊢
  have hl : lv_has ls 9 [(0, .ref o), (1, .int a), (2, .int b), (3, .int c1), (4, .int d), (5, .int e1), (6, .int f), (7, .ref ou)] := hl
  have hP : va_P D vwCl ([(o, .inr (3, [.ref kA, .int 0, .int 20, .int 60, .int 2000, .int 0, .ref iA, .int 0, .int 0, .int 0, .ref tA, .ref tr, .ref lA, .int 0])), (kA, .inl (cK, 10, .inr (.inr (.inr (.inr (fun _ => none)))))), (ou, .inl (cJ, 1, .inr (.inl (hj))))]) s.heap := hP
  generalize hRe : (headSpec _ _).room = R
  have hRf : R.frames = 8 := by rw [← hRe]; rfl
  have hRc : R.cells = 1 := by rw [← hRe]; rfl
  have hRs : R.slots = 8 := by rw [← hRe]; rfl
  have hRl : R.locals = 200 := by rw [← hRe]; rfl
  clear hRe
  refine lv_aload hx hb dL_addKind_0 (lv_at hl 7 rfl) ?_
  refine lv_iconst (v := 0) hx hb dL_addKind_2 (by decide) ?_
  refine lv_aload_n hx hb dL_addKind_3 rfl (lv_at hl 0 rfl) ?_
  refine lv_iload_n hx hb dL_addKind_4 rfl (lv_at hl 1 rfl) ?_
  refine lv_iload_n hx hb dL_addKind_5 rfl (lv_at hl 2 rfl) ?_
  refine lv_iload_n hx hb dL_addKind_6 rfl (lv_at hl 3 rfl) ?_
  refine lv_iload hx hb dL_addKind_7 (lv_at hl 4 rfl) ?_
  refine lv_iload hx hb dL_addKind_9 (lv_at hl 5 rfl) ?_
  refine lv_iload hx hb dL_addKind_11 (lv_at hl 6 rfl) ?_
  refine zcalliV (As := [.int a, .int b, .int c1, .int d, .int e1, .int f]) (rest := [.int 0, .ref ou]) (wc := [(o, .inr (3, [.ref kA, .int 0, .int 20, .int 60, .int 2000, .int 0, .ref iA, .int 0, .int 0, .int 0, .ref tA, .ref tr, .ref lA, .int 0])), (kA, .inl (cK, 10, .inr (.inr (.inr (.inr (fun _ => none))))))]) (wr := [(ou, .inl (cJ, 1, .inr (.inl (hj))))]) ⟨hx, hb, hml, hown, hts⟩ (c_addKind_ok l D _ o kA iA tA tr lA cK a b c1 d e1 f h) (cwV 6 hts gL_addKind_X3_addKind rfl rfl rfl (by decide +kernel) ⟨by rw [hRf]; exact Nat.le_of_ble_eq_true rfl, by rw [hRl]; exact Nat.le_of_ble_eq_true rfl⟩) hK hP hD hS hA [0, 1] [2] rfl (by decide) rfl (by decide) (by decide) [0] rfl (ci := 3) (q0 := 0) rfl rfl rfl hl.1 rfl (Nat.le_of_ble_eq_true rfl) dL_addKind_13 ⟨by omega, by omega⟩ (fun r_15 u_16 H locs hwu_16 hnu_16 hzu_16 hK hP hD hS => ?_)
  have hK : va_K D vwCl [(cK, .object RX1), (cJ, .long)] s := hK
  have hP : va_P D vwCl ([(ou, .inl (cJ, 1, .inr (.inl (hj))))]) H := hP
  have hD : va_D A ([(ou, .inl (cJ, 1, .inr (.inl (hj))))]) := hD
  refine lv_topi (fun v_17 ev_17 => ?_)
  obtain rfl : v_17 = 0 := ev_17.trans hwu_16
  refine lv_i2l (v := (0 : Int32).toInt64) hx hb dL_addKind_16 rfl ?_
  refine va_last hx hb hK hP hD hS 0 1 rfl rfl (vp_in_nI (n := 0) (N := 1) (by decide) (by decide)) dL_addKind_17 (fun H locs hP hD hS => ?_)
  have hP : va_P D vwCl ([(ou, .inl (cJ, 1, .inr (.inl (vp_updL (hj) 0 ((0 : Int32).toInt64)))))]) H := hP
  have hD : va_D A ([(ou, .inl (cJ, 1, .inr (.inl (vp_updL (hj) 0 ((0 : Int32).toInt64)))))]) := hD
  refine lv_goto (tgt := 29) hx hb dL_addKind_18 (by decide) ?_
  refine lv_iconst (v := 0) hx hb dL_addKind_29 (by decide) ?_
  have hP := hP.sub (ws' := [(ou, .inl (cJ, 1, .inr (.inl (vp_updL (hj) 0 ((0 : Int32).toInt64)))))]) [0] rfl
  have hD := hD.sub (ws' := [(ou, .inl (cJ, 1, .inr (.inl (vp_updL (hj) 0 ((0 : Int32).toInt64)))))]) [0] (by decide) rfl
  refine W.widen (k := 1) (n := 8) (by omega) (by omega) ?_
  exact W.iret (v := 0) hx hb hr (fun t ht hW => ⟨⟨0, (), rfl, rfl, ⟨Nat.zero_le _, by rw [ht]; exact hP, va_K.moved hW.alike (hK.sub (tys' := [(cJ, .long)]) [1] rfl), hD⟩⟩, hS.F ht⟩) hS.2.2 dL_addKind_30
