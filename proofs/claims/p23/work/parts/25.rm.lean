set_option maxHeartbeats 4000000 in
set_option maxRecDepth 100000 in
theorem c_Item_init (l : Launch) (D : zG) (sz : Nat) (h : Nat) : Met l yX0_init wsX0_init ({ frames := 1, cells := 2, slots := 72, locals := 16 }) (zPcK D [] ([(h, .inr (0, [.int 0, .int 0, .int 0, .int 0, .int 0, .int 0, .int 0, .int 0, .int 0, .int 0, .int 0, .int 0, .int 0, .int 0, .int 0, .int 0, .null, .null]))]) sz (va_AO RX0) [.ref h]) (va_Qv (fun (u : Nat × Nat × ClassId × ClassId) => True) (zB D (va_A ([(h, .inr (0, [.int 0, .int 0, .int 0, .int 0, .int 0, .int 0, .int 0, .int 0, .int 0, .int 0, .int 0, .int 0, .int 0, .int 0, .int 0, .int 0, .null, .null]))]) sz) (fun u => [(u.2.2.1, .object RX0), (u.2.2.2, .int)]) 0 (fun u => [(h, .inr (0, [.int 0, .int 0, .int 0, .int 0, .int 0, .int 0, .int 0, .int 0, .int 0, .int 0, .int 0, .int 0, .int 0, .int 0, .int 0, .int 0, .ref u.1, .ref u.2.1])), (u.1, .inl (u.2.2.1, 36, .inr (.inr (.inr (.inr (fun _ => none)))))), (u.2.1, .inl (u.2.2.2, 36, .inl (fun _ => 0)))])) (va_A ([(h, .inr (0, [.int 0, .int 0, .int 0, .int 0, .int 0, .int 0, .int 0, .int 0, .int 0, .int 0, .int 0, .int 0, .int 0, .int 0, .int 0, .int 0, .null, .null]))]) sz)) 2 72 (va_A ([(h, .inr (0, [.int 0, .int 0, .int 0, .int 0, .int 0, .int 0, .int 0, .int 0, .int 0, .int 0, .int 0, .int 0, .int 0, .int 0, .int 0, .int 0, .null, .null]))]) sz) := by
  refine Met.ofW (cc := cX0_init) (maxL := 1) (ret := none) (by decide) rfl ?_
  intro p e s m args below meth c s₁ B hml hv
  obtain ⟨rfl, ⟨hsz, hP, hK, hD0⟩, hKx⟩ := hv
  have hx := B.exec
  have hb := B.bytes
  have hr := B.returns
  have hts := atoms_spec (ws := wsX0_init) B.pre
  have hown : s.vm.findClass RX0 = some m.cls := findClass_of_methodNamed B.named
  have hlocks := B.notSynchronized
  have hin : meth.name = "<init>" := (name_of_methodNamed B.named B.method).1
  subst hsz
  have hD := hD0.self (sz := s.heap.size)
  generalize hAe : va_A ([(h, .inr (0, [.int 0, .int 0, .int 0, .int 0, .int 0, .int 0, .int 0, .int 0, .int 0, .int 0, .int 0, .int 0, .int 0, .int 0, .int 0, .int 0, .null, .null]))]) s.heap.size = A at hD ⊢
  have hA : ∀ q : Nat, s.heap.size ≤ q → A q := fun q h => by rw [← hAe]; exact Or.inr h
  have hS : va_S A s.heap s.heap [] := va_S.rf
  have hl := lv_entry ([.ref h]) (n := 1) (Nat.le_of_ble_eq_true rfl)
  rw [lg_entry_eq]
  generalize (lg_sl ([.ref h]) ++ List.replicate (1 - (lg_sl ([.ref h])).length) Slot.unset).toArray = ls at hl ⊢
  have hl : lv_has ls 1 [(0, .ref h)] := hl
  have hP : va_P D vwCl ([(h, .inr (0, [.int 0, .int 0, .int 0, .int 0, .int 0, .int 0, .int 0, .int 0, .int 0, .int 0, .int 0, .int 0, .int 0, .int 0, .int 0, .int 0, .null, .null]))]) s.heap := hP
  generalize hRe : (headSpec _ _).room = R
  have hRf : R.frames = 1 := by rw [← hRe]; rfl
  have hRc : R.cells = 2 := by rw [← hRe]; rfl
  have hRs : R.slots = 72 := by rw [← hRe]; rfl
  have hRl : R.locals = 16 := by rw [← hRe]; rfl
  clear hRe
  refine lv_aload_n hx hb dX0_init_0 rfl (lv_at hl 0 rfl) ?_
  refine W.objInit hx hb hown (hts (.methodLink RX0 3 objectInit) (List.mem_of_getElem? (i := 1) (by rfl))) (hts (.instanceMethod objectInit) (List.mem_of_getElem? (i := 2) (by rfl))) (hts (.code objectInit ⟨#[0xb1]⟩ 1 none) (List.mem_of_getElem? (i := 3) (by rfl))) rfl (by rw [hml]; exact hl.1) rfl dX0_init_1 (by rw [hRf]; exact Nat.le_of_ble_eq_true rfl) (by rw [hRl]; exact Nat.le_of_ble_eq_true rfl) ?_
  refine W.eq (g2 := F0 m 4 ls []) rfl ?_
  refine lv_aload_n hx hb dX0_init_4 rfl (lv_at hl 0 rfl) ?_
  refine lv_iconst (v := 0) hx hb dX0_init_5 (by decide) ?_
  refine va_put (D := D) (ci := 0) (v := .int 0) (ty := .int) (C := RX0) (T := TX0) (N := 18) hx hb hts (fun _ h9 => List.mem_cons_of_mem _ (List.mem_append_right _ h9)) tyX0 tyX0_ok nmX0 hown hK hP hD hS 0 rfl rfl 0 (by decide) (hts (.fieldLink RX0 9 "PalletStack$Item" "kind" "I") (List.mem_of_getElem? (i := 4) (by rfl))) (fun _ h9 => h9) rfl (by decide +kernel) rfl rfl (Nat.le_of_ble_eq_true rfl) dX0_init_6 (fun H locs hP hD hS => ?_)
  have hP : va_P D vwCl ([(h, .inr (0, [.int 0, .int 0, .int 0, .int 0, .int 0, .int 0, .int 0, .int 0, .int 0, .int 0, .int 0, .int 0, .int 0, .int 0, .int 0, .int 0, .null, .null]))]) H := hP
  have hD : va_D A ([(h, .inr (0, [.int 0, .int 0, .int 0, .int 0, .int 0, .int 0, .int 0, .int 0, .int 0, .int 0, .int 0, .int 0, .int 0, .int 0, .int 0, .int 0, .null, .null]))]) := hD
  refine lv_aload_n hx hb dX0_init_9 rfl (lv_at hl 0 rfl) ?_
  refine lv_iconst (v := 0) hx hb dX0_init_10 (by decide) ?_
  refine va_put (D := D) (ci := 0) (v := .int 0) (ty := .int) (C := RX0) (T := TX0) (N := 18) hx hb hts (fun _ h9 => List.mem_cons_of_mem _ (List.mem_append_right _ h9)) tyX0 tyX0_ok nmX0 hown hK hP hD hS 0 rfl rfl 1 (by decide) (hts (.fieldLink RX0 15 "PalletStack$Item" "weight" "I") (List.mem_of_getElem? (i := 5) (by rfl))) (fun _ h9 => h9) rfl (by decide +kernel) rfl rfl (Nat.le_of_ble_eq_true rfl) dX0_init_11 (fun H locs hP hD hS => ?_)
  have hP : va_P D vwCl ([(h, .inr (0, [.int 0, .int 0, .int 0, .int 0, .int 0, .int 0, .int 0, .int 0, .int 0, .int 0, .int 0, .int 0, .int 0, .int 0, .int 0, .int 0, .null, .null]))]) H := hP
  have hD : va_D A ([(h, .inr (0, [.int 0, .int 0, .int 0, .int 0, .int 0, .int 0, .int 0, .int 0, .int 0, .int 0, .int 0, .int 0, .int 0, .int 0, .int 0, .int 0, .null, .null]))]) := hD
  refine lv_aload_n hx hb dX0_init_14 rfl (lv_at hl 0 rfl) ?_
  refine lv_iconst (v := 0) hx hb dX0_init_15 (by decide) ?_
  refine va_put (D := D) (ci := 0) (v := .int 0) (ty := .int) (C := RX0) (T := TX0) (N := 18) hx hb hts (fun _ h9 => List.mem_cons_of_mem _ (List.mem_append_right _ h9)) tyX0 tyX0_ok nmX0 hown hK hP hD hS 0 rfl rfl 2 (by decide) (hts (.fieldLink RX0 18 "PalletStack$Item" "strength" "I") (List.mem_of_getElem? (i := 6) (by rfl))) (fun _ h9 => h9) rfl (by decide +kernel) rfl rfl (Nat.le_of_ble_eq_true rfl) dX0_init_16 (fun H locs hP hD hS => ?_)
  have hP : va_P D vwCl ([(h, .inr (0, [.int 0, .int 0, .int 0, .int 0, .int 0, .int 0, .int 0, .int 0, .int 0, .int 0, .int 0, .int 0, .int 0, .int 0, .int 0, .int 0, .null, .null]))]) H := hP
  have hD : va_D A ([(h, .inr (0, [.int 0, .int 0, .int 0, .int 0, .int 0, .int 0, .int 0, .int 0, .int 0, .int 0, .int 0, .int 0, .int 0, .int 0, .int 0, .int 0, .null, .null]))]) := hD
  refine lv_aload_n hx hb dX0_init_19 rfl (lv_at hl 0 rfl) ?_
  refine lv_iconst (v := 0) hx hb dX0_init_20 (by decide) ?_
  refine va_put (D := D) (ci := 0) (v := .int 0) (ty := .boolean) (C := RX0) (T := TX0) (N := 18) hx hb hts (fun _ h9 => List.mem_cons_of_mem _ (List.mem_append_right _ h9)) tyX0 tyX0_ok nmX0 hown hK hP hD hS 0 rfl rfl 3 (by decide) (hts (.fieldLink RX0 21 "PalletStack$Item" "isTurned" "Z") (List.mem_of_getElem? (i := 7) (by rfl))) (fun _ h9 => h9) rfl (by decide +kernel) rfl rfl (Nat.le_of_ble_eq_true rfl) dX0_init_21 (fun H locs hP hD hS => ?_)
  have hP : va_P D vwCl ([(h, .inr (0, [.int 0, .int 0, .int 0, .int 0, .int 0, .int 0, .int 0, .int 0, .int 0, .int 0, .int 0, .int 0, .int 0, .int 0, .int 0, .int 0, .null, .null]))]) H := hP
  have hD : va_D A ([(h, .inr (0, [.int 0, .int 0, .int 0, .int 0, .int 0, .int 0, .int 0, .int 0, .int 0, .int 0, .int 0, .int 0, .int 0, .int 0, .int 0, .int 0, .null, .null]))]) := hD
  refine lv_aload_n hx hb dX0_init_24 rfl (lv_at hl 0 rfl) ?_
  refine lv_iconst (v := 0) hx hb dX0_init_25 (by decide) ?_
  refine va_put (D := D) (ci := 0) (v := .int 0) (ty := .int) (C := RX0) (T := TX0) (N := 18) hx hb hts (fun _ h9 => List.mem_cons_of_mem _ (List.mem_append_right _ h9)) tyX0 tyX0_ok nmX0 hown hK hP hD hS 0 rfl rfl 4 (by decide) (hts (.fieldLink RX0 25 "PalletStack$Item" "width" "I") (List.mem_of_getElem? (i := 8) (by rfl))) (fun _ h9 => h9) rfl (by decide +kernel) rfl rfl (Nat.le_of_ble_eq_true rfl) dX0_init_26 (fun H locs hP hD hS => ?_)
  have hP : va_P D vwCl ([(h, .inr (0, [.int 0, .int 0, .int 0, .int 0, .int 0, .int 0, .int 0, .int 0, .int 0, .int 0, .int 0, .int 0, .int 0, .int 0, .int 0, .int 0, .null, .null]))]) H := hP
  have hD : va_D A ([(h, .inr (0, [.int 0, .int 0, .int 0, .int 0, .int 0, .int 0, .int 0, .int 0, .int 0, .int 0, .int 0, .int 0, .int 0, .int 0, .int 0, .int 0, .null, .null]))]) := hD
  refine lv_aload_n hx hb dX0_init_29 rfl (lv_at hl 0 rfl) ?_
  refine lv_iconst (v := 0) hx hb dX0_init_30 (by decide) ?_
  refine va_put (D := D) (ci := 0) (v := .int 0) (ty := .int) (C := RX0) (T := TX0) (N := 18) hx hb hts (fun _ h9 => List.mem_cons_of_mem _ (List.mem_append_right _ h9)) tyX0 tyX0_ok nmX0 hown hK hP hD hS 0 rfl rfl 5 (by decide) (hts (.fieldLink RX0 28 "PalletStack$Item" "depth" "I") (List.mem_of_getElem? (i := 9) (by rfl))) (fun _ h9 => h9) rfl (by decide +kernel) rfl rfl (Nat.le_of_ble_eq_true rfl) dX0_init_31 (fun H locs hP hD hS => ?_)
  have hP : va_P D vwCl ([(h, .inr (0, [.int 0, .int 0, .int 0, .int 0, .int 0, .int 0, .int 0, .int 0, .int 0, .int 0, .int 0, .int 0, .int 0, .int 0, .int 0, .int 0, .null, .null]))]) H := hP
  have hD : va_D A ([(h, .inr (0, [.int 0, .int 0, .int 0, .int 0, .int 0, .int 0, .int 0, .int 0, .int 0, .int 0, .int 0, .int 0, .int 0, .int 0, .int 0, .int 0, .null, .null]))]) := hD
  refine lv_aload_n hx hb dX0_init_34 rfl (lv_at hl 0 rfl) ?_
  refine lv_iconst (v := 0) hx hb dX0_init_35 (by decide) ?_
  refine va_put (D := D) (ci := 0) (v := .int 0) (ty := .int) (C := RX0) (T := TX0) (N := 18) hx hb hts (fun _ h9 => List.mem_cons_of_mem _ (List.mem_append_right _ h9)) tyX0 tyX0_ok nmX0 hown hK hP hD hS 0 rfl rfl 6 (by decide) (hts (.fieldLink RX0 31 "PalletStack$Item" "x" "I") (List.mem_of_getElem? (i := 10) (by rfl))) (fun _ h9 => h9) rfl (by decide +kernel) rfl rfl (Nat.le_of_ble_eq_true rfl) dX0_init_36 (fun H locs hP hD hS => ?_)
  have hP : va_P D vwCl ([(h, .inr (0, [.int 0, .int 0, .int 0, .int 0, .int 0, .int 0, .int 0, .int 0, .int 0, .int 0, .int 0, .int 0, .int 0, .int 0, .int 0, .int 0, .null, .null]))]) H := hP
  have hD : va_D A ([(h, .inr (0, [.int 0, .int 0, .int 0, .int 0, .int 0, .int 0, .int 0, .int 0, .int 0, .int 0, .int 0, .int 0, .int 0, .int 0, .int 0, .int 0, .null, .null]))]) := hD
  refine lv_aload_n hx hb dX0_init_39 rfl (lv_at hl 0 rfl) ?_
  refine lv_iconst (v := 0) hx hb dX0_init_40 (by decide) ?_
  refine va_put (D := D) (ci := 0) (v := .int 0) (ty := .int) (C := RX0) (T := TX0) (N := 18) hx hb hts (fun _ h9 => List.mem_cons_of_mem _ (List.mem_append_right _ h9)) tyX0 tyX0_ok nmX0 hown hK hP hD hS 0 rfl rfl 7 (by decide) (hts (.fieldLink RX0 34 "PalletStack$Item" "y" "I") (List.mem_of_getElem? (i := 11) (by rfl))) (fun _ h9 => h9) rfl (by decide +kernel) rfl rfl (Nat.le_of_ble_eq_true rfl) dX0_init_41 (fun H locs hP hD hS => ?_)
  have hP : va_P D vwCl ([(h, .inr (0, [.int 0, .int 0, .int 0, .int 0, .int 0, .int 0, .int 0, .int 0, .int 0, .int 0, .int 0, .int 0, .int 0, .int 0, .int 0, .int 0, .null, .null]))]) H := hP
  have hD : va_D A ([(h, .inr (0, [.int 0, .int 0, .int 0, .int 0, .int 0, .int 0, .int 0, .int 0, .int 0, .int 0, .int 0, .int 0, .int 0, .int 0, .int 0, .int 0, .null, .null]))]) := hD
  refine lv_aload_n hx hb dX0_init_44 rfl (lv_at hl 0 rfl) ?_
  refine lv_iconst (v := 0) hx hb dX0_init_45 (by decide) ?_
  refine va_put (D := D) (ci := 0) (v := .int 0) (ty := .int) (C := RX0) (T := TX0) (N := 18) hx hb hts (fun _ h9 => List.mem_cons_of_mem _ (List.mem_append_right _ h9)) tyX0 tyX0_ok nmX0 hown hK hP hD hS 0 rfl rfl 8 (by decide) (hts (.fieldLink RX0 37 "PalletStack$Item" "bottom" "I") (List.mem_of_getElem? (i := 12) (by rfl))) (fun _ h9 => h9) rfl (by decide +kernel) rfl rfl (Nat.le_of_ble_eq_true rfl) dX0_init_46 (fun H locs hP hD hS => ?_)
  have hP : va_P D vwCl ([(h, .inr (0, [.int 0, .int 0, .int 0, .int 0, .int 0, .int 0, .int 0, .int 0, .int 0, .int 0, .int 0, .int 0, .int 0, .int 0, .int 0, .int 0, .null, .null]))]) H := hP
  have hD : va_D A ([(h, .inr (0, [.int 0, .int 0, .int 0, .int 0, .int 0, .int 0, .int 0, .int 0, .int 0, .int 0, .int 0, .int 0, .int 0, .int 0, .int 0, .int 0, .null, .null]))]) := hD
  refine lv_aload_n hx hb dX0_init_49 rfl (lv_at hl 0 rfl) ?_
  refine lv_iconst (v := 0) hx hb dX0_init_50 (by decide) ?_
  refine va_put (D := D) (ci := 0) (v := .int 0) (ty := .int) (C := RX0) (T := TX0) (N := 18) hx hb hts (fun _ h9 => List.mem_cons_of_mem _ (List.mem_append_right _ h9)) tyX0 tyX0_ok nmX0 hown hK hP hD hS 0 rfl rfl 9 (by decide) (hts (.fieldLink RX0 40 "PalletStack$Item" "top" "I") (List.mem_of_getElem? (i := 13) (by rfl))) (fun _ h9 => h9) rfl (by decide +kernel) rfl rfl (Nat.le_of_ble_eq_true rfl) dX0_init_51 (fun H locs hP hD hS => ?_)
  have hP : va_P D vwCl ([(h, .inr (0, [.int 0, .int 0, .int 0, .int 0, .int 0, .int 0, .int 0, .int 0, .int 0, .int 0, .int 0, .int 0, .int 0, .int 0, .int 0, .int 0, .null, .null]))]) H := hP
  have hD : va_D A ([(h, .inr (0, [.int 0, .int 0, .int 0, .int 0, .int 0, .int 0, .int 0, .int 0, .int 0, .int 0, .int 0, .int 0, .int 0, .int 0, .int 0, .int 0, .null, .null]))]) := hD
  refine lv_aload_n hx hb dX0_init_54 rfl (lv_at hl 0 rfl) ?_
  refine lv_iconst (v := 0) hx hb dX0_init_55 (by decide) ?_
  refine va_put (D := D) (ci := 0) (v := .int 0) (ty := .int) (C := RX0) (T := TX0) (N := 18) hx hb hts (fun _ h9 => List.mem_cons_of_mem _ (List.mem_append_right _ h9)) tyX0 tyX0_ok nmX0 hown hK hP hD hS 0 rfl rfl 10 (by decide) (hts (.fieldLink RX0 43 "PalletStack$Item" "ground" "I") (List.mem_of_getElem? (i := 14) (by rfl))) (fun _ h9 => h9) rfl (by decide +kernel) rfl rfl (Nat.le_of_ble_eq_true rfl) dX0_init_56 (fun H locs hP hD hS => ?_)
  have hP : va_P D vwCl ([(h, .inr (0, [.int 0, .int 0, .int 0, .int 0, .int 0, .int 0, .int 0, .int 0, .int 0, .int 0, .int 0, .int 0, .int 0, .int 0, .int 0, .int 0, .null, .null]))]) H := hP
  have hD : va_D A ([(h, .inr (0, [.int 0, .int 0, .int 0, .int 0, .int 0, .int 0, .int 0, .int 0, .int 0, .int 0, .int 0, .int 0, .int 0, .int 0, .int 0, .int 0, .null, .null]))]) := hD
  refine lv_aload_n hx hb dX0_init_59 rfl (lv_at hl 0 rfl) ?_
  refine lv_iconst (v := 0) hx hb dX0_init_60 (by decide) ?_
  refine va_put (D := D) (ci := 0) (v := .int 0) (ty := .int) (C := RX0) (T := TX0) (N := 18) hx hb hts (fun _ h9 => List.mem_cons_of_mem _ (List.mem_append_right _ h9)) tyX0 tyX0_ok nmX0 hown hK hP hD hS 0 rfl rfl 11 (by decide) (hts (.fieldLink RX0 46 "PalletStack$Item" "load" "I") (List.mem_of_getElem? (i := 15) (by rfl))) (fun _ h9 => h9) rfl (by decide +kernel) rfl rfl (Nat.le_of_ble_eq_true rfl) dX0_init_61 (fun H locs hP hD hS => ?_)
  have hP : va_P D vwCl ([(h, .inr (0, [.int 0, .int 0, .int 0, .int 0, .int 0, .int 0, .int 0, .int 0, .int 0, .int 0, .int 0, .int 0, .int 0, .int 0, .int 0, .int 0, .null, .null]))]) H := hP
  have hD : va_D A ([(h, .inr (0, [.int 0, .int 0, .int 0, .int 0, .int 0, .int 0, .int 0, .int 0, .int 0, .int 0, .int 0, .int 0, .int 0, .int 0, .int 0, .int 0, .null, .null]))]) := hD
  refine lv_aload_n hx hb dX0_init_64 rfl (lv_at hl 0 rfl) ?_
  refine lv_iconst (v := 0) hx hb dX0_init_65 (by decide) ?_
  refine va_put (D := D) (ci := 0) (v := .int 0) (ty := .int) (C := RX0) (T := TX0) (N := 18) hx hb hts (fun _ h9 => List.mem_cons_of_mem _ (List.mem_append_right _ h9)) tyX0 tyX0_ok nmX0 hown hK hP hD hS 0 rfl rfl 12 (by decide) (hts (.fieldLink RX0 49 "PalletStack$Item" "nextLoad" "I") (List.mem_of_getElem? (i := 16) (by rfl))) (fun _ h9 => h9) rfl (by decide +kernel) rfl rfl (Nat.le_of_ble_eq_true rfl) dX0_init_66 (fun H locs hP hD hS => ?_)
  have hP : va_P D vwCl ([(h, .inr (0, [.int 0, .int 0, .int 0, .int 0, .int 0, .int 0, .int 0, .int 0, .int 0, .int 0, .int 0, .int 0, .int 0, .int 0, .int 0, .int 0, .null, .null]))]) H := hP
  have hD : va_D A ([(h, .inr (0, [.int 0, .int 0, .int 0, .int 0, .int 0, .int 0, .int 0, .int 0, .int 0, .int 0, .int 0, .int 0, .int 0, .int 0, .int 0, .int 0, .null, .null]))]) := hD
  refine lv_aload_n hx hb dX0_init_69 rfl (lv_at hl 0 rfl) ?_
  refine lv_iconst (v := 0) hx hb dX0_init_70 (by decide) ?_
  refine va_put (D := D) (ci := 0) (v := .int 0) (ty := .boolean) (C := RX0) (T := TX0) (N := 18) hx hb hts (fun _ h9 => List.mem_cons_of_mem _ (List.mem_append_right _ h9)) tyX0 tyX0_ok nmX0 hown hK hP hD hS 0 rfl rfl 13 (by decide) (hts (.fieldLink RX0 52 "PalletStack$Item" "isOnPallet" "Z") (List.mem_of_getElem? (i := 17) (by rfl))) (fun _ h9 => h9) rfl (by decide +kernel) rfl rfl (Nat.le_of_ble_eq_true rfl) dX0_init_71 (fun H locs hP hD hS => ?_)
  have hP : va_P D vwCl ([(h, .inr (0, [.int 0, .int 0, .int 0, .int 0, .int 0, .int 0, .int 0, .int 0, .int 0, .int 0, .int 0, .int 0, .int 0, .int 0, .int 0, .int 0, .null, .null]))]) H := hP
  have hD : va_D A ([(h, .inr (0, [.int 0, .int 0, .int 0, .int 0, .int 0, .int 0, .int 0, .int 0, .int 0, .int 0, .int 0, .int 0, .int 0, .int 0, .int 0, .int 0, .null, .null]))]) := hD
  refine lv_aload_n hx hb dX0_init_74 rfl (lv_at hl 0 rfl) ?_
  refine lv_iconst (v := 0) hx hb dX0_init_75 (by decide) ?_
  refine va_put (D := D) (ci := 0) (v := .int 0) (ty := .boolean) (C := RX0) (T := TX0) (N := 18) hx hb hts (fun _ h9 => List.mem_cons_of_mem _ (List.mem_append_right _ h9)) tyX0 tyX0_ok nmX0 hown hK hP hD hS 0 rfl rfl 14 (by decide) (hts (.fieldLink RX0 55 "PalletStack$Item" "isReached" "Z") (List.mem_of_getElem? (i := 18) (by rfl))) (fun _ h9 => h9) rfl (by decide +kernel) rfl rfl (Nat.le_of_ble_eq_true rfl) dX0_init_76 (fun H locs hP hD hS => ?_)
  have hP : va_P D vwCl ([(h, .inr (0, [.int 0, .int 0, .int 0, .int 0, .int 0, .int 0, .int 0, .int 0, .int 0, .int 0, .int 0, .int 0, .int 0, .int 0, .int 0, .int 0, .null, .null]))]) H := hP
  have hD : va_D A ([(h, .inr (0, [.int 0, .int 0, .int 0, .int 0, .int 0, .int 0, .int 0, .int 0, .int 0, .int 0, .int 0, .int 0, .int 0, .int 0, .int 0, .int 0, .null, .null]))]) := hD
  refine lv_aload_n hx hb dX0_init_79 rfl (lv_at hl 0 rfl) ?_
  refine lv_iconst (v := 0) hx hb dX0_init_80 (by decide) ?_
  refine va_put (D := D) (ci := 0) (v := .int 0) (ty := .int) (C := RX0) (T := TX0) (N := 18) hx hb hts (fun _ h9 => List.mem_cons_of_mem _ (List.mem_append_right _ h9)) tyX0 tyX0_ok nmX0 hown hK hP hD hS 0 rfl rfl 15 (by decide) (hts (.fieldLink RX0 58 "PalletStack$Item" "supportCount" "I") (List.mem_of_getElem? (i := 19) (by rfl))) (fun _ h9 => h9) rfl (by decide +kernel) rfl rfl (Nat.le_of_ble_eq_true rfl) dX0_init_81 (fun H locs hP hD hS => ?_)
  have hP : va_P D vwCl ([(h, .inr (0, [.int 0, .int 0, .int 0, .int 0, .int 0, .int 0, .int 0, .int 0, .int 0, .int 0, .int 0, .int 0, .int 0, .int 0, .int 0, .int 0, .null, .null]))]) H := hP
  have hD : va_D A ([(h, .inr (0, [.int 0, .int 0, .int 0, .int 0, .int 0, .int 0, .int 0, .int 0, .int 0, .int 0, .int 0, .int 0, .int 0, .int 0, .int 0, .int 0, .null, .null]))]) := hD
  refine lv_aload_n hx hb dX0_init_84 rfl (lv_at hl 0 rfl) ?_
  refine lv_bipush (v := 36) hx hb dX0_init_85 (by decide) ?_
  refine va_newq (C := RX0) (N' := 36) hx hb hown (hts (.classLink RX0 10 RX0) (List.mem_of_getElem? (i := 20) (by rfl))) (hKx) hK hP hD hS hA (by decide) rfl (Nat.le_of_ble_eq_true rfl) (by omega) (by omega) dX0_init_87 (fun q_1 cy_2 H hK hP hD hS => ?_)
  have hP : va_P D vwCl ([(h, .inr (0, [.int 0, .int 0, .int 0, .int 0, .int 0, .int 0, .int 0, .int 0, .int 0, .int 0, .int 0, .int 0, .int 0, .int 0, .int 0, .int 0, .null, .null])), (q_1, .inl (cy_2, 36, .inr (.inr (.inr (.inr (fun _ => none))))))]) H := hP
  have hD : va_D A ([(h, .inr (0, [.int 0, .int 0, .int 0, .int 0, .int 0, .int 0, .int 0, .int 0, .int 0, .int 0, .int 0, .int 0, .int 0, .int 0, .int 0, .int 0, .null, .null])), (q_1, .inl (cy_2, 36, .inr (.inr (.inr (.inr (fun _ => none))))))]) := hD
  refine va_putF (D := D) (ci := 0) (v := .ref q_1) (ty := .array (.object "PalletStack$Item")) (C := RX0) (T := TX0) (N := 18) hx hb hts (fun _ h9 => List.mem_cons_of_mem _ (List.mem_append_right _ h9)) tyX0 tyX0_ok nmX0 hown hK hP hD hS 0 rfl rfl 16 (by decide) (hts (.fieldLink RX0 61 "PalletStack$Item" "supports" "[LPalletStack$Item;") (List.mem_of_getElem? (i := 21) (by rfl))) (fun _ h9 => h9) rfl hin rfl (by decide +kernel) rfl rfl (Nat.le_of_ble_eq_true rfl) dX0_init_90 (fun H locs hP hD hS => ?_)
  have hP : va_P D vwCl ([(h, .inr (0, [.int 0, .int 0, .int 0, .int 0, .int 0, .int 0, .int 0, .int 0, .int 0, .int 0, .int 0, .int 0, .int 0, .int 0, .int 0, .int 0, .ref q_1, .null])), (q_1, .inl (cy_2, 36, .inr (.inr (.inr (.inr (fun _ => none))))))]) H := hP
  have hD : va_D A ([(h, .inr (0, [.int 0, .int 0, .int 0, .int 0, .int 0, .int 0, .int 0, .int 0, .int 0, .int 0, .int 0, .int 0, .int 0, .int 0, .int 0, .int 0, .ref q_1, .null])), (q_1, .inl (cy_2, 36, .inr (.inr (.inr (.inr (fun _ => none))))))]) := hD
  refine lv_aload_n hx hb dX0_init_93 rfl (lv_at hl 0 rfl) ?_
  refine lv_bipush (v := 36) hx hb dX0_init_94 (by decide) ?_
  refine znewa (atype := .int) (ty := .int) (N' := 36) (a0 := (36, .inl (fun _ => 0))) hx hb (hts (.arrayClass .int) (List.mem_of_getElem? (i := 22) (by rfl))) rfl hK hP hD hS hA (fun _ => rfl) (by decide) rfl (Nat.le_of_ble_eq_true rfl) (by omega) (by omega) dX0_init_96 (fun q_3 cy_4 H hz_5 hK hP hD hS => ?_)
  have hP : va_P D vwCl ([(h, .inr (0, [.int 0, .int 0, .int 0, .int 0, .int 0, .int 0, .int 0, .int 0, .int 0, .int 0, .int 0, .int 0, .int 0, .int 0, .int 0, .int 0, .ref q_1, .null])), (q_1, .inl (cy_2, 36, .inr (.inr (.inr (.inr (fun _ => none)))))), (q_3, .inl (cy_4, 36, .inl (fun _ => 0)))]) H := hP
  have hD : va_D A ([(h, .inr (0, [.int 0, .int 0, .int 0, .int 0, .int 0, .int 0, .int 0, .int 0, .int 0, .int 0, .int 0, .int 0, .int 0, .int 0, .int 0, .int 0, .ref q_1, .null])), (q_1, .inl (cy_2, 36, .inr (.inr (.inr (.inr (fun _ => none)))))), (q_3, .inl (cy_4, 36, .inl (fun _ => 0)))]) := hD
  refine va_putF (D := D) (ci := 0) (v := .ref q_3) (ty := .array .int) (C := RX0) (T := TX0) (N := 18) hx hb hts (fun _ h9 => List.mem_cons_of_mem _ (List.mem_append_right _ h9)) tyX0 tyX0_ok nmX0 hown hK hP hD hS 0 rfl rfl 17 (by decide) (hts (.fieldLink RX0 65 "PalletStack$Item" "supportCells" "[I") (List.mem_of_getElem? (i := 23) (by rfl))) (fun _ h9 => h9) rfl hin rfl (by decide +kernel) rfl rfl (Nat.le_of_ble_eq_true rfl) dX0_init_98 (fun H locs hP hD hS => ?_)
  have hP : va_P D vwCl ([(h, .inr (0, [.int 0, .int 0, .int 0, .int 0, .int 0, .int 0, .int 0, .int 0, .int 0, .int 0, .int 0, .int 0, .int 0, .int 0, .int 0, .int 0, .ref q_1, .ref q_3])), (q_1, .inl (cy_2, 36, .inr (.inr (.inr (.inr (fun _ => none)))))), (q_3, .inl (cy_4, 36, .inl (fun _ => 0)))]) H := hP
  have hD : va_D A ([(h, .inr (0, [.int 0, .int 0, .int 0, .int 0, .int 0, .int 0, .int 0, .int 0, .int 0, .int 0, .int 0, .int 0, .int 0, .int 0, .int 0, .int 0, .ref q_1, .ref q_3])), (q_1, .inl (cy_2, 36, .inr (.inr (.inr (.inr (fun _ => none)))))), (q_3, .inl (cy_4, 36, .inl (fun _ => 0)))]) := hD
  have hP := hP.sub (ws' := [(h, .inr (0, [.int 0, .int 0, .int 0, .int 0, .int 0, .int 0, .int 0, .int 0, .int 0, .int 0, .int 0, .int 0, .int 0, .int 0, .int 0, .int 0, .ref q_1, .ref q_3])), (q_1, .inl (cy_2, 36, .inr (.inr (.inr (.inr (fun _ => none)))))), (q_3, .inl (cy_4, 36, .inl (fun _ => 0)))]) [0, 1, 2] rfl
  have hD := hD.sub (ws' := [(h, .inr (0, [.int 0, .int 0, .int 0, .int 0, .int 0, .int 0, .int 0, .int 0, .int 0, .int 0, .int 0, .int 0, .int 0, .int 0, .int 0, .int 0, .ref q_1, .ref q_3])), (q_1, .inl (cy_2, 36, .inr (.inr (.inr (.inr (fun _ => none)))))), (q_3, .inl (cy_4, 36, .inl (fun _ => 0)))]) [0, 1, 2] (by decide) rfl
  refine W.widen (k := 2) (n := 72) (by omega) (by omega) ?_
  exact W.vret hx hb hr (fun t ht hW => ⟨⟨(q_1, q_3, cy_2, cy_4), rfl, True.intro, ⟨Nat.zero_le _, by rw [ht]; exact hP, va_K.moved hW.alike (hK.sub (tys' := [(cy_2, .object RX0), (cy_4, .int)]) [0, 1] rfl), hD⟩⟩, hS.F ht⟩) hS.2.2 dX0_init_101
set_option maxHeartbeats 4000000 in
set_option maxRecDepth 100000 in
theorem c_PS_init (l : Launch) (D : zG) (sz : Nat) (o : Nat) : Met l yX3_init wsX3_init ({ frames := 2, cells := 187, slots := 5700, locals := 60 }) (zPcK D [] ([(o, .inr (3, [.null, .int 0, .int 0, .int 0, .int 0, .int 0, .null, .int 0, .int 0, .int 0, .null, .null, .null, .int 0]))]) sz ((fun U => va_AO RX0 U ∧ va_AO RX1 U ∧ va_AO RX2 U ∧ va_Nw (.methodLinkNest RX3 51 yX0_init "PalletStack") U)) [.ref o]) (va_Qv (fun (u : qB) => qFull u qRn qNew (fun _ _ => 0) ∧ qk u = 0 ∧ ql u = 0 ∧ qA u 5 0 = o) (zB D (va_A ([(o, .inr (3, [.null, .int 0, .int 0, .int 0, .int 0, .int 0, .null, .int 0, .int 0, .int 0, .null, .null, .null, .int 0]))]) sz) (fun u => qT u) 0 (fun u => qG u qRn qNew)) (va_A ([(o, .inr (3, [.null, .int 0, .int 0, .int 0, .int 0, .int 0, .null, .int 0, .int 0, .int 0, .null, .null, .null, .int 0]))]) sz)) 187 5700 (va_A ([(o, .inr (3, [.null, .int 0, .int 0, .int 0, .int 0, .int 0, .null, .int 0, .int 0, .int 0, .null, .null, .null, .int 0]))]) sz) := by
  refine Met.ofW (cc := cX3_init) (maxL := 2) (ret := none) (by decide) rfl ?_
  intro p e s m args below meth c s₁ B hml hv
  obtain ⟨rfl, ⟨hsz, hP, hK, hD0⟩, hKx⟩ := hv
  have hx := B.exec
  have hb := B.bytes
  have hr := B.returns
  have hts := atoms_spec (ws := wsX3_init) B.pre
  have hown : s.vm.findClass RX3 = some m.cls := findClass_of_methodNamed B.named
  have hlocks := B.notSynchronized
  have hin : meth.name = "<init>" := (name_of_methodNamed B.named B.method).1
  subst hsz
  have hD := hD0.self (sz := s.heap.size)
  generalize hAe : va_A ([(o, .inr (3, [.null, .int 0, .int 0, .int 0, .int 0, .int 0, .null, .int 0, .int 0, .int 0, .null, .null, .null, .int 0]))]) s.heap.size = A at hD ⊢
  have hA : ∀ q : Nat, s.heap.size ≤ q → A q := fun q h => by rw [← hAe]; exact Or.inr h
  have hS : va_S A s.heap s.heap [] := va_S.rf
  have hl := lv_entry ([.ref o]) (n := 2) (Nat.le_of_ble_eq_true rfl)
  rw [lg_entry_eq]
  generalize (lg_sl ([.ref o]) ++ List.replicate (2 - (lg_sl ([.ref o])).length) Slot.unset).toArray = ls at hl ⊢
  have hl : lv_has ls 2 [(0, .ref o)] := hl
  have hP : va_P D vwCl ([(o, .inr (3, [.null, .int 0, .int 0, .int 0, .int 0, .int 0, .null, .int 0, .int 0, .int 0, .null, .null, .null, .int 0]))]) s.heap := hP
  generalize hRe : (headSpec _ _).room = R
  have hRf : R.frames = 2 := by rw [← hRe]; rfl
  have hRc : R.cells = 187 := by rw [← hRe]; rfl
  have hRs : R.slots = 5700 := by rw [← hRe]; rfl
  have hRl : R.locals = 60 := by rw [← hRe]; rfl
  clear hRe
  obtain ⟨hK0, hK1, hK2, hKn⟩ := hKx
  refine lv_aload_n hx hb dX3_init_0 rfl (lv_at hl 0 rfl) ?_
  refine W.objInit hx hb hown (hts (.methodLink RX3 3 objectInit) (List.mem_of_getElem? (i := 1) (by rfl))) (hts (.instanceMethod objectInit) (List.mem_of_getElem? (i := 2) (by rfl))) (hts (.code objectInit ⟨#[0xb1]⟩ 1 none) (List.mem_of_getElem? (i := 3) (by rfl))) rfl (by rw [hml]; exact hl.1) rfl dX3_init_1 (by rw [hRf]; exact Nat.le_of_ble_eq_true rfl) (by rw [hRl]; exact Nat.le_of_ble_eq_true rfl) ?_
  refine W.eq (g2 := F0 m 4 ls []) rfl ?_
  refine lv_aload_n hx hb dX3_init_4 rfl (lv_at hl 0 rfl) ?_
  refine lv_bipush (v := 10) hx hb dX3_init_5 (by decide) ?_
  refine va_newq (C := RX1) (N' := 10) hx hb hown (hts (.classLink RX3 9 RX1) (List.mem_of_getElem? (i := 4) (by rfl))) (hK1) hK hP hD hS hA (by decide) rfl (Nat.le_of_ble_eq_true rfl) (by omega) (by omega) dX3_init_7 (fun q_6 cy_7 H hK hP hD hS => ?_)
  have hP : va_P D vwCl ([(o, .inr (3, [.null, .int 0, .int 0, .int 0, .int 0, .int 0, .null, .int 0, .int 0, .int 0, .null, .null, .null, .int 0])), (q_6, .inl (cy_7, 10, .inr (.inr (.inr (.inr (fun _ => none))))))]) H := hP
  have hD : va_D A ([(o, .inr (3, [.null, .int 0, .int 0, .int 0, .int 0, .int 0, .null, .int 0, .int 0, .int 0, .null, .null, .null, .int 0])), (q_6, .inl (cy_7, 10, .inr (.inr (.inr (.inr (fun _ => none))))))]) := hD
  refine va_putF (D := D) (ci := 3) (v := .ref q_6) (ty := .array (.object "PalletStack$Kind")) (C := RX3) (T := TX3) (N := 14) hx hb hts (fun _ h9 => List.mem_cons_of_mem _ (List.mem_append_left _ (List.mem_append_right _ h9))) tyX3 tyX3_ok nmX3 hown hK hP hD hS 0 rfl rfl 0 (by decide) (hts (.fieldLink RX3 11 "PalletStack" "kinds" "[LPalletStack$Kind;") (List.mem_of_getElem? (i := 5) (by rfl))) (fun _ h9 => h9) rfl hin rfl (by decide +kernel) rfl rfl (Nat.le_of_ble_eq_true rfl) dX3_init_10 (fun H locs hP hD hS => ?_)
  have hP : va_P D vwCl ([(o, .inr (3, [.ref q_6, .int 0, .int 0, .int 0, .int 0, .int 0, .null, .int 0, .int 0, .int 0, .null, .null, .null, .int 0])), (q_6, .inl (cy_7, 10, .inr (.inr (.inr (.inr (fun _ => none))))))]) H := hP
  have hD : va_D A ([(o, .inr (3, [.ref q_6, .int 0, .int 0, .int 0, .int 0, .int 0, .null, .int 0, .int 0, .int 0, .null, .null, .null, .int 0])), (q_6, .inl (cy_7, 10, .inr (.inr (.inr (.inr (fun _ => none))))))]) := hD
  refine lv_aload_n hx hb dX3_init_13 rfl (lv_at hl 0 rfl) ?_
  refine lv_iconst (v := 0) hx hb dX3_init_14 (by decide) ?_
  refine va_put (D := D) (ci := 3) (v := .int 0) (ty := .int) (C := RX3) (T := TX3) (N := 14) hx hb hts (fun _ h9 => List.mem_cons_of_mem _ (List.mem_append_left _ (List.mem_append_right _ h9))) tyX3 tyX3_ok nmX3 hown hK hP hD hS 0 rfl rfl 1 (by decide) (hts (.fieldLink RX3 15 "PalletStack" "kindCount" "I") (List.mem_of_getElem? (i := 6) (by rfl))) (fun _ h9 => h9) rfl (by decide +kernel) rfl rfl (Nat.le_of_ble_eq_true rfl) dX3_init_15 (fun H locs hP hD hS => ?_)
  have hP : va_P D vwCl ([(o, .inr (3, [.ref q_6, .int 0, .int 0, .int 0, .int 0, .int 0, .null, .int 0, .int 0, .int 0, .null, .null, .null, .int 0])), (q_6, .inl (cy_7, 10, .inr (.inr (.inr (.inr (fun _ => none))))))]) H := hP
  have hD : va_D A ([(o, .inr (3, [.ref q_6, .int 0, .int 0, .int 0, .int 0, .int 0, .null, .int 0, .int 0, .int 0, .null, .null, .null, .int 0])), (q_6, .inl (cy_7, 10, .inr (.inr (.inr (.inr (fun _ => none))))))]) := hD
  refine lv_aload_n hx hb dX3_init_18 rfl (lv_at hl 0 rfl) ?_
  refine lv_bipush (v := 20) hx hb dX3_init_19 (by decide) ?_
  refine va_put (D := D) (ci := 3) (v := .int 20) (ty := .int) (C := RX3) (T := TX3) (N := 14) hx hb hts (fun _ h9 => List.mem_cons_of_mem _ (List.mem_append_left _ (List.mem_append_right _ h9))) tyX3 tyX3_ok nmX3 hown hK hP hD hS 0 rfl rfl 2 (by decide) (hts (.fieldLink RX3 19 "PalletStack" "greatestHeight" "I") (List.mem_of_getElem? (i := 7) (by rfl))) (fun _ h9 => h9) rfl (by decide +kernel) rfl rfl (Nat.le_of_ble_eq_true rfl) dX3_init_21 (fun H locs hP hD hS => ?_)
  have hP : va_P D vwCl ([(o, .inr (3, [.ref q_6, .int 0, .int 20, .int 0, .int 0, .int 0, .null, .int 0, .int 0, .int 0, .null, .null, .null, .int 0])), (q_6, .inl (cy_7, 10, .inr (.inr (.inr (.inr (fun _ => none))))))]) H := hP
  have hD : va_D A ([(o, .inr (3, [.ref q_6, .int 0, .int 20, .int 0, .int 0, .int 0, .null, .int 0, .int 0, .int 0, .null, .null, .null, .int 0])), (q_6, .inl (cy_7, 10, .inr (.inr (.inr (.inr (fun _ => none))))))]) := hD
  refine lv_aload_n hx hb dX3_init_24 rfl (lv_at hl 0 rfl) ?_
  refine lv_bipush (v := 60) hx hb dX3_init_25 (by decide) ?_
  refine va_put (D := D) (ci := 3) (v := .int 60) (ty := .int) (C := RX3) (T := TX3) (N := 14) hx hb hts (fun _ h9 => List.mem_cons_of_mem _ (List.mem_append_left _ (List.mem_append_right _ h9))) tyX3 tyX3_ok nmX3 hown hK hP hD hS 0 rfl rfl 3 (by decide) (hts (.fieldLink RX3 22 "PalletStack" "support" "I") (List.mem_of_getElem? (i := 8) (by rfl))) (fun _ h9 => h9) rfl (by decide +kernel) rfl rfl (Nat.le_of_ble_eq_true rfl) dX3_init_27 (fun H locs hP hD hS => ?_)
  have hP : va_P D vwCl ([(o, .inr (3, [.ref q_6, .int 0, .int 20, .int 60, .int 0, .int 0, .null, .int 0, .int 0, .int 0, .null, .null, .null, .int 0])), (q_6, .inl (cy_7, 10, .inr (.inr (.inr (.inr (fun _ => none))))))]) H := hP
  have hD : va_D A ([(o, .inr (3, [.ref q_6, .int 0, .int 20, .int 60, .int 0, .int 0, .null, .int 0, .int 0, .int 0, .null, .null, .null, .int 0])), (q_6, .inl (cy_7, 10, .inr (.inr (.inr (.inr (fun _ => none))))))]) := hD
  refine lv_aload_n hx hb dX3_init_30 rfl (lv_at hl 0 rfl) ?_
  refine lv_sipush (v := 2000) hx hb dX3_init_31 (by decide) ?_
  refine va_put (D := D) (ci := 3) (v := .int 2000) (ty := .int) (C := RX3) (T := TX3) (N := 14) hx hb hts (fun _ h9 => List.mem_cons_of_mem _ (List.mem_append_left _ (List.mem_append_right _ h9))) tyX3 tyX3_ok nmX3 hown hK hP hD hS 0 rfl rfl 4 (by decide) (hts (.fieldLink RX3 25 "PalletStack" "limit" "I") (List.mem_of_getElem? (i := 9) (by rfl))) (fun _ h9 => h9) rfl (by decide +kernel) rfl rfl (Nat.le_of_ble_eq_true rfl) dX3_init_34 (fun H locs hP hD hS => ?_)
  have hP : va_P D vwCl ([(o, .inr (3, [.ref q_6, .int 0, .int 20, .int 60, .int 2000, .int 0, .null, .int 0, .int 0, .int 0, .null, .null, .null, .int 0])), (q_6, .inl (cy_7, 10, .inr (.inr (.inr (.inr (fun _ => none))))))]) H := hP
  have hD : va_D A ([(o, .inr (3, [.ref q_6, .int 0, .int 20, .int 60, .int 2000, .int 0, .null, .int 0, .int 0, .int 0, .null, .null, .null, .int 0])), (q_6, .inl (cy_7, 10, .inr (.inr (.inr (.inr (fun _ => none))))))]) := hD
  refine lv_aload_n hx hb dX3_init_37 rfl (lv_at hl 0 rfl) ?_
  refine lv_iconst (v := 0) hx hb dX3_init_38 (by decide) ?_
  refine va_put (D := D) (ci := 3) (v := .int 0) (ty := .boolean) (C := RX3) (T := TX3) (N := 14) hx hb hts (fun _ h9 => List.mem_cons_of_mem _ (List.mem_append_left _ (List.mem_append_right _ h9))) tyX3 tyX3_ok nmX3 hown hK hP hD hS 0 rfl rfl 5 (by decide) (hts (.fieldLink RX3 28 "PalletStack" "hasCornerRule" "Z") (List.mem_of_getElem? (i := 10) (by rfl))) (fun _ h9 => h9) rfl (by decide +kernel) rfl rfl (Nat.le_of_ble_eq_true rfl) dX3_init_39 (fun H locs hP hD hS => ?_)
  have hP : va_P D vwCl ([(o, .inr (3, [.ref q_6, .int 0, .int 20, .int 60, .int 2000, .int 0, .null, .int 0, .int 0, .int 0, .null, .null, .null, .int 0])), (q_6, .inl (cy_7, 10, .inr (.inr (.inr (.inr (fun _ => none))))))]) H := hP
  have hD : va_D A ([(o, .inr (3, [.ref q_6, .int 0, .int 20, .int 60, .int 2000, .int 0, .null, .int 0, .int 0, .int 0, .null, .null, .null, .int 0])), (q_6, .inl (cy_7, 10, .inr (.inr (.inr (.inr (fun _ => none))))))]) := hD
  refine lv_aload_n hx hb dX3_init_42 rfl (lv_at hl 0 rfl) ?_
  refine lv_bipush (v := 60) hx hb dX3_init_43 (by decide) ?_
  refine va_newq (C := RX0) (N' := 60) hx hb hown (hts (.classLink RX3 32 RX0) (List.mem_of_getElem? (i := 11) (by rfl))) (hK0) hK hP hD hS hA (by decide) rfl (Nat.le_of_ble_eq_true rfl) (by omega) (by omega) dX3_init_45 (fun q_8 cy_9 H hK hP hD hS => ?_)
  have hP : va_P D vwCl ([(o, .inr (3, [.ref q_6, .int 0, .int 20, .int 60, .int 2000, .int 0, .null, .int 0, .int 0, .int 0, .null, .null, .null, .int 0])), (q_6, .inl (cy_7, 10, .inr (.inr (.inr (.inr (fun _ => none)))))), (q_8, .inl (cy_9, 60, .inr (.inr (.inr (.inr (fun _ => none))))))]) H := hP
  have hD : va_D A ([(o, .inr (3, [.ref q_6, .int 0, .int 20, .int 60, .int 2000, .int 0, .null, .int 0, .int 0, .int 0, .null, .null, .null, .int 0])), (q_6, .inl (cy_7, 10, .inr (.inr (.inr (.inr (fun _ => none)))))), (q_8, .inl (cy_9, 60, .inr (.inr (.inr (.inr (fun _ => none))))))]) := hD
  refine va_putF (D := D) (ci := 3) (v := .ref q_8) (ty := .array (.object "PalletStack$Item")) (C := RX3) (T := TX3) (N := 14) hx hb hts (fun _ h9 => List.mem_cons_of_mem _ (List.mem_append_left _ (List.mem_append_right _ h9))) tyX3 tyX3_ok nmX3 hown hK hP hD hS 0 rfl rfl 6 (by decide) (hts (.fieldLink RX3 34 "PalletStack" "items" "[LPalletStack$Item;") (List.mem_of_getElem? (i := 12) (by rfl))) (fun _ h9 => h9) rfl hin rfl (by decide +kernel) rfl rfl (Nat.le_of_ble_eq_true rfl) dX3_init_48 (fun H locs hP hD hS => ?_)
  have hP : va_P D vwCl ([(o, .inr (3, [.ref q_6, .int 0, .int 20, .int 60, .int 2000, .int 0, .ref q_8, .int 0, .int 0, .int 0, .null, .null, .null, .int 0])), (q_6, .inl (cy_7, 10, .inr (.inr (.inr (.inr (fun _ => none)))))), (q_8, .inl (cy_9, 60, .inr (.inr (.inr (.inr (fun _ => none))))))]) H := hP
  have hD : va_D A ([(o, .inr (3, [.ref q_6, .int 0, .int 20, .int 60, .int 2000, .int 0, .ref q_8, .int 0, .int 0, .int 0, .null, .null, .null, .int 0])), (q_6, .inl (cy_7, 10, .inr (.inr (.inr (.inr (fun _ => none)))))), (q_8, .inl (cy_9, 60, .inr (.inr (.inr (.inr (fun _ => none))))))]) := hD
  refine lv_aload_n hx hb dX3_init_51 rfl (lv_at hl 0 rfl) ?_
  refine lv_iconst (v := 0) hx hb dX3_init_52 (by decide) ?_
  refine va_put (D := D) (ci := 3) (v := .int 0) (ty := .int) (C := RX3) (T := TX3) (N := 14) hx hb hts (fun _ h9 => List.mem_cons_of_mem _ (List.mem_append_left _ (List.mem_append_right _ h9))) tyX3 tyX3_ok nmX3 hown hK hP hD hS 0 rfl rfl 7 (by decide) (hts (.fieldLink RX3 38 "PalletStack" "cameCount" "I") (List.mem_of_getElem? (i := 13) (by rfl))) (fun _ h9 => h9) rfl (by decide +kernel) rfl rfl (Nat.le_of_ble_eq_true rfl) dX3_init_53 (fun H locs hP hD hS => ?_)
  have hP : va_P D vwCl ([(o, .inr (3, [.ref q_6, .int 0, .int 20, .int 60, .int 2000, .int 0, .ref q_8, .int 0, .int 0, .int 0, .null, .null, .null, .int 0])), (q_6, .inl (cy_7, 10, .inr (.inr (.inr (.inr (fun _ => none)))))), (q_8, .inl (cy_9, 60, .inr (.inr (.inr (.inr (fun _ => none))))))]) H := hP
  have hD : va_D A ([(o, .inr (3, [.ref q_6, .int 0, .int 20, .int 60, .int 2000, .int 0, .ref q_8, .int 0, .int 0, .int 0, .null, .null, .null, .int 0])), (q_6, .inl (cy_7, 10, .inr (.inr (.inr (.inr (fun _ => none)))))), (q_8, .inl (cy_9, 60, .inr (.inr (.inr (.inr (fun _ => none))))))]) := hD
  refine lv_aload_n hx hb dX3_init_56 rfl (lv_at hl 0 rfl) ?_
  refine lv_iconst (v := 0) hx hb dX3_init_57 (by decide) ?_
  refine va_put (D := D) (ci := 3) (v := .int 0) (ty := .int) (C := RX3) (T := TX3) (N := 14) hx hb hts (fun _ h9 => List.mem_cons_of_mem _ (List.mem_append_left _ (List.mem_append_right _ h9))) tyX3 tyX3_ok nmX3 hown hK hP hD hS 0 rfl rfl 8 (by decide) (hts (.fieldLink RX3 41 "PalletStack" "onPalletCount" "I") (List.mem_of_getElem? (i := 14) (by rfl))) (fun _ h9 => h9) rfl (by decide +kernel) rfl rfl (Nat.le_of_ble_eq_true rfl) dX3_init_58 (fun H locs hP hD hS => ?_)
  have hP : va_P D vwCl ([(o, .inr (3, [.ref q_6, .int 0, .int 20, .int 60, .int 2000, .int 0, .ref q_8, .int 0, .int 0, .int 0, .null, .null, .null, .int 0])), (q_6, .inl (cy_7, 10, .inr (.inr (.inr (.inr (fun _ => none)))))), (q_8, .inl (cy_9, 60, .inr (.inr (.inr (.inr (fun _ => none))))))]) H := hP
  have hD : va_D A ([(o, .inr (3, [.ref q_6, .int 0, .int 20, .int 60, .int 2000, .int 0, .ref q_8, .int 0, .int 0, .int 0, .null, .null, .null, .int 0])), (q_6, .inl (cy_7, 10, .inr (.inr (.inr (.inr (fun _ => none)))))), (q_8, .inl (cy_9, 60, .inr (.inr (.inr (.inr (fun _ => none))))))]) := hD
  refine lv_aload_n hx hb dX3_init_61 rfl (lv_at hl 0 rfl) ?_
  refine lv_iconst (v := 0) hx hb dX3_init_62 (by decide) ?_
  refine va_put (D := D) (ci := 3) (v := .int 0) (ty := .int) (C := RX3) (T := TX3) (N := 14) hx hb hts (fun _ h9 => List.mem_cons_of_mem _ (List.mem_append_left _ (List.mem_append_right _ h9))) tyX3 tyX3_ok nmX3 hown hK hP hD hS 0 rfl rfl 9 (by decide) (hts (.fieldLink RX3 44 "PalletStack" "weightOnPallet" "I") (List.mem_of_getElem? (i := 15) (by rfl))) (fun _ h9 => h9) rfl (by decide +kernel) rfl rfl (Nat.le_of_ble_eq_true rfl) dX3_init_63 (fun H locs hP hD hS => ?_)
  have hP : va_P D vwCl ([(o, .inr (3, [.ref q_6, .int 0, .int 20, .int 60, .int 2000, .int 0, .ref q_8, .int 0, .int 0, .int 0, .null, .null, .null, .int 0])), (q_6, .inl (cy_7, 10, .inr (.inr (.inr (.inr (fun _ => none)))))), (q_8, .inl (cy_9, 60, .inr (.inr (.inr (.inr (fun _ => none))))))]) H := hP
  have hD : va_D A ([(o, .inr (3, [.ref q_6, .int 0, .int 20, .int 60, .int 2000, .int 0, .ref q_8, .int 0, .int 0, .int 0, .null, .null, .null, .int 0])), (q_6, .inl (cy_7, 10, .inr (.inr (.inr (.inr (fun _ => none)))))), (q_8, .inl (cy_9, 60, .inr (.inr (.inr (.inr (fun _ => none))))))]) := hD
  refine lv_aload_n hx hb dX3_init_66 rfl (lv_at hl 0 rfl) ?_
  refine lv_bipush (v := 120) hx hb dX3_init_67 (by decide) ?_
  refine znewa (atype := .int) (ty := .int) (N' := 120) (a0 := (120, .inl (fun _ => 0))) hx hb (hts (.arrayClass .int) (List.mem_of_getElem? (i := 16) (by rfl))) rfl hK hP hD hS hA (fun _ => rfl) (by decide) rfl (Nat.le_of_ble_eq_true rfl) (by omega) (by omega) dX3_init_69 (fun q_10 cy_11 H hz_12 hK hP hD hS => ?_)
  have hP : va_P D vwCl ([(o, .inr (3, [.ref q_6, .int 0, .int 20, .int 60, .int 2000, .int 0, .ref q_8, .int 0, .int 0, .int 0, .null, .null, .null, .int 0])), (q_6, .inl (cy_7, 10, .inr (.inr (.inr (.inr (fun _ => none)))))), (q_8, .inl (cy_9, 60, .inr (.inr (.inr (.inr (fun _ => none)))))), (q_10, .inl (cy_11, 120, .inl (fun _ => 0)))]) H := hP
  have hD : va_D A ([(o, .inr (3, [.ref q_6, .int 0, .int 20, .int 60, .int 2000, .int 0, .ref q_8, .int 0, .int 0, .int 0, .null, .null, .null, .int 0])), (q_6, .inl (cy_7, 10, .inr (.inr (.inr (.inr (fun _ => none)))))), (q_8, .inl (cy_9, 60, .inr (.inr (.inr (.inr (fun _ => none)))))), (q_10, .inl (cy_11, 120, .inl (fun _ => 0)))]) := hD
  refine va_putF (D := D) (ci := 3) (v := .ref q_10) (ty := .array .int) (C := RX3) (T := TX3) (N := 14) hx hb hts (fun _ h9 => List.mem_cons_of_mem _ (List.mem_append_left _ (List.mem_append_right _ h9))) tyX3 tyX3_ok nmX3 hown hK hP hD hS 0 rfl rfl 10 (by decide) (hts (.fieldLink RX3 47 "PalletStack" "tops" "[I") (List.mem_of_getElem? (i := 17) (by rfl))) (fun _ h9 => h9) rfl hin rfl (by decide +kernel) rfl rfl (Nat.le_of_ble_eq_true rfl) dX3_init_71 (fun H locs hP hD hS => ?_)
  have hP : va_P D vwCl ([(o, .inr (3, [.ref q_6, .int 0, .int 20, .int 60, .int 2000, .int 0, .ref q_8, .int 0, .int 0, .int 0, .ref q_10, .null, .null, .int 0])), (q_6, .inl (cy_7, 10, .inr (.inr (.inr (.inr (fun _ => none)))))), (q_8, .inl (cy_9, 60, .inr (.inr (.inr (.inr (fun _ => none)))))), (q_10, .inl (cy_11, 120, .inl (fun _ => 0)))]) H := hP
  have hD : va_D A ([(o, .inr (3, [.ref q_6, .int 0, .int 20, .int 60, .int 2000, .int 0, .ref q_8, .int 0, .int 0, .int 0, .ref q_10, .null, .null, .int 0])), (q_6, .inl (cy_7, 10, .inr (.inr (.inr (.inr (fun _ => none)))))), (q_8, .inl (cy_9, 60, .inr (.inr (.inr (.inr (fun _ => none)))))), (q_10, .inl (cy_11, 120, .inl (fun _ => 0)))]) := hD
  refine lv_aload_n hx hb dX3_init_74 rfl (lv_at hl 0 rfl) ?_
  refine va_new (D := D) (ci := 0) (fs := [.int 0, .int 0, .int 0, .int 0, .int 0, .int 0, .int 0, .int 0, .int 0, .int 0, .int 0, .int 0, .int 0, .int 0, .int 0, .int 0, .null, .null]) (C := RX0) (T := TX0) (N := 18) hx hb hts (fun _ h9 => List.mem_cons_of_mem _ (List.mem_append_right _ h9)) tyX0 tyX0_ok hown (hts (.classLink RX3 32 RX0) (List.mem_of_getElem? (i := 11) (by rfl))) (hts (.instantiable RX0 18) (List.mem_of_getElem? (i := 18) (by rfl))) (hts (.initialized RX0) (List.mem_of_getElem? (i := 19) (by rfl))) hK hP hD hS hA rfl (fun j hj => by rcases (show j = 0 ∨ j = 1 ∨ j = 2 ∨ j = 3 ∨ j = 4 ∨ j = 5 ∨ j = 6 ∨ j = 7 ∨ j = 8 ∨ j = 9 ∨ j = 10 ∨ j = 11 ∨ j = 12 ∨ j = 13 ∨ j = 14 ∨ j = 15 ∨ j = 16 ∨ j = 17 by omega) with rfl | rfl | rfl | rfl | rfl | rfl | rfl | rfl | rfl | rfl | rfl | rfl | rfl | rfl | rfl | rfl | rfl | rfl <;> rfl) (by omega) (by omega) dX3_init_75 (fun q_13 H hP hD hS => ?_)
  have hP : va_P D vwCl ([(o, .inr (3, [.ref q_6, .int 0, .int 20, .int 60, .int 2000, .int 0, .ref q_8, .int 0, .int 0, .int 0, .ref q_10, .null, .null, .int 0])), (q_6, .inl (cy_7, 10, .inr (.inr (.inr (.inr (fun _ => none)))))), (q_8, .inl (cy_9, 60, .inr (.inr (.inr (.inr (fun _ => none)))))), (q_10, .inl (cy_11, 120, .inl (fun _ => 0))), (q_13, .inr (0, [.int 0, .int 0, .int 0, .int 0, .int 0, .int 0, .int 0, .int 0, .int 0, .int 0, .int 0, .int 0, .int 0, .int 0, .int 0, .int 0, .null, .null]))]) H := hP
  have hD : va_D A ([(o, .inr (3, [.ref q_6, .int 0, .int 20, .int 60, .int 2000, .int 0, .ref q_8, .int 0, .int 0, .int 0, .ref q_10, .null, .null, .int 0])), (q_6, .inl (cy_7, 10, .inr (.inr (.inr (.inr (fun _ => none)))))), (q_8, .inl (cy_9, 60, .inr (.inr (.inr (.inr (fun _ => none)))))), (q_10, .inl (cy_11, 120, .inl (fun _ => 0))), (q_13, .inr (0, [.int 0, .int 0, .int 0, .int 0, .int 0, .int 0, .int 0, .int 0, .int 0, .int 0, .int 0, .int 0, .int 0, .int 0, .int 0, .int 0, .null, .null]))]) := hD
  refine lv_dup hx hb dX3_init_78 rfl ?_
  refine zcallvINK (As := []) (rest := [.ref q_13, .ref o]) (wc := [(q_13, .inr (0, [.int 0, .int 0, .int 0, .int 0, .int 0, .int 0, .int 0, .int 0, .int 0, .int 0, .int 0, .int 0, .int 0, .int 0, .int 0, .int 0, .null, .null]))]) (wr := [(o, .inr (3, [.ref q_6, .int 0, .int 20, .int 60, .int 2000, .int 0, .ref q_8, .int 0, .int 0, .int 0, .ref q_10, .null, .null, .int 0])), (q_6, .inl (cy_7, 10, .inr (.inr (.inr (.inr (fun _ => none)))))), (q_8, .inl (cy_9, 60, .inr (.inr (.inr (.inr (fun _ => none)))))), (q_10, .inl (cy_11, 120, .inl (fun _ => 0)))]) ⟨hx, hb, hml, hown, hts⟩ (c_Item_init l D _ q_13) (⟨va_cnB (host := "PalletStack") 0 hts gX3_init_X0_init_n51 rfl rfl rfl (hKn) (hts (.initialized RX0) (List.mem_of_getElem? (i := 19) (by rfl))) (by decide +kernel) ⟨by rw [hRf]; exact Nat.le_of_ble_eq_true rfl, by rw [hRl]; exact Nat.le_of_ble_eq_true rfl⟩, rfl, (hts (.instanceMethod yX0_init) (List.mem_of_getElem? (i := 24) (by rfl)))⟩) (fun _ U _ _ h => h.moved (Vm.Alike.refl U.vm)) (fun U hW => hK0.moved hW.alike) hK hP hD hS hA [4] [0, 1, 2, 3] rfl (by decide) rfl (by decide) (by decide) [] rfl rfl hl.1 rfl (Nat.le_of_ble_eq_true rfl) dX3_init_79 ⟨by omega, by omega⟩ (fun u_15 H locs hwu_15 hnu_15 hzu_15 hK hP hD hS => ?_)
  have hK : va_K D vwCl [(cy_7, .object RX1), (cy_9, .object RX0), (cy_11, .int), (u_15.2.2.1, .object RX0), (u_15.2.2.2, .int)] s := hK
  have hP : va_P D vwCl ([(o, .inr (3, [.ref q_6, .int 0, .int 20, .int 60, .int 2000, .int 0, .ref q_8, .int 0, .int 0, .int 0, .ref q_10, .null, .null, .int 0])), (q_6, .inl (cy_7, 10, .inr (.inr (.inr (.inr (fun _ => none)))))), (q_8, .inl (cy_9, 60, .inr (.inr (.inr (.inr (fun _ => none)))))), (q_10, .inl (cy_11, 120, .inl (fun _ => 0))), (q_13, .inr (0, [.int 0, .int 0, .int 0, .int 0, .int 0, .int 0, .int 0, .int 0, .int 0, .int 0, .int 0, .int 0, .int 0, .int 0, .int 0, .int 0, .ref u_15.1, .ref u_15.2.1])), (u_15.1, .inl (u_15.2.2.1, 36, .inr (.inr (.inr (.inr (fun _ => none)))))), (u_15.2.1, .inl (u_15.2.2.2, 36, .inl (fun _ => 0)))]) H := hP
  have hD : va_D A ([(o, .inr (3, [.ref q_6, .int 0, .int 20, .int 60, .int 2000, .int 0, .ref q_8, .int 0, .int 0, .int 0, .ref q_10, .null, .null, .int 0])), (q_6, .inl (cy_7, 10, .inr (.inr (.inr (.inr (fun _ => none)))))), (q_8, .inl (cy_9, 60, .inr (.inr (.inr (.inr (fun _ => none)))))), (q_10, .inl (cy_11, 120, .inl (fun _ => 0))), (q_13, .inr (0, [.int 0, .int 0, .int 0, .int 0, .int 0, .int 0, .int 0, .int 0, .int 0, .int 0, .int 0, .int 0, .int 0, .int 0, .int 0, .int 0, .ref u_15.1, .ref u_15.2.1])), (u_15.1, .inl (u_15.2.2.1, 36, .inr (.inr (.inr (.inr (fun _ => none)))))), (u_15.2.1, .inl (u_15.2.2.2, 36, .inl (fun _ => 0)))]) := hD
  refine va_put (D := D) (ci := 3) (v := .ref q_13) (ty := .object "PalletStack$Item") (C := RX3) (T := TX3) (N := 14) hx hb hts (fun _ h9 => List.mem_cons_of_mem _ (List.mem_append_left _ (List.mem_append_right _ h9))) tyX3 tyX3_ok nmX3 hown hK hP hD hS 0 rfl rfl 11 (by decide) (hts (.fieldLink RX3 52 "PalletStack" "trial" "LPalletStack$Item;") (List.mem_of_getElem? (i := 20) (by rfl))) (fun _ h9 => h9) rfl (by decide +kernel) rfl rfl (Nat.le_of_ble_eq_true rfl) dX3_init_82 (fun H locs hP hD hS => ?_)
  have hP : va_P D vwCl ([(o, .inr (3, [.ref q_6, .int 0, .int 20, .int 60, .int 2000, .int 0, .ref q_8, .int 0, .int 0, .int 0, .ref q_10, .ref q_13, .null, .int 0])), (q_6, .inl (cy_7, 10, .inr (.inr (.inr (.inr (fun _ => none)))))), (q_8, .inl (cy_9, 60, .inr (.inr (.inr (.inr (fun _ => none)))))), (q_10, .inl (cy_11, 120, .inl (fun _ => 0))), (q_13, .inr (0, [.int 0, .int 0, .int 0, .int 0, .int 0, .int 0, .int 0, .int 0, .int 0, .int 0, .int 0, .int 0, .int 0, .int 0, .int 0, .int 0, .ref u_15.1, .ref u_15.2.1])), (u_15.1, .inl (u_15.2.2.1, 36, .inr (.inr (.inr (.inr (fun _ => none)))))), (u_15.2.1, .inl (u_15.2.2.2, 36, .inl (fun _ => 0)))]) H := hP
  have hD : va_D A ([(o, .inr (3, [.ref q_6, .int 0, .int 20, .int 60, .int 2000, .int 0, .ref q_8, .int 0, .int 0, .int 0, .ref q_10, .ref q_13, .null, .int 0])), (q_6, .inl (cy_7, 10, .inr (.inr (.inr (.inr (fun _ => none)))))), (q_8, .inl (cy_9, 60, .inr (.inr (.inr (.inr (fun _ => none)))))), (q_10, .inl (cy_11, 120, .inl (fun _ => 0))), (q_13, .inr (0, [.int 0, .int 0, .int 0, .int 0, .int 0, .int 0, .int 0, .int 0, .int 0, .int 0, .int 0, .int 0, .int 0, .int 0, .int 0, .int 0, .ref u_15.1, .ref u_15.2.1])), (u_15.1, .inl (u_15.2.2.1, 36, .inr (.inr (.inr (.inr (fun _ => none)))))), (u_15.2.1, .inl (u_15.2.2.2, 36, .inl (fun _ => 0)))]) := hD
  refine lv_aload_n hx hb dX3_init_85 rfl (lv_at hl 0 rfl) ?_
  refine lv_bipush (v := 20) hx hb dX3_init_86 (by decide) ?_
  refine va_newq (C := RX2) (N' := 20) hx hb hown (hts (.classLink RX3 56 RX2) (List.mem_of_getElem? (i := 21) (by rfl))) (hK2) hK hP hD hS hA (by decide) rfl (Nat.le_of_ble_eq_true rfl) (by omega) (by omega) dX3_init_88 (fun q_16 cy_17 H hK hP hD hS => ?_)
  have hP : va_P D vwCl ([(o, .inr (3, [.ref q_6, .int 0, .int 20, .int 60, .int 2000, .int 0, .ref q_8, .int 0, .int 0, .int 0, .ref q_10, .ref q_13, .null, .int 0])), (q_6, .inl (cy_7, 10, .inr (.inr (.inr (.inr (fun _ => none)))))), (q_8, .inl (cy_9, 60, .inr (.inr (.inr (.inr (fun _ => none)))))), (q_10, .inl (cy_11, 120, .inl (fun _ => 0))), (q_13, .inr (0, [.int 0, .int 0, .int 0, .int 0, .int 0, .int 0, .int 0, .int 0, .int 0, .int 0, .int 0, .int 0, .int 0, .int 0, .int 0, .int 0, .ref u_15.1, .ref u_15.2.1])), (u_15.1, .inl (u_15.2.2.1, 36, .inr (.inr (.inr (.inr (fun _ => none)))))), (u_15.2.1, .inl (u_15.2.2.2, 36, .inl (fun _ => 0))), (q_16, .inl (cy_17, 20, .inr (.inr (.inr (.inr (fun _ => none))))))]) H := hP
  have hD : va_D A ([(o, .inr (3, [.ref q_6, .int 0, .int 20, .int 60, .int 2000, .int 0, .ref q_8, .int 0, .int 0, .int 0, .ref q_10, .ref q_13, .null, .int 0])), (q_6, .inl (cy_7, 10, .inr (.inr (.inr (.inr (fun _ => none)))))), (q_8, .inl (cy_9, 60, .inr (.inr (.inr (.inr (fun _ => none)))))), (q_10, .inl (cy_11, 120, .inl (fun _ => 0))), (q_13, .inr (0, [.int 0, .int 0, .int 0, .int 0, .int 0, .int 0, .int 0, .int 0, .int 0, .int 0, .int 0, .int 0, .int 0, .int 0, .int 0, .int 0, .ref u_15.1, .ref u_15.2.1])), (u_15.1, .inl (u_15.2.2.1, 36, .inr (.inr (.inr (.inr (fun _ => none)))))), (u_15.2.1, .inl (u_15.2.2.2, 36, .inl (fun _ => 0))), (q_16, .inl (cy_17, 20, .inr (.inr (.inr (.inr (fun _ => none))))))]) := hD
  refine va_putF (D := D) (ci := 3) (v := .ref q_16) (ty := .array (.object "PalletStack$Line")) (C := RX3) (T := TX3) (N := 14) hx hb hts (fun _ h9 => List.mem_cons_of_mem _ (List.mem_append_left _ (List.mem_append_right _ h9))) tyX3 tyX3_ok nmX3 hown hK hP hD hS 0 rfl rfl 12 (by decide) (hts (.fieldLink RX3 58 "PalletStack" "lines" "[LPalletStack$Line;") (List.mem_of_getElem? (i := 22) (by rfl))) (fun _ h9 => h9) rfl hin rfl (by decide +kernel) rfl rfl (Nat.le_of_ble_eq_true rfl) dX3_init_91 (fun H locs hP hD hS => ?_)
  have hP : va_P D vwCl ([(o, .inr (3, [.ref q_6, .int 0, .int 20, .int 60, .int 2000, .int 0, .ref q_8, .int 0, .int 0, .int 0, .ref q_10, .ref q_13, .ref q_16, .int 0])), (q_6, .inl (cy_7, 10, .inr (.inr (.inr (.inr (fun _ => none)))))), (q_8, .inl (cy_9, 60, .inr (.inr (.inr (.inr (fun _ => none)))))), (q_10, .inl (cy_11, 120, .inl (fun _ => 0))), (q_13, .inr (0, [.int 0, .int 0, .int 0, .int 0, .int 0, .int 0, .int 0, .int 0, .int 0, .int 0, .int 0, .int 0, .int 0, .int 0, .int 0, .int 0, .ref u_15.1, .ref u_15.2.1])), (u_15.1, .inl (u_15.2.2.1, 36, .inr (.inr (.inr (.inr (fun _ => none)))))), (u_15.2.1, .inl (u_15.2.2.2, 36, .inl (fun _ => 0))), (q_16, .inl (cy_17, 20, .inr (.inr (.inr (.inr (fun _ => none))))))]) H := hP
  have hD : va_D A ([(o, .inr (3, [.ref q_6, .int 0, .int 20, .int 60, .int 2000, .int 0, .ref q_8, .int 0, .int 0, .int 0, .ref q_10, .ref q_13, .ref q_16, .int 0])), (q_6, .inl (cy_7, 10, .inr (.inr (.inr (.inr (fun _ => none)))))), (q_8, .inl (cy_9, 60, .inr (.inr (.inr (.inr (fun _ => none)))))), (q_10, .inl (cy_11, 120, .inl (fun _ => 0))), (q_13, .inr (0, [.int 0, .int 0, .int 0, .int 0, .int 0, .int 0, .int 0, .int 0, .int 0, .int 0, .int 0, .int 0, .int 0, .int 0, .int 0, .int 0, .ref u_15.1, .ref u_15.2.1])), (u_15.1, .inl (u_15.2.2.1, 36, .inr (.inr (.inr (.inr (fun _ => none)))))), (u_15.2.1, .inl (u_15.2.2.2, 36, .inl (fun _ => 0))), (q_16, .inl (cy_17, 20, .inr (.inr (.inr (.inr (fun _ => none))))))]) := hD
  refine lv_aload_n hx hb dX3_init_94 rfl (lv_at hl 0 rfl) ?_
  refine lv_iconst (v := 0) hx hb dX3_init_95 (by decide) ?_
  refine va_put (D := D) (ci := 3) (v := .int 0) (ty := .int) (C := RX3) (T := TX3) (N := 14) hx hb hts (fun _ h9 => List.mem_cons_of_mem _ (List.mem_append_left _ (List.mem_append_right _ h9))) tyX3 tyX3_ok nmX3 hown hK hP hD hS 0 rfl rfl 13 (by decide) (hts (.fieldLink RX3 62 "PalletStack" "lineCount" "I") (List.mem_of_getElem? (i := 23) (by rfl))) (fun _ h9 => h9) rfl (by decide +kernel) rfl rfl (Nat.le_of_ble_eq_true rfl) dX3_init_96 (fun H locs hP hD hS => ?_)
  have hP : va_P D vwCl ([(o, .inr (3, [.ref q_6, .int 0, .int 20, .int 60, .int 2000, .int 0, .ref q_8, .int 0, .int 0, .int 0, .ref q_10, .ref q_13, .ref q_16, .int 0])), (q_6, .inl (cy_7, 10, .inr (.inr (.inr (.inr (fun _ => none)))))), (q_8, .inl (cy_9, 60, .inr (.inr (.inr (.inr (fun _ => none)))))), (q_10, .inl (cy_11, 120, .inl (fun _ => 0))), (q_13, .inr (0, [.int 0, .int 0, .int 0, .int 0, .int 0, .int 0, .int 0, .int 0, .int 0, .int 0, .int 0, .int 0, .int 0, .int 0, .int 0, .int 0, .ref u_15.1, .ref u_15.2.1])), (u_15.1, .inl (u_15.2.2.1, 36, .inr (.inr (.inr (.inr (fun _ => none)))))), (u_15.2.1, .inl (u_15.2.2.2, 36, .inl (fun _ => 0))), (q_16, .inl (cy_17, 20, .inr (.inr (.inr (.inr (fun _ => none))))))]) H := hP
  have hD : va_D A ([(o, .inr (3, [.ref q_6, .int 0, .int 20, .int 60, .int 2000, .int 0, .ref q_8, .int 0, .int 0, .int 0, .ref q_10, .ref q_13, .ref q_16, .int 0])), (q_6, .inl (cy_7, 10, .inr (.inr (.inr (.inr (fun _ => none)))))), (q_8, .inl (cy_9, 60, .inr (.inr (.inr (.inr (fun _ => none)))))), (q_10, .inl (cy_11, 120, .inl (fun _ => 0))), (q_13, .inr (0, [.int 0, .int 0, .int 0, .int 0, .int 0, .int 0, .int 0, .int 0, .int 0, .int 0, .int 0, .int 0, .int 0, .int 0, .int 0, .int 0, .ref u_15.1, .ref u_15.2.1])), (u_15.1, .inl (u_15.2.2.1, 36, .inr (.inr (.inr (.inr (fun _ => none)))))), (u_15.2.1, .inl (u_15.2.2.2, 36, .inl (fun _ => 0))), (q_16, .inl (cy_17, 20, .inr (.inr (.inr (.inr (fun _ => none))))))]) := hD
  refine lv_iconst (v := 0) hx hb dX3_init_99 (by decide) ?_
  refine lv_istore_n (lv' := [(1, .int 0), (0, .ref o)]) hx hb dX3_init_100 rfl hl (by decide) rfl (fun ls hl => ?_)
  have ec1 := qKu hK (i := 3) (j := 1) rfl rfl
  have ec2 := qKu hK (i := 4) (j := 2) rfl rfl
  have hP := hP.sub (ws' := [(o, .inr (3, [.ref q_6, .int 0, .int 20, .int 60, .int 2000, .int 0, .ref q_8, .int 0, .int 0, .int 0, .ref q_10, .ref q_13, .ref q_16, .int 0])), (q_6, .inl (cy_7, 10, .inr (.inr (.inr (.inr (fun _ => none)))))), (q_8, .inl (cy_9, 60, .inr (.inr (.inr (.inr (fun _ => none)))))), (q_10, .inl (cy_11, 120, .inl (fun _ => 0))), (q_16, .inl (cy_17, 20, .inr (.inr (.inr (.inr (fun _ => none)))))), (q_13, .inr (0, [.int 0, .int 0, .int 0, .int 0, .int 0, .int 0, .int 0, .int 0, .int 0, .int 0, .int 0, .int 0, .int 0, .int 0, .int 0, .int 0, .ref u_15.1, .ref u_15.2.1])), (u_15.1, .inl (u_15.2.2.1, 36, .inr (.inr (.inr (.inr (fun _ => none)))))), (u_15.2.1, .inl (u_15.2.2.2, 36, .inl (fun _ => 0)))]) [0, 1, 2, 3, 7, 4, 5, 6] rfl
  have hD := hD.sub (ws' := [(o, .inr (3, [.ref q_6, .int 0, .int 20, .int 60, .int 2000, .int 0, .ref q_8, .int 0, .int 0, .int 0, .ref q_10, .ref q_13, .ref q_16, .int 0])), (q_6, .inl (cy_7, 10, .inr (.inr (.inr (.inr (fun _ => none)))))), (q_8, .inl (cy_9, 60, .inr (.inr (.inr (.inr (fun _ => none)))))), (q_10, .inl (cy_11, 120, .inl (fun _ => 0))), (q_16, .inl (cy_17, 20, .inr (.inr (.inr (.inr (fun _ => none)))))), (q_13, .inr (0, [.int 0, .int 0, .int 0, .int 0, .int 0, .int 0, .int 0, .int 0, .int 0, .int 0, .int 0, .int 0, .int 0, .int 0, .int 0, .int 0, .ref u_15.1, .ref u_15.2.1])), (u_15.1, .inl (u_15.2.2.1, 36, .inr (.inr (.inr (.inr (fun _ => none)))))), (u_15.2.1, .inl (u_15.2.2.2, 36, .inl (fun _ => 0)))]) [0, 1, 2, 3, 7, 4, 5, 6] (by decide) rfl
  have hl := lv_sub hl (l' := [(1, .int 0), (0, .ref o)]) [0, 1] rfl
  refine W.widen (k := 7 + 3 * 0) (n := 300 + 90 * 0) (by omega) (by omega) ?_
  rw [ec1, ec2] at hP hD
  have hK := hK.sub (tys' := [(cy_7, .object RX1), (cy_9, .object RX0), (cy_11, .int), (cy_17, .object RX2)]) [0, 1, 2, 5] rfl
  have hP : va_P D vwCl (qHD cy_7 cy_9 cy_11 cy_17 o q_6 q_8 q_10 q_16 q_13 u_15.1 u_15.2.1 (fun _ => none) ++ qpl cy_9 cy_11 (fun _ => 0) 0) H := by rw [show qpl cy_9 cy_11 (fun _ => 0) 0 = [] from rfl, List.append_nil]; exact hP
  have hD : va_D A (qHD cy_7 cy_9 cy_11 cy_17 o q_6 q_8 q_10 q_16 q_13 u_15.1 u_15.2.1 (fun _ => none) ++ qpl cy_9 cy_11 (fun _ => 0) 0) := by rw [show qpl cy_9 cy_11 (fun _ => 0) 0 = [] from rfl, List.append_nil]; exact hD
  generalize hQe : MQ _ _ _ _ _ _ _ = Q
  have loop : ∀ (k i : Nat), i + k = 60 → ∀ (f : Nat → Option Nat) (G : Nat → Nat) (hf : ∀ j, j < i → f j = some (G (3 * j))) (H : Heap) (locs : List Loc) (ls : Array Slot), va_P D vwCl (qHD cy_7 cy_9 cy_11 cy_17 o q_6 q_8 q_10 q_16 q_13 u_15.1 u_15.2.1 f ++ qpl cy_9 cy_11 G i) H → va_D A (qHD cy_7 cy_9 cy_11 cy_17 o q_6 q_8 q_10 q_16 q_13 u_15.1 u_15.2.1 f ++ qpl cy_9 cy_11 G i) → va_S A s.heap H locs → lv_has ls 2 [(1, .int (nI i)), (0, .ref o)] → W p l e R s m ([.ref o] : List Value).toArray below meth c H locs (7 + 3 * i) (300 + 90 * i) Q (F0 m 101 ls []) := by
    intro k
    induction k with
    | zero =>
      intro i hi f G hf H locs ls hP hD hS hl
      obtain rfl : i = 60 := by omega
      refine lv_iload_n hx hb dX3_init_101 rfl (lv_at hl 0 rfl) ?_
      refine lv_bipush (v := 60) hx hb dX3_init_102 (by decide) ?_
      refine lv_icmp_ge (tgt := 126) hx hb dX3_init_104 (by decide) (fun c_18 => ?_) (fun c_18 => absurd (by decide) c_18)
      refine W.widen (k := 187) (n := 5700) (by omega) (by omega) ?_
      have hP := qP_new hP
      have hD := qD_new hD
      rw [← hQe]
      have hB : qFull (qBn cy_7 cy_9 cy_11 cy_17 G o q_6 q_8 q_10 q_16 q_13 u_15.1 u_15.2.1 f) qRn qNew (fun _ _ => 0) := qNew_full (fun j hj => (hf j hj).trans (congrArg some (show G (3 * j) = (if j = 60 then _ else G (3 * j + 0)) by rw [if_neg (by omega)]; rfl))) rfl rfl
      exact W.vret hx hb hr (fun t ht hW => ⟨⟨(qBn cy_7 cy_9 cy_11 cy_17 G o q_6 q_8 q_10 q_16 q_13 u_15.1 u_15.2.1 f), rfl, ⟨hB, rfl, rfl, rfl⟩, ⟨Nat.zero_le _, by rw [ht]; exact hP, va_K.moved hW.alike (hK.sub (tys' := [(cy_7, .object RX1), (cy_9, .object RX0), (cy_11, .int), (cy_17, .object RX2)]) [0, 1, 2, 3] rfl), hD⟩⟩, hS.F ht⟩) hS.2.2 dX3_init_126
    | succ k ih =>
      intro i hi f G hf H locs ls hP hD hS hl
      refine lv_iload_n hx hb dX3_init_101 rfl (lv_at hl 0 rfl) ?_
      refine lv_bipush (v := 60) hx hb dX3_init_102 (by decide) ?_
      refine lv_icmp_ge (tgt := 126) hx hb dX3_init_104 (by decide) (fun c_19 => absurd c_19 (nI_ge (b := 60) (by omega) (by decide))) (fun c_19 => ?_)
      refine lv_aload_n hx hb dX3_init_107 rfl (lv_at hl 1 rfl) ?_
      refine va_get (D := D) (ci := 3) (v := .ref q_8) (C := RX3) (T := TX3) (N := 14) hx hb hts (fun _ h9 => List.mem_cons_of_mem _ (List.mem_append_left _ (List.mem_append_right _ h9))) hown hK hP 0 rfl rfl 6 (by decide) (hts (.fieldLink RX3 34 "PalletStack" "items" "[LPalletStack$Item;") (List.mem_of_getElem? (i := 12) (by rfl))) (fun _ h9 => h9) rfl dX3_init_108 ?_
      refine lv_iload_n hx hb dX3_init_111 rfl (lv_at hl 0 rfl) ?_
      refine va_new (D := D) (ci := 0) (fs := [.int 0, .int 0, .int 0, .int 0, .int 0, .int 0, .int 0, .int 0, .int 0, .int 0, .int 0, .int 0, .int 0, .int 0, .int 0, .int 0, .null, .null]) (C := RX0) (T := TX0) (N := 18) hx hb hts (fun _ h9 => List.mem_cons_of_mem _ (List.mem_append_right _ h9)) tyX0 tyX0_ok hown (hts (.classLink RX3 32 RX0) (List.mem_of_getElem? (i := 11) (by rfl))) (hts (.instantiable RX0 18) (List.mem_of_getElem? (i := 18) (by rfl))) (hts (.initialized RX0) (List.mem_of_getElem? (i := 19) (by rfl))) hK hP hD hS hA rfl (fun j hj => by rcases (show j = 0 ∨ j = 1 ∨ j = 2 ∨ j = 3 ∨ j = 4 ∨ j = 5 ∨ j = 6 ∨ j = 7 ∨ j = 8 ∨ j = 9 ∨ j = 10 ∨ j = 11 ∨ j = 12 ∨ j = 13 ∨ j = 14 ∨ j = 15 ∨ j = 16 ∨ j = 17 by omega) with rfl | rfl | rfl | rfl | rfl | rfl | rfl | rfl | rfl | rfl | rfl | rfl | rfl | rfl | rfl | rfl | rfl | rfl <;> rfl) (by omega) (by omega) dX3_init_112 (fun q_20 H hP hD hS => ?_)
      have hP : va_P D vwCl ((qHD cy_7 cy_9 cy_11 cy_17 o q_6 q_8 q_10 q_16 q_13 u_15.1 u_15.2.1 f ++ qpl cy_9 cy_11 G i) ++ [(q_20, .inr (0, [.int 0, .int 0, .int 0, .int 0, .int 0, .int 0, .int 0, .int 0, .int 0, .int 0, .int 0, .int 0, .int 0, .int 0, .int 0, .int 0, .null, .null]))]) H := hP
      have hD : va_D A ((qHD cy_7 cy_9 cy_11 cy_17 o q_6 q_8 q_10 q_16 q_13 u_15.1 u_15.2.1 f ++ qpl cy_9 cy_11 G i) ++ [(q_20, .inr (0, [.int 0, .int 0, .int 0, .int 0, .int 0, .int 0, .int 0, .int 0, .int 0, .int 0, .int 0, .int 0, .int 0, .int 0, .int 0, .int 0, .null, .null]))]) := hD
      refine lv_dup hx hb dX3_init_115 rfl ?_
      refine zcallvINK (As := []) (rest := [.ref q_20, .int (nI i), .ref q_8]) (wc := [(q_20, .inr (0, [.int 0, .int 0, .int 0, .int 0, .int 0, .int 0, .int 0, .int 0, .int 0, .int 0, .int 0, .int 0, .int 0, .int 0, .int 0, .int 0, .null, .null]))]) (wr := qHD cy_7 cy_9 cy_11 cy_17 o q_6 q_8 q_10 q_16 q_13 u_15.1 u_15.2.1 f ++ qpl cy_9 cy_11 G i) ⟨hx, hb, hml, hown, hts⟩ (c_Item_init l D _ q_20) (⟨va_cnB (host := "PalletStack") 0 hts gX3_init_X0_init_n51 rfl rfl rfl (hKn) (hts (.initialized RX0) (List.mem_of_getElem? (i := 19) (by rfl))) (by decide +kernel) ⟨by rw [hRf]; exact Nat.le_of_ble_eq_true rfl, by rw [hRl]; exact Nat.le_of_ble_eq_true rfl⟩, rfl, (hts (.instanceMethod yX0_init) (List.mem_of_getElem? (i := 24) (by rfl)))⟩) (fun _ U _ _ h => h.moved (Vm.Alike.refl U.vm)) (fun U hW => hK0.moved hW.alike) hK hP hD hS hA (qCi (qHD cy_7 cy_9 cy_11 cy_17 o q_6 q_8 q_10 q_16 q_13 u_15.1 u_15.2.1 f ++ qpl cy_9 cy_11 G i) [(q_20, .inr (0, [.int 0, .int 0, .int 0, .int 0, .int 0, .int 0, .int 0, .int 0, .int 0, .int 0, .int 0, .int 0, .int 0, .int 0, .int 0, .int 0, .null, .null]))]) (qRi (qHD cy_7 cy_9 cy_11 cy_17 o q_6 q_8 q_10 q_16 q_13 u_15.1 u_15.2.1 f ++ qpl cy_9 cy_11 G i)) (qCi_C _ _) (qCi_nd _ _) (qRi_R _ _) (qRi_nd _) (qRi_dis _ _) [] rfl rfl hl.1 rfl (Nat.le_of_ble_eq_true rfl) dX3_init_116 ⟨by omega, by omega⟩ (fun u_21 H locs hwu_21 hnu_21 hzu_21 hK9 hP hD hS => ?_)
      have hK9 : va_K D vwCl [(cy_7, .object RX1), (cy_9, .object RX0), (cy_11, .int), (cy_17, .object RX2), (u_21.2.2.1, .object RX0), (u_21.2.2.2, .int)] s := hK9
      have ed1 := qKu hK9 (i := 4) (j := 1) rfl rfl
      have ed2 := qKu hK9 (i := 5) (j := 2) rfl rfl
      rw [ed1, ed2, List.append_assoc] at hP hD
      have hP : va_P D vwCl (qHD cy_7 cy_9 cy_11 cy_17 o q_6 q_8 q_10 q_16 q_13 u_15.1 u_15.2.1 f ++ (qpl cy_9 cy_11 G i ++ [(q_20, .inr (0, [.int 0, .int 0, .int 0, .int 0, .int 0, .int 0, .int 0, .int 0, .int 0, .int 0, .int 0, .int 0, .int 0, .int 0, .int 0, .int 0, .ref u_21.1, .ref u_21.2.1])), (u_21.1, .inl (cy_9, 36, .inr (.inr (.inr (.inr (fun _ => none)))))), (u_21.2.1, .inl (cy_11, 36, .inl (fun _ => 0)))])) H := hP
      have hD : va_D A (qHD cy_7 cy_9 cy_11 cy_17 o q_6 q_8 q_10 q_16 q_13 u_15.1 u_15.2.1 f ++ (qpl cy_9 cy_11 G i ++ [(q_20, .inr (0, [.int 0, .int 0, .int 0, .int 0, .int 0, .int 0, .int 0, .int 0, .int 0, .int 0, .int 0, .int 0, .int 0, .int 0, .int 0, .int 0, .ref u_21.1, .ref u_21.2.1])), (u_21.1, .inl (cy_9, 36, .inr (.inr (.inr (.inr (fun _ => none)))))), (u_21.2.1, .inl (cy_11, 36, .inl (fun _ => 0)))])) := hD
      refine va_astq hx hb hK hP hD hS 2 1 (8 + (qpl cy_9 cy_11 G i).length) 0 rfl rfl (qgy rfl) rfl (vp_in_nI (n := i) (N := 60) (by omega) (by decide)) dX3_init_119 (fun H locs hP hD hS => ?_)
      rw [nI_clamp (by omega), qHD_2, qpl_1] at hP hD
      refine lv_iinc (v := (nI (i + 1))) (lv' := [(1, .int (nI (i + 1))), (0, .ref o)]) hx hb dX3_init_120 hl (k := 0) rfl (nI_1 i) (by decide) rfl (fun ls hl => ?_)
      refine lv_goto (tgt := 101) hx hb dX3_init_123 (by decide) ?_
      have hl := lv_sub hl (l' := [(1, .int (nI (i + 1))), (0, .ref o)]) [0, 1] rfl
      refine W.widen (k := (7 + 3 * (i + 1))) (n := (300 + 90 * (i + 1))) (by omega) (by omega) ?_
      refine ih (i + 1) (by omega) _ _ (fun j hj => ?_) H locs ls hP hD hS hl
      by_cases h9 : j = i
      · subst h9; rw [va_up_self, qG3_0]
      · rw [va_up_ne _ _ h9, hf j (by omega), qG3_j _ _ _ _ (by omega)]
  exact loop 60 0 rfl _ _ (fun j hj => absurd hj (Nat.not_lt_zero j)) H locs ls hP hD hS hl
set_option maxHeartbeats 4000000 in
set_option maxRecDepth 100000 in
theorem c_Kind_init (l : Launch) (D : zG) (sz : Nat) (k0 n a1 a2 a3 a4 a5 a6 : Nat) (h6 : a6 < 4) : Met l yX1_init wsX1_init ({ frames := 1, cells := 0, slots := 0, locals := 16 }) (zPc D [] ([(k0, .inr (1, [.int 0, .int 0, .int 0, .int 0, .int 0, .int 0, .int 0, .int 0]))]) sz [.ref k0, .int (nI n), .int (nI a1), .int (nI a2), .int (nI a3), .int (nI a4), .int (nI a5), .int (nI a6)]) (va_Qv (fun (u : Unit) => True) (zB D (va_A ([(k0, .inr (1, [.int 0, .int 0, .int 0, .int 0, .int 0, .int 0, .int 0, .int 0]))]) sz) (fun _ => []) 0 (fun _ => [(k0, .inr (1, [.int (nI n), .int (nI a1), .int (nI a2), .int (nI a3), .int (nI a4), .int (nI a5), .int (nI (a6 % 2)), .int (nI (a6 / 2))]))])) (va_A ([(k0, .inr (1, [.int 0, .int 0, .int 0, .int 0, .int 0, .int 0, .int 0, .int 0]))]) sz)) 0 0 (va_A ([(k0, .inr (1, [.int 0, .int 0, .int 0, .int 0, .int 0, .int 0, .int 0, .int 0]))]) sz) := by
  refine Met.ofW (cc := cX1_init) (maxL := 8) (ret := none) (by decide) rfl ?_
  intro p e s m args below meth c s₁ B hml hv
  obtain ⟨rfl, hsz, hP, hK, hD0⟩ := hv
  have hx := B.exec
  have hb := B.bytes
  have hr := B.returns
  have hts := atoms_spec (ws := wsX1_init) B.pre
  have hown : s.vm.findClass RX1 = some m.cls := findClass_of_methodNamed B.named
  have hlocks := B.notSynchronized
  have hin : meth.name = "<init>" := (name_of_methodNamed B.named B.method).1
  subst hsz
  have hD := hD0.self (sz := s.heap.size)
  generalize hAe : va_A ([(k0, .inr (1, [.int 0, .int 0, .int 0, .int 0, .int 0, .int 0, .int 0, .int 0]))]) s.heap.size = A at hD ⊢
  have hA : ∀ q : Nat, s.heap.size ≤ q → A q := fun q h => by rw [← hAe]; exact Or.inr h
  have hS : va_S A s.heap s.heap [] := va_S.rf
  have hl := lv_entry ([.ref k0, .int (nI n), .int (nI a1), .int (nI a2), .int (nI a3), .int (nI a4), .int (nI a5), .int (nI a6)]) (n := 8) (Nat.le_of_ble_eq_true rfl)
  rw [lg_entry_eq]
  generalize (lg_sl ([.ref k0, .int (nI n), .int (nI a1), .int (nI a2), .int (nI a3), .int (nI a4), .int (nI a5), .int (nI a6)]) ++ List.replicate (8 - (lg_sl ([.ref k0, .int (nI n), .int (nI a1), .int (nI a2), .int (nI a3), .int (nI a4), .int (nI a5), .int (nI a6)])).length) Slot.unset).toArray = ls at hl ⊢
  have hl : lv_has ls 8 [(0, .ref k0), (1, .int (nI n)), (2, .int (nI a1)), (3, .int (nI a2)), (4, .int (nI a3)), (5, .int (nI a4)), (6, .int (nI a5)), (7, .int (nI a6))] := hl
  have hP : va_P D vwCl ([(k0, .inr (1, [.int 0, .int 0, .int 0, .int 0, .int 0, .int 0, .int 0, .int 0]))]) s.heap := hP
  generalize hRe : (headSpec _ _).room = R
  have hRf : R.frames = 1 := by rw [← hRe]; rfl
  have hRc : R.cells = 0 := by rw [← hRe]; rfl
  have hRs : R.slots = 0 := by rw [← hRe]; rfl
  have hRl : R.locals = 16 := by rw [← hRe]; rfl
  clear hRe
  refine lv_aload_n hx hb dX1_init_0 rfl (lv_at hl 0 rfl) ?_
  refine W.objInit hx hb hown (hts (.methodLink RX1 1 objectInit) (List.mem_of_getElem? (i := 1) (by rfl))) (hts (.instanceMethod objectInit) (List.mem_of_getElem? (i := 2) (by rfl))) (hts (.code objectInit ⟨#[0xb1]⟩ 1 none) (List.mem_of_getElem? (i := 3) (by rfl))) rfl (by rw [hml]; exact hl.1) rfl dX1_init_1 (by rw [hRf]; exact Nat.le_of_ble_eq_true rfl) (by rw [hRl]; exact Nat.le_of_ble_eq_true rfl) ?_
  refine W.eq (g2 := F0 m 4 ls []) rfl ?_
  refine lv_aload_n hx hb dX1_init_4 rfl (lv_at hl 0 rfl) ?_
  refine lv_iload_n hx hb dX1_init_5 rfl (lv_at hl 1 rfl) ?_
  refine va_putF (D := D) (ci := 1) (v := .int (nI n)) (ty := .int) (C := RX1) (T := TX1) (N := 8) hx hb hts (fun _ h9 => List.mem_cons_of_mem _ (List.mem_append_right _ h9)) tyX1 tyX1_ok nmX1 hown hK hP hD hS 0 rfl rfl 0 (by decide) (hts (.fieldLink RX1 7 "PalletStack$Kind" "number" "I") (List.mem_of_getElem? (i := 4) (by rfl))) (fun _ h9 => h9) rfl hin rfl (by decide +kernel) rfl rfl (Nat.le_of_ble_eq_true rfl) dX1_init_6 (fun H locs hP hD hS => ?_)
  have hP : va_P D vwCl ([(k0, .inr (1, [.int (nI n), .int 0, .int 0, .int 0, .int 0, .int 0, .int 0, .int 0]))]) H := hP
  have hD : va_D A ([(k0, .inr (1, [.int (nI n), .int 0, .int 0, .int 0, .int 0, .int 0, .int 0, .int 0]))]) := hD
  refine lv_aload_n hx hb dX1_init_9 rfl (lv_at hl 0 rfl) ?_
  refine lv_iload_n hx hb dX1_init_10 rfl (lv_at hl 2 rfl) ?_
  refine va_putF (D := D) (ci := 1) (v := .int (nI a1)) (ty := .int) (C := RX1) (T := TX1) (N := 8) hx hb hts (fun _ h9 => List.mem_cons_of_mem _ (List.mem_append_right _ h9)) tyX1 tyX1_ok nmX1 hown hK hP hD hS 0 rfl rfl 1 (by decide) (hts (.fieldLink RX1 13 "PalletStack$Kind" "width" "I") (List.mem_of_getElem? (i := 5) (by rfl))) (fun _ h9 => h9) rfl hin rfl (by decide +kernel) rfl rfl (Nat.le_of_ble_eq_true rfl) dX1_init_11 (fun H locs hP hD hS => ?_)
  have hP : va_P D vwCl ([(k0, .inr (1, [.int (nI n), .int (nI a1), .int 0, .int 0, .int 0, .int 0, .int 0, .int 0]))]) H := hP
  have hD : va_D A ([(k0, .inr (1, [.int (nI n), .int (nI a1), .int 0, .int 0, .int 0, .int 0, .int 0, .int 0]))]) := hD
  refine lv_aload_n hx hb dX1_init_14 rfl (lv_at hl 0 rfl) ?_
  refine lv_iload_n hx hb dX1_init_15 rfl (lv_at hl 3 rfl) ?_
  refine va_putF (D := D) (ci := 1) (v := .int (nI a2)) (ty := .int) (C := RX1) (T := TX1) (N := 8) hx hb hts (fun _ h9 => List.mem_cons_of_mem _ (List.mem_append_right _ h9)) tyX1 tyX1_ok nmX1 hown hK hP hD hS 0 rfl rfl 2 (by decide) (hts (.fieldLink RX1 16 "PalletStack$Kind" "depth" "I") (List.mem_of_getElem? (i := 6) (by rfl))) (fun _ h9 => h9) rfl hin rfl (by decide +kernel) rfl rfl (Nat.le_of_ble_eq_true rfl) dX1_init_16 (fun H locs hP hD hS => ?_)
  have hP : va_P D vwCl ([(k0, .inr (1, [.int (nI n), .int (nI a1), .int (nI a2), .int 0, .int 0, .int 0, .int 0, .int 0]))]) H := hP
  have hD : va_D A ([(k0, .inr (1, [.int (nI n), .int (nI a1), .int (nI a2), .int 0, .int 0, .int 0, .int 0, .int 0]))]) := hD
  refine lv_aload_n hx hb dX1_init_19 rfl (lv_at hl 0 rfl) ?_
  refine lv_iload hx hb dX1_init_20 (lv_at hl 4 rfl) ?_
  refine va_putF (D := D) (ci := 1) (v := .int (nI a3)) (ty := .int) (C := RX1) (T := TX1) (N := 8) hx hb hts (fun _ h9 => List.mem_cons_of_mem _ (List.mem_append_right _ h9)) tyX1 tyX1_ok nmX1 hown hK hP hD hS 0 rfl rfl 3 (by decide) (hts (.fieldLink RX1 19 "PalletStack$Kind" "height" "I") (List.mem_of_getElem? (i := 7) (by rfl))) (fun _ h9 => h9) rfl hin rfl (by decide +kernel) rfl rfl (Nat.le_of_ble_eq_true rfl) dX1_init_22 (fun H locs hP hD hS => ?_)
  have hP : va_P D vwCl ([(k0, .inr (1, [.int (nI n), .int (nI a1), .int (nI a2), .int (nI a3), .int 0, .int 0, .int 0, .int 0]))]) H := hP
  have hD : va_D A ([(k0, .inr (1, [.int (nI n), .int (nI a1), .int (nI a2), .int (nI a3), .int 0, .int 0, .int 0, .int 0]))]) := hD
  refine lv_aload_n hx hb dX1_init_25 rfl (lv_at hl 0 rfl) ?_
  refine lv_iload hx hb dX1_init_26 (lv_at hl 5 rfl) ?_
  refine va_putF (D := D) (ci := 1) (v := .int (nI a4)) (ty := .int) (C := RX1) (T := TX1) (N := 8) hx hb hts (fun _ h9 => List.mem_cons_of_mem _ (List.mem_append_right _ h9)) tyX1 tyX1_ok nmX1 hown hK hP hD hS 0 rfl rfl 4 (by decide) (hts (.fieldLink RX1 22 "PalletStack$Kind" "weight" "I") (List.mem_of_getElem? (i := 8) (by rfl))) (fun _ h9 => h9) rfl hin rfl (by decide +kernel) rfl rfl (Nat.le_of_ble_eq_true rfl) dX1_init_28 (fun H locs hP hD hS => ?_)
  have hP : va_P D vwCl ([(k0, .inr (1, [.int (nI n), .int (nI a1), .int (nI a2), .int (nI a3), .int (nI a4), .int 0, .int 0, .int 0]))]) H := hP
  have hD : va_D A ([(k0, .inr (1, [.int (nI n), .int (nI a1), .int (nI a2), .int (nI a3), .int (nI a4), .int 0, .int 0, .int 0]))]) := hD
  refine lv_aload_n hx hb dX1_init_31 rfl (lv_at hl 0 rfl) ?_
  refine lv_iload hx hb dX1_init_32 (lv_at hl 6 rfl) ?_
  refine va_putF (D := D) (ci := 1) (v := .int (nI a5)) (ty := .int) (C := RX1) (T := TX1) (N := 8) hx hb hts (fun _ h9 => List.mem_cons_of_mem _ (List.mem_append_right _ h9)) tyX1 tyX1_ok nmX1 hown hK hP hD hS 0 rfl rfl 5 (by decide) (hts (.fieldLink RX1 25 "PalletStack$Kind" "strength" "I") (List.mem_of_getElem? (i := 9) (by rfl))) (fun _ h9 => h9) rfl hin rfl (by decide +kernel) rfl rfl (Nat.le_of_ble_eq_true rfl) dX1_init_34 (fun H locs hP hD hS => ?_)
  have hP : va_P D vwCl ([(k0, .inr (1, [.int (nI n), .int (nI a1), .int (nI a2), .int (nI a3), .int (nI a4), .int (nI a5), .int 0, .int 0]))]) H := hP
  have hD : va_D A ([(k0, .inr (1, [.int (nI n), .int (nI a1), .int (nI a2), .int (nI a3), .int (nI a4), .int (nI a5), .int 0, .int 0]))]) := hD
  refine lv_aload_n hx hb dX1_init_37 rfl (lv_at hl 0 rfl) ?_
  rcases (show a6 = 0 ∨ a6 = 1 ∨ a6 = 2 ∨ a6 = 3 by omega) with h | h | h | h
  · have h_b := True.intro
    subst h
    refine lv_iload hx hb dX1_init_38 (lv_at hl 7 rfl) ?_
    refine lv_iconst (v := 1) hx hb dX1_init_40 (by decide) ?_
    refine lv_icmp_eq (tgt := 50) hx hb dX1_init_41 (by decide) (fun c_22 => absurd c_22 (by decide)) (fun c_22 => ?_)
    refine lv_iload hx hb dX1_init_44 (lv_at hl 7 rfl) ?_
    refine lv_iconst (v := 3) hx hb dX1_init_46 (by decide) ?_
    refine lv_icmp_ne (tgt := 54) hx hb dX1_init_47 (by decide) (fun c_23 => ?_) (fun c_23 => absurd c_23 (by decide))
    refine lv_iconst (v := 0) hx hb dX1_init_54 (by decide) ?_
    refine va_putF (D := D) (ci := 1) (v := .int 0) (ty := .boolean) (C := RX1) (T := TX1) (N := 8) hx hb hts (fun _ h9 => List.mem_cons_of_mem _ (List.mem_append_right _ h9)) tyX1 tyX1_ok nmX1 hown hK hP hD hS 0 rfl rfl 6 (by decide) (hts (.fieldLink RX1 28 "PalletStack$Kind" "canTurn" "Z") (List.mem_of_getElem? (i := 10) (by rfl))) (fun _ h9 => h9) rfl hin rfl (by decide +kernel) rfl rfl (Nat.le_of_ble_eq_true rfl) dX1_init_55 (fun H locs hP hD hS => ?_)
    have hP : va_P D vwCl ([(k0, .inr (1, [.int (nI n), .int (nI a1), .int (nI a2), .int (nI a3), .int (nI a4), .int (nI a5), .int 0, .int 0]))]) H := hP
    have hD : va_D A ([(k0, .inr (1, [.int (nI n), .int (nI a1), .int (nI a2), .int (nI a3), .int (nI a4), .int (nI a5), .int 0, .int 0]))]) := hD
    refine lv_aload_n hx hb dX1_init_58 rfl (lv_at hl 0 rfl) ?_
    refine lv_iload hx hb dX1_init_59 (lv_at hl 7 rfl) ?_
    refine lv_iconst (v := 2) hx hb dX1_init_61 (by decide) ?_
    refine lv_icmp_eq (tgt := 71) hx hb dX1_init_62 (by decide) (fun c_24 => absurd c_24 (by decide)) (fun c_24 => ?_)
    refine lv_iload hx hb dX1_init_65 (lv_at hl 7 rfl) ?_
    refine lv_iconst (v := 3) hx hb dX1_init_67 (by decide) ?_
    refine lv_icmp_ne (tgt := 75) hx hb dX1_init_68 (by decide) (fun c_25 => ?_) (fun c_25 => absurd c_25 (by decide))
    refine lv_iconst (v := 0) hx hb dX1_init_75 (by decide) ?_
    refine va_putF (D := D) (ci := 1) (v := .int 0) (ty := .boolean) (C := RX1) (T := TX1) (N := 8) hx hb hts (fun _ h9 => List.mem_cons_of_mem _ (List.mem_append_right _ h9)) tyX1 tyX1_ok nmX1 hown hK hP hD hS 0 rfl rfl 7 (by decide) (hts (.fieldLink RX1 32 "PalletStack$Kind" "needsDeck" "Z") (List.mem_of_getElem? (i := 11) (by rfl))) (fun _ h9 => h9) rfl hin rfl (by decide +kernel) rfl rfl (Nat.le_of_ble_eq_true rfl) dX1_init_76 (fun H locs hP hD hS => ?_)
    have hP : va_P D vwCl ([(k0, .inr (1, [.int (nI n), .int (nI a1), .int (nI a2), .int (nI a3), .int (nI a4), .int (nI a5), .int 0, .int 0]))]) H := hP
    have hD : va_D A ([(k0, .inr (1, [.int (nI n), .int (nI a1), .int (nI a2), .int (nI a3), .int (nI a4), .int (nI a5), .int 0, .int 0]))]) := hD
    exact W.vret hx hb hr (fun t ht hW => ⟨⟨(), rfl, True.intro, ⟨Nat.zero_le _, by rw [ht]; exact hP, va_K.moved hW.alike (hK.sub (tys' := []) [] rfl), hD⟩⟩, hS.F ht⟩) hS.2.2 dX1_init_79
  · have h_b := True.intro
    subst h
    refine lv_iload hx hb dX1_init_38 (lv_at hl 7 rfl) ?_
    refine lv_iconst (v := 1) hx hb dX1_init_40 (by decide) ?_
    refine lv_icmp_eq (tgt := 50) hx hb dX1_init_41 (by decide) (fun c_26 => ?_) (fun c_26 => absurd (rfl) c_26)
    refine lv_iconst (v := 1) hx hb dX1_init_50 (by decide) ?_
    refine lv_goto (tgt := 55) hx hb dX1_init_51 (by decide) ?_
    refine va_putF (D := D) (ci := 1) (v := .int 1) (ty := .boolean) (C := RX1) (T := TX1) (N := 8) hx hb hts (fun _ h9 => List.mem_cons_of_mem _ (List.mem_append_right _ h9)) tyX1 tyX1_ok nmX1 hown hK hP hD hS 0 rfl rfl 6 (by decide) (hts (.fieldLink RX1 28 "PalletStack$Kind" "canTurn" "Z") (List.mem_of_getElem? (i := 10) (by rfl))) (fun _ h9 => h9) rfl hin rfl (by decide +kernel) rfl rfl (Nat.le_of_ble_eq_true rfl) dX1_init_55 (fun H locs hP hD hS => ?_)
    have hP : va_P D vwCl ([(k0, .inr (1, [.int (nI n), .int (nI a1), .int (nI a2), .int (nI a3), .int (nI a4), .int (nI a5), .int 1, .int 0]))]) H := hP
    have hD : va_D A ([(k0, .inr (1, [.int (nI n), .int (nI a1), .int (nI a2), .int (nI a3), .int (nI a4), .int (nI a5), .int 1, .int 0]))]) := hD
    refine lv_aload_n hx hb dX1_init_58 rfl (lv_at hl 0 rfl) ?_
    refine lv_iload hx hb dX1_init_59 (lv_at hl 7 rfl) ?_
    refine lv_iconst (v := 2) hx hb dX1_init_61 (by decide) ?_
    refine lv_icmp_eq (tgt := 71) hx hb dX1_init_62 (by decide) (fun c_27 => absurd c_27 (by decide)) (fun c_27 => ?_)
    refine lv_iload hx hb dX1_init_65 (lv_at hl 7 rfl) ?_
    refine lv_iconst (v := 3) hx hb dX1_init_67 (by decide) ?_
    refine lv_icmp_ne (tgt := 75) hx hb dX1_init_68 (by decide) (fun c_28 => ?_) (fun c_28 => absurd c_28 (by decide))
    refine lv_iconst (v := 0) hx hb dX1_init_75 (by decide) ?_
    refine va_putF (D := D) (ci := 1) (v := .int 0) (ty := .boolean) (C := RX1) (T := TX1) (N := 8) hx hb hts (fun _ h9 => List.mem_cons_of_mem _ (List.mem_append_right _ h9)) tyX1 tyX1_ok nmX1 hown hK hP hD hS 0 rfl rfl 7 (by decide) (hts (.fieldLink RX1 32 "PalletStack$Kind" "needsDeck" "Z") (List.mem_of_getElem? (i := 11) (by rfl))) (fun _ h9 => h9) rfl hin rfl (by decide +kernel) rfl rfl (Nat.le_of_ble_eq_true rfl) dX1_init_76 (fun H locs hP hD hS => ?_)
    have hP : va_P D vwCl ([(k0, .inr (1, [.int (nI n), .int (nI a1), .int (nI a2), .int (nI a3), .int (nI a4), .int (nI a5), .int 1, .int 0]))]) H := hP
    have hD : va_D A ([(k0, .inr (1, [.int (nI n), .int (nI a1), .int (nI a2), .int (nI a3), .int (nI a4), .int (nI a5), .int 1, .int 0]))]) := hD
    exact W.vret hx hb hr (fun t ht hW => ⟨⟨(), rfl, True.intro, ⟨Nat.zero_le _, by rw [ht]; exact hP, va_K.moved hW.alike (hK.sub (tys' := []) [] rfl), hD⟩⟩, hS.F ht⟩) hS.2.2 dX1_init_79
  · have h_b := True.intro
    subst h
    refine lv_iload hx hb dX1_init_38 (lv_at hl 7 rfl) ?_
    refine lv_iconst (v := 1) hx hb dX1_init_40 (by decide) ?_
    refine lv_icmp_eq (tgt := 50) hx hb dX1_init_41 (by decide) (fun c_29 => absurd c_29 (by decide)) (fun c_29 => ?_)
    refine lv_iload hx hb dX1_init_44 (lv_at hl 7 rfl) ?_
    refine lv_iconst (v := 3) hx hb dX1_init_46 (by decide) ?_
    refine lv_icmp_ne (tgt := 54) hx hb dX1_init_47 (by decide) (fun c_30 => ?_) (fun c_30 => absurd c_30 (by decide))
    refine lv_iconst (v := 0) hx hb dX1_init_54 (by decide) ?_
    refine va_putF (D := D) (ci := 1) (v := .int 0) (ty := .boolean) (C := RX1) (T := TX1) (N := 8) hx hb hts (fun _ h9 => List.mem_cons_of_mem _ (List.mem_append_right _ h9)) tyX1 tyX1_ok nmX1 hown hK hP hD hS 0 rfl rfl 6 (by decide) (hts (.fieldLink RX1 28 "PalletStack$Kind" "canTurn" "Z") (List.mem_of_getElem? (i := 10) (by rfl))) (fun _ h9 => h9) rfl hin rfl (by decide +kernel) rfl rfl (Nat.le_of_ble_eq_true rfl) dX1_init_55 (fun H locs hP hD hS => ?_)
    have hP : va_P D vwCl ([(k0, .inr (1, [.int (nI n), .int (nI a1), .int (nI a2), .int (nI a3), .int (nI a4), .int (nI a5), .int 0, .int 0]))]) H := hP
    have hD : va_D A ([(k0, .inr (1, [.int (nI n), .int (nI a1), .int (nI a2), .int (nI a3), .int (nI a4), .int (nI a5), .int 0, .int 0]))]) := hD
    refine lv_aload_n hx hb dX1_init_58 rfl (lv_at hl 0 rfl) ?_
    refine lv_iload hx hb dX1_init_59 (lv_at hl 7 rfl) ?_
    refine lv_iconst (v := 2) hx hb dX1_init_61 (by decide) ?_
    refine lv_icmp_eq (tgt := 71) hx hb dX1_init_62 (by decide) (fun c_31 => ?_) (fun c_31 => absurd (rfl) c_31)
    refine lv_iconst (v := 1) hx hb dX1_init_71 (by decide) ?_
    refine lv_goto (tgt := 76) hx hb dX1_init_72 (by decide) ?_
    refine va_putF (D := D) (ci := 1) (v := .int 1) (ty := .boolean) (C := RX1) (T := TX1) (N := 8) hx hb hts (fun _ h9 => List.mem_cons_of_mem _ (List.mem_append_right _ h9)) tyX1 tyX1_ok nmX1 hown hK hP hD hS 0 rfl rfl 7 (by decide) (hts (.fieldLink RX1 32 "PalletStack$Kind" "needsDeck" "Z") (List.mem_of_getElem? (i := 11) (by rfl))) (fun _ h9 => h9) rfl hin rfl (by decide +kernel) rfl rfl (Nat.le_of_ble_eq_true rfl) dX1_init_76 (fun H locs hP hD hS => ?_)
    have hP : va_P D vwCl ([(k0, .inr (1, [.int (nI n), .int (nI a1), .int (nI a2), .int (nI a3), .int (nI a4), .int (nI a5), .int 0, .int 1]))]) H := hP
    have hD : va_D A ([(k0, .inr (1, [.int (nI n), .int (nI a1), .int (nI a2), .int (nI a3), .int (nI a4), .int (nI a5), .int 0, .int 1]))]) := hD
    exact W.vret hx hb hr (fun t ht hW => ⟨⟨(), rfl, True.intro, ⟨Nat.zero_le _, by rw [ht]; exact hP, va_K.moved hW.alike (hK.sub (tys' := []) [] rfl), hD⟩⟩, hS.F ht⟩) hS.2.2 dX1_init_79
  · have h_b := True.intro
    subst h
    refine lv_iload hx hb dX1_init_38 (lv_at hl 7 rfl) ?_
    refine lv_iconst (v := 1) hx hb dX1_init_40 (by decide) ?_
    refine lv_icmp_eq (tgt := 50) hx hb dX1_init_41 (by decide) (fun c_32 => absurd c_32 (by decide)) (fun c_32 => ?_)
    refine lv_iload hx hb dX1_init_44 (lv_at hl 7 rfl) ?_
    refine lv_iconst (v := 3) hx hb dX1_init_46 (by decide) ?_
    refine lv_icmp_ne (tgt := 54) hx hb dX1_init_47 (by decide) (fun c_33 => absurd (rfl) c_33) (fun c_33 => ?_)
    refine lv_iconst (v := 1) hx hb dX1_init_50 (by decide) ?_
    refine lv_goto (tgt := 55) hx hb dX1_init_51 (by decide) ?_
    refine va_putF (D := D) (ci := 1) (v := .int 1) (ty := .boolean) (C := RX1) (T := TX1) (N := 8) hx hb hts (fun _ h9 => List.mem_cons_of_mem _ (List.mem_append_right _ h9)) tyX1 tyX1_ok nmX1 hown hK hP hD hS 0 rfl rfl 6 (by decide) (hts (.fieldLink RX1 28 "PalletStack$Kind" "canTurn" "Z") (List.mem_of_getElem? (i := 10) (by rfl))) (fun _ h9 => h9) rfl hin rfl (by decide +kernel) rfl rfl (Nat.le_of_ble_eq_true rfl) dX1_init_55 (fun H locs hP hD hS => ?_)
    have hP : va_P D vwCl ([(k0, .inr (1, [.int (nI n), .int (nI a1), .int (nI a2), .int (nI a3), .int (nI a4), .int (nI a5), .int 1, .int 0]))]) H := hP
    have hD : va_D A ([(k0, .inr (1, [.int (nI n), .int (nI a1), .int (nI a2), .int (nI a3), .int (nI a4), .int (nI a5), .int 1, .int 0]))]) := hD
    refine lv_aload_n hx hb dX1_init_58 rfl (lv_at hl 0 rfl) ?_
    refine lv_iload hx hb dX1_init_59 (lv_at hl 7 rfl) ?_
    refine lv_iconst (v := 2) hx hb dX1_init_61 (by decide) ?_
    refine lv_icmp_eq (tgt := 71) hx hb dX1_init_62 (by decide) (fun c_34 => absurd c_34 (by decide)) (fun c_34 => ?_)
    refine lv_iload hx hb dX1_init_65 (lv_at hl 7 rfl) ?_
    refine lv_iconst (v := 3) hx hb dX1_init_67 (by decide) ?_
    refine lv_icmp_ne (tgt := 75) hx hb dX1_init_68 (by decide) (fun c_35 => absurd (rfl) c_35) (fun c_35 => ?_)
    refine lv_iconst (v := 1) hx hb dX1_init_71 (by decide) ?_
    refine lv_goto (tgt := 76) hx hb dX1_init_72 (by decide) ?_
    refine va_putF (D := D) (ci := 1) (v := .int 1) (ty := .boolean) (C := RX1) (T := TX1) (N := 8) hx hb hts (fun _ h9 => List.mem_cons_of_mem _ (List.mem_append_right _ h9)) tyX1 tyX1_ok nmX1 hown hK hP hD hS 0 rfl rfl 7 (by decide) (hts (.fieldLink RX1 32 "PalletStack$Kind" "needsDeck" "Z") (List.mem_of_getElem? (i := 11) (by rfl))) (fun _ h9 => h9) rfl hin rfl (by decide +kernel) rfl rfl (Nat.le_of_ble_eq_true rfl) dX1_init_76 (fun H locs hP hD hS => ?_)
    have hP : va_P D vwCl ([(k0, .inr (1, [.int (nI n), .int (nI a1), .int (nI a2), .int (nI a3), .int (nI a4), .int (nI a5), .int 1, .int 1]))]) H := hP
    have hD : va_D A ([(k0, .inr (1, [.int (nI n), .int (nI a1), .int (nI a2), .int (nI a3), .int (nI a4), .int (nI a5), .int 1, .int 1]))]) := hD
    exact W.vret hx hb hr (fun t ht hW => ⟨⟨(), rfl, True.intro, ⟨Nat.zero_le _, by rw [ht]; exact hP, va_K.moved hW.alike (hK.sub (tys' := []) [] rfl), hD⟩⟩, hS.F ht⟩) hS.2.2 dX1_init_79
set_option maxHeartbeats 4000000 in
set_option maxRecDepth 100000 in
theorem c_Line_init (l : Launch) (D : zG) (sz : Nat) (h k0 x : Nat) : Met l yX2_init wsX2_init ({ frames := 1, cells := 0, slots := 0, locals := 16 }) (zPc D [] ([(h, .inr (2, [.null, .int 0, .int 0]))]) sz [.ref h, .ref k0, .int (nI x)]) (va_Qv (fun (u : Unit) => True) (zB D (va_A ([(h, .inr (2, [.null, .int 0, .int 0]))]) sz) (fun _ => []) 0 (fun _ => [(h, .inr (2, [.ref k0, .int (nI x), .int (nI 0)]))])) (va_A ([(h, .inr (2, [.null, .int 0, .int 0]))]) sz)) 0 0 (va_A ([(h, .inr (2, [.null, .int 0, .int 0]))]) sz) := by
  refine Met.ofW (cc := cX2_init) (maxL := 3) (ret := none) (by decide) rfl ?_
  intro p e s m args below meth c s₁ B hml hv
  obtain ⟨rfl, hsz, hP, hK, hD0⟩ := hv
  have hx := B.exec
  have hb := B.bytes
  have hr := B.returns
  have hts := atoms_spec (ws := wsX2_init) B.pre
  have hown : s.vm.findClass RX2 = some m.cls := findClass_of_methodNamed B.named
  have hlocks := B.notSynchronized
  have hin : meth.name = "<init>" := (name_of_methodNamed B.named B.method).1
  subst hsz
  have hD := hD0.self (sz := s.heap.size)
  generalize hAe : va_A ([(h, .inr (2, [.null, .int 0, .int 0]))]) s.heap.size = A at hD ⊢
  have hA : ∀ q : Nat, s.heap.size ≤ q → A q := fun q h => by rw [← hAe]; exact Or.inr h
  have hS : va_S A s.heap s.heap [] := va_S.rf
  have hl := lv_entry ([.ref h, .ref k0, .int (nI x)]) (n := 3) (Nat.le_of_ble_eq_true rfl)
  rw [lg_entry_eq]
  generalize (lg_sl ([.ref h, .ref k0, .int (nI x)]) ++ List.replicate (3 - (lg_sl ([.ref h, .ref k0, .int (nI x)])).length) Slot.unset).toArray = ls at hl ⊢
  have hl : lv_has ls 3 [(0, .ref h), (1, .ref k0), (2, .int (nI x))] := hl
  have hP : va_P D vwCl ([(h, .inr (2, [.null, .int 0, .int 0]))]) s.heap := hP
  generalize hRe : (headSpec _ _).room = R
  have hRf : R.frames = 1 := by rw [← hRe]; rfl
  have hRc : R.cells = 0 := by rw [← hRe]; rfl
  have hRs : R.slots = 0 := by rw [← hRe]; rfl
  have hRl : R.locals = 16 := by rw [← hRe]; rfl
  clear hRe
  refine lv_aload_n hx hb dX2_init_0 rfl (lv_at hl 0 rfl) ?_
  refine W.objInit hx hb hown (hts (.methodLink RX2 1 objectInit) (List.mem_of_getElem? (i := 1) (by rfl))) (hts (.instanceMethod objectInit) (List.mem_of_getElem? (i := 2) (by rfl))) (hts (.code objectInit ⟨#[0xb1]⟩ 1 none) (List.mem_of_getElem? (i := 3) (by rfl))) rfl (by rw [hml]; exact hl.1) rfl dX2_init_1 (by rw [hRf]; exact Nat.le_of_ble_eq_true rfl) (by rw [hRl]; exact Nat.le_of_ble_eq_true rfl) ?_
  refine W.eq (g2 := F0 m 4 ls []) rfl ?_
  refine lv_aload_n hx hb dX2_init_4 rfl (lv_at hl 0 rfl) ?_
  refine lv_iconst (v := 0) hx hb dX2_init_5 (by decide) ?_
  refine va_put (D := D) (ci := 2) (v := .int 0) (ty := .boolean) (C := RX2) (T := TX2) (N := 3) hx hb hts (fun _ h9 => List.mem_cons_of_mem _ (List.mem_append_right _ h9)) tyX2 tyX2_ok nmX2 hown hK hP hD hS 0 rfl rfl 2 (by decide) (hts (.fieldLink RX2 7 "PalletStack$Line" "isAside" "Z") (List.mem_of_getElem? (i := 4) (by rfl))) (fun _ h9 => h9) rfl (by decide +kernel) rfl rfl (Nat.le_of_ble_eq_true rfl) dX2_init_6 (fun H locs hP hD hS => ?_)
  have hP : va_P D vwCl ([(h, .inr (2, [.null, .int 0, .int 0]))]) H := hP
  have hD : va_D A ([(h, .inr (2, [.null, .int 0, .int 0]))]) := hD
  refine lv_aload_n hx hb dX2_init_9 rfl (lv_at hl 0 rfl) ?_
  refine lv_aload_n hx hb dX2_init_10 rfl (lv_at hl 1 rfl) ?_
  refine va_putF (D := D) (ci := 2) (v := .ref k0) (ty := .object "PalletStack$Kind") (C := RX2) (T := TX2) (N := 3) hx hb hts (fun _ h9 => List.mem_cons_of_mem _ (List.mem_append_right _ h9)) tyX2 tyX2_ok nmX2 hown hK hP hD hS 0 rfl rfl 0 (by decide) (hts (.fieldLink RX2 13 "PalletStack$Line" "kind" "LPalletStack$Kind;") (List.mem_of_getElem? (i := 5) (by rfl))) (fun _ h9 => h9) rfl hin rfl (by decide +kernel) rfl rfl (Nat.le_of_ble_eq_true rfl) dX2_init_11 (fun H locs hP hD hS => ?_)
  have hP : va_P D vwCl ([(h, .inr (2, [.ref k0, .int 0, .int 0]))]) H := hP
  have hD : va_D A ([(h, .inr (2, [.ref k0, .int 0, .int 0]))]) := hD
  refine lv_aload_n hx hb dX2_init_14 rfl (lv_at hl 0 rfl) ?_
  refine lv_iload_n hx hb dX2_init_15 rfl (lv_at hl 2 rfl) ?_
  refine va_put (D := D) (ci := 2) (v := .int (nI x)) (ty := .int) (C := RX2) (T := TX2) (N := 3) hx hb hts (fun _ h9 => List.mem_cons_of_mem _ (List.mem_append_right _ h9)) tyX2 tyX2_ok nmX2 hown hK hP hD hS 0 rfl rfl 1 (by decide) (hts (.fieldLink RX2 17 "PalletStack$Line" "count" "I") (List.mem_of_getElem? (i := 6) (by rfl))) (fun _ h9 => h9) rfl (by decide +kernel) rfl rfl (Nat.le_of_ble_eq_true rfl) dX2_init_16 (fun H locs hP hD hS => ?_)
  have hP : va_P D vwCl ([(h, .inr (2, [.ref k0, .int (nI x), .int 0]))]) H := hP
  have hD : va_D A ([(h, .inr (2, [.ref k0, .int (nI x), .int 0]))]) := hD
  exact W.vret hx hb hr (fun t ht hW => ⟨⟨(), rfl, True.intro, ⟨Nat.zero_le _, by rw [ht]; exact hP, va_K.moved hW.alike (hK.sub (tys' := []) [] rfl), hD⟩⟩, hS.F ht⟩) hS.2.2 dX2_init_19
