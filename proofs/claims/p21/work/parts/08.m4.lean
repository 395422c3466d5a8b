set_option maxHeartbeats 4000000 in
set_option maxRecDepth 100000 in
theorem c_Item_init (l : Launch) (D : zG) (sz : Nat) (h : Nat) : Met l yX0_init wsX0_init ({ frames := 1, cells := 2, slots := 72, locals := 16 }) (zPcK D [] ([(h, .inr (0, [.int 0, .int 0, .int 0, .int 0, .int 0, .int 0, .int 0, .int 0, .int 0, .int 0, .int 0, .int 0, .int 0, .int 0, .int 0, .int 0, .null, .null]))]) sz (va_AO RX0) [.ref h]) (va_Qv (fun (u : Nat × Nat) => True) (zB D (va_A ([(h, .inr (0, [.int 0, .int 0, .int 0, .int 0, .int 0, .int 0, .int 0, .int 0, .int 0, .int 0, .int 0, .int 0, .int 0, .int 0, .int 0, .int 0, .null, .null]))]) sz) (fun _ => []) 0 (fun u => [(h, .inr (0, [.int 0, .int 0, .int 0, .int 0, .int 0, .int 0, .int 0, .int 0, .int 0, .int 0, .int 0, .int 0, .int 0, .int 0, .int 0, .int 0, .ref u.1, .ref u.2]))])) (va_A ([(h, .inr (0, [.int 0, .int 0, .int 0, .int 0, .int 0, .int 0, .int 0, .int 0, .int 0, .int 0, .int 0, .int 0, .int 0, .int 0, .int 0, .int 0, .null, .null]))]) sz)) 2 72 (va_A ([(h, .inr (0, [.int 0, .int 0, .int 0, .int 0, .int 0, .int 0, .int 0, .int 0, .int 0, .int 0, .int 0, .int 0, .int 0, .int 0, .int 0, .int 0, .null, .null]))]) sz) := by
  refine Met.ofW (cc := cX0_init) (maxL := 1) (ret := none) (by decide) rfl ?_
  intro p e s m args below meth c s₁ B hml hv
  obtain ⟨rfl, ⟨hsz, hP, hK, hD0⟩, hKx⟩ := hv
  have hx := B.exec
  have hb := B.bytes
  have hr := B.returns
  have hts := atoms_spec (ws := wsX0_init) B.pre
  have hown : s.vm.findClass RX0 = some m.cls := findClass_of_methodNamed B.named
  have hlocks := B.notSynchronized
  have hin : meth.name = "<init>" := (name_of_methodNamed B.named B.method).1
  subst hsz
  have hD := hD0.self (sz := s.heap.size)
  generalize hAe : va_A ([(h, .inr (0, [.int 0, .int 0, .int 0, .int 0, .int 0, .int 0, .int 0, .int 0, .int 0, .int 0, .int 0, .int 0, .int 0, .int 0, .int 0, .int 0, .null, .null]))]) s.heap.size = A at hD ⊢
  have hA : ∀ q : Nat, s.heap.size ≤ q → A q := fun q h => by rw [← hAe]; exact Or.inr h
  have hS : va_S A s.heap s.heap [] := va_S.rf
  have hl := lv_entry ([.ref h]) (n := 1) (Nat.le_of_ble_eq_true rfl)
  rw [lg_entry_eq]
  generalize (lg_sl ([.ref h]) ++ List.replicate (1 - (lg_sl ([.ref h])).length) Slot.unset).toArray = ls at hl ⊢
  have hl : lv_has ls 1 [(0, .ref h)] := hl
  have hP : va_P D vwCl ([(h, .inr (0, [.int 0, .int 0, .int 0, .int 0, .int 0, .int 0, .int 0, .int 0, .int 0, .int 0, .int 0, .int 0, .int 0, .int 0, .int 0, .int 0, .null, .null]))]) s.heap := hP
  generalize hRe : (headSpec _ _).room = R
  have hRf : R.frames = 1 := by rw [← hRe]; rfl
  have hRc : R.cells = 2 := by rw [← hRe]; rfl
  have hRs : R.slots = 72 := by rw [← hRe]; rfl
  have hRl : R.locals = 16 := by rw [← hRe]; rfl
  clear hRe
  refine lv_aload_n hx hb dX0_init_0 rfl (lv_at hl 0 rfl) ?_
  refine W.objInit hx hb hown (hts (.methodLink RX0 3 objectInit) (List.mem_of_getElem? (i := 1) (by rfl))) (hts (.instanceMethod objectInit) (List.mem_of_getElem? (i := 2) (by rfl))) (hts (.code objectInit ⟨#[0xb1]⟩ 1 none) (List.mem_of_getElem? (i := 3) (by rfl))) rfl (by rw [hml]; exact hl.1) rfl dX0_init_1 (by rw [hRf]; exact Nat.le_of_ble_eq_true rfl) (by rw [hRl]; exact Nat.le_of_ble_eq_true rfl) ?_
  refine W.eq (g2 := F0 m 4 ls []) rfl ?_
  refine lv_aload_n hx hb dX0_init_4 rfl (lv_at hl 0 rfl) ?_
  refine lv_iconst (v := 0) hx hb dX0_init_5 (by decide) ?_
  refine va_put (D := D) (ci := 0) (v := .int 0) (ty := .int) (C := RX0) (T := TX0) (N := 18) hx hb hts (fun _ h9 => List.mem_cons_of_mem _ (List.mem_append_right _ h9)) tyX0 tyX0_ok nmX0 hown hK hP hD hS 0 rfl rfl 0 (by decide) (hts (.fieldLink RX0 9 "PalletStack$Item" "kind" "I") (List.mem_of_getElem? (i := 4) (by rfl))) (fun _ h9 => h9) rfl (by decide +kernel) rfl rfl (Nat.le_of_ble_eq_true rfl) dX0_init_6 (fun H locs hP hD hS => ?_)
  have hP : va_P D vwCl ([(h, .inr (0, [.int 0, .int 0, .int 0, .int 0, .int 0, .int 0, .int 0, .int 0, .int 0, .int 0, .int 0, .int 0, .int 0, .int 0, .int 0, .int 0, .null, .null]))]) H := hP
  have hD : va_D A ([(h, .inr (0, [.int 0, .int 0, .int 0, .int 0, .int 0, .int 0, .int 0, .int 0, .int 0, .int 0, .int 0, .int 0, .int 0, .int 0, .int 0, .int 0, .null, .null]))]) := hD
  refine lv_aload_n hx hb dX0_init_9 rfl (lv_at hl 0 rfl) ?_
  refine lv_iconst (v := 0) hx hb dX0_init_10 (by decide) ?_
  refine va_put (D := D) (ci := 0) (v := .int 0) (ty := .int) (C := RX0) (T := TX0) (N := 18) hx hb hts (fun _ h9 => List.mem_cons_of_mem _ (List.mem_append_right _ h9)) tyX0 tyX0_ok nmX0 hown hK hP hD hS 0 rfl rfl 1 (by decide) (hts (.fieldLink RX0 15 "PalletStack$Item" "weight" "I") (List.mem_of_getElem? (i := 5) (by rfl))) (fun _ h9 => h9) rfl (by decide +kernel) rfl rfl (Nat.le_of_ble_eq_true rfl) dX0_init_11 (fun H locs hP hD hS => ?_)
  have hP : va_P D vwCl ([(h, .inr (0, [.int 0, .int 0, .int 0, .int 0, .int 0, .int 0, .int 0, .int 0, .int 0, .int 0, .int 0, .int 0, .int 0, .int 0, .int 0, .int 0, .null, .null]))]) H := hP
  have hD : va_D A ([(h, .inr (0, [.int 0, .int 0, .int 0, .int 0, .int 0, .int 0, .int 0, .int 0, .int 0, .int 0, .int 0, .int 0, .int 0, .int 0, .int 0, .int 0, .null, .null]))]) := hD
  refine lv_aload_n hx hb dX0_init_14 rfl (lv_at hl 0 rfl) ?_
  refine lv_iconst (v := 0) hx hb dX0_init_15 (by decide) ?_
  refine va_put (D := D) (ci := 0) (v := .int 0) (ty := .int) (C := RX0) (T := TX0) (N := 18) hx hb hts (fun _ h9 => List.mem_cons_of_mem _ (List.mem_append_right _ h9)) tyX0 tyX0_ok nmX0 hown hK hP hD hS 0 rfl rfl 2 (by decide) (hts (.fieldLink RX0 18 "PalletStack$Item" "strength" "I") (List.mem_of_getElem? (i := 6) (by rfl))) (fun _ h9 => h9) rfl (by decide +kernel) rfl rfl (Nat.le_of_ble_eq_true rfl) dX0_init_16 (fun H locs hP hD hS => ?_)
  have hP : va_P D vwCl ([(h, .inr (0, [.int 0, .int 0, .int 0, .int 0, .int 0, .int 0, .int 0, .int 0, .int 0, .int 0, .int 0, .int 0, .int 0, .int 0, .int 0, .int 0, .null, .null]))]) H := hP
  have hD : va_D A ([(h, .inr (0, [.int 0, .int 0, .int 0, .int 0, .int 0, .int 0, .int 0, .int 0, .int 0, .int 0, .int 0, .int 0, .int 0, .int 0, .int 0, .int 0, .null, .null]))]) := hD
  refine lv_aload_n hx hb dX0_init_19 rfl (lv_at hl 0 rfl) ?_
  refine lv_iconst (v := 0) hx hb dX0_init_20 (by decide) ?_
  refine va_put (D := D) (ci := 0) (v := .int 0) (ty := .boolean) (C := RX0) (T := TX0) (N := 18) hx hb hts (fun _ h9 => List.mem_cons_of_mem _ (List.mem_append_right _ h9)) tyX0 tyX0_ok nmX0 hown hK hP hD hS 0 rfl rfl 3 (by decide) (hts (.fieldLink RX0 21 "PalletStack$Item" "isTurned" "Z") (List.mem_of_getElem? (i := 7) (by rfl))) (fun _ h9 => h9) rfl (by decide +kernel) rfl rfl (Nat.le_of_ble_eq_true rfl) dX0_init_21 (fun H locs hP hD hS => ?_)
  have hP : va_P D vwCl ([(h, .inr (0, [.int 0, .int 0, .int 0, .int 0, .int 0, .int 0, .int 0, .int 0, .int 0, .int 0, .int 0, .int 0, .int 0, .int 0, .int 0, .int 0, .null, .null]))]) H := hP
  have hD : va_D A ([(h, .inr (0, [.int 0, .int 0, .int 0, .int 0, .int 0, .int 0, .int 0, .int 0, .int 0, .int 0, .int 0, .int 0, .int 0, .int 0, .int 0, .int 0, .null, .null]))]) := hD
  refine lv_aload_n hx hb dX0_init_24 rfl (lv_at hl 0 rfl) ?_
  refine lv_iconst (v := 0) hx hb dX0_init_25 (by decide) ?_
  refine va_put (D := D) (ci := 0) (v := .int 0) (ty := .int) (C := RX0) (T := TX0) (N := 18) hx hb hts (fun _ h9 => List.mem_cons_of_mem _ (List.mem_append_right _ h9)) tyX0 tyX0_ok nmX0 hown hK hP hD hS 0 rfl rfl 4 (by decide) (hts (.fieldLink RX0 25 "PalletStack$Item" "width" "I") (List.mem_of_getElem? (i := 8) (by rfl))) (fun _ h9 => h9) rfl (by decide +kernel) rfl rfl (Nat.le_of_ble_eq_true rfl) dX0_init_26 (fun H locs hP hD hS => ?_)
  have hP : va_P D vwCl ([(h, .inr (0, [.int 0, .int 0, .int 0, .int 0, .int 0, .int 0, .int 0, .int 0, .int 0, .int 0, .int 0, .int 0, .int 0, .int 0, .int 0, .int 0, .null, .null]))]) H := hP
  have hD : va_D A ([(h, .inr (0, [.int 0, .int 0, .int 0, .int 0, .int 0, .int 0, .int 0, .int 0, .int 0, .int 0, .int 0, .int 0, .int 0, .int 0, .int 0, .int 0, .null, .null]))]) := hD
  refine lv_aload_n hx hb dX0_init_29 rfl (lv_at hl 0 rfl) ?_
  refine lv_iconst (v := 0) hx hb dX0_init_30 (by decide) ?_
  refine va_put (D := D) (ci := 0) (v := .int 0) (ty := .int) (C := RX0) (T := TX0) (N := 18) hx hb hts (fun _ h9 => List.mem_cons_of_mem _ (List.mem_append_right _ h9)) tyX0 tyX0_ok nmX0 hown hK hP hD hS 0 rfl rfl 5 (by decide) (hts (.fieldLink RX0 28 "PalletStack$Item" "depth" "I") (List.mem_of_getElem? (i := 9) (by rfl))) (fun _ h9 => h9) rfl (by decide +kernel) rfl rfl (Nat.le_of_ble_eq_true rfl) dX0_init_31 (fun H locs hP hD hS => ?_)
  have hP : va_P D vwCl ([(h, .inr (0, [.int 0, .int 0, .int 0, .int 0, .int 0, .int 0, .int 0, .int 0, .int 0, .int 0, .int 0, .int 0, .int 0, .int 0, .int 0, .int 0, .null, .null]))]) H := hP
  have hD : va_D A ([(h, .inr (0, [.int 0, .int 0, .int 0, .int 0, .int 0, .int 0, .int 0, .int 0, .int 0, .int 0, .int 0, .int 0, .int 0, .int 0, .int 0, .int 0, .null, .null]))]) := hD
  refine lv_aload_n hx hb dX0_init_34 rfl (lv_at hl 0 rfl) ?_
  refine lv_iconst (v := 0) hx hb dX0_init_35 (by decide) ?_
  refine va_put (D := D) (ci := 0) (v := .int 0) (ty := .int) (C := RX0) (T := TX0) (N := 18) hx hb hts (fun _ h9 => List.mem_cons_of_mem _ (List.mem_append_right _ h9)) tyX0 tyX0_ok nmX0 hown hK hP hD hS 0 rfl rfl 6 (by decide) (hts (.fieldLink RX0 31 "PalletStack$Item" "x" "I") (List.mem_of_getElem? (i := 10) (by rfl))) (fun _ h9 => h9) rfl (by decide +kernel) rfl rfl (Nat.le_of_ble_eq_true rfl) dX0_init_36 (fun H locs hP hD hS => ?_)
  have hP : va_P D vwCl ([(h, .inr (0, [.int 0, .int 0, .int 0, .int 0, .int 0, .int 0, .int 0, .int 0, .int 0, .int 0, .int 0, .int 0, .int 0, .int 0, .int 0, .int 0, .null, .null]))]) H := hP
  have hD : va_D A ([(h, .inr (0, [.int 0, .int 0, .int 0, .int 0, .int 0, .int 0, .int 0, .int 0, .int 0, .int 0, .int 0, .int 0, .int 0, .int 0, .int 0, .int 0, .null, .null]))]) := hD
  refine lv_aload_n hx hb dX0_init_39 rfl (lv_at hl 0 rfl) ?_
  refine lv_iconst (v := 0) hx hb dX0_init_40 (by decide) ?_
  refine va_put (D := D) (ci := 0) (v := .int 0) (ty := .int) (C := RX0) (T := TX0) (N := 18) hx hb hts (fun _ h9 => List.mem_cons_of_mem _ (List.mem_append_right _ h9)) tyX0 tyX0_ok nmX0 hown hK hP hD hS 0 rfl rfl 7 (by decide) (hts (.fieldLink RX0 34 "PalletStack$Item" "y" "I") (List.mem_of_getElem? (i := 11) (by rfl))) (fun _ h9 => h9) rfl (by decide +kernel) rfl rfl (Nat.le_of_ble_eq_true rfl) dX0_init_41 (fun H locs hP hD hS => ?_)
  have hP : va_P D vwCl ([(h, .inr (0, [.int 0, .int 0, .int 0, .int 0, .int 0, .int 0, .int 0, .int 0, .int 0, .int 0, .int 0, .int 0, .int 0, .int 0, .int 0, .int 0, .null, .null]))]) H := hP
  have hD : va_D A ([(h, .inr (0, [.int 0, .int 0, .int 0, .int 0, .int 0, .int 0, .int 0, .int 0, .int 0, .int 0, .int 0, .int 0, .int 0, .int 0, .int 0, .int 0, .null, .null]))]) := hD
  refine lv_aload_n hx hb dX0_init_44 rfl (lv_at hl 0 rfl) ?_
  refine lv_iconst (v := 0) hx hb dX0_init_45 (by decide) ?_
  refine va_put (D := D) (ci := 0) (v := .int 0) (ty := .int) (C := RX0) (T := TX0) (N := 18) hx hb hts (fun _ h9 => List.mem_cons_of_mem _ (List.mem_append_right _ h9)) tyX0 tyX0_ok nmX0 hown hK hP hD hS 0 rfl rfl 8 (by decide) (hts (.fieldLink RX0 37 "PalletStack$Item" "bottom" "I") (List.mem_of_getElem? (i := 12) (by rfl))) (fun _ h9 => h9) rfl (by decide +kernel) rfl rfl (Nat.le_of_ble_eq_true rfl) dX0_init_46 (fun H locs hP hD hS => ?_)
  have hP : va_P D vwCl ([(h, .inr (0, [.int 0, .int 0, .int 0, .int 0, .int 0, .int 0, .int 0, .int 0, .int 0, .int 0, .int 0, .int 0, .int 0, .int 0, .int 0, .int 0, .null, .null]))]) H := hP
  have hD : va_D A ([(h, .inr (0, [.int 0, .int 0, .int 0, .int 0, .int 0, .int 0, .int 0, .int 0, .int 0, .int 0, .int 0, .int 0, .int 0, .int 0, .int 0, .int 0, .null, .null]))]) := hD
  refine lv_aload_n hx hb dX0_init_49 rfl (lv_at hl 0 rfl) ?_
  refine lv_iconst (v := 0) hx hb dX0_init_50 (by decide) ?_
  refine va_put (D := D) (ci := 0) (v := .int 0) (ty := .int) (C := RX0) (T := TX0) (N := 18) hx hb hts (fun _ h9 => List.mem_cons_of_mem _ (List.mem_append_right _ h9)) tyX0 tyX0_ok nmX0 hown hK hP hD hS 0 rfl rfl 9 (by decide) (hts (.fieldLink RX0 40 "PalletStack$Item" "top" "I") (List.mem_of_getElem? (i := 13) (by rfl))) (fun _ h9 => h9) rfl (by decide +kernel) rfl rfl (Nat.le_of_ble_eq_true rfl) dX0_init_51 (fun H locs hP hD hS => ?_)
  have hP : va_P D vwCl ([(h, .inr (0, [.int 0, .int 0, .int 0, .int 0, .int 0, .int 0, .int 0, .int 0, .int 0, .int 0, .int 0, .int 0, .int 0, .int 0, .int 0, .int 0, .null, .null]))]) H := hP
  have hD : va_D A ([(h, .inr (0, [.int 0, .int 0, .int 0, .int 0, .int 0, .int 0, .int 0, .int 0, .int 0, .int 0, .int 0, .int 0, .int 0, .int 0, .int 0, .int 0, .null, .null]))]) := hD
  refine lv_aload_n hx hb dX0_init_54 rfl (lv_at hl 0 rfl) ?_
  refine lv_iconst (v := 0) hx hb dX0_init_55 (by decide) ?_
  refine va_put (D := D) (ci := 0) (v := .int 0) (ty := .int) (C := RX0) (T := TX0) (N := 18) hx hb hts (fun _ h9 => List.mem_cons_of_mem _ (List.mem_append_right _ h9)) tyX0 tyX0_ok nmX0 hown hK hP hD hS 0 rfl rfl 10 (by decide) (hts (.fieldLink RX0 43 "PalletStack$Item" "ground" "I") (List.mem_of_getElem? (i := 14) (by rfl))) (fun _ h9 => h9) rfl (by decide +kernel) rfl rfl (Nat.le_of_ble_eq_true rfl) dX0_init_56 (fun H locs hP hD hS => ?_)
  have hP : va_P D vwCl ([(h, .inr (0, [.int 0, .int 0, .int 0, .int 0, .int 0, .int 0, .int 0, .int 0, .int 0, .int 0, .int 0, .int 0, .int 0, .int 0, .int 0, .int 0, .null, .null]))]) H := hP
  have hD : va_D A ([(h, .inr (0, [.int 0, .int 0, .int 0, .int 0, .int 0, .int 0, .int 0, .int 0, .int 0, .int 0, .int 0, .int 0, .int 0, .int 0, .int 0, .int 0, .null, .null]))]) := hD
  refine lv_aload_n hx hb dX0_init_59 rfl (lv_at hl 0 rfl) ?_
  refine lv_iconst (v := 0) hx hb dX0_init_60 (by decide) ?_
  refine va_put (D := D) (ci := 0) (v := .int 0) (ty := .int) (C := RX0) (T := TX0) (N := 18) hx hb hts (fun _ h9 => List.mem_cons_of_mem _ (List.mem_append_right _ h9)) tyX0 tyX0_ok nmX0 hown hK hP hD hS 0 rfl rfl 11 (by decide) (hts (.fieldLink RX0 46 "PalletStack$Item" "load" "I") (List.mem_of_getElem? (i := 15) (by rfl))) (fun _ h9 => h9) rfl (by decide +kernel) rfl rfl (Nat.le_of_ble_eq_true rfl) dX0_init_61 (fun H locs hP hD hS => ?_)
  have hP : va_P D vwCl ([(h, .inr (0, [.int 0, .int 0, .int 0, .int 0, .int 0, .int 0, .int 0, .int 0, .int 0, .int 0, .int 0, .int 0, .int 0, .int 0, .int 0, .int 0, .null, .null]))]) H := hP
  have hD : va_D A ([(h, .inr (0, [.int 0, .int 0, .int 0, .int 0, .int 0, .int 0, .int 0, .int 0, .int 0, .int 0, .int 0, .int 0, .int 0, .int 0, .int 0, .int 0, .null, .null]))]) := hD
  refine lv_aload_n hx hb dX0_init_64 rfl (lv_at hl 0 rfl) ?_
  refine lv_iconst (v := 0) hx hb dX0_init_65 (by decide) ?_
  refine va_put (D := D) (ci := 0) (v := .int 0) (ty := .int) (C := RX0) (T := TX0) (N := 18) hx hb hts (fun _ h9 => List.mem_cons_of_mem _ (List.mem_append_right _ h9)) tyX0 tyX0_ok nmX0 hown hK hP hD hS 0 rfl rfl 12 (by decide) (hts (.fieldLink RX0 49 "PalletStack$Item" "nextLoad" "I") (List.mem_of_getElem? (i := 16) (by rfl))) (fun _ h9 => h9) rfl (by decide +kernel) rfl rfl (Nat.le_of_ble_eq_true rfl) dX0_init_66 (fun H locs hP hD hS => ?_)
  have hP : va_P D vwCl ([(h, .inr (0, [.int 0, .int 0, .int 0, .int 0, .int 0, .int 0, .int 0, .int 0, .int 0, .int 0, .int 0, .int 0, .int 0, .int 0, .int 0, .int 0, .null, .null]))]) H := hP
  have hD : va_D A ([(h, .inr (0, [.int 0, .int 0, .int 0, .int 0, .int 0, .int 0, .int 0, .int 0, .int 0, .int 0, .int 0, .int 0, .int 0, .int 0, .int 0, .int 0, .null, .null]))]) := hD
  refine lv_aload_n hx hb dX0_init_69 rfl (lv_at hl 0 rfl) ?_
  refine lv_iconst (v := 0) hx hb dX0_init_70 (by decide) ?_
  refine va_put (D := D) (ci := 0) (v := .int 0) (ty := .boolean) (C := RX0) (T := TX0) (N := 18) hx hb hts (fun _ h9 => List.mem_cons_of_mem _ (List.mem_append_right _ h9)) tyX0 tyX0_ok nmX0 hown hK hP hD hS 0 rfl rfl 13 (by decide) (hts (.fieldLink RX0 52 "PalletStack$Item" "isOnPallet" "Z") (List.mem_of_getElem? (i := 17) (by rfl))) (fun _ h9 => h9) rfl (by decide +kernel) rfl rfl (Nat.le_of_ble_eq_true rfl) dX0_init_71 (fun H locs hP hD hS => ?_)
  have hP : va_P D vwCl ([(h, .inr (0, [.int 0, .int 0, .int 0, .int 0, .int 0, .int 0, .int 0, .int 0, .int 0, .int 0, .int 0, .int 0, .int 0, .int 0, .int 0, .int 0, .null, .null]))]) H := hP
  have hD : va_D A ([(h, .inr (0, [.int 0, .int 0, .int 0, .int 0, .int 0, .int 0, .int 0, .int 0, .int 0, .int 0, .int 0, .int 0, .int 0, .int 0, .int 0, .int 0, .null, .null]))]) := hD
  refine lv_aload_n hx hb dX0_init_74 rfl (lv_at hl 0 rfl) ?_
  refine lv_iconst (v := 0) hx hb dX0_init_75 (by decide) ?_
  refine va_put (D := D) (ci := 0) (v := .int 0) (ty := .boolean) (C := RX0) (T := TX0) (N := 18) hx hb hts (fun _ h9 => List.mem_cons_of_mem _ (List.mem_append_right _ h9)) tyX0 tyX0_ok nmX0 hown hK hP hD hS 0 rfl rfl 14 (by decide) (hts (.fieldLink RX0 55 "PalletStack$Item" "isReached" "Z") (List.mem_of_getElem? (i := 18) (by rfl))) (fun _ h9 => h9) rfl (by decide +kernel) rfl rfl (Nat.le_of_ble_eq_true rfl) dX0_init_76 (fun H locs hP hD hS => ?_)
  have hP : va_P D vwCl ([(h, .inr (0, [.int 0, .int 0, .int 0, .int 0, .int 0, .int 0, .int 0, .int 0, .int 0, .int 0, .int 0, .int 0, .int 0, .int 0, .int 0, .int 0, .null, .null]))]) H := hP
  have hD : va_D A ([(h, .inr (0, [.int 0, .int 0, .int 0, .int 0, .int 0, .int 0, .int 0, .int 0, .int 0, .int 0, .int 0, .int 0, .int 0, .int 0, .int 0, .int 0, .null, .null]))]) := hD
  refine lv_aload_n hx hb dX0_init_79 rfl (lv_at hl 0 rfl) ?_
  refine lv_iconst (v := 0) hx hb dX0_init_80 (by decide) ?_
  refine va_put (D := D) (ci := 0) (v := .int 0) (ty := .int) (C := RX0) (T := TX0) (N := 18) hx hb hts (fun _ h9 => List.mem_cons_of_mem _ (List.mem_append_right _ h9)) tyX0 tyX0_ok nmX0 hown hK hP hD hS 0 rfl rfl 15 (by decide) (hts (.fieldLink RX0 58 "PalletStack$Item" "supportCount" "I") (List.mem_of_getElem? (i := 19) (by rfl))) (fun _ h9 => h9) rfl (by decide +kernel) rfl rfl (Nat.le_of_ble_eq_true rfl) dX0_init_81 (fun H locs hP hD hS => ?_)
  have hP : va_P D vwCl ([(h, .inr (0, [.int 0, .int 0, .int 0, .int 0, .int 0, .int 0, .int 0, .int 0, .int 0, .int 0, .int 0, .int 0, .int 0, .int 0, .int 0, .int 0, .null, .null]))]) H := hP
  have hD : va_D A ([(h, .inr (0, [.int 0, .int 0, .int 0, .int 0, .int 0, .int 0, .int 0, .int 0, .int 0, .int 0, .int 0, .int 0, .int 0, .int 0, .int 0, .int 0, .null, .null]))]) := hD
  refine lv_aload_n hx hb dX0_init_84 rfl (lv_at hl 0 rfl) ?_
  refine lv_bipush (v := 36) hx hb dX0_init_85 (by decide) ?_
  refine va_newq (C := RX0) (N' := 36) hx hb hown (hts (.classLink RX0 10 RX0) (List.mem_of_getElem? (i := 20) (by rfl))) (hKx) hK hP hD hS hA (by decide) rfl (Nat.le_of_ble_eq_true rfl) (by omega) (by omega) dX0_init_87 (fun q_117 cy_118 H hK hP hD hS => ?_)
  have hP : va_P D vwCl ([(h, .inr (0, [.int 0, .int 0, .int 0, .int 0, .int 0, .int 0, .int 0, .int 0, .int 0, .int 0, .int 0, .int 0, .int 0, .int 0, .int 0, .int 0, .null, .null])), (q_117, .inl (cy_118, 36, .inr (.inr (.inr (.inr (fun _ => none))))))]) H := hP
  have hD : va_D A ([(h, .inr (0, [.int 0, .int 0, .int 0, .int 0, .int 0, .int 0, .int 0, .int 0, .int 0, .int 0, .int 0, .int 0, .int 0, .int 0, .int 0, .int 0, .null, .null])), (q_117, .inl (cy_118, 36, .inr (.inr (.inr (.inr (fun _ => none))))))]) := hD
  refine va_putF (D := D) (ci := 0) (v := .ref q_117) (ty := .array (.object "PalletStack$Item")) (C := RX0) (T := TX0) (N := 18) hx hb hts (fun _ h9 => List.mem_cons_of_mem _ (List.mem_append_right _ h9)) tyX0 tyX0_ok nmX0 hown hK hP hD hS 0 rfl rfl 16 (by decide) (hts (.fieldLink RX0 61 "PalletStack$Item" "supports" "[LPalletStack$Item;") (List.mem_of_getElem? (i := 21) (by rfl))) (fun _ h9 => h9) rfl hin rfl (by decide +kernel) rfl rfl (Nat.le_of_ble_eq_true rfl) dX0_init_90 (fun H locs hP hD hS => ?_)
  have hP : va_P D vwCl ([(h, .inr (0, [.int 0, .int 0, .int 0, .int 0, .int 0, .int 0, .int 0, .int 0, .int 0, .int 0, .int 0, .int 0, .int 0, .int 0, .int 0, .int 0, .ref q_117, .null])), (q_117, .inl (cy_118, 36, .inr (.inr (.inr (.inr (fun _ => none))))))]) H := hP
  have hD : va_D A ([(h, .inr (0, [.int 0, .int 0, .int 0, .int 0, .int 0, .int 0, .int 0, .int 0, .int 0, .int 0, .int 0, .int 0, .int 0, .int 0, .int 0, .int 0, .ref q_117, .null])), (q_117, .inl (cy_118, 36, .inr (.inr (.inr (.inr (fun _ => none))))))]) := hD
  refine lv_aload_n hx hb dX0_init_93 rfl (lv_at hl 0 rfl) ?_
  refine lv_bipush (v := 36) hx hb dX0_init_94 (by decide) ?_
  refine znewa (atype := .int) (ty := .int) (N' := 36) (a0 := (36, .inl (fun _ => 0))) hx hb (hts (.arrayClass .int) (List.mem_of_getElem? (i := 22) (by rfl))) rfl hK hP hD hS hA (fun _ => rfl) (by decide) rfl (Nat.le_of_ble_eq_true rfl) (by omega) (by omega) dX0_init_96 (fun q_119 cy_120 H hz_121 hK hP hD hS => ?_)
  have hP : va_P D vwCl ([(h, .inr (0, [.int 0, .int 0, .int 0, .int 0, .int 0, .int 0, .int 0, .int 0, .int 0, .int 0, .int 0, .int 0, .int 0, .int 0, .int 0, .int 0, .ref q_117, .null])), (q_117, .inl (cy_118, 36, .inr (.inr (.inr (.inr (fun _ => none)))))), (q_119, .inl (cy_120, 36, .inl (fun _ => 0)))]) H := hP
  have hD : va_D A ([(h, .inr (0, [.int 0, .int 0, .int 0, .int 0, .int 0, .int 0, .int 0, .int 0, .int 0, .int 0, .int 0, .int 0, .int 0, .int 0, .int 0, .int 0, .ref q_117, .null])), (q_117, .inl (cy_118, 36, .inr (.inr (.inr (.inr (fun _ => none)))))), (q_119, .inl (cy_120, 36, .inl (fun _ => 0)))]) := hD
  refine va_putF (D := D) (ci := 0) (v := .ref q_119) (ty := .array .int) (C := RX0) (T := TX0) (N := 18) hx hb hts (fun _ h9 => List.mem_cons_of_mem _ (List.mem_append_right _ h9)) tyX0 tyX0_ok nmX0 hown hK hP hD hS 0 rfl rfl 17 (by decide) (hts (.fieldLink RX0 65 "PalletStack$Item" "supportCells" "[I") (List.mem_of_getElem? (i := 23) (by rfl))) (fun _ h9 => h9) rfl hin rfl (by decide +kernel) rfl rfl (Nat.le_of_ble_eq_true rfl) dX0_init_98 (fun H locs hP hD hS => ?_)
  have hP : va_P D vwCl ([(h, .inr (0, [.int 0, .int 0, .int 0, .int 0, .int 0, .int 0, .int 0, .int 0, .int 0, .int 0, .int 0, .int 0, .int 0, .int 0, .int 0, .int 0, .ref q_117, .ref q_119])), (q_117, .inl (cy_118, 36, .inr (.inr (.inr (.inr (fun _ => none)))))), (q_119, .inl (cy_120, 36, .inl (fun _ => 0)))]) H := hP
  have hD : va_D A ([(h, .inr (0, [.int 0, .int 0, .int 0, .int 0, .int 0, .int 0, .int 0, .int 0, .int 0, .int 0, .int 0, .int 0, .int 0, .int 0, .int 0, .int 0, .ref q_117, .ref q_119])), (q_117, .inl (cy_118, 36, .inr (.inr (.inr (.inr (fun _ => none)))))), (q_119, .inl (cy_120, 36, .inl (fun _ => 0)))]) := hD
  have hP := hP.sub (ws' := [(h, .inr (0, [.int 0, .int 0, .int 0, .int 0, .int 0, .int 0, .int 0, .int 0, .int 0, .int 0, .int 0, .int 0, .int 0, .int 0, .int 0, .int 0, .ref q_117, .ref q_119]))]) [0] rfl
  have hD := hD.sub (ws' := [(h, .inr (0, [.int 0, .int 0, .int 0, .int 0, .int 0, .int 0, .int 0, .int 0, .int 0, .int 0, .int 0, .int 0, .int 0, .int 0, .int 0, .int 0, .ref q_117, .ref q_119]))]) [0] (by decide) rfl
  refine W.widen (k := 2) (n := 72) (by omega) (by omega) ?_
  exact W.vret hx hb hr (fun t ht hW => ⟨⟨(q_117, q_119), rfl, True.intro, ⟨Nat.zero_le _, by rw [ht]; exact hP, va_K.moved hW.alike (hK.sub (tys' := []) [] rfl), hD⟩⟩, hS.F ht⟩) hS.2.2 dX0_init_101
set_option maxHeartbeats 4000000 in
set_option maxRecDepth 100000 in
theorem c_PS_init (l : Launch) (D : zG) (sz : Nat) (o : Nat) : Met l yX3_init wsX3_init ({ frames := 2, cells := 187, slots := 5700, locals := 60 }) (zPcK D [] ([(o, .inr (3, [.null, .int 0, .int 0, .int 0, .int 0, .int 0, .null, .int 0, .int 0, .int 0, .null, .null, .null, .int 0]))]) sz ((fun U => va_AO RX0 U ∧ va_AO RX1 U ∧ va_AO RX2 U ∧ va_Nw (.methodLinkNest RX3 51 yX0_init "PalletStack") U)) [.ref o]) (va_Qv (fun (u : (Nat → Nat) × (Nat → ClassId)) => True) (zB D (va_A ([(o, .inr (3, [.null, .int 0, .int 0, .int 0, .int 0, .int 0, .null, .int 0, .int 0, .int 0, .null, .null, .null, .int 0]))]) sz) (fun u => [((u.2 0), .object RX1), ((u.2 1), .int), ((u.2 2), .object RX2)]) 0 (fun u => [(o, .inr (3, [.ref (u.1 0), .int 0, .int 20, .int 60, .int 2000, .int 0, .ref (u.1 1), .int 0, .int 0, .int 0, .ref (u.1 2), .ref (u.1 3), .ref (u.1 4), .int 0])), ((u.1 0), .inl ((u.2 0), 10, .inr (.inr (.inr (.inr (fun _ => none)))))), ((u.1 2), .inl ((u.2 1), 120, .inl (fun _ => 0))), ((u.1 3), .inr (0, [.int 0, .int 0, .int 0, .int 0, .int 0, .int 0, .int 0, .int 0, .int 0, .int 0, .int 0, .int 0, .int 0, .int 0, .int 0, .int 0, .ref (u.1 5), .ref (u.1 6)])), ((u.1 4), .inl ((u.2 2), 20, .inr (.inr (.inr (.inr (fun _ => none))))))])) (va_A ([(o, .inr (3, [.null, .int 0, .int 0, .int 0, .int 0, .int 0, .null, .int 0, .int 0, .int 0, .null, .null, .null, .int 0]))]) sz)) 187 5700 (va_A ([(o, .inr (3, [.null, .int 0, .int 0, .int 0, .int 0, .int 0, .null, .int 0, .int 0, .int 0, .null, .null, .null, .int 0]))]) sz) := by
  refine Met.ofW (cc := cX3_init) (maxL := 2) (ret := none) (by decide) rfl ?_
  intro p e s m args below meth c s₁ B hml hv
  obtain ⟨rfl, ⟨hsz, hP, hK, hD0⟩, hKx⟩ := hv
  have hx := B.exec
  have hb := B.bytes
  have hr := B.returns
  have hts := atoms_spec (ws := wsX3_init) B.pre
  have hown : s.vm.findClass RX3 = some m.cls := findClass_of_methodNamed B.named
  have hlocks := B.notSynchronized
  have hin : meth.name = "<init>" := (name_of_methodNamed B.named B.method).1
  subst hsz
  have hD := hD0.self (sz := s.heap.size)
  generalize hAe : va_A ([(o, .inr (3, [.null, .int 0, .int 0, .int 0, .int 0, .int 0, .null, .int 0, .int 0, .int 0, .null, .null, .null, .int 0]))]) s.heap.size = A at hD ⊢
  have hA : ∀ q : Nat, s.heap.size ≤ q → A q := fun q h => by rw [← hAe]; exact Or.inr h
  have hS : va_S A s.heap s.heap [] := va_S.rf
  have hl := lv_entry ([.ref o]) (n := 2) (Nat.le_of_ble_eq_true rfl)
  rw [lg_entry_eq]
  generalize (lg_sl ([.ref o]) ++ List.replicate (2 - (lg_sl ([.ref o])).length) Slot.unset).toArray = ls at hl ⊢
  have hl : lv_has ls 2 [(0, .ref o)] := hl
  have hP : va_P D vwCl ([(o, .inr (3, [.null, .int 0, .int 0, .int 0, .int 0, .int 0, .null, .int 0, .int 0, .int 0, .null, .null, .null, .int 0]))]) s.heap := hP
  generalize hRe : (headSpec _ _).room = R
  have hRf : R.frames = 2 := by rw [← hRe]; rfl
  have hRc : R.cells = 187 := by rw [← hRe]; rfl
  have hRs : R.slots = 5700 := by rw [← hRe]; rfl
  have hRl : R.locals = 60 := by rw [← hRe]; rfl
  clear hRe
  obtain ⟨hK0, hK1, hK2, hKn⟩ := hKx
  refine lv_aload_n hx hb dX3_init_0 rfl (lv_at hl 0 rfl) ?_
  refine W.objInit hx hb hown (hts (.methodLink RX3 3 objectInit) (List.mem_of_getElem? (i := 1) (by rfl))) (hts (.instanceMethod objectInit) (List.mem_of_getElem? (i := 2) (by rfl))) (hts (.code objectInit ⟨#[0xb1]⟩ 1 none) (List.mem_of_getElem? (i := 3) (by rfl))) rfl (by rw [hml]; exact hl.1) rfl dX3_init_1 (by rw [hRf]; exact Nat.le_of_ble_eq_true rfl) (by rw [hRl]; exact Nat.le_of_ble_eq_true rfl) ?_
  refine W.eq (g2 := F0 m 4 ls []) rfl ?_
  refine lv_aload_n hx hb dX3_init_4 rfl (lv_at hl 0 rfl) ?_
  refine lv_bipush (v := 10) hx hb dX3_init_5 (by decide) ?_
  refine va_newq (C := RX1) (N' := 10) hx hb hown (hts (.classLink RX3 9 RX1) (List.mem_of_getElem? (i := 4) (by rfl))) (hK1) hK hP hD hS hA (by decide) rfl (Nat.le_of_ble_eq_true rfl) (by omega) (by omega) dX3_init_7 (fun q_122 cy_123 H hK hP hD hS => ?_)
  have hP : va_P D vwCl ([(o, .inr (3, [.null, .int 0, .int 0, .int 0, .int 0, .int 0, .null, .int 0, .int 0, .int 0, .null, .null, .null, .int 0])), (q_122, .inl (cy_123, 10, .inr (.inr (.inr (.inr (fun _ => none))))))]) H := hP
  have hD : va_D A ([(o, .inr (3, [.null, .int 0, .int 0, .int 0, .int 0, .int 0, .null, .int 0, .int 0, .int 0, .null, .null, .null, .int 0])), (q_122, .inl (cy_123, 10, .inr (.inr (.inr (.inr (fun _ => none))))))]) := hD
  refine va_putF (D := D) (ci := 3) (v := .ref q_122) (ty := .array (.object "PalletStack$Kind")) (C := RX3) (T := TX3) (N := 14) hx hb hts (fun _ h9 => List.mem_cons_of_mem _ (List.mem_append_left _ (List.mem_append_right _ h9))) tyX3 tyX3_ok nmX3 hown hK hP hD hS 0 rfl rfl 0 (by decide) (hts (.fieldLink RX3 11 "PalletStack" "kinds" "[LPalletStack$Kind;") (List.mem_of_getElem? (i := 5) (by rfl))) (fun _ h9 => h9) rfl hin rfl (by decide +kernel) rfl rfl (Nat.le_of_ble_eq_true rfl) dX3_init_10 (fun H locs hP hD hS => ?_)
  have hP : va_P D vwCl ([(o, .inr (3, [.ref q_122, .int 0, .int 0, .int 0, .int 0, .int 0, .null, .int 0, .int 0, .int 0, .null, .null, .null, .int 0])), (q_122, .inl (cy_123, 10, .inr (.inr (.inr (.inr (fun _ => none))))))]) H := hP
  have hD : va_D A ([(o, .inr (3, [.ref q_122, .int 0, .int 0, .int 0, .int 0, .int 0, .null, .int 0, .int 0, .int 0, .null, .null, .null, .int 0])), (q_122, .inl (cy_123, 10, .inr (.inr (.inr (.inr (fun _ => none))))))]) := hD
  refine lv_aload_n hx hb dX3_init_13 rfl (lv_at hl 0 rfl) ?_
  refine lv_iconst (v := 0) hx hb dX3_init_14 (by decide) ?_
  refine va_put (D := D) (ci := 3) (v := .int 0) (ty := .int) (C := RX3) (T := TX3) (N := 14) hx hb hts (fun _ h9 => List.mem_cons_of_mem _ (List.mem_append_left _ (List.mem_append_right _ h9))) tyX3 tyX3_ok nmX3 hown hK hP hD hS 0 rfl rfl 1 (by decide) (hts (.fieldLink RX3 15 "PalletStack" "kindCount" "I") (List.mem_of_getElem? (i := 6) (by rfl))) (fun _ h9 => h9) rfl (by decide +kernel) rfl rfl (Nat.le_of_ble_eq_true rfl) dX3_init_15 (fun H locs hP hD hS => ?_)
  have hP : va_P D vwCl ([(o, .inr (3, [.ref q_122, .int 0, .int 0, .int 0, .int 0, .int 0, .null, .int 0, .int 0, .int 0, .null, .null, .null, .int 0])), (q_122, .inl (cy_123, 10, .inr (.inr (.inr (.inr (fun _ => none))))))]) H := hP
  have hD : va_D A ([(o, .inr (3, [.ref q_122, .int 0, .int 0, .int 0, .int 0, .int 0, .null, .int 0, .int 0, .int 0, .null, .null, .null, .int 0])), (q_122, .inl (cy_123, 10, .inr (.inr (.inr (.inr (fun _ => none))))))]) := hD
  refine lv_aload_n hx hb dX3_init_18 rfl (lv_at hl 0 rfl) ?_
  refine lv_bipush (v := 20) hx hb dX3_init_19 (by decide) ?_
  refine va_put (D := D) (ci := 3) (v := .int 20) (ty := .int) (C := RX3) (T := TX3) (N := 14) hx hb hts (fun _ h9 => List.mem_cons_of_mem _ (List.mem_append_left _ (List.mem_append_right _ h9))) tyX3 tyX3_ok nmX3 hown hK hP hD hS 0 rfl rfl 2 (by decide) (hts (.fieldLink RX3 19 "PalletStack" "greatestHeight" "I") (List.mem_of_getElem? (i := 7) (by rfl))) (fun _ h9 => h9) rfl (by decide +kernel) rfl rfl (Nat.le_of_ble_eq_true rfl) dX3_init_21 (fun H locs hP hD hS => ?_)
  have hP : va_P D vwCl ([(o, .inr (3, [.ref q_122, .int 0, .int 20, .int 0, .int 0, .int 0, .null, .int 0, .int 0, .int 0, .null, .null, .null, .int 0])), (q_122, .inl (cy_123, 10, .inr (.inr (.inr (.inr (fun _ => none))))))]) H := hP
  have hD : va_D A ([(o, .inr (3, [.ref q_122, .int 0, .int 20, .int 0, .int 0, .int 0, .null, .int 0, .int 0, .int 0, .null, .null, .null, .int 0])), (q_122, .inl (cy_123, 10, .inr (.inr (.inr (.inr (fun _ => none))))))]) := hD
  refine lv_aload_n hx hb dX3_init_24 rfl (lv_at hl 0 rfl) ?_
  refine lv_bipush (v := 60) hx hb dX3_init_25 (by decide) ?_
  refine va_put (D := D) (ci := 3) (v := .int 60) (ty := .int) (C := RX3) (T := TX3) (N := 14) hx hb hts (fun _ h9 => List.mem_cons_of_mem _ (List.mem_append_left _ (List.mem_append_right _ h9))) tyX3 tyX3_ok nmX3 hown hK hP hD hS 0 rfl rfl 3 (by decide) (hts (.fieldLink RX3 22 "PalletStack" "support" "I") (List.mem_of_getElem? (i := 8) (by rfl))) (fun _ h9 => h9) rfl (by decide +kernel) rfl rfl (Nat.le_of_ble_eq_true rfl) dX3_init_27 (fun H locs hP hD hS => ?_)
  have hP : va_P D vwCl ([(o, .inr (3, [.ref q_122, .int 0, .int 20, .int 60, .int 0, .int 0, .null, .int 0, .int 0, .int 0, .null, .null, .null, .int 0])), (q_122, .inl (cy_123, 10, .inr (.inr (.inr (.inr (fun _ => none))))))]) H := hP
  have hD : va_D A ([(o, .inr (3, [.ref q_122, .int 0, .int 20, .int 60, .int 0, .int 0, .null, .int 0, .int 0, .int 0, .null, .null, .null, .int 0])), (q_122, .inl (cy_123, 10, .inr (.inr (.inr (.inr (fun _ => none))))))]) := hD
  refine lv_aload_n hx hb dX3_init_30 rfl (lv_at hl 0 rfl) ?_
  refine lv_sipush (v := 2000) hx hb dX3_init_31 (by decide) ?_
  refine va_put (D := D) (ci := 3) (v := .int 2000) (ty := .int) (C := RX3) (T := TX3) (N := 14) hx hb hts (fun _ h9 => List.mem_cons_of_mem _ (List.mem_append_left _ (List.mem_append_right _ h9))) tyX3 tyX3_ok nmX3 hown hK hP hD hS 0 rfl rfl 4 (by decide) (hts (.fieldLink RX3 25 "PalletStack" "limit" "I") (List.mem_of_getElem? (i := 9) (by rfl))) (fun _ h9 => h9) rfl (by decide +kernel) rfl rfl (Nat.le_of_ble_eq_true rfl) dX3_init_34 (fun H locs hP hD hS => ?_)
  have hP : va_P D vwCl ([(o, .inr (3, [.ref q_122, .int 0, .int 20, .int 60, .int 2000, .int 0, .null, .int 0, .int 0, .int 0, .null, .null, .null, .int 0])), (q_122, .inl (cy_123, 10, .inr (.inr (.inr (.inr (fun _ => none))))))]) H := hP
  have hD : va_D A ([(o, .inr (3, [.ref q_122, .int 0, .int 20, .int 60, .int 2000, .int 0, .null, .int 0, .int 0, .int 0, .null, .null, .null, .int 0])), (q_122, .inl (cy_123, 10, .inr (.inr (.inr (.inr (fun _ => none))))))]) := hD
  refine lv_aload_n hx hb dX3_init_37 rfl (lv_at hl 0 rfl) ?_
  refine lv_iconst (v := 0) hx hb dX3_init_38 (by decide) ?_
  refine va_put (D := D) (ci := 3) (v := .int 0) (ty := .boolean) (C := RX3) (T := TX3) (N := 14) hx hb hts (fun _ h9 => List.mem_cons_of_mem _ (List.mem_append_left _ (List.mem_append_right _ h9))) tyX3 tyX3_ok nmX3 hown hK hP hD hS 0 rfl rfl 5 (by decide) (hts (.fieldLink RX3 28 "PalletStack" "hasCornerRule" "Z") (List.mem_of_getElem? (i := 10) (by rfl))) (fun _ h9 => h9) rfl (by decide +kernel) rfl rfl (Nat.le_of_ble_eq_true rfl) dX3_init_39 (fun H locs hP hD hS => ?_)
  have hP : va_P D vwCl ([(o, .inr (3, [.ref q_122, .int 0, .int 20, .int 60, .int 2000, .int 0, .null, .int 0, .int 0, .int 0, .null, .null, .null, .int 0])), (q_122, .inl (cy_123, 10, .inr (.inr (.inr (.inr (fun _ => none))))))]) H := hP
  have hD : va_D A ([(o, .inr (3, [.ref q_122, .int 0, .int 20, .int 60, .int 2000, .int 0, .null, .int 0, .int 0, .int 0, .null, .null, .null, .int 0])), (q_122, .inl (cy_123, 10, .inr (.inr (.inr (.inr (fun _ => none))))))]) := hD
  refine lv_aload_n hx hb dX3_init_42 rfl (lv_at hl 0 rfl) ?_
  refine lv_bipush (v := 60) hx hb dX3_init_43 (by decide) ?_
  refine va_newq (C := RX0) (N' := 60) hx hb hown (hts (.classLink RX3 32 RX0) (List.mem_of_getElem? (i := 11) (by rfl))) (hK0) hK hP hD hS hA (by decide) rfl (Nat.le_of_ble_eq_true rfl) (by omega) (by omega) dX3_init_45 (fun q_124 cy_125 H hK hP hD hS => ?_)
  have hP : va_P D vwCl ([(o, .inr (3, [.ref q_122, .int 0, .int 20, .int 60, .int 2000, .int 0, .null, .int 0, .int 0, .int 0, .null, .null, .null, .int 0])), (q_122, .inl (cy_123, 10, .inr (.inr (.inr (.inr (fun _ => none)))))), (q_124, .inl (cy_125, 60, .inr (.inr (.inr (.inr (fun _ => none))))))]) H := hP
  have hD : va_D A ([(o, .inr (3, [.ref q_122, .int 0, .int 20, .int 60, .int 2000, .int 0, .null, .int 0, .int 0, .int 0, .null, .null, .null, .int 0])), (q_122, .inl (cy_123, 10, .inr (.inr (.inr (.inr (fun _ => none)))))), (q_124, .inl (cy_125, 60, .inr (.inr (.inr (.inr (fun _ => none))))))]) := hD
  refine va_putF (D := D) (ci := 3) (v := .ref q_124) (ty := .array (.object "PalletStack$Item")) (C := RX3) (T := TX3) (N := 14) hx hb hts (fun _ h9 => List.mem_cons_of_mem _ (List.mem_append_left _ (List.mem_append_right _ h9))) tyX3 tyX3_ok nmX3 hown hK hP hD hS 0 rfl rfl 6 (by decide) (hts (.fieldLink RX3 34 "PalletStack" "items" "[LPalletStack$Item;") (List.mem_of_getElem? (i := 12) (by rfl))) (fun _ h9 => h9) rfl hin rfl (by decide +kernel) rfl rfl (Nat.le_of_ble_eq_true rfl) dX3_init_48 (fun H locs hP hD hS => ?_)
  have hP : va_P D vwCl ([(o, .inr (3, [.ref q_122, .int 0, .int 20, .int 60, .int 2000, .int 0, .ref q_124, .int 0, .int 0, .int 0, .null, .null, .null, .int 0])), (q_122, .inl (cy_123, 10, .inr (.inr (.inr (.inr (fun _ => none)))))), (q_124, .inl (cy_125, 60, .inr (.inr (.inr (.inr (fun _ => none))))))]) H := hP
  have hD : va_D A ([(o, .inr (3, [.ref q_122, .int 0, .int 20, .int 60, .int 2000, .int 0, .ref q_124, .int 0, .int 0, .int 0, .null, .null, .null, .int 0])), (q_122, .inl (cy_123, 10, .inr (.inr (.inr (.inr (fun _ => none)))))), (q_124, .inl (cy_125, 60, .inr (.inr (.inr (.inr (fun _ => none))))))]) := hD
  refine lv_aload_n hx hb dX3_init_51 rfl (lv_at hl 0 rfl) ?_
  refine lv_iconst (v := 0) hx hb dX3_init_52 (by decide) ?_
  refine va_put (D := D) (ci := 3) (v := .int 0) (ty := .int) (C := RX3) (T := TX3) (N := 14) hx hb hts (fun _ h9 => List.mem_cons_of_mem _ (List.mem_append_left _ (List.mem_append_right _ h9))) tyX3 tyX3_ok nmX3 hown hK hP hD hS 0 rfl rfl 7 (by decide) (hts (.fieldLink RX3 38 "PalletStack" "cameCount" "I") (List.mem_of_getElem? (i := 13) (by rfl))) (fun _ h9 => h9) rfl (by decide +kernel) rfl rfl (Nat.le_of_ble_eq_true rfl) dX3_init_53 (fun H locs hP hD hS => ?_)
  have hP : va_P D vwCl ([(o, .inr (3, [.ref q_122, .int 0, .int 20, .int 60, .int 2000, .int 0, .ref q_124, .int 0, .int 0, .int 0, .null, .null, .null, .int 0])), (q_122, .inl (cy_123, 10, .inr (.inr (.inr (.inr (fun _ => none)))))), (q_124, .inl (cy_125, 60, .inr (.inr (.inr (.inr (fun _ => none))))))]) H := hP
  have hD : va_D A ([(o, .inr (3, [.ref q_122, .int 0, .int 20, .int 60, .int 2000, .int 0, .ref q_124, .int 0, .int 0, .int 0, .null, .null, .null, .int 0])), (q_122, .inl (cy_123, 10, .inr (.inr (.inr (.inr (fun _ => none)))))), (q_124, .inl (cy_125, 60, .inr (.inr (.inr (.inr (fun _ => none))))))]) := hD
  refine lv_aload_n hx hb dX3_init_56 rfl (lv_at hl 0 rfl) ?_
  refine lv_iconst (v := 0) hx hb dX3_init_57 (by decide) ?_
  refine va_put (D := D) (ci := 3) (v := .int 0) (ty := .int) (C := RX3) (T := TX3) (N := 14) hx hb hts (fun _ h9 => List.mem_cons_of_mem _ (List.mem_append_left _ (List.mem_append_right _ h9))) tyX3 tyX3_ok nmX3 hown hK hP hD hS 0 rfl rfl 8 (by decide) (hts (.fieldLink RX3 41 "PalletStack" "onPalletCount" "I") (List.mem_of_getElem? (i := 14) (by rfl))) (fun _ h9 => h9) rfl (by decide +kernel) rfl rfl (Nat.le_of_ble_eq_true rfl) dX3_init_58 (fun H locs hP hD hS => ?_)
  have hP : va_P D vwCl ([(o, .inr (3, [.ref q_122, .int 0, .int 20, .int 60, .int 2000, .int 0, .ref q_124, .int 0, .int 0, .int 0, .null, .null, .null, .int 0])), (q_122, .inl (cy_123, 10, .inr (.inr (.inr (.inr (fun _ => none)))))), (q_124, .inl (cy_125, 60, .inr (.inr (.inr (.inr (fun _ => none))))))]) H := hP
  have hD : va_D A ([(o, .inr (3, [.ref q_122, .int 0, .int 20, .int 60, .int 2000, .int 0, .ref q_124, .int 0, .int 0, .int 0, .null, .null, .null, .int 0])), (q_122, .inl (cy_123, 10, .inr (.inr (.inr (.inr (fun _ => none)))))), (q_124, .inl (cy_125, 60, .inr (.inr (.inr (.inr (fun _ => none))))))]) := hD
  refine lv_aload_n hx hb dX3_init_61 rfl (lv_at hl 0 rfl) ?_
  refine lv_iconst (v := 0) hx hb dX3_init_62 (by decide) ?_
  refine va_put (D := D) (ci := 3) (v := .int 0) (ty := .int) (C := RX3) (T := TX3) (N := 14) hx hb hts (fun _ h9 => List.mem_cons_of_mem _ (List.mem_append_left _ (List.mem_append_right _ h9))) tyX3 tyX3_ok nmX3 hown hK hP hD hS 0 rfl rfl 9 (by decide) (hts (.fieldLink RX3 44 "PalletStack" "weightOnPallet" "I") (List.mem_of_getElem? (i := 15) (by rfl))) (fun _ h9 => h9) rfl (by decide +kernel) rfl rfl (Nat.le_of_ble_eq_true rfl) dX3_init_63 (fun H locs hP hD hS => ?_)
  have hP : va_P D vwCl ([(o, .inr (3, [.ref q_122, .int 0, .int 20, .int 60, .int 2000, .int 0, .ref q_124, .int 0, .int 0, .int 0, .null, .null, .null, .int 0])), (q_122, .inl (cy_123, 10, .inr (.inr (.inr (.inr (fun _ => none)))))), (q_124, .inl (cy_125, 60, .inr (.inr (.inr (.inr (fun _ => none))))))]) H := hP
  have hD : va_D A ([(o, .inr (3, [.ref q_122, .int 0, .int 20, .int 60, .int 2000, .int 0, .ref q_124, .int 0, .int 0, .int 0, .null, .null, .null, .int 0])), (q_122, .inl (cy_123, 10, .inr (.inr (.inr (.inr (fun _ => none)))))), (q_124, .inl (cy_125, 60, .inr (.inr (.inr (.inr (fun _ => none))))))]) := hD
  refine lv_aload_n hx hb dX3_init_66 rfl (lv_at hl 0 rfl) ?_
  refine lv_bipush (v := 120) hx hb dX3_init_67 (by decide) ?_
  refine znewa (atype := .int) (ty := .int) (N' := 120) (a0 := (120, .inl (fun _ => 0))) hx hb (hts (.arrayClass .int) (List.mem_of_getElem? (i := 16) (by rfl))) rfl hK hP hD hS hA (fun _ => rfl) (by decide) rfl (Nat.le_of_ble_eq_true rfl) (by omega) (by omega) dX3_init_69 (fun q_126 cy_127 H hz_128 hK hP hD hS => ?_)
  have hP : va_P D vwCl ([(o, .inr (3, [.ref q_122, .int 0, .int 20, .int 60, .int 2000, .int 0, .ref q_124, .int 0, .int 0, .int 0, .null, .null, .null, .int 0])), (q_122, .inl (cy_123, 10, .inr (.inr (.inr (.inr (fun _ => none)))))), (q_124, .inl (cy_125, 60, .inr (.inr (.inr (.inr (fun _ => none)))))), (q_126, .inl (cy_127, 120, .inl (fun _ => 0)))]) H := hP
  have hD : va_D A ([(o, .inr (3, [.ref q_122, .int 0, .int 20, .int 60, .int 2000, .int 0, .ref q_124, .int 0, .int 0, .int 0, .null, .null, .null, .int 0])), (q_122, .inl (cy_123, 10, .inr (.inr (.inr (.inr (fun _ => none)))))), (q_124, .inl (cy_125, 60, .inr (.inr (.inr (.inr (fun _ => none)))))), (q_126, .inl (cy_127, 120, .inl (fun _ => 0)))]) := hD
  refine va_putF (D := D) (ci := 3) (v := .ref q_126) (ty := .array .int) (C := RX3) (T := TX3) (N := 14) hx hb hts (fun _ h9 => List.mem_cons_of_mem _ (List.mem_append_left _ (List.mem_append_right _ h9))) tyX3 tyX3_ok nmX3 hown hK hP hD hS 0 rfl rfl 10 (by decide) (hts (.fieldLink RX3 47 "PalletStack" "tops" "[I") (List.mem_of_getElem? (i := 17) (by rfl))) (fun _ h9 => h9) rfl hin rfl (by decide +kernel) rfl rfl (Nat.le_of_ble_eq_true rfl) dX3_init_71 (fun H locs hP hD hS => ?_)
  have hP : va_P D vwCl ([(o, .inr (3, [.ref q_122, .int 0, .int 20, .int 60, .int 2000, .int 0, .ref q_124, .int 0, .int 0, .int 0, .ref q_126, .null, .null, .int 0])), (q_122, .inl (cy_123, 10, .inr (.inr (.inr (.inr (fun _ => none)))))), (q_124, .inl (cy_125, 60, .inr (.inr (.inr (.inr (fun _ => none)))))), (q_126, .inl (cy_127, 120, .inl (fun _ => 0)))]) H := hP
  have hD : va_D A ([(o, .inr (3, [.ref q_122, .int 0, .int 20, .int 60, .int 2000, .int 0, .ref q_124, .int 0, .int 0, .int 0, .ref q_126, .null, .null, .int 0])), (q_122, .inl (cy_123, 10, .inr (.inr (.inr (.inr (fun _ => none)))))), (q_124, .inl (cy_125, 60, .inr (.inr (.inr (.inr (fun _ => none)))))), (q_126, .inl (cy_127, 120, .inl (fun _ => 0)))]) := hD
  refine lv_aload_n hx hb dX3_init_74 rfl (lv_at hl 0 rfl) ?_
  refine va_new (D := D) (ci := 0) (fs := [.int 0, .int 0, .int 0, .int 0, .int 0, .int 0, .int 0, .int 0, .int 0, .int 0, .int 0, .int 0, .int 0, .int 0, .int 0, .int 0, .null, .null]) (C := RX0) (T := TX0) (N := 18) hx hb hts (fun _ h9 => List.mem_cons_of_mem _ (List.mem_append_right _ h9)) tyX0 tyX0_ok hown (hts (.classLink RX3 32 RX0) (List.mem_of_getElem? (i := 11) (by rfl))) (hts (.instantiable RX0 18) (List.mem_of_getElem? (i := 18) (by rfl))) (hts (.initialized RX0) (List.mem_of_getElem? (i := 19) (by rfl))) hK hP hD hS hA rfl (fun j hj => by rcases (show j = 0 ∨ j = 1 ∨ j = 2 ∨ j = 3 ∨ j = 4 ∨ j = 5 ∨ j = 6 ∨ j = 7 ∨ j = 8 ∨ j = 9 ∨ j = 10 ∨ j = 11 ∨ j = 12 ∨ j = 13 ∨ j = 14 ∨ j = 15 ∨ j = 16 ∨ j = 17 by omega) with rfl | rfl | rfl | rfl | rfl | rfl | rfl | rfl | rfl | rfl | rfl | rfl | rfl | rfl | rfl | rfl | rfl | rfl <;> rfl) (by omega) (by omega) dX3_init_75 (fun q_129 H hP hD hS => ?_)
  have hP : va_P D vwCl ([(o, .inr (3, [.ref q_122, .int 0, .int 20, .int 60, .int 2000, .int 0, .ref q_124, .int 0, .int 0, .int 0, .ref q_126, .null, .null, .int 0])), (q_122, .inl (cy_123, 10, .inr (.inr (.inr (.inr (fun _ => none)))))), (q_124, .inl (cy_125, 60, .inr (.inr (.inr (.inr (fun _ => none)))))), (q_126, .inl (cy_127, 120, .inl (fun _ => 0))), (q_129, .inr (0, [.int 0, .int 0, .int 0, .int 0, .int 0, .int 0, .int 0, .int 0, .int 0, .int 0, .int 0, .int 0, .int 0, .int 0, .int 0, .int 0, .null, .null]))]) H := hP
  have hD : va_D A ([(o, .inr (3, [.ref q_122, .int 0, .int 20, .int 60, .int 2000, .int 0, .ref q_124, .int 0, .int 0, .int 0, .ref q_126, .null, .null, .int 0])), (q_122, .inl (cy_123, 10, .inr (.inr (.inr (.inr (fun _ => none)))))), (q_124, .inl (cy_125, 60, .inr (.inr (.inr (.inr (fun _ => none)))))), (q_126, .inl (cy_127, 120, .inl (fun _ => 0))), (q_129, .inr (0, [.int 0, .int 0, .int 0, .int 0, .int 0, .int 0, .int 0, .int 0, .int 0, .int 0, .int 0, .int 0, .int 0, .int 0, .int 0, .int 0, .null, .null]))]) := hD
  refine lv_dup hx hb dX3_init_78 rfl ?_
  refine zcallvINK (As := []) (rest := [.ref q_129, .ref o]) (wc := [(q_129, .inr (0, [.int 0, .int 0, .int 0, .int 0, .int 0, .int 0, .int 0, .int 0, .int 0, .int 0, .int 0, .int 0, .int 0, .int 0, .int 0, .int 0, .null, .null]))]) (wr := [(o, .inr (3, [.ref q_122, .int 0, .int 20, .int 60, .int 2000, .int 0, .ref q_124, .int 0, .int 0, .int 0, .ref q_126, .null, .null, .int 0])), (q_122, .inl (cy_123, 10, .inr (.inr (.inr (.inr (fun _ => none)))))), (q_124, .inl (cy_125, 60, .inr (.inr (.inr (.inr (fun _ => none)))))), (q_126, .inl (cy_127, 120, .inl (fun _ => 0)))]) ⟨hx, hb, hml, hown, hts⟩ (c_Item_init l D _ q_129) (⟨va_cnB (host := "PalletStack") 0 hts gX3_init_X0_init_n51 rfl rfl rfl (hKn) (hts (.initialized RX0) (List.mem_of_getElem? (i := 19) (by rfl))) (by decide +kernel) ⟨by rw [hRf]; exact Nat.le_of_ble_eq_true rfl, by rw [hRl]; exact Nat.le_of_ble_eq_true rfl⟩, rfl, (hts (.instanceMethod yX0_init) (List.mem_of_getElem? (i := 24) (by rfl)))⟩) (fun _ U _ _ h => h.moved (Vm.Alike.refl U.vm)) (fun U hW => hK0.moved hW.alike) hK hP hD hS hA [4] [0, 1, 2, 3] rfl (by decide) rfl (by decide) (by decide) [] rfl rfl hl.1 rfl (Nat.le_of_ble_eq_true rfl) dX3_init_79 ⟨by omega, by omega⟩ (fun u_131 H locs hwu_131 hnu_131 hzu_131 hK hP hD hS => ?_)
  have hK : va_K D vwCl [(cy_123, .object RX1), (cy_125, .object RX0), (cy_127, .int)] s := hK
  have hP : va_P D vwCl ([(o, .inr (3, [.ref q_122, .int 0, .int 20, .int 60, .int 2000, .int 0, .ref q_124, .int 0, .int 0, .int 0, .ref q_126, .null, .null, .int 0])), (q_122, .inl (cy_123, 10, .inr (.inr (.inr (.inr (fun _ => none)))))), (q_124, .inl (cy_125, 60, .inr (.inr (.inr (.inr (fun _ => none)))))), (q_126, .inl (cy_127, 120, .inl (fun _ => 0))), (q_129, .inr (0, [.int 0, .int 0, .int 0, .int 0, .int 0, .int 0, .int 0, .int 0, .int 0, .int 0, .int 0, .int 0, .int 0, .int 0, .int 0, .int 0, .ref u_131.1, .ref u_131.2]))]) H := hP
  have hD : va_D A ([(o, .inr (3, [.ref q_122, .int 0, .int 20, .int 60, .int 2000, .int 0, .ref q_124, .int 0, .int 0, .int 0, .ref q_126, .null, .null, .int 0])), (q_122, .inl (cy_123, 10, .inr (.inr (.inr (.inr (fun _ => none)))))), (q_124, .inl (cy_125, 60, .inr (.inr (.inr (.inr (fun _ => none)))))), (q_126, .inl (cy_127, 120, .inl (fun _ => 0))), (q_129, .inr (0, [.int 0, .int 0, .int 0, .int 0, .int 0, .int 0, .int 0, .int 0, .int 0, .int 0, .int 0, .int 0, .int 0, .int 0, .int 0, .int 0, .ref u_131.1, .ref u_131.2]))]) := hD
  refine va_put (D := D) (ci := 3) (v := .ref q_129) (ty := .object "PalletStack$Item") (C := RX3) (T := TX3) (N := 14) hx hb hts (fun _ h9 => List.mem_cons_of_mem _ (List.mem_append_left _ (List.mem_append_right _ h9))) tyX3 tyX3_ok nmX3 hown hK hP hD hS 0 rfl rfl 11 (by decide) (hts (.fieldLink RX3 52 "PalletStack" "trial" "LPalletStack$Item;") (List.mem_of_getElem? (i := 20) (by rfl))) (fun _ h9 => h9) rfl (by decide +kernel) rfl rfl (Nat.le_of_ble_eq_true rfl) dX3_init_82 (fun H locs hP hD hS => ?_)
  have hP : va_P D vwCl ([(o, .inr (3, [.ref q_122, .int 0, .int 20, .int 60, .int 2000, .int 0, .ref q_124, .int 0, .int 0, .int 0, .ref q_126, .ref q_129, .null, .int 0])), (q_122, .inl (cy_123, 10, .inr (.inr (.inr (.inr (fun _ => none)))))), (q_124, .inl (cy_125, 60, .inr (.inr (.inr (.inr (fun _ => none)))))), (q_126, .inl (cy_127, 120, .inl (fun _ => 0))), (q_129, .inr (0, [.int 0, .int 0, .int 0, .int 0, .int 0, .int 0, .int 0, .int 0, .int 0, .int 0, .int 0, .int 0, .int 0, .int 0, .int 0, .int 0, .ref u_131.1, .ref u_131.2]))]) H := hP
  have hD : va_D A ([(o, .inr (3, [.ref q_122, .int 0, .int 20, .int 60, .int 2000, .int 0, .ref q_124, .int 0, .int 0, .int 0, .ref q_126, .ref q_129, .null, .int 0])), (q_122, .inl (cy_123, 10, .inr (.inr (.inr (.inr (fun _ => none)))))), (q_124, .inl (cy_125, 60, .inr (.inr (.inr (.inr (fun _ => none)))))), (q_126, .inl (cy_127, 120, .inl (fun _ => 0))), (q_129, .inr (0, [.int 0, .int 0, .int 0, .int 0, .int 0, .int 0, .int 0, .int 0, .int 0, .int 0, .int 0, .int 0, .int 0, .int 0, .int 0, .int 0, .ref u_131.1, .ref u_131.2]))]) := hD
  refine lv_aload_n hx hb dX3_init_85 rfl (lv_at hl 0 rfl) ?_
  refine lv_bipush (v := 20) hx hb dX3_init_86 (by decide) ?_
  refine va_newq (C := RX2) (N' := 20) hx hb hown (hts (.classLink RX3 56 RX2) (List.mem_of_getElem? (i := 21) (by rfl))) (hK2) hK hP hD hS hA (by decide) rfl (Nat.le_of_ble_eq_true rfl) (by omega) (by omega) dX3_init_88 (fun q_132 cy_133 H hK hP hD hS => ?_)
  have hP : va_P D vwCl ([(o, .inr (3, [.ref q_122, .int 0, .int 20, .int 60, .int 2000, .int 0, .ref q_124, .int 0, .int 0, .int 0, .ref q_126, .ref q_129, .null, .int 0])), (q_122, .inl (cy_123, 10, .inr (.inr (.inr (.inr (fun _ => none)))))), (q_124, .inl (cy_125, 60, .inr (.inr (.inr (.inr (fun _ => none)))))), (q_126, .inl (cy_127, 120, .inl (fun _ => 0))), (q_129, .inr (0, [.int 0, .int 0, .int 0, .int 0, .int 0, .int 0, .int 0, .int 0, .int 0, .int 0, .int 0, .int 0, .int 0, .int 0, .int 0, .int 0, .ref u_131.1, .ref u_131.2])), (q_132, .inl (cy_133, 20, .inr (.inr (.inr (.inr (fun _ => none))))))]) H := hP
  have hD : va_D A ([(o, .inr (3, [.ref q_122, .int 0, .int 20, .int 60, .int 2000, .int 0, .ref q_124, .int 0, .int 0, .int 0, .ref q_126, .ref q_129, .null, .int 0])), (q_122, .inl (cy_123, 10, .inr (.inr (.inr (.inr (fun _ => none)))))), (q_124, .inl (cy_125, 60, .inr (.inr (.inr (.inr (fun _ => none)))))), (q_126, .inl (cy_127, 120, .inl (fun _ => 0))), (q_129, .inr (0, [.int 0, .int 0, .int 0, .int 0, .int 0, .int 0, .int 0, .int 0, .int 0, .int 0, .int 0, .int 0, .int 0, .int 0, .int 0, .int 0, .ref u_131.1, .ref u_131.2])), (q_132, .inl (cy_133, 20, .inr (.inr (.inr (.inr (fun _ => none))))))]) := hD
  refine va_putF (D := D) (ci := 3) (v := .ref q_132) (ty := .array (.object "PalletStack$Line")) (C := RX3) (T := TX3) (N := 14) hx hb hts (fun _ h9 => List.mem_cons_of_mem _ (List.mem_append_left _ (List.mem_append_right _ h9))) tyX3 tyX3_ok nmX3 hown hK hP hD hS 0 rfl rfl 12 (by decide) (hts (.fieldLink RX3 58 "PalletStack" "lines" "[LPalletStack$Line;") (List.mem_of_getElem? (i := 22) (by rfl))) (fun _ h9 => h9) rfl hin rfl (by decide +kernel) rfl rfl (Nat.le_of_ble_eq_true rfl) dX3_init_91 (fun H locs hP hD hS => ?_)
  have hP : va_P D vwCl ([(o, .inr (3, [.ref q_122, .int 0, .int 20, .int 60, .int 2000, .int 0, .ref q_124, .int 0, .int 0, .int 0, .ref q_126, .ref q_129, .ref q_132, .int 0])), (q_122, .inl (cy_123, 10, .inr (.inr (.inr (.inr (fun _ => none)))))), (q_124, .inl (cy_125, 60, .inr (.inr (.inr (.inr (fun _ => none)))))), (q_126, .inl (cy_127, 120, .inl (fun _ => 0))), (q_129, .inr (0, [.int 0, .int 0, .int 0, .int 0, .int 0, .int 0, .int 0, .int 0, .int 0, .int 0, .int 0, .int 0, .int 0, .int 0, .int 0, .int 0, .ref u_131.1, .ref u_131.2])), (q_132, .inl (cy_133, 20, .inr (.inr (.inr (.inr (fun _ => none))))))]) H := hP
  have hD : va_D A ([(o, .inr (3, [.ref q_122, .int 0, .int 20, .int 60, .int 2000, .int 0, .ref q_124, .int 0, .int 0, .int 0, .ref q_126, .ref q_129, .ref q_132, .int 0])), (q_122, .inl (cy_123, 10, .inr (.inr (.inr (.inr (fun _ => none)))))), (q_124, .inl (cy_125, 60, .inr (.inr (.inr (.inr (fun _ => none)))))), (q_126, .inl (cy_127, 120, .inl (fun _ => 0))), (q_129, .inr (0, [.int 0, .int 0, .int 0, .int 0, .int 0, .int 0, .int 0, .int 0, .int 0, .int 0, .int 0, .int 0, .int 0, .int 0, .int 0, .int 0, .ref u_131.1, .ref u_131.2])), (q_132, .inl (cy_133, 20, .inr (.inr (.inr (.inr (fun _ => none))))))]) := hD
  refine lv_aload_n hx hb dX3_init_94 rfl (lv_at hl 0 rfl) ?_
  refine lv_iconst (v := 0) hx hb dX3_init_95 (by decide) ?_
  refine va_put (D := D) (ci := 3) (v := .int 0) (ty := .int) (C := RX3) (T := TX3) (N := 14) hx hb hts (fun _ h9 => List.mem_cons_of_mem _ (List.mem_append_left _ (List.mem_append_right _ h9))) tyX3 tyX3_ok nmX3 hown hK hP hD hS 0 rfl rfl 13 (by decide) (hts (.fieldLink RX3 62 "PalletStack" "lineCount" "I") (List.mem_of_getElem? (i := 23) (by rfl))) (fun _ h9 => h9) rfl (by decide +kernel) rfl rfl (Nat.le_of_ble_eq_true rfl) dX3_init_96 (fun H locs hP hD hS => ?_)
  have hP : va_P D vwCl ([(o, .inr (3, [.ref q_122, .int 0, .int 20, .int 60, .int 2000, .int 0, .ref q_124, .int 0, .int 0, .int 0, .ref q_126, .ref q_129, .ref q_132, .int 0])), (q_122, .inl (cy_123, 10, .inr (.inr (.inr (.inr (fun _ => none)))))), (q_124, .inl (cy_125, 60, .inr (.inr (.inr (.inr (fun _ => none)))))), (q_126, .inl (cy_127, 120, .inl (fun _ => 0))), (q_129, .inr (0, [.int 0, .int 0, .int 0, .int 0, .int 0, .int 0, .int 0, .int 0, .int 0, .int 0, .int 0, .int 0, .int 0, .int 0, .int 0, .int 0, .ref u_131.1, .ref u_131.2])), (q_132, .inl (cy_133, 20, .inr (.inr (.inr (.inr (fun _ => none))))))]) H := hP
  have hD : va_D A ([(o, .inr (3, [.ref q_122, .int 0, .int 20, .int 60, .int 2000, .int 0, .ref q_124, .int 0, .int 0, .int 0, .ref q_126, .ref q_129, .ref q_132, .int 0])), (q_122, .inl (cy_123, 10, .inr (.inr (.inr (.inr (fun _ => none)))))), (q_124, .inl (cy_125, 60, .inr (.inr (.inr (.inr (fun _ => none)))))), (q_126, .inl (cy_127, 120, .inl (fun _ => 0))), (q_129, .inr (0, [.int 0, .int 0, .int 0, .int 0, .int 0, .int 0, .int 0, .int 0, .int 0, .int 0, .int 0, .int 0, .int 0, .int 0, .int 0, .int 0, .ref u_131.1, .ref u_131.2])), (q_132, .inl (cy_133, 20, .inr (.inr (.inr (.inr (fun _ => none))))))]) := hD
  refine lv_iconst (v := 0) hx hb dX3_init_99 (by decide) ?_
  refine lv_istore_n (lv' := [(1, .int 0), (0, .ref o)]) hx hb dX3_init_100 rfl hl (by decide) rfl (fun ls hl => ?_)
  generalize hQe : MQ _ _ _ _ _ _ _ = Q
  have hP := hP.sub (ws' := [(o, .inr (3, [.ref q_122, .int 0, .int 20, .int 60, .int 2000, .int 0, .ref q_124, .int 0, .int 0, .int 0, .ref q_126, .ref q_129, .ref q_132, .int 0])), (q_122, .inl (cy_123, 10, .inr (.inr (.inr (.inr (fun _ => none)))))), (q_124, .inl (cy_125, 60, .inr (.inr (.inr (.inr (fun _ => none)))))), (q_126, .inl (cy_127, 120, .inl (fun _ => 0))), (q_129, .inr (0, [.int 0, .int 0, .int 0, .int 0, .int 0, .int 0, .int 0, .int 0, .int 0, .int 0, .int 0, .int 0, .int 0, .int 0, .int 0, .int 0, .ref u_131.1, .ref u_131.2])), (q_132, .inl (cy_133, 20, .inr (.inr (.inr (.inr (fun _ => none))))))]) [0, 1, 2, 3, 4, 5] rfl
  have hD := hD.sub (ws' := [(o, .inr (3, [.ref q_122, .int 0, .int 20, .int 60, .int 2000, .int 0, .ref q_124, .int 0, .int 0, .int 0, .ref q_126, .ref q_129, .ref q_132, .int 0])), (q_122, .inl (cy_123, 10, .inr (.inr (.inr (.inr (fun _ => none)))))), (q_124, .inl (cy_125, 60, .inr (.inr (.inr (.inr (fun _ => none)))))), (q_126, .inl (cy_127, 120, .inl (fun _ => 0))), (q_129, .inr (0, [.int 0, .int 0, .int 0, .int 0, .int 0, .int 0, .int 0, .int 0, .int 0, .int 0, .int 0, .int 0, .int 0, .int 0, .int 0, .int 0, .ref u_131.1, .ref u_131.2])), (q_132, .inl (cy_133, 20, .inr (.inr (.inr (.inr (fun _ => none))))))]) [0, 1, 2, 3, 4, 5] (by decide) rfl
  have hl := lv_sub hl (l' := [(1, .int 0), (0, .ref o)]) [0, 1] rfl
  refine W.widen (k := 7 + 3 * 0) (n := 300 + 90 * 0) (by omega) (by omega) ?_
  have loop : ∀ (k i : Nat), i + k = 60 → ∀ (f : Nat → Option Nat) (H : Heap) (locs : List Loc) (ls : Array Slot), va_P D vwCl ([(o, .inr (3, [.ref q_122, .int 0, .int 20, .int 60, .int 2000, .int 0, .ref q_124, .int 0, .int 0, .int 0, .ref q_126, .ref q_129, .ref q_132, .int 0])), (q_122, .inl (cy_123, 10, .inr (.inr (.inr (.inr (fun _ => none)))))), (q_124, .inl (cy_125, 60, .inr (.inr (.inr (.inr (f)))))), (q_126, .inl (cy_127, 120, .inl (fun _ => 0))), (q_129, .inr (0, [.int 0, .int 0, .int 0, .int 0, .int 0, .int 0, .int 0, .int 0, .int 0, .int 0, .int 0, .int 0, .int 0, .int 0, .int 0, .int 0, .ref u_131.1, .ref u_131.2])), (q_132, .inl (cy_133, 20, .inr (.inr (.inr (.inr (fun _ => none))))))]) H → va_D A ([(o, .inr (3, [.ref q_122, .int 0, .int 20, .int 60, .int 2000, .int 0, .ref q_124, .int 0, .int 0, .int 0, .ref q_126, .ref q_129, .ref q_132, .int 0])), (q_122, .inl (cy_123, 10, .inr (.inr (.inr (.inr (fun _ => none)))))), (q_124, .inl (cy_125, 60, .inr (.inr (.inr (.inr (f)))))), (q_126, .inl (cy_127, 120, .inl (fun _ => 0))), (q_129, .inr (0, [.int 0, .int 0, .int 0, .int 0, .int 0, .int 0, .int 0, .int 0, .int 0, .int 0, .int 0, .int 0, .int 0, .int 0, .int 0, .int 0, .ref u_131.1, .ref u_131.2])), (q_132, .inl (cy_133, 20, .inr (.inr (.inr (.inr (fun _ => none))))))]) → va_S A s.heap H locs → lv_has ls 2 [(1, .int (nI i)), (0, .ref o)] → W p l e R s m ([.ref o] : List Value).toArray below meth c H locs (7 + 3 * i) (300 + 90 * i) Q (F0 m 101 ls []) := by
    intro k
    induction k with
    | zero =>
      intro i hi f H locs ls hP hD hS hl
      obtain rfl : i = 60 := by omega
      refine lv_iload_n hx hb dX3_init_101 rfl (lv_at hl 0 rfl) ?_
      refine lv_bipush (v := 60) hx hb dX3_init_102 (by decide) ?_
      refine lv_icmp_ge (tgt := 126) hx hb dX3_init_104 (by decide) (fun c_134 => ?_) (fun c_134 => absurd (by decide) c_134)
      refine W.widen (k := 187) (n := 5700) (by omega) (by omega) ?_
      have hP := hP.sub (ws' := [(o, .inr (3, [.ref q_122, .int 0, .int 20, .int 60, .int 2000, .int 0, .ref q_124, .int 0, .int 0, .int 0, .ref q_126, .ref q_129, .ref q_132, .int 0])), (q_122, .inl (cy_123, 10, .inr (.inr (.inr (.inr (fun _ => none)))))), (q_126, .inl (cy_127, 120, .inl (fun _ => 0))), (q_129, .inr (0, [.int 0, .int 0, .int 0, .int 0, .int 0, .int 0, .int 0, .int 0, .int 0, .int 0, .int 0, .int 0, .int 0, .int 0, .int 0, .int 0, .ref u_131.1, .ref u_131.2])), (q_132, .inl (cy_133, 20, .inr (.inr (.inr (.inr (fun _ => none))))))]) [0, 1, 3, 4, 5] rfl
      have hD := hD.sub (ws' := [(o, .inr (3, [.ref q_122, .int 0, .int 20, .int 60, .int 2000, .int 0, .ref q_124, .int 0, .int 0, .int 0, .ref q_126, .ref q_129, .ref q_132, .int 0])), (q_122, .inl (cy_123, 10, .inr (.inr (.inr (.inr (fun _ => none)))))), (q_126, .inl (cy_127, 120, .inl (fun _ => 0))), (q_129, .inr (0, [.int 0, .int 0, .int 0, .int 0, .int 0, .int 0, .int 0, .int 0, .int 0, .int 0, .int 0, .int 0, .int 0, .int 0, .int 0, .int 0, .ref u_131.1, .ref u_131.2])), (q_132, .inl (cy_133, 20, .inr (.inr (.inr (.inr (fun _ => none))))))]) [0, 1, 3, 4, 5] (by decide) rfl
      rw [← hQe]
      exact W.vret hx hb hr (fun t ht hW => ⟨⟨(fun i => [q_122, q_124, q_126, q_129, q_132, u_131.1, u_131.2].getD i 0, fun i => [cy_123, cy_127, cy_133].getD i 0), rfl, True.intro, ⟨Nat.zero_le _, by rw [ht]; exact hP, va_K.moved hW.alike (hK.sub (tys' := [(cy_123, .object RX1), (cy_127, .int), (cy_133, .object RX2)]) [0, 2, 3] rfl), hD⟩⟩, hS.F ht⟩) hS.2.2 dX3_init_126
    | succ k ih =>
      intro i hi f H locs ls hP hD hS hl
      refine lv_iload_n hx hb dX3_init_101 rfl (lv_at hl 0 rfl) ?_
      refine lv_bipush (v := 60) hx hb dX3_init_102 (by decide) ?_
      refine lv_icmp_ge (tgt := 126) hx hb dX3_init_104 (by decide) (fun c_135 => absurd c_135 (nI_ge (b := 60) (by omega) (by decide))) (fun c_135 => ?_)
      refine lv_aload_n hx hb dX3_init_107 rfl (lv_at hl 1 rfl) ?_
      refine va_get (D := D) (ci := 3) (v := .ref q_124) (C := RX3) (T := TX3) (N := 14) hx hb hts (fun _ h9 => List.mem_cons_of_mem _ (List.mem_append_left _ (List.mem_append_right _ h9))) hown hK hP 0 rfl rfl 6 (by decide) (hts (.fieldLink RX3 34 "PalletStack" "items" "[LPalletStack$Item;") (List.mem_of_getElem? (i := 12) (by rfl))) (fun _ h9 => h9) rfl dX3_init_108 ?_
      refine lv_iload_n hx hb dX3_init_111 rfl (lv_at hl 0 rfl) ?_
      refine va_new (D := D) (ci := 0) (fs := [.int 0, .int 0, .int 0, .int 0, .int 0, .int 0, .int 0, .int 0, .int 0, .int 0, .int 0, .int 0, .int 0, .int 0, .int 0, .int 0, .null, .null]) (C := RX0) (T := TX0) (N := 18) hx hb hts (fun _ h9 => List.mem_cons_of_mem _ (List.mem_append_right _ h9)) tyX0 tyX0_ok hown (hts (.classLink RX3 32 RX0) (List.mem_of_getElem? (i := 11) (by rfl))) (hts (.instantiable RX0 18) (List.mem_of_getElem? (i := 18) (by rfl))) (hts (.initialized RX0) (List.mem_of_getElem? (i := 19) (by rfl))) hK hP hD hS hA rfl (fun j hj => by rcases (show j = 0 ∨ j = 1 ∨ j = 2 ∨ j = 3 ∨ j = 4 ∨ j = 5 ∨ j = 6 ∨ j = 7 ∨ j = 8 ∨ j = 9 ∨ j = 10 ∨ j = 11 ∨ j = 12 ∨ j = 13 ∨ j = 14 ∨ j = 15 ∨ j = 16 ∨ j = 17 by omega) with rfl | rfl | rfl | rfl | rfl | rfl | rfl | rfl | rfl | rfl | rfl | rfl | rfl | rfl | rfl | rfl | rfl | rfl <;> rfl) (by omega) (by omega) dX3_init_112 (fun q_136 H hP hD hS => ?_)
      have hP : va_P D vwCl ([(o, .inr (3, [.ref q_122, .int 0, .int 20, .int 60, .int 2000, .int 0, .ref q_124, .int 0, .int 0, .int 0, .ref q_126, .ref q_129, .ref q_132, .int 0])), (q_122, .inl (cy_123, 10, .inr (.inr (.inr (.inr (fun _ => none)))))), (q_124, .inl (cy_125, 60, .inr (.inr (.inr (.inr (f)))))), (q_126, .inl (cy_127, 120, .inl (fun _ => 0))), (q_129, .inr (0, [.int 0, .int 0, .int 0, .int 0, .int 0, .int 0, .int 0, .int 0, .int 0, .int 0, .int 0, .int 0, .int 0, .int 0, .int 0, .int 0, .ref u_131.1, .ref u_131.2])), (q_132, .inl (cy_133, 20, .inr (.inr (.inr (.inr (fun _ => none)))))), (q_136, .inr (0, [.int 0, .int 0, .int 0, .int 0, .int 0, .int 0, .int 0, .int 0, .int 0, .int 0, .int 0, .int 0, .int 0, .int 0, .int 0, .int 0, .null, .null]))]) H := hP
      have hD : va_D A ([(o, .inr (3, [.ref q_122, .int 0, .int 20, .int 60, .int 2000, .int 0, .ref q_124, .int 0, .int 0, .int 0, .ref q_126, .ref q_129, .ref q_132, .int 0])), (q_122, .inl (cy_123, 10, .inr (.inr (.inr (.inr (fun _ => none)))))), (q_124, .inl (cy_125, 60, .inr (.inr (.inr (.inr (f)))))), (q_126, .inl (cy_127, 120, .inl (fun _ => 0))), (q_129, .inr (0, [.int 0, .int 0, .int 0, .int 0, .int 0, .int 0, .int 0, .int 0, .int 0, .int 0, .int 0, .int 0, .int 0, .int 0, .int 0, .int 0, .ref u_131.1, .ref u_131.2])), (q_132, .inl (cy_133, 20, .inr (.inr (.inr (.inr (fun _ => none)))))), (q_136, .inr (0, [.int 0, .int 0, .int 0, .int 0, .int 0, .int 0, .int 0, .int 0, .int 0, .int 0, .int 0, .int 0, .int 0, .int 0, .int 0, .int 0, .null, .null]))]) := hD
      refine lv_dup hx hb dX3_init_115 rfl ?_
      refine zcallvINK (As := []) (rest := [.ref q_136, .int (nI i), .ref q_124]) (wc := [(q_136, .inr (0, [.int 0, .int 0, .int 0, .int 0, .int 0, .int 0, .int 0, .int 0, .int 0, .int 0, .int 0, .int 0, .int 0, .int 0, .int 0, .int 0, .null, .null]))]) (wr := [(o, .inr (3, [.ref q_122, .int 0, .int 20, .int 60, .int 2000, .int 0, .ref q_124, .int 0, .int 0, .int 0, .ref q_126, .ref q_129, .ref q_132, .int 0])), (q_122, .inl (cy_123, 10, .inr (.inr (.inr (.inr (fun _ => none)))))), (q_124, .inl (cy_125, 60, .inr (.inr (.inr (.inr (f)))))), (q_126, .inl (cy_127, 120, .inl (fun _ => 0))), (q_129, .inr (0, [.int 0, .int 0, .int 0, .int 0, .int 0, .int 0, .int 0, .int 0, .int 0, .int 0, .int 0, .int 0, .int 0, .int 0, .int 0, .int 0, .ref u_131.1, .ref u_131.2])), (q_132, .inl (cy_133, 20, .inr (.inr (.inr (.inr (fun _ => none))))))]) ⟨hx, hb, hml, hown, hts⟩ (c_Item_init l D _ q_136) (⟨va_cnB (host := "PalletStack") 0 hts gX3_init_X0_init_n51 rfl rfl rfl (hKn) (hts (.initialized RX0) (List.mem_of_getElem? (i := 19) (by rfl))) (by decide +kernel) ⟨by rw [hRf]; exact Nat.le_of_ble_eq_true rfl, by rw [hRl]; exact Nat.le_of_ble_eq_true rfl⟩, rfl, (hts (.instanceMethod yX0_init) (List.mem_of_getElem? (i := 24) (by rfl)))⟩) (fun _ U _ _ h => h.moved (Vm.Alike.refl U.vm)) (fun U hW => hK0.moved hW.alike) hK hP hD hS hA [6] [0, 1, 2, 3, 4, 5] rfl (by decide) rfl (by decide) (by decide) [] rfl rfl hl.1 rfl (Nat.le_of_ble_eq_true rfl) dX3_init_116 ⟨by omega, by omega⟩ (fun u_138 H locs hwu_138 hnu_138 hzu_138 hK hP hD hS => ?_)
      have hK : va_K D vwCl [(cy_123, .object RX1), (cy_125, .object RX0), (cy_127, .int), (cy_133, .object RX2)] s := hK
      have hP : va_P D vwCl ([(o, .inr (3, [.ref q_122, .int 0, .int 20, .int 60, .int 2000, .int 0, .ref q_124, .int 0, .int 0, .int 0, .ref q_126, .ref q_129, .ref q_132, .int 0])), (q_122, .inl (cy_123, 10, .inr (.inr (.inr (.inr (fun _ => none)))))), (q_124, .inl (cy_125, 60, .inr (.inr (.inr (.inr (f)))))), (q_126, .inl (cy_127, 120, .inl (fun _ => 0))), (q_129, .inr (0, [.int 0, .int 0, .int 0, .int 0, .int 0, .int 0, .int 0, .int 0, .int 0, .int 0, .int 0, .int 0, .int 0, .int 0, .int 0, .int 0, .ref u_131.1, .ref u_131.2])), (q_132, .inl (cy_133, 20, .inr (.inr (.inr (.inr (fun _ => none)))))), (q_136, .inr (0, [.int 0, .int 0, .int 0, .int 0, .int 0, .int 0, .int 0, .int 0, .int 0, .int 0, .int 0, .int 0, .int 0, .int 0, .int 0, .int 0, .ref u_138.1, .ref u_138.2]))]) H := hP
      have hD : va_D A ([(o, .inr (3, [.ref q_122, .int 0, .int 20, .int 60, .int 2000, .int 0, .ref q_124, .int 0, .int 0, .int 0, .ref q_126, .ref q_129, .ref q_132, .int 0])), (q_122, .inl (cy_123, 10, .inr (.inr (.inr (.inr (fun _ => none)))))), (q_124, .inl (cy_125, 60, .inr (.inr (.inr (.inr (f)))))), (q_126, .inl (cy_127, 120, .inl (fun _ => 0))), (q_129, .inr (0, [.int 0, .int 0, .int 0, .int 0, .int 0, .int 0, .int 0, .int 0, .int 0, .int 0, .int 0, .int 0, .int 0, .int 0, .int 0, .int 0, .ref u_131.1, .ref u_131.2])), (q_132, .inl (cy_133, 20, .inr (.inr (.inr (.inr (fun _ => none)))))), (q_136, .inr (0, [.int 0, .int 0, .int 0, .int 0, .int 0, .int 0, .int 0, .int 0, .int 0, .int 0, .int 0, .int 0, .int 0, .int 0, .int 0, .int 0, .ref u_138.1, .ref u_138.2]))]) := hD
      refine va_astq hx hb hK hP hD hS 2 1 6 0 rfl rfl rfl rfl (vp_in_nI (N := 60) (by omega) (by decide)) dX3_init_119 (fun H locs hP hD hS => ?_)
      have hP : va_P D vwCl ([(o, .inr (3, [.ref q_122, .int 0, .int 20, .int 60, .int 2000, .int 0, .ref q_124, .int 0, .int 0, .int 0, .ref q_126, .ref q_129, .ref q_132, .int 0])), (q_122, .inl (cy_123, 10, .inr (.inr (.inr (.inr (fun _ => none)))))), (q_124, .inl (cy_125, 60, .inr (.inr (.inr (.inr (va_up (f) ((nI i) : Int32).toNatClampNeg (some q_136))))))), (q_126, .inl (cy_127, 120, .inl (fun _ => 0))), (q_129, .inr (0, [.int 0, .int 0, .int 0, .int 0, .int 0, .int 0, .int 0, .int 0, .int 0, .int 0, .int 0, .int 0, .int 0, .int 0, .int 0, .int 0, .ref u_131.1, .ref u_131.2])), (q_132, .inl (cy_133, 20, .inr (.inr (.inr (.inr (fun _ => none)))))), (q_136, .inr (0, [.int 0, .int 0, .int 0, .int 0, .int 0, .int 0, .int 0, .int 0, .int 0, .int 0, .int 0, .int 0, .int 0, .int 0, .int 0, .int 0, .ref u_138.1, .ref u_138.2]))]) H := hP
      have hD : va_D A ([(o, .inr (3, [.ref q_122, .int 0, .int 20, .int 60, .int 2000, .int 0, .ref q_124, .int 0, .int 0, .int 0, .ref q_126, .ref q_129, .ref q_132, .int 0])), (q_122, .inl (cy_123, 10, .inr (.inr (.inr (.inr (fun _ => none)))))), (q_124, .inl (cy_125, 60, .inr (.inr (.inr (.inr (va_up (f) ((nI i) : Int32).toNatClampNeg (some q_136))))))), (q_126, .inl (cy_127, 120, .inl (fun _ => 0))), (q_129, .inr (0, [.int 0, .int 0, .int 0, .int 0, .int 0, .int 0, .int 0, .int 0, .int 0, .int 0, .int 0, .int 0, .int 0, .int 0, .int 0, .int 0, .ref u_131.1, .ref u_131.2])), (q_132, .inl (cy_133, 20, .inr (.inr (.inr (.inr (fun _ => none)))))), (q_136, .inr (0, [.int 0, .int 0, .int 0, .int 0, .int 0, .int 0, .int 0, .int 0, .int 0, .int 0, .int 0, .int 0, .int 0, .int 0, .int 0, .int 0, .ref u_138.1, .ref u_138.2]))]) := hD
      refine lv_iinc (v := (nI (i + 1))) (lv' := [(1, .int (nI (i + 1))), (0, .ref o)]) hx hb dX3_init_120 hl (k := 0) rfl (nI_1 i) (by decide) rfl (fun ls hl => ?_)
      refine lv_goto (tgt := 101) hx hb dX3_init_123 (by decide) ?_
      have hl := lv_sub hl (l' := [(1, .int (nI (i + 1))), (0, .ref o)]) [0, 1] rfl
      have hP := hP.sub (ws' := [(o, .inr (3, [.ref q_122, .int 0, .int 20, .int 60, .int 2000, .int 0, .ref q_124, .int 0, .int 0, .int 0, .ref q_126, .ref q_129, .ref q_132, .int 0])), (q_122, .inl (cy_123, 10, .inr (.inr (.inr (.inr (fun _ => none)))))), (q_124, .inl (cy_125, 60, .inr (.inr (.inr (.inr (va_up (f) ((nI i) : Int32).toNatClampNeg (some q_136))))))), (q_126, .inl (cy_127, 120, .inl (fun _ => 0))), (q_129, .inr (0, [.int 0, .int 0, .int 0, .int 0, .int 0, .int 0, .int 0, .int 0, .int 0, .int 0, .int 0, .int 0, .int 0, .int 0, .int 0, .int 0, .ref u_131.1, .ref u_131.2])), (q_132, .inl (cy_133, 20, .inr (.inr (.inr (.inr (fun _ => none))))))]) [0, 1, 2, 3, 4, 5] rfl
      have hD := hD.sub (ws' := [(o, .inr (3, [.ref q_122, .int 0, .int 20, .int 60, .int 2000, .int 0, .ref q_124, .int 0, .int 0, .int 0, .ref q_126, .ref q_129, .ref q_132, .int 0])), (q_122, .inl (cy_123, 10, .inr (.inr (.inr (.inr (fun _ => none)))))), (q_124, .inl (cy_125, 60, .inr (.inr (.inr (.inr (va_up (f) ((nI i) : Int32).toNatClampNeg (some q_136))))))), (q_126, .inl (cy_127, 120, .inl (fun _ => 0))), (q_129, .inr (0, [.int 0, .int 0, .int 0, .int 0, .int 0, .int 0, .int 0, .int 0, .int 0, .int 0, .int 0, .int 0, .int 0, .int 0, .int 0, .int 0, .ref u_131.1, .ref u_131.2])), (q_132, .inl (cy_133, 20, .inr (.inr (.inr (.inr (fun _ => none))))))]) [0, 1, 2, 3, 4, 5] (by decide) rfl
      refine W.widen (k := (7 + 3 * (i + 1))) (n := (300 + 90 * (i + 1))) (by omega) (by omega) ?_
      exact ih (i + 1) (by omega) _ H locs ls hP hD hS hl
  exact loop 60 0 rfl _ H locs ls hP hD hS hl
set_option maxHeartbeats 4000000 in
set_option maxRecDepth 100000 in
theorem c_kindOf (l : Launch) (D : zG) (sz : Nat) (o kA iA tA tr lA n : Nat) (cK : ClassId) (g : Nat → Option Nat) (k0 : Nat) (hg : g 0 = some k0) : Met l yX3_kindOf wsX3_kindOf ({ frames := 1, cells := 0, slots := 0, locals := 22 }) (zPc D [(cK, .object RX1)] ([(o, .inr (3, [.ref kA, .int 1, .int 1, .int 0, .int 1, .int 0, .ref iA, .int 0, .int 0, .int 0, .ref tA, .ref tr, .ref lA, .int (nI n)])), (kA, .inl (cK, 10, .inr (.inr (.inr (.inr (g))))))]) sz [.ref o, .int 0]) (va_Sq (fun r => r = some k0)) 0 0 (fun _ => False) := by
  refine Met.ofW (cc := cX3_kindOf) (maxL := 2) (ret := (some (.object "PalletStack$Kind"))) (by decide) rfl ?_
  intro p e s m args below meth c s₁ B hml hv
  obtain ⟨rfl, hsz, hP, hK, hD0⟩ := hv
  have hx := B.exec
  have hb := B.bytes
  have hr := B.returns
  have hts := atoms_spec (ws := wsX3_kindOf) B.pre
  have hown : s.vm.findClass RX3 = some m.cls := findClass_of_methodNamed B.named
  have hlocks := B.notSynchronized
  subst hsz
  have hD := hD0
  generalize hAe : (fun _ : Nat => True) = A at hD
  have hl := lv_entry ([.ref o, .int 0]) (n := 2) (Nat.le_of_ble_eq_true rfl)
  rw [lg_entry_eq]
  generalize (lg_sl ([.ref o, .int 0]) ++ List.replicate (2 - (lg_sl ([.ref o, .int 0])).length) Slot.unset).toArray = ls at hl ⊢
  have hl : lv_has ls 2 [(0, .ref o), (1, .int 0)] := hl
  have hP : va_P D vwCl ([(o, .inr (3, [.ref kA, .int 1, .int 1, .int 0, .int 1, .int 0, .ref iA, .int 0, .int 0, .int 0, .ref tA, .ref tr, .ref lA, .int (nI n)])), (kA, .inl (cK, 10, .inr (.inr (.inr (.inr (g))))))]) s.heap := hP
  generalize hRe : (headSpec _ _).room = R
  have hRf : R.frames = 1 := by rw [← hRe]; rfl
  have hRc : R.cells = 0 := by rw [← hRe]; rfl
  have hRs : R.slots = 0 := by rw [← hRe]; rfl
  have hRl : R.locals = 22 := by rw [← hRe]; rfl
  clear hRe
  refine lv_iload_n hx hb dX3_kindOf_0 rfl (lv_at hl 1 rfl) ?_
  refine lv_iconst (v := 0) hx hb dX3_kindOf_1 (by decide) ?_
  refine lv_bipush (v := 9) hx hb dX3_kindOf_2 (by decide) ?_
  refine zrdS (As := [.int 0, .int 0, .int 9]) (rest := []) (wc := []) ⟨hx, hb, hml, hown, hts⟩ (c_isWithin l D _ 0 0 9) (va_cwS 3 hts gX3_kindOf_X3_isWithin rfl rfl rfl (by decide +kernel) ⟨by rw [hRf]; exact Nat.le_of_ble_eq_true rfl, by rw [hRl]; exact Nat.le_of_ble_eq_true rfl⟩) hK hP hD [] rfl (by decide) [] rfl rfl hl.1 rfl (Nat.le_of_ble_eq_true rfl) dX3_kindOf_4 ⟨by omega, by omega⟩ (fun r_139 hr_139 => ?_)
  refine lv_topi (fun v_140 ev_140 => ?_)
  obtain rfl : v_140 = 1 := ev_140.trans (hr_139.trans (by decide))
  refine lv_if_eq (tgt := 27) hx hb dX3_kindOf_7 (by decide) (fun c_141 => absurd c_141 (by decide)) (fun c_141 => ?_)
  refine lv_iload_n hx hb dX3_kindOf_10 rfl (lv_at hl 1 rfl) ?_
  refine lv_aload_n hx hb dX3_kindOf_11 rfl (lv_at hl 0 rfl) ?_
  refine va_get (D := D) (ci := 3) (v := .int 1) (C := RX3) (T := TX3) (N := 14) hx hb hts (fun _ h9 => List.mem_cons_of_mem _ (List.mem_append_right _ h9)) hown hK hP 0 rfl rfl 1 (by decide) (hts (.fieldLink RX3 15 "PalletStack" "kindCount" "I") (List.mem_of_getElem? (i := 1) (by rfl))) (fun _ h9 => h9) rfl dX3_kindOf_12 ?_
  refine lv_icmp_ge (tgt := 27) hx hb dX3_kindOf_15 (by decide) (fun c_142 => absurd c_142 (by decide)) (fun c_142 => ?_)
  refine lv_aload_n hx hb dX3_kindOf_18 rfl (lv_at hl 0 rfl) ?_
  refine va_get (D := D) (ci := 3) (v := .ref kA) (C := RX3) (T := TX3) (N := 14) hx hb hts (fun _ h9 => List.mem_cons_of_mem _ (List.mem_append_right _ h9)) hown hK hP 0 rfl rfl 0 (by decide) (hts (.fieldLink RX3 11 "PalletStack" "kinds" "[LPalletStack$Kind;") (List.mem_of_getElem? (i := 2) (by rfl))) (fun _ h9 => h9) rfl dX3_kindOf_19 ?_
  refine lv_iload_n hx hb dX3_kindOf_22 rfl (lv_at hl 1 rfl) ?_
  refine va_aldq hx hb hK hP 1 0 rfl rfl (vp_in_nI (n := 0) (N := 10) (by decide) (by decide)) dX3_kindOf_23 ?_
  refine W.eq (g2 := F0 m 24 ls [.ref k0]) (by rw [show g (0 : Int32).toNatClampNeg = some k0 from hg]; rfl) ?_
  refine lv_goto (tgt := 28) hx hb dX3_kindOf_24 (by decide) ?_
  exact W.aret (v := .ref k0) hx hb hr (.inl ⟨_, rfl⟩) (.inr ⟨_, rfl⟩) (fun t ht hW => ⟨some k0, rfl, rfl, ht⟩) (fun _ h => by cases h) dX3_kindOf_28
set_option maxHeartbeats 4000000 in
set_option maxRecDepth 100000 in
theorem c_Line_init (l : Launch) (D : zG) (sz : Nat) (h k0 : Nat) : Met l yX2_init wsX2_init ({ frames := 1, cells := 0, slots := 0, locals := 16 }) (zPc D [] ([(h, .inr (2, [.null, .int 0, .int 0]))]) sz [.ref h, .ref k0, .int 1]) (va_Qv (fun (u : Unit) => True) (zB D (va_A ([(h, .inr (2, [.null, .int 0, .int 0]))]) sz) (fun _ => []) 0 (fun _ => [(h, .inr (2, [.ref k0, .int 1, .int 0]))])) (va_A ([(h, .inr (2, [.null, .int 0, .int 0]))]) sz)) 0 0 (va_A ([(h, .inr (2, [.null, .int 0, .int 0]))]) sz) := by
  refine Met.ofW (cc := cX2_init) (maxL := 3) (ret := none) (by decide) rfl ?_
  intro p e s m args below meth c s₁ B hml hv
  obtain ⟨rfl, hsz, hP, hK, hD0⟩ := hv
  have hx := B.exec
  have hb := B.bytes
  have hr := B.returns
  have hts := atoms_spec (ws := wsX2_init) B.pre
  have hown : s.vm.findClass RX2 = some m.cls := findClass_of_methodNamed B.named
  have hlocks := B.notSynchronized
  have hin : meth.name = "<init>" := (name_of_methodNamed B.named B.method).1
  subst hsz
  have hD := hD0.self (sz := s.heap.size)
  generalize hAe : va_A ([(h, .inr (2, [.null, .int 0, .int 0]))]) s.heap.size = A at hD ⊢
  have hA : ∀ q : Nat, s.heap.size ≤ q → A q := fun q h => by rw [← hAe]; exact Or.inr h
  have hS : va_S A s.heap s.heap [] := va_S.rf
  have hl := lv_entry ([.ref h, .ref k0, .int 1]) (n := 3) (Nat.le_of_ble_eq_true rfl)
  rw [lg_entry_eq]
  generalize (lg_sl ([.ref h, .ref k0, .int 1]) ++ List.replicate (3 - (lg_sl ([.ref h, .ref k0, .int 1])).length) Slot.unset).toArray = ls at hl ⊢
  have hl : lv_has ls 3 [(0, .ref h), (1, .ref k0), (2, .int 1)] := hl
  have hP : va_P D vwCl ([(h, .inr (2, [.null, .int 0, .int 0]))]) s.heap := hP
  generalize hRe : (headSpec _ _).room = R
  have hRf : R.frames = 1 := by rw [← hRe]; rfl
  have hRc : R.cells = 0 := by rw [← hRe]; rfl
  have hRs : R.slots = 0 := by rw [← hRe]; rfl
  have hRl : R.locals = 16 := by rw [← hRe]; rfl
  clear hRe
  refine lv_aload_n hx hb dX2_init_0 rfl (lv_at hl 0 rfl) ?_
  refine W.objInit hx hb hown (hts (.methodLink RX2 1 objectInit) (List.mem_of_getElem? (i := 1) (by rfl))) (hts (.instanceMethod objectInit) (List.mem_of_getElem? (i := 2) (by rfl))) (hts (.code objectInit ⟨#[0xb1]⟩ 1 none) (List.mem_of_getElem? (i := 3) (by rfl))) rfl (by rw [hml]; exact hl.1) rfl dX2_init_1 (by rw [hRf]; exact Nat.le_of_ble_eq_true rfl) (by rw [hRl]; exact Nat.le_of_ble_eq_true rfl) ?_
  refine W.eq (g2 := F0 m 4 ls []) rfl ?_
  refine lv_aload_n hx hb dX2_init_4 rfl (lv_at hl 0 rfl) ?_
  refine lv_iconst (v := 0) hx hb dX2_init_5 (by decide) ?_
  refine va_put (D := D) (ci := 2) (v := .int 0) (ty := .boolean) (C := RX2) (T := TX2) (N := 3) hx hb hts (fun _ h9 => List.mem_cons_of_mem _ (List.mem_append_right _ h9)) tyX2 tyX2_ok nmX2 hown hK hP hD hS 0 rfl rfl 2 (by decide) (hts (.fieldLink RX2 7 "PalletStack$Line" "isAside" "Z") (List.mem_of_getElem? (i := 4) (by rfl))) (fun _ h9 => h9) rfl (by decide +kernel) rfl rfl (Nat.le_of_ble_eq_true rfl) dX2_init_6 (fun H locs hP hD hS => ?_)
  have hP : va_P D vwCl ([(h, .inr (2, [.null, .int 0, .int 0]))]) H := hP
  have hD : va_D A ([(h, .inr (2, [.null, .int 0, .int 0]))]) := hD
  refine lv_aload_n hx hb dX2_init_9 rfl (lv_at hl 0 rfl) ?_
  refine lv_aload_n hx hb dX2_init_10 rfl (lv_at hl 1 rfl) ?_
  refine va_putF (D := D) (ci := 2) (v := .ref k0) (ty := .object "PalletStack$Kind") (C := RX2) (T := TX2) (N := 3) hx hb hts (fun _ h9 => List.mem_cons_of_mem _ (List.mem_append_right _ h9)) tyX2 tyX2_ok nmX2 hown hK hP hD hS 0 rfl rfl 0 (by decide) (hts (.fieldLink RX2 13 "PalletStack$Line" "kind" "LPalletStack$Kind;") (List.mem_of_getElem? (i := 5) (by rfl))) (fun _ h9 => h9) rfl hin rfl (by decide +kernel) rfl rfl (Nat.le_of_ble_eq_true rfl) dX2_init_11 (fun H locs hP hD hS => ?_)
  have hP : va_P D vwCl ([(h, .inr (2, [.ref k0, .int 0, .int 0]))]) H := hP
  have hD : va_D A ([(h, .inr (2, [.ref k0, .int 0, .int 0]))]) := hD
  refine lv_aload_n hx hb dX2_init_14 rfl (lv_at hl 0 rfl) ?_
  refine lv_iload_n hx hb dX2_init_15 rfl (lv_at hl 2 rfl) ?_
  refine va_put (D := D) (ci := 2) (v := .int 1) (ty := .int) (C := RX2) (T := TX2) (N := 3) hx hb hts (fun _ h9 => List.mem_cons_of_mem _ (List.mem_append_right _ h9)) tyX2 tyX2_ok nmX2 hown hK hP hD hS 0 rfl rfl 1 (by decide) (hts (.fieldLink RX2 17 "PalletStack$Line" "count" "I") (List.mem_of_getElem? (i := 6) (by rfl))) (fun _ h9 => h9) rfl (by decide +kernel) rfl rfl (Nat.le_of_ble_eq_true rfl) dX2_init_16 (fun H locs hP hD hS => ?_)
  have hP : va_P D vwCl ([(h, .inr (2, [.ref k0, .int 1, .int 0]))]) H := hP
  have hD : va_D A ([(h, .inr (2, [.ref k0, .int 1, .int 0]))]) := hD
  exact W.vret hx hb hr (fun t ht hW => ⟨⟨(), rfl, True.intro, ⟨Nat.zero_le _, by rw [ht]; exact hP, va_K.moved hW.alike (hK.sub (tys' := []) [] rfl), hD⟩⟩, hS.F ht⟩) hS.2.2 dX2_init_19
set_option maxHeartbeats 4000000 in
set_option maxRecDepth 100000 in
theorem c_addLine (l : Launch) (D : zG) (sz : Nat) (o kA iA tA tr lA n : Nat) (cK cL : ClassId) (g f : Nat → Option Nat) (k0 : Nat) (hg : g 0 = some k0) (hn : n < 20) : Met l yX3_addLine wsX3_addLine ({ frames := 2, cells := 1, slots := 3, locals := 45 }) (zPc D [(cK, .object RX1), (cL, .object RX2)] ([(o, .inr (3, [.ref kA, .int 1, .int 1, .int 0, .int 1, .int 0, .ref iA, .int 0, .int 0, .int 0, .ref tA, .ref tr, .ref lA, .int (nI n)])), (kA, .inl (cK, 10, .inr (.inr (.inr (.inr (g)))))), (lA, .inl (cL, 20, .inr (.inr (.inr (.inr (f)))))), (k0, .inr (1, [.int 0, .int 1, .int 1, .int 2, .int 1, .int 0, .int 1, .int 0]))]) sz [.ref o, .int 0, .int 1]) (va_Qi (fun (r : Int32) (u : Nat) => r = nI n) (zB D (va_A ([(o, .inr (3, [.ref kA, .int 1, .int 1, .int 0, .int 1, .int 0, .ref iA, .int 0, .int 0, .int 0, .ref tA, .ref tr, .ref lA, .int (nI n)])), (kA, .inl (cK, 10, .inr (.inr (.inr (.inr (g)))))), (lA, .inl (cL, 20, .inr (.inr (.inr (.inr (f)))))), (k0, .inr (1, [.int 0, .int 1, .int 1, .int 2, .int 1, .int 0, .int 1, .int 0]))]) sz) (fun _ => [(cK, .object RX1), (cL, .object RX2)]) 0 (fun u => [(o, .inr (3, [.ref kA, .int 1, .int 1, .int 0, .int 1, .int 0, .ref iA, .int 0, .int 0, .int 0, .ref tA, .ref tr, .ref lA, .int (nI (n + 1))])), (kA, .inl (cK, 10, .inr (.inr (.inr (.inr (g)))))), (lA, .inl (cL, 20, .inr (.inr (.inr (.inr (va_up f n (some u))))))), (k0, .inr (1, [.int 0, .int 1, .int 1, .int 2, .int 1, .int 0, .int 1, .int 0])), (u, .inr (2, [.ref k0, .int 1, .int 0]))])) (va_A ([(o, .inr (3, [.ref kA, .int 1, .int 1, .int 0, .int 1, .int 0, .ref iA, .int 0, .int 0, .int 0, .ref tA, .ref tr, .ref lA, .int (nI n)])), (kA, .inl (cK, 10, .inr (.inr (.inr (.inr (g)))))), (lA, .inl (cL, 20, .inr (.inr (.inr (.inr (f)))))), (k0, .inr (1, [.int 0, .int 1, .int 1, .int 2, .int 1, .int 0, .int 1, .int 0]))]) sz)) 1 3 (va_A ([(o, .inr (3, [.ref kA, .int 1, .int 1, .int 0, .int 1, .int 0, .ref iA, .int 0, .int 0, .int 0, .ref tA, .ref tr, .ref lA, .int (nI n)])), (kA, .inl (cK, 10, .inr (.inr (.inr (.inr (g)))))), (lA, .inl (cL, 20, .inr (.inr (.inr (.inr (f)))))), (k0, .inr (1, [.int 0, .int 1, .int 1, .int 2, .int 1, .int 0, .int 1, .int 0]))]) sz) := by
  refine Met.ofW (cc := cX3_addLine) (maxL := 5) (ret := (some .int)) (by decide) rfl ?_
  intro p e s m args below meth c s₁ B hml hv
  obtain ⟨rfl, hsz, hP, hK, hD0⟩ := hv
  have hx := B.exec
  have hb := B.bytes
  have hr := B.returns
  have hts := atoms_spec (ws := wsX3_addLine) B.pre
  have hown : s.vm.findClass RX3 = some m.cls := findClass_of_methodNamed B.named
  have hlocks := B.notSynchronized
  subst hsz
  have hD := hD0.self (sz := s.heap.size)
  generalize hAe : va_A ([(o, .inr (3, [.ref kA, .int 1, .int 1, .int 0, .int 1, .int 0, .ref iA, .int 0, .int 0, .int 0, .ref tA, .ref tr, .ref lA, .int (nI n)])), (kA, .inl (cK, 10, .inr (.inr (.inr (.inr (g)))))), (lA, .inl (cL, 20, .inr (.inr (.inr (.inr (f)))))), (k0, .inr (1, [.int 0, .int 1, .int 1, .int 2, .int 1, .int 0, .int 1, .int 0]))]) s.heap.size = A at hD ⊢
  have hA : ∀ q : Nat, s.heap.size ≤ q → A q := fun q h => by rw [← hAe]; exact Or.inr h
  have hS : va_S A s.heap s.heap [] := va_S.rf
  have hl := lv_entry ([.ref o, .int 0, .int 1]) (n := 5) (Nat.le_of_ble_eq_true rfl)
  rw [lg_entry_eq]
  generalize (lg_sl ([.ref o, .int 0, .int 1]) ++ List.replicate (5 - (lg_sl ([.ref o, .int 0, .int 1])).length) Slot.unset).toArray = ls at hl ⊢
  have hl : lv_has ls 5 [(0, .ref o), (1, .int 0), (2, .int 1)] := hl
  have hP : va_P D vwCl ([(o, .inr (3, [.ref kA, .int 1, .int 1, .int 0, .int 1, .int 0, .ref iA, .int 0, .int 0, .int 0, .ref tA, .ref tr, .ref lA, .int (nI n)])), (kA, .inl (cK, 10, .inr (.inr (.inr (.inr (g)))))), (lA, .inl (cL, 20, .inr (.inr (.inr (.inr (f)))))), (k0, .inr (1, [.int 0, .int 1, .int 1, .int 2, .int 1, .int 0, .int 1, .int 0]))]) s.heap := hP
  generalize hRe : (headSpec _ _).room = R
  have hRf : R.frames = 2 := by rw [← hRe]; rfl
  have hRc : R.cells = 1 := by rw [← hRe]; rfl
  have hRs : R.slots = 3 := by rw [← hRe]; rfl
  have hRl : R.locals = 45 := by rw [← hRe]; rfl
  clear hRe
  refine lv_aload_n hx hb dX3_addLine_0 rfl (lv_at hl 0 rfl) ?_
  refine lv_iload_n hx hb dX3_addLine_1 rfl (lv_at hl 1 rfl) ?_
  refine zrdVq (As := [.int 0]) (rest := []) (wc := [(o, .inr (3, [.ref kA, .int 1, .int 1, .int 0, .int 1, .int 0, .ref iA, .int 0, .int 0, .int 0, .ref tA, .ref tr, .ref lA, .int (nI n)])), (kA, .inl (cK, 10, .inr (.inr (.inr (.inr (g))))))]) ⟨hx, hb, hml, hown, hts⟩ (c_kindOf l D _ o kA iA tA tr lA n cK g k0 hg) (cwV 1 hts gX3_addLine_X3_kindOf rfl rfl rfl (by decide +kernel) ⟨by rw [hRf]; exact Nat.le_of_ble_eq_true rfl, by rw [hRl]; exact Nat.le_of_ble_eq_true rfl⟩) hK hP hD [0, 1] rfl (by decide) [0] rfl (ci := 3) (q0 := 0) rfl rfl rfl hl.1 rfl (Nat.le_of_ble_eq_true rfl) dX3_addLine_2 ⟨by omega, by omega⟩ (fun r_143 hr_143 => ?_)
  refine W.eq (g2 := F0 m 5 ls [.ref k0]) (by rw [hr_143]; rfl) ?_
  refine lv_astore_n (lv' := [(3, .ref k0), (0, .ref o), (1, .int 0), (2, .int 1)]) hx hb dX3_addLine_5 rfl hl (by decide) rfl (fun ls hl => ?_)
  refine lv_aload_n hx hb dX3_addLine_6 rfl (lv_at hl 0 rfl) ?_
  refine lv_ifnonnull (tgt := 18) hx hb dX3_addLine_7 (by decide) ?_
  refine lv_iload_n hx hb dX3_addLine_18 rfl (lv_at hl 3 rfl) ?_
  refine lv_iconst (v := 1) hx hb dX3_addLine_19 (by decide) ?_
  refine lv_bipush (v := 20) hx hb dX3_addLine_20 (by decide) ?_
  refine zrdS (As := [.int 1, .int 1, .int 20]) (rest := []) (wc := []) ⟨hx, hb, hml, hown, hts⟩ (c_isWithin l D _ 1 1 20) (va_cwS 3 hts gX3_addLine_X3_isWithin rfl rfl rfl (by decide +kernel) ⟨by rw [hRf]; exact Nat.le_of_ble_eq_true rfl, by rw [hRl]; exact Nat.le_of_ble_eq_true rfl⟩) hK hP hD [] rfl (by decide) [] rfl rfl hl.1 rfl (Nat.le_of_ble_eq_true rfl) dX3_addLine_22 ⟨by omega, by omega⟩ (fun r_145 hr_145 => ?_)
  refine lv_topi (fun v_146 ev_146 => ?_)
  obtain rfl : v_146 = 1 := ev_146.trans (hr_145.trans (by decide))
  refine lv_if_ne (tgt := 36) hx hb dX3_addLine_25 (by decide) (fun c_147 => ?_) (fun c_147 => absurd c_147 (by decide))
  refine lv_aload_n hx hb dX3_addLine_36 rfl (lv_at hl 1 rfl) ?_
  refine va_get (D := D) (ci := 3) (v := .int (nI n)) (C := RX3) (T := TX3) (N := 14) hx hb hts (fun _ h9 => List.mem_cons_of_mem _ (List.mem_append_left _ (List.mem_append_left _ (List.mem_append_left _ (List.mem_append_left _ (List.mem_append_right _ h9)))))) hown hK hP 0 rfl rfl 13 (by decide) (hts (.fieldLink RX3 62 "PalletStack" "lineCount" "I") (List.mem_of_getElem? (i := 7) (by rfl))) (fun _ h9 => h9) rfl dX3_addLine_37 ?_
  refine lv_if_lt (tgt := 52) hx hb dX3_addLine_40 (by decide) (fun c_148 => absurd c_148 (nI_pos (by omega))) (fun c_148 => ?_)
  refine lv_aload_n hx hb dX3_addLine_43 rfl (lv_at hl 1 rfl) ?_
  refine va_get (D := D) (ci := 3) (v := .int (nI n)) (C := RX3) (T := TX3) (N := 14) hx hb hts (fun _ h9 => List.mem_cons_of_mem _ (List.mem_append_left _ (List.mem_append_left _ (List.mem_append_left _ (List.mem_append_left _ (List.mem_append_right _ h9)))))) hown hK hP 0 rfl rfl 13 (by decide) (hts (.fieldLink RX3 62 "PalletStack" "lineCount" "I") (List.mem_of_getElem? (i := 7) (by rfl))) (fun _ h9 => h9) rfl dX3_addLine_44 ?_
  refine lv_bipush (v := 20) hx hb dX3_addLine_47 (by decide) ?_
  refine lv_icmp_lt (tgt := 60) hx hb dX3_addLine_49 (by decide) (fun c_149 => ?_) (fun c_149 => absurd (nI_lt (b := 20) (by omega) (by decide)) c_149)
  refine lv_aload_n hx hb dX3_addLine_60 rfl (lv_at hl 1 rfl) ?_
  refine va_get (D := D) (ci := 3) (v := .int (nI n)) (C := RX3) (T := TX3) (N := 14) hx hb hts (fun _ h9 => List.mem_cons_of_mem _ (List.mem_append_left _ (List.mem_append_left _ (List.mem_append_left _ (List.mem_append_left _ (List.mem_append_right _ h9)))))) hown hK hP 0 rfl rfl 13 (by decide) (hts (.fieldLink RX3 62 "PalletStack" "lineCount" "I") (List.mem_of_getElem? (i := 7) (by rfl))) (fun _ h9 => h9) rfl dX3_addLine_61 ?_
  refine lv_istore (lv' := [(4, .int (nI n)), (3, .ref k0), (0, .ref o), (1, .int 0), (2, .int 1)]) hx hb dX3_addLine_64 hl (by decide) rfl (fun ls hl => ?_)
  refine lv_aload_n hx hb dX3_addLine_66 rfl (lv_at hl 2 rfl) ?_
  refine va_get (D := D) (ci := 3) (v := .ref lA) (C := RX3) (T := TX3) (N := 14) hx hb hts (fun _ h9 => List.mem_cons_of_mem _ (List.mem_append_left _ (List.mem_append_left _ (List.mem_append_left _ (List.mem_append_left _ (List.mem_append_right _ h9)))))) hown hK hP 0 rfl rfl 12 (by decide) (hts (.fieldLink RX3 58 "PalletStack" "lines" "[LPalletStack$Line;") (List.mem_of_getElem? (i := 8) (by rfl))) (fun _ h9 => h9) rfl dX3_addLine_67 ?_
  refine lv_iload hx hb dX3_addLine_70 (lv_at hl 0 rfl) ?_
  refine va_new (D := D) (ci := 2) (fs := [.null, .int 0, .int 0]) (C := RX2) (T := TX2) (N := 3) hx hb hts (fun _ h9 => List.mem_cons_of_mem _ (List.mem_append_left _ (List.mem_append_left _ (List.mem_append_left _ (List.mem_append_right _ h9))))) tyX2 tyX2_ok hown (hts (.classLink RX3 56 RX2) (List.mem_of_getElem? (i := 9) (by rfl))) (hts (.instantiable RX2 3) (List.mem_of_getElem? (i := 10) (by rfl))) (hts (.initialized RX2) (List.mem_of_getElem? (i := 11) (by rfl))) hK hP hD hS hA rfl (fun j hj => by rcases (show j = 0 ∨ j = 1 ∨ j = 2 by omega) with rfl | rfl | rfl <;> rfl) (by omega) (by omega) dX3_addLine_72 (fun q_150 H hP hD hS => ?_)
  have hP : va_P D vwCl ([(o, .inr (3, [.ref kA, .int 1, .int 1, .int 0, .int 1, .int 0, .ref iA, .int 0, .int 0, .int 0, .ref tA, .ref tr, .ref lA, .int (nI n)])), (kA, .inl (cK, 10, .inr (.inr (.inr (.inr (g)))))), (lA, .inl (cL, 20, .inr (.inr (.inr (.inr (f)))))), (k0, .inr (1, [.int 0, .int 1, .int 1, .int 2, .int 1, .int 0, .int 1, .int 0])), (q_150, .inr (2, [.null, .int 0, .int 0]))]) H := hP
  have hD : va_D A ([(o, .inr (3, [.ref kA, .int 1, .int 1, .int 0, .int 1, .int 0, .ref iA, .int 0, .int 0, .int 0, .ref tA, .ref tr, .ref lA, .int (nI n)])), (kA, .inl (cK, 10, .inr (.inr (.inr (.inr (g)))))), (lA, .inl (cL, 20, .inr (.inr (.inr (.inr (f)))))), (k0, .inr (1, [.int 0, .int 1, .int 1, .int 2, .int 1, .int 0, .int 1, .int 0])), (q_150, .inr (2, [.null, .int 0, .int 0]))]) := hD
  refine lv_dup hx hb dX3_addLine_75 rfl ?_
  refine lv_aload_n hx hb dX3_addLine_76 rfl (lv_at hl 1 rfl) ?_
  refine lv_iload_n hx hb dX3_addLine_77 rfl (lv_at hl 4 rfl) ?_
  refine zcallvI (As := [.ref k0, .int 1]) (rest := [.ref q_150, .int (nI n), .ref lA]) (wc := [(q_150, .inr (2, [.null, .int 0, .int 0]))]) (wr := [(o, .inr (3, [.ref kA, .int 1, .int 1, .int 0, .int 1, .int 0, .ref iA, .int 0, .int 0, .int 0, .ref tA, .ref tr, .ref lA, .int (nI n)])), (kA, .inl (cK, 10, .inr (.inr (.inr (.inr (g)))))), (lA, .inl (cL, 20, .inr (.inr (.inr (.inr (f)))))), (k0, .inr (1, [.int 0, .int 1, .int 1, .int 2, .int 1, .int 0, .int 1, .int 0]))]) ⟨hx, hb, hml, hown, hts⟩ (c_Line_init l D _ q_150 k0) (⟨callB_of 2 hts gX3_addLine_X2_init rfl rfl rfl (hts (.initialized RX2) (List.mem_of_getElem? (i := 11) (by rfl))) (hts (.methodLink RX3 149 yX2_init) (List.mem_of_getElem? (i := 22) (by rfl))) (by decide +kernel) ⟨by rw [hRf]; exact Nat.le_of_ble_eq_true rfl, by rw [hRl]; exact Nat.le_of_ble_eq_true rfl⟩, rfl, (hts (.instanceMethod yX2_init) (List.mem_of_getElem? (i := 23) (by rfl)))⟩) hK hP hD hS hA [4] [0, 1, 2, 3] rfl (by decide) rfl (by decide) (by decide) [] rfl rfl hl.1 rfl (Nat.le_of_ble_eq_true rfl) dX3_addLine_78 ⟨by omega, by omega⟩ (fun u_152 H locs hwu_152 hnu_152 hzu_152 hK hP hD hS => ?_)
  have hK : va_K D vwCl [(cK, .object RX1), (cL, .object RX2)] s := hK
  have hP : va_P D vwCl ([(o, .inr (3, [.ref kA, .int 1, .int 1, .int 0, .int 1, .int 0, .ref iA, .int 0, .int 0, .int 0, .ref tA, .ref tr, .ref lA, .int (nI n)])), (kA, .inl (cK, 10, .inr (.inr (.inr (.inr (g)))))), (lA, .inl (cL, 20, .inr (.inr (.inr (.inr (f)))))), (k0, .inr (1, [.int 0, .int 1, .int 1, .int 2, .int 1, .int 0, .int 1, .int 0])), (q_150, .inr (2, [.ref k0, .int 1, .int 0]))]) H := hP
  have hD : va_D A ([(o, .inr (3, [.ref kA, .int 1, .int 1, .int 0, .int 1, .int 0, .ref iA, .int 0, .int 0, .int 0, .ref tA, .ref tr, .ref lA, .int (nI n)])), (kA, .inl (cK, 10, .inr (.inr (.inr (.inr (g)))))), (lA, .inl (cL, 20, .inr (.inr (.inr (.inr (f)))))), (k0, .inr (1, [.int 0, .int 1, .int 1, .int 2, .int 1, .int 0, .int 1, .int 0])), (q_150, .inr (2, [.ref k0, .int 1, .int 0]))]) := hD
  refine va_astq hx hb hK hP hD hS 2 1 4 2 rfl rfl rfl rfl (vp_in_nI (N := 20) (by omega) (by decide)) dX3_addLine_81 (fun H locs hP hD hS => ?_)
  rw [nI_clamp (by omega)] at hP hD
  have hP : va_P D vwCl ([(o, .inr (3, [.ref kA, .int 1, .int 1, .int 0, .int 1, .int 0, .ref iA, .int 0, .int 0, .int 0, .ref tA, .ref tr, .ref lA, .int (nI n)])), (kA, .inl (cK, 10, .inr (.inr (.inr (.inr (g)))))), (lA, .inl (cL, 20, .inr (.inr (.inr (.inr (va_up f n (some q_150))))))), (k0, .inr (1, [.int 0, .int 1, .int 1, .int 2, .int 1, .int 0, .int 1, .int 0])), (q_150, .inr (2, [.ref k0, .int 1, .int 0]))]) H := hP
  have hD : va_D A ([(o, .inr (3, [.ref kA, .int 1, .int 1, .int 0, .int 1, .int 0, .ref iA, .int 0, .int 0, .int 0, .ref tA, .ref tr, .ref lA, .int (nI n)])), (kA, .inl (cK, 10, .inr (.inr (.inr (.inr (g)))))), (lA, .inl (cL, 20, .inr (.inr (.inr (.inr (va_up f n (some q_150))))))), (k0, .inr (1, [.int 0, .int 1, .int 1, .int 2, .int 1, .int 0, .int 1, .int 0])), (q_150, .inr (2, [.ref k0, .int 1, .int 0]))]) := hD
  refine lv_aload_n hx hb dX3_addLine_82 rfl (lv_at hl 2 rfl) ?_
  refine lv_iload hx hb dX3_addLine_83 (lv_at hl 0 rfl) ?_
  refine lv_iconst (v := 1) hx hb dX3_addLine_85 (by decide) ?_
  refine lv_iadd hx hb dX3_addLine_86 ?_
  refine lv_topi (fun v_153 ev_153 => ?_)
  obtain rfl : v_153 = (nI (n + 1)) := ev_153.trans (nI_1 n)
  refine va_put (D := D) (ci := 3) (v := .int (nI (n + 1))) (ty := .int) (C := RX3) (T := TX3) (N := 14) hx hb hts (fun _ h9 => List.mem_cons_of_mem _ (List.mem_append_left _ (List.mem_append_left _ (List.mem_append_left _ (List.mem_append_left _ (List.mem_append_right _ h9)))))) tyX3 tyX3_ok nmX3 hown hK hP hD hS 0 rfl rfl 13 (by decide) (hts (.fieldLink RX3 62 "PalletStack" "lineCount" "I") (List.mem_of_getElem? (i := 7) (by rfl))) (fun _ h9 => h9) rfl (by decide +kernel) rfl rfl (Nat.le_of_ble_eq_true rfl) dX3_addLine_87 (fun H locs hP hD hS => ?_)
  have hP : va_P D vwCl ([(o, .inr (3, [.ref kA, .int 1, .int 1, .int 0, .int 1, .int 0, .ref iA, .int 0, .int 0, .int 0, .ref tA, .ref tr, .ref lA, .int (nI (n + 1))])), (kA, .inl (cK, 10, .inr (.inr (.inr (.inr (g)))))), (lA, .inl (cL, 20, .inr (.inr (.inr (.inr (va_up f n (some q_150))))))), (k0, .inr (1, [.int 0, .int 1, .int 1, .int 2, .int 1, .int 0, .int 1, .int 0])), (q_150, .inr (2, [.ref k0, .int 1, .int 0]))]) H := hP
  have hD : va_D A ([(o, .inr (3, [.ref kA, .int 1, .int 1, .int 0, .int 1, .int 0, .ref iA, .int 0, .int 0, .int 0, .ref tA, .ref tr, .ref lA, .int (nI (n + 1))])), (kA, .inl (cK, 10, .inr (.inr (.inr (.inr (g)))))), (lA, .inl (cL, 20, .inr (.inr (.inr (.inr (va_up f n (some q_150))))))), (k0, .inr (1, [.int 0, .int 1, .int 1, .int 2, .int 1, .int 0, .int 1, .int 0])), (q_150, .inr (2, [.ref k0, .int 1, .int 0]))]) := hD
  refine lv_iload hx hb dX3_addLine_90 (lv_at hl 0 rfl) ?_
  refine W.widen (k := 1) (n := 3) (by omega) (by omega) ?_
  exact W.iret (v := (nI n)) hx hb hr (fun t ht hW => ⟨⟨(nI n), q_150, rfl, rfl, ⟨Nat.zero_le _, by rw [ht]; exact hP, va_K.moved hW.alike (hK.sub (tys' := [(cK, .object RX1), (cL, .object RX2)]) [0, 1] rfl), hD⟩⟩, hS.F ht⟩) hS.2.2 dX3_addLine_92
set_option maxHeartbeats 4000000 in
set_option maxRecDepth 100000 in
theorem c_Kind_init (l : Launch) (D : zG) (sz : Nat) (k0 : Nat) : Met l yX1_init wsX1_init ({ frames := 1, cells := 0, slots := 0, locals := 16 }) (zPc D [] ([(k0, .inr (1, [.int 0, .int 0, .int 0, .int 0, .int 0, .int 0, .int 0, .int 0]))]) sz [.ref k0, .int 0, .int 1, .int 1, .int 2, .int 1, .int 0, .int 1]) (va_Qv (fun (u : Unit) => True) (zB D (va_A ([(k0, .inr (1, [.int 0, .int 0, .int 0, .int 0, .int 0, .int 0, .int 0, .int 0]))]) sz) (fun _ => []) 0 (fun _ => [(k0, .inr (1, [.int 0, .int 1, .int 1, .int 2, .int 1, .int 0, .int 1, .int 0]))])) (va_A ([(k0, .inr (1, [.int 0, .int 0, .int 0, .int 0, .int 0, .int 0, .int 0, .int 0]))]) sz)) 0 0 (va_A ([(k0, .inr (1, [.int 0, .int 0, .int 0, .int 0, .int 0, .int 0, .int 0, .int 0]))]) sz) := by
  refine Met.ofW (cc := cX1_init) (maxL := 8) (ret := none) (by decide) rfl ?_
  intro p e s m args below meth c s₁ B hml hv
  obtain ⟨rfl, hsz, hP, hK, hD0⟩ := hv
  have hx := B.exec
  have hb := B.bytes
  have hr := B.returns
  have hts := atoms_spec (ws := wsX1_init) B.pre
  have hown : s.vm.findClass RX1 = some m.cls := findClass_of_methodNamed B.named
  have hlocks := B.notSynchronized
  have hin : meth.name = "<init>" := (name_of_methodNamed B.named B.method).1
  subst hsz
  have hD := hD0.self (sz := s.heap.size)
  generalize hAe : va_A ([(k0, .inr (1, [.int 0, .int 0, .int 0, .int 0, .int 0, .int 0, .int 0, .int 0]))]) s.heap.size = A at hD ⊢
  have hA : ∀ q : Nat, s.heap.size ≤ q → A q := fun q h => by rw [← hAe]; exact Or.inr h
  have hS : va_S A s.heap s.heap [] := va_S.rf
  have hl := lv_entry ([.ref k0, .int 0, .int 1, .int 1, .int 2, .int 1, .int 0, .int 1]) (n := 8) (Nat.le_of_ble_eq_true rfl)
  rw [lg_entry_eq]
  generalize (lg_sl ([.ref k0, .int 0, .int 1, .int 1, .int 2, .int 1, .int 0, .int 1]) ++ List.replicate (8 - (lg_sl ([.ref k0, .int 0, .int 1, .int 1, .int 2, .int 1, .int 0, .int 1])).length) Slot.unset).toArray = ls at hl ⊢
  have hl : lv_has ls 8 [(0, .ref k0), (1, .int 0), (2, .int 1), (3, .int 1), (4, .int 2), (5, .int 1), (6, .int 0), (7, .int 1)] := hl
  have hP : va_P D vwCl ([(k0, .inr (1, [.int 0, .int 0, .int 0, .int 0, .int 0, .int 0, .int 0, .int 0]))]) s.heap := hP
  generalize hRe : (headSpec _ _).room = R
  have hRf : R.frames = 1 := by rw [← hRe]; rfl
  have hRc : R.cells = 0 := by rw [← hRe]; rfl
  have hRs : R.slots = 0 := by rw [← hRe]; rfl
  have hRl : R.locals = 16 := by rw [← hRe]; rfl
  clear hRe
  refine lv_aload_n hx hb dX1_init_0 rfl (lv_at hl 0 rfl) ?_
  refine W.objInit hx hb hown (hts (.methodLink RX1 1 objectInit) (List.mem_of_getElem? (i := 1) (by rfl))) (hts (.instanceMethod objectInit) (List.mem_of_getElem? (i := 2) (by rfl))) (hts (.code objectInit ⟨#[0xb1]⟩ 1 none) (List.mem_of_getElem? (i := 3) (by rfl))) rfl (by rw [hml]; exact hl.1) rfl dX1_init_1 (by rw [hRf]; exact Nat.le_of_ble_eq_true rfl) (by rw [hRl]; exact Nat.le_of_ble_eq_true rfl) ?_
  refine W.eq (g2 := F0 m 4 ls []) rfl ?_
  refine lv_aload_n hx hb dX1_init_4 rfl (lv_at hl 0 rfl) ?_
  refine lv_iload_n hx hb dX1_init_5 rfl (lv_at hl 1 rfl) ?_
  refine va_putF (D := D) (ci := 1) (v := .int 0) (ty := .int) (C := RX1) (T := TX1) (N := 8) hx hb hts (fun _ h9 => List.mem_cons_of_mem _ (List.mem_append_right _ h9)) tyX1 tyX1_ok nmX1 hown hK hP hD hS 0 rfl rfl 0 (by decide) (hts (.fieldLink RX1 7 "PalletStack$Kind" "number" "I") (List.mem_of_getElem? (i := 4) (by rfl))) (fun _ h9 => h9) rfl hin rfl (by decide +kernel) rfl rfl (Nat.le_of_ble_eq_true rfl) dX1_init_6 (fun H locs hP hD hS => ?_)
  have hP : va_P D vwCl ([(k0, .inr (1, [.int 0, .int 0, .int 0, .int 0, .int 0, .int 0, .int 0, .int 0]))]) H := hP
  have hD : va_D A ([(k0, .inr (1, [.int 0, .int 0, .int 0, .int 0, .int 0, .int 0, .int 0, .int 0]))]) := hD
  refine lv_aload_n hx hb dX1_init_9 rfl (lv_at hl 0 rfl) ?_
  refine lv_iload_n hx hb dX1_init_10 rfl (lv_at hl 2 rfl) ?_
  refine va_putF (D := D) (ci := 1) (v := .int 1) (ty := .int) (C := RX1) (T := TX1) (N := 8) hx hb hts (fun _ h9 => List.mem_cons_of_mem _ (List.mem_append_right _ h9)) tyX1 tyX1_ok nmX1 hown hK hP hD hS 0 rfl rfl 1 (by decide) (hts (.fieldLink RX1 13 "PalletStack$Kind" "width" "I") (List.mem_of_getElem? (i := 5) (by rfl))) (fun _ h9 => h9) rfl hin rfl (by decide +kernel) rfl rfl (Nat.le_of_ble_eq_true rfl) dX1_init_11 (fun H locs hP hD hS => ?_)
  have hP : va_P D vwCl ([(k0, .inr (1, [.int 0, .int 1, .int 0, .int 0, .int 0, .int 0, .int 0, .int 0]))]) H := hP
  have hD : va_D A ([(k0, .inr (1, [.int 0, .int 1, .int 0, .int 0, .int 0, .int 0, .int 0, .int 0]))]) := hD
  refine lv_aload_n hx hb dX1_init_14 rfl (lv_at hl 0 rfl) ?_
  refine lv_iload_n hx hb dX1_init_15 rfl (lv_at hl 3 rfl) ?_
  refine va_putF (D := D) (ci := 1) (v := .int 1) (ty := .int) (C := RX1) (T := TX1) (N := 8) hx hb hts (fun _ h9 => List.mem_cons_of_mem _ (List.mem_append_right _ h9)) tyX1 tyX1_ok nmX1 hown hK hP hD hS 0 rfl rfl 2 (by decide) (hts (.fieldLink RX1 16 "PalletStack$Kind" "depth" "I") (List.mem_of_getElem? (i := 6) (by rfl))) (fun _ h9 => h9) rfl hin rfl (by decide +kernel) rfl rfl (Nat.le_of_ble_eq_true rfl) dX1_init_16 (fun H locs hP hD hS => ?_)
  have hP : va_P D vwCl ([(k0, .inr (1, [.int 0, .int 1, .int 1, .int 0, .int 0, .int 0, .int 0, .int 0]))]) H := hP
  have hD : va_D A ([(k0, .inr (1, [.int 0, .int 1, .int 1, .int 0, .int 0, .int 0, .int 0, .int 0]))]) := hD
  refine lv_aload_n hx hb dX1_init_19 rfl (lv_at hl 0 rfl) ?_
  refine lv_iload hx hb dX1_init_20 (lv_at hl 4 rfl) ?_
  refine va_putF (D := D) (ci := 1) (v := .int 2) (ty := .int) (C := RX1) (T := TX1) (N := 8) hx hb hts (fun _ h9 => List.mem_cons_of_mem _ (List.mem_append_right _ h9)) tyX1 tyX1_ok nmX1 hown hK hP hD hS 0 rfl rfl 3 (by decide) (hts (.fieldLink RX1 19 "PalletStack$Kind" "height" "I") (List.mem_of_getElem? (i := 7) (by rfl))) (fun _ h9 => h9) rfl hin rfl (by decide +kernel) rfl rfl (Nat.le_of_ble_eq_true rfl) dX1_init_22 (fun H locs hP hD hS => ?_)
  have hP : va_P D vwCl ([(k0, .inr (1, [.int 0, .int 1, .int 1, .int 2, .int 0, .int 0, .int 0, .int 0]))]) H := hP
  have hD : va_D A ([(k0, .inr (1, [.int 0, .int 1, .int 1, .int 2, .int 0, .int 0, .int 0, .int 0]))]) := hD
  refine lv_aload_n hx hb dX1_init_25 rfl (lv_at hl 0 rfl) ?_
  refine lv_iload hx hb dX1_init_26 (lv_at hl 5 rfl) ?_
  refine va_putF (D := D) (ci := 1) (v := .int 1) (ty := .int) (C := RX1) (T := TX1) (N := 8) hx hb hts (fun _ h9 => List.mem_cons_of_mem _ (List.mem_append_right _ h9)) tyX1 tyX1_ok nmX1 hown hK hP hD hS 0 rfl rfl 4 (by decide) (hts (.fieldLink RX1 22 "PalletStack$Kind" "weight" "I") (List.mem_of_getElem? (i := 8) (by rfl))) (fun _ h9 => h9) rfl hin rfl (by decide +kernel) rfl rfl (Nat.le_of_ble_eq_true rfl) dX1_init_28 (fun H locs hP hD hS => ?_)
  have hP : va_P D vwCl ([(k0, .inr (1, [.int 0, .int 1, .int 1, .int 2, .int 1, .int 0, .int 0, .int 0]))]) H := hP
  have hD : va_D A ([(k0, .inr (1, [.int 0, .int 1, .int 1, .int 2, .int 1, .int 0, .int 0, .int 0]))]) := hD
  refine lv_aload_n hx hb dX1_init_31 rfl (lv_at hl 0 rfl) ?_
  refine lv_iload hx hb dX1_init_32 (lv_at hl 6 rfl) ?_
  refine va_putF (D := D) (ci := 1) (v := .int 0) (ty := .int) (C := RX1) (T := TX1) (N := 8) hx hb hts (fun _ h9 => List.mem_cons_of_mem _ (List.mem_append_right _ h9)) tyX1 tyX1_ok nmX1 hown hK hP hD hS 0 rfl rfl 5 (by decide) (hts (.fieldLink RX1 25 "PalletStack$Kind" "strength" "I") (List.mem_of_getElem? (i := 9) (by rfl))) (fun _ h9 => h9) rfl hin rfl (by decide +kernel) rfl rfl (Nat.le_of_ble_eq_true rfl) dX1_init_34 (fun H locs hP hD hS => ?_)
  have hP : va_P D vwCl ([(k0, .inr (1, [.int 0, .int 1, .int 1, .int 2, .int 1, .int 0, .int 0, .int 0]))]) H := hP
  have hD : va_D A ([(k0, .inr (1, [.int 0, .int 1, .int 1, .int 2, .int 1, .int 0, .int 0, .int 0]))]) := hD
  refine lv_aload_n hx hb dX1_init_37 rfl (lv_at hl 0 rfl) ?_
  refine lv_iload hx hb dX1_init_38 (lv_at hl 7 rfl) ?_
  refine lv_iconst (v := 1) hx hb dX1_init_40 (by decide) ?_
  refine lv_icmp_eq (tgt := 50) hx hb dX1_init_41 (by decide) (fun c_154 => ?_) (fun c_154 => absurd (rfl) c_154)
  refine lv_iconst (v := 1) hx hb dX1_init_50 (by decide) ?_
  refine lv_goto (tgt := 55) hx hb dX1_init_51 (by decide) ?_
  refine va_putF (D := D) (ci := 1) (v := .int 1) (ty := .boolean) (C := RX1) (T := TX1) (N := 8) hx hb hts (fun _ h9 => List.mem_cons_of_mem _ (List.mem_append_right _ h9)) tyX1 tyX1_ok nmX1 hown hK hP hD hS 0 rfl rfl 6 (by decide) (hts (.fieldLink RX1 28 "PalletStack$Kind" "canTurn" "Z") (List.mem_of_getElem? (i := 10) (by rfl))) (fun _ h9 => h9) rfl hin rfl (by decide +kernel) rfl rfl (Nat.le_of_ble_eq_true rfl) dX1_init_55 (fun H locs hP hD hS => ?_)
  have hP : va_P D vwCl ([(k0, .inr (1, [.int 0, .int 1, .int 1, .int 2, .int 1, .int 0, .int 1, .int 0]))]) H := hP
  have hD : va_D A ([(k0, .inr (1, [.int 0, .int 1, .int 1, .int 2, .int 1, .int 0, .int 1, .int 0]))]) := hD
  refine lv_aload_n hx hb dX1_init_58 rfl (lv_at hl 0 rfl) ?_
  refine lv_iload hx hb dX1_init_59 (lv_at hl 7 rfl) ?_
  refine lv_iconst (v := 2) hx hb dX1_init_61 (by decide) ?_
  refine lv_icmp_eq (tgt := 71) hx hb dX1_init_62 (by decide) (fun c_155 => absurd c_155 (by decide)) (fun c_155 => ?_)
  refine lv_iload hx hb dX1_init_65 (lv_at hl 7 rfl) ?_
  refine lv_iconst (v := 3) hx hb dX1_init_67 (by decide) ?_
  refine lv_icmp_ne (tgt := 75) hx hb dX1_init_68 (by decide) (fun c_156 => ?_) (fun c_156 => absurd c_156 (by decide))
  refine lv_iconst (v := 0) hx hb dX1_init_75 (by decide) ?_
  refine va_putF (D := D) (ci := 1) (v := .int 0) (ty := .boolean) (C := RX1) (T := TX1) (N := 8) hx hb hts (fun _ h9 => List.mem_cons_of_mem _ (List.mem_append_right _ h9)) tyX1 tyX1_ok nmX1 hown hK hP hD hS 0 rfl rfl 7 (by decide) (hts (.fieldLink RX1 32 "PalletStack$Kind" "needsDeck" "Z") (List.mem_of_getElem? (i := 11) (by rfl))) (fun _ h9 => h9) rfl hin rfl (by decide +kernel) rfl rfl (Nat.le_of_ble_eq_true rfl) dX1_init_76 (fun H locs hP hD hS => ?_)
  have hP : va_P D vwCl ([(k0, .inr (1, [.int 0, .int 1, .int 1, .int 2, .int 1, .int 0, .int 1, .int 0]))]) H := hP
  have hD : va_D A ([(k0, .inr (1, [.int 0, .int 1, .int 1, .int 2, .int 1, .int 0, .int 1, .int 0]))]) := hD
  exact W.vret hx hb hr (fun t ht hW => ⟨⟨(), rfl, True.intro, ⟨Nat.zero_le _, by rw [ht]; exact hP, va_K.moved hW.alike (hK.sub (tys' := []) [] rfl), hD⟩⟩, hS.F ht⟩) hS.2.2 dX1_init_79
set_option maxHeartbeats 4000000 in
set_option maxRecDepth 100000 in
theorem c_addKind (l : Launch) (D : zG) (sz : Nat) (o kA iA tA tr lA n : Nat) (cK : ClassId) (hn : n = 0) : Met l yX3_addKind wsX3_addKind ({ frames := 2, cells := 1, slots := 8, locals := 60 }) (zPc D [(cK, .object RX1)] ([(o, .inr (3, [.ref kA, .int 0, .int 20, .int 60, .int 2000, .int 0, .ref iA, .int 0, .int 0, .int 0, .ref tA, .ref tr, .ref lA, .int (nI n)])), (kA, .inl (cK, 10, .inr (.inr (.inr (.inr (fun _ => none))))))]) sz [.ref o, .int 1, .int 1, .int 2, .int 1, .int 0, .int 1]) (va_Qi (fun (r : Int32) (u : Nat) => r = 0) (zB D (va_A ([(o, .inr (3, [.ref kA, .int 0, .int 20, .int 60, .int 2000, .int 0, .ref iA, .int 0, .int 0, .int 0, .ref tA, .ref tr, .ref lA, .int (nI n)])), (kA, .inl (cK, 10, .inr (.inr (.inr (.inr (fun _ => none))))))]) sz) (fun _ => [(cK, .object RX1)]) 0 (fun u => [(o, .inr (3, [.ref kA, .int 1, .int 20, .int 60, .int 2000, .int 0, .ref iA, .int 0, .int 0, .int 0, .ref tA, .ref tr, .ref lA, .int (nI n)])), (kA, .inl (cK, 10, .inr (.inr (.inr (.inr (va_up (fun _ => none) 0 (some u))))))), (u, .inr (1, [.int 0, .int 1, .int 1, .int 2, .int 1, .int 0, .int 1, .int 0]))])) (va_A ([(o, .inr (3, [.ref kA, .int 0, .int 20, .int 60, .int 2000, .int 0, .ref iA, .int 0, .int 0, .int 0, .ref tA, .ref tr, .ref lA, .int (nI n)])), (kA, .inl (cK, 10, .inr (.inr (.inr (.inr (fun _ => none))))))]) sz)) 1 8 (va_A ([(o, .inr (3, [.ref kA, .int 0, .int 20, .int 60, .int 2000, .int 0, .ref iA, .int 0, .int 0, .int 0, .ref tA, .ref tr, .ref lA, .int (nI n)])), (kA, .inl (cK, 10, .inr (.inr (.inr (.inr (fun _ => none))))))]) sz) := by
  refine Met.ofW (cc := cX3_addKind) (maxL := 8) (ret := (some .int)) (by decide) rfl ?_
  intro p e s m args below meth c s₁ B hml hv
  obtain ⟨rfl, hsz, hP, hK, hD0⟩ := hv
  have hx := B.exec
  have hb := B.bytes
  have hr := B.returns
  have hts := atoms_spec (ws := wsX3_addKind) B.pre
  have hown : s.vm.findClass RX3 = some m.cls := findClass_of_methodNamed B.named
  have hlocks := B.notSynchronized
  subst hsz
  have hD := hD0.self (sz := s.heap.size)
  generalize hAe : va_A ([(o, .inr (3, [.ref kA, .int 0, .int 20, .int 60, .int 2000, .int 0, .ref iA, .int 0, .int 0, .int 0, .ref tA, .ref tr, .ref lA, .int (nI n)])), (kA, .inl (cK, 10, .inr (.inr (.inr (.inr (fun _ => none))))))]) s.heap.size = A at hD ⊢
  have hA : ∀ q : Nat, s.heap.size ≤ q → A q := fun q h => by rw [← hAe]; exact Or.inr h
  have hS : va_S A s.heap s.heap [] := va_S.rf
  have hl := lv_entry ([.ref o, .int 1, .int 1, .int 2, .int 1, .int 0, .int 1]) (n := 8) (Nat.le_of_ble_eq_true rfl)
  rw [lg_entry_eq]
  generalize (lg_sl ([.ref o, .int 1, .int 1, .int 2, .int 1, .int 0, .int 1]) ++ List.replicate (8 - (lg_sl ([.ref o, .int 1, .int 1, .int 2, .int 1, .int 0, .int 1])).length) Slot.unset).toArray = ls at hl ⊢
  have hl : lv_has ls 8 [(0, .ref o), (1, .int 1), (2, .int 1), (3, .int 2), (4, .int 1), (5, .int 0), (6, .int 1)] := hl
  have hP : va_P D vwCl ([(o, .inr (3, [.ref kA, .int 0, .int 20, .int 60, .int 2000, .int 0, .ref iA, .int 0, .int 0, .int 0, .ref tA, .ref tr, .ref lA, .int (nI n)])), (kA, .inl (cK, 10, .inr (.inr (.inr (.inr (fun _ => none))))))]) s.heap := hP
  generalize hRe : (headSpec _ _).room = R
  have hRf : R.frames = 2 := by rw [← hRe]; rfl
  have hRc : R.cells = 1 := by rw [← hRe]; rfl
  have hRs : R.slots = 8 := by rw [← hRe]; rfl
  have hRl : R.locals = 60 := by rw [← hRe]; rfl
  clear hRe
  refine lv_iload_n hx hb dX3_addKind_0 rfl (lv_at hl 1 rfl) ?_
  refine lv_iconst (v := 1) hx hb dX3_addKind_1 (by decide) ?_
  refine lv_bipush (v := 6) hx hb dX3_addKind_2 (by decide) ?_
  refine zrdS (As := [.int 1, .int 1, .int 6]) (rest := []) (wc := []) ⟨hx, hb, hml, hown, hts⟩ (c_isWithin l D _ 1 1 6) (va_cwS 3 hts gX3_addKind_X3_isWithin rfl rfl rfl (by decide +kernel) ⟨by rw [hRf]; exact Nat.le_of_ble_eq_true rfl, by rw [hRl]; exact Nat.le_of_ble_eq_true rfl⟩) hK hP hD [] rfl (by decide) [] rfl rfl hl.1 rfl (Nat.le_of_ble_eq_true rfl) dX3_addKind_4 ⟨by omega, by omega⟩ (fun r_157 hr_157 => ?_)
  refine lv_topi (fun v_158 ev_158 => ?_)
  obtain rfl : v_158 = 1 := ev_158.trans (hr_157.trans (by decide))
  refine lv_if_eq (tgt := 64) hx hb dX3_addKind_7 (by decide) (fun c_159 => absurd c_159 (by decide)) (fun c_159 => ?_)
  refine lv_iload_n hx hb dX3_addKind_10 rfl (lv_at hl 2 rfl) ?_
  refine lv_iconst (v := 1) hx hb dX3_addKind_11 (by decide) ?_
  refine lv_bipush (v := 6) hx hb dX3_addKind_12 (by decide) ?_
  refine zrdS (As := [.int 1, .int 1, .int 6]) (rest := []) (wc := []) ⟨hx, hb, hml, hown, hts⟩ (c_isWithin l D _ 1 1 6) (va_cwS 3 hts gX3_addKind_X3_isWithin rfl rfl rfl (by decide +kernel) ⟨by rw [hRf]; exact Nat.le_of_ble_eq_true rfl, by rw [hRl]; exact Nat.le_of_ble_eq_true rfl⟩) hK hP hD [] rfl (by decide) [] rfl rfl hl.1 rfl (Nat.le_of_ble_eq_true rfl) dX3_addKind_14 ⟨by omega, by omega⟩ (fun r_160 hr_160 => ?_)
  refine lv_topi (fun v_161 ev_161 => ?_)
  obtain rfl : v_161 = 1 := ev_161.trans (hr_160.trans (by decide))
  refine lv_if_eq (tgt := 64) hx hb dX3_addKind_17 (by decide) (fun c_162 => absurd c_162 (by decide)) (fun c_162 => ?_)
  refine lv_iload_n hx hb dX3_addKind_20 rfl (lv_at hl 3 rfl) ?_
  refine lv_iconst (v := 1) hx hb dX3_addKind_21 (by decide) ?_
  refine lv_bipush (v := 8) hx hb dX3_addKind_22 (by decide) ?_
  refine zrdS (As := [.int 2, .int 1, .int 8]) (rest := []) (wc := []) ⟨hx, hb, hml, hown, hts⟩ (c_isWithin l D _ 2 1 8) (va_cwS 3 hts gX3_addKind_X3_isWithin rfl rfl rfl (by decide +kernel) ⟨by rw [hRf]; exact Nat.le_of_ble_eq_true rfl, by rw [hRl]; exact Nat.le_of_ble_eq_true rfl⟩) hK hP hD [] rfl (by decide) [] rfl rfl hl.1 rfl (Nat.le_of_ble_eq_true rfl) dX3_addKind_24 ⟨by omega, by omega⟩ (fun r_163 hr_163 => ?_)
  refine lv_topi (fun v_164 ev_164 => ?_)
  obtain rfl : v_164 = 1 := ev_164.trans (hr_163.trans (by decide))
  refine lv_if_eq (tgt := 64) hx hb dX3_addKind_27 (by decide) (fun c_165 => absurd c_165 (by decide)) (fun c_165 => ?_)
  refine lv_iload hx hb dX3_addKind_30 (lv_at hl 4 rfl) ?_
  refine lv_iconst (v := 1) hx hb dX3_addKind_32 (by decide) ?_
  refine lv_sipush (v := 500) hx hb dX3_addKind_33 (by decide) ?_
  refine zrdS (As := [.int 1, .int 1, .int 500]) (rest := []) (wc := []) ⟨hx, hb, hml, hown, hts⟩ (c_isWithin l D _ 1 1 500) (va_cwS 3 hts gX3_addKind_X3_isWithin rfl rfl rfl (by decide +kernel) ⟨by rw [hRf]; exact Nat.le_of_ble_eq_true rfl, by rw [hRl]; exact Nat.le_of_ble_eq_true rfl⟩) hK hP hD [] rfl (by decide) [] rfl rfl hl.1 rfl (Nat.le_of_ble_eq_true rfl) dX3_addKind_36 ⟨by omega, by omega⟩ (fun r_166 hr_166 => ?_)
  refine lv_topi (fun v_167 ev_167 => ?_)
  obtain rfl : v_167 = 1 := ev_167.trans (hr_166.trans (by decide))
  refine lv_if_eq (tgt := 64) hx hb dX3_addKind_39 (by decide) (fun c_168 => absurd c_168 (by decide)) (fun c_168 => ?_)
  refine lv_iload hx hb dX3_addKind_42 (lv_at hl 5 rfl) ?_
  refine lv_iconst (v := 0) hx hb dX3_addKind_44 (by decide) ?_
  refine lv_sipush (v := 5000) hx hb dX3_addKind_45 (by decide) ?_
  refine zrdS (As := [.int 0, .int 0, .int 5000]) (rest := []) (wc := []) ⟨hx, hb, hml, hown, hts⟩ (c_isWithin l D _ 0 0 5000) (va_cwS 3 hts gX3_addKind_X3_isWithin rfl rfl rfl (by decide +kernel) ⟨by rw [hRf]; exact Nat.le_of_ble_eq_true rfl, by rw [hRl]; exact Nat.le_of_ble_eq_true rfl⟩) hK hP hD [] rfl (by decide) [] rfl rfl hl.1 rfl (Nat.le_of_ble_eq_true rfl) dX3_addKind_48 ⟨by omega, by omega⟩ (fun r_169 hr_169 => ?_)
  refine lv_topi (fun v_170 ev_170 => ?_)
  obtain rfl : v_170 = 1 := ev_170.trans (hr_169.trans (by decide))
  refine lv_if_eq (tgt := 64) hx hb dX3_addKind_51 (by decide) (fun c_171 => absurd c_171 (by decide)) (fun c_171 => ?_)
  refine lv_iload hx hb dX3_addKind_54 (lv_at hl 6 rfl) ?_
  refine lv_iconst (v := 0) hx hb dX3_addKind_56 (by decide) ?_
  refine lv_iconst (v := 3) hx hb dX3_addKind_57 (by decide) ?_
  refine zrdS (As := [.int 1, .int 0, .int 3]) (rest := []) (wc := []) ⟨hx, hb, hml, hown, hts⟩ (c_isWithin l D _ 1 0 3) (va_cwS 3 hts gX3_addKind_X3_isWithin rfl rfl rfl (by decide +kernel) ⟨by rw [hRf]; exact Nat.le_of_ble_eq_true rfl, by rw [hRl]; exact Nat.le_of_ble_eq_true rfl⟩) hK hP hD [] rfl (by decide) [] rfl rfl hl.1 rfl (Nat.le_of_ble_eq_true rfl) dX3_addKind_58 ⟨by omega, by omega⟩ (fun r_172 hr_172 => ?_)
  refine lv_topi (fun v_173 ev_173 => ?_)
  obtain rfl : v_173 = 1 := ev_173.trans (hr_172.trans (by decide))
  refine lv_if_ne (tgt := 72) hx hb dX3_addKind_61 (by decide) (fun c_174 => ?_) (fun c_174 => absurd c_174 (by decide))
  refine lv_aload_n hx hb dX3_addKind_72 rfl (lv_at hl 0 rfl) ?_
  refine va_get (D := D) (ci := 3) (v := .int 0) (C := RX3) (T := TX3) (N := 14) hx hb hts (fun _ h9 => List.mem_cons_of_mem _ (List.mem_append_left _ (List.mem_append_left _ (List.mem_append_left _ (List.mem_append_right _ h9))))) hown hK hP 0 rfl rfl 1 (by decide) (hts (.fieldLink RX3 15 "PalletStack" "kindCount" "I") (List.mem_of_getElem? (i := 5) (by rfl))) (fun _ h9 => h9) rfl dX3_addKind_73 ?_
  refine lv_if_lt (tgt := 88) hx hb dX3_addKind_76 (by decide) (fun c_175 => absurd c_175 (by decide)) (fun c_175 => ?_)
  refine lv_aload_n hx hb dX3_addKind_79 rfl (lv_at hl 0 rfl) ?_
  refine va_get (D := D) (ci := 3) (v := .int 0) (C := RX3) (T := TX3) (N := 14) hx hb hts (fun _ h9 => List.mem_cons_of_mem _ (List.mem_append_left _ (List.mem_append_left _ (List.mem_append_left _ (List.mem_append_right _ h9))))) hown hK hP 0 rfl rfl 1 (by decide) (hts (.fieldLink RX3 15 "PalletStack" "kindCount" "I") (List.mem_of_getElem? (i := 5) (by rfl))) (fun _ h9 => h9) rfl dX3_addKind_80 ?_
  refine lv_bipush (v := 10) hx hb dX3_addKind_83 (by decide) ?_
  refine lv_icmp_lt (tgt := 96) hx hb dX3_addKind_85 (by decide) (fun c_176 => ?_) (fun c_176 => absurd (by decide) c_176)
  refine lv_aload_n hx hb dX3_addKind_96 rfl (lv_at hl 0 rfl) ?_
  refine va_get (D := D) (ci := 3) (v := .int 0) (C := RX3) (T := TX3) (N := 14) hx hb hts (fun _ h9 => List.mem_cons_of_mem _ (List.mem_append_left _ (List.mem_append_left _ (List.mem_append_left _ (List.mem_append_right _ h9))))) hown hK hP 0 rfl rfl 1 (by decide) (hts (.fieldLink RX3 15 "PalletStack" "kindCount" "I") (List.mem_of_getElem? (i := 5) (by rfl))) (fun _ h9 => h9) rfl dX3_addKind_97 ?_
  refine lv_istore (lv' := [(7, .int 0), (0, .ref o), (1, .int 1), (2, .int 1), (3, .int 2), (4, .int 1), (5, .int 0), (6, .int 1)]) hx hb dX3_addKind_100 hl (by decide) rfl (fun ls hl => ?_)
  refine lv_aload_n hx hb dX3_addKind_102 rfl (lv_at hl 1 rfl) ?_
  refine va_get (D := D) (ci := 3) (v := .ref kA) (C := RX3) (T := TX3) (N := 14) hx hb hts (fun _ h9 => List.mem_cons_of_mem _ (List.mem_append_left _ (List.mem_append_left _ (List.mem_append_left _ (List.mem_append_right _ h9))))) hown hK hP 0 rfl rfl 0 (by decide) (hts (.fieldLink RX3 11 "PalletStack" "kinds" "[LPalletStack$Kind;") (List.mem_of_getElem? (i := 6) (by rfl))) (fun _ h9 => h9) rfl dX3_addKind_103 ?_
  refine lv_iload hx hb dX3_addKind_106 (lv_at hl 0 rfl) ?_
  refine va_new (D := D) (ci := 1) (fs := [.int 0, .int 0, .int 0, .int 0, .int 0, .int 0, .int 0, .int 0]) (C := RX1) (T := TX1) (N := 8) hx hb hts (fun _ h9 => List.mem_cons_of_mem _ (List.mem_append_left _ (List.mem_append_left _ (List.mem_append_right _ h9)))) tyX1 tyX1_ok hown (hts (.classLink RX3 9 RX1) (List.mem_of_getElem? (i := 7) (by rfl))) (hts (.instantiable RX1 8) (List.mem_of_getElem? (i := 8) (by rfl))) (hts (.initialized RX1) (List.mem_of_getElem? (i := 9) (by rfl))) hK hP hD hS hA rfl (fun j hj => by rcases (show j = 0 ∨ j = 1 ∨ j = 2 ∨ j = 3 ∨ j = 4 ∨ j = 5 ∨ j = 6 ∨ j = 7 by omega) with rfl | rfl | rfl | rfl | rfl | rfl | rfl | rfl <;> rfl) (by omega) (by omega) dX3_addKind_108 (fun q_177 H hP hD hS => ?_)
  have hP : va_P D vwCl ([(o, .inr (3, [.ref kA, .int 0, .int 20, .int 60, .int 2000, .int 0, .ref iA, .int 0, .int 0, .int 0, .ref tA, .ref tr, .ref lA, .int (nI n)])), (kA, .inl (cK, 10, .inr (.inr (.inr (.inr (fun _ => none)))))), (q_177, .inr (1, [.int 0, .int 0, .int 0, .int 0, .int 0, .int 0, .int 0, .int 0]))]) H := hP
  have hD : va_D A ([(o, .inr (3, [.ref kA, .int 0, .int 20, .int 60, .int 2000, .int 0, .ref iA, .int 0, .int 0, .int 0, .ref tA, .ref tr, .ref lA, .int (nI n)])), (kA, .inl (cK, 10, .inr (.inr (.inr (.inr (fun _ => none)))))), (q_177, .inr (1, [.int 0, .int 0, .int 0, .int 0, .int 0, .int 0, .int 0, .int 0]))]) := hD
  refine lv_dup hx hb dX3_addKind_111 rfl ?_
  refine lv_iload hx hb dX3_addKind_112 (lv_at hl 0 rfl) ?_
  refine lv_iload_n hx hb dX3_addKind_114 rfl (lv_at hl 2 rfl) ?_
  refine lv_iload_n hx hb dX3_addKind_115 rfl (lv_at hl 3 rfl) ?_
  refine lv_iload_n hx hb dX3_addKind_116 rfl (lv_at hl 4 rfl) ?_
  refine lv_iload hx hb dX3_addKind_117 (lv_at hl 5 rfl) ?_
  refine lv_iload hx hb dX3_addKind_119 (lv_at hl 6 rfl) ?_
  refine lv_iload hx hb dX3_addKind_121 (lv_at hl 7 rfl) ?_
  refine zcallvI (As := [.int 0, .int 1, .int 1, .int 2, .int 1, .int 0, .int 1]) (rest := [.ref q_177, .int 0, .ref kA]) (wc := [(q_177, .inr (1, [.int 0, .int 0, .int 0, .int 0, .int 0, .int 0, .int 0, .int 0]))]) (wr := [(o, .inr (3, [.ref kA, .int 0, .int 20, .int 60, .int 2000, .int 0, .ref iA, .int 0, .int 0, .int 0, .ref tA, .ref tr, .ref lA, .int (nI n)])), (kA, .inl (cK, 10, .inr (.inr (.inr (.inr (fun _ => none))))))]) ⟨hx, hb, hml, hown, hts⟩ (c_Kind_init l D _ q_177) (⟨callB_of 7 hts gX3_addKind_X1_init rfl rfl rfl (hts (.initialized RX1) (List.mem_of_getElem? (i := 9) (by rfl))) (hts (.methodLink RX3 75 yX1_init) (List.mem_of_getElem? (i := 14) (by rfl))) (by decide +kernel) ⟨by rw [hRf]; exact Nat.le_of_ble_eq_true rfl, by rw [hRl]; exact Nat.le_of_ble_eq_true rfl⟩, rfl, (hts (.instanceMethod yX1_init) (List.mem_of_getElem? (i := 15) (by rfl)))⟩) hK hP hD hS hA [2] [0, 1] rfl (by decide) rfl (by decide) (by decide) [] rfl rfl hl.1 rfl (Nat.le_of_ble_eq_true rfl) dX3_addKind_123 ⟨by omega, by omega⟩ (fun u_179 H locs hwu_179 hnu_179 hzu_179 hK hP hD hS => ?_)
  have hK : va_K D vwCl [(cK, .object RX1)] s := hK
  have hP : va_P D vwCl ([(o, .inr (3, [.ref kA, .int 0, .int 20, .int 60, .int 2000, .int 0, .ref iA, .int 0, .int 0, .int 0, .ref tA, .ref tr, .ref lA, .int (nI n)])), (kA, .inl (cK, 10, .inr (.inr (.inr (.inr (fun _ => none)))))), (q_177, .inr (1, [.int 0, .int 1, .int 1, .int 2, .int 1, .int 0, .int 1, .int 0]))]) H := hP
  have hD : va_D A ([(o, .inr (3, [.ref kA, .int 0, .int 20, .int 60, .int 2000, .int 0, .ref iA, .int 0, .int 0, .int 0, .ref tA, .ref tr, .ref lA, .int (nI n)])), (kA, .inl (cK, 10, .inr (.inr (.inr (.inr (fun _ => none)))))), (q_177, .inr (1, [.int 0, .int 1, .int 1, .int 2, .int 1, .int 0, .int 1, .int 0]))]) := hD
  refine va_astq hx hb hK hP hD hS 1 0 2 1 rfl rfl rfl rfl (vp_in_nI (n := 0) (N := 10) (by decide) (by decide)) dX3_addKind_126 (fun H locs hP hD hS => ?_)
  have hP : va_P D vwCl ([(o, .inr (3, [.ref kA, .int 0, .int 20, .int 60, .int 2000, .int 0, .ref iA, .int 0, .int 0, .int 0, .ref tA, .ref tr, .ref lA, .int (nI n)])), (kA, .inl (cK, 10, .inr (.inr (.inr (.inr (va_up (fun _ => none) 0 (some q_177))))))), (q_177, .inr (1, [.int 0, .int 1, .int 1, .int 2, .int 1, .int 0, .int 1, .int 0]))]) H := hP
  have hD : va_D A ([(o, .inr (3, [.ref kA, .int 0, .int 20, .int 60, .int 2000, .int 0, .ref iA, .int 0, .int 0, .int 0, .ref tA, .ref tr, .ref lA, .int (nI n)])), (kA, .inl (cK, 10, .inr (.inr (.inr (.inr (va_up (fun _ => none) 0 (some q_177))))))), (q_177, .inr (1, [.int 0, .int 1, .int 1, .int 2, .int 1, .int 0, .int 1, .int 0]))]) := hD
  refine lv_aload_n hx hb dX3_addKind_127 rfl (lv_at hl 1 rfl) ?_
  refine lv_iload hx hb dX3_addKind_128 (lv_at hl 0 rfl) ?_
  refine lv_iconst (v := 1) hx hb dX3_addKind_130 (by decide) ?_
  refine lv_iadd hx hb dX3_addKind_131 ?_
  refine lv_topi (fun v_180 ev_180 => ?_)
  obtain rfl : v_180 = 1 := ev_180.trans (by decide)
  refine va_put (D := D) (ci := 3) (v := .int 1) (ty := .int) (C := RX3) (T := TX3) (N := 14) hx hb hts (fun _ h9 => List.mem_cons_of_mem _ (List.mem_append_left _ (List.mem_append_left _ (List.mem_append_left _ (List.mem_append_right _ h9))))) tyX3 tyX3_ok nmX3 hown hK hP hD hS 0 rfl rfl 1 (by decide) (hts (.fieldLink RX3 15 "PalletStack" "kindCount" "I") (List.mem_of_getElem? (i := 5) (by rfl))) (fun _ h9 => h9) rfl (by decide +kernel) rfl rfl (Nat.le_of_ble_eq_true rfl) dX3_addKind_132 (fun H locs hP hD hS => ?_)
  have hP : va_P D vwCl ([(o, .inr (3, [.ref kA, .int 1, .int 20, .int 60, .int 2000, .int 0, .ref iA, .int 0, .int 0, .int 0, .ref tA, .ref tr, .ref lA, .int (nI n)])), (kA, .inl (cK, 10, .inr (.inr (.inr (.inr (va_up (fun _ => none) 0 (some q_177))))))), (q_177, .inr (1, [.int 0, .int 1, .int 1, .int 2, .int 1, .int 0, .int 1, .int 0]))]) H := hP
  have hD : va_D A ([(o, .inr (3, [.ref kA, .int 1, .int 20, .int 60, .int 2000, .int 0, .ref iA, .int 0, .int 0, .int 0, .ref tA, .ref tr, .ref lA, .int (nI n)])), (kA, .inl (cK, 10, .inr (.inr (.inr (.inr (va_up (fun _ => none) 0 (some q_177))))))), (q_177, .inr (1, [.int 0, .int 1, .int 1, .int 2, .int 1, .int 0, .int 1, .int 0]))]) := hD
  refine lv_iload hx hb dX3_addKind_135 (lv_at hl 0 rfl) ?_
  refine W.widen (k := 1) (n := 8) (by omega) (by omega) ?_
  exact W.iret (v := 0) hx hb hr (fun t ht hW => ⟨⟨0, q_177, rfl, rfl, ⟨Nat.zero_le _, by rw [ht]; exact hP, va_K.moved hW.alike (hK.sub (tys' := [(cK, .object RX1)]) [0] rfl), hD⟩⟩, hS.F ht⟩) hS.2.2 dX3_addKind_137
set_option maxHeartbeats 4000000 in
set_option maxRecDepth 100000 in
theorem c_setRules (l : Launch) (D : zG) (sz : Nat) (o kA iA tA tr lA n : Nat) : Met l yX3_setRules wsX3_setRules ({ frames := 1, cells := 0, slots := 0, locals := 25 }) (zPc D [] ([(o, .inr (3, [.ref kA, .int 1, .int 20, .int 60, .int 2000, .int 0, .ref iA, .int 0, .int 0, .int 0, .ref tA, .ref tr, .ref lA, .int (nI n)]))]) sz [.ref o, .int 1, .int 0, .int 1, .int 0]) (va_Qi (fun (r : Int32) (u : Unit) => r = 20) (zB D (va_A ([(o, .inr (3, [.ref kA, .int 1, .int 20, .int 60, .int 2000, .int 0, .ref iA, .int 0, .int 0, .int 0, .ref tA, .ref tr, .ref lA, .int (nI n)]))]) sz) (fun _ => []) 0 (fun _ => [(o, .inr (3, [.ref kA, .int 1, .int 1, .int 0, .int 1, .int 0, .ref iA, .int 0, .int 0, .int 0, .ref tA, .ref tr, .ref lA, .int (nI n)]))])) (va_A ([(o, .inr (3, [.ref kA, .int 1, .int 20, .int 60, .int 2000, .int 0, .ref iA, .int 0, .int 0, .int 0, .ref tA, .ref tr, .ref lA, .int (nI n)]))]) sz)) 0 0 (va_A ([(o, .inr (3, [.ref kA, .int 1, .int 20, .int 60, .int 2000, .int 0, .ref iA, .int 0, .int 0, .int 0, .ref tA, .ref tr, .ref lA, .int (nI n)]))]) sz) := by
  refine Met.ofW (cc := cX3_setRules) (maxL := 6) (ret := (some .int)) (by decide) rfl ?_
  intro p e s m args below meth c s₁ B hml hv
  obtain ⟨rfl, hsz, hP, hK, hD0⟩ := hv
  have hx := B.exec
  have hb := B.bytes
  have hr := B.returns
  have hts := atoms_spec (ws := wsX3_setRules) B.pre
  have hown : s.vm.findClass RX3 = some m.cls := findClass_of_methodNamed B.named
  have hlocks := B.notSynchronized
  subst hsz
  have hD := hD0.self (sz := s.heap.size)
  generalize hAe : va_A ([(o, .inr (3, [.ref kA, .int 1, .int 20, .int 60, .int 2000, .int 0, .ref iA, .int 0, .int 0, .int 0, .ref tA, .ref tr, .ref lA, .int (nI n)]))]) s.heap.size = A at hD ⊢
  have hA : ∀ q : Nat, s.heap.size ≤ q → A q := fun q h => by rw [← hAe]; exact Or.inr h
  have hS : va_S A s.heap s.heap [] := va_S.rf
  have hl := lv_entry ([.ref o, .int 1, .int 0, .int 1, .int 0]) (n := 6) (Nat.le_of_ble_eq_true rfl)
  rw [lg_entry_eq]
  generalize (lg_sl ([.ref o, .int 1, .int 0, .int 1, .int 0]) ++ List.replicate (6 - (lg_sl ([.ref o, .int 1, .int 0, .int 1, .int 0])).length) Slot.unset).toArray = ls at hl ⊢
  have hl : lv_has ls 6 [(0, .ref o), (1, .int 1), (2, .int 0), (3, .int 1), (4, .int 0)] := hl
  have hP : va_P D vwCl ([(o, .inr (3, [.ref kA, .int 1, .int 20, .int 60, .int 2000, .int 0, .ref iA, .int 0, .int 0, .int 0, .ref tA, .ref tr, .ref lA, .int (nI n)]))]) s.heap := hP
  generalize hRe : (headSpec _ _).room = R
  have hRf : R.frames = 1 := by rw [← hRe]; rfl
  have hRc : R.cells = 0 := by rw [← hRe]; rfl
  have hRs : R.slots = 0 := by rw [← hRe]; rfl
  have hRl : R.locals = 25 := by rw [← hRe]; rfl
  clear hRe
  refine lv_iload_n hx hb dX3_setRules_0 rfl (lv_at hl 1 rfl) ?_
  refine lv_iconst (v := 1) hx hb dX3_setRules_1 (by decide) ?_
  refine lv_bipush (v := 40) hx hb dX3_setRules_2 (by decide) ?_
  refine zrdS (As := [.int 1, .int 1, .int 40]) (rest := []) (wc := []) ⟨hx, hb, hml, hown, hts⟩ (c_isWithin l D _ 1 1 40) (va_cwS 3 hts gX3_setRules_X3_isWithin rfl rfl rfl (by decide +kernel) ⟨by rw [hRf]; exact Nat.le_of_ble_eq_true rfl, by rw [hRl]; exact Nat.le_of_ble_eq_true rfl⟩) hK hP hD [] rfl (by decide) [] rfl rfl hl.1 rfl (Nat.le_of_ble_eq_true rfl) dX3_setRules_4 ⟨by omega, by omega⟩ (fun r_181 hr_181 => ?_)
  refine lv_topi (fun v_182 ev_182 => ?_)
  obtain rfl : v_182 = 1 := ev_182.trans (hr_181.trans (by decide))
  refine lv_if_eq (tgt := 31) hx hb dX3_setRules_7 (by decide) (fun c_183 => absurd c_183 (by decide)) (fun c_183 => ?_)
  refine lv_iload_n hx hb dX3_setRules_10 rfl (lv_at hl 2 rfl) ?_
  refine lv_iconst (v := 0) hx hb dX3_setRules_11 (by decide) ?_
  refine lv_bipush (v := 100) hx hb dX3_setRules_12 (by decide) ?_
  refine zrdS (As := [.int 0, .int 0, .int 100]) (rest := []) (wc := []) ⟨hx, hb, hml, hown, hts⟩ (c_isWithin l D _ 0 0 100) (va_cwS 3 hts gX3_setRules_X3_isWithin rfl rfl rfl (by decide +kernel) ⟨by rw [hRf]; exact Nat.le_of_ble_eq_true rfl, by rw [hRl]; exact Nat.le_of_ble_eq_true rfl⟩) hK hP hD [] rfl (by decide) [] rfl rfl hl.1 rfl (Nat.le_of_ble_eq_true rfl) dX3_setRules_14 ⟨by omega, by omega⟩ (fun r_184 hr_184 => ?_)
  refine lv_topi (fun v_185 ev_185 => ?_)
  obtain rfl : v_185 = 1 := ev_185.trans (hr_184.trans (by decide))
  refine lv_if_eq (tgt := 31) hx hb dX3_setRules_17 (by decide) (fun c_186 => absurd c_186 (by decide)) (fun c_186 => ?_)
  refine lv_iload_n hx hb dX3_setRules_20 rfl (lv_at hl 3 rfl) ?_
  refine lv_iconst (v := 1) hx hb dX3_setRules_21 (by decide) ?_
  refine lv_sipush (v := 20000) hx hb dX3_setRules_22 (by decide) ?_
  refine zrdS (As := [.int 1, .int 1, .int 20000]) (rest := []) (wc := []) ⟨hx, hb, hml, hown, hts⟩ (c_isWithin l D _ 1 1 20000) (va_cwS 3 hts gX3_setRules_X3_isWithin rfl rfl rfl (by decide +kernel) ⟨by rw [hRf]; exact Nat.le_of_ble_eq_true rfl, by rw [hRl]; exact Nat.le_of_ble_eq_true rfl⟩) hK hP hD [] rfl (by decide) [] rfl rfl hl.1 rfl (Nat.le_of_ble_eq_true rfl) dX3_setRules_25 ⟨by omega, by omega⟩ (fun r_187 hr_187 => ?_)
  refine lv_topi (fun v_188 ev_188 => ?_)
  obtain rfl : v_188 = 1 := ev_188.trans (hr_187.trans (by decide))
  refine lv_if_ne (tgt := 39) hx hb dX3_setRules_28 (by decide) (fun c_189 => ?_) (fun c_189 => absurd c_189 (by decide))
  refine lv_aload_n hx hb dX3_setRules_39 rfl (lv_at hl 0 rfl) ?_
  refine va_get (D := D) (ci := 3) (v := .int 20) (C := RX3) (T := TX3) (N := 14) hx hb hts (fun _ h9 => List.mem_cons_of_mem _ (List.mem_append_left _ (List.mem_append_right _ h9))) hown hK hP 0 rfl rfl 2 (by decide) (hts (.fieldLink RX3 19 "PalletStack" "greatestHeight" "I") (List.mem_of_getElem? (i := 3) (by rfl))) (fun _ h9 => h9) rfl dX3_setRules_40 ?_
  refine lv_istore (lv' := [(5, .int 20), (0, .ref o), (1, .int 1), (2, .int 0), (3, .int 1), (4, .int 0)]) hx hb dX3_setRules_43 hl (by decide) rfl (fun ls hl => ?_)
  refine lv_aload_n hx hb dX3_setRules_45 rfl (lv_at hl 1 rfl) ?_
  refine lv_iload_n hx hb dX3_setRules_46 rfl (lv_at hl 2 rfl) ?_
  refine va_put (D := D) (ci := 3) (v := .int 1) (ty := .int) (C := RX3) (T := TX3) (N := 14) hx hb hts (fun _ h9 => List.mem_cons_of_mem _ (List.mem_append_left _ (List.mem_append_right _ h9))) tyX3 tyX3_ok nmX3 hown hK hP hD hS 0 rfl rfl 2 (by decide) (hts (.fieldLink RX3 19 "PalletStack" "greatestHeight" "I") (List.mem_of_getElem? (i := 3) (by rfl))) (fun _ h9 => h9) rfl (by decide +kernel) rfl rfl (Nat.le_of_ble_eq_true rfl) dX3_setRules_47 (fun H locs hP hD hS => ?_)
  have hP : va_P D vwCl ([(o, .inr (3, [.ref kA, .int 1, .int 1, .int 60, .int 2000, .int 0, .ref iA, .int 0, .int 0, .int 0, .ref tA, .ref tr, .ref lA, .int (nI n)]))]) H := hP
  have hD : va_D A ([(o, .inr (3, [.ref kA, .int 1, .int 1, .int 60, .int 2000, .int 0, .ref iA, .int 0, .int 0, .int 0, .ref tA, .ref tr, .ref lA, .int (nI n)]))]) := hD
  refine lv_aload_n hx hb dX3_setRules_50 rfl (lv_at hl 1 rfl) ?_
  refine lv_iload_n hx hb dX3_setRules_51 rfl (lv_at hl 3 rfl) ?_
  refine va_put (D := D) (ci := 3) (v := .int 0) (ty := .int) (C := RX3) (T := TX3) (N := 14) hx hb hts (fun _ h9 => List.mem_cons_of_mem _ (List.mem_append_left _ (List.mem_append_right _ h9))) tyX3 tyX3_ok nmX3 hown hK hP hD hS 0 rfl rfl 3 (by decide) (hts (.fieldLink RX3 22 "PalletStack" "support" "I") (List.mem_of_getElem? (i := 4) (by rfl))) (fun _ h9 => h9) rfl (by decide +kernel) rfl rfl (Nat.le_of_ble_eq_true rfl) dX3_setRules_52 (fun H locs hP hD hS => ?_)
  have hP : va_P D vwCl ([(o, .inr (3, [.ref kA, .int 1, .int 1, .int 0, .int 2000, .int 0, .ref iA, .int 0, .int 0, .int 0, .ref tA, .ref tr, .ref lA, .int (nI n)]))]) H := hP
  have hD : va_D A ([(o, .inr (3, [.ref kA, .int 1, .int 1, .int 0, .int 2000, .int 0, .ref iA, .int 0, .int 0, .int 0, .ref tA, .ref tr, .ref lA, .int (nI n)]))]) := hD
  refine lv_aload_n hx hb dX3_setRules_55 rfl (lv_at hl 1 rfl) ?_
  refine lv_iload_n hx hb dX3_setRules_56 rfl (lv_at hl 4 rfl) ?_
  refine va_put (D := D) (ci := 3) (v := .int 1) (ty := .int) (C := RX3) (T := TX3) (N := 14) hx hb hts (fun _ h9 => List.mem_cons_of_mem _ (List.mem_append_left _ (List.mem_append_right _ h9))) tyX3 tyX3_ok nmX3 hown hK hP hD hS 0 rfl rfl 4 (by decide) (hts (.fieldLink RX3 25 "PalletStack" "limit" "I") (List.mem_of_getElem? (i := 5) (by rfl))) (fun _ h9 => h9) rfl (by decide +kernel) rfl rfl (Nat.le_of_ble_eq_true rfl) dX3_setRules_57 (fun H locs hP hD hS => ?_)
  have hP : va_P D vwCl ([(o, .inr (3, [.ref kA, .int 1, .int 1, .int 0, .int 1, .int 0, .ref iA, .int 0, .int 0, .int 0, .ref tA, .ref tr, .ref lA, .int (nI n)]))]) H := hP
  have hD : va_D A ([(o, .inr (3, [.ref kA, .int 1, .int 1, .int 0, .int 1, .int 0, .ref iA, .int 0, .int 0, .int 0, .ref tA, .ref tr, .ref lA, .int (nI n)]))]) := hD
  refine lv_aload_n hx hb dX3_setRules_60 rfl (lv_at hl 1 rfl) ?_
  refine lv_iload hx hb dX3_setRules_61 (lv_at hl 5 rfl) ?_
  refine va_put (D := D) (ci := 3) (v := .int 0) (ty := .boolean) (C := RX3) (T := TX3) (N := 14) hx hb hts (fun _ h9 => List.mem_cons_of_mem _ (List.mem_append_left _ (List.mem_append_right _ h9))) tyX3 tyX3_ok nmX3 hown hK hP hD hS 0 rfl rfl 5 (by decide) (hts (.fieldLink RX3 28 "PalletStack" "hasCornerRule" "Z") (List.mem_of_getElem? (i := 6) (by rfl))) (fun _ h9 => h9) rfl (by decide +kernel) rfl rfl (Nat.le_of_ble_eq_true rfl) dX3_setRules_63 (fun H locs hP hD hS => ?_)
  have hP : va_P D vwCl ([(o, .inr (3, [.ref kA, .int 1, .int 1, .int 0, .int 1, .int 0, .ref iA, .int 0, .int 0, .int 0, .ref tA, .ref tr, .ref lA, .int (nI n)]))]) H := hP
  have hD : va_D A ([(o, .inr (3, [.ref kA, .int 1, .int 1, .int 0, .int 1, .int 0, .ref iA, .int 0, .int 0, .int 0, .ref tA, .ref tr, .ref lA, .int (nI n)]))]) := hD
  refine lv_iload hx hb dX3_setRules_66 (lv_at hl 0 rfl) ?_
  exact W.iret (v := 20) hx hb hr (fun t ht hW => ⟨⟨20, (), rfl, rfl, ⟨Nat.zero_le _, by rw [ht]; exact hP, va_K.moved hW.alike (hK.sub (tys' := []) [] rfl), hD⟩⟩, hS.F ht⟩) hS.2.2 dX3_setRules_68
