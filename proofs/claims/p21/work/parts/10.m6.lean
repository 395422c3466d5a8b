set_option maxHeartbeats 4000000 in
set_option maxRecDepth 100000 in
theorem c_stackM (l : Launch) (D : zG) (sz : Nat) (mo kT tb ld lK lC n : Nat) (e1 e2 e3 e4 : ClassId) (g : Nat → Int32) (hg : g 0 = 1 ∧ g 1 = 1 ∧ g 2 = 2 ∧ g 3 = 1 ∧ g 4 = 0 ∧ g 5 = 1) (tf : Nat → Int32) (hk hc : Nat → Int32) (hhk : ∀ i, i < n → hk i = 0) (hhc : ∀ i, i < n → hc i = 1) (hn : n ≤ 20) : Met l yX4_stack wsX4_stack ({ frames := 5, cells := (240 * n + 1), slots := (1440 * n + 20), locals := 125 }) (zPc D [(e1, .int), (e2, .int), (e3, .int), (e4, .int)] ([(mo, .inr (4, [.int 0, .int 1, .ref kT, .int 1, .int 0, .int 1, .int 0, .int 0, .ref tb, .ref ld, .int (nI n), .ref lK, .ref lC, .int 0])), (kT, .inl (e1, 60, .inl (g))), (tb, .inl (e2, 366, .inl (tf))), (lK, .inl (e3, 20, .inl (hk))), (lC, .inl (e4, 20, .inl (hc)))]) sz [.ref mo]) (va_Qi (fun (r : Int32) (u : Nat → Int32) => r = 0) (zB D (va_A ([(mo, .inr (4, [.int 0, .int 1, .ref kT, .int 1, .int 0, .int 1, .int 0, .int 0, .ref tb, .ref ld, .int (nI n), .ref lK, .ref lC, .int 0])), (kT, .inl (e1, 60, .inl (g))), (tb, .inl (e2, 366, .inl (tf))), (lK, .inl (e3, 20, .inl (hk))), (lC, .inl (e4, 20, .inl (hc)))]) sz) (fun _ => []) (sz + 240 * n) (fun u => [(mo, .inr (4, [.int 0, .int 1, .ref kT, .int 1, .int 0, .int 1, .int 0, .int 0, .ref tb, .ref ld, .int (nI n), .ref lK, .ref lC, .int 0])), (kT, .inl (e1, 60, .inl (g))), (tb, .inl (e2, 366, .inl (u))), (lK, .inl (e3, 20, .inl (hk))), (lC, .inl (e4, 20, .inl (hc)))])) (va_A ([(mo, .inr (4, [.int 0, .int 1, .ref kT, .int 1, .int 0, .int 1, .int 0, .int 0, .ref tb, .ref ld, .int (nI n), .ref lK, .ref lC, .int 0])), (kT, .inl (e1, 60, .inl (g))), (tb, .inl (e2, 366, .inl (tf))), (lK, .inl (e3, 20, .inl (hk))), (lC, .inl (e4, 20, .inl (hc)))]) sz)) (240 * n + 1) (1440 * n + 20) (va_A ([(mo, .inr (4, [.int 0, .int 1, .ref kT, .int 1, .int 0, .int 1, .int 0, .int 0, .ref tb, .ref ld, .int (nI n), .ref lK, .ref lC, .int 0])), (kT, .inl (e1, 60, .inl (g))), (tb, .inl (e2, 366, .inl (tf))), (lK, .inl (e3, 20, .inl (hk))), (lC, .inl (e4, 20, .inl (hc)))]) sz) := by
  refine Met.ofW (cc := cX4_stack) (maxL := 5) (ret := (some .int)) (by decide) rfl ?_
  intro p e s m args below meth c s₁ B hml hv
  obtain ⟨rfl, hsz, hP, hK, hD0⟩ := hv
  have hx := B.exec
  have hb := B.bytes
  have hr := B.returns
  have hts := atoms_spec (ws := wsX4_stack) B.pre
  have hown : s.vm.findClass RX4 = some m.cls := findClass_of_methodNamed B.named
  have hlocks := B.notSynchronized
  subst hsz
  have hD := hD0.self (sz := s.heap.size)
  generalize hAe : va_A ([(mo, .inr (4, [.int 0, .int 1, .ref kT, .int 1, .int 0, .int 1, .int 0, .int 0, .ref tb, .ref ld, .int (nI n), .ref lK, .ref lC, .int 0])), (kT, .inl (e1, 60, .inl (g))), (tb, .inl (e2, 366, .inl (tf))), (lK, .inl (e3, 20, .inl (hk))), (lC, .inl (e4, 20, .inl (hc)))]) s.heap.size = A at hD ⊢
  have hA : ∀ q : Nat, s.heap.size ≤ q → A q := fun q h => by rw [← hAe]; exact Or.inr h
  have hS : va_S A s.heap s.heap [] := va_S.rf
  have hl := lv_entry ([.ref mo]) (n := 5) (Nat.le_of_ble_eq_true rfl)
  rw [lg_entry_eq]
  generalize (lg_sl ([.ref mo]) ++ List.replicate (5 - (lg_sl ([.ref mo])).length) Slot.unset).toArray = ls at hl ⊢
  have hl : lv_has ls 5 [(0, .ref mo)] := hl
  have hP : va_P D vwCl ([(mo, .inr (4, [.int 0, .int 1, .ref kT, .int 1, .int 0, .int 1, .int 0, .int 0, .ref tb, .ref ld, .int (nI n), .ref lK, .ref lC, .int 0])), (kT, .inl (e1, 60, .inl (g))), (tb, .inl (e2, 366, .inl (tf))), (lK, .inl (e3, 20, .inl (hk))), (lC, .inl (e4, 20, .inl (hc)))]) s.heap := hP
  generalize hRe : (headSpec _ _).room = R
  have hRf : R.frames = 5 := by rw [← hRe]; rfl
  have hRc : R.cells = (240 * n + 1) := by rw [← hRe]; rfl
  have hRs : R.slots = (1440 * n + 20) := by rw [← hRe]; rfl
  have hRl : R.locals = 125 := by rw [← hRe]; rfl
  clear hRe
  refine lv_aload_n hx hb dX4_stack_0 rfl (lv_at hl 0 rfl) ?_
  refine lv_iconst (v := 0) hx hb dX4_stack_1 (by decide) ?_
  refine va_put (D := D) (ci := 4) (v := .int 0) (ty := .int) (C := RX4) (T := TX4) (N := 14) hx hb hts (fun _ h9 => List.mem_cons_of_mem _ (List.mem_append_right _ h9)) tyX4 tyX4_ok nmX4 hown hK hP hD hS 0 rfl rfl 0 (by decide) (hts (.fieldLink RX4 35 "PalletStackModel" "thrown" "I") (List.mem_of_getElem? (i := 1) (by rfl))) (fun _ h9 => h9) rfl (by decide +kernel) rfl rfl (Nat.le_of_ble_eq_true rfl) dX4_stack_2 (fun H locs hP hD hS => ?_)
  have hP : va_P D vwCl ([(mo, .inr (4, [.int 0, .int 1, .ref kT, .int 1, .int 0, .int 1, .int 0, .int 0, .ref tb, .ref ld, .int (nI n), .ref lK, .ref lC, .int 0])), (kT, .inl (e1, 60, .inl (g))), (tb, .inl (e2, 366, .inl (tf))), (lK, .inl (e3, 20, .inl (hk))), (lC, .inl (e4, 20, .inl (hc)))]) H := hP
  have hD : va_D A ([(mo, .inr (4, [.int 0, .int 1, .ref kT, .int 1, .int 0, .int 1, .int 0, .int 0, .ref tb, .ref ld, .int (nI n), .ref lK, .ref lC, .int 0])), (kT, .inl (e1, 60, .inl (g))), (tb, .inl (e2, 366, .inl (tf))), (lK, .inl (e3, 20, .inl (hk))), (lC, .inl (e4, 20, .inl (hc)))]) := hD
  refine lv_bipush (v := 20) hx hb dX4_stack_5 (by decide) ?_
  have hz7 := hS.1
  refine znewa (atype := .boolean) (ty := .boolean) (N' := 20) (a0 := (20, .inl (fun _ => 0))) hx hb (hts (.arrayClass .boolean) (List.mem_of_getElem? (i := 2) (by rfl))) rfl hK hP hD hS hA (fun _ => rfl) (by decide) rfl (Nat.le_of_ble_eq_true rfl) (by omega) (by omega) dX4_stack_7 (fun q_313 cy_314 H hz_315 hK hP hD hS => ?_)
  have hP : va_P D vwCl ([(mo, .inr (4, [.int 0, .int 1, .ref kT, .int 1, .int 0, .int 1, .int 0, .int 0, .ref tb, .ref ld, .int (nI n), .ref lK, .ref lC, .int 0])), (kT, .inl (e1, 60, .inl (g))), (tb, .inl (e2, 366, .inl (tf))), (lK, .inl (e3, 20, .inl (hk))), (lC, .inl (e4, 20, .inl (hc))), (q_313, .inl (cy_314, 20, .inl (fun _ => 0)))]) H := hP
  have hD : va_D A ([(mo, .inr (4, [.int 0, .int 1, .ref kT, .int 1, .int 0, .int 1, .int 0, .int 0, .ref tb, .ref ld, .int (nI n), .ref lK, .ref lC, .int 0])), (kT, .inl (e1, 60, .inl (g))), (tb, .inl (e2, 366, .inl (tf))), (lK, .inl (e3, 20, .inl (hk))), (lC, .inl (e4, 20, .inl (hc))), (q_313, .inl (cy_314, 20, .inl (fun _ => 0)))]) := hD
  have hS0 := hS
  have hS := hS.re
  refine lv_astore_n (lv' := [(1, .ref q_313), (0, .ref mo)]) hx hb dX4_stack_9 rfl hl (by decide) rfl (fun ls hl => ?_)
  refine lv_iconst (v := 0) hx hb dX4_stack_10 (by decide) ?_
  refine lv_istore_n (lv' := [(2, .int 0), (1, .ref q_313), (0, .ref mo)]) hx hb dX4_stack_11 rfl hl (by decide) rfl (fun ls hl => ?_)
  refine lv_iconst (v := 0) hx hb dX4_stack_12 (by decide) ?_
  refine lv_istore_n (lv' := [(3, .int 0), (2, .int 0), (1, .ref q_313), (0, .ref mo)]) hx hb dX4_stack_13 rfl hl (by decide) rfl (fun ls hl => ?_)
  generalize hQe : MQ _ _ _ _ _ _ _ = Q
  have outer : ∀ (k j : Nat), j + k = n → ∀ (bv : Int32) (tf za : Nat → Int32) (H : Heap) (locs : List Loc) (ls : Array Slot), ¬ bv = -1 → (∀ i, i < n → za i = if i < j then 1 else 0) → s.heap.size + 240 * j ≤ H.size → va_P D vwCl ([(mo, .inr (4, [.int 0, .int 1, .ref kT, .int 1, .int 0, .int 1, .int 0, .int 0, .ref tb, .ref ld, .int (nI n), .ref lK, .ref lC, .int 0])), (kT, .inl (e1, 60, .inl (g))), (tb, .inl (e2, 366, .inl (tf))), (lK, .inl (e3, 20, .inl (hk))), (lC, .inl (e4, 20, .inl (hc))), (q_313, .inl (cy_314, 20, .inl (za)))]) H → va_D A ([(mo, .inr (4, [.int 0, .int 1, .ref kT, .int 1, .int 0, .int 1, .int 0, .int 0, .ref tb, .ref ld, .int (nI n), .ref lK, .ref lC, .int 0])), (kT, .inl (e1, 60, .inl (g))), (tb, .inl (e2, 366, .inl (tf))), (lK, .inl (e3, 20, .inl (hk))), (lC, .inl (e4, 20, .inl (hc))), (q_313, .inl (cy_314, 20, .inl (za)))]) → va_S A s.heap H locs → lv_has ls 5 [(3, .int bv), (2, .int 0), (1, .ref q_313), (0, .ref mo)] → W p l e R s m ([.ref mo] : List Value).toArray below meth c H locs (240 * j + 1) (1440 * j + 20) Q (F0 m 14 ls []) := by
    intro k
    induction k with
    | zero =>
      intro j hj bv tf za H locs ls hbv hza hsz hP hD hS hl
      obtain rfl : n = j := by omega
      have loopA : ∀ (k2 i : Nat), i + k2 = n → i ≤ n → ∀ (ls : Array Slot), lv_has ls 5 [(4, .int (nI i)), (3, .int (-1)), (2, .int 0), (1, .ref q_313), (0, .ref mo)] → W p l e R s m ([.ref mo] : List Value).toArray below meth c H locs (240 * n + 1) (1440 * n + 20) Q (F0 m 24 ls []) := by
        intro k2
        induction k2 with
        | zero =>
          intro i hi hji ls hl
          obtain rfl : n = i := by omega
          refine lv_iload hx hb dX4_stack_24 (lv_at hl 0 rfl) ?_
          refine lv_aload_n hx hb dX4_stack_26 rfl (lv_at hl 4 rfl) ?_
          refine va_get (D := D) (ci := 4) (v := .int (nI n)) (C := RX4) (T := TX4) (N := 14) hx hb hts (fun _ h9 => List.mem_cons_of_mem _ (List.mem_append_right _ h9)) hown hK hP 0 rfl rfl 10 (by decide) (hts (.fieldLink RX4 70 "PalletStackModel" "lines" "I") (List.mem_of_getElem? (i := 3) (by rfl))) (fun _ h9 => h9) rfl dX4_stack_27 ?_
          refine lv_icmp_ge (tgt := 74) hx hb dX4_stack_30 (by decide) (fun c_316 => ?_) (fun c_316 => absurd (Int32.le_refl _) c_316)
          refine lv_iload_n hx hb dX4_stack_74 rfl (lv_at hl 1 rfl) ?_
          refine lv_iconst (v := (-1)) hx hb dX4_stack_75 (by decide) ?_
          refine lv_icmp_ne (tgt := 82) hx hb dX4_stack_76 (by decide) (fun c_317 => absurd (rfl) c_317) (fun c_317 => ?_)
          refine lv_goto (tgt := 14) hx hb dX4_stack_79 (by decide) ?_
          refine lv_iload_n hx hb dX4_stack_14 rfl (lv_at hl 1 rfl) ?_
          refine lv_iconst (v := (-1)) hx hb dX4_stack_15 (by decide) ?_
          refine lv_icmp_eq (tgt := 118) hx hb dX4_stack_16 (by decide) (fun c_318 => ?_) (fun c_318 => absurd (rfl) c_318)
          refine lv_iload_n hx hb dX4_stack_118 rfl (lv_at hl 2 rfl) ?_
          have hP := hP.sub (ws' := [(mo, .inr (4, [.int 0, .int 1, .ref kT, .int 1, .int 0, .int 1, .int 0, .int 0, .ref tb, .ref ld, .int (nI n), .ref lK, .ref lC, .int 0])), (kT, .inl (e1, 60, .inl (g))), (tb, .inl (e2, 366, .inl (tf))), (lK, .inl (e3, 20, .inl (hk))), (lC, .inl (e4, 20, .inl (hc)))]) [0, 1, 2, 3, 4] rfl
          have hD := hD.sub (ws' := [(mo, .inr (4, [.int 0, .int 1, .ref kT, .int 1, .int 0, .int 1, .int 0, .int 0, .ref tb, .ref ld, .int (nI n), .ref lK, .ref lC, .int 0])), (kT, .inl (e1, 60, .inl (g))), (tb, .inl (e2, 366, .inl (tf))), (lK, .inl (e3, 20, .inl (hk))), (lC, .inl (e4, 20, .inl (hc)))]) [0, 1, 2, 3, 4] (by decide) rfl
          rw [← hQe]
          exact W.iret (v := 0) hx hb hr (fun t ht hW => ⟨⟨0, tf, rfl, rfl, ⟨(by rw [ht]; exact hsz), by rw [ht]; exact hP, va_K.moved hW.alike (hK.sub (tys' := []) [] rfl), hD⟩⟩, hS.F ht⟩) hS.2.2 dX4_stack_119
        | succ k2 ih2 =>
          intro i hi hji ls hl
          refine lv_iload hx hb dX4_stack_24 (lv_at hl 0 rfl) ?_
          refine lv_aload_n hx hb dX4_stack_26 rfl (lv_at hl 4 rfl) ?_
          refine va_get (D := D) (ci := 4) (v := .int (nI n)) (C := RX4) (T := TX4) (N := 14) hx hb hts (fun _ h9 => List.mem_cons_of_mem _ (List.mem_append_right _ h9)) hown hK hP 0 rfl rfl 10 (by decide) (hts (.fieldLink RX4 70 "PalletStackModel" "lines" "I") (List.mem_of_getElem? (i := 3) (by rfl))) (fun _ h9 => h9) rfl dX4_stack_27 ?_
          refine lv_icmp_ge (tgt := 74) hx hb dX4_stack_30 (by decide) (fun c_319 => absurd c_319 (nI_ge (by omega) (by omega))) (fun c_319 => ?_)
          refine lv_aload_n hx hb dX4_stack_33 rfl (lv_at hl 3 rfl) ?_
          refine lv_iload hx hb dX4_stack_34 (lv_at hl 0 rfl) ?_
          refine va_zald hx hb hK hP 5 4 rfl rfl (vp_in_nI (N := 20) (by omega) (by decide)) dX4_stack_36 ?_
          refine lv_topi (fun v_320 ev_320 => ?_)
          obtain rfl : v_320 = (za i) := ev_320.trans (by rw [nI_clamp (by omega)])
          refine lv_if_ne (tgt := 68) hx hb dX4_stack_37 (by decide) (fun c_321 => ?_) (fun c_321 => absurd c_321 (by rw [hza i (by omega), if_pos (by omega)]; decide))
          refine lv_iinc (v := (nI (i + 1))) (lv' := [(4, .int (nI (i + 1))), (3, .int (-1)), (2, .int 0), (1, .ref q_313), (0, .ref mo)]) hx hb dX4_stack_68 hl (k := 0) rfl (nI_1 i) (by decide) rfl (fun ls hl => ?_)
          refine lv_goto (tgt := 24) hx hb dX4_stack_71 (by decide) ?_
          have hl := lv_sub hl (l' := [(4, .int (nI (i + 1))), (3, .int (-1)), (2, .int 0), (1, .ref q_313), (0, .ref mo)]) [0, 1, 2, 3, 4] rfl
          exact ih2 (i + 1) (by omega) (by omega) ls hl
      refine lv_iload_n hx hb dX4_stack_14 rfl (lv_at hl 0 rfl) ?_
      refine lv_iconst (v := (-1)) hx hb dX4_stack_15 (by decide) ?_
      refine lv_icmp_eq (tgt := 118) hx hb dX4_stack_16 (by decide) (fun c_322 => absurd c_322 (hbv)) (fun c_322 => ?_)
      refine lv_iconst (v := (-1)) hx hb dX4_stack_19 (by decide) ?_
      refine lv_istore_n (lv' := [(3, .int (-1)), (2, .int 0), (1, .ref q_313), (0, .ref mo)]) hx hb dX4_stack_20 rfl hl (by decide) rfl (fun ls hl => ?_)
      refine lv_iconst (v := 0) hx hb dX4_stack_21 (by decide) ?_
      refine lv_istore (lv' := [(4, .int 0), (3, .int (-1)), (2, .int 0), (1, .ref q_313), (0, .ref mo)]) hx hb dX4_stack_22 hl (by decide) rfl (fun ls hl => ?_)
      have hl := lv_sub hl (l' := [(4, .int 0), (3, .int (-1)), (2, .int 0), (1, .ref q_313), (0, .ref mo)]) [0, 1, 2, 3, 4] rfl
      exact loopA n 0 (by omega) (by omega) ls hl
    | succ k ih =>
      intro j hj bv tf za H locs ls hbv hza hsz hP hD hS hl
      have found : ∀ (ls : Array Slot), lv_has ls 5 [(4, .int (nI n)), (3, .int (nI j)), (2, .int 0), (1, .ref q_313), (0, .ref mo)] → W p l e R s m ([.ref mo] : List Value).toArray below meth c H locs (240 * j + 1) (1440 * j + 20) Q (F0 m 24 ls []) := by
        intro ls hl
        refine lv_iload hx hb dX4_stack_24 (lv_at hl 0 rfl) ?_
        refine lv_aload_n hx hb dX4_stack_26 rfl (lv_at hl 4 rfl) ?_
        refine va_get (D := D) (ci := 4) (v := .int (nI n)) (C := RX4) (T := TX4) (N := 14) hx hb hts (fun _ h9 => List.mem_cons_of_mem _ (List.mem_append_right _ h9)) hown hK hP 0 rfl rfl 10 (by decide) (hts (.fieldLink RX4 70 "PalletStackModel" "lines" "I") (List.mem_of_getElem? (i := 3) (by rfl))) (fun _ h9 => h9) rfl dX4_stack_27 ?_
        refine lv_icmp_ge (tgt := 74) hx hb dX4_stack_30 (by decide) (fun c_323 => ?_) (fun c_323 => absurd (Int32.le_refl _) c_323)
        refine lv_iload_n hx hb dX4_stack_74 rfl (lv_at hl 1 rfl) ?_
        refine lv_iconst (v := (-1)) hx hb dX4_stack_75 (by decide) ?_
        refine lv_icmp_ne (tgt := 82) hx hb dX4_stack_76 (by decide) (fun c_324 => ?_) (fun c_324 => absurd c_324 (fun h => absurd (congrArg Int32.toInt h) (by rw [nI_toInt (by omega)]; simp)))
        refine lv_aload_n hx hb dX4_stack_82 rfl (lv_at hl 4 rfl) ?_
        refine lv_aload_n hx hb dX4_stack_83 rfl (lv_at hl 4 rfl) ?_
        refine va_get (D := D) (ci := 4) (v := .ref lK) (C := RX4) (T := TX4) (N := 14) hx hb hts (fun _ h9 => List.mem_cons_of_mem _ (List.mem_append_right _ h9)) hown hK hP 0 rfl rfl 11 (by decide) (hts (.fieldLink RX4 29 "PalletStackModel" "lineKinds" "[I") (List.mem_of_getElem? (i := 5) (by rfl))) (fun _ h9 => h9) rfl dX4_stack_84 ?_
        refine lv_iload_n hx hb dX4_stack_87 rfl (lv_at hl 1 rfl) ?_
        refine va_iald hx hb hK hP 3 2 rfl rfl (vp_in_nI (N := 20) (by omega) (by decide)) dX4_stack_88 ?_
        refine lv_topi (fun v_325 ev_325 => ?_)
        obtain rfl : v_325 = 0 := ev_325.trans (by rw [nI_clamp (by omega)]; exact hhk j (by omega))
        refine zcalliV (As := [.int 0]) (rest := []) (wc := [(mo, .inr (4, [.int 0, .int 1, .ref kT, .int 1, .int 0, .int 1, .int 0, .int 0, .ref tb, .ref ld, .int (nI n), .ref lK, .ref lC, .int 0])), (kT, .inl (e1, 60, .inl (g))), (tb, .inl (e2, 366, .inl (tf)))]) (wr := [(lK, .inl (e3, 20, .inl (hk))), (lC, .inl (e4, 20, .inl (hc))), (q_313, .inl (cy_314, 20, .inl (za)))]) ⟨hx, hb, hml, hown, hts⟩ (c_putBest l D _ mo kT tb ld lK lC n e1 e2 g hg tf) (cwV 1 hts gX4_stack_X4_putBest rfl rfl rfl (by decide +kernel) ⟨by rw [hRf]; exact Nat.le_of_ble_eq_true rfl, by rw [hRl]; exact Nat.le_of_ble_eq_true rfl⟩) hK hP hD hS hA [0, 1, 2] [3, 4, 5] rfl (by decide) rfl (by decide) (by decide) [0, 1] rfl (ci := 4) (q0 := 0) rfl rfl rfl hl.1 rfl (Nat.le_of_ble_eq_true rfl) dX4_stack_89 ⟨by omega, by omega⟩ (fun r_326 u_327 H locs hwu_327 hnu_327 hzu_327 hK hP hD hS => ?_)
        have hK : va_K D vwCl [(e1, .int), (e2, .int), (e3, .int), (e4, .int), (cy_314, .boolean)] s := hK
        have hP : va_P D vwCl ([(lK, .inl (e3, 20, .inl (hk))), (lC, .inl (e4, 20, .inl (hc))), (q_313, .inl (cy_314, 20, .inl (za))), (mo, .inr (4, [.int 0, .int 1, .ref kT, .int 1, .int 0, .int 1, .int 0, .int 0, .ref tb, .ref ld, .int (nI n), .ref lK, .ref lC, .int 0])), (kT, .inl (e1, 60, .inl (g))), (tb, .inl (e2, 366, .inl (u_327)))]) H := hP
        have hD : va_D A ([(lK, .inl (e3, 20, .inl (hk))), (lC, .inl (e4, 20, .inl (hc))), (q_313, .inl (cy_314, 20, .inl (za))), (mo, .inr (4, [.int 0, .int 1, .ref kT, .int 1, .int 0, .int 1, .int 0, .int 0, .ref tb, .ref ld, .int (nI n), .ref lK, .ref lC, .int 0])), (kT, .inl (e1, 60, .inl (g))), (tb, .inl (e2, 366, .inl (u_327)))]) := hD
        have hP := hP.sub (ws' := [(mo, .inr (4, [.int 0, .int 1, .ref kT, .int 1, .int 0, .int 1, .int 0, .int 0, .ref tb, .ref ld, .int (nI n), .ref lK, .ref lC, .int 0])), (kT, .inl (e1, 60, .inl (g))), (tb, .inl (e2, 366, .inl (u_327))), (lK, .inl (e3, 20, .inl (hk))), (lC, .inl (e4, 20, .inl (hc))), (q_313, .inl (cy_314, 20, .inl (za)))]) [3, 4, 5, 0, 1, 2] rfl
        have hD := hD.sub (ws' := [(mo, .inr (4, [.int 0, .int 1, .ref kT, .int 1, .int 0, .int 1, .int 0, .int 0, .ref tb, .ref ld, .int (nI n), .ref lK, .ref lC, .int 0])), (kT, .inl (e1, 60, .inl (g))), (tb, .inl (e2, 366, .inl (u_327))), (lK, .inl (e3, 20, .inl (hk))), (lC, .inl (e4, 20, .inl (hc))), (q_313, .inl (cy_314, 20, .inl (za)))]) [3, 4, 5, 0, 1, 2] (by decide) rfl
        refine lv_topi (fun v_328 ev_328 => ?_)
        obtain rfl : v_328 = 0 := ev_328.trans hwu_327
        refine lv_if_eq (tgt := 111) hx hb dX4_stack_92 (by decide) (fun c_329 => ?_) (fun c_329 => absurd (rfl) c_329)
        refine lv_aload_n hx hb dX4_stack_111 rfl (lv_at hl 3 rfl) ?_
        refine lv_iload_n hx hb dX4_stack_112 rfl (lv_at hl 1 rfl) ?_
        refine lv_iconst (v := 1) hx hb dX4_stack_113 (by decide) ?_
        have hS1 := hS
        have hS := hS.re
        refine va_zast hx hb hK hP hD hS 5 4 rfl rfl (vp_in_nI (N := 20) (by omega) (by decide)) dX4_stack_114 (fun H locs hP hD hS => ?_)
        rw [nI_clamp (by omega)] at hP hD
        have hP : va_P D vwCl ([(mo, .inr (4, [.int 0, .int 1, .ref kT, .int 1, .int 0, .int 1, .int 0, .int 0, .ref tb, .ref ld, .int (nI n), .ref lK, .ref lC, .int 0])), (kT, .inl (e1, 60, .inl (g))), (tb, .inl (e2, 366, .inl (u_327))), (lK, .inl (e3, 20, .inl (hk))), (lC, .inl (e4, 20, .inl (hc))), (q_313, .inl (cy_314, 20, .inl (upd za j 1)))]) H := hP
        have hD : va_D A ([(mo, .inr (4, [.int 0, .int 1, .ref kT, .int 1, .int 0, .int 1, .int 0, .int 0, .ref tb, .ref ld, .int (nI n), .ref lK, .ref lC, .int 0])), (kT, .inl (e1, 60, .inl (g))), (tb, .inl (e2, 366, .inl (u_327))), (lK, .inl (e3, 20, .inl (hk))), (lC, .inl (e4, 20, .inl (hc))), (q_313, .inl (cy_314, 20, .inl (upd za j 1)))]) := hD
        have hz8 := hS.1
        have hS := hS1.tr hS
        refine lv_goto (tgt := 14) hx hb dX4_stack_115 (by decide) ?_
        have hl := lv_sub hl (l' := [(3, .int (nI j)), (2, .int 0), (1, .ref q_313), (0, .ref mo)]) [1, 2, 3, 4] rfl
        refine W.widen (k := (240 * (j + 1) + 1)) (n := (1440 * (j + 1) + 20)) (by omega) (by omega) ?_
        exact ih (j + 1) (by omega) (nI j) u_327 (upd za j 1) H locs ls (fun h => absurd (congrArg Int32.toInt h) (by rw [nI_toInt (by omega)]; simp)) (fun i hi => by
          simp only [upd]
          by_cases hij : i = j
          · rw [if_pos hij, if_pos (by omega)]
          · rw [if_neg hij, hza i hi]; by_cases hlt : i < j
            · rw [if_pos hlt, if_pos (by omega)]
            · rw [if_neg hlt, if_neg (by omega)]) (by omega) hP hD hS hl
      have loopB : ∀ (k2 i : Nat), i + k2 = n → j < i → ∀ (ls : Array Slot), lv_has ls 5 [(4, .int (nI i)), (3, .int (nI j)), (2, .int 0), (1, .ref q_313), (0, .ref mo)] → W p l e R s m ([.ref mo] : List Value).toArray below meth c H locs (240 * j + 1) (1440 * j + 20) Q (F0 m 24 ls []) := by
        intro k2
        induction k2 with
        | zero =>
          intro i hi hji ls hl
          obtain rfl : n = i := by omega
          exact found ls hl
        | succ k2 ih2 =>
          intro i hi hji ls hl
          refine lv_iload hx hb dX4_stack_24 (lv_at hl 0 rfl) ?_
          refine lv_aload_n hx hb dX4_stack_26 rfl (lv_at hl 4 rfl) ?_
          refine va_get (D := D) (ci := 4) (v := .int (nI n)) (C := RX4) (T := TX4) (N := 14) hx hb hts (fun _ h9 => List.mem_cons_of_mem _ (List.mem_append_right _ h9)) hown hK hP 0 rfl rfl 10 (by decide) (hts (.fieldLink RX4 70 "PalletStackModel" "lines" "I") (List.mem_of_getElem? (i := 3) (by rfl))) (fun _ h9 => h9) rfl dX4_stack_27 ?_
          refine lv_icmp_ge (tgt := 74) hx hb dX4_stack_30 (by decide) (fun c_330 => absurd c_330 (nI_ge (by omega) (by omega))) (fun c_330 => ?_)
          refine lv_aload_n hx hb dX4_stack_33 rfl (lv_at hl 3 rfl) ?_
          refine lv_iload hx hb dX4_stack_34 (lv_at hl 0 rfl) ?_
          refine va_zald hx hb hK hP 5 4 rfl rfl (vp_in_nI (N := 20) (by omega) (by decide)) dX4_stack_36 ?_
          refine lv_topi (fun v_331 ev_331 => ?_)
          obtain rfl : v_331 = (za i) := ev_331.trans (by rw [nI_clamp (by omega)])
          refine lv_if_ne (tgt := 68) hx hb dX4_stack_37 (by decide) (fun c_332 => absurd ((hza i (by omega)).trans (if_neg (by omega))) c_332) (fun c_332 => ?_)
          refine lv_aload_n hx hb dX4_stack_40 rfl (lv_at hl 4 rfl) ?_
          refine va_get (D := D) (ci := 4) (v := .ref lC) (C := RX4) (T := TX4) (N := 14) hx hb hts (fun _ h9 => List.mem_cons_of_mem _ (List.mem_append_right _ h9)) hown hK hP 0 rfl rfl 12 (by decide) (hts (.fieldLink RX4 32 "PalletStackModel" "lineCounts" "[I") (List.mem_of_getElem? (i := 4) (by rfl))) (fun _ h9 => h9) rfl dX4_stack_41 ?_
          refine lv_iload hx hb dX4_stack_44 (lv_at hl 0 rfl) ?_
          refine va_iald hx hb hK hP 4 3 rfl rfl (vp_in_nI (N := 20) (by omega) (by decide)) dX4_stack_46 ?_
          refine lv_topi (fun v_333 ev_333 => ?_)
          obtain rfl : v_333 = 1 := ev_333.trans (by rw [nI_clamp (by omega)]; exact hhc i (by omega))
          refine lv_if_le (tgt := 68) hx hb dX4_stack_47 (by decide) (fun c_334 => absurd c_334 (by decide)) (fun c_334 => ?_)
          refine lv_iload_n hx hb dX4_stack_50 rfl (lv_at hl 1 rfl) ?_
          refine lv_iconst (v := (-1)) hx hb dX4_stack_51 (by decide) ?_
          refine lv_icmp_eq (tgt := 65) hx hb dX4_stack_52 (by decide) (fun c_335 => absurd c_335 (fun h => absurd (congrArg Int32.toInt h) (by rw [nI_toInt (by omega)]; simp))) (fun c_335 => ?_)
          refine lv_aload_n hx hb dX4_stack_55 rfl (lv_at hl 4 rfl) ?_
          refine lv_iload hx hb dX4_stack_56 (lv_at hl 0 rfl) ?_
          refine lv_iload_n hx hb dX4_stack_58 rfl (lv_at hl 1 rfl) ?_
          refine zrdV (As := [.int (nI i), .int (nI j)]) (rest := []) (wc := [(mo, .inr (4, [.int 0, .int 1, .ref kT, .int 1, .int 0, .int 1, .int 0, .int 0, .ref tb, .ref ld, .int (nI n), .ref lK, .ref lC, .int 0])), (kT, .inl (e1, 60, .inl (g))), (lK, .inl (e3, 20, .inl (hk)))]) ⟨hx, hb, hml, hown, hts⟩ (c_isAhead l D _ mo kT tb ld lK lC n e1 e3 g hg hk i j (by omega) (by omega) (hhk i (by omega)) (hhk j (by omega))) (cwV 2 hts gX4_stack_X4_isAhead rfl rfl rfl (by decide +kernel) ⟨by rw [hRf]; exact Nat.le_of_ble_eq_true rfl, by rw [hRl]; exact Nat.le_of_ble_eq_true rfl⟩) hK hP hD [0, 1, 3] rfl (by decide) [0, 2] rfl (ci := 4) (q0 := 0) rfl rfl rfl hl.1 rfl (Nat.le_of_ble_eq_true rfl) dX4_stack_59 ⟨by omega, by omega⟩ (fun r_336 hr_336 => ?_)
          refine lv_topi (fun v_337 ev_337 => ?_)
          obtain rfl : v_337 = 0 := ev_337.trans hr_336
          refine lv_if_eq (tgt := 68) hx hb dX4_stack_62 (by decide) (fun c_338 => ?_) (fun c_338 => absurd (rfl) c_338)
          refine lv_iinc (v := (nI (i + 1))) (lv' := [(4, .int (nI (i + 1))), (3, .int (nI j)), (2, .int 0), (1, .ref q_313), (0, .ref mo)]) hx hb dX4_stack_68 hl (k := 0) rfl (nI_1 i) (by decide) rfl (fun ls hl => ?_)
          refine lv_goto (tgt := 24) hx hb dX4_stack_71 (by decide) ?_
          have hl := lv_sub hl (l' := [(4, .int (nI (i + 1))), (3, .int (nI j)), (2, .int 0), (1, .ref q_313), (0, .ref mo)]) [0, 1, 2, 3, 4] rfl
          exact ih2 (i + 1) (by omega) (by omega) ls hl
      have loopA : ∀ (k2 i : Nat), i + k2 = n → i ≤ j → ∀ (ls : Array Slot), lv_has ls 5 [(4, .int (nI i)), (3, .int (-1)), (2, .int 0), (1, .ref q_313), (0, .ref mo)] → W p l e R s m ([.ref mo] : List Value).toArray below meth c H locs (240 * j + 1) (1440 * j + 20) Q (F0 m 24 ls []) := by
        intro k2
        induction k2 with
        | zero =>
          intro i hi hji ls hl
          exact absurd hji (by omega)
        | succ k2 ih2 =>
          intro i hi hji ls hl
          refine lv_iload hx hb dX4_stack_24 (lv_at hl 0 rfl) ?_
          refine lv_aload_n hx hb dX4_stack_26 rfl (lv_at hl 4 rfl) ?_
          refine va_get (D := D) (ci := 4) (v := .int (nI n)) (C := RX4) (T := TX4) (N := 14) hx hb hts (fun _ h9 => List.mem_cons_of_mem _ (List.mem_append_right _ h9)) hown hK hP 0 rfl rfl 10 (by decide) (hts (.fieldLink RX4 70 "PalletStackModel" "lines" "I") (List.mem_of_getElem? (i := 3) (by rfl))) (fun _ h9 => h9) rfl dX4_stack_27 ?_
          refine lv_icmp_ge (tgt := 74) hx hb dX4_stack_30 (by decide) (fun c_339 => absurd c_339 (nI_ge (by omega) (by omega))) (fun c_339 => ?_)
          refine lv_aload_n hx hb dX4_stack_33 rfl (lv_at hl 3 rfl) ?_
          refine lv_iload hx hb dX4_stack_34 (lv_at hl 0 rfl) ?_
          refine va_zald hx hb hK hP 5 4 rfl rfl (vp_in_nI (N := 20) (by omega) (by decide)) dX4_stack_36 ?_
          refine lv_topi (fun v_340 ev_340 => ?_)
          obtain rfl : v_340 = (za i) := ev_340.trans (by rw [nI_clamp (by omega)])
          rcases Nat.lt_or_ge i j with hlt | hge
          · have h_b := True.intro
            refine lv_if_ne (tgt := 68) hx hb dX4_stack_37 (by decide) (fun c_341 => ?_) (fun c_341 => absurd c_341 (by rw [hza i (by omega), if_pos hlt]; decide))
            refine lv_iinc (v := (nI (i + 1))) (lv' := [(4, .int (nI (i + 1))), (3, .int (-1)), (2, .int 0), (1, .ref q_313), (0, .ref mo)]) hx hb dX4_stack_68 hl (k := 0) rfl (nI_1 i) (by decide) rfl (fun ls hl => ?_)
            refine lv_goto (tgt := 24) hx hb dX4_stack_71 (by decide) ?_
            have hl := lv_sub hl (l' := [(4, .int (nI (i + 1))), (3, .int (-1)), (2, .int 0), (1, .ref q_313), (0, .ref mo)]) [0, 1, 2, 3, 4] rfl
            exact ih2 (i + 1) (by omega) (by omega) ls hl
          · have h_b := True.intro
            obtain rfl : i = j := by omega
            refine lv_if_ne (tgt := 68) hx hb dX4_stack_37 (by decide) (fun c_342 => absurd ((hza i (by omega)).trans (if_neg (by omega))) c_342) (fun c_342 => ?_)
            refine lv_aload_n hx hb dX4_stack_40 rfl (lv_at hl 4 rfl) ?_
            refine va_get (D := D) (ci := 4) (v := .ref lC) (C := RX4) (T := TX4) (N := 14) hx hb hts (fun _ h9 => List.mem_cons_of_mem _ (List.mem_append_right _ h9)) hown hK hP 0 rfl rfl 12 (by decide) (hts (.fieldLink RX4 32 "PalletStackModel" "lineCounts" "[I") (List.mem_of_getElem? (i := 4) (by rfl))) (fun _ h9 => h9) rfl dX4_stack_41 ?_
            refine lv_iload hx hb dX4_stack_44 (lv_at hl 0 rfl) ?_
            refine va_iald hx hb hK hP 4 3 rfl rfl (vp_in_nI (N := 20) (by omega) (by decide)) dX4_stack_46 ?_
            refine lv_topi (fun v_343 ev_343 => ?_)
            obtain rfl : v_343 = 1 := ev_343.trans (by rw [nI_clamp (by omega)]; exact hhc i (by omega))
            refine lv_if_le (tgt := 68) hx hb dX4_stack_47 (by decide) (fun c_344 => absurd c_344 (by decide)) (fun c_344 => ?_)
            refine lv_iload_n hx hb dX4_stack_50 rfl (lv_at hl 1 rfl) ?_
            refine lv_iconst (v := (-1)) hx hb dX4_stack_51 (by decide) ?_
            refine lv_icmp_eq (tgt := 65) hx hb dX4_stack_52 (by decide) (fun c_345 => ?_) (fun c_345 => absurd (rfl) c_345)
            refine lv_iload hx hb dX4_stack_65 (lv_at hl 0 rfl) ?_
            refine lv_istore_n (lv' := [(3, .int (nI i)), (4, .int (nI i)), (2, .int 0), (1, .ref q_313), (0, .ref mo)]) hx hb dX4_stack_67 rfl hl (by decide) rfl (fun ls hl => ?_)
            refine lv_iinc (v := (nI (i + 1))) (lv' := [(4, .int (nI (i + 1))), (3, .int (nI i)), (2, .int 0), (1, .ref q_313), (0, .ref mo)]) hx hb dX4_stack_68 hl (k := 1) rfl (nI_1 i) (by decide) rfl (fun ls hl => ?_)
            refine lv_goto (tgt := 24) hx hb dX4_stack_71 (by decide) ?_
            have hl := lv_sub hl (l' := [(4, .int (nI (i + 1))), (3, .int (nI i)), (2, .int 0), (1, .ref q_313), (0, .ref mo)]) [0, 1, 2, 3, 4] rfl
            exact loopB k2 (i + 1) (by omega) (by omega) ls hl
      refine lv_iload_n hx hb dX4_stack_14 rfl (lv_at hl 0 rfl) ?_
      refine lv_iconst (v := (-1)) hx hb dX4_stack_15 (by decide) ?_
      refine lv_icmp_eq (tgt := 118) hx hb dX4_stack_16 (by decide) (fun c_346 => absurd c_346 (hbv)) (fun c_346 => ?_)
      refine lv_iconst (v := (-1)) hx hb dX4_stack_19 (by decide) ?_
      refine lv_istore_n (lv' := [(3, .int (-1)), (2, .int 0), (1, .ref q_313), (0, .ref mo)]) hx hb dX4_stack_20 rfl hl (by decide) rfl (fun ls hl => ?_)
      refine lv_iconst (v := 0) hx hb dX4_stack_21 (by decide) ?_
      refine lv_istore (lv' := [(4, .int 0), (3, .int (-1)), (2, .int 0), (1, .ref q_313), (0, .ref mo)]) hx hb dX4_stack_22 hl (by decide) rfl (fun ls hl => ?_)
      have hl := lv_sub hl (l' := [(4, .int 0), (3, .int (-1)), (2, .int 0), (1, .ref q_313), (0, .ref mo)]) [0, 1, 2, 3, 4] rfl
      exact loopA n 0 (by omega) (by omega) ls hl
  have hl := lv_sub hl (l' := [(3, .int 0), (2, .int 0), (1, .ref q_313), (0, .ref mo)]) [0, 1, 2, 3] rfl
  exact outer n 0 (by omega) 0 tf (fun _ => 0) H locs ls (by decide) (fun i _ => rfl) (by omega) hP hD (hS0.tr hS) hl
set_option maxHeartbeats 4000000 in
set_option maxRecDepth 100000 in
theorem c_M_init (l : Launch) (D : zG) (sz : Nat) (mo : Nat) : Met l yX4_init wsX4_init ({ frames := 1, cells := 5, slots := 527, locals := 16 }) (zPc D [] ([(mo, .inr (4, [.int 0, .int 0, .null, .int 0, .int 0, .int 0, .int 0, .int 0, .null, .null, .int 0, .null, .null, .int 0]))]) sz [.ref mo]) (va_Qv (fun (u : (Nat → Nat) × (Nat → ClassId)) => True) (zB D (va_A ([(mo, .inr (4, [.int 0, .int 0, .null, .int 0, .int 0, .int 0, .int 0, .int 0, .null, .null, .int 0, .null, .null, .int 0]))]) sz) (fun u => [((u.2 0), .int), ((u.2 1), .int), ((u.2 2), .int), ((u.2 3), .int)]) 0 (fun u => [(mo, .inr (4, [.int 0, .int 0, .ref (u.1 0), .int 20, .int 60, .int 2000, .int 0, .int 0, .ref (u.1 1), .ref (u.1 2), .int 0, .ref (u.1 3), .ref (u.1 4), .int 0])), ((u.1 0), .inl ((u.2 0), 60, .inl (fun _ => 0))), ((u.1 1), .inl ((u.2 1), 366, .inl (fun _ => 0))), ((u.1 3), .inl ((u.2 2), 20, .inl (fun _ => 0))), ((u.1 4), .inl ((u.2 3), 20, .inl (fun _ => 0)))])) (va_A ([(mo, .inr (4, [.int 0, .int 0, .null, .int 0, .int 0, .int 0, .int 0, .int 0, .null, .null, .int 0, .null, .null, .int 0]))]) sz)) 5 527 (va_A ([(mo, .inr (4, [.int 0, .int 0, .null, .int 0, .int 0, .int 0, .int 0, .int 0, .null, .null, .int 0, .null, .null, .int 0]))]) sz) := by
  refine Met.ofW (cc := cX4_init) (maxL := 1) (ret := none) (by decide) rfl ?_
  intro p e s m args below meth c s₁ B hml hv
  obtain ⟨rfl, hsz, hP, hK, hD0⟩ := hv
  have hx := B.exec
  have hb := B.bytes
  have hr := B.returns
  have hts := atoms_spec (ws := wsX4_init) B.pre
  have hown : s.vm.findClass RX4 = some m.cls := findClass_of_methodNamed B.named
  have hlocks := B.notSynchronized
  have hin : meth.name = "<init>" := (name_of_methodNamed B.named B.method).1
  subst hsz
  have hD := hD0.self (sz := s.heap.size)
  generalize hAe : va_A ([(mo, .inr (4, [.int 0, .int 0, .null, .int 0, .int 0, .int 0, .int 0, .int 0, .null, .null, .int 0, .null, .null, .int 0]))]) s.heap.size = A at hD ⊢
  have hA : ∀ q : Nat, s.heap.size ≤ q → A q := fun q h => by rw [← hAe]; exact Or.inr h
  have hS : va_S A s.heap s.heap [] := va_S.rf
  have hl := lv_entry ([.ref mo]) (n := 1) (Nat.le_of_ble_eq_true rfl)
  rw [lg_entry_eq]
  generalize (lg_sl ([.ref mo]) ++ List.replicate (1 - (lg_sl ([.ref mo])).length) Slot.unset).toArray = ls at hl ⊢
  have hl : lv_has ls 1 [(0, .ref mo)] := hl
  have hP : va_P D vwCl ([(mo, .inr (4, [.int 0, .int 0, .null, .int 0, .int 0, .int 0, .int 0, .int 0, .null, .null, .int 0, .null, .null, .int 0]))]) s.heap := hP
  generalize hRe : (headSpec _ _).room = R
  have hRf : R.frames = 1 := by rw [← hRe]; rfl
  have hRc : R.cells = 5 := by rw [← hRe]; rfl
  have hRs : R.slots = 527 := by rw [← hRe]; rfl
  have hRl : R.locals = 16 := by rw [← hRe]; rfl
  clear hRe
  refine lv_aload_n hx hb dX4_init_0 rfl (lv_at hl 0 rfl) ?_
  refine W.objInit hx hb hown (hts (.methodLink RX4 1 objectInit) (List.mem_of_getElem? (i := 1) (by rfl))) (hts (.instanceMethod objectInit) (List.mem_of_getElem? (i := 2) (by rfl))) (hts (.code objectInit ⟨#[0xb1]⟩ 1 none) (List.mem_of_getElem? (i := 3) (by rfl))) rfl (by rw [hml]; exact hl.1) rfl dX4_init_1 (by rw [hRf]; exact Nat.le_of_ble_eq_true rfl) (by rw [hRl]; exact Nat.le_of_ble_eq_true rfl) ?_
  refine W.eq (g2 := F0 m 4 ls []) rfl ?_
  refine lv_aload_n hx hb dX4_init_4 rfl (lv_at hl 0 rfl) ?_
  refine lv_bipush (v := 60) hx hb dX4_init_5 (by decide) ?_
  refine znewa (atype := .int) (ty := .int) (N' := 60) (a0 := (60, .inl (fun _ => 0))) hx hb (hts (.arrayClass .int) (List.mem_of_getElem? (i := 4) (by rfl))) rfl hK hP hD hS hA (fun _ => rfl) (by decide) rfl (Nat.le_of_ble_eq_true rfl) (by omega) (by omega) dX4_init_7 (fun q_347 cy_348 H hz_349 hK hP hD hS => ?_)
  have hP : va_P D vwCl ([(mo, .inr (4, [.int 0, .int 0, .null, .int 0, .int 0, .int 0, .int 0, .int 0, .null, .null, .int 0, .null, .null, .int 0])), (q_347, .inl (cy_348, 60, .inl (fun _ => 0)))]) H := hP
  have hD : va_D A ([(mo, .inr (4, [.int 0, .int 0, .null, .int 0, .int 0, .int 0, .int 0, .int 0, .null, .null, .int 0, .null, .null, .int 0])), (q_347, .inl (cy_348, 60, .inl (fun _ => 0)))]) := hD
  refine va_putF (D := D) (ci := 4) (v := .ref q_347) (ty := .array .int) (C := RX4) (T := TX4) (N := 14) hx hb hts (fun _ h9 => List.mem_cons_of_mem _ (List.mem_append_right _ h9)) tyX4 tyX4_ok nmX4 hown hK hP hD hS 0 rfl rfl 2 (by decide) (hts (.fieldLink RX4 9 "PalletStackModel" "kindTable" "[I") (List.mem_of_getElem? (i := 5) (by rfl))) (fun _ h9 => h9) rfl hin rfl (by decide +kernel) rfl rfl (Nat.le_of_ble_eq_true rfl) dX4_init_9 (fun H locs hP hD hS => ?_)
  have hP : va_P D vwCl ([(mo, .inr (4, [.int 0, .int 0, .ref q_347, .int 0, .int 0, .int 0, .int 0, .int 0, .null, .null, .int 0, .null, .null, .int 0])), (q_347, .inl (cy_348, 60, .inl (fun _ => 0)))]) H := hP
  have hD : va_D A ([(mo, .inr (4, [.int 0, .int 0, .ref q_347, .int 0, .int 0, .int 0, .int 0, .int 0, .null, .null, .int 0, .null, .null, .int 0])), (q_347, .inl (cy_348, 60, .inl (fun _ => 0)))]) := hD
  refine lv_aload_n hx hb dX4_init_12 rfl (lv_at hl 0 rfl) ?_
  refine lv_bipush (v := 20) hx hb dX4_init_13 (by decide) ?_
  refine va_put (D := D) (ci := 4) (v := .int 20) (ty := .int) (C := RX4) (T := TX4) (N := 14) hx hb hts (fun _ h9 => List.mem_cons_of_mem _ (List.mem_append_right _ h9)) tyX4 tyX4_ok nmX4 hown hK hP hD hS 0 rfl rfl 3 (by decide) (hts (.fieldLink RX4 13 "PalletStackModel" "highest" "I") (List.mem_of_getElem? (i := 6) (by rfl))) (fun _ h9 => h9) rfl (by decide +kernel) rfl rfl (Nat.le_of_ble_eq_true rfl) dX4_init_15 (fun H locs hP hD hS => ?_)
  have hP : va_P D vwCl ([(mo, .inr (4, [.int 0, .int 0, .ref q_347, .int 20, .int 0, .int 0, .int 0, .int 0, .null, .null, .int 0, .null, .null, .int 0])), (q_347, .inl (cy_348, 60, .inl (fun _ => 0)))]) H := hP
  have hD : va_D A ([(mo, .inr (4, [.int 0, .int 0, .ref q_347, .int 20, .int 0, .int 0, .int 0, .int 0, .null, .null, .int 0, .null, .null, .int 0])), (q_347, .inl (cy_348, 60, .inl (fun _ => 0)))]) := hD
  refine lv_aload_n hx hb dX4_init_18 rfl (lv_at hl 0 rfl) ?_
  refine lv_bipush (v := 60) hx hb dX4_init_19 (by decide) ?_
  refine va_put (D := D) (ci := 4) (v := .int 60) (ty := .int) (C := RX4) (T := TX4) (N := 14) hx hb hts (fun _ h9 => List.mem_cons_of_mem _ (List.mem_append_right _ h9)) tyX4 tyX4_ok nmX4 hown hK hP hD hS 0 rfl rfl 4 (by decide) (hts (.fieldLink RX4 17 "PalletStackModel" "support" "I") (List.mem_of_getElem? (i := 7) (by rfl))) (fun _ h9 => h9) rfl (by decide +kernel) rfl rfl (Nat.le_of_ble_eq_true rfl) dX4_init_21 (fun H locs hP hD hS => ?_)
  have hP : va_P D vwCl ([(mo, .inr (4, [.int 0, .int 0, .ref q_347, .int 20, .int 60, .int 0, .int 0, .int 0, .null, .null, .int 0, .null, .null, .int 0])), (q_347, .inl (cy_348, 60, .inl (fun _ => 0)))]) H := hP
  have hD : va_D A ([(mo, .inr (4, [.int 0, .int 0, .ref q_347, .int 20, .int 60, .int 0, .int 0, .int 0, .null, .null, .int 0, .null, .null, .int 0])), (q_347, .inl (cy_348, 60, .inl (fun _ => 0)))]) := hD
  refine lv_aload_n hx hb dX4_init_24 rfl (lv_at hl 0 rfl) ?_
  refine lv_sipush (v := 2000) hx hb dX4_init_25 (by decide) ?_
  refine va_put (D := D) (ci := 4) (v := .int 2000) (ty := .int) (C := RX4) (T := TX4) (N := 14) hx hb hts (fun _ h9 => List.mem_cons_of_mem _ (List.mem_append_right _ h9)) tyX4 tyX4_ok nmX4 hown hK hP hD hS 0 rfl rfl 5 (by decide) (hts (.fieldLink RX4 20 "PalletStackModel" "limit" "I") (List.mem_of_getElem? (i := 8) (by rfl))) (fun _ h9 => h9) rfl (by decide +kernel) rfl rfl (Nat.le_of_ble_eq_true rfl) dX4_init_28 (fun H locs hP hD hS => ?_)
  have hP : va_P D vwCl ([(mo, .inr (4, [.int 0, .int 0, .ref q_347, .int 20, .int 60, .int 2000, .int 0, .int 0, .null, .null, .int 0, .null, .null, .int 0])), (q_347, .inl (cy_348, 60, .inl (fun _ => 0)))]) H := hP
  have hD : va_D A ([(mo, .inr (4, [.int 0, .int 0, .ref q_347, .int 20, .int 60, .int 2000, .int 0, .int 0, .null, .null, .int 0, .null, .null, .int 0])), (q_347, .inl (cy_348, 60, .inl (fun _ => 0)))]) := hD
  refine lv_aload_n hx hb dX4_init_31 rfl (lv_at hl 0 rfl) ?_
  refine lv_sipush (v := 366) hx hb dX4_init_32 (by decide) ?_
  refine znewa (atype := .int) (ty := .int) (N' := 366) (a0 := (366, .inl (fun _ => 0))) hx hb (hts (.arrayClass .int) (List.mem_of_getElem? (i := 4) (by rfl))) rfl hK hP hD hS hA (fun _ => rfl) (by decide) rfl (Nat.le_of_ble_eq_true rfl) (by omega) (by omega) dX4_init_35 (fun q_350 cy_351 H hz_352 hK hP hD hS => ?_)
  have hP : va_P D vwCl ([(mo, .inr (4, [.int 0, .int 0, .ref q_347, .int 20, .int 60, .int 2000, .int 0, .int 0, .null, .null, .int 0, .null, .null, .int 0])), (q_347, .inl (cy_348, 60, .inl (fun _ => 0))), (q_350, .inl (cy_351, 366, .inl (fun _ => 0)))]) H := hP
  have hD : va_D A ([(mo, .inr (4, [.int 0, .int 0, .ref q_347, .int 20, .int 60, .int 2000, .int 0, .int 0, .null, .null, .int 0, .null, .null, .int 0])), (q_347, .inl (cy_348, 60, .inl (fun _ => 0))), (q_350, .inl (cy_351, 366, .inl (fun _ => 0)))]) := hD
  refine va_putF (D := D) (ci := 4) (v := .ref q_350) (ty := .array .int) (C := RX4) (T := TX4) (N := 14) hx hb hts (fun _ h9 => List.mem_cons_of_mem _ (List.mem_append_right _ h9)) tyX4 tyX4_ok nmX4 hown hK hP hD hS 0 rfl rfl 8 (by decide) (hts (.fieldLink RX4 23 "PalletStackModel" "table" "[I") (List.mem_of_getElem? (i := 9) (by rfl))) (fun _ h9 => h9) rfl hin rfl (by decide +kernel) rfl rfl (Nat.le_of_ble_eq_true rfl) dX4_init_37 (fun H locs hP hD hS => ?_)
  have hP : va_P D vwCl ([(mo, .inr (4, [.int 0, .int 0, .ref q_347, .int 20, .int 60, .int 2000, .int 0, .int 0, .ref q_350, .null, .int 0, .null, .null, .int 0])), (q_347, .inl (cy_348, 60, .inl (fun _ => 0))), (q_350, .inl (cy_351, 366, .inl (fun _ => 0)))]) H := hP
  have hD : va_D A ([(mo, .inr (4, [.int 0, .int 0, .ref q_347, .int 20, .int 60, .int 2000, .int 0, .int 0, .ref q_350, .null, .int 0, .null, .null, .int 0])), (q_347, .inl (cy_348, 60, .inl (fun _ => 0))), (q_350, .inl (cy_351, 366, .inl (fun _ => 0)))]) := hD
  refine lv_aload_n hx hb dX4_init_40 rfl (lv_at hl 0 rfl) ?_
  refine lv_bipush (v := 61) hx hb dX4_init_41 (by decide) ?_
  refine znewa (atype := .int) (ty := .int) (N' := 61) (a0 := (61, .inl (fun _ => 0))) hx hb (hts (.arrayClass .int) (List.mem_of_getElem? (i := 4) (by rfl))) rfl hK hP hD hS hA (fun _ => rfl) (by decide) rfl (Nat.le_of_ble_eq_true rfl) (by omega) (by omega) dX4_init_43 (fun q_353 cy_354 H hz_355 hK hP hD hS => ?_)
  have hP : va_P D vwCl ([(mo, .inr (4, [.int 0, .int 0, .ref q_347, .int 20, .int 60, .int 2000, .int 0, .int 0, .ref q_350, .null, .int 0, .null, .null, .int 0])), (q_347, .inl (cy_348, 60, .inl (fun _ => 0))), (q_350, .inl (cy_351, 366, .inl (fun _ => 0))), (q_353, .inl (cy_354, 61, .inl (fun _ => 0)))]) H := hP
  have hD : va_D A ([(mo, .inr (4, [.int 0, .int 0, .ref q_347, .int 20, .int 60, .int 2000, .int 0, .int 0, .ref q_350, .null, .int 0, .null, .null, .int 0])), (q_347, .inl (cy_348, 60, .inl (fun _ => 0))), (q_350, .inl (cy_351, 366, .inl (fun _ => 0))), (q_353, .inl (cy_354, 61, .inl (fun _ => 0)))]) := hD
  refine va_putF (D := D) (ci := 4) (v := .ref q_353) (ty := .array .int) (C := RX4) (T := TX4) (N := 14) hx hb hts (fun _ h9 => List.mem_cons_of_mem _ (List.mem_append_right _ h9)) tyX4 tyX4_ok nmX4 hown hK hP hD hS 0 rfl rfl 9 (by decide) (hts (.fieldLink RX4 26 "PalletStackModel" "loads" "[I") (List.mem_of_getElem? (i := 10) (by rfl))) (fun _ h9 => h9) rfl hin rfl (by decide +kernel) rfl rfl (Nat.le_of_ble_eq_true rfl) dX4_init_45 (fun H locs hP hD hS => ?_)
  have hP : va_P D vwCl ([(mo, .inr (4, [.int 0, .int 0, .ref q_347, .int 20, .int 60, .int 2000, .int 0, .int 0, .ref q_350, .ref q_353, .int 0, .null, .null, .int 0])), (q_347, .inl (cy_348, 60, .inl (fun _ => 0))), (q_350, .inl (cy_351, 366, .inl (fun _ => 0))), (q_353, .inl (cy_354, 61, .inl (fun _ => 0)))]) H := hP
  have hD : va_D A ([(mo, .inr (4, [.int 0, .int 0, .ref q_347, .int 20, .int 60, .int 2000, .int 0, .int 0, .ref q_350, .ref q_353, .int 0, .null, .null, .int 0])), (q_347, .inl (cy_348, 60, .inl (fun _ => 0))), (q_350, .inl (cy_351, 366, .inl (fun _ => 0))), (q_353, .inl (cy_354, 61, .inl (fun _ => 0)))]) := hD
  refine lv_aload_n hx hb dX4_init_48 rfl (lv_at hl 0 rfl) ?_
  refine lv_bipush (v := 20) hx hb dX4_init_49 (by decide) ?_
  refine znewa (atype := .int) (ty := .int) (N' := 20) (a0 := (20, .inl (fun _ => 0))) hx hb (hts (.arrayClass .int) (List.mem_of_getElem? (i := 4) (by rfl))) rfl hK hP hD hS hA (fun _ => rfl) (by decide) rfl (Nat.le_of_ble_eq_true rfl) (by omega) (by omega) dX4_init_51 (fun q_356 cy_357 H hz_358 hK hP hD hS => ?_)
  have hP : va_P D vwCl ([(mo, .inr (4, [.int 0, .int 0, .ref q_347, .int 20, .int 60, .int 2000, .int 0, .int 0, .ref q_350, .ref q_353, .int 0, .null, .null, .int 0])), (q_347, .inl (cy_348, 60, .inl (fun _ => 0))), (q_350, .inl (cy_351, 366, .inl (fun _ => 0))), (q_353, .inl (cy_354, 61, .inl (fun _ => 0))), (q_356, .inl (cy_357, 20, .inl (fun _ => 0)))]) H := hP
  have hD : va_D A ([(mo, .inr (4, [.int 0, .int 0, .ref q_347, .int 20, .int 60, .int 2000, .int 0, .int 0, .ref q_350, .ref q_353, .int 0, .null, .null, .int 0])), (q_347, .inl (cy_348, 60, .inl (fun _ => 0))), (q_350, .inl (cy_351, 366, .inl (fun _ => 0))), (q_353, .inl (cy_354, 61, .inl (fun _ => 0))), (q_356, .inl (cy_357, 20, .inl (fun _ => 0)))]) := hD
  refine va_putF (D := D) (ci := 4) (v := .ref q_356) (ty := .array .int) (C := RX4) (T := TX4) (N := 14) hx hb hts (fun _ h9 => List.mem_cons_of_mem _ (List.mem_append_right _ h9)) tyX4 tyX4_ok nmX4 hown hK hP hD hS 0 rfl rfl 11 (by decide) (hts (.fieldLink RX4 29 "PalletStackModel" "lineKinds" "[I") (List.mem_of_getElem? (i := 11) (by rfl))) (fun _ h9 => h9) rfl hin rfl (by decide +kernel) rfl rfl (Nat.le_of_ble_eq_true rfl) dX4_init_53 (fun H locs hP hD hS => ?_)
  have hP : va_P D vwCl ([(mo, .inr (4, [.int 0, .int 0, .ref q_347, .int 20, .int 60, .int 2000, .int 0, .int 0, .ref q_350, .ref q_353, .int 0, .ref q_356, .null, .int 0])), (q_347, .inl (cy_348, 60, .inl (fun _ => 0))), (q_350, .inl (cy_351, 366, .inl (fun _ => 0))), (q_353, .inl (cy_354, 61, .inl (fun _ => 0))), (q_356, .inl (cy_357, 20, .inl (fun _ => 0)))]) H := hP
  have hD : va_D A ([(mo, .inr (4, [.int 0, .int 0, .ref q_347, .int 20, .int 60, .int 2000, .int 0, .int 0, .ref q_350, .ref q_353, .int 0, .ref q_356, .null, .int 0])), (q_347, .inl (cy_348, 60, .inl (fun _ => 0))), (q_350, .inl (cy_351, 366, .inl (fun _ => 0))), (q_353, .inl (cy_354, 61, .inl (fun _ => 0))), (q_356, .inl (cy_357, 20, .inl (fun _ => 0)))]) := hD
  refine lv_aload_n hx hb dX4_init_56 rfl (lv_at hl 0 rfl) ?_
  refine lv_bipush (v := 20) hx hb dX4_init_57 (by decide) ?_
  refine znewa (atype := .int) (ty := .int) (N' := 20) (a0 := (20, .inl (fun _ => 0))) hx hb (hts (.arrayClass .int) (List.mem_of_getElem? (i := 4) (by rfl))) rfl hK hP hD hS hA (fun _ => rfl) (by decide) rfl (Nat.le_of_ble_eq_true rfl) (by omega) (by omega) dX4_init_59 (fun q_359 cy_360 H hz_361 hK hP hD hS => ?_)
  have hP : va_P D vwCl ([(mo, .inr (4, [.int 0, .int 0, .ref q_347, .int 20, .int 60, .int 2000, .int 0, .int 0, .ref q_350, .ref q_353, .int 0, .ref q_356, .null, .int 0])), (q_347, .inl (cy_348, 60, .inl (fun _ => 0))), (q_350, .inl (cy_351, 366, .inl (fun _ => 0))), (q_353, .inl (cy_354, 61, .inl (fun _ => 0))), (q_356, .inl (cy_357, 20, .inl (fun _ => 0))), (q_359, .inl (cy_360, 20, .inl (fun _ => 0)))]) H := hP
  have hD : va_D A ([(mo, .inr (4, [.int 0, .int 0, .ref q_347, .int 20, .int 60, .int 2000, .int 0, .int 0, .ref q_350, .ref q_353, .int 0, .ref q_356, .null, .int 0])), (q_347, .inl (cy_348, 60, .inl (fun _ => 0))), (q_350, .inl (cy_351, 366, .inl (fun _ => 0))), (q_353, .inl (cy_354, 61, .inl (fun _ => 0))), (q_356, .inl (cy_357, 20, .inl (fun _ => 0))), (q_359, .inl (cy_360, 20, .inl (fun _ => 0)))]) := hD
  refine va_putF (D := D) (ci := 4) (v := .ref q_359) (ty := .array .int) (C := RX4) (T := TX4) (N := 14) hx hb hts (fun _ h9 => List.mem_cons_of_mem _ (List.mem_append_right _ h9)) tyX4 tyX4_ok nmX4 hown hK hP hD hS 0 rfl rfl 12 (by decide) (hts (.fieldLink RX4 32 "PalletStackModel" "lineCounts" "[I") (List.mem_of_getElem? (i := 12) (by rfl))) (fun _ h9 => h9) rfl hin rfl (by decide +kernel) rfl rfl (Nat.le_of_ble_eq_true rfl) dX4_init_61 (fun H locs hP hD hS => ?_)
  have hP : va_P D vwCl ([(mo, .inr (4, [.int 0, .int 0, .ref q_347, .int 20, .int 60, .int 2000, .int 0, .int 0, .ref q_350, .ref q_353, .int 0, .ref q_356, .ref q_359, .int 0])), (q_347, .inl (cy_348, 60, .inl (fun _ => 0))), (q_350, .inl (cy_351, 366, .inl (fun _ => 0))), (q_353, .inl (cy_354, 61, .inl (fun _ => 0))), (q_356, .inl (cy_357, 20, .inl (fun _ => 0))), (q_359, .inl (cy_360, 20, .inl (fun _ => 0)))]) H := hP
  have hD : va_D A ([(mo, .inr (4, [.int 0, .int 0, .ref q_347, .int 20, .int 60, .int 2000, .int 0, .int 0, .ref q_350, .ref q_353, .int 0, .ref q_356, .ref q_359, .int 0])), (q_347, .inl (cy_348, 60, .inl (fun _ => 0))), (q_350, .inl (cy_351, 366, .inl (fun _ => 0))), (q_353, .inl (cy_354, 61, .inl (fun _ => 0))), (q_356, .inl (cy_357, 20, .inl (fun _ => 0))), (q_359, .inl (cy_360, 20, .inl (fun _ => 0)))]) := hD
  have hP := hP.sub (ws' := [(mo, .inr (4, [.int 0, .int 0, .ref q_347, .int 20, .int 60, .int 2000, .int 0, .int 0, .ref q_350, .ref q_353, .int 0, .ref q_356, .ref q_359, .int 0])), (q_347, .inl (cy_348, 60, .inl (fun _ => 0))), (q_350, .inl (cy_351, 366, .inl (fun _ => 0))), (q_356, .inl (cy_357, 20, .inl (fun _ => 0))), (q_359, .inl (cy_360, 20, .inl (fun _ => 0)))]) [0, 1, 2, 4, 5] rfl
  have hD := hD.sub (ws' := [(mo, .inr (4, [.int 0, .int 0, .ref q_347, .int 20, .int 60, .int 2000, .int 0, .int 0, .ref q_350, .ref q_353, .int 0, .ref q_356, .ref q_359, .int 0])), (q_347, .inl (cy_348, 60, .inl (fun _ => 0))), (q_350, .inl (cy_351, 366, .inl (fun _ => 0))), (q_356, .inl (cy_357, 20, .inl (fun _ => 0))), (q_359, .inl (cy_360, 20, .inl (fun _ => 0)))]) [0, 1, 2, 4, 5] (by decide) rfl
  refine W.widen (k := 5) (n := 527) (by omega) (by omega) ?_
  exact W.vret hx hb hr (fun t ht hW => ⟨⟨(fun i => [q_347, q_350, q_353, q_356, q_359].getD i 0, fun i => [cy_348, cy_351, cy_357, cy_360].getD i 0), rfl, True.intro, ⟨Nat.zero_le _, by rw [ht]; exact hP, va_K.moved hW.alike (hK.sub (tys' := [(cy_348, .int), (cy_351, .int), (cy_357, .int), (cy_360, .int)]) [0, 1, 3, 4] rfl), hD⟩⟩, hS.F ht⟩) hS.2.2 dX4_init_64
set_option maxHeartbeats 4000000 in
set_option maxRecDepth 100000 in
theorem c_addKindM (l : Launch) (D : zG) (sz : Nat) (mo kT tb ld lK lC n : Nat) (e1 : ClassId) : Met l yX4_addKind wsX4_addKind ({ frames := 1, cells := 1, slots := 6, locals := 60 }) (zPc D [(e1, .int)] ([(mo, .inr (4, [.int 0, .int 0, .ref kT, .int 20, .int 60, .int 2000, .int 0, .int 0, .ref tb, .ref ld, .int 0, .ref lK, .ref lC, .int 0])), (kT, .inl (e1, 60, .inl (fun _ => 0)))]) sz [.ref mo, .int 1, .int 1, .int 2, .int 1, .int 0, .int 1]) (va_Qi (fun (r : Int32) (u : Nat → Int32) => r = 0 ∧ (u 0 = 1 ∧ u 1 = 1 ∧ u 2 = 2 ∧ u 3 = 1 ∧ u 4 = 0 ∧ u 5 = 1)) (zB D (va_A ([(mo, .inr (4, [.int 0, .int 0, .ref kT, .int 20, .int 60, .int 2000, .int 0, .int 0, .ref tb, .ref ld, .int 0, .ref lK, .ref lC, .int 0])), (kT, .inl (e1, 60, .inl (fun _ => 0)))]) sz) (fun _ => [(e1, .int)]) 0 (fun u => [(mo, .inr (4, [.int 0, .int 1, .ref kT, .int 20, .int 60, .int 2000, .int 0, .int 0, .ref tb, .ref ld, .int 0, .ref lK, .ref lC, .int 0])), (kT, .inl (e1, 60, .inl (u)))])) (va_A ([(mo, .inr (4, [.int 0, .int 0, .ref kT, .int 20, .int 60, .int 2000, .int 0, .int 0, .ref tb, .ref ld, .int 0, .ref lK, .ref lC, .int 0])), (kT, .inl (e1, 60, .inl (fun _ => 0)))]) sz)) 1 6 (va_A ([(mo, .inr (4, [.int 0, .int 0, .ref kT, .int 20, .int 60, .int 2000, .int 0, .int 0, .ref tb, .ref ld, .int 0, .ref lK, .ref lC, .int 0])), (kT, .inl (e1, 60, .inl (fun _ => 0)))]) sz) := by
  refine Met.ofW (cc := cX4_addKind) (maxL := 8) (ret := (some .int)) (by decide) rfl ?_
  intro p e s m args below meth c s₁ B hml hv
  obtain ⟨rfl, hsz, hP, hK, hD0⟩ := hv
  have hx := B.exec
  have hb := B.bytes
  have hr := B.returns
  have hts := atoms_spec (ws := wsX4_addKind) B.pre
  have hown : s.vm.findClass RX4 = some m.cls := findClass_of_methodNamed B.named
  have hlocks := B.notSynchronized
  subst hsz
  have hD := hD0.self (sz := s.heap.size)
  generalize hAe : va_A ([(mo, .inr (4, [.int 0, .int 0, .ref kT, .int 20, .int 60, .int 2000, .int 0, .int 0, .ref tb, .ref ld, .int 0, .ref lK, .ref lC, .int 0])), (kT, .inl (e1, 60, .inl (fun _ => 0)))]) s.heap.size = A at hD ⊢
  have hA : ∀ q : Nat, s.heap.size ≤ q → A q := fun q h => by rw [← hAe]; exact Or.inr h
  have hS : va_S A s.heap s.heap [] := va_S.rf
  have hl := lv_entry ([.ref mo, .int 1, .int 1, .int 2, .int 1, .int 0, .int 1]) (n := 8) (Nat.le_of_ble_eq_true rfl)
  rw [lg_entry_eq]
  generalize (lg_sl ([.ref mo, .int 1, .int 1, .int 2, .int 1, .int 0, .int 1]) ++ List.replicate (8 - (lg_sl ([.ref mo, .int 1, .int 1, .int 2, .int 1, .int 0, .int 1])).length) Slot.unset).toArray = ls at hl ⊢
  have hl : lv_has ls 8 [(0, .ref mo), (1, .int 1), (2, .int 1), (3, .int 2), (4, .int 1), (5, .int 0), (6, .int 1)] := hl
  have hP : va_P D vwCl ([(mo, .inr (4, [.int 0, .int 0, .ref kT, .int 20, .int 60, .int 2000, .int 0, .int 0, .ref tb, .ref ld, .int 0, .ref lK, .ref lC, .int 0])), (kT, .inl (e1, 60, .inl (fun _ => 0)))]) s.heap := hP
  generalize hRe : (headSpec _ _).room = R
  have hRf : R.frames = 1 := by rw [← hRe]; rfl
  have hRc : R.cells = 1 := by rw [← hRe]; rfl
  have hRs : R.slots = 6 := by rw [← hRe]; rfl
  have hRl : R.locals = 60 := by rw [← hRe]; rfl
  clear hRe
  refine lv_aload_n hx hb dX4_addKind_0 rfl (lv_at hl 0 rfl) ?_
  refine lv_iconst (v := 0) hx hb dX4_addKind_1 (by decide) ?_
  refine va_put (D := D) (ci := 4) (v := .int 0) (ty := .int) (C := RX4) (T := TX4) (N := 14) hx hb hts (fun _ h9 => List.mem_cons_of_mem _ (List.mem_append_right _ h9)) tyX4 tyX4_ok nmX4 hown hK hP hD hS 0 rfl rfl 0 (by decide) (hts (.fieldLink RX4 35 "PalletStackModel" "thrown" "I") (List.mem_of_getElem? (i := 1) (by rfl))) (fun _ h9 => h9) rfl (by decide +kernel) rfl rfl (Nat.le_of_ble_eq_true rfl) dX4_addKind_2 (fun H locs hP hD hS => ?_)
  have hP : va_P D vwCl ([(mo, .inr (4, [.int 0, .int 0, .ref kT, .int 20, .int 60, .int 2000, .int 0, .int 0, .ref tb, .ref ld, .int 0, .ref lK, .ref lC, .int 0])), (kT, .inl (e1, 60, .inl (fun _ => 0)))]) H := hP
  have hD : va_D A ([(mo, .inr (4, [.int 0, .int 0, .ref kT, .int 20, .int 60, .int 2000, .int 0, .int 0, .ref tb, .ref ld, .int 0, .ref lK, .ref lC, .int 0])), (kT, .inl (e1, 60, .inl (fun _ => 0)))]) := hD
  refine lv_iload_n hx hb dX4_addKind_5 rfl (lv_at hl 1 rfl) ?_
  refine lv_iconst (v := 1) hx hb dX4_addKind_6 (by decide) ?_
  refine lv_bipush (v := 6) hx hb dX4_addKind_7 (by decide) ?_
  refine zrdS (As := [.int 1, .int 1, .int 6]) (rest := []) (wc := []) ⟨hx, hb, hml, hown, hts⟩ (c_isIn l D _ 1 1 6) (va_cwS 3 hts gX4_addKind_X4_isIn rfl rfl rfl (by decide +kernel) ⟨by rw [hRf]; exact Nat.le_of_ble_eq_true rfl, by rw [hRl]; exact Nat.le_of_ble_eq_true rfl⟩) hK hP hD [] rfl (by decide) [] rfl rfl hl.1 rfl (Nat.le_of_ble_eq_true rfl) dX4_addKind_9 ⟨by omega, by omega⟩ (fun r_362 hr_362 => ?_)
  refine lv_topi (fun v_363 ev_363 => ?_)
  obtain rfl : v_363 = 1 := ev_363.trans (hr_362.trans (by decide))
  refine lv_if_eq (tgt := 69) hx hb dX4_addKind_12 (by decide) (fun c_364 => absurd c_364 (by decide)) (fun c_364 => ?_)
  refine lv_iload_n hx hb dX4_addKind_15 rfl (lv_at hl 2 rfl) ?_
  refine lv_iconst (v := 1) hx hb dX4_addKind_16 (by decide) ?_
  refine lv_bipush (v := 6) hx hb dX4_addKind_17 (by decide) ?_
  refine zrdS (As := [.int 1, .int 1, .int 6]) (rest := []) (wc := []) ⟨hx, hb, hml, hown, hts⟩ (c_isIn l D _ 1 1 6) (va_cwS 3 hts gX4_addKind_X4_isIn rfl rfl rfl (by decide +kernel) ⟨by rw [hRf]; exact Nat.le_of_ble_eq_true rfl, by rw [hRl]; exact Nat.le_of_ble_eq_true rfl⟩) hK hP hD [] rfl (by decide) [] rfl rfl hl.1 rfl (Nat.le_of_ble_eq_true rfl) dX4_addKind_19 ⟨by omega, by omega⟩ (fun r_365 hr_365 => ?_)
  refine lv_topi (fun v_366 ev_366 => ?_)
  obtain rfl : v_366 = 1 := ev_366.trans (hr_365.trans (by decide))
  refine lv_if_eq (tgt := 69) hx hb dX4_addKind_22 (by decide) (fun c_367 => absurd c_367 (by decide)) (fun c_367 => ?_)
  refine lv_iload_n hx hb dX4_addKind_25 rfl (lv_at hl 3 rfl) ?_
  refine lv_iconst (v := 1) hx hb dX4_addKind_26 (by decide) ?_
  refine lv_bipush (v := 8) hx hb dX4_addKind_27 (by decide) ?_
  refine zrdS (As := [.int 2, .int 1, .int 8]) (rest := []) (wc := []) ⟨hx, hb, hml, hown, hts⟩ (c_isIn l D _ 2 1 8) (va_cwS 3 hts gX4_addKind_X4_isIn rfl rfl rfl (by decide +kernel) ⟨by rw [hRf]; exact Nat.le_of_ble_eq_true rfl, by rw [hRl]; exact Nat.le_of_ble_eq_true rfl⟩) hK hP hD [] rfl (by decide) [] rfl rfl hl.1 rfl (Nat.le_of_ble_eq_true rfl) dX4_addKind_29 ⟨by omega, by omega⟩ (fun r_368 hr_368 => ?_)
  refine lv_topi (fun v_369 ev_369 => ?_)
  obtain rfl : v_369 = 1 := ev_369.trans (hr_368.trans (by decide))
  refine lv_if_eq (tgt := 69) hx hb dX4_addKind_32 (by decide) (fun c_370 => absurd c_370 (by decide)) (fun c_370 => ?_)
  refine lv_iload hx hb dX4_addKind_35 (lv_at hl 4 rfl) ?_
  refine lv_iconst (v := 1) hx hb dX4_addKind_37 (by decide) ?_
  refine lv_sipush (v := 500) hx hb dX4_addKind_38 (by decide) ?_
  refine zrdS (As := [.int 1, .int 1, .int 500]) (rest := []) (wc := []) ⟨hx, hb, hml, hown, hts⟩ (c_isIn l D _ 1 1 500) (va_cwS 3 hts gX4_addKind_X4_isIn rfl rfl rfl (by decide +kernel) ⟨by rw [hRf]; exact Nat.le_of_ble_eq_true rfl, by rw [hRl]; exact Nat.le_of_ble_eq_true rfl⟩) hK hP hD [] rfl (by decide) [] rfl rfl hl.1 rfl (Nat.le_of_ble_eq_true rfl) dX4_addKind_41 ⟨by omega, by omega⟩ (fun r_371 hr_371 => ?_)
  refine lv_topi (fun v_372 ev_372 => ?_)
  obtain rfl : v_372 = 1 := ev_372.trans (hr_371.trans (by decide))
  refine lv_if_eq (tgt := 69) hx hb dX4_addKind_44 (by decide) (fun c_373 => absurd c_373 (by decide)) (fun c_373 => ?_)
  refine lv_iload hx hb dX4_addKind_47 (lv_at hl 5 rfl) ?_
  refine lv_iconst (v := 0) hx hb dX4_addKind_49 (by decide) ?_
  refine lv_sipush (v := 5000) hx hb dX4_addKind_50 (by decide) ?_
  refine zrdS (As := [.int 0, .int 0, .int 5000]) (rest := []) (wc := []) ⟨hx, hb, hml, hown, hts⟩ (c_isIn l D _ 0 0 5000) (va_cwS 3 hts gX4_addKind_X4_isIn rfl rfl rfl (by decide +kernel) ⟨by rw [hRf]; exact Nat.le_of_ble_eq_true rfl, by rw [hRl]; exact Nat.le_of_ble_eq_true rfl⟩) hK hP hD [] rfl (by decide) [] rfl rfl hl.1 rfl (Nat.le_of_ble_eq_true rfl) dX4_addKind_53 ⟨by omega, by omega⟩ (fun r_374 hr_374 => ?_)
  refine lv_topi (fun v_375 ev_375 => ?_)
  obtain rfl : v_375 = 1 := ev_375.trans (hr_374.trans (by decide))
  refine lv_if_eq (tgt := 69) hx hb dX4_addKind_56 (by decide) (fun c_376 => absurd c_376 (by decide)) (fun c_376 => ?_)
  refine lv_iload hx hb dX4_addKind_59 (lv_at hl 6 rfl) ?_
  refine lv_iconst (v := 0) hx hb dX4_addKind_61 (by decide) ?_
  refine lv_iconst (v := 3) hx hb dX4_addKind_62 (by decide) ?_
  refine zrdS (As := [.int 1, .int 0, .int 3]) (rest := []) (wc := []) ⟨hx, hb, hml, hown, hts⟩ (c_isIn l D _ 1 0 3) (va_cwS 3 hts gX4_addKind_X4_isIn rfl rfl rfl (by decide +kernel) ⟨by rw [hRf]; exact Nat.le_of_ble_eq_true rfl, by rw [hRl]; exact Nat.le_of_ble_eq_true rfl⟩) hK hP hD [] rfl (by decide) [] rfl rfl hl.1 rfl (Nat.le_of_ble_eq_true rfl) dX4_addKind_63 ⟨by omega, by omega⟩ (fun r_377 hr_377 => ?_)
  refine lv_topi (fun v_378 ev_378 => ?_)
  obtain rfl : v_378 = 1 := ev_378.trans (hr_377.trans (by decide))
  refine lv_if_ne (tgt := 75) hx hb dX4_addKind_66 (by decide) (fun c_379 => ?_) (fun c_379 => absurd c_379 (by decide))
  refine lv_aload_n hx hb dX4_addKind_75 rfl (lv_at hl 0 rfl) ?_
  refine va_get (D := D) (ci := 4) (v := .int 0) (C := RX4) (T := TX4) (N := 14) hx hb hts (fun _ h9 => List.mem_cons_of_mem _ (List.mem_append_right _ h9)) hown hK hP 0 rfl rfl 1 (by decide) (hts (.fieldLink RX4 38 "PalletStackModel" "kinds" "I") (List.mem_of_getElem? (i := 2) (by rfl))) (fun _ h9 => h9) rfl dX4_addKind_76 ?_
  refine lv_bipush (v := 10) hx hb dX4_addKind_79 (by decide) ?_
  refine lv_icmp_ne (tgt := 90) hx hb dX4_addKind_81 (by decide) (fun c_380 => ?_) (fun c_380 => absurd c_380 (by decide))
  refine lv_bipush (v := 6) hx hb dX4_addKind_90 (by decide) ?_
  refine znewa (atype := .int) (ty := .int) (N' := 6) (a0 := (6, .inl (fun _ => 0))) hx hb (hts (.arrayClass .int) (List.mem_of_getElem? (i := 3) (by rfl))) rfl hK hP hD hS hA (fun _ => rfl) (by decide) rfl (Nat.le_of_ble_eq_true rfl) (by omega) (by omega) dX4_addKind_92 (fun q_381 cy_382 H hz_383 hK hP hD hS => ?_)
  have hP : va_P D vwCl ([(mo, .inr (4, [.int 0, .int 0, .ref kT, .int 20, .int 60, .int 2000, .int 0, .int 0, .ref tb, .ref ld, .int 0, .ref lK, .ref lC, .int 0])), (kT, .inl (e1, 60, .inl (fun _ => 0))), (q_381, .inl (cy_382, 6, .inl (fun _ => 0)))]) H := hP
  have hD : va_D A ([(mo, .inr (4, [.int 0, .int 0, .ref kT, .int 20, .int 60, .int 2000, .int 0, .int 0, .ref tb, .ref ld, .int 0, .ref lK, .ref lC, .int 0])), (kT, .inl (e1, 60, .inl (fun _ => 0))), (q_381, .inl (cy_382, 6, .inl (fun _ => 0)))]) := hD
  refine lv_dup hx hb dX4_addKind_94 rfl ?_
  refine lv_iconst (v := 0) hx hb dX4_addKind_95 (by decide) ?_
  refine lv_iload_n hx hb dX4_addKind_96 rfl (lv_at hl 1 rfl) ?_
  refine va_iast hx hb hK hP hD hS 2 1 rfl rfl (vp_in_nI (n := 0) (N := 6) (by decide) (by decide)) dX4_addKind_97 (fun H locs hP hD hS => ?_)
  have hP : va_P D vwCl ([(mo, .inr (4, [.int 0, .int 0, .ref kT, .int 20, .int 60, .int 2000, .int 0, .int 0, .ref tb, .ref ld, .int 0, .ref lK, .ref lC, .int 0])), (kT, .inl (e1, 60, .inl (fun _ => 0))), (q_381, .inl (cy_382, 6, .inl (upd (fun _ => 0) 0 1)))]) H := hP
  have hD : va_D A ([(mo, .inr (4, [.int 0, .int 0, .ref kT, .int 20, .int 60, .int 2000, .int 0, .int 0, .ref tb, .ref ld, .int 0, .ref lK, .ref lC, .int 0])), (kT, .inl (e1, 60, .inl (fun _ => 0))), (q_381, .inl (cy_382, 6, .inl (upd (fun _ => 0) 0 1)))]) := hD
  refine lv_dup hx hb dX4_addKind_98 rfl ?_
  refine lv_iconst (v := 1) hx hb dX4_addKind_99 (by decide) ?_
  refine lv_iload_n hx hb dX4_addKind_100 rfl (lv_at hl 2 rfl) ?_
  refine va_iast hx hb hK hP hD hS 2 1 rfl rfl (vp_in_nI (n := 1) (N := 6) (by decide) (by decide)) dX4_addKind_101 (fun H locs hP hD hS => ?_)
  have hP : va_P D vwCl ([(mo, .inr (4, [.int 0, .int 0, .ref kT, .int 20, .int 60, .int 2000, .int 0, .int 0, .ref tb, .ref ld, .int 0, .ref lK, .ref lC, .int 0])), (kT, .inl (e1, 60, .inl (fun _ => 0))), (q_381, .inl (cy_382, 6, .inl (upd (upd (fun _ => 0) 0 1) 1 1)))]) H := hP
  have hD : va_D A ([(mo, .inr (4, [.int 0, .int 0, .ref kT, .int 20, .int 60, .int 2000, .int 0, .int 0, .ref tb, .ref ld, .int 0, .ref lK, .ref lC, .int 0])), (kT, .inl (e1, 60, .inl (fun _ => 0))), (q_381, .inl (cy_382, 6, .inl (upd (upd (fun _ => 0) 0 1) 1 1)))]) := hD
  refine lv_dup hx hb dX4_addKind_102 rfl ?_
  refine lv_iconst (v := 2) hx hb dX4_addKind_103 (by decide) ?_
  refine lv_iload_n hx hb dX4_addKind_104 rfl (lv_at hl 3 rfl) ?_
  refine va_iast hx hb hK hP hD hS 2 1 rfl rfl (vp_in_nI (n := 2) (N := 6) (by decide) (by decide)) dX4_addKind_105 (fun H locs hP hD hS => ?_)
  have hP : va_P D vwCl ([(mo, .inr (4, [.int 0, .int 0, .ref kT, .int 20, .int 60, .int 2000, .int 0, .int 0, .ref tb, .ref ld, .int 0, .ref lK, .ref lC, .int 0])), (kT, .inl (e1, 60, .inl (fun _ => 0))), (q_381, .inl (cy_382, 6, .inl (upd (upd (upd (fun _ => 0) 0 1) 1 1) 2 2)))]) H := hP
  have hD : va_D A ([(mo, .inr (4, [.int 0, .int 0, .ref kT, .int 20, .int 60, .int 2000, .int 0, .int 0, .ref tb, .ref ld, .int 0, .ref lK, .ref lC, .int 0])), (kT, .inl (e1, 60, .inl (fun _ => 0))), (q_381, .inl (cy_382, 6, .inl (upd (upd (upd (fun _ => 0) 0 1) 1 1) 2 2)))]) := hD
  refine lv_dup hx hb dX4_addKind_106 rfl ?_
  refine lv_iconst (v := 3) hx hb dX4_addKind_107 (by decide) ?_
  refine lv_iload hx hb dX4_addKind_108 (lv_at hl 4 rfl) ?_
  refine va_iast hx hb hK hP hD hS 2 1 rfl rfl (vp_in_nI (n := 3) (N := 6) (by decide) (by decide)) dX4_addKind_110 (fun H locs hP hD hS => ?_)
  have hP : va_P D vwCl ([(mo, .inr (4, [.int 0, .int 0, .ref kT, .int 20, .int 60, .int 2000, .int 0, .int 0, .ref tb, .ref ld, .int 0, .ref lK, .ref lC, .int 0])), (kT, .inl (e1, 60, .inl (fun _ => 0))), (q_381, .inl (cy_382, 6, .inl (upd (upd (upd (upd (fun _ => 0) 0 1) 1 1) 2 2) 3 1)))]) H := hP
  have hD : va_D A ([(mo, .inr (4, [.int 0, .int 0, .ref kT, .int 20, .int 60, .int 2000, .int 0, .int 0, .ref tb, .ref ld, .int 0, .ref lK, .ref lC, .int 0])), (kT, .inl (e1, 60, .inl (fun _ => 0))), (q_381, .inl (cy_382, 6, .inl (upd (upd (upd (upd (fun _ => 0) 0 1) 1 1) 2 2) 3 1)))]) := hD
  refine lv_dup hx hb dX4_addKind_111 rfl ?_
  refine lv_iconst (v := 4) hx hb dX4_addKind_112 (by decide) ?_
  refine lv_iload hx hb dX4_addKind_113 (lv_at hl 5 rfl) ?_
  refine va_iast hx hb hK hP hD hS 2 1 rfl rfl (vp_in_nI (n := 4) (N := 6) (by decide) (by decide)) dX4_addKind_115 (fun H locs hP hD hS => ?_)
  have hP : va_P D vwCl ([(mo, .inr (4, [.int 0, .int 0, .ref kT, .int 20, .int 60, .int 2000, .int 0, .int 0, .ref tb, .ref ld, .int 0, .ref lK, .ref lC, .int 0])), (kT, .inl (e1, 60, .inl (fun _ => 0))), (q_381, .inl (cy_382, 6, .inl (upd (upd (upd (upd (upd (fun _ => 0) 0 1) 1 1) 2 2) 3 1) 4 0)))]) H := hP
  have hD : va_D A ([(mo, .inr (4, [.int 0, .int 0, .ref kT, .int 20, .int 60, .int 2000, .int 0, .int 0, .ref tb, .ref ld, .int 0, .ref lK, .ref lC, .int 0])), (kT, .inl (e1, 60, .inl (fun _ => 0))), (q_381, .inl (cy_382, 6, .inl (upd (upd (upd (upd (upd (fun _ => 0) 0 1) 1 1) 2 2) 3 1) 4 0)))]) := hD
  refine lv_dup hx hb dX4_addKind_116 rfl ?_
  refine lv_iconst (v := 5) hx hb dX4_addKind_117 (by decide) ?_
  refine lv_iload hx hb dX4_addKind_118 (lv_at hl 6 rfl) ?_
  refine va_iast hx hb hK hP hD hS 2 1 rfl rfl (vp_in_nI (n := 5) (N := 6) (by decide) (by decide)) dX4_addKind_120 (fun H locs hP hD hS => ?_)
  have hP : va_P D vwCl ([(mo, .inr (4, [.int 0, .int 0, .ref kT, .int 20, .int 60, .int 2000, .int 0, .int 0, .ref tb, .ref ld, .int 0, .ref lK, .ref lC, .int 0])), (kT, .inl (e1, 60, .inl (fun _ => 0))), (q_381, .inl (cy_382, 6, .inl (upd (upd (upd (upd (upd (upd (fun _ => 0) 0 1) 1 1) 2 2) 3 1) 4 0) 5 1)))]) H := hP
  have hD : va_D A ([(mo, .inr (4, [.int 0, .int 0, .ref kT, .int 20, .int 60, .int 2000, .int 0, .int 0, .ref tb, .ref ld, .int 0, .ref lK, .ref lC, .int 0])), (kT, .inl (e1, 60, .inl (fun _ => 0))), (q_381, .inl (cy_382, 6, .inl (upd (upd (upd (upd (upd (upd (fun _ => 0) 0 1) 1 1) 2 2) 3 1) 4 0) 5 1)))]) := hD
  refine lv_astore (lv' := [(7, .ref q_381), (0, .ref mo), (1, .int 1), (2, .int 1), (3, .int 2), (4, .int 1), (5, .int 0), (6, .int 1)]) hx hb dX4_addKind_121 hl (by decide) rfl (fun ls hl => ?_)
  refine lv_aload hx hb dX4_addKind_123 (lv_at hl 0 rfl) ?_
  refine lv_iconst (v := 0) hx hb dX4_addKind_125 (by decide) ?_
  refine lv_aload_n hx hb dX4_addKind_126 rfl (lv_at hl 1 rfl) ?_
  refine va_get (D := D) (ci := 4) (v := .ref kT) (C := RX4) (T := TX4) (N := 14) hx hb hts (fun _ h9 => List.mem_cons_of_mem _ (List.mem_append_right _ h9)) hown hK hP 0 rfl rfl 2 (by decide) (hts (.fieldLink RX4 9 "PalletStackModel" "kindTable" "[I") (List.mem_of_getElem? (i := 4) (by rfl))) (fun _ h9 => h9) rfl dX4_addKind_127 ?_
  refine lv_bipush (v := 6) hx hb dX4_addKind_130 (by decide) ?_
  refine lv_aload_n hx hb dX4_addKind_132 rfl (lv_at hl 1 rfl) ?_
  refine va_get (D := D) (ci := 4) (v := .int 0) (C := RX4) (T := TX4) (N := 14) hx hb hts (fun _ h9 => List.mem_cons_of_mem _ (List.mem_append_right _ h9)) hown hK hP 0 rfl rfl 1 (by decide) (hts (.fieldLink RX4 38 "PalletStackModel" "kinds" "I") (List.mem_of_getElem? (i := 2) (by rfl))) (fun _ h9 => h9) rfl dX4_addKind_133 ?_
  refine lv_imul hx hb dX4_addKind_136 ?_
  refine lv_topi (fun v_384 ev_384 => ?_)
  obtain rfl : v_384 = 0 := ev_384.trans (by decide)
  refine lv_bipush (v := 6) hx hb dX4_addKind_137 (by decide) ?_
  refine va_copyi (ty := .int) hx hb (by rw [hml]; exact hl.1.symm) hown (hts (.methodLink RX4 49 arraycopyName) (List.mem_of_getElem? (i := 5) (by rfl))) (hts (.native arraycopyName) (List.mem_of_getElem? (i := 6) (by rfl))) (hts (.static arraycopyName) (List.mem_of_getElem? (i := 7) (by rfl))) (hts (.initialized "java/lang/System") (List.mem_of_getElem? (i := 8) (by rfl))) hK hP hD hS 2 1 1 0 rfl rfl rfl rfl rfl (by decide) (by decide) (by decide) (by decide) (by decide) (fun _ _ => rfl) (by rw [hRf]; exact Nat.le_of_ble_eq_true rfl) (by rw [hRl]; exact Nat.le_of_ble_eq_true rfl) dX4_addKind_139 (fun H locs hP hD hS => ?_)
  have hP : va_P D vwCl ([(mo, .inr (4, [.int 0, .int 0, .ref kT, .int 20, .int 60, .int 2000, .int 0, .int 0, .ref tb, .ref ld, .int 0, .ref lK, .ref lC, .int 0])), (kT, .inl (e1, 60, .inl (va_cpy (upd (upd (upd (upd (upd (upd (fun _ => 0) 0 1) 1 1) 2 2) 3 1) 4 0) 5 1) (fun _ => 0) 0 0 6))), (q_381, .inl (cy_382, 6, .inl (upd (upd (upd (upd (upd (upd (fun _ => 0) 0 1) 1 1) 2 2) 3 1) 4 0) 5 1)))]) H := hP
  have hD : va_D A ([(mo, .inr (4, [.int 0, .int 0, .ref kT, .int 20, .int 60, .int 2000, .int 0, .int 0, .ref tb, .ref ld, .int 0, .ref lK, .ref lC, .int 0])), (kT, .inl (e1, 60, .inl (va_cpy (upd (upd (upd (upd (upd (upd (fun _ => 0) 0 1) 1 1) 2 2) 3 1) 4 0) 5 1) (fun _ => 0) 0 0 6))), (q_381, .inl (cy_382, 6, .inl (upd (upd (upd (upd (upd (upd (fun _ => 0) 0 1) 1 1) 2 2) 3 1) 4 0) 5 1)))]) := hD
  refine lv_aload_n hx hb dX4_addKind_142 rfl (lv_at hl 1 rfl) ?_
  refine lv_dup hx hb dX4_addKind_143 rfl ?_
  refine va_get (D := D) (ci := 4) (v := .int 0) (C := RX4) (T := TX4) (N := 14) hx hb hts (fun _ h9 => List.mem_cons_of_mem _ (List.mem_append_right _ h9)) hown hK hP 0 rfl rfl 1 (by decide) (hts (.fieldLink RX4 38 "PalletStackModel" "kinds" "I") (List.mem_of_getElem? (i := 2) (by rfl))) (fun _ h9 => h9) rfl dX4_addKind_144 ?_
  refine lv_iconst (v := 1) hx hb dX4_addKind_147 (by decide) ?_
  refine lv_iadd hx hb dX4_addKind_148 ?_
  refine lv_topi (fun v_385 ev_385 => ?_)
  obtain rfl : v_385 = 1 := ev_385.trans (by decide)
  refine va_put (D := D) (ci := 4) (v := .int 1) (ty := .int) (C := RX4) (T := TX4) (N := 14) hx hb hts (fun _ h9 => List.mem_cons_of_mem _ (List.mem_append_right _ h9)) tyX4 tyX4_ok nmX4 hown hK hP hD hS 0 rfl rfl 1 (by decide) (hts (.fieldLink RX4 38 "PalletStackModel" "kinds" "I") (List.mem_of_getElem? (i := 2) (by rfl))) (fun _ h9 => h9) rfl (by decide +kernel) rfl rfl (Nat.le_of_ble_eq_true rfl) dX4_addKind_149 (fun H locs hP hD hS => ?_)
  have hP : va_P D vwCl ([(mo, .inr (4, [.int 0, .int 1, .ref kT, .int 20, .int 60, .int 2000, .int 0, .int 0, .ref tb, .ref ld, .int 0, .ref lK, .ref lC, .int 0])), (kT, .inl (e1, 60, .inl (va_cpy (upd (upd (upd (upd (upd (upd (fun _ => 0) 0 1) 1 1) 2 2) 3 1) 4 0) 5 1) (fun _ => 0) 0 0 6))), (q_381, .inl (cy_382, 6, .inl (upd (upd (upd (upd (upd (upd (fun _ => 0) 0 1) 1 1) 2 2) 3 1) 4 0) 5 1)))]) H := hP
  have hD : va_D A ([(mo, .inr (4, [.int 0, .int 1, .ref kT, .int 20, .int 60, .int 2000, .int 0, .int 0, .ref tb, .ref ld, .int 0, .ref lK, .ref lC, .int 0])), (kT, .inl (e1, 60, .inl (va_cpy (upd (upd (upd (upd (upd (upd (fun _ => 0) 0 1) 1 1) 2 2) 3 1) 4 0) 5 1) (fun _ => 0) 0 0 6))), (q_381, .inl (cy_382, 6, .inl (upd (upd (upd (upd (upd (upd (fun _ => 0) 0 1) 1 1) 2 2) 3 1) 4 0) 5 1)))]) := hD
  refine lv_aload_n hx hb dX4_addKind_152 rfl (lv_at hl 1 rfl) ?_
  refine va_get (D := D) (ci := 4) (v := .int 1) (C := RX4) (T := TX4) (N := 14) hx hb hts (fun _ h9 => List.mem_cons_of_mem _ (List.mem_append_right _ h9)) hown hK hP 0 rfl rfl 1 (by decide) (hts (.fieldLink RX4 38 "PalletStackModel" "kinds" "I") (List.mem_of_getElem? (i := 2) (by rfl))) (fun _ h9 => h9) rfl dX4_addKind_153 ?_
  refine lv_iconst (v := 1) hx hb dX4_addKind_156 (by decide) ?_
  refine lv_isub hx hb dX4_addKind_157 ?_
  refine lv_topi (fun v_386 ev_386 => ?_)
  obtain rfl : v_386 = 0 := ev_386.trans (by decide)
  have hP := hP.sub (ws' := [(mo, .inr (4, [.int 0, .int 1, .ref kT, .int 20, .int 60, .int 2000, .int 0, .int 0, .ref tb, .ref ld, .int 0, .ref lK, .ref lC, .int 0])), (kT, .inl (e1, 60, .inl (va_cpy (upd (upd (upd (upd (upd (upd (fun _ => 0) 0 1) 1 1) 2 2) 3 1) 4 0) 5 1) (fun _ => 0) 0 0 6)))]) [0, 1] rfl
  have hD := hD.sub (ws' := [(mo, .inr (4, [.int 0, .int 1, .ref kT, .int 20, .int 60, .int 2000, .int 0, .int 0, .ref tb, .ref ld, .int 0, .ref lK, .ref lC, .int 0])), (kT, .inl (e1, 60, .inl (va_cpy (upd (upd (upd (upd (upd (upd (fun _ => 0) 0 1) 1 1) 2 2) 3 1) 4 0) 5 1) (fun _ => 0) 0 0 6)))]) [0, 1] (by decide) rfl
  refine W.widen (k := 1) (n := 6) (by omega) (by omega) ?_
  exact W.iret (v := 0) hx hb hr (fun t ht hW => ⟨⟨0, (va_cpy (upd (upd (upd (upd (upd (upd (fun _ => 0) 0 1) 1 1) 2 2) 3 1) 4 0) 5 1) (fun _ => 0) 0 0 6), rfl, ⟨rfl, rfl, rfl, rfl, rfl, rfl, rfl⟩, ⟨Nat.zero_le _, by rw [ht]; exact hP, va_K.moved hW.alike (hK.sub (tys' := [(e1, .int)]) [0] rfl), hD⟩⟩, hS.F ht⟩) hS.2.2 dX4_addKind_158
set_option maxHeartbeats 4000000 in
set_option maxRecDepth 100000 in
theorem c_setRulesM (l : Launch) (D : zG) (sz : Nat) (mo kT tb ld lK lC n : Nat) : Met l yX4_setRules wsX4_setRules ({ frames := 1, cells := 0, slots := 0, locals := 30 }) (zPc D [] ([(mo, .inr (4, [.int 0, .int 1, .ref kT, .int 20, .int 60, .int 2000, .int 0, .int 0, .ref tb, .ref ld, .int 0, .ref lK, .ref lC, .int 0]))]) sz [.ref mo, .int 1, .int 0, .int 1, .int 0]) (va_Qi (fun (r : Int32) (u : Unit) => r = 20) (zB D (va_A ([(mo, .inr (4, [.int 0, .int 1, .ref kT, .int 20, .int 60, .int 2000, .int 0, .int 0, .ref tb, .ref ld, .int 0, .ref lK, .ref lC, .int 0]))]) sz) (fun _ => []) 0 (fun _ => [(mo, .inr (4, [.int 0, .int 1, .ref kT, .int 1, .int 0, .int 1, .int 0, .int 0, .ref tb, .ref ld, .int 0, .ref lK, .ref lC, .int 0]))])) (va_A ([(mo, .inr (4, [.int 0, .int 1, .ref kT, .int 20, .int 60, .int 2000, .int 0, .int 0, .ref tb, .ref ld, .int 0, .ref lK, .ref lC, .int 0]))]) sz)) 0 0 (va_A ([(mo, .inr (4, [.int 0, .int 1, .ref kT, .int 20, .int 60, .int 2000, .int 0, .int 0, .ref tb, .ref ld, .int 0, .ref lK, .ref lC, .int 0]))]) sz) := by
  refine Met.ofW (cc := cX4_setRules) (maxL := 6) (ret := (some .int)) (by decide) rfl ?_
  intro p e s m args below meth c s₁ B hml hv
  obtain ⟨rfl, hsz, hP, hK, hD0⟩ := hv
  have hx := B.exec
  have hb := B.bytes
  have hr := B.returns
  have hts := atoms_spec (ws := wsX4_setRules) B.pre
  have hown : s.vm.findClass RX4 = some m.cls := findClass_of_methodNamed B.named
  have hlocks := B.notSynchronized
  subst hsz
  have hD := hD0.self (sz := s.heap.size)
  generalize hAe : va_A ([(mo, .inr (4, [.int 0, .int 1, .ref kT, .int 20, .int 60, .int 2000, .int 0, .int 0, .ref tb, .ref ld, .int 0, .ref lK, .ref lC, .int 0]))]) s.heap.size = A at hD ⊢
  have hA : ∀ q : Nat, s.heap.size ≤ q → A q := fun q h => by rw [← hAe]; exact Or.inr h
  have hS : va_S A s.heap s.heap [] := va_S.rf
  have hl := lv_entry ([.ref mo, .int 1, .int 0, .int 1, .int 0]) (n := 6) (Nat.le_of_ble_eq_true rfl)
  rw [lg_entry_eq]
  generalize (lg_sl ([.ref mo, .int 1, .int 0, .int 1, .int 0]) ++ List.replicate (6 - (lg_sl ([.ref mo, .int 1, .int 0, .int 1, .int 0])).length) Slot.unset).toArray = ls at hl ⊢
  have hl : lv_has ls 6 [(0, .ref mo), (1, .int 1), (2, .int 0), (3, .int 1), (4, .int 0)] := hl
  have hP : va_P D vwCl ([(mo, .inr (4, [.int 0, .int 1, .ref kT, .int 20, .int 60, .int 2000, .int 0, .int 0, .ref tb, .ref ld, .int 0, .ref lK, .ref lC, .int 0]))]) s.heap := hP
  generalize hRe : (headSpec _ _).room = R
  have hRf : R.frames = 1 := by rw [← hRe]; rfl
  have hRc : R.cells = 0 := by rw [← hRe]; rfl
  have hRs : R.slots = 0 := by rw [← hRe]; rfl
  have hRl : R.locals = 30 := by rw [← hRe]; rfl
  clear hRe
  refine lv_aload_n hx hb dX4_setRules_0 rfl (lv_at hl 0 rfl) ?_
  refine lv_iconst (v := 0) hx hb dX4_setRules_1 (by decide) ?_
  refine va_put (D := D) (ci := 4) (v := .int 0) (ty := .int) (C := RX4) (T := TX4) (N := 14) hx hb hts (fun _ h9 => List.mem_cons_of_mem _ (List.mem_append_right _ h9)) tyX4 tyX4_ok nmX4 hown hK hP hD hS 0 rfl rfl 0 (by decide) (hts (.fieldLink RX4 35 "PalletStackModel" "thrown" "I") (List.mem_of_getElem? (i := 1) (by rfl))) (fun _ h9 => h9) rfl (by decide +kernel) rfl rfl (Nat.le_of_ble_eq_true rfl) dX4_setRules_2 (fun H locs hP hD hS => ?_)
  have hP : va_P D vwCl ([(mo, .inr (4, [.int 0, .int 1, .ref kT, .int 20, .int 60, .int 2000, .int 0, .int 0, .ref tb, .ref ld, .int 0, .ref lK, .ref lC, .int 0]))]) H := hP
  have hD : va_D A ([(mo, .inr (4, [.int 0, .int 1, .ref kT, .int 20, .int 60, .int 2000, .int 0, .int 0, .ref tb, .ref ld, .int 0, .ref lK, .ref lC, .int 0]))]) := hD
  refine lv_iload_n hx hb dX4_setRules_5 rfl (lv_at hl 1 rfl) ?_
  refine lv_iconst (v := 1) hx hb dX4_setRules_6 (by decide) ?_
  refine lv_bipush (v := 40) hx hb dX4_setRules_7 (by decide) ?_
  refine zrdS (As := [.int 1, .int 1, .int 40]) (rest := []) (wc := []) ⟨hx, hb, hml, hown, hts⟩ (c_isIn l D _ 1 1 40) (va_cwS 3 hts gX4_setRules_X4_isIn rfl rfl rfl (by decide +kernel) ⟨by rw [hRf]; exact Nat.le_of_ble_eq_true rfl, by rw [hRl]; exact Nat.le_of_ble_eq_true rfl⟩) hK hP hD [] rfl (by decide) [] rfl rfl hl.1 rfl (Nat.le_of_ble_eq_true rfl) dX4_setRules_9 ⟨by omega, by omega⟩ (fun r_387 hr_387 => ?_)
  refine lv_topi (fun v_388 ev_388 => ?_)
  obtain rfl : v_388 = 1 := ev_388.trans (hr_387.trans (by decide))
  refine lv_if_eq (tgt := 36) hx hb dX4_setRules_12 (by decide) (fun c_389 => absurd c_389 (by decide)) (fun c_389 => ?_)
  refine lv_iload_n hx hb dX4_setRules_15 rfl (lv_at hl 2 rfl) ?_
  refine lv_iconst (v := 0) hx hb dX4_setRules_16 (by decide) ?_
  refine lv_bipush (v := 100) hx hb dX4_setRules_17 (by decide) ?_
  refine zrdS (As := [.int 0, .int 0, .int 100]) (rest := []) (wc := []) ⟨hx, hb, hml, hown, hts⟩ (c_isIn l D _ 0 0 100) (va_cwS 3 hts gX4_setRules_X4_isIn rfl rfl rfl (by decide +kernel) ⟨by rw [hRf]; exact Nat.le_of_ble_eq_true rfl, by rw [hRl]; exact Nat.le_of_ble_eq_true rfl⟩) hK hP hD [] rfl (by decide) [] rfl rfl hl.1 rfl (Nat.le_of_ble_eq_true rfl) dX4_setRules_19 ⟨by omega, by omega⟩ (fun r_390 hr_390 => ?_)
  refine lv_topi (fun v_391 ev_391 => ?_)
  obtain rfl : v_391 = 1 := ev_391.trans (hr_390.trans (by decide))
  refine lv_if_eq (tgt := 36) hx hb dX4_setRules_22 (by decide) (fun c_392 => absurd c_392 (by decide)) (fun c_392 => ?_)
  refine lv_iload_n hx hb dX4_setRules_25 rfl (lv_at hl 3 rfl) ?_
  refine lv_iconst (v := 1) hx hb dX4_setRules_26 (by decide) ?_
  refine lv_sipush (v := 20000) hx hb dX4_setRules_27 (by decide) ?_
  refine zrdS (As := [.int 1, .int 1, .int 20000]) (rest := []) (wc := []) ⟨hx, hb, hml, hown, hts⟩ (c_isIn l D _ 1 1 20000) (va_cwS 3 hts gX4_setRules_X4_isIn rfl rfl rfl (by decide +kernel) ⟨by rw [hRf]; exact Nat.le_of_ble_eq_true rfl, by rw [hRl]; exact Nat.le_of_ble_eq_true rfl⟩) hK hP hD [] rfl (by decide) [] rfl rfl hl.1 rfl (Nat.le_of_ble_eq_true rfl) dX4_setRules_30 ⟨by omega, by omega⟩ (fun r_393 hr_393 => ?_)
  refine lv_topi (fun v_394 ev_394 => ?_)
  obtain rfl : v_394 = 1 := ev_394.trans (hr_393.trans (by decide))
  refine lv_if_ne (tgt := 42) hx hb dX4_setRules_33 (by decide) (fun c_395 => ?_) (fun c_395 => absurd c_395 (by decide))
  refine lv_aload_n hx hb dX4_setRules_42 rfl (lv_at hl 0 rfl) ?_
  refine va_get (D := D) (ci := 4) (v := .int 20) (C := RX4) (T := TX4) (N := 14) hx hb hts (fun _ h9 => List.mem_cons_of_mem _ (List.mem_append_right _ h9)) hown hK hP 0 rfl rfl 3 (by decide) (hts (.fieldLink RX4 13 "PalletStackModel" "highest" "I") (List.mem_of_getElem? (i := 2) (by rfl))) (fun _ h9 => h9) rfl dX4_setRules_43 ?_
  refine lv_istore (lv' := [(5, .int 20), (0, .ref mo), (1, .int 1), (2, .int 0), (3, .int 1), (4, .int 0)]) hx hb dX4_setRules_46 hl (by decide) rfl (fun ls hl => ?_)
  refine lv_aload_n hx hb dX4_setRules_48 rfl (lv_at hl 1 rfl) ?_
  refine lv_iload_n hx hb dX4_setRules_49 rfl (lv_at hl 2 rfl) ?_
  refine va_put (D := D) (ci := 4) (v := .int 1) (ty := .int) (C := RX4) (T := TX4) (N := 14) hx hb hts (fun _ h9 => List.mem_cons_of_mem _ (List.mem_append_right _ h9)) tyX4 tyX4_ok nmX4 hown hK hP hD hS 0 rfl rfl 3 (by decide) (hts (.fieldLink RX4 13 "PalletStackModel" "highest" "I") (List.mem_of_getElem? (i := 2) (by rfl))) (fun _ h9 => h9) rfl (by decide +kernel) rfl rfl (Nat.le_of_ble_eq_true rfl) dX4_setRules_50 (fun H locs hP hD hS => ?_)
  have hP : va_P D vwCl ([(mo, .inr (4, [.int 0, .int 1, .ref kT, .int 1, .int 60, .int 2000, .int 0, .int 0, .ref tb, .ref ld, .int 0, .ref lK, .ref lC, .int 0]))]) H := hP
  have hD : va_D A ([(mo, .inr (4, [.int 0, .int 1, .ref kT, .int 1, .int 60, .int 2000, .int 0, .int 0, .ref tb, .ref ld, .int 0, .ref lK, .ref lC, .int 0]))]) := hD
  refine lv_aload_n hx hb dX4_setRules_53 rfl (lv_at hl 1 rfl) ?_
  refine lv_iload_n hx hb dX4_setRules_54 rfl (lv_at hl 3 rfl) ?_
  refine va_put (D := D) (ci := 4) (v := .int 0) (ty := .int) (C := RX4) (T := TX4) (N := 14) hx hb hts (fun _ h9 => List.mem_cons_of_mem _ (List.mem_append_right _ h9)) tyX4 tyX4_ok nmX4 hown hK hP hD hS 0 rfl rfl 4 (by decide) (hts (.fieldLink RX4 17 "PalletStackModel" "support" "I") (List.mem_of_getElem? (i := 3) (by rfl))) (fun _ h9 => h9) rfl (by decide +kernel) rfl rfl (Nat.le_of_ble_eq_true rfl) dX4_setRules_55 (fun H locs hP hD hS => ?_)
  have hP : va_P D vwCl ([(mo, .inr (4, [.int 0, .int 1, .ref kT, .int 1, .int 0, .int 2000, .int 0, .int 0, .ref tb, .ref ld, .int 0, .ref lK, .ref lC, .int 0]))]) H := hP
  have hD : va_D A ([(mo, .inr (4, [.int 0, .int 1, .ref kT, .int 1, .int 0, .int 2000, .int 0, .int 0, .ref tb, .ref ld, .int 0, .ref lK, .ref lC, .int 0]))]) := hD
  refine lv_aload_n hx hb dX4_setRules_58 rfl (lv_at hl 1 rfl) ?_
  refine lv_iload_n hx hb dX4_setRules_59 rfl (lv_at hl 4 rfl) ?_
  refine va_put (D := D) (ci := 4) (v := .int 1) (ty := .int) (C := RX4) (T := TX4) (N := 14) hx hb hts (fun _ h9 => List.mem_cons_of_mem _ (List.mem_append_right _ h9)) tyX4 tyX4_ok nmX4 hown hK hP hD hS 0 rfl rfl 5 (by decide) (hts (.fieldLink RX4 20 "PalletStackModel" "limit" "I") (List.mem_of_getElem? (i := 4) (by rfl))) (fun _ h9 => h9) rfl (by decide +kernel) rfl rfl (Nat.le_of_ble_eq_true rfl) dX4_setRules_60 (fun H locs hP hD hS => ?_)
  have hP : va_P D vwCl ([(mo, .inr (4, [.int 0, .int 1, .ref kT, .int 1, .int 0, .int 1, .int 0, .int 0, .ref tb, .ref ld, .int 0, .ref lK, .ref lC, .int 0]))]) H := hP
  have hD : va_D A ([(mo, .inr (4, [.int 0, .int 1, .ref kT, .int 1, .int 0, .int 1, .int 0, .int 0, .ref tb, .ref ld, .int 0, .ref lK, .ref lC, .int 0]))]) := hD
  refine lv_aload_n hx hb dX4_setRules_63 rfl (lv_at hl 1 rfl) ?_
  refine lv_iload hx hb dX4_setRules_64 (lv_at hl 5 rfl) ?_
  refine va_put (D := D) (ci := 4) (v := .int 0) (ty := .boolean) (C := RX4) (T := TX4) (N := 14) hx hb hts (fun _ h9 => List.mem_cons_of_mem _ (List.mem_append_right _ h9)) tyX4 tyX4_ok nmX4 hown hK hP hD hS 0 rfl rfl 6 (by decide) (hts (.fieldLink RX4 55 "PalletStackModel" "areCorners" "Z") (List.mem_of_getElem? (i := 5) (by rfl))) (fun _ h9 => h9) rfl (by decide +kernel) rfl rfl (Nat.le_of_ble_eq_true rfl) dX4_setRules_66 (fun H locs hP hD hS => ?_)
  have hP : va_P D vwCl ([(mo, .inr (4, [.int 0, .int 1, .ref kT, .int 1, .int 0, .int 1, .int 0, .int 0, .ref tb, .ref ld, .int 0, .ref lK, .ref lC, .int 0]))]) H := hP
  have hD : va_D A ([(mo, .inr (4, [.int 0, .int 1, .ref kT, .int 1, .int 0, .int 1, .int 0, .int 0, .ref tb, .ref ld, .int 0, .ref lK, .ref lC, .int 0]))]) := hD
  refine lv_iload hx hb dX4_setRules_69 (lv_at hl 0 rfl) ?_
  exact W.iret (v := 20) hx hb hr (fun t ht hW => ⟨⟨20, (), rfl, rfl, ⟨Nat.zero_le _, by rw [ht]; exact hP, va_K.moved hW.alike (hK.sub (tys' := []) [] rfl), hD⟩⟩, hS.F ht⟩) hS.2.2 dX4_setRules_71
set_option maxHeartbeats 4000000 in
set_option maxRecDepth 100000 in
theorem c_isKind (l : Launch) (D : zG) (sz : Nat) (mo kT tb ld lK lC n : Nat) : Met l yX4_isKind wsX4_isKind ({ frames := 1, cells := 0, slots := 0, locals := 25 }) (zPc D [] ([(mo, .inr (4, [.int 0, .int 1, .ref kT, .int 1, .int 0, .int 1, .int 0, .int 0, .ref tb, .ref ld, .int (nI n), .ref lK, .ref lC, .int 0]))]) sz [.ref mo, .int 0]) (vp_Si (fun r => r = 1)) 0 0 (fun _ => False) := by
  refine Met.ofW (cc := cX4_isKind) (maxL := 2) (ret := (some .boolean)) (by decide) rfl ?_
  intro p e s m args below meth c s₁ B hml hv
  obtain ⟨rfl, hsz, hP, hK, hD0⟩ := hv
  have hx := B.exec
  have hb := B.bytes
  have hr := B.returns
  have hts := atoms_spec (ws := wsX4_isKind) B.pre
  have hown : s.vm.findClass RX4 = some m.cls := findClass_of_methodNamed B.named
  have hlocks := B.notSynchronized
  subst hsz
  have hD := hD0
  generalize hAe : (fun _ : Nat => True) = A at hD
  have hl := lv_entry ([.ref mo, .int 0]) (n := 2) (Nat.le_of_ble_eq_true rfl)
  rw [lg_entry_eq]
  generalize (lg_sl ([.ref mo, .int 0]) ++ List.replicate (2 - (lg_sl ([.ref mo, .int 0])).length) Slot.unset).toArray = ls at hl ⊢
  have hl : lv_has ls 2 [(0, .ref mo), (1, .int 0)] := hl
  have hP : va_P D vwCl ([(mo, .inr (4, [.int 0, .int 1, .ref kT, .int 1, .int 0, .int 1, .int 0, .int 0, .ref tb, .ref ld, .int (nI n), .ref lK, .ref lC, .int 0]))]) s.heap := hP
  generalize hRe : (headSpec _ _).room = R
  have hRf : R.frames = 1 := by rw [← hRe]; rfl
  have hRc : R.cells = 0 := by rw [← hRe]; rfl
  have hRs : R.slots = 0 := by rw [← hRe]; rfl
  have hRl : R.locals = 25 := by rw [← hRe]; rfl
  clear hRe
  refine lv_iload_n hx hb dX4_isKind_0 rfl (lv_at hl 1 rfl) ?_
  refine lv_iconst (v := 0) hx hb dX4_isKind_1 (by decide) ?_
  refine lv_aload_n hx hb dX4_isKind_2 rfl (lv_at hl 0 rfl) ?_
  refine va_get (D := D) (ci := 4) (v := .int 1) (C := RX4) (T := TX4) (N := 14) hx hb hts (fun _ h9 => List.mem_cons_of_mem _ (List.mem_append_right _ h9)) hown hK hP 0 rfl rfl 1 (by decide) (hts (.fieldLink RX4 38 "PalletStackModel" "kinds" "I") (List.mem_of_getElem? (i := 1) (by rfl))) (fun _ h9 => h9) rfl dX4_isKind_3 ?_
  refine lv_iconst (v := 1) hx hb dX4_isKind_6 (by decide) ?_
  refine lv_isub hx hb dX4_isKind_7 ?_
  refine lv_topi (fun v_396 ev_396 => ?_)
  obtain rfl : v_396 = 0 := ev_396.trans (by decide)
  refine zrdS (As := [.int 0, .int 0, .int 0]) (rest := []) (wc := []) ⟨hx, hb, hml, hown, hts⟩ (c_isIn l D _ 0 0 0) (va_cwS 3 hts gX4_isKind_X4_isIn rfl rfl rfl (by decide +kernel) ⟨by rw [hRf]; exact Nat.le_of_ble_eq_true rfl, by rw [hRl]; exact Nat.le_of_ble_eq_true rfl⟩) hK hP hD [] rfl (by decide) [] rfl rfl hl.1 rfl (Nat.le_of_ble_eq_true rfl) dX4_isKind_8 ⟨by omega, by omega⟩ (fun r_397 hr_397 => ?_)
  refine lv_topi (fun v_398 ev_398 => ?_)
  obtain rfl : v_398 = 1 := ev_398.trans (hr_397.trans (by decide))
  exact W.zret (ty := .boolean) (v := 1) hx hb hr rfl (fun t ht hW => ⟨1, rfl, rfl, ht⟩) (fun _ h => by cases h) dX4_isKind_11
set_option maxHeartbeats 4000000 in
set_option maxRecDepth 100000 in
theorem c_addLineM (l : Launch) (D : zG) (sz : Nat) (mo kT tb ld lK lC n : Nat) (e3 e4 : ClassId) (hk hc : Nat → Int32) (hhk : ∀ i, i < n → hk i = 0) (hhc : ∀ i, i < n → hc i = 1) (hn : n < 20) : Met l yX4_addLine wsX4_addLine ({ frames := 2, cells := 0, slots := 0, locals := 50 }) (zPc D [(e3, .int), (e4, .int)] ([(mo, .inr (4, [.int 0, .int 1, .ref kT, .int 1, .int 0, .int 1, .int 0, .int 0, .ref tb, .ref ld, .int (nI n), .ref lK, .ref lC, .int 0])), (lK, .inl (e3, 20, .inl (hk))), (lC, .inl (e4, 20, .inl (hc)))]) sz [.ref mo, .int 0, .int 1]) (va_Qi (fun (r : Int32) (u : (Nat → Int32) × (Nat → Int32)) => r = nI n ∧ (∀ i, i < n + 1 → u.1 i = 0) ∧ (∀ i, i < n + 1 → u.2 i = 1)) (zB D (va_A ([(mo, .inr (4, [.int 0, .int 1, .ref kT, .int 1, .int 0, .int 1, .int 0, .int 0, .ref tb, .ref ld, .int (nI n), .ref lK, .ref lC, .int 0])), (lK, .inl (e3, 20, .inl (hk))), (lC, .inl (e4, 20, .inl (hc)))]) sz) (fun _ => [(e3, .int), (e4, .int)]) 0 (fun u => [(mo, .inr (4, [.int 0, .int 1, .ref kT, .int 1, .int 0, .int 1, .int 0, .int 0, .ref tb, .ref ld, .int (nI (n + 1)), .ref lK, .ref lC, .int 0])), (lK, .inl (e3, 20, .inl (u.1))), (lC, .inl (e4, 20, .inl (u.2)))])) (va_A ([(mo, .inr (4, [.int 0, .int 1, .ref kT, .int 1, .int 0, .int 1, .int 0, .int 0, .ref tb, .ref ld, .int (nI n), .ref lK, .ref lC, .int 0])), (lK, .inl (e3, 20, .inl (hk))), (lC, .inl (e4, 20, .inl (hc)))]) sz)) 0 0 (va_A ([(mo, .inr (4, [.int 0, .int 1, .ref kT, .int 1, .int 0, .int 1, .int 0, .int 0, .ref tb, .ref ld, .int (nI n), .ref lK, .ref lC, .int 0])), (lK, .inl (e3, 20, .inl (hk))), (lC, .inl (e4, 20, .inl (hc)))]) sz) := by
  refine Met.ofW (cc := cX4_addLine) (maxL := 3) (ret := (some .int)) (by decide) rfl ?_
  intro p e s m args below meth c s₁ B hml hv
  obtain ⟨rfl, hsz, hP, hK, hD0⟩ := hv
  have hx := B.exec
  have hb := B.bytes
  have hr := B.returns
  have hts := atoms_spec (ws := wsX4_addLine) B.pre
  have hown : s.vm.findClass RX4 = some m.cls := findClass_of_methodNamed B.named
  have hlocks := B.notSynchronized
  subst hsz
  have hD := hD0.self (sz := s.heap.size)
  generalize hAe : va_A ([(mo, .inr (4, [.int 0, .int 1, .ref kT, .int 1, .int 0, .int 1, .int 0, .int 0, .ref tb, .ref ld, .int (nI n), .ref lK, .ref lC, .int 0])), (lK, .inl (e3, 20, .inl (hk))), (lC, .inl (e4, 20, .inl (hc)))]) s.heap.size = A at hD ⊢
  have hA : ∀ q : Nat, s.heap.size ≤ q → A q := fun q h => by rw [← hAe]; exact Or.inr h
  have hS : va_S A s.heap s.heap [] := va_S.rf
  have hl := lv_entry ([.ref mo, .int 0, .int 1]) (n := 3) (Nat.le_of_ble_eq_true rfl)
  rw [lg_entry_eq]
  generalize (lg_sl ([.ref mo, .int 0, .int 1]) ++ List.replicate (3 - (lg_sl ([.ref mo, .int 0, .int 1])).length) Slot.unset).toArray = ls at hl ⊢
  have hl : lv_has ls 3 [(0, .ref mo), (1, .int 0), (2, .int 1)] := hl
  have hP : va_P D vwCl ([(mo, .inr (4, [.int 0, .int 1, .ref kT, .int 1, .int 0, .int 1, .int 0, .int 0, .ref tb, .ref ld, .int (nI n), .ref lK, .ref lC, .int 0])), (lK, .inl (e3, 20, .inl (hk))), (lC, .inl (e4, 20, .inl (hc)))]) s.heap := hP
  generalize hRe : (headSpec _ _).room = R
  have hRf : R.frames = 2 := by rw [← hRe]; rfl
  have hRc : R.cells = 0 := by rw [← hRe]; rfl
  have hRs : R.slots = 0 := by rw [← hRe]; rfl
  have hRl : R.locals = 50 := by rw [← hRe]; rfl
  clear hRe
  refine lv_aload_n hx hb dX4_addLine_0 rfl (lv_at hl 0 rfl) ?_
  refine lv_iconst (v := 0) hx hb dX4_addLine_1 (by decide) ?_
  refine va_put (D := D) (ci := 4) (v := .int 0) (ty := .int) (C := RX4) (T := TX4) (N := 14) hx hb hts (fun _ h9 => List.mem_cons_of_mem _ (List.mem_append_right _ h9)) tyX4 tyX4_ok nmX4 hown hK hP hD hS 0 rfl rfl 0 (by decide) (hts (.fieldLink RX4 35 "PalletStackModel" "thrown" "I") (List.mem_of_getElem? (i := 1) (by rfl))) (fun _ h9 => h9) rfl (by decide +kernel) rfl rfl (Nat.le_of_ble_eq_true rfl) dX4_addLine_2 (fun H locs hP hD hS => ?_)
  have hP : va_P D vwCl ([(mo, .inr (4, [.int 0, .int 1, .ref kT, .int 1, .int 0, .int 1, .int 0, .int 0, .ref tb, .ref ld, .int (nI n), .ref lK, .ref lC, .int 0])), (lK, .inl (e3, 20, .inl (hk))), (lC, .inl (e4, 20, .inl (hc)))]) H := hP
  have hD : va_D A ([(mo, .inr (4, [.int 0, .int 1, .ref kT, .int 1, .int 0, .int 1, .int 0, .int 0, .ref tb, .ref ld, .int (nI n), .ref lK, .ref lC, .int 0])), (lK, .inl (e3, 20, .inl (hk))), (lC, .inl (e4, 20, .inl (hc)))]) := hD
  refine lv_aload_n hx hb dX4_addLine_5 rfl (lv_at hl 0 rfl) ?_
  refine lv_iload_n hx hb dX4_addLine_6 rfl (lv_at hl 1 rfl) ?_
  refine zrdV (As := [.int 0]) (rest := []) (wc := [(mo, .inr (4, [.int 0, .int 1, .ref kT, .int 1, .int 0, .int 1, .int 0, .int 0, .ref tb, .ref ld, .int (nI n), .ref lK, .ref lC, .int 0]))]) ⟨hx, hb, hml, hown, hts⟩ (c_isKind l D _ mo kT tb ld lK lC n) (cwV 1 hts gX4_addLine_X4_isKind rfl rfl rfl (by decide +kernel) ⟨by rw [hRf]; exact Nat.le_of_ble_eq_true rfl, by rw [hRl]; exact Nat.le_of_ble_eq_true rfl⟩) hK hP hD [0] rfl (by decide) [] rfl (ci := 4) (q0 := 0) rfl rfl rfl hl.1 rfl (Nat.le_of_ble_eq_true rfl) dX4_addLine_7 ⟨by omega, by omega⟩ (fun r_399 hr_399 => ?_)
  refine lv_topi (fun v_400 ev_400 => ?_)
  obtain rfl : v_400 = 1 := ev_400.trans hr_399
  refine lv_if_ne (tgt := 19) hx hb dX4_addLine_10 (by decide) (fun c_401 => ?_) (fun c_401 => absurd c_401 (by decide))
  refine lv_iload_n hx hb dX4_addLine_19 rfl (lv_at hl 2 rfl) ?_
  refine lv_iconst (v := 1) hx hb dX4_addLine_20 (by decide) ?_
  refine lv_bipush (v := 20) hx hb dX4_addLine_21 (by decide) ?_
  refine zrdS (As := [.int 1, .int 1, .int 20]) (rest := []) (wc := []) ⟨hx, hb, hml, hown, hts⟩ (c_isIn l D _ 1 1 20) (va_cwS 3 hts gX4_addLine_X4_isIn rfl rfl rfl (by decide +kernel) ⟨by rw [hRf]; exact Nat.le_of_ble_eq_true rfl, by rw [hRl]; exact Nat.le_of_ble_eq_true rfl⟩) hK hP hD [] rfl (by decide) [] rfl rfl hl.1 rfl (Nat.le_of_ble_eq_true rfl) dX4_addLine_23 ⟨by omega, by omega⟩ (fun r_402 hr_402 => ?_)
  refine lv_topi (fun v_403 ev_403 => ?_)
  obtain rfl : v_403 = 1 := ev_403.trans (hr_402.trans (by decide))
  refine lv_if_ne (tgt := 35) hx hb dX4_addLine_26 (by decide) (fun c_404 => ?_) (fun c_404 => absurd c_404 (by decide))
  refine lv_aload_n hx hb dX4_addLine_35 rfl (lv_at hl 0 rfl) ?_
  refine va_get (D := D) (ci := 4) (v := .int (nI n)) (C := RX4) (T := TX4) (N := 14) hx hb hts (fun _ h9 => List.mem_cons_of_mem _ (List.mem_append_right _ h9)) hown hK hP 0 rfl rfl 10 (by decide) (hts (.fieldLink RX4 70 "PalletStackModel" "lines" "I") (List.mem_of_getElem? (i := 2) (by rfl))) (fun _ h9 => h9) rfl dX4_addLine_36 ?_
  refine lv_bipush (v := 20) hx hb dX4_addLine_39 (by decide) ?_
  refine lv_icmp_ne (tgt := 50) hx hb dX4_addLine_41 (by decide) (fun c_405 => ?_) (fun c_405 => absurd c_405 (fun h => absurd (congrArg Int32.toInt h) (by rw [nI_toInt (by omega)]; simp; omega)))
  refine lv_aload_n hx hb dX4_addLine_50 rfl (lv_at hl 0 rfl) ?_
  refine va_get (D := D) (ci := 4) (v := .ref lK) (C := RX4) (T := TX4) (N := 14) hx hb hts (fun _ h9 => List.mem_cons_of_mem _ (List.mem_append_right _ h9)) hown hK hP 0 rfl rfl 11 (by decide) (hts (.fieldLink RX4 29 "PalletStackModel" "lineKinds" "[I") (List.mem_of_getElem? (i := 3) (by rfl))) (fun _ h9 => h9) rfl dX4_addLine_51 ?_
  refine lv_aload_n hx hb dX4_addLine_54 rfl (lv_at hl 0 rfl) ?_
  refine va_get (D := D) (ci := 4) (v := .int (nI n)) (C := RX4) (T := TX4) (N := 14) hx hb hts (fun _ h9 => List.mem_cons_of_mem _ (List.mem_append_right _ h9)) hown hK hP 0 rfl rfl 10 (by decide) (hts (.fieldLink RX4 70 "PalletStackModel" "lines" "I") (List.mem_of_getElem? (i := 2) (by rfl))) (fun _ h9 => h9) rfl dX4_addLine_55 ?_
  refine lv_iload_n hx hb dX4_addLine_58 rfl (lv_at hl 1 rfl) ?_
  refine va_iast hx hb hK hP hD hS 1 0 rfl rfl (vp_in_nI (N := 20) (by omega) (by decide)) dX4_addLine_59 (fun H locs hP hD hS => ?_)
  rw [nI_clamp (by omega)] at hP hD
  have hP : va_P D vwCl ([(mo, .inr (4, [.int 0, .int 1, .ref kT, .int 1, .int 0, .int 1, .int 0, .int 0, .ref tb, .ref ld, .int (nI n), .ref lK, .ref lC, .int 0])), (lK, .inl (e3, 20, .inl (upd hk n 0))), (lC, .inl (e4, 20, .inl (hc)))]) H := hP
  have hD : va_D A ([(mo, .inr (4, [.int 0, .int 1, .ref kT, .int 1, .int 0, .int 1, .int 0, .int 0, .ref tb, .ref ld, .int (nI n), .ref lK, .ref lC, .int 0])), (lK, .inl (e3, 20, .inl (upd hk n 0))), (lC, .inl (e4, 20, .inl (hc)))]) := hD
  refine lv_aload_n hx hb dX4_addLine_60 rfl (lv_at hl 0 rfl) ?_
  refine va_get (D := D) (ci := 4) (v := .ref lC) (C := RX4) (T := TX4) (N := 14) hx hb hts (fun _ h9 => List.mem_cons_of_mem _ (List.mem_append_right _ h9)) hown hK hP 0 rfl rfl 12 (by decide) (hts (.fieldLink RX4 32 "PalletStackModel" "lineCounts" "[I") (List.mem_of_getElem? (i := 4) (by rfl))) (fun _ h9 => h9) rfl dX4_addLine_61 ?_
  refine lv_aload_n hx hb dX4_addLine_64 rfl (lv_at hl 0 rfl) ?_
  refine va_get (D := D) (ci := 4) (v := .int (nI n)) (C := RX4) (T := TX4) (N := 14) hx hb hts (fun _ h9 => List.mem_cons_of_mem _ (List.mem_append_right _ h9)) hown hK hP 0 rfl rfl 10 (by decide) (hts (.fieldLink RX4 70 "PalletStackModel" "lines" "I") (List.mem_of_getElem? (i := 2) (by rfl))) (fun _ h9 => h9) rfl dX4_addLine_65 ?_
  refine lv_iload_n hx hb dX4_addLine_68 rfl (lv_at hl 2 rfl) ?_
  refine va_iast hx hb hK hP hD hS 2 1 rfl rfl (vp_in_nI (N := 20) (by omega) (by decide)) dX4_addLine_69 (fun H locs hP hD hS => ?_)
  rw [nI_clamp (by omega)] at hP hD
  have hP : va_P D vwCl ([(mo, .inr (4, [.int 0, .int 1, .ref kT, .int 1, .int 0, .int 1, .int 0, .int 0, .ref tb, .ref ld, .int (nI n), .ref lK, .ref lC, .int 0])), (lK, .inl (e3, 20, .inl (upd hk n 0))), (lC, .inl (e4, 20, .inl (upd hc n 1)))]) H := hP
  have hD : va_D A ([(mo, .inr (4, [.int 0, .int 1, .ref kT, .int 1, .int 0, .int 1, .int 0, .int 0, .ref tb, .ref ld, .int (nI n), .ref lK, .ref lC, .int 0])), (lK, .inl (e3, 20, .inl (upd hk n 0))), (lC, .inl (e4, 20, .inl (upd hc n 1)))]) := hD
  refine lv_aload_n hx hb dX4_addLine_70 rfl (lv_at hl 0 rfl) ?_
  refine lv_dup hx hb dX4_addLine_71 rfl ?_
  refine va_get (D := D) (ci := 4) (v := .int (nI n)) (C := RX4) (T := TX4) (N := 14) hx hb hts (fun _ h9 => List.mem_cons_of_mem _ (List.mem_append_right _ h9)) hown hK hP 0 rfl rfl 10 (by decide) (hts (.fieldLink RX4 70 "PalletStackModel" "lines" "I") (List.mem_of_getElem? (i := 2) (by rfl))) (fun _ h9 => h9) rfl dX4_addLine_72 ?_
  refine lv_iconst (v := 1) hx hb dX4_addLine_75 (by decide) ?_
  refine lv_iadd hx hb dX4_addLine_76 ?_
  refine lv_topi (fun v_406 ev_406 => ?_)
  obtain rfl : v_406 = (nI (n + 1)) := ev_406.trans (nI_1 n)
  refine va_put (D := D) (ci := 4) (v := .int (nI (n + 1))) (ty := .int) (C := RX4) (T := TX4) (N := 14) hx hb hts (fun _ h9 => List.mem_cons_of_mem _ (List.mem_append_right _ h9)) tyX4 tyX4_ok nmX4 hown hK hP hD hS 0 rfl rfl 10 (by decide) (hts (.fieldLink RX4 70 "PalletStackModel" "lines" "I") (List.mem_of_getElem? (i := 2) (by rfl))) (fun _ h9 => h9) rfl (by decide +kernel) rfl rfl (Nat.le_of_ble_eq_true rfl) dX4_addLine_77 (fun H locs hP hD hS => ?_)
  have hP : va_P D vwCl ([(mo, .inr (4, [.int 0, .int 1, .ref kT, .int 1, .int 0, .int 1, .int 0, .int 0, .ref tb, .ref ld, .int (nI (n + 1)), .ref lK, .ref lC, .int 0])), (lK, .inl (e3, 20, .inl (upd hk n 0))), (lC, .inl (e4, 20, .inl (upd hc n 1)))]) H := hP
  have hD : va_D A ([(mo, .inr (4, [.int 0, .int 1, .ref kT, .int 1, .int 0, .int 1, .int 0, .int 0, .ref tb, .ref ld, .int (nI (n + 1)), .ref lK, .ref lC, .int 0])), (lK, .inl (e3, 20, .inl (upd hk n 0))), (lC, .inl (e4, 20, .inl (upd hc n 1)))]) := hD
  refine lv_aload_n hx hb dX4_addLine_80 rfl (lv_at hl 0 rfl) ?_
  refine va_get (D := D) (ci := 4) (v := .int (nI (n + 1))) (C := RX4) (T := TX4) (N := 14) hx hb hts (fun _ h9 => List.mem_cons_of_mem _ (List.mem_append_right _ h9)) hown hK hP 0 rfl rfl 10 (by decide) (hts (.fieldLink RX4 70 "PalletStackModel" "lines" "I") (List.mem_of_getElem? (i := 2) (by rfl))) (fun _ h9 => h9) rfl dX4_addLine_81 ?_
  refine lv_iconst (v := 1) hx hb dX4_addLine_84 (by decide) ?_
  refine lv_isub hx hb dX4_addLine_85 ?_
  refine lv_topi (fun v_407 ev_407 => ?_)
  obtain rfl : v_407 = (nI n) := ev_407.trans (nI_pred n)
  exact W.iret (v := (nI n)) hx hb hr (fun t ht hW => ⟨⟨(nI n), (upd hk n 0, upd hc n 1), rfl, ⟨rfl, fun i hi => by simp only [upd]; exact if h : i = n then if_pos h else (if_neg h).trans (hhk i (by omega)), fun i hi => by simp only [upd]; exact if h : i = n then if_pos h else (if_neg h).trans (hhc i (by omega))⟩, ⟨Nat.zero_le _, by rw [ht]; exact hP, va_K.moved hW.alike (hK.sub (tys' := [(e3, .int), (e4, .int)]) [0, 1] rfl), hD⟩⟩, hS.F ht⟩) hS.2.2 dX4_addLine_86
