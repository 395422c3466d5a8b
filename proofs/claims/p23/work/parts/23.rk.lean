set_option maxHeartbeats 4000000 in
set_option maxRecDepth 100000 in
theorem c_stack (l : Launch) (D : zG) (sz : Nat) (B : qB) (R : qR0) (N : qN0) (S : Nat → Nat → Nat) (hF : qFull B R N S) (hLs : qLs B N) : Met l yX3_stack wsX3_stack ({ frames := 6, cells := 0, slots := 0, locals := 210 }) (zPc D (qT B) (qG B R N) sz [.ref (qA B 5 0)]) (va_Qi (fun (r : Int32) (u : qB × qR0 × qN0) => (∃ d, r = nI d ∧ d ≤ 80 ∧ qSam B N u.1 u.2.2 ∧ (∃ S', qFull u.1 u.2.1 u.2.2 S') ∧ u.2.2 4 1 5 = N 4 1 5 + d ∧ qWn u.1 u.2.2 + d = qWn B N)) (zB D (va_A (qG B R N) sz) (fun _ => []) 0 (fun u => qG u.1 u.2.1 u.2.2)) (va_A (qG B R N) sz)) 0 0 (va_A (qG B R N) sz) := by
  refine Met.ofW (cc := cX3_stack) (maxL := 4) (ret := (some .int)) (by decide) rfl ?_
  intro p e s m args below meth c s₁ B9 hml hv
  obtain ⟨rfl, hsz, hP, hK, hD0⟩ := hv
  have hx := B9.exec
  have hb := B9.bytes
  have hr := B9.returns
  have hts := atoms_spec (ws := wsX3_stack) B9.pre
  have hown : s.vm.findClass RX3 = some m.cls := findClass_of_methodNamed B9.named
  have hlocks := B9.notSynchronized
  subst hsz
  have hD := hD0.self (sz := s.heap.size)
  generalize hAe : va_A (qG B R N) s.heap.size = A at hD ⊢
  have hA : ∀ q : Nat, s.heap.size ≤ q → A q := fun q h => by rw [← hAe]; exact Or.inr h
  have hS : va_S A s.heap s.heap [] := va_S.rf
  have hl := lv_entry ([.ref (qA B 5 0)]) (n := 4) (Nat.le_of_ble_eq_true rfl)
  rw [lg_entry_eq]
  generalize (lg_sl ([.ref (qA B 5 0)]) ++ List.replicate (4 - (lg_sl ([.ref (qA B 5 0)])).length) Slot.unset).toArray = ls at hl ⊢
  have hl : lv_has ls 4 [(0, .ref (qA B 5 0))] := hl
  have hP : va_P D vwCl (qG B R N) s.heap := hP
  generalize hRe : (headSpec _ _).room = R9
  have hRf : R9.frames = 6 := by rw [← hRe]; rfl
  have hRc : R9.cells = 0 := by rw [← hRe]; rfl
  have hRs : R9.slots = 0 := by rw [← hRe]; rfl
  have hRl : R9.locals = 210 := by rw [← hRe]; rfl
  clear hRe
  have hO := hF.1
  have hM := hF.2.1
  have o5 := hO.2.2.2.2.1
  have o7 := hO.2.2.2.2.2.2.1
  have o8 := hO.2.2.2.2.2.2.2.1
  refine lv_iconst (v := 0) hx hb dX3_stack_0 (by decide) ?_
  refine lv_istore_n (lv' := [(1, .int 0), (0, .ref (qA B 5 0))]) hx hb dX3_stack_1 rfl hl (by decide) rfl (fun ls hl => ?_)
  generalize hQe : MQ _ _ _ _ _ _ _ = Q
  have loop2 : ∀ (k9 st : Nat), st + k9 = 80 → ∀ (d : Nat) (B1 : qB) (R1 : qR0) (N1 : qN0) (S1 : Nat → Nat → Nat) (hd : d ≤ st) (hsam : qSam B N B1 N1) (hF1 : qFull B1 R1 N1 S1) (h5 : N1 4 1 5 = N 4 1 5 + d) (hwn : qWn B1 N1 + d = qWn B N) (H : Heap) (locs : List Loc) (ls : Array Slot), va_P D vwCl (qG B1 R1 N1) H → va_D A (qG B1 R1 N1) → va_S A s.heap H locs → lv_has ls 4 [(2, .int (nI st)), (1, .int (nI d)), (0, .ref (qA B1 5 0))] → W p l e R9 s m ([.ref (qA B 5 0)] : List Value).toArray below meth c H locs 0 0 Q (F0 m 35 ls []) := by
    intro k9
    induction k9 with
    | zero =>
      intro st hst d B1 R1 N1 S1 hd hsam hF1 h5 hwn H locs ls hP hD hS hl
      have hK : va_K D vwCl (qT B1) s := by unfold qT; rw [hsam.2.2.2.1]; exact hK
      obtain rfl : st = 80 := by omega
      have hP : va_P D vwCl (qG B1 R1 N1) H := hP
      have hD : va_D A (qG B1 R1 N1) := hD
      refine lv_iload_n hx hb dX3_stack_35 rfl (lv_at hl 0 rfl) ?_
      refine lv_bipush (v := 80) hx hb dX3_stack_36 (by decide) ?_
      refine lv_icmp_ge (tgt := 90) hx hb dX3_stack_38 (by decide) (fun c_1 => ?_) (fun c_1 => absurd (by decide) c_1)
      refine lv_iload_n hx hb dX3_stack_90 rfl (lv_at hl 1 rfl) ?_
      rw [← hQe]
      exact W.iret (v := (nI d)) hx hb hr (fun t ht hW => ⟨⟨(nI d), (B1, R1, N1), rfl, ⟨d, rfl, by omega, hsam, ⟨S1, hF1⟩, h5, hwn⟩, ⟨Nat.zero_le _, by rw [ht]; exact hP, va_K.moved hW.alike (hK.sub (tys' := []) [] rfl), hD⟩⟩, hS.F ht⟩) hS.2.2 dX3_stack_91
    | succ k9 ih =>
      intro st hst d B1 R1 N1 S1 hd hsam hF1 h5 hwn H locs ls hP hD hS hl
      have hK : va_K D vwCl (qT B1) s := by unfold qT; rw [hsam.2.2.2.1]; exact hK
      have hLs1 : qLs B1 N1 := fun l9 h9 => by rw [hsam.2.2.2.2.2.1, hsam.1]; exact hLs l9 (by rw [← hsam.2.1]; exact h9)
      have hP : va_P D vwCl (qG B1 R1 N1) H := hP
      have hD : va_D A (qG B1 R1 N1) := hD
      refine lv_iload_n hx hb dX3_stack_35 rfl (lv_at hl 0 rfl) ?_
      refine lv_bipush (v := 80) hx hb dX3_stack_36 (by decide) ?_
      refine lv_icmp_ge (tgt := 90) hx hb dX3_stack_38 (by decide) (fun c_2 => absurd c_2 (nI_ge (b := 80) (by omega) (by decide))) (fun c_2 => ?_)
      refine lv_aload_n hx hb dX3_stack_41 rfl (lv_at hl 2 rfl) ?_
      refine zrdVq2 (As := []) (rest := []) (wc := qG B1 R1 N1) ⟨hx, hb, hml, hown, hts⟩ (c_next l D _ B1 R1 N1 hF1.1 hF1.2.1 hLs1 hF1.2.2.2.2.1) (cwV 0 hts gX3_stack_X3_nextLine rfl rfl rfl (by decide +kernel) ⟨by rw [hRf]; exact Nat.le_of_ble_eq_true rfl, by rw [hRl]; exact Nat.le_of_ble_eq_true rfl⟩) hK hP hD [0, 1, 2, 3] rfl (ci := 3) (q0 := 0) rfl rfl rfl hl.1 rfl (Nat.le_of_ble_eq_true rfl) dX3_stack_42 ⟨by omega, by omega⟩ (fun r_3 hr_3 => ?_)
      rcases hr_3 with h0 | ⟨l0, hl0, h0, hc0⟩
      · have h_b := True.intro
        subst h0
        refine W.eq (g2 := F0 m 45 ls [.null]) (by rfl) ?_
        refine lv_astore_nN (lv' := [(3, .null), (2, .int (nI st)), (1, .int (nI d)), (0, .ref (qA B1 5 0))]) hx hb dX3_stack_45 rfl hl (by decide) rfl (fun ls hl => ?_)
        refine lv_aload_nN hx hb dX3_stack_46 rfl (lv_at hl 0 rfl) ?_
        refine lv_ifnonnullN hx hb dX3_stack_47 ?_
        refine lv_iload_n hx hb dX3_stack_50 rfl (lv_at hl 2 rfl) ?_
        rw [← hQe]
        exact W.iret (v := (nI d)) hx hb hr (fun t ht hW => ⟨⟨(nI d), (B1, R1, N1), rfl, ⟨d, rfl, by omega, hsam, ⟨S1, hF1⟩, h5, hwn⟩, ⟨Nat.zero_le _, by rw [ht]; exact hP, va_K.moved hW.alike (hK.sub (tys' := []) [] rfl), hD⟩⟩, hS.F ht⟩) hS.2.2 dX3_stack_51
      · have h_b := True.intro
        subst h0
        refine W.eq (g2 := F0 m 45 ls [.ref (qA B1 4 l0)]) (by rfl) ?_
        refine lv_astore_n (lv' := [(3, .ref (qA B1 4 l0)), (2, .int (nI st)), (1, .int (nI d)), (0, .ref (qA B1 5 0))]) hx hb dX3_stack_45 rfl hl (by decide) rfl (fun ls hl => ?_)
        refine lv_aload_n hx hb dX3_stack_46 rfl (lv_at hl 0 rfl) ?_
        refine lv_ifnonnull (tgt := 52) hx hb dX3_stack_47 (by decide) ?_
        have hk1 := hLs1 l0 hl0
        refine lv_aload_n hx hb dX3_stack_52 rfl (lv_at hl 3 rfl) ?_
        refine lv_aload_n hx hb dX3_stack_53 rfl (lv_at hl 0 rfl) ?_
        refine va_get (D := D) (ci := 2) (v := .ref (qA B1 3 (N1 3 l0 0))) (C := RX2) (T := TX2) (N := 3) hx hb hts (fun _ h9 => List.mem_cons_of_mem _ (List.mem_append_left _ (List.mem_append_left _ (List.mem_append_right _ h9)))) hown hK hP (188 + qk B1 + l0) (qG_n hl0) rfl 0 (by decide) (hts (.fieldLink RX3 163 "PalletStack$Line" "kind" "LPalletStack$Kind;") (List.mem_of_getElem? (i := 3) (by rfl))) (fun _ h9 => h9) rfl dX3_stack_54 ?_
        refine qcalliV (As := [.ref (qA B1 3 (N1 3 l0 0))]) (rest := []) (ws := qG B1 R1 N1) ⟨hx, hb, hml, hown, hts⟩ (c_putBest l D _ B1 R1 N1 S1 hF1 (N1 3 l0 0) hk1) (cwV 1 hts gX3_stack_X3_putAtBest rfl rfl rfl (by decide +kernel) ⟨by rw [hRf]; exact Nat.le_of_ble_eq_true rfl, by rw [hRl]; exact Nat.le_of_ble_eq_true rfl⟩) hK hP hD hS hA [0, 1, 2, 3] rfl (ci := 3) (q0 := 0) rfl rfl rfl hl.1 rfl (Nat.le_of_ble_eq_true rfl) dX3_stack_57 ⟨by omega, by omega⟩ (fun r_6 u_7 H locs hwu_7 hP hD hS => ?_)
        obtain ⟨B2, R2, N2⟩ := u_7
        obtain ⟨y1, y2, ⟨S2, y3⟩, y4⟩ := hwu_7
        dsimp only at y1 y2 y3 y4 hP hD
        have eA5 : qA B1 5 0 = qA B2 5 0 := (y1.2.2.1 5 0 (by decide)).symm
        have eA4 : qA B1 4 l0 = qA B2 4 l0 := (y1.2.2.1 4 l0 (by decide)).symm
        rw [eA5, eA4] at hl
        have hK : va_K D vwCl (qT B2) s := by unfold qT; rw [y1.2.2.2.1]; exact hK
        have hl2 : l0 < ql B2 := by rw [y1.2.1]; exact hl0
        have hP : va_P D vwCl (qG B2 R2 N2) H := hP
        have hD : va_D A (qG B2 R2 N2) := hD
        have hl : lv_has ls 4 [(3, .ref (qA B2 4 l0)), (2, .int (nI st)), (1, .int (nI d)), (0, .ref (qA B2 5 0))] := hl
        have hM2 := y3.2.1
        have bc := hM2 3 l0 1
        have ew : qWn B2 N2 = qWn B1 N1 := by unfold qWn; rw [y2, y1.2.1]
        rcases y4 with ⟨h0, e5⟩ | ⟨h1, e5⟩
        · have h_b := True.intro
          subst h0
          refine lv_if_eq (tgt := 79) hx hb dX3_stack_60 (by decide) (fun c_8 => ?_) (fun c_8 => absurd (rfl) c_8)
          refine lv_aload_n hx hb dX3_stack_79 rfl (lv_at hl 0 rfl) ?_
          refine lv_iconst (v := 1) hx hb dX3_stack_80 (by decide) ?_
          refine va_put (D := D) (ci := 2) (v := .int (nI 1)) (ty := .boolean) (C := RX2) (T := TX2) (N := 3) hx hb hts (fun _ h9 => List.mem_cons_of_mem _ (List.mem_append_left _ (List.mem_append_left _ (List.mem_append_right _ h9)))) tyX2 tyX2_ok nmX2 hown hK hP hD hS (188 + qk B2 + l0) (qG_n hl2) rfl 2 (by decide) (hts (.fieldLink RX3 156 "PalletStack$Line" "isAside" "Z") (List.mem_of_getElem? (i := 2) (by rfl))) (fun _ h9 => h9) rfl (by decide +kernel) rfl rfl (Nat.le_of_ble_eq_true rfl) dX3_stack_81 (fun H locs hP hD hS => ?_)
          rw [qG_pn hl2 (by decide) (by decide)] at hP hD
          obtain ⟨N_9, hN_9⟩ : ∃ z : qN0, z = qp N2 3 l0 2 1 := ⟨_, rfl⟩
          rw [← hN_9] at hP hD
          have hP : va_P D vwCl (qG B2 R2 N_9) H := hP
          have hD : va_D A (qG B2 R2 N_9) := hD
          have hM3 : qM N_9 := by rw [hN_9]; exact qM_p hM2 (by decide)
          have c0 : N_9 0 = N2 0 := by funext i9 j9; rw [hN_9]; exact qp_c _ _ _ _ _ _ (by decide)
          have c1 : N_9 1 = N2 1 := by funext i9 j9; rw [hN_9]; exact qp_c _ _ _ _ _ _ (by decide)
          have c2 : N_9 2 = N2 2 := by funext i9 j9; rw [hN_9]; exact qp_c _ _ _ _ _ _ (by decide)
          have c4 : N_9 4 = N2 4 := by funext i9 j9; rw [hN_9]; exact qp_c _ _ _ _ _ _ (by decide)
          have c3 : ∀ l9, N_9 3 l9 0 = N2 3 l9 0 := fun l9 => by rw [hN_9]; exact qp_j _ _ _ _ _ _ (by decide)
          have cw : qWn B2 N_9 = qWn B2 N2 := by unfold qWn; exact qsum_congr (fun i9 _ => by rw [hN_9]; exact qp_j _ _ _ _ _ _ (by decide))
          refine lv_iinc (v := (nI (st + 1))) (lv' := [(2, .int (nI (st + 1))), (3, .ref (qA B2 4 l0)), (1, .int (nI d)), (0, .ref (qA B2 5 0))]) hx hb dX3_stack_84 hl (k := 1) rfl (nI_1 st) (by decide) rfl (fun ls hl => ?_)
          refine lv_goto (tgt := 35) hx hb dX3_stack_87 (by decide) ?_
          have hl := lv_sub hl (l' := [(2, .int (nI (st + 1))), (1, .int (nI d)), (0, .ref (qA B2 5 0))]) [0, 2, 3] rfl
          exact ih (st + 1) (by omega) d B2 R2 N_9 S2 (by omega) (hsam.tr (y1.tr (qSam_3 c2 c3 c4))) (qFull_3 c0 c1 c2 c4 hM3 y3) (by rw [c4]; omega) (by omega) H locs ls hP hD hS hl
        · have h_b := True.intro
          subst h1
          refine lv_if_eq (tgt := 79) hx hb dX3_stack_60 (by decide) (fun c_10 => absurd c_10 (by decide)) (fun c_10 => ?_)
          have hc2 : 0 < N2 3 l0 1 := by rw [y2]; exact hc0
          refine lv_aload_n hx hb dX3_stack_63 rfl (lv_at hl 0 rfl) ?_
          refine lv_dup hx hb dX3_stack_64 rfl ?_
          refine va_get (D := D) (ci := 2) (v := .int (nI (N2 3 l0 1))) (C := RX2) (T := TX2) (N := 3) hx hb hts (fun _ h9 => List.mem_cons_of_mem _ (List.mem_append_left _ (List.mem_append_left _ (List.mem_append_right _ h9)))) hown hK hP (188 + qk B2 + l0) (qG_n hl2) rfl 1 (by decide) (hts (.fieldLink RX3 167 "PalletStack$Line" "count" "I") (List.mem_of_getElem? (i := 4) (by rfl))) (fun _ h9 => h9) rfl dX3_stack_65 ?_
          refine lv_iconst (v := 1) hx hb dX3_stack_68 (by decide) ?_
          refine lv_isub hx hb dX3_stack_69 ?_
          refine lv_topi (fun v_11 ev_11 => ?_)
          obtain rfl : v_11 = (nI (N2 3 l0 1 - 1)) := ev_11.trans (pk_sub (b := 1) hc2)
          refine va_put (D := D) (ci := 2) (v := .int (nI (N2 3 l0 1 - 1))) (ty := .int) (C := RX2) (T := TX2) (N := 3) hx hb hts (fun _ h9 => List.mem_cons_of_mem _ (List.mem_append_left _ (List.mem_append_left _ (List.mem_append_right _ h9)))) tyX2 tyX2_ok nmX2 hown hK hP hD hS (188 + qk B2 + l0) (qG_n hl2) rfl 1 (by decide) (hts (.fieldLink RX3 167 "PalletStack$Line" "count" "I") (List.mem_of_getElem? (i := 4) (by rfl))) (fun _ h9 => h9) rfl (by decide +kernel) rfl rfl (Nat.le_of_ble_eq_true rfl) dX3_stack_70 (fun H locs hP hD hS => ?_)
          rw [qG_pn hl2 (by decide) (by decide)] at hP hD
          obtain ⟨N_12, hN_12⟩ : ∃ z : qN0, z = qp N2 3 l0 1 (N2 3 l0 1 - 1) := ⟨_, rfl⟩
          rw [← hN_12] at hP hD
          have hP : va_P D vwCl (qG B2 R2 N_12) H := hP
          have hD : va_D A (qG B2 R2 N_12) := hD
          have hM3 : qM N_12 := by rw [hN_12]; exact qM_p hM2 (by omega)
          have c0 : N_12 0 = N2 0 := by funext i9 j9; rw [hN_12]; exact qp_c _ _ _ _ _ _ (by decide)
          have c1 : N_12 1 = N2 1 := by funext i9 j9; rw [hN_12]; exact qp_c _ _ _ _ _ _ (by decide)
          have c2 : N_12 2 = N2 2 := by funext i9 j9; rw [hN_12]; exact qp_c _ _ _ _ _ _ (by decide)
          have c4 : N_12 4 = N2 4 := by funext i9 j9; rw [hN_12]; exact qp_c _ _ _ _ _ _ (by decide)
          have c3 : ∀ l9, N_12 3 l9 0 = N2 3 l9 0 := fun l9 => by rw [hN_12]; exact qp_j _ _ _ _ _ _ (by decide)
          have cw := qWn_p (N := N2) (x := N2 3 l0 1 - 1) hl2
          rw [← hN_12] at cw
          refine lv_iinc (v := (nI (d + 1))) (lv' := [(1, .int (nI (d + 1))), (3, .ref (qA B2 4 l0)), (2, .int (nI st)), (0, .ref (qA B2 5 0))]) hx hb dX3_stack_73 hl (k := 2) rfl (nI_1 d) (by decide) rfl (fun ls hl => ?_)
          refine lv_goto (tgt := 84) hx hb dX3_stack_76 (by decide) ?_
          refine lv_iinc (v := (nI (st + 1))) (lv' := [(2, .int (nI (st + 1))), (1, .int (nI (d + 1))), (3, .ref (qA B2 4 l0)), (0, .ref (qA B2 5 0))]) hx hb dX3_stack_84 hl (k := 2) rfl (nI_1 st) (by decide) rfl (fun ls hl => ?_)
          refine lv_goto (tgt := 35) hx hb dX3_stack_87 (by decide) ?_
          have hl := lv_sub hl (l' := [(2, .int (nI (st + 1))), (1, .int (nI (d + 1))), (0, .ref (qA B2 5 0))]) [0, 1, 3] rfl
          exact ih (st + 1) (by omega) (d + 1) B2 R2 N_12 S2 (by omega) (hsam.tr (y1.tr (qSam_3 c2 c3 c4))) (qFull_3 c0 c1 c2 c4 hM3 y3) (by rw [c4]; omega) (by omega) H locs ls hP hD hS hl
  have loop1 : ∀ (k9 i : Nat), i + k9 = ql B → ∀ (N1 : qN0) (n0 : N1 0 = N 0) (n1 : N1 1 = N 1) (n2 : N1 2 = N 2) (n4 : N1 4 = N 4) (n3 : ∀ l9 j9, j9 ≠ 2 → N1 3 l9 j9 = N 3 l9 j9) (hM1 : qM N1) (H : Heap) (locs : List Loc) (ls : Array Slot), va_P D vwCl (qG B R N1) H → va_D A (qG B R N1) → va_S A s.heap H locs → lv_has ls 4 [(1, .int (nI i)), (0, .ref (qA B 5 0))] → W p l e R9 s m ([.ref (qA B 5 0)] : List Value).toArray below meth c H locs 0 0 Q (F0 m 2 ls []) := by
    intro k9
    induction k9 with
    | zero =>
      intro i hi N1 n0 n1 n2 n4 n3 hM1 H locs ls hP hD hS hl
      have f8 : N1 4 1 8 = ql B := by rw [n4]; exact o5
      obtain rfl : ql B = i := by omega
      have hP : va_P D vwCl (qG B R N1) H := hP
      have hD : va_D A (qG B R N1) := hD
      refine lv_iload_n hx hb dX3_stack_2 rfl (lv_at hl 0 rfl) ?_
      refine lv_aload_n hx hb dX3_stack_3 rfl (lv_at hl 1 rfl) ?_
      refine va_get (D := D) (ci := 3) (v := .int (nI (N1 4 1 8))) (C := RX3) (T := TX3) (N := 14) hx hb hts (fun _ h9 => List.mem_cons_of_mem _ (List.mem_append_left _ (List.mem_append_left _ (List.mem_append_left _ (List.mem_append_right _ h9))))) hown hK hP 0 rfl rfl 13 (by decide) (hts (.fieldLink RX3 62 "PalletStack" "lineCount" "I") (List.mem_of_getElem? (i := 1) (by rfl))) (fun _ h9 => h9) rfl dX3_stack_4 ?_
      refine lv_topi (fun v_13 ev_13 => ?_)
      obtain rfl : v_13 = (nI (ql B)) := ev_13.trans (by rw [f8])
      refine lv_icmp_ge (tgt := 31) hx hb dX3_stack_7 (by decide) (fun c_14 => ?_) (fun c_14 => absurd (Int32.le_refl _) c_14)
      refine lv_iconst (v := 0) hx hb dX3_stack_31 (by decide) ?_
      refine lv_istore_n (lv' := [(1, .int 0), (0, .ref (qA B 5 0))]) hx hb dX3_stack_32 rfl hl (by decide) rfl (fun ls hl => ?_)
      refine lv_iconst (v := 0) hx hb dX3_stack_33 (by decide) ?_
      refine lv_istore_n (lv' := [(2, .int 0), (1, .int 0), (0, .ref (qA B 5 0))]) hx hb dX3_stack_34 rfl hl (by decide) rfl (fun ls hl => ?_)
      have hl := lv_sub hl (l' := [(2, .int 0), (1, .int 0), (0, .ref (qA B 5 0))]) [0, 1, 2] rfl
      exact loop2 80 0 (by omega) 0 B R N1 S (by omega) (qSam_3 n2 (fun l9 => n3 l9 0 (by decide)) n4) (qFull_3 n0 n1 n2 n4 hM1 hF) (by rw [n4]; rfl) (qsum_congr (fun i9 _ => n3 i9 1 (by decide))) H locs ls hP hD hS hl
    | succ k9 ih =>
      intro i hi N1 n0 n1 n2 n4 n3 hM1 H locs ls hP hD hS hl
      have f8 : N1 4 1 8 = ql B := by rw [n4]; exact o5
      have hil : i < ql B := by omega
      have hO1 : qOK B N1 := qOKs hO (fun j _ _ => by rw [n4]) (fun i9 _ => by rw [n0])
      have hP : va_P D vwCl (qG B R N1) H := hP
      have hD : va_D A (qG B R N1) := hD
      refine lv_iload_n hx hb dX3_stack_2 rfl (lv_at hl 0 rfl) ?_
      refine lv_aload_n hx hb dX3_stack_3 rfl (lv_at hl 1 rfl) ?_
      refine va_get (D := D) (ci := 3) (v := .int (nI (N1 4 1 8))) (C := RX3) (T := TX3) (N := 14) hx hb hts (fun _ h9 => List.mem_cons_of_mem _ (List.mem_append_left _ (List.mem_append_left _ (List.mem_append_left _ (List.mem_append_right _ h9))))) hown hK hP 0 rfl rfl 13 (by decide) (hts (.fieldLink RX3 62 "PalletStack" "lineCount" "I") (List.mem_of_getElem? (i := 1) (by rfl))) (fun _ h9 => h9) rfl dX3_stack_4 ?_
      refine lv_topi (fun v_15 ev_15 => ?_)
      obtain rfl : v_15 = (nI (ql B)) := ev_15.trans (by rw [f8])
      refine lv_icmp_ge (tgt := 31) hx hb dX3_stack_7 (by decide) (fun c_16 => absurd c_16 (nI_ge (by omega) (by omega))) (fun c_16 => ?_)
      refine lv_aload_n hx hb dX3_stack_10 rfl (lv_at hl 1 rfl) ?_
      refine lv_iload_n hx hb dX3_stack_11 rfl (lv_at hl 0 rfl) ?_
      refine zrdVq2 (As := [.int (nI i)]) (rest := []) (wc := qG B R N1) ⟨hx, hb, hml, hown, hts⟩ (c_lineOf l D _ B R N1 i hil hO1) (cwV 1 hts gX3_stack_X3_lineOf rfl rfl rfl (by decide +kernel) ⟨by rw [hRf]; exact Nat.le_of_ble_eq_true rfl, by rw [hRl]; exact Nat.le_of_ble_eq_true rfl⟩) hK hP hD [0, 1, 2, 3] rfl (ci := 3) (q0 := 0) rfl rfl rfl hl.1 rfl (Nat.le_of_ble_eq_true rfl) dX3_stack_12 ⟨by omega, by omega⟩ (fun r_17 hr_17 => ?_)
      refine W.eq (g2 := F0 m 15 ls [.ref (qA B 4 i)]) (by rw [hr_17]; rfl) ?_
      refine lv_astore_n (lv' := [(2, .ref (qA B 4 i)), (1, .int (nI i)), (0, .ref (qA B 5 0))]) hx hb dX3_stack_15 rfl hl (by decide) rfl (fun ls hl => ?_)
      refine lv_aload_n hx hb dX3_stack_16 rfl (lv_at hl 0 rfl) ?_
      refine lv_ifnull hx hb dX3_stack_17 ?_
      refine lv_aload_n hx hb dX3_stack_20 rfl (lv_at hl 0 rfl) ?_
      refine lv_iconst (v := 0) hx hb dX3_stack_21 (by decide) ?_
      refine va_put (D := D) (ci := 2) (v := .int (nI 0)) (ty := .boolean) (C := RX2) (T := TX2) (N := 3) hx hb hts (fun _ h9 => List.mem_cons_of_mem _ (List.mem_append_left _ (List.mem_append_left _ (List.mem_append_right _ h9)))) tyX2 tyX2_ok nmX2 hown hK hP hD hS (188 + qk B + i) (qG_n hil) rfl 2 (by decide) (hts (.fieldLink RX3 156 "PalletStack$Line" "isAside" "Z") (List.mem_of_getElem? (i := 2) (by rfl))) (fun _ h9 => h9) rfl (by decide +kernel) rfl rfl (Nat.le_of_ble_eq_true rfl) dX3_stack_22 (fun H locs hP hD hS => ?_)
      rw [qG_pn hil (by decide) (by decide)] at hP hD
      obtain ⟨N_19, hN_19⟩ : ∃ z : qN0, z = qp N1 3 i 2 0 := ⟨_, rfl⟩
      rw [← hN_19] at hP hD
      have hP : va_P D vwCl (qG B R N_19) H := hP
      have hD : va_D A (qG B R N_19) := hD
      have c0 : N_19 0 = N 0 := by rw [← n0]; funext i9 j9; rw [hN_19]; exact qp_c _ _ _ _ _ _ (by decide)
      have c1 : N_19 1 = N 1 := by rw [← n1]; funext i9 j9; rw [hN_19]; exact qp_c _ _ _ _ _ _ (by decide)
      have c2 : N_19 2 = N 2 := by rw [← n2]; funext i9 j9; rw [hN_19]; exact qp_c _ _ _ _ _ _ (by decide)
      have c4 : N_19 4 = N 4 := by rw [← n4]; funext i9 j9; rw [hN_19]; exact qp_c _ _ _ _ _ _ (by decide)
      have c3 : ∀ l9 j9, j9 ≠ 2 → N_19 3 l9 j9 = N 3 l9 j9 := fun l9 j9 h9 => by rw [← n3 l9 j9 h9, hN_19]; exact qp_j _ _ _ _ _ _ h9
      have hM3 : qM N_19 := by rw [hN_19]; exact qM_p hM1 (by decide)
      refine lv_iinc (v := (nI (i + 1))) (lv' := [(1, .int (nI (i + 1))), (2, .ref (qA B 4 i)), (0, .ref (qA B 5 0))]) hx hb dX3_stack_25 hl (k := 1) rfl (nI_1 i) (by decide) rfl (fun ls hl => ?_)
      refine lv_goto (tgt := 2) hx hb dX3_stack_28 (by decide) ?_
      have hl := lv_sub hl (l' := [(1, .int (nI (i + 1))), (0, .ref (qA B 5 0))]) [0, 2] rfl
      exact ih (i + 1) (by omega) N_19 c0 c1 c2 c4 c3 hM3 H locs ls hP hD hS hl
  exact loop1 (ql B) 0 (by omega) N rfl rfl rfl rfl (fun _ _ _ => rfl) hM s.heap [] ls hP hD hS hl
