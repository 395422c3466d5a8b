set_option maxHeartbeats 4000000 in
set_option maxRecDepth 100000 in
theorem c_broken (l : Launch) (D : zG) (sz : Nat) (B : qB) (R : qR0) (N : qN0) (hO : qOK B N) (hM : qM N) (S : Nat → Nat → Nat) (k : Nat) (hk : k < qk B) (h7 : N 2 k 7 < 2) (hS9 : qS9 B R N S (N 4 1 5)) (hw : 0 < N 0 60 4 ∧ N 0 60 4 ≤ 6 ∧ 0 < N 0 60 5 ∧ N 0 60 5 ≤ 6) (hxy : N 0 60 6 + N 0 60 4 ≤ 12 ∧ N 0 60 7 + N 0 60 5 ≤ 10) (hg : 0 < N 0 60 10 ∧ N 0 60 10 ≤ 36) (hwt : N 0 60 1 ≤ 1000) (hsup : N 4 1 2 ≤ 100) (hlen : (qsp N 60 (N 4 1 5)).length ≤ 36) (hcm : ∀ k, k < N 4 1 5 → qcm N 60 k ≤ 36) (hLb : ∀ k i, k ≤ N 4 1 5 + 1 → i < N 4 1 5 + 1 → qLN (qSx (qSt S N) (N 4 1 5)) (qx (qtr N) (N 4 1 5)) (N 4 1 5 + 1) k i ≤ 1000000) : Met l yX3_brokenRule wsX3_brokenRule ({ frames := 3, cells := 0, slots := 0, locals := 90 }) (zPc D (qT B) (qG B R N) sz [.ref (qA B 5 0), .ref (qA B 3 k)]) (va_Qi (fun (r : Int32) (u : qR0 × qN0) => (∀ i, i ≠ 60 → u.1 i = R i) ∧ qFr N u.2 ∧ qM u.2 ∧ (r = 0 → qAl N S k)) (zB D (va_A (qG B R N) sz) (fun _ => []) 0 (fun u => qG B u.1 u.2)) (va_A (qG B R N) sz)) 0 0 (va_A (qG B R N) sz) := by
  refine Met.ofW (cc := cX3_brokenRule) (maxL := 2) (ret := (some .int)) (by decide) rfl ?_
  intro p e s m args below meth c s₁ B9 hml hv
  obtain ⟨rfl, hsz, hP, hK, hD0⟩ := hv
  have hx := B9.exec
  have hb := B9.bytes
  have hr := B9.returns
  have hts := atoms_spec (ws := wsX3_brokenRule) B9.pre
  have hown : s.vm.findClass RX3 = some m.cls := findClass_of_methodNamed B9.named
  have hlocks := B9.notSynchronized
  subst hsz
  have hD := hD0.self (sz := s.heap.size)
  generalize hAe : va_A (qG B R N) s.heap.size = A at hD ⊢
  have hA : ∀ q : Nat, s.heap.size ≤ q → A q := fun q h => by rw [← hAe]; exact Or.inr h
  have hS : va_S A s.heap s.heap [] := va_S.rf
  have hl := lv_entry ([.ref (qA B 5 0), .ref (qA B 3 k)]) (n := 2) (Nat.le_of_ble_eq_true rfl)
  rw [lg_entry_eq]
  generalize (lg_sl ([.ref (qA B 5 0), .ref (qA B 3 k)]) ++ List.replicate (2 - (lg_sl ([.ref (qA B 5 0), .ref (qA B 3 k)])).length) Slot.unset).toArray = ls at hl ⊢
  have hl : lv_has ls 2 [(0, .ref (qA B 5 0)), (1, .ref (qA B 3 k))] := hl
  have hP : va_P D vwCl (qG B R N) s.heap := hP
  generalize hRe : (headSpec _ _).room = R9
  have hRf : R9.frames = 3 := by rw [← hRe]; rfl
  have hRc : R9.cells = 0 := by rw [← hRe]; rfl
  have hRs : R9.slots = 0 := by rw [← hRe]; rfl
  have hRl : R9.locals = 90 := by rw [← hRe]; rfl
  clear hRe
  have o8 := hO.2.2.2.2.2.2.2.1
  obtain ⟨n, hn⟩ : ∃ n, n = N 4 1 5 := ⟨_, rfl⟩
  have hFr0 := qFr_rf N
  have b8 := hM 0 60 8
  have b9 := hM 0 60 9
  have b41 := hM 4 1 1
  have b43 := hM 4 1 3
  have b47 := hM 4 1 7
  have q1 : N 0 60 4 * N 0 60 5 ≤ 36 := Nat.mul_le_mul hw.2.1 hw.2.2.2
  have q2 : N 0 60 4 * N 0 60 5 * N 4 1 2 ≤ 36 * 100 := Nat.mul_le_mul q1 hsup
  refine lv_aload_n hx hb dX3_brokenRule_0 rfl (lv_at hl 0 rfl) ?_
  refine va_get (D := D) (ci := 3) (v := .ref (qA B 0 60)) (C := RX3) (T := TX3) (N := 14) hx hb hts (fun _ h9 => List.mem_cons_of_mem _ (List.mem_append_left _ (List.mem_append_left _ (List.mem_append_right _ h9)))) hown hK hP 0 rfl rfl 11 (by decide) (hts (.fieldLink RX3 52 "PalletStack" "trial" "LPalletStack$Item;") (List.mem_of_getElem? (i := 1) (by rfl))) (fun _ h9 => h9) rfl dX3_brokenRule_1 ?_
  refine va_get (D := D) (ci := 0) (v := .int (nI (N 0 60 9))) (C := RX0) (T := TX0) (N := 18) hx hb hts (fun _ h9 => List.mem_cons_of_mem _ (List.mem_append_left _ (List.mem_append_right _ h9))) hown hK hP (5 + 60) (qG_i (by omega)) rfl 9 (by decide) (hts (.fieldLink RX3 134 "PalletStack$Item" "top" "I") (List.mem_of_getElem? (i := 2) (by rfl))) (fun _ h9 => h9) rfl dX3_brokenRule_4 ?_
  refine lv_aload_n hx hb dX3_brokenRule_7 rfl (lv_at hl 0 rfl) ?_
  refine va_get (D := D) (ci := 3) (v := .int (nI (N 4 1 1))) (C := RX3) (T := TX3) (N := 14) hx hb hts (fun _ h9 => List.mem_cons_of_mem _ (List.mem_append_left _ (List.mem_append_left _ (List.mem_append_right _ h9)))) hown hK hP 0 rfl rfl 2 (by decide) (hts (.fieldLink RX3 19 "PalletStack" "greatestHeight" "I") (List.mem_of_getElem? (i := 3) (by rfl))) (fun _ h9 => h9) rfl dX3_brokenRule_8 ?_
  refine lv_icmp_le (tgt := 16) hx hb dX3_brokenRule_11 (by decide) (fun c_1 => ?_) (fun c_1 => ?_)
  · have h_b := True.intro
    have k_2 : (N 0 60 9) ≤ (N 4 1 1) := (nI_leI (a := (N 0 60 9)) (b := (N 4 1 1)) (by omega) (by omega)).mp c_1
    refine lv_aload_n hx hb dX3_brokenRule_16 rfl (lv_at hl 1 rfl) ?_
    refine va_get (D := D) (ci := 1) (v := .int (nI (N 2 k 7))) (C := RX1) (T := TX1) (N := 8) hx hb hts (fun _ h9 => List.mem_cons_of_mem _ (List.mem_append_right _ h9)) hown hK hP (188 + k) (qG_d hk) rfl 7 (by decide) (hts (.fieldLink RX3 267 "PalletStack$Kind" "needsDeck" "Z") (List.mem_of_getElem? (i := 4) (by rfl))) (fun _ h9 => h9) rfl dX3_brokenRule_17 ?_
    refine lv_if_eq (tgt := 35) hx hb dX3_brokenRule_20 (by decide) (fun c_3 => ?_) (fun c_3 => ?_)
    · have h_b := True.intro
      have z7 : N 2 k 7 = 0 := (qeq (by omega) (by decide)).mp c_3
      refine lv_aload_n hx hb dX3_brokenRule_35 rfl (lv_at hl 0 rfl) ?_
      refine va_get (D := D) (ci := 3) (v := .ref (qA B 0 60)) (C := RX3) (T := TX3) (N := 14) hx hb hts (fun _ h9 => List.mem_cons_of_mem _ (List.mem_append_left _ (List.mem_append_left _ (List.mem_append_right _ h9)))) hown hK hP 0 rfl rfl 11 (by decide) (hts (.fieldLink RX3 52 "PalletStack" "trial" "LPalletStack$Item;") (List.mem_of_getElem? (i := 1) (by rfl))) (fun _ h9 => h9) rfl dX3_brokenRule_36 ?_
      refine va_get (D := D) (ci := 0) (v := .int (nI (N 0 60 10))) (C := RX0) (T := TX0) (N := 18) hx hb hts (fun _ h9 => List.mem_cons_of_mem _ (List.mem_append_left _ (List.mem_append_right _ h9))) hown hK hP (5 + 60) (qG_i (by omega)) rfl 10 (by decide) (hts (.fieldLink RX3 214 "PalletStack$Item" "ground" "I") (List.mem_of_getElem? (i := 6) (by rfl))) (fun _ h9 => h9) rfl dX3_brokenRule_39 ?_
      refine lv_bipush (v := 100) hx hb dX3_brokenRule_42 (by decide) ?_
      refine lv_imul hx hb dX3_brokenRule_44 ?_
      refine lv_topi (fun v_4 ev_4 => ?_)
      obtain rfl : v_4 = (nI (N 0 60 10 * 100)) := ev_4.trans (pk_mul _ 100)
      refine lv_aload_n hx hb dX3_brokenRule_45 rfl (lv_at hl 0 rfl) ?_
      refine va_get (D := D) (ci := 3) (v := .ref (qA B 0 60)) (C := RX3) (T := TX3) (N := 14) hx hb hts (fun _ h9 => List.mem_cons_of_mem _ (List.mem_append_left _ (List.mem_append_left _ (List.mem_append_right _ h9)))) hown hK hP 0 rfl rfl 11 (by decide) (hts (.fieldLink RX3 52 "PalletStack" "trial" "LPalletStack$Item;") (List.mem_of_getElem? (i := 1) (by rfl))) (fun _ h9 => h9) rfl dX3_brokenRule_46 ?_
      refine zrdV2 (As := []) (rest := [.int (nI (N 0 60 10 * 100))]) (wc := qG B R N) ⟨hx, hb, hml, hown, hts⟩ (c_cells l D _ B R N 60 (by omega)) (cwV 0 hts gX3_brokenRule_X0_cells rfl rfl rfl (by decide +kernel) ⟨by rw [hRf]; exact Nat.le_of_ble_eq_true rfl, by rw [hRl]; exact Nat.le_of_ble_eq_true rfl⟩) hK hP hD [0, 1, 2, 3] rfl (ci := 0) (q0 := (5 + 60)) rfl (qG_i (by omega)) rfl hl.1 rfl (Nat.le_of_ble_eq_true rfl) dX3_brokenRule_49 ⟨by omega, by omega⟩ (fun r_5 hr_5 => ?_)
      refine lv_topi (fun v_6 ev_6 => ?_)
      obtain rfl : v_6 = (nI (N 0 60 4 * N 0 60 5)) := ev_6.trans hr_5
      refine lv_aload_n hx hb dX3_brokenRule_52 rfl (lv_at hl 0 rfl) ?_
      refine va_get (D := D) (ci := 3) (v := .int (nI (N 4 1 2))) (C := RX3) (T := TX3) (N := 14) hx hb hts (fun _ h9 => List.mem_cons_of_mem _ (List.mem_append_left _ (List.mem_append_left _ (List.mem_append_right _ h9)))) hown hK hP 0 rfl rfl 3 (by decide) (hts (.fieldLink RX3 22 "PalletStack" "support" "I") (List.mem_of_getElem? (i := 7) (by rfl))) (fun _ h9 => h9) rfl dX3_brokenRule_53 ?_
      refine lv_imul hx hb dX3_brokenRule_56 ?_
      refine lv_topi (fun v_7 ev_7 => ?_)
      obtain rfl : v_7 = (nI (N 0 60 4 * N 0 60 5 * N 4 1 2)) := ev_7.trans (pk_mul _ _)
      refine lv_icmp_ge (tgt := 62) hx hb dX3_brokenRule_57 (by decide) (fun c_8 => ?_) (fun c_8 => ?_)
      · have h_b := True.intro
        have k_9 : (N 0 60 4 * N 0 60 5 * N 4 1 2) ≤ (N 0 60 10 * 100) := (nI_leI (a := (N 0 60 4 * N 0 60 5 * N 4 1 2)) (b := (N 0 60 10 * 100)) (by omega) (by omega)).mp c_8
        refine lv_aload_n hx hb dX3_brokenRule_62 rfl (lv_at hl 0 rfl) ?_
        refine va_get (D := D) (ci := 3) (v := .int (nI (N 4 1 4))) (C := RX3) (T := TX3) (N := 14) hx hb hts (fun _ h9 => List.mem_cons_of_mem _ (List.mem_append_left _ (List.mem_append_left _ (List.mem_append_right _ h9)))) hown hK hP 0 rfl rfl 5 (by decide) (hts (.fieldLink RX3 28 "PalletStack" "hasCornerRule" "Z") (List.mem_of_getElem? (i := 8) (by rfl))) (fun _ h9 => h9) rfl dX3_brokenRule_63 ?_
        refine lv_if_eq (tgt := 88) hx hb dX3_brokenRule_66 (by decide) (fun c_10 => ?_) (fun c_10 => ?_)
        · have h_b := True.intro
          refine lv_aload_n hx hb dX3_brokenRule_88 rfl (lv_at hl 0 rfl) ?_
          refine qcallvV (As := []) (rest := []) (ws := qG B R N) ⟨hx, hb, hml, hown, hts⟩ (c_findS l D _ B R N hO hM hlen (fun k hk => Nat.le_trans (hcm k hk) (by decide))) (cwV 0 hts gX3_brokenRule_X3_findSupports rfl rfl rfl (by decide +kernel) ⟨by rw [hRf]; exact Nat.le_of_ble_eq_true rfl, by rw [hRl]; exact Nat.le_of_ble_eq_true rfl⟩) hK hP hD hS hA [0, 1, 2, 3] rfl (ci := 3) (q0 := 0) rfl rfl rfl hl.1 rfl (Nat.le_of_ble_eq_true rfl) dX3_brokenRule_89 ⟨by omega, by omega⟩ (fun u_12 H locs hwu_12 hP hD hS => ?_)
          obtain ⟨R1, N1⟩ := u_12
          obtain ⟨f1, f2, f3, f4, f5⟩ := hwu_12
          dsimp only at f1 f2 f3 f4 f5 hP hD
          have hP : va_P D vwCl (qG B R1 N1) H := hP
          have hD : va_D A (qG B R1 N1) := hD
          have n5 : N1 4 1 5 = N 4 1 5 := f4 _ _ _ (by omega) (by omega)
          have hO1 : qOK B N1 := qOKs hO (fun j _ _ => f4 _ _ _ (by omega) (by omega)) (fun j hj => f4 _ _ _ (by omega) (by omega))
          have hL1 : ∀ k, k ≤ N 4 1 5 + 1 → qLN (qSx (qSt S N) (N 4 1 5)) (qx N1 (N 4 1 5)) (N 4 1 5 + 1) k = qLN (qSx (qSt S N) (N 4 1 5)) (qx (qtr N) (N 4 1 5)) (N 4 1 5 + 1) k := qLN_tr rfl o8 f1 (fun j hj => (f2 j hj).2) f4 _
          have hM1 : qM N1 := fun c i j => by
            by_cases h1 : c = 0 ∧ i = 60 ∧ j = 15
            · obtain ⟨rfl, rfl, rfl⟩ := h1; rw [f1]; exact Nat.le_trans hlen (by decide)
            · by_cases h2 : c = 1 ∧ i = 60
              · obtain ⟨rfl, rfl⟩ := h2; exact f5 j
              · rw [f4 _ _ _ h1 h2]; exact hM c i j
          have hS1 : qS9 B R1 N1 (qSt S N) (N 4 1 5) := fun i hi => by
            obtain ⟨s1, s2, s3, s4⟩ := hS9 i hi
            rw [f4 _ _ _ (by omega) (by omega), f4 _ _ _ (by omega) (by omega), f4 _ _ _ (by omega) (by omega), f3 i (by omega), qSt_i S N (show i ≠ 60 by omega)]
            exact ⟨s1, s2, s3, fun j hj => by rw [f4 _ _ _ (by omega) (by omega)]; exact s4 j hj⟩
          refine lv_aload_n hx hb dX3_brokenRule_92 rfl (lv_at hl 0 rfl) ?_
          refine qcalliV (As := []) (rest := []) (ws := qG B R1 N1) ⟨hx, hb, hml, hown, hts⟩ (c_tooMuch l D _ B R1 N1 hO1 hM1 (qSt S N) (by rw [n5]; exact hS1) ⟨by rw [f1]; exact hlen, by rw [f4 _ _ _ (by omega) (by omega)]; exact hg.1, by rw [f4 _ _ _ (by omega) (by omega)]; exact hwt, fun j hj => by rw [f1] at hj; rw [qSt_60, n5, (f2 j hj).1, (f2 j hj).2]; exact ⟨rfl, (qfs_at hj).1, hcm _ (qfs_at hj).1⟩⟩ (fun k i hk hi => by rw [n5] at hk hi ⊢; rw [hL1 k hk]; exact hLb k i hk hi)) (cwV 0 hts gX3_brokenRule_X3_isTooMuchLoad rfl rfl rfl (by decide +kernel) ⟨by rw [hRf]; exact Nat.le_of_ble_eq_true rfl, by rw [hRl]; exact Nat.le_of_ble_eq_true rfl⟩) hK hP hD hS hA [0, 1, 2, 3] rfl (ci := 3) (q0 := 0) rfl rfl rfl hl.1 rfl (Nat.le_of_ble_eq_true rfl) dX3_brokenRule_93 ⟨by omega, by omega⟩ (fun r_13 u_14 H locs hwu_14 hP hD hS => ?_)
          have hP : va_P D vwCl (qG B R1 u_14) H := hP
          have hD : va_D A (qG B R1 u_14) := hD
          obtain ⟨g1, g2, g3⟩ := hwu_14
          rw [n5] at g1 g3
          rw [hL1 _ (Nat.le_refl _)] at g3
          have hFr : qFr N u_14 := fun c i j h1 h2 h3 => by rw [g1 _ _ _ (by omega)]; exact f4 _ _ _ (by omega) h2
          have hM2 : qM u_14 := fun c i j => by
            by_cases h9 : c = 0 ∧ j = 12
            · obtain ⟨rfl, rfl⟩ := h9; exact g2 i
            · rw [g1 _ _ _ (by omega)]; exact hM1 c i j
          refine lv_if_eq (tgt := 102) hx hb dX3_brokenRule_96 (by decide) (fun c_15 => ?_) (fun c_15 => ?_)
          · have h_b := True.intro
            have hall : ∀ i, i < N 4 1 5 → qLN (qSx (qSt S N) (N 4 1 5)) (qx (qtr N) (N 4 1 5)) (N 4 1 5 + 1) (N 4 1 5 + 1) i ≤ N 0 i 2 := fun i hi => by have := g3 c_15 i hi; rw [f4 _ _ _ (by omega) (by omega)] at this; exact this
            refine lv_aload_n hx hb dX3_brokenRule_102 rfl (lv_at hl 0 rfl) ?_
            refine va_get (D := D) (ci := 3) (v := .int (nI (u_14 4 1 7))) (C := RX3) (T := TX3) (N := 14) hx hb hts (fun _ h9 => List.mem_cons_of_mem _ (List.mem_append_left _ (List.mem_append_left _ (List.mem_append_right _ h9)))) hown hK hP 0 rfl rfl 9 (by decide) (hts (.fieldLink RX3 44 "PalletStack" "weightOnPallet" "I") (List.mem_of_getElem? (i := 9) (by rfl))) (fun _ h9 => h9) rfl dX3_brokenRule_103 ?_
            refine lv_topi (fun v_16 ev_16 => ?_)
            obtain rfl : v_16 = (nI (N 4 1 7)) := ev_16.trans (congrArg nI (hFr _ _ _ (by omega) (by omega) (by omega)))
            refine lv_aload_n hx hb dX3_brokenRule_106 rfl (lv_at hl 0 rfl) ?_
            refine va_get (D := D) (ci := 3) (v := .ref (qA B 0 60)) (C := RX3) (T := TX3) (N := 14) hx hb hts (fun _ h9 => List.mem_cons_of_mem _ (List.mem_append_left _ (List.mem_append_left _ (List.mem_append_right _ h9)))) hown hK hP 0 rfl rfl 11 (by decide) (hts (.fieldLink RX3 52 "PalletStack" "trial" "LPalletStack$Item;") (List.mem_of_getElem? (i := 1) (by rfl))) (fun _ h9 => h9) rfl dX3_brokenRule_107 ?_
            refine va_get (D := D) (ci := 0) (v := .int (nI (u_14 0 60 1))) (C := RX0) (T := TX0) (N := 18) hx hb hts (fun _ h9 => List.mem_cons_of_mem _ (List.mem_append_left _ (List.mem_append_right _ h9))) hown hK hP (5 + 60) (qG_i (by omega)) rfl 1 (by decide) (hts (.fieldLink RX3 107 "PalletStack$Item" "weight" "I") (List.mem_of_getElem? (i := 10) (by rfl))) (fun _ h9 => h9) rfl dX3_brokenRule_110 ?_
            refine lv_topi (fun v_17 ev_17 => ?_)
            obtain rfl : v_17 = (nI (N 0 60 1)) := ev_17.trans (congrArg nI (hFr _ _ _ (by omega) (by omega) (by omega)))
            refine lv_iadd hx hb dX3_brokenRule_113 ?_
            refine lv_topi (fun v_18 ev_18 => ?_)
            obtain rfl : v_18 = (nI (N 4 1 7 + N 0 60 1)) := ev_18.trans (nI_add _ _)
            refine lv_aload_n hx hb dX3_brokenRule_114 rfl (lv_at hl 0 rfl) ?_
            refine va_get (D := D) (ci := 3) (v := .int (nI (u_14 4 1 3))) (C := RX3) (T := TX3) (N := 14) hx hb hts (fun _ h9 => List.mem_cons_of_mem _ (List.mem_append_left _ (List.mem_append_left _ (List.mem_append_right _ h9)))) hown hK hP 0 rfl rfl 4 (by decide) (hts (.fieldLink RX3 25 "PalletStack" "limit" "I") (List.mem_of_getElem? (i := 11) (by rfl))) (fun _ h9 => h9) rfl dX3_brokenRule_115 ?_
            refine lv_topi (fun v_19 ev_19 => ?_)
            obtain rfl : v_19 = (nI (N 4 1 3)) := ev_19.trans (congrArg nI (hFr _ _ _ (by omega) (by omega) (by omega)))
            refine lv_icmp_le (tgt := 126) hx hb dX3_brokenRule_118 (by decide) (fun c_20 => ?_) (fun c_20 => ?_)
            · have h_b := True.intro
              have k_21 : (N 4 1 7 + N 0 60 1) ≤ (N 4 1 3) := (nI_leI (a := (N 4 1 7 + N 0 60 1)) (b := (N 4 1 3)) (by omega) (by omega)).mp c_20
              refine lv_iconst (v := 0) hx hb dX3_brokenRule_126 (by decide) ?_
              exact W.iret (v := 0) hx hb hr (fun t ht hW => ⟨⟨0, (R1, u_14), rfl, ⟨fun i hi => f3 i hi, hFr, hM2, fun _ => ⟨by omega, (fun h => by omega), by omega, hall, by omega⟩⟩, ⟨Nat.zero_le _, by rw [ht]; exact hP, va_K.moved hW.alike (hK.sub (tys' := []) [] rfl), hD⟩⟩, hS.F ht⟩) hS.2.2 dX3_brokenRule_127
            · have h_b := True.intro
              have k_22 : ¬ ((N 4 1 7 + N 0 60 1) ≤ (N 4 1 3)) := fun h9 => c_20 ((nI_leI (a := (N 4 1 7 + N 0 60 1)) (b := (N 4 1 3)) (by omega) (by omega)).mpr h9)
              refine lv_bipush (v := 7) hx hb dX3_brokenRule_121 (by decide) ?_
              refine lv_goto (tgt := 127) hx hb dX3_brokenRule_123 (by decide) ?_
              exact W.iret (v := 7) hx hb hr (fun t ht hW => ⟨⟨7, (R1, u_14), rfl, ⟨fun i hi => f3 i hi, hFr, hM2, fun h => absurd h (by decide)⟩, ⟨Nat.zero_le _, by rw [ht]; exact hP, va_K.moved hW.alike (hK.sub (tys' := []) [] rfl), hD⟩⟩, hS.F ht⟩) hS.2.2 dX3_brokenRule_127
          · have h_b := True.intro
            refine lv_bipush (v := 6) hx hb dX3_brokenRule_99 (by decide) ?_
            exact W.iret (v := 6) hx hb hr (fun t ht hW => ⟨⟨6, (R1, u_14), rfl, ⟨fun i hi => f3 i hi, hFr, hM2, fun h => absurd h (by decide)⟩, ⟨Nat.zero_le _, by rw [ht]; exact hP, va_K.moved hW.alike (hK.sub (tys' := []) [] rfl), hD⟩⟩, hS.F ht⟩) hS.2.2 dX3_brokenRule_101
        · have h_b := True.intro
          refine lv_aload_n hx hb dX3_brokenRule_69 rfl (lv_at hl 0 rfl) ?_
          refine va_get (D := D) (ci := 3) (v := .ref (qA B 0 60)) (C := RX3) (T := TX3) (N := 14) hx hb hts (fun _ h9 => List.mem_cons_of_mem _ (List.mem_append_left _ (List.mem_append_left _ (List.mem_append_right _ h9)))) hown hK hP 0 rfl rfl 11 (by decide) (hts (.fieldLink RX3 52 "PalletStack" "trial" "LPalletStack$Item;") (List.mem_of_getElem? (i := 1) (by rfl))) (fun _ h9 => h9) rfl dX3_brokenRule_70 ?_
          refine va_get (D := D) (ci := 0) (v := .int (nI (N 0 60 8))) (C := RX0) (T := TX0) (N := 18) hx hb hts (fun _ h9 => List.mem_cons_of_mem _ (List.mem_append_left _ (List.mem_append_right _ h9))) hown hK hP (5 + 60) (qG_i (by omega)) rfl 8 (by decide) (hts (.fieldLink RX3 131 "PalletStack$Item" "bottom" "I") (List.mem_of_getElem? (i := 5) (by rfl))) (fun _ h9 => h9) rfl dX3_brokenRule_73 ?_
          refine lv_if_le (tgt := 88) hx hb dX3_brokenRule_76 (by decide) (fun c_23 => ?_) (fun c_23 => ?_)
          · have h_b := True.intro
            refine lv_aload_n hx hb dX3_brokenRule_88 rfl (lv_at hl 0 rfl) ?_
            refine qcallvV (As := []) (rest := []) (ws := qG B R N) ⟨hx, hb, hml, hown, hts⟩ (c_findS l D _ B R N hO hM hlen (fun k hk => Nat.le_trans (hcm k hk) (by decide))) (cwV 0 hts gX3_brokenRule_X3_findSupports rfl rfl rfl (by decide +kernel) ⟨by rw [hRf]; exact Nat.le_of_ble_eq_true rfl, by rw [hRl]; exact Nat.le_of_ble_eq_true rfl⟩) hK hP hD hS hA [0, 1, 2, 3] rfl (ci := 3) (q0 := 0) rfl rfl rfl hl.1 rfl (Nat.le_of_ble_eq_true rfl) dX3_brokenRule_89 ⟨by omega, by omega⟩ (fun u_25 H locs hwu_25 hP hD hS => ?_)
            obtain ⟨R1, N1⟩ := u_25
            obtain ⟨f1, f2, f3, f4, f5⟩ := hwu_25
            dsimp only at f1 f2 f3 f4 f5 hP hD
            have hP : va_P D vwCl (qG B R1 N1) H := hP
            have hD : va_D A (qG B R1 N1) := hD
            have n5 : N1 4 1 5 = N 4 1 5 := f4 _ _ _ (by omega) (by omega)
            have hO1 : qOK B N1 := qOKs hO (fun j _ _ => f4 _ _ _ (by omega) (by omega)) (fun j hj => f4 _ _ _ (by omega) (by omega))
            have hL1 : ∀ k, k ≤ N 4 1 5 + 1 → qLN (qSx (qSt S N) (N 4 1 5)) (qx N1 (N 4 1 5)) (N 4 1 5 + 1) k = qLN (qSx (qSt S N) (N 4 1 5)) (qx (qtr N) (N 4 1 5)) (N 4 1 5 + 1) k := qLN_tr rfl o8 f1 (fun j hj => (f2 j hj).2) f4 _
            have hM1 : qM N1 := fun c i j => by
              by_cases h1 : c = 0 ∧ i = 60 ∧ j = 15
              · obtain ⟨rfl, rfl, rfl⟩ := h1; rw [f1]; exact Nat.le_trans hlen (by decide)
              · by_cases h2 : c = 1 ∧ i = 60
                · obtain ⟨rfl, rfl⟩ := h2; exact f5 j
                · rw [f4 _ _ _ h1 h2]; exact hM c i j
            have hS1 : qS9 B R1 N1 (qSt S N) (N 4 1 5) := fun i hi => by
              obtain ⟨s1, s2, s3, s4⟩ := hS9 i hi
              rw [f4 _ _ _ (by omega) (by omega), f4 _ _ _ (by omega) (by omega), f4 _ _ _ (by omega) (by omega), f3 i (by omega), qSt_i S N (show i ≠ 60 by omega)]
              exact ⟨s1, s2, s3, fun j hj => by rw [f4 _ _ _ (by omega) (by omega)]; exact s4 j hj⟩
            refine lv_aload_n hx hb dX3_brokenRule_92 rfl (lv_at hl 0 rfl) ?_
            refine qcalliV (As := []) (rest := []) (ws := qG B R1 N1) ⟨hx, hb, hml, hown, hts⟩ (c_tooMuch l D _ B R1 N1 hO1 hM1 (qSt S N) (by rw [n5]; exact hS1) ⟨by rw [f1]; exact hlen, by rw [f4 _ _ _ (by omega) (by omega)]; exact hg.1, by rw [f4 _ _ _ (by omega) (by omega)]; exact hwt, fun j hj => by rw [f1] at hj; rw [qSt_60, n5, (f2 j hj).1, (f2 j hj).2]; exact ⟨rfl, (qfs_at hj).1, hcm _ (qfs_at hj).1⟩⟩ (fun k i hk hi => by rw [n5] at hk hi ⊢; rw [hL1 k hk]; exact hLb k i hk hi)) (cwV 0 hts gX3_brokenRule_X3_isTooMuchLoad rfl rfl rfl (by decide +kernel) ⟨by rw [hRf]; exact Nat.le_of_ble_eq_true rfl, by rw [hRl]; exact Nat.le_of_ble_eq_true rfl⟩) hK hP hD hS hA [0, 1, 2, 3] rfl (ci := 3) (q0 := 0) rfl rfl rfl hl.1 rfl (Nat.le_of_ble_eq_true rfl) dX3_brokenRule_93 ⟨by omega, by omega⟩ (fun r_26 u_27 H locs hwu_27 hP hD hS => ?_)
            have hP : va_P D vwCl (qG B R1 u_27) H := hP
            have hD : va_D A (qG B R1 u_27) := hD
            obtain ⟨g1, g2, g3⟩ := hwu_27
            rw [n5] at g1 g3
            rw [hL1 _ (Nat.le_refl _)] at g3
            have hFr : qFr N u_27 := fun c i j h1 h2 h3 => by rw [g1 _ _ _ (by omega)]; exact f4 _ _ _ (by omega) h2
            have hM2 : qM u_27 := fun c i j => by
              by_cases h9 : c = 0 ∧ j = 12
              · obtain ⟨rfl, rfl⟩ := h9; exact g2 i
              · rw [g1 _ _ _ (by omega)]; exact hM1 c i j
            refine lv_if_eq (tgt := 102) hx hb dX3_brokenRule_96 (by decide) (fun c_28 => ?_) (fun c_28 => ?_)
            · have h_b := True.intro
              have hall : ∀ i, i < N 4 1 5 → qLN (qSx (qSt S N) (N 4 1 5)) (qx (qtr N) (N 4 1 5)) (N 4 1 5 + 1) (N 4 1 5 + 1) i ≤ N 0 i 2 := fun i hi => by have := g3 c_28 i hi; rw [f4 _ _ _ (by omega) (by omega)] at this; exact this
              refine lv_aload_n hx hb dX3_brokenRule_102 rfl (lv_at hl 0 rfl) ?_
              refine va_get (D := D) (ci := 3) (v := .int (nI (u_27 4 1 7))) (C := RX3) (T := TX3) (N := 14) hx hb hts (fun _ h9 => List.mem_cons_of_mem _ (List.mem_append_left _ (List.mem_append_left _ (List.mem_append_right _ h9)))) hown hK hP 0 rfl rfl 9 (by decide) (hts (.fieldLink RX3 44 "PalletStack" "weightOnPallet" "I") (List.mem_of_getElem? (i := 9) (by rfl))) (fun _ h9 => h9) rfl dX3_brokenRule_103 ?_
              refine lv_topi (fun v_29 ev_29 => ?_)
              obtain rfl : v_29 = (nI (N 4 1 7)) := ev_29.trans (congrArg nI (hFr _ _ _ (by omega) (by omega) (by omega)))
              refine lv_aload_n hx hb dX3_brokenRule_106 rfl (lv_at hl 0 rfl) ?_
              refine va_get (D := D) (ci := 3) (v := .ref (qA B 0 60)) (C := RX3) (T := TX3) (N := 14) hx hb hts (fun _ h9 => List.mem_cons_of_mem _ (List.mem_append_left _ (List.mem_append_left _ (List.mem_append_right _ h9)))) hown hK hP 0 rfl rfl 11 (by decide) (hts (.fieldLink RX3 52 "PalletStack" "trial" "LPalletStack$Item;") (List.mem_of_getElem? (i := 1) (by rfl))) (fun _ h9 => h9) rfl dX3_brokenRule_107 ?_
              refine va_get (D := D) (ci := 0) (v := .int (nI (u_27 0 60 1))) (C := RX0) (T := TX0) (N := 18) hx hb hts (fun _ h9 => List.mem_cons_of_mem _ (List.mem_append_left _ (List.mem_append_right _ h9))) hown hK hP (5 + 60) (qG_i (by omega)) rfl 1 (by decide) (hts (.fieldLink RX3 107 "PalletStack$Item" "weight" "I") (List.mem_of_getElem? (i := 10) (by rfl))) (fun _ h9 => h9) rfl dX3_brokenRule_110 ?_
              refine lv_topi (fun v_30 ev_30 => ?_)
              obtain rfl : v_30 = (nI (N 0 60 1)) := ev_30.trans (congrArg nI (hFr _ _ _ (by omega) (by omega) (by omega)))
              refine lv_iadd hx hb dX3_brokenRule_113 ?_
              refine lv_topi (fun v_31 ev_31 => ?_)
              obtain rfl : v_31 = (nI (N 4 1 7 + N 0 60 1)) := ev_31.trans (nI_add _ _)
              refine lv_aload_n hx hb dX3_brokenRule_114 rfl (lv_at hl 0 rfl) ?_
              refine va_get (D := D) (ci := 3) (v := .int (nI (u_27 4 1 3))) (C := RX3) (T := TX3) (N := 14) hx hb hts (fun _ h9 => List.mem_cons_of_mem _ (List.mem_append_left _ (List.mem_append_left _ (List.mem_append_right _ h9)))) hown hK hP 0 rfl rfl 4 (by decide) (hts (.fieldLink RX3 25 "PalletStack" "limit" "I") (List.mem_of_getElem? (i := 11) (by rfl))) (fun _ h9 => h9) rfl dX3_brokenRule_115 ?_
              refine lv_topi (fun v_32 ev_32 => ?_)
              obtain rfl : v_32 = (nI (N 4 1 3)) := ev_32.trans (congrArg nI (hFr _ _ _ (by omega) (by omega) (by omega)))
              refine lv_icmp_le (tgt := 126) hx hb dX3_brokenRule_118 (by decide) (fun c_33 => ?_) (fun c_33 => ?_)
              · have h_b := True.intro
                have k_34 : (N 4 1 7 + N 0 60 1) ≤ (N 4 1 3) := (nI_leI (a := (N 4 1 7 + N 0 60 1)) (b := (N 4 1 3)) (by omega) (by omega)).mp c_33
                refine lv_iconst (v := 0) hx hb dX3_brokenRule_126 (by decide) ?_
                exact W.iret (v := 0) hx hb hr (fun t ht hW => ⟨⟨0, (R1, u_27), rfl, ⟨fun i hi => f3 i hi, hFr, hM2, fun _ => ⟨by omega, (fun h => by omega), by omega, hall, by omega⟩⟩, ⟨Nat.zero_le _, by rw [ht]; exact hP, va_K.moved hW.alike (hK.sub (tys' := []) [] rfl), hD⟩⟩, hS.F ht⟩) hS.2.2 dX3_brokenRule_127
              · have h_b := True.intro
                have k_35 : ¬ ((N 4 1 7 + N 0 60 1) ≤ (N 4 1 3)) := fun h9 => c_33 ((nI_leI (a := (N 4 1 7 + N 0 60 1)) (b := (N 4 1 3)) (by omega) (by omega)).mpr h9)
                refine lv_bipush (v := 7) hx hb dX3_brokenRule_121 (by decide) ?_
                refine lv_goto (tgt := 127) hx hb dX3_brokenRule_123 (by decide) ?_
                exact W.iret (v := 7) hx hb hr (fun t ht hW => ⟨⟨7, (R1, u_27), rfl, ⟨fun i hi => f3 i hi, hFr, hM2, fun h => absurd h (by decide)⟩, ⟨Nat.zero_le _, by rw [ht]; exact hP, va_K.moved hW.alike (hK.sub (tys' := []) [] rfl), hD⟩⟩, hS.F ht⟩) hS.2.2 dX3_brokenRule_127
            · have h_b := True.intro
              refine lv_bipush (v := 6) hx hb dX3_brokenRule_99 (by decide) ?_
              exact W.iret (v := 6) hx hb hr (fun t ht hW => ⟨⟨6, (R1, u_27), rfl, ⟨fun i hi => f3 i hi, hFr, hM2, fun h => absurd h (by decide)⟩, ⟨Nat.zero_le _, by rw [ht]; exact hP, va_K.moved hW.alike (hK.sub (tys' := []) [] rfl), hD⟩⟩, hS.F ht⟩) hS.2.2 dX3_brokenRule_101
          · have h_b := True.intro
            refine lv_aload_n hx hb dX3_brokenRule_79 rfl (lv_at hl 0 rfl) ?_
            refine zrdV2 (As := []) (rest := []) (wc := qG B R N) ⟨hx, hb, hml, hown, hts⟩ (c_corners l D _ B R N hw.1 hw.2.2.1 hxy.1 hxy.2) (cwV 0 hts gX3_brokenRule_X3_hasGroundAtCorners rfl rfl rfl (by decide +kernel) ⟨by rw [hRf]; exact Nat.le_of_ble_eq_true rfl, by rw [hRl]; exact Nat.le_of_ble_eq_true rfl⟩) hK hP hD [0, 1, 2, 3] rfl (ci := 3) (q0 := 0) rfl rfl rfl hl.1 rfl (Nat.le_of_ble_eq_true rfl) dX3_brokenRule_80 ⟨by omega, by omega⟩ (fun r_36 hr_36 => ?_)
            refine lv_if_ne (tgt := 88) hx hb dX3_brokenRule_83 (by decide) (fun c_37 => ?_) (fun c_37 => ?_)
            · have h_b := True.intro
              refine lv_aload_n hx hb dX3_brokenRule_88 rfl (lv_at hl 0 rfl) ?_
              refine qcallvV (As := []) (rest := []) (ws := qG B R N) ⟨hx, hb, hml, hown, hts⟩ (c_findS l D _ B R N hO hM hlen (fun k hk => Nat.le_trans (hcm k hk) (by decide))) (cwV 0 hts gX3_brokenRule_X3_findSupports rfl rfl rfl (by decide +kernel) ⟨by rw [hRf]; exact Nat.le_of_ble_eq_true rfl, by rw [hRl]; exact Nat.le_of_ble_eq_true rfl⟩) hK hP hD hS hA [0, 1, 2, 3] rfl (ci := 3) (q0 := 0) rfl rfl rfl hl.1 rfl (Nat.le_of_ble_eq_true rfl) dX3_brokenRule_89 ⟨by omega, by omega⟩ (fun u_39 H locs hwu_39 hP hD hS => ?_)
              obtain ⟨R1, N1⟩ := u_39
              obtain ⟨f1, f2, f3, f4, f5⟩ := hwu_39
              dsimp only at f1 f2 f3 f4 f5 hP hD
              have hP : va_P D vwCl (qG B R1 N1) H := hP
              have hD : va_D A (qG B R1 N1) := hD
              have n5 : N1 4 1 5 = N 4 1 5 := f4 _ _ _ (by omega) (by omega)
              have hO1 : qOK B N1 := qOKs hO (fun j _ _ => f4 _ _ _ (by omega) (by omega)) (fun j hj => f4 _ _ _ (by omega) (by omega))
              have hL1 : ∀ k, k ≤ N 4 1 5 + 1 → qLN (qSx (qSt S N) (N 4 1 5)) (qx N1 (N 4 1 5)) (N 4 1 5 + 1) k = qLN (qSx (qSt S N) (N 4 1 5)) (qx (qtr N) (N 4 1 5)) (N 4 1 5 + 1) k := qLN_tr rfl o8 f1 (fun j hj => (f2 j hj).2) f4 _
              have hM1 : qM N1 := fun c i j => by
                by_cases h1 : c = 0 ∧ i = 60 ∧ j = 15
                · obtain ⟨rfl, rfl, rfl⟩ := h1; rw [f1]; exact Nat.le_trans hlen (by decide)
                · by_cases h2 : c = 1 ∧ i = 60
                  · obtain ⟨rfl, rfl⟩ := h2; exact f5 j
                  · rw [f4 _ _ _ h1 h2]; exact hM c i j
              have hS1 : qS9 B R1 N1 (qSt S N) (N 4 1 5) := fun i hi => by
                obtain ⟨s1, s2, s3, s4⟩ := hS9 i hi
                rw [f4 _ _ _ (by omega) (by omega), f4 _ _ _ (by omega) (by omega), f4 _ _ _ (by omega) (by omega), f3 i (by omega), qSt_i S N (show i ≠ 60 by omega)]
                exact ⟨s1, s2, s3, fun j hj => by rw [f4 _ _ _ (by omega) (by omega)]; exact s4 j hj⟩
              refine lv_aload_n hx hb dX3_brokenRule_92 rfl (lv_at hl 0 rfl) ?_
              refine qcalliV (As := []) (rest := []) (ws := qG B R1 N1) ⟨hx, hb, hml, hown, hts⟩ (c_tooMuch l D _ B R1 N1 hO1 hM1 (qSt S N) (by rw [n5]; exact hS1) ⟨by rw [f1]; exact hlen, by rw [f4 _ _ _ (by omega) (by omega)]; exact hg.1, by rw [f4 _ _ _ (by omega) (by omega)]; exact hwt, fun j hj => by rw [f1] at hj; rw [qSt_60, n5, (f2 j hj).1, (f2 j hj).2]; exact ⟨rfl, (qfs_at hj).1, hcm _ (qfs_at hj).1⟩⟩ (fun k i hk hi => by rw [n5] at hk hi ⊢; rw [hL1 k hk]; exact hLb k i hk hi)) (cwV 0 hts gX3_brokenRule_X3_isTooMuchLoad rfl rfl rfl (by decide +kernel) ⟨by rw [hRf]; exact Nat.le_of_ble_eq_true rfl, by rw [hRl]; exact Nat.le_of_ble_eq_true rfl⟩) hK hP hD hS hA [0, 1, 2, 3] rfl (ci := 3) (q0 := 0) rfl rfl rfl hl.1 rfl (Nat.le_of_ble_eq_true rfl) dX3_brokenRule_93 ⟨by omega, by omega⟩ (fun r_40 u_41 H locs hwu_41 hP hD hS => ?_)
              have hP : va_P D vwCl (qG B R1 u_41) H := hP
              have hD : va_D A (qG B R1 u_41) := hD
              obtain ⟨g1, g2, g3⟩ := hwu_41
              rw [n5] at g1 g3
              rw [hL1 _ (Nat.le_refl _)] at g3
              have hFr : qFr N u_41 := fun c i j h1 h2 h3 => by rw [g1 _ _ _ (by omega)]; exact f4 _ _ _ (by omega) h2
              have hM2 : qM u_41 := fun c i j => by
                by_cases h9 : c = 0 ∧ j = 12
                · obtain ⟨rfl, rfl⟩ := h9; exact g2 i
                · rw [g1 _ _ _ (by omega)]; exact hM1 c i j
              refine lv_if_eq (tgt := 102) hx hb dX3_brokenRule_96 (by decide) (fun c_42 => ?_) (fun c_42 => ?_)
              · have h_b := True.intro
                have hall : ∀ i, i < N 4 1 5 → qLN (qSx (qSt S N) (N 4 1 5)) (qx (qtr N) (N 4 1 5)) (N 4 1 5 + 1) (N 4 1 5 + 1) i ≤ N 0 i 2 := fun i hi => by have := g3 c_42 i hi; rw [f4 _ _ _ (by omega) (by omega)] at this; exact this
                refine lv_aload_n hx hb dX3_brokenRule_102 rfl (lv_at hl 0 rfl) ?_
                refine va_get (D := D) (ci := 3) (v := .int (nI (u_41 4 1 7))) (C := RX3) (T := TX3) (N := 14) hx hb hts (fun _ h9 => List.mem_cons_of_mem _ (List.mem_append_left _ (List.mem_append_left _ (List.mem_append_right _ h9)))) hown hK hP 0 rfl rfl 9 (by decide) (hts (.fieldLink RX3 44 "PalletStack" "weightOnPallet" "I") (List.mem_of_getElem? (i := 9) (by rfl))) (fun _ h9 => h9) rfl dX3_brokenRule_103 ?_
                refine lv_topi (fun v_43 ev_43 => ?_)
                obtain rfl : v_43 = (nI (N 4 1 7)) := ev_43.trans (congrArg nI (hFr _ _ _ (by omega) (by omega) (by omega)))
                refine lv_aload_n hx hb dX3_brokenRule_106 rfl (lv_at hl 0 rfl) ?_
                refine va_get (D := D) (ci := 3) (v := .ref (qA B 0 60)) (C := RX3) (T := TX3) (N := 14) hx hb hts (fun _ h9 => List.mem_cons_of_mem _ (List.mem_append_left _ (List.mem_append_left _ (List.mem_append_right _ h9)))) hown hK hP 0 rfl rfl 11 (by decide) (hts (.fieldLink RX3 52 "PalletStack" "trial" "LPalletStack$Item;") (List.mem_of_getElem? (i := 1) (by rfl))) (fun _ h9 => h9) rfl dX3_brokenRule_107 ?_
                refine va_get (D := D) (ci := 0) (v := .int (nI (u_41 0 60 1))) (C := RX0) (T := TX0) (N := 18) hx hb hts (fun _ h9 => List.mem_cons_of_mem _ (List.mem_append_left _ (List.mem_append_right _ h9))) hown hK hP (5 + 60) (qG_i (by omega)) rfl 1 (by decide) (hts (.fieldLink RX3 107 "PalletStack$Item" "weight" "I") (List.mem_of_getElem? (i := 10) (by rfl))) (fun _ h9 => h9) rfl dX3_brokenRule_110 ?_
                refine lv_topi (fun v_44 ev_44 => ?_)
                obtain rfl : v_44 = (nI (N 0 60 1)) := ev_44.trans (congrArg nI (hFr _ _ _ (by omega) (by omega) (by omega)))
                refine lv_iadd hx hb dX3_brokenRule_113 ?_
                refine lv_topi (fun v_45 ev_45 => ?_)
                obtain rfl : v_45 = (nI (N 4 1 7 + N 0 60 1)) := ev_45.trans (nI_add _ _)
                refine lv_aload_n hx hb dX3_brokenRule_114 rfl (lv_at hl 0 rfl) ?_
                refine va_get (D := D) (ci := 3) (v := .int (nI (u_41 4 1 3))) (C := RX3) (T := TX3) (N := 14) hx hb hts (fun _ h9 => List.mem_cons_of_mem _ (List.mem_append_left _ (List.mem_append_left _ (List.mem_append_right _ h9)))) hown hK hP 0 rfl rfl 4 (by decide) (hts (.fieldLink RX3 25 "PalletStack" "limit" "I") (List.mem_of_getElem? (i := 11) (by rfl))) (fun _ h9 => h9) rfl dX3_brokenRule_115 ?_
                refine lv_topi (fun v_46 ev_46 => ?_)
                obtain rfl : v_46 = (nI (N 4 1 3)) := ev_46.trans (congrArg nI (hFr _ _ _ (by omega) (by omega) (by omega)))
                refine lv_icmp_le (tgt := 126) hx hb dX3_brokenRule_118 (by decide) (fun c_47 => ?_) (fun c_47 => ?_)
                · have h_b := True.intro
                  have k_48 : (N 4 1 7 + N 0 60 1) ≤ (N 4 1 3) := (nI_leI (a := (N 4 1 7 + N 0 60 1)) (b := (N 4 1 3)) (by omega) (by omega)).mp c_47
                  refine lv_iconst (v := 0) hx hb dX3_brokenRule_126 (by decide) ?_
                  exact W.iret (v := 0) hx hb hr (fun t ht hW => ⟨⟨0, (R1, u_41), rfl, ⟨fun i hi => f3 i hi, hFr, hM2, fun _ => ⟨by omega, (fun h => by omega), by omega, hall, by omega⟩⟩, ⟨Nat.zero_le _, by rw [ht]; exact hP, va_K.moved hW.alike (hK.sub (tys' := []) [] rfl), hD⟩⟩, hS.F ht⟩) hS.2.2 dX3_brokenRule_127
                · have h_b := True.intro
                  have k_49 : ¬ ((N 4 1 7 + N 0 60 1) ≤ (N 4 1 3)) := fun h9 => c_47 ((nI_leI (a := (N 4 1 7 + N 0 60 1)) (b := (N 4 1 3)) (by omega) (by omega)).mpr h9)
                  refine lv_bipush (v := 7) hx hb dX3_brokenRule_121 (by decide) ?_
                  refine lv_goto (tgt := 127) hx hb dX3_brokenRule_123 (by decide) ?_
                  exact W.iret (v := 7) hx hb hr (fun t ht hW => ⟨⟨7, (R1, u_41), rfl, ⟨fun i hi => f3 i hi, hFr, hM2, fun h => absurd h (by decide)⟩, ⟨Nat.zero_le _, by rw [ht]; exact hP, va_K.moved hW.alike (hK.sub (tys' := []) [] rfl), hD⟩⟩, hS.F ht⟩) hS.2.2 dX3_brokenRule_127
              · have h_b := True.intro
                refine lv_bipush (v := 6) hx hb dX3_brokenRule_99 (by decide) ?_
                exact W.iret (v := 6) hx hb hr (fun t ht hW => ⟨⟨6, (R1, u_41), rfl, ⟨fun i hi => f3 i hi, hFr, hM2, fun h => absurd h (by decide)⟩, ⟨Nat.zero_le _, by rw [ht]; exact hP, va_K.moved hW.alike (hK.sub (tys' := []) [] rfl), hD⟩⟩, hS.F ht⟩) hS.2.2 dX3_brokenRule_101
            · have h_b := True.intro
              refine lv_iconst (v := 5) hx hb dX3_brokenRule_86 (by decide) ?_
              exact W.iret (v := 5) hx hb hr (fun t ht hW => ⟨⟨5, (R, N), rfl, ⟨fun _ _ => rfl, hFr0, hM, fun h => absurd h (by decide)⟩, ⟨Nat.zero_le _, by rw [ht]; exact hP, va_K.moved hW.alike (hK.sub (tys' := []) [] rfl), hD⟩⟩, hS.F ht⟩) hS.2.2 dX3_brokenRule_87
      · have h_b := True.intro
        have k_50 : ¬ ((N 0 60 4 * N 0 60 5 * N 4 1 2) ≤ (N 0 60 10 * 100)) := fun h9 => c_8 ((nI_leI (a := (N 0 60 4 * N 0 60 5 * N 4 1 2)) (b := (N 0 60 10 * 100)) (by omega) (by omega)).mpr h9)
        refine lv_iconst (v := 4) hx hb dX3_brokenRule_60 (by decide) ?_
        exact W.iret (v := 4) hx hb hr (fun t ht hW => ⟨⟨4, (R, N), rfl, ⟨fun _ _ => rfl, hFr0, hM, fun h => absurd h (by decide)⟩, ⟨Nat.zero_le _, by rw [ht]; exact hP, va_K.moved hW.alike (hK.sub (tys' := []) [] rfl), hD⟩⟩, hS.F ht⟩) hS.2.2 dX3_brokenRule_61
    · have h_b := True.intro
      refine lv_aload_n hx hb dX3_brokenRule_23 rfl (lv_at hl 0 rfl) ?_
      refine va_get (D := D) (ci := 3) (v := .ref (qA B 0 60)) (C := RX3) (T := TX3) (N := 14) hx hb hts (fun _ h9 => List.mem_cons_of_mem _ (List.mem_append_left _ (List.mem_append_left _ (List.mem_append_right _ h9)))) hown hK hP 0 rfl rfl 11 (by decide) (hts (.fieldLink RX3 52 "PalletStack" "trial" "LPalletStack$Item;") (List.mem_of_getElem? (i := 1) (by rfl))) (fun _ h9 => h9) rfl dX3_brokenRule_24 ?_
      refine va_get (D := D) (ci := 0) (v := .int (nI (N 0 60 8))) (C := RX0) (T := TX0) (N := 18) hx hb hts (fun _ h9 => List.mem_cons_of_mem _ (List.mem_append_left _ (List.mem_append_right _ h9))) hown hK hP (5 + 60) (qG_i (by omega)) rfl 8 (by decide) (hts (.fieldLink RX3 131 "PalletStack$Item" "bottom" "I") (List.mem_of_getElem? (i := 5) (by rfl))) (fun _ h9 => h9) rfl dX3_brokenRule_27 ?_
      refine lv_if_le (tgt := 35) hx hb dX3_brokenRule_30 (by decide) (fun c_51 => ?_) (fun c_51 => ?_)
      · have h_b := True.intro
        have z8 : N 0 60 8 = 0 := Nat.le_zero.mp ((nI_leI (b := 0) (by omega) (by decide)).mp c_51)
        refine lv_aload_n hx hb dX3_brokenRule_35 rfl (lv_at hl 0 rfl) ?_
        refine va_get (D := D) (ci := 3) (v := .ref (qA B 0 60)) (C := RX3) (T := TX3) (N := 14) hx hb hts (fun _ h9 => List.mem_cons_of_mem _ (List.mem_append_left _ (List.mem_append_left _ (List.mem_append_right _ h9)))) hown hK hP 0 rfl rfl 11 (by decide) (hts (.fieldLink RX3 52 "PalletStack" "trial" "LPalletStack$Item;") (List.mem_of_getElem? (i := 1) (by rfl))) (fun _ h9 => h9) rfl dX3_brokenRule_36 ?_
        refine va_get (D := D) (ci := 0) (v := .int (nI (N 0 60 10))) (C := RX0) (T := TX0) (N := 18) hx hb hts (fun _ h9 => List.mem_cons_of_mem _ (List.mem_append_left _ (List.mem_append_right _ h9))) hown hK hP (5 + 60) (qG_i (by omega)) rfl 10 (by decide) (hts (.fieldLink RX3 214 "PalletStack$Item" "ground" "I") (List.mem_of_getElem? (i := 6) (by rfl))) (fun _ h9 => h9) rfl dX3_brokenRule_39 ?_
        refine lv_bipush (v := 100) hx hb dX3_brokenRule_42 (by decide) ?_
        refine lv_imul hx hb dX3_brokenRule_44 ?_
        refine lv_topi (fun v_52 ev_52 => ?_)
        obtain rfl : v_52 = (nI (N 0 60 10 * 100)) := ev_52.trans (pk_mul _ 100)
        refine lv_aload_n hx hb dX3_brokenRule_45 rfl (lv_at hl 0 rfl) ?_
        refine va_get (D := D) (ci := 3) (v := .ref (qA B 0 60)) (C := RX3) (T := TX3) (N := 14) hx hb hts (fun _ h9 => List.mem_cons_of_mem _ (List.mem_append_left _ (List.mem_append_left _ (List.mem_append_right _ h9)))) hown hK hP 0 rfl rfl 11 (by decide) (hts (.fieldLink RX3 52 "PalletStack" "trial" "LPalletStack$Item;") (List.mem_of_getElem? (i := 1) (by rfl))) (fun _ h9 => h9) rfl dX3_brokenRule_46 ?_
        refine zrdV2 (As := []) (rest := [.int (nI (N 0 60 10 * 100))]) (wc := qG B R N) ⟨hx, hb, hml, hown, hts⟩ (c_cells l D _ B R N 60 (by omega)) (cwV 0 hts gX3_brokenRule_X0_cells rfl rfl rfl (by decide +kernel) ⟨by rw [hRf]; exact Nat.le_of_ble_eq_true rfl, by rw [hRl]; exact Nat.le_of_ble_eq_true rfl⟩) hK hP hD [0, 1, 2, 3] rfl (ci := 0) (q0 := (5 + 60)) rfl (qG_i (by omega)) rfl hl.1 rfl (Nat.le_of_ble_eq_true rfl) dX3_brokenRule_49 ⟨by omega, by omega⟩ (fun r_53 hr_53 => ?_)
        refine lv_topi (fun v_54 ev_54 => ?_)
        obtain rfl : v_54 = (nI (N 0 60 4 * N 0 60 5)) := ev_54.trans hr_53
        refine lv_aload_n hx hb dX3_brokenRule_52 rfl (lv_at hl 0 rfl) ?_
        refine va_get (D := D) (ci := 3) (v := .int (nI (N 4 1 2))) (C := RX3) (T := TX3) (N := 14) hx hb hts (fun _ h9 => List.mem_cons_of_mem _ (List.mem_append_left _ (List.mem_append_left _ (List.mem_append_right _ h9)))) hown hK hP 0 rfl rfl 3 (by decide) (hts (.fieldLink RX3 22 "PalletStack" "support" "I") (List.mem_of_getElem? (i := 7) (by rfl))) (fun _ h9 => h9) rfl dX3_brokenRule_53 ?_
        refine lv_imul hx hb dX3_brokenRule_56 ?_
        refine lv_topi (fun v_55 ev_55 => ?_)
        obtain rfl : v_55 = (nI (N 0 60 4 * N 0 60 5 * N 4 1 2)) := ev_55.trans (pk_mul _ _)
        refine lv_icmp_ge (tgt := 62) hx hb dX3_brokenRule_57 (by decide) (fun c_56 => ?_) (fun c_56 => ?_)
        · have h_b := True.intro
          have k_57 : (N 0 60 4 * N 0 60 5 * N 4 1 2) ≤ (N 0 60 10 * 100) := (nI_leI (a := (N 0 60 4 * N 0 60 5 * N 4 1 2)) (b := (N 0 60 10 * 100)) (by omega) (by omega)).mp c_56
          refine lv_aload_n hx hb dX3_brokenRule_62 rfl (lv_at hl 0 rfl) ?_
          refine va_get (D := D) (ci := 3) (v := .int (nI (N 4 1 4))) (C := RX3) (T := TX3) (N := 14) hx hb hts (fun _ h9 => List.mem_cons_of_mem _ (List.mem_append_left _ (List.mem_append_left _ (List.mem_append_right _ h9)))) hown hK hP 0 rfl rfl 5 (by decide) (hts (.fieldLink RX3 28 "PalletStack" "hasCornerRule" "Z") (List.mem_of_getElem? (i := 8) (by rfl))) (fun _ h9 => h9) rfl dX3_brokenRule_63 ?_
          refine lv_if_eq (tgt := 88) hx hb dX3_brokenRule_66 (by decide) (fun c_58 => ?_) (fun c_58 => ?_)
          · have h_b := True.intro
            refine lv_aload_n hx hb dX3_brokenRule_88 rfl (lv_at hl 0 rfl) ?_
            refine qcallvV (As := []) (rest := []) (ws := qG B R N) ⟨hx, hb, hml, hown, hts⟩ (c_findS l D _ B R N hO hM hlen (fun k hk => Nat.le_trans (hcm k hk) (by decide))) (cwV 0 hts gX3_brokenRule_X3_findSupports rfl rfl rfl (by decide +kernel) ⟨by rw [hRf]; exact Nat.le_of_ble_eq_true rfl, by rw [hRl]; exact Nat.le_of_ble_eq_true rfl⟩) hK hP hD hS hA [0, 1, 2, 3] rfl (ci := 3) (q0 := 0) rfl rfl rfl hl.1 rfl (Nat.le_of_ble_eq_true rfl) dX3_brokenRule_89 ⟨by omega, by omega⟩ (fun u_60 H locs hwu_60 hP hD hS => ?_)
            obtain ⟨R1, N1⟩ := u_60
            obtain ⟨f1, f2, f3, f4, f5⟩ := hwu_60
            dsimp only at f1 f2 f3 f4 f5 hP hD
            have hP : va_P D vwCl (qG B R1 N1) H := hP
            have hD : va_D A (qG B R1 N1) := hD
            have n5 : N1 4 1 5 = N 4 1 5 := f4 _ _ _ (by omega) (by omega)
            have hO1 : qOK B N1 := qOKs hO (fun j _ _ => f4 _ _ _ (by omega) (by omega)) (fun j hj => f4 _ _ _ (by omega) (by omega))
            have hL1 : ∀ k, k ≤ N 4 1 5 + 1 → qLN (qSx (qSt S N) (N 4 1 5)) (qx N1 (N 4 1 5)) (N 4 1 5 + 1) k = qLN (qSx (qSt S N) (N 4 1 5)) (qx (qtr N) (N 4 1 5)) (N 4 1 5 + 1) k := qLN_tr rfl o8 f1 (fun j hj => (f2 j hj).2) f4 _
            have hM1 : qM N1 := fun c i j => by
              by_cases h1 : c = 0 ∧ i = 60 ∧ j = 15
              · obtain ⟨rfl, rfl, rfl⟩ := h1; rw [f1]; exact Nat.le_trans hlen (by decide)
              · by_cases h2 : c = 1 ∧ i = 60
                · obtain ⟨rfl, rfl⟩ := h2; exact f5 j
                · rw [f4 _ _ _ h1 h2]; exact hM c i j
            have hS1 : qS9 B R1 N1 (qSt S N) (N 4 1 5) := fun i hi => by
              obtain ⟨s1, s2, s3, s4⟩ := hS9 i hi
              rw [f4 _ _ _ (by omega) (by omega), f4 _ _ _ (by omega) (by omega), f4 _ _ _ (by omega) (by omega), f3 i (by omega), qSt_i S N (show i ≠ 60 by omega)]
              exact ⟨s1, s2, s3, fun j hj => by rw [f4 _ _ _ (by omega) (by omega)]; exact s4 j hj⟩
            refine lv_aload_n hx hb dX3_brokenRule_92 rfl (lv_at hl 0 rfl) ?_
            refine qcalliV (As := []) (rest := []) (ws := qG B R1 N1) ⟨hx, hb, hml, hown, hts⟩ (c_tooMuch l D _ B R1 N1 hO1 hM1 (qSt S N) (by rw [n5]; exact hS1) ⟨by rw [f1]; exact hlen, by rw [f4 _ _ _ (by omega) (by omega)]; exact hg.1, by rw [f4 _ _ _ (by omega) (by omega)]; exact hwt, fun j hj => by rw [f1] at hj; rw [qSt_60, n5, (f2 j hj).1, (f2 j hj).2]; exact ⟨rfl, (qfs_at hj).1, hcm _ (qfs_at hj).1⟩⟩ (fun k i hk hi => by rw [n5] at hk hi ⊢; rw [hL1 k hk]; exact hLb k i hk hi)) (cwV 0 hts gX3_brokenRule_X3_isTooMuchLoad rfl rfl rfl (by decide +kernel) ⟨by rw [hRf]; exact Nat.le_of_ble_eq_true rfl, by rw [hRl]; exact Nat.le_of_ble_eq_true rfl⟩) hK hP hD hS hA [0, 1, 2, 3] rfl (ci := 3) (q0 := 0) rfl rfl rfl hl.1 rfl (Nat.le_of_ble_eq_true rfl) dX3_brokenRule_93 ⟨by omega, by omega⟩ (fun r_61 u_62 H locs hwu_62 hP hD hS => ?_)
            have hP : va_P D vwCl (qG B R1 u_62) H := hP
            have hD : va_D A (qG B R1 u_62) := hD
            obtain ⟨g1, g2, g3⟩ := hwu_62
            rw [n5] at g1 g3
            rw [hL1 _ (Nat.le_refl _)] at g3
            have hFr : qFr N u_62 := fun c i j h1 h2 h3 => by rw [g1 _ _ _ (by omega)]; exact f4 _ _ _ (by omega) h2
            have hM2 : qM u_62 := fun c i j => by
              by_cases h9 : c = 0 ∧ j = 12
              · obtain ⟨rfl, rfl⟩ := h9; exact g2 i
              · rw [g1 _ _ _ (by omega)]; exact hM1 c i j
            refine lv_if_eq (tgt := 102) hx hb dX3_brokenRule_96 (by decide) (fun c_63 => ?_) (fun c_63 => ?_)
            · have h_b := True.intro
              have hall : ∀ i, i < N 4 1 5 → qLN (qSx (qSt S N) (N 4 1 5)) (qx (qtr N) (N 4 1 5)) (N 4 1 5 + 1) (N 4 1 5 + 1) i ≤ N 0 i 2 := fun i hi => by have := g3 c_63 i hi; rw [f4 _ _ _ (by omega) (by omega)] at this; exact this
              refine lv_aload_n hx hb dX3_brokenRule_102 rfl (lv_at hl 0 rfl) ?_
              refine va_get (D := D) (ci := 3) (v := .int (nI (u_62 4 1 7))) (C := RX3) (T := TX3) (N := 14) hx hb hts (fun _ h9 => List.mem_cons_of_mem _ (List.mem_append_left _ (List.mem_append_left _ (List.mem_append_right _ h9)))) hown hK hP 0 rfl rfl 9 (by decide) (hts (.fieldLink RX3 44 "PalletStack" "weightOnPallet" "I") (List.mem_of_getElem? (i := 9) (by rfl))) (fun _ h9 => h9) rfl dX3_brokenRule_103 ?_
              refine lv_topi (fun v_64 ev_64 => ?_)
              obtain rfl : v_64 = (nI (N 4 1 7)) := ev_64.trans (congrArg nI (hFr _ _ _ (by omega) (by omega) (by omega)))
              refine lv_aload_n hx hb dX3_brokenRule_106 rfl (lv_at hl 0 rfl) ?_
              refine va_get (D := D) (ci := 3) (v := .ref (qA B 0 60)) (C := RX3) (T := TX3) (N := 14) hx hb hts (fun _ h9 => List.mem_cons_of_mem _ (List.mem_append_left _ (List.mem_append_left _ (List.mem_append_right _ h9)))) hown hK hP 0 rfl rfl 11 (by decide) (hts (.fieldLink RX3 52 "PalletStack" "trial" "LPalletStack$Item;") (List.mem_of_getElem? (i := 1) (by rfl))) (fun _ h9 => h9) rfl dX3_brokenRule_107 ?_
              refine va_get (D := D) (ci := 0) (v := .int (nI (u_62 0 60 1))) (C := RX0) (T := TX0) (N := 18) hx hb hts (fun _ h9 => List.mem_cons_of_mem _ (List.mem_append_left _ (List.mem_append_right _ h9))) hown hK hP (5 + 60) (qG_i (by omega)) rfl 1 (by decide) (hts (.fieldLink RX3 107 "PalletStack$Item" "weight" "I") (List.mem_of_getElem? (i := 10) (by rfl))) (fun _ h9 => h9) rfl dX3_brokenRule_110 ?_
              refine lv_topi (fun v_65 ev_65 => ?_)
              obtain rfl : v_65 = (nI (N 0 60 1)) := ev_65.trans (congrArg nI (hFr _ _ _ (by omega) (by omega) (by omega)))
              refine lv_iadd hx hb dX3_brokenRule_113 ?_
              refine lv_topi (fun v_66 ev_66 => ?_)
              obtain rfl : v_66 = (nI (N 4 1 7 + N 0 60 1)) := ev_66.trans (nI_add _ _)
              refine lv_aload_n hx hb dX3_brokenRule_114 rfl (lv_at hl 0 rfl) ?_
              refine va_get (D := D) (ci := 3) (v := .int (nI (u_62 4 1 3))) (C := RX3) (T := TX3) (N := 14) hx hb hts (fun _ h9 => List.mem_cons_of_mem _ (List.mem_append_left _ (List.mem_append_left _ (List.mem_append_right _ h9)))) hown hK hP 0 rfl rfl 4 (by decide) (hts (.fieldLink RX3 25 "PalletStack" "limit" "I") (List.mem_of_getElem? (i := 11) (by rfl))) (fun _ h9 => h9) rfl dX3_brokenRule_115 ?_
              refine lv_topi (fun v_67 ev_67 => ?_)
              obtain rfl : v_67 = (nI (N 4 1 3)) := ev_67.trans (congrArg nI (hFr _ _ _ (by omega) (by omega) (by omega)))
              refine lv_icmp_le (tgt := 126) hx hb dX3_brokenRule_118 (by decide) (fun c_68 => ?_) (fun c_68 => ?_)
              · have h_b := True.intro
                have k_69 : (N 4 1 7 + N 0 60 1) ≤ (N 4 1 3) := (nI_leI (a := (N 4 1 7 + N 0 60 1)) (b := (N 4 1 3)) (by omega) (by omega)).mp c_68
                refine lv_iconst (v := 0) hx hb dX3_brokenRule_126 (by decide) ?_
                exact W.iret (v := 0) hx hb hr (fun t ht hW => ⟨⟨0, (R1, u_62), rfl, ⟨fun i hi => f3 i hi, hFr, hM2, fun _ => ⟨by omega, (fun _ => z8), by omega, hall, by omega⟩⟩, ⟨Nat.zero_le _, by rw [ht]; exact hP, va_K.moved hW.alike (hK.sub (tys' := []) [] rfl), hD⟩⟩, hS.F ht⟩) hS.2.2 dX3_brokenRule_127
              · have h_b := True.intro
                have k_70 : ¬ ((N 4 1 7 + N 0 60 1) ≤ (N 4 1 3)) := fun h9 => c_68 ((nI_leI (a := (N 4 1 7 + N 0 60 1)) (b := (N 4 1 3)) (by omega) (by omega)).mpr h9)
                refine lv_bipush (v := 7) hx hb dX3_brokenRule_121 (by decide) ?_
                refine lv_goto (tgt := 127) hx hb dX3_brokenRule_123 (by decide) ?_
                exact W.iret (v := 7) hx hb hr (fun t ht hW => ⟨⟨7, (R1, u_62), rfl, ⟨fun i hi => f3 i hi, hFr, hM2, fun h => absurd h (by decide)⟩, ⟨Nat.zero_le _, by rw [ht]; exact hP, va_K.moved hW.alike (hK.sub (tys' := []) [] rfl), hD⟩⟩, hS.F ht⟩) hS.2.2 dX3_brokenRule_127
            · have h_b := True.intro
              refine lv_bipush (v := 6) hx hb dX3_brokenRule_99 (by decide) ?_
              exact W.iret (v := 6) hx hb hr (fun t ht hW => ⟨⟨6, (R1, u_62), rfl, ⟨fun i hi => f3 i hi, hFr, hM2, fun h => absurd h (by decide)⟩, ⟨Nat.zero_le _, by rw [ht]; exact hP, va_K.moved hW.alike (hK.sub (tys' := []) [] rfl), hD⟩⟩, hS.F ht⟩) hS.2.2 dX3_brokenRule_101
          · have h_b := True.intro
            refine lv_aload_n hx hb dX3_brokenRule_69 rfl (lv_at hl 0 rfl) ?_
            refine va_get (D := D) (ci := 3) (v := .ref (qA B 0 60)) (C := RX3) (T := TX3) (N := 14) hx hb hts (fun _ h9 => List.mem_cons_of_mem _ (List.mem_append_left _ (List.mem_append_left _ (List.mem_append_right _ h9)))) hown hK hP 0 rfl rfl 11 (by decide) (hts (.fieldLink RX3 52 "PalletStack" "trial" "LPalletStack$Item;") (List.mem_of_getElem? (i := 1) (by rfl))) (fun _ h9 => h9) rfl dX3_brokenRule_70 ?_
            refine va_get (D := D) (ci := 0) (v := .int (nI (N 0 60 8))) (C := RX0) (T := TX0) (N := 18) hx hb hts (fun _ h9 => List.mem_cons_of_mem _ (List.mem_append_left _ (List.mem_append_right _ h9))) hown hK hP (5 + 60) (qG_i (by omega)) rfl 8 (by decide) (hts (.fieldLink RX3 131 "PalletStack$Item" "bottom" "I") (List.mem_of_getElem? (i := 5) (by rfl))) (fun _ h9 => h9) rfl dX3_brokenRule_73 ?_
            refine lv_if_le (tgt := 88) hx hb dX3_brokenRule_76 (by decide) (fun c_71 => ?_) (fun c_71 => ?_)
            · have h_b := True.intro
              refine lv_aload_n hx hb dX3_brokenRule_88 rfl (lv_at hl 0 rfl) ?_
              refine qcallvV (As := []) (rest := []) (ws := qG B R N) ⟨hx, hb, hml, hown, hts⟩ (c_findS l D _ B R N hO hM hlen (fun k hk => Nat.le_trans (hcm k hk) (by decide))) (cwV 0 hts gX3_brokenRule_X3_findSupports rfl rfl rfl (by decide +kernel) ⟨by rw [hRf]; exact Nat.le_of_ble_eq_true rfl, by rw [hRl]; exact Nat.le_of_ble_eq_true rfl⟩) hK hP hD hS hA [0, 1, 2, 3] rfl (ci := 3) (q0 := 0) rfl rfl rfl hl.1 rfl (Nat.le_of_ble_eq_true rfl) dX3_brokenRule_89 ⟨by omega, by omega⟩ (fun u_73 H locs hwu_73 hP hD hS => ?_)
              obtain ⟨R1, N1⟩ := u_73
              obtain ⟨f1, f2, f3, f4, f5⟩ := hwu_73
              dsimp only at f1 f2 f3 f4 f5 hP hD
              have hP : va_P D vwCl (qG B R1 N1) H := hP
              have hD : va_D A (qG B R1 N1) := hD
              have n5 : N1 4 1 5 = N 4 1 5 := f4 _ _ _ (by omega) (by omega)
              have hO1 : qOK B N1 := qOKs hO (fun j _ _ => f4 _ _ _ (by omega) (by omega)) (fun j hj => f4 _ _ _ (by omega) (by omega))
              have hL1 : ∀ k, k ≤ N 4 1 5 + 1 → qLN (qSx (qSt S N) (N 4 1 5)) (qx N1 (N 4 1 5)) (N 4 1 5 + 1) k = qLN (qSx (qSt S N) (N 4 1 5)) (qx (qtr N) (N 4 1 5)) (N 4 1 5 + 1) k := qLN_tr rfl o8 f1 (fun j hj => (f2 j hj).2) f4 _
              have hM1 : qM N1 := fun c i j => by
                by_cases h1 : c = 0 ∧ i = 60 ∧ j = 15
                · obtain ⟨rfl, rfl, rfl⟩ := h1; rw [f1]; exact Nat.le_trans hlen (by decide)
                · by_cases h2 : c = 1 ∧ i = 60
                  · obtain ⟨rfl, rfl⟩ := h2; exact f5 j
                  · rw [f4 _ _ _ h1 h2]; exact hM c i j
              have hS1 : qS9 B R1 N1 (qSt S N) (N 4 1 5) := fun i hi => by
                obtain ⟨s1, s2, s3, s4⟩ := hS9 i hi
                rw [f4 _ _ _ (by omega) (by omega), f4 _ _ _ (by omega) (by omega), f4 _ _ _ (by omega) (by omega), f3 i (by omega), qSt_i S N (show i ≠ 60 by omega)]
                exact ⟨s1, s2, s3, fun j hj => by rw [f4 _ _ _ (by omega) (by omega)]; exact s4 j hj⟩
              refine lv_aload_n hx hb dX3_brokenRule_92 rfl (lv_at hl 0 rfl) ?_
              refine qcalliV (As := []) (rest := []) (ws := qG B R1 N1) ⟨hx, hb, hml, hown, hts⟩ (c_tooMuch l D _ B R1 N1 hO1 hM1 (qSt S N) (by rw [n5]; exact hS1) ⟨by rw [f1]; exact hlen, by rw [f4 _ _ _ (by omega) (by omega)]; exact hg.1, by rw [f4 _ _ _ (by omega) (by omega)]; exact hwt, fun j hj => by rw [f1] at hj; rw [qSt_60, n5, (f2 j hj).1, (f2 j hj).2]; exact ⟨rfl, (qfs_at hj).1, hcm _ (qfs_at hj).1⟩⟩ (fun k i hk hi => by rw [n5] at hk hi ⊢; rw [hL1 k hk]; exact hLb k i hk hi)) (cwV 0 hts gX3_brokenRule_X3_isTooMuchLoad rfl rfl rfl (by decide +kernel) ⟨by rw [hRf]; exact Nat.le_of_ble_eq_true rfl, by rw [hRl]; exact Nat.le_of_ble_eq_true rfl⟩) hK hP hD hS hA [0, 1, 2, 3] rfl (ci := 3) (q0 := 0) rfl rfl rfl hl.1 rfl (Nat.le_of_ble_eq_true rfl) dX3_brokenRule_93 ⟨by omega, by omega⟩ (fun r_74 u_75 H locs hwu_75 hP hD hS => ?_)
              have hP : va_P D vwCl (qG B R1 u_75) H := hP
              have hD : va_D A (qG B R1 u_75) := hD
              obtain ⟨g1, g2, g3⟩ := hwu_75
              rw [n5] at g1 g3
              rw [hL1 _ (Nat.le_refl _)] at g3
              have hFr : qFr N u_75 := fun c i j h1 h2 h3 => by rw [g1 _ _ _ (by omega)]; exact f4 _ _ _ (by omega) h2
              have hM2 : qM u_75 := fun c i j => by
                by_cases h9 : c = 0 ∧ j = 12
                · obtain ⟨rfl, rfl⟩ := h9; exact g2 i
                · rw [g1 _ _ _ (by omega)]; exact hM1 c i j
              refine lv_if_eq (tgt := 102) hx hb dX3_brokenRule_96 (by decide) (fun c_76 => ?_) (fun c_76 => ?_)
              · have h_b := True.intro
                have hall : ∀ i, i < N 4 1 5 → qLN (qSx (qSt S N) (N 4 1 5)) (qx (qtr N) (N 4 1 5)) (N 4 1 5 + 1) (N 4 1 5 + 1) i ≤ N 0 i 2 := fun i hi => by have := g3 c_76 i hi; rw [f4 _ _ _ (by omega) (by omega)] at this; exact this
                refine lv_aload_n hx hb dX3_brokenRule_102 rfl (lv_at hl 0 rfl) ?_
                refine va_get (D := D) (ci := 3) (v := .int (nI (u_75 4 1 7))) (C := RX3) (T := TX3) (N := 14) hx hb hts (fun _ h9 => List.mem_cons_of_mem _ (List.mem_append_left _ (List.mem_append_left _ (List.mem_append_right _ h9)))) hown hK hP 0 rfl rfl 9 (by decide) (hts (.fieldLink RX3 44 "PalletStack" "weightOnPallet" "I") (List.mem_of_getElem? (i := 9) (by rfl))) (fun _ h9 => h9) rfl dX3_brokenRule_103 ?_
                refine lv_topi (fun v_77 ev_77 => ?_)
                obtain rfl : v_77 = (nI (N 4 1 7)) := ev_77.trans (congrArg nI (hFr _ _ _ (by omega) (by omega) (by omega)))
                refine lv_aload_n hx hb dX3_brokenRule_106 rfl (lv_at hl 0 rfl) ?_
                refine va_get (D := D) (ci := 3) (v := .ref (qA B 0 60)) (C := RX3) (T := TX3) (N := 14) hx hb hts (fun _ h9 => List.mem_cons_of_mem _ (List.mem_append_left _ (List.mem_append_left _ (List.mem_append_right _ h9)))) hown hK hP 0 rfl rfl 11 (by decide) (hts (.fieldLink RX3 52 "PalletStack" "trial" "LPalletStack$Item;") (List.mem_of_getElem? (i := 1) (by rfl))) (fun _ h9 => h9) rfl dX3_brokenRule_107 ?_
                refine va_get (D := D) (ci := 0) (v := .int (nI (u_75 0 60 1))) (C := RX0) (T := TX0) (N := 18) hx hb hts (fun _ h9 => List.mem_cons_of_mem _ (List.mem_append_left _ (List.mem_append_right _ h9))) hown hK hP (5 + 60) (qG_i (by omega)) rfl 1 (by decide) (hts (.fieldLink RX3 107 "PalletStack$Item" "weight" "I") (List.mem_of_getElem? (i := 10) (by rfl))) (fun _ h9 => h9) rfl dX3_brokenRule_110 ?_
                refine lv_topi (fun v_78 ev_78 => ?_)
                obtain rfl : v_78 = (nI (N 0 60 1)) := ev_78.trans (congrArg nI (hFr _ _ _ (by omega) (by omega) (by omega)))
                refine lv_iadd hx hb dX3_brokenRule_113 ?_
                refine lv_topi (fun v_79 ev_79 => ?_)
                obtain rfl : v_79 = (nI (N 4 1 7 + N 0 60 1)) := ev_79.trans (nI_add _ _)
                refine lv_aload_n hx hb dX3_brokenRule_114 rfl (lv_at hl 0 rfl) ?_
                refine va_get (D := D) (ci := 3) (v := .int (nI (u_75 4 1 3))) (C := RX3) (T := TX3) (N := 14) hx hb hts (fun _ h9 => List.mem_cons_of_mem _ (List.mem_append_left _ (List.mem_append_left _ (List.mem_append_right _ h9)))) hown hK hP 0 rfl rfl 4 (by decide) (hts (.fieldLink RX3 25 "PalletStack" "limit" "I") (List.mem_of_getElem? (i := 11) (by rfl))) (fun _ h9 => h9) rfl dX3_brokenRule_115 ?_
                refine lv_topi (fun v_80 ev_80 => ?_)
                obtain rfl : v_80 = (nI (N 4 1 3)) := ev_80.trans (congrArg nI (hFr _ _ _ (by omega) (by omega) (by omega)))
                refine lv_icmp_le (tgt := 126) hx hb dX3_brokenRule_118 (by decide) (fun c_81 => ?_) (fun c_81 => ?_)
                · have h_b := True.intro
                  have k_82 : (N 4 1 7 + N 0 60 1) ≤ (N 4 1 3) := (nI_leI (a := (N 4 1 7 + N 0 60 1)) (b := (N 4 1 3)) (by omega) (by omega)).mp c_81
                  refine lv_iconst (v := 0) hx hb dX3_brokenRule_126 (by decide) ?_
                  exact W.iret (v := 0) hx hb hr (fun t ht hW => ⟨⟨0, (R1, u_75), rfl, ⟨fun i hi => f3 i hi, hFr, hM2, fun _ => ⟨by omega, (fun _ => z8), by omega, hall, by omega⟩⟩, ⟨Nat.zero_le _, by rw [ht]; exact hP, va_K.moved hW.alike (hK.sub (tys' := []) [] rfl), hD⟩⟩, hS.F ht⟩) hS.2.2 dX3_brokenRule_127
                · have h_b := True.intro
                  have k_83 : ¬ ((N 4 1 7 + N 0 60 1) ≤ (N 4 1 3)) := fun h9 => c_81 ((nI_leI (a := (N 4 1 7 + N 0 60 1)) (b := (N 4 1 3)) (by omega) (by omega)).mpr h9)
                  refine lv_bipush (v := 7) hx hb dX3_brokenRule_121 (by decide) ?_
                  refine lv_goto (tgt := 127) hx hb dX3_brokenRule_123 (by decide) ?_
                  exact W.iret (v := 7) hx hb hr (fun t ht hW => ⟨⟨7, (R1, u_75), rfl, ⟨fun i hi => f3 i hi, hFr, hM2, fun h => absurd h (by decide)⟩, ⟨Nat.zero_le _, by rw [ht]; exact hP, va_K.moved hW.alike (hK.sub (tys' := []) [] rfl), hD⟩⟩, hS.F ht⟩) hS.2.2 dX3_brokenRule_127
              · have h_b := True.intro
                refine lv_bipush (v := 6) hx hb dX3_brokenRule_99 (by decide) ?_
                exact W.iret (v := 6) hx hb hr (fun t ht hW => ⟨⟨6, (R1, u_75), rfl, ⟨fun i hi => f3 i hi, hFr, hM2, fun h => absurd h (by decide)⟩, ⟨Nat.zero_le _, by rw [ht]; exact hP, va_K.moved hW.alike (hK.sub (tys' := []) [] rfl), hD⟩⟩, hS.F ht⟩) hS.2.2 dX3_brokenRule_101
            · have h_b := True.intro
              refine lv_aload_n hx hb dX3_brokenRule_79 rfl (lv_at hl 0 rfl) ?_
              refine zrdV2 (As := []) (rest := []) (wc := qG B R N) ⟨hx, hb, hml, hown, hts⟩ (c_corners l D _ B R N hw.1 hw.2.2.1 hxy.1 hxy.2) (cwV 0 hts gX3_brokenRule_X3_hasGroundAtCorners rfl rfl rfl (by decide +kernel) ⟨by rw [hRf]; exact Nat.le_of_ble_eq_true rfl, by rw [hRl]; exact Nat.le_of_ble_eq_true rfl⟩) hK hP hD [0, 1, 2, 3] rfl (ci := 3) (q0 := 0) rfl rfl rfl hl.1 rfl (Nat.le_of_ble_eq_true rfl) dX3_brokenRule_80 ⟨by omega, by omega⟩ (fun r_84 hr_84 => ?_)
              refine lv_if_ne (tgt := 88) hx hb dX3_brokenRule_83 (by decide) (fun c_85 => ?_) (fun c_85 => ?_)
              · have h_b := True.intro
                refine lv_aload_n hx hb dX3_brokenRule_88 rfl (lv_at hl 0 rfl) ?_
                refine qcallvV (As := []) (rest := []) (ws := qG B R N) ⟨hx, hb, hml, hown, hts⟩ (c_findS l D _ B R N hO hM hlen (fun k hk => Nat.le_trans (hcm k hk) (by decide))) (cwV 0 hts gX3_brokenRule_X3_findSupports rfl rfl rfl (by decide +kernel) ⟨by rw [hRf]; exact Nat.le_of_ble_eq_true rfl, by rw [hRl]; exact Nat.le_of_ble_eq_true rfl⟩) hK hP hD hS hA [0, 1, 2, 3] rfl (ci := 3) (q0 := 0) rfl rfl rfl hl.1 rfl (Nat.le_of_ble_eq_true rfl) dX3_brokenRule_89 ⟨by omega, by omega⟩ (fun u_87 H locs hwu_87 hP hD hS => ?_)
                obtain ⟨R1, N1⟩ := u_87
                obtain ⟨f1, f2, f3, f4, f5⟩ := hwu_87
                dsimp only at f1 f2 f3 f4 f5 hP hD
                have hP : va_P D vwCl (qG B R1 N1) H := hP
                have hD : va_D A (qG B R1 N1) := hD
                have n5 : N1 4 1 5 = N 4 1 5 := f4 _ _ _ (by omega) (by omega)
                have hO1 : qOK B N1 := qOKs hO (fun j _ _ => f4 _ _ _ (by omega) (by omega)) (fun j hj => f4 _ _ _ (by omega) (by omega))
                have hL1 : ∀ k, k ≤ N 4 1 5 + 1 → qLN (qSx (qSt S N) (N 4 1 5)) (qx N1 (N 4 1 5)) (N 4 1 5 + 1) k = qLN (qSx (qSt S N) (N 4 1 5)) (qx (qtr N) (N 4 1 5)) (N 4 1 5 + 1) k := qLN_tr rfl o8 f1 (fun j hj => (f2 j hj).2) f4 _
                have hM1 : qM N1 := fun c i j => by
                  by_cases h1 : c = 0 ∧ i = 60 ∧ j = 15
                  · obtain ⟨rfl, rfl, rfl⟩ := h1; rw [f1]; exact Nat.le_trans hlen (by decide)
                  · by_cases h2 : c = 1 ∧ i = 60
                    · obtain ⟨rfl, rfl⟩ := h2; exact f5 j
                    · rw [f4 _ _ _ h1 h2]; exact hM c i j
                have hS1 : qS9 B R1 N1 (qSt S N) (N 4 1 5) := fun i hi => by
                  obtain ⟨s1, s2, s3, s4⟩ := hS9 i hi
                  rw [f4 _ _ _ (by omega) (by omega), f4 _ _ _ (by omega) (by omega), f4 _ _ _ (by omega) (by omega), f3 i (by omega), qSt_i S N (show i ≠ 60 by omega)]
                  exact ⟨s1, s2, s3, fun j hj => by rw [f4 _ _ _ (by omega) (by omega)]; exact s4 j hj⟩
                refine lv_aload_n hx hb dX3_brokenRule_92 rfl (lv_at hl 0 rfl) ?_
                refine qcalliV (As := []) (rest := []) (ws := qG B R1 N1) ⟨hx, hb, hml, hown, hts⟩ (c_tooMuch l D _ B R1 N1 hO1 hM1 (qSt S N) (by rw [n5]; exact hS1) ⟨by rw [f1]; exact hlen, by rw [f4 _ _ _ (by omega) (by omega)]; exact hg.1, by rw [f4 _ _ _ (by omega) (by omega)]; exact hwt, fun j hj => by rw [f1] at hj; rw [qSt_60, n5, (f2 j hj).1, (f2 j hj).2]; exact ⟨rfl, (qfs_at hj).1, hcm _ (qfs_at hj).1⟩⟩ (fun k i hk hi => by rw [n5] at hk hi ⊢; rw [hL1 k hk]; exact hLb k i hk hi)) (cwV 0 hts gX3_brokenRule_X3_isTooMuchLoad rfl rfl rfl (by decide +kernel) ⟨by rw [hRf]; exact Nat.le_of_ble_eq_true rfl, by rw [hRl]; exact Nat.le_of_ble_eq_true rfl⟩) hK hP hD hS hA [0, 1, 2, 3] rfl (ci := 3) (q0 := 0) rfl rfl rfl hl.1 rfl (Nat.le_of_ble_eq_true rfl) dX3_brokenRule_93 ⟨by omega, by omega⟩ (fun r_88 u_89 H locs hwu_89 hP hD hS => ?_)
                have hP : va_P D vwCl (qG B R1 u_89) H := hP
                have hD : va_D A (qG B R1 u_89) := hD
                obtain ⟨g1, g2, g3⟩ := hwu_89
                rw [n5] at g1 g3
                rw [hL1 _ (Nat.le_refl _)] at g3
                have hFr : qFr N u_89 := fun c i j h1 h2 h3 => by rw [g1 _ _ _ (by omega)]; exact f4 _ _ _ (by omega) h2
                have hM2 : qM u_89 := fun c i j => by
                  by_cases h9 : c = 0 ∧ j = 12
                  · obtain ⟨rfl, rfl⟩ := h9; exact g2 i
                  · rw [g1 _ _ _ (by omega)]; exact hM1 c i j
                refine lv_if_eq (tgt := 102) hx hb dX3_brokenRule_96 (by decide) (fun c_90 => ?_) (fun c_90 => ?_)
                · have h_b := True.intro
                  have hall : ∀ i, i < N 4 1 5 → qLN (qSx (qSt S N) (N 4 1 5)) (qx (qtr N) (N 4 1 5)) (N 4 1 5 + 1) (N 4 1 5 + 1) i ≤ N 0 i 2 := fun i hi => by have := g3 c_90 i hi; rw [f4 _ _ _ (by omega) (by omega)] at this; exact this
                  refine lv_aload_n hx hb dX3_brokenRule_102 rfl (lv_at hl 0 rfl) ?_
                  refine va_get (D := D) (ci := 3) (v := .int (nI (u_89 4 1 7))) (C := RX3) (T := TX3) (N := 14) hx hb hts (fun _ h9 => List.mem_cons_of_mem _ (List.mem_append_left _ (List.mem_append_left _ (List.mem_append_right _ h9)))) hown hK hP 0 rfl rfl 9 (by decide) (hts (.fieldLink RX3 44 "PalletStack" "weightOnPallet" "I") (List.mem_of_getElem? (i := 9) (by rfl))) (fun _ h9 => h9) rfl dX3_brokenRule_103 ?_
                  refine lv_topi (fun v_91 ev_91 => ?_)
                  obtain rfl : v_91 = (nI (N 4 1 7)) := ev_91.trans (congrArg nI (hFr _ _ _ (by omega) (by omega) (by omega)))
                  refine lv_aload_n hx hb dX3_brokenRule_106 rfl (lv_at hl 0 rfl) ?_
                  refine va_get (D := D) (ci := 3) (v := .ref (qA B 0 60)) (C := RX3) (T := TX3) (N := 14) hx hb hts (fun _ h9 => List.mem_cons_of_mem _ (List.mem_append_left _ (List.mem_append_left _ (List.mem_append_right _ h9)))) hown hK hP 0 rfl rfl 11 (by decide) (hts (.fieldLink RX3 52 "PalletStack" "trial" "LPalletStack$Item;") (List.mem_of_getElem? (i := 1) (by rfl))) (fun _ h9 => h9) rfl dX3_brokenRule_107 ?_
                  refine va_get (D := D) (ci := 0) (v := .int (nI (u_89 0 60 1))) (C := RX0) (T := TX0) (N := 18) hx hb hts (fun _ h9 => List.mem_cons_of_mem _ (List.mem_append_left _ (List.mem_append_right _ h9))) hown hK hP (5 + 60) (qG_i (by omega)) rfl 1 (by decide) (hts (.fieldLink RX3 107 "PalletStack$Item" "weight" "I") (List.mem_of_getElem? (i := 10) (by rfl))) (fun _ h9 => h9) rfl dX3_brokenRule_110 ?_
                  refine lv_topi (fun v_92 ev_92 => ?_)
                  obtain rfl : v_92 = (nI (N 0 60 1)) := ev_92.trans (congrArg nI (hFr _ _ _ (by omega) (by omega) (by omega)))
                  refine lv_iadd hx hb dX3_brokenRule_113 ?_
                  refine lv_topi (fun v_93 ev_93 => ?_)
                  obtain rfl : v_93 = (nI (N 4 1 7 + N 0 60 1)) := ev_93.trans (nI_add _ _)
                  refine lv_aload_n hx hb dX3_brokenRule_114 rfl (lv_at hl 0 rfl) ?_
                  refine va_get (D := D) (ci := 3) (v := .int (nI (u_89 4 1 3))) (C := RX3) (T := TX3) (N := 14) hx hb hts (fun _ h9 => List.mem_cons_of_mem _ (List.mem_append_left _ (List.mem_append_left _ (List.mem_append_right _ h9)))) hown hK hP 0 rfl rfl 4 (by decide) (hts (.fieldLink RX3 25 "PalletStack" "limit" "I") (List.mem_of_getElem? (i := 11) (by rfl))) (fun _ h9 => h9) rfl dX3_brokenRule_115 ?_
                  refine lv_topi (fun v_94 ev_94 => ?_)
                  obtain rfl : v_94 = (nI (N 4 1 3)) := ev_94.trans (congrArg nI (hFr _ _ _ (by omega) (by omega) (by omega)))
                  refine lv_icmp_le (tgt := 126) hx hb dX3_brokenRule_118 (by decide) (fun c_95 => ?_) (fun c_95 => ?_)
                  · have h_b := True.intro
                    have k_96 : (N 4 1 7 + N 0 60 1) ≤ (N 4 1 3) := (nI_leI (a := (N 4 1 7 + N 0 60 1)) (b := (N 4 1 3)) (by omega) (by omega)).mp c_95
                    refine lv_iconst (v := 0) hx hb dX3_brokenRule_126 (by decide) ?_
                    exact W.iret (v := 0) hx hb hr (fun t ht hW => ⟨⟨0, (R1, u_89), rfl, ⟨fun i hi => f3 i hi, hFr, hM2, fun _ => ⟨by omega, (fun _ => z8), by omega, hall, by omega⟩⟩, ⟨Nat.zero_le _, by rw [ht]; exact hP, va_K.moved hW.alike (hK.sub (tys' := []) [] rfl), hD⟩⟩, hS.F ht⟩) hS.2.2 dX3_brokenRule_127
                  · have h_b := True.intro
                    have k_97 : ¬ ((N 4 1 7 + N 0 60 1) ≤ (N 4 1 3)) := fun h9 => c_95 ((nI_leI (a := (N 4 1 7 + N 0 60 1)) (b := (N 4 1 3)) (by omega) (by omega)).mpr h9)
                    refine lv_bipush (v := 7) hx hb dX3_brokenRule_121 (by decide) ?_
                    refine lv_goto (tgt := 127) hx hb dX3_brokenRule_123 (by decide) ?_
                    exact W.iret (v := 7) hx hb hr (fun t ht hW => ⟨⟨7, (R1, u_89), rfl, ⟨fun i hi => f3 i hi, hFr, hM2, fun h => absurd h (by decide)⟩, ⟨Nat.zero_le _, by rw [ht]; exact hP, va_K.moved hW.alike (hK.sub (tys' := []) [] rfl), hD⟩⟩, hS.F ht⟩) hS.2.2 dX3_brokenRule_127
                · have h_b := True.intro
                  refine lv_bipush (v := 6) hx hb dX3_brokenRule_99 (by decide) ?_
                  exact W.iret (v := 6) hx hb hr (fun t ht hW => ⟨⟨6, (R1, u_89), rfl, ⟨fun i hi => f3 i hi, hFr, hM2, fun h => absurd h (by decide)⟩, ⟨Nat.zero_le _, by rw [ht]; exact hP, va_K.moved hW.alike (hK.sub (tys' := []) [] rfl), hD⟩⟩, hS.F ht⟩) hS.2.2 dX3_brokenRule_101
              · have h_b := True.intro
                refine lv_iconst (v := 5) hx hb dX3_brokenRule_86 (by decide) ?_
                exact W.iret (v := 5) hx hb hr (fun t ht hW => ⟨⟨5, (R, N), rfl, ⟨fun _ _ => rfl, hFr0, hM, fun h => absurd h (by decide)⟩, ⟨Nat.zero_le _, by rw [ht]; exact hP, va_K.moved hW.alike (hK.sub (tys' := []) [] rfl), hD⟩⟩, hS.F ht⟩) hS.2.2 dX3_brokenRule_87
        · have h_b := True.intro
          have k_98 : ¬ ((N 0 60 4 * N 0 60 5 * N 4 1 2) ≤ (N 0 60 10 * 100)) := fun h9 => c_56 ((nI_leI (a := (N 0 60 4 * N 0 60 5 * N 4 1 2)) (b := (N 0 60 10 * 100)) (by omega) (by omega)).mpr h9)
          refine lv_iconst (v := 4) hx hb dX3_brokenRule_60 (by decide) ?_
          exact W.iret (v := 4) hx hb hr (fun t ht hW => ⟨⟨4, (R, N), rfl, ⟨fun _ _ => rfl, hFr0, hM, fun h => absurd h (by decide)⟩, ⟨Nat.zero_le _, by rw [ht]; exact hP, va_K.moved hW.alike (hK.sub (tys' := []) [] rfl), hD⟩⟩, hS.F ht⟩) hS.2.2 dX3_brokenRule_61
      · have h_b := True.intro
        refine lv_iconst (v := 3) hx hb dX3_brokenRule_33 (by decide) ?_
        exact W.iret (v := 3) hx hb hr (fun t ht hW => ⟨⟨3, (R, N), rfl, ⟨fun _ _ => rfl, hFr0, hM, fun h => absurd h (by decide)⟩, ⟨Nat.zero_le _, by rw [ht]; exact hP, va_K.moved hW.alike (hK.sub (tys' := []) [] rfl), hD⟩⟩, hS.F ht⟩) hS.2.2 dX3_brokenRule_34
  · have h_b := True.intro
    have k_99 : ¬ ((N 0 60 9) ≤ (N 4 1 1)) := fun h9 => c_1 ((nI_leI (a := (N 0 60 9)) (b := (N 4 1 1)) (by omega) (by omega)).mpr h9)
    refine lv_iconst (v := 2) hx hb dX3_brokenRule_14 (by decide) ?_
    exact W.iret (v := 2) hx hb hr (fun t ht hW => ⟨⟨2, (R, N), rfl, ⟨fun _ _ => rfl, hFr0, hM, fun h => absurd h (by decide)⟩, ⟨Nat.zero_le _, by rw [ht]; exact hP, va_K.moved hW.alike (hK.sub (tys' := []) [] rfl), hD⟩⟩, hS.F ht⟩) hS.2.2 dX3_brokenRule_15
