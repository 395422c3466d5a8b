set_option maxHeartbeats 4000000 in
set_option maxRecDepth 100000 in
theorem c_best (l : Launch) (D : zG) (sz : Nat) (B : qB) (R : qR0) (N : qN0) (hO : qOK B N) (hM : qM N) (S : Nat → Nat → Nat) (hG : qGeo N) (hSu : qSup B R N S) (hKi : qKin B N) (hRu : qRul N) (k : Nat) (hk : k < qk B) : Met l yX3_bestPlace wsX3_bestPlace ({ frames := 4, cells := 0, slots := 0, locals := 130 }) (zPc D (qT B) (qG B R N) sz [.ref (qA B 5 0), .ref (qA B 3 k)]) (va_Qi (fun (r : Int32) (u : qR0 × qN0) => (r = -1 ∨ ∃ p, r = nI p ∧ qPl N S k p) ∧ (∀ i, i ≠ 60 → u.1 i = R i) ∧ qFR N u.2 ∧ qM u.2) (zB D (va_A (qG B R N) sz) (fun _ => []) 0 (fun u => qG B u.1 u.2)) (va_A (qG B R N) sz)) 0 0 (va_A (qG B R N) sz) := by
  refine Met.ofW (cc := cX3_bestPlace) (maxL := 7) (ret := (some .int)) (by decide) rfl ?_
  intro p e s m args below meth c s₁ B9 hml hv
  obtain ⟨rfl, hsz, hP, hK, hD0⟩ := hv
  have hx0 := B9.exec
  have hb := B9.bytes
  have hr := B9.returns
  have hts := atoms_spec (ws := wsX3_bestPlace) B9.pre
  have hown : s.vm.findClass RX3 = some m.cls := findClass_of_methodNamed B9.named
  have hlocks := B9.notSynchronized
  subst hsz
  have hD := hD0.self (sz := s.heap.size)
  generalize hAe : va_A (qG B R N) s.heap.size = A at hD ⊢
  have hA : ∀ q : Nat, s.heap.size ≤ q → A q := fun q h => by rw [← hAe]; exact Or.inr h
  have hS : va_S A s.heap s.heap [] := va_S.rf
  have hl := lv_entry ([.ref (qA B 5 0), .ref (qA B 3 k)]) (n := 7) (Nat.le_of_ble_eq_true rfl)
  rw [lg_entry_eq]
  generalize (lg_sl ([.ref (qA B 5 0), .ref (qA B 3 k)]) ++ List.replicate (7 - (lg_sl ([.ref (qA B 5 0), .ref (qA B 3 k)])).length) Slot.unset).toArray = ls at hl ⊢
  have hl : lv_has ls 7 [(0, .ref (qA B 5 0)), (1, .ref (qA B 3 k))] := hl
  have hP : va_P D vwCl (qG B R N) s.heap := hP
  generalize hRe : (headSpec _ _).room = R9
  have hRf : R9.frames = 4 := by rw [← hRe]; rfl
  have hRc : R9.cells = 0 := by rw [← hRe]; rfl
  have hRs : R9.slots = 0 := by rw [← hRe]; rfl
  have hRl : R9.locals = 130 := by rw [← hRe]; rfl
  clear hRe
  have o8 := hO.2.2.2.2.2.2.2.1
  refine lv_iconst (v := (-1)) hx0 hb dX3_bestPlace_0 (by decide) ?_
  refine lv_istore_n (lv' := [(2, .int (-1)), (0, .ref (qA B 5 0)), (1, .ref (qA B 3 k))]) hx0 hb dX3_bestPlace_1 rfl hl (by decide) rfl (fun ls hl => ?_)
  refine lv_iconst (v := 0) hx0 hb dX3_bestPlace_2 (by decide) ?_
  refine lv_istore_n (lv' := [(3, .int 0), (2, .int (-1)), (0, .ref (qA B 5 0)), (1, .ref (qA B 3 k))]) hx0 hb dX3_bestPlace_3 rfl hl (by decide) rfl (fun ls hl => ?_)
  refine lv_iconst (v := 0) hx0 hb dX3_bestPlace_4 (by decide) ?_
  refine lv_istore (lv' := [(4, .int 0), (3, .int 0), (2, .int (-1)), (0, .ref (qA B 5 0)), (1, .ref (qA B 3 k))]) hx0 hb dX3_bestPlace_5 hl (by decide) rfl (fun ls hl => ?_)
  refine lv_iconst (v := 0) hx0 hb dX3_bestPlace_7 (by decide) ?_
  refine lv_istore (lv' := [(5, .int 0), (4, .int 0), (3, .int 0), (2, .int (-1)), (0, .ref (qA B 5 0)), (1, .ref (qA B 3 k))]) hx0 hb dX3_bestPlace_8 hl (by decide) rfl (fun ls hl => ?_)
  generalize hQe : MQ _ _ _ _ _ _ _ = Q
  have hl := lv_sub hl (l' := [(5, .int 0), (4, .int 0), (3, .int 0), (2, .int (-1)), (1, .ref (qA B 3 k)), (0, .ref (qA B 5 0))]) [0, 1, 2, 3, 5, 4] rfl
  have loop : ∀ (r9 c1 : Nat), c1 + r9 = 240 → ∀ (pl : Int32) (lb mg : Nat) (hb1 : lb ≤ 1000000) (hb2 : mg ≤ 1000000) (hpl : pl = -1 ∨ ∃ p, pl = nI p ∧ qPl N S k p) (R1 : qR0) (N1 : qN0) (hR1 : ∀ i, i ≠ 60 → R1 i = R i) (hF1 : qFR N N1) (hM1 : qM N1) (H : Heap) (locs : List Loc) (ls : Array Slot), va_P D vwCl (qG B R1 N1) H → va_D A (qG B R1 N1) → va_S A s.heap H locs → lv_has ls 7 [(5, .int (nI c1)), (4, .int (nI mg)), (3, .int (nI lb)), (2, .int pl), (1, .ref (qA B 3 k)), (0, .ref (qA B 5 0))] → W p l e R9 s m ([.ref (qA B 5 0), .ref (qA B 3 k)] : List Value).toArray below meth c H locs 0 0 Q (F0 m 10 ls []) := by
    intro r9
    induction r9 with
    | zero =>
      intro c1 hc pl lb mg hb1 hb2 hpl R1 N1 hR1 hF1 hM1 H locs ls hP hD hS hl
      obtain rfl : c1 = 240 := by omega
      have hP : va_P D vwCl (qG B R1 N1) H := hP
      have hD : va_D A (qG B R1 N1) := hD
      refine lv_iload hx0 hb dX3_bestPlace_10 (lv_at hl 0 rfl) ?_
      refine lv_sipush (v := 240) hx0 hb dX3_bestPlace_12 (by decide) ?_
      refine lv_icmp_ge (tgt := 154) hx0 hb dX3_bestPlace_15 (by decide) (fun c_1 => ?_) (fun c_1 => absurd (by decide) c_1)
      refine lv_iload_n hx0 hb dX3_bestPlace_154 rfl (lv_at hl 3 rfl) ?_
      rw [← hQe]
      exact W.iret (v := pl) hx0 hb hr (fun t ht hW => ⟨⟨pl, (R1, N1), rfl, ⟨hpl, hR1, hF1, hM1⟩, ⟨Nat.zero_le _, by rw [ht]; exact hP, va_K.moved hW.alike (hK.sub (tys' := []) [] rfl), hD⟩⟩, hS.F ht⟩) hS.2.2 dX3_bestPlace_155
    | succ r9 ih =>
      intro c1 hc pl lb mg hb1 hb2 hpl R1 N1 hR1 hF1 hM1 H locs ls hP hD hS hl
      have hc2 : c1 < 240 := by omega
      obtain ⟨x, hx⟩ : ∃ x, x = c1 / 2 % 12 := ⟨_, rfl⟩
      obtain ⟨y, hy⟩ : ∃ y, y = c1 / 2 / 12 := ⟨_, rfl⟩
      obtain ⟨t, ht⟩ : ∃ t, t = c1 % 2 := ⟨_, rfl⟩
      have hx1 : x < 12 := by rw [hx]; exact Nat.mod_lt _ (by decide)
      have hy1 : y < 10 := by omega
      have ht1 : t < 2 := by omega
      have o8a : N1 4 1 5 ≤ 60 := by rw [hF1 4 1 5 (by omega) (by omega) (by omega)]; exact o8
      have hO1 := qOK_fr hF1 hO
      have hG1 := qGeo_fr hF1 o8 hG
      have hSu1 := qSup_fr hF1 hR1 o8 hSu
      have hKi1 := qKin_fr hF1 hKi
      have hRu1 := qRul_fr hF1 hRu
      obtain ⟨kk0, kk1, kk2, kk3, kk4, kk5, kk6, kk7⟩ := hKi1 k hk
      have hwd := qwd_bd hKi1 hk t
      have hP : va_P D vwCl (qG B R1 N1) H := hP
      have hD : va_D A (qG B R1 N1) := hD
      refine lv_iload hx0 hb dX3_bestPlace_10 (lv_at hl 0 rfl) ?_
      refine lv_sipush (v := 240) hx0 hb dX3_bestPlace_12 (by decide) ?_
      refine lv_icmp_ge (tgt := 154) hx0 hb dX3_bestPlace_15 (by decide) (fun c_2 => absurd c_2 (nI_ge (b := 240) (by omega) (by decide))) (fun c_2 => ?_)
      refine lv_aload_n hx0 hb dX3_bestPlace_18 rfl (lv_at hl 4 rfl) ?_
      refine lv_iload hx0 hb dX3_bestPlace_19 (lv_at hl 0 rfl) ?_
      refine zrdS (As := [.int (nI c1)]) (rest := [.ref (qA B 3 k)]) (wc := []) ⟨hx0, hb, hml, hown, hts⟩ (c_xOf l D _ c1 hc2) (va_cwS 1 hts gX3_bestPlace_X3_xOf rfl rfl rfl (by decide +kernel) ⟨by rw [hRf]; exact Nat.le_of_ble_eq_true rfl, by rw [hRl]; exact Nat.le_of_ble_eq_true rfl⟩) hK hP hD [] rfl (by decide) [] rfl rfl hl.1 rfl (Nat.le_of_ble_eq_true rfl) dX3_bestPlace_21 ⟨by omega, by omega⟩ (fun r_3 hr_3 => ?_)
      refine lv_topi (fun v_4 ev_4 => ?_)
      obtain rfl : v_4 = (nI x) := ev_4.trans (hr_3.trans (by rw [hx]))
      refine lv_iload hx0 hb dX3_bestPlace_24 (lv_at hl 0 rfl) ?_
      refine zrdS (As := [.int (nI c1)]) (rest := [.int (nI x), .ref (qA B 3 k)]) (wc := []) ⟨hx0, hb, hml, hown, hts⟩ (c_yOf l D _ c1 hc2) (va_cwS 1 hts gX3_bestPlace_X3_yOf rfl rfl rfl (by decide +kernel) ⟨by rw [hRf]; exact Nat.le_of_ble_eq_true rfl, by rw [hRl]; exact Nat.le_of_ble_eq_true rfl⟩) hK hP hD [] rfl (by decide) [] rfl rfl hl.1 rfl (Nat.le_of_ble_eq_true rfl) dX3_bestPlace_26 ⟨by omega, by omega⟩ (fun r_5 hr_5 => ?_)
      refine lv_topi (fun v_6 ev_6 => ?_)
      obtain rfl : v_6 = (nI y) := ev_6.trans (hr_5.trans (by rw [hy]))
      refine lv_iload hx0 hb dX3_bestPlace_29 (lv_at hl 0 rfl) ?_
      refine zrdS (As := [.int (nI c1)]) (rest := [.int (nI y), .int (nI x), .ref (qA B 3 k)]) (wc := []) ⟨hx0, hb, hml, hown, hts⟩ (c_isTurnedIn l D _ c1 hc2) (va_cwS 1 hts gX3_bestPlace_X3_isTurnedIn rfl rfl rfl (by decide +kernel) ⟨by rw [hRf]; exact Nat.le_of_ble_eq_true rfl, by rw [hRl]; exact Nat.le_of_ble_eq_true rfl⟩) hK hP hD [] rfl (by decide) [] rfl rfl hl.1 rfl (Nat.le_of_ble_eq_true rfl) dX3_bestPlace_31 ⟨by omega, by omega⟩ (fun r_7 hr_7 => ?_)
      refine lv_topi (fun v_8 ev_8 => ?_)
      obtain rfl : v_8 = (nI t) := ev_8.trans (hr_7.trans (by rw [ht]))
      refine zrdS2 (As := [.ref (qA B 3 k), .int (nI x), .int (nI y), .int (nI t)]) (rest := []) (wc := qG B R1 N1) ⟨hx0, hb, hml, hown, hts⟩ (c_isInField l D _ B R1 N1 k x y t hk ht1 hx1 hy1 ⟨kk1.2, kk2.2, kk6⟩) (va_cwS 4 hts gX3_bestPlace_X3_isInField rfl rfl rfl (by decide +kernel) ⟨by rw [hRf]; exact Nat.le_of_ble_eq_true rfl, by rw [hRl]; exact Nat.le_of_ble_eq_true rfl⟩) hK hP hD [0, 1, 2, 3] rfl rfl hl.1 rfl (Nat.le_of_ble_eq_true rfl) dX3_bestPlace_34 ⟨by omega, by omega⟩ (fun r_9 hr_9 => ?_)
      rcases hr_9 with h0 | ⟨h1, ft, fx, fy⟩
      · have h_b := True.intro
        subst h0
        refine lv_if_ne (tgt := 43) hx0 hb dX3_bestPlace_37 (by decide) (fun c_10 => absurd (rfl) c_10) (fun c_10 => ?_)
        refine lv_goto (tgt := 148) hx0 hb dX3_bestPlace_40 (by decide) ?_
        refine lv_iinc (v := (nI (c1 + 1))) (lv' := [(5, .int (nI (c1 + 1))), (4, .int (nI mg)), (3, .int (nI lb)), (2, .int pl), (1, .ref (qA B 3 k)), (0, .ref (qA B 5 0))]) hx0 hb dX3_bestPlace_148 hl (k := 0) rfl (nI_1 c1) (by decide) rfl (fun ls hl => ?_)
        refine lv_goto (tgt := 10) hx0 hb dX3_bestPlace_151 (by decide) ?_
        have hl := lv_sub hl (l' := [(5, .int (nI (c1 + 1))), (4, .int (nI mg)), (3, .int (nI lb)), (2, .int pl), (1, .ref (qA B 3 k)), (0, .ref (qA B 5 0))]) [0, 1, 2, 3, 4, 5] rfl
        exact ih (c1 + 1) (by omega) pl lb mg hb1 hb2 hpl R1 N1 hR1 hF1 hM1 H locs ls hP hD hS hl
      · have h_b := True.intro
        subst h1
        refine lv_if_ne (tgt := 43) hx0 hb dX3_bestPlace_37 (by decide) (fun c_11 => ?_) (fun c_11 => absurd c_11 (by decide))
        refine lv_aload_n hx0 hb dX3_bestPlace_43 rfl (lv_at hl 5 rfl) ?_
        refine lv_aload_n hx0 hb dX3_bestPlace_44 rfl (lv_at hl 4 rfl) ?_
        refine lv_iload hx0 hb dX3_bestPlace_45 (lv_at hl 0 rfl) ?_
        refine zrdS (As := [.int (nI c1)]) (rest := [.ref (qA B 3 k), .ref (qA B 5 0)]) (wc := []) ⟨hx0, hb, hml, hown, hts⟩ (c_xOf l D _ c1 hc2) (va_cwS 1 hts gX3_bestPlace_X3_xOf rfl rfl rfl (by decide +kernel) ⟨by rw [hRf]; exact Nat.le_of_ble_eq_true rfl, by rw [hRl]; exact Nat.le_of_ble_eq_true rfl⟩) hK hP hD [] rfl (by decide) [] rfl rfl hl.1 rfl (Nat.le_of_ble_eq_true rfl) dX3_bestPlace_47 ⟨by omega, by omega⟩ (fun r_12 hr_12 => ?_)
        refine lv_topi (fun v_13 ev_13 => ?_)
        obtain rfl : v_13 = (nI x) := ev_13.trans (hr_12.trans (by rw [hx]))
        refine lv_iload hx0 hb dX3_bestPlace_50 (lv_at hl 0 rfl) ?_
        refine zrdS (As := [.int (nI c1)]) (rest := [.int (nI x), .ref (qA B 3 k), .ref (qA B 5 0)]) (wc := []) ⟨hx0, hb, hml, hown, hts⟩ (c_yOf l D _ c1 hc2) (va_cwS 1 hts gX3_bestPlace_X3_yOf rfl rfl rfl (by decide +kernel) ⟨by rw [hRf]; exact Nat.le_of_ble_eq_true rfl, by rw [hRl]; exact Nat.le_of_ble_eq_true rfl⟩) hK hP hD [] rfl (by decide) [] rfl rfl hl.1 rfl (Nat.le_of_ble_eq_true rfl) dX3_bestPlace_52 ⟨by omega, by omega⟩ (fun r_14 hr_14 => ?_)
        refine lv_topi (fun v_15 ev_15 => ?_)
        obtain rfl : v_15 = (nI y) := ev_15.trans (hr_14.trans (by rw [hy]))
        refine lv_iload hx0 hb dX3_bestPlace_55 (lv_at hl 0 rfl) ?_
        refine zrdS (As := [.int (nI c1)]) (rest := [.int (nI y), .int (nI x), .ref (qA B 3 k), .ref (qA B 5 0)]) (wc := []) ⟨hx0, hb, hml, hown, hts⟩ (c_isTurnedIn l D _ c1 hc2) (va_cwS 1 hts gX3_bestPlace_X3_isTurnedIn rfl rfl rfl (by decide +kernel) ⟨by rw [hRf]; exact Nat.le_of_ble_eq_true rfl, by rw [hRl]; exact Nat.le_of_ble_eq_true rfl⟩) hK hP hD [] rfl (by decide) [] rfl rfl hl.1 rfl (Nat.le_of_ble_eq_true rfl) dX3_bestPlace_57 ⟨by omega, by omega⟩ (fun r_16 hr_16 => ?_)
        refine lv_topi (fun v_17 ev_17 => ?_)
        obtain rfl : v_17 = (nI t) := ev_17.trans (hr_16.trans (by rw [ht]))
        refine qcallvV (As := [.ref (qA B 3 k), .int (nI x), .int (nI y), .int (nI t)]) (rest := []) (ws := qG B R1 N1) ⟨hx0, hb, hml, hown, hts⟩ (c_letDown l D _ B R1 N1 k x y t hk ht1 hM1 hwd.1.1 hwd.2.1 fx fy) (cwV 4 hts gX3_bestPlace_X3_letDown rfl rfl rfl (by decide +kernel) ⟨by rw [hRf]; exact Nat.le_of_ble_eq_true rfl, by rw [hRl]; exact Nat.le_of_ble_eq_true rfl⟩) hK hP hD hS hA [0, 1, 2, 3] rfl (ci := 3) (q0 := 0) rfl rfl rfl hl.1 rfl (Nat.le_of_ble_eq_true rfl) dX3_bestPlace_60 ⟨by omega, by omega⟩ (fun u_19 H locs hwu_19 hP hD hS => ?_)
        obtain ⟨N2, hN2⟩ : ∃ z, z = u_19 := ⟨_, rfl⟩
        rw [← hN2] at hP hD hwu_19
        have hP : va_P D vwCl (qG B R1 N2) H := hP
        have hD : va_D A (qG B R1 N2) := hD
        have hF2 : qFR N N2 := by rw [hwu_19]; exact hF1.tr (qFR_ld N1 k x y t)
        have hM2 : qM N2 := by rw [hwu_19]; exact qld_M hM1 hk hKi1 hRu1 hx1 hy1 ht1
        have hTr : qTr N2 := by rw [hwu_19]; exact qTr_ld hwd.1 hwd.2 fx fy
        have o8b : N2 4 1 5 ≤ 60 := by rw [hF2 4 1 5 (by omega) (by omega) (by omega)]; exact o8
        have hO2 := qOK_fr hF2 hO
        have hG2 := qGeo_fr hF2 o8 hG
        have hSu2 := qSup_fr hF2 hR1 o8 hSu
        have hKi2 := qKin_fr hF2 hKi
        have hRu2 := qRul_fr hF2 hRu
        have b8 := hM2 0 60 8
        have b10 := hM2 0 60 10
        have w1 : N2 0 60 1 ≤ 500 := by rw [hwu_19]; exact kk4.2
        have key : qAl N2 S k → qPl N S k c1 := fun hA => by
          have g := qld_fr hF1 k x y t
          rw [← hwu_19] at g
          have hA2 := qAl_fr (N := qld N k x y t) (by rw [qld_ne _ _ _ _ _ (by omega)]; exact o8) g hA
          rw [(qwd_fr hF1 k t).1] at fx
          rw [(qwd_fr hF1 k t).2] at fy
          rw [hF1 2 k 6 (by omega) (by omega) (by omega)] at ft
          rw [ht] at ft fx fy hA2
          rw [hx] at fx hA2
          rw [hy] at fy hA2
          exact ⟨hc2, ft, fx, fy, hA2⟩
        refine lv_iload_n hx0 hb dX3_bestPlace_63 rfl (lv_at hl 3 rfl) ?_
        refine lv_iconst (v := (-1)) hx0 hb dX3_bestPlace_64 (by decide) ?_
        refine lv_icmp_eq (tgt := 102) hx0 hb dX3_bestPlace_65 (by decide) (fun c_20 => ?_) (fun c_20 => ?_)
        · have h_b := True.intro
          refine lv_iconst (v := 1) hx0 hb dX3_bestPlace_102 (by decide) ?_
          refine lv_goto (tgt := 107) hx0 hb dX3_bestPlace_103 (by decide) ?_
          refine lv_istore (lv' := [(6, .int 1), (5, .int (nI c1)), (4, .int (nI mg)), (3, .int (nI lb)), (2, .int pl), (1, .ref (qA B 3 k)), (0, .ref (qA B 5 0))]) hx0 hb dX3_bestPlace_107 hl (by decide) rfl (fun ls hl => ?_)
          refine lv_iload hx0 hb dX3_bestPlace_109 (lv_at hl 0 rfl) ?_
          refine lv_if_eq (tgt := 148) hx0 hb dX3_bestPlace_111 (by decide) (fun c_21 => absurd c_21 (by decide)) (fun c_21 => ?_)
          refine lv_aload_n hx0 hb dX3_bestPlace_114 rfl (lv_at hl 6 rfl) ?_
          refine lv_aload_n hx0 hb dX3_bestPlace_115 rfl (lv_at hl 5 rfl) ?_
          refine qcalliV (As := [.ref (qA B 3 k)]) (rest := []) (ws := qG B R1 N2) ⟨hx0, hb, hml, hown, hts⟩ (c_broken l D _ B R1 N2 hO2 hM2 S k hk (hKi2 k hk).2.2.2.2.2.2.2 (qS9_of hG2 hSu2) ⟨hTr.1.1, hTr.1.2, hTr.2.1.1, hTr.2.1.2⟩ ⟨hTr.2.2.1, hTr.2.2.2.1⟩ (qtr_gr hTr) (Nat.le_trans w1 (by decide)) hRu2.2.1 (qtr_len hG2 hTr) (fun k9 _ => qcm_le hTr k9) (qLb o8b hG2 hSu2 hTr w1)) (cwV 1 hts gX3_bestPlace_X3_brokenRule rfl rfl rfl (by decide +kernel) ⟨by rw [hRf]; exact Nat.le_of_ble_eq_true rfl, by rw [hRl]; exact Nat.le_of_ble_eq_true rfl⟩) hK hP hD hS hA [0, 1, 2, 3] rfl (ci := 3) (q0 := 0) rfl rfl rfl hl.1 rfl (Nat.le_of_ble_eq_true rfl) dX3_bestPlace_116 ⟨by omega, by omega⟩ (fun r_22 u_23 H locs hwu_23 hP hD hS => ?_)
          obtain ⟨R3, N3⟩ := u_23
          obtain ⟨v1, v2, v3, v4⟩ := hwu_23
          dsimp only at v1 v2 v3 v4 hP hD
          have hP : va_P D vwCl (qG B R3 N3) H := hP
          have hD : va_D A (qG B R3 N3) := hD
          have hR3 : ∀ i, i ≠ 60 → R3 i = R i := fun i hi => (v1 i hi).trans (hR1 i hi)
          have hF3 : qFR N N3 := hF2.tr (qFR_of v2)
          have c8 := v3 0 60 8
          have c10 := v3 0 60 10
          refine lv_if_ne (tgt := 148) hx0 hb dX3_bestPlace_119 (by decide) (fun c_24 => ?_) (fun c_24 => ?_)
          · have h_b := True.intro
            refine lv_iinc (v := (nI (c1 + 1))) (lv' := [(5, .int (nI (c1 + 1))), (6, .int 1), (4, .int (nI mg)), (3, .int (nI lb)), (2, .int pl), (1, .ref (qA B 3 k)), (0, .ref (qA B 5 0))]) hx0 hb dX3_bestPlace_148 hl (k := 1) rfl (nI_1 c1) (by decide) rfl (fun ls hl => ?_)
            refine lv_goto (tgt := 10) hx0 hb dX3_bestPlace_151 (by decide) ?_
            have hl := lv_sub hl (l' := [(5, .int (nI (c1 + 1))), (4, .int (nI mg)), (3, .int (nI lb)), (2, .int pl), (1, .ref (qA B 3 k)), (0, .ref (qA B 5 0))]) [0, 2, 3, 4, 5, 6] rfl
            exact ih (c1 + 1) (by omega) pl lb mg hb1 hb2 hpl R3 N3 hR3 hF3 v3 H locs ls hP hD hS hl
          · have h_b := True.intro
            have r0 : r_22 = 0 := c_24
            have hP9 := key (v4 r0)
            refine lv_iload hx0 hb dX3_bestPlace_122 (lv_at hl 1 rfl) ?_
            refine lv_istore_n (lv' := [(2, .int (nI c1)), (6, .int 1), (5, .int (nI c1)), (4, .int (nI mg)), (3, .int (nI lb)), (1, .ref (qA B 3 k)), (0, .ref (qA B 5 0))]) hx0 hb dX3_bestPlace_124 rfl hl (by decide) rfl (fun ls hl => ?_)
            refine lv_aload_n hx0 hb dX3_bestPlace_125 rfl (lv_at hl 6 rfl) ?_
            refine va_get (D := D) (ci := 3) (v := .ref (qA B 0 60)) (C := RX3) (T := TX3) (N := 14) hx0 hb hts (fun _ h9 => List.mem_cons_of_mem _ (List.mem_append_left _ (List.mem_append_left _ (List.mem_append_right _ h9)))) hown hK hP 0 rfl rfl 11 (by decide) (hts (.fieldLink RX3 52 "PalletStack" "trial" "LPalletStack$Item;") (List.mem_of_getElem? (i := 1) (by rfl))) (fun _ h9 => h9) rfl dX3_bestPlace_126 ?_
            refine va_get (D := D) (ci := 0) (v := .int (nI (N3 0 60 8))) (C := RX0) (T := TX0) (N := 18) hx0 hb hts (fun _ h9 => List.mem_cons_of_mem _ (List.mem_append_left _ (List.mem_append_right _ h9))) hown hK hP (5 + 60) (qG_i (by omega)) rfl 8 (by decide) (hts (.fieldLink RX3 131 "PalletStack$Item" "bottom" "I") (List.mem_of_getElem? (i := 2) (by rfl))) (fun _ h9 => h9) rfl dX3_bestPlace_129 ?_
            refine lv_istore_n (lv' := [(3, .int (nI (N3 0 60 8))), (2, .int (nI c1)), (6, .int 1), (5, .int (nI c1)), (4, .int (nI mg)), (1, .ref (qA B 3 k)), (0, .ref (qA B 5 0))]) hx0 hb dX3_bestPlace_132 rfl hl (by decide) rfl (fun ls hl => ?_)
            refine lv_aload_n hx0 hb dX3_bestPlace_133 rfl (lv_at hl 6 rfl) ?_
            refine va_get (D := D) (ci := 3) (v := .ref (qA B 0 60)) (C := RX3) (T := TX3) (N := 14) hx0 hb hts (fun _ h9 => List.mem_cons_of_mem _ (List.mem_append_left _ (List.mem_append_left _ (List.mem_append_right _ h9)))) hown hK hP 0 rfl rfl 11 (by decide) (hts (.fieldLink RX3 52 "PalletStack" "trial" "LPalletStack$Item;") (List.mem_of_getElem? (i := 1) (by rfl))) (fun _ h9 => h9) rfl dX3_bestPlace_134 ?_
            refine va_get (D := D) (ci := 0) (v := .int (nI (N3 0 60 10))) (C := RX0) (T := TX0) (N := 18) hx0 hb hts (fun _ h9 => List.mem_cons_of_mem _ (List.mem_append_left _ (List.mem_append_right _ h9))) hown hK hP (5 + 60) (qG_i (by omega)) rfl 10 (by decide) (hts (.fieldLink RX3 214 "PalletStack$Item" "ground" "I") (List.mem_of_getElem? (i := 3) (by rfl))) (fun _ h9 => h9) rfl dX3_bestPlace_137 ?_
            refine lv_istore (lv' := [(4, .int (nI (N3 0 60 10))), (3, .int (nI (N3 0 60 8))), (2, .int (nI c1)), (6, .int 1), (5, .int (nI c1)), (1, .ref (qA B 3 k)), (0, .ref (qA B 5 0))]) hx0 hb dX3_bestPlace_140 hl (by decide) rfl (fun ls hl => ?_)
            refine lv_iload_n hx0 hb dX3_bestPlace_142 rfl (lv_at hl 1 rfl) ?_
            refine lv_if_ne (tgt := 148) hx0 hb dX3_bestPlace_143 (by decide) (fun c_25 => ?_) (fun c_25 => ?_)
            · have h_b := True.intro
              refine lv_iinc (v := (nI (c1 + 1))) (lv' := [(5, .int (nI (c1 + 1))), (4, .int (nI (N3 0 60 10))), (3, .int (nI (N3 0 60 8))), (2, .int (nI c1)), (6, .int 1), (1, .ref (qA B 3 k)), (0, .ref (qA B 5 0))]) hx0 hb dX3_bestPlace_148 hl (k := 4) rfl (nI_1 c1) (by decide) rfl (fun ls hl => ?_)
              refine lv_goto (tgt := 10) hx0 hb dX3_bestPlace_151 (by decide) ?_
              have hl := lv_sub hl (l' := [(5, .int (nI (c1 + 1))), (4, .int (nI (N3 0 60 10))), (3, .int (nI (N3 0 60 8))), (2, .int (nI c1)), (1, .ref (qA B 3 k)), (0, .ref (qA B 5 0))]) [0, 1, 2, 3, 5, 6] rfl
              exact ih (c1 + 1) (by omega) (nI c1) (N3 0 60 8) (N3 0 60 10) c8 c10 (Or.inr ⟨c1, rfl, hP9⟩) R3 N3 hR3 hF3 v3 H locs ls hP hD hS hl
            · have h_b := True.intro
              refine lv_iload_n hx0 hb dX3_bestPlace_146 rfl (lv_at hl 2 rfl) ?_
              rw [← hQe]
              exact W.iret (v := (nI c1)) hx0 hb hr (fun t ht hW => ⟨⟨(nI c1), (R3, N3), rfl, ⟨Or.inr ⟨c1, rfl, hP9⟩, hR3, hF3, v3⟩, ⟨Nat.zero_le _, by rw [ht]; exact hP, va_K.moved hW.alike (hK.sub (tys' := []) [] rfl), hD⟩⟩, hS.F ht⟩) hS.2.2 dX3_bestPlace_147
        · have h_b := True.intro
          refine lv_aload_n hx0 hb dX3_bestPlace_68 rfl (lv_at hl 5 rfl) ?_
          refine va_get (D := D) (ci := 3) (v := .ref (qA B 0 60)) (C := RX3) (T := TX3) (N := 14) hx0 hb hts (fun _ h9 => List.mem_cons_of_mem _ (List.mem_append_left _ (List.mem_append_left _ (List.mem_append_right _ h9)))) hown hK hP 0 rfl rfl 11 (by decide) (hts (.fieldLink RX3 52 "PalletStack" "trial" "LPalletStack$Item;") (List.mem_of_getElem? (i := 1) (by rfl))) (fun _ h9 => h9) rfl dX3_bestPlace_69 ?_
          refine va_get (D := D) (ci := 0) (v := .int (nI (N2 0 60 8))) (C := RX0) (T := TX0) (N := 18) hx0 hb hts (fun _ h9 => List.mem_cons_of_mem _ (List.mem_append_left _ (List.mem_append_right _ h9))) hown hK hP (5 + 60) (qG_i (by omega)) rfl 8 (by decide) (hts (.fieldLink RX3 131 "PalletStack$Item" "bottom" "I") (List.mem_of_getElem? (i := 2) (by rfl))) (fun _ h9 => h9) rfl dX3_bestPlace_72 ?_
          refine lv_iload_n hx0 hb dX3_bestPlace_75 rfl (lv_at hl 2 rfl) ?_
          refine lv_icmp_lt (tgt := 102) hx0 hb dX3_bestPlace_76 (by decide) (fun c_26 => ?_) (fun c_26 => ?_)
          · have h_b := True.intro
            refine lv_iconst (v := 1) hx0 hb dX3_bestPlace_102 (by decide) ?_
            refine lv_goto (tgt := 107) hx0 hb dX3_bestPlace_103 (by decide) ?_
            refine lv_istore (lv' := [(6, .int 1), (5, .int (nI c1)), (4, .int (nI mg)), (3, .int (nI lb)), (2, .int pl), (1, .ref (qA B 3 k)), (0, .ref (qA B 5 0))]) hx0 hb dX3_bestPlace_107 hl (by decide) rfl (fun ls hl => ?_)
            refine lv_iload hx0 hb dX3_bestPlace_109 (lv_at hl 0 rfl) ?_
            refine lv_if_eq (tgt := 148) hx0 hb dX3_bestPlace_111 (by decide) (fun c_27 => absurd c_27 (by decide)) (fun c_27 => ?_)
            refine lv_aload_n hx0 hb dX3_bestPlace_114 rfl (lv_at hl 6 rfl) ?_
            refine lv_aload_n hx0 hb dX3_bestPlace_115 rfl (lv_at hl 5 rfl) ?_
            refine qcalliV (As := [.ref (qA B 3 k)]) (rest := []) (ws := qG B R1 N2) ⟨hx0, hb, hml, hown, hts⟩ (c_broken l D _ B R1 N2 hO2 hM2 S k hk (hKi2 k hk).2.2.2.2.2.2.2 (qS9_of hG2 hSu2) ⟨hTr.1.1, hTr.1.2, hTr.2.1.1, hTr.2.1.2⟩ ⟨hTr.2.2.1, hTr.2.2.2.1⟩ (qtr_gr hTr) (Nat.le_trans w1 (by decide)) hRu2.2.1 (qtr_len hG2 hTr) (fun k9 _ => qcm_le hTr k9) (qLb o8b hG2 hSu2 hTr w1)) (cwV 1 hts gX3_bestPlace_X3_brokenRule rfl rfl rfl (by decide +kernel) ⟨by rw [hRf]; exact Nat.le_of_ble_eq_true rfl, by rw [hRl]; exact Nat.le_of_ble_eq_true rfl⟩) hK hP hD hS hA [0, 1, 2, 3] rfl (ci := 3) (q0 := 0) rfl rfl rfl hl.1 rfl (Nat.le_of_ble_eq_true rfl) dX3_bestPlace_116 ⟨by omega, by omega⟩ (fun r_28 u_29 H locs hwu_29 hP hD hS => ?_)
            obtain ⟨R3, N3⟩ := u_29
            obtain ⟨v1, v2, v3, v4⟩ := hwu_29
            dsimp only at v1 v2 v3 v4 hP hD
            have hP : va_P D vwCl (qG B R3 N3) H := hP
            have hD : va_D A (qG B R3 N3) := hD
            have hR3 : ∀ i, i ≠ 60 → R3 i = R i := fun i hi => (v1 i hi).trans (hR1 i hi)
            have hF3 : qFR N N3 := hF2.tr (qFR_of v2)
            have c8 := v3 0 60 8
            have c10 := v3 0 60 10
            refine lv_if_ne (tgt := 148) hx0 hb dX3_bestPlace_119 (by decide) (fun c_30 => ?_) (fun c_30 => ?_)
            · have h_b := True.intro
              refine lv_iinc (v := (nI (c1 + 1))) (lv' := [(5, .int (nI (c1 + 1))), (6, .int 1), (4, .int (nI mg)), (3, .int (nI lb)), (2, .int pl), (1, .ref (qA B 3 k)), (0, .ref (qA B 5 0))]) hx0 hb dX3_bestPlace_148 hl (k := 1) rfl (nI_1 c1) (by decide) rfl (fun ls hl => ?_)
              refine lv_goto (tgt := 10) hx0 hb dX3_bestPlace_151 (by decide) ?_
              have hl := lv_sub hl (l' := [(5, .int (nI (c1 + 1))), (4, .int (nI mg)), (3, .int (nI lb)), (2, .int pl), (1, .ref (qA B 3 k)), (0, .ref (qA B 5 0))]) [0, 2, 3, 4, 5, 6] rfl
              exact ih (c1 + 1) (by omega) pl lb mg hb1 hb2 hpl R3 N3 hR3 hF3 v3 H locs ls hP hD hS hl
            · have h_b := True.intro
              have r0 : r_28 = 0 := c_30
              have hP9 := key (v4 r0)
              refine lv_iload hx0 hb dX3_bestPlace_122 (lv_at hl 1 rfl) ?_
              refine lv_istore_n (lv' := [(2, .int (nI c1)), (6, .int 1), (5, .int (nI c1)), (4, .int (nI mg)), (3, .int (nI lb)), (1, .ref (qA B 3 k)), (0, .ref (qA B 5 0))]) hx0 hb dX3_bestPlace_124 rfl hl (by decide) rfl (fun ls hl => ?_)
              refine lv_aload_n hx0 hb dX3_bestPlace_125 rfl (lv_at hl 6 rfl) ?_
              refine va_get (D := D) (ci := 3) (v := .ref (qA B 0 60)) (C := RX3) (T := TX3) (N := 14) hx0 hb hts (fun _ h9 => List.mem_cons_of_mem _ (List.mem_append_left _ (List.mem_append_left _ (List.mem_append_right _ h9)))) hown hK hP 0 rfl rfl 11 (by decide) (hts (.fieldLink RX3 52 "PalletStack" "trial" "LPalletStack$Item;") (List.mem_of_getElem? (i := 1) (by rfl))) (fun _ h9 => h9) rfl dX3_bestPlace_126 ?_
              refine va_get (D := D) (ci := 0) (v := .int (nI (N3 0 60 8))) (C := RX0) (T := TX0) (N := 18) hx0 hb hts (fun _ h9 => List.mem_cons_of_mem _ (List.mem_append_left _ (List.mem_append_right _ h9))) hown hK hP (5 + 60) (qG_i (by omega)) rfl 8 (by decide) (hts (.fieldLink RX3 131 "PalletStack$Item" "bottom" "I") (List.mem_of_getElem? (i := 2) (by rfl))) (fun _ h9 => h9) rfl dX3_bestPlace_129 ?_
              refine lv_istore_n (lv' := [(3, .int (nI (N3 0 60 8))), (2, .int (nI c1)), (6, .int 1), (5, .int (nI c1)), (4, .int (nI mg)), (1, .ref (qA B 3 k)), (0, .ref (qA B 5 0))]) hx0 hb dX3_bestPlace_132 rfl hl (by decide) rfl (fun ls hl => ?_)
              refine lv_aload_n hx0 hb dX3_bestPlace_133 rfl (lv_at hl 6 rfl) ?_
              refine va_get (D := D) (ci := 3) (v := .ref (qA B 0 60)) (C := RX3) (T := TX3) (N := 14) hx0 hb hts (fun _ h9 => List.mem_cons_of_mem _ (List.mem_append_left _ (List.mem_append_left _ (List.mem_append_right _ h9)))) hown hK hP 0 rfl rfl 11 (by decide) (hts (.fieldLink RX3 52 "PalletStack" "trial" "LPalletStack$Item;") (List.mem_of_getElem? (i := 1) (by rfl))) (fun _ h9 => h9) rfl dX3_bestPlace_134 ?_
              refine va_get (D := D) (ci := 0) (v := .int (nI (N3 0 60 10))) (C := RX0) (T := TX0) (N := 18) hx0 hb hts (fun _ h9 => List.mem_cons_of_mem _ (List.mem_append_left _ (List.mem_append_right _ h9))) hown hK hP (5 + 60) (qG_i (by omega)) rfl 10 (by decide) (hts (.fieldLink RX3 214 "PalletStack$Item" "ground" "I") (List.mem_of_getElem? (i := 3) (by rfl))) (fun _ h9 => h9) rfl dX3_bestPlace_137 ?_
              refine lv_istore (lv' := [(4, .int (nI (N3 0 60 10))), (3, .int (nI (N3 0 60 8))), (2, .int (nI c1)), (6, .int 1), (5, .int (nI c1)), (1, .ref (qA B 3 k)), (0, .ref (qA B 5 0))]) hx0 hb dX3_bestPlace_140 hl (by decide) rfl (fun ls hl => ?_)
              refine lv_iload_n hx0 hb dX3_bestPlace_142 rfl (lv_at hl 1 rfl) ?_
              refine lv_if_ne (tgt := 148) hx0 hb dX3_bestPlace_143 (by decide) (fun c_31 => ?_) (fun c_31 => ?_)
              · have h_b := True.intro
                refine lv_iinc (v := (nI (c1 + 1))) (lv' := [(5, .int (nI (c1 + 1))), (4, .int (nI (N3 0 60 10))), (3, .int (nI (N3 0 60 8))), (2, .int (nI c1)), (6, .int 1), (1, .ref (qA B 3 k)), (0, .ref (qA B 5 0))]) hx0 hb dX3_bestPlace_148 hl (k := 4) rfl (nI_1 c1) (by decide) rfl (fun ls hl => ?_)
                refine lv_goto (tgt := 10) hx0 hb dX3_bestPlace_151 (by decide) ?_
                have hl := lv_sub hl (l' := [(5, .int (nI (c1 + 1))), (4, .int (nI (N3 0 60 10))), (3, .int (nI (N3 0 60 8))), (2, .int (nI c1)), (1, .ref (qA B 3 k)), (0, .ref (qA B 5 0))]) [0, 1, 2, 3, 5, 6] rfl
                exact ih (c1 + 1) (by omega) (nI c1) (N3 0 60 8) (N3 0 60 10) c8 c10 (Or.inr ⟨c1, rfl, hP9⟩) R3 N3 hR3 hF3 v3 H locs ls hP hD hS hl
              · have h_b := True.intro
                refine lv_iload_n hx0 hb dX3_bestPlace_146 rfl (lv_at hl 2 rfl) ?_
                rw [← hQe]
                exact W.iret (v := (nI c1)) hx0 hb hr (fun t ht hW => ⟨⟨(nI c1), (R3, N3), rfl, ⟨Or.inr ⟨c1, rfl, hP9⟩, hR3, hF3, v3⟩, ⟨Nat.zero_le _, by rw [ht]; exact hP, va_K.moved hW.alike (hK.sub (tys' := []) [] rfl), hD⟩⟩, hS.F ht⟩) hS.2.2 dX3_bestPlace_147
          · have h_b := True.intro
            refine lv_aload_n hx0 hb dX3_bestPlace_79 rfl (lv_at hl 5 rfl) ?_
            refine va_get (D := D) (ci := 3) (v := .ref (qA B 0 60)) (C := RX3) (T := TX3) (N := 14) hx0 hb hts (fun _ h9 => List.mem_cons_of_mem _ (List.mem_append_left _ (List.mem_append_left _ (List.mem_append_right _ h9)))) hown hK hP 0 rfl rfl 11 (by decide) (hts (.fieldLink RX3 52 "PalletStack" "trial" "LPalletStack$Item;") (List.mem_of_getElem? (i := 1) (by rfl))) (fun _ h9 => h9) rfl dX3_bestPlace_80 ?_
            refine va_get (D := D) (ci := 0) (v := .int (nI (N2 0 60 8))) (C := RX0) (T := TX0) (N := 18) hx0 hb hts (fun _ h9 => List.mem_cons_of_mem _ (List.mem_append_left _ (List.mem_append_right _ h9))) hown hK hP (5 + 60) (qG_i (by omega)) rfl 8 (by decide) (hts (.fieldLink RX3 131 "PalletStack$Item" "bottom" "I") (List.mem_of_getElem? (i := 2) (by rfl))) (fun _ h9 => h9) rfl dX3_bestPlace_83 ?_
            refine lv_iload_n hx0 hb dX3_bestPlace_86 rfl (lv_at hl 2 rfl) ?_
            refine lv_icmp_ne (tgt := 106) hx0 hb dX3_bestPlace_87 (by decide) (fun c_32 => ?_) (fun c_32 => ?_)
            · have h_b := True.intro
              refine lv_iconst (v := 0) hx0 hb dX3_bestPlace_106 (by decide) ?_
              refine lv_istore (lv' := [(6, .int 0), (5, .int (nI c1)), (4, .int (nI mg)), (3, .int (nI lb)), (2, .int pl), (1, .ref (qA B 3 k)), (0, .ref (qA B 5 0))]) hx0 hb dX3_bestPlace_107 hl (by decide) rfl (fun ls hl => ?_)
              refine lv_iload hx0 hb dX3_bestPlace_109 (lv_at hl 0 rfl) ?_
              refine lv_if_eq (tgt := 148) hx0 hb dX3_bestPlace_111 (by decide) (fun c_33 => ?_) (fun c_33 => absurd (rfl) c_33)
              refine lv_iinc (v := (nI (c1 + 1))) (lv' := [(5, .int (nI (c1 + 1))), (6, .int 0), (4, .int (nI mg)), (3, .int (nI lb)), (2, .int pl), (1, .ref (qA B 3 k)), (0, .ref (qA B 5 0))]) hx0 hb dX3_bestPlace_148 hl (k := 1) rfl (nI_1 c1) (by decide) rfl (fun ls hl => ?_)
              refine lv_goto (tgt := 10) hx0 hb dX3_bestPlace_151 (by decide) ?_
              have hl := lv_sub hl (l' := [(5, .int (nI (c1 + 1))), (4, .int (nI mg)), (3, .int (nI lb)), (2, .int pl), (1, .ref (qA B 3 k)), (0, .ref (qA B 5 0))]) [0, 2, 3, 4, 5, 6] rfl
              exact ih (c1 + 1) (by omega) pl lb mg hb1 hb2 hpl R1 N2 hR1 hF2 hM2 H locs ls hP hD hS hl
            · have h_b := True.intro
              refine lv_aload_n hx0 hb dX3_bestPlace_90 rfl (lv_at hl 5 rfl) ?_
              refine va_get (D := D) (ci := 3) (v := .ref (qA B 0 60)) (C := RX3) (T := TX3) (N := 14) hx0 hb hts (fun _ h9 => List.mem_cons_of_mem _ (List.mem_append_left _ (List.mem_append_left _ (List.mem_append_right _ h9)))) hown hK hP 0 rfl rfl 11 (by decide) (hts (.fieldLink RX3 52 "PalletStack" "trial" "LPalletStack$Item;") (List.mem_of_getElem? (i := 1) (by rfl))) (fun _ h9 => h9) rfl dX3_bestPlace_91 ?_
              refine va_get (D := D) (ci := 0) (v := .int (nI (N2 0 60 10))) (C := RX0) (T := TX0) (N := 18) hx0 hb hts (fun _ h9 => List.mem_cons_of_mem _ (List.mem_append_left _ (List.mem_append_right _ h9))) hown hK hP (5 + 60) (qG_i (by omega)) rfl 10 (by decide) (hts (.fieldLink RX3 214 "PalletStack$Item" "ground" "I") (List.mem_of_getElem? (i := 3) (by rfl))) (fun _ h9 => h9) rfl dX3_bestPlace_94 ?_
              refine lv_iload hx0 hb dX3_bestPlace_97 (lv_at hl 1 rfl) ?_
              refine lv_icmp_le (tgt := 106) hx0 hb dX3_bestPlace_99 (by decide) (fun c_34 => ?_) (fun c_34 => ?_)
              · have h_b := True.intro
                refine lv_iconst (v := 0) hx0 hb dX3_bestPlace_106 (by decide) ?_
                refine lv_istore (lv' := [(6, .int 0), (5, .int (nI c1)), (4, .int (nI mg)), (3, .int (nI lb)), (2, .int pl), (1, .ref (qA B 3 k)), (0, .ref (qA B 5 0))]) hx0 hb dX3_bestPlace_107 hl (by decide) rfl (fun ls hl => ?_)
                refine lv_iload hx0 hb dX3_bestPlace_109 (lv_at hl 0 rfl) ?_
                refine lv_if_eq (tgt := 148) hx0 hb dX3_bestPlace_111 (by decide) (fun c_35 => ?_) (fun c_35 => absurd (rfl) c_35)
                refine lv_iinc (v := (nI (c1 + 1))) (lv' := [(5, .int (nI (c1 + 1))), (6, .int 0), (4, .int (nI mg)), (3, .int (nI lb)), (2, .int pl), (1, .ref (qA B 3 k)), (0, .ref (qA B 5 0))]) hx0 hb dX3_bestPlace_148 hl (k := 1) rfl (nI_1 c1) (by decide) rfl (fun ls hl => ?_)
                refine lv_goto (tgt := 10) hx0 hb dX3_bestPlace_151 (by decide) ?_
                have hl := lv_sub hl (l' := [(5, .int (nI (c1 + 1))), (4, .int (nI mg)), (3, .int (nI lb)), (2, .int pl), (1, .ref (qA B 3 k)), (0, .ref (qA B 5 0))]) [0, 2, 3, 4, 5, 6] rfl
                exact ih (c1 + 1) (by omega) pl lb mg hb1 hb2 hpl R1 N2 hR1 hF2 hM2 H locs ls hP hD hS hl
              · have h_b := True.intro
                refine lv_iconst (v := 1) hx0 hb dX3_bestPlace_102 (by decide) ?_
                refine lv_goto (tgt := 107) hx0 hb dX3_bestPlace_103 (by decide) ?_
                refine lv_istore (lv' := [(6, .int 1), (5, .int (nI c1)), (4, .int (nI mg)), (3, .int (nI lb)), (2, .int pl), (1, .ref (qA B 3 k)), (0, .ref (qA B 5 0))]) hx0 hb dX3_bestPlace_107 hl (by decide) rfl (fun ls hl => ?_)
                refine lv_iload hx0 hb dX3_bestPlace_109 (lv_at hl 0 rfl) ?_
                refine lv_if_eq (tgt := 148) hx0 hb dX3_bestPlace_111 (by decide) (fun c_36 => absurd c_36 (by decide)) (fun c_36 => ?_)
                refine lv_aload_n hx0 hb dX3_bestPlace_114 rfl (lv_at hl 6 rfl) ?_
                refine lv_aload_n hx0 hb dX3_bestPlace_115 rfl (lv_at hl 5 rfl) ?_
                refine qcalliV (As := [.ref (qA B 3 k)]) (rest := []) (ws := qG B R1 N2) ⟨hx0, hb, hml, hown, hts⟩ (c_broken l D _ B R1 N2 hO2 hM2 S k hk (hKi2 k hk).2.2.2.2.2.2.2 (qS9_of hG2 hSu2) ⟨hTr.1.1, hTr.1.2, hTr.2.1.1, hTr.2.1.2⟩ ⟨hTr.2.2.1, hTr.2.2.2.1⟩ (qtr_gr hTr) (Nat.le_trans w1 (by decide)) hRu2.2.1 (qtr_len hG2 hTr) (fun k9 _ => qcm_le hTr k9) (qLb o8b hG2 hSu2 hTr w1)) (cwV 1 hts gX3_bestPlace_X3_brokenRule rfl rfl rfl (by decide +kernel) ⟨by rw [hRf]; exact Nat.le_of_ble_eq_true rfl, by rw [hRl]; exact Nat.le_of_ble_eq_true rfl⟩) hK hP hD hS hA [0, 1, 2, 3] rfl (ci := 3) (q0 := 0) rfl rfl rfl hl.1 rfl (Nat.le_of_ble_eq_true rfl) dX3_bestPlace_116 ⟨by omega, by omega⟩ (fun r_37 u_38 H locs hwu_38 hP hD hS => ?_)
                obtain ⟨R3, N3⟩ := u_38
                obtain ⟨v1, v2, v3, v4⟩ := hwu_38
                dsimp only at v1 v2 v3 v4 hP hD
                have hP : va_P D vwCl (qG B R3 N3) H := hP
                have hD : va_D A (qG B R3 N3) := hD
                have hR3 : ∀ i, i ≠ 60 → R3 i = R i := fun i hi => (v1 i hi).trans (hR1 i hi)
                have hF3 : qFR N N3 := hF2.tr (qFR_of v2)
                have c8 := v3 0 60 8
                have c10 := v3 0 60 10
                refine lv_if_ne (tgt := 148) hx0 hb dX3_bestPlace_119 (by decide) (fun c_39 => ?_) (fun c_39 => ?_)
                · have h_b := True.intro
                  refine lv_iinc (v := (nI (c1 + 1))) (lv' := [(5, .int (nI (c1 + 1))), (6, .int 1), (4, .int (nI mg)), (3, .int (nI lb)), (2, .int pl), (1, .ref (qA B 3 k)), (0, .ref (qA B 5 0))]) hx0 hb dX3_bestPlace_148 hl (k := 1) rfl (nI_1 c1) (by decide) rfl (fun ls hl => ?_)
                  refine lv_goto (tgt := 10) hx0 hb dX3_bestPlace_151 (by decide) ?_
                  have hl := lv_sub hl (l' := [(5, .int (nI (c1 + 1))), (4, .int (nI mg)), (3, .int (nI lb)), (2, .int pl), (1, .ref (qA B 3 k)), (0, .ref (qA B 5 0))]) [0, 2, 3, 4, 5, 6] rfl
                  exact ih (c1 + 1) (by omega) pl lb mg hb1 hb2 hpl R3 N3 hR3 hF3 v3 H locs ls hP hD hS hl
                · have h_b := True.intro
                  have r0 : r_37 = 0 := c_39
                  have hP9 := key (v4 r0)
                  refine lv_iload hx0 hb dX3_bestPlace_122 (lv_at hl 1 rfl) ?_
                  refine lv_istore_n (lv' := [(2, .int (nI c1)), (6, .int 1), (5, .int (nI c1)), (4, .int (nI mg)), (3, .int (nI lb)), (1, .ref (qA B 3 k)), (0, .ref (qA B 5 0))]) hx0 hb dX3_bestPlace_124 rfl hl (by decide) rfl (fun ls hl => ?_)
                  refine lv_aload_n hx0 hb dX3_bestPlace_125 rfl (lv_at hl 6 rfl) ?_
                  refine va_get (D := D) (ci := 3) (v := .ref (qA B 0 60)) (C := RX3) (T := TX3) (N := 14) hx0 hb hts (fun _ h9 => List.mem_cons_of_mem _ (List.mem_append_left _ (List.mem_append_left _ (List.mem_append_right _ h9)))) hown hK hP 0 rfl rfl 11 (by decide) (hts (.fieldLink RX3 52 "PalletStack" "trial" "LPalletStack$Item;") (List.mem_of_getElem? (i := 1) (by rfl))) (fun _ h9 => h9) rfl dX3_bestPlace_126 ?_
                  refine va_get (D := D) (ci := 0) (v := .int (nI (N3 0 60 8))) (C := RX0) (T := TX0) (N := 18) hx0 hb hts (fun _ h9 => List.mem_cons_of_mem _ (List.mem_append_left _ (List.mem_append_right _ h9))) hown hK hP (5 + 60) (qG_i (by omega)) rfl 8 (by decide) (hts (.fieldLink RX3 131 "PalletStack$Item" "bottom" "I") (List.mem_of_getElem? (i := 2) (by rfl))) (fun _ h9 => h9) rfl dX3_bestPlace_129 ?_
                  refine lv_istore_n (lv' := [(3, .int (nI (N3 0 60 8))), (2, .int (nI c1)), (6, .int 1), (5, .int (nI c1)), (4, .int (nI mg)), (1, .ref (qA B 3 k)), (0, .ref (qA B 5 0))]) hx0 hb dX3_bestPlace_132 rfl hl (by decide) rfl (fun ls hl => ?_)
                  refine lv_aload_n hx0 hb dX3_bestPlace_133 rfl (lv_at hl 6 rfl) ?_
                  refine va_get (D := D) (ci := 3) (v := .ref (qA B 0 60)) (C := RX3) (T := TX3) (N := 14) hx0 hb hts (fun _ h9 => List.mem_cons_of_mem _ (List.mem_append_left _ (List.mem_append_left _ (List.mem_append_right _ h9)))) hown hK hP 0 rfl rfl 11 (by decide) (hts (.fieldLink RX3 52 "PalletStack" "trial" "LPalletStack$Item;") (List.mem_of_getElem? (i := 1) (by rfl))) (fun _ h9 => h9) rfl dX3_bestPlace_134 ?_
                  refine va_get (D := D) (ci := 0) (v := .int (nI (N3 0 60 10))) (C := RX0) (T := TX0) (N := 18) hx0 hb hts (fun _ h9 => List.mem_cons_of_mem _ (List.mem_append_left _ (List.mem_append_right _ h9))) hown hK hP (5 + 60) (qG_i (by omega)) rfl 10 (by decide) (hts (.fieldLink RX3 214 "PalletStack$Item" "ground" "I") (List.mem_of_getElem? (i := 3) (by rfl))) (fun _ h9 => h9) rfl dX3_bestPlace_137 ?_
                  refine lv_istore (lv' := [(4, .int (nI (N3 0 60 10))), (3, .int (nI (N3 0 60 8))), (2, .int (nI c1)), (6, .int 1), (5, .int (nI c1)), (1, .ref (qA B 3 k)), (0, .ref (qA B 5 0))]) hx0 hb dX3_bestPlace_140 hl (by decide) rfl (fun ls hl => ?_)
                  refine lv_iload_n hx0 hb dX3_bestPlace_142 rfl (lv_at hl 1 rfl) ?_
                  refine lv_if_ne (tgt := 148) hx0 hb dX3_bestPlace_143 (by decide) (fun c_40 => ?_) (fun c_40 => ?_)
                  · have h_b := True.intro
                    refine lv_iinc (v := (nI (c1 + 1))) (lv' := [(5, .int (nI (c1 + 1))), (4, .int (nI (N3 0 60 10))), (3, .int (nI (N3 0 60 8))), (2, .int (nI c1)), (6, .int 1), (1, .ref (qA B 3 k)), (0, .ref (qA B 5 0))]) hx0 hb dX3_bestPlace_148 hl (k := 4) rfl (nI_1 c1) (by decide) rfl (fun ls hl => ?_)
                    refine lv_goto (tgt := 10) hx0 hb dX3_bestPlace_151 (by decide) ?_
                    have hl := lv_sub hl (l' := [(5, .int (nI (c1 + 1))), (4, .int (nI (N3 0 60 10))), (3, .int (nI (N3 0 60 8))), (2, .int (nI c1)), (1, .ref (qA B 3 k)), (0, .ref (qA B 5 0))]) [0, 1, 2, 3, 5, 6] rfl
                    exact ih (c1 + 1) (by omega) (nI c1) (N3 0 60 8) (N3 0 60 10) c8 c10 (Or.inr ⟨c1, rfl, hP9⟩) R3 N3 hR3 hF3 v3 H locs ls hP hD hS hl
                  · have h_b := True.intro
                    refine lv_iload_n hx0 hb dX3_bestPlace_146 rfl (lv_at hl 2 rfl) ?_
                    rw [← hQe]
                    exact W.iret (v := (nI c1)) hx0 hb hr (fun t ht hW => ⟨⟨(nI c1), (R3, N3), rfl, ⟨Or.inr ⟨c1, rfl, hP9⟩, hR3, hF3, v3⟩, ⟨Nat.zero_le _, by rw [ht]; exact hP, va_K.moved hW.alike (hK.sub (tys' := []) [] rfl), hD⟩⟩, hS.F ht⟩) hS.2.2 dX3_bestPlace_147
  exact loop 240 0 (by omega) (-1) 0 0 (by decide) (by decide) (Or.inl rfl) R N (fun _ _ => rfl) (qFR_rf N) hM s.heap [] ls hP hD hS hl
