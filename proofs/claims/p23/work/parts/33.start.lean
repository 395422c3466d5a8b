set_option maxHeartbeats 8000000 in
set_option maxRecDepth 100000 in
theorem whole_start {p : Program} {e : Env} {s : State} {m : MethodId} {below : List Frame} {meth : Method} {c : Code} (l : Launch) (hflags : l.flags = flags0) {b L : Nat} {xs : Nat → Int32} (hL : L ≤ 260) (C0 : lw_At p s m meth c b L xs) : W p l e room_1 s m #[Value.ref b] below meth c s.heap [] 0 0 (lw_Z below #[Value.ref b] s) (entryFrame m ([Value.ref b] : List Value).toArray 19) := by
  have C1 := C0
  obtain ⟨hx, hb, hr, hml, hown, hts, hX0, hbl, hlocks, hgv⟩ := C0
  have hA : ∀ q : Nat, s.heap.size ≤ q → (fun q : Nat => s.heap.size ≤ q) q := fun _ h => h
  have hbA : ¬ (fun q : Nat => s.heap.size ≤ q) b := Nat.not_le.mpr hbl
  have hRf : room_1.frames = 10 := rfl
  have hRl : room_1.locals = 354 := rfl
  have hRc : 5000 ≤ room_1.cells := Nat.le_of_ble_eq_true rfl
  have hRs : 20000 ≤ room_1.slots := Nat.le_of_ble_eq_true rfl
  have hL : L ≤ 1000 := Nat.le_trans hL (by decide)
  generalize hAe : (fun q : Nat => s.heap.size ≤ q) = A at hA hbA
  obtain ⟨c0, iS0, hKn0⟩ := u_known (C := RX0) (T := TX0) (N := 18) (n := 18) hts inT_X0 (hts (.instantiable RX0 18) (List.mem_of_getElem? (i := 51) (by decide +kernel)))
  obtain ⟨c1, iS1, hKn1⟩ := u_known (C := RX1) (T := TX1) (N := 8) (n := 8) hts inT_X1 (hts (.instantiable RX1 8) (List.mem_of_getElem? (i := 520) (by decide +kernel)))
  obtain ⟨c2, iS2, hKn2⟩ := u_known (C := RX2) (T := TX2) (N := 3) (n := 3) hts inT_X2 (hts (.instantiable RX2 3) (List.mem_of_getElem? (i := 339) (by decide +kernel)))
  obtain ⟨c3, iS3, hKn3⟩ := u_known (C := RX3) (T := TX3) (N := 14) (n := 14) hts inT_X3 (hts (.instantiable RX3 14) (List.mem_of_getElem? (i := 40) (by decide +kernel)))
  obtain ⟨c4, iS4, hKn4⟩ := u_known (C := RX4) (T := TX4) (N := 4) (n := 4) hts inT_X4 (hts (.instantiable RX4 4) (List.mem_of_getElem? (i := 494) (by decide +kernel)))
  obtain ⟨dC, dI, hKc⟩ : ∃ (dC : Nat → ClassId) (dI : Nat → Nat → Nat), ∀ (k : Nat) (q : vw_C), vwCl[k]? = some q → u_Kn s q.1 q.2.1 q.2.2 (dC k) (dI k) := by
    refine ⟨fun k => [c0, c1, c2, c3, c4].getD k c0, fun k => match k with | 0 => iS0 | 1 => iS1 | 2 => iS2 | 3 => iS3 | _ => iS4, ?_⟩
    intro k q hq
    match k, hq with
    | 0, hq => cases hq; exact hKn0
    | 1, hq => cases hq; exact hKn1
    | 2, hq => cases hq; exact hKn2
    | 3, hq => cases hq; exact hKn3
    | 4, hq => cases hq; exact hKn4
    | k + 5, hq => simp [vwCl] at hq
  obtain ⟨D, hDe⟩ : ∃ D : zG, D = (dC, dI) := ⟨_, rfl⟩
  have hK : va_K D vwCl [] s := by rw [hDe]; exact ⟨hKc, fun k q h => by simp at h⟩
  have hP : va_P D vwCl [] s.heap := fun k q h => by simp at h
  have hD : va_D A [] := ⟨fun i j p q h => by simp at h, fun k q h => by simp at h⟩
  have hS : va_S A s.heap s.heap [] := va_S.rf
  have hl := lv_entry ([.ref b]) (n := 19) (Nat.le_of_ble_eq_true rfl)
  rw [lg_entry_eq]
  generalize (lg_sl ([.ref b]) ++ List.replicate (19 - (lg_sl ([.ref b])).length) Slot.unset).toArray = ls at hl ⊢
  have hl : lv_has ls 19 [(0, .ref b)] := hl
  refine va_new (D := D) (ci := 3) (fs := [.null, .int 0, .int 0, .int 0, .int 0, .int 0, .null, .int 0, .int 0, .int 0, .null, .null, .null, .int 0]) (C := RX3) (T := TX3) (N := 14) hx hb hts inT_X3 tyX3 tyX3_ok hown (hts (.classLink RL 29 RX3) (List.mem_of_getElem? (i := 39) (by decide +kernel))) (hts (.instantiable RX3 14) (List.mem_of_getElem? (i := 40) (by decide +kernel))) (hts (.initialized RX3) (List.mem_of_getElem? (i := 27) (by decide +kernel))) hK hP hD hS hA rfl (fun j hj => by rcases (show j = 0 ∨ j = 1 ∨ j = 2 ∨ j = 3 ∨ j = 4 ∨ j = 5 ∨ j = 6 ∨ j = 7 ∨ j = 8 ∨ j = 9 ∨ j = 10 ∨ j = 11 ∨ j = 12 ∨ j = 13 by omega) with rfl | rfl | rfl | rfl | rfl | rfl | rfl | rfl | rfl | rfl | rfl | rfl | rfl | rfl <;> rfl) (by omega) (by omega) dL_law_0 (fun o H hP hD hS => ?_)
  have hP : va_P D vwCl ([(o, .inr (3, [.null, .int 0, .int 0, .int 0, .int 0, .int 0, .null, .int 0, .int 0, .int 0, .null, .null, .null, .int 0]))]) H := hP
  have hD : va_D A ([(o, .inr (3, [.null, .int 0, .int 0, .int 0, .int 0, .int 0, .null, .int 0, .int 0, .int 0, .null, .null, .null, .int 0]))]) := hD
  refine lv_dup hx hb dL_law_3 rfl ?_
  refine zcallvIK (As := []) (rest := [.ref o]) (wc := [(o, .inr (3, [.null, .int 0, .int 0, .int 0, .int 0, .int 0, .null, .int 0, .int 0, .int 0, .null, .null, .null, .int 0]))]) (wr := []) ⟨hx, hb, hml, hown, hts⟩ (c_PS_init l D _ o) (⟨callB_of 0 hts zg_X3_init rfl rfl rfl (hts (.initialized RX3) (List.mem_of_getElem? (i := 27) (by decide +kernel))) (hts (.methodLink RL 41 yX3_init) (List.mem_of_getElem? (i := 41) (by decide +kernel))) (by decide +kernel) ⟨by rw [hRf]; exact Nat.le_of_ble_eq_true rfl, by rw [hRl]; exact Nat.le_of_ble_eq_true rfl⟩, rfl, (hts (.instanceMethod yX3_init) (List.mem_of_getElem? (i := 42) (by decide +kernel)))⟩) (fun _ U _ _ h => ⟨h.1.moved (Vm.Alike.refl U.vm), h.2.1.moved (Vm.Alike.refl U.vm), h.2.2.1.moved (Vm.Alike.refl U.vm), va_Nw.same rfl rfl h.2.2.2⟩) (fun U hW => ⟨(va_AO.of (hts (.arrayOver (.object RX0)) (List.mem_of_getElem? (i := 50) (by decide +kernel)))).moved hW.alike, (va_AO.of (hts (.arrayOver (.object RX1)) (List.mem_of_getElem? (i := 48) (by decide +kernel)))).moved hW.alike, (va_AO.of (hts (.arrayOver (.object RX2)) (List.mem_of_getElem? (i := 130) (by decide +kernel)))).moved hW.alike, va_Nw.warmM hW (va_Nw.of rfl (hts (.methodLinkNest RX3 51 yX0_init "PalletStack") (List.mem_of_getElem? (i := 52) (by decide +kernel))))⟩) hK hP hD hS hA [0] [] rfl (by decide) rfl (by decide) (by decide) [] rfl rfl hl.1 rfl (Nat.le_of_ble_eq_true rfl) dL_law_4 ⟨by omega, by omega⟩ (fun B H locs hwB hnB hzB hK hP hD hS => ?_)
  obtain ⟨hB, hqk, hql, hA5⟩ := hwB
  have hK : va_K D vwCl (qT B) s := hK
  have hP : va_P D vwCl (qG B qRn qNew) H := hP
  have hD : va_D A (qG B qRn qNew) := hD
  refine lv_astore_n (lv' := [(1, .ref o), (0, .ref b)]) hx hb dL_law_7 rfl hl (by decide) rfl (fun ls hl => ?_)
  rw [← hA5] at hl
  refine lv_aload_n hx hb dL_law_8 rfl (lv_at hl 0 rfl) ?_
  refine lv_aload_n hx hb dL_law_9 rfl (lv_at hl 1 rfl) ?_
  refine lv_iconst (v := 0) hx hb dL_law_10 (by decide) ?_
  have hbsz : b < H.size := Nat.lt_of_lt_of_le hbl hS.1
  have hbW : ∀ (k : Nat) (q : Nat × va_E), (qG B qRn qNew)[k]? = some q → q.1 ≠ b := fun k q hq h9 => hbA (by rw [← h9]; exact hD.2 k q hq)
  have hAO : qAO s := qAO.of (hts (.arrayOver (.array .int)) (List.mem_of_getElem? (i := 500) (by decide +kernel)))
  have hX9 : va_X b L xs s H := hX0.kept (hS.2.1 b hbl hbA)
  refine qcallqK (As := [.ref (qA B 5 0), .ref b, .int (nI 0)]) (rest := []) ⟨hx, hb, hml, hown, hts⟩ (c_build l D _ B b L xs hL hB hqk hql hbsz hbW) (va_cwS 3 hts zgS_L_build rfl rfl rfl (by decide +kernel) ⟨by rw [hRf]; exact Nat.le_of_ble_eq_true rfl, by rw [hRl]; exact Nat.le_of_ble_eq_true rfl⟩) (fun _ U _ _ h => ⟨qXb _ U _ _ h.1, h.2.1.moved (Vm.Alike.refl U.vm), va_Nw.same rfl rfl h.2.2⟩) (fun U hU hW => ⟨by rw [hU]; exact va_X.moved hW.alike hX9, hAO.moved hW.alike, va_Nw.warmM hW (va_Nw.of rfl (hts (.methodLinkNest RL 11 yX4_init "PalletStackLaw") (List.mem_of_getElem? (i := 495) (by decide +kernel))))⟩) hK hP hD hS hA [0, 1, 2, 3] rfl rfl hl.1 rfl (Nat.le_of_ble_eq_true rfl) dL_law_11 ⟨by omega, by omega⟩ (fun r9 u9 H locs hw9 hK hP hD hS => ?_)
  obtain ⟨B0, N0, cA, ad, F, rf, K, V⟩ := u9
  dsimp only at hw9 hK hP hD
  obtain ⟨hr9, hZ, hl0, hk2, hk5, hA6, hY, hV, hRv⟩ := hw9
  subst hr9
  have hK : va_K D vwCl (qT B0 ++ [(cA, .array .int)]) s := hK.sub [4, 5, 6, 7, 8] rfl
  refine W.eq (g2 := F0 m 14 ls [.ref (ad 0)]) (by rfl) ?_
  refine lv_astore_n (lv' := [(2, .ref (ad 0)), (1, .ref (qA B 5 0)), (0, .ref b)]) hx hb dL_law_14 rfl hl (by decide) rfl (fun ls hl => ?_)
  refine lv_aload_n hx hb dL_law_15 rfl (lv_at hl 0 rfl) ?_
  refine lv_ifnonnull (tgt := 21) hx hb dL_law_16 (by decide) ?_
  obtain ⟨o9, ho⟩ : ∃ o9, o9 = qA B0 5 0 := ⟨_, rfl⟩
  rw [← hA6, ← ho] at hl
  rw [← List.append_assoc] at hP hD
  refine lv_iconst (v := 2) hx hb dL_law_21 (by decide) ?_
  refine lv_aload_n hx hb dL_law_22 rfl (lv_at hl 2 rfl) ?_
  refine lv_bipush (v := 8) hx hb dL_law_23 (by decide) ?_
  refine zrdSX (As := [.ref b, .int 8]) (rest := [.int 2]) ⟨hx, hb, hml, hown, hts⟩ (c_cell l D _ b L xs hL 8 (by omega)) (va_cwS 2 hts zgS_L_cell rfl rfl rfl (by decide +kernel) ⟨by rw [hRf]; exact Nat.le_of_ble_eq_true rfl, by rw [hRl]; exact Nat.le_of_ble_eq_true rfl⟩) hK (hX0.kept (hS.2.1 b hbl hbA)) rfl hl.1 rfl (Nat.le_of_ble_eq_true rfl) dL_law_25 ⟨by omega, by omega⟩ (fun x_20 hx_20 => ?_)
  refine lv_iconst (v := 3) hx hb dL_law_28 (by decide) ?_
  refine zrdS (As := [.int x_20, .int 3]) (rest := [.int 2]) (wc := []) ⟨hx, hb, hml, hown, hts⟩ (c_below l D _ x_20 3 (by omega) (by omega)) (va_cwS 2 hts zgS_L_below rfl rfl rfl (by decide +kernel) ⟨by rw [hRf]; exact Nat.le_of_ble_eq_true rfl, by rw [hRl]; exact Nat.le_of_ble_eq_true rfl⟩) hK hP hD [] rfl (by decide) [] rfl rfl hl.1 rfl (Nat.le_of_ble_eq_true rfl) dL_law_29 ⟨by omega, by omega⟩ (fun r_21 hr_21 => ?_)
  obtain ⟨z_22, hz_22, bz_22⟩ := hr_21
  subst hz_22
  refine lv_iadd hx hb dL_law_32 ?_
  refine lv_topi (fun v_23 ev_23 => ?_)
  obtain rfl : v_23 = (nI (2 + z_22)) := ev_23.trans (nI_add 2 _)
  obtain ⟨lines, hlin⟩ : ∃ n, n = 2 + z_22 := ⟨_, rfl⟩
  rw [← hlin]
  refine lv_istore_n (lv' := [(3, .int (nI lines)), (2, .ref (ad 0)), (1, .ref o9), (0, .ref b)]) hx hb dL_law_33 rfl hl (by decide) rfl (fun ls hl => ?_)
  refine lv_iconst (v := 0) hx hb dL_law_34 (by decide) ?_
  refine lv_istore (lv' := [(4, .int 0), (3, .int (nI lines)), (2, .ref (ad 0)), (1, .ref o9), (0, .ref b)]) hx hb dL_law_35 hl (by decide) rfl (fun ls hl => ?_)
  refine lv_iconst (v := 0) hx hb dL_law_37 (by decide) ?_
  refine lv_istore (lv' := [(5, .int 0), (4, .int 0), (3, .int (nI lines)), (2, .ref (ad 0)), (1, .ref o9), (0, .ref b)]) hx hb dL_law_38 hl (by decide) rfl (fun ls hl => ?_)
  have hl := lv_sub hl (l' := [(5, .int 0), (4, .int 0), (3, .int (nI lines)), (2, .ref (ad 0)), (1, .ref o9), (0, .ref b)]) [0, 1, 2, 3, 4, 5] rfl
  refine W.widen (k := 300 + 0) (n := 6000 + 3 * 0) (by omega) (by omega) ?_
  generalize hQe : lw_Z below #[Value.ref b] s = Q
  have hw0 : qWn B0 N0 = 0 := by unfold qWn; rw [hl0]; rfl
  have loop : ∀ (k9 l9 : Nat), l9 + k9 = lines → ∀ (B1 : qB) (N1 : qN0), qZ B1 N1 → ql B1 = l9 → qk B1 = qk B0 → qA B1 5 0 = o9 → qY B1 = qY B0 → qLs B1 N1 → qRv N1 rf → (∀ k, k < qk B0 → F k = some (K k) ∧ qKv N1 V k) → ∀ (H : Heap) (locs : List Loc) (ls : Array Slot), va_P D vwCl ((qHX cA (qY B0 2) ad (qk B0) F rf ++ qKx (qY B0 2) K V (qk B0)) ++ qG B1 qRn N1) H → va_D A ((qHX cA (qY B0 2) ad (qk B0) F rf ++ qKx (qY B0 2) K V (qk B0)) ++ qG B1 qRn N1) → va_S A s.heap H locs → lv_has ls 19 [(5, .int (nI l9)), (4, .int (nI (qWn B1 N1))), (3, .int (nI lines)), (2, .ref (ad 0)), (1, .ref o9), (0, .ref b)] → W p l e room_1 s m #[Value.ref b] below meth c H locs (300 + l9) (6000 + 3 * l9) Q (F0 m 40 ls []) := by
    intro k9
    induction k9 with
    | zero =>
      intro l9 hl9 B1 N1 hZ hl1 hk1 hA5 hY1 hLs hRv hV H locs ls hP hD hS hl
      obtain rfl : lines = l9 := by omega
      have hK : va_K D vwCl (qT B1 ++ [(cA, .array .int)]) s := by unfold qT; rw [hY1]; exact hK
      refine lv_iload hx hb dL_law_40 (lv_at hl 0 rfl) ?_
      refine lv_iload_n hx hb dL_law_42 rfl (lv_at hl 2 rfl) ?_
      refine lv_icmp_ge (tgt := 103) hx hb dL_law_43 (by decide) (fun c_24 => ?_) (fun c_24 => absurd (Int32.le_refl _) c_24)
      have hP : va_P D vwCl ((qHX cA (qY B1 2) ad (qk B1) F rf ++ qKx (qY B1 2) K V (qk B1)) ++ qG B1 qRn N1) H := by rw [hY1, hk1]; exact hP
      have hD : va_D A ((qHX cA (qY B1 2) ad (qk B1) F rf ++ qKx (qY B1 2) K V (qk B1)) ++ qG B1 qRn N1) := by rw [hY1, hk1]; exact hD
      rw [← hA5] at hl
      have hl := lv_sub hl (l' := [(4, .int (nI (qWn B1 N1))), (3, .int (nI lines)), (2, .ref (ad 0)), (1, .ref (qA B1 5 0))]) [1, 2, 3, 4] rfl
      rw [← hQe]
      subst hAe
      exact z_mid C1 D B1 N1 hZ hLs cA ad F rf K V hK hRv (fun k hk => hV k (by rw [← hk1]; exact hk)) lines hl1.symm (by omega) (300 + lines) (6000 + 3 * lines) (by omega) (by omega) H locs ls hP hD hS hl
    | succ k9 ih =>
      intro l9 hl9 B1 N1 hZ hl1 hk1 hA5 hY1 hLs hRv hV H locs ls hP hD hS hl
      have hK : va_K D vwCl (qT B1 ++ [(cA, .array .int)]) s := by unfold qT; rw [hY1]; exact hK
      refine lv_iload hx hb dL_law_40 (lv_at hl 0 rfl) ?_
      refine lv_iload_n hx hb dL_law_42 rfl (lv_at hl 2 rfl) ?_
      refine lv_icmp_ge (tgt := 103) hx hb dL_law_43 (by decide) (fun c_25 => absurd c_25 (nI_ge (by omega) (by omega))) (fun c_25 => ?_)
      refine lv_iconst (v := 1) hx hb dL_law_46 (by decide) ?_
      refine lv_aload_n hx hb dL_law_47 rfl (lv_at hl 5 rfl) ?_
      refine lv_bipush (v := 9) hx hb dL_law_48 (by decide) ?_
      refine lv_iload hx hb dL_law_50 (lv_at hl 0 rfl) ?_
      refine lv_iadd hx hb dL_law_52 ?_
      refine lv_topi (fun v_26 ev_26 => ?_)
      obtain rfl : v_26 = (nI (9 + l9)) := ev_26.trans (nI_add 9 _)
      refine zrdSX (As := [.ref b, .int (nI (9 + l9))]) (rest := [.int 1]) ⟨hx, hb, hml, hown, hts⟩ (c_cell l D _ b L xs hL (9 + l9) (by omega)) (va_cwS 2 hts zgS_L_cell rfl rfl rfl (by decide +kernel) ⟨by rw [hRf]; exact Nat.le_of_ble_eq_true rfl, by rw [hRl]; exact Nat.le_of_ble_eq_true rfl⟩) hK (hX0.kept (hS.2.1 b hbl hbA)) rfl hl.1 rfl (Nat.le_of_ble_eq_true rfl) dL_law_53 ⟨by omega, by omega⟩ (fun x_27 hx_27 => ?_)
      refine lv_iconst (v := 4) hx hb dL_law_56 (by decide) ?_
      refine lv_ishr hx hb dL_law_57 ?_
      refine lv_bipush (v := 7) hx hb dL_law_58 (by decide) ?_
      refine zrdS (As := [.int (x_27 >>> (4 &&& 31)), .int 7]) (rest := [.int 1]) (wc := []) ⟨hx, hb, hml, hown, hts⟩ (c_below l D _ (x_27 >>> (4 &&& 31)) 7 (by omega) (by omega)) (va_cwS 2 hts zgS_L_below rfl rfl rfl (by decide +kernel) ⟨by rw [hRf]; exact Nat.le_of_ble_eq_true rfl, by rw [hRl]; exact Nat.le_of_ble_eq_true rfl⟩) hK hP hD [] rfl (by decide) [] rfl rfl hl.1 rfl (Nat.le_of_ble_eq_true rfl) dL_law_60 ⟨by omega, by omega⟩ (fun r_28 hr_28 => ?_)
      obtain ⟨z_29, hz_29, bz_29⟩ := hr_28
      subst hz_29
      refine lv_iadd hx hb dL_law_63 ?_
      refine lv_topi (fun v_30 ev_30 => ?_)
      obtain rfl : v_30 = (nI (1 + z_29)) := ev_30.trans (nI_add 1 _)
      refine lv_istore (lv' := [(6, .int (nI (1 + z_29))), (5, .int (nI l9)), (4, .int (nI (qWn B1 N1))), (3, .int (nI lines)), (2, .ref (ad 0)), (1, .ref o9), (0, .ref b)]) hx hb dL_law_64 hl (by decide) rfl (fun ls hl => ?_)
      refine lv_aload_n hx hb dL_law_66 rfl (lv_at hl 5 rfl) ?_
      refine lv_aload_n hx hb dL_law_67 rfl (lv_at hl 6 rfl) ?_
      refine lv_bipush (v := 9) hx hb dL_law_68 (by decide) ?_
      refine lv_iload hx hb dL_law_70 (lv_at hl 1 rfl) ?_
      refine lv_iadd hx hb dL_law_72 ?_
      refine lv_topi (fun v_31 ev_31 => ?_)
      obtain rfl : v_31 = (nI (9 + l9)) := ev_31.trans (nI_add 9 _)
      refine zrdSX (As := [.ref b, .int (nI (9 + l9))]) (rest := [.ref o9]) ⟨hx, hb, hml, hown, hts⟩ (c_cell l D _ b L xs hL (9 + l9) (by omega)) (va_cwS 2 hts zgS_L_cell rfl rfl rfl (by decide +kernel) ⟨by rw [hRf]; exact Nat.le_of_ble_eq_true rfl, by rw [hRl]; exact Nat.le_of_ble_eq_true rfl⟩) hK (hX0.kept (hS.2.1 b hbl hbA)) rfl hl.1 rfl (Nat.le_of_ble_eq_true rfl) dL_law_73 ⟨by omega, by omega⟩ (fun x_32 hx_32 => ?_)
      refine lv_aload_n hx hb dL_law_76 rfl (lv_at hl 4 rfl) ?_
      refine va_get (D := D) (ci := 4) (v := .ref (ad 1)) (C := RX4) (T := TX4) (N := 4) hx hb hts inT_X4 hown hK hP 0 rfl rfl 0 (by decide) (hts (.fieldLink RL 24 "PalletStackLaw$Hand" "kinds" "[[I") (List.mem_of_getElem? (i := 502) (by decide +kernel))) (fun _ h9 => h9) rfl dL_law_77 ?_
      refine va_alen hx hb hK hP 2 4 rfl rfl (v := nI (qk B0)) rfl dL_law_80 ?_
      refine zrdS (As := [.int x_32, .int (nI (qk B0))]) (rest := [.ref o9]) (wc := []) ⟨hx, hb, hml, hown, hts⟩ (c_below l D _ x_32 (qk B0) (by omega) (by omega)) (va_cwS 2 hts zgS_L_below rfl rfl rfl (by decide +kernel) ⟨by rw [hRf]; exact Nat.le_of_ble_eq_true rfl, by rw [hRl]; exact Nat.le_of_ble_eq_true rfl⟩) hK hP hD [] rfl (by decide) [] rfl rfl hl.1 rfl (Nat.le_of_ble_eq_true rfl) dL_law_81 ⟨by omega, by omega⟩ (fun r_33 hr_33 => ?_)
      obtain ⟨z_34, hz_34, bz_34⟩ := hr_33
      subst hz_34
      refine lv_iload hx hb dL_law_84 (lv_at hl 0 rfl) ?_
      have hM := c_addLine l D H.size B1 qRn N1 z_34 (1 + z_29) (by omega) ⟨by omega, by omega⟩ hZ.1 (by omega)
      rw [hA5] at hM
      refine qcalliX (X := (qHX cA (qY B0 2) ad (qk B0) F rf ++ qKx (qY B0 2) K V (qk B0))) (As := [.int (nI z_34), .int (nI (1 + z_29))]) (rest := []) ⟨hx, hb, hml, hown, hts⟩ hM (cwV 2 hts zgV_X3_addLine rfl rfl rfl (by decide +kernel) ⟨by rw [hRf]; exact Nat.le_of_ble_eq_true rfl, by rw [hRl]; exact Nat.le_of_ble_eq_true rfl⟩) hK hP hD hS hA [0, 1, 2, 3] rfl (ci := 3) (q0 := 0) rfl (by rw [← hA5]; rfl) rfl hl.1 rfl (Nat.le_of_ble_eq_true rfl) dL_law_86 ⟨by omega, by omega⟩ (fun r9 u9 H locs hw9 hP hD hS => ?_)
      refine lv_pop hx hb dL_law_89 rfl ?_
      refine lv_iload hx hb dL_law_90 (lv_at hl 2 rfl) ?_
      refine lv_iload hx hb dL_law_92 (lv_at hl 0 rfl) ?_
      refine lv_iadd hx hb dL_law_94 ?_
      refine lv_topi (fun v_35 ev_35 => ?_)
      obtain rfl : v_35 = (nI (qWn B1 N1 + (1 + z_29))) := ev_35.trans (nI_add _ _)
      refine lv_istore (lv' := [(4, .int (nI (qWn B1 N1 + (1 + z_29)))), (6, .int (nI (1 + z_29))), (5, .int (nI l9)), (3, .int (nI lines)), (2, .ref (ad 0)), (1, .ref o9), (0, .ref b)]) hx hb dL_law_95 hl (by decide) rfl (fun ls hl => ?_)
      refine lv_iinc (v := (nI (l9 + 1))) (lv' := [(5, .int (nI (l9 + 1))), (4, .int (nI (qWn B1 N1 + (1 + z_29)))), (6, .int (nI (1 + z_29))), (3, .int (nI lines)), (2, .ref (ad 0)), (1, .ref o9), (0, .ref b)]) hx hb dL_law_97 hl (k := 2) rfl (nI_1 l9) (by decide) rfl (fun ls hl => ?_)
      refine lv_goto (tgt := 40) hx hb dL_law_100 (by decide) ?_
      have hl := lv_sub hl (l' := [(5, .int (nI (l9 + 1))), (4, .int (nI (qWn B1 N1 + (1 + z_29)))), (3, .int (nI lines)), (2, .ref (ad 0)), (1, .ref o9), (0, .ref b)]) [0, 1, 3, 4, 5, 6] rfl
      rw [← qWn_line (B := B1) (N := N1) (a := u9) (k := z_34) (x := 1 + z_29)] at hl
      refine W.widen (k := 300 + (l9 + 1)) (n := 6000 + 3 * (l9 + 1)) (by omega) (by omega) ?_
      exact ih (l9 + 1) (by omega) (qBl B1 u9) (qNl N1 (ql B1) z_34 (1 + z_29)) (qZ_line hZ (by omega) (by omega) (by omega)) (by show ql B1 + 1 = l9 + 1; rw [hl1]) hk1 ((qBl_A (by omega)).trans hA5) hY1 (qLs_line (by omega) hLs) (qRv_line hRv) (fun k hk => ⟨(hV k hk).1, qKv_2 (qNl_2 _ _ _ _) (hV k hk).2⟩) H locs ls hP hD hS hl
  exact loop lines 0 (by omega) B0 N0 hZ hl0 rfl ho.symm rfl (fun k hk => by omega) hRv hV H locs ls hP hD hS (by rw [hw0]; exact hl)
