set_option maxHeartbeats 4000000 in
set_option maxRecDepth 100000 in
theorem c_build (l : Launch) (D : zG) (sz : Nat) (B : qB) (b L : Nat) (xs : Nat → Int32) (hL : L ≤ 1000) (hB : qFull B qRn qNew (fun _ _ => 0)) (hqk : qk B = 0) (hql : ql B = 0) (hbsz : b < sz) (hbW : ∀ (k : Nat) (q : Nat × va_E), (qG B qRn qNew)[k]? = some q → q.1 ≠ b) : Met l yL_build wsL_build ({ frames := 4, cells := 20, slots := 200, locals := 100 }) (zPcK D (qT B) (qG B qRn qNew) sz (fun U => va_X b L xs U U.heap ∧ qAO U ∧ va_Nw (.methodLinkNest RL 11 yX4_init "PalletStackLaw") U) [.ref (qA B 5 0), .ref b, .int (nI 0)]) (va_Qq (fun (r : Option Nat) (u : qB × qN0 × ClassId × (Nat → Nat) × (Nat → Option Nat) × (Nat → Int32) × (Nat → Nat) × (Nat → Nat → Nat)) => r = some (u.2.2.2.1 0) ∧ qZ u.1 u.2.1 ∧ ql u.1 = 0 ∧ 2 ≤ qk u.1 ∧ qk u.1 ≤ 5 ∧ qA u.1 5 0 = qA B 5 0 ∧ qY u.1 = qY B ∧ (∀ k, k < qk u.1 → u.2.2.2.2.1 k = some (u.2.2.2.2.2.2.1 k) ∧ qKv u.2.1 u.2.2.2.2.2.2.2 k) ∧ qRv u.2.1 u.2.2.2.2.2.1) (zB D (va_A (qG B qRn qNew) sz) (fun u => qT u.1 ++ [(u.2.2.1, .array .int)]) 0 (fun u => qHX u.2.2.1 (qY u.1 2) u.2.2.2.1 (qk u.1) u.2.2.2.2.1 u.2.2.2.2.2.1 ++ (qKx (qY u.1 2) u.2.2.2.2.2.2.1 u.2.2.2.2.2.2.2 (qk u.1) ++ qG u.1 qRn u.2.1))) (va_A (qG B qRn qNew) sz)) 20 200 (va_A (qG B qRn qNew) sz) := by
  refine Met.ofW (cc := cL_build) (maxL := 7) (ret := (some (.object "PalletStackLaw$Hand"))) (by decide) rfl ?_
  intro p e s m args below meth c s₁ B9 hml hv
  obtain ⟨rfl, ⟨hsz, hP, hK, hD0⟩, hKx⟩ := hv
  have hx := B9.exec
  have hb := B9.bytes
  have hr := B9.returns
  have hts := atoms_spec (ws := wsL_build) B9.pre
  have hown : s.vm.findClass RL = some m.cls := findClass_of_methodNamed B9.named
  have hlocks := B9.notSynchronized
  subst hsz
  have hD := hD0.self (sz := s.heap.size)
  obtain ⟨hX0, hAO, hNL⟩ := hKx
  have hbl : b < s.heap.size := hbsz
  have hbA : ¬ va_A (qG B qRn qNew) s.heap.size b := fun h => by
    rcases h with ⟨k, e9, h9⟩ | h9
    · exact hbW k _ h9 rfl
    · omega
  generalize hAe : va_A (qG B qRn qNew) s.heap.size = A at hD hbA ⊢
  have hA : ∀ q : Nat, s.heap.size ≤ q → A q := fun q h => by rw [← hAe]; exact Or.inr h
  have hS : va_S A s.heap s.heap [] := va_S.rf
  have hl := lv_entry ([.ref (qA B 5 0), .ref b, .int (nI 0)]) (n := 7) (Nat.le_of_ble_eq_true rfl)
  rw [lg_entry_eq]
  generalize (lg_sl ([.ref (qA B 5 0), .ref b, .int (nI 0)]) ++ List.replicate (7 - (lg_sl ([.ref (qA B 5 0), .ref b, .int (nI 0)])).length) Slot.unset).toArray = ls at hl ⊢
  have hl : lv_has ls 7 [(0, .ref (qA B 5 0)), (1, .ref b), (2, .int (nI 0))] := hl
  have hP : va_P D vwCl (qG B qRn qNew) s.heap := hP
  generalize hRe : (headSpec _ _).room = R9
  have hRf : R9.frames = 4 := by rw [← hRe]; rfl
  have hRc : R9.cells = 20 := by rw [← hRe]; rfl
  have hRs : R9.slots = 200 := by rw [← hRe]; rfl
  have hRl : R9.locals = 100 := by rw [← hRe]; rfl
  clear hRe
  have hZ0 := qZ_new hB
  refine va_new (D := D) (ci := 4) (fs := [.null, .null, .int 0, .null]) (C := RX4) (T := TX4) (N := 4) hx hb hts (fun _ h9 => List.mem_cons_of_mem _ (List.mem_append_left _ (List.mem_append_left _ (List.mem_append_left _ (List.mem_append_left _ (List.mem_append_right _ h9)))))) tyX4 tyX4_ok hown (hts (.classLink RL 9 RX4) (List.mem_of_getElem? (i := 1) (by rfl))) (hts (.instantiable RX4 4) (List.mem_of_getElem? (i := 2) (by rfl))) (hts (.initialized RX4) (List.mem_of_getElem? (i := 3) (by rfl))) hK hP hD hS hA rfl (fun j hj => by rcases (show j = 0 ∨ j = 1 ∨ j = 2 ∨ j = 3 by omega) with rfl | rfl | rfl | rfl <;> rfl) (by omega) (by omega) dL_build_0 (fun q_1 H hP hD hS => ?_)
  refine lv_dup hx hb dL_build_3 rfl ?_
  refine zcallvINK (As := []) (rest := [.ref q_1]) (wc := [(q_1, .inr (4, [.null, .null, .int 0, .null]))]) (wr := qG B qRn qNew) ⟨hx, hb, hml, hown, hts⟩ (c_Hand_init l D _ q_1) (⟨va_cnB (host := "PalletStackLaw") 0 hts gL_build_X4_init_n11 rfl rfl rfl (hNL) (hts (.initialized RX4) (List.mem_of_getElem? (i := 3) (by rfl))) (by decide +kernel) ⟨by rw [hRf]; exact Nat.le_of_ble_eq_true rfl, by rw [hRl]; exact Nat.le_of_ble_eq_true rfl⟩, rfl, (hts (.instanceMethod yX4_init) (List.mem_of_getElem? (i := 8) (by rfl)))⟩) (fun _ U _ _ h => h.moved (Vm.Alike.refl U.vm)) (fun U hW => hAO.moved hW.alike) hK hP hD hS hA (qCi (qG B qRn qNew) [(q_1, .inr (4, [.null, .null, .int 0, .null]))]) (qRi (qG B qRn qNew)) (qCi_C _ _) (qCi_nd _ _) (qRi_R _ _) (qRi_nd _) (qRi_dis _ _) [] rfl rfl hl.1 rfl (Nat.le_of_ble_eq_true rfl) dL_build_4 ⟨by omega, by omega⟩ (fun u_2 H locs hwu_2 hnu_2 hzu_2 hK9 hP hD hS => ?_)
  obtain ⟨ad0, rf, cI⟩ := u_2
  obtain ⟨r0, r1, r2, r3⟩ := hwu_2
  dsimp only at r0 r1 r2 r3 hP hD hK9
  have ec := qKu hK9 (i := 4) (j := 2) rfl rfl
  rw [ec] at hP hD
  have hP : va_P D vwCl ([(q_1, .inr (4, [.ref (ad0 1), .ref (ad0 2), .int 0, .ref (ad0 3)])), (ad0 3, .inl (qY B 2, 4, .inl rf))] ++ qG B qRn qNew) H := va_P.swap (a := []) hP
  have hD : va_D A ([(q_1, .inr (4, [.ref (ad0 1), .ref (ad0 2), .int 0, .ref (ad0 3)])), (ad0 3, .inl (qY B 2, 4, .inl rf))] ++ qG B qRn qNew) := va_D.swap (a := []) hD
  refine lv_astore_n (lv' := [(3, .ref q_1), (0, .ref (qA B 5 0)), (1, .ref b), (2, .int (nI 0))]) hx hb dL_build_7 rfl hl (by decide) rfl (fun ls hl => ?_)
  refine lv_iconst (v := 2) hx hb dL_build_8 (by decide) ?_
  refine lv_aload_n hx hb dL_build_9 rfl (lv_at hl 2 rfl) ?_
  refine lv_iload_n hx hb dL_build_10 rfl (lv_at hl 3 rfl) ?_
  refine zrdSX (As := [.ref b, .int (nI 0)]) (rest := [.int 2]) ⟨hx, hb, hml, hown, hts⟩ (c_cell l D _ b L xs hL 0 (by omega)) (va_cwS 2 hts gL_build_L_cell rfl rfl rfl (by decide +kernel) ⟨by rw [hRf]; exact Nat.le_of_ble_eq_true rfl, by rw [hRl]; exact Nat.le_of_ble_eq_true rfl⟩) hK (hX0.kept (hS.2.1 b hbl hbA)) rfl hl.1 rfl (Nat.le_of_ble_eq_true rfl) dL_build_11 ⟨by omega, by omega⟩ (fun x_3 hx_3 => ?_)
  refine lv_iconst (v := 4) hx hb dL_build_14 (by decide) ?_
  refine zrdS (As := [.int x_3, .int 4]) (rest := [.int 2]) (wc := []) ⟨hx, hb, hml, hown, hts⟩ (c_below l D _ x_3 4 (by omega) (by omega)) (va_cwS 2 hts gL_build_L_below rfl rfl rfl (by decide +kernel) ⟨by rw [hRf]; exact Nat.le_of_ble_eq_true rfl, by rw [hRl]; exact Nat.le_of_ble_eq_true rfl⟩) hK hP hD [] rfl (by decide) [] rfl rfl hl.1 rfl (Nat.le_of_ble_eq_true rfl) dL_build_15 ⟨by omega, by omega⟩ (fun r_4 hr_4 => ?_)
  obtain ⟨z_5, hz_5, bz_5⟩ := hr_4
  subst hz_5
  refine lv_iadd hx hb dL_build_18 ?_
  refine lv_topi (fun v_6 ev_6 => ?_)
  obtain rfl : v_6 = (nI (2 + z_5)) := ev_6.trans (nI_add 2 _)
  obtain ⟨many, hmany⟩ : ∃ n, n = 2 + z_5 := ⟨_, rfl⟩
  rw [← hmany]
  refine lv_istore (lv' := [(4, .int (nI many)), (3, .ref q_1), (0, .ref (qA B 5 0)), (1, .ref b), (2, .int (nI 0))]) hx hb dL_build_19 hl (by decide) rfl (fun ls hl => ?_)
  refine lv_aload_n hx hb dL_build_21 rfl (lv_at hl 1 rfl) ?_
  refine lv_iload hx hb dL_build_22 (lv_at hl 0 rfl) ?_
  refine qnewA (N' := many) hx hb hown (hts (.classLink RL 22 "[I") (List.mem_of_getElem? (i := 4) (by rfl))) (hAO.use) hK hP hD hS hA (nI_pos (by omega)) (nI_clamp (by omega)) (by omega) (by omega) (by omega) dL_build_24 (fun q_7 cy_8 H hKA hK9 hP hD hS => ?_)
  have hK : va_K D vwCl (qT B ++ [(cy_8, .array .int)]) s := hK9
  refine va_put (D := D) (ci := 4) (v := .ref q_7) (ty := .array (.array .int)) (C := RX4) (T := TX4) (N := 4) hx hb hts (fun _ h9 => List.mem_cons_of_mem _ (List.mem_append_left _ (List.mem_append_left _ (List.mem_append_left _ (List.mem_append_left _ (List.mem_append_right _ h9)))))) tyX4 tyX4_ok nmX4 hown hK hP hD hS 0 rfl rfl 0 (by decide) (hts (.fieldLink RL 24 "PalletStackLaw$Hand" "kinds" "[[I") (List.mem_of_getElem? (i := 5) (by rfl))) (fun _ h9 => h9) rfl (by decide +kernel) rfl rfl (Nat.le_of_ble_eq_true rfl) dL_build_27 (fun H locs hP hD hS => ?_)
  obtain ⟨ad, had⟩ : ∃ f : Nat → Nat, f = fun i => [q_1, q_7, ad0 2, ad0 3].getD i 0 := ⟨_, rfl⟩
  have a0 : q_1 = ad 0 := by rw [had]; rfl
  have a1 : q_7 = ad 1 := by rw [had]; rfl
  have a2 : ad0 2 = ad 2 := by rw [had]; rfl
  have a3 : ad0 3 = ad 3 := by rw [had]; rfl
  have hP : va_P D vwCl (([(ad 0, .inr (4, [.ref (ad 1), .ref (ad 2), .int 0, .ref (ad 3)])), (ad 3, .inl (qY B 2, 4, .inl rf))] ++ qG B qRn qNew) ++ [(ad 1, .inl (cy_8, many, .inr (.inr (.inr (.inr (fun _ => none))))))]) H := by rw [← a0, ← a1, ← a2, ← a3]; exact hP
  have hD : va_D A (([(ad 0, .inr (4, [.ref (ad 1), .ref (ad 2), .int 0, .ref (ad 3)])), (ad 3, .inl (qY B 2, 4, .inl rf))] ++ qG B qRn qNew) ++ [(ad 1, .inl (cy_8, many, .inr (.inr (.inr (.inr (fun _ => none))))))]) := by rw [← a0, ← a1, ← a2, ← a3]; exact hD
  have hP : va_P D vwCl (qHX cy_8 (qY B 2) ad many (fun _ => none) rf ++ (qKx (qY B 2) (fun _ => 0) (fun _ _ => 0) 0 ++ qG B qRn qNew)) H := hP.swap
  have hD : va_D A (qHX cy_8 (qY B 2) ad many (fun _ => none) rf ++ (qKx (qY B 2) (fun _ => 0) (fun _ _ => 0) 0 ++ qG B qRn qNew)) := hD.swap
  rw [a0] at hl
  obtain ⟨o, ho⟩ : ∃ o, o = qA B 5 0 := ⟨_, rfl⟩
  rw [← ho] at hl
  refine lv_iconst (v := 0) hx hb dL_build_30 (by decide) ?_
  refine lv_istore (lv' := [(5, .int 0), (4, .int (nI many)), (3, .ref (ad 0)), (0, .ref o), (1, .ref b), (2, .int (nI 0))]) hx hb dL_build_31 hl (by decide) rfl (fun ls hl => ?_)
  have hl := lv_sub hl (l' := [(5, .int 0), (4, .int (nI many)), (3, .ref (ad 0)), (2, .int (nI 0)), (1, .ref b), (0, .ref o)]) [0, 1, 2, 5, 4, 3] rfl
  generalize hQe : MQ _ _ _ _ _ _ _ = Q
  refine W.widen (k := 5 + 2 * 0) (n := 73 + 14 * 0) (by omega) (by omega) ?_
  have loop : ∀ (k9 i : Nat), i + k9 = many → ∀ (B1 : qB) (N1 : qN0) (F : Nat → Option Nat) (K : Nat → Nat) (V : Nat → Nat → Nat) (hZ : qZ B1 N1) (hl1 : ql B1 = 0) (hk1 : qk B1 = i) (hA5 : qA B1 5 0 = o) (hY : qY B1 = qY B) (hru : N1 4 1 1 = 20 ∧ N1 4 1 2 = 60 ∧ N1 4 1 3 = 2000) (hV : ∀ k, k < i → F k = some (K k) ∧ qKv N1 V k) (H : Heap) (locs : List Loc) (ls : Array Slot), va_P D vwCl (qHX cy_8 (qY B 2) ad many F rf ++ (qKx (qY B 2) K V i ++ qG B1 qRn N1)) H → va_D A (qHX cy_8 (qY B 2) ad many F rf ++ (qKx (qY B 2) K V i ++ qG B1 qRn N1)) → va_S A s.heap H locs → lv_has ls 7 [(5, .int (nI i)), (4, .int (nI many)), (3, .ref (ad 0)), (2, .int (nI 0)), (1, .ref b), (0, .ref o)] → W p l e R9 s m ([.ref (qA B 5 0), .ref b, .int (nI 0)] : List Value).toArray below meth c H locs (5 + 2 * i) (73 + 14 * i) Q (F0 m 33 ls []) := by
    intro k9
    induction k9 with
    | zero =>
      intro i hi B1 N1 F K V hZ hl1 hk1 hA5 hY hru hV H locs ls hP hD hS hl
      obtain rfl : many = i := by omega
      refine lv_iload hx hb dL_build_33 (lv_at hl 0 rfl) ?_
      refine lv_iload hx hb dL_build_35 (lv_at hl 1 rfl) ?_
      refine lv_icmp_ge (tgt := 262) hx hb dL_build_37 (by decide) (fun c_9 => ?_) (fun c_9 => absurd (Int32.le_refl _) c_9)
      refine lv_aload_n hx hb dL_build_262 rfl (lv_at hl 4 rfl) ?_
      refine lv_iload_n hx hb dL_build_263 rfl (lv_at hl 3 rfl) ?_
      refine zrdSX (As := [.ref b, .int (nI 0)]) (rest := []) ⟨hx, hb, hml, hown, hts⟩ (c_cell l D _ b L xs hL 0 (by omega)) (va_cwS 2 hts gL_build_L_cell rfl rfl rfl (by decide +kernel) ⟨by rw [hRf]; exact Nat.le_of_ble_eq_true rfl, by rw [hRl]; exact Nat.le_of_ble_eq_true rfl⟩) hK (hX0.kept (hS.2.1 b hbl hbA)) rfl hl.1 rfl (Nat.le_of_ble_eq_true rfl) dL_build_264 ⟨by omega, by omega⟩ (fun x_10 hx_10 => ?_)
      refine lv_istore (lv' := [(5, .int x_10), (4, .int (nI many)), (3, .ref (ad 0)), (2, .int (nI 0)), (1, .ref b), (0, .ref o)]) hx hb dL_build_267 hl (by decide) rfl (fun ls hl => ?_)
      refine lv_iload hx hb dL_build_269 (lv_at hl 0 rfl) ?_
      refine lv_iconst (v := 4) hx hb dL_build_271 (by decide) ?_
      refine lv_ishr hx hb dL_build_272 ?_
      refine lv_iconst (v := 2) hx hb dL_build_273 (by decide) ?_
      refine zrdS (As := [.int (x_10 >>> (4 &&& 31)), .int 2]) (rest := []) (wc := []) ⟨hx, hb, hml, hown, hts⟩ (c_below l D _ (x_10 >>> (4 &&& 31)) 2 (by omega) (by omega)) (va_cwS 2 hts gL_build_L_below rfl rfl rfl (by decide +kernel) ⟨by rw [hRf]; exact Nat.le_of_ble_eq_true rfl, by rw [hRl]; exact Nat.le_of_ble_eq_true rfl⟩) hK hP hD [] rfl (by decide) [] rfl rfl hl.1 rfl (Nat.le_of_ble_eq_true rfl) dL_build_274 ⟨by omega, by omega⟩ (fun r_11 hr_11 => ?_)
      obtain ⟨z_12, hz_12, bz_12⟩ := hr_11
      subst hz_12
      have hK : va_K D vwCl (qT B1 ++ [(cy_8, .array .int)]) s := by unfold qT; rw [hY]; exact hK
      have hrv : qRv N1 rf := ⟨by rw [hru.1]; exact r0, by rw [hru.2.1]; exact r1, by rw [hru.2.2]; exact r2⟩
      refine lv_if_ne (tgt := 386) hx hb dL_build_277 (by decide) (fun c_13 => ?_) (fun c_13 => ?_)
      · have h_b := True.intro
        have hP : va_P D vwCl (qHX cy_8 (qY B1 2) ad (qk B1) F rf ++ (qKx (qY B1 2) K V (qk B1) ++ qG B1 qRn N1)) H := by rw [hY, hk1]; exact hP
        have hD : va_D A (qHX cy_8 (qY B1 2) ad (qk B1) F rf ++ (qKx (qY B1 2) K V (qk B1) ++ qG B1 qRn N1)) := by rw [hY, hk1]; exact hD
        refine W.widen (k := 20) (n := 200) (by omega) (by omega) ?_
        refine lv_aload_n hx hb dL_build_386 rfl (lv_at hl 2 rfl) ?_
        rw [← hQe]
        rw [← hk1] at hV
        have h25 : 2 ≤ qk B1 ∧ qk B1 ≤ 5 := by omega
        exact W.aret (v := .ref (ad 0)) hx hb hr (.inl ⟨_, rfl⟩) (.inr ⟨_, rfl⟩) (fun t ht hW => ⟨⟨some (ad 0), (B1, N1, cy_8, ad, F, rf, K, V), rfl, ⟨rfl, hZ, hl1, h25.1, h25.2, hA5.trans ho, hY, hV, hrv⟩, ⟨Nat.zero_le _, by rw [ht]; exact hP, va_K.moved hW.alike (hK.sub (tys' := qT B1 ++ [(cy_8, .array .int)]) [0, 1, 2, 3, 4] rfl), hD⟩⟩, hS.F ht⟩) hS.2.2 dL_build_387
      · have h_b := True.intro
        refine lv_aload_n hx hb dL_build_280 rfl (lv_at hl 2 rfl) ?_
        refine lv_iconst (v := 4) hx hb dL_build_281 (by decide) ?_
        refine znewa (atype := .int) (ty := .int) (N' := 4) (a0 := (4, .inl (fun _ => 0))) hx hb (hts (.arrayClass .int) (List.mem_of_getElem? (i := 6) (by rfl))) rfl hK hP hD hS hA (fun _ => rfl) (by decide) rfl (Nat.le_of_ble_eq_true rfl) (by omega) (by omega) dL_build_282 (fun q_14 cy_15 H hz9 hK9 hP hD hS => ?_)
        have ec9 := qKu hK9 (i := 5) (j := 2) rfl rfl
        rw [ec9, hY] at hP hD
        have hP : va_P D vwCl ((qHX cy_8 (qY B 2) ad many F rf ++ (qKx (qY B 2) K V many ++ qG B1 qRn N1)) ++ [(q_14, .inl (qY B 2, 4, .inl (fun j => nI ((fun _ => 0) j))))]) H := hP
        have hD : va_D A ((qHX cy_8 (qY B 2) ad many F rf ++ (qKx (qY B 2) K V many ++ qG B1 qRn N1)) ++ [(q_14, .inl (qY B 2, 4, .inl (fun j => nI ((fun _ => 0) j))))]) := hD
        refine lv_dup hx hb dL_build_284 rfl ?_
        refine lv_iconst (v := 0) hx hb dL_build_285 (by decide) ?_
        refine lv_iconst (v := 4) hx hb dL_build_286 (by decide) ?_
        refine lv_iload hx hb dL_build_287 (lv_at hl 0 rfl) ?_
        refine lv_bipush (v := 6) hx hb dL_build_289 (by decide) ?_
        refine lv_ishr hx hb dL_build_291 ?_
        refine lv_bipush (v := 20) hx hb dL_build_292 (by decide) ?_
        refine zrdS (As := [.int (x_10 >>> (6 &&& 31)), .int 20]) (rest := [.int 4, .int 0, .ref q_14, .ref q_14, .ref (ad 0)]) (wc := []) ⟨hx, hb, hml, hown, hts⟩ (c_below l D _ (x_10 >>> (6 &&& 31)) 20 (by omega) (by omega)) (va_cwS 2 hts gL_build_L_below rfl rfl rfl (by decide +kernel) ⟨by rw [hRf]; exact Nat.le_of_ble_eq_true rfl, by rw [hRl]; exact Nat.le_of_ble_eq_true rfl⟩) hK hP hD [] rfl (by decide) [] rfl rfl hl.1 rfl (Nat.le_of_ble_eq_true rfl) dL_build_294 ⟨by omega, by omega⟩ (fun r_16 hr_16 => ?_)
        obtain ⟨z_17, hz_17, bz_17⟩ := hr_16
        subst hz_17
        refine lv_iadd hx hb dL_build_297 ?_
        refine lv_topi (fun v_18 ev_18 => ?_)
        obtain rfl : v_18 = (nI (4 + z_17)) := ev_18.trans (nI_add 4 _)
        refine va_iast hx hb hK hP hD hS (qHX cy_8 (qY B 2) ad many F rf ++ (qKx (qY B 2) K V many ++ qG B1 qRn N1)).length 2 qgx (by rw [← hY]; rfl) (vp_in_nI (n := 0) (N := 4) (by decide) (by decide)) dL_build_298 (fun H locs hP hD hS => ?_)
        rw [show Int32.toNatClampNeg 0 = 0 from rfl] at hP hD
        have hP : va_P D vwCl ((qHX cy_8 (qY B 2) ad many F rf ++ (qKx (qY B 2) K V many ++ qG B1 qRn N1)) ++ [(q_14, .inl (qY B 2, 4, .inl (fun j => nI ((qu (fun _ => 0) 0 (4 + z_17)) j))))]) H := by rw [← qupd, ← qgx_set (Y := (qHX cy_8 (qY B 2) ad many F rf ++ (qKx (qY B 2) K V many ++ qG B1 qRn N1)))]; exact hP
        have hD : va_D A ((qHX cy_8 (qY B 2) ad many F rf ++ (qKx (qY B 2) K V many ++ qG B1 qRn N1)) ++ [(q_14, .inl (qY B 2, 4, .inl (fun j => nI ((qu (fun _ => 0) 0 (4 + z_17)) j))))]) := by rw [← qupd, ← qgx_set (Y := (qHX cy_8 (qY B 2) ad many F rf ++ (qKx (qY B 2) K V many ++ qG B1 qRn N1)))]; exact hD
        refine lv_dup hx hb dL_build_299 rfl ?_
        refine lv_iconst (v := 1) hx hb dL_build_300 (by decide) ?_
        refine lv_iload hx hb dL_build_301 (lv_at hl 0 rfl) ?_
        refine lv_bipush (v := 8) hx hb dL_build_303 (by decide) ?_
        refine lv_ishr hx hb dL_build_305 ?_
        refine lv_bipush (v := 101) hx hb dL_build_306 (by decide) ?_
        refine zrdS (As := [.int (x_10 >>> (8 &&& 31)), .int 101]) (rest := [.int 1, .ref q_14, .ref q_14, .ref (ad 0)]) (wc := []) ⟨hx, hb, hml, hown, hts⟩ (c_below l D _ (x_10 >>> (8 &&& 31)) 101 (by omega) (by omega)) (va_cwS 2 hts gL_build_L_below rfl rfl rfl (by decide +kernel) ⟨by rw [hRf]; exact Nat.le_of_ble_eq_true rfl, by rw [hRl]; exact Nat.le_of_ble_eq_true rfl⟩) hK hP hD [] rfl (by decide) [] rfl rfl hl.1 rfl (Nat.le_of_ble_eq_true rfl) dL_build_308 ⟨by omega, by omega⟩ (fun r_19 hr_19 => ?_)
        obtain ⟨z_20, hz_20, bz_20⟩ := hr_19
        subst hz_20
        refine va_iast hx hb hK hP hD hS (qHX cy_8 (qY B 2) ad many F rf ++ (qKx (qY B 2) K V many ++ qG B1 qRn N1)).length 2 qgx (by rw [← hY]; rfl) (vp_in_nI (n := 1) (N := 4) (by decide) (by decide)) dL_build_311 (fun H locs hP hD hS => ?_)
        rw [show Int32.toNatClampNeg 1 = 1 from rfl] at hP hD
        have hP : va_P D vwCl ((qHX cy_8 (qY B 2) ad many F rf ++ (qKx (qY B 2) K V many ++ qG B1 qRn N1)) ++ [(q_14, .inl (qY B 2, 4, .inl (fun j => nI ((qu (qu (fun _ => 0) 0 (4 + z_17)) 1 z_20) j))))]) H := by rw [← qupd, ← qgx_set (Y := (qHX cy_8 (qY B 2) ad many F rf ++ (qKx (qY B 2) K V many ++ qG B1 qRn N1)))]; exact hP
        have hD : va_D A ((qHX cy_8 (qY B 2) ad many F rf ++ (qKx (qY B 2) K V many ++ qG B1 qRn N1)) ++ [(q_14, .inl (qY B 2, 4, .inl (fun j => nI ((qu (qu (fun _ => 0) 0 (4 + z_17)) 1 z_20) j))))]) := by rw [← qupd, ← qgx_set (Y := (qHX cy_8 (qY B 2) ad many F rf ++ (qKx (qY B 2) K V many ++ qG B1 qRn N1)))]; exact hD
        refine lv_dup hx hb dL_build_312 rfl ?_
        refine lv_iconst (v := 2) hx hb dL_build_313 (by decide) ?_
        refine lv_bipush (v := 100) hx hb dL_build_314 (by decide) ?_
        refine lv_iload hx hb dL_build_316 (lv_at hl 0 rfl) ?_
        refine lv_iconst (v := 3) hx hb dL_build_318 (by decide) ?_
        refine lv_ishr hx hb dL_build_319 ?_
        refine lv_sipush (v := 1500) hx hb dL_build_320 (by decide) ?_
        refine zrdS (As := [.int (x_10 >>> (3 &&& 31)), .int 1500]) (rest := [.int 100, .int 2, .ref q_14, .ref q_14, .ref (ad 0)]) (wc := []) ⟨hx, hb, hml, hown, hts⟩ (c_below l D _ (x_10 >>> (3 &&& 31)) 1500 (by omega) (by omega)) (va_cwS 2 hts gL_build_L_below rfl rfl rfl (by decide +kernel) ⟨by rw [hRf]; exact Nat.le_of_ble_eq_true rfl, by rw [hRl]; exact Nat.le_of_ble_eq_true rfl⟩) hK hP hD [] rfl (by decide) [] rfl rfl hl.1 rfl (Nat.le_of_ble_eq_true rfl) dL_build_323 ⟨by omega, by omega⟩ (fun r_21 hr_21 => ?_)
        obtain ⟨z_22, hz_22, bz_22⟩ := hr_21
        subst hz_22
        refine lv_iadd hx hb dL_build_326 ?_
        refine lv_topi (fun v_23 ev_23 => ?_)
        obtain rfl : v_23 = (nI (100 + z_22)) := ev_23.trans (nI_add 100 _)
        refine va_iast hx hb hK hP hD hS (qHX cy_8 (qY B 2) ad many F rf ++ (qKx (qY B 2) K V many ++ qG B1 qRn N1)).length 2 qgx (by rw [← hY]; rfl) (vp_in_nI (n := 2) (N := 4) (by decide) (by decide)) dL_build_327 (fun H locs hP hD hS => ?_)
        rw [show Int32.toNatClampNeg 2 = 2 from rfl] at hP hD
        have hP : va_P D vwCl ((qHX cy_8 (qY B 2) ad many F rf ++ (qKx (qY B 2) K V many ++ qG B1 qRn N1)) ++ [(q_14, .inl (qY B 2, 4, .inl (fun j => nI ((qu (qu (qu (fun _ => 0) 0 (4 + z_17)) 1 z_20) 2 (100 + z_22)) j))))]) H := by rw [← qupd, ← qgx_set (Y := (qHX cy_8 (qY B 2) ad many F rf ++ (qKx (qY B 2) K V many ++ qG B1 qRn N1)))]; exact hP
        have hD : va_D A ((qHX cy_8 (qY B 2) ad many F rf ++ (qKx (qY B 2) K V many ++ qG B1 qRn N1)) ++ [(q_14, .inl (qY B 2, 4, .inl (fun j => nI ((qu (qu (qu (fun _ => 0) 0 (4 + z_17)) 1 z_20) 2 (100 + z_22)) j))))]) := by rw [← qupd, ← qgx_set (Y := (qHX cy_8 (qY B 2) ad many F rf ++ (qKx (qY B 2) K V many ++ qG B1 qRn N1)))]; exact hD
        refine lv_dup hx hb dL_build_328 rfl ?_
        refine lv_iconst (v := 3) hx hb dL_build_329 (by decide) ?_
        refine lv_iload hx hb dL_build_330 (lv_at hl 0 rfl) ?_
        refine lv_iconst (v := 5) hx hb dL_build_332 (by decide) ?_
        refine lv_ishr hx hb dL_build_333 ?_
        refine lv_iconst (v := 2) hx hb dL_build_334 (by decide) ?_
        refine zrdS (As := [.int (x_10 >>> (5 &&& 31)), .int 2]) (rest := [.int 3, .ref q_14, .ref q_14, .ref (ad 0)]) (wc := []) ⟨hx, hb, hml, hown, hts⟩ (c_below l D _ (x_10 >>> (5 &&& 31)) 2 (by omega) (by omega)) (va_cwS 2 hts gL_build_L_below rfl rfl rfl (by decide +kernel) ⟨by rw [hRf]; exact Nat.le_of_ble_eq_true rfl, by rw [hRl]; exact Nat.le_of_ble_eq_true rfl⟩) hK hP hD [] rfl (by decide) [] rfl rfl hl.1 rfl (Nat.le_of_ble_eq_true rfl) dL_build_335 ⟨by omega, by omega⟩ (fun r_24 hr_24 => ?_)
        obtain ⟨z_25, hz_25, bz_25⟩ := hr_24
        subst hz_25
        refine va_iast hx hb hK hP hD hS (qHX cy_8 (qY B 2) ad many F rf ++ (qKx (qY B 2) K V many ++ qG B1 qRn N1)).length 2 qgx (by rw [← hY]; rfl) (vp_in_nI (n := 3) (N := 4) (by decide) (by decide)) dL_build_338 (fun H locs hP hD hS => ?_)
        rw [show Int32.toNatClampNeg 3 = 3 from rfl] at hP hD
        have hP : va_P D vwCl ((qHX cy_8 (qY B 2) ad many F rf ++ (qKx (qY B 2) K V many ++ qG B1 qRn N1)) ++ [(q_14, .inl (qY B 2, 4, .inl (fun j => nI ((qu (qu (qu (qu (fun _ => 0) 0 (4 + z_17)) 1 z_20) 2 (100 + z_22)) 3 z_25) j))))]) H := by rw [← qupd, ← qgx_set (Y := (qHX cy_8 (qY B 2) ad many F rf ++ (qKx (qY B 2) K V many ++ qG B1 qRn N1)))]; exact hP
        have hD : va_D A ((qHX cy_8 (qY B 2) ad many F rf ++ (qKx (qY B 2) K V many ++ qG B1 qRn N1)) ++ [(q_14, .inl (qY B 2, 4, .inl (fun j => nI ((qu (qu (qu (qu (fun _ => 0) 0 (4 + z_17)) 1 z_20) 2 (100 + z_22)) 3 z_25) j))))]) := by rw [← qupd, ← qgx_set (Y := (qHX cy_8 (qY B 2) ad many F rf ++ (qKx (qY B 2) K V many ++ qG B1 qRn N1)))]; exact hD
        refine va_put (D := D) (ci := 4) (v := .ref q_14) (ty := .array .int) (C := RX4) (T := TX4) (N := 4) hx hb hts (fun _ h9 => List.mem_cons_of_mem _ (List.mem_append_left _ (List.mem_append_left _ (List.mem_append_left _ (List.mem_append_left _ (List.mem_append_right _ h9)))))) tyX4 tyX4_ok nmX4 hown hK hP hD hS 0 rfl rfl 3 (by decide) (hts (.fieldLink RL 34 "PalletStackLaw$Hand" "rules" "[I") (List.mem_of_getElem? (i := 7) (by rfl))) (fun _ h9 => h9) rfl (by decide +kernel) rfl rfl (Nat.le_of_ble_eq_true rfl) dL_build_339 (fun H locs hP hD hS => ?_)
        obtain ⟨ad9, had9⟩ : ∃ g : Nat → Nat, g = fun i => if i = 3 then q_14 else ad i := ⟨_, rfl⟩
        have d0 : ad 0 = ad9 0 := by rw [had9]; rfl
        have d1 : ad 1 = ad9 1 := by rw [had9]; rfl
        have d2 : ad 2 = ad9 2 := by rw [had9]; rfl
        have d3 : q_14 = ad9 3 := by rw [had9]; rfl
        have hP := qru_P hP
        have hD := qru_D hD
        have hP : va_P D vwCl (qHX cy_8 (qY B 2) ad9 many F (fun j => nI ((qu (qu (qu (qu (fun _ => 0) 0 (4 + z_17)) 1 z_20) 2 (100 + z_22)) 3 z_25) j)) ++ (qKx (qY B 2) K V many ++ qG B1 qRn N1)) H := by unfold qHX; rw [← d0, ← d1, ← d2, ← d3]; exact hP
        have hD : va_D A (qHX cy_8 (qY B 2) ad9 many F (fun j => nI ((qu (qu (qu (qu (fun _ => 0) 0 (4 + z_17)) 1 z_20) 2 (100 + z_22)) 3 z_25) j)) ++ (qKx (qY B 2) K V many ++ qG B1 qRn N1)) := by unfold qHX; rw [← d0, ← d1, ← d2, ← d3]; exact hD
        rw [d0] at hl
        refine lv_aload_n hx hb dL_build_342 rfl (lv_at hl 5 rfl) ?_
        refine lv_aload_n hx hb dL_build_343 rfl (lv_at hl 2 rfl) ?_
        refine va_get (D := D) (ci := 4) (v := .ref (ad9 3)) (C := RX4) (T := TX4) (N := 4) hx hb hts (fun _ h9 => List.mem_cons_of_mem _ (List.mem_append_left _ (List.mem_append_left _ (List.mem_append_left _ (List.mem_append_left _ (List.mem_append_right _ h9)))))) hown hK hP 0 rfl rfl 3 (by decide) (hts (.fieldLink RL 34 "PalletStackLaw$Hand" "rules" "[I") (List.mem_of_getElem? (i := 7) (by rfl))) (fun _ h9 => h9) rfl dL_build_344 ?_
        refine lv_iconst (v := 0) hx hb dL_build_347 (by decide) ?_
        refine va_iald hx hb hK hP 1 2 rfl (by rw [← hY]; rfl) (vp_in_nI (n := 0) (N := 4) (by decide) (by decide)) dL_build_348 ?_
        refine lv_topi (fun v_26 ev_26 => ?_)
        obtain rfl : v_26 = (nI (4 + z_17)) := ev_26.trans rfl
        refine lv_aload_n hx hb dL_build_349 rfl (lv_at hl 2 rfl) ?_
        refine va_get (D := D) (ci := 4) (v := .ref (ad9 3)) (C := RX4) (T := TX4) (N := 4) hx hb hts (fun _ h9 => List.mem_cons_of_mem _ (List.mem_append_left _ (List.mem_append_left _ (List.mem_append_left _ (List.mem_append_left _ (List.mem_append_right _ h9)))))) hown hK hP 0 rfl rfl 3 (by decide) (hts (.fieldLink RL 34 "PalletStackLaw$Hand" "rules" "[I") (List.mem_of_getElem? (i := 7) (by rfl))) (fun _ h9 => h9) rfl dL_build_350 ?_
        refine lv_iconst (v := 1) hx hb dL_build_353 (by decide) ?_
        refine va_iald hx hb hK hP 1 2 rfl (by rw [← hY]; rfl) (vp_in_nI (n := 1) (N := 4) (by decide) (by decide)) dL_build_354 ?_
        refine lv_topi (fun v_27 ev_27 => ?_)
        obtain rfl : v_27 = (nI z_20) := ev_27.trans rfl
        refine lv_aload_n hx hb dL_build_355 rfl (lv_at hl 2 rfl) ?_
        refine va_get (D := D) (ci := 4) (v := .ref (ad9 3)) (C := RX4) (T := TX4) (N := 4) hx hb hts (fun _ h9 => List.mem_cons_of_mem _ (List.mem_append_left _ (List.mem_append_left _ (List.mem_append_left _ (List.mem_append_left _ (List.mem_append_right _ h9)))))) hown hK hP 0 rfl rfl 3 (by decide) (hts (.fieldLink RL 34 "PalletStackLaw$Hand" "rules" "[I") (List.mem_of_getElem? (i := 7) (by rfl))) (fun _ h9 => h9) rfl dL_build_356 ?_
        refine lv_iconst (v := 2) hx hb dL_build_359 (by decide) ?_
        refine va_iald hx hb hK hP 1 2 rfl (by rw [← hY]; rfl) (vp_in_nI (n := 2) (N := 4) (by decide) (by decide)) dL_build_360 ?_
        refine lv_topi (fun v_28 ev_28 => ?_)
        obtain rfl : v_28 = (nI (100 + z_22)) := ev_28.trans rfl
        refine lv_aload_n hx hb dL_build_361 rfl (lv_at hl 2 rfl) ?_
        refine va_get (D := D) (ci := 4) (v := .ref (ad9 3)) (C := RX4) (T := TX4) (N := 4) hx hb hts (fun _ h9 => List.mem_cons_of_mem _ (List.mem_append_left _ (List.mem_append_left _ (List.mem_append_left _ (List.mem_append_left _ (List.mem_append_right _ h9)))))) hown hK hP 0 rfl rfl 3 (by decide) (hts (.fieldLink RL 34 "PalletStackLaw$Hand" "rules" "[I") (List.mem_of_getElem? (i := 7) (by rfl))) (fun _ h9 => h9) rfl dL_build_362 ?_
        refine lv_iconst (v := 3) hx hb dL_build_365 (by decide) ?_
        refine va_iald hx hb hK hP 1 2 rfl (by rw [← hY]; rfl) (vp_in_nI (n := 3) (N := 4) (by decide) (by decide)) dL_build_366 ?_
        refine lv_topi (fun v_29 ev_29 => ?_)
        obtain rfl : v_29 = (nI z_25) := ev_29.trans rfl
        refine lv_iconst (v := 1) hx hb dL_build_367 (by decide) ?_
        rcases (show z_25 = 0 ∨ z_25 = 1 by omega) with h | h
        · have h_b := True.intro
          refine lv_icmp_ne (tgt := 375) hx hb dL_build_368 (by decide) (fun c_30 => ?_) (fun c_30 => absurd c_30 (by rw [h]; decide))
          refine lv_iconst (v := 0) hx hb dL_build_375 (by decide) ?_
          rw [← List.append_assoc] at hP hD
          have hM := c_setRules l D H.size B1 qRn N1 (4 + z_17) z_20 (100 + z_22) 0 ⟨by omega, by omega⟩ (by omega) ⟨by omega, by omega⟩ (by decide)
          rw [hA5] at hM
          refine qcalliX (X := (qHX cy_8 (qY B 2) ad9 many F (fun j => nI ((qu (qu (qu (qu (fun _ => 0) 0 (4 + z_17)) 1 z_20) 2 (100 + z_22)) 3 z_25) j)) ++ qKx (qY B 2) K V many)) (As := [.int (nI (4 + z_17)), .int (nI z_20), .int (nI (100 + z_22)), .int 0]) (rest := []) ⟨hx, hb, hml, hown, hts⟩ hM (cwV 4 hts gL_build_X3_setRules rfl rfl rfl (by decide +kernel) ⟨by rw [hRf]; exact Nat.le_of_ble_eq_true rfl, by rw [hRl]; exact Nat.le_of_ble_eq_true rfl⟩) hK hP hD hS hA [0, 1, 2, 3] rfl (ci := 3) (q0 := 0) rfl (by rw [← hA5]; rfl) rfl hl.1 rfl (Nat.le_of_ble_eq_true rfl) dL_build_376 ⟨by omega, by omega⟩ (fun r9 u9 H locs hw9 hP hD hS => ?_)
          obtain ⟨hw8, hw9⟩ := hw9
          rw [hw9, List.append_assoc] at hP hD
          refine lv_topi (fun v_31 ev_31 => ?_)
          obtain rfl : v_31 = 20 := ev_31.trans (hw8.trans (by rw [hru.1]; rfl))
          refine lv_bipush (v := 20) hx hb dL_build_379 (by decide) ?_
          refine lv_icmp_eq (tgt := 386) hx hb dL_build_381 (by decide) (fun c_32 => ?_) (fun c_32 => absurd (rfl) c_32)
          have hZ9 := qZ_rules (a1 := (4 + z_17)) (a2 := z_20) (a3 := (100 + z_22)) (t := 0) hZ (by omega) (by omega) (by omega) (by decide)
          have hP : va_P D vwCl (qHX cy_8 (qY B1 2) ad9 (qk B1) F (fun j => nI ((qu (qu (qu (qu (fun _ => 0) 0 (4 + z_17)) 1 z_20) 2 (100 + z_22)) 3 z_25) j)) ++ (qKx (qY B1 2) K V (qk B1) ++ qG B1 qRn (qp (qp (qp (qp N1 4 1 1 (4 + z_17)) 4 1 2 z_20) 4 1 3 (100 + z_22)) 4 1 4 0))) H := by rw [hY, hk1]; exact hP
          have hD : va_D A (qHX cy_8 (qY B1 2) ad9 (qk B1) F (fun j => nI ((qu (qu (qu (qu (fun _ => 0) 0 (4 + z_17)) 1 z_20) 2 (100 + z_22)) 3 z_25) j)) ++ (qKx (qY B1 2) K V (qk B1) ++ qG B1 qRn (qp (qp (qp (qp N1 4 1 1 (4 + z_17)) 4 1 2 z_20) 4 1 3 (100 + z_22)) 4 1 4 0))) := by rw [hY, hk1]; exact hD
          refine W.widen (k := 20) (n := 200) (by omega) (by omega) ?_
          refine lv_aload_n hx hb dL_build_386 rfl (lv_at hl 2 rfl) ?_
          rw [← hQe]
          rw [← hk1] at hV
          have h25 : 2 ≤ qk B1 ∧ qk B1 ≤ 5 := by omega
          exact W.aret (v := .ref (ad9 0)) hx hb hr (.inl ⟨_, rfl⟩) (.inr ⟨_, rfl⟩) (fun t ht hW => ⟨⟨some (ad9 0), (B1, (qp (qp (qp (qp N1 4 1 1 (4 + z_17)) 4 1 2 z_20) 4 1 3 (100 + z_22)) 4 1 4 0), cy_8, ad9, F, (fun j => nI ((qu (qu (qu (qu (fun _ => 0) 0 (4 + z_17)) 1 z_20) 2 (100 + z_22)) 3 z_25) j)), K, V), rfl, ⟨rfl, hZ9, hl1, h25.1, h25.2, hA5.trans ho, hY, (fun k hk => hV k hk), ⟨rfl, rfl, rfl⟩⟩, ⟨Nat.zero_le _, by rw [ht]; exact hP, va_K.moved hW.alike (hK.sub (tys' := qT B1 ++ [(cy_8, .array .int)]) [0, 1, 2, 3, 4] rfl), hD⟩⟩, hS.F ht⟩) hS.2.2 dL_build_387
        · have h_b := True.intro
          refine lv_icmp_ne (tgt := 375) hx hb dL_build_368 (by decide) (fun c_33 => absurd (by rw [h]; rfl) c_33) (fun c_33 => ?_)
          refine lv_iconst (v := 1) hx hb dL_build_371 (by decide) ?_
          refine lv_goto (tgt := 376) hx hb dL_build_372 (by decide) ?_
          rw [← List.append_assoc] at hP hD
          have hM := c_setRules l D H.size B1 qRn N1 (4 + z_17) z_20 (100 + z_22) 1 ⟨by omega, by omega⟩ (by omega) ⟨by omega, by omega⟩ (by decide)
          rw [hA5] at hM
          refine qcalliX (X := (qHX cy_8 (qY B 2) ad9 many F (fun j => nI ((qu (qu (qu (qu (fun _ => 0) 0 (4 + z_17)) 1 z_20) 2 (100 + z_22)) 3 z_25) j)) ++ qKx (qY B 2) K V many)) (As := [.int (nI (4 + z_17)), .int (nI z_20), .int (nI (100 + z_22)), .int 1]) (rest := []) ⟨hx, hb, hml, hown, hts⟩ hM (cwV 4 hts gL_build_X3_setRules rfl rfl rfl (by decide +kernel) ⟨by rw [hRf]; exact Nat.le_of_ble_eq_true rfl, by rw [hRl]; exact Nat.le_of_ble_eq_true rfl⟩) hK hP hD hS hA [0, 1, 2, 3] rfl (ci := 3) (q0 := 0) rfl (by rw [← hA5]; rfl) rfl hl.1 rfl (Nat.le_of_ble_eq_true rfl) dL_build_376 ⟨by omega, by omega⟩ (fun r9 u9 H locs hw9 hP hD hS => ?_)
          obtain ⟨hw8, hw9⟩ := hw9
          rw [hw9, List.append_assoc] at hP hD
          refine lv_topi (fun v_34 ev_34 => ?_)
          obtain rfl : v_34 = 20 := ev_34.trans (hw8.trans (by rw [hru.1]; rfl))
          refine lv_bipush (v := 20) hx hb dL_build_379 (by decide) ?_
          refine lv_icmp_eq (tgt := 386) hx hb dL_build_381 (by decide) (fun c_35 => ?_) (fun c_35 => absurd (rfl) c_35)
          have hZ9 := qZ_rules (a1 := (4 + z_17)) (a2 := z_20) (a3 := (100 + z_22)) (t := 1) hZ (by omega) (by omega) (by omega) (by decide)
          have hP : va_P D vwCl (qHX cy_8 (qY B1 2) ad9 (qk B1) F (fun j => nI ((qu (qu (qu (qu (fun _ => 0) 0 (4 + z_17)) 1 z_20) 2 (100 + z_22)) 3 z_25) j)) ++ (qKx (qY B1 2) K V (qk B1) ++ qG B1 qRn (qp (qp (qp (qp N1 4 1 1 (4 + z_17)) 4 1 2 z_20) 4 1 3 (100 + z_22)) 4 1 4 1))) H := by rw [hY, hk1]; exact hP
          have hD : va_D A (qHX cy_8 (qY B1 2) ad9 (qk B1) F (fun j => nI ((qu (qu (qu (qu (fun _ => 0) 0 (4 + z_17)) 1 z_20) 2 (100 + z_22)) 3 z_25) j)) ++ (qKx (qY B1 2) K V (qk B1) ++ qG B1 qRn (qp (qp (qp (qp N1 4 1 1 (4 + z_17)) 4 1 2 z_20) 4 1 3 (100 + z_22)) 4 1 4 1))) := by rw [hY, hk1]; exact hD
          refine W.widen (k := 20) (n := 200) (by omega) (by omega) ?_
          refine lv_aload_n hx hb dL_build_386 rfl (lv_at hl 2 rfl) ?_
          rw [← hQe]
          rw [← hk1] at hV
          have h25 : 2 ≤ qk B1 ∧ qk B1 ≤ 5 := by omega
          exact W.aret (v := .ref (ad9 0)) hx hb hr (.inl ⟨_, rfl⟩) (.inr ⟨_, rfl⟩) (fun t ht hW => ⟨⟨some (ad9 0), (B1, (qp (qp (qp (qp N1 4 1 1 (4 + z_17)) 4 1 2 z_20) 4 1 3 (100 + z_22)) 4 1 4 1), cy_8, ad9, F, (fun j => nI ((qu (qu (qu (qu (fun _ => 0) 0 (4 + z_17)) 1 z_20) 2 (100 + z_22)) 3 z_25) j)), K, V), rfl, ⟨rfl, hZ9, hl1, h25.1, h25.2, hA5.trans ho, hY, (fun k hk => hV k hk), ⟨rfl, rfl, rfl⟩⟩, ⟨Nat.zero_le _, by rw [ht]; exact hP, va_K.moved hW.alike (hK.sub (tys' := qT B1 ++ [(cy_8, .array .int)]) [0, 1, 2, 3, 4] rfl), hD⟩⟩, hS.F ht⟩) hS.2.2 dL_build_387
    | succ k9 ih =>
      intro i hi B1 N1 F K V hZ hl1 hk1 hA5 hY hru hV H locs ls hP hD hS hl
      have hK : va_K D vwCl (qT B1 ++ [(cy_8, .array .int)]) s := by unfold qT; rw [hY]; exact hK
      refine lv_iload hx hb dL_build_33 (lv_at hl 0 rfl) ?_
      refine lv_iload hx hb dL_build_35 (lv_at hl 1 rfl) ?_
      refine lv_icmp_ge (tgt := 262) hx hb dL_build_37 (by decide) (fun c_36 => absurd c_36 (nI_ge (by omega) (by omega))) (fun c_36 => ?_)
      refine lv_aload_n hx hb dL_build_40 rfl (lv_at hl 4 rfl) ?_
      refine lv_iload_n hx hb dL_build_41 rfl (lv_at hl 3 rfl) ?_
      refine lv_iconst (v := 1) hx hb dL_build_42 (by decide) ?_
      refine lv_iadd hx hb dL_build_43 ?_
      refine lv_topi (fun v_37 ev_37 => ?_)
      obtain rfl : v_37 = (nI (0 + 1)) := ev_37.trans (nI_add 0 1)
      refine lv_iload hx hb dL_build_44 (lv_at hl 0 rfl) ?_
      refine lv_iadd hx hb dL_build_46 ?_
      refine lv_topi (fun v_38 ev_38 => ?_)
      obtain rfl : v_38 = (nI (0 + 1 + i)) := ev_38.trans (nI_add _ _)
      refine zrdSX (As := [.ref b, .int (nI (0 + 1 + i))]) (rest := []) ⟨hx, hb, hml, hown, hts⟩ (c_cell l D _ b L xs hL (0 + 1 + i) (by omega)) (va_cwS 2 hts gL_build_L_cell rfl rfl rfl (by decide +kernel) ⟨by rw [hRf]; exact Nat.le_of_ble_eq_true rfl, by rw [hRl]; exact Nat.le_of_ble_eq_true rfl⟩) hK (hX0.kept (hS.2.1 b hbl hbA)) rfl hl.1 rfl (Nat.le_of_ble_eq_true rfl) dL_build_47 ⟨by omega, by omega⟩ (fun x_39 hx_39 => ?_)
      refine lv_istore (lv' := [(6, .int x_39), (5, .int (nI i)), (4, .int (nI many)), (3, .ref (ad 0)), (2, .int (nI 0)), (1, .ref b), (0, .ref o)]) hx hb dL_build_50 hl (by decide) rfl (fun ls hl => ?_)
      refine lv_aload_n hx hb dL_build_52 rfl (lv_at hl 3 rfl) ?_
      refine va_get (D := D) (ci := 4) (v := .ref (ad 1)) (C := RX4) (T := TX4) (N := 4) hx hb hts (fun _ h9 => List.mem_cons_of_mem _ (List.mem_append_left _ (List.mem_append_left _ (List.mem_append_left _ (List.mem_append_left _ (List.mem_append_right _ h9)))))) hown hK hP 0 rfl rfl 0 (by decide) (hts (.fieldLink RL 24 "PalletStackLaw$Hand" "kinds" "[[I") (List.mem_of_getElem? (i := 5) (by rfl))) (fun _ h9 => h9) rfl dL_build_53 ?_
      refine lv_iload hx hb dL_build_56 (lv_at hl 1 rfl) ?_
      refine lv_bipush (v := 6) hx hb dL_build_58 (by decide) ?_
      refine znewa (atype := .int) (ty := .int) (N' := 6) (a0 := (6, .inl (fun _ => 0))) hx hb (hts (.arrayClass .int) (List.mem_of_getElem? (i := 6) (by rfl))) rfl hK hP hD hS hA (fun _ => rfl) (by decide) rfl (Nat.le_of_ble_eq_true rfl) (by omega) (by omega) dL_build_60 (fun q_40 cy_41 H hz9 hK9 hP hD hS => ?_)
      have ec9 := qKu hK9 (i := 5) (j := 2) rfl rfl
      rw [ec9, hY] at hP hD
      have hP : va_P D vwCl ((qHX cy_8 (qY B 2) ad many F rf ++ (qKx (qY B 2) K V i ++ qG B1 qRn N1)) ++ [(q_40, .inl (qY B 2, 6, .inl (fun j => nI ((fun _ => 0) j))))]) H := hP
      have hD : va_D A ((qHX cy_8 (qY B 2) ad many F rf ++ (qKx (qY B 2) K V i ++ qG B1 qRn N1)) ++ [(q_40, .inl (qY B 2, 6, .inl (fun j => nI ((fun _ => 0) j))))]) := hD
      refine lv_dup hx hb dL_build_62 rfl ?_
      refine lv_iconst (v := 0) hx hb dL_build_63 (by decide) ?_
      refine lv_iconst (v := 1) hx hb dL_build_64 (by decide) ?_
      refine lv_iload hx hb dL_build_65 (lv_at hl 0 rfl) ?_
      refine lv_bipush (v := 6) hx hb dL_build_67 (by decide) ?_
      refine zrdS (As := [.int x_39, .int 6]) (rest := [.int 1, .int 0, .ref q_40, .ref q_40, .int (nI i), .ref (ad 1)]) (wc := []) ⟨hx, hb, hml, hown, hts⟩ (c_below l D _ x_39 6 (by omega) (by omega)) (va_cwS 2 hts gL_build_L_below rfl rfl rfl (by decide +kernel) ⟨by rw [hRf]; exact Nat.le_of_ble_eq_true rfl, by rw [hRl]; exact Nat.le_of_ble_eq_true rfl⟩) hK hP hD [] rfl (by decide) [] rfl rfl hl.1 rfl (Nat.le_of_ble_eq_true rfl) dL_build_69 ⟨by omega, by omega⟩ (fun r_42 hr_42 => ?_)
      obtain ⟨z_43, hz_43, bz_43⟩ := hr_42
      subst hz_43
      refine lv_iadd hx hb dL_build_72 ?_
      refine lv_topi (fun v_44 ev_44 => ?_)
      obtain rfl : v_44 = (nI (1 + z_43)) := ev_44.trans (nI_add 1 _)
      refine va_iast hx hb hK hP hD hS (qHX cy_8 (qY B 2) ad many F rf ++ (qKx (qY B 2) K V i ++ qG B1 qRn N1)).length 2 qgx (by rw [← hY]; rfl) (vp_in_nI (n := 0) (N := 6) (by decide) (by decide)) dL_build_73 (fun H locs hP hD hS => ?_)
      rw [show Int32.toNatClampNeg 0 = 0 from rfl] at hP hD
      have hP : va_P D vwCl ((qHX cy_8 (qY B 2) ad many F rf ++ (qKx (qY B 2) K V i ++ qG B1 qRn N1)) ++ [(q_40, .inl (qY B 2, 6, .inl (fun j => nI ((qu (fun _ => 0) 0 (1 + z_43)) j))))]) H := by rw [← qupd, ← qgx_set (Y := (qHX cy_8 (qY B 2) ad many F rf ++ (qKx (qY B 2) K V i ++ qG B1 qRn N1)))]; exact hP
      have hD : va_D A ((qHX cy_8 (qY B 2) ad many F rf ++ (qKx (qY B 2) K V i ++ qG B1 qRn N1)) ++ [(q_40, .inl (qY B 2, 6, .inl (fun j => nI ((qu (fun _ => 0) 0 (1 + z_43)) j))))]) := by rw [← qupd, ← qgx_set (Y := (qHX cy_8 (qY B 2) ad many F rf ++ (qKx (qY B 2) K V i ++ qG B1 qRn N1)))]; exact hD
      refine lv_dup hx hb dL_build_74 rfl ?_
      refine lv_iconst (v := 1) hx hb dL_build_75 (by decide) ?_
      refine lv_iconst (v := 1) hx hb dL_build_76 (by decide) ?_
      refine lv_iload hx hb dL_build_77 (lv_at hl 0 rfl) ?_
      refine lv_iconst (v := 3) hx hb dL_build_79 (by decide) ?_
      refine lv_ishr hx hb dL_build_80 ?_
      refine lv_bipush (v := 6) hx hb dL_build_81 (by decide) ?_
      refine zrdS (As := [.int (x_39 >>> (3 &&& 31)), .int 6]) (rest := [.int 1, .int 1, .ref q_40, .ref q_40, .int (nI i), .ref (ad 1)]) (wc := []) ⟨hx, hb, hml, hown, hts⟩ (c_below l D _ (x_39 >>> (3 &&& 31)) 6 (by omega) (by omega)) (va_cwS 2 hts gL_build_L_below rfl rfl rfl (by decide +kernel) ⟨by rw [hRf]; exact Nat.le_of_ble_eq_true rfl, by rw [hRl]; exact Nat.le_of_ble_eq_true rfl⟩) hK hP hD [] rfl (by decide) [] rfl rfl hl.1 rfl (Nat.le_of_ble_eq_true rfl) dL_build_83 ⟨by omega, by omega⟩ (fun r_45 hr_45 => ?_)
      obtain ⟨z_46, hz_46, bz_46⟩ := hr_45
      subst hz_46
      refine lv_iadd hx hb dL_build_86 ?_
      refine lv_topi (fun v_47 ev_47 => ?_)
      obtain rfl : v_47 = (nI (1 + z_46)) := ev_47.trans (nI_add 1 _)
      refine va_iast hx hb hK hP hD hS (qHX cy_8 (qY B 2) ad many F rf ++ (qKx (qY B 2) K V i ++ qG B1 qRn N1)).length 2 qgx (by rw [← hY]; rfl) (vp_in_nI (n := 1) (N := 6) (by decide) (by decide)) dL_build_87 (fun H locs hP hD hS => ?_)
      rw [show Int32.toNatClampNeg 1 = 1 from rfl] at hP hD
      have hP : va_P D vwCl ((qHX cy_8 (qY B 2) ad many F rf ++ (qKx (qY B 2) K V i ++ qG B1 qRn N1)) ++ [(q_40, .inl (qY B 2, 6, .inl (fun j => nI ((qu (qu (fun _ => 0) 0 (1 + z_43)) 1 (1 + z_46)) j))))]) H := by rw [← qupd, ← qgx_set (Y := (qHX cy_8 (qY B 2) ad many F rf ++ (qKx (qY B 2) K V i ++ qG B1 qRn N1)))]; exact hP
      have hD : va_D A ((qHX cy_8 (qY B 2) ad many F rf ++ (qKx (qY B 2) K V i ++ qG B1 qRn N1)) ++ [(q_40, .inl (qY B 2, 6, .inl (fun j => nI ((qu (qu (fun _ => 0) 0 (1 + z_43)) 1 (1 + z_46)) j))))]) := by rw [← qupd, ← qgx_set (Y := (qHX cy_8 (qY B 2) ad many F rf ++ (qKx (qY B 2) K V i ++ qG B1 qRn N1)))]; exact hD
      refine lv_dup hx hb dL_build_88 rfl ?_
      refine lv_iconst (v := 2) hx hb dL_build_89 (by decide) ?_
      refine lv_iconst (v := 1) hx hb dL_build_90 (by decide) ?_
      refine lv_iload hx hb dL_build_91 (lv_at hl 0 rfl) ?_
      refine lv_iconst (v := 5) hx hb dL_build_93 (by decide) ?_
      refine lv_ishr hx hb dL_build_94 ?_
      refine lv_iconst (v := 4) hx hb dL_build_95 (by decide) ?_
      refine zrdS (As := [.int (x_39 >>> (5 &&& 31)), .int 4]) (rest := [.int 1, .int 2, .ref q_40, .ref q_40, .int (nI i), .ref (ad 1)]) (wc := []) ⟨hx, hb, hml, hown, hts⟩ (c_below l D _ (x_39 >>> (5 &&& 31)) 4 (by omega) (by omega)) (va_cwS 2 hts gL_build_L_below rfl rfl rfl (by decide +kernel) ⟨by rw [hRf]; exact Nat.le_of_ble_eq_true rfl, by rw [hRl]; exact Nat.le_of_ble_eq_true rfl⟩) hK hP hD [] rfl (by decide) [] rfl rfl hl.1 rfl (Nat.le_of_ble_eq_true rfl) dL_build_96 ⟨by omega, by omega⟩ (fun r_48 hr_48 => ?_)
      obtain ⟨z_49, hz_49, bz_49⟩ := hr_48
      subst hz_49
      refine lv_iadd hx hb dL_build_99 ?_
      refine lv_topi (fun v_50 ev_50 => ?_)
      obtain rfl : v_50 = (nI (1 + z_49)) := ev_50.trans (nI_add 1 _)
      refine va_iast hx hb hK hP hD hS (qHX cy_8 (qY B 2) ad many F rf ++ (qKx (qY B 2) K V i ++ qG B1 qRn N1)).length 2 qgx (by rw [← hY]; rfl) (vp_in_nI (n := 2) (N := 6) (by decide) (by decide)) dL_build_100 (fun H locs hP hD hS => ?_)
      rw [show Int32.toNatClampNeg 2 = 2 from rfl] at hP hD
      have hP : va_P D vwCl ((qHX cy_8 (qY B 2) ad many F rf ++ (qKx (qY B 2) K V i ++ qG B1 qRn N1)) ++ [(q_40, .inl (qY B 2, 6, .inl (fun j => nI ((qu (qu (qu (fun _ => 0) 0 (1 + z_43)) 1 (1 + z_46)) 2 (1 + z_49)) j))))]) H := by rw [← qupd, ← qgx_set (Y := (qHX cy_8 (qY B 2) ad many F rf ++ (qKx (qY B 2) K V i ++ qG B1 qRn N1)))]; exact hP
      have hD : va_D A ((qHX cy_8 (qY B 2) ad many F rf ++ (qKx (qY B 2) K V i ++ qG B1 qRn N1)) ++ [(q_40, .inl (qY B 2, 6, .inl (fun j => nI ((qu (qu (qu (fun _ => 0) 0 (1 + z_43)) 1 (1 + z_46)) 2 (1 + z_49)) j))))]) := by rw [← qupd, ← qgx_set (Y := (qHX cy_8 (qY B 2) ad many F rf ++ (qKx (qY B 2) K V i ++ qG B1 qRn N1)))]; exact hD
      refine lv_dup hx hb dL_build_101 rfl ?_
      refine lv_iconst (v := 3) hx hb dL_build_102 (by decide) ?_
      refine lv_iconst (v := 1) hx hb dL_build_103 (by decide) ?_
      refine lv_iload hx hb dL_build_104 (lv_at hl 0 rfl) ?_
      refine lv_bipush (v := 6) hx hb dL_build_106 (by decide) ?_
      refine lv_ishr hx hb dL_build_108 ?_
      refine lv_bipush (v := 90) hx hb dL_build_109 (by decide) ?_
      refine zrdS (As := [.int (x_39 >>> (6 &&& 31)), .int 90]) (rest := [.int 1, .int 3, .ref q_40, .ref q_40, .int (nI i), .ref (ad 1)]) (wc := []) ⟨hx, hb, hml, hown, hts⟩ (c_below l D _ (x_39 >>> (6 &&& 31)) 90 (by omega) (by omega)) (va_cwS 2 hts gL_build_L_below rfl rfl rfl (by decide +kernel) ⟨by rw [hRf]; exact Nat.le_of_ble_eq_true rfl, by rw [hRl]; exact Nat.le_of_ble_eq_true rfl⟩) hK hP hD [] rfl (by decide) [] rfl rfl hl.1 rfl (Nat.le_of_ble_eq_true rfl) dL_build_111 ⟨by omega, by omega⟩ (fun r_51 hr_51 => ?_)
      obtain ⟨z_52, hz_52, bz_52⟩ := hr_51
      subst hz_52
      refine lv_iadd hx hb dL_build_114 ?_
      refine lv_topi (fun v_53 ev_53 => ?_)
      obtain rfl : v_53 = (nI (1 + z_52)) := ev_53.trans (nI_add 1 _)
      refine va_iast hx hb hK hP hD hS (qHX cy_8 (qY B 2) ad many F rf ++ (qKx (qY B 2) K V i ++ qG B1 qRn N1)).length 2 qgx (by rw [← hY]; rfl) (vp_in_nI (n := 3) (N := 6) (by decide) (by decide)) dL_build_115 (fun H locs hP hD hS => ?_)
      rw [show Int32.toNatClampNeg 3 = 3 from rfl] at hP hD
      have hP : va_P D vwCl ((qHX cy_8 (qY B 2) ad many F rf ++ (qKx (qY B 2) K V i ++ qG B1 qRn N1)) ++ [(q_40, .inl (qY B 2, 6, .inl (fun j => nI ((qu (qu (qu (qu (fun _ => 0) 0 (1 + z_43)) 1 (1 + z_46)) 2 (1 + z_49)) 3 (1 + z_52)) j))))]) H := by rw [← qupd, ← qgx_set (Y := (qHX cy_8 (qY B 2) ad many F rf ++ (qKx (qY B 2) K V i ++ qG B1 qRn N1)))]; exact hP
      have hD : va_D A ((qHX cy_8 (qY B 2) ad many F rf ++ (qKx (qY B 2) K V i ++ qG B1 qRn N1)) ++ [(q_40, .inl (qY B 2, 6, .inl (fun j => nI ((qu (qu (qu (qu (fun _ => 0) 0 (1 + z_43)) 1 (1 + z_46)) 2 (1 + z_49)) 3 (1 + z_52)) j))))]) := by rw [← qupd, ← qgx_set (Y := (qHX cy_8 (qY B 2) ad many F rf ++ (qKx (qY B 2) K V i ++ qG B1 qRn N1)))]; exact hD
      refine lv_dup hx hb dL_build_116 rfl ?_
      refine lv_iconst (v := 4) hx hb dL_build_117 (by decide) ?_
      have h_c := True.intro
      have after4 : ∀ (x4 : Nat), x4 ≤ 5000 → W p l e R9 s m ([.ref (qA B 5 0), .ref b, .int (nI 0)] : List Value).toArray below meth c H locs ((5 + 2 * i) + 1) ((73 + 14 * i) + 6) Q (F0 m 153 ls [.int (nI x4), .int 4, .ref q_40, .ref q_40, .int (nI i), .ref (ad 1)]) := by
        intro x4 hx4
        refine va_iast hx hb hK hP hD hS (qHX cy_8 (qY B 2) ad many F rf ++ (qKx (qY B 2) K V i ++ qG B1 qRn N1)).length 2 qgx (by rw [← hY]; rfl) (vp_in_nI (n := 4) (N := 6) (by decide) (by decide)) dL_build_153 (fun H locs hP hD hS => ?_)
        rw [show Int32.toNatClampNeg 4 = 4 from rfl] at hP hD
        have hP : va_P D vwCl ((qHX cy_8 (qY B 2) ad many F rf ++ (qKx (qY B 2) K V i ++ qG B1 qRn N1)) ++ [(q_40, .inl (qY B 2, 6, .inl (fun j => nI ((qu (qu (qu (qu (qu (fun _ => 0) 0 (1 + z_43)) 1 (1 + z_46)) 2 (1 + z_49)) 3 (1 + z_52)) 4 x4) j))))]) H := by rw [← qupd, ← qgx_set (Y := (qHX cy_8 (qY B 2) ad many F rf ++ (qKx (qY B 2) K V i ++ qG B1 qRn N1)))]; exact hP
        have hD : va_D A ((qHX cy_8 (qY B 2) ad many F rf ++ (qKx (qY B 2) K V i ++ qG B1 qRn N1)) ++ [(q_40, .inl (qY B 2, 6, .inl (fun j => nI ((qu (qu (qu (qu (qu (fun _ => 0) 0 (1 + z_43)) 1 (1 + z_46)) 2 (1 + z_49)) 3 (1 + z_52)) 4 x4) j))))]) := by rw [← qupd, ← qgx_set (Y := (qHX cy_8 (qY B 2) ad many F rf ++ (qKx (qY B 2) K V i ++ qG B1 qRn N1)))]; exact hD
        refine lv_dup hx hb dL_build_154 rfl ?_
        refine lv_iconst (v := 5) hx hb dL_build_155 (by decide) ?_
        have after5 : ∀ (x5 : Nat), x5 < 4 → W p l e R9 s m ([.ref (qA B 5 0), .ref b, .int (nI 0)] : List Value).toArray below meth c H locs ((5 + 2 * i) + 1) ((73 + 14 * i) + 6) Q (F0 m 189 ls [.int (nI x5), .int 5, .ref q_40, .ref q_40, .int (nI i), .ref (ad 1)]) := by
          intro x5 hx5
          refine va_iast hx hb hK hP hD hS (qHX cy_8 (qY B 2) ad many F rf ++ (qKx (qY B 2) K V i ++ qG B1 qRn N1)).length 2 qgx (by rw [← hY]; rfl) (vp_in_nI (n := 5) (N := 6) (by decide) (by decide)) dL_build_189 (fun H locs hP hD hS => ?_)
          rw [show Int32.toNatClampNeg 5 = 5 from rfl] at hP hD
          have hP : va_P D vwCl ((qHX cy_8 (qY B 2) ad many F rf ++ (qKx (qY B 2) K V i ++ qG B1 qRn N1)) ++ [(q_40, .inl (qY B 2, 6, .inl (fun j => nI ((qu (qu (qu (qu (qu (qu (fun _ => 0) 0 (1 + z_43)) 1 (1 + z_46)) 2 (1 + z_49)) 3 (1 + z_52)) 4 x4) 5 x5) j))))]) H := by rw [← qupd, ← qgx_set (Y := (qHX cy_8 (qY B 2) ad many F rf ++ (qKx (qY B 2) K V i ++ qG B1 qRn N1)))]; exact hP
          have hD : va_D A ((qHX cy_8 (qY B 2) ad many F rf ++ (qKx (qY B 2) K V i ++ qG B1 qRn N1)) ++ [(q_40, .inl (qY B 2, 6, .inl (fun j => nI ((qu (qu (qu (qu (qu (qu (fun _ => 0) 0 (1 + z_43)) 1 (1 + z_46)) 2 (1 + z_49)) 3 (1 + z_52)) 4 x4) 5 x5) j))))]) := by rw [← qupd, ← qgx_set (Y := (qHX cy_8 (qY B 2) ad many F rf ++ (qKx (qY B 2) K V i ++ qG B1 qRn N1)))]; exact hD
          have hv5 : (qu (qu (qu (qu (qu (qu (fun _ => 0) 0 (1 + z_43)) 1 (1 + z_46)) 2 (1 + z_49)) 3 (1 + z_52)) 4 x4) 5 x5) 5 < 4 := hx5
          refine qastA hx hb hK hP hD hS 2 (qHX cy_8 (qY B 2) ad many F rf ++ (qKx (qY B 2) K V i ++ qG B1 qRn N1)).length 2 hKA rfl qgx (by rw [← hY]; rfl) (vp_in_nI (n := i) (N := many) (by omega) (by omega)) dL_build_190 (fun H locs hP hD hS => ?_)
          rw [nI_clamp (by omega), List.append_assoc, qHX_2] at hP hD
          have hP := qKx_in hP
          have hD := qKx_inD hD
          refine lv_aload_n hx hb dL_build_191 rfl (lv_at hl 6 rfl) ?_
          refine lv_aload_n hx hb dL_build_192 rfl (lv_at hl 3 rfl) ?_
          refine va_get (D := D) (ci := 4) (v := .ref (ad 1)) (C := RX4) (T := TX4) (N := 4) hx hb hts (fun _ h9 => List.mem_cons_of_mem _ (List.mem_append_left _ (List.mem_append_left _ (List.mem_append_left _ (List.mem_append_left _ (List.mem_append_right _ h9)))))) hown hK hP 0 rfl rfl 0 (by decide) (hts (.fieldLink RL 24 "PalletStackLaw$Hand" "kinds" "[[I") (List.mem_of_getElem? (i := 5) (by rfl))) (fun _ h9 => h9) rfl dL_build_193 ?_
          refine lv_iload hx hb dL_build_196 (lv_at hl 1 rfl) ?_
          refine qaldA hx hb hK hP 2 4 rfl rfl (vp_in_nI (n := i) (N := many) (by omega) (by omega)) dL_build_198 ?_
          refine W.eq (g2 := F0 m 199 ls [.ref q_40, .ref o]) (by rw [nI_clamp (by omega), va_up_self]; rfl) ?_
          refine lv_iconst (v := 0) hx hb dL_build_199 (by decide) ?_
          refine va_iald hx hb hK hP (3 + (qKx (qY B 2) K V i).length) 2 (qgy rfl) (by rw [← hY]; rfl) (vp_in_nI (n := 0) (N := 6) (by decide) (by decide)) dL_build_200 ?_
          refine lv_topi (fun v_54 ev_54 => ?_)
          obtain rfl : v_54 = (nI (1 + z_43)) := ev_54.trans rfl
          refine lv_aload_n hx hb dL_build_201 rfl (lv_at hl 3 rfl) ?_
          refine va_get (D := D) (ci := 4) (v := .ref (ad 1)) (C := RX4) (T := TX4) (N := 4) hx hb hts (fun _ h9 => List.mem_cons_of_mem _ (List.mem_append_left _ (List.mem_append_left _ (List.mem_append_left _ (List.mem_append_left _ (List.mem_append_right _ h9)))))) hown hK hP 0 rfl rfl 0 (by decide) (hts (.fieldLink RL 24 "PalletStackLaw$Hand" "kinds" "[[I") (List.mem_of_getElem? (i := 5) (by rfl))) (fun _ h9 => h9) rfl dL_build_202 ?_
          refine lv_iload hx hb dL_build_205 (lv_at hl 1 rfl) ?_
          refine qaldA hx hb hK hP 2 4 rfl rfl (vp_in_nI (n := i) (N := many) (by omega) (by omega)) dL_build_207 ?_
          refine W.eq (g2 := F0 m 208 ls [.ref q_40, .int (nI (1 + z_43)), .ref o]) (by rw [nI_clamp (by omega), va_up_self]; rfl) ?_
          refine lv_iconst (v := 1) hx hb dL_build_208 (by decide) ?_
          refine va_iald hx hb hK hP (3 + (qKx (qY B 2) K V i).length) 2 (qgy rfl) (by rw [← hY]; rfl) (vp_in_nI (n := 1) (N := 6) (by decide) (by decide)) dL_build_209 ?_
          refine lv_topi (fun v_55 ev_55 => ?_)
          obtain rfl : v_55 = (nI (1 + z_46)) := ev_55.trans rfl
          refine lv_aload_n hx hb dL_build_210 rfl (lv_at hl 3 rfl) ?_
          refine va_get (D := D) (ci := 4) (v := .ref (ad 1)) (C := RX4) (T := TX4) (N := 4) hx hb hts (fun _ h9 => List.mem_cons_of_mem _ (List.mem_append_left _ (List.mem_append_left _ (List.mem_append_left _ (List.mem_append_left _ (List.mem_append_right _ h9)))))) hown hK hP 0 rfl rfl 0 (by decide) (hts (.fieldLink RL 24 "PalletStackLaw$Hand" "kinds" "[[I") (List.mem_of_getElem? (i := 5) (by rfl))) (fun _ h9 => h9) rfl dL_build_211 ?_
          refine lv_iload hx hb dL_build_214 (lv_at hl 1 rfl) ?_
          refine qaldA hx hb hK hP 2 4 rfl rfl (vp_in_nI (n := i) (N := many) (by omega) (by omega)) dL_build_216 ?_
          refine W.eq (g2 := F0 m 217 ls [.ref q_40, .int (nI (1 + z_46)), .int (nI (1 + z_43)), .ref o]) (by rw [nI_clamp (by omega), va_up_self]; rfl) ?_
          refine lv_iconst (v := 2) hx hb dL_build_217 (by decide) ?_
          refine va_iald hx hb hK hP (3 + (qKx (qY B 2) K V i).length) 2 (qgy rfl) (by rw [← hY]; rfl) (vp_in_nI (n := 2) (N := 6) (by decide) (by decide)) dL_build_218 ?_
          refine lv_topi (fun v_56 ev_56 => ?_)
          obtain rfl : v_56 = (nI (1 + z_49)) := ev_56.trans rfl
          refine lv_aload_n hx hb dL_build_219 rfl (lv_at hl 3 rfl) ?_
          refine va_get (D := D) (ci := 4) (v := .ref (ad 1)) (C := RX4) (T := TX4) (N := 4) hx hb hts (fun _ h9 => List.mem_cons_of_mem _ (List.mem_append_left _ (List.mem_append_left _ (List.mem_append_left _ (List.mem_append_left _ (List.mem_append_right _ h9)))))) hown hK hP 0 rfl rfl 0 (by decide) (hts (.fieldLink RL 24 "PalletStackLaw$Hand" "kinds" "[[I") (List.mem_of_getElem? (i := 5) (by rfl))) (fun _ h9 => h9) rfl dL_build_220 ?_
          refine lv_iload hx hb dL_build_223 (lv_at hl 1 rfl) ?_
          refine qaldA hx hb hK hP 2 4 rfl rfl (vp_in_nI (n := i) (N := many) (by omega) (by omega)) dL_build_225 ?_
          refine W.eq (g2 := F0 m 226 ls [.ref q_40, .int (nI (1 + z_49)), .int (nI (1 + z_46)), .int (nI (1 + z_43)), .ref o]) (by rw [nI_clamp (by omega), va_up_self]; rfl) ?_
          refine lv_iconst (v := 3) hx hb dL_build_226 (by decide) ?_
          refine va_iald hx hb hK hP (3 + (qKx (qY B 2) K V i).length) 2 (qgy rfl) (by rw [← hY]; rfl) (vp_in_nI (n := 3) (N := 6) (by decide) (by decide)) dL_build_227 ?_
          refine lv_topi (fun v_57 ev_57 => ?_)
          obtain rfl : v_57 = (nI (1 + z_52)) := ev_57.trans rfl
          refine lv_aload_n hx hb dL_build_228 rfl (lv_at hl 3 rfl) ?_
          refine va_get (D := D) (ci := 4) (v := .ref (ad 1)) (C := RX4) (T := TX4) (N := 4) hx hb hts (fun _ h9 => List.mem_cons_of_mem _ (List.mem_append_left _ (List.mem_append_left _ (List.mem_append_left _ (List.mem_append_left _ (List.mem_append_right _ h9)))))) hown hK hP 0 rfl rfl 0 (by decide) (hts (.fieldLink RL 24 "PalletStackLaw$Hand" "kinds" "[[I") (List.mem_of_getElem? (i := 5) (by rfl))) (fun _ h9 => h9) rfl dL_build_229 ?_
          refine lv_iload hx hb dL_build_232 (lv_at hl 1 rfl) ?_
          refine qaldA hx hb hK hP 2 4 rfl rfl (vp_in_nI (n := i) (N := many) (by omega) (by omega)) dL_build_234 ?_
          refine W.eq (g2 := F0 m 235 ls [.ref q_40, .int (nI (1 + z_52)), .int (nI (1 + z_49)), .int (nI (1 + z_46)), .int (nI (1 + z_43)), .ref o]) (by rw [nI_clamp (by omega), va_up_self]; rfl) ?_
          refine lv_iconst (v := 4) hx hb dL_build_235 (by decide) ?_
          refine va_iald hx hb hK hP (3 + (qKx (qY B 2) K V i).length) 2 (qgy rfl) (by rw [← hY]; rfl) (vp_in_nI (n := 4) (N := 6) (by decide) (by decide)) dL_build_236 ?_
          refine lv_topi (fun v_58 ev_58 => ?_)
          obtain rfl : v_58 = (nI x4) := ev_58.trans rfl
          refine lv_aload_n hx hb dL_build_237 rfl (lv_at hl 3 rfl) ?_
          refine va_get (D := D) (ci := 4) (v := .ref (ad 1)) (C := RX4) (T := TX4) (N := 4) hx hb hts (fun _ h9 => List.mem_cons_of_mem _ (List.mem_append_left _ (List.mem_append_left _ (List.mem_append_left _ (List.mem_append_left _ (List.mem_append_right _ h9)))))) hown hK hP 0 rfl rfl 0 (by decide) (hts (.fieldLink RL 24 "PalletStackLaw$Hand" "kinds" "[[I") (List.mem_of_getElem? (i := 5) (by rfl))) (fun _ h9 => h9) rfl dL_build_238 ?_
          refine lv_iload hx hb dL_build_241 (lv_at hl 1 rfl) ?_
          refine qaldA hx hb hK hP 2 4 rfl rfl (vp_in_nI (n := i) (N := many) (by omega) (by omega)) dL_build_243 ?_
          refine W.eq (g2 := F0 m 244 ls [.ref q_40, .int (nI x4), .int (nI (1 + z_52)), .int (nI (1 + z_49)), .int (nI (1 + z_46)), .int (nI (1 + z_43)), .ref o]) (by rw [nI_clamp (by omega), va_up_self]; rfl) ?_
          refine lv_iconst (v := 5) hx hb dL_build_244 (by decide) ?_
          refine va_iald hx hb hK hP (3 + (qKx (qY B 2) K V i).length) 2 (qgy rfl) (by rw [← hY]; rfl) (vp_in_nI (n := 5) (N := 6) (by decide) (by decide)) dL_build_245 ?_
          refine lv_topi (fun v_59 ev_59 => ?_)
          obtain rfl : v_59 = (nI x5) := ev_59.trans rfl
          rw [qKx_out] at hP hD
          have hM := c_addKind l D H.size B1 qRn N1 (1 + z_43) (1 + z_46) (1 + z_49) (1 + z_52) x4 x5 ⟨by omega, by omega⟩ ⟨by omega, by omega⟩ ⟨by omega, by omega⟩ ⟨by omega, by omega⟩ (by omega) (by omega) hZ.1 (by omega) hl1
          rw [hA5] at hM
          refine qcalliX (X := (qHX cy_8 (qY B 2) ad many (va_up F i (some q_40)) rf ++ (qKx (qY B 2) K V i ++ [(q_40, .inl (qY B 2, 6, .inl (fun j => nI ((qu (qu (qu (qu (qu (qu (fun _ => 0) 0 (1 + z_43)) 1 (1 + z_46)) 2 (1 + z_49)) 3 (1 + z_52)) 4 x4) 5 x5) j))))]))) (As := [.int (nI (1 + z_43)), .int (nI (1 + z_46)), .int (nI (1 + z_49)), .int (nI (1 + z_52)), .int (nI x4), .int (nI x5)]) (rest := []) ⟨hx, hb, hml, hown, hts⟩ hM (cwV 6 hts gL_build_X3_addKind rfl rfl rfl (by decide +kernel) ⟨by rw [hRf]; exact Nat.le_of_ble_eq_true rfl, by rw [hRl]; exact Nat.le_of_ble_eq_true rfl⟩) hK hP hD hS hA [0, 1, 2, 3] rfl (ci := 3) (q0 := 0) rfl (by rw [← hA5]; rfl) rfl hl.1 rfl (Nat.le_of_ble_eq_true rfl) dL_build_246 ⟨by omega, by omega⟩ (fun r9 u9 H locs hw9 hP hD hS => ?_)
          refine lv_topi (fun v_60 ev_60 => ?_)
          obtain rfl : v_60 = (nI i) := ev_60.trans (hw9.trans (by rw [hk1]))
          refine lv_iload hx hb dL_build_249 (lv_at hl 1 rfl) ?_
          refine lv_icmp_eq (tgt := 256) hx hb dL_build_251 (by decide) (fun c_61 => ?_) (fun c_61 => absurd (rfl) c_61)
          refine lv_iinc (v := (nI (i + 1))) (lv' := [(5, .int (nI (i + 1))), (6, .int x_39), (4, .int (nI many)), (3, .ref (ad 0)), (2, .int (nI 0)), (1, .ref b), (0, .ref o)]) hx hb dL_build_256 hl (k := 1) rfl (nI_1 i) (by decide) rfl (fun ls hl => ?_)
          refine lv_goto (tgt := 33) hx hb dL_build_259 (by decide) ?_
          have hl := lv_sub hl (l' := [(5, .int (nI (i + 1))), (4, .int (nI many)), (3, .ref (ad 0)), (2, .int (nI 0)), (1, .ref b), (0, .ref o)]) [0, 2, 3, 4, 5, 6] rfl
          rw [hk1] at hP hD
          have hP : va_P D vwCl (qHX cy_8 (qY B 2) ad many (va_up F i (some q_40)) rf ++ (qKx (qY B 2) (fun k => if k = i then q_40 else K k) (fun k => if k = i then (qu (qu (qu (qu (qu (qu (fun _ => 0) 0 (1 + z_43)) 1 (1 + z_46)) 2 (1 + z_49)) 3 (1 + z_52)) 4 x4) 5 x5) else V k) (i + 1) ++ qG (qBk B1 u9) qRn (qNk N1 i [i, (qu (qu (qu (qu (qu (qu (fun _ => 0) 0 (1 + z_43)) 1 (1 + z_46)) 2 (1 + z_49)) 3 (1 + z_52)) 4 x4) 5 x5) 0, (qu (qu (qu (qu (qu (qu (fun _ => 0) 0 (1 + z_43)) 1 (1 + z_46)) 2 (1 + z_49)) 3 (1 + z_52)) 4 x4) 5 x5) 1, (qu (qu (qu (qu (qu (qu (fun _ => 0) 0 (1 + z_43)) 1 (1 + z_46)) 2 (1 + z_49)) 3 (1 + z_52)) 4 x4) 5 x5) 2, (qu (qu (qu (qu (qu (qu (fun _ => 0) 0 (1 + z_43)) 1 (1 + z_46)) 2 (1 + z_49)) 3 (1 + z_52)) 4 x4) 5 x5) 3, (qu (qu (qu (qu (qu (qu (fun _ => 0) 0 (1 + z_43)) 1 (1 + z_46)) 2 (1 + z_49)) 3 (1 + z_52)) 4 x4) 5 x5) 4, (qu (qu (qu (qu (qu (qu (fun _ => 0) 0 (1 + z_43)) 1 (1 + z_46)) 2 (1 + z_49)) 3 (1 + z_52)) 4 x4) 5 x5) 5 % 2, (qu (qu (qu (qu (qu (qu (fun _ => 0) 0 (1 + z_43)) 1 (1 + z_46)) 2 (1 + z_49)) 3 (1 + z_52)) 4 x4) 5 x5) 5 / 2]))) H := by rw [← qKx_1, ← List.append_assoc]; exact hP
          have hD : va_D A (qHX cy_8 (qY B 2) ad many (va_up F i (some q_40)) rf ++ (qKx (qY B 2) (fun k => if k = i then q_40 else K k) (fun k => if k = i then (qu (qu (qu (qu (qu (qu (fun _ => 0) 0 (1 + z_43)) 1 (1 + z_46)) 2 (1 + z_49)) 3 (1 + z_52)) 4 x4) 5 x5) else V k) (i + 1) ++ qG (qBk B1 u9) qRn (qNk N1 i [i, (qu (qu (qu (qu (qu (qu (fun _ => 0) 0 (1 + z_43)) 1 (1 + z_46)) 2 (1 + z_49)) 3 (1 + z_52)) 4 x4) 5 x5) 0, (qu (qu (qu (qu (qu (qu (fun _ => 0) 0 (1 + z_43)) 1 (1 + z_46)) 2 (1 + z_49)) 3 (1 + z_52)) 4 x4) 5 x5) 1, (qu (qu (qu (qu (qu (qu (fun _ => 0) 0 (1 + z_43)) 1 (1 + z_46)) 2 (1 + z_49)) 3 (1 + z_52)) 4 x4) 5 x5) 2, (qu (qu (qu (qu (qu (qu (fun _ => 0) 0 (1 + z_43)) 1 (1 + z_46)) 2 (1 + z_49)) 3 (1 + z_52)) 4 x4) 5 x5) 3, (qu (qu (qu (qu (qu (qu (fun _ => 0) 0 (1 + z_43)) 1 (1 + z_46)) 2 (1 + z_49)) 3 (1 + z_52)) 4 x4) 5 x5) 4, (qu (qu (qu (qu (qu (qu (fun _ => 0) 0 (1 + z_43)) 1 (1 + z_46)) 2 (1 + z_49)) 3 (1 + z_52)) 4 x4) 5 x5) 5 % 2, (qu (qu (qu (qu (qu (qu (fun _ => 0) 0 (1 + z_43)) 1 (1 + z_46)) 2 (1 + z_49)) 3 (1 + z_52)) 4 x4) 5 x5) 5 / 2]))) := by rw [← qKx_1, ← List.append_assoc]; exact hD
          have hZ9 := qZ_kind (a := u9) hZ (show qk B1 < 10 by omega) (a1 := (1 + z_43)) (a2 := (1 + z_46)) (a3 := (1 + z_49)) (a4 := (1 + z_52)) (a5 := x4) (a6 := x5) ⟨by omega, by omega⟩ ⟨by omega, by omega⟩ ⟨by omega, by omega⟩ ⟨by omega, by omega⟩ (by omega) (by omega)
          rw [hk1] at hZ9
          refine W.widen (k := 5 + 2 * (i + 1)) (n := 73 + 14 * (i + 1)) (by omega) (by omega) ?_
          exact ih (i + 1) (by omega) (qBk B1 u9) (qNk N1 i [i, (qu (qu (qu (qu (qu (qu (fun _ => 0) 0 (1 + z_43)) 1 (1 + z_46)) 2 (1 + z_49)) 3 (1 + z_52)) 4 x4) 5 x5) 0, (qu (qu (qu (qu (qu (qu (fun _ => 0) 0 (1 + z_43)) 1 (1 + z_46)) 2 (1 + z_49)) 3 (1 + z_52)) 4 x4) 5 x5) 1, (qu (qu (qu (qu (qu (qu (fun _ => 0) 0 (1 + z_43)) 1 (1 + z_46)) 2 (1 + z_49)) 3 (1 + z_52)) 4 x4) 5 x5) 2, (qu (qu (qu (qu (qu (qu (fun _ => 0) 0 (1 + z_43)) 1 (1 + z_46)) 2 (1 + z_49)) 3 (1 + z_52)) 4 x4) 5 x5) 3, (qu (qu (qu (qu (qu (qu (fun _ => 0) 0 (1 + z_43)) 1 (1 + z_46)) 2 (1 + z_49)) 3 (1 + z_52)) 4 x4) 5 x5) 4, (qu (qu (qu (qu (qu (qu (fun _ => 0) 0 (1 + z_43)) 1 (1 + z_46)) 2 (1 + z_49)) 3 (1 + z_52)) 4 x4) 5 x5) 5 % 2, (qu (qu (qu (qu (qu (qu (fun _ => 0) 0 (1 + z_43)) 1 (1 + z_46)) 2 (1 + z_49)) 3 (1 + z_52)) 4 x4) 5 x5) 5 / 2]) (va_up F i (some q_40)) (fun k => if k = i then q_40 else K k) (fun k => if k = i then (qu (qu (qu (qu (qu (qu (fun _ => 0) 0 (1 + z_43)) 1 (1 + z_46)) 2 (1 + z_49)) 3 (1 + z_52)) 4 x4) 5 x5) else V k) hZ9 hl1 (by show qk B1 + 1 = i + 1; rw [hk1]) ((qBk_A (by omega)).trans hA5) hY ⟨(qNk_ne (by omega) (by omega)).trans hru.1, (qNk_ne (by omega) (by omega)).trans hru.2.1, (qNk_ne (by omega) (by omega)).trans hru.2.2⟩ (qKv_1 hv5 hV) H locs ls hP hD hS hl
        refine lv_iload hx hb dL_build_156 (lv_at hl 0 rfl) ?_
        refine lv_bipush (v := 9) hx hb dL_build_158 (by decide) ?_
        refine lv_ishr hx hb dL_build_160 ?_
        refine lv_iconst (v := 5) hx hb dL_build_161 (by decide) ?_
        refine zrdS (As := [.int (x_39 >>> (9 &&& 31)), .int 5]) (rest := [.int 5, .ref q_40, .ref q_40, .int (nI i), .ref (ad 1)]) (wc := []) ⟨hx, hb, hml, hown, hts⟩ (c_below l D _ (x_39 >>> (9 &&& 31)) 5 (by omega) (by omega)) (va_cwS 2 hts gL_build_L_below rfl rfl rfl (by decide +kernel) ⟨by rw [hRf]; exact Nat.le_of_ble_eq_true rfl, by rw [hRl]; exact Nat.le_of_ble_eq_true rfl⟩) hK hP hD [] rfl (by decide) [] rfl rfl hl.1 rfl (Nat.le_of_ble_eq_true rfl) dL_build_162 ⟨by omega, by omega⟩ (fun r_62 hr_62 => ?_)
        obtain ⟨z_63, hz_63, bz_63⟩ := hr_62
        subst hz_63
        refine lv_if_ne (tgt := 181) hx hb dL_build_165 (by decide) (fun c_64 => ?_) (fun c_64 => ?_)
        · have h_b := True.intro
          refine lv_iload hx hb dL_build_181 (lv_at hl 0 rfl) ?_
          refine lv_iconst (v := 2) hx hb dL_build_183 (by decide) ?_
          refine lv_ishr hx hb dL_build_184 ?_
          refine lv_iconst (v := 2) hx hb dL_build_185 (by decide) ?_
          refine zrdS (As := [.int (x_39 >>> (2 &&& 31)), .int 2]) (rest := [.int 5, .ref q_40, .ref q_40, .int (nI i), .ref (ad 1)]) (wc := []) ⟨hx, hb, hml, hown, hts⟩ (c_below l D _ (x_39 >>> (2 &&& 31)) 2 (by omega) (by omega)) (va_cwS 2 hts gL_build_L_below rfl rfl rfl (by decide +kernel) ⟨by rw [hRf]; exact Nat.le_of_ble_eq_true rfl, by rw [hRl]; exact Nat.le_of_ble_eq_true rfl⟩) hK hP hD [] rfl (by decide) [] rfl rfl hl.1 rfl (Nat.le_of_ble_eq_true rfl) dL_build_186 ⟨by omega, by omega⟩ (fun r_65 hr_65 => ?_)
          obtain ⟨z_66, hz_66, bz_66⟩ := hr_65
          subst hz_66
          exact after5 z_66 (by omega)
        · have h_b := True.intro
          refine lv_iconst (v := 2) hx hb dL_build_168 (by decide) ?_
          refine lv_iload hx hb dL_build_169 (lv_at hl 0 rfl) ?_
          refine lv_iconst (v := 2) hx hb dL_build_171 (by decide) ?_
          refine lv_ishr hx hb dL_build_172 ?_
          refine lv_iconst (v := 2) hx hb dL_build_173 (by decide) ?_
          refine zrdS (As := [.int (x_39 >>> (2 &&& 31)), .int 2]) (rest := [.int 2, .int 5, .ref q_40, .ref q_40, .int (nI i), .ref (ad 1)]) (wc := []) ⟨hx, hb, hml, hown, hts⟩ (c_below l D _ (x_39 >>> (2 &&& 31)) 2 (by omega) (by omega)) (va_cwS 2 hts gL_build_L_below rfl rfl rfl (by decide +kernel) ⟨by rw [hRf]; exact Nat.le_of_ble_eq_true rfl, by rw [hRl]; exact Nat.le_of_ble_eq_true rfl⟩) hK hP hD [] rfl (by decide) [] rfl rfl hl.1 rfl (Nat.le_of_ble_eq_true rfl) dL_build_174 ⟨by omega, by omega⟩ (fun r_67 hr_67 => ?_)
          obtain ⟨z_68, hz_68, bz_68⟩ := hr_67
          subst hz_68
          refine lv_iadd hx hb dL_build_177 ?_
          refine lv_topi (fun v_69 ev_69 => ?_)
          obtain rfl : v_69 = (nI (2 + z_68)) := ev_69.trans (nI_add 2 _)
          refine lv_goto (tgt := 189) hx hb dL_build_178 (by decide) ?_
          exact after5 (2 + z_68) (by omega)
      refine lv_iload hx hb dL_build_118 (lv_at hl 0 rfl) ?_
      refine lv_bipush (v := 8) hx hb dL_build_120 (by decide) ?_
      refine lv_ishr hx hb dL_build_122 ?_
      refine lv_iconst (v := 3) hx hb dL_build_123 (by decide) ?_
      refine zrdS (As := [.int (x_39 >>> (8 &&& 31)), .int 3]) (rest := [.int 4, .ref q_40, .ref q_40, .int (nI i), .ref (ad 1)]) (wc := []) ⟨hx, hb, hml, hown, hts⟩ (c_below l D _ (x_39 >>> (8 &&& 31)) 3 (by omega) (by omega)) (va_cwS 2 hts gL_build_L_below rfl rfl rfl (by decide +kernel) ⟨by rw [hRf]; exact Nat.le_of_ble_eq_true rfl, by rw [hRl]; exact Nat.le_of_ble_eq_true rfl⟩) hK hP hD [] rfl (by decide) [] rfl rfl hl.1 rfl (Nat.le_of_ble_eq_true rfl) dL_build_124 ⟨by omega, by omega⟩ (fun r_70 hr_70 => ?_)
      obtain ⟨z_71, hz_71, bz_71⟩ := hr_70
      subst hz_71
      refine lv_if_ne (tgt := 143) hx hb dL_build_127 (by decide) (fun c_72 => ?_) (fun c_72 => ?_)
      · have h_b := True.intro
        refine lv_iload hx hb dL_build_143 (lv_at hl 0 rfl) ?_
        refine lv_iconst (v := 4) hx hb dL_build_145 (by decide) ?_
        refine lv_ishr hx hb dL_build_146 ?_
        refine lv_sipush (v := 800) hx hb dL_build_147 (by decide) ?_
        refine zrdS (As := [.int (x_39 >>> (4 &&& 31)), .int 800]) (rest := [.int 4, .ref q_40, .ref q_40, .int (nI i), .ref (ad 1)]) (wc := []) ⟨hx, hb, hml, hown, hts⟩ (c_below l D _ (x_39 >>> (4 &&& 31)) 800 (by omega) (by omega)) (va_cwS 2 hts gL_build_L_below rfl rfl rfl (by decide +kernel) ⟨by rw [hRf]; exact Nat.le_of_ble_eq_true rfl, by rw [hRl]; exact Nat.le_of_ble_eq_true rfl⟩) hK hP hD [] rfl (by decide) [] rfl rfl hl.1 rfl (Nat.le_of_ble_eq_true rfl) dL_build_150 ⟨by omega, by omega⟩ (fun r_73 hr_73 => ?_)
        obtain ⟨z_74, hz_74, bz_74⟩ := hr_73
        subst hz_74
        exact after4 z_74 (by omega)
      · have h_b := True.intro
        refine lv_iload hx hb dL_build_130 (lv_at hl 0 rfl) ?_
        refine lv_bipush (v := 7) hx hb dL_build_132 (by decide) ?_
        refine lv_ishr hx hb dL_build_134 ?_
        refine lv_bipush (v := 60) hx hb dL_build_135 (by decide) ?_
        refine zrdS (As := [.int (x_39 >>> (7 &&& 31)), .int 60]) (rest := [.int 4, .ref q_40, .ref q_40, .int (nI i), .ref (ad 1)]) (wc := []) ⟨hx, hb, hml, hown, hts⟩ (c_below l D _ (x_39 >>> (7 &&& 31)) 60 (by omega) (by omega)) (va_cwS 2 hts gL_build_L_below rfl rfl rfl (by decide +kernel) ⟨by rw [hRf]; exact Nat.le_of_ble_eq_true rfl, by rw [hRl]; exact Nat.le_of_ble_eq_true rfl⟩) hK hP hD [] rfl (by decide) [] rfl rfl hl.1 rfl (Nat.le_of_ble_eq_true rfl) dL_build_137 ⟨by omega, by omega⟩ (fun r_75 hr_75 => ?_)
        obtain ⟨z_76, hz_76, bz_76⟩ := hr_75
        subst hz_76
        refine lv_goto (tgt := 153) hx hb dL_build_140 (by decide) ?_
        exact after4 z_76 (by omega)
  exact loop many 0 (by omega) B qNew _ _ _ hZ0 hql hqk ho.symm rfl ⟨rfl, rfl, rfl⟩ (fun k h => absurd h (Nat.not_lt_zero k)) H locs ls hP hD hS hl
