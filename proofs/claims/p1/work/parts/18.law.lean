set_option maxHeartbeats 4000000 in
set_option maxRecDepth 100000 in
theorem whole_start {p : Program} {e : Env} {s : State} {m : MethodId} {below : List Frame} {meth : Method} {c : Code} (l : Launch) (hflags : l.flags = flags0) {b L : Nat} {xs : Nat → Int32} (hL : L ≤ 7) (C0 : lw_At p s m meth c b L xs) : W p l e room_1 s m #[Value.ref b] below meth c s.heap [] 0 0 (lw_Z below #[Value.ref b] s) (entryFrame m ([Value.ref b] : List Value).toArray 9) := by
  have C1 := C0
  have hfl : l.stackTraces = false := by unfold Launch.stackTraces; rw [hflags]; decide +kernel
  obtain ⟨hx, hb, hr, hml, hown, hts, hX, hbl, hlocks, hgv⟩ := C0
  have hA : ∀ q : Nat, s.heap.size ≤ q → (fun q : Nat => s.heap.size ≤ q) q := fun _ h => h
  have hbA : ¬ (fun q : Nat => s.heap.size ≤ q) b := Nat.not_le.mpr hbl
  have hRf : room_1.frames = 13 := rfl
  have hRc : room_1.cells = 600002 := rfl
  have hRs : room_1.slots = 7302232 := rfl
  have hRl : room_1.locals = 522 := rfl
  have hf := flat_of_before _ hgv
  have hKX : zKX (fun q : Nat => s.heap.size ≤ q) s := ⟨vx_Zqof (hts (.laysStatic Bundle.tN "UNASSIGNED_STACK" Bundle.steD) (List.mem_of_getElem? (i := 422) (by decide +kernel))) (hts (.initialized Bundle.tN) (List.mem_of_getElem? (i := 66) (by decide +kernel))) (hf (.isRef (.static Bundle.tN "UNASSIGNED_STACK" Bundle.steD)) (by decide +kernel)) (fun a h => Nat.not_le.mpr h), vx_Zqof (hts (.laysStatic Bundle.tN "SUPPRESSED_SENTINEL" Bundle.listD) (List.mem_of_getElem? (i := 424) (by decide +kernel))) (hts (.initialized Bundle.tN) (List.mem_of_getElem? (i := 66) (by decide +kernel))) (hf (.isRef (.static Bundle.tN "SUPPRESSED_SENTINEL" Bundle.listD)) (by decide +kernel)) (fun a h => Nat.not_le.mpr h), va_Nw.of rfl (hts (.declares (Bundle.init0 "java/lang/RuntimeException")) (List.mem_of_getElem? (i := 398) (by decide +kernel))), va_Nw.of rfl (hts (.declares (Bundle.init0 "java/lang/Exception")) (List.mem_of_getElem? (i := 400) (by decide +kernel))), va_Nw.of rfl (hts (.declares (Bundle.init0 Bundle.tN)) (List.mem_of_getElem? (i := 402) (by decide +kernel))), va_Nw.of rfl (hts (.castable "java/lang/IllegalArgumentException" "java/lang/IllegalArgumentException") (List.mem_of_getElem? (i := 397) (by decide +kernel))), va_Nw.of rfl (hts (.castable "java/lang/IndexOutOfBoundsException" "java/lang/IndexOutOfBoundsException") (List.mem_of_getElem? (i := 531) (by decide +kernel)))⟩
  generalize hAe : (fun q : Nat => s.heap.size ≤ q) = A at hA hbA hKX
  obtain ⟨c0, iS0, hKn0⟩ := u_known (C := RX0) (T := TX0) (N := 18) (n := 18) hts inT_X0 (hts (.instantiable RX0 18) (List.mem_of_getElem? (i := 88) (by decide +kernel)))
  obtain ⟨c1, iS1, hKn1⟩ := u_known (C := RX1) (T := TX1) (N := 8) (n := 8) hts inT_X1 (hts (.instantiable RX1 8) (List.mem_of_getElem? (i := 473) (by decide +kernel)))
  obtain ⟨c2, iS2, hKn2⟩ := u_known (C := RX2) (T := TX2) (N := 3) (n := 3) hts inT_X2 (hts (.instantiable RX2 3) (List.mem_of_getElem? (i := 634) (by decide +kernel)))
  obtain ⟨c3, iS3, hKn3⟩ := u_known (C := RX3) (T := TX3) (N := 14) (n := 14) hts inT_X3 (hts (.instantiable RX3 14) (List.mem_of_getElem? (i := 77) (by decide +kernel)))
  obtain ⟨c4, iS4, hKn4⟩ := u_known (C := RX4) (T := TX4) (N := 14) (n := 14) hts inT_X4 (hts (.instantiable RX4 14) (List.mem_of_getElem? (i := 667) (by decide +kernel)))
  obtain ⟨dC, dI, hKc⟩ : ∃ (dC : Nat → ClassId) (dI : Nat → Nat → Nat), ∀ (k : Nat) (q : vw_C), vwCl[k]? = some q → u_Kn s q.1 q.2.1 q.2.2 (dC k) (dI k) := by
    refine ⟨fun k => [c0, c1, c2, c3, c4].getD k c0, fun k => match k with | 0 => iS0 | 1 => iS1 | 2 => iS2 | 3 => iS3 | _ => iS4, ?_⟩
    intro k q hq
    match k, hq with
    | 0, hq => cases hq; exact hKn0
    | 1, hq => cases hq; exact hKn1
    | 2, hq => cases hq; exact hKn2
    | 3, hq => cases hq; exact hKn3
    | 4, hq => cases hq; exact hKn4
    | k + 5, hq => simp [vwCl] at hq
  obtain ⟨D, hDe⟩ : ∃ D : zG, D = (dC, dI) := ⟨_, rfl⟩
  have hK : va_K D vwCl [] s := by rw [hDe]; exact ⟨hKc, fun k q h => by simp at h⟩
  have hP : va_P D vwCl [] s.heap := fun k q h => by simp at h
  have hD : va_D A [] := ⟨fun i j p q h => by simp at h, fun k q h => by simp at h⟩
  have hS : va_S A s.heap s.heap [] := va_S.rf
  have hl := lv_entry ([.ref b]) (n := 9) (Nat.le_of_ble_eq_true rfl)
  rw [lg_entry_eq]
  generalize (lg_sl ([.ref b]) ++ List.replicate (9 - (lg_sl ([.ref b])).length) Slot.unset).toArray = ls at hl ⊢
  have hl : lv_has ls 9 [(0, .ref b)] := hl
  refine va_new (D := D) (ci := 3) (fs := [.null, .int 0, .int 0, .int 0, .int 0, .int 0, .null, .int 0, .int 0, .int 0, .null, .null, .null, .int 0]) (C := RX3) (T := TX3) (N := 14) hx hb hts inT_X3 tyX3 tyX3_ok hown (hts (.classLink RL 8 RX3) (List.mem_of_getElem? (i := 76) (by decide +kernel))) (hts (.instantiable RX3 14) (List.mem_of_getElem? (i := 77) (by decide +kernel))) (hts (.initialized RX3) (List.mem_of_getElem? (i := 63) (by decide +kernel))) hK hP hD hS hA rfl (fun j hj => by rcases (show j = 0 ∨ j = 1 ∨ j = 2 ∨ j = 3 ∨ j = 4 ∨ j = 5 ∨ j = 6 ∨ j = 7 ∨ j = 8 ∨ j = 9 ∨ j = 10 ∨ j = 11 ∨ j = 12 ∨ j = 13 by omega) with rfl | rfl | rfl | rfl | rfl | rfl | rfl | rfl | rfl | rfl | rfl | rfl | rfl | rfl <;> rfl) (by omega) (by omega) dL_law_0 (fun o H hP hD hS => ?_)
  have hP : va_P D vwCl ([(o, .inr (3, [.null, .int 0, .int 0, .int 0, .int 0, .int 0, .null, .int 0, .int 0, .int 0, .null, .null, .null, .int 0]))]) H := hP
  have hD : va_D A ([(o, .inr (3, [.null, .int 0, .int 0, .int 0, .int 0, .int 0, .null, .int 0, .int 0, .int 0, .null, .null, .null, .int 0]))]) := hD
  refine lv_dup hx hb dL_law_3 rfl ?_
  refine zcallvIK (As := []) (rest := [.ref o]) (wc := [(o, .inr (3, [.null, .int 0, .int 0, .int 0, .int 0, .int 0, .null, .int 0, .int 0, .int 0, .null, .null, .null, .int 0]))]) (wr := []) ⟨hx, hb, hml, hown, hts⟩ (c_PS_init l D _ o) (⟨callB_of 0 hts zg_X3_init rfl rfl rfl (hts (.initialized RX3) (List.mem_of_getElem? (i := 63) (by decide +kernel))) (hts (.methodLink RL 67 yX3_init) (List.mem_of_getElem? (i := 78) (by decide +kernel))) (by decide +kernel) ⟨by rw [hRf]; exact Nat.le_of_ble_eq_true rfl, by rw [hRl]; exact Nat.le_of_ble_eq_true rfl⟩, rfl, (hts (.instanceMethod yX3_init) (List.mem_of_getElem? (i := 79) (by decide +kernel)))⟩) (fun _ U _ _ h => ⟨h.1.moved (Vm.Alike.refl U.vm), h.2.1.moved (Vm.Alike.refl U.vm), h.2.2.1.moved (Vm.Alike.refl U.vm), va_Nw.same rfl rfl h.2.2.2⟩) (fun U hW => ⟨(va_AO.of (hts (.arrayOver (.object RX0)) (List.mem_of_getElem? (i := 87) (by decide +kernel)))).moved hW.alike, (va_AO.of (hts (.arrayOver (.object RX1)) (List.mem_of_getElem? (i := 85) (by decide +kernel)))).moved hW.alike, (va_AO.of (hts (.arrayOver (.object RX2)) (List.mem_of_getElem? (i := 167) (by decide +kernel)))).moved hW.alike, va_Nw.warmM hW (va_Nw.of rfl (hts (.methodLinkNest RX3 51 yX0_init "PalletStack") (List.mem_of_getElem? (i := 89) (by decide +kernel))))⟩) hK hP hD hS hA [0] [] rfl (by decide) rfl (by decide) (by decide) [] rfl rfl hl.1 rfl (Nat.le_of_ble_eq_true rfl) dL_law_4 ⟨by omega, by omega⟩ (fun u_601 H locs hwu_601 hnu_601 hzu_601 hK hP hD hS => ?_)
  have hP : va_P D vwCl ([(o, .inr (3, [.ref (u_601.1 0), .int 0, .int 20, .int 60, .int 2000, .int 0, .ref (u_601.1 1), .int 0, .int 0, .int 0, .ref (u_601.1 2), .ref (u_601.1 3), .ref (u_601.1 4), .int 0])), ((u_601.1 0), .inl ((u_601.2 0), 10, .inr (.inr (.inr (.inr (fun _ => none)))))), ((u_601.1 2), .inl ((u_601.2 1), 120, .inl (fun _ => 0)))]) H := hP
  have hD : va_D A ([(o, .inr (3, [.ref (u_601.1 0), .int 0, .int 20, .int 60, .int 2000, .int 0, .ref (u_601.1 1), .int 0, .int 0, .int 0, .ref (u_601.1 2), .ref (u_601.1 3), .ref (u_601.1 4), .int 0])), ((u_601.1 0), .inl ((u_601.2 0), 10, .inr (.inr (.inr (.inr (fun _ => none)))))), ((u_601.1 2), .inl ((u_601.2 1), 120, .inl (fun _ => 0)))]) := hD
  have hK : va_K D vwCl [((u_601.2 0), .object RX1), ((u_601.2 1), .int)] s := hK
  generalize u_601.1 0 = kA at hP hD
  generalize u_601.1 1 = iA at hP hD
  generalize u_601.1 2 = tA at hP hD
  generalize u_601.1 3 = tr at hP hD
  generalize u_601.1 4 = lA at hP hD
  generalize u_601.2 0 = cK at hP hD hK
  generalize u_601.2 1 = cT at hP hD hK
  refine lv_astore_n (lv' := [(1, .ref o), (0, .ref b)]) hx hb dL_law_7 rfl hl (by decide) rfl (fun ls hl => ?_)
  refine va_new (D := D) (ci := 4) (fs := [.int 0, .int 0, .null, .int 0, .int 0, .int 0, .int 0, .int 0, .null, .null, .int 0, .null, .null, .int 0]) (C := RX4) (T := TX4) (N := 14) hx hb hts inT_X4 tyX4 tyX4_ok hown (hts (.classLink RL 68 RX4) (List.mem_of_getElem? (i := 666) (by decide +kernel))) (hts (.instantiable RX4 14) (List.mem_of_getElem? (i := 667) (by decide +kernel))) (hts (.initialized RX4) (List.mem_of_getElem? (i := 65) (by decide +kernel))) hK hP hD hS hA rfl (fun j hj => by rcases (show j = 0 ∨ j = 1 ∨ j = 2 ∨ j = 3 ∨ j = 4 ∨ j = 5 ∨ j = 6 ∨ j = 7 ∨ j = 8 ∨ j = 9 ∨ j = 10 ∨ j = 11 ∨ j = 12 ∨ j = 13 by omega) with rfl | rfl | rfl | rfl | rfl | rfl | rfl | rfl | rfl | rfl | rfl | rfl | rfl | rfl <;> rfl) (by omega) (by omega) dL_law_8 (fun mo H hP hD hS => ?_)
  have hP : va_P D vwCl ([(o, .inr (3, [.ref kA, .int 0, .int 20, .int 60, .int 2000, .int 0, .ref iA, .int 0, .int 0, .int 0, .ref tA, .ref tr, .ref lA, .int 0])), (kA, .inl (cK, 10, .inr (.inr (.inr (.inr (fun _ => none)))))), (tA, .inl (cT, 120, .inl (fun _ => 0))), (mo, .inr (4, [.int 0, .int 0, .null, .int 0, .int 0, .int 0, .int 0, .int 0, .null, .null, .int 0, .null, .null, .int 0]))]) H := hP
  have hD : va_D A ([(o, .inr (3, [.ref kA, .int 0, .int 20, .int 60, .int 2000, .int 0, .ref iA, .int 0, .int 0, .int 0, .ref tA, .ref tr, .ref lA, .int 0])), (kA, .inl (cK, 10, .inr (.inr (.inr (.inr (fun _ => none)))))), (tA, .inl (cT, 120, .inl (fun _ => 0))), (mo, .inr (4, [.int 0, .int 0, .null, .int 0, .int 0, .int 0, .int 0, .int 0, .null, .null, .int 0, .null, .null, .int 0]))]) := hD
  refine lv_dup hx hb dL_law_11 rfl ?_
  refine zcallvI (As := []) (rest := [.ref mo]) (wc := [(mo, .inr (4, [.int 0, .int 0, .null, .int 0, .int 0, .int 0, .int 0, .int 0, .null, .null, .int 0, .null, .null, .int 0]))]) (wr := [(o, .inr (3, [.ref kA, .int 0, .int 20, .int 60, .int 2000, .int 0, .ref iA, .int 0, .int 0, .int 0, .ref tA, .ref tr, .ref lA, .int 0])), (kA, .inl (cK, 10, .inr (.inr (.inr (.inr (fun _ => none)))))), (tA, .inl (cT, 120, .inl (fun _ => 0)))]) ⟨hx, hb, hml, hown, hts⟩ (c_M_init l D _ mo) (⟨callB_of 0 hts zg_X4_init rfl rfl rfl (hts (.initialized RX4) (List.mem_of_getElem? (i := 65) (by decide +kernel))) (hts (.methodLink RL 70 yX4_init) (List.mem_of_getElem? (i := 668) (by decide +kernel))) (by decide +kernel) ⟨by rw [hRf]; exact Nat.le_of_ble_eq_true rfl, by rw [hRl]; exact Nat.le_of_ble_eq_true rfl⟩, rfl, (hts (.instanceMethod yX4_init) (List.mem_of_getElem? (i := 669) (by decide +kernel)))⟩) hK hP hD hS hA [3] [0, 1, 2] rfl (by decide) rfl (by decide) (by decide) [] rfl rfl hl.1 rfl (Nat.le_of_ble_eq_true rfl) dL_law_12 ⟨by omega, by omega⟩ (fun u_602 H locs hwu_602 hnu_602 hzu_602 hK hP hD hS => ?_)
  have hP : va_P D vwCl ([(o, .inr (3, [.ref kA, .int 0, .int 20, .int 60, .int 2000, .int 0, .ref iA, .int 0, .int 0, .int 0, .ref tA, .ref tr, .ref lA, .int 0])), (kA, .inl (cK, 10, .inr (.inr (.inr (.inr (fun _ => none)))))), (tA, .inl (cT, 120, .inl (fun _ => 0))), (mo, .inr (4, [.int 0, .int 0, .ref (u_602.1 0), .int 20, .int 60, .int 2000, .int 0, .int 0, .ref (u_602.1 1), .ref (u_602.1 2), .int 0, .ref (u_602.1 3), .ref (u_602.1 4), .int 0])), ((u_602.1 0), .inl ((u_602.2 0), 60, .inl (fun _ => 0))), ((u_602.1 1), .inl ((u_602.2 1), 366, .inl (fun _ => 0))), ((u_602.1 2), .inl ((u_602.2 2), 61, .inl (fun _ => 0)))]) H := hP
  have hD : va_D A ([(o, .inr (3, [.ref kA, .int 0, .int 20, .int 60, .int 2000, .int 0, .ref iA, .int 0, .int 0, .int 0, .ref tA, .ref tr, .ref lA, .int 0])), (kA, .inl (cK, 10, .inr (.inr (.inr (.inr (fun _ => none)))))), (tA, .inl (cT, 120, .inl (fun _ => 0))), (mo, .inr (4, [.int 0, .int 0, .ref (u_602.1 0), .int 20, .int 60, .int 2000, .int 0, .int 0, .ref (u_602.1 1), .ref (u_602.1 2), .int 0, .ref (u_602.1 3), .ref (u_602.1 4), .int 0])), ((u_602.1 0), .inl ((u_602.2 0), 60, .inl (fun _ => 0))), ((u_602.1 1), .inl ((u_602.2 1), 366, .inl (fun _ => 0))), ((u_602.1 2), .inl ((u_602.2 2), 61, .inl (fun _ => 0)))]) := hD
  have hK : va_K D vwCl [(cK, .object RX1), (cT, .int), ((u_602.2 0), .int), ((u_602.2 1), .int), ((u_602.2 2), .int)] s := hK
  generalize u_602.1 0 = kT at hP hD
  generalize u_602.1 1 = tb at hP hD
  generalize u_602.1 2 = ld at hP hD
  generalize u_602.1 3 = lK at hP hD
  generalize u_602.1 4 = lC at hP hD
  generalize u_602.2 0 = e1 at hP hD hK
  generalize u_602.2 1 = e2 at hP hD hK
  generalize u_602.2 2 = e3 at hP hD hK
  refine lv_astore_n (lv' := [(2, .ref mo), (1, .ref o), (0, .ref b)]) hx hb dL_law_15 rfl hl (by decide) rfl (fun ls hl => ?_)
  refine lv_iconst (v := 1) hx hb dL_law_16 (by decide) ?_
  refine znewa (atype := .long) (ty := .long) (N' := 1) (a0 := (1, .inr (.inl (fun _ => 0)))) hx hb (hts (.arrayClass .long) (List.mem_of_getElem? (i := 954) (by decide +kernel))) rfl hK hP hD hS hA (fun _ => rfl) (by decide) rfl (Nat.le_of_ble_eq_true rfl) (by omega) (by omega) dL_law_17 (fun ou cJ H hz_603 hK hP hD hS => ?_)
  have hP : va_P D vwCl ([(o, .inr (3, [.ref kA, .int 0, .int 20, .int 60, .int 2000, .int 0, .ref iA, .int 0, .int 0, .int 0, .ref tA, .ref tr, .ref lA, .int 0])), (kA, .inl (cK, 10, .inr (.inr (.inr (.inr (fun _ => none)))))), (tA, .inl (cT, 120, .inl (fun _ => 0))), (mo, .inr (4, [.int 0, .int 0, .ref kT, .int 20, .int 60, .int 2000, .int 0, .int 0, .ref tb, .ref ld, .int 0, .ref lK, .ref lC, .int 0])), (kT, .inl (e1, 60, .inl (fun _ => 0))), (tb, .inl (e2, 366, .inl (fun _ => 0))), (ld, .inl (e3, 61, .inl (fun _ => 0))), (ou, .inl (cJ, 1, .inr (.inl (fun _ => 0))))]) H := hP
  have hD : va_D A ([(o, .inr (3, [.ref kA, .int 0, .int 20, .int 60, .int 2000, .int 0, .ref iA, .int 0, .int 0, .int 0, .ref tA, .ref tr, .ref lA, .int 0])), (kA, .inl (cK, 10, .inr (.inr (.inr (.inr (fun _ => none)))))), (tA, .inl (cT, 120, .inl (fun _ => 0))), (mo, .inr (4, [.int 0, .int 0, .ref kT, .int 20, .int 60, .int 2000, .int 0, .int 0, .ref tb, .ref ld, .int 0, .ref lK, .ref lC, .int 0])), (kT, .inl (e1, 60, .inl (fun _ => 0))), (tb, .inl (e2, 366, .inl (fun _ => 0))), (ld, .inl (e3, 61, .inl (fun _ => 0))), (ou, .inl (cJ, 1, .inr (.inl (fun _ => 0))))]) := hD
  refine lv_astore_n (lv' := [(3, .ref ou), (2, .ref mo), (1, .ref o), (0, .ref b)]) hx hb dL_law_19 rfl hl (by decide) rfl (fun ls hl => ?_)
  refine lv_iconst (v := 0) hx hb dL_law_20 (by decide) ?_
  refine lv_istore (lv' := [(4, .int 0), (3, .ref ou), (2, .ref mo), (1, .ref o), (0, .ref b)]) hx hb dL_law_21 hl (by decide) rfl (fun ls hl => ?_)
  have hl := lv_sub hl (l' := [(4, .int 0), (3, .ref ou), (2, .ref mo), (1, .ref o), (0, .ref b)]) [0, 1, 2, 3, 4] rfl
  refine W.widen (k := 1000) (n := 10000) (by omega) (by omega) ?_
  refine lv_iload hx hb dL_law_23 (lv_at hl 0 rfl) ?_
  refine lv_aload_n hx hb dL_law_25 rfl (lv_at hl 4 rfl) ?_
  refine va_slen hx hb hX hbl hbA hS dL_law_26 ?_
  refine lv_bipush (v := 7) hx hb dL_law_27 (by decide) ?_
  refine lv_isub hx hb dL_law_29 ?_
  by_cases hL7 : L < 7
  · have h_b := True.intro
    refine lv_icmp_gt (tgt := 1469) hx hb dL_law_30 (by decide) (fun c_604 => ?_) (fun c_604 => absurd (zL7 L hL7) c_604)
    refine W.widen (k := 2000) (n := 20000) (by omega) (by omega) ?_
    subst hAe
    exact zend C1 H locs ls hS
  · have h_b := True.intro
    obtain rfl : L = 7 := by omega
    refine lv_icmp_gt (tgt := 1469) hx hb dL_law_30 (by decide) (fun c_605 => absurd c_605 (by decide)) (fun c_605 => ?_)
    refine lv_aload_n hx hb dL_law_33 rfl (lv_at hl 4 rfl) ?_
    refine lv_iload hx hb dL_law_34 (lv_at hl 0 rfl) ?_
    refine va_sld hx hb hX hbl hbA hS (vp_in_nI (n := 0) (N := 7) (by decide) (by decide)) dL_law_36 ?_
    refine lv_topi (fun v_606 ev_606 => ?_)
    obtain rfl : v_606 = (xs 0) := ev_606.trans rfl
    refine lv_bipush (v := 31) hx hb dL_law_37 (by decide) ?_
    refine lv_iand hx hb dL_law_39 ?_
    refine lv_topi (fun v_607 ev_607 => ?_)
    by_cases hv : 0 ≤ v_607 ∧ v_607 ≤ 19
    · have h_b := True.intro
      obtain ⟨n, hn, rfl⟩ := zNat (k := 19) (by decide) hv.1 hv.2
      have hn : n = 0 ∨ n = 1 ∨ n = 2 ∨ n = 3 ∨ n = 4 ∨ n = 5 ∨ n = 6 ∨ n = 7 ∨ n = 8 ∨ n = 9 ∨ n = 10 ∨ n = 11 ∨ n = 12 ∨ n = 13 ∨ n = 14 ∨ n = 15 ∨ n = 16 ∨ n = 17 ∨ n = 18 ∨ n = 19 := by omega
      subst hAe
      rcases hn with rfl | rfl | rfl | rfl | rfl | rfl | rfl | rfl | rfl | rfl | rfl | rfl | rfl | rfl | rfl | rfl | rfl | rfl | rfl | rfl
      · refine lv_tableIn (off := 96) (tgt := 136) hx hb dL_law_40 (by decide) (by decide) (by decide) (by decide) ?_
        exact zc_addKind C1 hfl hKX o kA iA tA tr lA mo kT tb ld lK lC ou cK cT e1 e2 e3 cJ H locs ls hK hP hD hS hl
      · refine lv_tableIn (off := 214) (tgt := 254) hx hb dL_law_40 (by decide) (by decide) (by decide) (by decide) ?_
        exact zc_setRules C1 hfl hKX o kA iA tA tr lA mo kT tb ld lK lC ou cK cT e1 e2 e3 cJ H locs ls hK hP hD hS hl
      · refine lv_tableIn (off := 322) (tgt := 362) hx hb dL_law_40 (by decide) (by decide) (by decide) (by decide) ?_
        exact zc_count C1 hfl hKX o kA iA tA tr lA mo kT tb ld lK lC ou cK cT e1 e2 e3 cJ H locs ls hK hP hD hS hl
      · refine lv_tableIn (off := 378) (tgt := 418) hx hb dL_law_40 (by decide) (by decide) (by decide) (by decide) ?_
        exact zc_reason C1 hfl hKX o kA iA tA tr lA mo kT tb ld lK lC ou cK cT e1 e2 e3 cJ H locs ls hK hP hD hS hl
      · refine lv_tableIn (off := 486) (tgt := 526) hx hb dL_law_40 (by decide) (by decide) (by decide) (by decide) ?_
        exact zc_put C1 hfl hKX o kA iA tA tr lA mo kT tb ld lK lC ou cK cT e1 e2 e3 cJ H locs ls hK hP hD hS hl
      · refine lv_tableIn (off := 594) (tgt := 634) hx hb dL_law_40 (by decide) (by decide) (by decide) (by decide) ?_
        exact zc_takeOff C1 hfl hKX o kA iA tA tr lA mo kT tb ld lK lC ou cK cT e1 e2 e3 cJ H locs ls hK hP hD hS hl
      · refine lv_tableIn (off := 650) (tgt := 690) hx hb dL_law_40 (by decide) (by decide) (by decide) (by decide) ?_
        exact zc_item C1 hfl hKX o kA iA tA tr lA mo kT tb ld lK lC ou cK cT e1 e2 e3 cJ H locs ls hK hP hD hS hl
      · refine lv_tableIn (off := 718) (tgt := 758) hx hb dL_law_40 (by decide) (by decide) (by decide) (by decide) ?_
        exact zc_top C1 hfl hKX o kA iA tA tr lA mo kT tb ld lK lC ou cK cT e1 e2 e3 cJ H locs ls hK hP hD hS hl
      · refine lv_tableIn (off := 786) (tgt := 826) hx hb dL_law_40 (by decide) (by decide) (by decide) (by decide) ?_
        exact zc_at C1 hfl hKX o kA iA tA tr lA mo kT tb ld lK lC ou cK cT e1 e2 e3 cJ H locs ls hK hP hD hS hl
      · refine lv_tableIn (off := 866) (tgt := 906) hx hb dL_law_40 (by decide) (by decide) (by decide) (by decide) ?_
        exact zc_restsOn C1 hfl hKX o kA iA tA tr lA mo kT tb ld lK lC ou cK cT e1 e2 e3 cJ H locs ls hK hP hD hS hl
      · refine lv_tableIn (off := 941) (tgt := 981) hx hb dL_law_40 (by decide) (by decide) (by decide) (by decide) ?_
        exact zc_best C1 hfl hKX o kA iA tA tr lA mo kT tb ld lK lC ou cK cT e1 e2 e3 cJ H locs ls hK hP hD hS hl
      · refine lv_tableIn (off := 997) (tgt := 1037) hx hb dL_law_40 (by decide) (by decide) (by decide) (by decide) ?_
        exact zc_fill C1 hfl hKX o kA iA tA tr lA mo kT tb ld lK lC ou cK cT e1 e2 e3 cJ H locs ls hK hP hD hS hl
      · refine lv_tableIn (off := 1065) (tgt := 1105) hx hb dL_law_40 (by decide) (by decide) (by decide) (by decide) ?_
        exact zc_addLine C1 hfl hKX o kA iA tA tr lA mo kT tb ld lK lC ou cK cT e1 e2 e3 cJ H locs ls hK hP hD hS hl
      · refine lv_tableIn (off := 1133) (tgt := 1173) hx hb dL_law_40 (by decide) (by decide) (by decide) (by decide) ?_
        exact zc_stack C1 hfl hKX o kA iA tA tr lA mo kT tb ld lK lC ou cK cT e1 e2 e3 cJ H locs ls hK hP hD hS hl
      · refine lv_tableIn (off := 1146) (tgt := 1186) hx hb dL_law_40 (by decide) (by decide) (by decide) (by decide) ?_
        exact zc_line C1 hfl hKX o kA iA tA tr lA mo kT tb ld lK lC ou cK cT e1 e2 e3 cJ H locs ls hK hP hD hS hl
      · refine lv_tableIn (off := 1230) (tgt := 1270) hx hb dL_law_40 (by decide) (by decide) (by decide) (by decide) ?_
        exact zc_clear C1 hfl hKX o kA iA tA tr lA mo kT tb ld lK lC ou cK cT e1 e2 e3 cJ H locs ls hK hP hD hS hl
      · refine lv_tableIn (off := 1243) (tgt := 1283) hx hb dL_law_40 (by decide) (by decide) (by decide) (by decide) ?_
        exact zc_sum C1 hfl hKX o kA iA tA tr lA mo kT tb ld lK lC ou cK cT e1 e2 e3 cJ H locs ls hK hP hD hS hl
      · refine lv_tableIn (off := 1299) (tgt := 1339) hx hb dL_law_40 (by decide) (by decide) (by decide) (by decide) ?_
        exact zc_middle C1 hfl hKX o kA iA tA tr lA mo kT tb ld lK lC ou cK cT e1 e2 e3 cJ H locs ls hK hP hD hS hl
      · refine lv_tableIn (off := 1368) (tgt := 1408) hx hb dL_law_40 (by decide) (by decide) (by decide) (by decide) ?_
        exact zc_filled C1 hfl hKX o kA iA tA tr lA mo kT tb ld lK lC ou cK cT e1 e2 e3 cJ H locs ls hK hP hD hS hl
      · refine lv_tableIn (off := 1409) (tgt := 1449) hx hb dL_law_40 (by decide) (by decide) (by decide) (by decide) ?_
        exact zc_digest C1 hfl hKX o kA iA tA tr lA mo kT tb ld lK lC ou cK cT e1 e2 e3 cJ H locs ls hK hP hD hS hl
    · have h_b := True.intro
      refine lv_tableOut (tgt := 1463) hx hb dL_law_40 ?_ (by decide) ?_
      · rcases Decidable.not_and_iff_or_not.mp hv with h | h
        · exact Or.inl (by rw [Int32.le_iff_toInt_le] at h; have h9 : ¬ (0 : Int) ≤ v_607.toInt := h; omega)
        · exact Or.inr (by rw [Int32.le_iff_toInt_le] at h; have h9 : ¬ v_607.toInt ≤ (19 : Int) := h; omega)
      · refine W.widen (k := 2000) (n := 20000) (by omega) (by omega) ?_
        subst hAe
        exact znext C1 o mo ou H locs ls hS hl
-- ===== YOUR PART ENDS =====
set_option maxHeartbeats 4000000 in
theorem lw_walk (l : Launch) (hflags : l.flags = flags0) (b : Addr) (xs : List Int32) : MetFree l x (headSpec (Jvm.Cond.code x code maxLocals ret :: tables_1) room_1) (lw_P b xs) (fun _ _ _ _ _ => True) lw_Q := by
  refine MetFree.of_bodyS (code := code) (maxLocals := maxLocals) (ret := ret) (by decide) ?_ ?_
  · intro args s m h hn
    obtain ⟨meth, c, h1, h2, h3, h4, h5, h6, -, -⟩ := Cond.code_spec hn (atoms_spec (ws := Jvm.Cond.code x code maxLocals ret :: tables_1) h _ List.mem_cons_self)
    exact ⟨meth, c, h1, h2, h3, h4, h5, h6⟩
  · intro p e s m args below meth c s₁ B hml0 hP _
    obtain ⟨rfl, hx, hbd, hgv⟩ := hP
    obtain ⟨scr, harrAt, hlist, hof, hsmall⟩ := hx
    obtain ⟨hcb, hkn, -, -⟩ := State.arrayAt?_spec harrAt
    have hown : s.vm.findClass R_law = some m.cls := findClass_of_methodNamed B.named
    have hts0 : ∀ c ∈ (Jvm.Cond.code x code maxLocals ret :: tables_1), c.before #[Value.ref b] s = true := atoms_spec (ws := Jvm.Cond.code x code maxLocals ret :: tables_1) B.pre
    have hts : ∀ w ∈ lw_tbl, w.before #[Value.ref b] s = true := k2_hts_sels lw_privs (fun w hw => hts0 w (List.mem_cons_of_mem _ hw)) lw_privs_ok
    have hml : c.maxLocals = 9 := B.maxLocals_eq (hts0 _ List.mem_cons_self)
    have X₀ : Stand p l e room_1 s m #[Value.ref b] below meth c s₁ [] 0 0 := Stand.of_body B
    have hh0 : s₁.heap = s.heap := by rw [B.state]; rfl
    have hsz : scr.slots.size = xs.length := by rw [← Array.length_toList, hlist, List.length_map]
    have hval : ∀ j : Nat, j < xs.length → scr.slots[j]? = some (.int (xs.getD j 0)) := fun j hj => by
      rw [← Array.getElem?_toList, hlist]
      simp [hj]
    have hbl : b < s.heap.size := (Array.getElem?_eq_some_iff.mp hcb).1
    have hX : va_X b xs.length (fun j => xs.getD j 0) s s.heap := ⟨scr, hcb, hof, hkn, hsz, hval⟩
    have K : W p l e room_1 s m #[Value.ref b] below meth c s₁.heap [] 0 0 (lw_Z below #[Value.ref b] s) (entryFrame m ([Value.ref b] : List Value).toArray 9) := by
      rw [hh0]
      exact whole_start l hflags hbd ⟨B.exec, B.bytes, B.returns, hml, hown, hts, hX, hbl, B.notSynchronized, hgv⟩
    obtain ⟨t, a1, o, b1, b2, b3⟩ := K s₁ rfl X₀
    exact ⟨t, o, a1, b1, b2, b3⟩
theorem lw_pre_spec {args : Array Value} {s : State} (h : (Jvm.Cond.and given_1 narrow_1).before args s = true) (hr : rest_1_c.before args s = true) : ∃ (b : Addr) (xs : List Int32), lw_P b xs args s := by
  have hs := flat_of_before _ h
  have hq := flat_of_before _ hr
  have hc : (Cond.count 1).before args s = true := hs _ (by decide +kernel)
  have harr : (Cond.arrayOf (.arg 0) .int).before args s = true := hs _ (by decide +kernel)
  have hle : (Cond.le (.length (.arg 0)) (.int 7)).before args s = true := hs _ (by decide +kernel)
  have hlen : (Cond.isInt (.length (.arg 0))).before args s = true := hq _ (by decide +kernel)
  have hall : (Cond.all (.arg 0) (.isInt (.elem (.arg 0) (.index 0)))).before args s = true := hq _ (by decide +kernel)
  obtain ⟨b, xs, hb, hx⟩ := State.ints_of_pre rfl harr hlen hall
  have hsm : xs.length < 2 ^ 31 := hx.choose_spec.2.2.2
  have hev : (Term.length (.arg 0)).eval args s none [] s = some (.int xs.length.toInt32) := hx.length_eval hb
  have hv := Cond.le_ints hev (show (Term.int 7).eval args s none [] s = some (.int 7) from rfl)
  have hd : xs.length.toInt32 ≤ 7 := by
    simpa [Cond.before, Cond.holds, hv] using hle
  have hN : xs.length ≤ 7 := (Int32.ofNat_le_ofNat hsm (by decide)).mp (show Int32.ofNat xs.length ≤ Int32.ofNat 7 from hd)
  exact ⟨b, xs, Cond.one_arg hc (show args[0]? = some (.ref b) from hb), hx, hN, h⟩
theorem lw_comes (l : Launch) (hflags : l.flags = flags0) : Comes l x (Jvm.Cond.code x code maxLocals ret :: tables_1) room_1 (fun tb e args s => Calls_1 tb e args s ∧ rest_1 tb e args s ∧ Pre_1 tb e args s)
    (fun _ _ args s o t => lw_Q args s o t) := by
  intro p e ha hc hk s m args below hf hfit hheap happ hpre
  obtain ⟨b, xs, hP⟩ := lw_pre_spec hpre.2.2 hpre.2.1
  obtain ⟨k, o, h1, h2, h3, hQ⟩ := lw_walk l hflags b xs p e ha hc hk s m args below hf ((Spec.applies_iff_loose hf).mp happ).1 hP trivial
  exact ⟨k, o, h1, h2, h3, hQ⟩
theorem lw_frame {s t : State} {o : Outcome} {args : Array Value} (h : State.butDraws s t lw_cs (fun t1 => Framed s o t1 [] 600002 7302232)) :
    State.butDraws s t [Jvm.Choice.named "NaN.bits"] (fun t1 => Framed s o t1 (fieldLocs frame_1_writes args s ++ arrayLocs frame_1_arrays args s ++ staticLocs frame_1_statics s) 600002 7302232) := h
theorem lw_limb (L : Cond) (hL : ∀ (args : Array Value) (s t : State), L.after args s (.returned (some (.int 1))) t = true) :
    ArmFor flags0 classFile x code maxLocals ret World_1 tables_1 room_1 Calls_1 rest_1 Pre_1
      (fun tb e a s o t => postC L tb e a s o t ∧ State.butDraws s t [Jvm.Choice.named "NaN.bits"] (fun t1 => Framed s o t1 (fieldLocs frame_1_writes a s ++ arrayLocs frame_1_arrays a s ++ staticLocs frame_1_statics s) 600002 7302232)) := by
  intro l hflags _ _ p e ha hc hk s m args below hf hfit hheap happ hpre
  obtain ⟨k, o, h1, h2, h3, rfl, hF⟩ := lw_comes l hflags p e ha hc hk s m args below hf hfit hheap happ hpre
  exact ⟨k, _, h1, h2, h3, hL args s _, lw_frame hF⟩
theorem i_vc : Claimed_1_1 ∧ Claimed_1_2 := ⟨lw_limb limb_1_1 (fun args s t => by simp [limb_1_1, Cond.after, Cond.holds, Cond.value]), lw_limb limb_1_2 (fun args s t => Cond.after_iff.mpr (by
  first | (rw [show limb_1_2 = Cond.eq .result (.int 1) from rfl, Cond.eq_ints (x := 1) (y := 1) rfl rfl]; simp; done) | (simp [limb_1_2, Cond.value, Term.eval]; done)))⟩
