set_option maxHeartbeats 4000000 in
set_option maxRecDepth 100000 in
/-- the lines, k of them left -/
theorem z_lines {p : Program} {e : Env} {s : State} {m : MethodId} {below : List Frame} {meth : Method} {c : Code} {l : Launch} {D : zG} {b : Nat} (C0 : zAt p s m meth c b) (o kA iA tA tr lA k0 su sc mo kT tb ld lK lC ou : Nat) (cK cT cL e1 e2 e3 e4 cJ : ClassId) (gk : Nat → Option Nat) (g : Nat → Int32) (hg : g 0 = 1 ∧ g 1 = 1 ∧ g 2 = 2 ∧ g 3 = 1 ∧ g 4 = 0 ∧ g 5 = 1) (hgk : gk 0 = some k0) : ∀ (k n : Nat), n + k = 20 → ∀ (w tf as : Nat → Int32) (f : Nat → Option Nat) (ad : Nat → Nat) (hk hc : Nat → Int32) (h : Nat → Int64) (hf : ∀ i, i < n → f i = some (ad i)) (hhk : ∀ i, i < n → hk i = 0) (hhc : ∀ i, i < n → hc i = 1) (H : Heap) (locs : List Loc) (ls : Array Slot), va_K D vwCl [(cK, .object RX1), (cT, .int), (cL, .object RX2), (e1, .int), (e2, .int), (e3, .int), (e4, .int), (cJ, .long)] s → va_P D vwCl (([(o, .inr (3, [.ref kA, .int 1, .int 1, .int 0, .int 1, .int 0, .ref iA, .int 0, .int 0, .int 0, .ref tA, .ref tr, .ref lA, .int (nI n)])), (kA, .inl (cK, 10, .inr (.inr (.inr (.inr (gk)))))), (tA, .inl (cT, 120, .inl (fun _ => 0))), (tr, .inr (0, [.int (w 0), .int (w 1), .int (w 2), .int (w 3), .int (w 4), .int (w 5), .int (w 6), .int (w 7), .int (w 8), .int (w 9), .int (w 10), .int (w 11), .int (w 12), .int (w 13), .int (w 14), .int (w 15), .ref su, .ref sc])), (lA, .inl (cL, 20, .inr (.inr (.inr (.inr (f)))))), (k0, .inr (1, [.int 0, .int 1, .int 1, .int 2, .int 1, .int 0, .int 1, .int 0])), (mo, .inr (4, [.int 0, .int 1, .ref kT, .int 1, .int 0, .int 1, .int 0, .int 0, .ref tb, .ref ld, .int (nI n), .ref lK, .ref lC, .int 0])), (kT, .inl (e1, 60, .inl (g))), (tb, .inl (e2, 366, .inl (tf))), (lK, .inl (e3, 20, .inl (hk))), (lC, .inl (e4, 20, .inl (hc))), (ou, .inl (cJ, 1, .inr (.inl (h))))] : va_W) ++ zL k0 ad as n) H → va_D (fun q : Nat => s.heap.size ≤ q) (([(o, .inr (3, [.ref kA, .int 1, .int 1, .int 0, .int 1, .int 0, .ref iA, .int 0, .int 0, .int 0, .ref tA, .ref tr, .ref lA, .int (nI n)])), (kA, .inl (cK, 10, .inr (.inr (.inr (.inr (gk)))))), (tA, .inl (cT, 120, .inl (fun _ => 0))), (tr, .inr (0, [.int (w 0), .int (w 1), .int (w 2), .int (w 3), .int (w 4), .int (w 5), .int (w 6), .int (w 7), .int (w 8), .int (w 9), .int (w 10), .int (w 11), .int (w 12), .int (w 13), .int (w 14), .int (w 15), .ref su, .ref sc])), (lA, .inl (cL, 20, .inr (.inr (.inr (.inr (f)))))), (k0, .inr (1, [.int 0, .int 1, .int 1, .int 2, .int 1, .int 0, .int 1, .int 0])), (mo, .inr (4, [.int 0, .int 1, .ref kT, .int 1, .int 0, .int 1, .int 0, .int 0, .ref tb, .ref ld, .int (nI n), .ref lK, .ref lC, .int 0])), (kT, .inl (e1, 60, .inl (g))), (tb, .inl (e2, 366, .inl (tf))), (lK, .inl (e3, 20, .inl (hk))), (lC, .inl (e4, 20, .inl (hc))), (ou, .inl (cJ, 1, .inr (.inl (h))))] : va_W) ++ zL k0 ad as n) → va_S (fun q : Nat => s.heap.size ≤ q) s.heap H locs → lv_has ls 9 [(4, .int (nI (14 + 7 * n))), (3, .ref ou), (2, .ref mo), (1, .ref o), (0, .ref b)] → zHd p l e s m below meth c b H locs (1000 + n) (10000 + 3 * n) ls := by
  have C1 := C0
  obtain ⟨hx, hb, hr, hml, hown, hts, hX, hbl, hlocks⟩ := C0
  have hA : ∀ q : Nat, s.heap.size ≤ q → (fun q : Nat => s.heap.size ≤ q) q := fun _ h => h
  have hbA : ¬ (fun q : Nat => s.heap.size ≤ q) b := Nat.not_le.mpr hbl
  have hRf : zR.frames = 13 := rfl
  have hRc : zR.cells = 760155 := rfl
  have hRs : zR.slots = 4597100 := rfl
  have hRl : zR.locals = 522 := rfl
  generalize hAe : (fun q : Nat => s.heap.size ≤ q) = A at *
  intro k
  induction k with
  | zero =>
    intro n hn w tf as f ad hk hc h hf hhk hhc H locs ls hK hP hD hS hl
    obtain rfl : n = 20 := by omega
    unfold zHd
    refine W.widen (k := 3000 + 4801 * 0) (n := 30000 + 28820 * 0) (by omega) (by omega) ?_
    subst hAe
    exact z_stacks C1 o kA iA tA tr lA k0 su sc mo kT tb ld lK lC ou cK cT cL e1 e2 e3 e4 cJ gk g hg f ad hf hk hc hhk hhc h 155 0 rfl w tf as H locs ls (by have := hS.1; omega) hK hP hD hS hl
  | succ k ih =>
    intro n hn w tf as f ad hk hc h hf hhk hhc H locs ls hK hP hD hS hl
    unfold zHd
    refine lv_iload hx hb dL_law_23 (lv_at hl 0 rfl) ?_
    refine lv_aload_n hx hb dL_law_25 rfl (lv_at hl 4 rfl) ?_
    refine va_slen hx hb hX hbl hbA hS dL_law_26 ?_
    refine lv_bipush (v := 7) hx hb dL_law_27 (by decide) ?_
    refine lv_isub hx hb dL_law_29 ?_
    refine lv_topi (fun v_420 ev_420 => ?_)
    obtain rfl : v_420 = (nI 1232) := ev_420.trans (by decide)
    refine lv_icmp_gt (tgt := 990) hx hb dL_law_30 (by decide) (fun c_421 => absurd c_421 (nI_nlt (by omega) (by omega))) (fun c_421 => ?_)
    refine lv_aload_n hx hb dL_law_33 rfl (lv_at hl 4 rfl) ?_
    refine lv_iload hx hb dL_law_34 (lv_at hl 0 rfl) ?_
    refine va_sld hx hb hX hbl hbA hS (vp_in_nI (N := 1239) (by omega) (by decide)) dL_law_36 ?_
    refine lv_topi (fun v_422 ev_422 => ?_)
    obtain rfl : v_422 = 12 := ev_422.trans (by rw [nI_clamp (by omega)]; exact zxs_a n 0 (by omega) (by omega))
    refine lv_bipush (v := 31) hx hb dL_law_37 (by decide) ?_
    refine lv_iand hx hb dL_law_39 ?_
    refine lv_topi (fun v_423 ev_423 => ?_)
    obtain rfl : v_423 = 12 := ev_423.trans (by decide)
    refine lv_tableIn (off := 722) (tgt := 762) hx hb dL_law_40 (by decide) (by decide) (by decide) (by decide) ?_
    refine lv_aload_n hx hb dL_law_762 rfl (lv_at hl 3 rfl) ?_
    refine lv_aload_n hx hb dL_law_763 rfl (lv_at hl 4 rfl) ?_
    refine lv_iload hx hb dL_law_764 (lv_at hl 0 rfl) ?_
    refine lv_iconst (v := 1) hx hb dL_law_766 (by decide) ?_
    refine lv_iadd hx hb dL_law_767 ?_
    refine lv_topi (fun v_424 ev_424 => ?_)
    obtain rfl : v_424 = (nI (14 + 7 * n + 1)) := ev_424.trans (nI_add _ 1)
    refine va_sld hx hb hX hbl hbA hS (vp_in_nI (N := 1239) (by omega) (by decide)) dL_law_768 ?_
    refine lv_topi (fun v_425 ev_425 => ?_)
    obtain rfl : v_425 = 0 := ev_425.trans (by rw [nI_clamp (by omega)]; exact zxs_a n 1 (by omega) (by omega))
    refine lv_aload_n hx hb dL_law_769 rfl (lv_at hl 4 rfl) ?_
    refine lv_iload hx hb dL_law_770 (lv_at hl 0 rfl) ?_
    refine lv_iconst (v := 2) hx hb dL_law_772 (by decide) ?_
    refine lv_iadd hx hb dL_law_773 ?_
    refine lv_topi (fun v_426 ev_426 => ?_)
    obtain rfl : v_426 = (nI (14 + 7 * n + 2)) := ev_426.trans (nI_add _ 2)
    refine va_sld hx hb hX hbl hbA hS (vp_in_nI (N := 1239) (by omega) (by decide)) dL_law_774 ?_
    refine lv_topi (fun v_427 ev_427 => ?_)
    obtain rfl : v_427 = 1 := ev_427.trans (by rw [nI_clamp (by omega)]; exact zxs_a n 2 (by omega) (by omega))
    refine lv_aload_n hx hb dL_law_775 rfl (lv_at hl 1 rfl) ?_
    refine zcalliSWQ (hh := [(0, 10, 13, 25), (0, 10, 17, 13), (0, 10, 21, 15)]) (As := [.ref o, .int 0, .int 1, .ref ou]) (rest := []) (cx := [(o, .inr (3, [.ref kA, .int 1, .int 1, .int 0, .int 1, .int 0, .ref iA, .int 0, .int 0, .int 0, .ref tA, .ref tr, .ref lA, .int (nI n)])), (kA, .inl (cK, 10, .inr (.inr (.inr (.inr (gk)))))), (lA, .inl (cL, 20, .inr (.inr (.inr (.inr (f)))))), (k0, .inr (1, [.int 0, .int 1, .int 1, .int 2, .int 1, .int 0, .int 1, .int 0])), (ou, .inl (cJ, 1, .inr (.inl (h))))]) (wr := [(tA, .inl (cT, 120, .inl (fun _ => 0))), (tr, .inr (0, [.int (w 0), .int (w 1), .int (w 2), .int (w 3), .int (w 4), .int (w 5), .int (w 6), .int (w 7), .int (w 8), .int (w 9), .int (w 10), .int (w 11), .int (w 12), .int (w 13), .int (w 14), .int (w 15), .ref su, .ref sc])), (mo, .inr (4, [.int 0, .int 1, .ref kT, .int 1, .int 0, .int 1, .int 0, .int 0, .ref tb, .ref ld, .int (nI n), .ref lK, .ref lC, .int 0])), (kT, .inl (e1, 60, .inl (g))), (tb, .inl (e2, 366, .inl (tf))), (lK, .inl (e3, 20, .inl (hk))), (lC, .inl (e4, 20, .inl (hc)))]) ⟨hx, hb, hml, hown, hts⟩ (c_LaddLine l D _ o kA iA tA tr lA n ou cK cL cJ gk f k0 hgk (by omega) h) (vx_cwSW 4 hts zgS_L_addLine rfl rfl rfl (by decide +kernel) ⟨by rw [hRf]; exact Nat.le_of_ble_eq_true rfl, by rw [hRl]; exact Nat.le_of_ble_eq_true rfl⟩) hK hP hD hS hA [0, 1, 4, 5, 11] [2, 3, 6, 7, 8, 9, 10] rfl (by decide) rfl (by decide) (by decide) [0, 2, 7] rfl rfl hl.1 rfl (Nat.le_of_ble_eq_true rfl) dL_law_776 ⟨by omega, by omega⟩ (fun r_428 u_429 H locs hwu_429 hnu_429 hzu_429 hK hP hD hS => ?_)
    have hK : va_K D vwCl [(cK, .object RX1), (cT, .int), (cL, .object RX2), (e1, .int), (e2, .int), (e3, .int), (e4, .int), (cJ, .long)] s := hK
    have hP : va_P D vwCl (([(tA, .inl (cT, 120, .inl (fun _ => 0))), (tr, .inr (0, [.int (w 0), .int (w 1), .int (w 2), .int (w 3), .int (w 4), .int (w 5), .int (w 6), .int (w 7), .int (w 8), .int (w 9), .int (w 10), .int (w 11), .int (w 12), .int (w 13), .int (w 14), .int (w 15), .ref su, .ref sc])), (mo, .inr (4, [.int 0, .int 1, .ref kT, .int 1, .int 0, .int 1, .int 0, .int 0, .ref tb, .ref ld, .int (nI n), .ref lK, .ref lC, .int 0])), (kT, .inl (e1, 60, .inl (g))), (tb, .inl (e2, 366, .inl (tf))), (lK, .inl (e3, 20, .inl (hk))), (lC, .inl (e4, 20, .inl (hc))), (o, .inr (3, [.ref kA, .int 1, .int 1, .int 0, .int 1, .int 0, .ref iA, .int 0, .int 0, .int 0, .ref tA, .ref tr, .ref lA, .int (nI (n + 1))])), (kA, .inl (cK, 10, .inr (.inr (.inr (.inr (gk)))))), (lA, .inl (cL, 20, .inr (.inr (.inr (.inr (va_up f n (some u_429))))))), (k0, .inr (1, [.int 0, .int 1, .int 1, .int 2, .int 1, .int 0, .int 1, .int 0])), (ou, .inl (cJ, 1, .inr (.inl (vp_updL h 0 (nI n : Int32).toInt64)))), (u_429, .inr (2, [.ref k0, .int 1, .int 0]))] : va_W) ++ zL k0 ad as n) H := hP
    have hD : va_D A (([(tA, .inl (cT, 120, .inl (fun _ => 0))), (tr, .inr (0, [.int (w 0), .int (w 1), .int (w 2), .int (w 3), .int (w 4), .int (w 5), .int (w 6), .int (w 7), .int (w 8), .int (w 9), .int (w 10), .int (w 11), .int (w 12), .int (w 13), .int (w 14), .int (w 15), .ref su, .ref sc])), (mo, .inr (4, [.int 0, .int 1, .ref kT, .int 1, .int 0, .int 1, .int 0, .int 0, .ref tb, .ref ld, .int (nI n), .ref lK, .ref lC, .int 0])), (kT, .inl (e1, 60, .inl (g))), (tb, .inl (e2, 366, .inl (tf))), (lK, .inl (e3, 20, .inl (hk))), (lC, .inl (e4, 20, .inl (hc))), (o, .inr (3, [.ref kA, .int 1, .int 1, .int 0, .int 1, .int 0, .ref iA, .int 0, .int 0, .int 0, .ref tA, .ref tr, .ref lA, .int (nI (n + 1))])), (kA, .inl (cK, 10, .inr (.inr (.inr (.inr (gk)))))), (lA, .inl (cL, 20, .inr (.inr (.inr (.inr (va_up f n (some u_429))))))), (k0, .inr (1, [.int 0, .int 1, .int 1, .int 2, .int 1, .int 0, .int 1, .int 0])), (ou, .inl (cJ, 1, .inr (.inl (vp_updL h 0 (nI n : Int32).toInt64)))), (u_429, .inr (2, [.ref k0, .int 1, .int 0]))] : va_W) ++ zL k0 ad as n) := hD
    refine lv_topi (fun v_430 ev_430 => ?_)
    obtain rfl : v_430 = 0 := ev_430.trans hwu_429
    refine lv_istore (lv' := [(5, .int 0), (4, .int (nI (14 + 7 * n))), (3, .ref ou), (2, .ref mo), (1, .ref o), (0, .ref b)]) hx hb dL_law_779 hl (by decide) rfl (fun ls hl => ?_)
    refine lv_aload_n hx hb dL_law_781 rfl (lv_at hl 3 rfl) ?_
    refine lv_aload_n hx hb dL_law_782 rfl (lv_at hl 5 rfl) ?_
    refine lv_iload hx hb dL_law_783 (lv_at hl 1 rfl) ?_
    refine lv_iconst (v := 1) hx hb dL_law_785 (by decide) ?_
    refine lv_iadd hx hb dL_law_786 ?_
    refine lv_topi (fun v_431 ev_431 => ?_)
    obtain rfl : v_431 = (nI (14 + 7 * n + 1)) := ev_431.trans (nI_add _ 1)
    refine va_sld hx hb hX hbl hbA hS (vp_in_nI (N := 1239) (by omega) (by decide)) dL_law_787 ?_
    refine lv_topi (fun v_432 ev_432 => ?_)
    obtain rfl : v_432 = 0 := ev_432.trans (by rw [nI_clamp (by omega)]; exact zxs_a n 1 (by omega) (by omega))
    refine lv_aload_n hx hb dL_law_788 rfl (lv_at hl 5 rfl) ?_
    refine lv_iload hx hb dL_law_789 (lv_at hl 1 rfl) ?_
    refine lv_iconst (v := 2) hx hb dL_law_791 (by decide) ?_
    refine lv_iadd hx hb dL_law_792 ?_
    refine lv_topi (fun v_433 ev_433 => ?_)
    obtain rfl : v_433 = (nI (14 + 7 * n + 2)) := ev_433.trans (nI_add _ 2)
    refine va_sld hx hb hX hbl hbA hS (vp_in_nI (N := 1239) (by omega) (by decide)) dL_law_793 ?_
    refine lv_topi (fun v_434 ev_434 => ?_)
    obtain rfl : v_434 = 1 := ev_434.trans (by rw [nI_clamp (by omega)]; exact zxs_a n 2 (by omega) (by omega))
    refine zcalliVQ (As := [.int 0, .int 1]) (rest := []) (cx := [(mo, .inr (4, [.int 0, .int 1, .ref kT, .int 1, .int 0, .int 1, .int 0, .int 0, .ref tb, .ref ld, .int (nI n), .ref lK, .ref lC, .int 0])), (lK, .inl (e3, 20, .inl (hk))), (lC, .inl (e4, 20, .inl (hc)))]) (wr := [(tA, .inl (cT, 120, .inl (fun _ => 0))), (tr, .inr (0, [.int (w 0), .int (w 1), .int (w 2), .int (w 3), .int (w 4), .int (w 5), .int (w 6), .int (w 7), .int (w 8), .int (w 9), .int (w 10), .int (w 11), .int (w 12), .int (w 13), .int (w 14), .int (w 15), .ref su, .ref sc])), (kT, .inl (e1, 60, .inl (g))), (tb, .inl (e2, 366, .inl (tf))), (o, .inr (3, [.ref kA, .int 1, .int 1, .int 0, .int 1, .int 0, .ref iA, .int 0, .int 0, .int 0, .ref tA, .ref tr, .ref lA, .int (nI (n + 1))])), (kA, .inl (cK, 10, .inr (.inr (.inr (.inr (gk)))))), (lA, .inl (cL, 20, .inr (.inr (.inr (.inr (va_up f n (some u_429))))))), (k0, .inr (1, [.int 0, .int 1, .int 1, .int 2, .int 1, .int 0, .int 1, .int 0])), (ou, .inl (cJ, 1, .inr (.inl (vp_updL h 0 (nI n : Int32).toInt64)))), (u_429, .inr (2, [.ref k0, .int 1, .int 0]))]) ⟨hx, hb, hml, hown, hts⟩ (c_addLineM l D _ mo kT tb ld lK lC n e3 e4 hk hc hhk hhc (by omega)) (cwV 2 hts zgV_X4_addLine rfl rfl rfl (by decide +kernel) ⟨by rw [hRf]; exact Nat.le_of_ble_eq_true rfl, by rw [hRl]; exact Nat.le_of_ble_eq_true rfl⟩) hK hP hD hS hA [2, 5, 6] [0, 1, 3, 4, 7, 8, 9, 10, 11, 12] rfl (by decide) rfl (by decide) (by decide) [5, 6] rfl (ci := 4) (q0 := 0) rfl rfl rfl hl.1 rfl (Nat.le_of_ble_eq_true rfl) dL_law_794 ⟨by omega, by omega⟩ (fun r_435 u_436 H locs hwu_436 hnu_436 hzu_436 hK hP hD hS => ?_)
    have hK : va_K D vwCl [(cK, .object RX1), (cT, .int), (cL, .object RX2), (e1, .int), (e2, .int), (e3, .int), (e4, .int), (cJ, .long), (e3, .int), (e4, .int)] s := hK
    have hP : va_P D vwCl (([(tA, .inl (cT, 120, .inl (fun _ => 0))), (tr, .inr (0, [.int (w 0), .int (w 1), .int (w 2), .int (w 3), .int (w 4), .int (w 5), .int (w 6), .int (w 7), .int (w 8), .int (w 9), .int (w 10), .int (w 11), .int (w 12), .int (w 13), .int (w 14), .int (w 15), .ref su, .ref sc])), (kT, .inl (e1, 60, .inl (g))), (tb, .inl (e2, 366, .inl (tf))), (o, .inr (3, [.ref kA, .int 1, .int 1, .int 0, .int 1, .int 0, .ref iA, .int 0, .int 0, .int 0, .ref tA, .ref tr, .ref lA, .int (nI (n + 1))])), (kA, .inl (cK, 10, .inr (.inr (.inr (.inr (gk)))))), (lA, .inl (cL, 20, .inr (.inr (.inr (.inr (va_up f n (some u_429))))))), (k0, .inr (1, [.int 0, .int 1, .int 1, .int 2, .int 1, .int 0, .int 1, .int 0])), (ou, .inl (cJ, 1, .inr (.inl (vp_updL h 0 (nI n : Int32).toInt64)))), (u_429, .inr (2, [.ref k0, .int 1, .int 0])), (mo, .inr (4, [.int 0, .int 1, .ref kT, .int 1, .int 0, .int 1, .int 0, .int 0, .ref tb, .ref ld, .int (nI (n + 1)), .ref lK, .ref lC, .int 0])), (lK, .inl (e3, 20, .inl (u_436.1))), (lC, .inl (e4, 20, .inl (u_436.2)))] : va_W) ++ zL k0 ad as n) H := hP
    have hD : va_D A (([(tA, .inl (cT, 120, .inl (fun _ => 0))), (tr, .inr (0, [.int (w 0), .int (w 1), .int (w 2), .int (w 3), .int (w 4), .int (w 5), .int (w 6), .int (w 7), .int (w 8), .int (w 9), .int (w 10), .int (w 11), .int (w 12), .int (w 13), .int (w 14), .int (w 15), .ref su, .ref sc])), (kT, .inl (e1, 60, .inl (g))), (tb, .inl (e2, 366, .inl (tf))), (o, .inr (3, [.ref kA, .int 1, .int 1, .int 0, .int 1, .int 0, .ref iA, .int 0, .int 0, .int 0, .ref tA, .ref tr, .ref lA, .int (nI (n + 1))])), (kA, .inl (cK, 10, .inr (.inr (.inr (.inr (gk)))))), (lA, .inl (cL, 20, .inr (.inr (.inr (.inr (va_up f n (some u_429))))))), (k0, .inr (1, [.int 0, .int 1, .int 1, .int 2, .int 1, .int 0, .int 1, .int 0])), (ou, .inl (cJ, 1, .inr (.inl (vp_updL h 0 (nI n : Int32).toInt64)))), (u_429, .inr (2, [.ref k0, .int 1, .int 0])), (mo, .inr (4, [.int 0, .int 1, .ref kT, .int 1, .int 0, .int 1, .int 0, .int 0, .ref tb, .ref ld, .int (nI (n + 1)), .ref lK, .ref lC, .int 0])), (lK, .inl (e3, 20, .inl (u_436.1))), (lC, .inl (e4, 20, .inl (u_436.2)))] : va_W) ++ zL k0 ad as n) := hD
    refine lv_topi (fun v_437 ev_437 => ?_)
    obtain rfl : v_437 = (nI n) := ev_437.trans hwu_436.1
    refine lv_istore (lv' := [(6, .int (nI n)), (5, .int 0), (4, .int (nI (14 + 7 * n))), (3, .ref ou), (2, .ref mo), (1, .ref o), (0, .ref b)]) hx hb dL_law_797 hl (by decide) rfl (fun ls hl => ?_)
    refine lv_goto (tgt := 984) hx hb dL_law_799 (by decide) ?_
    refine lv_iinc (v := (nI (14 + 7 * (n + 1)))) (lv' := [(4, .int (nI (14 + 7 * (n + 1)))), (6, .int (nI n)), (5, .int 0), (3, .ref ou), (2, .ref mo), (1, .ref o), (0, .ref b)]) hx hb dL_law_984 hl (k := 2) rfl ((nI_add (14 + 7 * n) 7)) (by decide) rfl (fun ls hl => ?_)
    refine lv_goto (tgt := 23) hx hb dL_law_987 (by decide) ?_
    have hl := lv_sub hl (l' := [(4, .int (nI (14 + 7 * (n + 1)))), (3, .ref ou), (2, .ref mo), (1, .ref o), (0, .ref b)]) [0, 3, 4, 5, 6] rfl
    have hP := hP.part (cx := [(o, .inr (3, [.ref kA, .int 1, .int 1, .int 0, .int 1, .int 0, .ref iA, .int 0, .int 0, .int 0, .ref tA, .ref tr, .ref lA, .int (nI (n + 1))])), (kA, .inl (cK, 10, .inr (.inr (.inr (.inr (gk)))))), (tA, .inl (cT, 120, .inl (fun _ => 0))), (tr, .inr (0, [.int (w 0), .int (w 1), .int (w 2), .int (w 3), .int (w 4), .int (w 5), .int (w 6), .int (w 7), .int (w 8), .int (w 9), .int (w 10), .int (w 11), .int (w 12), .int (w 13), .int (w 14), .int (w 15), .ref su, .ref sc])), (lA, .inl (cL, 20, .inr (.inr (.inr (.inr (va_up f n (some u_429))))))), (k0, .inr (1, [.int 0, .int 1, .int 1, .int 2, .int 1, .int 0, .int 1, .int 0])), (mo, .inr (4, [.int 0, .int 1, .ref kT, .int 1, .int 0, .int 1, .int 0, .int 0, .ref tb, .ref ld, .int (nI (n + 1)), .ref lK, .ref lC, .int 0])), (kT, .inl (e1, 60, .inl (g))), (tb, .inl (e2, 366, .inl (tf))), (lK, .inl (e3, 20, .inl (u_436.1))), (lC, .inl (e4, 20, .inl (u_436.2))), (ou, .inl (cJ, 1, .inr (.inl (vp_updL h 0 (nI n : Int32).toInt64)))), (u_429, .inr (2, [.ref k0, .int 1, .int 0]))]) [4, 5, 0, 1, 6, 7, 10, 2, 3, 11, 12, 8, 9] rfl
    have hD := hD.part (cx := [(o, .inr (3, [.ref kA, .int 1, .int 1, .int 0, .int 1, .int 0, .ref iA, .int 0, .int 0, .int 0, .ref tA, .ref tr, .ref lA, .int (nI (n + 1))])), (kA, .inl (cK, 10, .inr (.inr (.inr (.inr (gk)))))), (tA, .inl (cT, 120, .inl (fun _ => 0))), (tr, .inr (0, [.int (w 0), .int (w 1), .int (w 2), .int (w 3), .int (w 4), .int (w 5), .int (w 6), .int (w 7), .int (w 8), .int (w 9), .int (w 10), .int (w 11), .int (w 12), .int (w 13), .int (w 14), .int (w 15), .ref su, .ref sc])), (lA, .inl (cL, 20, .inr (.inr (.inr (.inr (va_up f n (some u_429))))))), (k0, .inr (1, [.int 0, .int 1, .int 1, .int 2, .int 1, .int 0, .int 1, .int 0])), (mo, .inr (4, [.int 0, .int 1, .ref kT, .int 1, .int 0, .int 1, .int 0, .int 0, .ref tb, .ref ld, .int (nI (n + 1)), .ref lK, .ref lC, .int 0])), (kT, .inl (e1, 60, .inl (g))), (tb, .inl (e2, 366, .inl (tf))), (lK, .inl (e3, 20, .inl (u_436.1))), (lC, .inl (e4, 20, .inl (u_436.2))), (ou, .inl (cJ, 1, .inr (.inl (vp_updL h 0 (nI n : Int32).toInt64)))), (u_429, .inr (2, [.ref k0, .int 1, .int 0]))]) [4, 5, 0, 1, 6, 7, 10, 2, 3, 11, 12, 8, 9] (by decide) rfl
    have hP := zP_perm (zL_in (X := [(o, .inr (3, [.ref kA, .int 1, .int 1, .int 0, .int 1, .int 0, .ref iA, .int 0, .int 0, .int 0, .ref tA, .ref tr, .ref lA, .int (nI (n + 1))])), (kA, .inl (cK, 10, .inr (.inr (.inr (.inr (gk)))))), (tA, .inl (cT, 120, .inl (fun _ => 0))), (tr, .inr (0, [.int (w 0), .int (w 1), .int (w 2), .int (w 3), .int (w 4), .int (w 5), .int (w 6), .int (w 7), .int (w 8), .int (w 9), .int (w 10), .int (w 11), .int (w 12), .int (w 13), .int (w 14), .int (w 15), .ref su, .ref sc])), (lA, .inl (cL, 20, .inr (.inr (.inr (.inr (va_up f n (some u_429))))))), (k0, .inr (1, [.int 0, .int 1, .int 1, .int 2, .int 1, .int 0, .int 1, .int 0])), (mo, .inr (4, [.int 0, .int 1, .ref kT, .int 1, .int 0, .int 1, .int 0, .int 0, .ref tb, .ref ld, .int (nI (n + 1)), .ref lK, .ref lC, .int 0])), (kT, .inl (e1, 60, .inl (g))), (tb, .inl (e2, 366, .inl (tf))), (lK, .inl (e3, 20, .inl (u_436.1))), (lC, .inl (e4, 20, .inl (u_436.2))), (ou, .inl (cJ, 1, .inr (.inl (vp_updL h 0 (nI n : Int32).toInt64))))]) (k0 := k0) (q := u_429) (ad := ad) (as := as) (n := n) (v := 0)) hP
    have hD := zD_perm (zL_in (X := [(o, .inr (3, [.ref kA, .int 1, .int 1, .int 0, .int 1, .int 0, .ref iA, .int 0, .int 0, .int 0, .ref tA, .ref tr, .ref lA, .int (nI (n + 1))])), (kA, .inl (cK, 10, .inr (.inr (.inr (.inr (gk)))))), (tA, .inl (cT, 120, .inl (fun _ => 0))), (tr, .inr (0, [.int (w 0), .int (w 1), .int (w 2), .int (w 3), .int (w 4), .int (w 5), .int (w 6), .int (w 7), .int (w 8), .int (w 9), .int (w 10), .int (w 11), .int (w 12), .int (w 13), .int (w 14), .int (w 15), .ref su, .ref sc])), (lA, .inl (cL, 20, .inr (.inr (.inr (.inr (va_up f n (some u_429))))))), (k0, .inr (1, [.int 0, .int 1, .int 1, .int 2, .int 1, .int 0, .int 1, .int 0])), (mo, .inr (4, [.int 0, .int 1, .ref kT, .int 1, .int 0, .int 1, .int 0, .int 0, .ref tb, .ref ld, .int (nI (n + 1)), .ref lK, .ref lC, .int 0])), (kT, .inl (e1, 60, .inl (g))), (tb, .inl (e2, 366, .inl (tf))), (lK, .inl (e3, 20, .inl (u_436.1))), (lC, .inl (e4, 20, .inl (u_436.2))), (ou, .inl (cJ, 1, .inr (.inl (vp_updL h 0 (nI n : Int32).toInt64))))]) (k0 := k0) (q := u_429) (ad := ad) (as := as) (n := n) (v := 0)) hD
    have hK := hK.sub (tys' := [(cK, .object RX1), (cT, .int), (cL, .object RX2), (e1, .int), (e2, .int), (e3, .int), (e4, .int), (cJ, .long)]) [0, 1, 2, 3, 4, 5, 6, 7] rfl
    refine W.widen (k := (1000 + (n + 1))) (n := (10000 + 3 * (n + 1))) (by omega) (by omega) ?_
    refine ih (n + 1) (by omega) w tf (upd as n 0) (va_up f n (some u_429)) (va_up ad n u_429) u_436.1 u_436.2 (vp_updL h 0 (nI n : Int32).toInt64) (fun i hi => ?_) hwu_436.2.1 hwu_436.2.2 H locs ls hK hP hD hS hl
    simp only [va_up]
    by_cases h9 : i = n
    · rw [if_pos h9, if_pos h9]
    · rw [if_neg h9, if_neg h9]; exact hf i (by omega)
set_option maxHeartbeats 4000000 in
set_option maxRecDepth 100000 in
/-- the law on the script, from its entry: it comes to its end, with more than 741780 cells made -/
theorem z_law {p : Program} {e : Env} {s : State} {m : MethodId} {below : List Frame} {meth : Method} {c : Code} {l : Launch} {b : Nat} (C0 : zAt p s m meth c b) : W p l e zR s m #[Value.ref b] below meth c s.heap [] 0 0 (zZ below s) (entryFrame m ([Value.ref b] : List Value).toArray 9) := by
  have C1 := C0
  obtain ⟨hx, hb, hr, hml, hown, hts, hX, hbl, hlocks⟩ := C0
  have hA : ∀ q : Nat, s.heap.size ≤ q → (fun q : Nat => s.heap.size ≤ q) q := fun _ h => h
  have hbA : ¬ (fun q : Nat => s.heap.size ≤ q) b := Nat.not_le.mpr hbl
  have hRf : zR.frames = 13 := rfl
  have hRc : zR.cells = 760155 := rfl
  have hRs : zR.slots = 4597100 := rfl
  have hRl : zR.locals = 522 := rfl
  generalize hAe : (fun q : Nat => s.heap.size ≤ q) = A at *
  obtain ⟨c0, iS0, hKn0⟩ := u_known (C := RX0) (T := TX0) (N := 18) (n := 18) hts inT_X0 (hts (.instantiable RX0 18) (List.mem_of_getElem? (i := 88) (by decide +kernel)))
  obtain ⟨c1, iS1, hKn1⟩ := u_known (C := RX1) (T := TX1) (N := 8) (n := 8) hts inT_X1 (hts (.instantiable RX1 8) (List.mem_of_getElem? (i := 473) (by decide +kernel)))
  obtain ⟨c2, iS2, hKn2⟩ := u_known (C := RX2) (T := TX2) (N := 3) (n := 3) hts inT_X2 (hts (.instantiable RX2 3) (List.mem_of_getElem? (i := 634) (by decide +kernel)))
  obtain ⟨c3, iS3, hKn3⟩ := u_known (C := RX3) (T := TX3) (N := 14) (n := 14) hts inT_X3 (hts (.instantiable RX3 14) (List.mem_of_getElem? (i := 77) (by decide +kernel)))
  obtain ⟨c4, iS4, hKn4⟩ := u_known (C := RX4) (T := TX4) (N := 14) (n := 14) hts inT_X4 (hts (.instantiable RX4 14) (List.mem_of_getElem? (i := 667) (by decide +kernel)))
  obtain ⟨dC, dI, hKc⟩ : ∃ (dC : Nat → ClassId) (dI : Nat → Nat → Nat), ∀ (k : Nat) (q : vw_C), vwCl[k]? = some q → u_Kn s q.1 q.2.1 q.2.2 (dC k) (dI k) := by
    refine ⟨fun k => [c0, c1, c2, c3, c4].getD k c0, fun k => match k with | 0 => iS0 | 1 => iS1 | 2 => iS2 | 3 => iS3 | _ => iS4, ?_⟩
    intro k q hq
    match k, hq with
    | 0, hq => cases hq; exact hKn0
    | 1, hq => cases hq; exact hKn1
    | 2, hq => cases hq; exact hKn2
    | 3, hq => cases hq; exact hKn3
    | 4, hq => cases hq; exact hKn4
    | k + 5, hq => simp [vwCl] at hq
  obtain ⟨D, hDe⟩ : ∃ D : zG, D = (dC, dI) := ⟨_, rfl⟩
  have hK : va_K D vwCl [] s := by rw [hDe]; exact ⟨hKc, fun k q h => by simp at h⟩
  have hP : va_P D vwCl [] s.heap := fun k q h => by simp at h
  have hD : va_D A [] := ⟨fun i j p q h => by simp at h, fun k q h => by simp at h⟩
  have hS : va_S A s.heap s.heap [] := va_S.rf
  have hl := lv_entry ([.ref b]) (n := 9) (Nat.le_of_ble_eq_true rfl)
  rw [lg_entry_eq]
  generalize (lg_sl ([.ref b]) ++ List.replicate (9 - (lg_sl ([.ref b])).length) Slot.unset).toArray = ls at hl ⊢
  have hl : lv_has ls 9 [(0, .ref b)] := hl
  refine va_new (D := D) (ci := 3) (fs := [.null, .int 0, .int 0, .int 0, .int 0, .int 0, .null, .int 0, .int 0, .int 0, .null, .null, .null, .int 0]) (C := RX3) (T := TX3) (N := 14) hx hb hts inT_X3 tyX3 tyX3_ok hown (hts (.classLink RL 8 RX3) (List.mem_of_getElem? (i := 76) (by decide +kernel))) (hts (.instantiable RX3 14) (List.mem_of_getElem? (i := 77) (by decide +kernel))) (hts (.initialized RX3) (List.mem_of_getElem? (i := 63) (by decide +kernel))) hK hP hD hS hA rfl (fun j hj => by rcases (show j = 0 ∨ j = 1 ∨ j = 2 ∨ j = 3 ∨ j = 4 ∨ j = 5 ∨ j = 6 ∨ j = 7 ∨ j = 8 ∨ j = 9 ∨ j = 10 ∨ j = 11 ∨ j = 12 ∨ j = 13 by omega) with rfl | rfl | rfl | rfl | rfl | rfl | rfl | rfl | rfl | rfl | rfl | rfl | rfl | rfl <;> rfl) (by omega) (by omega) dL_law_0 (fun o H hP hD hS => ?_)
  have hP : va_P D vwCl ([(o, .inr (3, [.null, .int 0, .int 0, .int 0, .int 0, .int 0, .null, .int 0, .int 0, .int 0, .null, .null, .null, .int 0]))]) H := hP
  have hD : va_D A ([(o, .inr (3, [.null, .int 0, .int 0, .int 0, .int 0, .int 0, .null, .int 0, .int 0, .int 0, .null, .null, .null, .int 0]))]) := hD
  refine lv_dup hx hb dL_law_3 rfl ?_
  refine zcallvIK (As := []) (rest := [.ref o]) (wc := [(o, .inr (3, [.null, .int 0, .int 0, .int 0, .int 0, .int 0, .null, .int 0, .int 0, .int 0, .null, .null, .null, .int 0]))]) (wr := []) ⟨hx, hb, hml, hown, hts⟩ (c_PS_init l D _ o) (⟨callB_of 0 hts zg_X3_init rfl rfl rfl (hts (.initialized RX3) (List.mem_of_getElem? (i := 63) (by decide +kernel))) (hts (.methodLink RL 67 yX3_init) (List.mem_of_getElem? (i := 78) (by decide +kernel))) (by decide +kernel) ⟨by rw [hRf]; exact Nat.le_of_ble_eq_true rfl, by rw [hRl]; exact Nat.le_of_ble_eq_true rfl⟩, rfl, (hts (.instanceMethod yX3_init) (List.mem_of_getElem? (i := 79) (by decide +kernel)))⟩) (fun _ U _ _ h => ⟨h.1.moved (Vm.Alike.refl U.vm), h.2.1.moved (Vm.Alike.refl U.vm), h.2.2.1.moved (Vm.Alike.refl U.vm), va_Nw.same rfl rfl h.2.2.2⟩) (fun U hW => ⟨(va_AO.of (hts (.arrayOver (.object RX0)) (List.mem_of_getElem? (i := 87) (by decide +kernel)))).moved hW.alike, (va_AO.of (hts (.arrayOver (.object RX1)) (List.mem_of_getElem? (i := 85) (by decide +kernel)))).moved hW.alike, (va_AO.of (hts (.arrayOver (.object RX2)) (List.mem_of_getElem? (i := 167) (by decide +kernel)))).moved hW.alike, va_Nw.warmM hW (va_Nw.of rfl (hts (.methodLinkNest RX3 51 yX0_init "PalletStack") (List.mem_of_getElem? (i := 89) (by decide +kernel))))⟩) hK hP hD hS hA [0] [] rfl (by decide) rfl (by decide) (by decide) [] rfl rfl hl.1 rfl (Nat.le_of_ble_eq_true rfl) dL_law_4 ⟨by omega, by omega⟩ (fun u_438 H locs hwu_438 hnu_438 hzu_438 hK hP hD hS => ?_)
  have hP : va_P D vwCl ([(o, .inr (3, [.ref (u_438.1 0), .int 0, .int 20, .int 60, .int 2000, .int 0, .ref (u_438.1 1), .int 0, .int 0, .int 0, .ref (u_438.1 2), .ref (u_438.1 3), .ref (u_438.1 4), .int 0])), ((u_438.1 0), .inl ((u_438.2 0), 10, .inr (.inr (.inr (.inr (fun _ => none)))))), ((u_438.1 2), .inl ((u_438.2 1), 120, .inl (fun _ => 0))), ((u_438.1 3), .inr (0, [.int 0, .int 0, .int 0, .int 0, .int 0, .int 0, .int 0, .int 0, .int 0, .int 0, .int 0, .int 0, .int 0, .int 0, .int 0, .int 0, .ref (u_438.1 5), .ref (u_438.1 6)])), ((u_438.1 4), .inl ((u_438.2 2), 20, .inr (.inr (.inr (.inr (fun _ => none))))))]) H := hP
  have hD : va_D A ([(o, .inr (3, [.ref (u_438.1 0), .int 0, .int 20, .int 60, .int 2000, .int 0, .ref (u_438.1 1), .int 0, .int 0, .int 0, .ref (u_438.1 2), .ref (u_438.1 3), .ref (u_438.1 4), .int 0])), ((u_438.1 0), .inl ((u_438.2 0), 10, .inr (.inr (.inr (.inr (fun _ => none)))))), ((u_438.1 2), .inl ((u_438.2 1), 120, .inl (fun _ => 0))), ((u_438.1 3), .inr (0, [.int 0, .int 0, .int 0, .int 0, .int 0, .int 0, .int 0, .int 0, .int 0, .int 0, .int 0, .int 0, .int 0, .int 0, .int 0, .int 0, .ref (u_438.1 5), .ref (u_438.1 6)])), ((u_438.1 4), .inl ((u_438.2 2), 20, .inr (.inr (.inr (.inr (fun _ => none))))))]) := hD
  have hK : va_K D vwCl [((u_438.2 0), .object RX1), ((u_438.2 1), .int), ((u_438.2 2), .object RX2)] s := hK
  generalize u_438.1 0 = kA at hP hD
  generalize u_438.1 1 = iA at hP hD
  generalize u_438.1 2 = tA at hP hD
  generalize u_438.1 3 = tr at hP hD
  generalize u_438.1 4 = lA at hP hD
  generalize u_438.1 5 = su at hP hD
  generalize u_438.1 6 = sc at hP hD
  generalize u_438.2 0 = cK at hP hD hK
  generalize u_438.2 1 = cT at hP hD hK
  generalize u_438.2 2 = cL at hP hD hK
  refine lv_astore_n (lv' := [(1, .ref o), (0, .ref b)]) hx hb dL_law_7 rfl hl (by decide) rfl (fun ls hl => ?_)
  refine va_new (D := D) (ci := 4) (fs := [.int 0, .int 0, .null, .int 0, .int 0, .int 0, .int 0, .int 0, .null, .null, .int 0, .null, .null, .int 0]) (C := RX4) (T := TX4) (N := 14) hx hb hts inT_X4 tyX4 tyX4_ok hown (hts (.classLink RL 68 RX4) (List.mem_of_getElem? (i := 666) (by decide +kernel))) (hts (.instantiable RX4 14) (List.mem_of_getElem? (i := 667) (by decide +kernel))) (hts (.initialized RX4) (List.mem_of_getElem? (i := 65) (by decide +kernel))) hK hP hD hS hA rfl (fun j hj => by rcases (show j = 0 ∨ j = 1 ∨ j = 2 ∨ j = 3 ∨ j = 4 ∨ j = 5 ∨ j = 6 ∨ j = 7 ∨ j = 8 ∨ j = 9 ∨ j = 10 ∨ j = 11 ∨ j = 12 ∨ j = 13 by omega) with rfl | rfl | rfl | rfl | rfl | rfl | rfl | rfl | rfl | rfl | rfl | rfl | rfl | rfl <;> rfl) (by omega) (by omega) dL_law_8 (fun mo H hP hD hS => ?_)
  have hP : va_P D vwCl ([(o, .inr (3, [.ref kA, .int 0, .int 20, .int 60, .int 2000, .int 0, .ref iA, .int 0, .int 0, .int 0, .ref tA, .ref tr, .ref lA, .int 0])), (kA, .inl (cK, 10, .inr (.inr (.inr (.inr (fun _ => none)))))), (tA, .inl (cT, 120, .inl (fun _ => 0))), (tr, .inr (0, [.int 0, .int 0, .int 0, .int 0, .int 0, .int 0, .int 0, .int 0, .int 0, .int 0, .int 0, .int 0, .int 0, .int 0, .int 0, .int 0, .ref su, .ref sc])), (lA, .inl (cL, 20, .inr (.inr (.inr (.inr (fun _ => none)))))), (mo, .inr (4, [.int 0, .int 0, .null, .int 0, .int 0, .int 0, .int 0, .int 0, .null, .null, .int 0, .null, .null, .int 0]))]) H := hP
  have hD : va_D A ([(o, .inr (3, [.ref kA, .int 0, .int 20, .int 60, .int 2000, .int 0, .ref iA, .int 0, .int 0, .int 0, .ref tA, .ref tr, .ref lA, .int 0])), (kA, .inl (cK, 10, .inr (.inr (.inr (.inr (fun _ => none)))))), (tA, .inl (cT, 120, .inl (fun _ => 0))), (tr, .inr (0, [.int 0, .int 0, .int 0, .int 0, .int 0, .int 0, .int 0, .int 0, .int 0, .int 0, .int 0, .int 0, .int 0, .int 0, .int 0, .int 0, .ref su, .ref sc])), (lA, .inl (cL, 20, .inr (.inr (.inr (.inr (fun _ => none)))))), (mo, .inr (4, [.int 0, .int 0, .null, .int 0, .int 0, .int 0, .int 0, .int 0, .null, .null, .int 0, .null, .null, .int 0]))]) := hD
  refine lv_dup hx hb dL_law_11 rfl ?_
  refine zcallvI (As := []) (rest := [.ref mo]) (wc := [(mo, .inr (4, [.int 0, .int 0, .null, .int 0, .int 0, .int 0, .int 0, .int 0, .null, .null, .int 0, .null, .null, .int 0]))]) (wr := [(o, .inr (3, [.ref kA, .int 0, .int 20, .int 60, .int 2000, .int 0, .ref iA, .int 0, .int 0, .int 0, .ref tA, .ref tr, .ref lA, .int 0])), (kA, .inl (cK, 10, .inr (.inr (.inr (.inr (fun _ => none)))))), (tA, .inl (cT, 120, .inl (fun _ => 0))), (tr, .inr (0, [.int 0, .int 0, .int 0, .int 0, .int 0, .int 0, .int 0, .int 0, .int 0, .int 0, .int 0, .int 0, .int 0, .int 0, .int 0, .int 0, .ref su, .ref sc])), (lA, .inl (cL, 20, .inr (.inr (.inr (.inr (fun _ => none))))))]) ⟨hx, hb, hml, hown, hts⟩ (c_M_init l D _ mo) (⟨callB_of 0 hts zg_X4_init rfl rfl rfl (hts (.initialized RX4) (List.mem_of_getElem? (i := 65) (by decide +kernel))) (hts (.methodLink RL 70 yX4_init) (List.mem_of_getElem? (i := 668) (by decide +kernel))) (by decide +kernel) ⟨by rw [hRf]; exact Nat.le_of_ble_eq_true rfl, by rw [hRl]; exact Nat.le_of_ble_eq_true rfl⟩, rfl, (hts (.instanceMethod yX4_init) (List.mem_of_getElem? (i := 669) (by decide +kernel)))⟩) hK hP hD hS hA [5] [0, 1, 2, 3, 4] rfl (by decide) rfl (by decide) (by decide) [] rfl rfl hl.1 rfl (Nat.le_of_ble_eq_true rfl) dL_law_12 ⟨by omega, by omega⟩ (fun u_439 H locs hwu_439 hnu_439 hzu_439 hK hP hD hS => ?_)
  have hP : va_P D vwCl ([(o, .inr (3, [.ref kA, .int 0, .int 20, .int 60, .int 2000, .int 0, .ref iA, .int 0, .int 0, .int 0, .ref tA, .ref tr, .ref lA, .int 0])), (kA, .inl (cK, 10, .inr (.inr (.inr (.inr (fun _ => none)))))), (tA, .inl (cT, 120, .inl (fun _ => 0))), (tr, .inr (0, [.int 0, .int 0, .int 0, .int 0, .int 0, .int 0, .int 0, .int 0, .int 0, .int 0, .int 0, .int 0, .int 0, .int 0, .int 0, .int 0, .ref su, .ref sc])), (lA, .inl (cL, 20, .inr (.inr (.inr (.inr (fun _ => none)))))), (mo, .inr (4, [.int 0, .int 0, .ref (u_439.1 0), .int 20, .int 60, .int 2000, .int 0, .int 0, .ref (u_439.1 1), .ref (u_439.1 2), .int 0, .ref (u_439.1 3), .ref (u_439.1 4), .int 0])), ((u_439.1 0), .inl ((u_439.2 0), 60, .inl (fun _ => 0))), ((u_439.1 1), .inl ((u_439.2 1), 366, .inl (fun _ => 0))), ((u_439.1 3), .inl ((u_439.2 2), 20, .inl (fun _ => 0))), ((u_439.1 4), .inl ((u_439.2 3), 20, .inl (fun _ => 0)))]) H := hP
  have hD : va_D A ([(o, .inr (3, [.ref kA, .int 0, .int 20, .int 60, .int 2000, .int 0, .ref iA, .int 0, .int 0, .int 0, .ref tA, .ref tr, .ref lA, .int 0])), (kA, .inl (cK, 10, .inr (.inr (.inr (.inr (fun _ => none)))))), (tA, .inl (cT, 120, .inl (fun _ => 0))), (tr, .inr (0, [.int 0, .int 0, .int 0, .int 0, .int 0, .int 0, .int 0, .int 0, .int 0, .int 0, .int 0, .int 0, .int 0, .int 0, .int 0, .int 0, .ref su, .ref sc])), (lA, .inl (cL, 20, .inr (.inr (.inr (.inr (fun _ => none)))))), (mo, .inr (4, [.int 0, .int 0, .ref (u_439.1 0), .int 20, .int 60, .int 2000, .int 0, .int 0, .ref (u_439.1 1), .ref (u_439.1 2), .int 0, .ref (u_439.1 3), .ref (u_439.1 4), .int 0])), ((u_439.1 0), .inl ((u_439.2 0), 60, .inl (fun _ => 0))), ((u_439.1 1), .inl ((u_439.2 1), 366, .inl (fun _ => 0))), ((u_439.1 3), .inl ((u_439.2 2), 20, .inl (fun _ => 0))), ((u_439.1 4), .inl ((u_439.2 3), 20, .inl (fun _ => 0)))]) := hD
  have hK : va_K D vwCl [(cK, .object RX1), (cT, .int), (cL, .object RX2), ((u_439.2 0), .int), ((u_439.2 1), .int), ((u_439.2 2), .int), ((u_439.2 3), .int)] s := hK
  generalize u_439.1 0 = kT at hP hD
  generalize u_439.1 1 = tb at hP hD
  generalize u_439.1 2 = ld at hP hD
  generalize u_439.1 3 = lK at hP hD
  generalize u_439.1 4 = lC at hP hD
  generalize u_439.2 0 = e1 at hP hD hK
  generalize u_439.2 1 = e2 at hP hD hK
  generalize u_439.2 2 = e3 at hP hD hK
  generalize u_439.2 3 = e4 at hP hD hK
  refine lv_astore_n (lv' := [(2, .ref mo), (1, .ref o), (0, .ref b)]) hx hb dL_law_15 rfl hl (by decide) rfl (fun ls hl => ?_)
  refine lv_iconst (v := 1) hx hb dL_law_16 (by decide) ?_
  refine znewa (atype := .long) (ty := .long) (N' := 1) (a0 := (1, .inr (.inl (fun _ => 0)))) hx hb (hts (.arrayClass .long) (List.mem_of_getElem? (i := 950) (by decide +kernel))) rfl hK hP hD hS hA (fun _ => rfl) (by decide) rfl (Nat.le_of_ble_eq_true rfl) (by omega) (by omega) dL_law_17 (fun ou cJ H hz_440 hK hP hD hS => ?_)
  have hP : va_P D vwCl ([(o, .inr (3, [.ref kA, .int 0, .int 20, .int 60, .int 2000, .int 0, .ref iA, .int 0, .int 0, .int 0, .ref tA, .ref tr, .ref lA, .int 0])), (kA, .inl (cK, 10, .inr (.inr (.inr (.inr (fun _ => none)))))), (tA, .inl (cT, 120, .inl (fun _ => 0))), (tr, .inr (0, [.int 0, .int 0, .int 0, .int 0, .int 0, .int 0, .int 0, .int 0, .int 0, .int 0, .int 0, .int 0, .int 0, .int 0, .int 0, .int 0, .ref su, .ref sc])), (lA, .inl (cL, 20, .inr (.inr (.inr (.inr (fun _ => none)))))), (mo, .inr (4, [.int 0, .int 0, .ref kT, .int 20, .int 60, .int 2000, .int 0, .int 0, .ref tb, .ref ld, .int 0, .ref lK, .ref lC, .int 0])), (kT, .inl (e1, 60, .inl (fun _ => 0))), (tb, .inl (e2, 366, .inl (fun _ => 0))), (lK, .inl (e3, 20, .inl (fun _ => 0))), (lC, .inl (e4, 20, .inl (fun _ => 0))), (ou, .inl (cJ, 1, .inr (.inl (fun _ => 0))))]) H := hP
  have hD : va_D A ([(o, .inr (3, [.ref kA, .int 0, .int 20, .int 60, .int 2000, .int 0, .ref iA, .int 0, .int 0, .int 0, .ref tA, .ref tr, .ref lA, .int 0])), (kA, .inl (cK, 10, .inr (.inr (.inr (.inr (fun _ => none)))))), (tA, .inl (cT, 120, .inl (fun _ => 0))), (tr, .inr (0, [.int 0, .int 0, .int 0, .int 0, .int 0, .int 0, .int 0, .int 0, .int 0, .int 0, .int 0, .int 0, .int 0, .int 0, .int 0, .int 0, .ref su, .ref sc])), (lA, .inl (cL, 20, .inr (.inr (.inr (.inr (fun _ => none)))))), (mo, .inr (4, [.int 0, .int 0, .ref kT, .int 20, .int 60, .int 2000, .int 0, .int 0, .ref tb, .ref ld, .int 0, .ref lK, .ref lC, .int 0])), (kT, .inl (e1, 60, .inl (fun _ => 0))), (tb, .inl (e2, 366, .inl (fun _ => 0))), (lK, .inl (e3, 20, .inl (fun _ => 0))), (lC, .inl (e4, 20, .inl (fun _ => 0))), (ou, .inl (cJ, 1, .inr (.inl (fun _ => 0))))]) := hD
  refine lv_astore_n (lv' := [(3, .ref ou), (2, .ref mo), (1, .ref o), (0, .ref b)]) hx hb dL_law_19 rfl hl (by decide) rfl (fun ls hl => ?_)
  refine lv_iconst (v := 0) hx hb dL_law_20 (by decide) ?_
  refine lv_topi (fun v_441 ev_441 => ?_)
  obtain rfl : v_441 = (nI 0) := ev_441.trans rfl
  refine lv_istore (lv' := [(4, .int (nI 0)), (3, .ref ou), (2, .ref mo), (1, .ref o), (0, .ref b)]) hx hb dL_law_21 hl (by decide) rfl (fun ls hl => ?_)
  have hl := lv_sub hl (l' := [(4, .int (nI 0)), (3, .ref ou), (2, .ref mo), (1, .ref o), (0, .ref b)]) [0, 1, 2, 3, 4] rfl
  refine W.widen (k := 400) (n := 9000) (by omega) (by omega) ?_
  refine lv_iload hx hb dL_law_23 (lv_at hl 0 rfl) ?_
  refine lv_aload_n hx hb dL_law_25 rfl (lv_at hl 4 rfl) ?_
  refine va_slen hx hb hX hbl hbA hS dL_law_26 ?_
  refine lv_bipush (v := 7) hx hb dL_law_27 (by decide) ?_
  refine lv_isub hx hb dL_law_29 ?_
  refine lv_topi (fun v_442 ev_442 => ?_)
  obtain rfl : v_442 = (nI 1232) := ev_442.trans (by decide)
  refine lv_icmp_gt (tgt := 990) hx hb dL_law_30 (by decide) (fun c_443 => absurd c_443 (nI_nlt (by omega) (by omega))) (fun c_443 => ?_)
  refine lv_aload_n hx hb dL_law_33 rfl (lv_at hl 4 rfl) ?_
  refine lv_iload hx hb dL_law_34 (lv_at hl 0 rfl) ?_
  refine va_sld hx hb hX hbl hbA hS (vp_in_nI (N := 1239) (by omega) (by decide)) dL_law_36 ?_
  refine lv_topi (fun v_444 ev_444 => ?_)
  obtain rfl : v_444 = 0 := ev_444.trans (by rw [nI_clamp (by omega)]; exact (rfl : zxs 0 = 0))
  refine lv_bipush (v := 31) hx hb dL_law_37 (by decide) ?_
  refine lv_iand hx hb dL_law_39 ?_
  refine lv_topi (fun v_445 ev_445 => ?_)
  obtain rfl : v_445 = 0 := ev_445.trans (by decide)
  refine lv_tableIn (off := 96) (tgt := 136) hx hb dL_law_40 (by decide) (by decide) (by decide) (by decide) ?_
  refine lv_aload_n hx hb dL_law_136 rfl (lv_at hl 3 rfl) ?_
  refine lv_aload_n hx hb dL_law_137 rfl (lv_at hl 4 rfl) ?_
  refine lv_iload hx hb dL_law_138 (lv_at hl 0 rfl) ?_
  refine lv_iconst (v := 1) hx hb dL_law_140 (by decide) ?_
  refine lv_iadd hx hb dL_law_141 ?_
  refine lv_topi (fun v_446 ev_446 => ?_)
  obtain rfl : v_446 = (nI (0 + 1)) := ev_446.trans (nI_add _ 1)
  refine va_sld hx hb hX hbl hbA hS (vp_in_nI (N := 1239) (by omega) (by decide)) dL_law_142 ?_
  refine lv_topi (fun v_447 ev_447 => ?_)
  obtain rfl : v_447 = 1 := ev_447.trans (by rw [nI_clamp (by omega)]; exact (rfl : zxs 1 = 1))
  refine lv_aload_n hx hb dL_law_143 rfl (lv_at hl 4 rfl) ?_
  refine lv_iload hx hb dL_law_144 (lv_at hl 0 rfl) ?_
  refine lv_iconst (v := 2) hx hb dL_law_146 (by decide) ?_
  refine lv_iadd hx hb dL_law_147 ?_
  refine lv_topi (fun v_448 ev_448 => ?_)
  obtain rfl : v_448 = (nI (0 + 2)) := ev_448.trans (nI_add _ 2)
  refine va_sld hx hb hX hbl hbA hS (vp_in_nI (N := 1239) (by omega) (by decide)) dL_law_148 ?_
  refine lv_topi (fun v_449 ev_449 => ?_)
  obtain rfl : v_449 = 1 := ev_449.trans (by rw [nI_clamp (by omega)]; exact (rfl : zxs 2 = 1))
  refine lv_aload_n hx hb dL_law_149 rfl (lv_at hl 4 rfl) ?_
  refine lv_iload hx hb dL_law_150 (lv_at hl 0 rfl) ?_
  refine lv_iconst (v := 3) hx hb dL_law_152 (by decide) ?_
  refine lv_iadd hx hb dL_law_153 ?_
  refine lv_topi (fun v_450 ev_450 => ?_)
  obtain rfl : v_450 = (nI (0 + 3)) := ev_450.trans (nI_add _ 3)
  refine va_sld hx hb hX hbl hbA hS (vp_in_nI (N := 1239) (by omega) (by decide)) dL_law_154 ?_
  refine lv_topi (fun v_451 ev_451 => ?_)
  obtain rfl : v_451 = 2 := ev_451.trans (by rw [nI_clamp (by omega)]; exact (rfl : zxs 3 = 2))
  refine lv_aload_n hx hb dL_law_155 rfl (lv_at hl 4 rfl) ?_
  refine lv_iload hx hb dL_law_156 (lv_at hl 0 rfl) ?_
  refine lv_iconst (v := 4) hx hb dL_law_158 (by decide) ?_
  refine lv_iadd hx hb dL_law_159 ?_
  refine lv_topi (fun v_452 ev_452 => ?_)
  obtain rfl : v_452 = (nI (0 + 4)) := ev_452.trans (nI_add _ 4)
  refine va_sld hx hb hX hbl hbA hS (vp_in_nI (N := 1239) (by omega) (by decide)) dL_law_160 ?_
  refine lv_topi (fun v_453 ev_453 => ?_)
  obtain rfl : v_453 = 1 := ev_453.trans (by rw [nI_clamp (by omega)]; exact (rfl : zxs 4 = 1))
  refine lv_aload_n hx hb dL_law_161 rfl (lv_at hl 4 rfl) ?_
  refine lv_iload hx hb dL_law_162 (lv_at hl 0 rfl) ?_
  refine lv_iconst (v := 5) hx hb dL_law_164 (by decide) ?_
  refine lv_iadd hx hb dL_law_165 ?_
  refine lv_topi (fun v_454 ev_454 => ?_)
  obtain rfl : v_454 = (nI (0 + 5)) := ev_454.trans (nI_add _ 5)
  refine va_sld hx hb hX hbl hbA hS (vp_in_nI (N := 1239) (by omega) (by decide)) dL_law_166 ?_
  refine lv_topi (fun v_455 ev_455 => ?_)
  obtain rfl : v_455 = 0 := ev_455.trans (by rw [nI_clamp (by omega)]; exact (rfl : zxs 5 = 0))
  refine lv_aload_n hx hb dL_law_167 rfl (lv_at hl 4 rfl) ?_
  refine lv_iload hx hb dL_law_168 (lv_at hl 0 rfl) ?_
  refine lv_bipush (v := 6) hx hb dL_law_170 (by decide) ?_
  refine lv_iadd hx hb dL_law_172 ?_
  refine lv_topi (fun v_456 ev_456 => ?_)
  obtain rfl : v_456 = (nI (0 + 6)) := ev_456.trans (nI_add _ 6)
  refine va_sld hx hb hX hbl hbA hS (vp_in_nI (N := 1239) (by omega) (by decide)) dL_law_173 ?_
  refine lv_topi (fun v_457 ev_457 => ?_)
  obtain rfl : v_457 = 1 := ev_457.trans (by rw [nI_clamp (by omega)]; exact (rfl : zxs 6 = 1))
  refine lv_aload_n hx hb dL_law_174 rfl (lv_at hl 1 rfl) ?_
  have hP : va_P D vwCl ([(o, .inr (3, [.ref kA, .int 0, .int 20, .int 60, .int 2000, .int 0, .ref iA, .int 0, .int 0, .int 0, .ref tA, .ref tr, .ref lA, .int 0])), (kA, .inl (cK, 10, .inr (.inr (.inr (.inr (fun _ => none)))))), (tA, .inl (cT, 120, .inl (fun _ => 0))), (tr, .inr (0, [.int 0, .int 0, .int 0, .int 0, .int 0, .int 0, .int 0, .int 0, .int 0, .int 0, .int 0, .int 0, .int 0, .int 0, .int 0, .int 0, .ref su, .ref sc])), (lA, .inl (cL, 20, .inr (.inr (.inr (.inr (fun _ => none)))))), (mo, .inr (4, [.int 0, .int 0, .ref kT, .int 20, .int 60, .int 2000, .int 0, .int 0, .ref tb, .ref ld, .int 0, .ref lK, .ref lC, .int 0])), (kT, .inl (e1, 60, .inl (fun _ => 0))), (tb, .inl (e2, 366, .inl (fun _ => 0))), (lK, .inl (e3, 20, .inl (fun _ => 0))), (lC, .inl (e4, 20, .inl (fun _ => 0))), (ou, .inl (cJ, 1, .inr (.inl (fun _ => 0))))]) H := hP
  refine zcalliSW (hh := [(0, 18, 21, 13), (0, 18, 25, 15)]) (As := [.ref o, .int 1, .int 1, .int 2, .int 1, .int 0, .int 1, .ref ou]) (rest := []) (wc := [(o, .inr (3, [.ref kA, .int 0, .int 20, .int 60, .int 2000, .int 0, .ref iA, .int 0, .int 0, .int 0, .ref tA, .ref tr, .ref lA, .int 0])), (kA, .inl (cK, 10, .inr (.inr (.inr (.inr (fun _ => none)))))), (ou, .inl (cJ, 1, .inr (.inl (fun _ => 0))))]) (wr := [(tA, .inl (cT, 120, .inl (fun _ => 0))), (tr, .inr (0, [.int 0, .int 0, .int 0, .int 0, .int 0, .int 0, .int 0, .int 0, .int 0, .int 0, .int 0, .int 0, .int 0, .int 0, .int 0, .int 0, .ref su, .ref sc])), (lA, .inl (cL, 20, .inr (.inr (.inr (.inr (fun _ => none)))))), (mo, .inr (4, [.int 0, .int 0, .ref kT, .int 20, .int 60, .int 2000, .int 0, .int 0, .ref tb, .ref ld, .int 0, .ref lK, .ref lC, .int 0])), (kT, .inl (e1, 60, .inl (fun _ => 0))), (tb, .inl (e2, 366, .inl (fun _ => 0))), (lK, .inl (e3, 20, .inl (fun _ => 0))), (lC, .inl (e4, 20, .inl (fun _ => 0)))]) ⟨hx, hb, hml, hown, hts⟩ (c_LaddKind l D _ o kA iA tA tr lA 0 ou cK cJ (fun _ => 0) rfl) (vx_cwSW 8 hts zgS_L_addKind rfl rfl rfl (by decide +kernel) ⟨by rw [hRf]; exact Nat.le_of_ble_eq_true rfl, by rw [hRl]; exact Nat.le_of_ble_eq_true rfl⟩) hK hP hD hS hA [0, 1, 10] [2, 3, 4, 5, 6, 7, 8, 9] rfl (by decide) rfl (by decide) (by decide) [0, 7] rfl rfl hl.1 rfl (Nat.le_of_ble_eq_true rfl) dL_law_175 ⟨by omega, by omega⟩ (fun r_458 u_459 H locs hwu_459 hnu_459 hzu_459 hK hP hD hS => ?_)
  obtain ⟨k0, hk0⟩ : ∃ z : Nat, z = u_459 := ⟨_, rfl⟩
  have hK : va_K D vwCl [(cK, .object RX1), (cT, .int), (cL, .object RX2), (e1, .int), (e2, .int), (e3, .int), (e4, .int), (cJ, .long), (cK, .object RX1), (cJ, .long)] s := hK
  have hP : va_P D vwCl ([(tA, .inl (cT, 120, .inl (fun _ => 0))), (tr, .inr (0, [.int 0, .int 0, .int 0, .int 0, .int 0, .int 0, .int 0, .int 0, .int 0, .int 0, .int 0, .int 0, .int 0, .int 0, .int 0, .int 0, .ref su, .ref sc])), (lA, .inl (cL, 20, .inr (.inr (.inr (.inr (fun _ => none)))))), (mo, .inr (4, [.int 0, .int 0, .ref kT, .int 20, .int 60, .int 2000, .int 0, .int 0, .ref tb, .ref ld, .int 0, .ref lK, .ref lC, .int 0])), (kT, .inl (e1, 60, .inl (fun _ => 0))), (tb, .inl (e2, 366, .inl (fun _ => 0))), (lK, .inl (e3, 20, .inl (fun _ => 0))), (lC, .inl (e4, 20, .inl (fun _ => 0))), (o, .inr (3, [.ref kA, .int 1, .int 20, .int 60, .int 2000, .int 0, .ref iA, .int 0, .int 0, .int 0, .ref tA, .ref tr, .ref lA, .int (nI 0)])), (kA, .inl (cK, 10, .inr (.inr (.inr (.inr (va_up (fun _ => none) 0 (some u_459))))))), (u_459, .inr (1, [.int 0, .int 1, .int 1, .int 2, .int 1, .int 0, .int 1, .int 0])), (ou, .inl (cJ, 1, .inr (.inl (vp_updL (fun _ => 0) 0 (0 : Int32).toInt64))))]) H := hP
  have hD : va_D A ([(tA, .inl (cT, 120, .inl (fun _ => 0))), (tr, .inr (0, [.int 0, .int 0, .int 0, .int 0, .int 0, .int 0, .int 0, .int 0, .int 0, .int 0, .int 0, .int 0, .int 0, .int 0, .int 0, .int 0, .ref su, .ref sc])), (lA, .inl (cL, 20, .inr (.inr (.inr (.inr (fun _ => none)))))), (mo, .inr (4, [.int 0, .int 0, .ref kT, .int 20, .int 60, .int 2000, .int 0, .int 0, .ref tb, .ref ld, .int 0, .ref lK, .ref lC, .int 0])), (kT, .inl (e1, 60, .inl (fun _ => 0))), (tb, .inl (e2, 366, .inl (fun _ => 0))), (lK, .inl (e3, 20, .inl (fun _ => 0))), (lC, .inl (e4, 20, .inl (fun _ => 0))), (o, .inr (3, [.ref kA, .int 1, .int 20, .int 60, .int 2000, .int 0, .ref iA, .int 0, .int 0, .int 0, .ref tA, .ref tr, .ref lA, .int (nI 0)])), (kA, .inl (cK, 10, .inr (.inr (.inr (.inr (va_up (fun _ => none) 0 (some u_459))))))), (u_459, .inr (1, [.int 0, .int 1, .int 1, .int 2, .int 1, .int 0, .int 1, .int 0])), (ou, .inl (cJ, 1, .inr (.inl (vp_updL (fun _ => 0) 0 (0 : Int32).toInt64))))]) := hD
  refine lv_topi (fun v_460 ev_460 => ?_)
  obtain rfl : v_460 = 0 := ev_460.trans hwu_459
  refine lv_istore (lv' := [(5, .int 0), (4, .int (nI 0)), (3, .ref ou), (2, .ref mo), (1, .ref o), (0, .ref b)]) hx hb dL_law_178 hl (by decide) rfl (fun ls hl => ?_)
  refine lv_aload_n hx hb dL_law_180 rfl (lv_at hl 3 rfl) ?_
  refine lv_aload_n hx hb dL_law_181 rfl (lv_at hl 5 rfl) ?_
  refine lv_iload hx hb dL_law_182 (lv_at hl 1 rfl) ?_
  refine lv_iconst (v := 1) hx hb dL_law_184 (by decide) ?_
  refine lv_iadd hx hb dL_law_185 ?_
  refine lv_topi (fun v_461 ev_461 => ?_)
  obtain rfl : v_461 = (nI (0 + 1)) := ev_461.trans (nI_add _ 1)
  refine va_sld hx hb hX hbl hbA hS (vp_in_nI (N := 1239) (by omega) (by decide)) dL_law_186 ?_
  refine lv_topi (fun v_462 ev_462 => ?_)
  obtain rfl : v_462 = 1 := ev_462.trans (by rw [nI_clamp (by omega)]; exact (rfl : zxs 1 = 1))
  refine lv_aload_n hx hb dL_law_187 rfl (lv_at hl 5 rfl) ?_
  refine lv_iload hx hb dL_law_188 (lv_at hl 1 rfl) ?_
  refine lv_iconst (v := 2) hx hb dL_law_190 (by decide) ?_
  refine lv_iadd hx hb dL_law_191 ?_
  refine lv_topi (fun v_463 ev_463 => ?_)
  obtain rfl : v_463 = (nI (0 + 2)) := ev_463.trans (nI_add _ 2)
  refine va_sld hx hb hX hbl hbA hS (vp_in_nI (N := 1239) (by omega) (by decide)) dL_law_192 ?_
  refine lv_topi (fun v_464 ev_464 => ?_)
  obtain rfl : v_464 = 1 := ev_464.trans (by rw [nI_clamp (by omega)]; exact (rfl : zxs 2 = 1))
  refine lv_aload_n hx hb dL_law_193 rfl (lv_at hl 5 rfl) ?_
  refine lv_iload hx hb dL_law_194 (lv_at hl 1 rfl) ?_
  refine lv_iconst (v := 3) hx hb dL_law_196 (by decide) ?_
  refine lv_iadd hx hb dL_law_197 ?_
  refine lv_topi (fun v_465 ev_465 => ?_)
  obtain rfl : v_465 = (nI (0 + 3)) := ev_465.trans (nI_add _ 3)
  refine va_sld hx hb hX hbl hbA hS (vp_in_nI (N := 1239) (by omega) (by decide)) dL_law_198 ?_
  refine lv_topi (fun v_466 ev_466 => ?_)
  obtain rfl : v_466 = 2 := ev_466.trans (by rw [nI_clamp (by omega)]; exact (rfl : zxs 3 = 2))
  refine lv_aload_n hx hb dL_law_199 rfl (lv_at hl 5 rfl) ?_
  refine lv_iload hx hb dL_law_200 (lv_at hl 1 rfl) ?_
  refine lv_iconst (v := 4) hx hb dL_law_202 (by decide) ?_
  refine lv_iadd hx hb dL_law_203 ?_
  refine lv_topi (fun v_467 ev_467 => ?_)
  obtain rfl : v_467 = (nI (0 + 4)) := ev_467.trans (nI_add _ 4)
  refine va_sld hx hb hX hbl hbA hS (vp_in_nI (N := 1239) (by omega) (by decide)) dL_law_204 ?_
  refine lv_topi (fun v_468 ev_468 => ?_)
  obtain rfl : v_468 = 1 := ev_468.trans (by rw [nI_clamp (by omega)]; exact (rfl : zxs 4 = 1))
  refine lv_aload_n hx hb dL_law_205 rfl (lv_at hl 5 rfl) ?_
  refine lv_iload hx hb dL_law_206 (lv_at hl 1 rfl) ?_
  refine lv_iconst (v := 5) hx hb dL_law_208 (by decide) ?_
  refine lv_iadd hx hb dL_law_209 ?_
  refine lv_topi (fun v_469 ev_469 => ?_)
  obtain rfl : v_469 = (nI (0 + 5)) := ev_469.trans (nI_add _ 5)
  refine va_sld hx hb hX hbl hbA hS (vp_in_nI (N := 1239) (by omega) (by decide)) dL_law_210 ?_
  refine lv_topi (fun v_470 ev_470 => ?_)
  obtain rfl : v_470 = 0 := ev_470.trans (by rw [nI_clamp (by omega)]; exact (rfl : zxs 5 = 0))
  refine lv_aload_n hx hb dL_law_211 rfl (lv_at hl 5 rfl) ?_
  refine lv_iload hx hb dL_law_212 (lv_at hl 1 rfl) ?_
  refine lv_bipush (v := 6) hx hb dL_law_214 (by decide) ?_
  refine lv_iadd hx hb dL_law_216 ?_
  refine lv_topi (fun v_471 ev_471 => ?_)
  obtain rfl : v_471 = (nI (0 + 6)) := ev_471.trans (nI_add _ 6)
  refine va_sld hx hb hX hbl hbA hS (vp_in_nI (N := 1239) (by omega) (by decide)) dL_law_217 ?_
  refine lv_topi (fun v_472 ev_472 => ?_)
  obtain rfl : v_472 = 1 := ev_472.trans (by rw [nI_clamp (by omega)]; exact (rfl : zxs 6 = 1))
  refine zcalliV (As := [.int 1, .int 1, .int 2, .int 1, .int 0, .int 1]) (rest := []) (wc := [(mo, .inr (4, [.int 0, .int 0, .ref kT, .int 20, .int 60, .int 2000, .int 0, .int 0, .ref tb, .ref ld, .int 0, .ref lK, .ref lC, .int 0])), (kT, .inl (e1, 60, .inl (fun _ => 0)))]) (wr := [(tA, .inl (cT, 120, .inl (fun _ => 0))), (tr, .inr (0, [.int 0, .int 0, .int 0, .int 0, .int 0, .int 0, .int 0, .int 0, .int 0, .int 0, .int 0, .int 0, .int 0, .int 0, .int 0, .int 0, .ref su, .ref sc])), (lA, .inl (cL, 20, .inr (.inr (.inr (.inr (fun _ => none)))))), (tb, .inl (e2, 366, .inl (fun _ => 0))), (lK, .inl (e3, 20, .inl (fun _ => 0))), (lC, .inl (e4, 20, .inl (fun _ => 0))), (o, .inr (3, [.ref kA, .int 1, .int 20, .int 60, .int 2000, .int 0, .ref iA, .int 0, .int 0, .int 0, .ref tA, .ref tr, .ref lA, .int (nI 0)])), (kA, .inl (cK, 10, .inr (.inr (.inr (.inr (va_up (fun _ => none) 0 (some u_459))))))), (u_459, .inr (1, [.int 0, .int 1, .int 1, .int 2, .int 1, .int 0, .int 1, .int 0])), (ou, .inl (cJ, 1, .inr (.inl (vp_updL (fun _ => 0) 0 (0 : Int32).toInt64))))]) ⟨hx, hb, hml, hown, hts⟩ (c_addKindM l D _ mo kT tb ld lK lC 0 e1) (cwV 6 hts zgV_X4_addKind rfl rfl rfl (by decide +kernel) ⟨by rw [hRf]; exact Nat.le_of_ble_eq_true rfl, by rw [hRl]; exact Nat.le_of_ble_eq_true rfl⟩) hK hP hD hS hA [3, 4] [0, 1, 2, 5, 6, 7, 8, 9, 10, 11] rfl (by decide) rfl (by decide) (by decide) [3] rfl (ci := 4) (q0 := 3) rfl rfl rfl hl.1 rfl (Nat.le_of_ble_eq_true rfl) dL_law_218 ⟨by omega, by omega⟩ (fun r_473 u_474 H locs hwu_474 hnu_474 hzu_474 hK hP hD hS => ?_)
  have hK : va_K D vwCl [(cK, .object RX1), (cT, .int), (cL, .object RX2), (e1, .int), (e2, .int), (e3, .int), (e4, .int), (cJ, .long), (cK, .object RX1), (cJ, .long), (e1, .int)] s := hK
  have hP : va_P D vwCl ([(tA, .inl (cT, 120, .inl (fun _ => 0))), (tr, .inr (0, [.int 0, .int 0, .int 0, .int 0, .int 0, .int 0, .int 0, .int 0, .int 0, .int 0, .int 0, .int 0, .int 0, .int 0, .int 0, .int 0, .ref su, .ref sc])), (lA, .inl (cL, 20, .inr (.inr (.inr (.inr (fun _ => none)))))), (tb, .inl (e2, 366, .inl (fun _ => 0))), (lK, .inl (e3, 20, .inl (fun _ => 0))), (lC, .inl (e4, 20, .inl (fun _ => 0))), (o, .inr (3, [.ref kA, .int 1, .int 20, .int 60, .int 2000, .int 0, .ref iA, .int 0, .int 0, .int 0, .ref tA, .ref tr, .ref lA, .int (nI 0)])), (kA, .inl (cK, 10, .inr (.inr (.inr (.inr (va_up (fun _ => none) 0 (some u_459))))))), (u_459, .inr (1, [.int 0, .int 1, .int 1, .int 2, .int 1, .int 0, .int 1, .int 0])), (ou, .inl (cJ, 1, .inr (.inl (vp_updL (fun _ => 0) 0 (0 : Int32).toInt64)))), (mo, .inr (4, [.int 0, .int 1, .ref kT, .int 20, .int 60, .int 2000, .int 0, .int 0, .ref tb, .ref ld, .int 0, .ref lK, .ref lC, .int 0])), (kT, .inl (e1, 60, .inl (u_474)))]) H := hP
  have hD : va_D A ([(tA, .inl (cT, 120, .inl (fun _ => 0))), (tr, .inr (0, [.int 0, .int 0, .int 0, .int 0, .int 0, .int 0, .int 0, .int 0, .int 0, .int 0, .int 0, .int 0, .int 0, .int 0, .int 0, .int 0, .ref su, .ref sc])), (lA, .inl (cL, 20, .inr (.inr (.inr (.inr (fun _ => none)))))), (tb, .inl (e2, 366, .inl (fun _ => 0))), (lK, .inl (e3, 20, .inl (fun _ => 0))), (lC, .inl (e4, 20, .inl (fun _ => 0))), (o, .inr (3, [.ref kA, .int 1, .int 20, .int 60, .int 2000, .int 0, .ref iA, .int 0, .int 0, .int 0, .ref tA, .ref tr, .ref lA, .int (nI 0)])), (kA, .inl (cK, 10, .inr (.inr (.inr (.inr (va_up (fun _ => none) 0 (some u_459))))))), (u_459, .inr (1, [.int 0, .int 1, .int 1, .int 2, .int 1, .int 0, .int 1, .int 0])), (ou, .inl (cJ, 1, .inr (.inl (vp_updL (fun _ => 0) 0 (0 : Int32).toInt64)))), (mo, .inr (4, [.int 0, .int 1, .ref kT, .int 20, .int 60, .int 2000, .int 0, .int 0, .ref tb, .ref ld, .int 0, .ref lK, .ref lC, .int 0])), (kT, .inl (e1, 60, .inl (u_474)))]) := hD
  refine lv_topi (fun v_475 ev_475 => ?_)
  obtain rfl : v_475 = 0 := ev_475.trans hwu_474.1
  refine lv_istore (lv' := [(6, .int 0), (5, .int 0), (4, .int (nI 0)), (3, .ref ou), (2, .ref mo), (1, .ref o), (0, .ref b)]) hx hb dL_law_221 hl (by decide) rfl (fun ls hl => ?_)
  refine lv_goto (tgt := 984) hx hb dL_law_223 (by decide) ?_
  refine lv_iinc (v := (nI (0 + 7))) (lv' := [(4, .int (nI (0 + 7))), (6, .int 0), (5, .int 0), (3, .ref ou), (2, .ref mo), (1, .ref o), (0, .ref b)]) hx hb dL_law_984 hl (k := 2) rfl ((nI_add 0 7)) (by decide) rfl (fun ls hl => ?_)
  refine lv_goto (tgt := 23) hx hb dL_law_987 (by decide) ?_
  have hl := lv_sub hl (l' := [(4, .int (nI (0 + 7))), (3, .ref ou), (2, .ref mo), (1, .ref o), (0, .ref b)]) [0, 3, 4, 5, 6] rfl
  refine lv_iload hx hb dL_law_23 (lv_at hl 0 rfl) ?_
  refine lv_aload_n hx hb dL_law_25 rfl (lv_at hl 4 rfl) ?_
  refine va_slen hx hb hX hbl hbA hS dL_law_26 ?_
  refine lv_bipush (v := 7) hx hb dL_law_27 (by decide) ?_
  refine lv_isub hx hb dL_law_29 ?_
  refine lv_topi (fun v_476 ev_476 => ?_)
  obtain rfl : v_476 = (nI 1232) := ev_476.trans (by decide)
  refine lv_icmp_gt (tgt := 990) hx hb dL_law_30 (by decide) (fun c_477 => absurd c_477 (nI_nlt (by omega) (by omega))) (fun c_477 => ?_)
  refine lv_aload_n hx hb dL_law_33 rfl (lv_at hl 4 rfl) ?_
  refine lv_iload hx hb dL_law_34 (lv_at hl 0 rfl) ?_
  refine va_sld hx hb hX hbl hbA hS (vp_in_nI (N := 1239) (by omega) (by decide)) dL_law_36 ?_
  refine lv_topi (fun v_478 ev_478 => ?_)
  obtain rfl : v_478 = 1 := ev_478.trans (by rw [nI_clamp (by omega)]; exact (rfl : zxs 7 = 1))
  refine lv_bipush (v := 31) hx hb dL_law_37 (by decide) ?_
  refine lv_iand hx hb dL_law_39 ?_
  refine lv_topi (fun v_479 ev_479 => ?_)
  obtain rfl : v_479 = 1 := ev_479.trans (by decide)
  refine lv_tableIn (off := 186) (tgt := 226) hx hb dL_law_40 (by decide) (by decide) (by decide) (by decide) ?_
  refine lv_aload_n hx hb dL_law_226 rfl (lv_at hl 3 rfl) ?_
  refine lv_aload_n hx hb dL_law_227 rfl (lv_at hl 4 rfl) ?_
  refine lv_iload hx hb dL_law_228 (lv_at hl 0 rfl) ?_
  refine lv_iconst (v := 1) hx hb dL_law_230 (by decide) ?_
  refine lv_iadd hx hb dL_law_231 ?_
  refine lv_topi (fun v_480 ev_480 => ?_)
  obtain rfl : v_480 = (nI (7 + 1)) := ev_480.trans (nI_add _ 1)
  refine va_sld hx hb hX hbl hbA hS (vp_in_nI (N := 1239) (by omega) (by decide)) dL_law_232 ?_
  refine lv_topi (fun v_481 ev_481 => ?_)
  obtain rfl : v_481 = 1 := ev_481.trans (by rw [nI_clamp (by omega)]; exact (rfl : zxs 8 = 1))
  refine lv_aload_n hx hb dL_law_233 rfl (lv_at hl 4 rfl) ?_
  refine lv_iload hx hb dL_law_234 (lv_at hl 0 rfl) ?_
  refine lv_iconst (v := 2) hx hb dL_law_236 (by decide) ?_
  refine lv_iadd hx hb dL_law_237 ?_
  refine lv_topi (fun v_482 ev_482 => ?_)
  obtain rfl : v_482 = (nI (7 + 2)) := ev_482.trans (nI_add _ 2)
  refine va_sld hx hb hX hbl hbA hS (vp_in_nI (N := 1239) (by omega) (by decide)) dL_law_238 ?_
  refine lv_topi (fun v_483 ev_483 => ?_)
  obtain rfl : v_483 = 0 := ev_483.trans (by rw [nI_clamp (by omega)]; exact (rfl : zxs 9 = 0))
  refine lv_aload_n hx hb dL_law_239 rfl (lv_at hl 4 rfl) ?_
  refine lv_iload hx hb dL_law_240 (lv_at hl 0 rfl) ?_
  refine lv_iconst (v := 3) hx hb dL_law_242 (by decide) ?_
  refine lv_iadd hx hb dL_law_243 ?_
  refine lv_topi (fun v_484 ev_484 => ?_)
  obtain rfl : v_484 = (nI (7 + 3)) := ev_484.trans (nI_add _ 3)
  refine va_sld hx hb hX hbl hbA hS (vp_in_nI (N := 1239) (by omega) (by decide)) dL_law_244 ?_
  refine lv_topi (fun v_485 ev_485 => ?_)
  obtain rfl : v_485 = 1 := ev_485.trans (by rw [nI_clamp (by omega)]; exact (rfl : zxs 10 = 1))
  refine lv_aload_n hx hb dL_law_245 rfl (lv_at hl 4 rfl) ?_
  refine lv_iload hx hb dL_law_246 (lv_at hl 0 rfl) ?_
  refine lv_iconst (v := 4) hx hb dL_law_248 (by decide) ?_
  refine lv_iadd hx hb dL_law_249 ?_
  refine lv_topi (fun v_486 ev_486 => ?_)
  obtain rfl : v_486 = (nI (7 + 4)) := ev_486.trans (nI_add _ 4)
  refine va_sld hx hb hX hbl hbA hS (vp_in_nI (N := 1239) (by omega) (by decide)) dL_law_250 ?_
  refine lv_topi (fun v_487 ev_487 => ?_)
  obtain rfl : v_487 = 0 := ev_487.trans (by rw [nI_clamp (by omega)]; exact (rfl : zxs 11 = 0))
  refine lv_if_eq (tgt := 258) hx hb dL_law_251 (by decide) (fun c_488 => ?_) (fun c_488 => absurd (rfl) c_488)
  refine lv_iconst (v := 0) hx hb dL_law_258 (by decide) ?_
  refine lv_aload_n hx hb dL_law_259 rfl (lv_at hl 1 rfl) ?_
  refine zcalliSW (hh := [(0, 14, 17, 13)]) (As := [.ref o, .int 1, .int 0, .int 1, .int 0, .ref ou]) (rest := []) (wc := [(o, .inr (3, [.ref kA, .int 1, .int 20, .int 60, .int 2000, .int 0, .ref iA, .int 0, .int 0, .int 0, .ref tA, .ref tr, .ref lA, .int (nI 0)])), (ou, .inl (cJ, 1, .inr (.inl (vp_updL (fun _ => 0) 0 (0 : Int32).toInt64))))]) (wr := [(tA, .inl (cT, 120, .inl (fun _ => 0))), (tr, .inr (0, [.int 0, .int 0, .int 0, .int 0, .int 0, .int 0, .int 0, .int 0, .int 0, .int 0, .int 0, .int 0, .int 0, .int 0, .int 0, .int 0, .ref su, .ref sc])), (lA, .inl (cL, 20, .inr (.inr (.inr (.inr (fun _ => none)))))), (tb, .inl (e2, 366, .inl (fun _ => 0))), (lK, .inl (e3, 20, .inl (fun _ => 0))), (lC, .inl (e4, 20, .inl (fun _ => 0))), (kA, .inl (cK, 10, .inr (.inr (.inr (.inr (va_up (fun _ => none) 0 (some u_459))))))), (u_459, .inr (1, [.int 0, .int 1, .int 1, .int 2, .int 1, .int 0, .int 1, .int 0])), (mo, .inr (4, [.int 0, .int 1, .ref kT, .int 20, .int 60, .int 2000, .int 0, .int 0, .ref tb, .ref ld, .int 0, .ref lK, .ref lC, .int 0])), (kT, .inl (e1, 60, .inl (u_474)))]) ⟨hx, hb, hml, hown, hts⟩ (c_LsetRules l D _ o kA iA tA tr lA 0 ou cJ _) (vx_cwSW 6 hts zgS_L_setRules rfl rfl rfl (by decide +kernel) ⟨by rw [hRf]; exact Nat.le_of_ble_eq_true rfl, by rw [hRl]; exact Nat.le_of_ble_eq_true rfl⟩) hK hP hD hS hA [6, 9] [0, 1, 2, 3, 4, 5, 7, 8, 10, 11] rfl (by decide) rfl (by decide) (by decide) [7] rfl rfl hl.1 rfl (Nat.le_of_ble_eq_true rfl) dL_law_260 ⟨by omega, by omega⟩ (fun r_489 u_490 H locs hwu_490 hnu_490 hzu_490 hK hP hD hS => ?_)
  have hK : va_K D vwCl [(cK, .object RX1), (cT, .int), (cL, .object RX2), (e1, .int), (e2, .int), (e3, .int), (e4, .int), (cJ, .long), (cK, .object RX1), (cJ, .long), (e1, .int), (cJ, .long)] s := hK
  have hP : va_P D vwCl ([(tA, .inl (cT, 120, .inl (fun _ => 0))), (tr, .inr (0, [.int 0, .int 0, .int 0, .int 0, .int 0, .int 0, .int 0, .int 0, .int 0, .int 0, .int 0, .int 0, .int 0, .int 0, .int 0, .int 0, .ref su, .ref sc])), (lA, .inl (cL, 20, .inr (.inr (.inr (.inr (fun _ => none)))))), (tb, .inl (e2, 366, .inl (fun _ => 0))), (lK, .inl (e3, 20, .inl (fun _ => 0))), (lC, .inl (e4, 20, .inl (fun _ => 0))), (kA, .inl (cK, 10, .inr (.inr (.inr (.inr (va_up (fun _ => none) 0 (some u_459))))))), (u_459, .inr (1, [.int 0, .int 1, .int 1, .int 2, .int 1, .int 0, .int 1, .int 0])), (mo, .inr (4, [.int 0, .int 1, .ref kT, .int 20, .int 60, .int 2000, .int 0, .int 0, .ref tb, .ref ld, .int 0, .ref lK, .ref lC, .int 0])), (kT, .inl (e1, 60, .inl (u_474))), (o, .inr (3, [.ref kA, .int 1, .int 1, .int 0, .int 1, .int 0, .ref iA, .int 0, .int 0, .int 0, .ref tA, .ref tr, .ref lA, .int (nI 0)])), (ou, .inl (cJ, 1, .inr (.inl (vp_updL (vp_updL (fun _ => 0) 0 (0 : Int32).toInt64) 0 (20 : Int32).toInt64))))]) H := hP
  have hD : va_D A ([(tA, .inl (cT, 120, .inl (fun _ => 0))), (tr, .inr (0, [.int 0, .int 0, .int 0, .int 0, .int 0, .int 0, .int 0, .int 0, .int 0, .int 0, .int 0, .int 0, .int 0, .int 0, .int 0, .int 0, .ref su, .ref sc])), (lA, .inl (cL, 20, .inr (.inr (.inr (.inr (fun _ => none)))))), (tb, .inl (e2, 366, .inl (fun _ => 0))), (lK, .inl (e3, 20, .inl (fun _ => 0))), (lC, .inl (e4, 20, .inl (fun _ => 0))), (kA, .inl (cK, 10, .inr (.inr (.inr (.inr (va_up (fun _ => none) 0 (some u_459))))))), (u_459, .inr (1, [.int 0, .int 1, .int 1, .int 2, .int 1, .int 0, .int 1, .int 0])), (mo, .inr (4, [.int 0, .int 1, .ref kT, .int 20, .int 60, .int 2000, .int 0, .int 0, .ref tb, .ref ld, .int 0, .ref lK, .ref lC, .int 0])), (kT, .inl (e1, 60, .inl (u_474))), (o, .inr (3, [.ref kA, .int 1, .int 1, .int 0, .int 1, .int 0, .ref iA, .int 0, .int 0, .int 0, .ref tA, .ref tr, .ref lA, .int (nI 0)])), (ou, .inl (cJ, 1, .inr (.inl (vp_updL (vp_updL (fun _ => 0) 0 (0 : Int32).toInt64) 0 (20 : Int32).toInt64))))]) := hD
  refine lv_topi (fun v_491 ev_491 => ?_)
  obtain rfl : v_491 = 0 := ev_491.trans hwu_490
  refine lv_istore (lv' := [(5, .int 0), (4, .int (nI (0 + 7))), (3, .ref ou), (2, .ref mo), (1, .ref o), (0, .ref b)]) hx hb dL_law_263 hl (by decide) rfl (fun ls hl => ?_)
  refine lv_aload_n hx hb dL_law_265 rfl (lv_at hl 3 rfl) ?_
  refine lv_aload_n hx hb dL_law_266 rfl (lv_at hl 5 rfl) ?_
  refine lv_iload hx hb dL_law_267 (lv_at hl 1 rfl) ?_
  refine lv_iconst (v := 1) hx hb dL_law_269 (by decide) ?_
  refine lv_iadd hx hb dL_law_270 ?_
  refine lv_topi (fun v_492 ev_492 => ?_)
  obtain rfl : v_492 = (nI (7 + 1)) := ev_492.trans (nI_add _ 1)
  refine va_sld hx hb hX hbl hbA hS (vp_in_nI (N := 1239) (by omega) (by decide)) dL_law_271 ?_
  refine lv_topi (fun v_493 ev_493 => ?_)
  obtain rfl : v_493 = 1 := ev_493.trans (by rw [nI_clamp (by omega)]; exact (rfl : zxs 8 = 1))
  refine lv_aload_n hx hb dL_law_272 rfl (lv_at hl 5 rfl) ?_
  refine lv_iload hx hb dL_law_273 (lv_at hl 1 rfl) ?_
  refine lv_iconst (v := 2) hx hb dL_law_275 (by decide) ?_
  refine lv_iadd hx hb dL_law_276 ?_
  refine lv_topi (fun v_494 ev_494 => ?_)
  obtain rfl : v_494 = (nI (7 + 2)) := ev_494.trans (nI_add _ 2)
  refine va_sld hx hb hX hbl hbA hS (vp_in_nI (N := 1239) (by omega) (by decide)) dL_law_277 ?_
  refine lv_topi (fun v_495 ev_495 => ?_)
  obtain rfl : v_495 = 0 := ev_495.trans (by rw [nI_clamp (by omega)]; exact (rfl : zxs 9 = 0))
  refine lv_aload_n hx hb dL_law_278 rfl (lv_at hl 5 rfl) ?_
  refine lv_iload hx hb dL_law_279 (lv_at hl 1 rfl) ?_
  refine lv_iconst (v := 3) hx hb dL_law_281 (by decide) ?_
  refine lv_iadd hx hb dL_law_282 ?_
  refine lv_topi (fun v_496 ev_496 => ?_)
  obtain rfl : v_496 = (nI (7 + 3)) := ev_496.trans (nI_add _ 3)
  refine va_sld hx hb hX hbl hbA hS (vp_in_nI (N := 1239) (by omega) (by decide)) dL_law_283 ?_
  refine lv_topi (fun v_497 ev_497 => ?_)
  obtain rfl : v_497 = 1 := ev_497.trans (by rw [nI_clamp (by omega)]; exact (rfl : zxs 10 = 1))
  refine lv_aload_n hx hb dL_law_284 rfl (lv_at hl 5 rfl) ?_
  refine lv_iload hx hb dL_law_285 (lv_at hl 1 rfl) ?_
  refine lv_iconst (v := 4) hx hb dL_law_287 (by decide) ?_
  refine lv_iadd hx hb dL_law_288 ?_
  refine lv_topi (fun v_498 ev_498 => ?_)
  obtain rfl : v_498 = (nI (7 + 4)) := ev_498.trans (nI_add _ 4)
  refine va_sld hx hb hX hbl hbA hS (vp_in_nI (N := 1239) (by omega) (by decide)) dL_law_289 ?_
  refine lv_topi (fun v_499 ev_499 => ?_)
  obtain rfl : v_499 = 0 := ev_499.trans (by rw [nI_clamp (by omega)]; exact (rfl : zxs 11 = 0))
  refine lv_if_eq (tgt := 297) hx hb dL_law_290 (by decide) (fun c_500 => ?_) (fun c_500 => absurd (rfl) c_500)
  refine lv_iconst (v := 0) hx hb dL_law_297 (by decide) ?_
  refine zcalliV (As := [.int 1, .int 0, .int 1, .int 0]) (rest := []) (wc := [(mo, .inr (4, [.int 0, .int 1, .ref kT, .int 20, .int 60, .int 2000, .int 0, .int 0, .ref tb, .ref ld, .int 0, .ref lK, .ref lC, .int 0]))]) (wr := [(tA, .inl (cT, 120, .inl (fun _ => 0))), (tr, .inr (0, [.int 0, .int 0, .int 0, .int 0, .int 0, .int 0, .int 0, .int 0, .int 0, .int 0, .int 0, .int 0, .int 0, .int 0, .int 0, .int 0, .ref su, .ref sc])), (lA, .inl (cL, 20, .inr (.inr (.inr (.inr (fun _ => none)))))), (tb, .inl (e2, 366, .inl (fun _ => 0))), (lK, .inl (e3, 20, .inl (fun _ => 0))), (lC, .inl (e4, 20, .inl (fun _ => 0))), (kA, .inl (cK, 10, .inr (.inr (.inr (.inr (va_up (fun _ => none) 0 (some u_459))))))), (u_459, .inr (1, [.int 0, .int 1, .int 1, .int 2, .int 1, .int 0, .int 1, .int 0])), (kT, .inl (e1, 60, .inl (u_474))), (o, .inr (3, [.ref kA, .int 1, .int 1, .int 0, .int 1, .int 0, .ref iA, .int 0, .int 0, .int 0, .ref tA, .ref tr, .ref lA, .int (nI 0)])), (ou, .inl (cJ, 1, .inr (.inl (vp_updL (vp_updL (fun _ => 0) 0 (0 : Int32).toInt64) 0 (20 : Int32).toInt64))))]) ⟨hx, hb, hml, hown, hts⟩ (c_setRulesM l D _ mo kT tb ld lK lC 0) (cwV 4 hts zgV_X4_setRules rfl rfl rfl (by decide +kernel) ⟨by rw [hRf]; exact Nat.le_of_ble_eq_true rfl, by rw [hRl]; exact Nat.le_of_ble_eq_true rfl⟩) hK hP hD hS hA [8] [0, 1, 2, 3, 4, 5, 6, 7, 9, 10, 11] rfl (by decide) rfl (by decide) (by decide) [] rfl (ci := 4) (q0 := 8) rfl rfl rfl hl.1 rfl (Nat.le_of_ble_eq_true rfl) dL_law_298 ⟨by omega, by omega⟩ (fun r_501 u_502 H locs hwu_502 hnu_502 hzu_502 hK hP hD hS => ?_)
  have hK : va_K D vwCl [(cK, .object RX1), (cT, .int), (cL, .object RX2), (e1, .int), (e2, .int), (e3, .int), (e4, .int), (cJ, .long), (cK, .object RX1), (cJ, .long), (e1, .int), (cJ, .long)] s := hK
  have hP : va_P D vwCl ([(tA, .inl (cT, 120, .inl (fun _ => 0))), (tr, .inr (0, [.int 0, .int 0, .int 0, .int 0, .int 0, .int 0, .int 0, .int 0, .int 0, .int 0, .int 0, .int 0, .int 0, .int 0, .int 0, .int 0, .ref su, .ref sc])), (lA, .inl (cL, 20, .inr (.inr (.inr (.inr (fun _ => none)))))), (tb, .inl (e2, 366, .inl (fun _ => 0))), (lK, .inl (e3, 20, .inl (fun _ => 0))), (lC, .inl (e4, 20, .inl (fun _ => 0))), (kA, .inl (cK, 10, .inr (.inr (.inr (.inr (va_up (fun _ => none) 0 (some u_459))))))), (u_459, .inr (1, [.int 0, .int 1, .int 1, .int 2, .int 1, .int 0, .int 1, .int 0])), (kT, .inl (e1, 60, .inl (u_474))), (o, .inr (3, [.ref kA, .int 1, .int 1, .int 0, .int 1, .int 0, .ref iA, .int 0, .int 0, .int 0, .ref tA, .ref tr, .ref lA, .int (nI 0)])), (ou, .inl (cJ, 1, .inr (.inl (vp_updL (vp_updL (fun _ => 0) 0 (0 : Int32).toInt64) 0 (20 : Int32).toInt64)))), (mo, .inr (4, [.int 0, .int 1, .ref kT, .int 1, .int 0, .int 1, .int 0, .int 0, .ref tb, .ref ld, .int (nI 0), .ref lK, .ref lC, .int 0]))]) H := hP
  have hD : va_D A ([(tA, .inl (cT, 120, .inl (fun _ => 0))), (tr, .inr (0, [.int 0, .int 0, .int 0, .int 0, .int 0, .int 0, .int 0, .int 0, .int 0, .int 0, .int 0, .int 0, .int 0, .int 0, .int 0, .int 0, .ref su, .ref sc])), (lA, .inl (cL, 20, .inr (.inr (.inr (.inr (fun _ => none)))))), (tb, .inl (e2, 366, .inl (fun _ => 0))), (lK, .inl (e3, 20, .inl (fun _ => 0))), (lC, .inl (e4, 20, .inl (fun _ => 0))), (kA, .inl (cK, 10, .inr (.inr (.inr (.inr (va_up (fun _ => none) 0 (some u_459))))))), (u_459, .inr (1, [.int 0, .int 1, .int 1, .int 2, .int 1, .int 0, .int 1, .int 0])), (kT, .inl (e1, 60, .inl (u_474))), (o, .inr (3, [.ref kA, .int 1, .int 1, .int 0, .int 1, .int 0, .ref iA, .int 0, .int 0, .int 0, .ref tA, .ref tr, .ref lA, .int (nI 0)])), (ou, .inl (cJ, 1, .inr (.inl (vp_updL (vp_updL (fun _ => 0) 0 (0 : Int32).toInt64) 0 (20 : Int32).toInt64)))), (mo, .inr (4, [.int 0, .int 1, .ref kT, .int 1, .int 0, .int 1, .int 0, .int 0, .ref tb, .ref ld, .int (nI 0), .ref lK, .ref lC, .int 0]))]) := hD
  refine lv_topi (fun v_503 ev_503 => ?_)
  obtain rfl : v_503 = 20 := ev_503.trans hwu_502
  refine lv_istore (lv' := [(6, .int 20), (5, .int 0), (4, .int (nI (0 + 7))), (3, .ref ou), (2, .ref mo), (1, .ref o), (0, .ref b)]) hx hb dL_law_301 hl (by decide) rfl (fun ls hl => ?_)
  refine lv_goto (tgt := 984) hx hb dL_law_303 (by decide) ?_
  refine lv_iinc (v := (nI (7 + 7))) (lv' := [(4, .int (nI (7 + 7))), (6, .int 20), (5, .int 0), (3, .ref ou), (2, .ref mo), (1, .ref o), (0, .ref b)]) hx hb dL_law_984 hl (k := 2) rfl ((nI_add 7 7)) (by decide) rfl (fun ls hl => ?_)
  refine lv_goto (tgt := 23) hx hb dL_law_987 (by decide) ?_
  have hl := lv_sub hl (l' := [(4, .int (nI (7 + 7))), (3, .ref ou), (2, .ref mo), (1, .ref o), (0, .ref b)]) [0, 3, 4, 5, 6] rfl
  have hP := hP.sub (ws' := [(o, .inr (3, [.ref kA, .int 1, .int 1, .int 0, .int 1, .int 0, .ref iA, .int 0, .int 0, .int 0, .ref tA, .ref tr, .ref lA, .int (nI 0)])), (kA, .inl (cK, 10, .inr (.inr (.inr (.inr (va_up (fun _ => none) 0 (some u_459))))))), (tA, .inl (cT, 120, .inl (fun _ => 0))), (tr, .inr (0, [.int 0, .int 0, .int 0, .int 0, .int 0, .int 0, .int 0, .int 0, .int 0, .int 0, .int 0, .int 0, .int 0, .int 0, .int 0, .int 0, .ref su, .ref sc])), (lA, .inl (cL, 20, .inr (.inr (.inr (.inr (fun _ => none)))))), (u_459, .inr (1, [.int 0, .int 1, .int 1, .int 2, .int 1, .int 0, .int 1, .int 0])), (mo, .inr (4, [.int 0, .int 1, .ref kT, .int 1, .int 0, .int 1, .int 0, .int 0, .ref tb, .ref ld, .int (nI 0), .ref lK, .ref lC, .int 0])), (kT, .inl (e1, 60, .inl (u_474))), (tb, .inl (e2, 366, .inl (fun _ => 0))), (lK, .inl (e3, 20, .inl (fun _ => 0))), (lC, .inl (e4, 20, .inl (fun _ => 0))), (ou, .inl (cJ, 1, .inr (.inl (vp_updL (vp_updL (fun _ => 0) 0 (0 : Int32).toInt64) 0 (20 : Int32).toInt64))))]) [9, 6, 0, 1, 2, 7, 11, 8, 3, 4, 5, 10] rfl
  have hD := hD.sub (ws' := [(o, .inr (3, [.ref kA, .int 1, .int 1, .int 0, .int 1, .int 0, .ref iA, .int 0, .int 0, .int 0, .ref tA, .ref tr, .ref lA, .int (nI 0)])), (kA, .inl (cK, 10, .inr (.inr (.inr (.inr (va_up (fun _ => none) 0 (some u_459))))))), (tA, .inl (cT, 120, .inl (fun _ => 0))), (tr, .inr (0, [.int 0, .int 0, .int 0, .int 0, .int 0, .int 0, .int 0, .int 0, .int 0, .int 0, .int 0, .int 0, .int 0, .int 0, .int 0, .int 0, .ref su, .ref sc])), (lA, .inl (cL, 20, .inr (.inr (.inr (.inr (fun _ => none)))))), (u_459, .inr (1, [.int 0, .int 1, .int 1, .int 2, .int 1, .int 0, .int 1, .int 0])), (mo, .inr (4, [.int 0, .int 1, .ref kT, .int 1, .int 0, .int 1, .int 0, .int 0, .ref tb, .ref ld, .int (nI 0), .ref lK, .ref lC, .int 0])), (kT, .inl (e1, 60, .inl (u_474))), (tb, .inl (e2, 366, .inl (fun _ => 0))), (lK, .inl (e3, 20, .inl (fun _ => 0))), (lC, .inl (e4, 20, .inl (fun _ => 0))), (ou, .inl (cJ, 1, .inr (.inl (vp_updL (vp_updL (fun _ => 0) 0 (0 : Int32).toInt64) 0 (20 : Int32).toInt64))))]) [9, 6, 0, 1, 2, 7, 11, 8, 3, 4, 5, 10] (by decide) rfl
  have hK := hK.sub (tys' := [(cK, .object RX1), (cT, .int), (cL, .object RX2), (e1, .int), (e2, .int), (e3, .int), (e4, .int), (cJ, .long)]) [0, 1, 2, 3, 4, 5, 6, 7] rfl
  refine W.widen (k := (1000 + 0)) (n := (10000 + 3 * 0)) (by omega) (by omega) ?_
  subst hAe
  exact z_lines C1 o kA iA tA tr lA u_459 su sc mo kT tb ld lK lC ou cK cT cL e1 e2 e3 e4 cJ (va_up (fun _ => none) 0 (some u_459)) u_474 hwu_474.2 rfl 20 0 rfl (fun _ => 0) (fun _ => 0) (fun _ => 0) (fun _ => none) (fun _ => 0) (fun _ => 0) (fun _ => 0) (vp_updL (vp_updL (fun _ => 0) 0 (0 : Int32).toInt64) 0 (20 : Int32).toInt64) (fun i hi => absurd hi (Nat.not_lt_zero i)) (fun i hi => absurd hi (Nat.not_lt_zero i)) (fun i hi => absurd hi (Nat.not_lt_zero i)) H locs ls hK hP hD hS hl
