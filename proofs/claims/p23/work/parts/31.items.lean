set_option maxHeartbeats 8000000 in
set_option maxRecDepth 100000 in
/-- the law goes through the items -/
theorem z_items {p : Program} {e : Env} {s : State} {m : MethodId} {below : List Frame} {meth : Method} {c : Code} {l : Launch} {b L : Nat} {xs : Nat → Int32} (C0 : lw_At p s m meth c b L xs) (D : zG) (B : qB) (R : qR0) (N : qN0) (S : Nat → Nat → Nat) (hF : qFull B R N S) (cA : ClassId) (hKA : qKA s cA) (ad : Nat → Nat) (F : Nat → Option Nat) (rf : Nat → Int32) (K : Nat → Nat) (V : Nat → Nat → Nat) (hK : va_K D vwCl (qT B ++ [(cA, .array .int)]) s) (hru : rf 1 = nI (N 4 1 2)) (hV : ∀ k, k < qk B → F k = some (K k) ∧ qKv N V k) (sa sv : Nat → Nat) (cells0 slots0 : Nat) (hc0 : cells0 + 36 * 60 ≤ 5000) (hs0 : slots0 + 36 * 60 ≤ 20000) (H : Heap) (locs : List Loc) (ls : Array Slot) (hP : va_P D vwCl (qLX cA (qY B 2) cA ad (qk B) F rf K V (fun _ => none) sa sv 0 ++ qG B R N) H) (hD : va_D (fun q : Nat => s.heap.size ≤ q) (qLX cA (qY B 2) cA ad (qk B) F rf K V (fun _ => none) sa sv 0 ++ qG B R N)) (hS : va_S (fun q : Nat => s.heap.size ≤ q) s.heap H locs) (hl : lv_has ls 19 [(10, .int (nI 0)), (9, .int (nI 0)), (8, .int (nI 0)), (7, .ref (ad 4)), (5, .int (nI (N 4 1 5))), (2, .ref (ad 0)), (1, .ref (qA B 5 0))]) : W p l e room_1 s m #[Value.ref b] below meth c H locs cells0 slots0 (lw_Z below #[Value.ref b] s) (F0 m 205 ls []) := by
  have C1 := C0
  obtain ⟨hx, hb, hr, hml, hown, hts, hX0, hbl, hlocks, hgv⟩ := C0
  have hA : ∀ q : Nat, s.heap.size ≤ q → (fun q : Nat => s.heap.size ≤ q) q := fun _ h => h
  have hbA : ¬ (fun q : Nat => s.heap.size ≤ q) b := Nat.not_le.mpr hbl
  have hRf : room_1.frames = 10 := rfl
  have hRl : room_1.locals = 354 := rfl
  have hRc : 5000 ≤ room_1.cells := Nat.le_of_ble_eq_true rfl
  have hRs : 20000 ≤ room_1.slots := Nat.le_of_ble_eq_true rfl
  obtain ⟨n, hn⟩ : ∃ n, n = N 4 1 5 := ⟨_, rfl⟩
  rw [← hn] at hl
  have o8 : n ≤ 60 := by rw [hn]; exact hF.1.2.2.2.2.2.2.2.1
  have o6 := hF.1.2.2.2.2.2.1
  generalize hQe : lw_Z below #[Value.ref b] s = Q
  have loop : ∀ (k9 i : Nat), i + k9 = n → ∀ (N : qN0) (hF : qFull B R N S) (hn : n = N 4 1 5) (hru : rf 1 = nI (N 4 1 2)) (hV : ∀ k, k < qk B → F k = some (K k) ∧ qKv N V k) (sf : Nat → Option Nat) (sa sv : Nat → Nat) (cnt : Nat) (hsn : qSn N sf sa sv cnt i 0 0) (hcnt : cnt ≤ 36 * i) (H : Heap) (locs : List Loc) (ls : Array Slot), va_P D vwCl (qLX cA (qY B 2) cA ad (qk B) F rf K V sf sa sv cnt ++ qG B R N) H → va_D (fun q : Nat => s.heap.size ≤ q) (qLX cA (qY B 2) cA ad (qk B) F rf K V sf sa sv cnt ++ qG B R N) → va_S (fun q : Nat => s.heap.size ≤ q) s.heap H locs → lv_has ls 19 [(10, .int (nI i)), (9, .int (nI (qsum (fun i => N 0 i 1) i))), (8, .int (nI (qsum (fun i => N 0 i 4 * N 0 i 5 * (N 0 i 9 - N 0 i 8)) i))), (7, .ref (ad 4)), (5, .int (nI n)), (2, .ref (ad 0)), (1, .ref (qA B 5 0))] → W p l e room_1 s m #[Value.ref b] below meth c H locs (cells0 + cnt) (slots0 + cnt) Q (F0 m 205 ls []) := by
    intro k9
    induction k9 with
    | zero =>
      intro i hi N hF hn hru hV sf sa sv cnt hsn hcnt H locs ls hP hD hS hl
      obtain rfl : n = i := by omega
      refine lv_iload hx hb dL_law_205 (lv_at hl 0 rfl) ?_
      refine lv_iload hx hb dL_law_207 (lv_at hl 4 rfl) ?_
      refine lv_icmp_ge (tgt := 670) hx hb dL_law_209 (by decide) (fun c_1 => ?_) (fun c_1 => absurd (Int32.le_refl _) c_1)
      rw [← hQe]
      have hl := lv_sub hl (l' := [(9, .int (nI (qsum (fun i => N 0 i 1) n))), (8, .int (nI (qsum (fun i => N 0 i 4 * N 0 i 5 * (N 0 i 9 - N 0 i 8)) n))), (5, .int (nI n)), (2, .ref (ad 0)), (1, .ref (qA B 5 0))]) [1, 2, 4, 5, 6] rfl
      have hw := hF.2.2.2.2.2.2.2.2.2.1
      rw [hn, ← hw] at hl
      exact z_fin C1 D B R N S hF cA ad F rf K V hV hK sf sa sv cnt H locs ls hP hD hS hl _ _ (by omega) (by omega)
    | succ k9 ih =>
      intro i hi N hF hn hru hV sf sa sv cnt hsn hcnt H locs ls hP hD hS hl
      have hi9 : i < N 4 1 5 := by omega
      obtain ⟨m0, m1, m2, m3, m4, m5, m6, m7, m8, m9, m10, m11, m12, m13, m14⟩ := qAsk hF hi9 (fun k hk => (hV k hk).2)
      have hM := hF.2.1
      have c1 := hM 0 i 1
      have c4 := hM 0 i 4
      have c5 := hM 0 i 5
      have c6 := hM 0 i 6
      have c7 := hM 0 i 7
      have c8 := hM 0 i 8
      have c9 := hM 0 i 9
      have c11 := hM 0 i 11
      obtain ⟨g1, g2, g3, g4, g5, g6, g7, g8⟩ := hF.2.2.1.1 i hi9
      obtain ⟨k, hk⟩ : ∃ k, k = N 0 i 0 := ⟨_, rfl⟩
      rw [← hk] at m0 m1 m2 m3 m4 m5 m6 m10
      have v7 := (hV k m0).2.2.2.2.2.2.2.2
      refine lv_iload hx hb dL_law_205 (lv_at hl 0 rfl) ?_
      refine lv_iload hx hb dL_law_207 (lv_at hl 4 rfl) ?_
      refine lv_icmp_ge (tgt := 670) hx hb dL_law_209 (by decide) (fun c_2 => absurd c_2 (nI_ge (by omega) (by omega))) (fun c_2 => ?_)
      refine lv_aload_n hx hb dL_law_212 rfl (lv_at hl 5 rfl) ?_
      refine va_get (D := D) (ci := 4) (v := .ref (ad 1)) (C := RX4) (T := TX4) (N := 4) hx hb hts inT_X4 hown hK hP 0 rfl rfl 0 (by decide) (hts (.fieldLink RL 24 "PalletStackLaw$Hand" "kinds" "[[I") (List.mem_of_getElem? (i := 502) (by decide +kernel))) (fun _ h9 => h9) rfl dL_law_213 ?_
      refine lv_aload_n hx hb dL_law_216 rfl (lv_at hl 6 rfl) ?_
      refine lv_iload hx hb dL_law_217 (lv_at hl 0 rfl) ?_
      refine lv_iconst (v := 0) hx hb dL_law_219 (by decide) ?_
      refine zrdV2 (As := [.int (nI i), .int 0]) (rest := [.ref (ad 1)]) (wc := qG B R N) ⟨hx, hb, hml, hown, hts⟩ (c_item_0 l D _ B R N i (by omega) hF.1) (cwV 2 hts zgV_X3_item rfl rfl rfl (by decide +kernel) ⟨by rw [hRf]; exact Nat.le_of_ble_eq_true rfl, by rw [hRl]; exact Nat.le_of_ble_eq_true rfl⟩) hK (qPr hP) (qDr hD) [0, 1, 2, 3] rfl (ci := 3) (q0 := 0) rfl rfl rfl hl.1 rfl (Nat.le_of_ble_eq_true rfl) dL_law_220 ⟨by omega, by omega⟩ (fun r_3 hr_3 => ?_)
      refine lv_topi (fun v_4 ev_4 => ?_)
      obtain rfl : v_4 = (nI (N 0 i 0)) := ev_4.trans hr_3
      refine lv_topi (fun v_5 ev_5 => ?_)
      obtain rfl : v_5 = (nI k) := ev_5.trans (by rw [hk])
      refine qaldA hx hb hK hP 2 4 rfl rfl (vp_in_nI (n := k) (N := qk B) m0 (by omega)) dL_law_223 ?_
      refine W.eq (g2 := F0 m 224 ls [.ref (K k)]) (by rw [nI_clamp (by omega), (hV _ m0).1]; rfl) ?_
      refine lv_astore (lv' := [(11, .ref (K k)), (10, .int (nI i)), (9, .int (nI (qsum (fun i => N 0 i 1) i))), (8, .int (nI (qsum (fun i => N 0 i 4 * N 0 i 5 * (N 0 i 9 - N 0 i 8)) i))), (7, .ref (ad 4)), (5, .int (nI n)), (2, .ref (ad 0)), (1, .ref (qA B 5 0))]) hx hb dL_law_224 hl (by decide) rfl (fun ls hl => ?_)
      refine lv_aload_n hx hb dL_law_226 rfl (lv_at hl 7 rfl) ?_
      refine lv_iload hx hb dL_law_227 (lv_at hl 1 rfl) ?_
      refine lv_iconst (v := 5) hx hb dL_law_229 (by decide) ?_
      refine zrdV2 (As := [.int (nI i), .int 5]) (rest := []) (wc := qG B R N) ⟨hx, hb, hml, hown, hts⟩ (c_item_5 l D _ B R N i (by omega) hF.1 m11) (cwV 2 hts zgV_X3_item rfl rfl rfl (by decide +kernel) ⟨by rw [hRf]; exact Nat.le_of_ble_eq_true rfl, by rw [hRl]; exact Nat.le_of_ble_eq_true rfl⟩) hK (qPr hP) (qDr hD) [0, 1, 2, 3] rfl (ci := 3) (q0 := 0) rfl rfl rfl hl.1 rfl (Nat.le_of_ble_eq_true rfl) dL_law_230 ⟨by omega, by omega⟩ (fun r_6 hr_6 => ?_)
      refine lv_topi (fun v_7 ev_7 => ?_)
      obtain rfl : v_7 = (nI (N 0 i 3)) := ev_7.trans hr_6
      refine lv_iconst (v := 1) hx hb dL_law_233 (by decide) ?_
      have vb : V k 4 ≤ 1000000 := by rw [(hV k m0).2.2.2.2.2.1]; exact hM 2 k 5
      have a242 : W p l e room_1 s m #[Value.ref b] below meth c H locs (cells0 + cnt) (slots0 + cnt) Q (F0 m 242 ls [.int (nI (N 0 i 3))]) := by
        refine lv_istore (lv' := [(12, .int (nI (N 0 i 3))), (11, .ref (K k)), (10, .int (nI i)), (9, .int (nI (qsum (fun i => N 0 i 1) i))), (8, .int (nI (qsum (fun i => N 0 i 4 * N 0 i 5 * (N 0 i 9 - N 0 i 8)) i))), (7, .ref (ad 4)), (5, .int (nI n)), (2, .ref (ad 0)), (1, .ref (qA B 5 0))]) hx hb dL_law_242 hl (by decide) rfl (fun ls hl => ?_)
        refine lv_aload hx hb dL_law_244 (lv_at hl 1 rfl) ?_
        refine lv_iload hx hb dL_law_246 (lv_at hl 0 rfl) ?_
        have a256 : W p l e room_1 s m #[Value.ref b] below meth c H locs (cells0 + cnt) (slots0 + cnt) Q (F0 m 256 ls [.int (nI (if N 0 i 3 = 1 then 1 else 0)), .ref (K k)]) := by
          refine va_iald hx hb hK hP (3 + k) 2 (qLX_k m0) rfl (vp_in_nI (n := (if N 0 i 3 = 1 then 1 else 0)) (N := 6) (by split <;> decide) (by decide)) dL_law_256 ?_
          refine lv_topi (fun v_8 ev_8 => ?_)
          obtain rfl : v_8 = (nI (N 0 i 4)) := ev_8.trans (by show nI (V k (nI (if N 0 i 3 = 1 then 1 else 0)).toNatClampNeg) = _; rw [nI_clamp (by split <;> decide), m1])
          refine lv_istore (lv' := [(13, .int (nI (N 0 i 4))), (12, .int (nI (N 0 i 3))), (11, .ref (K k)), (10, .int (nI i)), (9, .int (nI (qsum (fun i => N 0 i 1) i))), (8, .int (nI (qsum (fun i => N 0 i 4 * N 0 i 5 * (N 0 i 9 - N 0 i 8)) i))), (7, .ref (ad 4)), (5, .int (nI n)), (2, .ref (ad 0)), (1, .ref (qA B 5 0))]) hx hb dL_law_257 hl (by decide) rfl (fun ls hl => ?_)
          refine lv_aload hx hb dL_law_259 (lv_at hl 2 rfl) ?_
          refine lv_iload hx hb dL_law_261 (lv_at hl 1 rfl) ?_
          have a271 : W p l e room_1 s m #[Value.ref b] below meth c H locs (cells0 + cnt) (slots0 + cnt) Q (F0 m 271 ls [.int (nI (if N 0 i 3 = 1 then 0 else 1)), .ref (K k)]) := by
            refine va_iald hx hb hK hP (3 + k) 2 (qLX_k m0) rfl (vp_in_nI (n := (if N 0 i 3 = 1 then 0 else 1)) (N := 6) (by split <;> decide) (by decide)) dL_law_271 ?_
            refine lv_topi (fun v_9 ev_9 => ?_)
            obtain rfl : v_9 = (nI (N 0 i 5)) := ev_9.trans (by show nI (V k (nI (if N 0 i 3 = 1 then 0 else 1)).toNatClampNeg) = _; rw [nI_clamp (by split <;> decide), m2])
            refine lv_istore (lv' := [(14, .int (nI (N 0 i 5))), (13, .int (nI (N 0 i 4))), (12, .int (nI (N 0 i 3))), (11, .ref (K k)), (10, .int (nI i)), (9, .int (nI (qsum (fun i => N 0 i 1) i))), (8, .int (nI (qsum (fun i => N 0 i 4 * N 0 i 5 * (N 0 i 9 - N 0 i 8)) i))), (7, .ref (ad 4)), (5, .int (nI n)), (2, .ref (ad 0)), (1, .ref (qA B 5 0))]) hx hb dL_law_272 hl (by decide) rfl (fun ls hl => ?_)
            refine lv_aload_n hx hb dL_law_274 rfl (lv_at hl 10 rfl) ?_
            refine lv_iload hx hb dL_law_275 (lv_at hl 4 rfl) ?_
            refine lv_iconst (v := 3) hx hb dL_law_277 (by decide) ?_
            refine zrdV2 (As := [.int (nI i), .int 3]) (rest := []) (wc := qG B R N) ⟨hx, hb, hml, hown, hts⟩ (c_item_3 l D _ B R N i (by omega) hF.1) (cwV 2 hts zgV_X3_item rfl rfl rfl (by decide +kernel) ⟨by rw [hRf]; exact Nat.le_of_ble_eq_true rfl, by rw [hRl]; exact Nat.le_of_ble_eq_true rfl⟩) hK (qPr hP) (qDr hD) [0, 1, 2, 3] rfl (ci := 3) (q0 := 0) rfl rfl rfl hl.1 rfl (Nat.le_of_ble_eq_true rfl) dL_law_278 ⟨by omega, by omega⟩ (fun r_10 hr_10 => ?_)
            refine lv_topi (fun v_11 ev_11 => ?_)
            obtain rfl : v_11 = (nI (N 0 i 8)) := ev_11.trans hr_10
            refine lv_istore (lv' := [(15, .int (nI (N 0 i 8))), (14, .int (nI (N 0 i 5))), (13, .int (nI (N 0 i 4))), (12, .int (nI (N 0 i 3))), (11, .ref (K k)), (10, .int (nI i)), (9, .int (nI (qsum (fun i => N 0 i 1) i))), (8, .int (nI (qsum (fun i => N 0 i 4 * N 0 i 5 * (N 0 i 9 - N 0 i 8)) i))), (7, .ref (ad 4)), (5, .int (nI n)), (2, .ref (ad 0)), (1, .ref (qA B 5 0))]) hx hb dL_law_281 hl (by decide) rfl (fun ls hl => ?_)
            refine lv_aload_n hx hb dL_law_283 rfl (lv_at hl 11 rfl) ?_
            refine lv_iload hx hb dL_law_284 (lv_at hl 5 rfl) ?_
            refine lv_iconst (v := 4) hx hb dL_law_286 (by decide) ?_
            refine zrdV2 (As := [.int (nI i), .int 4]) (rest := []) (wc := qG B R N) ⟨hx, hb, hml, hown, hts⟩ (c_item_4 l D _ B R N i (by omega) hF.1) (cwV 2 hts zgV_X3_item rfl rfl rfl (by decide +kernel) ⟨by rw [hRf]; exact Nat.le_of_ble_eq_true rfl, by rw [hRl]; exact Nat.le_of_ble_eq_true rfl⟩) hK (qPr hP) (qDr hD) [0, 1, 2, 3] rfl (ci := 3) (q0 := 0) rfl rfl rfl hl.1 rfl (Nat.le_of_ble_eq_true rfl) dL_law_287 ⟨by omega, by omega⟩ (fun r_12 hr_12 => ?_)
            refine lv_topi (fun v_13 ev_13 => ?_)
            obtain rfl : v_13 = (nI (N 0 i 9)) := ev_13.trans hr_12
            refine lv_iload hx hb dL_law_290 (lv_at hl 0 rfl) ?_
            refine lv_aload hx hb dL_law_292 (lv_at hl 4 rfl) ?_
            refine lv_iconst (v := 2) hx hb dL_law_294 (by decide) ?_
            refine va_iald hx hb hK hP (3 + k) 2 (qLX_k m0) rfl (vp_in_nI (n := 2) (N := 6) (by decide) (by decide)) dL_law_295 ?_
            refine lv_topi (fun v_14 ev_14 => ?_)
            obtain rfl : v_14 = (nI (V k 2)) := ev_14.trans rfl
            refine lv_iadd hx hb dL_law_296 ?_
            refine lv_topi (fun v_15 ev_15 => ?_)
            obtain rfl : v_15 = (nI (N 0 i 9)) := ev_15.trans ((nI_add _ _).trans (by rw [m3]))
            refine lv_icmp_ne (tgt := 409) hx hb dL_law_297 (by decide) (fun c_16 => absurd (rfl) c_16) (fun c_16 => ?_)
            refine lv_iload hx hb dL_law_300 (lv_at hl 3 rfl) ?_
            have a314 : W p l e room_1 s m #[Value.ref b] below meth c H locs (cells0 + cnt) (slots0 + cnt) Q (F0 m 314 ls []) := by
              refine lv_aload hx hb dL_law_314 (lv_at hl 4 rfl) ?_
              refine lv_iconst (v := 5) hx hb dL_law_316 (by decide) ?_
              refine va_iald hx hb hK hP (3 + k) 2 (qLX_k m0) rfl (vp_in_nI (n := 5) (N := 6) (by decide) (by decide)) dL_law_317 ?_
              refine lv_topi (fun v_17 ev_17 => ?_)
              obtain rfl : v_17 = (nI (V k 5)) := ev_17.trans rfl
              refine lv_iconst (v := 1) hx hb dL_law_318 (by decide) ?_
              have a327 : W p l e room_1 s m #[Value.ref b] below meth c H locs (cells0 + cnt) (slots0 + cnt) Q (F0 m 327 ls []) := by
                refine lv_aload_n hx hb dL_law_327 rfl (lv_at hl 11 rfl) ?_
                refine lv_iload hx hb dL_law_328 (lv_at hl 5 rfl) ?_
                refine lv_bipush (v := 6) hx hb dL_law_330 (by decide) ?_
                refine zrdV2 (As := [.int (nI i), .int 6]) (rest := []) (wc := qG B R N) ⟨hx, hb, hml, hown, hts⟩ (c_item_6 l D _ B R N i (by omega) hF.1) (cwV 2 hts zgV_X3_item rfl rfl rfl (by decide +kernel) ⟨by rw [hRf]; exact Nat.le_of_ble_eq_true rfl, by rw [hRl]; exact Nat.le_of_ble_eq_true rfl⟩) hK (qPr hP) (qDr hD) [0, 1, 2, 3] rfl (ci := 3) (q0 := 0) rfl rfl rfl hl.1 rfl (Nat.le_of_ble_eq_true rfl) dL_law_332 ⟨by omega, by omega⟩ (fun r_18 hr_18 => ?_)
                refine lv_topi (fun v_19 ev_19 => ?_)
                obtain rfl : v_19 = (nI (N 0 i 11)) := ev_19.trans hr_18
                refine lv_aload hx hb dL_law_335 (lv_at hl 4 rfl) ?_
                refine lv_iconst (v := 4) hx hb dL_law_337 (by decide) ?_
                refine va_iald hx hb hK hP (3 + k) 2 (qLX_k m0) rfl (vp_in_nI (n := 4) (N := 6) (by decide) (by decide)) dL_law_338 ?_
                refine lv_topi (fun v_20 ev_20 => ?_)
                obtain rfl : v_20 = (nI (V k 4)) := ev_20.trans rfl
                refine lv_icmp_gt (tgt := 409) hx hb dL_law_339 (by decide) (fun c_21 => absurd c_21 (nI_nlt m6 (by omega))) (fun c_21 => ?_)
                refine lv_aload_n hx hb dL_law_342 rfl (lv_at hl 11 rfl) ?_
                refine lv_iload hx hb dL_law_343 (lv_at hl 5 rfl) ?_
                refine lv_bipush (v := 9) hx hb dL_law_345 (by decide) ?_
                refine zrdV2 (As := [.int (nI i), .int 9]) (rest := []) (wc := qG B R N) ⟨hx, hb, hml, hown, hts⟩ (c_item_9 l D _ B R N i (by omega) hF.1) (cwV 2 hts zgV_X3_item rfl rfl rfl (by decide +kernel) ⟨by rw [hRf]; exact Nat.le_of_ble_eq_true rfl, by rw [hRl]; exact Nat.le_of_ble_eq_true rfl⟩) hK (qPr hP) (qDr hD) [0, 1, 2, 3] rfl (ci := 3) (q0 := 0) rfl rfl rfl hl.1 rfl (Nat.le_of_ble_eq_true rfl) dL_law_347 ⟨by omega, by omega⟩ (fun r_22 hr_22 => ?_)
                refine lv_topi (fun v_23 ev_23 => ?_)
                obtain rfl : v_23 = (nI (N 0 i 10)) := ev_23.trans hr_22
                refine lv_bipush (v := 100) hx hb dL_law_350 (by decide) ?_
                refine lv_imul hx hb dL_law_352 ?_
                refine lv_topi (fun v_24 ev_24 => ?_)
                obtain rfl : v_24 = (nI (N 0 i 10 * 100)) := ev_24.trans (pk_mul _ 100)
                refine lv_aload_n hx hb dL_law_353 rfl (lv_at hl 10 rfl) ?_
                refine va_get (D := D) (ci := 4) (v := .ref (ad 3)) (C := RX4) (T := TX4) (N := 4) hx hb hts inT_X4 hown hK hP 0 rfl rfl 3 (by decide) (hts (.fieldLink RL 34 "PalletStackLaw$Hand" "rules" "[I") (List.mem_of_getElem? (i := 505) (by decide +kernel))) (fun _ h9 => h9) rfl dL_law_354 ?_
                refine lv_iconst (v := 1) hx hb dL_law_357 (by decide) ?_
                refine va_iald hx hb hK hP 1 2 rfl rfl (vp_in_nI (n := 1) (N := 4) (by decide) (by decide)) dL_law_358 ?_
                refine lv_topi (fun v_25 ev_25 => ?_)
                obtain rfl : v_25 = (nI (N 4 1 2)) := ev_25.trans hru
                refine lv_iload hx hb dL_law_359 (lv_at hl 2 rfl) ?_
                refine lv_imul hx hb dL_law_361 ?_
                refine lv_topi (fun v_26 ev_26 => ?_)
                obtain rfl : v_26 = (nI (N 4 1 2 * N 0 i 4)) := ev_26.trans (pk_mul _ _)
                refine lv_iload hx hb dL_law_362 (lv_at hl 1 rfl) ?_
                refine lv_imul hx hb dL_law_364 ?_
                refine lv_topi (fun v_27 ev_27 => ?_)
                obtain rfl : v_27 = (nI (N 4 1 2 * N 0 i 4 * N 0 i 5)) := ev_27.trans (pk_mul _ _)
                refine lv_icmp_lt (tgt := 409) hx hb dL_law_365 (by decide) (fun c_28 => absurd c_28 (nI_nlt m7 (by omega))) (fun c_28 => ?_)
                refine lv_iload hx hb dL_law_368 (lv_at hl 0 rfl) ?_
                have a384 : W p l e room_1 s m #[Value.ref b] below meth c H locs (cells0 + cnt) (slots0 + cnt) Q (F0 m 384 ls []) := by
                  refine lv_iload hx hb dL_law_384 (lv_at hl 0 rfl) ?_
                  have a411 : W p l e room_1 s m #[Value.ref b] below meth c H locs (cells0 + cnt) (slots0 + cnt) Q (F0 m 411 ls []) := by
                    have hl := lv_sub hl (l' := [(15, .int (nI (N 0 i 8))), (14, .int (nI (N 0 i 5))), (13, .int (nI (N 0 i 4))), (11, .ref (K k)), (10, .int (nI i)), (9, .int (nI (qsum (fun i => N 0 i 1) i))), (8, .int (nI (qsum (fun i => N 0 i 4 * N 0 i 5 * (N 0 i 9 - N 0 i 8)) i))), (7, .ref (ad 4)), (5, .int (nI n)), (2, .ref (ad 0)), (1, .ref (qA B 5 0))]) [0, 1, 2, 4, 5, 6, 7, 8, 9, 10, 11] rfl
                    have hn6 : i < 60 := by omega
                    refine z_cells C1 D B R N S hF (fun q : Nat => s.heap.size ≤ q) hA cA hKA ad F rf K V hK i k hi9 m0 (N 0 i 6) (N 0 i 4) (N 0 i 7) (N 0 i 5) (N 0 i 8) (V k 2) (qsum (fun i => N 0 i 4 * N 0 i 5 * (N 0 i 9 - N 0 i 8)) i) cnt rfl rfl rfl rfl rfl m3 rfl (nI n) (nI (qsum (fun i => N 0 i 1) i)) Q cells0 slots0 (by omega) (by omega) sf sa sv hsn (fun sf sa sv cnt1 z9 hsn hcn1 hz9 H locs ls hP hD hS hl => ?_) H locs ls hP hD hS hl
                    have hz8 : z9 = qsum (fun i => N 0 i 4 * N 0 i 5 * (N 0 i 9 - N 0 i 8)) (i + 1) := by
                              rw [hz9]
                              show _ = qsum (fun i => N 0 i 4 * N 0 i 5 * (N 0 i 9 - N 0 i 8)) i + N 0 i 4 * N 0 i 5 * (N 0 i 9 - N 0 i 8)
                              rw [m3, Nat.add_sub_cancel_left]
                    rw [hz8] at hl
                    have hl := lv_sub hl (l' := [(15, .int (nI (N 0 i 8))), (11, .ref (K k)), (10, .int (nI i)), (9, .int (nI (qsum (fun i => N 0 i 1) i))), (8, .int (nI (qsum (fun i => N 0 i 4 * N 0 i 5 * (N 0 i 9 - N 0 i 8)) (i + 1)))), (7, .ref (ad 4)), (5, .int (nI n)), (2, .ref (ad 0)), (1, .ref (qA B 5 0))]) [0, 3, 4, 5, 6, 7, 8, 9, 10] rfl
                    refine z_rests C1 D B R N S hF (fun q : Nat => s.heap.size ≤ q) hA cA hKA ad F rf K V hK i k n hn hi9 m0 m10 Q (cells0 + cnt1) (slots0 + cnt1) (by omega) (by omega) sf sa sv cnt1 (fun N1 hR hF1 H locs ls hP hD hS hl => ?_) H locs ls hP hD hS hl
                    refine lv_iinc (v := (nI (i + 1))) (lv' := [(10, .int (nI (i + 1))), (9, .int (nI (qsum (fun i => N1 0 i 1) (i + 1)))), (8, .int (nI (qsum (fun i => N1 0 i 4 * N1 0 i 5 * (N1 0 i 9 - N1 0 i 8)) (i + 1)))), (7, .ref (ad 4)), (5, .int (nI n)), (2, .ref (ad 0)), (1, .ref (qA B 5 0))]) hx hb dL_law_664 hl (k := 0) rfl (nI_1 i) (by decide) rfl (fun ls hl => ?_)
                    refine lv_goto (tgt := 205) hx hb dL_law_667 (by decide) ?_
                    have hl := lv_sub hl (l' := [(10, .int (nI (i + 1))), (9, .int (nI (qsum (fun i => N1 0 i 1) (i + 1)))), (8, .int (nI (qsum (fun i => N1 0 i 4 * N1 0 i 5 * (N1 0 i 9 - N1 0 i 8)) (i + 1)))), (7, .ref (ad 4)), (5, .int (nI n)), (2, .ref (ad 0)), (1, .ref (qA B 5 0))]) [0, 1, 2, 3, 4, 5, 6] rfl
                    exact ih (i + 1) (by omega) N1 hF1 (hn.trans (hR 4 1 5 (by omega)).symm) (hru.trans (congrArg nI (hR 4 1 2 (by omega)).symm)) (fun k hk => ⟨(hV k hk).1, qKv_14 hR (hV k hk).2⟩) sf sa sv cnt1 (qSn_14 hR hsn) (by omega) H locs ls hP hD hS hl
                  refine lv_if_le (tgt := 411) hx hb dL_law_386 (by decide) (fun c_29 => ?_) (fun c_29 => ?_)
                  · have h_b := True.intro
                    exact a411
                  · have h_b := True.intro
                    have h8 : 0 < N 0 i 8 := Nat.pos_of_ne_zero (fun h9 => c_29 (by rw [h9]; exact Int32.le_refl _))
                    refine lv_aload_n hx hb dL_law_389 rfl (lv_at hl 10 rfl) ?_
                    refine va_get (D := D) (ci := 4) (v := .ref (ad 3)) (C := RX4) (T := TX4) (N := 4) hx hb hts inT_X4 hown hK hP 0 rfl rfl 3 (by decide) (hts (.fieldLink RL 34 "PalletStackLaw$Hand" "rules" "[I") (List.mem_of_getElem? (i := 505) (by decide +kernel))) (fun _ h9 => h9) rfl dL_law_390 ?_
                    refine lv_iconst (v := 1) hx hb dL_law_393 (by decide) ?_
                    refine va_iald hx hb hK hP 1 2 rfl rfl (vp_in_nI (n := 1) (N := 4) (by decide) (by decide)) dL_law_394 ?_
                    refine lv_topi (fun v_30 ev_30 => ?_)
                    obtain rfl : v_30 = (nI (N 4 1 2)) := ev_30.trans hru
                    refine lv_if_le (tgt := 411) hx hb dL_law_395 (by decide) (fun c_31 => ?_) (fun c_31 => ?_)
                    · have h_b := True.intro
                      exact a411
                    · have h_b := True.intro
                      refine lv_aload_n hx hb dL_law_398 rfl (lv_at hl 11 rfl) ?_
                      refine lv_iload hx hb dL_law_399 (lv_at hl 5 rfl) ?_
                      refine lv_bipush (v := 8) hx hb dL_law_401 (by decide) ?_
                      refine zrdV2 (As := [.int (nI i), .int 8]) (rest := []) (wc := qG B R N) ⟨hx, hb, hml, hown, hts⟩ (c_item_8 l D _ B R N i (by omega) hF.1) (cwV 2 hts zgV_X3_item rfl rfl rfl (by decide +kernel) ⟨by rw [hRf]; exact Nat.le_of_ble_eq_true rfl, by rw [hRl]; exact Nat.le_of_ble_eq_true rfl⟩) hK (qPr hP) (qDr hD) [0, 1, 2, 3] rfl (ci := 3) (q0 := 0) rfl rfl rfl hl.1 rfl (Nat.le_of_ble_eq_true rfl) dL_law_403 ⟨by omega, by omega⟩ (fun r_32 hr_32 => ?_)
                      refine lv_topi (fun v_33 ev_33 => ?_)
                      obtain rfl : v_33 = (nI (N 0 i 15)) := ev_33.trans hr_32
                      refine lv_if_ne (tgt := 411) hx hb dL_law_406 (by decide) (fun c_34 => ?_) (fun c_34 => absurd c_34 (nI_ne0 (m9 h8) (by omega)))
                      exact a411
                refine lv_if_ne (tgt := 384) hx hb dL_law_370 (by decide) (fun c_35 => ?_) (fun c_35 => ?_)
                · have h_b := True.intro
                  exact a384
                · have h_b := True.intro
                  have h8 : N 0 i 8 = 0 := (qeq (b := 0) (by omega) (by decide)).mp c_35
                  refine lv_aload_n hx hb dL_law_373 rfl (lv_at hl 11 rfl) ?_
                  refine lv_iload hx hb dL_law_374 (lv_at hl 5 rfl) ?_
                  refine lv_bipush (v := 8) hx hb dL_law_376 (by decide) ?_
                  refine zrdV2 (As := [.int (nI i), .int 8]) (rest := []) (wc := qG B R N) ⟨hx, hb, hml, hown, hts⟩ (c_item_8 l D _ B R N i (by omega) hF.1) (cwV 2 hts zgV_X3_item rfl rfl rfl (by decide +kernel) ⟨by rw [hRf]; exact Nat.le_of_ble_eq_true rfl, by rw [hRl]; exact Nat.le_of_ble_eq_true rfl⟩) hK (qPr hP) (qDr hD) [0, 1, 2, 3] rfl (ci := 3) (q0 := 0) rfl rfl rfl hl.1 rfl (Nat.le_of_ble_eq_true rfl) dL_law_378 ⟨by omega, by omega⟩ (fun r_36 hr_36 => ?_)
                  refine lv_topi (fun v_37 ev_37 => ?_)
                  obtain rfl : v_37 = (nI (N 0 i 15)) := ev_37.trans hr_36
                  refine lv_if_ne (tgt := 409) hx hb dL_law_381 (by decide) (fun c_38 => absurd (by rw [m8 h8]; rfl) c_38) (fun c_38 => ?_)
                  exact a384
              refine lv_icmp_le (tgt := 327) hx hb dL_law_319 (by decide) (fun c_39 => ?_) (fun c_39 => ?_)
              · have h_b := True.intro
                exact a327
              · have h_b := True.intro
                have h5 : 1 < V k 5 := Nat.lt_of_not_le (fun h9 => c_39 (nI_le (b := 1) h9 (by decide)))
                refine lv_iload hx hb dL_law_322 (lv_at hl 0 rfl) ?_
                refine lv_if_gt (tgt := 409) hx hb dL_law_324 (by decide) (fun c_40 => absurd c_40 (by rw [m5 h5]; decide)) (fun c_40 => ?_)
                exact a327
            refine lv_if_eq (tgt := 314) hx hb dL_law_302 (by decide) (fun c_41 => ?_) (fun c_41 => ?_)
            · have h_b := True.intro
              exact a314
            · have h_b := True.intro
              have h3 : N 0 i 3 = 1 := by
                    have h9 : ¬ N 0 i 3 = 0 := fun h9 => c_41 (by rw [h9]; rfl)
                    omega
              refine lv_aload hx hb dL_law_305 (lv_at hl 4 rfl) ?_
              refine lv_iconst (v := 5) hx hb dL_law_307 (by decide) ?_
              refine va_iald hx hb hK hP (3 + k) 2 (qLX_k m0) rfl (vp_in_nI (n := 5) (N := 6) (by decide) (by decide)) dL_law_308 ?_
              refine lv_topi (fun v_42 ev_42 => ?_)
              obtain rfl : v_42 = (nI (V k 5)) := ev_42.trans rfl
              refine lv_iconst (v := 2) hx hb dL_law_309 (by decide) ?_
              refine lv_irem hx hb dL_law_310 (by decide) ?_
              refine lv_topi (fun v_43 ev_43 => ?_)
              obtain rfl : v_43 = (nI (V k 5 % 2)) := ev_43.trans (pk_rem (d := 2) (by omega) (by decide) (by decide))
              refine lv_if_eq (tgt := 409) hx hb dL_law_311 (by decide) (fun c_44 => absurd c_44 (by rw [m4 h3]; decide)) (fun c_44 => ?_)
              exact a314
          refine lv_if_eq (tgt := 270) hx hb dL_law_263 (by decide) (fun c_45 => ?_) (fun c_45 => ?_)
          · have h_b := True.intro
            have h3 : N 0 i 3 = 0 := (qeq (b := 0) (by omega) (by decide)).mp c_45
            refine lv_iconst (v := 1) hx hb dL_law_270 (by decide) ?_
            rw [if_neg (by omega)] at a271
            exact a271
          · have h_b := True.intro
            have h3 : N 0 i 3 = 1 := by
                  have h9 : ¬ N 0 i 3 = 0 := fun h9 => c_45 (by rw [h9]; rfl)
                  omega
            refine lv_iconst (v := 0) hx hb dL_law_266 (by decide) ?_
            refine lv_goto (tgt := 271) hx hb dL_law_267 (by decide) ?_
            rw [if_pos h3] at a271
            exact a271
        refine lv_if_eq (tgt := 255) hx hb dL_law_248 (by decide) (fun c_46 => ?_) (fun c_46 => ?_)
        · have h_b := True.intro
          have h3 : N 0 i 3 = 0 := (qeq (b := 0) (by omega) (by decide)).mp c_46
          refine lv_iconst (v := 0) hx hb dL_law_255 (by decide) ?_
          rw [if_neg (by omega)] at a256
          exact a256
        · have h_b := True.intro
          have h3 : N 0 i 3 = 1 := by
                have h9 : ¬ N 0 i 3 = 0 := fun h9 => c_46 (by rw [h9]; rfl)
                omega
          refine lv_iconst (v := 1) hx hb dL_law_251 (by decide) ?_
          refine lv_goto (tgt := 256) hx hb dL_law_252 (by decide) ?_
          rw [if_pos h3] at a256
          exact a256
      refine lv_icmp_ne (tgt := 241) hx hb dL_law_234 (by decide) (fun c_47 => ?_) (fun c_47 => ?_)
      · have h_b := True.intro
        have h3 : N 0 i 3 = 0 := by
              have h9 : ¬ N 0 i 3 = 1 := fun h9 => c_47 (by rw [h9]; rfl)
              omega
        refine lv_iconst (v := 0) hx hb dL_law_241 (by decide) ?_
        rw [h3] at a242
        exact a242
      · have h_b := True.intro
        have h3 : N 0 i 3 = 1 := (qeq (b := 1) (by omega) (by decide)).mp c_47
        refine lv_iconst (v := 1) hx hb dL_law_237 (by decide) ?_
        refine lv_goto (tgt := 242) hx hb dL_law_238 (by decide) ?_
        rw [h3] at a242
        exact a242
  refine loop n 0 (by omega) N hF hn hru hV (fun _ => none) sa sv 0 (qSn_0 sa sv 0 0) (by omega) H locs ls hP hD hS hl
