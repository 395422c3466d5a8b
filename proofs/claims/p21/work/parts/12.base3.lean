section ZW
variable {p : Program} {l : Launch} {e : Env} {R : Room} {s : State} {m : MethodId} {args : Array Value} {below : List Frame} {meth : Method} {c : Code} {H : Heap} {locs : List Loc} {cells slots : Nat} {Q : State → Prop}
variable {pc : Nat} {ls : Array Slot} {rest As : List Value} {A : Nat → Prop} {H0 : Heap} {mc ms n index nL maxL : Nat} {D : zG} {tys tc : List (ClassId × FieldType)} {ws wc wr X cx pl : va_W} {y : MethodName} {bytes cc : ByteArray} {ret : Option FieldType} {wsy Ts : List Cond} {rm : Room} {own C : String} {b n0 : Nat}

theorem zcallvIK {S' : Type} {KK : State → Prop} {post : S' → Prop} {tyf : S' → List (ClassId × FieldType)} {wf : S' → va_W} (S : CallFix p m c cc nL s args Ts own) (hM : Met l y wsy rm (zPcK D tc wc H.size KK (.ref b :: As)) (va_Qv post (zB D (va_A wc H.size) tyf n0 wf) (va_A wc H.size)) mc ms (va_A wc H.size)) (cw : CallB R s args own index y bytes maxL none wsy rm mc ms n ∧ y.name = "<init>" ∧ (Cond.instanceMethod y).before args s = true) (hkb : ∀ (a : Array Value) (U : State) (g : JFrame) (mk : MethodId), KK U → KK (U.calling g mk a)) (hks : ∀ U : State, s.WarmedH U.vm → KK U)
    (hK : va_K D vwCl tys s) (hP : va_P D vwCl ws H) (hD : va_D A ws) (hS : va_S A H0 H locs) (hA : ∀ q, H0.size ≤ q → A q) (isC isR : List Nat) (hC : isC.map (fun i => ws[i]?) = wc.map some) (hn : va_nd isC = true) (hR : isR.map (fun i => ws[i]?) = wr.map some) (hn2 : va_nd isR = true) (hdis : ∀ i ∈ isR, i ∉ isC) (it : List Nat) (hT : it.filterMap (fun i => tys[i]?) = tc)
    (ha : As.length = n) (hsz : ls.size = nL) {st : List Value} (hst : st = As.reverse ++ .ref b :: rest) (hW : (rest.map fun v => v.category).sum ≤ 8) (hdg : decode cc pc = .ok (.invokespecial index, 3)) (hf : cells + mc ≤ R.cells ∧ slots + ms ≤ R.slots)
    (kk : ∀ (u : S') (H1 : Heap) (locs1 : List Loc), post u → n0 ≤ H1.size → H.size ≤ H1.size → va_K D vwCl (tys ++ tyf u) s → va_P D vwCl (wr ++ wf u) H1 → va_D A (wr ++ wf u) → va_S A H0 H1 locs1 → W p l e R s m args below meth c H1 locs1 (cells + mc) (slots + ms) Q (F0 m (pc + 3) ls rest)) : W p l e R s m args below meth c H locs cells slots Q (F0 m pc ls st) := by
  have hF := va_free (wc := wc) hD hS hA isC hC
  refine va_callv (va_runI (As := As) (rest := rest) S hM cw ⟨zPcK_blind hkb, fun U hU hW => by
    obtain ⟨a1, a2⟩ := zPc_in (av := .ref b :: As) hK hP hD isC hC hn it hT hU hW
    exact ⟨a1, a2, hks U hW⟩⟩ rfl ha hsz hst (lv_room hW) hdg hf) hS (fun q _ h => hF q h) hF (fun u t H1 locs1 ht hvm hw hB hz1 hk1 hS1 => ?_)
  obtain ⟨g0, gK, gP, gD⟩ := zjoin hK hP hD hS hA isC isR hC hR hn2 hdis ht hvm hB hk1
  exact kk u H1 locs1 hw g0 hz1 gK gP gD hS1

theorem zcalliSW {S' : Type} {hh : List (Nat × Nat × Nat × Nat)}  {post : Int32 → S' → Prop} {tyf : S' → List (ClassId × FieldType)} {wf : S' → va_W} (S : CallFix p m c cc nL s args Ts own) (hM : Met l y wsy rm (zPc D tc wc H.size As) (va_Qi post (zB D (va_A wc H.size) tyf n0 wf) (va_A wc H.size)) mc ms (va_A wc H.size)) (cw : vx_CSW R s args own index y bytes maxL ret hh wsy rm mc ms n)
    (hK : va_K D vwCl tys s) (hP : va_P D vwCl ws H) (hD : va_D A ws) (hS : va_S A H0 H locs) (hA : ∀ q, H0.size ≤ q → A q) (isC isR : List Nat) (hC : isC.map (fun i => ws[i]?) = wc.map some) (hn : va_nd isC = true) (hR : isR.map (fun i => ws[i]?) = wr.map some) (hn2 : va_nd isR = true) (hdis : ∀ i ∈ isR, i ∉ isC) (it : List Nat) (hT : it.filterMap (fun i => tys[i]?) = tc)
    (ha : As.length = n) (hsz : ls.size = nL) {st : List Value} (hst : st = As.reverse ++ rest) (hW : (rest.map fun v => v.category).sum ≤ 8) (hdg : decode cc pc = .ok (.invokestatic index, 3)) (hf : cells + mc ≤ R.cells ∧ slots + ms ≤ R.slots)
    (kk : ∀ (r : Int32) (u : S') (H1 : Heap) (locs1 : List Loc), post r u → n0 ≤ H1.size → H.size ≤ H1.size → va_K D vwCl (tys ++ tyf u) s → va_P D vwCl (wr ++ wf u) H1 → va_D A (wr ++ wf u) → va_S A H0 H1 locs1 → W p l e R s m args below meth c H1 locs1 (cells + mc) (slots + ms) Q (F0 m (pc + 3) ls (.int r :: rest))) : W p l e R s m args below meth c H locs cells slots Q (F0 m pc ls st) := by
  have hF := va_free (wc := wc) hD hS hA isC hC
  refine va_calli (vx_runSW (As := As) (rest := rest) S hM cw ⟨zPc_blind, fun U hU hW => zPc_in hK hP hD isC hC hn it hT hU hW⟩ rfl ha hsz hst (lv_room hW) hdg hf) hS (fun q _ h => hF q h) hF (fun r u t H1 locs1 ht hvm hw hB hz1 hk1 hS1 => ?_)
  obtain ⟨g0, gK, gP, gD⟩ := zjoin hK hP hD hS hA isC isR hC hR hn2 hdis ht hvm hB hk1
  exact kk r u H1 locs1 hw g0 hz1 gK gP gD hS1

theorem zcalliSWQ {S' : Type} {hh : List (Nat × Nat × Nat × Nat)}  {post : Int32 → S' → Prop} {tyf : S' → List (ClassId × FieldType)} {wf : S' → va_W} (S : CallFix p m c cc nL s args Ts own) (hM : Met l y wsy rm (zPc D tc cx H.size As) (va_Qi post (zB D (va_A cx H.size) tyf n0 wf) (va_A cx H.size)) mc ms (va_A cx H.size)) (cw : vx_CSW R s args own index y bytes maxL ret hh wsy rm mc ms n)
    (hK : va_K D vwCl tys s) (hP : va_P D vwCl (X ++ pl) H) (hD : va_D A (X ++ pl)) (hS : va_S A H0 H locs) (hA : ∀ q, H0.size ≤ q → A q) (isC isR : List Nat) (hC : isC.map (fun i => X[i]?) = cx.map some) (hn : va_nd isC = true) (hR : isR.map (fun i => X[i]?) = wr.map some) (hn2 : va_nd isR = true) (hdis : ∀ i ∈ isR, i ∉ isC) (it : List Nat) (hT : it.filterMap (fun i => tys[i]?) = tc)
    (ha : As.length = n) (hsz : ls.size = nL) {st : List Value} (hst : st = As.reverse ++ rest) (hW : (rest.map fun v => v.category).sum ≤ 8) (hdg : decode cc pc = .ok (.invokestatic index, 3)) (hf : cells + mc ≤ R.cells ∧ slots + ms ≤ R.slots)
    (kk : ∀ (r : Int32) (u : S') (H1 : Heap) (locs1 : List Loc), post r u → n0 ≤ H1.size → H.size ≤ H1.size → va_K D vwCl (tys ++ tyf u) s → va_P D vwCl ((wr ++ wf u) ++ pl) H1 → va_D A ((wr ++ wf u) ++ pl) → va_S A H0 H1 locs1 → W p l e R s m args below meth c H1 locs1 (cells + mc) (slots + ms) Q (F0 m (pc + 3) ls (.int r :: rest))) : W p l e R s m args below meth c H locs cells slots Q (F0 m pc ls st) := by
  have hPx : va_P D vwCl (X ++ []) H := hP.by (fun k => k) (fun k q hk => by
    rw [List.append_nil] at hk
    rw [List.getElem?_append_left (List.getElem?_eq_some_iff.mp hk).1]; exact hk)
  have hDx : va_D A (X ++ []) := hD.by (fun k => k) (fun k q hk => by
    rw [List.append_nil] at hk
    rw [List.getElem?_append_left (List.getElem?_eq_some_iff.mp hk).1]; exact hk) (fun _ _ _ _ h => h)
  rw [List.append_nil] at hPx hDx
  have hF : ∀ q, va_A cx H.size q → A q := va_free (wc := cx) hDx hS hA isC hC
  have hC' : isC.filterMap (fun i => X[i]?) = cx := by
    have : (isC.map (fun i => X[i]?)).filterMap id = (cx.map some).filterMap id := by rw [hC]
    simpa [List.filterMap_map] using this
  have hPc := hPx.sub isC hC'
  have hDc := hDx.sub isC hn hC
  refine va_calli (vx_runSW (As := As) (rest := rest) S hM cw ⟨zPc_blind, fun U hU hW => zPc_in2 hK hPc hDc it hT hU hW⟩ rfl ha hsz hst (lv_room hW) hdg hf) hS (fun q _ h => hF q h) hF (fun r u t H1 locs1 ht hvm hw hB hz1 hk1 hS1 => ?_)
  obtain ⟨g0, hP1, hK1, hD1⟩ := hB
  rw [ht] at g0 hP1
  obtain ⟨a1, a2⟩ := va_joinQ (wr := wr) (w1 := wf u) hP hD isC isR hC hR hn2 hdis hk1 hF hP1 hD1
  exact kk r u H1 locs1 hw g0 hz1 (hK.app (va_K.moved hvm.symm hK1)) a1 a2 hS1

end ZW

theorem zcmp_self (x : Int64) : lg_cmp x x = 0 := by simp [lg_cmp]
/-- the script: a kind of two layers, a greatest height of one, twenty lines of it, and then stack, again and again -/
def zxs (j : Nat) : Int32 := if j < 7 then [0, 1, 1, 2, 1, 0, 1].getD j 0 else if j < 14 then [1, 1, 0, 1, 0, 0, 0].getD (j - 7) 0 else if j < 154 then [12, 0, 1, 0, 0, 0, 0].getD ((j - 14) % 7) 0 else if j % 7 = 0 then 13 else 0
theorem zxs_a (i k : Nat) (hi : i < 20) (hk : k < 7) : zxs (14 + 7 * i + k) = [12, 0, 1, 0, 0, 0, 0].getD k 0 := by
  unfold zxs
  rw [if_neg (by omega), if_neg (by omega), if_pos (by omega), show (14 + 7 * i + k - 14) % 7 = k by omega]
theorem zxs_s (k : Nat) : zxs (154 + 7 * k) = 13 := by
  unfold zxs
  rw [if_neg (by omega), if_neg (by omega), if_neg (by omega), if_pos (by omega)]
