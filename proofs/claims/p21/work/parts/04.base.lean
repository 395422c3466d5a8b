/-! my own rows: worlds passed to a call by places, joined behind it, in one step; lower bounds of the heap's size -/
abbrev zG : Type := (Nat → ClassId) × (Nat → Nat → Nat)
/-- a method's start: its world, and the heap's size -/
def zPc (D : zG) (tys : List (ClassId × FieldType)) (ws : va_W) (sz : Nat) (av : List Value) : Array Value → State → Prop :=
  va_Pc av (fun U => U.heap.size = sz ∧ va_P D vwCl ws U.heap ∧ va_K D vwCl tys U ∧ va_D (fun _ => True) ws)
/-- a method's end: at least n0 cells, its world -/
def zB {S : Type} (D : zG) (A : Nat → Prop) (tys : S → List (ClassId × FieldType)) (n0 : Nat) (wf : S → va_W) : S → State → Prop := fun u t =>
  n0 ≤ t.heap.size ∧ va_P D vwCl (wf u) t.heap ∧ va_K D vwCl (tys u) t ∧ va_D A (wf u)
theorem zPc_blind {D : zG} {tys : List (ClassId × FieldType)} {ws : va_W} {sz : Nat} {av : List Value} : FrameBlind (zPc D tys ws sz av) := fun a U g mk q => by
  obtain ⟨q0, q1, qP, qK, qD⟩ := q
  exact ⟨q0, q1, qP, va_K.moved (u := U) (U := U.calling g mk a) (Vm.Alike.refl U.vm) qK, qD⟩
theorem zPc_in {D : zG} {tys tc : List (ClassId × FieldType)} {ws wc : va_W} {s U : State} {H : Heap} {A : Nat → Prop} {av : List Value} (hK : va_K D vwCl tys s) (hP : va_P D vwCl ws H) (hD : va_D A ws)
    (isC : List Nat) (hC : isC.map (fun i => ws[i]?) = wc.map some) (hn : va_nd isC = true) (it : List Nat) (hT : it.filterMap (fun i => tys[i]?) = tc) (hU : U.heap = H) (hW : s.WarmedH U.vm) : zPc D tc wc H.size av av.toArray U := by
  have hC' : isC.filterMap (fun i => ws[i]?) = wc := by
    have : (isC.map (fun i => ws[i]?)).filterMap id = (wc.map some).filterMap id := by rw [hC]
    simpa [List.filterMap_map] using this
  refine ⟨rfl, by rw [hU], by rw [hU]; exact hP.sub isC hC', (va_K.moved hW.alike hK).sub it hT, (hD.sub isC hn hC).weaken (fun _ _ _ _ => trivial)⟩
theorem va_S.tr {A : Nat → Prop} {H0 H1 H2 : Heap} {l1 l2 : List Loc} (h1 : va_S A H0 H1 l1) (h2 : va_S A H1 H2 l2) : va_S A H0 H2 l2 :=
  ⟨Nat.le_trans h1.1 h2.1, fun q h n => (h2.2.1 q (Nat.lt_of_lt_of_le h h1.1) n).trans (h1.2.1 q h n), h2.2.2⟩
theorem va_S.re {A : Nat → Prop} {H0 H1 : Heap} {l1 : List Loc} (h1 : va_S A H0 H1 l1) : va_S A H1 H1 l1 := ⟨Nat.le_refl _, fun _ _ _ => rfl, h1.2.2⟩
section ZC
variable {p : Program} {l : Launch} {e : Env} {R : Room} {s : State} {m : MethodId} {args : Array Value} {below : List Frame} {meth : Method} {c : Code} {H : Heap} {locs : List Loc} {cells slots : Nat} {Q : State → Prop}
variable {pc : Nat} {ls : Array Slot} {rest As : List Value} {A : Nat → Prop} {H0 : Heap} {mc ms n index nL maxL : Nat} {D : zG} {tys tc : List (ClassId × FieldType)} {ws wc wr : va_W} {y : MethodName} {bytes cc : ByteArray} {ret : Option FieldType} {wsy Ts : List Cond} {rm : Room} {own C : String} {b n0 : Nat}
/-- a static method that only reads, called -/
theorem zrdS {post : Int32 → Prop} (S : CallFix p m c cc nL s args Ts own) (hM : Met l y wsy rm (zPc D tc wc H.size As) (vp_Si post) 0 0 (fun _ => False)) (cw : CallB R s args own index y bytes maxL ret wsy rm 0 0 n ∧ (Cond.static y).before args s = true)
    (hK : va_K D vwCl tys s) (hP : va_P D vwCl ws H) (hD : va_D A ws) (isC : List Nat) (hC : isC.map (fun i => ws[i]?) = wc.map some) (hn : va_nd isC = true) (it : List Nat) (hT : it.filterMap (fun i => tys[i]?) = tc)
    (ha : As.length = n) (hsz : ls.size = nL) {st : List Value} (hst : st = As.reverse ++ rest) (hW : (rest.map fun v => v.category).sum ≤ 8) (hdg : decode cc pc = .ok (.invokestatic index, 3)) (hf : cells ≤ R.cells ∧ slots ≤ R.slots)
    (kk : ∀ r : Int32, post r → W p l e R s m args below meth c H locs cells slots Q (F0 m (pc + 3) ls (.int r :: rest))) : W p l e R s m args below meth c H locs cells slots Q (F0 m pc ls st) :=
  vp_callSi (W.runS (As := As) (rest := rest) S hM cw ⟨zPc_blind, fun U hU hW => zPc_in hK hP hD isC hC hn it hT hU hW⟩ rfl ha hsz hst (lv_room hW) hdg hf) kk
theorem zrdV {post : Int32 → Prop} (S : CallFix p m c cc nL s args Ts own) (hM : Met l y wsy rm (zPc D tc wc H.size (.ref b :: As)) (vp_Si post) 0 0 (fun _ => False)) (cw : CallW R s args own C index y bytes maxL ret wsy rm 0 0 n)
    (hK : va_K D vwCl tys s) (hP : va_P D vwCl ws H) (hD : va_D A ws) (isC : List Nat) (hC : isC.map (fun i => ws[i]?) = wc.map some) (hn : va_nd isC = true) (it : List Nat) (hT : it.filterMap (fun i => tys[i]?) = tc)
    {ci q0 : Nat} {T : u_T} {N : Nat} {fs : List Value} (hc : vwCl[ci]? = some (C, T, N)) (he : ws[q0]? = some (b, .inr (ci, fs)))
    (ha : As.length = n) (hsz : ls.size = nL) {st : List Value} (hst : st = As.reverse ++ .ref b :: rest) (hW : (rest.map fun v => v.category).sum ≤ 8) (hdg : decode cc pc = .ok (.invokevirtual index, 3)) (hf : cells ≤ R.cells ∧ slots ≤ R.slots)
    (kk : ∀ r : Int32, post r → W p l e R s m args below meth c H locs cells slots Q (F0 m (pc + 3) ls (.int r :: rest))) : W p l e R s m args below meth c H locs cells slots Q (F0 m pc ls st) :=
  vp_callSi (W.runV (As := As) (rest := rest) S hM cw ⟨zPc_blind, va_recv hK hP hc he, fun U hU hW => zPc_in hK hP hD isC hC hn it hT hU hW⟩ rfl ha hsz hst (lv_room hW) hdg hf) kk
/-- a method that only reads and answers a reference or null -/
theorem zrdVq {post : Option Nat → Prop} (S : CallFix p m c cc nL s args Ts own) (hM : Met l y wsy rm (zPc D tc wc H.size (.ref b :: As)) (va_Sq post) 0 0 (fun _ => False)) (cw : CallW R s args own C index y bytes maxL ret wsy rm 0 0 n)
    (hK : va_K D vwCl tys s) (hP : va_P D vwCl ws H) (hD : va_D A ws) (isC : List Nat) (hC : isC.map (fun i => ws[i]?) = wc.map some) (hn : va_nd isC = true) (it : List Nat) (hT : it.filterMap (fun i => tys[i]?) = tc)
    {ci q0 : Nat} {T : u_T} {N : Nat} {fs : List Value} (hc : vwCl[ci]? = some (C, T, N)) (he : ws[q0]? = some (b, .inr (ci, fs)))
    (ha : As.length = n) (hsz : ls.size = nL) {st : List Value} (hst : st = As.reverse ++ .ref b :: rest) (hW : (rest.map fun v => v.category).sum ≤ 8) (hdg : decode cc pc = .ok (.invokevirtual index, 3)) (hf : cells ≤ R.cells ∧ slots ≤ R.slots)
    (kk : ∀ r : Option Nat, post r → W p l e R s m args below meth c H locs cells slots Q (F0 m (pc + 3) ls (va_rf r :: rest))) : W p l e R s m args below meth c H locs cells slots Q (F0 m pc ls st) :=
  va_csq (W.runV (As := As) (rest := rest) S hM cw ⟨zPc_blind, va_recv hK hP hc he, fun U hU hW => zPc_in hK hP hD isC hC hn it hT hU hW⟩ rfl ha hsz hst (lv_room hW) hdg hf) kk
/-- what stands behind a call that may write: the world of the caller, joined -/
theorem zjoin {S' : Type} {u : S'} {t : State} {H1 : Heap} {tyf : S' → List (ClassId × FieldType)} {wf : S' → va_W} (hK : va_K D vwCl tys s) (hP : va_P D vwCl ws H) (hD : va_D A ws) (hS : va_S A H0 H locs) (hA : ∀ q, H0.size ≤ q → A q)
    (isC isR : List Nat) (hC : isC.map (fun i => ws[i]?) = wc.map some) (hR : isR.map (fun i => ws[i]?) = wr.map some) (hn2 : va_nd isR = true) (hdis : ∀ i ∈ isR, i ∉ isC)
    (ht : t.heap = H1) (hvm : s.vm.Alike t.vm) (hB : zB D (va_A wc H.size) tyf n0 wf u t) (hk1 : ∀ q : Nat, q < H.size → ¬ va_A wc H.size q → H1[q]? = H[q]?) :
    n0 ≤ H1.size ∧ va_K D vwCl (tys ++ tyf u) s ∧ va_P D vwCl (wr ++ wf u) H1 ∧ va_D A (wr ++ wf u) := by
  obtain ⟨g0, hP1, hK1, hD1⟩ := hB
  rw [ht] at g0 hP1
  have hF := va_free (wc := wc) hD hS hA isC hC
  obtain ⟨a1, a2⟩ := va_join (wr := wr) (w1 := wf u) hP hD isC isR hC hR hn2 hdis hk1 hF hP1 hD1
  exact ⟨g0, hK.app (va_K.moved hvm.symm hK1), a1, a2⟩
theorem zcalliV {S' : Type} {post : Int32 → S' → Prop} {tyf : S' → List (ClassId × FieldType)} {wf : S' → va_W} (S : CallFix p m c cc nL s args Ts own) (hM : Met l y wsy rm (zPc D tc wc H.size (.ref b :: As)) (va_Qi post (zB D (va_A wc H.size) tyf n0 wf) (va_A wc H.size)) mc ms (va_A wc H.size)) (cw : CallW R s args own C index y bytes maxL ret wsy rm mc ms n)
    (hK : va_K D vwCl tys s) (hP : va_P D vwCl ws H) (hD : va_D A ws) (hS : va_S A H0 H locs) (hA : ∀ q, H0.size ≤ q → A q) (isC isR : List Nat) (hC : isC.map (fun i => ws[i]?) = wc.map some) (hn : va_nd isC = true) (hR : isR.map (fun i => ws[i]?) = wr.map some) (hn2 : va_nd isR = true) (hdis : ∀ i ∈ isR, i ∉ isC) (it : List Nat) (hT : it.filterMap (fun i => tys[i]?) = tc)
    {ci q0 : Nat} {T : u_T} {N : Nat} {fs : List Value} (hc : vwCl[ci]? = some (C, T, N)) (he : ws[q0]? = some (b, .inr (ci, fs)))
    (ha : As.length = n) (hsz : ls.size = nL) {st : List Value} (hst : st = As.reverse ++ .ref b :: rest) (hW : (rest.map fun v => v.category).sum ≤ 8) (hdg : decode cc pc = .ok (.invokevirtual index, 3)) (hf : cells + mc ≤ R.cells ∧ slots + ms ≤ R.slots)
    (kk : ∀ (r : Int32) (u : S') (H1 : Heap) (locs1 : List Loc), post r u → n0 ≤ H1.size → H.size ≤ H1.size → va_K D vwCl (tys ++ tyf u) s → va_P D vwCl (wr ++ wf u) H1 → va_D A (wr ++ wf u) → va_S A H0 H1 locs1 → W p l e R s m args below meth c H1 locs1 (cells + mc) (slots + ms) Q (F0 m (pc + 3) ls (.int r :: rest))) : W p l e R s m args below meth c H locs cells slots Q (F0 m pc ls st) := by
  have hF := va_free (wc := wc) hD hS hA isC hC
  refine va_calli (va_runV (As := As) (rest := rest) S hM cw ⟨zPc_blind, va_recv hK hP hc he, fun U hU hW => zPc_in hK hP hD isC hC hn it hT hU hW⟩ rfl ha hsz hst (lv_room hW) hdg hf) hS (fun q _ h => hF q h) hF (fun r u t H1 locs1 ht hvm hw hB hz1 hk1 hS1 => ?_)
  obtain ⟨g0, gK, gP, gD⟩ := zjoin hK hP hD hS hA isC isR hC hR hn2 hdis ht hvm hB hk1
  exact kk r u H1 locs1 hw g0 hz1 gK gP gD hS1
theorem zcallvV {S' : Type} {post : S' → Prop} {tyf : S' → List (ClassId × FieldType)} {wf : S' → va_W} (S : CallFix p m c cc nL s args Ts own) (hM : Met l y wsy rm (zPc D tc wc H.size (.ref b :: As)) (va_Qv post (zB D (va_A wc H.size) tyf n0 wf) (va_A wc H.size)) mc ms (va_A wc H.size)) (cw : CallW R s args own C index y bytes maxL ret wsy rm mc ms n)
    (hK : va_K D vwCl tys s) (hP : va_P D vwCl ws H) (hD : va_D A ws) (hS : va_S A H0 H locs) (hA : ∀ q, H0.size ≤ q → A q) (isC isR : List Nat) (hC : isC.map (fun i => ws[i]?) = wc.map some) (hn : va_nd isC = true) (hR : isR.map (fun i => ws[i]?) = wr.map some) (hn2 : va_nd isR = true) (hdis : ∀ i ∈ isR, i ∉ isC) (it : List Nat) (hT : it.filterMap (fun i => tys[i]?) = tc)
    {ci q0 : Nat} {T : u_T} {N : Nat} {fs : List Value} (hc : vwCl[ci]? = some (C, T, N)) (he : ws[q0]? = some (b, .inr (ci, fs)))
    (ha : As.length = n) (hsz : ls.size = nL) {st : List Value} (hst : st = As.reverse ++ .ref b :: rest) (hW : (rest.map fun v => v.category).sum ≤ 8) (hdg : decode cc pc = .ok (.invokevirtual index, 3)) (hf : cells + mc ≤ R.cells ∧ slots + ms ≤ R.slots)
    (kk : ∀ (u : S') (H1 : Heap) (locs1 : List Loc), post u → n0 ≤ H1.size → H.size ≤ H1.size → va_K D vwCl (tys ++ tyf u) s → va_P D vwCl (wr ++ wf u) H1 → va_D A (wr ++ wf u) → va_S A H0 H1 locs1 → W p l e R s m args below meth c H1 locs1 (cells + mc) (slots + ms) Q (F0 m (pc + 3) ls rest)) : W p l e R s m args below meth c H locs cells slots Q (F0 m pc ls st) := by
  have hF := va_free (wc := wc) hD hS hA isC hC
  refine va_callv (va_runV (As := As) (rest := rest) S hM cw ⟨zPc_blind, va_recv hK hP hc he, fun U hU hW => zPc_in hK hP hD isC hC hn it hT hU hW⟩ rfl ha hsz hst (lv_room hW) hdg hf) hS (fun q _ h => hF q h) hF (fun u t H1 locs1 ht hvm hw hB hz1 hk1 hS1 => ?_)
  obtain ⟨g0, gK, gP, gD⟩ := zjoin hK hP hD hS hA isC isR hC hR hn2 hdis ht hvm hB hk1
  exact kk u H1 locs1 hw g0 hz1 gK gP gD hS1
/-- a constructor, called by invokespecial -/
theorem zcallvI {S' : Type} {post : S' → Prop} {tyf : S' → List (ClassId × FieldType)} {wf : S' → va_W} (S : CallFix p m c cc nL s args Ts own) (hM : Met l y wsy rm (zPc D tc wc H.size (.ref b :: As)) (va_Qv post (zB D (va_A wc H.size) tyf n0 wf) (va_A wc H.size)) mc ms (va_A wc H.size)) (cw : CallB R s args own index y bytes maxL none wsy rm mc ms n ∧ y.name = "<init>" ∧ (Cond.instanceMethod y).before args s = true)
    (hK : va_K D vwCl tys s) (hP : va_P D vwCl ws H) (hD : va_D A ws) (hS : va_S A H0 H locs) (hA : ∀ q, H0.size ≤ q → A q) (isC isR : List Nat) (hC : isC.map (fun i => ws[i]?) = wc.map some) (hn : va_nd isC = true) (hR : isR.map (fun i => ws[i]?) = wr.map some) (hn2 : va_nd isR = true) (hdis : ∀ i ∈ isR, i ∉ isC) (it : List Nat) (hT : it.filterMap (fun i => tys[i]?) = tc)
    (ha : As.length = n) (hsz : ls.size = nL) {st : List Value} (hst : st = As.reverse ++ .ref b :: rest) (hW : (rest.map fun v => v.category).sum ≤ 8) (hdg : decode cc pc = .ok (.invokespecial index, 3)) (hf : cells + mc ≤ R.cells ∧ slots + ms ≤ R.slots)
    (kk : ∀ (u : S') (H1 : Heap) (locs1 : List Loc), post u → n0 ≤ H1.size → H.size ≤ H1.size → va_K D vwCl (tys ++ tyf u) s → va_P D vwCl (wr ++ wf u) H1 → va_D A (wr ++ wf u) → va_S A H0 H1 locs1 → W p l e R s m args below meth c H1 locs1 (cells + mc) (slots + ms) Q (F0 m (pc + 3) ls rest)) : W p l e R s m args below meth c H locs cells slots Q (F0 m pc ls st) := by
  have hF := va_free (wc := wc) hD hS hA isC hC
  refine va_callv (va_runI (As := As) (rest := rest) S hM cw ⟨zPc_blind, fun U hU hW => zPc_in hK hP hD isC hC hn it hT hU hW⟩ rfl ha hsz hst (lv_room hW) hdg hf) hS (fun q _ h => hF q h) hF (fun u t H1 locs1 ht hvm hw hB hz1 hk1 hS1 => ?_)
  obtain ⟨g0, gK, gP, gD⟩ := zjoin hK hP hD hS hA isC isR hC hR hn2 hdis ht hvm hB hk1
  exact kk u H1 locs1 hw g0 hz1 gK gP gD hS1
/-- a nest mate's private constructor -/
theorem zcallvIN {S' : Type} {post : S' → Prop} {tyf : S' → List (ClassId × FieldType)} {wf : S' → va_W} {host : String} (S : CallFix p m c cc nL s args Ts own) (hM : Met l y wsy rm (zPc D tc wc H.size (.ref b :: As)) (va_Qv post (zB D (va_A wc H.size) tyf n0 wf) (va_A wc H.size)) mc ms (va_A wc H.size)) (cw : va_CN R s args own index y host bytes maxL none wsy rm mc ms n ∧ y.name = "<init>" ∧ (Cond.instanceMethod y).before args s = true)
    (hK : va_K D vwCl tys s) (hP : va_P D vwCl ws H) (hD : va_D A ws) (hS : va_S A H0 H locs) (hA : ∀ q, H0.size ≤ q → A q) (isC isR : List Nat) (hC : isC.map (fun i => ws[i]?) = wc.map some) (hn : va_nd isC = true) (hR : isR.map (fun i => ws[i]?) = wr.map some) (hn2 : va_nd isR = true) (hdis : ∀ i ∈ isR, i ∉ isC) (it : List Nat) (hT : it.filterMap (fun i => tys[i]?) = tc)
    (ha : As.length = n) (hsz : ls.size = nL) {st : List Value} (hst : st = As.reverse ++ .ref b :: rest) (hW : (rest.map fun v => v.category).sum ≤ 8) (hdg : decode cc pc = .ok (.invokespecial index, 3)) (hf : cells + mc ≤ R.cells ∧ slots + ms ≤ R.slots)
    (kk : ∀ (u : S') (H1 : Heap) (locs1 : List Loc), post u → n0 ≤ H1.size → H.size ≤ H1.size → va_K D vwCl (tys ++ tyf u) s → va_P D vwCl (wr ++ wf u) H1 → va_D A (wr ++ wf u) → va_S A H0 H1 locs1 → W p l e R s m args below meth c H1 locs1 (cells + mc) (slots + ms) Q (F0 m (pc + 3) ls rest)) : W p l e R s m args below meth c H locs cells slots Q (F0 m pc ls st) := by
  have hF := va_free (wc := wc) hD hS hA isC hC
  refine va_callv (va_runIN (As := As) (rest := rest) S hM cw ⟨zPc_blind, fun U hU hW => zPc_in hK hP hD isC hC hn it hT hU hW⟩ rfl ha hsz hst (lv_room hW) hdg hf) hS (fun q _ h => hF q h) hF (fun u t H1 locs1 ht hvm hw hB hz1 hk1 hS1 => ?_)
  obtain ⟨g0, gK, gP, gD⟩ := zjoin hK hP hD hS hA isC isR hC hR hn2 hdis ht hvm hB hk1
  exact kk u H1 locs1 hw g0 hz1 gK gP gD hS1
/-- a new array, and that the heap is longer by one cell -/
theorem znewa (hexec : p.tables.exec = Jvm.exec) (hb : c.code = cc) {atype : ArrayType} (harr : (Cond.arrayClass (newarray.typeOf atype)).before args s = true) {ty : FieldType} (hty : newarray.typeOf atype = ty) (hK : va_K D vwCl tys s) (hP : va_P D vwCl ws H) (hD : va_D A ws) (hS : va_S A H0 H locs) (hA : ∀ q, H0.size ≤ q → A q)
    {k : Int32} {N' : Nat} {a0 : vp_A} (ha : ∀ cA : ClassId, vp_cell cA a0 = arrV cA N' (fun _ => defaultValue ty)) (hn : ¬ k < 0) (hN : k.toNatClampNeg = N') (hbytes : N' * componentBytes ty ≤ 536870912) (hcells : cells + 1 ≤ R.cells) (hslots : slots + N' ≤ R.slots) (hdg : decode cc pc = .ok (.newarray atype, 2))
    (kk : ∀ (q : Nat) (cA : ClassId) (H1 : Heap), H1.size = H.size + 1 → va_K D vwCl (tys ++ [(cA, ty)]) s → va_P D vwCl (ws ++ [(q, .inl (cA, a0))]) H1 → va_D A (ws ++ [(q, .inl (cA, a0))]) → va_S A H0 H1 locs →
      W p l e R s m args below meth c H1 locs (cells + 1) (slots + N') Q (F0 m (pc + 2) ls (.ref q :: rest))) : W p l e R s m args below meth c H locs cells slots Q (F0 m pc ls (.int k :: rest)) := by
  subst hty
  refine va_newaK hexec hb harr rfl hdg rfl hn hN hbytes hcells hslots rfl fun H1 cA e1 z1 o1 hAr hNm => ?_
  have hk : ∀ (k : Nat) (x : Nat × va_E), ws[k]? = some x → H1[x.1]? = H[x.1]? := fun k x hx => o1 x.1 ((hP k x hx).lt)
  refine kk H.size cA H1 z1 ⟨hK.1, fun k x hx => ?_⟩ ((hP.kept hk).app (fun k x hx => ?_)) (hD.push hP rfl (hA _ hS.1)) ⟨Nat.le_trans hS.1 (by omega), fun x h1 h2 => (o1 x (Nat.lt_of_lt_of_le h1 hS.1)).trans (hS.2.1 x h1 h2), hS.2.2⟩
  · by_cases hl : k < tys.length
    · rw [List.getElem?_append_left hl] at hx
      exact hK.2 k x hx
    · rw [List.getElem?_append_right (by omega)] at hx
      have hz : k - tys.length < 1 := (List.getElem?_eq_some_iff.mp hx).1
      rw [show k - tys.length = 0 by omega] at hx
      cases hx
      exact ⟨hAr, by cases atype <;> exact hNm⟩
  · have hz : k < 1 := (List.getElem?_eq_some_iff.mp hx).1
    rw [show k = 0 by omega] at hx
    cases hx
    show H1[H.size]? = some (vp_cell _ _)
    rw [ha]
    exact e1
end ZC
/-- a method's start with premises of the tables beside -/
def zPcK (D : zG) (tys : List (ClassId × FieldType)) (ws : va_W) (sz : Nat) (K : State → Prop) (av : List Value) : Array Value → State → Prop :=
  va_Pc av (fun U => (U.heap.size = sz ∧ va_P D vwCl ws U.heap ∧ va_K D vwCl tys U ∧ va_D (fun _ => True) ws) ∧ K U)
theorem zPcK_blind {D : zG} {tys : List (ClassId × FieldType)} {ws : va_W} {sz : Nat} {K : State → Prop} {av : List Value} (hk : ∀ (a : Array Value) (U : State) (g : JFrame) (mk : MethodId), K U → K (U.calling g mk a)) : FrameBlind (zPcK D tys ws sz K av) := fun a U g mk q => by
  obtain ⟨q0, ⟨q1, qP, qK, qD⟩, q2⟩ := q
  exact ⟨q0, ⟨q1, qP, va_K.moved (u := U) (U := U.calling g mk a) (Vm.Alike.refl U.vm) qK, qD⟩, hk a U g mk q2⟩
section ZQ
variable {p : Program} {l : Launch} {e : Env} {R : Room} {s : State} {m : MethodId} {args : Array Value} {below : List Frame} {meth : Method} {c : Code} {H : Heap} {locs : List Loc} {cells slots : Nat} {Q : State → Prop}
variable {pc : Nat} {ls : Array Slot} {rest As : List Value} {A : Nat → Prop} {H0 : Heap} {mc ms n index nL maxL : Nat} {D : zG} {tys tc : List (ClassId × FieldType)} {ws wc wr X cx pl : va_W} {y : MethodName} {bytes cc : ByteArray} {ret : Option FieldType} {wsy Ts : List Cond} {rm : Room} {own C : String} {b n0 : Nat}
/-- a nest mate's private constructor -/
theorem zcallvINK {S' : Type} {post : S' → Prop} {tyf : S' → List (ClassId × FieldType)} {wf : S' → va_W} {host : String} {KK : State → Prop} (S : CallFix p m c cc nL s args Ts own) (hM : Met l y wsy rm (zPcK D tc wc H.size KK (.ref b :: As)) (va_Qv post (zB D (va_A wc H.size) tyf n0 wf) (va_A wc H.size)) mc ms (va_A wc H.size)) (cw : va_CN R s args own index y host bytes maxL none wsy rm mc ms n ∧ y.name = "<init>" ∧ (Cond.instanceMethod y).before args s = true) (hkb : ∀ (a : Array Value) (U : State) (g : JFrame) (mk : MethodId), KK U → KK (U.calling g mk a)) (hks : ∀ U : State, s.WarmedH U.vm → KK U)
    (hK : va_K D vwCl tys s) (hP : va_P D vwCl ws H) (hD : va_D A ws) (hS : va_S A H0 H locs) (hA : ∀ q, H0.size ≤ q → A q) (isC isR : List Nat) (hC : isC.map (fun i => ws[i]?) = wc.map some) (hn : va_nd isC = true) (hR : isR.map (fun i => ws[i]?) = wr.map some) (hn2 : va_nd isR = true) (hdis : ∀ i ∈ isR, i ∉ isC) (it : List Nat) (hT : it.filterMap (fun i => tys[i]?) = tc)
    (ha : As.length = n) (hsz : ls.size = nL) {st : List Value} (hst : st = As.reverse ++ .ref b :: rest) (hW : (rest.map fun v => v.category).sum ≤ 8) (hdg : decode cc pc = .ok (.invokespecial index, 3)) (hf : cells + mc ≤ R.cells ∧ slots + ms ≤ R.slots)
    (kk : ∀ (u : S') (H1 : Heap) (locs1 : List Loc), post u → n0 ≤ H1.size → H.size ≤ H1.size → va_K D vwCl (tys ++ tyf u) s → va_P D vwCl (wr ++ wf u) H1 → va_D A (wr ++ wf u) → va_S A H0 H1 locs1 → W p l e R s m args below meth c H1 locs1 (cells + mc) (slots + ms) Q (F0 m (pc + 3) ls rest)) : W p l e R s m args below meth c H locs cells slots Q (F0 m pc ls st) := by
  have hF := va_free (wc := wc) hD hS hA isC hC
  refine va_callv (va_runIN (As := As) (rest := rest) S hM cw ⟨zPcK_blind hkb, fun U hU hW => by
    obtain ⟨a1, a2⟩ := zPc_in (av := .ref b :: As) hK hP hD isC hC hn it hT hU hW
    exact ⟨a1, a2, hks U hW⟩⟩ rfl ha hsz hst (lv_room hW) hdg hf) hS (fun q _ h => hF q h) hF (fun u t H1 locs1 ht hvm hw hB hz1 hk1 hS1 => ?_)
  obtain ⟨g0, gK, gP, gD⟩ := zjoin hK hP hD hS hA isC isR hC hR hn2 hdis ht hvm hB hk1
  exact kk u H1 locs1 hw g0 hz1 gK gP gD hS1
theorem zPc_in2 {U : State} {av : List Value} (hK : va_K D vwCl tys s) (hPc : va_P D vwCl wc H) (hDc : va_D A wc) (it : List Nat) (hT : it.filterMap (fun i => tys[i]?) = tc) (hU : U.heap = H) (hW : s.WarmedH U.vm) : zPc D tc wc H.size av av.toArray U :=
  ⟨rfl, by rw [hU], by rw [hU]; exact hPc, (va_K.moved hW.alike hK).sub it hT, hDc.weaken (fun _ _ _ _ => trivial)⟩
/-- a read-only call, its world handed over -/
theorem zrdV2 {post : Int32 → Prop} (S : CallFix p m c cc nL s args Ts own) (hM : Met l y wsy rm (zPc D tc wc H.size (.ref b :: As)) (vp_Si post) 0 0 (fun _ => False)) (cw : CallW R s args own C index y bytes maxL ret wsy rm 0 0 n)
    (hK : va_K D vwCl tys s) (hPc : va_P D vwCl wc H) (hDc : va_D A wc) (it : List Nat) (hT : it.filterMap (fun i => tys[i]?) = tc)
    {ci q0 : Nat} {T : u_T} {N : Nat} {fs : List Value} (hc : vwCl[ci]? = some (C, T, N)) (he : wc[q0]? = some (b, .inr (ci, fs)))
    (ha : As.length = n) (hsz : ls.size = nL) {st : List Value} (hst : st = As.reverse ++ .ref b :: rest) (hW : (rest.map fun v => v.category).sum ≤ 8) (hdg : decode cc pc = .ok (.invokevirtual index, 3)) (hf : cells ≤ R.cells ∧ slots ≤ R.slots)
    (kk : ∀ r : Int32, post r → W p l e R s m args below meth c H locs cells slots Q (F0 m (pc + 3) ls (.int r :: rest))) : W p l e R s m args below meth c H locs cells slots Q (F0 m pc ls st) :=
  vp_callSi (W.runV (As := As) (rest := rest) S hM cw ⟨zPc_blind, va_recv hK hPc hc he, fun U hU hW => zPc_in2 hK hPc hDc it hT hU hW⟩ rfl ha hsz hst (lv_room hW) hdg hf) kk
theorem zrdVq2 {post : Option Nat → Prop} (S : CallFix p m c cc nL s args Ts own) (hM : Met l y wsy rm (zPc D tc wc H.size (.ref b :: As)) (va_Sq post) 0 0 (fun _ => False)) (cw : CallW R s args own C index y bytes maxL ret wsy rm 0 0 n)
    (hK : va_K D vwCl tys s) (hPc : va_P D vwCl wc H) (hDc : va_D A wc) (it : List Nat) (hT : it.filterMap (fun i => tys[i]?) = tc)
    {ci q0 : Nat} {T : u_T} {N : Nat} {fs : List Value} (hc : vwCl[ci]? = some (C, T, N)) (he : wc[q0]? = some (b, .inr (ci, fs)))
    (ha : As.length = n) (hsz : ls.size = nL) {st : List Value} (hst : st = As.reverse ++ .ref b :: rest) (hW : (rest.map fun v => v.category).sum ≤ 8) (hdg : decode cc pc = .ok (.invokevirtual index, 3)) (hf : cells ≤ R.cells ∧ slots ≤ R.slots)
    (kk : ∀ r : Option Nat, post r → W p l e R s m args below meth c H locs cells slots Q (F0 m (pc + 3) ls (va_rf r :: rest))) : W p l e R s m args below meth c H locs cells slots Q (F0 m pc ls st) :=
  va_csq (W.runV (As := As) (rest := rest) S hM cw ⟨zPc_blind, va_recv hK hPc hc he, fun U hU hW => zPc_in2 hK hPc hDc it hT hU hW⟩ rfl ha hsz hst (lv_room hW) hdg hf) kk
/-- a writing call over some explicit cells; a pool stays beside -/
theorem zcalliVQ {S' : Type} {post : Int32 → S' → Prop} {tyf : S' → List (ClassId × FieldType)} {wf : S' → va_W} (S : CallFix p m c cc nL s args Ts own) (hM : Met l y wsy rm (zPc D tc cx H.size (.ref b :: As)) (va_Qi post (zB D (va_A cx H.size) tyf n0 wf) (va_A cx H.size)) mc ms (va_A cx H.size)) (cw : CallW R s args own C index y bytes maxL ret wsy rm mc ms n)
    (hK : va_K D vwCl tys s) (hP : va_P D vwCl (X ++ pl) H) (hD : va_D A (X ++ pl)) (hS : va_S A H0 H locs) (hA : ∀ q, H0.size ≤ q → A q) (isC isR : List Nat) (hC : isC.map (fun i => X[i]?) = cx.map some) (hn : va_nd isC = true) (hR : isR.map (fun i => X[i]?) = wr.map some) (hn2 : va_nd isR = true) (hdis : ∀ i ∈ isR, i ∉ isC) (it : List Nat) (hT : it.filterMap (fun i => tys[i]?) = tc)
    {ci q0 : Nat} {T : u_T} {N : Nat} {fs : List Value} (hc : vwCl[ci]? = some (C, T, N)) (he : cx[q0]? = some (b, .inr (ci, fs)))
    (ha : As.length = n) (hsz : ls.size = nL) {st : List Value} (hst : st = As.reverse ++ .ref b :: rest) (hW : (rest.map fun v => v.category).sum ≤ 8) (hdg : decode cc pc = .ok (.invokevirtual index, 3)) (hf : cells + mc ≤ R.cells ∧ slots + ms ≤ R.slots)
    (kk : ∀ (r : Int32) (u : S') (H1 : Heap) (locs1 : List Loc), post r u → n0 ≤ H1.size → H.size ≤ H1.size → va_K D vwCl (tys ++ tyf u) s → va_P D vwCl ((wr ++ wf u) ++ pl) H1 → va_D A ((wr ++ wf u) ++ pl) → va_S A H0 H1 locs1 → W p l e R s m args below meth c H1 locs1 (cells + mc) (slots + ms) Q (F0 m (pc + 3) ls (.int r :: rest))) : W p l e R s m args below meth c H locs cells slots Q (F0 m pc ls st) := by
  have hPx : va_P D vwCl (X ++ []) H := hP.by (fun k => k) (fun k q hk => by
    rw [List.append_nil] at hk
    rw [List.getElem?_append_left (List.getElem?_eq_some_iff.mp hk).1]; exact hk)
  have hDx : va_D A (X ++ []) := hD.by (fun k => k) (fun k q hk => by
    rw [List.append_nil] at hk
    rw [List.getElem?_append_left (List.getElem?_eq_some_iff.mp hk).1]; exact hk) (fun _ _ _ _ h => h)
  rw [List.append_nil] at hPx hDx
  have hF : ∀ q, va_A cx H.size q → A q := va_free (wc := cx) hDx hS hA isC hC
  have hC' : isC.filterMap (fun i => X[i]?) = cx := by
    have : (isC.map (fun i => X[i]?)).filterMap id = (cx.map some).filterMap id := by rw [hC]
    simpa [List.filterMap_map] using this
  have hPc := hPx.sub isC hC'
  have hDc := hDx.sub isC hn hC
  refine va_calli (va_runV (As := As) (rest := rest) S hM cw ⟨zPc_blind, va_recv hK hPc hc he, fun U hU hW => zPc_in2 hK hPc hDc it hT hU hW⟩ rfl ha hsz hst (lv_room hW) hdg hf) hS (fun q _ h => hF q h) hF (fun r u t H1 locs1 ht hvm hw hB hz1 hk1 hS1 => ?_)
  obtain ⟨g0, hP1, hK1, hD1⟩ := hB
  rw [ht] at g0 hP1
  obtain ⟨a1, a2⟩ := va_joinQ (wr := wr) (w1 := wf u) hP hD isC isR hC hR hn2 hdis hk1 hF hP1 hD1
  exact kk r u H1 locs1 hw g0 hz1 (hK.app (va_K.moved hvm.symm hK1)) a1 a2 hS1
/-- a writing call that takes the pool too -/
theorem zcalliVP {S' : Type} {post : Int32 → S' → Prop} {tyf : S' → List (ClassId × FieldType)} {wf plf : S' → va_W} (S : CallFix p m c cc nL s args Ts own) (hM : Met l y wsy rm (zPc D tc (cx ++ pl) H.size (.ref b :: As)) (va_Qi post (zB D (va_A (cx ++ pl) H.size) tyf n0 (fun u => wf u ++ plf u)) (va_A (cx ++ pl) H.size)) mc ms (va_A (cx ++ pl) H.size)) (cw : CallW R s args own C index y bytes maxL ret wsy rm mc ms n)
    (hK : va_K D vwCl tys s) (hP : va_P D vwCl (X ++ pl) H) (hD : va_D A (X ++ pl)) (hS : va_S A H0 H locs) (hA : ∀ q, H0.size ≤ q → A q) (isC isR : List Nat) (hC : isC.map (fun i => X[i]?) = cx.map some) (hn : va_nd isC = true) (hR : isR.map (fun i => X[i]?) = wr.map some) (hn2 : va_nd isR = true) (hdis : ∀ i ∈ isR, i ∉ isC) (it : List Nat) (hT : it.filterMap (fun i => tys[i]?) = tc)
    {ci q0 : Nat} {T : u_T} {N : Nat} {fs : List Value} (hc : vwCl[ci]? = some (C, T, N)) (he : cx[q0]? = some (b, .inr (ci, fs)))
    (ha : As.length = n) (hsz : ls.size = nL) {st : List Value} (hst : st = As.reverse ++ .ref b :: rest) (hW : (rest.map fun v => v.category).sum ≤ 8) (hdg : decode cc pc = .ok (.invokevirtual index, 3)) (hf : cells + mc ≤ R.cells ∧ slots + ms ≤ R.slots)
    (kk : ∀ (r : Int32) (u : S') (H1 : Heap) (locs1 : List Loc), post r u → n0 ≤ H1.size → H.size ≤ H1.size → va_K D vwCl (tys ++ tyf u) s → va_P D vwCl ((wr ++ wf u) ++ plf u) H1 → va_D A ((wr ++ wf u) ++ plf u) → va_S A H0 H1 locs1 → W p l e R s m args below meth c H1 locs1 (cells + mc) (slots + ms) Q (F0 m (pc + 3) ls (.int r :: rest))) : W p l e R s m args below meth c H locs cells slots Q (F0 m pc ls st) := by
  have hF : ∀ q, va_A (cx ++ pl) H.size q → A q := va_freeP hD hS hA isC hC
  have hPc := hP.part isC hC
  have hDc := hD.part isC hn hC
  refine va_calli (va_runV (As := As) (rest := rest) S hM cw ⟨zPc_blind, va_recv hK hPc hc (q0 := q0) (by rw [List.getElem?_append_left (List.getElem?_eq_some_iff.mp he).1]; exact he), fun U hU hW => zPc_in2 hK hPc hDc it hT hU hW⟩ rfl ha hsz hst (lv_room hW) hdg hf) hS (fun q _ h => hF q h) hF (fun r u t H1 locs1 ht hvm hw hB hz1 hk1 hS1 => ?_)
  obtain ⟨g0, hP1, hK1, hD1⟩ := hB
  rw [ht] at g0 hP1
  obtain ⟨a1, a2⟩ := va_joinP (wr := wr) (rx := wf u) (pl1 := plf u) hP hD isC isR hC hR hn2 hdis hk1 hF hP1 hD1
  exact kk r u H1 locs1 hw g0 hz1 (hK.app (va_K.moved hvm.symm hK1)) a1 a2 hS1
end ZQ
/-- the lines of an order: n objects of one kind, one box each, put aside or not -/
def zL (k0 : Nat) (ad : Nat → Nat) (as : Nat → Int32) (n : Nat) : va_W := (List.range n).map (fun i => (ad i, .inr (2, [.ref k0, .int 1, .int (as i)])))
theorem zL_get {X : va_W} {k0 : Nat} {ad : Nat → Nat} {as : Nat → Int32} {n i k : Nat} (h : i < n) (hX : X.length = k) : (X ++ zL k0 ad as n)[k + i]? = some (ad i, .inr (2, [.ref k0, .int 1, .int (as i)])) := by
  subst hX
  rw [List.getElem?_append_right (Nat.le_add_right _ _), Nat.add_sub_cancel_left]
  simp [zL, h]
theorem zL_set {X : va_W} {k0 : Nat} {ad : Nat → Nat} {as : Nat → Int32} {n i k : Nat} {v : Int32} (hX : X.length = k) : (X ++ zL k0 ad as n).set (k + i) (ad i, .inr (2, [.ref k0, .int 1, .int v])) = X ++ zL k0 ad (upd as i v) n := by
  subst hX
  rw [List.set_append_right _ _ (Nat.le_add_right _ _), Nat.add_sub_cancel_left]
  congr 1
  apply List.ext_getElem?
  intro j
  rw [List.getElem?_set]
  by_cases hj : i = j
  · subst hj
    by_cases hi : i < n
    · simp [zL, hi, upd]
    · simp [zL, hi]
  · have hj' : ¬ j = i := fun h => hj h.symm
    by_cases hjn : j < n
    · simp [zL, hj, hj', upd, hjn]
    · simp [zL, hj, hjn]
theorem zL_push {X : va_W} {k0 q : Nat} {ad : Nat → Nat} {as : Nat → Int32} {n : Nat} {v : Int32} : (X ++ zL k0 ad as n) ++ [(q, .inr (2, [.ref k0, .int 1, .int v]))] = X ++ zL k0 (va_up ad n q) (upd as n v) (n + 1) := by
  rw [List.append_assoc]
  congr 1
  unfold zL
  rw [List.range_succ, List.map_append]
  congr 1
  · apply List.map_congr_left
    intro i hi
    have : i ≠ n := Nat.ne_of_lt (List.mem_range.mp hi)
    simp [va_up, upd, this]
  · simp [va_up, upd]
theorem zL_ext {k0 : Nat} {ad : Nat → Nat} {as as' : Nat → Int32} {n : Nat} (h : ∀ i, i < n → as i = as' i) : zL k0 ad as n = zL k0 ad as' n := by
  unfold zL
  apply List.map_congr_left
  intro i hi
  rw [h i (List.mem_range.mp hi)]

theorem zP_perm {D : zG} {ws ws' : va_W} {H : Heap} (h : ws.Perm ws') (hP : va_P D vwCl ws H) : va_P D vwCl ws' H := fun k q hk => by
  obtain ⟨j, hj⟩ := List.getElem?_of_mem (h.mem_iff.mpr (List.mem_of_getElem? hk))
  exact hP j q hj
theorem zD_nodup {A : Nat → Prop} {ws : va_W} : va_D A ws ↔ (ws.map Prod.fst).Nodup ∧ ∀ q ∈ ws, A q.1 := by
  constructor
  · intro h
    refine ⟨?_, fun q hq => ?_⟩
    · rw [List.Nodup, List.pairwise_iff_getElem]
      intro i j hi hj hij he
      rw [List.length_map] at hi hj
      rw [List.getElem_map, List.getElem_map] at he
      exact absurd (h.1 i j _ _ (List.getElem?_eq_getElem hi) (List.getElem?_eq_getElem hj) he) (by omega)
    · obtain ⟨j, hj⟩ := List.getElem?_of_mem hq
      exact h.2 j q hj
  · intro h
    refine ⟨fun i j x y hx hy hxy => ?_, fun k q hk => h.2 q (List.mem_of_getElem? hk)⟩
    obtain ⟨hi, rfl⟩ := List.getElem?_eq_some_iff.mp hx
    obtain ⟨hj, rfl⟩ := List.getElem?_eq_some_iff.mp hy
    have hn := List.pairwise_iff_getElem.mp h.1
    rcases Nat.lt_trichotomy i j with q | q | q
    · exact absurd (by rw [List.getElem_map, List.getElem_map]; exact hxy) (hn i j (by simpa using hi) (by simpa using hj) q)
    · exact q
    · exact absurd (by rw [List.getElem_map, List.getElem_map]; exact hxy.symm) (hn j i (by simpa using hj) (by simpa using hi) q)
theorem zD_perm {A : Nat → Prop} {ws ws' : va_W} (h : ws.Perm ws') (hD : va_D A ws) : va_D A ws' := by
  rw [zD_nodup] at hD ⊢
  exact ⟨(h.map Prod.fst).nodup_iff.mp hD.1, fun q hq => hD.2 q (h.mem_iff.mpr hq)⟩
/-- a new line goes to the others' end -/
theorem zL_in {X : va_W} {k0 q : Nat} {ad : Nat → Nat} {as : Nat → Int32} {n : Nat} {v : Int32} : List.Perm (α := Nat × va_E) ((X ++ [(q, .inr (2, [.ref k0, .int 1, .int v]))]) ++ zL k0 ad as n) (X ++ zL k0 (va_up ad n q) (upd as n v) (n + 1)) := by
  rw [← zL_push, List.append_assoc, List.append_assoc]
  exact List.Perm.append_left X List.perm_append_comm
