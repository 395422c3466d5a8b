/-! mine: methods that throw on a new object -/
abbrev zIAE : String := "java/lang/IllegalArgumentException"
abbrev zIOB : String := "java/lang/IndexOutOfBoundsException"
abbrev zRTE : List String := ["java/lang/RuntimeException", "java/lang/Exception"]
/-- what a method that throws is given: where Throwable's statics lie, and the words that no list may hold -/
def zKX (A : Nat → Prop) (U : State) : Prop :=
  vx_Zq Bundle.tN "UNASSIGNED_STACK" Bundle.steD A U U.heap ∧ vx_Zq Bundle.tN "SUPPRESSED_SENTINEL" Bundle.listD A U U.heap ∧
  va_Nw (.declares (Bundle.init0 "java/lang/RuntimeException")) U ∧ va_Nw (.declares (Bundle.init0 "java/lang/Exception")) U ∧ va_Nw (.declares (Bundle.init0 Bundle.tN)) U ∧
  va_Nw (.castable "java/lang/IllegalArgumentException" "java/lang/IllegalArgumentException") U ∧ va_Nw (.castable "java/lang/IndexOutOfBoundsException" "java/lang/IndexOutOfBoundsException") U
theorem zKX_in {A A1 : Nat → Prop} {s U : State} {H : Heap} {locs : List Loc} (h : zKX A s) (hS : va_S A s.heap H locs) (hF : ∀ q, A1 q → A q) (hU : U.heap = H) (hW : s.WarmedH U.vm) : zKX A1 U := by
  obtain ⟨h1, h2, h3, h4, h5, h6, h7⟩ := h
  refine ⟨?_, ?_, va_Nw.warmD hW h3, va_Nw.warmD hW h4, va_Nw.warmD hW h5, va_Nw.warmC hW h6, va_Nw.warmC hW h7⟩
  · rw [hU]; exact vx_Zq.narrow (vx_Zq.moved hW.alike (vx_Zq.kept h1 hS.2.1)) hF
  · rw [hU]; exact vx_Zq.narrow (vx_Zq.moved hW.alike (vx_Zq.kept h2 hS.2.1)) hF
theorem zKX_blind {A : Nat → Prop} (a : Array Value) (U : State) (g : JFrame) (mk : MethodId) (h : zKX A U) : zKX A (U.calling g mk a) := by
  obtain ⟨h1, h2, h3, h4, h5, h6, h7⟩ := h
  exact ⟨vx_Zq.moved (U := U.calling g mk a) (Vm.Alike.refl U.vm) h1, vx_Zq.moved (U := U.calling g mk a) (Vm.Alike.refl U.vm) h2, va_Nw.same (U := U.calling g mk a) rfl rfl h3, va_Nw.same (U := U.calling g mk a) rfl rfl h4, va_Nw.same (U := U.calling g mk a) rfl rfl h5, va_Nw.same (U := U.calling g mk a) rfl rfl h6, va_Nw.same (U := U.calling g mk a) rfl rfl h7⟩
/-- how a method ends that throws E0 -/
def zXC (E0 : String) (A : Nat → Prop) : String → State → State → Prop := vx_X (fun _ : Unit => True) (fun E _ _ => E = E0) A
/-- a method that throws, and does nothing else -/
abbrev zQX (A : Nat → Prop) : Array Value → State → Outcome → State → Prop := va_Qi (fun _ (_ : Unit) => False) (fun _ _ => True) A
section ZX
variable {p : Program} {l : Launch} {e : Env} {R : Room} {s : State} {m : MethodId} {args : Array Value} {below : List Frame} {meth : Method} {c : Code} {H : Heap} {locs : List Loc} {cells slots : Nat} {Q : State → Prop}
variable {pc : Nat} {ls : Array Slot} {rest As : List Value} {A : Nat → Prop} {H0 : Heap} {mc ms n index nL maxL : Nat} {D : zG} {tys tc : List (ClassId × FieldType)} {ws wc wr : va_W} {y : MethodName} {bytes cc : ByteArray} {ret : Option FieldType} {wsy Ts : List Cond} {rm : Room} {own C : String} {b n0 : Nat}
theorem zhat (ic : Nat) (cls : String) (hc : va_Nw (.castable cls cls) s) (h1 : ∀ w ∈ (vx_at0 own ic cls zRTE).filter goodWord, w.before args s = true) (hKX : zKX A s)
    (h2 : ∀ w ∈ (vx_at0 own ic cls zRTE).filter (fun w => !goodWord w), w ∈ [Cond.declares (Bundle.init0 "java/lang/RuntimeException"), Cond.declares (Bundle.init0 "java/lang/Exception"), Cond.declares (Bundle.init0 Bundle.tN), Cond.castable cls cls]) : ∀ w ∈ vx_at0 own ic cls zRTE, w.before args s = true := by
  obtain ⟨-, -, h3, h4, h5, -, -⟩ := hKX
  exact vx_hat h1 h2 (vx_c (va_Nw.use rfl h3) (vx_c (va_Nw.use rfl h4) (vx_c (va_Nw.use rfl h5) (vx_c (va_Nw.use rfl hc) vx_n))))
/-- 'throw new cls()', out of the method -/
theorem zthrow {cls : String} {ik ic : Nat} {Qc : Array Value → State → Outcome → State → Prop} (hexec : p.tables.exec = Jvm.exec) (hb : c.code = cc) (hl : l.stackTraces = false) (hown : s.vm.findClass own = some m.cls) (hcls : Bundle.fit cls = true)
    (hk : (Cond.classLink own ik cls).before args s = true) (hini : (Cond.initialized cls).before args s = true) (hat : ∀ w ∈ vx_at0 own ic cls zRTE, w.before args s = true)
    (hgood : ∀ w ∈ Cond.classLink own ik cls :: Cond.initialized cls :: vx_at0 own ic cls zRTE, vx_ot w = true) (hKX : zKX A s) (hS : va_S A s.heap H locs) (hsize : ls.size = c.maxLocals)
    (d0 : decode cc pc = .ok (.new ik, 3)) (d3 : decode cc (pc + 3) = .ok (.dup, 1)) (d4 : decode cc (pc + 4) = .ok (.invokespecial ic, 3)) (d7 : decode cc (pc + 7) = .ok (.athrow, 1))
    (hout : ∀ x ∈ c.exceptionTable.toList, False) (hRf : 5 < R.frames) (hRl : 90 ≤ R.locals) (hst : (rest.map fun v => v.category).sum ≤ 9) (hRc : cells + 1 ≤ R.cells) (hRs : slots + 6 ≤ R.slots) (hlocks : meth.locks = false) (hc : cells + 1 ≤ mc) (hs : slots + 6 ≤ ms) :
    W p l e R s m args below meth c H locs cells slots (vx_MQ below Qc (zXC cls A) args s mc ms A) (F0 m pc ls rest) :=
  vx_throw0 (A := A) (names := zRTE) hexec hb hl hown hcls (by decide +kernel) hk hini hat hgood hKX.1 hKX.2.1 hS hsize d0 d3 d4 d7 (fun x hx => (hout x hx).elim) (by show 2 + 3 < R.frames; omega) (by show (rest.map fun v => v.category).sum + (13 * (2 + 1) + 42) ≤ R.locals; omega) hRc hRs hlocks
    (fun t _ h1 h2 => ⟨(), trivial, rfl, Nat.le_trans hS.1 h1, fun q hq hn => (h2 q (Nat.lt_of_lt_of_le hq hS.1)).trans (hS.2.1 q hq hn)⟩) hS.2.2 hc hs
/-- a method that throws is called: what comes behind is the throw, the rest of the world as it was -/
theorem zthrowV {E0 : String} (S : CallFix p m c cc nL s args Ts own) (hM : vx_Met l y wsy rm (zPcK D tc wc H.size (zKX (va_A wc H.size)) (.ref b :: As)) (zQX (va_A wc H.size)) (zXC E0 (va_A wc H.size)) mc ms (va_A wc H.size)) (cw : CallW R s args own C index y bytes maxL ret wsy rm mc ms n) (hKX : zKX A s)
    (hK : va_K D vwCl tys s) (hP : va_P D vwCl ws H) (hD : va_D A ws) (hS : va_S A s.heap H locs) (hA : ∀ q, s.heap.size ≤ q → A q) (isC isR : List Nat) (hC : isC.map (fun i => ws[i]?) = wc.map some) (hn : va_nd isC = true) (hR : isR.map (fun i => ws[i]?) = wr.map some) (hn2 : va_nd isR = true) (hdis : ∀ i ∈ isR, i ∉ isC) (it : List Nat) (hT : it.filterMap (fun i => tys[i]?) = tc)
    {ci q0 : Nat} {T : u_T} {N : Nat} {fs : List Value} (hc : vwCl[ci]? = some (C, T, N)) (he : ws[q0]? = some (b, .inr (ci, fs)))
    (ha : As.length = n) (hsz : ls.size = nL) {st : List Value} (hst : st = As.reverse ++ .ref b :: rest) (hW : (rest.map fun v => v.category).sum ≤ 8) (hdg : decode cc pc = .ok (.invokevirtual index, 3)) (hf : cells + mc ≤ R.cells ∧ slots + ms ≤ R.slots)
    (kk : ∀ (ce : Cell) (q9 : Addr) (H1 : Heap) (locs1 : List Loc), H.size ≤ H1.size → va_P D vwCl wr H1 → va_D A wr → va_S A s.heap H1 locs1 → H1[q9]? = some ce → ce.vm = .none → s.vm.findClass E0 = some ce.cls → vx_W p l e R s m args below meth c H1 locs1 (cells + mc) (slots + ms) Q (F0 m pc ls rest) q9) : W p l e R s m args below meth c H locs cells slots Q (F0 m pc ls st) := by
  have hF := va_free (wc := wc) hD hS hA isC hC
  refine vx_calli (vx_runV (As := As) (rest := rest) S hM cw ⟨zPcK_blind zKX_blind, va_recv hK hP hc he, fun U hU hW => ?_⟩ rfl ha hsz hst (lv_room hW) hdg hf) hS (fun q _ h => hF q h) hF (fun q _ h => hF q h) (fun E ce q9 u t H1 locs1 ht hvm hpx hB hz1 hk1 hS1 hce hcv hcl => ?_) (fun r u t H1 locs1 ht hvm hw hB hz1 hk1 hS1 => absurd hw id)
  · obtain ⟨a1, a2⟩ := zPc_in (av := .ref b :: As) hK hP hD isC hC hn it hT hU hW
    exact ⟨a1, a2, zKX_in hKX hS hF hU hW⟩
  · have hE : E = E0 := hB
    subst hE
    obtain ⟨a1, a2⟩ := va_join (wr := wr) (w1 := []) hP hD isC isR hC hR hn2 hdis hk1 hF (fun k q h => by simp at h) ⟨fun i j x y h => by simp at h, fun k q h => by simp at h⟩
    rw [List.append_nil] at a1 a2
    exact kk ce q9 H1 locs1 hz1 a1 a2 hS1 hce hcv hcl
/-- the first row of the table takes it -/
theorem zcatch {hh : List (Nat × Nat × Nat × Nat)} {s0 e0 h0 c0 : Nat} {suf : List (Nat × Nat × Nat × Nat)} {E : String} {ce : Cell} {q : Addr} (hown : s.vm.findClass own = some m.cls) (hT : c.exceptionTable.toList = tableOf hh) (hh0 : hh = (s0, e0, h0, c0) :: suf) (hin : covers ⟨s0, e0, h0, c0⟩ pc = true) (hc0 : c0 ≠ 0)
    (hlink : (Cond.classLink own c0 E).before args s = true) (hcast : va_Nw (.castable E E) s) (hcell : H[q]? = some ce) (hv : ce.vm = .none) (hcl : s.vm.findClass E = some ce.cls)
    (kk : W p l e R s m args below meth c H locs cells slots Q (F0 m h0 ls [.ref q])) : vx_W p l e R s m args below meth c H locs cells slots Q (F0 m pc ls rest) q := by
  subst hh0
  exact vx_catch hown [] ⟨s0, e0, h0, c0⟩ (tableOf suf) (by rw [hT]; rfl) (fun z hz => nomatch hz) hin hc0 hlink (va_Nw.use rfl hcast) hcell hv hcl kk
/-- a static method with a table, of which something that throws hangs -/
theorem zcalliSWK {S' : Type} {hh : List (Nat × Nat × Nat × Nat)} {post : Int32 → S' → Prop} {tyf : S' → List (ClassId × FieldType)} {wf : S' → va_W} (S : CallFix p m c cc nL s args Ts own) (hM : Met l y wsy rm (zPcK D tc wc H.size (zKX (va_A wc H.size)) As) (va_Qi post (zB D (va_A wc H.size) tyf n0 wf) (va_A wc H.size)) mc ms (va_A wc H.size)) (cw : vx_CSW R s args own index y bytes maxL ret hh wsy rm mc ms n) (hKX : zKX A s)
    (hK : va_K D vwCl tys s) (hP : va_P D vwCl ws H) (hD : va_D A ws) (hS : va_S A s.heap H locs) (hA : ∀ q, s.heap.size ≤ q → A q) (isC isR : List Nat) (hC : isC.map (fun i => ws[i]?) = wc.map some) (hn : va_nd isC = true) (hR : isR.map (fun i => ws[i]?) = wr.map some) (hn2 : va_nd isR = true) (hdis : ∀ i ∈ isR, i ∉ isC) (it : List Nat) (hT : it.filterMap (fun i => tys[i]?) = tc)
    (ha : As.length = n) (hsz : ls.size = nL) {st : List Value} (hst : st = As.reverse ++ rest) (hW : (rest.map fun v => v.category).sum ≤ 8) (hdg : decode cc pc = .ok (.invokestatic index, 3)) (hf : cells + mc ≤ R.cells ∧ slots + ms ≤ R.slots)
    (kk : ∀ (r : Int32) (u : S') (H1 : Heap) (locs1 : List Loc), post r u → n0 ≤ H1.size → H.size ≤ H1.size → va_K D vwCl (tys ++ tyf u) s → va_P D vwCl (wr ++ wf u) H1 → va_D A (wr ++ wf u) → va_S A s.heap H1 locs1 → W p l e R s m args below meth c H1 locs1 (cells + mc) (slots + ms) Q (F0 m (pc + 3) ls (.int r :: rest))) : W p l e R s m args below meth c H locs cells slots Q (F0 m pc ls st) := by
  have hF := va_free (wc := wc) hD hS hA isC hC
  refine va_calli (vx_runSW (As := As) (rest := rest) S hM cw ⟨zPcK_blind zKX_blind, fun U hU hW => by
    obtain ⟨a1, a2⟩ := zPc_in (av := As) hK hP hD isC hC hn it hT hU hW
    exact ⟨a1, a2, zKX_in hKX hS hF hU hW⟩⟩ rfl ha hsz hst (lv_room hW) hdg hf) hS (fun q _ h => hF q h) hF (fun r u t H1 locs1 ht hvm hw hB hz1 hk1 hS1 => ?_)
  obtain ⟨g0, gK, gP, gD⟩ := zjoin hK hP hD hS hA isC isR hC hR hn2 hdis ht hvm hB hk1
  exact kk r u H1 locs1 hw g0 hz1 gK gP gD hS1
/-- a read-only method that answers a long, a double -/
theorem zrdVl {post : Int64 → Prop} (S : CallFix p m c cc nL s args Ts own) (hM : Met l y wsy rm (zPc D tc wc H.size (.ref b :: As)) (vp_Sl post) 0 0 (fun _ => False)) (cw : CallW R s args own C index y bytes maxL ret wsy rm 0 0 n)
    (hK : va_K D vwCl tys s) (hP : va_P D vwCl ws H) (hD : va_D A ws) (isC : List Nat) (hC : isC.map (fun i => ws[i]?) = wc.map some) (hn : va_nd isC = true) (it : List Nat) (hT : it.filterMap (fun i => tys[i]?) = tc)
    {ci q0 : Nat} {T : u_T} {N : Nat} {fs : List Value} (hc : vwCl[ci]? = some (C, T, N)) (he : ws[q0]? = some (b, .inr (ci, fs)))
    (ha : As.length = n) (hsz : ls.size = nL) {st : List Value} (hst : st = As.reverse ++ .ref b :: rest) (hW : (rest.map fun v => v.category).sum ≤ 8) (hdg : decode cc pc = .ok (.invokevirtual index, 3)) (hf : cells ≤ R.cells ∧ slots ≤ R.slots)
    (kk : ∀ r : Int64, post r → W p l e R s m args below meth c H locs cells slots Q (F0 m (pc + 3) ls (.long r :: rest))) : W p l e R s m args below meth c H locs cells slots Q (F0 m pc ls st) :=
  vp_callSl (W.runV (As := As) (rest := rest) S hM cw ⟨zPc_blind, va_recv hK hP hc he, fun U hU hW => zPc_in hK hP hD isC hC hn it hT hU hW⟩ rfl ha hsz hst (lv_room hW) hdg hf) kk
theorem zrdVd {post : UInt64 → Prop} (S : CallFix p m c cc nL s args Ts own) (hM : Met l y wsy rm (zPc D tc wc H.size (.ref b :: As)) (vp_Sd post) 0 0 (fun _ => False)) (cw : CallW R s args own C index y bytes maxL ret wsy rm 0 0 n)
    (hK : va_K D vwCl tys s) (hP : va_P D vwCl ws H) (hD : va_D A ws) (isC : List Nat) (hC : isC.map (fun i => ws[i]?) = wc.map some) (hn : va_nd isC = true) (it : List Nat) (hT : it.filterMap (fun i => tys[i]?) = tc)
    {ci q0 : Nat} {T : u_T} {N : Nat} {fs : List Value} (hc : vwCl[ci]? = some (C, T, N)) (he : ws[q0]? = some (b, .inr (ci, fs)))
    (ha : As.length = n) (hsz : ls.size = nL) {st : List Value} (hst : st = As.reverse ++ .ref b :: rest) (hW : (rest.map fun v => v.category).sum ≤ 8) (hdg : decode cc pc = .ok (.invokevirtual index, 3)) (hf : cells ≤ R.cells ∧ slots ≤ R.slots)
    (kk : ∀ r : UInt64, post r → W p l e R s m args below meth c H locs cells slots Q (F0 m (pc + 3) ls (.double r :: rest))) : W p l e R s m args below meth c H locs cells slots Q (F0 m pc ls st) :=
  vp_callSd (W.runV (As := As) (rest := rest) S hM cw ⟨zPc_blind, va_recv hK hP hc he, fun U hU hW => zPc_in hK hP hD isC hC hn it hT hU hW⟩ rfl ha hsz hst (lv_room hW) hdg hf) kk
/-- a writing method that answers a long, a double -/
theorem zcalllV {S' : Type} {post : Int64 → S' → Prop} {tyf : S' → List (ClassId × FieldType)} {wf : S' → va_W} (S : CallFix p m c cc nL s args Ts own) (hM : Met l y wsy rm (zPc D tc wc H.size (.ref b :: As)) (va_Ql post (zB D (va_A wc H.size) tyf n0 wf) (va_A wc H.size)) mc ms (va_A wc H.size)) (cw : CallW R s args own C index y bytes maxL ret wsy rm mc ms n)
    (hK : va_K D vwCl tys s) (hP : va_P D vwCl ws H) (hD : va_D A ws) (hS : va_S A H0 H locs) (hA : ∀ q, H0.size ≤ q → A q) (isC isR : List Nat) (hC : isC.map (fun i => ws[i]?) = wc.map some) (hn : va_nd isC = true) (hR : isR.map (fun i => ws[i]?) = wr.map some) (hn2 : va_nd isR = true) (hdis : ∀ i ∈ isR, i ∉ isC) (it : List Nat) (hT : it.filterMap (fun i => tys[i]?) = tc)
    {ci q0 : Nat} {T : u_T} {N : Nat} {fs : List Value} (hc : vwCl[ci]? = some (C, T, N)) (he : ws[q0]? = some (b, .inr (ci, fs)))
    (ha : As.length = n) (hsz : ls.size = nL) {st : List Value} (hst : st = As.reverse ++ .ref b :: rest) (hW : (rest.map fun v => v.category).sum ≤ 8) (hdg : decode cc pc = .ok (.invokevirtual index, 3)) (hf : cells + mc ≤ R.cells ∧ slots + ms ≤ R.slots)
    (kk : ∀ (r : Int64) (u : S') (H1 : Heap) (locs1 : List Loc), post r u → n0 ≤ H1.size → H.size ≤ H1.size → va_K D vwCl (tys ++ tyf u) s → va_P D vwCl (wr ++ wf u) H1 → va_D A (wr ++ wf u) → va_S A H0 H1 locs1 → W p l e R s m args below meth c H1 locs1 (cells + mc) (slots + ms) Q (F0 m (pc + 3) ls (.long r :: rest))) : W p l e R s m args below meth c H locs cells slots Q (F0 m pc ls st) := by
  have hF := va_free (wc := wc) hD hS hA isC hC
  refine va_calll (va_runV (As := As) (rest := rest) S hM cw ⟨zPc_blind, va_recv hK hP hc he, fun U hU hW => zPc_in hK hP hD isC hC hn it hT hU hW⟩ rfl ha hsz hst (lv_room hW) hdg hf) hS (fun q _ h => hF q h) hF (fun r u t H1 locs1 ht hvm hw hB hz1 hk1 hS1 => ?_)
  obtain ⟨g0, gK, gP, gD⟩ := zjoin hK hP hD hS hA isC isR hC hR hn2 hdis ht hvm hB hk1
  exact kk r u H1 locs1 hw g0 hz1 gK gP gD hS1
theorem zcalldV {S' : Type} {post : UInt64 → S' → Prop} {tyf : S' → List (ClassId × FieldType)} {wf : S' → va_W} (S : CallFix p m c cc nL s args Ts own) (hM : Met l y wsy rm (zPc D tc wc H.size (.ref b :: As)) (va_Qd post (zB D (va_A wc H.size) tyf n0 wf) (va_A wc H.size)) mc ms (va_A wc H.size)) (cw : CallW R s args own C index y bytes maxL ret wsy rm mc ms n)
    (hK : va_K D vwCl tys s) (hP : va_P D vwCl ws H) (hD : va_D A ws) (hS : va_S A H0 H locs) (hA : ∀ q, H0.size ≤ q → A q) (isC isR : List Nat) (hC : isC.map (fun i => ws[i]?) = wc.map some) (hn : va_nd isC = true) (hR : isR.map (fun i => ws[i]?) = wr.map some) (hn2 : va_nd isR = true) (hdis : ∀ i ∈ isR, i ∉ isC) (it : List Nat) (hT : it.filterMap (fun i => tys[i]?) = tc)
    {ci q0 : Nat} {T : u_T} {N : Nat} {fs : List Value} (hc : vwCl[ci]? = some (C, T, N)) (he : ws[q0]? = some (b, .inr (ci, fs)))
    (ha : As.length = n) (hsz : ls.size = nL) {st : List Value} (hst : st = As.reverse ++ .ref b :: rest) (hW : (rest.map fun v => v.category).sum ≤ 8) (hdg : decode cc pc = .ok (.invokevirtual index, 3)) (hf : cells + mc ≤ R.cells ∧ slots + ms ≤ R.slots)
    (kk : ∀ (r : UInt64) (u : S') (H1 : Heap) (locs1 : List Loc), post r u → n0 ≤ H1.size → H.size ≤ H1.size → va_K D vwCl (tys ++ tyf u) s → va_P D vwCl (wr ++ wf u) H1 → va_D A (wr ++ wf u) → va_S A H0 H1 locs1 → W p l e R s m args below meth c H1 locs1 (cells + mc) (slots + ms) Q (F0 m (pc + 3) ls (.double r :: rest))) : W p l e R s m args below meth c H locs cells slots Q (F0 m pc ls st) := by
  have hF := va_free (wc := wc) hD hS hA isC hC
  refine va_calld (va_runV (As := As) (rest := rest) S hM cw ⟨zPc_blind, va_recv hK hP hc he, fun U hU hW => zPc_in hK hP hD isC hC hn it hT hU hW⟩ rfl ha hsz hst (lv_room hW) hdg hf) hS (fun q _ h => hF q h) hF (fun r u t H1 locs1 ht hvm hw hB hz1 hk1 hS1 => ?_)
  obtain ⟨g0, gK, gP, gD⟩ := zjoin hK hP hD hS hA isC isR hC hR hn2 hdis ht hvm hB hk1
  exact kk r u H1 locs1 hw g0 hz1 gK gP gD hS1
end ZX
/-- a number between 0 and k -/
theorem zNat {a : Int32} {k : Nat} (hk : k < 2 ^ 31) (h0 : 0 ≤ a) (h1 : a ≤ nI k) : ∃ n, n ≤ k ∧ a = nI n := by
  rw [Int32.le_iff_toInt_le] at h0 h1
  rw [nI_toInt hk] at h1
  have h0' : 0 ≤ a.toInt := h0
  refine ⟨a.toInt.toNat, by omega, ?_⟩
  apply Int32.toInt_inj.mp
  rw [nI_toInt (by omega)]
  omega
