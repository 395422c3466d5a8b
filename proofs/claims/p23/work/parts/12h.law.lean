theorem qPr {D : zG} {X Y : va_W} {H : Heap} (h : va_P D vwCl (X ++ Y) H) : va_P D vwCl Y H := h.by (fun k => X.length + k) (fun k q hk => by
  rw [List.getElem?_append_right (Nat.le_add_right _ _), Nat.add_sub_cancel_left]; exact hk)
theorem qDr {A : Nat → Prop} {X Y : va_W} (h : va_D A (X ++ Y)) : va_D A Y := h.by (fun k => X.length + k) (fun k q hk => by
  rw [List.getElem?_append_right (Nat.le_add_right _ _), Nat.add_sub_cancel_left]; exact hk) (fun i j _ _ h => by omega)
theorem qat_r {X Y : va_W} {k : Nat} {q : Nat × va_E} (h : Y[k]? = some q) : (X ++ Y)[X.length + k]? = some q := by
  rw [List.getElem?_append_right (Nat.le_add_right _ _), Nat.add_sub_cancel_left]; exact h
theorem qat_l {X Y : va_W} {k : Nat} {q : Nat × va_E} (h : X[k]? = some q) : (X ++ Y)[k]? = some q := by
  rw [List.getElem?_append_left (List.getElem?_eq_some_iff.mp h).1]; exact h
section QX
variable {p : Program} {l : Launch} {e : Env} {R : Room} {s : State} {m : MethodId} {args : Array Value} {below : List Frame} {meth : Method} {c : Code} {H : Heap} {locs : List Loc} {cells slots : Nat} {Q : State → Prop}
variable {pc : Nat} {ls : Array Slot} {rest As : List Value} {A : Nat → Prop} {H0 : Heap} {mc ms n index nL maxL : Nat} {D : zG} {tys tc : List (ClassId × FieldType)} {ws X pl : va_W} {y : MethodName} {bytes cc : ByteArray} {ret : Option FieldType} {wsy Ts : List Cond} {rm : Room} {own C : String} {b n0 : Nat}
/-- a writing call that takes the right part of the world -/
theorem qcalliX {S' : Type} {post : Int32 → S' → Prop} {tyf : S' → List (ClassId × FieldType)} {wf : S' → va_W} (S : CallFix p m c cc nL s args Ts own) (hM : Met l y wsy rm (zPc D tc pl H.size (.ref b :: As)) (va_Qi post (zB D (va_A pl H.size) tyf n0 wf) (va_A pl H.size)) mc ms (va_A pl H.size)) (cw : CallW R s args own C index y bytes maxL ret wsy rm mc ms n)
    (hK : va_K D vwCl tys s) (hP : va_P D vwCl (X ++ pl) H) (hD : va_D A (X ++ pl)) (hS : va_S A H0 H locs) (hA : ∀ q, H0.size ≤ q → A q) (it : List Nat) (hT : it.filterMap (fun i => tys[i]?) = tc)
    {ci q0 : Nat} {T : u_T} {N : Nat} {fs : List Value} (hc : vwCl[ci]? = some (C, T, N)) (he : pl[q0]? = some (b, .inr (ci, fs)))
    (ha : As.length = n) (hsz : ls.size = nL) {st : List Value} (hst : st = As.reverse ++ .ref b :: rest) (hW : (rest.map fun v => v.category).sum ≤ 8) (hdg : decode cc pc = .ok (.invokevirtual index, 3)) (hf : cells + mc ≤ R.cells ∧ slots + ms ≤ R.slots)
    (kk : ∀ (r : Int32) (u : S') (H1 : Heap) (locs1 : List Loc), post r u → va_P D vwCl (X ++ wf u) H1 → va_D A (X ++ wf u) → va_S A H0 H1 locs1 → W p l e R s m args below meth c H1 locs1 (cells + mc) (slots + ms) Q (F0 m (pc + 3) ls (.int r :: rest))) : W p l e R s m args below meth c H locs cells slots Q (F0 m pc ls st) :=
  zcalliV S hM cw hK hP hD hS hA (qCi X pl) (qRi X) (qCi_C _ _) (qCi_nd _ _) (qRi_R _ _) (qRi_nd _) (qRi_dis _ _) it hT hc (qat_r he) ha hsz hst hW hdg hf (fun r u H1 locs1 hw _ _ _ hP1 hD1 hS1 => kk r u H1 locs1 hw hP1 hD1 hS1)
theorem qXb {b0 L : Nat} {xs : Nat → Int32} : ∀ (a : Array Value) (U : State) (g : JFrame) (mk : MethodId), va_X b0 L xs U U.heap → va_X b0 L xs (U.calling g mk a) (U.calling g mk a).heap := fun a U g mk h => va_X.moved (u := U) (U := U.calling g mk a) (Vm.Alike.refl U.vm) h
/-- a static method that reads the script alone -/
theorem zrdSX {post : Int32 → Prop} {b0 L : Nat} {xs : Nat → Int32} (S : CallFix p m c cc nL s args Ts own) (hM : Met l y wsy rm (zPcK D [] [] H.size (fun U => va_X b0 L xs U U.heap) As) (vp_Si post) 0 0 (fun _ => False)) (cw : CallB R s args own index y bytes maxL ret wsy rm 0 0 n ∧ (Cond.static y).before args s = true)
    (hK : va_K D vwCl tys s) (hX : va_X b0 L xs s H)
    (ha : As.length = n) (hsz : ls.size = nL) {st : List Value} (hst : st = As.reverse ++ rest) (hW : (rest.map fun v => v.category).sum ≤ 8) (hdg : decode cc pc = .ok (.invokestatic index, 3)) (hf : cells ≤ R.cells ∧ slots ≤ R.slots)
    (kk : ∀ r : Int32, post r → W p l e R s m args below meth c H locs cells slots Q (F0 m (pc + 3) ls (.int r :: rest))) : W p l e R s m args below meth c H locs cells slots Q (F0 m pc ls st) :=
  vp_callSi (W.runS (As := As) (rest := rest) S hM cw ⟨zPcK_blind qXb, fun U hU hW => ⟨rfl, ⟨by rw [hU], fun k q hk => (by simp at hk), (va_K.moved hW.alike hK).sub [] rfl, fun i j p q hi => (by simp at hi), fun k q hk => (by simp at hk)⟩, by
    show va_X b0 L xs U U.heap
    rw [hU]; exact va_X.moved hW.alike hX⟩⟩ rfl ha hsz hst (lv_room hW) hdg hf) kk
/-- the law's own builder: it takes the world and the script, answers a reference or null -/
theorem qcallqX {S' : Type} {post : Option Nat → S' → Prop} {tyf : S' → List (ClassId × FieldType)} {wf : S' → va_W} {b0 L : Nat} {xs : Nat → Int32} (S : CallFix p m c cc nL s args Ts own) (hM : Met l y wsy rm (zPcK D tc ws H.size (fun U => va_X b0 L xs U U.heap) As) (va_Qq post (zB D (va_A ws H.size) tyf n0 wf) (va_A ws H.size)) mc ms (va_A ws H.size)) (cw : CallB R s args own index y bytes maxL ret wsy rm mc ms n ∧ (Cond.static y).before args s = true)
    (hK : va_K D vwCl tys s) (hP : va_P D vwCl ws H) (hD : va_D A ws) (hS : va_S A H0 H locs) (hA : ∀ q, H0.size ≤ q → A q) (hX : va_X b0 L xs s H) (it : List Nat) (hT : it.filterMap (fun i => tys[i]?) = tc)
    (ha : As.length = n) (hsz : ls.size = nL) {st : List Value} (hst : st = As.reverse ++ rest) (hW : (rest.map fun v => v.category).sum ≤ 8) (hdg : decode cc pc = .ok (.invokestatic index, 3)) (hf : cells + mc ≤ R.cells ∧ slots + ms ≤ R.slots)
    (kk : ∀ (r : Option Nat) (u : S') (H1 : Heap) (locs1 : List Loc), post r u → va_K D vwCl (tys ++ tyf u) s → va_P D vwCl (wf u) H1 → va_D A (wf u) → va_S A H0 H1 locs1 → W p l e R s m args below meth c H1 locs1 (cells + mc) (slots + ms) Q (F0 m (pc + 3) ls (va_rf r :: rest))) : W p l e R s m args below meth c H locs cells slots Q (F0 m pc ls st) := by
  have hF := qfree hD hS hA
  refine va_callq (va_runS (As := As) (rest := rest) S hM cw ⟨zPcK_blind qXb, fun U hU hW => by
    obtain ⟨a1, a2⟩ := zPc_in2 (av := As) hK hP hD it hT hU hW
    refine ⟨a1, a2, ?_⟩
    show va_X b0 L xs U U.heap
    rw [hU]; exact va_X.moved hW.alike hX⟩ rfl ha hsz hst (lv_room hW) hdg hf) hS (fun q _ h => hF q h) hF (fun r u t H1 locs1 ht hvm hw hB hz1 hk1 hS1 => ?_)
  obtain ⟨g0, hP1, hK1, hD1⟩ := hB
  rw [ht] at hP1
  exact kk r u H1 locs1 hw (hK.app (va_K.moved hvm.symm hK1)) hP1 (hD1.weaken (fun _ _ _ h => hF _ h)) hS1
end QX
