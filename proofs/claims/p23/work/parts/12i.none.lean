/-- that the class of arrays of int arrays is there -/
def qAO (U : State) : Prop := (Cond.arrayOver (.array .int)).before #[] U = true
theorem qAO.use {A : Array Value} {U : State} (h : qAO U) : (Cond.arrayOver (.array .int)).before A U = true := h
theorem qAO.of {A : Array Value} {U : State} (h : (Cond.arrayOver (.array .int)).before A U = true) : qAO U := h
theorem qAO.moved {u U : State} (hvm : u.vm.Alike U.vm) (h : qAO u) : qAO U := by
  obtain ⟨comp, c, k, h1, h2, h3, h4, h5⟩ := arrayOverA_spec h
  obtain ⟨k', hk', he⟩ := hvm.2.2 _ _ h3
  have hbare : ∀ vm : Vm, (vm.bare.classes.findIdx? fun (x : Class) => match x.kind with | .array component _ => component == comp | _ => false) = (vm.classes.findIdx? fun (x : Class) => match x.kind with | .array component _ => component == comp | _ => false) := fun vm => by
    simp only [Vm.bare, Array.findIdx?_map]
    rfl
  have hi : (U.vm.classes.findIdx? fun (x : Class) => match x.kind with | .array component _ => component == comp | _ => false) = some c := by
    rw [← hbare]
    first | rw [hvm.bare_eq] | rw [← hvm.bare_eq]
    rw [hbare]
    exact h2
  have hkind : k'.kind = .array comp (.array .int) := by rw [he]; exact h4
  have f1 : U.vm.findClass (FieldType.array .int).toString = some comp := by rw [hvm.findClass]; exact h1
  have f2 : U.vm.findClass ("[" ++ (FieldType.array .int).toString) = some c := by rw [hvm.findClass]; exact h5
  unfold qAO Cond.before Cond.holds
  simp only [Cond.value]
  rw [f1, Option.bind_some]
  refine (congrArg (fun o : Option Nat => (o.bind (fun c => (U.vm.classes[c]?).map fun (k : Class) => match k.kind with | .array _ ty => decide (ty = FieldType.array .int) && decide (U.vm.findClass ("[" ++ (FieldType.array .int).toString) = some c) | _ => false) == some true)) hi).trans ?_
  simp [hk', hkind, f2]
/-- no item has come -/
def qZ (B : qB) (N : qN0) : Prop := qOK B N ∧ qM N ∧ N 4 1 5 = 0 ∧ N 4 1 6 = 0 ∧ N 4 1 7 = 0 ∧ (∀ c, N 4 0 c = 0) ∧ qKin B N ∧ N 4 1 1 ≤ 40 ∧ N 4 1 2 ≤ 100 ∧ N 4 1 3 ≤ 20000
theorem qZ_full {B : qB} {R : qR0} {N : qN0} {S : Nat → Nat → Nat} (h : qZ B N) : qFull B R N S := by
  obtain ⟨z1, z2, z3, z4, z5, z6, z7, z8, z9, z10⟩ := h
  refine ⟨z1, z2, ⟨fun i hi => by omega, fun k i _ hi => by omega, fun i hi => by omega, fun cx cy _ _ h9 => ?_⟩, fun i hi => by omega, z7, ⟨z8, z9, z10, fun c => by rw [z6]; decide⟩, fun i hi => by omega, fun i hi => by omega, ⟨by omega, ?_, by omega⟩⟩
  · rw [z6] at h9; omega
  · rw [z3, z5]; rfl
theorem qZ_new {B : qB} (h1 : qFull B qRn qNew (fun _ _ => 0)) : qZ B qNew := by
  obtain ⟨f1, f2, f3, f4, f5, f6, f7, f8, f9⟩ := h1
  exact ⟨f1, f2, rfl, rfl, rfl, fun c => by simp [qNew], f5, f6.1, f6.2.1, f6.2.2.1⟩
theorem qZ_kind {B : qB} {N : qN0} {a a1 a2 a3 a4 a5 a6 : Nat} (hZ : qZ B N) (hk : qk B < 10) (h1 : 0 < a1 ∧ a1 ≤ 6) (h2 : 0 < a2 ∧ a2 ≤ 6) (h3 : 0 < a3 ∧ a3 ≤ 8) (h4 : 0 < a4 ∧ a4 ≤ 500) (h5 : a5 ≤ 5000) (h6 : a6 < 4) : qZ (qBk B a) (qNk N (qk B) [qk B, a1, a2, a3, a4, a5, a6 % 2, a6 / 2]) := by
  obtain ⟨⟨o1, o2, o3, o4, o5, o6, o7, o8, o9⟩, z2, z3, z4, z5, z6, z7, z8, z9, z10⟩ := hZ
  have ne : ∀ c i j, (c ≠ 2 ∨ i ≠ qk B) → (c ≠ 4 ∨ i ≠ 1 ∨ j ≠ 0) → qNk N (qk B) [qk B, a1, a2, a3, a4, a5, a6 % 2, a6 / 2] c i j = N c i j := fun c i j h1 h2 => qNk_ne h1 h2
  refine ⟨⟨fun i hi => ?_, fun k hk9 => ?_, fun l hl => ?_, ?_, ?_, ?_, o7, ?_, fun i hi => ?_⟩, fun c i j => ?_, ?_, ?_, ?_, fun c => ?_, fun k hk9 => ?_, ?_, ?_, ?_⟩
  · rw [qBk_A (by omega)]; exact o1 i hi
  · have hk9 : k < qk B + 1 := hk9
    show va_up (qF B 0) (qk B) (some a) k = some (qA (qBk B a) 3 k)
    by_cases h9 : k = qk B
    · subst h9
      rw [va_up_self]
      show _ = some (if 3 = 3 ∧ qk B = qk B then a else _)
      rw [if_pos ⟨rfl, rfl⟩]
    · rw [va_up_ne _ _ h9, qBk_A (by omega)]; exact o2 k (by omega)
  · rw [qBk_A (by omega)]; exact o3 l hl
  · show qNk N (qk B) _ 4 1 0 = qk B + 1
    simp [qNk]
  · rw [ne _ _ _ (by omega) (by omega)]; exact o5
  · show qk B + 1 ≤ 10
    omega
  · rw [ne _ _ _ (by omega) (by omega)]; exact o8
  · rw [ne 4 1 5 (by omega) (by omega)] at hi; omega
  · unfold qNk
    split
    · rcases (show j = 0 ∨ j = 1 ∨ j = 2 ∨ j = 3 ∨ j = 4 ∨ j = 5 ∨ j = 6 ∨ j = 7 ∨ 8 ≤ j by omega) with h | h | h | h | h | h | h | h | h
      · subst h; show qk B ≤ _; omega
      · subst h; show a1 ≤ _; omega
      · subst h; show a2 ≤ _; omega
      · subst h; show a3 ≤ _; omega
      · subst h; show a4 ≤ _; omega
      · subst h; show a5 ≤ _; omega
      · subst h; show a6 % 2 ≤ _; omega
      · subst h; show a6 / 2 ≤ _; omega
      · rw [List.getD_eq_getElem?_getD, List.getElem?_eq_none (by simpa using h)]; exact Nat.zero_le _
    · split
      · omega
      · exact z2 c i j
  · rw [ne _ _ _ (by omega) (by omega)]; exact z3
  · rw [ne _ _ _ (by omega) (by omega)]; exact z4
  · rw [ne _ _ _ (by omega) (by omega)]; exact z5
  · rw [ne _ _ _ (by omega) (by omega)]; exact z6 c
  · have hk9 : k < qk B + 1 := hk9
    by_cases h9 : k = qk B
    · subst h9
      have e : ∀ j, qNk N (qk B) [qk B, a1, a2, a3, a4, a5, a6 % 2, a6 / 2] 2 (qk B) j = [qk B, a1, a2, a3, a4, a5, a6 % 2, a6 / 2].getD j 0 := fun j => by simp [qNk]
      rw [e, e, e, e, e, e, e, e]
      exact ⟨rfl, h1, h2, h3, h4, h5, Nat.mod_lt _ (by decide), by show a6 / 2 < 2; omega⟩
    · have e : ∀ j, qNk N (qk B) [qk B, a1, a2, a3, a4, a5, a6 % 2, a6 / 2] 2 k j = N 2 k j := fun j => ne _ _ _ (by omega) (by omega)
      rw [e, e, e, e, e, e, e, e]
      exact z7 k (by omega)
  · rw [ne _ _ _ (by omega) (by omega)]; exact z8
  · rw [ne _ _ _ (by omega) (by omega)]; exact z9
  · rw [ne _ _ _ (by omega) (by omega)]; exact z10
theorem qZ_line {B : qB} {N : qN0} {a k x : Nat} (hZ : qZ B N) (hl : ql B < 20) (hk : k < qk B) (hx : x ≤ 20) : qZ (qBl B a) (qNl N (ql B) k x) := by
  obtain ⟨⟨o1, o2, o3, o4, o5, o6, o7, o8, o9⟩, z2, z3, z4, z5, z6, z7, z8, z9, z10⟩ := hZ
  have ne : ∀ c i j, (c ≠ 3 ∨ i ≠ ql B) → (c ≠ 4 ∨ i ≠ 1 ∨ j ≠ 8) → qNl N (ql B) k x c i j = N c i j := fun c i j h1 h2 => qNl_ne h1 h2
  refine ⟨⟨fun i hi => ?_, fun k9 hk9 => ?_, fun l hl9 => ?_, ?_, ?_, o6, ?_, ?_, fun i hi => ?_⟩, fun c i j => ?_, ?_, ?_, ?_, fun c => ?_, fun k9 hk9 => ?_, ?_, ?_, ?_⟩
  · rw [qBl_A (by omega)]; exact o1 i hi
  · rw [qBl_A (by omega)]; exact o2 k9 hk9
  · have hl9 : l < ql B + 1 := hl9
    show va_up (qF B 2) (ql B) (some a) l = some (qA (qBl B a) 4 l)
    by_cases h9 : l = ql B
    · subst h9
      rw [va_up_self]
      show _ = some (if 4 = 4 ∧ ql B = ql B then a else _)
      rw [if_pos ⟨rfl, rfl⟩]
    · rw [va_up_ne _ _ h9, qBl_A (by omega)]; exact o3 l (by omega)
  · rw [ne _ _ _ (by omega) (by omega)]; exact o4
  · show qNl N (ql B) k x 4 1 8 = ql B + 1
    simp [qNl]
  · show ql B + 1 ≤ 20
    omega
  · rw [ne _ _ _ (by omega) (by omega)]; exact o8
  · rw [ne 4 1 5 (by omega) (by omega)] at hi; omega
  · unfold qNl
    split
    · rcases (show j = 0 ∨ j = 1 ∨ j = 2 ∨ 3 ≤ j by omega) with h | h | h | h
      · subst h; show k ≤ _; omega
      · subst h; show x ≤ _; omega
      · subst h; show 0 ≤ _; omega
      · rw [List.getD_eq_getElem?_getD, List.getElem?_eq_none (by simpa using h)]; exact Nat.zero_le _
    · split
      · omega
      · exact z2 c i j
  · rw [ne _ _ _ (by omega) (by omega)]; exact z3
  · rw [ne _ _ _ (by omega) (by omega)]; exact z4
  · rw [ne _ _ _ (by omega) (by omega)]; exact z5
  · rw [ne _ _ _ (by omega) (by omega)]; exact z6 c
  · have e : ∀ j, qNl N (ql B) k x 2 k9 j = N 2 k9 j := fun j => ne _ _ _ (by omega) (by omega)
    rw [e, e, e, e, e, e, e, e]
    exact z7 k9 hk9
  · rw [ne _ _ _ (by omega) (by omega)]; exact z8
  · rw [ne _ _ _ (by omega) (by omega)]; exact z9
  · rw [ne _ _ _ (by omega) (by omega)]; exact z10
theorem qZ_rules {B : qB} {N : qN0} {a1 a2 a3 t : Nat} (hZ : qZ B N) (h1 : a1 ≤ 40) (h2 : a2 ≤ 100) (h3 : a3 ≤ 20000) (ht : t < 2) : qZ B (qp (qp (qp (qp N 4 1 1 a1) 4 1 2 a2) 4 1 3 a3) 4 1 4 t) := by
  obtain ⟨⟨o1, o2, o3, o4, o5, o6, o7, o8, o9⟩, z2, z3, z4, z5, z6, z7, z8, z9, z10⟩ := hZ
  have ne : ∀ c i j, ¬ (c = 4 ∧ i = 1 ∧ (j = 1 ∨ j = 2 ∨ j = 3 ∨ j = 4)) → qp (qp (qp (qp N 4 1 1 a1) 4 1 2 a2) 4 1 3 a3) 4 1 4 t c i j = N c i j := fun c i j h => by
    unfold qp
    rw [if_neg (by omega), if_neg (by omega), if_neg (by omega), if_neg (by omega)]
  refine ⟨⟨o1, o2, o3, ?_, ?_, o6, o7, ?_, fun i hi => ?_⟩, qM_p (qM_p (qM_p (qM_p z2 (by omega)) (by omega)) (by omega)) (by omega), ?_, ?_, ?_, fun c => ?_, fun k9 hk9 => ?_, ?_, ?_, ?_⟩
  · rw [ne _ _ _ (by omega)]; exact o4
  · rw [ne _ _ _ (by omega)]; exact o5
  · rw [ne _ _ _ (by omega)]; exact o8
  · rw [ne 4 1 5 (by omega)] at hi; omega
  · rw [ne _ _ _ (by omega)]; exact z3
  · rw [ne _ _ _ (by omega)]; exact z4
  · rw [ne _ _ _ (by omega)]; exact z5
  · rw [ne _ _ _ (by omega)]; exact z6 c
  · have e : ∀ j, qp (qp (qp (qp N 4 1 1 a1) 4 1 2 a2) 4 1 3 a3) 4 1 4 t 2 k9 j = N 2 k9 j := fun j => ne _ _ _ (by omega)
    rw [e, e, e, e, e, e, e, e]
    exact z7 k9 hk9
  · rw [qp_j _ _ _ _ _ _ (by decide), qp_j _ _ _ _ _ _ (by decide), qp_j _ _ _ _ _ _ (by decide), qp_eq]; exact h1
  · rw [qp_j _ _ _ _ _ _ (by decide), qp_j _ _ _ _ _ _ (by decide), qp_eq]; exact h2
  · rw [qp_j _ _ _ _ _ _ (by decide), qp_eq]; exact h3
/-- the law's own cells: the hand, its kinds' array, its rules, its kinds -/
def qKx (cI : ClassId) (K : Nat → Nat) (V : Nat → Nat → Nat) (i : Nat) : va_W := (List.range i).map (fun k => (K k, .inl (cI, 6, .inl (fun j => nI (V k j)))))
def qHX (cA cI : ClassId) (ad : Nat → Nat) (many : Nat) (F : Nat → Option Nat) (rf : Nat → Int32) : va_W := [(ad 0, .inr (4, [.ref (ad 1), .ref (ad 2), .int 0, .ref (ad 3)])), (ad 3, .inl (cI, 4, .inl rf)), (ad 1, .inl (cA, many, .inr (.inr (.inr (.inr F)))))]
theorem qHX_2 {cA cI : ClassId} {ad : Nat → Nat} {many : Nat} {F F' : Nat → Option Nat} {rf : Nat → Int32} {Y : va_W} : (qHX cA cI ad many F rf ++ Y).set 2 (ad 1, .inl (cA, many, .inr (.inr (.inr (.inr F'))))) = qHX cA cI ad many F' rf ++ Y := rfl
theorem qKx_1 (cI : ClassId) (K : Nat → Nat) (V : Nat → Nat → Nat) (i q : Nat) (v : Nat → Nat) : qKx cI K V i ++ [(q, .inl (cI, 6, .inl (fun j => nI (v j))))] = qKx cI (fun k => if k = i then q else K k) (fun k => if k = i then v else V k) (i + 1) := by
  unfold qKx
  rw [List.range_succ, List.map_append]
  congr 1
  · apply List.map_congr_left
    intro k hk
    have hk := List.mem_range.mp hk
    have h9 : k ≠ i := by omega
    simp [h9]
  · simp
theorem qKx_at {cI : ClassId} {K : Nat → Nat} {V : Nat → Nat → Nat} {i k n : Nat} {X Y : va_W} (hX : X.length = n) (h : k < i) : (X ++ (qKx cI K V i ++ Y))[n + k]? = some (K k, .inl (cI, 6, .inl (fun j => nI (V k j)))) := qap_get h hX
theorem qupd (v : Nat → Nat) (k x : Nat) : upd (fun j => nI (v j)) k (nI x) = fun j => nI (qu v k x j) := by
  funext j
  unfold upd qu
  split <;> rfl
theorem qgx_set {Y : va_W} {c c' : Nat × va_E} : (Y ++ [c]).set Y.length c' = Y ++ [c'] := by simp
/-- what the law knows of its kinds and rules -/
def qKv (N : qN0) (V : Nat → Nat → Nat) (k : Nat) : Prop := V k 0 = N 2 k 1 ∧ V k 1 = N 2 k 2 ∧ V k 2 = N 2 k 3 ∧ V k 3 = N 2 k 4 ∧ V k 4 = N 2 k 5 ∧ V k 5 % 2 = N 2 k 6 ∧ V k 5 / 2 = N 2 k 7 ∧ V k 5 < 4
def qRv (N : qN0) (rf : Nat → Int32) : Prop := rf 0 = nI (N 4 1 1) ∧ rf 1 = nI (N 4 1 2) ∧ rf 2 = nI (N 4 1 3)
theorem qKx_in {D : zG} {X Y G : va_W} {c : Nat × va_E} {H : Heap} (h : va_P D vwCl (X ++ ((Y ++ G) ++ [c])) H) : va_P D vwCl (X ++ (Y ++ c :: G)) H := by
  have e : X ++ ((Y ++ G) ++ [c]) = ((X ++ Y) ++ G) ++ [c] := by simp only [List.append_assoc]
  rw [e] at h
  have h2 := h.swap
  have e2 : ((X ++ Y) ++ [c]) ++ G = X ++ (Y ++ c :: G) := by simp only [List.append_assoc, List.singleton_append]
  rw [e2] at h2
  exact h2
theorem qKx_inD {A : Nat → Prop} {X Y G : va_W} {c : Nat × va_E} (h : va_D A (X ++ ((Y ++ G) ++ [c]))) : va_D A (X ++ (Y ++ c :: G)) := by
  have e : X ++ ((Y ++ G) ++ [c]) = ((X ++ Y) ++ G) ++ [c] := by simp only [List.append_assoc]
  rw [e] at h
  have h2 := h.swap
  have e2 : ((X ++ Y) ++ [c]) ++ G = X ++ (Y ++ c :: G) := by simp only [List.append_assoc, List.singleton_append]
  rw [e2] at h2
  exact h2
theorem qKx_out {X Y G : va_W} {c : Nat × va_E} : X ++ (Y ++ c :: G) = (X ++ (Y ++ [c])) ++ G := by simp only [List.append_assoc, List.singleton_append]
section QY
variable {p : Program} {l : Launch} {e : Env} {R : Room} {s : State} {m : MethodId} {args : Array Value} {below : List Frame} {meth : Method} {c : Code} {H : Heap} {locs : List Loc} {cells slots : Nat} {Q : State → Prop}
variable {pc : Nat} {ls : Array Slot} {rest As : List Value} {A : Nat → Prop} {H0 : Heap} {mc ms n index nL maxL : Nat} {D : zG} {tys tc : List (ClassId × FieldType)} {ws : va_W} {y : MethodName} {bytes cc : ByteArray} {ret : Option FieldType} {wsy Ts : List Cond} {rm : Room} {own : String} {n0 : Nat}
/-- a static call that takes the world and premises of its own, and answers a reference or null -/
theorem qcallqK {S' : Type} {post : Option Nat → S' → Prop} {tyf : S' → List (ClassId × FieldType)} {wf : S' → va_W} {KK : State → Prop} (S : CallFix p m c cc nL s args Ts own) (hM : Met l y wsy rm (zPcK D tc ws H.size KK As) (va_Qq post (zB D (va_A ws H.size) tyf n0 wf) (va_A ws H.size)) mc ms (va_A ws H.size)) (cw : CallB R s args own index y bytes maxL ret wsy rm mc ms n ∧ (Cond.static y).before args s = true)
    (hkb : ∀ (a : Array Value) (U : State) (g : JFrame) (mk : MethodId), KK U → KK (U.calling g mk a)) (hks : ∀ U : State, U.heap = H → s.WarmedH U.vm → KK U)
    (hK : va_K D vwCl tys s) (hP : va_P D vwCl ws H) (hD : va_D A ws) (hS : va_S A H0 H locs) (hA : ∀ q, H0.size ≤ q → A q) (it : List Nat) (hT : it.filterMap (fun i => tys[i]?) = tc)
    (ha : As.length = n) (hsz : ls.size = nL) {st : List Value} (hst : st = As.reverse ++ rest) (hW : (rest.map fun v => v.category).sum ≤ 8) (hdg : decode cc pc = .ok (.invokestatic index, 3)) (hf : cells + mc ≤ R.cells ∧ slots + ms ≤ R.slots)
    (kk : ∀ (r : Option Nat) (u : S') (H1 : Heap) (locs1 : List Loc), post r u → va_K D vwCl (tys ++ tyf u) s → va_P D vwCl (wf u) H1 → va_D A (wf u) → va_S A H0 H1 locs1 → W p l e R s m args below meth c H1 locs1 (cells + mc) (slots + ms) Q (F0 m (pc + 3) ls (va_rf r :: rest))) : W p l e R s m args below meth c H locs cells slots Q (F0 m pc ls st) := by
  have hF := qfree hD hS hA
  refine va_callq (va_runS (As := As) (rest := rest) S hM cw ⟨zPcK_blind hkb, fun U hU hW => by
    obtain ⟨a1, a2⟩ := zPc_in2 (av := As) hK hP hD it hT hU hW
    exact ⟨a1, a2, hks U hU hW⟩⟩ rfl ha hsz hst (lv_room hW) hdg hf) hS (fun q _ h => hF q h) hF (fun r u t H1 locs1 ht hvm hw hB hz1 hk1 hS1 => ?_)
  obtain ⟨g0, hP1, hK1, hD1⟩ := hB
  rw [ht] at hP1
  exact kk r u H1 locs1 hw (hK.app (va_K.moved hvm.symm hK1)) hP1 (hD1.weaken (fun _ _ _ h => hF _ h)) hS1
end QY
/-- one more of the law's kinds -/
theorem qKv_1 {N : qN0} {V : Nat → Nat → Nat} {i : Nat} {v : Nat → Nat} {F : Nat → Option Nat} {K : Nat → Nat} {q : Nat} (hv : v 5 < 4) (h : ∀ k, k < i → F k = some (K k) ∧ qKv N V k) : ∀ k, k < i + 1 → va_up F i (some q) k = some (if k = i then q else K k) ∧ qKv (qNk N i [i, v 0, v 1, v 2, v 3, v 4, v 5 % 2, v 5 / 2]) (fun k => if k = i then v else V k) k := by
  intro k hk
  by_cases h9 : k = i
  · subst h9
    refine ⟨by rw [va_up_self, if_pos rfl], ?_⟩
    have e : ∀ j, qNk N k [k, v 0, v 1, v 2, v 3, v 4, v 5 % 2, v 5 / 2] 2 k j = [k, v 0, v 1, v 2, v 3, v 4, v 5 % 2, v 5 / 2].getD j 0 := fun j => by simp [qNk]
    unfold qKv
    rw [e, e, e, e, e, e, e]
    simp only [if_pos rfl]
    exact ⟨rfl, rfl, rfl, rfl, rfl, rfl, rfl, hv⟩
  · obtain ⟨h1, h2⟩ := h k (by omega)
    refine ⟨by rw [va_up_ne _ _ h9, if_neg h9, h1], ?_⟩
    have e : ∀ j, qNk N i [i, v 0, v 1, v 2, v 3, v 4, v 5 % 2, v 5 / 2] 2 k j = N 2 k j := fun j => qNk_ne (by omega) (by omega)
    unfold qKv
    rw [e, e, e, e, e, e, e]
    simp only [if_neg h9]
    exact h2
theorem qru_P {D : zG} {x0 x1 x2 c : Nat × va_E} {Y : va_W} {H : Heap} (h : va_P D vwCl ((x0 :: x1 :: x2 :: Y) ++ [c]) H) : va_P D vwCl (x0 :: c :: x2 :: Y) H := h.by (fun k => if k = 1 then Y.length + 3 else k) (fun k q hk => by
  rcases (show k = 0 ∨ k = 1 ∨ 2 ≤ k by omega) with h | h | h
  · subst h; exact hk
  · subst h
    show ((x0 :: x1 :: x2 :: Y) ++ [c])[Y.length + 3]? = some q
    have e : (x0 :: x1 :: x2 :: Y).length = Y.length + 3 := rfl
    rw [← e, qgx]; exact hk
  · obtain ⟨j, rfl⟩ : ∃ j, k = j + 2 := ⟨k - 2, by omega⟩
    show ((x0 :: x1 :: x2 :: Y) ++ [c])[if j + 2 = 1 then Y.length + 3 else j + 2]? = some q
    rw [if_neg (by omega)]
    have hk2 : (x0 :: x1 :: x2 :: Y)[j + 2]? = some q := hk
    exact qat_l hk2)
theorem qru_D {A : Nat → Prop} {x0 x1 x2 c : Nat × va_E} {Y : va_W} (h : va_D A ((x0 :: x1 :: x2 :: Y) ++ [c])) : va_D A (x0 :: c :: x2 :: Y) := h.by (fun k => if k = 1 then Y.length + 3 else k) (fun k q hk => by
  rcases (show k = 0 ∨ k = 1 ∨ 2 ≤ k by omega) with h | h | h
  · subst h; exact hk
  · subst h
    show ((x0 :: x1 :: x2 :: Y) ++ [c])[Y.length + 3]? = some q
    have e : (x0 :: x1 :: x2 :: Y).length = Y.length + 3 := rfl
    rw [← e, qgx]; exact hk
  · obtain ⟨j, rfl⟩ : ∃ j, k = j + 2 := ⟨k - 2, by omega⟩
    show ((x0 :: x1 :: x2 :: Y) ++ [c])[if j + 2 = 1 then Y.length + 3 else j + 2]? = some q
    rw [if_neg (by omega)]
    have hk2 : (x0 :: x1 :: x2 :: Y)[j + 2]? = some q := hk
    exact qat_l hk2) (fun i j hi hj e => by
  have l1 : i < Y.length + 3 := hi
  have l2 : j < Y.length + 3 := hj
  have e : (if i = 1 then Y.length + 3 else i) = if j = 1 then Y.length + 3 else j := e
  split at e <;> split at e <;> omega)
