theorem qsub_le {a b : Nat} (ha : a < 2 ^ 30) (hb : b < 2 ^ 30) : nI a - nI b ≤ 0 ↔ a ≤ b := by
  rw [Int32.le_iff_toInt_le, pk_sub_toInt ha hb]
  show (a : Int) - b ≤ 0 ↔ _
  omega
theorem qmin {a b : Nat} (ha : a < 2 ^ 30) (hb : b < 2 ^ 30) : (if nI b < nI a then nI b else nI a) = nI (min a b) := by
  by_cases h : b < a
  · rw [if_pos ((nI_ltI (by omega) (by omega)).mpr h), Nat.min_eq_right (by omega)]
  · rw [if_neg (fun h9 => h ((nI_ltI (by omega) (by omega)).mp h9)), Nat.min_eq_left (by omega)]
theorem qmax {a b : Nat} (ha : a < 2 ^ 30) (hb : b < 2 ^ 30) : (if nI a < nI b then nI b else nI a) = nI (max a b) := by
  by_cases h : a < b
  · rw [if_pos ((nI_ltI (by omega) (by omega)).mpr h), Nat.max_eq_right (by omega)]
  · rw [if_neg (fun h9 => h ((nI_ltI (by omega) (by omega)).mp h9)), Nat.max_eq_left (by omega)]
/-- the greatest of some numbers -/
def qmx (f : Nat → Nat) : Nat → Nat
  | 0 => 0
  | n + 1 => max (qmx f n) (f n)
/-- which number of an item 'item' tells -/
def qwh (w : Nat) : Nat := [0, 6, 7, 8, 9, 3, 11, 0, 15, 10].getD w 0
section QD
variable {p : Program} {l : Launch} {e : Env} {R : Room} {s : State} {m : MethodId} {args : Array Value} {below : List Frame} {meth : Method} {c : Code} {H : Heap} {locs : List Loc} {cells slots : Nat} {Q : State → Prop}
variable {pc : Nat} {ls : Array Slot} {rest As : List Value} {A : Nat → Prop} {H0 : Heap} {mc ms n index nL maxL : Nat} {D : zG} {tys tc : List (ClassId × FieldType)} {wc : va_W} {y : MethodName} {bytes cc : ByteArray} {ret : Option FieldType} {wsy Ts : List Cond} {rm : Room} {own C : String} {b n0 : Nat}
theorem qrdVd {post : UInt64 → Prop} (S : CallFix p m c cc nL s args Ts own) (hM : Met l y wsy rm (zPc D tc wc H.size (.ref b :: As)) (vp_Sd post) 0 0 (fun _ => False)) (cw : CallW R s args own C index y bytes maxL ret wsy rm 0 0 n)
    (hK : va_K D vwCl tys s) (hPc : va_P D vwCl wc H) (hDc : va_D A wc) (it : List Nat) (hT : it.filterMap (fun i => tys[i]?) = tc)
    {ci q0 : Nat} {T : u_T} {N : Nat} {fs : List Value} (hc : vwCl[ci]? = some (C, T, N)) (he : wc[q0]? = some (b, .inr (ci, fs)))
    (ha : As.length = n) (hsz : ls.size = nL) {st : List Value} (hst : st = As.reverse ++ .ref b :: rest) (hW : (rest.map fun v => v.category).sum ≤ 8) (hdg : decode cc pc = .ok (.invokevirtual index, 3)) (hf : cells ≤ R.cells ∧ slots ≤ R.slots)
    (kk : ∀ r : UInt64, post r → W p l e R s m args below meth c H locs cells slots Q (F0 m (pc + 3) ls (.double r :: rest))) : W p l e R s m args below meth c H locs cells slots Q (F0 m pc ls st) :=
  vp_callSd (W.runV (As := As) (rest := rest) S hM cw ⟨zPc_blind, va_recv hK hPc hc he, fun U hU hW => zPc_in2 hK hPc hDc it hT hU hW⟩ rfl ha hsz hst (lv_room hW) hdg hf) kk
theorem zrdS2 {post : Int32 → Prop} (S : CallFix p m c cc nL s args Ts own) (hM : Met l y wsy rm (zPc D tc wc H.size As) (vp_Si post) 0 0 (fun _ => False)) (cw : CallB R s args own index y bytes maxL ret wsy rm 0 0 n ∧ (Cond.static y).before args s = true)
    (hK : va_K D vwCl tys s) (hPc : va_P D vwCl wc H) (hDc : va_D A wc) (it : List Nat) (hT : it.filterMap (fun i => tys[i]?) = tc)
    (ha : As.length = n) (hsz : ls.size = nL) {st : List Value} (hst : st = As.reverse ++ rest) (hW : (rest.map fun v => v.category).sum ≤ 8) (hdg : decode cc pc = .ok (.invokestatic index, 3)) (hf : cells ≤ R.cells ∧ slots ≤ R.slots)
    (kk : ∀ r : Int32, post r → W p l e R s m args below meth c H locs cells slots Q (F0 m (pc + 3) ls (.int r :: rest))) : W p l e R s m args below meth c H locs cells slots Q (F0 m pc ls st) :=
  vp_callSi (W.runS (As := As) (rest := rest) S hM cw ⟨zPc_blind, fun U hU hW => zPc_in2 hK hPc hDc it hT hU hW⟩ rfl ha hsz hst (lv_room hW) hdg hf) kk
end QD
theorem qmx_le {f : Nat → Nat} {n b : Nat} (h : ∀ i, i < n → f i ≤ b) : qmx f n ≤ b := by
  induction n with
  | zero => exact Nat.zero_le _
  | succ n ih =>
    have h1 := ih (fun i hi => h i (by omega))
    have h2 := h n (by omega)
    simp only [qmx]; omega
theorem qOKs {B : qB} {N N' : qN0} (h : qOK B N) (h4 : ∀ j, j ≠ 6 → j ≠ 7 → N' 4 1 j = N 4 1 j) (h13 : ∀ i, i < 60 → N' 0 i 13 = N 0 i 13) : qOK B N' := by
  obtain ⟨o1, o2, o3, o4, o5, o6, o7, o8, o9⟩ := h
  have e5 := h4 5 (by decide) (by decide)
  refine ⟨o1, o2, o3, by rw [h4 0 (by decide) (by decide)]; exact o4, by rw [h4 8 (by decide) (by decide)]; exact o5, o6, o7, by rw [e5]; exact o8, fun i hi => ?_⟩
  rw [e5] at hi
  rw [h13 i (by omega)]
  exact o9 i hi
/-- the next loads forgotten -/
def qz (N : qN0) (n : Nat) : qN0 := fun c i j => if c = 0 ∧ j = 12 ∧ i < n then 0 else N c i j
theorem qz_0 (N : qN0) : qz N 0 = N := by funext c i j; simp [qz]
theorem qz_1 (N : qN0) (n : Nat) : qp (qz N n) 0 n 12 0 = qz N (n + 1) := by
  funext c i j
  simp only [qp, qz]
  by_cases h : c = 0 ∧ i = n ∧ j = 12
  · rw [if_pos h, if_pos ⟨h.1, h.2.2, by omega⟩]
  · rw [if_neg h]
    by_cases h2 : c = 0 ∧ j = 12 ∧ i < n
    · rw [if_pos h2, if_pos ⟨h2.1, h2.2.1, by omega⟩]
    · rw [if_neg h2, if_neg (fun h3 => by
        by_cases h4 : i = n
        · exact h ⟨h3.1, h4, h3.2.1⟩
        · exact h2 ⟨h3.1, h3.2.1, by omega⟩)]
theorem qz_ne (N : qN0) (n : Nat) {c i j : Nat} (h : c ≠ 0 ∨ j ≠ 12 ∨ n ≤ i) : qz N n c i j = N c i j := by
  unfold qz
  rw [if_neg (fun h9 => by omega)]
theorem qz_M {N : qN0} {n : Nat} (h : qM N) : qM (qz N n) := fun c i j => by
  unfold qz
  split
  · exact Nat.zero_le _
  · exact h c i j
/-- the next loads, all of them -/
def qcol (N : qN0) (v : Nat → Nat) : qN0 := fun c i j => if c = 0 ∧ j = 12 then v i else N c i j
theorem qcol_0 (N : qN0) : qcol N (fun k => N 0 k 12) = N := by
  funext c i j
  unfold qcol
  split
  · rename_i h; rw [h.1, h.2]
  · rfl
theorem qcol_1 (N : qN0) (v : Nat → Nat) (i x : Nat) : qp (qcol N v) 0 i 12 x = qcol N (qu v i x) := by
  funext c i' j
  simp only [qp, qcol, qu]
  by_cases h : c = 0 ∧ j = 12
  · by_cases h2 : i' = i <;> simp [h, h2]
  · rw [if_neg h, if_neg (fun h3 => h ⟨h3.1, h3.2.2⟩), if_neg h]
theorem qcol_eq (N : qN0) (v : Nat → Nat) (i : Nat) : qcol N v 0 i 12 = v i := by simp [qcol]
theorem qcol_ne (N : qN0) (v : Nat → Nat) {c i j : Nat} (h : c ≠ 0 ∨ j ≠ 12) : qcol N v c i j = N c i j := by
  unfold qcol
  rw [if_neg (fun h9 => by omega)]
theorem qPs_congr {S C C' : Nat → Nat} {t g n : Nat} {v v' : Nat → Nat} {m : Nat} (hS : ∀ j, j < m → S j < n) (hC : ∀ j, j < m → C j = C' j) (hv : ∀ i, i < n → v i = v' i) : ∀ i, i < n → qPs S C t g v m i = qPs S C' t g v' m i := by
  induction m with
  | zero => exact hv
  | succ m ih =>
    intro i hi
    have h1 := ih (fun j hj => hS j (by omega)) (fun j hj => hC j (by omega))
    show qu _ _ _ i = qu _ _ _ i
    unfold qu
    split
    · rw [h1 (S m) (hS m (by omega)), hC m (by omega)]
    · exact h1 i hi
/-- what is known of the loads' data: each item rests on earlier ones -/
def qS9 (B : qB) (R : qR0) (N : qN0) (S : Nat → Nat → Nat) (n : Nat) : Prop := ∀ i, i < n → N 0 i 15 ≤ 36 ∧ 0 < N 0 i 10 ∧ N 0 i 1 ≤ 1000 ∧ ∀ j, j < N 0 i 15 → R i j = some (qA B 0 (S i j)) ∧ S i j < i ∧ N 1 i j ≤ 36
/-- the loads of the items, out of the numbers -/
def qLN (S : Nat → Nat → Nat) (N : qN0) (n : Nat) : Nat → Nat → Nat := qLd S (N 1) (fun i => N 0 i 1) (fun i => N 0 i 10) (fun i => N 0 i 15) n (fun _ => 0)
theorem qLN_1 (S : Nat → Nat → Nat) (N : qN0) (n k : Nat) : qLN S N n (k + 1) = qPs (S (n - 1 - k)) (N 1 (n - 1 - k)) (N 0 (n - 1 - k) 1 + qLN S N n k (n - 1 - k)) (N 0 (n - 1 - k) 10) (qLN S N n k) (N 0 (n - 1 - k) 15) := rfl
