/-- the places of the right part, of the left part -/
def qCi (X wc : va_W) : List Nat := (List.range wc.length).map (X.length + ·)
def qRi (X : va_W) : List Nat := List.range X.length
theorem qnd_of {l : List Nat} (h : l.Nodup) : va_nd l = true := by
  induction l with
  | nil => rfl
  | cons a l ih =>
    rw [List.nodup_cons] at h
    simp [va_nd, h.1, ih h.2]
theorem qCi_C (X wc : va_W) : (qCi X wc).map (fun i => (X ++ wc)[i]?) = wc.map some := by
  apply List.ext_getElem?
  intro k
  simp only [qCi, List.map_map, List.getElem?_map]
  by_cases h : k < wc.length
  · rw [List.getElem?_range h]
    simp [List.getElem?_append_right, h]
  · rw [List.getElem?_eq_none (by simpa using h), List.getElem?_eq_none (by simpa using h)]
    rfl
theorem qRi_R (X wc : va_W) : (qRi X).map (fun i => (X ++ wc)[i]?) = X.map some := by
  apply List.ext_getElem?
  intro k
  simp only [qRi, List.getElem?_map]
  by_cases h : k < X.length
  · rw [List.getElem?_range h]
    simp [List.getElem?_append_left, h]
  · rw [List.getElem?_eq_none (by simpa using h), List.getElem?_eq_none (by simpa using h)]
    rfl
theorem qCi_nd (X wc : va_W) : va_nd (qCi X wc) = true := by
  apply qnd_of
  unfold qCi
  rw [List.nodup_iff_pairwise_ne, List.pairwise_map]
  exact (List.nodup_iff_pairwise_ne.mp List.nodup_range).imp (fun h h9 => h (by omega))
theorem qRi_nd (X : va_W) : va_nd (qRi X) = true := qnd_of List.nodup_range
theorem qRi_dis (X wc : va_W) : ∀ i ∈ qRi X, i ∉ qCi X wc := fun i hi h => by
  have h1 := List.mem_range.mp hi
  obtain ⟨j, -, rfl⟩ := List.mem_map.mp h
  omega
theorem qRA {U : State} {c1 c2 : ClassId} {t : FieldType} (h1 : va_RA U c1 t) (h2 : va_RA U c2 t) : c1 = c2 := by
  cases t <;> first
    | (obtain ⟨-, -, -, -, -, e1⟩ := h1; obtain ⟨-, -, -, -, -, e2⟩ := h2; exact Option.some.inj (e1.symm.trans e2))
    | exact Option.some.inj (h1.symm.trans h2)
theorem qKu {D : zG} {tys : List (ClassId × FieldType)} {U : State} {i j : Nat} {c1 c2 : ClassId} {t : FieldType} (h : va_K D vwCl tys U) (h1 : tys[i]? = some (c1, t)) (h2 : tys[j]? = some (c2, t)) : c1 = c2 := qRA (h.2 i _ h1).2 (h.2 j _ h2).2
/-- the new items, three cells each -/
def qpf (cI cT : ClassId) (G : Nat → Nat) (e : Nat) : Nat × va_E := if e % 3 = 0 then (G e, .inr (0, [.int 0, .int 0, .int 0, .int 0, .int 0, .int 0, .int 0, .int 0, .int 0, .int 0, .int 0, .int 0, .int 0, .int 0, .int 0, .int 0, .ref (G (e + 1)), .ref (G (e + 2))])) else if e % 3 = 1 then (G e, .inl (cI, 36, .inr (.inr (.inr (.inr (fun _ => none)))))) else (G e, .inl (cT, 36, .inl (fun _ => 0)))
def qpl (cI cT : ClassId) (G : Nat → Nat) (n : Nat) : va_W := (List.range (3 * n)).map (qpf cI cT G)
def qG3 (G : Nat → Nat) (n h a b : Nat) : Nat → Nat := fun e => if e = 3 * n then h else if e = 3 * n + 1 then a else if e = 3 * n + 2 then b else G e
theorem qpl_1 (cI cT : ClassId) (G : Nat → Nat) (n h a b : Nat) : qpl cI cT G n ++ [(h, .inr (0, [.int 0, .int 0, .int 0, .int 0, .int 0, .int 0, .int 0, .int 0, .int 0, .int 0, .int 0, .int 0, .int 0, .int 0, .int 0, .int 0, .ref a, .ref b])), (a, .inl (cI, 36, .inr (.inr (.inr (.inr (fun _ => none)))))), (b, .inl (cT, 36, .inl (fun _ => 0)))] = qpl cI cT (qG3 G n h a b) (n + 1) := by
  unfold qpl
  rw [show 3 * (n + 1) = 3 * n + 1 + 1 + 1 by omega, List.range_succ, List.range_succ, List.range_succ]
  simp only [List.map_append, List.map_cons, List.map_nil, List.append_assoc]
  congr 1
  · apply List.map_congr_left
    intro e he
    have he := List.mem_range.mp he
    unfold qpf qG3
    rw [if_neg (show ¬ e = 3 * n by omega), if_neg (show ¬ e = 3 * n + 1 by omega), if_neg (show ¬ e = 3 * n + 2 by omega)]
    by_cases h0 : e % 3 = 0
    · rw [if_pos h0, if_pos h0, if_neg (show ¬ e + 1 = 3 * n by omega), if_neg (show ¬ e + 1 = 3 * n + 1 by omega), if_neg (show ¬ e + 1 = 3 * n + 2 by omega), if_neg (show ¬ e + 2 = 3 * n by omega), if_neg (show ¬ e + 2 = 3 * n + 1 by omega), if_neg (show ¬ e + 2 = 3 * n + 2 by omega)]
    · rw [if_neg h0, if_neg h0]
  · have e1 : qpf cI cT (qG3 G n h a b) (3 * n) = (h, .inr (0, [.int 0, .int 0, .int 0, .int 0, .int 0, .int 0, .int 0, .int 0, .int 0, .int 0, .int 0, .int 0, .int 0, .int 0, .int 0, .int 0, .ref a, .ref b])) := by
      unfold qpf qG3
      rw [if_pos (show 3 * n % 3 = 0 by omega), if_pos rfl, if_neg (show ¬ 3 * n + 1 = 3 * n by omega), if_pos rfl, if_neg (show ¬ 3 * n + 2 = 3 * n by omega), if_neg (show ¬ 3 * n + 2 = 3 * n + 1 by omega), if_pos rfl]
    have e2 : qpf cI cT (qG3 G n h a b) (3 * n + 1) = (a, .inl (cI, 36, .inr (.inr (.inr (.inr (fun _ => none)))))) := by
      unfold qpf qG3
      rw [if_neg (show ¬ (3 * n + 1) % 3 = 0 by omega), if_pos (show (3 * n + 1) % 3 = 1 by omega), if_neg (show ¬ 3 * n + 1 = 3 * n by omega), if_pos rfl]
    have e3 : qpf cI cT (qG3 G n h a b) (3 * n + 1 + 1) = (b, .inl (cT, 36, .inl (fun _ => 0))) := by
      unfold qpf qG3
      rw [if_neg (show ¬ (3 * n + 1 + 1) % 3 = 0 by omega), if_neg (show ¬ (3 * n + 1 + 1) % 3 = 1 by omega), if_neg (show ¬ 3 * n + 1 + 1 = 3 * n by omega), if_neg (show ¬ 3 * n + 1 + 1 = 3 * n + 1 by omega), if_pos rfl]
    rw [e1, e2, e3]
    rfl
theorem qpl_at {cI cT : ClassId} {G : Nat → Nat} {n e : Nat} {HD : va_W} (hl : HD.length = 8) (h : e < 3 * n) : (HD ++ qpl cI cT G n)[8 + e]? = some (qpf cI cT G e) := by
  rw [List.getElem?_append_right (by omega), hl, Nat.add_sub_cancel_left]
  unfold qpl
  simp [h]
/-- the numbers of a new object -/
def qNew : qN0 := fun c i j => if c = 4 ∧ i = 1 ∧ j = 1 then 20 else if c = 4 ∧ i = 1 ∧ j = 2 then 60 else if c = 4 ∧ i = 1 ∧ j = 3 then 2000 else 0
def qRn : qR0 := fun _ _ => none
/-- its base -/
def qBn (cK cI cT cL : ClassId) (G : Nat → Nat) (o kA iA tA lA t0 t1 t2 : Nat) (f : Nat → Option Nat) : qB := (fun i => if i = 0 then cK else if i = 1 then cI else if i = 2 then cT else cL, fun c i => if c ≤ 2 then (if i = 60 then (if c = 0 then t0 else if c = 1 then t1 else t2) else G (3 * i + c)) else if c = 5 then (if i = 0 then o else if i = 1 then kA else if i = 2 then iA else if i = 3 then tA else lA) else 0, fun c => if c = 1 then f else fun _ => none, 0, 0)
def qHD (cK cI cT cL : ClassId) (o kA iA tA lA t0 t1 t2 : Nat) (f : Nat → Option Nat) : va_W := [(o, .inr (3, [.ref kA, .int 0, .int 20, .int 60, .int 2000, .int 0, .ref iA, .int 0, .int 0, .int 0, .ref tA, .ref t0, .ref lA, .int 0])), (kA, .inl (cK, 10, .inr (.inr (.inr (.inr (fun _ => none)))))), (iA, .inl (cI, 60, .inr (.inr (.inr (.inr f))))), (tA, .inl (cT, 120, .inl (fun _ => 0))), (lA, .inl (cL, 20, .inr (.inr (.inr (.inr (fun _ => none)))))), (t0, .inr (0, [.int 0, .int 0, .int 0, .int 0, .int 0, .int 0, .int 0, .int 0, .int 0, .int 0, .int 0, .int 0, .int 0, .int 0, .int 0, .int 0, .ref t1, .ref t2])), (t1, .inl (cI, 36, .inr (.inr (.inr (.inr (fun _ => none)))))), (t2, .inl (cT, 36, .inl (fun _ => 0)))]
def qni (k : Nat) : Nat := if k < 5 then k else if k < 66 then (if k = 65 then 5 else 8 + (3 * (k - 5))) else if k < 127 then (if k = 126 then 6 else 8 + (3 * (k - 66) + 1)) else (if k = 187 then 7 else 8 + (3 * (k - 127) + 2))
set_option maxRecDepth 100000 in
theorem qnew {cK cI cT cL : ClassId} {G : Nat → Nat} {o kA iA tA lA t0 t1 t2 : Nat} {f : Nat → Option Nat} : ∀ (k : Nat) (q : Nat × va_E), (qG (qBn cK cI cT cL G o kA iA tA lA t0 t1 t2 f) qRn qNew)[k]? = some q → k < 188 ∧ (qHD cK cI cT cL o kA iA tA lA t0 t1 t2 f ++ qpl cI cT G 60)[qni k]? = some q := by
  intro k q hk
  rw [qG_x] at hk
  have hlen : (qHD cK cI cT cL o kA iA tA lA t0 t1 t2 f).length = 8 := rfl
  by_cases h5 : k < 5
  · refine ⟨by omega, ?_⟩
    rw [show qni k = k from if_pos h5]
    rw [List.getElem?_append_left (by show k < 5; exact h5)] at hk
    rw [List.getElem?_append_left (by rw [hlen]; omega), ← hk]
    rcases (show k = 0 ∨ k = 1 ∨ k = 2 ∨ k = 3 ∨ k = 4 by omega) with h | h | h | h | h <;> subst h <;> rfl
  · by_cases h66 : k < 66
    · refine ⟨by omega, ?_⟩
      rw [show k = 5 + (k - 5) by omega, qTl_i rfl (by omega)] at hk
      by_cases h65 : k = 65
      · subst h65
        rw [← hk]
        rfl
      · rw [show qni k = 8 + (3 * (k - 5)) by unfold qni; rw [if_neg h5, if_pos h66, if_neg h65], qpl_at hlen (by omega), ← hk]
        unfold qpf qi
        rw [if_pos (show 3 * (k - 5) % 3 = 0 by omega)]
        have a0 : qA (qBn cK cI cT cL G o kA iA tA lA t0 t1 t2 f) 0 (k - 5) = G (3 * (k - 5)) := by
          show (if k - 5 = 60 then _ else G (3 * (k - 5) + 0)) = _
          rw [if_neg (by omega)]
          rfl
        have a1 : qA (qBn cK cI cT cL G o kA iA tA lA t0 t1 t2 f) 1 (k - 5) = G (3 * (k - 5) + 1) := by
          show (if k - 5 = 60 then _ else G (3 * (k - 5) + 1)) = _
          rw [if_neg (by omega)]
        have a2 : qA (qBn cK cI cT cL G o kA iA tA lA t0 t1 t2 f) 2 (k - 5) = G (3 * (k - 5) + 2) := by
          show (if k - 5 = 60 then _ else G (3 * (k - 5) + 2)) = _
          rw [if_neg (by omega)]
        unfold qIt
        rw [a0, a1, a2]
        rfl
    · by_cases h127 : k < 127
      · refine ⟨by omega, ?_⟩
        rw [show k = 66 + (k - 66) by omega, qTl_s rfl (by omega)] at hk
        by_cases h65 : k = 126
        · subst h65
          rw [← hk]
          rfl
        · rw [show qni k = 8 + (3 * (k - 66) + 1) by unfold qni; rw [if_neg h5, if_neg h66, if_pos h127, if_neg h65], qpl_at hlen (by omega), ← hk]
          unfold qpf qs
          rw [if_neg (show ¬ (3 * (k - 66) + 1) % 3 = 0 by omega), if_pos (show (3 * (k - 66) + 1) % 3 = 1 by omega)]
          have a1 : qA (qBn cK cI cT cL G o kA iA tA lA t0 t1 t2 f) 1 (k - 66) = G (3 * (k - 66) + 1) := by
            show (if k - 66 = 60 then _ else G (3 * (k - 66) + 1)) = _
            rw [if_neg (by omega)]
          rw [a1]
          rfl
      · by_cases h188 : k < 188
        · refine ⟨h188, ?_⟩
          rw [show k = 127 + (k - 127) by omega, qTl_c rfl (by omega)] at hk
          by_cases h65 : k = 187
          · subst h65
            rw [← hk]
            rfl
          · rw [show qni k = 8 + (3 * (k - 127) + 2) by unfold qni; rw [if_neg h5, if_neg h66, if_neg h127, if_neg h65], qpl_at hlen (by omega), ← hk]
            unfold qpf qc
            rw [if_neg (show ¬ (3 * (k - 127) + 2) % 3 = 0 by omega), if_neg (show ¬ (3 * (k - 127) + 2) % 3 = 1 by omega)]
            have a2 : qA (qBn cK cI cT cL G o kA iA tA lA t0 t1 t2 f) 2 (k - 127) = G (3 * (k - 127) + 2) := by
              show (if k - 127 = 60 then _ else G (3 * (k - 127) + 2)) = _
              rw [if_neg (by omega)]
            rw [a2]
            rfl
        · rw [qTl_e rfl (by omega)] at hk
          exact absurd hk (by simp [qBn, qk, ql])
theorem qni_eq {k : Nat} (h : k < 188) : (k < 5 ∧ qni k = k) ∨ (5 ≤ k ∧ k < 65 ∧ qni k = 8 + 3 * (k - 5)) ∨ (k = 65 ∧ qni k = 5) ∨ (66 ≤ k ∧ k < 126 ∧ qni k = 8 + (3 * (k - 66) + 1)) ∨ (k = 126 ∧ qni k = 6) ∨ (127 ≤ k ∧ k < 187 ∧ qni k = 8 + (3 * (k - 127) + 2)) ∨ (k = 187 ∧ qni k = 7) := by
  unfold qni
  by_cases h5 : k < 5
  · rw [if_pos h5]; omega
  · rw [if_neg h5]
    by_cases h66 : k < 66
    · rw [if_pos h66]
      by_cases h65 : k = 65
      · rw [if_pos h65]; omega
      · rw [if_neg h65]; omega
    · rw [if_neg h66]
      by_cases h127 : k < 127
      · rw [if_pos h127]
        by_cases h65 : k = 126
        · rw [if_pos h65]; omega
        · rw [if_neg h65]; omega
      · rw [if_neg h127]
        by_cases h65 : k = 187
        · rw [if_pos h65]; omega
        · rw [if_neg h65]; omega
theorem qni_inj {i j : Nat} (hi : i < 188) (hj : j < 188) (h : qni i = qni j) : i = j := by
  have a := qni_eq hi
  have b := qni_eq hj
  omega
theorem qP_new {D : zG} {cK cI cT cL : ClassId} {G : Nat → Nat} {o kA iA tA lA t0 t1 t2 : Nat} {f : Nat → Option Nat} {H : Heap} (h : va_P D vwCl (qHD cK cI cT cL o kA iA tA lA t0 t1 t2 f ++ qpl cI cT G 60) H) : va_P D vwCl (qG (qBn cK cI cT cL G o kA iA tA lA t0 t1 t2 f) qRn qNew) H := h.by qni (fun k q hk => (qnew k q hk).2)
theorem qD_new {A : Nat → Prop} {cK cI cT cL : ClassId} {G : Nat → Nat} {o kA iA tA lA t0 t1 t2 : Nat} {f : Nat → Option Nat} (h : va_D A (qHD cK cI cT cL o kA iA tA lA t0 t1 t2 f ++ qpl cI cT G 60)) : va_D A (qG (qBn cK cI cT cL G o kA iA tA lA t0 t1 t2 f) qRn qNew) := h.by qni (fun k q hk => (qnew k q hk).2) (fun i j hi hj h => by
  have ha := List.getElem?_eq_getElem hi
  have hb := List.getElem?_eq_getElem hj
  exact qni_inj (qnew i _ ha).1 (qnew j _ hb).1 h)
/-- the invariant of a new object -/
theorem qNew_full {B : qB} (h1 : ∀ i, i < 60 → qF B 1 i = some (qA B 0 i)) (hk : qk B = 0) (hl : ql B = 0) : qFull B qRn qNew (fun _ _ => 0) := by
  have e5 : qNew 4 1 5 = 0 := rfl
  refine ⟨⟨h1, fun k hk9 => by omega, fun k hk9 => by omega, by rw [hk]; rfl, by rw [hl]; rfl, by omega, by omega, by rw [e5]; decide, fun i hi => absurd hi (by rw [e5]; omega)⟩, fun c i j => ?_, ⟨fun i hi => absurd hi (by rw [e5]; omega), fun k i _ hi => absurd hi (by rw [e5]; omega), fun i hi => absurd hi (by rw [e5]; omega), fun cx cy _ _ h => ?_⟩, fun i hi => absurd hi (by rw [e5]; omega), fun k hk9 => by omega, ⟨by decide, by decide, by decide, fun c => ?_⟩, fun i hi => absurd hi (by rw [e5]; omega), fun i hi => absurd hi (by rw [e5]; omega), ⟨rfl, rfl, by decide⟩⟩
  · unfold qNew; split
    · decide
    · split
      · decide
      · split <;> decide
  · have : qNew 4 0 (cy * 12 + cx) = 0 := by simp [qNew]
    omega
  · have : qNew 4 0 c = 0 := by simp [qNew]
    omega
theorem qgy {HD P l : va_W} {c : Nat × va_E} {k : Nat} (h : HD.length = k) : (HD ++ (P ++ c :: l))[k + P.length]? = some c := by
  subst h
  rw [List.getElem?_append_right (by omega), Nat.add_sub_cancel_left, List.getElem?_append_right (Nat.le_refl _), Nat.sub_self]
  rfl
theorem qHD_2 {cK cI cT cL : ClassId} {o kA iA tA lA t0 t1 t2 : Nat} {f f' : Nat → Option Nat} {Y : va_W} : (qHD cK cI cT cL o kA iA tA lA t0 t1 t2 f ++ Y).set 2 (iA, .inl (cI, 60, .inr (.inr (.inr (.inr f'))))) = qHD cK cI cT cL o kA iA tA lA t0 t1 t2 f' ++ Y := rfl
theorem qG3_0 (G : Nat → Nat) (n h a b : Nat) : qG3 G n h a b (3 * n) = h := by simp [qG3]
theorem qG3_j (G : Nat → Nat) {n j : Nat} (h a b : Nat) (hj : j < n) : qG3 G n h a b (3 * j) = G (3 * j) := by
  unfold qG3
  rw [if_neg (by omega), if_neg (by omega), if_neg (by omega)]
/-- a kind more, a line more -/
def qBk (B : qB) (a : Nat) : qB := (qY B, fun c i => if c = 3 ∧ i = qk B then a else qA B c i, fun c => if c = 0 then va_up (qF B 0) (qk B) (some a) else qF B c, qk B + 1, ql B)
def qNk (N : qN0) (k : Nat) (v : List Nat) : qN0 := fun c i j => if c = 2 ∧ i = k then v.getD j 0 else if c = 4 ∧ i = 1 ∧ j = 0 then k + 1 else N c i j
def qBl (B : qB) (a : Nat) : qB := (qY B, fun c i => if c = 4 ∧ i = ql B then a else qA B c i, fun c => if c = 2 then va_up (qF B 2) (ql B) (some a) else qF B c, qk B, ql B + 1)
def qNl (N : qN0) (l k x : Nat) : qN0 := fun c i j => if c = 3 ∧ i = l then [k, x, 0].getD j 0 else if c = 4 ∧ i = 1 ∧ j = 8 then l + 1 else N c i j
theorem qBk_A {B : qB} {a c i : Nat} (h : c ≠ 3 ∨ i ≠ qk B) : qA (qBk B a) c i = qA B c i := by
  show (if c = 3 ∧ i = qk B then a else qA B c i) = _
  exact if_neg (by omega)
theorem qBl_A {B : qB} {a c i : Nat} (h : c ≠ 4 ∨ i ≠ ql B) : qA (qBl B a) c i = qA B c i := by
  show (if c = 4 ∧ i = ql B then a else qA B c i) = _
  exact if_neg (by omega)
theorem qNk_ne {N : qN0} {k : Nat} {v : List Nat} {c i j : Nat} (h1 : c ≠ 2 ∨ i ≠ k) (h2 : c ≠ 4 ∨ i ≠ 1 ∨ j ≠ 0) : qNk N k v c i j = N c i j := by
  unfold qNk
  rw [if_neg (by omega), if_neg (by omega)]
theorem qNl_ne {N : qN0} {l k x : Nat} {c i j : Nat} (h1 : c ≠ 3 ∨ i ≠ l) (h2 : c ≠ 4 ∨ i ≠ 1 ∨ j ≠ 8) : qNl N l k x c i j = N c i j := by
  unfold qNl
  rw [if_neg (by omega), if_neg (by omega)]
theorem qG_kind {B : qB} {R : qR0} {N : qN0} {a : Nat} {v : List Nat} (hl : ql B = 0) :
    ((qG B R N ++ ([(a, .inr (1, qKd (fun j => v.getD j 0)))] : va_W)).set 1 (qA B 5 1, .inl (qY B 0, 10, .inr (.inr (.inr (.inr (va_up (qF B 0) (qk B) (some a)))))))).set 0 (qA B 5 0, .inr (3, (qOb (qA B) (N 4 1)).set 1 (.int (nI (qk B + 1))))) = qG (qBk B a) R (qNk N (qk B) v) := by
  have e1 : qi (qBk B a) (qNk N (qk B) v) = qi B N := by
    funext i
    unfold qi qIt
    rw [qBk_A (by omega), qBk_A (by omega), qBk_A (by omega)]
    rw [show qNk N (qk B) v 0 i = N 0 i by funext j; exact qNk_ne (by omega) (by omega)]
  have e2 : qs (qBk B a) R = qs B R := by
    funext i
    unfold qs
    rw [qBk_A (by omega)]
    rfl
  have e3 : qc (qBk B a) (qNk N (qk B) v) = qc B N := by
    funext i
    unfold qc
    rw [qBk_A (by omega), show qNk N (qk B) v 1 i = N 1 i by funext j; exact qNk_ne (by omega) (by omega)]
    rfl
  have e4 : (List.range (qk B + 1)).map (qd (qBk B a) (qNk N (qk B) v)) = (List.range (qk B)).map (qd B N) ++ [(a, .inr (1, qKd (fun j => v.getD j 0)))] := by
    rw [List.range_succ, List.map_append]
    congr 1
    · apply List.map_congr_left
      intro k hk
      have hk := List.mem_range.mp hk
      unfold qd
      rw [qBk_A (by omega), show qNk N (qk B) v 2 k = N 2 k by funext j; exact qNk_ne (by omega) (by omega)]
    · show [qd (qBk B a) (qNk N (qk B) v) (qk B)] = _
      unfold qd
      rw [show qNk N (qk B) v 2 (qk B) = fun j => v.getD j 0 by funext j; simp [qNk], show qA (qBk B a) 3 (qk B) = a by show (if 3 = 3 ∧ qk B = qk B then a else _) = a; rw [if_pos ⟨rfl, rfl⟩]]
  have e5 : (List.range (ql (qBk B a))).map (qn (qBk B a) (qNk N (qk B) v)) = [] := by
    rw [show ql (qBk B a) = 0 from hl]
    rfl
  have e6 : (List.range (ql B)).map (qn B N) = [] := by
    rw [hl]
    rfl
  have e7 : qH (qBk B a) (qNk N (qk B) v) = ((qH B N).set 1 (qA B 5 1, .inl (qY B 0, 10, .inr (.inr (.inr (.inr (va_up (qF B 0) (qk B) (some a)))))))).set 0 (qA B 5 0, .inr (3, (qOb (qA B) (N 4 1)).set 1 (.int (nI (qk B + 1))))) := by
    unfold qH qOb
    rw [qBk_A (by omega), qBk_A (by omega), qBk_A (by omega), qBk_A (by omega), qBk_A (by omega), qBk_A (by omega)]
    rw [show qNk N (qk B) v 4 0 = N 4 0 by funext j; exact qNk_ne (by omega) (by omega), show qNk N (qk B) v 4 1 0 = qk B + 1 by simp [qNk]]
    rw [qNk_ne (N := N) (c := 4) (i := 1) (j := 1) (by omega) (by omega), qNk_ne (N := N) (c := 4) (i := 1) (j := 2) (by omega) (by omega), qNk_ne (N := N) (c := 4) (i := 1) (j := 3) (by omega) (by omega), qNk_ne (N := N) (c := 4) (i := 1) (j := 4) (by omega) (by omega), qNk_ne (N := N) (c := 4) (i := 1) (j := 5) (by omega) (by omega), qNk_ne (N := N) (c := 4) (i := 1) (j := 6) (by omega) (by omega), qNk_ne (N := N) (c := 4) (i := 1) (j := 7) (by omega) (by omega), qNk_ne (N := N) (c := 4) (i := 1) (j := 8) (by omega) (by omega)]
    rfl
  unfold qG
  rw [e1, e2, e3, e5, e6, e7, show qk (qBk B a) = qk B + 1 from rfl, e4]
  simp only [List.append_nil]
  rw [List.set_append_left _ _ (by simp only [List.length_append, List.length_map, List.length_range, qH_len, List.length_set]; omega), List.set_append_left _ _ (by simp only [List.length_append, List.length_map, List.length_range, qH_len, List.length_set]; omega), List.set_append_left _ _ (by simp only [List.length_append, List.length_map, List.length_range, qH_len, List.length_set]; omega), List.set_append_left _ _ (by simp only [List.length_append, List.length_map, List.length_range, qH_len, List.length_set]; omega)]
  simp only [List.append_assoc]
theorem qG_line {B : qB} {R : qR0} {N : qN0} {a k x : Nat} (hk : k < qk B) :
    ((qG B R N ++ ([(a, .inr (2, [.ref (qA B 3 k), .int (nI x), .int (nI 0)]))] : va_W)).set 4 (qA B 5 4, .inl (qY B 3, 20, .inr (.inr (.inr (.inr (va_up (qF B 2) (ql B) (some a)))))))).set 0 (qA B 5 0, .inr (3, (qOb (qA B) (N 4 1)).set 13 (.int (nI (ql B + 1))))) = qG (qBl B a) R (qNl N (ql B) k x) := by
  have e1 : qi (qBl B a) (qNl N (ql B) k x) = qi B N := by
    funext i
    unfold qi qIt
    rw [qBl_A (by omega), qBl_A (by omega), qBl_A (by omega)]
    rw [show qNl N (ql B) k x 0 i = N 0 i by funext j; exact qNl_ne (by omega) (by omega)]
  have e2 : qs (qBl B a) R = qs B R := by
    funext i
    unfold qs
    rw [qBl_A (by omega)]
    rfl
  have e3 : qc (qBl B a) (qNl N (ql B) k x) = qc B N := by
    funext i
    unfold qc
    rw [qBl_A (by omega), show qNl N (ql B) k x 1 i = N 1 i by funext j; exact qNl_ne (by omega) (by omega)]
    rfl
  have e4 : qd (qBl B a) (qNl N (ql B) k x) = qd B N := by
    funext i
    unfold qd
    rw [qBl_A (by omega), show qNl N (ql B) k x 2 i = N 2 i by funext j; exact qNl_ne (by omega) (by omega)]
  have e5 : (List.range (ql B + 1)).map (qn (qBl B a) (qNl N (ql B) k x)) = (List.range (ql B)).map (qn B N) ++ [(a, .inr (2, [.ref (qA B 3 k), .int (nI x), .int (nI 0)]))] := by
    rw [List.range_succ, List.map_append]
    congr 1
    · apply List.map_congr_left
      intro i hi
      have hi := List.mem_range.mp hi
      unfold qn qLn
      rw [qBl_A (by omega), qBl_A (by omega), show qNl N (ql B) k x 3 i = N 3 i by funext j; exact qNl_ne (by omega) (by omega)]
    · show [qn (qBl B a) (qNl N (ql B) k x) (ql B)] = _
      unfold qn qLn
      rw [show qNl N (ql B) k x 3 (ql B) = fun j => [k, x, 0].getD j 0 by funext j; simp [qNl], qBl_A (c := 3) (by omega), show qA (qBl B a) 4 (ql B) = a by show (if 4 = 4 ∧ ql B = ql B then a else _) = a; rw [if_pos ⟨rfl, rfl⟩]]
      rfl
  have e7 : qH (qBl B a) (qNl N (ql B) k x) = ((qH B N).set 4 (qA B 5 4, .inl (qY B 3, 20, .inr (.inr (.inr (.inr (va_up (qF B 2) (ql B) (some a)))))))).set 0 (qA B 5 0, .inr (3, (qOb (qA B) (N 4 1)).set 13 (.int (nI (ql B + 1))))) := by
    unfold qH qOb
    rw [qBl_A (by omega), qBl_A (by omega), qBl_A (by omega), qBl_A (by omega), qBl_A (by omega), qBl_A (by omega)]
    rw [show qNl N (ql B) k x 4 0 = N 4 0 by funext j; exact qNl_ne (by omega) (by omega), show qNl N (ql B) k x 4 1 8 = ql B + 1 by simp [qNl]]
    rw [qNl_ne (N := N) (c := 4) (i := 1) (j := 0) (by omega) (by omega), qNl_ne (N := N) (c := 4) (i := 1) (j := 1) (by omega) (by omega), qNl_ne (N := N) (c := 4) (i := 1) (j := 2) (by omega) (by omega), qNl_ne (N := N) (c := 4) (i := 1) (j := 3) (by omega) (by omega), qNl_ne (N := N) (c := 4) (i := 1) (j := 4) (by omega) (by omega), qNl_ne (N := N) (c := 4) (i := 1) (j := 5) (by omega) (by omega), qNl_ne (N := N) (c := 4) (i := 1) (j := 6) (by omega) (by omega), qNl_ne (N := N) (c := 4) (i := 1) (j := 7) (by omega) (by omega)]
    rfl
  unfold qG
  rw [e1, e2, e3, e4, e7, show ql (qBl B a) = ql B + 1 from rfl, show qk (qBl B a) = qk B from rfl, e5]
  rw [List.set_append_left _ _ (by simp only [List.length_append, List.length_map, List.length_range, qH_len, List.length_set]; omega), List.set_append_left _ _ (by simp only [List.length_append, List.length_map, List.length_range, qH_len, List.length_set]; omega), List.set_append_left _ _ (by simp only [List.length_append, List.length_map, List.length_range, qH_len, List.length_set]; omega), List.set_append_left _ _ (by simp only [List.length_append, List.length_map, List.length_range, qH_len, List.length_set]; omega)]
  simp only [List.append_assoc]
theorem qgx {X : va_W} {c : Nat × va_E} : (X ++ [c])[X.length]? = some c := by simp
