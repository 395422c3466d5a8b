/-! mine: what a state of the class is: a base (class numbers, addresses, the arrays of references, how many kinds and lines), the supports, and numbers.
 addresses qA: 0 i an item's cell (60: the trial), 1 i its array of supports, 2 i its array of their cells, 3 k a kind, 4 l a line, 5 0 the object, 5 1 kinds, 5 2 items, 5 3 tops, 5 4 lines.
 numbers N: 0 i j an item's number j (0 kind, 1 weight, 2 strength, 3 isTurned, 4 width, 5 depth, 6 x, 7 y, 8 bottom, 9 top, 10 ground, 11 load, 12 nextLoad, 13 isOnPallet, 14 isReached, 15 supportCount), 1 i j the cells of its support j, 2 k j a kind's number j, 3 l j a line's (0 its kind, 1 count, 2 isAside), 4 0 c the top of cell c, 4 1 j the object's number j (0 kindCount, 1 greatestHeight, 2 support, 3 limit, 4 corners, 5 cameCount, 6 onPalletCount, 7 weightOnPallet, 8 lineCount) -/
abbrev qB : Type := (Nat → ClassId) × (Nat → Nat → Nat) × (Nat → Nat → Option Nat) × Nat × Nat
abbrev qY (B : qB) : Nat → ClassId := B.1
abbrev qA (B : qB) : Nat → Nat → Nat := B.2.1
abbrev qF (B : qB) : Nat → Nat → Option Nat := B.2.2.1
abbrev qk (B : qB) : Nat := B.2.2.2.1
abbrev ql (B : qB) : Nat := B.2.2.2.2
abbrev qR0 : Type := Nat → Nat → Option Nat
abbrev qN0 : Type := Nat → Nat → Nat → Nat
def qIt (A : Nat → Nat → Nat) (i : Nat) (g : Nat → Nat) : List Value := [.int (nI (g 0)), .int (nI (g 1)), .int (nI (g 2)), .int (nI (g 3)), .int (nI (g 4)), .int (nI (g 5)), .int (nI (g 6)), .int (nI (g 7)), .int (nI (g 8)), .int (nI (g 9)), .int (nI (g 10)), .int (nI (g 11)), .int (nI (g 12)), .int (nI (g 13)), .int (nI (g 14)), .int (nI (g 15)), .ref (A 1 i), .ref (A 2 i)]
def qKd (g : Nat → Nat) : List Value := [.int (nI (g 0)), .int (nI (g 1)), .int (nI (g 2)), .int (nI (g 3)), .int (nI (g 4)), .int (nI (g 5)), .int (nI (g 6)), .int (nI (g 7))]
def qLn (A : Nat → Nat → Nat) (g : Nat → Nat) : List Value := [.ref (A 3 (g 0)), .int (nI (g 1)), .int (nI (g 2))]
def qOb (A : Nat → Nat → Nat) (g : Nat → Nat) : List Value := [.ref (A 5 1), .int (nI (g 0)), .int (nI (g 1)), .int (nI (g 2)), .int (nI (g 3)), .int (nI (g 4)), .ref (A 5 2), .int (nI (g 5)), .int (nI (g 6)), .int (nI (g 7)), .ref (A 5 3), .ref (A 0 60), .ref (A 5 4), .int (nI (g 8))]
def qi (B : qB) (N : qN0) (i : Nat) : Nat × va_E := (qA B 0 i, .inr (0, qIt (qA B) i (N 0 i)))
def qs (B : qB) (R : qR0) (i : Nat) : Nat × va_E := (qA B 1 i, .inl (qY B 1, 36, .inr (.inr (.inr (.inr (R i))))))
def qc (B : qB) (N : qN0) (i : Nat) : Nat × va_E := (qA B 2 i, .inl (qY B 2, 36, .inl (fun j => nI (N 1 i j))))
def qd (B : qB) (N : qN0) (k : Nat) : Nat × va_E := (qA B 3 k, .inr (1, qKd (N 2 k)))
def qn (B : qB) (N : qN0) (l : Nat) : Nat × va_E := (qA B 4 l, .inr (2, qLn (qA B) (N 3 l)))
def qH (B : qB) (N : qN0) : va_W := [(qA B 5 0, .inr (3, qOb (qA B) (N 4 1))), (qA B 5 1, .inl (qY B 0, 10, .inr (.inr (.inr (.inr (qF B 0)))))), (qA B 5 2, .inl (qY B 1, 60, .inr (.inr (.inr (.inr (qF B 1)))))), (qA B 5 3, .inl (qY B 2, 120, .inl (fun c => nI (N 4 0 c)))), (qA B 5 4, .inl (qY B 3, 20, .inr (.inr (.inr (.inr (qF B 2))))))]
def qG (B : qB) (R : qR0) (N : qN0) : va_W := qH B N ++ ((List.range 61).map (qi B N) ++ ((List.range 61).map (qs B R) ++ ((List.range 61).map (qc B N) ++ ((List.range (qk B)).map (qd B N) ++ (List.range (ql B)).map (qn B N)))))
def qT (B : qB) : List (ClassId × FieldType) := [(qY B 0, .object RX1), (qY B 1, .object RX0), (qY B 2, .int), (qY B 3, .object RX2)]
theorem qap_get {X Y : va_W} {n i k : Nat} {f : Nat → Nat × va_E} (h : i < n) (hX : X.length = k) : (X ++ ((List.range n).map f ++ Y))[k + i]? = some (f i) := by
  subst hX
  rw [List.getElem?_append_right (Nat.le_add_right _ _), Nat.add_sub_cancel_left, List.getElem?_append_left (by simpa using h)]
  simp [h]
theorem qap_set {X Y : va_W} {n i k : Nat} {f g : Nat → Nat × va_E} {e : Nat × va_E} (h : i < n) (hX : X.length = k) (hi : g i = e) (ho : ∀ j, j < n → j ≠ i → g j = f j) : (X ++ ((List.range n).map f ++ Y)).set (k + i) e = X ++ ((List.range n).map g ++ Y) := by
  subst hX
  rw [List.set_append_right _ _ (Nat.le_add_right _ _), Nat.add_sub_cancel_left, List.set_append_left _ _ (by simpa using h)]
  congr 2
  apply List.ext_getElem?
  intro j
  rw [List.getElem?_set]
  by_cases hj : i = j
  · subst hj
    simp [h, hi]
  · by_cases hjn : j < n
    · simp [hj, hjn, ho j hjn (fun h9 => hj h9.symm)]
    · simp [hj, hjn]
theorem qH_len (B : qB) (N : qN0) : (qH B N).length = 5 := rfl
theorem qG_i {B : qB} {R : qR0} {N : qN0} {i : Nat} (h : i < 61) : (qG B R N)[5 + i]? = some (qA B 0 i, .inr (0, qIt (qA B) i (N 0 i))) := qap_get h rfl
theorem qG_s {B : qB} {R : qR0} {N : qN0} {i : Nat} (h : i < 61) : (qG B R N)[66 + i]? = some (qA B 1 i, .inl (qY B 1, 36, .inr (.inr (.inr (.inr (R i)))))) := by
  unfold qG
  rw [← List.append_assoc]
  exact qap_get h (by simp [qH_len])
theorem qG_c {B : qB} {R : qR0} {N : qN0} {i : Nat} (h : i < 61) : (qG B R N)[127 + i]? = some (qA B 2 i, .inl (qY B 2, 36, .inl (fun j => nI (N 1 i j)))) := by
  unfold qG
  rw [← List.append_assoc, ← List.append_assoc]
  exact qap_get h (by simp [qH_len])
theorem qG_d {B : qB} {R : qR0} {N : qN0} {i : Nat} (h : i < qk B) : (qG B R N)[188 + i]? = some (qA B 3 i, .inr (1, qKd (N 2 i))) := by
  unfold qG
  rw [← List.append_assoc, ← List.append_assoc, ← List.append_assoc]
  exact qap_get h (by simp [qH_len])
theorem qG_n {B : qB} {R : qR0} {N : qN0} {i : Nat} (h : i < ql B) : (qG B R N)[188 + qk B + i]? = some (qA B 4 i, .inr (2, qLn (qA B) (N 3 i))) := by
  unfold qG
  rw [← List.append_assoc, ← List.append_assoc, ← List.append_assoc, ← List.append_assoc, ← List.append_nil ((List.range (ql B)).map (qn B N))]
  exact qap_get h (by simp [qH_len]; omega)
/-- one number changed -/
def qp (N : qN0) (c i j x : Nat) : qN0 := fun c' i' j' => if c' = c ∧ i' = i ∧ j' = j then x else N c' i' j'
theorem qp_eq (N : qN0) (c i j x : Nat) : qp N c i j x c i j = x := by simp [qp]
theorem qp_c (N : qN0) {c c' : Nat} (i j x i' j' : Nat) (h : c' ≠ c) : qp N c i j x c' i' j' = N c' i' j' := by simp [qp, h]
theorem qp_i (N : qN0) (c : Nat) {i i' : Nat} (j x c' j' : Nat) (h : i' ≠ i) : qp N c i j x c' i' j' = N c' i' j' := by simp [qp, h]
theorem qp_j (N : qN0) (c i : Nat) {j j' : Nat} (x c' i' : Nat) (h : j' ≠ j) : qp N c i j x c' i' j' = N c' i' j' := by simp [qp, h]
theorem qp_row (N : qN0) (c i j x : Nat) : qp N c i j x c i = fun j' => if j' = j then x else N c i j' := by funext j'; simp [qp]
theorem qIt_set {A : Nat → Nat → Nat} {i j x : Nat} {g : Nat → Nat} (h : j < 16) : (qIt A i g).set j (.int (nI x)) = qIt A i (fun j' => if j' = j then x else g j') := by
  rcases (show j = 0 ∨ j = 1 ∨ j = 2 ∨ j = 3 ∨ j = 4 ∨ j = 5 ∨ j = 6 ∨ j = 7 ∨ j = 8 ∨ j = 9 ∨ j = 10 ∨ j = 11 ∨ j = 12 ∨ j = 13 ∨ j = 14 ∨ j = 15 by omega) with h | h | h | h | h | h | h | h | h | h | h | h | h | h | h | h <;> subst h <;> rfl
/-- a number of an item is written -/
theorem qG_pi {B : qB} {R : qR0} {N : qN0} {i j x : Nat} (h : i < 61) (hj : j < 16) : (qG B R N).set (5 + i) (qA B 0 i, .inr (0, (qIt (qA B) i (N 0 i)).set j (.int (nI x)))) = qG B R (qp N 0 i j x) := by
  unfold qG
  rw [qap_set (k := 5) (g := qi B (qp N 0 i j x)) h rfl (by unfold qi; rw [qp_row, qIt_set hj]) (fun k _ hk => by unfold qi; rw [show qp N 0 i j x 0 k = N 0 k by funext j'; exact qp_i _ _ _ _ _ _ hk])]
  congr 1
theorem qG_row {B : qB} {R : qR0} {N N' : qN0} (h0 : ∀ i, i < 61 → ∀ j, j < 16 → N' 0 i j = N 0 i j) (h1 : ∀ i, i < 61 → N' 1 i = N 1 i) (h2 : ∀ k, k < qk B → ∀ j, j < 8 → N' 2 k j = N 2 k j) (h3 : ∀ l, l < ql B → ∀ j, j < 3 → N' 3 l j = N 3 l j) (h4 : N' 4 0 = N 4 0) (h5 : ∀ j, j < 9 → N' 4 1 j = N 4 1 j) : qG B R N' = qG B R N := by
  unfold qG
  congr 1
  · unfold qH qOb
    rw [h4]
    simp only [h5 0 (by decide), h5 1 (by decide), h5 2 (by decide), h5 3 (by decide), h5 4 (by decide), h5 5 (by decide), h5 6 (by decide), h5 7 (by decide), h5 8 (by decide)]
  · congr 1
    · apply List.map_congr_left
      intro i hi
      have hi := List.mem_range.mp hi
      unfold qi qIt
      simp only [h0 i hi 0 (by decide), h0 i hi 1 (by decide), h0 i hi 2 (by decide), h0 i hi 3 (by decide), h0 i hi 4 (by decide), h0 i hi 5 (by decide), h0 i hi 6 (by decide), h0 i hi 7 (by decide), h0 i hi 8 (by decide), h0 i hi 9 (by decide), h0 i hi 10 (by decide), h0 i hi 11 (by decide), h0 i hi 12 (by decide), h0 i hi 13 (by decide), h0 i hi 14 (by decide), h0 i hi 15 (by decide)]
    · congr 1
      congr 1
      · apply List.map_congr_left
        intro i hi
        unfold qc
        rw [h1 i (List.mem_range.mp hi)]
      · congr 1
        · apply List.map_congr_left
          intro k hk
          have hk := List.mem_range.mp hk
          unfold qd qKd
          simp only [h2 k hk 0 (by decide), h2 k hk 1 (by decide), h2 k hk 2 (by decide), h2 k hk 3 (by decide), h2 k hk 4 (by decide), h2 k hk 5 (by decide), h2 k hk 6 (by decide), h2 k hk 7 (by decide)]
        · apply List.map_congr_left
          intro l hl
          have hl := List.mem_range.mp hl
          unfold qn qLn
          simp only [h3 l hl 0 (by decide), h3 l hl 1 (by decide), h3 l hl 2 (by decide)]
theorem qOb_set {A : Nat → Nat → Nat} {j x : Nat} {g : Nat → Nat} (h : j < 9) : (qOb A g).set ([1, 2, 3, 4, 5, 7, 8, 9, 13].getD j 0) (.int (nI x)) = qOb A (fun j' => if j' = j then x else g j') := by
  rcases (show j = 0 ∨ j = 1 ∨ j = 2 ∨ j = 3 ∨ j = 4 ∨ j = 5 ∨ j = 6 ∨ j = 7 ∨ j = 8 by omega) with h | h | h | h | h | h | h | h | h <;> subst h <;> rfl
theorem qG_headN {B : qB} {R : qR0} {N N' : qN0} (h0 : N' 0 = N 0) (h1 : N' 1 = N 1) (h2 : N' 2 = N 2) (h3 : N' 3 = N 3) : qG B R N' = qH B N' ++ ((List.range 61).map (qi B N) ++ ((List.range 61).map (qs B R) ++ ((List.range 61).map (qc B N) ++ ((List.range (qk B)).map (qd B N) ++ (List.range (ql B)).map (qn B N))))) := by
  unfold qG
  have e0 : qi B N' = qi B N := by funext i; unfold qi; rw [h0]
  have e1 : qc B N' = qc B N := by funext i; unfold qc; rw [h1]
  have e2 : qd B N' = qd B N := by funext i; unfold qd; rw [h2]
  have e3 : qn B N' = qn B N := by funext i; unfold qn; rw [h3]
  rw [e0, e1, e2, e3]
theorem qp_c4 (N : qN0) (i j x c : Nat) (h : c ≠ 4) : qp N 4 i j x c = N c := by funext i' j'; simp [qp, h]
/-- a number of the object is written -/
theorem qG_po {B : qB} {R : qR0} {N : qN0} {j x : Nat} {f : Nat} (hf : [1, 2, 3, 4, 5, 7, 8, 9, 13].getD j 0 = f) (h : j < 9) : (qG B R N).set 0 (qA B 5 0, .inr (3, (qOb (qA B) (N 4 1)).set f (.int (nI x)))) = qG B R (qp N 4 1 j x) := by
  subst hf
  rw [qG_headN (N := N) (N' := qp N 4 1 j x) (qp_c4 _ _ _ _ _ (by decide)) (qp_c4 _ _ _ _ _ (by decide)) (qp_c4 _ _ _ _ _ (by decide)) (qp_c4 _ _ _ _ _ (by decide)), qOb_set h]
  unfold qG qH
  rw [qp_row, show qp N 4 1 j x 4 0 = N 4 0 by funext c; simp [qp]]
  rfl
/-- a top is written -/
theorem qG_pt {B : qB} {R : qR0} {N : qN0} {c x : Nat} : (qG B R N).set 3 (qA B 5 3, .inl (qY B 2, 120, .inl (upd (fun c => nI (N 4 0 c)) c (nI x)))) = qG B R (qp N 4 0 c x) := by
  rw [qG_headN (N := N) (N' := qp N 4 0 c x) (qp_c4 _ _ _ _ _ (by decide)) (qp_c4 _ _ _ _ _ (by decide)) (qp_c4 _ _ _ _ _ (by decide)) (qp_c4 _ _ _ _ _ (by decide))]
  unfold qG qH
  rw [show qp N 4 0 c x 4 1 = N 4 1 by funext j; simp [qp], show (fun c' => nI (qp N 4 0 c x 4 0 c')) = upd (fun c => nI (N 4 0 c)) c (nI x) by
    funext c'
    simp only [qp, upd]
    by_cases h : c' = c
    · simp [h]
    · simp [h]]
  rfl
/-- a line's count or isAside is written -/
theorem qLn_set {A : Nat → Nat → Nat} {j x : Nat} {g : Nat → Nat} (h1 : 0 < j) (h : j < 3) : (qLn A g).set j (.int (nI x)) = qLn A (fun j' => if j' = j then x else g j') := by
  rcases (show j = 1 ∨ j = 2 by omega) with h | h <;> subst h <;> rfl
theorem qG_pn {B : qB} {R : qR0} {N : qN0} {i j x : Nat} (h : i < ql B) (h1 : 0 < j) (hj : j < 3) : (qG B R N).set (188 + qk B + i) (qA B 4 i, .inr (2, (qLn (qA B) (N 3 i)).set j (.int (nI x)))) = qG B R (qp N 3 i j x) := by
  unfold qG
  rw [← List.append_assoc, ← List.append_assoc, ← List.append_assoc, ← List.append_assoc, ← List.append_nil ((List.range (ql B)).map (qn B N))]
  rw [qap_set (k := 188 + qk B) (g := qn B (qp N 3 i j x)) h (by simp [qH_len]; omega) (by unfold qn; rw [qp_row, qLn_set h1 hj]) (fun k _ hk => by unfold qn; rw [show qp N 3 i j x 3 k = N 3 k by funext j'; exact qp_i _ _ _ _ _ _ hk])]
  rw [List.append_nil, List.append_assoc, List.append_assoc, List.append_assoc, List.append_assoc]
  congr 1
/-- one support, one number of cells is written -/
def qr (R : qR0) (i j : Nat) (x : Option Nat) : qR0 := fun i' j' => if i' = i ∧ j' = j then x else R i' j'
theorem qG_ps {B : qB} {R : qR0} {N : qN0} {i j q : Nat} (h : i < 61) : (qG B R N).set (66 + i) (qA B 1 i, .inl (qY B 1, 36, .inr (.inr (.inr (.inr (va_up (R i) j (some q))))))) = qG B (qr R i j (some q)) N := by
  unfold qG
  rw [← List.append_assoc]
  rw [qap_set (k := 66) (g := qs B (qr R i j (some q))) h (by simp [qH_len]) (by
    unfold qs
    rw [show qr R i j (some q) i = va_up (R i) j (some q) by
      funext j'
      simp only [qr, va_up]
      by_cases h9 : j' = j <;> simp [h9]]) (fun k _ hk => by unfold qs; rw [show qr R i j (some q) k = R k by funext j'; simp [qr, hk]])]
  rw [List.append_assoc]
theorem qG_pc {B : qB} {R : qR0} {N : qN0} {i j x : Nat} (h : i < 61) : (qG B R N).set (127 + i) (qA B 2 i, .inl (qY B 2, 36, .inl (upd (fun j => nI (N 1 i j)) j (nI x)))) = qG B R (qp N 1 i j x) := by
  unfold qG
  rw [← List.append_assoc, ← List.append_assoc]
  rw [qap_set (k := 127) (g := qc B (qp N 1 i j x)) h (by simp [qH_len]) (by
    unfold qc
    rw [show (fun j' => nI (qp N 1 i j x 1 i j')) = upd (fun j => nI (N 1 i j)) j (nI x) by
      funext j'
      simp only [qp, upd]
      by_cases h9 : j' = j <;> simp [h9]]) (fun k _ hk => by unfold qc; rw [show qp N 1 i j x 1 k = N 1 k by funext j'; exact qp_i _ _ _ _ _ _ hk])]
  rw [List.append_assoc, List.append_assoc]
  congr 1
/-- every number is small -/
def qM (N : qN0) : Prop := ∀ c i j, N c i j ≤ 1000000
theorem qM_p {N : qN0} {c i j x : Nat} (h : qM N) (hx : x ≤ 1000000) : qM (qp N c i j x) := fun c' i' j' => by
  unfold qp
  split
  · exact hx
  · exact h c' i' j'
theorem qlt {a b : Nat} (ha : a < 2 ^ 31) (hb : b < 2 ^ 31) : nI a < nI b ↔ a < b := nI_ltI ha hb
theorem qeq {a b : Nat} (ha : a < 2 ^ 31) (hb : b < 2 ^ 31) : nI a = nI b ↔ a = b := by
  rw [← Int32.toInt_inj, nI_toInt ha, nI_toInt hb]; omega
theorem qnar {x : Nat} (h : x < 2) : narrow .boolean (.int (nI x)) = .int (nI x) := by
  rcases (show x = 0 ∨ x = 1 by omega) with h | h <;> subst h <;> rfl
/-- the arrays of references are as the numbers say -/
def qOK (B : qB) (N : qN0) : Prop := (∀ i, i < 60 → qF B 1 i = some (qA B 0 i)) ∧ (∀ k, k < qk B → qF B 0 k = some (qA B 3 k)) ∧ (∀ l, l < ql B → qF B 2 l = some (qA B 4 l)) ∧ N 4 1 0 = qk B ∧ N 4 1 8 = ql B ∧ qk B ≤ 10 ∧ ql B ≤ 20 ∧ N 4 1 5 ≤ 60 ∧ (∀ i, i < N 4 1 5 → N 0 i 13 = 1)
