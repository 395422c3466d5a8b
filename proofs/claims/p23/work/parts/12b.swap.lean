/-- n and 60 changed places -/
def qsw (n i : Nat) : Nat := if i = n then 60 else if i = 60 then n else i
theorem qsw_n (n : Nat) : qsw n n = 60 := by simp [qsw]
theorem qsw_60 (n : Nat) : qsw n 60 = n := by
  unfold qsw
  by_cases h : 60 = n <;> simp [h]
theorem qsw_i {n i : Nat} (h1 : i ≠ n) (h2 : i ≠ 60) : qsw n i = i := by simp [qsw, h1, h2]
theorem qsw_lt {n i : Nat} (hn : n < 60) (h : i < 61) : qsw n i < 61 := by
  unfold qsw
  split
  · omega
  · split <;> omega
theorem qsw_sw (n i : Nat) : qsw n (qsw n i) = i := by
  by_cases h1 : i = n
  · subst h1; rw [qsw_n, qsw_60]
  · by_cases h2 : i = 60
    · subst h2; rw [qsw_60, qsw_n]
    · rw [qsw_i h1 h2, qsw_i h1 h2]
/-- the base, supports and numbers behind the change -/
def qBs (B : qB) (n : Nat) : qB := (qY B, fun c i => if c ≤ 2 then qA B c (qsw n i) else qA B c i, fun c => if c = 1 then va_up (qF B 1) n (some (qA B 0 60)) else qF B c, qk B, ql B)
def qRs (R : qR0) (n : Nat) : qR0 := fun i => R (qsw n i)
def qNs (N : qN0) (n : Nat) : qN0 := fun c i => if c ≤ 1 then N c (qsw n i) else N c i
theorem qBs_A (B : qB) (n c i : Nat) (h : c ≤ 2) : qA (qBs B n) c i = qA B c (qsw n i) := by
  show (if c ≤ 2 then qA B c (qsw n i) else qA B c i) = _
  exact if_pos h
theorem qBs_A3 (B : qB) (n c i : Nat) (h : 3 ≤ c) : qA (qBs B n) c i = qA B c i := by
  show (if c ≤ 2 then qA B c (qsw n i) else qA B c i) = _
  exact if_neg (by omega)
theorem qNs_1 (N : qN0) (n c i : Nat) (h : c ≤ 1) : qNs N n c i = N c (qsw n i) := by simp [qNs, h]
theorem qNs_2 (N : qN0) (n c i : Nat) (h : 2 ≤ c) : qNs N n c i = N c i := by
  have : ¬ c ≤ 1 := by omega
  simp [qNs, this]
/-- the world between: the object and the items' array written, the rest as it was -/
def qHx (B : qB) (N : qN0) (tr : Nat) (F : Nat → Option Nat) : va_W := [(qA B 5 0, .inr (3, [.ref (qA B 5 1), .int (nI (N 4 1 0)), .int (nI (N 4 1 1)), .int (nI (N 4 1 2)), .int (nI (N 4 1 3)), .int (nI (N 4 1 4)), .ref (qA B 5 2), .int (nI (N 4 1 5)), .int (nI (N 4 1 6)), .int (nI (N 4 1 7)), .ref (qA B 5 3), .ref tr, .ref (qA B 5 4), .int (nI (N 4 1 8))])), (qA B 5 1, .inl (qY B 0, 10, .inr (.inr (.inr (.inr (qF B 0)))))), (qA B 5 2, .inl (qY B 1, 60, .inr (.inr (.inr (.inr F))))), (qA B 5 3, .inl (qY B 2, 120, .inl (fun c => nI (N 4 0 c)))), (qA B 5 4, .inl (qY B 3, 20, .inr (.inr (.inr (.inr (qF B 2))))))]
def qTl (B : qB) (R : qR0) (N : qN0) : va_W := (List.range 61).map (qi B N) ++ ((List.range 61).map (qs B R) ++ ((List.range 61).map (qc B N) ++ ((List.range (qk B)).map (qd B N) ++ (List.range (ql B)).map (qn B N))))
theorem qG_x (B : qB) (R : qR0) (N : qN0) : qG B R N = qHx B N (qA B 0 60) (qF B 1) ++ qTl B R N := rfl
theorem qHx_1 (B : qB) (R : qR0) (N : qN0) (tr tr' : Nat) (F : Nat → Option Nat) {fs : List Value} (hfs : fs = [.ref (qA B 5 1), .int (nI (N 4 1 0)), .int (nI (N 4 1 1)), .int (nI (N 4 1 2)), .int (nI (N 4 1 3)), .int (nI (N 4 1 4)), .ref (qA B 5 2), .int (nI (N 4 1 5)), .int (nI (N 4 1 6)), .int (nI (N 4 1 7)), .ref (qA B 5 3), .ref tr', .ref (qA B 5 4), .int (nI (N 4 1 8))]) : (qHx B N tr F ++ qTl B R N).set 0 (qA B 5 0, .inr (3, fs)) = qHx B N tr' F ++ qTl B R N := by
  subst hfs; rfl
theorem qHx_2 (B : qB) (R : qR0) (N : qN0) (tr : Nat) (F F' : Nat → Option Nat) : (qHx B N tr F ++ qTl B R N).set 2 (qA B 5 2, .inl (qY B 1, 60, .inr (.inr (.inr (.inr F'))))) = qHx B N tr F' ++ qTl B R N := rfl
theorem qTl_i {B : qB} {R : qR0} {N : qN0} {X : va_W} {i : Nat} (hX : X.length = 5) (h : i < 61) : (X ++ qTl B R N)[5 + i]? = some (qi B N i) := qap_get h hX
theorem qTl_s {B : qB} {R : qR0} {N : qN0} {X : va_W} {i : Nat} (hX : X.length = 5) (h : i < 61) : (X ++ qTl B R N)[66 + i]? = some (qs B R i) := by
  unfold qTl
  rw [← List.append_assoc]
  exact qap_get h (by simp [hX])
theorem qTl_c {B : qB} {R : qR0} {N : qN0} {X : va_W} {i : Nat} (hX : X.length = 5) (h : i < 61) : (X ++ qTl B R N)[127 + i]? = some (qc B N i) := by
  unfold qTl
  rw [← List.append_assoc, ← List.append_assoc]
  exact qap_get h (by simp [hX])
theorem qTl_e {B : qB} {R : qR0} {N : qN0} {X : va_W} {k : Nat} (hX : X.length = 5) (h : 188 ≤ k) : (X ++ qTl B R N)[k]? = ((List.range (qk B)).map (qd B N) ++ (List.range (ql B)).map (qn B N))[k - 188]? := by
  unfold qTl
  have hlen : (X ++ (List.range 61).map (qi B N) ++ (List.range 61).map (qs B R) ++ (List.range 61).map (qc B N)).length = 188 := by simp [hX]
  rw [← List.append_assoc, ← List.append_assoc, ← List.append_assoc, List.getElem?_append_right (by rw [hlen]; exact h), hlen]
/-- place for place: the world behind the change is the one between -/
theorem qswap {B : qB} {R : qR0} {N : qN0} {n : Nat} (hn : n < 60) : ∀ (k : Nat) (q : Nat × va_E), (qG (qBs B n) (qRs R n) (qNs N n))[k]? = some q →
    (qHx B N (qA B 0 n) (va_up (qF B 1) n (some (qA B 0 60))) ++ qTl B R N)[if k < 5 then k else if k < 66 then 5 + qsw n (k - 5) else if k < 127 then 66 + qsw n (k - 66) else if k < 188 then 127 + qsw n (k - 127) else k]? = some q := by
  intro k q hk
  rw [qG_x] at hk
  by_cases h5 : k < 5
  · rw [if_pos h5]
    have hh : qHx (qBs B n) (qNs N n) (qA (qBs B n) 0 60) (qF (qBs B n) 1) = qHx B N (qA B 0 n) (va_up (qF B 1) n (some (qA B 0 60))) := by
      unfold qHx
      rw [qBs_A _ _ _ _ (show 0 ≤ 2 by decide), qsw_60, qNs_2 _ _ 4 1 (by decide), qNs_2 _ _ 4 0 (by decide)]
      simp only [qBs_A3 _ _ 5 _ (show 3 ≤ 5 by decide)]
      rfl
    rw [hh] at hk
    rw [List.getElem?_append_left (by show k < 5; exact h5)] at hk ⊢
    exact hk
  · rw [if_neg h5]
    by_cases h66 : k < 66
    · rw [if_pos h66]
      rw [show k = 5 + (k - 5) by omega, qTl_i rfl (by omega)] at hk
      rw [qTl_i rfl (qsw_lt hn (by omega)), ← hk]
      unfold qi
      rw [qBs_A _ _ _ _ (by decide), qNs_1 _ _ _ _ (by decide)]
      unfold qIt
      rw [qBs_A _ _ _ _ (by decide), qBs_A _ _ _ _ (by decide)]
    · rw [if_neg h66]
      by_cases h127 : k < 127
      · rw [if_pos h127]
        rw [show k = 66 + (k - 66) by omega, qTl_s rfl (by omega)] at hk
        rw [qTl_s rfl (qsw_lt hn (by omega)), ← hk]
        unfold qs
        rw [qBs_A _ _ _ _ (by decide)]
        rfl
      · rw [if_neg h127]
        by_cases h188 : k < 188
        · rw [if_pos h188]
          rw [show k = 127 + (k - 127) by omega, qTl_c rfl (by omega)] at hk
          rw [qTl_c rfl (qsw_lt hn (by omega)), ← hk]
          unfold qc
          rw [qBs_A _ _ _ _ (by decide), qNs_1 _ _ _ _ (by decide)]
          rfl
        · rw [if_neg h188]
          rw [qTl_e rfl (by omega)] at hk ⊢
          rw [← hk]
          have e1 : qd (qBs B n) (qNs N n) = qd B N := by
            funext i
            unfold qd
            rw [qBs_A3 _ _ _ _ (by decide), qNs_2 _ _ _ _ (by decide)]
          have e2 : qn (qBs B n) (qNs N n) = qn B N := by
            funext i
            unfold qn qLn
            rw [qBs_A3 _ _ _ _ (by decide), qBs_A3 _ _ _ _ (by decide), qNs_2 _ _ _ _ (by decide)]
          rw [e1, e2]
          rfl
theorem qsw_inj {n i j : Nat} (h : qsw n i = qsw n j) : i = j := by
  have := congrArg (qsw n) h
  rwa [qsw_sw, qsw_sw] at this
def qix (n k : Nat) : Nat := if k < 5 then k else if k < 66 then 5 + qsw n (k - 5) else if k < 127 then 66 + qsw n (k - 66) else if k < 188 then 127 + qsw n (k - 127) else k
theorem qix_ix {n : Nat} (hn : n < 60) (k : Nat) : qix n (qix n k) = k := by
  by_cases h5 : k < 5
  · have e : qix n k = k := if_pos h5
    rw [e]; exact e
  · by_cases h66 : k < 66
    · have e : qix n k = 5 + qsw n (k - 5) := by unfold qix; rw [if_neg h5, if_pos h66]
      have b := qsw_lt (i := k - 5) hn (by omega)
      rw [e]
      unfold qix
      rw [if_neg (by omega), if_pos (by omega), Nat.add_sub_cancel_left, qsw_sw]; omega
    · by_cases h127 : k < 127
      · have e : qix n k = 66 + qsw n (k - 66) := by unfold qix; rw [if_neg h5, if_neg h66, if_pos h127]
        have b := qsw_lt (i := k - 66) hn (by omega)
        rw [e]
        unfold qix
        rw [if_neg (by omega), if_neg (by omega), if_pos (by omega), Nat.add_sub_cancel_left, qsw_sw]; omega
      · by_cases h188 : k < 188
        · have e : qix n k = 127 + qsw n (k - 127) := by unfold qix; rw [if_neg h5, if_neg h66, if_neg h127, if_pos h188]
          have b := qsw_lt (i := k - 127) hn (by omega)
          rw [e]
          unfold qix
          rw [if_neg (by omega), if_neg (by omega), if_neg (by omega), if_pos (by omega), Nat.add_sub_cancel_left, qsw_sw]; omega
        · have e : qix n k = k := by unfold qix; rw [if_neg h5, if_neg h66, if_neg h127, if_neg h188]
          rw [e]; exact e
theorem qP_swap {D : zG} {B : qB} {R : qR0} {N : qN0} {n : Nat} {H : Heap} (hn : n < 60) (hP : va_P D vwCl (qHx B N (qA B 0 n) (va_up (qF B 1) n (some (qA B 0 60))) ++ qTl B R N) H) : va_P D vwCl (qG (qBs B n) (qRs R n) (qNs N n)) H := hP.by (qix n) (qswap hn)
theorem qD_swap {A : Nat → Prop} {B : qB} {R : qR0} {N : qN0} {n : Nat} (hn : n < 60) (hD : va_D A (qHx B N (qA B 0 n) (va_up (qF B 1) n (some (qA B 0 60))) ++ qTl B R N)) : va_D A (qG (qBs B n) (qRs R n) (qNs N n)) := hD.by (qix n) (qswap hn) (fun i j _ _ h => by
  have := congrArg (qix n) h
  rwa [qix_ix hn, qix_ix hn] at this)
