/-- the numbers with the trial's supports found -/
def qtr (N : qN0) : qN0 := fun c i j => if c = 0 ∧ i = 60 ∧ j = 15 then (qsp N 60 (N 4 1 5)).length else if c = 1 ∧ i = 60 then qcm N 60 ((qsp N 60 (N 4 1 5)).getD j 0) else N c i j
def qSt (S : Nat → Nat → Nat) (N : qN0) : Nat → Nat → Nat := fun i => if i = 60 then fun j => (qsp N 60 (N 4 1 5)).getD j 0 else S i
theorem qtr_ne (N : qN0) {c i j : Nat} (h1 : ¬ (c = 0 ∧ i = 60 ∧ j = 15)) (h2 : ¬ (c = 1 ∧ i = 60)) : qtr N c i j = N c i j := by
  unfold qtr
  rw [if_neg h1, if_neg h2]
theorem qtr_15 (N : qN0) : qtr N 0 60 15 = (qsp N 60 (N 4 1 5)).length := by simp [qtr]
theorem qtr_1 (N : qN0) (j : Nat) : qtr N 1 60 j = qcm N 60 ((qsp N 60 (N 4 1 5)).getD j 0) := by simp [qtr]
theorem qSt_60 (S : Nat → Nat → Nat) (N : qN0) : qSt S N 60 = fun j => (qsp N 60 (N 4 1 5)).getD j 0 := by simp [qSt]
theorem qSt_i (S : Nat → Nat → Nat) (N : qN0) {i : Nat} (h : i ≠ 60) : qSt S N i = S i := by simp [qSt, h]
theorem qLN_tr {N N1 : qN0} {n : Nat} (hn : n = N 4 1 5) (hn60 : n ≤ 60) (f1 : N1 0 60 15 = (qsp N 60 n).length) (f2 : ∀ j, j < (qsp N 60 n).length → N1 1 60 j = qcm N 60 ((qsp N 60 n).getD j 0)) (f4 : ∀ c i j, ¬ (c = 0 ∧ i = 60 ∧ j = 15) → ¬ (c = 1 ∧ i = 60) → N1 c i j = N c i j) (Sx : Nat → Nat → Nat) : ∀ k, k ≤ n + 1 → qLN Sx (qx N1 n) (n + 1) k = qLN Sx (qx (qtr N) n) (n + 1) k := by
  have A : ∀ i, i < n + 1 → ∀ j, qx N1 n 0 i j = qx (qtr N) n 0 i j := fun i hi j => by
    by_cases h : i = n
    · subst h
      rw [qx_n _ _ _ (by decide), qx_n _ _ _ (by decide)]
      by_cases h15 : j = 15
      · subst h15; rw [f1, qtr_15, ← hn]
      · rw [qtr_ne _ (by omega) (by omega)]; exact f4 0 60 j (by omega) (by omega)
    · rw [qx_i _ _ h, qx_i _ _ h, qtr_ne _ (by omega) (by omega)]
      exact f4 0 i j (by omega) (by omega)
  intro k hk
  refine qLd_congr (fun i hi => A i hi 1) (fun i hi => A i hi 10) (fun i hi => A i hi 15) (fun i hi j hj => ⟨rfl, ?_⟩) k hk
  by_cases h : i = n
  · subst h
    rw [qx_n _ _ _ (by decide), qx_n _ _ _ (by decide), qtr_1, ← hn]
    rw [qx_n _ _ _ (by decide), f1] at hj
    exact f2 j hj
  · rw [qx_i _ _ h, qx_i _ _ h, qtr_ne _ (by omega) (by omega)]
    exact f4 1 i j (by omega) (by omega)
/-- the trial, of kind k, is allowed where it was let down -/
def qAl (N : qN0) (S : Nat → Nat → Nat) (k : Nat) : Prop := N 0 60 9 ≤ N 4 1 1 ∧ (N 2 k 7 = 1 → N 0 60 8 = 0) ∧ N 0 60 4 * N 0 60 5 * N 4 1 2 ≤ N 0 60 10 * 100 ∧ (∀ i, i < N 4 1 5 → qLN (qSx (qSt S N) (N 4 1 5)) (qx (qtr N) (N 4 1 5)) (N 4 1 5 + 1) (N 4 1 5 + 1) i ≤ N 0 i 2) ∧ N 4 1 7 + N 0 60 1 ≤ N 4 1 3
/-- what testing changes: nothing that counts -/
def qFr (N N' : qN0) : Prop := ∀ c i j, ¬ (c = 0 ∧ i = 60 ∧ (j = 12 ∨ j = 15)) → ¬ (c = 1 ∧ i = 60) → ¬ (c = 0 ∧ j = 12 ∧ i < N 4 1 5) → N' c i j = N c i j
theorem qFr_rf (N : qN0) : qFr N N := fun _ _ _ _ _ _ => rfl
