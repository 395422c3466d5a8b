def qci (N : qN0) (i cx cy : Nat) : Bool := qcov (N 0 i 6) (N 0 i 4) (N 0 i 7) (N 0 i 5) cx cy
/-- where the items lie -/
def qGeo (N : qN0) : Prop := (∀ i, i < N 4 1 5 → 0 < N 0 i 4 ∧ N 0 i 4 ≤ 6 ∧ 0 < N 0 i 5 ∧ N 0 i 5 ≤ 6 ∧ N 0 i 6 + N 0 i 4 ≤ 12 ∧ N 0 i 7 + N 0 i 5 ≤ 10 ∧ N 0 i 8 < N 0 i 9 ∧ N 0 i 1 ≤ 500) ∧
  (∀ k i, k < i → i < N 4 1 5 → ∀ cx cy, qci N k cx cy = true → qci N i cx cy = true → N 0 k 9 ≤ N 0 i 8) ∧
  (∀ i, i < N 4 1 5 → ∀ cx cy, qci N i cx cy = true → N 0 i 9 ≤ N 4 0 (cy * 12 + cx)) ∧
  (∀ cx cy, cx < 12 → cy < 10 → 0 < N 4 0 (cy * 12 + cx) → ∃ k, k < N 4 1 5 ∧ qci N k cx cy = true ∧ N 0 k 9 = N 4 0 (cy * 12 + cx))
/-- what the items stand on -/
def qSup (B : qB) (R : qR0) (N : qN0) (S : Nat → Nat → Nat) : Prop := ∀ i, i < N 4 1 5 → N 0 i 15 ≤ 36 ∧ 0 < N 0 i 10 ∧ N 0 i 10 ≤ 36 ∧ (∀ j, j < N 0 i 15 → R i j = some (qA B 0 (S i j)) ∧ S i j < i ∧ N 1 i j ≤ 36 ∧ N 0 (S i j) 9 = N 0 i 8) ∧ (N 0 i 8 = 0 → N 0 i 15 = 0) ∧ (0 < N 0 i 8 → qsum (N 1 i) (N 0 i 15) = N 0 i 10)
def qKin (B : qB) (N : qN0) : Prop := ∀ k, k < qk B → N 2 k 0 = k ∧ (0 < N 2 k 1 ∧ N 2 k 1 ≤ 6) ∧ (0 < N 2 k 2 ∧ N 2 k 2 ≤ 6) ∧ (0 < N 2 k 3 ∧ N 2 k 3 ≤ 8) ∧ (0 < N 2 k 4 ∧ N 2 k 4 ≤ 500) ∧ N 2 k 5 ≤ 5000 ∧ N 2 k 6 < 2 ∧ N 2 k 7 < 2
def qRul (N : qN0) : Prop := N 4 1 1 ≤ 40 ∧ N 4 1 2 ≤ 100 ∧ N 4 1 3 ≤ 20000 ∧ ∀ c, N 4 0 c ≤ 40
def qLoad (N : qN0) (S : Nat → Nat → Nat) : Prop := ∀ i, i < N 4 1 5 → N 0 i 11 = qLN S N (N 4 1 5) (N 4 1 5) i ∧ N 0 i 11 ≤ N 0 i 2
def qItm (B : qB) (N : qN0) : Prop := ∀ i, i < N 4 1 5 → N 0 i 0 < qk B ∧ N 0 i 1 = N 2 (N 0 i 0) 4 ∧ N 0 i 2 = N 2 (N 0 i 0) 5 ∧ N 0 i 3 < 2 ∧ (N 0 i 3 = 1 → N 2 (N 0 i 0) 6 = 1) ∧ N 0 i 4 = qwd N (N 0 i 0) (N 0 i 3) ∧ N 0 i 5 = qdp N (N 0 i 0) (N 0 i 3) ∧ N 0 i 9 = N 0 i 8 + N 2 (N 0 i 0) 3 ∧ (N 2 (N 0 i 0) 7 = 1 → N 0 i 8 = 0) ∧ N 0 i 9 ≤ N 4 1 1 ∧ N 0 i 4 * N 0 i 5 * N 4 1 2 ≤ N 0 i 10 * 100
def qWt (N : qN0) : Prop := N 4 1 6 = N 4 1 5 ∧ N 4 1 7 = qsum (fun i => N 0 i 1) (N 4 1 5) ∧ N 4 1 7 ≤ N 4 1 3
theorem qS9_of {B : qB} {R : qR0} {N : qN0} {S : Nat → Nat → Nat} (hG : qGeo N) (h : qSup B R N S) : qS9 B R N S (N 4 1 5) := fun i hi => by
  obtain ⟨h1, h2, -, h4, -, -⟩ := h i hi
  exact ⟨h1, h2, Nat.le_trans (hG.1 i hi).2.2.2.2.2.2.2 (by decide), fun j hj => ⟨(h4 j hj).1, (h4 j hj).2.1, (h4 j hj).2.2.1⟩⟩
/-- the trial, where it was let down -/
def qTr (N : qN0) : Prop := (0 < N 0 60 4 ∧ N 0 60 4 ≤ 6) ∧ (0 < N 0 60 5 ∧ N 0 60 5 ≤ 6) ∧ N 0 60 6 + N 0 60 4 ≤ 12 ∧ N 0 60 7 + N 0 60 5 ≤ 10 ∧ N 0 60 8 = qmx (qf N (N 0 60 6) (N 0 60 4) (N 0 60 7)) (N 0 60 4 * N 0 60 5) ∧ N 0 60 10 = qgr (qf N (N 0 60 6) (N 0 60 4) (N 0 60 7)) (N 0 60 4 * N 0 60 5)
theorem qidx {a b w d : Nat} (ha : a < w) (hb : b < d) : b * w + a < w * d := by
  have h1 : b * w + w ≤ d * w := by rw [← Nat.succ_mul]; exact Nat.mul_le_mul_right w hb
  rw [Nat.mul_comm w d]; omega
theorem qtr_le {N : qN0} (h : qTr N) {cx cy : Nat} (hc : qci N 60 cx cy = true) : N 4 0 (cy * 12 + cx) ≤ N 0 60 8 := by
  obtain ⟨h1, h2, h3, h4, h5, h6⟩ := h
  obtain ⟨⟨c1, c2⟩, c3, c4⟩ := qcov_iff.mp hc
  rw [h5]
  have h9 := qmx_ge (f := qf N (N 0 60 6) (N 0 60 4) (N 0 60 7)) (qidx (a := cx - N 0 60 6) (b := cy - N 0 60 7) (w := N 0 60 4) (d := N 0 60 5) (by omega) (by omega))
  rw [qf_at _ _ _ _ _ (show cx - N 0 60 6 < N 0 60 4 by omega), show N 0 60 7 + (cy - N 0 60 7) = cy by omega, show N 0 60 6 + (cx - N 0 60 6) = cx by omega] at h9
  exact h9
theorem qtr_gr {N : qN0} (h : qTr N) : 0 < N 0 60 10 ∧ N 0 60 10 ≤ 36 := by
  obtain ⟨h1, h2, h3, h4, h5, h6⟩ := h
  rw [h6]
  exact ⟨qgr_pos (Nat.mul_pos h1.1 h2.1), Nat.le_trans qgr_le (Nat.mul_le_mul h1.2 h2.2)⟩
theorem qcm_le {N : qN0} (h : qTr N) (k : Nat) : qcm N 60 k ≤ 36 := by
  unfold qcm
  rw [← qcnt_cov]
  exact Nat.le_trans (qcnt_le _ _ _ _ _) (Nat.mul_le_mul h.1.2 h.2.1.2)
/-- what the trial stands on makes up its ground -/
theorem qtr_sum {N : qN0} (hG : qGeo N) (h : qTr N) (h8 : 0 < N 0 60 8) : qsum (fun j => qcm N 60 ((qsp N 60 (N 4 1 5)).getD j 0)) (qsp N 60 (N 4 1 5)).length = N 0 60 10 := by
  have hle := fun cx cy => qtr_le h (cx := cx) (cy := cy)
  obtain ⟨h1, h2, h3, h4, h5, h6⟩ := h
  obtain ⟨G1, G2, G3, G4⟩ := hG
  unfold qsp
  rw [qfs_sum, h6, qgr_cnt _ _ _ _ h1.1, ← h5]
  have e1 : ∀ k, k < N 4 1 5 → (if qPk N 60 k = true then qcm N 60 k else 0) = if (fun k => decide (N 0 k 9 = N 0 60 8)) k = true then qov (N 0 60 6) (N 0 60 4) ((fun k => N 0 k 6) k) ((fun k => N 0 k 4) k) * qov (N 0 60 7) (N 0 60 5) ((fun k => N 0 k 7) k) ((fun k => N 0 k 5) k) else 0 := fun k _ => by
    show _ = if decide (N 0 k 9 = N 0 60 8) = true then qcm N 60 k else 0
    by_cases h9 : N 0 k 9 = N 0 60 8
    · by_cases h0 : 0 < qcm N 60 k
      · rw [if_pos (qPk_t.mpr ⟨h9, h0⟩), if_pos (by simpa using h9)]
      · rw [if_neg (fun hq => h0 (qPk_t.mp hq).2), if_pos (by simpa using h9)]; omega
    · rw [if_neg (fun hq => h9 (qPk_t.mp hq).1), if_neg (by simpa using h9)]
  rw [qsum_congr e1]
  refine qcnt_split (K := fun k => decide (N 0 k 9 = N 0 60 8)) (P := fun cx cy => decide (N 4 0 (cy * 12 + cx) = N 0 60 8)) (fun a b ha hb hp => ?_) (fun a b ha hb hp k hk hK => ?_)
  · have hp : N 4 0 ((N 0 60 7 + b) * 12 + (N 0 60 6 + a)) = N 0 60 8 := by simpa using hp
    obtain ⟨k, hk, hc, ht⟩ := G4 (N 0 60 6 + a) (N 0 60 7 + b) (by omega) (by omega) (by omega)
    refine ⟨k, hk, by simp [ht, hp], hc, fun k' hk' hK' hc' => ?_⟩
    have hK' : N 0 k' 9 = N 0 60 8 := by simpa using hK'
    rcases Nat.lt_trichotomy k' k with q | q | q
    · have := G2 k' k q hk _ _ hc' hc
      have := (G1 k hk).2.2.2.2.2.2.1
      omega
    · exact q
    · have := G2 k k' q hk' _ _ hc hc'
      have := (G1 k' hk').2.2.2.2.2.2.1
      omega
  · have hp : ¬ N 4 0 ((N 0 60 7 + b) * 12 + (N 0 60 6 + a)) = N 0 60 8 := by simpa using hp
    have hK : N 0 k 9 = N 0 60 8 := by simpa using hK
    cases hc : qcov (N 0 k 6) (N 0 k 4) (N 0 k 7) (N 0 k 5) (N 0 60 6 + a) (N 0 60 7 + b)
    · rfl
    · have g1 := G3 k hk _ _ hc
      have g2 := hle (N 0 60 6 + a) (N 0 60 7 + b) (qcov_iff.mpr ⟨⟨by omega, by omega⟩, by omega, by omega⟩)
      omega
theorem qtr_deck {N : qN0} (hG : qGeo N) (h8 : N 0 60 8 = 0) : (qsp N 60 (N 4 1 5)).length = 0 := by
  cases hl : (qsp N 60 (N 4 1 5)).length with
  | zero => rfl
  | succ m =>
    have h1 := qfs_at (P := qPk N 60) (n := N 4 1 5) (j := 0) (by show 0 < (qsp N 60 (N 4 1 5)).length; omega)
    have h2 := (qPk_t.mp h1.2).1
    have h3 := (hG.1 _ h1.1).2.2.2.2.2.2.1
    omega
theorem qtr_len {N : qN0} (hG : qGeo N) (h : qTr N) : (qsp N 60 (N 4 1 5)).length ≤ 36 := by
  by_cases h8 : N 0 60 8 = 0
  · rw [qtr_deck hG h8]; decide
  · have h1 := qtr_sum hG h (by omega)
    have h2 := (qtr_gr h).2
    have h3 : (qsp N 60 (N 4 1 5)).length ≤ qsum (fun j => qcm N 60 ((qsp N 60 (N 4 1 5)).getD j 0)) (qsp N 60 (N 4 1 5)).length := by
      have : qsum (fun _ => 1) (qsp N 60 (N 4 1 5)).length ≤ qsum (fun j => qcm N 60 ((qsp N 60 (N 4 1 5)).getD j 0)) (qsp N 60 (N 4 1 5)).length := qsum_le (fun j hj => (qPk_t.mp (qfs_at hj).2).2)
      rw [qsum_const] at this; omega
    omega
/-- the data of the loads, with the trial on top -/
theorem qext {B : qB} {R : qR0} {N : qN0} {S : Nat → Nat → Nat} (hn : N 4 1 5 ≤ 60) (hG : qGeo N) (hS : qSup B R N S) (h : qTr N) :
    (∀ i, i < N 4 1 5 + 1 → ∀ j, j < qx (qtr N) (N 4 1 5) 0 i 15 → qSx (qSt S N) (N 4 1 5) i j < i) ∧
    (∀ i, i < N 4 1 5 + 1 → decide (qx (qtr N) (N 4 1 5) 0 i 8 = 0) = true → qx (qtr N) (N 4 1 5) 0 i 15 = 0) ∧
    (∀ i, i < N 4 1 5 + 1 → decide (qx (qtr N) (N 4 1 5) 0 i 8 = 0) = false → 0 < qx (qtr N) (N 4 1 5) 0 i 10 ∧ qsum (qx (qtr N) (N 4 1 5) 1 i) (qx (qtr N) (N 4 1 5) 0 i 15) = qx (qtr N) (N 4 1 5) 0 i 10) := by
  refine ⟨fun i hi j hj => ?_, fun i hi hz => ?_, fun i hi hz => ?_⟩
  · by_cases h9 : i = N 4 1 5
    · subst h9
      rw [qx_n _ _ _ (by decide), qtr_15] at hj
      rw [qSx_n, qSt_60]
      exact (qfs_at hj).1
    · rw [qx_i _ _ h9, qtr_ne _ (by omega) (by omega)] at hj
      rw [qSx_i _ h9, qSt_i _ _ (by omega)]
      exact ((hS i (by omega)).2.2.2.1 j hj).2.1
  · have hz := of_decide_eq_true hz
    by_cases h9 : i = N 4 1 5
    · subst h9
      rw [qx_n _ _ _ (by decide)] at hz ⊢
      rw [qtr_ne _ (by omega) (by omega)] at hz
      rw [qtr_15]
      exact qtr_deck hG hz
    · rw [qx_i _ _ h9, qtr_ne _ (by omega) (by omega)] at hz ⊢
      exact (hS i (by omega)).2.2.2.2.1 hz
  · have hz := of_decide_eq_false hz
    by_cases h9 : i = N 4 1 5
    · subst h9
      rw [qx_n _ _ _ (by decide)] at hz
      rw [qtr_ne _ (by omega) (by omega)] at hz
      rw [qx_n _ _ _ (by decide), qx_n _ _ _ (by decide), qtr_15, qtr_ne (c := 0) (j := 10) _ (by omega) (by omega)]
      refine ⟨(qtr_gr h).1, ?_⟩
      rw [← qtr_sum hG h (by omega)]
      exact qsum_congr (fun j _ => qtr_1 N j)
    · rw [qx_i _ _ h9, qtr_ne _ (by omega) (by omega)] at hz
      rw [qx_i _ _ h9, qx_i _ _ h9, qtr_ne (c := 0) (j := 10) _ (by omega) (by omega), qtr_ne (c := 0) (j := 15) _ (by omega) (by omega)]
      have h1 := hS i (by omega)
      refine ⟨h1.2.1, ?_⟩
      rw [← h1.2.2.2.2.2 (by omega)]
      exact qsum_congr (fun j _ => qtr_ne _ (by omega) (by omega))
theorem qLb {B : qB} {R : qR0} {N : qN0} {S : Nat → Nat → Nat} (hn : N 4 1 5 ≤ 60) (hG : qGeo N) (hS : qSup B R N S) (h : qTr N) (hw : N 0 60 1 ≤ 500) : ∀ k i, k ≤ N 4 1 5 + 1 → i < N 4 1 5 + 1 → qLN (qSx (qSt S N) (N 4 1 5)) (qx (qtr N) (N 4 1 5)) (N 4 1 5 + 1) k i ≤ 1000000 := fun k i hk hi => by
  obtain ⟨e1, e2, e3⟩ := qext hn hG hS h
  have h1 := qLd_le (w := fun i => qx (qtr N) (N 4 1 5) 0 i 1) (z := fun i => decide (qx (qtr N) (N 4 1 5) 0 i 8 = 0)) e1 e2 e3 hk hi
  have h2 : qsum (fun i => qx (qtr N) (N 4 1 5) 0 i 1) (N 4 1 5 + 1) ≤ qsum (fun _ => 500) (N 4 1 5 + 1) := qsum_le (fun i hi => by
    by_cases h9 : i = N 4 1 5
    · subst h9
      rw [qx_n _ _ _ (by decide), qtr_ne _ (by omega) (by omega)]; exact hw
    · rw [qx_i _ _ h9, qtr_ne _ (by omega) (by omega)]
      exact (hG.1 i (by omega)).2.2.2.2.2.2.2)
  rw [qsum_const] at h2
  show qLd _ _ _ _ _ _ _ _ _ ≤ _
  omega
