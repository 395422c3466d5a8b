/-- the tops of some cells raised to an item's top -/
def qlP (N : qN0) (i : Nat) (P : Nat → Nat → Bool) : qN0 := fun c i' j => if c = 4 ∧ i' = 0 ∧ P (j % 12) (j / 12) = true then max (N 4 0 j) (N 0 i 9) else N c i' j
theorem qlP_ne (N : qN0) (i : Nat) (P : Nat → Nat → Bool) {c i' j : Nat} (h : c ≠ 4 ∨ i' ≠ 0) : qlP N i P c i' j = N c i' j := by
  unfold qlP
  rw [if_neg (fun h9 => by omega)]
theorem qlP_at (N : qN0) (i : Nat) (P : Nat → Nat → Bool) {cx cy : Nat} (hx : cx < 12) : qlP N i P 4 0 (cy * 12 + cx) = if P cx cy = true then max (N 4 0 (cy * 12 + cx)) (N 0 i 9) else N 4 0 (cy * 12 + cx) := by
  unfold qlP
  rw [show (cy * 12 + cx) % 12 = cx by omega, show (cy * 12 + cx) / 12 = cy by omega]
  by_cases h : P cx cy = true <;> simp [h]
theorem qlP_congr (N : qN0) (i : Nat) {P P' : Nat → Nat → Bool} (h : ∀ cx cy, cx < 12 → P cx cy = P' cx cy) : qlP N i P = qlP N i P' := by
  funext c i' j
  unfold qlP
  rw [h (j % 12) (j / 12) (Nat.mod_lt _ (by decide))]
/-- one more cell: written, or high enough -/
theorem qlP_up {N : qN0} {i : Nat} {P : Nat → Nat → Bool} {cx cy : Nat} (hx : cx < 12) (hP : P cx cy = false) (ht : N 4 0 (cy * 12 + cx) < N 0 i 9) : qp (qlP N i P) 4 0 (cy * 12 + cx) (N 0 i 9) = qlP N i (fun a b => P a b || (decide (a = cx) && decide (b = cy))) := by
  funext c i' j
  unfold qp qlP
  by_cases h : c = 4 ∧ i' = 0 ∧ j = cy * 12 + cx
  · obtain ⟨rfl, rfl, rfl⟩ := h
    rw [if_pos ⟨rfl, rfl, rfl⟩, show (cy * 12 + cx) % 12 = cx by omega, show (cy * 12 + cx) / 12 = cy by omega, if_pos ⟨rfl, rfl, by simp⟩]
    omega
  · rw [if_neg h]
    by_cases h2 : c = 4 ∧ i' = 0
    · have hj : ¬ (j % 12 = cx ∧ j / 12 = cy) := fun h9 => h ⟨h2.1, h2.2, by omega⟩
      have e : (P (j % 12) (j / 12) || (decide (j % 12 = cx) && decide (j / 12 = cy))) = P (j % 12) (j / 12) := by
        by_cases h3 : j % 12 = cx
        · have h4 : ¬ j / 12 = cy := fun h9 => hj ⟨h3, h9⟩
          simp [h4]
        · simp [h3]
      show _ = if c = 4 ∧ i' = 0 ∧ (P (j % 12) (j / 12) || (decide (j % 12 = cx) && decide (j / 12 = cy))) = true then _ else _
      rw [e]
    · rw [if_neg (fun h9 => h2 ⟨h9.1, h9.2.1⟩), if_neg (fun h9 => h2 ⟨h9.1, h9.2.1⟩)]
theorem qlP_dn {N : qN0} {i : Nat} {P : Nat → Nat → Bool} {cx cy : Nat} (ht : N 0 i 9 ≤ N 4 0 (cy * 12 + cx)) : qlP N i P = qlP N i (fun a b => P a b || (decide (a = cx) && decide (b = cy))) := by
  funext c i' j
  unfold qlP
  by_cases h2 : c = 4 ∧ i' = 0
  · obtain ⟨rfl, rfl⟩ := h2
    by_cases hj : j % 12 = cx ∧ j / 12 = cy
    · have he : j = cy * 12 + cx := by omega
      subst he
      rw [show (cy * 12 + cx) % 12 = cx by omega, show (cy * 12 + cx) / 12 = cy by omega]
      by_cases hp : P cx cy = true
      · simp [hp]
      · simp only [hp, decide_true, Bool.and_self, Bool.or_true, and_self, if_true]
        simp
        omega
    · have e : (P (j % 12) (j / 12) || (decide (j % 12 = cx) && decide (j / 12 = cy))) = P (j % 12) (j / 12) := by
        by_cases h3 : j % 12 = cx
        · have h4 : ¬ j / 12 = cy := fun h9 => hj ⟨h3, h9⟩
          simp [h4]
        · simp [h3]
      by_cases hp : P (j % 12) (j / 12) = true
      · rw [if_pos ⟨rfl, rfl, hp⟩]
        exact (if_pos ⟨rfl, rfl, e.trans hp⟩).symm
      · rw [if_neg (fun h9 => hp h9.2.2)]
        exact (if_neg (fun h9 => hp (e.symm.trans h9.2.2))).symm
  · rw [if_neg (fun h9 => h2 ⟨h9.1, h9.2.1⟩), if_neg (fun h9 => h2 ⟨h9.1, h9.2.1⟩)]
/-- the cells of an item that were seen: b rows and a cells of the next -/
def qsn (x w y b a : Nat) : Nat → Nat → Bool := fun cx cy => decide (x ≤ cx) && decide (cx < x + w) && decide (y ≤ cy) && (decide (cy < y + b) || (decide (cy = y + b) && decide (cx < x + a)))
theorem qsn_0 (x w y : Nat) (cx cy : Nat) : qsn x w y 0 0 cx cy = false := by
  cases h : qsn x w y 0 0 cx cy
  · rfl
  · simp [qsn] at h; omega
theorem qsn_1 (x w y b a : Nat) (h : a < w) (cx cy : Nat) : (qsn x w y b a cx cy || (decide (cx = x + a) && decide (cy = y + b))) = qsn x w y b (a + 1) cx cy := by
  rw [Bool.eq_iff_iff]
  simp [qsn]
  omega
theorem qsn_r (x w y b : Nat) (cx cy : Nat) : qsn x w y b w cx cy = qsn x w y (b + 1) 0 cx cy := by
  rw [Bool.eq_iff_iff]
  simp [qsn]
  omega
theorem qsn_e (x w y d : Nat) (cx cy : Nat) : qsn x w y d 0 cx cy = qcov x w y d cx cy := by
  rw [Bool.eq_iff_iff]
  simp [qsn, qcov]
  omega
theorem qsn_n (x w y b a : Nat) : qsn x w y b a (x + a) (y + b) = false := by
  cases h : qsn x w y b a (x + a) (y + b)
  · rfl
  · simp [qsn] at h
