/-! sums -/
def qsum (f : Nat → Nat) : Nat → Nat
  | 0 => 0
  | n + 1 => qsum f n + f n
theorem qsum_congr {f g : Nat → Nat} {n : Nat} (h : ∀ i, i < n → f i = g i) : qsum f n = qsum g n := by
  induction n with
  | zero => rfl
  | succ n ih => simp only [qsum]; rw [ih (fun i hi => h i (by omega)), h n (by omega)]
theorem qsum_add (f g : Nat → Nat) (n : Nat) : qsum (fun i => f i + g i) n = qsum f n + qsum g n := by
  induction n with
  | zero => rfl
  | succ n ih => simp only [qsum]; omega
theorem qsum_zero {f : Nat → Nat} {n : Nat} (h : ∀ i, i < n → f i = 0) : qsum f n = 0 := by
  induction n with
  | zero => rfl
  | succ n ih => simp only [qsum]; rw [ih (fun i hi => h i (by omega)), h n (by omega)]
theorem qsum_le {f g : Nat → Nat} {n : Nat} (h : ∀ i, i < n → f i ≤ g i) : qsum f n ≤ qsum g n := by
  induction n with
  | zero => exact Nat.le_refl _
  | succ n ih =>
    simp only [qsum]
    have h1 := ih (fun i hi => h i (by omega))
    have h2 := h n (by omega)
    omega
theorem qsum_mono {f : Nat → Nat} {m n : Nat} (h : m ≤ n) : qsum f m ≤ qsum f n := by
  induction n with
  | zero => have : m = 0 := by omega
            subst this; exact Nat.le_refl _
  | succ n ih =>
    by_cases hm : m = n + 1
    · subst hm; exact Nat.le_refl _
    · have := ih (by omega)
      simp only [qsum]; omega
theorem qsum_mem {f : Nat → Nat} {n i : Nat} (h : i < n) : f i ≤ qsum f n := by
  have := qsum_mono (f := f) (m := i + 1) (n := n) h
  simp only [qsum] at this; omega
theorem qsum_const (c n : Nat) : qsum (fun _ => c) n = c * n := by
  induction n with
  | zero => rfl
  | succ n ih => simp only [qsum]; rw [ih]; rw [Nat.mul_succ]
theorem qsum_one {f : Nat → Nat} {n i : Nat} (hi : i < n) (h : ∀ j, j < n → j ≠ i → f j = 0) : qsum f n = f i := by
  induction n with
  | zero => omega
  | succ n ih =>
    simp only [qsum]
    by_cases hn : i = n
    · subst hn
      rw [qsum_zero (fun j hj => h j (by omega) (by omega))]; omega
    · rw [ih (by omega) (fun j hj hne => h j (by omega) hne), h n (by omega) (fun h9 => hn h9.symm)]; omega
theorem qsum_swap (f : Nat → Nat → Nat) (n m : Nat) : qsum (fun i => qsum (f i) m) n = qsum (fun j => qsum (fun i => f i j) n) m := by
  induction n with
  | zero => simp only [qsum]; exact (qsum_zero (fun _ _ => rfl)).symm
  | succ n ih =>
    simp only [qsum]
    rw [ih, ← qsum_add]
theorem qsum_mul (c : Nat) (f : Nat → Nat) (n : Nat) : qsum (fun i => c * f i) n = c * qsum f n := by
  induction n with
  | zero => rfl
  | succ n ih => simp only [qsum]; rw [ih, Nat.mul_add]
theorem qsum_rev (f : Nat → Nat) (n : Nat) : qsum (fun j => f (n - 1 - j)) n = qsum f n := by
  have key : ∀ k, k ≤ n → qsum (fun j => f (n - 1 - j)) k + qsum f (n - k) = qsum f n := by
    intro k
    induction k with
    | zero => intro _; simp only [qsum, Nat.sub_zero]; omega
    | succ k ih =>
      intro hk
      have h1 := ih (by omega)
      rw [show n - k = (n - (k + 1)) + 1 by omega] at h1
      simp only [qsum] at h1 ⊢
      rw [show n - 1 - k = n - (k + 1) by omega]
      omega
  have := key n (Nat.le_refl _)
  rw [Nat.sub_self] at this
  simpa [qsum] using this
/-- a number put -/
def qu (f : Nat → Nat) (k x : Nat) : Nat → Nat := fun j => if j = k then x else f j
theorem qu_eq (f : Nat → Nat) (k x : Nat) : qu f k x k = x := by simp [qu]
theorem qu_ne (f : Nat → Nat) {k j : Nat} (x : Nat) (h : j ≠ k) : qu f k x j = f j := by simp [qu, h]
theorem qsum_qu {f : Nat → Nat} {n i x : Nat} (hi : i < n) : qsum (qu f i x) n + f i = qsum f n + x := by
  induction n with
  | zero => omega
  | succ n ih =>
    simp only [qsum]
    by_cases hn : i = n
    · subst hn
      rw [qsum_congr (g := f) (fun j hj => qu_ne f x (by omega)), qu_eq]; omega
    · have := ih (by omega)
      rw [qu_ne f x (show n ≠ i from fun h9 => hn h9.symm)]; omega
/-! loads: what one item puts on those under it -/
def qPs (S C : Nat → Nat) (t g : Nat) (v : Nat → Nat) : Nat → Nat → Nat
  | 0 => v
  | j + 1 => qu (qPs S C t g v j) (S j) (qPs S C t g v j (S j) + t * C j / g)
theorem qPs_ne {S C : Nat → Nat} {t g i : Nat} {v : Nat → Nat} {m : Nat} (h : ∀ j, j < m → S j ≠ i) : qPs S C t g v m i = v i := by
  induction m with
  | zero => rfl
  | succ m ih =>
    show qu _ _ _ i = _
    rw [qu_ne _ _ (fun h9 => h m (by omega) h9.symm), ih (fun j hj => h j (by omega))]
theorem qPs_sum {S C : Nat → Nat} {t g n : Nat} {v : Nat → Nat} {m : Nat} (h : ∀ j, j < m → S j < n) : qsum (qPs S C t g v m) n = qsum v n + qsum (fun j => t * C j / g) m := by
  induction m with
  | zero => rfl
  | succ m ih =>
    have h1 := ih (fun j hj => h j (by omega))
    have h2 := qsum_qu (f := qPs S C t g v m) (x := qPs S C t g v m (S m) + t * C m / g) (h m (by omega))
    show qsum (qu (qPs S C t g v m) (S m) (qPs S C t g v m (S m) + t * C m / g)) n = qsum v n + (qsum (fun j => t * C j / g) m + t * C m / g)
    omega
theorem qPs_bd {S C : Nat → Nat} {t g i b c : Nat} {v : Nat → Nat} {m : Nat} (hv : ∀ i, v i ≤ b) (hc : ∀ j, j < m → t * C j / g ≤ c) : qPs S C t g v m i ≤ b + m * c := by
  induction m generalizing i with
  | zero => have := hv i
            show v i ≤ _; omega
  | succ m ih =>
    have h0 : m * c + c = (m + 1) * c := (Nat.succ_mul m c).symm
    by_cases hi : i = S m
    · subst hi
      show qu _ _ _ (S m) ≤ _
      rw [qu_eq]
      have h1 := ih (i := S m) (fun j hj => hc j (by omega))
      have h2 := hc m (by omega)
      omega
    · show qu _ _ _ i ≤ _
      rw [qu_ne _ _ hi]
      have h1 := ih (i := i) (fun j hj => hc j (by omega))
      omega
theorem qfl_le {C : Nat → Nat} {t g m : Nat} (hg : 0 < g) (hC : qsum C m ≤ g) : qsum (fun j => t * C j / g) m ≤ t := by
  have h1 : qsum (fun j => t * C j / g) m * g ≤ t * qsum C m := by
    rw [← qsum_mul, Nat.mul_comm, ← qsum_mul]
    exact qsum_le (fun j _ => Nat.mul_div_le _ _)
  have h2 : qsum (fun j => t * C j / g) m * g ≤ t * g := Nat.le_trans h1 (Nat.mul_le_mul_left t hC)
  exact Nat.le_of_mul_le_mul_right h2 hg
theorem qfl_ge {C : Nat → Nat} {t g m : Nat} (hg : 0 < g) (hC : qsum C m = g) : t ≤ qsum (fun j => t * C j / g) m + m := by
  have h1 : t * qsum C m ≤ (qsum (fun j => t * C j / g) m + m) * g := by
    rw [← qsum_mul, Nat.mul_comm (_ + m)]
    have h2 : qsum (fun j => t * C j / g) m + m = qsum (fun j => t * C j / g + 1) m := by rw [qsum_add, qsum_const, Nat.one_mul]
    rw [h2, ← qsum_mul]
    refine qsum_le (fun j _ => ?_)
    have h3 := Nat.div_add_mod (t * C j) g
    have h4 := Nat.mod_lt (t * C j) hg
    rw [Nat.mul_add, Nat.mul_one]; omega
  rw [hC] at h1
  exact Nat.le_of_mul_le_mul_right h1 hg
/-- the loads, from the last item down -/
def qLd (S C : Nat → Nat → Nat) (w g m : Nat → Nat) (n : Nat) (v : Nat → Nat) : Nat → Nat → Nat
  | 0 => v
  | k + 1 => qPs (S (n - 1 - k)) (C (n - 1 - k)) (w (n - 1 - k) + qLd S C w g m n v k (n - 1 - k)) (g (n - 1 - k)) (qLd S C w g m n v k) (m (n - 1 - k))
theorem qLd_keep {S C : Nat → Nat → Nat} {w g m : Nat → Nat} {n : Nat} {v : Nat → Nat} (hS : ∀ i, i < n → ∀ j, j < m i → S i j < i) {k i : Nat} (hk : k ≤ n) (hi : n ≤ i + k + 1) : ∀ k', k ≤ k' → k' ≤ n → qLd S C w g m n v k' i = qLd S C w g m n v k i := by
  intro k' h1
  induction k' with
  | zero => intro _; have : k = 0 := by omega
            subst this; rfl
  | succ k' ih =>
    intro h2
    by_cases he : k = k' + 1
    · subst he; rfl
    · show qPs _ _ _ _ _ _ i = _
      rw [qPs_ne (fun j hj => ?_)]
      · exact ih (by omega) (by omega)
      · have := hS (n - 1 - k') (by omega) j hj
        omega
/-- what is put on the deck and what lies above, together, are the weights, but for what cutting takes -/
theorem qLd_all {S C : Nat → Nat → Nat} {w g m : Nat → Nat} {n : Nat} {z : Nat → Bool} (hS : ∀ i, i < n → ∀ j, j < m i → S i j < i) (hz : ∀ i, i < n → z i = true → m i = 0) (hg : ∀ i, i < n → z i = false → 0 < g i ∧ qsum (C i) (m i) = g i) :
    ∀ k, k ≤ n → ∀ v, v = qLd S C w g m n (fun _ => 0) k → qsum v (n - k) + qsum (fun j => if z (n - 1 - j) then w (n - 1 - j) + v (n - 1 - j) else 0) k ≤ qsum (fun j => w (n - 1 - j)) k ∧
      qsum (fun j => w (n - 1 - j)) k ≤ qsum v (n - k) + qsum (fun j => if z (n - 1 - j) then w (n - 1 - j) + v (n - 1 - j) else 0) k + qsum (fun j => m (n - 1 - j)) k := by
  intro k
  induction k with
  | zero =>
    intro _ v hv
    subst hv
    have : qsum (qLd S C w g m n (fun _ => 0) 0) (n - 0) = 0 := qsum_zero (fun _ _ => rfl)
    rw [this]; simp [qsum]
  | succ k ih =>
    intro hk v' hv'
    obtain ⟨v, hv⟩ : ∃ v, v = qLd S C w g m n (fun _ => 0) k := ⟨_, rfl⟩
    obtain ⟨i1, i2⟩ := ih (by omega) v hv
    obtain ⟨t, ht⟩ : ∃ t, t = n - 1 - k := ⟨_, rfl⟩
    have hv2 : v' = qPs (S t) (C t) (w t + v t) (g t) v (m t) := by rw [hv', hv, ht]; rfl
    have hSt := hS t (by omega)
    have same : ∀ i, t ≤ i → v' i = v i := fun i hi => by
      rw [hv2]; exact qPs_ne (fun j hj => by have := hSt j hj; omega)
    have hB : qsum (fun j => if z (n - 1 - j) then w (n - 1 - j) + v' (n - 1 - j) else 0) k = qsum (fun j => if z (n - 1 - j) then w (n - 1 - j) + v (n - 1 - j) else 0) k := qsum_congr (fun j hj => by rw [same _ (by omega)])
    have hA : qsum v' t = qsum v t + qsum (fun j => (w t + v t) * C t j / g t) (m t) := by rw [hv2]; exact qPs_sum hSt
    rw [show n - k = t + 1 by omega] at i1 i2
    rw [show n - (k + 1) = t by omega]
    simp only [qsum] at i1 i2 ⊢
    rw [hB, ← ht, same t (Nat.le_refl _), hA]
    by_cases hzt : z t = true
    · rw [if_pos hzt]
      have hm := hz t (by omega) hzt
      rw [hm] at *
      simp only [qsum] at *
      constructor <;> omega
    · have hzf : z t = false := by simpa using hzt
      rw [if_neg hzt]
      obtain ⟨g1, g2⟩ := hg t (by omega) hzf
      have f1 := qfl_le (t := w t + v t) g1 (Nat.le_of_eq g2)
      have f2 := qfl_ge (t := w t + v t) g1 g2
      constructor <;> omega
theorem qLd_le {S C : Nat → Nat → Nat} {w g m : Nat → Nat} {n : Nat} {z : Nat → Bool} (hS : ∀ i, i < n → ∀ j, j < m i → S i j < i) (hz : ∀ i, i < n → z i = true → m i = 0) (hg : ∀ i, i < n → z i = false → 0 < g i ∧ qsum (C i) (m i) = g i) {k i : Nat} (hk : k ≤ n) (hi : i < n) : qLd S C w g m n (fun _ => 0) k i ≤ qsum w n := by
  have small : ∀ k, k ≤ n → i < n - k → qLd S C w g m n (fun _ => 0) k i ≤ qsum w n := fun k hk hik => by
    have h1 := (qLd_all (w := w) hS hz hg k hk _ rfl).1
    have h2 := qsum_mem (f := qLd S C w g m n (fun _ => 0) k) hik
    have h3 : qsum (fun j => w (n - 1 - j)) k ≤ qsum (fun j => w (n - 1 - j)) n := qsum_mono hk
    rw [qsum_rev] at h3
    omega
  by_cases h : i < n - k
  · exact small k hk h
  · have := qLd_keep (v := fun _ => 0) (C := C) (w := w) (g := g) hS (k := n - 1 - i) (i := i) (by omega) (by omega) k (by omega) hk
    rw [this]
    exact small (n - 1 - i) (by omega) (by omega)
theorem qLd_borne {S C : Nat → Nat → Nat} {w g m : Nat → Nat} {n : Nat} {z : Nat → Bool} (hS : ∀ i, i < n → ∀ j, j < m i → S i j < i) (hz : ∀ i, i < n → z i = true → m i = 0) (hg : ∀ i, i < n → z i = false → 0 < g i ∧ qsum (C i) (m i) = g i) :
    qsum (fun i => if z i then w i + qLd S C w g m n (fun _ => 0) n i else 0) n ≤ qsum w n ∧ qsum w n ≤ qsum (fun i => if z i then w i + qLd S C w g m n (fun _ => 0) n i else 0) n + qsum m n := by
  obtain ⟨h1, h2⟩ := qLd_all (w := w) hS hz hg n (Nat.le_refl _) _ rfl
  rw [Nat.sub_self] at h1 h2
  rw [qsum_rev w, qsum_rev (fun i => if z i then w i + qLd S C w g m n (fun _ => 0) n i else 0)] at h1 h2
  rw [qsum_rev m] at h2
  simp only [qsum] at h1 h2
  constructor <;> omega
/-! cells -/
def qov (a la b lb : Nat) : Nat := min (a + la) (b + lb) - max a b
theorem qov_cnt (a la b lb : Nat) : qsum (fun i => if b ≤ a + i ∧ a + i < b + lb then 1 else 0) la = qov a la b lb := by
  induction la with
  | zero => simp only [qsum, qov]; omega
  | succ n ih =>
    simp only [qsum]
    rw [ih]
    unfold qov
    by_cases h : b ≤ a + n ∧ a + n < b + lb
    · rw [if_pos h]; omega
    · rw [if_neg h]; omega
/-- how many cells of a field have a property, row by row -/
def qcnt (x w y d : Nat) (P : Nat → Nat → Bool) : Nat := qsum (fun b => qsum (fun a => if P (x + a) (y + b) then 1 else 0) w) d
def qcov (x w y d cx cy : Nat) : Bool := decide (x ≤ cx) && decide (cx < x + w) && decide (y ≤ cy) && decide (cy < y + d)
theorem qcov_iff {x w y d cx cy : Nat} : qcov x w y d cx cy = true ↔ (x ≤ cx ∧ cx < x + w) ∧ (y ≤ cy ∧ cy < y + d) := by
  simp [qcov, and_assoc]
theorem qcnt_cov (x w y d x' w' y' d' : Nat) : qcnt x w y d (qcov x' w' y' d') = qov x w x' w' * qov y d y' d' := by
  unfold qcnt
  rw [← qov_cnt y d, ← qsum_mul]
  refine qsum_congr (fun b _ => ?_)
  rw [← qov_cnt x w]
  by_cases hb : y' ≤ y + b ∧ y + b < y' + d'
  · rw [if_pos hb, Nat.mul_one]
    refine qsum_congr (fun a _ => ?_)
    by_cases ha : x' ≤ x + a ∧ x + a < x' + w'
    · rw [if_pos ha, if_pos (qcov_iff.mpr ⟨ha, hb⟩)]
    · rw [if_neg ha, if_neg (fun h => ha (qcov_iff.mp h).1)]
  · rw [if_neg hb, Nat.mul_zero]
    exact qsum_zero (fun a _ => if_neg (fun h => hb (qcov_iff.mp h).2))
theorem qcnt_le (x w y d : Nat) (P : Nat → Nat → Bool) : qcnt x w y d P ≤ w * d := by
  unfold qcnt
  rw [← qsum_const]
  refine qsum_le (fun b _ => ?_)
  have h : qsum (fun a => if P (x + a) (y + b) then 1 else 0) w ≤ qsum (fun _ => 1) w := qsum_le (fun a _ => by split <;> omega)
  rw [qsum_const] at h; omega
theorem qcnt_congr {x w y d : Nat} {P P' : Nat → Nat → Bool} (h : ∀ a b, a < w → b < d → P (x + a) (y + b) = P' (x + a) (y + b)) : qcnt x w y d P = qcnt x w y d P' :=
  qsum_congr (fun b hb => qsum_congr (fun a ha => by rw [h a b ha hb]))
/-- the sum, over some items, of the cells that each has in common with a field, is what it has of cells that exactly one of them covers -/
theorem qcnt_split {x w y d n : Nat} {K : Nat → Bool} {X Wd Y Dp : Nat → Nat} {P : Nat → Nat → Bool} (h1 : ∀ a b, a < w → b < d → P (x + a) (y + b) = true → ∃ k, k < n ∧ K k = true ∧ qcov (X k) (Wd k) (Y k) (Dp k) (x + a) (y + b) = true ∧ ∀ k', k' < n → K k' = true → qcov (X k') (Wd k') (Y k') (Dp k') (x + a) (y + b) = true → k' = k)
    (h2 : ∀ a b, a < w → b < d → P (x + a) (y + b) = false → ∀ k, k < n → K k = true → qcov (X k) (Wd k) (Y k) (Dp k) (x + a) (y + b) = false) :
    qsum (fun k => if K k then qov x w (X k) (Wd k) * qov y d (Y k) (Dp k) else 0) n = qcnt x w y d P := by
  have e1 : ∀ k, (if K k then qov x w (X k) (Wd k) * qov y d (Y k) (Dp k) else 0) = qsum (fun b => qsum (fun a => if K k && qcov (X k) (Wd k) (Y k) (Dp k) (x + a) (y + b) then 1 else 0) w) d := fun k => by
    by_cases hk : K k = true
    · rw [if_pos hk, ← qcnt_cov]
      unfold qcnt
      simp only [hk, Bool.true_and]
    · rw [if_neg hk]
      have hk : K k = false := by simpa using hk
      simp only [hk, Bool.false_and]
      exact (qsum_zero (fun b _ => qsum_zero (fun a _ => rfl))).symm
  rw [qsum_congr (fun k _ => e1 k), qsum_swap]
  refine qsum_congr (fun b hb => ?_)
  rw [qsum_swap]
  refine qsum_congr (fun a ha => ?_)
  by_cases hp : P (x + a) (y + b) = true
  · obtain ⟨k, hk, hK, hc, hu⟩ := h1 a b ha hb hp
    rw [if_pos hp, qsum_one (i := k) hk (fun k' hk' hne => ?_)]
    · rw [hK, hc]; rfl
    · by_cases hK' : K k' = true
      · by_cases hc' : qcov (X k') (Wd k') (Y k') (Dp k') (x + a) (y + b) = true
        · exact absurd (hu k' hk' hK' hc') hne
        · simp [hc']
      · simp [hK']
  · rw [if_neg hp]
    have hp : P (x + a) (y + b) = false := by simpa using hp
    refine qsum_zero (fun k hk => ?_)
    by_cases hK' : K k = true
    · simp [h2 a b ha hb hp k hk hK']
    · simp [hK']
