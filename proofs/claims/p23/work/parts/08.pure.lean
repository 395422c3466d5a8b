/-- the cells that two items have in common -/
def qcm (N : qN0) (i k : Nat) : Nat := qov (N 0 i 6) (N 0 i 4) (N 0 k 6) (N 0 k 4) * qov (N 0 i 7) (N 0 i 5) (N 0 k 7) (N 0 k 5)
/-- those that have a property, in their order -/
def qfs (P : Nat → Bool) : Nat → List Nat
  | 0 => []
  | k + 1 => if P k then qfs P k ++ [k] else qfs P k
theorem qfs_mem {P : Nat → Bool} {n k : Nat} : k ∈ qfs P n ↔ k < n ∧ P k = true := by
  induction n with
  | zero => simp [qfs]
  | succ n ih =>
    simp only [qfs]
    by_cases hp : P n = true
    · rw [if_pos hp, List.mem_append, ih, List.mem_singleton]
      constructor
      · rintro (h | h)
        · exact ⟨by omega, h.2⟩
        · subst h; exact ⟨by omega, hp⟩
      · intro h
        by_cases h9 : k = n
        · exact Or.inr h9
        · exact Or.inl ⟨by omega, h.2⟩
    · rw [if_neg hp, ih]
      constructor
      · exact fun h => ⟨by omega, h.2⟩
      · intro h
        refine ⟨?_, h.2⟩
        by_cases h9 : k = n
        · subst h9; exact absurd h.2 hp
        · omega
theorem qfs_at {P : Nat → Bool} {n j : Nat} (h : j < (qfs P n).length) : (qfs P n).getD j 0 < n ∧ P ((qfs P n).getD j 0) = true := by
  rw [List.getD_eq_getElem?_getD, List.getElem?_eq_getElem h]
  exact qfs_mem.mp (List.getElem_mem h)
theorem qfs_len {P : Nat → Bool} {m n : Nat} (h : m ≤ n) : (qfs P m).length ≤ (qfs P n).length := by
  induction n with
  | zero => have : m = 0 := by omega
            subst this; exact Nat.le_refl _
  | succ n ih =>
    by_cases hm : m = n + 1
    · subst hm; exact Nat.le_refl _
    · have h1 := ih (by omega)
      simp only [qfs]
      split
      · rw [List.length_append]; omega
      · exact h1
theorem qfs_app {P : Nat → Bool} {n : Nat} (h : P n = true) : qfs P (n + 1) = qfs P n ++ [n] := by simp [qfs, h]
theorem qfs_skip {P : Nat → Bool} {n : Nat} (h : P n = false) : qfs P (n + 1) = qfs P n := by simp [qfs, h]
theorem qgd_l {l : List Nat} {k j : Nat} (h : j < l.length) : (l ++ [k]).getD j 0 = l.getD j 0 := by
  rw [List.getD_eq_getElem?_getD, List.getD_eq_getElem?_getD, List.getElem?_append_left h]
theorem qgd_r {l : List Nat} {k : Nat} : (l ++ [k]).getD l.length 0 = k := by
  rw [List.getD_eq_getElem?_getD, List.getElem?_append_right (Nat.le_refl _), Nat.sub_self]; rfl
theorem qfs_sum (P : Nat → Bool) (C : Nat → Nat) (n : Nat) : qsum (fun j => C ((qfs P n).getD j 0)) (qfs P n).length = qsum (fun k => if P k then C k else 0) n := by
  induction n with
  | zero => rfl
  | succ n ih =>
    simp only [qsum]
    by_cases hp : P n = true
    · rw [qfs_app hp, if_pos hp, List.length_append]
      show qsum _ ((qfs P n).length + 1) = _
      simp only [qsum]
      rw [qgd_r, ← ih]
      congr 1
      exact qsum_congr (fun j hj => by rw [qgd_l hj])
    · have hp : P n = false := by simpa using hp
      rw [qfs_skip hp, ih]
      simp [hp]
theorem qfs_congr {P P' : Nat → Bool} {n : Nat} (h : ∀ k, k < n → P k = P' k) : qfs P n = qfs P' n := by
  induction n with
  | zero => rfl
  | succ n ih =>
    simp only [qfs]
    rw [ih (fun k hk => h k (by omega)), h n (by omega)]
/-- the items that carry t -/
def qPk (N : qN0) (t k : Nat) : Bool := decide (N 0 k 9 = N 0 t 8) && decide (0 < qcm N t k)
def qsp (N : qN0) (t n : Nat) : List Nat := qfs (qPk N t) n
theorem qPk_t {N : qN0} {t k : Nat} : qPk N t k = true ↔ N 0 k 9 = N 0 t 8 ∧ 0 < qcm N t k := by simp [qPk]
/-- the numbers as if the trial were item n -/
def qx (N : qN0) (n : Nat) : qN0 := fun c i j => if i = n ∧ c ≤ 1 then N c 60 j else N c i j
def qSx (S : Nat → Nat → Nat) (n : Nat) : Nat → Nat → Nat := fun i => if i = n then S 60 else S i
theorem qx_n (N : qN0) (n c : Nat) (h : c ≤ 1) : qx N n c n = N c 60 := by funext j; simp [qx, h]
theorem qx_i (N : qN0) {n i : Nat} (c : Nat) (h : i ≠ n) : qx N n c i = N c i := by funext j; simp [qx, h]
theorem qSx_n (S : Nat → Nat → Nat) (n : Nat) : qSx S n n = S 60 := by simp [qSx]
theorem qSx_i (S : Nat → Nat → Nat) {n i : Nat} (h : i ≠ n) : qSx S n i = S i := by simp [qSx, h]
theorem qLd_congr {S S' C C' : Nat → Nat → Nat} {w w' g g' m m' : Nat → Nat} {n : Nat} {v : Nat → Nat} (hw : ∀ i, i < n → w i = w' i) (hg : ∀ i, i < n → g i = g' i) (hm : ∀ i, i < n → m i = m' i) (hS : ∀ i, i < n → ∀ j, j < m i → S i j = S' i j ∧ C i j = C' i j) : ∀ k, k ≤ n → qLd S C w g m n v k = qLd S' C' w' g' m' n v k := by
  have key : ∀ (S S' C C' : Nat → Nat) (t g : Nat) (v : Nat → Nat) (m : Nat), (∀ j, j < m → S j = S' j ∧ C j = C' j) → qPs S C t g v m = qPs S' C' t g v m := by
    intro S S' C C' t g v m h
    induction m with
    | zero => rfl
    | succ m ih =>
      show qu _ _ _ = qu _ _ _
      rw [ih (fun j hj => h j (by omega)), (h m (by omega)).1, (h m (by omega)).2]
  intro k
  induction k with
  | zero => intro _; rfl
  | succ k ih =>
    intro hk
    show qPs _ _ _ _ _ _ = qPs _ _ _ _ _ _
    rw [ih (by omega), hw _ (show n - 1 - k < n by omega), hg _ (show n - 1 - k < n by omega), ← hm _ (show n - 1 - k < n by omega)]
    exact key _ _ _ _ _ _ _ _ (hS _ (by omega))
/-- the greatest of a row of numbers, and how many are as great, number by number -/
def qgr (f : Nat → Nat) (e : Nat) : Nat := qsum (fun e' => if f e' = qmx f e then 1 else 0) e
theorem qmx_ge {f : Nat → Nat} {n i : Nat} (h : i < n) : f i ≤ qmx f n := by
  induction n with
  | zero => omega
  | succ n ih =>
    simp only [qmx]
    by_cases hi : i = n
    · subst hi; omega
    · have := ih (by omega); omega
theorem qmx_at {f : Nat → Nat} {n : Nat} (h : 0 < qmx f n) : ∃ i, i < n ∧ f i = qmx f n := by
  induction n with
  | zero => simp [qmx] at h
  | succ n ih =>
    simp only [qmx] at h ⊢
    by_cases h1 : qmx f n ≤ f n
    · exact ⟨n, by omega, by omega⟩
    · obtain ⟨i, hi, he⟩ := ih (by omega)
      exact ⟨i, by omega, by omega⟩
theorem qgr_up {f : Nat → Nat} {e : Nat} (h : qmx f e < f e) : qmx f (e + 1) = f e ∧ qgr f (e + 1) = 1 := by
  have h1 : qmx f (e + 1) = f e := by simp only [qmx]; omega
  refine ⟨h1, ?_⟩
  unfold qgr
  rw [h1]
  simp only [qsum, if_pos]
  rw [qsum_zero (fun i hi => if_neg (by have := qmx_ge (f := f) hi; omega))]
theorem qgr_eq {f : Nat → Nat} {e : Nat} (h : f e = qmx f e) : qmx f (e + 1) = qmx f e ∧ qgr f (e + 1) = qgr f e + 1 := by
  have h1 : qmx f (e + 1) = qmx f e := by simp only [qmx]; omega
  refine ⟨h1, ?_⟩
  unfold qgr
  rw [h1]
  simp only [qsum, if_pos h]
theorem qgr_dn {f : Nat → Nat} {e : Nat} (h : f e < qmx f e) : qmx f (e + 1) = qmx f e ∧ qgr f (e + 1) = qgr f e := by
  have h1 : qmx f (e + 1) = qmx f e := by simp only [qmx]; omega
  refine ⟨h1, ?_⟩
  unfold qgr
  rw [h1]
  simp only [qsum]
  rw [if_neg (by omega)]; rfl
theorem qsum_app (f : Nat → Nat) (m n : Nat) : qsum f (m + n) = qsum f m + qsum (fun i => f (m + i)) n := by
  induction n with
  | zero => rfl
  | succ n ih => rw [← Nat.add_assoc]; simp only [qsum]; omega
theorem qsum_rows (F : Nat → Nat → Nat) {w : Nat} (hw : 0 < w) (d : Nat) : qsum (fun e => F (e % w) (e / w)) (w * d) = qsum (fun b => qsum (fun a => F a b) w) d := by
  induction d with
  | zero => rfl
  | succ d ih =>
    rw [Nat.mul_succ, qsum_app, ih]
    simp only [qsum]
    congr 1
    refine qsum_congr (fun a ha => ?_)
    rw [Nat.mul_add_mod, Nat.mod_eq_of_lt ha, Nat.mul_add_div hw, Nat.div_eq_of_lt ha, Nat.add_zero]
/-- the tops of a field's cells, one after the other -/
def qf (N : qN0) (x w y : Nat) : Nat → Nat := fun e => N 4 0 ((y + e / w) * 12 + (x + e % w))
theorem qgr_cnt (N : qN0) (x y d : Nat) {w : Nat} (hw : 0 < w) : qgr (qf N x w y) (w * d) = qcnt x w y d (fun cx cy => decide (N 4 0 (cy * 12 + cx) = qmx (qf N x w y) (w * d))) := by
  unfold qgr qcnt
  rw [← qsum_rows (fun a b => if decide (N 4 0 ((y + b) * 12 + (x + a)) = qmx (qf N x w y) (w * d)) = true then 1 else 0) hw d]
  refine qsum_congr (fun e _ => ?_)
  by_cases h : N 4 0 ((y + e / w) * 12 + (x + e % w)) = qmx (qf N x w y) (w * d)
  · rw [if_pos (show qf N x w y e = qmx (qf N x w y) (w * d) from h), if_pos (decide_eq_true h)]
  · rw [if_neg (show ¬ qf N x w y e = qmx (qf N x w y) (w * d) from h), if_neg (fun h9 => h (of_decide_eq_true h9))]
theorem qgr_le {f : Nat → Nat} {e : Nat} : qgr f e ≤ e := by
  have h : qgr f e ≤ qsum (fun _ => 1) e := qsum_le (fun i _ => by split <;> omega)
  rw [qsum_const] at h; omega
theorem qgr_pos {f : Nat → Nat} {e : Nat} (h : 0 < e) : 0 < qgr f e := by
  have key : ∃ i, i < e ∧ f i = qmx f e := by
    by_cases h0 : 0 < qmx f e
    · exact qmx_at h0
    · exact ⟨0, h, by have := qmx_ge (f := f) h; omega⟩
  obtain ⟨i, hi, he⟩ := key
  have := qsum_mem (f := fun e' => if f e' = qmx f e then 1 else 0) hi
  simp only [he, if_pos] at this
  exact this
/-- a trial let down: its numbers -/
def qwd (N : qN0) (k t : Nat) : Nat := if t = 1 then N 2 k 2 else N 2 k 1
def qdp (N : qN0) (k t : Nat) : Nat := if t = 1 then N 2 k 1 else N 2 k 2
def qbt (N : qN0) (k x y t : Nat) : Nat := qmx (qf N x (qwd N k t) y) (qwd N k t * qdp N k t)
def qgd (N : qN0) (k x y t : Nat) : Nat := qgr (qf N x (qwd N k t) y) (qwd N k t * qdp N k t)
def qsh (N : qN0) (k t : Nat) : qN0 := fun c i j => if c = 0 ∧ i = 60 ∧ j ≤ 5 then [N 2 k 0, N 2 k 4, N 2 k 5, t, qwd N k t, qdp N k t].getD j 0 else N c i j
def qld (N : qN0) (k x y t : Nat) : qN0 := fun c i j => if c = 0 ∧ i = 60 ∧ j ≤ 10 then [N 2 k 0, N 2 k 4, N 2 k 5, t, qwd N k t, qdp N k t, x, y, qbt N k x y t, qbt N k x y t + N 2 k 3, qgd N k x y t].getD j 0 else N c i j
theorem qsh_ne (N : qN0) (k t : Nat) {c i j : Nat} (h : c ≠ 0 ∨ i ≠ 60 ∨ 5 < j) : qsh N k t c i j = N c i j := by
  unfold qsh
  rw [if_neg (fun h9 => by omega)]
theorem qld_ne (N : qN0) (k x y t : Nat) {c i j : Nat} (h : c ≠ 0 ∨ i ≠ 60 ∨ 10 < j) : qld N k x y t c i j = N c i j := by
  unfold qld
  rw [if_neg (fun h9 => by omega)]
theorem qsh_eq {N : qN0} {k t : Nat} : qp (qp (qp (qp (qp (qp N 0 60 0 (N 2 k 0)) 0 60 1 (N 2 k 4)) 0 60 2 (N 2 k 5)) 0 60 3 t) 0 60 4 (qwd N k t)) 0 60 5 (qdp N k t) = qsh N k t := by
  funext c i j
  unfold qsh
  by_cases h : c = 0 ∧ i = 60
  · obtain ⟨rfl, rfl⟩ := h
    rcases (show j = 0 ∨ j = 1 ∨ j = 2 ∨ j = 3 ∨ j = 4 ∨ j = 5 ∨ 5 < j by omega) with h | h | h | h | h | h | h
    · subst h; simp [qp]
    · subst h; simp [qp]
    · subst h; simp [qp]
    · subst h; simp [qp]
    · subst h; simp [qp]
    · subst h; simp [qp]
    · rw [if_neg (by omega)]
      rw [qp_j _ _ _ _ _ _ (show j ≠ 5 by omega), qp_j _ _ _ _ _ _ (show j ≠ 4 by omega), qp_j _ _ _ _ _ _ (show j ≠ 3 by omega), qp_j _ _ _ _ _ _ (show j ≠ 2 by omega), qp_j _ _ _ _ _ _ (show j ≠ 1 by omega), qp_j _ _ _ _ _ _ (show j ≠ 0 by omega)]
  · rw [if_neg (fun h9 => h ⟨h9.1, h9.2.1⟩)]
    have g : ∀ (M : qN0) (j' x : Nat), qp M 0 60 j' x c i j = M c i j := fun M j' x => if_neg (fun h9 => h ⟨h9.1, h9.2.1⟩)
    rw [g, g, g, g, g, g]
theorem qld_eq {N N1 : qN0} {k x y t : Nat} (h : N1 = qsh N k t) : qp (qp (qp (qp (qp N1 0 60 6 x) 0 60 7 y) 0 60 8 (qbt N k x y t)) 0 60 9 (qbt N k x y t + N 2 k 3)) 0 60 10 (qgd N k x y t) = qld N k x y t := by
  subst h
  funext c i j
  unfold qld
  by_cases h : c = 0 ∧ i = 60
  · obtain ⟨rfl, rfl⟩ := h
    rcases (show j ≤ 5 ∨ j = 6 ∨ j = 7 ∨ j = 8 ∨ j = 9 ∨ j = 10 ∨ 10 < j by omega) with h | h | h | h | h | h | h
    · rw [if_pos ⟨rfl, rfl, by omega⟩, qp_j _ _ _ _ _ _ (show j ≠ 10 by omega), qp_j _ _ _ _ _ _ (show j ≠ 9 by omega), qp_j _ _ _ _ _ _ (show j ≠ 8 by omega), qp_j _ _ _ _ _ _ (show j ≠ 7 by omega), qp_j _ _ _ _ _ _ (show j ≠ 6 by omega)]
      unfold qsh
      rw [if_pos ⟨rfl, rfl, h⟩]
      rcases (show j = 0 ∨ j = 1 ∨ j = 2 ∨ j = 3 ∨ j = 4 ∨ j = 5 by omega) with h | h | h | h | h | h <;> subst h <;> rfl
    · subst h; simp [qp]
    · subst h; simp [qp]
    · subst h; simp [qp]
    · subst h; simp [qp]
    · subst h; simp [qp]
    · rw [if_neg (by omega), qp_j _ _ _ _ _ _ (show j ≠ 10 by omega), qp_j _ _ _ _ _ _ (show j ≠ 9 by omega), qp_j _ _ _ _ _ _ (show j ≠ 8 by omega), qp_j _ _ _ _ _ _ (show j ≠ 7 by omega), qp_j _ _ _ _ _ _ (show j ≠ 6 by omega)]
      exact qsh_ne _ _ _ (by omega)
  · rw [if_neg (fun h9 => h ⟨h9.1, h9.2.1⟩)]
    have g : ∀ (M : qN0) (j' x : Nat), qp M 0 60 j' x c i j = M c i j := fun M j' x => if_neg (fun h9 => h ⟨h9.1, h9.2.1⟩)
    rw [g, g, g, g, g]
    exact qsh_ne _ _ _ (by omega)
theorem qf_at (N : qN0) (x y b a : Nat) {w : Nat} (h : a < w) : qf N x w y (b * w + a) = N 4 0 ((y + b) * 12 + (x + a)) := by
  unfold qf
  rw [Nat.mul_comm b w, Nat.mul_add_div (by omega), Nat.div_eq_of_lt h, Nat.mul_add_mod, Nat.mod_eq_of_lt h, Nat.add_zero]
