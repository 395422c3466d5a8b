/-- the law's cells behind build: hand, rules, kinds' array, kinds, what was seen, and its entries -/
def qSx1 (cI : ClassId) (sa sv : Nat → Nat) (e : Nat) : Nat × va_E := (sa e, .inl (cI, 1, .inl (fun j => nI (qu (fun _ => 0) 0 (sv e) j))))
def qLX (cA cI cS : ClassId) (ad : Nat → Nat) (many : Nat) (F : Nat → Option Nat) (rf : Nat → Int32) (K : Nat → Nat) (V : Nat → Nat → Nat) (sf : Nat → Option Nat) (sa sv : Nat → Nat) (cnt : Nat) : va_W :=
  qHX cA cI ad many F rf ++ (qKx cI K V many ++ ((ad 4, .inl (cS, 120, .inr (.inr (.inr (.inr sf))))) :: (List.range cnt).map (qSx1 cI sa sv)))
theorem qLX_k {cA cI cS : ClassId} {ad : Nat → Nat} {many : Nat} {F : Nat → Option Nat} {rf : Nat → Int32} {K : Nat → Nat} {V : Nat → Nat → Nat} {sf : Nat → Option Nat} {sa sv : Nat → Nat} {cnt k : Nat} {Y : va_W} (h : k < many) : (qLX cA cI cS ad many F rf K V sf sa sv cnt ++ Y)[3 + k]? = some (K k, .inl (cI, 6, .inl (fun j => nI (V k j)))) := qat_l (qKx_at rfl h)
theorem qKx_len (cI : ClassId) (K : Nat → Nat) (V : Nat → Nat → Nat) (i : Nat) : (qKx cI K V i).length = i := by simp [qKx]
theorem qLX_s {cA cI cS : ClassId} {ad : Nat → Nat} {many : Nat} {F : Nat → Option Nat} {rf : Nat → Int32} {K : Nat → Nat} {V : Nat → Nat → Nat} {sf : Nat → Option Nat} {sa sv : Nat → Nat} {cnt : Nat} {Y : va_W} : (qLX cA cI cS ad many F rf K V sf sa sv cnt ++ Y)[3 + many]? = some (ad 4, .inl (cS, 120, .inr (.inr (.inr (.inr sf))))) := by
  refine qat_l ?_
  have h := qgy (HD := qHX cA cI ad many F rf) (P := qKx cI K V many) (l := (List.range cnt).map (qSx1 cI sa sv)) (c := (ad 4, .inl (cS, 120, .inr (.inr (.inr (.inr sf)))))) (k := 3) rfl
  rw [qKx_len] at h
  exact h
theorem qLX_e {cA cI cS : ClassId} {ad : Nat → Nat} {many : Nat} {F : Nat → Option Nat} {rf : Nat → Int32} {K : Nat → Nat} {V : Nat → Nat → Nat} {sf : Nat → Option Nat} {sa sv : Nat → Nat} {cnt e : Nat} {Y : va_W} (h : e < cnt) : (qLX cA cI cS ad many F rf K V sf sa sv cnt ++ Y)[3 + many + 1 + e]? = some (qSx1 cI sa sv e) := by
  refine qat_l ?_
  have e1 : qLX cA cI cS ad many F rf K V sf sa sv cnt = (qHX cA cI ad many F rf ++ (qKx cI K V many ++ [(ad 4, .inl (cS, 120, .inr (.inr (.inr (.inr sf)))))])) ++ ((List.range cnt).map (qSx1 cI sa sv) ++ []) := by
    unfold qLX
    simp only [List.append_assoc, List.singleton_append, List.append_nil]
  rw [e1]
  refine qap_get (X := qHX cA cI ad many F rf ++ (qKx cI K V many ++ [(ad 4, .inl (cS, 120, .inr (.inr (.inr (.inr sf)))))])) h ?_
  simp only [List.length_append, qKx_len, List.length_singleton]
  show 3 + (many + 1) = _
  omega
/-- one entry more -/
theorem qLX_1 {cA cI cS : ClassId} {ad : Nat → Nat} {many : Nat} {F : Nat → Option Nat} {rf : Nat → Int32} {K : Nat → Nat} {V : Nat → Nat → Nat} {sf : Nat → Option Nat} {sa sv : Nat → Nat} {cnt q v : Nat} : qLX cA cI cS ad many F rf K V sf sa sv cnt ++ [(q, .inl (cI, 1, .inl (fun j => nI (qu (fun _ => 0) 0 v j))))] = qLX cA cI cS ad many F rf K V sf (fun e => if e = cnt then q else sa e) (fun e => if e = cnt then v else sv e) (cnt + 1) := by
  unfold qLX
  simp only [List.append_assoc, List.cons_append]
  congr 3
  rw [List.range_succ, List.map_append]
  congr 1
  · apply List.map_congr_left
    intro e he
    have he := List.mem_range.mp he
    have h9 : e ≠ cnt := by omega
    simp [qSx1, h9]
  · simp [qSx1]
/-- an entry set down -/
theorem qLX_set {cA cI cS : ClassId} {ad : Nat → Nat} {many : Nat} {F : Nat → Option Nat} {rf : Nat → Int32} {K : Nat → Nat} {V : Nat → Nat → Nat} {sf sf' : Nat → Option Nat} {sa sv : Nat → Nat} {cnt : Nat} {Y : va_W} : (qLX cA cI cS ad many F rf K V sf sa sv cnt ++ Y).set (3 + many) (ad 4, .inl (cS, 120, .inr (.inr (.inr (.inr sf'))))) = qLX cA cI cS ad many F rf K V sf' sa sv cnt ++ Y := by
  have hl : (qHX cA cI ad many F rf).length = 3 := rfl
  unfold qLX
  rw [List.set_append_left _ _ (by simp only [List.length_append, qKx_len, List.length_cons, hl]; omega), List.set_append_right _ _ (by rw [hl]; omega), hl, Nat.add_sub_cancel_left, List.set_append_right _ _ (by rw [qKx_len]; exact Nat.le_refl _), qKx_len, Nat.sub_self]
  rfl
/-- what was seen, before the cell (x, y) of item i -/
def qSn (N : qN0) (sf : Nat → Option Nat) (sa sv : Nat → Nat) (cnt i x y : Nat) : Prop := ∀ cx cy, cx < 12 → cy < 10 → sf (12 * cy + cx) = none ∨ ∃ e k, e < cnt ∧ sf (12 * cy + cx) = some (sa e) ∧ sv e = N 0 k 9 ∧ qci N k cx cy = true ∧ (k < i ∨ (k = i ∧ (cx < x ∨ (cx = x ∧ cy < y))))
theorem qSn_le {N : qN0} {sf : Nat → Option Nat} {sa sv : Nat → Nat} {cnt i x y : Nat} (hG : qGeo N) (hi : i < N 4 1 5) (h : qSn N sf sa sv cnt i x y) (hx : x < 12) (hy : y < 10) (hc : qci N i x y = true) : sf (12 * y + x) = none ∨ ∃ e, e < cnt ∧ sf (12 * y + x) = some (sa e) ∧ sv e ≤ N 0 i 8 := by
  rcases h x y hx hy with h | ⟨e, k, h1, h2, h3, h4, h5⟩
  · exact Or.inl h
  · refine Or.inr ⟨e, h1, h2, ?_⟩
    rcases h5 with h5 | h5
    · rw [h3]; exact hG.2.1 k i h5 hi x y h4 hc
    · omega
theorem qSn_1 {N : qN0} {sf : Nat → Option Nat} {sa sv : Nat → Nat} {cnt i x y q : Nat} (h : qSn N sf sa sv cnt i x y) (hx : x < 12) (hc : qci N i x y = true) : qSn N (va_up sf (12 * y + x) (some q)) (fun e => if e = cnt then q else sa e) (fun e => if e = cnt then N 0 i 9 else sv e) (cnt + 1) i x (y + 1) := by
  intro cx cy h1 h2
  by_cases h9 : cx = x ∧ cy = y
  · obtain ⟨rfl, rfl⟩ := h9
    refine Or.inr ⟨cnt, i, by omega, ?_, ?_, hc, Or.inr ⟨rfl, Or.inr ⟨rfl, by omega⟩⟩⟩
    · rw [va_up_self]; simp
    · simp
  · have hne : 12 * cy + cx ≠ 12 * y + x := by omega
    rcases h cx cy h1 h2 with h | ⟨e, k, g1, g2, g3, g4, g5⟩
    · left; rw [va_up_ne _ _ hne]; exact h
    · refine Or.inr ⟨e, k, by omega, ?_, ?_, g4, ?_⟩
      · rw [va_up_ne _ _ hne, g2]; simp only [if_neg (show ¬ e = cnt by omega)]
      · simp only [if_neg (show ¬ e = cnt by omega)]; exact g3
      · rcases g5 with g5 | ⟨g5, g6⟩
        · exact Or.inl g5
        · refine Or.inr ⟨g5, ?_⟩
          omega
theorem qSn_x {N : qN0} {sf : Nat → Option Nat} {sa sv : Nat → Nat} {cnt i x y : Nat} (h : qSn N sf sa sv cnt i x y) : qSn N sf sa sv cnt i (x + 1) 0 := by
  intro cx cy h1 h2
  rcases h cx cy h1 h2 with h | ⟨e, k, g1, g2, g3, g4, g5⟩
  · exact Or.inl h
  · refine Or.inr ⟨e, k, g1, g2, g3, g4, ?_⟩
    omega
theorem qSn_y {N : qN0} {sf : Nat → Option Nat} {sa sv : Nat → Nat} {cnt i x y y' : Nat} (h : qSn N sf sa sv cnt i x y) (hy : y ≤ y') : qSn N sf sa sv cnt i x y' := by
  intro cx cy h1 h2
  rcases h cx cy h1 h2 with h | ⟨e, k, g1, g2, g3, g4, g5⟩
  · exact Or.inl h
  · refine Or.inr ⟨e, k, g1, g2, g3, g4, ?_⟩
    omega
theorem qSn_i {N : qN0} {sf : Nat → Option Nat} {sa sv : Nat → Nat} {cnt i x y : Nat} (h : qSn N sf sa sv cnt i x y) : qSn N sf sa sv cnt (i + 1) 0 0 := by
  intro cx cy h1 h2
  rcases h cx cy h1 h2 with h | ⟨e, k, g1, g2, g3, g4, g5⟩
  · exact Or.inl h
  · refine Or.inr ⟨e, k, g1, g2, g3, g4, Or.inl ?_⟩
    omega
theorem qSn_0 {N : qN0} (sa sv : Nat → Nat) (cnt i : Nat) : qSn N (fun _ => none) sa sv cnt i 0 0 := fun cx cy _ _ => Or.inl rfl
theorem qSn_14 {N N' : qN0} {sf : Nat → Option Nat} {sa sv : Nat → Nat} {cnt i x y : Nat} (hR : qR14 N N') (h : qSn N sf sa sv cnt i x y) : qSn N' sf sa sv cnt i x y := by
  intro cx cy h1 h2
  rcases h cx cy h1 h2 with h | ⟨e, k, g1, g2, g3, g4, g5⟩
  · exact Or.inl h
  · refine Or.inr ⟨e, k, g1, g2, by rw [hR 0 k 9 (by omega)]; exact g3, ?_, g5⟩
    unfold qci
    rw [hR 0 k 4 (by omega), hR 0 k 5 (by omega), hR 0 k 6 (by omega), hR 0 k 7 (by omega)]
    exact g4
/-- what the law asks of an item -/
theorem qAsk {B : qB} {R : qR0} {N : qN0} {S : Nat → Nat → Nat} {V : Nat → Nat → Nat} {i : Nat} (hF : qFull B R N S) (hi : i < N 4 1 5) (hV : ∀ k, k < qk B → qKv N V k) :
    N 0 i 0 < qk B ∧ V (N 0 i 0) (if N 0 i 3 = 1 then 1 else 0) = N 0 i 4 ∧ V (N 0 i 0) (if N 0 i 3 = 1 then 0 else 1) = N 0 i 5 ∧ N 0 i 9 = N 0 i 8 + V (N 0 i 0) 2 ∧ (N 0 i 3 = 1 → V (N 0 i 0) 5 % 2 = 1) ∧ (1 < V (N 0 i 0) 5 → N 0 i 8 = 0) ∧ N 0 i 11 ≤ V (N 0 i 0) 4 ∧ N 4 1 2 * N 0 i 4 * N 0 i 5 ≤ N 0 i 10 * 100 ∧ (N 0 i 8 = 0 → N 0 i 15 = 0) ∧ (0 < N 0 i 8 → 0 < N 0 i 15) ∧ V (N 0 i 0) 3 = N 0 i 1 ∧ N 0 i 3 < 2 ∧ N 0 i 9 ≤ 40 ∧ N 0 i 15 ≤ 36 ∧ N 0 i 10 ≤ 36 := by
  obtain ⟨f1, f2, f3, f4, f5, f6, f7, f8, f9⟩ := hF
  obtain ⟨m0, m1, m2, m3, m4, m5, m6, m7, m8, m9, m10⟩ := f8 i hi
  obtain ⟨v0, v1, v2, v3, v4, v5, v6, v7⟩ := hV _ m0
  obtain ⟨s1, s2, s3, s4, s5, s6⟩ := f4 i hi
  refine ⟨m0, ?_, ?_, by rw [v2]; exact m7, fun h => by rw [v5]; exact m4 h, fun h => m8 (by rw [← v6]; omega), by rw [v4, ← m2]; exact (f7 i hi).2, ?_, s5, fun h => ?_, by rw [v3]; exact m1.symm, m3, Nat.le_trans m9 f6.1, s1, s3⟩
  · rw [m5]; unfold qwd
    split
    · exact v1
    · exact v0
  · rw [m6]; unfold qdp
    split
    · exact v0
    · exact v1
  · rw [Nat.mul_assoc, Nat.mul_comm]; exact m10
  · rcases Nat.eq_zero_or_pos (N 0 i 15) with h0 | h0
    · have := s6 h
      rw [h0] at this
      have : (0 : Nat) = N 0 i 10 := this
      omega
    · exact h0
/-- the loads and weights of the items on the deck -/
theorem qEnd {B : qB} {R : qR0} {N : qN0} {S : Nat → Nat → Nat} (hF : qFull B R N S) : qsum (fun i => if N 0 i 8 = 0 then N 0 i 11 + N 0 i 1 else 0) (N 4 1 5) ≤ N 4 1 7 ∧ N 4 1 7 ≤ qsum (fun i => if N 0 i 8 = 0 then N 0 i 11 + N 0 i 1 else 0) (N 4 1 5) + qsum (fun i => N 0 i 15) (N 4 1 5) := by
  obtain ⟨f1, f2, f3, f4, f5, f6, f7, f8, f9⟩ := hF
  obtain ⟨b1, b2⟩ := qLd_borne (S := S) (C := N 1) (w := fun i => N 0 i 1) (g := fun i => N 0 i 10) (m := fun i => N 0 i 15) (n := N 4 1 5) (z := fun i => decide (N 0 i 8 = 0)) (fun i hi j hj => ((f4 i hi).2.2.2.1 j hj).2.1) (fun i hi hz => (f4 i hi).2.2.2.2.1 (of_decide_eq_true hz)) (fun i hi hz => ⟨(f4 i hi).2.1, (f4 i hi).2.2.2.2.2 (by have := of_decide_eq_false hz; omega)⟩)
  have e : qsum (fun i => if (fun i => decide (N 0 i 8 = 0)) i = true then (fun i => N 0 i 1) i + qLd S (N 1) (fun i => N 0 i 1) (fun i => N 0 i 10) (fun i => N 0 i 15) (N 4 1 5) (fun _ => 0) (N 4 1 5) i else 0) (N 4 1 5) = qsum (fun i => if N 0 i 8 = 0 then N 0 i 11 + N 0 i 1 else 0) (N 4 1 5) := qsum_congr (fun i hi => by
    have h9 : N 0 i 11 = qLd S (N 1) (fun i => N 0 i 1) (fun i => N 0 i 10) (fun i => N 0 i 15) (N 4 1 5) (fun _ => 0) (N 4 1 5) i := (f7 i hi).1
    by_cases h : N 0 i 8 = 0
    · rw [if_pos (decide_eq_true h), if_pos h, h9, Nat.add_comm]
    · rw [if_neg (by simpa using h), if_neg h])
  rw [e] at b1 b2
  rw [f9.2.1]
  exact ⟨b1, b2⟩
theorem qnlt_sub {a b c : Nat} (h : b ≤ a + c) (ha : a < 2 ^ 29) (hb : b < 2 ^ 29) (hc : c < 2 ^ 29) : ¬ nI a < nI b - nI c := by
  rw [Int32.lt_iff_toInt_lt, pk_sub_toInt (by omega) (by omega), nI_toInt (by omega)]
  omega
theorem qSn_mx {N : qN0} {sf : Nat → Option Nat} {sa sv : Nat → Nat} {cnt i x y x' : Nat} (h : qSn N sf sa sv cnt i x y) (hx : x < x' ∨ (x = x' ∧ y = 0)) : qSn N sf sa sv cnt i x' 0 := by
  intro cx cy h1 h2
  rcases h cx cy h1 h2 with h | ⟨e, k, g1, g2, g3, g4, g5⟩
  · exact Or.inl h
  · refine Or.inr ⟨e, k, g1, g2, g3, g4, ?_⟩
    omega
theorem qKv_14 {N N' : qN0} {V : Nat → Nat → Nat} {k : Nat} (hR : qR14 N N') (h : qKv N V k) : qKv N' V k := by
  unfold qKv
  rw [hR 2 k 1 (by omega), hR 2 k 2 (by omega), hR 2 k 3 (by omega), hR 2 k 4 (by omega), hR 2 k 5 (by omega), hR 2 k 6 (by omega), hR 2 k 7 (by omega)]
  exact h
theorem qKv_2 {N N' : qN0} {V : Nat → Nat → Nat} {k : Nat} (hR : N' 2 = N 2) (h : qKv N V k) : qKv N' V k := by
  unfold qKv
  rw [hR]
  exact h
theorem qNl_2 (N : qN0) (l k x : Nat) : qNl N l k x 2 = N 2 := by
  funext i j
  exact qNl_ne (by omega) (by omega)
theorem qWn_line {B : qB} {N : qN0} {a k x : Nat} : qWn (qBl B a) (qNl N (ql B) k x) = qWn B N + x := by
  show qsum (fun l => qNl N (ql B) k x 3 l 1) (ql B) + qNl N (ql B) k x 3 (ql B) 1 = qsum (fun l => N 3 l 1) (ql B) + x
  have e1 : qNl N (ql B) k x 3 (ql B) 1 = x := by simp [qNl]
  rw [e1, qsum_congr (g := fun l => N 3 l 1) (fun l hl => qNl_ne (by omega) (by omega))]
theorem qLs_line {B : qB} {N : qN0} {a k x : Nat} (hk : k < qk B) (h : qLs B N) : qLs (qBl B a) (qNl N (ql B) k x) := by
  intro l hl
  have hl : l < ql B + 1 := hl
  show qNl N (ql B) k x 3 l 0 < qk B
  by_cases h9 : l = ql B
  · subst h9
    have e1 : qNl N (ql B) k x 3 (ql B) 0 = k := by simp [qNl]
    rw [e1]; exact hk
  · rw [qNl_ne (by omega) (by omega)]; exact h l (by omega)
theorem qRv_line {B : qB} {N : qN0} {k x : Nat} {rf : Nat → Int32} (h : qRv N rf) : qRv (qNl N (ql B) k x) rf := by
  unfold qRv
  rw [qNl_ne (by omega) (by omega), qNl_ne (by omega) (by omega), qNl_ne (by omega) (by omega)]
  exact h
