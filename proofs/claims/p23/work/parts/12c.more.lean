/-- all that holds between the calls -/
def qFull (B : qB) (R : qR0) (N : qN0) (S : Nat → Nat → Nat) : Prop := qOK B N ∧ qM N ∧ qGeo N ∧ qSup B R N S ∧ qKin B N ∧ qRul N ∧ qLoad N S ∧ qItm B N ∧ qWt N
/-- the trial, where it is allowed -/
def qTri (B : qB) (N : qN0) (S : Nat → Nat → Nat) (k : Nat) : Prop := k < qk B ∧ qTr N ∧ N 0 60 0 = k ∧ N 0 60 1 = N 2 k 4 ∧ N 0 60 2 = N 2 k 5 ∧ N 0 60 3 < 2 ∧ (N 0 60 3 = 1 → N 2 k 6 = 1) ∧ N 0 60 4 = qwd N k (N 0 60 3) ∧ N 0 60 5 = qdp N k (N 0 60 3) ∧ N 0 60 9 = N 0 60 8 + N 2 k 3 ∧ qAl N S k
/-- one item more -/
def qNx (B : qB) (R : qR0) (N : qN0) (B' : qB) (R' : qR0) (N' : qN0) : Prop :=
  (∀ i, i < N 4 1 5 → ∀ j, j ≠ 11 → j ≠ 12 → N' 0 i j = N 0 i j) ∧ (∀ j, j ≤ 10 → N' 0 (N 4 1 5) j = N 0 60 j) ∧ N' 0 (N 4 1 5) 13 = 1 ∧ N' 0 (N 4 1 5) 15 = (qsp N 60 (N 4 1 5)).length ∧
  (∀ j, j < (qsp N 60 (N 4 1 5)).length → N' 1 (N 4 1 5) j = qcm N 60 ((qsp N 60 (N 4 1 5)).getD j 0) ∧ R' (N 4 1 5) j = some (qA B' 0 ((qsp N 60 (N 4 1 5)).getD j 0))) ∧
  (∀ i, i < N 4 1 5 → N' 1 i = N 1 i ∧ R' i = R i ∧ qA B' 0 i = qA B 0 i) ∧ N' 2 = N 2 ∧ (∀ j, j ≠ 5 → j ≠ 6 → j ≠ 7 → N' 4 1 j = N 4 1 j) ∧ N' 4 1 5 = N 4 1 5 + 1 ∧ N' 4 1 6 = N 4 1 6 + 1 ∧ N' 4 1 7 = N 4 1 7 + N 0 60 1 ∧
  (∀ c, N' 4 0 c = if qci N 60 (c % 12) (c / 12) = true then max (N 4 0 c) (N 0 60 9) else N 4 0 c)
theorem qNx_LN {B B' : qB} {R R' : qR0} {N N' : qN0} {S : Nat → Nat → Nat} (hn : N 4 1 5 < 60) (h : qNx B R N B' R' N') : ∀ k, k ≤ N 4 1 5 + 1 → qLN (qSx (qSt S N) (N 4 1 5)) N' (N 4 1 5 + 1) k = qLN (qSx (qSt S N) (N 4 1 5)) (qx (qtr N) (N 4 1 5)) (N 4 1 5 + 1) k := by
  obtain ⟨a1, a2, a3, a4, a5, a6, -⟩ := h
  refine qLN_fr (fun i hi => ?_)
  by_cases h9 : i = N 4 1 5
  · subst h9
    rw [qx_n _ _ _ (by decide), qtr_ne (c := 0) (j := 1) _ (by omega) (by omega), qtr_ne (c := 0) (j := 10) _ (by omega) (by omega), qtr_15]
    refine ⟨a2 1 (by decide), a2 10 (by decide), a4, fun j hj => ⟨?_, rfl⟩⟩
    rw [qx_n _ _ _ (by decide), qtr_1]
    exact (a5 j hj).1
  · rw [qx_i _ _ h9, qtr_ne (c := 0) (j := 1) _ (by omega) (by omega), qtr_ne (c := 0) (j := 10) _ (by omega) (by omega), qtr_ne (c := 0) (j := 15) _ (by omega) (by omega)]
    refine ⟨a1 i (by omega) 1 (by decide) (by decide), a1 i (by omega) 10 (by decide) (by decide), a1 i (by omega) 15 (by decide) (by decide), fun j hj => ⟨?_, rfl⟩⟩
    rw [qx_i _ _ h9, qtr_ne _ (by omega) (by omega), (a6 i (by omega)).1]
theorem qNx_ci {B B' : qB} {R R' : qR0} {N N' : qN0} (h : qNx B R N B' R' N') : (∀ i, i < N 4 1 5 → ∀ cx cy, qci N' i cx cy = qci N i cx cy) ∧ ∀ cx cy, qci N' (N 4 1 5) cx cy = qci N 60 cx cy := by
  obtain ⟨a1, a2, -⟩ := h
  refine ⟨fun i hi cx cy => ?_, fun cx cy => ?_⟩
  · unfold qci
    rw [a1 i hi 4 (by decide) (by decide), a1 i hi 5 (by decide) (by decide), a1 i hi 6 (by decide) (by decide), a1 i hi 7 (by decide) (by decide)]
  · unfold qci
    rw [a2 4 (by decide), a2 5 (by decide), a2 6 (by decide), a2 7 (by decide)]
theorem qNx_geo {B B' : qB} {R R' : qR0} {N N' : qN0} {S : Nat → Nat → Nat} {k0 : Nat} (hn : N 4 1 5 < 60) (hG : qGeo N) (hKi : qKin B N) (hT : qTri B N S k0) (h : qNx B R N B' R' N') : qGeo N' := by
  obtain ⟨e1, e2⟩ := qNx_ci h
  obtain ⟨a1, a2, a3, a4, a5, a6, a7, a8, a9, a10, a11, a12⟩ := h
  obtain ⟨g1, g2, g3, g4⟩ := hG
  obtain ⟨t0, t1, t2, t3, t4, t5, t6, t7, t8, t9, t10⟩ := hT
  obtain ⟨k1, k2, k3, k4, k5, -⟩ := hKi k0 t0
  have h89 : N 0 60 8 < N 0 60 9 := by omega
  have hx : ∀ i, i < N 4 1 5 → ∀ cx cy, qci N i cx cy = true → cx < 12 := fun i hi cx cy hc => by
    have := (qcov_iff.mp hc).1
    have := (g1 i hi).2.2.2.2.1
    omega
  have hx6 : ∀ cx cy, qci N 60 cx cy = true → cx < 12 := fun cx cy hc => by
    have := (qcov_iff.mp hc).1
    have := t1.2.2.1
    omega
  have eT : ∀ cx cy, cx < 12 → N' 4 0 (cy * 12 + cx) = if qci N 60 cx cy = true then max (N 4 0 (cy * 12 + cx)) (N 0 60 9) else N 4 0 (cy * 12 + cx) := fun cx cy hx => by
    rw [a12, show (cy * 12 + cx) % 12 = cx by omega, show (cy * 12 + cx) / 12 = cy by omega]
  refine ⟨fun i hi => ?_, fun k i hk hi cx cy h1 h2 => ?_, fun i hi cx cy h1 => ?_, fun cx cy hx1 hy1 hp => ?_⟩
  · rw [a9] at hi
    by_cases h9 : i = N 4 1 5
    · subst h9
      rw [a2 4 (by decide), a2 5 (by decide), a2 6 (by decide), a2 7 (by decide), a2 8 (by decide), a2 9 (by decide), a2 1 (by decide)]
      exact ⟨t1.1.1, t1.1.2, t1.2.1.1, t1.2.1.2, t1.2.2.1, t1.2.2.2.1, h89, by omega⟩
    · have q := fun j (h1 : j ≠ 11) (h2 : j ≠ 12) => a1 i (by omega) j h1 h2
      rw [q 4 (by decide) (by decide), q 5 (by decide) (by decide), q 6 (by decide) (by decide), q 7 (by decide) (by decide), q 8 (by decide) (by decide), q 9 (by decide) (by decide), q 1 (by decide) (by decide)]
      exact g1 i (by omega)
  · rw [a9] at hi
    rw [e1 k (by omega)] at h1
    rw [a1 k (by omega) 9 (by decide) (by decide)]
    by_cases h9 : i = N 4 1 5
    · subst h9
      rw [e2] at h2
      rw [a2 8 (by decide)]
      exact Nat.le_trans (g3 k hk cx cy h1) (qtr_le t1 h2)
    · rw [e1 i (by omega)] at h2
      rw [a1 i (by omega) 8 (by decide) (by decide)]
      exact g2 k i hk (by omega) cx cy h1 h2
  · rw [a9] at hi
    by_cases h9 : i = N 4 1 5
    · subst h9
      rw [e2] at h1
      rw [a2 9 (by decide), eT cx cy (hx6 cx cy h1), if_pos h1]
      omega
    · rw [e1 i (by omega)] at h1
      rw [a1 i (by omega) 9 (by decide) (by decide), eT cx cy (hx i (by omega) cx cy h1)]
      have := g3 i (by omega) cx cy h1
      split <;> omega
  · rw [eT cx cy hx1] at hp ⊢
    by_cases hc : qci N 60 cx cy = true
    · rw [if_pos hc]
      have := qtr_le t1 hc
      exact ⟨N 4 1 5, by omega, by rw [e2]; exact hc, by rw [a2 9 (by decide)]; omega⟩
    · rw [if_neg hc] at hp ⊢
      obtain ⟨k, hk, hk1, hk2⟩ := g4 cx cy hx1 hy1 hp
      exact ⟨k, by omega, by rw [e1 k hk]; exact hk1, by rw [a1 k hk 9 (by decide) (by decide)]; exact hk2⟩
theorem qNx_sup {B B' : qB} {R R' : qR0} {N N' : qN0} {S : Nat → Nat → Nat} {k0 : Nat} (hn : N 4 1 5 < 60) (hG : qGeo N) (hSu : qSup B R N S) (hT : qTri B N S k0) (h : qNx B R N B' R' N') : qSup B' R' N' (qSx (qSt S N) (N 4 1 5)) := fun i hi => by
  obtain ⟨a1, a2, a3, a4, a5, a6, a7, a8, a9, a10, a11, a12⟩ := h
  have t1 := hT.2.1
  rw [a9] at hi
  by_cases h9 : i = N 4 1 5
  · subst h9
    rw [qSx_n, qSt_60, a4, a2 10 (by decide), a2 8 (by decide)]
    refine ⟨qtr_len hG t1, (qtr_gr t1).1, (qtr_gr t1).2, fun j hj => ?_, fun h8 => qtr_deck hG h8, fun h8 => ?_⟩
    · have q : (qsp N 60 (N 4 1 5)).getD j 0 < N 4 1 5 ∧ qPk N 60 ((qsp N 60 (N 4 1 5)).getD j 0) = true := qfs_at hj
      have q2 := (a5 j hj)
      refine ⟨q2.2, q.1, ?_, ?_⟩
      · rw [q2.1]; exact qcm_le t1 _
      · show N' 0 ((qsp N 60 (N 4 1 5)).getD j 0) 9 = _
        rw [a1 _ q.1 9 (by decide) (by decide)]
        exact (qPk_t.mp q.2).1
    · rw [← qtr_sum hG t1 h8]
      exact qsum_congr (fun j hj => (a5 j hj).1)
  · have hi2 : i < N 4 1 5 := by omega
    obtain ⟨s1, s2, s3, s4, s5, s6⟩ := hSu i hi2
    rw [qSx_i _ h9, qSt_i _ _ (by omega), a1 i hi2 15 (by decide) (by decide), a1 i hi2 10 (by decide) (by decide), a1 i hi2 8 (by decide) (by decide), (a6 i hi2).1, (a6 i hi2).2.1]
    refine ⟨s1, s2, s3, fun j hj => ?_, s5, s6⟩
    obtain ⟨r1, r2, r3, r4⟩ := s4 j hj
    refine ⟨?_, r2, r3, ?_⟩
    · rw [(a6 (S i j) (by omega)).2.2]; exact r1
    · rw [a1 (S i j) (by omega) 9 (by decide) (by decide)]; exact r4
theorem qNx_load {B B' : qB} {R R' : qR0} {N N' : qN0} {S : Nat → Nat → Nat} {k0 : Nat} (hn : N 4 1 5 < 60) (hG : qGeo N) (hSu : qSup B R N S) (hT : qTri B N S k0) (h : qNx B R N B' R' N') (hl : ∀ i, i < N 4 1 5 + 1 → N' 0 i 11 = qLN (qSx (qSt S N) (N 4 1 5)) N' (N 4 1 5 + 1) (N 4 1 5 + 1) i) : qLoad N' (qSx (qSt S N) (N 4 1 5)) := fun i hi => by
  have hsup := qNx_sup hn hG hSu hT h
  have hLN := qNx_LN (S := S) hn h
  obtain ⟨a1, a2, a3, a4, a5, a6, a7, a8, a9, a10, a11, a12⟩ := h
  rw [a9] at hi ⊢
  refine ⟨hl i hi, ?_⟩
  rw [hl i hi]
  by_cases h9 : i = N 4 1 5
  · subst h9
    have : qLN (qSx (qSt S N) (N 4 1 5)) N' (N 4 1 5 + 1) (N 4 1 5 + 1) (N 4 1 5) = 0 := by
      show qLd _ _ _ _ _ _ _ _ _ = 0
      rw [qLd_keep (k := 0) (fun i hi j hj => ((hsup i (by omega)).2.2.2.1 j hj).2.1) (Nat.zero_le _) (by omega) _ (Nat.zero_le _) (Nat.le_refl _)]
      rfl
    rw [this]
    exact Nat.zero_le _
  · rw [hLN _ (Nat.le_refl _), a1 i (by omega) 2 (by decide) (by decide)]
    exact hT.2.2.2.2.2.2.2.2.2.2.2.2.2.1 i (by omega)
theorem qNx_itm {B B' : qB} {R R' : qR0} {N N' : qN0} {S : Nat → Nat → Nat} {k0 : Nat} (hk : qk B' = qk B) (hI : qItm B N) (hT : qTri B N S k0) (h : qNx B R N B' R' N') : qItm B' N' := fun i hi => by
  obtain ⟨a1, a2, a3, a4, a5, a6, a7, a8, a9, a10, a11, a12⟩ := h
  obtain ⟨t0, t1, t2, t3, t4, t5, t6, t7, t8, t9, u1, u2, u3, u4, u5⟩ := hT
  rw [a9] at hi
  have ew : ∀ k t, qwd N' k t = qwd N k t ∧ qdp N' k t = qdp N k t := fun k t => by
    unfold qwd qdp
    rw [a7]
    exact ⟨rfl, rfl⟩
  rw [hk, a7, a8 1 (by decide) (by decide) (by decide), a8 2 (by decide) (by decide) (by decide), (ew _ _).1, (ew _ _).2]
  by_cases h9 : i = N 4 1 5
  · subst h9
    rw [a2 0 (by decide), a2 1 (by decide), a2 2 (by decide), a2 3 (by decide), a2 4 (by decide), a2 5 (by decide), a2 8 (by decide), a2 9 (by decide), a2 10 (by decide), t2]
    exact ⟨t0, t3, t4, t5, t6, t7, t8, t9, u2, u1, u3⟩
  · have q := fun j (h1 : j ≠ 11) (h2 : j ≠ 12) => a1 i (by omega) j h1 h2
    rw [q 0 (by decide) (by decide), q 1 (by decide) (by decide), q 2 (by decide) (by decide), q 3 (by decide) (by decide), q 4 (by decide) (by decide), q 5 (by decide) (by decide), q 8 (by decide) (by decide), q 9 (by decide) (by decide), q 10 (by decide) (by decide)]
    exact hI i (by omega)
theorem qNx_wt {B B' : qB} {R R' : qR0} {N N' : qN0} {S : Nat → Nat → Nat} {k0 : Nat} (hW : qWt N) (hT : qTri B N S k0) (h : qNx B R N B' R' N') : qWt N' := by
  obtain ⟨a1, a2, a3, a4, a5, a6, a7, a8, a9, a10, a11, a12⟩ := h
  obtain ⟨w1, w2, w3⟩ := hW
  have u5 := hT.2.2.2.2.2.2.2.2.2.2.2.2.2.2
  refine ⟨by omega, ?_, by rw [a11, a8 3 (by decide) (by decide) (by decide)]; exact u5⟩
  rw [a9, a11, w2]
  show _ = qsum (fun i => N' 0 i 1) (N 4 1 5) + N' 0 (N 4 1 5) 1
  rw [a2 1 (by decide), qsum_congr (g := fun i => N 0 i 1) (fun i hi => a1 i hi 1 (by decide) (by decide))]
theorem qNx_all {B B' : qB} {R R' : qR0} {N N' : qN0} {S : Nat → Nat → Nat} {k0 : Nat} (hn : N 4 1 5 < 60) (hk : qk B' = qk B) (hF : qFull B R N S) (hT : qTri B N S k0) (h : qNx B R N B' R' N') (hO : qOK B' N') (hM : qM N') (hl : ∀ i, i < N 4 1 5 + 1 → N' 0 i 11 = qLN (qSx (qSt S N) (N 4 1 5)) N' (N 4 1 5 + 1) (N 4 1 5 + 1) i) : qFull B' R' N' (qSx (qSt S N) (N 4 1 5)) := by
  obtain ⟨f1, f2, f3, f4, f5, f6, f7, f8, f9⟩ := hF
  refine ⟨hO, hM, qNx_geo hn f3 f5 hT h, qNx_sup hn f3 f4 hT h, ?_, ?_, qNx_load hn f3 f4 hT h hl, qNx_itm hk f8 hT h, qNx_wt f9 hT h⟩
  · obtain ⟨a1, a2, a3, a4, a5, a6, a7, -⟩ := h
    intro k hk9
    rw [hk] at hk9
    rw [a7]
    exact f5 k hk9
  · obtain ⟨a1, a2, a3, a4, a5, a6, a7, a8, a9, a10, a11, a12⟩ := h
    have u1 := hT.2.2.2.2.2.2.2.2.2.2.1
    obtain ⟨r1, r2, r3, r4⟩ := f6
    unfold qRul
    rw [a8 1 (by decide) (by decide) (by decide), a8 2 (by decide) (by decide) (by decide), a8 3 (by decide) (by decide) (by decide)]
    refine ⟨r1, r2, r3, fun c => ?_⟩
    have := r4 c
    rw [a12]
    split <;> omega
theorem qBs_OK {B : qB} {N N' : qN0} {n : Nat} (hO : qOK B N) (hn : N 4 1 5 = n) (h60 : n < 60) (h4 : ∀ j, j ≠ 5 → j ≠ 6 → j ≠ 7 → N' 4 1 j = N 4 1 j) (h5 : N' 4 1 5 = n + 1) (h13 : ∀ i, i < n + 1 → N' 0 i 13 = 1) : qOK (qBs B n) N' := by
  obtain ⟨o1, o2, o3, o4, o5, o6, o7, o8, o9⟩ := hO
  refine ⟨fun i hi => ?_, o2, o3, ?_, ?_, o6, o7, by omega, fun i hi => h13 i (by omega)⟩
  · show va_up (qF B 1) n (some (qA B 0 60)) i = some (qA (qBs B n) 0 i)
    rw [qBs_A _ _ _ _ (by decide)]
    unfold va_up
    by_cases h9 : i = n
    · subst h9; rw [if_pos rfl, qsw_n]
    · rw [if_neg h9, qsw_i h9 (by omega)]; exact o1 i hi
  · rw [h4 0 (by decide) (by decide) (by decide)]; exact o4
  · rw [h4 8 (by decide) (by decide) (by decide)]; exact o5
theorem qNx_of {B : qB} {R R1 : qR0} {N N1 N3 N4 : qN0} {n : Nat} (hn : n = N 4 1 5) (h60 : n < 60) (v1 : N1 0 60 15 = (qsp N 60 (N 4 1 5)).length)
    (v2 : ∀ j, j < (qsp N 60 (N 4 1 5)).length → R1 60 j = some (qA B 0 ((qsp N 60 (N 4 1 5)).getD j 0)) ∧ N1 1 60 j = qcm N 60 ((qsp N 60 (N 4 1 5)).getD j 0)) (v3 : ∀ i, i ≠ 60 → R1 i = R i)
    (v4 : ∀ c i j, ¬ (c = 0 ∧ i = 60 ∧ j = 15) → ¬ (c = 1 ∧ i = 60) → N1 c i j = N c i j)
    (g : ∀ c i j, ¬ (c = 0 ∧ i = n ∧ j = 13) → ¬ (c = 4 ∧ i = 1 ∧ (j = 5 ∨ j = 6 ∨ j = 7)) → N3 c i j = qNs N1 n c i j) (g13 : N3 0 n 13 = 1) (g5 : N3 4 1 5 = n + 1) (g6 : N3 4 1 6 = N 4 1 6 + 1) (g7 : N3 4 1 7 = N 4 1 7 + N 0 60 1)
    (hN4 : N4 = qlP N3 n (qci N3 n)) : qNx B R N (qBs B n) (qRs R1 n) N4 ∧ N4 3 = N 3 := by
  subst hn
  subst hN4
  have i0 : ∀ i, i < N 4 1 5 → ∀ j, N3 0 i j = N 0 i j := fun i hi j => by
    rw [g _ _ _ (by omega) (by omega), qNs_1 _ _ _ _ (by decide), qsw_i (by omega) (by omega), v4 _ _ _ (by omega) (by omega)]
  have i6 : ∀ j, j ≠ 13 → j ≠ 15 → N3 0 (N 4 1 5) j = N 0 60 j := fun j h1 h2 => by
    rw [g _ _ _ (by omega) (by omega), qNs_1 _ _ _ _ (by decide), qsw_n, v4 _ _ _ (by omega) (by omega)]
  have i2 : ∀ c i j, 2 ≤ c → ¬ (c = 4 ∧ i = 1 ∧ (j = 5 ∨ j = 6 ∨ j = 7)) → N3 c i j = N c i j := fun c i j h1 h2 => by
    rw [g _ _ _ (by omega) h2, qNs_2 _ _ _ _ h1, v4 _ _ _ (by omega) (by omega)]
  have eci : ∀ cx cy, qci N3 (N 4 1 5) cx cy = qci N 60 cx cy := fun cx cy => by
    unfold qci
    rw [i6 4 (by decide) (by decide), i6 5 (by decide) (by decide), i6 6 (by decide) (by decide), i6 7 (by decide) (by decide)]
  refine ⟨⟨fun i hi j _ _ => ?_, fun j hj => ?_, ?_, ?_, fun j hj => ⟨?_, ?_⟩, fun i hi => ⟨?_, ?_, ?_⟩, ?_, fun j h1 h2 h3 => ?_, ?_, ?_, ?_, fun c => ?_⟩, ?_⟩
  · rw [qlP_ne _ _ _ (by omega), i0 i hi]
  · rw [qlP_ne _ _ _ (by omega), i6 j (by omega) (by omega)]
  · rw [qlP_ne _ _ _ (by omega), g13]
  · rw [qlP_ne _ _ _ (by omega), g _ _ _ (by omega) (by omega), qNs_1 _ _ _ _ (by decide), qsw_n, v1]
  · rw [qlP_ne _ _ _ (by omega), g _ _ _ (by omega) (by omega), qNs_1 _ _ _ _ (by decide), qsw_n]
    exact (v2 j hj).2
  · have q : (qsp N 60 (N 4 1 5)).getD j 0 < N 4 1 5 := (qfs_at hj).1
    show R1 (qsw (N 4 1 5) (N 4 1 5)) j = _
    rw [qsw_n, (v2 j hj).1, qBs_A _ _ _ _ (by decide), qsw_i (i := (qsp N 60 (N 4 1 5)).getD j 0) (Nat.ne_of_lt q) (Nat.ne_of_lt (Nat.lt_trans q h60))]
  · funext j
    rw [qlP_ne _ _ _ (by omega), g _ _ _ (by omega) (by omega), qNs_1 _ _ _ _ (by decide), qsw_i (by omega) (by omega), v4 _ _ _ (by omega) (by omega)]
  · show R1 (qsw (N 4 1 5) i) = _
    rw [qsw_i (by omega) (by omega), v3 i (by omega)]
  · rw [qBs_A _ _ _ _ (by decide), qsw_i (by omega) (by omega)]
  · funext k j
    rw [qlP_ne _ _ _ (by omega), i2 _ _ _ (by decide) (by omega)]
  · rw [qlP_ne _ _ _ (by omega), i2 _ _ _ (by decide) (by omega)]
  · rw [qlP_ne _ _ _ (by omega), g5]
  · rw [qlP_ne _ _ _ (by omega), g6]
  · rw [qlP_ne _ _ _ (by omega), g7]
  · unfold qlP
    rw [eci, i2 4 0 c (by decide) (by omega), i6 9 (by decide) (by decide)]
    by_cases h9 : qci N 60 (c % 12) (c / 12) = true
    · rw [if_pos ⟨rfl, rfl, h9⟩, if_pos h9]
    · rw [if_neg (fun q => h9 q.2.2), if_neg h9]
  · funext k j
    rw [qlP_ne _ _ _ (by omega), i2 _ _ _ (by decide) (by omega)]
/-- the loads settled behind it -/
theorem qNx_ld {B B' : qB} {R R' : qR0} {N N4 N5 : qN0} (h : qNx B R N B' R' N4) (h3 : N4 3 = N 3) (hf : ∀ c i j, ¬ (c = 0 ∧ (j = 11 ∨ j = 12) ∧ i < N4 4 1 5) → N5 c i j = N4 c i j) : qNx B R N B' R' N5 ∧ N5 3 = N 3 := by
  obtain ⟨a1, a2, a3, a4, a5, a6, a7, a8, a9, a10, a11, a12⟩ := h
  refine ⟨⟨fun i hi j h1 h2 => ?_, fun j hj => ?_, ?_, ?_, fun j hj => ⟨?_, (a5 j hj).2⟩, fun i hi => ⟨?_, (a6 i hi).2⟩, ?_, fun j h1 h2 h3 => ?_, ?_, ?_, ?_, fun c => ?_⟩, ?_⟩
  · rw [hf _ _ _ (by omega)]; exact a1 i hi j h1 h2
  · rw [hf _ _ _ (by omega)]; exact a2 j hj
  · rw [hf _ _ _ (by omega)]; exact a3
  · rw [hf _ _ _ (by omega)]; exact a4
  · rw [hf _ _ _ (by omega)]; exact (a5 j hj).1
  · funext j; rw [hf _ _ _ (by omega)]; exact congrFun (a6 i hi).1 j
  · funext k j; rw [hf _ _ _ (by omega)]; exact congrFun (congrFun a7 k) j
  · rw [hf _ _ _ (by omega)]; exact a8 j h1 h2 h3
  · rw [hf _ _ _ (by omega)]; exact a9
  · rw [hf _ _ _ (by omega)]; exact a10
  · rw [hf _ _ _ (by omega)]; exact a11
  · rw [hf _ _ _ (by omega)]; exact a12 c
  · funext k j; rw [hf _ _ _ (by omega)]; exact congrFun (congrFun h3 k) j
/-- what settling wants -/
theorem qNx_pre {B : qB} {R R' : qR0} {N N4 : qN0} {S : Nat → Nat → Nat} {k0 : Nat} (hn : N 4 1 5 < 60) (hF : qFull B R N S) (hT : qTri B N S k0) (h : qNx B R N (qBs B (N 4 1 5)) R' N4) (h13 : ∀ i, i < N 4 1 5 + 1 → N4 0 i 13 = 1) :
    qOK (qBs B (N 4 1 5)) N4 ∧ qS9 (qBs B (N 4 1 5)) R' N4 (qSx (qSt S N) (N 4 1 5)) (N4 4 1 5) ∧ ∀ k i, k ≤ N4 4 1 5 → i < N4 4 1 5 → qLN (qSx (qSt S N) (N 4 1 5)) N4 (N4 4 1 5) k i ≤ 1000000 := by
  obtain ⟨f1, f2, f3, f4, f5, f6, f7, f8, f9⟩ := hF
  have hg := qNx_geo hn f3 f5 hT h
  have hs := qNx_sup hn f3 f4 hT h
  have hL := qNx_LN (S := S) hn h
  have a8 := h.2.2.2.2.2.2.2.1
  have a9 := h.2.2.2.2.2.2.2.2.1
  refine ⟨qBs_OK f1 rfl hn a8 a9 h13, qS9_of hg hs, fun k i hk hi => ?_⟩
  rw [a9] at hk hi ⊢
  rw [hL k hk]
  refine qLb (by omega) f3 f4 hT.2.1 ?_ k i hk hi
  have k4 := (f5 k0 hT.1).2.2.2.2.1.2
  rw [hT.2.2.2.1]; exact k4
/-- all of it, behind the settling -/
theorem qNx_end {B : qB} {R R' : qR0} {N N4 N5 : qN0} {S : Nat → Nat → Nat} {k0 : Nat} (hn : N 4 1 5 < 60) (hF : qFull B R N S) (hT : qTri B N S k0) (h : qNx B R N (qBs B (N 4 1 5)) R' N4) (h3 : N4 3 = N 3) (h13 : ∀ i, i < N 4 1 5 + 1 → N4 0 i 13 = 1) (hM4 : qM N4)
    (hf : ∀ c i j, ¬ (c = 0 ∧ (j = 11 ∨ j = 12) ∧ i < N4 4 1 5) → N5 c i j = N4 c i j) (hl : ∀ i, i < N4 4 1 5 → N5 0 i 11 = qLN (qSx (qSt S N) (N 4 1 5)) N4 (N4 4 1 5) (N4 4 1 5) i ∧ N5 0 i 12 = qLN (qSx (qSt S N) (N 4 1 5)) N4 (N4 4 1 5) (N4 4 1 5) i) :
    N5 3 = N 3 ∧ qNx B R N (qBs B (N 4 1 5)) R' N5 ∧ qFull (qBs B (N 4 1 5)) R' N5 (qSx (qSt S N) (N 4 1 5)) := by
  obtain ⟨p1, p2, p3⟩ := qNx_pre hn hF hT h h13
  obtain ⟨x1, x2⟩ := qNx_ld h h3 hf
  have a9 := h.2.2.2.2.2.2.2.2.1
  have b8 := x1.2.2.2.2.2.2.2.1
  have b9 := x1.2.2.2.2.2.2.2.2.1
  have hL4 := qNx_LN (S := S) hn h
  have hL5 := qNx_LN (S := S) hn x1
  refine ⟨x2, x1, qNx_all (B := B) (R := R) hn rfl hF hT x1 (qBs_OK hF.1 rfl hn b8 b9 (fun i hi => ?_)) (fun c i j => ?_) (fun i hi => ?_)⟩
  · rw [hf _ _ _ (by omega)]; exact h13 i hi
  · by_cases h9 : c = 0 ∧ (j = 11 ∨ j = 12) ∧ i < N4 4 1 5
    · obtain ⟨rfl, hj, hi⟩ := h9
      have q := p3 (N4 4 1 5) i (Nat.le_refl _) hi
      rcases hj with rfl | rfl
      · rw [(hl i hi).1]; exact q
      · rw [(hl i hi).2]; exact q
    · rw [hf _ _ _ h9]; exact hM4 c i j
  · rw [(hl i (by omega)).1, a9, hL4 _ (Nat.le_refl _), hL5 _ (Nat.le_refl _)]
