/-- what the search changes: the trial and the next loads -/
def qFR (N N' : qN0) : Prop := ∀ c i j, ¬ (c = 0 ∧ i = 60) → ¬ (c = 1 ∧ i = 60) → ¬ (c = 0 ∧ j = 12) → N' c i j = N c i j
theorem qFR_rf (N : qN0) : qFR N N := fun _ _ _ _ _ _ => rfl
theorem qFR.tr {N N1 N2 : qN0} (h1 : qFR N N1) (h2 : qFR N1 N2) : qFR N N2 := fun c i j a b d => (h2 c i j a b d).trans (h1 c i j a b d)
theorem qFR_of {N N' : qN0} (h : qFr N N') : qFR N N' := fun c i j a b d => h c i j (by omega) b (by omega)
theorem qFR_ld (N : qN0) (k x y t : Nat) : qFR N (qld N k x y t) := fun c i j a _ _ => qld_ne _ _ _ _ _ (by omega)
theorem qOK_fr {B : qB} {N N' : qN0} (h : qFR N N') (hO : qOK B N) : qOK B N' := qOKs hO (fun j _ _ => h _ _ _ (by omega) (by omega) (by omega)) (fun i hi => h _ _ _ (by omega) (by omega) (by omega))
theorem qGeo_fr {N N' : qN0} (h : qFR N N') (hn : N 4 1 5 ≤ 60) (hG : qGeo N) : qGeo N' := by
  obtain ⟨g1, g2, g3, g4⟩ := hG
  have e5 : N' 4 1 5 = N 4 1 5 := h _ _ _ (by omega) (by omega) (by omega)
  have e : ∀ i, i < N 4 1 5 → ∀ j, j ≠ 12 → N' 0 i j = N 0 i j := fun i hi j hj => h 0 i j (by omega) (by omega) (by omega)
  have ec : ∀ i, i < N 4 1 5 → ∀ cx cy, qci N' i cx cy = qci N i cx cy := fun i hi cx cy => by
    unfold qci
    rw [e i hi 4 (by decide), e i hi 5 (by decide), e i hi 6 (by decide), e i hi 7 (by decide)]
  have eT : ∀ c, N' 4 0 c = N 4 0 c := fun c => h _ _ _ (by omega) (by omega) (by omega)
  refine ⟨fun i hi => ?_, fun k i hk hi cx cy h1 h2 => ?_, fun i hi cx cy h1 => ?_, fun cx cy hx hy hT => ?_⟩
  · rw [e5] at hi
    rw [e i hi 4 (by decide), e i hi 5 (by decide), e i hi 6 (by decide), e i hi 7 (by decide), e i hi 8 (by decide), e i hi 9 (by decide), e i hi 1 (by decide)]
    exact g1 i hi
  · rw [e5] at hi
    rw [ec k (by omega)] at h1
    rw [ec i hi] at h2
    rw [e k (by omega) 9 (by decide), e i hi 8 (by decide)]
    exact g2 k i hk hi cx cy h1 h2
  · rw [e5] at hi
    rw [ec i hi] at h1
    rw [e i hi 9 (by decide), eT]
    exact g3 i hi cx cy h1
  · rw [eT] at hT
    obtain ⟨k, hk, hc, ht⟩ := g4 cx cy hx hy hT
    exact ⟨k, by rw [e5]; exact hk, by rw [ec k hk]; exact hc, by rw [e k hk 9 (by decide), eT]; exact ht⟩
theorem qSup_fr {B : qB} {R R' : qR0} {N N' : qN0} {S : Nat → Nat → Nat} (h : qFR N N') (hR : ∀ i, i ≠ 60 → R' i = R i) (hn : N 4 1 5 ≤ 60) (hS : qSup B R N S) : qSup B R' N' S := fun i hi => by
  have e5 : N' 4 1 5 = N 4 1 5 := h _ _ _ (by omega) (by omega) (by omega)
  rw [e5] at hi
  have e : ∀ i, i < N 4 1 5 → ∀ j, j ≠ 12 → N' 0 i j = N 0 i j := fun i hi j hj => h 0 i j (by omega) (by omega) (by omega)
  have e1 : N' 1 i = N 1 i := by funext j; exact h 1 i j (by omega) (by omega) (by omega)
  obtain ⟨s1, s2, s3, s4, s5, s6⟩ := hS i hi
  rw [e i hi 15 (by decide), e i hi 10 (by decide), e i hi 8 (by decide), e1, hR i (by omega)]
  exact ⟨s1, s2, s3, fun j hj => ⟨(s4 j hj).1, (s4 j hj).2.1, (s4 j hj).2.2.1, by rw [e _ (Nat.lt_trans (s4 j hj).2.1 hi) 9 (by decide)]; exact (s4 j hj).2.2.2⟩, s5, s6⟩
theorem qKin_fr {B : qB} {N N' : qN0} (h : qFR N N') (hK : qKin B N) : qKin B N' := fun k hk => by
  have e : ∀ j, N' 2 k j = N 2 k j := fun j => h _ _ _ (by omega) (by omega) (by omega)
  rw [e 0, e 1, e 2, e 3, e 4, e 5, e 6, e 7]
  exact hK k hk
theorem qRul_fr {N N' : qN0} (h : qFR N N') (hR : qRul N) : qRul N' := by
  have e : ∀ j, N' 4 1 j = N 4 1 j := fun j => h _ _ _ (by omega) (by omega) (by omega)
  unfold qRul
  rw [e 1, e 2, e 3]
  exact ⟨hR.1, hR.2.1, hR.2.2.1, fun c => by rw [h 4 0 c (by omega) (by omega) (by omega)]; exact hR.2.2.2 c⟩
theorem qwd_fr {N N' : qN0} (h : qFR N N') (k t : Nat) : qwd N' k t = qwd N k t ∧ qdp N' k t = qdp N k t := by
  unfold qwd qdp
  rw [h 2 k 1 (by omega) (by omega) (by omega), h 2 k 2 (by omega) (by omega) (by omega)]
  exact ⟨rfl, rfl⟩
theorem qItm_fr {B : qB} {N N' : qN0} (h : qFR N N') (hn : N 4 1 5 ≤ 60) (hI : qItm B N) : qItm B N' := fun i hi => by
  have e5 : N' 4 1 5 = N 4 1 5 := h _ _ _ (by omega) (by omega) (by omega)
  rw [e5] at hi
  have e : ∀ j, j ≠ 12 → N' 0 i j = N 0 i j := fun j hj => h 0 i j (by omega) (by omega) (by omega)
  have e2 : ∀ k j, N' 2 k j = N 2 k j := fun k j => h _ _ _ (by omega) (by omega) (by omega)
  have e4 : ∀ j, N' 4 1 j = N 4 1 j := fun j => h _ _ _ (by omega) (by omega) (by omega)
  rw [e 0 (by decide), e 1 (by decide), e 2 (by decide), e 3 (by decide), e 4 (by decide), e 5 (by decide), e 8 (by decide), e 9 (by decide), e 10 (by decide), e2, e2, e2, e2, e2, e4, e4, (qwd_fr h _ _).1, (qwd_fr h _ _).2]
  exact hI i hi
theorem qWt_fr {N N' : qN0} (h : qFR N N') (hn : N 4 1 5 ≤ 60) (hW : qWt N) : qWt N' := by
  have e4 : ∀ j, N' 4 1 j = N 4 1 j := fun j => h _ _ _ (by omega) (by omega) (by omega)
  unfold qWt
  rw [e4, e4, e4, e4, qsum_congr (g := fun i => N 0 i 1) (fun i hi => h 0 i 1 (by omega) (by omega) (by omega))]
  exact hW
theorem qLN_fr {N N' : qN0} {S S' : Nat → Nat → Nat} {n : Nat} (h : ∀ i, i < n → N' 0 i 1 = N 0 i 1 ∧ N' 0 i 10 = N 0 i 10 ∧ N' 0 i 15 = N 0 i 15 ∧ ∀ j, j < N 0 i 15 → N' 1 i j = N 1 i j ∧ S' i j = S i j) : ∀ k, k ≤ n → qLN S' N' n k = qLN S N n k := fun k hk =>
  (qLd_congr (fun i hi => (h i hi).1.symm) (fun i hi => (h i hi).2.1.symm) (fun i hi => (h i hi).2.2.1.symm) (fun i hi j hj => ⟨((h i hi).2.2.2 j hj).2.symm, ((h i hi).2.2.2 j hj).1.symm⟩) k hk).symm
theorem qLoad_fr {N N' : qN0} {S : Nat → Nat → Nat} (h : qFR N N') (hn : N 4 1 5 ≤ 60) (hL : qLoad N S) : qLoad N' S := fun i hi => by
  have e5 : N' 4 1 5 = N 4 1 5 := h _ _ _ (by omega) (by omega) (by omega)
  rw [e5] at hi ⊢
  have e : ∀ i, i < N 4 1 5 → ∀ j, j ≠ 12 → N' 0 i j = N 0 i j := fun i hi j hj => h 0 i j (by omega) (by omega) (by omega)
  rw [e i hi 11 (by decide), e i hi 2 (by decide), qLN_fr (N := N) (S := S) (fun i hi => ⟨e i hi 1 (by decide), e i hi 10 (by decide), e i hi 15 (by decide), fun j _ => ⟨h 1 i j (by omega) (by omega) (by omega), rfl⟩⟩) _ (Nat.le_refl _)]
  exact hL i hi
theorem qTr_ld {N : qN0} {k x y t : Nat} (hw : 0 < qwd N k t ∧ qwd N k t ≤ 6) (hd : 0 < qdp N k t ∧ qdp N k t ≤ 6) (hx : x + qwd N k t ≤ 12) (hy : y + qdp N k t ≤ 10) : qTr (qld N k x y t) := by
  have eF : ∀ x0 y0 x w y, qf (qld N k x0 y0 t) x w y = qf N x w y := fun x0 y0 x w y => by
    funext e
    unfold qf
    exact qld_ne _ _ _ _ _ (by omega)
  exact ⟨hw, hd, hx, hy, (by rw [eF]; rfl), (by rw [eF]; rfl)⟩
/-- allowed, whatever the search has changed -/
theorem qAl_fr {N N' : qN0} {S : Nat → Nat → Nat} {k : Nat} (hn : N 4 1 5 ≤ 60) (h : ∀ c i j, ¬ (c = 0 ∧ j = 12) → ¬ (c = 0 ∧ i = 60 ∧ 11 ≤ j) → ¬ (c = 1 ∧ i = 60) → N' c i j = N c i j) (hA : qAl N' S k) : qAl N S k := by
  obtain ⟨a1, a2, a3, a4, a5⟩ := hA
  have e4 : ∀ j, N' 4 1 j = N 4 1 j := fun j => h _ _ _ (by omega) (by omega) (by omega)
  have e6 : ∀ j, j ≤ 10 → N' 0 60 j = N 0 60 j := fun j hj => h _ _ _ (by omega) (by omega) (by omega)
  have e : ∀ i, i < N 4 1 5 → ∀ j, j ≠ 12 → N' 0 i j = N 0 i j := fun i hi j hj => h 0 i j (by omega) (by omega) (by omega)
  have ecm : ∀ i, i < N 4 1 5 → qcm N' 60 i = qcm N 60 i := fun i hi => by
    unfold qcm
    rw [e6 4 (by decide), e6 5 (by decide), e6 6 (by decide), e6 7 (by decide), e i hi 4 (by decide), e i hi 5 (by decide), e i hi 6 (by decide), e i hi 7 (by decide)]
  have esp : qsp N' 60 (N 4 1 5) = qsp N 60 (N 4 1 5) := qfs_congr (fun i hi => by
    unfold qPk
    rw [ecm i hi, e i hi 9 (by decide), e6 8 (by decide)])
  have eS : ∀ i, i < N 4 1 5 + 1 → qSx (qSt S N') (N 4 1 5) i = qSx (qSt S N) (N 4 1 5) i := fun i hi => by
    by_cases h9 : i = N 4 1 5
    · subst h9
      rw [qSx_n, qSx_n, qSt_60, qSt_60, e4, esp]
    · rw [qSx_i _ h9, qSx_i _ h9, qSt_i _ _ (by omega), qSt_i _ _ (by omega)]
  have eA : ∀ i, i < N 4 1 5 + 1 → ∀ j, j ≤ 10 ∨ j = 15 → qx (qtr N') (N 4 1 5) 0 i j = qx (qtr N) (N 4 1 5) 0 i j := fun i hi j hj => by
    by_cases h9 : i = N 4 1 5
    · subst h9
      rw [qx_n _ _ _ (by decide), qx_n _ _ _ (by decide)]
      by_cases h15 : j = 15
      · subst h15; rw [qtr_15, qtr_15, e4, esp]
      · rw [qtr_ne _ (by omega) (by omega), qtr_ne _ (by omega) (by omega)]; exact e6 j (by omega)
    · rw [qx_i _ _ h9, qx_i _ _ h9, qtr_ne _ (by omega) (by omega), qtr_ne _ (by omega) (by omega)]
      exact e i (by omega) j (by omega)
  rw [e6 9 (by decide), e4] at a1
  rw [h 2 k 7 (by omega) (by omega) (by omega), e6 8 (by decide)] at a2
  rw [e6 4 (by decide), e6 5 (by decide), e6 10 (by decide), e4] at a3
  rw [e4, e6 1 (by decide), e4] at a5
  refine ⟨a1, a2, a3, fun i hi => ?_, a5⟩
  have h1 := a4 i (by rw [e4]; exact hi)
  rw [e4, e i hi 2 (by decide)] at h1
  rw [qLN_fr (N := qx (qtr N) (N 4 1 5)) (S := qSx (qSt S N) (N 4 1 5)) (fun i hi => ⟨eA i hi 1 (by omega), eA i hi 10 (by omega), eA i hi 15 (by omega), fun j hj => ⟨?_, by rw [eS i hi]⟩⟩) _ (Nat.le_refl _)] at h1
  · exact h1
  · by_cases h9 : i = N 4 1 5
    · subst h9
      rw [qx_n _ _ _ (by decide), qtr_15] at hj
      rw [qx_n _ _ _ (by decide), qx_n _ _ _ (by decide), qtr_1, qtr_1, e4, esp]
      exact ecm _ (qfs_at hj).1
    · rw [qx_i _ _ h9, qx_i _ _ h9, qtr_ne _ (by omega) (by omega), qtr_ne _ (by omega) (by omega)]
      exact h 1 i j (by omega) (by omega) (by omega)
theorem qld_fr {N N1 : qN0} (h : qFR N N1) (k x y t : Nat) : ∀ c i j, ¬ (c = 0 ∧ j = 12) → ¬ (c = 0 ∧ i = 60 ∧ 11 ≤ j) → ¬ (c = 1 ∧ i = 60) → qld N1 k x y t c i j = qld N k x y t c i j := fun c i j h1 h2 h3 => by
  have e2 : ∀ j, N1 2 k j = N 2 k j := fun j => h _ _ _ (by omega) (by omega) (by omega)
  have eF : ∀ x w y, qf N1 x w y = qf N x w y := fun x w y => by
    funext e
    exact h _ _ _ (by omega) (by omega) (by omega)
  by_cases h9 : c = 0 ∧ i = 60
  · obtain ⟨rfl, rfl⟩ := h9
    unfold qld
    rw [if_pos ⟨rfl, rfl, by omega⟩, if_pos ⟨rfl, rfl, by omega⟩]
    unfold qbt qgd
    rw [(qwd_fr h k t).1, (qwd_fr h k t).2, eF, e2, e2, e2, e2]
  · rw [qld_ne _ _ _ _ _ (by omega), qld_ne _ _ _ _ _ (by omega)]
    exact h c i j (by omega) h3 h1
/-- a place that the search may answer -/
def qPl (N : qN0) (S : Nat → Nat → Nat) (k p : Nat) : Prop := p < 240 ∧ (p % 2 = 1 → N 2 k 6 = 1) ∧ p / 2 % 12 + qwd N k (p % 2) ≤ 12 ∧ p / 2 / 12 + qdp N k (p % 2) ≤ 10 ∧ qAl (qld N k (p / 2 % 12) (p / 2 / 12) (p % 2)) S k
theorem qwd_bd {B : qB} {N : qN0} (hK : qKin B N) {k : Nat} (hk : k < qk B) (t : Nat) : (0 < qwd N k t ∧ qwd N k t ≤ 6) ∧ (0 < qdp N k t ∧ qdp N k t ≤ 6) := by
  obtain ⟨-, k1, k2, -⟩ := hK k hk
  unfold qwd qdp
  split
  · exact ⟨k2, k1⟩
  · exact ⟨k1, k2⟩
theorem qld_M {B : qB} {N : qN0} (hM : qM N) {k x y t : Nat} (hk : k < qk B) (hK : qKin B N) (hR : qRul N) (hx : x < 12) (hy : y < 10) (ht : t < 2) : qM (qld N k x y t) := fun c i j => by
  unfold qld
  split
  · rename_i h9
    obtain ⟨rfl, rfl, hj⟩ := h9
    have w1 := qwd_bd hK hk t
    have b1 : qbt N k x y t ≤ 40 := qmx_le (fun e _ => hR.2.2.2 _)
    have g1 : qgd N k x y t ≤ 36 := Nat.le_trans qgr_le (Nat.mul_le_mul w1.1.2 w1.2.2)
    have k3 := (hK k hk).2.2.2.1.2
    have m0 := hM 2 k 0
    have m4 := hM 2 k 4
    have m5 := hM 2 k 5
    rcases (show j = 0 ∨ j = 1 ∨ j = 2 ∨ j = 3 ∨ j = 4 ∨ j = 5 ∨ j = 6 ∨ j = 7 ∨ j = 8 ∨ j = 9 ∨ j = 10 by omega) with h | h | h | h | h | h | h | h | h | h | h <;> subst h <;> simp only [List.getD, List.getElem?_cons_succ, List.getElem?_cons_zero, Option.getD_some] <;> omega
  · exact hM c i j
