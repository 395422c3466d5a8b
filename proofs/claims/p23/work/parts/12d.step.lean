theorem qFull_fr {B : qB} {R R' : qR0} {N N' : qN0} {S : Nat → Nat → Nat} (h : qFR N N') (hR : ∀ i, i ≠ 60 → R' i = R i) (hM : qM N') (hF : qFull B R N S) : qFull B R' N' S := by
  obtain ⟨f1, f2, f3, f4, f5, f6, f7, f8, f9⟩ := hF
  have o8 := f1.2.2.2.2.2.2.2.1
  exact ⟨qOK_fr h f1, hM, qGeo_fr h o8 f3, qSup_fr h hR o8 f4, qKin_fr h f5, qRul_fr h f6, qLoad_fr h o8 f7, qItm_fr h o8 f8, qWt_fr h o8 f9⟩
theorem qFull_3 {B : qB} {R : qR0} {N N' : qN0} {S : Nat → Nat → Nat} (e0 : N' 0 = N 0) (e1 : N' 1 = N 1) (e2 : N' 2 = N 2) (e4 : N' 4 = N 4) (hM : qM N') (hF : qFull B R N S) : qFull B R N' S := by
  obtain ⟨f1, f2, f3, f4, f5, f6, f7, f8, f9⟩ := hF
  have ew : ∀ k t, qwd N' k t = qwd N k t ∧ qdp N' k t = qdp N k t := fun k t => by
    unfold qwd qdp
    rw [e2]
    exact ⟨rfl, rfl⟩
  refine ⟨?_, hM, ?_, ?_, ?_, ?_, ?_, ?_, ?_⟩
  · unfold qOK; simp only [e0, e4]; exact f1
  · unfold qGeo qci; simp only [e0, e4]; exact f3
  · unfold qSup; simp only [e0, e1, e4]; exact f4
  · unfold qKin; simp only [e2]; exact f5
  · unfold qRul; simp only [e4]; exact f6
  · unfold qLoad qLN; simp only [e0, e1, e4]; exact f7
  · unfold qItm; simp only [e0, e2, e4, (ew _ _).1, (ew _ _).2]; exact f8
  · unfold qWt; simp only [e0, e4]; exact f9
/-- what a put leaves as it was -/
def qSam (B : qB) (N : qN0) (B' : qB) (N' : qN0) : Prop := qk B' = qk B ∧ ql B' = ql B ∧ (∀ c i, 3 ≤ c → qA B' c i = qA B c i) ∧ qY B' = qY B ∧ N' 2 = N 2 ∧ (∀ l, N' 3 l 0 = N 3 l 0) ∧ (∀ j, j ≠ 5 → j ≠ 6 → j ≠ 7 → N' 4 1 j = N 4 1 j)
theorem qSam_rf (B : qB) (N : qN0) : qSam B N B N := ⟨rfl, rfl, fun _ _ _ => rfl, rfl, rfl, fun _ => rfl, fun _ _ _ _ => rfl⟩
theorem qSam.tr {B B1 B2 : qB} {N N1 N2 : qN0} (h1 : qSam B N B1 N1) (h2 : qSam B1 N1 B2 N2) : qSam B N B2 N2 := by
  obtain ⟨a1, a2, a3, a4, a5, a6, a7⟩ := h1
  obtain ⟨b1, b2, b3, b4, b5, b6, b7⟩ := h2
  exact ⟨b1.trans a1, b2.trans a2, fun c i h => (b3 c i h).trans (a3 c i h), b4.trans a4, b5.trans a5, fun l => (b6 l).trans (a6 l), fun j h5 h6 h7 => (b7 j h5 h6 h7).trans (a7 j h5 h6 h7)⟩
theorem qSam_fr {B : qB} {N N' : qN0} (h : qFR N N') : qSam B N B N' := by
  refine ⟨rfl, rfl, fun _ _ _ => rfl, rfl, ?_, fun l => h _ _ _ (by omega) (by omega) (by omega), fun j _ _ _ => h _ _ _ (by omega) (by omega) (by omega)⟩
  funext k j
  exact h _ _ _ (by omega) (by omega) (by omega)
theorem qSam_nx {B : qB} {R R' : qR0} {N N' : qN0} {n : Nat} (h : qNx B R N (qBs B n) R' N') (h3 : N' 3 = N 3) : qSam B N (qBs B n) N' := by
  refine ⟨rfl, rfl, fun c i h => qBs_A3 _ _ _ _ h, rfl, h.2.2.2.2.2.2.1, fun l => by rw [h3], h.2.2.2.2.2.2.2.1⟩
theorem qSam_3 {B : qB} {N N' : qN0} (e2 : N' 2 = N 2) (e3 : ∀ l, N' 3 l 0 = N 3 l 0) (e4 : N' 4 = N 4) : qSam B N B N' := ⟨rfl, rfl, fun _ _ _ => rfl, rfl, e2, e3, fun j _ _ _ => by rw [e4]⟩
/-- the trial that the search found, let down -/
theorem qTri_ld {B : qB} {N N1 : qN0} {S : Nat → Nat → Nat} {k q : Nat} (h : qFR N N1) (hn : N 4 1 5 ≤ 60) (hK : qKin B N) (hk : k < qk B) (hq : qPl N S k q) : qTri B (qld N1 k (q / 2 % 12) (q / 2 / 12) (q % 2)) S k := by
  obtain ⟨q1, q2, q3, q4, q5⟩ := hq
  have hK1 := qKin_fr h hK
  have hwd := qwd_bd hK1 hk (q % 2)
  have e := qwd_fr h k (q % 2)
  refine ⟨hk, qTr_ld hwd.1 hwd.2 (by rw [e.1]; exact q3) (by rw [e.2]; exact q4), (hK1 k hk).1, rfl, rfl, Nat.mod_lt _ (by decide), fun h1 => ?_, rfl, rfl, rfl, ?_⟩
  · show N1 2 k 6 = 1
    rw [h 2 k 6 (by omega) (by omega) (by omega)]
    exact q2 h1
  · refine qAl_fr ?_ (fun c i j a b d => (qld_fr h k _ _ _ c i j a b d).symm) q5
    show N1 4 1 5 ≤ 60
    rw [h 4 1 5 (by omega) (by omega) (by omega)]
    exact hn
def qLs (B : qB) (N : qN0) : Prop := ∀ l, l < ql B → N 3 l 0 < qk B
/-- how many boxes the lines still want -/
def qWn (B : qB) (N : qN0) : Nat := qsum (fun l => N 3 l 1) (ql B)
theorem qWn_p {B : qB} {N : qN0} {l x : Nat} (h : l < ql B) : qWn B (qp N 3 l 1 x) + N 3 l 1 = qWn B N + x := by
  unfold qWn
  have e : qsum (fun l' => qp N 3 l 1 x 3 l' 1) (ql B) = qsum (qu (fun l' => N 3 l' 1) l x) (ql B) := qsum_congr (fun i _ => by
    unfold qp qu
    by_cases h9 : i = l <;> simp [h9])
  rw [e]
  exact qsum_qu h
theorem qfit {x : Nat} (h : x < 2) : fits .boolean (.int (nI x)) = true := by
  rcases (show x = 0 ∨ x = 1 by omega) with h | h <;> subst h <;> rfl
