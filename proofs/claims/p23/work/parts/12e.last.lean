/-- reaching changes nothing else -/
def qR14 (N N' : qN0) : Prop := ∀ c i j, ¬ (c = 0 ∧ j = 14) → N' c i j = N c i j
theorem qR14_rf (N : qN0) : qR14 N N := fun _ _ _ _ => rfl
theorem qR14.tr {N N1 N2 : qN0} (h1 : qR14 N N1) (h2 : qR14 N1 N2) : qR14 N N2 := fun c i j h => (h2 c i j h).trans (h1 c i j h)
theorem qFull_14 {B : qB} {R : qR0} {N N' : qN0} {S : Nat → Nat → Nat} (h : qR14 N N') (hM : qM N') (hF : qFull B R N S) : qFull B R N' S := by
  obtain ⟨f1, f2, f3, f4, f5, f6, f7, f8, f9⟩ := hF
  have e : ∀ j, j ≠ 14 → ∀ i, N' 0 i j = N 0 i j := fun j hj i => h 0 i j (by omega)
  have e0 := e 0 (by decide)
  have c1 := e 1 (by decide)
  have c2 := e 2 (by decide)
  have c3 := e 3 (by decide)
  have c4 := e 4 (by decide)
  have c5 := e 5 (by decide)
  have c6 := e 6 (by decide)
  have c7 := e 7 (by decide)
  have c8 := e 8 (by decide)
  have c9 := e 9 (by decide)
  have c10 := e 10 (by decide)
  have c11 := e 11 (by decide)
  have c13 := e 13 (by decide)
  have c15 := e 15 (by decide)
  have d : ∀ c, c ≠ 0 → N' c = N c := fun c hc => by funext i j; exact h c i j (by omega)
  have d1 := d 1 (by decide)
  have d2 := d 2 (by decide)
  have d4 := d 4 (by decide)
  have ew : ∀ k t, qwd N' k t = qwd N k t ∧ qdp N' k t = qdp N k t := fun k t => by
    unfold qwd qdp
    rw [d2]
    exact ⟨rfl, rfl⟩
  refine ⟨?_, hM, ?_, ?_, ?_, ?_, ?_, ?_, ?_⟩
  · unfold qOK; simp only [c13, d4]; exact f1
  · unfold qGeo qci; simp only [c1, c4, c5, c6, c7, c8, c9, d4]; exact f3
  · unfold qSup; simp only [c8, c9, c10, c15, d1, d4]; exact f4
  · unfold qKin; simp only [d2]; exact f5
  · unfold qRul; simp only [d4]; exact f6
  · unfold qLoad qLN; simp only [c1, c2, c10, c11, c15, d1, d4]; exact f7
  · unfold qItm; simp only [e0, c1, c2, c3, c4, c5, c8, c9, c10, d2, d4, (ew _ _).1, (ew _ _).2]; exact f8
  · unfold qWt; simp only [c1, d4]; exact f9
/-- who may be reached from i -/
def qRc (N : qN0) (i : Nat) (N' : qN0) : Prop := ∀ j, j < N 4 1 5 → N' 0 j 14 < 2 ∧ (N' 0 j 14 ≠ 0 → j < i ∧ N 0 j 9 ≤ N 0 i 8)
/-- the quotient is a number -/
theorem qdiv_ok {a b : Int32} (hb : b ≠ 0) : vf_n64 (FP.ddiv (FP.i2d a) (FP.i2d b)) := by
  have h1 := Jvm.FP.Core.i2d_mag a
  have h2 := Jvm.FP.Core.i2d_big (v := b) (fun h => hb (Int32.toInt_inj.mp (by rw [h]; rfl)))
  have h3 : (FP.ddiv (FP.i2d a) (FP.i2d b)).toNat % 2 ^ 63 < (1056 + (1074 - 52 - 1) - 1023 + 3) * 2 ^ 52 := Jvm.FP.Core.ddiv_mag (a := FP.i2d a) (b := FP.i2d b) (K := 1056) (L := 1023) h1 h2.1 h2.2 (by decide) (by decide)
  unfold vf_n64
  rw [UInt64.le_iff_toNat_le, UInt64.toNat_and]
  show (FP.ddiv (FP.i2d a) (FP.i2d b)).toNat &&& (2 ^ 63 - 1) ≤ 9218868437227405312
  rw [Nat.and_two_pow_sub_one_eq_mod]
  omega
theorem qdiv_cmp {a b : Int32} (hb : b ≠ 0) : FP.dcmp (FP.ddiv (FP.i2d a) (FP.i2d b)) (FP.ddiv (FP.i2d a) (FP.i2d b)) = some .eq := by
  refine Jvm.FP.Core.dcmp_self ((Jvm.FP.Core.ne_nan _).mpr ?_)
  have h2 := Jvm.FP.Core.i2d_big (v := b) (fun h => hb (Int32.toInt_inj.mp (by rw [h]; rfl)))
  have h3 : (FP.ddiv (FP.i2d a) (FP.i2d b)).toNat % 2 ^ 63 < (1056 + (1074 - 52 - 1) - 1023 + 3) * 2 ^ 52 := Jvm.FP.Core.ddiv_mag (a := FP.i2d a) (b := FP.i2d b) (K := 1056) (L := 1023) (Jvm.FP.Core.i2d_mag a) h2.1 h2.2 (by decide) (by decide)
  omega
