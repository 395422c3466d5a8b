/-- the start: as the witness's, with the script in its array -/
def zcells : Array Value := ((List.range 1239).map (fun j => Value.int (zxs j))).toArray
def zs : State := start1.aboutOf zcells
theorem z_ot : ((Jvm.Cond.code x code maxLocals ret :: tables_1).filter (fun w => !vx_ot w)).all (fun w => w.before start1.args0 zs) = true := by decide +kernel
set_option maxRecDepth 100000 in
theorem z_vm : start1.about.vm = zs.vm := rfl
theorem z_words : ∀ c ∈ (Jvm.Cond.code x code maxLocals ret :: tables_1), c.before start1.args0 zs = true := fun c hc => by
  by_cases h : vx_ot c = true
  · exact vx_ot_at (s := start1.about) (U := zs) (by rw [← z_vm]; exact State.WarmedH.refl start1.about) z_vm h (start1.words c hc)
  · exact List.all_eq_true.mp z_ot c (List.mem_filter.mpr ⟨hc, by simp [h]⟩)
set_option maxRecDepth 100000 in
theorem z_applies : (headSpec (Jvm.Cond.code x code maxLocals ret :: tables_1) room_1).applies x start1.e0.platform zs = true ∧ (headSpec (Jvm.Cond.code x code maxLocals ret :: tables_1) zR).applies x start1.e0.platform zs = true :=
  ⟨(Spec.applies_iff rfl).mpr ⟨rfl, rfl, rfl, by decide +kernel, by decide +kernel, by decide +kernel, launch0.hasRoom_least _ room_1 (by decide +kernel) (by decide +kernel) (by decide +kernel) (by decide +kernel) (by decide +kernel) (by decide +kernel), atoms_intro z_words⟩,
   (Spec.applies_iff rfl).mpr ⟨rfl, rfl, rfl, by decide +kernel, by decide +kernel, by decide +kernel, launch0.hasRoom_least _ zR (by decide +kernel) (by decide +kernel) (by decide +kernel) (by decide +kernel) (by decide +kernel) (by decide +kernel), atoms_intro z_words⟩⟩
set_option maxRecDepth 100000 in
theorem z_atStart : AtStart classFile x code maxLocals ret World_1 tables_1 room_1 Calls_1 rest_1 Pre_1 launch0 start1.p0 start1.e0 zs ⟨0, 0⟩ start1.args0 Lib.HandBits.below0 :=
  ⟨lists_1, trivial, launch0.admits_env _ _ _, launch0.least_env, fairChoices_fair.cas, fairChoices_fair.clock, rfl, by decide +kernel, by decide +kernel, z_applies.1,
    trivial, (show rest_1_c.before start1.args0 zs = true by decide +kernel), (show (Cond.and given_1 narrow_1).before start1.args0 zs = true by decide +kernel)⟩
theorem z_X : va_X 0 1239 zxs zs zs.heap := by
  refine ⟨{ cls := 16, slots := zcells, vm := .none }, rfl, ⟨fun k h => (by cases h), _, rfl, _, rfl⟩, fun h => (by cases h), (by simp [zcells]), fun j hj => (by simp [zcells, hj])⟩
/-- from this start the law ends, and has made more cells than the claim allows -/
theorem z_run : ∃ (n : Nat) (o : Outcome), (∀ k, k < n → Within (stepsAlone start1.p0.tables start1.e0 k zs) Lib.HandBits.below0) ∧ (stepsAlone start1.p0.tables start1.e0 n zs).status = .running ∧ Ended (stepsAlone start1.p0.tables start1.e0 n zs) Lib.HandBits.below0 o ∧ zs.heap.size + 741780 < (stepsAlone start1.p0.tables start1.e0 n zs).heap.size := by
  obtain ⟨k, o, h1, h2, h3, hQ⟩ := z_walk launch0 0 start1.p0 start1.e0 (launch0.admits_env _ _ _) fairChoices_fair.cas fairChoices_fair.clock zs ⟨0, 0⟩ start1.args0 Lib.HandBits.below0 rfl ((Spec.applies_iff_loose rfl).mp z_applies.2).1 ⟨rfl, z_X, by decide +kernel⟩ trivial
  exact ⟨k, o, h1, h2, h3, hQ⟩
/-- THE STATEMENT IS FALSE: its own refuted form, both arms -/
theorem refuted_1_1 : RefutedClaimed_1_1 := by
  obtain ⟨n, o, h0, h1, h2, h3⟩ := z_run
  exact ⟨launch0, start1.p0, start1.e0, zs, ⟨0, 0⟩, start1.args0, Lib.HandBits.below0, rfl, z_atStart, n, o, h0, h1, h2, fun hp => absurd (z_bound hp) (Nat.not_le.mpr h3)⟩
theorem refuted_1_2 : RefutedClaimed_1_2 := by
  obtain ⟨n, o, h0, h1, h2, h3⟩ := z_run
  exact ⟨launch0, start1.p0, start1.e0, zs, ⟨0, 0⟩, start1.args0, Lib.HandBits.below0, rfl, z_atStart, n, o, h0, h1, h2, fun hp => absurd (z_bound2 hp) (Nat.not_le.mpr h3)⟩
/-- what is owed can't be proved -/
theorem not_claimed : ¬ (Claimed_1_1 ∧ Claimed_1_2) := fun h => by
  obtain ⟨n, o, h0, h1, h2, h3⟩ := z_run
  obtain ⟨-, -, ha, -, hc, hk, hf, hfit, hheap, happ, g1, g2, g3⟩ := z_atStart
  obtain ⟨n', o', w0, w1, w2, w3⟩ := h.1 launch0 rfl lists_1 trivial start1.p0 start1.e0 ha hc hk zs ⟨0, 0⟩ start1.args0 Lib.HandBits.below0 hf hfit hheap happ ⟨g1, g2, g3⟩
  rcases Nat.lt_trichotomy n n' with q | q | q
  · exact h2.not_within (w0 n q)
  · subst q
    exact absurd (z_bound w3) (Nat.not_le.mpr h3)
  · exact w2.not_within (h0 n' q)
