/-- the law on the script, at any start that the words of the tables and the wider room meet -/
def zP (b : Addr) (args : Array Value) (s : State) : Prop := args = #[.ref b] ∧ va_X b 1239 zxs s s.heap ∧ b < s.heap.size
def zQ (_ : Array Value) (s : State) (_ : Outcome) (t : State) : Prop := s.heap.size + 741780 < t.heap.size
set_option maxHeartbeats 4000000 in
theorem z_walk (l : Launch) (b : Addr) : MetFree l x (headSpec (Jvm.Cond.code x code maxLocals ret :: tables_1) zR) (zP b) (fun _ _ _ _ _ => True) zQ := by
  refine MetFree.of_bodyS (code := code) (maxLocals := maxLocals) (ret := ret) (by decide) ?_ ?_
  · intro args s m h hn
    obtain ⟨meth, c, h1, h2, h3, h4, h5, h6, -, -⟩ := Cond.code_spec hn (atoms_spec (ws := Jvm.Cond.code x code maxLocals ret :: tables_1) h _ List.mem_cons_self)
    exact ⟨meth, c, h1, h2, h3, h4, h5, h6⟩
  · intro p e s m args below meth c s₁ B hml0 hP _
    obtain ⟨rfl, hX, hbl⟩ := hP
    have hown : s.vm.findClass RL = some m.cls := findClass_of_methodNamed B.named
    have hts0 : ∀ c ∈ (Jvm.Cond.code x code maxLocals ret :: tables_1), c.before #[Value.ref b] s = true := atoms_spec (ws := Jvm.Cond.code x code maxLocals ret :: tables_1) B.pre
    have hts : ∀ w ∈ lw_tbl, w.before #[Value.ref b] s = true := k2_hts_sels lw_privs (fun w hw => hts0 w (List.mem_cons_of_mem _ hw)) lw_privs_ok
    have hml : c.maxLocals = 9 := B.maxLocals_eq (hts0 _ List.mem_cons_self)
    have X₀ : Stand p l e zR s m #[Value.ref b] below meth c s₁ [] 0 0 := Stand.of_body B
    have hh0 : s₁.heap = s.heap := by rw [B.state]; rfl
    have K : W p l e zR s m #[Value.ref b] below meth c s₁.heap [] 0 0 (zZ below s) (entryFrame m ([Value.ref b] : List Value).toArray 9) := by
      rw [hh0]
      exact z_law ⟨B.exec, B.bytes, B.returns, hml, hown, hts, hX, hbl, B.notSynchronized⟩
    obtain ⟨t, a1, o, b1, b2, b3⟩ := K s₁ rfl X₀
    exact ⟨t, o, a1, b1, b2, b3⟩
/-- what the claim's end says of the heap -/
theorem z_bound {tb : Tables} {e : Env} {a : Array Value} {s : State} {o : Outcome} {t : State} (h : Post_1_1 tb e a s o t) : t.heap.size ≤ s.heap.size + 741780 := h.2.1.2.2.2.2.1
theorem z_bound2 {tb : Tables} {e : Env} {a : Array Value} {s : State} {o : Outcome} {t : State} (h : Post_1_2 tb e a s o t) : t.heap.size ≤ s.heap.size + 741780 := h.2.1.2.2.2.2.1
