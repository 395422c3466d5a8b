section
-- ===== PART A: goes FIRST, ahead of the names: the tables' words, and 'selects' of the private methods out of them =====
/-- a private method of a class that the tables say can be made, by its rows of tables_1 -/
def lw_okq (q : MethodName × Nat) : Prop := (q.1.cls ≠ "java/lang/invoke/MethodHandle" ∧ q.1.cls ≠ "java/lang/invoke/VarHandle") ∧ Cond.instantiable q.1.cls q.2 ∈ tables_1 ∧ Cond.privateMethod q.1 ∈ tables_1 ∧ Cond.instanceMethod q.1 ∈ tables_1
theorem lw_p0 : lw_okq (⟨"java/lang/Throwable", "fillInStackTrace", "(I)Ljava/lang/Throwable;"⟩, 6) := ⟨⟨by decide +kernel, by decide +kernel⟩, List.mem_of_getElem? (i := 194) (by decide +kernel), List.mem_of_getElem? (i := 192) (by decide +kernel), List.mem_of_getElem? (i := 193) (by decide +kernel)⟩
theorem lw_p1 : lw_okq (⟨"PalletStack", "countOf", "(I)I"⟩, 14) := ⟨⟨by decide +kernel, by decide +kernel⟩, List.mem_of_getElem? (i := 14) (by decide +kernel), List.mem_of_getElem? (i := 219) (by decide +kernel), List.mem_of_getElem? (i := 220) (by decide +kernel)⟩
theorem lw_p2 : lw_okq (⟨"PalletStack", "itemOf", "(I)LPalletStack$Item;"⟩, 14) := ⟨⟨by decide +kernel, by decide +kernel⟩, List.mem_of_getElem? (i := 14) (by decide +kernel), List.mem_of_getElem? (i := 227) (by decide +kernel), List.mem_of_getElem? (i := 228) (by decide +kernel)⟩
theorem lw_p3 : lw_okq (⟨"PalletStack", "factOf", "(LPalletStack$Item;I)I"⟩, 14) := ⟨⟨by decide +kernel, by decide +kernel⟩, List.mem_of_getElem? (i := 14) (by decide +kernel), List.mem_of_getElem? (i := 231) (by decide +kernel), List.mem_of_getElem? (i := 232) (by decide +kernel)⟩
theorem lw_p4 : lw_okq (⟨"PalletStack", "standingOn", "(LPalletStack$Item;)I"⟩, 14) := ⟨⟨by decide +kernel, by decide +kernel⟩, List.mem_of_getElem? (i := 14) (by decide +kernel), List.mem_of_getElem? (i := 235) (by decide +kernel), List.mem_of_getElem? (i := 236) (by decide +kernel)⟩
theorem lw_p5 : lw_okq (⟨"PalletStack", "isCarriedBy", "(LPalletStack$Item;LPalletStack$Item;)Z"⟩, 14) := ⟨⟨by decide +kernel, by decide +kernel⟩, List.mem_of_getElem? (i := 14) (by decide +kernel), List.mem_of_getElem? (i := 268) (by decide +kernel), List.mem_of_getElem? (i := 269) (by decide +kernel)⟩
theorem lw_p6 : lw_okq (⟨"PalletStack", "kindOf", "(I)LPalletStack$Kind;"⟩, 14) := ⟨⟨by decide +kernel, by decide +kernel⟩, List.mem_of_getElem? (i := 14) (by decide +kernel), List.mem_of_getElem? (i := 280) (by decide +kernel), List.mem_of_getElem? (i := 281) (by decide +kernel)⟩
theorem lw_p7 : lw_okq (⟨"PalletStack", "lineOf", "(I)LPalletStack$Line;"⟩, 14) := ⟨⟨by decide +kernel, by decide +kernel⟩, List.mem_of_getElem? (i := 14) (by decide +kernel), List.mem_of_getElem? (i := 336) (by decide +kernel), List.mem_of_getElem? (i := 337) (by decide +kernel)⟩
theorem lw_p8 : lw_okq (⟨"PalletStack", "nextLine", "()LPalletStack$Line;"⟩, 14) := ⟨⟨by decide +kernel, by decide +kernel⟩, List.mem_of_getElem? (i := 14) (by decide +kernel), List.mem_of_getElem? (i := 340) (by decide +kernel), List.mem_of_getElem? (i := 341) (by decide +kernel)⟩
theorem lw_p9 : lw_okq (⟨"PalletStack", "putAtBest", "(LPalletStack$Kind;)Z"⟩, 14) := ⟨⟨by decide +kernel, by decide +kernel⟩, List.mem_of_getElem? (i := 14) (by decide +kernel), List.mem_of_getElem? (i := 348) (by decide +kernel), List.mem_of_getElem? (i := 349) (by decide +kernel)⟩
theorem lw_p10 : lw_okq (⟨"PalletStack", "bestPlace", "(LPalletStack$Kind;)I"⟩, 14) := ⟨⟨by decide +kernel, by decide +kernel⟩, List.mem_of_getElem? (i := 14) (by decide +kernel), List.mem_of_getElem? (i := 352) (by decide +kernel), List.mem_of_getElem? (i := 353) (by decide +kernel)⟩
theorem lw_p11 : lw_okq (⟨"PalletStack", "letDown", "(LPalletStack$Kind;IIZ)V"⟩, 14) := ⟨⟨by decide +kernel, by decide +kernel⟩, List.mem_of_getElem? (i := 14) (by decide +kernel), List.mem_of_getElem? (i := 368) (by decide +kernel), List.mem_of_getElem? (i := 369) (by decide +kernel)⟩
theorem lw_p12 : lw_okq (⟨"PalletStack", "topOf", "(II)I"⟩, 14) := ⟨⟨by decide +kernel, by decide +kernel⟩, List.mem_of_getElem? (i := 14) (by decide +kernel), List.mem_of_getElem? (i := 376) (by decide +kernel), List.mem_of_getElem? (i := 377) (by decide +kernel)⟩
theorem lw_p13 : lw_okq (⟨"PalletStack", "brokenRule", "(LPalletStack$Kind;)I"⟩, 14) := ⟨⟨by decide +kernel, by decide +kernel⟩, List.mem_of_getElem? (i := 14) (by decide +kernel), List.mem_of_getElem? (i := 380) (by decide +kernel), List.mem_of_getElem? (i := 381) (by decide +kernel)⟩
theorem lw_p14 : lw_okq (⟨"PalletStack", "hasGroundAtCorners", "()Z"⟩, 14) := ⟨⟨by decide +kernel, by decide +kernel⟩, List.mem_of_getElem? (i := 14) (by decide +kernel), List.mem_of_getElem? (i := 388) (by decide +kernel), List.mem_of_getElem? (i := 389) (by decide +kernel)⟩
theorem lw_p15 : lw_okq (⟨"PalletStack", "isGround", "(II)Z"⟩, 14) := ⟨⟨by decide +kernel, by decide +kernel⟩, List.mem_of_getElem? (i := 14) (by decide +kernel), List.mem_of_getElem? (i := 392) (by decide +kernel), List.mem_of_getElem? (i := 393) (by decide +kernel)⟩
def lw_privs_1 : List (MethodName × Nat) := [(⟨"java/lang/Throwable", "fillInStackTrace", "(I)Ljava/lang/Throwable;"⟩, 6), (⟨"PalletStack", "countOf", "(I)I"⟩, 14), (⟨"PalletStack", "itemOf", "(I)LPalletStack$Item;"⟩, 14), (⟨"PalletStack", "factOf", "(LPalletStack$Item;I)I"⟩, 14), (⟨"PalletStack", "standingOn", "(LPalletStack$Item;)I"⟩, 14), (⟨"PalletStack", "isCarriedBy", "(LPalletStack$Item;LPalletStack$Item;)Z"⟩, 14), (⟨"PalletStack", "kindOf", "(I)LPalletStack$Kind;"⟩, 14), (⟨"PalletStack", "lineOf", "(I)LPalletStack$Line;"⟩, 14), (⟨"PalletStack", "nextLine", "()LPalletStack$Line;"⟩, 14), (⟨"PalletStack", "putAtBest", "(LPalletStack$Kind;)Z"⟩, 14), (⟨"PalletStack", "bestPlace", "(LPalletStack$Kind;)I"⟩, 14), (⟨"PalletStack", "letDown", "(LPalletStack$Kind;IIZ)V"⟩, 14), (⟨"PalletStack", "topOf", "(II)I"⟩, 14), (⟨"PalletStack", "brokenRule", "(LPalletStack$Kind;)I"⟩, 14), (⟨"PalletStack", "hasGroundAtCorners", "()Z"⟩, 14), (⟨"PalletStack", "isGround", "(II)Z"⟩, 14)]
theorem lw_r1 : ∀ q ∈ lw_privs_1, lw_okq q := List.forall_mem_cons.mpr ⟨lw_p0, List.forall_mem_cons.mpr ⟨lw_p1, List.forall_mem_cons.mpr ⟨lw_p2, List.forall_mem_cons.mpr ⟨lw_p3, List.forall_mem_cons.mpr ⟨lw_p4, List.forall_mem_cons.mpr ⟨lw_p5, List.forall_mem_cons.mpr ⟨lw_p6, List.forall_mem_cons.mpr ⟨lw_p7, List.forall_mem_cons.mpr ⟨lw_p8, List.forall_mem_cons.mpr ⟨lw_p9, List.forall_mem_cons.mpr ⟨lw_p10, List.forall_mem_cons.mpr ⟨lw_p11, List.forall_mem_cons.mpr ⟨lw_p12, List.forall_mem_cons.mpr ⟨lw_p13, List.forall_mem_cons.mpr ⟨lw_p14, List.forall_mem_cons.mpr ⟨lw_p15, fun _ h => absurd h List.not_mem_nil⟩⟩⟩⟩⟩⟩⟩⟩⟩⟩⟩⟩⟩⟩⟩⟩
theorem lw_p16 : lw_okq (⟨"PalletStack", "findSupports", "()V"⟩, 14) := ⟨⟨by decide +kernel, by decide +kernel⟩, List.mem_of_getElem? (i := 14) (by decide +kernel), List.mem_of_getElem? (i := 396) (by decide +kernel), List.mem_of_getElem? (i := 397) (by decide +kernel)⟩
theorem lw_p17 : lw_okq (⟨"PalletStack", "isTooMuchLoad", "()Z"⟩, 14) := ⟨⟨by decide +kernel, by decide +kernel⟩, List.mem_of_getElem? (i := 14) (by decide +kernel), List.mem_of_getElem? (i := 405) (by decide +kernel), List.mem_of_getElem? (i := 406) (by decide +kernel)⟩
theorem lw_p18 : lw_okq (⟨"PalletStack", "forgetNextLoads", "()V"⟩, 14) := ⟨⟨by decide +kernel, by decide +kernel⟩, List.mem_of_getElem? (i := 14) (by decide +kernel), List.mem_of_getElem? (i := 409) (by decide +kernel), List.mem_of_getElem? (i := 410) (by decide +kernel)⟩
theorem lw_p19 : lw_okq (⟨"PalletStack", "putTrial", "()V"⟩, 14) := ⟨⟨by decide +kernel, by decide +kernel⟩, List.mem_of_getElem? (i := 14) (by decide +kernel), List.mem_of_getElem? (i := 417) (by decide +kernel), List.mem_of_getElem? (i := 418) (by decide +kernel)⟩
theorem lw_p20 : lw_okq (⟨"PalletStack", "layTop", "(LPalletStack$Item;)V"⟩, 14) := ⟨⟨by decide +kernel, by decide +kernel⟩, List.mem_of_getElem? (i := 14) (by decide +kernel), List.mem_of_getElem? (i := 421) (by decide +kernel), List.mem_of_getElem? (i := 422) (by decide +kernel)⟩
theorem lw_p21 : lw_okq (⟨"PalletStack", "settleLoads", "()V"⟩, 14) := ⟨⟨by decide +kernel, by decide +kernel⟩, List.mem_of_getElem? (i := 14) (by decide +kernel), List.mem_of_getElem? (i := 425) (by decide +kernel), List.mem_of_getElem? (i := 426) (by decide +kernel)⟩
theorem lw_p22 : lw_okq (⟨"PalletStack", "sumOf", "(I)I"⟩, 14) := ⟨⟨by decide +kernel, by decide +kernel⟩, List.mem_of_getElem? (i := 14) (by decide +kernel), List.mem_of_getElem? (i := 437) (by decide +kernel), List.mem_of_getElem? (i := 438) (by decide +kernel)⟩
theorem lw_p23 : lw_okq (⟨"PalletStack", "greatestTop", "()I"⟩, 14) := ⟨⟨by decide +kernel, by decide +kernel⟩, List.mem_of_getElem? (i := 14) (by decide +kernel), List.mem_of_getElem? (i := 441) (by decide +kernel), List.mem_of_getElem? (i := 442) (by decide +kernel)⟩
theorem lw_p24 : lw_okq (⟨"PalletStack", "greatestLoad", "()I"⟩, 14) := ⟨⟨by decide +kernel, by decide +kernel⟩, List.mem_of_getElem? (i := 14) (by decide +kernel), List.mem_of_getElem? (i := 445) (by decide +kernel), List.mem_of_getElem? (i := 446) (by decide +kernel)⟩
theorem lw_p25 : lw_okq (⟨"PalletStack", "coveredDeck", "()I"⟩, 14) := ⟨⟨by decide +kernel, by decide +kernel⟩, List.mem_of_getElem? (i := 14) (by decide +kernel), List.mem_of_getElem? (i := 449) (by decide +kernel), List.mem_of_getElem? (i := 450) (by decide +kernel)⟩
def lw_privs_2 : List (MethodName × Nat) := [(⟨"PalletStack", "findSupports", "()V"⟩, 14), (⟨"PalletStack", "isTooMuchLoad", "()Z"⟩, 14), (⟨"PalletStack", "forgetNextLoads", "()V"⟩, 14), (⟨"PalletStack", "putTrial", "()V"⟩, 14), (⟨"PalletStack", "layTop", "(LPalletStack$Item;)V"⟩, 14), (⟨"PalletStack", "settleLoads", "()V"⟩, 14), (⟨"PalletStack", "sumOf", "(I)I"⟩, 14), (⟨"PalletStack", "greatestTop", "()I"⟩, 14), (⟨"PalletStack", "greatestLoad", "()I"⟩, 14), (⟨"PalletStack", "coveredDeck", "()I"⟩, 14)]
theorem lw_r2 : ∀ q ∈ lw_privs_2, lw_okq q := List.forall_mem_cons.mpr ⟨lw_p16, List.forall_mem_cons.mpr ⟨lw_p17, List.forall_mem_cons.mpr ⟨lw_p18, List.forall_mem_cons.mpr ⟨lw_p19, List.forall_mem_cons.mpr ⟨lw_p20, List.forall_mem_cons.mpr ⟨lw_p21, List.forall_mem_cons.mpr ⟨lw_p22, List.forall_mem_cons.mpr ⟨lw_p23, List.forall_mem_cons.mpr ⟨lw_p24, List.forall_mem_cons.mpr ⟨lw_p25, fun _ h => absurd h List.not_mem_nil⟩⟩⟩⟩⟩⟩⟩⟩⟩⟩
def lw_privs : List (MethodName × Nat) := lw_privs_1 ++ (lw_privs_2)
def lw_tbl : List Cond := k2_sels lw_privs ++ tables_1
theorem lw_privs_ok : ∀ q ∈ lw_privs, lw_okq q := by
  show ∀ q ∈ lw_privs_1 ++ (lw_privs_2), lw_okq q
  exact List.forall_mem_append.mpr ⟨lw_r1, lw_r2⟩
/-- the streams that the claim lets the run draw from -/
abbrev lw_cs : List Choice := [Jvm.Choice.named "NaN.bits"]
theorem lw_bits : nanBits ∈ lw_cs := by first | decide | exact List.mem_cons_self | simp [lw_cs, nanBits]
/-! ===== BEGIN words of one list among another's, by their places ===== -/
theorem goodIn_r {big : List Cond} (ws : List Cond) (ps : List Nat) (hp : ws = ps.filterMap (fun i => big[i]?)) (h : ws.all goodWord = true) : GoodIn big ws := by
  intro w hw
  have h1 := List.all_eq_true.mp h w hw
  rw [hp] at hw
  obtain ⟨i, -, hi⟩ := List.mem_filterMap.mp hw
  have hm : w ∈ big := by first | exact List.mem_of_getElem? hi | exact List.getElem?_mem hi
  exact ⟨hm, good_of_word h1⟩
theorem goodIn_app {big a b : List Cond} (ha : GoodIn big a) (hb : GoodIn big b) : GoodIn big (a ++ b) := fun w h => (List.mem_append.mp h).elim (ha w) (hb w)
theorem goodIn_ca {big a b : List Cond} {c : Cond} (ha : GoodIn big (c :: a)) (hb : GoodIn big b) : GoodIn big (c :: (a ++ b)) := fun w h => (List.mem_cons.mp h).elim (fun e => ha w (List.mem_cons.mpr (Or.inl e))) (fun h => (List.mem_append.mp h).elim (fun h => ha w (List.mem_cons.mpr (Or.inr h))) (hb w))
theorem goodIn_sub {big ws : List Cond} (hm : ∀ w ∈ ws, w ∈ big) (h : ws.all goodWord = true) : GoodIn big ws := fun w hw => ⟨hm w hw, good_of_word (List.all_eq_true.mp h w hw)⟩
/-! ===== END ===== -/

/-! ===== BEGIN exceptions that leave a method, and their catching by the caller (launches without stack traces) ===== -/
section VXA
/-! The laws vx_back, vx_callV, vx_callS, vx_callSW, vx_throw0, vx_throwS follow proofs of the library, with one case more: JvmDerived/Free/Laws.lean (Back.of_free), Shelf42/LK1.lean (callV, callS), Shelf/KitTraced.lean (throwNew0V, throwNewS). -/
/-- where a method has thrown q: the class by its name, the cell, what was written, the world -/
def vx_T (XC : String → State → State → Prop) (st : State) (q : Addr) (t : State) (mc ms : Nat) (free : Addr → Prop) : Prop :=
  ∃ (E : String) (ce : Cell) (L : List Loc), XC E st t ∧ t.heap[q]? = some ce ∧ ce.vm = .none ∧ st.vm.findClass E = some ce.cls ∧ st.WarmedH t.vm ∧ st.sameButNew ({ t with vm := st.vm } : State) L mc ms ∧ ∀ z ∈ L, free z.base
def vx_Q (Qc : Array Value → State → Outcome → State → Prop) (XC : String → State → State → Prop) (mc ms : Nat) (free : Addr → Prop) : Array Value → State → Outcome → State → Prop := fun a st o t =>
  (Qc a st o t ∧ ∃ L, FrameEnd st o t L mc ms ∧ ∀ q ∈ L, free q.base) ∨ ∃ q, o = .threw q ∧ vx_T XC st q t mc ms free
/-- a callee that returns or throws -/
def vx_Met (l : Launch) (y : MethodName) (ws : List Cond) (rm : Room) (Pc : Array Value → State → Prop) (Qc : Array Value → State → Outcome → State → Prop) (XC : String → State → State → Prop) (mc ms : Nat) (free : Addr → Prop) : Prop :=
  MetFree l y (headSpec ws rm) Pc (fun _ _ _ _ _ => True) (vx_Q Qc XC mc ms free)
def vx_Post (XC : String → State → State → Prop) (mc ms : Nat) (free : Addr → Prop) : Pt → Array Value → Addr → Pt → Prop := fun A a q B =>
  ∃ (g : JFrame) (mk : MethodId) (t : State) (L : List Loc) (E : String) (ce : Cell), B.U.heap = t.heap ∧ B.U.vm = t.vm ∧ XC E (A.U.calling g mk a) t ∧ t.heap[q]? = some ce ∧ ce.vm = .none ∧ A.U.vm.findClass E = some ce.cls ∧ B.locs = A.locs ++ L ∧ (∀ z ∈ L, free z.base) ∧ B.cells = A.cells + mc ∧ B.slots = A.slots + ms
def vx_Back (l : Launch) (R : Room) (p : Program) (e : Env) (below : List Frame) (s : State) (sargs : Array Value) (y : MethodName) (len W9 : Nat)
    (Pre : Pt → Array Value → Prop) (Post : Pt → Array Value → Option Value → Pt → Prop) (PostX : Pt → Array Value → Addr → Pt → Prop) : Prop :=
  ∀ (m : MethodId) (meth : Method) (c : Code) (A : Pt) (g : JFrame) (ig : Instr) (mk : MethodId) (a : Array Value),
    Stand p l e R s m sargs below meth c A.U A.locs A.cells A.slots → g.method = m → g.locals.size = c.maxLocals → decode c.code g.pc = .ok (ig, len) →
    2 * g.monitorRoom + (g.stack.map fun v => v.category).sum ≤ W9 → A.U.methodNamed? y = some mk → Pre A a →
    (∃ (v : Option Value) (B : Pt), Stand p l e R s m sargs below meth c B.U B.locs B.cells B.slots ∧ Post A a v B ∧
      Steps p.tables e below (doInvoke e (A.U.setTop g) [] mk a).1 (B.U.setTop { g with pc := g.pc + len, stack := v.toList ++ g.stack })) ∨
    (∃ (q : Addr) (B : Pt), Stand p l e R s m sargs below meth c B.U B.locs B.cells B.slots ∧ PostX A a q B ∧
      Steps p.tables e below (doInvoke e (A.U.setTop g) [] mk a).1 ((B.U.setTop g).pushFrame (.throwing q)))
section Payer
variable {l : Launch} {R : Room} {p : Program} {e : Env} {below : List Frame} {s : State} {sargs : Array Value} {y : MethodName} {len W9 : Nat}
theorem vx_back {ws : List Cond} {rm : Room} {Pc : Array Value → State → Prop} {Qc : Array Value → State → Outcome → State → Prop} {XC : String → State → State → Prop} {mc ms : Nat} {free : Addr → Prop} {bytes : ByteArray} {maxL : Nat} {ret : Option FieldType}
    (hM : vx_Met l y ws rm Pc Qc XC mc ms free) (hblind : FrameBlind Pc) (hrc : rm.cells = mc) (hrs : rm.slots = ms)
    (hframes : rm.frames + 1 ≤ R.frames) (hlocals : W9 + (maxL + 11) + rm.locals ≤ R.locals)
    (hws : ∀ w ∈ ws, ∀ a' U, s.WarmedH U.vm → w.before a' U = true) (hcode : Cond.code y bytes maxL ret ∈ ws) (hinit : ∀ a' U, s.WarmedH U.vm → (Cond.initialized y.cls).before a' U = true) :
    vx_Back l R p e below s sargs y len W9 (PreOf R mc ms Pc) (PostOf Qc mc ms free) (vx_Post XC mc ms free) := by
  intro m meth c A g ig mk a X hg hsize hdg hW hn hp
  have h1 : (headSpec ws rm).pre.before a A.U = true := atoms_intro fun w hw => hws w hw _ _ X.warmed
  have h2 : (Cond.code y bytes maxL ret).before a A.U = true := hws _ hcode _ _ X.warmed
  have h3 : (Cond.initialized y.cls).before a A.U = true := hinit _ _ X.warmed
  have h4 : A.cells + (headSpec ws rm).room.cells ≤ R.cells := by rw [show (headSpec ws rm).room.cells = mc from hrc]; exact hp.1
  have h5 : A.slots + (headSpec ws rm).room.slots ≤ R.slots := by rw [show (headSpec ws rm).room.slots = ms from hrs]; exact hp.2.1
  have hPc : Pc a (A.U.calling g mk a) := hblind _ _ _ _ hp.2.2
  obtain ⟨U, Ls, c0, s0⟩ := A
  dsimp only [Pt.U, Pt.locs, Pt.cells, Pt.slots] at h1 h2 h3 h4 h5 X hn hPc ⊢
  obtain ⟨methY, cY, hmY, hcY, -, hlY, -, -, -, -⟩ := Cond.code_spec hn h2
  obtain ⟨kY, hkY, -⟩ := className_of_methodNamed hn
  have hinitY : kY.init = .initialized := Cond.initialized_spec (findClass_of_methodNamed hn) hkY h3
  have h : At U g.method c below := by rw [hg]; exact X.here
  have hlocals9 : W9 + (maxL + 11) + (headSpec ws rm).room.locals ≤ R.locals := hlocals
  have happ : (headSpec ws rm).appliesLoose y e.platform (U.calling g mk a) = true :=
    Spec.appliesLoose_calling (g := g) h hdg hn hkY hinitY
      (X.room_calling (g := g) (R' := (headSpec ws rm).room) hsize hmY hcY hframes (by rw [hlY]; omega) h4 h5) h1
  obtain ⟨mid, hmid⟩ := h.above
  have hfr : (U.setTop g).frames = (.java g :: mid) ++ below := by rw [State.frames_setTop' g h.top, hmid]; rfl
  obtain ⟨o, s₂, hsteps, -, hend, hq⟩ := Steps.callFree hM p X.admits X.cas X.clock (acts := []) hfr happ hPc trivial
  have hq' : vx_Q Qc XC mc ms free a (U.calling g mk a) o s₂ := hq
  rw [State.frames_setTop' g h.top] at hend
  obtain ⟨g₀, hg0⟩ := Option.isSome_iff_exists.mp h.top
  obtain ⟨r, hr⟩ := State.topJava?_eq_some.mp hg0
  have hr' : (({ U with heap := s₂.heap, slotsUsed := s₂.slotsUsed } : State).setVm s₂.vm).frames = .java g₀ :: r := hr
  rcases hq' with ⟨hqc, L, hfe, hL⟩ | ⟨q, rfl, E, ce, L, hx, hce, hcv, hcl, hW₂, hsm, hL⟩
  · obtain ⟨⟨v, rfl⟩, hW₂, e2, q2, q3, q4, q5, q6⟩ := id hfe
    have e3 : s₂ = ({ (U.calling g mk a).setFrames s₂.frames with heap := s₂.heap, slotsUsed := s₂.slotsUsed } : State).setVm s₂.vm := by
      have : s₂ = ({ s₂ with vm := (U.calling g mk a).vm } : State).setVm s₂.vm := rfl
      rw [e2] at this
      exact this
    obtain ⟨c₂, i₂, len₂, hc₂, hd₂, hf₂⟩ := hend
    have hW' : U.WarmedH s₂.vm := hW₂
    have hcc : c₂ = c := by
      have h1 : s₂.code? g.method = U.code? g.method := by
        rw [State.code?_eq, State.code?_eq, hW'.alike.method?]
      exact Option.some.inj (hc₂.symm.trans (h1.trans h.code))
    subst hcc
    have hlen : len₂ = len := by rw [hdg] at hd₂; cases hd₂; rfl
    subst hlen
    have hs₂ : s₂ = (({ U with heap := s₂.heap, slotsUsed := s₂.slotsUsed } : State).setVm s₂.vm).setTop { g with pc := g.pc + len₂, stack := v.toList ++ g.stack } := by
      refine e3.trans ?_
      rw [hf₂, State.calling_eq h.top, State.setFrames_setFrames, State.setTop_of_frames _ hr', hr]
      rfl
    have hsame : U.sameButNew ({ U with heap := s₂.heap, slotsUsed := s₂.slotsUsed } : State) L mc ms := by
      refine ⟨?_, q2, q3, q4, q5, q6⟩
      obtain ⟨t, ht, -⟩ := State.frames_cons hr
      show ({ U with heap := s₂.heap, slotsUsed := s₂.slotsUsed } : State) = { U.setFrames U.frames with heap := s₂.heap, slotsUsed := s₂.slotsUsed }
      rw [State.setFrames_self ht]
    subst hg
    refine Or.inl ⟨v, ⟨(({ U with heap := s₂.heap, slotsUsed := s₂.slotsUsed } : State).setVm s₂.vm), Ls ++ L, c0 + mc, s0 + ms⟩,
      ⟨X.admits, X.cas, X.clock, X.frames, X.room, X.hears, X.method, X.code, (X.here.setHeapUsed s₂.heap s₂.slotsUsed).setVm hW'.alike, X.tail, State.WarmedH.trans X.warmed hW', X.limits, X.bytes, X.same.trans (hsame.setVm s.vm)⟩,
      ⟨g, mk, s₂, L, rfl, rfl, hqc, rfl, hL, rfl, rfl⟩, ?_⟩
    show Steps p.tables e below _ ((({ U with heap := s₂.heap, slotsUsed := s₂.slotsUsed } : State).setVm s₂.vm).setTop { g with pc := g.pc + len₂, stack := v.toList ++ g.stack })
    rw [← hs₂]
    exact hsteps
  · obtain ⟨e2, q2, q3, q4, q5, q6⟩ := id hsm
    have e3 : s₂ = ({ (U.calling g mk a).setFrames s₂.frames with heap := s₂.heap, slotsUsed := s₂.slotsUsed } : State).setVm s₂.vm := by
      have : s₂ = ({ s₂ with vm := (U.calling g mk a).vm } : State).setVm s₂.vm := rfl
      rw [e2] at this
      exact this
    have hf₂ : s₂.frames = .throwing q :: .java g :: U.frames.tail := hend
    have hW' : U.WarmedH s₂.vm := hW₂
    have hs₂ : s₂ = ((({ U with heap := s₂.heap, slotsUsed := s₂.slotsUsed } : State).setVm s₂.vm).setTop g).pushFrame (.throwing q) := by
      refine e3.trans ?_
      rw [hf₂, State.calling_eq h.top, State.setFrames_setFrames, State.pushFrame, State.frames_setTop _ hr', State.setTop_of_frames _ hr', State.setFrames_setFrames, hr]
      rfl
    have hsame : U.sameButNew ({ U with heap := s₂.heap, slotsUsed := s₂.slotsUsed } : State) L mc ms := by
      refine ⟨?_, q2, q3, q4, q5, q6⟩
      obtain ⟨t, ht, -⟩ := State.frames_cons hr
      show ({ U with heap := s₂.heap, slotsUsed := s₂.slotsUsed } : State) = { U.setFrames U.frames with heap := s₂.heap, slotsUsed := s₂.slotsUsed }
      rw [State.setFrames_self ht]
    subst hg
    refine Or.inr ⟨q, ⟨(({ U with heap := s₂.heap, slotsUsed := s₂.slotsUsed } : State).setVm s₂.vm), Ls ++ L, c0 + mc, s0 + ms⟩,
      ⟨X.admits, X.cas, X.clock, X.frames, X.room, X.hears, X.method, X.code, (X.here.setHeapUsed s₂.heap s₂.slotsUsed).setVm hW'.alike, X.tail, State.WarmedH.trans X.warmed hW', X.limits, X.bytes, X.same.trans (hsame.setVm s.vm)⟩,
      ⟨g, mk, s₂, L, E, ce, rfl, rfl, hx, hce, hcv, hcl, rfl, hL, rfl, rfl⟩, ?_⟩
    show Steps p.tables e below _ (((({ U with heap := s₂.heap, slotsUsed := s₂.slotsUsed } : State).setVm s₂.vm).setTop g).pushFrame (.throwing q))
    rw [← hs₂]
    exact hsteps
end Payer
section Calls
variable {p : Program} {l : Launch} {e : Env} {R : Room} {s : State} {m : MethodId} {args : Array Value} {below : List Frame} {meth : Method} {c : Code} {T : State} {locs : List Loc} {cells slots : Nat}
theorem vx_callV (X : Stand p l e R s m args below meth c T locs cells slots) (hexec : p.tables.exec = Jvm.exec) {own C : String} {index : Nat} {y : MethodName} {bytes : ByteArray} {maxL : Nat} {ret : Option FieldType}
    (hown : s.vm.findClass own = some m.cls) (hlink : (Cond.methodLink own index y).before args s = true) (hinst : (Cond.instanceMethod y).before args s = true) (hsel : (Cond.selects C y y).before args s = true)
    (hcode : (Cond.code y bytes maxL ret).before args s = true) (hy : y.cls ≠ "java/lang/invoke/MethodHandle" ∧ y.cls ≠ "java/lang/invoke/VarHandle")
    {W9 : Nat} {Pre : Pt → Array Value → Prop} {Post : Pt → Array Value → Option Value → Pt → Prop} {PostX : Pt → Array Value → Addr → Pt → Prop} (hK : vx_Back l R p e below s args y 3 W9 Pre Post PostX)
    {b : Addr} {cellB : Cell} (hcell : T.heap[b]? = some cellB) (hobj : cellB.vm.isStatics = false) (hcls : s.vm.findClass C = some cellB.cls)
    {g : JFrame} (hg : g.method = m) (hsize : g.locals.size = c.maxLocals) {argsL rest : List Value} (hlen : ∀ sig, parseMethodDescriptor y.desc = some sig → argsL.length = sig.parameters.length)
    (hstack : g.stack = argsL.reverse ++ .ref b :: rest) (hW : 2 * g.monitorRoom + (rest.map fun v => v.category).sum ≤ W9) (hdg : decode c.code g.pc = .ok (.invokevirtual index, 3))
    (hpre : ∀ vm₁, s.WarmedH vm₁ → Pre ⟨T.setVm vm₁, locs, cells, slots⟩ (Value.ref b :: argsL).toArray) :
    (∃ (v : Option Value) (vm₁ : Vm) (B : Pt), s.WarmedH vm₁ ∧ Stand p l e R s m args below meth c B.U B.locs B.cells B.slots ∧ Post ⟨T.setVm vm₁, locs, cells, slots⟩ (Value.ref b :: argsL).toArray v B ∧
      ∀ target, Steps p.tables e below (B.U.setTop { g with pc := g.pc + 3, stack := v.toList ++ rest }) target → Steps p.tables e below (T.setTop g) target) ∨
    (∃ (q : Addr) (vm₁ : Vm) (B : Pt), s.WarmedH vm₁ ∧ Stand p l e R s m args below meth c B.U B.locs B.cells B.slots ∧ PostX ⟨T.setVm vm₁, locs, cells, slots⟩ (Value.ref b :: argsL).toArray q B ∧
      Steps p.tables e below (T.setTop g) ((B.U.setTop { g with stack := rest }).pushFrame (.throwing q))) := by
  obtain ⟨mk, methM, hnamed, hmethM, hstM, habM⟩ := Cond.instanceMethod_spec hinst
  obtain ⟨methM', cM, hmethM', -, -, -, -, -, -, hsigM⟩ := Cond.code_spec hnamed hcode
  cases hmethM.symm.trans hmethM'
  obtain ⟨c2, r2, m2, q1, q2, q3, q4, kP, hkP, hkPi⟩ := Cond.selects_spec hsel
  cases hcls.symm.trans q1
  cases (State.methodFound?_of_named hnamed hy).symm.trans q2
  cases hnamed.symm.trans q3
  have hselP : selectMethod e.platform s.vm cellB.cls mk = .method mk := by rw [Launch.admits_selectMethod X.admits]; exact q4
  obtain ⟨vm₁, X₁, hstep₁⟩ := X.invokevirtual hexec hown hlink hnamed hmethM hstM hkP hkPi hy (a := b) (cell := cellB) hcell
    (fun z h => by rw [h] at hobj; cases hobj) hselP hmethM habM hkP hkPi (g := g) hg (argsL := argsL) (rest := rest) (hlen _ hsigM) hstack hdg
  rcases hK m meth c ⟨T.setVm vm₁, locs, cells, slots⟩ { g with stack := rest } (.invokevirtual index) mk (Value.ref b :: argsL).toArray X₁ hg hsize hdg hW (X₁.named hnamed) (hpre vm₁ X₁.warmed) with ⟨v, B, X', hpost, hsteps⟩ | ⟨q, B, X', hpost, hsteps⟩
  · exact Or.inl ⟨v, vm₁, B, X₁.warmed, X', hpost, fun target h => hstep₁ _ fun acts => by rw [doInvoke_state]; exact hsteps.trans h⟩
  · exact Or.inr ⟨q, vm₁, B, X₁.warmed, X', hpost, hstep₁ _ fun acts => by rw [doInvoke_state]; exact hsteps⟩
theorem vx_callS (X : Stand p l e R s m args below meth c T locs cells slots) (hexec : p.tables.exec = Jvm.exec) {own : String} {index : Nat} {y : MethodName} {bytes : ByteArray} {maxL : Nat} {ret : Option FieldType}
    (hown : s.vm.findClass own = some m.cls) (hlink : (Cond.methodLink own index y).before args s = true) (hstat : (Cond.static y).before args s = true) (hinit : (Cond.initialized y.cls).before args s = true)
    (hcode : (Cond.code y bytes maxL ret).before args s = true) (hy : y.cls ≠ "java/lang/invoke/MethodHandle" ∧ y.cls ≠ "java/lang/invoke/VarHandle")
    {W9 : Nat} {Pre : Pt → Array Value → Prop} {Post : Pt → Array Value → Option Value → Pt → Prop} {PostX : Pt → Array Value → Addr → Pt → Prop} (hK : vx_Back l R p e below s args y 3 W9 Pre Post PostX)
    {g : JFrame} (hg : g.method = m) (hsize : g.locals.size = c.maxLocals) {argsL rest : List Value} (hlen : ∀ sig, parseMethodDescriptor y.desc = some sig → argsL.length = sig.parameters.length)
    (hstack : g.stack = argsL.reverse ++ rest) (hW : 2 * g.monitorRoom + (rest.map fun v => v.category).sum ≤ W9) (hdg : decode c.code g.pc = .ok (.invokestatic index, 3))
    (hpre : ∀ vm₁, s.WarmedH vm₁ → Pre ⟨T.setVm vm₁, locs, cells, slots⟩ argsL.toArray) :
    (∃ (v : Option Value) (vm₁ : Vm) (B : Pt), s.WarmedH vm₁ ∧ Stand p l e R s m args below meth c B.U B.locs B.cells B.slots ∧ Post ⟨T.setVm vm₁, locs, cells, slots⟩ argsL.toArray v B ∧
      ∀ target, Steps p.tables e below (B.U.setTop { g with pc := g.pc + 3, stack := v.toList ++ rest }) target → Steps p.tables e below (T.setTop g) target) ∨
    (∃ (q : Addr) (vm₁ : Vm) (B : Pt), s.WarmedH vm₁ ∧ Stand p l e R s m args below meth c B.U B.locs B.cells B.slots ∧ PostX ⟨T.setVm vm₁, locs, cells, slots⟩ argsL.toArray q B ∧
      Steps p.tables e below (T.setTop g) ((B.U.setTop { g with stack := rest }).pushFrame (.throwing q))) := by
  obtain ⟨mk, hnamed⟩ := Cond.code_named hcode
  obtain ⟨methM, cM, hmethM, -, -, -, -, -, -, hsigM⟩ := Cond.code_spec hnamed hcode
  have hstatic : methM.isStatic = true := Cond.static_spec hnamed hmethM hstat
  obtain ⟨kP, hkP, -⟩ := className_of_methodNamed hnamed
  have hinitP : kP.init = .initialized := Cond.initialized_spec (findClass_of_methodNamed hnamed) hkP hinit
  obtain ⟨vm₁, X₁, hstep₁⟩ := X.invokestatic hexec hown hlink hnamed hmethM hstatic hkP hinitP hy (g := g) hg (argsL := argsL) (rest := rest) (hlen _ hsigM) hstack hdg
  rcases hK m meth c ⟨T.setVm vm₁, locs, cells, slots⟩ { g with stack := rest } (.invokestatic index) mk argsL.toArray X₁ hg hsize hdg hW (X₁.named hnamed) (hpre vm₁ X₁.warmed) with ⟨v, B, X', hpost, hsteps⟩ | ⟨q, B, X', hpost, hsteps⟩
  · exact Or.inl ⟨v, vm₁, B, X₁.warmed, X', hpost, fun target h => hstep₁ _ fun acts => by rw [doInvoke_state]; exact hsteps.trans h⟩
  · exact Or.inr ⟨q, vm₁, B, X₁.warmed, X', hpost, hstep₁ _ fun acts => by rw [doInvoke_state]; exact hsteps⟩
end Calls
theorem vx_cls {s : State} {T : State} {vm₁ : Vm} {E : String} {k : ClassId} (hW : s.WarmedH vm₁) (h : (T.setVm vm₁).vm.findClass E = some k) : s.vm.findClass E = some k := by
  have h1 : vm₁.findClass E = some k := h
  rw [hW.alike.findClass] at h1
  exact h1
/-- the method's frame g, with q thrown over it -/
def vx_W (p : Program) (l : Launch) (e : Env) (R : Room) (s : State) (m : MethodId) (args : Array Value) (below : List Frame) (meth : Method) (c : Code) (H : Heap) (locs : List Loc) (cells slots : Nat) (Q : State → Prop) (g : JFrame) (q : Addr) : Prop :=
  ∀ T : State, T.heap = H → Stand p l e R s m args below meth c T locs cells slots → ∃ t, Steps p.tables e below ((T.setTop g).pushFrame (.throwing q)) t ∧ Q t
def vx_Run (p : Program) (l : Launch) (e : Env) (R : Room) (s : State) (m : MethodId) (args : Array Value) (below : List Frame) (meth : Method) (c : Code) (H : Heap) (locs : List Loc) (cells slots mc ms : Nat) (g : JFrame) (rest : List Value) (Qa : State → Outcome → State → Prop) (XC : String → State → State → Prop) (free : Addr → Prop) : Prop :=
  ∀ T : State, T.heap = H → Stand p l e R s m args below meth c T locs cells slots →
    (∃ (v : Option Value) (st₀ t T' : State) (L : List Loc), st₀.heap = H ∧ Stand p l e R s m args below meth c T' (locs ++ L) (cells + mc) (slots + ms) ∧ (∀ q ∈ L, free q.base) ∧ T'.heap = t.heap ∧ T'.vm = t.vm ∧ Qa st₀ (.returned v) t ∧
      Goes p e below T g T' { g with pc := g.pc + 3, stack := v.toList ++ rest }) ∨
    (∃ (q : Addr) (st₀ t T' : State) (L : List Loc) (E : String) (ce : Cell), st₀.heap = H ∧ Stand p l e R s m args below meth c T' (locs ++ L) (cells + mc) (slots + ms) ∧ (∀ z ∈ L, free z.base) ∧ T'.heap = t.heap ∧ T'.vm = t.vm ∧ XC E st₀ t ∧ t.heap[q]? = some ce ∧ ce.vm = .none ∧ s.vm.findClass E = some ce.cls ∧
      Steps p.tables e below (T.setTop g) ((T'.setTop { g with stack := rest }).pushFrame (.throwing q)))
def vx_X {S : Type} (px : S → Prop) (B : String → S → State → Prop) (A : Nat → Prop) : String → State → State → Prop := fun E st t => ∃ u : S, px u ∧ B E u t ∧ va_F A st t
section Runs
variable {p : Program} {l : Launch} {e : Env} {R : Room} {s : State} {m : MethodId} {args : Array Value} {below : List Frame} {meth : Method} {c : Code} {H : Heap} {locs : List Loc} {cells slots : Nat}
variable {y : MethodName} {bytes cc : ByteArray} {maxL nL mc ms n index : Nat} {ret : Option FieldType} {ws : List Cond} {rm : Room} {Pc : Array Value → State → Prop} {Qc : Array Value → State → Outcome → State → Prop} {XC : String → State → State → Prop} {free : Addr → Prop} {Ts : List Cond} {own C : String} {b : Addr} {As rest : List Value} {g : JFrame}
theorem vx_callBack (cb : CallB R s args own index y bytes maxL ret ws rm mc ms n) (hM : vx_Met l y ws rm Pc Qc XC mc ms free) (hbl : FrameBlind Pc) : vx_Back l R p e below s args y 3 8 (PreOf R mc ms Pc) (PostOf Qc mc ms free) (vx_Post XC mc ms free) := by
  obtain ⟨hrc, hrs, hfr, hlo, hws, hcw, -, hini, -⟩ := cb
  exact vx_back (bytes := bytes) (maxL := maxL) (ret := ret) hM hbl hrc hrs hfr hlo hws hcw (fun a' U hW => word_at hW (Or.inl (by first | rfl | simp [Cond.onTables, Cond.keeps, Cond.steady])) hini)
theorem vx_runV (S : CallFix p m c cc nL s args Ts own) (hM : vx_Met l y ws rm Pc Qc XC mc ms free) (cw : CallW R s args own C index y bytes maxL ret ws rm mc ms n) (hp : PreV s H C b Pc As)
    (hg : g.method = m) (hn : As.length = n) (hsize : g.locals.size = nL) (hstack : g.stack = As.reverse ++ .ref b :: rest) (hW : 2 * g.monitorRoom + (rest.map fun v => v.category).sum ≤ 8) (hdg : decode cc g.pc = .ok (.invokevirtual index, 3)) (hf : cells + mc ≤ R.cells ∧ slots + ms ≤ R.slots) :
    vx_Run p l e R s m args below meth c H locs cells slots mc ms g rest (Qc (Value.ref b :: As).toArray) XC free := by
  have hK : vx_Back l R p e below s args y 3 8 (PreOf R mc ms Pc) (PostOf Qc mc ms free) (vx_Post XC mc ms free) := vx_callBack cw.1 hM hp.1
  obtain ⟨⟨-, -, -, -, -, -, hcode, -, hy, hlen, hl⟩, hin, hse⟩ := cw
  obtain ⟨hx, hb, hml, ho, -⟩ := S
  obtain ⟨-, ⟨cellB, hcB, hoB, hclB⟩, hPc⟩ := hp
  intro T hT X
  rcases vx_callV X hx (C := C) (bytes := bytes) (maxL := maxL) (ret := ret) ho hl hin hse hcode hy hK (by rw [hT]; exact hcB) hoB hclB hg (hsize.trans hml.symm) (argsL := As) (rest := rest) (fun sig h => hn.trans (hlen sig h)) hstack hW (by rw [hb]; exact hdg)
    (fun vm₁ hW₁ => ⟨hf.1, hf.2, hPc (T.setVm vm₁) hT hW₁⟩) with ⟨v, vm₁, ⟨U', l2, c2, s2⟩, hW₁, X', ⟨g', mk, t, L, e1, e2, hq, h1, hL, h2, h3⟩, st⟩ | ⟨q, vm₁, ⟨U', l2, c2, s2⟩, hW₁, X', ⟨g', mk, t, L, E, ce, e1, e2, hq, hce, hcv, hcl, h1, hL, h2, h3⟩, st⟩
  · dsimp only [Pt.U, Pt.locs, Pt.cells, Pt.slots] at X' e1 e2 h1 h2 h3 st
    subst h1; subst h2; subst h3
    exact Or.inl ⟨v, (T.setVm vm₁).calling g' mk (Value.ref b :: As).toArray, t, U', L, hT, X', hL, e1, e2, hq, st⟩
  · dsimp only [Pt.U, Pt.locs, Pt.cells, Pt.slots] at X' e1 e2 h1 h2 h3 st hcl
    subst h1; subst h2; subst h3
    exact Or.inr ⟨q, (T.setVm vm₁).calling g' mk (Value.ref b :: As).toArray, t, U', L, E, ce, hT, X', hL, e1, e2, hq, hce, hcv, vx_cls hW₁ hcl, st⟩
theorem vx_runS (S : CallFix p m c cc nL s args Ts own) (hM : vx_Met l y ws rm Pc Qc XC mc ms free) (cw : CallB R s args own index y bytes maxL ret ws rm mc ms n ∧ (Cond.static y).before args s = true) (hp : PreS s H Pc As)
    (hg : g.method = m) (hn : As.length = n) (hsize : g.locals.size = nL) (hstack : g.stack = As.reverse ++ rest) (hW : 2 * g.monitorRoom + (rest.map fun v => v.category).sum ≤ 8) (hdg : decode cc g.pc = .ok (.invokestatic index, 3)) (hf : cells + mc ≤ R.cells ∧ slots + ms ≤ R.slots) :
    vx_Run p l e R s m args below meth c H locs cells slots mc ms g rest (Qc As.toArray) XC free := by
  have hK : vx_Back l R p e below s args y 3 8 (PreOf R mc ms Pc) (PostOf Qc mc ms free) (vx_Post XC mc ms free) := vx_callBack cw.1 hM hp.1
  obtain ⟨⟨-, -, -, -, -, -, hcode, hini, hy, hlen, hl⟩, hstt⟩ := cw
  obtain ⟨hx, hb, hml, ho, -⟩ := S
  intro T hT X
  rcases vx_callS X hx (bytes := bytes) (maxL := maxL) (ret := ret) ho hl hstt hini hcode hy hK hg (hsize.trans hml.symm) (argsL := As) (rest := rest) (fun sig h => hn.trans (hlen sig h)) hstack hW (by rw [hb]; exact hdg)
    (fun vm₁ hW₁ => ⟨hf.1, hf.2, hp.2 (T.setVm vm₁) hT hW₁⟩) with ⟨v, vm₁, ⟨U', l2, c2, s2⟩, hW₁, X', ⟨g', mk, t, L, e1, e2, hq, h1, hL, h2, h3⟩, st⟩ | ⟨q, vm₁, ⟨U', l2, c2, s2⟩, hW₁, X', ⟨g', mk, t, L, E, ce, e1, e2, hq, hce, hcv, hcl, h1, hL, h2, h3⟩, st⟩
  · dsimp only [Pt.U, Pt.locs, Pt.cells, Pt.slots] at X' e1 e2 h1 h2 h3 st
    subst h1; subst h2; subst h3
    exact Or.inl ⟨v, (T.setVm vm₁).calling g' mk As.toArray, t, U', L, hT, X', hL, e1, e2, hq, st⟩
  · dsimp only [Pt.U, Pt.locs, Pt.cells, Pt.slots] at X' e1 e2 h1 h2 h3 st hcl
    subst h1; subst h2; subst h3
    exact Or.inr ⟨q, (T.setVm vm₁).calling g' mk As.toArray, t, U', L, E, ce, hT, X', hL, e1, e2, hq, hce, hcv, vx_cls hW₁ hcl, st⟩
end Runs
section Rows
variable {p : Program} {l : Launch} {e : Env} {R : Room} {s : State} {m : MethodId} {args : Array Value} {below : List Frame} {meth : Method} {c : Code} {H : Heap} {locs : List Loc} {cells slots : Nat} {Q : State → Prop}
variable {mc ms : Nat} {free : Addr → Prop} {A0 A1 : Nat → Prop} {H0 : Heap} {a : Array Value} {pc : Nat} {ls : Array Slot} {st0 rest : List Value}
theorem vx_keep {st₀ t T' : State} {L : List Loc} (h0 : st₀.heap = H) (e1 : T'.heap = t.heap) (hS : va_S A0 H0 H locs) (hA : ∀ q, q < H.size → A1 q → A0 q) (hf : ∀ q, free q → A0 q) (hL : ∀ q ∈ L, free q.base) (hF : va_F A1 st₀ t) :
    H.size ≤ T'.heap.size ∧ (∀ q : Nat, q < H.size → ¬ A1 q → T'.heap[q]? = H[q]?) ∧ va_S A0 H0 T'.heap (locs ++ L) := by
  obtain ⟨hz, hk⟩ := hF
  rw [h0] at hz hk
  exact ⟨by rw [e1]; exact hz, fun q h1 h2 => by rw [e1]; exact hk q h1 h2,
    ⟨Nat.le_trans hS.1 (by rw [e1]; exact hz), fun q h1 h2 => by rw [e1, hk q (Nat.lt_of_lt_of_le h1 hS.1) (fun z => h2 (hA q (Nat.lt_of_lt_of_le h1 hS.1) z))]; exact hS.2.1 q h1 h2, fun q hq => by
      rcases List.mem_append.mp hq with h | h
      · exact hS.2.2 q h
      · exact hf _ (hL q h)⟩⟩
theorem vx_calli {S SX : Type} {post : Int32 → S → Prop} {px : SX → Prop} {B : S → State → Prop} {BX : String → SX → State → Prop} {AX : Nat → Prop} (hr : vx_Run p l e R s m args below meth c H locs cells slots mc ms (F0 m pc ls st0) rest (va_Qi post B A1 a) (vx_X px BX AX) free) (hS : va_S A0 H0 H locs) (hA : ∀ q, q < H.size → A1 q → A0 q) (hf : ∀ q, free q → A0 q) (hAX : ∀ q, q < H.size → AX q → A0 q)
    (kx : ∀ (E : String) (ce : Cell) (q9 : Addr) (u : SX) (t : State) (H1 : Heap) (locs1 : List Loc), t.heap = H1 → s.vm.Alike t.vm → px u → BX E u t → H.size ≤ H1.size → (∀ q : Nat, q < H.size → ¬ AX q → H1[q]? = H[q]?) → va_S A0 H0 H1 locs1 → H1[q9]? = some ce → ce.vm = .none → s.vm.findClass E = some ce.cls → vx_W p l e R s m args below meth c H1 locs1 (cells + mc) (slots + ms) Q (F0 m pc ls rest) q9)
    (kk : ∀ (r : Int32) (u : S) (t : State) (H1 : Heap) (locs1 : List Loc), t.heap = H1 → s.vm.Alike t.vm → post r u → B u t → H.size ≤ H1.size → (∀ q : Nat, q < H.size → ¬ A1 q → H1[q]? = H[q]?) → va_S A0 H0 H1 locs1 → W p l e R s m args below meth c H1 locs1 (cells + mc) (slots + ms) Q (F0 m (pc + 3) ls (.int r :: rest))) : W p l e R s m args below meth c H locs cells slots Q (F0 m pc ls st0) := by
  intro T hT X
  rcases hr T hT X with ⟨v, st₀, t, T', L, h0, X', hL, e1, e2, ⟨⟨r, u, hv, hp, hb⟩, hF⟩, st⟩ | ⟨q, st₀, t, T', L, E, ce, h0, X', hL, e1, e2, ⟨u, hp, hb, hF⟩, hce, hcv, hcl, st⟩
  · cases hv
    obtain ⟨k1, k2, k3⟩ := vx_keep h0 e1 hS hA hf hL hF
    obtain ⟨t2, a1, b1⟩ := kk r u t T'.heap (locs ++ L) e1.symm (by rw [← e2]; exact X'.warmed.alike) hp hb k1 k2 k3 T' rfl X'
    exact ⟨t2, st t2 a1, b1⟩
  · obtain ⟨k1, k2, k3⟩ := vx_keep h0 e1 hS hAX hf hL hF
    obtain ⟨t2, a1, b1⟩ := kx E ce q u t T'.heap (locs ++ L) e1.symm (by rw [← e2]; exact X'.warmed.alike) hp hb k1 k2 k3 (by rw [e1]; exact hce) hcv hcl T' rfl X'
    exact ⟨t2, st.trans a1, b1⟩
theorem vx_calll {S SX : Type} {post : Int64 → S → Prop} {px : SX → Prop} {B : S → State → Prop} {BX : String → SX → State → Prop} {AX : Nat → Prop} (hr : vx_Run p l e R s m args below meth c H locs cells slots mc ms (F0 m pc ls st0) rest (va_Ql post B A1 a) (vx_X px BX AX) free) (hS : va_S A0 H0 H locs) (hA : ∀ q, q < H.size → A1 q → A0 q) (hf : ∀ q, free q → A0 q) (hAX : ∀ q, q < H.size → AX q → A0 q)
    (kx : ∀ (E : String) (ce : Cell) (q9 : Addr) (u : SX) (t : State) (H1 : Heap) (locs1 : List Loc), t.heap = H1 → s.vm.Alike t.vm → px u → BX E u t → H.size ≤ H1.size → (∀ q : Nat, q < H.size → ¬ AX q → H1[q]? = H[q]?) → va_S A0 H0 H1 locs1 → H1[q9]? = some ce → ce.vm = .none → s.vm.findClass E = some ce.cls → vx_W p l e R s m args below meth c H1 locs1 (cells + mc) (slots + ms) Q (F0 m pc ls rest) q9)
    (kk : ∀ (r : Int64) (u : S) (t : State) (H1 : Heap) (locs1 : List Loc), t.heap = H1 → s.vm.Alike t.vm → post r u → B u t → H.size ≤ H1.size → (∀ q : Nat, q < H.size → ¬ A1 q → H1[q]? = H[q]?) → va_S A0 H0 H1 locs1 → W p l e R s m args below meth c H1 locs1 (cells + mc) (slots + ms) Q (F0 m (pc + 3) ls (.long r :: rest))) : W p l e R s m args below meth c H locs cells slots Q (F0 m pc ls st0) := by
  intro T hT X
  rcases hr T hT X with ⟨v, st₀, t, T', L, h0, X', hL, e1, e2, ⟨⟨r, u, hv, hp, hb⟩, hF⟩, st⟩ | ⟨q, st₀, t, T', L, E, ce, h0, X', hL, e1, e2, ⟨u, hp, hb, hF⟩, hce, hcv, hcl, st⟩
  · cases hv
    obtain ⟨k1, k2, k3⟩ := vx_keep h0 e1 hS hA hf hL hF
    obtain ⟨t2, a1, b1⟩ := kk r u t T'.heap (locs ++ L) e1.symm (by rw [← e2]; exact X'.warmed.alike) hp hb k1 k2 k3 T' rfl X'
    exact ⟨t2, st t2 a1, b1⟩
  · obtain ⟨k1, k2, k3⟩ := vx_keep h0 e1 hS hAX hf hL hF
    obtain ⟨t2, a1, b1⟩ := kx E ce q u t T'.heap (locs ++ L) e1.symm (by rw [← e2]; exact X'.warmed.alike) hp hb k1 k2 k3 (by rw [e1]; exact hce) hcv hcl T' rfl X'
    exact ⟨t2, st.trans a1, b1⟩
theorem vx_callf {S SX : Type} {post : UInt32 → S → Prop} {px : SX → Prop} {B : S → State → Prop} {BX : String → SX → State → Prop} {AX : Nat → Prop} (hr : vx_Run p l e R s m args below meth c H locs cells slots mc ms (F0 m pc ls st0) rest (va_Qf post B A1 a) (vx_X px BX AX) free) (hS : va_S A0 H0 H locs) (hA : ∀ q, q < H.size → A1 q → A0 q) (hf : ∀ q, free q → A0 q) (hAX : ∀ q, q < H.size → AX q → A0 q)
    (kx : ∀ (E : String) (ce : Cell) (q9 : Addr) (u : SX) (t : State) (H1 : Heap) (locs1 : List Loc), t.heap = H1 → s.vm.Alike t.vm → px u → BX E u t → H.size ≤ H1.size → (∀ q : Nat, q < H.size → ¬ AX q → H1[q]? = H[q]?) → va_S A0 H0 H1 locs1 → H1[q9]? = some ce → ce.vm = .none → s.vm.findClass E = some ce.cls → vx_W p l e R s m args below meth c H1 locs1 (cells + mc) (slots + ms) Q (F0 m pc ls rest) q9)
    (kk : ∀ (r : UInt32) (u : S) (t : State) (H1 : Heap) (locs1 : List Loc), t.heap = H1 → s.vm.Alike t.vm → post r u → B u t → H.size ≤ H1.size → (∀ q : Nat, q < H.size → ¬ A1 q → H1[q]? = H[q]?) → va_S A0 H0 H1 locs1 → W p l e R s m args below meth c H1 locs1 (cells + mc) (slots + ms) Q (F0 m (pc + 3) ls (.float r :: rest))) : W p l e R s m args below meth c H locs cells slots Q (F0 m pc ls st0) := by
  intro T hT X
  rcases hr T hT X with ⟨v, st₀, t, T', L, h0, X', hL, e1, e2, ⟨⟨r, u, hv, hp, hb⟩, hF⟩, st⟩ | ⟨q, st₀, t, T', L, E, ce, h0, X', hL, e1, e2, ⟨u, hp, hb, hF⟩, hce, hcv, hcl, st⟩
  · cases hv
    obtain ⟨k1, k2, k3⟩ := vx_keep h0 e1 hS hA hf hL hF
    obtain ⟨t2, a1, b1⟩ := kk r u t T'.heap (locs ++ L) e1.symm (by rw [← e2]; exact X'.warmed.alike) hp hb k1 k2 k3 T' rfl X'
    exact ⟨t2, st t2 a1, b1⟩
  · obtain ⟨k1, k2, k3⟩ := vx_keep h0 e1 hS hAX hf hL hF
    obtain ⟨t2, a1, b1⟩ := kx E ce q u t T'.heap (locs ++ L) e1.symm (by rw [← e2]; exact X'.warmed.alike) hp hb k1 k2 k3 (by rw [e1]; exact hce) hcv hcl T' rfl X'
    exact ⟨t2, st.trans a1, b1⟩
theorem vx_calld {S SX : Type} {post : UInt64 → S → Prop} {px : SX → Prop} {B : S → State → Prop} {BX : String → SX → State → Prop} {AX : Nat → Prop} (hr : vx_Run p l e R s m args below meth c H locs cells slots mc ms (F0 m pc ls st0) rest (va_Qd post B A1 a) (vx_X px BX AX) free) (hS : va_S A0 H0 H locs) (hA : ∀ q, q < H.size → A1 q → A0 q) (hf : ∀ q, free q → A0 q) (hAX : ∀ q, q < H.size → AX q → A0 q)
    (kx : ∀ (E : String) (ce : Cell) (q9 : Addr) (u : SX) (t : State) (H1 : Heap) (locs1 : List Loc), t.heap = H1 → s.vm.Alike t.vm → px u → BX E u t → H.size ≤ H1.size → (∀ q : Nat, q < H.size → ¬ AX q → H1[q]? = H[q]?) → va_S A0 H0 H1 locs1 → H1[q9]? = some ce → ce.vm = .none → s.vm.findClass E = some ce.cls → vx_W p l e R s m args below meth c H1 locs1 (cells + mc) (slots + ms) Q (F0 m pc ls rest) q9)
    (kk : ∀ (r : UInt64) (u : S) (t : State) (H1 : Heap) (locs1 : List Loc), t.heap = H1 → s.vm.Alike t.vm → post r u → B u t → H.size ≤ H1.size → (∀ q : Nat, q < H.size → ¬ A1 q → H1[q]? = H[q]?) → va_S A0 H0 H1 locs1 → W p l e R s m args below meth c H1 locs1 (cells + mc) (slots + ms) Q (F0 m (pc + 3) ls (.double r :: rest))) : W p l e R s m args below meth c H locs cells slots Q (F0 m pc ls st0) := by
  intro T hT X
  rcases hr T hT X with ⟨v, st₀, t, T', L, h0, X', hL, e1, e2, ⟨⟨r, u, hv, hp, hb⟩, hF⟩, st⟩ | ⟨q, st₀, t, T', L, E, ce, h0, X', hL, e1, e2, ⟨u, hp, hb, hF⟩, hce, hcv, hcl, st⟩
  · cases hv
    obtain ⟨k1, k2, k3⟩ := vx_keep h0 e1 hS hA hf hL hF
    obtain ⟨t2, a1, b1⟩ := kk r u t T'.heap (locs ++ L) e1.symm (by rw [← e2]; exact X'.warmed.alike) hp hb k1 k2 k3 T' rfl X'
    exact ⟨t2, st t2 a1, b1⟩
  · obtain ⟨k1, k2, k3⟩ := vx_keep h0 e1 hS hAX hf hL hF
    obtain ⟨t2, a1, b1⟩ := kx E ce q u t T'.heap (locs ++ L) e1.symm (by rw [← e2]; exact X'.warmed.alike) hp hb k1 k2 k3 (by rw [e1]; exact hce) hcv hcl T' rfl X'
    exact ⟨t2, st.trans a1, b1⟩
theorem vx_callv {S SX : Type} {post : S → Prop} {px : SX → Prop} {B : S → State → Prop} {BX : String → SX → State → Prop} {AX : Nat → Prop} (hr : vx_Run p l e R s m args below meth c H locs cells slots mc ms (F0 m pc ls st0) rest (va_Qv post B A1 a) (vx_X px BX AX) free) (hS : va_S A0 H0 H locs) (hA : ∀ q, q < H.size → A1 q → A0 q) (hf : ∀ q, free q → A0 q) (hAX : ∀ q, q < H.size → AX q → A0 q)
    (kx : ∀ (E : String) (ce : Cell) (q9 : Addr) (u : SX) (t : State) (H1 : Heap) (locs1 : List Loc), t.heap = H1 → s.vm.Alike t.vm → px u → BX E u t → H.size ≤ H1.size → (∀ q : Nat, q < H.size → ¬ AX q → H1[q]? = H[q]?) → va_S A0 H0 H1 locs1 → H1[q9]? = some ce → ce.vm = .none → s.vm.findClass E = some ce.cls → vx_W p l e R s m args below meth c H1 locs1 (cells + mc) (slots + ms) Q (F0 m pc ls rest) q9)
    (kk : ∀ (u : S) (t : State) (H1 : Heap) (locs1 : List Loc), t.heap = H1 → s.vm.Alike t.vm → post u → B u t → H.size ≤ H1.size → (∀ q : Nat, q < H.size → ¬ A1 q → H1[q]? = H[q]?) → va_S A0 H0 H1 locs1 → W p l e R s m args below meth c H1 locs1 (cells + mc) (slots + ms) Q (F0 m (pc + 3) ls (rest))) : W p l e R s m args below meth c H locs cells slots Q (F0 m pc ls st0) := by
  intro T hT X
  rcases hr T hT X with ⟨v, st₀, t, T', L, h0, X', hL, e1, e2, ⟨⟨u, hv, hp, hb⟩, hF⟩, st⟩ | ⟨q, st₀, t, T', L, E, ce, h0, X', hL, e1, e2, ⟨u, hp, hb, hF⟩, hce, hcv, hcl, st⟩
  · cases hv
    obtain ⟨k1, k2, k3⟩ := vx_keep h0 e1 hS hA hf hL hF
    obtain ⟨t2, a1, b1⟩ := kk u t T'.heap (locs ++ L) e1.symm (by rw [← e2]; exact X'.warmed.alike) hp hb k1 k2 k3 T' rfl X'
    exact ⟨t2, st t2 a1, b1⟩
  · obtain ⟨k1, k2, k3⟩ := vx_keep h0 e1 hS hAX hf hL hF
    obtain ⟨t2, a1, b1⟩ := kx E ce q u t T'.heap (locs ++ L) e1.symm (by rw [← e2]; exact X'.warmed.alike) hp hb k1 k2 k3 (by rw [e1]; exact hce) hcv hcl T' rfl X'
    exact ⟨t2, st.trans a1, b1⟩
/-- caught by the row x of this method's table; the rows ahead don't take it -/
theorem vx_catch {own name : String} {E : String} {ce : Cell} {q : Addr} (hown : s.vm.findClass own = some m.cls) (pre : List ExceptionTableEntry) (x : ExceptionTableEntry) (suf : List ExceptionTableEntry) (hsplit : c.exceptionTable.toList = pre ++ x :: suf)
    (hpass : ∀ z ∈ pre, covers z pc = false ∨ (z.catchType ≠ 0 ∧ ∃ nm : String, (Cond.classLink own z.catchType nm).before args s = true ∧ va_Nc E nm s)) (hx : covers x pc = true) (h0 : x.catchType ≠ 0)
    (hlink : (Cond.classLink own x.catchType name).before args s = true) (hcast : (Cond.castable E name).before args s = true) (hcell : H[q]? = some ce) (hv : ce.vm = .none) (hcl : s.vm.findClass E = some ce.cls)
    (kk : W p l e R s m args below meth c H locs cells slots Q (F0 m x.handlerPc ls [.ref q])) : vx_W p l e R s m args below meth c H locs cells slots Q (F0 m pc ls rest) q := by
  intro T hT X
  have hpl : e.platform.magicAccessors = ({} : Platform).magicAccessors := by rw [X.admits.platform]
  obtain ⟨c3, c4, hc3, hc4, hasg⟩ := Cond.castable_spec hcast
  cases Option.some.inj (hc3.symm.trans hcl)
  obtain ⟨c5, hc5, hcl5⟩ := Cond.classLink_spec hown hlink e.platform hpl
  cases Option.some.inj (hc4.symm.trans hc5)
  obtain ⟨vm', X', st⟩ := X.thenCaughtThrough q (g := F0 m pc ls rest) rfl (Steps.refl _) (by rw [hT]; exact hcell) (by rw [hv]; rfl) (by obtain ⟨k9, h9, -⟩ := Vm.findClass_spec hcl; exact ⟨k9, h9⟩) pre x suf hsplit
    (fun z hz => by
      rcases hpass z hz with h | ⟨hz0, nm, hl1, hn1⟩
      · exact Or.inl h
      · obtain ⟨c6, hc6, hcl6⟩ := Cond.classLink_spec hown hl1 e.platform hpl
        obtain ⟨a8, b8, h1, h2, h3⟩ := hn1
        cases Option.some.inj (h1.symm.trans hcl)
        cases Option.some.inj (h2.symm.trans hc6)
        exact Or.inr ⟨hz0, _, hcl6, h3⟩) hx (Or.inr ⟨h0, c4, hcl5, hasg⟩)
  obtain ⟨t, a1, b1⟩ := kk (T.setVm vm') hT X'
  exact ⟨t, st.trans a1, b1⟩
end Rows
section Ends
variable {p : Program} {l : Launch} {e : Env} {R : Room} {s : State} {m : MethodId} {args : Array Value} {below : List Frame} {meth : Method} {c : Code} {H : Heap} {locs : List Loc} {cells slots : Nat} {Q : State → Prop}
variable {mc ms : Nat} {free : Addr → Prop} {A0 A1 : Nat → Prop} {H0 : Heap} {a : Array Value} {ls : Array Slot} {st0 rest : List Value}
variable {Qc : Array Value → State → Outcome → State → Prop} {XC : String → State → State → Prop}
/-- what a body that may throw owes at its end -/
def vx_MQ (below : List Frame) (Qc : Array Value → State → Outcome → State → Prop) (XC : String → State → State → Prop) (a : Array Value) (s : State) (mc ms : Nat) (free : Addr → Prop) : State → Prop := fun t =>
  ∃ o, t.status = .running ∧ Ended t below o ∧ vx_Q Qc XC mc ms free a s o t
theorem vx_ret {g : JFrame} {mc ms : Nat} (k : W p l e R s m args below meth c H locs cells slots (MQ below Qc args s mc ms free) g) : W p l e R s m args below meth c H locs cells slots (vx_MQ below Qc XC args s mc ms free) g := by
  intro T hT X
  obtain ⟨t, a1, o, b1, b2, b3, b4⟩ := k T hT X
  exact ⟨t, a1, o, b1, b2, Or.inl ⟨b3, b4⟩⟩
/-- not caught here: it goes on to the caller -/
theorem vx_widen {g : JFrame} {q : Addr} {k n : Nat} (h1 : cells ≤ k) (h2 : slots ≤ n) (kk : vx_W p l e R s m args below meth c H locs k n Q g q) : vx_W p l e R s m args below meth c H locs cells slots Q g q := fun T hT X => kk T hT (stand_widen X h1 h2)
theorem vx_out {pc : Nat} {E : String} {ce : Cell} {q : Addr} {mc ms : Nat} (hout : ∀ x ∈ c.exceptionTable.toList, covers x pc = false) (hlocks : meth.locks = false) (hcell : H[q]? = some ce) (hv : ce.vm = .none) (hcl : s.vm.findClass E = some ce.cls)
    (hx : ∀ t : State, t.heap = H → s.vm.Alike t.vm → XC E s t) (hf : ∀ z ∈ locs, free z.base) (hc : cells ≤ mc) (hs : slots ≤ ms) :
    vx_W p l e R s m args below meth c H locs cells slots (vx_MQ below Qc XC args s mc ms free) (F0 m pc ls rest) q := by
  intro T hT X
  obtain ⟨st1, hrun, hend, hW, hsm⟩ := X.leaveThrown q (g := F0 m pc ls rest) rfl rfl rfl hout hlocks
  have hcell9 : (T.setFrames (.throwing q :: below)).heap[q]? = some ce := by
    show T.heap[q]? = some ce
    rw [hT]; exact hcell
  exact ⟨_, st1, .threw q, hrun, hend, Or.inr ⟨q, rfl, E, ce, locs, hx _ hT hW.alike, hcell9, hv, hcl, hW, hsm.mono hc hs, hf⟩⟩
theorem vx_frame {U : State} {k n : Nat} (h : s.sameButNew ({ U with vm := s.vm } : State) locs k n) : s.heap.size ≤ U.heap.size ∧ ∀ q : Nat, q < s.heap.size → (∀ z ∈ locs, z.base ≠ q) → U.heap[q]? = s.heap[q]? := by
  obtain ⟨-, h2, -, -, -, h6⟩ := h
  refine ⟨h2, fun q hq hz => ?_⟩
  obtain ⟨c9, e1, e2, e3, e4⟩ := h6 q _ (Array.getElem?_eq_getElem hq)
  have hs : c9.slots = (s.heap[q]).slots := Array.ext_getElem? fun i => e4 i fun hm => hz _ hm rfl
  have h9 : c9 = s.heap[q] := by
    rw [hs] at e2
    exact e2
  have e5 : U.heap[q]? = some c9 := e1
  rw [e5, h9, Array.getElem?_eq_getElem hq]
/-- the words of a throw but the four that speak of the heap -/
def vx_no (w : Cond) : Bool := decide (w ≠ .isRef (.static Bundle.tN "UNASSIGNED_STACK" Bundle.steD)) && decide (w ≠ .isRef (.static Bundle.tN "SUPPRESSED_SENTINEL" Bundle.listD)) && decide (w ≠ .laysStatic Bundle.tN "UNASSIGNED_STACK" Bundle.steD) && decide (w ≠ .laysStatic Bundle.tN "SUPPRESSED_SENTINEL" Bundle.listD)
def vx_at0 (own : String) (ic : Nat) (X : String) (names : List String) : List Cond := (Bundle.ownAtoms0 own ic X names).filter vx_no
def vx_atS (own : String) (ic : Nat) (X : String) (names : List String) : List Cond := (Bundle.ownAtoms own ic X names).filter vx_no
/-- a word that the tables alone decide, or a good one -/
def vx_ot (w : Cond) : Bool := w.onTables || goodWord w
theorem vx_ot_at {args a' : Array Value} {s U : State} {w : Cond} (hW : s.WarmedH U.vm) (hvm : s.vm = U.vm) (hg : vx_ot w = true) (h : w.before args s = true) : w.before a' U = true := by
  simp only [vx_ot, Bool.or_eq_true] at hg
  rcases hg with hg | hg
  · exact va_tabs hg hvm h
  · exact word_at hW (good_of_word hg) h
/-- a list's words: the good ones out of the method's own list, the others by premises of their own -/
theorem vx_hat {args : Array Value} {s : State} {L B : List Cond} (h1 : ∀ w ∈ L.filter goodWord, w.before args s = true) (h2 : ∀ w ∈ L.filter (fun w => !goodWord w), w ∈ B) (h3 : ∀ w ∈ B, w.before args s = true) : ∀ w ∈ L, w.before args s = true := by
  intro w hw
  by_cases g : goodWord w = true
  · exact h1 w (List.mem_filter.mpr ⟨hw, g⟩)
  · refine h3 w (h2 w (List.mem_filter.mpr ⟨hw, ?_⟩))
    show (!goodWord w) = true
    cases hgw : goodWord w
    · rfl
    · exact absurd hgw g
theorem vx_c {args : Array Value} {s : State} {w : Cond} {B : List Cond} (h : w.before args s = true) (t : ∀ w ∈ B, w.before args s = true) : ∀ w' ∈ w :: B, w'.before args s = true := fun w' h' => (List.mem_cons.mp h').elim (fun e => by rw [e]; exact h) (t w')
theorem vx_n {args : Array Value} {s : State} : ∀ w ∈ ([] : List Cond), w.before args s = true := fun _ h => nomatch h
theorem vx_own {args : Array Value} {s : State} {L : List Cond} (h1 : ∀ w ∈ L.filter vx_no, w.before args s = true)
    (hU : (Cond.isRef (.static Bundle.tN "UNASSIGNED_STACK" Bundle.steD)).before args s = true) (hN : (Cond.isRef (.static Bundle.tN "SUPPRESSED_SENTINEL" Bundle.listD)).before args s = true)
    (lU : (Cond.laysStatic Bundle.tN "UNASSIGNED_STACK" Bundle.steD).before args s = true) (lN : (Cond.laysStatic Bundle.tN "SUPPRESSED_SENTINEL" Bundle.listD).before args s = true) : ∀ w ∈ L, w.before args s = true := by
  intro w hw
  by_cases e1 : w = .isRef (.static Bundle.tN "UNASSIGNED_STACK" Bundle.steD)
  · rw [e1]; exact hU
  · by_cases e2 : w = .isRef (.static Bundle.tN "SUPPRESSED_SENTINEL" Bundle.listD)
    · rw [e2]; exact hN
    · by_cases e3 : w = .laysStatic Bundle.tN "UNASSIGNED_STACK" Bundle.steD
      · rw [e3]; exact lU
      · by_cases e4 : w = .laysStatic Bundle.tN "SUPPRESSED_SENTINEL" Bundle.listD
        · rw [e4]; exact lN
        · exact h1 w (List.mem_filter.mpr ⟨hw, by unfold vx_no; rw [decide_eq_true e1, decide_eq_true e2, decide_eq_true e3, decide_eq_true e4]; rfl⟩)
/-- where a static field lies, its class's statics cell in H -/
def vx_L (C n d : String) (A : Nat → Prop) (U : State) (H : Heap) : Prop := ∃ (c : ClassId) (k : Class) (i : Nat) (f : Field) (a : Nat) (cell : Cell), U.vm.findClass C = some c ∧ U.fieldFound? C n d = some (c, k, i, f) ∧ f.isStatic = true ∧ k.statics = some a ∧ H[a]? = some cell ∧ cell.vm.isStatics = true ∧ cell.cls = c ∧ f.slot < cell.slots.size ∧ k.staticTypes[f.slot]? = some f.type ∧ ¬ A a
theorem vx_L.moved {C n d : String} {A : Nat → Prop} {u U : State} {H : Heap} (hvm : u.vm.Alike U.vm) (h : vx_L C n d A u H) : vx_L C n d A U H := by
  obtain ⟨c, k, i, f, a, cell, h1, h2, h3, h4, h5, h6, h7, h8, h9, h10⟩ := h
  obtain ⟨k', hi', he⟩ := State.fieldFound?_setVm hvm h2
  exact ⟨c, k', i, f, a, cell, by rw [hvm.findClass]; exact h1, hi', h3, by rw [he]; exact h4, h5, h6, h7, h8, by rw [he]; exact h9, h10⟩
theorem vx_L.kept {C n d : String} {A : Nat → Prop} {U : State} {H H1 : Heap} (h : vx_L C n d A U H) (hq : ∀ a : Nat, a < H.size → ¬ A a → H1[a]? = H[a]?) : vx_L C n d A U H1 := by
  obtain ⟨c, k, i, f, a, cell, h1, h2, h3, h4, h5, h6, h7, h8, h9, h10⟩ := h
  exact ⟨c, k, i, f, a, cell, h1, h2, h3, h4, by rw [hq a (Array.getElem?_eq_some_iff.mp h5).1 h10]; exact h5, h6, h7, h8, h9, h10⟩
theorem vx_L.narrow {C n d : String} {A B : Nat → Prop} {U : State} {H : Heap} (h : vx_L C n d A U H) (hAB : ∀ q, B q → A q) : vx_L C n d B U H := by
  obtain ⟨c, k, i, f, a, cell, h1, h2, h3, h4, h5, h6, h7, h8, h9, h10⟩ := h
  exact ⟨c, k, i, f, a, cell, h1, h2, h3, h4, h5, h6, h7, h8, h9, fun z => h10 (hAB _ z)⟩
theorem vx_L.word {C n d : String} {A : Nat → Prop} {s : State} {args : Array Value} (h : vx_L C n d A s s.heap) : (Cond.laysStatic C n d).before args s = true := by
  obtain ⟨c, k, i, f, a, cell, h1, h2, h3, h4, h5, h6, h7, h8, h9, -⟩ := h
  show (Cond.laysStatic C n d).holds args s none s [] = true
  exact Cond.laysStatic_of h1 h2 h3 h4 h5 h6 h7 h8 h9
/-- .. and what it holds: null or some reference -/
def vx_Zq (C n d : String) (A : Nat → Prop) (U : State) (H : Heap) : Prop := va_Zq C n d A U H ∧ vx_L C n d A U H
theorem vx_Zq.moved {C n d : String} {A : Nat → Prop} {u U : State} {H : Heap} (hvm : u.vm.Alike U.vm) (h : vx_Zq C n d A u H) : vx_Zq C n d A U H := ⟨va_Zq.moved hvm h.1, vx_L.moved hvm h.2⟩
theorem vx_Zq.kept {C n d : String} {A : Nat → Prop} {U : State} {H H1 : Heap} (h : vx_Zq C n d A U H) (hq : ∀ a : Nat, a < H.size → ¬ A a → H1[a]? = H[a]?) : vx_Zq C n d A U H1 := ⟨va_Zq.kept h.1 hq, vx_L.kept h.2 hq⟩
theorem vx_Zq.narrow {C n d : String} {A B : Nat → Prop} {U : State} {H : Heap} (h : vx_Zq C n d A U H) (hAB : ∀ q, B q → A q) : vx_Zq C n d B U H := ⟨va_Zq.narrow h.1 hAB, vx_L.narrow h.2 hAB⟩
theorem vx_Zqof {args : Array Value} {s : State} {C n d : String} {A : Nat → Prop} (hl : (Cond.laysStatic C n d).before args s = true) (hini : (Cond.initialized C).before args s = true) (h : (Cond.isRef (.static C n d)).before args s = true) (hA : ∀ a : Nat, a < s.heap.size → ¬ A a) : vx_Zq C n d A s s.heap := by
  refine ⟨va_Zqof hl hini h hA, ?_⟩
  obtain ⟨c, k, i, f, a, cell, h1, h2, h3, h4, h5, h6, h7, h8, h9⟩ := Cond.laysStatic_spec hl
  exact ⟨c, k, i, f, a, cell, h1, h2, h3, h4, h5, h6, h7, h8, h9, hA a (Array.getElem?_eq_some_iff.mp h5).1⟩
theorem vx_isRef {C n d : String} {v : Value} {A : Nat → Prop} {s : State} {args : Array Value} (h : va_Z C n d v A s s.heap) (hv : v.isRef = true) : (Cond.isRef (.static C n d)).before args s = true := by
  obtain ⟨cf, kf, fi, f, a, cell, h1, h2, h3, h4, h5, h6, h7, -⟩ := h
  have he : (Term.static C n d).eval args s none [] s = some v := by
    simp [Term.eval, State.fieldNamed?, h1, h2, h4, h5, h6, h7]
  simp only [Cond.before, Cond.holds, Cond.value, he]
  cases v <;> simp_all [Value.isRef]
theorem vx_isRefq {C n d : String} {A : Nat → Prop} {s : State} {args : Array Value} (h : va_Zq C n d A s s.heap) : (Cond.isRef (.static C n d)).before args s = true := by
  rcases h with h | ⟨t, h⟩
  · exact vx_isRef h rfl
  · exact vx_isRef h rfl
/-- the same frame, seen from here: as if the method were called anew in this heap -/
theorem vx_rebase {T : State} (X : Stand p l e R s m args below meth c T locs cells slots) {R' : Room} (hf : R'.frames ≤ R.frames) (hl : R'.locals ≤ R.locals) (hc : cells + R'.cells ≤ R.cells) (hs : slots + R'.slots ≤ R.slots) :
    Stand p l e R' ((T.setVm s.vm).setFrames (.invoking m args :: below)) m args below meth c T [] 0 0 := by
  have htop : (T.setVm s.vm).topJava?.isSome := X.here.top
  have hF : ((T.setVm s.vm).setFrames (.invoking m args :: below)).frames = .invoking m args :: below := State.frames_setFrames _ (State.cur_lt_of_top htop)
  obtain ⟨g₀, hg0⟩ := Option.isSome_iff_exists.mp htop
  obtain ⟨r, hr⟩ := State.topJava?_eq_some.mp hg0
  have hl9 : e.platform.stackLimits (T.setVm s.vm).me = e.platform.stackLimits s.me := X.limits
  have hb9 : (T.setVm s.vm).me.stackBytes = s.me.stackBytes := X.bytes
  refine ⟨X.admits, X.cas, X.clock, hF, ?_, X.hears, X.method, X.code, X.here, X.tail, X.warmed, ?_, ?_, ?_⟩
  · have h := X.room
    have hU : ((T.setVm s.vm).setFrames (.invoking m args :: below)).localsInUse = s.localsInUse := by
      rw [State.localsInUse_invoking hF (meth := meth) (c := c) X.method X.code, State.localsInUse_invoking X.frames X.method X.code]
    simp only [State.hasRoom, Bool.and_eq_true, decide_eq_true_eq] at h ⊢
    obtain ⟨⟨⟨⟨h1, h2, h3, h4, h5, h6⟩, h7⟩, h8⟩, h9⟩ := h
    rw [X.frames, List.length_cons] at h2 h3
    have q1 := X.heapSize
    have q2 := X.used
    simp only [hF, hU, List.length_cons, State.stackLimits_setFrames, State.stackBytes_setFrames, hl9, hb9]
    refine ⟨⟨⟨⟨by omega, by omega, by omega, by omega, by omega, h6⟩, ?_⟩, ?_⟩, X.book⟩
    · show T.heap.size + R'.cells ≤ e.platform.maxCells
      omega
    · show T.slotsUsed + R'.slots ≤ e.platform.maxSlots
      omega
  · rw [State.stackLimits_setFrames]; rfl
  · rw [State.stackBytes_setFrames]; rfl
  · refine ⟨?_, Nat.le_refl _, Nat.le_refl _, ?_, ?_, fun a c9 h9 => ⟨c9, h9, rfl, rfl, fun _ _ => rfl⟩⟩
    · obtain ⟨t, ht, -⟩ := State.frames_cons hr
      show T.setVm s.vm = { ((T.setVm s.vm).setFrames (.invoking m args :: below)).setFrames (T.setVm s.vm).frames with heap := T.heap, slotsUsed := T.slotsUsed }
      rw [State.setFrames_setFrames, State.setFrames_self ht]
      rfl
    · show T.slotsUsed = T.slotsUsed + ((T.heap.toList.drop T.heap.size).map (·.slots.size)).sum
      rw [List.drop_eq_nil_of_le (Nat.le_of_eq Array.length_toList)]
      rfl
    · show ((T.heap.toList.drop T.heap.size).map (·.slots.size)).sum ≤ 0
      rw [List.drop_eq_nil_of_le (Nat.le_of_eq Array.length_toList)]
      exact Nat.le_refl _
/-- 'throw new E()': new; dup; invokespecial; athrow -/
theorem vx_throw0 {cc : ByteArray} {pc : Nat} (hexec : p.tables.exec = Jvm.exec) (hb : c.code = cc) (hl : l.stackTraces = false) {own cls : String} {names : List String} {ik ic mc ms : Nat} {A : Nat → Prop}
    (hown : s.vm.findClass own = some m.cls) (hcls : Bundle.fit cls = true) (hnames : ∀ n ∈ names, Bundle.fit n = true)
    (hk : (Cond.classLink own ik cls).before args s = true) (hini : (Cond.initialized cls).before args s = true) (hat : ∀ w ∈ vx_at0 own ic cls names, w.before args s = true)
    (hgood : ∀ w ∈ Cond.classLink own ik cls :: Cond.initialized cls :: vx_at0 own ic cls names, vx_ot w = true)
    (hU : vx_Zq Bundle.tN "UNASSIGNED_STACK" Bundle.steD A s s.heap) (hN : vx_Zq Bundle.tN "SUPPRESSED_SENTINEL" Bundle.listD A s s.heap) (hS : va_S A s.heap H locs) (hsize : ls.size = c.maxLocals)
    (d0 : decode cc pc = .ok (.new ik, 3)) (d3 : decode cc (pc + 3) = .ok (.dup, 1)) (d4 : decode cc (pc + 4) = .ok (.invokespecial ic, 3)) (d7 : decode cc (pc + 7) = .ok (.athrow, 1))
    (hout : ∀ x ∈ c.exceptionTable.toList, covers x (pc + 7) = false)
    (hRframes : names.length + 3 < R.frames) (hRlocals : (rest.map fun v => v.category).sum + (13 * (names.length + 1) + 42) ≤ R.locals) (hRcells : cells + 1 ≤ R.cells) (hRslots : slots + 6 ≤ R.slots) (hlocks : meth.locks = false)
    (hx : ∀ t : State, s.vm.Alike t.vm → H.size ≤ t.heap.size → (∀ q : Nat, q < H.size → t.heap[q]? = H[q]?) → XC cls s t)
    (hf : ∀ z ∈ locs, free z.base) (hc : cells + 1 ≤ mc) (hs : slots + 6 ≤ ms) :
    W p l e R s m args below meth c H locs cells slots (vx_MQ below Qc XC args s mc ms free) (F0 m pc ls rest) := by
  intro T hT X
  have htr : e.platform.stackTraces = false := (show e.platform.stackTraces = l.stackTraces by rw [X.admits.platform]).trans hl
  have Y := vx_rebase X (R' := { frames := R.frames, locals := R.locals, cells := 1, slots := 6 }) (Nat.le_refl _) (Nat.le_refl _) hRcells hRslots
  obtain ⟨s', hA⟩ : ∃ z, z = (T.setVm s.vm).setFrames (.invoking m args :: below) := ⟨_, rfl⟩
  rw [← hA] at Y
  have hvm : s'.vm = s.vm := by rw [hA]; rfl
  have hhp : s'.heap = H := by rw [hA]; exact hT
  have hW0 : s.WarmedH s'.vm := by rw [hvm]; exact State.WarmedH.refl s
  have hat' : ∀ w ∈ vx_at0 own ic cls names, w.before args s' = true := fun w hw => vx_ot_at hW0 hvm.symm (hgood w (List.mem_cons_of_mem _ (List.mem_cons_of_mem _ hw))) (hat w hw)
  have hk' : (Cond.classLink own ik cls).before args s' = true := vx_ot_at hW0 hvm.symm (hgood _ List.mem_cons_self) hk
  have hini' : (Cond.initialized cls).before args s' = true := vx_ot_at hW0 hvm.symm (hgood _ (List.mem_cons_of_mem _ List.mem_cons_self)) hini
  have hU' : vx_Zq Bundle.tN "UNASSIGNED_STACK" Bundle.steD A s' s'.heap := by rw [hhp]; exact vx_Zq.moved hW0.alike (hU.kept hS.2.1)
  have hN' : vx_Zq Bundle.tN "SUPPRESSED_SENTINEL" Bundle.listD A s' s'.heap := by rw [hhp]; exact vx_Zq.moved hW0.alike (hN.kept hS.2.1)
  have h : ∀ w ∈ Bundle.ownAtoms0 own ic cls names, w.before args s' = true := vx_own hat' (vx_isRefq hU'.1) (vx_isRefq hN'.1) hU'.2.word hN'.2.word
  have hown' : s'.vm.findClass own = some m.cls := by rw [hvm]; exact hown
  have hins : (Cond.instantiable cls 6).before args s' = true := h _ (by simp [Bundle.ownAtoms0])
  obtain ⟨vm₁, cX, kX, hfX, hkX, -, -, X₁, st1⟩ := Y.newCold hexec (own := own) (C := cls) (index := ik) (n := 6) hown' hk' hins hini'
    (g := F0 m pc ls rest) rfl (by rw [hb]; exact d0) (Nat.le_refl _) (Nat.le_refl _)
  generalize hT1 : (T.setVm vm₁).pushCell { cls := cX, slots := kX.instanceTypes.map defaultValue, vm := .none } = T1 at X₁ st1
  have hcat : (Value.ref T.heap.size).category = 1 := rfl
  have hcellA : T1.heap[T.heap.size]? = some (freshCell cX kX) := by rw [← hT1]; exact State.heap_pushCell_size _ _
  have d3' : decode c.code (pc + 3) = .ok (.dup, 1) := by rw [hb]; exact d3
  obtain ⟨U, hsteps, hrun, hend, hW, hsame, ce, hce, hO⟩ := X₁.ctorThrow0 hexec htr (own := own) (cls := cls) (names := names) (ic := ic) hown' hcls hnames h (fun x hx => nomatch hx) hfX hkX hcellA (by rw [hhp, hT]; exact Nat.le_refl _)
    (g := { method := m, pc := pc + 4, locals := ls, stack := .ref T.heap.size :: .ref T.heap.size :: rest, locked := none }) rfl hsize rfl rfl (rest := rest) rfl
    (by rw [hb]; exact d4) (by rw [hb]; exact d7) hout hRframes (by simp only [List.map_cons, List.sum_cons, hcat]; omega) hlocks
  obtain ⟨f1, f2⟩ := vx_frame hsame
  rw [hhp] at f1 f2
  have hWs : s.WarmedH U.vm := State.WarmedH.trans hW0 hW
  have hcl : s.vm.findClass cls = some ce.cls := by
    have h9 := hO.cls
    rw [hvm] at h9
    exact h9
  have hall : s.sameButNew ({ U with vm := s.vm } : State) locs mc ms := by
    subst hA
    obtain ⟨e1, e2⟩ := hsame
    rw [State.setFrames_setFrames] at e1
    have h2 : (T.setVm s.vm).sameButNew ({ U with vm := s.vm } : State) [] (0 + 1) (0 + 6) := ⟨e1, e2⟩
    have h3 := X.same.trans h2
    rw [List.append_nil] at h3
    exact h3.mono hc hs
  refine ⟨U, ?_, .threw T.heap.size, hrun, hend, Or.inr ⟨T.heap.size, rfl, cls, ce, locs, hx U hWs.alike f1 (fun q hq => f2 q hq (fun z hz => nomatch hz)), hce, hO.vm, hcl, hWs, hall, hf⟩⟩
  refine st1 _ ?_
  show Steps p.tables e below (T1.setTop { method := m, pc := pc + 3, locals := ls, stack := .ref T.heap.size :: rest, locked := none }) _
  jvm_step X₁.here [X₁.here.top, hexec, d3', Value.category]
  exact hsteps
/-- 'throw new E("text")': new; dup; ldc; invokespecial; athrow -/
theorem vx_throwS {cc : ByteArray} {pc : Nat} (hexec : p.tables.exec = Jvm.exec) (hb : c.code = cc) (hl : l.stackTraces = false) {own cls text : String} {names : List String} {ik is ic mc ms sa : Nat} {A : Nat → Prop}
    (hown : s.vm.findClass own = some m.cls) (hcls : Bundle.fit cls = true) (hnames : ∀ n ∈ names, Bundle.fit n = true)
    (hk : (Cond.classLink own ik cls).before args s = true) (hini : (Cond.initialized cls).before args s = true) (hstr : vk_R own is text sa s) (hat : ∀ w ∈ vx_atS own ic cls names, w.before args s = true)
    (hgood : ∀ w ∈ Cond.classLink own ik cls :: Cond.initialized cls :: vx_atS own ic cls names, vx_ot w = true)
    (hU : vx_Zq Bundle.tN "UNASSIGNED_STACK" Bundle.steD A s s.heap) (hN : vx_Zq Bundle.tN "SUPPRESSED_SENTINEL" Bundle.listD A s s.heap) (hS : va_S A s.heap H locs) (hsize : ls.size = c.maxLocals)
    (d0 : decode cc pc = .ok (.new ik, 3)) (d3 : decode cc (pc + 3) = .ok (.dup, 1)) (d4 : decode cc (pc + 4) = .ok (.ldc is, 2)) (d6 : decode cc (pc + 6) = .ok (.invokespecial ic, 3)) (d9 : decode cc (pc + 9) = .ok (.athrow, 1))
    (hout : ∀ x ∈ c.exceptionTable.toList, covers x (pc + 9) = false)
    (hRframes : names.length + 3 < R.frames) (hRlocals : (rest.map fun v => v.category).sum + (13 * (names.length + 1) + 43) ≤ R.locals) (hRcells : cells + 1 ≤ R.cells) (hRslots : slots + 6 ≤ R.slots) (hlocks : meth.locks = false)
    (hx : ∀ t : State, s.vm.Alike t.vm → H.size ≤ t.heap.size → (∀ q : Nat, q < H.size → t.heap[q]? = H[q]?) → XC cls s t)
    (hf : ∀ z ∈ locs, free z.base) (hc : cells + 1 ≤ mc) (hs : slots + 6 ≤ ms) :
    W p l e R s m args below meth c H locs cells slots (vx_MQ below Qc XC args s mc ms free) (F0 m pc ls rest) := by
  intro T hT X
  have htr : e.platform.stackTraces = false := (show e.platform.stackTraces = l.stackTraces by rw [X.admits.platform]).trans hl
  have Y := vx_rebase X (R' := { frames := R.frames, locals := R.locals, cells := 1, slots := 6 }) (Nat.le_refl _) (Nat.le_refl _) hRcells hRslots
  obtain ⟨s', hA⟩ : ∃ z, z = (T.setVm s.vm).setFrames (.invoking m args :: below) := ⟨_, rfl⟩
  rw [← hA] at Y
  have hvm : s'.vm = s.vm := by rw [hA]; rfl
  have hhp : s'.heap = H := by rw [hA]; exact hT
  have hW0 : s.WarmedH s'.vm := by rw [hvm]; exact State.WarmedH.refl s
  have hat' : ∀ w ∈ vx_atS own ic cls names, w.before args s' = true := fun w hw => vx_ot_at hW0 hvm.symm (hgood w (List.mem_cons_of_mem _ (List.mem_cons_of_mem _ hw))) (hat w hw)
  have hk' : (Cond.classLink own ik cls).before args s' = true := vx_ot_at hW0 hvm.symm (hgood _ List.mem_cons_self) hk
  have hini' : (Cond.initialized cls).before args s' = true := vx_ot_at hW0 hvm.symm (hgood _ (List.mem_cons_of_mem _ List.mem_cons_self)) hini
  have hU' : vx_Zq Bundle.tN "UNASSIGNED_STACK" Bundle.steD A s' s'.heap := by rw [hhp]; exact vx_Zq.moved hW0.alike (hU.kept hS.2.1)
  have hN' : vx_Zq Bundle.tN "SUPPRESSED_SENTINEL" Bundle.listD A s' s'.heap := by rw [hhp]; exact vx_Zq.moved hW0.alike (hN.kept hS.2.1)
  have h : ∀ w ∈ Bundle.ownAtoms own ic cls names, w.before args s' = true := vx_own hat' (vx_isRefq hU'.1) (vx_isRefq hN'.1) hU'.2.word hN'.2.word
  have hown' : s'.vm.findClass own = some m.cls := by rw [hvm]; exact hown
  have hins : (Cond.instantiable cls 6).before args s' = true := h _ (by simp [Bundle.ownAtoms])
  obtain ⟨vm₁, cX, kX, hfX, hkX, -, -, X₁, st1⟩ := Y.newCold hexec (own := own) (C := cls) (index := ik) (n := 6) hown' hk' hins hini'
    (g := F0 m pc ls rest) rfl (by rw [hb]; exact d0) (Nat.le_refl _) (Nat.le_refl _)
  generalize hT1 : (T.setVm vm₁).pushCell { cls := cX, slots := kX.instanceTypes.map defaultValue, vm := .none } = T1 at X₁ st1
  have hcat : (Value.ref T.heap.size).category = 1 := rfl
  have hcellA : T1.heap[T.heap.size]? = some (freshCell cX kX) := by rw [← hT1]; exact State.heap_pushCell_size _ _
  have d3' : decode c.code (pc + 3) = .ok (.dup, 1) := by rw [hb]; exact d3
  have d4' : decode c.code (pc + 4) = .ok (.ldc is, 2) := by rw [hb]; exact d4
  have hstr' : vk_R own is text sa s' := vk_R.warm hW0 hstr
  obtain ⟨U, hsteps, hrun, hend, hW, hsame, ce, hce, hO⟩ := X₁.ctorThrowS hexec htr (own := own) (cls := cls) (names := names) (ic := ic) hown' hcls hnames h (fun x hx => nomatch hx) hfX hkX hcellA (by rw [hhp, hT]; exact Nat.le_refl _) (msg := .ref sa) rfl
    (g := { method := m, pc := pc + 6, locals := ls, stack := .ref sa :: .ref T.heap.size :: .ref T.heap.size :: rest, locked := none }) rfl hsize rfl rfl (rest := rest) rfl
    (by rw [hb]; exact d6) (by rw [hb]; exact d9) hout hRframes (by simp only [List.map_cons, List.sum_cons, hcat]; omega) hlocks
  obtain ⟨f1, f2⟩ := vx_frame hsame
  rw [hhp] at f1 f2
  have hWs : s.WarmedH U.vm := State.WarmedH.trans hW0 hW
  have hcl : s.vm.findClass cls = some ce.cls := by
    have h9 := hO.cls
    rw [hvm] at h9
    exact h9
  have hall : s.sameButNew ({ U with vm := s.vm } : State) locs mc ms := by
    subst hA
    obtain ⟨e1, e2⟩ := hsame
    rw [State.setFrames_setFrames] at e1
    have h2 : (T.setVm s.vm).sameButNew ({ U with vm := s.vm } : State) [] (0 + 1) (0 + 6) := ⟨e1, e2⟩
    have h3 := X.same.trans h2
    rw [List.append_nil] at h3
    exact h3.mono hc hs
  refine ⟨U, ?_, .threw T.heap.size, hrun, hend, Or.inr ⟨T.heap.size, rfl, cls, ce, locs, hx U hWs.alike f1 (fun q hq => f2 q hq (fun z hz => nomatch hz)), hce, hO.vm, hcl, hWs, hall, hf⟩⟩
  refine st1 _ ?_
  show Steps p.tables e below (T1.setTop { method := m, pc := pc + 3, locals := ls, stack := .ref T.heap.size :: rest, locked := none }) _
  jvm_step X₁.here [X₁.here.top, hexec, d3', Value.category]
  exact X₁.ldcString hexec (own := own) (text := text) (index := is) (a := sa) hown' hstr'.1 hstr'.2
    (g := { method := m, pc := pc + 4, locals := ls, stack := .ref T.heap.size :: .ref T.heap.size :: rest, locked := none }) rfl d4' _ hsteps
/-- 'throw new E("text")', the text by a wide index -/
theorem vx_throwSW {cc : ByteArray} {pc : Nat} (hexec : p.tables.exec = Jvm.exec) (hb : c.code = cc) (hl : l.stackTraces = false) {own cls text : String} {names : List String} {ik is ic mc ms sa : Nat} {A : Nat → Prop}
    (hown : s.vm.findClass own = some m.cls) (hcls : Bundle.fit cls = true) (hnames : ∀ n ∈ names, Bundle.fit n = true)
    (hk : (Cond.classLink own ik cls).before args s = true) (hini : (Cond.initialized cls).before args s = true) (hstr : vk_R own is text sa s) (hat : ∀ w ∈ vx_atS own ic cls names, w.before args s = true)
    (hgood : ∀ w ∈ Cond.classLink own ik cls :: Cond.initialized cls :: vx_atS own ic cls names, vx_ot w = true)
    (hU : vx_Zq Bundle.tN "UNASSIGNED_STACK" Bundle.steD A s s.heap) (hN : vx_Zq Bundle.tN "SUPPRESSED_SENTINEL" Bundle.listD A s s.heap) (hS : va_S A s.heap H locs) (hsize : ls.size = c.maxLocals)
    (d0 : decode cc pc = .ok (.new ik, 3)) (d3 : decode cc (pc + 3) = .ok (.dup, 1)) (d4 : decode cc (pc + 4) = .ok (.ldc_w is, 3)) (d7 : decode cc (pc + 7) = .ok (.invokespecial ic, 3)) (d10 : decode cc (pc + 10) = .ok (.athrow, 1))
    (hout : ∀ x ∈ c.exceptionTable.toList, covers x (pc + 10) = false)
    (hRframes : names.length + 3 < R.frames) (hRlocals : (rest.map fun v => v.category).sum + (13 * (names.length + 1) + 43) ≤ R.locals) (hRcells : cells + 1 ≤ R.cells) (hRslots : slots + 6 ≤ R.slots) (hlocks : meth.locks = false)
    (hx : ∀ t : State, s.vm.Alike t.vm → H.size ≤ t.heap.size → (∀ q : Nat, q < H.size → t.heap[q]? = H[q]?) → XC cls s t)
    (hf : ∀ z ∈ locs, free z.base) (hc : cells + 1 ≤ mc) (hs : slots + 6 ≤ ms) :
    W p l e R s m args below meth c H locs cells slots (vx_MQ below Qc XC args s mc ms free) (F0 m pc ls rest) := by
  intro T hT X
  have htr : e.platform.stackTraces = false := (show e.platform.stackTraces = l.stackTraces by rw [X.admits.platform]).trans hl
  have Y := vx_rebase X (R' := { frames := R.frames, locals := R.locals, cells := 1, slots := 6 }) (Nat.le_refl _) (Nat.le_refl _) hRcells hRslots
  obtain ⟨s', hA⟩ : ∃ z, z = (T.setVm s.vm).setFrames (.invoking m args :: below) := ⟨_, rfl⟩
  rw [← hA] at Y
  have hvm : s'.vm = s.vm := by rw [hA]; rfl
  have hhp : s'.heap = H := by rw [hA]; exact hT
  have hW0 : s.WarmedH s'.vm := by rw [hvm]; exact State.WarmedH.refl s
  have hat' : ∀ w ∈ vx_atS own ic cls names, w.before args s' = true := fun w hw => vx_ot_at hW0 hvm.symm (hgood w (List.mem_cons_of_mem _ (List.mem_cons_of_mem _ hw))) (hat w hw)
  have hk' : (Cond.classLink own ik cls).before args s' = true := vx_ot_at hW0 hvm.symm (hgood _ List.mem_cons_self) hk
  have hini' : (Cond.initialized cls).before args s' = true := vx_ot_at hW0 hvm.symm (hgood _ (List.mem_cons_of_mem _ List.mem_cons_self)) hini
  have hU' : vx_Zq Bundle.tN "UNASSIGNED_STACK" Bundle.steD A s' s'.heap := by rw [hhp]; exact vx_Zq.moved hW0.alike (hU.kept hS.2.1)
  have hN' : vx_Zq Bundle.tN "SUPPRESSED_SENTINEL" Bundle.listD A s' s'.heap := by rw [hhp]; exact vx_Zq.moved hW0.alike (hN.kept hS.2.1)
  have h : ∀ w ∈ Bundle.ownAtoms own ic cls names, w.before args s' = true := vx_own hat' (vx_isRefq hU'.1) (vx_isRefq hN'.1) hU'.2.word hN'.2.word
  have hown' : s'.vm.findClass own = some m.cls := by rw [hvm]; exact hown
  have hins : (Cond.instantiable cls 6).before args s' = true := h _ (by simp [Bundle.ownAtoms])
  obtain ⟨vm₁, cX, kX, hfX, hkX, -, -, X₁, st1⟩ := Y.newCold hexec (own := own) (C := cls) (index := ik) (n := 6) hown' hk' hins hini'
    (g := F0 m pc ls rest) rfl (by rw [hb]; exact d0) (Nat.le_refl _) (Nat.le_refl _)
  generalize hT1 : (T.setVm vm₁).pushCell { cls := cX, slots := kX.instanceTypes.map defaultValue, vm := .none } = T1 at X₁ st1
  have hcat : (Value.ref T.heap.size).category = 1 := rfl
  have hcellA : T1.heap[T.heap.size]? = some (freshCell cX kX) := by rw [← hT1]; exact State.heap_pushCell_size _ _
  have d3' : decode c.code (pc + 3) = .ok (.dup, 1) := by rw [hb]; exact d3
  have d4' : decode c.code (pc + 4) = .ok (.ldc_w is, 3) := by rw [hb]; exact d4
  have hstr' : vk_R own is text sa s' := vk_R.warm hW0 hstr
  obtain ⟨U, hsteps, hrun, hend, hW, hsame, ce, hce, hO⟩ := X₁.ctorThrowS hexec htr (own := own) (cls := cls) (names := names) (ic := ic) hown' hcls hnames h (fun x hx => nomatch hx) hfX hkX hcellA (by rw [hhp, hT]; exact Nat.le_refl _) (msg := .ref sa) rfl
    (g := { method := m, pc := pc + 7, locals := ls, stack := .ref sa :: .ref T.heap.size :: .ref T.heap.size :: rest, locked := none }) rfl hsize rfl rfl (rest := rest) rfl
    (by rw [hb]; exact d7) (by rw [hb]; exact d10) hout hRframes (by simp only [List.map_cons, List.sum_cons, hcat]; omega) hlocks
  obtain ⟨f1, f2⟩ := vx_frame hsame
  rw [hhp] at f1 f2
  have hWs : s.WarmedH U.vm := State.WarmedH.trans hW0 hW
  have hcl : s.vm.findClass cls = some ce.cls := by
    have h9 := hO.cls
    rw [hvm] at h9
    exact h9
  have hall : s.sameButNew ({ U with vm := s.vm } : State) locs mc ms := by
    subst hA
    obtain ⟨e1, e2⟩ := hsame
    rw [State.setFrames_setFrames] at e1
    have h2 : (T.setVm s.vm).sameButNew ({ U with vm := s.vm } : State) [] (0 + 1) (0 + 6) := ⟨e1, e2⟩
    have h3 := X.same.trans h2
    rw [List.append_nil] at h3
    exact h3.mono hc hs
  refine ⟨U, ?_, .threw T.heap.size, hrun, hend, Or.inr ⟨T.heap.size, rfl, cls, ce, locs, hx U hWs.alike f1 (fun q hq => f2 q hq (fun z hz => nomatch hz)), hce, hO.vm, hcl, hWs, hall, hf⟩⟩
  refine st1 _ ?_
  show Steps p.tables e below (T1.setTop { method := m, pc := pc + 3, locals := ls, stack := .ref T.heap.size :: rest, locked := none }) _
  jvm_step X₁.here [X₁.here.top, hexec, d3', Value.category]
  exact X₁.ldcStringW hexec (own := own) (text := text) (index := is) (a := sa) hown' hstr'.1 hstr'.2
    (g := { method := m, pc := pc + 4, locals := ls, stack := .ref T.heap.size :: .ref T.heap.size :: rest, locked := none }) rfl d4' _ hsteps
end Ends
section Bodies
variable {l : Launch}
theorem vx_ofW {y : MethodName} {ws ws' : List Cond} {rm : Room} {Pc : Array Value → State → Prop} {Qc : Array Value → State → Outcome → State → Prop} {XC : String → State → State → Prop} {mc ms : Nat} {free : Addr → Prop} {cc : ByteArray} {maxL : Nat} {ret : Option FieldType}
    (hy : plainName y.cls = true) (hw : ws = Cond.code y cc maxL ret :: ws')
    (body : ∀ p e s m args below meth c s₁, BodyLoose p l y (headSpec ws rm) cc maxL ret e s m args below meth c s₁ → c.maxLocals = maxL → (∀ x ∈ c.exceptionTable.toList, False) → Pc args s →
      W p l e (headSpec ws rm).room s m args below meth c s.heap [] 0 0 (vx_MQ below Qc XC args s mc ms free) (entryFrame m args maxL)) : vx_Met l y ws rm Pc Qc XC mc ms free := by
  refine MetFree.of_bodyS (code := cc) (maxLocals := maxL) (ret := ret) hy ?_ ?_
  · intro args s m h hn
    obtain ⟨meth, c, h1, h2, h3, h4, h5, h6, -, -⟩ := Cond.code_spec hn (atoms_spec (ws := ws) h _ (by rw [hw]; exact List.mem_cons_self))
    exact ⟨meth, c, h1, h2, h3, h4, h5, h6⟩
  · intro p e s m args below meth c s₁ B hml hP _
    have hh0 : s₁.heap = s.heap := by rw [B.state]; rfl
    have ht : ∀ x ∈ c.exceptionTable.toList, False := by
      obtain ⟨meth9, c9, h1, h2, -, -, -, -, h7, -⟩ := Cond.code_spec B.named (atoms_spec (ws := ws) B.pre _ (by rw [hw]; exact List.mem_cons_self))
      cases Option.some.inj (h1.symm.trans B.method)
      cases Option.some.inj (h2.symm.trans (Stand.of_body B).code)
      intro x hx
      rw [Array.isEmpty_iff.mp h7] at hx
      cases hx
    obtain ⟨t, a1, o, b1, b2, b3⟩ := body p e s m args below meth c s₁ B hml ht hP s₁ hh0 (Stand.of_body B)
    exact ⟨t, o, a1, b1, b2, b3⟩
/-- the table of a body with handlers -/
theorem vx_table {p : Program} {x y : MethodName} {S : Spec} {cc bytes : ByteArray} {maxL maxL' : Nat} {ret ret' : Option FieldType} {e : Env} {s s₁ : State} {m : MethodId} {args : Array Value} {below : List Frame} {meth : Method} {c : Code} {hh : List (Nat × Nat × Nat × Nat)}
    (B : BodyLoose p l y S cc maxL ret e s m args below meth c s₁) (h : (Cond.codeWith y bytes maxL' ret' hh).before args s = true) : c.exceptionTable.toList = tableOf hh := by
  obtain ⟨m9, meth9, c9, hn9, h1, h2, -, -, h6, -⟩ := Cond.codeWith_spec h
  cases Option.some.inj (hn9.symm.trans B.named)
  cases Option.some.inj (h1.symm.trans B.method)
  cases Option.some.inj (h2.symm.trans (Stand.of_body B).code)
  rw [← h6, table_eq]
end Bodies
end VXA
/-! ===== END ===== -/
/-! ===== BEGIN a static call of a method with an exception table ===== -/
section VXS
variable {p : Program} {l : Launch} {e : Env} {R : Room} {s : State} {m : MethodId} {args : Array Value} {below : List Frame} {meth : Method} {c : Code} {T : State} {H : Heap} {locs : List Loc} {cells slots : Nat}
abbrev vx_CSW (R : Room) (s : State) (args : Array Value) (own : String) (index : Nat) (y : MethodName) (bytes : ByteArray) (maxL : Nat) (ret : Option FieldType) (hh : List (Nat × Nat × Nat × Nat)) (ws : List Cond) (rm : Room) (mc ms n : Nat) : Prop :=
  (rm.cells = mc ∧ rm.slots = ms ∧ rm.frames + 1 ≤ R.frames ∧ 8 + (maxL + 11) + rm.locals ≤ R.locals ∧ (∀ w ∈ ws, ∀ (a' : Array Value) (U : State), s.WarmedH U.vm → w.before a' U = true) ∧ Cond.codeWith y bytes maxL ret hh ∈ ws) ∧
  (Cond.codeWith y bytes maxL ret hh).before args s = true ∧ (Cond.initialized y.cls).before args s = true ∧ (y.cls ≠ "java/lang/invoke/MethodHandle" ∧ y.cls ≠ "java/lang/invoke/VarHandle") ∧
  (∀ sig, parseMethodDescriptor y.desc = some sig → n = sig.parameters.length) ∧ (Cond.methodLink own index y).before args s = true ∧ (Cond.static y).before args s = true
theorem vx_cwSW {own : String} {index maxL mc ms : Nat} {y : MethodName} {bytes : ByteArray} {ret : Option FieldType} {hh : List (Nat × Nat × Nat × Nat)} {Ts ws ws' : List Cond} {rm : Room} (n : Nat) (ht : ∀ w ∈ Ts, w.before args s = true) (hT : GoodIn Ts (va_wsS own index y ws)) (hw : ws = Cond.codeWith y bytes maxL ret hh :: ws') (hrc : rm.cells = mc) (hrs : rm.slots = ms)
    (hd : y.cls ≠ "java/lang/invoke/MethodHandle" ∧ y.cls ≠ "java/lang/invoke/VarHandle" ∧ (parseMethodDescriptor y.desc).map (fun d => d.parameters.length) = some n) (hR : rm.frames + 1 ≤ R.frames ∧ 8 + (maxL + 11) + rm.locals ≤ R.locals) :
    vx_CSW R s args own index y bytes maxL ret hh ws rm mc ms n := by
  have ok : ∀ w ∈ va_wsS own index y ws, w.before args s = true := fun w h => ht w (hT w h).1
  have hG : GoodIn Ts ws := fun w h => hT w (by unfold va_wsS; exact List.mem_append_right _ h)
  have hc : Cond.codeWith y bytes maxL ret hh ∈ ws := by rw [hw]; exact List.mem_cons_self
  refine ⟨⟨hrc, hrs, hR.1, hR.2, pay_in ht hG, hc⟩, ht _ (hG _ hc).1, ok _ (by simp [va_wsS]), ⟨hd.1, hd.2.1⟩, fun sig h => ?_, ok _ (by simp [va_wsS]), ok _ (by simp [va_wsS])⟩
  have h2 := hd.2.2
  rw [h] at h2
  exact (Option.some.inj h2).symm
theorem vx_callSW (X : Stand p l e R s m args below meth c T locs cells slots) (hexec : p.tables.exec = Jvm.exec) {own : String} {index : Nat} {y : MethodName} {bytes : ByteArray} {maxL : Nat} {ret : Option FieldType} {hh : List (Nat × Nat × Nat × Nat)}
    (hown : s.vm.findClass own = some m.cls) (hlink : (Cond.methodLink own index y).before args s = true) (hstat : (Cond.static y).before args s = true) (hinit : (Cond.initialized y.cls).before args s = true)
    (hcode : (Cond.codeWith y bytes maxL ret hh).before args s = true) (hy : y.cls ≠ "java/lang/invoke/MethodHandle" ∧ y.cls ≠ "java/lang/invoke/VarHandle")
    {W9 : Nat} {Pre : Pt → Array Value → Prop} {Post : Pt → Array Value → Option Value → Pt → Prop} (hK : Back l R p e below s args y 3 W9 Pre Post)
    {g : JFrame} (hg : g.method = m) (hsize : g.locals.size = c.maxLocals) {argsL rest : List Value} (hlen : ∀ sig, parseMethodDescriptor y.desc = some sig → argsL.length = sig.parameters.length)
    (hstack : g.stack = argsL.reverse ++ rest) (hW : 2 * g.monitorRoom + (rest.map fun v => v.category).sum ≤ W9) (hdg : decode c.code g.pc = .ok (.invokestatic index, 3))
    (hpre : ∀ vm₁, s.WarmedH vm₁ → Pre ⟨T.setVm vm₁, locs, cells, slots⟩ argsL.toArray) :
    ∃ (v : Option Value) (vm₁ : Vm) (B : Pt), s.WarmedH vm₁ ∧ Stand p l e R s m args below meth c B.U B.locs B.cells B.slots ∧ Post ⟨T.setVm vm₁, locs, cells, slots⟩ argsL.toArray v B ∧
      ∀ target, Steps p.tables e below (B.U.setTop { g with pc := g.pc + 3, stack := v.toList ++ rest }) target → Steps p.tables e below (T.setTop g) target := by
  obtain ⟨mk, methM, cM, hnamed, hmethM, -, -, -, -, -, -, hsigM⟩ := Cond.codeWith_spec hcode
  have hstatic : methM.isStatic = true := Cond.static_spec hnamed hmethM hstat
  obtain ⟨kP, hkP, -⟩ := className_of_methodNamed hnamed
  have hinitP : kP.init = .initialized := Cond.initialized_spec (findClass_of_methodNamed hnamed) hkP hinit
  obtain ⟨vm₁, X₁, hstep₁⟩ := X.invokestatic hexec hown hlink hnamed hmethM hstatic hkP hinitP hy (g := g) hg (argsL := argsL) (rest := rest) (hlen _ hsigM) hstack hdg
  obtain ⟨v, B, X', hpost, hsteps⟩ := hK m meth c ⟨T.setVm vm₁, locs, cells, slots⟩ { g with stack := rest } (.invokestatic index) mk argsL.toArray X₁ hg hsize hdg hW (X₁.named hnamed) (hpre vm₁ X₁.warmed)
  exact ⟨v, vm₁, B, X₁.warmed, X', hpost, fun target h => hstep₁ _ fun acts => by rw [doInvoke_state]; exact hsteps.trans h⟩
theorem vx_runSW {y : MethodName} {bytes cc : ByteArray} {maxL nL mc ms n index : Nat} {ret : Option FieldType} {hh : List (Nat × Nat × Nat × Nat)} {ws : List Cond} {rm : Room} {Pc : Array Value → State → Prop} {Qc : Array Value → State → Outcome → State → Prop} {free : Addr → Prop} {Ts : List Cond} {own : String} {As rest : List Value} {g : JFrame}
    (S : CallFix p m c cc nL s args Ts own) (hM : Met l y ws rm Pc Qc mc ms free) (cw : vx_CSW R s args own index y bytes maxL ret hh ws rm mc ms n) (hp : PreS s H Pc As)
    (hg : g.method = m) (hn : As.length = n) (hsize : g.locals.size = nL) (hstack : g.stack = As.reverse ++ rest) (hW : 2 * g.monitorRoom + (rest.map fun v => v.category).sum ≤ 8) (hdg : decode cc g.pc = .ok (.invokestatic index, 3)) (hf : cells + mc ≤ R.cells ∧ slots + ms ≤ R.slots) :
    va_Run p l e R s m args below meth c H locs cells slots mc ms g rest (Qc As.toArray) (free) := by
  obtain ⟨⟨hrc, hrs, hfr, hlo, hws, hcw⟩, hcode, hini, hy, hlen, hl, hstt⟩ := cw
  have hK : Back l R p e below s args y 3 8 (PreOf R mc ms Pc) (PostOf Qc mc ms free) := va_backW (hh := hh) (bytes := bytes) (maxL := maxL) (ret := ret) hM hp.1 hrc hrs hfr hlo hws hcw (fun a' U hW => word_at hW (Or.inl (by first | rfl | simp [Cond.onTables, Cond.keeps, Cond.steady])) hini)
  obtain ⟨hx, hb, hml, ho, -⟩ := S
  intro T hT X
  obtain ⟨v, vm₁, ⟨U', l2, c2, s2⟩, hW₁, X', ⟨g', mk, t, L, e1, e2, hq, h1, hL, h2, h3⟩, st⟩ := vx_callSW X hx (hh := hh) (bytes := bytes) (maxL := maxL) (ret := ret) ho hl hstt hini hcode hy hK hg (hsize.trans hml.symm) (argsL := As) (rest := rest) (fun sig h => hn.trans (hlen sig h)) hstack hW (by rw [hb]; exact hdg)
    (fun vm₁ hW₁ => ⟨hf.1, hf.2, hp.2 (T.setVm vm₁) hT hW₁⟩)
  dsimp only [Pt.U, Pt.locs, Pt.cells, Pt.slots] at X' e1 e2 h1 h2 h3 st
  subst h1; subst h2; subst h3
  exact ⟨v, (T.setVm vm₁).calling g' mk As.toArray, t, U', L, hT, X', hL, e1, e2, hq, st⟩
/-- not caught here, past rows that name other classes: it goes on to the caller -/
theorem vx_outP {p : Program} {l : Launch} {e : Env} {R : Room} {s : State} {m : MethodId} {args : Array Value} {below : List Frame} {meth : Method} {c : Code} {H : Heap} {locs : List Loc} {cells slots : Nat} {free : Addr → Prop} {ls : Array Slot} {rest : List Value} {Qc : Array Value → State → Outcome → State → Prop} {XC : String → State → State → Prop}
    {pc : Nat} {own E : String} {ce : Cell} {q : Addr} {mc ms : Nat} (hown : s.vm.findClass own = some m.cls) (hlocks : meth.locks = false)
    (hpass : ∀ z ∈ c.exceptionTable.toList, covers z pc = false ∨ (z.catchType ≠ 0 ∧ ∃ nm : String, (Cond.classLink own z.catchType nm).before args s = true ∧ va_Nc E nm s)) (hcell : H[q]? = some ce) (hv : ce.vm = .none) (hcl : s.vm.findClass E = some ce.cls)
    (hx : ∀ t : State, t.heap = H → s.vm.Alike t.vm → XC E s t) (hf : ∀ z ∈ locs, free z.base) (hc : cells ≤ mc) (hs : slots ≤ ms) :
    vx_W p l e R s m args below meth c H locs cells slots (vx_MQ below Qc XC args s mc ms free) (F0 m pc ls rest) q := by
  intro T hT X
  have hpl : e.platform.magicAccessors = ({} : Platform).magicAccessors := by rw [X.admits.platform]
  obtain ⟨vm', hW', X', st⟩ := X.outThrough hlocks q (g := F0 m pc ls rest) rfl rfl rfl (cell := ce) (by rw [hT]; exact hcell) (by rw [hv]; rfl)
    (by obtain ⟨k9, h9, -⟩ := Vm.findClass_spec hcl; exact ⟨k9, h9⟩) (fun z hz => by
      rcases hpass z hz with h | ⟨hz0, nm, hl1, hn1⟩
      · exact Or.inl h
      · obtain ⟨c6, hc6, hcl6⟩ := Cond.classLink_spec hown hl1 e.platform hpl
        obtain ⟨a8, b8, h1, h2, h3⟩ := hn1
        cases Option.some.inj (h1.symm.trans hcl)
        cases Option.some.inj (h2.symm.trans hc6)
        exact Or.inr ⟨hz0, _, hcl6, h3⟩)
  obtain ⟨g₀, hfr⟩ := X'.frames_eq
  have hcell9 : ((T.setVm vm').setFrames (.throwing q :: below)).heap[q]? = some ce := by
    show T.heap[q]? = some ce
    rw [hT]; exact hcell
  have hend : Ended ((T.setVm vm').setFrames (.throwing q :: below)) below (.threw q) := State.frames_setFrames _ (State.cur_lt_of_frames hfr)
  refine ⟨(T.setVm vm').setFrames (.throwing q :: below), ?_, .threw q, X'.here.running, hend, Or.inr ⟨q, rfl, E, ce, locs, hx _ hT (X'.ends _).1.alike, hcell9, hv, hcl, (X'.ends _).1, (X'.ends _).2.mono hc hs, hf⟩⟩
  rw [X.pushThrowing_eq]
  exact st
/-- a thing of a world lies in the heap -/
theorem vx_lt {D : va_G} {cl : List vw_C} {ws : va_W} {H1 : Heap} (h : va_P D cl ws H1) {k : Nat} {q : Nat × va_E} (hk : ws[k]? = some q) : q.1 < H1.size := (h k q hk).lt
end VXS
/-! ===== END ===== -/
/-! ===== BEGIN methods with a table of their own: called by a name, returning or throwing ===== -/
section VXH
/-! vx_backW, vx_callVX, vx_callSX, vx_callVW, vx_runVW, vx_runVX, vx_runSX, vx_ofWH follow the same proofs as their sisters above (Free/Laws.lean, Shelf42/LK1.lean); vx_outP calls Shelf42/NT130.lean (outThrough). -/
section
variable {l : Launch} {R : Room} {p : Program} {e : Env} {below : List Frame} {s : State} {sargs : Array Value} {y : MethodName} {len W9 : Nat}
theorem vx_backW {ws : List Cond} {rm : Room} {Pc : Array Value → State → Prop} {Qc : Array Value → State → Outcome → State → Prop} {XC : String → State → State → Prop} {mc ms : Nat} {free : Addr → Prop} {bytes : ByteArray} {maxL : Nat} {ret : Option FieldType} {hh : List (Nat × Nat × Nat × Nat)}
    (hM : vx_Met l y ws rm Pc Qc XC mc ms free) (hblind : FrameBlind Pc) (hrc : rm.cells = mc) (hrs : rm.slots = ms)
    (hframes : rm.frames + 1 ≤ R.frames) (hlocals : W9 + (maxL + 11) + rm.locals ≤ R.locals)
    (hws : ∀ w ∈ ws, ∀ a' U, s.WarmedH U.vm → w.before a' U = true) (hcode : Cond.codeWith y bytes maxL ret hh ∈ ws) (hinit : ∀ a' U, s.WarmedH U.vm → (Cond.initialized y.cls).before a' U = true) :
    vx_Back l R p e below s sargs y len W9 (PreOf R mc ms Pc) (PostOf Qc mc ms free) (vx_Post XC mc ms free) := by
  intro m meth c A g ig mk a X hg hsize hdg hW hn hp
  have h1 : (headSpec ws rm).pre.before a A.U = true := atoms_intro fun w hw => hws w hw _ _ X.warmed
  have h2 : (Cond.codeWith y bytes maxL ret hh).before a A.U = true := hws _ hcode _ _ X.warmed
  have h3 : (Cond.initialized y.cls).before a A.U = true := hinit _ _ X.warmed
  have h4 : A.cells + (headSpec ws rm).room.cells ≤ R.cells := by rw [show (headSpec ws rm).room.cells = mc from hrc]; exact hp.1
  have h5 : A.slots + (headSpec ws rm).room.slots ≤ R.slots := by rw [show (headSpec ws rm).room.slots = ms from hrs]; exact hp.2.1
  have hPc : Pc a (A.U.calling g mk a) := hblind _ _ _ _ hp.2.2
  obtain ⟨U, Ls, c0, s0⟩ := A
  dsimp only [Pt.U, Pt.locs, Pt.cells, Pt.slots] at h1 h2 h3 h4 h5 X hn hPc ⊢
  obtain ⟨m9, methY, cY, hn9, hmY, hcY, -, hlY, -⟩ := Cond.codeWith_spec h2
  cases Option.some.inj (hn9.symm.trans hn)
  obtain ⟨kY, hkY, -⟩ := className_of_methodNamed hn
  have hinitY : kY.init = .initialized := Cond.initialized_spec (findClass_of_methodNamed hn) hkY h3
  have h : At U g.method c below := by rw [hg]; exact X.here
  have hlocals9 : W9 + (maxL + 11) + (headSpec ws rm).room.locals ≤ R.locals := hlocals
  have happ : (headSpec ws rm).appliesLoose y e.platform (U.calling g mk a) = true :=
    Spec.appliesLoose_calling (g := g) h hdg hn hkY hinitY
      (X.room_calling (g := g) (R' := (headSpec ws rm).room) hsize hmY hcY hframes (by rw [hlY]; omega) h4 h5) h1
  obtain ⟨mid, hmid⟩ := h.above
  have hfr : (U.setTop g).frames = (.java g :: mid) ++ below := by rw [State.frames_setTop' g h.top, hmid]; rfl
  obtain ⟨o, s₂, hsteps, -, hend, hq⟩ := Steps.callFree hM p X.admits X.cas X.clock (acts := []) hfr happ hPc trivial
  have hq' : vx_Q Qc XC mc ms free a (U.calling g mk a) o s₂ := hq
  rw [State.frames_setTop' g h.top] at hend
  obtain ⟨g₀, hg0⟩ := Option.isSome_iff_exists.mp h.top
  obtain ⟨r, hr⟩ := State.topJava?_eq_some.mp hg0
  have hr' : (({ U with heap := s₂.heap, slotsUsed := s₂.slotsUsed } : State).setVm s₂.vm).frames = .java g₀ :: r := hr
  rcases hq' with ⟨hqc, L, hfe, hL⟩ | ⟨q, rfl, E, ce, L, hx, hce, hcv, hcl, hW₂, hsm, hL⟩
  · obtain ⟨⟨v, rfl⟩, hW₂, e2, q2, q3, q4, q5, q6⟩ := id hfe
    have e3 : s₂ = ({ (U.calling g mk a).setFrames s₂.frames with heap := s₂.heap, slotsUsed := s₂.slotsUsed } : State).setVm s₂.vm := by
      have : s₂ = ({ s₂ with vm := (U.calling g mk a).vm } : State).setVm s₂.vm := rfl
      rw [e2] at this
      exact this
    obtain ⟨c₂, i₂, len₂, hc₂, hd₂, hf₂⟩ := hend
    have hW' : U.WarmedH s₂.vm := hW₂
    have hcc : c₂ = c := by
      have h1 : s₂.code? g.method = U.code? g.method := by
        rw [State.code?_eq, State.code?_eq, hW'.alike.method?]
      exact Option.some.inj (hc₂.symm.trans (h1.trans h.code))
    subst hcc
    have hlen : len₂ = len := by rw [hdg] at hd₂; cases hd₂; rfl
    subst hlen
    have hs₂ : s₂ = (({ U with heap := s₂.heap, slotsUsed := s₂.slotsUsed } : State).setVm s₂.vm).setTop { g with pc := g.pc + len₂, stack := v.toList ++ g.stack } := by
      refine e3.trans ?_
      rw [hf₂, State.calling_eq h.top, State.setFrames_setFrames, State.setTop_of_frames _ hr', hr]
      rfl
    have hsame : U.sameButNew ({ U with heap := s₂.heap, slotsUsed := s₂.slotsUsed } : State) L mc ms := by
      refine ⟨?_, q2, q3, q4, q5, q6⟩
      obtain ⟨t, ht, -⟩ := State.frames_cons hr
      show ({ U with heap := s₂.heap, slotsUsed := s₂.slotsUsed } : State) = { U.setFrames U.frames with heap := s₂.heap, slotsUsed := s₂.slotsUsed }
      rw [State.setFrames_self ht]
    subst hg
    refine Or.inl ⟨v, ⟨(({ U with heap := s₂.heap, slotsUsed := s₂.slotsUsed } : State).setVm s₂.vm), Ls ++ L, c0 + mc, s0 + ms⟩,
      ⟨X.admits, X.cas, X.clock, X.frames, X.room, X.hears, X.method, X.code, (X.here.setHeapUsed s₂.heap s₂.slotsUsed).setVm hW'.alike, X.tail, State.WarmedH.trans X.warmed hW', X.limits, X.bytes, X.same.trans (hsame.setVm s.vm)⟩,
      ⟨g, mk, s₂, L, rfl, rfl, hqc, rfl, hL, rfl, rfl⟩, ?_⟩
    show Steps p.tables e below _ ((({ U with heap := s₂.heap, slotsUsed := s₂.slotsUsed } : State).setVm s₂.vm).setTop { g with pc := g.pc + len₂, stack := v.toList ++ g.stack })
    rw [← hs₂]
    exact hsteps
  · obtain ⟨e2, q2, q3, q4, q5, q6⟩ := id hsm
    have e3 : s₂ = ({ (U.calling g mk a).setFrames s₂.frames with heap := s₂.heap, slotsUsed := s₂.slotsUsed } : State).setVm s₂.vm := by
      have : s₂ = ({ s₂ with vm := (U.calling g mk a).vm } : State).setVm s₂.vm := rfl
      rw [e2] at this
      exact this
    have hf₂ : s₂.frames = .throwing q :: .java g :: U.frames.tail := hend
    have hW' : U.WarmedH s₂.vm := hW₂
    have hs₂ : s₂ = ((({ U with heap := s₂.heap, slotsUsed := s₂.slotsUsed } : State).setVm s₂.vm).setTop g).pushFrame (.throwing q) := by
      refine e3.trans ?_
      rw [hf₂, State.calling_eq h.top, State.setFrames_setFrames, State.pushFrame, State.frames_setTop _ hr', State.setTop_of_frames _ hr', State.setFrames_setFrames, hr]
      rfl
    have hsame : U.sameButNew ({ U with heap := s₂.heap, slotsUsed := s₂.slotsUsed } : State) L mc ms := by
      refine ⟨?_, q2, q3, q4, q5, q6⟩
      obtain ⟨t, ht, -⟩ := State.frames_cons hr
      show ({ U with heap := s₂.heap, slotsUsed := s₂.slotsUsed } : State) = { U.setFrames U.frames with heap := s₂.heap, slotsUsed := s₂.slotsUsed }
      rw [State.setFrames_self ht]
    subst hg
    refine Or.inr ⟨q, ⟨(({ U with heap := s₂.heap, slotsUsed := s₂.slotsUsed } : State).setVm s₂.vm), Ls ++ L, c0 + mc, s0 + ms⟩,
      ⟨X.admits, X.cas, X.clock, X.frames, X.room, X.hears, X.method, X.code, (X.here.setHeapUsed s₂.heap s₂.slotsUsed).setVm hW'.alike, X.tail, State.WarmedH.trans X.warmed hW', X.limits, X.bytes, X.same.trans (hsame.setVm s.vm)⟩,
      ⟨g, mk, s₂, L, E, ce, rfl, rfl, hx, hce, hcv, hcl, rfl, hL, rfl, rfl⟩, ?_⟩
    show Steps p.tables e below _ (((({ U with heap := s₂.heap, slotsUsed := s₂.slotsUsed } : State).setVm s₂.vm).setTop g).pushFrame (.throwing q))
    rw [← hs₂]
    exact hsteps
end
variable {p : Program} {l : Launch} {e : Env} {R : Room} {s : State} {m : MethodId} {args : Array Value} {below : List Frame} {meth : Method} {c : Code} {T : State} {H : Heap} {locs : List Loc} {cells slots : Nat}
theorem vx_callVX (X : Stand p l e R s m args below meth c T locs cells slots) (hexec : p.tables.exec = Jvm.exec) {own C : String} {index : Nat} {y : MethodName} {bytes : ByteArray} {maxL : Nat} {ret : Option FieldType} {hh : List (Nat × Nat × Nat × Nat)}
    (hown : s.vm.findClass own = some m.cls) (hlink : (Cond.methodLink own index y).before args s = true) (hinst : (Cond.instanceMethod y).before args s = true) (hsel : (Cond.selects C y y).before args s = true)
    (hcode : (Cond.codeWith y bytes maxL ret hh).before args s = true) (hy : y.cls ≠ "java/lang/invoke/MethodHandle" ∧ y.cls ≠ "java/lang/invoke/VarHandle")
    {W9 : Nat} {Pre : Pt → Array Value → Prop} {Post : Pt → Array Value → Option Value → Pt → Prop} {PostX : Pt → Array Value → Addr → Pt → Prop} (hK : vx_Back l R p e below s args y 3 W9 Pre Post PostX)
    {b : Addr} {cellB : Cell} (hcell : T.heap[b]? = some cellB) (hobj : cellB.vm.isStatics = false) (hcls : s.vm.findClass C = some cellB.cls)
    {g : JFrame} (hg : g.method = m) (hsize : g.locals.size = c.maxLocals) {argsL rest : List Value} (hlen : ∀ sig, parseMethodDescriptor y.desc = some sig → argsL.length = sig.parameters.length)
    (hstack : g.stack = argsL.reverse ++ .ref b :: rest) (hW : 2 * g.monitorRoom + (rest.map fun v => v.category).sum ≤ W9) (hdg : decode c.code g.pc = .ok (.invokevirtual index, 3))
    (hpre : ∀ vm₁, s.WarmedH vm₁ → Pre ⟨T.setVm vm₁, locs, cells, slots⟩ (Value.ref b :: argsL).toArray) :
    (∃ (v : Option Value) (vm₁ : Vm) (B : Pt), s.WarmedH vm₁ ∧ Stand p l e R s m args below meth c B.U B.locs B.cells B.slots ∧ Post ⟨T.setVm vm₁, locs, cells, slots⟩ (Value.ref b :: argsL).toArray v B ∧
      ∀ target, Steps p.tables e below (B.U.setTop { g with pc := g.pc + 3, stack := v.toList ++ rest }) target → Steps p.tables e below (T.setTop g) target) ∨
    (∃ (q : Addr) (vm₁ : Vm) (B : Pt), s.WarmedH vm₁ ∧ Stand p l e R s m args below meth c B.U B.locs B.cells B.slots ∧ PostX ⟨T.setVm vm₁, locs, cells, slots⟩ (Value.ref b :: argsL).toArray q B ∧
      Steps p.tables e below (T.setTop g) ((B.U.setTop { g with stack := rest }).pushFrame (.throwing q))) := by
  obtain ⟨mk, methM, hnamed, hmethM, hstM, habM⟩ := Cond.instanceMethod_spec hinst
  obtain ⟨m8, methM', cM, hn8, hmethM', -, -, -, -, -, -, hsigM⟩ := Cond.codeWith_spec hcode
  cases Option.some.inj (hn8.symm.trans hnamed)
  cases hmethM.symm.trans hmethM'
  obtain ⟨c2, r2, m2, q1, q2, q3, q4, kP, hkP, hkPi⟩ := Cond.selects_spec hsel
  cases hcls.symm.trans q1
  cases (State.methodFound?_of_named hnamed hy).symm.trans q2
  cases hnamed.symm.trans q3
  have hselP : selectMethod e.platform s.vm cellB.cls mk = .method mk := by rw [Launch.admits_selectMethod X.admits]; exact q4
  obtain ⟨vm₁, X₁, hstep₁⟩ := X.invokevirtual hexec hown hlink hnamed hmethM hstM hkP hkPi hy (a := b) (cell := cellB) hcell
    (fun z h => by rw [h] at hobj; cases hobj) hselP hmethM habM hkP hkPi (g := g) hg (argsL := argsL) (rest := rest) (hlen _ hsigM) hstack hdg
  rcases hK m meth c ⟨T.setVm vm₁, locs, cells, slots⟩ { g with stack := rest } (.invokevirtual index) mk (Value.ref b :: argsL).toArray X₁ hg hsize hdg hW (X₁.named hnamed) (hpre vm₁ X₁.warmed) with ⟨v, B, X', hpost, hsteps⟩ | ⟨q, B, X', hpost, hsteps⟩
  · exact Or.inl ⟨v, vm₁, B, X₁.warmed, X', hpost, fun target h => hstep₁ _ fun acts => by rw [doInvoke_state]; exact hsteps.trans h⟩
  · exact Or.inr ⟨q, vm₁, B, X₁.warmed, X', hpost, hstep₁ _ fun acts => by rw [doInvoke_state]; exact hsteps⟩
theorem vx_callSX (X : Stand p l e R s m args below meth c T locs cells slots) (hexec : p.tables.exec = Jvm.exec) {own : String} {index : Nat} {y : MethodName} {bytes : ByteArray} {maxL : Nat} {ret : Option FieldType} {hh : List (Nat × Nat × Nat × Nat)}
    (hown : s.vm.findClass own = some m.cls) (hlink : (Cond.methodLink own index y).before args s = true) (hstat : (Cond.static y).before args s = true) (hinit : (Cond.initialized y.cls).before args s = true)
    (hcode : (Cond.codeWith y bytes maxL ret hh).before args s = true) (hy : y.cls ≠ "java/lang/invoke/MethodHandle" ∧ y.cls ≠ "java/lang/invoke/VarHandle")
    {W9 : Nat} {Pre : Pt → Array Value → Prop} {Post : Pt → Array Value → Option Value → Pt → Prop} {PostX : Pt → Array Value → Addr → Pt → Prop} (hK : vx_Back l R p e below s args y 3 W9 Pre Post PostX)
    {g : JFrame} (hg : g.method = m) (hsize : g.locals.size = c.maxLocals) {argsL rest : List Value} (hlen : ∀ sig, parseMethodDescriptor y.desc = some sig → argsL.length = sig.parameters.length)
    (hstack : g.stack = argsL.reverse ++ rest) (hW : 2 * g.monitorRoom + (rest.map fun v => v.category).sum ≤ W9) (hdg : decode c.code g.pc = .ok (.invokestatic index, 3))
    (hpre : ∀ vm₁, s.WarmedH vm₁ → Pre ⟨T.setVm vm₁, locs, cells, slots⟩ argsL.toArray) :
    (∃ (v : Option Value) (vm₁ : Vm) (B : Pt), s.WarmedH vm₁ ∧ Stand p l e R s m args below meth c B.U B.locs B.cells B.slots ∧ Post ⟨T.setVm vm₁, locs, cells, slots⟩ argsL.toArray v B ∧
      ∀ target, Steps p.tables e below (B.U.setTop { g with pc := g.pc + 3, stack := v.toList ++ rest }) target → Steps p.tables e below (T.setTop g) target) ∨
    (∃ (q : Addr) (vm₁ : Vm) (B : Pt), s.WarmedH vm₁ ∧ Stand p l e R s m args below meth c B.U B.locs B.cells B.slots ∧ PostX ⟨T.setVm vm₁, locs, cells, slots⟩ argsL.toArray q B ∧
      Steps p.tables e below (T.setTop g) ((B.U.setTop { g with stack := rest }).pushFrame (.throwing q))) := by
  obtain ⟨mk, methM, cM, hnamed, hmethM, -, -, -, -, -, -, hsigM⟩ := Cond.codeWith_spec hcode
  have hstatic : methM.isStatic = true := Cond.static_spec hnamed hmethM hstat
  obtain ⟨kP, hkP, -⟩ := className_of_methodNamed hnamed
  have hinitP : kP.init = .initialized := Cond.initialized_spec (findClass_of_methodNamed hnamed) hkP hinit
  obtain ⟨vm₁, X₁, hstep₁⟩ := X.invokestatic hexec hown hlink hnamed hmethM hstatic hkP hinitP hy (g := g) hg (argsL := argsL) (rest := rest) (hlen _ hsigM) hstack hdg
  rcases hK m meth c ⟨T.setVm vm₁, locs, cells, slots⟩ { g with stack := rest } (.invokestatic index) mk argsL.toArray X₁ hg hsize hdg hW (X₁.named hnamed) (hpre vm₁ X₁.warmed) with ⟨v, B, X', hpost, hsteps⟩ | ⟨q, B, X', hpost, hsteps⟩
  · exact Or.inl ⟨v, vm₁, B, X₁.warmed, X', hpost, fun target h => hstep₁ _ fun acts => by rw [doInvoke_state]; exact hsteps.trans h⟩
  · exact Or.inr ⟨q, vm₁, B, X₁.warmed, X', hpost, hstep₁ _ fun acts => by rw [doInvoke_state]; exact hsteps⟩
theorem vx_callVW (X : Stand p l e R s m args below meth c T locs cells slots) (hexec : p.tables.exec = Jvm.exec) {own C : String} {index : Nat} {y : MethodName} {bytes : ByteArray} {maxL : Nat} {ret : Option FieldType} {hh : List (Nat × Nat × Nat × Nat)}
    (hown : s.vm.findClass own = some m.cls) (hlink : (Cond.methodLink own index y).before args s = true) (hinst : (Cond.instanceMethod y).before args s = true) (hsel : (Cond.selects C y y).before args s = true)
    (hcode : (Cond.codeWith y bytes maxL ret hh).before args s = true) (hy : y.cls ≠ "java/lang/invoke/MethodHandle" ∧ y.cls ≠ "java/lang/invoke/VarHandle")
    {W9 : Nat} {Pre : Pt → Array Value → Prop} {Post : Pt → Array Value → Option Value → Pt → Prop} (hK : Back l R p e below s args y 3 W9 Pre Post)
    {b : Addr} {cellB : Cell} (hcell : T.heap[b]? = some cellB) (hobj : cellB.vm.isStatics = false) (hcls : s.vm.findClass C = some cellB.cls)
    {g : JFrame} (hg : g.method = m) (hsize : g.locals.size = c.maxLocals) {argsL rest : List Value} (hlen : ∀ sig, parseMethodDescriptor y.desc = some sig → argsL.length = sig.parameters.length)
    (hstack : g.stack = argsL.reverse ++ .ref b :: rest) (hW : 2 * g.monitorRoom + (rest.map fun v => v.category).sum ≤ W9) (hdg : decode c.code g.pc = .ok (.invokevirtual index, 3))
    (hpre : ∀ vm₁, s.WarmedH vm₁ → Pre ⟨T.setVm vm₁, locs, cells, slots⟩ (Value.ref b :: argsL).toArray) :
    ∃ (v : Option Value) (vm₁ : Vm) (B : Pt), s.WarmedH vm₁ ∧ Stand p l e R s m args below meth c B.U B.locs B.cells B.slots ∧ Post ⟨T.setVm vm₁, locs, cells, slots⟩ (Value.ref b :: argsL).toArray v B ∧
      ∀ target, Steps p.tables e below (B.U.setTop { g with pc := g.pc + 3, stack := v.toList ++ rest }) target → Steps p.tables e below (T.setTop g) target := by
  obtain ⟨mk, methM, hnamed, hmethM, hstM, habM⟩ := Cond.instanceMethod_spec hinst
  obtain ⟨m8, methM', cM, hn8, hmethM', -, -, -, -, -, -, hsigM⟩ := Cond.codeWith_spec hcode
  cases Option.some.inj (hn8.symm.trans hnamed)
  cases hmethM.symm.trans hmethM'
  obtain ⟨c2, r2, m2, q1, q2, q3, q4, kP, hkP, hkPi⟩ := Cond.selects_spec hsel
  cases hcls.symm.trans q1
  cases (State.methodFound?_of_named hnamed hy).symm.trans q2
  cases hnamed.symm.trans q3
  have hselP : selectMethod e.platform s.vm cellB.cls mk = .method mk := by rw [Launch.admits_selectMethod X.admits]; exact q4
  obtain ⟨vm₁, X₁, hstep₁⟩ := X.invokevirtual hexec hown hlink hnamed hmethM hstM hkP hkPi hy (a := b) (cell := cellB) hcell
    (fun z h => by rw [h] at hobj; cases hobj) hselP hmethM habM hkP hkPi (g := g) hg (argsL := argsL) (rest := rest) (hlen _ hsigM) hstack hdg
  obtain ⟨v, B, X', hpost, hsteps⟩ := hK m meth c ⟨T.setVm vm₁, locs, cells, slots⟩ { g with stack := rest } (.invokevirtual index) mk (Value.ref b :: argsL).toArray X₁ hg hsize hdg hW (X₁.named hnamed) (hpre vm₁ X₁.warmed)
  exact ⟨v, vm₁, B, X₁.warmed, X', hpost, fun target h => hstep₁ _ fun acts => by rw [doInvoke_state]; exact hsteps.trans h⟩
abbrev vx_CVW (R : Room) (s : State) (args : Array Value) (own C : String) (index : Nat) (y : MethodName) (bytes : ByteArray) (maxL : Nat) (ret : Option FieldType) (hh : List (Nat × Nat × Nat × Nat)) (ws : List Cond) (rm : Room) (mc ms n : Nat) : Prop :=
  (rm.cells = mc ∧ rm.slots = ms ∧ rm.frames + 1 ≤ R.frames ∧ 8 + (maxL + 11) + rm.locals ≤ R.locals ∧ (∀ w ∈ ws, ∀ (a' : Array Value) (U : State), s.WarmedH U.vm → w.before a' U = true) ∧ Cond.codeWith y bytes maxL ret hh ∈ ws) ∧
  (Cond.codeWith y bytes maxL ret hh).before args s = true ∧ (Cond.initialized y.cls).before args s = true ∧ (y.cls ≠ "java/lang/invoke/MethodHandle" ∧ y.cls ≠ "java/lang/invoke/VarHandle") ∧
  (∀ sig, parseMethodDescriptor y.desc = some sig → n = sig.parameters.length) ∧ (Cond.methodLink own index y).before args s = true ∧ (Cond.instanceMethod y).before args s = true ∧ (Cond.selects C y y).before args s = true
theorem vx_cwVW {own C : String} {index maxL mc ms : Nat} {y : MethodName} {bytes : ByteArray} {ret : Option FieldType} {hh : List (Nat × Nat × Nat × Nat)} {Ts ws ws' : List Cond} {rm : Room} (n : Nat) (ht : ∀ w ∈ Ts, w.before args s = true) (hT : GoodIn Ts (wsV own index C y ws)) (hw : ws = Cond.codeWith y bytes maxL ret hh :: ws') (hrc : rm.cells = mc) (hrs : rm.slots = ms)
    (hd : y.cls = C ∧ y.cls ≠ "java/lang/invoke/MethodHandle" ∧ y.cls ≠ "java/lang/invoke/VarHandle" ∧ (parseMethodDescriptor y.desc).map (fun d => d.parameters.length) = some n) (hR : rm.frames + 1 ≤ R.frames ∧ 8 + (maxL + 11) + rm.locals ≤ R.locals) :
    vx_CVW R s args own C index y bytes maxL ret hh ws rm mc ms n := by
  obtain ⟨hC, hd⟩ := hd
  subst hC
  have ok : ∀ w ∈ wsV own index y.cls y ws, w.before args s = true := fun w h => ht w (hT w h).1
  have hG : GoodIn Ts ws := fun w h => hT w (by unfold wsV; exact List.mem_append_right _ h)
  have hc : Cond.codeWith y bytes maxL ret hh ∈ ws := by rw [hw]; exact List.mem_cons_self
  refine ⟨⟨hrc, hrs, hR.1, hR.2, pay_in ht hG, hc⟩, ht _ (hG _ hc).1, ok _ (by simp [wsV]), ⟨hd.1, hd.2.1⟩, fun sig h => ?_, ok _ (by simp [wsV]), ok _ (by simp [wsV]), ok _ (by simp [wsV])⟩
  have h2 := hd.2.2
  rw [h] at h2
  exact (Option.some.inj h2).symm
theorem vx_runVW {y : MethodName} {bytes cc : ByteArray} {maxL nL mc ms n index : Nat} {ret : Option FieldType} {hh : List (Nat × Nat × Nat × Nat)} {ws : List Cond} {rm : Room} {Pc : Array Value → State → Prop} {Qc : Array Value → State → Outcome → State → Prop} {free : Addr → Prop} {Ts : List Cond} {own C : String} {b : Addr} {As rest : List Value} {g : JFrame}
    (S : CallFix p m c cc nL s args Ts own) (hM : Met l y ws rm Pc Qc mc ms free) (cw : vx_CVW R s args own C index y bytes maxL ret hh ws rm mc ms n) (hp : PreV s H C b Pc As)
    (hg : g.method = m) (hn : As.length = n) (hsize : g.locals.size = nL) (hstack : g.stack = As.reverse ++ .ref b :: rest) (hW : 2 * g.monitorRoom + (rest.map fun v => v.category).sum ≤ 8) (hdg : decode cc g.pc = .ok (.invokevirtual index, 3)) (hf : cells + mc ≤ R.cells ∧ slots + ms ≤ R.slots) :
    va_Run p l e R s m args below meth c H locs cells slots mc ms g rest (Qc (Value.ref b :: As).toArray) free := by
  obtain ⟨⟨hrc, hrs, hfr, hlo, hws, hcw⟩, hcode, hini, hy, hlen, hl, hin, hse⟩ := cw
  have hK : Back l R p e below s args y 3 8 (PreOf R mc ms Pc) (PostOf Qc mc ms free) := va_backW (hh := hh) (bytes := bytes) (maxL := maxL) (ret := ret) hM hp.1 hrc hrs hfr hlo hws hcw (fun a' U hW => word_at hW (Or.inl (by first | rfl | simp [Cond.onTables, Cond.keeps, Cond.steady])) hini)
  obtain ⟨hx, hb, hml, ho, -⟩ := S
  obtain ⟨-, ⟨cellB, hcB, hoB, hclB⟩, hPc⟩ := hp
  intro T hT X
  obtain ⟨v, vm₁, ⟨U', l2, c2, s2⟩, hW₁, X', ⟨g', mk, t, L, e1, e2, hq, h1, hL, h2, h3⟩, st⟩ := vx_callVW X hx (C := C) (hh := hh) (bytes := bytes) (maxL := maxL) (ret := ret) ho hl hin hse hcode hy hK (by rw [hT]; exact hcB) hoB hclB hg (hsize.trans hml.symm) (argsL := As) (rest := rest) (fun sig h => hn.trans (hlen sig h)) hstack hW (by rw [hb]; exact hdg)
    (fun vm₁ hW₁ => ⟨hf.1, hf.2, hPc (T.setVm vm₁) hT hW₁⟩)
  dsimp only [Pt.U, Pt.locs, Pt.cells, Pt.slots] at X' e1 e2 h1 h2 h3 st
  subst h1; subst h2; subst h3
  exact ⟨v, (T.setVm vm₁).calling g' mk (Value.ref b :: As).toArray, t, U', L, hT, X', hL, e1, e2, hq, st⟩
section
variable {y : MethodName} {bytes cc : ByteArray} {maxL nL mc ms n index : Nat} {ret : Option FieldType} {ws : List Cond} {rm : Room} {Pc : Array Value → State → Prop} {Qc : Array Value → State → Outcome → State → Prop} {XC : String → State → State → Prop} {free : Addr → Prop} {Ts : List Cond} {own C : String} {b : Addr} {As rest : List Value} {g : JFrame}
theorem vx_runVX {hh : List (Nat × Nat × Nat × Nat)} (S : CallFix p m c cc nL s args Ts own) (hM : vx_Met l y ws rm Pc Qc XC mc ms free) (cw : vx_CVW R s args own C index y bytes maxL ret hh ws rm mc ms n) (hp : PreV s H C b Pc As)
    (hg : g.method = m) (hn : As.length = n) (hsize : g.locals.size = nL) (hstack : g.stack = As.reverse ++ .ref b :: rest) (hW : 2 * g.monitorRoom + (rest.map fun v => v.category).sum ≤ 8) (hdg : decode cc g.pc = .ok (.invokevirtual index, 3)) (hf : cells + mc ≤ R.cells ∧ slots + ms ≤ R.slots) :
    vx_Run p l e R s m args below meth c H locs cells slots mc ms g rest (Qc (Value.ref b :: As).toArray) XC free := by
  obtain ⟨⟨hrc, hrs, hfr, hlo, hws, hcw⟩, hcode, hini, hy, hlen, hl, hin, hse⟩ := cw
  have hK : vx_Back l R p e below s args y 3 8 (PreOf R mc ms Pc) (PostOf Qc mc ms free) (vx_Post XC mc ms free) := vx_backW (hh := hh) (bytes := bytes) (maxL := maxL) (ret := ret) hM hp.1 hrc hrs hfr hlo hws hcw (fun a' U hW => word_at hW (Or.inl (by first | rfl | simp [Cond.onTables, Cond.keeps, Cond.steady])) hini)
  obtain ⟨hx, hb, hml, ho, -⟩ := S
  obtain ⟨-, ⟨cellB, hcB, hoB, hclB⟩, hPc⟩ := hp
  intro T hT X
  rcases vx_callVX X hx (C := C) (hh := hh) (bytes := bytes) (maxL := maxL) (ret := ret) ho hl hin hse hcode hy hK (by rw [hT]; exact hcB) hoB hclB hg (hsize.trans hml.symm) (argsL := As) (rest := rest) (fun sig h => hn.trans (hlen sig h)) hstack hW (by rw [hb]; exact hdg)
    (fun vm₁ hW₁ => ⟨hf.1, hf.2, hPc (T.setVm vm₁) hT hW₁⟩) with ⟨v, vm₁, ⟨U', l2, c2, s2⟩, hW₁, X', ⟨g', mk, t, L, e1, e2, hq, h1, hL, h2, h3⟩, st⟩ | ⟨q, vm₁, ⟨U', l2, c2, s2⟩, hW₁, X', ⟨g', mk, t, L, E, ce, e1, e2, hq, hce, hcv, hcl, h1, hL, h2, h3⟩, st⟩
  · dsimp only [Pt.U, Pt.locs, Pt.cells, Pt.slots] at X' e1 e2 h1 h2 h3 st
    subst h1; subst h2; subst h3
    exact Or.inl ⟨v, (T.setVm vm₁).calling g' mk (Value.ref b :: As).toArray, t, U', L, hT, X', hL, e1, e2, hq, st⟩
  · dsimp only [Pt.U, Pt.locs, Pt.cells, Pt.slots] at X' e1 e2 h1 h2 h3 st hcl
    subst h1; subst h2; subst h3
    exact Or.inr ⟨q, (T.setVm vm₁).calling g' mk (Value.ref b :: As).toArray, t, U', L, E, ce, hT, X', hL, e1, e2, hq, hce, hcv, vx_cls hW₁ hcl, st⟩
theorem vx_runSX {hh : List (Nat × Nat × Nat × Nat)} (S : CallFix p m c cc nL s args Ts own) (hM : vx_Met l y ws rm Pc Qc XC mc ms free) (cw : vx_CSW R s args own index y bytes maxL ret hh ws rm mc ms n) (hp : PreS s H Pc As)
    (hg : g.method = m) (hn : As.length = n) (hsize : g.locals.size = nL) (hstack : g.stack = As.reverse ++ rest) (hW : 2 * g.monitorRoom + (rest.map fun v => v.category).sum ≤ 8) (hdg : decode cc g.pc = .ok (.invokestatic index, 3)) (hf : cells + mc ≤ R.cells ∧ slots + ms ≤ R.slots) :
    vx_Run p l e R s m args below meth c H locs cells slots mc ms g rest (Qc As.toArray) XC free := by
  obtain ⟨⟨hrc, hrs, hfr, hlo, hws, hcw⟩, hcode, hini, hy, hlen, hl, hstt⟩ := cw
  have hK : vx_Back l R p e below s args y 3 8 (PreOf R mc ms Pc) (PostOf Qc mc ms free) (vx_Post XC mc ms free) := vx_backW (hh := hh) (bytes := bytes) (maxL := maxL) (ret := ret) hM hp.1 hrc hrs hfr hlo hws hcw (fun a' U hW => word_at hW (Or.inl (by first | rfl | simp [Cond.onTables, Cond.keeps, Cond.steady])) hini)
  obtain ⟨hx, hb, hml, ho, -⟩ := S
  intro T hT X
  rcases vx_callSX X hx (hh := hh) (bytes := bytes) (maxL := maxL) (ret := ret) ho hl hstt hini hcode hy hK hg (hsize.trans hml.symm) (argsL := As) (rest := rest) (fun sig h => hn.trans (hlen sig h)) hstack hW (by rw [hb]; exact hdg)
    (fun vm₁ hW₁ => ⟨hf.1, hf.2, hp.2 (T.setVm vm₁) hT hW₁⟩) with ⟨v, vm₁, ⟨U', l2, c2, s2⟩, hW₁, X', ⟨g', mk, t, L, e1, e2, hq, h1, hL, h2, h3⟩, st⟩ | ⟨q, vm₁, ⟨U', l2, c2, s2⟩, hW₁, X', ⟨g', mk, t, L, E, ce, e1, e2, hq, hce, hcv, hcl, h1, hL, h2, h3⟩, st⟩
  · dsimp only [Pt.U, Pt.locs, Pt.cells, Pt.slots] at X' e1 e2 h1 h2 h3 st
    subst h1; subst h2; subst h3
    exact Or.inl ⟨v, (T.setVm vm₁).calling g' mk As.toArray, t, U', L, hT, X', hL, e1, e2, hq, st⟩
  · dsimp only [Pt.U, Pt.locs, Pt.cells, Pt.slots] at X' e1 e2 h1 h2 h3 st hcl
    subst h1; subst h2; subst h3
    exact Or.inr ⟨q, (T.setVm vm₁).calling g' mk As.toArray, t, U', L, E, ce, hT, X', hL, e1, e2, hq, hce, hcv, vx_cls hW₁ hcl, st⟩
end
end VXH
theorem vx_ofWH {l : Launch} {y : MethodName} {ws ws' : List Cond} {rm : Room} {Pc : Array Value → State → Prop} {Qc : Array Value → State → Outcome → State → Prop} {XC : String → State → State → Prop} {mc ms : Nat} {free : Addr → Prop} {cc : ByteArray} {maxL : Nat} {ret : Option FieldType} {hh : List (Nat × Nat × Nat × Nat)}
    (hy : plainName y.cls = true) (hw : ws = Cond.codeWith y cc maxL ret hh :: ws')
    (body : ∀ p e s m args below meth c s₁, BodyLoose p l y (headSpec ws rm) cc maxL ret e s m args below meth c s₁ → c.maxLocals = maxL → Pc args s →
      W p l e (headSpec ws rm).room s m args below meth c s.heap [] 0 0 (vx_MQ below Qc XC args s mc ms free) (entryFrame m args maxL)) : vx_Met l y ws rm Pc Qc XC mc ms free := by
  refine MetFree.of_bodyS (code := cc) (maxLocals := maxL) (ret := ret) hy ?_ ?_
  · intro args s m h hn
    obtain ⟨m9, meth, c, hn9, h1, h2, h3, h4, -, h5, h6, -⟩ := Cond.codeWith_spec (atoms_spec (ws := ws) h _ (by rw [hw]; exact List.mem_cons_self))
    cases hn.symm.trans hn9
    exact ⟨meth, c, h1, h2, h3, h4, h5, h6⟩
  · intro p e s m args below meth c s₁ B hml hP _
    have hh0 : s₁.heap = s.heap := by rw [B.state]; rfl
    obtain ⟨t, a1, o, b1, b2, b3⟩ := body p e s m args below meth c s₁ B hml hP s₁ hh0 (Stand.of_body B)
    exact ⟨t, o, a1, b1, b2, b3⟩
/-! ===== END ===== -/

def RX0 : String := "PalletStack$Item"
def TX0 : u_T := fun k => match k with
  | 0 => ("PalletStack$Item", "kind", "I", false)
  | 1 => ("PalletStack$Item", "weight", "I", false)
  | 2 => ("PalletStack$Item", "strength", "I", false)
  | 3 => ("PalletStack$Item", "isTurned", "Z", false)
  | 4 => ("PalletStack$Item", "width", "I", false)
  | 5 => ("PalletStack$Item", "depth", "I", false)
  | 6 => ("PalletStack$Item", "x", "I", false)
  | 7 => ("PalletStack$Item", "y", "I", false)
  | 8 => ("PalletStack$Item", "bottom", "I", false)
  | 9 => ("PalletStack$Item", "top", "I", false)
  | 10 => ("PalletStack$Item", "ground", "I", false)
  | 11 => ("PalletStack$Item", "load", "I", false)
  | 12 => ("PalletStack$Item", "nextLoad", "I", false)
  | 13 => ("PalletStack$Item", "isOnPallet", "Z", false)
  | 14 => ("PalletStack$Item", "isReached", "Z", false)
  | 15 => ("PalletStack$Item", "supportCount", "I", false)
  | 16 => ("PalletStack$Item", "supports", "[LPalletStack$Item;", true)
  | _ => ("PalletStack$Item", "supportCells", "[I", true)
def tyX0 : Nat → FieldType := fun k => match k with
  | 0 => .int
  | 1 => .int
  | 2 => .int
  | 3 => .boolean
  | 4 => .int
  | 5 => .int
  | 6 => .int
  | 7 => .int
  | 8 => .int
  | 9 => .int
  | 10 => .int
  | 11 => .int
  | 12 => .int
  | 13 => .boolean
  | 14 => .boolean
  | 15 => .int
  | 16 => .array (.object "PalletStack$Item")
  | _ => .array .int
abbrev wsX00 : List Cond := u_ws RX0 TX0 18
theorem nmX0 : ∀ a, a < 18 → ∀ b, b < 18 → a ≠ b → (TX0 a).2.1 ≠ (TX0 b).2.1 := by decide +kernel
theorem tyX0_ok : ∀ k, k < 18 → parseFieldDescriptor (TX0 k).2.2.1 = some (tyX0 k) := by decide +kernel
abbrev cX0_init : ByteArray := prog_2_method_1_code
def yX0_init : MethodName := ⟨RX0, "<init>", "()V"⟩
abbrev cX0_shape : ByteArray := prog_2_method_2_code
def yX0_shape : MethodName := ⟨RX0, "shape", "(LPalletStack$Kind;Z)V"⟩
abbrev cX0_cells : ByteArray := prog_2_method_3_code
def yX0_cells : MethodName := ⟨RX0, "cells", "()I"⟩
abbrev cX0_covers : ByteArray := prog_2_method_4_code
def yX0_covers : MethodName := ⟨RX0, "covers", "(II)Z"⟩
abbrev cX0_cellsInCommon : ByteArray := prog_2_method_5_code
def yX0_cellsInCommon : MethodName := ⟨RX0, "cellsInCommon", "(LPalletStack$Item;)I"⟩
abbrev cX0_standsOn : ByteArray := prog_2_method_6_code
def yX0_standsOn : MethodName := ⟨RX0, "standsOn", "(LPalletStack$Item;)Z"⟩
abbrev cX0_addSupport : ByteArray := prog_2_method_7_code
def yX0_addSupport : MethodName := ⟨RX0, "addSupport", "(LPalletStack$Item;I)V"⟩
abbrev cX0_passLoadDown : ByteArray := prog_2_method_8_code
def yX0_passLoadDown : MethodName := ⟨RX0, "passLoadDown", "()V"⟩
abbrev cX0_reachSupports : ByteArray := prog_2_method_9_code
def yX0_reachSupports : MethodName := ⟨RX0, "reachSupports", "()V"⟩
def RX1 : String := "PalletStack$Kind"
def TX1 : u_T := fun k => match k with
  | 0 => ("PalletStack$Kind", "number", "I", true)
  | 1 => ("PalletStack$Kind", "width", "I", true)
  | 2 => ("PalletStack$Kind", "depth", "I", true)
  | 3 => ("PalletStack$Kind", "height", "I", true)
  | 4 => ("PalletStack$Kind", "weight", "I", true)
  | 5 => ("PalletStack$Kind", "strength", "I", true)
  | 6 => ("PalletStack$Kind", "canTurn", "Z", true)
  | _ => ("PalletStack$Kind", "needsDeck", "Z", true)
def tyX1 : Nat → FieldType := fun k => match k with
  | 0 => .int
  | 1 => .int
  | 2 => .int
  | 3 => .int
  | 4 => .int
  | 5 => .int
  | 6 => .boolean
  | _ => .boolean
abbrev wsX10 : List Cond := u_ws RX1 TX1 8
theorem nmX1 : ∀ a, a < 8 → ∀ b, b < 8 → a ≠ b → (TX1 a).2.1 ≠ (TX1 b).2.1 := by decide +kernel
theorem tyX1_ok : ∀ k, k < 8 → parseFieldDescriptor (TX1 k).2.2.1 = some (tyX1 k) := by decide +kernel
abbrev cX1_init : ByteArray := prog_3_method_1_code
def yX1_init : MethodName := ⟨RX1, "<init>", "(IIIIIII)V"⟩
abbrev cX1_comesBefore : ByteArray := prog_3_method_2_code
def yX1_comesBefore : MethodName := ⟨RX1, "comesBefore", "(LPalletStack$Kind;)Z"⟩
def RX2 : String := "PalletStack$Line"
def TX2 : u_T := fun k => match k with
  | 0 => ("PalletStack$Line", "kind", "LPalletStack$Kind;", true)
  | 1 => ("PalletStack$Line", "count", "I", false)
  | _ => ("PalletStack$Line", "isAside", "Z", false)
def tyX2 : Nat → FieldType := fun k => match k with
  | 0 => .object "PalletStack$Kind"
  | 1 => .int
  | _ => .boolean
abbrev wsX20 : List Cond := u_ws RX2 TX2 3
theorem nmX2 : ∀ a, a < 3 → ∀ b, b < 3 → a ≠ b → (TX2 a).2.1 ≠ (TX2 b).2.1 := by decide +kernel
theorem tyX2_ok : ∀ k, k < 3 → parseFieldDescriptor (TX2 k).2.2.1 = some (tyX2 k) := by decide +kernel
abbrev cX2_init : ByteArray := prog_4_method_1_code
def yX2_init : MethodName := ⟨RX2, "<init>", "(LPalletStack$Kind;I)V"⟩
def RX3 : String := "PalletStack"
def TX3 : u_T := fun k => match k with
  | 0 => ("PalletStack", "kinds", "[LPalletStack$Kind;", true)
  | 1 => ("PalletStack", "kindCount", "I", false)
  | 2 => ("PalletStack", "greatestHeight", "I", false)
  | 3 => ("PalletStack", "support", "I", false)
  | 4 => ("PalletStack", "limit", "I", false)
  | 5 => ("PalletStack", "hasCornerRule", "Z", false)
  | 6 => ("PalletStack", "items", "[LPalletStack$Item;", true)
  | 7 => ("PalletStack", "cameCount", "I", false)
  | 8 => ("PalletStack", "onPalletCount", "I", false)
  | 9 => ("PalletStack", "weightOnPallet", "I", false)
  | 10 => ("PalletStack", "tops", "[I", true)
  | 11 => ("PalletStack", "trial", "LPalletStack$Item;", false)
  | 12 => ("PalletStack", "lines", "[LPalletStack$Line;", true)
  | _ => ("PalletStack", "lineCount", "I", false)
def tyX3 : Nat → FieldType := fun k => match k with
  | 0 => .array (.object "PalletStack$Kind")
  | 1 => .int
  | 2 => .int
  | 3 => .int
  | 4 => .int
  | 5 => .boolean
  | 6 => .array (.object "PalletStack$Item")
  | 7 => .int
  | 8 => .int
  | 9 => .int
  | 10 => .array .int
  | 11 => .object "PalletStack$Item"
  | 12 => .array (.object "PalletStack$Line")
  | _ => .int
abbrev wsX30 : List Cond := u_ws RX3 TX3 14
theorem nmX3 : ∀ a, a < 14 → ∀ b, b < 14 → a ≠ b → (TX3 a).2.1 ≠ (TX3 b).2.1 := by decide +kernel
theorem tyX3_ok : ∀ k, k < 14 → parseFieldDescriptor (TX3 k).2.2.1 = some (tyX3 k) := by decide +kernel
abbrev cX3_init : ByteArray := prog_1_method_1_code
def yX3_init : MethodName := ⟨RX3, "<init>", "()V"⟩
abbrev cX3_addKind : ByteArray := prog_1_method_2_code
def yX3_addKind : MethodName := ⟨RX3, "addKind", "(IIIIII)I"⟩
abbrev cX3_setRules : ByteArray := prog_1_method_3_code
def yX3_setRules : MethodName := ⟨RX3, "setRules", "(IIIZ)I"⟩
abbrev cX3_count : ByteArray := prog_1_method_4_code
def yX3_count : MethodName := ⟨RX3, "count", "(I)I"⟩
abbrev cX3_item : ByteArray := prog_1_method_8_code
def yX3_item : MethodName := ⟨RX3, "item", "(II)I"⟩
abbrev cX3_at : ByteArray := prog_1_method_10_code
def yX3_at : MethodName := ⟨RX3, "at", "(III)I"⟩
abbrev cX3_restsOn : ByteArray := prog_1_method_11_code
def yX3_restsOn : MethodName := ⟨RX3, "restsOn", "(II)Z"⟩
abbrev cX3_addLine : ByteArray := prog_1_method_14_code
def yX3_addLine : MethodName := ⟨RX3, "addLine", "(II)I"⟩
abbrev cX3_stack : ByteArray := prog_1_method_15_code
def yX3_stack : MethodName := ⟨RX3, "stack", "()I"⟩
abbrev cX3_line : ByteArray := prog_1_method_16_code
def yX3_line : MethodName := ⟨RX3, "line", "(IZ)I"⟩
abbrev cX3_sum : ByteArray := prog_1_method_18_code
def yX3_sum : MethodName := ⟨RX3, "sum", "(I)I"⟩
abbrev cX3_filled : ByteArray := prog_1_method_20_code
def yX3_filled : MethodName := ⟨RX3, "filled", "()D"⟩
abbrev cX3_isWithin : ByteArray := prog_1_method_22_code
def yX3_isWithin : MethodName := ⟨RX3, "isWithin", "(III)Z"⟩
abbrev cX3_isCell : ByteArray := prog_1_method_23_code
def yX3_isCell : MethodName := ⟨RX3, "isCell", "(II)Z"⟩
abbrev cX3_kindOf : ByteArray := prog_1_method_24_code
def yX3_kindOf : MethodName := ⟨RX3, "kindOf", "(I)LPalletStack$Kind;"⟩
abbrev cX3_itemOf : ByteArray := prog_1_method_25_code
def yX3_itemOf : MethodName := ⟨RX3, "itemOf", "(I)LPalletStack$Item;"⟩
abbrev cX3_lineOf : ByteArray := prog_1_method_26_code
def yX3_lineOf : MethodName := ⟨RX3, "lineOf", "(I)LPalletStack$Line;"⟩
abbrev cX3_topOf : ByteArray := prog_1_method_27_code
def yX3_topOf : MethodName := ⟨RX3, "topOf", "(II)I"⟩
abbrev cX3_countOf : ByteArray := prog_1_method_28_code
def yX3_countOf : MethodName := ⟨RX3, "countOf", "(I)I"⟩
abbrev cX3_factOf : ByteArray := prog_1_method_29_code
def yX3_factOf : MethodName := ⟨RX3, "factOf", "(LPalletStack$Item;I)I"⟩
abbrev cX3_sumOf : ByteArray := prog_1_method_30_code
def yX3_sumOf : MethodName := ⟨RX3, "sumOf", "(I)I"⟩
abbrev cX3_greatestTop : ByteArray := prog_1_method_32_code
def yX3_greatestTop : MethodName := ⟨RX3, "greatestTop", "()I"⟩
abbrev cX3_greatestLoad : ByteArray := prog_1_method_33_code
def yX3_greatestLoad : MethodName := ⟨RX3, "greatestLoad", "()I"⟩
abbrev cX3_coveredDeck : ByteArray := prog_1_method_34_code
def yX3_coveredDeck : MethodName := ⟨RX3, "coveredDeck", "()I"⟩
abbrev cX3_standingOn : ByteArray := prog_1_method_35_code
def yX3_standingOn : MethodName := ⟨RX3, "standingOn", "(LPalletStack$Item;)I"⟩
abbrev cX3_isCarriedBy : ByteArray := prog_1_method_36_code
def yX3_isCarriedBy : MethodName := ⟨RX3, "isCarriedBy", "(LPalletStack$Item;LPalletStack$Item;)Z"⟩
abbrev cX3_forgetNextLoads : ByteArray := prog_1_method_37_code
def yX3_forgetNextLoads : MethodName := ⟨RX3, "forgetNextLoads", "()V"⟩
abbrev cX3_settleLoads : ByteArray := prog_1_method_38_code
def yX3_settleLoads : MethodName := ⟨RX3, "settleLoads", "()V"⟩
abbrev cX3_isTooMuchLoad : ByteArray := prog_1_method_39_code
def yX3_isTooMuchLoad : MethodName := ⟨RX3, "isTooMuchLoad", "()Z"⟩
abbrev cX3_isInField : ByteArray := prog_1_method_40_code
def yX3_isInField : MethodName := ⟨RX3, "isInField", "(LPalletStack$Kind;IIZ)Z"⟩
abbrev cX3_letDown : ByteArray := prog_1_method_41_code
def yX3_letDown : MethodName := ⟨RX3, "letDown", "(LPalletStack$Kind;IIZ)V"⟩
abbrev cX3_findSupports : ByteArray := prog_1_method_42_code
def yX3_findSupports : MethodName := ⟨RX3, "findSupports", "()V"⟩
abbrev cX3_isGround : ByteArray := prog_1_method_43_code
def yX3_isGround : MethodName := ⟨RX3, "isGround", "(II)Z"⟩
abbrev cX3_hasGroundAtCorners : ByteArray := prog_1_method_44_code
def yX3_hasGroundAtCorners : MethodName := ⟨RX3, "hasGroundAtCorners", "()Z"⟩
abbrev cX3_brokenRule : ByteArray := prog_1_method_45_code
def yX3_brokenRule : MethodName := ⟨RX3, "brokenRule", "(LPalletStack$Kind;)I"⟩
abbrev cX3_bestPlace : ByteArray := prog_1_method_47_code
def yX3_bestPlace : MethodName := ⟨RX3, "bestPlace", "(LPalletStack$Kind;)I"⟩
abbrev cX3_xOf : ByteArray := prog_1_method_48_code
def yX3_xOf : MethodName := ⟨RX3, "xOf", "(I)I"⟩
abbrev cX3_yOf : ByteArray := prog_1_method_49_code
def yX3_yOf : MethodName := ⟨RX3, "yOf", "(I)I"⟩
abbrev cX3_isTurnedIn : ByteArray := prog_1_method_50_code
def yX3_isTurnedIn : MethodName := ⟨RX3, "isTurnedIn", "(I)Z"⟩
abbrev cX3_putAtBest : ByteArray := prog_1_method_51_code
def yX3_putAtBest : MethodName := ⟨RX3, "putAtBest", "(LPalletStack$Kind;)Z"⟩
abbrev cX3_putTrial : ByteArray := prog_1_method_52_code
def yX3_putTrial : MethodName := ⟨RX3, "putTrial", "()V"⟩
abbrev cX3_layTop : ByteArray := prog_1_method_53_code
def yX3_layTop : MethodName := ⟨RX3, "layTop", "(LPalletStack$Item;)V"⟩
abbrev cX3_nextLine : ByteArray := prog_1_method_55_code
def yX3_nextLine : MethodName := ⟨RX3, "nextLine", "()LPalletStack$Line;"⟩
def RX4 : String := "PalletStackLaw$Hand"
def TX4 : u_T := fun k => match k with
  | 0 => ("PalletStackLaw$Hand", "kinds", "[[I", false)
  | 1 => ("PalletStackLaw$Hand", "items", "[[I", false)
  | 2 => ("PalletStackLaw$Hand", "came", "I", false)
  | _ => ("PalletStackLaw$Hand", "rules", "[I", false)
def tyX4 : Nat → FieldType := fun k => match k with
  | 0 => .array (.array .int)
  | 1 => .array (.array .int)
  | 2 => .int
  | _ => .array .int
abbrev wsX40 : List Cond := u_ws RX4 TX4 4
theorem nmX4 : ∀ a, a < 4 → ∀ b, b < 4 → a ≠ b → (TX4 a).2.1 ≠ (TX4 b).2.1 := by decide +kernel
theorem tyX4_ok : ∀ k, k < 4 → parseFieldDescriptor (TX4 k).2.2.1 = some (tyX4 k) := by decide +kernel
abbrev cX4_init : ByteArray := prog_6_method_1_code
def yX4_init : MethodName := ⟨RX4, "<init>", "()V"⟩
def RX5 : String := "PalletStackModel"
def TX5 : u_T := fun k => match k with
  | _ => ("", "", "", false)
def tyX5 : Nat → FieldType := fun k => match k with
  | _ => .int
abbrev wsX50 : List Cond := u_ws RX5 TX5 0
theorem nmX5 : ∀ a, a < 0 → ∀ b, b < 0 → a ≠ b → (TX5 a).2.1 ≠ (TX5 b).2.1 := by decide +kernel
theorem tyX5_ok : ∀ k, k < 0 → parseFieldDescriptor (TX5 k).2.2.1 = some (tyX5 k) := by decide +kernel
def RJ9 : String := "java/lang/Math"
def TJ9 : u_T := fun k => match k with
  | _ => ("", "", "", false)
def tyJ9 : Nat → FieldType := fun k => match k with
  | _ => .int
abbrev wsJ90 : List Cond := u_ws RJ9 TJ9 0
theorem nmJ9 : ∀ a, a < 0 → ∀ b, b < 0 → a ≠ b → (TJ9 a).2.1 ≠ (TJ9 b).2.1 := by decide +kernel
theorem tyJ9_ok : ∀ k, k < 0 → parseFieldDescriptor (TJ9 k).2.2.1 = some (tyJ9 k) := by decide +kernel
abbrev cJ9_max_7cf53 : ByteArray := prog_12_method_65_code
def yJ9_max_7cf53 : MethodName := ⟨RJ9, "max", "(II)I"⟩
abbrev cJ9_min_7cf53 : ByteArray := prog_12_method_69_code
def yJ9_min_7cf53 : MethodName := ⟨RJ9, "min", "(II)I"⟩
def RL : String := "PalletStackLaw"
abbrev cL_below : ByteArray := method_2_code
def yL_below : MethodName := ⟨RL, "below", "(II)I"⟩
abbrev cL_cell : ByteArray := method_3_code
def yL_cell : MethodName := ⟨RL, "cell", "([II)I"⟩
abbrev cL_build : ByteArray := method_4_code
def yL_build : MethodName := ⟨RL, "build", "(LPalletStack;[II)LPalletStackLaw$Hand;"⟩
abbrev cL_law : ByteArray := code
def yL_law : MethodName := ⟨RL, "law", "([I)Z"⟩
def wsX0_init : List Cond := .code yX0_init cX0_init 1 none :: ([.methodLink RX0 3 objectInit, .instanceMethod objectInit, .code objectInit ⟨#[0xb1]⟩ 1 none, .fieldLink RX0 9 "PalletStack$Item" "kind" "I", .fieldLink RX0 15 "PalletStack$Item" "weight" "I", .fieldLink RX0 18 "PalletStack$Item" "strength" "I", .fieldLink RX0 21 "PalletStack$Item" "isTurned" "Z", .fieldLink RX0 25 "PalletStack$Item" "width" "I", .fieldLink RX0 28 "PalletStack$Item" "depth" "I", .fieldLink RX0 31 "PalletStack$Item" "x" "I", .fieldLink RX0 34 "PalletStack$Item" "y" "I", .fieldLink RX0 37 "PalletStack$Item" "bottom" "I", .fieldLink RX0 40 "PalletStack$Item" "top" "I", .fieldLink RX0 43 "PalletStack$Item" "ground" "I", .fieldLink RX0 46 "PalletStack$Item" "load" "I", .fieldLink RX0 49 "PalletStack$Item" "nextLoad" "I", .fieldLink RX0 52 "PalletStack$Item" "isOnPallet" "Z", .fieldLink RX0 55 "PalletStack$Item" "isReached" "Z", .fieldLink RX0 58 "PalletStack$Item" "supportCount" "I", .classLink RX0 10 RX0, .fieldLink RX0 61 "PalletStack$Item" "supports" "[LPalletStack$Item;", .arrayClass .int, .fieldLink RX0 65 "PalletStack$Item" "supportCells" "[I"] ++ wsX00)
def wsX0_shape : List Cond := .code yX0_shape cX0_shape 3 none :: ([.fieldLink RX0 69 "PalletStack$Kind" "number" "I", .fieldLink RX0 9 "PalletStack$Item" "kind" "I", .fieldLink RX0 74 "PalletStack$Kind" "weight" "I", .fieldLink RX0 15 "PalletStack$Item" "weight" "I", .fieldLink RX0 75 "PalletStack$Kind" "strength" "I", .fieldLink RX0 18 "PalletStack$Item" "strength" "I", .fieldLink RX0 21 "PalletStack$Item" "isTurned" "Z", .fieldLink RX0 76 "PalletStack$Kind" "depth" "I", .fieldLink RX0 77 "PalletStack$Kind" "width" "I", .fieldLink RX0 25 "PalletStack$Item" "width" "I", .fieldLink RX0 28 "PalletStack$Item" "depth" "I"] ++ wsX10 ++ wsX00)
def wsX0_cells : List Cond := .code yX0_cells cX0_cells 1 (some .int) :: ([.fieldLink RX0 25 "PalletStack$Item" "width" "I", .fieldLink RX0 28 "PalletStack$Item" "depth" "I"] ++ wsX00)
def wsX0_covers : List Cond := .code yX0_covers cX0_covers 3 (some .boolean) :: ([.fieldLink RX0 31 "PalletStack$Item" "x" "I", .fieldLink RX0 25 "PalletStack$Item" "width" "I", .fieldLink RX0 34 "PalletStack$Item" "y" "I", .fieldLink RX0 28 "PalletStack$Item" "depth" "I"] ++ wsX00)
def wsX0_cellsInCommon : List Cond := .code yX0_cellsInCommon cX0_cellsInCommon 4 (some .int) :: ([.fieldLink RX0 31 "PalletStack$Item" "x" "I", .fieldLink RX0 25 "PalletStack$Item" "width" "I", .methodLink RX0 78 Lib.Math.min.name, .static Lib.Math.min.name, .initialized "java/lang/Math", .code Lib.Math.min.name Lib.Math.min.code 2 (some .int), .methodLink RX0 84 Lib.Math.max.name, .static Lib.Math.max.name, .code Lib.Math.max.name Lib.Math.max.code 2 (some .int), .fieldLink RX0 34 "PalletStack$Item" "y" "I", .fieldLink RX0 28 "PalletStack$Item" "depth" "I"] ++ wsX00)
def wsX0_addSupport : List Cond := .code yX0_addSupport cX0_addSupport 3 none :: ([.fieldLink RX0 58 "PalletStack$Item" "supportCount" "I", .fieldLink RX0 61 "PalletStack$Item" "supports" "[LPalletStack$Item;", .fieldLink RX0 65 "PalletStack$Item" "supportCells" "[I"] ++ wsX00)
def wsX0_passLoadDown : List Cond := .code yX0_passLoadDown cX0_passLoadDown 3 none :: ([.fieldLink RX0 58 "PalletStack$Item" "supportCount" "I", .fieldLink RX0 61 "PalletStack$Item" "supports" "[LPalletStack$Item;", .fieldLink RX0 43 "PalletStack$Item" "ground" "I", .fieldLink RX0 49 "PalletStack$Item" "nextLoad" "I", .fieldLink RX0 15 "PalletStack$Item" "weight" "I", .fieldLink RX0 65 "PalletStack$Item" "supportCells" "[I"] ++ wsX00)
def wsX0_reachSupports : List Cond := .code yX0_reachSupports cX0_reachSupports 3 none :: ([.fieldLink RX0 58 "PalletStack$Item" "supportCount" "I", .fieldLink RX0 61 "PalletStack$Item" "supports" "[LPalletStack$Item;", .fieldLink RX0 55 "PalletStack$Item" "isReached" "Z"] ++ wsX00)
def wsX1_init : List Cond := .code yX1_init cX1_init 8 none :: ([.methodLink RX1 1 objectInit, .instanceMethod objectInit, .code objectInit ⟨#[0xb1]⟩ 1 none, .fieldLink RX1 7 "PalletStack$Kind" "number" "I", .fieldLink RX1 13 "PalletStack$Kind" "width" "I", .fieldLink RX1 16 "PalletStack$Kind" "depth" "I", .fieldLink RX1 19 "PalletStack$Kind" "height" "I", .fieldLink RX1 22 "PalletStack$Kind" "weight" "I", .fieldLink RX1 25 "PalletStack$Kind" "strength" "I", .fieldLink RX1 28 "PalletStack$Kind" "canTurn" "Z", .fieldLink RX1 32 "PalletStack$Kind" "needsDeck" "Z"] ++ wsX10)
def wsX1_comesBefore : List Cond := .code yX1_comesBefore cX1_comesBefore 2 (some .boolean) :: ([.fieldLink RX1 32 "PalletStack$Kind" "needsDeck" "Z", .fieldLink RX1 25 "PalletStack$Kind" "strength" "I", .fieldLink RX1 22 "PalletStack$Kind" "weight" "I"] ++ wsX10)
def wsX2_init : List Cond := .code yX2_init cX2_init 3 none :: ([.methodLink RX2 1 objectInit, .instanceMethod objectInit, .code objectInit ⟨#[0xb1]⟩ 1 none, .fieldLink RX2 7 "PalletStack$Line" "isAside" "Z", .fieldLink RX2 13 "PalletStack$Line" "kind" "LPalletStack$Kind;", .fieldLink RX2 17 "PalletStack$Line" "count" "I"] ++ wsX20)
def wsX3_init_r1 : List Cond := [Cond.methodLink RX3 3 objectInit, Cond.instanceMethod objectInit, Cond.code objectInit ⟨#[0xb1]⟩ 1 none, Cond.classLink RX3 9 RX1, Cond.fieldLink RX3 11 "PalletStack" "kinds" "[LPalletStack$Kind;", Cond.fieldLink RX3 15 "PalletStack" "kindCount" "I", Cond.fieldLink RX3 19 "PalletStack" "greatestHeight" "I", Cond.fieldLink RX3 22 "PalletStack" "support" "I", Cond.fieldLink RX3 25 "PalletStack" "limit" "I", Cond.fieldLink RX3 28 "PalletStack" "hasCornerRule" "Z", Cond.classLink RX3 32 RX0, Cond.fieldLink RX3 34 "PalletStack" "items" "[LPalletStack$Item;", Cond.fieldLink RX3 38 "PalletStack" "cameCount" "I", Cond.fieldLink RX3 41 "PalletStack" "onPalletCount" "I", Cond.fieldLink RX3 44 "PalletStack" "weightOnPallet" "I", Cond.arrayClass .int, Cond.fieldLink RX3 47 "PalletStack" "tops" "[I", Cond.instantiable RX0 18, Cond.initialized RX0, Cond.fieldLink RX3 52 "PalletStack" "trial" "LPalletStack$Item;", Cond.classLink RX3 56 RX2, Cond.fieldLink RX3 58 "PalletStack" "lines" "[LPalletStack$Line;", Cond.fieldLink RX3 62 "PalletStack" "lineCount" "I", Cond.instanceMethod yX0_init]
def wsX3_init_r2 : List Cond := [Cond.code yX0_init cX0_init 1 none, Cond.methodLink RX0 3 objectInit, Cond.fieldLink RX0 9 "PalletStack$Item" "kind" "I", Cond.fieldLink RX0 15 "PalletStack$Item" "weight" "I", Cond.fieldLink RX0 18 "PalletStack$Item" "strength" "I", Cond.fieldLink RX0 21 "PalletStack$Item" "isTurned" "Z", Cond.fieldLink RX0 25 "PalletStack$Item" "width" "I", Cond.fieldLink RX0 28 "PalletStack$Item" "depth" "I", Cond.fieldLink RX0 31 "PalletStack$Item" "x" "I", Cond.fieldLink RX0 34 "PalletStack$Item" "y" "I", Cond.fieldLink RX0 37 "PalletStack$Item" "bottom" "I", Cond.fieldLink RX0 40 "PalletStack$Item" "top" "I", Cond.fieldLink RX0 43 "PalletStack$Item" "ground" "I", Cond.fieldLink RX0 46 "PalletStack$Item" "load" "I", Cond.fieldLink RX0 49 "PalletStack$Item" "nextLoad" "I", Cond.fieldLink RX0 52 "PalletStack$Item" "isOnPallet" "Z", Cond.fieldLink RX0 55 "PalletStack$Item" "isReached" "Z", Cond.fieldLink RX0 58 "PalletStack$Item" "supportCount" "I", Cond.classLink RX0 10 RX0, Cond.fieldLink RX0 61 "PalletStack$Item" "supports" "[LPalletStack$Item;", Cond.fieldLink RX0 65 "PalletStack$Item" "supportCells" "[I"]
def wsX3_init : List Cond := .code yX3_init cX3_init 2 none :: ((wsX3_init_r1 ++ wsX3_init_r2) ++ wsX30 ++ wsX00)
def wsX3_isWithin : List Cond := .code yX3_isWithin cX3_isWithin 3 (some .boolean) :: ([])
def wsX3_addKind_r1 : List Cond := [Cond.classLink RX3 69 "java/lang/IllegalArgumentException", Cond.initialized "java/lang/IllegalArgumentException", Cond.classLink RX3 72 "java/lang/IllegalStateException", Cond.initialized "java/lang/IllegalStateException", Cond.fieldLink RX3 15 "PalletStack" "kindCount" "I", Cond.fieldLink RX3 11 "PalletStack" "kinds" "[LPalletStack$Kind;", Cond.classLink RX3 9 RX1, Cond.instantiable RX1 8, Cond.initialized RX1, Cond.methodLink RX3 65 yX3_isWithin, Cond.static yX3_isWithin, Cond.initialized RX3, Cond.code yX3_isWithin cX3_isWithin 3 (some .boolean), Cond.methodLink RX3 75 yX1_init, Cond.instanceMethod yX1_init, Cond.code yX1_init cX1_init 8 none, Cond.methodLink RX1 1 objectInit, Cond.instanceMethod objectInit, Cond.code objectInit ⟨#[0xb1]⟩ 1 none, Cond.fieldLink RX1 7 "PalletStack$Kind" "number" "I", Cond.fieldLink RX1 13 "PalletStack$Kind" "width" "I", Cond.fieldLink RX1 16 "PalletStack$Kind" "depth" "I", Cond.fieldLink RX1 19 "PalletStack$Kind" "height" "I", Cond.fieldLink RX1 22 "PalletStack$Kind" "weight" "I"]
def wsX3_addKind_r2 : List Cond := [Cond.fieldLink RX1 25 "PalletStack$Kind" "strength" "I", Cond.fieldLink RX1 28 "PalletStack$Kind" "canTurn" "Z", Cond.fieldLink RX1 32 "PalletStack$Kind" "needsDeck" "Z"]
def wsX3_addKind : List Cond := .code yX3_addKind cX3_addKind 8 (some .int) :: ((wsX3_addKind_r1 ++ wsX3_addKind_r2) ++ wsX30 ++ wsX10 ++ (vx_at0 RX3 71 "java/lang/IllegalArgumentException" ["java/lang/RuntimeException", "java/lang/Exception"]).filter goodWord ++ (vx_at0 RX3 74 "java/lang/IllegalStateException" ["java/lang/RuntimeException", "java/lang/Exception"]).filter goodWord)
def wsX3_setRules : List Cond := .code yX3_setRules cX3_setRules 6 (some .int) :: ([.classLink RX3 69 "java/lang/IllegalArgumentException", .initialized "java/lang/IllegalArgumentException", .fieldLink RX3 19 "PalletStack" "greatestHeight" "I", .fieldLink RX3 22 "PalletStack" "support" "I", .fieldLink RX3 25 "PalletStack" "limit" "I", .fieldLink RX3 28 "PalletStack" "hasCornerRule" "Z", .methodLink RX3 65 yX3_isWithin, .static yX3_isWithin, .initialized RX3, .code yX3_isWithin cX3_isWithin 3 (some .boolean)] ++ wsX30 ++ (vx_at0 RX3 71 "java/lang/IllegalArgumentException" ["java/lang/RuntimeException", "java/lang/Exception"]).filter goodWord)
def wsX3_countOf : List Cond := .code yX3_countOf cX3_countOf 2 (some .int) :: ([.fieldLink RX3 15 "PalletStack" "kindCount" "I", .fieldLink RX3 41 "PalletStack" "onPalletCount" "I", .fieldLink RX3 38 "PalletStack" "cameCount" "I", .fieldLink RX3 62 "PalletStack" "lineCount" "I"] ++ wsX30)
def wsX3_count : List Cond := .code yX3_count cX3_count 2 (some .int) :: ([.classLink RX3 78 "java/lang/IndexOutOfBoundsException", .initialized "java/lang/IndexOutOfBoundsException", .methodLink RX3 65 yX3_isWithin, .static yX3_isWithin, .initialized RX3, .code yX3_isWithin cX3_isWithin 3 (some .boolean), .methodLink RX3 81 yX3_countOf, .instanceMethod yX3_countOf, .selects RX3 yX3_countOf yX3_countOf, .code yX3_countOf cX3_countOf 2 (some .int), .fieldLink RX3 15 "PalletStack" "kindCount" "I", .fieldLink RX3 41 "PalletStack" "onPalletCount" "I", .fieldLink RX3 38 "PalletStack" "cameCount" "I", .fieldLink RX3 62 "PalletStack" "lineCount" "I"] ++ wsX30 ++ (vx_at0 RX3 80 "java/lang/IndexOutOfBoundsException" ["java/lang/RuntimeException", "java/lang/Exception"]).filter goodWord)
def wsX3_itemOf : List Cond := .code yX3_itemOf cX3_itemOf 3 (some (.object "PalletStack$Item")) :: ([.fieldLink RX3 38 "PalletStack" "cameCount" "I", .fieldLink RX3 34 "PalletStack" "items" "[LPalletStack$Item;", .fieldLink RX3 104 "PalletStack$Item" "isOnPallet" "Z"] ++ wsX30 ++ wsX00)
def wsX3_factOf_r1 : List Cond := [Cond.fieldLink RX3 203 "PalletStack$Item" "kind" "I", Cond.fieldLink RX3 182 "PalletStack$Item" "x" "I", Cond.fieldLink RX3 176 "PalletStack$Item" "y" "I", Cond.fieldLink RX3 131 "PalletStack$Item" "bottom" "I", Cond.fieldLink RX3 134 "PalletStack$Item" "top" "I", Cond.fieldLink RX3 205 "PalletStack$Item" "isTurned" "Z", Cond.fieldLink RX3 208 "PalletStack$Item" "load" "I", Cond.fieldLink RX3 211 "PalletStack$Item" "supportCount" "I", Cond.fieldLink RX3 214 "PalletStack$Item" "ground" "I", Cond.methodLink RX3 100 yX3_standingOn, Cond.instanceMethod yX3_standingOn, Cond.selects RX3 yX3_standingOn yX3_standingOn, Cond.initialized RX3, Cond.code yX3_standingOn cX3_standingOn 5 (some .int), Cond.fieldLink RX3 38 "PalletStack" "cameCount" "I", Cond.methodLink RX3 96 yX3_itemOf, Cond.instanceMethod yX3_itemOf, Cond.selects RX3 yX3_itemOf yX3_itemOf, Cond.code yX3_itemOf cX3_itemOf 3 (some (.object "PalletStack$Item")), Cond.fieldLink RX3 34 "PalletStack" "items" "[LPalletStack$Item;", Cond.fieldLink RX3 104 "PalletStack$Item" "isOnPallet" "Z", Cond.methodLink RX3 223 yX0_standsOn, Cond.instanceMethod yX0_standsOn, Cond.selects RX0 yX0_standsOn yX0_standsOn]
def wsX3_factOf_r2 : List Cond := [Cond.initialized RX0, Cond.code yX0_standsOn cX0_standsOn 2 (some .boolean), Cond.fieldLink RX0 37 "PalletStack$Item" "bottom" "I", Cond.fieldLink RX0 40 "PalletStack$Item" "top" "I", Cond.methodLink RX0 87 yX0_cellsInCommon, Cond.instanceMethod yX0_cellsInCommon, Cond.selects RX0 yX0_cellsInCommon yX0_cellsInCommon, Cond.code yX0_cellsInCommon cX0_cellsInCommon 4 (some .int), Cond.fieldLink RX0 31 "PalletStack$Item" "x" "I", Cond.fieldLink RX0 25 "PalletStack$Item" "width" "I", Cond.methodLink RX0 78 Lib.Math.min.name, Cond.static Lib.Math.min.name, Cond.initialized "java/lang/Math", Cond.code Lib.Math.min.name Lib.Math.min.code 2 (some .int), Cond.methodLink RX0 84 Lib.Math.max.name, Cond.static Lib.Math.max.name, Cond.code Lib.Math.max.name Lib.Math.max.code 2 (some .int), Cond.fieldLink RX0 34 "PalletStack$Item" "y" "I", Cond.fieldLink RX0 28 "PalletStack$Item" "depth" "I"]
def wsX3_factOf : List Cond := .code yX3_factOf cX3_factOf 3 (some .int) :: ((wsX3_factOf_r1 ++ wsX3_factOf_r2) ++ wsX00 ++ wsX30)
def wsX3_item_r1 : List Cond := [Cond.classLink RX3 78 "java/lang/IndexOutOfBoundsException", Cond.initialized "java/lang/IndexOutOfBoundsException", Cond.methodLink RX3 96 yX3_itemOf, Cond.instanceMethod yX3_itemOf, Cond.selects RX3 yX3_itemOf yX3_itemOf, Cond.initialized RX3, Cond.code yX3_itemOf cX3_itemOf 3 (some (.object "PalletStack$Item")), Cond.fieldLink RX3 38 "PalletStack" "cameCount" "I", Cond.fieldLink RX3 34 "PalletStack" "items" "[LPalletStack$Item;", Cond.fieldLink RX3 104 "PalletStack$Item" "isOnPallet" "Z", Cond.methodLink RX3 65 yX3_isWithin, Cond.static yX3_isWithin, Cond.code yX3_isWithin cX3_isWithin 3 (some .boolean), Cond.methodLink RX3 116 yX3_factOf, Cond.instanceMethod yX3_factOf, Cond.selects RX3 yX3_factOf yX3_factOf, Cond.code yX3_factOf cX3_factOf 3 (some .int), Cond.fieldLink RX3 203 "PalletStack$Item" "kind" "I", Cond.fieldLink RX3 182 "PalletStack$Item" "x" "I", Cond.fieldLink RX3 176 "PalletStack$Item" "y" "I", Cond.fieldLink RX3 131 "PalletStack$Item" "bottom" "I", Cond.fieldLink RX3 134 "PalletStack$Item" "top" "I", Cond.fieldLink RX3 205 "PalletStack$Item" "isTurned" "Z", Cond.fieldLink RX3 208 "PalletStack$Item" "load" "I"]
def wsX3_item_r2 : List Cond := [Cond.fieldLink RX3 211 "PalletStack$Item" "supportCount" "I", Cond.fieldLink RX3 214 "PalletStack$Item" "ground" "I", Cond.methodLink RX3 100 yX3_standingOn, Cond.instanceMethod yX3_standingOn, Cond.selects RX3 yX3_standingOn yX3_standingOn, Cond.code yX3_standingOn cX3_standingOn 5 (some .int), Cond.methodLink RX3 223 yX0_standsOn, Cond.instanceMethod yX0_standsOn, Cond.selects RX0 yX0_standsOn yX0_standsOn, Cond.initialized RX0, Cond.code yX0_standsOn cX0_standsOn 2 (some .boolean), Cond.fieldLink RX0 37 "PalletStack$Item" "bottom" "I", Cond.fieldLink RX0 40 "PalletStack$Item" "top" "I", Cond.methodLink RX0 87 yX0_cellsInCommon, Cond.instanceMethod yX0_cellsInCommon, Cond.selects RX0 yX0_cellsInCommon yX0_cellsInCommon, Cond.code yX0_cellsInCommon cX0_cellsInCommon 4 (some .int), Cond.fieldLink RX0 31 "PalletStack$Item" "x" "I", Cond.fieldLink RX0 25 "PalletStack$Item" "width" "I", Cond.methodLink RX0 78 Lib.Math.min.name, Cond.static Lib.Math.min.name, Cond.initialized "java/lang/Math", Cond.code Lib.Math.min.name Lib.Math.min.code 2 (some .int), Cond.methodLink RX0 84 Lib.Math.max.name]
def wsX3_item_r3 : List Cond := [Cond.static Lib.Math.max.name, Cond.code Lib.Math.max.name Lib.Math.max.code 2 (some .int), Cond.fieldLink RX0 34 "PalletStack$Item" "y" "I", Cond.fieldLink RX0 28 "PalletStack$Item" "depth" "I"]
def wsX3_item : List Cond := .code yX3_item cX3_item 4 (some .int) :: ((wsX3_item_r1 ++ (wsX3_item_r2 ++ wsX3_item_r3)) ++ wsX30 ++ wsX00 ++ (vx_at0 RX3 80 "java/lang/IndexOutOfBoundsException" ["java/lang/RuntimeException", "java/lang/Exception"]).filter goodWord)
def wsX3_isCell : List Cond := .code yX3_isCell cX3_isCell 2 (some .boolean) :: ([.methodLink RX3 65 yX3_isWithin, .static yX3_isWithin, .initialized RX3, .code yX3_isWithin cX3_isWithin 3 (some .boolean)])
def wsX3_at_r1 : List Cond := [Cond.classLink RX3 78 "java/lang/IndexOutOfBoundsException", Cond.initialized "java/lang/IndexOutOfBoundsException", Cond.fieldLink RX3 38 "PalletStack" "cameCount" "I", Cond.fieldLink RX3 131 "PalletStack$Item" "bottom" "I", Cond.fieldLink RX3 134 "PalletStack$Item" "top" "I", Cond.methodLink RX3 120 yX3_isCell, Cond.static yX3_isCell, Cond.initialized RX3, Cond.code yX3_isCell cX3_isCell 2 (some .boolean), Cond.methodLink RX3 65 yX3_isWithin, Cond.static yX3_isWithin, Cond.code yX3_isWithin cX3_isWithin 3 (some .boolean), Cond.methodLink RX3 96 yX3_itemOf, Cond.instanceMethod yX3_itemOf, Cond.selects RX3 yX3_itemOf yX3_itemOf, Cond.code yX3_itemOf cX3_itemOf 3 (some (.object "PalletStack$Item")), Cond.fieldLink RX3 34 "PalletStack" "items" "[LPalletStack$Item;", Cond.fieldLink RX3 104 "PalletStack$Item" "isOnPallet" "Z", Cond.methodLink RX3 128 yX0_covers, Cond.instanceMethod yX0_covers, Cond.selects RX0 yX0_covers yX0_covers, Cond.initialized RX0, Cond.code yX0_covers cX0_covers 3 (some .boolean), Cond.fieldLink RX0 31 "PalletStack$Item" "x" "I"]
def wsX3_at_r2 : List Cond := [Cond.fieldLink RX0 25 "PalletStack$Item" "width" "I", Cond.fieldLink RX0 34 "PalletStack$Item" "y" "I", Cond.fieldLink RX0 28 "PalletStack$Item" "depth" "I"]
def wsX3_at : List Cond := .code yX3_at cX3_at 6 (some .int) :: ((wsX3_at_r1 ++ wsX3_at_r2) ++ wsX30 ++ wsX00 ++ (vx_at0 RX3 80 "java/lang/IndexOutOfBoundsException" ["java/lang/RuntimeException", "java/lang/Exception"]).filter goodWord)
def wsX3_isCarriedBy : List Cond := .code yX3_isCarriedBy cX3_isCarriedBy 5 (some .boolean) :: ([.fieldLink RX3 38 "PalletStack" "cameCount" "I", .fieldLink RX3 227 "PalletStack$Item" "isReached" "Z", .methodLink RX3 96 yX3_itemOf, .instanceMethod yX3_itemOf, .selects RX3 yX3_itemOf yX3_itemOf, .initialized RX3, .code yX3_itemOf cX3_itemOf 3 (some (.object "PalletStack$Item")), .fieldLink RX3 34 "PalletStack" "items" "[LPalletStack$Item;", .fieldLink RX3 104 "PalletStack$Item" "isOnPallet" "Z", .methodLink RX3 230 yX0_reachSupports, .instanceMethod yX0_reachSupports, .selects RX0 yX0_reachSupports yX0_reachSupports, .initialized RX0, .code yX0_reachSupports cX0_reachSupports 3 none, .fieldLink RX0 58 "PalletStack$Item" "supportCount" "I", .fieldLink RX0 61 "PalletStack$Item" "supports" "[LPalletStack$Item;", .fieldLink RX0 55 "PalletStack$Item" "isReached" "Z"] ++ wsX30 ++ wsX00)
def wsX3_restsOn : List Cond := .code yX3_restsOn cX3_restsOn 5 (some .boolean) :: ([.classLink RX3 78 "java/lang/IndexOutOfBoundsException", .initialized "java/lang/IndexOutOfBoundsException", .methodLink RX3 96 yX3_itemOf, .instanceMethod yX3_itemOf, .selects RX3 yX3_itemOf yX3_itemOf, .initialized RX3, .code yX3_itemOf cX3_itemOf 3 (some (.object "PalletStack$Item")), .fieldLink RX3 38 "PalletStack" "cameCount" "I", .fieldLink RX3 34 "PalletStack" "items" "[LPalletStack$Item;", .fieldLink RX3 104 "PalletStack$Item" "isOnPallet" "Z", .methodLink RX3 137 yX3_isCarriedBy, .instanceMethod yX3_isCarriedBy, .selects RX3 yX3_isCarriedBy yX3_isCarriedBy, .code yX3_isCarriedBy cX3_isCarriedBy 5 (some .boolean), .fieldLink RX3 227 "PalletStack$Item" "isReached" "Z", .methodLink RX3 230 yX0_reachSupports, .instanceMethod yX0_reachSupports, .selects RX0 yX0_reachSupports yX0_reachSupports, .initialized RX0, .code yX0_reachSupports cX0_reachSupports 3 none, .fieldLink RX0 58 "PalletStack$Item" "supportCount" "I", .fieldLink RX0 61 "PalletStack$Item" "supports" "[LPalletStack$Item;", .fieldLink RX0 55 "PalletStack$Item" "isReached" "Z"] ++ wsX30 ++ wsX00 ++ (vx_at0 RX3 80 "java/lang/IndexOutOfBoundsException" ["java/lang/RuntimeException", "java/lang/Exception"]).filter goodWord)
def wsX3_kindOf : List Cond := .code yX3_kindOf cX3_kindOf 2 (some (.object "PalletStack$Kind")) :: ([.fieldLink RX3 15 "PalletStack" "kindCount" "I", .fieldLink RX3 11 "PalletStack" "kinds" "[LPalletStack$Kind;", .methodLink RX3 65 yX3_isWithin, .static yX3_isWithin, .initialized RX3, .code yX3_isWithin cX3_isWithin 3 (some .boolean)] ++ wsX30)
def wsX3_addLine_r1 : List Cond := [Cond.classLink RX3 78 "java/lang/IndexOutOfBoundsException", Cond.initialized "java/lang/IndexOutOfBoundsException", Cond.classLink RX3 69 "java/lang/IllegalArgumentException", Cond.initialized "java/lang/IllegalArgumentException", Cond.classLink RX3 72 "java/lang/IllegalStateException", Cond.initialized "java/lang/IllegalStateException", Cond.fieldLink RX3 62 "PalletStack" "lineCount" "I", Cond.fieldLink RX3 58 "PalletStack" "lines" "[LPalletStack$Line;", Cond.classLink RX3 56 RX2, Cond.instantiable RX2 3, Cond.initialized RX2, Cond.methodLink RX3 85 yX3_kindOf, Cond.instanceMethod yX3_kindOf, Cond.selects RX3 yX3_kindOf yX3_kindOf, Cond.initialized RX3, Cond.code yX3_kindOf cX3_kindOf 2 (some (.object "PalletStack$Kind")), Cond.fieldLink RX3 15 "PalletStack" "kindCount" "I", Cond.fieldLink RX3 11 "PalletStack" "kinds" "[LPalletStack$Kind;", Cond.methodLink RX3 65 yX3_isWithin, Cond.static yX3_isWithin, Cond.code yX3_isWithin cX3_isWithin 3 (some .boolean), Cond.methodLink RX3 149 yX2_init, Cond.instanceMethod yX2_init, Cond.code yX2_init cX2_init 3 none]
def wsX3_addLine_r2 : List Cond := [Cond.methodLink RX2 1 objectInit, Cond.instanceMethod objectInit, Cond.code objectInit ⟨#[0xb1]⟩ 1 none, Cond.fieldLink RX2 7 "PalletStack$Line" "isAside" "Z", Cond.fieldLink RX2 13 "PalletStack$Line" "kind" "LPalletStack$Kind;", Cond.fieldLink RX2 17 "PalletStack$Line" "count" "I"]
def wsX3_addLine : List Cond := .code yX3_addLine cX3_addLine 5 (some .int) :: ((wsX3_addLine_r1 ++ wsX3_addLine_r2) ++ wsX30 ++ wsX20 ++ (vx_at0 RX3 80 "java/lang/IndexOutOfBoundsException" ["java/lang/RuntimeException", "java/lang/Exception"]).filter goodWord ++ (vx_at0 RX3 71 "java/lang/IllegalArgumentException" ["java/lang/RuntimeException", "java/lang/Exception"]).filter goodWord ++ (vx_at0 RX3 74 "java/lang/IllegalStateException" ["java/lang/RuntimeException", "java/lang/Exception"]).filter goodWord)
def wsX3_lineOf : List Cond := .code yX3_lineOf cX3_lineOf 2 (some (.object "PalletStack$Line")) :: ([.fieldLink RX3 62 "PalletStack" "lineCount" "I", .fieldLink RX3 58 "PalletStack" "lines" "[LPalletStack$Line;", .methodLink RX3 65 yX3_isWithin, .static yX3_isWithin, .initialized RX3, .code yX3_isWithin cX3_isWithin 3 (some .boolean)] ++ wsX30)
def wsX3_nextLine : List Cond := .code yX3_nextLine cX3_nextLine 4 (some (.object "PalletStack$Line")) :: ([.fieldLink RX3 62 "PalletStack" "lineCount" "I", .fieldLink RX3 167 "PalletStack$Line" "count" "I", .fieldLink RX3 156 "PalletStack$Line" "isAside" "Z", .fieldLink RX3 163 "PalletStack$Line" "kind" "LPalletStack$Kind;", .methodLink RX3 152 yX3_lineOf, .instanceMethod yX3_lineOf, .selects RX3 yX3_lineOf yX3_lineOf, .initialized RX3, .code yX3_lineOf cX3_lineOf 2 (some (.object "PalletStack$Line")), .fieldLink RX3 58 "PalletStack" "lines" "[LPalletStack$Line;", .methodLink RX3 65 yX3_isWithin, .static yX3_isWithin, .code yX3_isWithin cX3_isWithin 3 (some .boolean), .methodLink RX3 305 yX1_comesBefore, .instanceMethod yX1_comesBefore, .selects RX1 yX1_comesBefore yX1_comesBefore, .initialized RX1, .code yX1_comesBefore cX1_comesBefore 2 (some .boolean), .fieldLink RX1 32 "PalletStack$Kind" "needsDeck" "Z", .fieldLink RX1 25 "PalletStack$Kind" "strength" "I", .fieldLink RX1 22 "PalletStack$Kind" "weight" "I"] ++ wsX30 ++ wsX20 ++ wsX10)
def wsX3_xOf : List Cond := .code yX3_xOf cX3_xOf 1 (some .int) :: ([])
def wsX3_yOf : List Cond := .code yX3_yOf cX3_yOf 1 (some .int) :: ([])
def wsX3_isTurnedIn : List Cond := .code yX3_isTurnedIn cX3_isTurnedIn 1 (some .boolean) :: ([])
def wsX3_isInField : List Cond := .code yX3_isInField cX3_isInField 6 (some .boolean) :: ([.fieldLink RX3 245 "PalletStack$Kind" "canTurn" "Z", .fieldLink RX3 248 "PalletStack$Kind" "depth" "I", .fieldLink RX3 249 "PalletStack$Kind" "width" "I", .methodLink RX3 65 yX3_isWithin, .static yX3_isWithin, .initialized RX3, .code yX3_isWithin cX3_isWithin 3 (some .boolean)] ++ wsX10)
def wsX3_topOf : List Cond := .code yX3_topOf cX3_topOf 4 (some .int) :: ([.fieldLink RX3 47 "PalletStack" "tops" "[I"] ++ wsX30)
def wsX3_letDown_r1 : List Cond := [Cond.fieldLink RX3 52 "PalletStack" "trial" "LPalletStack$Item;", Cond.fieldLink RX3 182 "PalletStack$Item" "x" "I", Cond.fieldLink RX3 176 "PalletStack$Item" "y" "I", Cond.fieldLink RX3 179 "PalletStack$Item" "depth" "I", Cond.fieldLink RX3 185 "PalletStack$Item" "width" "I", Cond.fieldLink RX3 131 "PalletStack$Item" "bottom" "I", Cond.fieldLink RX3 254 "PalletStack$Kind" "height" "I", Cond.fieldLink RX3 134 "PalletStack$Item" "top" "I", Cond.fieldLink RX3 214 "PalletStack$Item" "ground" "I", Cond.methodLink RX3 250 yX0_shape, Cond.instanceMethod yX0_shape, Cond.selects RX0 yX0_shape yX0_shape, Cond.initialized RX0, Cond.code yX0_shape cX0_shape 3 none, Cond.fieldLink RX0 69 "PalletStack$Kind" "number" "I", Cond.fieldLink RX0 9 "PalletStack$Item" "kind" "I", Cond.fieldLink RX0 74 "PalletStack$Kind" "weight" "I", Cond.fieldLink RX0 15 "PalletStack$Item" "weight" "I", Cond.fieldLink RX0 75 "PalletStack$Kind" "strength" "I", Cond.fieldLink RX0 18 "PalletStack$Item" "strength" "I", Cond.fieldLink RX0 21 "PalletStack$Item" "isTurned" "Z", Cond.fieldLink RX0 76 "PalletStack$Kind" "depth" "I", Cond.fieldLink RX0 77 "PalletStack$Kind" "width" "I", Cond.fieldLink RX0 25 "PalletStack$Item" "width" "I"]
def wsX3_letDown_r2 : List Cond := [Cond.fieldLink RX0 28 "PalletStack$Item" "depth" "I", Cond.methodLink RX3 124 yX3_topOf, Cond.instanceMethod yX3_topOf, Cond.selects RX3 yX3_topOf yX3_topOf, Cond.initialized RX3, Cond.code yX3_topOf cX3_topOf 4 (some .int), Cond.fieldLink RX3 47 "PalletStack" "tops" "[I"]
def wsX3_letDown : List Cond := .code yX3_letDown cX3_letDown 10 none :: ((wsX3_letDown_r1 ++ wsX3_letDown_r2) ++ wsX30 ++ wsX00 ++ wsX10)
def wsX3_isGround : List Cond := .code yX3_isGround cX3_isGround 3 (some .boolean) :: ([.fieldLink RX3 52 "PalletStack" "trial" "LPalletStack$Item;", .fieldLink RX3 131 "PalletStack$Item" "bottom" "I", .methodLink RX3 124 yX3_topOf, .instanceMethod yX3_topOf, .selects RX3 yX3_topOf yX3_topOf, .initialized RX3, .code yX3_topOf cX3_topOf 4 (some .int), .fieldLink RX3 47 "PalletStack" "tops" "[I"] ++ wsX30 ++ wsX00)
def wsX3_hasGroundAtCorners : List Cond := .code yX3_hasGroundAtCorners cX3_hasGroundAtCorners 3 (some .boolean) :: ([.fieldLink RX3 52 "PalletStack" "trial" "LPalletStack$Item;", .fieldLink RX3 182 "PalletStack$Item" "x" "I", .fieldLink RX3 185 "PalletStack$Item" "width" "I", .fieldLink RX3 176 "PalletStack$Item" "y" "I", .fieldLink RX3 179 "PalletStack$Item" "depth" "I", .methodLink RX3 264 yX3_isGround, .instanceMethod yX3_isGround, .selects RX3 yX3_isGround yX3_isGround, .initialized RX3, .code yX3_isGround cX3_isGround 3 (some .boolean), .fieldLink RX3 131 "PalletStack$Item" "bottom" "I", .methodLink RX3 124 yX3_topOf, .instanceMethod yX3_topOf, .selects RX3 yX3_topOf yX3_topOf, .code yX3_topOf cX3_topOf 4 (some .int), .fieldLink RX3 47 "PalletStack" "tops" "[I"] ++ wsX30 ++ wsX00)
def wsX3_findSupports_r1 : List Cond := [Cond.fieldLink RX3 52 "PalletStack" "trial" "LPalletStack$Item;", Cond.fieldLink RX3 211 "PalletStack$Item" "supportCount" "I", Cond.fieldLink RX3 38 "PalletStack" "cameCount" "I", Cond.fieldLink RX3 134 "PalletStack$Item" "top" "I", Cond.fieldLink RX3 131 "PalletStack$Item" "bottom" "I", Cond.methodLink RX3 96 yX3_itemOf, Cond.instanceMethod yX3_itemOf, Cond.selects RX3 yX3_itemOf yX3_itemOf, Cond.initialized RX3, Cond.code yX3_itemOf cX3_itemOf 3 (some (.object "PalletStack$Item")), Cond.fieldLink RX3 34 "PalletStack" "items" "[LPalletStack$Item;", Cond.fieldLink RX3 104 "PalletStack$Item" "isOnPallet" "Z", Cond.methodLink RX3 257 yX0_cellsInCommon, Cond.instanceMethod yX0_cellsInCommon, Cond.selects RX0 yX0_cellsInCommon yX0_cellsInCommon, Cond.initialized RX0, Cond.code yX0_cellsInCommon cX0_cellsInCommon 4 (some .int), Cond.fieldLink RX0 31 "PalletStack$Item" "x" "I", Cond.fieldLink RX0 25 "PalletStack$Item" "width" "I", Cond.methodLink RX0 78 Lib.Math.min.name, Cond.static Lib.Math.min.name, Cond.initialized "java/lang/Math", Cond.code Lib.Math.min.name Lib.Math.min.code 2 (some .int), Cond.methodLink RX0 84 Lib.Math.max.name]
def wsX3_findSupports_r2 : List Cond := [Cond.static Lib.Math.max.name, Cond.code Lib.Math.max.name Lib.Math.max.code 2 (some .int), Cond.fieldLink RX0 34 "PalletStack$Item" "y" "I", Cond.fieldLink RX0 28 "PalletStack$Item" "depth" "I", Cond.methodLink RX3 260 yX0_addSupport, Cond.instanceMethod yX0_addSupport, Cond.selects RX0 yX0_addSupport yX0_addSupport, Cond.code yX0_addSupport cX0_addSupport 3 none, Cond.fieldLink RX0 58 "PalletStack$Item" "supportCount" "I", Cond.fieldLink RX0 61 "PalletStack$Item" "supports" "[LPalletStack$Item;", Cond.fieldLink RX0 65 "PalletStack$Item" "supportCells" "[I"]
def wsX3_findSupports : List Cond := .code yX3_findSupports cX3_findSupports 3 none :: ((wsX3_findSupports_r1 ++ wsX3_findSupports_r2) ++ wsX30 ++ wsX00)
def wsX3_forgetNextLoads : List Cond := .code yX3_forgetNextLoads cX3_forgetNextLoads 3 none :: ([.fieldLink RX3 38 "PalletStack" "cameCount" "I", .fieldLink RX3 233 "PalletStack$Item" "nextLoad" "I", .methodLink RX3 96 yX3_itemOf, .instanceMethod yX3_itemOf, .selects RX3 yX3_itemOf yX3_itemOf, .initialized RX3, .code yX3_itemOf cX3_itemOf 3 (some (.object "PalletStack$Item")), .fieldLink RX3 34 "PalletStack" "items" "[LPalletStack$Item;", .fieldLink RX3 104 "PalletStack$Item" "isOnPallet" "Z"] ++ wsX30 ++ wsX00)
def wsX3_isTooMuchLoad_r1 : List Cond := [Cond.fieldLink RX3 52 "PalletStack" "trial" "LPalletStack$Item;", Cond.fieldLink RX3 233 "PalletStack$Item" "nextLoad" "I", Cond.fieldLink RX3 38 "PalletStack" "cameCount" "I", Cond.fieldLink RX3 242 "PalletStack$Item" "strength" "I", Cond.methodLink RX3 236 yX3_forgetNextLoads, Cond.instanceMethod yX3_forgetNextLoads, Cond.selects RX3 yX3_forgetNextLoads yX3_forgetNextLoads, Cond.initialized RX3, Cond.code yX3_forgetNextLoads cX3_forgetNextLoads 3 none, Cond.methodLink RX3 96 yX3_itemOf, Cond.instanceMethod yX3_itemOf, Cond.selects RX3 yX3_itemOf yX3_itemOf, Cond.code yX3_itemOf cX3_itemOf 3 (some (.object "PalletStack$Item")), Cond.fieldLink RX3 34 "PalletStack" "items" "[LPalletStack$Item;", Cond.fieldLink RX3 104 "PalletStack$Item" "isOnPallet" "Z", Cond.methodLink RX3 239 yX0_passLoadDown, Cond.instanceMethod yX0_passLoadDown, Cond.selects RX0 yX0_passLoadDown yX0_passLoadDown, Cond.initialized RX0, Cond.code yX0_passLoadDown cX0_passLoadDown 3 none, Cond.fieldLink RX0 58 "PalletStack$Item" "supportCount" "I", Cond.fieldLink RX0 61 "PalletStack$Item" "supports" "[LPalletStack$Item;", Cond.fieldLink RX0 43 "PalletStack$Item" "ground" "I", Cond.fieldLink RX0 49 "PalletStack$Item" "nextLoad" "I"]
def wsX3_isTooMuchLoad_r2 : List Cond := [Cond.fieldLink RX0 15 "PalletStack$Item" "weight" "I", Cond.fieldLink RX0 65 "PalletStack$Item" "supportCells" "[I"]
def wsX3_isTooMuchLoad : List Cond := .code yX3_isTooMuchLoad cX3_isTooMuchLoad 3 (some .boolean) :: ((wsX3_isTooMuchLoad_r1 ++ wsX3_isTooMuchLoad_r2) ++ wsX30 ++ wsX00)
def wsX3_brokenRule_r1 : List Cond := [Cond.fieldLink RX3 52 "PalletStack" "trial" "LPalletStack$Item;", Cond.fieldLink RX3 134 "PalletStack$Item" "top" "I", Cond.fieldLink RX3 19 "PalletStack" "greatestHeight" "I", Cond.fieldLink RX3 267 "PalletStack$Kind" "needsDeck" "Z", Cond.fieldLink RX3 131 "PalletStack$Item" "bottom" "I", Cond.fieldLink RX3 214 "PalletStack$Item" "ground" "I", Cond.fieldLink RX3 22 "PalletStack" "support" "I", Cond.fieldLink RX3 28 "PalletStack" "hasCornerRule" "Z", Cond.fieldLink RX3 44 "PalletStack" "weightOnPallet" "I", Cond.fieldLink RX3 107 "PalletStack$Item" "weight" "I", Cond.fieldLink RX3 25 "PalletStack" "limit" "I", Cond.methodLink RX3 188 yX0_cells, Cond.instanceMethod yX0_cells, Cond.selects RX0 yX0_cells yX0_cells, Cond.initialized RX0, Cond.code yX0_cells cX0_cells 1 (some .int), Cond.fieldLink RX0 25 "PalletStack$Item" "width" "I", Cond.fieldLink RX0 28 "PalletStack$Item" "depth" "I", Cond.methodLink RX3 270 yX3_hasGroundAtCorners, Cond.instanceMethod yX3_hasGroundAtCorners, Cond.selects RX3 yX3_hasGroundAtCorners yX3_hasGroundAtCorners, Cond.initialized RX3, Cond.code yX3_hasGroundAtCorners cX3_hasGroundAtCorners 3 (some .boolean), Cond.fieldLink RX3 182 "PalletStack$Item" "x" "I"]
def wsX3_brokenRule_r2 : List Cond := [Cond.fieldLink RX3 185 "PalletStack$Item" "width" "I", Cond.fieldLink RX3 176 "PalletStack$Item" "y" "I", Cond.fieldLink RX3 179 "PalletStack$Item" "depth" "I", Cond.methodLink RX3 264 yX3_isGround, Cond.instanceMethod yX3_isGround, Cond.selects RX3 yX3_isGround yX3_isGround, Cond.code yX3_isGround cX3_isGround 3 (some .boolean), Cond.methodLink RX3 124 yX3_topOf, Cond.instanceMethod yX3_topOf, Cond.selects RX3 yX3_topOf yX3_topOf, Cond.code yX3_topOf cX3_topOf 4 (some .int), Cond.fieldLink RX3 47 "PalletStack" "tops" "[I", Cond.methodLink RX3 274 yX3_findSupports, Cond.instanceMethod yX3_findSupports, Cond.selects RX3 yX3_findSupports yX3_findSupports, Cond.code yX3_findSupports cX3_findSupports 3 none, Cond.fieldLink RX3 211 "PalletStack$Item" "supportCount" "I", Cond.fieldLink RX3 38 "PalletStack" "cameCount" "I", Cond.methodLink RX3 96 yX3_itemOf, Cond.instanceMethod yX3_itemOf, Cond.selects RX3 yX3_itemOf yX3_itemOf, Cond.code yX3_itemOf cX3_itemOf 3 (some (.object "PalletStack$Item")), Cond.fieldLink RX3 34 "PalletStack" "items" "[LPalletStack$Item;", Cond.fieldLink RX3 104 "PalletStack$Item" "isOnPallet" "Z"]
def wsX3_brokenRule_r3 : List Cond := [Cond.methodLink RX3 257 yX0_cellsInCommon, Cond.instanceMethod yX0_cellsInCommon, Cond.selects RX0 yX0_cellsInCommon yX0_cellsInCommon, Cond.code yX0_cellsInCommon cX0_cellsInCommon 4 (some .int), Cond.fieldLink RX0 31 "PalletStack$Item" "x" "I", Cond.methodLink RX0 78 Lib.Math.min.name, Cond.static Lib.Math.min.name, Cond.initialized "java/lang/Math", Cond.code Lib.Math.min.name Lib.Math.min.code 2 (some .int), Cond.methodLink RX0 84 Lib.Math.max.name, Cond.static Lib.Math.max.name, Cond.code Lib.Math.max.name Lib.Math.max.code 2 (some .int), Cond.fieldLink RX0 34 "PalletStack$Item" "y" "I", Cond.methodLink RX3 260 yX0_addSupport, Cond.instanceMethod yX0_addSupport, Cond.selects RX0 yX0_addSupport yX0_addSupport, Cond.code yX0_addSupport cX0_addSupport 3 none, Cond.fieldLink RX0 58 "PalletStack$Item" "supportCount" "I", Cond.fieldLink RX0 61 "PalletStack$Item" "supports" "[LPalletStack$Item;", Cond.fieldLink RX0 65 "PalletStack$Item" "supportCells" "[I", Cond.methodLink RX3 277 yX3_isTooMuchLoad, Cond.instanceMethod yX3_isTooMuchLoad, Cond.selects RX3 yX3_isTooMuchLoad yX3_isTooMuchLoad, Cond.code yX3_isTooMuchLoad cX3_isTooMuchLoad 3 (some .boolean)]
def wsX3_brokenRule_r4 : List Cond := [Cond.fieldLink RX3 233 "PalletStack$Item" "nextLoad" "I", Cond.fieldLink RX3 242 "PalletStack$Item" "strength" "I", Cond.methodLink RX3 236 yX3_forgetNextLoads, Cond.instanceMethod yX3_forgetNextLoads, Cond.selects RX3 yX3_forgetNextLoads yX3_forgetNextLoads, Cond.code yX3_forgetNextLoads cX3_forgetNextLoads 3 none, Cond.methodLink RX3 239 yX0_passLoadDown, Cond.instanceMethod yX0_passLoadDown, Cond.selects RX0 yX0_passLoadDown yX0_passLoadDown, Cond.code yX0_passLoadDown cX0_passLoadDown 3 none, Cond.fieldLink RX0 43 "PalletStack$Item" "ground" "I", Cond.fieldLink RX0 49 "PalletStack$Item" "nextLoad" "I", Cond.fieldLink RX0 15 "PalletStack$Item" "weight" "I"]
def wsX3_brokenRule : List Cond := .code yX3_brokenRule cX3_brokenRule 2 (some .int) :: ((wsX3_brokenRule_r1 ++ (wsX3_brokenRule_r2 ++ (wsX3_brokenRule_r3 ++ wsX3_brokenRule_r4))) ++ wsX30 ++ wsX00 ++ wsX10)
def wsX3_bestPlace_r1 : List Cond := [Cond.fieldLink RX3 52 "PalletStack" "trial" "LPalletStack$Item;", Cond.fieldLink RX3 131 "PalletStack$Item" "bottom" "I", Cond.fieldLink RX3 214 "PalletStack$Item" "ground" "I", Cond.methodLink RX3 291 yX3_xOf, Cond.static yX3_xOf, Cond.initialized RX3, Cond.code yX3_xOf cX3_xOf 1 (some .int), Cond.methodLink RX3 294 yX3_yOf, Cond.static yX3_yOf, Cond.code yX3_yOf cX3_yOf 1 (some .int), Cond.methodLink RX3 297 yX3_isTurnedIn, Cond.static yX3_isTurnedIn, Cond.code yX3_isTurnedIn cX3_isTurnedIn 1 (some .boolean), Cond.methodLink RX3 280 yX3_isInField, Cond.static yX3_isInField, Cond.code yX3_isInField cX3_isInField 6 (some .boolean), Cond.fieldLink RX3 245 "PalletStack$Kind" "canTurn" "Z", Cond.fieldLink RX3 248 "PalletStack$Kind" "depth" "I", Cond.fieldLink RX3 249 "PalletStack$Kind" "width" "I", Cond.methodLink RX3 65 yX3_isWithin, Cond.static yX3_isWithin, Cond.code yX3_isWithin cX3_isWithin 3 (some .boolean), Cond.methodLink RX3 284 yX3_letDown, Cond.instanceMethod yX3_letDown]
def wsX3_bestPlace_r2 : List Cond := [Cond.selects RX3 yX3_letDown yX3_letDown, Cond.code yX3_letDown cX3_letDown 10 none, Cond.fieldLink RX3 182 "PalletStack$Item" "x" "I", Cond.fieldLink RX3 176 "PalletStack$Item" "y" "I", Cond.fieldLink RX3 179 "PalletStack$Item" "depth" "I", Cond.fieldLink RX3 185 "PalletStack$Item" "width" "I", Cond.fieldLink RX3 254 "PalletStack$Kind" "height" "I", Cond.fieldLink RX3 134 "PalletStack$Item" "top" "I", Cond.methodLink RX3 250 yX0_shape, Cond.instanceMethod yX0_shape, Cond.selects RX0 yX0_shape yX0_shape, Cond.initialized RX0, Cond.code yX0_shape cX0_shape 3 none, Cond.fieldLink RX0 69 "PalletStack$Kind" "number" "I", Cond.fieldLink RX0 9 "PalletStack$Item" "kind" "I", Cond.fieldLink RX0 74 "PalletStack$Kind" "weight" "I", Cond.fieldLink RX0 15 "PalletStack$Item" "weight" "I", Cond.fieldLink RX0 75 "PalletStack$Kind" "strength" "I", Cond.fieldLink RX0 18 "PalletStack$Item" "strength" "I", Cond.fieldLink RX0 21 "PalletStack$Item" "isTurned" "Z", Cond.fieldLink RX0 76 "PalletStack$Kind" "depth" "I", Cond.fieldLink RX0 77 "PalletStack$Kind" "width" "I", Cond.fieldLink RX0 25 "PalletStack$Item" "width" "I", Cond.fieldLink RX0 28 "PalletStack$Item" "depth" "I"]
def wsX3_bestPlace_r3 : List Cond := [Cond.methodLink RX3 124 yX3_topOf, Cond.instanceMethod yX3_topOf, Cond.selects RX3 yX3_topOf yX3_topOf, Cond.code yX3_topOf cX3_topOf 4 (some .int), Cond.fieldLink RX3 47 "PalletStack" "tops" "[I", Cond.methodLink RX3 288 yX3_brokenRule, Cond.instanceMethod yX3_brokenRule, Cond.selects RX3 yX3_brokenRule yX3_brokenRule, Cond.code yX3_brokenRule cX3_brokenRule 2 (some .int), Cond.fieldLink RX3 19 "PalletStack" "greatestHeight" "I", Cond.fieldLink RX3 267 "PalletStack$Kind" "needsDeck" "Z", Cond.fieldLink RX3 22 "PalletStack" "support" "I", Cond.fieldLink RX3 28 "PalletStack" "hasCornerRule" "Z", Cond.fieldLink RX3 44 "PalletStack" "weightOnPallet" "I", Cond.fieldLink RX3 107 "PalletStack$Item" "weight" "I", Cond.fieldLink RX3 25 "PalletStack" "limit" "I", Cond.methodLink RX3 188 yX0_cells, Cond.instanceMethod yX0_cells, Cond.selects RX0 yX0_cells yX0_cells, Cond.code yX0_cells cX0_cells 1 (some .int), Cond.methodLink RX3 270 yX3_hasGroundAtCorners, Cond.instanceMethod yX3_hasGroundAtCorners, Cond.selects RX3 yX3_hasGroundAtCorners yX3_hasGroundAtCorners, Cond.code yX3_hasGroundAtCorners cX3_hasGroundAtCorners 3 (some .boolean)]
def wsX3_bestPlace_r4 : List Cond := [Cond.methodLink RX3 264 yX3_isGround, Cond.instanceMethod yX3_isGround, Cond.selects RX3 yX3_isGround yX3_isGround, Cond.code yX3_isGround cX3_isGround 3 (some .boolean), Cond.methodLink RX3 274 yX3_findSupports, Cond.instanceMethod yX3_findSupports, Cond.selects RX3 yX3_findSupports yX3_findSupports, Cond.code yX3_findSupports cX3_findSupports 3 none, Cond.fieldLink RX3 211 "PalletStack$Item" "supportCount" "I", Cond.fieldLink RX3 38 "PalletStack" "cameCount" "I", Cond.methodLink RX3 96 yX3_itemOf, Cond.instanceMethod yX3_itemOf, Cond.selects RX3 yX3_itemOf yX3_itemOf, Cond.code yX3_itemOf cX3_itemOf 3 (some (.object "PalletStack$Item")), Cond.fieldLink RX3 34 "PalletStack" "items" "[LPalletStack$Item;", Cond.fieldLink RX3 104 "PalletStack$Item" "isOnPallet" "Z", Cond.methodLink RX3 257 yX0_cellsInCommon, Cond.instanceMethod yX0_cellsInCommon, Cond.selects RX0 yX0_cellsInCommon yX0_cellsInCommon, Cond.code yX0_cellsInCommon cX0_cellsInCommon 4 (some .int), Cond.fieldLink RX0 31 "PalletStack$Item" "x" "I", Cond.methodLink RX0 78 Lib.Math.min.name, Cond.static Lib.Math.min.name, Cond.initialized "java/lang/Math"]
def wsX3_bestPlace_r5 : List Cond := [Cond.code Lib.Math.min.name Lib.Math.min.code 2 (some .int), Cond.methodLink RX0 84 Lib.Math.max.name, Cond.static Lib.Math.max.name, Cond.code Lib.Math.max.name Lib.Math.max.code 2 (some .int), Cond.fieldLink RX0 34 "PalletStack$Item" "y" "I", Cond.methodLink RX3 260 yX0_addSupport, Cond.instanceMethod yX0_addSupport, Cond.selects RX0 yX0_addSupport yX0_addSupport, Cond.code yX0_addSupport cX0_addSupport 3 none, Cond.fieldLink RX0 58 "PalletStack$Item" "supportCount" "I", Cond.fieldLink RX0 61 "PalletStack$Item" "supports" "[LPalletStack$Item;", Cond.fieldLink RX0 65 "PalletStack$Item" "supportCells" "[I", Cond.methodLink RX3 277 yX3_isTooMuchLoad, Cond.instanceMethod yX3_isTooMuchLoad, Cond.selects RX3 yX3_isTooMuchLoad yX3_isTooMuchLoad, Cond.code yX3_isTooMuchLoad cX3_isTooMuchLoad 3 (some .boolean), Cond.fieldLink RX3 233 "PalletStack$Item" "nextLoad" "I", Cond.fieldLink RX3 242 "PalletStack$Item" "strength" "I", Cond.methodLink RX3 236 yX3_forgetNextLoads, Cond.instanceMethod yX3_forgetNextLoads, Cond.selects RX3 yX3_forgetNextLoads yX3_forgetNextLoads, Cond.code yX3_forgetNextLoads cX3_forgetNextLoads 3 none, Cond.methodLink RX3 239 yX0_passLoadDown, Cond.instanceMethod yX0_passLoadDown]
def wsX3_bestPlace_r6 : List Cond := [Cond.selects RX0 yX0_passLoadDown yX0_passLoadDown, Cond.code yX0_passLoadDown cX0_passLoadDown 3 none, Cond.fieldLink RX0 43 "PalletStack$Item" "ground" "I", Cond.fieldLink RX0 49 "PalletStack$Item" "nextLoad" "I"]
def wsX3_bestPlace : List Cond := .code yX3_bestPlace cX3_bestPlace 7 (some .int) :: ((wsX3_bestPlace_r1 ++ (wsX3_bestPlace_r2 ++ (wsX3_bestPlace_r3 ++ (wsX3_bestPlace_r4 ++ (wsX3_bestPlace_r5 ++ wsX3_bestPlace_r6))))) ++ wsX30 ++ wsX00 ++ wsX10)
def wsX3_layTop : List Cond := .code yX3_layTop cX3_layTop 4 none :: ([.fieldLink RX3 176 "PalletStack$Item" "y" "I", .fieldLink RX3 179 "PalletStack$Item" "depth" "I", .fieldLink RX3 182 "PalletStack$Item" "x" "I", .fieldLink RX3 185 "PalletStack$Item" "width" "I", .fieldLink RX3 47 "PalletStack" "tops" "[I", .fieldLink RX3 134 "PalletStack$Item" "top" "I", .methodLink RX3 120 yX3_isCell, .static yX3_isCell, .initialized RX3, .code yX3_isCell cX3_isCell 2 (some .boolean), .methodLink RX3 65 yX3_isWithin, .static yX3_isWithin, .code yX3_isWithin cX3_isWithin 3 (some .boolean)] ++ wsX00 ++ wsX30)
def wsX3_settleLoads_r1 : List Cond := [Cond.fieldLink RX3 38 "PalletStack" "cameCount" "I", Cond.fieldLink RX3 233 "PalletStack$Item" "nextLoad" "I", Cond.fieldLink RX3 208 "PalletStack$Item" "load" "I", Cond.methodLink RX3 236 yX3_forgetNextLoads, Cond.instanceMethod yX3_forgetNextLoads, Cond.selects RX3 yX3_forgetNextLoads yX3_forgetNextLoads, Cond.initialized RX3, Cond.code yX3_forgetNextLoads cX3_forgetNextLoads 3 none, Cond.methodLink RX3 96 yX3_itemOf, Cond.instanceMethod yX3_itemOf, Cond.selects RX3 yX3_itemOf yX3_itemOf, Cond.code yX3_itemOf cX3_itemOf 3 (some (.object "PalletStack$Item")), Cond.fieldLink RX3 34 "PalletStack" "items" "[LPalletStack$Item;", Cond.fieldLink RX3 104 "PalletStack$Item" "isOnPallet" "Z", Cond.methodLink RX3 239 yX0_passLoadDown, Cond.instanceMethod yX0_passLoadDown, Cond.selects RX0 yX0_passLoadDown yX0_passLoadDown, Cond.initialized RX0, Cond.code yX0_passLoadDown cX0_passLoadDown 3 none, Cond.fieldLink RX0 58 "PalletStack$Item" "supportCount" "I", Cond.fieldLink RX0 61 "PalletStack$Item" "supports" "[LPalletStack$Item;", Cond.fieldLink RX0 43 "PalletStack$Item" "ground" "I", Cond.fieldLink RX0 49 "PalletStack$Item" "nextLoad" "I", Cond.fieldLink RX0 15 "PalletStack$Item" "weight" "I"]
def wsX3_settleLoads_r2 : List Cond := [Cond.fieldLink RX0 65 "PalletStack$Item" "supportCells" "[I"]
def wsX3_settleLoads : List Cond := .code yX3_settleLoads cX3_settleLoads 3 none :: ((wsX3_settleLoads_r1 ++ wsX3_settleLoads_r2) ++ wsX30 ++ wsX00)
def wsX3_putTrial_r1 : List Cond := [Cond.fieldLink RX3 38 "PalletStack" "cameCount" "I", Cond.fieldLink RX3 34 "PalletStack" "items" "[LPalletStack$Item;", Cond.fieldLink RX3 52 "PalletStack" "trial" "LPalletStack$Item;", Cond.fieldLink RX3 104 "PalletStack$Item" "isOnPallet" "Z", Cond.fieldLink RX3 41 "PalletStack" "onPalletCount" "I", Cond.fieldLink RX3 44 "PalletStack" "weightOnPallet" "I", Cond.fieldLink RX3 107 "PalletStack$Item" "weight" "I", Cond.methodLink RX3 65 yX3_isWithin, Cond.static yX3_isWithin, Cond.initialized RX3, Cond.code yX3_isWithin cX3_isWithin 3 (some .boolean), Cond.methodLink RX3 274 yX3_findSupports, Cond.instanceMethod yX3_findSupports, Cond.selects RX3 yX3_findSupports yX3_findSupports, Cond.code yX3_findSupports cX3_findSupports 3 none, Cond.fieldLink RX3 211 "PalletStack$Item" "supportCount" "I", Cond.fieldLink RX3 134 "PalletStack$Item" "top" "I", Cond.fieldLink RX3 131 "PalletStack$Item" "bottom" "I", Cond.methodLink RX3 96 yX3_itemOf, Cond.instanceMethod yX3_itemOf, Cond.selects RX3 yX3_itemOf yX3_itemOf, Cond.code yX3_itemOf cX3_itemOf 3 (some (.object "PalletStack$Item")), Cond.methodLink RX3 257 yX0_cellsInCommon, Cond.instanceMethod yX0_cellsInCommon]
def wsX3_putTrial_r2 : List Cond := [Cond.selects RX0 yX0_cellsInCommon yX0_cellsInCommon, Cond.initialized RX0, Cond.code yX0_cellsInCommon cX0_cellsInCommon 4 (some .int), Cond.fieldLink RX0 31 "PalletStack$Item" "x" "I", Cond.fieldLink RX0 25 "PalletStack$Item" "width" "I", Cond.methodLink RX0 78 Lib.Math.min.name, Cond.static Lib.Math.min.name, Cond.initialized "java/lang/Math", Cond.code Lib.Math.min.name Lib.Math.min.code 2 (some .int), Cond.methodLink RX0 84 Lib.Math.max.name, Cond.static Lib.Math.max.name, Cond.code Lib.Math.max.name Lib.Math.max.code 2 (some .int), Cond.fieldLink RX0 34 "PalletStack$Item" "y" "I", Cond.fieldLink RX0 28 "PalletStack$Item" "depth" "I", Cond.methodLink RX3 260 yX0_addSupport, Cond.instanceMethod yX0_addSupport, Cond.selects RX0 yX0_addSupport yX0_addSupport, Cond.code yX0_addSupport cX0_addSupport 3 none, Cond.fieldLink RX0 58 "PalletStack$Item" "supportCount" "I", Cond.fieldLink RX0 61 "PalletStack$Item" "supports" "[LPalletStack$Item;", Cond.fieldLink RX0 65 "PalletStack$Item" "supportCells" "[I", Cond.methodLink RX3 301 yX3_layTop, Cond.instanceMethod yX3_layTop, Cond.selects RX3 yX3_layTop yX3_layTop]
def wsX3_putTrial_r3 : List Cond := [Cond.code yX3_layTop cX3_layTop 4 none, Cond.fieldLink RX3 176 "PalletStack$Item" "y" "I", Cond.fieldLink RX3 179 "PalletStack$Item" "depth" "I", Cond.fieldLink RX3 182 "PalletStack$Item" "x" "I", Cond.fieldLink RX3 185 "PalletStack$Item" "width" "I", Cond.fieldLink RX3 47 "PalletStack" "tops" "[I", Cond.methodLink RX3 120 yX3_isCell, Cond.static yX3_isCell, Cond.code yX3_isCell cX3_isCell 2 (some .boolean), Cond.methodLink RX3 113 yX3_settleLoads, Cond.instanceMethod yX3_settleLoads, Cond.selects RX3 yX3_settleLoads yX3_settleLoads, Cond.code yX3_settleLoads cX3_settleLoads 3 none, Cond.fieldLink RX3 233 "PalletStack$Item" "nextLoad" "I", Cond.fieldLink RX3 208 "PalletStack$Item" "load" "I", Cond.methodLink RX3 236 yX3_forgetNextLoads, Cond.instanceMethod yX3_forgetNextLoads, Cond.selects RX3 yX3_forgetNextLoads yX3_forgetNextLoads, Cond.code yX3_forgetNextLoads cX3_forgetNextLoads 3 none, Cond.methodLink RX3 239 yX0_passLoadDown, Cond.instanceMethod yX0_passLoadDown, Cond.selects RX0 yX0_passLoadDown yX0_passLoadDown, Cond.code yX0_passLoadDown cX0_passLoadDown 3 none, Cond.fieldLink RX0 43 "PalletStack$Item" "ground" "I"]
def wsX3_putTrial_r4 : List Cond := [Cond.fieldLink RX0 49 "PalletStack$Item" "nextLoad" "I", Cond.fieldLink RX0 15 "PalletStack$Item" "weight" "I"]
def wsX3_putTrial : List Cond := .code yX3_putTrial cX3_putTrial 4 none :: ((wsX3_putTrial_r1 ++ (wsX3_putTrial_r2 ++ (wsX3_putTrial_r3 ++ wsX3_putTrial_r4))) ++ wsX30 ++ wsX00)
def wsX3_putAtBest_r1 : List Cond := [Cond.fieldLink RX3 38 "PalletStack" "cameCount" "I", Cond.methodLink RX3 141 yX3_bestPlace, Cond.instanceMethod yX3_bestPlace, Cond.selects RX3 yX3_bestPlace yX3_bestPlace, Cond.initialized RX3, Cond.code yX3_bestPlace cX3_bestPlace 7 (some .int), Cond.fieldLink RX3 52 "PalletStack" "trial" "LPalletStack$Item;", Cond.fieldLink RX3 131 "PalletStack$Item" "bottom" "I", Cond.fieldLink RX3 214 "PalletStack$Item" "ground" "I", Cond.methodLink RX3 291 yX3_xOf, Cond.static yX3_xOf, Cond.code yX3_xOf cX3_xOf 1 (some .int), Cond.methodLink RX3 294 yX3_yOf, Cond.static yX3_yOf, Cond.code yX3_yOf cX3_yOf 1 (some .int), Cond.methodLink RX3 297 yX3_isTurnedIn, Cond.static yX3_isTurnedIn, Cond.code yX3_isTurnedIn cX3_isTurnedIn 1 (some .boolean), Cond.methodLink RX3 280 yX3_isInField, Cond.static yX3_isInField, Cond.code yX3_isInField cX3_isInField 6 (some .boolean), Cond.fieldLink RX3 245 "PalletStack$Kind" "canTurn" "Z", Cond.fieldLink RX3 248 "PalletStack$Kind" "depth" "I", Cond.fieldLink RX3 249 "PalletStack$Kind" "width" "I"]
def wsX3_putAtBest_r2 : List Cond := [Cond.methodLink RX3 65 yX3_isWithin, Cond.static yX3_isWithin, Cond.code yX3_isWithin cX3_isWithin 3 (some .boolean), Cond.methodLink RX3 284 yX3_letDown, Cond.instanceMethod yX3_letDown, Cond.selects RX3 yX3_letDown yX3_letDown, Cond.code yX3_letDown cX3_letDown 10 none, Cond.fieldLink RX3 182 "PalletStack$Item" "x" "I", Cond.fieldLink RX3 176 "PalletStack$Item" "y" "I", Cond.fieldLink RX3 179 "PalletStack$Item" "depth" "I", Cond.fieldLink RX3 185 "PalletStack$Item" "width" "I", Cond.fieldLink RX3 254 "PalletStack$Kind" "height" "I", Cond.fieldLink RX3 134 "PalletStack$Item" "top" "I", Cond.methodLink RX3 250 yX0_shape, Cond.instanceMethod yX0_shape, Cond.selects RX0 yX0_shape yX0_shape, Cond.initialized RX0, Cond.code yX0_shape cX0_shape 3 none, Cond.fieldLink RX0 69 "PalletStack$Kind" "number" "I", Cond.fieldLink RX0 9 "PalletStack$Item" "kind" "I", Cond.fieldLink RX0 74 "PalletStack$Kind" "weight" "I", Cond.fieldLink RX0 15 "PalletStack$Item" "weight" "I", Cond.fieldLink RX0 75 "PalletStack$Kind" "strength" "I", Cond.fieldLink RX0 18 "PalletStack$Item" "strength" "I"]
def wsX3_putAtBest_r3 : List Cond := [Cond.fieldLink RX0 21 "PalletStack$Item" "isTurned" "Z", Cond.fieldLink RX0 76 "PalletStack$Kind" "depth" "I", Cond.fieldLink RX0 77 "PalletStack$Kind" "width" "I", Cond.fieldLink RX0 25 "PalletStack$Item" "width" "I", Cond.fieldLink RX0 28 "PalletStack$Item" "depth" "I", Cond.methodLink RX3 124 yX3_topOf, Cond.instanceMethod yX3_topOf, Cond.selects RX3 yX3_topOf yX3_topOf, Cond.code yX3_topOf cX3_topOf 4 (some .int), Cond.fieldLink RX3 47 "PalletStack" "tops" "[I", Cond.methodLink RX3 288 yX3_brokenRule, Cond.instanceMethod yX3_brokenRule, Cond.selects RX3 yX3_brokenRule yX3_brokenRule, Cond.code yX3_brokenRule cX3_brokenRule 2 (some .int), Cond.fieldLink RX3 19 "PalletStack" "greatestHeight" "I", Cond.fieldLink RX3 267 "PalletStack$Kind" "needsDeck" "Z", Cond.fieldLink RX3 22 "PalletStack" "support" "I", Cond.fieldLink RX3 28 "PalletStack" "hasCornerRule" "Z", Cond.fieldLink RX3 44 "PalletStack" "weightOnPallet" "I", Cond.fieldLink RX3 107 "PalletStack$Item" "weight" "I", Cond.fieldLink RX3 25 "PalletStack" "limit" "I", Cond.methodLink RX3 188 yX0_cells, Cond.instanceMethod yX0_cells, Cond.selects RX0 yX0_cells yX0_cells]
def wsX3_putAtBest_r4 : List Cond := [Cond.code yX0_cells cX0_cells 1 (some .int), Cond.methodLink RX3 270 yX3_hasGroundAtCorners, Cond.instanceMethod yX3_hasGroundAtCorners, Cond.selects RX3 yX3_hasGroundAtCorners yX3_hasGroundAtCorners, Cond.code yX3_hasGroundAtCorners cX3_hasGroundAtCorners 3 (some .boolean), Cond.methodLink RX3 264 yX3_isGround, Cond.instanceMethod yX3_isGround, Cond.selects RX3 yX3_isGround yX3_isGround, Cond.code yX3_isGround cX3_isGround 3 (some .boolean), Cond.methodLink RX3 274 yX3_findSupports, Cond.instanceMethod yX3_findSupports, Cond.selects RX3 yX3_findSupports yX3_findSupports, Cond.code yX3_findSupports cX3_findSupports 3 none, Cond.fieldLink RX3 211 "PalletStack$Item" "supportCount" "I", Cond.methodLink RX3 96 yX3_itemOf, Cond.instanceMethod yX3_itemOf, Cond.selects RX3 yX3_itemOf yX3_itemOf, Cond.code yX3_itemOf cX3_itemOf 3 (some (.object "PalletStack$Item")), Cond.fieldLink RX3 34 "PalletStack" "items" "[LPalletStack$Item;", Cond.fieldLink RX3 104 "PalletStack$Item" "isOnPallet" "Z", Cond.methodLink RX3 257 yX0_cellsInCommon, Cond.instanceMethod yX0_cellsInCommon, Cond.selects RX0 yX0_cellsInCommon yX0_cellsInCommon, Cond.code yX0_cellsInCommon cX0_cellsInCommon 4 (some .int)]
def wsX3_putAtBest_r5 : List Cond := [Cond.fieldLink RX0 31 "PalletStack$Item" "x" "I", Cond.methodLink RX0 78 Lib.Math.min.name, Cond.static Lib.Math.min.name, Cond.initialized "java/lang/Math", Cond.code Lib.Math.min.name Lib.Math.min.code 2 (some .int), Cond.methodLink RX0 84 Lib.Math.max.name, Cond.static Lib.Math.max.name, Cond.code Lib.Math.max.name Lib.Math.max.code 2 (some .int), Cond.fieldLink RX0 34 "PalletStack$Item" "y" "I", Cond.methodLink RX3 260 yX0_addSupport, Cond.instanceMethod yX0_addSupport, Cond.selects RX0 yX0_addSupport yX0_addSupport, Cond.code yX0_addSupport cX0_addSupport 3 none, Cond.fieldLink RX0 58 "PalletStack$Item" "supportCount" "I", Cond.fieldLink RX0 61 "PalletStack$Item" "supports" "[LPalletStack$Item;", Cond.fieldLink RX0 65 "PalletStack$Item" "supportCells" "[I", Cond.methodLink RX3 277 yX3_isTooMuchLoad, Cond.instanceMethod yX3_isTooMuchLoad, Cond.selects RX3 yX3_isTooMuchLoad yX3_isTooMuchLoad, Cond.code yX3_isTooMuchLoad cX3_isTooMuchLoad 3 (some .boolean), Cond.fieldLink RX3 233 "PalletStack$Item" "nextLoad" "I", Cond.fieldLink RX3 242 "PalletStack$Item" "strength" "I", Cond.methodLink RX3 236 yX3_forgetNextLoads, Cond.instanceMethod yX3_forgetNextLoads]
def wsX3_putAtBest_r6 : List Cond := [Cond.selects RX3 yX3_forgetNextLoads yX3_forgetNextLoads, Cond.code yX3_forgetNextLoads cX3_forgetNextLoads 3 none, Cond.methodLink RX3 239 yX0_passLoadDown, Cond.instanceMethod yX0_passLoadDown, Cond.selects RX0 yX0_passLoadDown yX0_passLoadDown, Cond.code yX0_passLoadDown cX0_passLoadDown 3 none, Cond.fieldLink RX0 43 "PalletStack$Item" "ground" "I", Cond.fieldLink RX0 49 "PalletStack$Item" "nextLoad" "I", Cond.methodLink RX3 93 yX3_putTrial, Cond.instanceMethod yX3_putTrial, Cond.selects RX3 yX3_putTrial yX3_putTrial, Cond.code yX3_putTrial cX3_putTrial 4 none, Cond.fieldLink RX3 41 "PalletStack" "onPalletCount" "I", Cond.methodLink RX3 301 yX3_layTop, Cond.instanceMethod yX3_layTop, Cond.selects RX3 yX3_layTop yX3_layTop, Cond.code yX3_layTop cX3_layTop 4 none, Cond.methodLink RX3 120 yX3_isCell, Cond.static yX3_isCell, Cond.code yX3_isCell cX3_isCell 2 (some .boolean), Cond.methodLink RX3 113 yX3_settleLoads, Cond.instanceMethod yX3_settleLoads, Cond.selects RX3 yX3_settleLoads yX3_settleLoads, Cond.code yX3_settleLoads cX3_settleLoads 3 none]
def wsX3_putAtBest_r7 : List Cond := [Cond.fieldLink RX3 208 "PalletStack$Item" "load" "I"]
def wsX3_putAtBest : List Cond := .code yX3_putAtBest cX3_putAtBest 3 (some .boolean) :: ((wsX3_putAtBest_r1 ++ (wsX3_putAtBest_r2 ++ (wsX3_putAtBest_r3 ++ (wsX3_putAtBest_r4 ++ (wsX3_putAtBest_r5 ++ (wsX3_putAtBest_r6 ++ wsX3_putAtBest_r7)))))) ++ wsX30 ++ wsX00 ++ wsX10)
def wsX3_stack_r1 : List Cond := [Cond.fieldLink RX3 62 "PalletStack" "lineCount" "I", Cond.fieldLink RX3 156 "PalletStack$Line" "isAside" "Z", Cond.fieldLink RX3 163 "PalletStack$Line" "kind" "LPalletStack$Kind;", Cond.fieldLink RX3 167 "PalletStack$Line" "count" "I", Cond.methodLink RX3 152 yX3_lineOf, Cond.instanceMethod yX3_lineOf, Cond.selects RX3 yX3_lineOf yX3_lineOf, Cond.initialized RX3, Cond.code yX3_lineOf cX3_lineOf 2 (some (.object "PalletStack$Line")), Cond.fieldLink RX3 58 "PalletStack" "lines" "[LPalletStack$Line;", Cond.methodLink RX3 65 yX3_isWithin, Cond.static yX3_isWithin, Cond.code yX3_isWithin cX3_isWithin 3 (some .boolean), Cond.methodLink RX3 159 yX3_nextLine, Cond.instanceMethod yX3_nextLine, Cond.selects RX3 yX3_nextLine yX3_nextLine, Cond.code yX3_nextLine cX3_nextLine 4 (some (.object "PalletStack$Line")), Cond.methodLink RX3 305 yX1_comesBefore, Cond.instanceMethod yX1_comesBefore, Cond.selects RX1 yX1_comesBefore yX1_comesBefore, Cond.initialized RX1, Cond.code yX1_comesBefore cX1_comesBefore 2 (some .boolean), Cond.fieldLink RX1 32 "PalletStack$Kind" "needsDeck" "Z", Cond.fieldLink RX1 25 "PalletStack$Kind" "strength" "I"]
def wsX3_stack_r2 : List Cond := [Cond.fieldLink RX1 22 "PalletStack$Kind" "weight" "I", Cond.methodLink RX3 145 yX3_putAtBest, Cond.instanceMethod yX3_putAtBest, Cond.selects RX3 yX3_putAtBest yX3_putAtBest, Cond.code yX3_putAtBest cX3_putAtBest 3 (some .boolean), Cond.fieldLink RX3 38 "PalletStack" "cameCount" "I", Cond.methodLink RX3 141 yX3_bestPlace, Cond.instanceMethod yX3_bestPlace, Cond.selects RX3 yX3_bestPlace yX3_bestPlace, Cond.code yX3_bestPlace cX3_bestPlace 7 (some .int), Cond.fieldLink RX3 52 "PalletStack" "trial" "LPalletStack$Item;", Cond.fieldLink RX3 131 "PalletStack$Item" "bottom" "I", Cond.fieldLink RX3 214 "PalletStack$Item" "ground" "I", Cond.methodLink RX3 291 yX3_xOf, Cond.static yX3_xOf, Cond.code yX3_xOf cX3_xOf 1 (some .int), Cond.methodLink RX3 294 yX3_yOf, Cond.static yX3_yOf, Cond.code yX3_yOf cX3_yOf 1 (some .int), Cond.methodLink RX3 297 yX3_isTurnedIn, Cond.static yX3_isTurnedIn, Cond.code yX3_isTurnedIn cX3_isTurnedIn 1 (some .boolean), Cond.methodLink RX3 280 yX3_isInField, Cond.static yX3_isInField]
def wsX3_stack_r3 : List Cond := [Cond.code yX3_isInField cX3_isInField 6 (some .boolean), Cond.fieldLink RX3 245 "PalletStack$Kind" "canTurn" "Z", Cond.fieldLink RX3 248 "PalletStack$Kind" "depth" "I", Cond.fieldLink RX3 249 "PalletStack$Kind" "width" "I", Cond.methodLink RX3 284 yX3_letDown, Cond.instanceMethod yX3_letDown, Cond.selects RX3 yX3_letDown yX3_letDown, Cond.code yX3_letDown cX3_letDown 10 none, Cond.fieldLink RX3 182 "PalletStack$Item" "x" "I", Cond.fieldLink RX3 176 "PalletStack$Item" "y" "I", Cond.fieldLink RX3 179 "PalletStack$Item" "depth" "I", Cond.fieldLink RX3 185 "PalletStack$Item" "width" "I", Cond.fieldLink RX3 254 "PalletStack$Kind" "height" "I", Cond.fieldLink RX3 134 "PalletStack$Item" "top" "I", Cond.methodLink RX3 250 yX0_shape, Cond.instanceMethod yX0_shape, Cond.selects RX0 yX0_shape yX0_shape, Cond.initialized RX0, Cond.code yX0_shape cX0_shape 3 none, Cond.fieldLink RX0 69 "PalletStack$Kind" "number" "I", Cond.fieldLink RX0 9 "PalletStack$Item" "kind" "I", Cond.fieldLink RX0 74 "PalletStack$Kind" "weight" "I", Cond.fieldLink RX0 15 "PalletStack$Item" "weight" "I", Cond.fieldLink RX0 75 "PalletStack$Kind" "strength" "I"]
def wsX3_stack_r4 : List Cond := [Cond.fieldLink RX0 18 "PalletStack$Item" "strength" "I", Cond.fieldLink RX0 21 "PalletStack$Item" "isTurned" "Z", Cond.fieldLink RX0 76 "PalletStack$Kind" "depth" "I", Cond.fieldLink RX0 77 "PalletStack$Kind" "width" "I", Cond.fieldLink RX0 25 "PalletStack$Item" "width" "I", Cond.fieldLink RX0 28 "PalletStack$Item" "depth" "I", Cond.methodLink RX3 124 yX3_topOf, Cond.instanceMethod yX3_topOf, Cond.selects RX3 yX3_topOf yX3_topOf, Cond.code yX3_topOf cX3_topOf 4 (some .int), Cond.fieldLink RX3 47 "PalletStack" "tops" "[I", Cond.methodLink RX3 288 yX3_brokenRule, Cond.instanceMethod yX3_brokenRule, Cond.selects RX3 yX3_brokenRule yX3_brokenRule, Cond.code yX3_brokenRule cX3_brokenRule 2 (some .int), Cond.fieldLink RX3 19 "PalletStack" "greatestHeight" "I", Cond.fieldLink RX3 267 "PalletStack$Kind" "needsDeck" "Z", Cond.fieldLink RX3 22 "PalletStack" "support" "I", Cond.fieldLink RX3 28 "PalletStack" "hasCornerRule" "Z", Cond.fieldLink RX3 44 "PalletStack" "weightOnPallet" "I", Cond.fieldLink RX3 107 "PalletStack$Item" "weight" "I", Cond.fieldLink RX3 25 "PalletStack" "limit" "I", Cond.methodLink RX3 188 yX0_cells, Cond.instanceMethod yX0_cells]
def wsX3_stack_r5 : List Cond := [Cond.selects RX0 yX0_cells yX0_cells, Cond.code yX0_cells cX0_cells 1 (some .int), Cond.methodLink RX3 270 yX3_hasGroundAtCorners, Cond.instanceMethod yX3_hasGroundAtCorners, Cond.selects RX3 yX3_hasGroundAtCorners yX3_hasGroundAtCorners, Cond.code yX3_hasGroundAtCorners cX3_hasGroundAtCorners 3 (some .boolean), Cond.methodLink RX3 264 yX3_isGround, Cond.instanceMethod yX3_isGround, Cond.selects RX3 yX3_isGround yX3_isGround, Cond.code yX3_isGround cX3_isGround 3 (some .boolean), Cond.methodLink RX3 274 yX3_findSupports, Cond.instanceMethod yX3_findSupports, Cond.selects RX3 yX3_findSupports yX3_findSupports, Cond.code yX3_findSupports cX3_findSupports 3 none, Cond.fieldLink RX3 211 "PalletStack$Item" "supportCount" "I", Cond.methodLink RX3 96 yX3_itemOf, Cond.instanceMethod yX3_itemOf, Cond.selects RX3 yX3_itemOf yX3_itemOf, Cond.code yX3_itemOf cX3_itemOf 3 (some (.object "PalletStack$Item")), Cond.fieldLink RX3 34 "PalletStack" "items" "[LPalletStack$Item;", Cond.fieldLink RX3 104 "PalletStack$Item" "isOnPallet" "Z", Cond.methodLink RX3 257 yX0_cellsInCommon, Cond.instanceMethod yX0_cellsInCommon, Cond.selects RX0 yX0_cellsInCommon yX0_cellsInCommon]
def wsX3_stack_r6 : List Cond := [Cond.code yX0_cellsInCommon cX0_cellsInCommon 4 (some .int), Cond.fieldLink RX0 31 "PalletStack$Item" "x" "I", Cond.methodLink RX0 78 Lib.Math.min.name, Cond.static Lib.Math.min.name, Cond.initialized "java/lang/Math", Cond.code Lib.Math.min.name Lib.Math.min.code 2 (some .int), Cond.methodLink RX0 84 Lib.Math.max.name, Cond.static Lib.Math.max.name, Cond.code Lib.Math.max.name Lib.Math.max.code 2 (some .int), Cond.fieldLink RX0 34 "PalletStack$Item" "y" "I", Cond.methodLink RX3 260 yX0_addSupport, Cond.instanceMethod yX0_addSupport, Cond.selects RX0 yX0_addSupport yX0_addSupport, Cond.code yX0_addSupport cX0_addSupport 3 none, Cond.fieldLink RX0 58 "PalletStack$Item" "supportCount" "I", Cond.fieldLink RX0 61 "PalletStack$Item" "supports" "[LPalletStack$Item;", Cond.fieldLink RX0 65 "PalletStack$Item" "supportCells" "[I", Cond.methodLink RX3 277 yX3_isTooMuchLoad, Cond.instanceMethod yX3_isTooMuchLoad, Cond.selects RX3 yX3_isTooMuchLoad yX3_isTooMuchLoad, Cond.code yX3_isTooMuchLoad cX3_isTooMuchLoad 3 (some .boolean), Cond.fieldLink RX3 233 "PalletStack$Item" "nextLoad" "I", Cond.fieldLink RX3 242 "PalletStack$Item" "strength" "I", Cond.methodLink RX3 236 yX3_forgetNextLoads]
def wsX3_stack_r7 : List Cond := [Cond.instanceMethod yX3_forgetNextLoads, Cond.selects RX3 yX3_forgetNextLoads yX3_forgetNextLoads, Cond.code yX3_forgetNextLoads cX3_forgetNextLoads 3 none, Cond.methodLink RX3 239 yX0_passLoadDown, Cond.instanceMethod yX0_passLoadDown, Cond.selects RX0 yX0_passLoadDown yX0_passLoadDown, Cond.code yX0_passLoadDown cX0_passLoadDown 3 none, Cond.fieldLink RX0 43 "PalletStack$Item" "ground" "I", Cond.fieldLink RX0 49 "PalletStack$Item" "nextLoad" "I", Cond.methodLink RX3 93 yX3_putTrial, Cond.instanceMethod yX3_putTrial, Cond.selects RX3 yX3_putTrial yX3_putTrial, Cond.code yX3_putTrial cX3_putTrial 4 none, Cond.fieldLink RX3 41 "PalletStack" "onPalletCount" "I", Cond.methodLink RX3 301 yX3_layTop, Cond.instanceMethod yX3_layTop, Cond.selects RX3 yX3_layTop yX3_layTop, Cond.code yX3_layTop cX3_layTop 4 none, Cond.methodLink RX3 120 yX3_isCell, Cond.static yX3_isCell, Cond.code yX3_isCell cX3_isCell 2 (some .boolean), Cond.methodLink RX3 113 yX3_settleLoads, Cond.instanceMethod yX3_settleLoads, Cond.selects RX3 yX3_settleLoads yX3_settleLoads]
def wsX3_stack_r8 : List Cond := [Cond.code yX3_settleLoads cX3_settleLoads 3 none, Cond.fieldLink RX3 208 "PalletStack$Item" "load" "I"]
def wsX3_stack : List Cond := .code yX3_stack cX3_stack 4 (some .int) :: ((wsX3_stack_r1 ++ (wsX3_stack_r2 ++ (wsX3_stack_r3 ++ (wsX3_stack_r4 ++ (wsX3_stack_r5 ++ (wsX3_stack_r6 ++ (wsX3_stack_r7 ++ wsX3_stack_r8))))))) ++ wsX30 ++ wsX20 ++ wsX10 ++ wsX00)
def wsX3_line : List Cond := .code yX3_line cX3_line 4 (some .int) :: ([.classLink RX3 78 "java/lang/IndexOutOfBoundsException", .initialized "java/lang/IndexOutOfBoundsException", .fieldLink RX3 167 "PalletStack$Line" "count" "I", .fieldLink RX3 163 "PalletStack$Line" "kind" "LPalletStack$Kind;", .fieldLink RX3 170 "PalletStack$Kind" "number" "I", .methodLink RX3 152 yX3_lineOf, .instanceMethod yX3_lineOf, .selects RX3 yX3_lineOf yX3_lineOf, .initialized RX3, .code yX3_lineOf cX3_lineOf 2 (some (.object "PalletStack$Line")), .fieldLink RX3 62 "PalletStack" "lineCount" "I", .fieldLink RX3 58 "PalletStack" "lines" "[LPalletStack$Line;", .methodLink RX3 65 yX3_isWithin, .static yX3_isWithin, .code yX3_isWithin cX3_isWithin 3 (some .boolean)] ++ wsX20 ++ wsX10 ++ wsX30 ++ (vx_at0 RX3 80 "java/lang/IndexOutOfBoundsException" ["java/lang/RuntimeException", "java/lang/Exception"]).filter goodWord)
def wsX3_greatestTop : List Cond := .code yX3_greatestTop cX3_greatestTop 4 (some .int) :: ([.fieldLink RX3 38 "PalletStack" "cameCount" "I", .fieldLink RX3 134 "PalletStack$Item" "top" "I", .methodLink RX3 96 yX3_itemOf, .instanceMethod yX3_itemOf, .selects RX3 yX3_itemOf yX3_itemOf, .initialized RX3, .code yX3_itemOf cX3_itemOf 3 (some (.object "PalletStack$Item")), .fieldLink RX3 34 "PalletStack" "items" "[LPalletStack$Item;", .fieldLink RX3 104 "PalletStack$Item" "isOnPallet" "Z"] ++ wsX30 ++ wsX00)
def wsX3_sumOf_r1 : List Cond := [Cond.fieldLink RX3 44 "PalletStack" "weightOnPallet" "I", Cond.methodLink RX3 192 yX3_greatestTop, Cond.instanceMethod yX3_greatestTop, Cond.selects RX3 yX3_greatestTop yX3_greatestTop, Cond.initialized RX3, Cond.code yX3_greatestTop cX3_greatestTop 4 (some .int), Cond.fieldLink RX3 38 "PalletStack" "cameCount" "I", Cond.fieldLink RX3 134 "PalletStack$Item" "top" "I", Cond.methodLink RX3 96 yX3_itemOf, Cond.instanceMethod yX3_itemOf, Cond.selects RX3 yX3_itemOf yX3_itemOf, Cond.code yX3_itemOf cX3_itemOf 3 (some (.object "PalletStack$Item")), Cond.fieldLink RX3 34 "PalletStack" "items" "[LPalletStack$Item;", Cond.fieldLink RX3 104 "PalletStack$Item" "isOnPallet" "Z", Cond.methodLink RX3 217 yX3_greatestLoad, Cond.instanceMethod yX3_greatestLoad, Cond.selects RX3 yX3_greatestLoad yX3_greatestLoad, Cond.code yX3_greatestLoad cX3_greatestLoad 4 (some .int), Cond.fieldLink RX3 208 "PalletStack$Item" "load" "I", Cond.methodLink RX3 220 yX3_coveredDeck, Cond.instanceMethod yX3_coveredDeck, Cond.selects RX3 yX3_coveredDeck yX3_coveredDeck, Cond.code yX3_coveredDeck cX3_coveredDeck 4 (some .int), Cond.fieldLink RX3 131 "PalletStack$Item" "bottom" "I"]
def wsX3_sumOf_r2 : List Cond := [Cond.methodLink RX3 188 yX0_cells, Cond.instanceMethod yX0_cells, Cond.selects RX0 yX0_cells yX0_cells, Cond.initialized RX0, Cond.code yX0_cells cX0_cells 1 (some .int), Cond.fieldLink RX0 25 "PalletStack$Item" "width" "I", Cond.fieldLink RX0 28 "PalletStack$Item" "depth" "I"]
def wsX3_sumOf : List Cond := .code yX3_sumOf cX3_sumOf 2 (some .int) :: ((wsX3_sumOf_r1 ++ wsX3_sumOf_r2) ++ wsX30 ++ wsX00)
def wsX3_sum_r1 : List Cond := [Cond.classLink RX3 78 "java/lang/IndexOutOfBoundsException", Cond.initialized "java/lang/IndexOutOfBoundsException", Cond.methodLink RX3 65 yX3_isWithin, Cond.static yX3_isWithin, Cond.initialized RX3, Cond.code yX3_isWithin cX3_isWithin 3 (some .boolean), Cond.methodLink RX3 173 yX3_sumOf, Cond.instanceMethod yX3_sumOf, Cond.selects RX3 yX3_sumOf yX3_sumOf, Cond.code yX3_sumOf cX3_sumOf 2 (some .int), Cond.fieldLink RX3 44 "PalletStack" "weightOnPallet" "I", Cond.methodLink RX3 192 yX3_greatestTop, Cond.instanceMethod yX3_greatestTop, Cond.selects RX3 yX3_greatestTop yX3_greatestTop, Cond.code yX3_greatestTop cX3_greatestTop 4 (some .int), Cond.fieldLink RX3 38 "PalletStack" "cameCount" "I", Cond.fieldLink RX3 134 "PalletStack$Item" "top" "I", Cond.methodLink RX3 96 yX3_itemOf, Cond.instanceMethod yX3_itemOf, Cond.selects RX3 yX3_itemOf yX3_itemOf, Cond.code yX3_itemOf cX3_itemOf 3 (some (.object "PalletStack$Item")), Cond.fieldLink RX3 34 "PalletStack" "items" "[LPalletStack$Item;", Cond.fieldLink RX3 104 "PalletStack$Item" "isOnPallet" "Z", Cond.methodLink RX3 217 yX3_greatestLoad]
def wsX3_sum_r2 : List Cond := [Cond.instanceMethod yX3_greatestLoad, Cond.selects RX3 yX3_greatestLoad yX3_greatestLoad, Cond.code yX3_greatestLoad cX3_greatestLoad 4 (some .int), Cond.fieldLink RX3 208 "PalletStack$Item" "load" "I", Cond.methodLink RX3 220 yX3_coveredDeck, Cond.instanceMethod yX3_coveredDeck, Cond.selects RX3 yX3_coveredDeck yX3_coveredDeck, Cond.code yX3_coveredDeck cX3_coveredDeck 4 (some .int), Cond.fieldLink RX3 131 "PalletStack$Item" "bottom" "I", Cond.methodLink RX3 188 yX0_cells, Cond.instanceMethod yX0_cells, Cond.selects RX0 yX0_cells yX0_cells, Cond.initialized RX0, Cond.code yX0_cells cX0_cells 1 (some .int), Cond.fieldLink RX0 25 "PalletStack$Item" "width" "I", Cond.fieldLink RX0 28 "PalletStack$Item" "depth" "I"]
def wsX3_sum : List Cond := .code yX3_sum cX3_sum 2 (some .int) :: ((wsX3_sum_r1 ++ wsX3_sum_r2) ++ wsX30 ++ wsX00 ++ (vx_at0 RX3 80 "java/lang/IndexOutOfBoundsException" ["java/lang/RuntimeException", "java/lang/Exception"]).filter goodWord)
def wsX3_filled : List Cond := .code yX3_filled cX3_filled 4 (some .double) :: ([.fieldLink RX3 38 "PalletStack" "cameCount" "I", .fieldLink RX3 134 "PalletStack$Item" "top" "I", .fieldLink RX3 131 "PalletStack$Item" "bottom" "I", .methodLink RX3 96 yX3_itemOf, .instanceMethod yX3_itemOf, .selects RX3 yX3_itemOf yX3_itemOf, .initialized RX3, .code yX3_itemOf cX3_itemOf 3 (some (.object "PalletStack$Item")), .fieldLink RX3 34 "PalletStack" "items" "[LPalletStack$Item;", .fieldLink RX3 104 "PalletStack$Item" "isOnPallet" "Z", .methodLink RX3 188 yX0_cells, .instanceMethod yX0_cells, .selects RX0 yX0_cells yX0_cells, .initialized RX0, .code yX0_cells cX0_cells 1 (some .int), .fieldLink RX0 25 "PalletStack$Item" "width" "I", .fieldLink RX0 28 "PalletStack$Item" "depth" "I", .methodLink RX3 192 yX3_greatestTop, .instanceMethod yX3_greatestTop, .selects RX3 yX3_greatestTop yX3_greatestTop, .code yX3_greatestTop cX3_greatestTop 4 (some .int)] ++ wsX30 ++ wsX00)
def wsX4_init : List Cond := .code yX4_init cX4_init 1 none :: ([.methodLink RX4 1 objectInit, .instanceMethod objectInit, .code objectInit ⟨#[0xb1]⟩ 1 none, .classLink RX4 7 "[I", .fieldLink RX4 9 "PalletStackLaw$Hand" "kinds" "[[I", .fieldLink RX4 15 "PalletStackLaw$Hand" "items" "[[I", .arrayClass .int, .fieldLink RX4 18 "PalletStackLaw$Hand" "rules" "[I"] ++ wsX40)
def wsJ9_max_7cf53 : List Cond := .code yJ9_max_7cf53 cJ9_max_7cf53 2 (some .int) :: ([])
def wsJ9_min_7cf53 : List Cond := .code yJ9_min_7cf53 cJ9_min_7cf53 2 (some .int) :: ([])
def wsL_below : List Cond := .code yL_below cL_below 2 (some .int) :: ([.constant RL 7 (2147483647)])
def wsL_cell : List Cond := .code yL_cell cL_cell 2 (some .int) :: ([.constant RL 8 (790386105)])
def wsL_build_r1 : List Cond := [Cond.classLink RL 9 RX4, Cond.instantiable RX4 4, Cond.initialized RX4, Cond.classLink RL 22 "[I", Cond.fieldLink RL 24 "PalletStackLaw$Hand" "kinds" "[[I", Cond.arrayClass .int, Cond.fieldLink RL 34 "PalletStackLaw$Hand" "rules" "[I", Cond.instanceMethod yX4_init, Cond.code yX4_init cX4_init 1 none, Cond.methodLink RX4 1 objectInit, Cond.instanceMethod objectInit, Cond.code objectInit ⟨#[0xb1]⟩ 1 none, Cond.classLink RX4 7 "[I", Cond.fieldLink RX4 9 "PalletStackLaw$Hand" "kinds" "[[I", Cond.fieldLink RX4 15 "PalletStackLaw$Hand" "items" "[[I", Cond.fieldLink RX4 18 "PalletStackLaw$Hand" "rules" "[I", Cond.methodLink RL 12 yL_cell, Cond.static yL_cell, Cond.initialized RL, Cond.code yL_cell cL_cell 2 (some .int), Cond.constant RL 8 (790386105), Cond.methodLink RL 18 yL_below, Cond.static yL_below, Cond.code yL_below cL_below 2 (some .int)]
def wsL_build_r2 : List Cond := [Cond.constant RL 7 (2147483647), Cond.methodLink RL 28 yX3_addKind, Cond.instanceMethod yX3_addKind, Cond.selects RX3 yX3_addKind yX3_addKind, Cond.initialized RX3, Cond.code yX3_addKind cX3_addKind 8 (some .int), Cond.classLink RX3 69 "java/lang/IllegalArgumentException", Cond.initialized "java/lang/IllegalArgumentException", Cond.classLink RX3 72 "java/lang/IllegalStateException", Cond.initialized "java/lang/IllegalStateException", Cond.fieldLink RX3 15 "PalletStack" "kindCount" "I", Cond.fieldLink RX3 11 "PalletStack" "kinds" "[LPalletStack$Kind;", Cond.classLink RX3 9 RX1, Cond.instantiable RX1 8, Cond.initialized RX1, Cond.methodLink RX3 65 yX3_isWithin, Cond.static yX3_isWithin, Cond.code yX3_isWithin cX3_isWithin 3 (some .boolean), Cond.methodLink RX3 75 yX1_init, Cond.instanceMethod yX1_init, Cond.code yX1_init cX1_init 8 none, Cond.methodLink RX1 1 objectInit, Cond.fieldLink RX1 7 "PalletStack$Kind" "number" "I", Cond.fieldLink RX1 13 "PalletStack$Kind" "width" "I"]
def wsL_build_r3 : List Cond := [Cond.fieldLink RX1 16 "PalletStack$Kind" "depth" "I", Cond.fieldLink RX1 19 "PalletStack$Kind" "height" "I", Cond.fieldLink RX1 22 "PalletStack$Kind" "weight" "I", Cond.fieldLink RX1 25 "PalletStack$Kind" "strength" "I", Cond.fieldLink RX1 28 "PalletStack$Kind" "canTurn" "Z", Cond.fieldLink RX1 32 "PalletStack$Kind" "needsDeck" "Z", Cond.methodLink RL 37 yX3_setRules, Cond.instanceMethod yX3_setRules, Cond.selects RX3 yX3_setRules yX3_setRules, Cond.code yX3_setRules cX3_setRules 6 (some .int), Cond.fieldLink RX3 19 "PalletStack" "greatestHeight" "I", Cond.fieldLink RX3 22 "PalletStack" "support" "I", Cond.fieldLink RX3 25 "PalletStack" "limit" "I", Cond.fieldLink RX3 28 "PalletStack" "hasCornerRule" "Z"]
def wsL_build : List Cond := .code yL_build cL_build 7 (some (.object "PalletStackLaw$Hand")) :: ((wsL_build_r1 ++ (wsL_build_r2 ++ wsL_build_r3)) ++ wsX40 ++ wsX30 ++ wsX10 ++ (vx_at0 RX3 71 "java/lang/IllegalArgumentException" ["java/lang/RuntimeException", "java/lang/Exception"]).filter goodWord ++ (vx_at0 RX3 74 "java/lang/IllegalStateException" ["java/lang/RuntimeException", "java/lang/Exception"]).filter goodWord)
def wsL_law0_r1 : List Cond := [Cond.classLink RL 29 RX3, Cond.instantiable RX3 14, Cond.initialized RX3, Cond.fieldLink RL 24 "PalletStackLaw$Hand" "kinds" "[[I", Cond.fieldLink RL 34 "PalletStackLaw$Hand" "rules" "[I", Cond.classLink RL 22 "[I", Cond.arrayClass .int, Cond.methodLink RL 41 yX3_init, Cond.instanceMethod yX3_init, Cond.code yX3_init cX3_init 2 none, Cond.methodLink RX3 3 objectInit, Cond.instanceMethod objectInit, Cond.code objectInit ⟨#[0xb1]⟩ 1 none, Cond.classLink RX3 9 RX1, Cond.fieldLink RX3 11 "PalletStack" "kinds" "[LPalletStack$Kind;", Cond.fieldLink RX3 15 "PalletStack" "kindCount" "I", Cond.fieldLink RX3 19 "PalletStack" "greatestHeight" "I", Cond.fieldLink RX3 22 "PalletStack" "support" "I", Cond.fieldLink RX3 25 "PalletStack" "limit" "I", Cond.fieldLink RX3 28 "PalletStack" "hasCornerRule" "Z", Cond.classLink RX3 32 RX0, Cond.fieldLink RX3 34 "PalletStack" "items" "[LPalletStack$Item;", Cond.fieldLink RX3 38 "PalletStack" "cameCount" "I", Cond.fieldLink RX3 41 "PalletStack" "onPalletCount" "I"]
def wsL_law0_r2 : List Cond := [Cond.fieldLink RX3 44 "PalletStack" "weightOnPallet" "I", Cond.fieldLink RX3 47 "PalletStack" "tops" "[I", Cond.instantiable RX0 18, Cond.initialized RX0, Cond.fieldLink RX3 52 "PalletStack" "trial" "LPalletStack$Item;", Cond.classLink RX3 56 RX2, Cond.fieldLink RX3 58 "PalletStack" "lines" "[LPalletStack$Line;", Cond.fieldLink RX3 62 "PalletStack" "lineCount" "I", Cond.instanceMethod yX0_init, Cond.code yX0_init cX0_init 1 none, Cond.methodLink RX0 3 objectInit, Cond.fieldLink RX0 9 "PalletStack$Item" "kind" "I", Cond.fieldLink RX0 15 "PalletStack$Item" "weight" "I", Cond.fieldLink RX0 18 "PalletStack$Item" "strength" "I", Cond.fieldLink RX0 21 "PalletStack$Item" "isTurned" "Z", Cond.fieldLink RX0 25 "PalletStack$Item" "width" "I", Cond.fieldLink RX0 28 "PalletStack$Item" "depth" "I", Cond.fieldLink RX0 31 "PalletStack$Item" "x" "I", Cond.fieldLink RX0 34 "PalletStack$Item" "y" "I", Cond.fieldLink RX0 37 "PalletStack$Item" "bottom" "I", Cond.fieldLink RX0 40 "PalletStack$Item" "top" "I", Cond.fieldLink RX0 43 "PalletStack$Item" "ground" "I", Cond.fieldLink RX0 46 "PalletStack$Item" "load" "I", Cond.fieldLink RX0 49 "PalletStack$Item" "nextLoad" "I"]
def wsL_law0_r3 : List Cond := [Cond.fieldLink RX0 52 "PalletStack$Item" "isOnPallet" "Z", Cond.fieldLink RX0 55 "PalletStack$Item" "isReached" "Z", Cond.fieldLink RX0 58 "PalletStack$Item" "supportCount" "I", Cond.classLink RX0 10 RX0, Cond.fieldLink RX0 61 "PalletStack$Item" "supports" "[LPalletStack$Item;", Cond.fieldLink RX0 65 "PalletStack$Item" "supportCells" "[I", Cond.methodLink RL 42 yL_build, Cond.static yL_build, Cond.initialized RL, Cond.code yL_build cL_build 7 (some (.object "PalletStackLaw$Hand")), Cond.classLink RL 9 RX4, Cond.instantiable RX4 4, Cond.initialized RX4, Cond.instanceMethod yX4_init, Cond.code yX4_init cX4_init 1 none, Cond.methodLink RX4 1 objectInit, Cond.classLink RX4 7 "[I", Cond.fieldLink RX4 9 "PalletStackLaw$Hand" "kinds" "[[I", Cond.fieldLink RX4 15 "PalletStackLaw$Hand" "items" "[[I", Cond.fieldLink RX4 18 "PalletStackLaw$Hand" "rules" "[I", Cond.methodLink RL 12 yL_cell, Cond.static yL_cell, Cond.code yL_cell cL_cell 2 (some .int), Cond.constant RL 8 (790386105)]
def wsL_law0_r4 : List Cond := [Cond.methodLink RL 18 yL_below, Cond.static yL_below, Cond.code yL_below cL_below 2 (some .int), Cond.constant RL 7 (2147483647), Cond.methodLink RL 28 yX3_addKind, Cond.instanceMethod yX3_addKind, Cond.selects RX3 yX3_addKind yX3_addKind, Cond.code yX3_addKind cX3_addKind 8 (some .int), Cond.classLink RX3 69 "java/lang/IllegalArgumentException", Cond.initialized "java/lang/IllegalArgumentException", Cond.classLink RX3 72 "java/lang/IllegalStateException", Cond.initialized "java/lang/IllegalStateException", Cond.instantiable RX1 8, Cond.initialized RX1, Cond.methodLink RX3 65 yX3_isWithin, Cond.static yX3_isWithin, Cond.code yX3_isWithin cX3_isWithin 3 (some .boolean), Cond.methodLink RX3 75 yX1_init, Cond.instanceMethod yX1_init, Cond.code yX1_init cX1_init 8 none, Cond.methodLink RX1 1 objectInit, Cond.fieldLink RX1 7 "PalletStack$Kind" "number" "I", Cond.fieldLink RX1 13 "PalletStack$Kind" "width" "I", Cond.fieldLink RX1 16 "PalletStack$Kind" "depth" "I"]
def wsL_law0_r5 : List Cond := [Cond.fieldLink RX1 19 "PalletStack$Kind" "height" "I", Cond.fieldLink RX1 22 "PalletStack$Kind" "weight" "I", Cond.fieldLink RX1 25 "PalletStack$Kind" "strength" "I", Cond.fieldLink RX1 28 "PalletStack$Kind" "canTurn" "Z", Cond.fieldLink RX1 32 "PalletStack$Kind" "needsDeck" "Z", Cond.methodLink RL 37 yX3_setRules, Cond.instanceMethod yX3_setRules, Cond.selects RX3 yX3_setRules yX3_setRules, Cond.code yX3_setRules cX3_setRules 6 (some .int), Cond.methodLink RL 46 yX3_addLine, Cond.instanceMethod yX3_addLine, Cond.selects RX3 yX3_addLine yX3_addLine, Cond.code yX3_addLine cX3_addLine 5 (some .int), Cond.classLink RX3 78 "java/lang/IndexOutOfBoundsException", Cond.initialized "java/lang/IndexOutOfBoundsException", Cond.instantiable RX2 3, Cond.initialized RX2, Cond.methodLink RX3 85 yX3_kindOf, Cond.instanceMethod yX3_kindOf, Cond.selects RX3 yX3_kindOf yX3_kindOf, Cond.code yX3_kindOf cX3_kindOf 2 (some (.object "PalletStack$Kind")), Cond.methodLink RX3 149 yX2_init, Cond.instanceMethod yX2_init, Cond.code yX2_init cX2_init 3 none]
def wsL_law0_r6 : List Cond := [Cond.methodLink RX2 1 objectInit, Cond.fieldLink RX2 7 "PalletStack$Line" "isAside" "Z", Cond.fieldLink RX2 13 "PalletStack$Line" "kind" "LPalletStack$Kind;", Cond.fieldLink RX2 17 "PalletStack$Line" "count" "I", Cond.methodLink RL 49 yX3_stack, Cond.instanceMethod yX3_stack, Cond.selects RX3 yX3_stack yX3_stack, Cond.code yX3_stack cX3_stack 4 (some .int), Cond.fieldLink RX3 156 "PalletStack$Line" "isAside" "Z", Cond.fieldLink RX3 163 "PalletStack$Line" "kind" "LPalletStack$Kind;", Cond.fieldLink RX3 167 "PalletStack$Line" "count" "I", Cond.methodLink RX3 152 yX3_lineOf, Cond.instanceMethod yX3_lineOf, Cond.selects RX3 yX3_lineOf yX3_lineOf, Cond.code yX3_lineOf cX3_lineOf 2 (some (.object "PalletStack$Line")), Cond.methodLink RX3 159 yX3_nextLine, Cond.instanceMethod yX3_nextLine, Cond.selects RX3 yX3_nextLine yX3_nextLine, Cond.code yX3_nextLine cX3_nextLine 4 (some (.object "PalletStack$Line")), Cond.methodLink RX3 305 yX1_comesBefore, Cond.instanceMethod yX1_comesBefore, Cond.selects RX1 yX1_comesBefore yX1_comesBefore, Cond.code yX1_comesBefore cX1_comesBefore 2 (some .boolean), Cond.methodLink RX3 145 yX3_putAtBest]
def wsL_law0_r7 : List Cond := [Cond.instanceMethod yX3_putAtBest, Cond.selects RX3 yX3_putAtBest yX3_putAtBest, Cond.code yX3_putAtBest cX3_putAtBest 3 (some .boolean), Cond.methodLink RX3 141 yX3_bestPlace, Cond.instanceMethod yX3_bestPlace, Cond.selects RX3 yX3_bestPlace yX3_bestPlace, Cond.code yX3_bestPlace cX3_bestPlace 7 (some .int), Cond.fieldLink RX3 131 "PalletStack$Item" "bottom" "I", Cond.fieldLink RX3 214 "PalletStack$Item" "ground" "I", Cond.methodLink RX3 291 yX3_xOf, Cond.static yX3_xOf, Cond.code yX3_xOf cX3_xOf 1 (some .int), Cond.methodLink RX3 294 yX3_yOf, Cond.static yX3_yOf, Cond.code yX3_yOf cX3_yOf 1 (some .int), Cond.methodLink RX3 297 yX3_isTurnedIn, Cond.static yX3_isTurnedIn, Cond.code yX3_isTurnedIn cX3_isTurnedIn 1 (some .boolean), Cond.methodLink RX3 280 yX3_isInField, Cond.static yX3_isInField, Cond.code yX3_isInField cX3_isInField 6 (some .boolean), Cond.fieldLink RX3 245 "PalletStack$Kind" "canTurn" "Z", Cond.fieldLink RX3 248 "PalletStack$Kind" "depth" "I", Cond.fieldLink RX3 249 "PalletStack$Kind" "width" "I"]
def wsL_law0_r8 : List Cond := [Cond.methodLink RX3 284 yX3_letDown, Cond.instanceMethod yX3_letDown, Cond.selects RX3 yX3_letDown yX3_letDown, Cond.code yX3_letDown cX3_letDown 10 none, Cond.fieldLink RX3 182 "PalletStack$Item" "x" "I", Cond.fieldLink RX3 176 "PalletStack$Item" "y" "I", Cond.fieldLink RX3 179 "PalletStack$Item" "depth" "I", Cond.fieldLink RX3 185 "PalletStack$Item" "width" "I", Cond.fieldLink RX3 254 "PalletStack$Kind" "height" "I", Cond.fieldLink RX3 134 "PalletStack$Item" "top" "I", Cond.methodLink RX3 250 yX0_shape, Cond.instanceMethod yX0_shape, Cond.selects RX0 yX0_shape yX0_shape, Cond.code yX0_shape cX0_shape 3 none, Cond.fieldLink RX0 69 "PalletStack$Kind" "number" "I", Cond.fieldLink RX0 74 "PalletStack$Kind" "weight" "I", Cond.fieldLink RX0 75 "PalletStack$Kind" "strength" "I", Cond.fieldLink RX0 76 "PalletStack$Kind" "depth" "I", Cond.fieldLink RX0 77 "PalletStack$Kind" "width" "I", Cond.methodLink RX3 124 yX3_topOf, Cond.instanceMethod yX3_topOf, Cond.selects RX3 yX3_topOf yX3_topOf, Cond.code yX3_topOf cX3_topOf 4 (some .int), Cond.methodLink RX3 288 yX3_brokenRule]
def wsL_law0_r9 : List Cond := [Cond.instanceMethod yX3_brokenRule, Cond.selects RX3 yX3_brokenRule yX3_brokenRule, Cond.code yX3_brokenRule cX3_brokenRule 2 (some .int), Cond.fieldLink RX3 267 "PalletStack$Kind" "needsDeck" "Z", Cond.fieldLink RX3 107 "PalletStack$Item" "weight" "I", Cond.methodLink RX3 188 yX0_cells, Cond.instanceMethod yX0_cells, Cond.selects RX0 yX0_cells yX0_cells, Cond.code yX0_cells cX0_cells 1 (some .int), Cond.methodLink RX3 270 yX3_hasGroundAtCorners, Cond.instanceMethod yX3_hasGroundAtCorners, Cond.selects RX3 yX3_hasGroundAtCorners yX3_hasGroundAtCorners, Cond.code yX3_hasGroundAtCorners cX3_hasGroundAtCorners 3 (some .boolean), Cond.methodLink RX3 264 yX3_isGround, Cond.instanceMethod yX3_isGround, Cond.selects RX3 yX3_isGround yX3_isGround, Cond.code yX3_isGround cX3_isGround 3 (some .boolean), Cond.methodLink RX3 274 yX3_findSupports, Cond.instanceMethod yX3_findSupports, Cond.selects RX3 yX3_findSupports yX3_findSupports, Cond.code yX3_findSupports cX3_findSupports 3 none, Cond.fieldLink RX3 211 "PalletStack$Item" "supportCount" "I", Cond.methodLink RX3 96 yX3_itemOf, Cond.instanceMethod yX3_itemOf]
def wsL_law0_r10 : List Cond := [Cond.selects RX3 yX3_itemOf yX3_itemOf, Cond.code yX3_itemOf cX3_itemOf 3 (some (.object "PalletStack$Item")), Cond.fieldLink RX3 104 "PalletStack$Item" "isOnPallet" "Z", Cond.methodLink RX3 257 yX0_cellsInCommon, Cond.instanceMethod yX0_cellsInCommon, Cond.selects RX0 yX0_cellsInCommon yX0_cellsInCommon, Cond.code yX0_cellsInCommon cX0_cellsInCommon 4 (some .int), Cond.methodLink RX0 78 Lib.Math.min.name, Cond.static Lib.Math.min.name, Cond.initialized "java/lang/Math", Cond.code Lib.Math.min.name Lib.Math.min.code 2 (some .int), Cond.methodLink RX0 84 Lib.Math.max.name, Cond.static Lib.Math.max.name, Cond.code Lib.Math.max.name Lib.Math.max.code 2 (some .int), Cond.methodLink RX3 260 yX0_addSupport, Cond.instanceMethod yX0_addSupport, Cond.selects RX0 yX0_addSupport yX0_addSupport, Cond.code yX0_addSupport cX0_addSupport 3 none, Cond.methodLink RX3 277 yX3_isTooMuchLoad, Cond.instanceMethod yX3_isTooMuchLoad, Cond.selects RX3 yX3_isTooMuchLoad yX3_isTooMuchLoad, Cond.code yX3_isTooMuchLoad cX3_isTooMuchLoad 3 (some .boolean), Cond.fieldLink RX3 233 "PalletStack$Item" "nextLoad" "I", Cond.fieldLink RX3 242 "PalletStack$Item" "strength" "I"]
def wsL_law0_r11 : List Cond := [Cond.methodLink RX3 236 yX3_forgetNextLoads, Cond.instanceMethod yX3_forgetNextLoads, Cond.selects RX3 yX3_forgetNextLoads yX3_forgetNextLoads, Cond.code yX3_forgetNextLoads cX3_forgetNextLoads 3 none, Cond.methodLink RX3 239 yX0_passLoadDown, Cond.instanceMethod yX0_passLoadDown, Cond.selects RX0 yX0_passLoadDown yX0_passLoadDown, Cond.code yX0_passLoadDown cX0_passLoadDown 3 none, Cond.methodLink RX3 93 yX3_putTrial, Cond.instanceMethod yX3_putTrial, Cond.selects RX3 yX3_putTrial yX3_putTrial, Cond.code yX3_putTrial cX3_putTrial 4 none, Cond.methodLink RX3 301 yX3_layTop, Cond.instanceMethod yX3_layTop, Cond.selects RX3 yX3_layTop yX3_layTop, Cond.code yX3_layTop cX3_layTop 4 none, Cond.methodLink RX3 120 yX3_isCell, Cond.static yX3_isCell, Cond.code yX3_isCell cX3_isCell 2 (some .boolean), Cond.methodLink RX3 113 yX3_settleLoads, Cond.instanceMethod yX3_settleLoads, Cond.selects RX3 yX3_settleLoads yX3_settleLoads, Cond.code yX3_settleLoads cX3_settleLoads 3 none, Cond.fieldLink RX3 208 "PalletStack$Item" "load" "I"]
def wsL_law0_r12 : List Cond := [Cond.methodLink RL 53 yX3_line, Cond.instanceMethod yX3_line, Cond.selects RX3 yX3_line yX3_line, Cond.code yX3_line cX3_line 4 (some .int), Cond.fieldLink RX3 170 "PalletStack$Kind" "number" "I", Cond.methodLink RL 57 yX3_count, Cond.instanceMethod yX3_count, Cond.selects RX3 yX3_count yX3_count, Cond.code yX3_count cX3_count 2 (some .int), Cond.methodLink RX3 81 yX3_countOf, Cond.instanceMethod yX3_countOf, Cond.selects RX3 yX3_countOf yX3_countOf, Cond.code yX3_countOf cX3_countOf 2 (some .int), Cond.methodLink RL 61 yX3_sum, Cond.instanceMethod yX3_sum, Cond.selects RX3 yX3_sum yX3_sum, Cond.code yX3_sum cX3_sum 2 (some .int), Cond.methodLink RX3 173 yX3_sumOf, Cond.instanceMethod yX3_sumOf, Cond.selects RX3 yX3_sumOf yX3_sumOf, Cond.code yX3_sumOf cX3_sumOf 2 (some .int), Cond.methodLink RX3 192 yX3_greatestTop, Cond.instanceMethod yX3_greatestTop, Cond.selects RX3 yX3_greatestTop yX3_greatestTop]
def wsL_law0_r13 : List Cond := [Cond.code yX3_greatestTop cX3_greatestTop 4 (some .int), Cond.methodLink RX3 217 yX3_greatestLoad, Cond.instanceMethod yX3_greatestLoad, Cond.selects RX3 yX3_greatestLoad yX3_greatestLoad, Cond.code yX3_greatestLoad cX3_greatestLoad 4 (some .int), Cond.methodLink RX3 220 yX3_coveredDeck, Cond.instanceMethod yX3_coveredDeck, Cond.selects RX3 yX3_coveredDeck yX3_coveredDeck, Cond.code yX3_coveredDeck cX3_coveredDeck 4 (some .int), Cond.methodLink RL 64 yX3_item, Cond.instanceMethod yX3_item, Cond.selects RX3 yX3_item yX3_item, Cond.code yX3_item cX3_item 4 (some .int), Cond.methodLink RX3 116 yX3_factOf, Cond.instanceMethod yX3_factOf, Cond.selects RX3 yX3_factOf yX3_factOf, Cond.code yX3_factOf cX3_factOf 3 (some .int), Cond.fieldLink RX3 203 "PalletStack$Item" "kind" "I", Cond.fieldLink RX3 205 "PalletStack$Item" "isTurned" "Z", Cond.methodLink RX3 100 yX3_standingOn, Cond.instanceMethod yX3_standingOn, Cond.selects RX3 yX3_standingOn yX3_standingOn, Cond.code yX3_standingOn cX3_standingOn 5 (some .int), Cond.methodLink RX3 223 yX0_standsOn]
def wsL_law0_r14 : List Cond := [Cond.instanceMethod yX0_standsOn, Cond.selects RX0 yX0_standsOn yX0_standsOn, Cond.code yX0_standsOn cX0_standsOn 2 (some .boolean), Cond.methodLink RX0 87 yX0_cellsInCommon, Cond.methodLink RL 67 yX3_at, Cond.instanceMethod yX3_at, Cond.selects RX3 yX3_at yX3_at, Cond.code yX3_at cX3_at 6 (some .int), Cond.methodLink RX3 128 yX0_covers, Cond.instanceMethod yX0_covers, Cond.selects RX0 yX0_covers yX0_covers, Cond.code yX0_covers cX0_covers 3 (some .boolean), Cond.methodLink RL 71 yX3_restsOn, Cond.instanceMethod yX3_restsOn, Cond.selects RX3 yX3_restsOn yX3_restsOn, Cond.code yX3_restsOn cX3_restsOn 5 (some .boolean), Cond.methodLink RX3 137 yX3_isCarriedBy, Cond.instanceMethod yX3_isCarriedBy, Cond.selects RX3 yX3_isCarriedBy yX3_isCarriedBy, Cond.code yX3_isCarriedBy cX3_isCarriedBy 5 (some .boolean), Cond.fieldLink RX3 227 "PalletStack$Item" "isReached" "Z", Cond.methodLink RX3 230 yX0_reachSupports, Cond.instanceMethod yX0_reachSupports, Cond.selects RX0 yX0_reachSupports yX0_reachSupports]
def wsL_law0_r15 : List Cond := [Cond.code yX0_reachSupports cX0_reachSupports 3 none, Cond.methodLink RL 75 yX3_filled, Cond.instanceMethod yX3_filled, Cond.selects RX3 yX3_filled yX3_filled, Cond.code yX3_filled cX3_filled 4 (some .double)]
def wsL_law0 : List Cond := (wsL_law0_r1 ++ (wsL_law0_r2 ++ (wsL_law0_r3 ++ (wsL_law0_r4 ++ (wsL_law0_r5 ++ (wsL_law0_r6 ++ (wsL_law0_r7 ++ (wsL_law0_r8 ++ (wsL_law0_r9 ++ (wsL_law0_r10 ++ (wsL_law0_r11 ++ (wsL_law0_r12 ++ (wsL_law0_r13 ++ (wsL_law0_r14 ++ wsL_law0_r15)))))))))))))) ++ wsX30 ++ wsX40 ++ wsX00 ++ wsX10 ++ wsX20 ++ ([] : List Cond)
def wsL_law : List Cond := wsL_law0 ++ (vx_at0 RX3 71 "java/lang/IllegalArgumentException" ["java/lang/RuntimeException", "java/lang/Exception"]).filter goodWord ++ (vx_at0 RX3 74 "java/lang/IllegalStateException" ["java/lang/RuntimeException", "java/lang/Exception"]).filter goodWord ++ (vx_at0 RX3 80 "java/lang/IndexOutOfBoundsException" ["java/lang/RuntimeException", "java/lang/Exception"]).filter goodWord
theorem wsL_law_x0 : ∀ w ∈ (vx_at0 RX3 71 "java/lang/IllegalArgumentException" ["java/lang/RuntimeException", "java/lang/Exception"]).filter goodWord, w ∈ lw_tbl := by decide +kernel
theorem wsL_law_x1 : ∀ w ∈ (vx_at0 RX3 74 "java/lang/IllegalStateException" ["java/lang/RuntimeException", "java/lang/Exception"]).filter goodWord, w ∈ lw_tbl := by decide +kernel
theorem wsL_law_x2 : ∀ w ∈ (vx_at0 RX3 80 "java/lang/IndexOutOfBoundsException" ["java/lang/RuntimeException", "java/lang/Exception"]).filter goodWord, w ∈ lw_tbl := by decide +kernel
theorem inJ9 : ∀ w ∈ wsJ90, w ∈ lw_tbl := by decide +kernel
theorem dJ9_max_7cf53_0 : decode cJ9_max_7cf53 0 = .ok (.iload_n 0, 1) := by decide +kernel
theorem dJ9_max_7cf53_1 : decode cJ9_max_7cf53 1 = .ok (.iload_n 1, 1) := by decide +kernel
theorem dJ9_max_7cf53_2 : decode cJ9_max_7cf53 2 = .ok (.if_icmp .lt 7, 3) := by decide +kernel
theorem dJ9_max_7cf53_5 : decode cJ9_max_7cf53 5 = .ok (.iload_n 0, 1) := by decide +kernel
theorem dJ9_max_7cf53_6 : decode cJ9_max_7cf53 6 = .ok (.goto 4, 3) := by decide +kernel
theorem dJ9_max_7cf53_9 : decode cJ9_max_7cf53 9 = .ok (.iload_n 1, 1) := by decide +kernel
theorem dJ9_max_7cf53_10 : decode cJ9_max_7cf53 10 = .ok (.ireturn, 1) := by decide +kernel
theorem dJ9_min_7cf53_0 : decode cJ9_min_7cf53 0 = .ok (.iload_n 0, 1) := by decide +kernel
theorem dJ9_min_7cf53_1 : decode cJ9_min_7cf53 1 = .ok (.iload_n 1, 1) := by decide +kernel
theorem dJ9_min_7cf53_2 : decode cJ9_min_7cf53 2 = .ok (.if_icmp .gt 7, 3) := by decide +kernel
theorem dJ9_min_7cf53_5 : decode cJ9_min_7cf53 5 = .ok (.iload_n 0, 1) := by decide +kernel
theorem dJ9_min_7cf53_6 : decode cJ9_min_7cf53 6 = .ok (.goto 4, 3) := by decide +kernel
theorem dJ9_min_7cf53_9 : decode cJ9_min_7cf53 9 = .ok (.iload_n 1, 1) := by decide +kernel
theorem dJ9_min_7cf53_10 : decode cJ9_min_7cf53 10 = .ok (.ireturn, 1) := by decide +kernel
abbrev vwCl : List vw_C := [(RX0, TX0, 18), (RX1, TX1, 8), (RX2, TX2, 3), (RX3, TX3, 14), (RX4, TX4, 4)]
end
section
theorem dX0_init_0 : decode cX0_init 0 = .ok (.aload_n 0, 1) := by decide +kernel
theorem dX0_init_1 : decode cX0_init 1 = .ok (.invokespecial 3, 3) := by decide +kernel
theorem dX0_init_4 : decode cX0_init 4 = .ok (.aload_n 0, 1) := by decide +kernel
theorem dX0_init_5 : decode cX0_init 5 = .ok (.iconst 0, 1) := by decide +kernel
theorem dX0_init_6 : decode cX0_init 6 = .ok (.putfield 9, 3) := by decide +kernel
theorem dX0_init_9 : decode cX0_init 9 = .ok (.aload_n 0, 1) := by decide +kernel
theorem dX0_init_10 : decode cX0_init 10 = .ok (.iconst 0, 1) := by decide +kernel
theorem dX0_init_11 : decode cX0_init 11 = .ok (.putfield 15, 3) := by decide +kernel
theorem dX0_init_14 : decode cX0_init 14 = .ok (.aload_n 0, 1) := by decide +kernel
theorem dX0_init_15 : decode cX0_init 15 = .ok (.iconst 0, 1) := by decide +kernel
theorem dX0_init_16 : decode cX0_init 16 = .ok (.putfield 18, 3) := by decide +kernel
theorem dX0_init_19 : decode cX0_init 19 = .ok (.aload_n 0, 1) := by decide +kernel
theorem dX0_init_20 : decode cX0_init 20 = .ok (.iconst 0, 1) := by decide +kernel
theorem dX0_init_21 : decode cX0_init 21 = .ok (.putfield 21, 3) := by decide +kernel
theorem dX0_init_24 : decode cX0_init 24 = .ok (.aload_n 0, 1) := by decide +kernel
theorem dX0_init_25 : decode cX0_init 25 = .ok (.iconst 0, 1) := by decide +kernel
theorem dX0_init_26 : decode cX0_init 26 = .ok (.putfield 25, 3) := by decide +kernel
theorem dX0_init_29 : decode cX0_init 29 = .ok (.aload_n 0, 1) := by decide +kernel
theorem dX0_init_30 : decode cX0_init 30 = .ok (.iconst 0, 1) := by decide +kernel
theorem dX0_init_31 : decode cX0_init 31 = .ok (.putfield 28, 3) := by decide +kernel
theorem dX0_init_34 : decode cX0_init 34 = .ok (.aload_n 0, 1) := by decide +kernel
theorem dX0_init_35 : decode cX0_init 35 = .ok (.iconst 0, 1) := by decide +kernel
theorem dX0_init_36 : decode cX0_init 36 = .ok (.putfield 31, 3) := by decide +kernel
theorem dX0_init_39 : decode cX0_init 39 = .ok (.aload_n 0, 1) := by decide +kernel
theorem dX0_init_40 : decode cX0_init 40 = .ok (.iconst 0, 1) := by decide +kernel
theorem dX0_init_41 : decode cX0_init 41 = .ok (.putfield 34, 3) := by decide +kernel
theorem dX0_init_44 : decode cX0_init 44 = .ok (.aload_n 0, 1) := by decide +kernel
theorem dX0_init_45 : decode cX0_init 45 = .ok (.iconst 0, 1) := by decide +kernel
theorem dX0_init_46 : decode cX0_init 46 = .ok (.putfield 37, 3) := by decide +kernel
theorem dX0_init_49 : decode cX0_init 49 = .ok (.aload_n 0, 1) := by decide +kernel
theorem dX0_init_50 : decode cX0_init 50 = .ok (.iconst 0, 1) := by decide +kernel
theorem dX0_init_51 : decode cX0_init 51 = .ok (.putfield 40, 3) := by decide +kernel
theorem dX0_init_54 : decode cX0_init 54 = .ok (.aload_n 0, 1) := by decide +kernel
theorem dX0_init_55 : decode cX0_init 55 = .ok (.iconst 0, 1) := by decide +kernel
theorem dX0_init_56 : decode cX0_init 56 = .ok (.putfield 43, 3) := by decide +kernel
theorem dX0_init_59 : decode cX0_init 59 = .ok (.aload_n 0, 1) := by decide +kernel
theorem dX0_init_60 : decode cX0_init 60 = .ok (.iconst 0, 1) := by decide +kernel
theorem dX0_init_61 : decode cX0_init 61 = .ok (.putfield 46, 3) := by decide +kernel
theorem dX0_init_64 : decode cX0_init 64 = .ok (.aload_n 0, 1) := by decide +kernel
theorem dX0_init_65 : decode cX0_init 65 = .ok (.iconst 0, 1) := by decide +kernel
theorem dX0_init_66 : decode cX0_init 66 = .ok (.putfield 49, 3) := by decide +kernel
theorem dX0_init_69 : decode cX0_init 69 = .ok (.aload_n 0, 1) := by decide +kernel
theorem dX0_init_70 : decode cX0_init 70 = .ok (.iconst 0, 1) := by decide +kernel
theorem dX0_init_71 : decode cX0_init 71 = .ok (.putfield 52, 3) := by decide +kernel
theorem dX0_init_74 : decode cX0_init 74 = .ok (.aload_n 0, 1) := by decide +kernel
theorem dX0_init_75 : decode cX0_init 75 = .ok (.iconst 0, 1) := by decide +kernel
theorem dX0_init_76 : decode cX0_init 76 = .ok (.putfield 55, 3) := by decide +kernel
theorem dX0_init_79 : decode cX0_init 79 = .ok (.aload_n 0, 1) := by decide +kernel
theorem dX0_init_80 : decode cX0_init 80 = .ok (.iconst 0, 1) := by decide +kernel
theorem dX0_init_81 : decode cX0_init 81 = .ok (.putfield 58, 3) := by decide +kernel
theorem dX0_init_84 : decode cX0_init 84 = .ok (.aload_n 0, 1) := by decide +kernel
theorem dX0_init_85 : decode cX0_init 85 = .ok (.bipush 36, 2) := by decide +kernel
theorem dX0_init_87 : decode cX0_init 87 = .ok (.anewarray 10, 3) := by decide +kernel
theorem dX0_init_90 : decode cX0_init 90 = .ok (.putfield 61, 3) := by decide +kernel
theorem dX0_init_93 : decode cX0_init 93 = .ok (.aload_n 0, 1) := by decide +kernel
theorem dX0_init_94 : decode cX0_init 94 = .ok (.bipush 36, 2) := by decide +kernel
theorem dX0_init_96 : decode cX0_init 96 = .ok (.newarray .int, 2) := by decide +kernel
theorem dX0_init_98 : decode cX0_init 98 = .ok (.putfield 65, 3) := by decide +kernel
theorem dX0_init_101 : decode cX0_init 101 = .ok (.return_, 1) := by decide +kernel
theorem dX0_shape_0 : decode cX0_shape 0 = .ok (.aload_n 0, 1) := by decide +kernel
theorem dX0_shape_1 : decode cX0_shape 1 = .ok (.aload_n 1, 1) := by decide +kernel
theorem dX0_shape_2 : decode cX0_shape 2 = .ok (.getfield 69, 3) := by decide +kernel
theorem dX0_shape_5 : decode cX0_shape 5 = .ok (.putfield 9, 3) := by decide +kernel
theorem dX0_shape_8 : decode cX0_shape 8 = .ok (.aload_n 0, 1) := by decide +kernel
theorem dX0_shape_9 : decode cX0_shape 9 = .ok (.aload_n 1, 1) := by decide +kernel
theorem dX0_shape_10 : decode cX0_shape 10 = .ok (.getfield 74, 3) := by decide +kernel
theorem dX0_shape_13 : decode cX0_shape 13 = .ok (.putfield 15, 3) := by decide +kernel
theorem dX0_shape_16 : decode cX0_shape 16 = .ok (.aload_n 0, 1) := by decide +kernel
theorem dX0_shape_17 : decode cX0_shape 17 = .ok (.aload_n 1, 1) := by decide +kernel
theorem dX0_shape_18 : decode cX0_shape 18 = .ok (.getfield 75, 3) := by decide +kernel
theorem dX0_shape_21 : decode cX0_shape 21 = .ok (.putfield 18, 3) := by decide +kernel
theorem dX0_shape_24 : decode cX0_shape 24 = .ok (.aload_n 0, 1) := by decide +kernel
theorem dX0_shape_25 : decode cX0_shape 25 = .ok (.iload_n 2, 1) := by decide +kernel
theorem dX0_shape_26 : decode cX0_shape 26 = .ok (.putfield 21, 3) := by decide +kernel
theorem dX0_shape_29 : decode cX0_shape 29 = .ok (.aload_n 0, 1) := by decide +kernel
theorem dX0_shape_30 : decode cX0_shape 30 = .ok (.iload_n 2, 1) := by decide +kernel
theorem dX0_shape_31 : decode cX0_shape 31 = .ok (.ifCond .eq 10, 3) := by decide +kernel
theorem dX0_shape_34 : decode cX0_shape 34 = .ok (.aload_n 1, 1) := by decide +kernel
theorem dX0_shape_35 : decode cX0_shape 35 = .ok (.getfield 76, 3) := by decide +kernel
theorem dX0_shape_38 : decode cX0_shape 38 = .ok (.goto 7, 3) := by decide +kernel
theorem dX0_shape_41 : decode cX0_shape 41 = .ok (.aload_n 1, 1) := by decide +kernel
theorem dX0_shape_42 : decode cX0_shape 42 = .ok (.getfield 77, 3) := by decide +kernel
theorem dX0_shape_45 : decode cX0_shape 45 = .ok (.putfield 25, 3) := by decide +kernel
theorem dX0_shape_48 : decode cX0_shape 48 = .ok (.aload_n 0, 1) := by decide +kernel
theorem dX0_shape_49 : decode cX0_shape 49 = .ok (.iload_n 2, 1) := by decide +kernel
theorem dX0_shape_50 : decode cX0_shape 50 = .ok (.ifCond .eq 10, 3) := by decide +kernel
theorem dX0_shape_53 : decode cX0_shape 53 = .ok (.aload_n 1, 1) := by decide +kernel
theorem dX0_shape_54 : decode cX0_shape 54 = .ok (.getfield 77, 3) := by decide +kernel
theorem dX0_shape_57 : decode cX0_shape 57 = .ok (.goto 7, 3) := by decide +kernel
theorem dX0_shape_60 : decode cX0_shape 60 = .ok (.aload_n 1, 1) := by decide +kernel
theorem dX0_shape_61 : decode cX0_shape 61 = .ok (.getfield 76, 3) := by decide +kernel
theorem dX0_shape_64 : decode cX0_shape 64 = .ok (.putfield 28, 3) := by decide +kernel
theorem dX0_shape_67 : decode cX0_shape 67 = .ok (.return_, 1) := by decide +kernel
theorem dX0_cells_0 : decode cX0_cells 0 = .ok (.aload_n 0, 1) := by decide +kernel
theorem dX0_cells_1 : decode cX0_cells 1 = .ok (.getfield 25, 3) := by decide +kernel
theorem dX0_cells_4 : decode cX0_cells 4 = .ok (.aload_n 0, 1) := by decide +kernel
theorem dX0_cells_5 : decode cX0_cells 5 = .ok (.getfield 28, 3) := by decide +kernel
theorem dX0_cells_8 : decode cX0_cells 8 = .ok (.imul, 1) := by decide +kernel
theorem dX0_cells_9 : decode cX0_cells 9 = .ok (.ireturn, 1) := by decide +kernel
theorem dX0_covers_0 : decode cX0_covers 0 = .ok (.iload_n 1, 1) := by decide +kernel
theorem dX0_covers_1 : decode cX0_covers 1 = .ok (.aload_n 0, 1) := by decide +kernel
theorem dX0_covers_2 : decode cX0_covers 2 = .ok (.getfield 31, 3) := by decide +kernel
theorem dX0_covers_5 : decode cX0_covers 5 = .ok (.if_icmp .lt 41, 3) := by decide +kernel
theorem dX0_covers_8 : decode cX0_covers 8 = .ok (.iload_n 1, 1) := by decide +kernel
theorem dX0_covers_9 : decode cX0_covers 9 = .ok (.aload_n 0, 1) := by decide +kernel
theorem dX0_covers_10 : decode cX0_covers 10 = .ok (.getfield 31, 3) := by decide +kernel
theorem dX0_covers_13 : decode cX0_covers 13 = .ok (.aload_n 0, 1) := by decide +kernel
theorem dX0_covers_14 : decode cX0_covers 14 = .ok (.getfield 25, 3) := by decide +kernel
theorem dX0_covers_17 : decode cX0_covers 17 = .ok (.iadd, 1) := by decide +kernel
theorem dX0_covers_18 : decode cX0_covers 18 = .ok (.if_icmp .ge 28, 3) := by decide +kernel
theorem dX0_covers_21 : decode cX0_covers 21 = .ok (.iload_n 2, 1) := by decide +kernel
theorem dX0_covers_22 : decode cX0_covers 22 = .ok (.aload_n 0, 1) := by decide +kernel
theorem dX0_covers_23 : decode cX0_covers 23 = .ok (.getfield 34, 3) := by decide +kernel
theorem dX0_covers_26 : decode cX0_covers 26 = .ok (.if_icmp .lt 20, 3) := by decide +kernel
theorem dX0_covers_29 : decode cX0_covers 29 = .ok (.iload_n 2, 1) := by decide +kernel
theorem dX0_covers_30 : decode cX0_covers 30 = .ok (.aload_n 0, 1) := by decide +kernel
theorem dX0_covers_31 : decode cX0_covers 31 = .ok (.getfield 34, 3) := by decide +kernel
theorem dX0_covers_34 : decode cX0_covers 34 = .ok (.aload_n 0, 1) := by decide +kernel
theorem dX0_covers_35 : decode cX0_covers 35 = .ok (.getfield 28, 3) := by decide +kernel
theorem dX0_covers_38 : decode cX0_covers 38 = .ok (.iadd, 1) := by decide +kernel
theorem dX0_covers_39 : decode cX0_covers 39 = .ok (.if_icmp .ge 7, 3) := by decide +kernel
theorem dX0_covers_42 : decode cX0_covers 42 = .ok (.iconst 1, 1) := by decide +kernel
theorem dX0_covers_43 : decode cX0_covers 43 = .ok (.goto 4, 3) := by decide +kernel
theorem dX0_covers_46 : decode cX0_covers 46 = .ok (.iconst 0, 1) := by decide +kernel
theorem dX0_covers_47 : decode cX0_covers 47 = .ok (.ireturn, 1) := by decide +kernel
theorem dX0_cellsInCommon_0 : decode cX0_cellsInCommon 0 = .ok (.aload_n 0, 1) := by decide +kernel
theorem dX0_cellsInCommon_1 : decode cX0_cellsInCommon 1 = .ok (.getfield 31, 3) := by decide +kernel
theorem dX0_cellsInCommon_4 : decode cX0_cellsInCommon 4 = .ok (.aload_n 0, 1) := by decide +kernel
theorem dX0_cellsInCommon_5 : decode cX0_cellsInCommon 5 = .ok (.getfield 25, 3) := by decide +kernel
theorem dX0_cellsInCommon_8 : decode cX0_cellsInCommon 8 = .ok (.iadd, 1) := by decide +kernel
theorem dX0_cellsInCommon_9 : decode cX0_cellsInCommon 9 = .ok (.aload_n 1, 1) := by decide +kernel
theorem dX0_cellsInCommon_10 : decode cX0_cellsInCommon 10 = .ok (.getfield 31, 3) := by decide +kernel
theorem dX0_cellsInCommon_13 : decode cX0_cellsInCommon 13 = .ok (.aload_n 1, 1) := by decide +kernel
theorem dX0_cellsInCommon_14 : decode cX0_cellsInCommon 14 = .ok (.getfield 25, 3) := by decide +kernel
theorem dX0_cellsInCommon_17 : decode cX0_cellsInCommon 17 = .ok (.iadd, 1) := by decide +kernel
theorem dX0_cellsInCommon_18 : decode cX0_cellsInCommon 18 = .ok (.invokestatic 78, 3) := by decide +kernel
theorem dX0_cellsInCommon_21 : decode cX0_cellsInCommon 21 = .ok (.aload_n 0, 1) := by decide +kernel
theorem dX0_cellsInCommon_22 : decode cX0_cellsInCommon 22 = .ok (.getfield 31, 3) := by decide +kernel
theorem dX0_cellsInCommon_25 : decode cX0_cellsInCommon 25 = .ok (.aload_n 1, 1) := by decide +kernel
theorem dX0_cellsInCommon_26 : decode cX0_cellsInCommon 26 = .ok (.getfield 31, 3) := by decide +kernel
theorem dX0_cellsInCommon_29 : decode cX0_cellsInCommon 29 = .ok (.invokestatic 84, 3) := by decide +kernel
theorem dX0_cellsInCommon_32 : decode cX0_cellsInCommon 32 = .ok (.isub, 1) := by decide +kernel
theorem dX0_cellsInCommon_33 : decode cX0_cellsInCommon 33 = .ok (.istore_n 2, 1) := by decide +kernel
theorem dX0_cellsInCommon_34 : decode cX0_cellsInCommon 34 = .ok (.aload_n 0, 1) := by decide +kernel
theorem dX0_cellsInCommon_35 : decode cX0_cellsInCommon 35 = .ok (.getfield 34, 3) := by decide +kernel
theorem dX0_cellsInCommon_38 : decode cX0_cellsInCommon 38 = .ok (.aload_n 0, 1) := by decide +kernel
theorem dX0_cellsInCommon_39 : decode cX0_cellsInCommon 39 = .ok (.getfield 28, 3) := by decide +kernel
theorem dX0_cellsInCommon_42 : decode cX0_cellsInCommon 42 = .ok (.iadd, 1) := by decide +kernel
theorem dX0_cellsInCommon_43 : decode cX0_cellsInCommon 43 = .ok (.aload_n 1, 1) := by decide +kernel
theorem dX0_cellsInCommon_44 : decode cX0_cellsInCommon 44 = .ok (.getfield 34, 3) := by decide +kernel
theorem dX0_cellsInCommon_47 : decode cX0_cellsInCommon 47 = .ok (.aload_n 1, 1) := by decide +kernel
theorem dX0_cellsInCommon_48 : decode cX0_cellsInCommon 48 = .ok (.getfield 28, 3) := by decide +kernel
theorem dX0_cellsInCommon_51 : decode cX0_cellsInCommon 51 = .ok (.iadd, 1) := by decide +kernel
theorem dX0_cellsInCommon_52 : decode cX0_cellsInCommon 52 = .ok (.invokestatic 78, 3) := by decide +kernel
theorem dX0_cellsInCommon_55 : decode cX0_cellsInCommon 55 = .ok (.aload_n 0, 1) := by decide +kernel
theorem dX0_cellsInCommon_56 : decode cX0_cellsInCommon 56 = .ok (.getfield 34, 3) := by decide +kernel
theorem dX0_cellsInCommon_59 : decode cX0_cellsInCommon 59 = .ok (.aload_n 1, 1) := by decide +kernel
theorem dX0_cellsInCommon_60 : decode cX0_cellsInCommon 60 = .ok (.getfield 34, 3) := by decide +kernel
theorem dX0_cellsInCommon_63 : decode cX0_cellsInCommon 63 = .ok (.invokestatic 84, 3) := by decide +kernel
theorem dX0_cellsInCommon_66 : decode cX0_cellsInCommon 66 = .ok (.isub, 1) := by decide +kernel
theorem dX0_cellsInCommon_67 : decode cX0_cellsInCommon 67 = .ok (.istore_n 3, 1) := by decide +kernel
theorem dX0_cellsInCommon_68 : decode cX0_cellsInCommon 68 = .ok (.iload_n 2, 1) := by decide +kernel
theorem dX0_cellsInCommon_69 : decode cX0_cellsInCommon 69 = .ok (.ifCond .le 13, 3) := by decide +kernel
theorem dX0_cellsInCommon_72 : decode cX0_cellsInCommon 72 = .ok (.iload_n 3, 1) := by decide +kernel
theorem dX0_cellsInCommon_73 : decode cX0_cellsInCommon 73 = .ok (.ifCond .le 9, 3) := by decide +kernel
theorem dX0_cellsInCommon_76 : decode cX0_cellsInCommon 76 = .ok (.iload_n 2, 1) := by decide +kernel
theorem dX0_cellsInCommon_77 : decode cX0_cellsInCommon 77 = .ok (.iload_n 3, 1) := by decide +kernel
theorem dX0_cellsInCommon_78 : decode cX0_cellsInCommon 78 = .ok (.imul, 1) := by decide +kernel
theorem dX0_cellsInCommon_79 : decode cX0_cellsInCommon 79 = .ok (.goto 4, 3) := by decide +kernel
theorem dX0_cellsInCommon_82 : decode cX0_cellsInCommon 82 = .ok (.iconst 0, 1) := by decide +kernel
theorem dX0_cellsInCommon_83 : decode cX0_cellsInCommon 83 = .ok (.ireturn, 1) := by decide +kernel
theorem dX0_addSupport_0 : decode cX0_addSupport 0 = .ok (.iload_n 2, 1) := by decide +kernel
theorem dX0_addSupport_1 : decode cX0_addSupport 1 = .ok (.ifCond .le 49, 3) := by decide +kernel
theorem dX0_addSupport_4 : decode cX0_addSupport 4 = .ok (.aload_n 0, 1) := by decide +kernel
theorem dX0_addSupport_5 : decode cX0_addSupport 5 = .ok (.getfield 58, 3) := by decide +kernel
theorem dX0_addSupport_8 : decode cX0_addSupport 8 = .ok (.ifCond .lt 42, 3) := by decide +kernel
theorem dX0_addSupport_11 : decode cX0_addSupport 11 = .ok (.aload_n 0, 1) := by decide +kernel
theorem dX0_addSupport_12 : decode cX0_addSupport 12 = .ok (.getfield 58, 3) := by decide +kernel
theorem dX0_addSupport_15 : decode cX0_addSupport 15 = .ok (.bipush 36, 2) := by decide +kernel
theorem dX0_addSupport_17 : decode cX0_addSupport 17 = .ok (.if_icmp .ge 33, 3) := by decide +kernel
theorem dX0_addSupport_20 : decode cX0_addSupport 20 = .ok (.aload_n 0, 1) := by decide +kernel
theorem dX0_addSupport_21 : decode cX0_addSupport 21 = .ok (.getfield 61, 3) := by decide +kernel
theorem dX0_addSupport_24 : decode cX0_addSupport 24 = .ok (.aload_n 0, 1) := by decide +kernel
theorem dX0_addSupport_25 : decode cX0_addSupport 25 = .ok (.getfield 58, 3) := by decide +kernel
theorem dX0_addSupport_28 : decode cX0_addSupport 28 = .ok (.aload_n 1, 1) := by decide +kernel
theorem dX0_addSupport_29 : decode cX0_addSupport 29 = .ok (.aastore, 1) := by decide +kernel
theorem dX0_addSupport_30 : decode cX0_addSupport 30 = .ok (.aload_n 0, 1) := by decide +kernel
theorem dX0_addSupport_31 : decode cX0_addSupport 31 = .ok (.getfield 65, 3) := by decide +kernel
theorem dX0_addSupport_34 : decode cX0_addSupport 34 = .ok (.aload_n 0, 1) := by decide +kernel
theorem dX0_addSupport_35 : decode cX0_addSupport 35 = .ok (.getfield 58, 3) := by decide +kernel
theorem dX0_addSupport_38 : decode cX0_addSupport 38 = .ok (.iload_n 2, 1) := by decide +kernel
theorem dX0_addSupport_39 : decode cX0_addSupport 39 = .ok (.iastore, 1) := by decide +kernel
theorem dX0_addSupport_40 : decode cX0_addSupport 40 = .ok (.aload_n 0, 1) := by decide +kernel
theorem dX0_addSupport_41 : decode cX0_addSupport 41 = .ok (.dup, 1) := by decide +kernel
theorem dX0_addSupport_42 : decode cX0_addSupport 42 = .ok (.getfield 58, 3) := by decide +kernel
theorem dX0_addSupport_45 : decode cX0_addSupport 45 = .ok (.iconst 1, 1) := by decide +kernel
theorem dX0_addSupport_46 : decode cX0_addSupport 46 = .ok (.iadd, 1) := by decide +kernel
theorem dX0_addSupport_47 : decode cX0_addSupport 47 = .ok (.putfield 58, 3) := by decide +kernel
theorem dX0_addSupport_50 : decode cX0_addSupport 50 = .ok (.return_, 1) := by decide +kernel
theorem dX0_passLoadDown_0 : decode cX0_passLoadDown 0 = .ok (.iconst 0, 1) := by decide +kernel
theorem dX0_passLoadDown_1 : decode cX0_passLoadDown 1 = .ok (.istore_n 1, 1) := by decide +kernel
theorem dX0_passLoadDown_2 : decode cX0_passLoadDown 2 = .ok (.iload_n 1, 1) := by decide +kernel
theorem dX0_passLoadDown_3 : decode cX0_passLoadDown 3 = .ok (.aload_n 0, 1) := by decide +kernel
theorem dX0_passLoadDown_4 : decode cX0_passLoadDown 4 = .ok (.getfield 58, 3) := by decide +kernel
theorem dX0_passLoadDown_7 : decode cX0_passLoadDown 7 = .ok (.if_icmp .ge 63, 3) := by decide +kernel
theorem dX0_passLoadDown_10 : decode cX0_passLoadDown 10 = .ok (.iload_n 1, 1) := by decide +kernel
theorem dX0_passLoadDown_11 : decode cX0_passLoadDown 11 = .ok (.bipush 36, 2) := by decide +kernel
theorem dX0_passLoadDown_13 : decode cX0_passLoadDown 13 = .ok (.if_icmp .ge 57, 3) := by decide +kernel
theorem dX0_passLoadDown_16 : decode cX0_passLoadDown 16 = .ok (.aload_n 0, 1) := by decide +kernel
theorem dX0_passLoadDown_17 : decode cX0_passLoadDown 17 = .ok (.getfield 61, 3) := by decide +kernel
theorem dX0_passLoadDown_20 : decode cX0_passLoadDown 20 = .ok (.iload_n 1, 1) := by decide +kernel
theorem dX0_passLoadDown_21 : decode cX0_passLoadDown 21 = .ok (.aaload, 1) := by decide +kernel
theorem dX0_passLoadDown_22 : decode cX0_passLoadDown 22 = .ok (.astore_n 2, 1) := by decide +kernel
theorem dX0_passLoadDown_23 : decode cX0_passLoadDown 23 = .ok (.aload_n 2, 1) := by decide +kernel
theorem dX0_passLoadDown_24 : decode cX0_passLoadDown 24 = .ok (.ifnull 40, 3) := by decide +kernel
theorem dX0_passLoadDown_27 : decode cX0_passLoadDown 27 = .ok (.aload_n 0, 1) := by decide +kernel
theorem dX0_passLoadDown_28 : decode cX0_passLoadDown 28 = .ok (.getfield 43, 3) := by decide +kernel
theorem dX0_passLoadDown_31 : decode cX0_passLoadDown 31 = .ok (.ifCond .le 33, 3) := by decide +kernel
theorem dX0_passLoadDown_34 : decode cX0_passLoadDown 34 = .ok (.aload_n 2, 1) := by decide +kernel
theorem dX0_passLoadDown_35 : decode cX0_passLoadDown 35 = .ok (.dup, 1) := by decide +kernel
theorem dX0_passLoadDown_36 : decode cX0_passLoadDown 36 = .ok (.getfield 49, 3) := by decide +kernel
theorem dX0_passLoadDown_39 : decode cX0_passLoadDown 39 = .ok (.aload_n 0, 1) := by decide +kernel
theorem dX0_passLoadDown_40 : decode cX0_passLoadDown 40 = .ok (.getfield 15, 3) := by decide +kernel
theorem dX0_passLoadDown_43 : decode cX0_passLoadDown 43 = .ok (.aload_n 0, 1) := by decide +kernel
theorem dX0_passLoadDown_44 : decode cX0_passLoadDown 44 = .ok (.getfield 49, 3) := by decide +kernel
theorem dX0_passLoadDown_47 : decode cX0_passLoadDown 47 = .ok (.iadd, 1) := by decide +kernel
theorem dX0_passLoadDown_48 : decode cX0_passLoadDown 48 = .ok (.aload_n 0, 1) := by decide +kernel
theorem dX0_passLoadDown_49 : decode cX0_passLoadDown 49 = .ok (.getfield 65, 3) := by decide +kernel
theorem dX0_passLoadDown_52 : decode cX0_passLoadDown 52 = .ok (.iload_n 1, 1) := by decide +kernel
theorem dX0_passLoadDown_53 : decode cX0_passLoadDown 53 = .ok (.iaload, 1) := by decide +kernel
theorem dX0_passLoadDown_54 : decode cX0_passLoadDown 54 = .ok (.imul, 1) := by decide +kernel
theorem dX0_passLoadDown_55 : decode cX0_passLoadDown 55 = .ok (.aload_n 0, 1) := by decide +kernel
theorem dX0_passLoadDown_56 : decode cX0_passLoadDown 56 = .ok (.getfield 43, 3) := by decide +kernel
theorem dX0_passLoadDown_59 : decode cX0_passLoadDown 59 = .ok (.idiv, 1) := by decide +kernel
theorem dX0_passLoadDown_60 : decode cX0_passLoadDown 60 = .ok (.iadd, 1) := by decide +kernel
theorem dX0_passLoadDown_61 : decode cX0_passLoadDown 61 = .ok (.putfield 49, 3) := by decide +kernel
theorem dX0_passLoadDown_64 : decode cX0_passLoadDown 64 = .ok (.iinc 1 1, 3) := by decide +kernel
theorem dX0_passLoadDown_67 : decode cX0_passLoadDown 67 = .ok (.goto (-65), 3) := by decide +kernel
theorem dX0_passLoadDown_70 : decode cX0_passLoadDown 70 = .ok (.return_, 1) := by decide +kernel
theorem dX0_reachSupports_0 : decode cX0_reachSupports 0 = .ok (.iconst 0, 1) := by decide +kernel
theorem dX0_reachSupports_1 : decode cX0_reachSupports 1 = .ok (.istore_n 1, 1) := by decide +kernel
theorem dX0_reachSupports_2 : decode cX0_reachSupports 2 = .ok (.iload_n 1, 1) := by decide +kernel
theorem dX0_reachSupports_3 : decode cX0_reachSupports 3 = .ok (.aload_n 0, 1) := by decide +kernel
theorem dX0_reachSupports_4 : decode cX0_reachSupports 4 = .ok (.getfield 58, 3) := by decide +kernel
theorem dX0_reachSupports_7 : decode cX0_reachSupports 7 = .ok (.if_icmp .ge 31, 3) := by decide +kernel
theorem dX0_reachSupports_10 : decode cX0_reachSupports 10 = .ok (.iload_n 1, 1) := by decide +kernel
theorem dX0_reachSupports_11 : decode cX0_reachSupports 11 = .ok (.bipush 36, 2) := by decide +kernel
theorem dX0_reachSupports_13 : decode cX0_reachSupports 13 = .ok (.if_icmp .ge 25, 3) := by decide +kernel
theorem dX0_reachSupports_16 : decode cX0_reachSupports 16 = .ok (.aload_n 0, 1) := by decide +kernel
theorem dX0_reachSupports_17 : decode cX0_reachSupports 17 = .ok (.getfield 61, 3) := by decide +kernel
theorem dX0_reachSupports_20 : decode cX0_reachSupports 20 = .ok (.iload_n 1, 1) := by decide +kernel
theorem dX0_reachSupports_21 : decode cX0_reachSupports 21 = .ok (.aaload, 1) := by decide +kernel
theorem dX0_reachSupports_22 : decode cX0_reachSupports 22 = .ok (.astore_n 2, 1) := by decide +kernel
theorem dX0_reachSupports_23 : decode cX0_reachSupports 23 = .ok (.aload_n 2, 1) := by decide +kernel
theorem dX0_reachSupports_24 : decode cX0_reachSupports 24 = .ok (.ifnull 8, 3) := by decide +kernel
theorem dX0_reachSupports_27 : decode cX0_reachSupports 27 = .ok (.aload_n 2, 1) := by decide +kernel
theorem dX0_reachSupports_28 : decode cX0_reachSupports 28 = .ok (.iconst 1, 1) := by decide +kernel
theorem dX0_reachSupports_29 : decode cX0_reachSupports 29 = .ok (.putfield 55, 3) := by decide +kernel
theorem dX0_reachSupports_32 : decode cX0_reachSupports 32 = .ok (.iinc 1 1, 3) := by decide +kernel
theorem dX0_reachSupports_35 : decode cX0_reachSupports 35 = .ok (.goto (-33), 3) := by decide +kernel
theorem dX0_reachSupports_38 : decode cX0_reachSupports 38 = .ok (.return_, 1) := by decide +kernel
theorem dX1_init_0 : decode cX1_init 0 = .ok (.aload_n 0, 1) := by decide +kernel
theorem dX1_init_1 : decode cX1_init 1 = .ok (.invokespecial 1, 3) := by decide +kernel
theorem dX1_init_4 : decode cX1_init 4 = .ok (.aload_n 0, 1) := by decide +kernel
theorem dX1_init_5 : decode cX1_init 5 = .ok (.iload_n 1, 1) := by decide +kernel
theorem dX1_init_6 : decode cX1_init 6 = .ok (.putfield 7, 3) := by decide +kernel
theorem dX1_init_9 : decode cX1_init 9 = .ok (.aload_n 0, 1) := by decide +kernel
theorem dX1_init_10 : decode cX1_init 10 = .ok (.iload_n 2, 1) := by decide +kernel
theorem dX1_init_11 : decode cX1_init 11 = .ok (.putfield 13, 3) := by decide +kernel
theorem dX1_init_14 : decode cX1_init 14 = .ok (.aload_n 0, 1) := by decide +kernel
theorem dX1_init_15 : decode cX1_init 15 = .ok (.iload_n 3, 1) := by decide +kernel
theorem dX1_init_16 : decode cX1_init 16 = .ok (.putfield 16, 3) := by decide +kernel
theorem dX1_init_19 : decode cX1_init 19 = .ok (.aload_n 0, 1) := by decide +kernel
theorem dX1_init_20 : decode cX1_init 20 = .ok (.iload 4, 2) := by decide +kernel
theorem dX1_init_22 : decode cX1_init 22 = .ok (.putfield 19, 3) := by decide +kernel
theorem dX1_init_25 : decode cX1_init 25 = .ok (.aload_n 0, 1) := by decide +kernel
theorem dX1_init_26 : decode cX1_init 26 = .ok (.iload 5, 2) := by decide +kernel
theorem dX1_init_28 : decode cX1_init 28 = .ok (.putfield 22, 3) := by decide +kernel
theorem dX1_init_31 : decode cX1_init 31 = .ok (.aload_n 0, 1) := by decide +kernel
theorem dX1_init_32 : decode cX1_init 32 = .ok (.iload 6, 2) := by decide +kernel
theorem dX1_init_34 : decode cX1_init 34 = .ok (.putfield 25, 3) := by decide +kernel
theorem dX1_init_37 : decode cX1_init 37 = .ok (.aload_n 0, 1) := by decide +kernel
theorem dX1_init_38 : decode cX1_init 38 = .ok (.iload 7, 2) := by decide +kernel
theorem dX1_init_40 : decode cX1_init 40 = .ok (.iconst 1, 1) := by decide +kernel
theorem dX1_init_41 : decode cX1_init 41 = .ok (.if_icmp .eq 9, 3) := by decide +kernel
theorem dX1_init_44 : decode cX1_init 44 = .ok (.iload 7, 2) := by decide +kernel
theorem dX1_init_46 : decode cX1_init 46 = .ok (.iconst 3, 1) := by decide +kernel
theorem dX1_init_47 : decode cX1_init 47 = .ok (.if_icmp .ne 7, 3) := by decide +kernel
theorem dX1_init_50 : decode cX1_init 50 = .ok (.iconst 1, 1) := by decide +kernel
theorem dX1_init_51 : decode cX1_init 51 = .ok (.goto 4, 3) := by decide +kernel
theorem dX1_init_54 : decode cX1_init 54 = .ok (.iconst 0, 1) := by decide +kernel
theorem dX1_init_55 : decode cX1_init 55 = .ok (.putfield 28, 3) := by decide +kernel
theorem dX1_init_58 : decode cX1_init 58 = .ok (.aload_n 0, 1) := by decide +kernel
theorem dX1_init_59 : decode cX1_init 59 = .ok (.iload 7, 2) := by decide +kernel
theorem dX1_init_61 : decode cX1_init 61 = .ok (.iconst 2, 1) := by decide +kernel
theorem dX1_init_62 : decode cX1_init 62 = .ok (.if_icmp .eq 9, 3) := by decide +kernel
theorem dX1_init_65 : decode cX1_init 65 = .ok (.iload 7, 2) := by decide +kernel
theorem dX1_init_67 : decode cX1_init 67 = .ok (.iconst 3, 1) := by decide +kernel
theorem dX1_init_68 : decode cX1_init 68 = .ok (.if_icmp .ne 7, 3) := by decide +kernel
theorem dX1_init_71 : decode cX1_init 71 = .ok (.iconst 1, 1) := by decide +kernel
theorem dX1_init_72 : decode cX1_init 72 = .ok (.goto 4, 3) := by decide +kernel
theorem dX1_init_75 : decode cX1_init 75 = .ok (.iconst 0, 1) := by decide +kernel
theorem dX1_init_76 : decode cX1_init 76 = .ok (.putfield 32, 3) := by decide +kernel
theorem dX1_init_79 : decode cX1_init 79 = .ok (.return_, 1) := by decide +kernel
theorem dX1_comesBefore_0 : decode cX1_comesBefore 0 = .ok (.aload_n 0, 1) := by decide +kernel
theorem dX1_comesBefore_1 : decode cX1_comesBefore 1 = .ok (.getfield 32, 3) := by decide +kernel
theorem dX1_comesBefore_4 : decode cX1_comesBefore 4 = .ok (.aload_n 1, 1) := by decide +kernel
theorem dX1_comesBefore_5 : decode cX1_comesBefore 5 = .ok (.getfield 32, 3) := by decide +kernel
theorem dX1_comesBefore_8 : decode cX1_comesBefore 8 = .ok (.if_icmp .eq 8, 3) := by decide +kernel
theorem dX1_comesBefore_11 : decode cX1_comesBefore 11 = .ok (.aload_n 0, 1) := by decide +kernel
theorem dX1_comesBefore_12 : decode cX1_comesBefore 12 = .ok (.getfield 32, 3) := by decide +kernel
theorem dX1_comesBefore_15 : decode cX1_comesBefore 15 = .ok (.ireturn, 1) := by decide +kernel
theorem dX1_comesBefore_16 : decode cX1_comesBefore 16 = .ok (.aload_n 0, 1) := by decide +kernel
theorem dX1_comesBefore_17 : decode cX1_comesBefore 17 = .ok (.getfield 25, 3) := by decide +kernel
theorem dX1_comesBefore_20 : decode cX1_comesBefore 20 = .ok (.aload_n 1, 1) := by decide +kernel
theorem dX1_comesBefore_21 : decode cX1_comesBefore 21 = .ok (.getfield 25, 3) := by decide +kernel
theorem dX1_comesBefore_24 : decode cX1_comesBefore 24 = .ok (.if_icmp .eq 20, 3) := by decide +kernel
theorem dX1_comesBefore_27 : decode cX1_comesBefore 27 = .ok (.aload_n 0, 1) := by decide +kernel
theorem dX1_comesBefore_28 : decode cX1_comesBefore 28 = .ok (.getfield 25, 3) := by decide +kernel
theorem dX1_comesBefore_31 : decode cX1_comesBefore 31 = .ok (.aload_n 1, 1) := by decide +kernel
theorem dX1_comesBefore_32 : decode cX1_comesBefore 32 = .ok (.getfield 25, 3) := by decide +kernel
theorem dX1_comesBefore_35 : decode cX1_comesBefore 35 = .ok (.if_icmp .le 7, 3) := by decide +kernel
theorem dX1_comesBefore_38 : decode cX1_comesBefore 38 = .ok (.iconst 1, 1) := by decide +kernel
theorem dX1_comesBefore_39 : decode cX1_comesBefore 39 = .ok (.goto 4, 3) := by decide +kernel
theorem dX1_comesBefore_42 : decode cX1_comesBefore 42 = .ok (.iconst 0, 1) := by decide +kernel
theorem dX1_comesBefore_43 : decode cX1_comesBefore 43 = .ok (.ireturn, 1) := by decide +kernel
theorem dX1_comesBefore_44 : decode cX1_comesBefore 44 = .ok (.aload_n 0, 1) := by decide +kernel
theorem dX1_comesBefore_45 : decode cX1_comesBefore 45 = .ok (.getfield 22, 3) := by decide +kernel
theorem dX1_comesBefore_48 : decode cX1_comesBefore 48 = .ok (.aload_n 1, 1) := by decide +kernel
theorem dX1_comesBefore_49 : decode cX1_comesBefore 49 = .ok (.getfield 22, 3) := by decide +kernel
theorem dX1_comesBefore_52 : decode cX1_comesBefore 52 = .ok (.if_icmp .le 7, 3) := by decide +kernel
theorem dX1_comesBefore_55 : decode cX1_comesBefore 55 = .ok (.iconst 1, 1) := by decide +kernel
theorem dX1_comesBefore_56 : decode cX1_comesBefore 56 = .ok (.goto 4, 3) := by decide +kernel
theorem dX1_comesBefore_59 : decode cX1_comesBefore 59 = .ok (.iconst 0, 1) := by decide +kernel
theorem dX1_comesBefore_60 : decode cX1_comesBefore 60 = .ok (.ireturn, 1) := by decide +kernel
theorem dX2_init_0 : decode cX2_init 0 = .ok (.aload_n 0, 1) := by decide +kernel
theorem dX2_init_1 : decode cX2_init 1 = .ok (.invokespecial 1, 3) := by decide +kernel
theorem dX2_init_4 : decode cX2_init 4 = .ok (.aload_n 0, 1) := by decide +kernel
theorem dX2_init_5 : decode cX2_init 5 = .ok (.iconst 0, 1) := by decide +kernel
theorem dX2_init_6 : decode cX2_init 6 = .ok (.putfield 7, 3) := by decide +kernel
theorem dX2_init_9 : decode cX2_init 9 = .ok (.aload_n 0, 1) := by decide +kernel
theorem dX2_init_10 : decode cX2_init 10 = .ok (.aload_n 1, 1) := by decide +kernel
theorem dX2_init_11 : decode cX2_init 11 = .ok (.putfield 13, 3) := by decide +kernel
theorem dX2_init_14 : decode cX2_init 14 = .ok (.aload_n 0, 1) := by decide +kernel
theorem dX2_init_15 : decode cX2_init 15 = .ok (.iload_n 2, 1) := by decide +kernel
theorem dX2_init_16 : decode cX2_init 16 = .ok (.putfield 17, 3) := by decide +kernel
theorem dX2_init_19 : decode cX2_init 19 = .ok (.return_, 1) := by decide +kernel
set_option maxRecDepth 20000 in
theorem ggX3_init_X0_init : GoodIn wsX3_init wsX0_init := goodIn_r _ [25, 26, 2, 3, 27, 28, 29, 30, 31, 32, 33, 34, 35, 36, 37, 38, 39, 40, 41, 42, 43, 44, 16, 45, 60, 61, 62, 63, 64, 65, 66, 67, 68, 69, 70, 71, 72, 73, 74, 75, 76, 77] (by decide +kernel) (by decide +kernel)
set_option maxRecDepth 20000 in
theorem gX3_init_X0_init_n51 : GoodIn wsX3_init (wsX0_init) := ggX3_init_X0_init
theorem dX3_init_0 : decode cX3_init 0 = .ok (.aload_n 0, 1) := by decide +kernel
theorem dX3_init_1 : decode cX3_init 1 = .ok (.invokespecial 3, 3) := by decide +kernel
theorem dX3_init_4 : decode cX3_init 4 = .ok (.aload_n 0, 1) := by decide +kernel
theorem dX3_init_5 : decode cX3_init 5 = .ok (.bipush 10, 2) := by decide +kernel
theorem dX3_init_7 : decode cX3_init 7 = .ok (.anewarray 9, 3) := by decide +kernel
theorem dX3_init_10 : decode cX3_init 10 = .ok (.putfield 11, 3) := by decide +kernel
theorem dX3_init_13 : decode cX3_init 13 = .ok (.aload_n 0, 1) := by decide +kernel
theorem dX3_init_14 : decode cX3_init 14 = .ok (.iconst 0, 1) := by decide +kernel
theorem dX3_init_15 : decode cX3_init 15 = .ok (.putfield 15, 3) := by decide +kernel
theorem dX3_init_18 : decode cX3_init 18 = .ok (.aload_n 0, 1) := by decide +kernel
theorem dX3_init_19 : decode cX3_init 19 = .ok (.bipush 20, 2) := by decide +kernel
theorem dX3_init_21 : decode cX3_init 21 = .ok (.putfield 19, 3) := by decide +kernel
theorem dX3_init_24 : decode cX3_init 24 = .ok (.aload_n 0, 1) := by decide +kernel
theorem dX3_init_25 : decode cX3_init 25 = .ok (.bipush 60, 2) := by decide +kernel
theorem dX3_init_27 : decode cX3_init 27 = .ok (.putfield 22, 3) := by decide +kernel
theorem dX3_init_30 : decode cX3_init 30 = .ok (.aload_n 0, 1) := by decide +kernel
theorem dX3_init_31 : decode cX3_init 31 = .ok (.sipush 2000, 3) := by decide +kernel
theorem dX3_init_34 : decode cX3_init 34 = .ok (.putfield 25, 3) := by decide +kernel
theorem dX3_init_37 : decode cX3_init 37 = .ok (.aload_n 0, 1) := by decide +kernel
theorem dX3_init_38 : decode cX3_init 38 = .ok (.iconst 0, 1) := by decide +kernel
theorem dX3_init_39 : decode cX3_init 39 = .ok (.putfield 28, 3) := by decide +kernel
theorem dX3_init_42 : decode cX3_init 42 = .ok (.aload_n 0, 1) := by decide +kernel
theorem dX3_init_43 : decode cX3_init 43 = .ok (.bipush 60, 2) := by decide +kernel
theorem dX3_init_45 : decode cX3_init 45 = .ok (.anewarray 32, 3) := by decide +kernel
theorem dX3_init_48 : decode cX3_init 48 = .ok (.putfield 34, 3) := by decide +kernel
theorem dX3_init_51 : decode cX3_init 51 = .ok (.aload_n 0, 1) := by decide +kernel
theorem dX3_init_52 : decode cX3_init 52 = .ok (.iconst 0, 1) := by decide +kernel
theorem dX3_init_53 : decode cX3_init 53 = .ok (.putfield 38, 3) := by decide +kernel
theorem dX3_init_56 : decode cX3_init 56 = .ok (.aload_n 0, 1) := by decide +kernel
theorem dX3_init_57 : decode cX3_init 57 = .ok (.iconst 0, 1) := by decide +kernel
theorem dX3_init_58 : decode cX3_init 58 = .ok (.putfield 41, 3) := by decide +kernel
theorem dX3_init_61 : decode cX3_init 61 = .ok (.aload_n 0, 1) := by decide +kernel
theorem dX3_init_62 : decode cX3_init 62 = .ok (.iconst 0, 1) := by decide +kernel
theorem dX3_init_63 : decode cX3_init 63 = .ok (.putfield 44, 3) := by decide +kernel
theorem dX3_init_66 : decode cX3_init 66 = .ok (.aload_n 0, 1) := by decide +kernel
theorem dX3_init_67 : decode cX3_init 67 = .ok (.bipush 120, 2) := by decide +kernel
theorem dX3_init_69 : decode cX3_init 69 = .ok (.newarray .int, 2) := by decide +kernel
theorem dX3_init_71 : decode cX3_init 71 = .ok (.putfield 47, 3) := by decide +kernel
theorem dX3_init_74 : decode cX3_init 74 = .ok (.aload_n 0, 1) := by decide +kernel
theorem dX3_init_75 : decode cX3_init 75 = .ok (.new 32, 3) := by decide +kernel
theorem dX3_init_78 : decode cX3_init 78 = .ok (.dup, 1) := by decide +kernel
theorem dX3_init_79 : decode cX3_init 79 = .ok (.invokespecial 51, 3) := by decide +kernel
theorem dX3_init_82 : decode cX3_init 82 = .ok (.putfield 52, 3) := by decide +kernel
theorem dX3_init_85 : decode cX3_init 85 = .ok (.aload_n 0, 1) := by decide +kernel
theorem dX3_init_86 : decode cX3_init 86 = .ok (.bipush 20, 2) := by decide +kernel
theorem dX3_init_88 : decode cX3_init 88 = .ok (.anewarray 56, 3) := by decide +kernel
theorem dX3_init_91 : decode cX3_init 91 = .ok (.putfield 58, 3) := by decide +kernel
theorem dX3_init_94 : decode cX3_init 94 = .ok (.aload_n 0, 1) := by decide +kernel
theorem dX3_init_95 : decode cX3_init 95 = .ok (.iconst 0, 1) := by decide +kernel
theorem dX3_init_96 : decode cX3_init 96 = .ok (.putfield 62, 3) := by decide +kernel
theorem dX3_init_99 : decode cX3_init 99 = .ok (.iconst 0, 1) := by decide +kernel
theorem dX3_init_100 : decode cX3_init 100 = .ok (.istore_n 1, 1) := by decide +kernel
theorem dX3_init_101 : decode cX3_init 101 = .ok (.iload_n 1, 1) := by decide +kernel
theorem dX3_init_102 : decode cX3_init 102 = .ok (.bipush 60, 2) := by decide +kernel
theorem dX3_init_104 : decode cX3_init 104 = .ok (.if_icmp .ge 22, 3) := by decide +kernel
theorem dX3_init_107 : decode cX3_init 107 = .ok (.aload_n 0, 1) := by decide +kernel
theorem dX3_init_108 : decode cX3_init 108 = .ok (.getfield 34, 3) := by decide +kernel
theorem dX3_init_111 : decode cX3_init 111 = .ok (.iload_n 1, 1) := by decide +kernel
theorem dX3_init_112 : decode cX3_init 112 = .ok (.new 32, 3) := by decide +kernel
theorem dX3_init_115 : decode cX3_init 115 = .ok (.dup, 1) := by decide +kernel
theorem dX3_init_116 : decode cX3_init 116 = .ok (.invokespecial 51, 3) := by decide +kernel
theorem dX3_init_119 : decode cX3_init 119 = .ok (.aastore, 1) := by decide +kernel
theorem dX3_init_120 : decode cX3_init 120 = .ok (.iinc 1 1, 3) := by decide +kernel
theorem dX3_init_123 : decode cX3_init 123 = .ok (.goto (-22), 3) := by decide +kernel
theorem dX3_init_126 : decode cX3_init 126 = .ok (.return_, 1) := by decide +kernel
set_option maxRecDepth 20000 in
theorem ggX3_addKind_X3_isWithin : GoodIn wsX3_addKind wsX3_isWithin := goodIn_r _ [13] (by decide +kernel) (by decide +kernel)
set_option maxRecDepth 20000 in
theorem gX3_addKind_X3_isWithin : GoodIn wsX3_addKind (va_wsS RX3 65 yX3_isWithin wsX3_isWithin) := goodIn_app (goodIn_of _ (by decide +kernel)) ggX3_addKind_X3_isWithin
set_option maxRecDepth 20000 in
theorem ggX3_addKind_X1_init : GoodIn wsX3_addKind wsX1_init := goodIn_r _ [16, 17, 18, 19, 20, 21, 22, 23, 24, 25, 26, 27, 42, 43, 44, 45, 46, 47, 48, 49] (by decide +kernel) (by decide +kernel)
set_option maxRecDepth 20000 in
theorem gX3_addKind_X1_init : GoodIn wsX3_addKind (wsX1_init) := ggX3_addKind_X1_init
theorem dX3_addKind_0 : decode cX3_addKind 0 = .ok (.iload_n 1, 1) := by decide +kernel
theorem dX3_addKind_1 : decode cX3_addKind 1 = .ok (.iconst 1, 1) := by decide +kernel
theorem dX3_addKind_2 : decode cX3_addKind 2 = .ok (.bipush 6, 2) := by decide +kernel
theorem dX3_addKind_4 : decode cX3_addKind 4 = .ok (.invokestatic 65, 3) := by decide +kernel
theorem dX3_addKind_7 : decode cX3_addKind 7 = .ok (.ifCond .eq 57, 3) := by decide +kernel
theorem dX3_addKind_10 : decode cX3_addKind 10 = .ok (.iload_n 2, 1) := by decide +kernel
theorem dX3_addKind_11 : decode cX3_addKind 11 = .ok (.iconst 1, 1) := by decide +kernel
theorem dX3_addKind_12 : decode cX3_addKind 12 = .ok (.bipush 6, 2) := by decide +kernel
theorem dX3_addKind_14 : decode cX3_addKind 14 = .ok (.invokestatic 65, 3) := by decide +kernel
theorem dX3_addKind_17 : decode cX3_addKind 17 = .ok (.ifCond .eq 47, 3) := by decide +kernel
theorem dX3_addKind_20 : decode cX3_addKind 20 = .ok (.iload_n 3, 1) := by decide +kernel
theorem dX3_addKind_21 : decode cX3_addKind 21 = .ok (.iconst 1, 1) := by decide +kernel
theorem dX3_addKind_22 : decode cX3_addKind 22 = .ok (.bipush 8, 2) := by decide +kernel
theorem dX3_addKind_24 : decode cX3_addKind 24 = .ok (.invokestatic 65, 3) := by decide +kernel
theorem dX3_addKind_27 : decode cX3_addKind 27 = .ok (.ifCond .eq 37, 3) := by decide +kernel
theorem dX3_addKind_30 : decode cX3_addKind 30 = .ok (.iload 4, 2) := by decide +kernel
theorem dX3_addKind_32 : decode cX3_addKind 32 = .ok (.iconst 1, 1) := by decide +kernel
theorem dX3_addKind_33 : decode cX3_addKind 33 = .ok (.sipush 500, 3) := by decide +kernel
theorem dX3_addKind_36 : decode cX3_addKind 36 = .ok (.invokestatic 65, 3) := by decide +kernel
theorem dX3_addKind_39 : decode cX3_addKind 39 = .ok (.ifCond .eq 25, 3) := by decide +kernel
theorem dX3_addKind_42 : decode cX3_addKind 42 = .ok (.iload 5, 2) := by decide +kernel
theorem dX3_addKind_44 : decode cX3_addKind 44 = .ok (.iconst 0, 1) := by decide +kernel
theorem dX3_addKind_45 : decode cX3_addKind 45 = .ok (.sipush 5000, 3) := by decide +kernel
theorem dX3_addKind_48 : decode cX3_addKind 48 = .ok (.invokestatic 65, 3) := by decide +kernel
theorem dX3_addKind_51 : decode cX3_addKind 51 = .ok (.ifCond .eq 13, 3) := by decide +kernel
theorem dX3_addKind_54 : decode cX3_addKind 54 = .ok (.iload 6, 2) := by decide +kernel
theorem dX3_addKind_56 : decode cX3_addKind 56 = .ok (.iconst 0, 1) := by decide +kernel
theorem dX3_addKind_57 : decode cX3_addKind 57 = .ok (.iconst 3, 1) := by decide +kernel
theorem dX3_addKind_58 : decode cX3_addKind 58 = .ok (.invokestatic 65, 3) := by decide +kernel
theorem dX3_addKind_61 : decode cX3_addKind 61 = .ok (.ifCond .ne 11, 3) := by decide +kernel
theorem dX3_addKind_64 : decode cX3_addKind 64 = .ok (.new 69, 3) := by decide +kernel
theorem dX3_addKind_67 : decode cX3_addKind 67 = .ok (.dup, 1) := by decide +kernel
theorem dX3_addKind_68 : decode cX3_addKind 68 = .ok (.invokespecial 71, 3) := by decide +kernel
theorem dX3_addKind_71 : decode cX3_addKind 71 = .ok (.athrow, 1) := by decide +kernel
theorem dX3_addKind_72 : decode cX3_addKind 72 = .ok (.aload_n 0, 1) := by decide +kernel
theorem dX3_addKind_73 : decode cX3_addKind 73 = .ok (.getfield 15, 3) := by decide +kernel
theorem dX3_addKind_76 : decode cX3_addKind 76 = .ok (.ifCond .lt 12, 3) := by decide +kernel
theorem dX3_addKind_79 : decode cX3_addKind 79 = .ok (.aload_n 0, 1) := by decide +kernel
theorem dX3_addKind_80 : decode cX3_addKind 80 = .ok (.getfield 15, 3) := by decide +kernel
theorem dX3_addKind_83 : decode cX3_addKind 83 = .ok (.bipush 10, 2) := by decide +kernel
theorem dX3_addKind_85 : decode cX3_addKind 85 = .ok (.if_icmp .lt 11, 3) := by decide +kernel
theorem dX3_addKind_88 : decode cX3_addKind 88 = .ok (.new 72, 3) := by decide +kernel
theorem dX3_addKind_91 : decode cX3_addKind 91 = .ok (.dup, 1) := by decide +kernel
theorem dX3_addKind_92 : decode cX3_addKind 92 = .ok (.invokespecial 74, 3) := by decide +kernel
theorem dX3_addKind_95 : decode cX3_addKind 95 = .ok (.athrow, 1) := by decide +kernel
theorem dX3_addKind_96 : decode cX3_addKind 96 = .ok (.aload_n 0, 1) := by decide +kernel
theorem dX3_addKind_97 : decode cX3_addKind 97 = .ok (.getfield 15, 3) := by decide +kernel
theorem dX3_addKind_100 : decode cX3_addKind 100 = .ok (.istore 7, 2) := by decide +kernel
theorem dX3_addKind_102 : decode cX3_addKind 102 = .ok (.aload_n 0, 1) := by decide +kernel
theorem dX3_addKind_103 : decode cX3_addKind 103 = .ok (.getfield 11, 3) := by decide +kernel
theorem dX3_addKind_106 : decode cX3_addKind 106 = .ok (.iload 7, 2) := by decide +kernel
theorem dX3_addKind_108 : decode cX3_addKind 108 = .ok (.new 9, 3) := by decide +kernel
theorem dX3_addKind_111 : decode cX3_addKind 111 = .ok (.dup, 1) := by decide +kernel
theorem dX3_addKind_112 : decode cX3_addKind 112 = .ok (.iload 7, 2) := by decide +kernel
theorem dX3_addKind_114 : decode cX3_addKind 114 = .ok (.iload_n 1, 1) := by decide +kernel
theorem dX3_addKind_115 : decode cX3_addKind 115 = .ok (.iload_n 2, 1) := by decide +kernel
theorem dX3_addKind_116 : decode cX3_addKind 116 = .ok (.iload_n 3, 1) := by decide +kernel
theorem dX3_addKind_117 : decode cX3_addKind 117 = .ok (.iload 4, 2) := by decide +kernel
theorem dX3_addKind_119 : decode cX3_addKind 119 = .ok (.iload 5, 2) := by decide +kernel
theorem dX3_addKind_121 : decode cX3_addKind 121 = .ok (.iload 6, 2) := by decide +kernel
theorem dX3_addKind_123 : decode cX3_addKind 123 = .ok (.invokespecial 75, 3) := by decide +kernel
theorem dX3_addKind_126 : decode cX3_addKind 126 = .ok (.aastore, 1) := by decide +kernel
theorem dX3_addKind_127 : decode cX3_addKind 127 = .ok (.aload_n 0, 1) := by decide +kernel
theorem dX3_addKind_128 : decode cX3_addKind 128 = .ok (.iload 7, 2) := by decide +kernel
theorem dX3_addKind_130 : decode cX3_addKind 130 = .ok (.iconst 1, 1) := by decide +kernel
theorem dX3_addKind_131 : decode cX3_addKind 131 = .ok (.iadd, 1) := by decide +kernel
theorem dX3_addKind_132 : decode cX3_addKind 132 = .ok (.putfield 15, 3) := by decide +kernel
theorem dX3_addKind_135 : decode cX3_addKind 135 = .ok (.iload 7, 2) := by decide +kernel
theorem dX3_addKind_137 : decode cX3_addKind 137 = .ok (.ireturn, 1) := by decide +kernel
set_option maxRecDepth 20000 in
theorem ggX3_setRules_X3_isWithin : GoodIn wsX3_setRules wsX3_isWithin := goodIn_r _ [10] (by decide +kernel) (by decide +kernel)
set_option maxRecDepth 20000 in
theorem gX3_setRules_X3_isWithin : GoodIn wsX3_setRules (va_wsS RX3 65 yX3_isWithin wsX3_isWithin) := goodIn_app (goodIn_of _ (by decide +kernel)) ggX3_setRules_X3_isWithin
theorem dX3_setRules_0 : decode cX3_setRules 0 = .ok (.iload_n 1, 1) := by decide +kernel
theorem dX3_setRules_1 : decode cX3_setRules 1 = .ok (.iconst 1, 1) := by decide +kernel
theorem dX3_setRules_2 : decode cX3_setRules 2 = .ok (.bipush 40, 2) := by decide +kernel
theorem dX3_setRules_4 : decode cX3_setRules 4 = .ok (.invokestatic 65, 3) := by decide +kernel
theorem dX3_setRules_7 : decode cX3_setRules 7 = .ok (.ifCond .eq 24, 3) := by decide +kernel
theorem dX3_setRules_10 : decode cX3_setRules 10 = .ok (.iload_n 2, 1) := by decide +kernel
theorem dX3_setRules_11 : decode cX3_setRules 11 = .ok (.iconst 0, 1) := by decide +kernel
theorem dX3_setRules_12 : decode cX3_setRules 12 = .ok (.bipush 100, 2) := by decide +kernel
theorem dX3_setRules_14 : decode cX3_setRules 14 = .ok (.invokestatic 65, 3) := by decide +kernel
theorem dX3_setRules_17 : decode cX3_setRules 17 = .ok (.ifCond .eq 14, 3) := by decide +kernel
theorem dX3_setRules_20 : decode cX3_setRules 20 = .ok (.iload_n 3, 1) := by decide +kernel
theorem dX3_setRules_21 : decode cX3_setRules 21 = .ok (.iconst 1, 1) := by decide +kernel
theorem dX3_setRules_22 : decode cX3_setRules 22 = .ok (.sipush 20000, 3) := by decide +kernel
theorem dX3_setRules_25 : decode cX3_setRules 25 = .ok (.invokestatic 65, 3) := by decide +kernel
theorem dX3_setRules_28 : decode cX3_setRules 28 = .ok (.ifCond .ne 11, 3) := by decide +kernel
theorem dX3_setRules_31 : decode cX3_setRules 31 = .ok (.new 69, 3) := by decide +kernel
theorem dX3_setRules_34 : decode cX3_setRules 34 = .ok (.dup, 1) := by decide +kernel
theorem dX3_setRules_35 : decode cX3_setRules 35 = .ok (.invokespecial 71, 3) := by decide +kernel
theorem dX3_setRules_38 : decode cX3_setRules 38 = .ok (.athrow, 1) := by decide +kernel
theorem dX3_setRules_39 : decode cX3_setRules 39 = .ok (.aload_n 0, 1) := by decide +kernel
theorem dX3_setRules_40 : decode cX3_setRules 40 = .ok (.getfield 19, 3) := by decide +kernel
theorem dX3_setRules_43 : decode cX3_setRules 43 = .ok (.istore 5, 2) := by decide +kernel
theorem dX3_setRules_45 : decode cX3_setRules 45 = .ok (.aload_n 0, 1) := by decide +kernel
theorem dX3_setRules_46 : decode cX3_setRules 46 = .ok (.iload_n 1, 1) := by decide +kernel
theorem dX3_setRules_47 : decode cX3_setRules 47 = .ok (.putfield 19, 3) := by decide +kernel
theorem dX3_setRules_50 : decode cX3_setRules 50 = .ok (.aload_n 0, 1) := by decide +kernel
theorem dX3_setRules_51 : decode cX3_setRules 51 = .ok (.iload_n 2, 1) := by decide +kernel
theorem dX3_setRules_52 : decode cX3_setRules 52 = .ok (.putfield 22, 3) := by decide +kernel
theorem dX3_setRules_55 : decode cX3_setRules 55 = .ok (.aload_n 0, 1) := by decide +kernel
theorem dX3_setRules_56 : decode cX3_setRules 56 = .ok (.iload_n 3, 1) := by decide +kernel
theorem dX3_setRules_57 : decode cX3_setRules 57 = .ok (.putfield 25, 3) := by decide +kernel
theorem dX3_setRules_60 : decode cX3_setRules 60 = .ok (.aload_n 0, 1) := by decide +kernel
theorem dX3_setRules_61 : decode cX3_setRules 61 = .ok (.iload 4, 2) := by decide +kernel
theorem dX3_setRules_63 : decode cX3_setRules 63 = .ok (.putfield 28, 3) := by decide +kernel
theorem dX3_setRules_66 : decode cX3_setRules 66 = .ok (.iload 5, 2) := by decide +kernel
theorem dX3_setRules_68 : decode cX3_setRules 68 = .ok (.ireturn, 1) := by decide +kernel
set_option maxRecDepth 20000 in
theorem ggX3_count_X3_isWithin : GoodIn wsX3_count wsX3_isWithin := goodIn_r _ [6] (by decide +kernel) (by decide +kernel)
set_option maxRecDepth 20000 in
theorem gX3_count_X3_isWithin : GoodIn wsX3_count (va_wsS RX3 65 yX3_isWithin wsX3_isWithin) := goodIn_app (goodIn_of _ (by decide +kernel)) ggX3_count_X3_isWithin
set_option maxRecDepth 20000 in
theorem ggX3_count_X3_countOf : GoodIn wsX3_count wsX3_countOf := goodIn_r _ [10, 11, 12, 13, 14, 15, 16, 17, 18, 19, 20, 21, 22, 23, 24, 25, 26, 27, 28] (by decide +kernel) (by decide +kernel)
set_option maxRecDepth 20000 in
theorem gX3_count_X3_countOf : GoodIn wsX3_count (wsV RX3 81 RX3 yX3_countOf wsX3_countOf) := goodIn_app (goodIn_of _ (by decide +kernel)) ggX3_count_X3_countOf
theorem dX3_count_0 : decode cX3_count 0 = .ok (.iload_n 1, 1) := by decide +kernel
theorem dX3_count_1 : decode cX3_count 1 = .ok (.iconst 0, 1) := by decide +kernel
theorem dX3_count_2 : decode cX3_count 2 = .ok (.iconst 3, 1) := by decide +kernel
theorem dX3_count_3 : decode cX3_count 3 = .ok (.invokestatic 65, 3) := by decide +kernel
theorem dX3_count_6 : decode cX3_count 6 = .ok (.ifCond .ne 11, 3) := by decide +kernel
theorem dX3_count_9 : decode cX3_count 9 = .ok (.new 78, 3) := by decide +kernel
theorem dX3_count_12 : decode cX3_count 12 = .ok (.dup, 1) := by decide +kernel
theorem dX3_count_13 : decode cX3_count 13 = .ok (.invokespecial 80, 3) := by decide +kernel
theorem dX3_count_16 : decode cX3_count 16 = .ok (.athrow, 1) := by decide +kernel
theorem dX3_count_17 : decode cX3_count 17 = .ok (.aload_n 0, 1) := by decide +kernel
theorem dX3_count_18 : decode cX3_count 18 = .ok (.iload_n 1, 1) := by decide +kernel
theorem dX3_count_19 : decode cX3_count 19 = .ok (.invokevirtual 81, 3) := by decide +kernel
theorem dX3_count_22 : decode cX3_count 22 = .ok (.ireturn, 1) := by decide +kernel
set_option maxRecDepth 20000 in
theorem ggX3_item_X3_itemOf : GoodIn wsX3_item wsX3_itemOf := goodIn_r _ [7, 8, 9, 10, 53, 54, 55, 56, 57, 58, 59, 60, 61, 62, 63, 64, 65, 66, 67, 68, 69, 70, 71, 72, 73, 74, 75, 76, 77, 78, 79, 80, 81, 82, 83, 84] (by decide +kernel) (by decide +kernel)
set_option maxRecDepth 20000 in
theorem gX3_item_X3_itemOf : GoodIn wsX3_item (wsV RX3 96 RX3 yX3_itemOf wsX3_itemOf) := goodIn_app (goodIn_of _ (by decide +kernel)) ggX3_item_X3_itemOf
set_option maxRecDepth 20000 in
theorem ggX3_item_X3_isWithin : GoodIn wsX3_item wsX3_isWithin := goodIn_r _ [13] (by decide +kernel) (by decide +kernel)
set_option maxRecDepth 20000 in
theorem gX3_item_X3_isWithin : GoodIn wsX3_item (va_wsS RX3 65 yX3_isWithin wsX3_isWithin) := goodIn_app (goodIn_of _ (by decide +kernel)) ggX3_item_X3_isWithin
set_option maxRecDepth 20000 in
theorem ggX3_item_X3_factOf : GoodIn wsX3_item wsX3_factOf := goodIn_r _ [17, 18, 19, 20, 21, 22, 23, 24, 25, 26, 27, 28, 29, 6, 30, 8, 3, 4, 5, 7, 9, 10, 31, 32, 33, 34, 35, 36, 37, 38, 39, 40, 41, 42, 43, 44, 45, 46, 47, 48, 49, 50, 51, 52, 67, 68, 69, 70, 71, 72, 73, 74, 75, 76, 77, 78, 79, 80, 81, 82, 83, 84, 53, 54, 55, 56, 57, 58, 59, 60, 61, 62, 63, 64, 65, 66] (by decide +kernel) (by decide +kernel)
set_option maxRecDepth 20000 in
theorem gX3_item_X3_factOf : GoodIn wsX3_item (wsV RX3 116 RX3 yX3_factOf wsX3_factOf) := goodIn_app (goodIn_of _ (by decide +kernel)) ggX3_item_X3_factOf
theorem dX3_item_0 : decode cX3_item 0 = .ok (.aload_n 0, 1) := by decide +kernel
theorem dX3_item_1 : decode cX3_item 1 = .ok (.iload_n 1, 1) := by decide +kernel
theorem dX3_item_2 : decode cX3_item 2 = .ok (.invokevirtual 96, 3) := by decide +kernel
theorem dX3_item_5 : decode cX3_item 5 = .ok (.astore_n 3, 1) := by decide +kernel
theorem dX3_item_6 : decode cX3_item 6 = .ok (.aload_n 3, 1) := by decide +kernel
theorem dX3_item_7 : decode cX3_item 7 = .ok (.ifnull 13, 3) := by decide +kernel
theorem dX3_item_10 : decode cX3_item 10 = .ok (.iload_n 2, 1) := by decide +kernel
theorem dX3_item_11 : decode cX3_item 11 = .ok (.iconst 0, 1) := by decide +kernel
theorem dX3_item_12 : decode cX3_item 12 = .ok (.bipush 9, 2) := by decide +kernel
theorem dX3_item_14 : decode cX3_item 14 = .ok (.invokestatic 65, 3) := by decide +kernel
theorem dX3_item_17 : decode cX3_item 17 = .ok (.ifCond .ne 11, 3) := by decide +kernel
theorem dX3_item_20 : decode cX3_item 20 = .ok (.new 78, 3) := by decide +kernel
theorem dX3_item_23 : decode cX3_item 23 = .ok (.dup, 1) := by decide +kernel
theorem dX3_item_24 : decode cX3_item 24 = .ok (.invokespecial 80, 3) := by decide +kernel
theorem dX3_item_27 : decode cX3_item 27 = .ok (.athrow, 1) := by decide +kernel
theorem dX3_item_28 : decode cX3_item 28 = .ok (.aload_n 0, 1) := by decide +kernel
theorem dX3_item_29 : decode cX3_item 29 = .ok (.aload_n 3, 1) := by decide +kernel
theorem dX3_item_30 : decode cX3_item 30 = .ok (.iload_n 2, 1) := by decide +kernel
theorem dX3_item_31 : decode cX3_item 31 = .ok (.invokevirtual 116, 3) := by decide +kernel
theorem dX3_item_34 : decode cX3_item 34 = .ok (.ireturn, 1) := by decide +kernel
set_option maxRecDepth 20000 in
theorem ggX3_at_X3_isCell : GoodIn wsX3_at wsX3_isCell := goodIn_r _ [9, 10, 11, 8, 12] (by decide +kernel) (by decide +kernel)
set_option maxRecDepth 20000 in
theorem gX3_at_X3_isCell : GoodIn wsX3_at (va_wsS RX3 120 yX3_isCell wsX3_isCell) := goodIn_app (goodIn_of _ (by decide +kernel)) ggX3_at_X3_isCell
set_option maxRecDepth 20000 in
theorem ggX3_at_X3_isWithin : GoodIn wsX3_at wsX3_isWithin := goodIn_r _ [12] (by decide +kernel) (by decide +kernel)
set_option maxRecDepth 20000 in
theorem gX3_at_X3_isWithin : GoodIn wsX3_at (va_wsS RX3 65 yX3_isWithin wsX3_isWithin) := goodIn_app (goodIn_of _ (by decide +kernel)) ggX3_at_X3_isWithin
set_option maxRecDepth 20000 in
theorem ggX3_at_X3_itemOf : GoodIn wsX3_at wsX3_itemOf := goodIn_r _ [16, 3, 17, 18, 28, 29, 30, 31, 32, 33, 34, 35, 36, 37, 38, 39, 40, 41, 42, 43, 44, 45, 46, 47, 48, 49, 50, 51, 52, 53, 54, 55, 56, 57, 58, 59] (by decide +kernel) (by decide +kernel)
set_option maxRecDepth 20000 in
theorem gX3_at_X3_itemOf : GoodIn wsX3_at (wsV RX3 96 RX3 yX3_itemOf wsX3_itemOf) := goodIn_app (goodIn_of _ (by decide +kernel)) ggX3_at_X3_itemOf
set_option maxRecDepth 20000 in
theorem ggX3_at_X0_covers : GoodIn wsX3_at wsX0_covers := goodIn_r _ [23, 24, 25, 26, 27, 42, 43, 44, 45, 46, 47, 48, 49, 50, 51, 52, 53, 54, 55, 56, 57, 58, 59] (by decide +kernel) (by decide +kernel)
set_option maxRecDepth 20000 in
theorem gX3_at_X0_covers : GoodIn wsX3_at (wsV RX3 128 RX0 yX0_covers wsX0_covers) := goodIn_app (goodIn_of _ (by decide +kernel)) ggX3_at_X0_covers
theorem dX3_at_0 : decode cX3_at 0 = .ok (.iload_n 1, 1) := by decide +kernel
theorem dX3_at_1 : decode cX3_at 1 = .ok (.iload_n 2, 1) := by decide +kernel
theorem dX3_at_2 : decode cX3_at 2 = .ok (.invokestatic 120, 3) := by decide +kernel
theorem dX3_at_5 : decode cX3_at 5 = .ok (.ifCond .eq 13, 3) := by decide +kernel
theorem dX3_at_8 : decode cX3_at 8 = .ok (.iload_n 3, 1) := by decide +kernel
theorem dX3_at_9 : decode cX3_at 9 = .ok (.iconst 0, 1) := by decide +kernel
theorem dX3_at_10 : decode cX3_at 10 = .ok (.bipush 39, 2) := by decide +kernel
theorem dX3_at_12 : decode cX3_at 12 = .ok (.invokestatic 65, 3) := by decide +kernel
theorem dX3_at_15 : decode cX3_at 15 = .ok (.ifCond .ne 11, 3) := by decide +kernel
theorem dX3_at_18 : decode cX3_at 18 = .ok (.new 78, 3) := by decide +kernel
theorem dX3_at_21 : decode cX3_at 21 = .ok (.dup, 1) := by decide +kernel
theorem dX3_at_22 : decode cX3_at 22 = .ok (.invokespecial 80, 3) := by decide +kernel
theorem dX3_at_25 : decode cX3_at 25 = .ok (.athrow, 1) := by decide +kernel
theorem dX3_at_26 : decode cX3_at 26 = .ok (.iconst 0, 1) := by decide +kernel
theorem dX3_at_27 : decode cX3_at 27 = .ok (.istore 4, 2) := by decide +kernel
theorem dX3_at_29 : decode cX3_at 29 = .ok (.iload 4, 2) := by decide +kernel
theorem dX3_at_31 : decode cX3_at 31 = .ok (.aload_n 0, 1) := by decide +kernel
theorem dX3_at_32 : decode cX3_at 32 = .ok (.getfield 38, 3) := by decide +kernel
theorem dX3_at_35 : decode cX3_at 35 = .ok (.if_icmp .ge 53, 3) := by decide +kernel
theorem dX3_at_38 : decode cX3_at 38 = .ok (.aload_n 0, 1) := by decide +kernel
theorem dX3_at_39 : decode cX3_at 39 = .ok (.iload 4, 2) := by decide +kernel
theorem dX3_at_41 : decode cX3_at 41 = .ok (.invokevirtual 96, 3) := by decide +kernel
theorem dX3_at_44 : decode cX3_at 44 = .ok (.astore 5, 2) := by decide +kernel
theorem dX3_at_46 : decode cX3_at 46 = .ok (.aload 5, 2) := by decide +kernel
theorem dX3_at_48 : decode cX3_at 48 = .ok (.ifnull 34, 3) := by decide +kernel
theorem dX3_at_51 : decode cX3_at 51 = .ok (.aload 5, 2) := by decide +kernel
theorem dX3_at_53 : decode cX3_at 53 = .ok (.iload_n 1, 1) := by decide +kernel
theorem dX3_at_54 : decode cX3_at 54 = .ok (.iload_n 2, 1) := by decide +kernel
theorem dX3_at_55 : decode cX3_at 55 = .ok (.invokevirtual 128, 3) := by decide +kernel
theorem dX3_at_58 : decode cX3_at 58 = .ok (.ifCond .eq 24, 3) := by decide +kernel
theorem dX3_at_61 : decode cX3_at 61 = .ok (.aload 5, 2) := by decide +kernel
theorem dX3_at_63 : decode cX3_at 63 = .ok (.getfield 131, 3) := by decide +kernel
theorem dX3_at_66 : decode cX3_at 66 = .ok (.iload_n 3, 1) := by decide +kernel
theorem dX3_at_67 : decode cX3_at 67 = .ok (.if_icmp .gt 15, 3) := by decide +kernel
theorem dX3_at_70 : decode cX3_at 70 = .ok (.iload_n 3, 1) := by decide +kernel
theorem dX3_at_71 : decode cX3_at 71 = .ok (.aload 5, 2) := by decide +kernel
theorem dX3_at_73 : decode cX3_at 73 = .ok (.getfield 134, 3) := by decide +kernel
theorem dX3_at_76 : decode cX3_at 76 = .ok (.if_icmp .ge 6, 3) := by decide +kernel
theorem dX3_at_79 : decode cX3_at 79 = .ok (.iload 4, 2) := by decide +kernel
theorem dX3_at_81 : decode cX3_at 81 = .ok (.ireturn, 1) := by decide +kernel
theorem dX3_at_82 : decode cX3_at 82 = .ok (.iinc 4 1, 3) := by decide +kernel
theorem dX3_at_85 : decode cX3_at 85 = .ok (.goto (-56), 3) := by decide +kernel
theorem dX3_at_88 : decode cX3_at 88 = .ok (.iconst (-1), 1) := by decide +kernel
theorem dX3_at_89 : decode cX3_at 89 = .ok (.ireturn, 1) := by decide +kernel
set_option maxRecDepth 20000 in
theorem ggX3_restsOn_X3_itemOf : GoodIn wsX3_restsOn wsX3_itemOf := goodIn_r _ [7, 8, 9, 10, 24, 25, 26, 27, 28, 29, 30, 31, 32, 33, 34, 35, 36, 37, 38, 39, 40, 41, 42, 43, 44, 45, 46, 47, 48, 49, 50, 51, 52, 53, 54, 55] (by decide +kernel) (by decide +kernel)
set_option maxRecDepth 20000 in
theorem gX3_restsOn_X3_itemOf : GoodIn wsX3_restsOn (wsV RX3 96 RX3 yX3_itemOf wsX3_itemOf) := goodIn_app (goodIn_of _ (by decide +kernel)) ggX3_restsOn_X3_itemOf
set_option maxRecDepth 20000 in
theorem ggX3_restsOn_X3_isCarriedBy : GoodIn wsX3_restsOn wsX3_isCarriedBy := goodIn_r _ [14, 8, 15, 3, 4, 5, 6, 7, 9, 10, 16, 17, 18, 19, 20, 21, 22, 23, 24, 25, 26, 27, 28, 29, 30, 31, 32, 33, 34, 35, 36, 37, 38, 39, 40, 41, 42, 43, 44, 45, 46, 47, 48, 49, 50, 51, 52, 53, 54, 55] (by decide +kernel) (by decide +kernel)
set_option maxRecDepth 20000 in
theorem gX3_restsOn_X3_isCarriedBy : GoodIn wsX3_restsOn (wsV RX3 137 RX3 yX3_isCarriedBy wsX3_isCarriedBy) := goodIn_app (goodIn_of _ (by decide +kernel)) ggX3_restsOn_X3_isCarriedBy
theorem dX3_restsOn_0 : decode cX3_restsOn 0 = .ok (.aload_n 0, 1) := by decide +kernel
theorem dX3_restsOn_1 : decode cX3_restsOn 1 = .ok (.iload_n 1, 1) := by decide +kernel
theorem dX3_restsOn_2 : decode cX3_restsOn 2 = .ok (.invokevirtual 96, 3) := by decide +kernel
theorem dX3_restsOn_5 : decode cX3_restsOn 5 = .ok (.astore_n 3, 1) := by decide +kernel
theorem dX3_restsOn_6 : decode cX3_restsOn 6 = .ok (.aload_n 0, 1) := by decide +kernel
theorem dX3_restsOn_7 : decode cX3_restsOn 7 = .ok (.iload_n 2, 1) := by decide +kernel
theorem dX3_restsOn_8 : decode cX3_restsOn 8 = .ok (.invokevirtual 96, 3) := by decide +kernel
theorem dX3_restsOn_11 : decode cX3_restsOn 11 = .ok (.astore 4, 2) := by decide +kernel
theorem dX3_restsOn_13 : decode cX3_restsOn 13 = .ok (.aload_n 3, 1) := by decide +kernel
theorem dX3_restsOn_14 : decode cX3_restsOn 14 = .ok (.ifnull 8, 3) := by decide +kernel
theorem dX3_restsOn_17 : decode cX3_restsOn 17 = .ok (.aload 4, 2) := by decide +kernel
theorem dX3_restsOn_19 : decode cX3_restsOn 19 = .ok (.ifnonnull 11, 3) := by decide +kernel
theorem dX3_restsOn_22 : decode cX3_restsOn 22 = .ok (.new 78, 3) := by decide +kernel
theorem dX3_restsOn_25 : decode cX3_restsOn 25 = .ok (.dup, 1) := by decide +kernel
theorem dX3_restsOn_26 : decode cX3_restsOn 26 = .ok (.invokespecial 80, 3) := by decide +kernel
theorem dX3_restsOn_29 : decode cX3_restsOn 29 = .ok (.athrow, 1) := by decide +kernel
theorem dX3_restsOn_30 : decode cX3_restsOn 30 = .ok (.aload_n 0, 1) := by decide +kernel
theorem dX3_restsOn_31 : decode cX3_restsOn 31 = .ok (.aload_n 3, 1) := by decide +kernel
theorem dX3_restsOn_32 : decode cX3_restsOn 32 = .ok (.aload 4, 2) := by decide +kernel
theorem dX3_restsOn_34 : decode cX3_restsOn 34 = .ok (.invokevirtual 137, 3) := by decide +kernel
theorem dX3_restsOn_37 : decode cX3_restsOn 37 = .ok (.ireturn, 1) := by decide +kernel
set_option maxRecDepth 20000 in
theorem ggX3_addLine_X3_kindOf : GoodIn wsX3_addLine wsX3_kindOf := goodIn_r _ [16, 17, 18, 19, 20, 15, 21, 31, 32, 33, 34, 35, 36, 37, 38, 39, 40, 41, 42, 43, 44] (by decide +kernel) (by decide +kernel)
set_option maxRecDepth 20000 in
theorem gX3_addLine_X3_kindOf : GoodIn wsX3_addLine (wsV RX3 85 RX3 yX3_kindOf wsX3_kindOf) := goodIn_app (goodIn_of _ (by decide +kernel)) ggX3_addLine_X3_kindOf
set_option maxRecDepth 20000 in
theorem ggX3_addLine_X3_isWithin : GoodIn wsX3_addLine wsX3_isWithin := goodIn_r _ [21] (by decide +kernel) (by decide +kernel)
set_option maxRecDepth 20000 in
theorem gX3_addLine_X3_isWithin : GoodIn wsX3_addLine (va_wsS RX3 65 yX3_isWithin wsX3_isWithin) := goodIn_app (goodIn_of _ (by decide +kernel)) ggX3_addLine_X3_isWithin
set_option maxRecDepth 20000 in
theorem ggX3_addLine_X2_init : GoodIn wsX3_addLine wsX2_init := goodIn_r _ [24, 25, 26, 27, 28, 29, 30, 45, 46, 47] (by decide +kernel) (by decide +kernel)
set_option maxRecDepth 20000 in
theorem gX3_addLine_X2_init : GoodIn wsX3_addLine (wsX2_init) := ggX3_addLine_X2_init
theorem dX3_addLine_0 : decode cX3_addLine 0 = .ok (.aload_n 0, 1) := by decide +kernel
theorem dX3_addLine_1 : decode cX3_addLine 1 = .ok (.iload_n 1, 1) := by decide +kernel
theorem dX3_addLine_2 : decode cX3_addLine 2 = .ok (.invokevirtual 85, 3) := by decide +kernel
theorem dX3_addLine_5 : decode cX3_addLine 5 = .ok (.astore_n 3, 1) := by decide +kernel
theorem dX3_addLine_6 : decode cX3_addLine 6 = .ok (.aload_n 3, 1) := by decide +kernel
theorem dX3_addLine_7 : decode cX3_addLine 7 = .ok (.ifnonnull 11, 3) := by decide +kernel
theorem dX3_addLine_10 : decode cX3_addLine 10 = .ok (.new 78, 3) := by decide +kernel
theorem dX3_addLine_13 : decode cX3_addLine 13 = .ok (.dup, 1) := by decide +kernel
theorem dX3_addLine_14 : decode cX3_addLine 14 = .ok (.invokespecial 80, 3) := by decide +kernel
theorem dX3_addLine_17 : decode cX3_addLine 17 = .ok (.athrow, 1) := by decide +kernel
theorem dX3_addLine_18 : decode cX3_addLine 18 = .ok (.iload_n 2, 1) := by decide +kernel
theorem dX3_addLine_19 : decode cX3_addLine 19 = .ok (.iconst 1, 1) := by decide +kernel
theorem dX3_addLine_20 : decode cX3_addLine 20 = .ok (.bipush 20, 2) := by decide +kernel
theorem dX3_addLine_22 : decode cX3_addLine 22 = .ok (.invokestatic 65, 3) := by decide +kernel
theorem dX3_addLine_25 : decode cX3_addLine 25 = .ok (.ifCond .ne 11, 3) := by decide +kernel
theorem dX3_addLine_28 : decode cX3_addLine 28 = .ok (.new 69, 3) := by decide +kernel
theorem dX3_addLine_31 : decode cX3_addLine 31 = .ok (.dup, 1) := by decide +kernel
theorem dX3_addLine_32 : decode cX3_addLine 32 = .ok (.invokespecial 71, 3) := by decide +kernel
theorem dX3_addLine_35 : decode cX3_addLine 35 = .ok (.athrow, 1) := by decide +kernel
theorem dX3_addLine_36 : decode cX3_addLine 36 = .ok (.aload_n 0, 1) := by decide +kernel
theorem dX3_addLine_37 : decode cX3_addLine 37 = .ok (.getfield 62, 3) := by decide +kernel
theorem dX3_addLine_40 : decode cX3_addLine 40 = .ok (.ifCond .lt 12, 3) := by decide +kernel
theorem dX3_addLine_43 : decode cX3_addLine 43 = .ok (.aload_n 0, 1) := by decide +kernel
theorem dX3_addLine_44 : decode cX3_addLine 44 = .ok (.getfield 62, 3) := by decide +kernel
theorem dX3_addLine_47 : decode cX3_addLine 47 = .ok (.bipush 20, 2) := by decide +kernel
theorem dX3_addLine_49 : decode cX3_addLine 49 = .ok (.if_icmp .lt 11, 3) := by decide +kernel
theorem dX3_addLine_52 : decode cX3_addLine 52 = .ok (.new 72, 3) := by decide +kernel
theorem dX3_addLine_55 : decode cX3_addLine 55 = .ok (.dup, 1) := by decide +kernel
theorem dX3_addLine_56 : decode cX3_addLine 56 = .ok (.invokespecial 74, 3) := by decide +kernel
theorem dX3_addLine_59 : decode cX3_addLine 59 = .ok (.athrow, 1) := by decide +kernel
theorem dX3_addLine_60 : decode cX3_addLine 60 = .ok (.aload_n 0, 1) := by decide +kernel
theorem dX3_addLine_61 : decode cX3_addLine 61 = .ok (.getfield 62, 3) := by decide +kernel
theorem dX3_addLine_64 : decode cX3_addLine 64 = .ok (.istore 4, 2) := by decide +kernel
theorem dX3_addLine_66 : decode cX3_addLine 66 = .ok (.aload_n 0, 1) := by decide +kernel
theorem dX3_addLine_67 : decode cX3_addLine 67 = .ok (.getfield 58, 3) := by decide +kernel
theorem dX3_addLine_70 : decode cX3_addLine 70 = .ok (.iload 4, 2) := by decide +kernel
theorem dX3_addLine_72 : decode cX3_addLine 72 = .ok (.new 56, 3) := by decide +kernel
theorem dX3_addLine_75 : decode cX3_addLine 75 = .ok (.dup, 1) := by decide +kernel
theorem dX3_addLine_76 : decode cX3_addLine 76 = .ok (.aload_n 3, 1) := by decide +kernel
theorem dX3_addLine_77 : decode cX3_addLine 77 = .ok (.iload_n 2, 1) := by decide +kernel
theorem dX3_addLine_78 : decode cX3_addLine 78 = .ok (.invokespecial 149, 3) := by decide +kernel
theorem dX3_addLine_81 : decode cX3_addLine 81 = .ok (.aastore, 1) := by decide +kernel
theorem dX3_addLine_82 : decode cX3_addLine 82 = .ok (.aload_n 0, 1) := by decide +kernel
theorem dX3_addLine_83 : decode cX3_addLine 83 = .ok (.iload 4, 2) := by decide +kernel
theorem dX3_addLine_85 : decode cX3_addLine 85 = .ok (.iconst 1, 1) := by decide +kernel
theorem dX3_addLine_86 : decode cX3_addLine 86 = .ok (.iadd, 1) := by decide +kernel
theorem dX3_addLine_87 : decode cX3_addLine 87 = .ok (.putfield 62, 3) := by decide +kernel
theorem dX3_addLine_90 : decode cX3_addLine 90 = .ok (.iload 4, 2) := by decide +kernel
theorem dX3_addLine_92 : decode cX3_addLine 92 = .ok (.ireturn, 1) := by decide +kernel
set_option maxRecDepth 20000 in
theorem ggX3_stack_X3_lineOf : GoodIn wsX3_stack wsX3_lineOf := goodIn_r _ [9, 1, 10, 11, 12, 8, 13, 171, 172, 173, 174, 175, 176, 177, 178, 179, 180, 181, 182, 183, 184] (by decide +kernel) (by decide +kernel)
set_option maxRecDepth 20000 in
theorem gX3_stack_X3_lineOf : GoodIn wsX3_stack (wsV RX3 152 RX3 yX3_lineOf wsX3_lineOf) := goodIn_app (goodIn_of _ (by decide +kernel)) ggX3_stack_X3_lineOf
set_option maxRecDepth 20000 in
theorem ggX3_stack_X3_nextLine : GoodIn wsX3_stack wsX3_nextLine := goodIn_r _ [17, 1, 4, 2, 3, 5, 6, 7, 8, 9, 10, 11, 12, 13, 18, 19, 20, 21, 22, 23, 24, 25, 171, 172, 173, 174, 175, 176, 177, 178, 179, 180, 181, 182, 183, 184, 185, 186, 187, 188, 189, 190, 191, 192, 193, 194, 195] (by decide +kernel) (by decide +kernel)
set_option maxRecDepth 20000 in
theorem gX3_stack_X3_nextLine : GoodIn wsX3_stack (wsV RX3 159 RX3 yX3_nextLine wsX3_nextLine) := goodIn_app (goodIn_of _ (by decide +kernel)) ggX3_stack_X3_nextLine
set_option maxRecDepth 20000 in
theorem ggX3_stack_X3_putAtBest : GoodIn wsX3_stack wsX3_putAtBest := goodIn_r _ [29, 30, 31, 32, 33, 8, 34, 35, 36, 37, 38, 39, 40, 41, 42, 43, 44, 45, 46, 47, 48, 49, 50, 51, 52, 11, 12, 13, 53, 54, 55, 56, 57, 58, 59, 60, 61, 62, 63, 64, 65, 66, 67, 68, 69, 70, 71, 72, 73, 74, 75, 76, 77, 78, 79, 80, 81, 82, 83, 84, 85, 86, 87, 88, 89, 90, 91, 92, 93, 94, 95, 96, 97, 98, 99, 100, 101, 102, 103, 104, 105, 106, 107, 108, 109, 110, 111, 112, 113, 114, 115, 116, 117, 118, 119, 120, 121, 122, 123, 124, 125, 126, 127, 128, 129, 130, 131, 132, 133, 134, 135, 136, 137, 138, 139, 140, 141, 142, 143, 144, 145, 146, 147, 148, 149, 150, 151, 152, 153, 154, 155, 156, 157, 158, 159, 160, 161, 162, 163, 164, 165, 166, 167, 168, 169, 170, 171, 172, 173, 174, 175, 176, 177, 178, 179, 180, 181, 182, 183, 184, 196, 197, 198, 199, 200, 201, 202, 203, 204, 205, 206, 207, 208, 209, 210, 211, 212, 213, 188, 189, 190, 191, 192, 193, 194, 195] (by decide +kernel) (by decide +kernel)
set_option maxRecDepth 20000 in
theorem gX3_stack_X3_putAtBest : GoodIn wsX3_stack (wsV RX3 145 RX3 yX3_putAtBest wsX3_putAtBest) := goodIn_app (goodIn_of _ (by decide +kernel)) ggX3_stack_X3_putAtBest
theorem dX3_stack_0 : decode cX3_stack 0 = .ok (.iconst 0, 1) := by decide +kernel
theorem dX3_stack_1 : decode cX3_stack 1 = .ok (.istore_n 1, 1) := by decide +kernel
theorem dX3_stack_2 : decode cX3_stack 2 = .ok (.iload_n 1, 1) := by decide +kernel
theorem dX3_stack_3 : decode cX3_stack 3 = .ok (.aload_n 0, 1) := by decide +kernel
theorem dX3_stack_4 : decode cX3_stack 4 = .ok (.getfield 62, 3) := by decide +kernel
theorem dX3_stack_7 : decode cX3_stack 7 = .ok (.if_icmp .ge 24, 3) := by decide +kernel
theorem dX3_stack_10 : decode cX3_stack 10 = .ok (.aload_n 0, 1) := by decide +kernel
theorem dX3_stack_11 : decode cX3_stack 11 = .ok (.iload_n 1, 1) := by decide +kernel
theorem dX3_stack_12 : decode cX3_stack 12 = .ok (.invokevirtual 152, 3) := by decide +kernel
theorem dX3_stack_15 : decode cX3_stack 15 = .ok (.astore_n 2, 1) := by decide +kernel
theorem dX3_stack_16 : decode cX3_stack 16 = .ok (.aload_n 2, 1) := by decide +kernel
theorem dX3_stack_17 : decode cX3_stack 17 = .ok (.ifnull 8, 3) := by decide +kernel
theorem dX3_stack_20 : decode cX3_stack 20 = .ok (.aload_n 2, 1) := by decide +kernel
theorem dX3_stack_21 : decode cX3_stack 21 = .ok (.iconst 0, 1) := by decide +kernel
theorem dX3_stack_22 : decode cX3_stack 22 = .ok (.putfield 156, 3) := by decide +kernel
theorem dX3_stack_25 : decode cX3_stack 25 = .ok (.iinc 1 1, 3) := by decide +kernel
theorem dX3_stack_28 : decode cX3_stack 28 = .ok (.goto (-26), 3) := by decide +kernel
theorem dX3_stack_31 : decode cX3_stack 31 = .ok (.iconst 0, 1) := by decide +kernel
theorem dX3_stack_32 : decode cX3_stack 32 = .ok (.istore_n 1, 1) := by decide +kernel
theorem dX3_stack_33 : decode cX3_stack 33 = .ok (.iconst 0, 1) := by decide +kernel
theorem dX3_stack_34 : decode cX3_stack 34 = .ok (.istore_n 2, 1) := by decide +kernel
theorem dX3_stack_35 : decode cX3_stack 35 = .ok (.iload_n 2, 1) := by decide +kernel
theorem dX3_stack_36 : decode cX3_stack 36 = .ok (.bipush 80, 2) := by decide +kernel
theorem dX3_stack_38 : decode cX3_stack 38 = .ok (.if_icmp .ge 52, 3) := by decide +kernel
theorem dX3_stack_41 : decode cX3_stack 41 = .ok (.aload_n 0, 1) := by decide +kernel
theorem dX3_stack_42 : decode cX3_stack 42 = .ok (.invokevirtual 159, 3) := by decide +kernel
theorem dX3_stack_45 : decode cX3_stack 45 = .ok (.astore_n 3, 1) := by decide +kernel
theorem dX3_stack_46 : decode cX3_stack 46 = .ok (.aload_n 3, 1) := by decide +kernel
theorem dX3_stack_47 : decode cX3_stack 47 = .ok (.ifnonnull 5, 3) := by decide +kernel
theorem dX3_stack_50 : decode cX3_stack 50 = .ok (.iload_n 1, 1) := by decide +kernel
theorem dX3_stack_51 : decode cX3_stack 51 = .ok (.ireturn, 1) := by decide +kernel
theorem dX3_stack_52 : decode cX3_stack 52 = .ok (.aload_n 0, 1) := by decide +kernel
theorem dX3_stack_53 : decode cX3_stack 53 = .ok (.aload_n 3, 1) := by decide +kernel
theorem dX3_stack_54 : decode cX3_stack 54 = .ok (.getfield 163, 3) := by decide +kernel
theorem dX3_stack_57 : decode cX3_stack 57 = .ok (.invokevirtual 145, 3) := by decide +kernel
theorem dX3_stack_60 : decode cX3_stack 60 = .ok (.ifCond .eq 19, 3) := by decide +kernel
theorem dX3_stack_63 : decode cX3_stack 63 = .ok (.aload_n 3, 1) := by decide +kernel
theorem dX3_stack_64 : decode cX3_stack 64 = .ok (.dup, 1) := by decide +kernel
theorem dX3_stack_65 : decode cX3_stack 65 = .ok (.getfield 167, 3) := by decide +kernel
theorem dX3_stack_68 : decode cX3_stack 68 = .ok (.iconst 1, 1) := by decide +kernel
theorem dX3_stack_69 : decode cX3_stack 69 = .ok (.isub, 1) := by decide +kernel
theorem dX3_stack_70 : decode cX3_stack 70 = .ok (.putfield 167, 3) := by decide +kernel
theorem dX3_stack_73 : decode cX3_stack 73 = .ok (.iinc 1 1, 3) := by decide +kernel
theorem dX3_stack_76 : decode cX3_stack 76 = .ok (.goto 8, 3) := by decide +kernel
theorem dX3_stack_79 : decode cX3_stack 79 = .ok (.aload_n 3, 1) := by decide +kernel
theorem dX3_stack_80 : decode cX3_stack 80 = .ok (.iconst 1, 1) := by decide +kernel
theorem dX3_stack_81 : decode cX3_stack 81 = .ok (.putfield 156, 3) := by decide +kernel
theorem dX3_stack_84 : decode cX3_stack 84 = .ok (.iinc 2 1, 3) := by decide +kernel
theorem dX3_stack_87 : decode cX3_stack 87 = .ok (.goto (-52), 3) := by decide +kernel
theorem dX3_stack_90 : decode cX3_stack 90 = .ok (.iload_n 1, 1) := by decide +kernel
theorem dX3_stack_91 : decode cX3_stack 91 = .ok (.ireturn, 1) := by decide +kernel
set_option maxRecDepth 20000 in
theorem ggX3_line_X3_lineOf : GoodIn wsX3_line wsX3_lineOf := goodIn_r _ [10, 11, 12, 13, 14, 9, 15, 27, 28, 29, 30, 31, 32, 33, 34, 35, 36, 37, 38, 39, 40] (by decide +kernel) (by decide +kernel)
set_option maxRecDepth 20000 in
theorem gX3_line_X3_lineOf : GoodIn wsX3_line (wsV RX3 152 RX3 yX3_lineOf wsX3_lineOf) := goodIn_app (goodIn_of _ (by decide +kernel)) ggX3_line_X3_lineOf
theorem dX3_line_0 : decode cX3_line 0 = .ok (.aload_n 0, 1) := by decide +kernel
theorem dX3_line_1 : decode cX3_line 1 = .ok (.iload_n 1, 1) := by decide +kernel
theorem dX3_line_2 : decode cX3_line 2 = .ok (.invokevirtual 152, 3) := by decide +kernel
theorem dX3_line_5 : decode cX3_line 5 = .ok (.astore_n 3, 1) := by decide +kernel
theorem dX3_line_6 : decode cX3_line 6 = .ok (.aload_n 3, 1) := by decide +kernel
theorem dX3_line_7 : decode cX3_line 7 = .ok (.ifnonnull 11, 3) := by decide +kernel
theorem dX3_line_10 : decode cX3_line 10 = .ok (.new 78, 3) := by decide +kernel
theorem dX3_line_13 : decode cX3_line 13 = .ok (.dup, 1) := by decide +kernel
theorem dX3_line_14 : decode cX3_line 14 = .ok (.invokespecial 80, 3) := by decide +kernel
theorem dX3_line_17 : decode cX3_line 17 = .ok (.athrow, 1) := by decide +kernel
theorem dX3_line_18 : decode cX3_line 18 = .ok (.iload_n 2, 1) := by decide +kernel
theorem dX3_line_19 : decode cX3_line 19 = .ok (.ifCond .eq 10, 3) := by decide +kernel
theorem dX3_line_22 : decode cX3_line 22 = .ok (.aload_n 3, 1) := by decide +kernel
theorem dX3_line_23 : decode cX3_line 23 = .ok (.getfield 167, 3) := by decide +kernel
theorem dX3_line_26 : decode cX3_line 26 = .ok (.goto 10, 3) := by decide +kernel
theorem dX3_line_29 : decode cX3_line 29 = .ok (.aload_n 3, 1) := by decide +kernel
theorem dX3_line_30 : decode cX3_line 30 = .ok (.getfield 163, 3) := by decide +kernel
theorem dX3_line_33 : decode cX3_line 33 = .ok (.getfield 170, 3) := by decide +kernel
theorem dX3_line_36 : decode cX3_line 36 = .ok (.ireturn, 1) := by decide +kernel
set_option maxRecDepth 20000 in
theorem ggX3_sum_X3_isWithin : GoodIn wsX3_sum wsX3_isWithin := goodIn_r _ [6] (by decide +kernel) (by decide +kernel)
set_option maxRecDepth 20000 in
theorem gX3_sum_X3_isWithin : GoodIn wsX3_sum (va_wsS RX3 65 yX3_isWithin wsX3_isWithin) := goodIn_app (goodIn_of _ (by decide +kernel)) ggX3_sum_X3_isWithin
set_option maxRecDepth 20000 in
theorem ggX3_sum_X3_sumOf : GoodIn wsX3_sum wsX3_sumOf := goodIn_r _ [10, 11, 12, 13, 14, 5, 15, 16, 17, 18, 19, 20, 21, 22, 23, 24, 25, 26, 27, 28, 29, 30, 31, 32, 33, 34, 35, 36, 37, 38, 39, 40, 41, 42, 43, 44, 45, 46, 47, 48, 49, 50, 51, 52, 53, 54, 55, 56, 57, 58, 59, 60, 61, 62, 63, 64, 65, 66, 67, 68, 69, 70, 71, 72] (by decide +kernel) (by decide +kernel)
set_option maxRecDepth 20000 in
theorem gX3_sum_X3_sumOf : GoodIn wsX3_sum (wsV RX3 173 RX3 yX3_sumOf wsX3_sumOf) := goodIn_app (goodIn_of _ (by decide +kernel)) ggX3_sum_X3_sumOf
theorem dX3_sum_0 : decode cX3_sum 0 = .ok (.iload_n 1, 1) := by decide +kernel
theorem dX3_sum_1 : decode cX3_sum 1 = .ok (.iconst 0, 1) := by decide +kernel
theorem dX3_sum_2 : decode cX3_sum 2 = .ok (.iconst 3, 1) := by decide +kernel
theorem dX3_sum_3 : decode cX3_sum 3 = .ok (.invokestatic 65, 3) := by decide +kernel
theorem dX3_sum_6 : decode cX3_sum 6 = .ok (.ifCond .ne 11, 3) := by decide +kernel
theorem dX3_sum_9 : decode cX3_sum 9 = .ok (.new 78, 3) := by decide +kernel
theorem dX3_sum_12 : decode cX3_sum 12 = .ok (.dup, 1) := by decide +kernel
theorem dX3_sum_13 : decode cX3_sum 13 = .ok (.invokespecial 80, 3) := by decide +kernel
theorem dX3_sum_16 : decode cX3_sum 16 = .ok (.athrow, 1) := by decide +kernel
theorem dX3_sum_17 : decode cX3_sum 17 = .ok (.aload_n 0, 1) := by decide +kernel
theorem dX3_sum_18 : decode cX3_sum 18 = .ok (.iload_n 1, 1) := by decide +kernel
theorem dX3_sum_19 : decode cX3_sum 19 = .ok (.invokevirtual 173, 3) := by decide +kernel
theorem dX3_sum_22 : decode cX3_sum 22 = .ok (.ireturn, 1) := by decide +kernel
set_option maxRecDepth 20000 in
theorem ggX3_filled_X3_itemOf : GoodIn wsX3_filled wsX3_itemOf := goodIn_r _ [8, 1, 9, 10, 22, 23, 24, 25, 26, 27, 28, 29, 30, 31, 32, 33, 34, 35, 36, 37, 38, 39, 40, 41, 42, 43, 44, 45, 46, 47, 48, 49, 50, 51, 52, 53] (by decide +kernel) (by decide +kernel)
set_option maxRecDepth 20000 in
theorem gX3_filled_X3_itemOf : GoodIn wsX3_filled (wsV RX3 96 RX3 yX3_itemOf wsX3_itemOf) := goodIn_app (goodIn_of _ (by decide +kernel)) ggX3_filled_X3_itemOf
set_option maxRecDepth 20000 in
theorem ggX3_filled_X0_cells : GoodIn wsX3_filled wsX0_cells := goodIn_r _ [15, 16, 17, 36, 37, 38, 39, 40, 41, 42, 43, 44, 45, 46, 47, 48, 49, 50, 51, 52, 53] (by decide +kernel) (by decide +kernel)
set_option maxRecDepth 20000 in
theorem gX3_filled_X0_cells : GoodIn wsX3_filled (wsV RX3 188 RX0 yX0_cells wsX0_cells) := goodIn_app (goodIn_of _ (by decide +kernel)) ggX3_filled_X0_cells
set_option maxRecDepth 20000 in
theorem ggX3_filled_X3_greatestTop : GoodIn wsX3_filled wsX3_greatestTop := goodIn_r _ [21, 1, 2, 4, 5, 6, 7, 8, 9, 10, 22, 23, 24, 25, 26, 27, 28, 29, 30, 31, 32, 33, 34, 35, 36, 37, 38, 39, 40, 41, 42, 43, 44, 45, 46, 47, 48, 49, 50, 51, 52, 53] (by decide +kernel) (by decide +kernel)
set_option maxRecDepth 20000 in
theorem gX3_filled_X3_greatestTop : GoodIn wsX3_filled (wsV RX3 192 RX3 yX3_greatestTop wsX3_greatestTop) := goodIn_app (goodIn_of _ (by decide +kernel)) ggX3_filled_X3_greatestTop
theorem dX3_filled_0 : decode cX3_filled 0 = .ok (.iconst 0, 1) := by decide +kernel
theorem dX3_filled_1 : decode cX3_filled 1 = .ok (.istore_n 1, 1) := by decide +kernel
theorem dX3_filled_2 : decode cX3_filled 2 = .ok (.iconst 0, 1) := by decide +kernel
theorem dX3_filled_3 : decode cX3_filled 3 = .ok (.istore_n 2, 1) := by decide +kernel
theorem dX3_filled_4 : decode cX3_filled 4 = .ok (.iload_n 2, 1) := by decide +kernel
theorem dX3_filled_5 : decode cX3_filled 5 = .ok (.aload_n 0, 1) := by decide +kernel
theorem dX3_filled_6 : decode cX3_filled 6 = .ok (.getfield 38, 3) := by decide +kernel
theorem dX3_filled_9 : decode cX3_filled 9 = .ok (.if_icmp .ge 36, 3) := by decide +kernel
theorem dX3_filled_12 : decode cX3_filled 12 = .ok (.aload_n 0, 1) := by decide +kernel
theorem dX3_filled_13 : decode cX3_filled 13 = .ok (.iload_n 2, 1) := by decide +kernel
theorem dX3_filled_14 : decode cX3_filled 14 = .ok (.invokevirtual 96, 3) := by decide +kernel
theorem dX3_filled_17 : decode cX3_filled 17 = .ok (.astore_n 3, 1) := by decide +kernel
theorem dX3_filled_18 : decode cX3_filled 18 = .ok (.aload_n 3, 1) := by decide +kernel
theorem dX3_filled_19 : decode cX3_filled 19 = .ok (.ifnull 20, 3) := by decide +kernel
theorem dX3_filled_22 : decode cX3_filled 22 = .ok (.iload_n 1, 1) := by decide +kernel
theorem dX3_filled_23 : decode cX3_filled 23 = .ok (.aload_n 3, 1) := by decide +kernel
theorem dX3_filled_24 : decode cX3_filled 24 = .ok (.invokevirtual 188, 3) := by decide +kernel
theorem dX3_filled_27 : decode cX3_filled 27 = .ok (.aload_n 3, 1) := by decide +kernel
theorem dX3_filled_28 : decode cX3_filled 28 = .ok (.getfield 134, 3) := by decide +kernel
theorem dX3_filled_31 : decode cX3_filled 31 = .ok (.aload_n 3, 1) := by decide +kernel
theorem dX3_filled_32 : decode cX3_filled 32 = .ok (.getfield 131, 3) := by decide +kernel
theorem dX3_filled_35 : decode cX3_filled 35 = .ok (.isub, 1) := by decide +kernel
theorem dX3_filled_36 : decode cX3_filled 36 = .ok (.imul, 1) := by decide +kernel
theorem dX3_filled_37 : decode cX3_filled 37 = .ok (.iadd, 1) := by decide +kernel
theorem dX3_filled_38 : decode cX3_filled 38 = .ok (.istore_n 1, 1) := by decide +kernel
theorem dX3_filled_39 : decode cX3_filled 39 = .ok (.iinc 2 1, 3) := by decide +kernel
theorem dX3_filled_42 : decode cX3_filled 42 = .ok (.goto (-38), 3) := by decide +kernel
theorem dX3_filled_45 : decode cX3_filled 45 = .ok (.aload_n 0, 1) := by decide +kernel
theorem dX3_filled_46 : decode cX3_filled 46 = .ok (.invokevirtual 192, 3) := by decide +kernel
theorem dX3_filled_49 : decode cX3_filled 49 = .ok (.istore_n 2, 1) := by decide +kernel
theorem dX3_filled_50 : decode cX3_filled 50 = .ok (.iload_n 2, 1) := by decide +kernel
theorem dX3_filled_51 : decode cX3_filled 51 = .ok (.ifCond .gt 7, 3) := by decide +kernel
theorem dX3_filled_54 : decode cX3_filled 54 = .ok (.dconst 0, 1) := by decide +kernel
theorem dX3_filled_55 : decode cX3_filled 55 = .ok (.goto 11, 3) := by decide +kernel
theorem dX3_filled_58 : decode cX3_filled 58 = .ok (.iload_n 1, 1) := by decide +kernel
theorem dX3_filled_59 : decode cX3_filled 59 = .ok (.i2d, 1) := by decide +kernel
theorem dX3_filled_60 : decode cX3_filled 60 = .ok (.bipush 120, 2) := by decide +kernel
theorem dX3_filled_62 : decode cX3_filled 62 = .ok (.iload_n 2, 1) := by decide +kernel
theorem dX3_filled_63 : decode cX3_filled 63 = .ok (.imul, 1) := by decide +kernel
theorem dX3_filled_64 : decode cX3_filled 64 = .ok (.i2d, 1) := by decide +kernel
theorem dX3_filled_65 : decode cX3_filled 65 = .ok (.ddiv, 1) := by decide +kernel
theorem dX3_filled_66 : decode cX3_filled 66 = .ok (.dreturn, 1) := by decide +kernel
theorem dX3_isWithin_0 : decode cX3_isWithin 0 = .ok (.iload_n 0, 1) := by decide +kernel
theorem dX3_isWithin_1 : decode cX3_isWithin 1 = .ok (.iload_n 1, 1) := by decide +kernel
theorem dX3_isWithin_2 : decode cX3_isWithin 2 = .ok (.if_icmp .lt 12, 3) := by decide +kernel
theorem dX3_isWithin_5 : decode cX3_isWithin 5 = .ok (.iload_n 0, 1) := by decide +kernel
theorem dX3_isWithin_6 : decode cX3_isWithin 6 = .ok (.iload_n 2, 1) := by decide +kernel
theorem dX3_isWithin_7 : decode cX3_isWithin 7 = .ok (.if_icmp .gt 7, 3) := by decide +kernel
theorem dX3_isWithin_10 : decode cX3_isWithin 10 = .ok (.iconst 1, 1) := by decide +kernel
theorem dX3_isWithin_11 : decode cX3_isWithin 11 = .ok (.goto 4, 3) := by decide +kernel
theorem dX3_isWithin_14 : decode cX3_isWithin 14 = .ok (.iconst 0, 1) := by decide +kernel
theorem dX3_isWithin_15 : decode cX3_isWithin 15 = .ok (.ireturn, 1) := by decide +kernel
set_option maxRecDepth 20000 in
theorem ggX3_isCell_X3_isWithin : GoodIn wsX3_isCell wsX3_isWithin := goodIn_r _ [4] (by decide +kernel) (by decide +kernel)
set_option maxRecDepth 20000 in
theorem gX3_isCell_X3_isWithin : GoodIn wsX3_isCell (va_wsS RX3 65 yX3_isWithin wsX3_isWithin) := goodIn_app (goodIn_of _ (by decide +kernel)) ggX3_isCell_X3_isWithin
theorem dX3_isCell_0 : decode cX3_isCell 0 = .ok (.iload_n 0, 1) := by decide +kernel
theorem dX3_isCell_1 : decode cX3_isCell 1 = .ok (.iconst 0, 1) := by decide +kernel
theorem dX3_isCell_2 : decode cX3_isCell 2 = .ok (.bipush 11, 2) := by decide +kernel
theorem dX3_isCell_4 : decode cX3_isCell 4 = .ok (.invokestatic 65, 3) := by decide +kernel
theorem dX3_isCell_7 : decode cX3_isCell 7 = .ok (.ifCond .eq 17, 3) := by decide +kernel
theorem dX3_isCell_10 : decode cX3_isCell 10 = .ok (.iload_n 1, 1) := by decide +kernel
theorem dX3_isCell_11 : decode cX3_isCell 11 = .ok (.iconst 0, 1) := by decide +kernel
theorem dX3_isCell_12 : decode cX3_isCell 12 = .ok (.bipush 9, 2) := by decide +kernel
theorem dX3_isCell_14 : decode cX3_isCell 14 = .ok (.invokestatic 65, 3) := by decide +kernel
theorem dX3_isCell_17 : decode cX3_isCell 17 = .ok (.ifCond .eq 7, 3) := by decide +kernel
theorem dX3_isCell_20 : decode cX3_isCell 20 = .ok (.iconst 1, 1) := by decide +kernel
theorem dX3_isCell_21 : decode cX3_isCell 21 = .ok (.goto 4, 3) := by decide +kernel
theorem dX3_isCell_24 : decode cX3_isCell 24 = .ok (.iconst 0, 1) := by decide +kernel
theorem dX3_isCell_25 : decode cX3_isCell 25 = .ok (.ireturn, 1) := by decide +kernel
set_option maxRecDepth 20000 in
theorem ggX3_kindOf_X3_isWithin : GoodIn wsX3_kindOf wsX3_isWithin := goodIn_r _ [6] (by decide +kernel) (by decide +kernel)
set_option maxRecDepth 20000 in
theorem gX3_kindOf_X3_isWithin : GoodIn wsX3_kindOf (va_wsS RX3 65 yX3_isWithin wsX3_isWithin) := goodIn_app (goodIn_of _ (by decide +kernel)) ggX3_kindOf_X3_isWithin
theorem dX3_kindOf_0 : decode cX3_kindOf 0 = .ok (.iload_n 1, 1) := by decide +kernel
theorem dX3_kindOf_1 : decode cX3_kindOf 1 = .ok (.iconst 0, 1) := by decide +kernel
theorem dX3_kindOf_2 : decode cX3_kindOf 2 = .ok (.bipush 9, 2) := by decide +kernel
theorem dX3_kindOf_4 : decode cX3_kindOf 4 = .ok (.invokestatic 65, 3) := by decide +kernel
theorem dX3_kindOf_7 : decode cX3_kindOf 7 = .ok (.ifCond .eq 20, 3) := by decide +kernel
theorem dX3_kindOf_10 : decode cX3_kindOf 10 = .ok (.iload_n 1, 1) := by decide +kernel
theorem dX3_kindOf_11 : decode cX3_kindOf 11 = .ok (.aload_n 0, 1) := by decide +kernel
theorem dX3_kindOf_12 : decode cX3_kindOf 12 = .ok (.getfield 15, 3) := by decide +kernel
theorem dX3_kindOf_15 : decode cX3_kindOf 15 = .ok (.if_icmp .ge 12, 3) := by decide +kernel
theorem dX3_kindOf_18 : decode cX3_kindOf 18 = .ok (.aload_n 0, 1) := by decide +kernel
theorem dX3_kindOf_19 : decode cX3_kindOf 19 = .ok (.getfield 11, 3) := by decide +kernel
theorem dX3_kindOf_22 : decode cX3_kindOf 22 = .ok (.iload_n 1, 1) := by decide +kernel
theorem dX3_kindOf_23 : decode cX3_kindOf 23 = .ok (.aaload, 1) := by decide +kernel
theorem dX3_kindOf_24 : decode cX3_kindOf 24 = .ok (.goto 4, 3) := by decide +kernel
theorem dX3_kindOf_27 : decode cX3_kindOf 27 = .ok (.aconst_null, 1) := by decide +kernel
theorem dX3_kindOf_28 : decode cX3_kindOf 28 = .ok (.areturn, 1) := by decide +kernel
theorem dX3_itemOf_0 : decode cX3_itemOf 0 = .ok (.iload_n 1, 1) := by decide +kernel
theorem dX3_itemOf_1 : decode cX3_itemOf 1 = .ok (.ifCond .lt 17, 3) := by decide +kernel
theorem dX3_itemOf_4 : decode cX3_itemOf 4 = .ok (.iload_n 1, 1) := by decide +kernel
theorem dX3_itemOf_5 : decode cX3_itemOf 5 = .ok (.bipush 60, 2) := by decide +kernel
theorem dX3_itemOf_7 : decode cX3_itemOf 7 = .ok (.if_icmp .ge 11, 3) := by decide +kernel
theorem dX3_itemOf_10 : decode cX3_itemOf 10 = .ok (.iload_n 1, 1) := by decide +kernel
theorem dX3_itemOf_11 : decode cX3_itemOf 11 = .ok (.aload_n 0, 1) := by decide +kernel
theorem dX3_itemOf_12 : decode cX3_itemOf 12 = .ok (.getfield 38, 3) := by decide +kernel
theorem dX3_itemOf_15 : decode cX3_itemOf 15 = .ok (.if_icmp .lt 5, 3) := by decide +kernel
theorem dX3_itemOf_18 : decode cX3_itemOf 18 = .ok (.aconst_null, 1) := by decide +kernel
theorem dX3_itemOf_19 : decode cX3_itemOf 19 = .ok (.areturn, 1) := by decide +kernel
theorem dX3_itemOf_20 : decode cX3_itemOf 20 = .ok (.aload_n 0, 1) := by decide +kernel
theorem dX3_itemOf_21 : decode cX3_itemOf 21 = .ok (.getfield 34, 3) := by decide +kernel
theorem dX3_itemOf_24 : decode cX3_itemOf 24 = .ok (.iload_n 1, 1) := by decide +kernel
theorem dX3_itemOf_25 : decode cX3_itemOf 25 = .ok (.aaload, 1) := by decide +kernel
theorem dX3_itemOf_26 : decode cX3_itemOf 26 = .ok (.astore_n 2, 1) := by decide +kernel
theorem dX3_itemOf_27 : decode cX3_itemOf 27 = .ok (.aload_n 2, 1) := by decide +kernel
theorem dX3_itemOf_28 : decode cX3_itemOf 28 = .ok (.ifnull 14, 3) := by decide +kernel
theorem dX3_itemOf_31 : decode cX3_itemOf 31 = .ok (.aload_n 2, 1) := by decide +kernel
theorem dX3_itemOf_32 : decode cX3_itemOf 32 = .ok (.getfield 104, 3) := by decide +kernel
theorem dX3_itemOf_35 : decode cX3_itemOf 35 = .ok (.ifCond .eq 7, 3) := by decide +kernel
theorem dX3_itemOf_38 : decode cX3_itemOf 38 = .ok (.aload_n 2, 1) := by decide +kernel
theorem dX3_itemOf_39 : decode cX3_itemOf 39 = .ok (.goto 4, 3) := by decide +kernel
theorem dX3_itemOf_42 : decode cX3_itemOf 42 = .ok (.aconst_null, 1) := by decide +kernel
theorem dX3_itemOf_43 : decode cX3_itemOf 43 = .ok (.areturn, 1) := by decide +kernel
set_option maxRecDepth 20000 in
theorem ggX3_lineOf_X3_isWithin : GoodIn wsX3_lineOf wsX3_isWithin := goodIn_r _ [6] (by decide +kernel) (by decide +kernel)
set_option maxRecDepth 20000 in
theorem gX3_lineOf_X3_isWithin : GoodIn wsX3_lineOf (va_wsS RX3 65 yX3_isWithin wsX3_isWithin) := goodIn_app (goodIn_of _ (by decide +kernel)) ggX3_lineOf_X3_isWithin
theorem dX3_lineOf_0 : decode cX3_lineOf 0 = .ok (.iload_n 1, 1) := by decide +kernel
theorem dX3_lineOf_1 : decode cX3_lineOf 1 = .ok (.iconst 0, 1) := by decide +kernel
theorem dX3_lineOf_2 : decode cX3_lineOf 2 = .ok (.bipush 19, 2) := by decide +kernel
theorem dX3_lineOf_4 : decode cX3_lineOf 4 = .ok (.invokestatic 65, 3) := by decide +kernel
theorem dX3_lineOf_7 : decode cX3_lineOf 7 = .ok (.ifCond .eq 20, 3) := by decide +kernel
theorem dX3_lineOf_10 : decode cX3_lineOf 10 = .ok (.iload_n 1, 1) := by decide +kernel
theorem dX3_lineOf_11 : decode cX3_lineOf 11 = .ok (.aload_n 0, 1) := by decide +kernel
theorem dX3_lineOf_12 : decode cX3_lineOf 12 = .ok (.getfield 62, 3) := by decide +kernel
theorem dX3_lineOf_15 : decode cX3_lineOf 15 = .ok (.if_icmp .ge 12, 3) := by decide +kernel
theorem dX3_lineOf_18 : decode cX3_lineOf 18 = .ok (.aload_n 0, 1) := by decide +kernel
theorem dX3_lineOf_19 : decode cX3_lineOf 19 = .ok (.getfield 58, 3) := by decide +kernel
theorem dX3_lineOf_22 : decode cX3_lineOf 22 = .ok (.iload_n 1, 1) := by decide +kernel
theorem dX3_lineOf_23 : decode cX3_lineOf 23 = .ok (.aaload, 1) := by decide +kernel
theorem dX3_lineOf_24 : decode cX3_lineOf 24 = .ok (.goto 4, 3) := by decide +kernel
theorem dX3_lineOf_27 : decode cX3_lineOf 27 = .ok (.aconst_null, 1) := by decide +kernel
theorem dX3_lineOf_28 : decode cX3_lineOf 28 = .ok (.areturn, 1) := by decide +kernel
theorem dX3_topOf_0 : decode cX3_topOf 0 = .ok (.iload_n 2, 1) := by decide +kernel
theorem dX3_topOf_1 : decode cX3_topOf 1 = .ok (.bipush 12, 2) := by decide +kernel
theorem dX3_topOf_3 : decode cX3_topOf 3 = .ok (.imul, 1) := by decide +kernel
theorem dX3_topOf_4 : decode cX3_topOf 4 = .ok (.iload_n 1, 1) := by decide +kernel
theorem dX3_topOf_5 : decode cX3_topOf 5 = .ok (.iadd, 1) := by decide +kernel
theorem dX3_topOf_6 : decode cX3_topOf 6 = .ok (.istore_n 3, 1) := by decide +kernel
theorem dX3_topOf_7 : decode cX3_topOf 7 = .ok (.iload_n 3, 1) := by decide +kernel
theorem dX3_topOf_8 : decode cX3_topOf 8 = .ok (.ifCond .lt 18, 3) := by decide +kernel
theorem dX3_topOf_11 : decode cX3_topOf 11 = .ok (.iload_n 3, 1) := by decide +kernel
theorem dX3_topOf_12 : decode cX3_topOf 12 = .ok (.bipush 120, 2) := by decide +kernel
theorem dX3_topOf_14 : decode cX3_topOf 14 = .ok (.if_icmp .ge 12, 3) := by decide +kernel
theorem dX3_topOf_17 : decode cX3_topOf 17 = .ok (.aload_n 0, 1) := by decide +kernel
theorem dX3_topOf_18 : decode cX3_topOf 18 = .ok (.getfield 47, 3) := by decide +kernel
theorem dX3_topOf_21 : decode cX3_topOf 21 = .ok (.iload_n 3, 1) := by decide +kernel
theorem dX3_topOf_22 : decode cX3_topOf 22 = .ok (.iaload, 1) := by decide +kernel
theorem dX3_topOf_23 : decode cX3_topOf 23 = .ok (.goto 4, 3) := by decide +kernel
theorem dX3_topOf_26 : decode cX3_topOf 26 = .ok (.iconst 0, 1) := by decide +kernel
theorem dX3_topOf_27 : decode cX3_topOf 27 = .ok (.ireturn, 1) := by decide +kernel
theorem dX3_countOf_0 : decode cX3_countOf 0 = .ok (.iload_n 1, 1) := by decide +kernel
theorem dX3_countOf_1 : decode cX3_countOf 1 = .ok (.tableswitch 42 0 2 #[27, 32, 37], 27) := by decide +kernel
theorem dX3_countOf_28 : decode cX3_countOf 28 = .ok (.aload_n 0, 1) := by decide +kernel
theorem dX3_countOf_29 : decode cX3_countOf 29 = .ok (.getfield 15, 3) := by decide +kernel
theorem dX3_countOf_32 : decode cX3_countOf 32 = .ok (.ireturn, 1) := by decide +kernel
theorem dX3_countOf_33 : decode cX3_countOf 33 = .ok (.aload_n 0, 1) := by decide +kernel
theorem dX3_countOf_34 : decode cX3_countOf 34 = .ok (.getfield 41, 3) := by decide +kernel
theorem dX3_countOf_37 : decode cX3_countOf 37 = .ok (.ireturn, 1) := by decide +kernel
theorem dX3_countOf_38 : decode cX3_countOf 38 = .ok (.aload_n 0, 1) := by decide +kernel
theorem dX3_countOf_39 : decode cX3_countOf 39 = .ok (.getfield 38, 3) := by decide +kernel
theorem dX3_countOf_42 : decode cX3_countOf 42 = .ok (.ireturn, 1) := by decide +kernel
theorem dX3_countOf_43 : decode cX3_countOf 43 = .ok (.aload_n 0, 1) := by decide +kernel
theorem dX3_countOf_44 : decode cX3_countOf 44 = .ok (.getfield 62, 3) := by decide +kernel
theorem dX3_countOf_47 : decode cX3_countOf 47 = .ok (.ireturn, 1) := by decide +kernel
theorem dX3_factOf_0 : decode cX3_factOf 0 = .ok (.iload_n 2, 1) := by decide +kernel
theorem dX3_factOf_1 : decode cX3_factOf 1 = .ok (.tableswitch 105 0 8 #[51, 56, 61, 66, 71, 76, 89, 94, 100], 51) := by decide +kernel
theorem dX3_factOf_52 : decode cX3_factOf 52 = .ok (.aload_n 1, 1) := by decide +kernel
theorem dX3_factOf_53 : decode cX3_factOf 53 = .ok (.getfield 203, 3) := by decide +kernel
theorem dX3_factOf_56 : decode cX3_factOf 56 = .ok (.ireturn, 1) := by decide +kernel
theorem dX3_factOf_57 : decode cX3_factOf 57 = .ok (.aload_n 1, 1) := by decide +kernel
theorem dX3_factOf_58 : decode cX3_factOf 58 = .ok (.getfield 182, 3) := by decide +kernel
theorem dX3_factOf_61 : decode cX3_factOf 61 = .ok (.ireturn, 1) := by decide +kernel
theorem dX3_factOf_62 : decode cX3_factOf 62 = .ok (.aload_n 1, 1) := by decide +kernel
theorem dX3_factOf_63 : decode cX3_factOf 63 = .ok (.getfield 176, 3) := by decide +kernel
theorem dX3_factOf_66 : decode cX3_factOf 66 = .ok (.ireturn, 1) := by decide +kernel
theorem dX3_factOf_67 : decode cX3_factOf 67 = .ok (.aload_n 1, 1) := by decide +kernel
theorem dX3_factOf_68 : decode cX3_factOf 68 = .ok (.getfield 131, 3) := by decide +kernel
theorem dX3_factOf_71 : decode cX3_factOf 71 = .ok (.ireturn, 1) := by decide +kernel
theorem dX3_factOf_72 : decode cX3_factOf 72 = .ok (.aload_n 1, 1) := by decide +kernel
theorem dX3_factOf_73 : decode cX3_factOf 73 = .ok (.getfield 134, 3) := by decide +kernel
theorem dX3_factOf_76 : decode cX3_factOf 76 = .ok (.ireturn, 1) := by decide +kernel
theorem dX3_factOf_77 : decode cX3_factOf 77 = .ok (.aload_n 1, 1) := by decide +kernel
theorem dX3_factOf_78 : decode cX3_factOf 78 = .ok (.getfield 205, 3) := by decide +kernel
theorem dX3_factOf_81 : decode cX3_factOf 81 = .ok (.ifCond .eq 7, 3) := by decide +kernel
theorem dX3_factOf_84 : decode cX3_factOf 84 = .ok (.iconst 1, 1) := by decide +kernel
theorem dX3_factOf_85 : decode cX3_factOf 85 = .ok (.goto 4, 3) := by decide +kernel
theorem dX3_factOf_88 : decode cX3_factOf 88 = .ok (.iconst 0, 1) := by decide +kernel
theorem dX3_factOf_89 : decode cX3_factOf 89 = .ok (.ireturn, 1) := by decide +kernel
theorem dX3_factOf_90 : decode cX3_factOf 90 = .ok (.aload_n 1, 1) := by decide +kernel
theorem dX3_factOf_91 : decode cX3_factOf 91 = .ok (.getfield 208, 3) := by decide +kernel
theorem dX3_factOf_94 : decode cX3_factOf 94 = .ok (.ireturn, 1) := by decide +kernel
theorem dX3_factOf_95 : decode cX3_factOf 95 = .ok (.aload_n 0, 1) := by decide +kernel
theorem dX3_factOf_96 : decode cX3_factOf 96 = .ok (.aload_n 1, 1) := by decide +kernel
theorem dX3_factOf_97 : decode cX3_factOf 97 = .ok (.invokevirtual 100, 3) := by decide +kernel
theorem dX3_factOf_100 : decode cX3_factOf 100 = .ok (.ireturn, 1) := by decide +kernel
theorem dX3_factOf_101 : decode cX3_factOf 101 = .ok (.aload_n 1, 1) := by decide +kernel
theorem dX3_factOf_102 : decode cX3_factOf 102 = .ok (.getfield 211, 3) := by decide +kernel
theorem dX3_factOf_105 : decode cX3_factOf 105 = .ok (.ireturn, 1) := by decide +kernel
theorem dX3_factOf_106 : decode cX3_factOf 106 = .ok (.aload_n 1, 1) := by decide +kernel
theorem dX3_factOf_107 : decode cX3_factOf 107 = .ok (.getfield 214, 3) := by decide +kernel
theorem dX3_factOf_110 : decode cX3_factOf 110 = .ok (.ireturn, 1) := by decide +kernel
set_option maxRecDepth 20000 in
theorem ggX3_sumOf_X3_greatestTop : GoodIn wsX3_sumOf wsX3_greatestTop := goodIn_r _ [6, 7, 8, 9, 10, 11, 5, 12, 13, 14, 32, 33, 34, 35, 36, 37, 38, 39, 40, 41, 42, 43, 44, 45, 46, 47, 48, 49, 50, 51, 52, 53, 54, 55, 56, 57, 58, 59, 60, 61, 62, 63] (by decide +kernel) (by decide +kernel)
set_option maxRecDepth 20000 in
theorem gX3_sumOf_X3_greatestTop : GoodIn wsX3_sumOf (wsV RX3 192 RX3 yX3_greatestTop wsX3_greatestTop) := goodIn_app (goodIn_of _ (by decide +kernel)) ggX3_sumOf_X3_greatestTop
theorem dX3_sumOf_0 : decode cX3_sumOf 0 = .ok (.iload_n 1, 1) := by decide +kernel
theorem dX3_sumOf_1 : decode cX3_sumOf 1 = .ok (.tableswitch 42 0 2 #[27, 32, 37], 27) := by decide +kernel
theorem dX3_sumOf_28 : decode cX3_sumOf 28 = .ok (.aload_n 0, 1) := by decide +kernel
theorem dX3_sumOf_29 : decode cX3_sumOf 29 = .ok (.getfield 44, 3) := by decide +kernel
theorem dX3_sumOf_32 : decode cX3_sumOf 32 = .ok (.ireturn, 1) := by decide +kernel
theorem dX3_sumOf_33 : decode cX3_sumOf 33 = .ok (.aload_n 0, 1) := by decide +kernel
theorem dX3_sumOf_34 : decode cX3_sumOf 34 = .ok (.invokevirtual 192, 3) := by decide +kernel
theorem dX3_sumOf_37 : decode cX3_sumOf 37 = .ok (.ireturn, 1) := by decide +kernel
theorem dX3_sumOf_38 : decode cX3_sumOf 38 = .ok (.aload_n 0, 1) := by decide +kernel
theorem dX3_sumOf_39 : decode cX3_sumOf 39 = .ok (.invokevirtual 217, 3) := by decide +kernel
theorem dX3_sumOf_42 : decode cX3_sumOf 42 = .ok (.ireturn, 1) := by decide +kernel
theorem dX3_sumOf_43 : decode cX3_sumOf 43 = .ok (.aload_n 0, 1) := by decide +kernel
theorem dX3_sumOf_44 : decode cX3_sumOf 44 = .ok (.invokevirtual 220, 3) := by decide +kernel
theorem dX3_sumOf_47 : decode cX3_sumOf 47 = .ok (.ireturn, 1) := by decide +kernel
set_option maxRecDepth 20000 in
theorem ggX3_greatestTop_X3_itemOf : GoodIn wsX3_greatestTop wsX3_itemOf := goodIn_r _ [7, 1, 8, 9, 10, 11, 12, 13, 14, 15, 16, 17, 18, 19, 20, 21, 22, 23, 24, 25, 26, 27, 28, 29, 30, 31, 32, 33, 34, 35, 36, 37, 38, 39, 40, 41] (by decide +kernel) (by decide +kernel)
set_option maxRecDepth 20000 in
theorem gX3_greatestTop_X3_itemOf : GoodIn wsX3_greatestTop (wsV RX3 96 RX3 yX3_itemOf wsX3_itemOf) := goodIn_app (goodIn_of _ (by decide +kernel)) ggX3_greatestTop_X3_itemOf
theorem dX3_greatestTop_0 : decode cX3_greatestTop 0 = .ok (.iconst 0, 1) := by decide +kernel
theorem dX3_greatestTop_1 : decode cX3_greatestTop 1 = .ok (.istore_n 1, 1) := by decide +kernel
theorem dX3_greatestTop_2 : decode cX3_greatestTop 2 = .ok (.iconst 0, 1) := by decide +kernel
theorem dX3_greatestTop_3 : decode cX3_greatestTop 3 = .ok (.istore_n 2, 1) := by decide +kernel
theorem dX3_greatestTop_4 : decode cX3_greatestTop 4 = .ok (.iload_n 2, 1) := by decide +kernel
theorem dX3_greatestTop_5 : decode cX3_greatestTop 5 = .ok (.aload_n 0, 1) := by decide +kernel
theorem dX3_greatestTop_6 : decode cX3_greatestTop 6 = .ok (.getfield 38, 3) := by decide +kernel
theorem dX3_greatestTop_9 : decode cX3_greatestTop 9 = .ok (.if_icmp .ge 32, 3) := by decide +kernel
theorem dX3_greatestTop_12 : decode cX3_greatestTop 12 = .ok (.aload_n 0, 1) := by decide +kernel
theorem dX3_greatestTop_13 : decode cX3_greatestTop 13 = .ok (.iload_n 2, 1) := by decide +kernel
theorem dX3_greatestTop_14 : decode cX3_greatestTop 14 = .ok (.invokevirtual 96, 3) := by decide +kernel
theorem dX3_greatestTop_17 : decode cX3_greatestTop 17 = .ok (.astore_n 3, 1) := by decide +kernel
theorem dX3_greatestTop_18 : decode cX3_greatestTop 18 = .ok (.aload_n 3, 1) := by decide +kernel
theorem dX3_greatestTop_19 : decode cX3_greatestTop 19 = .ok (.ifnull 16, 3) := by decide +kernel
theorem dX3_greatestTop_22 : decode cX3_greatestTop 22 = .ok (.aload_n 3, 1) := by decide +kernel
theorem dX3_greatestTop_23 : decode cX3_greatestTop 23 = .ok (.getfield 134, 3) := by decide +kernel
theorem dX3_greatestTop_26 : decode cX3_greatestTop 26 = .ok (.iload_n 1, 1) := by decide +kernel
theorem dX3_greatestTop_27 : decode cX3_greatestTop 27 = .ok (.if_icmp .le 8, 3) := by decide +kernel
theorem dX3_greatestTop_30 : decode cX3_greatestTop 30 = .ok (.aload_n 3, 1) := by decide +kernel
theorem dX3_greatestTop_31 : decode cX3_greatestTop 31 = .ok (.getfield 134, 3) := by decide +kernel
theorem dX3_greatestTop_34 : decode cX3_greatestTop 34 = .ok (.istore_n 1, 1) := by decide +kernel
theorem dX3_greatestTop_35 : decode cX3_greatestTop 35 = .ok (.iinc 2 1, 3) := by decide +kernel
theorem dX3_greatestTop_38 : decode cX3_greatestTop 38 = .ok (.goto (-34), 3) := by decide +kernel
theorem dX3_greatestTop_41 : decode cX3_greatestTop 41 = .ok (.iload_n 1, 1) := by decide +kernel
theorem dX3_greatestTop_42 : decode cX3_greatestTop 42 = .ok (.ireturn, 1) := by decide +kernel
set_option maxRecDepth 20000 in
theorem ggX3_isCarriedBy_X3_itemOf : GoodIn wsX3_isCarriedBy wsX3_itemOf := goodIn_r _ [7, 1, 8, 9, 18, 19, 20, 21, 22, 23, 24, 25, 26, 27, 28, 29, 30, 31, 32, 33, 34, 35, 36, 37, 38, 39, 40, 41, 42, 43, 44, 45, 46, 47, 48, 49] (by decide +kernel) (by decide +kernel)
set_option maxRecDepth 20000 in
theorem gX3_isCarriedBy_X3_itemOf : GoodIn wsX3_isCarriedBy (wsV RX3 96 RX3 yX3_itemOf wsX3_itemOf) := goodIn_app (goodIn_of _ (by decide +kernel)) ggX3_isCarriedBy_X3_itemOf
set_option maxRecDepth 20000 in
theorem ggX3_isCarriedBy_X0_reachSupports : GoodIn wsX3_isCarriedBy wsX0_reachSupports := goodIn_r _ [14, 15, 16, 17, 32, 33, 34, 35, 36, 37, 38, 39, 40, 41, 42, 43, 44, 45, 46, 47, 48, 49] (by decide +kernel) (by decide +kernel)
set_option maxRecDepth 20000 in
theorem gX3_isCarriedBy_X0_reachSupports : GoodIn wsX3_isCarriedBy (wsV RX3 230 RX0 yX0_reachSupports wsX0_reachSupports) := goodIn_app (goodIn_of _ (by decide +kernel)) ggX3_isCarriedBy_X0_reachSupports
theorem dX3_isCarriedBy_0 : decode cX3_isCarriedBy 0 = .ok (.iconst 0, 1) := by decide +kernel
theorem dX3_isCarriedBy_1 : decode cX3_isCarriedBy 1 = .ok (.istore_n 3, 1) := by decide +kernel
theorem dX3_isCarriedBy_2 : decode cX3_isCarriedBy 2 = .ok (.iload_n 3, 1) := by decide +kernel
theorem dX3_isCarriedBy_3 : decode cX3_isCarriedBy 3 = .ok (.aload_n 0, 1) := by decide +kernel
theorem dX3_isCarriedBy_4 : decode cX3_isCarriedBy 4 = .ok (.getfield 38, 3) := by decide +kernel
theorem dX3_isCarriedBy_7 : decode cX3_isCarriedBy 7 = .ok (.if_icmp .ge 27, 3) := by decide +kernel
theorem dX3_isCarriedBy_10 : decode cX3_isCarriedBy 10 = .ok (.aload_n 0, 1) := by decide +kernel
theorem dX3_isCarriedBy_11 : decode cX3_isCarriedBy 11 = .ok (.iload_n 3, 1) := by decide +kernel
theorem dX3_isCarriedBy_12 : decode cX3_isCarriedBy 12 = .ok (.invokevirtual 96, 3) := by decide +kernel
theorem dX3_isCarriedBy_15 : decode cX3_isCarriedBy 15 = .ok (.astore 4, 2) := by decide +kernel
theorem dX3_isCarriedBy_17 : decode cX3_isCarriedBy 17 = .ok (.aload 4, 2) := by decide +kernel
theorem dX3_isCarriedBy_19 : decode cX3_isCarriedBy 19 = .ok (.ifnull 9, 3) := by decide +kernel
theorem dX3_isCarriedBy_22 : decode cX3_isCarriedBy 22 = .ok (.aload 4, 2) := by decide +kernel
theorem dX3_isCarriedBy_24 : decode cX3_isCarriedBy 24 = .ok (.iconst 0, 1) := by decide +kernel
theorem dX3_isCarriedBy_25 : decode cX3_isCarriedBy 25 = .ok (.putfield 227, 3) := by decide +kernel
theorem dX3_isCarriedBy_28 : decode cX3_isCarriedBy 28 = .ok (.iinc 3 1, 3) := by decide +kernel
theorem dX3_isCarriedBy_31 : decode cX3_isCarriedBy 31 = .ok (.goto (-29), 3) := by decide +kernel
theorem dX3_isCarriedBy_34 : decode cX3_isCarriedBy 34 = .ok (.aload_n 1, 1) := by decide +kernel
theorem dX3_isCarriedBy_35 : decode cX3_isCarriedBy 35 = .ok (.invokevirtual 230, 3) := by decide +kernel
theorem dX3_isCarriedBy_38 : decode cX3_isCarriedBy 38 = .ok (.aload_n 0, 1) := by decide +kernel
theorem dX3_isCarriedBy_39 : decode cX3_isCarriedBy 39 = .ok (.getfield 38, 3) := by decide +kernel
theorem dX3_isCarriedBy_42 : decode cX3_isCarriedBy 42 = .ok (.iconst 1, 1) := by decide +kernel
theorem dX3_isCarriedBy_43 : decode cX3_isCarriedBy 43 = .ok (.isub, 1) := by decide +kernel
theorem dX3_isCarriedBy_44 : decode cX3_isCarriedBy 44 = .ok (.istore_n 3, 1) := by decide +kernel
theorem dX3_isCarriedBy_45 : decode cX3_isCarriedBy 45 = .ok (.iload_n 3, 1) := by decide +kernel
theorem dX3_isCarriedBy_46 : decode cX3_isCarriedBy 46 = .ok (.ifCond .lt 34, 3) := by decide +kernel
theorem dX3_isCarriedBy_49 : decode cX3_isCarriedBy 49 = .ok (.aload_n 0, 1) := by decide +kernel
theorem dX3_isCarriedBy_50 : decode cX3_isCarriedBy 50 = .ok (.iload_n 3, 1) := by decide +kernel
theorem dX3_isCarriedBy_51 : decode cX3_isCarriedBy 51 = .ok (.invokevirtual 96, 3) := by decide +kernel
theorem dX3_isCarriedBy_54 : decode cX3_isCarriedBy 54 = .ok (.astore 4, 2) := by decide +kernel
theorem dX3_isCarriedBy_56 : decode cX3_isCarriedBy 56 = .ok (.aload 4, 2) := by decide +kernel
theorem dX3_isCarriedBy_58 : decode cX3_isCarriedBy 58 = .ok (.ifnull 16, 3) := by decide +kernel
theorem dX3_isCarriedBy_61 : decode cX3_isCarriedBy 61 = .ok (.aload 4, 2) := by decide +kernel
theorem dX3_isCarriedBy_63 : decode cX3_isCarriedBy 63 = .ok (.getfield 227, 3) := by decide +kernel
theorem dX3_isCarriedBy_66 : decode cX3_isCarriedBy 66 = .ok (.ifCond .eq 8, 3) := by decide +kernel
theorem dX3_isCarriedBy_69 : decode cX3_isCarriedBy 69 = .ok (.aload 4, 2) := by decide +kernel
theorem dX3_isCarriedBy_71 : decode cX3_isCarriedBy 71 = .ok (.invokevirtual 230, 3) := by decide +kernel
theorem dX3_isCarriedBy_74 : decode cX3_isCarriedBy 74 = .ok (.iinc 3 (-1), 3) := by decide +kernel
theorem dX3_isCarriedBy_77 : decode cX3_isCarriedBy 77 = .ok (.goto (-32), 3) := by decide +kernel
theorem dX3_isCarriedBy_80 : decode cX3_isCarriedBy 80 = .ok (.aload_n 2, 1) := by decide +kernel
theorem dX3_isCarriedBy_81 : decode cX3_isCarriedBy 81 = .ok (.getfield 227, 3) := by decide +kernel
theorem dX3_isCarriedBy_84 : decode cX3_isCarriedBy 84 = .ok (.ireturn, 1) := by decide +kernel
set_option maxRecDepth 20000 in
theorem ggX3_forgetNextLoads_X3_itemOf : GoodIn wsX3_forgetNextLoads wsX3_itemOf := goodIn_r _ [7, 1, 8, 9, 10, 11, 12, 13, 14, 15, 16, 17, 18, 19, 20, 21, 22, 23, 24, 25, 26, 27, 28, 29, 30, 31, 32, 33, 34, 35, 36, 37, 38, 39, 40, 41] (by decide +kernel) (by decide +kernel)
set_option maxRecDepth 20000 in
theorem gX3_forgetNextLoads_X3_itemOf : GoodIn wsX3_forgetNextLoads (wsV RX3 96 RX3 yX3_itemOf wsX3_itemOf) := goodIn_app (goodIn_of _ (by decide +kernel)) ggX3_forgetNextLoads_X3_itemOf
theorem dX3_forgetNextLoads_0 : decode cX3_forgetNextLoads 0 = .ok (.iconst 0, 1) := by decide +kernel
theorem dX3_forgetNextLoads_1 : decode cX3_forgetNextLoads 1 = .ok (.istore_n 1, 1) := by decide +kernel
theorem dX3_forgetNextLoads_2 : decode cX3_forgetNextLoads 2 = .ok (.iload_n 1, 1) := by decide +kernel
theorem dX3_forgetNextLoads_3 : decode cX3_forgetNextLoads 3 = .ok (.aload_n 0, 1) := by decide +kernel
theorem dX3_forgetNextLoads_4 : decode cX3_forgetNextLoads 4 = .ok (.getfield 38, 3) := by decide +kernel
theorem dX3_forgetNextLoads_7 : decode cX3_forgetNextLoads 7 = .ok (.if_icmp .ge 24, 3) := by decide +kernel
theorem dX3_forgetNextLoads_10 : decode cX3_forgetNextLoads 10 = .ok (.aload_n 0, 1) := by decide +kernel
theorem dX3_forgetNextLoads_11 : decode cX3_forgetNextLoads 11 = .ok (.iload_n 1, 1) := by decide +kernel
theorem dX3_forgetNextLoads_12 : decode cX3_forgetNextLoads 12 = .ok (.invokevirtual 96, 3) := by decide +kernel
theorem dX3_forgetNextLoads_15 : decode cX3_forgetNextLoads 15 = .ok (.astore_n 2, 1) := by decide +kernel
theorem dX3_forgetNextLoads_16 : decode cX3_forgetNextLoads 16 = .ok (.aload_n 2, 1) := by decide +kernel
theorem dX3_forgetNextLoads_17 : decode cX3_forgetNextLoads 17 = .ok (.ifnull 8, 3) := by decide +kernel
theorem dX3_forgetNextLoads_20 : decode cX3_forgetNextLoads 20 = .ok (.aload_n 2, 1) := by decide +kernel
theorem dX3_forgetNextLoads_21 : decode cX3_forgetNextLoads 21 = .ok (.iconst 0, 1) := by decide +kernel
theorem dX3_forgetNextLoads_22 : decode cX3_forgetNextLoads 22 = .ok (.putfield 233, 3) := by decide +kernel
theorem dX3_forgetNextLoads_25 : decode cX3_forgetNextLoads 25 = .ok (.iinc 1 1, 3) := by decide +kernel
theorem dX3_forgetNextLoads_28 : decode cX3_forgetNextLoads 28 = .ok (.goto (-26), 3) := by decide +kernel
theorem dX3_forgetNextLoads_31 : decode cX3_forgetNextLoads 31 = .ok (.return_, 1) := by decide +kernel
set_option maxRecDepth 20000 in
theorem ggX3_settleLoads_X3_forgetNextLoads : GoodIn wsX3_settleLoads wsX3_forgetNextLoads := goodIn_r _ [8, 1, 2, 9, 10, 11, 7, 12, 13, 14, 26, 27, 28, 29, 30, 31, 32, 33, 34, 35, 36, 37, 38, 39, 40, 41, 42, 43, 44, 45, 46, 47, 48, 49, 50, 51, 52, 53, 54, 55, 56, 57] (by decide +kernel) (by decide +kernel)
set_option maxRecDepth 20000 in
theorem gX3_settleLoads_X3_forgetNextLoads : GoodIn wsX3_settleLoads (wsV RX3 236 RX3 yX3_forgetNextLoads wsX3_forgetNextLoads) := goodIn_app (goodIn_of _ (by decide +kernel)) ggX3_settleLoads_X3_forgetNextLoads
set_option maxRecDepth 20000 in
theorem ggX3_settleLoads_X3_itemOf : GoodIn wsX3_settleLoads wsX3_itemOf := goodIn_r _ [12, 1, 13, 14, 26, 27, 28, 29, 30, 31, 32, 33, 34, 35, 36, 37, 38, 39, 40, 41, 42, 43, 44, 45, 46, 47, 48, 49, 50, 51, 52, 53, 54, 55, 56, 57] (by decide +kernel) (by decide +kernel)
set_option maxRecDepth 20000 in
theorem gX3_settleLoads_X3_itemOf : GoodIn wsX3_settleLoads (wsV RX3 96 RX3 yX3_itemOf wsX3_itemOf) := goodIn_app (goodIn_of _ (by decide +kernel)) ggX3_settleLoads_X3_itemOf
set_option maxRecDepth 20000 in
theorem ggX3_settleLoads_X0_passLoadDown : GoodIn wsX3_settleLoads wsX0_passLoadDown := goodIn_r _ [19, 20, 21, 22, 23, 24, 25, 40, 41, 42, 43, 44, 45, 46, 47, 48, 49, 50, 51, 52, 53, 54, 55, 56, 57] (by decide +kernel) (by decide +kernel)
set_option maxRecDepth 20000 in
theorem gX3_settleLoads_X0_passLoadDown : GoodIn wsX3_settleLoads (wsV RX3 239 RX0 yX0_passLoadDown wsX0_passLoadDown) := goodIn_app (goodIn_of _ (by decide +kernel)) ggX3_settleLoads_X0_passLoadDown
theorem dX3_settleLoads_0 : decode cX3_settleLoads 0 = .ok (.aload_n 0, 1) := by decide +kernel
theorem dX3_settleLoads_1 : decode cX3_settleLoads 1 = .ok (.invokevirtual 236, 3) := by decide +kernel
theorem dX3_settleLoads_4 : decode cX3_settleLoads 4 = .ok (.aload_n 0, 1) := by decide +kernel
theorem dX3_settleLoads_5 : decode cX3_settleLoads 5 = .ok (.getfield 38, 3) := by decide +kernel
theorem dX3_settleLoads_8 : decode cX3_settleLoads 8 = .ok (.iconst 1, 1) := by decide +kernel
theorem dX3_settleLoads_9 : decode cX3_settleLoads 9 = .ok (.isub, 1) := by decide +kernel
theorem dX3_settleLoads_10 : decode cX3_settleLoads 10 = .ok (.istore_n 1, 1) := by decide +kernel
theorem dX3_settleLoads_11 : decode cX3_settleLoads 11 = .ok (.iload_n 1, 1) := by decide +kernel
theorem dX3_settleLoads_12 : decode cX3_settleLoads 12 = .ok (.ifCond .lt 31, 3) := by decide +kernel
theorem dX3_settleLoads_15 : decode cX3_settleLoads 15 = .ok (.aload_n 0, 1) := by decide +kernel
theorem dX3_settleLoads_16 : decode cX3_settleLoads 16 = .ok (.iload_n 1, 1) := by decide +kernel
theorem dX3_settleLoads_17 : decode cX3_settleLoads 17 = .ok (.invokevirtual 96, 3) := by decide +kernel
theorem dX3_settleLoads_20 : decode cX3_settleLoads 20 = .ok (.astore_n 2, 1) := by decide +kernel
theorem dX3_settleLoads_21 : decode cX3_settleLoads 21 = .ok (.aload_n 2, 1) := by decide +kernel
theorem dX3_settleLoads_22 : decode cX3_settleLoads 22 = .ok (.ifnull 15, 3) := by decide +kernel
theorem dX3_settleLoads_25 : decode cX3_settleLoads 25 = .ok (.aload_n 2, 1) := by decide +kernel
theorem dX3_settleLoads_26 : decode cX3_settleLoads 26 = .ok (.aload_n 2, 1) := by decide +kernel
theorem dX3_settleLoads_27 : decode cX3_settleLoads 27 = .ok (.getfield 233, 3) := by decide +kernel
theorem dX3_settleLoads_30 : decode cX3_settleLoads 30 = .ok (.putfield 208, 3) := by decide +kernel
theorem dX3_settleLoads_33 : decode cX3_settleLoads 33 = .ok (.aload_n 2, 1) := by decide +kernel
theorem dX3_settleLoads_34 : decode cX3_settleLoads 34 = .ok (.invokevirtual 239, 3) := by decide +kernel
theorem dX3_settleLoads_37 : decode cX3_settleLoads 37 = .ok (.iinc 1 (-1), 3) := by decide +kernel
theorem dX3_settleLoads_40 : decode cX3_settleLoads 40 = .ok (.goto (-29), 3) := by decide +kernel
theorem dX3_settleLoads_43 : decode cX3_settleLoads 43 = .ok (.return_, 1) := by decide +kernel
set_option maxRecDepth 20000 in
theorem ggX3_isTooMuchLoad_X3_forgetNextLoads : GoodIn wsX3_isTooMuchLoad wsX3_forgetNextLoads := goodIn_r _ [9, 3, 2, 10, 11, 12, 8, 13, 14, 15, 27, 28, 29, 30, 31, 32, 33, 34, 35, 36, 37, 38, 39, 40, 41, 42, 43, 44, 45, 46, 47, 48, 49, 50, 51, 52, 53, 54, 55, 56, 57, 58] (by decide +kernel) (by decide +kernel)
set_option maxRecDepth 20000 in
theorem gX3_isTooMuchLoad_X3_forgetNextLoads : GoodIn wsX3_isTooMuchLoad (wsV RX3 236 RX3 yX3_forgetNextLoads wsX3_forgetNextLoads) := goodIn_app (goodIn_of _ (by decide +kernel)) ggX3_isTooMuchLoad_X3_forgetNextLoads
set_option maxRecDepth 20000 in
theorem ggX3_isTooMuchLoad_X0_passLoadDown : GoodIn wsX3_isTooMuchLoad wsX0_passLoadDown := goodIn_r _ [20, 21, 22, 23, 24, 25, 26, 41, 42, 43, 44, 45, 46, 47, 48, 49, 50, 51, 52, 53, 54, 55, 56, 57, 58] (by decide +kernel) (by decide +kernel)
set_option maxRecDepth 20000 in
theorem gX3_isTooMuchLoad_X0_passLoadDown : GoodIn wsX3_isTooMuchLoad (wsV RX3 239 RX0 yX0_passLoadDown wsX0_passLoadDown) := goodIn_app (goodIn_of _ (by decide +kernel)) ggX3_isTooMuchLoad_X0_passLoadDown
set_option maxRecDepth 20000 in
theorem ggX3_isTooMuchLoad_X3_itemOf : GoodIn wsX3_isTooMuchLoad wsX3_itemOf := goodIn_r _ [13, 3, 14, 15, 27, 28, 29, 30, 31, 32, 33, 34, 35, 36, 37, 38, 39, 40, 41, 42, 43, 44, 45, 46, 47, 48, 49, 50, 51, 52, 53, 54, 55, 56, 57, 58] (by decide +kernel) (by decide +kernel)
set_option maxRecDepth 20000 in
theorem gX3_isTooMuchLoad_X3_itemOf : GoodIn wsX3_isTooMuchLoad (wsV RX3 96 RX3 yX3_itemOf wsX3_itemOf) := goodIn_app (goodIn_of _ (by decide +kernel)) ggX3_isTooMuchLoad_X3_itemOf
theorem dX3_isTooMuchLoad_0 : decode cX3_isTooMuchLoad 0 = .ok (.aload_n 0, 1) := by decide +kernel
theorem dX3_isTooMuchLoad_1 : decode cX3_isTooMuchLoad 1 = .ok (.invokevirtual 236, 3) := by decide +kernel
theorem dX3_isTooMuchLoad_4 : decode cX3_isTooMuchLoad 4 = .ok (.aload_n 0, 1) := by decide +kernel
theorem dX3_isTooMuchLoad_5 : decode cX3_isTooMuchLoad 5 = .ok (.getfield 52, 3) := by decide +kernel
theorem dX3_isTooMuchLoad_8 : decode cX3_isTooMuchLoad 8 = .ok (.iconst 0, 1) := by decide +kernel
theorem dX3_isTooMuchLoad_9 : decode cX3_isTooMuchLoad 9 = .ok (.putfield 233, 3) := by decide +kernel
theorem dX3_isTooMuchLoad_12 : decode cX3_isTooMuchLoad 12 = .ok (.aload_n 0, 1) := by decide +kernel
theorem dX3_isTooMuchLoad_13 : decode cX3_isTooMuchLoad 13 = .ok (.getfield 52, 3) := by decide +kernel
theorem dX3_isTooMuchLoad_16 : decode cX3_isTooMuchLoad 16 = .ok (.invokevirtual 239, 3) := by decide +kernel
theorem dX3_isTooMuchLoad_19 : decode cX3_isTooMuchLoad 19 = .ok (.aload_n 0, 1) := by decide +kernel
theorem dX3_isTooMuchLoad_20 : decode cX3_isTooMuchLoad 20 = .ok (.getfield 38, 3) := by decide +kernel
theorem dX3_isTooMuchLoad_23 : decode cX3_isTooMuchLoad 23 = .ok (.iconst 1, 1) := by decide +kernel
theorem dX3_isTooMuchLoad_24 : decode cX3_isTooMuchLoad 24 = .ok (.isub, 1) := by decide +kernel
theorem dX3_isTooMuchLoad_25 : decode cX3_isTooMuchLoad 25 = .ok (.istore_n 1, 1) := by decide +kernel
theorem dX3_isTooMuchLoad_26 : decode cX3_isTooMuchLoad 26 = .ok (.iload_n 1, 1) := by decide +kernel
theorem dX3_isTooMuchLoad_27 : decode cX3_isTooMuchLoad 27 = .ok (.ifCond .lt 40, 3) := by decide +kernel
theorem dX3_isTooMuchLoad_30 : decode cX3_isTooMuchLoad 30 = .ok (.aload_n 0, 1) := by decide +kernel
theorem dX3_isTooMuchLoad_31 : decode cX3_isTooMuchLoad 31 = .ok (.iload_n 1, 1) := by decide +kernel
theorem dX3_isTooMuchLoad_32 : decode cX3_isTooMuchLoad 32 = .ok (.invokevirtual 96, 3) := by decide +kernel
theorem dX3_isTooMuchLoad_35 : decode cX3_isTooMuchLoad 35 = .ok (.astore_n 2, 1) := by decide +kernel
theorem dX3_isTooMuchLoad_36 : decode cX3_isTooMuchLoad 36 = .ok (.aload_n 2, 1) := by decide +kernel
theorem dX3_isTooMuchLoad_37 : decode cX3_isTooMuchLoad 37 = .ok (.ifnull 16, 3) := by decide +kernel
theorem dX3_isTooMuchLoad_40 : decode cX3_isTooMuchLoad 40 = .ok (.aload_n 2, 1) := by decide +kernel
theorem dX3_isTooMuchLoad_41 : decode cX3_isTooMuchLoad 41 = .ok (.getfield 233, 3) := by decide +kernel
theorem dX3_isTooMuchLoad_44 : decode cX3_isTooMuchLoad 44 = .ok (.aload_n 2, 1) := by decide +kernel
theorem dX3_isTooMuchLoad_45 : decode cX3_isTooMuchLoad 45 = .ok (.getfield 242, 3) := by decide +kernel
theorem dX3_isTooMuchLoad_48 : decode cX3_isTooMuchLoad 48 = .ok (.if_icmp .le 5, 3) := by decide +kernel
theorem dX3_isTooMuchLoad_51 : decode cX3_isTooMuchLoad 51 = .ok (.iconst 1, 1) := by decide +kernel
theorem dX3_isTooMuchLoad_52 : decode cX3_isTooMuchLoad 52 = .ok (.ireturn, 1) := by decide +kernel
theorem dX3_isTooMuchLoad_53 : decode cX3_isTooMuchLoad 53 = .ok (.aload_n 2, 1) := by decide +kernel
theorem dX3_isTooMuchLoad_54 : decode cX3_isTooMuchLoad 54 = .ok (.ifnull 7, 3) := by decide +kernel
theorem dX3_isTooMuchLoad_57 : decode cX3_isTooMuchLoad 57 = .ok (.aload_n 2, 1) := by decide +kernel
theorem dX3_isTooMuchLoad_58 : decode cX3_isTooMuchLoad 58 = .ok (.invokevirtual 239, 3) := by decide +kernel
theorem dX3_isTooMuchLoad_61 : decode cX3_isTooMuchLoad 61 = .ok (.iinc 1 (-1), 3) := by decide +kernel
theorem dX3_isTooMuchLoad_64 : decode cX3_isTooMuchLoad 64 = .ok (.goto (-38), 3) := by decide +kernel
theorem dX3_isTooMuchLoad_67 : decode cX3_isTooMuchLoad 67 = .ok (.iconst 0, 1) := by decide +kernel
theorem dX3_isTooMuchLoad_68 : decode cX3_isTooMuchLoad 68 = .ok (.ireturn, 1) := by decide +kernel
set_option maxRecDepth 20000 in
theorem ggX3_isInField_X3_isWithin : GoodIn wsX3_isInField wsX3_isWithin := goodIn_r _ [7] (by decide +kernel) (by decide +kernel)
set_option maxRecDepth 20000 in
theorem gX3_isInField_X3_isWithin : GoodIn wsX3_isInField (va_wsS RX3 65 yX3_isWithin wsX3_isWithin) := goodIn_app (goodIn_of _ (by decide +kernel)) ggX3_isInField_X3_isWithin
theorem dX3_isInField_0 : decode cX3_isInField 0 = .ok (.iload_n 3, 1) := by decide +kernel
theorem dX3_isInField_1 : decode cX3_isInField 1 = .ok (.ifCond .eq 12, 3) := by decide +kernel
theorem dX3_isInField_4 : decode cX3_isInField 4 = .ok (.aload_n 0, 1) := by decide +kernel
theorem dX3_isInField_5 : decode cX3_isInField 5 = .ok (.getfield 245, 3) := by decide +kernel
theorem dX3_isInField_8 : decode cX3_isInField 8 = .ok (.ifCond .ne 5, 3) := by decide +kernel
theorem dX3_isInField_11 : decode cX3_isInField 11 = .ok (.iconst 0, 1) := by decide +kernel
theorem dX3_isInField_12 : decode cX3_isInField 12 = .ok (.ireturn, 1) := by decide +kernel
theorem dX3_isInField_13 : decode cX3_isInField 13 = .ok (.iload_n 3, 1) := by decide +kernel
theorem dX3_isInField_14 : decode cX3_isInField 14 = .ok (.ifCond .eq 10, 3) := by decide +kernel
theorem dX3_isInField_17 : decode cX3_isInField 17 = .ok (.aload_n 0, 1) := by decide +kernel
theorem dX3_isInField_18 : decode cX3_isInField 18 = .ok (.getfield 248, 3) := by decide +kernel
theorem dX3_isInField_21 : decode cX3_isInField 21 = .ok (.goto 7, 3) := by decide +kernel
theorem dX3_isInField_24 : decode cX3_isInField 24 = .ok (.aload_n 0, 1) := by decide +kernel
theorem dX3_isInField_25 : decode cX3_isInField 25 = .ok (.getfield 249, 3) := by decide +kernel
theorem dX3_isInField_28 : decode cX3_isInField 28 = .ok (.istore 4, 2) := by decide +kernel
theorem dX3_isInField_30 : decode cX3_isInField 30 = .ok (.iload_n 3, 1) := by decide +kernel
theorem dX3_isInField_31 : decode cX3_isInField 31 = .ok (.ifCond .eq 10, 3) := by decide +kernel
theorem dX3_isInField_34 : decode cX3_isInField 34 = .ok (.aload_n 0, 1) := by decide +kernel
theorem dX3_isInField_35 : decode cX3_isInField 35 = .ok (.getfield 249, 3) := by decide +kernel
theorem dX3_isInField_38 : decode cX3_isInField 38 = .ok (.goto 7, 3) := by decide +kernel
theorem dX3_isInField_41 : decode cX3_isInField 41 = .ok (.aload_n 0, 1) := by decide +kernel
theorem dX3_isInField_42 : decode cX3_isInField 42 = .ok (.getfield 248, 3) := by decide +kernel
theorem dX3_isInField_45 : decode cX3_isInField 45 = .ok (.istore 5, 2) := by decide +kernel
theorem dX3_isInField_47 : decode cX3_isInField 47 = .ok (.iload_n 1, 1) := by decide +kernel
theorem dX3_isInField_48 : decode cX3_isInField 48 = .ok (.iconst 0, 1) := by decide +kernel
theorem dX3_isInField_49 : decode cX3_isInField 49 = .ok (.bipush 12, 2) := by decide +kernel
theorem dX3_isInField_51 : decode cX3_isInField 51 = .ok (.iload 4, 2) := by decide +kernel
theorem dX3_isInField_53 : decode cX3_isInField 53 = .ok (.isub, 1) := by decide +kernel
theorem dX3_isInField_54 : decode cX3_isInField 54 = .ok (.invokestatic 65, 3) := by decide +kernel
theorem dX3_isInField_57 : decode cX3_isInField 57 = .ok (.ifCond .eq 20, 3) := by decide +kernel
theorem dX3_isInField_60 : decode cX3_isInField 60 = .ok (.iload_n 2, 1) := by decide +kernel
theorem dX3_isInField_61 : decode cX3_isInField 61 = .ok (.iconst 0, 1) := by decide +kernel
theorem dX3_isInField_62 : decode cX3_isInField 62 = .ok (.bipush 10, 2) := by decide +kernel
theorem dX3_isInField_64 : decode cX3_isInField 64 = .ok (.iload 5, 2) := by decide +kernel
theorem dX3_isInField_66 : decode cX3_isInField 66 = .ok (.isub, 1) := by decide +kernel
theorem dX3_isInField_67 : decode cX3_isInField 67 = .ok (.invokestatic 65, 3) := by decide +kernel
theorem dX3_isInField_70 : decode cX3_isInField 70 = .ok (.ifCond .eq 7, 3) := by decide +kernel
theorem dX3_isInField_73 : decode cX3_isInField 73 = .ok (.iconst 1, 1) := by decide +kernel
theorem dX3_isInField_74 : decode cX3_isInField 74 = .ok (.goto 4, 3) := by decide +kernel
theorem dX3_isInField_77 : decode cX3_isInField 77 = .ok (.iconst 0, 1) := by decide +kernel
theorem dX3_isInField_78 : decode cX3_isInField 78 = .ok (.ireturn, 1) := by decide +kernel
set_option maxRecDepth 20000 in
theorem ggX3_letDown_X0_shape : GoodIn wsX3_letDown wsX0_shape := goodIn_r _ [14, 15, 16, 17, 18, 19, 20, 21, 22, 23, 24, 25, 64, 65, 66, 67, 68, 69, 70, 71, 46, 47, 48, 49, 50, 51, 52, 53, 54, 55, 56, 57, 58, 59, 60, 61, 62, 63] (by decide +kernel) (by decide +kernel)
set_option maxRecDepth 20000 in
theorem gX3_letDown_X0_shape : GoodIn wsX3_letDown (wsV RX3 250 RX0 yX0_shape wsX0_shape) := goodIn_app (goodIn_of _ (by decide +kernel)) ggX3_letDown_X0_shape
set_option maxRecDepth 20000 in
theorem ggX3_letDown_X3_topOf : GoodIn wsX3_letDown wsX3_topOf := goodIn_r _ [30, 31, 32, 33, 34, 35, 36, 37, 38, 39, 40, 41, 42, 43, 44, 45] (by decide +kernel) (by decide +kernel)
set_option maxRecDepth 20000 in
theorem gX3_letDown_X3_topOf : GoodIn wsX3_letDown (wsV RX3 124 RX3 yX3_topOf wsX3_topOf) := goodIn_app (goodIn_of _ (by decide +kernel)) ggX3_letDown_X3_topOf
theorem dX3_letDown_0 : decode cX3_letDown 0 = .ok (.aload_n 0, 1) := by decide +kernel
theorem dX3_letDown_1 : decode cX3_letDown 1 = .ok (.getfield 52, 3) := by decide +kernel
theorem dX3_letDown_4 : decode cX3_letDown 4 = .ok (.aload_n 1, 1) := by decide +kernel
theorem dX3_letDown_5 : decode cX3_letDown 5 = .ok (.iload 4, 2) := by decide +kernel
theorem dX3_letDown_7 : decode cX3_letDown 7 = .ok (.invokevirtual 250, 3) := by decide +kernel
theorem dX3_letDown_10 : decode cX3_letDown 10 = .ok (.aload_n 0, 1) := by decide +kernel
theorem dX3_letDown_11 : decode cX3_letDown 11 = .ok (.getfield 52, 3) := by decide +kernel
theorem dX3_letDown_14 : decode cX3_letDown 14 = .ok (.iload_n 2, 1) := by decide +kernel
theorem dX3_letDown_15 : decode cX3_letDown 15 = .ok (.putfield 182, 3) := by decide +kernel
theorem dX3_letDown_18 : decode cX3_letDown 18 = .ok (.aload_n 0, 1) := by decide +kernel
theorem dX3_letDown_19 : decode cX3_letDown 19 = .ok (.getfield 52, 3) := by decide +kernel
theorem dX3_letDown_22 : decode cX3_letDown 22 = .ok (.iload_n 3, 1) := by decide +kernel
theorem dX3_letDown_23 : decode cX3_letDown 23 = .ok (.putfield 176, 3) := by decide +kernel
theorem dX3_letDown_26 : decode cX3_letDown 26 = .ok (.iconst 0, 1) := by decide +kernel
theorem dX3_letDown_27 : decode cX3_letDown 27 = .ok (.istore 5, 2) := by decide +kernel
theorem dX3_letDown_29 : decode cX3_letDown 29 = .ok (.iconst 0, 1) := by decide +kernel
theorem dX3_letDown_30 : decode cX3_letDown 30 = .ok (.istore 6, 2) := by decide +kernel
theorem dX3_letDown_32 : decode cX3_letDown 32 = .ok (.iload_n 3, 1) := by decide +kernel
theorem dX3_letDown_33 : decode cX3_letDown 33 = .ok (.istore 7, 2) := by decide +kernel
theorem dX3_letDown_35 : decode cX3_letDown 35 = .ok (.iload 7, 2) := by decide +kernel
theorem dX3_letDown_37 : decode cX3_letDown 37 = .ok (.iload_n 3, 1) := by decide +kernel
theorem dX3_letDown_38 : decode cX3_letDown 38 = .ok (.aload_n 0, 1) := by decide +kernel
theorem dX3_letDown_39 : decode cX3_letDown 39 = .ok (.getfield 52, 3) := by decide +kernel
theorem dX3_letDown_42 : decode cX3_letDown 42 = .ok (.getfield 179, 3) := by decide +kernel
theorem dX3_letDown_45 : decode cX3_letDown 45 = .ok (.iadd, 1) := by decide +kernel
theorem dX3_letDown_46 : decode cX3_letDown 46 = .ok (.if_icmp .ge 69, 3) := by decide +kernel
theorem dX3_letDown_49 : decode cX3_letDown 49 = .ok (.iload_n 2, 1) := by decide +kernel
theorem dX3_letDown_50 : decode cX3_letDown 50 = .ok (.istore 8, 2) := by decide +kernel
theorem dX3_letDown_52 : decode cX3_letDown 52 = .ok (.iload 8, 2) := by decide +kernel
theorem dX3_letDown_54 : decode cX3_letDown 54 = .ok (.iload_n 2, 1) := by decide +kernel
theorem dX3_letDown_55 : decode cX3_letDown 55 = .ok (.aload_n 0, 1) := by decide +kernel
theorem dX3_letDown_56 : decode cX3_letDown 56 = .ok (.getfield 52, 3) := by decide +kernel
theorem dX3_letDown_59 : decode cX3_letDown 59 = .ok (.getfield 185, 3) := by decide +kernel
theorem dX3_letDown_62 : decode cX3_letDown 62 = .ok (.iadd, 1) := by decide +kernel
theorem dX3_letDown_63 : decode cX3_letDown 63 = .ok (.if_icmp .ge 46, 3) := by decide +kernel
theorem dX3_letDown_66 : decode cX3_letDown 66 = .ok (.aload_n 0, 1) := by decide +kernel
theorem dX3_letDown_67 : decode cX3_letDown 67 = .ok (.iload 8, 2) := by decide +kernel
theorem dX3_letDown_69 : decode cX3_letDown 69 = .ok (.iload 7, 2) := by decide +kernel
theorem dX3_letDown_71 : decode cX3_letDown 71 = .ok (.invokevirtual 124, 3) := by decide +kernel
theorem dX3_letDown_74 : decode cX3_letDown 74 = .ok (.istore 9, 2) := by decide +kernel
theorem dX3_letDown_76 : decode cX3_letDown 76 = .ok (.iload 9, 2) := by decide +kernel
theorem dX3_letDown_78 : decode cX3_letDown 78 = .ok (.iload 5, 2) := by decide +kernel
theorem dX3_letDown_80 : decode cX3_letDown 80 = .ok (.if_icmp .le 13, 3) := by decide +kernel
theorem dX3_letDown_83 : decode cX3_letDown 83 = .ok (.iload 9, 2) := by decide +kernel
theorem dX3_letDown_85 : decode cX3_letDown 85 = .ok (.istore 5, 2) := by decide +kernel
theorem dX3_letDown_87 : decode cX3_letDown 87 = .ok (.iconst 1, 1) := by decide +kernel
theorem dX3_letDown_88 : decode cX3_letDown 88 = .ok (.istore 6, 2) := by decide +kernel
theorem dX3_letDown_90 : decode cX3_letDown 90 = .ok (.goto 13, 3) := by decide +kernel
theorem dX3_letDown_93 : decode cX3_letDown 93 = .ok (.iload 9, 2) := by decide +kernel
theorem dX3_letDown_95 : decode cX3_letDown 95 = .ok (.iload 5, 2) := by decide +kernel
theorem dX3_letDown_97 : decode cX3_letDown 97 = .ok (.if_icmp .ne 6, 3) := by decide +kernel
theorem dX3_letDown_100 : decode cX3_letDown 100 = .ok (.iinc 6 1, 3) := by decide +kernel
theorem dX3_letDown_103 : decode cX3_letDown 103 = .ok (.iinc 8 1, 3) := by decide +kernel
theorem dX3_letDown_106 : decode cX3_letDown 106 = .ok (.goto (-54), 3) := by decide +kernel
theorem dX3_letDown_109 : decode cX3_letDown 109 = .ok (.iinc 7 1, 3) := by decide +kernel
theorem dX3_letDown_112 : decode cX3_letDown 112 = .ok (.goto (-77), 3) := by decide +kernel
theorem dX3_letDown_115 : decode cX3_letDown 115 = .ok (.aload_n 0, 1) := by decide +kernel
theorem dX3_letDown_116 : decode cX3_letDown 116 = .ok (.getfield 52, 3) := by decide +kernel
theorem dX3_letDown_119 : decode cX3_letDown 119 = .ok (.iload 5, 2) := by decide +kernel
theorem dX3_letDown_121 : decode cX3_letDown 121 = .ok (.putfield 131, 3) := by decide +kernel
theorem dX3_letDown_124 : decode cX3_letDown 124 = .ok (.aload_n 0, 1) := by decide +kernel
theorem dX3_letDown_125 : decode cX3_letDown 125 = .ok (.getfield 52, 3) := by decide +kernel
theorem dX3_letDown_128 : decode cX3_letDown 128 = .ok (.iload 5, 2) := by decide +kernel
theorem dX3_letDown_130 : decode cX3_letDown 130 = .ok (.aload_n 1, 1) := by decide +kernel
theorem dX3_letDown_131 : decode cX3_letDown 131 = .ok (.getfield 254, 3) := by decide +kernel
theorem dX3_letDown_134 : decode cX3_letDown 134 = .ok (.iadd, 1) := by decide +kernel
theorem dX3_letDown_135 : decode cX3_letDown 135 = .ok (.putfield 134, 3) := by decide +kernel
theorem dX3_letDown_138 : decode cX3_letDown 138 = .ok (.aload_n 0, 1) := by decide +kernel
theorem dX3_letDown_139 : decode cX3_letDown 139 = .ok (.getfield 52, 3) := by decide +kernel
theorem dX3_letDown_142 : decode cX3_letDown 142 = .ok (.iload 6, 2) := by decide +kernel
theorem dX3_letDown_144 : decode cX3_letDown 144 = .ok (.putfield 214, 3) := by decide +kernel
theorem dX3_letDown_147 : decode cX3_letDown 147 = .ok (.return_, 1) := by decide +kernel
set_option maxRecDepth 20000 in
theorem ggX3_findSupports_X3_itemOf : GoodIn wsX3_findSupports wsX3_itemOf := goodIn_r _ [10, 3, 11, 12, 36, 37, 38, 39, 40, 41, 42, 43, 44, 45, 46, 47, 48, 49, 50, 51, 52, 53, 54, 55, 56, 57, 58, 59, 60, 61, 62, 63, 64, 65, 66, 67] (by decide +kernel) (by decide +kernel)
set_option maxRecDepth 20000 in
theorem gX3_findSupports_X3_itemOf : GoodIn wsX3_findSupports (wsV RX3 96 RX3 yX3_itemOf wsX3_itemOf) := goodIn_app (goodIn_of _ (by decide +kernel)) ggX3_findSupports_X3_itemOf
set_option maxRecDepth 20000 in
theorem ggX3_findSupports_X0_cellsInCommon : GoodIn wsX3_findSupports wsX0_cellsInCommon := goodIn_r _ [17, 18, 19, 20, 21, 22, 23, 24, 25, 26, 27, 28, 50, 51, 52, 53, 54, 55, 56, 57, 58, 59, 60, 61, 62, 63, 64, 65, 66, 67] (by decide +kernel) (by decide +kernel)
set_option maxRecDepth 20000 in
theorem gX3_findSupports_X0_cellsInCommon : GoodIn wsX3_findSupports (wsV RX3 257 RX0 yX0_cellsInCommon wsX0_cellsInCommon) := goodIn_app (goodIn_of _ (by decide +kernel)) ggX3_findSupports_X0_cellsInCommon
set_option maxRecDepth 20000 in
theorem ggX3_findSupports_X0_addSupport : GoodIn wsX3_findSupports wsX0_addSupport := goodIn_r _ [32, 33, 34, 35, 50, 51, 52, 53, 54, 55, 56, 57, 58, 59, 60, 61, 62, 63, 64, 65, 66, 67] (by decide +kernel) (by decide +kernel)
set_option maxRecDepth 20000 in
theorem gX3_findSupports_X0_addSupport : GoodIn wsX3_findSupports (wsV RX3 260 RX0 yX0_addSupport wsX0_addSupport) := goodIn_app (goodIn_of _ (by decide +kernel)) ggX3_findSupports_X0_addSupport
theorem dX3_findSupports_0 : decode cX3_findSupports 0 = .ok (.aload_n 0, 1) := by decide +kernel
theorem dX3_findSupports_1 : decode cX3_findSupports 1 = .ok (.getfield 52, 3) := by decide +kernel
theorem dX3_findSupports_4 : decode cX3_findSupports 4 = .ok (.iconst 0, 1) := by decide +kernel
theorem dX3_findSupports_5 : decode cX3_findSupports 5 = .ok (.putfield 211, 3) := by decide +kernel
theorem dX3_findSupports_8 : decode cX3_findSupports 8 = .ok (.iconst 0, 1) := by decide +kernel
theorem dX3_findSupports_9 : decode cX3_findSupports 9 = .ok (.istore_n 1, 1) := by decide +kernel
theorem dX3_findSupports_10 : decode cX3_findSupports 10 = .ok (.iload_n 1, 1) := by decide +kernel
theorem dX3_findSupports_11 : decode cX3_findSupports 11 = .ok (.aload_n 0, 1) := by decide +kernel
theorem dX3_findSupports_12 : decode cX3_findSupports 12 = .ok (.getfield 38, 3) := by decide +kernel
theorem dX3_findSupports_15 : decode cX3_findSupports 15 = .ok (.if_icmp .ge 49, 3) := by decide +kernel
theorem dX3_findSupports_18 : decode cX3_findSupports 18 = .ok (.aload_n 0, 1) := by decide +kernel
theorem dX3_findSupports_19 : decode cX3_findSupports 19 = .ok (.iload_n 1, 1) := by decide +kernel
theorem dX3_findSupports_20 : decode cX3_findSupports 20 = .ok (.invokevirtual 96, 3) := by decide +kernel
theorem dX3_findSupports_23 : decode cX3_findSupports 23 = .ok (.astore_n 2, 1) := by decide +kernel
theorem dX3_findSupports_24 : decode cX3_findSupports 24 = .ok (.aload_n 2, 1) := by decide +kernel
theorem dX3_findSupports_25 : decode cX3_findSupports 25 = .ok (.ifnull 33, 3) := by decide +kernel
theorem dX3_findSupports_28 : decode cX3_findSupports 28 = .ok (.aload_n 2, 1) := by decide +kernel
theorem dX3_findSupports_29 : decode cX3_findSupports 29 = .ok (.getfield 134, 3) := by decide +kernel
theorem dX3_findSupports_32 : decode cX3_findSupports 32 = .ok (.aload_n 0, 1) := by decide +kernel
theorem dX3_findSupports_33 : decode cX3_findSupports 33 = .ok (.getfield 52, 3) := by decide +kernel
theorem dX3_findSupports_36 : decode cX3_findSupports 36 = .ok (.getfield 131, 3) := by decide +kernel
theorem dX3_findSupports_39 : decode cX3_findSupports 39 = .ok (.if_icmp .ne 19, 3) := by decide +kernel
theorem dX3_findSupports_42 : decode cX3_findSupports 42 = .ok (.aload_n 0, 1) := by decide +kernel
theorem dX3_findSupports_43 : decode cX3_findSupports 43 = .ok (.getfield 52, 3) := by decide +kernel
theorem dX3_findSupports_46 : decode cX3_findSupports 46 = .ok (.aload_n 2, 1) := by decide +kernel
theorem dX3_findSupports_47 : decode cX3_findSupports 47 = .ok (.aload_n 0, 1) := by decide +kernel
theorem dX3_findSupports_48 : decode cX3_findSupports 48 = .ok (.getfield 52, 3) := by decide +kernel
theorem dX3_findSupports_51 : decode cX3_findSupports 51 = .ok (.aload_n 2, 1) := by decide +kernel
theorem dX3_findSupports_52 : decode cX3_findSupports 52 = .ok (.invokevirtual 257, 3) := by decide +kernel
theorem dX3_findSupports_55 : decode cX3_findSupports 55 = .ok (.invokevirtual 260, 3) := by decide +kernel
theorem dX3_findSupports_58 : decode cX3_findSupports 58 = .ok (.iinc 1 1, 3) := by decide +kernel
theorem dX3_findSupports_61 : decode cX3_findSupports 61 = .ok (.goto (-51), 3) := by decide +kernel
theorem dX3_findSupports_64 : decode cX3_findSupports 64 = .ok (.return_, 1) := by decide +kernel
set_option maxRecDepth 20000 in
theorem ggX3_isGround_X3_topOf : GoodIn wsX3_isGround wsX3_topOf := goodIn_r _ [7, 8, 9, 10, 11, 12, 13, 14, 15, 16, 17, 18, 19, 20, 21, 22] (by decide +kernel) (by decide +kernel)
set_option maxRecDepth 20000 in
theorem gX3_isGround_X3_topOf : GoodIn wsX3_isGround (wsV RX3 124 RX3 yX3_topOf wsX3_topOf) := goodIn_app (goodIn_of _ (by decide +kernel)) ggX3_isGround_X3_topOf
theorem dX3_isGround_0 : decode cX3_isGround 0 = .ok (.aload_n 0, 1) := by decide +kernel
theorem dX3_isGround_1 : decode cX3_isGround 1 = .ok (.iload_n 1, 1) := by decide +kernel
theorem dX3_isGround_2 : decode cX3_isGround 2 = .ok (.iload_n 2, 1) := by decide +kernel
theorem dX3_isGround_3 : decode cX3_isGround 3 = .ok (.invokevirtual 124, 3) := by decide +kernel
theorem dX3_isGround_6 : decode cX3_isGround 6 = .ok (.aload_n 0, 1) := by decide +kernel
theorem dX3_isGround_7 : decode cX3_isGround 7 = .ok (.getfield 52, 3) := by decide +kernel
theorem dX3_isGround_10 : decode cX3_isGround 10 = .ok (.getfield 131, 3) := by decide +kernel
theorem dX3_isGround_13 : decode cX3_isGround 13 = .ok (.if_icmp .ne 7, 3) := by decide +kernel
theorem dX3_isGround_16 : decode cX3_isGround 16 = .ok (.iconst 1, 1) := by decide +kernel
theorem dX3_isGround_17 : decode cX3_isGround 17 = .ok (.goto 4, 3) := by decide +kernel
theorem dX3_isGround_20 : decode cX3_isGround 20 = .ok (.iconst 0, 1) := by decide +kernel
theorem dX3_isGround_21 : decode cX3_isGround 21 = .ok (.ireturn, 1) := by decide +kernel
set_option maxRecDepth 20000 in
theorem ggX3_hasGroundAtCorners_X3_isGround : GoodIn wsX3_hasGroundAtCorners wsX3_isGround := goodIn_r _ [10, 1, 11, 12, 13, 14, 9, 15, 16, 17, 18, 19, 20, 21, 22, 23, 24, 25, 26, 27, 28, 29, 30, 31, 32, 33, 34, 35, 36, 37, 38, 39, 40, 41, 42, 43, 44, 45, 46, 47, 48] (by decide +kernel) (by decide +kernel)
set_option maxRecDepth 20000 in
theorem gX3_hasGroundAtCorners_X3_isGround : GoodIn wsX3_hasGroundAtCorners (wsV RX3 264 RX3 yX3_isGround wsX3_isGround) := goodIn_app (goodIn_of _ (by decide +kernel)) ggX3_hasGroundAtCorners_X3_isGround
theorem dX3_hasGroundAtCorners_0 : decode cX3_hasGroundAtCorners 0 = .ok (.aload_n 0, 1) := by decide +kernel
theorem dX3_hasGroundAtCorners_1 : decode cX3_hasGroundAtCorners 1 = .ok (.getfield 52, 3) := by decide +kernel
theorem dX3_hasGroundAtCorners_4 : decode cX3_hasGroundAtCorners 4 = .ok (.getfield 182, 3) := by decide +kernel
theorem dX3_hasGroundAtCorners_7 : decode cX3_hasGroundAtCorners 7 = .ok (.aload_n 0, 1) := by decide +kernel
theorem dX3_hasGroundAtCorners_8 : decode cX3_hasGroundAtCorners 8 = .ok (.getfield 52, 3) := by decide +kernel
theorem dX3_hasGroundAtCorners_11 : decode cX3_hasGroundAtCorners 11 = .ok (.getfield 185, 3) := by decide +kernel
theorem dX3_hasGroundAtCorners_14 : decode cX3_hasGroundAtCorners 14 = .ok (.iadd, 1) := by decide +kernel
theorem dX3_hasGroundAtCorners_15 : decode cX3_hasGroundAtCorners 15 = .ok (.iconst 1, 1) := by decide +kernel
theorem dX3_hasGroundAtCorners_16 : decode cX3_hasGroundAtCorners 16 = .ok (.isub, 1) := by decide +kernel
theorem dX3_hasGroundAtCorners_17 : decode cX3_hasGroundAtCorners 17 = .ok (.istore_n 1, 1) := by decide +kernel
theorem dX3_hasGroundAtCorners_18 : decode cX3_hasGroundAtCorners 18 = .ok (.aload_n 0, 1) := by decide +kernel
theorem dX3_hasGroundAtCorners_19 : decode cX3_hasGroundAtCorners 19 = .ok (.getfield 52, 3) := by decide +kernel
theorem dX3_hasGroundAtCorners_22 : decode cX3_hasGroundAtCorners 22 = .ok (.getfield 176, 3) := by decide +kernel
theorem dX3_hasGroundAtCorners_25 : decode cX3_hasGroundAtCorners 25 = .ok (.aload_n 0, 1) := by decide +kernel
theorem dX3_hasGroundAtCorners_26 : decode cX3_hasGroundAtCorners 26 = .ok (.getfield 52, 3) := by decide +kernel
theorem dX3_hasGroundAtCorners_29 : decode cX3_hasGroundAtCorners 29 = .ok (.getfield 179, 3) := by decide +kernel
theorem dX3_hasGroundAtCorners_32 : decode cX3_hasGroundAtCorners 32 = .ok (.iadd, 1) := by decide +kernel
theorem dX3_hasGroundAtCorners_33 : decode cX3_hasGroundAtCorners 33 = .ok (.iconst 1, 1) := by decide +kernel
theorem dX3_hasGroundAtCorners_34 : decode cX3_hasGroundAtCorners 34 = .ok (.isub, 1) := by decide +kernel
theorem dX3_hasGroundAtCorners_35 : decode cX3_hasGroundAtCorners 35 = .ok (.istore_n 2, 1) := by decide +kernel
theorem dX3_hasGroundAtCorners_36 : decode cX3_hasGroundAtCorners 36 = .ok (.aload_n 0, 1) := by decide +kernel
theorem dX3_hasGroundAtCorners_37 : decode cX3_hasGroundAtCorners 37 = .ok (.aload_n 0, 1) := by decide +kernel
theorem dX3_hasGroundAtCorners_38 : decode cX3_hasGroundAtCorners 38 = .ok (.getfield 52, 3) := by decide +kernel
theorem dX3_hasGroundAtCorners_41 : decode cX3_hasGroundAtCorners 41 = .ok (.getfield 182, 3) := by decide +kernel
theorem dX3_hasGroundAtCorners_44 : decode cX3_hasGroundAtCorners 44 = .ok (.aload_n 0, 1) := by decide +kernel
theorem dX3_hasGroundAtCorners_45 : decode cX3_hasGroundAtCorners 45 = .ok (.getfield 52, 3) := by decide +kernel
theorem dX3_hasGroundAtCorners_48 : decode cX3_hasGroundAtCorners 48 = .ok (.getfield 176, 3) := by decide +kernel
theorem dX3_hasGroundAtCorners_51 : decode cX3_hasGroundAtCorners 51 = .ok (.invokevirtual 264, 3) := by decide +kernel
theorem dX3_hasGroundAtCorners_54 : decode cX3_hasGroundAtCorners 54 = .ok (.ifCond .eq 46, 3) := by decide +kernel
theorem dX3_hasGroundAtCorners_57 : decode cX3_hasGroundAtCorners 57 = .ok (.aload_n 0, 1) := by decide +kernel
theorem dX3_hasGroundAtCorners_58 : decode cX3_hasGroundAtCorners 58 = .ok (.iload_n 1, 1) := by decide +kernel
theorem dX3_hasGroundAtCorners_59 : decode cX3_hasGroundAtCorners 59 = .ok (.aload_n 0, 1) := by decide +kernel
theorem dX3_hasGroundAtCorners_60 : decode cX3_hasGroundAtCorners 60 = .ok (.getfield 52, 3) := by decide +kernel
theorem dX3_hasGroundAtCorners_63 : decode cX3_hasGroundAtCorners 63 = .ok (.getfield 176, 3) := by decide +kernel
theorem dX3_hasGroundAtCorners_66 : decode cX3_hasGroundAtCorners 66 = .ok (.invokevirtual 264, 3) := by decide +kernel
theorem dX3_hasGroundAtCorners_69 : decode cX3_hasGroundAtCorners 69 = .ok (.ifCond .eq 31, 3) := by decide +kernel
theorem dX3_hasGroundAtCorners_72 : decode cX3_hasGroundAtCorners 72 = .ok (.aload_n 0, 1) := by decide +kernel
theorem dX3_hasGroundAtCorners_73 : decode cX3_hasGroundAtCorners 73 = .ok (.aload_n 0, 1) := by decide +kernel
theorem dX3_hasGroundAtCorners_74 : decode cX3_hasGroundAtCorners 74 = .ok (.getfield 52, 3) := by decide +kernel
theorem dX3_hasGroundAtCorners_77 : decode cX3_hasGroundAtCorners 77 = .ok (.getfield 182, 3) := by decide +kernel
theorem dX3_hasGroundAtCorners_80 : decode cX3_hasGroundAtCorners 80 = .ok (.iload_n 2, 1) := by decide +kernel
theorem dX3_hasGroundAtCorners_81 : decode cX3_hasGroundAtCorners 81 = .ok (.invokevirtual 264, 3) := by decide +kernel
theorem dX3_hasGroundAtCorners_84 : decode cX3_hasGroundAtCorners 84 = .ok (.ifCond .eq 16, 3) := by decide +kernel
theorem dX3_hasGroundAtCorners_87 : decode cX3_hasGroundAtCorners 87 = .ok (.aload_n 0, 1) := by decide +kernel
theorem dX3_hasGroundAtCorners_88 : decode cX3_hasGroundAtCorners 88 = .ok (.iload_n 1, 1) := by decide +kernel
theorem dX3_hasGroundAtCorners_89 : decode cX3_hasGroundAtCorners 89 = .ok (.iload_n 2, 1) := by decide +kernel
theorem dX3_hasGroundAtCorners_90 : decode cX3_hasGroundAtCorners 90 = .ok (.invokevirtual 264, 3) := by decide +kernel
theorem dX3_hasGroundAtCorners_93 : decode cX3_hasGroundAtCorners 93 = .ok (.ifCond .eq 7, 3) := by decide +kernel
theorem dX3_hasGroundAtCorners_96 : decode cX3_hasGroundAtCorners 96 = .ok (.iconst 1, 1) := by decide +kernel
theorem dX3_hasGroundAtCorners_97 : decode cX3_hasGroundAtCorners 97 = .ok (.goto 4, 3) := by decide +kernel
theorem dX3_hasGroundAtCorners_100 : decode cX3_hasGroundAtCorners 100 = .ok (.iconst 0, 1) := by decide +kernel
theorem dX3_hasGroundAtCorners_101 : decode cX3_hasGroundAtCorners 101 = .ok (.ireturn, 1) := by decide +kernel
set_option maxRecDepth 20000 in
theorem ggX3_brokenRule_X0_cells : GoodIn wsX3_brokenRule wsX0_cells := goodIn_r _ [16, 17, 18, 100, 101, 102, 103, 104, 105, 106, 107, 108, 109, 110, 111, 112, 113, 114, 115, 116, 117] (by decide +kernel) (by decide +kernel)
set_option maxRecDepth 20000 in
theorem gX3_brokenRule_X0_cells : GoodIn wsX3_brokenRule (wsV RX3 188 RX0 yX0_cells wsX0_cells) := goodIn_app (goodIn_of _ (by decide +kernel)) ggX3_brokenRule_X0_cells
set_option maxRecDepth 20000 in
theorem ggX3_brokenRule_X3_hasGroundAtCorners : GoodIn wsX3_brokenRule wsX3_hasGroundAtCorners := goodIn_r _ [23, 1, 24, 25, 26, 27, 28, 29, 30, 22, 31, 5, 32, 33, 34, 35, 36, 86, 87, 88, 89, 90, 91, 92, 93, 94, 95, 96, 97, 98, 99, 100, 101, 102, 103, 104, 105, 106, 107, 108, 109, 110, 111, 112, 113, 114, 115, 116, 117] (by decide +kernel) (by decide +kernel)
set_option maxRecDepth 20000 in
theorem gX3_brokenRule_X3_hasGroundAtCorners : GoodIn wsX3_brokenRule (wsV RX3 270 RX3 yX3_hasGroundAtCorners wsX3_hasGroundAtCorners) := goodIn_app (goodIn_of _ (by decide +kernel)) ggX3_brokenRule_X3_hasGroundAtCorners
set_option maxRecDepth 20000 in
theorem ggX3_brokenRule_X3_findSupports : GoodIn wsX3_brokenRule wsX3_findSupports := goodIn_r _ [40, 1, 41, 42, 2, 5, 43, 44, 45, 22, 46, 47, 48, 49, 50, 51, 15, 52, 53, 17, 54, 55, 56, 57, 58, 59, 60, 61, 18, 62, 63, 64, 65, 66, 67, 68, 86, 87, 88, 89, 90, 91, 92, 93, 94, 95, 96, 97, 98, 99, 100, 101, 102, 103, 104, 105, 106, 107, 108, 109, 110, 111, 112, 113, 114, 115, 116, 117] (by decide +kernel) (by decide +kernel)
set_option maxRecDepth 20000 in
theorem gX3_brokenRule_X3_findSupports : GoodIn wsX3_brokenRule (wsV RX3 274 RX3 yX3_findSupports wsX3_findSupports) := goodIn_app (goodIn_of _ (by decide +kernel)) ggX3_brokenRule_X3_findSupports
set_option maxRecDepth 20000 in
theorem ggX3_brokenRule_X3_isTooMuchLoad : GoodIn wsX3_brokenRule wsX3_isTooMuchLoad := goodIn_r _ [72, 1, 73, 42, 74, 75, 76, 77, 22, 78, 43, 44, 45, 46, 47, 48, 79, 80, 81, 15, 82, 66, 67, 83, 84, 85, 68, 86, 87, 88, 89, 90, 91, 92, 93, 94, 95, 96, 97, 98, 99, 100, 101, 102, 103, 104, 105, 106, 107, 108, 109, 110, 111, 112, 113, 114, 115, 116, 117] (by decide +kernel) (by decide +kernel)
set_option maxRecDepth 20000 in
theorem gX3_brokenRule_X3_isTooMuchLoad : GoodIn wsX3_brokenRule (wsV RX3 277 RX3 yX3_isTooMuchLoad wsX3_isTooMuchLoad) := goodIn_app (goodIn_of _ (by decide +kernel)) ggX3_brokenRule_X3_isTooMuchLoad
theorem dX3_brokenRule_0 : decode cX3_brokenRule 0 = .ok (.aload_n 0, 1) := by decide +kernel
theorem dX3_brokenRule_1 : decode cX3_brokenRule 1 = .ok (.getfield 52, 3) := by decide +kernel
theorem dX3_brokenRule_4 : decode cX3_brokenRule 4 = .ok (.getfield 134, 3) := by decide +kernel
theorem dX3_brokenRule_7 : decode cX3_brokenRule 7 = .ok (.aload_n 0, 1) := by decide +kernel
theorem dX3_brokenRule_8 : decode cX3_brokenRule 8 = .ok (.getfield 19, 3) := by decide +kernel
theorem dX3_brokenRule_11 : decode cX3_brokenRule 11 = .ok (.if_icmp .le 5, 3) := by decide +kernel
theorem dX3_brokenRule_14 : decode cX3_brokenRule 14 = .ok (.iconst 2, 1) := by decide +kernel
theorem dX3_brokenRule_15 : decode cX3_brokenRule 15 = .ok (.ireturn, 1) := by decide +kernel
theorem dX3_brokenRule_16 : decode cX3_brokenRule 16 = .ok (.aload_n 1, 1) := by decide +kernel
theorem dX3_brokenRule_17 : decode cX3_brokenRule 17 = .ok (.getfield 267, 3) := by decide +kernel
theorem dX3_brokenRule_20 : decode cX3_brokenRule 20 = .ok (.ifCond .eq 15, 3) := by decide +kernel
theorem dX3_brokenRule_23 : decode cX3_brokenRule 23 = .ok (.aload_n 0, 1) := by decide +kernel
theorem dX3_brokenRule_24 : decode cX3_brokenRule 24 = .ok (.getfield 52, 3) := by decide +kernel
theorem dX3_brokenRule_27 : decode cX3_brokenRule 27 = .ok (.getfield 131, 3) := by decide +kernel
theorem dX3_brokenRule_30 : decode cX3_brokenRule 30 = .ok (.ifCond .le 5, 3) := by decide +kernel
theorem dX3_brokenRule_33 : decode cX3_brokenRule 33 = .ok (.iconst 3, 1) := by decide +kernel
theorem dX3_brokenRule_34 : decode cX3_brokenRule 34 = .ok (.ireturn, 1) := by decide +kernel
theorem dX3_brokenRule_35 : decode cX3_brokenRule 35 = .ok (.aload_n 0, 1) := by decide +kernel
theorem dX3_brokenRule_36 : decode cX3_brokenRule 36 = .ok (.getfield 52, 3) := by decide +kernel
theorem dX3_brokenRule_39 : decode cX3_brokenRule 39 = .ok (.getfield 214, 3) := by decide +kernel
theorem dX3_brokenRule_42 : decode cX3_brokenRule 42 = .ok (.bipush 100, 2) := by decide +kernel
theorem dX3_brokenRule_44 : decode cX3_brokenRule 44 = .ok (.imul, 1) := by decide +kernel
theorem dX3_brokenRule_45 : decode cX3_brokenRule 45 = .ok (.aload_n 0, 1) := by decide +kernel
theorem dX3_brokenRule_46 : decode cX3_brokenRule 46 = .ok (.getfield 52, 3) := by decide +kernel
theorem dX3_brokenRule_49 : decode cX3_brokenRule 49 = .ok (.invokevirtual 188, 3) := by decide +kernel
theorem dX3_brokenRule_52 : decode cX3_brokenRule 52 = .ok (.aload_n 0, 1) := by decide +kernel
theorem dX3_brokenRule_53 : decode cX3_brokenRule 53 = .ok (.getfield 22, 3) := by decide +kernel
theorem dX3_brokenRule_56 : decode cX3_brokenRule 56 = .ok (.imul, 1) := by decide +kernel
theorem dX3_brokenRule_57 : decode cX3_brokenRule 57 = .ok (.if_icmp .ge 5, 3) := by decide +kernel
theorem dX3_brokenRule_60 : decode cX3_brokenRule 60 = .ok (.iconst 4, 1) := by decide +kernel
theorem dX3_brokenRule_61 : decode cX3_brokenRule 61 = .ok (.ireturn, 1) := by decide +kernel
theorem dX3_brokenRule_62 : decode cX3_brokenRule 62 = .ok (.aload_n 0, 1) := by decide +kernel
theorem dX3_brokenRule_63 : decode cX3_brokenRule 63 = .ok (.getfield 28, 3) := by decide +kernel
theorem dX3_brokenRule_66 : decode cX3_brokenRule 66 = .ok (.ifCond .eq 22, 3) := by decide +kernel
theorem dX3_brokenRule_69 : decode cX3_brokenRule 69 = .ok (.aload_n 0, 1) := by decide +kernel
theorem dX3_brokenRule_70 : decode cX3_brokenRule 70 = .ok (.getfield 52, 3) := by decide +kernel
theorem dX3_brokenRule_73 : decode cX3_brokenRule 73 = .ok (.getfield 131, 3) := by decide +kernel
theorem dX3_brokenRule_76 : decode cX3_brokenRule 76 = .ok (.ifCond .le 12, 3) := by decide +kernel
theorem dX3_brokenRule_79 : decode cX3_brokenRule 79 = .ok (.aload_n 0, 1) := by decide +kernel
theorem dX3_brokenRule_80 : decode cX3_brokenRule 80 = .ok (.invokevirtual 270, 3) := by decide +kernel
theorem dX3_brokenRule_83 : decode cX3_brokenRule 83 = .ok (.ifCond .ne 5, 3) := by decide +kernel
theorem dX3_brokenRule_86 : decode cX3_brokenRule 86 = .ok (.iconst 5, 1) := by decide +kernel
theorem dX3_brokenRule_87 : decode cX3_brokenRule 87 = .ok (.ireturn, 1) := by decide +kernel
theorem dX3_brokenRule_88 : decode cX3_brokenRule 88 = .ok (.aload_n 0, 1) := by decide +kernel
theorem dX3_brokenRule_89 : decode cX3_brokenRule 89 = .ok (.invokevirtual 274, 3) := by decide +kernel
theorem dX3_brokenRule_92 : decode cX3_brokenRule 92 = .ok (.aload_n 0, 1) := by decide +kernel
theorem dX3_brokenRule_93 : decode cX3_brokenRule 93 = .ok (.invokevirtual 277, 3) := by decide +kernel
theorem dX3_brokenRule_96 : decode cX3_brokenRule 96 = .ok (.ifCond .eq 6, 3) := by decide +kernel
theorem dX3_brokenRule_99 : decode cX3_brokenRule 99 = .ok (.bipush 6, 2) := by decide +kernel
theorem dX3_brokenRule_101 : decode cX3_brokenRule 101 = .ok (.ireturn, 1) := by decide +kernel
theorem dX3_brokenRule_102 : decode cX3_brokenRule 102 = .ok (.aload_n 0, 1) := by decide +kernel
theorem dX3_brokenRule_103 : decode cX3_brokenRule 103 = .ok (.getfield 44, 3) := by decide +kernel
theorem dX3_brokenRule_106 : decode cX3_brokenRule 106 = .ok (.aload_n 0, 1) := by decide +kernel
theorem dX3_brokenRule_107 : decode cX3_brokenRule 107 = .ok (.getfield 52, 3) := by decide +kernel
theorem dX3_brokenRule_110 : decode cX3_brokenRule 110 = .ok (.getfield 107, 3) := by decide +kernel
theorem dX3_brokenRule_113 : decode cX3_brokenRule 113 = .ok (.iadd, 1) := by decide +kernel
theorem dX3_brokenRule_114 : decode cX3_brokenRule 114 = .ok (.aload_n 0, 1) := by decide +kernel
theorem dX3_brokenRule_115 : decode cX3_brokenRule 115 = .ok (.getfield 25, 3) := by decide +kernel
theorem dX3_brokenRule_118 : decode cX3_brokenRule 118 = .ok (.if_icmp .le 8, 3) := by decide +kernel
theorem dX3_brokenRule_121 : decode cX3_brokenRule 121 = .ok (.bipush 7, 2) := by decide +kernel
theorem dX3_brokenRule_123 : decode cX3_brokenRule 123 = .ok (.goto 4, 3) := by decide +kernel
theorem dX3_brokenRule_126 : decode cX3_brokenRule 126 = .ok (.iconst 0, 1) := by decide +kernel
theorem dX3_brokenRule_127 : decode cX3_brokenRule 127 = .ok (.ireturn, 1) := by decide +kernel
set_option maxRecDepth 20000 in
theorem ggX3_bestPlace_X3_xOf : GoodIn wsX3_bestPlace wsX3_xOf := goodIn_r _ [7] (by decide +kernel) (by decide +kernel)
set_option maxRecDepth 20000 in
theorem gX3_bestPlace_X3_xOf : GoodIn wsX3_bestPlace (va_wsS RX3 291 yX3_xOf wsX3_xOf) := goodIn_app (goodIn_of _ (by decide +kernel)) ggX3_bestPlace_X3_xOf
set_option maxRecDepth 20000 in
theorem ggX3_bestPlace_X3_yOf : GoodIn wsX3_bestPlace wsX3_yOf := goodIn_r _ [10] (by decide +kernel) (by decide +kernel)
set_option maxRecDepth 20000 in
theorem gX3_bestPlace_X3_yOf : GoodIn wsX3_bestPlace (va_wsS RX3 294 yX3_yOf wsX3_yOf) := goodIn_app (goodIn_of _ (by decide +kernel)) ggX3_bestPlace_X3_yOf
set_option maxRecDepth 20000 in
theorem ggX3_bestPlace_X3_isTurnedIn : GoodIn wsX3_bestPlace wsX3_isTurnedIn := goodIn_r _ [13] (by decide +kernel) (by decide +kernel)
set_option maxRecDepth 20000 in
theorem gX3_bestPlace_X3_isTurnedIn : GoodIn wsX3_bestPlace (va_wsS RX3 297 yX3_isTurnedIn wsX3_isTurnedIn) := goodIn_app (goodIn_of _ (by decide +kernel)) ggX3_bestPlace_X3_isTurnedIn
set_option maxRecDepth 20000 in
theorem ggX3_bestPlace_X3_isInField : GoodIn wsX3_bestPlace wsX3_isInField := goodIn_r _ [16, 17, 18, 19, 20, 21, 6, 22, 157, 158, 159, 160, 161, 162, 163, 164] (by decide +kernel) (by decide +kernel)
set_option maxRecDepth 20000 in
theorem gX3_bestPlace_X3_isInField : GoodIn wsX3_bestPlace (va_wsS RX3 280 yX3_isInField wsX3_isInField) := goodIn_app (goodIn_of _ (by decide +kernel)) ggX3_bestPlace_X3_isInField
set_option maxRecDepth 20000 in
theorem ggX3_bestPlace_X3_letDown : GoodIn wsX3_bestPlace wsX3_letDown := goodIn_r _ [26, 1, 27, 28, 29, 30, 2, 31, 32, 3, 33, 34, 35, 36, 37, 38, 39, 40, 41, 42, 43, 44, 45, 46, 47, 48, 49, 50, 51, 6, 52, 53, 125, 126, 127, 128, 129, 130, 131, 132, 133, 134, 135, 136, 137, 138, 139, 140, 141, 142, 143, 144, 145, 146, 147, 148, 149, 150, 151, 152, 153, 154, 155, 156, 157, 158, 159, 160, 161, 162, 163, 164] (by decide +kernel) (by decide +kernel)
set_option maxRecDepth 20000 in
theorem gX3_bestPlace_X3_letDown : GoodIn wsX3_bestPlace (wsV RX3 284 RX3 yX3_letDown wsX3_letDown) := goodIn_app (goodIn_of _ (by decide +kernel)) ggX3_bestPlace_X3_letDown
set_option maxRecDepth 20000 in
theorem ggX3_bestPlace_X3_brokenRule : GoodIn wsX3_bestPlace wsX3_brokenRule := goodIn_r _ [57, 1, 32, 58, 59, 2, 3, 60, 61, 62, 63, 64, 65, 66, 67, 36, 68, 47, 48, 69, 70, 71, 6, 72, 27, 30, 28, 29, 73, 74, 75, 76, 49, 50, 51, 52, 53, 77, 78, 79, 80, 81, 82, 83, 84, 85, 86, 87, 88, 89, 90, 91, 92, 93, 94, 95, 96, 97, 98, 99, 100, 101, 102, 103, 104, 105, 106, 107, 108, 109, 110, 111, 112, 113, 114, 115, 116, 117, 118, 119, 120, 121, 122, 123, 124, 41, 125, 126, 127, 128, 129, 130, 131, 132, 133, 134, 135, 136, 137, 138, 139, 140, 141, 142, 143, 144, 145, 146, 147, 148, 149, 150, 151, 152, 153, 154, 155, 156, 157, 158, 159, 160, 161, 162, 163, 164] (by decide +kernel) (by decide +kernel)
set_option maxRecDepth 20000 in
theorem gX3_bestPlace_X3_brokenRule : GoodIn wsX3_bestPlace (wsV RX3 288 RX3 yX3_brokenRule wsX3_brokenRule) := goodIn_app (goodIn_of _ (by decide +kernel)) ggX3_bestPlace_X3_brokenRule
theorem dX3_bestPlace_0 : decode cX3_bestPlace 0 = .ok (.iconst (-1), 1) := by decide +kernel
theorem dX3_bestPlace_1 : decode cX3_bestPlace 1 = .ok (.istore_n 2, 1) := by decide +kernel
theorem dX3_bestPlace_2 : decode cX3_bestPlace 2 = .ok (.iconst 0, 1) := by decide +kernel
theorem dX3_bestPlace_3 : decode cX3_bestPlace 3 = .ok (.istore_n 3, 1) := by decide +kernel
theorem dX3_bestPlace_4 : decode cX3_bestPlace 4 = .ok (.iconst 0, 1) := by decide +kernel
theorem dX3_bestPlace_5 : decode cX3_bestPlace 5 = .ok (.istore 4, 2) := by decide +kernel
theorem dX3_bestPlace_7 : decode cX3_bestPlace 7 = .ok (.iconst 0, 1) := by decide +kernel
theorem dX3_bestPlace_8 : decode cX3_bestPlace 8 = .ok (.istore 5, 2) := by decide +kernel
theorem dX3_bestPlace_10 : decode cX3_bestPlace 10 = .ok (.iload 5, 2) := by decide +kernel
theorem dX3_bestPlace_12 : decode cX3_bestPlace 12 = .ok (.sipush 240, 3) := by decide +kernel
theorem dX3_bestPlace_15 : decode cX3_bestPlace 15 = .ok (.if_icmp .ge 139, 3) := by decide +kernel
theorem dX3_bestPlace_18 : decode cX3_bestPlace 18 = .ok (.aload_n 1, 1) := by decide +kernel
theorem dX3_bestPlace_19 : decode cX3_bestPlace 19 = .ok (.iload 5, 2) := by decide +kernel
theorem dX3_bestPlace_21 : decode cX3_bestPlace 21 = .ok (.invokestatic 291, 3) := by decide +kernel
theorem dX3_bestPlace_24 : decode cX3_bestPlace 24 = .ok (.iload 5, 2) := by decide +kernel
theorem dX3_bestPlace_26 : decode cX3_bestPlace 26 = .ok (.invokestatic 294, 3) := by decide +kernel
theorem dX3_bestPlace_29 : decode cX3_bestPlace 29 = .ok (.iload 5, 2) := by decide +kernel
theorem dX3_bestPlace_31 : decode cX3_bestPlace 31 = .ok (.invokestatic 297, 3) := by decide +kernel
theorem dX3_bestPlace_34 : decode cX3_bestPlace 34 = .ok (.invokestatic 280, 3) := by decide +kernel
theorem dX3_bestPlace_37 : decode cX3_bestPlace 37 = .ok (.ifCond .ne 6, 3) := by decide +kernel
theorem dX3_bestPlace_40 : decode cX3_bestPlace 40 = .ok (.goto 108, 3) := by decide +kernel
theorem dX3_bestPlace_43 : decode cX3_bestPlace 43 = .ok (.aload_n 0, 1) := by decide +kernel
theorem dX3_bestPlace_44 : decode cX3_bestPlace 44 = .ok (.aload_n 1, 1) := by decide +kernel
theorem dX3_bestPlace_45 : decode cX3_bestPlace 45 = .ok (.iload 5, 2) := by decide +kernel
theorem dX3_bestPlace_47 : decode cX3_bestPlace 47 = .ok (.invokestatic 291, 3) := by decide +kernel
theorem dX3_bestPlace_50 : decode cX3_bestPlace 50 = .ok (.iload 5, 2) := by decide +kernel
theorem dX3_bestPlace_52 : decode cX3_bestPlace 52 = .ok (.invokestatic 294, 3) := by decide +kernel
theorem dX3_bestPlace_55 : decode cX3_bestPlace 55 = .ok (.iload 5, 2) := by decide +kernel
theorem dX3_bestPlace_57 : decode cX3_bestPlace 57 = .ok (.invokestatic 297, 3) := by decide +kernel
theorem dX3_bestPlace_60 : decode cX3_bestPlace 60 = .ok (.invokevirtual 284, 3) := by decide +kernel
theorem dX3_bestPlace_63 : decode cX3_bestPlace 63 = .ok (.iload_n 2, 1) := by decide +kernel
theorem dX3_bestPlace_64 : decode cX3_bestPlace 64 = .ok (.iconst (-1), 1) := by decide +kernel
theorem dX3_bestPlace_65 : decode cX3_bestPlace 65 = .ok (.if_icmp .eq 37, 3) := by decide +kernel
theorem dX3_bestPlace_68 : decode cX3_bestPlace 68 = .ok (.aload_n 0, 1) := by decide +kernel
theorem dX3_bestPlace_69 : decode cX3_bestPlace 69 = .ok (.getfield 52, 3) := by decide +kernel
theorem dX3_bestPlace_72 : decode cX3_bestPlace 72 = .ok (.getfield 131, 3) := by decide +kernel
theorem dX3_bestPlace_75 : decode cX3_bestPlace 75 = .ok (.iload_n 3, 1) := by decide +kernel
theorem dX3_bestPlace_76 : decode cX3_bestPlace 76 = .ok (.if_icmp .lt 26, 3) := by decide +kernel
theorem dX3_bestPlace_79 : decode cX3_bestPlace 79 = .ok (.aload_n 0, 1) := by decide +kernel
theorem dX3_bestPlace_80 : decode cX3_bestPlace 80 = .ok (.getfield 52, 3) := by decide +kernel
theorem dX3_bestPlace_83 : decode cX3_bestPlace 83 = .ok (.getfield 131, 3) := by decide +kernel
theorem dX3_bestPlace_86 : decode cX3_bestPlace 86 = .ok (.iload_n 3, 1) := by decide +kernel
theorem dX3_bestPlace_87 : decode cX3_bestPlace 87 = .ok (.if_icmp .ne 19, 3) := by decide +kernel
theorem dX3_bestPlace_90 : decode cX3_bestPlace 90 = .ok (.aload_n 0, 1) := by decide +kernel
theorem dX3_bestPlace_91 : decode cX3_bestPlace 91 = .ok (.getfield 52, 3) := by decide +kernel
theorem dX3_bestPlace_94 : decode cX3_bestPlace 94 = .ok (.getfield 214, 3) := by decide +kernel
theorem dX3_bestPlace_97 : decode cX3_bestPlace 97 = .ok (.iload 4, 2) := by decide +kernel
theorem dX3_bestPlace_99 : decode cX3_bestPlace 99 = .ok (.if_icmp .le 7, 3) := by decide +kernel
theorem dX3_bestPlace_102 : decode cX3_bestPlace 102 = .ok (.iconst 1, 1) := by decide +kernel
theorem dX3_bestPlace_103 : decode cX3_bestPlace 103 = .ok (.goto 4, 3) := by decide +kernel
theorem dX3_bestPlace_106 : decode cX3_bestPlace 106 = .ok (.iconst 0, 1) := by decide +kernel
theorem dX3_bestPlace_107 : decode cX3_bestPlace 107 = .ok (.istore 6, 2) := by decide +kernel
theorem dX3_bestPlace_109 : decode cX3_bestPlace 109 = .ok (.iload 6, 2) := by decide +kernel
theorem dX3_bestPlace_111 : decode cX3_bestPlace 111 = .ok (.ifCond .eq 37, 3) := by decide +kernel
theorem dX3_bestPlace_114 : decode cX3_bestPlace 114 = .ok (.aload_n 0, 1) := by decide +kernel
theorem dX3_bestPlace_115 : decode cX3_bestPlace 115 = .ok (.aload_n 1, 1) := by decide +kernel
theorem dX3_bestPlace_116 : decode cX3_bestPlace 116 = .ok (.invokevirtual 288, 3) := by decide +kernel
theorem dX3_bestPlace_119 : decode cX3_bestPlace 119 = .ok (.ifCond .ne 29, 3) := by decide +kernel
theorem dX3_bestPlace_122 : decode cX3_bestPlace 122 = .ok (.iload 5, 2) := by decide +kernel
theorem dX3_bestPlace_124 : decode cX3_bestPlace 124 = .ok (.istore_n 2, 1) := by decide +kernel
theorem dX3_bestPlace_125 : decode cX3_bestPlace 125 = .ok (.aload_n 0, 1) := by decide +kernel
theorem dX3_bestPlace_126 : decode cX3_bestPlace 126 = .ok (.getfield 52, 3) := by decide +kernel
theorem dX3_bestPlace_129 : decode cX3_bestPlace 129 = .ok (.getfield 131, 3) := by decide +kernel
theorem dX3_bestPlace_132 : decode cX3_bestPlace 132 = .ok (.istore_n 3, 1) := by decide +kernel
theorem dX3_bestPlace_133 : decode cX3_bestPlace 133 = .ok (.aload_n 0, 1) := by decide +kernel
theorem dX3_bestPlace_134 : decode cX3_bestPlace 134 = .ok (.getfield 52, 3) := by decide +kernel
theorem dX3_bestPlace_137 : decode cX3_bestPlace 137 = .ok (.getfield 214, 3) := by decide +kernel
theorem dX3_bestPlace_140 : decode cX3_bestPlace 140 = .ok (.istore 4, 2) := by decide +kernel
theorem dX3_bestPlace_142 : decode cX3_bestPlace 142 = .ok (.iload_n 3, 1) := by decide +kernel
theorem dX3_bestPlace_143 : decode cX3_bestPlace 143 = .ok (.ifCond .ne 5, 3) := by decide +kernel
theorem dX3_bestPlace_146 : decode cX3_bestPlace 146 = .ok (.iload_n 2, 1) := by decide +kernel
theorem dX3_bestPlace_147 : decode cX3_bestPlace 147 = .ok (.ireturn, 1) := by decide +kernel
theorem dX3_bestPlace_148 : decode cX3_bestPlace 148 = .ok (.iinc 5 1, 3) := by decide +kernel
theorem dX3_bestPlace_151 : decode cX3_bestPlace 151 = .ok (.goto (-141), 3) := by decide +kernel
theorem dX3_bestPlace_154 : decode cX3_bestPlace 154 = .ok (.iload_n 2, 1) := by decide +kernel
theorem dX3_bestPlace_155 : decode cX3_bestPlace 155 = .ok (.ireturn, 1) := by decide +kernel
theorem dX3_xOf_0 : decode cX3_xOf 0 = .ok (.iload_n 0, 1) := by decide +kernel
theorem dX3_xOf_1 : decode cX3_xOf 1 = .ok (.iconst 2, 1) := by decide +kernel
theorem dX3_xOf_2 : decode cX3_xOf 2 = .ok (.idiv, 1) := by decide +kernel
theorem dX3_xOf_3 : decode cX3_xOf 3 = .ok (.bipush 12, 2) := by decide +kernel
theorem dX3_xOf_5 : decode cX3_xOf 5 = .ok (.irem, 1) := by decide +kernel
theorem dX3_xOf_6 : decode cX3_xOf 6 = .ok (.ireturn, 1) := by decide +kernel
theorem dX3_yOf_0 : decode cX3_yOf 0 = .ok (.iload_n 0, 1) := by decide +kernel
theorem dX3_yOf_1 : decode cX3_yOf 1 = .ok (.iconst 2, 1) := by decide +kernel
theorem dX3_yOf_2 : decode cX3_yOf 2 = .ok (.idiv, 1) := by decide +kernel
theorem dX3_yOf_3 : decode cX3_yOf 3 = .ok (.bipush 12, 2) := by decide +kernel
theorem dX3_yOf_5 : decode cX3_yOf 5 = .ok (.idiv, 1) := by decide +kernel
theorem dX3_yOf_6 : decode cX3_yOf 6 = .ok (.ireturn, 1) := by decide +kernel
theorem dX3_isTurnedIn_0 : decode cX3_isTurnedIn 0 = .ok (.iload_n 0, 1) := by decide +kernel
theorem dX3_isTurnedIn_1 : decode cX3_isTurnedIn 1 = .ok (.iconst 2, 1) := by decide +kernel
theorem dX3_isTurnedIn_2 : decode cX3_isTurnedIn 2 = .ok (.irem, 1) := by decide +kernel
theorem dX3_isTurnedIn_3 : decode cX3_isTurnedIn 3 = .ok (.iconst 1, 1) := by decide +kernel
theorem dX3_isTurnedIn_4 : decode cX3_isTurnedIn 4 = .ok (.if_icmp .ne 7, 3) := by decide +kernel
theorem dX3_isTurnedIn_7 : decode cX3_isTurnedIn 7 = .ok (.iconst 1, 1) := by decide +kernel
theorem dX3_isTurnedIn_8 : decode cX3_isTurnedIn 8 = .ok (.goto 4, 3) := by decide +kernel
theorem dX3_isTurnedIn_11 : decode cX3_isTurnedIn 11 = .ok (.iconst 0, 1) := by decide +kernel
theorem dX3_isTurnedIn_12 : decode cX3_isTurnedIn 12 = .ok (.ireturn, 1) := by decide +kernel
set_option maxRecDepth 20000 in
theorem ggX3_putAtBest_X3_bestPlace : GoodIn wsX3_putAtBest wsX3_bestPlace := goodIn_r _ [6, 7, 8, 9, 10, 11, 5, 12, 13, 14, 15, 16, 17, 18, 19, 20, 21, 22, 23, 24, 25, 26, 27, 28, 29, 30, 31, 32, 33, 34, 35, 36, 37, 38, 39, 40, 41, 42, 43, 44, 45, 46, 47, 48, 49, 50, 51, 52, 53, 54, 55, 56, 57, 58, 59, 60, 61, 62, 63, 64, 65, 66, 67, 68, 69, 70, 71, 72, 73, 74, 75, 76, 77, 78, 79, 80, 81, 82, 83, 84, 85, 86, 1, 87, 88, 89, 90, 91, 92, 93, 94, 95, 96, 97, 98, 99, 100, 101, 102, 103, 104, 105, 106, 107, 108, 109, 110, 111, 112, 113, 114, 115, 116, 117, 118, 119, 120, 121, 122, 123, 124, 125, 126, 127, 128, 146, 147, 148, 149, 150, 151, 152, 153, 154, 155, 156, 157, 158, 159, 160, 161, 162, 163, 164, 165, 166, 167, 168, 169, 170, 171, 172, 173, 174, 175, 176, 177, 178, 179, 180, 181, 182, 183, 184, 185] (by decide +kernel) (by decide +kernel)
set_option maxRecDepth 20000 in
theorem gX3_putAtBest_X3_bestPlace : GoodIn wsX3_putAtBest (wsV RX3 141 RX3 yX3_bestPlace wsX3_bestPlace) := goodIn_app (goodIn_of _ (by decide +kernel)) ggX3_putAtBest_X3_bestPlace
set_option maxRecDepth 20000 in
theorem ggX3_putAtBest_X3_xOf : GoodIn wsX3_putAtBest wsX3_xOf := goodIn_r _ [12] (by decide +kernel) (by decide +kernel)
set_option maxRecDepth 20000 in
theorem gX3_putAtBest_X3_xOf : GoodIn wsX3_putAtBest (va_wsS RX3 291 yX3_xOf wsX3_xOf) := goodIn_app (goodIn_of _ (by decide +kernel)) ggX3_putAtBest_X3_xOf
set_option maxRecDepth 20000 in
theorem ggX3_putAtBest_X3_yOf : GoodIn wsX3_putAtBest wsX3_yOf := goodIn_r _ [15] (by decide +kernel) (by decide +kernel)
set_option maxRecDepth 20000 in
theorem gX3_putAtBest_X3_yOf : GoodIn wsX3_putAtBest (va_wsS RX3 294 yX3_yOf wsX3_yOf) := goodIn_app (goodIn_of _ (by decide +kernel)) ggX3_putAtBest_X3_yOf
set_option maxRecDepth 20000 in
theorem ggX3_putAtBest_X3_isTurnedIn : GoodIn wsX3_putAtBest wsX3_isTurnedIn := goodIn_r _ [18] (by decide +kernel) (by decide +kernel)
set_option maxRecDepth 20000 in
theorem gX3_putAtBest_X3_isTurnedIn : GoodIn wsX3_putAtBest (va_wsS RX3 297 yX3_isTurnedIn wsX3_isTurnedIn) := goodIn_app (goodIn_of _ (by decide +kernel)) ggX3_putAtBest_X3_isTurnedIn
set_option maxRecDepth 20000 in
theorem ggX3_putAtBest_X3_letDown : GoodIn wsX3_putAtBest wsX3_letDown := goodIn_r _ [31, 7, 32, 33, 34, 35, 8, 36, 37, 9, 38, 39, 40, 41, 42, 43, 44, 45, 46, 47, 48, 49, 50, 51, 52, 53, 54, 55, 56, 5, 57, 58, 146, 147, 148, 149, 150, 151, 152, 153, 154, 155, 156, 157, 158, 159, 160, 161, 162, 163, 164, 165, 166, 167, 168, 169, 170, 171, 172, 173, 174, 175, 176, 177, 178, 179, 180, 181, 182, 183, 184, 185] (by decide +kernel) (by decide +kernel)
set_option maxRecDepth 20000 in
theorem gX3_putAtBest_X3_letDown : GoodIn wsX3_putAtBest (wsV RX3 284 RX3 yX3_letDown wsX3_letDown) := goodIn_app (goodIn_of _ (by decide +kernel)) ggX3_putAtBest_X3_letDown
set_option maxRecDepth 20000 in
theorem ggX3_putAtBest_X3_putTrial : GoodIn wsX3_putAtBest wsX3_putTrial := goodIn_r _ [132, 1, 91, 7, 92, 133, 67, 68, 25, 26, 5, 27, 82, 83, 84, 85, 86, 37, 8, 87, 88, 89, 90, 93, 94, 95, 41, 96, 97, 52, 98, 99, 100, 101, 102, 103, 104, 105, 53, 106, 107, 108, 109, 110, 111, 112, 134, 135, 136, 137, 33, 34, 32, 35, 58, 138, 139, 140, 141, 142, 143, 144, 117, 145, 119, 120, 121, 122, 123, 124, 125, 126, 127, 128, 46, 146, 147, 148, 149, 150, 151, 152, 153, 154, 155, 156, 157, 158, 159, 160, 161, 162, 163, 164, 165, 166, 167, 168, 169, 170, 171, 172, 173, 174, 175, 176, 177] (by decide +kernel) (by decide +kernel)
set_option maxRecDepth 20000 in
theorem gX3_putAtBest_X3_putTrial : GoodIn wsX3_putAtBest (wsV RX3 93 RX3 yX3_putTrial wsX3_putTrial) := goodIn_app (goodIn_of _ (by decide +kernel)) ggX3_putAtBest_X3_putTrial
theorem dX3_putAtBest_0 : decode cX3_putAtBest 0 = .ok (.aload_n 0, 1) := by decide +kernel
theorem dX3_putAtBest_1 : decode cX3_putAtBest 1 = .ok (.getfield 38, 3) := by decide +kernel
theorem dX3_putAtBest_4 : decode cX3_putAtBest 4 = .ok (.bipush 60, 2) := by decide +kernel
theorem dX3_putAtBest_6 : decode cX3_putAtBest 6 = .ok (.if_icmp .lt 5, 3) := by decide +kernel
theorem dX3_putAtBest_9 : decode cX3_putAtBest 9 = .ok (.iconst 0, 1) := by decide +kernel
theorem dX3_putAtBest_10 : decode cX3_putAtBest 10 = .ok (.ireturn, 1) := by decide +kernel
theorem dX3_putAtBest_11 : decode cX3_putAtBest 11 = .ok (.aload_n 0, 1) := by decide +kernel
theorem dX3_putAtBest_12 : decode cX3_putAtBest 12 = .ok (.aload_n 1, 1) := by decide +kernel
theorem dX3_putAtBest_13 : decode cX3_putAtBest 13 = .ok (.invokevirtual 141, 3) := by decide +kernel
theorem dX3_putAtBest_16 : decode cX3_putAtBest 16 = .ok (.istore_n 2, 1) := by decide +kernel
theorem dX3_putAtBest_17 : decode cX3_putAtBest 17 = .ok (.iload_n 2, 1) := by decide +kernel
theorem dX3_putAtBest_18 : decode cX3_putAtBest 18 = .ok (.iconst (-1), 1) := by decide +kernel
theorem dX3_putAtBest_19 : decode cX3_putAtBest 19 = .ok (.if_icmp .ne 5, 3) := by decide +kernel
theorem dX3_putAtBest_22 : decode cX3_putAtBest 22 = .ok (.iconst 0, 1) := by decide +kernel
theorem dX3_putAtBest_23 : decode cX3_putAtBest 23 = .ok (.ireturn, 1) := by decide +kernel
theorem dX3_putAtBest_24 : decode cX3_putAtBest 24 = .ok (.aload_n 0, 1) := by decide +kernel
theorem dX3_putAtBest_25 : decode cX3_putAtBest 25 = .ok (.aload_n 1, 1) := by decide +kernel
theorem dX3_putAtBest_26 : decode cX3_putAtBest 26 = .ok (.iload_n 2, 1) := by decide +kernel
theorem dX3_putAtBest_27 : decode cX3_putAtBest 27 = .ok (.invokestatic 291, 3) := by decide +kernel
theorem dX3_putAtBest_30 : decode cX3_putAtBest 30 = .ok (.iload_n 2, 1) := by decide +kernel
theorem dX3_putAtBest_31 : decode cX3_putAtBest 31 = .ok (.invokestatic 294, 3) := by decide +kernel
theorem dX3_putAtBest_34 : decode cX3_putAtBest 34 = .ok (.iload_n 2, 1) := by decide +kernel
theorem dX3_putAtBest_35 : decode cX3_putAtBest 35 = .ok (.invokestatic 297, 3) := by decide +kernel
theorem dX3_putAtBest_38 : decode cX3_putAtBest 38 = .ok (.invokevirtual 284, 3) := by decide +kernel
theorem dX3_putAtBest_41 : decode cX3_putAtBest 41 = .ok (.aload_n 0, 1) := by decide +kernel
theorem dX3_putAtBest_42 : decode cX3_putAtBest 42 = .ok (.invokevirtual 93, 3) := by decide +kernel
theorem dX3_putAtBest_45 : decode cX3_putAtBest 45 = .ok (.iconst 1, 1) := by decide +kernel
theorem dX3_putAtBest_46 : decode cX3_putAtBest 46 = .ok (.ireturn, 1) := by decide +kernel
set_option maxRecDepth 20000 in
theorem ggX3_putTrial_X3_isWithin : GoodIn wsX3_putTrial wsX3_isWithin := goodIn_r _ [11] (by decide +kernel) (by decide +kernel)
set_option maxRecDepth 20000 in
theorem gX3_putTrial_X3_isWithin : GoodIn wsX3_putTrial (va_wsS RX3 65 yX3_isWithin wsX3_isWithin) := goodIn_app (goodIn_of _ (by decide +kernel)) ggX3_putTrial_X3_isWithin
set_option maxRecDepth 20000 in
theorem ggX3_putTrial_X3_findSupports : GoodIn wsX3_putTrial wsX3_findSupports := goodIn_r _ [15, 3, 16, 1, 17, 18, 19, 20, 21, 10, 22, 2, 4, 23, 24, 25, 26, 27, 28, 29, 30, 31, 32, 33, 34, 35, 36, 37, 38, 39, 40, 41, 42, 43, 44, 45, 75, 76, 77, 78, 79, 80, 81, 82, 83, 84, 85, 86, 87, 88, 89, 90, 91, 92, 93, 94, 95, 96, 97, 98, 99, 100, 101, 102, 103, 104, 105, 106] (by decide +kernel) (by decide +kernel)
set_option maxRecDepth 20000 in
theorem gX3_putTrial_X3_findSupports : GoodIn wsX3_putTrial (wsV RX3 274 RX3 yX3_findSupports wsX3_findSupports) := goodIn_app (goodIn_of _ (by decide +kernel)) ggX3_putTrial_X3_findSupports
set_option maxRecDepth 20000 in
theorem ggX3_putTrial_X3_layTop : GoodIn wsX3_putTrial wsX3_layTop := goodIn_r _ [49, 50, 51, 52, 53, 54, 17, 55, 56, 10, 57, 8, 9, 11, 89, 90, 91, 92, 93, 94, 95, 96, 97, 98, 99, 100, 101, 102, 103, 104, 105, 106, 75, 76, 77, 78, 79, 80, 81, 82, 83, 84, 85, 86, 87, 88] (by decide +kernel) (by decide +kernel)
set_option maxRecDepth 20000 in
theorem gX3_putTrial_X3_layTop : GoodIn wsX3_putTrial (wsV RX3 301 RX3 yX3_layTop wsX3_layTop) := goodIn_app (goodIn_of _ (by decide +kernel)) ggX3_putTrial_X3_layTop
set_option maxRecDepth 20000 in
theorem ggX3_putTrial_X3_settleLoads : GoodIn wsX3_putTrial wsX3_settleLoads := goodIn_r _ [61, 1, 62, 63, 64, 65, 66, 10, 67, 19, 20, 21, 22, 2, 4, 68, 69, 70, 26, 71, 43, 44, 72, 73, 74, 45, 75, 76, 77, 78, 79, 80, 81, 82, 83, 84, 85, 86, 87, 88, 89, 90, 91, 92, 93, 94, 95, 96, 97, 98, 99, 100, 101, 102, 103, 104, 105, 106] (by decide +kernel) (by decide +kernel)
set_option maxRecDepth 20000 in
theorem gX3_putTrial_X3_settleLoads : GoodIn wsX3_putTrial (wsV RX3 113 RX3 yX3_settleLoads wsX3_settleLoads) := goodIn_app (goodIn_of _ (by decide +kernel)) ggX3_putTrial_X3_settleLoads
theorem dX3_putTrial_0 : decode cX3_putTrial 0 = .ok (.aload_n 0, 1) := by decide +kernel
theorem dX3_putTrial_1 : decode cX3_putTrial 1 = .ok (.getfield 38, 3) := by decide +kernel
theorem dX3_putTrial_4 : decode cX3_putTrial 4 = .ok (.istore_n 1, 1) := by decide +kernel
theorem dX3_putTrial_5 : decode cX3_putTrial 5 = .ok (.iload_n 1, 1) := by decide +kernel
theorem dX3_putTrial_6 : decode cX3_putTrial 6 = .ok (.iconst 0, 1) := by decide +kernel
theorem dX3_putTrial_7 : decode cX3_putTrial 7 = .ok (.bipush 59, 2) := by decide +kernel
theorem dX3_putTrial_9 : decode cX3_putTrial 9 = .ok (.invokestatic 65, 3) := by decide +kernel
theorem dX3_putTrial_12 : decode cX3_putTrial 12 = .ok (.ifCond .eq 12, 3) := by decide +kernel
theorem dX3_putTrial_15 : decode cX3_putTrial 15 = .ok (.aload_n 0, 1) := by decide +kernel
theorem dX3_putTrial_16 : decode cX3_putTrial 16 = .ok (.getfield 34, 3) := by decide +kernel
theorem dX3_putTrial_19 : decode cX3_putTrial 19 = .ok (.iload_n 1, 1) := by decide +kernel
theorem dX3_putTrial_20 : decode cX3_putTrial 20 = .ok (.aaload, 1) := by decide +kernel
theorem dX3_putTrial_21 : decode cX3_putTrial 21 = .ok (.goto 4, 3) := by decide +kernel
theorem dX3_putTrial_24 : decode cX3_putTrial 24 = .ok (.aconst_null, 1) := by decide +kernel
theorem dX3_putTrial_25 : decode cX3_putTrial 25 = .ok (.astore_n 2, 1) := by decide +kernel
theorem dX3_putTrial_26 : decode cX3_putTrial 26 = .ok (.aload_n 2, 1) := by decide +kernel
theorem dX3_putTrial_27 : decode cX3_putTrial 27 = .ok (.ifnonnull 4, 3) := by decide +kernel
theorem dX3_putTrial_30 : decode cX3_putTrial 30 = .ok (.return_, 1) := by decide +kernel
theorem dX3_putTrial_31 : decode cX3_putTrial 31 = .ok (.aload_n 0, 1) := by decide +kernel
theorem dX3_putTrial_32 : decode cX3_putTrial 32 = .ok (.invokevirtual 274, 3) := by decide +kernel
theorem dX3_putTrial_35 : decode cX3_putTrial 35 = .ok (.aload_n 0, 1) := by decide +kernel
theorem dX3_putTrial_36 : decode cX3_putTrial 36 = .ok (.getfield 52, 3) := by decide +kernel
theorem dX3_putTrial_39 : decode cX3_putTrial 39 = .ok (.astore_n 3, 1) := by decide +kernel
theorem dX3_putTrial_40 : decode cX3_putTrial 40 = .ok (.aload_n 0, 1) := by decide +kernel
theorem dX3_putTrial_41 : decode cX3_putTrial 41 = .ok (.aload_n 2, 1) := by decide +kernel
theorem dX3_putTrial_42 : decode cX3_putTrial 42 = .ok (.putfield 52, 3) := by decide +kernel
theorem dX3_putTrial_45 : decode cX3_putTrial 45 = .ok (.aload_n 0, 1) := by decide +kernel
theorem dX3_putTrial_46 : decode cX3_putTrial 46 = .ok (.getfield 34, 3) := by decide +kernel
theorem dX3_putTrial_49 : decode cX3_putTrial 49 = .ok (.iload_n 1, 1) := by decide +kernel
theorem dX3_putTrial_50 : decode cX3_putTrial 50 = .ok (.aload_n 3, 1) := by decide +kernel
theorem dX3_putTrial_51 : decode cX3_putTrial 51 = .ok (.aastore, 1) := by decide +kernel
theorem dX3_putTrial_52 : decode cX3_putTrial 52 = .ok (.aload_n 3, 1) := by decide +kernel
theorem dX3_putTrial_53 : decode cX3_putTrial 53 = .ok (.iconst 1, 1) := by decide +kernel
theorem dX3_putTrial_54 : decode cX3_putTrial 54 = .ok (.putfield 104, 3) := by decide +kernel
theorem dX3_putTrial_57 : decode cX3_putTrial 57 = .ok (.aload_n 0, 1) := by decide +kernel
theorem dX3_putTrial_58 : decode cX3_putTrial 58 = .ok (.iload_n 1, 1) := by decide +kernel
theorem dX3_putTrial_59 : decode cX3_putTrial 59 = .ok (.iconst 1, 1) := by decide +kernel
theorem dX3_putTrial_60 : decode cX3_putTrial 60 = .ok (.iadd, 1) := by decide +kernel
theorem dX3_putTrial_61 : decode cX3_putTrial 61 = .ok (.putfield 38, 3) := by decide +kernel
theorem dX3_putTrial_64 : decode cX3_putTrial 64 = .ok (.aload_n 0, 1) := by decide +kernel
theorem dX3_putTrial_65 : decode cX3_putTrial 65 = .ok (.dup, 1) := by decide +kernel
theorem dX3_putTrial_66 : decode cX3_putTrial 66 = .ok (.getfield 41, 3) := by decide +kernel
theorem dX3_putTrial_69 : decode cX3_putTrial 69 = .ok (.iconst 1, 1) := by decide +kernel
theorem dX3_putTrial_70 : decode cX3_putTrial 70 = .ok (.iadd, 1) := by decide +kernel
theorem dX3_putTrial_71 : decode cX3_putTrial 71 = .ok (.putfield 41, 3) := by decide +kernel
theorem dX3_putTrial_74 : decode cX3_putTrial 74 = .ok (.aload_n 0, 1) := by decide +kernel
theorem dX3_putTrial_75 : decode cX3_putTrial 75 = .ok (.dup, 1) := by decide +kernel
theorem dX3_putTrial_76 : decode cX3_putTrial 76 = .ok (.getfield 44, 3) := by decide +kernel
theorem dX3_putTrial_79 : decode cX3_putTrial 79 = .ok (.aload_n 3, 1) := by decide +kernel
theorem dX3_putTrial_80 : decode cX3_putTrial 80 = .ok (.getfield 107, 3) := by decide +kernel
theorem dX3_putTrial_83 : decode cX3_putTrial 83 = .ok (.iadd, 1) := by decide +kernel
theorem dX3_putTrial_84 : decode cX3_putTrial 84 = .ok (.putfield 44, 3) := by decide +kernel
theorem dX3_putTrial_87 : decode cX3_putTrial 87 = .ok (.aload_n 0, 1) := by decide +kernel
theorem dX3_putTrial_88 : decode cX3_putTrial 88 = .ok (.aload_n 3, 1) := by decide +kernel
theorem dX3_putTrial_89 : decode cX3_putTrial 89 = .ok (.invokevirtual 301, 3) := by decide +kernel
theorem dX3_putTrial_92 : decode cX3_putTrial 92 = .ok (.aload_n 0, 1) := by decide +kernel
theorem dX3_putTrial_93 : decode cX3_putTrial 93 = .ok (.invokevirtual 113, 3) := by decide +kernel
theorem dX3_putTrial_96 : decode cX3_putTrial 96 = .ok (.return_, 1) := by decide +kernel
set_option maxRecDepth 20000 in
theorem ggX3_layTop_X3_isCell : GoodIn wsX3_layTop wsX3_isCell := goodIn_r _ [10, 11, 12, 9, 13] (by decide +kernel) (by decide +kernel)
set_option maxRecDepth 20000 in
theorem gX3_layTop_X3_isCell : GoodIn wsX3_layTop (va_wsS RX3 120 yX3_isCell wsX3_isCell) := goodIn_app (goodIn_of _ (by decide +kernel)) ggX3_layTop_X3_isCell
theorem dX3_layTop_0 : decode cX3_layTop 0 = .ok (.aload_n 1, 1) := by decide +kernel
theorem dX3_layTop_1 : decode cX3_layTop 1 = .ok (.getfield 176, 3) := by decide +kernel
theorem dX3_layTop_4 : decode cX3_layTop 4 = .ok (.istore_n 2, 1) := by decide +kernel
theorem dX3_layTop_5 : decode cX3_layTop 5 = .ok (.iload_n 2, 1) := by decide +kernel
theorem dX3_layTop_6 : decode cX3_layTop 6 = .ok (.aload_n 1, 1) := by decide +kernel
theorem dX3_layTop_7 : decode cX3_layTop 7 = .ok (.getfield 176, 3) := by decide +kernel
theorem dX3_layTop_10 : decode cX3_layTop 10 = .ok (.aload_n 1, 1) := by decide +kernel
theorem dX3_layTop_11 : decode cX3_layTop 11 = .ok (.getfield 179, 3) := by decide +kernel
theorem dX3_layTop_14 : decode cX3_layTop 14 = .ok (.iadd, 1) := by decide +kernel
theorem dX3_layTop_15 : decode cX3_layTop 15 = .ok (.if_icmp .ge 74, 3) := by decide +kernel
theorem dX3_layTop_18 : decode cX3_layTop 18 = .ok (.aload_n 1, 1) := by decide +kernel
theorem dX3_layTop_19 : decode cX3_layTop 19 = .ok (.getfield 182, 3) := by decide +kernel
theorem dX3_layTop_22 : decode cX3_layTop 22 = .ok (.istore_n 3, 1) := by decide +kernel
theorem dX3_layTop_23 : decode cX3_layTop 23 = .ok (.iload_n 3, 1) := by decide +kernel
theorem dX3_layTop_24 : decode cX3_layTop 24 = .ok (.aload_n 1, 1) := by decide +kernel
theorem dX3_layTop_25 : decode cX3_layTop 25 = .ok (.getfield 182, 3) := by decide +kernel
theorem dX3_layTop_28 : decode cX3_layTop 28 = .ok (.aload_n 1, 1) := by decide +kernel
theorem dX3_layTop_29 : decode cX3_layTop 29 = .ok (.getfield 185, 3) := by decide +kernel
theorem dX3_layTop_32 : decode cX3_layTop 32 = .ok (.iadd, 1) := by decide +kernel
theorem dX3_layTop_33 : decode cX3_layTop 33 = .ok (.if_icmp .ge 50, 3) := by decide +kernel
theorem dX3_layTop_36 : decode cX3_layTop 36 = .ok (.iload_n 3, 1) := by decide +kernel
theorem dX3_layTop_37 : decode cX3_layTop 37 = .ok (.iload_n 2, 1) := by decide +kernel
theorem dX3_layTop_38 : decode cX3_layTop 38 = .ok (.invokestatic 120, 3) := by decide +kernel
theorem dX3_layTop_41 : decode cX3_layTop 41 = .ok (.ifCond .eq 36, 3) := by decide +kernel
theorem dX3_layTop_44 : decode cX3_layTop 44 = .ok (.aload_n 0, 1) := by decide +kernel
theorem dX3_layTop_45 : decode cX3_layTop 45 = .ok (.getfield 47, 3) := by decide +kernel
theorem dX3_layTop_48 : decode cX3_layTop 48 = .ok (.iload_n 2, 1) := by decide +kernel
theorem dX3_layTop_49 : decode cX3_layTop 49 = .ok (.bipush 12, 2) := by decide +kernel
theorem dX3_layTop_51 : decode cX3_layTop 51 = .ok (.imul, 1) := by decide +kernel
theorem dX3_layTop_52 : decode cX3_layTop 52 = .ok (.iload_n 3, 1) := by decide +kernel
theorem dX3_layTop_53 : decode cX3_layTop 53 = .ok (.iadd, 1) := by decide +kernel
theorem dX3_layTop_54 : decode cX3_layTop 54 = .ok (.iaload, 1) := by decide +kernel
theorem dX3_layTop_55 : decode cX3_layTop 55 = .ok (.aload_n 1, 1) := by decide +kernel
theorem dX3_layTop_56 : decode cX3_layTop 56 = .ok (.getfield 134, 3) := by decide +kernel
theorem dX3_layTop_59 : decode cX3_layTop 59 = .ok (.if_icmp .ge 18, 3) := by decide +kernel
theorem dX3_layTop_62 : decode cX3_layTop 62 = .ok (.aload_n 0, 1) := by decide +kernel
theorem dX3_layTop_63 : decode cX3_layTop 63 = .ok (.getfield 47, 3) := by decide +kernel
theorem dX3_layTop_66 : decode cX3_layTop 66 = .ok (.iload_n 2, 1) := by decide +kernel
theorem dX3_layTop_67 : decode cX3_layTop 67 = .ok (.bipush 12, 2) := by decide +kernel
theorem dX3_layTop_69 : decode cX3_layTop 69 = .ok (.imul, 1) := by decide +kernel
theorem dX3_layTop_70 : decode cX3_layTop 70 = .ok (.iload_n 3, 1) := by decide +kernel
theorem dX3_layTop_71 : decode cX3_layTop 71 = .ok (.iadd, 1) := by decide +kernel
theorem dX3_layTop_72 : decode cX3_layTop 72 = .ok (.aload_n 1, 1) := by decide +kernel
theorem dX3_layTop_73 : decode cX3_layTop 73 = .ok (.getfield 134, 3) := by decide +kernel
theorem dX3_layTop_76 : decode cX3_layTop 76 = .ok (.iastore, 1) := by decide +kernel
theorem dX3_layTop_77 : decode cX3_layTop 77 = .ok (.iinc 3 1, 3) := by decide +kernel
theorem dX3_layTop_80 : decode cX3_layTop 80 = .ok (.goto (-57), 3) := by decide +kernel
theorem dX3_layTop_83 : decode cX3_layTop 83 = .ok (.iinc 2 1, 3) := by decide +kernel
theorem dX3_layTop_86 : decode cX3_layTop 86 = .ok (.goto (-81), 3) := by decide +kernel
theorem dX3_layTop_89 : decode cX3_layTop 89 = .ok (.return_, 1) := by decide +kernel
set_option maxRecDepth 20000 in
theorem ggX3_nextLine_X3_lineOf : GoodIn wsX3_nextLine wsX3_lineOf := goodIn_r _ [9, 1, 10, 11, 12, 8, 13, 22, 23, 24, 25, 26, 27, 28, 29, 30, 31, 32, 33, 34, 35] (by decide +kernel) (by decide +kernel)
set_option maxRecDepth 20000 in
theorem gX3_nextLine_X3_lineOf : GoodIn wsX3_nextLine (wsV RX3 152 RX3 yX3_lineOf wsX3_lineOf) := goodIn_app (goodIn_of _ (by decide +kernel)) ggX3_nextLine_X3_lineOf
set_option maxRecDepth 20000 in
theorem ggX3_nextLine_X1_comesBefore : GoodIn wsX3_nextLine wsX1_comesBefore := goodIn_r _ [18, 19, 20, 21, 39, 40, 41, 42, 43, 44, 45, 46] (by decide +kernel) (by decide +kernel)
set_option maxRecDepth 20000 in
theorem gX3_nextLine_X1_comesBefore : GoodIn wsX3_nextLine (wsV RX3 305 RX1 yX1_comesBefore wsX1_comesBefore) := goodIn_app (goodIn_of _ (by decide +kernel)) ggX3_nextLine_X1_comesBefore
theorem dX3_nextLine_0 : decode cX3_nextLine 0 = .ok (.aconst_null, 1) := by decide +kernel
theorem dX3_nextLine_1 : decode cX3_nextLine 1 = .ok (.astore_n 1, 1) := by decide +kernel
theorem dX3_nextLine_2 : decode cX3_nextLine 2 = .ok (.iconst 0, 1) := by decide +kernel
theorem dX3_nextLine_3 : decode cX3_nextLine 3 = .ok (.istore_n 2, 1) := by decide +kernel
theorem dX3_nextLine_4 : decode cX3_nextLine 4 = .ok (.iload_n 2, 1) := by decide +kernel
theorem dX3_nextLine_5 : decode cX3_nextLine 5 = .ok (.aload_n 0, 1) := by decide +kernel
theorem dX3_nextLine_6 : decode cX3_nextLine 6 = .ok (.getfield 62, 3) := by decide +kernel
theorem dX3_nextLine_9 : decode cX3_nextLine 9 = .ok (.if_icmp .ge 53, 3) := by decide +kernel
theorem dX3_nextLine_12 : decode cX3_nextLine 12 = .ok (.aload_n 0, 1) := by decide +kernel
theorem dX3_nextLine_13 : decode cX3_nextLine 13 = .ok (.iload_n 2, 1) := by decide +kernel
theorem dX3_nextLine_14 : decode cX3_nextLine 14 = .ok (.invokevirtual 152, 3) := by decide +kernel
theorem dX3_nextLine_17 : decode cX3_nextLine 17 = .ok (.astore_n 3, 1) := by decide +kernel
theorem dX3_nextLine_18 : decode cX3_nextLine 18 = .ok (.aload_n 3, 1) := by decide +kernel
theorem dX3_nextLine_19 : decode cX3_nextLine 19 = .ok (.ifnull 37, 3) := by decide +kernel
theorem dX3_nextLine_22 : decode cX3_nextLine 22 = .ok (.aload_n 3, 1) := by decide +kernel
theorem dX3_nextLine_23 : decode cX3_nextLine 23 = .ok (.getfield 167, 3) := by decide +kernel
theorem dX3_nextLine_26 : decode cX3_nextLine 26 = .ok (.ifCond .le 30, 3) := by decide +kernel
theorem dX3_nextLine_29 : decode cX3_nextLine 29 = .ok (.aload_n 3, 1) := by decide +kernel
theorem dX3_nextLine_30 : decode cX3_nextLine 30 = .ok (.getfield 156, 3) := by decide +kernel
theorem dX3_nextLine_33 : decode cX3_nextLine 33 = .ok (.ifCond .ne 23, 3) := by decide +kernel
theorem dX3_nextLine_36 : decode cX3_nextLine 36 = .ok (.aload_n 1, 1) := by decide +kernel
theorem dX3_nextLine_37 : decode cX3_nextLine 37 = .ok (.ifnull 17, 3) := by decide +kernel
theorem dX3_nextLine_40 : decode cX3_nextLine 40 = .ok (.aload_n 3, 1) := by decide +kernel
theorem dX3_nextLine_41 : decode cX3_nextLine 41 = .ok (.getfield 163, 3) := by decide +kernel
theorem dX3_nextLine_44 : decode cX3_nextLine 44 = .ok (.aload_n 1, 1) := by decide +kernel
theorem dX3_nextLine_45 : decode cX3_nextLine 45 = .ok (.getfield 163, 3) := by decide +kernel
theorem dX3_nextLine_48 : decode cX3_nextLine 48 = .ok (.invokevirtual 305, 3) := by decide +kernel
theorem dX3_nextLine_51 : decode cX3_nextLine 51 = .ok (.ifCond .eq 5, 3) := by decide +kernel
theorem dX3_nextLine_54 : decode cX3_nextLine 54 = .ok (.aload_n 3, 1) := by decide +kernel
theorem dX3_nextLine_55 : decode cX3_nextLine 55 = .ok (.astore_n 1, 1) := by decide +kernel
theorem dX3_nextLine_56 : decode cX3_nextLine 56 = .ok (.iinc 2 1, 3) := by decide +kernel
theorem dX3_nextLine_59 : decode cX3_nextLine 59 = .ok (.goto (-55), 3) := by decide +kernel
theorem dX3_nextLine_62 : decode cX3_nextLine 62 = .ok (.aload_n 1, 1) := by decide +kernel
theorem dX3_nextLine_63 : decode cX3_nextLine 63 = .ok (.areturn, 1) := by decide +kernel
end
section
theorem dX4_init_0 : decode cX4_init 0 = .ok (.aload_n 0, 1) := by decide +kernel
theorem dX4_init_1 : decode cX4_init 1 = .ok (.invokespecial 1, 3) := by decide +kernel
theorem dX4_init_4 : decode cX4_init 4 = .ok (.aload_n 0, 1) := by decide +kernel
theorem dX4_init_5 : decode cX4_init 5 = .ok (.iconst 0, 1) := by decide +kernel
theorem dX4_init_6 : decode cX4_init 6 = .ok (.anewarray 7, 3) := by decide +kernel
theorem dX4_init_9 : decode cX4_init 9 = .ok (.putfield 9, 3) := by decide +kernel
theorem dX4_init_12 : decode cX4_init 12 = .ok (.aload_n 0, 1) := by decide +kernel
theorem dX4_init_13 : decode cX4_init 13 = .ok (.bipush 60, 2) := by decide +kernel
theorem dX4_init_15 : decode cX4_init 15 = .ok (.anewarray 7, 3) := by decide +kernel
theorem dX4_init_18 : decode cX4_init 18 = .ok (.putfield 15, 3) := by decide +kernel
theorem dX4_init_21 : decode cX4_init 21 = .ok (.aload_n 0, 1) := by decide +kernel
theorem dX4_init_22 : decode cX4_init 22 = .ok (.iconst 4, 1) := by decide +kernel
theorem dX4_init_23 : decode cX4_init 23 = .ok (.newarray .int, 2) := by decide +kernel
theorem dX4_init_25 : decode cX4_init 25 = .ok (.dup, 1) := by decide +kernel
theorem dX4_init_26 : decode cX4_init 26 = .ok (.iconst 0, 1) := by decide +kernel
theorem dX4_init_27 : decode cX4_init 27 = .ok (.bipush 20, 2) := by decide +kernel
theorem dX4_init_29 : decode cX4_init 29 = .ok (.iastore, 1) := by decide +kernel
theorem dX4_init_30 : decode cX4_init 30 = .ok (.dup, 1) := by decide +kernel
theorem dX4_init_31 : decode cX4_init 31 = .ok (.iconst 1, 1) := by decide +kernel
theorem dX4_init_32 : decode cX4_init 32 = .ok (.bipush 60, 2) := by decide +kernel
theorem dX4_init_34 : decode cX4_init 34 = .ok (.iastore, 1) := by decide +kernel
theorem dX4_init_35 : decode cX4_init 35 = .ok (.dup, 1) := by decide +kernel
theorem dX4_init_36 : decode cX4_init 36 = .ok (.iconst 2, 1) := by decide +kernel
theorem dX4_init_37 : decode cX4_init 37 = .ok (.sipush 2000, 3) := by decide +kernel
theorem dX4_init_40 : decode cX4_init 40 = .ok (.iastore, 1) := by decide +kernel
theorem dX4_init_41 : decode cX4_init 41 = .ok (.dup, 1) := by decide +kernel
theorem dX4_init_42 : decode cX4_init 42 = .ok (.iconst 3, 1) := by decide +kernel
theorem dX4_init_43 : decode cX4_init 43 = .ok (.iconst 0, 1) := by decide +kernel
theorem dX4_init_44 : decode cX4_init 44 = .ok (.iastore, 1) := by decide +kernel
theorem dX4_init_45 : decode cX4_init 45 = .ok (.putfield 18, 3) := by decide +kernel
theorem dX4_init_48 : decode cX4_init 48 = .ok (.return_, 1) := by decide +kernel
end
section
/-! my own rows: worlds passed to a call by places, joined behind it, in one step; lower bounds of the heap's size -/
abbrev zG : Type := (Nat → ClassId) × (Nat → Nat → Nat)
/-- a method's start: its world, and the heap's size -/
def zPc (D : zG) (tys : List (ClassId × FieldType)) (ws : va_W) (sz : Nat) (av : List Value) : Array Value → State → Prop :=
  va_Pc av (fun U => U.heap.size = sz ∧ va_P D vwCl ws U.heap ∧ va_K D vwCl tys U ∧ va_D (fun _ => True) ws)
/-- a method's end: at least n0 cells, its world -/
def zB {S : Type} (D : zG) (A : Nat → Prop) (tys : S → List (ClassId × FieldType)) (n0 : Nat) (wf : S → va_W) : S → State → Prop := fun u t =>
  n0 ≤ t.heap.size ∧ va_P D vwCl (wf u) t.heap ∧ va_K D vwCl (tys u) t ∧ va_D A (wf u)
theorem zPc_blind {D : zG} {tys : List (ClassId × FieldType)} {ws : va_W} {sz : Nat} {av : List Value} : FrameBlind (zPc D tys ws sz av) := fun a U g mk q => by
  obtain ⟨q0, q1, qP, qK, qD⟩ := q
  exact ⟨q0, q1, qP, va_K.moved (u := U) (U := U.calling g mk a) (Vm.Alike.refl U.vm) qK, qD⟩
theorem zPc_in {D : zG} {tys tc : List (ClassId × FieldType)} {ws wc : va_W} {s U : State} {H : Heap} {A : Nat → Prop} {av : List Value} (hK : va_K D vwCl tys s) (hP : va_P D vwCl ws H) (hD : va_D A ws)
    (isC : List Nat) (hC : isC.map (fun i => ws[i]?) = wc.map some) (hn : va_nd isC = true) (it : List Nat) (hT : it.filterMap (fun i => tys[i]?) = tc) (hU : U.heap = H) (hW : s.WarmedH U.vm) : zPc D tc wc H.size av av.toArray U := by
  have hC' : isC.filterMap (fun i => ws[i]?) = wc := by
    have : (isC.map (fun i => ws[i]?)).filterMap id = (wc.map some).filterMap id := by rw [hC]
    simpa [List.filterMap_map] using this
  refine ⟨rfl, by rw [hU], by rw [hU]; exact hP.sub isC hC', (va_K.moved hW.alike hK).sub it hT, (hD.sub isC hn hC).weaken (fun _ _ _ _ => trivial)⟩
theorem va_S.tr {A : Nat → Prop} {H0 H1 H2 : Heap} {l1 l2 : List Loc} (h1 : va_S A H0 H1 l1) (h2 : va_S A H1 H2 l2) : va_S A H0 H2 l2 :=
  ⟨Nat.le_trans h1.1 h2.1, fun q h n => (h2.2.1 q (Nat.lt_of_lt_of_le h h1.1) n).trans (h1.2.1 q h n), h2.2.2⟩
theorem va_S.re {A : Nat → Prop} {H0 H1 : Heap} {l1 : List Loc} (h1 : va_S A H0 H1 l1) : va_S A H1 H1 l1 := ⟨Nat.le_refl _, fun _ _ _ => rfl, h1.2.2⟩
section ZC
variable {p : Program} {l : Launch} {e : Env} {R : Room} {s : State} {m : MethodId} {args : Array Value} {below : List Frame} {meth : Method} {c : Code} {H : Heap} {locs : List Loc} {cells slots : Nat} {Q : State → Prop}
variable {pc : Nat} {ls : Array Slot} {rest As : List Value} {A : Nat → Prop} {H0 : Heap} {mc ms n index nL maxL : Nat} {D : zG} {tys tc : List (ClassId × FieldType)} {ws wc wr : va_W} {y : MethodName} {bytes cc : ByteArray} {ret : Option FieldType} {wsy Ts : List Cond} {rm : Room} {own C : String} {b n0 : Nat}
/-- a static method that only reads, called -/
theorem zrdS {post : Int32 → Prop} (S : CallFix p m c cc nL s args Ts own) (hM : Met l y wsy rm (zPc D tc wc H.size As) (vp_Si post) 0 0 (fun _ => False)) (cw : CallB R s args own index y bytes maxL ret wsy rm 0 0 n ∧ (Cond.static y).before args s = true)
    (hK : va_K D vwCl tys s) (hP : va_P D vwCl ws H) (hD : va_D A ws) (isC : List Nat) (hC : isC.map (fun i => ws[i]?) = wc.map some) (hn : va_nd isC = true) (it : List Nat) (hT : it.filterMap (fun i => tys[i]?) = tc)
    (ha : As.length = n) (hsz : ls.size = nL) {st : List Value} (hst : st = As.reverse ++ rest) (hW : (rest.map fun v => v.category).sum ≤ 8) (hdg : decode cc pc = .ok (.invokestatic index, 3)) (hf : cells ≤ R.cells ∧ slots ≤ R.slots)
    (kk : ∀ r : Int32, post r → W p l e R s m args below meth c H locs cells slots Q (F0 m (pc + 3) ls (.int r :: rest))) : W p l e R s m args below meth c H locs cells slots Q (F0 m pc ls st) :=
  vp_callSi (W.runS (As := As) (rest := rest) S hM cw ⟨zPc_blind, fun U hU hW => zPc_in hK hP hD isC hC hn it hT hU hW⟩ rfl ha hsz hst (lv_room hW) hdg hf) kk
theorem zrdV {post : Int32 → Prop} (S : CallFix p m c cc nL s args Ts own) (hM : Met l y wsy rm (zPc D tc wc H.size (.ref b :: As)) (vp_Si post) 0 0 (fun _ => False)) (cw : CallW R s args own C index y bytes maxL ret wsy rm 0 0 n)
    (hK : va_K D vwCl tys s) (hP : va_P D vwCl ws H) (hD : va_D A ws) (isC : List Nat) (hC : isC.map (fun i => ws[i]?) = wc.map some) (hn : va_nd isC = true) (it : List Nat) (hT : it.filterMap (fun i => tys[i]?) = tc)
    {ci q0 : Nat} {T : u_T} {N : Nat} {fs : List Value} (hc : vwCl[ci]? = some (C, T, N)) (he : ws[q0]? = some (b, .inr (ci, fs)))
    (ha : As.length = n) (hsz : ls.size = nL) {st : List Value} (hst : st = As.reverse ++ .ref b :: rest) (hW : (rest.map fun v => v.category).sum ≤ 8) (hdg : decode cc pc = .ok (.invokevirtual index, 3)) (hf : cells ≤ R.cells ∧ slots ≤ R.slots)
    (kk : ∀ r : Int32, post r → W p l e R s m args below meth c H locs cells slots Q (F0 m (pc + 3) ls (.int r :: rest))) : W p l e R s m args below meth c H locs cells slots Q (F0 m pc ls st) :=
  vp_callSi (W.runV (As := As) (rest := rest) S hM cw ⟨zPc_blind, va_recv hK hP hc he, fun U hU hW => zPc_in hK hP hD isC hC hn it hT hU hW⟩ rfl ha hsz hst (lv_room hW) hdg hf) kk
/-- a method that only reads and answers a reference or null -/
theorem zrdVq {post : Option Nat → Prop} (S : CallFix p m c cc nL s args Ts own) (hM : Met l y wsy rm (zPc D tc wc H.size (.ref b :: As)) (va_Sq post) 0 0 (fun _ => False)) (cw : CallW R s args own C index y bytes maxL ret wsy rm 0 0 n)
    (hK : va_K D vwCl tys s) (hP : va_P D vwCl ws H) (hD : va_D A ws) (isC : List Nat) (hC : isC.map (fun i => ws[i]?) = wc.map some) (hn : va_nd isC = true) (it : List Nat) (hT : it.filterMap (fun i => tys[i]?) = tc)
    {ci q0 : Nat} {T : u_T} {N : Nat} {fs : List Value} (hc : vwCl[ci]? = some (C, T, N)) (he : ws[q0]? = some (b, .inr (ci, fs)))
    (ha : As.length = n) (hsz : ls.size = nL) {st : List Value} (hst : st = As.reverse ++ .ref b :: rest) (hW : (rest.map fun v => v.category).sum ≤ 8) (hdg : decode cc pc = .ok (.invokevirtual index, 3)) (hf : cells ≤ R.cells ∧ slots ≤ R.slots)
    (kk : ∀ r : Option Nat, post r → W p l e R s m args below meth c H locs cells slots Q (F0 m (pc + 3) ls (va_rf r :: rest))) : W p l e R s m args below meth c H locs cells slots Q (F0 m pc ls st) :=
  va_csq (W.runV (As := As) (rest := rest) S hM cw ⟨zPc_blind, va_recv hK hP hc he, fun U hU hW => zPc_in hK hP hD isC hC hn it hT hU hW⟩ rfl ha hsz hst (lv_room hW) hdg hf) kk
/-- what stands behind a call that may write: the world of the caller, joined -/
theorem zjoin {S' : Type} {u : S'} {t : State} {H1 : Heap} {tyf : S' → List (ClassId × FieldType)} {wf : S' → va_W} (hK : va_K D vwCl tys s) (hP : va_P D vwCl ws H) (hD : va_D A ws) (hS : va_S A H0 H locs) (hA : ∀ q, H0.size ≤ q → A q)
    (isC isR : List Nat) (hC : isC.map (fun i => ws[i]?) = wc.map some) (hR : isR.map (fun i => ws[i]?) = wr.map some) (hn2 : va_nd isR = true) (hdis : ∀ i ∈ isR, i ∉ isC)
    (ht : t.heap = H1) (hvm : s.vm.Alike t.vm) (hB : zB D (va_A wc H.size) tyf n0 wf u t) (hk1 : ∀ q : Nat, q < H.size → ¬ va_A wc H.size q → H1[q]? = H[q]?) :
    n0 ≤ H1.size ∧ va_K D vwCl (tys ++ tyf u) s ∧ va_P D vwCl (wr ++ wf u) H1 ∧ va_D A (wr ++ wf u) := by
  obtain ⟨g0, hP1, hK1, hD1⟩ := hB
  rw [ht] at g0 hP1
  have hF := va_free (wc := wc) hD hS hA isC hC
  obtain ⟨a1, a2⟩ := va_join (wr := wr) (w1 := wf u) hP hD isC isR hC hR hn2 hdis hk1 hF hP1 hD1
  exact ⟨g0, hK.app (va_K.moved hvm.symm hK1), a1, a2⟩
theorem zcalliV {S' : Type} {post : Int32 → S' → Prop} {tyf : S' → List (ClassId × FieldType)} {wf : S' → va_W} (S : CallFix p m c cc nL s args Ts own) (hM : Met l y wsy rm (zPc D tc wc H.size (.ref b :: As)) (va_Qi post (zB D (va_A wc H.size) tyf n0 wf) (va_A wc H.size)) mc ms (va_A wc H.size)) (cw : CallW R s args own C index y bytes maxL ret wsy rm mc ms n)
    (hK : va_K D vwCl tys s) (hP : va_P D vwCl ws H) (hD : va_D A ws) (hS : va_S A H0 H locs) (hA : ∀ q, H0.size ≤ q → A q) (isC isR : List Nat) (hC : isC.map (fun i => ws[i]?) = wc.map some) (hn : va_nd isC = true) (hR : isR.map (fun i => ws[i]?) = wr.map some) (hn2 : va_nd isR = true) (hdis : ∀ i ∈ isR, i ∉ isC) (it : List Nat) (hT : it.filterMap (fun i => tys[i]?) = tc)
    {ci q0 : Nat} {T : u_T} {N : Nat} {fs : List Value} (hc : vwCl[ci]? = some (C, T, N)) (he : ws[q0]? = some (b, .inr (ci, fs)))
    (ha : As.length = n) (hsz : ls.size = nL) {st : List Value} (hst : st = As.reverse ++ .ref b :: rest) (hW : (rest.map fun v => v.category).sum ≤ 8) (hdg : decode cc pc = .ok (.invokevirtual index, 3)) (hf : cells + mc ≤ R.cells ∧ slots + ms ≤ R.slots)
    (kk : ∀ (r : Int32) (u : S') (H1 : Heap) (locs1 : List Loc), post r u → n0 ≤ H1.size → H.size ≤ H1.size → va_K D vwCl (tys ++ tyf u) s → va_P D vwCl (wr ++ wf u) H1 → va_D A (wr ++ wf u) → va_S A H0 H1 locs1 → W p l e R s m args below meth c H1 locs1 (cells + mc) (slots + ms) Q (F0 m (pc + 3) ls (.int r :: rest))) : W p l e R s m args below meth c H locs cells slots Q (F0 m pc ls st) := by
  have hF := va_free (wc := wc) hD hS hA isC hC
  refine va_calli (va_runV (As := As) (rest := rest) S hM cw ⟨zPc_blind, va_recv hK hP hc he, fun U hU hW => zPc_in hK hP hD isC hC hn it hT hU hW⟩ rfl ha hsz hst (lv_room hW) hdg hf) hS (fun q _ h => hF q h) hF (fun r u t H1 locs1 ht hvm hw hB hz1 hk1 hS1 => ?_)
  obtain ⟨g0, gK, gP, gD⟩ := zjoin hK hP hD hS hA isC isR hC hR hn2 hdis ht hvm hB hk1
  exact kk r u H1 locs1 hw g0 hz1 gK gP gD hS1
theorem zcallvV {S' : Type} {post : S' → Prop} {tyf : S' → List (ClassId × FieldType)} {wf : S' → va_W} (S : CallFix p m c cc nL s args Ts own) (hM : Met l y wsy rm (zPc D tc wc H.size (.ref b :: As)) (va_Qv post (zB D (va_A wc H.size) tyf n0 wf) (va_A wc H.size)) mc ms (va_A wc H.size)) (cw : CallW R s args own C index y bytes maxL ret wsy rm mc ms n)
    (hK : va_K D vwCl tys s) (hP : va_P D vwCl ws H) (hD : va_D A ws) (hS : va_S A H0 H locs) (hA : ∀ q, H0.size ≤ q → A q) (isC isR : List Nat) (hC : isC.map (fun i => ws[i]?) = wc.map some) (hn : va_nd isC = true) (hR : isR.map (fun i => ws[i]?) = wr.map some) (hn2 : va_nd isR = true) (hdis : ∀ i ∈ isR, i ∉ isC) (it : List Nat) (hT : it.filterMap (fun i => tys[i]?) = tc)
    {ci q0 : Nat} {T : u_T} {N : Nat} {fs : List Value} (hc : vwCl[ci]? = some (C, T, N)) (he : ws[q0]? = some (b, .inr (ci, fs)))
    (ha : As.length = n) (hsz : ls.size = nL) {st : List Value} (hst : st = As.reverse ++ .ref b :: rest) (hW : (rest.map fun v => v.category).sum ≤ 8) (hdg : decode cc pc = .ok (.invokevirtual index, 3)) (hf : cells + mc ≤ R.cells ∧ slots + ms ≤ R.slots)
    (kk : ∀ (u : S') (H1 : Heap) (locs1 : List Loc), post u → n0 ≤ H1.size → H.size ≤ H1.size → va_K D vwCl (tys ++ tyf u) s → va_P D vwCl (wr ++ wf u) H1 → va_D A (wr ++ wf u) → va_S A H0 H1 locs1 → W p l e R s m args below meth c H1 locs1 (cells + mc) (slots + ms) Q (F0 m (pc + 3) ls rest)) : W p l e R s m args below meth c H locs cells slots Q (F0 m pc ls st) := by
  have hF := va_free (wc := wc) hD hS hA isC hC
  refine va_callv (va_runV (As := As) (rest := rest) S hM cw ⟨zPc_blind, va_recv hK hP hc he, fun U hU hW => zPc_in hK hP hD isC hC hn it hT hU hW⟩ rfl ha hsz hst (lv_room hW) hdg hf) hS (fun q _ h => hF q h) hF (fun u t H1 locs1 ht hvm hw hB hz1 hk1 hS1 => ?_)
  obtain ⟨g0, gK, gP, gD⟩ := zjoin hK hP hD hS hA isC isR hC hR hn2 hdis ht hvm hB hk1
  exact kk u H1 locs1 hw g0 hz1 gK gP gD hS1
/-- a constructor, called by invokespecial -/
theorem zcallvI {S' : Type} {post : S' → Prop} {tyf : S' → List (ClassId × FieldType)} {wf : S' → va_W} (S : CallFix p m c cc nL s args Ts own) (hM : Met l y wsy rm (zPc D tc wc H.size (.ref b :: As)) (va_Qv post (zB D (va_A wc H.size) tyf n0 wf) (va_A wc H.size)) mc ms (va_A wc H.size)) (cw : CallB R s args own index y bytes maxL none wsy rm mc ms n ∧ y.name = "<init>" ∧ (Cond.instanceMethod y).before args s = true)
    (hK : va_K D vwCl tys s) (hP : va_P D vwCl ws H) (hD : va_D A ws) (hS : va_S A H0 H locs) (hA : ∀ q, H0.size ≤ q → A q) (isC isR : List Nat) (hC : isC.map (fun i => ws[i]?) = wc.map some) (hn : va_nd isC = true) (hR : isR.map (fun i => ws[i]?) = wr.map some) (hn2 : va_nd isR = true) (hdis : ∀ i ∈ isR, i ∉ isC) (it : List Nat) (hT : it.filterMap (fun i => tys[i]?) = tc)
    (ha : As.length = n) (hsz : ls.size = nL) {st : List Value} (hst : st = As.reverse ++ .ref b :: rest) (hW : (rest.map fun v => v.category).sum ≤ 8) (hdg : decode cc pc = .ok (.invokespecial index, 3)) (hf : cells + mc ≤ R.cells ∧ slots + ms ≤ R.slots)
    (kk : ∀ (u : S') (H1 : Heap) (locs1 : List Loc), post u → n0 ≤ H1.size → H.size ≤ H1.size → va_K D vwCl (tys ++ tyf u) s → va_P D vwCl (wr ++ wf u) H1 → va_D A (wr ++ wf u) → va_S A H0 H1 locs1 → W p l e R s m args below meth c H1 locs1 (cells + mc) (slots + ms) Q (F0 m (pc + 3) ls rest)) : W p l e R s m args below meth c H locs cells slots Q (F0 m pc ls st) := by
  have hF := va_free (wc := wc) hD hS hA isC hC
  refine va_callv (va_runI (As := As) (rest := rest) S hM cw ⟨zPc_blind, fun U hU hW => zPc_in hK hP hD isC hC hn it hT hU hW⟩ rfl ha hsz hst (lv_room hW) hdg hf) hS (fun q _ h => hF q h) hF (fun u t H1 locs1 ht hvm hw hB hz1 hk1 hS1 => ?_)
  obtain ⟨g0, gK, gP, gD⟩ := zjoin hK hP hD hS hA isC isR hC hR hn2 hdis ht hvm hB hk1
  exact kk u H1 locs1 hw g0 hz1 gK gP gD hS1
/-- a nest mate's private constructor -/
theorem zcallvIN {S' : Type} {post : S' → Prop} {tyf : S' → List (ClassId × FieldType)} {wf : S' → va_W} {host : String} (S : CallFix p m c cc nL s args Ts own) (hM : Met l y wsy rm (zPc D tc wc H.size (.ref b :: As)) (va_Qv post (zB D (va_A wc H.size) tyf n0 wf) (va_A wc H.size)) mc ms (va_A wc H.size)) (cw : va_CN R s args own index y host bytes maxL none wsy rm mc ms n ∧ y.name = "<init>" ∧ (Cond.instanceMethod y).before args s = true)
    (hK : va_K D vwCl tys s) (hP : va_P D vwCl ws H) (hD : va_D A ws) (hS : va_S A H0 H locs) (hA : ∀ q, H0.size ≤ q → A q) (isC isR : List Nat) (hC : isC.map (fun i => ws[i]?) = wc.map some) (hn : va_nd isC = true) (hR : isR.map (fun i => ws[i]?) = wr.map some) (hn2 : va_nd isR = true) (hdis : ∀ i ∈ isR, i ∉ isC) (it : List Nat) (hT : it.filterMap (fun i => tys[i]?) = tc)
    (ha : As.length = n) (hsz : ls.size = nL) {st : List Value} (hst : st = As.reverse ++ .ref b :: rest) (hW : (rest.map fun v => v.category).sum ≤ 8) (hdg : decode cc pc = .ok (.invokespecial index, 3)) (hf : cells + mc ≤ R.cells ∧ slots + ms ≤ R.slots)
    (kk : ∀ (u : S') (H1 : Heap) (locs1 : List Loc), post u → n0 ≤ H1.size → H.size ≤ H1.size → va_K D vwCl (tys ++ tyf u) s → va_P D vwCl (wr ++ wf u) H1 → va_D A (wr ++ wf u) → va_S A H0 H1 locs1 → W p l e R s m args below meth c H1 locs1 (cells + mc) (slots + ms) Q (F0 m (pc + 3) ls rest)) : W p l e R s m args below meth c H locs cells slots Q (F0 m pc ls st) := by
  have hF := va_free (wc := wc) hD hS hA isC hC
  refine va_callv (va_runIN (As := As) (rest := rest) S hM cw ⟨zPc_blind, fun U hU hW => zPc_in hK hP hD isC hC hn it hT hU hW⟩ rfl ha hsz hst (lv_room hW) hdg hf) hS (fun q _ h => hF q h) hF (fun u t H1 locs1 ht hvm hw hB hz1 hk1 hS1 => ?_)
  obtain ⟨g0, gK, gP, gD⟩ := zjoin hK hP hD hS hA isC isR hC hR hn2 hdis ht hvm hB hk1
  exact kk u H1 locs1 hw g0 hz1 gK gP gD hS1
/-- a new array, and that the heap is longer by one cell -/
theorem znewa (hexec : p.tables.exec = Jvm.exec) (hb : c.code = cc) {atype : ArrayType} (harr : (Cond.arrayClass (newarray.typeOf atype)).before args s = true) {ty : FieldType} (hty : newarray.typeOf atype = ty) (hK : va_K D vwCl tys s) (hP : va_P D vwCl ws H) (hD : va_D A ws) (hS : va_S A H0 H locs) (hA : ∀ q, H0.size ≤ q → A q)
    {k : Int32} {N' : Nat} {a0 : vp_A} (ha : ∀ cA : ClassId, vp_cell cA a0 = arrV cA N' (fun _ => defaultValue ty)) (hn : ¬ k < 0) (hN : k.toNatClampNeg = N') (hbytes : N' * componentBytes ty ≤ 536870912) (hcells : cells + 1 ≤ R.cells) (hslots : slots + N' ≤ R.slots) (hdg : decode cc pc = .ok (.newarray atype, 2))
    (kk : ∀ (q : Nat) (cA : ClassId) (H1 : Heap), H1.size = H.size + 1 → va_K D vwCl (tys ++ [(cA, ty)]) s → va_P D vwCl (ws ++ [(q, .inl (cA, a0))]) H1 → va_D A (ws ++ [(q, .inl (cA, a0))]) → va_S A H0 H1 locs →
      W p l e R s m args below meth c H1 locs (cells + 1) (slots + N') Q (F0 m (pc + 2) ls (.ref q :: rest))) : W p l e R s m args below meth c H locs cells slots Q (F0 m pc ls (.int k :: rest)) := by
  subst hty
  refine va_newaK hexec hb harr rfl hdg rfl hn hN hbytes hcells hslots rfl fun H1 cA e1 z1 o1 hAr hNm => ?_
  have hk : ∀ (k : Nat) (x : Nat × va_E), ws[k]? = some x → H1[x.1]? = H[x.1]? := fun k x hx => o1 x.1 ((hP k x hx).lt)
  refine kk H.size cA H1 z1 ⟨hK.1, fun k x hx => ?_⟩ ((hP.kept hk).app (fun k x hx => ?_)) (hD.push hP rfl (hA _ hS.1)) ⟨Nat.le_trans hS.1 (by omega), fun x h1 h2 => (o1 x (Nat.lt_of_lt_of_le h1 hS.1)).trans (hS.2.1 x h1 h2), hS.2.2⟩
  · by_cases hl : k < tys.length
    · rw [List.getElem?_append_left hl] at hx
      exact hK.2 k x hx
    · rw [List.getElem?_append_right (by omega)] at hx
      have hz : k - tys.length < 1 := (List.getElem?_eq_some_iff.mp hx).1
      rw [show k - tys.length = 0 by omega] at hx
      cases hx
      exact ⟨hAr, by cases atype <;> exact hNm⟩
  · have hz : k < 1 := (List.getElem?_eq_some_iff.mp hx).1
    rw [show k = 0 by omega] at hx
    cases hx
    show H1[H.size]? = some (vp_cell _ _)
    rw [ha]
    exact e1
end ZC
/-- a method's start with premises of the tables beside -/
def zPcK (D : zG) (tys : List (ClassId × FieldType)) (ws : va_W) (sz : Nat) (K : State → Prop) (av : List Value) : Array Value → State → Prop :=
  va_Pc av (fun U => (U.heap.size = sz ∧ va_P D vwCl ws U.heap ∧ va_K D vwCl tys U ∧ va_D (fun _ => True) ws) ∧ K U)
theorem zPcK_blind {D : zG} {tys : List (ClassId × FieldType)} {ws : va_W} {sz : Nat} {K : State → Prop} {av : List Value} (hk : ∀ (a : Array Value) (U : State) (g : JFrame) (mk : MethodId), K U → K (U.calling g mk a)) : FrameBlind (zPcK D tys ws sz K av) := fun a U g mk q => by
  obtain ⟨q0, ⟨q1, qP, qK, qD⟩, q2⟩ := q
  exact ⟨q0, ⟨q1, qP, va_K.moved (u := U) (U := U.calling g mk a) (Vm.Alike.refl U.vm) qK, qD⟩, hk a U g mk q2⟩
section ZQ
variable {p : Program} {l : Launch} {e : Env} {R : Room} {s : State} {m : MethodId} {args : Array Value} {below : List Frame} {meth : Method} {c : Code} {H : Heap} {locs : List Loc} {cells slots : Nat} {Q : State → Prop}
variable {pc : Nat} {ls : Array Slot} {rest As : List Value} {A : Nat → Prop} {H0 : Heap} {mc ms n index nL maxL : Nat} {D : zG} {tys tc : List (ClassId × FieldType)} {ws wc wr X cx pl : va_W} {y : MethodName} {bytes cc : ByteArray} {ret : Option FieldType} {wsy Ts : List Cond} {rm : Room} {own C : String} {b n0 : Nat}
/-- a nest mate's private constructor -/
theorem zcallvINK {S' : Type} {post : S' → Prop} {tyf : S' → List (ClassId × FieldType)} {wf : S' → va_W} {host : String} {KK : State → Prop} (S : CallFix p m c cc nL s args Ts own) (hM : Met l y wsy rm (zPcK D tc wc H.size KK (.ref b :: As)) (va_Qv post (zB D (va_A wc H.size) tyf n0 wf) (va_A wc H.size)) mc ms (va_A wc H.size)) (cw : va_CN R s args own index y host bytes maxL none wsy rm mc ms n ∧ y.name = "<init>" ∧ (Cond.instanceMethod y).before args s = true) (hkb : ∀ (a : Array Value) (U : State) (g : JFrame) (mk : MethodId), KK U → KK (U.calling g mk a)) (hks : ∀ U : State, s.WarmedH U.vm → KK U)
    (hK : va_K D vwCl tys s) (hP : va_P D vwCl ws H) (hD : va_D A ws) (hS : va_S A H0 H locs) (hA : ∀ q, H0.size ≤ q → A q) (isC isR : List Nat) (hC : isC.map (fun i => ws[i]?) = wc.map some) (hn : va_nd isC = true) (hR : isR.map (fun i => ws[i]?) = wr.map some) (hn2 : va_nd isR = true) (hdis : ∀ i ∈ isR, i ∉ isC) (it : List Nat) (hT : it.filterMap (fun i => tys[i]?) = tc)
    (ha : As.length = n) (hsz : ls.size = nL) {st : List Value} (hst : st = As.reverse ++ .ref b :: rest) (hW : (rest.map fun v => v.category).sum ≤ 8) (hdg : decode cc pc = .ok (.invokespecial index, 3)) (hf : cells + mc ≤ R.cells ∧ slots + ms ≤ R.slots)
    (kk : ∀ (u : S') (H1 : Heap) (locs1 : List Loc), post u → n0 ≤ H1.size → H.size ≤ H1.size → va_K D vwCl (tys ++ tyf u) s → va_P D vwCl (wr ++ wf u) H1 → va_D A (wr ++ wf u) → va_S A H0 H1 locs1 → W p l e R s m args below meth c H1 locs1 (cells + mc) (slots + ms) Q (F0 m (pc + 3) ls rest)) : W p l e R s m args below meth c H locs cells slots Q (F0 m pc ls st) := by
  have hF := va_free (wc := wc) hD hS hA isC hC
  refine va_callv (va_runIN (As := As) (rest := rest) S hM cw ⟨zPcK_blind hkb, fun U hU hW => by
    obtain ⟨a1, a2⟩ := zPc_in (av := .ref b :: As) hK hP hD isC hC hn it hT hU hW
    exact ⟨a1, a2, hks U hW⟩⟩ rfl ha hsz hst (lv_room hW) hdg hf) hS (fun q _ h => hF q h) hF (fun u t H1 locs1 ht hvm hw hB hz1 hk1 hS1 => ?_)
  obtain ⟨g0, gK, gP, gD⟩ := zjoin hK hP hD hS hA isC isR hC hR hn2 hdis ht hvm hB hk1
  exact kk u H1 locs1 hw g0 hz1 gK gP gD hS1
theorem zPc_in2 {U : State} {av : List Value} (hK : va_K D vwCl tys s) (hPc : va_P D vwCl wc H) (hDc : va_D A wc) (it : List Nat) (hT : it.filterMap (fun i => tys[i]?) = tc) (hU : U.heap = H) (hW : s.WarmedH U.vm) : zPc D tc wc H.size av av.toArray U :=
  ⟨rfl, by rw [hU], by rw [hU]; exact hPc, (va_K.moved hW.alike hK).sub it hT, hDc.weaken (fun _ _ _ _ => trivial)⟩
/-- a read-only call, its world handed over -/
theorem zrdV2 {post : Int32 → Prop} (S : CallFix p m c cc nL s args Ts own) (hM : Met l y wsy rm (zPc D tc wc H.size (.ref b :: As)) (vp_Si post) 0 0 (fun _ => False)) (cw : CallW R s args own C index y bytes maxL ret wsy rm 0 0 n)
    (hK : va_K D vwCl tys s) (hPc : va_P D vwCl wc H) (hDc : va_D A wc) (it : List Nat) (hT : it.filterMap (fun i => tys[i]?) = tc)
    {ci q0 : Nat} {T : u_T} {N : Nat} {fs : List Value} (hc : vwCl[ci]? = some (C, T, N)) (he : wc[q0]? = some (b, .inr (ci, fs)))
    (ha : As.length = n) (hsz : ls.size = nL) {st : List Value} (hst : st = As.reverse ++ .ref b :: rest) (hW : (rest.map fun v => v.category).sum ≤ 8) (hdg : decode cc pc = .ok (.invokevirtual index, 3)) (hf : cells ≤ R.cells ∧ slots ≤ R.slots)
    (kk : ∀ r : Int32, post r → W p l e R s m args below meth c H locs cells slots Q (F0 m (pc + 3) ls (.int r :: rest))) : W p l e R s m args below meth c H locs cells slots Q (F0 m pc ls st) :=
  vp_callSi (W.runV (As := As) (rest := rest) S hM cw ⟨zPc_blind, va_recv hK hPc hc he, fun U hU hW => zPc_in2 hK hPc hDc it hT hU hW⟩ rfl ha hsz hst (lv_room hW) hdg hf) kk
theorem zrdVq2 {post : Option Nat → Prop} (S : CallFix p m c cc nL s args Ts own) (hM : Met l y wsy rm (zPc D tc wc H.size (.ref b :: As)) (va_Sq post) 0 0 (fun _ => False)) (cw : CallW R s args own C index y bytes maxL ret wsy rm 0 0 n)
    (hK : va_K D vwCl tys s) (hPc : va_P D vwCl wc H) (hDc : va_D A wc) (it : List Nat) (hT : it.filterMap (fun i => tys[i]?) = tc)
    {ci q0 : Nat} {T : u_T} {N : Nat} {fs : List Value} (hc : vwCl[ci]? = some (C, T, N)) (he : wc[q0]? = some (b, .inr (ci, fs)))
    (ha : As.length = n) (hsz : ls.size = nL) {st : List Value} (hst : st = As.reverse ++ .ref b :: rest) (hW : (rest.map fun v => v.category).sum ≤ 8) (hdg : decode cc pc = .ok (.invokevirtual index, 3)) (hf : cells ≤ R.cells ∧ slots ≤ R.slots)
    (kk : ∀ r : Option Nat, post r → W p l e R s m args below meth c H locs cells slots Q (F0 m (pc + 3) ls (va_rf r :: rest))) : W p l e R s m args below meth c H locs cells slots Q (F0 m pc ls st) :=
  va_csq (W.runV (As := As) (rest := rest) S hM cw ⟨zPc_blind, va_recv hK hPc hc he, fun U hU hW => zPc_in2 hK hPc hDc it hT hU hW⟩ rfl ha hsz hst (lv_room hW) hdg hf) kk
/-- a writing call over some explicit cells; a pool stays beside -/
theorem zcalliVQ {S' : Type} {post : Int32 → S' → Prop} {tyf : S' → List (ClassId × FieldType)} {wf : S' → va_W} (S : CallFix p m c cc nL s args Ts own) (hM : Met l y wsy rm (zPc D tc cx H.size (.ref b :: As)) (va_Qi post (zB D (va_A cx H.size) tyf n0 wf) (va_A cx H.size)) mc ms (va_A cx H.size)) (cw : CallW R s args own C index y bytes maxL ret wsy rm mc ms n)
    (hK : va_K D vwCl tys s) (hP : va_P D vwCl (X ++ pl) H) (hD : va_D A (X ++ pl)) (hS : va_S A H0 H locs) (hA : ∀ q, H0.size ≤ q → A q) (isC isR : List Nat) (hC : isC.map (fun i => X[i]?) = cx.map some) (hn : va_nd isC = true) (hR : isR.map (fun i => X[i]?) = wr.map some) (hn2 : va_nd isR = true) (hdis : ∀ i ∈ isR, i ∉ isC) (it : List Nat) (hT : it.filterMap (fun i => tys[i]?) = tc)
    {ci q0 : Nat} {T : u_T} {N : Nat} {fs : List Value} (hc : vwCl[ci]? = some (C, T, N)) (he : cx[q0]? = some (b, .inr (ci, fs)))
    (ha : As.length = n) (hsz : ls.size = nL) {st : List Value} (hst : st = As.reverse ++ .ref b :: rest) (hW : (rest.map fun v => v.category).sum ≤ 8) (hdg : decode cc pc = .ok (.invokevirtual index, 3)) (hf : cells + mc ≤ R.cells ∧ slots + ms ≤ R.slots)
    (kk : ∀ (r : Int32) (u : S') (H1 : Heap) (locs1 : List Loc), post r u → n0 ≤ H1.size → H.size ≤ H1.size → va_K D vwCl (tys ++ tyf u) s → va_P D vwCl ((wr ++ wf u) ++ pl) H1 → va_D A ((wr ++ wf u) ++ pl) → va_S A H0 H1 locs1 → W p l e R s m args below meth c H1 locs1 (cells + mc) (slots + ms) Q (F0 m (pc + 3) ls (.int r :: rest))) : W p l e R s m args below meth c H locs cells slots Q (F0 m pc ls st) := by
  have hPx : va_P D vwCl (X ++ []) H := hP.by (fun k => k) (fun k q hk => by
    rw [List.append_nil] at hk
    rw [List.getElem?_append_left (List.getElem?_eq_some_iff.mp hk).1]; exact hk)
  have hDx : va_D A (X ++ []) := hD.by (fun k => k) (fun k q hk => by
    rw [List.append_nil] at hk
    rw [List.getElem?_append_left (List.getElem?_eq_some_iff.mp hk).1]; exact hk) (fun _ _ _ _ h => h)
  rw [List.append_nil] at hPx hDx
  have hF : ∀ q, va_A cx H.size q → A q := va_free (wc := cx) hDx hS hA isC hC
  have hC' : isC.filterMap (fun i => X[i]?) = cx := by
    have : (isC.map (fun i => X[i]?)).filterMap id = (cx.map some).filterMap id := by rw [hC]
    simpa [List.filterMap_map] using this
  have hPc := hPx.sub isC hC'
  have hDc := hDx.sub isC hn hC
  refine va_calli (va_runV (As := As) (rest := rest) S hM cw ⟨zPc_blind, va_recv hK hPc hc he, fun U hU hW => zPc_in2 hK hPc hDc it hT hU hW⟩ rfl ha hsz hst (lv_room hW) hdg hf) hS (fun q _ h => hF q h) hF (fun r u t H1 locs1 ht hvm hw hB hz1 hk1 hS1 => ?_)
  obtain ⟨g0, hP1, hK1, hD1⟩ := hB
  rw [ht] at g0 hP1
  obtain ⟨a1, a2⟩ := va_joinQ (wr := wr) (w1 := wf u) hP hD isC isR hC hR hn2 hdis hk1 hF hP1 hD1
  exact kk r u H1 locs1 hw g0 hz1 (hK.app (va_K.moved hvm.symm hK1)) a1 a2 hS1
/-- a writing call that takes the pool too -/
theorem zcalliVP {S' : Type} {post : Int32 → S' → Prop} {tyf : S' → List (ClassId × FieldType)} {wf plf : S' → va_W} (S : CallFix p m c cc nL s args Ts own) (hM : Met l y wsy rm (zPc D tc (cx ++ pl) H.size (.ref b :: As)) (va_Qi post (zB D (va_A (cx ++ pl) H.size) tyf n0 (fun u => wf u ++ plf u)) (va_A (cx ++ pl) H.size)) mc ms (va_A (cx ++ pl) H.size)) (cw : CallW R s args own C index y bytes maxL ret wsy rm mc ms n)
    (hK : va_K D vwCl tys s) (hP : va_P D vwCl (X ++ pl) H) (hD : va_D A (X ++ pl)) (hS : va_S A H0 H locs) (hA : ∀ q, H0.size ≤ q → A q) (isC isR : List Nat) (hC : isC.map (fun i => X[i]?) = cx.map some) (hn : va_nd isC = true) (hR : isR.map (fun i => X[i]?) = wr.map some) (hn2 : va_nd isR = true) (hdis : ∀ i ∈ isR, i ∉ isC) (it : List Nat) (hT : it.filterMap (fun i => tys[i]?) = tc)
    {ci q0 : Nat} {T : u_T} {N : Nat} {fs : List Value} (hc : vwCl[ci]? = some (C, T, N)) (he : cx[q0]? = some (b, .inr (ci, fs)))
    (ha : As.length = n) (hsz : ls.size = nL) {st : List Value} (hst : st = As.reverse ++ .ref b :: rest) (hW : (rest.map fun v => v.category).sum ≤ 8) (hdg : decode cc pc = .ok (.invokevirtual index, 3)) (hf : cells + mc ≤ R.cells ∧ slots + ms ≤ R.slots)
    (kk : ∀ (r : Int32) (u : S') (H1 : Heap) (locs1 : List Loc), post r u → n0 ≤ H1.size → H.size ≤ H1.size → va_K D vwCl (tys ++ tyf u) s → va_P D vwCl ((wr ++ wf u) ++ plf u) H1 → va_D A ((wr ++ wf u) ++ plf u) → va_S A H0 H1 locs1 → W p l e R s m args below meth c H1 locs1 (cells + mc) (slots + ms) Q (F0 m (pc + 3) ls (.int r :: rest))) : W p l e R s m args below meth c H locs cells slots Q (F0 m pc ls st) := by
  have hF : ∀ q, va_A (cx ++ pl) H.size q → A q := va_freeP hD hS hA isC hC
  have hPc := hP.part isC hC
  have hDc := hD.part isC hn hC
  refine va_calli (va_runV (As := As) (rest := rest) S hM cw ⟨zPc_blind, va_recv hK hPc hc (q0 := q0) (by rw [List.getElem?_append_left (List.getElem?_eq_some_iff.mp he).1]; exact he), fun U hU hW => zPc_in2 hK hPc hDc it hT hU hW⟩ rfl ha hsz hst (lv_room hW) hdg hf) hS (fun q _ h => hF q h) hF (fun r u t H1 locs1 ht hvm hw hB hz1 hk1 hS1 => ?_)
  obtain ⟨g0, hP1, hK1, hD1⟩ := hB
  rw [ht] at g0 hP1
  obtain ⟨a1, a2⟩ := va_joinP (wr := wr) (rx := wf u) (pl1 := plf u) hP hD isC isR hC hR hn2 hdis hk1 hF hP1 hD1
  exact kk r u H1 locs1 hw g0 hz1 (hK.app (va_K.moved hvm.symm hK1)) a1 a2 hS1
end ZQ
section QC
variable {p : Program} {l : Launch} {e : Env} {R : Room} {s : State} {m : MethodId} {args : Array Value} {below : List Frame} {meth : Method} {c : Code} {H : Heap} {locs : List Loc} {cells slots : Nat} {Q : State → Prop}
variable {pc : Nat} {ls : Array Slot} {rest As : List Value} {A : Nat → Prop} {H0 : Heap} {mc ms n index nL maxL : Nat} {D : zG} {tys tc : List (ClassId × FieldType)} {ws : va_W} {y : MethodName} {bytes cc : ByteArray} {ret : Option FieldType} {wsy Ts : List Cond} {rm : Room} {own C : String} {b n0 : Nat}
theorem qfree (hD : va_D A ws) (hS : va_S A H0 H locs) (hA : ∀ q, H0.size ≤ q → A q) : ∀ q, va_A ws H.size q → A q := fun q h => by
  rcases h with ⟨k, e, hk⟩ | h
  · exact hD.2 k _ hk
  · exact hA q (Nat.le_trans hS.1 h)
/-- a writing call that takes the whole world -/
theorem qcalliV {S' : Type} {post : Int32 → S' → Prop} {tyf : S' → List (ClassId × FieldType)} {wf : S' → va_W} (S : CallFix p m c cc nL s args Ts own) (hM : Met l y wsy rm (zPc D tc ws H.size (.ref b :: As)) (va_Qi post (zB D (va_A ws H.size) tyf n0 wf) (va_A ws H.size)) mc ms (va_A ws H.size)) (cw : CallW R s args own C index y bytes maxL ret wsy rm mc ms n)
    (hK : va_K D vwCl tys s) (hP : va_P D vwCl ws H) (hD : va_D A ws) (hS : va_S A H0 H locs) (hA : ∀ q, H0.size ≤ q → A q) (it : List Nat) (hT : it.filterMap (fun i => tys[i]?) = tc)
    {ci q0 : Nat} {T : u_T} {N : Nat} {fs : List Value} (hc : vwCl[ci]? = some (C, T, N)) (he : ws[q0]? = some (b, .inr (ci, fs)))
    (ha : As.length = n) (hsz : ls.size = nL) {st : List Value} (hst : st = As.reverse ++ .ref b :: rest) (hW : (rest.map fun v => v.category).sum ≤ 8) (hdg : decode cc pc = .ok (.invokevirtual index, 3)) (hf : cells + mc ≤ R.cells ∧ slots + ms ≤ R.slots)
    (kk : ∀ (r : Int32) (u : S') (H1 : Heap) (locs1 : List Loc), post r u → va_P D vwCl (wf u) H1 → va_D A (wf u) → va_S A H0 H1 locs1 → W p l e R s m args below meth c H1 locs1 (cells + mc) (slots + ms) Q (F0 m (pc + 3) ls (.int r :: rest))) : W p l e R s m args below meth c H locs cells slots Q (F0 m pc ls st) := by
  have hF := qfree hD hS hA
  refine va_calli (va_runV (As := As) (rest := rest) S hM cw ⟨zPc_blind, va_recv hK hP hc he, fun U hU hW => zPc_in2 hK hP hD it hT hU hW⟩ rfl ha hsz hst (lv_room hW) hdg hf) hS (fun q _ h => hF q h) hF (fun r u t H1 locs1 ht hvm hw hB hz1 hk1 hS1 => ?_)
  obtain ⟨g0, hP1, hK1, hD1⟩ := hB
  rw [ht] at hP1
  exact kk r u H1 locs1 hw hP1 (hD1.weaken (fun _ _ _ h => hF _ h)) hS1
theorem qcallvV {S' : Type} {post : S' → Prop} {tyf : S' → List (ClassId × FieldType)} {wf : S' → va_W} (S : CallFix p m c cc nL s args Ts own) (hM : Met l y wsy rm (zPc D tc ws H.size (.ref b :: As)) (va_Qv post (zB D (va_A ws H.size) tyf n0 wf) (va_A ws H.size)) mc ms (va_A ws H.size)) (cw : CallW R s args own C index y bytes maxL ret wsy rm mc ms n)
    (hK : va_K D vwCl tys s) (hP : va_P D vwCl ws H) (hD : va_D A ws) (hS : va_S A H0 H locs) (hA : ∀ q, H0.size ≤ q → A q) (it : List Nat) (hT : it.filterMap (fun i => tys[i]?) = tc)
    {ci q0 : Nat} {T : u_T} {N : Nat} {fs : List Value} (hc : vwCl[ci]? = some (C, T, N)) (he : ws[q0]? = some (b, .inr (ci, fs)))
    (ha : As.length = n) (hsz : ls.size = nL) {st : List Value} (hst : st = As.reverse ++ .ref b :: rest) (hW : (rest.map fun v => v.category).sum ≤ 8) (hdg : decode cc pc = .ok (.invokevirtual index, 3)) (hf : cells + mc ≤ R.cells ∧ slots + ms ≤ R.slots)
    (kk : ∀ (u : S') (H1 : Heap) (locs1 : List Loc), post u → va_P D vwCl (wf u) H1 → va_D A (wf u) → va_S A H0 H1 locs1 → W p l e R s m args below meth c H1 locs1 (cells + mc) (slots + ms) Q (F0 m (pc + 3) ls rest)) : W p l e R s m args below meth c H locs cells slots Q (F0 m pc ls st) := by
  have hF := qfree hD hS hA
  refine va_callv (va_runV (As := As) (rest := rest) S hM cw ⟨zPc_blind, va_recv hK hP hc he, fun U hU hW => zPc_in2 hK hP hD it hT hU hW⟩ rfl ha hsz hst (lv_room hW) hdg hf) hS (fun q _ h => hF q h) hF (fun u t H1 locs1 ht hvm hw hB hz1 hk1 hS1 => ?_)
  obtain ⟨g0, hP1, hK1, hD1⟩ := hB
  rw [ht] at hP1
  exact kk u H1 locs1 hw hP1 (hD1.weaken (fun _ _ _ h => hF _ h)) hS1
end QC
end
section
/-! mine: what a state of the class is: a base (class numbers, addresses, the arrays of references, how many kinds and lines), the supports, and numbers.
 addresses qA: 0 i an item's cell (60: the trial), 1 i its array of supports, 2 i its array of their cells, 3 k a kind, 4 l a line, 5 0 the object, 5 1 kinds, 5 2 items, 5 3 tops, 5 4 lines.
 numbers N: 0 i j an item's number j (0 kind, 1 weight, 2 strength, 3 isTurned, 4 width, 5 depth, 6 x, 7 y, 8 bottom, 9 top, 10 ground, 11 load, 12 nextLoad, 13 isOnPallet, 14 isReached, 15 supportCount), 1 i j the cells of its support j, 2 k j a kind's number j, 3 l j a line's (0 its kind, 1 count, 2 isAside), 4 0 c the top of cell c, 4 1 j the object's number j (0 kindCount, 1 greatestHeight, 2 support, 3 limit, 4 corners, 5 cameCount, 6 onPalletCount, 7 weightOnPallet, 8 lineCount) -/
abbrev qB : Type := (Nat → ClassId) × (Nat → Nat → Nat) × (Nat → Nat → Option Nat) × Nat × Nat
abbrev qY (B : qB) : Nat → ClassId := B.1
abbrev qA (B : qB) : Nat → Nat → Nat := B.2.1
abbrev qF (B : qB) : Nat → Nat → Option Nat := B.2.2.1
abbrev qk (B : qB) : Nat := B.2.2.2.1
abbrev ql (B : qB) : Nat := B.2.2.2.2
abbrev qR0 : Type := Nat → Nat → Option Nat
abbrev qN0 : Type := Nat → Nat → Nat → Nat
def qIt (A : Nat → Nat → Nat) (i : Nat) (g : Nat → Nat) : List Value := [.int (nI (g 0)), .int (nI (g 1)), .int (nI (g 2)), .int (nI (g 3)), .int (nI (g 4)), .int (nI (g 5)), .int (nI (g 6)), .int (nI (g 7)), .int (nI (g 8)), .int (nI (g 9)), .int (nI (g 10)), .int (nI (g 11)), .int (nI (g 12)), .int (nI (g 13)), .int (nI (g 14)), .int (nI (g 15)), .ref (A 1 i), .ref (A 2 i)]
def qKd (g : Nat → Nat) : List Value := [.int (nI (g 0)), .int (nI (g 1)), .int (nI (g 2)), .int (nI (g 3)), .int (nI (g 4)), .int (nI (g 5)), .int (nI (g 6)), .int (nI (g 7))]
def qLn (A : Nat → Nat → Nat) (g : Nat → Nat) : List Value := [.ref (A 3 (g 0)), .int (nI (g 1)), .int (nI (g 2))]
def qOb (A : Nat → Nat → Nat) (g : Nat → Nat) : List Value := [.ref (A 5 1), .int (nI (g 0)), .int (nI (g 1)), .int (nI (g 2)), .int (nI (g 3)), .int (nI (g 4)), .ref (A 5 2), .int (nI (g 5)), .int (nI (g 6)), .int (nI (g 7)), .ref (A 5 3), .ref (A 0 60), .ref (A 5 4), .int (nI (g 8))]
def qi (B : qB) (N : qN0) (i : Nat) : Nat × va_E := (qA B 0 i, .inr (0, qIt (qA B) i (N 0 i)))
def qs (B : qB) (R : qR0) (i : Nat) : Nat × va_E := (qA B 1 i, .inl (qY B 1, 36, .inr (.inr (.inr (.inr (R i))))))
def qc (B : qB) (N : qN0) (i : Nat) : Nat × va_E := (qA B 2 i, .inl (qY B 2, 36, .inl (fun j => nI (N 1 i j))))
def qd (B : qB) (N : qN0) (k : Nat) : Nat × va_E := (qA B 3 k, .inr (1, qKd (N 2 k)))
def qn (B : qB) (N : qN0) (l : Nat) : Nat × va_E := (qA B 4 l, .inr (2, qLn (qA B) (N 3 l)))
def qH (B : qB) (N : qN0) : va_W := [(qA B 5 0, .inr (3, qOb (qA B) (N 4 1))), (qA B 5 1, .inl (qY B 0, 10, .inr (.inr (.inr (.inr (qF B 0)))))), (qA B 5 2, .inl (qY B 1, 60, .inr (.inr (.inr (.inr (qF B 1)))))), (qA B 5 3, .inl (qY B 2, 120, .inl (fun c => nI (N 4 0 c)))), (qA B 5 4, .inl (qY B 3, 20, .inr (.inr (.inr (.inr (qF B 2))))))]
def qG (B : qB) (R : qR0) (N : qN0) : va_W := qH B N ++ ((List.range 61).map (qi B N) ++ ((List.range 61).map (qs B R) ++ ((List.range 61).map (qc B N) ++ ((List.range (qk B)).map (qd B N) ++ (List.range (ql B)).map (qn B N)))))
def qT (B : qB) : List (ClassId × FieldType) := [(qY B 0, .object RX1), (qY B 1, .object RX0), (qY B 2, .int), (qY B 3, .object RX2)]
theorem qap_get {X Y : va_W} {n i k : Nat} {f : Nat → Nat × va_E} (h : i < n) (hX : X.length = k) : (X ++ ((List.range n).map f ++ Y))[k + i]? = some (f i) := by
  subst hX
  rw [List.getElem?_append_right (Nat.le_add_right _ _), Nat.add_sub_cancel_left, List.getElem?_append_left (by simpa using h)]
  simp [h]
theorem qap_set {X Y : va_W} {n i k : Nat} {f g : Nat → Nat × va_E} {e : Nat × va_E} (h : i < n) (hX : X.length = k) (hi : g i = e) (ho : ∀ j, j < n → j ≠ i → g j = f j) : (X ++ ((List.range n).map f ++ Y)).set (k + i) e = X ++ ((List.range n).map g ++ Y) := by
  subst hX
  rw [List.set_append_right _ _ (Nat.le_add_right _ _), Nat.add_sub_cancel_left, List.set_append_left _ _ (by simpa using h)]
  congr 2
  apply List.ext_getElem?
  intro j
  rw [List.getElem?_set]
  by_cases hj : i = j
  · subst hj
    simp [h, hi]
  · by_cases hjn : j < n
    · simp [hj, hjn, ho j hjn (fun h9 => hj h9.symm)]
    · simp [hj, hjn]
theorem qH_len (B : qB) (N : qN0) : (qH B N).length = 5 := rfl
theorem qG_i {B : qB} {R : qR0} {N : qN0} {i : Nat} (h : i < 61) : (qG B R N)[5 + i]? = some (qA B 0 i, .inr (0, qIt (qA B) i (N 0 i))) := qap_get h rfl
theorem qG_s {B : qB} {R : qR0} {N : qN0} {i : Nat} (h : i < 61) : (qG B R N)[66 + i]? = some (qA B 1 i, .inl (qY B 1, 36, .inr (.inr (.inr (.inr (R i)))))) := by
  unfold qG
  rw [← List.append_assoc]
  exact qap_get h (by simp [qH_len])
theorem qG_c {B : qB} {R : qR0} {N : qN0} {i : Nat} (h : i < 61) : (qG B R N)[127 + i]? = some (qA B 2 i, .inl (qY B 2, 36, .inl (fun j => nI (N 1 i j)))) := by
  unfold qG
  rw [← List.append_assoc, ← List.append_assoc]
  exact qap_get h (by simp [qH_len])
theorem qG_d {B : qB} {R : qR0} {N : qN0} {i : Nat} (h : i < qk B) : (qG B R N)[188 + i]? = some (qA B 3 i, .inr (1, qKd (N 2 i))) := by
  unfold qG
  rw [← List.append_assoc, ← List.append_assoc, ← List.append_assoc]
  exact qap_get h (by simp [qH_len])
theorem qG_n {B : qB} {R : qR0} {N : qN0} {i : Nat} (h : i < ql B) : (qG B R N)[188 + qk B + i]? = some (qA B 4 i, .inr (2, qLn (qA B) (N 3 i))) := by
  unfold qG
  rw [← List.append_assoc, ← List.append_assoc, ← List.append_assoc, ← List.append_assoc, ← List.append_nil ((List.range (ql B)).map (qn B N))]
  exact qap_get h (by simp [qH_len]; omega)
/-- one number changed -/
def qp (N : qN0) (c i j x : Nat) : qN0 := fun c' i' j' => if c' = c ∧ i' = i ∧ j' = j then x else N c' i' j'
theorem qp_eq (N : qN0) (c i j x : Nat) : qp N c i j x c i j = x := by simp [qp]
theorem qp_c (N : qN0) {c c' : Nat} (i j x i' j' : Nat) (h : c' ≠ c) : qp N c i j x c' i' j' = N c' i' j' := by simp [qp, h]
theorem qp_i (N : qN0) (c : Nat) {i i' : Nat} (j x c' j' : Nat) (h : i' ≠ i) : qp N c i j x c' i' j' = N c' i' j' := by simp [qp, h]
theorem qp_j (N : qN0) (c i : Nat) {j j' : Nat} (x c' i' : Nat) (h : j' ≠ j) : qp N c i j x c' i' j' = N c' i' j' := by simp [qp, h]
theorem qp_row (N : qN0) (c i j x : Nat) : qp N c i j x c i = fun j' => if j' = j then x else N c i j' := by funext j'; simp [qp]
theorem qIt_set {A : Nat → Nat → Nat} {i j x : Nat} {g : Nat → Nat} (h : j < 16) : (qIt A i g).set j (.int (nI x)) = qIt A i (fun j' => if j' = j then x else g j') := by
  rcases (show j = 0 ∨ j = 1 ∨ j = 2 ∨ j = 3 ∨ j = 4 ∨ j = 5 ∨ j = 6 ∨ j = 7 ∨ j = 8 ∨ j = 9 ∨ j = 10 ∨ j = 11 ∨ j = 12 ∨ j = 13 ∨ j = 14 ∨ j = 15 by omega) with h | h | h | h | h | h | h | h | h | h | h | h | h | h | h | h <;> subst h <;> rfl
/-- a number of an item is written -/
theorem qG_pi {B : qB} {R : qR0} {N : qN0} {i j x : Nat} (h : i < 61) (hj : j < 16) : (qG B R N).set (5 + i) (qA B 0 i, .inr (0, (qIt (qA B) i (N 0 i)).set j (.int (nI x)))) = qG B R (qp N 0 i j x) := by
  unfold qG
  rw [qap_set (k := 5) (g := qi B (qp N 0 i j x)) h rfl (by unfold qi; rw [qp_row, qIt_set hj]) (fun k _ hk => by unfold qi; rw [show qp N 0 i j x 0 k = N 0 k by funext j'; exact qp_i _ _ _ _ _ _ hk])]
  congr 1
theorem qG_row {B : qB} {R : qR0} {N N' : qN0} (h0 : ∀ i, i < 61 → ∀ j, j < 16 → N' 0 i j = N 0 i j) (h1 : ∀ i, i < 61 → N' 1 i = N 1 i) (h2 : ∀ k, k < qk B → ∀ j, j < 8 → N' 2 k j = N 2 k j) (h3 : ∀ l, l < ql B → ∀ j, j < 3 → N' 3 l j = N 3 l j) (h4 : N' 4 0 = N 4 0) (h5 : ∀ j, j < 9 → N' 4 1 j = N 4 1 j) : qG B R N' = qG B R N := by
  unfold qG
  congr 1
  · unfold qH qOb
    rw [h4]
    simp only [h5 0 (by decide), h5 1 (by decide), h5 2 (by decide), h5 3 (by decide), h5 4 (by decide), h5 5 (by decide), h5 6 (by decide), h5 7 (by decide), h5 8 (by decide)]
  · congr 1
    · apply List.map_congr_left
      intro i hi
      have hi := List.mem_range.mp hi
      unfold qi qIt
      simp only [h0 i hi 0 (by decide), h0 i hi 1 (by decide), h0 i hi 2 (by decide), h0 i hi 3 (by decide), h0 i hi 4 (by decide), h0 i hi 5 (by decide), h0 i hi 6 (by decide), h0 i hi 7 (by decide), h0 i hi 8 (by decide), h0 i hi 9 (by decide), h0 i hi 10 (by decide), h0 i hi 11 (by decide), h0 i hi 12 (by decide), h0 i hi 13 (by decide), h0 i hi 14 (by decide), h0 i hi 15 (by decide)]
    · congr 1
      congr 1
      · apply List.map_congr_left
        intro i hi
        unfold qc
        rw [h1 i (List.mem_range.mp hi)]
      · congr 1
        · apply List.map_congr_left
          intro k hk
          have hk := List.mem_range.mp hk
          unfold qd qKd
          simp only [h2 k hk 0 (by decide), h2 k hk 1 (by decide), h2 k hk 2 (by decide), h2 k hk 3 (by decide), h2 k hk 4 (by decide), h2 k hk 5 (by decide), h2 k hk 6 (by decide), h2 k hk 7 (by decide)]
        · apply List.map_congr_left
          intro l hl
          have hl := List.mem_range.mp hl
          unfold qn qLn
          simp only [h3 l hl 0 (by decide), h3 l hl 1 (by decide), h3 l hl 2 (by decide)]
theorem qOb_set {A : Nat → Nat → Nat} {j x : Nat} {g : Nat → Nat} (h : j < 9) : (qOb A g).set ([1, 2, 3, 4, 5, 7, 8, 9, 13].getD j 0) (.int (nI x)) = qOb A (fun j' => if j' = j then x else g j') := by
  rcases (show j = 0 ∨ j = 1 ∨ j = 2 ∨ j = 3 ∨ j = 4 ∨ j = 5 ∨ j = 6 ∨ j = 7 ∨ j = 8 by omega) with h | h | h | h | h | h | h | h | h <;> subst h <;> rfl
theorem qG_headN {B : qB} {R : qR0} {N N' : qN0} (h0 : N' 0 = N 0) (h1 : N' 1 = N 1) (h2 : N' 2 = N 2) (h3 : N' 3 = N 3) : qG B R N' = qH B N' ++ ((List.range 61).map (qi B N) ++ ((List.range 61).map (qs B R) ++ ((List.range 61).map (qc B N) ++ ((List.range (qk B)).map (qd B N) ++ (List.range (ql B)).map (qn B N))))) := by
  unfold qG
  have e0 : qi B N' = qi B N := by funext i; unfold qi; rw [h0]
  have e1 : qc B N' = qc B N := by funext i; unfold qc; rw [h1]
  have e2 : qd B N' = qd B N := by funext i; unfold qd; rw [h2]
  have e3 : qn B N' = qn B N := by funext i; unfold qn; rw [h3]
  rw [e0, e1, e2, e3]
theorem qp_c4 (N : qN0) (i j x c : Nat) (h : c ≠ 4) : qp N 4 i j x c = N c := by funext i' j'; simp [qp, h]
/-- a number of the object is written -/
theorem qG_po {B : qB} {R : qR0} {N : qN0} {j x : Nat} {f : Nat} (hf : [1, 2, 3, 4, 5, 7, 8, 9, 13].getD j 0 = f) (h : j < 9) : (qG B R N).set 0 (qA B 5 0, .inr (3, (qOb (qA B) (N 4 1)).set f (.int (nI x)))) = qG B R (qp N 4 1 j x) := by
  subst hf
  rw [qG_headN (N := N) (N' := qp N 4 1 j x) (qp_c4 _ _ _ _ _ (by decide)) (qp_c4 _ _ _ _ _ (by decide)) (qp_c4 _ _ _ _ _ (by decide)) (qp_c4 _ _ _ _ _ (by decide)), qOb_set h]
  unfold qG qH
  rw [qp_row, show qp N 4 1 j x 4 0 = N 4 0 by funext c; simp [qp]]
  rfl
/-- a top is written -/
theorem qG_pt {B : qB} {R : qR0} {N : qN0} {c x : Nat} : (qG B R N).set 3 (qA B 5 3, .inl (qY B 2, 120, .inl (upd (fun c => nI (N 4 0 c)) c (nI x)))) = qG B R (qp N 4 0 c x) := by
  rw [qG_headN (N := N) (N' := qp N 4 0 c x) (qp_c4 _ _ _ _ _ (by decide)) (qp_c4 _ _ _ _ _ (by decide)) (qp_c4 _ _ _ _ _ (by decide)) (qp_c4 _ _ _ _ _ (by decide))]
  unfold qG qH
  rw [show qp N 4 0 c x 4 1 = N 4 1 by funext j; simp [qp], show (fun c' => nI (qp N 4 0 c x 4 0 c')) = upd (fun c => nI (N 4 0 c)) c (nI x) by
    funext c'
    simp only [qp, upd]
    by_cases h : c' = c
    · simp [h]
    · simp [h]]
  rfl
/-- a line's count or isAside is written -/
theorem qLn_set {A : Nat → Nat → Nat} {j x : Nat} {g : Nat → Nat} (h1 : 0 < j) (h : j < 3) : (qLn A g).set j (.int (nI x)) = qLn A (fun j' => if j' = j then x else g j') := by
  rcases (show j = 1 ∨ j = 2 by omega) with h | h <;> subst h <;> rfl
theorem qG_pn {B : qB} {R : qR0} {N : qN0} {i j x : Nat} (h : i < ql B) (h1 : 0 < j) (hj : j < 3) : (qG B R N).set (188 + qk B + i) (qA B 4 i, .inr (2, (qLn (qA B) (N 3 i)).set j (.int (nI x)))) = qG B R (qp N 3 i j x) := by
  unfold qG
  rw [← List.append_assoc, ← List.append_assoc, ← List.append_assoc, ← List.append_assoc, ← List.append_nil ((List.range (ql B)).map (qn B N))]
  rw [qap_set (k := 188 + qk B) (g := qn B (qp N 3 i j x)) h (by simp [qH_len]; omega) (by unfold qn; rw [qp_row, qLn_set h1 hj]) (fun k _ hk => by unfold qn; rw [show qp N 3 i j x 3 k = N 3 k by funext j'; exact qp_i _ _ _ _ _ _ hk])]
  rw [List.append_nil, List.append_assoc, List.append_assoc, List.append_assoc, List.append_assoc]
  congr 1
/-- one support, one number of cells is written -/
def qr (R : qR0) (i j : Nat) (x : Option Nat) : qR0 := fun i' j' => if i' = i ∧ j' = j then x else R i' j'
theorem qG_ps {B : qB} {R : qR0} {N : qN0} {i j q : Nat} (h : i < 61) : (qG B R N).set (66 + i) (qA B 1 i, .inl (qY B 1, 36, .inr (.inr (.inr (.inr (va_up (R i) j (some q))))))) = qG B (qr R i j (some q)) N := by
  unfold qG
  rw [← List.append_assoc]
  rw [qap_set (k := 66) (g := qs B (qr R i j (some q))) h (by simp [qH_len]) (by
    unfold qs
    rw [show qr R i j (some q) i = va_up (R i) j (some q) by
      funext j'
      simp only [qr, va_up]
      by_cases h9 : j' = j <;> simp [h9]]) (fun k _ hk => by unfold qs; rw [show qr R i j (some q) k = R k by funext j'; simp [qr, hk]])]
  rw [List.append_assoc]
theorem qG_pc {B : qB} {R : qR0} {N : qN0} {i j x : Nat} (h : i < 61) : (qG B R N).set (127 + i) (qA B 2 i, .inl (qY B 2, 36, .inl (upd (fun j => nI (N 1 i j)) j (nI x)))) = qG B R (qp N 1 i j x) := by
  unfold qG
  rw [← List.append_assoc, ← List.append_assoc]
  rw [qap_set (k := 127) (g := qc B (qp N 1 i j x)) h (by simp [qH_len]) (by
    unfold qc
    rw [show (fun j' => nI (qp N 1 i j x 1 i j')) = upd (fun j => nI (N 1 i j)) j (nI x) by
      funext j'
      simp only [qp, upd]
      by_cases h9 : j' = j <;> simp [h9]]) (fun k _ hk => by unfold qc; rw [show qp N 1 i j x 1 k = N 1 k by funext j'; exact qp_i _ _ _ _ _ _ hk])]
  rw [List.append_assoc, List.append_assoc]
  congr 1
/-- every number is small -/
def qM (N : qN0) : Prop := ∀ c i j, N c i j ≤ 1000000
theorem qM_p {N : qN0} {c i j x : Nat} (h : qM N) (hx : x ≤ 1000000) : qM (qp N c i j x) := fun c' i' j' => by
  unfold qp
  split
  · exact hx
  · exact h c' i' j'
theorem qlt {a b : Nat} (ha : a < 2 ^ 31) (hb : b < 2 ^ 31) : nI a < nI b ↔ a < b := nI_ltI ha hb
theorem qeq {a b : Nat} (ha : a < 2 ^ 31) (hb : b < 2 ^ 31) : nI a = nI b ↔ a = b := by
  rw [← Int32.toInt_inj, nI_toInt ha, nI_toInt hb]; omega
theorem qnar {x : Nat} (h : x < 2) : narrow .boolean (.int (nI x)) = .int (nI x) := by
  rcases (show x = 0 ∨ x = 1 by omega) with h | h <;> subst h <;> rfl
/-- the arrays of references are as the numbers say -/
def qOK (B : qB) (N : qN0) : Prop := (∀ i, i < 60 → qF B 1 i = some (qA B 0 i)) ∧ (∀ k, k < qk B → qF B 0 k = some (qA B 3 k)) ∧ (∀ l, l < ql B → qF B 2 l = some (qA B 4 l)) ∧ N 4 1 0 = qk B ∧ N 4 1 8 = ql B ∧ qk B ≤ 10 ∧ ql B ≤ 20 ∧ N 4 1 5 ≤ 60 ∧ (∀ i, i < N 4 1 5 → N 0 i 13 = 1)
end
section
/-! sums -/
def qsum (f : Nat → Nat) : Nat → Nat
  | 0 => 0
  | n + 1 => qsum f n + f n
theorem qsum_congr {f g : Nat → Nat} {n : Nat} (h : ∀ i, i < n → f i = g i) : qsum f n = qsum g n := by
  induction n with
  | zero => rfl
  | succ n ih => simp only [qsum]; rw [ih (fun i hi => h i (by omega)), h n (by omega)]
theorem qsum_add (f g : Nat → Nat) (n : Nat) : qsum (fun i => f i + g i) n = qsum f n + qsum g n := by
  induction n with
  | zero => rfl
  | succ n ih => simp only [qsum]; omega
theorem qsum_zero {f : Nat → Nat} {n : Nat} (h : ∀ i, i < n → f i = 0) : qsum f n = 0 := by
  induction n with
  | zero => rfl
  | succ n ih => simp only [qsum]; rw [ih (fun i hi => h i (by omega)), h n (by omega)]
theorem qsum_le {f g : Nat → Nat} {n : Nat} (h : ∀ i, i < n → f i ≤ g i) : qsum f n ≤ qsum g n := by
  induction n with
  | zero => exact Nat.le_refl _
  | succ n ih =>
    simp only [qsum]
    have h1 := ih (fun i hi => h i (by omega))
    have h2 := h n (by omega)
    omega
theorem qsum_mono {f : Nat → Nat} {m n : Nat} (h : m ≤ n) : qsum f m ≤ qsum f n := by
  induction n with
  | zero => have : m = 0 := by omega
            subst this; exact Nat.le_refl _
  | succ n ih =>
    by_cases hm : m = n + 1
    · subst hm; exact Nat.le_refl _
    · have := ih (by omega)
      simp only [qsum]; omega
theorem qsum_mem {f : Nat → Nat} {n i : Nat} (h : i < n) : f i ≤ qsum f n := by
  have := qsum_mono (f := f) (m := i + 1) (n := n) h
  simp only [qsum] at this; omega
theorem qsum_const (c n : Nat) : qsum (fun _ => c) n = c * n := by
  induction n with
  | zero => rfl
  | succ n ih => simp only [qsum]; rw [ih]; rw [Nat.mul_succ]
theorem qsum_one {f : Nat → Nat} {n i : Nat} (hi : i < n) (h : ∀ j, j < n → j ≠ i → f j = 0) : qsum f n = f i := by
  induction n with
  | zero => omega
  | succ n ih =>
    simp only [qsum]
    by_cases hn : i = n
    · subst hn
      rw [qsum_zero (fun j hj => h j (by omega) (by omega))]; omega
    · rw [ih (by omega) (fun j hj hne => h j (by omega) hne), h n (by omega) (fun h9 => hn h9.symm)]; omega
theorem qsum_swap (f : Nat → Nat → Nat) (n m : Nat) : qsum (fun i => qsum (f i) m) n = qsum (fun j => qsum (fun i => f i j) n) m := by
  induction n with
  | zero => simp only [qsum]; exact (qsum_zero (fun _ _ => rfl)).symm
  | succ n ih =>
    simp only [qsum]
    rw [ih, ← qsum_add]
theorem qsum_mul (c : Nat) (f : Nat → Nat) (n : Nat) : qsum (fun i => c * f i) n = c * qsum f n := by
  induction n with
  | zero => rfl
  | succ n ih => simp only [qsum]; rw [ih, Nat.mul_add]
theorem qsum_rev (f : Nat → Nat) (n : Nat) : qsum (fun j => f (n - 1 - j)) n = qsum f n := by
  have key : ∀ k, k ≤ n → qsum (fun j => f (n - 1 - j)) k + qsum f (n - k) = qsum f n := by
    intro k
    induction k with
    | zero => intro _; simp only [qsum, Nat.sub_zero]; omega
    | succ k ih =>
      intro hk
      have h1 := ih (by omega)
      rw [show n - k = (n - (k + 1)) + 1 by omega] at h1
      simp only [qsum] at h1 ⊢
      rw [show n - 1 - k = n - (k + 1) by omega]
      omega
  have := key n (Nat.le_refl _)
  rw [Nat.sub_self] at this
  simpa [qsum] using this
/-- a number put -/
def qu (f : Nat → Nat) (k x : Nat) : Nat → Nat := fun j => if j = k then x else f j
theorem qu_eq (f : Nat → Nat) (k x : Nat) : qu f k x k = x := by simp [qu]
theorem qu_ne (f : Nat → Nat) {k j : Nat} (x : Nat) (h : j ≠ k) : qu f k x j = f j := by simp [qu, h]
theorem qsum_qu {f : Nat → Nat} {n i x : Nat} (hi : i < n) : qsum (qu f i x) n + f i = qsum f n + x := by
  induction n with
  | zero => omega
  | succ n ih =>
    simp only [qsum]
    by_cases hn : i = n
    · subst hn
      rw [qsum_congr (g := f) (fun j hj => qu_ne f x (by omega)), qu_eq]; omega
    · have := ih (by omega)
      rw [qu_ne f x (show n ≠ i from fun h9 => hn h9.symm)]; omega
/-! loads: what one item puts on those under it -/
def qPs (S C : Nat → Nat) (t g : Nat) (v : Nat → Nat) : Nat → Nat → Nat
  | 0 => v
  | j + 1 => qu (qPs S C t g v j) (S j) (qPs S C t g v j (S j) + t * C j / g)
theorem qPs_ne {S C : Nat → Nat} {t g i : Nat} {v : Nat → Nat} {m : Nat} (h : ∀ j, j < m → S j ≠ i) : qPs S C t g v m i = v i := by
  induction m with
  | zero => rfl
  | succ m ih =>
    show qu _ _ _ i = _
    rw [qu_ne _ _ (fun h9 => h m (by omega) h9.symm), ih (fun j hj => h j (by omega))]
theorem qPs_sum {S C : Nat → Nat} {t g n : Nat} {v : Nat → Nat} {m : Nat} (h : ∀ j, j < m → S j < n) : qsum (qPs S C t g v m) n = qsum v n + qsum (fun j => t * C j / g) m := by
  induction m with
  | zero => rfl
  | succ m ih =>
    have h1 := ih (fun j hj => h j (by omega))
    have h2 := qsum_qu (f := qPs S C t g v m) (x := qPs S C t g v m (S m) + t * C m / g) (h m (by omega))
    show qsum (qu (qPs S C t g v m) (S m) (qPs S C t g v m (S m) + t * C m / g)) n = qsum v n + (qsum (fun j => t * C j / g) m + t * C m / g)
    omega
theorem qPs_bd {S C : Nat → Nat} {t g i b c : Nat} {v : Nat → Nat} {m : Nat} (hv : ∀ i, v i ≤ b) (hc : ∀ j, j < m → t * C j / g ≤ c) : qPs S C t g v m i ≤ b + m * c := by
  induction m generalizing i with
  | zero => have := hv i
            show v i ≤ _; omega
  | succ m ih =>
    have h0 : m * c + c = (m + 1) * c := (Nat.succ_mul m c).symm
    by_cases hi : i = S m
    · subst hi
      show qu _ _ _ (S m) ≤ _
      rw [qu_eq]
      have h1 := ih (i := S m) (fun j hj => hc j (by omega))
      have h2 := hc m (by omega)
      omega
    · show qu _ _ _ i ≤ _
      rw [qu_ne _ _ hi]
      have h1 := ih (i := i) (fun j hj => hc j (by omega))
      omega
theorem qfl_le {C : Nat → Nat} {t g m : Nat} (hg : 0 < g) (hC : qsum C m ≤ g) : qsum (fun j => t * C j / g) m ≤ t := by
  have h1 : qsum (fun j => t * C j / g) m * g ≤ t * qsum C m := by
    rw [← qsum_mul, Nat.mul_comm, ← qsum_mul]
    exact qsum_le (fun j _ => Nat.mul_div_le _ _)
  have h2 : qsum (fun j => t * C j / g) m * g ≤ t * g := Nat.le_trans h1 (Nat.mul_le_mul_left t hC)
  exact Nat.le_of_mul_le_mul_right h2 hg
theorem qfl_ge {C : Nat → Nat} {t g m : Nat} (hg : 0 < g) (hC : qsum C m = g) : t ≤ qsum (fun j => t * C j / g) m + m := by
  have h1 : t * qsum C m ≤ (qsum (fun j => t * C j / g) m + m) * g := by
    rw [← qsum_mul, Nat.mul_comm (_ + m)]
    have h2 : qsum (fun j => t * C j / g) m + m = qsum (fun j => t * C j / g + 1) m := by rw [qsum_add, qsum_const, Nat.one_mul]
    rw [h2, ← qsum_mul]
    refine qsum_le (fun j _ => ?_)
    have h3 := Nat.div_add_mod (t * C j) g
    have h4 := Nat.mod_lt (t * C j) hg
    rw [Nat.mul_add, Nat.mul_one]; omega
  rw [hC] at h1
  exact Nat.le_of_mul_le_mul_right h1 hg
/-- the loads, from the last item down -/
def qLd (S C : Nat → Nat → Nat) (w g m : Nat → Nat) (n : Nat) (v : Nat → Nat) : Nat → Nat → Nat
  | 0 => v
  | k + 1 => qPs (S (n - 1 - k)) (C (n - 1 - k)) (w (n - 1 - k) + qLd S C w g m n v k (n - 1 - k)) (g (n - 1 - k)) (qLd S C w g m n v k) (m (n - 1 - k))
theorem qLd_keep {S C : Nat → Nat → Nat} {w g m : Nat → Nat} {n : Nat} {v : Nat → Nat} (hS : ∀ i, i < n → ∀ j, j < m i → S i j < i) {k i : Nat} (hk : k ≤ n) (hi : n ≤ i + k + 1) : ∀ k', k ≤ k' → k' ≤ n → qLd S C w g m n v k' i = qLd S C w g m n v k i := by
  intro k' h1
  induction k' with
  | zero => intro _; have : k = 0 := by omega
            subst this; rfl
  | succ k' ih =>
    intro h2
    by_cases he : k = k' + 1
    · subst he; rfl
    · show qPs _ _ _ _ _ _ i = _
      rw [qPs_ne (fun j hj => ?_)]
      · exact ih (by omega) (by omega)
      · have := hS (n - 1 - k') (by omega) j hj
        omega
/-- what is put on the deck and what lies above, together, are the weights, but for what cutting takes -/
theorem qLd_all {S C : Nat → Nat → Nat} {w g m : Nat → Nat} {n : Nat} {z : Nat → Bool} (hS : ∀ i, i < n → ∀ j, j < m i → S i j < i) (hz : ∀ i, i < n → z i = true → m i = 0) (hg : ∀ i, i < n → z i = false → 0 < g i ∧ qsum (C i) (m i) = g i) :
    ∀ k, k ≤ n → ∀ v, v = qLd S C w g m n (fun _ => 0) k → qsum v (n - k) + qsum (fun j => if z (n - 1 - j) then w (n - 1 - j) + v (n - 1 - j) else 0) k ≤ qsum (fun j => w (n - 1 - j)) k ∧
      qsum (fun j => w (n - 1 - j)) k ≤ qsum v (n - k) + qsum (fun j => if z (n - 1 - j) then w (n - 1 - j) + v (n - 1 - j) else 0) k + qsum (fun j => m (n - 1 - j)) k := by
  intro k
  induction k with
  | zero =>
    intro _ v hv
    subst hv
    have : qsum (qLd S C w g m n (fun _ => 0) 0) (n - 0) = 0 := qsum_zero (fun _ _ => rfl)
    rw [this]; simp [qsum]
  | succ k ih =>
    intro hk v' hv'
    obtain ⟨v, hv⟩ : ∃ v, v = qLd S C w g m n (fun _ => 0) k := ⟨_, rfl⟩
    obtain ⟨i1, i2⟩ := ih (by omega) v hv
    obtain ⟨t, ht⟩ : ∃ t, t = n - 1 - k := ⟨_, rfl⟩
    have hv2 : v' = qPs (S t) (C t) (w t + v t) (g t) v (m t) := by rw [hv', hv, ht]; rfl
    have hSt := hS t (by omega)
    have same : ∀ i, t ≤ i → v' i = v i := fun i hi => by
      rw [hv2]; exact qPs_ne (fun j hj => by have := hSt j hj; omega)
    have hB : qsum (fun j => if z (n - 1 - j) then w (n - 1 - j) + v' (n - 1 - j) else 0) k = qsum (fun j => if z (n - 1 - j) then w (n - 1 - j) + v (n - 1 - j) else 0) k := qsum_congr (fun j hj => by rw [same _ (by omega)])
    have hA : qsum v' t = qsum v t + qsum (fun j => (w t + v t) * C t j / g t) (m t) := by rw [hv2]; exact qPs_sum hSt
    rw [show n - k = t + 1 by omega] at i1 i2
    rw [show n - (k + 1) = t by omega]
    simp only [qsum] at i1 i2 ⊢
    rw [hB, ← ht, same t (Nat.le_refl _), hA]
    by_cases hzt : z t = true
    · rw [if_pos hzt]
      have hm := hz t (by omega) hzt
      rw [hm] at *
      simp only [qsum] at *
      constructor <;> omega
    · have hzf : z t = false := by simpa using hzt
      rw [if_neg hzt]
      obtain ⟨g1, g2⟩ := hg t (by omega) hzf
      have f1 := qfl_le (t := w t + v t) g1 (Nat.le_of_eq g2)
      have f2 := qfl_ge (t := w t + v t) g1 g2
      constructor <;> omega
theorem qLd_le {S C : Nat → Nat → Nat} {w g m : Nat → Nat} {n : Nat} {z : Nat → Bool} (hS : ∀ i, i < n → ∀ j, j < m i → S i j < i) (hz : ∀ i, i < n → z i = true → m i = 0) (hg : ∀ i, i < n → z i = false → 0 < g i ∧ qsum (C i) (m i) = g i) {k i : Nat} (hk : k ≤ n) (hi : i < n) : qLd S C w g m n (fun _ => 0) k i ≤ qsum w n := by
  have small : ∀ k, k ≤ n → i < n - k → qLd S C w g m n (fun _ => 0) k i ≤ qsum w n := fun k hk hik => by
    have h1 := (qLd_all (w := w) hS hz hg k hk _ rfl).1
    have h2 := qsum_mem (f := qLd S C w g m n (fun _ => 0) k) hik
    have h3 : qsum (fun j => w (n - 1 - j)) k ≤ qsum (fun j => w (n - 1 - j)) n := qsum_mono hk
    rw [qsum_rev] at h3
    omega
  by_cases h : i < n - k
  · exact small k hk h
  · have := qLd_keep (v := fun _ => 0) (C := C) (w := w) (g := g) hS (k := n - 1 - i) (i := i) (by omega) (by omega) k (by omega) hk
    rw [this]
    exact small (n - 1 - i) (by omega) (by omega)
theorem qLd_borne {S C : Nat → Nat → Nat} {w g m : Nat → Nat} {n : Nat} {z : Nat → Bool} (hS : ∀ i, i < n → ∀ j, j < m i → S i j < i) (hz : ∀ i, i < n → z i = true → m i = 0) (hg : ∀ i, i < n → z i = false → 0 < g i ∧ qsum (C i) (m i) = g i) :
    qsum (fun i => if z i then w i + qLd S C w g m n (fun _ => 0) n i else 0) n ≤ qsum w n ∧ qsum w n ≤ qsum (fun i => if z i then w i + qLd S C w g m n (fun _ => 0) n i else 0) n + qsum m n := by
  obtain ⟨h1, h2⟩ := qLd_all (w := w) hS hz hg n (Nat.le_refl _) _ rfl
  rw [Nat.sub_self] at h1 h2
  rw [qsum_rev w, qsum_rev (fun i => if z i then w i + qLd S C w g m n (fun _ => 0) n i else 0)] at h1 h2
  rw [qsum_rev m] at h2
  simp only [qsum] at h1 h2
  constructor <;> omega
/-! cells -/
def qov (a la b lb : Nat) : Nat := min (a + la) (b + lb) - max a b
theorem qov_cnt (a la b lb : Nat) : qsum (fun i => if b ≤ a + i ∧ a + i < b + lb then 1 else 0) la = qov a la b lb := by
  induction la with
  | zero => simp only [qsum, qov]; omega
  | succ n ih =>
    simp only [qsum]
    rw [ih]
    unfold qov
    by_cases h : b ≤ a + n ∧ a + n < b + lb
    · rw [if_pos h]; omega
    · rw [if_neg h]; omega
/-- how many cells of a field have a property, row by row -/
def qcnt (x w y d : Nat) (P : Nat → Nat → Bool) : Nat := qsum (fun b => qsum (fun a => if P (x + a) (y + b) then 1 else 0) w) d
def qcov (x w y d cx cy : Nat) : Bool := decide (x ≤ cx) && decide (cx < x + w) && decide (y ≤ cy) && decide (cy < y + d)
theorem qcov_iff {x w y d cx cy : Nat} : qcov x w y d cx cy = true ↔ (x ≤ cx ∧ cx < x + w) ∧ (y ≤ cy ∧ cy < y + d) := by
  simp [qcov, and_assoc]
theorem qcnt_cov (x w y d x' w' y' d' : Nat) : qcnt x w y d (qcov x' w' y' d') = qov x w x' w' * qov y d y' d' := by
  unfold qcnt
  rw [← qov_cnt y d, ← qsum_mul]
  refine qsum_congr (fun b _ => ?_)
  rw [← qov_cnt x w]
  by_cases hb : y' ≤ y + b ∧ y + b < y' + d'
  · rw [if_pos hb, Nat.mul_one]
    refine qsum_congr (fun a _ => ?_)
    by_cases ha : x' ≤ x + a ∧ x + a < x' + w'
    · rw [if_pos ha, if_pos (qcov_iff.mpr ⟨ha, hb⟩)]
    · rw [if_neg ha, if_neg (fun h => ha (qcov_iff.mp h).1)]
  · rw [if_neg hb, Nat.mul_zero]
    exact qsum_zero (fun a _ => if_neg (fun h => hb (qcov_iff.mp h).2))
theorem qcnt_le (x w y d : Nat) (P : Nat → Nat → Bool) : qcnt x w y d P ≤ w * d := by
  unfold qcnt
  rw [← qsum_const]
  refine qsum_le (fun b _ => ?_)
  have h : qsum (fun a => if P (x + a) (y + b) then 1 else 0) w ≤ qsum (fun _ => 1) w := qsum_le (fun a _ => by split <;> omega)
  rw [qsum_const] at h; omega
theorem qcnt_congr {x w y d : Nat} {P P' : Nat → Nat → Bool} (h : ∀ a b, a < w → b < d → P (x + a) (y + b) = P' (x + a) (y + b)) : qcnt x w y d P = qcnt x w y d P' :=
  qsum_congr (fun b hb => qsum_congr (fun a ha => by rw [h a b ha hb]))
/-- the sum, over some items, of the cells that each has in common with a field, is what it has of cells that exactly one of them covers -/
theorem qcnt_split {x w y d n : Nat} {K : Nat → Bool} {X Wd Y Dp : Nat → Nat} {P : Nat → Nat → Bool} (h1 : ∀ a b, a < w → b < d → P (x + a) (y + b) = true → ∃ k, k < n ∧ K k = true ∧ qcov (X k) (Wd k) (Y k) (Dp k) (x + a) (y + b) = true ∧ ∀ k', k' < n → K k' = true → qcov (X k') (Wd k') (Y k') (Dp k') (x + a) (y + b) = true → k' = k)
    (h2 : ∀ a b, a < w → b < d → P (x + a) (y + b) = false → ∀ k, k < n → K k = true → qcov (X k) (Wd k) (Y k) (Dp k) (x + a) (y + b) = false) :
    qsum (fun k => if K k then qov x w (X k) (Wd k) * qov y d (Y k) (Dp k) else 0) n = qcnt x w y d P := by
  have e1 : ∀ k, (if K k then qov x w (X k) (Wd k) * qov y d (Y k) (Dp k) else 0) = qsum (fun b => qsum (fun a => if K k && qcov (X k) (Wd k) (Y k) (Dp k) (x + a) (y + b) then 1 else 0) w) d := fun k => by
    by_cases hk : K k = true
    · rw [if_pos hk, ← qcnt_cov]
      unfold qcnt
      simp only [hk, Bool.true_and]
    · rw [if_neg hk]
      have hk : K k = false := by simpa using hk
      simp only [hk, Bool.false_and]
      exact (qsum_zero (fun b _ => qsum_zero (fun a _ => rfl))).symm
  rw [qsum_congr (fun k _ => e1 k), qsum_swap]
  refine qsum_congr (fun b hb => ?_)
  rw [qsum_swap]
  refine qsum_congr (fun a ha => ?_)
  by_cases hp : P (x + a) (y + b) = true
  · obtain ⟨k, hk, hK, hc, hu⟩ := h1 a b ha hb hp
    rw [if_pos hp, qsum_one (i := k) hk (fun k' hk' hne => ?_)]
    · rw [hK, hc]; rfl
    · by_cases hK' : K k' = true
      · by_cases hc' : qcov (X k') (Wd k') (Y k') (Dp k') (x + a) (y + b) = true
        · exact absurd (hu k' hk' hK' hc') hne
        · simp [hc']
      · simp [hK']
  · rw [if_neg hp]
    have hp : P (x + a) (y + b) = false := by simpa using hp
    refine qsum_zero (fun k hk => ?_)
    by_cases hK' : K k = true
    · simp [h2 a b ha hb hp k hk hK']
    · simp [hK']
end
section
theorem qsub_le {a b : Nat} (ha : a < 2 ^ 30) (hb : b < 2 ^ 30) : nI a - nI b ≤ 0 ↔ a ≤ b := by
  rw [Int32.le_iff_toInt_le, pk_sub_toInt ha hb]
  show (a : Int) - b ≤ 0 ↔ _
  omega
theorem qmin {a b : Nat} (ha : a < 2 ^ 30) (hb : b < 2 ^ 30) : (if nI b < nI a then nI b else nI a) = nI (min a b) := by
  by_cases h : b < a
  · rw [if_pos ((nI_ltI (by omega) (by omega)).mpr h), Nat.min_eq_right (by omega)]
  · rw [if_neg (fun h9 => h ((nI_ltI (by omega) (by omega)).mp h9)), Nat.min_eq_left (by omega)]
theorem qmax {a b : Nat} (ha : a < 2 ^ 30) (hb : b < 2 ^ 30) : (if nI a < nI b then nI b else nI a) = nI (max a b) := by
  by_cases h : a < b
  · rw [if_pos ((nI_ltI (by omega) (by omega)).mpr h), Nat.max_eq_right (by omega)]
  · rw [if_neg (fun h9 => h ((nI_ltI (by omega) (by omega)).mp h9)), Nat.max_eq_left (by omega)]
/-- the greatest of some numbers -/
def qmx (f : Nat → Nat) : Nat → Nat
  | 0 => 0
  | n + 1 => max (qmx f n) (f n)
/-- which number of an item 'item' tells -/
def qwh (w : Nat) : Nat := [0, 6, 7, 8, 9, 3, 11, 0, 15, 10].getD w 0
section QD
variable {p : Program} {l : Launch} {e : Env} {R : Room} {s : State} {m : MethodId} {args : Array Value} {below : List Frame} {meth : Method} {c : Code} {H : Heap} {locs : List Loc} {cells slots : Nat} {Q : State → Prop}
variable {pc : Nat} {ls : Array Slot} {rest As : List Value} {A : Nat → Prop} {H0 : Heap} {mc ms n index nL maxL : Nat} {D : zG} {tys tc : List (ClassId × FieldType)} {wc : va_W} {y : MethodName} {bytes cc : ByteArray} {ret : Option FieldType} {wsy Ts : List Cond} {rm : Room} {own C : String} {b n0 : Nat}
theorem qrdVd {post : UInt64 → Prop} (S : CallFix p m c cc nL s args Ts own) (hM : Met l y wsy rm (zPc D tc wc H.size (.ref b :: As)) (vp_Sd post) 0 0 (fun _ => False)) (cw : CallW R s args own C index y bytes maxL ret wsy rm 0 0 n)
    (hK : va_K D vwCl tys s) (hPc : va_P D vwCl wc H) (hDc : va_D A wc) (it : List Nat) (hT : it.filterMap (fun i => tys[i]?) = tc)
    {ci q0 : Nat} {T : u_T} {N : Nat} {fs : List Value} (hc : vwCl[ci]? = some (C, T, N)) (he : wc[q0]? = some (b, .inr (ci, fs)))
    (ha : As.length = n) (hsz : ls.size = nL) {st : List Value} (hst : st = As.reverse ++ .ref b :: rest) (hW : (rest.map fun v => v.category).sum ≤ 8) (hdg : decode cc pc = .ok (.invokevirtual index, 3)) (hf : cells ≤ R.cells ∧ slots ≤ R.slots)
    (kk : ∀ r : UInt64, post r → W p l e R s m args below meth c H locs cells slots Q (F0 m (pc + 3) ls (.double r :: rest))) : W p l e R s m args below meth c H locs cells slots Q (F0 m pc ls st) :=
  vp_callSd (W.runV (As := As) (rest := rest) S hM cw ⟨zPc_blind, va_recv hK hPc hc he, fun U hU hW => zPc_in2 hK hPc hDc it hT hU hW⟩ rfl ha hsz hst (lv_room hW) hdg hf) kk
theorem zrdS2 {post : Int32 → Prop} (S : CallFix p m c cc nL s args Ts own) (hM : Met l y wsy rm (zPc D tc wc H.size As) (vp_Si post) 0 0 (fun _ => False)) (cw : CallB R s args own index y bytes maxL ret wsy rm 0 0 n ∧ (Cond.static y).before args s = true)
    (hK : va_K D vwCl tys s) (hPc : va_P D vwCl wc H) (hDc : va_D A wc) (it : List Nat) (hT : it.filterMap (fun i => tys[i]?) = tc)
    (ha : As.length = n) (hsz : ls.size = nL) {st : List Value} (hst : st = As.reverse ++ rest) (hW : (rest.map fun v => v.category).sum ≤ 8) (hdg : decode cc pc = .ok (.invokestatic index, 3)) (hf : cells ≤ R.cells ∧ slots ≤ R.slots)
    (kk : ∀ r : Int32, post r → W p l e R s m args below meth c H locs cells slots Q (F0 m (pc + 3) ls (.int r :: rest))) : W p l e R s m args below meth c H locs cells slots Q (F0 m pc ls st) :=
  vp_callSi (W.runS (As := As) (rest := rest) S hM cw ⟨zPc_blind, fun U hU hW => zPc_in2 hK hPc hDc it hT hU hW⟩ rfl ha hsz hst (lv_room hW) hdg hf) kk
end QD
theorem qmx_le {f : Nat → Nat} {n b : Nat} (h : ∀ i, i < n → f i ≤ b) : qmx f n ≤ b := by
  induction n with
  | zero => exact Nat.zero_le _
  | succ n ih =>
    have h1 := ih (fun i hi => h i (by omega))
    have h2 := h n (by omega)
    simp only [qmx]; omega
theorem qOKs {B : qB} {N N' : qN0} (h : qOK B N) (h4 : ∀ j, j ≠ 6 → j ≠ 7 → N' 4 1 j = N 4 1 j) (h13 : ∀ i, i < 60 → N' 0 i 13 = N 0 i 13) : qOK B N' := by
  obtain ⟨o1, o2, o3, o4, o5, o6, o7, o8, o9⟩ := h
  have e5 := h4 5 (by decide) (by decide)
  refine ⟨o1, o2, o3, by rw [h4 0 (by decide) (by decide)]; exact o4, by rw [h4 8 (by decide) (by decide)]; exact o5, o6, o7, by rw [e5]; exact o8, fun i hi => ?_⟩
  rw [e5] at hi
  rw [h13 i (by omega)]
  exact o9 i hi
/-- the next loads forgotten -/
def qz (N : qN0) (n : Nat) : qN0 := fun c i j => if c = 0 ∧ j = 12 ∧ i < n then 0 else N c i j
theorem qz_0 (N : qN0) : qz N 0 = N := by funext c i j; simp [qz]
theorem qz_1 (N : qN0) (n : Nat) : qp (qz N n) 0 n 12 0 = qz N (n + 1) := by
  funext c i j
  simp only [qp, qz]
  by_cases h : c = 0 ∧ i = n ∧ j = 12
  · rw [if_pos h, if_pos ⟨h.1, h.2.2, by omega⟩]
  · rw [if_neg h]
    by_cases h2 : c = 0 ∧ j = 12 ∧ i < n
    · rw [if_pos h2, if_pos ⟨h2.1, h2.2.1, by omega⟩]
    · rw [if_neg h2, if_neg (fun h3 => by
        by_cases h4 : i = n
        · exact h ⟨h3.1, h4, h3.2.1⟩
        · exact h2 ⟨h3.1, h3.2.1, by omega⟩)]
theorem qz_ne (N : qN0) (n : Nat) {c i j : Nat} (h : c ≠ 0 ∨ j ≠ 12 ∨ n ≤ i) : qz N n c i j = N c i j := by
  unfold qz
  rw [if_neg (fun h9 => by omega)]
theorem qz_M {N : qN0} {n : Nat} (h : qM N) : qM (qz N n) := fun c i j => by
  unfold qz
  split
  · exact Nat.zero_le _
  · exact h c i j
/-- the next loads, all of them -/
def qcol (N : qN0) (v : Nat → Nat) : qN0 := fun c i j => if c = 0 ∧ j = 12 then v i else N c i j
theorem qcol_0 (N : qN0) : qcol N (fun k => N 0 k 12) = N := by
  funext c i j
  unfold qcol
  split
  · rename_i h; rw [h.1, h.2]
  · rfl
theorem qcol_1 (N : qN0) (v : Nat → Nat) (i x : Nat) : qp (qcol N v) 0 i 12 x = qcol N (qu v i x) := by
  funext c i' j
  simp only [qp, qcol, qu]
  by_cases h : c = 0 ∧ j = 12
  · by_cases h2 : i' = i <;> simp [h, h2]
  · rw [if_neg h, if_neg (fun h3 => h ⟨h3.1, h3.2.2⟩), if_neg h]
theorem qcol_eq (N : qN0) (v : Nat → Nat) (i : Nat) : qcol N v 0 i 12 = v i := by simp [qcol]
theorem qcol_ne (N : qN0) (v : Nat → Nat) {c i j : Nat} (h : c ≠ 0 ∨ j ≠ 12) : qcol N v c i j = N c i j := by
  unfold qcol
  rw [if_neg (fun h9 => by omega)]
theorem qPs_congr {S C C' : Nat → Nat} {t g n : Nat} {v v' : Nat → Nat} {m : Nat} (hS : ∀ j, j < m → S j < n) (hC : ∀ j, j < m → C j = C' j) (hv : ∀ i, i < n → v i = v' i) : ∀ i, i < n → qPs S C t g v m i = qPs S C' t g v' m i := by
  induction m with
  | zero => exact hv
  | succ m ih =>
    intro i hi
    have h1 := ih (fun j hj => hS j (by omega)) (fun j hj => hC j (by omega))
    show qu _ _ _ i = qu _ _ _ i
    unfold qu
    split
    · rw [h1 (S m) (hS m (by omega)), hC m (by omega)]
    · exact h1 i hi
/-- what is known of the loads' data: each item rests on earlier ones -/
def qS9 (B : qB) (R : qR0) (N : qN0) (S : Nat → Nat → Nat) (n : Nat) : Prop := ∀ i, i < n → N 0 i 15 ≤ 36 ∧ 0 < N 0 i 10 ∧ N 0 i 1 ≤ 1000 ∧ ∀ j, j < N 0 i 15 → R i j = some (qA B 0 (S i j)) ∧ S i j < i ∧ N 1 i j ≤ 36
/-- the loads of the items, out of the numbers -/
def qLN (S : Nat → Nat → Nat) (N : qN0) (n : Nat) : Nat → Nat → Nat := qLd S (N 1) (fun i => N 0 i 1) (fun i => N 0 i 10) (fun i => N 0 i 15) n (fun _ => 0)
theorem qLN_1 (S : Nat → Nat → Nat) (N : qN0) (n k : Nat) : qLN S N n (k + 1) = qPs (S (n - 1 - k)) (N 1 (n - 1 - k)) (N 0 (n - 1 - k) 1 + qLN S N n k (n - 1 - k)) (N 0 (n - 1 - k) 10) (qLN S N n k) (N 0 (n - 1 - k) 15) := rfl
end
section
/-- the cells that two items have in common -/
def qcm (N : qN0) (i k : Nat) : Nat := qov (N 0 i 6) (N 0 i 4) (N 0 k 6) (N 0 k 4) * qov (N 0 i 7) (N 0 i 5) (N 0 k 7) (N 0 k 5)
/-- those that have a property, in their order -/
def qfs (P : Nat → Bool) : Nat → List Nat
  | 0 => []
  | k + 1 => if P k then qfs P k ++ [k] else qfs P k
theorem qfs_mem {P : Nat → Bool} {n k : Nat} : k ∈ qfs P n ↔ k < n ∧ P k = true := by
  induction n with
  | zero => simp [qfs]
  | succ n ih =>
    simp only [qfs]
    by_cases hp : P n = true
    · rw [if_pos hp, List.mem_append, ih, List.mem_singleton]
      constructor
      · rintro (h | h)
        · exact ⟨by omega, h.2⟩
        · subst h; exact ⟨by omega, hp⟩
      · intro h
        by_cases h9 : k = n
        · exact Or.inr h9
        · exact Or.inl ⟨by omega, h.2⟩
    · rw [if_neg hp, ih]
      constructor
      · exact fun h => ⟨by omega, h.2⟩
      · intro h
        refine ⟨?_, h.2⟩
        by_cases h9 : k = n
        · subst h9; exact absurd h.2 hp
        · omega
theorem qfs_at {P : Nat → Bool} {n j : Nat} (h : j < (qfs P n).length) : (qfs P n).getD j 0 < n ∧ P ((qfs P n).getD j 0) = true := by
  rw [List.getD_eq_getElem?_getD, List.getElem?_eq_getElem h]
  exact qfs_mem.mp (List.getElem_mem h)
theorem qfs_len {P : Nat → Bool} {m n : Nat} (h : m ≤ n) : (qfs P m).length ≤ (qfs P n).length := by
  induction n with
  | zero => have : m = 0 := by omega
            subst this; exact Nat.le_refl _
  | succ n ih =>
    by_cases hm : m = n + 1
    · subst hm; exact Nat.le_refl _
    · have h1 := ih (by omega)
      simp only [qfs]
      split
      · rw [List.length_append]; omega
      · exact h1
theorem qfs_app {P : Nat → Bool} {n : Nat} (h : P n = true) : qfs P (n + 1) = qfs P n ++ [n] := by simp [qfs, h]
theorem qfs_skip {P : Nat → Bool} {n : Nat} (h : P n = false) : qfs P (n + 1) = qfs P n := by simp [qfs, h]
theorem qgd_l {l : List Nat} {k j : Nat} (h : j < l.length) : (l ++ [k]).getD j 0 = l.getD j 0 := by
  rw [List.getD_eq_getElem?_getD, List.getD_eq_getElem?_getD, List.getElem?_append_left h]
theorem qgd_r {l : List Nat} {k : Nat} : (l ++ [k]).getD l.length 0 = k := by
  rw [List.getD_eq_getElem?_getD, List.getElem?_append_right (Nat.le_refl _), Nat.sub_self]; rfl
theorem qfs_sum (P : Nat → Bool) (C : Nat → Nat) (n : Nat) : qsum (fun j => C ((qfs P n).getD j 0)) (qfs P n).length = qsum (fun k => if P k then C k else 0) n := by
  induction n with
  | zero => rfl
  | succ n ih =>
    simp only [qsum]
    by_cases hp : P n = true
    · rw [qfs_app hp, if_pos hp, List.length_append]
      show qsum _ ((qfs P n).length + 1) = _
      simp only [qsum]
      rw [qgd_r, ← ih]
      congr 1
      exact qsum_congr (fun j hj => by rw [qgd_l hj])
    · have hp : P n = false := by simpa using hp
      rw [qfs_skip hp, ih]
      simp [hp]
theorem qfs_congr {P P' : Nat → Bool} {n : Nat} (h : ∀ k, k < n → P k = P' k) : qfs P n = qfs P' n := by
  induction n with
  | zero => rfl
  | succ n ih =>
    simp only [qfs]
    rw [ih (fun k hk => h k (by omega)), h n (by omega)]
/-- the items that carry t -/
def qPk (N : qN0) (t k : Nat) : Bool := decide (N 0 k 9 = N 0 t 8) && decide (0 < qcm N t k)
def qsp (N : qN0) (t n : Nat) : List Nat := qfs (qPk N t) n
theorem qPk_t {N : qN0} {t k : Nat} : qPk N t k = true ↔ N 0 k 9 = N 0 t 8 ∧ 0 < qcm N t k := by simp [qPk]
/-- the numbers as if the trial were item n -/
def qx (N : qN0) (n : Nat) : qN0 := fun c i j => if i = n ∧ c ≤ 1 then N c 60 j else N c i j
def qSx (S : Nat → Nat → Nat) (n : Nat) : Nat → Nat → Nat := fun i => if i = n then S 60 else S i
theorem qx_n (N : qN0) (n c : Nat) (h : c ≤ 1) : qx N n c n = N c 60 := by funext j; simp [qx, h]
theorem qx_i (N : qN0) {n i : Nat} (c : Nat) (h : i ≠ n) : qx N n c i = N c i := by funext j; simp [qx, h]
theorem qSx_n (S : Nat → Nat → Nat) (n : Nat) : qSx S n n = S 60 := by simp [qSx]
theorem qSx_i (S : Nat → Nat → Nat) {n i : Nat} (h : i ≠ n) : qSx S n i = S i := by simp [qSx, h]
theorem qLd_congr {S S' C C' : Nat → Nat → Nat} {w w' g g' m m' : Nat → Nat} {n : Nat} {v : Nat → Nat} (hw : ∀ i, i < n → w i = w' i) (hg : ∀ i, i < n → g i = g' i) (hm : ∀ i, i < n → m i = m' i) (hS : ∀ i, i < n → ∀ j, j < m i → S i j = S' i j ∧ C i j = C' i j) : ∀ k, k ≤ n → qLd S C w g m n v k = qLd S' C' w' g' m' n v k := by
  have key : ∀ (S S' C C' : Nat → Nat) (t g : Nat) (v : Nat → Nat) (m : Nat), (∀ j, j < m → S j = S' j ∧ C j = C' j) → qPs S C t g v m = qPs S' C' t g v m := by
    intro S S' C C' t g v m h
    induction m with
    | zero => rfl
    | succ m ih =>
      show qu _ _ _ = qu _ _ _
      rw [ih (fun j hj => h j (by omega)), (h m (by omega)).1, (h m (by omega)).2]
  intro k
  induction k with
  | zero => intro _; rfl
  | succ k ih =>
    intro hk
    show qPs _ _ _ _ _ _ = qPs _ _ _ _ _ _
    rw [ih (by omega), hw _ (show n - 1 - k < n by omega), hg _ (show n - 1 - k < n by omega), ← hm _ (show n - 1 - k < n by omega)]
    exact key _ _ _ _ _ _ _ _ (hS _ (by omega))
/-- the greatest of a row of numbers, and how many are as great, number by number -/
def qgr (f : Nat → Nat) (e : Nat) : Nat := qsum (fun e' => if f e' = qmx f e then 1 else 0) e
theorem qmx_ge {f : Nat → Nat} {n i : Nat} (h : i < n) : f i ≤ qmx f n := by
  induction n with
  | zero => omega
  | succ n ih =>
    simp only [qmx]
    by_cases hi : i = n
    · subst hi; omega
    · have := ih (by omega); omega
theorem qmx_at {f : Nat → Nat} {n : Nat} (h : 0 < qmx f n) : ∃ i, i < n ∧ f i = qmx f n := by
  induction n with
  | zero => simp [qmx] at h
  | succ n ih =>
    simp only [qmx] at h ⊢
    by_cases h1 : qmx f n ≤ f n
    · exact ⟨n, by omega, by omega⟩
    · obtain ⟨i, hi, he⟩ := ih (by omega)
      exact ⟨i, by omega, by omega⟩
theorem qgr_up {f : Nat → Nat} {e : Nat} (h : qmx f e < f e) : qmx f (e + 1) = f e ∧ qgr f (e + 1) = 1 := by
  have h1 : qmx f (e + 1) = f e := by simp only [qmx]; omega
  refine ⟨h1, ?_⟩
  unfold qgr
  rw [h1]
  simp only [qsum, if_pos]
  rw [qsum_zero (fun i hi => if_neg (by have := qmx_ge (f := f) hi; omega))]
theorem qgr_eq {f : Nat → Nat} {e : Nat} (h : f e = qmx f e) : qmx f (e + 1) = qmx f e ∧ qgr f (e + 1) = qgr f e + 1 := by
  have h1 : qmx f (e + 1) = qmx f e := by simp only [qmx]; omega
  refine ⟨h1, ?_⟩
  unfold qgr
  rw [h1]
  simp only [qsum, if_pos h]
theorem qgr_dn {f : Nat → Nat} {e : Nat} (h : f e < qmx f e) : qmx f (e + 1) = qmx f e ∧ qgr f (e + 1) = qgr f e := by
  have h1 : qmx f (e + 1) = qmx f e := by simp only [qmx]; omega
  refine ⟨h1, ?_⟩
  unfold qgr
  rw [h1]
  simp only [qsum]
  rw [if_neg (by omega)]; rfl
theorem qsum_app (f : Nat → Nat) (m n : Nat) : qsum f (m + n) = qsum f m + qsum (fun i => f (m + i)) n := by
  induction n with
  | zero => rfl
  | succ n ih => rw [← Nat.add_assoc]; simp only [qsum]; omega
theorem qsum_rows (F : Nat → Nat → Nat) {w : Nat} (hw : 0 < w) (d : Nat) : qsum (fun e => F (e % w) (e / w)) (w * d) = qsum (fun b => qsum (fun a => F a b) w) d := by
  induction d with
  | zero => rfl
  | succ d ih =>
    rw [Nat.mul_succ, qsum_app, ih]
    simp only [qsum]
    congr 1
    refine qsum_congr (fun a ha => ?_)
    rw [Nat.mul_add_mod, Nat.mod_eq_of_lt ha, Nat.mul_add_div hw, Nat.div_eq_of_lt ha, Nat.add_zero]
/-- the tops of a field's cells, one after the other -/
def qf (N : qN0) (x w y : Nat) : Nat → Nat := fun e => N 4 0 ((y + e / w) * 12 + (x + e % w))
theorem qgr_cnt (N : qN0) (x y d : Nat) {w : Nat} (hw : 0 < w) : qgr (qf N x w y) (w * d) = qcnt x w y d (fun cx cy => decide (N 4 0 (cy * 12 + cx) = qmx (qf N x w y) (w * d))) := by
  unfold qgr qcnt
  rw [← qsum_rows (fun a b => if decide (N 4 0 ((y + b) * 12 + (x + a)) = qmx (qf N x w y) (w * d)) = true then 1 else 0) hw d]
  refine qsum_congr (fun e _ => ?_)
  by_cases h : N 4 0 ((y + e / w) * 12 + (x + e % w)) = qmx (qf N x w y) (w * d)
  · rw [if_pos (show qf N x w y e = qmx (qf N x w y) (w * d) from h), if_pos (decide_eq_true h)]
  · rw [if_neg (show ¬ qf N x w y e = qmx (qf N x w y) (w * d) from h), if_neg (fun h9 => h (of_decide_eq_true h9))]
theorem qgr_le {f : Nat → Nat} {e : Nat} : qgr f e ≤ e := by
  have h : qgr f e ≤ qsum (fun _ => 1) e := qsum_le (fun i _ => by split <;> omega)
  rw [qsum_const] at h; omega
theorem qgr_pos {f : Nat → Nat} {e : Nat} (h : 0 < e) : 0 < qgr f e := by
  have key : ∃ i, i < e ∧ f i = qmx f e := by
    by_cases h0 : 0 < qmx f e
    · exact qmx_at h0
    · exact ⟨0, h, by have := qmx_ge (f := f) h; omega⟩
  obtain ⟨i, hi, he⟩ := key
  have := qsum_mem (f := fun e' => if f e' = qmx f e then 1 else 0) hi
  simp only [he, if_pos] at this
  exact this
/-- a trial let down: its numbers -/
def qwd (N : qN0) (k t : Nat) : Nat := if t = 1 then N 2 k 2 else N 2 k 1
def qdp (N : qN0) (k t : Nat) : Nat := if t = 1 then N 2 k 1 else N 2 k 2
def qbt (N : qN0) (k x y t : Nat) : Nat := qmx (qf N x (qwd N k t) y) (qwd N k t * qdp N k t)
def qgd (N : qN0) (k x y t : Nat) : Nat := qgr (qf N x (qwd N k t) y) (qwd N k t * qdp N k t)
def qsh (N : qN0) (k t : Nat) : qN0 := fun c i j => if c = 0 ∧ i = 60 ∧ j ≤ 5 then [N 2 k 0, N 2 k 4, N 2 k 5, t, qwd N k t, qdp N k t].getD j 0 else N c i j
def qld (N : qN0) (k x y t : Nat) : qN0 := fun c i j => if c = 0 ∧ i = 60 ∧ j ≤ 10 then [N 2 k 0, N 2 k 4, N 2 k 5, t, qwd N k t, qdp N k t, x, y, qbt N k x y t, qbt N k x y t + N 2 k 3, qgd N k x y t].getD j 0 else N c i j
theorem qsh_ne (N : qN0) (k t : Nat) {c i j : Nat} (h : c ≠ 0 ∨ i ≠ 60 ∨ 5 < j) : qsh N k t c i j = N c i j := by
  unfold qsh
  rw [if_neg (fun h9 => by omega)]
theorem qld_ne (N : qN0) (k x y t : Nat) {c i j : Nat} (h : c ≠ 0 ∨ i ≠ 60 ∨ 10 < j) : qld N k x y t c i j = N c i j := by
  unfold qld
  rw [if_neg (fun h9 => by omega)]
theorem qsh_eq {N : qN0} {k t : Nat} : qp (qp (qp (qp (qp (qp N 0 60 0 (N 2 k 0)) 0 60 1 (N 2 k 4)) 0 60 2 (N 2 k 5)) 0 60 3 t) 0 60 4 (qwd N k t)) 0 60 5 (qdp N k t) = qsh N k t := by
  funext c i j
  unfold qsh
  by_cases h : c = 0 ∧ i = 60
  · obtain ⟨rfl, rfl⟩ := h
    rcases (show j = 0 ∨ j = 1 ∨ j = 2 ∨ j = 3 ∨ j = 4 ∨ j = 5 ∨ 5 < j by omega) with h | h | h | h | h | h | h
    · subst h; simp [qp]
    · subst h; simp [qp]
    · subst h; simp [qp]
    · subst h; simp [qp]
    · subst h; simp [qp]
    · subst h; simp [qp]
    · rw [if_neg (by omega)]
      rw [qp_j _ _ _ _ _ _ (show j ≠ 5 by omega), qp_j _ _ _ _ _ _ (show j ≠ 4 by omega), qp_j _ _ _ _ _ _ (show j ≠ 3 by omega), qp_j _ _ _ _ _ _ (show j ≠ 2 by omega), qp_j _ _ _ _ _ _ (show j ≠ 1 by omega), qp_j _ _ _ _ _ _ (show j ≠ 0 by omega)]
  · rw [if_neg (fun h9 => h ⟨h9.1, h9.2.1⟩)]
    have g : ∀ (M : qN0) (j' x : Nat), qp M 0 60 j' x c i j = M c i j := fun M j' x => if_neg (fun h9 => h ⟨h9.1, h9.2.1⟩)
    rw [g, g, g, g, g, g]
theorem qld_eq {N N1 : qN0} {k x y t : Nat} (h : N1 = qsh N k t) : qp (qp (qp (qp (qp N1 0 60 6 x) 0 60 7 y) 0 60 8 (qbt N k x y t)) 0 60 9 (qbt N k x y t + N 2 k 3)) 0 60 10 (qgd N k x y t) = qld N k x y t := by
  subst h
  funext c i j
  unfold qld
  by_cases h : c = 0 ∧ i = 60
  · obtain ⟨rfl, rfl⟩ := h
    rcases (show j ≤ 5 ∨ j = 6 ∨ j = 7 ∨ j = 8 ∨ j = 9 ∨ j = 10 ∨ 10 < j by omega) with h | h | h | h | h | h | h
    · rw [if_pos ⟨rfl, rfl, by omega⟩, qp_j _ _ _ _ _ _ (show j ≠ 10 by omega), qp_j _ _ _ _ _ _ (show j ≠ 9 by omega), qp_j _ _ _ _ _ _ (show j ≠ 8 by omega), qp_j _ _ _ _ _ _ (show j ≠ 7 by omega), qp_j _ _ _ _ _ _ (show j ≠ 6 by omega)]
      unfold qsh
      rw [if_pos ⟨rfl, rfl, h⟩]
      rcases (show j = 0 ∨ j = 1 ∨ j = 2 ∨ j = 3 ∨ j = 4 ∨ j = 5 by omega) with h | h | h | h | h | h <;> subst h <;> rfl
    · subst h; simp [qp]
    · subst h; simp [qp]
    · subst h; simp [qp]
    · subst h; simp [qp]
    · subst h; simp [qp]
    · rw [if_neg (by omega), qp_j _ _ _ _ _ _ (show j ≠ 10 by omega), qp_j _ _ _ _ _ _ (show j ≠ 9 by omega), qp_j _ _ _ _ _ _ (show j ≠ 8 by omega), qp_j _ _ _ _ _ _ (show j ≠ 7 by omega), qp_j _ _ _ _ _ _ (show j ≠ 6 by omega)]
      exact qsh_ne _ _ _ (by omega)
  · rw [if_neg (fun h9 => h ⟨h9.1, h9.2.1⟩)]
    have g : ∀ (M : qN0) (j' x : Nat), qp M 0 60 j' x c i j = M c i j := fun M j' x => if_neg (fun h9 => h ⟨h9.1, h9.2.1⟩)
    rw [g, g, g, g, g]
    exact qsh_ne _ _ _ (by omega)
theorem qf_at (N : qN0) (x y b a : Nat) {w : Nat} (h : a < w) : qf N x w y (b * w + a) = N 4 0 ((y + b) * 12 + (x + a)) := by
  unfold qf
  rw [Nat.mul_comm b w, Nat.mul_add_div (by omega), Nat.div_eq_of_lt h, Nat.mul_add_mod, Nat.mod_eq_of_lt h, Nat.add_zero]
end
section
/-- the numbers with the trial's supports found -/
def qtr (N : qN0) : qN0 := fun c i j => if c = 0 ∧ i = 60 ∧ j = 15 then (qsp N 60 (N 4 1 5)).length else if c = 1 ∧ i = 60 then qcm N 60 ((qsp N 60 (N 4 1 5)).getD j 0) else N c i j
def qSt (S : Nat → Nat → Nat) (N : qN0) : Nat → Nat → Nat := fun i => if i = 60 then fun j => (qsp N 60 (N 4 1 5)).getD j 0 else S i
theorem qtr_ne (N : qN0) {c i j : Nat} (h1 : ¬ (c = 0 ∧ i = 60 ∧ j = 15)) (h2 : ¬ (c = 1 ∧ i = 60)) : qtr N c i j = N c i j := by
  unfold qtr
  rw [if_neg h1, if_neg h2]
theorem qtr_15 (N : qN0) : qtr N 0 60 15 = (qsp N 60 (N 4 1 5)).length := by simp [qtr]
theorem qtr_1 (N : qN0) (j : Nat) : qtr N 1 60 j = qcm N 60 ((qsp N 60 (N 4 1 5)).getD j 0) := by simp [qtr]
theorem qSt_60 (S : Nat → Nat → Nat) (N : qN0) : qSt S N 60 = fun j => (qsp N 60 (N 4 1 5)).getD j 0 := by simp [qSt]
theorem qSt_i (S : Nat → Nat → Nat) (N : qN0) {i : Nat} (h : i ≠ 60) : qSt S N i = S i := by simp [qSt, h]
theorem qLN_tr {N N1 : qN0} {n : Nat} (hn : n = N 4 1 5) (hn60 : n ≤ 60) (f1 : N1 0 60 15 = (qsp N 60 n).length) (f2 : ∀ j, j < (qsp N 60 n).length → N1 1 60 j = qcm N 60 ((qsp N 60 n).getD j 0)) (f4 : ∀ c i j, ¬ (c = 0 ∧ i = 60 ∧ j = 15) → ¬ (c = 1 ∧ i = 60) → N1 c i j = N c i j) (Sx : Nat → Nat → Nat) : ∀ k, k ≤ n + 1 → qLN Sx (qx N1 n) (n + 1) k = qLN Sx (qx (qtr N) n) (n + 1) k := by
  have A : ∀ i, i < n + 1 → ∀ j, qx N1 n 0 i j = qx (qtr N) n 0 i j := fun i hi j => by
    by_cases h : i = n
    · subst h
      rw [qx_n _ _ _ (by decide), qx_n _ _ _ (by decide)]
      by_cases h15 : j = 15
      · subst h15; rw [f1, qtr_15, ← hn]
      · rw [qtr_ne _ (by omega) (by omega)]; exact f4 0 60 j (by omega) (by omega)
    · rw [qx_i _ _ h, qx_i _ _ h, qtr_ne _ (by omega) (by omega)]
      exact f4 0 i j (by omega) (by omega)
  intro k hk
  refine qLd_congr (fun i hi => A i hi 1) (fun i hi => A i hi 10) (fun i hi => A i hi 15) (fun i hi j hj => ⟨rfl, ?_⟩) k hk
  by_cases h : i = n
  · subst h
    rw [qx_n _ _ _ (by decide), qx_n _ _ _ (by decide), qtr_1, ← hn]
    rw [qx_n _ _ _ (by decide), f1] at hj
    exact f2 j hj
  · rw [qx_i _ _ h, qx_i _ _ h, qtr_ne _ (by omega) (by omega)]
    exact f4 1 i j (by omega) (by omega)
/-- the trial, of kind k, is allowed where it was let down -/
def qAl (N : qN0) (S : Nat → Nat → Nat) (k : Nat) : Prop := N 0 60 9 ≤ N 4 1 1 ∧ (N 2 k 7 = 1 → N 0 60 8 = 0) ∧ N 0 60 4 * N 0 60 5 * N 4 1 2 ≤ N 0 60 10 * 100 ∧ (∀ i, i < N 4 1 5 → qLN (qSx (qSt S N) (N 4 1 5)) (qx (qtr N) (N 4 1 5)) (N 4 1 5 + 1) (N 4 1 5 + 1) i ≤ N 0 i 2) ∧ N 4 1 7 + N 0 60 1 ≤ N 4 1 3
/-- what testing changes: nothing that counts -/
def qFr (N N' : qN0) : Prop := ∀ c i j, ¬ (c = 0 ∧ i = 60 ∧ (j = 12 ∨ j = 15)) → ¬ (c = 1 ∧ i = 60) → ¬ (c = 0 ∧ j = 12 ∧ i < N 4 1 5) → N' c i j = N c i j
theorem qFr_rf (N : qN0) : qFr N N := fun _ _ _ _ _ _ => rfl
end
section
def qci (N : qN0) (i cx cy : Nat) : Bool := qcov (N 0 i 6) (N 0 i 4) (N 0 i 7) (N 0 i 5) cx cy
/-- where the items lie -/
def qGeo (N : qN0) : Prop := (∀ i, i < N 4 1 5 → 0 < N 0 i 4 ∧ N 0 i 4 ≤ 6 ∧ 0 < N 0 i 5 ∧ N 0 i 5 ≤ 6 ∧ N 0 i 6 + N 0 i 4 ≤ 12 ∧ N 0 i 7 + N 0 i 5 ≤ 10 ∧ N 0 i 8 < N 0 i 9 ∧ N 0 i 1 ≤ 500) ∧
  (∀ k i, k < i → i < N 4 1 5 → ∀ cx cy, qci N k cx cy = true → qci N i cx cy = true → N 0 k 9 ≤ N 0 i 8) ∧
  (∀ i, i < N 4 1 5 → ∀ cx cy, qci N i cx cy = true → N 0 i 9 ≤ N 4 0 (cy * 12 + cx)) ∧
  (∀ cx cy, cx < 12 → cy < 10 → 0 < N 4 0 (cy * 12 + cx) → ∃ k, k < N 4 1 5 ∧ qci N k cx cy = true ∧ N 0 k 9 = N 4 0 (cy * 12 + cx))
/-- what the items stand on -/
def qSup (B : qB) (R : qR0) (N : qN0) (S : Nat → Nat → Nat) : Prop := ∀ i, i < N 4 1 5 → N 0 i 15 ≤ 36 ∧ 0 < N 0 i 10 ∧ N 0 i 10 ≤ 36 ∧ (∀ j, j < N 0 i 15 → R i j = some (qA B 0 (S i j)) ∧ S i j < i ∧ N 1 i j ≤ 36 ∧ N 0 (S i j) 9 = N 0 i 8) ∧ (N 0 i 8 = 0 → N 0 i 15 = 0) ∧ (0 < N 0 i 8 → qsum (N 1 i) (N 0 i 15) = N 0 i 10)
def qKin (B : qB) (N : qN0) : Prop := ∀ k, k < qk B → N 2 k 0 = k ∧ (0 < N 2 k 1 ∧ N 2 k 1 ≤ 6) ∧ (0 < N 2 k 2 ∧ N 2 k 2 ≤ 6) ∧ (0 < N 2 k 3 ∧ N 2 k 3 ≤ 8) ∧ (0 < N 2 k 4 ∧ N 2 k 4 ≤ 500) ∧ N 2 k 5 ≤ 5000 ∧ N 2 k 6 < 2 ∧ N 2 k 7 < 2
def qRul (N : qN0) : Prop := N 4 1 1 ≤ 40 ∧ N 4 1 2 ≤ 100 ∧ N 4 1 3 ≤ 20000 ∧ ∀ c, N 4 0 c ≤ 40
def qLoad (N : qN0) (S : Nat → Nat → Nat) : Prop := ∀ i, i < N 4 1 5 → N 0 i 11 = qLN S N (N 4 1 5) (N 4 1 5) i ∧ N 0 i 11 ≤ N 0 i 2
def qItm (B : qB) (N : qN0) : Prop := ∀ i, i < N 4 1 5 → N 0 i 0 < qk B ∧ N 0 i 1 = N 2 (N 0 i 0) 4 ∧ N 0 i 2 = N 2 (N 0 i 0) 5 ∧ N 0 i 3 < 2 ∧ (N 0 i 3 = 1 → N 2 (N 0 i 0) 6 = 1) ∧ N 0 i 4 = qwd N (N 0 i 0) (N 0 i 3) ∧ N 0 i 5 = qdp N (N 0 i 0) (N 0 i 3) ∧ N 0 i 9 = N 0 i 8 + N 2 (N 0 i 0) 3 ∧ (N 2 (N 0 i 0) 7 = 1 → N 0 i 8 = 0) ∧ N 0 i 9 ≤ N 4 1 1 ∧ N 0 i 4 * N 0 i 5 * N 4 1 2 ≤ N 0 i 10 * 100
def qWt (N : qN0) : Prop := N 4 1 6 = N 4 1 5 ∧ N 4 1 7 = qsum (fun i => N 0 i 1) (N 4 1 5) ∧ N 4 1 7 ≤ N 4 1 3
theorem qS9_of {B : qB} {R : qR0} {N : qN0} {S : Nat → Nat → Nat} (hG : qGeo N) (h : qSup B R N S) : qS9 B R N S (N 4 1 5) := fun i hi => by
  obtain ⟨h1, h2, -, h4, -, -⟩ := h i hi
  exact ⟨h1, h2, Nat.le_trans (hG.1 i hi).2.2.2.2.2.2.2 (by decide), fun j hj => ⟨(h4 j hj).1, (h4 j hj).2.1, (h4 j hj).2.2.1⟩⟩
/-- the trial, where it was let down -/
def qTr (N : qN0) : Prop := (0 < N 0 60 4 ∧ N 0 60 4 ≤ 6) ∧ (0 < N 0 60 5 ∧ N 0 60 5 ≤ 6) ∧ N 0 60 6 + N 0 60 4 ≤ 12 ∧ N 0 60 7 + N 0 60 5 ≤ 10 ∧ N 0 60 8 = qmx (qf N (N 0 60 6) (N 0 60 4) (N 0 60 7)) (N 0 60 4 * N 0 60 5) ∧ N 0 60 10 = qgr (qf N (N 0 60 6) (N 0 60 4) (N 0 60 7)) (N 0 60 4 * N 0 60 5)
theorem qidx {a b w d : Nat} (ha : a < w) (hb : b < d) : b * w + a < w * d := by
  have h1 : b * w + w ≤ d * w := by rw [← Nat.succ_mul]; exact Nat.mul_le_mul_right w hb
  rw [Nat.mul_comm w d]; omega
theorem qtr_le {N : qN0} (h : qTr N) {cx cy : Nat} (hc : qci N 60 cx cy = true) : N 4 0 (cy * 12 + cx) ≤ N 0 60 8 := by
  obtain ⟨h1, h2, h3, h4, h5, h6⟩ := h
  obtain ⟨⟨c1, c2⟩, c3, c4⟩ := qcov_iff.mp hc
  rw [h5]
  have h9 := qmx_ge (f := qf N (N 0 60 6) (N 0 60 4) (N 0 60 7)) (qidx (a := cx - N 0 60 6) (b := cy - N 0 60 7) (w := N 0 60 4) (d := N 0 60 5) (by omega) (by omega))
  rw [qf_at _ _ _ _ _ (show cx - N 0 60 6 < N 0 60 4 by omega), show N 0 60 7 + (cy - N 0 60 7) = cy by omega, show N 0 60 6 + (cx - N 0 60 6) = cx by omega] at h9
  exact h9
theorem qtr_gr {N : qN0} (h : qTr N) : 0 < N 0 60 10 ∧ N 0 60 10 ≤ 36 := by
  obtain ⟨h1, h2, h3, h4, h5, h6⟩ := h
  rw [h6]
  exact ⟨qgr_pos (Nat.mul_pos h1.1 h2.1), Nat.le_trans qgr_le (Nat.mul_le_mul h1.2 h2.2)⟩
theorem qcm_le {N : qN0} (h : qTr N) (k : Nat) : qcm N 60 k ≤ 36 := by
  unfold qcm
  rw [← qcnt_cov]
  exact Nat.le_trans (qcnt_le _ _ _ _ _) (Nat.mul_le_mul h.1.2 h.2.1.2)
/-- what the trial stands on makes up its ground -/
theorem qtr_sum {N : qN0} (hG : qGeo N) (h : qTr N) (h8 : 0 < N 0 60 8) : qsum (fun j => qcm N 60 ((qsp N 60 (N 4 1 5)).getD j 0)) (qsp N 60 (N 4 1 5)).length = N 0 60 10 := by
  have hle := fun cx cy => qtr_le h (cx := cx) (cy := cy)
  obtain ⟨h1, h2, h3, h4, h5, h6⟩ := h
  obtain ⟨G1, G2, G3, G4⟩ := hG
  unfold qsp
  rw [qfs_sum, h6, qgr_cnt _ _ _ _ h1.1, ← h5]
  have e1 : ∀ k, k < N 4 1 5 → (if qPk N 60 k = true then qcm N 60 k else 0) = if (fun k => decide (N 0 k 9 = N 0 60 8)) k = true then qov (N 0 60 6) (N 0 60 4) ((fun k => N 0 k 6) k) ((fun k => N 0 k 4) k) * qov (N 0 60 7) (N 0 60 5) ((fun k => N 0 k 7) k) ((fun k => N 0 k 5) k) else 0 := fun k _ => by
    show _ = if decide (N 0 k 9 = N 0 60 8) = true then qcm N 60 k else 0
    by_cases h9 : N 0 k 9 = N 0 60 8
    · by_cases h0 : 0 < qcm N 60 k
      · rw [if_pos (qPk_t.mpr ⟨h9, h0⟩), if_pos (by simpa using h9)]
      · rw [if_neg (fun hq => h0 (qPk_t.mp hq).2), if_pos (by simpa using h9)]; omega
    · rw [if_neg (fun hq => h9 (qPk_t.mp hq).1), if_neg (by simpa using h9)]
  rw [qsum_congr e1]
  refine qcnt_split (K := fun k => decide (N 0 k 9 = N 0 60 8)) (P := fun cx cy => decide (N 4 0 (cy * 12 + cx) = N 0 60 8)) (fun a b ha hb hp => ?_) (fun a b ha hb hp k hk hK => ?_)
  · have hp : N 4 0 ((N 0 60 7 + b) * 12 + (N 0 60 6 + a)) = N 0 60 8 := by simpa using hp
    obtain ⟨k, hk, hc, ht⟩ := G4 (N 0 60 6 + a) (N 0 60 7 + b) (by omega) (by omega) (by omega)
    refine ⟨k, hk, by simp [ht, hp], hc, fun k' hk' hK' hc' => ?_⟩
    have hK' : N 0 k' 9 = N 0 60 8 := by simpa using hK'
    rcases Nat.lt_trichotomy k' k with q | q | q
    · have := G2 k' k q hk _ _ hc' hc
      have := (G1 k hk).2.2.2.2.2.2.1
      omega
    · exact q
    · have := G2 k k' q hk' _ _ hc hc'
      have := (G1 k' hk').2.2.2.2.2.2.1
      omega
  · have hp : ¬ N 4 0 ((N 0 60 7 + b) * 12 + (N 0 60 6 + a)) = N 0 60 8 := by simpa using hp
    have hK : N 0 k 9 = N 0 60 8 := by simpa using hK
    cases hc : qcov (N 0 k 6) (N 0 k 4) (N 0 k 7) (N 0 k 5) (N 0 60 6 + a) (N 0 60 7 + b)
    · rfl
    · have g1 := G3 k hk _ _ hc
      have g2 := hle (N 0 60 6 + a) (N 0 60 7 + b) (qcov_iff.mpr ⟨⟨by omega, by omega⟩, by omega, by omega⟩)
      omega
theorem qtr_deck {N : qN0} (hG : qGeo N) (h8 : N 0 60 8 = 0) : (qsp N 60 (N 4 1 5)).length = 0 := by
  cases hl : (qsp N 60 (N 4 1 5)).length with
  | zero => rfl
  | succ m =>
    have h1 := qfs_at (P := qPk N 60) (n := N 4 1 5) (j := 0) (by show 0 < (qsp N 60 (N 4 1 5)).length; omega)
    have h2 := (qPk_t.mp h1.2).1
    have h3 := (hG.1 _ h1.1).2.2.2.2.2.2.1
    omega
theorem qtr_len {N : qN0} (hG : qGeo N) (h : qTr N) : (qsp N 60 (N 4 1 5)).length ≤ 36 := by
  by_cases h8 : N 0 60 8 = 0
  · rw [qtr_deck hG h8]; decide
  · have h1 := qtr_sum hG h (by omega)
    have h2 := (qtr_gr h).2
    have h3 : (qsp N 60 (N 4 1 5)).length ≤ qsum (fun j => qcm N 60 ((qsp N 60 (N 4 1 5)).getD j 0)) (qsp N 60 (N 4 1 5)).length := by
      have : qsum (fun _ => 1) (qsp N 60 (N 4 1 5)).length ≤ qsum (fun j => qcm N 60 ((qsp N 60 (N 4 1 5)).getD j 0)) (qsp N 60 (N 4 1 5)).length := qsum_le (fun j hj => (qPk_t.mp (qfs_at hj).2).2)
      rw [qsum_const] at this; omega
    omega
/-- the data of the loads, with the trial on top -/
theorem qext {B : qB} {R : qR0} {N : qN0} {S : Nat → Nat → Nat} (hn : N 4 1 5 ≤ 60) (hG : qGeo N) (hS : qSup B R N S) (h : qTr N) :
    (∀ i, i < N 4 1 5 + 1 → ∀ j, j < qx (qtr N) (N 4 1 5) 0 i 15 → qSx (qSt S N) (N 4 1 5) i j < i) ∧
    (∀ i, i < N 4 1 5 + 1 → decide (qx (qtr N) (N 4 1 5) 0 i 8 = 0) = true → qx (qtr N) (N 4 1 5) 0 i 15 = 0) ∧
    (∀ i, i < N 4 1 5 + 1 → decide (qx (qtr N) (N 4 1 5) 0 i 8 = 0) = false → 0 < qx (qtr N) (N 4 1 5) 0 i 10 ∧ qsum (qx (qtr N) (N 4 1 5) 1 i) (qx (qtr N) (N 4 1 5) 0 i 15) = qx (qtr N) (N 4 1 5) 0 i 10) := by
  refine ⟨fun i hi j hj => ?_, fun i hi hz => ?_, fun i hi hz => ?_⟩
  · by_cases h9 : i = N 4 1 5
    · subst h9
      rw [qx_n _ _ _ (by decide), qtr_15] at hj
      rw [qSx_n, qSt_60]
      exact (qfs_at hj).1
    · rw [qx_i _ _ h9, qtr_ne _ (by omega) (by omega)] at hj
      rw [qSx_i _ h9, qSt_i _ _ (by omega)]
      exact ((hS i (by omega)).2.2.2.1 j hj).2.1
  · have hz := of_decide_eq_true hz
    by_cases h9 : i = N 4 1 5
    · subst h9
      rw [qx_n _ _ _ (by decide)] at hz ⊢
      rw [qtr_ne _ (by omega) (by omega)] at hz
      rw [qtr_15]
      exact qtr_deck hG hz
    · rw [qx_i _ _ h9, qtr_ne _ (by omega) (by omega)] at hz ⊢
      exact (hS i (by omega)).2.2.2.2.1 hz
  · have hz := of_decide_eq_false hz
    by_cases h9 : i = N 4 1 5
    · subst h9
      rw [qx_n _ _ _ (by decide)] at hz
      rw [qtr_ne _ (by omega) (by omega)] at hz
      rw [qx_n _ _ _ (by decide), qx_n _ _ _ (by decide), qtr_15, qtr_ne (c := 0) (j := 10) _ (by omega) (by omega)]
      refine ⟨(qtr_gr h).1, ?_⟩
      rw [← qtr_sum hG h (by omega)]
      exact qsum_congr (fun j _ => qtr_1 N j)
    · rw [qx_i _ _ h9, qtr_ne _ (by omega) (by omega)] at hz
      rw [qx_i _ _ h9, qx_i _ _ h9, qtr_ne (c := 0) (j := 10) _ (by omega) (by omega), qtr_ne (c := 0) (j := 15) _ (by omega) (by omega)]
      have h1 := hS i (by omega)
      refine ⟨h1.2.1, ?_⟩
      rw [← h1.2.2.2.2.2 (by omega)]
      exact qsum_congr (fun j _ => qtr_ne _ (by omega) (by omega))
theorem qLb {B : qB} {R : qR0} {N : qN0} {S : Nat → Nat → Nat} (hn : N 4 1 5 ≤ 60) (hG : qGeo N) (hS : qSup B R N S) (h : qTr N) (hw : N 0 60 1 ≤ 500) : ∀ k i, k ≤ N 4 1 5 + 1 → i < N 4 1 5 + 1 → qLN (qSx (qSt S N) (N 4 1 5)) (qx (qtr N) (N 4 1 5)) (N 4 1 5 + 1) k i ≤ 1000000 := fun k i hk hi => by
  obtain ⟨e1, e2, e3⟩ := qext hn hG hS h
  have h1 := qLd_le (w := fun i => qx (qtr N) (N 4 1 5) 0 i 1) (z := fun i => decide (qx (qtr N) (N 4 1 5) 0 i 8 = 0)) e1 e2 e3 hk hi
  have h2 : qsum (fun i => qx (qtr N) (N 4 1 5) 0 i 1) (N 4 1 5 + 1) ≤ qsum (fun _ => 500) (N 4 1 5 + 1) := qsum_le (fun i hi => by
    by_cases h9 : i = N 4 1 5
    · subst h9
      rw [qx_n _ _ _ (by decide), qtr_ne _ (by omega) (by omega)]; exact hw
    · rw [qx_i _ _ h9, qtr_ne _ (by omega) (by omega)]
      exact (hG.1 i (by omega)).2.2.2.2.2.2.2)
  rw [qsum_const] at h2
  show qLd _ _ _ _ _ _ _ _ _ ≤ _
  omega
end
section
/-- what the search changes: the trial and the next loads -/
def qFR (N N' : qN0) : Prop := ∀ c i j, ¬ (c = 0 ∧ i = 60) → ¬ (c = 1 ∧ i = 60) → ¬ (c = 0 ∧ j = 12) → N' c i j = N c i j
theorem qFR_rf (N : qN0) : qFR N N := fun _ _ _ _ _ _ => rfl
theorem qFR.tr {N N1 N2 : qN0} (h1 : qFR N N1) (h2 : qFR N1 N2) : qFR N N2 := fun c i j a b d => (h2 c i j a b d).trans (h1 c i j a b d)
theorem qFR_of {N N' : qN0} (h : qFr N N') : qFR N N' := fun c i j a b d => h c i j (by omega) b (by omega)
theorem qFR_ld (N : qN0) (k x y t : Nat) : qFR N (qld N k x y t) := fun c i j a _ _ => qld_ne _ _ _ _ _ (by omega)
theorem qOK_fr {B : qB} {N N' : qN0} (h : qFR N N') (hO : qOK B N) : qOK B N' := qOKs hO (fun j _ _ => h _ _ _ (by omega) (by omega) (by omega)) (fun i hi => h _ _ _ (by omega) (by omega) (by omega))
theorem qGeo_fr {N N' : qN0} (h : qFR N N') (hn : N 4 1 5 ≤ 60) (hG : qGeo N) : qGeo N' := by
  obtain ⟨g1, g2, g3, g4⟩ := hG
  have e5 : N' 4 1 5 = N 4 1 5 := h _ _ _ (by omega) (by omega) (by omega)
  have e : ∀ i, i < N 4 1 5 → ∀ j, j ≠ 12 → N' 0 i j = N 0 i j := fun i hi j hj => h 0 i j (by omega) (by omega) (by omega)
  have ec : ∀ i, i < N 4 1 5 → ∀ cx cy, qci N' i cx cy = qci N i cx cy := fun i hi cx cy => by
    unfold qci
    rw [e i hi 4 (by decide), e i hi 5 (by decide), e i hi 6 (by decide), e i hi 7 (by decide)]
  have eT : ∀ c, N' 4 0 c = N 4 0 c := fun c => h _ _ _ (by omega) (by omega) (by omega)
  refine ⟨fun i hi => ?_, fun k i hk hi cx cy h1 h2 => ?_, fun i hi cx cy h1 => ?_, fun cx cy hx hy hT => ?_⟩
  · rw [e5] at hi
    rw [e i hi 4 (by decide), e i hi 5 (by decide), e i hi 6 (by decide), e i hi 7 (by decide), e i hi 8 (by decide), e i hi 9 (by decide), e i hi 1 (by decide)]
    exact g1 i hi
  · rw [e5] at hi
    rw [ec k (by omega)] at h1
    rw [ec i hi] at h2
    rw [e k (by omega) 9 (by decide), e i hi 8 (by decide)]
    exact g2 k i hk hi cx cy h1 h2
  · rw [e5] at hi
    rw [ec i hi] at h1
    rw [e i hi 9 (by decide), eT]
    exact g3 i hi cx cy h1
  · rw [eT] at hT
    obtain ⟨k, hk, hc, ht⟩ := g4 cx cy hx hy hT
    exact ⟨k, by rw [e5]; exact hk, by rw [ec k hk]; exact hc, by rw [e k hk 9 (by decide), eT]; exact ht⟩
theorem qSup_fr {B : qB} {R R' : qR0} {N N' : qN0} {S : Nat → Nat → Nat} (h : qFR N N') (hR : ∀ i, i ≠ 60 → R' i = R i) (hn : N 4 1 5 ≤ 60) (hS : qSup B R N S) : qSup B R' N' S := fun i hi => by
  have e5 : N' 4 1 5 = N 4 1 5 := h _ _ _ (by omega) (by omega) (by omega)
  rw [e5] at hi
  have e : ∀ i, i < N 4 1 5 → ∀ j, j ≠ 12 → N' 0 i j = N 0 i j := fun i hi j hj => h 0 i j (by omega) (by omega) (by omega)
  have e1 : N' 1 i = N 1 i := by funext j; exact h 1 i j (by omega) (by omega) (by omega)
  obtain ⟨s1, s2, s3, s4, s5, s6⟩ := hS i hi
  rw [e i hi 15 (by decide), e i hi 10 (by decide), e i hi 8 (by decide), e1, hR i (by omega)]
  exact ⟨s1, s2, s3, fun j hj => ⟨(s4 j hj).1, (s4 j hj).2.1, (s4 j hj).2.2.1, by rw [e _ (Nat.lt_trans (s4 j hj).2.1 hi) 9 (by decide)]; exact (s4 j hj).2.2.2⟩, s5, s6⟩
theorem qKin_fr {B : qB} {N N' : qN0} (h : qFR N N') (hK : qKin B N) : qKin B N' := fun k hk => by
  have e : ∀ j, N' 2 k j = N 2 k j := fun j => h _ _ _ (by omega) (by omega) (by omega)
  rw [e 0, e 1, e 2, e 3, e 4, e 5, e 6, e 7]
  exact hK k hk
theorem qRul_fr {N N' : qN0} (h : qFR N N') (hR : qRul N) : qRul N' := by
  have e : ∀ j, N' 4 1 j = N 4 1 j := fun j => h _ _ _ (by omega) (by omega) (by omega)
  unfold qRul
  rw [e 1, e 2, e 3]
  exact ⟨hR.1, hR.2.1, hR.2.2.1, fun c => by rw [h 4 0 c (by omega) (by omega) (by omega)]; exact hR.2.2.2 c⟩
theorem qwd_fr {N N' : qN0} (h : qFR N N') (k t : Nat) : qwd N' k t = qwd N k t ∧ qdp N' k t = qdp N k t := by
  unfold qwd qdp
  rw [h 2 k 1 (by omega) (by omega) (by omega), h 2 k 2 (by omega) (by omega) (by omega)]
  exact ⟨rfl, rfl⟩
theorem qItm_fr {B : qB} {N N' : qN0} (h : qFR N N') (hn : N 4 1 5 ≤ 60) (hI : qItm B N) : qItm B N' := fun i hi => by
  have e5 : N' 4 1 5 = N 4 1 5 := h _ _ _ (by omega) (by omega) (by omega)
  rw [e5] at hi
  have e : ∀ j, j ≠ 12 → N' 0 i j = N 0 i j := fun j hj => h 0 i j (by omega) (by omega) (by omega)
  have e2 : ∀ k j, N' 2 k j = N 2 k j := fun k j => h _ _ _ (by omega) (by omega) (by omega)
  have e4 : ∀ j, N' 4 1 j = N 4 1 j := fun j => h _ _ _ (by omega) (by omega) (by omega)
  rw [e 0 (by decide), e 1 (by decide), e 2 (by decide), e 3 (by decide), e 4 (by decide), e 5 (by decide), e 8 (by decide), e 9 (by decide), e 10 (by decide), e2, e2, e2, e2, e2, e4, e4, (qwd_fr h _ _).1, (qwd_fr h _ _).2]
  exact hI i hi
theorem qWt_fr {N N' : qN0} (h : qFR N N') (hn : N 4 1 5 ≤ 60) (hW : qWt N) : qWt N' := by
  have e4 : ∀ j, N' 4 1 j = N 4 1 j := fun j => h _ _ _ (by omega) (by omega) (by omega)
  unfold qWt
  rw [e4, e4, e4, e4, qsum_congr (g := fun i => N 0 i 1) (fun i hi => h 0 i 1 (by omega) (by omega) (by omega))]
  exact hW
theorem qLN_fr {N N' : qN0} {S S' : Nat → Nat → Nat} {n : Nat} (h : ∀ i, i < n → N' 0 i 1 = N 0 i 1 ∧ N' 0 i 10 = N 0 i 10 ∧ N' 0 i 15 = N 0 i 15 ∧ ∀ j, j < N 0 i 15 → N' 1 i j = N 1 i j ∧ S' i j = S i j) : ∀ k, k ≤ n → qLN S' N' n k = qLN S N n k := fun k hk =>
  (qLd_congr (fun i hi => (h i hi).1.symm) (fun i hi => (h i hi).2.1.symm) (fun i hi => (h i hi).2.2.1.symm) (fun i hi j hj => ⟨((h i hi).2.2.2 j hj).2.symm, ((h i hi).2.2.2 j hj).1.symm⟩) k hk).symm
theorem qLoad_fr {N N' : qN0} {S : Nat → Nat → Nat} (h : qFR N N') (hn : N 4 1 5 ≤ 60) (hL : qLoad N S) : qLoad N' S := fun i hi => by
  have e5 : N' 4 1 5 = N 4 1 5 := h _ _ _ (by omega) (by omega) (by omega)
  rw [e5] at hi ⊢
  have e : ∀ i, i < N 4 1 5 → ∀ j, j ≠ 12 → N' 0 i j = N 0 i j := fun i hi j hj => h 0 i j (by omega) (by omega) (by omega)
  rw [e i hi 11 (by decide), e i hi 2 (by decide), qLN_fr (N := N) (S := S) (fun i hi => ⟨e i hi 1 (by decide), e i hi 10 (by decide), e i hi 15 (by decide), fun j _ => ⟨h 1 i j (by omega) (by omega) (by omega), rfl⟩⟩) _ (Nat.le_refl _)]
  exact hL i hi
theorem qTr_ld {N : qN0} {k x y t : Nat} (hw : 0 < qwd N k t ∧ qwd N k t ≤ 6) (hd : 0 < qdp N k t ∧ qdp N k t ≤ 6) (hx : x + qwd N k t ≤ 12) (hy : y + qdp N k t ≤ 10) : qTr (qld N k x y t) := by
  have eF : ∀ x0 y0 x w y, qf (qld N k x0 y0 t) x w y = qf N x w y := fun x0 y0 x w y => by
    funext e
    unfold qf
    exact qld_ne _ _ _ _ _ (by omega)
  exact ⟨hw, hd, hx, hy, (by rw [eF]; rfl), (by rw [eF]; rfl)⟩
/-- allowed, whatever the search has changed -/
theorem qAl_fr {N N' : qN0} {S : Nat → Nat → Nat} {k : Nat} (hn : N 4 1 5 ≤ 60) (h : ∀ c i j, ¬ (c = 0 ∧ j = 12) → ¬ (c = 0 ∧ i = 60 ∧ 11 ≤ j) → ¬ (c = 1 ∧ i = 60) → N' c i j = N c i j) (hA : qAl N' S k) : qAl N S k := by
  obtain ⟨a1, a2, a3, a4, a5⟩ := hA
  have e4 : ∀ j, N' 4 1 j = N 4 1 j := fun j => h _ _ _ (by omega) (by omega) (by omega)
  have e6 : ∀ j, j ≤ 10 → N' 0 60 j = N 0 60 j := fun j hj => h _ _ _ (by omega) (by omega) (by omega)
  have e : ∀ i, i < N 4 1 5 → ∀ j, j ≠ 12 → N' 0 i j = N 0 i j := fun i hi j hj => h 0 i j (by omega) (by omega) (by omega)
  have ecm : ∀ i, i < N 4 1 5 → qcm N' 60 i = qcm N 60 i := fun i hi => by
    unfold qcm
    rw [e6 4 (by decide), e6 5 (by decide), e6 6 (by decide), e6 7 (by decide), e i hi 4 (by decide), e i hi 5 (by decide), e i hi 6 (by decide), e i hi 7 (by decide)]
  have esp : qsp N' 60 (N 4 1 5) = qsp N 60 (N 4 1 5) := qfs_congr (fun i hi => by
    unfold qPk
    rw [ecm i hi, e i hi 9 (by decide), e6 8 (by decide)])
  have eS : ∀ i, i < N 4 1 5 + 1 → qSx (qSt S N') (N 4 1 5) i = qSx (qSt S N) (N 4 1 5) i := fun i hi => by
    by_cases h9 : i = N 4 1 5
    · subst h9
      rw [qSx_n, qSx_n, qSt_60, qSt_60, e4, esp]
    · rw [qSx_i _ h9, qSx_i _ h9, qSt_i _ _ (by omega), qSt_i _ _ (by omega)]
  have eA : ∀ i, i < N 4 1 5 + 1 → ∀ j, j ≤ 10 ∨ j = 15 → qx (qtr N') (N 4 1 5) 0 i j = qx (qtr N) (N 4 1 5) 0 i j := fun i hi j hj => by
    by_cases h9 : i = N 4 1 5
    · subst h9
      rw [qx_n _ _ _ (by decide), qx_n _ _ _ (by decide)]
      by_cases h15 : j = 15
      · subst h15; rw [qtr_15, qtr_15, e4, esp]
      · rw [qtr_ne _ (by omega) (by omega), qtr_ne _ (by omega) (by omega)]; exact e6 j (by omega)
    · rw [qx_i _ _ h9, qx_i _ _ h9, qtr_ne _ (by omega) (by omega), qtr_ne _ (by omega) (by omega)]
      exact e i (by omega) j (by omega)
  rw [e6 9 (by decide), e4] at a1
  rw [h 2 k 7 (by omega) (by omega) (by omega), e6 8 (by decide)] at a2
  rw [e6 4 (by decide), e6 5 (by decide), e6 10 (by decide), e4] at a3
  rw [e4, e6 1 (by decide), e4] at a5
  refine ⟨a1, a2, a3, fun i hi => ?_, a5⟩
  have h1 := a4 i (by rw [e4]; exact hi)
  rw [e4, e i hi 2 (by decide)] at h1
  rw [qLN_fr (N := qx (qtr N) (N 4 1 5)) (S := qSx (qSt S N) (N 4 1 5)) (fun i hi => ⟨eA i hi 1 (by omega), eA i hi 10 (by omega), eA i hi 15 (by omega), fun j hj => ⟨?_, by rw [eS i hi]⟩⟩) _ (Nat.le_refl _)] at h1
  · exact h1
  · by_cases h9 : i = N 4 1 5
    · subst h9
      rw [qx_n _ _ _ (by decide), qtr_15] at hj
      rw [qx_n _ _ _ (by decide), qx_n _ _ _ (by decide), qtr_1, qtr_1, e4, esp]
      exact ecm _ (qfs_at hj).1
    · rw [qx_i _ _ h9, qx_i _ _ h9, qtr_ne _ (by omega) (by omega), qtr_ne _ (by omega) (by omega)]
      exact h 1 i j (by omega) (by omega) (by omega)
theorem qld_fr {N N1 : qN0} (h : qFR N N1) (k x y t : Nat) : ∀ c i j, ¬ (c = 0 ∧ j = 12) → ¬ (c = 0 ∧ i = 60 ∧ 11 ≤ j) → ¬ (c = 1 ∧ i = 60) → qld N1 k x y t c i j = qld N k x y t c i j := fun c i j h1 h2 h3 => by
  have e2 : ∀ j, N1 2 k j = N 2 k j := fun j => h _ _ _ (by omega) (by omega) (by omega)
  have eF : ∀ x w y, qf N1 x w y = qf N x w y := fun x w y => by
    funext e
    exact h _ _ _ (by omega) (by omega) (by omega)
  by_cases h9 : c = 0 ∧ i = 60
  · obtain ⟨rfl, rfl⟩ := h9
    unfold qld
    rw [if_pos ⟨rfl, rfl, by omega⟩, if_pos ⟨rfl, rfl, by omega⟩]
    unfold qbt qgd
    rw [(qwd_fr h k t).1, (qwd_fr h k t).2, eF, e2, e2, e2, e2]
  · rw [qld_ne _ _ _ _ _ (by omega), qld_ne _ _ _ _ _ (by omega)]
    exact h c i j (by omega) h3 h1
/-- a place that the search may answer -/
def qPl (N : qN0) (S : Nat → Nat → Nat) (k p : Nat) : Prop := p < 240 ∧ (p % 2 = 1 → N 2 k 6 = 1) ∧ p / 2 % 12 + qwd N k (p % 2) ≤ 12 ∧ p / 2 / 12 + qdp N k (p % 2) ≤ 10 ∧ qAl (qld N k (p / 2 % 12) (p / 2 / 12) (p % 2)) S k
theorem qwd_bd {B : qB} {N : qN0} (hK : qKin B N) {k : Nat} (hk : k < qk B) (t : Nat) : (0 < qwd N k t ∧ qwd N k t ≤ 6) ∧ (0 < qdp N k t ∧ qdp N k t ≤ 6) := by
  obtain ⟨-, k1, k2, -⟩ := hK k hk
  unfold qwd qdp
  split
  · exact ⟨k2, k1⟩
  · exact ⟨k1, k2⟩
theorem qld_M {B : qB} {N : qN0} (hM : qM N) {k x y t : Nat} (hk : k < qk B) (hK : qKin B N) (hR : qRul N) (hx : x < 12) (hy : y < 10) (ht : t < 2) : qM (qld N k x y t) := fun c i j => by
  unfold qld
  split
  · rename_i h9
    obtain ⟨rfl, rfl, hj⟩ := h9
    have w1 := qwd_bd hK hk t
    have b1 : qbt N k x y t ≤ 40 := qmx_le (fun e _ => hR.2.2.2 _)
    have g1 : qgd N k x y t ≤ 36 := Nat.le_trans qgr_le (Nat.mul_le_mul w1.1.2 w1.2.2)
    have k3 := (hK k hk).2.2.2.1.2
    have m0 := hM 2 k 0
    have m4 := hM 2 k 4
    have m5 := hM 2 k 5
    rcases (show j = 0 ∨ j = 1 ∨ j = 2 ∨ j = 3 ∨ j = 4 ∨ j = 5 ∨ j = 6 ∨ j = 7 ∨ j = 8 ∨ j = 9 ∨ j = 10 by omega) with h | h | h | h | h | h | h | h | h | h | h <;> subst h <;> simp only [List.getD, List.getElem?_cons_succ, List.getElem?_cons_zero, Option.getD_some] <;> omega
  · exact hM c i j
end
section
/-- the tops of some cells raised to an item's top -/
def qlP (N : qN0) (i : Nat) (P : Nat → Nat → Bool) : qN0 := fun c i' j => if c = 4 ∧ i' = 0 ∧ P (j % 12) (j / 12) = true then max (N 4 0 j) (N 0 i 9) else N c i' j
theorem qlP_ne (N : qN0) (i : Nat) (P : Nat → Nat → Bool) {c i' j : Nat} (h : c ≠ 4 ∨ i' ≠ 0) : qlP N i P c i' j = N c i' j := by
  unfold qlP
  rw [if_neg (fun h9 => by omega)]
theorem qlP_at (N : qN0) (i : Nat) (P : Nat → Nat → Bool) {cx cy : Nat} (hx : cx < 12) : qlP N i P 4 0 (cy * 12 + cx) = if P cx cy = true then max (N 4 0 (cy * 12 + cx)) (N 0 i 9) else N 4 0 (cy * 12 + cx) := by
  unfold qlP
  rw [show (cy * 12 + cx) % 12 = cx by omega, show (cy * 12 + cx) / 12 = cy by omega]
  by_cases h : P cx cy = true <;> simp [h]
theorem qlP_congr (N : qN0) (i : Nat) {P P' : Nat → Nat → Bool} (h : ∀ cx cy, cx < 12 → P cx cy = P' cx cy) : qlP N i P = qlP N i P' := by
  funext c i' j
  unfold qlP
  rw [h (j % 12) (j / 12) (Nat.mod_lt _ (by decide))]
/-- one more cell: written, or high enough -/
theorem qlP_up {N : qN0} {i : Nat} {P : Nat → Nat → Bool} {cx cy : Nat} (hx : cx < 12) (hP : P cx cy = false) (ht : N 4 0 (cy * 12 + cx) < N 0 i 9) : qp (qlP N i P) 4 0 (cy * 12 + cx) (N 0 i 9) = qlP N i (fun a b => P a b || (decide (a = cx) && decide (b = cy))) := by
  funext c i' j
  unfold qp qlP
  by_cases h : c = 4 ∧ i' = 0 ∧ j = cy * 12 + cx
  · obtain ⟨rfl, rfl, rfl⟩ := h
    rw [if_pos ⟨rfl, rfl, rfl⟩, show (cy * 12 + cx) % 12 = cx by omega, show (cy * 12 + cx) / 12 = cy by omega, if_pos ⟨rfl, rfl, by simp⟩]
    omega
  · rw [if_neg h]
    by_cases h2 : c = 4 ∧ i' = 0
    · have hj : ¬ (j % 12 = cx ∧ j / 12 = cy) := fun h9 => h ⟨h2.1, h2.2, by omega⟩
      have e : (P (j % 12) (j / 12) || (decide (j % 12 = cx) && decide (j / 12 = cy))) = P (j % 12) (j / 12) := by
        by_cases h3 : j % 12 = cx
        · have h4 : ¬ j / 12 = cy := fun h9 => hj ⟨h3, h9⟩
          simp [h4]
        · simp [h3]
      show _ = if c = 4 ∧ i' = 0 ∧ (P (j % 12) (j / 12) || (decide (j % 12 = cx) && decide (j / 12 = cy))) = true then _ else _
      rw [e]
    · rw [if_neg (fun h9 => h2 ⟨h9.1, h9.2.1⟩), if_neg (fun h9 => h2 ⟨h9.1, h9.2.1⟩)]
theorem qlP_dn {N : qN0} {i : Nat} {P : Nat → Nat → Bool} {cx cy : Nat} (ht : N 0 i 9 ≤ N 4 0 (cy * 12 + cx)) : qlP N i P = qlP N i (fun a b => P a b || (decide (a = cx) && decide (b = cy))) := by
  funext c i' j
  unfold qlP
  by_cases h2 : c = 4 ∧ i' = 0
  · obtain ⟨rfl, rfl⟩ := h2
    by_cases hj : j % 12 = cx ∧ j / 12 = cy
    · have he : j = cy * 12 + cx := by omega
      subst he
      rw [show (cy * 12 + cx) % 12 = cx by omega, show (cy * 12 + cx) / 12 = cy by omega]
      by_cases hp : P cx cy = true
      · simp [hp]
      · simp only [hp, decide_true, Bool.and_self, Bool.or_true, and_self, if_true]
        simp
        omega
    · have e : (P (j % 12) (j / 12) || (decide (j % 12 = cx) && decide (j / 12 = cy))) = P (j % 12) (j / 12) := by
        by_cases h3 : j % 12 = cx
        · have h4 : ¬ j / 12 = cy := fun h9 => hj ⟨h3, h9⟩
          simp [h4]
        · simp [h3]
      by_cases hp : P (j % 12) (j / 12) = true
      · rw [if_pos ⟨rfl, rfl, hp⟩]
        exact (if_pos ⟨rfl, rfl, e.trans hp⟩).symm
      · rw [if_neg (fun h9 => hp h9.2.2)]
        exact (if_neg (fun h9 => hp (e.symm.trans h9.2.2))).symm
  · rw [if_neg (fun h9 => h2 ⟨h9.1, h9.2.1⟩), if_neg (fun h9 => h2 ⟨h9.1, h9.2.1⟩)]
/-- the cells of an item that were seen: b rows and a cells of the next -/
def qsn (x w y b a : Nat) : Nat → Nat → Bool := fun cx cy => decide (x ≤ cx) && decide (cx < x + w) && decide (y ≤ cy) && (decide (cy < y + b) || (decide (cy = y + b) && decide (cx < x + a)))
theorem qsn_0 (x w y : Nat) (cx cy : Nat) : qsn x w y 0 0 cx cy = false := by
  cases h : qsn x w y 0 0 cx cy
  · rfl
  · simp [qsn] at h; omega
theorem qsn_1 (x w y b a : Nat) (h : a < w) (cx cy : Nat) : (qsn x w y b a cx cy || (decide (cx = x + a) && decide (cy = y + b))) = qsn x w y b (a + 1) cx cy := by
  rw [Bool.eq_iff_iff]
  simp [qsn]
  omega
theorem qsn_r (x w y b : Nat) (cx cy : Nat) : qsn x w y b w cx cy = qsn x w y (b + 1) 0 cx cy := by
  rw [Bool.eq_iff_iff]
  simp [qsn]
  omega
theorem qsn_e (x w y d : Nat) (cx cy : Nat) : qsn x w y d 0 cx cy = qcov x w y d cx cy := by
  rw [Bool.eq_iff_iff]
  simp [qsn, qcov]
  omega
theorem qsn_n (x w y b a : Nat) : qsn x w y b a (x + a) (y + b) = false := by
  cases h : qsn x w y b a (x + a) (y + b)
  · rfl
  · simp [qsn] at h
end
section
/-- n and 60 changed places -/
def qsw (n i : Nat) : Nat := if i = n then 60 else if i = 60 then n else i
theorem qsw_n (n : Nat) : qsw n n = 60 := by simp [qsw]
theorem qsw_60 (n : Nat) : qsw n 60 = n := by
  unfold qsw
  by_cases h : 60 = n <;> simp [h]
theorem qsw_i {n i : Nat} (h1 : i ≠ n) (h2 : i ≠ 60) : qsw n i = i := by simp [qsw, h1, h2]
theorem qsw_lt {n i : Nat} (hn : n < 60) (h : i < 61) : qsw n i < 61 := by
  unfold qsw
  split
  · omega
  · split <;> omega
theorem qsw_sw (n i : Nat) : qsw n (qsw n i) = i := by
  by_cases h1 : i = n
  · subst h1; rw [qsw_n, qsw_60]
  · by_cases h2 : i = 60
    · subst h2; rw [qsw_60, qsw_n]
    · rw [qsw_i h1 h2, qsw_i h1 h2]
/-- the base, supports and numbers behind the change -/
def qBs (B : qB) (n : Nat) : qB := (qY B, fun c i => if c ≤ 2 then qA B c (qsw n i) else qA B c i, fun c => if c = 1 then va_up (qF B 1) n (some (qA B 0 60)) else qF B c, qk B, ql B)
def qRs (R : qR0) (n : Nat) : qR0 := fun i => R (qsw n i)
def qNs (N : qN0) (n : Nat) : qN0 := fun c i => if c ≤ 1 then N c (qsw n i) else N c i
theorem qBs_A (B : qB) (n c i : Nat) (h : c ≤ 2) : qA (qBs B n) c i = qA B c (qsw n i) := by
  show (if c ≤ 2 then qA B c (qsw n i) else qA B c i) = _
  exact if_pos h
theorem qBs_A3 (B : qB) (n c i : Nat) (h : 3 ≤ c) : qA (qBs B n) c i = qA B c i := by
  show (if c ≤ 2 then qA B c (qsw n i) else qA B c i) = _
  exact if_neg (by omega)
theorem qNs_1 (N : qN0) (n c i : Nat) (h : c ≤ 1) : qNs N n c i = N c (qsw n i) := by simp [qNs, h]
theorem qNs_2 (N : qN0) (n c i : Nat) (h : 2 ≤ c) : qNs N n c i = N c i := by
  have : ¬ c ≤ 1 := by omega
  simp [qNs, this]
/-- the world between: the object and the items' array written, the rest as it was -/
def qHx (B : qB) (N : qN0) (tr : Nat) (F : Nat → Option Nat) : va_W := [(qA B 5 0, .inr (3, [.ref (qA B 5 1), .int (nI (N 4 1 0)), .int (nI (N 4 1 1)), .int (nI (N 4 1 2)), .int (nI (N 4 1 3)), .int (nI (N 4 1 4)), .ref (qA B 5 2), .int (nI (N 4 1 5)), .int (nI (N 4 1 6)), .int (nI (N 4 1 7)), .ref (qA B 5 3), .ref tr, .ref (qA B 5 4), .int (nI (N 4 1 8))])), (qA B 5 1, .inl (qY B 0, 10, .inr (.inr (.inr (.inr (qF B 0)))))), (qA B 5 2, .inl (qY B 1, 60, .inr (.inr (.inr (.inr F))))), (qA B 5 3, .inl (qY B 2, 120, .inl (fun c => nI (N 4 0 c)))), (qA B 5 4, .inl (qY B 3, 20, .inr (.inr (.inr (.inr (qF B 2))))))]
def qTl (B : qB) (R : qR0) (N : qN0) : va_W := (List.range 61).map (qi B N) ++ ((List.range 61).map (qs B R) ++ ((List.range 61).map (qc B N) ++ ((List.range (qk B)).map (qd B N) ++ (List.range (ql B)).map (qn B N))))
theorem qG_x (B : qB) (R : qR0) (N : qN0) : qG B R N = qHx B N (qA B 0 60) (qF B 1) ++ qTl B R N := rfl
theorem qHx_1 (B : qB) (R : qR0) (N : qN0) (tr tr' : Nat) (F : Nat → Option Nat) {fs : List Value} (hfs : fs = [.ref (qA B 5 1), .int (nI (N 4 1 0)), .int (nI (N 4 1 1)), .int (nI (N 4 1 2)), .int (nI (N 4 1 3)), .int (nI (N 4 1 4)), .ref (qA B 5 2), .int (nI (N 4 1 5)), .int (nI (N 4 1 6)), .int (nI (N 4 1 7)), .ref (qA B 5 3), .ref tr', .ref (qA B 5 4), .int (nI (N 4 1 8))]) : (qHx B N tr F ++ qTl B R N).set 0 (qA B 5 0, .inr (3, fs)) = qHx B N tr' F ++ qTl B R N := by
  subst hfs; rfl
theorem qHx_2 (B : qB) (R : qR0) (N : qN0) (tr : Nat) (F F' : Nat → Option Nat) : (qHx B N tr F ++ qTl B R N).set 2 (qA B 5 2, .inl (qY B 1, 60, .inr (.inr (.inr (.inr F'))))) = qHx B N tr F' ++ qTl B R N := rfl
theorem qTl_i {B : qB} {R : qR0} {N : qN0} {X : va_W} {i : Nat} (hX : X.length = 5) (h : i < 61) : (X ++ qTl B R N)[5 + i]? = some (qi B N i) := qap_get h hX
theorem qTl_s {B : qB} {R : qR0} {N : qN0} {X : va_W} {i : Nat} (hX : X.length = 5) (h : i < 61) : (X ++ qTl B R N)[66 + i]? = some (qs B R i) := by
  unfold qTl
  rw [← List.append_assoc]
  exact qap_get h (by simp [hX])
theorem qTl_c {B : qB} {R : qR0} {N : qN0} {X : va_W} {i : Nat} (hX : X.length = 5) (h : i < 61) : (X ++ qTl B R N)[127 + i]? = some (qc B N i) := by
  unfold qTl
  rw [← List.append_assoc, ← List.append_assoc]
  exact qap_get h (by simp [hX])
theorem qTl_e {B : qB} {R : qR0} {N : qN0} {X : va_W} {k : Nat} (hX : X.length = 5) (h : 188 ≤ k) : (X ++ qTl B R N)[k]? = ((List.range (qk B)).map (qd B N) ++ (List.range (ql B)).map (qn B N))[k - 188]? := by
  unfold qTl
  have hlen : (X ++ (List.range 61).map (qi B N) ++ (List.range 61).map (qs B R) ++ (List.range 61).map (qc B N)).length = 188 := by simp [hX]
  rw [← List.append_assoc, ← List.append_assoc, ← List.append_assoc, List.getElem?_append_right (by rw [hlen]; exact h), hlen]
/-- place for place: the world behind the change is the one between -/
theorem qswap {B : qB} {R : qR0} {N : qN0} {n : Nat} (hn : n < 60) : ∀ (k : Nat) (q : Nat × va_E), (qG (qBs B n) (qRs R n) (qNs N n))[k]? = some q →
    (qHx B N (qA B 0 n) (va_up (qF B 1) n (some (qA B 0 60))) ++ qTl B R N)[if k < 5 then k else if k < 66 then 5 + qsw n (k - 5) else if k < 127 then 66 + qsw n (k - 66) else if k < 188 then 127 + qsw n (k - 127) else k]? = some q := by
  intro k q hk
  rw [qG_x] at hk
  by_cases h5 : k < 5
  · rw [if_pos h5]
    have hh : qHx (qBs B n) (qNs N n) (qA (qBs B n) 0 60) (qF (qBs B n) 1) = qHx B N (qA B 0 n) (va_up (qF B 1) n (some (qA B 0 60))) := by
      unfold qHx
      rw [qBs_A _ _ _ _ (show 0 ≤ 2 by decide), qsw_60, qNs_2 _ _ 4 1 (by decide), qNs_2 _ _ 4 0 (by decide)]
      simp only [qBs_A3 _ _ 5 _ (show 3 ≤ 5 by decide)]
      rfl
    rw [hh] at hk
    rw [List.getElem?_append_left (by show k < 5; exact h5)] at hk ⊢
    exact hk
  · rw [if_neg h5]
    by_cases h66 : k < 66
    · rw [if_pos h66]
      rw [show k = 5 + (k - 5) by omega, qTl_i rfl (by omega)] at hk
      rw [qTl_i rfl (qsw_lt hn (by omega)), ← hk]
      unfold qi
      rw [qBs_A _ _ _ _ (by decide), qNs_1 _ _ _ _ (by decide)]
      unfold qIt
      rw [qBs_A _ _ _ _ (by decide), qBs_A _ _ _ _ (by decide)]
    · rw [if_neg h66]
      by_cases h127 : k < 127
      · rw [if_pos h127]
        rw [show k = 66 + (k - 66) by omega, qTl_s rfl (by omega)] at hk
        rw [qTl_s rfl (qsw_lt hn (by omega)), ← hk]
        unfold qs
        rw [qBs_A _ _ _ _ (by decide)]
        rfl
      · rw [if_neg h127]
        by_cases h188 : k < 188
        · rw [if_pos h188]
          rw [show k = 127 + (k - 127) by omega, qTl_c rfl (by omega)] at hk
          rw [qTl_c rfl (qsw_lt hn (by omega)), ← hk]
          unfold qc
          rw [qBs_A _ _ _ _ (by decide), qNs_1 _ _ _ _ (by decide)]
          rfl
        · rw [if_neg h188]
          rw [qTl_e rfl (by omega)] at hk ⊢
          rw [← hk]
          have e1 : qd (qBs B n) (qNs N n) = qd B N := by
            funext i
            unfold qd
            rw [qBs_A3 _ _ _ _ (by decide), qNs_2 _ _ _ _ (by decide)]
          have e2 : qn (qBs B n) (qNs N n) = qn B N := by
            funext i
            unfold qn qLn
            rw [qBs_A3 _ _ _ _ (by decide), qBs_A3 _ _ _ _ (by decide), qNs_2 _ _ _ _ (by decide)]
          rw [e1, e2]
          rfl
theorem qsw_inj {n i j : Nat} (h : qsw n i = qsw n j) : i = j := by
  have := congrArg (qsw n) h
  rwa [qsw_sw, qsw_sw] at this
def qix (n k : Nat) : Nat := if k < 5 then k else if k < 66 then 5 + qsw n (k - 5) else if k < 127 then 66 + qsw n (k - 66) else if k < 188 then 127 + qsw n (k - 127) else k
theorem qix_ix {n : Nat} (hn : n < 60) (k : Nat) : qix n (qix n k) = k := by
  by_cases h5 : k < 5
  · have e : qix n k = k := if_pos h5
    rw [e]; exact e
  · by_cases h66 : k < 66
    · have e : qix n k = 5 + qsw n (k - 5) := by unfold qix; rw [if_neg h5, if_pos h66]
      have b := qsw_lt (i := k - 5) hn (by omega)
      rw [e]
      unfold qix
      rw [if_neg (by omega), if_pos (by omega), Nat.add_sub_cancel_left, qsw_sw]; omega
    · by_cases h127 : k < 127
      · have e : qix n k = 66 + qsw n (k - 66) := by unfold qix; rw [if_neg h5, if_neg h66, if_pos h127]
        have b := qsw_lt (i := k - 66) hn (by omega)
        rw [e]
        unfold qix
        rw [if_neg (by omega), if_neg (by omega), if_pos (by omega), Nat.add_sub_cancel_left, qsw_sw]; omega
      · by_cases h188 : k < 188
        · have e : qix n k = 127 + qsw n (k - 127) := by unfold qix; rw [if_neg h5, if_neg h66, if_neg h127, if_pos h188]
          have b := qsw_lt (i := k - 127) hn (by omega)
          rw [e]
          unfold qix
          rw [if_neg (by omega), if_neg (by omega), if_neg (by omega), if_pos (by omega), Nat.add_sub_cancel_left, qsw_sw]; omega
        · have e : qix n k = k := by unfold qix; rw [if_neg h5, if_neg h66, if_neg h127, if_neg h188]
          rw [e]; exact e
theorem qP_swap {D : zG} {B : qB} {R : qR0} {N : qN0} {n : Nat} {H : Heap} (hn : n < 60) (hP : va_P D vwCl (qHx B N (qA B 0 n) (va_up (qF B 1) n (some (qA B 0 60))) ++ qTl B R N) H) : va_P D vwCl (qG (qBs B n) (qRs R n) (qNs N n)) H := hP.by (qix n) (qswap hn)
theorem qD_swap {A : Nat → Prop} {B : qB} {R : qR0} {N : qN0} {n : Nat} (hn : n < 60) (hD : va_D A (qHx B N (qA B 0 n) (va_up (qF B 1) n (some (qA B 0 60))) ++ qTl B R N)) : va_D A (qG (qBs B n) (qRs R n) (qNs N n)) := hD.by (qix n) (qswap hn) (fun i j _ _ h => by
  have := congrArg (qix n) h
  rwa [qix_ix hn, qix_ix hn] at this)
end
section
set_option maxHeartbeats 4000000 in
set_option maxRecDepth 100000 in
theorem c_isWithin (l : Launch) (D : zG) (sz : Nat) (a b c1 : Int32) : Met l yX3_isWithin wsX3_isWithin ({ frames := 0, cells := 0, slots := 0, locals := 0 }) (zPc D [] ([]) sz [.int a, .int b, .int c1]) (vp_Si (fun r => r = if b ≤ a ∧ a ≤ c1 then 1 else 0)) 0 0 (fun _ => False) := by
  refine Met.ofW (cc := cX3_isWithin) (maxL := 3) (ret := (some .boolean)) (by decide) rfl ?_
  intro p e s m args below meth c s₁ B hml hv
  obtain ⟨rfl, hsz, hP, hK, hD0⟩ := hv
  have hx := B.exec
  have hb := B.bytes
  have hr := B.returns
  have hts := atoms_spec (ws := wsX3_isWithin) B.pre
  have hown : s.vm.findClass RX3 = some m.cls := findClass_of_methodNamed B.named
  have hlocks := B.notSynchronized
  subst hsz
  have hD := hD0
  generalize hAe : (fun _ : Nat => True) = A at hD
  have hl := lv_entry ([.int a, .int b, .int c1]) (n := 3) (Nat.le_of_ble_eq_true rfl)
  rw [lg_entry_eq]
  generalize (lg_sl ([.int a, .int b, .int c1]) ++ List.replicate (3 - (lg_sl ([.int a, .int b, .int c1])).length) Slot.unset).toArray = ls at hl ⊢
  have hl : lv_has ls 3 [(0, .int a), (1, .int b), (2, .int c1)] := hl
  have hP : va_P D vwCl ([]) s.heap := hP
  generalize hRe : (headSpec _ _).room = R
  have hRf : R.frames = 0 := by rw [← hRe]; rfl
  have hRc : R.cells = 0 := by rw [← hRe]; rfl
  have hRs : R.slots = 0 := by rw [← hRe]; rfl
  have hRl : R.locals = 0 := by rw [← hRe]; rfl
  clear hRe
  refine lv_iload_n hx hb dX3_isWithin_0 rfl (lv_at hl 0 rfl) ?_
  refine lv_iload_n hx hb dX3_isWithin_1 rfl (lv_at hl 1 rfl) ?_
  refine lv_icmp_lt (tgt := 14) hx hb dX3_isWithin_2 (by decide) (fun c_1 => ?_) (fun c_1 => ?_)
  · have h_b := True.intro
    refine lv_iconst (v := 0) hx hb dX3_isWithin_14 (by decide) ?_
    exact W.zret (ty := .boolean) (v := 0) hx hb hr rfl (fun t ht hW => ⟨0, rfl, (if_neg (fun h => absurd h.1 (Int32.not_le.mpr c_1))).symm, ht⟩) (fun _ h => by cases h) dX3_isWithin_15
  · have h_b := True.intro
    refine lv_iload_n hx hb dX3_isWithin_5 rfl (lv_at hl 0 rfl) ?_
    refine lv_iload_n hx hb dX3_isWithin_6 rfl (lv_at hl 2 rfl) ?_
    refine lv_icmp_gt (tgt := 14) hx hb dX3_isWithin_7 (by decide) (fun c_2 => ?_) (fun c_2 => ?_)
    · have h_b := True.intro
      refine lv_iconst (v := 0) hx hb dX3_isWithin_14 (by decide) ?_
      exact W.zret (ty := .boolean) (v := 0) hx hb hr rfl (fun t ht hW => ⟨0, rfl, (if_neg (fun h => absurd h.2 (Int32.not_le.mpr c_2))).symm, ht⟩) (fun _ h => by cases h) dX3_isWithin_15
    · have h_b := True.intro
      refine lv_iconst (v := 1) hx hb dX3_isWithin_10 (by decide) ?_
      refine lv_goto (tgt := 15) hx hb dX3_isWithin_11 (by decide) ?_
      exact W.zret (ty := .boolean) (v := 1) hx hb hr rfl (fun t ht hW => ⟨1, rfl, (if_pos ⟨Int32.not_lt.mp c_1, Int32.not_lt.mp c_2⟩).symm, ht⟩) (fun _ h => by cases h) dX3_isWithin_15
set_option maxHeartbeats 4000000 in
set_option maxRecDepth 100000 in
theorem c_isCell (l : Launch) (D : zG) (sz : Nat) (a b : Int32) : Met l yX3_isCell wsX3_isCell ({ frames := 1, cells := 0, slots := 0, locals := 22 }) (zPc D [] ([]) sz [.int a, .int b]) (vp_Si (fun r => r = if (0 ≤ a ∧ a ≤ 11) ∧ (0 ≤ b ∧ b ≤ 9) then 1 else 0)) 0 0 (fun _ => False) := by
  refine Met.ofW (cc := cX3_isCell) (maxL := 2) (ret := (some .boolean)) (by decide) rfl ?_
  intro p e s m args below meth c s₁ B hml hv
  obtain ⟨rfl, hsz, hP, hK, hD0⟩ := hv
  have hx := B.exec
  have hb := B.bytes
  have hr := B.returns
  have hts := atoms_spec (ws := wsX3_isCell) B.pre
  have hown : s.vm.findClass RX3 = some m.cls := findClass_of_methodNamed B.named
  have hlocks := B.notSynchronized
  subst hsz
  have hD := hD0
  generalize hAe : (fun _ : Nat => True) = A at hD
  have hl := lv_entry ([.int a, .int b]) (n := 2) (Nat.le_of_ble_eq_true rfl)
  rw [lg_entry_eq]
  generalize (lg_sl ([.int a, .int b]) ++ List.replicate (2 - (lg_sl ([.int a, .int b])).length) Slot.unset).toArray = ls at hl ⊢
  have hl : lv_has ls 2 [(0, .int a), (1, .int b)] := hl
  have hP : va_P D vwCl ([]) s.heap := hP
  generalize hRe : (headSpec _ _).room = R
  have hRf : R.frames = 1 := by rw [← hRe]; rfl
  have hRc : R.cells = 0 := by rw [← hRe]; rfl
  have hRs : R.slots = 0 := by rw [← hRe]; rfl
  have hRl : R.locals = 22 := by rw [← hRe]; rfl
  clear hRe
  refine lv_iload_n hx hb dX3_isCell_0 rfl (lv_at hl 0 rfl) ?_
  refine lv_iconst (v := 0) hx hb dX3_isCell_1 (by decide) ?_
  refine lv_bipush (v := 11) hx hb dX3_isCell_2 (by decide) ?_
  refine zrdS (As := [.int a, .int 0, .int 11]) (rest := []) (wc := []) ⟨hx, hb, hml, hown, hts⟩ (c_isWithin l D _ a 0 11) (va_cwS 3 hts gX3_isCell_X3_isWithin rfl rfl rfl (by decide +kernel) ⟨by rw [hRf]; exact Nat.le_of_ble_eq_true rfl, by rw [hRl]; exact Nat.le_of_ble_eq_true rfl⟩) hK hP hD [] rfl (by decide) [] rfl rfl hl.1 rfl (Nat.le_of_ble_eq_true rfl) dX3_isCell_4 ⟨by omega, by omega⟩ (fun r_3 hr_3 => ?_)
  refine lv_if_eq (tgt := 24) hx hb dX3_isCell_7 (by decide) (fun c_4 => ?_) (fun c_4 => ?_)
  · have h_b := True.intro
    have k_5 : ¬ (0 ≤ a ∧ a ≤ 11) := fun h9 => absurd ((hr_3.trans (if_pos h9)).symm.trans c_4) (by decide)
    refine lv_iconst (v := 0) hx hb dX3_isCell_24 (by decide) ?_
    exact W.zret (ty := .boolean) (v := 0) hx hb hr rfl (fun t ht hW => ⟨0, rfl, (if_neg (fun h => absurd h.1 k_5)).symm, ht⟩) (fun _ h => by cases h) dX3_isCell_25
  · have h_b := True.intro
    have k_6 : 0 ≤ a ∧ a ≤ 11 := Decidable.byContradiction fun h9 => absurd (hr_3.trans (if_neg h9)) c_4
    refine lv_iload_n hx hb dX3_isCell_10 rfl (lv_at hl 1 rfl) ?_
    refine lv_iconst (v := 0) hx hb dX3_isCell_11 (by decide) ?_
    refine lv_bipush (v := 9) hx hb dX3_isCell_12 (by decide) ?_
    refine zrdS (As := [.int b, .int 0, .int 9]) (rest := []) (wc := []) ⟨hx, hb, hml, hown, hts⟩ (c_isWithin l D _ b 0 9) (va_cwS 3 hts gX3_isCell_X3_isWithin rfl rfl rfl (by decide +kernel) ⟨by rw [hRf]; exact Nat.le_of_ble_eq_true rfl, by rw [hRl]; exact Nat.le_of_ble_eq_true rfl⟩) hK hP hD [] rfl (by decide) [] rfl rfl hl.1 rfl (Nat.le_of_ble_eq_true rfl) dX3_isCell_14 ⟨by omega, by omega⟩ (fun r_7 hr_7 => ?_)
    refine lv_if_eq (tgt := 24) hx hb dX3_isCell_17 (by decide) (fun c_8 => ?_) (fun c_8 => ?_)
    · have h_b := True.intro
      have k_9 : ¬ (0 ≤ b ∧ b ≤ 9) := fun h9 => absurd ((hr_7.trans (if_pos h9)).symm.trans c_8) (by decide)
      refine lv_iconst (v := 0) hx hb dX3_isCell_24 (by decide) ?_
      exact W.zret (ty := .boolean) (v := 0) hx hb hr rfl (fun t ht hW => ⟨0, rfl, (if_neg (fun h => absurd h.2 k_9)).symm, ht⟩) (fun _ h => by cases h) dX3_isCell_25
    · have h_b := True.intro
      have k_10 : 0 ≤ b ∧ b ≤ 9 := Decidable.byContradiction fun h9 => absurd (hr_7.trans (if_neg h9)) c_8
      refine lv_iconst (v := 1) hx hb dX3_isCell_20 (by decide) ?_
      refine lv_goto (tgt := 25) hx hb dX3_isCell_21 (by decide) ?_
      exact W.zret (ty := .boolean) (v := 1) hx hb hr rfl (fun t ht hW => ⟨1, rfl, (if_pos ⟨k_6, k_10⟩).symm, ht⟩) (fun _ h => by cases h) dX3_isCell_25
set_option maxHeartbeats 4000000 in
set_option maxRecDepth 100000 in
theorem c_xOf (l : Launch) (D : zG) (sz : Nat) (c1 : Nat) (hc : c1 < 240) : Met l yX3_xOf wsX3_xOf ({ frames := 0, cells := 0, slots := 0, locals := 0 }) (zPc D [] ([]) sz [.int (nI c1)]) (vp_Si (fun r => r = nI (c1 / 2 % 12))) 0 0 (fun _ => False) := by
  refine Met.ofW (cc := cX3_xOf) (maxL := 1) (ret := (some .int)) (by decide) rfl ?_
  intro p e s m args below meth c s₁ B hml hv
  obtain ⟨rfl, hsz, hP, hK, hD0⟩ := hv
  have hx := B.exec
  have hb := B.bytes
  have hr := B.returns
  have hts := atoms_spec (ws := wsX3_xOf) B.pre
  have hown : s.vm.findClass RX3 = some m.cls := findClass_of_methodNamed B.named
  have hlocks := B.notSynchronized
  subst hsz
  have hD := hD0
  generalize hAe : (fun _ : Nat => True) = A at hD
  have hl := lv_entry ([.int (nI c1)]) (n := 1) (Nat.le_of_ble_eq_true rfl)
  rw [lg_entry_eq]
  generalize (lg_sl ([.int (nI c1)]) ++ List.replicate (1 - (lg_sl ([.int (nI c1)])).length) Slot.unset).toArray = ls at hl ⊢
  have hl : lv_has ls 1 [(0, .int (nI c1))] := hl
  have hP : va_P D vwCl ([]) s.heap := hP
  generalize hRe : (headSpec _ _).room = R
  have hRf : R.frames = 0 := by rw [← hRe]; rfl
  have hRc : R.cells = 0 := by rw [← hRe]; rfl
  have hRs : R.slots = 0 := by rw [← hRe]; rfl
  have hRl : R.locals = 0 := by rw [← hRe]; rfl
  clear hRe
  refine lv_iload_n hx hb dX3_xOf_0 rfl (lv_at hl 0 rfl) ?_
  refine lv_iconst (v := 2) hx hb dX3_xOf_1 (by decide) ?_
  refine lv_idiv hx hb dX3_xOf_2 (by decide) ?_
  refine lv_topi (fun v_11 ev_11 => ?_)
  obtain rfl : v_11 = (nI (c1 / 2)) := ev_11.trans (pk_div (d := 2) (by omega) (by decide) (by decide))
  refine lv_bipush (v := 12) hx hb dX3_xOf_3 (by decide) ?_
  refine lv_irem hx hb dX3_xOf_5 (by decide) ?_
  refine lv_topi (fun v_12 ev_12 => ?_)
  obtain rfl : v_12 = (nI (c1 / 2 % 12)) := ev_12.trans (pk_rem (d := 12) (by omega) (by decide) (by decide))
  exact W.iret (v := (nI (c1 / 2 % 12))) hx hb hr (fun t ht hW => ⟨(nI (c1 / 2 % 12)), rfl, rfl, ht⟩) (fun _ h => by cases h) dX3_xOf_6
set_option maxHeartbeats 4000000 in
set_option maxRecDepth 100000 in
theorem c_yOf (l : Launch) (D : zG) (sz : Nat) (c1 : Nat) (hc : c1 < 240) : Met l yX3_yOf wsX3_yOf ({ frames := 0, cells := 0, slots := 0, locals := 0 }) (zPc D [] ([]) sz [.int (nI c1)]) (vp_Si (fun r => r = nI (c1 / 2 / 12))) 0 0 (fun _ => False) := by
  refine Met.ofW (cc := cX3_yOf) (maxL := 1) (ret := (some .int)) (by decide) rfl ?_
  intro p e s m args below meth c s₁ B hml hv
  obtain ⟨rfl, hsz, hP, hK, hD0⟩ := hv
  have hx := B.exec
  have hb := B.bytes
  have hr := B.returns
  have hts := atoms_spec (ws := wsX3_yOf) B.pre
  have hown : s.vm.findClass RX3 = some m.cls := findClass_of_methodNamed B.named
  have hlocks := B.notSynchronized
  subst hsz
  have hD := hD0
  generalize hAe : (fun _ : Nat => True) = A at hD
  have hl := lv_entry ([.int (nI c1)]) (n := 1) (Nat.le_of_ble_eq_true rfl)
  rw [lg_entry_eq]
  generalize (lg_sl ([.int (nI c1)]) ++ List.replicate (1 - (lg_sl ([.int (nI c1)])).length) Slot.unset).toArray = ls at hl ⊢
  have hl : lv_has ls 1 [(0, .int (nI c1))] := hl
  have hP : va_P D vwCl ([]) s.heap := hP
  generalize hRe : (headSpec _ _).room = R
  have hRf : R.frames = 0 := by rw [← hRe]; rfl
  have hRc : R.cells = 0 := by rw [← hRe]; rfl
  have hRs : R.slots = 0 := by rw [← hRe]; rfl
  have hRl : R.locals = 0 := by rw [← hRe]; rfl
  clear hRe
  refine lv_iload_n hx hb dX3_yOf_0 rfl (lv_at hl 0 rfl) ?_
  refine lv_iconst (v := 2) hx hb dX3_yOf_1 (by decide) ?_
  refine lv_idiv hx hb dX3_yOf_2 (by decide) ?_
  refine lv_topi (fun v_13 ev_13 => ?_)
  obtain rfl : v_13 = (nI (c1 / 2)) := ev_13.trans (pk_div (d := 2) (by omega) (by decide) (by decide))
  refine lv_bipush (v := 12) hx hb dX3_yOf_3 (by decide) ?_
  refine lv_idiv hx hb dX3_yOf_5 (by decide) ?_
  refine lv_topi (fun v_14 ev_14 => ?_)
  obtain rfl : v_14 = (nI (c1 / 2 / 12)) := ev_14.trans (pk_div (d := 12) (by omega) (by decide) (by decide))
  exact W.iret (v := (nI (c1 / 2 / 12))) hx hb hr (fun t ht hW => ⟨(nI (c1 / 2 / 12)), rfl, rfl, ht⟩) (fun _ h => by cases h) dX3_yOf_6
set_option maxHeartbeats 4000000 in
set_option maxRecDepth 100000 in
theorem c_isTurnedIn (l : Launch) (D : zG) (sz : Nat) (c1 : Nat) (hc : c1 < 240) : Met l yX3_isTurnedIn wsX3_isTurnedIn ({ frames := 0, cells := 0, slots := 0, locals := 0 }) (zPc D [] ([]) sz [.int (nI c1)]) (vp_Si (fun r => r = nI (c1 % 2))) 0 0 (fun _ => False) := by
  refine Met.ofW (cc := cX3_isTurnedIn) (maxL := 1) (ret := (some .boolean)) (by decide) rfl ?_
  intro p e s m args below meth c s₁ B hml hv
  obtain ⟨rfl, hsz, hP, hK, hD0⟩ := hv
  have hx := B.exec
  have hb := B.bytes
  have hr := B.returns
  have hts := atoms_spec (ws := wsX3_isTurnedIn) B.pre
  have hown : s.vm.findClass RX3 = some m.cls := findClass_of_methodNamed B.named
  have hlocks := B.notSynchronized
  subst hsz
  have hD := hD0
  generalize hAe : (fun _ : Nat => True) = A at hD
  have hl := lv_entry ([.int (nI c1)]) (n := 1) (Nat.le_of_ble_eq_true rfl)
  rw [lg_entry_eq]
  generalize (lg_sl ([.int (nI c1)]) ++ List.replicate (1 - (lg_sl ([.int (nI c1)])).length) Slot.unset).toArray = ls at hl ⊢
  have hl : lv_has ls 1 [(0, .int (nI c1))] := hl
  have hP : va_P D vwCl ([]) s.heap := hP
  generalize hRe : (headSpec _ _).room = R
  have hRf : R.frames = 0 := by rw [← hRe]; rfl
  have hRc : R.cells = 0 := by rw [← hRe]; rfl
  have hRs : R.slots = 0 := by rw [← hRe]; rfl
  have hRl : R.locals = 0 := by rw [← hRe]; rfl
  clear hRe
  refine lv_iload_n hx hb dX3_isTurnedIn_0 rfl (lv_at hl 0 rfl) ?_
  refine lv_iconst (v := 2) hx hb dX3_isTurnedIn_1 (by decide) ?_
  refine lv_irem hx hb dX3_isTurnedIn_2 (by decide) ?_
  refine lv_topi (fun v_15 ev_15 => ?_)
  obtain rfl : v_15 = (nI (c1 % 2)) := ev_15.trans (pk_rem (d := 2) (by omega) (by decide) (by decide))
  refine lv_iconst (v := 1) hx hb dX3_isTurnedIn_3 (by decide) ?_
  refine lv_icmp_ne (tgt := 11) hx hb dX3_isTurnedIn_4 (by decide) (fun c_16 => ?_) (fun c_16 => ?_)
  · have h_b := True.intro
    refine lv_iconst (v := 0) hx hb dX3_isTurnedIn_11 (by decide) ?_
    exact W.zret (ty := .boolean) (v := 0) hx hb hr rfl (fun t ht hW => ⟨0, rfl, by rcases Nat.mod_two_eq_zero_or_one c1 with h | h <;> rw [h] at c_16 ⊢ <;> first | rfl | exact absurd rfl c_16, ht⟩) (fun _ h => by cases h) dX3_isTurnedIn_12
  · have h_b := True.intro
    refine lv_iconst (v := 1) hx hb dX3_isTurnedIn_7 (by decide) ?_
    refine lv_goto (tgt := 12) hx hb dX3_isTurnedIn_8 (by decide) ?_
    exact W.zret (ty := .boolean) (v := 1) hx hb hr rfl (fun t ht hW => ⟨1, rfl, by rcases Nat.mod_two_eq_zero_or_one c1 with h | h <;> rw [h] at c_16 ⊢ <;> first | rfl | exact absurd c_16 (by decide), ht⟩) (fun _ h => by cases h) dX3_isTurnedIn_12
set_option maxHeartbeats 4000000 in
set_option maxRecDepth 100000 in
theorem c_cells (l : Launch) (D : zG) (sz : Nat) (B : qB) (R : qR0) (N : qN0) (i : Nat) (hi : i < 61) : Met l yX0_cells wsX0_cells ({ frames := 0, cells := 0, slots := 0, locals := 0 }) (zPc D (qT B) (qG B R N) sz [.ref (qA B 0 i)]) (vp_Si (fun r => r = nI (N 0 i 4 * N 0 i 5))) 0 0 (fun _ => False) := by
  refine Met.ofW (cc := cX0_cells) (maxL := 1) (ret := (some .int)) (by decide) rfl ?_
  intro p e s m args below meth c s₁ B9 hml hv
  obtain ⟨rfl, hsz, hP, hK, hD0⟩ := hv
  have hx := B9.exec
  have hb := B9.bytes
  have hr := B9.returns
  have hts := atoms_spec (ws := wsX0_cells) B9.pre
  have hown : s.vm.findClass RX0 = some m.cls := findClass_of_methodNamed B9.named
  have hlocks := B9.notSynchronized
  subst hsz
  have hD := hD0
  generalize hAe : (fun _ : Nat => True) = A at hD
  have hl := lv_entry ([.ref (qA B 0 i)]) (n := 1) (Nat.le_of_ble_eq_true rfl)
  rw [lg_entry_eq]
  generalize (lg_sl ([.ref (qA B 0 i)]) ++ List.replicate (1 - (lg_sl ([.ref (qA B 0 i)])).length) Slot.unset).toArray = ls at hl ⊢
  have hl : lv_has ls 1 [(0, .ref (qA B 0 i))] := hl
  have hP : va_P D vwCl (qG B R N) s.heap := hP
  generalize hRe : (headSpec _ _).room = R9
  have hRf : R9.frames = 0 := by rw [← hRe]; rfl
  have hRc : R9.cells = 0 := by rw [← hRe]; rfl
  have hRs : R9.slots = 0 := by rw [← hRe]; rfl
  have hRl : R9.locals = 0 := by rw [← hRe]; rfl
  clear hRe
  refine lv_aload_n hx hb dX0_cells_0 rfl (lv_at hl 0 rfl) ?_
  refine va_get (D := D) (ci := 0) (v := .int (nI (N 0 i 4))) (C := RX0) (T := TX0) (N := 18) hx hb hts (fun _ h9 => List.mem_cons_of_mem _ (List.mem_append_right _ h9)) hown hK hP (5 + i) (qG_i (by omega)) rfl 4 (by decide) (hts (.fieldLink RX0 25 "PalletStack$Item" "width" "I") (List.mem_of_getElem? (i := 1) (by rfl))) (fun _ h9 => h9) rfl dX0_cells_1 ?_
  refine lv_aload_n hx hb dX0_cells_4 rfl (lv_at hl 0 rfl) ?_
  refine va_get (D := D) (ci := 0) (v := .int (nI (N 0 i 5))) (C := RX0) (T := TX0) (N := 18) hx hb hts (fun _ h9 => List.mem_cons_of_mem _ (List.mem_append_right _ h9)) hown hK hP (5 + i) (qG_i (by omega)) rfl 5 (by decide) (hts (.fieldLink RX0 28 "PalletStack$Item" "depth" "I") (List.mem_of_getElem? (i := 2) (by rfl))) (fun _ h9 => h9) rfl dX0_cells_5 ?_
  refine lv_imul hx hb dX0_cells_8 ?_
  refine lv_topi (fun v_17 ev_17 => ?_)
  obtain rfl : v_17 = (nI (N 0 i 4 * N 0 i 5)) := ev_17.trans (pk_mul _ _)
  exact W.iret (v := (nI (N 0 i 4 * N 0 i 5))) hx hb hr (fun t ht hW => ⟨(nI (N 0 i 4 * N 0 i 5)), rfl, rfl, ht⟩) (fun _ h => by cases h) dX0_cells_9
set_option maxHeartbeats 4000000 in
set_option maxRecDepth 100000 in
theorem c_covers (l : Launch) (D : zG) (sz : Nat) (B : qB) (R : qR0) (N : qN0) (i cx cy : Nat) (hi : i < 61) (hM : qM N) (hcx : cx < 1000) (hcy : cy < 1000) : Met l yX0_covers wsX0_covers ({ frames := 0, cells := 0, slots := 0, locals := 0 }) (zPc D (qT B) (qG B R N) sz [.ref (qA B 0 i), .int (nI cx), .int (nI cy)]) (vp_Si (fun r => r = if qcov (N 0 i 6) (N 0 i 4) (N 0 i 7) (N 0 i 5) cx cy = true then 1 else 0)) 0 0 (fun _ => False) := by
  refine Met.ofW (cc := cX0_covers) (maxL := 3) (ret := (some .boolean)) (by decide) rfl ?_
  intro p e s m args below meth c s₁ B9 hml hv
  obtain ⟨rfl, hsz, hP, hK, hD0⟩ := hv
  have hx := B9.exec
  have hb := B9.bytes
  have hr := B9.returns
  have hts := atoms_spec (ws := wsX0_covers) B9.pre
  have hown : s.vm.findClass RX0 = some m.cls := findClass_of_methodNamed B9.named
  have hlocks := B9.notSynchronized
  subst hsz
  have hD := hD0
  generalize hAe : (fun _ : Nat => True) = A at hD
  have hl := lv_entry ([.ref (qA B 0 i), .int (nI cx), .int (nI cy)]) (n := 3) (Nat.le_of_ble_eq_true rfl)
  rw [lg_entry_eq]
  generalize (lg_sl ([.ref (qA B 0 i), .int (nI cx), .int (nI cy)]) ++ List.replicate (3 - (lg_sl ([.ref (qA B 0 i), .int (nI cx), .int (nI cy)])).length) Slot.unset).toArray = ls at hl ⊢
  have hl : lv_has ls 3 [(0, .ref (qA B 0 i)), (1, .int (nI cx)), (2, .int (nI cy))] := hl
  have hP : va_P D vwCl (qG B R N) s.heap := hP
  generalize hRe : (headSpec _ _).room = R9
  have hRf : R9.frames = 0 := by rw [← hRe]; rfl
  have hRc : R9.cells = 0 := by rw [← hRe]; rfl
  have hRs : R9.slots = 0 := by rw [← hRe]; rfl
  have hRl : R9.locals = 0 := by rw [← hRe]; rfl
  clear hRe
  have b4 := hM 0 i 4
  have b5 := hM 0 i 5
  have b6 := hM 0 i 6
  have b7 := hM 0 i 7
  refine lv_iload_n hx hb dX0_covers_0 rfl (lv_at hl 1 rfl) ?_
  refine lv_aload_n hx hb dX0_covers_1 rfl (lv_at hl 0 rfl) ?_
  refine va_get (D := D) (ci := 0) (v := .int (nI (N 0 i 6))) (C := RX0) (T := TX0) (N := 18) hx hb hts (fun _ h9 => List.mem_cons_of_mem _ (List.mem_append_right _ h9)) hown hK hP (5 + i) (qG_i (by omega)) rfl 6 (by decide) (hts (.fieldLink RX0 31 "PalletStack$Item" "x" "I") (List.mem_of_getElem? (i := 1) (by rfl))) (fun _ h9 => h9) rfl dX0_covers_2 ?_
  refine lv_icmp_lt (tgt := 46) hx hb dX0_covers_5 (by decide) (fun c_18 => ?_) (fun c_18 => ?_)
  · have h_b := True.intro
    have k_19 : cx < (N 0 i 6) := (nI_ltI (a := cx) (b := (N 0 i 6)) (by omega) (by omega)).mp c_18
    refine lv_iconst (v := 0) hx hb dX0_covers_46 (by decide) ?_
    exact W.zret (ty := .boolean) (v := 0) hx hb hr rfl (fun t ht hW => ⟨0, rfl, (if_neg (fun h => by have h := qcov_iff.mp h; omega)).symm, ht⟩) (fun _ h => by cases h) dX0_covers_47
  · have h_b := True.intro
    have k_20 : ¬ (cx < (N 0 i 6)) := fun h9 => c_18 ((nI_ltI (a := cx) (b := (N 0 i 6)) (by omega) (by omega)).mpr h9)
    refine lv_iload_n hx hb dX0_covers_8 rfl (lv_at hl 1 rfl) ?_
    refine lv_aload_n hx hb dX0_covers_9 rfl (lv_at hl 0 rfl) ?_
    refine va_get (D := D) (ci := 0) (v := .int (nI (N 0 i 6))) (C := RX0) (T := TX0) (N := 18) hx hb hts (fun _ h9 => List.mem_cons_of_mem _ (List.mem_append_right _ h9)) hown hK hP (5 + i) (qG_i (by omega)) rfl 6 (by decide) (hts (.fieldLink RX0 31 "PalletStack$Item" "x" "I") (List.mem_of_getElem? (i := 1) (by rfl))) (fun _ h9 => h9) rfl dX0_covers_10 ?_
    refine lv_aload_n hx hb dX0_covers_13 rfl (lv_at hl 0 rfl) ?_
    refine va_get (D := D) (ci := 0) (v := .int (nI (N 0 i 4))) (C := RX0) (T := TX0) (N := 18) hx hb hts (fun _ h9 => List.mem_cons_of_mem _ (List.mem_append_right _ h9)) hown hK hP (5 + i) (qG_i (by omega)) rfl 4 (by decide) (hts (.fieldLink RX0 25 "PalletStack$Item" "width" "I") (List.mem_of_getElem? (i := 2) (by rfl))) (fun _ h9 => h9) rfl dX0_covers_14 ?_
    refine lv_iadd hx hb dX0_covers_17 ?_
    refine lv_topi (fun v_21 ev_21 => ?_)
    obtain rfl : v_21 = (nI (N 0 i 6 + N 0 i 4)) := ev_21.trans (nI_add _ _)
    refine lv_icmp_ge (tgt := 46) hx hb dX0_covers_18 (by decide) (fun c_22 => ?_) (fun c_22 => ?_)
    · have h_b := True.intro
      have k_23 : (N 0 i 6 + N 0 i 4) ≤ cx := (nI_leI (a := (N 0 i 6 + N 0 i 4)) (b := cx) (by omega) (by omega)).mp c_22
      refine lv_iconst (v := 0) hx hb dX0_covers_46 (by decide) ?_
      exact W.zret (ty := .boolean) (v := 0) hx hb hr rfl (fun t ht hW => ⟨0, rfl, (if_neg (fun h => by have h := qcov_iff.mp h; omega)).symm, ht⟩) (fun _ h => by cases h) dX0_covers_47
    · have h_b := True.intro
      have k_24 : ¬ ((N 0 i 6 + N 0 i 4) ≤ cx) := fun h9 => c_22 ((nI_leI (a := (N 0 i 6 + N 0 i 4)) (b := cx) (by omega) (by omega)).mpr h9)
      refine lv_iload_n hx hb dX0_covers_21 rfl (lv_at hl 2 rfl) ?_
      refine lv_aload_n hx hb dX0_covers_22 rfl (lv_at hl 0 rfl) ?_
      refine va_get (D := D) (ci := 0) (v := .int (nI (N 0 i 7))) (C := RX0) (T := TX0) (N := 18) hx hb hts (fun _ h9 => List.mem_cons_of_mem _ (List.mem_append_right _ h9)) hown hK hP (5 + i) (qG_i (by omega)) rfl 7 (by decide) (hts (.fieldLink RX0 34 "PalletStack$Item" "y" "I") (List.mem_of_getElem? (i := 3) (by rfl))) (fun _ h9 => h9) rfl dX0_covers_23 ?_
      refine lv_icmp_lt (tgt := 46) hx hb dX0_covers_26 (by decide) (fun c_25 => ?_) (fun c_25 => ?_)
      · have h_b := True.intro
        have k_26 : cy < (N 0 i 7) := (nI_ltI (a := cy) (b := (N 0 i 7)) (by omega) (by omega)).mp c_25
        refine lv_iconst (v := 0) hx hb dX0_covers_46 (by decide) ?_
        exact W.zret (ty := .boolean) (v := 0) hx hb hr rfl (fun t ht hW => ⟨0, rfl, (if_neg (fun h => by have h := qcov_iff.mp h; omega)).symm, ht⟩) (fun _ h => by cases h) dX0_covers_47
      · have h_b := True.intro
        have k_27 : ¬ (cy < (N 0 i 7)) := fun h9 => c_25 ((nI_ltI (a := cy) (b := (N 0 i 7)) (by omega) (by omega)).mpr h9)
        refine lv_iload_n hx hb dX0_covers_29 rfl (lv_at hl 2 rfl) ?_
        refine lv_aload_n hx hb dX0_covers_30 rfl (lv_at hl 0 rfl) ?_
        refine va_get (D := D) (ci := 0) (v := .int (nI (N 0 i 7))) (C := RX0) (T := TX0) (N := 18) hx hb hts (fun _ h9 => List.mem_cons_of_mem _ (List.mem_append_right _ h9)) hown hK hP (5 + i) (qG_i (by omega)) rfl 7 (by decide) (hts (.fieldLink RX0 34 "PalletStack$Item" "y" "I") (List.mem_of_getElem? (i := 3) (by rfl))) (fun _ h9 => h9) rfl dX0_covers_31 ?_
        refine lv_aload_n hx hb dX0_covers_34 rfl (lv_at hl 0 rfl) ?_
        refine va_get (D := D) (ci := 0) (v := .int (nI (N 0 i 5))) (C := RX0) (T := TX0) (N := 18) hx hb hts (fun _ h9 => List.mem_cons_of_mem _ (List.mem_append_right _ h9)) hown hK hP (5 + i) (qG_i (by omega)) rfl 5 (by decide) (hts (.fieldLink RX0 28 "PalletStack$Item" "depth" "I") (List.mem_of_getElem? (i := 4) (by rfl))) (fun _ h9 => h9) rfl dX0_covers_35 ?_
        refine lv_iadd hx hb dX0_covers_38 ?_
        refine lv_topi (fun v_28 ev_28 => ?_)
        obtain rfl : v_28 = (nI (N 0 i 7 + N 0 i 5)) := ev_28.trans (nI_add _ _)
        refine lv_icmp_ge (tgt := 46) hx hb dX0_covers_39 (by decide) (fun c_29 => ?_) (fun c_29 => ?_)
        · have h_b := True.intro
          have k_30 : (N 0 i 7 + N 0 i 5) ≤ cy := (nI_leI (a := (N 0 i 7 + N 0 i 5)) (b := cy) (by omega) (by omega)).mp c_29
          refine lv_iconst (v := 0) hx hb dX0_covers_46 (by decide) ?_
          exact W.zret (ty := .boolean) (v := 0) hx hb hr rfl (fun t ht hW => ⟨0, rfl, (if_neg (fun h => by have h := qcov_iff.mp h; omega)).symm, ht⟩) (fun _ h => by cases h) dX0_covers_47
        · have h_b := True.intro
          have k_31 : ¬ ((N 0 i 7 + N 0 i 5) ≤ cy) := fun h9 => c_29 ((nI_leI (a := (N 0 i 7 + N 0 i 5)) (b := cy) (by omega) (by omega)).mpr h9)
          refine lv_iconst (v := 1) hx hb dX0_covers_42 (by decide) ?_
          refine lv_goto (tgt := 47) hx hb dX0_covers_43 (by decide) ?_
          exact W.zret (ty := .boolean) (v := 1) hx hb hr rfl (fun t ht hW => ⟨1, rfl, (if_pos (qcov_iff.mpr (by omega))).symm, ht⟩) (fun _ h => by cases h) dX0_covers_47
set_option maxHeartbeats 4000000 in
set_option maxRecDepth 100000 in
theorem c_common (l : Launch) (D : zG) (sz : Nat) (B : qB) (R : qR0) (N : qN0) (i j : Nat) (hi : i < 61) (hj : j < 61) (hM : qM N) : Met l yX0_cellsInCommon wsX0_cellsInCommon ({ frames := 1, cells := 0, slots := 0, locals := 13 }) (zPc D (qT B) (qG B R N) sz [.ref (qA B 0 i), .ref (qA B 0 j)]) (vp_Si (fun r => r = nI (qov (N 0 i 6) (N 0 i 4) (N 0 j 6) (N 0 j 4) * qov (N 0 i 7) (N 0 i 5) (N 0 j 7) (N 0 j 5)))) 0 0 (fun _ => False) := by
  refine Met.ofW (cc := cX0_cellsInCommon) (maxL := 4) (ret := (some .int)) (by decide) rfl ?_
  intro p e s m args below meth c s₁ B9 hml hv
  obtain ⟨rfl, hsz, hP, hK, hD0⟩ := hv
  have hx := B9.exec
  have hb := B9.bytes
  have hr := B9.returns
  have hts := atoms_spec (ws := wsX0_cellsInCommon) B9.pre
  have hown : s.vm.findClass RX0 = some m.cls := findClass_of_methodNamed B9.named
  have hlocks := B9.notSynchronized
  subst hsz
  have hD := hD0
  generalize hAe : (fun _ : Nat => True) = A at hD
  have hl := lv_entry ([.ref (qA B 0 i), .ref (qA B 0 j)]) (n := 4) (Nat.le_of_ble_eq_true rfl)
  rw [lg_entry_eq]
  generalize (lg_sl ([.ref (qA B 0 i), .ref (qA B 0 j)]) ++ List.replicate (4 - (lg_sl ([.ref (qA B 0 i), .ref (qA B 0 j)])).length) Slot.unset).toArray = ls at hl ⊢
  have hl : lv_has ls 4 [(0, .ref (qA B 0 i)), (1, .ref (qA B 0 j))] := hl
  have hP : va_P D vwCl (qG B R N) s.heap := hP
  generalize hRe : (headSpec _ _).room = R9
  have hRf : R9.frames = 1 := by rw [← hRe]; rfl
  have hRc : R9.cells = 0 := by rw [← hRe]; rfl
  have hRs : R9.slots = 0 := by rw [← hRe]; rfl
  have hRl : R9.locals = 13 := by rw [← hRe]; rfl
  clear hRe
  have bi4 := hM 0 i 4
  have bi5 := hM 0 i 5
  have bi6 := hM 0 i 6
  have bi7 := hM 0 i 7
  have bj4 := hM 0 j 4
  have bj5 := hM 0 j 5
  have bj6 := hM 0 j 6
  have bj7 := hM 0 j 7
  refine lv_aload_n hx hb dX0_cellsInCommon_0 rfl (lv_at hl 0 rfl) ?_
  refine va_get (D := D) (ci := 0) (v := .int (nI (N 0 i 6))) (C := RX0) (T := TX0) (N := 18) hx hb hts (fun _ h9 => List.mem_cons_of_mem _ (List.mem_append_right _ h9)) hown hK hP (5 + i) (qG_i (by omega)) rfl 6 (by decide) (hts (.fieldLink RX0 31 "PalletStack$Item" "x" "I") (List.mem_of_getElem? (i := 1) (by rfl))) (fun _ h9 => h9) rfl dX0_cellsInCommon_1 ?_
  refine lv_aload_n hx hb dX0_cellsInCommon_4 rfl (lv_at hl 0 rfl) ?_
  refine va_get (D := D) (ci := 0) (v := .int (nI (N 0 i 4))) (C := RX0) (T := TX0) (N := 18) hx hb hts (fun _ h9 => List.mem_cons_of_mem _ (List.mem_append_right _ h9)) hown hK hP (5 + i) (qG_i (by omega)) rfl 4 (by decide) (hts (.fieldLink RX0 25 "PalletStack$Item" "width" "I") (List.mem_of_getElem? (i := 2) (by rfl))) (fun _ h9 => h9) rfl dX0_cellsInCommon_5 ?_
  refine lv_iadd hx hb dX0_cellsInCommon_8 ?_
  refine lv_topi (fun v_32 ev_32 => ?_)
  obtain rfl : v_32 = (nI (N 0 i 6 + N 0 i 4)) := ev_32.trans (nI_add _ _)
  refine lv_aload_n hx hb dX0_cellsInCommon_9 rfl (lv_at hl 1 rfl) ?_
  refine va_get (D := D) (ci := 0) (v := .int (nI (N 0 j 6))) (C := RX0) (T := TX0) (N := 18) hx hb hts (fun _ h9 => List.mem_cons_of_mem _ (List.mem_append_right _ h9)) hown hK hP (5 + j) (qG_i (by omega)) rfl 6 (by decide) (hts (.fieldLink RX0 31 "PalletStack$Item" "x" "I") (List.mem_of_getElem? (i := 1) (by rfl))) (fun _ h9 => h9) rfl dX0_cellsInCommon_10 ?_
  refine lv_aload_n hx hb dX0_cellsInCommon_13 rfl (lv_at hl 1 rfl) ?_
  refine va_get (D := D) (ci := 0) (v := .int (nI (N 0 j 4))) (C := RX0) (T := TX0) (N := 18) hx hb hts (fun _ h9 => List.mem_cons_of_mem _ (List.mem_append_right _ h9)) hown hK hP (5 + j) (qG_i (by omega)) rfl 4 (by decide) (hts (.fieldLink RX0 25 "PalletStack$Item" "width" "I") (List.mem_of_getElem? (i := 2) (by rfl))) (fun _ h9 => h9) rfl dX0_cellsInCommon_14 ?_
  refine lv_iadd hx hb dX0_cellsInCommon_17 ?_
  refine lv_topi (fun v_33 ev_33 => ?_)
  obtain rfl : v_33 = (nI (N 0 j 6 + N 0 j 4)) := ev_33.trans (nI_add _ _)
  refine va_mmin hx hb (hml.trans hl.1.symm) hown (hts (.methodLink RX0 78 Lib.Math.min.name) (List.mem_of_getElem? (i := 3) (by rfl))) (hts (.static Lib.Math.min.name) (List.mem_of_getElem? (i := 4) (by rfl))) (hts (.initialized "java/lang/Math") (List.mem_of_getElem? (i := 5) (by rfl))) (hts (.code Lib.Math.min.name Lib.Math.min.code 2 (some .int)) (List.mem_of_getElem? (i := 6) (by rfl))) (by rw [hRf]; decide) (by rw [hRl]; decide) (Nat.zero_le _) (Nat.zero_le _) dX0_cellsInCommon_18 ?_
  refine lv_topi (fun v_34 ev_34 => ?_)
  obtain rfl : v_34 = nI (min (N 0 i 6 + N 0 i 4) (N 0 j 6 + N 0 j 4)) := ev_34.trans (qmin (by omega) (by omega))
  refine lv_aload_n hx hb dX0_cellsInCommon_21 rfl (lv_at hl 0 rfl) ?_
  refine va_get (D := D) (ci := 0) (v := .int (nI (N 0 i 6))) (C := RX0) (T := TX0) (N := 18) hx hb hts (fun _ h9 => List.mem_cons_of_mem _ (List.mem_append_right _ h9)) hown hK hP (5 + i) (qG_i (by omega)) rfl 6 (by decide) (hts (.fieldLink RX0 31 "PalletStack$Item" "x" "I") (List.mem_of_getElem? (i := 1) (by rfl))) (fun _ h9 => h9) rfl dX0_cellsInCommon_22 ?_
  refine lv_aload_n hx hb dX0_cellsInCommon_25 rfl (lv_at hl 1 rfl) ?_
  refine va_get (D := D) (ci := 0) (v := .int (nI (N 0 j 6))) (C := RX0) (T := TX0) (N := 18) hx hb hts (fun _ h9 => List.mem_cons_of_mem _ (List.mem_append_right _ h9)) hown hK hP (5 + j) (qG_i (by omega)) rfl 6 (by decide) (hts (.fieldLink RX0 31 "PalletStack$Item" "x" "I") (List.mem_of_getElem? (i := 1) (by rfl))) (fun _ h9 => h9) rfl dX0_cellsInCommon_26 ?_
  refine va_mmax hx hb (hml.trans hl.1.symm) hown (hts (.methodLink RX0 84 Lib.Math.max.name) (List.mem_of_getElem? (i := 7) (by rfl))) (hts (.static Lib.Math.max.name) (List.mem_of_getElem? (i := 8) (by rfl))) (hts (.initialized "java/lang/Math") (List.mem_of_getElem? (i := 5) (by rfl))) (hts (.code Lib.Math.max.name Lib.Math.max.code 2 (some .int)) (List.mem_of_getElem? (i := 9) (by rfl))) (by rw [hRf]; decide) (by rw [hRl]; decide) (Nat.zero_le _) (Nat.zero_le _) dX0_cellsInCommon_29 ?_
  refine lv_topi (fun v_35 ev_35 => ?_)
  obtain rfl : v_35 = nI (max (N 0 i 6) (N 0 j 6)) := ev_35.trans (qmax (by omega) (by omega))
  refine lv_isub hx hb dX0_cellsInCommon_32 ?_
  refine lv_topi (fun v_36 ev_36 => ?_)
  have hv_36 : v_36 = nI (min (N 0 i 6 + N 0 i 4) (N 0 j 6 + N 0 j 4)) - nI (max (N 0 i 6) (N 0 j 6)) := ev_36
  refine lv_istore_n (lv' := [(2, .int v_36), (0, .ref (qA B 0 i)), (1, .ref (qA B 0 j))]) hx hb dX0_cellsInCommon_33 rfl hl (by decide) rfl (fun ls hl => ?_)
  refine lv_aload_n hx hb dX0_cellsInCommon_34 rfl (lv_at hl 1 rfl) ?_
  refine va_get (D := D) (ci := 0) (v := .int (nI (N 0 i 7))) (C := RX0) (T := TX0) (N := 18) hx hb hts (fun _ h9 => List.mem_cons_of_mem _ (List.mem_append_right _ h9)) hown hK hP (5 + i) (qG_i (by omega)) rfl 7 (by decide) (hts (.fieldLink RX0 34 "PalletStack$Item" "y" "I") (List.mem_of_getElem? (i := 10) (by rfl))) (fun _ h9 => h9) rfl dX0_cellsInCommon_35 ?_
  refine lv_aload_n hx hb dX0_cellsInCommon_38 rfl (lv_at hl 1 rfl) ?_
  refine va_get (D := D) (ci := 0) (v := .int (nI (N 0 i 5))) (C := RX0) (T := TX0) (N := 18) hx hb hts (fun _ h9 => List.mem_cons_of_mem _ (List.mem_append_right _ h9)) hown hK hP (5 + i) (qG_i (by omega)) rfl 5 (by decide) (hts (.fieldLink RX0 28 "PalletStack$Item" "depth" "I") (List.mem_of_getElem? (i := 11) (by rfl))) (fun _ h9 => h9) rfl dX0_cellsInCommon_39 ?_
  refine lv_iadd hx hb dX0_cellsInCommon_42 ?_
  refine lv_topi (fun v_37 ev_37 => ?_)
  obtain rfl : v_37 = (nI (N 0 i 7 + N 0 i 5)) := ev_37.trans (nI_add _ _)
  refine lv_aload_n hx hb dX0_cellsInCommon_43 rfl (lv_at hl 2 rfl) ?_
  refine va_get (D := D) (ci := 0) (v := .int (nI (N 0 j 7))) (C := RX0) (T := TX0) (N := 18) hx hb hts (fun _ h9 => List.mem_cons_of_mem _ (List.mem_append_right _ h9)) hown hK hP (5 + j) (qG_i (by omega)) rfl 7 (by decide) (hts (.fieldLink RX0 34 "PalletStack$Item" "y" "I") (List.mem_of_getElem? (i := 10) (by rfl))) (fun _ h9 => h9) rfl dX0_cellsInCommon_44 ?_
  refine lv_aload_n hx hb dX0_cellsInCommon_47 rfl (lv_at hl 2 rfl) ?_
  refine va_get (D := D) (ci := 0) (v := .int (nI (N 0 j 5))) (C := RX0) (T := TX0) (N := 18) hx hb hts (fun _ h9 => List.mem_cons_of_mem _ (List.mem_append_right _ h9)) hown hK hP (5 + j) (qG_i (by omega)) rfl 5 (by decide) (hts (.fieldLink RX0 28 "PalletStack$Item" "depth" "I") (List.mem_of_getElem? (i := 11) (by rfl))) (fun _ h9 => h9) rfl dX0_cellsInCommon_48 ?_
  refine lv_iadd hx hb dX0_cellsInCommon_51 ?_
  refine lv_topi (fun v_38 ev_38 => ?_)
  obtain rfl : v_38 = (nI (N 0 j 7 + N 0 j 5)) := ev_38.trans (nI_add _ _)
  refine va_mmin hx hb (hml.trans hl.1.symm) hown (hts (.methodLink RX0 78 Lib.Math.min.name) (List.mem_of_getElem? (i := 3) (by rfl))) (hts (.static Lib.Math.min.name) (List.mem_of_getElem? (i := 4) (by rfl))) (hts (.initialized "java/lang/Math") (List.mem_of_getElem? (i := 5) (by rfl))) (hts (.code Lib.Math.min.name Lib.Math.min.code 2 (some .int)) (List.mem_of_getElem? (i := 6) (by rfl))) (by rw [hRf]; decide) (by rw [hRl]; decide) (Nat.zero_le _) (Nat.zero_le _) dX0_cellsInCommon_52 ?_
  refine lv_topi (fun v_39 ev_39 => ?_)
  obtain rfl : v_39 = nI (min (N 0 i 7 + N 0 i 5) (N 0 j 7 + N 0 j 5)) := ev_39.trans (qmin (by omega) (by omega))
  refine lv_aload_n hx hb dX0_cellsInCommon_55 rfl (lv_at hl 1 rfl) ?_
  refine va_get (D := D) (ci := 0) (v := .int (nI (N 0 i 7))) (C := RX0) (T := TX0) (N := 18) hx hb hts (fun _ h9 => List.mem_cons_of_mem _ (List.mem_append_right _ h9)) hown hK hP (5 + i) (qG_i (by omega)) rfl 7 (by decide) (hts (.fieldLink RX0 34 "PalletStack$Item" "y" "I") (List.mem_of_getElem? (i := 10) (by rfl))) (fun _ h9 => h9) rfl dX0_cellsInCommon_56 ?_
  refine lv_aload_n hx hb dX0_cellsInCommon_59 rfl (lv_at hl 2 rfl) ?_
  refine va_get (D := D) (ci := 0) (v := .int (nI (N 0 j 7))) (C := RX0) (T := TX0) (N := 18) hx hb hts (fun _ h9 => List.mem_cons_of_mem _ (List.mem_append_right _ h9)) hown hK hP (5 + j) (qG_i (by omega)) rfl 7 (by decide) (hts (.fieldLink RX0 34 "PalletStack$Item" "y" "I") (List.mem_of_getElem? (i := 10) (by rfl))) (fun _ h9 => h9) rfl dX0_cellsInCommon_60 ?_
  refine va_mmax hx hb (hml.trans hl.1.symm) hown (hts (.methodLink RX0 84 Lib.Math.max.name) (List.mem_of_getElem? (i := 7) (by rfl))) (hts (.static Lib.Math.max.name) (List.mem_of_getElem? (i := 8) (by rfl))) (hts (.initialized "java/lang/Math") (List.mem_of_getElem? (i := 5) (by rfl))) (hts (.code Lib.Math.max.name Lib.Math.max.code 2 (some .int)) (List.mem_of_getElem? (i := 9) (by rfl))) (by rw [hRf]; decide) (by rw [hRl]; decide) (Nat.zero_le _) (Nat.zero_le _) dX0_cellsInCommon_63 ?_
  refine lv_topi (fun v_40 ev_40 => ?_)
  obtain rfl : v_40 = nI (max (N 0 i 7) (N 0 j 7)) := ev_40.trans (qmax (by omega) (by omega))
  refine lv_isub hx hb dX0_cellsInCommon_66 ?_
  refine lv_topi (fun v_41 ev_41 => ?_)
  have hv_41 : v_41 = nI (min (N 0 i 7 + N 0 i 5) (N 0 j 7 + N 0 j 5)) - nI (max (N 0 i 7) (N 0 j 7)) := ev_41
  refine lv_istore_n (lv' := [(3, .int v_41), (2, .int v_36), (0, .ref (qA B 0 i)), (1, .ref (qA B 0 j))]) hx hb dX0_cellsInCommon_67 rfl hl (by decide) rfl (fun ls hl => ?_)
  refine lv_iload_n hx hb dX0_cellsInCommon_68 rfl (lv_at hl 1 rfl) ?_
  refine lv_if_le (tgt := 82) hx hb dX0_cellsInCommon_69 (by decide) (fun c_42 => ?_) (fun c_42 => ?_)
  · have h_b := True.intro
    have z1 := (qsub_le (by omega) (by omega)).mp (hv_36 ▸ c_42)
    refine lv_iconst (v := 0) hx hb dX0_cellsInCommon_82 (by decide) ?_
    exact W.iret (v := 0) hx hb hr (fun t ht hW => ⟨0, rfl, (by rw [show qov (N 0 i 6) (N 0 i 4) (N 0 j 6) (N 0 j 4) = 0 by unfold qov; omega, Nat.zero_mul]; rfl), ht⟩) (fun _ h => by cases h) dX0_cellsInCommon_83
  · have h_b := True.intro
    refine lv_iload_n hx hb dX0_cellsInCommon_72 rfl (lv_at hl 0 rfl) ?_
    refine lv_if_le (tgt := 82) hx hb dX0_cellsInCommon_73 (by decide) (fun c_43 => ?_) (fun c_43 => ?_)
    · have h_b := True.intro
      have z2 := (qsub_le (by omega) (by omega)).mp (hv_41 ▸ c_43)
      refine lv_iconst (v := 0) hx hb dX0_cellsInCommon_82 (by decide) ?_
      exact W.iret (v := 0) hx hb hr (fun t ht hW => ⟨0, rfl, (by rw [show qov (N 0 i 7) (N 0 i 5) (N 0 j 7) (N 0 j 5) = 0 by unfold qov; omega, Nat.mul_zero]; rfl), ht⟩) (fun _ h => by cases h) dX0_cellsInCommon_83
    · have h_b := True.intro
      have z1 := fun h9 => c_42 (hv_36 ▸ (qsub_le (by omega) (by omega)).mpr h9)
      have z2 := fun h9 => c_43 (hv_41 ▸ (qsub_le (by omega) (by omega)).mpr h9)
      refine lv_iload_n hx hb dX0_cellsInCommon_76 rfl (lv_at hl 1 rfl) ?_
      refine lv_iload_n hx hb dX0_cellsInCommon_77 rfl (lv_at hl 0 rfl) ?_
      refine lv_imul hx hb dX0_cellsInCommon_78 ?_
      refine lv_topi (fun v_44 ev_44 => ?_)
      refine lv_goto (tgt := 83) hx hb dX0_cellsInCommon_79 (by decide) ?_
      exact W.iret (v := v_44) hx hb hr (fun t ht hW => ⟨v_44, rfl, (by rw [ev_44, hv_36, hv_41, pk_sub (by omega), pk_sub (by omega), pk_mul]; rfl), ht⟩) (fun _ h => by cases h) dX0_cellsInCommon_83
set_option maxHeartbeats 4000000 in
set_option maxRecDepth 100000 in
theorem c_kindOf (l : Launch) (D : zG) (sz : Nat) (B : qB) (R : qR0) (N : qN0) (k : Nat) (hk : k < qk B) (hO : qOK B N) : Met l yX3_kindOf wsX3_kindOf ({ frames := 1, cells := 0, slots := 0, locals := 22 }) (zPc D (qT B) (qG B R N) sz [.ref (qA B 5 0), .int (nI k)]) (va_Sq (fun r => r = some (qA B 3 k))) 0 0 (fun _ => False) := by
  refine Met.ofW (cc := cX3_kindOf) (maxL := 2) (ret := (some (.object "PalletStack$Kind"))) (by decide) rfl ?_
  intro p e s m args below meth c s₁ B9 hml hv
  obtain ⟨rfl, hsz, hP, hK, hD0⟩ := hv
  have hx := B9.exec
  have hb := B9.bytes
  have hr := B9.returns
  have hts := atoms_spec (ws := wsX3_kindOf) B9.pre
  have hown : s.vm.findClass RX3 = some m.cls := findClass_of_methodNamed B9.named
  have hlocks := B9.notSynchronized
  subst hsz
  have hD := hD0
  generalize hAe : (fun _ : Nat => True) = A at hD
  have hl := lv_entry ([.ref (qA B 5 0), .int (nI k)]) (n := 2) (Nat.le_of_ble_eq_true rfl)
  rw [lg_entry_eq]
  generalize (lg_sl ([.ref (qA B 5 0), .int (nI k)]) ++ List.replicate (2 - (lg_sl ([.ref (qA B 5 0), .int (nI k)])).length) Slot.unset).toArray = ls at hl ⊢
  have hl : lv_has ls 2 [(0, .ref (qA B 5 0)), (1, .int (nI k))] := hl
  have hP : va_P D vwCl (qG B R N) s.heap := hP
  generalize hRe : (headSpec _ _).room = R9
  have hRf : R9.frames = 1 := by rw [← hRe]; rfl
  have hRc : R9.cells = 0 := by rw [← hRe]; rfl
  have hRs : R9.slots = 0 := by rw [← hRe]; rfl
  have hRl : R9.locals = 22 := by rw [← hRe]; rfl
  clear hRe
  obtain ⟨o1, o2, o3, o4, o5, o6, o7, o8, o9⟩ := hO
  refine lv_iload_n hx hb dX3_kindOf_0 rfl (lv_at hl 1 rfl) ?_
  refine lv_iconst (v := 0) hx hb dX3_kindOf_1 (by decide) ?_
  refine lv_bipush (v := 9) hx hb dX3_kindOf_2 (by decide) ?_
  refine zrdS (As := [.int (nI k), .int 0, .int 9]) (rest := []) (wc := []) ⟨hx, hb, hml, hown, hts⟩ (c_isWithin l D _ (nI k) 0 9) (va_cwS 3 hts gX3_kindOf_X3_isWithin rfl rfl rfl (by decide +kernel) ⟨by rw [hRf]; exact Nat.le_of_ble_eq_true rfl, by rw [hRl]; exact Nat.le_of_ble_eq_true rfl⟩) hK hP hD [] rfl (by decide) [] rfl rfl hl.1 rfl (Nat.le_of_ble_eq_true rfl) dX3_kindOf_4 ⟨by omega, by omega⟩ (fun r_45 hr_45 => ?_)
  refine lv_topi (fun v_46 ev_46 => ?_)
  obtain rfl : v_46 = 1 := ev_46.trans (hr_45.trans (if_pos ⟨nI_pos' (by omega), (nI_leI (b := 9) (by omega) (by decide)).mpr (by omega)⟩))
  refine lv_if_eq (tgt := 27) hx hb dX3_kindOf_7 (by decide) (fun c_47 => absurd c_47 (by decide)) (fun c_47 => ?_)
  refine lv_iload_n hx hb dX3_kindOf_10 rfl (lv_at hl 1 rfl) ?_
  refine lv_aload_n hx hb dX3_kindOf_11 rfl (lv_at hl 0 rfl) ?_
  refine va_get (D := D) (ci := 3) (v := .int (nI (N 4 1 0))) (C := RX3) (T := TX3) (N := 14) hx hb hts (fun _ h9 => List.mem_cons_of_mem _ (List.mem_append_right _ h9)) hown hK hP 0 rfl rfl 1 (by decide) (hts (.fieldLink RX3 15 "PalletStack" "kindCount" "I") (List.mem_of_getElem? (i := 1) (by rfl))) (fun _ h9 => h9) rfl dX3_kindOf_12 ?_
  refine lv_icmp_ge (tgt := 27) hx hb dX3_kindOf_15 (by decide) (fun c_48 => absurd c_48 (fun h => absurd ((nI_leI (by omega) (by omega)).mp h) (by omega))) (fun c_48 => ?_)
  refine lv_aload_n hx hb dX3_kindOf_18 rfl (lv_at hl 0 rfl) ?_
  refine va_get (D := D) (ci := 3) (v := .ref (qA B 5 1)) (C := RX3) (T := TX3) (N := 14) hx hb hts (fun _ h9 => List.mem_cons_of_mem _ (List.mem_append_right _ h9)) hown hK hP 0 rfl rfl 0 (by decide) (hts (.fieldLink RX3 11 "PalletStack" "kinds" "[LPalletStack$Kind;") (List.mem_of_getElem? (i := 2) (by rfl))) (fun _ h9 => h9) rfl dX3_kindOf_19 ?_
  refine lv_iload_n hx hb dX3_kindOf_22 rfl (lv_at hl 1 rfl) ?_
  refine va_aldq hx hb hK hP 1 0 rfl rfl (vp_in_nI (n := k) (N := 10) (by omega) (by decide)) dX3_kindOf_23 ?_
  refine W.eq (g2 := F0 m 24 ls [.ref (qA B 3 k)]) (by rw [nI_clamp (by omega), o2 k hk]; rfl) ?_
  refine lv_goto (tgt := 28) hx hb dX3_kindOf_24 (by decide) ?_
  exact W.aret (v := .ref (qA B 3 k)) hx hb hr (.inl ⟨_, rfl⟩) (.inr ⟨_, rfl⟩) (fun t ht hW => ⟨some (qA B 3 k), rfl, rfl, ht⟩) (fun _ h => by cases h) dX3_kindOf_28
set_option maxHeartbeats 4000000 in
set_option maxRecDepth 100000 in
theorem c_lineOf (l : Launch) (D : zG) (sz : Nat) (B : qB) (R : qR0) (N : qN0) (k : Nat) (hk : k < ql B) (hO : qOK B N) : Met l yX3_lineOf wsX3_lineOf ({ frames := 1, cells := 0, slots := 0, locals := 22 }) (zPc D (qT B) (qG B R N) sz [.ref (qA B 5 0), .int (nI k)]) (va_Sq (fun r => r = some (qA B 4 k))) 0 0 (fun _ => False) := by
  refine Met.ofW (cc := cX3_lineOf) (maxL := 2) (ret := (some (.object "PalletStack$Line"))) (by decide) rfl ?_
  intro p e s m args below meth c s₁ B9 hml hv
  obtain ⟨rfl, hsz, hP, hK, hD0⟩ := hv
  have hx := B9.exec
  have hb := B9.bytes
  have hr := B9.returns
  have hts := atoms_spec (ws := wsX3_lineOf) B9.pre
  have hown : s.vm.findClass RX3 = some m.cls := findClass_of_methodNamed B9.named
  have hlocks := B9.notSynchronized
  subst hsz
  have hD := hD0
  generalize hAe : (fun _ : Nat => True) = A at hD
  have hl := lv_entry ([.ref (qA B 5 0), .int (nI k)]) (n := 2) (Nat.le_of_ble_eq_true rfl)
  rw [lg_entry_eq]
  generalize (lg_sl ([.ref (qA B 5 0), .int (nI k)]) ++ List.replicate (2 - (lg_sl ([.ref (qA B 5 0), .int (nI k)])).length) Slot.unset).toArray = ls at hl ⊢
  have hl : lv_has ls 2 [(0, .ref (qA B 5 0)), (1, .int (nI k))] := hl
  have hP : va_P D vwCl (qG B R N) s.heap := hP
  generalize hRe : (headSpec _ _).room = R9
  have hRf : R9.frames = 1 := by rw [← hRe]; rfl
  have hRc : R9.cells = 0 := by rw [← hRe]; rfl
  have hRs : R9.slots = 0 := by rw [← hRe]; rfl
  have hRl : R9.locals = 22 := by rw [← hRe]; rfl
  clear hRe
  obtain ⟨o1, o2, o3, o4, o5, o6, o7, o8, o9⟩ := hO
  refine lv_iload_n hx hb dX3_lineOf_0 rfl (lv_at hl 1 rfl) ?_
  refine lv_iconst (v := 0) hx hb dX3_lineOf_1 (by decide) ?_
  refine lv_bipush (v := 19) hx hb dX3_lineOf_2 (by decide) ?_
  refine zrdS (As := [.int (nI k), .int 0, .int 19]) (rest := []) (wc := []) ⟨hx, hb, hml, hown, hts⟩ (c_isWithin l D _ (nI k) 0 19) (va_cwS 3 hts gX3_lineOf_X3_isWithin rfl rfl rfl (by decide +kernel) ⟨by rw [hRf]; exact Nat.le_of_ble_eq_true rfl, by rw [hRl]; exact Nat.le_of_ble_eq_true rfl⟩) hK hP hD [] rfl (by decide) [] rfl rfl hl.1 rfl (Nat.le_of_ble_eq_true rfl) dX3_lineOf_4 ⟨by omega, by omega⟩ (fun r_49 hr_49 => ?_)
  refine lv_topi (fun v_50 ev_50 => ?_)
  obtain rfl : v_50 = 1 := ev_50.trans (hr_49.trans (if_pos ⟨nI_pos' (by omega), (nI_leI (b := 19) (by omega) (by decide)).mpr (by omega)⟩))
  refine lv_if_eq (tgt := 27) hx hb dX3_lineOf_7 (by decide) (fun c_51 => absurd c_51 (by decide)) (fun c_51 => ?_)
  refine lv_iload_n hx hb dX3_lineOf_10 rfl (lv_at hl 1 rfl) ?_
  refine lv_aload_n hx hb dX3_lineOf_11 rfl (lv_at hl 0 rfl) ?_
  refine va_get (D := D) (ci := 3) (v := .int (nI (N 4 1 8))) (C := RX3) (T := TX3) (N := 14) hx hb hts (fun _ h9 => List.mem_cons_of_mem _ (List.mem_append_right _ h9)) hown hK hP 0 rfl rfl 13 (by decide) (hts (.fieldLink RX3 62 "PalletStack" "lineCount" "I") (List.mem_of_getElem? (i := 1) (by rfl))) (fun _ h9 => h9) rfl dX3_lineOf_12 ?_
  refine lv_icmp_ge (tgt := 27) hx hb dX3_lineOf_15 (by decide) (fun c_52 => absurd c_52 (fun h => absurd ((nI_leI (by omega) (by omega)).mp h) (by omega))) (fun c_52 => ?_)
  refine lv_aload_n hx hb dX3_lineOf_18 rfl (lv_at hl 0 rfl) ?_
  refine va_get (D := D) (ci := 3) (v := .ref (qA B 5 4)) (C := RX3) (T := TX3) (N := 14) hx hb hts (fun _ h9 => List.mem_cons_of_mem _ (List.mem_append_right _ h9)) hown hK hP 0 rfl rfl 12 (by decide) (hts (.fieldLink RX3 58 "PalletStack" "lines" "[LPalletStack$Line;") (List.mem_of_getElem? (i := 2) (by rfl))) (fun _ h9 => h9) rfl dX3_lineOf_19 ?_
  refine lv_iload_n hx hb dX3_lineOf_22 rfl (lv_at hl 1 rfl) ?_
  refine va_aldq hx hb hK hP 4 3 rfl rfl (vp_in_nI (n := k) (N := 20) (by omega) (by decide)) dX3_lineOf_23 ?_
  refine W.eq (g2 := F0 m 24 ls [.ref (qA B 4 k)]) (by rw [nI_clamp (by omega), o3 k hk]; rfl) ?_
  refine lv_goto (tgt := 28) hx hb dX3_lineOf_24 (by decide) ?_
  exact W.aret (v := .ref (qA B 4 k)) hx hb hr (.inl ⟨_, rfl⟩) (.inr ⟨_, rfl⟩) (fun t ht hW => ⟨some (qA B 4 k), rfl, rfl, ht⟩) (fun _ h => by cases h) dX3_lineOf_28
set_option maxHeartbeats 4000000 in
set_option maxRecDepth 100000 in
theorem c_itemOf (l : Launch) (D : zG) (sz : Nat) (B : qB) (R : qR0) (N : qN0) (i : Nat) (hi : i < N 4 1 5) (hO : qOK B N) : Met l yX3_itemOf wsX3_itemOf ({ frames := 0, cells := 0, slots := 0, locals := 0 }) (zPc D (qT B) (qG B R N) sz [.ref (qA B 5 0), .int (nI i)]) (va_Sq (fun r => r = some (qA B 0 i))) 0 0 (fun _ => False) := by
  refine Met.ofW (cc := cX3_itemOf) (maxL := 3) (ret := (some (.object "PalletStack$Item"))) (by decide) rfl ?_
  intro p e s m args below meth c s₁ B9 hml hv
  obtain ⟨rfl, hsz, hP, hK, hD0⟩ := hv
  have hx := B9.exec
  have hb := B9.bytes
  have hr := B9.returns
  have hts := atoms_spec (ws := wsX3_itemOf) B9.pre
  have hown : s.vm.findClass RX3 = some m.cls := findClass_of_methodNamed B9.named
  have hlocks := B9.notSynchronized
  subst hsz
  have hD := hD0
  generalize hAe : (fun _ : Nat => True) = A at hD
  have hl := lv_entry ([.ref (qA B 5 0), .int (nI i)]) (n := 3) (Nat.le_of_ble_eq_true rfl)
  rw [lg_entry_eq]
  generalize (lg_sl ([.ref (qA B 5 0), .int (nI i)]) ++ List.replicate (3 - (lg_sl ([.ref (qA B 5 0), .int (nI i)])).length) Slot.unset).toArray = ls at hl ⊢
  have hl : lv_has ls 3 [(0, .ref (qA B 5 0)), (1, .int (nI i))] := hl
  have hP : va_P D vwCl (qG B R N) s.heap := hP
  generalize hRe : (headSpec _ _).room = R9
  have hRf : R9.frames = 0 := by rw [← hRe]; rfl
  have hRc : R9.cells = 0 := by rw [← hRe]; rfl
  have hRs : R9.slots = 0 := by rw [← hRe]; rfl
  have hRl : R9.locals = 0 := by rw [← hRe]; rfl
  clear hRe
  obtain ⟨o1, o2, o3, o4, o5, o6, o7, o8, o9⟩ := hO
  refine lv_iload_n hx hb dX3_itemOf_0 rfl (lv_at hl 1 rfl) ?_
  refine lv_if_lt (tgt := 18) hx hb dX3_itemOf_1 (by decide) (fun c_53 => absurd c_53 (nI_pos (by omega))) (fun c_53 => ?_)
  refine lv_iload_n hx hb dX3_itemOf_4 rfl (lv_at hl 1 rfl) ?_
  refine lv_bipush (v := 60) hx hb dX3_itemOf_5 (by decide) ?_
  refine lv_icmp_ge (tgt := 18) hx hb dX3_itemOf_7 (by decide) (fun c_54 => absurd c_54 (nI_ge (b := 60) (by omega) (by decide))) (fun c_54 => ?_)
  refine lv_iload_n hx hb dX3_itemOf_10 rfl (lv_at hl 1 rfl) ?_
  refine lv_aload_n hx hb dX3_itemOf_11 rfl (lv_at hl 0 rfl) ?_
  refine va_get (D := D) (ci := 3) (v := .int (nI (N 4 1 5))) (C := RX3) (T := TX3) (N := 14) hx hb hts (fun _ h9 => List.mem_cons_of_mem _ (List.mem_append_left _ (List.mem_append_right _ h9))) hown hK hP 0 rfl rfl 7 (by decide) (hts (.fieldLink RX3 38 "PalletStack" "cameCount" "I") (List.mem_of_getElem? (i := 1) (by rfl))) (fun _ h9 => h9) rfl dX3_itemOf_12 ?_
  refine lv_icmp_lt (tgt := 20) hx hb dX3_itemOf_15 (by decide) (fun c_55 => ?_) (fun c_55 => absurd ((nI_ltI (by omega) (by omega)).mpr hi) c_55)
  refine lv_aload_n hx hb dX3_itemOf_20 rfl (lv_at hl 0 rfl) ?_
  refine va_get (D := D) (ci := 3) (v := .ref (qA B 5 2)) (C := RX3) (T := TX3) (N := 14) hx hb hts (fun _ h9 => List.mem_cons_of_mem _ (List.mem_append_left _ (List.mem_append_right _ h9))) hown hK hP 0 rfl rfl 6 (by decide) (hts (.fieldLink RX3 34 "PalletStack" "items" "[LPalletStack$Item;") (List.mem_of_getElem? (i := 2) (by rfl))) (fun _ h9 => h9) rfl dX3_itemOf_21 ?_
  refine lv_iload_n hx hb dX3_itemOf_24 rfl (lv_at hl 1 rfl) ?_
  refine va_aldq hx hb hK hP 2 1 rfl rfl (vp_in_nI (n := i) (N := 60) (by omega) (by decide)) dX3_itemOf_25 ?_
  refine W.eq (g2 := F0 m 26 ls [.ref (qA B 0 i)]) (by rw [nI_clamp (by omega), o1 i (by omega)]; rfl) ?_
  refine lv_astore_n (lv' := [(2, .ref (qA B 0 i)), (0, .ref (qA B 5 0)), (1, .int (nI i))]) hx hb dX3_itemOf_26 rfl hl (by decide) rfl (fun ls hl => ?_)
  refine lv_aload_n hx hb dX3_itemOf_27 rfl (lv_at hl 0 rfl) ?_
  refine lv_ifnull hx hb dX3_itemOf_28 ?_
  refine lv_aload_n hx hb dX3_itemOf_31 rfl (lv_at hl 0 rfl) ?_
  refine va_get (D := D) (ci := 0) (v := .int (nI (N 0 i 13))) (C := RX0) (T := TX0) (N := 18) hx hb hts (fun _ h9 => List.mem_cons_of_mem _ (List.mem_append_right _ h9)) hown hK hP (5 + i) (qG_i (by omega)) rfl 13 (by decide) (hts (.fieldLink RX3 104 "PalletStack$Item" "isOnPallet" "Z") (List.mem_of_getElem? (i := 3) (by rfl))) (fun _ h9 => h9) rfl dX3_itemOf_32 ?_
  refine lv_if_eq (tgt := 42) hx hb dX3_itemOf_35 (by decide) (fun c_57 => absurd c_57 (by rw [o9 i hi]; decide)) (fun c_57 => ?_)
  refine lv_aload_n hx hb dX3_itemOf_38 rfl (lv_at hl 0 rfl) ?_
  refine lv_goto (tgt := 43) hx hb dX3_itemOf_39 (by decide) ?_
  exact W.aret (v := .ref (qA B 0 i)) hx hb hr (.inl ⟨_, rfl⟩) (.inr ⟨_, rfl⟩) (fun t ht hW => ⟨some (qA B 0 i), rfl, rfl, ht⟩) (fun _ h => by cases h) dX3_itemOf_43
set_option maxHeartbeats 4000000 in
set_option maxRecDepth 100000 in
theorem c_topOf (l : Launch) (D : zG) (sz : Nat) (B : qB) (R : qR0) (N : qN0) (a b : Nat) (ha : a < 12) (hb2 : b < 10) : Met l yX3_topOf wsX3_topOf ({ frames := 0, cells := 0, slots := 0, locals := 0 }) (zPc D (qT B) (qG B R N) sz [.ref (qA B 5 0), .int (nI a), .int (nI b)]) (vp_Si (fun r => r = nI (N 4 0 (b * 12 + a)))) 0 0 (fun _ => False) := by
  refine Met.ofW (cc := cX3_topOf) (maxL := 4) (ret := (some .int)) (by decide) rfl ?_
  intro p e s m args below meth c s₁ B9 hml hv
  obtain ⟨rfl, hsz, hP, hK, hD0⟩ := hv
  have hx := B9.exec
  have hb := B9.bytes
  have hr := B9.returns
  have hts := atoms_spec (ws := wsX3_topOf) B9.pre
  have hown : s.vm.findClass RX3 = some m.cls := findClass_of_methodNamed B9.named
  have hlocks := B9.notSynchronized
  subst hsz
  have hD := hD0
  generalize hAe : (fun _ : Nat => True) = A at hD
  have hl := lv_entry ([.ref (qA B 5 0), .int (nI a), .int (nI b)]) (n := 4) (Nat.le_of_ble_eq_true rfl)
  rw [lg_entry_eq]
  generalize (lg_sl ([.ref (qA B 5 0), .int (nI a), .int (nI b)]) ++ List.replicate (4 - (lg_sl ([.ref (qA B 5 0), .int (nI a), .int (nI b)])).length) Slot.unset).toArray = ls at hl ⊢
  have hl : lv_has ls 4 [(0, .ref (qA B 5 0)), (1, .int (nI a)), (2, .int (nI b))] := hl
  have hP : va_P D vwCl (qG B R N) s.heap := hP
  generalize hRe : (headSpec _ _).room = R9
  have hRf : R9.frames = 0 := by rw [← hRe]; rfl
  have hRc : R9.cells = 0 := by rw [← hRe]; rfl
  have hRs : R9.slots = 0 := by rw [← hRe]; rfl
  have hRl : R9.locals = 0 := by rw [← hRe]; rfl
  clear hRe
  refine lv_iload_n hx hb dX3_topOf_0 rfl (lv_at hl 2 rfl) ?_
  refine lv_bipush (v := 12) hx hb dX3_topOf_1 (by decide) ?_
  refine lv_imul hx hb dX3_topOf_3 ?_
  refine lv_topi (fun v_58 ev_58 => ?_)
  obtain rfl : v_58 = (nI (b * 12)) := ev_58.trans (pk_mul b 12)
  refine lv_iload_n hx hb dX3_topOf_4 rfl (lv_at hl 1 rfl) ?_
  refine lv_iadd hx hb dX3_topOf_5 ?_
  refine lv_topi (fun v_59 ev_59 => ?_)
  obtain rfl : v_59 = (nI (b * 12 + a)) := ev_59.trans (nI_add _ _)
  refine lv_istore_n (lv' := [(3, .int (nI (b * 12 + a))), (0, .ref (qA B 5 0)), (1, .int (nI a)), (2, .int (nI b))]) hx hb dX3_topOf_6 rfl hl (by decide) rfl (fun ls hl => ?_)
  refine lv_iload_n hx hb dX3_topOf_7 rfl (lv_at hl 0 rfl) ?_
  refine lv_if_lt (tgt := 26) hx hb dX3_topOf_8 (by decide) (fun c_60 => absurd c_60 (nI_pos (by omega))) (fun c_60 => ?_)
  refine lv_iload_n hx hb dX3_topOf_11 rfl (lv_at hl 0 rfl) ?_
  refine lv_bipush (v := 120) hx hb dX3_topOf_12 (by decide) ?_
  refine lv_icmp_ge (tgt := 26) hx hb dX3_topOf_14 (by decide) (fun c_61 => absurd c_61 (nI_ge (b := 120) (by omega) (by decide))) (fun c_61 => ?_)
  refine lv_aload_n hx hb dX3_topOf_17 rfl (lv_at hl 1 rfl) ?_
  refine va_get (D := D) (ci := 3) (v := .ref (qA B 5 3)) (C := RX3) (T := TX3) (N := 14) hx hb hts (fun _ h9 => List.mem_cons_of_mem _ (List.mem_append_right _ h9)) hown hK hP 0 rfl rfl 10 (by decide) (hts (.fieldLink RX3 47 "PalletStack" "tops" "[I") (List.mem_of_getElem? (i := 1) (by rfl))) (fun _ h9 => h9) rfl dX3_topOf_18 ?_
  refine lv_iload_n hx hb dX3_topOf_21 rfl (lv_at hl 0 rfl) ?_
  refine va_iald hx hb hK hP 3 2 rfl rfl (vp_in_nI (n := (b * 12 + a)) (N := 120) (by omega) (by decide)) dX3_topOf_22 ?_
  refine lv_topi (fun v_62 ev_62 => ?_)
  obtain rfl : v_62 = (nI (N 4 0 (b * 12 + a))) := ev_62.trans (by rw [nI_clamp (by omega)])
  refine lv_goto (tgt := 27) hx hb dX3_topOf_23 (by decide) ?_
  exact W.iret (v := (nI (N 4 0 (b * 12 + a)))) hx hb hr (fun t ht hW => ⟨(nI (N 4 0 (b * 12 + a))), rfl, rfl, ht⟩) (fun _ h => by cases h) dX3_topOf_27
set_option maxHeartbeats 4000000 in
set_option maxRecDepth 100000 in
theorem c_countOf1 (l : Launch) (D : zG) (sz : Nat) (B : qB) (R : qR0) (N : qN0)  : Met l yX3_countOf wsX3_countOf ({ frames := 0, cells := 0, slots := 0, locals := 0 }) (zPc D (qT B) (qG B R N) sz [.ref (qA B 5 0), .int 1]) (vp_Si (fun r => r = nI (N 4 1 6))) 0 0 (fun _ => False) := by
  refine Met.ofW (cc := cX3_countOf) (maxL := 2) (ret := (some .int)) (by decide) rfl ?_
  intro p e s m args below meth c s₁ B9 hml hv
  obtain ⟨rfl, hsz, hP, hK, hD0⟩ := hv
  have hx := B9.exec
  have hb := B9.bytes
  have hr := B9.returns
  have hts := atoms_spec (ws := wsX3_countOf) B9.pre
  have hown : s.vm.findClass RX3 = some m.cls := findClass_of_methodNamed B9.named
  have hlocks := B9.notSynchronized
  subst hsz
  have hD := hD0
  generalize hAe : (fun _ : Nat => True) = A at hD
  have hl := lv_entry ([.ref (qA B 5 0), .int 1]) (n := 2) (Nat.le_of_ble_eq_true rfl)
  rw [lg_entry_eq]
  generalize (lg_sl ([.ref (qA B 5 0), .int 1]) ++ List.replicate (2 - (lg_sl ([.ref (qA B 5 0), .int 1])).length) Slot.unset).toArray = ls at hl ⊢
  have hl : lv_has ls 2 [(0, .ref (qA B 5 0)), (1, .int 1)] := hl
  have hP : va_P D vwCl (qG B R N) s.heap := hP
  generalize hRe : (headSpec _ _).room = R9
  have hRf : R9.frames = 0 := by rw [← hRe]; rfl
  have hRc : R9.cells = 0 := by rw [← hRe]; rfl
  have hRs : R9.slots = 0 := by rw [← hRe]; rfl
  have hRl : R9.locals = 0 := by rw [← hRe]; rfl
  clear hRe
  refine lv_iload_n hx hb dX3_countOf_0 rfl (lv_at hl 1 rfl) ?_
  refine lv_tableIn (off := 32) (tgt := 33) hx hb dX3_countOf_1 (by decide) (by decide) (by decide) (by decide) ?_
  refine lv_aload_n hx hb dX3_countOf_33 rfl (lv_at hl 0 rfl) ?_
  refine va_get (D := D) (ci := 3) (v := .int (nI (N 4 1 6))) (C := RX3) (T := TX3) (N := 14) hx hb hts (fun _ h9 => List.mem_cons_of_mem _ (List.mem_append_right _ h9)) hown hK hP 0 rfl rfl 8 (by decide) (hts (.fieldLink RX3 41 "PalletStack" "onPalletCount" "I") (List.mem_of_getElem? (i := 2) (by rfl))) (fun _ h9 => h9) rfl dX3_countOf_34 ?_
  exact W.iret (v := (nI (N 4 1 6))) hx hb hr (fun t ht hW => ⟨(nI (N 4 1 6)), rfl, rfl, ht⟩) (fun _ h => by cases h) dX3_countOf_37
set_option maxHeartbeats 4000000 in
set_option maxRecDepth 100000 in
theorem c_count1 (l : Launch) (D : zG) (sz : Nat) (B : qB) (R : qR0) (N : qN0)  : Met l yX3_count wsX3_count ({ frames := 1, cells := 0, slots := 0, locals := 30 }) (zPc D (qT B) (qG B R N) sz [.ref (qA B 5 0), .int 1]) (vp_Si (fun r => r = nI (N 4 1 6))) 0 0 (fun _ => False) := by
  refine Met.ofW (cc := cX3_count) (maxL := 2) (ret := (some .int)) (by decide) rfl ?_
  intro p e s m args below meth c s₁ B9 hml hv
  obtain ⟨rfl, hsz, hP, hK, hD0⟩ := hv
  have hx := B9.exec
  have hb := B9.bytes
  have hr := B9.returns
  have hts := atoms_spec (ws := wsX3_count) B9.pre
  have hown : s.vm.findClass RX3 = some m.cls := findClass_of_methodNamed B9.named
  have hlocks := B9.notSynchronized
  subst hsz
  have hD := hD0
  generalize hAe : (fun _ : Nat => True) = A at hD
  have hl := lv_entry ([.ref (qA B 5 0), .int 1]) (n := 2) (Nat.le_of_ble_eq_true rfl)
  rw [lg_entry_eq]
  generalize (lg_sl ([.ref (qA B 5 0), .int 1]) ++ List.replicate (2 - (lg_sl ([.ref (qA B 5 0), .int 1])).length) Slot.unset).toArray = ls at hl ⊢
  have hl : lv_has ls 2 [(0, .ref (qA B 5 0)), (1, .int 1)] := hl
  have hP : va_P D vwCl (qG B R N) s.heap := hP
  generalize hRe : (headSpec _ _).room = R9
  have hRf : R9.frames = 1 := by rw [← hRe]; rfl
  have hRc : R9.cells = 0 := by rw [← hRe]; rfl
  have hRs : R9.slots = 0 := by rw [← hRe]; rfl
  have hRl : R9.locals = 30 := by rw [← hRe]; rfl
  clear hRe
  refine lv_iload_n hx hb dX3_count_0 rfl (lv_at hl 1 rfl) ?_
  refine lv_iconst (v := 0) hx hb dX3_count_1 (by decide) ?_
  refine lv_iconst (v := 3) hx hb dX3_count_2 (by decide) ?_
  refine zrdS (As := [.int 1, .int 0, .int 3]) (rest := []) (wc := []) ⟨hx, hb, hml, hown, hts⟩ (c_isWithin l D _ 1 0 3) (va_cwS 3 hts gX3_count_X3_isWithin rfl rfl rfl (by decide +kernel) ⟨by rw [hRf]; exact Nat.le_of_ble_eq_true rfl, by rw [hRl]; exact Nat.le_of_ble_eq_true rfl⟩) hK hP hD [] rfl (by decide) [] rfl rfl hl.1 rfl (Nat.le_of_ble_eq_true rfl) dX3_count_3 ⟨by omega, by omega⟩ (fun r_63 hr_63 => ?_)
  refine lv_topi (fun v_64 ev_64 => ?_)
  obtain rfl : v_64 = 1 := ev_64.trans (hr_63.trans (by decide))
  refine lv_if_ne (tgt := 17) hx hb dX3_count_6 (by decide) (fun c_65 => ?_) (fun c_65 => absurd c_65 (by decide))
  refine lv_aload_n hx hb dX3_count_17 rfl (lv_at hl 0 rfl) ?_
  refine lv_iload_n hx hb dX3_count_18 rfl (lv_at hl 1 rfl) ?_
  refine zrdV2 (As := [.int 1]) (rest := []) (wc := qG B R N) ⟨hx, hb, hml, hown, hts⟩ (c_countOf1 l D _ B R N) (cwV 1 hts gX3_count_X3_countOf rfl rfl rfl (by decide +kernel) ⟨by rw [hRf]; exact Nat.le_of_ble_eq_true rfl, by rw [hRl]; exact Nat.le_of_ble_eq_true rfl⟩) hK hP hD [0, 1, 2, 3] rfl (ci := 3) (q0 := 0) rfl rfl rfl hl.1 rfl (Nat.le_of_ble_eq_true rfl) dX3_count_19 ⟨by omega, by omega⟩ (fun r_66 hr_66 => ?_)
  refine lv_topi (fun v_67 ev_67 => ?_)
  obtain rfl : v_67 = (nI (N 4 1 6)) := ev_67.trans hr_66
  exact W.iret (v := (nI (N 4 1 6))) hx hb hr (fun t ht hW => ⟨(nI (N 4 1 6)), rfl, rfl, ht⟩) (fun _ h => by cases h) dX3_count_22
set_option maxHeartbeats 4000000 in
set_option maxRecDepth 100000 in
theorem c_factOf_0 (l : Launch) (D : zG) (sz : Nat) (B : qB) (R : qR0) (N : qN0) (i : Nat) (hi : i < 61) : Met l yX3_factOf wsX3_factOf ({ frames := 0, cells := 0, slots := 0, locals := 0 }) (zPc D (qT B) (qG B R N) sz [.ref (qA B 5 0), .ref (qA B 0 i), .int 0]) (vp_Si (fun r => r = nI (N 0 i 0))) 0 0 (fun _ => False) := by
  refine Met.ofW (cc := cX3_factOf) (maxL := 3) (ret := (some .int)) (by decide) rfl ?_
  intro p e s m args below meth c s₁ B9 hml hv
  obtain ⟨rfl, hsz, hP, hK, hD0⟩ := hv
  have hx := B9.exec
  have hb := B9.bytes
  have hr := B9.returns
  have hts := atoms_spec (ws := wsX3_factOf) B9.pre
  have hown : s.vm.findClass RX3 = some m.cls := findClass_of_methodNamed B9.named
  have hlocks := B9.notSynchronized
  subst hsz
  have hD := hD0
  generalize hAe : (fun _ : Nat => True) = A at hD
  have hl := lv_entry ([.ref (qA B 5 0), .ref (qA B 0 i), .int 0]) (n := 3) (Nat.le_of_ble_eq_true rfl)
  rw [lg_entry_eq]
  generalize (lg_sl ([.ref (qA B 5 0), .ref (qA B 0 i), .int 0]) ++ List.replicate (3 - (lg_sl ([.ref (qA B 5 0), .ref (qA B 0 i), .int 0])).length) Slot.unset).toArray = ls at hl ⊢
  have hl : lv_has ls 3 [(0, .ref (qA B 5 0)), (1, .ref (qA B 0 i)), (2, .int 0)] := hl
  have hP : va_P D vwCl (qG B R N) s.heap := hP
  generalize hRe : (headSpec _ _).room = R9
  have hRf : R9.frames = 0 := by rw [← hRe]; rfl
  have hRc : R9.cells = 0 := by rw [← hRe]; rfl
  have hRs : R9.slots = 0 := by rw [← hRe]; rfl
  have hRl : R9.locals = 0 := by rw [← hRe]; rfl
  clear hRe
  refine lv_iload_n hx hb dX3_factOf_0 rfl (lv_at hl 2 rfl) ?_
  refine lv_tableIn (off := 51) (tgt := 52) hx hb dX3_factOf_1 (by decide) (by decide) (by decide) (by decide) ?_
  refine lv_aload_n hx hb dX3_factOf_52 rfl (lv_at hl 1 rfl) ?_
  refine va_get (D := D) (ci := 0) (v := .int (nI (N 0 i 0))) (C := RX0) (T := TX0) (N := 18) hx hb hts (fun _ h9 => List.mem_cons_of_mem _ (List.mem_append_left _ (List.mem_append_right _ h9))) hown hK hP (5 + i) (qG_i (by omega)) rfl 0 (by decide) (hts (.fieldLink RX3 203 "PalletStack$Item" "kind" "I") (List.mem_of_getElem? (i := 1) (by rfl))) (fun _ h9 => h9) rfl dX3_factOf_53 ?_
  exact W.iret (v := (nI (N 0 i 0))) hx hb hr (fun t ht hW => ⟨(nI (N 0 i 0)), rfl, rfl, ht⟩) (fun _ h => by cases h) dX3_factOf_56
set_option maxHeartbeats 4000000 in
set_option maxRecDepth 100000 in
theorem c_item_0 (l : Launch) (D : zG) (sz : Nat) (B : qB) (R : qR0) (N : qN0) (i : Nat) (hi : i < N 4 1 5) (hO : qOK B N) : Met l yX3_item wsX3_item ({ frames := 2, cells := 0, slots := 0, locals := 45 }) (zPc D (qT B) (qG B R N) sz [.ref (qA B 5 0), .int (nI i), .int 0]) (vp_Si (fun r => r = nI (N 0 i 0))) 0 0 (fun _ => False) := by
  refine Met.ofW (cc := cX3_item) (maxL := 4) (ret := (some .int)) (by decide) rfl ?_
  intro p e s m args below meth c s₁ B9 hml hv
  obtain ⟨rfl, hsz, hP, hK, hD0⟩ := hv
  have hx := B9.exec
  have hb := B9.bytes
  have hr := B9.returns
  have hts := atoms_spec (ws := wsX3_item) B9.pre
  have hown : s.vm.findClass RX3 = some m.cls := findClass_of_methodNamed B9.named
  have hlocks := B9.notSynchronized
  subst hsz
  have hD := hD0
  generalize hAe : (fun _ : Nat => True) = A at hD
  have hl := lv_entry ([.ref (qA B 5 0), .int (nI i), .int 0]) (n := 4) (Nat.le_of_ble_eq_true rfl)
  rw [lg_entry_eq]
  generalize (lg_sl ([.ref (qA B 5 0), .int (nI i), .int 0]) ++ List.replicate (4 - (lg_sl ([.ref (qA B 5 0), .int (nI i), .int 0])).length) Slot.unset).toArray = ls at hl ⊢
  have hl : lv_has ls 4 [(0, .ref (qA B 5 0)), (1, .int (nI i)), (2, .int 0)] := hl
  have hP : va_P D vwCl (qG B R N) s.heap := hP
  generalize hRe : (headSpec _ _).room = R9
  have hRf : R9.frames = 2 := by rw [← hRe]; rfl
  have hRc : R9.cells = 0 := by rw [← hRe]; rfl
  have hRs : R9.slots = 0 := by rw [← hRe]; rfl
  have hRl : R9.locals = 45 := by rw [← hRe]; rfl
  clear hRe
  have o8 := hO.2.2.2.2.2.2.2.1
  refine lv_aload_n hx hb dX3_item_0 rfl (lv_at hl 0 rfl) ?_
  refine lv_iload_n hx hb dX3_item_1 rfl (lv_at hl 1 rfl) ?_
  refine zrdVq2 (As := [.int (nI i)]) (rest := []) (wc := qG B R N) ⟨hx, hb, hml, hown, hts⟩ (c_itemOf l D _ B R N i hi hO) (cwV 1 hts gX3_item_X3_itemOf rfl rfl rfl (by decide +kernel) ⟨by rw [hRf]; exact Nat.le_of_ble_eq_true rfl, by rw [hRl]; exact Nat.le_of_ble_eq_true rfl⟩) hK hP hD [0, 1, 2, 3] rfl (ci := 3) (q0 := 0) rfl rfl rfl hl.1 rfl (Nat.le_of_ble_eq_true rfl) dX3_item_2 ⟨by omega, by omega⟩ (fun r_68 hr_68 => ?_)
  refine W.eq (g2 := F0 m 5 ls [.ref (qA B 0 i)]) (by rw [hr_68]; rfl) ?_
  refine lv_astore_n (lv' := [(3, .ref (qA B 0 i)), (0, .ref (qA B 5 0)), (1, .int (nI i)), (2, .int 0)]) hx hb dX3_item_5 rfl hl (by decide) rfl (fun ls hl => ?_)
  refine lv_aload_n hx hb dX3_item_6 rfl (lv_at hl 0 rfl) ?_
  refine lv_ifnull hx hb dX3_item_7 ?_
  refine lv_iload_n hx hb dX3_item_10 rfl (lv_at hl 3 rfl) ?_
  refine lv_iconst (v := 0) hx hb dX3_item_11 (by decide) ?_
  refine lv_bipush (v := 9) hx hb dX3_item_12 (by decide) ?_
  refine zrdS (As := [.int 0, .int 0, .int 9]) (rest := []) (wc := []) ⟨hx, hb, hml, hown, hts⟩ (c_isWithin l D _ 0 0 9) (va_cwS 3 hts gX3_item_X3_isWithin rfl rfl rfl (by decide +kernel) ⟨by rw [hRf]; exact Nat.le_of_ble_eq_true rfl, by rw [hRl]; exact Nat.le_of_ble_eq_true rfl⟩) hK hP hD [] rfl (by decide) [] rfl rfl hl.1 rfl (Nat.le_of_ble_eq_true rfl) dX3_item_14 ⟨by omega, by omega⟩ (fun r_70 hr_70 => ?_)
  refine lv_topi (fun v_71 ev_71 => ?_)
  obtain rfl : v_71 = 1 := ev_71.trans (hr_70.trans (by decide))
  refine lv_if_ne (tgt := 28) hx hb dX3_item_17 (by decide) (fun c_72 => ?_) (fun c_72 => absurd c_72 (by decide))
  refine lv_aload_n hx hb dX3_item_28 rfl (lv_at hl 1 rfl) ?_
  refine lv_aload_n hx hb dX3_item_29 rfl (lv_at hl 0 rfl) ?_
  refine lv_iload_n hx hb dX3_item_30 rfl (lv_at hl 3 rfl) ?_
  refine zrdV2 (As := [.ref (qA B 0 i), .int 0]) (rest := []) (wc := qG B R N) ⟨hx, hb, hml, hown, hts⟩ (c_factOf_0 l D _ B R N i (by omega)) (cwV 2 hts gX3_item_X3_factOf rfl rfl rfl (by decide +kernel) ⟨by rw [hRf]; exact Nat.le_of_ble_eq_true rfl, by rw [hRl]; exact Nat.le_of_ble_eq_true rfl⟩) hK hP hD [0, 1, 2, 3] rfl (ci := 3) (q0 := 0) rfl rfl rfl hl.1 rfl (Nat.le_of_ble_eq_true rfl) dX3_item_31 ⟨by omega, by omega⟩ (fun r_73 hr_73 => ?_)
  refine lv_topi (fun v_74 ev_74 => ?_)
  obtain rfl : v_74 = (nI (N 0 i 0)) := ev_74.trans hr_73
  exact W.iret (v := (nI (N 0 i 0))) hx hb hr (fun t ht hW => ⟨(nI (N 0 i 0)), rfl, rfl, ht⟩) (fun _ h => by cases h) dX3_item_34
set_option maxHeartbeats 4000000 in
set_option maxRecDepth 100000 in
theorem c_factOf_1 (l : Launch) (D : zG) (sz : Nat) (B : qB) (R : qR0) (N : qN0) (i : Nat) (hi : i < 61) : Met l yX3_factOf wsX3_factOf ({ frames := 0, cells := 0, slots := 0, locals := 0 }) (zPc D (qT B) (qG B R N) sz [.ref (qA B 5 0), .ref (qA B 0 i), .int 1]) (vp_Si (fun r => r = nI (N 0 i 6))) 0 0 (fun _ => False) := by
  refine Met.ofW (cc := cX3_factOf) (maxL := 3) (ret := (some .int)) (by decide) rfl ?_
  intro p e s m args below meth c s₁ B9 hml hv
  obtain ⟨rfl, hsz, hP, hK, hD0⟩ := hv
  have hx := B9.exec
  have hb := B9.bytes
  have hr := B9.returns
  have hts := atoms_spec (ws := wsX3_factOf) B9.pre
  have hown : s.vm.findClass RX3 = some m.cls := findClass_of_methodNamed B9.named
  have hlocks := B9.notSynchronized
  subst hsz
  have hD := hD0
  generalize hAe : (fun _ : Nat => True) = A at hD
  have hl := lv_entry ([.ref (qA B 5 0), .ref (qA B 0 i), .int 1]) (n := 3) (Nat.le_of_ble_eq_true rfl)
  rw [lg_entry_eq]
  generalize (lg_sl ([.ref (qA B 5 0), .ref (qA B 0 i), .int 1]) ++ List.replicate (3 - (lg_sl ([.ref (qA B 5 0), .ref (qA B 0 i), .int 1])).length) Slot.unset).toArray = ls at hl ⊢
  have hl : lv_has ls 3 [(0, .ref (qA B 5 0)), (1, .ref (qA B 0 i)), (2, .int 1)] := hl
  have hP : va_P D vwCl (qG B R N) s.heap := hP
  generalize hRe : (headSpec _ _).room = R9
  have hRf : R9.frames = 0 := by rw [← hRe]; rfl
  have hRc : R9.cells = 0 := by rw [← hRe]; rfl
  have hRs : R9.slots = 0 := by rw [← hRe]; rfl
  have hRl : R9.locals = 0 := by rw [← hRe]; rfl
  clear hRe
  refine lv_iload_n hx hb dX3_factOf_0 rfl (lv_at hl 2 rfl) ?_
  refine lv_tableIn (off := 56) (tgt := 57) hx hb dX3_factOf_1 (by decide) (by decide) (by decide) (by decide) ?_
  refine lv_aload_n hx hb dX3_factOf_57 rfl (lv_at hl 1 rfl) ?_
  refine va_get (D := D) (ci := 0) (v := .int (nI (N 0 i 6))) (C := RX0) (T := TX0) (N := 18) hx hb hts (fun _ h9 => List.mem_cons_of_mem _ (List.mem_append_left _ (List.mem_append_right _ h9))) hown hK hP (5 + i) (qG_i (by omega)) rfl 6 (by decide) (hts (.fieldLink RX3 182 "PalletStack$Item" "x" "I") (List.mem_of_getElem? (i := 2) (by rfl))) (fun _ h9 => h9) rfl dX3_factOf_58 ?_
  exact W.iret (v := (nI (N 0 i 6))) hx hb hr (fun t ht hW => ⟨(nI (N 0 i 6)), rfl, rfl, ht⟩) (fun _ h => by cases h) dX3_factOf_61
set_option maxHeartbeats 4000000 in
set_option maxRecDepth 100000 in
theorem c_item_1 (l : Launch) (D : zG) (sz : Nat) (B : qB) (R : qR0) (N : qN0) (i : Nat) (hi : i < N 4 1 5) (hO : qOK B N) : Met l yX3_item wsX3_item ({ frames := 2, cells := 0, slots := 0, locals := 45 }) (zPc D (qT B) (qG B R N) sz [.ref (qA B 5 0), .int (nI i), .int 1]) (vp_Si (fun r => r = nI (N 0 i 6))) 0 0 (fun _ => False) := by
  refine Met.ofW (cc := cX3_item) (maxL := 4) (ret := (some .int)) (by decide) rfl ?_
  intro p e s m args below meth c s₁ B9 hml hv
  obtain ⟨rfl, hsz, hP, hK, hD0⟩ := hv
  have hx := B9.exec
  have hb := B9.bytes
  have hr := B9.returns
  have hts := atoms_spec (ws := wsX3_item) B9.pre
  have hown : s.vm.findClass RX3 = some m.cls := findClass_of_methodNamed B9.named
  have hlocks := B9.notSynchronized
  subst hsz
  have hD := hD0
  generalize hAe : (fun _ : Nat => True) = A at hD
  have hl := lv_entry ([.ref (qA B 5 0), .int (nI i), .int 1]) (n := 4) (Nat.le_of_ble_eq_true rfl)
  rw [lg_entry_eq]
  generalize (lg_sl ([.ref (qA B 5 0), .int (nI i), .int 1]) ++ List.replicate (4 - (lg_sl ([.ref (qA B 5 0), .int (nI i), .int 1])).length) Slot.unset).toArray = ls at hl ⊢
  have hl : lv_has ls 4 [(0, .ref (qA B 5 0)), (1, .int (nI i)), (2, .int 1)] := hl
  have hP : va_P D vwCl (qG B R N) s.heap := hP
  generalize hRe : (headSpec _ _).room = R9
  have hRf : R9.frames = 2 := by rw [← hRe]; rfl
  have hRc : R9.cells = 0 := by rw [← hRe]; rfl
  have hRs : R9.slots = 0 := by rw [← hRe]; rfl
  have hRl : R9.locals = 45 := by rw [← hRe]; rfl
  clear hRe
  have o8 := hO.2.2.2.2.2.2.2.1
  refine lv_aload_n hx hb dX3_item_0 rfl (lv_at hl 0 rfl) ?_
  refine lv_iload_n hx hb dX3_item_1 rfl (lv_at hl 1 rfl) ?_
  refine zrdVq2 (As := [.int (nI i)]) (rest := []) (wc := qG B R N) ⟨hx, hb, hml, hown, hts⟩ (c_itemOf l D _ B R N i hi hO) (cwV 1 hts gX3_item_X3_itemOf rfl rfl rfl (by decide +kernel) ⟨by rw [hRf]; exact Nat.le_of_ble_eq_true rfl, by rw [hRl]; exact Nat.le_of_ble_eq_true rfl⟩) hK hP hD [0, 1, 2, 3] rfl (ci := 3) (q0 := 0) rfl rfl rfl hl.1 rfl (Nat.le_of_ble_eq_true rfl) dX3_item_2 ⟨by omega, by omega⟩ (fun r_75 hr_75 => ?_)
  refine W.eq (g2 := F0 m 5 ls [.ref (qA B 0 i)]) (by rw [hr_75]; rfl) ?_
  refine lv_astore_n (lv' := [(3, .ref (qA B 0 i)), (0, .ref (qA B 5 0)), (1, .int (nI i)), (2, .int 1)]) hx hb dX3_item_5 rfl hl (by decide) rfl (fun ls hl => ?_)
  refine lv_aload_n hx hb dX3_item_6 rfl (lv_at hl 0 rfl) ?_
  refine lv_ifnull hx hb dX3_item_7 ?_
  refine lv_iload_n hx hb dX3_item_10 rfl (lv_at hl 3 rfl) ?_
  refine lv_iconst (v := 0) hx hb dX3_item_11 (by decide) ?_
  refine lv_bipush (v := 9) hx hb dX3_item_12 (by decide) ?_
  refine zrdS (As := [.int 1, .int 0, .int 9]) (rest := []) (wc := []) ⟨hx, hb, hml, hown, hts⟩ (c_isWithin l D _ 1 0 9) (va_cwS 3 hts gX3_item_X3_isWithin rfl rfl rfl (by decide +kernel) ⟨by rw [hRf]; exact Nat.le_of_ble_eq_true rfl, by rw [hRl]; exact Nat.le_of_ble_eq_true rfl⟩) hK hP hD [] rfl (by decide) [] rfl rfl hl.1 rfl (Nat.le_of_ble_eq_true rfl) dX3_item_14 ⟨by omega, by omega⟩ (fun r_77 hr_77 => ?_)
  refine lv_topi (fun v_78 ev_78 => ?_)
  obtain rfl : v_78 = 1 := ev_78.trans (hr_77.trans (by decide))
  refine lv_if_ne (tgt := 28) hx hb dX3_item_17 (by decide) (fun c_79 => ?_) (fun c_79 => absurd c_79 (by decide))
  refine lv_aload_n hx hb dX3_item_28 rfl (lv_at hl 1 rfl) ?_
  refine lv_aload_n hx hb dX3_item_29 rfl (lv_at hl 0 rfl) ?_
  refine lv_iload_n hx hb dX3_item_30 rfl (lv_at hl 3 rfl) ?_
  refine zrdV2 (As := [.ref (qA B 0 i), .int 1]) (rest := []) (wc := qG B R N) ⟨hx, hb, hml, hown, hts⟩ (c_factOf_1 l D _ B R N i (by omega)) (cwV 2 hts gX3_item_X3_factOf rfl rfl rfl (by decide +kernel) ⟨by rw [hRf]; exact Nat.le_of_ble_eq_true rfl, by rw [hRl]; exact Nat.le_of_ble_eq_true rfl⟩) hK hP hD [0, 1, 2, 3] rfl (ci := 3) (q0 := 0) rfl rfl rfl hl.1 rfl (Nat.le_of_ble_eq_true rfl) dX3_item_31 ⟨by omega, by omega⟩ (fun r_80 hr_80 => ?_)
  refine lv_topi (fun v_81 ev_81 => ?_)
  obtain rfl : v_81 = (nI (N 0 i 6)) := ev_81.trans hr_80
  exact W.iret (v := (nI (N 0 i 6))) hx hb hr (fun t ht hW => ⟨(nI (N 0 i 6)), rfl, rfl, ht⟩) (fun _ h => by cases h) dX3_item_34
set_option maxHeartbeats 4000000 in
set_option maxRecDepth 100000 in
theorem c_factOf_2 (l : Launch) (D : zG) (sz : Nat) (B : qB) (R : qR0) (N : qN0) (i : Nat) (hi : i < 61) : Met l yX3_factOf wsX3_factOf ({ frames := 0, cells := 0, slots := 0, locals := 0 }) (zPc D (qT B) (qG B R N) sz [.ref (qA B 5 0), .ref (qA B 0 i), .int 2]) (vp_Si (fun r => r = nI (N 0 i 7))) 0 0 (fun _ => False) := by
  refine Met.ofW (cc := cX3_factOf) (maxL := 3) (ret := (some .int)) (by decide) rfl ?_
  intro p e s m args below meth c s₁ B9 hml hv
  obtain ⟨rfl, hsz, hP, hK, hD0⟩ := hv
  have hx := B9.exec
  have hb := B9.bytes
  have hr := B9.returns
  have hts := atoms_spec (ws := wsX3_factOf) B9.pre
  have hown : s.vm.findClass RX3 = some m.cls := findClass_of_methodNamed B9.named
  have hlocks := B9.notSynchronized
  subst hsz
  have hD := hD0
  generalize hAe : (fun _ : Nat => True) = A at hD
  have hl := lv_entry ([.ref (qA B 5 0), .ref (qA B 0 i), .int 2]) (n := 3) (Nat.le_of_ble_eq_true rfl)
  rw [lg_entry_eq]
  generalize (lg_sl ([.ref (qA B 5 0), .ref (qA B 0 i), .int 2]) ++ List.replicate (3 - (lg_sl ([.ref (qA B 5 0), .ref (qA B 0 i), .int 2])).length) Slot.unset).toArray = ls at hl ⊢
  have hl : lv_has ls 3 [(0, .ref (qA B 5 0)), (1, .ref (qA B 0 i)), (2, .int 2)] := hl
  have hP : va_P D vwCl (qG B R N) s.heap := hP
  generalize hRe : (headSpec _ _).room = R9
  have hRf : R9.frames = 0 := by rw [← hRe]; rfl
  have hRc : R9.cells = 0 := by rw [← hRe]; rfl
  have hRs : R9.slots = 0 := by rw [← hRe]; rfl
  have hRl : R9.locals = 0 := by rw [← hRe]; rfl
  clear hRe
  refine lv_iload_n hx hb dX3_factOf_0 rfl (lv_at hl 2 rfl) ?_
  refine lv_tableIn (off := 61) (tgt := 62) hx hb dX3_factOf_1 (by decide) (by decide) (by decide) (by decide) ?_
  refine lv_aload_n hx hb dX3_factOf_62 rfl (lv_at hl 1 rfl) ?_
  refine va_get (D := D) (ci := 0) (v := .int (nI (N 0 i 7))) (C := RX0) (T := TX0) (N := 18) hx hb hts (fun _ h9 => List.mem_cons_of_mem _ (List.mem_append_left _ (List.mem_append_right _ h9))) hown hK hP (5 + i) (qG_i (by omega)) rfl 7 (by decide) (hts (.fieldLink RX3 176 "PalletStack$Item" "y" "I") (List.mem_of_getElem? (i := 3) (by rfl))) (fun _ h9 => h9) rfl dX3_factOf_63 ?_
  exact W.iret (v := (nI (N 0 i 7))) hx hb hr (fun t ht hW => ⟨(nI (N 0 i 7)), rfl, rfl, ht⟩) (fun _ h => by cases h) dX3_factOf_66
set_option maxHeartbeats 4000000 in
set_option maxRecDepth 100000 in
theorem c_item_2 (l : Launch) (D : zG) (sz : Nat) (B : qB) (R : qR0) (N : qN0) (i : Nat) (hi : i < N 4 1 5) (hO : qOK B N) : Met l yX3_item wsX3_item ({ frames := 2, cells := 0, slots := 0, locals := 45 }) (zPc D (qT B) (qG B R N) sz [.ref (qA B 5 0), .int (nI i), .int 2]) (vp_Si (fun r => r = nI (N 0 i 7))) 0 0 (fun _ => False) := by
  refine Met.ofW (cc := cX3_item) (maxL := 4) (ret := (some .int)) (by decide) rfl ?_
  intro p e s m args below meth c s₁ B9 hml hv
  obtain ⟨rfl, hsz, hP, hK, hD0⟩ := hv
  have hx := B9.exec
  have hb := B9.bytes
  have hr := B9.returns
  have hts := atoms_spec (ws := wsX3_item) B9.pre
  have hown : s.vm.findClass RX3 = some m.cls := findClass_of_methodNamed B9.named
  have hlocks := B9.notSynchronized
  subst hsz
  have hD := hD0
  generalize hAe : (fun _ : Nat => True) = A at hD
  have hl := lv_entry ([.ref (qA B 5 0), .int (nI i), .int 2]) (n := 4) (Nat.le_of_ble_eq_true rfl)
  rw [lg_entry_eq]
  generalize (lg_sl ([.ref (qA B 5 0), .int (nI i), .int 2]) ++ List.replicate (4 - (lg_sl ([.ref (qA B 5 0), .int (nI i), .int 2])).length) Slot.unset).toArray = ls at hl ⊢
  have hl : lv_has ls 4 [(0, .ref (qA B 5 0)), (1, .int (nI i)), (2, .int 2)] := hl
  have hP : va_P D vwCl (qG B R N) s.heap := hP
  generalize hRe : (headSpec _ _).room = R9
  have hRf : R9.frames = 2 := by rw [← hRe]; rfl
  have hRc : R9.cells = 0 := by rw [← hRe]; rfl
  have hRs : R9.slots = 0 := by rw [← hRe]; rfl
  have hRl : R9.locals = 45 := by rw [← hRe]; rfl
  clear hRe
  have o8 := hO.2.2.2.2.2.2.2.1
  refine lv_aload_n hx hb dX3_item_0 rfl (lv_at hl 0 rfl) ?_
  refine lv_iload_n hx hb dX3_item_1 rfl (lv_at hl 1 rfl) ?_
  refine zrdVq2 (As := [.int (nI i)]) (rest := []) (wc := qG B R N) ⟨hx, hb, hml, hown, hts⟩ (c_itemOf l D _ B R N i hi hO) (cwV 1 hts gX3_item_X3_itemOf rfl rfl rfl (by decide +kernel) ⟨by rw [hRf]; exact Nat.le_of_ble_eq_true rfl, by rw [hRl]; exact Nat.le_of_ble_eq_true rfl⟩) hK hP hD [0, 1, 2, 3] rfl (ci := 3) (q0 := 0) rfl rfl rfl hl.1 rfl (Nat.le_of_ble_eq_true rfl) dX3_item_2 ⟨by omega, by omega⟩ (fun r_82 hr_82 => ?_)
  refine W.eq (g2 := F0 m 5 ls [.ref (qA B 0 i)]) (by rw [hr_82]; rfl) ?_
  refine lv_astore_n (lv' := [(3, .ref (qA B 0 i)), (0, .ref (qA B 5 0)), (1, .int (nI i)), (2, .int 2)]) hx hb dX3_item_5 rfl hl (by decide) rfl (fun ls hl => ?_)
  refine lv_aload_n hx hb dX3_item_6 rfl (lv_at hl 0 rfl) ?_
  refine lv_ifnull hx hb dX3_item_7 ?_
  refine lv_iload_n hx hb dX3_item_10 rfl (lv_at hl 3 rfl) ?_
  refine lv_iconst (v := 0) hx hb dX3_item_11 (by decide) ?_
  refine lv_bipush (v := 9) hx hb dX3_item_12 (by decide) ?_
  refine zrdS (As := [.int 2, .int 0, .int 9]) (rest := []) (wc := []) ⟨hx, hb, hml, hown, hts⟩ (c_isWithin l D _ 2 0 9) (va_cwS 3 hts gX3_item_X3_isWithin rfl rfl rfl (by decide +kernel) ⟨by rw [hRf]; exact Nat.le_of_ble_eq_true rfl, by rw [hRl]; exact Nat.le_of_ble_eq_true rfl⟩) hK hP hD [] rfl (by decide) [] rfl rfl hl.1 rfl (Nat.le_of_ble_eq_true rfl) dX3_item_14 ⟨by omega, by omega⟩ (fun r_84 hr_84 => ?_)
  refine lv_topi (fun v_85 ev_85 => ?_)
  obtain rfl : v_85 = 1 := ev_85.trans (hr_84.trans (by decide))
  refine lv_if_ne (tgt := 28) hx hb dX3_item_17 (by decide) (fun c_86 => ?_) (fun c_86 => absurd c_86 (by decide))
  refine lv_aload_n hx hb dX3_item_28 rfl (lv_at hl 1 rfl) ?_
  refine lv_aload_n hx hb dX3_item_29 rfl (lv_at hl 0 rfl) ?_
  refine lv_iload_n hx hb dX3_item_30 rfl (lv_at hl 3 rfl) ?_
  refine zrdV2 (As := [.ref (qA B 0 i), .int 2]) (rest := []) (wc := qG B R N) ⟨hx, hb, hml, hown, hts⟩ (c_factOf_2 l D _ B R N i (by omega)) (cwV 2 hts gX3_item_X3_factOf rfl rfl rfl (by decide +kernel) ⟨by rw [hRf]; exact Nat.le_of_ble_eq_true rfl, by rw [hRl]; exact Nat.le_of_ble_eq_true rfl⟩) hK hP hD [0, 1, 2, 3] rfl (ci := 3) (q0 := 0) rfl rfl rfl hl.1 rfl (Nat.le_of_ble_eq_true rfl) dX3_item_31 ⟨by omega, by omega⟩ (fun r_87 hr_87 => ?_)
  refine lv_topi (fun v_88 ev_88 => ?_)
  obtain rfl : v_88 = (nI (N 0 i 7)) := ev_88.trans hr_87
  exact W.iret (v := (nI (N 0 i 7))) hx hb hr (fun t ht hW => ⟨(nI (N 0 i 7)), rfl, rfl, ht⟩) (fun _ h => by cases h) dX3_item_34
set_option maxHeartbeats 4000000 in
set_option maxRecDepth 100000 in
theorem c_factOf_3 (l : Launch) (D : zG) (sz : Nat) (B : qB) (R : qR0) (N : qN0) (i : Nat) (hi : i < 61) : Met l yX3_factOf wsX3_factOf ({ frames := 0, cells := 0, slots := 0, locals := 0 }) (zPc D (qT B) (qG B R N) sz [.ref (qA B 5 0), .ref (qA B 0 i), .int 3]) (vp_Si (fun r => r = nI (N 0 i 8))) 0 0 (fun _ => False) := by
  refine Met.ofW (cc := cX3_factOf) (maxL := 3) (ret := (some .int)) (by decide) rfl ?_
  intro p e s m args below meth c s₁ B9 hml hv
  obtain ⟨rfl, hsz, hP, hK, hD0⟩ := hv
  have hx := B9.exec
  have hb := B9.bytes
  have hr := B9.returns
  have hts := atoms_spec (ws := wsX3_factOf) B9.pre
  have hown : s.vm.findClass RX3 = some m.cls := findClass_of_methodNamed B9.named
  have hlocks := B9.notSynchronized
  subst hsz
  have hD := hD0
  generalize hAe : (fun _ : Nat => True) = A at hD
  have hl := lv_entry ([.ref (qA B 5 0), .ref (qA B 0 i), .int 3]) (n := 3) (Nat.le_of_ble_eq_true rfl)
  rw [lg_entry_eq]
  generalize (lg_sl ([.ref (qA B 5 0), .ref (qA B 0 i), .int 3]) ++ List.replicate (3 - (lg_sl ([.ref (qA B 5 0), .ref (qA B 0 i), .int 3])).length) Slot.unset).toArray = ls at hl ⊢
  have hl : lv_has ls 3 [(0, .ref (qA B 5 0)), (1, .ref (qA B 0 i)), (2, .int 3)] := hl
  have hP : va_P D vwCl (qG B R N) s.heap := hP
  generalize hRe : (headSpec _ _).room = R9
  have hRf : R9.frames = 0 := by rw [← hRe]; rfl
  have hRc : R9.cells = 0 := by rw [← hRe]; rfl
  have hRs : R9.slots = 0 := by rw [← hRe]; rfl
  have hRl : R9.locals = 0 := by rw [← hRe]; rfl
  clear hRe
  refine lv_iload_n hx hb dX3_factOf_0 rfl (lv_at hl 2 rfl) ?_
  refine lv_tableIn (off := 66) (tgt := 67) hx hb dX3_factOf_1 (by decide) (by decide) (by decide) (by decide) ?_
  refine lv_aload_n hx hb dX3_factOf_67 rfl (lv_at hl 1 rfl) ?_
  refine va_get (D := D) (ci := 0) (v := .int (nI (N 0 i 8))) (C := RX0) (T := TX0) (N := 18) hx hb hts (fun _ h9 => List.mem_cons_of_mem _ (List.mem_append_left _ (List.mem_append_right _ h9))) hown hK hP (5 + i) (qG_i (by omega)) rfl 8 (by decide) (hts (.fieldLink RX3 131 "PalletStack$Item" "bottom" "I") (List.mem_of_getElem? (i := 4) (by rfl))) (fun _ h9 => h9) rfl dX3_factOf_68 ?_
  exact W.iret (v := (nI (N 0 i 8))) hx hb hr (fun t ht hW => ⟨(nI (N 0 i 8)), rfl, rfl, ht⟩) (fun _ h => by cases h) dX3_factOf_71
set_option maxHeartbeats 4000000 in
set_option maxRecDepth 100000 in
theorem c_item_3 (l : Launch) (D : zG) (sz : Nat) (B : qB) (R : qR0) (N : qN0) (i : Nat) (hi : i < N 4 1 5) (hO : qOK B N) : Met l yX3_item wsX3_item ({ frames := 2, cells := 0, slots := 0, locals := 45 }) (zPc D (qT B) (qG B R N) sz [.ref (qA B 5 0), .int (nI i), .int 3]) (vp_Si (fun r => r = nI (N 0 i 8))) 0 0 (fun _ => False) := by
  refine Met.ofW (cc := cX3_item) (maxL := 4) (ret := (some .int)) (by decide) rfl ?_
  intro p e s m args below meth c s₁ B9 hml hv
  obtain ⟨rfl, hsz, hP, hK, hD0⟩ := hv
  have hx := B9.exec
  have hb := B9.bytes
  have hr := B9.returns
  have hts := atoms_spec (ws := wsX3_item) B9.pre
  have hown : s.vm.findClass RX3 = some m.cls := findClass_of_methodNamed B9.named
  have hlocks := B9.notSynchronized
  subst hsz
  have hD := hD0
  generalize hAe : (fun _ : Nat => True) = A at hD
  have hl := lv_entry ([.ref (qA B 5 0), .int (nI i), .int 3]) (n := 4) (Nat.le_of_ble_eq_true rfl)
  rw [lg_entry_eq]
  generalize (lg_sl ([.ref (qA B 5 0), .int (nI i), .int 3]) ++ List.replicate (4 - (lg_sl ([.ref (qA B 5 0), .int (nI i), .int 3])).length) Slot.unset).toArray = ls at hl ⊢
  have hl : lv_has ls 4 [(0, .ref (qA B 5 0)), (1, .int (nI i)), (2, .int 3)] := hl
  have hP : va_P D vwCl (qG B R N) s.heap := hP
  generalize hRe : (headSpec _ _).room = R9
  have hRf : R9.frames = 2 := by rw [← hRe]; rfl
  have hRc : R9.cells = 0 := by rw [← hRe]; rfl
  have hRs : R9.slots = 0 := by rw [← hRe]; rfl
  have hRl : R9.locals = 45 := by rw [← hRe]; rfl
  clear hRe
  have o8 := hO.2.2.2.2.2.2.2.1
  refine lv_aload_n hx hb dX3_item_0 rfl (lv_at hl 0 rfl) ?_
  refine lv_iload_n hx hb dX3_item_1 rfl (lv_at hl 1 rfl) ?_
  refine zrdVq2 (As := [.int (nI i)]) (rest := []) (wc := qG B R N) ⟨hx, hb, hml, hown, hts⟩ (c_itemOf l D _ B R N i hi hO) (cwV 1 hts gX3_item_X3_itemOf rfl rfl rfl (by decide +kernel) ⟨by rw [hRf]; exact Nat.le_of_ble_eq_true rfl, by rw [hRl]; exact Nat.le_of_ble_eq_true rfl⟩) hK hP hD [0, 1, 2, 3] rfl (ci := 3) (q0 := 0) rfl rfl rfl hl.1 rfl (Nat.le_of_ble_eq_true rfl) dX3_item_2 ⟨by omega, by omega⟩ (fun r_89 hr_89 => ?_)
  refine W.eq (g2 := F0 m 5 ls [.ref (qA B 0 i)]) (by rw [hr_89]; rfl) ?_
  refine lv_astore_n (lv' := [(3, .ref (qA B 0 i)), (0, .ref (qA B 5 0)), (1, .int (nI i)), (2, .int 3)]) hx hb dX3_item_5 rfl hl (by decide) rfl (fun ls hl => ?_)
  refine lv_aload_n hx hb dX3_item_6 rfl (lv_at hl 0 rfl) ?_
  refine lv_ifnull hx hb dX3_item_7 ?_
  refine lv_iload_n hx hb dX3_item_10 rfl (lv_at hl 3 rfl) ?_
  refine lv_iconst (v := 0) hx hb dX3_item_11 (by decide) ?_
  refine lv_bipush (v := 9) hx hb dX3_item_12 (by decide) ?_
  refine zrdS (As := [.int 3, .int 0, .int 9]) (rest := []) (wc := []) ⟨hx, hb, hml, hown, hts⟩ (c_isWithin l D _ 3 0 9) (va_cwS 3 hts gX3_item_X3_isWithin rfl rfl rfl (by decide +kernel) ⟨by rw [hRf]; exact Nat.le_of_ble_eq_true rfl, by rw [hRl]; exact Nat.le_of_ble_eq_true rfl⟩) hK hP hD [] rfl (by decide) [] rfl rfl hl.1 rfl (Nat.le_of_ble_eq_true rfl) dX3_item_14 ⟨by omega, by omega⟩ (fun r_91 hr_91 => ?_)
  refine lv_topi (fun v_92 ev_92 => ?_)
  obtain rfl : v_92 = 1 := ev_92.trans (hr_91.trans (by decide))
  refine lv_if_ne (tgt := 28) hx hb dX3_item_17 (by decide) (fun c_93 => ?_) (fun c_93 => absurd c_93 (by decide))
  refine lv_aload_n hx hb dX3_item_28 rfl (lv_at hl 1 rfl) ?_
  refine lv_aload_n hx hb dX3_item_29 rfl (lv_at hl 0 rfl) ?_
  refine lv_iload_n hx hb dX3_item_30 rfl (lv_at hl 3 rfl) ?_
  refine zrdV2 (As := [.ref (qA B 0 i), .int 3]) (rest := []) (wc := qG B R N) ⟨hx, hb, hml, hown, hts⟩ (c_factOf_3 l D _ B R N i (by omega)) (cwV 2 hts gX3_item_X3_factOf rfl rfl rfl (by decide +kernel) ⟨by rw [hRf]; exact Nat.le_of_ble_eq_true rfl, by rw [hRl]; exact Nat.le_of_ble_eq_true rfl⟩) hK hP hD [0, 1, 2, 3] rfl (ci := 3) (q0 := 0) rfl rfl rfl hl.1 rfl (Nat.le_of_ble_eq_true rfl) dX3_item_31 ⟨by omega, by omega⟩ (fun r_94 hr_94 => ?_)
  refine lv_topi (fun v_95 ev_95 => ?_)
  obtain rfl : v_95 = (nI (N 0 i 8)) := ev_95.trans hr_94
  exact W.iret (v := (nI (N 0 i 8))) hx hb hr (fun t ht hW => ⟨(nI (N 0 i 8)), rfl, rfl, ht⟩) (fun _ h => by cases h) dX3_item_34
set_option maxHeartbeats 4000000 in
set_option maxRecDepth 100000 in
theorem c_factOf_4 (l : Launch) (D : zG) (sz : Nat) (B : qB) (R : qR0) (N : qN0) (i : Nat) (hi : i < 61) : Met l yX3_factOf wsX3_factOf ({ frames := 0, cells := 0, slots := 0, locals := 0 }) (zPc D (qT B) (qG B R N) sz [.ref (qA B 5 0), .ref (qA B 0 i), .int 4]) (vp_Si (fun r => r = nI (N 0 i 9))) 0 0 (fun _ => False) := by
  refine Met.ofW (cc := cX3_factOf) (maxL := 3) (ret := (some .int)) (by decide) rfl ?_
  intro p e s m args below meth c s₁ B9 hml hv
  obtain ⟨rfl, hsz, hP, hK, hD0⟩ := hv
  have hx := B9.exec
  have hb := B9.bytes
  have hr := B9.returns
  have hts := atoms_spec (ws := wsX3_factOf) B9.pre
  have hown : s.vm.findClass RX3 = some m.cls := findClass_of_methodNamed B9.named
  have hlocks := B9.notSynchronized
  subst hsz
  have hD := hD0
  generalize hAe : (fun _ : Nat => True) = A at hD
  have hl := lv_entry ([.ref (qA B 5 0), .ref (qA B 0 i), .int 4]) (n := 3) (Nat.le_of_ble_eq_true rfl)
  rw [lg_entry_eq]
  generalize (lg_sl ([.ref (qA B 5 0), .ref (qA B 0 i), .int 4]) ++ List.replicate (3 - (lg_sl ([.ref (qA B 5 0), .ref (qA B 0 i), .int 4])).length) Slot.unset).toArray = ls at hl ⊢
  have hl : lv_has ls 3 [(0, .ref (qA B 5 0)), (1, .ref (qA B 0 i)), (2, .int 4)] := hl
  have hP : va_P D vwCl (qG B R N) s.heap := hP
  generalize hRe : (headSpec _ _).room = R9
  have hRf : R9.frames = 0 := by rw [← hRe]; rfl
  have hRc : R9.cells = 0 := by rw [← hRe]; rfl
  have hRs : R9.slots = 0 := by rw [← hRe]; rfl
  have hRl : R9.locals = 0 := by rw [← hRe]; rfl
  clear hRe
  refine lv_iload_n hx hb dX3_factOf_0 rfl (lv_at hl 2 rfl) ?_
  refine lv_tableIn (off := 71) (tgt := 72) hx hb dX3_factOf_1 (by decide) (by decide) (by decide) (by decide) ?_
  refine lv_aload_n hx hb dX3_factOf_72 rfl (lv_at hl 1 rfl) ?_
  refine va_get (D := D) (ci := 0) (v := .int (nI (N 0 i 9))) (C := RX0) (T := TX0) (N := 18) hx hb hts (fun _ h9 => List.mem_cons_of_mem _ (List.mem_append_left _ (List.mem_append_right _ h9))) hown hK hP (5 + i) (qG_i (by omega)) rfl 9 (by decide) (hts (.fieldLink RX3 134 "PalletStack$Item" "top" "I") (List.mem_of_getElem? (i := 5) (by rfl))) (fun _ h9 => h9) rfl dX3_factOf_73 ?_
  exact W.iret (v := (nI (N 0 i 9))) hx hb hr (fun t ht hW => ⟨(nI (N 0 i 9)), rfl, rfl, ht⟩) (fun _ h => by cases h) dX3_factOf_76
set_option maxHeartbeats 4000000 in
set_option maxRecDepth 100000 in
theorem c_item_4 (l : Launch) (D : zG) (sz : Nat) (B : qB) (R : qR0) (N : qN0) (i : Nat) (hi : i < N 4 1 5) (hO : qOK B N) : Met l yX3_item wsX3_item ({ frames := 2, cells := 0, slots := 0, locals := 45 }) (zPc D (qT B) (qG B R N) sz [.ref (qA B 5 0), .int (nI i), .int 4]) (vp_Si (fun r => r = nI (N 0 i 9))) 0 0 (fun _ => False) := by
  refine Met.ofW (cc := cX3_item) (maxL := 4) (ret := (some .int)) (by decide) rfl ?_
  intro p e s m args below meth c s₁ B9 hml hv
  obtain ⟨rfl, hsz, hP, hK, hD0⟩ := hv
  have hx := B9.exec
  have hb := B9.bytes
  have hr := B9.returns
  have hts := atoms_spec (ws := wsX3_item) B9.pre
  have hown : s.vm.findClass RX3 = some m.cls := findClass_of_methodNamed B9.named
  have hlocks := B9.notSynchronized
  subst hsz
  have hD := hD0
  generalize hAe : (fun _ : Nat => True) = A at hD
  have hl := lv_entry ([.ref (qA B 5 0), .int (nI i), .int 4]) (n := 4) (Nat.le_of_ble_eq_true rfl)
  rw [lg_entry_eq]
  generalize (lg_sl ([.ref (qA B 5 0), .int (nI i), .int 4]) ++ List.replicate (4 - (lg_sl ([.ref (qA B 5 0), .int (nI i), .int 4])).length) Slot.unset).toArray = ls at hl ⊢
  have hl : lv_has ls 4 [(0, .ref (qA B 5 0)), (1, .int (nI i)), (2, .int 4)] := hl
  have hP : va_P D vwCl (qG B R N) s.heap := hP
  generalize hRe : (headSpec _ _).room = R9
  have hRf : R9.frames = 2 := by rw [← hRe]; rfl
  have hRc : R9.cells = 0 := by rw [← hRe]; rfl
  have hRs : R9.slots = 0 := by rw [← hRe]; rfl
  have hRl : R9.locals = 45 := by rw [← hRe]; rfl
  clear hRe
  have o8 := hO.2.2.2.2.2.2.2.1
  refine lv_aload_n hx hb dX3_item_0 rfl (lv_at hl 0 rfl) ?_
  refine lv_iload_n hx hb dX3_item_1 rfl (lv_at hl 1 rfl) ?_
  refine zrdVq2 (As := [.int (nI i)]) (rest := []) (wc := qG B R N) ⟨hx, hb, hml, hown, hts⟩ (c_itemOf l D _ B R N i hi hO) (cwV 1 hts gX3_item_X3_itemOf rfl rfl rfl (by decide +kernel) ⟨by rw [hRf]; exact Nat.le_of_ble_eq_true rfl, by rw [hRl]; exact Nat.le_of_ble_eq_true rfl⟩) hK hP hD [0, 1, 2, 3] rfl (ci := 3) (q0 := 0) rfl rfl rfl hl.1 rfl (Nat.le_of_ble_eq_true rfl) dX3_item_2 ⟨by omega, by omega⟩ (fun r_96 hr_96 => ?_)
  refine W.eq (g2 := F0 m 5 ls [.ref (qA B 0 i)]) (by rw [hr_96]; rfl) ?_
  refine lv_astore_n (lv' := [(3, .ref (qA B 0 i)), (0, .ref (qA B 5 0)), (1, .int (nI i)), (2, .int 4)]) hx hb dX3_item_5 rfl hl (by decide) rfl (fun ls hl => ?_)
  refine lv_aload_n hx hb dX3_item_6 rfl (lv_at hl 0 rfl) ?_
  refine lv_ifnull hx hb dX3_item_7 ?_
  refine lv_iload_n hx hb dX3_item_10 rfl (lv_at hl 3 rfl) ?_
  refine lv_iconst (v := 0) hx hb dX3_item_11 (by decide) ?_
  refine lv_bipush (v := 9) hx hb dX3_item_12 (by decide) ?_
  refine zrdS (As := [.int 4, .int 0, .int 9]) (rest := []) (wc := []) ⟨hx, hb, hml, hown, hts⟩ (c_isWithin l D _ 4 0 9) (va_cwS 3 hts gX3_item_X3_isWithin rfl rfl rfl (by decide +kernel) ⟨by rw [hRf]; exact Nat.le_of_ble_eq_true rfl, by rw [hRl]; exact Nat.le_of_ble_eq_true rfl⟩) hK hP hD [] rfl (by decide) [] rfl rfl hl.1 rfl (Nat.le_of_ble_eq_true rfl) dX3_item_14 ⟨by omega, by omega⟩ (fun r_98 hr_98 => ?_)
  refine lv_topi (fun v_99 ev_99 => ?_)
  obtain rfl : v_99 = 1 := ev_99.trans (hr_98.trans (by decide))
  refine lv_if_ne (tgt := 28) hx hb dX3_item_17 (by decide) (fun c_100 => ?_) (fun c_100 => absurd c_100 (by decide))
  refine lv_aload_n hx hb dX3_item_28 rfl (lv_at hl 1 rfl) ?_
  refine lv_aload_n hx hb dX3_item_29 rfl (lv_at hl 0 rfl) ?_
  refine lv_iload_n hx hb dX3_item_30 rfl (lv_at hl 3 rfl) ?_
  refine zrdV2 (As := [.ref (qA B 0 i), .int 4]) (rest := []) (wc := qG B R N) ⟨hx, hb, hml, hown, hts⟩ (c_factOf_4 l D _ B R N i (by omega)) (cwV 2 hts gX3_item_X3_factOf rfl rfl rfl (by decide +kernel) ⟨by rw [hRf]; exact Nat.le_of_ble_eq_true rfl, by rw [hRl]; exact Nat.le_of_ble_eq_true rfl⟩) hK hP hD [0, 1, 2, 3] rfl (ci := 3) (q0 := 0) rfl rfl rfl hl.1 rfl (Nat.le_of_ble_eq_true rfl) dX3_item_31 ⟨by omega, by omega⟩ (fun r_101 hr_101 => ?_)
  refine lv_topi (fun v_102 ev_102 => ?_)
  obtain rfl : v_102 = (nI (N 0 i 9)) := ev_102.trans hr_101
  exact W.iret (v := (nI (N 0 i 9))) hx hb hr (fun t ht hW => ⟨(nI (N 0 i 9)), rfl, rfl, ht⟩) (fun _ h => by cases h) dX3_item_34
set_option maxHeartbeats 4000000 in
set_option maxRecDepth 100000 in
theorem c_factOf_5 (l : Launch) (D : zG) (sz : Nat) (B : qB) (R : qR0) (N : qN0) (i : Nat) (hi : i < 61) (h3 : N 0 i 3 < 2) : Met l yX3_factOf wsX3_factOf ({ frames := 0, cells := 0, slots := 0, locals := 0 }) (zPc D (qT B) (qG B R N) sz [.ref (qA B 5 0), .ref (qA B 0 i), .int 5]) (vp_Si (fun r => r = nI (N 0 i 3))) 0 0 (fun _ => False) := by
  refine Met.ofW (cc := cX3_factOf) (maxL := 3) (ret := (some .int)) (by decide) rfl ?_
  intro p e s m args below meth c s₁ B9 hml hv
  obtain ⟨rfl, hsz, hP, hK, hD0⟩ := hv
  have hx := B9.exec
  have hb := B9.bytes
  have hr := B9.returns
  have hts := atoms_spec (ws := wsX3_factOf) B9.pre
  have hown : s.vm.findClass RX3 = some m.cls := findClass_of_methodNamed B9.named
  have hlocks := B9.notSynchronized
  subst hsz
  have hD := hD0
  generalize hAe : (fun _ : Nat => True) = A at hD
  have hl := lv_entry ([.ref (qA B 5 0), .ref (qA B 0 i), .int 5]) (n := 3) (Nat.le_of_ble_eq_true rfl)
  rw [lg_entry_eq]
  generalize (lg_sl ([.ref (qA B 5 0), .ref (qA B 0 i), .int 5]) ++ List.replicate (3 - (lg_sl ([.ref (qA B 5 0), .ref (qA B 0 i), .int 5])).length) Slot.unset).toArray = ls at hl ⊢
  have hl : lv_has ls 3 [(0, .ref (qA B 5 0)), (1, .ref (qA B 0 i)), (2, .int 5)] := hl
  have hP : va_P D vwCl (qG B R N) s.heap := hP
  generalize hRe : (headSpec _ _).room = R9
  have hRf : R9.frames = 0 := by rw [← hRe]; rfl
  have hRc : R9.cells = 0 := by rw [← hRe]; rfl
  have hRs : R9.slots = 0 := by rw [← hRe]; rfl
  have hRl : R9.locals = 0 := by rw [← hRe]; rfl
  clear hRe
  refine lv_iload_n hx hb dX3_factOf_0 rfl (lv_at hl 2 rfl) ?_
  refine lv_tableIn (off := 76) (tgt := 77) hx hb dX3_factOf_1 (by decide) (by decide) (by decide) (by decide) ?_
  refine lv_aload_n hx hb dX3_factOf_77 rfl (lv_at hl 1 rfl) ?_
  refine va_get (D := D) (ci := 0) (v := .int (nI (N 0 i 3))) (C := RX0) (T := TX0) (N := 18) hx hb hts (fun _ h9 => List.mem_cons_of_mem _ (List.mem_append_left _ (List.mem_append_right _ h9))) hown hK hP (5 + i) (qG_i (by omega)) rfl 3 (by decide) (hts (.fieldLink RX3 205 "PalletStack$Item" "isTurned" "Z") (List.mem_of_getElem? (i := 6) (by rfl))) (fun _ h9 => h9) rfl dX3_factOf_78 ?_
  refine lv_if_eq (tgt := 88) hx hb dX3_factOf_81 (by decide) (fun c_103 => ?_) (fun c_103 => ?_)
  · have h_b := True.intro
    refine lv_iconst (v := 0) hx hb dX3_factOf_88 (by decide) ?_
    exact W.iret (v := 0) hx hb hr (fun t ht hW => ⟨0, rfl, (by have := (qeq (by omega) (by omega)).mp (c_103 : nI (N 0 i 3) = nI 0); rw [this]; rfl), ht⟩) (fun _ h => by cases h) dX3_factOf_89
  · have h_b := True.intro
    refine lv_iconst (v := 1) hx hb dX3_factOf_84 (by decide) ?_
    refine lv_goto (tgt := 89) hx hb dX3_factOf_85 (by decide) ?_
    exact W.iret (v := 1) hx hb hr (fun t ht hW => ⟨1, rfl, (by rcases (show N 0 i 3 = 0 ∨ N 0 i 3 = 1 by omega) with h | h <;> rw [h] at c_103 ⊢ <;> first | rfl | exact absurd rfl c_103), ht⟩) (fun _ h => by cases h) dX3_factOf_89
set_option maxHeartbeats 4000000 in
set_option maxRecDepth 100000 in
theorem c_item_5 (l : Launch) (D : zG) (sz : Nat) (B : qB) (R : qR0) (N : qN0) (i : Nat) (hi : i < N 4 1 5) (hO : qOK B N) (h3 : N 0 i 3 < 2) : Met l yX3_item wsX3_item ({ frames := 2, cells := 0, slots := 0, locals := 45 }) (zPc D (qT B) (qG B R N) sz [.ref (qA B 5 0), .int (nI i), .int 5]) (vp_Si (fun r => r = nI (N 0 i 3))) 0 0 (fun _ => False) := by
  refine Met.ofW (cc := cX3_item) (maxL := 4) (ret := (some .int)) (by decide) rfl ?_
  intro p e s m args below meth c s₁ B9 hml hv
  obtain ⟨rfl, hsz, hP, hK, hD0⟩ := hv
  have hx := B9.exec
  have hb := B9.bytes
  have hr := B9.returns
  have hts := atoms_spec (ws := wsX3_item) B9.pre
  have hown : s.vm.findClass RX3 = some m.cls := findClass_of_methodNamed B9.named
  have hlocks := B9.notSynchronized
  subst hsz
  have hD := hD0
  generalize hAe : (fun _ : Nat => True) = A at hD
  have hl := lv_entry ([.ref (qA B 5 0), .int (nI i), .int 5]) (n := 4) (Nat.le_of_ble_eq_true rfl)
  rw [lg_entry_eq]
  generalize (lg_sl ([.ref (qA B 5 0), .int (nI i), .int 5]) ++ List.replicate (4 - (lg_sl ([.ref (qA B 5 0), .int (nI i), .int 5])).length) Slot.unset).toArray = ls at hl ⊢
  have hl : lv_has ls 4 [(0, .ref (qA B 5 0)), (1, .int (nI i)), (2, .int 5)] := hl
  have hP : va_P D vwCl (qG B R N) s.heap := hP
  generalize hRe : (headSpec _ _).room = R9
  have hRf : R9.frames = 2 := by rw [← hRe]; rfl
  have hRc : R9.cells = 0 := by rw [← hRe]; rfl
  have hRs : R9.slots = 0 := by rw [← hRe]; rfl
  have hRl : R9.locals = 45 := by rw [← hRe]; rfl
  clear hRe
  have o8 := hO.2.2.2.2.2.2.2.1
  refine lv_aload_n hx hb dX3_item_0 rfl (lv_at hl 0 rfl) ?_
  refine lv_iload_n hx hb dX3_item_1 rfl (lv_at hl 1 rfl) ?_
  refine zrdVq2 (As := [.int (nI i)]) (rest := []) (wc := qG B R N) ⟨hx, hb, hml, hown, hts⟩ (c_itemOf l D _ B R N i hi hO) (cwV 1 hts gX3_item_X3_itemOf rfl rfl rfl (by decide +kernel) ⟨by rw [hRf]; exact Nat.le_of_ble_eq_true rfl, by rw [hRl]; exact Nat.le_of_ble_eq_true rfl⟩) hK hP hD [0, 1, 2, 3] rfl (ci := 3) (q0 := 0) rfl rfl rfl hl.1 rfl (Nat.le_of_ble_eq_true rfl) dX3_item_2 ⟨by omega, by omega⟩ (fun r_104 hr_104 => ?_)
  refine W.eq (g2 := F0 m 5 ls [.ref (qA B 0 i)]) (by rw [hr_104]; rfl) ?_
  refine lv_astore_n (lv' := [(3, .ref (qA B 0 i)), (0, .ref (qA B 5 0)), (1, .int (nI i)), (2, .int 5)]) hx hb dX3_item_5 rfl hl (by decide) rfl (fun ls hl => ?_)
  refine lv_aload_n hx hb dX3_item_6 rfl (lv_at hl 0 rfl) ?_
  refine lv_ifnull hx hb dX3_item_7 ?_
  refine lv_iload_n hx hb dX3_item_10 rfl (lv_at hl 3 rfl) ?_
  refine lv_iconst (v := 0) hx hb dX3_item_11 (by decide) ?_
  refine lv_bipush (v := 9) hx hb dX3_item_12 (by decide) ?_
  refine zrdS (As := [.int 5, .int 0, .int 9]) (rest := []) (wc := []) ⟨hx, hb, hml, hown, hts⟩ (c_isWithin l D _ 5 0 9) (va_cwS 3 hts gX3_item_X3_isWithin rfl rfl rfl (by decide +kernel) ⟨by rw [hRf]; exact Nat.le_of_ble_eq_true rfl, by rw [hRl]; exact Nat.le_of_ble_eq_true rfl⟩) hK hP hD [] rfl (by decide) [] rfl rfl hl.1 rfl (Nat.le_of_ble_eq_true rfl) dX3_item_14 ⟨by omega, by omega⟩ (fun r_106 hr_106 => ?_)
  refine lv_topi (fun v_107 ev_107 => ?_)
  obtain rfl : v_107 = 1 := ev_107.trans (hr_106.trans (by decide))
  refine lv_if_ne (tgt := 28) hx hb dX3_item_17 (by decide) (fun c_108 => ?_) (fun c_108 => absurd c_108 (by decide))
  refine lv_aload_n hx hb dX3_item_28 rfl (lv_at hl 1 rfl) ?_
  refine lv_aload_n hx hb dX3_item_29 rfl (lv_at hl 0 rfl) ?_
  refine lv_iload_n hx hb dX3_item_30 rfl (lv_at hl 3 rfl) ?_
  refine zrdV2 (As := [.ref (qA B 0 i), .int 5]) (rest := []) (wc := qG B R N) ⟨hx, hb, hml, hown, hts⟩ (c_factOf_5 l D _ B R N i (by omega) h3) (cwV 2 hts gX3_item_X3_factOf rfl rfl rfl (by decide +kernel) ⟨by rw [hRf]; exact Nat.le_of_ble_eq_true rfl, by rw [hRl]; exact Nat.le_of_ble_eq_true rfl⟩) hK hP hD [0, 1, 2, 3] rfl (ci := 3) (q0 := 0) rfl rfl rfl hl.1 rfl (Nat.le_of_ble_eq_true rfl) dX3_item_31 ⟨by omega, by omega⟩ (fun r_109 hr_109 => ?_)
  refine lv_topi (fun v_110 ev_110 => ?_)
  obtain rfl : v_110 = (nI (N 0 i 3)) := ev_110.trans hr_109
  exact W.iret (v := (nI (N 0 i 3))) hx hb hr (fun t ht hW => ⟨(nI (N 0 i 3)), rfl, rfl, ht⟩) (fun _ h => by cases h) dX3_item_34
set_option maxHeartbeats 4000000 in
set_option maxRecDepth 100000 in
theorem c_factOf_6 (l : Launch) (D : zG) (sz : Nat) (B : qB) (R : qR0) (N : qN0) (i : Nat) (hi : i < 61) : Met l yX3_factOf wsX3_factOf ({ frames := 0, cells := 0, slots := 0, locals := 0 }) (zPc D (qT B) (qG B R N) sz [.ref (qA B 5 0), .ref (qA B 0 i), .int 6]) (vp_Si (fun r => r = nI (N 0 i 11))) 0 0 (fun _ => False) := by
  refine Met.ofW (cc := cX3_factOf) (maxL := 3) (ret := (some .int)) (by decide) rfl ?_
  intro p e s m args below meth c s₁ B9 hml hv
  obtain ⟨rfl, hsz, hP, hK, hD0⟩ := hv
  have hx := B9.exec
  have hb := B9.bytes
  have hr := B9.returns
  have hts := atoms_spec (ws := wsX3_factOf) B9.pre
  have hown : s.vm.findClass RX3 = some m.cls := findClass_of_methodNamed B9.named
  have hlocks := B9.notSynchronized
  subst hsz
  have hD := hD0
  generalize hAe : (fun _ : Nat => True) = A at hD
  have hl := lv_entry ([.ref (qA B 5 0), .ref (qA B 0 i), .int 6]) (n := 3) (Nat.le_of_ble_eq_true rfl)
  rw [lg_entry_eq]
  generalize (lg_sl ([.ref (qA B 5 0), .ref (qA B 0 i), .int 6]) ++ List.replicate (3 - (lg_sl ([.ref (qA B 5 0), .ref (qA B 0 i), .int 6])).length) Slot.unset).toArray = ls at hl ⊢
  have hl : lv_has ls 3 [(0, .ref (qA B 5 0)), (1, .ref (qA B 0 i)), (2, .int 6)] := hl
  have hP : va_P D vwCl (qG B R N) s.heap := hP
  generalize hRe : (headSpec _ _).room = R9
  have hRf : R9.frames = 0 := by rw [← hRe]; rfl
  have hRc : R9.cells = 0 := by rw [← hRe]; rfl
  have hRs : R9.slots = 0 := by rw [← hRe]; rfl
  have hRl : R9.locals = 0 := by rw [← hRe]; rfl
  clear hRe
  refine lv_iload_n hx hb dX3_factOf_0 rfl (lv_at hl 2 rfl) ?_
  refine lv_tableIn (off := 89) (tgt := 90) hx hb dX3_factOf_1 (by decide) (by decide) (by decide) (by decide) ?_
  refine lv_aload_n hx hb dX3_factOf_90 rfl (lv_at hl 1 rfl) ?_
  refine va_get (D := D) (ci := 0) (v := .int (nI (N 0 i 11))) (C := RX0) (T := TX0) (N := 18) hx hb hts (fun _ h9 => List.mem_cons_of_mem _ (List.mem_append_left _ (List.mem_append_right _ h9))) hown hK hP (5 + i) (qG_i (by omega)) rfl 11 (by decide) (hts (.fieldLink RX3 208 "PalletStack$Item" "load" "I") (List.mem_of_getElem? (i := 7) (by rfl))) (fun _ h9 => h9) rfl dX3_factOf_91 ?_
  exact W.iret (v := (nI (N 0 i 11))) hx hb hr (fun t ht hW => ⟨(nI (N 0 i 11)), rfl, rfl, ht⟩) (fun _ h => by cases h) dX3_factOf_94
set_option maxHeartbeats 4000000 in
set_option maxRecDepth 100000 in
theorem c_item_6 (l : Launch) (D : zG) (sz : Nat) (B : qB) (R : qR0) (N : qN0) (i : Nat) (hi : i < N 4 1 5) (hO : qOK B N) : Met l yX3_item wsX3_item ({ frames := 2, cells := 0, slots := 0, locals := 45 }) (zPc D (qT B) (qG B R N) sz [.ref (qA B 5 0), .int (nI i), .int 6]) (vp_Si (fun r => r = nI (N 0 i 11))) 0 0 (fun _ => False) := by
  refine Met.ofW (cc := cX3_item) (maxL := 4) (ret := (some .int)) (by decide) rfl ?_
  intro p e s m args below meth c s₁ B9 hml hv
  obtain ⟨rfl, hsz, hP, hK, hD0⟩ := hv
  have hx := B9.exec
  have hb := B9.bytes
  have hr := B9.returns
  have hts := atoms_spec (ws := wsX3_item) B9.pre
  have hown : s.vm.findClass RX3 = some m.cls := findClass_of_methodNamed B9.named
  have hlocks := B9.notSynchronized
  subst hsz
  have hD := hD0
  generalize hAe : (fun _ : Nat => True) = A at hD
  have hl := lv_entry ([.ref (qA B 5 0), .int (nI i), .int 6]) (n := 4) (Nat.le_of_ble_eq_true rfl)
  rw [lg_entry_eq]
  generalize (lg_sl ([.ref (qA B 5 0), .int (nI i), .int 6]) ++ List.replicate (4 - (lg_sl ([.ref (qA B 5 0), .int (nI i), .int 6])).length) Slot.unset).toArray = ls at hl ⊢
  have hl : lv_has ls 4 [(0, .ref (qA B 5 0)), (1, .int (nI i)), (2, .int 6)] := hl
  have hP : va_P D vwCl (qG B R N) s.heap := hP
  generalize hRe : (headSpec _ _).room = R9
  have hRf : R9.frames = 2 := by rw [← hRe]; rfl
  have hRc : R9.cells = 0 := by rw [← hRe]; rfl
  have hRs : R9.slots = 0 := by rw [← hRe]; rfl
  have hRl : R9.locals = 45 := by rw [← hRe]; rfl
  clear hRe
  have o8 := hO.2.2.2.2.2.2.2.1
  refine lv_aload_n hx hb dX3_item_0 rfl (lv_at hl 0 rfl) ?_
  refine lv_iload_n hx hb dX3_item_1 rfl (lv_at hl 1 rfl) ?_
  refine zrdVq2 (As := [.int (nI i)]) (rest := []) (wc := qG B R N) ⟨hx, hb, hml, hown, hts⟩ (c_itemOf l D _ B R N i hi hO) (cwV 1 hts gX3_item_X3_itemOf rfl rfl rfl (by decide +kernel) ⟨by rw [hRf]; exact Nat.le_of_ble_eq_true rfl, by rw [hRl]; exact Nat.le_of_ble_eq_true rfl⟩) hK hP hD [0, 1, 2, 3] rfl (ci := 3) (q0 := 0) rfl rfl rfl hl.1 rfl (Nat.le_of_ble_eq_true rfl) dX3_item_2 ⟨by omega, by omega⟩ (fun r_111 hr_111 => ?_)
  refine W.eq (g2 := F0 m 5 ls [.ref (qA B 0 i)]) (by rw [hr_111]; rfl) ?_
  refine lv_astore_n (lv' := [(3, .ref (qA B 0 i)), (0, .ref (qA B 5 0)), (1, .int (nI i)), (2, .int 6)]) hx hb dX3_item_5 rfl hl (by decide) rfl (fun ls hl => ?_)
  refine lv_aload_n hx hb dX3_item_6 rfl (lv_at hl 0 rfl) ?_
  refine lv_ifnull hx hb dX3_item_7 ?_
  refine lv_iload_n hx hb dX3_item_10 rfl (lv_at hl 3 rfl) ?_
  refine lv_iconst (v := 0) hx hb dX3_item_11 (by decide) ?_
  refine lv_bipush (v := 9) hx hb dX3_item_12 (by decide) ?_
  refine zrdS (As := [.int 6, .int 0, .int 9]) (rest := []) (wc := []) ⟨hx, hb, hml, hown, hts⟩ (c_isWithin l D _ 6 0 9) (va_cwS 3 hts gX3_item_X3_isWithin rfl rfl rfl (by decide +kernel) ⟨by rw [hRf]; exact Nat.le_of_ble_eq_true rfl, by rw [hRl]; exact Nat.le_of_ble_eq_true rfl⟩) hK hP hD [] rfl (by decide) [] rfl rfl hl.1 rfl (Nat.le_of_ble_eq_true rfl) dX3_item_14 ⟨by omega, by omega⟩ (fun r_113 hr_113 => ?_)
  refine lv_topi (fun v_114 ev_114 => ?_)
  obtain rfl : v_114 = 1 := ev_114.trans (hr_113.trans (by decide))
  refine lv_if_ne (tgt := 28) hx hb dX3_item_17 (by decide) (fun c_115 => ?_) (fun c_115 => absurd c_115 (by decide))
  refine lv_aload_n hx hb dX3_item_28 rfl (lv_at hl 1 rfl) ?_
  refine lv_aload_n hx hb dX3_item_29 rfl (lv_at hl 0 rfl) ?_
  refine lv_iload_n hx hb dX3_item_30 rfl (lv_at hl 3 rfl) ?_
  refine zrdV2 (As := [.ref (qA B 0 i), .int 6]) (rest := []) (wc := qG B R N) ⟨hx, hb, hml, hown, hts⟩ (c_factOf_6 l D _ B R N i (by omega)) (cwV 2 hts gX3_item_X3_factOf rfl rfl rfl (by decide +kernel) ⟨by rw [hRf]; exact Nat.le_of_ble_eq_true rfl, by rw [hRl]; exact Nat.le_of_ble_eq_true rfl⟩) hK hP hD [0, 1, 2, 3] rfl (ci := 3) (q0 := 0) rfl rfl rfl hl.1 rfl (Nat.le_of_ble_eq_true rfl) dX3_item_31 ⟨by omega, by omega⟩ (fun r_116 hr_116 => ?_)
  refine lv_topi (fun v_117 ev_117 => ?_)
  obtain rfl : v_117 = (nI (N 0 i 11)) := ev_117.trans hr_116
  exact W.iret (v := (nI (N 0 i 11))) hx hb hr (fun t ht hW => ⟨(nI (N 0 i 11)), rfl, rfl, ht⟩) (fun _ h => by cases h) dX3_item_34
set_option maxHeartbeats 4000000 in
set_option maxRecDepth 100000 in
theorem c_factOf_8 (l : Launch) (D : zG) (sz : Nat) (B : qB) (R : qR0) (N : qN0) (i : Nat) (hi : i < 61) : Met l yX3_factOf wsX3_factOf ({ frames := 0, cells := 0, slots := 0, locals := 0 }) (zPc D (qT B) (qG B R N) sz [.ref (qA B 5 0), .ref (qA B 0 i), .int 8]) (vp_Si (fun r => r = nI (N 0 i 15))) 0 0 (fun _ => False) := by
  refine Met.ofW (cc := cX3_factOf) (maxL := 3) (ret := (some .int)) (by decide) rfl ?_
  intro p e s m args below meth c s₁ B9 hml hv
  obtain ⟨rfl, hsz, hP, hK, hD0⟩ := hv
  have hx := B9.exec
  have hb := B9.bytes
  have hr := B9.returns
  have hts := atoms_spec (ws := wsX3_factOf) B9.pre
  have hown : s.vm.findClass RX3 = some m.cls := findClass_of_methodNamed B9.named
  have hlocks := B9.notSynchronized
  subst hsz
  have hD := hD0
  generalize hAe : (fun _ : Nat => True) = A at hD
  have hl := lv_entry ([.ref (qA B 5 0), .ref (qA B 0 i), .int 8]) (n := 3) (Nat.le_of_ble_eq_true rfl)
  rw [lg_entry_eq]
  generalize (lg_sl ([.ref (qA B 5 0), .ref (qA B 0 i), .int 8]) ++ List.replicate (3 - (lg_sl ([.ref (qA B 5 0), .ref (qA B 0 i), .int 8])).length) Slot.unset).toArray = ls at hl ⊢
  have hl : lv_has ls 3 [(0, .ref (qA B 5 0)), (1, .ref (qA B 0 i)), (2, .int 8)] := hl
  have hP : va_P D vwCl (qG B R N) s.heap := hP
  generalize hRe : (headSpec _ _).room = R9
  have hRf : R9.frames = 0 := by rw [← hRe]; rfl
  have hRc : R9.cells = 0 := by rw [← hRe]; rfl
  have hRs : R9.slots = 0 := by rw [← hRe]; rfl
  have hRl : R9.locals = 0 := by rw [← hRe]; rfl
  clear hRe
  refine lv_iload_n hx hb dX3_factOf_0 rfl (lv_at hl 2 rfl) ?_
  refine lv_tableIn (off := 100) (tgt := 101) hx hb dX3_factOf_1 (by decide) (by decide) (by decide) (by decide) ?_
  refine lv_aload_n hx hb dX3_factOf_101 rfl (lv_at hl 1 rfl) ?_
  refine va_get (D := D) (ci := 0) (v := .int (nI (N 0 i 15))) (C := RX0) (T := TX0) (N := 18) hx hb hts (fun _ h9 => List.mem_cons_of_mem _ (List.mem_append_left _ (List.mem_append_right _ h9))) hown hK hP (5 + i) (qG_i (by omega)) rfl 15 (by decide) (hts (.fieldLink RX3 211 "PalletStack$Item" "supportCount" "I") (List.mem_of_getElem? (i := 8) (by rfl))) (fun _ h9 => h9) rfl dX3_factOf_102 ?_
  exact W.iret (v := (nI (N 0 i 15))) hx hb hr (fun t ht hW => ⟨(nI (N 0 i 15)), rfl, rfl, ht⟩) (fun _ h => by cases h) dX3_factOf_105
set_option maxHeartbeats 4000000 in
set_option maxRecDepth 100000 in
theorem c_item_8 (l : Launch) (D : zG) (sz : Nat) (B : qB) (R : qR0) (N : qN0) (i : Nat) (hi : i < N 4 1 5) (hO : qOK B N) : Met l yX3_item wsX3_item ({ frames := 2, cells := 0, slots := 0, locals := 45 }) (zPc D (qT B) (qG B R N) sz [.ref (qA B 5 0), .int (nI i), .int 8]) (vp_Si (fun r => r = nI (N 0 i 15))) 0 0 (fun _ => False) := by
  refine Met.ofW (cc := cX3_item) (maxL := 4) (ret := (some .int)) (by decide) rfl ?_
  intro p e s m args below meth c s₁ B9 hml hv
  obtain ⟨rfl, hsz, hP, hK, hD0⟩ := hv
  have hx := B9.exec
  have hb := B9.bytes
  have hr := B9.returns
  have hts := atoms_spec (ws := wsX3_item) B9.pre
  have hown : s.vm.findClass RX3 = some m.cls := findClass_of_methodNamed B9.named
  have hlocks := B9.notSynchronized
  subst hsz
  have hD := hD0
  generalize hAe : (fun _ : Nat => True) = A at hD
  have hl := lv_entry ([.ref (qA B 5 0), .int (nI i), .int 8]) (n := 4) (Nat.le_of_ble_eq_true rfl)
  rw [lg_entry_eq]
  generalize (lg_sl ([.ref (qA B 5 0), .int (nI i), .int 8]) ++ List.replicate (4 - (lg_sl ([.ref (qA B 5 0), .int (nI i), .int 8])).length) Slot.unset).toArray = ls at hl ⊢
  have hl : lv_has ls 4 [(0, .ref (qA B 5 0)), (1, .int (nI i)), (2, .int 8)] := hl
  have hP : va_P D vwCl (qG B R N) s.heap := hP
  generalize hRe : (headSpec _ _).room = R9
  have hRf : R9.frames = 2 := by rw [← hRe]; rfl
  have hRc : R9.cells = 0 := by rw [← hRe]; rfl
  have hRs : R9.slots = 0 := by rw [← hRe]; rfl
  have hRl : R9.locals = 45 := by rw [← hRe]; rfl
  clear hRe
  have o8 := hO.2.2.2.2.2.2.2.1
  refine lv_aload_n hx hb dX3_item_0 rfl (lv_at hl 0 rfl) ?_
  refine lv_iload_n hx hb dX3_item_1 rfl (lv_at hl 1 rfl) ?_
  refine zrdVq2 (As := [.int (nI i)]) (rest := []) (wc := qG B R N) ⟨hx, hb, hml, hown, hts⟩ (c_itemOf l D _ B R N i hi hO) (cwV 1 hts gX3_item_X3_itemOf rfl rfl rfl (by decide +kernel) ⟨by rw [hRf]; exact Nat.le_of_ble_eq_true rfl, by rw [hRl]; exact Nat.le_of_ble_eq_true rfl⟩) hK hP hD [0, 1, 2, 3] rfl (ci := 3) (q0 := 0) rfl rfl rfl hl.1 rfl (Nat.le_of_ble_eq_true rfl) dX3_item_2 ⟨by omega, by omega⟩ (fun r_118 hr_118 => ?_)
  refine W.eq (g2 := F0 m 5 ls [.ref (qA B 0 i)]) (by rw [hr_118]; rfl) ?_
  refine lv_astore_n (lv' := [(3, .ref (qA B 0 i)), (0, .ref (qA B 5 0)), (1, .int (nI i)), (2, .int 8)]) hx hb dX3_item_5 rfl hl (by decide) rfl (fun ls hl => ?_)
  refine lv_aload_n hx hb dX3_item_6 rfl (lv_at hl 0 rfl) ?_
  refine lv_ifnull hx hb dX3_item_7 ?_
  refine lv_iload_n hx hb dX3_item_10 rfl (lv_at hl 3 rfl) ?_
  refine lv_iconst (v := 0) hx hb dX3_item_11 (by decide) ?_
  refine lv_bipush (v := 9) hx hb dX3_item_12 (by decide) ?_
  refine zrdS (As := [.int 8, .int 0, .int 9]) (rest := []) (wc := []) ⟨hx, hb, hml, hown, hts⟩ (c_isWithin l D _ 8 0 9) (va_cwS 3 hts gX3_item_X3_isWithin rfl rfl rfl (by decide +kernel) ⟨by rw [hRf]; exact Nat.le_of_ble_eq_true rfl, by rw [hRl]; exact Nat.le_of_ble_eq_true rfl⟩) hK hP hD [] rfl (by decide) [] rfl rfl hl.1 rfl (Nat.le_of_ble_eq_true rfl) dX3_item_14 ⟨by omega, by omega⟩ (fun r_120 hr_120 => ?_)
  refine lv_topi (fun v_121 ev_121 => ?_)
  obtain rfl : v_121 = 1 := ev_121.trans (hr_120.trans (by decide))
  refine lv_if_ne (tgt := 28) hx hb dX3_item_17 (by decide) (fun c_122 => ?_) (fun c_122 => absurd c_122 (by decide))
  refine lv_aload_n hx hb dX3_item_28 rfl (lv_at hl 1 rfl) ?_
  refine lv_aload_n hx hb dX3_item_29 rfl (lv_at hl 0 rfl) ?_
  refine lv_iload_n hx hb dX3_item_30 rfl (lv_at hl 3 rfl) ?_
  refine zrdV2 (As := [.ref (qA B 0 i), .int 8]) (rest := []) (wc := qG B R N) ⟨hx, hb, hml, hown, hts⟩ (c_factOf_8 l D _ B R N i (by omega)) (cwV 2 hts gX3_item_X3_factOf rfl rfl rfl (by decide +kernel) ⟨by rw [hRf]; exact Nat.le_of_ble_eq_true rfl, by rw [hRl]; exact Nat.le_of_ble_eq_true rfl⟩) hK hP hD [0, 1, 2, 3] rfl (ci := 3) (q0 := 0) rfl rfl rfl hl.1 rfl (Nat.le_of_ble_eq_true rfl) dX3_item_31 ⟨by omega, by omega⟩ (fun r_123 hr_123 => ?_)
  refine lv_topi (fun v_124 ev_124 => ?_)
  obtain rfl : v_124 = (nI (N 0 i 15)) := ev_124.trans hr_123
  exact W.iret (v := (nI (N 0 i 15))) hx hb hr (fun t ht hW => ⟨(nI (N 0 i 15)), rfl, rfl, ht⟩) (fun _ h => by cases h) dX3_item_34
set_option maxHeartbeats 4000000 in
set_option maxRecDepth 100000 in
theorem c_factOf_9 (l : Launch) (D : zG) (sz : Nat) (B : qB) (R : qR0) (N : qN0) (i : Nat) (hi : i < 61) : Met l yX3_factOf wsX3_factOf ({ frames := 0, cells := 0, slots := 0, locals := 0 }) (zPc D (qT B) (qG B R N) sz [.ref (qA B 5 0), .ref (qA B 0 i), .int 9]) (vp_Si (fun r => r = nI (N 0 i 10))) 0 0 (fun _ => False) := by
  refine Met.ofW (cc := cX3_factOf) (maxL := 3) (ret := (some .int)) (by decide) rfl ?_
  intro p e s m args below meth c s₁ B9 hml hv
  obtain ⟨rfl, hsz, hP, hK, hD0⟩ := hv
  have hx := B9.exec
  have hb := B9.bytes
  have hr := B9.returns
  have hts := atoms_spec (ws := wsX3_factOf) B9.pre
  have hown : s.vm.findClass RX3 = some m.cls := findClass_of_methodNamed B9.named
  have hlocks := B9.notSynchronized
  subst hsz
  have hD := hD0
  generalize hAe : (fun _ : Nat => True) = A at hD
  have hl := lv_entry ([.ref (qA B 5 0), .ref (qA B 0 i), .int 9]) (n := 3) (Nat.le_of_ble_eq_true rfl)
  rw [lg_entry_eq]
  generalize (lg_sl ([.ref (qA B 5 0), .ref (qA B 0 i), .int 9]) ++ List.replicate (3 - (lg_sl ([.ref (qA B 5 0), .ref (qA B 0 i), .int 9])).length) Slot.unset).toArray = ls at hl ⊢
  have hl : lv_has ls 3 [(0, .ref (qA B 5 0)), (1, .ref (qA B 0 i)), (2, .int 9)] := hl
  have hP : va_P D vwCl (qG B R N) s.heap := hP
  generalize hRe : (headSpec _ _).room = R9
  have hRf : R9.frames = 0 := by rw [← hRe]; rfl
  have hRc : R9.cells = 0 := by rw [← hRe]; rfl
  have hRs : R9.slots = 0 := by rw [← hRe]; rfl
  have hRl : R9.locals = 0 := by rw [← hRe]; rfl
  clear hRe
  refine lv_iload_n hx hb dX3_factOf_0 rfl (lv_at hl 2 rfl) ?_
  refine lv_tableOut (tgt := 106) hx hb dX3_factOf_1 (by decide) (by decide) ?_
  refine lv_aload_n hx hb dX3_factOf_106 rfl (lv_at hl 1 rfl) ?_
  refine va_get (D := D) (ci := 0) (v := .int (nI (N 0 i 10))) (C := RX0) (T := TX0) (N := 18) hx hb hts (fun _ h9 => List.mem_cons_of_mem _ (List.mem_append_left _ (List.mem_append_right _ h9))) hown hK hP (5 + i) (qG_i (by omega)) rfl 10 (by decide) (hts (.fieldLink RX3 214 "PalletStack$Item" "ground" "I") (List.mem_of_getElem? (i := 9) (by rfl))) (fun _ h9 => h9) rfl dX3_factOf_107 ?_
  exact W.iret (v := (nI (N 0 i 10))) hx hb hr (fun t ht hW => ⟨(nI (N 0 i 10)), rfl, rfl, ht⟩) (fun _ h => by cases h) dX3_factOf_110
set_option maxHeartbeats 4000000 in
set_option maxRecDepth 100000 in
theorem c_item_9 (l : Launch) (D : zG) (sz : Nat) (B : qB) (R : qR0) (N : qN0) (i : Nat) (hi : i < N 4 1 5) (hO : qOK B N) : Met l yX3_item wsX3_item ({ frames := 2, cells := 0, slots := 0, locals := 45 }) (zPc D (qT B) (qG B R N) sz [.ref (qA B 5 0), .int (nI i), .int 9]) (vp_Si (fun r => r = nI (N 0 i 10))) 0 0 (fun _ => False) := by
  refine Met.ofW (cc := cX3_item) (maxL := 4) (ret := (some .int)) (by decide) rfl ?_
  intro p e s m args below meth c s₁ B9 hml hv
  obtain ⟨rfl, hsz, hP, hK, hD0⟩ := hv
  have hx := B9.exec
  have hb := B9.bytes
  have hr := B9.returns
  have hts := atoms_spec (ws := wsX3_item) B9.pre
  have hown : s.vm.findClass RX3 = some m.cls := findClass_of_methodNamed B9.named
  have hlocks := B9.notSynchronized
  subst hsz
  have hD := hD0
  generalize hAe : (fun _ : Nat => True) = A at hD
  have hl := lv_entry ([.ref (qA B 5 0), .int (nI i), .int 9]) (n := 4) (Nat.le_of_ble_eq_true rfl)
  rw [lg_entry_eq]
  generalize (lg_sl ([.ref (qA B 5 0), .int (nI i), .int 9]) ++ List.replicate (4 - (lg_sl ([.ref (qA B 5 0), .int (nI i), .int 9])).length) Slot.unset).toArray = ls at hl ⊢
  have hl : lv_has ls 4 [(0, .ref (qA B 5 0)), (1, .int (nI i)), (2, .int 9)] := hl
  have hP : va_P D vwCl (qG B R N) s.heap := hP
  generalize hRe : (headSpec _ _).room = R9
  have hRf : R9.frames = 2 := by rw [← hRe]; rfl
  have hRc : R9.cells = 0 := by rw [← hRe]; rfl
  have hRs : R9.slots = 0 := by rw [← hRe]; rfl
  have hRl : R9.locals = 45 := by rw [← hRe]; rfl
  clear hRe
  have o8 := hO.2.2.2.2.2.2.2.1
  refine lv_aload_n hx hb dX3_item_0 rfl (lv_at hl 0 rfl) ?_
  refine lv_iload_n hx hb dX3_item_1 rfl (lv_at hl 1 rfl) ?_
  refine zrdVq2 (As := [.int (nI i)]) (rest := []) (wc := qG B R N) ⟨hx, hb, hml, hown, hts⟩ (c_itemOf l D _ B R N i hi hO) (cwV 1 hts gX3_item_X3_itemOf rfl rfl rfl (by decide +kernel) ⟨by rw [hRf]; exact Nat.le_of_ble_eq_true rfl, by rw [hRl]; exact Nat.le_of_ble_eq_true rfl⟩) hK hP hD [0, 1, 2, 3] rfl (ci := 3) (q0 := 0) rfl rfl rfl hl.1 rfl (Nat.le_of_ble_eq_true rfl) dX3_item_2 ⟨by omega, by omega⟩ (fun r_125 hr_125 => ?_)
  refine W.eq (g2 := F0 m 5 ls [.ref (qA B 0 i)]) (by rw [hr_125]; rfl) ?_
  refine lv_astore_n (lv' := [(3, .ref (qA B 0 i)), (0, .ref (qA B 5 0)), (1, .int (nI i)), (2, .int 9)]) hx hb dX3_item_5 rfl hl (by decide) rfl (fun ls hl => ?_)
  refine lv_aload_n hx hb dX3_item_6 rfl (lv_at hl 0 rfl) ?_
  refine lv_ifnull hx hb dX3_item_7 ?_
  refine lv_iload_n hx hb dX3_item_10 rfl (lv_at hl 3 rfl) ?_
  refine lv_iconst (v := 0) hx hb dX3_item_11 (by decide) ?_
  refine lv_bipush (v := 9) hx hb dX3_item_12 (by decide) ?_
  refine zrdS (As := [.int 9, .int 0, .int 9]) (rest := []) (wc := []) ⟨hx, hb, hml, hown, hts⟩ (c_isWithin l D _ 9 0 9) (va_cwS 3 hts gX3_item_X3_isWithin rfl rfl rfl (by decide +kernel) ⟨by rw [hRf]; exact Nat.le_of_ble_eq_true rfl, by rw [hRl]; exact Nat.le_of_ble_eq_true rfl⟩) hK hP hD [] rfl (by decide) [] rfl rfl hl.1 rfl (Nat.le_of_ble_eq_true rfl) dX3_item_14 ⟨by omega, by omega⟩ (fun r_127 hr_127 => ?_)
  refine lv_topi (fun v_128 ev_128 => ?_)
  obtain rfl : v_128 = 1 := ev_128.trans (hr_127.trans (by decide))
  refine lv_if_ne (tgt := 28) hx hb dX3_item_17 (by decide) (fun c_129 => ?_) (fun c_129 => absurd c_129 (by decide))
  refine lv_aload_n hx hb dX3_item_28 rfl (lv_at hl 1 rfl) ?_
  refine lv_aload_n hx hb dX3_item_29 rfl (lv_at hl 0 rfl) ?_
  refine lv_iload_n hx hb dX3_item_30 rfl (lv_at hl 3 rfl) ?_
  refine zrdV2 (As := [.ref (qA B 0 i), .int 9]) (rest := []) (wc := qG B R N) ⟨hx, hb, hml, hown, hts⟩ (c_factOf_9 l D _ B R N i (by omega)) (cwV 2 hts gX3_item_X3_factOf rfl rfl rfl (by decide +kernel) ⟨by rw [hRf]; exact Nat.le_of_ble_eq_true rfl, by rw [hRl]; exact Nat.le_of_ble_eq_true rfl⟩) hK hP hD [0, 1, 2, 3] rfl (ci := 3) (q0 := 0) rfl rfl rfl hl.1 rfl (Nat.le_of_ble_eq_true rfl) dX3_item_31 ⟨by omega, by omega⟩ (fun r_130 hr_130 => ?_)
  refine lv_topi (fun v_131 ev_131 => ?_)
  obtain rfl : v_131 = (nI (N 0 i 10)) := ev_131.trans hr_130
  exact W.iret (v := (nI (N 0 i 10))) hx hb hr (fun t ht hW => ⟨(nI (N 0 i 10)), rfl, rfl, ht⟩) (fun _ h => by cases h) dX3_item_34
end
section
set_option maxHeartbeats 4000000 in
set_option maxRecDepth 100000 in
theorem c_greatestTop (l : Launch) (D : zG) (sz : Nat) (B : qB) (R : qR0) (N : qN0) (hO : qOK B N) (hM : qM N) : Met l yX3_greatestTop wsX3_greatestTop ({ frames := 1, cells := 0, slots := 0, locals := 22 }) (zPc D (qT B) (qG B R N) sz [.ref (qA B 5 0)]) (vp_Si (fun r => r = nI (qmx (fun i => N 0 i 9) (N 4 1 5)))) 0 0 (fun _ => False) := by
  refine Met.ofW (cc := cX3_greatestTop) (maxL := 4) (ret := (some .int)) (by decide) rfl ?_
  intro p e s m args below meth c s₁ B9 hml hv
  obtain ⟨rfl, hsz, hP, hK, hD0⟩ := hv
  have hx := B9.exec
  have hb := B9.bytes
  have hr := B9.returns
  have hts := atoms_spec (ws := wsX3_greatestTop) B9.pre
  have hown : s.vm.findClass RX3 = some m.cls := findClass_of_methodNamed B9.named
  have hlocks := B9.notSynchronized
  subst hsz
  have hD := hD0
  generalize hAe : (fun _ : Nat => True) = A at hD
  have hl := lv_entry ([.ref (qA B 5 0)]) (n := 4) (Nat.le_of_ble_eq_true rfl)
  rw [lg_entry_eq]
  generalize (lg_sl ([.ref (qA B 5 0)]) ++ List.replicate (4 - (lg_sl ([.ref (qA B 5 0)])).length) Slot.unset).toArray = ls at hl ⊢
  have hl : lv_has ls 4 [(0, .ref (qA B 5 0))] := hl
  have hP : va_P D vwCl (qG B R N) s.heap := hP
  generalize hRe : (headSpec _ _).room = R9
  have hRf : R9.frames = 1 := by rw [← hRe]; rfl
  have hRc : R9.cells = 0 := by rw [← hRe]; rfl
  have hRs : R9.slots = 0 := by rw [← hRe]; rfl
  have hRl : R9.locals = 22 := by rw [← hRe]; rfl
  clear hRe
  have o8 := hO.2.2.2.2.2.2.2.1
  refine lv_iconst (v := 0) hx hb dX3_greatestTop_0 (by decide) ?_
  refine lv_istore_n (lv' := [(1, .int 0), (0, .ref (qA B 5 0))]) hx hb dX3_greatestTop_1 rfl hl (by decide) rfl (fun ls hl => ?_)
  refine lv_iconst (v := 0) hx hb dX3_greatestTop_2 (by decide) ?_
  refine lv_istore_n (lv' := [(2, .int 0), (1, .int 0), (0, .ref (qA B 5 0))]) hx hb dX3_greatestTop_3 rfl hl (by decide) rfl (fun ls hl => ?_)
  generalize hQe : MQ _ _ _ _ _ _ _ = Q
  have loop : ∀ (k i : Nat), i + k = N 4 1 5 → ∀ (ls : Array Slot), lv_has ls 4 [(2, .int (nI i)), (1, .int (nI (qmx (fun i => N 0 i 9) i))), (0, .ref (qA B 5 0))] → W p l e R9 s m ([.ref (qA B 5 0)] : List Value).toArray below meth c s.heap [] 0 0 Q (F0 m 4 ls []) := by
    intro k
    induction k with
    | zero =>
      intro i hi ls hl
      obtain rfl : N 4 1 5 = i := by omega
      refine lv_iload_n hx hb dX3_greatestTop_4 rfl (lv_at hl 0 rfl) ?_
      refine lv_aload_n hx hb dX3_greatestTop_5 rfl (lv_at hl 2 rfl) ?_
      refine va_get (D := D) (ci := 3) (v := .int (nI (N 4 1 5))) (C := RX3) (T := TX3) (N := 14) hx hb hts (fun _ h9 => List.mem_cons_of_mem _ (List.mem_append_left _ (List.mem_append_right _ h9))) hown hK hP 0 rfl rfl 7 (by decide) (hts (.fieldLink RX3 38 "PalletStack" "cameCount" "I") (List.mem_of_getElem? (i := 1) (by rfl))) (fun _ h9 => h9) rfl dX3_greatestTop_6 ?_
      refine lv_icmp_ge (tgt := 41) hx hb dX3_greatestTop_9 (by decide) (fun c_1 => ?_) (fun c_1 => absurd (Int32.le_refl _) c_1)
      refine lv_iload_n hx hb dX3_greatestTop_41 rfl (lv_at hl 1 rfl) ?_
      rw [← hQe]
      exact W.iret (v := (nI (qmx (fun i => N 0 i 9) (N 4 1 5)))) hx hb hr (fun t ht hW => ⟨(nI (qmx (fun i => N 0 i 9) (N 4 1 5))), rfl, rfl, ht⟩) (fun _ h => by cases h) dX3_greatestTop_42
    | succ k ih =>
      intro i hi ls hl
      have hb9 := hM 0 i 9
      have hmx : qmx (fun i => N 0 i 9) i ≤ 1000000 := qmx_le (fun j _ => hM 0 j 9)
      refine lv_iload_n hx hb dX3_greatestTop_4 rfl (lv_at hl 0 rfl) ?_
      refine lv_aload_n hx hb dX3_greatestTop_5 rfl (lv_at hl 2 rfl) ?_
      refine va_get (D := D) (ci := 3) (v := .int (nI (N 4 1 5))) (C := RX3) (T := TX3) (N := 14) hx hb hts (fun _ h9 => List.mem_cons_of_mem _ (List.mem_append_left _ (List.mem_append_right _ h9))) hown hK hP 0 rfl rfl 7 (by decide) (hts (.fieldLink RX3 38 "PalletStack" "cameCount" "I") (List.mem_of_getElem? (i := 1) (by rfl))) (fun _ h9 => h9) rfl dX3_greatestTop_6 ?_
      refine lv_icmp_ge (tgt := 41) hx hb dX3_greatestTop_9 (by decide) (fun c_2 => absurd c_2 (nI_ge (by omega) (by omega))) (fun c_2 => ?_)
      refine lv_aload_n hx hb dX3_greatestTop_12 rfl (lv_at hl 2 rfl) ?_
      refine lv_iload_n hx hb dX3_greatestTop_13 rfl (lv_at hl 0 rfl) ?_
      refine zrdVq2 (As := [.int (nI i)]) (rest := []) (wc := qG B R N) ⟨hx, hb, hml, hown, hts⟩ (c_itemOf l D _ B R N i (by omega) hO) (cwV 1 hts gX3_greatestTop_X3_itemOf rfl rfl rfl (by decide +kernel) ⟨by rw [hRf]; exact Nat.le_of_ble_eq_true rfl, by rw [hRl]; exact Nat.le_of_ble_eq_true rfl⟩) hK hP hD [0, 1, 2, 3] rfl (ci := 3) (q0 := 0) rfl rfl rfl hl.1 rfl (Nat.le_of_ble_eq_true rfl) dX3_greatestTop_14 ⟨by omega, by omega⟩ (fun r_3 hr_3 => ?_)
      refine W.eq (g2 := F0 m 17 ls [.ref (qA B 0 i)]) (by rw [hr_3]; rfl) ?_
      refine lv_astore_n (lv' := [(3, .ref (qA B 0 i)), (2, .int (nI i)), (1, .int (nI (qmx (fun i => N 0 i 9) i))), (0, .ref (qA B 5 0))]) hx hb dX3_greatestTop_17 rfl hl (by decide) rfl (fun ls hl => ?_)
      refine lv_aload_n hx hb dX3_greatestTop_18 rfl (lv_at hl 0 rfl) ?_
      refine lv_ifnull hx hb dX3_greatestTop_19 ?_
      refine lv_aload_n hx hb dX3_greatestTop_22 rfl (lv_at hl 0 rfl) ?_
      refine va_get (D := D) (ci := 0) (v := .int (nI (N 0 i 9))) (C := RX0) (T := TX0) (N := 18) hx hb hts (fun _ h9 => List.mem_cons_of_mem _ (List.mem_append_right _ h9)) hown hK hP (5 + i) (qG_i (by omega)) rfl 9 (by decide) (hts (.fieldLink RX3 134 "PalletStack$Item" "top" "I") (List.mem_of_getElem? (i := 2) (by rfl))) (fun _ h9 => h9) rfl dX3_greatestTop_23 ?_
      refine lv_iload_n hx hb dX3_greatestTop_26 rfl (lv_at hl 2 rfl) ?_
      refine lv_icmp_le (tgt := 35) hx hb dX3_greatestTop_27 (by decide) (fun c_5 => ?_) (fun c_5 => ?_)
      · have h_b := True.intro
        have k_6 : (N 0 i 9) ≤ (qmx (fun i => N 0 i 9) i) := (nI_leI (a := (N 0 i 9)) (b := (qmx (fun i => N 0 i 9) i)) (by omega) (by omega)).mp c_5
        refine lv_iinc (v := (nI (i + 1))) (lv' := [(2, .int (nI (i + 1))), (3, .ref (qA B 0 i)), (1, .int (nI (qmx (fun i => N 0 i 9) i))), (0, .ref (qA B 5 0))]) hx hb dX3_greatestTop_35 hl (k := 1) rfl (nI_1 i) (by decide) rfl (fun ls hl => ?_)
        refine lv_goto (tgt := 4) hx hb dX3_greatestTop_38 (by decide) ?_
        have hl := lv_sub hl (l' := [(2, .int (nI (i + 1))), (1, .int (nI (qmx (fun i => N 0 i 9) i))), (0, .ref (qA B 5 0))]) [0, 2, 3] rfl
        have hm2 : qmx (fun i => N 0 i 9) (i + 1) = qmx (fun i => N 0 i 9) i := by simp only [qmx]; omega
        refine ih (i + 1) (by omega) ls (by rw [hm2]; exact hl)
      · have h_b := True.intro
        have k_7 : ¬ ((N 0 i 9) ≤ (qmx (fun i => N 0 i 9) i)) := fun h9 => c_5 ((nI_leI (a := (N 0 i 9)) (b := (qmx (fun i => N 0 i 9) i)) (by omega) (by omega)).mpr h9)
        refine lv_aload_n hx hb dX3_greatestTop_30 rfl (lv_at hl 0 rfl) ?_
        refine va_get (D := D) (ci := 0) (v := .int (nI (N 0 i 9))) (C := RX0) (T := TX0) (N := 18) hx hb hts (fun _ h9 => List.mem_cons_of_mem _ (List.mem_append_right _ h9)) hown hK hP (5 + i) (qG_i (by omega)) rfl 9 (by decide) (hts (.fieldLink RX3 134 "PalletStack$Item" "top" "I") (List.mem_of_getElem? (i := 2) (by rfl))) (fun _ h9 => h9) rfl dX3_greatestTop_31 ?_
        refine lv_istore_n (lv' := [(1, .int (nI (N 0 i 9))), (3, .ref (qA B 0 i)), (2, .int (nI i)), (0, .ref (qA B 5 0))]) hx hb dX3_greatestTop_34 rfl hl (by decide) rfl (fun ls hl => ?_)
        refine lv_iinc (v := (nI (i + 1))) (lv' := [(2, .int (nI (i + 1))), (1, .int (nI (N 0 i 9))), (3, .ref (qA B 0 i)), (0, .ref (qA B 5 0))]) hx hb dX3_greatestTop_35 hl (k := 2) rfl (nI_1 i) (by decide) rfl (fun ls hl => ?_)
        refine lv_goto (tgt := 4) hx hb dX3_greatestTop_38 (by decide) ?_
        have hl := lv_sub hl (l' := [(2, .int (nI (i + 1))), (1, .int (nI (N 0 i 9))), (0, .ref (qA B 5 0))]) [0, 1, 3] rfl
        have hm2 : qmx (fun i => N 0 i 9) (i + 1) = N 0 i 9 := by simp only [qmx]; omega
        refine ih (i + 1) (by omega) ls (by rw [hm2]; exact hl)
  exact loop (N 4 1 5) 0 (by omega) ls hl
set_option maxHeartbeats 4000000 in
set_option maxRecDepth 100000 in
theorem c_sumOf_0 (l : Launch) (D : zG) (sz : Nat) (B : qB) (R : qR0) (N : qN0)  : Met l yX3_sumOf wsX3_sumOf ({ frames := 2, cells := 0, slots := 0, locals := 45 }) (zPc D (qT B) (qG B R N) sz [.ref (qA B 5 0), .int 0]) (vp_Si (fun r => r = nI (N 4 1 7))) 0 0 (fun _ => False) := by
  refine Met.ofW (cc := cX3_sumOf) (maxL := 2) (ret := (some .int)) (by decide) rfl ?_
  intro p e s m args below meth c s₁ B9 hml hv
  obtain ⟨rfl, hsz, hP, hK, hD0⟩ := hv
  have hx := B9.exec
  have hb := B9.bytes
  have hr := B9.returns
  have hts := atoms_spec (ws := wsX3_sumOf) B9.pre
  have hown : s.vm.findClass RX3 = some m.cls := findClass_of_methodNamed B9.named
  have hlocks := B9.notSynchronized
  subst hsz
  have hD := hD0
  generalize hAe : (fun _ : Nat => True) = A at hD
  have hl := lv_entry ([.ref (qA B 5 0), .int 0]) (n := 2) (Nat.le_of_ble_eq_true rfl)
  rw [lg_entry_eq]
  generalize (lg_sl ([.ref (qA B 5 0), .int 0]) ++ List.replicate (2 - (lg_sl ([.ref (qA B 5 0), .int 0])).length) Slot.unset).toArray = ls at hl ⊢
  have hl : lv_has ls 2 [(0, .ref (qA B 5 0)), (1, .int 0)] := hl
  have hP : va_P D vwCl (qG B R N) s.heap := hP
  generalize hRe : (headSpec _ _).room = R9
  have hRf : R9.frames = 2 := by rw [← hRe]; rfl
  have hRc : R9.cells = 0 := by rw [← hRe]; rfl
  have hRs : R9.slots = 0 := by rw [← hRe]; rfl
  have hRl : R9.locals = 45 := by rw [← hRe]; rfl
  clear hRe
  refine lv_iload_n hx hb dX3_sumOf_0 rfl (lv_at hl 1 rfl) ?_
  refine lv_tableIn (off := 27) (tgt := 28) hx hb dX3_sumOf_1 (by decide) (by decide) (by decide) (by decide) ?_
  refine lv_aload_n hx hb dX3_sumOf_28 rfl (lv_at hl 0 rfl) ?_
  refine va_get (D := D) (ci := 3) (v := .int (nI (N 4 1 7))) (C := RX3) (T := TX3) (N := 14) hx hb hts (fun _ h9 => List.mem_cons_of_mem _ (List.mem_append_left _ (List.mem_append_right _ h9))) hown hK hP 0 rfl rfl 9 (by decide) (hts (.fieldLink RX3 44 "PalletStack" "weightOnPallet" "I") (List.mem_of_getElem? (i := 1) (by rfl))) (fun _ h9 => h9) rfl dX3_sumOf_29 ?_
  exact W.iret (v := (nI (N 4 1 7))) hx hb hr (fun t ht hW => ⟨(nI (N 4 1 7)), rfl, rfl, ht⟩) (fun _ h => by cases h) dX3_sumOf_32
set_option maxHeartbeats 4000000 in
set_option maxRecDepth 100000 in
theorem c_sum_0 (l : Launch) (D : zG) (sz : Nat) (B : qB) (R : qR0) (N : qN0)  : Met l yX3_sum wsX3_sum ({ frames := 3, cells := 0, slots := 0, locals := 75 }) (zPc D (qT B) (qG B R N) sz [.ref (qA B 5 0), .int 0]) (vp_Si (fun r => r = nI (N 4 1 7))) 0 0 (fun _ => False) := by
  refine Met.ofW (cc := cX3_sum) (maxL := 2) (ret := (some .int)) (by decide) rfl ?_
  intro p e s m args below meth c s₁ B9 hml hv
  obtain ⟨rfl, hsz, hP, hK, hD0⟩ := hv
  have hx := B9.exec
  have hb := B9.bytes
  have hr := B9.returns
  have hts := atoms_spec (ws := wsX3_sum) B9.pre
  have hown : s.vm.findClass RX3 = some m.cls := findClass_of_methodNamed B9.named
  have hlocks := B9.notSynchronized
  subst hsz
  have hD := hD0
  generalize hAe : (fun _ : Nat => True) = A at hD
  have hl := lv_entry ([.ref (qA B 5 0), .int 0]) (n := 2) (Nat.le_of_ble_eq_true rfl)
  rw [lg_entry_eq]
  generalize (lg_sl ([.ref (qA B 5 0), .int 0]) ++ List.replicate (2 - (lg_sl ([.ref (qA B 5 0), .int 0])).length) Slot.unset).toArray = ls at hl ⊢
  have hl : lv_has ls 2 [(0, .ref (qA B 5 0)), (1, .int 0)] := hl
  have hP : va_P D vwCl (qG B R N) s.heap := hP
  generalize hRe : (headSpec _ _).room = R9
  have hRf : R9.frames = 3 := by rw [← hRe]; rfl
  have hRc : R9.cells = 0 := by rw [← hRe]; rfl
  have hRs : R9.slots = 0 := by rw [← hRe]; rfl
  have hRl : R9.locals = 75 := by rw [← hRe]; rfl
  clear hRe
  refine lv_iload_n hx hb dX3_sum_0 rfl (lv_at hl 1 rfl) ?_
  refine lv_iconst (v := 0) hx hb dX3_sum_1 (by decide) ?_
  refine lv_iconst (v := 3) hx hb dX3_sum_2 (by decide) ?_
  refine zrdS (As := [.int 0, .int 0, .int 3]) (rest := []) (wc := []) ⟨hx, hb, hml, hown, hts⟩ (c_isWithin l D _ 0 0 3) (va_cwS 3 hts gX3_sum_X3_isWithin rfl rfl rfl (by decide +kernel) ⟨by rw [hRf]; exact Nat.le_of_ble_eq_true rfl, by rw [hRl]; exact Nat.le_of_ble_eq_true rfl⟩) hK hP hD [] rfl (by decide) [] rfl rfl hl.1 rfl (Nat.le_of_ble_eq_true rfl) dX3_sum_3 ⟨by omega, by omega⟩ (fun r_8 hr_8 => ?_)
  refine lv_topi (fun v_9 ev_9 => ?_)
  obtain rfl : v_9 = 1 := ev_9.trans (hr_8.trans (by decide))
  refine lv_if_ne (tgt := 17) hx hb dX3_sum_6 (by decide) (fun c_10 => ?_) (fun c_10 => absurd c_10 (by decide))
  refine lv_aload_n hx hb dX3_sum_17 rfl (lv_at hl 0 rfl) ?_
  refine lv_iload_n hx hb dX3_sum_18 rfl (lv_at hl 1 rfl) ?_
  refine zrdV2 (As := [.int 0]) (rest := []) (wc := qG B R N) ⟨hx, hb, hml, hown, hts⟩ (c_sumOf_0 l D _ B R N) (cwV 1 hts gX3_sum_X3_sumOf rfl rfl rfl (by decide +kernel) ⟨by rw [hRf]; exact Nat.le_of_ble_eq_true rfl, by rw [hRl]; exact Nat.le_of_ble_eq_true rfl⟩) hK hP hD [0, 1, 2, 3] rfl (ci := 3) (q0 := 0) rfl rfl rfl hl.1 rfl (Nat.le_of_ble_eq_true rfl) dX3_sum_19 ⟨by omega, by omega⟩ (fun r_11 hr_11 => ?_)
  refine lv_topi (fun v_12 ev_12 => ?_)
  obtain rfl : v_12 = (nI (N 4 1 7)) := ev_12.trans hr_11
  exact W.iret (v := (nI (N 4 1 7))) hx hb hr (fun t ht hW => ⟨(nI (N 4 1 7)), rfl, rfl, ht⟩) (fun _ h => by cases h) dX3_sum_22
set_option maxHeartbeats 4000000 in
set_option maxRecDepth 100000 in
theorem c_sumOf_1 (l : Launch) (D : zG) (sz : Nat) (B : qB) (R : qR0) (N : qN0) (hO : qOK B N) (hM : qM N) : Met l yX3_sumOf wsX3_sumOf ({ frames := 2, cells := 0, slots := 0, locals := 45 }) (zPc D (qT B) (qG B R N) sz [.ref (qA B 5 0), .int 1]) (vp_Si (fun r => r = nI (qmx (fun i => N 0 i 9) (N 4 1 5)))) 0 0 (fun _ => False) := by
  refine Met.ofW (cc := cX3_sumOf) (maxL := 2) (ret := (some .int)) (by decide) rfl ?_
  intro p e s m args below meth c s₁ B9 hml hv
  obtain ⟨rfl, hsz, hP, hK, hD0⟩ := hv
  have hx := B9.exec
  have hb := B9.bytes
  have hr := B9.returns
  have hts := atoms_spec (ws := wsX3_sumOf) B9.pre
  have hown : s.vm.findClass RX3 = some m.cls := findClass_of_methodNamed B9.named
  have hlocks := B9.notSynchronized
  subst hsz
  have hD := hD0
  generalize hAe : (fun _ : Nat => True) = A at hD
  have hl := lv_entry ([.ref (qA B 5 0), .int 1]) (n := 2) (Nat.le_of_ble_eq_true rfl)
  rw [lg_entry_eq]
  generalize (lg_sl ([.ref (qA B 5 0), .int 1]) ++ List.replicate (2 - (lg_sl ([.ref (qA B 5 0), .int 1])).length) Slot.unset).toArray = ls at hl ⊢
  have hl : lv_has ls 2 [(0, .ref (qA B 5 0)), (1, .int 1)] := hl
  have hP : va_P D vwCl (qG B R N) s.heap := hP
  generalize hRe : (headSpec _ _).room = R9
  have hRf : R9.frames = 2 := by rw [← hRe]; rfl
  have hRc : R9.cells = 0 := by rw [← hRe]; rfl
  have hRs : R9.slots = 0 := by rw [← hRe]; rfl
  have hRl : R9.locals = 45 := by rw [← hRe]; rfl
  clear hRe
  refine lv_iload_n hx hb dX3_sumOf_0 rfl (lv_at hl 1 rfl) ?_
  refine lv_tableIn (off := 32) (tgt := 33) hx hb dX3_sumOf_1 (by decide) (by decide) (by decide) (by decide) ?_
  refine lv_aload_n hx hb dX3_sumOf_33 rfl (lv_at hl 0 rfl) ?_
  refine zrdV2 (As := []) (rest := []) (wc := qG B R N) ⟨hx, hb, hml, hown, hts⟩ (c_greatestTop l D _ B R N hO hM) (cwV 0 hts gX3_sumOf_X3_greatestTop rfl rfl rfl (by decide +kernel) ⟨by rw [hRf]; exact Nat.le_of_ble_eq_true rfl, by rw [hRl]; exact Nat.le_of_ble_eq_true rfl⟩) hK hP hD [0, 1, 2, 3] rfl (ci := 3) (q0 := 0) rfl rfl rfl hl.1 rfl (Nat.le_of_ble_eq_true rfl) dX3_sumOf_34 ⟨by omega, by omega⟩ (fun r_13 hr_13 => ?_)
  refine lv_topi (fun v_14 ev_14 => ?_)
  obtain rfl : v_14 = (nI (qmx (fun i => N 0 i 9) (N 4 1 5))) := ev_14.trans hr_13
  exact W.iret (v := (nI (qmx (fun i => N 0 i 9) (N 4 1 5)))) hx hb hr (fun t ht hW => ⟨(nI (qmx (fun i => N 0 i 9) (N 4 1 5))), rfl, rfl, ht⟩) (fun _ h => by cases h) dX3_sumOf_37
set_option maxHeartbeats 4000000 in
set_option maxRecDepth 100000 in
theorem c_sum_1 (l : Launch) (D : zG) (sz : Nat) (B : qB) (R : qR0) (N : qN0) (hO : qOK B N) (hM : qM N) : Met l yX3_sum wsX3_sum ({ frames := 3, cells := 0, slots := 0, locals := 75 }) (zPc D (qT B) (qG B R N) sz [.ref (qA B 5 0), .int 1]) (vp_Si (fun r => r = nI (qmx (fun i => N 0 i 9) (N 4 1 5)))) 0 0 (fun _ => False) := by
  refine Met.ofW (cc := cX3_sum) (maxL := 2) (ret := (some .int)) (by decide) rfl ?_
  intro p e s m args below meth c s₁ B9 hml hv
  obtain ⟨rfl, hsz, hP, hK, hD0⟩ := hv
  have hx := B9.exec
  have hb := B9.bytes
  have hr := B9.returns
  have hts := atoms_spec (ws := wsX3_sum) B9.pre
  have hown : s.vm.findClass RX3 = some m.cls := findClass_of_methodNamed B9.named
  have hlocks := B9.notSynchronized
  subst hsz
  have hD := hD0
  generalize hAe : (fun _ : Nat => True) = A at hD
  have hl := lv_entry ([.ref (qA B 5 0), .int 1]) (n := 2) (Nat.le_of_ble_eq_true rfl)
  rw [lg_entry_eq]
  generalize (lg_sl ([.ref (qA B 5 0), .int 1]) ++ List.replicate (2 - (lg_sl ([.ref (qA B 5 0), .int 1])).length) Slot.unset).toArray = ls at hl ⊢
  have hl : lv_has ls 2 [(0, .ref (qA B 5 0)), (1, .int 1)] := hl
  have hP : va_P D vwCl (qG B R N) s.heap := hP
  generalize hRe : (headSpec _ _).room = R9
  have hRf : R9.frames = 3 := by rw [← hRe]; rfl
  have hRc : R9.cells = 0 := by rw [← hRe]; rfl
  have hRs : R9.slots = 0 := by rw [← hRe]; rfl
  have hRl : R9.locals = 75 := by rw [← hRe]; rfl
  clear hRe
  refine lv_iload_n hx hb dX3_sum_0 rfl (lv_at hl 1 rfl) ?_
  refine lv_iconst (v := 0) hx hb dX3_sum_1 (by decide) ?_
  refine lv_iconst (v := 3) hx hb dX3_sum_2 (by decide) ?_
  refine zrdS (As := [.int 1, .int 0, .int 3]) (rest := []) (wc := []) ⟨hx, hb, hml, hown, hts⟩ (c_isWithin l D _ 1 0 3) (va_cwS 3 hts gX3_sum_X3_isWithin rfl rfl rfl (by decide +kernel) ⟨by rw [hRf]; exact Nat.le_of_ble_eq_true rfl, by rw [hRl]; exact Nat.le_of_ble_eq_true rfl⟩) hK hP hD [] rfl (by decide) [] rfl rfl hl.1 rfl (Nat.le_of_ble_eq_true rfl) dX3_sum_3 ⟨by omega, by omega⟩ (fun r_15 hr_15 => ?_)
  refine lv_topi (fun v_16 ev_16 => ?_)
  obtain rfl : v_16 = 1 := ev_16.trans (hr_15.trans (by decide))
  refine lv_if_ne (tgt := 17) hx hb dX3_sum_6 (by decide) (fun c_17 => ?_) (fun c_17 => absurd c_17 (by decide))
  refine lv_aload_n hx hb dX3_sum_17 rfl (lv_at hl 0 rfl) ?_
  refine lv_iload_n hx hb dX3_sum_18 rfl (lv_at hl 1 rfl) ?_
  refine zrdV2 (As := [.int 1]) (rest := []) (wc := qG B R N) ⟨hx, hb, hml, hown, hts⟩ (c_sumOf_1 l D _ B R N hO hM) (cwV 1 hts gX3_sum_X3_sumOf rfl rfl rfl (by decide +kernel) ⟨by rw [hRf]; exact Nat.le_of_ble_eq_true rfl, by rw [hRl]; exact Nat.le_of_ble_eq_true rfl⟩) hK hP hD [0, 1, 2, 3] rfl (ci := 3) (q0 := 0) rfl rfl rfl hl.1 rfl (Nat.le_of_ble_eq_true rfl) dX3_sum_19 ⟨by omega, by omega⟩ (fun r_18 hr_18 => ?_)
  refine lv_topi (fun v_19 ev_19 => ?_)
  obtain rfl : v_19 = (nI (qmx (fun i => N 0 i 9) (N 4 1 5))) := ev_19.trans hr_18
  exact W.iret (v := (nI (qmx (fun i => N 0 i 9) (N 4 1 5)))) hx hb hr (fun t ht hW => ⟨(nI (qmx (fun i => N 0 i 9) (N 4 1 5))), rfl, rfl, ht⟩) (fun _ h => by cases h) dX3_sum_22
set_option maxHeartbeats 4000000 in
set_option maxRecDepth 100000 in
theorem c_at (l : Launch) (D : zG) (sz : Nat) (B : qB) (R : qR0) (N : qN0) (hO : qOK B N) (hM : qM N) (a b c1 t : Nat) (ha : a < 12) (hb2 : b < 10) (hc1 : c1 < 40) (ht : t < N 4 1 5) (h1 : qcov (N 0 t 6) (N 0 t 4) (N 0 t 7) (N 0 t 5) a b = true) (h2 : N 0 t 8 ≤ c1) (h3 : c1 < N 0 t 9) (hno : ∀ k, k < t → qcov (N 0 k 6) (N 0 k 4) (N 0 k 7) (N 0 k 5) a b = true → c1 < N 0 k 8 ∨ N 0 k 9 ≤ c1) : Met l yX3_at wsX3_at ({ frames := 2, cells := 0, slots := 0, locals := 45 }) (zPc D (qT B) (qG B R N) sz [.ref (qA B 5 0), .int (nI a), .int (nI b), .int (nI c1)]) (vp_Si (fun r => r = nI t)) 0 0 (fun _ => False) := by
  refine Met.ofW (cc := cX3_at) (maxL := 6) (ret := (some .int)) (by decide) rfl ?_
  intro p e s m args below meth c s₁ B9 hml hv
  obtain ⟨rfl, hsz, hP, hK, hD0⟩ := hv
  have hx := B9.exec
  have hb := B9.bytes
  have hr := B9.returns
  have hts := atoms_spec (ws := wsX3_at) B9.pre
  have hown : s.vm.findClass RX3 = some m.cls := findClass_of_methodNamed B9.named
  have hlocks := B9.notSynchronized
  subst hsz
  have hD := hD0
  generalize hAe : (fun _ : Nat => True) = A at hD
  have hl := lv_entry ([.ref (qA B 5 0), .int (nI a), .int (nI b), .int (nI c1)]) (n := 6) (Nat.le_of_ble_eq_true rfl)
  rw [lg_entry_eq]
  generalize (lg_sl ([.ref (qA B 5 0), .int (nI a), .int (nI b), .int (nI c1)]) ++ List.replicate (6 - (lg_sl ([.ref (qA B 5 0), .int (nI a), .int (nI b), .int (nI c1)])).length) Slot.unset).toArray = ls at hl ⊢
  have hl : lv_has ls 6 [(0, .ref (qA B 5 0)), (1, .int (nI a)), (2, .int (nI b)), (3, .int (nI c1))] := hl
  have hP : va_P D vwCl (qG B R N) s.heap := hP
  generalize hRe : (headSpec _ _).room = R9
  have hRf : R9.frames = 2 := by rw [← hRe]; rfl
  have hRc : R9.cells = 0 := by rw [← hRe]; rfl
  have hRs : R9.slots = 0 := by rw [← hRe]; rfl
  have hRl : R9.locals = 45 := by rw [← hRe]; rfl
  clear hRe
  have o8 := hO.2.2.2.2.2.2.2.1
  refine lv_iload_n hx hb dX3_at_0 rfl (lv_at hl 1 rfl) ?_
  refine lv_iload_n hx hb dX3_at_1 rfl (lv_at hl 2 rfl) ?_
  refine zrdS (As := [.int (nI a), .int (nI b)]) (rest := []) (wc := []) ⟨hx, hb, hml, hown, hts⟩ (c_isCell l D _ (nI a) (nI b)) (va_cwS 2 hts gX3_at_X3_isCell rfl rfl rfl (by decide +kernel) ⟨by rw [hRf]; exact Nat.le_of_ble_eq_true rfl, by rw [hRl]; exact Nat.le_of_ble_eq_true rfl⟩) hK hP hD [] rfl (by decide) [] rfl rfl hl.1 rfl (Nat.le_of_ble_eq_true rfl) dX3_at_2 ⟨by omega, by omega⟩ (fun r_20 hr_20 => ?_)
  refine lv_topi (fun v_21 ev_21 => ?_)
  obtain rfl : v_21 = 1 := ev_21.trans (hr_20.trans (if_pos ⟨⟨nI_pos' (by omega), (nI_leI (b := 11) (by omega) (by decide)).mpr (by omega)⟩, nI_pos' (by omega), (nI_leI (b := 9) (by omega) (by decide)).mpr (by omega)⟩))
  refine lv_if_eq (tgt := 18) hx hb dX3_at_5 (by decide) (fun c_22 => absurd c_22 (by decide)) (fun c_22 => ?_)
  refine lv_iload_n hx hb dX3_at_8 rfl (lv_at hl 3 rfl) ?_
  refine lv_iconst (v := 0) hx hb dX3_at_9 (by decide) ?_
  refine lv_bipush (v := 39) hx hb dX3_at_10 (by decide) ?_
  refine zrdS (As := [.int (nI c1), .int 0, .int 39]) (rest := []) (wc := []) ⟨hx, hb, hml, hown, hts⟩ (c_isWithin l D _ (nI c1) 0 39) (va_cwS 3 hts gX3_at_X3_isWithin rfl rfl rfl (by decide +kernel) ⟨by rw [hRf]; exact Nat.le_of_ble_eq_true rfl, by rw [hRl]; exact Nat.le_of_ble_eq_true rfl⟩) hK hP hD [] rfl (by decide) [] rfl rfl hl.1 rfl (Nat.le_of_ble_eq_true rfl) dX3_at_12 ⟨by omega, by omega⟩ (fun r_23 hr_23 => ?_)
  refine lv_topi (fun v_24 ev_24 => ?_)
  obtain rfl : v_24 = 1 := ev_24.trans (hr_23.trans (if_pos ⟨nI_pos' (by omega), (nI_leI (b := 39) (by omega) (by decide)).mpr (by omega)⟩))
  refine lv_if_ne (tgt := 26) hx hb dX3_at_15 (by decide) (fun c_25 => ?_) (fun c_25 => absurd c_25 (by decide))
  refine lv_iconst (v := 0) hx hb dX3_at_26 (by decide) ?_
  refine lv_istore (lv' := [(4, .int 0), (0, .ref (qA B 5 0)), (1, .int (nI a)), (2, .int (nI b)), (3, .int (nI c1))]) hx hb dX3_at_27 hl (by decide) rfl (fun ls hl => ?_)
  generalize hQe : MQ _ _ _ _ _ _ _ = Q
  have loop : ∀ (k i : Nat), i + k = t → ∀ (ls : Array Slot), lv_has ls 6 [(4, .int (nI i)), (3, .int (nI c1)), (2, .int (nI b)), (1, .int (nI a)), (0, .ref (qA B 5 0))] → W p l e R9 s m ([.ref (qA B 5 0), .int (nI a), .int (nI b), .int (nI c1)] : List Value).toArray below meth c s.heap [] 0 0 Q (F0 m 29 ls []) := by
    intro k
    induction k with
    | zero =>
      intro i hi ls hl
      obtain rfl : t = i := by omega
      have b8 := hM 0 t 8
      have b9 := hM 0 t 9
      refine lv_iload hx hb dX3_at_29 (lv_at hl 0 rfl) ?_
      refine lv_aload_n hx hb dX3_at_31 rfl (lv_at hl 4 rfl) ?_
      refine va_get (D := D) (ci := 3) (v := .int (nI (N 4 1 5))) (C := RX3) (T := TX3) (N := 14) hx hb hts (fun _ h9 => List.mem_cons_of_mem _ (List.mem_append_left _ (List.mem_append_left _ (List.mem_append_right _ h9)))) hown hK hP 0 rfl rfl 7 (by decide) (hts (.fieldLink RX3 38 "PalletStack" "cameCount" "I") (List.mem_of_getElem? (i := 3) (by rfl))) (fun _ h9 => h9) rfl dX3_at_32 ?_
      refine lv_icmp_ge (tgt := 88) hx hb dX3_at_35 (by decide) (fun c_26 => absurd c_26 (nI_ge (by omega) (by omega))) (fun c_26 => ?_)
      refine lv_aload_n hx hb dX3_at_38 rfl (lv_at hl 4 rfl) ?_
      refine lv_iload hx hb dX3_at_39 (lv_at hl 0 rfl) ?_
      refine zrdVq2 (As := [.int (nI t)]) (rest := []) (wc := qG B R N) ⟨hx, hb, hml, hown, hts⟩ (c_itemOf l D _ B R N t (by omega) hO) (cwV 1 hts gX3_at_X3_itemOf rfl rfl rfl (by decide +kernel) ⟨by rw [hRf]; exact Nat.le_of_ble_eq_true rfl, by rw [hRl]; exact Nat.le_of_ble_eq_true rfl⟩) hK hP hD [0, 1, 2, 3] rfl (ci := 3) (q0 := 0) rfl rfl rfl hl.1 rfl (Nat.le_of_ble_eq_true rfl) dX3_at_41 ⟨by omega, by omega⟩ (fun r_27 hr_27 => ?_)
      refine W.eq (g2 := F0 m 44 ls [.ref (qA B 0 t)]) (by rw [hr_27]; rfl) ?_
      refine lv_astore (lv' := [(5, .ref (qA B 0 t)), (4, .int (nI t)), (3, .int (nI c1)), (2, .int (nI b)), (1, .int (nI a)), (0, .ref (qA B 5 0))]) hx hb dX3_at_44 hl (by decide) rfl (fun ls hl => ?_)
      refine lv_aload hx hb dX3_at_46 (lv_at hl 0 rfl) ?_
      refine lv_ifnull hx hb dX3_at_48 ?_
      refine lv_aload hx hb dX3_at_51 (lv_at hl 0 rfl) ?_
      refine lv_iload_n hx hb dX3_at_53 rfl (lv_at hl 4 rfl) ?_
      refine lv_iload_n hx hb dX3_at_54 rfl (lv_at hl 3 rfl) ?_
      refine zrdV2 (As := [.int (nI a), .int (nI b)]) (rest := []) (wc := qG B R N) ⟨hx, hb, hml, hown, hts⟩ (c_covers l D _ B R N t a b (by omega) hM (by omega) (by omega)) (cwV 2 hts gX3_at_X0_covers rfl rfl rfl (by decide +kernel) ⟨by rw [hRf]; exact Nat.le_of_ble_eq_true rfl, by rw [hRl]; exact Nat.le_of_ble_eq_true rfl⟩) hK hP hD [0, 1, 2, 3] rfl (ci := 0) (q0 := (5 + t)) rfl (qG_i (by omega)) rfl hl.1 rfl (Nat.le_of_ble_eq_true rfl) dX3_at_55 ⟨by omega, by omega⟩ (fun r_29 hr_29 => ?_)
      refine lv_topi (fun v_30 ev_30 => ?_)
      obtain rfl : v_30 = 1 := ev_30.trans (hr_29.trans (if_pos h1))
      refine lv_if_eq (tgt := 82) hx hb dX3_at_58 (by decide) (fun c_31 => absurd c_31 (by decide)) (fun c_31 => ?_)
      refine lv_aload hx hb dX3_at_61 (lv_at hl 0 rfl) ?_
      refine va_get (D := D) (ci := 0) (v := .int (nI (N 0 t 8))) (C := RX0) (T := TX0) (N := 18) hx hb hts (fun _ h9 => List.mem_cons_of_mem _ (List.mem_append_left _ (List.mem_append_right _ h9))) hown hK hP (5 + t) (qG_i (by omega)) rfl 8 (by decide) (hts (.fieldLink RX3 131 "PalletStack$Item" "bottom" "I") (List.mem_of_getElem? (i := 4) (by rfl))) (fun _ h9 => h9) rfl dX3_at_63 ?_
      refine lv_iload_n hx hb dX3_at_66 rfl (lv_at hl 2 rfl) ?_
      refine lv_icmp_gt (tgt := 82) hx hb dX3_at_67 (by decide) (fun c_32 => absurd c_32 (nI_nlt (by omega) (by omega))) (fun c_32 => ?_)
      refine lv_iload_n hx hb dX3_at_70 rfl (lv_at hl 2 rfl) ?_
      refine lv_aload hx hb dX3_at_71 (lv_at hl 0 rfl) ?_
      refine va_get (D := D) (ci := 0) (v := .int (nI (N 0 t 9))) (C := RX0) (T := TX0) (N := 18) hx hb hts (fun _ h9 => List.mem_cons_of_mem _ (List.mem_append_left _ (List.mem_append_right _ h9))) hown hK hP (5 + t) (qG_i (by omega)) rfl 9 (by decide) (hts (.fieldLink RX3 134 "PalletStack$Item" "top" "I") (List.mem_of_getElem? (i := 5) (by rfl))) (fun _ h9 => h9) rfl dX3_at_73 ?_
      refine lv_icmp_ge (tgt := 82) hx hb dX3_at_76 (by decide) (fun c_33 => absurd c_33 (nI_ge (by omega) (by omega))) (fun c_33 => ?_)
      refine lv_iload hx hb dX3_at_79 (lv_at hl 1 rfl) ?_
      rw [← hQe]
      exact W.iret (v := (nI t)) hx hb hr (fun t ht hW => ⟨(nI t), rfl, rfl, ht⟩) (fun _ h => by cases h) dX3_at_81
    | succ k ih =>
      intro i hi ls hl
      have b8 := hM 0 i 8
      have b9 := hM 0 i 9
      have hno := hno i (by omega)
      refine lv_iload hx hb dX3_at_29 (lv_at hl 0 rfl) ?_
      refine lv_aload_n hx hb dX3_at_31 rfl (lv_at hl 4 rfl) ?_
      refine va_get (D := D) (ci := 3) (v := .int (nI (N 4 1 5))) (C := RX3) (T := TX3) (N := 14) hx hb hts (fun _ h9 => List.mem_cons_of_mem _ (List.mem_append_left _ (List.mem_append_left _ (List.mem_append_right _ h9)))) hown hK hP 0 rfl rfl 7 (by decide) (hts (.fieldLink RX3 38 "PalletStack" "cameCount" "I") (List.mem_of_getElem? (i := 3) (by rfl))) (fun _ h9 => h9) rfl dX3_at_32 ?_
      refine lv_icmp_ge (tgt := 88) hx hb dX3_at_35 (by decide) (fun c_34 => absurd c_34 (nI_ge (by omega) (by omega))) (fun c_34 => ?_)
      refine lv_aload_n hx hb dX3_at_38 rfl (lv_at hl 4 rfl) ?_
      refine lv_iload hx hb dX3_at_39 (lv_at hl 0 rfl) ?_
      refine zrdVq2 (As := [.int (nI i)]) (rest := []) (wc := qG B R N) ⟨hx, hb, hml, hown, hts⟩ (c_itemOf l D _ B R N i (by omega) hO) (cwV 1 hts gX3_at_X3_itemOf rfl rfl rfl (by decide +kernel) ⟨by rw [hRf]; exact Nat.le_of_ble_eq_true rfl, by rw [hRl]; exact Nat.le_of_ble_eq_true rfl⟩) hK hP hD [0, 1, 2, 3] rfl (ci := 3) (q0 := 0) rfl rfl rfl hl.1 rfl (Nat.le_of_ble_eq_true rfl) dX3_at_41 ⟨by omega, by omega⟩ (fun r_35 hr_35 => ?_)
      refine W.eq (g2 := F0 m 44 ls [.ref (qA B 0 i)]) (by rw [hr_35]; rfl) ?_
      refine lv_astore (lv' := [(5, .ref (qA B 0 i)), (4, .int (nI i)), (3, .int (nI c1)), (2, .int (nI b)), (1, .int (nI a)), (0, .ref (qA B 5 0))]) hx hb dX3_at_44 hl (by decide) rfl (fun ls hl => ?_)
      refine lv_aload hx hb dX3_at_46 (lv_at hl 0 rfl) ?_
      refine lv_ifnull hx hb dX3_at_48 ?_
      refine lv_aload hx hb dX3_at_51 (lv_at hl 0 rfl) ?_
      refine lv_iload_n hx hb dX3_at_53 rfl (lv_at hl 4 rfl) ?_
      refine lv_iload_n hx hb dX3_at_54 rfl (lv_at hl 3 rfl) ?_
      refine zrdV2 (As := [.int (nI a), .int (nI b)]) (rest := []) (wc := qG B R N) ⟨hx, hb, hml, hown, hts⟩ (c_covers l D _ B R N i a b (by omega) hM (by omega) (by omega)) (cwV 2 hts gX3_at_X0_covers rfl rfl rfl (by decide +kernel) ⟨by rw [hRf]; exact Nat.le_of_ble_eq_true rfl, by rw [hRl]; exact Nat.le_of_ble_eq_true rfl⟩) hK hP hD [0, 1, 2, 3] rfl (ci := 0) (q0 := (5 + i)) rfl (qG_i (by omega)) rfl hl.1 rfl (Nat.le_of_ble_eq_true rfl) dX3_at_55 ⟨by omega, by omega⟩ (fun r_37 hr_37 => ?_)
      refine lv_if_eq (tgt := 82) hx hb dX3_at_58 (by decide) (fun c_38 => ?_) (fun c_38 => ?_)
      · have h_b := True.intro
        have k_39 : ¬ (qcov (N 0 i 6) (N 0 i 4) (N 0 i 7) (N 0 i 5) a b = true) := fun h9 => absurd ((hr_37.trans (if_pos h9)).symm.trans c_38) (by decide)
        refine lv_iinc (v := (nI (i + 1))) (lv' := [(4, .int (nI (i + 1))), (5, .ref (qA B 0 i)), (3, .int (nI c1)), (2, .int (nI b)), (1, .int (nI a)), (0, .ref (qA B 5 0))]) hx hb dX3_at_82 hl (k := 1) rfl (nI_1 i) (by decide) rfl (fun ls hl => ?_)
        refine lv_goto (tgt := 29) hx hb dX3_at_85 (by decide) ?_
        have hl := lv_sub hl (l' := [(4, .int (nI (i + 1))), (3, .int (nI c1)), (2, .int (nI b)), (1, .int (nI a)), (0, .ref (qA B 5 0))]) [0, 2, 3, 4, 5] rfl
        exact ih (i + 1) (by omega) ls hl
      · have h_b := True.intro
        have k_40 : qcov (N 0 i 6) (N 0 i 4) (N 0 i 7) (N 0 i 5) a b = true := Decidable.byContradiction fun h9 => absurd (hr_37.trans (if_neg h9)) c_38
        have hno := hno k_40
        refine lv_aload hx hb dX3_at_61 (lv_at hl 0 rfl) ?_
        refine va_get (D := D) (ci := 0) (v := .int (nI (N 0 i 8))) (C := RX0) (T := TX0) (N := 18) hx hb hts (fun _ h9 => List.mem_cons_of_mem _ (List.mem_append_left _ (List.mem_append_right _ h9))) hown hK hP (5 + i) (qG_i (by omega)) rfl 8 (by decide) (hts (.fieldLink RX3 131 "PalletStack$Item" "bottom" "I") (List.mem_of_getElem? (i := 4) (by rfl))) (fun _ h9 => h9) rfl dX3_at_63 ?_
        refine lv_iload_n hx hb dX3_at_66 rfl (lv_at hl 2 rfl) ?_
        refine lv_icmp_gt (tgt := 82) hx hb dX3_at_67 (by decide) (fun c_41 => ?_) (fun c_41 => ?_)
        · have h_b := True.intro
          have k_42 : c1 < (N 0 i 8) := (nI_ltI (a := c1) (b := (N 0 i 8)) (by omega) (by omega)).mp c_41
          refine lv_iinc (v := (nI (i + 1))) (lv' := [(4, .int (nI (i + 1))), (5, .ref (qA B 0 i)), (3, .int (nI c1)), (2, .int (nI b)), (1, .int (nI a)), (0, .ref (qA B 5 0))]) hx hb dX3_at_82 hl (k := 1) rfl (nI_1 i) (by decide) rfl (fun ls hl => ?_)
          refine lv_goto (tgt := 29) hx hb dX3_at_85 (by decide) ?_
          have hl := lv_sub hl (l' := [(4, .int (nI (i + 1))), (3, .int (nI c1)), (2, .int (nI b)), (1, .int (nI a)), (0, .ref (qA B 5 0))]) [0, 2, 3, 4, 5] rfl
          exact ih (i + 1) (by omega) ls hl
        · have h_b := True.intro
          have k_43 : ¬ (c1 < (N 0 i 8)) := fun h9 => c_41 ((nI_ltI (a := c1) (b := (N 0 i 8)) (by omega) (by omega)).mpr h9)
          refine lv_iload_n hx hb dX3_at_70 rfl (lv_at hl 2 rfl) ?_
          refine lv_aload hx hb dX3_at_71 (lv_at hl 0 rfl) ?_
          refine va_get (D := D) (ci := 0) (v := .int (nI (N 0 i 9))) (C := RX0) (T := TX0) (N := 18) hx hb hts (fun _ h9 => List.mem_cons_of_mem _ (List.mem_append_left _ (List.mem_append_right _ h9))) hown hK hP (5 + i) (qG_i (by omega)) rfl 9 (by decide) (hts (.fieldLink RX3 134 "PalletStack$Item" "top" "I") (List.mem_of_getElem? (i := 5) (by rfl))) (fun _ h9 => h9) rfl dX3_at_73 ?_
          refine lv_icmp_ge (tgt := 82) hx hb dX3_at_76 (by decide) (fun c_44 => ?_) (fun c_44 => ?_)
          · have h_b := True.intro
            have k_45 : (N 0 i 9) ≤ c1 := (nI_leI (a := (N 0 i 9)) (b := c1) (by omega) (by omega)).mp c_44
            refine lv_iinc (v := (nI (i + 1))) (lv' := [(4, .int (nI (i + 1))), (5, .ref (qA B 0 i)), (3, .int (nI c1)), (2, .int (nI b)), (1, .int (nI a)), (0, .ref (qA B 5 0))]) hx hb dX3_at_82 hl (k := 1) rfl (nI_1 i) (by decide) rfl (fun ls hl => ?_)
            refine lv_goto (tgt := 29) hx hb dX3_at_85 (by decide) ?_
            have hl := lv_sub hl (l' := [(4, .int (nI (i + 1))), (3, .int (nI c1)), (2, .int (nI b)), (1, .int (nI a)), (0, .ref (qA B 5 0))]) [0, 2, 3, 4, 5] rfl
            exact ih (i + 1) (by omega) ls hl
          · have h_b := True.intro
            have k_46 : ¬ ((N 0 i 9) ≤ c1) := fun h9 => c_44 ((nI_leI (a := (N 0 i 9)) (b := c1) (by omega) (by omega)).mpr h9)
            omega
  exact loop t 0 (by omega) ls hl
set_option maxHeartbeats 4000000 in
set_option maxRecDepth 100000 in
theorem c_forget (l : Launch) (D : zG) (sz : Nat) (B : qB) (R : qR0) (N : qN0) (hO : qOK B N) : Met l yX3_forgetNextLoads wsX3_forgetNextLoads ({ frames := 1, cells := 0, slots := 0, locals := 22 }) (zPc D (qT B) (qG B R N) sz [.ref (qA B 5 0)]) (va_Qv (fun (u : qN0) => u = qz N (N 4 1 5)) (zB D (va_A (qG B R N) sz) (fun _ => []) 0 (fun u => qG B R u)) (va_A (qG B R N) sz)) 0 0 (va_A (qG B R N) sz) := by
  refine Met.ofW (cc := cX3_forgetNextLoads) (maxL := 3) (ret := none) (by decide) rfl ?_
  intro p e s m args below meth c s₁ B9 hml hv
  obtain ⟨rfl, hsz, hP, hK, hD0⟩ := hv
  have hx := B9.exec
  have hb := B9.bytes
  have hr := B9.returns
  have hts := atoms_spec (ws := wsX3_forgetNextLoads) B9.pre
  have hown : s.vm.findClass RX3 = some m.cls := findClass_of_methodNamed B9.named
  have hlocks := B9.notSynchronized
  subst hsz
  have hD := hD0.self (sz := s.heap.size)
  generalize hAe : va_A (qG B R N) s.heap.size = A at hD ⊢
  have hA : ∀ q : Nat, s.heap.size ≤ q → A q := fun q h => by rw [← hAe]; exact Or.inr h
  have hS : va_S A s.heap s.heap [] := va_S.rf
  have hl := lv_entry ([.ref (qA B 5 0)]) (n := 3) (Nat.le_of_ble_eq_true rfl)
  rw [lg_entry_eq]
  generalize (lg_sl ([.ref (qA B 5 0)]) ++ List.replicate (3 - (lg_sl ([.ref (qA B 5 0)])).length) Slot.unset).toArray = ls at hl ⊢
  have hl : lv_has ls 3 [(0, .ref (qA B 5 0))] := hl
  have hP : va_P D vwCl (qG B R N) s.heap := hP
  generalize hRe : (headSpec _ _).room = R9
  have hRf : R9.frames = 1 := by rw [← hRe]; rfl
  have hRc : R9.cells = 0 := by rw [← hRe]; rfl
  have hRs : R9.slots = 0 := by rw [← hRe]; rfl
  have hRl : R9.locals = 22 := by rw [← hRe]; rfl
  clear hRe
  have o8 := hO.2.2.2.2.2.2.2.1
  refine lv_iconst (v := 0) hx hb dX3_forgetNextLoads_0 (by decide) ?_
  refine lv_istore_n (lv' := [(1, .int 0), (0, .ref (qA B 5 0))]) hx hb dX3_forgetNextLoads_1 rfl hl (by decide) rfl (fun ls hl => ?_)
  generalize hQe : MQ _ _ _ _ _ _ _ = Q
  have loop : ∀ (k i : Nat), i + k = N 4 1 5 → ∀ (N1 : qN0) (hN : N1 = qz N i) (H : Heap) (locs : List Loc) (ls : Array Slot), va_P D vwCl (qG B R N1) H → va_D A (qG B R N1) → va_S A s.heap H locs → lv_has ls 3 [(1, .int (nI i)), (0, .ref (qA B 5 0))] → W p l e R9 s m ([.ref (qA B 5 0)] : List Value).toArray below meth c H locs 0 0 Q (F0 m 2 ls []) := by
    intro k
    induction k with
    | zero =>
      intro i hi N1 hN H locs ls hP hD hS hl
      have e5 : N1 4 1 5 = N 4 1 5 := by rw [hN]; exact qz_ne _ _ (by omega)
      have hO1 : qOK B N1 := qOKs hO (fun j _ _ => by rw [hN]; exact qz_ne _ _ (by omega)) (fun j _ => by rw [hN]; exact qz_ne _ _ (by omega))
      obtain rfl : N 4 1 5 = i := by omega
      have hP : va_P D vwCl (qG B R N1) H := hP
      have hD : va_D A (qG B R N1) := hD
      refine lv_iload_n hx hb dX3_forgetNextLoads_2 rfl (lv_at hl 0 rfl) ?_
      refine lv_aload_n hx hb dX3_forgetNextLoads_3 rfl (lv_at hl 1 rfl) ?_
      refine va_get (D := D) (ci := 3) (v := .int (nI (N1 4 1 5))) (C := RX3) (T := TX3) (N := 14) hx hb hts (fun _ h9 => List.mem_cons_of_mem _ (List.mem_append_left _ (List.mem_append_right _ h9))) hown hK hP 0 rfl rfl 7 (by decide) (hts (.fieldLink RX3 38 "PalletStack" "cameCount" "I") (List.mem_of_getElem? (i := 1) (by rfl))) (fun _ h9 => h9) rfl dX3_forgetNextLoads_4 ?_
      refine lv_topi (fun v_47 ev_47 => ?_)
      obtain rfl : v_47 = (nI (N 4 1 5)) := ev_47.trans (by rw [e5])
      refine lv_icmp_ge (tgt := 31) hx hb dX3_forgetNextLoads_7 (by decide) (fun c_48 => ?_) (fun c_48 => absurd (Int32.le_refl _) c_48)
      rw [← hQe]
      exact W.vret hx hb hr (fun t ht hW => ⟨⟨N1, rfl, hN, ⟨Nat.zero_le _, by rw [ht]; exact hP, va_K.moved hW.alike (hK.sub (tys' := []) [] rfl), hD⟩⟩, hS.F ht⟩) hS.2.2 dX3_forgetNextLoads_31
    | succ k ih =>
      intro i hi N1 hN H locs ls hP hD hS hl
      have e5 : N1 4 1 5 = N 4 1 5 := by rw [hN]; exact qz_ne _ _ (by omega)
      have hO1 : qOK B N1 := qOKs hO (fun j _ _ => by rw [hN]; exact qz_ne _ _ (by omega)) (fun j _ => by rw [hN]; exact qz_ne _ _ (by omega))
      have hP : va_P D vwCl (qG B R N1) H := hP
      have hD : va_D A (qG B R N1) := hD
      refine lv_iload_n hx hb dX3_forgetNextLoads_2 rfl (lv_at hl 0 rfl) ?_
      refine lv_aload_n hx hb dX3_forgetNextLoads_3 rfl (lv_at hl 1 rfl) ?_
      refine va_get (D := D) (ci := 3) (v := .int (nI (N1 4 1 5))) (C := RX3) (T := TX3) (N := 14) hx hb hts (fun _ h9 => List.mem_cons_of_mem _ (List.mem_append_left _ (List.mem_append_right _ h9))) hown hK hP 0 rfl rfl 7 (by decide) (hts (.fieldLink RX3 38 "PalletStack" "cameCount" "I") (List.mem_of_getElem? (i := 1) (by rfl))) (fun _ h9 => h9) rfl dX3_forgetNextLoads_4 ?_
      refine lv_topi (fun v_49 ev_49 => ?_)
      obtain rfl : v_49 = (nI (N 4 1 5)) := ev_49.trans (by rw [e5])
      refine lv_icmp_ge (tgt := 31) hx hb dX3_forgetNextLoads_7 (by decide) (fun c_50 => absurd c_50 (nI_ge (by omega) (by omega))) (fun c_50 => ?_)
      refine lv_aload_n hx hb dX3_forgetNextLoads_10 rfl (lv_at hl 1 rfl) ?_
      refine lv_iload_n hx hb dX3_forgetNextLoads_11 rfl (lv_at hl 0 rfl) ?_
      refine zrdVq2 (As := [.int (nI i)]) (rest := []) (wc := qG B R N1) ⟨hx, hb, hml, hown, hts⟩ (c_itemOf l D _ B R N1 i (by omega) hO1) (cwV 1 hts gX3_forgetNextLoads_X3_itemOf rfl rfl rfl (by decide +kernel) ⟨by rw [hRf]; exact Nat.le_of_ble_eq_true rfl, by rw [hRl]; exact Nat.le_of_ble_eq_true rfl⟩) hK hP hD [0, 1, 2, 3] rfl (ci := 3) (q0 := 0) rfl rfl rfl hl.1 rfl (Nat.le_of_ble_eq_true rfl) dX3_forgetNextLoads_12 ⟨by omega, by omega⟩ (fun r_51 hr_51 => ?_)
      refine W.eq (g2 := F0 m 15 ls [.ref (qA B 0 i)]) (by rw [hr_51]; rfl) ?_
      refine lv_astore_n (lv' := [(2, .ref (qA B 0 i)), (1, .int (nI i)), (0, .ref (qA B 5 0))]) hx hb dX3_forgetNextLoads_15 rfl hl (by decide) rfl (fun ls hl => ?_)
      refine lv_aload_n hx hb dX3_forgetNextLoads_16 rfl (lv_at hl 0 rfl) ?_
      refine lv_ifnull hx hb dX3_forgetNextLoads_17 ?_
      refine lv_aload_n hx hb dX3_forgetNextLoads_20 rfl (lv_at hl 0 rfl) ?_
      refine lv_iconst (v := 0) hx hb dX3_forgetNextLoads_21 (by decide) ?_
      refine va_put (D := D) (ci := 0) (v := .int (nI 0)) (ty := .int) (C := RX0) (T := TX0) (N := 18) hx hb hts (fun _ h9 => List.mem_cons_of_mem _ (List.mem_append_right _ h9)) tyX0 tyX0_ok nmX0 hown hK hP hD hS (5 + i) (qG_i (by omega)) rfl 12 (by decide) (hts (.fieldLink RX3 233 "PalletStack$Item" "nextLoad" "I") (List.mem_of_getElem? (i := 2) (by rfl))) (fun _ h9 => h9) rfl (by decide +kernel) rfl rfl (Nat.le_of_ble_eq_true rfl) dX3_forgetNextLoads_22 (fun H locs hP hD hS => ?_)
      rw [qG_pi (by omega) (by decide)] at hP hD
      obtain ⟨N_53, hN_53⟩ : ∃ z : qN0, z = qp N1 0 i 12 0 := ⟨_, rfl⟩
      rw [← hN_53] at hP hD
      have hP : va_P D vwCl (qG B R N_53) H := hP
      have hD : va_D A (qG B R N_53) := hD
      refine lv_iinc (v := (nI (i + 1))) (lv' := [(1, .int (nI (i + 1))), (2, .ref (qA B 0 i)), (0, .ref (qA B 5 0))]) hx hb dX3_forgetNextLoads_25 hl (k := 1) rfl (nI_1 i) (by decide) rfl (fun ls hl => ?_)
      refine lv_goto (tgt := 2) hx hb dX3_forgetNextLoads_28 (by decide) ?_
      have hl := lv_sub hl (l' := [(1, .int (nI (i + 1))), (0, .ref (qA B 5 0))]) [0, 2] rfl
      exact ih (i + 1) (by omega) _ (by rw [hN_53, hN]; exact qz_1 N i) H locs ls hP hD hS hl
  exact loop (N 4 1 5) 0 (by omega) N (qz_0 N).symm s.heap [] ls hP hD hS hl
set_option maxHeartbeats 4000000 in
set_option maxRecDepth 100000 in
theorem c_pass (l : Launch) (D : zG) (sz : Nat) (B : qB) (R : qR0) (N : qN0) (i : Nat) (hi : i < 61) (S : Nat → Nat) (hS9 : ∀ j, j < N 0 i 15 → R i j = some (qA B 0 (S j)) ∧ S j < 61 ∧ S j ≠ i ∧ N 1 i j ≤ 36) (hm : N 0 i 15 ≤ 36) (hg : 0 < N 0 i 10) (hM : qM N) (hw : N 0 i 1 ≤ 1000) : Met l yX0_passLoadDown wsX0_passLoadDown ({ frames := 0, cells := 0, slots := 0, locals := 0 }) (zPc D (qT B) (qG B R N) sz [.ref (qA B 0 i)]) (va_Qv (fun (u : qN0) => u = qcol N (qPs S (N 1 i) (N 0 i 1 + N 0 i 12) (N 0 i 10) (fun k => N 0 k 12) (N 0 i 15))) (zB D (va_A (qG B R N) sz) (fun _ => []) 0 (fun u => qG B R u)) (va_A (qG B R N) sz)) 0 0 (va_A (qG B R N) sz) := by
  refine Met.ofW (cc := cX0_passLoadDown) (maxL := 3) (ret := none) (by decide) rfl ?_
  intro p e s m args below meth c s₁ B9 hml hv
  obtain ⟨rfl, hsz, hP, hK, hD0⟩ := hv
  have hx := B9.exec
  have hb := B9.bytes
  have hr := B9.returns
  have hts := atoms_spec (ws := wsX0_passLoadDown) B9.pre
  have hown : s.vm.findClass RX0 = some m.cls := findClass_of_methodNamed B9.named
  have hlocks := B9.notSynchronized
  subst hsz
  have hD := hD0.self (sz := s.heap.size)
  generalize hAe : va_A (qG B R N) s.heap.size = A at hD ⊢
  have hA : ∀ q : Nat, s.heap.size ≤ q → A q := fun q h => by rw [← hAe]; exact Or.inr h
  have hS : va_S A s.heap s.heap [] := va_S.rf
  have hl := lv_entry ([.ref (qA B 0 i)]) (n := 3) (Nat.le_of_ble_eq_true rfl)
  rw [lg_entry_eq]
  generalize (lg_sl ([.ref (qA B 0 i)]) ++ List.replicate (3 - (lg_sl ([.ref (qA B 0 i)])).length) Slot.unset).toArray = ls at hl ⊢
  have hl : lv_has ls 3 [(0, .ref (qA B 0 i))] := hl
  have hP : va_P D vwCl (qG B R N) s.heap := hP
  generalize hRe : (headSpec _ _).room = R9
  have hRf : R9.frames = 0 := by rw [← hRe]; rfl
  have hRc : R9.cells = 0 := by rw [← hRe]; rfl
  have hRs : R9.slots = 0 := by rw [← hRe]; rfl
  have hRl : R9.locals = 0 := by rw [← hRe]; rfl
  clear hRe
  refine lv_iconst (v := 0) hx hb dX0_passLoadDown_0 (by decide) ?_
  refine lv_istore_n (lv' := [(1, .int 0), (0, .ref (qA B 0 i))]) hx hb dX0_passLoadDown_1 rfl hl (by decide) rfl (fun ls hl => ?_)
  generalize hQe : MQ _ _ _ _ _ _ _ = Q
  have b12 := hM 0 i 12
  have b10 := hM 0 i 10
  have hq : ∀ j, j < N 0 i 15 → (N 0 i 1 + N 0 i 12) * N 1 i j ≤ 1001000 * 36 := fun j hj => Nat.mul_le_mul (by omega) (hS9 j hj).2.2.2
  have hbd : ∀ j, j ≤ N 0 i 15 → ∀ k, qPs S (N 1 i) (N 0 i 1 + N 0 i 12) (N 0 i 10) (fun k => N 0 k 12) j k ≤ 1000000 + j * (1001000 * 36) := fun j hj k => qPs_bd (fun k => hM 0 k 12) (fun j9 h9 => Nat.le_trans (Nat.div_le_self _ _) (hq j9 (by omega)))
  have loop : ∀ (k j : Nat), j + k = N 0 i 15 → ∀ (N1 : qN0) (hN : N1 = qcol N (qPs S (N 1 i) (N 0 i 1 + N 0 i 12) (N 0 i 10) (fun k => N 0 k 12) j)) (H : Heap) (locs : List Loc) (ls : Array Slot), va_P D vwCl (qG B R N1) H → va_D A (qG B R N1) → va_S A s.heap H locs → lv_has ls 3 [(1, .int (nI j)), (0, .ref (qA B 0 i))] → W p l e R9 s m ([.ref (qA B 0 i)] : List Value).toArray below meth c H locs 0 0 Q (F0 m 2 ls []) := by
    intro k
    induction k with
    | zero =>
      intro j hj N1 hN H locs ls hP hD hS hl
      have ne : ∀ c i j, c ≠ 0 ∨ j ≠ 12 → N1 c i j = N c i j := fun c i j h => by rw [hN]; exact qcol_ne _ _ h
      obtain rfl : N 0 i 15 = j := by omega
      have hP : va_P D vwCl (qG B R N1) H := hP
      have hD : va_D A (qG B R N1) := hD
      refine lv_iload_n hx hb dX0_passLoadDown_2 rfl (lv_at hl 0 rfl) ?_
      refine lv_aload_n hx hb dX0_passLoadDown_3 rfl (lv_at hl 1 rfl) ?_
      refine va_get (D := D) (ci := 0) (v := .int (nI (N1 0 i 15))) (C := RX0) (T := TX0) (N := 18) hx hb hts (fun _ h9 => List.mem_cons_of_mem _ (List.mem_append_right _ h9)) hown hK hP (5 + i) (qG_i (by omega)) rfl 15 (by decide) (hts (.fieldLink RX0 58 "PalletStack$Item" "supportCount" "I") (List.mem_of_getElem? (i := 1) (by rfl))) (fun _ h9 => h9) rfl dX0_passLoadDown_4 ?_
      refine lv_topi (fun v_54 ev_54 => ?_)
      obtain rfl : v_54 = (nI (N 0 i 15)) := ev_54.trans (by rw [ne 0 i 15 (by omega)])
      refine lv_icmp_ge (tgt := 70) hx hb dX0_passLoadDown_7 (by decide) (fun c_55 => ?_) (fun c_55 => absurd (Int32.le_refl _) c_55)
      rw [← hQe]
      exact W.vret hx hb hr (fun t ht hW => ⟨⟨N1, rfl, hN, ⟨Nat.zero_le _, by rw [ht]; exact hP, va_K.moved hW.alike (hK.sub (tys' := []) [] rfl), hD⟩⟩, hS.F ht⟩) hS.2.2 dX0_passLoadDown_70
    | succ k ih =>
      intro j hj N1 hN H locs ls hP hD hS hl
      have ne : ∀ c i j, c ≠ 0 ∨ j ≠ 12 → N1 c i j = N c i j := fun c i j h => by rw [hN]; exact qcol_ne _ _ h
      obtain ⟨h1, h2, h3, h4⟩ := hS9 j (by omega)
      have q1 := hq j (by omega)
      have q2 := hbd j (by omega) (S j)
      have q3 : (N 0 i 1 + N 0 i 12) * N 1 i j / N 0 i 10 ≤ 1001000 * 36 := Nat.le_trans (Nat.div_le_self _ _) q1
      have e1 : N1 0 (S j) 12 = qPs S (N 1 i) (N 0 i 1 + N 0 i 12) (N 0 i 10) (fun k => N 0 k 12) j (S j) := by rw [hN]; exact qcol_eq _ _ _
      have e2 : N1 0 i 12 = N 0 i 12 := by rw [hN, qcol_eq]; exact qPs_ne (fun j9 h9 => (hS9 j9 (by omega)).2.2.1)
      have hP : va_P D vwCl (qG B R N1) H := hP
      have hD : va_D A (qG B R N1) := hD
      refine lv_iload_n hx hb dX0_passLoadDown_2 rfl (lv_at hl 0 rfl) ?_
      refine lv_aload_n hx hb dX0_passLoadDown_3 rfl (lv_at hl 1 rfl) ?_
      refine va_get (D := D) (ci := 0) (v := .int (nI (N1 0 i 15))) (C := RX0) (T := TX0) (N := 18) hx hb hts (fun _ h9 => List.mem_cons_of_mem _ (List.mem_append_right _ h9)) hown hK hP (5 + i) (qG_i (by omega)) rfl 15 (by decide) (hts (.fieldLink RX0 58 "PalletStack$Item" "supportCount" "I") (List.mem_of_getElem? (i := 1) (by rfl))) (fun _ h9 => h9) rfl dX0_passLoadDown_4 ?_
      refine lv_topi (fun v_56 ev_56 => ?_)
      obtain rfl : v_56 = (nI (N 0 i 15)) := ev_56.trans (by rw [ne 0 i 15 (by omega)])
      refine lv_icmp_ge (tgt := 70) hx hb dX0_passLoadDown_7 (by decide) (fun c_57 => absurd c_57 (nI_ge (by omega) (by omega))) (fun c_57 => ?_)
      refine lv_iload_n hx hb dX0_passLoadDown_10 rfl (lv_at hl 0 rfl) ?_
      refine lv_bipush (v := 36) hx hb dX0_passLoadDown_11 (by decide) ?_
      refine lv_icmp_ge (tgt := 70) hx hb dX0_passLoadDown_13 (by decide) (fun c_58 => absurd c_58 (nI_ge (b := 36) (by omega) (by decide))) (fun c_58 => ?_)
      refine lv_aload_n hx hb dX0_passLoadDown_16 rfl (lv_at hl 1 rfl) ?_
      refine va_get (D := D) (ci := 0) (v := .ref (qA B 1 i)) (C := RX0) (T := TX0) (N := 18) hx hb hts (fun _ h9 => List.mem_cons_of_mem _ (List.mem_append_right _ h9)) hown hK hP (5 + i) (qG_i (by omega)) rfl 16 (by decide) (hts (.fieldLink RX0 61 "PalletStack$Item" "supports" "[LPalletStack$Item;") (List.mem_of_getElem? (i := 2) (by rfl))) (fun _ h9 => h9) rfl dX0_passLoadDown_17 ?_
      refine lv_iload_n hx hb dX0_passLoadDown_20 rfl (lv_at hl 0 rfl) ?_
      refine va_aldq hx hb hK hP (66 + i) 1 (qG_s (by omega)) rfl (vp_in_nI (n := j) (N := 36) (by omega) (by decide)) dX0_passLoadDown_21 ?_
      refine W.eq (g2 := F0 m 22 ls [.ref (qA B 0 (S j))]) (by rw [nI_clamp (by omega), h1]; rfl) ?_
      refine lv_astore_n (lv' := [(2, .ref (qA B 0 (S j))), (1, .int (nI j)), (0, .ref (qA B 0 i))]) hx hb dX0_passLoadDown_22 rfl hl (by decide) rfl (fun ls hl => ?_)
      refine lv_aload_n hx hb dX0_passLoadDown_23 rfl (lv_at hl 0 rfl) ?_
      refine lv_ifnull hx hb dX0_passLoadDown_24 ?_
      refine lv_aload_n hx hb dX0_passLoadDown_27 rfl (lv_at hl 2 rfl) ?_
      refine va_get (D := D) (ci := 0) (v := .int (nI (N1 0 i 10))) (C := RX0) (T := TX0) (N := 18) hx hb hts (fun _ h9 => List.mem_cons_of_mem _ (List.mem_append_right _ h9)) hown hK hP (5 + i) (qG_i (by omega)) rfl 10 (by decide) (hts (.fieldLink RX0 43 "PalletStack$Item" "ground" "I") (List.mem_of_getElem? (i := 3) (by rfl))) (fun _ h9 => h9) rfl dX0_passLoadDown_28 ?_
      refine lv_topi (fun v_60 ev_60 => ?_)
      obtain rfl : v_60 = (nI (N 0 i 10)) := ev_60.trans (by rw [ne 0 i 10 (by omega)])
      refine lv_if_le (tgt := 64) hx hb dX0_passLoadDown_31 (by decide) (fun c_61 => absurd c_61 (fun h => absurd ((nI_leI (b := 0) (by omega) (by decide)).mp h) (by omega))) (fun c_61 => ?_)
      refine lv_aload_n hx hb dX0_passLoadDown_34 rfl (lv_at hl 0 rfl) ?_
      refine lv_dup hx hb dX0_passLoadDown_35 rfl ?_
      refine va_get (D := D) (ci := 0) (v := .int (nI (N1 0 (S j) 12))) (C := RX0) (T := TX0) (N := 18) hx hb hts (fun _ h9 => List.mem_cons_of_mem _ (List.mem_append_right _ h9)) hown hK hP (5 + (S j)) (qG_i (by omega)) rfl 12 (by decide) (hts (.fieldLink RX0 49 "PalletStack$Item" "nextLoad" "I") (List.mem_of_getElem? (i := 4) (by rfl))) (fun _ h9 => h9) rfl dX0_passLoadDown_36 ?_
      refine lv_topi (fun v_62 ev_62 => ?_)
      obtain rfl : v_62 = (nI (qPs S (N 1 i) (N 0 i 1 + N 0 i 12) (N 0 i 10) (fun k => N 0 k 12) j (S j))) := ev_62.trans (by rw [e1])
      refine lv_aload_n hx hb dX0_passLoadDown_39 rfl (lv_at hl 2 rfl) ?_
      refine va_get (D := D) (ci := 0) (v := .int (nI (N1 0 i 1))) (C := RX0) (T := TX0) (N := 18) hx hb hts (fun _ h9 => List.mem_cons_of_mem _ (List.mem_append_right _ h9)) hown hK hP (5 + i) (qG_i (by omega)) rfl 1 (by decide) (hts (.fieldLink RX0 15 "PalletStack$Item" "weight" "I") (List.mem_of_getElem? (i := 5) (by rfl))) (fun _ h9 => h9) rfl dX0_passLoadDown_40 ?_
      refine lv_topi (fun v_63 ev_63 => ?_)
      obtain rfl : v_63 = (nI (N 0 i 1)) := ev_63.trans (by rw [ne 0 i 1 (by omega)])
      refine lv_aload_n hx hb dX0_passLoadDown_43 rfl (lv_at hl 2 rfl) ?_
      refine va_get (D := D) (ci := 0) (v := .int (nI (N1 0 i 12))) (C := RX0) (T := TX0) (N := 18) hx hb hts (fun _ h9 => List.mem_cons_of_mem _ (List.mem_append_right _ h9)) hown hK hP (5 + i) (qG_i (by omega)) rfl 12 (by decide) (hts (.fieldLink RX0 49 "PalletStack$Item" "nextLoad" "I") (List.mem_of_getElem? (i := 4) (by rfl))) (fun _ h9 => h9) rfl dX0_passLoadDown_44 ?_
      refine lv_topi (fun v_64 ev_64 => ?_)
      obtain rfl : v_64 = (nI (N 0 i 12)) := ev_64.trans (by rw [e2])
      refine lv_iadd hx hb dX0_passLoadDown_47 ?_
      refine lv_topi (fun v_65 ev_65 => ?_)
      obtain rfl : v_65 = (nI (N 0 i 1 + N 0 i 12)) := ev_65.trans (nI_add _ _)
      refine lv_aload_n hx hb dX0_passLoadDown_48 rfl (lv_at hl 2 rfl) ?_
      refine va_get (D := D) (ci := 0) (v := .ref (qA B 2 i)) (C := RX0) (T := TX0) (N := 18) hx hb hts (fun _ h9 => List.mem_cons_of_mem _ (List.mem_append_right _ h9)) hown hK hP (5 + i) (qG_i (by omega)) rfl 17 (by decide) (hts (.fieldLink RX0 65 "PalletStack$Item" "supportCells" "[I") (List.mem_of_getElem? (i := 6) (by rfl))) (fun _ h9 => h9) rfl dX0_passLoadDown_49 ?_
      refine lv_iload_n hx hb dX0_passLoadDown_52 rfl (lv_at hl 1 rfl) ?_
      refine va_iald hx hb hK hP (127 + i) 2 (qG_c (by omega)) rfl (vp_in_nI (n := j) (N := 36) (by omega) (by decide)) dX0_passLoadDown_53 ?_
      refine lv_topi (fun v_66 ev_66 => ?_)
      obtain rfl : v_66 = (nI (N1 1 i j)) := ev_66.trans (by rw [nI_clamp (by omega)])
      refine lv_topi (fun v_67 ev_67 => ?_)
      obtain rfl : v_67 = (nI (N 1 i j)) := ev_67.trans (by rw [ne 1 i j (by omega)])
      refine lv_imul hx hb dX0_passLoadDown_54 ?_
      refine lv_topi (fun v_68 ev_68 => ?_)
      obtain rfl : v_68 = (nI ((N 0 i 1 + N 0 i 12) * N 1 i j)) := ev_68.trans (pk_mul _ _)
      refine lv_aload_n hx hb dX0_passLoadDown_55 rfl (lv_at hl 2 rfl) ?_
      refine va_get (D := D) (ci := 0) (v := .int (nI (N1 0 i 10))) (C := RX0) (T := TX0) (N := 18) hx hb hts (fun _ h9 => List.mem_cons_of_mem _ (List.mem_append_right _ h9)) hown hK hP (5 + i) (qG_i (by omega)) rfl 10 (by decide) (hts (.fieldLink RX0 43 "PalletStack$Item" "ground" "I") (List.mem_of_getElem? (i := 3) (by rfl))) (fun _ h9 => h9) rfl dX0_passLoadDown_56 ?_
      refine lv_topi (fun v_69 ev_69 => ?_)
      obtain rfl : v_69 = (nI (N 0 i 10)) := ev_69.trans (by rw [ne 0 i 10 (by omega)])
      refine lv_idiv hx hb dX0_passLoadDown_59 (fun h => absurd ((qeq (b := 0) (by omega) (by decide)).mp h) (by omega)) ?_
      refine lv_topi (fun v_70 ev_70 => ?_)
      obtain rfl : v_70 = (nI ((N 0 i 1 + N 0 i 12) * N 1 i j / N 0 i 10)) := ev_70.trans (pk_div (by omega) hg (by omega))
      refine lv_iadd hx hb dX0_passLoadDown_60 ?_
      refine lv_topi (fun v_71 ev_71 => ?_)
      obtain rfl : v_71 = (nI (qPs S (N 1 i) (N 0 i 1 + N 0 i 12) (N 0 i 10) (fun k => N 0 k 12) j (S j) + (N 0 i 1 + N 0 i 12) * N 1 i j / N 0 i 10)) := ev_71.trans (nI_add _ _)
      refine va_put (D := D) (ci := 0) (v := .int (nI (qPs S (N 1 i) (N 0 i 1 + N 0 i 12) (N 0 i 10) (fun k => N 0 k 12) j (S j) + (N 0 i 1 + N 0 i 12) * N 1 i j / N 0 i 10))) (ty := .int) (C := RX0) (T := TX0) (N := 18) hx hb hts (fun _ h9 => List.mem_cons_of_mem _ (List.mem_append_right _ h9)) tyX0 tyX0_ok nmX0 hown hK hP hD hS (5 + (S j)) (qG_i (by omega)) rfl 12 (by decide) (hts (.fieldLink RX0 49 "PalletStack$Item" "nextLoad" "I") (List.mem_of_getElem? (i := 4) (by rfl))) (fun _ h9 => h9) rfl (by decide +kernel) rfl rfl (Nat.le_of_ble_eq_true rfl) dX0_passLoadDown_61 (fun H locs hP hD hS => ?_)
      rw [qG_pi (by omega) (by decide)] at hP hD
      obtain ⟨N_72, hN_72⟩ : ∃ z : qN0, z = qp N1 0 (S j) 12 (qPs S (N 1 i) (N 0 i 1 + N 0 i 12) (N 0 i 10) (fun k => N 0 k 12) j (S j) + (N 0 i 1 + N 0 i 12) * N 1 i j / N 0 i 10) := ⟨_, rfl⟩
      rw [← hN_72] at hP hD
      have hP : va_P D vwCl (qG B R N_72) H := hP
      have hD : va_D A (qG B R N_72) := hD
      refine lv_iinc (v := (nI (j + 1))) (lv' := [(1, .int (nI (j + 1))), (2, .ref (qA B 0 (S j))), (0, .ref (qA B 0 i))]) hx hb dX0_passLoadDown_64 hl (k := 1) rfl (nI_1 j) (by decide) rfl (fun ls hl => ?_)
      refine lv_goto (tgt := 2) hx hb dX0_passLoadDown_67 (by decide) ?_
      have hl := lv_sub hl (l' := [(1, .int (nI (j + 1))), (0, .ref (qA B 0 i))]) [0, 2] rfl
      exact ih (j + 1) (by omega) _ (by rw [hN_72, hN, qcol_1]; rfl) H locs ls hP hD hS hl
  exact loop (N 0 i 15) 0 (by omega) N (qcol_0 N).symm s.heap [] ls hP hD hS hl
end
section
set_option maxHeartbeats 4000000 in
set_option maxRecDepth 100000 in
theorem c_settle (l : Launch) (D : zG) (sz : Nat) (B : qB) (R : qR0) (N : qN0) (hO : qOK B N) (hM : qM N) (S : Nat → Nat → Nat) (hS9 : qS9 B R N S (N 4 1 5)) (hLb : ∀ k i, k ≤ N 4 1 5 → i < N 4 1 5 → qLN S N (N 4 1 5) k i ≤ 1000000) : Met l yX3_settleLoads wsX3_settleLoads ({ frames := 2, cells := 0, slots := 0, locals := 45 }) (zPc D (qT B) (qG B R N) sz [.ref (qA B 5 0)]) (va_Qv (fun (u : qN0) => (∀ c i j, ¬ (c = 0 ∧ (j = 11 ∨ j = 12) ∧ i < N 4 1 5) → u c i j = N c i j) ∧ ∀ i, i < N 4 1 5 → u 0 i 11 = qLN S N (N 4 1 5) (N 4 1 5) i ∧ u 0 i 12 = qLN S N (N 4 1 5) (N 4 1 5) i) (zB D (va_A (qG B R N) sz) (fun _ => []) 0 (fun u => qG B R u)) (va_A (qG B R N) sz)) 0 0 (va_A (qG B R N) sz) := by
  refine Met.ofW (cc := cX3_settleLoads) (maxL := 3) (ret := none) (by decide) rfl ?_
  intro p e s m args below meth c s₁ B9 hml hv
  obtain ⟨rfl, hsz, hP, hK, hD0⟩ := hv
  have hx := B9.exec
  have hb := B9.bytes
  have hr := B9.returns
  have hts := atoms_spec (ws := wsX3_settleLoads) B9.pre
  have hown : s.vm.findClass RX3 = some m.cls := findClass_of_methodNamed B9.named
  have hlocks := B9.notSynchronized
  subst hsz
  have hD := hD0.self (sz := s.heap.size)
  generalize hAe : va_A (qG B R N) s.heap.size = A at hD ⊢
  have hA : ∀ q : Nat, s.heap.size ≤ q → A q := fun q h => by rw [← hAe]; exact Or.inr h
  have hS : va_S A s.heap s.heap [] := va_S.rf
  have hl := lv_entry ([.ref (qA B 5 0)]) (n := 3) (Nat.le_of_ble_eq_true rfl)
  rw [lg_entry_eq]
  generalize (lg_sl ([.ref (qA B 5 0)]) ++ List.replicate (3 - (lg_sl ([.ref (qA B 5 0)])).length) Slot.unset).toArray = ls at hl ⊢
  have hl : lv_has ls 3 [(0, .ref (qA B 5 0))] := hl
  have hP : va_P D vwCl (qG B R N) s.heap := hP
  generalize hRe : (headSpec _ _).room = R9
  have hRf : R9.frames = 2 := by rw [← hRe]; rfl
  have hRc : R9.cells = 0 := by rw [← hRe]; rfl
  have hRs : R9.slots = 0 := by rw [← hRe]; rfl
  have hRl : R9.locals = 45 := by rw [← hRe]; rfl
  clear hRe
  have o8 := hO.2.2.2.2.2.2.2.1
  refine lv_aload_n hx hb dX3_settleLoads_0 rfl (lv_at hl 0 rfl) ?_
  refine qcallvV (As := []) (rest := []) (ws := qG B R N) ⟨hx, hb, hml, hown, hts⟩ (c_forget l D _ B R N hO) (cwV 0 hts gX3_settleLoads_X3_forgetNextLoads rfl rfl rfl (by decide +kernel) ⟨by rw [hRf]; exact Nat.le_of_ble_eq_true rfl, by rw [hRl]; exact Nat.le_of_ble_eq_true rfl⟩) hK hP hD hS hA [0, 1, 2, 3] rfl (ci := 3) (q0 := 0) rfl rfl rfl hl.1 rfl (Nat.le_of_ble_eq_true rfl) dX3_settleLoads_1 ⟨by omega, by omega⟩ (fun u_2 H locs hwu_2 hP hD hS => ?_)
  obtain ⟨n, hn⟩ : ∃ n, n = N 4 1 5 := ⟨_, rfl⟩
  rw [← hn] at hwu_2 hS9 hLb ⊢
  have hP : va_P D vwCl (qG B R u_2) H := hP
  have hD : va_D A (qG B R u_2) := hD
  have e5 : u_2 4 1 5 = n := by rw [hwu_2, hn]; exact qz_ne _ _ (by omega)
  refine lv_aload_n hx hb dX3_settleLoads_4 rfl (lv_at hl 0 rfl) ?_
  refine va_get (D := D) (ci := 3) (v := .int (nI (u_2 4 1 5))) (C := RX3) (T := TX3) (N := 14) hx hb hts (fun _ h9 => List.mem_cons_of_mem _ (List.mem_append_left _ (List.mem_append_right _ h9))) hown hK hP 0 rfl rfl 7 (by decide) (hts (.fieldLink RX3 38 "PalletStack" "cameCount" "I") (List.mem_of_getElem? (i := 1) (by rfl))) (fun _ h9 => h9) rfl dX3_settleLoads_5 ?_
  refine lv_topi (fun v_3 ev_3 => ?_)
  obtain rfl : v_3 = (nI n) := ev_3.trans (by rw [e5])
  refine lv_iconst (v := 1) hx hb dX3_settleLoads_8 (by decide) ?_
  refine lv_isub hx hb dX3_settleLoads_9 ?_
  refine lv_istore_n (lv' := [(1, .int (nI n - 1)), (0, .ref (qA B 5 0))]) hx hb dX3_settleLoads_10 rfl hl (by decide) rfl (fun ls hl => ?_)
  generalize hQe : MQ _ _ _ _ _ _ _ = Q
  have hl := lv_sub hl (l' := [(1, .int (nI n - 1)), (0, .ref (qA B 5 0))]) [0, 1] rfl
  have loop : ∀ (r9 k : Nat), k + r9 = n → ∀ (N1 : qN0) (hN : (∀ c i j, ¬ (c = 0 ∧ (j = 11 ∨ j = 12) ∧ i < n) → N1 c i j = N c i j) ∧ (∀ i, i < n → N1 0 i 12 = qLN S N n k i) ∧ (∀ i, i < n → n ≤ i + k → N1 0 i 11 = qLN S N n k i) ∧ ∀ i, N1 0 i 11 ≤ 1000000) (H : Heap) (locs : List Loc) (ls : Array Slot), va_P D vwCl (qG B R N1) H → va_D A (qG B R N1) → va_S A s.heap H locs → lv_has ls 3 [(1, .int (nI (n - k) - 1)), (0, .ref (qA B 5 0))] → W p l e R9 s m ([.ref (qA B 5 0)] : List Value).toArray below meth c H locs 0 0 Q (F0 m 11 ls []) := by
    intro r9
    induction r9 with
    | zero =>
      intro k hk N1 hN H locs ls hP hD hS hl
      obtain ⟨n1, n2, n3, n4⟩ := hN
      have f5 : N1 4 1 5 = n := by rw [n1 _ _ _ (by omega), hn]
      have hO1 : qOK B N1 := qOKs hO (fun j _ _ => n1 _ _ _ (by omega)) (fun j _ => n1 _ _ _ (by omega))
      obtain rfl : n = k := by omega
      have hP : va_P D vwCl (qG B R N1) H := hP
      have hD : va_D A (qG B R N1) := hD
      refine lv_iload_n hx hb dX3_settleLoads_11 rfl (lv_at hl 0 rfl) ?_
      refine lv_if_lt (tgt := 43) hx hb dX3_settleLoads_12 (by decide) (fun c_4 => ?_) (fun c_4 => absurd (by rw [Nat.sub_self]; decide) c_4)
      rw [← hQe]
      exact W.vret hx hb hr (fun t ht hW => ⟨⟨N1, rfl, ⟨n1, fun i hi => ⟨n3 i hi (by omega), n2 i hi⟩⟩, ⟨Nat.zero_le _, by rw [ht]; exact hP, va_K.moved hW.alike (hK.sub (tys' := []) [] rfl), hD⟩⟩, hS.F ht⟩) hS.2.2 dX3_settleLoads_43
    | succ r9 ih =>
      intro k hk N1 hN H locs ls hP hD hS hl
      obtain ⟨n1, n2, n3, n4⟩ := hN
      have f5 : N1 4 1 5 = n := by rw [n1 _ _ _ (by omega), hn]
      have hO1 : qOK B N1 := qOKs hO (fun j _ _ => n1 _ _ _ (by omega)) (fun j _ => n1 _ _ _ (by omega))
      obtain ⟨t, ht⟩ : ∃ t, t = n - 1 - k := ⟨_, rfl⟩
      have ht1 : nI (n - k) - 1 = nI t := by rw [show n - k = t + 1 by omega]; exact nI_pred t
      obtain ⟨m1, m2, m3, m4⟩ := hS9 t (by omega)
      rw [ht1] at hl
      have hLt := hLb k t (by omega) (by omega)
      have hM1 : qM N1 := fun c i j => by
        by_cases h9 : c = 0 ∧ (j = 11 ∨ j = 12) ∧ i < n
        · obtain ⟨rfl, h9 | h9, h10⟩ := h9
          · subst h9; exact n4 i
          · subst h9; rw [n2 i h10]; exact hLb k i (by omega) h10
        · rw [n1 c i j h9]; exact hM c i j
      have hP : va_P D vwCl (qG B R N1) H := hP
      have hD : va_D A (qG B R N1) := hD
      refine lv_iload_n hx hb dX3_settleLoads_11 rfl (lv_at hl 0 rfl) ?_
      refine lv_if_lt (tgt := 43) hx hb dX3_settleLoads_12 (by decide) (fun c_5 => absurd c_5 (nI_pos (by omega))) (fun c_5 => ?_)
      refine lv_aload_n hx hb dX3_settleLoads_15 rfl (lv_at hl 1 rfl) ?_
      refine lv_iload_n hx hb dX3_settleLoads_16 rfl (lv_at hl 0 rfl) ?_
      refine zrdVq2 (As := [.int (nI t)]) (rest := []) (wc := qG B R N1) ⟨hx, hb, hml, hown, hts⟩ (c_itemOf l D _ B R N1 t (by omega) hO1) (cwV 1 hts gX3_settleLoads_X3_itemOf rfl rfl rfl (by decide +kernel) ⟨by rw [hRf]; exact Nat.le_of_ble_eq_true rfl, by rw [hRl]; exact Nat.le_of_ble_eq_true rfl⟩) hK hP hD [0, 1, 2, 3] rfl (ci := 3) (q0 := 0) rfl rfl rfl hl.1 rfl (Nat.le_of_ble_eq_true rfl) dX3_settleLoads_17 ⟨by omega, by omega⟩ (fun r_6 hr_6 => ?_)
      refine W.eq (g2 := F0 m 20 ls [.ref (qA B 0 t)]) (by rw [hr_6]; rfl) ?_
      refine lv_astore_n (lv' := [(2, .ref (qA B 0 t)), (1, .int (nI t)), (0, .ref (qA B 5 0))]) hx hb dX3_settleLoads_20 rfl hl (by decide) rfl (fun ls hl => ?_)
      refine lv_aload_n hx hb dX3_settleLoads_21 rfl (lv_at hl 0 rfl) ?_
      refine lv_ifnull hx hb dX3_settleLoads_22 ?_
      refine lv_aload_n hx hb dX3_settleLoads_25 rfl (lv_at hl 0 rfl) ?_
      refine lv_aload_n hx hb dX3_settleLoads_26 rfl (lv_at hl 0 rfl) ?_
      refine va_get (D := D) (ci := 0) (v := .int (nI (N1 0 t 12))) (C := RX0) (T := TX0) (N := 18) hx hb hts (fun _ h9 => List.mem_cons_of_mem _ (List.mem_append_right _ h9)) hown hK hP (5 + t) (qG_i (by omega)) rfl 12 (by decide) (hts (.fieldLink RX3 233 "PalletStack$Item" "nextLoad" "I") (List.mem_of_getElem? (i := 2) (by rfl))) (fun _ h9 => h9) rfl dX3_settleLoads_27 ?_
      refine lv_topi (fun v_8 ev_8 => ?_)
      obtain rfl : v_8 = (nI (qLN S N n k t)) := ev_8.trans (by rw [n2 t (by omega)])
      refine va_put (D := D) (ci := 0) (v := .int (nI (qLN S N n k t))) (ty := .int) (C := RX0) (T := TX0) (N := 18) hx hb hts (fun _ h9 => List.mem_cons_of_mem _ (List.mem_append_right _ h9)) tyX0 tyX0_ok nmX0 hown hK hP hD hS (5 + t) (qG_i (by omega)) rfl 11 (by decide) (hts (.fieldLink RX3 208 "PalletStack$Item" "load" "I") (List.mem_of_getElem? (i := 3) (by rfl))) (fun _ h9 => h9) rfl (by decide +kernel) rfl rfl (Nat.le_of_ble_eq_true rfl) dX3_settleLoads_30 (fun H locs hP hD hS => ?_)
      rw [qG_pi (by omega) (by decide)] at hP hD
      obtain ⟨N_9, hN_9⟩ : ∃ z : qN0, z = qp N1 0 t 11 (qLN S N n k t) := ⟨_, rfl⟩
      rw [← hN_9] at hP hD
      have hP : va_P D vwCl (qG B R N_9) H := hP
      have hD : va_D A (qG B R N_9) := hD
      obtain ⟨N2, hN2⟩ : ∃ z : qN0, z = N_9 := ⟨_, rfl⟩
      rw [← hN2] at hP hD
      have hP : va_P D vwCl (qG B R N2) H := hP
      have hD : va_D A (qG B R N2) := hD
      have g : ∀ c i j, ¬ (c = 0 ∧ i = t ∧ j = 11) → N2 c i j = N1 c i j := fun c i j h => by rw [hN2, hN_9]; exact if_neg h
      have g2 : N2 0 t 11 = qLN S N n k t := by rw [hN2, hN_9]; exact qp_eq _ _ _ _ _
      have hM2 : qM N2 := by rw [hN2, hN_9]; exact qM_p hM1 hLt
      have k1 : N2 0 t 1 = N 0 t 1 := by rw [g _ _ _ (by omega), n1 _ _ _ (by omega)]
      have k10 : N2 0 t 10 = N 0 t 10 := by rw [g _ _ _ (by omega), n1 _ _ _ (by omega)]
      have k15 : N2 0 t 15 = N 0 t 15 := by rw [g _ _ _ (by omega), n1 _ _ _ (by omega)]
      have k12 : N2 0 t 12 = qLN S N n k t := by rw [g _ _ _ (by omega), n2 t (by omega)]
      have kc : N2 1 t = N 1 t := by funext j; rw [g _ _ _ (by omega), n1 _ _ _ (by omega)]
      refine lv_aload_n hx hb dX3_settleLoads_33 rfl (lv_at hl 0 rfl) ?_
      refine qcallvV (As := []) (rest := []) (ws := qG B R N2) ⟨hx, hb, hml, hown, hts⟩ (c_pass l D _ B R N2 t (by omega) (S t) (fun j hj => by rw [k15] at hj; obtain ⟨a1, a2, a3⟩ := m4 j hj; exact ⟨a1, by omega, by omega, by rw [kc]; exact a3⟩) (by rw [k15]; exact m1) (by rw [k10]; exact m2) hM2 (by rw [k1]; exact m3)) (cwV 0 hts gX3_settleLoads_X0_passLoadDown rfl rfl rfl (by decide +kernel) ⟨by rw [hRf]; exact Nat.le_of_ble_eq_true rfl, by rw [hRl]; exact Nat.le_of_ble_eq_true rfl⟩) hK hP hD hS hA [0, 1, 2, 3] rfl (ci := 0) (q0 := (5 + t)) rfl (qG_i (by omega)) rfl hl.1 rfl (Nat.le_of_ble_eq_true rfl) dX3_settleLoads_34 ⟨by omega, by omega⟩ (fun u_11 H locs hwu_11 hP hD hS => ?_)
      have hP : va_P D vwCl (qG B R u_11) H := hP
      have hD : va_D A (qG B R u_11) := hD
      rw [k1, k10, k12, k15, kc] at hwu_11
      have s1 : ∀ i, i < n → u_11 0 i 12 = qLN S N n (k + 1) i := fun i hi => by
        rw [hwu_11, qcol_eq, qLN_1, ← ht]
        exact qPs_congr (n := n) (fun j hj => by have := (m4 j hj).2.1; omega) (fun _ _ => rfl) (fun i9 h9 => by rw [g _ _ _ (by omega), n2 i9 h9]) i hi
      have s2 : ∀ c i j, c ≠ 0 ∨ j ≠ 12 → u_11 c i j = N2 c i j := fun c i j h => by rw [hwu_11]; exact qcol_ne _ _ h
      have s3 : ∀ i, i < n → n ≤ i + k → qLN S N n (k + 1) i = qLN S N n k i := fun i h1 h2 => qLd_keep (fun i9 h9 j hj => ((hS9 i9 h9).2.2.2 j hj).2.1) (by omega) (by omega) (k + 1) (by omega) (by omega)
      have s4 : qLN S N n (k + 1) t = qLN S N n k t := by rw [qLN_1, ← ht]; exact qPs_ne (fun j hj => by have := (m4 j hj).2.1; omega)
      have ht2 : nI t + -1 = nI (n - (k + 1)) - 1 := by rw [show n - (k + 1) = t by omega]; exact (Int32.sub_eq_add_neg _ _).symm
      refine lv_iinc (v := (nI (n - (k + 1)) - 1)) (lv' := [(1, .int (nI (n - (k + 1)) - 1)), (2, .ref (qA B 0 t)), (0, .ref (qA B 5 0))]) hx hb dX3_settleLoads_37 hl (k := 1) rfl (ht2) (by decide) rfl (fun ls hl => ?_)
      refine lv_goto (tgt := 11) hx hb dX3_settleLoads_40 (by decide) ?_
      have hl := lv_sub hl (l' := [(1, .int (nI (n - (k + 1)) - 1)), (0, .ref (qA B 5 0))]) [0, 2] rfl
      refine ih (k + 1) (by omega) u_11 ⟨fun c i j h => ?_, s1, fun i h1 h2 => ?_, fun i => ?_⟩ H locs ls hP hD hS hl
      · by_cases h9 : c = 0 ∧ j = 12
        · rw [hwu_11]; unfold qcol; rw [if_pos h9]; obtain ⟨rfl, rfl⟩ := h9; rw [qPs_ne (fun j9 h9 => by have := (m4 j9 h9).2.1; omega)]; show N2 0 i 12 = _; rw [g _ _ _ (by omega), n1 _ _ _ h]
        · rw [s2 _ _ _ (by omega), g _ _ _ (by omega), n1 _ _ _ h]
      · rw [s2 _ _ _ (by omega)]
        by_cases h9 : i = t
        · subst h9; rw [g2, s4]
        · rw [g _ _ _ (by omega), n3 i h1 (by omega), s3 i h1 (by omega)]
      · rw [s2 _ _ _ (by omega)]; exact hM2 0 i 11
  refine loop n 0 (by omega) u_2 ⟨fun c i j h => by rw [hwu_2]; exact qz_ne _ _ (by omega), fun i hi => by rw [hwu_2]; unfold qz; rw [if_pos ⟨rfl, rfl, hi⟩]; rfl, fun i h1 h2 => by omega, fun i => by rw [hwu_2, qz_ne _ _ (by omega)]; exact hM 0 i 11⟩ H locs ls hP hD hS hl
end
section
set_option maxHeartbeats 4000000 in
set_option maxRecDepth 100000 in
theorem c_addS0 (l : Launch) (D : zG) (sz : Nat) (B : qB) (R : qR0) (N : qN0) (i k : Nat) (hi : i < 61) : Met l yX0_addSupport wsX0_addSupport ({ frames := 0, cells := 0, slots := 0, locals := 0 }) (zPc D (qT B) (qG B R N) sz [.ref (qA B 0 i), .ref (qA B 0 k), .int (nI 0)]) (va_Qv (fun (u : qR0 × qN0) => u = (R, N)) (zB D (va_A (qG B R N) sz) (fun _ => []) 0 (fun u => qG B u.1 u.2)) (va_A (qG B R N) sz)) 0 0 (va_A (qG B R N) sz) := by
  refine Met.ofW (cc := cX0_addSupport) (maxL := 3) (ret := none) (by decide) rfl ?_
  intro p e s m args below meth c s₁ B9 hml hv
  obtain ⟨rfl, hsz, hP, hK, hD0⟩ := hv
  have hx := B9.exec
  have hb := B9.bytes
  have hr := B9.returns
  have hts := atoms_spec (ws := wsX0_addSupport) B9.pre
  have hown : s.vm.findClass RX0 = some m.cls := findClass_of_methodNamed B9.named
  have hlocks := B9.notSynchronized
  subst hsz
  have hD := hD0.self (sz := s.heap.size)
  generalize hAe : va_A (qG B R N) s.heap.size = A at hD ⊢
  have hA : ∀ q : Nat, s.heap.size ≤ q → A q := fun q h => by rw [← hAe]; exact Or.inr h
  have hS : va_S A s.heap s.heap [] := va_S.rf
  have hl := lv_entry ([.ref (qA B 0 i), .ref (qA B 0 k), .int (nI 0)]) (n := 3) (Nat.le_of_ble_eq_true rfl)
  rw [lg_entry_eq]
  generalize (lg_sl ([.ref (qA B 0 i), .ref (qA B 0 k), .int (nI 0)]) ++ List.replicate (3 - (lg_sl ([.ref (qA B 0 i), .ref (qA B 0 k), .int (nI 0)])).length) Slot.unset).toArray = ls at hl ⊢
  have hl : lv_has ls 3 [(0, .ref (qA B 0 i)), (1, .ref (qA B 0 k)), (2, .int (nI 0))] := hl
  have hP : va_P D vwCl (qG B R N) s.heap := hP
  generalize hRe : (headSpec _ _).room = R9
  have hRf : R9.frames = 0 := by rw [← hRe]; rfl
  have hRc : R9.cells = 0 := by rw [← hRe]; rfl
  have hRs : R9.slots = 0 := by rw [← hRe]; rfl
  have hRl : R9.locals = 0 := by rw [← hRe]; rfl
  clear hRe
  refine lv_iload_n hx hb dX0_addSupport_0 rfl (lv_at hl 2 rfl) ?_
  refine lv_if_le (tgt := 50) hx hb dX0_addSupport_1 (by decide) (fun c_1 => ?_) (fun c_1 => absurd (Int32.le_refl _) c_1)
  exact W.vret hx hb hr (fun t ht hW => ⟨⟨(R, N), rfl, rfl, ⟨Nat.zero_le _, by rw [ht]; exact hP, va_K.moved hW.alike (hK.sub (tys' := []) [] rfl), hD⟩⟩, hS.F ht⟩) hS.2.2 dX0_addSupport_50
set_option maxHeartbeats 4000000 in
set_option maxRecDepth 100000 in
theorem c_addS1 (l : Launch) (D : zG) (sz : Nat) (B : qB) (R : qR0) (N : qN0) (i k x : Nat) (hi : i < 61) (hk : k < 61) (hx0 : 0 < x) (hx1 : x ≤ 1000000) (hm : N 0 i 15 < 36) : Met l yX0_addSupport wsX0_addSupport ({ frames := 0, cells := 0, slots := 0, locals := 0 }) (zPc D (qT B) (qG B R N) sz [.ref (qA B 0 i), .ref (qA B 0 k), .int (nI x)]) (va_Qv (fun (u : qR0 × qN0) => u = (qr R i (N 0 i 15) (some (qA B 0 k)), qp (qp N 1 i (N 0 i 15) x) 0 i 15 (N 0 i 15 + 1))) (zB D (va_A (qG B R N) sz) (fun _ => []) 0 (fun u => qG B u.1 u.2)) (va_A (qG B R N) sz)) 0 0 (va_A (qG B R N) sz) := by
  refine Met.ofW (cc := cX0_addSupport) (maxL := 3) (ret := none) (by decide) rfl ?_
  intro p e s m args below meth c s₁ B9 hml hv
  obtain ⟨rfl, hsz, hP, hK, hD0⟩ := hv
  have hx := B9.exec
  have hb := B9.bytes
  have hr := B9.returns
  have hts := atoms_spec (ws := wsX0_addSupport) B9.pre
  have hown : s.vm.findClass RX0 = some m.cls := findClass_of_methodNamed B9.named
  have hlocks := B9.notSynchronized
  subst hsz
  have hD := hD0.self (sz := s.heap.size)
  generalize hAe : va_A (qG B R N) s.heap.size = A at hD ⊢
  have hA : ∀ q : Nat, s.heap.size ≤ q → A q := fun q h => by rw [← hAe]; exact Or.inr h
  have hS : va_S A s.heap s.heap [] := va_S.rf
  have hl := lv_entry ([.ref (qA B 0 i), .ref (qA B 0 k), .int (nI x)]) (n := 3) (Nat.le_of_ble_eq_true rfl)
  rw [lg_entry_eq]
  generalize (lg_sl ([.ref (qA B 0 i), .ref (qA B 0 k), .int (nI x)]) ++ List.replicate (3 - (lg_sl ([.ref (qA B 0 i), .ref (qA B 0 k), .int (nI x)])).length) Slot.unset).toArray = ls at hl ⊢
  have hl : lv_has ls 3 [(0, .ref (qA B 0 i)), (1, .ref (qA B 0 k)), (2, .int (nI x))] := hl
  have hP : va_P D vwCl (qG B R N) s.heap := hP
  generalize hRe : (headSpec _ _).room = R9
  have hRf : R9.frames = 0 := by rw [← hRe]; rfl
  have hRc : R9.cells = 0 := by rw [← hRe]; rfl
  have hRs : R9.slots = 0 := by rw [← hRe]; rfl
  have hRl : R9.locals = 0 := by rw [← hRe]; rfl
  clear hRe
  refine lv_iload_n hx hb dX0_addSupport_0 rfl (lv_at hl 2 rfl) ?_
  refine lv_if_le (tgt := 50) hx hb dX0_addSupport_1 (by decide) (fun c_2 => absurd c_2 (fun h => absurd ((nI_leI (b := 0) (by omega) (by decide)).mp h) (by omega))) (fun c_2 => ?_)
  refine lv_aload_n hx hb dX0_addSupport_4 rfl (lv_at hl 0 rfl) ?_
  refine va_get (D := D) (ci := 0) (v := .int (nI (N 0 i 15))) (C := RX0) (T := TX0) (N := 18) hx hb hts (fun _ h9 => List.mem_cons_of_mem _ (List.mem_append_right _ h9)) hown hK hP (5 + i) (qG_i (by omega)) rfl 15 (by decide) (hts (.fieldLink RX0 58 "PalletStack$Item" "supportCount" "I") (List.mem_of_getElem? (i := 1) (by rfl))) (fun _ h9 => h9) rfl dX0_addSupport_5 ?_
  refine lv_if_lt (tgt := 50) hx hb dX0_addSupport_8 (by decide) (fun c_3 => absurd c_3 (nI_pos (by omega))) (fun c_3 => ?_)
  refine lv_aload_n hx hb dX0_addSupport_11 rfl (lv_at hl 0 rfl) ?_
  refine va_get (D := D) (ci := 0) (v := .int (nI (N 0 i 15))) (C := RX0) (T := TX0) (N := 18) hx hb hts (fun _ h9 => List.mem_cons_of_mem _ (List.mem_append_right _ h9)) hown hK hP (5 + i) (qG_i (by omega)) rfl 15 (by decide) (hts (.fieldLink RX0 58 "PalletStack$Item" "supportCount" "I") (List.mem_of_getElem? (i := 1) (by rfl))) (fun _ h9 => h9) rfl dX0_addSupport_12 ?_
  refine lv_bipush (v := 36) hx hb dX0_addSupport_15 (by decide) ?_
  refine lv_icmp_ge (tgt := 50) hx hb dX0_addSupport_17 (by decide) (fun c_4 => absurd c_4 (nI_ge (b := 36) (by omega) (by decide))) (fun c_4 => ?_)
  refine lv_aload_n hx hb dX0_addSupport_20 rfl (lv_at hl 0 rfl) ?_
  refine va_get (D := D) (ci := 0) (v := .ref (qA B 1 i)) (C := RX0) (T := TX0) (N := 18) hx hb hts (fun _ h9 => List.mem_cons_of_mem _ (List.mem_append_right _ h9)) hown hK hP (5 + i) (qG_i (by omega)) rfl 16 (by decide) (hts (.fieldLink RX0 61 "PalletStack$Item" "supports" "[LPalletStack$Item;") (List.mem_of_getElem? (i := 2) (by rfl))) (fun _ h9 => h9) rfl dX0_addSupport_21 ?_
  refine lv_aload_n hx hb dX0_addSupport_24 rfl (lv_at hl 0 rfl) ?_
  refine va_get (D := D) (ci := 0) (v := .int (nI (N 0 i 15))) (C := RX0) (T := TX0) (N := 18) hx hb hts (fun _ h9 => List.mem_cons_of_mem _ (List.mem_append_right _ h9)) hown hK hP (5 + i) (qG_i (by omega)) rfl 15 (by decide) (hts (.fieldLink RX0 58 "PalletStack$Item" "supportCount" "I") (List.mem_of_getElem? (i := 1) (by rfl))) (fun _ h9 => h9) rfl dX0_addSupport_25 ?_
  refine lv_aload_n hx hb dX0_addSupport_28 rfl (lv_at hl 1 rfl) ?_
  refine va_astq hx hb hK hP hD hS (66 + i) 1 (5 + k) 0 (qG_s (by omega)) rfl (qG_i (by omega)) rfl (vp_in_nI (n := (N 0 i 15)) (N := 36) (by omega) (by decide)) dX0_addSupport_29 (fun H locs hP hD hS => ?_)
  rw [nI_clamp (by omega), qG_ps (by omega)] at hP hD
  obtain ⟨R_5, hR_5⟩ : ∃ z : qR0, z = qr R i (N 0 i 15) (some (qA B 0 k)) := ⟨_, rfl⟩
  rw [← hR_5] at hP hD
  have hP : va_P D vwCl (qG B R_5 N) H := hP
  have hD : va_D A (qG B R_5 N) := hD
  refine lv_aload_n hx hb dX0_addSupport_30 rfl (lv_at hl 0 rfl) ?_
  refine va_get (D := D) (ci := 0) (v := .ref (qA B 2 i)) (C := RX0) (T := TX0) (N := 18) hx hb hts (fun _ h9 => List.mem_cons_of_mem _ (List.mem_append_right _ h9)) hown hK hP (5 + i) (qG_i (by omega)) rfl 17 (by decide) (hts (.fieldLink RX0 65 "PalletStack$Item" "supportCells" "[I") (List.mem_of_getElem? (i := 3) (by rfl))) (fun _ h9 => h9) rfl dX0_addSupport_31 ?_
  refine lv_aload_n hx hb dX0_addSupport_34 rfl (lv_at hl 0 rfl) ?_
  refine va_get (D := D) (ci := 0) (v := .int (nI (N 0 i 15))) (C := RX0) (T := TX0) (N := 18) hx hb hts (fun _ h9 => List.mem_cons_of_mem _ (List.mem_append_right _ h9)) hown hK hP (5 + i) (qG_i (by omega)) rfl 15 (by decide) (hts (.fieldLink RX0 58 "PalletStack$Item" "supportCount" "I") (List.mem_of_getElem? (i := 1) (by rfl))) (fun _ h9 => h9) rfl dX0_addSupport_35 ?_
  refine lv_iload_n hx hb dX0_addSupport_38 rfl (lv_at hl 2 rfl) ?_
  refine va_iast hx hb hK hP hD hS (127 + i) 2 (qG_c (by omega)) rfl (vp_in_nI (n := (N 0 i 15)) (N := 36) (by omega) (by decide)) dX0_addSupport_39 (fun H locs hP hD hS => ?_)
  rw [nI_clamp (by omega)] at hP hD
  rw [qG_pc (by omega)] at hP hD
  obtain ⟨N_6, hN_6⟩ : ∃ z : qN0, z = qp N 1 i (N 0 i 15) x := ⟨_, rfl⟩
  rw [← hN_6] at hP hD
  have hP : va_P D vwCl (qG B R_5 N_6) H := hP
  have hD : va_D A (qG B R_5 N_6) := hD
  refine lv_aload_n hx hb dX0_addSupport_40 rfl (lv_at hl 0 rfl) ?_
  refine lv_dup hx hb dX0_addSupport_41 rfl ?_
  refine va_get (D := D) (ci := 0) (v := .int (nI (N_6 0 i 15))) (C := RX0) (T := TX0) (N := 18) hx hb hts (fun _ h9 => List.mem_cons_of_mem _ (List.mem_append_right _ h9)) hown hK hP (5 + i) (qG_i (by omega)) rfl 15 (by decide) (hts (.fieldLink RX0 58 "PalletStack$Item" "supportCount" "I") (List.mem_of_getElem? (i := 1) (by rfl))) (fun _ h9 => h9) rfl dX0_addSupport_42 ?_
  refine lv_topi (fun v_7 ev_7 => ?_)
  obtain rfl : v_7 = (nI (N 0 i 15)) := ev_7.trans (congrArg nI (by simp [hN_6, qp]))
  refine lv_iconst (v := 1) hx hb dX0_addSupport_45 (by decide) ?_
  refine lv_iadd hx hb dX0_addSupport_46 ?_
  refine lv_topi (fun v_8 ev_8 => ?_)
  obtain rfl : v_8 = (nI (N 0 i 15 + 1)) := ev_8.trans (nI_add _ 1)
  refine va_put (D := D) (ci := 0) (v := .int (nI (N 0 i 15 + 1))) (ty := .int) (C := RX0) (T := TX0) (N := 18) hx hb hts (fun _ h9 => List.mem_cons_of_mem _ (List.mem_append_right _ h9)) tyX0 tyX0_ok nmX0 hown hK hP hD hS (5 + i) (qG_i (by omega)) rfl 15 (by decide) (hts (.fieldLink RX0 58 "PalletStack$Item" "supportCount" "I") (List.mem_of_getElem? (i := 1) (by rfl))) (fun _ h9 => h9) rfl (by decide +kernel) rfl rfl (Nat.le_of_ble_eq_true rfl) dX0_addSupport_47 (fun H locs hP hD hS => ?_)
  rw [qG_pi (by omega) (by decide)] at hP hD
  obtain ⟨N_9, hN_9⟩ : ∃ z : qN0, z = qp N_6 0 i 15 (N 0 i 15 + 1) := ⟨_, rfl⟩
  rw [← hN_9] at hP hD
  have hP : va_P D vwCl (qG B R_5 N_9) H := hP
  have hD : va_D A (qG B R_5 N_9) := hD
  exact W.vret hx hb hr (fun t ht hW => ⟨⟨(R_5, N_9), rfl, (by rw [hR_5, hN_9, hN_6]), ⟨Nat.zero_le _, by rw [ht]; exact hP, va_K.moved hW.alike (hK.sub (tys' := []) [] rfl), hD⟩⟩, hS.F ht⟩) hS.2.2 dX0_addSupport_50
set_option maxHeartbeats 4000000 in
set_option maxRecDepth 100000 in
theorem c_findS (l : Launch) (D : zG) (sz : Nat) (B : qB) (R : qR0) (N : qN0) (hO : qOK B N) (hM : qM N) (hlen : (qsp N 60 (N 4 1 5)).length ≤ 36) (hcm : ∀ k, k < N 4 1 5 → qcm N 60 k ≤ 1000000) : Met l yX3_findSupports wsX3_findSupports ({ frames := 2, cells := 0, slots := 0, locals := 45 }) (zPc D (qT B) (qG B R N) sz [.ref (qA B 5 0)]) (va_Qv (fun (u : qR0 × qN0) => u.2 0 60 15 = (qsp N 60 (N 4 1 5)).length ∧ (∀ j, j < (qsp N 60 (N 4 1 5)).length → u.1 60 j = some (qA B 0 ((qsp N 60 (N 4 1 5)).getD j 0)) ∧ u.2 1 60 j = qcm N 60 ((qsp N 60 (N 4 1 5)).getD j 0)) ∧ (∀ i, i ≠ 60 → u.1 i = R i) ∧ (∀ c i j, ¬ (c = 0 ∧ i = 60 ∧ j = 15) → ¬ (c = 1 ∧ i = 60) → u.2 c i j = N c i j) ∧ ∀ j, u.2 1 60 j ≤ 1000000) (zB D (va_A (qG B R N) sz) (fun _ => []) 0 (fun u => qG B u.1 u.2)) (va_A (qG B R N) sz)) 0 0 (va_A (qG B R N) sz) := by
  refine Met.ofW (cc := cX3_findSupports) (maxL := 3) (ret := none) (by decide) rfl ?_
  intro p e s m args below meth c s₁ B9 hml hv
  obtain ⟨rfl, hsz, hP, hK, hD0⟩ := hv
  have hx := B9.exec
  have hb := B9.bytes
  have hr := B9.returns
  have hts := atoms_spec (ws := wsX3_findSupports) B9.pre
  have hown : s.vm.findClass RX3 = some m.cls := findClass_of_methodNamed B9.named
  have hlocks := B9.notSynchronized
  subst hsz
  have hD := hD0.self (sz := s.heap.size)
  generalize hAe : va_A (qG B R N) s.heap.size = A at hD ⊢
  have hA : ∀ q : Nat, s.heap.size ≤ q → A q := fun q h => by rw [← hAe]; exact Or.inr h
  have hS : va_S A s.heap s.heap [] := va_S.rf
  have hl := lv_entry ([.ref (qA B 5 0)]) (n := 3) (Nat.le_of_ble_eq_true rfl)
  rw [lg_entry_eq]
  generalize (lg_sl ([.ref (qA B 5 0)]) ++ List.replicate (3 - (lg_sl ([.ref (qA B 5 0)])).length) Slot.unset).toArray = ls at hl ⊢
  have hl : lv_has ls 3 [(0, .ref (qA B 5 0))] := hl
  have hP : va_P D vwCl (qG B R N) s.heap := hP
  generalize hRe : (headSpec _ _).room = R9
  have hRf : R9.frames = 2 := by rw [← hRe]; rfl
  have hRc : R9.cells = 0 := by rw [← hRe]; rfl
  have hRs : R9.slots = 0 := by rw [← hRe]; rfl
  have hRl : R9.locals = 45 := by rw [← hRe]; rfl
  clear hRe
  have o8 := hO.2.2.2.2.2.2.2.1
  obtain ⟨n, hn⟩ : ∃ n, n = N 4 1 5 := ⟨_, rfl⟩
  rw [← hn] at hlen hcm o8 ⊢
  refine lv_aload_n hx hb dX3_findSupports_0 rfl (lv_at hl 0 rfl) ?_
  refine va_get (D := D) (ci := 3) (v := .ref (qA B 0 60)) (C := RX3) (T := TX3) (N := 14) hx hb hts (fun _ h9 => List.mem_cons_of_mem _ (List.mem_append_left _ (List.mem_append_right _ h9))) hown hK hP 0 rfl rfl 11 (by decide) (hts (.fieldLink RX3 52 "PalletStack" "trial" "LPalletStack$Item;") (List.mem_of_getElem? (i := 1) (by rfl))) (fun _ h9 => h9) rfl dX3_findSupports_1 ?_
  refine lv_iconst (v := 0) hx hb dX3_findSupports_4 (by decide) ?_
  refine va_put (D := D) (ci := 0) (v := .int (nI 0)) (ty := .int) (C := RX0) (T := TX0) (N := 18) hx hb hts (fun _ h9 => List.mem_cons_of_mem _ (List.mem_append_right _ h9)) tyX0 tyX0_ok nmX0 hown hK hP hD hS (5 + 60) (qG_i (by omega)) rfl 15 (by decide) (hts (.fieldLink RX3 211 "PalletStack$Item" "supportCount" "I") (List.mem_of_getElem? (i := 2) (by rfl))) (fun _ h9 => h9) rfl (by decide +kernel) rfl rfl (Nat.le_of_ble_eq_true rfl) dX3_findSupports_5 (fun H locs hP hD hS => ?_)
  rw [qG_pi (by omega) (by decide)] at hP hD
  obtain ⟨N_10, hN_10⟩ : ∃ z : qN0, z = qp N 0 60 15 0 := ⟨_, rfl⟩
  rw [← hN_10] at hP hD
  have hP : va_P D vwCl (qG B R N_10) H := hP
  have hD : va_D A (qG B R N_10) := hD
  refine lv_iconst (v := 0) hx hb dX3_findSupports_8 (by decide) ?_
  refine lv_istore_n (lv' := [(1, .int 0), (0, .ref (qA B 5 0))]) hx hb dX3_findSupports_9 rfl hl (by decide) rfl (fun ls hl => ?_)
  generalize hQe : MQ _ _ _ _ _ _ _ = Q
  have loop : ∀ (k i : Nat), i + k = n → ∀ (R1 : qR0) (N1 : qN0) (hN : N1 0 60 15 = (qsp N 60 i).length ∧ (∀ j, j < (qsp N 60 i).length → R1 60 j = some (qA B 0 ((qsp N 60 i).getD j 0)) ∧ N1 1 60 j = qcm N 60 ((qsp N 60 i).getD j 0)) ∧ (∀ i, i ≠ 60 → R1 i = R i) ∧ ∀ c i j, ¬ (c = 0 ∧ i = 60 ∧ j = 15) → ¬ (c = 1 ∧ i = 60) → N1 c i j = N c i j) (hMj : ∀ j, N1 1 60 j ≤ 1000000) (H : Heap) (locs : List Loc) (ls : Array Slot), va_P D vwCl (qG B R1 N1) H → va_D A (qG B R1 N1) → va_S A s.heap H locs → lv_has ls 3 [(1, .int (nI i)), (0, .ref (qA B 5 0))] → W p l e R9 s m ([.ref (qA B 5 0)] : List Value).toArray below meth c H locs 0 0 Q (F0 m 10 ls []) := by
    intro k
    induction k with
    | zero =>
      intro i hi R1 N1 hN hMj H locs ls hP hD hS hl
      obtain ⟨n1, n2, n3, n4⟩ := hN
      have f5 : N1 4 1 5 = n := by rw [n4 _ _ _ (by omega) (by omega), hn]
      have hO1 : qOK B N1 := qOKs hO (fun j _ _ => n4 _ _ _ (by omega) (by omega)) (fun j _ => n4 _ _ _ (by omega) (by omega))
      obtain rfl : n = i := by omega
      have hP : va_P D vwCl (qG B R1 N1) H := hP
      have hD : va_D A (qG B R1 N1) := hD
      refine lv_iload_n hx hb dX3_findSupports_10 rfl (lv_at hl 0 rfl) ?_
      refine lv_aload_n hx hb dX3_findSupports_11 rfl (lv_at hl 1 rfl) ?_
      refine va_get (D := D) (ci := 3) (v := .int (nI (N1 4 1 5))) (C := RX3) (T := TX3) (N := 14) hx hb hts (fun _ h9 => List.mem_cons_of_mem _ (List.mem_append_left _ (List.mem_append_right _ h9))) hown hK hP 0 rfl rfl 7 (by decide) (hts (.fieldLink RX3 38 "PalletStack" "cameCount" "I") (List.mem_of_getElem? (i := 3) (by rfl))) (fun _ h9 => h9) rfl dX3_findSupports_12 ?_
      refine lv_topi (fun v_11 ev_11 => ?_)
      obtain rfl : v_11 = (nI n) := ev_11.trans (by rw [f5])
      refine lv_icmp_ge (tgt := 64) hx hb dX3_findSupports_15 (by decide) (fun c_12 => ?_) (fun c_12 => absurd (Int32.le_refl _) c_12)
      rw [← hQe]
      exact W.vret hx hb hr (fun t ht hW => ⟨⟨(R1, N1), rfl, ⟨n1, n2, n3, n4, hMj⟩, ⟨Nat.zero_le _, by rw [ht]; exact hP, va_K.moved hW.alike (hK.sub (tys' := []) [] rfl), hD⟩⟩, hS.F ht⟩) hS.2.2 dX3_findSupports_64
    | succ k ih =>
      intro i hi R1 N1 hN hMj H locs ls hP hD hS hl
      obtain ⟨n1, n2, n3, n4⟩ := hN
      have f5 : N1 4 1 5 = n := by rw [n4 _ _ _ (by omega) (by omega), hn]
      have hO1 : qOK B N1 := qOKs hO (fun j _ _ => n4 _ _ _ (by omega) (by omega)) (fun j _ => n4 _ _ _ (by omega) (by omega))
      have b9 := hM 0 i 9
      have b8 := hM 0 60 8
      have hP : va_P D vwCl (qG B R1 N1) H := hP
      have hD : va_D A (qG B R1 N1) := hD
      refine lv_iload_n hx hb dX3_findSupports_10 rfl (lv_at hl 0 rfl) ?_
      refine lv_aload_n hx hb dX3_findSupports_11 rfl (lv_at hl 1 rfl) ?_
      refine va_get (D := D) (ci := 3) (v := .int (nI (N1 4 1 5))) (C := RX3) (T := TX3) (N := 14) hx hb hts (fun _ h9 => List.mem_cons_of_mem _ (List.mem_append_left _ (List.mem_append_right _ h9))) hown hK hP 0 rfl rfl 7 (by decide) (hts (.fieldLink RX3 38 "PalletStack" "cameCount" "I") (List.mem_of_getElem? (i := 3) (by rfl))) (fun _ h9 => h9) rfl dX3_findSupports_12 ?_
      refine lv_topi (fun v_13 ev_13 => ?_)
      obtain rfl : v_13 = (nI n) := ev_13.trans (by rw [f5])
      refine lv_icmp_ge (tgt := 64) hx hb dX3_findSupports_15 (by decide) (fun c_14 => absurd c_14 (nI_ge (by omega) (by omega))) (fun c_14 => ?_)
      refine lv_aload_n hx hb dX3_findSupports_18 rfl (lv_at hl 1 rfl) ?_
      refine lv_iload_n hx hb dX3_findSupports_19 rfl (lv_at hl 0 rfl) ?_
      refine zrdVq2 (As := [.int (nI i)]) (rest := []) (wc := qG B R1 N1) ⟨hx, hb, hml, hown, hts⟩ (c_itemOf l D _ B R1 N1 i (by omega) hO1) (cwV 1 hts gX3_findSupports_X3_itemOf rfl rfl rfl (by decide +kernel) ⟨by rw [hRf]; exact Nat.le_of_ble_eq_true rfl, by rw [hRl]; exact Nat.le_of_ble_eq_true rfl⟩) hK hP hD [0, 1, 2, 3] rfl (ci := 3) (q0 := 0) rfl rfl rfl hl.1 rfl (Nat.le_of_ble_eq_true rfl) dX3_findSupports_20 ⟨by omega, by omega⟩ (fun r_15 hr_15 => ?_)
      refine W.eq (g2 := F0 m 23 ls [.ref (qA B 0 i)]) (by rw [hr_15]; rfl) ?_
      refine lv_astore_n (lv' := [(2, .ref (qA B 0 i)), (1, .int (nI i)), (0, .ref (qA B 5 0))]) hx hb dX3_findSupports_23 rfl hl (by decide) rfl (fun ls hl => ?_)
      refine lv_aload_n hx hb dX3_findSupports_24 rfl (lv_at hl 0 rfl) ?_
      refine lv_ifnull hx hb dX3_findSupports_25 ?_
      refine lv_aload_n hx hb dX3_findSupports_28 rfl (lv_at hl 0 rfl) ?_
      refine va_get (D := D) (ci := 0) (v := .int (nI (N1 0 i 9))) (C := RX0) (T := TX0) (N := 18) hx hb hts (fun _ h9 => List.mem_cons_of_mem _ (List.mem_append_right _ h9)) hown hK hP (5 + i) (qG_i (by omega)) rfl 9 (by decide) (hts (.fieldLink RX3 134 "PalletStack$Item" "top" "I") (List.mem_of_getElem? (i := 4) (by rfl))) (fun _ h9 => h9) rfl dX3_findSupports_29 ?_
      refine lv_topi (fun v_17 ev_17 => ?_)
      obtain rfl : v_17 = (nI (N 0 i 9)) := ev_17.trans (by rw [n4 _ _ _ (by omega) (by omega)])
      refine lv_aload_n hx hb dX3_findSupports_32 rfl (lv_at hl 2 rfl) ?_
      refine va_get (D := D) (ci := 3) (v := .ref (qA B 0 60)) (C := RX3) (T := TX3) (N := 14) hx hb hts (fun _ h9 => List.mem_cons_of_mem _ (List.mem_append_left _ (List.mem_append_right _ h9))) hown hK hP 0 rfl rfl 11 (by decide) (hts (.fieldLink RX3 52 "PalletStack" "trial" "LPalletStack$Item;") (List.mem_of_getElem? (i := 1) (by rfl))) (fun _ h9 => h9) rfl dX3_findSupports_33 ?_
      refine va_get (D := D) (ci := 0) (v := .int (nI (N1 0 60 8))) (C := RX0) (T := TX0) (N := 18) hx hb hts (fun _ h9 => List.mem_cons_of_mem _ (List.mem_append_right _ h9)) hown hK hP (5 + 60) (qG_i (by omega)) rfl 8 (by decide) (hts (.fieldLink RX3 131 "PalletStack$Item" "bottom" "I") (List.mem_of_getElem? (i := 5) (by rfl))) (fun _ h9 => h9) rfl dX3_findSupports_36 ?_
      refine lv_topi (fun v_18 ev_18 => ?_)
      obtain rfl : v_18 = (nI (N 0 60 8)) := ev_18.trans (by rw [n4 _ _ _ (by omega) (by omega)])
      have hM1 : qM N1 := fun c i j => by
        by_cases h1 : c = 0 ∧ i = 60 ∧ j = 15
        · obtain ⟨rfl, rfl, rfl⟩ := h1; rw [n1]; exact Nat.le_trans (Nat.le_trans (qfs_len (by omega)) hlen) (by decide)
        · by_cases h2 : c = 1 ∧ i = 60
          · obtain ⟨rfl, rfl⟩ := h2; exact hMj j
          · rw [n4 _ _ _ h1 h2]; exact hM c i j
      refine lv_icmp_ne (tgt := 58) hx hb dX3_findSupports_39 (by decide) (fun c_19 => ?_) (fun c_19 => ?_)
      · have h_b := True.intro
        have k_20 : ¬ ((N 0 i 9) = (N 0 60 8)) := fun h9 => c_19 ((qeq (a := (N 0 i 9)) (b := (N 0 60 8)) (by omega) (by omega)).mpr h9)
        have hp : qPk N 60 i = false := by
          cases h9 : qPk N 60 i
          · rfl
          · exact absurd (qPk_t.mp h9).1 k_20
        have hs : qsp N 60 (i + 1) = qsp N 60 i := qfs_skip hp
        refine lv_iinc (v := (nI (i + 1))) (lv' := [(1, .int (nI (i + 1))), (2, .ref (qA B 0 i)), (0, .ref (qA B 5 0))]) hx hb dX3_findSupports_58 hl (k := 1) rfl (nI_1 i) (by decide) rfl (fun ls hl => ?_)
        refine lv_goto (tgt := 10) hx hb dX3_findSupports_61 (by decide) ?_
        have hl := lv_sub hl (l' := [(1, .int (nI (i + 1))), (0, .ref (qA B 5 0))]) [0, 2] rfl
        refine ih (i + 1) (by omega) R1 N1 (by rw [hs]; exact ⟨n1, n2, n3, n4⟩) hMj H locs ls hP hD hS hl
      · have h_b := True.intro
        have k_21 : (N 0 i 9) = (N 0 60 8) := (qeq (a := (N 0 i 9)) (b := (N 0 60 8)) (by omega) (by omega)).mp c_19
        refine lv_aload_n hx hb dX3_findSupports_42 rfl (lv_at hl 2 rfl) ?_
        refine va_get (D := D) (ci := 3) (v := .ref (qA B 0 60)) (C := RX3) (T := TX3) (N := 14) hx hb hts (fun _ h9 => List.mem_cons_of_mem _ (List.mem_append_left _ (List.mem_append_right _ h9))) hown hK hP 0 rfl rfl 11 (by decide) (hts (.fieldLink RX3 52 "PalletStack" "trial" "LPalletStack$Item;") (List.mem_of_getElem? (i := 1) (by rfl))) (fun _ h9 => h9) rfl dX3_findSupports_43 ?_
        refine lv_aload_n hx hb dX3_findSupports_46 rfl (lv_at hl 0 rfl) ?_
        refine lv_aload_n hx hb dX3_findSupports_47 rfl (lv_at hl 2 rfl) ?_
        refine va_get (D := D) (ci := 3) (v := .ref (qA B 0 60)) (C := RX3) (T := TX3) (N := 14) hx hb hts (fun _ h9 => List.mem_cons_of_mem _ (List.mem_append_left _ (List.mem_append_right _ h9))) hown hK hP 0 rfl rfl 11 (by decide) (hts (.fieldLink RX3 52 "PalletStack" "trial" "LPalletStack$Item;") (List.mem_of_getElem? (i := 1) (by rfl))) (fun _ h9 => h9) rfl dX3_findSupports_48 ?_
        refine lv_aload_n hx hb dX3_findSupports_51 rfl (lv_at hl 0 rfl) ?_
        refine zrdV2 (As := [.ref (qA B 0 i)]) (rest := [.ref (qA B 0 i), .ref (qA B 0 60)]) (wc := qG B R1 N1) ⟨hx, hb, hml, hown, hts⟩ (c_common l D _ B R1 N1 60 i (by omega) (by omega) hM1) (cwV 1 hts gX3_findSupports_X0_cellsInCommon rfl rfl rfl (by decide +kernel) ⟨by rw [hRf]; exact Nat.le_of_ble_eq_true rfl, by rw [hRl]; exact Nat.le_of_ble_eq_true rfl⟩) hK hP hD [0, 1, 2, 3] rfl (ci := 0) (q0 := (5 + 60)) rfl (qG_i (by omega)) rfl hl.1 rfl (Nat.le_of_ble_eq_true rfl) dX3_findSupports_52 ⟨by omega, by omega⟩ (fun r_22 hr_22 => ?_)
        refine lv_topi (fun v_23 ev_23 => ?_)
        obtain rfl : v_23 = (nI (qcm N 60 i)) := ev_23.trans (hr_22.trans (by unfold qcm; rw [n4 0 60 4 (by omega) (by omega), n4 0 60 5 (by omega) (by omega), n4 0 60 6 (by omega) (by omega), n4 0 60 7 (by omega) (by omega), n4 0 i 4 (by omega) (by omega), n4 0 i 5 (by omega) (by omega), n4 0 i 6 (by omega) (by omega), n4 0 i 7 (by omega) (by omega)]))
        by_cases hq : qcm N 60 i = 0
        · have h_b := True.intro
          rw [hq]
          refine qcallvV (As := [.ref (qA B 0 i), .int (nI 0)]) (rest := []) (ws := qG B R1 N1) ⟨hx, hb, hml, hown, hts⟩ (c_addS0 l D _ B R1 N1 60 i (by omega)) (cwV 2 hts gX3_findSupports_X0_addSupport rfl rfl rfl (by decide +kernel) ⟨by rw [hRf]; exact Nat.le_of_ble_eq_true rfl, by rw [hRl]; exact Nat.le_of_ble_eq_true rfl⟩) hK hP hD hS hA [0, 1, 2, 3] rfl (ci := 0) (q0 := (5 + 60)) rfl (qG_i (by omega)) rfl hl.1 rfl (Nat.le_of_ble_eq_true rfl) dX3_findSupports_55 ⟨by omega, by omega⟩ (fun u_25 H locs hwu_25 hP hD hS => ?_)
          subst hwu_25
          have hP : va_P D vwCl (qG B R1 N1) H := hP
          have hD : va_D A (qG B R1 N1) := hD
          have hp : qPk N 60 i = false := by
            cases h9 : qPk N 60 i
            · rfl
            · have := (qPk_t.mp h9).2; omega
          have hs : qsp N 60 (i + 1) = qsp N 60 i := qfs_skip hp
          refine lv_iinc (v := (nI (i + 1))) (lv' := [(1, .int (nI (i + 1))), (2, .ref (qA B 0 i)), (0, .ref (qA B 5 0))]) hx hb dX3_findSupports_58 hl (k := 1) rfl (nI_1 i) (by decide) rfl (fun ls hl => ?_)
          refine lv_goto (tgt := 10) hx hb dX3_findSupports_61 (by decide) ?_
          have hl := lv_sub hl (l' := [(1, .int (nI (i + 1))), (0, .ref (qA B 5 0))]) [0, 2] rfl
          refine ih (i + 1) (by omega) R1 N1 (by rw [hs]; exact ⟨n1, n2, n3, n4⟩) hMj H locs ls hP hD hS hl
        · have h_b := True.intro
          have hp : qPk N 60 i = true := qPk_t.mpr ⟨k_21, by omega⟩
          have hs : qsp N 60 (i + 1) = qsp N 60 i ++ [i] := qfs_app hp
          have hl2 : (qsp N 60 (i + 1)).length ≤ 36 := Nat.le_trans (qfs_len (by omega)) hlen
          rw [hs, List.length_append] at hl2
          have hl3 : (qsp N 60 i).length + 1 ≤ 36 := hl2
          have hcm := hcm i (by omega)
          refine qcallvV (As := [.ref (qA B 0 i), .int (nI (qcm N 60 i))]) (rest := []) (ws := qG B R1 N1) ⟨hx, hb, hml, hown, hts⟩ (c_addS1 l D _ B R1 N1 60 i (qcm N 60 i) (by omega) (by omega) (by omega) hcm (by omega)) (cwV 2 hts gX3_findSupports_X0_addSupport rfl rfl rfl (by decide +kernel) ⟨by rw [hRf]; exact Nat.le_of_ble_eq_true rfl, by rw [hRl]; exact Nat.le_of_ble_eq_true rfl⟩) hK hP hD hS hA [0, 1, 2, 3] rfl (ci := 0) (q0 := (5 + 60)) rfl (qG_i (by omega)) rfl hl.1 rfl (Nat.le_of_ble_eq_true rfl) dX3_findSupports_55 ⟨by omega, by omega⟩ (fun u_27 H locs hwu_27 hP hD hS => ?_)
          obtain ⟨R2, N2⟩ := u_27
          simp only [Prod.mk.injEq] at hwu_27
          obtain ⟨e1, e2⟩ := hwu_27
          have hP : va_P D vwCl (qG B R2 N2) H := hP
          have hD : va_D A (qG B R2 N2) := hD
          have g1 : N2 0 60 15 = (qsp N 60 i).length + 1 := by rw [e2, qp_eq, n1]
          have g2 : ∀ j, N2 1 60 j = if j = (qsp N 60 i).length then qcm N 60 i else N1 1 60 j := fun j => by rw [e2, qp_c _ _ _ _ _ _ (by decide), n1]; simp [qp]
          have g3 : ∀ j, R2 60 j = if j = (qsp N 60 i).length then some (qA B 0 i) else R1 60 j := fun j => by rw [e1, n1]; simp [qr]
          have g4 : ∀ i, i ≠ 60 → R2 i = R i := fun i hi => by rw [← n3 i hi, e1]; funext j; simp [qr, hi]
          have g5 : ∀ c i j, ¬ (c = 0 ∧ i = 60 ∧ j = 15) → ¬ (c = 1 ∧ i = 60) → N2 c i j = N c i j := fun c i j h1 h2 => by rw [← n4 c i j h1 h2, e2]; unfold qp; rw [if_neg h1, if_neg (fun h9 => h2 ⟨h9.1, h9.2.1⟩)]
          refine lv_iinc (v := (nI (i + 1))) (lv' := [(1, .int (nI (i + 1))), (2, .ref (qA B 0 i)), (0, .ref (qA B 5 0))]) hx hb dX3_findSupports_58 hl (k := 1) rfl (nI_1 i) (by decide) rfl (fun ls hl => ?_)
          refine lv_goto (tgt := 10) hx hb dX3_findSupports_61 (by decide) ?_
          have hl := lv_sub hl (l' := [(1, .int (nI (i + 1))), (0, .ref (qA B 5 0))]) [0, 2] rfl
          refine ih (i + 1) (by omega) R2 N2 ⟨?_, fun j hj => ?_, g4, g5⟩ (fun j => by rw [g2]; split; exact hcm; exact hMj j) H locs ls hP hD hS hl
          · rw [hs, List.length_append, g1]; rfl
          · rw [hs, List.length_append] at hj; have hj : j < (qsp N 60 i).length + 1 := hj
            rw [hs, g2, g3]
            by_cases h9 : j = (qsp N 60 i).length
            · subst h9; rw [if_pos rfl, if_pos rfl, qgd_r]; exact ⟨rfl, rfl⟩
            · rw [if_neg h9, if_neg h9, qgd_l (by omega)]; exact n2 j (by omega)
  refine loop n 0 (by omega) R N_10 ⟨by rw [hN_10]; exact qp_eq _ _ _ _ _, fun j hj => absurd hj (Nat.not_lt_zero j), fun _ _ => rfl, fun c i j h1 h2 => by rw [hN_10]; exact if_neg h1⟩ (fun j => by rw [hN_10, qp_c _ _ _ _ _ _ (by decide)]; exact hM 1 60 j) H locs ls hP hD hS hl
set_option maxHeartbeats 4000000 in
set_option maxRecDepth 100000 in
theorem c_tooMuch (l : Launch) (D : zG) (sz : Nat) (B : qB) (R : qR0) (N : qN0) (hO : qOK B N) (hM : qM N) (S : Nat → Nat → Nat) (hS9 : qS9 B R N S (N 4 1 5)) (hT9 : N 0 60 15 ≤ 36 ∧ 0 < N 0 60 10 ∧ N 0 60 1 ≤ 1000 ∧ ∀ j, j < N 0 60 15 → R 60 j = some (qA B 0 (S 60 j)) ∧ S 60 j < N 4 1 5 ∧ N 1 60 j ≤ 36) (hLb : ∀ k i, k ≤ N 4 1 5 + 1 → i < N 4 1 5 + 1 → qLN (qSx S (N 4 1 5)) (qx N (N 4 1 5)) (N 4 1 5 + 1) k i ≤ 1000000) : Met l yX3_isTooMuchLoad wsX3_isTooMuchLoad ({ frames := 2, cells := 0, slots := 0, locals := 45 }) (zPc D (qT B) (qG B R N) sz [.ref (qA B 5 0)]) (va_Qi (fun (r : Int32) (u : qN0) => (∀ c i j, ¬ (c = 0 ∧ j = 12 ∧ (i < N 4 1 5 ∨ i = 60)) → u c i j = N c i j) ∧ (∀ i, u 0 i 12 ≤ 1000000) ∧ (r = 0 → ∀ i, i < N 4 1 5 → qLN (qSx S (N 4 1 5)) (qx N (N 4 1 5)) (N 4 1 5 + 1) (N 4 1 5 + 1) i ≤ N 0 i 2)) (zB D (va_A (qG B R N) sz) (fun _ => []) 0 (fun u => qG B R u)) (va_A (qG B R N) sz)) 0 0 (va_A (qG B R N) sz) := by
  refine Met.ofW (cc := cX3_isTooMuchLoad) (maxL := 3) (ret := (some .boolean)) (by decide) rfl ?_
  intro p e s m args below meth c s₁ B9 hml hv
  obtain ⟨rfl, hsz, hP, hK, hD0⟩ := hv
  have hx := B9.exec
  have hb := B9.bytes
  have hr := B9.returns
  have hts := atoms_spec (ws := wsX3_isTooMuchLoad) B9.pre
  have hown : s.vm.findClass RX3 = some m.cls := findClass_of_methodNamed B9.named
  have hlocks := B9.notSynchronized
  subst hsz
  have hD := hD0.self (sz := s.heap.size)
  generalize hAe : va_A (qG B R N) s.heap.size = A at hD ⊢
  have hA : ∀ q : Nat, s.heap.size ≤ q → A q := fun q h => by rw [← hAe]; exact Or.inr h
  have hS : va_S A s.heap s.heap [] := va_S.rf
  have hl := lv_entry ([.ref (qA B 5 0)]) (n := 3) (Nat.le_of_ble_eq_true rfl)
  rw [lg_entry_eq]
  generalize (lg_sl ([.ref (qA B 5 0)]) ++ List.replicate (3 - (lg_sl ([.ref (qA B 5 0)])).length) Slot.unset).toArray = ls at hl ⊢
  have hl : lv_has ls 3 [(0, .ref (qA B 5 0))] := hl
  have hP : va_P D vwCl (qG B R N) s.heap := hP
  generalize hRe : (headSpec _ _).room = R9
  have hRf : R9.frames = 2 := by rw [← hRe]; rfl
  have hRc : R9.cells = 0 := by rw [← hRe]; rfl
  have hRs : R9.slots = 0 := by rw [← hRe]; rfl
  have hRl : R9.locals = 45 := by rw [← hRe]; rfl
  clear hRe
  have o8 := hO.2.2.2.2.2.2.2.1
  refine lv_aload_n hx hb dX3_isTooMuchLoad_0 rfl (lv_at hl 0 rfl) ?_
  refine qcallvV (As := []) (rest := []) (ws := qG B R N) ⟨hx, hb, hml, hown, hts⟩ (c_forget l D _ B R N hO) (cwV 0 hts gX3_isTooMuchLoad_X3_forgetNextLoads rfl rfl rfl (by decide +kernel) ⟨by rw [hRf]; exact Nat.le_of_ble_eq_true rfl, by rw [hRl]; exact Nat.le_of_ble_eq_true rfl⟩) hK hP hD hS hA [0, 1, 2, 3] rfl (ci := 3) (q0 := 0) rfl rfl rfl hl.1 rfl (Nat.le_of_ble_eq_true rfl) dX3_isTooMuchLoad_1 ⟨by omega, by omega⟩ (fun u_29 H locs hwu_29 hP hD hS => ?_)
  obtain ⟨n, hn⟩ : ∃ n, n = N 4 1 5 := ⟨_, rfl⟩
  rw [← hn] at hwu_29 hS9 hT9 hLb o8 ⊢
  have hP : va_P D vwCl (qG B R u_29) H := hP
  have hD : va_D A (qG B R u_29) := hD
  obtain ⟨t1, t2, t3, t4⟩ := hT9
  refine lv_aload_n hx hb dX3_isTooMuchLoad_4 rfl (lv_at hl 0 rfl) ?_
  refine va_get (D := D) (ci := 3) (v := .ref (qA B 0 60)) (C := RX3) (T := TX3) (N := 14) hx hb hts (fun _ h9 => List.mem_cons_of_mem _ (List.mem_append_left _ (List.mem_append_right _ h9))) hown hK hP 0 rfl rfl 11 (by decide) (hts (.fieldLink RX3 52 "PalletStack" "trial" "LPalletStack$Item;") (List.mem_of_getElem? (i := 1) (by rfl))) (fun _ h9 => h9) rfl dX3_isTooMuchLoad_5 ?_
  refine lv_iconst (v := 0) hx hb dX3_isTooMuchLoad_8 (by decide) ?_
  refine va_put (D := D) (ci := 0) (v := .int (nI 0)) (ty := .int) (C := RX0) (T := TX0) (N := 18) hx hb hts (fun _ h9 => List.mem_cons_of_mem _ (List.mem_append_right _ h9)) tyX0 tyX0_ok nmX0 hown hK hP hD hS (5 + 60) (qG_i (by omega)) rfl 12 (by decide) (hts (.fieldLink RX3 233 "PalletStack$Item" "nextLoad" "I") (List.mem_of_getElem? (i := 2) (by rfl))) (fun _ h9 => h9) rfl (by decide +kernel) rfl rfl (Nat.le_of_ble_eq_true rfl) dX3_isTooMuchLoad_9 (fun H locs hP hD hS => ?_)
  rw [qG_pi (by omega) (by decide)] at hP hD
  obtain ⟨N_30, hN_30⟩ : ∃ z : qN0, z = qp u_29 0 60 12 0 := ⟨_, rfl⟩
  rw [← hN_30] at hP hD
  have hP : va_P D vwCl (qG B R N_30) H := hP
  have hD : va_D A (qG B R N_30) := hD
  have e2 : ∀ c i j, c ≠ 0 ∨ j ≠ 12 → N_30 c i j = N c i j := fun c i j h => by rw [hN_30]; unfold qp; rw [if_neg (fun h9 => by omega), hwu_29]; exact qz_ne _ _ (by omega)
  have e3 : ∀ i, i < n → N_30 0 i 12 = 0 := fun i hi => by rw [hN_30, qp_i _ _ _ _ _ _ (show i ≠ 60 by omega), hwu_29]; unfold qz; rw [if_pos ⟨rfl, rfl, hi⟩]
  have e4 : N_30 0 60 12 = 0 := by rw [hN_30]; exact qp_eq _ _ _ _ _
  have hM2 : qM N_30 := by rw [hN_30]; exact qM_p (by rw [hwu_29]; exact qz_M hM) (by decide)
  have e6 : ∀ i, n ≤ i → i ≠ 60 → N_30 0 i 12 = N 0 i 12 := fun i hi h6 => by rw [hN_30, qp_i _ _ _ _ _ _ h6, hwu_29]; exact qz_ne _ _ (by omega)
  have hP : va_P D vwCl (qG B R N_30) H := hP
  have hD : va_D A (qG B R N_30) := hD
  refine lv_aload_n hx hb dX3_isTooMuchLoad_12 rfl (lv_at hl 0 rfl) ?_
  refine va_get (D := D) (ci := 3) (v := .ref (qA B 0 60)) (C := RX3) (T := TX3) (N := 14) hx hb hts (fun _ h9 => List.mem_cons_of_mem _ (List.mem_append_left _ (List.mem_append_right _ h9))) hown hK hP 0 rfl rfl 11 (by decide) (hts (.fieldLink RX3 52 "PalletStack" "trial" "LPalletStack$Item;") (List.mem_of_getElem? (i := 1) (by rfl))) (fun _ h9 => h9) rfl dX3_isTooMuchLoad_13 ?_
  refine qcallvV (As := []) (rest := []) (ws := qG B R N_30) ⟨hx, hb, hml, hown, hts⟩ (c_pass l D _ B R N_30 60 (by omega) (S 60) (fun j hj => by rw [e2 _ _ _ (by omega)] at hj; obtain ⟨a1, a2, a3⟩ := t4 j hj; exact ⟨a1, by omega, by omega, by rw [e2 _ _ _ (by omega)]; exact a3⟩) (by rw [e2 _ _ _ (by omega)]; exact t1) (by rw [e2 _ _ _ (by omega)]; exact t2) hM2 (by rw [e2 _ _ _ (by omega)]; exact t3)) (cwV 0 hts gX3_isTooMuchLoad_X0_passLoadDown rfl rfl rfl (by decide +kernel) ⟨by rw [hRf]; exact Nat.le_of_ble_eq_true rfl, by rw [hRl]; exact Nat.le_of_ble_eq_true rfl⟩) hK hP hD hS hA [0, 1, 2, 3] rfl (ci := 0) (q0 := (5 + 60)) rfl (qG_i (by omega)) rfl hl.1 rfl (Nat.le_of_ble_eq_true rfl) dX3_isTooMuchLoad_16 ⟨by omega, by omega⟩ (fun u_32 H locs hwu_32 hP hD hS => ?_)
  have hP : va_P D vwCl (qG B R u_32) H := hP
  have hD : va_D A (qG B R u_32) := hD
  rw [e2 0 60 1 (by omega), e2 0 60 10 (by omega), e4, e2 0 60 15 (by omega), show N_30 1 60 = N 1 60 by funext j; exact e2 _ _ _ (by omega)] at hwu_32
  obtain ⟨Sx, hSx⟩ : ∃ z, z = qSx S n := ⟨_, rfl⟩
  obtain ⟨Nx, hNx⟩ : ∃ z, z = qx N n := ⟨_, rfl⟩
  rw [← hSx, ← hNx] at hLb ⊢
  have x1 : ∀ i, i < n → Nx 0 i = N 0 i ∧ Nx 1 i = N 1 i ∧ Sx i = S i := fun i hi => by rw [hNx, hSx]; exact ⟨qx_i _ _ (by omega), qx_i _ _ (by omega), qSx_i _ (by omega)⟩
  have x2 : Nx 0 n = N 0 60 ∧ Nx 1 n = N 1 60 ∧ Sx n = S 60 := by rw [hNx, hSx]; exact ⟨qx_n _ _ _ (by decide), qx_n _ _ _ (by decide), qSx_n _ _⟩
  have y1 : ∀ i, i < n → u_32 0 i 12 = qLN Sx Nx (n + 1) 1 i := fun i hi => by
    rw [hwu_32, qcol_eq, qLN_1, show n + 1 - 1 - 0 = n by omega, x2.1, x2.2.1, x2.2.2]
    exact qPs_congr (n := n) (fun j hj => (t4 j hj).2.1) (fun _ _ => rfl) (fun i9 h9 => e3 i9 h9) i hi
  have y2 : ∀ c i j, ¬ (c = 0 ∧ j = 12 ∧ (i < n ∨ i = 60)) → u_32 c i j = N c i j := fun c i j h => by
    by_cases h9 : c = 0 ∧ j = 12
    · obtain ⟨rfl, rfl⟩ := h9; rw [hwu_32, qcol_eq, qPs_ne (fun j9 h9 => by have := (t4 j9 h9).2.1; omega), e6 i (by omega) (by omega)]
    · rw [hwu_32, qcol_ne _ _ (by omega)]; exact e2 _ _ _ (by omega)
  have y3 : u_32 0 60 12 = 0 := by rw [hwu_32, qcol_eq, qPs_ne (fun j9 h9 => by have := (t4 j9 h9).2.1; omega)]; exact e4
  have e5 : u_32 4 1 5 = n := by rw [y2 _ _ _ (by omega), hn]
  refine lv_aload_n hx hb dX3_isTooMuchLoad_19 rfl (lv_at hl 0 rfl) ?_
  refine va_get (D := D) (ci := 3) (v := .int (nI (u_32 4 1 5))) (C := RX3) (T := TX3) (N := 14) hx hb hts (fun _ h9 => List.mem_cons_of_mem _ (List.mem_append_left _ (List.mem_append_right _ h9))) hown hK hP 0 rfl rfl 7 (by decide) (hts (.fieldLink RX3 38 "PalletStack" "cameCount" "I") (List.mem_of_getElem? (i := 3) (by rfl))) (fun _ h9 => h9) rfl dX3_isTooMuchLoad_20 ?_
  refine lv_topi (fun v_33 ev_33 => ?_)
  obtain rfl : v_33 = (nI n) := ev_33.trans (by rw [e5])
  refine lv_iconst (v := 1) hx hb dX3_isTooMuchLoad_23 (by decide) ?_
  refine lv_isub hx hb dX3_isTooMuchLoad_24 ?_
  refine lv_istore_n (lv' := [(1, .int (nI n - 1)), (0, .ref (qA B 5 0))]) hx hb dX3_isTooMuchLoad_25 rfl hl (by decide) rfl (fun ls hl => ?_)
  generalize hQe : MQ _ _ _ _ _ _ _ = Q
  have hl := lv_sub hl (l' := [(1, .int (nI n - 1)), (0, .ref (qA B 5 0))]) [0, 1] rfl
  have loop : ∀ (r9 k : Nat), k + r9 = n + 1 → 0 < k → ∀ (N1 : qN0) (hN : (∀ c i j, ¬ (c = 0 ∧ j = 12 ∧ (i < n ∨ i = 60)) → N1 c i j = N c i j) ∧ (∀ i, i < n → N1 0 i 12 = qLN Sx Nx (n + 1) k i) ∧ N1 0 60 12 = 0 ∧ ∀ i, i < n → n + 1 ≤ i + k → qLN Sx Nx (n + 1) k i ≤ N 0 i 2) (H : Heap) (locs : List Loc) (ls : Array Slot), va_P D vwCl (qG B R N1) H → va_D A (qG B R N1) → va_S A s.heap H locs → lv_has ls 3 [(1, .int (nI (n + 1 - k) - 1)), (0, .ref (qA B 5 0))] → W p l e R9 s m ([.ref (qA B 5 0)] : List Value).toArray below meth c H locs 0 0 Q (F0 m 26 ls []) := by
    intro r9
    induction r9 with
    | zero =>
      intro k hk hk0 N1 hN H locs ls hP hD hS hl
      obtain ⟨n1, n2, n3, n4⟩ := hN
      have f5 : N1 4 1 5 = n := by rw [n1 _ _ _ (by omega), hn]
      have hO1 : qOK B N1 := qOKs hO (fun j _ _ => n1 _ _ _ (by omega)) (fun j _ => n1 _ _ _ (by omega))
      have hM1 : qM N1 := fun c i j => by
        by_cases h9 : c = 0 ∧ j = 12 ∧ (i < n ∨ i = 60)
        · obtain ⟨rfl, rfl, h9 | h9⟩ := h9
          · rw [n2 i h9]; exact hLb k i (by omega) (by omega)
          · subst h9; rw [n3]; decide
        · rw [n1 c i j h9]; exact hM c i j
      obtain rfl : k = n + 1 := by omega
      have hP : va_P D vwCl (qG B R N1) H := hP
      have hD : va_D A (qG B R N1) := hD
      refine lv_iload_n hx hb dX3_isTooMuchLoad_26 rfl (lv_at hl 0 rfl) ?_
      refine lv_if_lt (tgt := 67) hx hb dX3_isTooMuchLoad_27 (by decide) (fun c_34 => ?_) (fun c_34 => absurd (by rw [Nat.sub_self]; decide) c_34)
      refine lv_iconst (v := 0) hx hb dX3_isTooMuchLoad_67 (by decide) ?_
      rw [← hQe]
      exact W.zret (ty := .boolean) (v := 0) hx hb hr rfl (fun t ht hW => ⟨⟨0, N1, rfl, ⟨n1, fun i => hM1 0 i 12, fun _ i hi => n4 i hi (by omega)⟩, ⟨Nat.zero_le _, by rw [ht]; exact hP, va_K.moved hW.alike (hK.sub (tys' := []) [] rfl), hD⟩⟩, hS.F ht⟩) hS.2.2 dX3_isTooMuchLoad_68
    | succ r9 ih =>
      intro k hk hk0 N1 hN H locs ls hP hD hS hl
      obtain ⟨n1, n2, n3, n4⟩ := hN
      have f5 : N1 4 1 5 = n := by rw [n1 _ _ _ (by omega), hn]
      have hO1 : qOK B N1 := qOKs hO (fun j _ _ => n1 _ _ _ (by omega)) (fun j _ => n1 _ _ _ (by omega))
      have hM1 : qM N1 := fun c i j => by
        by_cases h9 : c = 0 ∧ j = 12 ∧ (i < n ∨ i = 60)
        · obtain ⟨rfl, rfl, h9 | h9⟩ := h9
          · rw [n2 i h9]; exact hLb k i (by omega) (by omega)
          · subst h9; rw [n3]; decide
        · rw [n1 c i j h9]; exact hM c i j
      obtain ⟨t, ht⟩ : ∃ t, t = n - k := ⟨_, rfl⟩
      have ht0 : n + 1 - 1 - k = t := by omega
      have ht1 : nI (n + 1 - k) - 1 = nI t := by rw [show n + 1 - k = t + 1 by omega]; exact nI_pred t
      obtain ⟨m1, m2, m3, m4⟩ := hS9 t (by omega)
      rw [ht1] at hl
      have b2 := hM 0 t 2
      have hLt := hLb k t (by omega) (by omega)
      obtain ⟨x3, x4, x5⟩ := x1 t (by omega)
      have hP : va_P D vwCl (qG B R N1) H := hP
      have hD : va_D A (qG B R N1) := hD
      refine lv_iload_n hx hb dX3_isTooMuchLoad_26 rfl (lv_at hl 0 rfl) ?_
      refine lv_if_lt (tgt := 67) hx hb dX3_isTooMuchLoad_27 (by decide) (fun c_35 => absurd c_35 (nI_pos (by omega))) (fun c_35 => ?_)
      refine lv_aload_n hx hb dX3_isTooMuchLoad_30 rfl (lv_at hl 1 rfl) ?_
      refine lv_iload_n hx hb dX3_isTooMuchLoad_31 rfl (lv_at hl 0 rfl) ?_
      refine zrdVq2 (As := [.int (nI t)]) (rest := []) (wc := qG B R N1) ⟨hx, hb, hml, hown, hts⟩ (c_itemOf l D _ B R N1 t (by omega) hO1) (cwV 1 hts gX3_isTooMuchLoad_X3_itemOf rfl rfl rfl (by decide +kernel) ⟨by rw [hRf]; exact Nat.le_of_ble_eq_true rfl, by rw [hRl]; exact Nat.le_of_ble_eq_true rfl⟩) hK hP hD [0, 1, 2, 3] rfl (ci := 3) (q0 := 0) rfl rfl rfl hl.1 rfl (Nat.le_of_ble_eq_true rfl) dX3_isTooMuchLoad_32 ⟨by omega, by omega⟩ (fun r_36 hr_36 => ?_)
      refine W.eq (g2 := F0 m 35 ls [.ref (qA B 0 t)]) (by rw [hr_36]; rfl) ?_
      refine lv_astore_n (lv' := [(2, .ref (qA B 0 t)), (1, .int (nI t)), (0, .ref (qA B 5 0))]) hx hb dX3_isTooMuchLoad_35 rfl hl (by decide) rfl (fun ls hl => ?_)
      refine lv_aload_n hx hb dX3_isTooMuchLoad_36 rfl (lv_at hl 0 rfl) ?_
      refine lv_ifnull hx hb dX3_isTooMuchLoad_37 ?_
      refine lv_aload_n hx hb dX3_isTooMuchLoad_40 rfl (lv_at hl 0 rfl) ?_
      refine va_get (D := D) (ci := 0) (v := .int (nI (N1 0 t 12))) (C := RX0) (T := TX0) (N := 18) hx hb hts (fun _ h9 => List.mem_cons_of_mem _ (List.mem_append_right _ h9)) hown hK hP (5 + t) (qG_i (by omega)) rfl 12 (by decide) (hts (.fieldLink RX3 233 "PalletStack$Item" "nextLoad" "I") (List.mem_of_getElem? (i := 2) (by rfl))) (fun _ h9 => h9) rfl dX3_isTooMuchLoad_41 ?_
      refine lv_topi (fun v_38 ev_38 => ?_)
      obtain rfl : v_38 = (nI (qLN Sx Nx (n + 1) k t)) := ev_38.trans (by rw [n2 t (by omega)])
      refine lv_aload_n hx hb dX3_isTooMuchLoad_44 rfl (lv_at hl 0 rfl) ?_
      refine va_get (D := D) (ci := 0) (v := .int (nI (N1 0 t 2))) (C := RX0) (T := TX0) (N := 18) hx hb hts (fun _ h9 => List.mem_cons_of_mem _ (List.mem_append_right _ h9)) hown hK hP (5 + t) (qG_i (by omega)) rfl 2 (by decide) (hts (.fieldLink RX3 242 "PalletStack$Item" "strength" "I") (List.mem_of_getElem? (i := 4) (by rfl))) (fun _ h9 => h9) rfl dX3_isTooMuchLoad_45 ?_
      refine lv_topi (fun v_39 ev_39 => ?_)
      obtain rfl : v_39 = (nI (N 0 t 2)) := ev_39.trans (by rw [n1 _ _ _ (by omega)])
      refine lv_icmp_le (tgt := 53) hx hb dX3_isTooMuchLoad_48 (by decide) (fun c_40 => ?_) (fun c_40 => ?_)
      · have h_b := True.intro
        have k_41 : (qLN Sx Nx (n + 1) k t) ≤ (N 0 t 2) := (nI_leI (a := (qLN Sx Nx (n + 1) k t)) (b := (N 0 t 2)) (by omega) (by omega)).mp c_40
        refine lv_aload_n hx hb dX3_isTooMuchLoad_53 rfl (lv_at hl 0 rfl) ?_
        refine lv_ifnull hx hb dX3_isTooMuchLoad_54 ?_
        refine lv_aload_n hx hb dX3_isTooMuchLoad_57 rfl (lv_at hl 0 rfl) ?_
        refine qcallvV (As := []) (rest := []) (ws := qG B R N1) ⟨hx, hb, hml, hown, hts⟩ (c_pass l D _ B R N1 t (by omega) (S t) (fun j hj => by rw [n1 _ _ _ (by omega)] at hj; obtain ⟨a1, a2, a3⟩ := m4 j hj; exact ⟨a1, by omega, by omega, by rw [n1 _ _ _ (by omega)]; exact a3⟩) (by rw [n1 _ _ _ (by omega)]; exact m1) (by rw [n1 _ _ _ (by omega)]; exact m2) hM1 (by rw [n1 _ _ _ (by omega)]; exact m3)) (cwV 0 hts gX3_isTooMuchLoad_X0_passLoadDown rfl rfl rfl (by decide +kernel) ⟨by rw [hRf]; exact Nat.le_of_ble_eq_true rfl, by rw [hRl]; exact Nat.le_of_ble_eq_true rfl⟩) hK hP hD hS hA [0, 1, 2, 3] rfl (ci := 0) (q0 := (5 + t)) rfl (qG_i (by omega)) rfl hl.1 rfl (Nat.le_of_ble_eq_true rfl) dX3_isTooMuchLoad_58 ⟨by omega, by omega⟩ (fun u_44 H locs hwu_44 hP hD hS => ?_)
        have hP : va_P D vwCl (qG B R u_44) H := hP
        have hD : va_D A (qG B R u_44) := hD
        rw [n1 0 t 1 (by omega), n1 0 t 10 (by omega), n2 t (by omega), n1 0 t 15 (by omega), show N1 1 t = N 1 t by funext j; exact n1 _ _ _ (by omega)] at hwu_44
        have s1 : ∀ i, i < n → u_44 0 i 12 = qLN Sx Nx (n + 1) (k + 1) i := fun i hi => by
          rw [hwu_44, qcol_eq, qLN_1, ht0, x3, x4, x5]
          exact qPs_congr (n := n) (fun j hj => by have := (m4 j hj).2.1; omega) (fun _ _ => rfl) (fun i9 h9 => n2 i9 h9) i hi
        have s2 : ∀ c i j, ¬ (c = 0 ∧ j = 12 ∧ (i < n ∨ i = 60)) → u_44 c i j = N c i j := fun c i j h => by
          by_cases h9 : c = 0 ∧ j = 12
          · rw [hwu_44]; unfold qcol; rw [if_pos h9]; obtain ⟨rfl, rfl⟩ := h9; rw [qPs_ne (fun j9 h9 => by have := (m4 j9 h9).2.1; omega)]; exact n1 _ _ _ h
          · rw [hwu_44, qcol_ne _ _ (by omega)]; exact n1 _ _ _ h
        have s3 : u_44 0 60 12 = 0 := by rw [hwu_44, qcol_eq, qPs_ne (fun j9 h9 => by have := (m4 j9 h9).2.1; omega)]; exact n3
        have s4 : ∀ i, t ≤ i → qLN Sx Nx (n + 1) (k + 1) i = qLN Sx Nx (n + 1) k i := fun i hi => by rw [qLN_1, ht0, x3, x4, x5]; exact qPs_ne (fun j9 h9 => by have := (m4 j9 h9).2.1; omega)
        have ht2 : nI t + -1 = nI (n + 1 - (k + 1)) - 1 := by rw [show n + 1 - (k + 1) = t by omega]; exact (Int32.sub_eq_add_neg _ _).symm
        refine lv_iinc (v := (nI (n + 1 - (k + 1)) - 1)) (lv' := [(1, .int (nI (n + 1 - (k + 1)) - 1)), (2, .ref (qA B 0 t)), (0, .ref (qA B 5 0))]) hx hb dX3_isTooMuchLoad_61 hl (k := 1) rfl (ht2) (by decide) rfl (fun ls hl => ?_)
        refine lv_goto (tgt := 26) hx hb dX3_isTooMuchLoad_64 (by decide) ?_
        have hl := lv_sub hl (l' := [(1, .int (nI (n + 1 - (k + 1)) - 1)), (0, .ref (qA B 5 0))]) [0, 2] rfl
        refine ih (k + 1) (by omega) (by omega) u_44 ⟨s2, s1, s3, fun i h1 h2 => ?_⟩ H locs ls hP hD hS hl
        rw [s4 i (by omega)]
        by_cases h9 : i = t
        · subst h9; omega
        · exact n4 i h1 (by omega)
      · have h_b := True.intro
        have k_45 : ¬ ((qLN Sx Nx (n + 1) k t) ≤ (N 0 t 2)) := fun h9 => c_40 ((nI_leI (a := (qLN Sx Nx (n + 1) k t)) (b := (N 0 t 2)) (by omega) (by omega)).mpr h9)
        refine lv_iconst (v := 1) hx hb dX3_isTooMuchLoad_51 (by decide) ?_
        rw [← hQe]
        exact W.zret (ty := .boolean) (v := 1) hx hb hr rfl (fun t ht hW => ⟨⟨1, N1, rfl, ⟨n1, fun i => hM1 0 i 12, fun h => absurd h (by decide)⟩, ⟨Nat.zero_le _, by rw [ht]; exact hP, va_K.moved hW.alike (hK.sub (tys' := []) [] rfl), hD⟩⟩, hS.F ht⟩) hS.2.2 dX3_isTooMuchLoad_52
  have hstart : nI n - 1 = nI (n + 1 - 1) - 1 := by rw [Nat.add_sub_cancel]
  rw [hstart] at hl
  exact loop n 1 (by omega) (by omega) u_32 ⟨y2, y1, y3, fun i h1 h2 => by omega⟩ H locs ls hP hD hS hl
end
section
set_option maxHeartbeats 4000000 in
set_option maxRecDepth 100000 in
theorem c_shape (l : Launch) (D : zG) (sz : Nat) (B : qB) (R : qR0) (N : qN0) (k t : Nat) (hk : k < qk B) (ht : t < 2) (hM : qM N) : Met l yX0_shape wsX0_shape ({ frames := 0, cells := 0, slots := 0, locals := 0 }) (zPc D (qT B) (qG B R N) sz [.ref (qA B 0 60), .ref (qA B 3 k), .int (nI t)]) (va_Qv (fun (u : qN0) => u = qsh N k t) (zB D (va_A (qG B R N) sz) (fun _ => []) 0 (fun u => qG B R u)) (va_A (qG B R N) sz)) 0 0 (va_A (qG B R N) sz) := by
  refine Met.ofW (cc := cX0_shape) (maxL := 3) (ret := none) (by decide) rfl ?_
  intro p e s m args below meth c s₁ B9 hml hv
  obtain ⟨rfl, hsz, hP, hK, hD0⟩ := hv
  have hx := B9.exec
  have hb := B9.bytes
  have hr := B9.returns
  have hts := atoms_spec (ws := wsX0_shape) B9.pre
  have hown : s.vm.findClass RX0 = some m.cls := findClass_of_methodNamed B9.named
  have hlocks := B9.notSynchronized
  subst hsz
  have hD := hD0.self (sz := s.heap.size)
  generalize hAe : va_A (qG B R N) s.heap.size = A at hD ⊢
  have hA : ∀ q : Nat, s.heap.size ≤ q → A q := fun q h => by rw [← hAe]; exact Or.inr h
  have hS : va_S A s.heap s.heap [] := va_S.rf
  have hl := lv_entry ([.ref (qA B 0 60), .ref (qA B 3 k), .int (nI t)]) (n := 3) (Nat.le_of_ble_eq_true rfl)
  rw [lg_entry_eq]
  generalize (lg_sl ([.ref (qA B 0 60), .ref (qA B 3 k), .int (nI t)]) ++ List.replicate (3 - (lg_sl ([.ref (qA B 0 60), .ref (qA B 3 k), .int (nI t)])).length) Slot.unset).toArray = ls at hl ⊢
  have hl : lv_has ls 3 [(0, .ref (qA B 0 60)), (1, .ref (qA B 3 k)), (2, .int (nI t))] := hl
  have hP : va_P D vwCl (qG B R N) s.heap := hP
  generalize hRe : (headSpec _ _).room = R9
  have hRf : R9.frames = 0 := by rw [← hRe]; rfl
  have hRc : R9.cells = 0 := by rw [← hRe]; rfl
  have hRs : R9.slots = 0 := by rw [← hRe]; rfl
  have hRl : R9.locals = 0 := by rw [← hRe]; rfl
  clear hRe
  refine lv_aload_n hx hb dX0_shape_0 rfl (lv_at hl 0 rfl) ?_
  refine lv_aload_n hx hb dX0_shape_1 rfl (lv_at hl 1 rfl) ?_
  refine va_get (D := D) (ci := 1) (v := .int (nI (N 2 k 0))) (C := RX1) (T := TX1) (N := 8) hx hb hts (fun _ h9 => List.mem_cons_of_mem _ (List.mem_append_left _ (List.mem_append_right _ h9))) hown hK hP (188 + k) (qG_d hk) rfl 0 (by decide) (hts (.fieldLink RX0 69 "PalletStack$Kind" "number" "I") (List.mem_of_getElem? (i := 1) (by rfl))) (fun _ h9 => h9) rfl dX0_shape_2 ?_
  refine va_put (D := D) (ci := 0) (v := .int (nI (N 2 k 0))) (ty := .int) (C := RX0) (T := TX0) (N := 18) hx hb hts (fun _ h9 => List.mem_cons_of_mem _ (List.mem_append_right _ h9)) tyX0 tyX0_ok nmX0 hown hK hP hD hS (5 + 60) (qG_i (by omega)) rfl 0 (by decide) (hts (.fieldLink RX0 9 "PalletStack$Item" "kind" "I") (List.mem_of_getElem? (i := 2) (by rfl))) (fun _ h9 => h9) rfl (by decide +kernel) rfl rfl (Nat.le_of_ble_eq_true rfl) dX0_shape_5 (fun H locs hP hD hS => ?_)
  rw [qG_pi (by omega) (by decide)] at hP hD
  obtain ⟨N_1, hN_1⟩ : ∃ z : qN0, z = qp N 0 60 0 (N 2 k 0) := ⟨_, rfl⟩
  rw [← hN_1] at hP hD
  have hP : va_P D vwCl (qG B R N_1) H := hP
  have hD : va_D A (qG B R N_1) := hD
  refine lv_aload_n hx hb dX0_shape_8 rfl (lv_at hl 0 rfl) ?_
  refine lv_aload_n hx hb dX0_shape_9 rfl (lv_at hl 1 rfl) ?_
  refine va_get (D := D) (ci := 1) (v := .int (nI (N_1 2 k 4))) (C := RX1) (T := TX1) (N := 8) hx hb hts (fun _ h9 => List.mem_cons_of_mem _ (List.mem_append_left _ (List.mem_append_right _ h9))) hown hK hP (188 + k) (qG_d hk) rfl 4 (by decide) (hts (.fieldLink RX0 74 "PalletStack$Kind" "weight" "I") (List.mem_of_getElem? (i := 3) (by rfl))) (fun _ h9 => h9) rfl dX0_shape_10 ?_
  refine lv_topi (fun v_2 ev_2 => ?_)
  obtain rfl : v_2 = (nI (N 2 k 4)) := ev_2.trans (congrArg nI (by simp [hN_1, qp]))
  refine va_put (D := D) (ci := 0) (v := .int (nI (N 2 k 4))) (ty := .int) (C := RX0) (T := TX0) (N := 18) hx hb hts (fun _ h9 => List.mem_cons_of_mem _ (List.mem_append_right _ h9)) tyX0 tyX0_ok nmX0 hown hK hP hD hS (5 + 60) (qG_i (by omega)) rfl 1 (by decide) (hts (.fieldLink RX0 15 "PalletStack$Item" "weight" "I") (List.mem_of_getElem? (i := 4) (by rfl))) (fun _ h9 => h9) rfl (by decide +kernel) rfl rfl (Nat.le_of_ble_eq_true rfl) dX0_shape_13 (fun H locs hP hD hS => ?_)
  rw [qG_pi (by omega) (by decide)] at hP hD
  obtain ⟨N_3, hN_3⟩ : ∃ z : qN0, z = qp N_1 0 60 1 (N 2 k 4) := ⟨_, rfl⟩
  rw [← hN_3] at hP hD
  have hP : va_P D vwCl (qG B R N_3) H := hP
  have hD : va_D A (qG B R N_3) := hD
  refine lv_aload_n hx hb dX0_shape_16 rfl (lv_at hl 0 rfl) ?_
  refine lv_aload_n hx hb dX0_shape_17 rfl (lv_at hl 1 rfl) ?_
  refine va_get (D := D) (ci := 1) (v := .int (nI (N_3 2 k 5))) (C := RX1) (T := TX1) (N := 8) hx hb hts (fun _ h9 => List.mem_cons_of_mem _ (List.mem_append_left _ (List.mem_append_right _ h9))) hown hK hP (188 + k) (qG_d hk) rfl 5 (by decide) (hts (.fieldLink RX0 75 "PalletStack$Kind" "strength" "I") (List.mem_of_getElem? (i := 5) (by rfl))) (fun _ h9 => h9) rfl dX0_shape_18 ?_
  refine lv_topi (fun v_4 ev_4 => ?_)
  obtain rfl : v_4 = (nI (N 2 k 5)) := ev_4.trans (congrArg nI (by simp [hN_1, hN_3, qp]))
  refine va_put (D := D) (ci := 0) (v := .int (nI (N 2 k 5))) (ty := .int) (C := RX0) (T := TX0) (N := 18) hx hb hts (fun _ h9 => List.mem_cons_of_mem _ (List.mem_append_right _ h9)) tyX0 tyX0_ok nmX0 hown hK hP hD hS (5 + 60) (qG_i (by omega)) rfl 2 (by decide) (hts (.fieldLink RX0 18 "PalletStack$Item" "strength" "I") (List.mem_of_getElem? (i := 6) (by rfl))) (fun _ h9 => h9) rfl (by decide +kernel) rfl rfl (Nat.le_of_ble_eq_true rfl) dX0_shape_21 (fun H locs hP hD hS => ?_)
  rw [qG_pi (by omega) (by decide)] at hP hD
  obtain ⟨N_5, hN_5⟩ : ∃ z : qN0, z = qp N_3 0 60 2 (N 2 k 5) := ⟨_, rfl⟩
  rw [← hN_5] at hP hD
  have hP : va_P D vwCl (qG B R N_5) H := hP
  have hD : va_D A (qG B R N_5) := hD
  refine lv_aload_n hx hb dX0_shape_24 rfl (lv_at hl 0 rfl) ?_
  refine lv_iload_n hx hb dX0_shape_25 rfl (lv_at hl 2 rfl) ?_
  refine va_put (D := D) (ci := 0) (v := .int (nI t)) (ty := .boolean) (C := RX0) (T := TX0) (N := 18) hx hb hts (fun _ h9 => List.mem_cons_of_mem _ (List.mem_append_right _ h9)) tyX0 tyX0_ok nmX0 hown hK hP hD hS (5 + 60) (qG_i (by omega)) rfl 3 (by decide) (hts (.fieldLink RX0 21 "PalletStack$Item" "isTurned" "Z") (List.mem_of_getElem? (i := 7) (by rfl))) (fun _ h9 => h9) rfl (by decide +kernel) (qnar ht) rfl (Nat.le_of_ble_eq_true rfl) dX0_shape_26 (fun H locs hP hD hS => ?_)
  rw [qG_pi (by omega) (by decide)] at hP hD
  obtain ⟨N_6, hN_6⟩ : ∃ z : qN0, z = qp N_5 0 60 3 t := ⟨_, rfl⟩
  rw [← hN_6] at hP hD
  have hP : va_P D vwCl (qG B R N_6) H := hP
  have hD : va_D A (qG B R N_6) := hD
  refine lv_aload_n hx hb dX0_shape_29 rfl (lv_at hl 0 rfl) ?_
  refine lv_iload_n hx hb dX0_shape_30 rfl (lv_at hl 2 rfl) ?_
  refine lv_if_eq (tgt := 41) hx hb dX0_shape_31 (by decide) (fun c_7 => ?_) (fun c_7 => ?_)
  · have h_b := True.intro
    obtain rfl : t = 0 := (qeq (by omega) (by decide)).mp c_7
    refine lv_aload_n hx hb dX0_shape_41 rfl (lv_at hl 1 rfl) ?_
    refine va_get (D := D) (ci := 1) (v := .int (nI (N_6 2 k 1))) (C := RX1) (T := TX1) (N := 8) hx hb hts (fun _ h9 => List.mem_cons_of_mem _ (List.mem_append_left _ (List.mem_append_right _ h9))) hown hK hP (188 + k) (qG_d hk) rfl 1 (by decide) (hts (.fieldLink RX0 77 "PalletStack$Kind" "width" "I") (List.mem_of_getElem? (i := 9) (by rfl))) (fun _ h9 => h9) rfl dX0_shape_42 ?_
    refine lv_topi (fun v_8 ev_8 => ?_)
    obtain rfl : v_8 = (nI (N 2 k 1)) := ev_8.trans (congrArg nI (by simp [hN_1, hN_3, hN_5, hN_6, qp]))
    refine va_put (D := D) (ci := 0) (v := .int (nI (N 2 k 1))) (ty := .int) (C := RX0) (T := TX0) (N := 18) hx hb hts (fun _ h9 => List.mem_cons_of_mem _ (List.mem_append_right _ h9)) tyX0 tyX0_ok nmX0 hown hK hP hD hS (5 + 60) (qG_i (by omega)) rfl 4 (by decide) (hts (.fieldLink RX0 25 "PalletStack$Item" "width" "I") (List.mem_of_getElem? (i := 10) (by rfl))) (fun _ h9 => h9) rfl (by decide +kernel) rfl rfl (Nat.le_of_ble_eq_true rfl) dX0_shape_45 (fun H locs hP hD hS => ?_)
    rw [qG_pi (by omega) (by decide)] at hP hD
    obtain ⟨N_9, hN_9⟩ : ∃ z : qN0, z = qp N_6 0 60 4 (N 2 k 1) := ⟨_, rfl⟩
    rw [← hN_9] at hP hD
    have hP : va_P D vwCl (qG B R N_9) H := hP
    have hD : va_D A (qG B R N_9) := hD
    refine lv_aload_n hx hb dX0_shape_48 rfl (lv_at hl 0 rfl) ?_
    refine lv_iload_n hx hb dX0_shape_49 rfl (lv_at hl 2 rfl) ?_
    refine lv_if_eq (tgt := 60) hx hb dX0_shape_50 (by decide) (fun c_10 => ?_) (fun c_10 => absurd (rfl) c_10)
    refine lv_aload_n hx hb dX0_shape_60 rfl (lv_at hl 1 rfl) ?_
    refine va_get (D := D) (ci := 1) (v := .int (nI (N_9 2 k 2))) (C := RX1) (T := TX1) (N := 8) hx hb hts (fun _ h9 => List.mem_cons_of_mem _ (List.mem_append_left _ (List.mem_append_right _ h9))) hown hK hP (188 + k) (qG_d hk) rfl 2 (by decide) (hts (.fieldLink RX0 76 "PalletStack$Kind" "depth" "I") (List.mem_of_getElem? (i := 8) (by rfl))) (fun _ h9 => h9) rfl dX0_shape_61 ?_
    refine lv_topi (fun v_11 ev_11 => ?_)
    obtain rfl : v_11 = (nI (N 2 k 2)) := ev_11.trans (congrArg nI (by simp [hN_1, hN_3, hN_5, hN_6, hN_9, qp]))
    refine va_put (D := D) (ci := 0) (v := .int (nI (N 2 k 2))) (ty := .int) (C := RX0) (T := TX0) (N := 18) hx hb hts (fun _ h9 => List.mem_cons_of_mem _ (List.mem_append_right _ h9)) tyX0 tyX0_ok nmX0 hown hK hP hD hS (5 + 60) (qG_i (by omega)) rfl 5 (by decide) (hts (.fieldLink RX0 28 "PalletStack$Item" "depth" "I") (List.mem_of_getElem? (i := 11) (by rfl))) (fun _ h9 => h9) rfl (by decide +kernel) rfl rfl (Nat.le_of_ble_eq_true rfl) dX0_shape_64 (fun H locs hP hD hS => ?_)
    rw [qG_pi (by omega) (by decide)] at hP hD
    obtain ⟨N_12, hN_12⟩ : ∃ z : qN0, z = qp N_9 0 60 5 (N 2 k 2) := ⟨_, rfl⟩
    rw [← hN_12] at hP hD
    have hP : va_P D vwCl (qG B R N_12) H := hP
    have hD : va_D A (qG B R N_12) := hD
    exact W.vret hx hb hr (fun t ht hW => ⟨⟨N_12, rfl, (by rw [hN_12, hN_9, hN_6, hN_5, hN_3, hN_1]; exact qsh_eq), ⟨Nat.zero_le _, by rw [ht]; exact hP, va_K.moved hW.alike (hK.sub (tys' := []) [] rfl), hD⟩⟩, hS.F ht⟩) hS.2.2 dX0_shape_67
  · have h_b := True.intro
    obtain rfl : t = 1 := by rcases (show t = 0 ∨ t = 1 by omega) with h | h; exact absurd (by rw [h]; rfl) c_7; exact h
    refine lv_aload_n hx hb dX0_shape_34 rfl (lv_at hl 1 rfl) ?_
    refine va_get (D := D) (ci := 1) (v := .int (nI (N_6 2 k 2))) (C := RX1) (T := TX1) (N := 8) hx hb hts (fun _ h9 => List.mem_cons_of_mem _ (List.mem_append_left _ (List.mem_append_right _ h9))) hown hK hP (188 + k) (qG_d hk) rfl 2 (by decide) (hts (.fieldLink RX0 76 "PalletStack$Kind" "depth" "I") (List.mem_of_getElem? (i := 8) (by rfl))) (fun _ h9 => h9) rfl dX0_shape_35 ?_
    refine lv_topi (fun v_13 ev_13 => ?_)
    obtain rfl : v_13 = (nI (N 2 k 2)) := ev_13.trans (congrArg nI (by simp [hN_1, hN_3, hN_5, hN_6, qp]))
    refine lv_goto (tgt := 45) hx hb dX0_shape_38 (by decide) ?_
    refine va_put (D := D) (ci := 0) (v := .int (nI (N 2 k 2))) (ty := .int) (C := RX0) (T := TX0) (N := 18) hx hb hts (fun _ h9 => List.mem_cons_of_mem _ (List.mem_append_right _ h9)) tyX0 tyX0_ok nmX0 hown hK hP hD hS (5 + 60) (qG_i (by omega)) rfl 4 (by decide) (hts (.fieldLink RX0 25 "PalletStack$Item" "width" "I") (List.mem_of_getElem? (i := 10) (by rfl))) (fun _ h9 => h9) rfl (by decide +kernel) rfl rfl (Nat.le_of_ble_eq_true rfl) dX0_shape_45 (fun H locs hP hD hS => ?_)
    rw [qG_pi (by omega) (by decide)] at hP hD
    obtain ⟨N_14, hN_14⟩ : ∃ z : qN0, z = qp N_6 0 60 4 (N 2 k 2) := ⟨_, rfl⟩
    rw [← hN_14] at hP hD
    have hP : va_P D vwCl (qG B R N_14) H := hP
    have hD : va_D A (qG B R N_14) := hD
    refine lv_aload_n hx hb dX0_shape_48 rfl (lv_at hl 0 rfl) ?_
    refine lv_iload_n hx hb dX0_shape_49 rfl (lv_at hl 2 rfl) ?_
    refine lv_if_eq (tgt := 60) hx hb dX0_shape_50 (by decide) (fun c_15 => absurd c_15 (by decide)) (fun c_15 => ?_)
    refine lv_aload_n hx hb dX0_shape_53 rfl (lv_at hl 1 rfl) ?_
    refine va_get (D := D) (ci := 1) (v := .int (nI (N_14 2 k 1))) (C := RX1) (T := TX1) (N := 8) hx hb hts (fun _ h9 => List.mem_cons_of_mem _ (List.mem_append_left _ (List.mem_append_right _ h9))) hown hK hP (188 + k) (qG_d hk) rfl 1 (by decide) (hts (.fieldLink RX0 77 "PalletStack$Kind" "width" "I") (List.mem_of_getElem? (i := 9) (by rfl))) (fun _ h9 => h9) rfl dX0_shape_54 ?_
    refine lv_topi (fun v_16 ev_16 => ?_)
    obtain rfl : v_16 = (nI (N 2 k 1)) := ev_16.trans (congrArg nI (by simp [hN_1, hN_3, hN_5, hN_6, hN_14, qp]))
    refine lv_goto (tgt := 64) hx hb dX0_shape_57 (by decide) ?_
    refine va_put (D := D) (ci := 0) (v := .int (nI (N 2 k 1))) (ty := .int) (C := RX0) (T := TX0) (N := 18) hx hb hts (fun _ h9 => List.mem_cons_of_mem _ (List.mem_append_right _ h9)) tyX0 tyX0_ok nmX0 hown hK hP hD hS (5 + 60) (qG_i (by omega)) rfl 5 (by decide) (hts (.fieldLink RX0 28 "PalletStack$Item" "depth" "I") (List.mem_of_getElem? (i := 11) (by rfl))) (fun _ h9 => h9) rfl (by decide +kernel) rfl rfl (Nat.le_of_ble_eq_true rfl) dX0_shape_64 (fun H locs hP hD hS => ?_)
    rw [qG_pi (by omega) (by decide)] at hP hD
    obtain ⟨N_17, hN_17⟩ : ∃ z : qN0, z = qp N_14 0 60 5 (N 2 k 1) := ⟨_, rfl⟩
    rw [← hN_17] at hP hD
    have hP : va_P D vwCl (qG B R N_17) H := hP
    have hD : va_D A (qG B R N_17) := hD
    exact W.vret hx hb hr (fun t ht hW => ⟨⟨N_17, rfl, (by rw [hN_17, hN_14, hN_6, hN_5, hN_3, hN_1]; exact qsh_eq), ⟨Nat.zero_le _, by rw [ht]; exact hP, va_K.moved hW.alike (hK.sub (tys' := []) [] rfl), hD⟩⟩, hS.F ht⟩) hS.2.2 dX0_shape_67
set_option maxHeartbeats 4000000 in
set_option maxRecDepth 100000 in
theorem c_letDown (l : Launch) (D : zG) (sz : Nat) (B : qB) (R : qR0) (N : qN0) (k x y t : Nat) (hk : k < qk B) (ht : t < 2) (hM : qM N) (hw0 : 0 < qwd N k t) (hd0 : 0 < qdp N k t) (hx9 : x + qwd N k t ≤ 12) (hy : y + qdp N k t ≤ 10) : Met l yX3_letDown wsX3_letDown ({ frames := 2, cells := 0, slots := 0, locals := 45 }) (zPc D (qT B) (qG B R N) sz [.ref (qA B 5 0), .ref (qA B 3 k), .int (nI x), .int (nI y), .int (nI t)]) (va_Qv (fun (u : qN0) => u = qld N k x y t) (zB D (va_A (qG B R N) sz) (fun _ => []) 0 (fun u => qG B R u)) (va_A (qG B R N) sz)) 0 0 (va_A (qG B R N) sz) := by
  refine Met.ofW (cc := cX3_letDown) (maxL := 10) (ret := none) (by decide) rfl ?_
  intro p e s m args below meth c s₁ B9 hml hv
  obtain ⟨rfl, hsz, hP, hK, hD0⟩ := hv
  have hx := B9.exec
  have hb := B9.bytes
  have hr := B9.returns
  have hts := atoms_spec (ws := wsX3_letDown) B9.pre
  have hown : s.vm.findClass RX3 = some m.cls := findClass_of_methodNamed B9.named
  have hlocks := B9.notSynchronized
  subst hsz
  have hD := hD0.self (sz := s.heap.size)
  generalize hAe : va_A (qG B R N) s.heap.size = A at hD ⊢
  have hA : ∀ q : Nat, s.heap.size ≤ q → A q := fun q h => by rw [← hAe]; exact Or.inr h
  have hS : va_S A s.heap s.heap [] := va_S.rf
  have hl := lv_entry ([.ref (qA B 5 0), .ref (qA B 3 k), .int (nI x), .int (nI y), .int (nI t)]) (n := 10) (Nat.le_of_ble_eq_true rfl)
  rw [lg_entry_eq]
  generalize (lg_sl ([.ref (qA B 5 0), .ref (qA B 3 k), .int (nI x), .int (nI y), .int (nI t)]) ++ List.replicate (10 - (lg_sl ([.ref (qA B 5 0), .ref (qA B 3 k), .int (nI x), .int (nI y), .int (nI t)])).length) Slot.unset).toArray = ls at hl ⊢
  have hl : lv_has ls 10 [(0, .ref (qA B 5 0)), (1, .ref (qA B 3 k)), (2, .int (nI x)), (3, .int (nI y)), (4, .int (nI t))] := hl
  have hP : va_P D vwCl (qG B R N) s.heap := hP
  generalize hRe : (headSpec _ _).room = R9
  have hRf : R9.frames = 2 := by rw [← hRe]; rfl
  have hRc : R9.cells = 0 := by rw [← hRe]; rfl
  have hRs : R9.slots = 0 := by rw [← hRe]; rfl
  have hRl : R9.locals = 45 := by rw [← hRe]; rfl
  clear hRe
  refine lv_aload_n hx hb dX3_letDown_0 rfl (lv_at hl 0 rfl) ?_
  refine va_get (D := D) (ci := 3) (v := .ref (qA B 0 60)) (C := RX3) (T := TX3) (N := 14) hx hb hts (fun _ h9 => List.mem_cons_of_mem _ (List.mem_append_left _ (List.mem_append_left _ (List.mem_append_right _ h9)))) hown hK hP 0 rfl rfl 11 (by decide) (hts (.fieldLink RX3 52 "PalletStack" "trial" "LPalletStack$Item;") (List.mem_of_getElem? (i := 1) (by rfl))) (fun _ h9 => h9) rfl dX3_letDown_1 ?_
  refine lv_aload_n hx hb dX3_letDown_4 rfl (lv_at hl 1 rfl) ?_
  refine lv_iload hx hb dX3_letDown_5 (lv_at hl 4 rfl) ?_
  refine qcallvV (As := [.ref (qA B 3 k), .int (nI t)]) (rest := []) (ws := qG B R N) ⟨hx, hb, hml, hown, hts⟩ (c_shape l D _ B R N k t hk ht hM) (cwV 2 hts gX3_letDown_X0_shape rfl rfl rfl (by decide +kernel) ⟨by rw [hRf]; exact Nat.le_of_ble_eq_true rfl, by rw [hRl]; exact Nat.le_of_ble_eq_true rfl⟩) hK hP hD hS hA [0, 1, 2, 3] rfl (ci := 0) (q0 := (5 + 60)) rfl (qG_i (by omega)) rfl hl.1 rfl (Nat.le_of_ble_eq_true rfl) dX3_letDown_7 ⟨by omega, by omega⟩ (fun u_19 H locs hwu_19 hP hD hS => ?_)
  have hP : va_P D vwCl (qG B R u_19) H := hP
  have hD : va_D A (qG B R u_19) := hD
  have d4 : u_19 0 60 4 = qwd N k t := by rw [hwu_19]; rfl
  have d5 : u_19 0 60 5 = qdp N k t := by rw [hwu_19]; rfl
  have e1 : ∀ c i j, c ≠ 0 ∨ i ≠ 60 → u_19 c i j = N c i j := fun c i j h => by rw [hwu_19]; exact qsh_ne _ _ _ (by omega)
  obtain ⟨w, hw⟩ : ∃ w, w = qwd N k t := ⟨_, rfl⟩
  obtain ⟨d, hd⟩ : ∃ d, d = qdp N k t := ⟨_, rfl⟩
  rw [← hw] at d4 hw0 hx9
  rw [← hd] at d5 hd0 hy
  refine lv_aload_n hx hb dX3_letDown_10 rfl (lv_at hl 0 rfl) ?_
  refine va_get (D := D) (ci := 3) (v := .ref (qA B 0 60)) (C := RX3) (T := TX3) (N := 14) hx hb hts (fun _ h9 => List.mem_cons_of_mem _ (List.mem_append_left _ (List.mem_append_left _ (List.mem_append_right _ h9)))) hown hK hP 0 rfl rfl 11 (by decide) (hts (.fieldLink RX3 52 "PalletStack" "trial" "LPalletStack$Item;") (List.mem_of_getElem? (i := 1) (by rfl))) (fun _ h9 => h9) rfl dX3_letDown_11 ?_
  refine lv_iload_n hx hb dX3_letDown_14 rfl (lv_at hl 2 rfl) ?_
  refine va_put (D := D) (ci := 0) (v := .int (nI x)) (ty := .int) (C := RX0) (T := TX0) (N := 18) hx hb hts (fun _ h9 => List.mem_cons_of_mem _ (List.mem_append_left _ (List.mem_append_right _ h9))) tyX0 tyX0_ok nmX0 hown hK hP hD hS (5 + 60) (qG_i (by omega)) rfl 6 (by decide) (hts (.fieldLink RX3 182 "PalletStack$Item" "x" "I") (List.mem_of_getElem? (i := 2) (by rfl))) (fun _ h9 => h9) rfl (by decide +kernel) rfl rfl (Nat.le_of_ble_eq_true rfl) dX3_letDown_15 (fun H locs hP hD hS => ?_)
  rw [qG_pi (by omega) (by decide)] at hP hD
  obtain ⟨N_20, hN_20⟩ : ∃ z : qN0, z = qp u_19 0 60 6 x := ⟨_, rfl⟩
  rw [← hN_20] at hP hD
  have hP : va_P D vwCl (qG B R N_20) H := hP
  have hD : va_D A (qG B R N_20) := hD
  refine lv_aload_n hx hb dX3_letDown_18 rfl (lv_at hl 0 rfl) ?_
  refine va_get (D := D) (ci := 3) (v := .ref (qA B 0 60)) (C := RX3) (T := TX3) (N := 14) hx hb hts (fun _ h9 => List.mem_cons_of_mem _ (List.mem_append_left _ (List.mem_append_left _ (List.mem_append_right _ h9)))) hown hK hP 0 rfl rfl 11 (by decide) (hts (.fieldLink RX3 52 "PalletStack" "trial" "LPalletStack$Item;") (List.mem_of_getElem? (i := 1) (by rfl))) (fun _ h9 => h9) rfl dX3_letDown_19 ?_
  refine lv_iload_n hx hb dX3_letDown_22 rfl (lv_at hl 3 rfl) ?_
  refine va_put (D := D) (ci := 0) (v := .int (nI y)) (ty := .int) (C := RX0) (T := TX0) (N := 18) hx hb hts (fun _ h9 => List.mem_cons_of_mem _ (List.mem_append_left _ (List.mem_append_right _ h9))) tyX0 tyX0_ok nmX0 hown hK hP hD hS (5 + 60) (qG_i (by omega)) rfl 7 (by decide) (hts (.fieldLink RX3 176 "PalletStack$Item" "y" "I") (List.mem_of_getElem? (i := 3) (by rfl))) (fun _ h9 => h9) rfl (by decide +kernel) rfl rfl (Nat.le_of_ble_eq_true rfl) dX3_letDown_23 (fun H locs hP hD hS => ?_)
  rw [qG_pi (by omega) (by decide)] at hP hD
  obtain ⟨N_21, hN_21⟩ : ∃ z : qN0, z = qp N_20 0 60 7 y := ⟨_, rfl⟩
  rw [← hN_21] at hP hD
  have hP : va_P D vwCl (qG B R N_21) H := hP
  have hD : va_D A (qG B R N_21) := hD
  refine lv_iconst (v := 0) hx hb dX3_letDown_26 (by decide) ?_
  refine lv_istore (lv' := [(5, .int 0), (0, .ref (qA B 5 0)), (1, .ref (qA B 3 k)), (2, .int (nI x)), (3, .int (nI y)), (4, .int (nI t))]) hx hb dX3_letDown_27 hl (by decide) rfl (fun ls hl => ?_)
  refine lv_iconst (v := 0) hx hb dX3_letDown_29 (by decide) ?_
  refine lv_istore (lv' := [(6, .int 0), (5, .int 0), (0, .ref (qA B 5 0)), (1, .ref (qA B 3 k)), (2, .int (nI x)), (3, .int (nI y)), (4, .int (nI t))]) hx hb dX3_letDown_30 hl (by decide) rfl (fun ls hl => ?_)
  refine lv_iload_n hx hb dX3_letDown_32 rfl (lv_at hl 5 rfl) ?_
  refine lv_istore (lv' := [(7, .int (nI y)), (6, .int 0), (5, .int 0), (0, .ref (qA B 5 0)), (1, .ref (qA B 3 k)), (2, .int (nI x)), (3, .int (nI y)), (4, .int (nI t))]) hx hb dX3_letDown_33 hl (by decide) rfl (fun ls hl => ?_)
  have g4 : N_21 0 60 4 = w := by rw [hN_21, hN_20]; simp [qp, d4]
  have g5 : N_21 0 60 5 = d := by rw [hN_21, hN_20]; simp [qp, d5]
  have gT : ∀ c i j, c ≠ 0 ∨ i ≠ 60 → N_21 c i j = N c i j := fun c i j h => by rw [hN_21, hN_20]; unfold qp; rw [if_neg (by omega), if_neg (by omega)]; exact e1 c i j h
  obtain ⟨f, hf⟩ : ∃ f, f = qf N x w y := ⟨_, rfl⟩
  have hfM : ∀ e, f e ≤ 1000000 := fun e => by rw [hf]; exact hM _ _ _
  have hmM : ∀ e, qmx f e ≤ 1000000 := fun e => qmx_le (fun i _ => hfM i)
  have hgM : ∀ e, qgr f e ≤ e := fun e => qgr_le
  have hwd : ∀ jj, jj ≤ d → jj * w ≤ 120 := fun jj h => Nat.le_trans (Nat.mul_le_mul h (show w ≤ 12 by omega)) (by omega)
  have hP : va_P D vwCl (qG B R N_21) H := hP
  have hD : va_D A (qG B R N_21) := hD
  generalize hQe : MQ _ _ _ _ _ _ _ = Q
  have inner : ∀ (jj : Nat), jj < d → (∀ ls : Array Slot, lv_has ls 10 [(7, .int (nI (y + jj))), (6, .int (nI (qgr f ((jj + 1) * w)))), (5, .int (nI (qmx f ((jj + 1) * w)))), (4, .int (nI t)), (3, .int (nI y)), (2, .int (nI x)), (1, .ref (qA B 3 k)), (0, .ref (qA B 5 0))] → W p l e R9 s m ([.ref (qA B 5 0), .ref (qA B 3 k), .int (nI x), .int (nI y), .int (nI t)] : List Value).toArray below meth c H locs 0 0 Q (F0 m 109 ls [])) → ∀ (k9 ii : Nat), ii + k9 = w → ∀ (ls : Array Slot), lv_has ls 10 [(8, .int (nI (x + ii))), (7, .int (nI (y + jj))), (6, .int (nI (qgr f (jj * w + ii)))), (5, .int (nI (qmx f (jj * w + ii)))), (4, .int (nI t)), (3, .int (nI y)), (2, .int (nI x)), (1, .ref (qA B 3 k)), (0, .ref (qA B 5 0))] → W p l e R9 s m ([.ref (qA B 5 0), .ref (qA B 3 k), .int (nI x), .int (nI y), .int (nI t)] : List Value).toArray below meth c H locs 0 0 Q (F0 m 52 ls []) := by
    intro jj hjj out k9
    induction k9 with
    | zero =>
      intro ii hi ls hl
      obtain rfl : w = ii := by omega
      refine lv_iload hx hb dX3_letDown_52 (lv_at hl 0 rfl) ?_
      refine lv_iload_n hx hb dX3_letDown_54 rfl (lv_at hl 6 rfl) ?_
      refine lv_aload_n hx hb dX3_letDown_55 rfl (lv_at hl 8 rfl) ?_
      refine va_get (D := D) (ci := 3) (v := .ref (qA B 0 60)) (C := RX3) (T := TX3) (N := 14) hx hb hts (fun _ h9 => List.mem_cons_of_mem _ (List.mem_append_left _ (List.mem_append_left _ (List.mem_append_right _ h9)))) hown hK hP 0 rfl rfl 11 (by decide) (hts (.fieldLink RX3 52 "PalletStack" "trial" "LPalletStack$Item;") (List.mem_of_getElem? (i := 1) (by rfl))) (fun _ h9 => h9) rfl dX3_letDown_56 ?_
      refine va_get (D := D) (ci := 0) (v := .int (nI (N_21 0 60 4))) (C := RX0) (T := TX0) (N := 18) hx hb hts (fun _ h9 => List.mem_cons_of_mem _ (List.mem_append_left _ (List.mem_append_right _ h9))) hown hK hP (5 + 60) (qG_i (by omega)) rfl 4 (by decide) (hts (.fieldLink RX3 185 "PalletStack$Item" "width" "I") (List.mem_of_getElem? (i := 5) (by rfl))) (fun _ h9 => h9) rfl dX3_letDown_59 ?_
      refine lv_topi (fun v_22 ev_22 => ?_)
      obtain rfl : v_22 = (nI w) := ev_22.trans (by rw [g4])
      refine lv_iadd hx hb dX3_letDown_62 ?_
      refine lv_topi (fun v_23 ev_23 => ?_)
      obtain rfl : v_23 = (nI (x + w)) := ev_23.trans (nI_add _ _)
      refine lv_icmp_ge (tgt := 109) hx hb dX3_letDown_63 (by decide) (fun c_24 => ?_) (fun c_24 => absurd (Int32.le_refl _) c_24)
      have hl := lv_sub hl (l' := [(7, .int (nI (y + jj))), (6, .int (nI (qgr f (jj * w + w)))), (5, .int (nI (qmx f (jj * w + w)))), (4, .int (nI t)), (3, .int (nI y)), (2, .int (nI x)), (1, .ref (qA B 3 k)), (0, .ref (qA B 5 0))]) [1, 2, 3, 4, 5, 6, 7, 8] rfl
      rw [show jj * w + w = (jj + 1) * w from (Nat.succ_mul jj w).symm] at hl
      exact out ls hl
    | succ k9 ih =>
      intro ii hi ls hl
      have h1 := hwd jj (by omega)
      have h2 := hwd (jj + 1) (by omega)
      rw [Nat.succ_mul] at h2
      obtain ⟨e, he⟩ : ∃ e, e = jj * w + ii := ⟨_, rfl⟩
      have he1 : jj * w + (ii + 1) = e + 1 := by omega
      have hfe : f e = N 4 0 ((y + jj) * 12 + (x + ii)) := by rw [hf, he]; exact qf_at _ _ _ _ _ (by omega)
      have hfb := hfM e
      have hmb := hmM e
      have hgb := hgM e
      rw [← he] at hl
      refine lv_iload hx hb dX3_letDown_52 (lv_at hl 0 rfl) ?_
      refine lv_iload_n hx hb dX3_letDown_54 rfl (lv_at hl 6 rfl) ?_
      refine lv_aload_n hx hb dX3_letDown_55 rfl (lv_at hl 8 rfl) ?_
      refine va_get (D := D) (ci := 3) (v := .ref (qA B 0 60)) (C := RX3) (T := TX3) (N := 14) hx hb hts (fun _ h9 => List.mem_cons_of_mem _ (List.mem_append_left _ (List.mem_append_left _ (List.mem_append_right _ h9)))) hown hK hP 0 rfl rfl 11 (by decide) (hts (.fieldLink RX3 52 "PalletStack" "trial" "LPalletStack$Item;") (List.mem_of_getElem? (i := 1) (by rfl))) (fun _ h9 => h9) rfl dX3_letDown_56 ?_
      refine va_get (D := D) (ci := 0) (v := .int (nI (N_21 0 60 4))) (C := RX0) (T := TX0) (N := 18) hx hb hts (fun _ h9 => List.mem_cons_of_mem _ (List.mem_append_left _ (List.mem_append_right _ h9))) hown hK hP (5 + 60) (qG_i (by omega)) rfl 4 (by decide) (hts (.fieldLink RX3 185 "PalletStack$Item" "width" "I") (List.mem_of_getElem? (i := 5) (by rfl))) (fun _ h9 => h9) rfl dX3_letDown_59 ?_
      refine lv_topi (fun v_25 ev_25 => ?_)
      obtain rfl : v_25 = (nI w) := ev_25.trans (by rw [g4])
      refine lv_iadd hx hb dX3_letDown_62 ?_
      refine lv_topi (fun v_26 ev_26 => ?_)
      obtain rfl : v_26 = (nI (x + w)) := ev_26.trans (nI_add _ _)
      refine lv_icmp_ge (tgt := 109) hx hb dX3_letDown_63 (by decide) (fun c_27 => absurd c_27 (nI_ge (by omega) (by omega))) (fun c_27 => ?_)
      refine lv_aload_n hx hb dX3_letDown_66 rfl (lv_at hl 8 rfl) ?_
      refine lv_iload hx hb dX3_letDown_67 (lv_at hl 0 rfl) ?_
      refine lv_iload hx hb dX3_letDown_69 (lv_at hl 1 rfl) ?_
      refine zrdV2 (As := [.int (nI (x + ii)), .int (nI (y + jj))]) (rest := []) (wc := qG B R N_21) ⟨hx, hb, hml, hown, hts⟩ (c_topOf l D _ B R N_21 (x + ii) (y + jj) (by omega) (by omega)) (cwV 2 hts gX3_letDown_X3_topOf rfl rfl rfl (by decide +kernel) ⟨by rw [hRf]; exact Nat.le_of_ble_eq_true rfl, by rw [hRl]; exact Nat.le_of_ble_eq_true rfl⟩) hK hP hD [0, 1, 2, 3] rfl (ci := 3) (q0 := 0) rfl rfl rfl hl.1 rfl (Nat.le_of_ble_eq_true rfl) dX3_letDown_71 ⟨by omega, by omega⟩ (fun r_28 hr_28 => ?_)
      refine lv_topi (fun v_29 ev_29 => ?_)
      obtain rfl : v_29 = (nI (f e)) := ev_29.trans (hr_28.trans (by rw [gT _ _ _ (by omega), hfe]))
      refine lv_istore (lv' := [(9, .int (nI (f e))), (8, .int (nI (x + ii))), (7, .int (nI (y + jj))), (6, .int (nI (qgr f e))), (5, .int (nI (qmx f e))), (4, .int (nI t)), (3, .int (nI y)), (2, .int (nI x)), (1, .ref (qA B 3 k)), (0, .ref (qA B 5 0))]) hx hb dX3_letDown_74 hl (by decide) rfl (fun ls hl => ?_)
      refine lv_iload hx hb dX3_letDown_76 (lv_at hl 0 rfl) ?_
      refine lv_iload hx hb dX3_letDown_78 (lv_at hl 4 rfl) ?_
      refine lv_icmp_le (tgt := 93) hx hb dX3_letDown_80 (by decide) (fun c_30 => ?_) (fun c_30 => ?_)
      · have h_b := True.intro
        have k_31 : (f e) ≤ (qmx f e) := (nI_leI (a := (f e)) (b := (qmx f e)) (by omega) (by omega)).mp c_30
        refine lv_iload hx hb dX3_letDown_93 (lv_at hl 0 rfl) ?_
        refine lv_iload hx hb dX3_letDown_95 (lv_at hl 4 rfl) ?_
        refine lv_icmp_ne (tgt := 103) hx hb dX3_letDown_97 (by decide) (fun c_32 => ?_) (fun c_32 => ?_)
        · have h_b := True.intro
          have k_33 : ¬ ((f e) = (qmx f e)) := fun h9 => c_32 ((qeq (a := (f e)) (b := (qmx f e)) (by omega) (by omega)).mpr h9)
          refine lv_iinc (v := (nI (x + (ii + 1)))) (lv' := [(8, .int (nI (x + (ii + 1)))), (9, .int (nI (f e))), (7, .int (nI (y + jj))), (6, .int (nI (qgr f e))), (5, .int (nI (qmx f e))), (4, .int (nI t)), (3, .int (nI y)), (2, .int (nI x)), (1, .ref (qA B 3 k)), (0, .ref (qA B 5 0))]) hx hb dX3_letDown_103 hl (k := 1) rfl ((nI_add _ 1)) (by decide) rfl (fun ls hl => ?_)
          refine lv_goto (tgt := 52) hx hb dX3_letDown_106 (by decide) ?_
          have hl := lv_sub hl (l' := [(8, .int (nI (x + (ii + 1)))), (7, .int (nI (y + jj))), (6, .int (nI (qgr f e))), (5, .int (nI (qmx f e))), (4, .int (nI t)), (3, .int (nI y)), (2, .int (nI x)), (1, .ref (qA B 3 k)), (0, .ref (qA B 5 0))]) [0, 2, 3, 4, 5, 6, 7, 8, 9] rfl
          obtain ⟨q1, q2⟩ := qgr_dn (f := f) (e := e) (by omega)
          refine ih (ii + 1) (by omega) ls ?_
          rw [he1, q1, q2]; exact hl
        · have h_b := True.intro
          have k_34 : (f e) = (qmx f e) := (qeq (a := (f e)) (b := (qmx f e)) (by omega) (by omega)).mp c_32
          refine lv_iinc (v := (nI (qgr f e + 1))) (lv' := [(6, .int (nI (qgr f e + 1))), (9, .int (nI (f e))), (8, .int (nI (x + ii))), (7, .int (nI (y + jj))), (5, .int (nI (qmx f e))), (4, .int (nI t)), (3, .int (nI y)), (2, .int (nI x)), (1, .ref (qA B 3 k)), (0, .ref (qA B 5 0))]) hx hb dX3_letDown_100 hl (k := 3) rfl ((nI_add _ 1)) (by decide) rfl (fun ls hl => ?_)
          refine lv_iinc (v := (nI (x + (ii + 1)))) (lv' := [(8, .int (nI (x + (ii + 1)))), (6, .int (nI (qgr f e + 1))), (9, .int (nI (f e))), (7, .int (nI (y + jj))), (5, .int (nI (qmx f e))), (4, .int (nI t)), (3, .int (nI y)), (2, .int (nI x)), (1, .ref (qA B 3 k)), (0, .ref (qA B 5 0))]) hx hb dX3_letDown_103 hl (k := 2) rfl ((nI_add _ 1)) (by decide) rfl (fun ls hl => ?_)
          refine lv_goto (tgt := 52) hx hb dX3_letDown_106 (by decide) ?_
          have hl := lv_sub hl (l' := [(8, .int (nI (x + (ii + 1)))), (7, .int (nI (y + jj))), (6, .int (nI (qgr f e + 1))), (5, .int (nI (qmx f e))), (4, .int (nI t)), (3, .int (nI y)), (2, .int (nI x)), (1, .ref (qA B 3 k)), (0, .ref (qA B 5 0))]) [0, 3, 1, 4, 5, 6, 7, 8, 9] rfl
          obtain ⟨q1, q2⟩ := qgr_eq (f := f) (e := e) (by omega)
          refine ih (ii + 1) (by omega) ls ?_
          rw [he1, q1, q2]; exact hl
      · have h_b := True.intro
        have k_35 : ¬ ((f e) ≤ (qmx f e)) := fun h9 => c_30 ((nI_leI (a := (f e)) (b := (qmx f e)) (by omega) (by omega)).mpr h9)
        refine lv_iload hx hb dX3_letDown_83 (lv_at hl 0 rfl) ?_
        refine lv_istore (lv' := [(5, .int (nI (f e))), (9, .int (nI (f e))), (8, .int (nI (x + ii))), (7, .int (nI (y + jj))), (6, .int (nI (qgr f e))), (4, .int (nI t)), (3, .int (nI y)), (2, .int (nI x)), (1, .ref (qA B 3 k)), (0, .ref (qA B 5 0))]) hx hb dX3_letDown_85 hl (by decide) rfl (fun ls hl => ?_)
        refine lv_iconst (v := 1) hx hb dX3_letDown_87 (by decide) ?_
        refine lv_istore (lv' := [(6, .int 1), (5, .int (nI (f e))), (9, .int (nI (f e))), (8, .int (nI (x + ii))), (7, .int (nI (y + jj))), (4, .int (nI t)), (3, .int (nI y)), (2, .int (nI x)), (1, .ref (qA B 3 k)), (0, .ref (qA B 5 0))]) hx hb dX3_letDown_88 hl (by decide) rfl (fun ls hl => ?_)
        refine lv_goto (tgt := 103) hx hb dX3_letDown_90 (by decide) ?_
        refine lv_iinc (v := (nI (x + (ii + 1)))) (lv' := [(8, .int (nI (x + (ii + 1)))), (6, .int 1), (5, .int (nI (f e))), (9, .int (nI (f e))), (7, .int (nI (y + jj))), (4, .int (nI t)), (3, .int (nI y)), (2, .int (nI x)), (1, .ref (qA B 3 k)), (0, .ref (qA B 5 0))]) hx hb dX3_letDown_103 hl (k := 3) rfl ((nI_add _ 1)) (by decide) rfl (fun ls hl => ?_)
        refine lv_goto (tgt := 52) hx hb dX3_letDown_106 (by decide) ?_
        have hl := lv_sub hl (l' := [(8, .int (nI (x + (ii + 1)))), (7, .int (nI (y + jj))), (6, .int 1), (5, .int (nI (f e))), (4, .int (nI t)), (3, .int (nI y)), (2, .int (nI x)), (1, .ref (qA B 3 k)), (0, .ref (qA B 5 0))]) [0, 4, 1, 2, 5, 6, 7, 8, 9] rfl
        obtain ⟨q1, q2⟩ := qgr_up (f := f) (e := e) k_35
        refine ih (ii + 1) (by omega) ls ?_
        rw [he1, q1, q2]; exact hl
  have outer : ∀ (k9 jj : Nat), jj + k9 = d → ∀ (ls : Array Slot), lv_has ls 10 [(7, .int (nI (y + jj))), (6, .int (nI (qgr f (jj * w)))), (5, .int (nI (qmx f (jj * w)))), (4, .int (nI t)), (3, .int (nI y)), (2, .int (nI x)), (1, .ref (qA B 3 k)), (0, .ref (qA B 5 0))] → W p l e R9 s m ([.ref (qA B 5 0), .ref (qA B 3 k), .int (nI x), .int (nI y), .int (nI t)] : List Value).toArray below meth c H locs 0 0 Q (F0 m 35 ls []) := by
    intro k9
    induction k9 with
    | zero =>
      intro jj hj ls hl
      obtain rfl : d = jj := by omega
      have h1 := hwd d (by omega)
      have hmb := hmM (d * w)
      have hgb := hgM (d * w)
      have k3 := hM 2 k 3
      refine lv_iload hx hb dX3_letDown_35 (lv_at hl 0 rfl) ?_
      refine lv_iload_n hx hb dX3_letDown_37 rfl (lv_at hl 4 rfl) ?_
      refine lv_aload_n hx hb dX3_letDown_38 rfl (lv_at hl 7 rfl) ?_
      refine va_get (D := D) (ci := 3) (v := .ref (qA B 0 60)) (C := RX3) (T := TX3) (N := 14) hx hb hts (fun _ h9 => List.mem_cons_of_mem _ (List.mem_append_left _ (List.mem_append_left _ (List.mem_append_right _ h9)))) hown hK hP 0 rfl rfl 11 (by decide) (hts (.fieldLink RX3 52 "PalletStack" "trial" "LPalletStack$Item;") (List.mem_of_getElem? (i := 1) (by rfl))) (fun _ h9 => h9) rfl dX3_letDown_39 ?_
      refine va_get (D := D) (ci := 0) (v := .int (nI (N_21 0 60 5))) (C := RX0) (T := TX0) (N := 18) hx hb hts (fun _ h9 => List.mem_cons_of_mem _ (List.mem_append_left _ (List.mem_append_right _ h9))) hown hK hP (5 + 60) (qG_i (by omega)) rfl 5 (by decide) (hts (.fieldLink RX3 179 "PalletStack$Item" "depth" "I") (List.mem_of_getElem? (i := 4) (by rfl))) (fun _ h9 => h9) rfl dX3_letDown_42 ?_
      refine lv_topi (fun v_36 ev_36 => ?_)
      obtain rfl : v_36 = (nI d) := ev_36.trans (by rw [g5])
      refine lv_iadd hx hb dX3_letDown_45 ?_
      refine lv_topi (fun v_37 ev_37 => ?_)
      obtain rfl : v_37 = (nI (y + d)) := ev_37.trans (nI_add _ _)
      refine lv_icmp_ge (tgt := 115) hx hb dX3_letDown_46 (by decide) (fun c_38 => ?_) (fun c_38 => absurd (Int32.le_refl _) c_38)
      refine lv_aload_n hx hb dX3_letDown_115 rfl (lv_at hl 7 rfl) ?_
      refine va_get (D := D) (ci := 3) (v := .ref (qA B 0 60)) (C := RX3) (T := TX3) (N := 14) hx hb hts (fun _ h9 => List.mem_cons_of_mem _ (List.mem_append_left _ (List.mem_append_left _ (List.mem_append_right _ h9)))) hown hK hP 0 rfl rfl 11 (by decide) (hts (.fieldLink RX3 52 "PalletStack" "trial" "LPalletStack$Item;") (List.mem_of_getElem? (i := 1) (by rfl))) (fun _ h9 => h9) rfl dX3_letDown_116 ?_
      refine lv_iload hx hb dX3_letDown_119 (lv_at hl 2 rfl) ?_
      refine va_put (D := D) (ci := 0) (v := .int (nI (qmx f (d * w)))) (ty := .int) (C := RX0) (T := TX0) (N := 18) hx hb hts (fun _ h9 => List.mem_cons_of_mem _ (List.mem_append_left _ (List.mem_append_right _ h9))) tyX0 tyX0_ok nmX0 hown hK hP hD hS (5 + 60) (qG_i (by omega)) rfl 8 (by decide) (hts (.fieldLink RX3 131 "PalletStack$Item" "bottom" "I") (List.mem_of_getElem? (i := 6) (by rfl))) (fun _ h9 => h9) rfl (by decide +kernel) rfl rfl (Nat.le_of_ble_eq_true rfl) dX3_letDown_121 (fun H locs hP hD hS => ?_)
      rw [qG_pi (by omega) (by decide)] at hP hD
      obtain ⟨N_39, hN_39⟩ : ∃ z : qN0, z = qp N_21 0 60 8 (qmx f (d * w)) := ⟨_, rfl⟩
      rw [← hN_39] at hP hD
      have hP : va_P D vwCl (qG B R N_39) H := hP
      have hD : va_D A (qG B R N_39) := hD
      refine lv_aload_n hx hb dX3_letDown_124 rfl (lv_at hl 7 rfl) ?_
      refine va_get (D := D) (ci := 3) (v := .ref (qA B 0 60)) (C := RX3) (T := TX3) (N := 14) hx hb hts (fun _ h9 => List.mem_cons_of_mem _ (List.mem_append_left _ (List.mem_append_left _ (List.mem_append_right _ h9)))) hown hK hP 0 rfl rfl 11 (by decide) (hts (.fieldLink RX3 52 "PalletStack" "trial" "LPalletStack$Item;") (List.mem_of_getElem? (i := 1) (by rfl))) (fun _ h9 => h9) rfl dX3_letDown_125 ?_
      refine lv_iload hx hb dX3_letDown_128 (lv_at hl 2 rfl) ?_
      refine lv_aload_n hx hb dX3_letDown_130 rfl (lv_at hl 6 rfl) ?_
      refine va_get (D := D) (ci := 1) (v := .int (nI (N_39 2 k 3))) (C := RX1) (T := TX1) (N := 8) hx hb hts (fun _ h9 => List.mem_cons_of_mem _ (List.mem_append_right _ h9)) hown hK hP (188 + k) (qG_d hk) rfl 3 (by decide) (hts (.fieldLink RX3 254 "PalletStack$Kind" "height" "I") (List.mem_of_getElem? (i := 7) (by rfl))) (fun _ h9 => h9) rfl dX3_letDown_131 ?_
      refine lv_topi (fun v_40 ev_40 => ?_)
      obtain rfl : v_40 = (nI (N_21 2 k 3)) := ev_40.trans (congrArg nI (by simp [hN_39, qp]))
      refine lv_topi (fun v_41 ev_41 => ?_)
      obtain rfl : v_41 = (nI (N 2 k 3)) := ev_41.trans (congrArg nI (gT _ _ _ (by omega)))
      refine lv_iadd hx hb dX3_letDown_134 ?_
      refine lv_topi (fun v_42 ev_42 => ?_)
      obtain rfl : v_42 = (nI (qmx f (d * w) + N 2 k 3)) := ev_42.trans (nI_add _ _)
      refine va_put (D := D) (ci := 0) (v := .int (nI (qmx f (d * w) + N 2 k 3))) (ty := .int) (C := RX0) (T := TX0) (N := 18) hx hb hts (fun _ h9 => List.mem_cons_of_mem _ (List.mem_append_left _ (List.mem_append_right _ h9))) tyX0 tyX0_ok nmX0 hown hK hP hD hS (5 + 60) (qG_i (by omega)) rfl 9 (by decide) (hts (.fieldLink RX3 134 "PalletStack$Item" "top" "I") (List.mem_of_getElem? (i := 8) (by rfl))) (fun _ h9 => h9) rfl (by decide +kernel) rfl rfl (Nat.le_of_ble_eq_true rfl) dX3_letDown_135 (fun H locs hP hD hS => ?_)
      rw [qG_pi (by omega) (by decide)] at hP hD
      obtain ⟨N_43, hN_43⟩ : ∃ z : qN0, z = qp N_39 0 60 9 (qmx f (d * w) + N 2 k 3) := ⟨_, rfl⟩
      rw [← hN_43] at hP hD
      have hP : va_P D vwCl (qG B R N_43) H := hP
      have hD : va_D A (qG B R N_43) := hD
      refine lv_aload_n hx hb dX3_letDown_138 rfl (lv_at hl 7 rfl) ?_
      refine va_get (D := D) (ci := 3) (v := .ref (qA B 0 60)) (C := RX3) (T := TX3) (N := 14) hx hb hts (fun _ h9 => List.mem_cons_of_mem _ (List.mem_append_left _ (List.mem_append_left _ (List.mem_append_right _ h9)))) hown hK hP 0 rfl rfl 11 (by decide) (hts (.fieldLink RX3 52 "PalletStack" "trial" "LPalletStack$Item;") (List.mem_of_getElem? (i := 1) (by rfl))) (fun _ h9 => h9) rfl dX3_letDown_139 ?_
      refine lv_iload hx hb dX3_letDown_142 (lv_at hl 1 rfl) ?_
      refine va_put (D := D) (ci := 0) (v := .int (nI (qgr f (d * w)))) (ty := .int) (C := RX0) (T := TX0) (N := 18) hx hb hts (fun _ h9 => List.mem_cons_of_mem _ (List.mem_append_left _ (List.mem_append_right _ h9))) tyX0 tyX0_ok nmX0 hown hK hP hD hS (5 + 60) (qG_i (by omega)) rfl 10 (by decide) (hts (.fieldLink RX3 214 "PalletStack$Item" "ground" "I") (List.mem_of_getElem? (i := 9) (by rfl))) (fun _ h9 => h9) rfl (by decide +kernel) rfl rfl (Nat.le_of_ble_eq_true rfl) dX3_letDown_144 (fun H locs hP hD hS => ?_)
      rw [qG_pi (by omega) (by decide)] at hP hD
      obtain ⟨N_44, hN_44⟩ : ∃ z : qN0, z = qp N_43 0 60 10 (qgr f (d * w)) := ⟨_, rfl⟩
      rw [← hN_44] at hP hD
      have hP : va_P D vwCl (qG B R N_44) H := hP
      have hD : va_D A (qG B R N_44) := hD
      rw [← hQe]
      exact W.vret hx hb hr (fun t ht hW => ⟨⟨N_44, rfl, (by rw [hN_44, hN_43, hN_39, hN_21, hN_20, show qmx f (d * w) = qbt N k x y t by unfold qbt; rw [hf, hw, hd, Nat.mul_comm], show qgr f (d * w) = qgd N k x y t by unfold qgd; rw [hf, hw, hd, Nat.mul_comm]]; exact qld_eq hwu_19), ⟨Nat.zero_le _, by rw [ht]; exact hP, va_K.moved hW.alike (hK.sub (tys' := []) [] rfl), hD⟩⟩, hS.F ht⟩) hS.2.2 dX3_letDown_147
    | succ k9 ih =>
      intro jj hj ls hl
      refine lv_iload hx hb dX3_letDown_35 (lv_at hl 0 rfl) ?_
      refine lv_iload_n hx hb dX3_letDown_37 rfl (lv_at hl 4 rfl) ?_
      refine lv_aload_n hx hb dX3_letDown_38 rfl (lv_at hl 7 rfl) ?_
      refine va_get (D := D) (ci := 3) (v := .ref (qA B 0 60)) (C := RX3) (T := TX3) (N := 14) hx hb hts (fun _ h9 => List.mem_cons_of_mem _ (List.mem_append_left _ (List.mem_append_left _ (List.mem_append_right _ h9)))) hown hK hP 0 rfl rfl 11 (by decide) (hts (.fieldLink RX3 52 "PalletStack" "trial" "LPalletStack$Item;") (List.mem_of_getElem? (i := 1) (by rfl))) (fun _ h9 => h9) rfl dX3_letDown_39 ?_
      refine va_get (D := D) (ci := 0) (v := .int (nI (N_21 0 60 5))) (C := RX0) (T := TX0) (N := 18) hx hb hts (fun _ h9 => List.mem_cons_of_mem _ (List.mem_append_left _ (List.mem_append_right _ h9))) hown hK hP (5 + 60) (qG_i (by omega)) rfl 5 (by decide) (hts (.fieldLink RX3 179 "PalletStack$Item" "depth" "I") (List.mem_of_getElem? (i := 4) (by rfl))) (fun _ h9 => h9) rfl dX3_letDown_42 ?_
      refine lv_topi (fun v_45 ev_45 => ?_)
      obtain rfl : v_45 = (nI d) := ev_45.trans (by rw [g5])
      refine lv_iadd hx hb dX3_letDown_45 ?_
      refine lv_topi (fun v_46 ev_46 => ?_)
      obtain rfl : v_46 = (nI (y + d)) := ev_46.trans (nI_add _ _)
      refine lv_icmp_ge (tgt := 115) hx hb dX3_letDown_46 (by decide) (fun c_47 => absurd c_47 (nI_ge (by omega) (by omega))) (fun c_47 => ?_)
      refine lv_iload_n hx hb dX3_letDown_49 rfl (lv_at hl 5 rfl) ?_
      refine lv_istore (lv' := [(8, .int (nI x)), (7, .int (nI (y + jj))), (6, .int (nI (qgr f (jj * w)))), (5, .int (nI (qmx f (jj * w)))), (4, .int (nI t)), (3, .int (nI y)), (2, .int (nI x)), (1, .ref (qA B 3 k)), (0, .ref (qA B 5 0))]) hx hb dX3_letDown_50 hl (by decide) rfl (fun ls hl => ?_)
      have hl := lv_sub hl (l' := [(8, .int (nI x)), (7, .int (nI (y + jj))), (6, .int (nI (qgr f (jj * w)))), (5, .int (nI (qmx f (jj * w)))), (4, .int (nI t)), (3, .int (nI y)), (2, .int (nI x)), (1, .ref (qA B 3 k)), (0, .ref (qA B 5 0))]) [0, 1, 2, 3, 4, 5, 6, 7, 8] rfl
      refine inner jj (by omega) (fun ls hl => ?_) w 0 (by omega) ls hl
      refine lv_iinc (v := (nI (y + (jj + 1)))) (lv' := [(7, .int (nI (y + (jj + 1)))), (6, .int (nI (qgr f ((jj + 1) * w)))), (5, .int (nI (qmx f ((jj + 1) * w)))), (4, .int (nI t)), (3, .int (nI y)), (2, .int (nI x)), (1, .ref (qA B 3 k)), (0, .ref (qA B 5 0))]) hx hb dX3_letDown_109 hl (k := 0) rfl ((nI_add _ 1)) (by decide) rfl (fun ls hl => ?_)
      refine lv_goto (tgt := 35) hx hb dX3_letDown_112 (by decide) ?_
      have hl := lv_sub hl (l' := [(7, .int (nI (y + (jj + 1)))), (6, .int (nI (qgr f ((jj + 1) * w)))), (5, .int (nI (qmx f ((jj + 1) * w)))), (4, .int (nI t)), (3, .int (nI y)), (2, .int (nI x)), (1, .ref (qA B 3 k)), (0, .ref (qA B 5 0))]) [0, 1, 2, 3, 4, 5, 6, 7] rfl
      exact ih (jj + 1) (by omega) ls hl
  refine outer d 0 (by omega) ls ?_
  rw [Nat.zero_mul]; exact hl
set_option maxHeartbeats 4000000 in
set_option maxRecDepth 100000 in
theorem c_isGround (l : Launch) (D : zG) (sz : Nat) (B : qB) (R : qR0) (N : qN0) (a b : Nat) (ha : a < 12) (hb2 : b < 10) : Met l yX3_isGround wsX3_isGround ({ frames := 1, cells := 0, slots := 0, locals := 30 }) (zPc D (qT B) (qG B R N) sz [.ref (qA B 5 0), .int (nI a), .int (nI b)]) (vp_Si (fun r => True)) 0 0 (fun _ => False) := by
  refine Met.ofW (cc := cX3_isGround) (maxL := 3) (ret := (some .boolean)) (by decide) rfl ?_
  intro p e s m args below meth c s₁ B9 hml hv
  obtain ⟨rfl, hsz, hP, hK, hD0⟩ := hv
  have hx := B9.exec
  have hb := B9.bytes
  have hr := B9.returns
  have hts := atoms_spec (ws := wsX3_isGround) B9.pre
  have hown : s.vm.findClass RX3 = some m.cls := findClass_of_methodNamed B9.named
  have hlocks := B9.notSynchronized
  subst hsz
  have hD := hD0
  generalize hAe : (fun _ : Nat => True) = A at hD
  have hl := lv_entry ([.ref (qA B 5 0), .int (nI a), .int (nI b)]) (n := 3) (Nat.le_of_ble_eq_true rfl)
  rw [lg_entry_eq]
  generalize (lg_sl ([.ref (qA B 5 0), .int (nI a), .int (nI b)]) ++ List.replicate (3 - (lg_sl ([.ref (qA B 5 0), .int (nI a), .int (nI b)])).length) Slot.unset).toArray = ls at hl ⊢
  have hl : lv_has ls 3 [(0, .ref (qA B 5 0)), (1, .int (nI a)), (2, .int (nI b))] := hl
  have hP : va_P D vwCl (qG B R N) s.heap := hP
  generalize hRe : (headSpec _ _).room = R9
  have hRf : R9.frames = 1 := by rw [← hRe]; rfl
  have hRc : R9.cells = 0 := by rw [← hRe]; rfl
  have hRs : R9.slots = 0 := by rw [← hRe]; rfl
  have hRl : R9.locals = 30 := by rw [← hRe]; rfl
  clear hRe
  refine lv_aload_n hx hb dX3_isGround_0 rfl (lv_at hl 0 rfl) ?_
  refine lv_iload_n hx hb dX3_isGround_1 rfl (lv_at hl 1 rfl) ?_
  refine lv_iload_n hx hb dX3_isGround_2 rfl (lv_at hl 2 rfl) ?_
  refine zrdV2 (As := [.int (nI a), .int (nI b)]) (rest := []) (wc := qG B R N) ⟨hx, hb, hml, hown, hts⟩ (c_topOf l D _ B R N a b ha hb2) (cwV 2 hts gX3_isGround_X3_topOf rfl rfl rfl (by decide +kernel) ⟨by rw [hRf]; exact Nat.le_of_ble_eq_true rfl, by rw [hRl]; exact Nat.le_of_ble_eq_true rfl⟩) hK hP hD [0, 1, 2, 3] rfl (ci := 3) (q0 := 0) rfl rfl rfl hl.1 rfl (Nat.le_of_ble_eq_true rfl) dX3_isGround_3 ⟨by omega, by omega⟩ (fun r_48 hr_48 => ?_)
  refine lv_aload_n hx hb dX3_isGround_6 rfl (lv_at hl 0 rfl) ?_
  refine va_get (D := D) (ci := 3) (v := .ref (qA B 0 60)) (C := RX3) (T := TX3) (N := 14) hx hb hts (fun _ h9 => List.mem_cons_of_mem _ (List.mem_append_left _ (List.mem_append_right _ h9))) hown hK hP 0 rfl rfl 11 (by decide) (hts (.fieldLink RX3 52 "PalletStack" "trial" "LPalletStack$Item;") (List.mem_of_getElem? (i := 1) (by rfl))) (fun _ h9 => h9) rfl dX3_isGround_7 ?_
  refine va_get (D := D) (ci := 0) (v := .int (nI (N 0 60 8))) (C := RX0) (T := TX0) (N := 18) hx hb hts (fun _ h9 => List.mem_cons_of_mem _ (List.mem_append_right _ h9)) hown hK hP (5 + 60) (qG_i (by omega)) rfl 8 (by decide) (hts (.fieldLink RX3 131 "PalletStack$Item" "bottom" "I") (List.mem_of_getElem? (i := 2) (by rfl))) (fun _ h9 => h9) rfl dX3_isGround_10 ?_
  refine lv_icmp_ne (tgt := 20) hx hb dX3_isGround_13 (by decide) (fun c_49 => ?_) (fun c_49 => ?_)
  · have h_b := True.intro
    refine lv_iconst (v := 0) hx hb dX3_isGround_20 (by decide) ?_
    exact W.zret (ty := .boolean) (v := 0) hx hb hr rfl (fun t ht hW => ⟨0, rfl, trivial, ht⟩) (fun _ h => by cases h) dX3_isGround_21
  · have h_b := True.intro
    refine lv_iconst (v := 1) hx hb dX3_isGround_16 (by decide) ?_
    refine lv_goto (tgt := 21) hx hb dX3_isGround_17 (by decide) ?_
    exact W.zret (ty := .boolean) (v := 1) hx hb hr rfl (fun t ht hW => ⟨1, rfl, trivial, ht⟩) (fun _ h => by cases h) dX3_isGround_21
set_option maxHeartbeats 4000000 in
set_option maxRecDepth 100000 in
theorem c_corners (l : Launch) (D : zG) (sz : Nat) (B : qB) (R : qR0) (N : qN0) (h1 : 0 < N 0 60 4) (h2 : 0 < N 0 60 5) (h3 : N 0 60 6 + N 0 60 4 ≤ 12) (h4 : N 0 60 7 + N 0 60 5 ≤ 10) : Met l yX3_hasGroundAtCorners wsX3_hasGroundAtCorners ({ frames := 2, cells := 0, slots := 0, locals := 60 }) (zPc D (qT B) (qG B R N) sz [.ref (qA B 5 0)]) (vp_Si (fun r => True)) 0 0 (fun _ => False) := by
  refine Met.ofW (cc := cX3_hasGroundAtCorners) (maxL := 3) (ret := (some .boolean)) (by decide) rfl ?_
  intro p e s m args below meth c s₁ B9 hml hv
  obtain ⟨rfl, hsz, hP, hK, hD0⟩ := hv
  have hx := B9.exec
  have hb := B9.bytes
  have hr := B9.returns
  have hts := atoms_spec (ws := wsX3_hasGroundAtCorners) B9.pre
  have hown : s.vm.findClass RX3 = some m.cls := findClass_of_methodNamed B9.named
  have hlocks := B9.notSynchronized
  subst hsz
  have hD := hD0
  generalize hAe : (fun _ : Nat => True) = A at hD
  have hl := lv_entry ([.ref (qA B 5 0)]) (n := 3) (Nat.le_of_ble_eq_true rfl)
  rw [lg_entry_eq]
  generalize (lg_sl ([.ref (qA B 5 0)]) ++ List.replicate (3 - (lg_sl ([.ref (qA B 5 0)])).length) Slot.unset).toArray = ls at hl ⊢
  have hl : lv_has ls 3 [(0, .ref (qA B 5 0))] := hl
  have hP : va_P D vwCl (qG B R N) s.heap := hP
  generalize hRe : (headSpec _ _).room = R9
  have hRf : R9.frames = 2 := by rw [← hRe]; rfl
  have hRc : R9.cells = 0 := by rw [← hRe]; rfl
  have hRs : R9.slots = 0 := by rw [← hRe]; rfl
  have hRl : R9.locals = 60 := by rw [← hRe]; rfl
  clear hRe
  obtain ⟨X, hX⟩ : ∃ X, X + 1 = N 0 60 6 + N 0 60 4 := ⟨N 0 60 6 + N 0 60 4 - 1, by omega⟩
  obtain ⟨Y, hY⟩ : ∃ Y, Y + 1 = N 0 60 7 + N 0 60 5 := ⟨N 0 60 7 + N 0 60 5 - 1, by omega⟩
  refine lv_aload_n hx hb dX3_hasGroundAtCorners_0 rfl (lv_at hl 0 rfl) ?_
  refine va_get (D := D) (ci := 3) (v := .ref (qA B 0 60)) (C := RX3) (T := TX3) (N := 14) hx hb hts (fun _ h9 => List.mem_cons_of_mem _ (List.mem_append_left _ (List.mem_append_right _ h9))) hown hK hP 0 rfl rfl 11 (by decide) (hts (.fieldLink RX3 52 "PalletStack" "trial" "LPalletStack$Item;") (List.mem_of_getElem? (i := 1) (by rfl))) (fun _ h9 => h9) rfl dX3_hasGroundAtCorners_1 ?_
  refine va_get (D := D) (ci := 0) (v := .int (nI (N 0 60 6))) (C := RX0) (T := TX0) (N := 18) hx hb hts (fun _ h9 => List.mem_cons_of_mem _ (List.mem_append_right _ h9)) hown hK hP (5 + 60) (qG_i (by omega)) rfl 6 (by decide) (hts (.fieldLink RX3 182 "PalletStack$Item" "x" "I") (List.mem_of_getElem? (i := 2) (by rfl))) (fun _ h9 => h9) rfl dX3_hasGroundAtCorners_4 ?_
  refine lv_aload_n hx hb dX3_hasGroundAtCorners_7 rfl (lv_at hl 0 rfl) ?_
  refine va_get (D := D) (ci := 3) (v := .ref (qA B 0 60)) (C := RX3) (T := TX3) (N := 14) hx hb hts (fun _ h9 => List.mem_cons_of_mem _ (List.mem_append_left _ (List.mem_append_right _ h9))) hown hK hP 0 rfl rfl 11 (by decide) (hts (.fieldLink RX3 52 "PalletStack" "trial" "LPalletStack$Item;") (List.mem_of_getElem? (i := 1) (by rfl))) (fun _ h9 => h9) rfl dX3_hasGroundAtCorners_8 ?_
  refine va_get (D := D) (ci := 0) (v := .int (nI (N 0 60 4))) (C := RX0) (T := TX0) (N := 18) hx hb hts (fun _ h9 => List.mem_cons_of_mem _ (List.mem_append_right _ h9)) hown hK hP (5 + 60) (qG_i (by omega)) rfl 4 (by decide) (hts (.fieldLink RX3 185 "PalletStack$Item" "width" "I") (List.mem_of_getElem? (i := 3) (by rfl))) (fun _ h9 => h9) rfl dX3_hasGroundAtCorners_11 ?_
  refine lv_iadd hx hb dX3_hasGroundAtCorners_14 ?_
  refine lv_topi (fun v_50 ev_50 => ?_)
  obtain rfl : v_50 = (nI (X + 1)) := ev_50.trans ((nI_add _ _).trans (by rw [hX]))
  refine lv_iconst (v := 1) hx hb dX3_hasGroundAtCorners_15 (by decide) ?_
  refine lv_isub hx hb dX3_hasGroundAtCorners_16 ?_
  refine lv_topi (fun v_51 ev_51 => ?_)
  obtain rfl : v_51 = (nI X) := ev_51.trans (nI_pred X)
  refine lv_istore_n (lv' := [(1, .int (nI X)), (0, .ref (qA B 5 0))]) hx hb dX3_hasGroundAtCorners_17 rfl hl (by decide) rfl (fun ls hl => ?_)
  refine lv_aload_n hx hb dX3_hasGroundAtCorners_18 rfl (lv_at hl 1 rfl) ?_
  refine va_get (D := D) (ci := 3) (v := .ref (qA B 0 60)) (C := RX3) (T := TX3) (N := 14) hx hb hts (fun _ h9 => List.mem_cons_of_mem _ (List.mem_append_left _ (List.mem_append_right _ h9))) hown hK hP 0 rfl rfl 11 (by decide) (hts (.fieldLink RX3 52 "PalletStack" "trial" "LPalletStack$Item;") (List.mem_of_getElem? (i := 1) (by rfl))) (fun _ h9 => h9) rfl dX3_hasGroundAtCorners_19 ?_
  refine va_get (D := D) (ci := 0) (v := .int (nI (N 0 60 7))) (C := RX0) (T := TX0) (N := 18) hx hb hts (fun _ h9 => List.mem_cons_of_mem _ (List.mem_append_right _ h9)) hown hK hP (5 + 60) (qG_i (by omega)) rfl 7 (by decide) (hts (.fieldLink RX3 176 "PalletStack$Item" "y" "I") (List.mem_of_getElem? (i := 4) (by rfl))) (fun _ h9 => h9) rfl dX3_hasGroundAtCorners_22 ?_
  refine lv_aload_n hx hb dX3_hasGroundAtCorners_25 rfl (lv_at hl 1 rfl) ?_
  refine va_get (D := D) (ci := 3) (v := .ref (qA B 0 60)) (C := RX3) (T := TX3) (N := 14) hx hb hts (fun _ h9 => List.mem_cons_of_mem _ (List.mem_append_left _ (List.mem_append_right _ h9))) hown hK hP 0 rfl rfl 11 (by decide) (hts (.fieldLink RX3 52 "PalletStack" "trial" "LPalletStack$Item;") (List.mem_of_getElem? (i := 1) (by rfl))) (fun _ h9 => h9) rfl dX3_hasGroundAtCorners_26 ?_
  refine va_get (D := D) (ci := 0) (v := .int (nI (N 0 60 5))) (C := RX0) (T := TX0) (N := 18) hx hb hts (fun _ h9 => List.mem_cons_of_mem _ (List.mem_append_right _ h9)) hown hK hP (5 + 60) (qG_i (by omega)) rfl 5 (by decide) (hts (.fieldLink RX3 179 "PalletStack$Item" "depth" "I") (List.mem_of_getElem? (i := 5) (by rfl))) (fun _ h9 => h9) rfl dX3_hasGroundAtCorners_29 ?_
  refine lv_iadd hx hb dX3_hasGroundAtCorners_32 ?_
  refine lv_topi (fun v_52 ev_52 => ?_)
  obtain rfl : v_52 = (nI (Y + 1)) := ev_52.trans ((nI_add _ _).trans (by rw [hY]))
  refine lv_iconst (v := 1) hx hb dX3_hasGroundAtCorners_33 (by decide) ?_
  refine lv_isub hx hb dX3_hasGroundAtCorners_34 ?_
  refine lv_topi (fun v_53 ev_53 => ?_)
  obtain rfl : v_53 = (nI Y) := ev_53.trans (nI_pred Y)
  refine lv_istore_n (lv' := [(2, .int (nI Y)), (1, .int (nI X)), (0, .ref (qA B 5 0))]) hx hb dX3_hasGroundAtCorners_35 rfl hl (by decide) rfl (fun ls hl => ?_)
  refine lv_aload_n hx hb dX3_hasGroundAtCorners_36 rfl (lv_at hl 2 rfl) ?_
  refine lv_aload_n hx hb dX3_hasGroundAtCorners_37 rfl (lv_at hl 2 rfl) ?_
  refine va_get (D := D) (ci := 3) (v := .ref (qA B 0 60)) (C := RX3) (T := TX3) (N := 14) hx hb hts (fun _ h9 => List.mem_cons_of_mem _ (List.mem_append_left _ (List.mem_append_right _ h9))) hown hK hP 0 rfl rfl 11 (by decide) (hts (.fieldLink RX3 52 "PalletStack" "trial" "LPalletStack$Item;") (List.mem_of_getElem? (i := 1) (by rfl))) (fun _ h9 => h9) rfl dX3_hasGroundAtCorners_38 ?_
  refine va_get (D := D) (ci := 0) (v := .int (nI (N 0 60 6))) (C := RX0) (T := TX0) (N := 18) hx hb hts (fun _ h9 => List.mem_cons_of_mem _ (List.mem_append_right _ h9)) hown hK hP (5 + 60) (qG_i (by omega)) rfl 6 (by decide) (hts (.fieldLink RX3 182 "PalletStack$Item" "x" "I") (List.mem_of_getElem? (i := 2) (by rfl))) (fun _ h9 => h9) rfl dX3_hasGroundAtCorners_41 ?_
  refine lv_aload_n hx hb dX3_hasGroundAtCorners_44 rfl (lv_at hl 2 rfl) ?_
  refine va_get (D := D) (ci := 3) (v := .ref (qA B 0 60)) (C := RX3) (T := TX3) (N := 14) hx hb hts (fun _ h9 => List.mem_cons_of_mem _ (List.mem_append_left _ (List.mem_append_right _ h9))) hown hK hP 0 rfl rfl 11 (by decide) (hts (.fieldLink RX3 52 "PalletStack" "trial" "LPalletStack$Item;") (List.mem_of_getElem? (i := 1) (by rfl))) (fun _ h9 => h9) rfl dX3_hasGroundAtCorners_45 ?_
  refine va_get (D := D) (ci := 0) (v := .int (nI (N 0 60 7))) (C := RX0) (T := TX0) (N := 18) hx hb hts (fun _ h9 => List.mem_cons_of_mem _ (List.mem_append_right _ h9)) hown hK hP (5 + 60) (qG_i (by omega)) rfl 7 (by decide) (hts (.fieldLink RX3 176 "PalletStack$Item" "y" "I") (List.mem_of_getElem? (i := 4) (by rfl))) (fun _ h9 => h9) rfl dX3_hasGroundAtCorners_48 ?_
  refine zrdV2 (As := [.int (nI (N 0 60 6)), .int (nI (N 0 60 7))]) (rest := []) (wc := qG B R N) ⟨hx, hb, hml, hown, hts⟩ (c_isGround l D _ B R N (N 0 60 6) (N 0 60 7) (by omega) (by omega)) (cwV 2 hts gX3_hasGroundAtCorners_X3_isGround rfl rfl rfl (by decide +kernel) ⟨by rw [hRf]; exact Nat.le_of_ble_eq_true rfl, by rw [hRl]; exact Nat.le_of_ble_eq_true rfl⟩) hK hP hD [0, 1, 2, 3] rfl (ci := 3) (q0 := 0) rfl rfl rfl hl.1 rfl (Nat.le_of_ble_eq_true rfl) dX3_hasGroundAtCorners_51 ⟨by omega, by omega⟩ (fun r_54 hr_54 => ?_)
  refine lv_if_eq (tgt := 100) hx hb dX3_hasGroundAtCorners_54 (by decide) (fun c_55 => ?_) (fun c_55 => ?_)
  · have h_b := True.intro
    refine lv_iconst (v := 0) hx hb dX3_hasGroundAtCorners_100 (by decide) ?_
    exact W.zret (ty := .boolean) (v := 0) hx hb hr rfl (fun t ht hW => ⟨0, rfl, trivial, ht⟩) (fun _ h => by cases h) dX3_hasGroundAtCorners_101
  · have h_b := True.intro
    refine lv_aload_n hx hb dX3_hasGroundAtCorners_57 rfl (lv_at hl 2 rfl) ?_
    refine lv_iload_n hx hb dX3_hasGroundAtCorners_58 rfl (lv_at hl 1 rfl) ?_
    refine lv_aload_n hx hb dX3_hasGroundAtCorners_59 rfl (lv_at hl 2 rfl) ?_
    refine va_get (D := D) (ci := 3) (v := .ref (qA B 0 60)) (C := RX3) (T := TX3) (N := 14) hx hb hts (fun _ h9 => List.mem_cons_of_mem _ (List.mem_append_left _ (List.mem_append_right _ h9))) hown hK hP 0 rfl rfl 11 (by decide) (hts (.fieldLink RX3 52 "PalletStack" "trial" "LPalletStack$Item;") (List.mem_of_getElem? (i := 1) (by rfl))) (fun _ h9 => h9) rfl dX3_hasGroundAtCorners_60 ?_
    refine va_get (D := D) (ci := 0) (v := .int (nI (N 0 60 7))) (C := RX0) (T := TX0) (N := 18) hx hb hts (fun _ h9 => List.mem_cons_of_mem _ (List.mem_append_right _ h9)) hown hK hP (5 + 60) (qG_i (by omega)) rfl 7 (by decide) (hts (.fieldLink RX3 176 "PalletStack$Item" "y" "I") (List.mem_of_getElem? (i := 4) (by rfl))) (fun _ h9 => h9) rfl dX3_hasGroundAtCorners_63 ?_
    refine zrdV2 (As := [.int (nI X), .int (nI (N 0 60 7))]) (rest := []) (wc := qG B R N) ⟨hx, hb, hml, hown, hts⟩ (c_isGround l D _ B R N X (N 0 60 7) (by omega) (by omega)) (cwV 2 hts gX3_hasGroundAtCorners_X3_isGround rfl rfl rfl (by decide +kernel) ⟨by rw [hRf]; exact Nat.le_of_ble_eq_true rfl, by rw [hRl]; exact Nat.le_of_ble_eq_true rfl⟩) hK hP hD [0, 1, 2, 3] rfl (ci := 3) (q0 := 0) rfl rfl rfl hl.1 rfl (Nat.le_of_ble_eq_true rfl) dX3_hasGroundAtCorners_66 ⟨by omega, by omega⟩ (fun r_56 hr_56 => ?_)
    refine lv_if_eq (tgt := 100) hx hb dX3_hasGroundAtCorners_69 (by decide) (fun c_57 => ?_) (fun c_57 => ?_)
    · have h_b := True.intro
      refine lv_iconst (v := 0) hx hb dX3_hasGroundAtCorners_100 (by decide) ?_
      exact W.zret (ty := .boolean) (v := 0) hx hb hr rfl (fun t ht hW => ⟨0, rfl, trivial, ht⟩) (fun _ h => by cases h) dX3_hasGroundAtCorners_101
    · have h_b := True.intro
      refine lv_aload_n hx hb dX3_hasGroundAtCorners_72 rfl (lv_at hl 2 rfl) ?_
      refine lv_aload_n hx hb dX3_hasGroundAtCorners_73 rfl (lv_at hl 2 rfl) ?_
      refine va_get (D := D) (ci := 3) (v := .ref (qA B 0 60)) (C := RX3) (T := TX3) (N := 14) hx hb hts (fun _ h9 => List.mem_cons_of_mem _ (List.mem_append_left _ (List.mem_append_right _ h9))) hown hK hP 0 rfl rfl 11 (by decide) (hts (.fieldLink RX3 52 "PalletStack" "trial" "LPalletStack$Item;") (List.mem_of_getElem? (i := 1) (by rfl))) (fun _ h9 => h9) rfl dX3_hasGroundAtCorners_74 ?_
      refine va_get (D := D) (ci := 0) (v := .int (nI (N 0 60 6))) (C := RX0) (T := TX0) (N := 18) hx hb hts (fun _ h9 => List.mem_cons_of_mem _ (List.mem_append_right _ h9)) hown hK hP (5 + 60) (qG_i (by omega)) rfl 6 (by decide) (hts (.fieldLink RX3 182 "PalletStack$Item" "x" "I") (List.mem_of_getElem? (i := 2) (by rfl))) (fun _ h9 => h9) rfl dX3_hasGroundAtCorners_77 ?_
      refine lv_iload_n hx hb dX3_hasGroundAtCorners_80 rfl (lv_at hl 0 rfl) ?_
      refine zrdV2 (As := [.int (nI (N 0 60 6)), .int (nI Y)]) (rest := []) (wc := qG B R N) ⟨hx, hb, hml, hown, hts⟩ (c_isGround l D _ B R N (N 0 60 6) Y (by omega) (by omega)) (cwV 2 hts gX3_hasGroundAtCorners_X3_isGround rfl rfl rfl (by decide +kernel) ⟨by rw [hRf]; exact Nat.le_of_ble_eq_true rfl, by rw [hRl]; exact Nat.le_of_ble_eq_true rfl⟩) hK hP hD [0, 1, 2, 3] rfl (ci := 3) (q0 := 0) rfl rfl rfl hl.1 rfl (Nat.le_of_ble_eq_true rfl) dX3_hasGroundAtCorners_81 ⟨by omega, by omega⟩ (fun r_58 hr_58 => ?_)
      refine lv_if_eq (tgt := 100) hx hb dX3_hasGroundAtCorners_84 (by decide) (fun c_59 => ?_) (fun c_59 => ?_)
      · have h_b := True.intro
        refine lv_iconst (v := 0) hx hb dX3_hasGroundAtCorners_100 (by decide) ?_
        exact W.zret (ty := .boolean) (v := 0) hx hb hr rfl (fun t ht hW => ⟨0, rfl, trivial, ht⟩) (fun _ h => by cases h) dX3_hasGroundAtCorners_101
      · have h_b := True.intro
        refine lv_aload_n hx hb dX3_hasGroundAtCorners_87 rfl (lv_at hl 2 rfl) ?_
        refine lv_iload_n hx hb dX3_hasGroundAtCorners_88 rfl (lv_at hl 1 rfl) ?_
        refine lv_iload_n hx hb dX3_hasGroundAtCorners_89 rfl (lv_at hl 0 rfl) ?_
        refine zrdV2 (As := [.int (nI X), .int (nI Y)]) (rest := []) (wc := qG B R N) ⟨hx, hb, hml, hown, hts⟩ (c_isGround l D _ B R N X Y (by omega) (by omega)) (cwV 2 hts gX3_hasGroundAtCorners_X3_isGround rfl rfl rfl (by decide +kernel) ⟨by rw [hRf]; exact Nat.le_of_ble_eq_true rfl, by rw [hRl]; exact Nat.le_of_ble_eq_true rfl⟩) hK hP hD [0, 1, 2, 3] rfl (ci := 3) (q0 := 0) rfl rfl rfl hl.1 rfl (Nat.le_of_ble_eq_true rfl) dX3_hasGroundAtCorners_90 ⟨by omega, by omega⟩ (fun r_60 hr_60 => ?_)
        refine lv_if_eq (tgt := 100) hx hb dX3_hasGroundAtCorners_93 (by decide) (fun c_61 => ?_) (fun c_61 => ?_)
        · have h_b := True.intro
          refine lv_iconst (v := 0) hx hb dX3_hasGroundAtCorners_100 (by decide) ?_
          exact W.zret (ty := .boolean) (v := 0) hx hb hr rfl (fun t ht hW => ⟨0, rfl, trivial, ht⟩) (fun _ h => by cases h) dX3_hasGroundAtCorners_101
        · have h_b := True.intro
          refine lv_iconst (v := 1) hx hb dX3_hasGroundAtCorners_96 (by decide) ?_
          refine lv_goto (tgt := 101) hx hb dX3_hasGroundAtCorners_97 (by decide) ?_
          exact W.zret (ty := .boolean) (v := 1) hx hb hr rfl (fun t ht hW => ⟨1, rfl, trivial, ht⟩) (fun _ h => by cases h) dX3_hasGroundAtCorners_101
set_option maxHeartbeats 4000000 in
set_option maxRecDepth 100000 in
theorem c_isInField (l : Launch) (D : zG) (sz : Nat) (B : qB) (R : qR0) (N : qN0) (k x y t : Nat) (hk : k < qk B) (ht : t < 2) (hx9 : x < 12) (hy9 : y < 10) (hK9 : N 2 k 1 ≤ 6 ∧ N 2 k 2 ≤ 6 ∧ N 2 k 6 < 2) : Met l yX3_isInField wsX3_isInField ({ frames := 1, cells := 0, slots := 0, locals := 30 }) (zPc D (qT B) (qG B R N) sz [.ref (qA B 3 k), .int (nI x), .int (nI y), .int (nI t)]) (vp_Si (fun r => r = 0 ∨ (r = 1 ∧ (t = 1 → N 2 k 6 = 1) ∧ x + qwd N k t ≤ 12 ∧ y + qdp N k t ≤ 10))) 0 0 (fun _ => False) := by
  refine Met.ofW (cc := cX3_isInField) (maxL := 6) (ret := (some .boolean)) (by decide) rfl ?_
  intro p e s m args below meth c s₁ B9 hml hv
  obtain ⟨rfl, hsz, hP, hK, hD0⟩ := hv
  have hx := B9.exec
  have hb := B9.bytes
  have hr := B9.returns
  have hts := atoms_spec (ws := wsX3_isInField) B9.pre
  have hown : s.vm.findClass RX3 = some m.cls := findClass_of_methodNamed B9.named
  have hlocks := B9.notSynchronized
  subst hsz
  have hD := hD0
  generalize hAe : (fun _ : Nat => True) = A at hD
  have hl := lv_entry ([.ref (qA B 3 k), .int (nI x), .int (nI y), .int (nI t)]) (n := 6) (Nat.le_of_ble_eq_true rfl)
  rw [lg_entry_eq]
  generalize (lg_sl ([.ref (qA B 3 k), .int (nI x), .int (nI y), .int (nI t)]) ++ List.replicate (6 - (lg_sl ([.ref (qA B 3 k), .int (nI x), .int (nI y), .int (nI t)])).length) Slot.unset).toArray = ls at hl ⊢
  have hl : lv_has ls 6 [(0, .ref (qA B 3 k)), (1, .int (nI x)), (2, .int (nI y)), (3, .int (nI t))] := hl
  have hP : va_P D vwCl (qG B R N) s.heap := hP
  generalize hRe : (headSpec _ _).room = R9
  have hRf : R9.frames = 1 := by rw [← hRe]; rfl
  have hRc : R9.cells = 0 := by rw [← hRe]; rfl
  have hRs : R9.slots = 0 := by rw [← hRe]; rfl
  have hRl : R9.locals = 30 := by rw [← hRe]; rfl
  clear hRe
  obtain ⟨q1, q2, q6⟩ := hK9
  refine lv_iload_n hx hb dX3_isInField_0 rfl (lv_at hl 3 rfl) ?_
  refine lv_if_eq (tgt := 13) hx hb dX3_isInField_1 (by decide) (fun c_62 => ?_) (fun c_62 => ?_)
  · have h_b := True.intro
    obtain rfl : t = 0 := (qeq (by omega) (by decide)).mp c_62
    refine lv_iload_n hx hb dX3_isInField_13 rfl (lv_at hl 3 rfl) ?_
    refine lv_if_eq (tgt := 24) hx hb dX3_isInField_14 (by decide) (fun c_63 => ?_) (fun c_63 => absurd (rfl) c_63)
    refine lv_aload_n hx hb dX3_isInField_24 rfl (lv_at hl 0 rfl) ?_
    refine va_get (D := D) (ci := 1) (v := .int (nI (N 2 k 1))) (C := RX1) (T := TX1) (N := 8) hx hb hts (fun _ h9 => List.mem_cons_of_mem _ (List.mem_append_right _ h9)) hown hK hP (188 + k) (qG_d hk) rfl 1 (by decide) (hts (.fieldLink RX3 249 "PalletStack$Kind" "width" "I") (List.mem_of_getElem? (i := 3) (by rfl))) (fun _ h9 => h9) rfl dX3_isInField_25 ?_
    refine lv_istore (lv' := [(4, .int (nI (N 2 k 1))), (0, .ref (qA B 3 k)), (1, .int (nI x)), (2, .int (nI y)), (3, .int (nI 0))]) hx hb dX3_isInField_28 hl (by decide) rfl (fun ls hl => ?_)
    refine lv_iload_n hx hb dX3_isInField_30 rfl (lv_at hl 4 rfl) ?_
    refine lv_if_eq (tgt := 41) hx hb dX3_isInField_31 (by decide) (fun c_64 => ?_) (fun c_64 => absurd (rfl) c_64)
    refine lv_aload_n hx hb dX3_isInField_41 rfl (lv_at hl 1 rfl) ?_
    refine va_get (D := D) (ci := 1) (v := .int (nI (N 2 k 2))) (C := RX1) (T := TX1) (N := 8) hx hb hts (fun _ h9 => List.mem_cons_of_mem _ (List.mem_append_right _ h9)) hown hK hP (188 + k) (qG_d hk) rfl 2 (by decide) (hts (.fieldLink RX3 248 "PalletStack$Kind" "depth" "I") (List.mem_of_getElem? (i := 2) (by rfl))) (fun _ h9 => h9) rfl dX3_isInField_42 ?_
    refine lv_istore (lv' := [(5, .int (nI (N 2 k 2))), (4, .int (nI (N 2 k 1))), (0, .ref (qA B 3 k)), (1, .int (nI x)), (2, .int (nI y)), (3, .int (nI 0))]) hx hb dX3_isInField_45 hl (by decide) rfl (fun ls hl => ?_)
    refine lv_iload_n hx hb dX3_isInField_47 rfl (lv_at hl 3 rfl) ?_
    refine lv_iconst (v := 0) hx hb dX3_isInField_48 (by decide) ?_
    refine lv_bipush (v := 12) hx hb dX3_isInField_49 (by decide) ?_
    refine lv_iload hx hb dX3_isInField_51 (lv_at hl 1 rfl) ?_
    refine lv_isub hx hb dX3_isInField_53 ?_
    refine lv_topi (fun v_65 ev_65 => ?_)
    obtain rfl : v_65 = (nI (12 - (N 2 k 1))) := ev_65.trans (pk_sub (a := 12) (by omega))
    refine zrdS (As := [.int (nI x), .int 0, .int (nI (12 - (N 2 k 1)))]) (rest := []) (wc := []) ⟨hx, hb, hml, hown, hts⟩ (c_isWithin l D _ (nI x) 0 (nI (12 - (N 2 k 1)))) (va_cwS 3 hts gX3_isInField_X3_isWithin rfl rfl rfl (by decide +kernel) ⟨by rw [hRf]; exact Nat.le_of_ble_eq_true rfl, by rw [hRl]; exact Nat.le_of_ble_eq_true rfl⟩) hK hP hD [] rfl (by decide) [] rfl rfl hl.1 rfl (Nat.le_of_ble_eq_true rfl) dX3_isInField_54 ⟨by omega, by omega⟩ (fun r_66 hr_66 => ?_)
    refine lv_if_eq (tgt := 77) hx hb dX3_isInField_57 (by decide) (fun c_67 => ?_) (fun c_67 => ?_)
    · have h_b := True.intro
      have k_68 : ¬ (0 ≤ nI x ∧ nI x ≤ (nI (12 - (N 2 k 1)))) := fun h9 => absurd ((hr_66.trans (if_pos h9)).symm.trans c_67) (by decide)
      refine lv_iconst (v := 0) hx hb dX3_isInField_77 (by decide) ?_
      exact W.zret (ty := .boolean) (v := 0) hx hb hr rfl (fun t ht hW => ⟨0, rfl, Or.inl rfl, ht⟩) (fun _ h => by cases h) dX3_isInField_78
    · have h_b := True.intro
      have k_69 : 0 ≤ nI x ∧ nI x ≤ (nI (12 - (N 2 k 1))) := Decidable.byContradiction fun h9 => absurd (hr_66.trans (if_neg h9)) c_67
      have z1 : x ≤ 12 - (N 2 k 1) := (nI_leI (by omega) (by omega)).mp k_69.2
      refine lv_iload_n hx hb dX3_isInField_60 rfl (lv_at hl 4 rfl) ?_
      refine lv_iconst (v := 0) hx hb dX3_isInField_61 (by decide) ?_
      refine lv_bipush (v := 10) hx hb dX3_isInField_62 (by decide) ?_
      refine lv_iload hx hb dX3_isInField_64 (lv_at hl 0 rfl) ?_
      refine lv_isub hx hb dX3_isInField_66 ?_
      refine lv_topi (fun v_70 ev_70 => ?_)
      obtain rfl : v_70 = (nI (10 - (N 2 k 2))) := ev_70.trans (pk_sub (a := 10) (by omega))
      refine zrdS (As := [.int (nI y), .int 0, .int (nI (10 - (N 2 k 2)))]) (rest := []) (wc := []) ⟨hx, hb, hml, hown, hts⟩ (c_isWithin l D _ (nI y) 0 (nI (10 - (N 2 k 2)))) (va_cwS 3 hts gX3_isInField_X3_isWithin rfl rfl rfl (by decide +kernel) ⟨by rw [hRf]; exact Nat.le_of_ble_eq_true rfl, by rw [hRl]; exact Nat.le_of_ble_eq_true rfl⟩) hK hP hD [] rfl (by decide) [] rfl rfl hl.1 rfl (Nat.le_of_ble_eq_true rfl) dX3_isInField_67 ⟨by omega, by omega⟩ (fun r_71 hr_71 => ?_)
      refine lv_if_eq (tgt := 77) hx hb dX3_isInField_70 (by decide) (fun c_72 => ?_) (fun c_72 => ?_)
      · have h_b := True.intro
        have k_73 : ¬ (0 ≤ nI y ∧ nI y ≤ (nI (10 - (N 2 k 2)))) := fun h9 => absurd ((hr_71.trans (if_pos h9)).symm.trans c_72) (by decide)
        refine lv_iconst (v := 0) hx hb dX3_isInField_77 (by decide) ?_
        exact W.zret (ty := .boolean) (v := 0) hx hb hr rfl (fun t ht hW => ⟨0, rfl, Or.inl rfl, ht⟩) (fun _ h => by cases h) dX3_isInField_78
      · have h_b := True.intro
        have k_74 : 0 ≤ nI y ∧ nI y ≤ (nI (10 - (N 2 k 2))) := Decidable.byContradiction fun h9 => absurd (hr_71.trans (if_neg h9)) c_72
        have z2 : y ≤ 10 - (N 2 k 2) := (nI_leI (by omega) (by omega)).mp k_74.2
        refine lv_iconst (v := 1) hx hb dX3_isInField_73 (by decide) ?_
        refine lv_goto (tgt := 78) hx hb dX3_isInField_74 (by decide) ?_
        exact W.zret (ty := .boolean) (v := 1) hx hb hr rfl (fun t ht hW => ⟨1, rfl, Or.inr ⟨rfl, fun h => absurd h (by decide), by show x + (N 2 k 1) ≤ 12; omega, by show y + (N 2 k 2) ≤ 10; omega⟩, ht⟩) (fun _ h => by cases h) dX3_isInField_78
  · have h_b := True.intro
    obtain rfl : t = 1 := by rcases (show t = 0 ∨ t = 1 by omega) with h | h; exact absurd (by rw [h]; rfl) c_62; exact h
    refine lv_aload_n hx hb dX3_isInField_4 rfl (lv_at hl 0 rfl) ?_
    refine va_get (D := D) (ci := 1) (v := .int (nI (N 2 k 6))) (C := RX1) (T := TX1) (N := 8) hx hb hts (fun _ h9 => List.mem_cons_of_mem _ (List.mem_append_right _ h9)) hown hK hP (188 + k) (qG_d hk) rfl 6 (by decide) (hts (.fieldLink RX3 245 "PalletStack$Kind" "canTurn" "Z") (List.mem_of_getElem? (i := 1) (by rfl))) (fun _ h9 => h9) rfl dX3_isInField_5 ?_
    refine lv_if_ne (tgt := 13) hx hb dX3_isInField_8 (by decide) (fun c_75 => ?_) (fun c_75 => ?_)
    · have h_b := True.intro
      have z6 : N 2 k 6 = 1 := by rcases (show N 2 k 6 = 0 ∨ N 2 k 6 = 1 by omega) with h | h; exact absurd (by rw [h]; rfl) c_75; exact h
      refine lv_iload_n hx hb dX3_isInField_13 rfl (lv_at hl 3 rfl) ?_
      refine lv_if_eq (tgt := 24) hx hb dX3_isInField_14 (by decide) (fun c_76 => absurd c_76 (by decide)) (fun c_76 => ?_)
      refine lv_aload_n hx hb dX3_isInField_17 rfl (lv_at hl 0 rfl) ?_
      refine va_get (D := D) (ci := 1) (v := .int (nI (N 2 k 2))) (C := RX1) (T := TX1) (N := 8) hx hb hts (fun _ h9 => List.mem_cons_of_mem _ (List.mem_append_right _ h9)) hown hK hP (188 + k) (qG_d hk) rfl 2 (by decide) (hts (.fieldLink RX3 248 "PalletStack$Kind" "depth" "I") (List.mem_of_getElem? (i := 2) (by rfl))) (fun _ h9 => h9) rfl dX3_isInField_18 ?_
      refine lv_goto (tgt := 28) hx hb dX3_isInField_21 (by decide) ?_
      refine lv_istore (lv' := [(4, .int (nI (N 2 k 2))), (0, .ref (qA B 3 k)), (1, .int (nI x)), (2, .int (nI y)), (3, .int (nI 1))]) hx hb dX3_isInField_28 hl (by decide) rfl (fun ls hl => ?_)
      refine lv_iload_n hx hb dX3_isInField_30 rfl (lv_at hl 4 rfl) ?_
      refine lv_if_eq (tgt := 41) hx hb dX3_isInField_31 (by decide) (fun c_77 => absurd c_77 (by decide)) (fun c_77 => ?_)
      refine lv_aload_n hx hb dX3_isInField_34 rfl (lv_at hl 1 rfl) ?_
      refine va_get (D := D) (ci := 1) (v := .int (nI (N 2 k 1))) (C := RX1) (T := TX1) (N := 8) hx hb hts (fun _ h9 => List.mem_cons_of_mem _ (List.mem_append_right _ h9)) hown hK hP (188 + k) (qG_d hk) rfl 1 (by decide) (hts (.fieldLink RX3 249 "PalletStack$Kind" "width" "I") (List.mem_of_getElem? (i := 3) (by rfl))) (fun _ h9 => h9) rfl dX3_isInField_35 ?_
      refine lv_goto (tgt := 45) hx hb dX3_isInField_38 (by decide) ?_
      refine lv_istore (lv' := [(5, .int (nI (N 2 k 1))), (4, .int (nI (N 2 k 2))), (0, .ref (qA B 3 k)), (1, .int (nI x)), (2, .int (nI y)), (3, .int (nI 1))]) hx hb dX3_isInField_45 hl (by decide) rfl (fun ls hl => ?_)
      refine lv_iload_n hx hb dX3_isInField_47 rfl (lv_at hl 3 rfl) ?_
      refine lv_iconst (v := 0) hx hb dX3_isInField_48 (by decide) ?_
      refine lv_bipush (v := 12) hx hb dX3_isInField_49 (by decide) ?_
      refine lv_iload hx hb dX3_isInField_51 (lv_at hl 1 rfl) ?_
      refine lv_isub hx hb dX3_isInField_53 ?_
      refine lv_topi (fun v_78 ev_78 => ?_)
      obtain rfl : v_78 = (nI (12 - (N 2 k 2))) := ev_78.trans (pk_sub (a := 12) (by omega))
      refine zrdS (As := [.int (nI x), .int 0, .int (nI (12 - (N 2 k 2)))]) (rest := []) (wc := []) ⟨hx, hb, hml, hown, hts⟩ (c_isWithin l D _ (nI x) 0 (nI (12 - (N 2 k 2)))) (va_cwS 3 hts gX3_isInField_X3_isWithin rfl rfl rfl (by decide +kernel) ⟨by rw [hRf]; exact Nat.le_of_ble_eq_true rfl, by rw [hRl]; exact Nat.le_of_ble_eq_true rfl⟩) hK hP hD [] rfl (by decide) [] rfl rfl hl.1 rfl (Nat.le_of_ble_eq_true rfl) dX3_isInField_54 ⟨by omega, by omega⟩ (fun r_79 hr_79 => ?_)
      refine lv_if_eq (tgt := 77) hx hb dX3_isInField_57 (by decide) (fun c_80 => ?_) (fun c_80 => ?_)
      · have h_b := True.intro
        have k_81 : ¬ (0 ≤ nI x ∧ nI x ≤ (nI (12 - (N 2 k 2)))) := fun h9 => absurd ((hr_79.trans (if_pos h9)).symm.trans c_80) (by decide)
        refine lv_iconst (v := 0) hx hb dX3_isInField_77 (by decide) ?_
        exact W.zret (ty := .boolean) (v := 0) hx hb hr rfl (fun t ht hW => ⟨0, rfl, Or.inl rfl, ht⟩) (fun _ h => by cases h) dX3_isInField_78
      · have h_b := True.intro
        have k_82 : 0 ≤ nI x ∧ nI x ≤ (nI (12 - (N 2 k 2))) := Decidable.byContradiction fun h9 => absurd (hr_79.trans (if_neg h9)) c_80
        have z1 : x ≤ 12 - (N 2 k 2) := (nI_leI (by omega) (by omega)).mp k_82.2
        refine lv_iload_n hx hb dX3_isInField_60 rfl (lv_at hl 4 rfl) ?_
        refine lv_iconst (v := 0) hx hb dX3_isInField_61 (by decide) ?_
        refine lv_bipush (v := 10) hx hb dX3_isInField_62 (by decide) ?_
        refine lv_iload hx hb dX3_isInField_64 (lv_at hl 0 rfl) ?_
        refine lv_isub hx hb dX3_isInField_66 ?_
        refine lv_topi (fun v_83 ev_83 => ?_)
        obtain rfl : v_83 = (nI (10 - (N 2 k 1))) := ev_83.trans (pk_sub (a := 10) (by omega))
        refine zrdS (As := [.int (nI y), .int 0, .int (nI (10 - (N 2 k 1)))]) (rest := []) (wc := []) ⟨hx, hb, hml, hown, hts⟩ (c_isWithin l D _ (nI y) 0 (nI (10 - (N 2 k 1)))) (va_cwS 3 hts gX3_isInField_X3_isWithin rfl rfl rfl (by decide +kernel) ⟨by rw [hRf]; exact Nat.le_of_ble_eq_true rfl, by rw [hRl]; exact Nat.le_of_ble_eq_true rfl⟩) hK hP hD [] rfl (by decide) [] rfl rfl hl.1 rfl (Nat.le_of_ble_eq_true rfl) dX3_isInField_67 ⟨by omega, by omega⟩ (fun r_84 hr_84 => ?_)
        refine lv_if_eq (tgt := 77) hx hb dX3_isInField_70 (by decide) (fun c_85 => ?_) (fun c_85 => ?_)
        · have h_b := True.intro
          have k_86 : ¬ (0 ≤ nI y ∧ nI y ≤ (nI (10 - (N 2 k 1)))) := fun h9 => absurd ((hr_84.trans (if_pos h9)).symm.trans c_85) (by decide)
          refine lv_iconst (v := 0) hx hb dX3_isInField_77 (by decide) ?_
          exact W.zret (ty := .boolean) (v := 0) hx hb hr rfl (fun t ht hW => ⟨0, rfl, Or.inl rfl, ht⟩) (fun _ h => by cases h) dX3_isInField_78
        · have h_b := True.intro
          have k_87 : 0 ≤ nI y ∧ nI y ≤ (nI (10 - (N 2 k 1))) := Decidable.byContradiction fun h9 => absurd (hr_84.trans (if_neg h9)) c_85
          have z2 : y ≤ 10 - (N 2 k 1) := (nI_leI (by omega) (by omega)).mp k_87.2
          refine lv_iconst (v := 1) hx hb dX3_isInField_73 (by decide) ?_
          refine lv_goto (tgt := 78) hx hb dX3_isInField_74 (by decide) ?_
          exact W.zret (ty := .boolean) (v := 1) hx hb hr rfl (fun t ht hW => ⟨1, rfl, Or.inr ⟨rfl, fun _ => z6, by show x + (N 2 k 2) ≤ 12; omega, by show y + (N 2 k 1) ≤ 10; omega⟩, ht⟩) (fun _ h => by cases h) dX3_isInField_78
    · have h_b := True.intro
      refine lv_iconst (v := 0) hx hb dX3_isInField_11 (by decide) ?_
      exact W.zret (ty := .boolean) (v := 0) hx hb hr rfl (fun t ht hW => ⟨0, rfl, Or.inl rfl, ht⟩) (fun _ h => by cases h) dX3_isInField_12
end
section
set_option maxHeartbeats 4000000 in
set_option maxRecDepth 100000 in
theorem c_broken (l : Launch) (D : zG) (sz : Nat) (B : qB) (R : qR0) (N : qN0) (hO : qOK B N) (hM : qM N) (S : Nat → Nat → Nat) (k : Nat) (hk : k < qk B) (h7 : N 2 k 7 < 2) (hS9 : qS9 B R N S (N 4 1 5)) (hw : 0 < N 0 60 4 ∧ N 0 60 4 ≤ 6 ∧ 0 < N 0 60 5 ∧ N 0 60 5 ≤ 6) (hxy : N 0 60 6 + N 0 60 4 ≤ 12 ∧ N 0 60 7 + N 0 60 5 ≤ 10) (hg : 0 < N 0 60 10 ∧ N 0 60 10 ≤ 36) (hwt : N 0 60 1 ≤ 1000) (hsup : N 4 1 2 ≤ 100) (hlen : (qsp N 60 (N 4 1 5)).length ≤ 36) (hcm : ∀ k, k < N 4 1 5 → qcm N 60 k ≤ 36) (hLb : ∀ k i, k ≤ N 4 1 5 + 1 → i < N 4 1 5 + 1 → qLN (qSx (qSt S N) (N 4 1 5)) (qx (qtr N) (N 4 1 5)) (N 4 1 5 + 1) k i ≤ 1000000) : Met l yX3_brokenRule wsX3_brokenRule ({ frames := 3, cells := 0, slots := 0, locals := 75 }) (zPc D (qT B) (qG B R N) sz [.ref (qA B 5 0), .ref (qA B 3 k)]) (va_Qi (fun (r : Int32) (u : qR0 × qN0) => (∀ i, i ≠ 60 → u.1 i = R i) ∧ qFr N u.2 ∧ qM u.2 ∧ (r = 0 → qAl N S k)) (zB D (va_A (qG B R N) sz) (fun _ => []) 0 (fun u => qG B u.1 u.2)) (va_A (qG B R N) sz)) 0 0 (va_A (qG B R N) sz) := by
  refine Met.ofW (cc := cX3_brokenRule) (maxL := 2) (ret := (some .int)) (by decide) rfl ?_
  intro p e s m args below meth c s₁ B9 hml hv
  obtain ⟨rfl, hsz, hP, hK, hD0⟩ := hv
  have hx := B9.exec
  have hb := B9.bytes
  have hr := B9.returns
  have hts := atoms_spec (ws := wsX3_brokenRule) B9.pre
  have hown : s.vm.findClass RX3 = some m.cls := findClass_of_methodNamed B9.named
  have hlocks := B9.notSynchronized
  subst hsz
  have hD := hD0.self (sz := s.heap.size)
  generalize hAe : va_A (qG B R N) s.heap.size = A at hD ⊢
  have hA : ∀ q : Nat, s.heap.size ≤ q → A q := fun q h => by rw [← hAe]; exact Or.inr h
  have hS : va_S A s.heap s.heap [] := va_S.rf
  have hl := lv_entry ([.ref (qA B 5 0), .ref (qA B 3 k)]) (n := 2) (Nat.le_of_ble_eq_true rfl)
  rw [lg_entry_eq]
  generalize (lg_sl ([.ref (qA B 5 0), .ref (qA B 3 k)]) ++ List.replicate (2 - (lg_sl ([.ref (qA B 5 0), .ref (qA B 3 k)])).length) Slot.unset).toArray = ls at hl ⊢
  have hl : lv_has ls 2 [(0, .ref (qA B 5 0)), (1, .ref (qA B 3 k))] := hl
  have hP : va_P D vwCl (qG B R N) s.heap := hP
  generalize hRe : (headSpec _ _).room = R9
  have hRf : R9.frames = 3 := by rw [← hRe]; rfl
  have hRc : R9.cells = 0 := by rw [← hRe]; rfl
  have hRs : R9.slots = 0 := by rw [← hRe]; rfl
  have hRl : R9.locals = 75 := by rw [← hRe]; rfl
  clear hRe
  have o8 := hO.2.2.2.2.2.2.2.1
  obtain ⟨n, hn⟩ : ∃ n, n = N 4 1 5 := ⟨_, rfl⟩
  have hFr0 := qFr_rf N
  have b8 := hM 0 60 8
  have b9 := hM 0 60 9
  have b41 := hM 4 1 1
  have b43 := hM 4 1 3
  have b47 := hM 4 1 7
  have q1 : N 0 60 4 * N 0 60 5 ≤ 36 := Nat.mul_le_mul hw.2.1 hw.2.2.2
  have q2 : N 0 60 4 * N 0 60 5 * N 4 1 2 ≤ 36 * 100 := Nat.mul_le_mul q1 hsup
  refine lv_aload_n hx hb dX3_brokenRule_0 rfl (lv_at hl 0 rfl) ?_
  refine va_get (D := D) (ci := 3) (v := .ref (qA B 0 60)) (C := RX3) (T := TX3) (N := 14) hx hb hts (fun _ h9 => List.mem_cons_of_mem _ (List.mem_append_left _ (List.mem_append_left _ (List.mem_append_right _ h9)))) hown hK hP 0 rfl rfl 11 (by decide) (hts (.fieldLink RX3 52 "PalletStack" "trial" "LPalletStack$Item;") (List.mem_of_getElem? (i := 1) (by rfl))) (fun _ h9 => h9) rfl dX3_brokenRule_1 ?_
  refine va_get (D := D) (ci := 0) (v := .int (nI (N 0 60 9))) (C := RX0) (T := TX0) (N := 18) hx hb hts (fun _ h9 => List.mem_cons_of_mem _ (List.mem_append_left _ (List.mem_append_right _ h9))) hown hK hP (5 + 60) (qG_i (by omega)) rfl 9 (by decide) (hts (.fieldLink RX3 134 "PalletStack$Item" "top" "I") (List.mem_of_getElem? (i := 2) (by rfl))) (fun _ h9 => h9) rfl dX3_brokenRule_4 ?_
  refine lv_aload_n hx hb dX3_brokenRule_7 rfl (lv_at hl 0 rfl) ?_
  refine va_get (D := D) (ci := 3) (v := .int (nI (N 4 1 1))) (C := RX3) (T := TX3) (N := 14) hx hb hts (fun _ h9 => List.mem_cons_of_mem _ (List.mem_append_left _ (List.mem_append_left _ (List.mem_append_right _ h9)))) hown hK hP 0 rfl rfl 2 (by decide) (hts (.fieldLink RX3 19 "PalletStack" "greatestHeight" "I") (List.mem_of_getElem? (i := 3) (by rfl))) (fun _ h9 => h9) rfl dX3_brokenRule_8 ?_
  refine lv_icmp_le (tgt := 16) hx hb dX3_brokenRule_11 (by decide) (fun c_1 => ?_) (fun c_1 => ?_)
  · have h_b := True.intro
    have k_2 : (N 0 60 9) ≤ (N 4 1 1) := (nI_leI (a := (N 0 60 9)) (b := (N 4 1 1)) (by omega) (by omega)).mp c_1
    refine lv_aload_n hx hb dX3_brokenRule_16 rfl (lv_at hl 1 rfl) ?_
    refine va_get (D := D) (ci := 1) (v := .int (nI (N 2 k 7))) (C := RX1) (T := TX1) (N := 8) hx hb hts (fun _ h9 => List.mem_cons_of_mem _ (List.mem_append_right _ h9)) hown hK hP (188 + k) (qG_d hk) rfl 7 (by decide) (hts (.fieldLink RX3 267 "PalletStack$Kind" "needsDeck" "Z") (List.mem_of_getElem? (i := 4) (by rfl))) (fun _ h9 => h9) rfl dX3_brokenRule_17 ?_
    refine lv_if_eq (tgt := 35) hx hb dX3_brokenRule_20 (by decide) (fun c_3 => ?_) (fun c_3 => ?_)
    · have h_b := True.intro
      have z7 : N 2 k 7 = 0 := (qeq (by omega) (by decide)).mp c_3
      refine lv_aload_n hx hb dX3_brokenRule_35 rfl (lv_at hl 0 rfl) ?_
      refine va_get (D := D) (ci := 3) (v := .ref (qA B 0 60)) (C := RX3) (T := TX3) (N := 14) hx hb hts (fun _ h9 => List.mem_cons_of_mem _ (List.mem_append_left _ (List.mem_append_left _ (List.mem_append_right _ h9)))) hown hK hP 0 rfl rfl 11 (by decide) (hts (.fieldLink RX3 52 "PalletStack" "trial" "LPalletStack$Item;") (List.mem_of_getElem? (i := 1) (by rfl))) (fun _ h9 => h9) rfl dX3_brokenRule_36 ?_
      refine va_get (D := D) (ci := 0) (v := .int (nI (N 0 60 10))) (C := RX0) (T := TX0) (N := 18) hx hb hts (fun _ h9 => List.mem_cons_of_mem _ (List.mem_append_left _ (List.mem_append_right _ h9))) hown hK hP (5 + 60) (qG_i (by omega)) rfl 10 (by decide) (hts (.fieldLink RX3 214 "PalletStack$Item" "ground" "I") (List.mem_of_getElem? (i := 6) (by rfl))) (fun _ h9 => h9) rfl dX3_brokenRule_39 ?_
      refine lv_bipush (v := 100) hx hb dX3_brokenRule_42 (by decide) ?_
      refine lv_imul hx hb dX3_brokenRule_44 ?_
      refine lv_topi (fun v_4 ev_4 => ?_)
      obtain rfl : v_4 = (nI (N 0 60 10 * 100)) := ev_4.trans (pk_mul _ 100)
      refine lv_aload_n hx hb dX3_brokenRule_45 rfl (lv_at hl 0 rfl) ?_
      refine va_get (D := D) (ci := 3) (v := .ref (qA B 0 60)) (C := RX3) (T := TX3) (N := 14) hx hb hts (fun _ h9 => List.mem_cons_of_mem _ (List.mem_append_left _ (List.mem_append_left _ (List.mem_append_right _ h9)))) hown hK hP 0 rfl rfl 11 (by decide) (hts (.fieldLink RX3 52 "PalletStack" "trial" "LPalletStack$Item;") (List.mem_of_getElem? (i := 1) (by rfl))) (fun _ h9 => h9) rfl dX3_brokenRule_46 ?_
      refine zrdV2 (As := []) (rest := [.int (nI (N 0 60 10 * 100))]) (wc := qG B R N) ⟨hx, hb, hml, hown, hts⟩ (c_cells l D _ B R N 60 (by omega)) (cwV 0 hts gX3_brokenRule_X0_cells rfl rfl rfl (by decide +kernel) ⟨by rw [hRf]; exact Nat.le_of_ble_eq_true rfl, by rw [hRl]; exact Nat.le_of_ble_eq_true rfl⟩) hK hP hD [0, 1, 2, 3] rfl (ci := 0) (q0 := (5 + 60)) rfl (qG_i (by omega)) rfl hl.1 rfl (Nat.le_of_ble_eq_true rfl) dX3_brokenRule_49 ⟨by omega, by omega⟩ (fun r_5 hr_5 => ?_)
      refine lv_topi (fun v_6 ev_6 => ?_)
      obtain rfl : v_6 = (nI (N 0 60 4 * N 0 60 5)) := ev_6.trans hr_5
      refine lv_aload_n hx hb dX3_brokenRule_52 rfl (lv_at hl 0 rfl) ?_
      refine va_get (D := D) (ci := 3) (v := .int (nI (N 4 1 2))) (C := RX3) (T := TX3) (N := 14) hx hb hts (fun _ h9 => List.mem_cons_of_mem _ (List.mem_append_left _ (List.mem_append_left _ (List.mem_append_right _ h9)))) hown hK hP 0 rfl rfl 3 (by decide) (hts (.fieldLink RX3 22 "PalletStack" "support" "I") (List.mem_of_getElem? (i := 7) (by rfl))) (fun _ h9 => h9) rfl dX3_brokenRule_53 ?_
      refine lv_imul hx hb dX3_brokenRule_56 ?_
      refine lv_topi (fun v_7 ev_7 => ?_)
      obtain rfl : v_7 = (nI (N 0 60 4 * N 0 60 5 * N 4 1 2)) := ev_7.trans (pk_mul _ _)
      refine lv_icmp_ge (tgt := 62) hx hb dX3_brokenRule_57 (by decide) (fun c_8 => ?_) (fun c_8 => ?_)
      · have h_b := True.intro
        have k_9 : (N 0 60 4 * N 0 60 5 * N 4 1 2) ≤ (N 0 60 10 * 100) := (nI_leI (a := (N 0 60 4 * N 0 60 5 * N 4 1 2)) (b := (N 0 60 10 * 100)) (by omega) (by omega)).mp c_8
        refine lv_aload_n hx hb dX3_brokenRule_62 rfl (lv_at hl 0 rfl) ?_
        refine va_get (D := D) (ci := 3) (v := .int (nI (N 4 1 4))) (C := RX3) (T := TX3) (N := 14) hx hb hts (fun _ h9 => List.mem_cons_of_mem _ (List.mem_append_left _ (List.mem_append_left _ (List.mem_append_right _ h9)))) hown hK hP 0 rfl rfl 5 (by decide) (hts (.fieldLink RX3 28 "PalletStack" "hasCornerRule" "Z") (List.mem_of_getElem? (i := 8) (by rfl))) (fun _ h9 => h9) rfl dX3_brokenRule_63 ?_
        refine lv_if_eq (tgt := 88) hx hb dX3_brokenRule_66 (by decide) (fun c_10 => ?_) (fun c_10 => ?_)
        · have h_b := True.intro
          refine lv_aload_n hx hb dX3_brokenRule_88 rfl (lv_at hl 0 rfl) ?_
          refine qcallvV (As := []) (rest := []) (ws := qG B R N) ⟨hx, hb, hml, hown, hts⟩ (c_findS l D _ B R N hO hM hlen (fun k hk => Nat.le_trans (hcm k hk) (by decide))) (cwV 0 hts gX3_brokenRule_X3_findSupports rfl rfl rfl (by decide +kernel) ⟨by rw [hRf]; exact Nat.le_of_ble_eq_true rfl, by rw [hRl]; exact Nat.le_of_ble_eq_true rfl⟩) hK hP hD hS hA [0, 1, 2, 3] rfl (ci := 3) (q0 := 0) rfl rfl rfl hl.1 rfl (Nat.le_of_ble_eq_true rfl) dX3_brokenRule_89 ⟨by omega, by omega⟩ (fun u_12 H locs hwu_12 hP hD hS => ?_)
          obtain ⟨R1, N1⟩ := u_12
          obtain ⟨f1, f2, f3, f4, f5⟩ := hwu_12
          dsimp only at f1 f2 f3 f4 f5 hP hD
          have hP : va_P D vwCl (qG B R1 N1) H := hP
          have hD : va_D A (qG B R1 N1) := hD
          have n5 : N1 4 1 5 = N 4 1 5 := f4 _ _ _ (by omega) (by omega)
          have hO1 : qOK B N1 := qOKs hO (fun j _ _ => f4 _ _ _ (by omega) (by omega)) (fun j hj => f4 _ _ _ (by omega) (by omega))
          have hL1 : ∀ k, k ≤ N 4 1 5 + 1 → qLN (qSx (qSt S N) (N 4 1 5)) (qx N1 (N 4 1 5)) (N 4 1 5 + 1) k = qLN (qSx (qSt S N) (N 4 1 5)) (qx (qtr N) (N 4 1 5)) (N 4 1 5 + 1) k := qLN_tr rfl o8 f1 (fun j hj => (f2 j hj).2) f4 _
          have hM1 : qM N1 := fun c i j => by
            by_cases h1 : c = 0 ∧ i = 60 ∧ j = 15
            · obtain ⟨rfl, rfl, rfl⟩ := h1; rw [f1]; exact Nat.le_trans hlen (by decide)
            · by_cases h2 : c = 1 ∧ i = 60
              · obtain ⟨rfl, rfl⟩ := h2; exact f5 j
              · rw [f4 _ _ _ h1 h2]; exact hM c i j
          have hS1 : qS9 B R1 N1 (qSt S N) (N 4 1 5) := fun i hi => by
            obtain ⟨s1, s2, s3, s4⟩ := hS9 i hi
            rw [f4 _ _ _ (by omega) (by omega), f4 _ _ _ (by omega) (by omega), f4 _ _ _ (by omega) (by omega), f3 i (by omega), qSt_i S N (show i ≠ 60 by omega)]
            exact ⟨s1, s2, s3, fun j hj => by rw [f4 _ _ _ (by omega) (by omega)]; exact s4 j hj⟩
          refine lv_aload_n hx hb dX3_brokenRule_92 rfl (lv_at hl 0 rfl) ?_
          refine qcalliV (As := []) (rest := []) (ws := qG B R1 N1) ⟨hx, hb, hml, hown, hts⟩ (c_tooMuch l D _ B R1 N1 hO1 hM1 (qSt S N) (by rw [n5]; exact hS1) ⟨by rw [f1]; exact hlen, by rw [f4 _ _ _ (by omega) (by omega)]; exact hg.1, by rw [f4 _ _ _ (by omega) (by omega)]; exact hwt, fun j hj => by rw [f1] at hj; rw [qSt_60, n5, (f2 j hj).1, (f2 j hj).2]; exact ⟨rfl, (qfs_at hj).1, hcm _ (qfs_at hj).1⟩⟩ (fun k i hk hi => by rw [n5] at hk hi ⊢; rw [hL1 k hk]; exact hLb k i hk hi)) (cwV 0 hts gX3_brokenRule_X3_isTooMuchLoad rfl rfl rfl (by decide +kernel) ⟨by rw [hRf]; exact Nat.le_of_ble_eq_true rfl, by rw [hRl]; exact Nat.le_of_ble_eq_true rfl⟩) hK hP hD hS hA [0, 1, 2, 3] rfl (ci := 3) (q0 := 0) rfl rfl rfl hl.1 rfl (Nat.le_of_ble_eq_true rfl) dX3_brokenRule_93 ⟨by omega, by omega⟩ (fun r_13 u_14 H locs hwu_14 hP hD hS => ?_)
          have hP : va_P D vwCl (qG B R1 u_14) H := hP
          have hD : va_D A (qG B R1 u_14) := hD
          obtain ⟨g1, g2, g3⟩ := hwu_14
          rw [n5] at g1 g3
          rw [hL1 _ (Nat.le_refl _)] at g3
          have hFr : qFr N u_14 := fun c i j h1 h2 h3 => by rw [g1 _ _ _ (by omega)]; exact f4 _ _ _ (by omega) h2
          have hM2 : qM u_14 := fun c i j => by
            by_cases h9 : c = 0 ∧ j = 12
            · obtain ⟨rfl, rfl⟩ := h9; exact g2 i
            · rw [g1 _ _ _ (by omega)]; exact hM1 c i j
          refine lv_if_eq (tgt := 102) hx hb dX3_brokenRule_96 (by decide) (fun c_15 => ?_) (fun c_15 => ?_)
          · have h_b := True.intro
            have hall : ∀ i, i < N 4 1 5 → qLN (qSx (qSt S N) (N 4 1 5)) (qx (qtr N) (N 4 1 5)) (N 4 1 5 + 1) (N 4 1 5 + 1) i ≤ N 0 i 2 := fun i hi => by have := g3 c_15 i hi; rw [f4 _ _ _ (by omega) (by omega)] at this; exact this
            refine lv_aload_n hx hb dX3_brokenRule_102 rfl (lv_at hl 0 rfl) ?_
            refine va_get (D := D) (ci := 3) (v := .int (nI (u_14 4 1 7))) (C := RX3) (T := TX3) (N := 14) hx hb hts (fun _ h9 => List.mem_cons_of_mem _ (List.mem_append_left _ (List.mem_append_left _ (List.mem_append_right _ h9)))) hown hK hP 0 rfl rfl 9 (by decide) (hts (.fieldLink RX3 44 "PalletStack" "weightOnPallet" "I") (List.mem_of_getElem? (i := 9) (by rfl))) (fun _ h9 => h9) rfl dX3_brokenRule_103 ?_
            refine lv_topi (fun v_16 ev_16 => ?_)
            obtain rfl : v_16 = (nI (N 4 1 7)) := ev_16.trans (congrArg nI (hFr _ _ _ (by omega) (by omega) (by omega)))
            refine lv_aload_n hx hb dX3_brokenRule_106 rfl (lv_at hl 0 rfl) ?_
            refine va_get (D := D) (ci := 3) (v := .ref (qA B 0 60)) (C := RX3) (T := TX3) (N := 14) hx hb hts (fun _ h9 => List.mem_cons_of_mem _ (List.mem_append_left _ (List.mem_append_left _ (List.mem_append_right _ h9)))) hown hK hP 0 rfl rfl 11 (by decide) (hts (.fieldLink RX3 52 "PalletStack" "trial" "LPalletStack$Item;") (List.mem_of_getElem? (i := 1) (by rfl))) (fun _ h9 => h9) rfl dX3_brokenRule_107 ?_
            refine va_get (D := D) (ci := 0) (v := .int (nI (u_14 0 60 1))) (C := RX0) (T := TX0) (N := 18) hx hb hts (fun _ h9 => List.mem_cons_of_mem _ (List.mem_append_left _ (List.mem_append_right _ h9))) hown hK hP (5 + 60) (qG_i (by omega)) rfl 1 (by decide) (hts (.fieldLink RX3 107 "PalletStack$Item" "weight" "I") (List.mem_of_getElem? (i := 10) (by rfl))) (fun _ h9 => h9) rfl dX3_brokenRule_110 ?_
            refine lv_topi (fun v_17 ev_17 => ?_)
            obtain rfl : v_17 = (nI (N 0 60 1)) := ev_17.trans (congrArg nI (hFr _ _ _ (by omega) (by omega) (by omega)))
            refine lv_iadd hx hb dX3_brokenRule_113 ?_
            refine lv_topi (fun v_18 ev_18 => ?_)
            obtain rfl : v_18 = (nI (N 4 1 7 + N 0 60 1)) := ev_18.trans (nI_add _ _)
            refine lv_aload_n hx hb dX3_brokenRule_114 rfl (lv_at hl 0 rfl) ?_
            refine va_get (D := D) (ci := 3) (v := .int (nI (u_14 4 1 3))) (C := RX3) (T := TX3) (N := 14) hx hb hts (fun _ h9 => List.mem_cons_of_mem _ (List.mem_append_left _ (List.mem_append_left _ (List.mem_append_right _ h9)))) hown hK hP 0 rfl rfl 4 (by decide) (hts (.fieldLink RX3 25 "PalletStack" "limit" "I") (List.mem_of_getElem? (i := 11) (by rfl))) (fun _ h9 => h9) rfl dX3_brokenRule_115 ?_
            refine lv_topi (fun v_19 ev_19 => ?_)
            obtain rfl : v_19 = (nI (N 4 1 3)) := ev_19.trans (congrArg nI (hFr _ _ _ (by omega) (by omega) (by omega)))
            refine lv_icmp_le (tgt := 126) hx hb dX3_brokenRule_118 (by decide) (fun c_20 => ?_) (fun c_20 => ?_)
            · have h_b := True.intro
              have k_21 : (N 4 1 7 + N 0 60 1) ≤ (N 4 1 3) := (nI_leI (a := (N 4 1 7 + N 0 60 1)) (b := (N 4 1 3)) (by omega) (by omega)).mp c_20
              refine lv_iconst (v := 0) hx hb dX3_brokenRule_126 (by decide) ?_
              exact W.iret (v := 0) hx hb hr (fun t ht hW => ⟨⟨0, (R1, u_14), rfl, ⟨fun i hi => f3 i hi, hFr, hM2, fun _ => ⟨by omega, (fun h => by omega), by omega, hall, by omega⟩⟩, ⟨Nat.zero_le _, by rw [ht]; exact hP, va_K.moved hW.alike (hK.sub (tys' := []) [] rfl), hD⟩⟩, hS.F ht⟩) hS.2.2 dX3_brokenRule_127
            · have h_b := True.intro
              have k_22 : ¬ ((N 4 1 7 + N 0 60 1) ≤ (N 4 1 3)) := fun h9 => c_20 ((nI_leI (a := (N 4 1 7 + N 0 60 1)) (b := (N 4 1 3)) (by omega) (by omega)).mpr h9)
              refine lv_bipush (v := 7) hx hb dX3_brokenRule_121 (by decide) ?_
              refine lv_goto (tgt := 127) hx hb dX3_brokenRule_123 (by decide) ?_
              exact W.iret (v := 7) hx hb hr (fun t ht hW => ⟨⟨7, (R1, u_14), rfl, ⟨fun i hi => f3 i hi, hFr, hM2, fun h => absurd h (by decide)⟩, ⟨Nat.zero_le _, by rw [ht]; exact hP, va_K.moved hW.alike (hK.sub (tys' := []) [] rfl), hD⟩⟩, hS.F ht⟩) hS.2.2 dX3_brokenRule_127
          · have h_b := True.intro
            refine lv_bipush (v := 6) hx hb dX3_brokenRule_99 (by decide) ?_
            exact W.iret (v := 6) hx hb hr (fun t ht hW => ⟨⟨6, (R1, u_14), rfl, ⟨fun i hi => f3 i hi, hFr, hM2, fun h => absurd h (by decide)⟩, ⟨Nat.zero_le _, by rw [ht]; exact hP, va_K.moved hW.alike (hK.sub (tys' := []) [] rfl), hD⟩⟩, hS.F ht⟩) hS.2.2 dX3_brokenRule_101
        · have h_b := True.intro
          refine lv_aload_n hx hb dX3_brokenRule_69 rfl (lv_at hl 0 rfl) ?_
          refine va_get (D := D) (ci := 3) (v := .ref (qA B 0 60)) (C := RX3) (T := TX3) (N := 14) hx hb hts (fun _ h9 => List.mem_cons_of_mem _ (List.mem_append_left _ (List.mem_append_left _ (List.mem_append_right _ h9)))) hown hK hP 0 rfl rfl 11 (by decide) (hts (.fieldLink RX3 52 "PalletStack" "trial" "LPalletStack$Item;") (List.mem_of_getElem? (i := 1) (by rfl))) (fun _ h9 => h9) rfl dX3_brokenRule_70 ?_
          refine va_get (D := D) (ci := 0) (v := .int (nI (N 0 60 8))) (C := RX0) (T := TX0) (N := 18) hx hb hts (fun _ h9 => List.mem_cons_of_mem _ (List.mem_append_left _ (List.mem_append_right _ h9))) hown hK hP (5 + 60) (qG_i (by omega)) rfl 8 (by decide) (hts (.fieldLink RX3 131 "PalletStack$Item" "bottom" "I") (List.mem_of_getElem? (i := 5) (by rfl))) (fun _ h9 => h9) rfl dX3_brokenRule_73 ?_
          refine lv_if_le (tgt := 88) hx hb dX3_brokenRule_76 (by decide) (fun c_23 => ?_) (fun c_23 => ?_)
          · have h_b := True.intro
            refine lv_aload_n hx hb dX3_brokenRule_88 rfl (lv_at hl 0 rfl) ?_
            refine qcallvV (As := []) (rest := []) (ws := qG B R N) ⟨hx, hb, hml, hown, hts⟩ (c_findS l D _ B R N hO hM hlen (fun k hk => Nat.le_trans (hcm k hk) (by decide))) (cwV 0 hts gX3_brokenRule_X3_findSupports rfl rfl rfl (by decide +kernel) ⟨by rw [hRf]; exact Nat.le_of_ble_eq_true rfl, by rw [hRl]; exact Nat.le_of_ble_eq_true rfl⟩) hK hP hD hS hA [0, 1, 2, 3] rfl (ci := 3) (q0 := 0) rfl rfl rfl hl.1 rfl (Nat.le_of_ble_eq_true rfl) dX3_brokenRule_89 ⟨by omega, by omega⟩ (fun u_25 H locs hwu_25 hP hD hS => ?_)
            obtain ⟨R1, N1⟩ := u_25
            obtain ⟨f1, f2, f3, f4, f5⟩ := hwu_25
            dsimp only at f1 f2 f3 f4 f5 hP hD
            have hP : va_P D vwCl (qG B R1 N1) H := hP
            have hD : va_D A (qG B R1 N1) := hD
            have n5 : N1 4 1 5 = N 4 1 5 := f4 _ _ _ (by omega) (by omega)
            have hO1 : qOK B N1 := qOKs hO (fun j _ _ => f4 _ _ _ (by omega) (by omega)) (fun j hj => f4 _ _ _ (by omega) (by omega))
            have hL1 : ∀ k, k ≤ N 4 1 5 + 1 → qLN (qSx (qSt S N) (N 4 1 5)) (qx N1 (N 4 1 5)) (N 4 1 5 + 1) k = qLN (qSx (qSt S N) (N 4 1 5)) (qx (qtr N) (N 4 1 5)) (N 4 1 5 + 1) k := qLN_tr rfl o8 f1 (fun j hj => (f2 j hj).2) f4 _
            have hM1 : qM N1 := fun c i j => by
              by_cases h1 : c = 0 ∧ i = 60 ∧ j = 15
              · obtain ⟨rfl, rfl, rfl⟩ := h1; rw [f1]; exact Nat.le_trans hlen (by decide)
              · by_cases h2 : c = 1 ∧ i = 60
                · obtain ⟨rfl, rfl⟩ := h2; exact f5 j
                · rw [f4 _ _ _ h1 h2]; exact hM c i j
            have hS1 : qS9 B R1 N1 (qSt S N) (N 4 1 5) := fun i hi => by
              obtain ⟨s1, s2, s3, s4⟩ := hS9 i hi
              rw [f4 _ _ _ (by omega) (by omega), f4 _ _ _ (by omega) (by omega), f4 _ _ _ (by omega) (by omega), f3 i (by omega), qSt_i S N (show i ≠ 60 by omega)]
              exact ⟨s1, s2, s3, fun j hj => by rw [f4 _ _ _ (by omega) (by omega)]; exact s4 j hj⟩
            refine lv_aload_n hx hb dX3_brokenRule_92 rfl (lv_at hl 0 rfl) ?_
            refine qcalliV (As := []) (rest := []) (ws := qG B R1 N1) ⟨hx, hb, hml, hown, hts⟩ (c_tooMuch l D _ B R1 N1 hO1 hM1 (qSt S N) (by rw [n5]; exact hS1) ⟨by rw [f1]; exact hlen, by rw [f4 _ _ _ (by omega) (by omega)]; exact hg.1, by rw [f4 _ _ _ (by omega) (by omega)]; exact hwt, fun j hj => by rw [f1] at hj; rw [qSt_60, n5, (f2 j hj).1, (f2 j hj).2]; exact ⟨rfl, (qfs_at hj).1, hcm _ (qfs_at hj).1⟩⟩ (fun k i hk hi => by rw [n5] at hk hi ⊢; rw [hL1 k hk]; exact hLb k i hk hi)) (cwV 0 hts gX3_brokenRule_X3_isTooMuchLoad rfl rfl rfl (by decide +kernel) ⟨by rw [hRf]; exact Nat.le_of_ble_eq_true rfl, by rw [hRl]; exact Nat.le_of_ble_eq_true rfl⟩) hK hP hD hS hA [0, 1, 2, 3] rfl (ci := 3) (q0 := 0) rfl rfl rfl hl.1 rfl (Nat.le_of_ble_eq_true rfl) dX3_brokenRule_93 ⟨by omega, by omega⟩ (fun r_26 u_27 H locs hwu_27 hP hD hS => ?_)
            have hP : va_P D vwCl (qG B R1 u_27) H := hP
            have hD : va_D A (qG B R1 u_27) := hD
            obtain ⟨g1, g2, g3⟩ := hwu_27
            rw [n5] at g1 g3
            rw [hL1 _ (Nat.le_refl _)] at g3
            have hFr : qFr N u_27 := fun c i j h1 h2 h3 => by rw [g1 _ _ _ (by omega)]; exact f4 _ _ _ (by omega) h2
            have hM2 : qM u_27 := fun c i j => by
              by_cases h9 : c = 0 ∧ j = 12
              · obtain ⟨rfl, rfl⟩ := h9; exact g2 i
              · rw [g1 _ _ _ (by omega)]; exact hM1 c i j
            refine lv_if_eq (tgt := 102) hx hb dX3_brokenRule_96 (by decide) (fun c_28 => ?_) (fun c_28 => ?_)
            · have h_b := True.intro
              have hall : ∀ i, i < N 4 1 5 → qLN (qSx (qSt S N) (N 4 1 5)) (qx (qtr N) (N 4 1 5)) (N 4 1 5 + 1) (N 4 1 5 + 1) i ≤ N 0 i 2 := fun i hi => by have := g3 c_28 i hi; rw [f4 _ _ _ (by omega) (by omega)] at this; exact this
              refine lv_aload_n hx hb dX3_brokenRule_102 rfl (lv_at hl 0 rfl) ?_
              refine va_get (D := D) (ci := 3) (v := .int (nI (u_27 4 1 7))) (C := RX3) (T := TX3) (N := 14) hx hb hts (fun _ h9 => List.mem_cons_of_mem _ (List.mem_append_left _ (List.mem_append_left _ (List.mem_append_right _ h9)))) hown hK hP 0 rfl rfl 9 (by decide) (hts (.fieldLink RX3 44 "PalletStack" "weightOnPallet" "I") (List.mem_of_getElem? (i := 9) (by rfl))) (fun _ h9 => h9) rfl dX3_brokenRule_103 ?_
              refine lv_topi (fun v_29 ev_29 => ?_)
              obtain rfl : v_29 = (nI (N 4 1 7)) := ev_29.trans (congrArg nI (hFr _ _ _ (by omega) (by omega) (by omega)))
              refine lv_aload_n hx hb dX3_brokenRule_106 rfl (lv_at hl 0 rfl) ?_
              refine va_get (D := D) (ci := 3) (v := .ref (qA B 0 60)) (C := RX3) (T := TX3) (N := 14) hx hb hts (fun _ h9 => List.mem_cons_of_mem _ (List.mem_append_left _ (List.mem_append_left _ (List.mem_append_right _ h9)))) hown hK hP 0 rfl rfl 11 (by decide) (hts (.fieldLink RX3 52 "PalletStack" "trial" "LPalletStack$Item;") (List.mem_of_getElem? (i := 1) (by rfl))) (fun _ h9 => h9) rfl dX3_brokenRule_107 ?_
              refine va_get (D := D) (ci := 0) (v := .int (nI (u_27 0 60 1))) (C := RX0) (T := TX0) (N := 18) hx hb hts (fun _ h9 => List.mem_cons_of_mem _ (List.mem_append_left _ (List.mem_append_right _ h9))) hown hK hP (5 + 60) (qG_i (by omega)) rfl 1 (by decide) (hts (.fieldLink RX3 107 "PalletStack$Item" "weight" "I") (List.mem_of_getElem? (i := 10) (by rfl))) (fun _ h9 => h9) rfl dX3_brokenRule_110 ?_
              refine lv_topi (fun v_30 ev_30 => ?_)
              obtain rfl : v_30 = (nI (N 0 60 1)) := ev_30.trans (congrArg nI (hFr _ _ _ (by omega) (by omega) (by omega)))
              refine lv_iadd hx hb dX3_brokenRule_113 ?_
              refine lv_topi (fun v_31 ev_31 => ?_)
              obtain rfl : v_31 = (nI (N 4 1 7 + N 0 60 1)) := ev_31.trans (nI_add _ _)
              refine lv_aload_n hx hb dX3_brokenRule_114 rfl (lv_at hl 0 rfl) ?_
              refine va_get (D := D) (ci := 3) (v := .int (nI (u_27 4 1 3))) (C := RX3) (T := TX3) (N := 14) hx hb hts (fun _ h9 => List.mem_cons_of_mem _ (List.mem_append_left _ (List.mem_append_left _ (List.mem_append_right _ h9)))) hown hK hP 0 rfl rfl 4 (by decide) (hts (.fieldLink RX3 25 "PalletStack" "limit" "I") (List.mem_of_getElem? (i := 11) (by rfl))) (fun _ h9 => h9) rfl dX3_brokenRule_115 ?_
              refine lv_topi (fun v_32 ev_32 => ?_)
              obtain rfl : v_32 = (nI (N 4 1 3)) := ev_32.trans (congrArg nI (hFr _ _ _ (by omega) (by omega) (by omega)))
              refine lv_icmp_le (tgt := 126) hx hb dX3_brokenRule_118 (by decide) (fun c_33 => ?_) (fun c_33 => ?_)
              · have h_b := True.intro
                have k_34 : (N 4 1 7 + N 0 60 1) ≤ (N 4 1 3) := (nI_leI (a := (N 4 1 7 + N 0 60 1)) (b := (N 4 1 3)) (by omega) (by omega)).mp c_33
                refine lv_iconst (v := 0) hx hb dX3_brokenRule_126 (by decide) ?_
                exact W.iret (v := 0) hx hb hr (fun t ht hW => ⟨⟨0, (R1, u_27), rfl, ⟨fun i hi => f3 i hi, hFr, hM2, fun _ => ⟨by omega, (fun h => by omega), by omega, hall, by omega⟩⟩, ⟨Nat.zero_le _, by rw [ht]; exact hP, va_K.moved hW.alike (hK.sub (tys' := []) [] rfl), hD⟩⟩, hS.F ht⟩) hS.2.2 dX3_brokenRule_127
              · have h_b := True.intro
                have k_35 : ¬ ((N 4 1 7 + N 0 60 1) ≤ (N 4 1 3)) := fun h9 => c_33 ((nI_leI (a := (N 4 1 7 + N 0 60 1)) (b := (N 4 1 3)) (by omega) (by omega)).mpr h9)
                refine lv_bipush (v := 7) hx hb dX3_brokenRule_121 (by decide) ?_
                refine lv_goto (tgt := 127) hx hb dX3_brokenRule_123 (by decide) ?_
                exact W.iret (v := 7) hx hb hr (fun t ht hW => ⟨⟨7, (R1, u_27), rfl, ⟨fun i hi => f3 i hi, hFr, hM2, fun h => absurd h (by decide)⟩, ⟨Nat.zero_le _, by rw [ht]; exact hP, va_K.moved hW.alike (hK.sub (tys' := []) [] rfl), hD⟩⟩, hS.F ht⟩) hS.2.2 dX3_brokenRule_127
            · have h_b := True.intro
              refine lv_bipush (v := 6) hx hb dX3_brokenRule_99 (by decide) ?_
              exact W.iret (v := 6) hx hb hr (fun t ht hW => ⟨⟨6, (R1, u_27), rfl, ⟨fun i hi => f3 i hi, hFr, hM2, fun h => absurd h (by decide)⟩, ⟨Nat.zero_le _, by rw [ht]; exact hP, va_K.moved hW.alike (hK.sub (tys' := []) [] rfl), hD⟩⟩, hS.F ht⟩) hS.2.2 dX3_brokenRule_101
          · have h_b := True.intro
            refine lv_aload_n hx hb dX3_brokenRule_79 rfl (lv_at hl 0 rfl) ?_
            refine zrdV2 (As := []) (rest := []) (wc := qG B R N) ⟨hx, hb, hml, hown, hts⟩ (c_corners l D _ B R N hw.1 hw.2.2.1 hxy.1 hxy.2) (cwV 0 hts gX3_brokenRule_X3_hasGroundAtCorners rfl rfl rfl (by decide +kernel) ⟨by rw [hRf]; exact Nat.le_of_ble_eq_true rfl, by rw [hRl]; exact Nat.le_of_ble_eq_true rfl⟩) hK hP hD [0, 1, 2, 3] rfl (ci := 3) (q0 := 0) rfl rfl rfl hl.1 rfl (Nat.le_of_ble_eq_true rfl) dX3_brokenRule_80 ⟨by omega, by omega⟩ (fun r_36 hr_36 => ?_)
            refine lv_if_ne (tgt := 88) hx hb dX3_brokenRule_83 (by decide) (fun c_37 => ?_) (fun c_37 => ?_)
            · have h_b := True.intro
              refine lv_aload_n hx hb dX3_brokenRule_88 rfl (lv_at hl 0 rfl) ?_
              refine qcallvV (As := []) (rest := []) (ws := qG B R N) ⟨hx, hb, hml, hown, hts⟩ (c_findS l D _ B R N hO hM hlen (fun k hk => Nat.le_trans (hcm k hk) (by decide))) (cwV 0 hts gX3_brokenRule_X3_findSupports rfl rfl rfl (by decide +kernel) ⟨by rw [hRf]; exact Nat.le_of_ble_eq_true rfl, by rw [hRl]; exact Nat.le_of_ble_eq_true rfl⟩) hK hP hD hS hA [0, 1, 2, 3] rfl (ci := 3) (q0 := 0) rfl rfl rfl hl.1 rfl (Nat.le_of_ble_eq_true rfl) dX3_brokenRule_89 ⟨by omega, by omega⟩ (fun u_39 H locs hwu_39 hP hD hS => ?_)
              obtain ⟨R1, N1⟩ := u_39
              obtain ⟨f1, f2, f3, f4, f5⟩ := hwu_39
              dsimp only at f1 f2 f3 f4 f5 hP hD
              have hP : va_P D vwCl (qG B R1 N1) H := hP
              have hD : va_D A (qG B R1 N1) := hD
              have n5 : N1 4 1 5 = N 4 1 5 := f4 _ _ _ (by omega) (by omega)
              have hO1 : qOK B N1 := qOKs hO (fun j _ _ => f4 _ _ _ (by omega) (by omega)) (fun j hj => f4 _ _ _ (by omega) (by omega))
              have hL1 : ∀ k, k ≤ N 4 1 5 + 1 → qLN (qSx (qSt S N) (N 4 1 5)) (qx N1 (N 4 1 5)) (N 4 1 5 + 1) k = qLN (qSx (qSt S N) (N 4 1 5)) (qx (qtr N) (N 4 1 5)) (N 4 1 5 + 1) k := qLN_tr rfl o8 f1 (fun j hj => (f2 j hj).2) f4 _
              have hM1 : qM N1 := fun c i j => by
                by_cases h1 : c = 0 ∧ i = 60 ∧ j = 15
                · obtain ⟨rfl, rfl, rfl⟩ := h1; rw [f1]; exact Nat.le_trans hlen (by decide)
                · by_cases h2 : c = 1 ∧ i = 60
                  · obtain ⟨rfl, rfl⟩ := h2; exact f5 j
                  · rw [f4 _ _ _ h1 h2]; exact hM c i j
              have hS1 : qS9 B R1 N1 (qSt S N) (N 4 1 5) := fun i hi => by
                obtain ⟨s1, s2, s3, s4⟩ := hS9 i hi
                rw [f4 _ _ _ (by omega) (by omega), f4 _ _ _ (by omega) (by omega), f4 _ _ _ (by omega) (by omega), f3 i (by omega), qSt_i S N (show i ≠ 60 by omega)]
                exact ⟨s1, s2, s3, fun j hj => by rw [f4 _ _ _ (by omega) (by omega)]; exact s4 j hj⟩
              refine lv_aload_n hx hb dX3_brokenRule_92 rfl (lv_at hl 0 rfl) ?_
              refine qcalliV (As := []) (rest := []) (ws := qG B R1 N1) ⟨hx, hb, hml, hown, hts⟩ (c_tooMuch l D _ B R1 N1 hO1 hM1 (qSt S N) (by rw [n5]; exact hS1) ⟨by rw [f1]; exact hlen, by rw [f4 _ _ _ (by omega) (by omega)]; exact hg.1, by rw [f4 _ _ _ (by omega) (by omega)]; exact hwt, fun j hj => by rw [f1] at hj; rw [qSt_60, n5, (f2 j hj).1, (f2 j hj).2]; exact ⟨rfl, (qfs_at hj).1, hcm _ (qfs_at hj).1⟩⟩ (fun k i hk hi => by rw [n5] at hk hi ⊢; rw [hL1 k hk]; exact hLb k i hk hi)) (cwV 0 hts gX3_brokenRule_X3_isTooMuchLoad rfl rfl rfl (by decide +kernel) ⟨by rw [hRf]; exact Nat.le_of_ble_eq_true rfl, by rw [hRl]; exact Nat.le_of_ble_eq_true rfl⟩) hK hP hD hS hA [0, 1, 2, 3] rfl (ci := 3) (q0 := 0) rfl rfl rfl hl.1 rfl (Nat.le_of_ble_eq_true rfl) dX3_brokenRule_93 ⟨by omega, by omega⟩ (fun r_40 u_41 H locs hwu_41 hP hD hS => ?_)
              have hP : va_P D vwCl (qG B R1 u_41) H := hP
              have hD : va_D A (qG B R1 u_41) := hD
              obtain ⟨g1, g2, g3⟩ := hwu_41
              rw [n5] at g1 g3
              rw [hL1 _ (Nat.le_refl _)] at g3
              have hFr : qFr N u_41 := fun c i j h1 h2 h3 => by rw [g1 _ _ _ (by omega)]; exact f4 _ _ _ (by omega) h2
              have hM2 : qM u_41 := fun c i j => by
                by_cases h9 : c = 0 ∧ j = 12
                · obtain ⟨rfl, rfl⟩ := h9; exact g2 i
                · rw [g1 _ _ _ (by omega)]; exact hM1 c i j
              refine lv_if_eq (tgt := 102) hx hb dX3_brokenRule_96 (by decide) (fun c_42 => ?_) (fun c_42 => ?_)
              · have h_b := True.intro
                have hall : ∀ i, i < N 4 1 5 → qLN (qSx (qSt S N) (N 4 1 5)) (qx (qtr N) (N 4 1 5)) (N 4 1 5 + 1) (N 4 1 5 + 1) i ≤ N 0 i 2 := fun i hi => by have := g3 c_42 i hi; rw [f4 _ _ _ (by omega) (by omega)] at this; exact this
                refine lv_aload_n hx hb dX3_brokenRule_102 rfl (lv_at hl 0 rfl) ?_
                refine va_get (D := D) (ci := 3) (v := .int (nI (u_41 4 1 7))) (C := RX3) (T := TX3) (N := 14) hx hb hts (fun _ h9 => List.mem_cons_of_mem _ (List.mem_append_left _ (List.mem_append_left _ (List.mem_append_right _ h9)))) hown hK hP 0 rfl rfl 9 (by decide) (hts (.fieldLink RX3 44 "PalletStack" "weightOnPallet" "I") (List.mem_of_getElem? (i := 9) (by rfl))) (fun _ h9 => h9) rfl dX3_brokenRule_103 ?_
                refine lv_topi (fun v_43 ev_43 => ?_)
                obtain rfl : v_43 = (nI (N 4 1 7)) := ev_43.trans (congrArg nI (hFr _ _ _ (by omega) (by omega) (by omega)))
                refine lv_aload_n hx hb dX3_brokenRule_106 rfl (lv_at hl 0 rfl) ?_
                refine va_get (D := D) (ci := 3) (v := .ref (qA B 0 60)) (C := RX3) (T := TX3) (N := 14) hx hb hts (fun _ h9 => List.mem_cons_of_mem _ (List.mem_append_left _ (List.mem_append_left _ (List.mem_append_right _ h9)))) hown hK hP 0 rfl rfl 11 (by decide) (hts (.fieldLink RX3 52 "PalletStack" "trial" "LPalletStack$Item;") (List.mem_of_getElem? (i := 1) (by rfl))) (fun _ h9 => h9) rfl dX3_brokenRule_107 ?_
                refine va_get (D := D) (ci := 0) (v := .int (nI (u_41 0 60 1))) (C := RX0) (T := TX0) (N := 18) hx hb hts (fun _ h9 => List.mem_cons_of_mem _ (List.mem_append_left _ (List.mem_append_right _ h9))) hown hK hP (5 + 60) (qG_i (by omega)) rfl 1 (by decide) (hts (.fieldLink RX3 107 "PalletStack$Item" "weight" "I") (List.mem_of_getElem? (i := 10) (by rfl))) (fun _ h9 => h9) rfl dX3_brokenRule_110 ?_
                refine lv_topi (fun v_44 ev_44 => ?_)
                obtain rfl : v_44 = (nI (N 0 60 1)) := ev_44.trans (congrArg nI (hFr _ _ _ (by omega) (by omega) (by omega)))
                refine lv_iadd hx hb dX3_brokenRule_113 ?_
                refine lv_topi (fun v_45 ev_45 => ?_)
                obtain rfl : v_45 = (nI (N 4 1 7 + N 0 60 1)) := ev_45.trans (nI_add _ _)
                refine lv_aload_n hx hb dX3_brokenRule_114 rfl (lv_at hl 0 rfl) ?_
                refine va_get (D := D) (ci := 3) (v := .int (nI (u_41 4 1 3))) (C := RX3) (T := TX3) (N := 14) hx hb hts (fun _ h9 => List.mem_cons_of_mem _ (List.mem_append_left _ (List.mem_append_left _ (List.mem_append_right _ h9)))) hown hK hP 0 rfl rfl 4 (by decide) (hts (.fieldLink RX3 25 "PalletStack" "limit" "I") (List.mem_of_getElem? (i := 11) (by rfl))) (fun _ h9 => h9) rfl dX3_brokenRule_115 ?_
                refine lv_topi (fun v_46 ev_46 => ?_)
                obtain rfl : v_46 = (nI (N 4 1 3)) := ev_46.trans (congrArg nI (hFr _ _ _ (by omega) (by omega) (by omega)))
                refine lv_icmp_le (tgt := 126) hx hb dX3_brokenRule_118 (by decide) (fun c_47 => ?_) (fun c_47 => ?_)
                · have h_b := True.intro
                  have k_48 : (N 4 1 7 + N 0 60 1) ≤ (N 4 1 3) := (nI_leI (a := (N 4 1 7 + N 0 60 1)) (b := (N 4 1 3)) (by omega) (by omega)).mp c_47
                  refine lv_iconst (v := 0) hx hb dX3_brokenRule_126 (by decide) ?_
                  exact W.iret (v := 0) hx hb hr (fun t ht hW => ⟨⟨0, (R1, u_41), rfl, ⟨fun i hi => f3 i hi, hFr, hM2, fun _ => ⟨by omega, (fun h => by omega), by omega, hall, by omega⟩⟩, ⟨Nat.zero_le _, by rw [ht]; exact hP, va_K.moved hW.alike (hK.sub (tys' := []) [] rfl), hD⟩⟩, hS.F ht⟩) hS.2.2 dX3_brokenRule_127
                · have h_b := True.intro
                  have k_49 : ¬ ((N 4 1 7 + N 0 60 1) ≤ (N 4 1 3)) := fun h9 => c_47 ((nI_leI (a := (N 4 1 7 + N 0 60 1)) (b := (N 4 1 3)) (by omega) (by omega)).mpr h9)
                  refine lv_bipush (v := 7) hx hb dX3_brokenRule_121 (by decide) ?_
                  refine lv_goto (tgt := 127) hx hb dX3_brokenRule_123 (by decide) ?_
                  exact W.iret (v := 7) hx hb hr (fun t ht hW => ⟨⟨7, (R1, u_41), rfl, ⟨fun i hi => f3 i hi, hFr, hM2, fun h => absurd h (by decide)⟩, ⟨Nat.zero_le _, by rw [ht]; exact hP, va_K.moved hW.alike (hK.sub (tys' := []) [] rfl), hD⟩⟩, hS.F ht⟩) hS.2.2 dX3_brokenRule_127
              · have h_b := True.intro
                refine lv_bipush (v := 6) hx hb dX3_brokenRule_99 (by decide) ?_
                exact W.iret (v := 6) hx hb hr (fun t ht hW => ⟨⟨6, (R1, u_41), rfl, ⟨fun i hi => f3 i hi, hFr, hM2, fun h => absurd h (by decide)⟩, ⟨Nat.zero_le _, by rw [ht]; exact hP, va_K.moved hW.alike (hK.sub (tys' := []) [] rfl), hD⟩⟩, hS.F ht⟩) hS.2.2 dX3_brokenRule_101
            · have h_b := True.intro
              refine lv_iconst (v := 5) hx hb dX3_brokenRule_86 (by decide) ?_
              exact W.iret (v := 5) hx hb hr (fun t ht hW => ⟨⟨5, (R, N), rfl, ⟨fun _ _ => rfl, hFr0, hM, fun h => absurd h (by decide)⟩, ⟨Nat.zero_le _, by rw [ht]; exact hP, va_K.moved hW.alike (hK.sub (tys' := []) [] rfl), hD⟩⟩, hS.F ht⟩) hS.2.2 dX3_brokenRule_87
      · have h_b := True.intro
        have k_50 : ¬ ((N 0 60 4 * N 0 60 5 * N 4 1 2) ≤ (N 0 60 10 * 100)) := fun h9 => c_8 ((nI_leI (a := (N 0 60 4 * N 0 60 5 * N 4 1 2)) (b := (N 0 60 10 * 100)) (by omega) (by omega)).mpr h9)
        refine lv_iconst (v := 4) hx hb dX3_brokenRule_60 (by decide) ?_
        exact W.iret (v := 4) hx hb hr (fun t ht hW => ⟨⟨4, (R, N), rfl, ⟨fun _ _ => rfl, hFr0, hM, fun h => absurd h (by decide)⟩, ⟨Nat.zero_le _, by rw [ht]; exact hP, va_K.moved hW.alike (hK.sub (tys' := []) [] rfl), hD⟩⟩, hS.F ht⟩) hS.2.2 dX3_brokenRule_61
    · have h_b := True.intro
      refine lv_aload_n hx hb dX3_brokenRule_23 rfl (lv_at hl 0 rfl) ?_
      refine va_get (D := D) (ci := 3) (v := .ref (qA B 0 60)) (C := RX3) (T := TX3) (N := 14) hx hb hts (fun _ h9 => List.mem_cons_of_mem _ (List.mem_append_left _ (List.mem_append_left _ (List.mem_append_right _ h9)))) hown hK hP 0 rfl rfl 11 (by decide) (hts (.fieldLink RX3 52 "PalletStack" "trial" "LPalletStack$Item;") (List.mem_of_getElem? (i := 1) (by rfl))) (fun _ h9 => h9) rfl dX3_brokenRule_24 ?_
      refine va_get (D := D) (ci := 0) (v := .int (nI (N 0 60 8))) (C := RX0) (T := TX0) (N := 18) hx hb hts (fun _ h9 => List.mem_cons_of_mem _ (List.mem_append_left _ (List.mem_append_right _ h9))) hown hK hP (5 + 60) (qG_i (by omega)) rfl 8 (by decide) (hts (.fieldLink RX3 131 "PalletStack$Item" "bottom" "I") (List.mem_of_getElem? (i := 5) (by rfl))) (fun _ h9 => h9) rfl dX3_brokenRule_27 ?_
      refine lv_if_le (tgt := 35) hx hb dX3_brokenRule_30 (by decide) (fun c_51 => ?_) (fun c_51 => ?_)
      · have h_b := True.intro
        have z8 : N 0 60 8 = 0 := Nat.le_zero.mp ((nI_leI (b := 0) (by omega) (by decide)).mp c_51)
        refine lv_aload_n hx hb dX3_brokenRule_35 rfl (lv_at hl 0 rfl) ?_
        refine va_get (D := D) (ci := 3) (v := .ref (qA B 0 60)) (C := RX3) (T := TX3) (N := 14) hx hb hts (fun _ h9 => List.mem_cons_of_mem _ (List.mem_append_left _ (List.mem_append_left _ (List.mem_append_right _ h9)))) hown hK hP 0 rfl rfl 11 (by decide) (hts (.fieldLink RX3 52 "PalletStack" "trial" "LPalletStack$Item;") (List.mem_of_getElem? (i := 1) (by rfl))) (fun _ h9 => h9) rfl dX3_brokenRule_36 ?_
        refine va_get (D := D) (ci := 0) (v := .int (nI (N 0 60 10))) (C := RX0) (T := TX0) (N := 18) hx hb hts (fun _ h9 => List.mem_cons_of_mem _ (List.mem_append_left _ (List.mem_append_right _ h9))) hown hK hP (5 + 60) (qG_i (by omega)) rfl 10 (by decide) (hts (.fieldLink RX3 214 "PalletStack$Item" "ground" "I") (List.mem_of_getElem? (i := 6) (by rfl))) (fun _ h9 => h9) rfl dX3_brokenRule_39 ?_
        refine lv_bipush (v := 100) hx hb dX3_brokenRule_42 (by decide) ?_
        refine lv_imul hx hb dX3_brokenRule_44 ?_
        refine lv_topi (fun v_52 ev_52 => ?_)
        obtain rfl : v_52 = (nI (N 0 60 10 * 100)) := ev_52.trans (pk_mul _ 100)
        refine lv_aload_n hx hb dX3_brokenRule_45 rfl (lv_at hl 0 rfl) ?_
        refine va_get (D := D) (ci := 3) (v := .ref (qA B 0 60)) (C := RX3) (T := TX3) (N := 14) hx hb hts (fun _ h9 => List.mem_cons_of_mem _ (List.mem_append_left _ (List.mem_append_left _ (List.mem_append_right _ h9)))) hown hK hP 0 rfl rfl 11 (by decide) (hts (.fieldLink RX3 52 "PalletStack" "trial" "LPalletStack$Item;") (List.mem_of_getElem? (i := 1) (by rfl))) (fun _ h9 => h9) rfl dX3_brokenRule_46 ?_
        refine zrdV2 (As := []) (rest := [.int (nI (N 0 60 10 * 100))]) (wc := qG B R N) ⟨hx, hb, hml, hown, hts⟩ (c_cells l D _ B R N 60 (by omega)) (cwV 0 hts gX3_brokenRule_X0_cells rfl rfl rfl (by decide +kernel) ⟨by rw [hRf]; exact Nat.le_of_ble_eq_true rfl, by rw [hRl]; exact Nat.le_of_ble_eq_true rfl⟩) hK hP hD [0, 1, 2, 3] rfl (ci := 0) (q0 := (5 + 60)) rfl (qG_i (by omega)) rfl hl.1 rfl (Nat.le_of_ble_eq_true rfl) dX3_brokenRule_49 ⟨by omega, by omega⟩ (fun r_53 hr_53 => ?_)
        refine lv_topi (fun v_54 ev_54 => ?_)
        obtain rfl : v_54 = (nI (N 0 60 4 * N 0 60 5)) := ev_54.trans hr_53
        refine lv_aload_n hx hb dX3_brokenRule_52 rfl (lv_at hl 0 rfl) ?_
        refine va_get (D := D) (ci := 3) (v := .int (nI (N 4 1 2))) (C := RX3) (T := TX3) (N := 14) hx hb hts (fun _ h9 => List.mem_cons_of_mem _ (List.mem_append_left _ (List.mem_append_left _ (List.mem_append_right _ h9)))) hown hK hP 0 rfl rfl 3 (by decide) (hts (.fieldLink RX3 22 "PalletStack" "support" "I") (List.mem_of_getElem? (i := 7) (by rfl))) (fun _ h9 => h9) rfl dX3_brokenRule_53 ?_
        refine lv_imul hx hb dX3_brokenRule_56 ?_
        refine lv_topi (fun v_55 ev_55 => ?_)
        obtain rfl : v_55 = (nI (N 0 60 4 * N 0 60 5 * N 4 1 2)) := ev_55.trans (pk_mul _ _)
        refine lv_icmp_ge (tgt := 62) hx hb dX3_brokenRule_57 (by decide) (fun c_56 => ?_) (fun c_56 => ?_)
        · have h_b := True.intro
          have k_57 : (N 0 60 4 * N 0 60 5 * N 4 1 2) ≤ (N 0 60 10 * 100) := (nI_leI (a := (N 0 60 4 * N 0 60 5 * N 4 1 2)) (b := (N 0 60 10 * 100)) (by omega) (by omega)).mp c_56
          refine lv_aload_n hx hb dX3_brokenRule_62 rfl (lv_at hl 0 rfl) ?_
          refine va_get (D := D) (ci := 3) (v := .int (nI (N 4 1 4))) (C := RX3) (T := TX3) (N := 14) hx hb hts (fun _ h9 => List.mem_cons_of_mem _ (List.mem_append_left _ (List.mem_append_left _ (List.mem_append_right _ h9)))) hown hK hP 0 rfl rfl 5 (by decide) (hts (.fieldLink RX3 28 "PalletStack" "hasCornerRule" "Z") (List.mem_of_getElem? (i := 8) (by rfl))) (fun _ h9 => h9) rfl dX3_brokenRule_63 ?_
          refine lv_if_eq (tgt := 88) hx hb dX3_brokenRule_66 (by decide) (fun c_58 => ?_) (fun c_58 => ?_)
          · have h_b := True.intro
            refine lv_aload_n hx hb dX3_brokenRule_88 rfl (lv_at hl 0 rfl) ?_
            refine qcallvV (As := []) (rest := []) (ws := qG B R N) ⟨hx, hb, hml, hown, hts⟩ (c_findS l D _ B R N hO hM hlen (fun k hk => Nat.le_trans (hcm k hk) (by decide))) (cwV 0 hts gX3_brokenRule_X3_findSupports rfl rfl rfl (by decide +kernel) ⟨by rw [hRf]; exact Nat.le_of_ble_eq_true rfl, by rw [hRl]; exact Nat.le_of_ble_eq_true rfl⟩) hK hP hD hS hA [0, 1, 2, 3] rfl (ci := 3) (q0 := 0) rfl rfl rfl hl.1 rfl (Nat.le_of_ble_eq_true rfl) dX3_brokenRule_89 ⟨by omega, by omega⟩ (fun u_60 H locs hwu_60 hP hD hS => ?_)
            obtain ⟨R1, N1⟩ := u_60
            obtain ⟨f1, f2, f3, f4, f5⟩ := hwu_60
            dsimp only at f1 f2 f3 f4 f5 hP hD
            have hP : va_P D vwCl (qG B R1 N1) H := hP
            have hD : va_D A (qG B R1 N1) := hD
            have n5 : N1 4 1 5 = N 4 1 5 := f4 _ _ _ (by omega) (by omega)
            have hO1 : qOK B N1 := qOKs hO (fun j _ _ => f4 _ _ _ (by omega) (by omega)) (fun j hj => f4 _ _ _ (by omega) (by omega))
            have hL1 : ∀ k, k ≤ N 4 1 5 + 1 → qLN (qSx (qSt S N) (N 4 1 5)) (qx N1 (N 4 1 5)) (N 4 1 5 + 1) k = qLN (qSx (qSt S N) (N 4 1 5)) (qx (qtr N) (N 4 1 5)) (N 4 1 5 + 1) k := qLN_tr rfl o8 f1 (fun j hj => (f2 j hj).2) f4 _
            have hM1 : qM N1 := fun c i j => by
              by_cases h1 : c = 0 ∧ i = 60 ∧ j = 15
              · obtain ⟨rfl, rfl, rfl⟩ := h1; rw [f1]; exact Nat.le_trans hlen (by decide)
              · by_cases h2 : c = 1 ∧ i = 60
                · obtain ⟨rfl, rfl⟩ := h2; exact f5 j
                · rw [f4 _ _ _ h1 h2]; exact hM c i j
            have hS1 : qS9 B R1 N1 (qSt S N) (N 4 1 5) := fun i hi => by
              obtain ⟨s1, s2, s3, s4⟩ := hS9 i hi
              rw [f4 _ _ _ (by omega) (by omega), f4 _ _ _ (by omega) (by omega), f4 _ _ _ (by omega) (by omega), f3 i (by omega), qSt_i S N (show i ≠ 60 by omega)]
              exact ⟨s1, s2, s3, fun j hj => by rw [f4 _ _ _ (by omega) (by omega)]; exact s4 j hj⟩
            refine lv_aload_n hx hb dX3_brokenRule_92 rfl (lv_at hl 0 rfl) ?_
            refine qcalliV (As := []) (rest := []) (ws := qG B R1 N1) ⟨hx, hb, hml, hown, hts⟩ (c_tooMuch l D _ B R1 N1 hO1 hM1 (qSt S N) (by rw [n5]; exact hS1) ⟨by rw [f1]; exact hlen, by rw [f4 _ _ _ (by omega) (by omega)]; exact hg.1, by rw [f4 _ _ _ (by omega) (by omega)]; exact hwt, fun j hj => by rw [f1] at hj; rw [qSt_60, n5, (f2 j hj).1, (f2 j hj).2]; exact ⟨rfl, (qfs_at hj).1, hcm _ (qfs_at hj).1⟩⟩ (fun k i hk hi => by rw [n5] at hk hi ⊢; rw [hL1 k hk]; exact hLb k i hk hi)) (cwV 0 hts gX3_brokenRule_X3_isTooMuchLoad rfl rfl rfl (by decide +kernel) ⟨by rw [hRf]; exact Nat.le_of_ble_eq_true rfl, by rw [hRl]; exact Nat.le_of_ble_eq_true rfl⟩) hK hP hD hS hA [0, 1, 2, 3] rfl (ci := 3) (q0 := 0) rfl rfl rfl hl.1 rfl (Nat.le_of_ble_eq_true rfl) dX3_brokenRule_93 ⟨by omega, by omega⟩ (fun r_61 u_62 H locs hwu_62 hP hD hS => ?_)
            have hP : va_P D vwCl (qG B R1 u_62) H := hP
            have hD : va_D A (qG B R1 u_62) := hD
            obtain ⟨g1, g2, g3⟩ := hwu_62
            rw [n5] at g1 g3
            rw [hL1 _ (Nat.le_refl _)] at g3
            have hFr : qFr N u_62 := fun c i j h1 h2 h3 => by rw [g1 _ _ _ (by omega)]; exact f4 _ _ _ (by omega) h2
            have hM2 : qM u_62 := fun c i j => by
              by_cases h9 : c = 0 ∧ j = 12
              · obtain ⟨rfl, rfl⟩ := h9; exact g2 i
              · rw [g1 _ _ _ (by omega)]; exact hM1 c i j
            refine lv_if_eq (tgt := 102) hx hb dX3_brokenRule_96 (by decide) (fun c_63 => ?_) (fun c_63 => ?_)
            · have h_b := True.intro
              have hall : ∀ i, i < N 4 1 5 → qLN (qSx (qSt S N) (N 4 1 5)) (qx (qtr N) (N 4 1 5)) (N 4 1 5 + 1) (N 4 1 5 + 1) i ≤ N 0 i 2 := fun i hi => by have := g3 c_63 i hi; rw [f4 _ _ _ (by omega) (by omega)] at this; exact this
              refine lv_aload_n hx hb dX3_brokenRule_102 rfl (lv_at hl 0 rfl) ?_
              refine va_get (D := D) (ci := 3) (v := .int (nI (u_62 4 1 7))) (C := RX3) (T := TX3) (N := 14) hx hb hts (fun _ h9 => List.mem_cons_of_mem _ (List.mem_append_left _ (List.mem_append_left _ (List.mem_append_right _ h9)))) hown hK hP 0 rfl rfl 9 (by decide) (hts (.fieldLink RX3 44 "PalletStack" "weightOnPallet" "I") (List.mem_of_getElem? (i := 9) (by rfl))) (fun _ h9 => h9) rfl dX3_brokenRule_103 ?_
              refine lv_topi (fun v_64 ev_64 => ?_)
              obtain rfl : v_64 = (nI (N 4 1 7)) := ev_64.trans (congrArg nI (hFr _ _ _ (by omega) (by omega) (by omega)))
              refine lv_aload_n hx hb dX3_brokenRule_106 rfl (lv_at hl 0 rfl) ?_
              refine va_get (D := D) (ci := 3) (v := .ref (qA B 0 60)) (C := RX3) (T := TX3) (N := 14) hx hb hts (fun _ h9 => List.mem_cons_of_mem _ (List.mem_append_left _ (List.mem_append_left _ (List.mem_append_right _ h9)))) hown hK hP 0 rfl rfl 11 (by decide) (hts (.fieldLink RX3 52 "PalletStack" "trial" "LPalletStack$Item;") (List.mem_of_getElem? (i := 1) (by rfl))) (fun _ h9 => h9) rfl dX3_brokenRule_107 ?_
              refine va_get (D := D) (ci := 0) (v := .int (nI (u_62 0 60 1))) (C := RX0) (T := TX0) (N := 18) hx hb hts (fun _ h9 => List.mem_cons_of_mem _ (List.mem_append_left _ (List.mem_append_right _ h9))) hown hK hP (5 + 60) (qG_i (by omega)) rfl 1 (by decide) (hts (.fieldLink RX3 107 "PalletStack$Item" "weight" "I") (List.mem_of_getElem? (i := 10) (by rfl))) (fun _ h9 => h9) rfl dX3_brokenRule_110 ?_
              refine lv_topi (fun v_65 ev_65 => ?_)
              obtain rfl : v_65 = (nI (N 0 60 1)) := ev_65.trans (congrArg nI (hFr _ _ _ (by omega) (by omega) (by omega)))
              refine lv_iadd hx hb dX3_brokenRule_113 ?_
              refine lv_topi (fun v_66 ev_66 => ?_)
              obtain rfl : v_66 = (nI (N 4 1 7 + N 0 60 1)) := ev_66.trans (nI_add _ _)
              refine lv_aload_n hx hb dX3_brokenRule_114 rfl (lv_at hl 0 rfl) ?_
              refine va_get (D := D) (ci := 3) (v := .int (nI (u_62 4 1 3))) (C := RX3) (T := TX3) (N := 14) hx hb hts (fun _ h9 => List.mem_cons_of_mem _ (List.mem_append_left _ (List.mem_append_left _ (List.mem_append_right _ h9)))) hown hK hP 0 rfl rfl 4 (by decide) (hts (.fieldLink RX3 25 "PalletStack" "limit" "I") (List.mem_of_getElem? (i := 11) (by rfl))) (fun _ h9 => h9) rfl dX3_brokenRule_115 ?_
              refine lv_topi (fun v_67 ev_67 => ?_)
              obtain rfl : v_67 = (nI (N 4 1 3)) := ev_67.trans (congrArg nI (hFr _ _ _ (by omega) (by omega) (by omega)))
              refine lv_icmp_le (tgt := 126) hx hb dX3_brokenRule_118 (by decide) (fun c_68 => ?_) (fun c_68 => ?_)
              · have h_b := True.intro
                have k_69 : (N 4 1 7 + N 0 60 1) ≤ (N 4 1 3) := (nI_leI (a := (N 4 1 7 + N 0 60 1)) (b := (N 4 1 3)) (by omega) (by omega)).mp c_68
                refine lv_iconst (v := 0) hx hb dX3_brokenRule_126 (by decide) ?_
                exact W.iret (v := 0) hx hb hr (fun t ht hW => ⟨⟨0, (R1, u_62), rfl, ⟨fun i hi => f3 i hi, hFr, hM2, fun _ => ⟨by omega, (fun _ => z8), by omega, hall, by omega⟩⟩, ⟨Nat.zero_le _, by rw [ht]; exact hP, va_K.moved hW.alike (hK.sub (tys' := []) [] rfl), hD⟩⟩, hS.F ht⟩) hS.2.2 dX3_brokenRule_127
              · have h_b := True.intro
                have k_70 : ¬ ((N 4 1 7 + N 0 60 1) ≤ (N 4 1 3)) := fun h9 => c_68 ((nI_leI (a := (N 4 1 7 + N 0 60 1)) (b := (N 4 1 3)) (by omega) (by omega)).mpr h9)
                refine lv_bipush (v := 7) hx hb dX3_brokenRule_121 (by decide) ?_
                refine lv_goto (tgt := 127) hx hb dX3_brokenRule_123 (by decide) ?_
                exact W.iret (v := 7) hx hb hr (fun t ht hW => ⟨⟨7, (R1, u_62), rfl, ⟨fun i hi => f3 i hi, hFr, hM2, fun h => absurd h (by decide)⟩, ⟨Nat.zero_le _, by rw [ht]; exact hP, va_K.moved hW.alike (hK.sub (tys' := []) [] rfl), hD⟩⟩, hS.F ht⟩) hS.2.2 dX3_brokenRule_127
            · have h_b := True.intro
              refine lv_bipush (v := 6) hx hb dX3_brokenRule_99 (by decide) ?_
              exact W.iret (v := 6) hx hb hr (fun t ht hW => ⟨⟨6, (R1, u_62), rfl, ⟨fun i hi => f3 i hi, hFr, hM2, fun h => absurd h (by decide)⟩, ⟨Nat.zero_le _, by rw [ht]; exact hP, va_K.moved hW.alike (hK.sub (tys' := []) [] rfl), hD⟩⟩, hS.F ht⟩) hS.2.2 dX3_brokenRule_101
          · have h_b := True.intro
            refine lv_aload_n hx hb dX3_brokenRule_69 rfl (lv_at hl 0 rfl) ?_
            refine va_get (D := D) (ci := 3) (v := .ref (qA B 0 60)) (C := RX3) (T := TX3) (N := 14) hx hb hts (fun _ h9 => List.mem_cons_of_mem _ (List.mem_append_left _ (List.mem_append_left _ (List.mem_append_right _ h9)))) hown hK hP 0 rfl rfl 11 (by decide) (hts (.fieldLink RX3 52 "PalletStack" "trial" "LPalletStack$Item;") (List.mem_of_getElem? (i := 1) (by rfl))) (fun _ h9 => h9) rfl dX3_brokenRule_70 ?_
            refine va_get (D := D) (ci := 0) (v := .int (nI (N 0 60 8))) (C := RX0) (T := TX0) (N := 18) hx hb hts (fun _ h9 => List.mem_cons_of_mem _ (List.mem_append_left _ (List.mem_append_right _ h9))) hown hK hP (5 + 60) (qG_i (by omega)) rfl 8 (by decide) (hts (.fieldLink RX3 131 "PalletStack$Item" "bottom" "I") (List.mem_of_getElem? (i := 5) (by rfl))) (fun _ h9 => h9) rfl dX3_brokenRule_73 ?_
            refine lv_if_le (tgt := 88) hx hb dX3_brokenRule_76 (by decide) (fun c_71 => ?_) (fun c_71 => ?_)
            · have h_b := True.intro
              refine lv_aload_n hx hb dX3_brokenRule_88 rfl (lv_at hl 0 rfl) ?_
              refine qcallvV (As := []) (rest := []) (ws := qG B R N) ⟨hx, hb, hml, hown, hts⟩ (c_findS l D _ B R N hO hM hlen (fun k hk => Nat.le_trans (hcm k hk) (by decide))) (cwV 0 hts gX3_brokenRule_X3_findSupports rfl rfl rfl (by decide +kernel) ⟨by rw [hRf]; exact Nat.le_of_ble_eq_true rfl, by rw [hRl]; exact Nat.le_of_ble_eq_true rfl⟩) hK hP hD hS hA [0, 1, 2, 3] rfl (ci := 3) (q0 := 0) rfl rfl rfl hl.1 rfl (Nat.le_of_ble_eq_true rfl) dX3_brokenRule_89 ⟨by omega, by omega⟩ (fun u_73 H locs hwu_73 hP hD hS => ?_)
              obtain ⟨R1, N1⟩ := u_73
              obtain ⟨f1, f2, f3, f4, f5⟩ := hwu_73
              dsimp only at f1 f2 f3 f4 f5 hP hD
              have hP : va_P D vwCl (qG B R1 N1) H := hP
              have hD : va_D A (qG B R1 N1) := hD
              have n5 : N1 4 1 5 = N 4 1 5 := f4 _ _ _ (by omega) (by omega)
              have hO1 : qOK B N1 := qOKs hO (fun j _ _ => f4 _ _ _ (by omega) (by omega)) (fun j hj => f4 _ _ _ (by omega) (by omega))
              have hL1 : ∀ k, k ≤ N 4 1 5 + 1 → qLN (qSx (qSt S N) (N 4 1 5)) (qx N1 (N 4 1 5)) (N 4 1 5 + 1) k = qLN (qSx (qSt S N) (N 4 1 5)) (qx (qtr N) (N 4 1 5)) (N 4 1 5 + 1) k := qLN_tr rfl o8 f1 (fun j hj => (f2 j hj).2) f4 _
              have hM1 : qM N1 := fun c i j => by
                by_cases h1 : c = 0 ∧ i = 60 ∧ j = 15
                · obtain ⟨rfl, rfl, rfl⟩ := h1; rw [f1]; exact Nat.le_trans hlen (by decide)
                · by_cases h2 : c = 1 ∧ i = 60
                  · obtain ⟨rfl, rfl⟩ := h2; exact f5 j
                  · rw [f4 _ _ _ h1 h2]; exact hM c i j
              have hS1 : qS9 B R1 N1 (qSt S N) (N 4 1 5) := fun i hi => by
                obtain ⟨s1, s2, s3, s4⟩ := hS9 i hi
                rw [f4 _ _ _ (by omega) (by omega), f4 _ _ _ (by omega) (by omega), f4 _ _ _ (by omega) (by omega), f3 i (by omega), qSt_i S N (show i ≠ 60 by omega)]
                exact ⟨s1, s2, s3, fun j hj => by rw [f4 _ _ _ (by omega) (by omega)]; exact s4 j hj⟩
              refine lv_aload_n hx hb dX3_brokenRule_92 rfl (lv_at hl 0 rfl) ?_
              refine qcalliV (As := []) (rest := []) (ws := qG B R1 N1) ⟨hx, hb, hml, hown, hts⟩ (c_tooMuch l D _ B R1 N1 hO1 hM1 (qSt S N) (by rw [n5]; exact hS1) ⟨by rw [f1]; exact hlen, by rw [f4 _ _ _ (by omega) (by omega)]; exact hg.1, by rw [f4 _ _ _ (by omega) (by omega)]; exact hwt, fun j hj => by rw [f1] at hj; rw [qSt_60, n5, (f2 j hj).1, (f2 j hj).2]; exact ⟨rfl, (qfs_at hj).1, hcm _ (qfs_at hj).1⟩⟩ (fun k i hk hi => by rw [n5] at hk hi ⊢; rw [hL1 k hk]; exact hLb k i hk hi)) (cwV 0 hts gX3_brokenRule_X3_isTooMuchLoad rfl rfl rfl (by decide +kernel) ⟨by rw [hRf]; exact Nat.le_of_ble_eq_true rfl, by rw [hRl]; exact Nat.le_of_ble_eq_true rfl⟩) hK hP hD hS hA [0, 1, 2, 3] rfl (ci := 3) (q0 := 0) rfl rfl rfl hl.1 rfl (Nat.le_of_ble_eq_true rfl) dX3_brokenRule_93 ⟨by omega, by omega⟩ (fun r_74 u_75 H locs hwu_75 hP hD hS => ?_)
              have hP : va_P D vwCl (qG B R1 u_75) H := hP
              have hD : va_D A (qG B R1 u_75) := hD
              obtain ⟨g1, g2, g3⟩ := hwu_75
              rw [n5] at g1 g3
              rw [hL1 _ (Nat.le_refl _)] at g3
              have hFr : qFr N u_75 := fun c i j h1 h2 h3 => by rw [g1 _ _ _ (by omega)]; exact f4 _ _ _ (by omega) h2
              have hM2 : qM u_75 := fun c i j => by
                by_cases h9 : c = 0 ∧ j = 12
                · obtain ⟨rfl, rfl⟩ := h9; exact g2 i
                · rw [g1 _ _ _ (by omega)]; exact hM1 c i j
              refine lv_if_eq (tgt := 102) hx hb dX3_brokenRule_96 (by decide) (fun c_76 => ?_) (fun c_76 => ?_)
              · have h_b := True.intro
                have hall : ∀ i, i < N 4 1 5 → qLN (qSx (qSt S N) (N 4 1 5)) (qx (qtr N) (N 4 1 5)) (N 4 1 5 + 1) (N 4 1 5 + 1) i ≤ N 0 i 2 := fun i hi => by have := g3 c_76 i hi; rw [f4 _ _ _ (by omega) (by omega)] at this; exact this
                refine lv_aload_n hx hb dX3_brokenRule_102 rfl (lv_at hl 0 rfl) ?_
                refine va_get (D := D) (ci := 3) (v := .int (nI (u_75 4 1 7))) (C := RX3) (T := TX3) (N := 14) hx hb hts (fun _ h9 => List.mem_cons_of_mem _ (List.mem_append_left _ (List.mem_append_left _ (List.mem_append_right _ h9)))) hown hK hP 0 rfl rfl 9 (by decide) (hts (.fieldLink RX3 44 "PalletStack" "weightOnPallet" "I") (List.mem_of_getElem? (i := 9) (by rfl))) (fun _ h9 => h9) rfl dX3_brokenRule_103 ?_
                refine lv_topi (fun v_77 ev_77 => ?_)
                obtain rfl : v_77 = (nI (N 4 1 7)) := ev_77.trans (congrArg nI (hFr _ _ _ (by omega) (by omega) (by omega)))
                refine lv_aload_n hx hb dX3_brokenRule_106 rfl (lv_at hl 0 rfl) ?_
                refine va_get (D := D) (ci := 3) (v := .ref (qA B 0 60)) (C := RX3) (T := TX3) (N := 14) hx hb hts (fun _ h9 => List.mem_cons_of_mem _ (List.mem_append_left _ (List.mem_append_left _ (List.mem_append_right _ h9)))) hown hK hP 0 rfl rfl 11 (by decide) (hts (.fieldLink RX3 52 "PalletStack" "trial" "LPalletStack$Item;") (List.mem_of_getElem? (i := 1) (by rfl))) (fun _ h9 => h9) rfl dX3_brokenRule_107 ?_
                refine va_get (D := D) (ci := 0) (v := .int (nI (u_75 0 60 1))) (C := RX0) (T := TX0) (N := 18) hx hb hts (fun _ h9 => List.mem_cons_of_mem _ (List.mem_append_left _ (List.mem_append_right _ h9))) hown hK hP (5 + 60) (qG_i (by omega)) rfl 1 (by decide) (hts (.fieldLink RX3 107 "PalletStack$Item" "weight" "I") (List.mem_of_getElem? (i := 10) (by rfl))) (fun _ h9 => h9) rfl dX3_brokenRule_110 ?_
                refine lv_topi (fun v_78 ev_78 => ?_)
                obtain rfl : v_78 = (nI (N 0 60 1)) := ev_78.trans (congrArg nI (hFr _ _ _ (by omega) (by omega) (by omega)))
                refine lv_iadd hx hb dX3_brokenRule_113 ?_
                refine lv_topi (fun v_79 ev_79 => ?_)
                obtain rfl : v_79 = (nI (N 4 1 7 + N 0 60 1)) := ev_79.trans (nI_add _ _)
                refine lv_aload_n hx hb dX3_brokenRule_114 rfl (lv_at hl 0 rfl) ?_
                refine va_get (D := D) (ci := 3) (v := .int (nI (u_75 4 1 3))) (C := RX3) (T := TX3) (N := 14) hx hb hts (fun _ h9 => List.mem_cons_of_mem _ (List.mem_append_left _ (List.mem_append_left _ (List.mem_append_right _ h9)))) hown hK hP 0 rfl rfl 4 (by decide) (hts (.fieldLink RX3 25 "PalletStack" "limit" "I") (List.mem_of_getElem? (i := 11) (by rfl))) (fun _ h9 => h9) rfl dX3_brokenRule_115 ?_
                refine lv_topi (fun v_80 ev_80 => ?_)
                obtain rfl : v_80 = (nI (N 4 1 3)) := ev_80.trans (congrArg nI (hFr _ _ _ (by omega) (by omega) (by omega)))
                refine lv_icmp_le (tgt := 126) hx hb dX3_brokenRule_118 (by decide) (fun c_81 => ?_) (fun c_81 => ?_)
                · have h_b := True.intro
                  have k_82 : (N 4 1 7 + N 0 60 1) ≤ (N 4 1 3) := (nI_leI (a := (N 4 1 7 + N 0 60 1)) (b := (N 4 1 3)) (by omega) (by omega)).mp c_81
                  refine lv_iconst (v := 0) hx hb dX3_brokenRule_126 (by decide) ?_
                  exact W.iret (v := 0) hx hb hr (fun t ht hW => ⟨⟨0, (R1, u_75), rfl, ⟨fun i hi => f3 i hi, hFr, hM2, fun _ => ⟨by omega, (fun _ => z8), by omega, hall, by omega⟩⟩, ⟨Nat.zero_le _, by rw [ht]; exact hP, va_K.moved hW.alike (hK.sub (tys' := []) [] rfl), hD⟩⟩, hS.F ht⟩) hS.2.2 dX3_brokenRule_127
                · have h_b := True.intro
                  have k_83 : ¬ ((N 4 1 7 + N 0 60 1) ≤ (N 4 1 3)) := fun h9 => c_81 ((nI_leI (a := (N 4 1 7 + N 0 60 1)) (b := (N 4 1 3)) (by omega) (by omega)).mpr h9)
                  refine lv_bipush (v := 7) hx hb dX3_brokenRule_121 (by decide) ?_
                  refine lv_goto (tgt := 127) hx hb dX3_brokenRule_123 (by decide) ?_
                  exact W.iret (v := 7) hx hb hr (fun t ht hW => ⟨⟨7, (R1, u_75), rfl, ⟨fun i hi => f3 i hi, hFr, hM2, fun h => absurd h (by decide)⟩, ⟨Nat.zero_le _, by rw [ht]; exact hP, va_K.moved hW.alike (hK.sub (tys' := []) [] rfl), hD⟩⟩, hS.F ht⟩) hS.2.2 dX3_brokenRule_127
              · have h_b := True.intro
                refine lv_bipush (v := 6) hx hb dX3_brokenRule_99 (by decide) ?_
                exact W.iret (v := 6) hx hb hr (fun t ht hW => ⟨⟨6, (R1, u_75), rfl, ⟨fun i hi => f3 i hi, hFr, hM2, fun h => absurd h (by decide)⟩, ⟨Nat.zero_le _, by rw [ht]; exact hP, va_K.moved hW.alike (hK.sub (tys' := []) [] rfl), hD⟩⟩, hS.F ht⟩) hS.2.2 dX3_brokenRule_101
            · have h_b := True.intro
              refine lv_aload_n hx hb dX3_brokenRule_79 rfl (lv_at hl 0 rfl) ?_
              refine zrdV2 (As := []) (rest := []) (wc := qG B R N) ⟨hx, hb, hml, hown, hts⟩ (c_corners l D _ B R N hw.1 hw.2.2.1 hxy.1 hxy.2) (cwV 0 hts gX3_brokenRule_X3_hasGroundAtCorners rfl rfl rfl (by decide +kernel) ⟨by rw [hRf]; exact Nat.le_of_ble_eq_true rfl, by rw [hRl]; exact Nat.le_of_ble_eq_true rfl⟩) hK hP hD [0, 1, 2, 3] rfl (ci := 3) (q0 := 0) rfl rfl rfl hl.1 rfl (Nat.le_of_ble_eq_true rfl) dX3_brokenRule_80 ⟨by omega, by omega⟩ (fun r_84 hr_84 => ?_)
              refine lv_if_ne (tgt := 88) hx hb dX3_brokenRule_83 (by decide) (fun c_85 => ?_) (fun c_85 => ?_)
              · have h_b := True.intro
                refine lv_aload_n hx hb dX3_brokenRule_88 rfl (lv_at hl 0 rfl) ?_
                refine qcallvV (As := []) (rest := []) (ws := qG B R N) ⟨hx, hb, hml, hown, hts⟩ (c_findS l D _ B R N hO hM hlen (fun k hk => Nat.le_trans (hcm k hk) (by decide))) (cwV 0 hts gX3_brokenRule_X3_findSupports rfl rfl rfl (by decide +kernel) ⟨by rw [hRf]; exact Nat.le_of_ble_eq_true rfl, by rw [hRl]; exact Nat.le_of_ble_eq_true rfl⟩) hK hP hD hS hA [0, 1, 2, 3] rfl (ci := 3) (q0 := 0) rfl rfl rfl hl.1 rfl (Nat.le_of_ble_eq_true rfl) dX3_brokenRule_89 ⟨by omega, by omega⟩ (fun u_87 H locs hwu_87 hP hD hS => ?_)
                obtain ⟨R1, N1⟩ := u_87
                obtain ⟨f1, f2, f3, f4, f5⟩ := hwu_87
                dsimp only at f1 f2 f3 f4 f5 hP hD
                have hP : va_P D vwCl (qG B R1 N1) H := hP
                have hD : va_D A (qG B R1 N1) := hD
                have n5 : N1 4 1 5 = N 4 1 5 := f4 _ _ _ (by omega) (by omega)
                have hO1 : qOK B N1 := qOKs hO (fun j _ _ => f4 _ _ _ (by omega) (by omega)) (fun j hj => f4 _ _ _ (by omega) (by omega))
                have hL1 : ∀ k, k ≤ N 4 1 5 + 1 → qLN (qSx (qSt S N) (N 4 1 5)) (qx N1 (N 4 1 5)) (N 4 1 5 + 1) k = qLN (qSx (qSt S N) (N 4 1 5)) (qx (qtr N) (N 4 1 5)) (N 4 1 5 + 1) k := qLN_tr rfl o8 f1 (fun j hj => (f2 j hj).2) f4 _
                have hM1 : qM N1 := fun c i j => by
                  by_cases h1 : c = 0 ∧ i = 60 ∧ j = 15
                  · obtain ⟨rfl, rfl, rfl⟩ := h1; rw [f1]; exact Nat.le_trans hlen (by decide)
                  · by_cases h2 : c = 1 ∧ i = 60
                    · obtain ⟨rfl, rfl⟩ := h2; exact f5 j
                    · rw [f4 _ _ _ h1 h2]; exact hM c i j
                have hS1 : qS9 B R1 N1 (qSt S N) (N 4 1 5) := fun i hi => by
                  obtain ⟨s1, s2, s3, s4⟩ := hS9 i hi
                  rw [f4 _ _ _ (by omega) (by omega), f4 _ _ _ (by omega) (by omega), f4 _ _ _ (by omega) (by omega), f3 i (by omega), qSt_i S N (show i ≠ 60 by omega)]
                  exact ⟨s1, s2, s3, fun j hj => by rw [f4 _ _ _ (by omega) (by omega)]; exact s4 j hj⟩
                refine lv_aload_n hx hb dX3_brokenRule_92 rfl (lv_at hl 0 rfl) ?_
                refine qcalliV (As := []) (rest := []) (ws := qG B R1 N1) ⟨hx, hb, hml, hown, hts⟩ (c_tooMuch l D _ B R1 N1 hO1 hM1 (qSt S N) (by rw [n5]; exact hS1) ⟨by rw [f1]; exact hlen, by rw [f4 _ _ _ (by omega) (by omega)]; exact hg.1, by rw [f4 _ _ _ (by omega) (by omega)]; exact hwt, fun j hj => by rw [f1] at hj; rw [qSt_60, n5, (f2 j hj).1, (f2 j hj).2]; exact ⟨rfl, (qfs_at hj).1, hcm _ (qfs_at hj).1⟩⟩ (fun k i hk hi => by rw [n5] at hk hi ⊢; rw [hL1 k hk]; exact hLb k i hk hi)) (cwV 0 hts gX3_brokenRule_X3_isTooMuchLoad rfl rfl rfl (by decide +kernel) ⟨by rw [hRf]; exact Nat.le_of_ble_eq_true rfl, by rw [hRl]; exact Nat.le_of_ble_eq_true rfl⟩) hK hP hD hS hA [0, 1, 2, 3] rfl (ci := 3) (q0 := 0) rfl rfl rfl hl.1 rfl (Nat.le_of_ble_eq_true rfl) dX3_brokenRule_93 ⟨by omega, by omega⟩ (fun r_88 u_89 H locs hwu_89 hP hD hS => ?_)
                have hP : va_P D vwCl (qG B R1 u_89) H := hP
                have hD : va_D A (qG B R1 u_89) := hD
                obtain ⟨g1, g2, g3⟩ := hwu_89
                rw [n5] at g1 g3
                rw [hL1 _ (Nat.le_refl _)] at g3
                have hFr : qFr N u_89 := fun c i j h1 h2 h3 => by rw [g1 _ _ _ (by omega)]; exact f4 _ _ _ (by omega) h2
                have hM2 : qM u_89 := fun c i j => by
                  by_cases h9 : c = 0 ∧ j = 12
                  · obtain ⟨rfl, rfl⟩ := h9; exact g2 i
                  · rw [g1 _ _ _ (by omega)]; exact hM1 c i j
                refine lv_if_eq (tgt := 102) hx hb dX3_brokenRule_96 (by decide) (fun c_90 => ?_) (fun c_90 => ?_)
                · have h_b := True.intro
                  have hall : ∀ i, i < N 4 1 5 → qLN (qSx (qSt S N) (N 4 1 5)) (qx (qtr N) (N 4 1 5)) (N 4 1 5 + 1) (N 4 1 5 + 1) i ≤ N 0 i 2 := fun i hi => by have := g3 c_90 i hi; rw [f4 _ _ _ (by omega) (by omega)] at this; exact this
                  refine lv_aload_n hx hb dX3_brokenRule_102 rfl (lv_at hl 0 rfl) ?_
                  refine va_get (D := D) (ci := 3) (v := .int (nI (u_89 4 1 7))) (C := RX3) (T := TX3) (N := 14) hx hb hts (fun _ h9 => List.mem_cons_of_mem _ (List.mem_append_left _ (List.mem_append_left _ (List.mem_append_right _ h9)))) hown hK hP 0 rfl rfl 9 (by decide) (hts (.fieldLink RX3 44 "PalletStack" "weightOnPallet" "I") (List.mem_of_getElem? (i := 9) (by rfl))) (fun _ h9 => h9) rfl dX3_brokenRule_103 ?_
                  refine lv_topi (fun v_91 ev_91 => ?_)
                  obtain rfl : v_91 = (nI (N 4 1 7)) := ev_91.trans (congrArg nI (hFr _ _ _ (by omega) (by omega) (by omega)))
                  refine lv_aload_n hx hb dX3_brokenRule_106 rfl (lv_at hl 0 rfl) ?_
                  refine va_get (D := D) (ci := 3) (v := .ref (qA B 0 60)) (C := RX3) (T := TX3) (N := 14) hx hb hts (fun _ h9 => List.mem_cons_of_mem _ (List.mem_append_left _ (List.mem_append_left _ (List.mem_append_right _ h9)))) hown hK hP 0 rfl rfl 11 (by decide) (hts (.fieldLink RX3 52 "PalletStack" "trial" "LPalletStack$Item;") (List.mem_of_getElem? (i := 1) (by rfl))) (fun _ h9 => h9) rfl dX3_brokenRule_107 ?_
                  refine va_get (D := D) (ci := 0) (v := .int (nI (u_89 0 60 1))) (C := RX0) (T := TX0) (N := 18) hx hb hts (fun _ h9 => List.mem_cons_of_mem _ (List.mem_append_left _ (List.mem_append_right _ h9))) hown hK hP (5 + 60) (qG_i (by omega)) rfl 1 (by decide) (hts (.fieldLink RX3 107 "PalletStack$Item" "weight" "I") (List.mem_of_getElem? (i := 10) (by rfl))) (fun _ h9 => h9) rfl dX3_brokenRule_110 ?_
                  refine lv_topi (fun v_92 ev_92 => ?_)
                  obtain rfl : v_92 = (nI (N 0 60 1)) := ev_92.trans (congrArg nI (hFr _ _ _ (by omega) (by omega) (by omega)))
                  refine lv_iadd hx hb dX3_brokenRule_113 ?_
                  refine lv_topi (fun v_93 ev_93 => ?_)
                  obtain rfl : v_93 = (nI (N 4 1 7 + N 0 60 1)) := ev_93.trans (nI_add _ _)
                  refine lv_aload_n hx hb dX3_brokenRule_114 rfl (lv_at hl 0 rfl) ?_
                  refine va_get (D := D) (ci := 3) (v := .int (nI (u_89 4 1 3))) (C := RX3) (T := TX3) (N := 14) hx hb hts (fun _ h9 => List.mem_cons_of_mem _ (List.mem_append_left _ (List.mem_append_left _ (List.mem_append_right _ h9)))) hown hK hP 0 rfl rfl 4 (by decide) (hts (.fieldLink RX3 25 "PalletStack" "limit" "I") (List.mem_of_getElem? (i := 11) (by rfl))) (fun _ h9 => h9) rfl dX3_brokenRule_115 ?_
                  refine lv_topi (fun v_94 ev_94 => ?_)
                  obtain rfl : v_94 = (nI (N 4 1 3)) := ev_94.trans (congrArg nI (hFr _ _ _ (by omega) (by omega) (by omega)))
                  refine lv_icmp_le (tgt := 126) hx hb dX3_brokenRule_118 (by decide) (fun c_95 => ?_) (fun c_95 => ?_)
                  · have h_b := True.intro
                    have k_96 : (N 4 1 7 + N 0 60 1) ≤ (N 4 1 3) := (nI_leI (a := (N 4 1 7 + N 0 60 1)) (b := (N 4 1 3)) (by omega) (by omega)).mp c_95
                    refine lv_iconst (v := 0) hx hb dX3_brokenRule_126 (by decide) ?_
                    exact W.iret (v := 0) hx hb hr (fun t ht hW => ⟨⟨0, (R1, u_89), rfl, ⟨fun i hi => f3 i hi, hFr, hM2, fun _ => ⟨by omega, (fun _ => z8), by omega, hall, by omega⟩⟩, ⟨Nat.zero_le _, by rw [ht]; exact hP, va_K.moved hW.alike (hK.sub (tys' := []) [] rfl), hD⟩⟩, hS.F ht⟩) hS.2.2 dX3_brokenRule_127
                  · have h_b := True.intro
                    have k_97 : ¬ ((N 4 1 7 + N 0 60 1) ≤ (N 4 1 3)) := fun h9 => c_95 ((nI_leI (a := (N 4 1 7 + N 0 60 1)) (b := (N 4 1 3)) (by omega) (by omega)).mpr h9)
                    refine lv_bipush (v := 7) hx hb dX3_brokenRule_121 (by decide) ?_
                    refine lv_goto (tgt := 127) hx hb dX3_brokenRule_123 (by decide) ?_
                    exact W.iret (v := 7) hx hb hr (fun t ht hW => ⟨⟨7, (R1, u_89), rfl, ⟨fun i hi => f3 i hi, hFr, hM2, fun h => absurd h (by decide)⟩, ⟨Nat.zero_le _, by rw [ht]; exact hP, va_K.moved hW.alike (hK.sub (tys' := []) [] rfl), hD⟩⟩, hS.F ht⟩) hS.2.2 dX3_brokenRule_127
                · have h_b := True.intro
                  refine lv_bipush (v := 6) hx hb dX3_brokenRule_99 (by decide) ?_
                  exact W.iret (v := 6) hx hb hr (fun t ht hW => ⟨⟨6, (R1, u_89), rfl, ⟨fun i hi => f3 i hi, hFr, hM2, fun h => absurd h (by decide)⟩, ⟨Nat.zero_le _, by rw [ht]; exact hP, va_K.moved hW.alike (hK.sub (tys' := []) [] rfl), hD⟩⟩, hS.F ht⟩) hS.2.2 dX3_brokenRule_101
              · have h_b := True.intro
                refine lv_iconst (v := 5) hx hb dX3_brokenRule_86 (by decide) ?_
                exact W.iret (v := 5) hx hb hr (fun t ht hW => ⟨⟨5, (R, N), rfl, ⟨fun _ _ => rfl, hFr0, hM, fun h => absurd h (by decide)⟩, ⟨Nat.zero_le _, by rw [ht]; exact hP, va_K.moved hW.alike (hK.sub (tys' := []) [] rfl), hD⟩⟩, hS.F ht⟩) hS.2.2 dX3_brokenRule_87
        · have h_b := True.intro
          have k_98 : ¬ ((N 0 60 4 * N 0 60 5 * N 4 1 2) ≤ (N 0 60 10 * 100)) := fun h9 => c_56 ((nI_leI (a := (N 0 60 4 * N 0 60 5 * N 4 1 2)) (b := (N 0 60 10 * 100)) (by omega) (by omega)).mpr h9)
          refine lv_iconst (v := 4) hx hb dX3_brokenRule_60 (by decide) ?_
          exact W.iret (v := 4) hx hb hr (fun t ht hW => ⟨⟨4, (R, N), rfl, ⟨fun _ _ => rfl, hFr0, hM, fun h => absurd h (by decide)⟩, ⟨Nat.zero_le _, by rw [ht]; exact hP, va_K.moved hW.alike (hK.sub (tys' := []) [] rfl), hD⟩⟩, hS.F ht⟩) hS.2.2 dX3_brokenRule_61
      · have h_b := True.intro
        refine lv_iconst (v := 3) hx hb dX3_brokenRule_33 (by decide) ?_
        exact W.iret (v := 3) hx hb hr (fun t ht hW => ⟨⟨3, (R, N), rfl, ⟨fun _ _ => rfl, hFr0, hM, fun h => absurd h (by decide)⟩, ⟨Nat.zero_le _, by rw [ht]; exact hP, va_K.moved hW.alike (hK.sub (tys' := []) [] rfl), hD⟩⟩, hS.F ht⟩) hS.2.2 dX3_brokenRule_34
  · have h_b := True.intro
    have k_99 : ¬ ((N 0 60 9) ≤ (N 4 1 1)) := fun h9 => c_1 ((nI_leI (a := (N 0 60 9)) (b := (N 4 1 1)) (by omega) (by omega)).mpr h9)
    refine lv_iconst (v := 2) hx hb dX3_brokenRule_14 (by decide) ?_
    exact W.iret (v := 2) hx hb hr (fun t ht hW => ⟨⟨2, (R, N), rfl, ⟨fun _ _ => rfl, hFr0, hM, fun h => absurd h (by decide)⟩, ⟨Nat.zero_le _, by rw [ht]; exact hP, va_K.moved hW.alike (hK.sub (tys' := []) [] rfl), hD⟩⟩, hS.F ht⟩) hS.2.2 dX3_brokenRule_15
end
section
set_option maxHeartbeats 4000000 in
set_option maxRecDepth 100000 in
theorem c_best (l : Launch) (D : zG) (sz : Nat) (B : qB) (R : qR0) (N : qN0) (hO : qOK B N) (hM : qM N) (S : Nat → Nat → Nat) (hG : qGeo N) (hSu : qSup B R N S) (hKi : qKin B N) (hRu : qRul N) (k : Nat) (hk : k < qk B) : Met l yX3_bestPlace wsX3_bestPlace ({ frames := 4, cells := 0, slots := 0, locals := 100 }) (zPc D (qT B) (qG B R N) sz [.ref (qA B 5 0), .ref (qA B 3 k)]) (va_Qi (fun (r : Int32) (u : qR0 × qN0) => (r = -1 ∨ ∃ p, r = nI p ∧ qPl N S k p) ∧ (∀ i, i ≠ 60 → u.1 i = R i) ∧ qFR N u.2 ∧ qM u.2) (zB D (va_A (qG B R N) sz) (fun _ => []) 0 (fun u => qG B u.1 u.2)) (va_A (qG B R N) sz)) 0 0 (va_A (qG B R N) sz) := by
  refine Met.ofW (cc := cX3_bestPlace) (maxL := 7) (ret := (some .int)) (by decide) rfl ?_
  intro p e s m args below meth c s₁ B9 hml hv
  obtain ⟨rfl, hsz, hP, hK, hD0⟩ := hv
  have hx0 := B9.exec
  have hb := B9.bytes
  have hr := B9.returns
  have hts := atoms_spec (ws := wsX3_bestPlace) B9.pre
  have hown : s.vm.findClass RX3 = some m.cls := findClass_of_methodNamed B9.named
  have hlocks := B9.notSynchronized
  subst hsz
  have hD := hD0.self (sz := s.heap.size)
  generalize hAe : va_A (qG B R N) s.heap.size = A at hD ⊢
  have hA : ∀ q : Nat, s.heap.size ≤ q → A q := fun q h => by rw [← hAe]; exact Or.inr h
  have hS : va_S A s.heap s.heap [] := va_S.rf
  have hl := lv_entry ([.ref (qA B 5 0), .ref (qA B 3 k)]) (n := 7) (Nat.le_of_ble_eq_true rfl)
  rw [lg_entry_eq]
  generalize (lg_sl ([.ref (qA B 5 0), .ref (qA B 3 k)]) ++ List.replicate (7 - (lg_sl ([.ref (qA B 5 0), .ref (qA B 3 k)])).length) Slot.unset).toArray = ls at hl ⊢
  have hl : lv_has ls 7 [(0, .ref (qA B 5 0)), (1, .ref (qA B 3 k))] := hl
  have hP : va_P D vwCl (qG B R N) s.heap := hP
  generalize hRe : (headSpec _ _).room = R9
  have hRf : R9.frames = 4 := by rw [← hRe]; rfl
  have hRc : R9.cells = 0 := by rw [← hRe]; rfl
  have hRs : R9.slots = 0 := by rw [← hRe]; rfl
  have hRl : R9.locals = 100 := by rw [← hRe]; rfl
  clear hRe
  have o8 := hO.2.2.2.2.2.2.2.1
  refine lv_iconst (v := (-1)) hx0 hb dX3_bestPlace_0 (by decide) ?_
  refine lv_istore_n (lv' := [(2, .int (-1)), (0, .ref (qA B 5 0)), (1, .ref (qA B 3 k))]) hx0 hb dX3_bestPlace_1 rfl hl (by decide) rfl (fun ls hl => ?_)
  refine lv_iconst (v := 0) hx0 hb dX3_bestPlace_2 (by decide) ?_
  refine lv_istore_n (lv' := [(3, .int 0), (2, .int (-1)), (0, .ref (qA B 5 0)), (1, .ref (qA B 3 k))]) hx0 hb dX3_bestPlace_3 rfl hl (by decide) rfl (fun ls hl => ?_)
  refine lv_iconst (v := 0) hx0 hb dX3_bestPlace_4 (by decide) ?_
  refine lv_istore (lv' := [(4, .int 0), (3, .int 0), (2, .int (-1)), (0, .ref (qA B 5 0)), (1, .ref (qA B 3 k))]) hx0 hb dX3_bestPlace_5 hl (by decide) rfl (fun ls hl => ?_)
  refine lv_iconst (v := 0) hx0 hb dX3_bestPlace_7 (by decide) ?_
  refine lv_istore (lv' := [(5, .int 0), (4, .int 0), (3, .int 0), (2, .int (-1)), (0, .ref (qA B 5 0)), (1, .ref (qA B 3 k))]) hx0 hb dX3_bestPlace_8 hl (by decide) rfl (fun ls hl => ?_)
  generalize hQe : MQ _ _ _ _ _ _ _ = Q
  have hl := lv_sub hl (l' := [(5, .int 0), (4, .int 0), (3, .int 0), (2, .int (-1)), (1, .ref (qA B 3 k)), (0, .ref (qA B 5 0))]) [0, 1, 2, 3, 5, 4] rfl
  have loop : ∀ (r9 c1 : Nat), c1 + r9 = 240 → ∀ (pl : Int32) (lb mg : Nat) (hb1 : lb ≤ 1000000) (hb2 : mg ≤ 1000000) (hpl : pl = -1 ∨ ∃ p, pl = nI p ∧ qPl N S k p) (R1 : qR0) (N1 : qN0) (hR1 : ∀ i, i ≠ 60 → R1 i = R i) (hF1 : qFR N N1) (hM1 : qM N1) (H : Heap) (locs : List Loc) (ls : Array Slot), va_P D vwCl (qG B R1 N1) H → va_D A (qG B R1 N1) → va_S A s.heap H locs → lv_has ls 7 [(5, .int (nI c1)), (4, .int (nI mg)), (3, .int (nI lb)), (2, .int pl), (1, .ref (qA B 3 k)), (0, .ref (qA B 5 0))] → W p l e R9 s m ([.ref (qA B 5 0), .ref (qA B 3 k)] : List Value).toArray below meth c H locs 0 0 Q (F0 m 10 ls []) := by
    intro r9
    induction r9 with
    | zero =>
      intro c1 hc pl lb mg hb1 hb2 hpl R1 N1 hR1 hF1 hM1 H locs ls hP hD hS hl
      obtain rfl : c1 = 240 := by omega
      have hP : va_P D vwCl (qG B R1 N1) H := hP
      have hD : va_D A (qG B R1 N1) := hD
      refine lv_iload hx0 hb dX3_bestPlace_10 (lv_at hl 0 rfl) ?_
      refine lv_sipush (v := 240) hx0 hb dX3_bestPlace_12 (by decide) ?_
      refine lv_icmp_ge (tgt := 154) hx0 hb dX3_bestPlace_15 (by decide) (fun c_1 => ?_) (fun c_1 => absurd (by decide) c_1)
      refine lv_iload_n hx0 hb dX3_bestPlace_154 rfl (lv_at hl 3 rfl) ?_
      rw [← hQe]
      exact W.iret (v := pl) hx0 hb hr (fun t ht hW => ⟨⟨pl, (R1, N1), rfl, ⟨hpl, hR1, hF1, hM1⟩, ⟨Nat.zero_le _, by rw [ht]; exact hP, va_K.moved hW.alike (hK.sub (tys' := []) [] rfl), hD⟩⟩, hS.F ht⟩) hS.2.2 dX3_bestPlace_155
    | succ r9 ih =>
      intro c1 hc pl lb mg hb1 hb2 hpl R1 N1 hR1 hF1 hM1 H locs ls hP hD hS hl
      have hc2 : c1 < 240 := by omega
      obtain ⟨x, hx⟩ : ∃ x, x = c1 / 2 % 12 := ⟨_, rfl⟩
      obtain ⟨y, hy⟩ : ∃ y, y = c1 / 2 / 12 := ⟨_, rfl⟩
      obtain ⟨t, ht⟩ : ∃ t, t = c1 % 2 := ⟨_, rfl⟩
      have hx1 : x < 12 := by rw [hx]; exact Nat.mod_lt _ (by decide)
      have hy1 : y < 10 := by omega
      have ht1 : t < 2 := by omega
      have o8a : N1 4 1 5 ≤ 60 := by rw [hF1 4 1 5 (by omega) (by omega) (by omega)]; exact o8
      have hO1 := qOK_fr hF1 hO
      have hG1 := qGeo_fr hF1 o8 hG
      have hSu1 := qSup_fr hF1 hR1 o8 hSu
      have hKi1 := qKin_fr hF1 hKi
      have hRu1 := qRul_fr hF1 hRu
      obtain ⟨kk0, kk1, kk2, kk3, kk4, kk5, kk6, kk7⟩ := hKi1 k hk
      have hwd := qwd_bd hKi1 hk t
      have hP : va_P D vwCl (qG B R1 N1) H := hP
      have hD : va_D A (qG B R1 N1) := hD
      refine lv_iload hx0 hb dX3_bestPlace_10 (lv_at hl 0 rfl) ?_
      refine lv_sipush (v := 240) hx0 hb dX3_bestPlace_12 (by decide) ?_
      refine lv_icmp_ge (tgt := 154) hx0 hb dX3_bestPlace_15 (by decide) (fun c_2 => absurd c_2 (nI_ge (b := 240) (by omega) (by decide))) (fun c_2 => ?_)
      refine lv_aload_n hx0 hb dX3_bestPlace_18 rfl (lv_at hl 4 rfl) ?_
      refine lv_iload hx0 hb dX3_bestPlace_19 (lv_at hl 0 rfl) ?_
      refine zrdS (As := [.int (nI c1)]) (rest := [.ref (qA B 3 k)]) (wc := []) ⟨hx0, hb, hml, hown, hts⟩ (c_xOf l D _ c1 hc2) (va_cwS 1 hts gX3_bestPlace_X3_xOf rfl rfl rfl (by decide +kernel) ⟨by rw [hRf]; exact Nat.le_of_ble_eq_true rfl, by rw [hRl]; exact Nat.le_of_ble_eq_true rfl⟩) hK hP hD [] rfl (by decide) [] rfl rfl hl.1 rfl (Nat.le_of_ble_eq_true rfl) dX3_bestPlace_21 ⟨by omega, by omega⟩ (fun r_3 hr_3 => ?_)
      refine lv_topi (fun v_4 ev_4 => ?_)
      obtain rfl : v_4 = (nI x) := ev_4.trans (hr_3.trans (by rw [hx]))
      refine lv_iload hx0 hb dX3_bestPlace_24 (lv_at hl 0 rfl) ?_
      refine zrdS (As := [.int (nI c1)]) (rest := [.int (nI x), .ref (qA B 3 k)]) (wc := []) ⟨hx0, hb, hml, hown, hts⟩ (c_yOf l D _ c1 hc2) (va_cwS 1 hts gX3_bestPlace_X3_yOf rfl rfl rfl (by decide +kernel) ⟨by rw [hRf]; exact Nat.le_of_ble_eq_true rfl, by rw [hRl]; exact Nat.le_of_ble_eq_true rfl⟩) hK hP hD [] rfl (by decide) [] rfl rfl hl.1 rfl (Nat.le_of_ble_eq_true rfl) dX3_bestPlace_26 ⟨by omega, by omega⟩ (fun r_5 hr_5 => ?_)
      refine lv_topi (fun v_6 ev_6 => ?_)
      obtain rfl : v_6 = (nI y) := ev_6.trans (hr_5.trans (by rw [hy]))
      refine lv_iload hx0 hb dX3_bestPlace_29 (lv_at hl 0 rfl) ?_
      refine zrdS (As := [.int (nI c1)]) (rest := [.int (nI y), .int (nI x), .ref (qA B 3 k)]) (wc := []) ⟨hx0, hb, hml, hown, hts⟩ (c_isTurnedIn l D _ c1 hc2) (va_cwS 1 hts gX3_bestPlace_X3_isTurnedIn rfl rfl rfl (by decide +kernel) ⟨by rw [hRf]; exact Nat.le_of_ble_eq_true rfl, by rw [hRl]; exact Nat.le_of_ble_eq_true rfl⟩) hK hP hD [] rfl (by decide) [] rfl rfl hl.1 rfl (Nat.le_of_ble_eq_true rfl) dX3_bestPlace_31 ⟨by omega, by omega⟩ (fun r_7 hr_7 => ?_)
      refine lv_topi (fun v_8 ev_8 => ?_)
      obtain rfl : v_8 = (nI t) := ev_8.trans (hr_7.trans (by rw [ht]))
      refine zrdS2 (As := [.ref (qA B 3 k), .int (nI x), .int (nI y), .int (nI t)]) (rest := []) (wc := qG B R1 N1) ⟨hx0, hb, hml, hown, hts⟩ (c_isInField l D _ B R1 N1 k x y t hk ht1 hx1 hy1 ⟨kk1.2, kk2.2, kk6⟩) (va_cwS 4 hts gX3_bestPlace_X3_isInField rfl rfl rfl (by decide +kernel) ⟨by rw [hRf]; exact Nat.le_of_ble_eq_true rfl, by rw [hRl]; exact Nat.le_of_ble_eq_true rfl⟩) hK hP hD [0, 1, 2, 3] rfl rfl hl.1 rfl (Nat.le_of_ble_eq_true rfl) dX3_bestPlace_34 ⟨by omega, by omega⟩ (fun r_9 hr_9 => ?_)
      rcases hr_9 with h0 | ⟨h1, ft, fx, fy⟩
      · have h_b := True.intro
        subst h0
        refine lv_if_ne (tgt := 43) hx0 hb dX3_bestPlace_37 (by decide) (fun c_10 => absurd (rfl) c_10) (fun c_10 => ?_)
        refine lv_goto (tgt := 148) hx0 hb dX3_bestPlace_40 (by decide) ?_
        refine lv_iinc (v := (nI (c1 + 1))) (lv' := [(5, .int (nI (c1 + 1))), (4, .int (nI mg)), (3, .int (nI lb)), (2, .int pl), (1, .ref (qA B 3 k)), (0, .ref (qA B 5 0))]) hx0 hb dX3_bestPlace_148 hl (k := 0) rfl (nI_1 c1) (by decide) rfl (fun ls hl => ?_)
        refine lv_goto (tgt := 10) hx0 hb dX3_bestPlace_151 (by decide) ?_
        have hl := lv_sub hl (l' := [(5, .int (nI (c1 + 1))), (4, .int (nI mg)), (3, .int (nI lb)), (2, .int pl), (1, .ref (qA B 3 k)), (0, .ref (qA B 5 0))]) [0, 1, 2, 3, 4, 5] rfl
        exact ih (c1 + 1) (by omega) pl lb mg hb1 hb2 hpl R1 N1 hR1 hF1 hM1 H locs ls hP hD hS hl
      · have h_b := True.intro
        subst h1
        refine lv_if_ne (tgt := 43) hx0 hb dX3_bestPlace_37 (by decide) (fun c_11 => ?_) (fun c_11 => absurd c_11 (by decide))
        refine lv_aload_n hx0 hb dX3_bestPlace_43 rfl (lv_at hl 5 rfl) ?_
        refine lv_aload_n hx0 hb dX3_bestPlace_44 rfl (lv_at hl 4 rfl) ?_
        refine lv_iload hx0 hb dX3_bestPlace_45 (lv_at hl 0 rfl) ?_
        refine zrdS (As := [.int (nI c1)]) (rest := [.ref (qA B 3 k), .ref (qA B 5 0)]) (wc := []) ⟨hx0, hb, hml, hown, hts⟩ (c_xOf l D _ c1 hc2) (va_cwS 1 hts gX3_bestPlace_X3_xOf rfl rfl rfl (by decide +kernel) ⟨by rw [hRf]; exact Nat.le_of_ble_eq_true rfl, by rw [hRl]; exact Nat.le_of_ble_eq_true rfl⟩) hK hP hD [] rfl (by decide) [] rfl rfl hl.1 rfl (Nat.le_of_ble_eq_true rfl) dX3_bestPlace_47 ⟨by omega, by omega⟩ (fun r_12 hr_12 => ?_)
        refine lv_topi (fun v_13 ev_13 => ?_)
        obtain rfl : v_13 = (nI x) := ev_13.trans (hr_12.trans (by rw [hx]))
        refine lv_iload hx0 hb dX3_bestPlace_50 (lv_at hl 0 rfl) ?_
        refine zrdS (As := [.int (nI c1)]) (rest := [.int (nI x), .ref (qA B 3 k), .ref (qA B 5 0)]) (wc := []) ⟨hx0, hb, hml, hown, hts⟩ (c_yOf l D _ c1 hc2) (va_cwS 1 hts gX3_bestPlace_X3_yOf rfl rfl rfl (by decide +kernel) ⟨by rw [hRf]; exact Nat.le_of_ble_eq_true rfl, by rw [hRl]; exact Nat.le_of_ble_eq_true rfl⟩) hK hP hD [] rfl (by decide) [] rfl rfl hl.1 rfl (Nat.le_of_ble_eq_true rfl) dX3_bestPlace_52 ⟨by omega, by omega⟩ (fun r_14 hr_14 => ?_)
        refine lv_topi (fun v_15 ev_15 => ?_)
        obtain rfl : v_15 = (nI y) := ev_15.trans (hr_14.trans (by rw [hy]))
        refine lv_iload hx0 hb dX3_bestPlace_55 (lv_at hl 0 rfl) ?_
        refine zrdS (As := [.int (nI c1)]) (rest := [.int (nI y), .int (nI x), .ref (qA B 3 k), .ref (qA B 5 0)]) (wc := []) ⟨hx0, hb, hml, hown, hts⟩ (c_isTurnedIn l D _ c1 hc2) (va_cwS 1 hts gX3_bestPlace_X3_isTurnedIn rfl rfl rfl (by decide +kernel) ⟨by rw [hRf]; exact Nat.le_of_ble_eq_true rfl, by rw [hRl]; exact Nat.le_of_ble_eq_true rfl⟩) hK hP hD [] rfl (by decide) [] rfl rfl hl.1 rfl (Nat.le_of_ble_eq_true rfl) dX3_bestPlace_57 ⟨by omega, by omega⟩ (fun r_16 hr_16 => ?_)
        refine lv_topi (fun v_17 ev_17 => ?_)
        obtain rfl : v_17 = (nI t) := ev_17.trans (hr_16.trans (by rw [ht]))
        refine qcallvV (As := [.ref (qA B 3 k), .int (nI x), .int (nI y), .int (nI t)]) (rest := []) (ws := qG B R1 N1) ⟨hx0, hb, hml, hown, hts⟩ (c_letDown l D _ B R1 N1 k x y t hk ht1 hM1 hwd.1.1 hwd.2.1 fx fy) (cwV 4 hts gX3_bestPlace_X3_letDown rfl rfl rfl (by decide +kernel) ⟨by rw [hRf]; exact Nat.le_of_ble_eq_true rfl, by rw [hRl]; exact Nat.le_of_ble_eq_true rfl⟩) hK hP hD hS hA [0, 1, 2, 3] rfl (ci := 3) (q0 := 0) rfl rfl rfl hl.1 rfl (Nat.le_of_ble_eq_true rfl) dX3_bestPlace_60 ⟨by omega, by omega⟩ (fun u_19 H locs hwu_19 hP hD hS => ?_)
        obtain ⟨N2, hN2⟩ : ∃ z, z = u_19 := ⟨_, rfl⟩
        rw [← hN2] at hP hD hwu_19
        have hP : va_P D vwCl (qG B R1 N2) H := hP
        have hD : va_D A (qG B R1 N2) := hD
        have hF2 : qFR N N2 := by rw [hwu_19]; exact hF1.tr (qFR_ld N1 k x y t)
        have hM2 : qM N2 := by rw [hwu_19]; exact qld_M hM1 hk hKi1 hRu1 hx1 hy1 ht1
        have hTr : qTr N2 := by rw [hwu_19]; exact qTr_ld hwd.1 hwd.2 fx fy
        have o8b : N2 4 1 5 ≤ 60 := by rw [hF2 4 1 5 (by omega) (by omega) (by omega)]; exact o8
        have hO2 := qOK_fr hF2 hO
        have hG2 := qGeo_fr hF2 o8 hG
        have hSu2 := qSup_fr hF2 hR1 o8 hSu
        have hKi2 := qKin_fr hF2 hKi
        have hRu2 := qRul_fr hF2 hRu
        have b8 := hM2 0 60 8
        have b10 := hM2 0 60 10
        have w1 : N2 0 60 1 ≤ 500 := by rw [hwu_19]; exact kk4.2
        have key : qAl N2 S k → qPl N S k c1 := fun hA => by
          have g := qld_fr hF1 k x y t
          rw [← hwu_19] at g
          have hA2 := qAl_fr (N := qld N k x y t) (by rw [qld_ne _ _ _ _ _ (by omega)]; exact o8) g hA
          rw [(qwd_fr hF1 k t).1] at fx
          rw [(qwd_fr hF1 k t).2] at fy
          rw [hF1 2 k 6 (by omega) (by omega) (by omega)] at ft
          rw [ht] at ft fx fy hA2
          rw [hx] at fx hA2
          rw [hy] at fy hA2
          exact ⟨hc2, ft, fx, fy, hA2⟩
        refine lv_iload_n hx0 hb dX3_bestPlace_63 rfl (lv_at hl 3 rfl) ?_
        refine lv_iconst (v := (-1)) hx0 hb dX3_bestPlace_64 (by decide) ?_
        refine lv_icmp_eq (tgt := 102) hx0 hb dX3_bestPlace_65 (by decide) (fun c_20 => ?_) (fun c_20 => ?_)
        · have h_b := True.intro
          refine lv_iconst (v := 1) hx0 hb dX3_bestPlace_102 (by decide) ?_
          refine lv_goto (tgt := 107) hx0 hb dX3_bestPlace_103 (by decide) ?_
          refine lv_istore (lv' := [(6, .int 1), (5, .int (nI c1)), (4, .int (nI mg)), (3, .int (nI lb)), (2, .int pl), (1, .ref (qA B 3 k)), (0, .ref (qA B 5 0))]) hx0 hb dX3_bestPlace_107 hl (by decide) rfl (fun ls hl => ?_)
          refine lv_iload hx0 hb dX3_bestPlace_109 (lv_at hl 0 rfl) ?_
          refine lv_if_eq (tgt := 148) hx0 hb dX3_bestPlace_111 (by decide) (fun c_21 => absurd c_21 (by decide)) (fun c_21 => ?_)
          refine lv_aload_n hx0 hb dX3_bestPlace_114 rfl (lv_at hl 6 rfl) ?_
          refine lv_aload_n hx0 hb dX3_bestPlace_115 rfl (lv_at hl 5 rfl) ?_
          refine qcalliV (As := [.ref (qA B 3 k)]) (rest := []) (ws := qG B R1 N2) ⟨hx0, hb, hml, hown, hts⟩ (c_broken l D _ B R1 N2 hO2 hM2 S k hk (hKi2 k hk).2.2.2.2.2.2.2 (qS9_of hG2 hSu2) ⟨hTr.1.1, hTr.1.2, hTr.2.1.1, hTr.2.1.2⟩ ⟨hTr.2.2.1, hTr.2.2.2.1⟩ (qtr_gr hTr) (Nat.le_trans w1 (by decide)) hRu2.2.1 (qtr_len hG2 hTr) (fun k9 _ => qcm_le hTr k9) (qLb o8b hG2 hSu2 hTr w1)) (cwV 1 hts gX3_bestPlace_X3_brokenRule rfl rfl rfl (by decide +kernel) ⟨by rw [hRf]; exact Nat.le_of_ble_eq_true rfl, by rw [hRl]; exact Nat.le_of_ble_eq_true rfl⟩) hK hP hD hS hA [0, 1, 2, 3] rfl (ci := 3) (q0 := 0) rfl rfl rfl hl.1 rfl (Nat.le_of_ble_eq_true rfl) dX3_bestPlace_116 ⟨by omega, by omega⟩ (fun r_22 u_23 H locs hwu_23 hP hD hS => ?_)
          obtain ⟨R3, N3⟩ := u_23
          obtain ⟨v1, v2, v3, v4⟩ := hwu_23
          dsimp only at v1 v2 v3 v4 hP hD
          have hP : va_P D vwCl (qG B R3 N3) H := hP
          have hD : va_D A (qG B R3 N3) := hD
          have hR3 : ∀ i, i ≠ 60 → R3 i = R i := fun i hi => (v1 i hi).trans (hR1 i hi)
          have hF3 : qFR N N3 := hF2.tr (qFR_of v2)
          have c8 := v3 0 60 8
          have c10 := v3 0 60 10
          refine lv_if_ne (tgt := 148) hx0 hb dX3_bestPlace_119 (by decide) (fun c_24 => ?_) (fun c_24 => ?_)
          · have h_b := True.intro
            refine lv_iinc (v := (nI (c1 + 1))) (lv' := [(5, .int (nI (c1 + 1))), (6, .int 1), (4, .int (nI mg)), (3, .int (nI lb)), (2, .int pl), (1, .ref (qA B 3 k)), (0, .ref (qA B 5 0))]) hx0 hb dX3_bestPlace_148 hl (k := 1) rfl (nI_1 c1) (by decide) rfl (fun ls hl => ?_)
            refine lv_goto (tgt := 10) hx0 hb dX3_bestPlace_151 (by decide) ?_
            have hl := lv_sub hl (l' := [(5, .int (nI (c1 + 1))), (4, .int (nI mg)), (3, .int (nI lb)), (2, .int pl), (1, .ref (qA B 3 k)), (0, .ref (qA B 5 0))]) [0, 2, 3, 4, 5, 6] rfl
            exact ih (c1 + 1) (by omega) pl lb mg hb1 hb2 hpl R3 N3 hR3 hF3 v3 H locs ls hP hD hS hl
          · have h_b := True.intro
            have r0 : r_22 = 0 := c_24
            have hP9 := key (v4 r0)
            refine lv_iload hx0 hb dX3_bestPlace_122 (lv_at hl 1 rfl) ?_
            refine lv_istore_n (lv' := [(2, .int (nI c1)), (6, .int 1), (5, .int (nI c1)), (4, .int (nI mg)), (3, .int (nI lb)), (1, .ref (qA B 3 k)), (0, .ref (qA B 5 0))]) hx0 hb dX3_bestPlace_124 rfl hl (by decide) rfl (fun ls hl => ?_)
            refine lv_aload_n hx0 hb dX3_bestPlace_125 rfl (lv_at hl 6 rfl) ?_
            refine va_get (D := D) (ci := 3) (v := .ref (qA B 0 60)) (C := RX3) (T := TX3) (N := 14) hx0 hb hts (fun _ h9 => List.mem_cons_of_mem _ (List.mem_append_left _ (List.mem_append_left _ (List.mem_append_right _ h9)))) hown hK hP 0 rfl rfl 11 (by decide) (hts (.fieldLink RX3 52 "PalletStack" "trial" "LPalletStack$Item;") (List.mem_of_getElem? (i := 1) (by rfl))) (fun _ h9 => h9) rfl dX3_bestPlace_126 ?_
            refine va_get (D := D) (ci := 0) (v := .int (nI (N3 0 60 8))) (C := RX0) (T := TX0) (N := 18) hx0 hb hts (fun _ h9 => List.mem_cons_of_mem _ (List.mem_append_left _ (List.mem_append_right _ h9))) hown hK hP (5 + 60) (qG_i (by omega)) rfl 8 (by decide) (hts (.fieldLink RX3 131 "PalletStack$Item" "bottom" "I") (List.mem_of_getElem? (i := 2) (by rfl))) (fun _ h9 => h9) rfl dX3_bestPlace_129 ?_
            refine lv_istore_n (lv' := [(3, .int (nI (N3 0 60 8))), (2, .int (nI c1)), (6, .int 1), (5, .int (nI c1)), (4, .int (nI mg)), (1, .ref (qA B 3 k)), (0, .ref (qA B 5 0))]) hx0 hb dX3_bestPlace_132 rfl hl (by decide) rfl (fun ls hl => ?_)
            refine lv_aload_n hx0 hb dX3_bestPlace_133 rfl (lv_at hl 6 rfl) ?_
            refine va_get (D := D) (ci := 3) (v := .ref (qA B 0 60)) (C := RX3) (T := TX3) (N := 14) hx0 hb hts (fun _ h9 => List.mem_cons_of_mem _ (List.mem_append_left _ (List.mem_append_left _ (List.mem_append_right _ h9)))) hown hK hP 0 rfl rfl 11 (by decide) (hts (.fieldLink RX3 52 "PalletStack" "trial" "LPalletStack$Item;") (List.mem_of_getElem? (i := 1) (by rfl))) (fun _ h9 => h9) rfl dX3_bestPlace_134 ?_
            refine va_get (D := D) (ci := 0) (v := .int (nI (N3 0 60 10))) (C := RX0) (T := TX0) (N := 18) hx0 hb hts (fun _ h9 => List.mem_cons_of_mem _ (List.mem_append_left _ (List.mem_append_right _ h9))) hown hK hP (5 + 60) (qG_i (by omega)) rfl 10 (by decide) (hts (.fieldLink RX3 214 "PalletStack$Item" "ground" "I") (List.mem_of_getElem? (i := 3) (by rfl))) (fun _ h9 => h9) rfl dX3_bestPlace_137 ?_
            refine lv_istore (lv' := [(4, .int (nI (N3 0 60 10))), (3, .int (nI (N3 0 60 8))), (2, .int (nI c1)), (6, .int 1), (5, .int (nI c1)), (1, .ref (qA B 3 k)), (0, .ref (qA B 5 0))]) hx0 hb dX3_bestPlace_140 hl (by decide) rfl (fun ls hl => ?_)
            refine lv_iload_n hx0 hb dX3_bestPlace_142 rfl (lv_at hl 1 rfl) ?_
            refine lv_if_ne (tgt := 148) hx0 hb dX3_bestPlace_143 (by decide) (fun c_25 => ?_) (fun c_25 => ?_)
            · have h_b := True.intro
              refine lv_iinc (v := (nI (c1 + 1))) (lv' := [(5, .int (nI (c1 + 1))), (4, .int (nI (N3 0 60 10))), (3, .int (nI (N3 0 60 8))), (2, .int (nI c1)), (6, .int 1), (1, .ref (qA B 3 k)), (0, .ref (qA B 5 0))]) hx0 hb dX3_bestPlace_148 hl (k := 4) rfl (nI_1 c1) (by decide) rfl (fun ls hl => ?_)
              refine lv_goto (tgt := 10) hx0 hb dX3_bestPlace_151 (by decide) ?_
              have hl := lv_sub hl (l' := [(5, .int (nI (c1 + 1))), (4, .int (nI (N3 0 60 10))), (3, .int (nI (N3 0 60 8))), (2, .int (nI c1)), (1, .ref (qA B 3 k)), (0, .ref (qA B 5 0))]) [0, 1, 2, 3, 5, 6] rfl
              exact ih (c1 + 1) (by omega) (nI c1) (N3 0 60 8) (N3 0 60 10) c8 c10 (Or.inr ⟨c1, rfl, hP9⟩) R3 N3 hR3 hF3 v3 H locs ls hP hD hS hl
            · have h_b := True.intro
              refine lv_iload_n hx0 hb dX3_bestPlace_146 rfl (lv_at hl 2 rfl) ?_
              rw [← hQe]
              exact W.iret (v := (nI c1)) hx0 hb hr (fun t ht hW => ⟨⟨(nI c1), (R3, N3), rfl, ⟨Or.inr ⟨c1, rfl, hP9⟩, hR3, hF3, v3⟩, ⟨Nat.zero_le _, by rw [ht]; exact hP, va_K.moved hW.alike (hK.sub (tys' := []) [] rfl), hD⟩⟩, hS.F ht⟩) hS.2.2 dX3_bestPlace_147
        · have h_b := True.intro
          refine lv_aload_n hx0 hb dX3_bestPlace_68 rfl (lv_at hl 5 rfl) ?_
          refine va_get (D := D) (ci := 3) (v := .ref (qA B 0 60)) (C := RX3) (T := TX3) (N := 14) hx0 hb hts (fun _ h9 => List.mem_cons_of_mem _ (List.mem_append_left _ (List.mem_append_left _ (List.mem_append_right _ h9)))) hown hK hP 0 rfl rfl 11 (by decide) (hts (.fieldLink RX3 52 "PalletStack" "trial" "LPalletStack$Item;") (List.mem_of_getElem? (i := 1) (by rfl))) (fun _ h9 => h9) rfl dX3_bestPlace_69 ?_
          refine va_get (D := D) (ci := 0) (v := .int (nI (N2 0 60 8))) (C := RX0) (T := TX0) (N := 18) hx0 hb hts (fun _ h9 => List.mem_cons_of_mem _ (List.mem_append_left _ (List.mem_append_right _ h9))) hown hK hP (5 + 60) (qG_i (by omega)) rfl 8 (by decide) (hts (.fieldLink RX3 131 "PalletStack$Item" "bottom" "I") (List.mem_of_getElem? (i := 2) (by rfl))) (fun _ h9 => h9) rfl dX3_bestPlace_72 ?_
          refine lv_iload_n hx0 hb dX3_bestPlace_75 rfl (lv_at hl 2 rfl) ?_
          refine lv_icmp_lt (tgt := 102) hx0 hb dX3_bestPlace_76 (by decide) (fun c_26 => ?_) (fun c_26 => ?_)
          · have h_b := True.intro
            refine lv_iconst (v := 1) hx0 hb dX3_bestPlace_102 (by decide) ?_
            refine lv_goto (tgt := 107) hx0 hb dX3_bestPlace_103 (by decide) ?_
            refine lv_istore (lv' := [(6, .int 1), (5, .int (nI c1)), (4, .int (nI mg)), (3, .int (nI lb)), (2, .int pl), (1, .ref (qA B 3 k)), (0, .ref (qA B 5 0))]) hx0 hb dX3_bestPlace_107 hl (by decide) rfl (fun ls hl => ?_)
            refine lv_iload hx0 hb dX3_bestPlace_109 (lv_at hl 0 rfl) ?_
            refine lv_if_eq (tgt := 148) hx0 hb dX3_bestPlace_111 (by decide) (fun c_27 => absurd c_27 (by decide)) (fun c_27 => ?_)
            refine lv_aload_n hx0 hb dX3_bestPlace_114 rfl (lv_at hl 6 rfl) ?_
            refine lv_aload_n hx0 hb dX3_bestPlace_115 rfl (lv_at hl 5 rfl) ?_
            refine qcalliV (As := [.ref (qA B 3 k)]) (rest := []) (ws := qG B R1 N2) ⟨hx0, hb, hml, hown, hts⟩ (c_broken l D _ B R1 N2 hO2 hM2 S k hk (hKi2 k hk).2.2.2.2.2.2.2 (qS9_of hG2 hSu2) ⟨hTr.1.1, hTr.1.2, hTr.2.1.1, hTr.2.1.2⟩ ⟨hTr.2.2.1, hTr.2.2.2.1⟩ (qtr_gr hTr) (Nat.le_trans w1 (by decide)) hRu2.2.1 (qtr_len hG2 hTr) (fun k9 _ => qcm_le hTr k9) (qLb o8b hG2 hSu2 hTr w1)) (cwV 1 hts gX3_bestPlace_X3_brokenRule rfl rfl rfl (by decide +kernel) ⟨by rw [hRf]; exact Nat.le_of_ble_eq_true rfl, by rw [hRl]; exact Nat.le_of_ble_eq_true rfl⟩) hK hP hD hS hA [0, 1, 2, 3] rfl (ci := 3) (q0 := 0) rfl rfl rfl hl.1 rfl (Nat.le_of_ble_eq_true rfl) dX3_bestPlace_116 ⟨by omega, by omega⟩ (fun r_28 u_29 H locs hwu_29 hP hD hS => ?_)
            obtain ⟨R3, N3⟩ := u_29
            obtain ⟨v1, v2, v3, v4⟩ := hwu_29
            dsimp only at v1 v2 v3 v4 hP hD
            have hP : va_P D vwCl (qG B R3 N3) H := hP
            have hD : va_D A (qG B R3 N3) := hD
            have hR3 : ∀ i, i ≠ 60 → R3 i = R i := fun i hi => (v1 i hi).trans (hR1 i hi)
            have hF3 : qFR N N3 := hF2.tr (qFR_of v2)
            have c8 := v3 0 60 8
            have c10 := v3 0 60 10
            refine lv_if_ne (tgt := 148) hx0 hb dX3_bestPlace_119 (by decide) (fun c_30 => ?_) (fun c_30 => ?_)
            · have h_b := True.intro
              refine lv_iinc (v := (nI (c1 + 1))) (lv' := [(5, .int (nI (c1 + 1))), (6, .int 1), (4, .int (nI mg)), (3, .int (nI lb)), (2, .int pl), (1, .ref (qA B 3 k)), (0, .ref (qA B 5 0))]) hx0 hb dX3_bestPlace_148 hl (k := 1) rfl (nI_1 c1) (by decide) rfl (fun ls hl => ?_)
              refine lv_goto (tgt := 10) hx0 hb dX3_bestPlace_151 (by decide) ?_
              have hl := lv_sub hl (l' := [(5, .int (nI (c1 + 1))), (4, .int (nI mg)), (3, .int (nI lb)), (2, .int pl), (1, .ref (qA B 3 k)), (0, .ref (qA B 5 0))]) [0, 2, 3, 4, 5, 6] rfl
              exact ih (c1 + 1) (by omega) pl lb mg hb1 hb2 hpl R3 N3 hR3 hF3 v3 H locs ls hP hD hS hl
            · have h_b := True.intro
              have r0 : r_28 = 0 := c_30
              have hP9 := key (v4 r0)
              refine lv_iload hx0 hb dX3_bestPlace_122 (lv_at hl 1 rfl) ?_
              refine lv_istore_n (lv' := [(2, .int (nI c1)), (6, .int 1), (5, .int (nI c1)), (4, .int (nI mg)), (3, .int (nI lb)), (1, .ref (qA B 3 k)), (0, .ref (qA B 5 0))]) hx0 hb dX3_bestPlace_124 rfl hl (by decide) rfl (fun ls hl => ?_)
              refine lv_aload_n hx0 hb dX3_bestPlace_125 rfl (lv_at hl 6 rfl) ?_
              refine va_get (D := D) (ci := 3) (v := .ref (qA B 0 60)) (C := RX3) (T := TX3) (N := 14) hx0 hb hts (fun _ h9 => List.mem_cons_of_mem _ (List.mem_append_left _ (List.mem_append_left _ (List.mem_append_right _ h9)))) hown hK hP 0 rfl rfl 11 (by decide) (hts (.fieldLink RX3 52 "PalletStack" "trial" "LPalletStack$Item;") (List.mem_of_getElem? (i := 1) (by rfl))) (fun _ h9 => h9) rfl dX3_bestPlace_126 ?_
              refine va_get (D := D) (ci := 0) (v := .int (nI (N3 0 60 8))) (C := RX0) (T := TX0) (N := 18) hx0 hb hts (fun _ h9 => List.mem_cons_of_mem _ (List.mem_append_left _ (List.mem_append_right _ h9))) hown hK hP (5 + 60) (qG_i (by omega)) rfl 8 (by decide) (hts (.fieldLink RX3 131 "PalletStack$Item" "bottom" "I") (List.mem_of_getElem? (i := 2) (by rfl))) (fun _ h9 => h9) rfl dX3_bestPlace_129 ?_
              refine lv_istore_n (lv' := [(3, .int (nI (N3 0 60 8))), (2, .int (nI c1)), (6, .int 1), (5, .int (nI c1)), (4, .int (nI mg)), (1, .ref (qA B 3 k)), (0, .ref (qA B 5 0))]) hx0 hb dX3_bestPlace_132 rfl hl (by decide) rfl (fun ls hl => ?_)
              refine lv_aload_n hx0 hb dX3_bestPlace_133 rfl (lv_at hl 6 rfl) ?_
              refine va_get (D := D) (ci := 3) (v := .ref (qA B 0 60)) (C := RX3) (T := TX3) (N := 14) hx0 hb hts (fun _ h9 => List.mem_cons_of_mem _ (List.mem_append_left _ (List.mem_append_left _ (List.mem_append_right _ h9)))) hown hK hP 0 rfl rfl 11 (by decide) (hts (.fieldLink RX3 52 "PalletStack" "trial" "LPalletStack$Item;") (List.mem_of_getElem? (i := 1) (by rfl))) (fun _ h9 => h9) rfl dX3_bestPlace_134 ?_
              refine va_get (D := D) (ci := 0) (v := .int (nI (N3 0 60 10))) (C := RX0) (T := TX0) (N := 18) hx0 hb hts (fun _ h9 => List.mem_cons_of_mem _ (List.mem_append_left _ (List.mem_append_right _ h9))) hown hK hP (5 + 60) (qG_i (by omega)) rfl 10 (by decide) (hts (.fieldLink RX3 214 "PalletStack$Item" "ground" "I") (List.mem_of_getElem? (i := 3) (by rfl))) (fun _ h9 => h9) rfl dX3_bestPlace_137 ?_
              refine lv_istore (lv' := [(4, .int (nI (N3 0 60 10))), (3, .int (nI (N3 0 60 8))), (2, .int (nI c1)), (6, .int 1), (5, .int (nI c1)), (1, .ref (qA B 3 k)), (0, .ref (qA B 5 0))]) hx0 hb dX3_bestPlace_140 hl (by decide) rfl (fun ls hl => ?_)
              refine lv_iload_n hx0 hb dX3_bestPlace_142 rfl (lv_at hl 1 rfl) ?_
              refine lv_if_ne (tgt := 148) hx0 hb dX3_bestPlace_143 (by decide) (fun c_31 => ?_) (fun c_31 => ?_)
              · have h_b := True.intro
                refine lv_iinc (v := (nI (c1 + 1))) (lv' := [(5, .int (nI (c1 + 1))), (4, .int (nI (N3 0 60 10))), (3, .int (nI (N3 0 60 8))), (2, .int (nI c1)), (6, .int 1), (1, .ref (qA B 3 k)), (0, .ref (qA B 5 0))]) hx0 hb dX3_bestPlace_148 hl (k := 4) rfl (nI_1 c1) (by decide) rfl (fun ls hl => ?_)
                refine lv_goto (tgt := 10) hx0 hb dX3_bestPlace_151 (by decide) ?_
                have hl := lv_sub hl (l' := [(5, .int (nI (c1 + 1))), (4, .int (nI (N3 0 60 10))), (3, .int (nI (N3 0 60 8))), (2, .int (nI c1)), (1, .ref (qA B 3 k)), (0, .ref (qA B 5 0))]) [0, 1, 2, 3, 5, 6] rfl
                exact ih (c1 + 1) (by omega) (nI c1) (N3 0 60 8) (N3 0 60 10) c8 c10 (Or.inr ⟨c1, rfl, hP9⟩) R3 N3 hR3 hF3 v3 H locs ls hP hD hS hl
              · have h_b := True.intro
                refine lv_iload_n hx0 hb dX3_bestPlace_146 rfl (lv_at hl 2 rfl) ?_
                rw [← hQe]
                exact W.iret (v := (nI c1)) hx0 hb hr (fun t ht hW => ⟨⟨(nI c1), (R3, N3), rfl, ⟨Or.inr ⟨c1, rfl, hP9⟩, hR3, hF3, v3⟩, ⟨Nat.zero_le _, by rw [ht]; exact hP, va_K.moved hW.alike (hK.sub (tys' := []) [] rfl), hD⟩⟩, hS.F ht⟩) hS.2.2 dX3_bestPlace_147
          · have h_b := True.intro
            refine lv_aload_n hx0 hb dX3_bestPlace_79 rfl (lv_at hl 5 rfl) ?_
            refine va_get (D := D) (ci := 3) (v := .ref (qA B 0 60)) (C := RX3) (T := TX3) (N := 14) hx0 hb hts (fun _ h9 => List.mem_cons_of_mem _ (List.mem_append_left _ (List.mem_append_left _ (List.mem_append_right _ h9)))) hown hK hP 0 rfl rfl 11 (by decide) (hts (.fieldLink RX3 52 "PalletStack" "trial" "LPalletStack$Item;") (List.mem_of_getElem? (i := 1) (by rfl))) (fun _ h9 => h9) rfl dX3_bestPlace_80 ?_
            refine va_get (D := D) (ci := 0) (v := .int (nI (N2 0 60 8))) (C := RX0) (T := TX0) (N := 18) hx0 hb hts (fun _ h9 => List.mem_cons_of_mem _ (List.mem_append_left _ (List.mem_append_right _ h9))) hown hK hP (5 + 60) (qG_i (by omega)) rfl 8 (by decide) (hts (.fieldLink RX3 131 "PalletStack$Item" "bottom" "I") (List.mem_of_getElem? (i := 2) (by rfl))) (fun _ h9 => h9) rfl dX3_bestPlace_83 ?_
            refine lv_iload_n hx0 hb dX3_bestPlace_86 rfl (lv_at hl 2 rfl) ?_
            refine lv_icmp_ne (tgt := 106) hx0 hb dX3_bestPlace_87 (by decide) (fun c_32 => ?_) (fun c_32 => ?_)
            · have h_b := True.intro
              refine lv_iconst (v := 0) hx0 hb dX3_bestPlace_106 (by decide) ?_
              refine lv_istore (lv' := [(6, .int 0), (5, .int (nI c1)), (4, .int (nI mg)), (3, .int (nI lb)), (2, .int pl), (1, .ref (qA B 3 k)), (0, .ref (qA B 5 0))]) hx0 hb dX3_bestPlace_107 hl (by decide) rfl (fun ls hl => ?_)
              refine lv_iload hx0 hb dX3_bestPlace_109 (lv_at hl 0 rfl) ?_
              refine lv_if_eq (tgt := 148) hx0 hb dX3_bestPlace_111 (by decide) (fun c_33 => ?_) (fun c_33 => absurd (rfl) c_33)
              refine lv_iinc (v := (nI (c1 + 1))) (lv' := [(5, .int (nI (c1 + 1))), (6, .int 0), (4, .int (nI mg)), (3, .int (nI lb)), (2, .int pl), (1, .ref (qA B 3 k)), (0, .ref (qA B 5 0))]) hx0 hb dX3_bestPlace_148 hl (k := 1) rfl (nI_1 c1) (by decide) rfl (fun ls hl => ?_)
              refine lv_goto (tgt := 10) hx0 hb dX3_bestPlace_151 (by decide) ?_
              have hl := lv_sub hl (l' := [(5, .int (nI (c1 + 1))), (4, .int (nI mg)), (3, .int (nI lb)), (2, .int pl), (1, .ref (qA B 3 k)), (0, .ref (qA B 5 0))]) [0, 2, 3, 4, 5, 6] rfl
              exact ih (c1 + 1) (by omega) pl lb mg hb1 hb2 hpl R1 N2 hR1 hF2 hM2 H locs ls hP hD hS hl
            · have h_b := True.intro
              refine lv_aload_n hx0 hb dX3_bestPlace_90 rfl (lv_at hl 5 rfl) ?_
              refine va_get (D := D) (ci := 3) (v := .ref (qA B 0 60)) (C := RX3) (T := TX3) (N := 14) hx0 hb hts (fun _ h9 => List.mem_cons_of_mem _ (List.mem_append_left _ (List.mem_append_left _ (List.mem_append_right _ h9)))) hown hK hP 0 rfl rfl 11 (by decide) (hts (.fieldLink RX3 52 "PalletStack" "trial" "LPalletStack$Item;") (List.mem_of_getElem? (i := 1) (by rfl))) (fun _ h9 => h9) rfl dX3_bestPlace_91 ?_
              refine va_get (D := D) (ci := 0) (v := .int (nI (N2 0 60 10))) (C := RX0) (T := TX0) (N := 18) hx0 hb hts (fun _ h9 => List.mem_cons_of_mem _ (List.mem_append_left _ (List.mem_append_right _ h9))) hown hK hP (5 + 60) (qG_i (by omega)) rfl 10 (by decide) (hts (.fieldLink RX3 214 "PalletStack$Item" "ground" "I") (List.mem_of_getElem? (i := 3) (by rfl))) (fun _ h9 => h9) rfl dX3_bestPlace_94 ?_
              refine lv_iload hx0 hb dX3_bestPlace_97 (lv_at hl 1 rfl) ?_
              refine lv_icmp_le (tgt := 106) hx0 hb dX3_bestPlace_99 (by decide) (fun c_34 => ?_) (fun c_34 => ?_)
              · have h_b := True.intro
                refine lv_iconst (v := 0) hx0 hb dX3_bestPlace_106 (by decide) ?_
                refine lv_istore (lv' := [(6, .int 0), (5, .int (nI c1)), (4, .int (nI mg)), (3, .int (nI lb)), (2, .int pl), (1, .ref (qA B 3 k)), (0, .ref (qA B 5 0))]) hx0 hb dX3_bestPlace_107 hl (by decide) rfl (fun ls hl => ?_)
                refine lv_iload hx0 hb dX3_bestPlace_109 (lv_at hl 0 rfl) ?_
                refine lv_if_eq (tgt := 148) hx0 hb dX3_bestPlace_111 (by decide) (fun c_35 => ?_) (fun c_35 => absurd (rfl) c_35)
                refine lv_iinc (v := (nI (c1 + 1))) (lv' := [(5, .int (nI (c1 + 1))), (6, .int 0), (4, .int (nI mg)), (3, .int (nI lb)), (2, .int pl), (1, .ref (qA B 3 k)), (0, .ref (qA B 5 0))]) hx0 hb dX3_bestPlace_148 hl (k := 1) rfl (nI_1 c1) (by decide) rfl (fun ls hl => ?_)
                refine lv_goto (tgt := 10) hx0 hb dX3_bestPlace_151 (by decide) ?_
                have hl := lv_sub hl (l' := [(5, .int (nI (c1 + 1))), (4, .int (nI mg)), (3, .int (nI lb)), (2, .int pl), (1, .ref (qA B 3 k)), (0, .ref (qA B 5 0))]) [0, 2, 3, 4, 5, 6] rfl
                exact ih (c1 + 1) (by omega) pl lb mg hb1 hb2 hpl R1 N2 hR1 hF2 hM2 H locs ls hP hD hS hl
              · have h_b := True.intro
                refine lv_iconst (v := 1) hx0 hb dX3_bestPlace_102 (by decide) ?_
                refine lv_goto (tgt := 107) hx0 hb dX3_bestPlace_103 (by decide) ?_
                refine lv_istore (lv' := [(6, .int 1), (5, .int (nI c1)), (4, .int (nI mg)), (3, .int (nI lb)), (2, .int pl), (1, .ref (qA B 3 k)), (0, .ref (qA B 5 0))]) hx0 hb dX3_bestPlace_107 hl (by decide) rfl (fun ls hl => ?_)
                refine lv_iload hx0 hb dX3_bestPlace_109 (lv_at hl 0 rfl) ?_
                refine lv_if_eq (tgt := 148) hx0 hb dX3_bestPlace_111 (by decide) (fun c_36 => absurd c_36 (by decide)) (fun c_36 => ?_)
                refine lv_aload_n hx0 hb dX3_bestPlace_114 rfl (lv_at hl 6 rfl) ?_
                refine lv_aload_n hx0 hb dX3_bestPlace_115 rfl (lv_at hl 5 rfl) ?_
                refine qcalliV (As := [.ref (qA B 3 k)]) (rest := []) (ws := qG B R1 N2) ⟨hx0, hb, hml, hown, hts⟩ (c_broken l D _ B R1 N2 hO2 hM2 S k hk (hKi2 k hk).2.2.2.2.2.2.2 (qS9_of hG2 hSu2) ⟨hTr.1.1, hTr.1.2, hTr.2.1.1, hTr.2.1.2⟩ ⟨hTr.2.2.1, hTr.2.2.2.1⟩ (qtr_gr hTr) (Nat.le_trans w1 (by decide)) hRu2.2.1 (qtr_len hG2 hTr) (fun k9 _ => qcm_le hTr k9) (qLb o8b hG2 hSu2 hTr w1)) (cwV 1 hts gX3_bestPlace_X3_brokenRule rfl rfl rfl (by decide +kernel) ⟨by rw [hRf]; exact Nat.le_of_ble_eq_true rfl, by rw [hRl]; exact Nat.le_of_ble_eq_true rfl⟩) hK hP hD hS hA [0, 1, 2, 3] rfl (ci := 3) (q0 := 0) rfl rfl rfl hl.1 rfl (Nat.le_of_ble_eq_true rfl) dX3_bestPlace_116 ⟨by omega, by omega⟩ (fun r_37 u_38 H locs hwu_38 hP hD hS => ?_)
                obtain ⟨R3, N3⟩ := u_38
                obtain ⟨v1, v2, v3, v4⟩ := hwu_38
                dsimp only at v1 v2 v3 v4 hP hD
                have hP : va_P D vwCl (qG B R3 N3) H := hP
                have hD : va_D A (qG B R3 N3) := hD
                have hR3 : ∀ i, i ≠ 60 → R3 i = R i := fun i hi => (v1 i hi).trans (hR1 i hi)
                have hF3 : qFR N N3 := hF2.tr (qFR_of v2)
                have c8 := v3 0 60 8
                have c10 := v3 0 60 10
                refine lv_if_ne (tgt := 148) hx0 hb dX3_bestPlace_119 (by decide) (fun c_39 => ?_) (fun c_39 => ?_)
                · have h_b := True.intro
                  refine lv_iinc (v := (nI (c1 + 1))) (lv' := [(5, .int (nI (c1 + 1))), (6, .int 1), (4, .int (nI mg)), (3, .int (nI lb)), (2, .int pl), (1, .ref (qA B 3 k)), (0, .ref (qA B 5 0))]) hx0 hb dX3_bestPlace_148 hl (k := 1) rfl (nI_1 c1) (by decide) rfl (fun ls hl => ?_)
                  refine lv_goto (tgt := 10) hx0 hb dX3_bestPlace_151 (by decide) ?_
                  have hl := lv_sub hl (l' := [(5, .int (nI (c1 + 1))), (4, .int (nI mg)), (3, .int (nI lb)), (2, .int pl), (1, .ref (qA B 3 k)), (0, .ref (qA B 5 0))]) [0, 2, 3, 4, 5, 6] rfl
                  exact ih (c1 + 1) (by omega) pl lb mg hb1 hb2 hpl R3 N3 hR3 hF3 v3 H locs ls hP hD hS hl
                · have h_b := True.intro
                  have r0 : r_37 = 0 := c_39
                  have hP9 := key (v4 r0)
                  refine lv_iload hx0 hb dX3_bestPlace_122 (lv_at hl 1 rfl) ?_
                  refine lv_istore_n (lv' := [(2, .int (nI c1)), (6, .int 1), (5, .int (nI c1)), (4, .int (nI mg)), (3, .int (nI lb)), (1, .ref (qA B 3 k)), (0, .ref (qA B 5 0))]) hx0 hb dX3_bestPlace_124 rfl hl (by decide) rfl (fun ls hl => ?_)
                  refine lv_aload_n hx0 hb dX3_bestPlace_125 rfl (lv_at hl 6 rfl) ?_
                  refine va_get (D := D) (ci := 3) (v := .ref (qA B 0 60)) (C := RX3) (T := TX3) (N := 14) hx0 hb hts (fun _ h9 => List.mem_cons_of_mem _ (List.mem_append_left _ (List.mem_append_left _ (List.mem_append_right _ h9)))) hown hK hP 0 rfl rfl 11 (by decide) (hts (.fieldLink RX3 52 "PalletStack" "trial" "LPalletStack$Item;") (List.mem_of_getElem? (i := 1) (by rfl))) (fun _ h9 => h9) rfl dX3_bestPlace_126 ?_
                  refine va_get (D := D) (ci := 0) (v := .int (nI (N3 0 60 8))) (C := RX0) (T := TX0) (N := 18) hx0 hb hts (fun _ h9 => List.mem_cons_of_mem _ (List.mem_append_left _ (List.mem_append_right _ h9))) hown hK hP (5 + 60) (qG_i (by omega)) rfl 8 (by decide) (hts (.fieldLink RX3 131 "PalletStack$Item" "bottom" "I") (List.mem_of_getElem? (i := 2) (by rfl))) (fun _ h9 => h9) rfl dX3_bestPlace_129 ?_
                  refine lv_istore_n (lv' := [(3, .int (nI (N3 0 60 8))), (2, .int (nI c1)), (6, .int 1), (5, .int (nI c1)), (4, .int (nI mg)), (1, .ref (qA B 3 k)), (0, .ref (qA B 5 0))]) hx0 hb dX3_bestPlace_132 rfl hl (by decide) rfl (fun ls hl => ?_)
                  refine lv_aload_n hx0 hb dX3_bestPlace_133 rfl (lv_at hl 6 rfl) ?_
                  refine va_get (D := D) (ci := 3) (v := .ref (qA B 0 60)) (C := RX3) (T := TX3) (N := 14) hx0 hb hts (fun _ h9 => List.mem_cons_of_mem _ (List.mem_append_left _ (List.mem_append_left _ (List.mem_append_right _ h9)))) hown hK hP 0 rfl rfl 11 (by decide) (hts (.fieldLink RX3 52 "PalletStack" "trial" "LPalletStack$Item;") (List.mem_of_getElem? (i := 1) (by rfl))) (fun _ h9 => h9) rfl dX3_bestPlace_134 ?_
                  refine va_get (D := D) (ci := 0) (v := .int (nI (N3 0 60 10))) (C := RX0) (T := TX0) (N := 18) hx0 hb hts (fun _ h9 => List.mem_cons_of_mem _ (List.mem_append_left _ (List.mem_append_right _ h9))) hown hK hP (5 + 60) (qG_i (by omega)) rfl 10 (by decide) (hts (.fieldLink RX3 214 "PalletStack$Item" "ground" "I") (List.mem_of_getElem? (i := 3) (by rfl))) (fun _ h9 => h9) rfl dX3_bestPlace_137 ?_
                  refine lv_istore (lv' := [(4, .int (nI (N3 0 60 10))), (3, .int (nI (N3 0 60 8))), (2, .int (nI c1)), (6, .int 1), (5, .int (nI c1)), (1, .ref (qA B 3 k)), (0, .ref (qA B 5 0))]) hx0 hb dX3_bestPlace_140 hl (by decide) rfl (fun ls hl => ?_)
                  refine lv_iload_n hx0 hb dX3_bestPlace_142 rfl (lv_at hl 1 rfl) ?_
                  refine lv_if_ne (tgt := 148) hx0 hb dX3_bestPlace_143 (by decide) (fun c_40 => ?_) (fun c_40 => ?_)
                  · have h_b := True.intro
                    refine lv_iinc (v := (nI (c1 + 1))) (lv' := [(5, .int (nI (c1 + 1))), (4, .int (nI (N3 0 60 10))), (3, .int (nI (N3 0 60 8))), (2, .int (nI c1)), (6, .int 1), (1, .ref (qA B 3 k)), (0, .ref (qA B 5 0))]) hx0 hb dX3_bestPlace_148 hl (k := 4) rfl (nI_1 c1) (by decide) rfl (fun ls hl => ?_)
                    refine lv_goto (tgt := 10) hx0 hb dX3_bestPlace_151 (by decide) ?_
                    have hl := lv_sub hl (l' := [(5, .int (nI (c1 + 1))), (4, .int (nI (N3 0 60 10))), (3, .int (nI (N3 0 60 8))), (2, .int (nI c1)), (1, .ref (qA B 3 k)), (0, .ref (qA B 5 0))]) [0, 1, 2, 3, 5, 6] rfl
                    exact ih (c1 + 1) (by omega) (nI c1) (N3 0 60 8) (N3 0 60 10) c8 c10 (Or.inr ⟨c1, rfl, hP9⟩) R3 N3 hR3 hF3 v3 H locs ls hP hD hS hl
                  · have h_b := True.intro
                    refine lv_iload_n hx0 hb dX3_bestPlace_146 rfl (lv_at hl 2 rfl) ?_
                    rw [← hQe]
                    exact W.iret (v := (nI c1)) hx0 hb hr (fun t ht hW => ⟨⟨(nI c1), (R3, N3), rfl, ⟨Or.inr ⟨c1, rfl, hP9⟩, hR3, hF3, v3⟩, ⟨Nat.zero_le _, by rw [ht]; exact hP, va_K.moved hW.alike (hK.sub (tys' := []) [] rfl), hD⟩⟩, hS.F ht⟩) hS.2.2 dX3_bestPlace_147
  exact loop 240 0 (by omega) (-1) 0 0 (by decide) (by decide) (Or.inl rfl) R N (fun _ _ => rfl) (qFR_rf N) hM s.heap [] ls hP hD hS hl
end
section
set_option maxHeartbeats 4000000 in
set_option maxRecDepth 100000 in
theorem c_layTop (l : Launch) (D : zG) (sz : Nat) (B : qB) (R : qR0) (N : qN0) (hM : qM N) (i : Nat) (hi : i < 61) (hx9 : N 0 i 6 + N 0 i 4 ≤ 12) (hy9 : N 0 i 7 + N 0 i 5 ≤ 10) : Met l yX3_layTop wsX3_layTop ({ frames := 2, cells := 0, slots := 0, locals := 45 }) (zPc D (qT B) (qG B R N) sz [.ref (qA B 5 0), .ref (qA B 0 i)]) (va_Qv (fun (u : qN0) => u = qlP N i (qci N i)) (zB D (va_A (qG B R N) sz) (fun _ => []) 0 (fun u => qG B R u)) (va_A (qG B R N) sz)) 0 0 (va_A (qG B R N) sz) := by
  refine Met.ofW (cc := cX3_layTop) (maxL := 4) (ret := none) (by decide) rfl ?_
  intro p e s m args below meth c s₁ B9 hml hv
  obtain ⟨rfl, hsz, hP, hK, hD0⟩ := hv
  have hx0 := B9.exec
  have hb := B9.bytes
  have hr := B9.returns
  have hts := atoms_spec (ws := wsX3_layTop) B9.pre
  have hown : s.vm.findClass RX3 = some m.cls := findClass_of_methodNamed B9.named
  have hlocks := B9.notSynchronized
  subst hsz
  have hD := hD0.self (sz := s.heap.size)
  generalize hAe : va_A (qG B R N) s.heap.size = A at hD ⊢
  have hA : ∀ q : Nat, s.heap.size ≤ q → A q := fun q h => by rw [← hAe]; exact Or.inr h
  have hS : va_S A s.heap s.heap [] := va_S.rf
  have hl := lv_entry ([.ref (qA B 5 0), .ref (qA B 0 i)]) (n := 4) (Nat.le_of_ble_eq_true rfl)
  rw [lg_entry_eq]
  generalize (lg_sl ([.ref (qA B 5 0), .ref (qA B 0 i)]) ++ List.replicate (4 - (lg_sl ([.ref (qA B 5 0), .ref (qA B 0 i)])).length) Slot.unset).toArray = ls at hl ⊢
  have hl : lv_has ls 4 [(0, .ref (qA B 5 0)), (1, .ref (qA B 0 i))] := hl
  have hP : va_P D vwCl (qG B R N) s.heap := hP
  generalize hRe : (headSpec _ _).room = R9
  have hRf : R9.frames = 2 := by rw [← hRe]; rfl
  have hRc : R9.cells = 0 := by rw [← hRe]; rfl
  have hRs : R9.slots = 0 := by rw [← hRe]; rfl
  have hRl : R9.locals = 45 := by rw [← hRe]; rfl
  clear hRe
  obtain ⟨x, hx⟩ : ∃ x, x = N 0 i 6 := ⟨_, rfl⟩
  obtain ⟨y, hy⟩ : ∃ y, y = N 0 i 7 := ⟨_, rfl⟩
  obtain ⟨wd, hwd⟩ : ∃ y, y = N 0 i 4 := ⟨_, rfl⟩
  obtain ⟨d, hd⟩ : ∃ y, y = N 0 i 5 := ⟨_, rfl⟩
  rw [← hx, ← hwd] at hx9
  rw [← hy, ← hd] at hy9
  have b9 := hM 0 i 9
  refine lv_aload_n hx0 hb dX3_layTop_0 rfl (lv_at hl 1 rfl) ?_
  refine va_get (D := D) (ci := 0) (v := .int (nI (N 0 i 7))) (C := RX0) (T := TX0) (N := 18) hx0 hb hts (fun _ h9 => List.mem_cons_of_mem _ (List.mem_append_left _ (List.mem_append_right _ h9))) hown hK hP (5 + i) (qG_i (by omega)) rfl 7 (by decide) (hts (.fieldLink RX3 176 "PalletStack$Item" "y" "I") (List.mem_of_getElem? (i := 1) (by rfl))) (fun _ h9 => h9) rfl dX3_layTop_1 ?_
  refine lv_topi (fun v_1 ev_1 => ?_)
  obtain rfl : v_1 = (nI (y + 0)) := ev_1.trans (by rw [← hy]; rfl)
  refine lv_istore_n (lv' := [(2, .int (nI (y + 0))), (0, .ref (qA B 5 0)), (1, .ref (qA B 0 i))]) hx0 hb dX3_layTop_4 rfl hl (by decide) rfl (fun ls hl => ?_)
  generalize hQe : MQ _ _ _ _ _ _ _ = Q
  have inner : ∀ (jj : Nat), jj < d → (∀ (N1 : qN0) (hN : N1 = qlP N i (qsn x wd y (jj + 1) 0)) (H : Heap) (locs : List Loc) (ls : Array Slot), va_P D vwCl (qG B R N1) H → va_D A (qG B R N1) → va_S A s.heap H locs → lv_has ls 4 [(2, .int (nI (y + jj))), (1, .ref (qA B 0 i)), (0, .ref (qA B 5 0))] → W p l e R9 s m ([.ref (qA B 5 0), .ref (qA B 0 i)] : List Value).toArray below meth c H locs 0 0 Q (F0 m 83 ls [])) → ∀ (k9 ii : Nat), ii + k9 = wd → ∀ (N1 : qN0) (hN : N1 = qlP N i (qsn x wd y jj ii)) (H : Heap) (locs : List Loc) (ls : Array Slot), va_P D vwCl (qG B R N1) H → va_D A (qG B R N1) → va_S A s.heap H locs → lv_has ls 4 [(3, .int (nI (x + ii))), (2, .int (nI (y + jj))), (1, .ref (qA B 0 i)), (0, .ref (qA B 5 0))] → W p l e R9 s m ([.ref (qA B 5 0), .ref (qA B 0 i)] : List Value).toArray below meth c H locs 0 0 Q (F0 m 23 ls []) := by
    intro jj hjj out k9
    induction k9 with
    | zero =>
      intro ii hi9 N1 hN H locs ls hP hD hS hl
      obtain rfl : wd = ii := by omega
      have ne : ∀ c i9 j, c ≠ 4 ∨ i9 ≠ 0 → N1 c i9 j = N c i9 j := fun c i9 j h => by rw [hN]; exact qlP_ne _ _ _ h
      have hP : va_P D vwCl (qG B R N1) H := hP
      have hD : va_D A (qG B R N1) := hD
      refine lv_iload_n hx0 hb dX3_layTop_23 rfl (lv_at hl 0 rfl) ?_
      refine lv_aload_n hx0 hb dX3_layTop_24 rfl (lv_at hl 2 rfl) ?_
      refine va_get (D := D) (ci := 0) (v := .int (nI (N1 0 i 6))) (C := RX0) (T := TX0) (N := 18) hx0 hb hts (fun _ h9 => List.mem_cons_of_mem _ (List.mem_append_left _ (List.mem_append_right _ h9))) hown hK hP (5 + i) (qG_i (by omega)) rfl 6 (by decide) (hts (.fieldLink RX3 182 "PalletStack$Item" "x" "I") (List.mem_of_getElem? (i := 3) (by rfl))) (fun _ h9 => h9) rfl dX3_layTop_25 ?_
      refine lv_topi (fun v_2 ev_2 => ?_)
      obtain rfl : v_2 = (nI x) := ev_2.trans (by rw [ne 0 i 6 (by omega), ← hx])
      refine lv_aload_n hx0 hb dX3_layTop_28 rfl (lv_at hl 2 rfl) ?_
      refine va_get (D := D) (ci := 0) (v := .int (nI (N1 0 i 4))) (C := RX0) (T := TX0) (N := 18) hx0 hb hts (fun _ h9 => List.mem_cons_of_mem _ (List.mem_append_left _ (List.mem_append_right _ h9))) hown hK hP (5 + i) (qG_i (by omega)) rfl 4 (by decide) (hts (.fieldLink RX3 185 "PalletStack$Item" "width" "I") (List.mem_of_getElem? (i := 4) (by rfl))) (fun _ h9 => h9) rfl dX3_layTop_29 ?_
      refine lv_topi (fun v_3 ev_3 => ?_)
      obtain rfl : v_3 = (nI wd) := ev_3.trans (by rw [ne 0 i 4 (by omega), ← hwd])
      refine lv_iadd hx0 hb dX3_layTop_32 ?_
      refine lv_topi (fun v_4 ev_4 => ?_)
      obtain rfl : v_4 = (nI (x + wd)) := ev_4.trans (nI_add _ _)
      refine lv_icmp_ge (tgt := 83) hx0 hb dX3_layTop_33 (by decide) (fun c_5 => ?_) (fun c_5 => absurd (Int32.le_refl _) c_5)
      have hl := lv_sub hl (l' := [(2, .int (nI (y + jj))), (1, .ref (qA B 0 i)), (0, .ref (qA B 5 0))]) [1, 2, 3] rfl
      exact out N1 (by rw [hN]; exact qlP_congr _ _ (fun cx cy _ => qsn_r _ _ _ _ _ _)) H locs ls hP hD hS hl
    | succ k9 ih =>
      intro ii hi9 N1 hN H locs ls hP hD hS hl
      have ne : ∀ c i9 j, c ≠ 4 ∨ i9 ≠ 0 → N1 c i9 j = N c i9 j := fun c i9 j h => by rw [hN]; exact qlP_ne _ _ _ h
      have hT : N1 4 0 ((y + jj) * 12 + (x + ii)) = N 4 0 ((y + jj) * 12 + (x + ii)) := by rw [hN, qlP_at _ _ _ (by omega), qsn_n]; rfl
      have bT := hM 4 0 ((y + jj) * 12 + (x + ii))
      have hP : va_P D vwCl (qG B R N1) H := hP
      have hD : va_D A (qG B R N1) := hD
      refine lv_iload_n hx0 hb dX3_layTop_23 rfl (lv_at hl 0 rfl) ?_
      refine lv_aload_n hx0 hb dX3_layTop_24 rfl (lv_at hl 2 rfl) ?_
      refine va_get (D := D) (ci := 0) (v := .int (nI (N1 0 i 6))) (C := RX0) (T := TX0) (N := 18) hx0 hb hts (fun _ h9 => List.mem_cons_of_mem _ (List.mem_append_left _ (List.mem_append_right _ h9))) hown hK hP (5 + i) (qG_i (by omega)) rfl 6 (by decide) (hts (.fieldLink RX3 182 "PalletStack$Item" "x" "I") (List.mem_of_getElem? (i := 3) (by rfl))) (fun _ h9 => h9) rfl dX3_layTop_25 ?_
      refine lv_topi (fun v_6 ev_6 => ?_)
      obtain rfl : v_6 = (nI x) := ev_6.trans (by rw [ne 0 i 6 (by omega), ← hx])
      refine lv_aload_n hx0 hb dX3_layTop_28 rfl (lv_at hl 2 rfl) ?_
      refine va_get (D := D) (ci := 0) (v := .int (nI (N1 0 i 4))) (C := RX0) (T := TX0) (N := 18) hx0 hb hts (fun _ h9 => List.mem_cons_of_mem _ (List.mem_append_left _ (List.mem_append_right _ h9))) hown hK hP (5 + i) (qG_i (by omega)) rfl 4 (by decide) (hts (.fieldLink RX3 185 "PalletStack$Item" "width" "I") (List.mem_of_getElem? (i := 4) (by rfl))) (fun _ h9 => h9) rfl dX3_layTop_29 ?_
      refine lv_topi (fun v_7 ev_7 => ?_)
      obtain rfl : v_7 = (nI wd) := ev_7.trans (by rw [ne 0 i 4 (by omega), ← hwd])
      refine lv_iadd hx0 hb dX3_layTop_32 ?_
      refine lv_topi (fun v_8 ev_8 => ?_)
      obtain rfl : v_8 = (nI (x + wd)) := ev_8.trans (nI_add _ _)
      refine lv_icmp_ge (tgt := 83) hx0 hb dX3_layTop_33 (by decide) (fun c_9 => absurd c_9 (nI_ge (by omega) (by omega))) (fun c_9 => ?_)
      refine lv_iload_n hx0 hb dX3_layTop_36 rfl (lv_at hl 0 rfl) ?_
      refine lv_iload_n hx0 hb dX3_layTop_37 rfl (lv_at hl 1 rfl) ?_
      refine zrdS (As := [.int (nI (x + ii)), .int (nI (y + jj))]) (rest := []) (wc := []) ⟨hx0, hb, hml, hown, hts⟩ (c_isCell l D _ (nI (x + ii)) (nI (y + jj))) (va_cwS 2 hts gX3_layTop_X3_isCell rfl rfl rfl (by decide +kernel) ⟨by rw [hRf]; exact Nat.le_of_ble_eq_true rfl, by rw [hRl]; exact Nat.le_of_ble_eq_true rfl⟩) hK hP hD [] rfl (by decide) [] rfl rfl hl.1 rfl (Nat.le_of_ble_eq_true rfl) dX3_layTop_38 ⟨by omega, by omega⟩ (fun r_10 hr_10 => ?_)
      refine lv_topi (fun v_11 ev_11 => ?_)
      obtain rfl : v_11 = 1 := ev_11.trans (hr_10.trans (if_pos ⟨⟨nI_pos' (by omega), (nI_leI (b := 11) (by omega) (by decide)).mpr (by omega)⟩, nI_pos' (by omega), (nI_leI (b := 9) (by omega) (by decide)).mpr (by omega)⟩))
      refine lv_if_eq (tgt := 77) hx0 hb dX3_layTop_41 (by decide) (fun c_12 => absurd c_12 (by decide)) (fun c_12 => ?_)
      refine lv_aload_n hx0 hb dX3_layTop_44 rfl (lv_at hl 3 rfl) ?_
      refine va_get (D := D) (ci := 3) (v := .ref (qA B 5 3)) (C := RX3) (T := TX3) (N := 14) hx0 hb hts (fun _ h9 => List.mem_cons_of_mem _ (List.mem_append_right _ h9)) hown hK hP 0 rfl rfl 10 (by decide) (hts (.fieldLink RX3 47 "PalletStack" "tops" "[I") (List.mem_of_getElem? (i := 5) (by rfl))) (fun _ h9 => h9) rfl dX3_layTop_45 ?_
      refine lv_iload_n hx0 hb dX3_layTop_48 rfl (lv_at hl 1 rfl) ?_
      refine lv_bipush (v := 12) hx0 hb dX3_layTop_49 (by decide) ?_
      refine lv_imul hx0 hb dX3_layTop_51 ?_
      refine lv_topi (fun v_13 ev_13 => ?_)
      obtain rfl : v_13 = (nI ((y + jj) * 12)) := ev_13.trans (pk_mul _ 12)
      refine lv_iload_n hx0 hb dX3_layTop_52 rfl (lv_at hl 0 rfl) ?_
      refine lv_iadd hx0 hb dX3_layTop_53 ?_
      refine lv_topi (fun v_14 ev_14 => ?_)
      obtain rfl : v_14 = (nI ((y + jj) * 12 + (x + ii))) := ev_14.trans (nI_add _ _)
      refine va_iald hx0 hb hK hP 3 2 rfl rfl (vp_in_nI (n := ((y + jj) * 12 + (x + ii))) (N := 120) (by omega) (by decide)) dX3_layTop_54 ?_
      refine lv_topi (fun v_15 ev_15 => ?_)
      obtain rfl : v_15 = (nI (N1 4 0 ((y + jj) * 12 + (x + ii)))) := ev_15.trans (by rw [nI_clamp (by omega)])
      refine lv_topi (fun v_16 ev_16 => ?_)
      obtain rfl : v_16 = (nI (N 4 0 ((y + jj) * 12 + (x + ii)))) := ev_16.trans (by rw [hT])
      refine lv_aload_n hx0 hb dX3_layTop_55 rfl (lv_at hl 2 rfl) ?_
      refine va_get (D := D) (ci := 0) (v := .int (nI (N1 0 i 9))) (C := RX0) (T := TX0) (N := 18) hx0 hb hts (fun _ h9 => List.mem_cons_of_mem _ (List.mem_append_left _ (List.mem_append_right _ h9))) hown hK hP (5 + i) (qG_i (by omega)) rfl 9 (by decide) (hts (.fieldLink RX3 134 "PalletStack$Item" "top" "I") (List.mem_of_getElem? (i := 6) (by rfl))) (fun _ h9 => h9) rfl dX3_layTop_56 ?_
      refine lv_topi (fun v_17 ev_17 => ?_)
      obtain rfl : v_17 = (nI (N 0 i 9)) := ev_17.trans (by rw [ne 0 i 9 (by omega)])
      refine lv_icmp_ge (tgt := 77) hx0 hb dX3_layTop_59 (by decide) (fun c_18 => ?_) (fun c_18 => ?_)
      · have h_b := True.intro
        have k_19 : (N 0 i 9) ≤ (N 4 0 ((y + jj) * 12 + (x + ii))) := (nI_leI (a := (N 0 i 9)) (b := (N 4 0 ((y + jj) * 12 + (x + ii)))) (by omega) (by omega)).mp c_18
        refine lv_iinc (v := (nI (x + (ii + 1)))) (lv' := [(3, .int (nI (x + (ii + 1)))), (2, .int (nI (y + jj))), (1, .ref (qA B 0 i)), (0, .ref (qA B 5 0))]) hx0 hb dX3_layTop_77 hl (k := 0) rfl ((nI_add _ 1)) (by decide) rfl (fun ls hl => ?_)
        refine lv_goto (tgt := 23) hx0 hb dX3_layTop_80 (by decide) ?_
        have hl := lv_sub hl (l' := [(3, .int (nI (x + (ii + 1)))), (2, .int (nI (y + jj))), (1, .ref (qA B 0 i)), (0, .ref (qA B 5 0))]) [0, 1, 2, 3] rfl
        exact ih (ii + 1) (by omega) N1 (by rw [hN, qlP_dn (cx := x + ii) (cy := y + jj) k_19]; exact qlP_congr _ _ (fun cx cy _ => qsn_1 _ _ _ _ _ (by omega) _ _)) H locs ls hP hD hS hl
      · have h_b := True.intro
        have k_20 : ¬ ((N 0 i 9) ≤ (N 4 0 ((y + jj) * 12 + (x + ii)))) := fun h9 => c_18 ((nI_leI (a := (N 0 i 9)) (b := (N 4 0 ((y + jj) * 12 + (x + ii)))) (by omega) (by omega)).mpr h9)
        refine lv_aload_n hx0 hb dX3_layTop_62 rfl (lv_at hl 3 rfl) ?_
        refine va_get (D := D) (ci := 3) (v := .ref (qA B 5 3)) (C := RX3) (T := TX3) (N := 14) hx0 hb hts (fun _ h9 => List.mem_cons_of_mem _ (List.mem_append_right _ h9)) hown hK hP 0 rfl rfl 10 (by decide) (hts (.fieldLink RX3 47 "PalletStack" "tops" "[I") (List.mem_of_getElem? (i := 5) (by rfl))) (fun _ h9 => h9) rfl dX3_layTop_63 ?_
        refine lv_iload_n hx0 hb dX3_layTop_66 rfl (lv_at hl 1 rfl) ?_
        refine lv_bipush (v := 12) hx0 hb dX3_layTop_67 (by decide) ?_
        refine lv_imul hx0 hb dX3_layTop_69 ?_
        refine lv_topi (fun v_21 ev_21 => ?_)
        obtain rfl : v_21 = (nI ((y + jj) * 12)) := ev_21.trans (pk_mul _ 12)
        refine lv_iload_n hx0 hb dX3_layTop_70 rfl (lv_at hl 0 rfl) ?_
        refine lv_iadd hx0 hb dX3_layTop_71 ?_
        refine lv_topi (fun v_22 ev_22 => ?_)
        obtain rfl : v_22 = (nI ((y + jj) * 12 + (x + ii))) := ev_22.trans (nI_add _ _)
        refine lv_aload_n hx0 hb dX3_layTop_72 rfl (lv_at hl 2 rfl) ?_
        refine va_get (D := D) (ci := 0) (v := .int (nI (N1 0 i 9))) (C := RX0) (T := TX0) (N := 18) hx0 hb hts (fun _ h9 => List.mem_cons_of_mem _ (List.mem_append_left _ (List.mem_append_right _ h9))) hown hK hP (5 + i) (qG_i (by omega)) rfl 9 (by decide) (hts (.fieldLink RX3 134 "PalletStack$Item" "top" "I") (List.mem_of_getElem? (i := 6) (by rfl))) (fun _ h9 => h9) rfl dX3_layTop_73 ?_
        refine lv_topi (fun v_23 ev_23 => ?_)
        obtain rfl : v_23 = (nI (N 0 i 9)) := ev_23.trans (by rw [ne 0 i 9 (by omega)])
        refine va_iast hx0 hb hK hP hD hS 3 2 rfl rfl (vp_in_nI (n := ((y + jj) * 12 + (x + ii))) (N := 120) (by omega) (by decide)) dX3_layTop_76 (fun H locs hP hD hS => ?_)
        rw [nI_clamp (by omega)] at hP hD
        rw [qG_pt] at hP hD
        obtain ⟨N_24, hN_24⟩ : ∃ z : qN0, z = qp N1 4 0 ((y + jj) * 12 + (x + ii)) (N 0 i 9) := ⟨_, rfl⟩
        rw [← hN_24] at hP hD
        have hP : va_P D vwCl (qG B R N_24) H := hP
        have hD : va_D A (qG B R N_24) := hD
        refine lv_iinc (v := (nI (x + (ii + 1)))) (lv' := [(3, .int (nI (x + (ii + 1)))), (2, .int (nI (y + jj))), (1, .ref (qA B 0 i)), (0, .ref (qA B 5 0))]) hx0 hb dX3_layTop_77 hl (k := 0) rfl ((nI_add _ 1)) (by decide) rfl (fun ls hl => ?_)
        refine lv_goto (tgt := 23) hx0 hb dX3_layTop_80 (by decide) ?_
        have hl := lv_sub hl (l' := [(3, .int (nI (x + (ii + 1)))), (2, .int (nI (y + jj))), (1, .ref (qA B 0 i)), (0, .ref (qA B 5 0))]) [0, 1, 2, 3] rfl
        exact ih (ii + 1) (by omega) N_24 (by rw [hN_24, hN, qlP_up (by omega) (qsn_n _ _ _ _ _) (by omega)]; exact qlP_congr _ _ (fun cx cy _ => qsn_1 _ _ _ _ _ (by omega) _ _)) H locs ls hP hD hS hl
  have outer : ∀ (k9 jj : Nat), jj + k9 = d → ∀ (N1 : qN0) (hN : N1 = qlP N i (qsn x wd y jj 0)) (H : Heap) (locs : List Loc) (ls : Array Slot), va_P D vwCl (qG B R N1) H → va_D A (qG B R N1) → va_S A s.heap H locs → lv_has ls 4 [(2, .int (nI (y + jj))), (1, .ref (qA B 0 i)), (0, .ref (qA B 5 0))] → W p l e R9 s m ([.ref (qA B 5 0), .ref (qA B 0 i)] : List Value).toArray below meth c H locs 0 0 Q (F0 m 5 ls []) := by
    intro k9
    induction k9 with
    | zero =>
      intro jj hj N1 hN H locs ls hP hD hS hl
      obtain rfl : d = jj := by omega
      have ne : ∀ c i9 j, c ≠ 4 ∨ i9 ≠ 0 → N1 c i9 j = N c i9 j := fun c i9 j h => by rw [hN]; exact qlP_ne _ _ _ h
      have hP : va_P D vwCl (qG B R N1) H := hP
      have hD : va_D A (qG B R N1) := hD
      refine lv_iload_n hx0 hb dX3_layTop_5 rfl (lv_at hl 0 rfl) ?_
      refine lv_aload_n hx0 hb dX3_layTop_6 rfl (lv_at hl 1 rfl) ?_
      refine va_get (D := D) (ci := 0) (v := .int (nI (N1 0 i 7))) (C := RX0) (T := TX0) (N := 18) hx0 hb hts (fun _ h9 => List.mem_cons_of_mem _ (List.mem_append_left _ (List.mem_append_right _ h9))) hown hK hP (5 + i) (qG_i (by omega)) rfl 7 (by decide) (hts (.fieldLink RX3 176 "PalletStack$Item" "y" "I") (List.mem_of_getElem? (i := 1) (by rfl))) (fun _ h9 => h9) rfl dX3_layTop_7 ?_
      refine lv_topi (fun v_25 ev_25 => ?_)
      obtain rfl : v_25 = (nI y) := ev_25.trans (by rw [ne 0 i 7 (by omega), ← hy])
      refine lv_aload_n hx0 hb dX3_layTop_10 rfl (lv_at hl 1 rfl) ?_
      refine va_get (D := D) (ci := 0) (v := .int (nI (N1 0 i 5))) (C := RX0) (T := TX0) (N := 18) hx0 hb hts (fun _ h9 => List.mem_cons_of_mem _ (List.mem_append_left _ (List.mem_append_right _ h9))) hown hK hP (5 + i) (qG_i (by omega)) rfl 5 (by decide) (hts (.fieldLink RX3 179 "PalletStack$Item" "depth" "I") (List.mem_of_getElem? (i := 2) (by rfl))) (fun _ h9 => h9) rfl dX3_layTop_11 ?_
      refine lv_topi (fun v_26 ev_26 => ?_)
      obtain rfl : v_26 = (nI d) := ev_26.trans (by rw [ne 0 i 5 (by omega), ← hd])
      refine lv_iadd hx0 hb dX3_layTop_14 ?_
      refine lv_topi (fun v_27 ev_27 => ?_)
      obtain rfl : v_27 = (nI (y + d)) := ev_27.trans (nI_add _ _)
      refine lv_icmp_ge (tgt := 89) hx0 hb dX3_layTop_15 (by decide) (fun c_28 => ?_) (fun c_28 => absurd (Int32.le_refl _) c_28)
      rw [← hQe]
      exact W.vret hx0 hb hr (fun t ht hW => ⟨⟨N1, rfl, (by rw [hN]; unfold qci; rw [← hx, ← hy, ← hwd, ← hd]; exact qlP_congr _ _ (fun cx cy _ => qsn_e _ _ _ _ _ _)), ⟨Nat.zero_le _, by rw [ht]; exact hP, va_K.moved hW.alike (hK.sub (tys' := []) [] rfl), hD⟩⟩, hS.F ht⟩) hS.2.2 dX3_layTop_89
    | succ k9 ih =>
      intro jj hj N1 hN H locs ls hP hD hS hl
      have ne : ∀ c i9 j, c ≠ 4 ∨ i9 ≠ 0 → N1 c i9 j = N c i9 j := fun c i9 j h => by rw [hN]; exact qlP_ne _ _ _ h
      have hP : va_P D vwCl (qG B R N1) H := hP
      have hD : va_D A (qG B R N1) := hD
      refine lv_iload_n hx0 hb dX3_layTop_5 rfl (lv_at hl 0 rfl) ?_
      refine lv_aload_n hx0 hb dX3_layTop_6 rfl (lv_at hl 1 rfl) ?_
      refine va_get (D := D) (ci := 0) (v := .int (nI (N1 0 i 7))) (C := RX0) (T := TX0) (N := 18) hx0 hb hts (fun _ h9 => List.mem_cons_of_mem _ (List.mem_append_left _ (List.mem_append_right _ h9))) hown hK hP (5 + i) (qG_i (by omega)) rfl 7 (by decide) (hts (.fieldLink RX3 176 "PalletStack$Item" "y" "I") (List.mem_of_getElem? (i := 1) (by rfl))) (fun _ h9 => h9) rfl dX3_layTop_7 ?_
      refine lv_topi (fun v_29 ev_29 => ?_)
      obtain rfl : v_29 = (nI y) := ev_29.trans (by rw [ne 0 i 7 (by omega), ← hy])
      refine lv_aload_n hx0 hb dX3_layTop_10 rfl (lv_at hl 1 rfl) ?_
      refine va_get (D := D) (ci := 0) (v := .int (nI (N1 0 i 5))) (C := RX0) (T := TX0) (N := 18) hx0 hb hts (fun _ h9 => List.mem_cons_of_mem _ (List.mem_append_left _ (List.mem_append_right _ h9))) hown hK hP (5 + i) (qG_i (by omega)) rfl 5 (by decide) (hts (.fieldLink RX3 179 "PalletStack$Item" "depth" "I") (List.mem_of_getElem? (i := 2) (by rfl))) (fun _ h9 => h9) rfl dX3_layTop_11 ?_
      refine lv_topi (fun v_30 ev_30 => ?_)
      obtain rfl : v_30 = (nI d) := ev_30.trans (by rw [ne 0 i 5 (by omega), ← hd])
      refine lv_iadd hx0 hb dX3_layTop_14 ?_
      refine lv_topi (fun v_31 ev_31 => ?_)
      obtain rfl : v_31 = (nI (y + d)) := ev_31.trans (nI_add _ _)
      refine lv_icmp_ge (tgt := 89) hx0 hb dX3_layTop_15 (by decide) (fun c_32 => absurd c_32 (nI_ge (by omega) (by omega))) (fun c_32 => ?_)
      refine lv_aload_n hx0 hb dX3_layTop_18 rfl (lv_at hl 1 rfl) ?_
      refine va_get (D := D) (ci := 0) (v := .int (nI (N1 0 i 6))) (C := RX0) (T := TX0) (N := 18) hx0 hb hts (fun _ h9 => List.mem_cons_of_mem _ (List.mem_append_left _ (List.mem_append_right _ h9))) hown hK hP (5 + i) (qG_i (by omega)) rfl 6 (by decide) (hts (.fieldLink RX3 182 "PalletStack$Item" "x" "I") (List.mem_of_getElem? (i := 3) (by rfl))) (fun _ h9 => h9) rfl dX3_layTop_19 ?_
      refine lv_topi (fun v_33 ev_33 => ?_)
      obtain rfl : v_33 = (nI (x + 0)) := ev_33.trans (by rw [ne 0 i 6 (by omega), ← hx]; rfl)
      refine lv_istore_n (lv' := [(3, .int (nI (x + 0))), (2, .int (nI (y + jj))), (1, .ref (qA B 0 i)), (0, .ref (qA B 5 0))]) hx0 hb dX3_layTop_22 rfl hl (by decide) rfl (fun ls hl => ?_)
      have hl := lv_sub hl (l' := [(3, .int (nI (x + 0))), (2, .int (nI (y + jj))), (1, .ref (qA B 0 i)), (0, .ref (qA B 5 0))]) [0, 1, 2, 3] rfl
      refine inner jj (by omega) (fun N1 hN H locs ls hP hD hS hl => ?_) wd 0 (by omega) N1 hN H locs ls hP hD hS hl
      have hP : va_P D vwCl (qG B R N1) H := hP
      have hD : va_D A (qG B R N1) := hD
      refine lv_iinc (v := (nI (y + (jj + 1)))) (lv' := [(2, .int (nI (y + (jj + 1)))), (1, .ref (qA B 0 i)), (0, .ref (qA B 5 0))]) hx0 hb dX3_layTop_83 hl (k := 0) rfl ((nI_add _ 1)) (by decide) rfl (fun ls hl => ?_)
      refine lv_goto (tgt := 5) hx0 hb dX3_layTop_86 (by decide) ?_
      have hl := lv_sub hl (l' := [(2, .int (nI (y + (jj + 1)))), (1, .ref (qA B 0 i)), (0, .ref (qA B 5 0))]) [0, 1, 2] rfl
      exact ih (jj + 1) (by omega) N1 hN H locs ls hP hD hS hl
  refine outer d 0 (by omega) N ?_ s.heap [] ls hP hD hS hl
  funext c9 i9 j9
  unfold qlP
  rw [if_neg (fun h9 => by rw [qsn_0] at h9; exact absurd h9.2.2 (by decide))]
end
