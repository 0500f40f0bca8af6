section
-- ===== PART A: goes FIRST, ahead of the names: the tables' words, and 'selects' of the private methods out of them =====
/-- a private method of a class that the tables say can be made, by its rows of tables_1 -/
def lw_okq (q : MethodName × Nat) : Prop := (q.1.cls ≠ "java/lang/invoke/MethodHandle" ∧ q.1.cls ≠ "java/lang/invoke/VarHandle") ∧ Cond.instantiable q.1.cls q.2 ∈ tables_1 ∧ Cond.privateMethod q.1 ∈ tables_1 ∧ Cond.instanceMethod q.1 ∈ tables_1
theorem lw_p0 : lw_okq (⟨"PrintLedger", "jobsThatAre", "(I)I"⟩, 11) := ⟨⟨by decide +kernel, by decide +kernel⟩, List.mem_of_getElem? (i := 15) (by decide +kernel), List.mem_of_getElem? (i := 154) (by decide +kernel), List.mem_of_getElem? (i := 155) (by decide +kernel)⟩
theorem lw_p1 : lw_okq (⟨"PrintLedger", "moneyOfInvoices", "()I"⟩, 11) := ⟨⟨by decide +kernel, by decide +kernel⟩, List.mem_of_getElem? (i := 15) (by decide +kernel), List.mem_of_getElem? (i := 158) (by decide +kernel), List.mem_of_getElem? (i := 159) (by decide +kernel)⟩
theorem lw_p2 : lw_okq (⟨"PrintLedger", "costOfJobs", "()I"⟩, 11) := ⟨⟨by decide +kernel, by decide +kernel⟩, List.mem_of_getElem? (i := 15) (by decide +kernel), List.mem_of_getElem? (i := 162) (by decide +kernel), List.mem_of_getElem? (i := 163) (by decide +kernel)⟩
theorem lw_p3 : lw_okq (⟨"PrintLedger", "worthOfStock", "()I"⟩, 11) := ⟨⟨by decide +kernel, by decide +kernel⟩, List.mem_of_getElem? (i := 15) (by decide +kernel), List.mem_of_getElem? (i := 166) (by decide +kernel), List.mem_of_getElem? (i := 167) (by decide +kernel)⟩
theorem lw_p4 : lw_okq (⟨"java/lang/Throwable", "fillInStackTrace", "(I)Ljava/lang/Throwable;"⟩, 6) := ⟨⟨by decide +kernel, by decide +kernel⟩, List.mem_of_getElem? (i := 208) (by decide +kernel), List.mem_of_getElem? (i := 206) (by decide +kernel), List.mem_of_getElem? (i := 207) (by decide +kernel)⟩
theorem lw_p5 : lw_okq (⟨"PrintLedger", "paperOf", "(I)LPrintLedger$Paper;"⟩, 11) := ⟨⟨by decide +kernel, by decide +kernel⟩, List.mem_of_getElem? (i := 15) (by decide +kernel), List.mem_of_getElem? (i := 249) (by decide +kernel), List.mem_of_getElem? (i := 250) (by decide +kernel)⟩
theorem lw_p6 : lw_okq (⟨"PrintLedger", "forecastOf", "(LPrintLedger$Paper;)I"⟩, 11) := ⟨⟨by decide +kernel, by decide +kernel⟩, List.mem_of_getElem? (i := 15) (by decide +kernel), List.mem_of_getElem? (i := 269) (by decide +kernel), List.mem_of_getElem? (i := 270) (by decide +kernel)⟩
theorem lw_p7 : lw_okq (⟨"PrintLedger", "neededOf", "(LPrintLedger$Paper;LPrintLedger$Press;)I"⟩, 11) := ⟨⟨by decide +kernel, by decide +kernel⟩, List.mem_of_getElem? (i := 15) (by decide +kernel), List.mem_of_getElem? (i := 273) (by decide +kernel), List.mem_of_getElem? (i := 274) (by decide +kernel)⟩
theorem lw_p8 : lw_okq (⟨"PrintLedger$Press", "jobAt", "(I)LPrintLedger$Job;"⟩, 7) := ⟨⟨by decide +kernel, by decide +kernel⟩, List.mem_of_getElem? (i := 51) (by decide +kernel), List.mem_of_getElem? (i := 277) (by decide +kernel), List.mem_of_getElem? (i := 278) (by decide +kernel)⟩
theorem lw_p9 : lw_okq (⟨"PrintLedger", "expect", "(LPrintLedger$Job;LPrintLedger$Press;I)LPrintLedger$Expectation;"⟩, 11) := ⟨⟨by decide +kernel, by decide +kernel⟩, List.mem_of_getElem? (i := 15) (by decide +kernel), List.mem_of_getElem? (i := 281) (by decide +kernel), List.mem_of_getElem? (i := 282) (by decide +kernel)⟩
theorem lw_p10 : lw_okq (⟨"PrintLedger$Job", "sheets", "()I"⟩, 15) := ⟨⟨by decide +kernel, by decide +kernel⟩, List.mem_of_getElem? (i := 287) (by decide +kernel), List.mem_of_getElem? (i := 285) (by decide +kernel), List.mem_of_getElem? (i := 286) (by decide +kernel)⟩
theorem lw_p11 : lw_okq (⟨"PrintLedger$Press", "passesOf", "(LPrintLedger$Job;)I"⟩, 7) := ⟨⟨by decide +kernel, by decide +kernel⟩, List.mem_of_getElem? (i := 51) (by decide +kernel), List.mem_of_getElem? (i := 296) (by decide +kernel), List.mem_of_getElem? (i := 297) (by decide +kernel)⟩
theorem lw_p12 : lw_okq (⟨"PrintLedger$Job", "moneyOfInks", "()I"⟩, 15) := ⟨⟨by decide +kernel, by decide +kernel⟩, List.mem_of_getElem? (i := 287) (by decide +kernel), List.mem_of_getElem? (i := 312) (by decide +kernel), List.mem_of_getElem? (i := 313) (by decide +kernel)⟩
theorem lw_p13 : lw_okq (⟨"PrintLedger", "shortOf", "(LPrintLedger$Paper;)I"⟩, 11) := ⟨⟨by decide +kernel, by decide +kernel⟩, List.mem_of_getElem? (i := 15) (by decide +kernel), List.mem_of_getElem? (i := 318) (by decide +kernel), List.mem_of_getElem? (i := 319) (by decide +kernel)⟩
theorem lw_p14 : lw_okq (⟨"PrintLedger", "digestWithPress", "(JI)J"⟩, 11) := ⟨⟨by decide +kernel, by decide +kernel⟩, List.mem_of_getElem? (i := 15) (by decide +kernel), List.mem_of_getElem? (i := 324) (by decide +kernel), List.mem_of_getElem? (i := 325) (by decide +kernel)⟩
theorem lw_p15 : lw_okq (⟨"PrintLedger", "pressOf", "(I)LPrintLedger$Press;"⟩, 11) := ⟨⟨by decide +kernel, by decide +kernel⟩, List.mem_of_getElem? (i := 15) (by decide +kernel), List.mem_of_getElem? (i := 332) (by decide +kernel), List.mem_of_getElem? (i := 333) (by decide +kernel)⟩
def lw_privs_1 : List (MethodName × Nat) := [(⟨"PrintLedger", "jobsThatAre", "(I)I"⟩, 11), (⟨"PrintLedger", "moneyOfInvoices", "()I"⟩, 11), (⟨"PrintLedger", "costOfJobs", "()I"⟩, 11), (⟨"PrintLedger", "worthOfStock", "()I"⟩, 11), (⟨"java/lang/Throwable", "fillInStackTrace", "(I)Ljava/lang/Throwable;"⟩, 6), (⟨"PrintLedger", "paperOf", "(I)LPrintLedger$Paper;"⟩, 11), (⟨"PrintLedger", "forecastOf", "(LPrintLedger$Paper;)I"⟩, 11), (⟨"PrintLedger", "neededOf", "(LPrintLedger$Paper;LPrintLedger$Press;)I"⟩, 11), (⟨"PrintLedger$Press", "jobAt", "(I)LPrintLedger$Job;"⟩, 7), (⟨"PrintLedger", "expect", "(LPrintLedger$Job;LPrintLedger$Press;I)LPrintLedger$Expectation;"⟩, 11), (⟨"PrintLedger$Job", "sheets", "()I"⟩, 15), (⟨"PrintLedger$Press", "passesOf", "(LPrintLedger$Job;)I"⟩, 7), (⟨"PrintLedger$Job", "moneyOfInks", "()I"⟩, 15), (⟨"PrintLedger", "shortOf", "(LPrintLedger$Paper;)I"⟩, 11), (⟨"PrintLedger", "digestWithPress", "(JI)J"⟩, 11), (⟨"PrintLedger", "pressOf", "(I)LPrintLedger$Press;"⟩, 11)]
theorem lw_r1 : ∀ q ∈ lw_privs_1, lw_okq q := List.forall_mem_cons.mpr ⟨lw_p0, List.forall_mem_cons.mpr ⟨lw_p1, List.forall_mem_cons.mpr ⟨lw_p2, List.forall_mem_cons.mpr ⟨lw_p3, List.forall_mem_cons.mpr ⟨lw_p4, List.forall_mem_cons.mpr ⟨lw_p5, List.forall_mem_cons.mpr ⟨lw_p6, List.forall_mem_cons.mpr ⟨lw_p7, List.forall_mem_cons.mpr ⟨lw_p8, List.forall_mem_cons.mpr ⟨lw_p9, List.forall_mem_cons.mpr ⟨lw_p10, List.forall_mem_cons.mpr ⟨lw_p11, List.forall_mem_cons.mpr ⟨lw_p12, List.forall_mem_cons.mpr ⟨lw_p13, List.forall_mem_cons.mpr ⟨lw_p14, List.forall_mem_cons.mpr ⟨lw_p15, fun _ h => absurd h List.not_mem_nil⟩⟩⟩⟩⟩⟩⟩⟩⟩⟩⟩⟩⟩⟩⟩⟩
theorem lw_p16 : lw_okq (⟨"PrintLedger", "minutesOfQueue", "(LPrintLedger$Press;)I"⟩, 11) := ⟨⟨by decide +kernel, by decide +kernel⟩, List.mem_of_getElem? (i := 15) (by decide +kernel), List.mem_of_getElem? (i := 337) (by decide +kernel), List.mem_of_getElem? (i := 338) (by decide +kernel)⟩
theorem lw_p17 : lw_okq (⟨"PrintLedger", "digestWithJob", "(JI)J"⟩, 11) := ⟨⟨by decide +kernel, by decide +kernel⟩, List.mem_of_getElem? (i := 15) (by decide +kernel), List.mem_of_getElem? (i := 347) (by decide +kernel), List.mem_of_getElem? (i := 348) (by decide +kernel)⟩
theorem lw_p18 : lw_okq (⟨"PrintLedger", "jobOf", "(I)LPrintLedger$Job;"⟩, 11) := ⟨⟨by decide +kernel, by decide +kernel⟩, List.mem_of_getElem? (i := 15) (by decide +kernel), List.mem_of_getElem? (i := 355) (by decide +kernel), List.mem_of_getElem? (i := 356) (by decide +kernel)⟩
theorem lw_p19 : lw_okq (⟨"PrintLedger$Job", "worth", "()I"⟩, 15) := ⟨⟨by decide +kernel, by decide +kernel⟩, List.mem_of_getElem? (i := 287) (by decide +kernel), List.mem_of_getElem? (i := 375) (by decide +kernel), List.mem_of_getElem? (i := 376) (by decide +kernel)⟩
theorem lw_p20 : lw_okq (⟨"PrintLedger$Paper", "holds", "(II)I"⟩, 4) := ⟨⟨by decide +kernel, by decide +kernel⟩, List.mem_of_getElem? (i := 24) (by decide +kernel), List.mem_of_getElem? (i := 406) (by decide +kernel), List.mem_of_getElem? (i := 407) (by decide +kernel)⟩
theorem lw_p21 : lw_okq (⟨"PrintLedger$Job", "layOut", "(II)V"⟩, 15) := ⟨⟨by decide +kernel, by decide +kernel⟩, List.mem_of_getElem? (i := 287) (by decide +kernel), List.mem_of_getElem? (i := 493) (by decide +kernel), List.mem_of_getElem? (i := 494) (by decide +kernel)⟩
theorem lw_p22 : lw_okq (⟨"PrintLedger$Press", "insert", "(LPrintLedger$Job;I)V"⟩, 7) := ⟨⟨by decide +kernel, by decide +kernel⟩, List.mem_of_getElem? (i := 51) (by decide +kernel), List.mem_of_getElem? (i := 503) (by decide +kernel), List.mem_of_getElem? (i := 504) (by decide +kernel)⟩
theorem lw_p23 : lw_okq (⟨"PrintLedger$Paper", "lotsWithRoom", "()I"⟩, 4) := ⟨⟨by decide +kernel, by decide +kernel⟩, List.mem_of_getElem? (i := 24) (by decide +kernel), List.mem_of_getElem? (i := 515) (by decide +kernel), List.mem_of_getElem? (i := 516) (by decide +kernel)⟩
theorem lw_p24 : lw_okq (⟨"PrintLedger", "bring", "(LPrintLedger$Paper;I)V"⟩, 11) := ⟨⟨by decide +kernel, by decide +kernel⟩, List.mem_of_getElem? (i := 15) (by decide +kernel), List.mem_of_getElem? (i := 521) (by decide +kernel), List.mem_of_getElem? (i := 522) (by decide +kernel)⟩
theorem lw_p25 : lw_okq (⟨"PrintLedger$Press", "bringLeastChangeAhead", "()V"⟩, 7) := ⟨⟨by decide +kernel, by decide +kernel⟩, List.mem_of_getElem? (i := 51) (by decide +kernel), List.mem_of_getElem? (i := 548) (by decide +kernel), List.mem_of_getElem? (i := 549) (by decide +kernel)⟩
theorem lw_p26 : lw_okq (⟨"PrintLedger$Press", "placeOfLeastChange", "(II)I"⟩, 7) := ⟨⟨by decide +kernel, by decide +kernel⟩, List.mem_of_getElem? (i := 51) (by decide +kernel), List.mem_of_getElem? (i := 552) (by decide +kernel), List.mem_of_getElem? (i := 553) (by decide +kernel)⟩
theorem lw_p27 : lw_okq (⟨"PrintLedger$Press", "remove", "(I)V"⟩, 7) := ⟨⟨by decide +kernel, by decide +kernel⟩, List.mem_of_getElem? (i := 51) (by decide +kernel), List.mem_of_getElem? (i := 559) (by decide +kernel), List.mem_of_getElem? (i := 560) (by decide +kernel)⟩
theorem lw_p28 : lw_okq (⟨"PrintLedger$Job", "takenWith", "(I)I"⟩, 15) := ⟨⟨by decide +kernel, by decide +kernel⟩, List.mem_of_getElem? (i := 287) (by decide +kernel), List.mem_of_getElem? (i := 583) (by decide +kernel), List.mem_of_getElem? (i := 584) (by decide +kernel)⟩
theorem lw_p29 : lw_okq (⟨"PrintLedger$Press", "learn", "(LPrintLedger$Job;III)V"⟩, 7) := ⟨⟨by decide +kernel, by decide +kernel⟩, List.mem_of_getElem? (i := 51) (by decide +kernel), List.mem_of_getElem? (i := 589) (by decide +kernel), List.mem_of_getElem? (i := 590) (by decide +kernel)⟩
def lw_privs_2 : List (MethodName × Nat) := [(⟨"PrintLedger", "minutesOfQueue", "(LPrintLedger$Press;)I"⟩, 11), (⟨"PrintLedger", "digestWithJob", "(JI)J"⟩, 11), (⟨"PrintLedger", "jobOf", "(I)LPrintLedger$Job;"⟩, 11), (⟨"PrintLedger$Job", "worth", "()I"⟩, 15), (⟨"PrintLedger$Paper", "holds", "(II)I"⟩, 4), (⟨"PrintLedger$Job", "layOut", "(II)V"⟩, 15), (⟨"PrintLedger$Press", "insert", "(LPrintLedger$Job;I)V"⟩, 7), (⟨"PrintLedger$Paper", "lotsWithRoom", "()I"⟩, 4), (⟨"PrintLedger", "bring", "(LPrintLedger$Paper;I)V"⟩, 11), (⟨"PrintLedger$Press", "bringLeastChangeAhead", "()V"⟩, 7), (⟨"PrintLedger$Press", "placeOfLeastChange", "(II)I"⟩, 7), (⟨"PrintLedger$Press", "remove", "(I)V"⟩, 7), (⟨"PrintLedger$Job", "takenWith", "(I)I"⟩, 15), (⟨"PrintLedger$Press", "learn", "(LPrintLedger$Job;III)V"⟩, 7)]
theorem lw_r2 : ∀ q ∈ lw_privs_2, lw_okq q := List.forall_mem_cons.mpr ⟨lw_p16, List.forall_mem_cons.mpr ⟨lw_p17, List.forall_mem_cons.mpr ⟨lw_p18, List.forall_mem_cons.mpr ⟨lw_p19, List.forall_mem_cons.mpr ⟨lw_p20, List.forall_mem_cons.mpr ⟨lw_p21, List.forall_mem_cons.mpr ⟨lw_p22, List.forall_mem_cons.mpr ⟨lw_p23, List.forall_mem_cons.mpr ⟨lw_p24, List.forall_mem_cons.mpr ⟨lw_p25, List.forall_mem_cons.mpr ⟨lw_p26, List.forall_mem_cons.mpr ⟨lw_p27, List.forall_mem_cons.mpr ⟨lw_p28, List.forall_mem_cons.mpr ⟨lw_p29, fun _ h => absurd h List.not_mem_nil⟩⟩⟩⟩⟩⟩⟩⟩⟩⟩⟩⟩⟩⟩
def lw_privs : List (MethodName × Nat) := lw_privs_1 ++ (lw_privs_2)
def lw_tbl : List Cond := k2_sels lw_privs ++ tables_1
theorem lw_privs_ok : ∀ q ∈ lw_privs, lw_okq q := by
  show ∀ q ∈ lw_privs_1 ++ (lw_privs_2), lw_okq q
  exact List.forall_mem_append.mpr ⟨lw_r1, lw_r2⟩
-- ===== end of PART A; then your names; then what follows =====
/-! ===== BEGIN words of one list among another's, by their places ===== -/
theorem goodIn_r {big : List Cond} (ws : List Cond) (ps : List Nat) (hp : ws = ps.filterMap (fun i => big[i]?)) (h : ws.all goodWord = true) : GoodIn big ws := by
  intro w hw
  have h1 := List.all_eq_true.mp h w hw
  rw [hp] at hw
  obtain ⟨i, -, hi⟩ := List.mem_filterMap.mp hw
  have hm : w ∈ big := by first | exact List.mem_of_getElem? hi | exact List.getElem?_mem hi
  exact ⟨hm, good_of_word h1⟩
theorem goodIn_app {big a b : List Cond} (ha : GoodIn big a) (hb : GoodIn big b) : GoodIn big (a ++ b) := fun w h => (List.mem_append.mp h).elim (ha w) (hb w)
theorem goodIn_ca {big a b : List Cond} {c : Cond} (ha : GoodIn big (c :: a)) (hb : GoodIn big b) : GoodIn big (c :: (a ++ b)) := fun w h => (List.mem_cons.mp h).elim (fun e => ha w (List.mem_cons.mpr (Or.inl e))) (fun h => (List.mem_append.mp h).elim (fun h => ha w (List.mem_cons.mpr (Or.inr h))) (hb w))
theorem goodIn_sub {big ws : List Cond} (hm : ∀ w ∈ ws, w ∈ big) (h : ws.all goodWord = true) : GoodIn big ws := fun w hw => ⟨hm w hw, good_of_word (List.all_eq_true.mp h w hw)⟩
/-! ===== END ===== -/

/-! ===== BEGIN exceptions that leave a method, and their catching by the caller (launches without stack traces) ===== -/
section VXA
/-! The laws vx_back, vx_callV, vx_callS, vx_callSW, vx_throw0, vx_throwS follow proofs of the library, with one case more: JvmDerived/Free/Laws.lean (Back.of_free), Shelf42/LK1.lean (callV, callS), Shelf/KitTraced.lean (throwNew0V, throwNewS). -/
/-- where a method has thrown q: the class by its name, the cell, what was written, the world -/
def vx_T (XC : String → State → State → Prop) (st : State) (q : Addr) (t : State) (mc ms : Nat) (free : Addr → Prop) : Prop :=
  ∃ (E : String) (ce : Cell) (L : List Loc), XC E st t ∧ t.heap[q]? = some ce ∧ ce.vm = .none ∧ st.vm.findClass E = some ce.cls ∧ st.WarmedH t.vm ∧ st.sameButNew ({ t with vm := st.vm } : State) L mc ms ∧ ∀ z ∈ L, free z.base
def vx_Q (Qc : Array Value → State → Outcome → State → Prop) (XC : String → State → State → Prop) (mc ms : Nat) (free : Addr → Prop) : Array Value → State → Outcome → State → Prop := fun a st o t =>
  (Qc a st o t ∧ ∃ L, FrameEnd st o t L mc ms ∧ ∀ q ∈ L, free q.base) ∨ ∃ q, o = .threw q ∧ vx_T XC st q t mc ms free
/-- a callee that returns or throws -/
def vx_Met (l : Launch) (y : MethodName) (ws : List Cond) (rm : Room) (Pc : Array Value → State → Prop) (Qc : Array Value → State → Outcome → State → Prop) (XC : String → State → State → Prop) (mc ms : Nat) (free : Addr → Prop) : Prop :=
  MetFree l y (headSpec ws rm) Pc (fun _ _ _ _ _ => True) (vx_Q Qc XC mc ms free)
def vx_Post (XC : String → State → State → Prop) (mc ms : Nat) (free : Addr → Prop) : Pt → Array Value → Addr → Pt → Prop := fun A a q B =>
  ∃ (g : JFrame) (mk : MethodId) (t : State) (L : List Loc) (E : String) (ce : Cell), B.U.heap = t.heap ∧ B.U.vm = t.vm ∧ XC E (A.U.calling g mk a) t ∧ t.heap[q]? = some ce ∧ ce.vm = .none ∧ A.U.vm.findClass E = some ce.cls ∧ B.locs = A.locs ++ L ∧ (∀ z ∈ L, free z.base) ∧ B.cells = A.cells + mc ∧ B.slots = A.slots + ms
def vx_Back (l : Launch) (R : Room) (p : Program) (e : Env) (below : List Frame) (s : State) (sargs : Array Value) (y : MethodName) (len W9 : Nat)
    (Pre : Pt → Array Value → Prop) (Post : Pt → Array Value → Option Value → Pt → Prop) (PostX : Pt → Array Value → Addr → Pt → Prop) : Prop :=
  ∀ (m : MethodId) (meth : Method) (c : Code) (A : Pt) (g : JFrame) (ig : Instr) (mk : MethodId) (a : Array Value),
    Stand p l e R s m sargs below meth c A.U A.locs A.cells A.slots → g.method = m → g.locals.size = c.maxLocals → decode c.code g.pc = .ok (ig, len) →
    2 * g.monitorRoom + (g.stack.map fun v => v.category).sum ≤ W9 → A.U.methodNamed? y = some mk → Pre A a →
    (∃ (v : Option Value) (B : Pt), Stand p l e R s m sargs below meth c B.U B.locs B.cells B.slots ∧ Post A a v B ∧
      Steps p.tables e below (doInvoke e (A.U.setTop g) [] mk a).1 (B.U.setTop { g with pc := g.pc + len, stack := v.toList ++ g.stack })) ∨
    (∃ (q : Addr) (B : Pt), Stand p l e R s m sargs below meth c B.U B.locs B.cells B.slots ∧ PostX A a q B ∧
      Steps p.tables e below (doInvoke e (A.U.setTop g) [] mk a).1 ((B.U.setTop g).pushFrame (.throwing q)))
section Payer
variable {l : Launch} {R : Room} {p : Program} {e : Env} {below : List Frame} {s : State} {sargs : Array Value} {y : MethodName} {len W9 : Nat}
theorem vx_back {ws : List Cond} {rm : Room} {Pc : Array Value → State → Prop} {Qc : Array Value → State → Outcome → State → Prop} {XC : String → State → State → Prop} {mc ms : Nat} {free : Addr → Prop} {bytes : ByteArray} {maxL : Nat} {ret : Option FieldType}
    (hM : vx_Met l y ws rm Pc Qc XC mc ms free) (hblind : FrameBlind Pc) (hrc : rm.cells = mc) (hrs : rm.slots = ms)
    (hframes : rm.frames + 1 ≤ R.frames) (hlocals : W9 + (maxL + 11) + rm.locals ≤ R.locals)
    (hws : ∀ w ∈ ws, ∀ a' U, s.WarmedH U.vm → w.before a' U = true) (hcode : Cond.code y bytes maxL ret ∈ ws) (hinit : ∀ a' U, s.WarmedH U.vm → (Cond.initialized y.cls).before a' U = true) :
    vx_Back l R p e below s sargs y len W9 (PreOf R mc ms Pc) (PostOf Qc mc ms free) (vx_Post XC mc ms free) := by
  intro m meth c A g ig mk a X hg hsize hdg hW hn hp
  have h1 : (headSpec ws rm).pre.before a A.U = true := atoms_intro fun w hw => hws w hw _ _ X.warmed
  have h2 : (Cond.code y bytes maxL ret).before a A.U = true := hws _ hcode _ _ X.warmed
  have h3 : (Cond.initialized y.cls).before a A.U = true := hinit _ _ X.warmed
  have h4 : A.cells + (headSpec ws rm).room.cells ≤ R.cells := by rw [show (headSpec ws rm).room.cells = mc from hrc]; exact hp.1
  have h5 : A.slots + (headSpec ws rm).room.slots ≤ R.slots := by rw [show (headSpec ws rm).room.slots = ms from hrs]; exact hp.2.1
  have hPc : Pc a (A.U.calling g mk a) := hblind _ _ _ _ hp.2.2
  obtain ⟨U, Ls, c0, s0⟩ := A
  dsimp only [Pt.U, Pt.locs, Pt.cells, Pt.slots] at h1 h2 h3 h4 h5 X hn hPc ⊢
  obtain ⟨methY, cY, hmY, hcY, -, hlY, -, -, -, -⟩ := Cond.code_spec hn h2
  obtain ⟨kY, hkY, -⟩ := className_of_methodNamed hn
  have hinitY : kY.init = .initialized := Cond.initialized_spec (findClass_of_methodNamed hn) hkY h3
  have h : At U g.method c below := by rw [hg]; exact X.here
  have hlocals9 : W9 + (maxL + 11) + (headSpec ws rm).room.locals ≤ R.locals := hlocals
  have happ : (headSpec ws rm).appliesLoose y e.platform (U.calling g mk a) = true :=
    Spec.appliesLoose_calling (g := g) h hdg hn hkY hinitY
      (X.room_calling (g := g) (R' := (headSpec ws rm).room) hsize hmY hcY hframes (by rw [hlY]; omega) h4 h5) h1
  obtain ⟨mid, hmid⟩ := h.above
  have hfr : (U.setTop g).frames = (.java g :: mid) ++ below := by rw [State.frames_setTop' g h.top, hmid]; rfl
  obtain ⟨o, s₂, hsteps, -, hend, hq⟩ := Steps.callFree hM p X.admits X.cas X.clock (acts := []) hfr happ hPc trivial
  have hq' : vx_Q Qc XC mc ms free a (U.calling g mk a) o s₂ := hq
  rw [State.frames_setTop' g h.top] at hend
  obtain ⟨g₀, hg0⟩ := Option.isSome_iff_exists.mp h.top
  obtain ⟨r, hr⟩ := State.topJava?_eq_some.mp hg0
  have hr' : (({ U with heap := s₂.heap, slotsUsed := s₂.slotsUsed } : State).setVm s₂.vm).frames = .java g₀ :: r := hr
  rcases hq' with ⟨hqc, L, hfe, hL⟩ | ⟨q, rfl, E, ce, L, hx, hce, hcv, hcl, hW₂, hsm, hL⟩
  · obtain ⟨⟨v, rfl⟩, hW₂, e2, q2, q3, q4, q5, q6⟩ := id hfe
    have e3 : s₂ = ({ (U.calling g mk a).setFrames s₂.frames with heap := s₂.heap, slotsUsed := s₂.slotsUsed } : State).setVm s₂.vm := by
      have : s₂ = ({ s₂ with vm := (U.calling g mk a).vm } : State).setVm s₂.vm := rfl
      rw [e2] at this
      exact this
    obtain ⟨c₂, i₂, len₂, hc₂, hd₂, hf₂⟩ := hend
    have hW' : U.WarmedH s₂.vm := hW₂
    have hcc : c₂ = c := by
      have h1 : s₂.code? g.method = U.code? g.method := by
        rw [State.code?_eq, State.code?_eq, hW'.alike.method?]
      exact Option.some.inj (hc₂.symm.trans (h1.trans h.code))
    subst hcc
    have hlen : len₂ = len := by rw [hdg] at hd₂; cases hd₂; rfl
    subst hlen
    have hs₂ : s₂ = (({ U with heap := s₂.heap, slotsUsed := s₂.slotsUsed } : State).setVm s₂.vm).setTop { g with pc := g.pc + len₂, stack := v.toList ++ g.stack } := by
      refine e3.trans ?_
      rw [hf₂, State.calling_eq h.top, State.setFrames_setFrames, State.setTop_of_frames _ hr', hr]
      rfl
    have hsame : U.sameButNew ({ U with heap := s₂.heap, slotsUsed := s₂.slotsUsed } : State) L mc ms := by
      refine ⟨?_, q2, q3, q4, q5, q6⟩
      obtain ⟨t, ht, -⟩ := State.frames_cons hr
      show ({ U with heap := s₂.heap, slotsUsed := s₂.slotsUsed } : State) = { U.setFrames U.frames with heap := s₂.heap, slotsUsed := s₂.slotsUsed }
      rw [State.setFrames_self ht]
    subst hg
    refine Or.inl ⟨v, ⟨(({ U with heap := s₂.heap, slotsUsed := s₂.slotsUsed } : State).setVm s₂.vm), Ls ++ L, c0 + mc, s0 + ms⟩,
      ⟨X.admits, X.cas, X.clock, X.frames, X.room, X.hears, X.method, X.code, (X.here.setHeapUsed s₂.heap s₂.slotsUsed).setVm hW'.alike, X.tail, State.WarmedH.trans X.warmed hW', X.limits, X.bytes, X.same.trans (hsame.setVm s.vm)⟩,
      ⟨g, mk, s₂, L, rfl, rfl, hqc, rfl, hL, rfl, rfl⟩, ?_⟩
    show Steps p.tables e below _ ((({ U with heap := s₂.heap, slotsUsed := s₂.slotsUsed } : State).setVm s₂.vm).setTop { g with pc := g.pc + len₂, stack := v.toList ++ g.stack })
    rw [← hs₂]
    exact hsteps
  · obtain ⟨e2, q2, q3, q4, q5, q6⟩ := id hsm
    have e3 : s₂ = ({ (U.calling g mk a).setFrames s₂.frames with heap := s₂.heap, slotsUsed := s₂.slotsUsed } : State).setVm s₂.vm := by
      have : s₂ = ({ s₂ with vm := (U.calling g mk a).vm } : State).setVm s₂.vm := rfl
      rw [e2] at this
      exact this
    have hf₂ : s₂.frames = .throwing q :: .java g :: U.frames.tail := hend
    have hW' : U.WarmedH s₂.vm := hW₂
    have hs₂ : s₂ = ((({ U with heap := s₂.heap, slotsUsed := s₂.slotsUsed } : State).setVm s₂.vm).setTop g).pushFrame (.throwing q) := by
      refine e3.trans ?_
      rw [hf₂, State.calling_eq h.top, State.setFrames_setFrames, State.pushFrame, State.frames_setTop _ hr', State.setTop_of_frames _ hr', State.setFrames_setFrames, hr]
      rfl
    have hsame : U.sameButNew ({ U with heap := s₂.heap, slotsUsed := s₂.slotsUsed } : State) L mc ms := by
      refine ⟨?_, q2, q3, q4, q5, q6⟩
      obtain ⟨t, ht, -⟩ := State.frames_cons hr
      show ({ U with heap := s₂.heap, slotsUsed := s₂.slotsUsed } : State) = { U.setFrames U.frames with heap := s₂.heap, slotsUsed := s₂.slotsUsed }
      rw [State.setFrames_self ht]
    subst hg
    refine Or.inr ⟨q, ⟨(({ U with heap := s₂.heap, slotsUsed := s₂.slotsUsed } : State).setVm s₂.vm), Ls ++ L, c0 + mc, s0 + ms⟩,
      ⟨X.admits, X.cas, X.clock, X.frames, X.room, X.hears, X.method, X.code, (X.here.setHeapUsed s₂.heap s₂.slotsUsed).setVm hW'.alike, X.tail, State.WarmedH.trans X.warmed hW', X.limits, X.bytes, X.same.trans (hsame.setVm s.vm)⟩,
      ⟨g, mk, s₂, L, E, ce, rfl, rfl, hx, hce, hcv, hcl, rfl, hL, rfl, rfl⟩, ?_⟩
    show Steps p.tables e below _ (((({ U with heap := s₂.heap, slotsUsed := s₂.slotsUsed } : State).setVm s₂.vm).setTop g).pushFrame (.throwing q))
    rw [← hs₂]
    exact hsteps
end Payer
section Calls
variable {p : Program} {l : Launch} {e : Env} {R : Room} {s : State} {m : MethodId} {args : Array Value} {below : List Frame} {meth : Method} {c : Code} {T : State} {locs : List Loc} {cells slots : Nat}
theorem vx_callV (X : Stand p l e R s m args below meth c T locs cells slots) (hexec : p.tables.exec = Jvm.exec) {own C : String} {index : Nat} {y : MethodName} {bytes : ByteArray} {maxL : Nat} {ret : Option FieldType}
    (hown : s.vm.findClass own = some m.cls) (hlink : (Cond.methodLink own index y).before args s = true) (hinst : (Cond.instanceMethod y).before args s = true) (hsel : (Cond.selects C y y).before args s = true)
    (hcode : (Cond.code y bytes maxL ret).before args s = true) (hy : y.cls ≠ "java/lang/invoke/MethodHandle" ∧ y.cls ≠ "java/lang/invoke/VarHandle")
    {W9 : Nat} {Pre : Pt → Array Value → Prop} {Post : Pt → Array Value → Option Value → Pt → Prop} {PostX : Pt → Array Value → Addr → Pt → Prop} (hK : vx_Back l R p e below s args y 3 W9 Pre Post PostX)
    {b : Addr} {cellB : Cell} (hcell : T.heap[b]? = some cellB) (hobj : cellB.vm.isStatics = false) (hcls : s.vm.findClass C = some cellB.cls)
    {g : JFrame} (hg : g.method = m) (hsize : g.locals.size = c.maxLocals) {argsL rest : List Value} (hlen : ∀ sig, parseMethodDescriptor y.desc = some sig → argsL.length = sig.parameters.length)
    (hstack : g.stack = argsL.reverse ++ .ref b :: rest) (hW : 2 * g.monitorRoom + (rest.map fun v => v.category).sum ≤ W9) (hdg : decode c.code g.pc = .ok (.invokevirtual index, 3))
    (hpre : ∀ vm₁, s.WarmedH vm₁ → Pre ⟨T.setVm vm₁, locs, cells, slots⟩ (Value.ref b :: argsL).toArray) :
    (∃ (v : Option Value) (vm₁ : Vm) (B : Pt), s.WarmedH vm₁ ∧ Stand p l e R s m args below meth c B.U B.locs B.cells B.slots ∧ Post ⟨T.setVm vm₁, locs, cells, slots⟩ (Value.ref b :: argsL).toArray v B ∧
      ∀ target, Steps p.tables e below (B.U.setTop { g with pc := g.pc + 3, stack := v.toList ++ rest }) target → Steps p.tables e below (T.setTop g) target) ∨
    (∃ (q : Addr) (vm₁ : Vm) (B : Pt), s.WarmedH vm₁ ∧ Stand p l e R s m args below meth c B.U B.locs B.cells B.slots ∧ PostX ⟨T.setVm vm₁, locs, cells, slots⟩ (Value.ref b :: argsL).toArray q B ∧
      Steps p.tables e below (T.setTop g) ((B.U.setTop { g with stack := rest }).pushFrame (.throwing q))) := by
  obtain ⟨mk, methM, hnamed, hmethM, hstM, habM⟩ := Cond.instanceMethod_spec hinst
  obtain ⟨methM', cM, hmethM', -, -, -, -, -, -, hsigM⟩ := Cond.code_spec hnamed hcode
  cases hmethM.symm.trans hmethM'
  obtain ⟨c2, r2, m2, q1, q2, q3, q4, kP, hkP, hkPi⟩ := Cond.selects_spec hsel
  cases hcls.symm.trans q1
  cases (State.methodFound?_of_named hnamed hy).symm.trans q2
  cases hnamed.symm.trans q3
  have hselP : selectMethod e.platform s.vm cellB.cls mk = .method mk := by rw [Launch.admits_selectMethod X.admits]; exact q4
  obtain ⟨vm₁, X₁, hstep₁⟩ := X.invokevirtual hexec hown hlink hnamed hmethM hstM hkP hkPi hy (a := b) (cell := cellB) hcell
    (fun z h => by rw [h] at hobj; cases hobj) hselP hmethM habM hkP hkPi (g := g) hg (argsL := argsL) (rest := rest) (hlen _ hsigM) hstack hdg
  rcases hK m meth c ⟨T.setVm vm₁, locs, cells, slots⟩ { g with stack := rest } (.invokevirtual index) mk (Value.ref b :: argsL).toArray X₁ hg hsize hdg hW (X₁.named hnamed) (hpre vm₁ X₁.warmed) with ⟨v, B, X', hpost, hsteps⟩ | ⟨q, B, X', hpost, hsteps⟩
  · exact Or.inl ⟨v, vm₁, B, X₁.warmed, X', hpost, fun target h => hstep₁ _ fun acts => by rw [doInvoke_state]; exact hsteps.trans h⟩
  · exact Or.inr ⟨q, vm₁, B, X₁.warmed, X', hpost, hstep₁ _ fun acts => by rw [doInvoke_state]; exact hsteps⟩
theorem vx_callS (X : Stand p l e R s m args below meth c T locs cells slots) (hexec : p.tables.exec = Jvm.exec) {own : String} {index : Nat} {y : MethodName} {bytes : ByteArray} {maxL : Nat} {ret : Option FieldType}
    (hown : s.vm.findClass own = some m.cls) (hlink : (Cond.methodLink own index y).before args s = true) (hstat : (Cond.static y).before args s = true) (hinit : (Cond.initialized y.cls).before args s = true)
    (hcode : (Cond.code y bytes maxL ret).before args s = true) (hy : y.cls ≠ "java/lang/invoke/MethodHandle" ∧ y.cls ≠ "java/lang/invoke/VarHandle")
    {W9 : Nat} {Pre : Pt → Array Value → Prop} {Post : Pt → Array Value → Option Value → Pt → Prop} {PostX : Pt → Array Value → Addr → Pt → Prop} (hK : vx_Back l R p e below s args y 3 W9 Pre Post PostX)
    {g : JFrame} (hg : g.method = m) (hsize : g.locals.size = c.maxLocals) {argsL rest : List Value} (hlen : ∀ sig, parseMethodDescriptor y.desc = some sig → argsL.length = sig.parameters.length)
    (hstack : g.stack = argsL.reverse ++ rest) (hW : 2 * g.monitorRoom + (rest.map fun v => v.category).sum ≤ W9) (hdg : decode c.code g.pc = .ok (.invokestatic index, 3))
    (hpre : ∀ vm₁, s.WarmedH vm₁ → Pre ⟨T.setVm vm₁, locs, cells, slots⟩ argsL.toArray) :
    (∃ (v : Option Value) (vm₁ : Vm) (B : Pt), s.WarmedH vm₁ ∧ Stand p l e R s m args below meth c B.U B.locs B.cells B.slots ∧ Post ⟨T.setVm vm₁, locs, cells, slots⟩ argsL.toArray v B ∧
      ∀ target, Steps p.tables e below (B.U.setTop { g with pc := g.pc + 3, stack := v.toList ++ rest }) target → Steps p.tables e below (T.setTop g) target) ∨
    (∃ (q : Addr) (vm₁ : Vm) (B : Pt), s.WarmedH vm₁ ∧ Stand p l e R s m args below meth c B.U B.locs B.cells B.slots ∧ PostX ⟨T.setVm vm₁, locs, cells, slots⟩ argsL.toArray q B ∧
      Steps p.tables e below (T.setTop g) ((B.U.setTop { g with stack := rest }).pushFrame (.throwing q))) := by
  obtain ⟨mk, hnamed⟩ := Cond.code_named hcode
  obtain ⟨methM, cM, hmethM, -, -, -, -, -, -, hsigM⟩ := Cond.code_spec hnamed hcode
  have hstatic : methM.isStatic = true := Cond.static_spec hnamed hmethM hstat
  obtain ⟨kP, hkP, -⟩ := className_of_methodNamed hnamed
  have hinitP : kP.init = .initialized := Cond.initialized_spec (findClass_of_methodNamed hnamed) hkP hinit
  obtain ⟨vm₁, X₁, hstep₁⟩ := X.invokestatic hexec hown hlink hnamed hmethM hstatic hkP hinitP hy (g := g) hg (argsL := argsL) (rest := rest) (hlen _ hsigM) hstack hdg
  rcases hK m meth c ⟨T.setVm vm₁, locs, cells, slots⟩ { g with stack := rest } (.invokestatic index) mk argsL.toArray X₁ hg hsize hdg hW (X₁.named hnamed) (hpre vm₁ X₁.warmed) with ⟨v, B, X', hpost, hsteps⟩ | ⟨q, B, X', hpost, hsteps⟩
  · exact Or.inl ⟨v, vm₁, B, X₁.warmed, X', hpost, fun target h => hstep₁ _ fun acts => by rw [doInvoke_state]; exact hsteps.trans h⟩
  · exact Or.inr ⟨q, vm₁, B, X₁.warmed, X', hpost, hstep₁ _ fun acts => by rw [doInvoke_state]; exact hsteps⟩
end Calls
theorem vx_cls {s : State} {T : State} {vm₁ : Vm} {E : String} {k : ClassId} (hW : s.WarmedH vm₁) (h : (T.setVm vm₁).vm.findClass E = some k) : s.vm.findClass E = some k := by
  have h1 : vm₁.findClass E = some k := h
  rw [hW.alike.findClass] at h1
  exact h1
/-- the method's frame g, with q thrown over it -/
def vx_W (p : Program) (l : Launch) (e : Env) (R : Room) (s : State) (m : MethodId) (args : Array Value) (below : List Frame) (meth : Method) (c : Code) (H : Heap) (locs : List Loc) (cells slots : Nat) (Q : State → Prop) (g : JFrame) (q : Addr) : Prop :=
  ∀ T : State, T.heap = H → Stand p l e R s m args below meth c T locs cells slots → ∃ t, Steps p.tables e below ((T.setTop g).pushFrame (.throwing q)) t ∧ Q t
def vx_Run (p : Program) (l : Launch) (e : Env) (R : Room) (s : State) (m : MethodId) (args : Array Value) (below : List Frame) (meth : Method) (c : Code) (H : Heap) (locs : List Loc) (cells slots mc ms : Nat) (g : JFrame) (rest : List Value) (Qa : State → Outcome → State → Prop) (XC : String → State → State → Prop) (free : Addr → Prop) : Prop :=
  ∀ T : State, T.heap = H → Stand p l e R s m args below meth c T locs cells slots →
    (∃ (v : Option Value) (st₀ t T' : State) (L : List Loc), st₀.heap = H ∧ Stand p l e R s m args below meth c T' (locs ++ L) (cells + mc) (slots + ms) ∧ (∀ q ∈ L, free q.base) ∧ T'.heap = t.heap ∧ T'.vm = t.vm ∧ Qa st₀ (.returned v) t ∧
      Goes p e below T g T' { g with pc := g.pc + 3, stack := v.toList ++ rest }) ∨
    (∃ (q : Addr) (st₀ t T' : State) (L : List Loc) (E : String) (ce : Cell), st₀.heap = H ∧ Stand p l e R s m args below meth c T' (locs ++ L) (cells + mc) (slots + ms) ∧ (∀ z ∈ L, free z.base) ∧ T'.heap = t.heap ∧ T'.vm = t.vm ∧ XC E st₀ t ∧ t.heap[q]? = some ce ∧ ce.vm = .none ∧ s.vm.findClass E = some ce.cls ∧
      Steps p.tables e below (T.setTop g) ((T'.setTop { g with stack := rest }).pushFrame (.throwing q)))
def vx_X {S : Type} (px : S → Prop) (B : String → S → State → Prop) (A : Nat → Prop) : String → State → State → Prop := fun E st t => ∃ u : S, px u ∧ B E u t ∧ va_F A st t
section Runs
variable {p : Program} {l : Launch} {e : Env} {R : Room} {s : State} {m : MethodId} {args : Array Value} {below : List Frame} {meth : Method} {c : Code} {H : Heap} {locs : List Loc} {cells slots : Nat}
variable {y : MethodName} {bytes cc : ByteArray} {maxL nL mc ms n index : Nat} {ret : Option FieldType} {ws : List Cond} {rm : Room} {Pc : Array Value → State → Prop} {Qc : Array Value → State → Outcome → State → Prop} {XC : String → State → State → Prop} {free : Addr → Prop} {Ts : List Cond} {own C : String} {b : Addr} {As rest : List Value} {g : JFrame}
theorem vx_callBack (cb : CallB R s args own index y bytes maxL ret ws rm mc ms n) (hM : vx_Met l y ws rm Pc Qc XC mc ms free) (hbl : FrameBlind Pc) : vx_Back l R p e below s args y 3 8 (PreOf R mc ms Pc) (PostOf Qc mc ms free) (vx_Post XC mc ms free) := by
  obtain ⟨hrc, hrs, hfr, hlo, hws, hcw, -, hini, -⟩ := cb
  exact vx_back (bytes := bytes) (maxL := maxL) (ret := ret) hM hbl hrc hrs hfr hlo hws hcw (fun a' U hW => word_at hW (Or.inl (by first | rfl | simp [Cond.onTables, Cond.keeps, Cond.steady])) hini)
theorem vx_runV (S : CallFix p m c cc nL s args Ts own) (hM : vx_Met l y ws rm Pc Qc XC mc ms free) (cw : CallW R s args own C index y bytes maxL ret ws rm mc ms n) (hp : PreV s H C b Pc As)
    (hg : g.method = m) (hn : As.length = n) (hsize : g.locals.size = nL) (hstack : g.stack = As.reverse ++ .ref b :: rest) (hW : 2 * g.monitorRoom + (rest.map fun v => v.category).sum ≤ 8) (hdg : decode cc g.pc = .ok (.invokevirtual index, 3)) (hf : cells + mc ≤ R.cells ∧ slots + ms ≤ R.slots) :
    vx_Run p l e R s m args below meth c H locs cells slots mc ms g rest (Qc (Value.ref b :: As).toArray) XC free := by
  have hK : vx_Back l R p e below s args y 3 8 (PreOf R mc ms Pc) (PostOf Qc mc ms free) (vx_Post XC mc ms free) := vx_callBack cw.1 hM hp.1
  obtain ⟨⟨-, -, -, -, -, -, hcode, -, hy, hlen, hl⟩, hin, hse⟩ := cw
  obtain ⟨hx, hb, hml, ho, -⟩ := S
  obtain ⟨-, ⟨cellB, hcB, hoB, hclB⟩, hPc⟩ := hp
  intro T hT X
  rcases vx_callV X hx (C := C) (bytes := bytes) (maxL := maxL) (ret := ret) ho hl hin hse hcode hy hK (by rw [hT]; exact hcB) hoB hclB hg (hsize.trans hml.symm) (argsL := As) (rest := rest) (fun sig h => hn.trans (hlen sig h)) hstack hW (by rw [hb]; exact hdg)
    (fun vm₁ hW₁ => ⟨hf.1, hf.2, hPc (T.setVm vm₁) hT hW₁⟩) with ⟨v, vm₁, ⟨U', l2, c2, s2⟩, hW₁, X', ⟨g', mk, t, L, e1, e2, hq, h1, hL, h2, h3⟩, st⟩ | ⟨q, vm₁, ⟨U', l2, c2, s2⟩, hW₁, X', ⟨g', mk, t, L, E, ce, e1, e2, hq, hce, hcv, hcl, h1, hL, h2, h3⟩, st⟩
  · dsimp only [Pt.U, Pt.locs, Pt.cells, Pt.slots] at X' e1 e2 h1 h2 h3 st
    subst h1; subst h2; subst h3
    exact Or.inl ⟨v, (T.setVm vm₁).calling g' mk (Value.ref b :: As).toArray, t, U', L, hT, X', hL, e1, e2, hq, st⟩
  · dsimp only [Pt.U, Pt.locs, Pt.cells, Pt.slots] at X' e1 e2 h1 h2 h3 st hcl
    subst h1; subst h2; subst h3
    exact Or.inr ⟨q, (T.setVm vm₁).calling g' mk (Value.ref b :: As).toArray, t, U', L, E, ce, hT, X', hL, e1, e2, hq, hce, hcv, vx_cls hW₁ hcl, st⟩
theorem vx_runS (S : CallFix p m c cc nL s args Ts own) (hM : vx_Met l y ws rm Pc Qc XC mc ms free) (cw : CallB R s args own index y bytes maxL ret ws rm mc ms n ∧ (Cond.static y).before args s = true) (hp : PreS s H Pc As)
    (hg : g.method = m) (hn : As.length = n) (hsize : g.locals.size = nL) (hstack : g.stack = As.reverse ++ rest) (hW : 2 * g.monitorRoom + (rest.map fun v => v.category).sum ≤ 8) (hdg : decode cc g.pc = .ok (.invokestatic index, 3)) (hf : cells + mc ≤ R.cells ∧ slots + ms ≤ R.slots) :
    vx_Run p l e R s m args below meth c H locs cells slots mc ms g rest (Qc As.toArray) XC free := by
  have hK : vx_Back l R p e below s args y 3 8 (PreOf R mc ms Pc) (PostOf Qc mc ms free) (vx_Post XC mc ms free) := vx_callBack cw.1 hM hp.1
  obtain ⟨⟨-, -, -, -, -, -, hcode, hini, hy, hlen, hl⟩, hstt⟩ := cw
  obtain ⟨hx, hb, hml, ho, -⟩ := S
  intro T hT X
  rcases vx_callS X hx (bytes := bytes) (maxL := maxL) (ret := ret) ho hl hstt hini hcode hy hK hg (hsize.trans hml.symm) (argsL := As) (rest := rest) (fun sig h => hn.trans (hlen sig h)) hstack hW (by rw [hb]; exact hdg)
    (fun vm₁ hW₁ => ⟨hf.1, hf.2, hp.2 (T.setVm vm₁) hT hW₁⟩) with ⟨v, vm₁, ⟨U', l2, c2, s2⟩, hW₁, X', ⟨g', mk, t, L, e1, e2, hq, h1, hL, h2, h3⟩, st⟩ | ⟨q, vm₁, ⟨U', l2, c2, s2⟩, hW₁, X', ⟨g', mk, t, L, E, ce, e1, e2, hq, hce, hcv, hcl, h1, hL, h2, h3⟩, st⟩
  · dsimp only [Pt.U, Pt.locs, Pt.cells, Pt.slots] at X' e1 e2 h1 h2 h3 st
    subst h1; subst h2; subst h3
    exact Or.inl ⟨v, (T.setVm vm₁).calling g' mk As.toArray, t, U', L, hT, X', hL, e1, e2, hq, st⟩
  · dsimp only [Pt.U, Pt.locs, Pt.cells, Pt.slots] at X' e1 e2 h1 h2 h3 st hcl
    subst h1; subst h2; subst h3
    exact Or.inr ⟨q, (T.setVm vm₁).calling g' mk As.toArray, t, U', L, E, ce, hT, X', hL, e1, e2, hq, hce, hcv, vx_cls hW₁ hcl, st⟩
end Runs
section Rows
variable {p : Program} {l : Launch} {e : Env} {R : Room} {s : State} {m : MethodId} {args : Array Value} {below : List Frame} {meth : Method} {c : Code} {H : Heap} {locs : List Loc} {cells slots : Nat} {Q : State → Prop}
variable {mc ms : Nat} {free : Addr → Prop} {A0 A1 : Nat → Prop} {H0 : Heap} {a : Array Value} {pc : Nat} {ls : Array Slot} {st0 rest : List Value}
theorem vx_keep {st₀ t T' : State} {L : List Loc} (h0 : st₀.heap = H) (e1 : T'.heap = t.heap) (hS : va_S A0 H0 H locs) (hA : ∀ q, q < H.size → A1 q → A0 q) (hf : ∀ q, free q → A0 q) (hL : ∀ q ∈ L, free q.base) (hF : va_F A1 st₀ t) :
    H.size ≤ T'.heap.size ∧ (∀ q : Nat, q < H.size → ¬ A1 q → T'.heap[q]? = H[q]?) ∧ va_S A0 H0 T'.heap (locs ++ L) := by
  obtain ⟨hz, hk⟩ := hF
  rw [h0] at hz hk
  exact ⟨by rw [e1]; exact hz, fun q h1 h2 => by rw [e1]; exact hk q h1 h2,
    ⟨Nat.le_trans hS.1 (by rw [e1]; exact hz), fun q h1 h2 => by rw [e1, hk q (Nat.lt_of_lt_of_le h1 hS.1) (fun z => h2 (hA q (Nat.lt_of_lt_of_le h1 hS.1) z))]; exact hS.2.1 q h1 h2, fun q hq => by
      rcases List.mem_append.mp hq with h | h
      · exact hS.2.2 q h
      · exact hf _ (hL q h)⟩⟩
theorem vx_calli {S SX : Type} {post : Int32 → S → Prop} {px : SX → Prop} {B : S → State → Prop} {BX : String → SX → State → Prop} {AX : Nat → Prop} (hr : vx_Run p l e R s m args below meth c H locs cells slots mc ms (F0 m pc ls st0) rest (va_Qi post B A1 a) (vx_X px BX AX) free) (hS : va_S A0 H0 H locs) (hA : ∀ q, q < H.size → A1 q → A0 q) (hf : ∀ q, free q → A0 q) (hAX : ∀ q, q < H.size → AX q → A0 q)
    (kx : ∀ (E : String) (ce : Cell) (q9 : Addr) (u : SX) (t : State) (H1 : Heap) (locs1 : List Loc), t.heap = H1 → s.vm.Alike t.vm → px u → BX E u t → H.size ≤ H1.size → (∀ q : Nat, q < H.size → ¬ AX q → H1[q]? = H[q]?) → va_S A0 H0 H1 locs1 → H1[q9]? = some ce → ce.vm = .none → s.vm.findClass E = some ce.cls → vx_W p l e R s m args below meth c H1 locs1 (cells + mc) (slots + ms) Q (F0 m pc ls rest) q9)
    (kk : ∀ (r : Int32) (u : S) (t : State) (H1 : Heap) (locs1 : List Loc), t.heap = H1 → s.vm.Alike t.vm → post r u → B u t → H.size ≤ H1.size → (∀ q : Nat, q < H.size → ¬ A1 q → H1[q]? = H[q]?) → va_S A0 H0 H1 locs1 → W p l e R s m args below meth c H1 locs1 (cells + mc) (slots + ms) Q (F0 m (pc + 3) ls (.int r :: rest))) : W p l e R s m args below meth c H locs cells slots Q (F0 m pc ls st0) := by
  intro T hT X
  rcases hr T hT X with ⟨v, st₀, t, T', L, h0, X', hL, e1, e2, ⟨⟨r, u, hv, hp, hb⟩, hF⟩, st⟩ | ⟨q, st₀, t, T', L, E, ce, h0, X', hL, e1, e2, ⟨u, hp, hb, hF⟩, hce, hcv, hcl, st⟩
  · cases hv
    obtain ⟨k1, k2, k3⟩ := vx_keep h0 e1 hS hA hf hL hF
    obtain ⟨t2, a1, b1⟩ := kk r u t T'.heap (locs ++ L) e1.symm (by rw [← e2]; exact X'.warmed.alike) hp hb k1 k2 k3 T' rfl X'
    exact ⟨t2, st t2 a1, b1⟩
  · obtain ⟨k1, k2, k3⟩ := vx_keep h0 e1 hS hAX hf hL hF
    obtain ⟨t2, a1, b1⟩ := kx E ce q u t T'.heap (locs ++ L) e1.symm (by rw [← e2]; exact X'.warmed.alike) hp hb k1 k2 k3 (by rw [e1]; exact hce) hcv hcl T' rfl X'
    exact ⟨t2, st.trans a1, b1⟩
theorem vx_calll {S SX : Type} {post : Int64 → S → Prop} {px : SX → Prop} {B : S → State → Prop} {BX : String → SX → State → Prop} {AX : Nat → Prop} (hr : vx_Run p l e R s m args below meth c H locs cells slots mc ms (F0 m pc ls st0) rest (va_Ql post B A1 a) (vx_X px BX AX) free) (hS : va_S A0 H0 H locs) (hA : ∀ q, q < H.size → A1 q → A0 q) (hf : ∀ q, free q → A0 q) (hAX : ∀ q, q < H.size → AX q → A0 q)
    (kx : ∀ (E : String) (ce : Cell) (q9 : Addr) (u : SX) (t : State) (H1 : Heap) (locs1 : List Loc), t.heap = H1 → s.vm.Alike t.vm → px u → BX E u t → H.size ≤ H1.size → (∀ q : Nat, q < H.size → ¬ AX q → H1[q]? = H[q]?) → va_S A0 H0 H1 locs1 → H1[q9]? = some ce → ce.vm = .none → s.vm.findClass E = some ce.cls → vx_W p l e R s m args below meth c H1 locs1 (cells + mc) (slots + ms) Q (F0 m pc ls rest) q9)
    (kk : ∀ (r : Int64) (u : S) (t : State) (H1 : Heap) (locs1 : List Loc), t.heap = H1 → s.vm.Alike t.vm → post r u → B u t → H.size ≤ H1.size → (∀ q : Nat, q < H.size → ¬ A1 q → H1[q]? = H[q]?) → va_S A0 H0 H1 locs1 → W p l e R s m args below meth c H1 locs1 (cells + mc) (slots + ms) Q (F0 m (pc + 3) ls (.long r :: rest))) : W p l e R s m args below meth c H locs cells slots Q (F0 m pc ls st0) := by
  intro T hT X
  rcases hr T hT X with ⟨v, st₀, t, T', L, h0, X', hL, e1, e2, ⟨⟨r, u, hv, hp, hb⟩, hF⟩, st⟩ | ⟨q, st₀, t, T', L, E, ce, h0, X', hL, e1, e2, ⟨u, hp, hb, hF⟩, hce, hcv, hcl, st⟩
  · cases hv
    obtain ⟨k1, k2, k3⟩ := vx_keep h0 e1 hS hA hf hL hF
    obtain ⟨t2, a1, b1⟩ := kk r u t T'.heap (locs ++ L) e1.symm (by rw [← e2]; exact X'.warmed.alike) hp hb k1 k2 k3 T' rfl X'
    exact ⟨t2, st t2 a1, b1⟩
  · obtain ⟨k1, k2, k3⟩ := vx_keep h0 e1 hS hAX hf hL hF
    obtain ⟨t2, a1, b1⟩ := kx E ce q u t T'.heap (locs ++ L) e1.symm (by rw [← e2]; exact X'.warmed.alike) hp hb k1 k2 k3 (by rw [e1]; exact hce) hcv hcl T' rfl X'
    exact ⟨t2, st.trans a1, b1⟩
theorem vx_callf {S SX : Type} {post : UInt32 → S → Prop} {px : SX → Prop} {B : S → State → Prop} {BX : String → SX → State → Prop} {AX : Nat → Prop} (hr : vx_Run p l e R s m args below meth c H locs cells slots mc ms (F0 m pc ls st0) rest (va_Qf post B A1 a) (vx_X px BX AX) free) (hS : va_S A0 H0 H locs) (hA : ∀ q, q < H.size → A1 q → A0 q) (hf : ∀ q, free q → A0 q) (hAX : ∀ q, q < H.size → AX q → A0 q)
    (kx : ∀ (E : String) (ce : Cell) (q9 : Addr) (u : SX) (t : State) (H1 : Heap) (locs1 : List Loc), t.heap = H1 → s.vm.Alike t.vm → px u → BX E u t → H.size ≤ H1.size → (∀ q : Nat, q < H.size → ¬ AX q → H1[q]? = H[q]?) → va_S A0 H0 H1 locs1 → H1[q9]? = some ce → ce.vm = .none → s.vm.findClass E = some ce.cls → vx_W p l e R s m args below meth c H1 locs1 (cells + mc) (slots + ms) Q (F0 m pc ls rest) q9)
    (kk : ∀ (r : UInt32) (u : S) (t : State) (H1 : Heap) (locs1 : List Loc), t.heap = H1 → s.vm.Alike t.vm → post r u → B u t → H.size ≤ H1.size → (∀ q : Nat, q < H.size → ¬ A1 q → H1[q]? = H[q]?) → va_S A0 H0 H1 locs1 → W p l e R s m args below meth c H1 locs1 (cells + mc) (slots + ms) Q (F0 m (pc + 3) ls (.float r :: rest))) : W p l e R s m args below meth c H locs cells slots Q (F0 m pc ls st0) := by
  intro T hT X
  rcases hr T hT X with ⟨v, st₀, t, T', L, h0, X', hL, e1, e2, ⟨⟨r, u, hv, hp, hb⟩, hF⟩, st⟩ | ⟨q, st₀, t, T', L, E, ce, h0, X', hL, e1, e2, ⟨u, hp, hb, hF⟩, hce, hcv, hcl, st⟩
  · cases hv
    obtain ⟨k1, k2, k3⟩ := vx_keep h0 e1 hS hA hf hL hF
    obtain ⟨t2, a1, b1⟩ := kk r u t T'.heap (locs ++ L) e1.symm (by rw [← e2]; exact X'.warmed.alike) hp hb k1 k2 k3 T' rfl X'
    exact ⟨t2, st t2 a1, b1⟩
  · obtain ⟨k1, k2, k3⟩ := vx_keep h0 e1 hS hAX hf hL hF
    obtain ⟨t2, a1, b1⟩ := kx E ce q u t T'.heap (locs ++ L) e1.symm (by rw [← e2]; exact X'.warmed.alike) hp hb k1 k2 k3 (by rw [e1]; exact hce) hcv hcl T' rfl X'
    exact ⟨t2, st.trans a1, b1⟩
theorem vx_calld {S SX : Type} {post : UInt64 → S → Prop} {px : SX → Prop} {B : S → State → Prop} {BX : String → SX → State → Prop} {AX : Nat → Prop} (hr : vx_Run p l e R s m args below meth c H locs cells slots mc ms (F0 m pc ls st0) rest (va_Qd post B A1 a) (vx_X px BX AX) free) (hS : va_S A0 H0 H locs) (hA : ∀ q, q < H.size → A1 q → A0 q) (hf : ∀ q, free q → A0 q) (hAX : ∀ q, q < H.size → AX q → A0 q)
    (kx : ∀ (E : String) (ce : Cell) (q9 : Addr) (u : SX) (t : State) (H1 : Heap) (locs1 : List Loc), t.heap = H1 → s.vm.Alike t.vm → px u → BX E u t → H.size ≤ H1.size → (∀ q : Nat, q < H.size → ¬ AX q → H1[q]? = H[q]?) → va_S A0 H0 H1 locs1 → H1[q9]? = some ce → ce.vm = .none → s.vm.findClass E = some ce.cls → vx_W p l e R s m args below meth c H1 locs1 (cells + mc) (slots + ms) Q (F0 m pc ls rest) q9)
    (kk : ∀ (r : UInt64) (u : S) (t : State) (H1 : Heap) (locs1 : List Loc), t.heap = H1 → s.vm.Alike t.vm → post r u → B u t → H.size ≤ H1.size → (∀ q : Nat, q < H.size → ¬ A1 q → H1[q]? = H[q]?) → va_S A0 H0 H1 locs1 → W p l e R s m args below meth c H1 locs1 (cells + mc) (slots + ms) Q (F0 m (pc + 3) ls (.double r :: rest))) : W p l e R s m args below meth c H locs cells slots Q (F0 m pc ls st0) := by
  intro T hT X
  rcases hr T hT X with ⟨v, st₀, t, T', L, h0, X', hL, e1, e2, ⟨⟨r, u, hv, hp, hb⟩, hF⟩, st⟩ | ⟨q, st₀, t, T', L, E, ce, h0, X', hL, e1, e2, ⟨u, hp, hb, hF⟩, hce, hcv, hcl, st⟩
  · cases hv
    obtain ⟨k1, k2, k3⟩ := vx_keep h0 e1 hS hA hf hL hF
    obtain ⟨t2, a1, b1⟩ := kk r u t T'.heap (locs ++ L) e1.symm (by rw [← e2]; exact X'.warmed.alike) hp hb k1 k2 k3 T' rfl X'
    exact ⟨t2, st t2 a1, b1⟩
  · obtain ⟨k1, k2, k3⟩ := vx_keep h0 e1 hS hAX hf hL hF
    obtain ⟨t2, a1, b1⟩ := kx E ce q u t T'.heap (locs ++ L) e1.symm (by rw [← e2]; exact X'.warmed.alike) hp hb k1 k2 k3 (by rw [e1]; exact hce) hcv hcl T' rfl X'
    exact ⟨t2, st.trans a1, b1⟩
theorem vx_callv {S SX : Type} {post : S → Prop} {px : SX → Prop} {B : S → State → Prop} {BX : String → SX → State → Prop} {AX : Nat → Prop} (hr : vx_Run p l e R s m args below meth c H locs cells slots mc ms (F0 m pc ls st0) rest (va_Qv post B A1 a) (vx_X px BX AX) free) (hS : va_S A0 H0 H locs) (hA : ∀ q, q < H.size → A1 q → A0 q) (hf : ∀ q, free q → A0 q) (hAX : ∀ q, q < H.size → AX q → A0 q)
    (kx : ∀ (E : String) (ce : Cell) (q9 : Addr) (u : SX) (t : State) (H1 : Heap) (locs1 : List Loc), t.heap = H1 → s.vm.Alike t.vm → px u → BX E u t → H.size ≤ H1.size → (∀ q : Nat, q < H.size → ¬ AX q → H1[q]? = H[q]?) → va_S A0 H0 H1 locs1 → H1[q9]? = some ce → ce.vm = .none → s.vm.findClass E = some ce.cls → vx_W p l e R s m args below meth c H1 locs1 (cells + mc) (slots + ms) Q (F0 m pc ls rest) q9)
    (kk : ∀ (u : S) (t : State) (H1 : Heap) (locs1 : List Loc), t.heap = H1 → s.vm.Alike t.vm → post u → B u t → H.size ≤ H1.size → (∀ q : Nat, q < H.size → ¬ A1 q → H1[q]? = H[q]?) → va_S A0 H0 H1 locs1 → W p l e R s m args below meth c H1 locs1 (cells + mc) (slots + ms) Q (F0 m (pc + 3) ls (rest))) : W p l e R s m args below meth c H locs cells slots Q (F0 m pc ls st0) := by
  intro T hT X
  rcases hr T hT X with ⟨v, st₀, t, T', L, h0, X', hL, e1, e2, ⟨⟨u, hv, hp, hb⟩, hF⟩, st⟩ | ⟨q, st₀, t, T', L, E, ce, h0, X', hL, e1, e2, ⟨u, hp, hb, hF⟩, hce, hcv, hcl, st⟩
  · cases hv
    obtain ⟨k1, k2, k3⟩ := vx_keep h0 e1 hS hA hf hL hF
    obtain ⟨t2, a1, b1⟩ := kk u t T'.heap (locs ++ L) e1.symm (by rw [← e2]; exact X'.warmed.alike) hp hb k1 k2 k3 T' rfl X'
    exact ⟨t2, st t2 a1, b1⟩
  · obtain ⟨k1, k2, k3⟩ := vx_keep h0 e1 hS hAX hf hL hF
    obtain ⟨t2, a1, b1⟩ := kx E ce q u t T'.heap (locs ++ L) e1.symm (by rw [← e2]; exact X'.warmed.alike) hp hb k1 k2 k3 (by rw [e1]; exact hce) hcv hcl T' rfl X'
    exact ⟨t2, st.trans a1, b1⟩
/-- caught by the row x of this method's table; the rows ahead don't take it -/
theorem vx_catch {own name : String} {E : String} {ce : Cell} {q : Addr} (hown : s.vm.findClass own = some m.cls) (pre : List ExceptionTableEntry) (x : ExceptionTableEntry) (suf : List ExceptionTableEntry) (hsplit : c.exceptionTable.toList = pre ++ x :: suf)
    (hpass : ∀ z ∈ pre, covers z pc = false ∨ (z.catchType ≠ 0 ∧ ∃ nm : String, (Cond.classLink own z.catchType nm).before args s = true ∧ va_Nc E nm s)) (hx : covers x pc = true) (h0 : x.catchType ≠ 0)
    (hlink : (Cond.classLink own x.catchType name).before args s = true) (hcast : (Cond.castable E name).before args s = true) (hcell : H[q]? = some ce) (hv : ce.vm = .none) (hcl : s.vm.findClass E = some ce.cls)
    (kk : W p l e R s m args below meth c H locs cells slots Q (F0 m x.handlerPc ls [.ref q])) : vx_W p l e R s m args below meth c H locs cells slots Q (F0 m pc ls rest) q := by
  intro T hT X
  have hpl : e.platform.magicAccessors = ({} : Platform).magicAccessors := by rw [X.admits.platform]
  obtain ⟨c3, c4, hc3, hc4, hasg⟩ := Cond.castable_spec hcast
  cases Option.some.inj (hc3.symm.trans hcl)
  obtain ⟨c5, hc5, hcl5⟩ := Cond.classLink_spec hown hlink e.platform hpl
  cases Option.some.inj (hc4.symm.trans hc5)
  obtain ⟨vm', X', st⟩ := X.thenCaughtThrough q (g := F0 m pc ls rest) rfl (Steps.refl _) (by rw [hT]; exact hcell) (by rw [hv]; rfl) (by obtain ⟨k9, h9, -⟩ := Vm.findClass_spec hcl; exact ⟨k9, h9⟩) pre x suf hsplit
    (fun z hz => by
      rcases hpass z hz with h | ⟨hz0, nm, hl1, hn1⟩
      · exact Or.inl h
      · obtain ⟨c6, hc6, hcl6⟩ := Cond.classLink_spec hown hl1 e.platform hpl
        obtain ⟨a8, b8, h1, h2, h3⟩ := hn1
        cases Option.some.inj (h1.symm.trans hcl)
        cases Option.some.inj (h2.symm.trans hc6)
        exact Or.inr ⟨hz0, _, hcl6, h3⟩) hx (Or.inr ⟨h0, c4, hcl5, hasg⟩)
  obtain ⟨t, a1, b1⟩ := kk (T.setVm vm') hT X'
  exact ⟨t, st.trans a1, b1⟩
end Rows
section Ends
variable {p : Program} {l : Launch} {e : Env} {R : Room} {s : State} {m : MethodId} {args : Array Value} {below : List Frame} {meth : Method} {c : Code} {H : Heap} {locs : List Loc} {cells slots : Nat} {Q : State → Prop}
variable {mc ms : Nat} {free : Addr → Prop} {A0 A1 : Nat → Prop} {H0 : Heap} {a : Array Value} {ls : Array Slot} {st0 rest : List Value}
variable {Qc : Array Value → State → Outcome → State → Prop} {XC : String → State → State → Prop}
/-- what a body that may throw owes at its end -/
def vx_MQ (below : List Frame) (Qc : Array Value → State → Outcome → State → Prop) (XC : String → State → State → Prop) (a : Array Value) (s : State) (mc ms : Nat) (free : Addr → Prop) : State → Prop := fun t =>
  ∃ o, t.status = .running ∧ Ended t below o ∧ vx_Q Qc XC mc ms free a s o t
theorem vx_ret {g : JFrame} {mc ms : Nat} (k : W p l e R s m args below meth c H locs cells slots (MQ below Qc args s mc ms free) g) : W p l e R s m args below meth c H locs cells slots (vx_MQ below Qc XC args s mc ms free) g := by
  intro T hT X
  obtain ⟨t, a1, o, b1, b2, b3, b4⟩ := k T hT X
  exact ⟨t, a1, o, b1, b2, Or.inl ⟨b3, b4⟩⟩
/-- not caught here: it goes on to the caller -/
theorem vx_widen {g : JFrame} {q : Addr} {k n : Nat} (h1 : cells ≤ k) (h2 : slots ≤ n) (kk : vx_W p l e R s m args below meth c H locs k n Q g q) : vx_W p l e R s m args below meth c H locs cells slots Q g q := fun T hT X => kk T hT (stand_widen X h1 h2)
theorem vx_out {pc : Nat} {E : String} {ce : Cell} {q : Addr} {mc ms : Nat} (hout : ∀ x ∈ c.exceptionTable.toList, covers x pc = false) (hlocks : meth.locks = false) (hcell : H[q]? = some ce) (hv : ce.vm = .none) (hcl : s.vm.findClass E = some ce.cls)
    (hx : ∀ t : State, t.heap = H → s.vm.Alike t.vm → XC E s t) (hf : ∀ z ∈ locs, free z.base) (hc : cells ≤ mc) (hs : slots ≤ ms) :
    vx_W p l e R s m args below meth c H locs cells slots (vx_MQ below Qc XC args s mc ms free) (F0 m pc ls rest) q := by
  intro T hT X
  obtain ⟨st1, hrun, hend, hW, hsm⟩ := X.leaveThrown q (g := F0 m pc ls rest) rfl rfl rfl hout hlocks
  have hcell9 : (T.setFrames (.throwing q :: below)).heap[q]? = some ce := by
    show T.heap[q]? = some ce
    rw [hT]; exact hcell
  exact ⟨_, st1, .threw q, hrun, hend, Or.inr ⟨q, rfl, E, ce, locs, hx _ hT hW.alike, hcell9, hv, hcl, hW, hsm.mono hc hs, hf⟩⟩
theorem vx_frame {U : State} {k n : Nat} (h : s.sameButNew ({ U with vm := s.vm } : State) locs k n) : s.heap.size ≤ U.heap.size ∧ ∀ q : Nat, q < s.heap.size → (∀ z ∈ locs, z.base ≠ q) → U.heap[q]? = s.heap[q]? := by
  obtain ⟨-, h2, -, -, -, h6⟩ := h
  refine ⟨h2, fun q hq hz => ?_⟩
  obtain ⟨c9, e1, e2, e3, e4⟩ := h6 q _ (Array.getElem?_eq_getElem hq)
  have hs : c9.slots = (s.heap[q]).slots := Array.ext_getElem? fun i => e4 i fun hm => hz _ hm rfl
  have h9 : c9 = s.heap[q] := by
    rw [hs] at e2
    exact e2
  have e5 : U.heap[q]? = some c9 := e1
  rw [e5, h9, Array.getElem?_eq_getElem hq]
/-- the words of a throw but the four that speak of the heap -/
def vx_no (w : Cond) : Bool := decide (w ≠ .isRef (.static Bundle.tN "UNASSIGNED_STACK" Bundle.steD)) && decide (w ≠ .isRef (.static Bundle.tN "SUPPRESSED_SENTINEL" Bundle.listD)) && decide (w ≠ .laysStatic Bundle.tN "UNASSIGNED_STACK" Bundle.steD) && decide (w ≠ .laysStatic Bundle.tN "SUPPRESSED_SENTINEL" Bundle.listD)
def vx_at0 (own : String) (ic : Nat) (X : String) (names : List String) : List Cond := (Bundle.ownAtoms0 own ic X names).filter vx_no
def vx_atS (own : String) (ic : Nat) (X : String) (names : List String) : List Cond := (Bundle.ownAtoms own ic X names).filter vx_no
/-- a word that the tables alone decide, or a good one -/
def vx_ot (w : Cond) : Bool := w.onTables || goodWord w
theorem vx_ot_at {args a' : Array Value} {s U : State} {w : Cond} (hW : s.WarmedH U.vm) (hvm : s.vm = U.vm) (hg : vx_ot w = true) (h : w.before args s = true) : w.before a' U = true := by
  simp only [vx_ot, Bool.or_eq_true] at hg
  rcases hg with hg | hg
  · exact va_tabs hg hvm h
  · exact word_at hW (good_of_word hg) h
/-- a list's words: the good ones out of the method's own list, the others by premises of their own -/
theorem vx_hat {args : Array Value} {s : State} {L B : List Cond} (h1 : ∀ w ∈ L.filter goodWord, w.before args s = true) (h2 : ∀ w ∈ L.filter (fun w => !goodWord w), w ∈ B) (h3 : ∀ w ∈ B, w.before args s = true) : ∀ w ∈ L, w.before args s = true := by
  intro w hw
  by_cases g : goodWord w = true
  · exact h1 w (List.mem_filter.mpr ⟨hw, g⟩)
  · refine h3 w (h2 w (List.mem_filter.mpr ⟨hw, ?_⟩))
    show (!goodWord w) = true
    cases hgw : goodWord w
    · rfl
    · exact absurd hgw g
theorem vx_c {args : Array Value} {s : State} {w : Cond} {B : List Cond} (h : w.before args s = true) (t : ∀ w ∈ B, w.before args s = true) : ∀ w' ∈ w :: B, w'.before args s = true := fun w' h' => (List.mem_cons.mp h').elim (fun e => by rw [e]; exact h) (t w')
theorem vx_n {args : Array Value} {s : State} : ∀ w ∈ ([] : List Cond), w.before args s = true := fun _ h => nomatch h
theorem vx_own {args : Array Value} {s : State} {L : List Cond} (h1 : ∀ w ∈ L.filter vx_no, w.before args s = true)
    (hU : (Cond.isRef (.static Bundle.tN "UNASSIGNED_STACK" Bundle.steD)).before args s = true) (hN : (Cond.isRef (.static Bundle.tN "SUPPRESSED_SENTINEL" Bundle.listD)).before args s = true)
    (lU : (Cond.laysStatic Bundle.tN "UNASSIGNED_STACK" Bundle.steD).before args s = true) (lN : (Cond.laysStatic Bundle.tN "SUPPRESSED_SENTINEL" Bundle.listD).before args s = true) : ∀ w ∈ L, w.before args s = true := by
  intro w hw
  by_cases e1 : w = .isRef (.static Bundle.tN "UNASSIGNED_STACK" Bundle.steD)
  · rw [e1]; exact hU
  · by_cases e2 : w = .isRef (.static Bundle.tN "SUPPRESSED_SENTINEL" Bundle.listD)
    · rw [e2]; exact hN
    · by_cases e3 : w = .laysStatic Bundle.tN "UNASSIGNED_STACK" Bundle.steD
      · rw [e3]; exact lU
      · by_cases e4 : w = .laysStatic Bundle.tN "SUPPRESSED_SENTINEL" Bundle.listD
        · rw [e4]; exact lN
        · exact h1 w (List.mem_filter.mpr ⟨hw, by unfold vx_no; rw [decide_eq_true e1, decide_eq_true e2, decide_eq_true e3, decide_eq_true e4]; rfl⟩)
/-- where a static field lies, its class's statics cell in H -/
def vx_L (C n d : String) (A : Nat → Prop) (U : State) (H : Heap) : Prop := ∃ (c : ClassId) (k : Class) (i : Nat) (f : Field) (a : Nat) (cell : Cell), U.vm.findClass C = some c ∧ U.fieldFound? C n d = some (c, k, i, f) ∧ f.isStatic = true ∧ k.statics = some a ∧ H[a]? = some cell ∧ cell.vm.isStatics = true ∧ cell.cls = c ∧ f.slot < cell.slots.size ∧ k.staticTypes[f.slot]? = some f.type ∧ ¬ A a
theorem vx_L.moved {C n d : String} {A : Nat → Prop} {u U : State} {H : Heap} (hvm : u.vm.Alike U.vm) (h : vx_L C n d A u H) : vx_L C n d A U H := by
  obtain ⟨c, k, i, f, a, cell, h1, h2, h3, h4, h5, h6, h7, h8, h9, h10⟩ := h
  obtain ⟨k', hi', he⟩ := State.fieldFound?_setVm hvm h2
  exact ⟨c, k', i, f, a, cell, by rw [hvm.findClass]; exact h1, hi', h3, by rw [he]; exact h4, h5, h6, h7, h8, by rw [he]; exact h9, h10⟩
theorem vx_L.kept {C n d : String} {A : Nat → Prop} {U : State} {H H1 : Heap} (h : vx_L C n d A U H) (hq : ∀ a : Nat, a < H.size → ¬ A a → H1[a]? = H[a]?) : vx_L C n d A U H1 := by
  obtain ⟨c, k, i, f, a, cell, h1, h2, h3, h4, h5, h6, h7, h8, h9, h10⟩ := h
  exact ⟨c, k, i, f, a, cell, h1, h2, h3, h4, by rw [hq a (Array.getElem?_eq_some_iff.mp h5).1 h10]; exact h5, h6, h7, h8, h9, h10⟩
theorem vx_L.narrow {C n d : String} {A B : Nat → Prop} {U : State} {H : Heap} (h : vx_L C n d A U H) (hAB : ∀ q, B q → A q) : vx_L C n d B U H := by
  obtain ⟨c, k, i, f, a, cell, h1, h2, h3, h4, h5, h6, h7, h8, h9, h10⟩ := h
  exact ⟨c, k, i, f, a, cell, h1, h2, h3, h4, h5, h6, h7, h8, h9, fun z => h10 (hAB _ z)⟩
theorem vx_L.word {C n d : String} {A : Nat → Prop} {s : State} {args : Array Value} (h : vx_L C n d A s s.heap) : (Cond.laysStatic C n d).before args s = true := by
  obtain ⟨c, k, i, f, a, cell, h1, h2, h3, h4, h5, h6, h7, h8, h9, -⟩ := h
  show (Cond.laysStatic C n d).holds args s none s [] = true
  exact Cond.laysStatic_of h1 h2 h3 h4 h5 h6 h7 h8 h9
/-- .. and what it holds: null or some reference -/
def vx_Zq (C n d : String) (A : Nat → Prop) (U : State) (H : Heap) : Prop := va_Zq C n d A U H ∧ vx_L C n d A U H
theorem vx_Zq.moved {C n d : String} {A : Nat → Prop} {u U : State} {H : Heap} (hvm : u.vm.Alike U.vm) (h : vx_Zq C n d A u H) : vx_Zq C n d A U H := ⟨va_Zq.moved hvm h.1, vx_L.moved hvm h.2⟩
theorem vx_Zq.kept {C n d : String} {A : Nat → Prop} {U : State} {H H1 : Heap} (h : vx_Zq C n d A U H) (hq : ∀ a : Nat, a < H.size → ¬ A a → H1[a]? = H[a]?) : vx_Zq C n d A U H1 := ⟨va_Zq.kept h.1 hq, vx_L.kept h.2 hq⟩
theorem vx_Zq.narrow {C n d : String} {A B : Nat → Prop} {U : State} {H : Heap} (h : vx_Zq C n d A U H) (hAB : ∀ q, B q → A q) : vx_Zq C n d B U H := ⟨va_Zq.narrow h.1 hAB, vx_L.narrow h.2 hAB⟩
theorem vx_Zqof {args : Array Value} {s : State} {C n d : String} {A : Nat → Prop} (hl : (Cond.laysStatic C n d).before args s = true) (hini : (Cond.initialized C).before args s = true) (h : (Cond.isRef (.static C n d)).before args s = true) (hA : ∀ a : Nat, a < s.heap.size → ¬ A a) : vx_Zq C n d A s s.heap := by
  refine ⟨va_Zqof hl hini h hA, ?_⟩
  obtain ⟨c, k, i, f, a, cell, h1, h2, h3, h4, h5, h6, h7, h8, h9⟩ := Cond.laysStatic_spec hl
  exact ⟨c, k, i, f, a, cell, h1, h2, h3, h4, h5, h6, h7, h8, h9, hA a (Array.getElem?_eq_some_iff.mp h5).1⟩
theorem vx_isRef {C n d : String} {v : Value} {A : Nat → Prop} {s : State} {args : Array Value} (h : va_Z C n d v A s s.heap) (hv : v.isRef = true) : (Cond.isRef (.static C n d)).before args s = true := by
  obtain ⟨cf, kf, fi, f, a, cell, h1, h2, h3, h4, h5, h6, h7, -⟩ := h
  have he : (Term.static C n d).eval args s none [] s = some v := by
    simp [Term.eval, State.fieldNamed?, h1, h2, h4, h5, h6, h7]
  simp only [Cond.before, Cond.holds, Cond.value, he]
  cases v <;> simp_all [Value.isRef]
theorem vx_isRefq {C n d : String} {A : Nat → Prop} {s : State} {args : Array Value} (h : va_Zq C n d A s s.heap) : (Cond.isRef (.static C n d)).before args s = true := by
  rcases h with h | ⟨t, h⟩
  · exact vx_isRef h rfl
  · exact vx_isRef h rfl
/-- the same frame, seen from here: as if the method were called anew in this heap -/
theorem vx_rebase {T : State} (X : Stand p l e R s m args below meth c T locs cells slots) {R' : Room} (hf : R'.frames ≤ R.frames) (hl : R'.locals ≤ R.locals) (hc : cells + R'.cells ≤ R.cells) (hs : slots + R'.slots ≤ R.slots) :
    Stand p l e R' ((T.setVm s.vm).setFrames (.invoking m args :: below)) m args below meth c T [] 0 0 := by
  have htop : (T.setVm s.vm).topJava?.isSome := X.here.top
  have hF : ((T.setVm s.vm).setFrames (.invoking m args :: below)).frames = .invoking m args :: below := State.frames_setFrames _ (State.cur_lt_of_top htop)
  obtain ⟨g₀, hg0⟩ := Option.isSome_iff_exists.mp htop
  obtain ⟨r, hr⟩ := State.topJava?_eq_some.mp hg0
  have hl9 : e.platform.stackLimits (T.setVm s.vm).me = e.platform.stackLimits s.me := X.limits
  have hb9 : (T.setVm s.vm).me.stackBytes = s.me.stackBytes := X.bytes
  refine ⟨X.admits, X.cas, X.clock, hF, ?_, X.hears, X.method, X.code, X.here, X.tail, X.warmed, ?_, ?_, ?_⟩
  · have h := X.room
    have hU : ((T.setVm s.vm).setFrames (.invoking m args :: below)).localsInUse = s.localsInUse := by
      rw [State.localsInUse_invoking hF (meth := meth) (c := c) X.method X.code, State.localsInUse_invoking X.frames X.method X.code]
    simp only [State.hasRoom, Bool.and_eq_true, decide_eq_true_eq] at h ⊢
    obtain ⟨⟨⟨⟨h1, h2, h3, h4, h5, h6⟩, h7⟩, h8⟩, h9⟩ := h
    rw [X.frames, List.length_cons] at h2 h3
    have q1 := X.heapSize
    have q2 := X.used
    simp only [hF, hU, List.length_cons, State.stackLimits_setFrames, State.stackBytes_setFrames, hl9, hb9]
    refine ⟨⟨⟨⟨by omega, by omega, by omega, by omega, by omega, h6⟩, ?_⟩, ?_⟩, X.book⟩
    · show T.heap.size + R'.cells ≤ e.platform.maxCells
      omega
    · show T.slotsUsed + R'.slots ≤ e.platform.maxSlots
      omega
  · rw [State.stackLimits_setFrames]; rfl
  · rw [State.stackBytes_setFrames]; rfl
  · refine ⟨?_, Nat.le_refl _, Nat.le_refl _, ?_, ?_, fun a c9 h9 => ⟨c9, h9, rfl, rfl, fun _ _ => rfl⟩⟩
    · obtain ⟨t, ht, -⟩ := State.frames_cons hr
      show T.setVm s.vm = { ((T.setVm s.vm).setFrames (.invoking m args :: below)).setFrames (T.setVm s.vm).frames with heap := T.heap, slotsUsed := T.slotsUsed }
      rw [State.setFrames_setFrames, State.setFrames_self ht]
      rfl
    · show T.slotsUsed = T.slotsUsed + ((T.heap.toList.drop T.heap.size).map (·.slots.size)).sum
      rw [List.drop_eq_nil_of_le (Nat.le_of_eq Array.length_toList)]
      rfl
    · show ((T.heap.toList.drop T.heap.size).map (·.slots.size)).sum ≤ 0
      rw [List.drop_eq_nil_of_le (Nat.le_of_eq Array.length_toList)]
      exact Nat.le_refl _
/-- 'throw new E()': new; dup; invokespecial; athrow -/
theorem vx_throw0 {cc : ByteArray} {pc : Nat} (hexec : p.tables.exec = Jvm.exec) (hb : c.code = cc) (hl : l.stackTraces = false) {own cls : String} {names : List String} {ik ic mc ms : Nat} {A : Nat → Prop}
    (hown : s.vm.findClass own = some m.cls) (hcls : Bundle.fit cls = true) (hnames : ∀ n ∈ names, Bundle.fit n = true)
    (hk : (Cond.classLink own ik cls).before args s = true) (hini : (Cond.initialized cls).before args s = true) (hat : ∀ w ∈ vx_at0 own ic cls names, w.before args s = true)
    (hgood : ∀ w ∈ Cond.classLink own ik cls :: Cond.initialized cls :: vx_at0 own ic cls names, vx_ot w = true)
    (hU : vx_Zq Bundle.tN "UNASSIGNED_STACK" Bundle.steD A s s.heap) (hN : vx_Zq Bundle.tN "SUPPRESSED_SENTINEL" Bundle.listD A s s.heap) (hS : va_S A s.heap H locs) (hsize : ls.size = c.maxLocals)
    (d0 : decode cc pc = .ok (.new ik, 3)) (d3 : decode cc (pc + 3) = .ok (.dup, 1)) (d4 : decode cc (pc + 4) = .ok (.invokespecial ic, 3)) (d7 : decode cc (pc + 7) = .ok (.athrow, 1))
    (hout : ∀ x ∈ c.exceptionTable.toList, covers x (pc + 7) = false)
    (hRframes : names.length + 3 < R.frames) (hRlocals : (rest.map fun v => v.category).sum + (13 * (names.length + 1) + 42) ≤ R.locals) (hRcells : cells + 1 ≤ R.cells) (hRslots : slots + 6 ≤ R.slots) (hlocks : meth.locks = false)
    (hx : ∀ t : State, s.vm.Alike t.vm → H.size ≤ t.heap.size → (∀ q : Nat, q < H.size → t.heap[q]? = H[q]?) → XC cls s t)
    (hf : ∀ z ∈ locs, free z.base) (hc : cells + 1 ≤ mc) (hs : slots + 6 ≤ ms) :
    W p l e R s m args below meth c H locs cells slots (vx_MQ below Qc XC args s mc ms free) (F0 m pc ls rest) := by
  intro T hT X
  have htr : e.platform.stackTraces = false := (show e.platform.stackTraces = l.stackTraces by rw [X.admits.platform]).trans hl
  have Y := vx_rebase X (R' := { frames := R.frames, locals := R.locals, cells := 1, slots := 6 }) (Nat.le_refl _) (Nat.le_refl _) hRcells hRslots
  obtain ⟨s', hA⟩ : ∃ z, z = (T.setVm s.vm).setFrames (.invoking m args :: below) := ⟨_, rfl⟩
  rw [← hA] at Y
  have hvm : s'.vm = s.vm := by rw [hA]; rfl
  have hhp : s'.heap = H := by rw [hA]; exact hT
  have hW0 : s.WarmedH s'.vm := by rw [hvm]; exact State.WarmedH.refl s
  have hat' : ∀ w ∈ vx_at0 own ic cls names, w.before args s' = true := fun w hw => vx_ot_at hW0 hvm.symm (hgood w (List.mem_cons_of_mem _ (List.mem_cons_of_mem _ hw))) (hat w hw)
  have hk' : (Cond.classLink own ik cls).before args s' = true := vx_ot_at hW0 hvm.symm (hgood _ List.mem_cons_self) hk
  have hini' : (Cond.initialized cls).before args s' = true := vx_ot_at hW0 hvm.symm (hgood _ (List.mem_cons_of_mem _ List.mem_cons_self)) hini
  have hU' : vx_Zq Bundle.tN "UNASSIGNED_STACK" Bundle.steD A s' s'.heap := by rw [hhp]; exact vx_Zq.moved hW0.alike (hU.kept hS.2.1)
  have hN' : vx_Zq Bundle.tN "SUPPRESSED_SENTINEL" Bundle.listD A s' s'.heap := by rw [hhp]; exact vx_Zq.moved hW0.alike (hN.kept hS.2.1)
  have h : ∀ w ∈ Bundle.ownAtoms0 own ic cls names, w.before args s' = true := vx_own hat' (vx_isRefq hU'.1) (vx_isRefq hN'.1) hU'.2.word hN'.2.word
  have hown' : s'.vm.findClass own = some m.cls := by rw [hvm]; exact hown
  have hins : (Cond.instantiable cls 6).before args s' = true := h _ (by simp [Bundle.ownAtoms0])
  obtain ⟨vm₁, cX, kX, hfX, hkX, -, -, X₁, st1⟩ := Y.newCold hexec (own := own) (C := cls) (index := ik) (n := 6) hown' hk' hins hini'
    (g := F0 m pc ls rest) rfl (by rw [hb]; exact d0) (Nat.le_refl _) (Nat.le_refl _)
  generalize hT1 : (T.setVm vm₁).pushCell { cls := cX, slots := kX.instanceTypes.map defaultValue, vm := .none } = T1 at X₁ st1
  have hcat : (Value.ref T.heap.size).category = 1 := rfl
  have hcellA : T1.heap[T.heap.size]? = some (freshCell cX kX) := by rw [← hT1]; exact State.heap_pushCell_size _ _
  have d3' : decode c.code (pc + 3) = .ok (.dup, 1) := by rw [hb]; exact d3
  obtain ⟨U, hsteps, hrun, hend, hW, hsame, ce, hce, hO⟩ := X₁.ctorThrow0 hexec htr (own := own) (cls := cls) (names := names) (ic := ic) hown' hcls hnames h (fun x hx => nomatch hx) hfX hkX hcellA (by rw [hhp, hT]; exact Nat.le_refl _)
    (g := { method := m, pc := pc + 4, locals := ls, stack := .ref T.heap.size :: .ref T.heap.size :: rest, locked := none }) rfl hsize rfl rfl (rest := rest) rfl
    (by rw [hb]; exact d4) (by rw [hb]; exact d7) hout hRframes (by simp only [List.map_cons, List.sum_cons, hcat]; omega) hlocks
  obtain ⟨f1, f2⟩ := vx_frame hsame
  rw [hhp] at f1 f2
  have hWs : s.WarmedH U.vm := State.WarmedH.trans hW0 hW
  have hcl : s.vm.findClass cls = some ce.cls := by
    have h9 := hO.cls
    rw [hvm] at h9
    exact h9
  have hall : s.sameButNew ({ U with vm := s.vm } : State) locs mc ms := by
    subst hA
    obtain ⟨e1, e2⟩ := hsame
    rw [State.setFrames_setFrames] at e1
    have h2 : (T.setVm s.vm).sameButNew ({ U with vm := s.vm } : State) [] (0 + 1) (0 + 6) := ⟨e1, e2⟩
    have h3 := X.same.trans h2
    rw [List.append_nil] at h3
    exact h3.mono hc hs
  refine ⟨U, ?_, .threw T.heap.size, hrun, hend, Or.inr ⟨T.heap.size, rfl, cls, ce, locs, hx U hWs.alike f1 (fun q hq => f2 q hq (fun z hz => nomatch hz)), hce, hO.vm, hcl, hWs, hall, hf⟩⟩
  refine st1 _ ?_
  show Steps p.tables e below (T1.setTop { method := m, pc := pc + 3, locals := ls, stack := .ref T.heap.size :: rest, locked := none }) _
  jvm_step X₁.here [X₁.here.top, hexec, d3', Value.category]
  exact hsteps
/-- 'throw new E("text")': new; dup; ldc; invokespecial; athrow -/
theorem vx_throwS {cc : ByteArray} {pc : Nat} (hexec : p.tables.exec = Jvm.exec) (hb : c.code = cc) (hl : l.stackTraces = false) {own cls text : String} {names : List String} {ik is ic mc ms sa : Nat} {A : Nat → Prop}
    (hown : s.vm.findClass own = some m.cls) (hcls : Bundle.fit cls = true) (hnames : ∀ n ∈ names, Bundle.fit n = true)
    (hk : (Cond.classLink own ik cls).before args s = true) (hini : (Cond.initialized cls).before args s = true) (hstr : vk_R own is text sa s) (hat : ∀ w ∈ vx_atS own ic cls names, w.before args s = true)
    (hgood : ∀ w ∈ Cond.classLink own ik cls :: Cond.initialized cls :: vx_atS own ic cls names, vx_ot w = true)
    (hU : vx_Zq Bundle.tN "UNASSIGNED_STACK" Bundle.steD A s s.heap) (hN : vx_Zq Bundle.tN "SUPPRESSED_SENTINEL" Bundle.listD A s s.heap) (hS : va_S A s.heap H locs) (hsize : ls.size = c.maxLocals)
    (d0 : decode cc pc = .ok (.new ik, 3)) (d3 : decode cc (pc + 3) = .ok (.dup, 1)) (d4 : decode cc (pc + 4) = .ok (.ldc is, 2)) (d6 : decode cc (pc + 6) = .ok (.invokespecial ic, 3)) (d9 : decode cc (pc + 9) = .ok (.athrow, 1))
    (hout : ∀ x ∈ c.exceptionTable.toList, covers x (pc + 9) = false)
    (hRframes : names.length + 3 < R.frames) (hRlocals : (rest.map fun v => v.category).sum + (13 * (names.length + 1) + 43) ≤ R.locals) (hRcells : cells + 1 ≤ R.cells) (hRslots : slots + 6 ≤ R.slots) (hlocks : meth.locks = false)
    (hx : ∀ t : State, s.vm.Alike t.vm → H.size ≤ t.heap.size → (∀ q : Nat, q < H.size → t.heap[q]? = H[q]?) → XC cls s t)
    (hf : ∀ z ∈ locs, free z.base) (hc : cells + 1 ≤ mc) (hs : slots + 6 ≤ ms) :
    W p l e R s m args below meth c H locs cells slots (vx_MQ below Qc XC args s mc ms free) (F0 m pc ls rest) := by
  intro T hT X
  have htr : e.platform.stackTraces = false := (show e.platform.stackTraces = l.stackTraces by rw [X.admits.platform]).trans hl
  have Y := vx_rebase X (R' := { frames := R.frames, locals := R.locals, cells := 1, slots := 6 }) (Nat.le_refl _) (Nat.le_refl _) hRcells hRslots
  obtain ⟨s', hA⟩ : ∃ z, z = (T.setVm s.vm).setFrames (.invoking m args :: below) := ⟨_, rfl⟩
  rw [← hA] at Y
  have hvm : s'.vm = s.vm := by rw [hA]; rfl
  have hhp : s'.heap = H := by rw [hA]; exact hT
  have hW0 : s.WarmedH s'.vm := by rw [hvm]; exact State.WarmedH.refl s
  have hat' : ∀ w ∈ vx_atS own ic cls names, w.before args s' = true := fun w hw => vx_ot_at hW0 hvm.symm (hgood w (List.mem_cons_of_mem _ (List.mem_cons_of_mem _ hw))) (hat w hw)
  have hk' : (Cond.classLink own ik cls).before args s' = true := vx_ot_at hW0 hvm.symm (hgood _ List.mem_cons_self) hk
  have hini' : (Cond.initialized cls).before args s' = true := vx_ot_at hW0 hvm.symm (hgood _ (List.mem_cons_of_mem _ List.mem_cons_self)) hini
  have hU' : vx_Zq Bundle.tN "UNASSIGNED_STACK" Bundle.steD A s' s'.heap := by rw [hhp]; exact vx_Zq.moved hW0.alike (hU.kept hS.2.1)
  have hN' : vx_Zq Bundle.tN "SUPPRESSED_SENTINEL" Bundle.listD A s' s'.heap := by rw [hhp]; exact vx_Zq.moved hW0.alike (hN.kept hS.2.1)
  have h : ∀ w ∈ Bundle.ownAtoms own ic cls names, w.before args s' = true := vx_own hat' (vx_isRefq hU'.1) (vx_isRefq hN'.1) hU'.2.word hN'.2.word
  have hown' : s'.vm.findClass own = some m.cls := by rw [hvm]; exact hown
  have hins : (Cond.instantiable cls 6).before args s' = true := h _ (by simp [Bundle.ownAtoms])
  obtain ⟨vm₁, cX, kX, hfX, hkX, -, -, X₁, st1⟩ := Y.newCold hexec (own := own) (C := cls) (index := ik) (n := 6) hown' hk' hins hini'
    (g := F0 m pc ls rest) rfl (by rw [hb]; exact d0) (Nat.le_refl _) (Nat.le_refl _)
  generalize hT1 : (T.setVm vm₁).pushCell { cls := cX, slots := kX.instanceTypes.map defaultValue, vm := .none } = T1 at X₁ st1
  have hcat : (Value.ref T.heap.size).category = 1 := rfl
  have hcellA : T1.heap[T.heap.size]? = some (freshCell cX kX) := by rw [← hT1]; exact State.heap_pushCell_size _ _
  have d3' : decode c.code (pc + 3) = .ok (.dup, 1) := by rw [hb]; exact d3
  have d4' : decode c.code (pc + 4) = .ok (.ldc is, 2) := by rw [hb]; exact d4
  have hstr' : vk_R own is text sa s' := vk_R.warm hW0 hstr
  obtain ⟨U, hsteps, hrun, hend, hW, hsame, ce, hce, hO⟩ := X₁.ctorThrowS hexec htr (own := own) (cls := cls) (names := names) (ic := ic) hown' hcls hnames h (fun x hx => nomatch hx) hfX hkX hcellA (by rw [hhp, hT]; exact Nat.le_refl _) (msg := .ref sa) rfl
    (g := { method := m, pc := pc + 6, locals := ls, stack := .ref sa :: .ref T.heap.size :: .ref T.heap.size :: rest, locked := none }) rfl hsize rfl rfl (rest := rest) rfl
    (by rw [hb]; exact d6) (by rw [hb]; exact d9) hout hRframes (by simp only [List.map_cons, List.sum_cons, hcat]; omega) hlocks
  obtain ⟨f1, f2⟩ := vx_frame hsame
  rw [hhp] at f1 f2
  have hWs : s.WarmedH U.vm := State.WarmedH.trans hW0 hW
  have hcl : s.vm.findClass cls = some ce.cls := by
    have h9 := hO.cls
    rw [hvm] at h9
    exact h9
  have hall : s.sameButNew ({ U with vm := s.vm } : State) locs mc ms := by
    subst hA
    obtain ⟨e1, e2⟩ := hsame
    rw [State.setFrames_setFrames] at e1
    have h2 : (T.setVm s.vm).sameButNew ({ U with vm := s.vm } : State) [] (0 + 1) (0 + 6) := ⟨e1, e2⟩
    have h3 := X.same.trans h2
    rw [List.append_nil] at h3
    exact h3.mono hc hs
  refine ⟨U, ?_, .threw T.heap.size, hrun, hend, Or.inr ⟨T.heap.size, rfl, cls, ce, locs, hx U hWs.alike f1 (fun q hq => f2 q hq (fun z hz => nomatch hz)), hce, hO.vm, hcl, hWs, hall, hf⟩⟩
  refine st1 _ ?_
  show Steps p.tables e below (T1.setTop { method := m, pc := pc + 3, locals := ls, stack := .ref T.heap.size :: rest, locked := none }) _
  jvm_step X₁.here [X₁.here.top, hexec, d3', Value.category]
  exact X₁.ldcString hexec (own := own) (text := text) (index := is) (a := sa) hown' hstr'.1 hstr'.2
    (g := { method := m, pc := pc + 4, locals := ls, stack := .ref T.heap.size :: .ref T.heap.size :: rest, locked := none }) rfl d4' _ hsteps
/-- 'throw new E("text")', the text by a wide index -/
theorem vx_throwSW {cc : ByteArray} {pc : Nat} (hexec : p.tables.exec = Jvm.exec) (hb : c.code = cc) (hl : l.stackTraces = false) {own cls text : String} {names : List String} {ik is ic mc ms sa : Nat} {A : Nat → Prop}
    (hown : s.vm.findClass own = some m.cls) (hcls : Bundle.fit cls = true) (hnames : ∀ n ∈ names, Bundle.fit n = true)
    (hk : (Cond.classLink own ik cls).before args s = true) (hini : (Cond.initialized cls).before args s = true) (hstr : vk_R own is text sa s) (hat : ∀ w ∈ vx_atS own ic cls names, w.before args s = true)
    (hgood : ∀ w ∈ Cond.classLink own ik cls :: Cond.initialized cls :: vx_atS own ic cls names, vx_ot w = true)
    (hU : vx_Zq Bundle.tN "UNASSIGNED_STACK" Bundle.steD A s s.heap) (hN : vx_Zq Bundle.tN "SUPPRESSED_SENTINEL" Bundle.listD A s s.heap) (hS : va_S A s.heap H locs) (hsize : ls.size = c.maxLocals)
    (d0 : decode cc pc = .ok (.new ik, 3)) (d3 : decode cc (pc + 3) = .ok (.dup, 1)) (d4 : decode cc (pc + 4) = .ok (.ldc_w is, 3)) (d7 : decode cc (pc + 7) = .ok (.invokespecial ic, 3)) (d10 : decode cc (pc + 10) = .ok (.athrow, 1))
    (hout : ∀ x ∈ c.exceptionTable.toList, covers x (pc + 10) = false)
    (hRframes : names.length + 3 < R.frames) (hRlocals : (rest.map fun v => v.category).sum + (13 * (names.length + 1) + 43) ≤ R.locals) (hRcells : cells + 1 ≤ R.cells) (hRslots : slots + 6 ≤ R.slots) (hlocks : meth.locks = false)
    (hx : ∀ t : State, s.vm.Alike t.vm → H.size ≤ t.heap.size → (∀ q : Nat, q < H.size → t.heap[q]? = H[q]?) → XC cls s t)
    (hf : ∀ z ∈ locs, free z.base) (hc : cells + 1 ≤ mc) (hs : slots + 6 ≤ ms) :
    W p l e R s m args below meth c H locs cells slots (vx_MQ below Qc XC args s mc ms free) (F0 m pc ls rest) := by
  intro T hT X
  have htr : e.platform.stackTraces = false := (show e.platform.stackTraces = l.stackTraces by rw [X.admits.platform]).trans hl
  have Y := vx_rebase X (R' := { frames := R.frames, locals := R.locals, cells := 1, slots := 6 }) (Nat.le_refl _) (Nat.le_refl _) hRcells hRslots
  obtain ⟨s', hA⟩ : ∃ z, z = (T.setVm s.vm).setFrames (.invoking m args :: below) := ⟨_, rfl⟩
  rw [← hA] at Y
  have hvm : s'.vm = s.vm := by rw [hA]; rfl
  have hhp : s'.heap = H := by rw [hA]; exact hT
  have hW0 : s.WarmedH s'.vm := by rw [hvm]; exact State.WarmedH.refl s
  have hat' : ∀ w ∈ vx_atS own ic cls names, w.before args s' = true := fun w hw => vx_ot_at hW0 hvm.symm (hgood w (List.mem_cons_of_mem _ (List.mem_cons_of_mem _ hw))) (hat w hw)
  have hk' : (Cond.classLink own ik cls).before args s' = true := vx_ot_at hW0 hvm.symm (hgood _ List.mem_cons_self) hk
  have hini' : (Cond.initialized cls).before args s' = true := vx_ot_at hW0 hvm.symm (hgood _ (List.mem_cons_of_mem _ List.mem_cons_self)) hini
  have hU' : vx_Zq Bundle.tN "UNASSIGNED_STACK" Bundle.steD A s' s'.heap := by rw [hhp]; exact vx_Zq.moved hW0.alike (hU.kept hS.2.1)
  have hN' : vx_Zq Bundle.tN "SUPPRESSED_SENTINEL" Bundle.listD A s' s'.heap := by rw [hhp]; exact vx_Zq.moved hW0.alike (hN.kept hS.2.1)
  have h : ∀ w ∈ Bundle.ownAtoms own ic cls names, w.before args s' = true := vx_own hat' (vx_isRefq hU'.1) (vx_isRefq hN'.1) hU'.2.word hN'.2.word
  have hown' : s'.vm.findClass own = some m.cls := by rw [hvm]; exact hown
  have hins : (Cond.instantiable cls 6).before args s' = true := h _ (by simp [Bundle.ownAtoms])
  obtain ⟨vm₁, cX, kX, hfX, hkX, -, -, X₁, st1⟩ := Y.newCold hexec (own := own) (C := cls) (index := ik) (n := 6) hown' hk' hins hini'
    (g := F0 m pc ls rest) rfl (by rw [hb]; exact d0) (Nat.le_refl _) (Nat.le_refl _)
  generalize hT1 : (T.setVm vm₁).pushCell { cls := cX, slots := kX.instanceTypes.map defaultValue, vm := .none } = T1 at X₁ st1
  have hcat : (Value.ref T.heap.size).category = 1 := rfl
  have hcellA : T1.heap[T.heap.size]? = some (freshCell cX kX) := by rw [← hT1]; exact State.heap_pushCell_size _ _
  have d3' : decode c.code (pc + 3) = .ok (.dup, 1) := by rw [hb]; exact d3
  have d4' : decode c.code (pc + 4) = .ok (.ldc_w is, 3) := by rw [hb]; exact d4
  have hstr' : vk_R own is text sa s' := vk_R.warm hW0 hstr
  obtain ⟨U, hsteps, hrun, hend, hW, hsame, ce, hce, hO⟩ := X₁.ctorThrowS hexec htr (own := own) (cls := cls) (names := names) (ic := ic) hown' hcls hnames h (fun x hx => nomatch hx) hfX hkX hcellA (by rw [hhp, hT]; exact Nat.le_refl _) (msg := .ref sa) rfl
    (g := { method := m, pc := pc + 7, locals := ls, stack := .ref sa :: .ref T.heap.size :: .ref T.heap.size :: rest, locked := none }) rfl hsize rfl rfl (rest := rest) rfl
    (by rw [hb]; exact d7) (by rw [hb]; exact d10) hout hRframes (by simp only [List.map_cons, List.sum_cons, hcat]; omega) hlocks
  obtain ⟨f1, f2⟩ := vx_frame hsame
  rw [hhp] at f1 f2
  have hWs : s.WarmedH U.vm := State.WarmedH.trans hW0 hW
  have hcl : s.vm.findClass cls = some ce.cls := by
    have h9 := hO.cls
    rw [hvm] at h9
    exact h9
  have hall : s.sameButNew ({ U with vm := s.vm } : State) locs mc ms := by
    subst hA
    obtain ⟨e1, e2⟩ := hsame
    rw [State.setFrames_setFrames] at e1
    have h2 : (T.setVm s.vm).sameButNew ({ U with vm := s.vm } : State) [] (0 + 1) (0 + 6) := ⟨e1, e2⟩
    have h3 := X.same.trans h2
    rw [List.append_nil] at h3
    exact h3.mono hc hs
  refine ⟨U, ?_, .threw T.heap.size, hrun, hend, Or.inr ⟨T.heap.size, rfl, cls, ce, locs, hx U hWs.alike f1 (fun q hq => f2 q hq (fun z hz => nomatch hz)), hce, hO.vm, hcl, hWs, hall, hf⟩⟩
  refine st1 _ ?_
  show Steps p.tables e below (T1.setTop { method := m, pc := pc + 3, locals := ls, stack := .ref T.heap.size :: rest, locked := none }) _
  jvm_step X₁.here [X₁.here.top, hexec, d3', Value.category]
  exact X₁.ldcStringW hexec (own := own) (text := text) (index := is) (a := sa) hown' hstr'.1 hstr'.2
    (g := { method := m, pc := pc + 4, locals := ls, stack := .ref T.heap.size :: .ref T.heap.size :: rest, locked := none }) rfl d4' _ hsteps
end Ends
section Bodies
variable {l : Launch}
theorem vx_ofW {y : MethodName} {ws ws' : List Cond} {rm : Room} {Pc : Array Value → State → Prop} {Qc : Array Value → State → Outcome → State → Prop} {XC : String → State → State → Prop} {mc ms : Nat} {free : Addr → Prop} {cc : ByteArray} {maxL : Nat} {ret : Option FieldType}
    (hy : plainName y.cls = true) (hw : ws = Cond.code y cc maxL ret :: ws')
    (body : ∀ p e s m args below meth c s₁, BodyLoose p l y (headSpec ws rm) cc maxL ret e s m args below meth c s₁ → c.maxLocals = maxL → (∀ x ∈ c.exceptionTable.toList, False) → Pc args s →
      W p l e (headSpec ws rm).room s m args below meth c s.heap [] 0 0 (vx_MQ below Qc XC args s mc ms free) (entryFrame m args maxL)) : vx_Met l y ws rm Pc Qc XC mc ms free := by
  refine MetFree.of_bodyS (code := cc) (maxLocals := maxL) (ret := ret) hy ?_ ?_
  · intro args s m h hn
    obtain ⟨meth, c, h1, h2, h3, h4, h5, h6, -, -⟩ := Cond.code_spec hn (atoms_spec (ws := ws) h _ (by rw [hw]; exact List.mem_cons_self))
    exact ⟨meth, c, h1, h2, h3, h4, h5, h6⟩
  · intro p e s m args below meth c s₁ B hml hP _
    have hh0 : s₁.heap = s.heap := by rw [B.state]; rfl
    have ht : ∀ x ∈ c.exceptionTable.toList, False := by
      obtain ⟨meth9, c9, h1, h2, -, -, -, -, h7, -⟩ := Cond.code_spec B.named (atoms_spec (ws := ws) B.pre _ (by rw [hw]; exact List.mem_cons_self))
      cases Option.some.inj (h1.symm.trans B.method)
      cases Option.some.inj (h2.symm.trans (Stand.of_body B).code)
      intro x hx
      rw [Array.isEmpty_iff.mp h7] at hx
      cases hx
    obtain ⟨t, a1, o, b1, b2, b3⟩ := body p e s m args below meth c s₁ B hml ht hP s₁ hh0 (Stand.of_body B)
    exact ⟨t, o, a1, b1, b2, b3⟩
/-- the table of a body with handlers -/
theorem vx_table {p : Program} {x y : MethodName} {S : Spec} {cc bytes : ByteArray} {maxL maxL' : Nat} {ret ret' : Option FieldType} {e : Env} {s s₁ : State} {m : MethodId} {args : Array Value} {below : List Frame} {meth : Method} {c : Code} {hh : List (Nat × Nat × Nat × Nat)}
    (B : BodyLoose p l y S cc maxL ret e s m args below meth c s₁) (h : (Cond.codeWith y bytes maxL' ret' hh).before args s = true) : c.exceptionTable.toList = tableOf hh := by
  obtain ⟨m9, meth9, c9, hn9, h1, h2, -, -, h6, -⟩ := Cond.codeWith_spec h
  cases Option.some.inj (hn9.symm.trans B.named)
  cases Option.some.inj (h1.symm.trans B.method)
  cases Option.some.inj (h2.symm.trans (Stand.of_body B).code)
  rw [← h6, table_eq]
end Bodies
end VXA
/-! ===== END ===== -/
/-! ===== BEGIN a static call of a method with an exception table ===== -/
section VXS
variable {p : Program} {l : Launch} {e : Env} {R : Room} {s : State} {m : MethodId} {args : Array Value} {below : List Frame} {meth : Method} {c : Code} {T : State} {H : Heap} {locs : List Loc} {cells slots : Nat}
abbrev vx_CSW (R : Room) (s : State) (args : Array Value) (own : String) (index : Nat) (y : MethodName) (bytes : ByteArray) (maxL : Nat) (ret : Option FieldType) (hh : List (Nat × Nat × Nat × Nat)) (ws : List Cond) (rm : Room) (mc ms n : Nat) : Prop :=
  (rm.cells = mc ∧ rm.slots = ms ∧ rm.frames + 1 ≤ R.frames ∧ 8 + (maxL + 11) + rm.locals ≤ R.locals ∧ (∀ w ∈ ws, ∀ (a' : Array Value) (U : State), s.WarmedH U.vm → w.before a' U = true) ∧ Cond.codeWith y bytes maxL ret hh ∈ ws) ∧
  (Cond.codeWith y bytes maxL ret hh).before args s = true ∧ (Cond.initialized y.cls).before args s = true ∧ (y.cls ≠ "java/lang/invoke/MethodHandle" ∧ y.cls ≠ "java/lang/invoke/VarHandle") ∧
  (∀ sig, parseMethodDescriptor y.desc = some sig → n = sig.parameters.length) ∧ (Cond.methodLink own index y).before args s = true ∧ (Cond.static y).before args s = true
theorem vx_cwSW {own : String} {index maxL mc ms : Nat} {y : MethodName} {bytes : ByteArray} {ret : Option FieldType} {hh : List (Nat × Nat × Nat × Nat)} {Ts ws ws' : List Cond} {rm : Room} (n : Nat) (ht : ∀ w ∈ Ts, w.before args s = true) (hT : GoodIn Ts (va_wsS own index y ws)) (hw : ws = Cond.codeWith y bytes maxL ret hh :: ws') (hrc : rm.cells = mc) (hrs : rm.slots = ms)
    (hd : y.cls ≠ "java/lang/invoke/MethodHandle" ∧ y.cls ≠ "java/lang/invoke/VarHandle" ∧ (parseMethodDescriptor y.desc).map (fun d => d.parameters.length) = some n) (hR : rm.frames + 1 ≤ R.frames ∧ 8 + (maxL + 11) + rm.locals ≤ R.locals) :
    vx_CSW R s args own index y bytes maxL ret hh ws rm mc ms n := by
  have ok : ∀ w ∈ va_wsS own index y ws, w.before args s = true := fun w h => ht w (hT w h).1
  have hG : GoodIn Ts ws := fun w h => hT w (by unfold va_wsS; exact List.mem_append_right _ h)
  have hc : Cond.codeWith y bytes maxL ret hh ∈ ws := by rw [hw]; exact List.mem_cons_self
  refine ⟨⟨hrc, hrs, hR.1, hR.2, pay_in ht hG, hc⟩, ht _ (hG _ hc).1, ok _ (by simp [va_wsS]), ⟨hd.1, hd.2.1⟩, fun sig h => ?_, ok _ (by simp [va_wsS]), ok _ (by simp [va_wsS])⟩
  have h2 := hd.2.2
  rw [h] at h2
  exact (Option.some.inj h2).symm
theorem vx_callSW (X : Stand p l e R s m args below meth c T locs cells slots) (hexec : p.tables.exec = Jvm.exec) {own : String} {index : Nat} {y : MethodName} {bytes : ByteArray} {maxL : Nat} {ret : Option FieldType} {hh : List (Nat × Nat × Nat × Nat)}
    (hown : s.vm.findClass own = some m.cls) (hlink : (Cond.methodLink own index y).before args s = true) (hstat : (Cond.static y).before args s = true) (hinit : (Cond.initialized y.cls).before args s = true)
    (hcode : (Cond.codeWith y bytes maxL ret hh).before args s = true) (hy : y.cls ≠ "java/lang/invoke/MethodHandle" ∧ y.cls ≠ "java/lang/invoke/VarHandle")
    {W9 : Nat} {Pre : Pt → Array Value → Prop} {Post : Pt → Array Value → Option Value → Pt → Prop} (hK : Back l R p e below s args y 3 W9 Pre Post)
    {g : JFrame} (hg : g.method = m) (hsize : g.locals.size = c.maxLocals) {argsL rest : List Value} (hlen : ∀ sig, parseMethodDescriptor y.desc = some sig → argsL.length = sig.parameters.length)
    (hstack : g.stack = argsL.reverse ++ rest) (hW : 2 * g.monitorRoom + (rest.map fun v => v.category).sum ≤ W9) (hdg : decode c.code g.pc = .ok (.invokestatic index, 3))
    (hpre : ∀ vm₁, s.WarmedH vm₁ → Pre ⟨T.setVm vm₁, locs, cells, slots⟩ argsL.toArray) :
    ∃ (v : Option Value) (vm₁ : Vm) (B : Pt), s.WarmedH vm₁ ∧ Stand p l e R s m args below meth c B.U B.locs B.cells B.slots ∧ Post ⟨T.setVm vm₁, locs, cells, slots⟩ argsL.toArray v B ∧
      ∀ target, Steps p.tables e below (B.U.setTop { g with pc := g.pc + 3, stack := v.toList ++ rest }) target → Steps p.tables e below (T.setTop g) target := by
  obtain ⟨mk, methM, cM, hnamed, hmethM, -, -, -, -, -, -, hsigM⟩ := Cond.codeWith_spec hcode
  have hstatic : methM.isStatic = true := Cond.static_spec hnamed hmethM hstat
  obtain ⟨kP, hkP, -⟩ := className_of_methodNamed hnamed
  have hinitP : kP.init = .initialized := Cond.initialized_spec (findClass_of_methodNamed hnamed) hkP hinit
  obtain ⟨vm₁, X₁, hstep₁⟩ := X.invokestatic hexec hown hlink hnamed hmethM hstatic hkP hinitP hy (g := g) hg (argsL := argsL) (rest := rest) (hlen _ hsigM) hstack hdg
  obtain ⟨v, B, X', hpost, hsteps⟩ := hK m meth c ⟨T.setVm vm₁, locs, cells, slots⟩ { g with stack := rest } (.invokestatic index) mk argsL.toArray X₁ hg hsize hdg hW (X₁.named hnamed) (hpre vm₁ X₁.warmed)
  exact ⟨v, vm₁, B, X₁.warmed, X', hpost, fun target h => hstep₁ _ fun acts => by rw [doInvoke_state]; exact hsteps.trans h⟩
theorem vx_runSW {y : MethodName} {bytes cc : ByteArray} {maxL nL mc ms n index : Nat} {ret : Option FieldType} {hh : List (Nat × Nat × Nat × Nat)} {ws : List Cond} {rm : Room} {Pc : Array Value → State → Prop} {Qc : Array Value → State → Outcome → State → Prop} {free : Addr → Prop} {Ts : List Cond} {own : String} {As rest : List Value} {g : JFrame}
    (S : CallFix p m c cc nL s args Ts own) (hM : Met l y ws rm Pc Qc mc ms free) (cw : vx_CSW R s args own index y bytes maxL ret hh ws rm mc ms n) (hp : PreS s H Pc As)
    (hg : g.method = m) (hn : As.length = n) (hsize : g.locals.size = nL) (hstack : g.stack = As.reverse ++ rest) (hW : 2 * g.monitorRoom + (rest.map fun v => v.category).sum ≤ 8) (hdg : decode cc g.pc = .ok (.invokestatic index, 3)) (hf : cells + mc ≤ R.cells ∧ slots + ms ≤ R.slots) :
    va_Run p l e R s m args below meth c H locs cells slots mc ms g rest (Qc As.toArray) (free) := by
  obtain ⟨⟨hrc, hrs, hfr, hlo, hws, hcw⟩, hcode, hini, hy, hlen, hl, hstt⟩ := cw
  have hK : Back l R p e below s args y 3 8 (PreOf R mc ms Pc) (PostOf Qc mc ms free) := va_backW (hh := hh) (bytes := bytes) (maxL := maxL) (ret := ret) hM hp.1 hrc hrs hfr hlo hws hcw (fun a' U hW => word_at hW (Or.inl (by first | rfl | simp [Cond.onTables, Cond.keeps, Cond.steady])) hini)
  obtain ⟨hx, hb, hml, ho, -⟩ := S
  intro T hT X
  obtain ⟨v, vm₁, ⟨U', l2, c2, s2⟩, hW₁, X', ⟨g', mk, t, L, e1, e2, hq, h1, hL, h2, h3⟩, st⟩ := vx_callSW X hx (hh := hh) (bytes := bytes) (maxL := maxL) (ret := ret) ho hl hstt hini hcode hy hK hg (hsize.trans hml.symm) (argsL := As) (rest := rest) (fun sig h => hn.trans (hlen sig h)) hstack hW (by rw [hb]; exact hdg)
    (fun vm₁ hW₁ => ⟨hf.1, hf.2, hp.2 (T.setVm vm₁) hT hW₁⟩)
  dsimp only [Pt.U, Pt.locs, Pt.cells, Pt.slots] at X' e1 e2 h1 h2 h3 st
  subst h1; subst h2; subst h3
  exact ⟨v, (T.setVm vm₁).calling g' mk As.toArray, t, U', L, hT, X', hL, e1, e2, hq, st⟩
/-- not caught here, past rows that name other classes: it goes on to the caller -/
theorem vx_outP {p : Program} {l : Launch} {e : Env} {R : Room} {s : State} {m : MethodId} {args : Array Value} {below : List Frame} {meth : Method} {c : Code} {H : Heap} {locs : List Loc} {cells slots : Nat} {free : Addr → Prop} {ls : Array Slot} {rest : List Value} {Qc : Array Value → State → Outcome → State → Prop} {XC : String → State → State → Prop}
    {pc : Nat} {own E : String} {ce : Cell} {q : Addr} {mc ms : Nat} (hown : s.vm.findClass own = some m.cls) (hlocks : meth.locks = false)
    (hpass : ∀ z ∈ c.exceptionTable.toList, covers z pc = false ∨ (z.catchType ≠ 0 ∧ ∃ nm : String, (Cond.classLink own z.catchType nm).before args s = true ∧ va_Nc E nm s)) (hcell : H[q]? = some ce) (hv : ce.vm = .none) (hcl : s.vm.findClass E = some ce.cls)
    (hx : ∀ t : State, t.heap = H → s.vm.Alike t.vm → XC E s t) (hf : ∀ z ∈ locs, free z.base) (hc : cells ≤ mc) (hs : slots ≤ ms) :
    vx_W p l e R s m args below meth c H locs cells slots (vx_MQ below Qc XC args s mc ms free) (F0 m pc ls rest) q := by
  intro T hT X
  have hpl : e.platform.magicAccessors = ({} : Platform).magicAccessors := by rw [X.admits.platform]
  obtain ⟨vm', hW', X', st⟩ := X.outThrough hlocks q (g := F0 m pc ls rest) rfl rfl rfl (cell := ce) (by rw [hT]; exact hcell) (by rw [hv]; rfl)
    (by obtain ⟨k9, h9, -⟩ := Vm.findClass_spec hcl; exact ⟨k9, h9⟩) (fun z hz => by
      rcases hpass z hz with h | ⟨hz0, nm, hl1, hn1⟩
      · exact Or.inl h
      · obtain ⟨c6, hc6, hcl6⟩ := Cond.classLink_spec hown hl1 e.platform hpl
        obtain ⟨a8, b8, h1, h2, h3⟩ := hn1
        cases Option.some.inj (h1.symm.trans hcl)
        cases Option.some.inj (h2.symm.trans hc6)
        exact Or.inr ⟨hz0, _, hcl6, h3⟩)
  obtain ⟨g₀, hfr⟩ := X'.frames_eq
  have hcell9 : ((T.setVm vm').setFrames (.throwing q :: below)).heap[q]? = some ce := by
    show T.heap[q]? = some ce
    rw [hT]; exact hcell
  have hend : Ended ((T.setVm vm').setFrames (.throwing q :: below)) below (.threw q) := State.frames_setFrames _ (State.cur_lt_of_frames hfr)
  refine ⟨(T.setVm vm').setFrames (.throwing q :: below), ?_, .threw q, X'.here.running, hend, Or.inr ⟨q, rfl, E, ce, locs, hx _ hT (X'.ends _).1.alike, hcell9, hv, hcl, (X'.ends _).1, (X'.ends _).2.mono hc hs, hf⟩⟩
  rw [X.pushThrowing_eq]
  exact st
/-- a thing of a world lies in the heap -/
theorem vx_lt {D : va_G} {cl : List vw_C} {ws : va_W} {H1 : Heap} (h : va_P D cl ws H1) {k : Nat} {q : Nat × va_E} (hk : ws[k]? = some q) : q.1 < H1.size := (h k q hk).lt
end VXS
/-! ===== END ===== -/
/-! ===== BEGIN methods with a table of their own: called by a name, returning or throwing ===== -/
section VXH
/-! vx_backW, vx_callVX, vx_callSX, vx_callVW, vx_runVW, vx_runVX, vx_runSX, vx_ofWH follow the same proofs as their sisters above (Free/Laws.lean, Shelf42/LK1.lean); vx_outP calls Shelf42/NT130.lean (outThrough). -/
section
variable {l : Launch} {R : Room} {p : Program} {e : Env} {below : List Frame} {s : State} {sargs : Array Value} {y : MethodName} {len W9 : Nat}
theorem vx_backW {ws : List Cond} {rm : Room} {Pc : Array Value → State → Prop} {Qc : Array Value → State → Outcome → State → Prop} {XC : String → State → State → Prop} {mc ms : Nat} {free : Addr → Prop} {bytes : ByteArray} {maxL : Nat} {ret : Option FieldType} {hh : List (Nat × Nat × Nat × Nat)}
    (hM : vx_Met l y ws rm Pc Qc XC mc ms free) (hblind : FrameBlind Pc) (hrc : rm.cells = mc) (hrs : rm.slots = ms)
    (hframes : rm.frames + 1 ≤ R.frames) (hlocals : W9 + (maxL + 11) + rm.locals ≤ R.locals)
    (hws : ∀ w ∈ ws, ∀ a' U, s.WarmedH U.vm → w.before a' U = true) (hcode : Cond.codeWith y bytes maxL ret hh ∈ ws) (hinit : ∀ a' U, s.WarmedH U.vm → (Cond.initialized y.cls).before a' U = true) :
    vx_Back l R p e below s sargs y len W9 (PreOf R mc ms Pc) (PostOf Qc mc ms free) (vx_Post XC mc ms free) := by
  intro m meth c A g ig mk a X hg hsize hdg hW hn hp
  have h1 : (headSpec ws rm).pre.before a A.U = true := atoms_intro fun w hw => hws w hw _ _ X.warmed
  have h2 : (Cond.codeWith y bytes maxL ret hh).before a A.U = true := hws _ hcode _ _ X.warmed
  have h3 : (Cond.initialized y.cls).before a A.U = true := hinit _ _ X.warmed
  have h4 : A.cells + (headSpec ws rm).room.cells ≤ R.cells := by rw [show (headSpec ws rm).room.cells = mc from hrc]; exact hp.1
  have h5 : A.slots + (headSpec ws rm).room.slots ≤ R.slots := by rw [show (headSpec ws rm).room.slots = ms from hrs]; exact hp.2.1
  have hPc : Pc a (A.U.calling g mk a) := hblind _ _ _ _ hp.2.2
  obtain ⟨U, Ls, c0, s0⟩ := A
  dsimp only [Pt.U, Pt.locs, Pt.cells, Pt.slots] at h1 h2 h3 h4 h5 X hn hPc ⊢
  obtain ⟨m9, methY, cY, hn9, hmY, hcY, -, hlY, -⟩ := Cond.codeWith_spec h2
  cases Option.some.inj (hn9.symm.trans hn)
  obtain ⟨kY, hkY, -⟩ := className_of_methodNamed hn
  have hinitY : kY.init = .initialized := Cond.initialized_spec (findClass_of_methodNamed hn) hkY h3
  have h : At U g.method c below := by rw [hg]; exact X.here
  have hlocals9 : W9 + (maxL + 11) + (headSpec ws rm).room.locals ≤ R.locals := hlocals
  have happ : (headSpec ws rm).appliesLoose y e.platform (U.calling g mk a) = true :=
    Spec.appliesLoose_calling (g := g) h hdg hn hkY hinitY
      (X.room_calling (g := g) (R' := (headSpec ws rm).room) hsize hmY hcY hframes (by rw [hlY]; omega) h4 h5) h1
  obtain ⟨mid, hmid⟩ := h.above
  have hfr : (U.setTop g).frames = (.java g :: mid) ++ below := by rw [State.frames_setTop' g h.top, hmid]; rfl
  obtain ⟨o, s₂, hsteps, -, hend, hq⟩ := Steps.callFree hM p X.admits X.cas X.clock (acts := []) hfr happ hPc trivial
  have hq' : vx_Q Qc XC mc ms free a (U.calling g mk a) o s₂ := hq
  rw [State.frames_setTop' g h.top] at hend
  obtain ⟨g₀, hg0⟩ := Option.isSome_iff_exists.mp h.top
  obtain ⟨r, hr⟩ := State.topJava?_eq_some.mp hg0
  have hr' : (({ U with heap := s₂.heap, slotsUsed := s₂.slotsUsed } : State).setVm s₂.vm).frames = .java g₀ :: r := hr
  rcases hq' with ⟨hqc, L, hfe, hL⟩ | ⟨q, rfl, E, ce, L, hx, hce, hcv, hcl, hW₂, hsm, hL⟩
  · obtain ⟨⟨v, rfl⟩, hW₂, e2, q2, q3, q4, q5, q6⟩ := id hfe
    have e3 : s₂ = ({ (U.calling g mk a).setFrames s₂.frames with heap := s₂.heap, slotsUsed := s₂.slotsUsed } : State).setVm s₂.vm := by
      have : s₂ = ({ s₂ with vm := (U.calling g mk a).vm } : State).setVm s₂.vm := rfl
      rw [e2] at this
      exact this
    obtain ⟨c₂, i₂, len₂, hc₂, hd₂, hf₂⟩ := hend
    have hW' : U.WarmedH s₂.vm := hW₂
    have hcc : c₂ = c := by
      have h1 : s₂.code? g.method = U.code? g.method := by
        rw [State.code?_eq, State.code?_eq, hW'.alike.method?]
      exact Option.some.inj (hc₂.symm.trans (h1.trans h.code))
    subst hcc
    have hlen : len₂ = len := by rw [hdg] at hd₂; cases hd₂; rfl
    subst hlen
    have hs₂ : s₂ = (({ U with heap := s₂.heap, slotsUsed := s₂.slotsUsed } : State).setVm s₂.vm).setTop { g with pc := g.pc + len₂, stack := v.toList ++ g.stack } := by
      refine e3.trans ?_
      rw [hf₂, State.calling_eq h.top, State.setFrames_setFrames, State.setTop_of_frames _ hr', hr]
      rfl
    have hsame : U.sameButNew ({ U with heap := s₂.heap, slotsUsed := s₂.slotsUsed } : State) L mc ms := by
      refine ⟨?_, q2, q3, q4, q5, q6⟩
      obtain ⟨t, ht, -⟩ := State.frames_cons hr
      show ({ U with heap := s₂.heap, slotsUsed := s₂.slotsUsed } : State) = { U.setFrames U.frames with heap := s₂.heap, slotsUsed := s₂.slotsUsed }
      rw [State.setFrames_self ht]
    subst hg
    refine Or.inl ⟨v, ⟨(({ U with heap := s₂.heap, slotsUsed := s₂.slotsUsed } : State).setVm s₂.vm), Ls ++ L, c0 + mc, s0 + ms⟩,
      ⟨X.admits, X.cas, X.clock, X.frames, X.room, X.hears, X.method, X.code, (X.here.setHeapUsed s₂.heap s₂.slotsUsed).setVm hW'.alike, X.tail, State.WarmedH.trans X.warmed hW', X.limits, X.bytes, X.same.trans (hsame.setVm s.vm)⟩,
      ⟨g, mk, s₂, L, rfl, rfl, hqc, rfl, hL, rfl, rfl⟩, ?_⟩
    show Steps p.tables e below _ ((({ U with heap := s₂.heap, slotsUsed := s₂.slotsUsed } : State).setVm s₂.vm).setTop { g with pc := g.pc + len₂, stack := v.toList ++ g.stack })
    rw [← hs₂]
    exact hsteps
  · obtain ⟨e2, q2, q3, q4, q5, q6⟩ := id hsm
    have e3 : s₂ = ({ (U.calling g mk a).setFrames s₂.frames with heap := s₂.heap, slotsUsed := s₂.slotsUsed } : State).setVm s₂.vm := by
      have : s₂ = ({ s₂ with vm := (U.calling g mk a).vm } : State).setVm s₂.vm := rfl
      rw [e2] at this
      exact this
    have hf₂ : s₂.frames = .throwing q :: .java g :: U.frames.tail := hend
    have hW' : U.WarmedH s₂.vm := hW₂
    have hs₂ : s₂ = ((({ U with heap := s₂.heap, slotsUsed := s₂.slotsUsed } : State).setVm s₂.vm).setTop g).pushFrame (.throwing q) := by
      refine e3.trans ?_
      rw [hf₂, State.calling_eq h.top, State.setFrames_setFrames, State.pushFrame, State.frames_setTop _ hr', State.setTop_of_frames _ hr', State.setFrames_setFrames, hr]
      rfl
    have hsame : U.sameButNew ({ U with heap := s₂.heap, slotsUsed := s₂.slotsUsed } : State) L mc ms := by
      refine ⟨?_, q2, q3, q4, q5, q6⟩
      obtain ⟨t, ht, -⟩ := State.frames_cons hr
      show ({ U with heap := s₂.heap, slotsUsed := s₂.slotsUsed } : State) = { U.setFrames U.frames with heap := s₂.heap, slotsUsed := s₂.slotsUsed }
      rw [State.setFrames_self ht]
    subst hg
    refine Or.inr ⟨q, ⟨(({ U with heap := s₂.heap, slotsUsed := s₂.slotsUsed } : State).setVm s₂.vm), Ls ++ L, c0 + mc, s0 + ms⟩,
      ⟨X.admits, X.cas, X.clock, X.frames, X.room, X.hears, X.method, X.code, (X.here.setHeapUsed s₂.heap s₂.slotsUsed).setVm hW'.alike, X.tail, State.WarmedH.trans X.warmed hW', X.limits, X.bytes, X.same.trans (hsame.setVm s.vm)⟩,
      ⟨g, mk, s₂, L, E, ce, rfl, rfl, hx, hce, hcv, hcl, rfl, hL, rfl, rfl⟩, ?_⟩
    show Steps p.tables e below _ (((({ U with heap := s₂.heap, slotsUsed := s₂.slotsUsed } : State).setVm s₂.vm).setTop g).pushFrame (.throwing q))
    rw [← hs₂]
    exact hsteps
end
variable {p : Program} {l : Launch} {e : Env} {R : Room} {s : State} {m : MethodId} {args : Array Value} {below : List Frame} {meth : Method} {c : Code} {T : State} {H : Heap} {locs : List Loc} {cells slots : Nat}
theorem vx_callVX (X : Stand p l e R s m args below meth c T locs cells slots) (hexec : p.tables.exec = Jvm.exec) {own C : String} {index : Nat} {y : MethodName} {bytes : ByteArray} {maxL : Nat} {ret : Option FieldType} {hh : List (Nat × Nat × Nat × Nat)}
    (hown : s.vm.findClass own = some m.cls) (hlink : (Cond.methodLink own index y).before args s = true) (hinst : (Cond.instanceMethod y).before args s = true) (hsel : (Cond.selects C y y).before args s = true)
    (hcode : (Cond.codeWith y bytes maxL ret hh).before args s = true) (hy : y.cls ≠ "java/lang/invoke/MethodHandle" ∧ y.cls ≠ "java/lang/invoke/VarHandle")
    {W9 : Nat} {Pre : Pt → Array Value → Prop} {Post : Pt → Array Value → Option Value → Pt → Prop} {PostX : Pt → Array Value → Addr → Pt → Prop} (hK : vx_Back l R p e below s args y 3 W9 Pre Post PostX)
    {b : Addr} {cellB : Cell} (hcell : T.heap[b]? = some cellB) (hobj : cellB.vm.isStatics = false) (hcls : s.vm.findClass C = some cellB.cls)
    {g : JFrame} (hg : g.method = m) (hsize : g.locals.size = c.maxLocals) {argsL rest : List Value} (hlen : ∀ sig, parseMethodDescriptor y.desc = some sig → argsL.length = sig.parameters.length)
    (hstack : g.stack = argsL.reverse ++ .ref b :: rest) (hW : 2 * g.monitorRoom + (rest.map fun v => v.category).sum ≤ W9) (hdg : decode c.code g.pc = .ok (.invokevirtual index, 3))
    (hpre : ∀ vm₁, s.WarmedH vm₁ → Pre ⟨T.setVm vm₁, locs, cells, slots⟩ (Value.ref b :: argsL).toArray) :
    (∃ (v : Option Value) (vm₁ : Vm) (B : Pt), s.WarmedH vm₁ ∧ Stand p l e R s m args below meth c B.U B.locs B.cells B.slots ∧ Post ⟨T.setVm vm₁, locs, cells, slots⟩ (Value.ref b :: argsL).toArray v B ∧
      ∀ target, Steps p.tables e below (B.U.setTop { g with pc := g.pc + 3, stack := v.toList ++ rest }) target → Steps p.tables e below (T.setTop g) target) ∨
    (∃ (q : Addr) (vm₁ : Vm) (B : Pt), s.WarmedH vm₁ ∧ Stand p l e R s m args below meth c B.U B.locs B.cells B.slots ∧ PostX ⟨T.setVm vm₁, locs, cells, slots⟩ (Value.ref b :: argsL).toArray q B ∧
      Steps p.tables e below (T.setTop g) ((B.U.setTop { g with stack := rest }).pushFrame (.throwing q))) := by
  obtain ⟨mk, methM, hnamed, hmethM, hstM, habM⟩ := Cond.instanceMethod_spec hinst
  obtain ⟨m8, methM', cM, hn8, hmethM', -, -, -, -, -, -, hsigM⟩ := Cond.codeWith_spec hcode
  cases Option.some.inj (hn8.symm.trans hnamed)
  cases hmethM.symm.trans hmethM'
  obtain ⟨c2, r2, m2, q1, q2, q3, q4, kP, hkP, hkPi⟩ := Cond.selects_spec hsel
  cases hcls.symm.trans q1
  cases (State.methodFound?_of_named hnamed hy).symm.trans q2
  cases hnamed.symm.trans q3
  have hselP : selectMethod e.platform s.vm cellB.cls mk = .method mk := by rw [Launch.admits_selectMethod X.admits]; exact q4
  obtain ⟨vm₁, X₁, hstep₁⟩ := X.invokevirtual hexec hown hlink hnamed hmethM hstM hkP hkPi hy (a := b) (cell := cellB) hcell
    (fun z h => by rw [h] at hobj; cases hobj) hselP hmethM habM hkP hkPi (g := g) hg (argsL := argsL) (rest := rest) (hlen _ hsigM) hstack hdg
  rcases hK m meth c ⟨T.setVm vm₁, locs, cells, slots⟩ { g with stack := rest } (.invokevirtual index) mk (Value.ref b :: argsL).toArray X₁ hg hsize hdg hW (X₁.named hnamed) (hpre vm₁ X₁.warmed) with ⟨v, B, X', hpost, hsteps⟩ | ⟨q, B, X', hpost, hsteps⟩
  · exact Or.inl ⟨v, vm₁, B, X₁.warmed, X', hpost, fun target h => hstep₁ _ fun acts => by rw [doInvoke_state]; exact hsteps.trans h⟩
  · exact Or.inr ⟨q, vm₁, B, X₁.warmed, X', hpost, hstep₁ _ fun acts => by rw [doInvoke_state]; exact hsteps⟩
theorem vx_callSX (X : Stand p l e R s m args below meth c T locs cells slots) (hexec : p.tables.exec = Jvm.exec) {own : String} {index : Nat} {y : MethodName} {bytes : ByteArray} {maxL : Nat} {ret : Option FieldType} {hh : List (Nat × Nat × Nat × Nat)}
    (hown : s.vm.findClass own = some m.cls) (hlink : (Cond.methodLink own index y).before args s = true) (hstat : (Cond.static y).before args s = true) (hinit : (Cond.initialized y.cls).before args s = true)
    (hcode : (Cond.codeWith y bytes maxL ret hh).before args s = true) (hy : y.cls ≠ "java/lang/invoke/MethodHandle" ∧ y.cls ≠ "java/lang/invoke/VarHandle")
    {W9 : Nat} {Pre : Pt → Array Value → Prop} {Post : Pt → Array Value → Option Value → Pt → Prop} {PostX : Pt → Array Value → Addr → Pt → Prop} (hK : vx_Back l R p e below s args y 3 W9 Pre Post PostX)
    {g : JFrame} (hg : g.method = m) (hsize : g.locals.size = c.maxLocals) {argsL rest : List Value} (hlen : ∀ sig, parseMethodDescriptor y.desc = some sig → argsL.length = sig.parameters.length)
    (hstack : g.stack = argsL.reverse ++ rest) (hW : 2 * g.monitorRoom + (rest.map fun v => v.category).sum ≤ W9) (hdg : decode c.code g.pc = .ok (.invokestatic index, 3))
    (hpre : ∀ vm₁, s.WarmedH vm₁ → Pre ⟨T.setVm vm₁, locs, cells, slots⟩ argsL.toArray) :
    (∃ (v : Option Value) (vm₁ : Vm) (B : Pt), s.WarmedH vm₁ ∧ Stand p l e R s m args below meth c B.U B.locs B.cells B.slots ∧ Post ⟨T.setVm vm₁, locs, cells, slots⟩ argsL.toArray v B ∧
      ∀ target, Steps p.tables e below (B.U.setTop { g with pc := g.pc + 3, stack := v.toList ++ rest }) target → Steps p.tables e below (T.setTop g) target) ∨
    (∃ (q : Addr) (vm₁ : Vm) (B : Pt), s.WarmedH vm₁ ∧ Stand p l e R s m args below meth c B.U B.locs B.cells B.slots ∧ PostX ⟨T.setVm vm₁, locs, cells, slots⟩ argsL.toArray q B ∧
      Steps p.tables e below (T.setTop g) ((B.U.setTop { g with stack := rest }).pushFrame (.throwing q))) := by
  obtain ⟨mk, methM, cM, hnamed, hmethM, -, -, -, -, -, -, hsigM⟩ := Cond.codeWith_spec hcode
  have hstatic : methM.isStatic = true := Cond.static_spec hnamed hmethM hstat
  obtain ⟨kP, hkP, -⟩ := className_of_methodNamed hnamed
  have hinitP : kP.init = .initialized := Cond.initialized_spec (findClass_of_methodNamed hnamed) hkP hinit
  obtain ⟨vm₁, X₁, hstep₁⟩ := X.invokestatic hexec hown hlink hnamed hmethM hstatic hkP hinitP hy (g := g) hg (argsL := argsL) (rest := rest) (hlen _ hsigM) hstack hdg
  rcases hK m meth c ⟨T.setVm vm₁, locs, cells, slots⟩ { g with stack := rest } (.invokestatic index) mk argsL.toArray X₁ hg hsize hdg hW (X₁.named hnamed) (hpre vm₁ X₁.warmed) with ⟨v, B, X', hpost, hsteps⟩ | ⟨q, B, X', hpost, hsteps⟩
  · exact Or.inl ⟨v, vm₁, B, X₁.warmed, X', hpost, fun target h => hstep₁ _ fun acts => by rw [doInvoke_state]; exact hsteps.trans h⟩
  · exact Or.inr ⟨q, vm₁, B, X₁.warmed, X', hpost, hstep₁ _ fun acts => by rw [doInvoke_state]; exact hsteps⟩
theorem vx_callVW (X : Stand p l e R s m args below meth c T locs cells slots) (hexec : p.tables.exec = Jvm.exec) {own C : String} {index : Nat} {y : MethodName} {bytes : ByteArray} {maxL : Nat} {ret : Option FieldType} {hh : List (Nat × Nat × Nat × Nat)}
    (hown : s.vm.findClass own = some m.cls) (hlink : (Cond.methodLink own index y).before args s = true) (hinst : (Cond.instanceMethod y).before args s = true) (hsel : (Cond.selects C y y).before args s = true)
    (hcode : (Cond.codeWith y bytes maxL ret hh).before args s = true) (hy : y.cls ≠ "java/lang/invoke/MethodHandle" ∧ y.cls ≠ "java/lang/invoke/VarHandle")
    {W9 : Nat} {Pre : Pt → Array Value → Prop} {Post : Pt → Array Value → Option Value → Pt → Prop} (hK : Back l R p e below s args y 3 W9 Pre Post)
    {b : Addr} {cellB : Cell} (hcell : T.heap[b]? = some cellB) (hobj : cellB.vm.isStatics = false) (hcls : s.vm.findClass C = some cellB.cls)
    {g : JFrame} (hg : g.method = m) (hsize : g.locals.size = c.maxLocals) {argsL rest : List Value} (hlen : ∀ sig, parseMethodDescriptor y.desc = some sig → argsL.length = sig.parameters.length)
    (hstack : g.stack = argsL.reverse ++ .ref b :: rest) (hW : 2 * g.monitorRoom + (rest.map fun v => v.category).sum ≤ W9) (hdg : decode c.code g.pc = .ok (.invokevirtual index, 3))
    (hpre : ∀ vm₁, s.WarmedH vm₁ → Pre ⟨T.setVm vm₁, locs, cells, slots⟩ (Value.ref b :: argsL).toArray) :
    ∃ (v : Option Value) (vm₁ : Vm) (B : Pt), s.WarmedH vm₁ ∧ Stand p l e R s m args below meth c B.U B.locs B.cells B.slots ∧ Post ⟨T.setVm vm₁, locs, cells, slots⟩ (Value.ref b :: argsL).toArray v B ∧
      ∀ target, Steps p.tables e below (B.U.setTop { g with pc := g.pc + 3, stack := v.toList ++ rest }) target → Steps p.tables e below (T.setTop g) target := by
  obtain ⟨mk, methM, hnamed, hmethM, hstM, habM⟩ := Cond.instanceMethod_spec hinst
  obtain ⟨m8, methM', cM, hn8, hmethM', -, -, -, -, -, -, hsigM⟩ := Cond.codeWith_spec hcode
  cases Option.some.inj (hn8.symm.trans hnamed)
  cases hmethM.symm.trans hmethM'
  obtain ⟨c2, r2, m2, q1, q2, q3, q4, kP, hkP, hkPi⟩ := Cond.selects_spec hsel
  cases hcls.symm.trans q1
  cases (State.methodFound?_of_named hnamed hy).symm.trans q2
  cases hnamed.symm.trans q3
  have hselP : selectMethod e.platform s.vm cellB.cls mk = .method mk := by rw [Launch.admits_selectMethod X.admits]; exact q4
  obtain ⟨vm₁, X₁, hstep₁⟩ := X.invokevirtual hexec hown hlink hnamed hmethM hstM hkP hkPi hy (a := b) (cell := cellB) hcell
    (fun z h => by rw [h] at hobj; cases hobj) hselP hmethM habM hkP hkPi (g := g) hg (argsL := argsL) (rest := rest) (hlen _ hsigM) hstack hdg
  obtain ⟨v, B, X', hpost, hsteps⟩ := hK m meth c ⟨T.setVm vm₁, locs, cells, slots⟩ { g with stack := rest } (.invokevirtual index) mk (Value.ref b :: argsL).toArray X₁ hg hsize hdg hW (X₁.named hnamed) (hpre vm₁ X₁.warmed)
  exact ⟨v, vm₁, B, X₁.warmed, X', hpost, fun target h => hstep₁ _ fun acts => by rw [doInvoke_state]; exact hsteps.trans h⟩
abbrev vx_CVW (R : Room) (s : State) (args : Array Value) (own C : String) (index : Nat) (y : MethodName) (bytes : ByteArray) (maxL : Nat) (ret : Option FieldType) (hh : List (Nat × Nat × Nat × Nat)) (ws : List Cond) (rm : Room) (mc ms n : Nat) : Prop :=
  (rm.cells = mc ∧ rm.slots = ms ∧ rm.frames + 1 ≤ R.frames ∧ 8 + (maxL + 11) + rm.locals ≤ R.locals ∧ (∀ w ∈ ws, ∀ (a' : Array Value) (U : State), s.WarmedH U.vm → w.before a' U = true) ∧ Cond.codeWith y bytes maxL ret hh ∈ ws) ∧
  (Cond.codeWith y bytes maxL ret hh).before args s = true ∧ (Cond.initialized y.cls).before args s = true ∧ (y.cls ≠ "java/lang/invoke/MethodHandle" ∧ y.cls ≠ "java/lang/invoke/VarHandle") ∧
  (∀ sig, parseMethodDescriptor y.desc = some sig → n = sig.parameters.length) ∧ (Cond.methodLink own index y).before args s = true ∧ (Cond.instanceMethod y).before args s = true ∧ (Cond.selects C y y).before args s = true
theorem vx_cwVW {own C : String} {index maxL mc ms : Nat} {y : MethodName} {bytes : ByteArray} {ret : Option FieldType} {hh : List (Nat × Nat × Nat × Nat)} {Ts ws ws' : List Cond} {rm : Room} (n : Nat) (ht : ∀ w ∈ Ts, w.before args s = true) (hT : GoodIn Ts (wsV own index C y ws)) (hw : ws = Cond.codeWith y bytes maxL ret hh :: ws') (hrc : rm.cells = mc) (hrs : rm.slots = ms)
    (hd : y.cls = C ∧ y.cls ≠ "java/lang/invoke/MethodHandle" ∧ y.cls ≠ "java/lang/invoke/VarHandle" ∧ (parseMethodDescriptor y.desc).map (fun d => d.parameters.length) = some n) (hR : rm.frames + 1 ≤ R.frames ∧ 8 + (maxL + 11) + rm.locals ≤ R.locals) :
    vx_CVW R s args own C index y bytes maxL ret hh ws rm mc ms n := by
  obtain ⟨hC, hd⟩ := hd
  subst hC
  have ok : ∀ w ∈ wsV own index y.cls y ws, w.before args s = true := fun w h => ht w (hT w h).1
  have hG : GoodIn Ts ws := fun w h => hT w (by unfold wsV; exact List.mem_append_right _ h)
  have hc : Cond.codeWith y bytes maxL ret hh ∈ ws := by rw [hw]; exact List.mem_cons_self
  refine ⟨⟨hrc, hrs, hR.1, hR.2, pay_in ht hG, hc⟩, ht _ (hG _ hc).1, ok _ (by simp [wsV]), ⟨hd.1, hd.2.1⟩, fun sig h => ?_, ok _ (by simp [wsV]), ok _ (by simp [wsV]), ok _ (by simp [wsV])⟩
  have h2 := hd.2.2
  rw [h] at h2
  exact (Option.some.inj h2).symm
theorem vx_runVW {y : MethodName} {bytes cc : ByteArray} {maxL nL mc ms n index : Nat} {ret : Option FieldType} {hh : List (Nat × Nat × Nat × Nat)} {ws : List Cond} {rm : Room} {Pc : Array Value → State → Prop} {Qc : Array Value → State → Outcome → State → Prop} {free : Addr → Prop} {Ts : List Cond} {own C : String} {b : Addr} {As rest : List Value} {g : JFrame}
    (S : CallFix p m c cc nL s args Ts own) (hM : Met l y ws rm Pc Qc mc ms free) (cw : vx_CVW R s args own C index y bytes maxL ret hh ws rm mc ms n) (hp : PreV s H C b Pc As)
    (hg : g.method = m) (hn : As.length = n) (hsize : g.locals.size = nL) (hstack : g.stack = As.reverse ++ .ref b :: rest) (hW : 2 * g.monitorRoom + (rest.map fun v => v.category).sum ≤ 8) (hdg : decode cc g.pc = .ok (.invokevirtual index, 3)) (hf : cells + mc ≤ R.cells ∧ slots + ms ≤ R.slots) :
    va_Run p l e R s m args below meth c H locs cells slots mc ms g rest (Qc (Value.ref b :: As).toArray) free := by
  obtain ⟨⟨hrc, hrs, hfr, hlo, hws, hcw⟩, hcode, hini, hy, hlen, hl, hin, hse⟩ := cw
  have hK : Back l R p e below s args y 3 8 (PreOf R mc ms Pc) (PostOf Qc mc ms free) := va_backW (hh := hh) (bytes := bytes) (maxL := maxL) (ret := ret) hM hp.1 hrc hrs hfr hlo hws hcw (fun a' U hW => word_at hW (Or.inl (by first | rfl | simp [Cond.onTables, Cond.keeps, Cond.steady])) hini)
  obtain ⟨hx, hb, hml, ho, -⟩ := S
  obtain ⟨-, ⟨cellB, hcB, hoB, hclB⟩, hPc⟩ := hp
  intro T hT X
  obtain ⟨v, vm₁, ⟨U', l2, c2, s2⟩, hW₁, X', ⟨g', mk, t, L, e1, e2, hq, h1, hL, h2, h3⟩, st⟩ := vx_callVW X hx (C := C) (hh := hh) (bytes := bytes) (maxL := maxL) (ret := ret) ho hl hin hse hcode hy hK (by rw [hT]; exact hcB) hoB hclB hg (hsize.trans hml.symm) (argsL := As) (rest := rest) (fun sig h => hn.trans (hlen sig h)) hstack hW (by rw [hb]; exact hdg)
    (fun vm₁ hW₁ => ⟨hf.1, hf.2, hPc (T.setVm vm₁) hT hW₁⟩)
  dsimp only [Pt.U, Pt.locs, Pt.cells, Pt.slots] at X' e1 e2 h1 h2 h3 st
  subst h1; subst h2; subst h3
  exact ⟨v, (T.setVm vm₁).calling g' mk (Value.ref b :: As).toArray, t, U', L, hT, X', hL, e1, e2, hq, st⟩
section
variable {y : MethodName} {bytes cc : ByteArray} {maxL nL mc ms n index : Nat} {ret : Option FieldType} {ws : List Cond} {rm : Room} {Pc : Array Value → State → Prop} {Qc : Array Value → State → Outcome → State → Prop} {XC : String → State → State → Prop} {free : Addr → Prop} {Ts : List Cond} {own C : String} {b : Addr} {As rest : List Value} {g : JFrame}
theorem vx_runVX {hh : List (Nat × Nat × Nat × Nat)} (S : CallFix p m c cc nL s args Ts own) (hM : vx_Met l y ws rm Pc Qc XC mc ms free) (cw : vx_CVW R s args own C index y bytes maxL ret hh ws rm mc ms n) (hp : PreV s H C b Pc As)
    (hg : g.method = m) (hn : As.length = n) (hsize : g.locals.size = nL) (hstack : g.stack = As.reverse ++ .ref b :: rest) (hW : 2 * g.monitorRoom + (rest.map fun v => v.category).sum ≤ 8) (hdg : decode cc g.pc = .ok (.invokevirtual index, 3)) (hf : cells + mc ≤ R.cells ∧ slots + ms ≤ R.slots) :
    vx_Run p l e R s m args below meth c H locs cells slots mc ms g rest (Qc (Value.ref b :: As).toArray) XC free := by
  obtain ⟨⟨hrc, hrs, hfr, hlo, hws, hcw⟩, hcode, hini, hy, hlen, hl, hin, hse⟩ := cw
  have hK : vx_Back l R p e below s args y 3 8 (PreOf R mc ms Pc) (PostOf Qc mc ms free) (vx_Post XC mc ms free) := vx_backW (hh := hh) (bytes := bytes) (maxL := maxL) (ret := ret) hM hp.1 hrc hrs hfr hlo hws hcw (fun a' U hW => word_at hW (Or.inl (by first | rfl | simp [Cond.onTables, Cond.keeps, Cond.steady])) hini)
  obtain ⟨hx, hb, hml, ho, -⟩ := S
  obtain ⟨-, ⟨cellB, hcB, hoB, hclB⟩, hPc⟩ := hp
  intro T hT X
  rcases vx_callVX X hx (C := C) (hh := hh) (bytes := bytes) (maxL := maxL) (ret := ret) ho hl hin hse hcode hy hK (by rw [hT]; exact hcB) hoB hclB hg (hsize.trans hml.symm) (argsL := As) (rest := rest) (fun sig h => hn.trans (hlen sig h)) hstack hW (by rw [hb]; exact hdg)
    (fun vm₁ hW₁ => ⟨hf.1, hf.2, hPc (T.setVm vm₁) hT hW₁⟩) with ⟨v, vm₁, ⟨U', l2, c2, s2⟩, hW₁, X', ⟨g', mk, t, L, e1, e2, hq, h1, hL, h2, h3⟩, st⟩ | ⟨q, vm₁, ⟨U', l2, c2, s2⟩, hW₁, X', ⟨g', mk, t, L, E, ce, e1, e2, hq, hce, hcv, hcl, h1, hL, h2, h3⟩, st⟩
  · dsimp only [Pt.U, Pt.locs, Pt.cells, Pt.slots] at X' e1 e2 h1 h2 h3 st
    subst h1; subst h2; subst h3
    exact Or.inl ⟨v, (T.setVm vm₁).calling g' mk (Value.ref b :: As).toArray, t, U', L, hT, X', hL, e1, e2, hq, st⟩
  · dsimp only [Pt.U, Pt.locs, Pt.cells, Pt.slots] at X' e1 e2 h1 h2 h3 st hcl
    subst h1; subst h2; subst h3
    exact Or.inr ⟨q, (T.setVm vm₁).calling g' mk (Value.ref b :: As).toArray, t, U', L, E, ce, hT, X', hL, e1, e2, hq, hce, hcv, vx_cls hW₁ hcl, st⟩
theorem vx_runSX {hh : List (Nat × Nat × Nat × Nat)} (S : CallFix p m c cc nL s args Ts own) (hM : vx_Met l y ws rm Pc Qc XC mc ms free) (cw : vx_CSW R s args own index y bytes maxL ret hh ws rm mc ms n) (hp : PreS s H Pc As)
    (hg : g.method = m) (hn : As.length = n) (hsize : g.locals.size = nL) (hstack : g.stack = As.reverse ++ rest) (hW : 2 * g.monitorRoom + (rest.map fun v => v.category).sum ≤ 8) (hdg : decode cc g.pc = .ok (.invokestatic index, 3)) (hf : cells + mc ≤ R.cells ∧ slots + ms ≤ R.slots) :
    vx_Run p l e R s m args below meth c H locs cells slots mc ms g rest (Qc As.toArray) XC free := by
  obtain ⟨⟨hrc, hrs, hfr, hlo, hws, hcw⟩, hcode, hini, hy, hlen, hl, hstt⟩ := cw
  have hK : vx_Back l R p e below s args y 3 8 (PreOf R mc ms Pc) (PostOf Qc mc ms free) (vx_Post XC mc ms free) := vx_backW (hh := hh) (bytes := bytes) (maxL := maxL) (ret := ret) hM hp.1 hrc hrs hfr hlo hws hcw (fun a' U hW => word_at hW (Or.inl (by first | rfl | simp [Cond.onTables, Cond.keeps, Cond.steady])) hini)
  obtain ⟨hx, hb, hml, ho, -⟩ := S
  intro T hT X
  rcases vx_callSX X hx (hh := hh) (bytes := bytes) (maxL := maxL) (ret := ret) ho hl hstt hini hcode hy hK hg (hsize.trans hml.symm) (argsL := As) (rest := rest) (fun sig h => hn.trans (hlen sig h)) hstack hW (by rw [hb]; exact hdg)
    (fun vm₁ hW₁ => ⟨hf.1, hf.2, hp.2 (T.setVm vm₁) hT hW₁⟩) with ⟨v, vm₁, ⟨U', l2, c2, s2⟩, hW₁, X', ⟨g', mk, t, L, e1, e2, hq, h1, hL, h2, h3⟩, st⟩ | ⟨q, vm₁, ⟨U', l2, c2, s2⟩, hW₁, X', ⟨g', mk, t, L, E, ce, e1, e2, hq, hce, hcv, hcl, h1, hL, h2, h3⟩, st⟩
  · dsimp only [Pt.U, Pt.locs, Pt.cells, Pt.slots] at X' e1 e2 h1 h2 h3 st
    subst h1; subst h2; subst h3
    exact Or.inl ⟨v, (T.setVm vm₁).calling g' mk As.toArray, t, U', L, hT, X', hL, e1, e2, hq, st⟩
  · dsimp only [Pt.U, Pt.locs, Pt.cells, Pt.slots] at X' e1 e2 h1 h2 h3 st hcl
    subst h1; subst h2; subst h3
    exact Or.inr ⟨q, (T.setVm vm₁).calling g' mk As.toArray, t, U', L, E, ce, hT, X', hL, e1, e2, hq, hce, hcv, vx_cls hW₁ hcl, st⟩
end
end VXH
theorem vx_ofWH {l : Launch} {y : MethodName} {ws ws' : List Cond} {rm : Room} {Pc : Array Value → State → Prop} {Qc : Array Value → State → Outcome → State → Prop} {XC : String → State → State → Prop} {mc ms : Nat} {free : Addr → Prop} {cc : ByteArray} {maxL : Nat} {ret : Option FieldType} {hh : List (Nat × Nat × Nat × Nat)}
    (hy : plainName y.cls = true) (hw : ws = Cond.codeWith y cc maxL ret hh :: ws')
    (body : ∀ p e s m args below meth c s₁, BodyLoose p l y (headSpec ws rm) cc maxL ret e s m args below meth c s₁ → c.maxLocals = maxL → Pc args s →
      W p l e (headSpec ws rm).room s m args below meth c s.heap [] 0 0 (vx_MQ below Qc XC args s mc ms free) (entryFrame m args maxL)) : vx_Met l y ws rm Pc Qc XC mc ms free := by
  refine MetFree.of_bodyS (code := cc) (maxLocals := maxL) (ret := ret) hy ?_ ?_
  · intro args s m h hn
    obtain ⟨m9, meth, c, hn9, h1, h2, h3, h4, -, h5, h6, -⟩ := Cond.codeWith_spec (atoms_spec (ws := ws) h _ (by rw [hw]; exact List.mem_cons_self))
    cases hn.symm.trans hn9
    exact ⟨meth, c, h1, h2, h3, h4, h5, h6⟩
  · intro p e s m args below meth c s₁ B hml hP _
    have hh0 : s₁.heap = s.heap := by rw [B.state]; rfl
    obtain ⟨t, a1, o, b1, b2, b3⟩ := body p e s m args below meth c s₁ B hml hP s₁ hh0 (Stand.of_body B)
    exact ⟨t, o, a1, b1, b2, b3⟩
/-! ===== END ===== -/
end
section
/-! ===== BEGIN printed: names, fields, word lists, decode rows ===== -/
def RX0 : String := "PrintLedger$Expectation"
def TX0 : u_T := fun k => match k with
  | 0 => ("PrintLedger$Expectation", "passes", "I", false)
  | 1 => ("PrintLedger$Expectation", "change", "I", false)
  | 2 => ("PrintLedger$Expectation", "spoiled", "I", false)
  | 3 => ("PrintLedger$Expectation", "needed", "I", false)
  | 4 => ("PrintLedger$Expectation", "minutes", "I", false)
  | 5 => ("PrintLedger$Expectation", "cost", "I", false)
  | _ => ("PrintLedger$Expectation", "quote", "I", false)
def tyX0 : Nat → FieldType := fun k => match k with
  | 0 => .int
  | 1 => .int
  | 2 => .int
  | 3 => .int
  | 4 => .int
  | 5 => .int
  | _ => .int
abbrev wsX00 : List Cond := u_ws RX0 TX0 7
theorem nmX0 : ∀ a, a < 7 → ∀ b, b < 7 → a ≠ b → (TX0 a).2.1 ≠ (TX0 b).2.1 := by decide +kernel
theorem tyX0_ok : ∀ k, k < 7 → parseFieldDescriptor (TX0 k).2.2.1 = some (tyX0 k) := by decide +kernel
abbrev cX0_init : ByteArray := prog_2_method_1_code
def yX0_init : MethodName := ⟨RX0, "<init>", "()V"⟩
def RX1 : String := "PrintLedger$Job"
def TX1 : u_T := fun k => match k with
  | 0 => ("PrintLedger$Job", "number", "I", true)
  | 1 => ("PrintLedger$Job", "paper", "I", true)
  | 2 => ("PrintLedger$Job", "sheet", "LPrintLedger$Paper;", true)
  | 3 => ("PrintLedger$Job", "copies", "I", true)
  | 4 => ("PrintLedger$Job", "inks", "I", true)
  | 5 => ("PrintLedger$Job", "lies", "I", false)
  | 6 => ("PrintLedger$Job", "turned", "Z", false)
  | 7 => ("PrintLedger$Job", "leaves", "I", false)
  | 8 => ("PrintLedger$Job", "state", "I", false)
  | 9 => ("PrintLedger$Job", "press", "I", false)
  | 10 => ("PrintLedger$Job", "made", "I", false)
  | 11 => ("PrintLedger$Job", "quote", "I", false)
  | 12 => ("PrintLedger$Job", "cost", "I", false)
  | 13 => ("PrintLedger$Job", "invoiced", "I", false)
  | _ => ("PrintLedger$Job", "inksArePaid", "Z", false)
def tyX1 : Nat → FieldType := fun k => match k with
  | 0 => .int
  | 1 => .int
  | 2 => .object "PrintLedger$Paper"
  | 3 => .int
  | 4 => .int
  | 5 => .int
  | 6 => .boolean
  | 7 => .int
  | 8 => .int
  | 9 => .int
  | 10 => .int
  | 11 => .int
  | 12 => .int
  | 13 => .int
  | _ => .boolean
abbrev wsX10 : List Cond := u_ws RX1 TX1 15
theorem nmX1 : ∀ a, a < 15 → ∀ b, b < 15 → a ≠ b → (TX1 a).2.1 ≠ (TX1 b).2.1 := by decide +kernel
theorem tyX1_ok : ∀ k, k < 15 → parseFieldDescriptor (TX1 k).2.2.1 = some (tyX1 k) := by decide +kernel
abbrev cX1_init : ByteArray := prog_3_method_1_code
def yX1_init : MethodName := ⟨RX1, "<init>", "(IILPrintLedger$Paper;II)V"⟩
abbrev cX1_layOut : ByteArray := prog_3_method_2_code
def yX1_layOut : MethodName := ⟨RX1, "layOut", "(II)V"⟩
abbrev cX1_sheets : ByteArray := prog_3_method_3_code
def yX1_sheets : MethodName := ⟨RX1, "sheets", "()I"⟩
abbrev cX1_moneyOfInks : ByteArray := prog_3_method_4_code
def yX1_moneyOfInks : MethodName := ⟨RX1, "moneyOfInks", "()I"⟩
abbrev cX1_takenWith : ByteArray := prog_3_method_5_code
def yX1_takenWith : MethodName := ⟨RX1, "takenWith", "(I)I"⟩
abbrev cX1_worth : ByteArray := prog_3_method_6_code
def yX1_worth : MethodName := ⟨RX1, "worth", "()I"⟩
def RX2 : String := "PrintLedger$Paper"
def TX2 : u_T := fun k => match k with
  | 0 => ("PrintLedger$Paper", "wide", "I", false)
  | 1 => ("PrintLedger$Paper", "high", "I", false)
  | 2 => ("PrintLedger$Paper", "price", "I", false)
  | _ => ("PrintLedger$Paper", "stock", "I", false)
def tyX2 : Nat → FieldType := fun k => match k with
  | 0 => .int
  | 1 => .int
  | 2 => .int
  | _ => .int
abbrev wsX20 : List Cond := u_ws RX2 TX2 4
theorem nmX2 : ∀ a, a < 4 → ∀ b, b < 4 → a ≠ b → (TX2 a).2.1 ≠ (TX2 b).2.1 := by decide +kernel
theorem tyX2_ok : ∀ k, k < 4 → parseFieldDescriptor (TX2 k).2.2.1 = some (tyX2 k) := by decide +kernel
abbrev cX2_init : ByteArray := prog_4_method_1_code
def yX2_init : MethodName := ⟨RX2, "<init>", "()V"⟩
abbrev cX2_holds : ByteArray := prog_4_method_2_code
def yX2_holds : MethodName := ⟨RX2, "holds", "(II)I"⟩
abbrev cX2_lotsWithRoom : ByteArray := prog_4_method_3_code
def yX2_lotsWithRoom : MethodName := ⟨RX2, "lotsWithRoom", "()I"⟩
def RX3 : String := "PrintLedger$Press"
def TX3 : u_T := fun k => match k with
  | 0 => ("PrintLedger$Press", "towers", "I", false)
  | 1 => ("PrintLedger$Press", "inks", "I", false)
  | 2 => ("PrintLedger$Press", "ready", "I", false)
  | 3 => ("PrintLedger$Press", "run", "I", false)
  | 4 => ("PrintLedger$Press", "spoil", "I", false)
  | 5 => ("PrintLedger$Press", "line", "[LPrintLedger$Job;", true)
  | _ => ("PrintLedger$Press", "waiting", "I", false)
def tyX3 : Nat → FieldType := fun k => match k with
  | 0 => .int
  | 1 => .int
  | 2 => .int
  | 3 => .int
  | 4 => .int
  | 5 => .array (.object "PrintLedger$Job")
  | _ => .int
abbrev wsX30 : List Cond := u_ws RX3 TX3 7
theorem nmX3 : ∀ a, a < 7 → ∀ b, b < 7 → a ≠ b → (TX3 a).2.1 ≠ (TX3 b).2.1 := by decide +kernel
theorem tyX3_ok : ∀ k, k < 7 → parseFieldDescriptor (TX3 k).2.2.1 = some (tyX3 k) := by decide +kernel
abbrev cX3_init : ByteArray := prog_5_method_1_code
def yX3_init : MethodName := ⟨RX3, "<init>", "()V"⟩
abbrev cX3_passesOf : ByteArray := prog_5_method_2_code
def yX3_passesOf : MethodName := ⟨RX3, "passesOf", "(LPrintLedger$Job;)I"⟩
abbrev cX3_jobAt : ByteArray := prog_5_method_3_code
def yX3_jobAt : MethodName := ⟨RX3, "jobAt", "(I)LPrintLedger$Job;"⟩
abbrev cX3_insert : ByteArray := prog_5_method_4_code
def yX3_insert : MethodName := ⟨RX3, "insert", "(LPrintLedger$Job;I)V"⟩
abbrev cX3_remove : ByteArray := prog_5_method_5_code
def yX3_remove : MethodName := ⟨RX3, "remove", "(I)V"⟩
abbrev cX3_bringLeastChangeAhead : ByteArray := prog_5_method_6_code
def yX3_bringLeastChangeAhead : MethodName := ⟨RX3, "bringLeastChangeAhead", "()V"⟩
abbrev cX3_placeOfLeastChange : ByteArray := prog_5_method_7_code
def yX3_placeOfLeastChange : MethodName := ⟨RX3, "placeOfLeastChange", "(II)I"⟩
abbrev cX3_learn : ByteArray := prog_5_method_9_code
def yX3_learn : MethodName := ⟨RX3, "learn", "(LPrintLedger$Job;III)V"⟩
abbrev cX3_rateOf : ByteArray := prog_5_method_10_code
def yX3_rateOf : MethodName := ⟨RX3, "rateOf", "(I)I"⟩
def RX4 : String := "PrintLedger"
def TX4 : u_T := fun k => match k with
  | 0 => ("PrintLedger", "papers", "[LPrintLedger$Paper;", true)
  | 1 => ("PrintLedger", "presses", "[LPrintLedger$Press;", true)
  | 2 => ("PrintLedger", "jobs", "[LPrintLedger$Job;", true)
  | 3 => ("PrintLedger", "jobCount", "I", false)
  | 4 => ("PrintLedger", "money", "I", false)
  | 5 => ("PrintLedger", "wage", "I", false)
  | 6 => ("PrintLedger", "margin", "I", false)
  | 7 => ("PrintLedger", "minutesTold", "I", false)
  | 8 => ("PrintLedger", "spoiledTold", "I", false)
  | 9 => ("PrintLedger", "expectation", "LPrintLedger$Expectation;", true)
  | _ => ("PrintLedger", "trial", "LPrintLedger$Press;", true)
def tyX4 : Nat → FieldType := fun k => match k with
  | 0 => .array (.object "PrintLedger$Paper")
  | 1 => .array (.object "PrintLedger$Press")
  | 2 => .array (.object "PrintLedger$Job")
  | 3 => .int
  | 4 => .int
  | 5 => .int
  | 6 => .int
  | 7 => .int
  | 8 => .int
  | 9 => .object "PrintLedger$Expectation"
  | _ => .object "PrintLedger$Press"
abbrev wsX40 : List Cond := u_ws RX4 TX4 11
theorem nmX4 : ∀ a, a < 11 → ∀ b, b < 11 → a ≠ b → (TX4 a).2.1 ≠ (TX4 b).2.1 := by decide +kernel
theorem tyX4_ok : ∀ k, k < 11 → parseFieldDescriptor (TX4 k).2.2.1 = some (tyX4 k) := by decide +kernel
abbrev cX4_init : ByteArray := prog_1_method_1_code
def yX4_init : MethodName := ⟨RX4, "<init>", "()V"⟩
abbrev cX4_paper : ByteArray := prog_1_method_2_code
def yX4_paper : MethodName := ⟨RX4, "paper", "(IIII)I"⟩
abbrev cX4_buy : ByteArray := prog_1_method_3_code
def yX4_buy : MethodName := ⟨RX4, "buy", "(II)I"⟩
abbrev cX4_buyAll : ByteArray := prog_1_method_4_code
def yX4_buyAll : MethodName := ⟨RX4, "buyAll", "()I"⟩
abbrev cX4_ofPaper : ByteArray := prog_1_method_5_code
def yX4_ofPaper : MethodName := ⟨RX4, "ofPaper", "(II)I"⟩
abbrev cX4_bring : ByteArray := prog_1_method_6_code
def yX4_bring : MethodName := ⟨RX4, "bring", "(LPrintLedger$Paper;I)V"⟩
abbrev cX4_forecastOf : ByteArray := prog_1_method_7_code
def yX4_forecastOf : MethodName := ⟨RX4, "forecastOf", "(LPrintLedger$Paper;)I"⟩
abbrev cX4_neededOf : ByteArray := prog_1_method_8_code
def yX4_neededOf : MethodName := ⟨RX4, "neededOf", "(LPrintLedger$Paper;LPrintLedger$Press;)I"⟩
abbrev cX4_shortOf : ByteArray := prog_1_method_9_code
def yX4_shortOf : MethodName := ⟨RX4, "shortOf", "(LPrintLedger$Paper;)I"⟩
abbrev cX4_job : ByteArray := prog_1_method_10_code
def yX4_job : MethodName := ⟨RX4, "job", "(IIIII)I"⟩
abbrev cX4_ofJob : ByteArray := prog_1_method_11_code
def yX4_ofJob : MethodName := ⟨RX4, "ofJob", "(II)I"⟩
abbrev cX4_expected : ByteArray := prog_1_method_12_code
def yX4_expected : MethodName := ⟨RX4, "expected", "(III)I"⟩
abbrev cX4_order : ByteArray := prog_1_method_13_code
def yX4_order : MethodName := ⟨RX4, "order", "(II)I"⟩
abbrev cX4_again : ByteArray := prog_1_method_14_code
def yX4_again : MethodName := ⟨RX4, "again", "(I)I"⟩
abbrev cX4_invoice : ByteArray := prog_1_method_15_code
def yX4_invoice : MethodName := ⟨RX4, "invoice", "(I)I"⟩
abbrev cX4_expect : ByteArray := prog_1_method_16_code
def yX4_expect : MethodName := ⟨RX4, "expect", "(LPrintLedger$Job;LPrintLedger$Press;I)LPrintLedger$Expectation;"⟩
abbrev cX4_changeOf : ByteArray := prog_1_method_17_code
def yX4_changeOf : MethodName := ⟨RX4, "changeOf", "(LPrintLedger$Job;I)I"⟩
abbrev cX4_towers : ByteArray := prog_1_method_18_code
def yX4_towers : MethodName := ⟨RX4, "towers", "(II)I"⟩
abbrev cX4_ofPress : ByteArray := prog_1_method_19_code
def yX4_ofPress : MethodName := ⟨RX4, "ofPress", "(II)I"⟩
abbrev cX4_queue : ByteArray := prog_1_method_20_code
def yX4_queue : MethodName := ⟨RX4, "queue", "(II)I"⟩
abbrev cX4_sort : ByteArray := prog_1_method_21_code
def yX4_sort : MethodName := ⟨RX4, "sort", "(I)I"⟩
abbrev cX4_slip : ByteArray := prog_1_method_22_code
def yX4_slip : MethodName := ⟨RX4, "slip", "(III)I"⟩
abbrev cX4_jobOfSlip : ByteArray := prog_1_method_23_code
def yX4_jobOfSlip : MethodName := ⟨RX4, "jobOfSlip", "(LPrintLedger$Press;II)LPrintLedger$Job;"⟩
abbrev cX4_minutesOfQueue : ByteArray := prog_1_method_24_code
def yX4_minutesOfQueue : MethodName := ⟨RX4, "minutesOfQueue", "(LPrintLedger$Press;)I"⟩
abbrev cX4_terms : ByteArray := prog_1_method_25_code
def yX4_terms : MethodName := ⟨RX4, "terms", "(II)I"⟩
abbrev cX4_many : ByteArray := prog_1_method_26_code
def yX4_many : MethodName := ⟨RX4, "many", "(I)I"⟩
abbrev cX4_jobsThatAre : ByteArray := prog_1_method_28_code
def yX4_jobsThatAre : MethodName := ⟨RX4, "jobsThatAre", "(I)I"⟩
abbrev cX4_moneyOfInvoices : ByteArray := prog_1_method_29_code
def yX4_moneyOfInvoices : MethodName := ⟨RX4, "moneyOfInvoices", "()I"⟩
abbrev cX4_costOfJobs : ByteArray := prog_1_method_30_code
def yX4_costOfJobs : MethodName := ⟨RX4, "costOfJobs", "()I"⟩
abbrev cX4_worthOfStock : ByteArray := prog_1_method_31_code
def yX4_worthOfStock : MethodName := ⟨RX4, "worthOfStock", "()I"⟩
abbrev cX4_bestPress : ByteArray := prog_1_method_32_code
def yX4_bestPress : MethodName := ⟨RX4, "bestPress", "(I)I"⟩
abbrev cX4_profit : ByteArray := prog_1_method_34_code
def yX4_profit : MethodName := ⟨RX4, "profit", "(I)I"⟩
abbrev cX4_digest : ByteArray := prog_1_method_35_code
def yX4_digest : MethodName := ⟨RX4, "digest", "()J"⟩
abbrev cX4_digestWithPress : ByteArray := prog_1_method_36_code
def yX4_digestWithPress : MethodName := ⟨RX4, "digestWithPress", "(JI)J"⟩
abbrev cX4_digestWithJob : ByteArray := prog_1_method_37_code
def yX4_digestWithJob : MethodName := ⟨RX4, "digestWithJob", "(JI)J"⟩
abbrev cX4_paperOf : ByteArray := prog_1_method_38_code
def yX4_paperOf : MethodName := ⟨RX4, "paperOf", "(I)LPrintLedger$Paper;"⟩
abbrev cX4_jobOf : ByteArray := prog_1_method_39_code
def yX4_jobOf : MethodName := ⟨RX4, "jobOf", "(I)LPrintLedger$Job;"⟩
abbrev cX4_pressOf : ByteArray := prog_1_method_40_code
def yX4_pressOf : MethodName := ⟨RX4, "pressOf", "(I)LPrintLedger$Press;"⟩
abbrev cX4_isOutside : ByteArray := prog_1_method_41_code
def yX4_isOutside : MethodName := ⟨RX4, "isOutside", "(III)Z"⟩
abbrev cX4_divide : ByteArray := prog_1_method_42_code
def yX4_divide : MethodName := ⟨RX4, "divide", "(II)I"⟩
abbrev cX4_divideUp : ByteArray := prog_1_method_43_code
def yX4_divideUp : MethodName := ⟨RX4, "divideUp", "(II)I"⟩
def RX5 : String := "PrintLedgerModel$Job"
def TX5 : u_T := fun k => match k with
  | _ => ("", "", "", false)
def tyX5 : Nat → FieldType := fun k => match k with
  | _ => .int
abbrev wsX50 : List Cond := u_ws RX5 TX5 0
theorem nmX5 : ∀ a, a < 0 → ∀ b, b < 0 → a ≠ b → (TX5 a).2.1 ≠ (TX5 b).2.1 := by decide +kernel
theorem tyX5_ok : ∀ k, k < 0 → parseFieldDescriptor (TX5 k).2.2.1 = some (tyX5 k) := by decide +kernel
def RX6 : String := "PrintLedgerModel$Paper"
def TX6 : u_T := fun k => match k with
  | _ => ("", "", "", false)
def tyX6 : Nat → FieldType := fun k => match k with
  | _ => .int
abbrev wsX60 : List Cond := u_ws RX6 TX6 0
theorem nmX6 : ∀ a, a < 0 → ∀ b, b < 0 → a ≠ b → (TX6 a).2.1 ≠ (TX6 b).2.1 := by decide +kernel
theorem tyX6_ok : ∀ k, k < 0 → parseFieldDescriptor (TX6 k).2.2.1 = some (tyX6 k) := by decide +kernel
def RX7 : String := "PrintLedgerModel$Press"
def TX7 : u_T := fun k => match k with
  | _ => ("", "", "", false)
def tyX7 : Nat → FieldType := fun k => match k with
  | _ => .int
abbrev wsX70 : List Cond := u_ws RX7 TX7 0
theorem nmX7 : ∀ a, a < 0 → ∀ b, b < 0 → a ≠ b → (TX7 a).2.1 ≠ (TX7 b).2.1 := by decide +kernel
theorem tyX7_ok : ∀ k, k < 0 → parseFieldDescriptor (TX7 k).2.2.1 = some (tyX7 k) := by decide +kernel
def RX8 : String := "PrintLedgerModel"
def TX8 : u_T := fun k => match k with
  | _ => ("", "", "", false)
def tyX8 : Nat → FieldType := fun k => match k with
  | _ => .int
abbrev wsX80 : List Cond := u_ws RX8 TX8 0
theorem nmX8 : ∀ a, a < 0 → ∀ b, b < 0 → a ≠ b → (TX8 a).2.1 ≠ (TX8 b).2.1 := by decide +kernel
theorem tyX8_ok : ∀ k, k < 0 → parseFieldDescriptor (TX8 k).2.2.1 = some (tyX8 k) := by decide +kernel
def RJx145de : String := "java/io/Serializable"
def TJx145de : u_T := fun k => match k with
  | _ => ("", "", "", false)
def tyJx145de : Nat → FieldType := fun k => match k with
  | _ => .int
abbrev wsJx145de0 : List Cond := u_ws RJx145de TJx145de 0
theorem nmJx145de : ∀ a, a < 0 → ∀ b, b < 0 → a ≠ b → (TJx145de a).2.1 ≠ (TJx145de b).2.1 := by decide +kernel
theorem tyJx145de_ok : ∀ k, k < 0 → parseFieldDescriptor (TJx145de k).2.2.1 = some (tyJx145de k) := by decide +kernel
def RJ6 : String := "java/lang/Integer"
def TJ6 : u_T := fun k => match k with
  | _ => ("", "", "", false)
def tyJ6 : Nat → FieldType := fun k => match k with
  | _ => .int
abbrev wsJ60 : List Cond := u_ws RJ6 TJ6 0
theorem nmJ6 : ∀ a, a < 0 → ∀ b, b < 0 → a ≠ b → (TJ6 a).2.1 ≠ (TJ6 b).2.1 := by decide +kernel
theorem tyJ6_ok : ∀ k, k < 0 → parseFieldDescriptor (TJ6 k).2.2.1 = some (tyJ6 k) := by decide +kernel
abbrev cJ6_bitCount_0f7a4 : ByteArray := prog_15_method_49_code
def yJ6_bitCount_0f7a4 : MethodName := ⟨RJ6, "bitCount", "(I)I"⟩
def RJ9 : String := "java/lang/Math"
def TJ9 : u_T := fun k => match k with
  | _ => ("", "", "", false)
def tyJ9 : Nat → FieldType := fun k => match k with
  | _ => .int
abbrev wsJ90 : List Cond := u_ws RJ9 TJ9 0
theorem nmJ9 : ∀ a, a < 0 → ∀ b, b < 0 → a ≠ b → (TJ9 a).2.1 ≠ (TJ9 b).2.1 := by decide +kernel
theorem tyJ9_ok : ∀ k, k < 0 → parseFieldDescriptor (TJ9 k).2.2.1 = some (tyJ9 k) := by decide +kernel
abbrev cJ9_max_7cf53 : ByteArray := prog_16_method_65_code
def yJ9_max_7cf53 : MethodName := ⟨RJ9, "max", "(II)I"⟩
abbrev cJ9_min_7cf53 : ByteArray := prog_16_method_69_code
def yJ9_min_7cf53 : MethodName := ⟨RJ9, "min", "(II)I"⟩
def RJ0 : String := "java/lang/String"
def TJ0 : u_T := fun k => match k with
  | _ => ("", "", "", false)
def tyJ0 : Nat → FieldType := fun k => match k with
  | _ => .int
abbrev wsJ00 : List Cond := u_ws RJ0 TJ0 0
theorem nmJ0 : ∀ a, a < 0 → ∀ b, b < 0 → a ≠ b → (TJ0 a).2.1 ≠ (TJ0 b).2.1 := by decide +kernel
theorem tyJ0_ok : ∀ k, k < 0 → parseFieldDescriptor (TJ0 k).2.2.1 = some (tyJ0 k) := by decide +kernel
def RL : String := "PrintLedgerLaw"
abbrev cL_below : ByteArray := method_2_code
def yL_below : MethodName := ⟨RL, "below", "(II)I"⟩
abbrev cL_cell : ByteArray := method_3_code
def yL_cell : MethodName := ⟨RL, "cell", "([II)I"⟩
abbrev cL_law : ByteArray := code
def yL_law : MethodName := ⟨RL, "law", "([I)Z"⟩
abbrev cL_act : ByteArray := method_5_code
def yL_act : MethodName := ⟨RL, "act", "(LPrintLedger;IIII)Z"⟩
abbrev cL_isTold : ByteArray := method_6_code
def yL_isTold : MethodName := ⟨RL, "isTold", "(LPrintLedger;III)Z"⟩
abbrev cL_areJobsRight : ByteArray := method_7_code
def yL_areJobsRight : MethodName := ⟨RL, "areJobsRight", "(LPrintLedger;)Z"⟩
abbrev cL_arePressesRight : ByteArray := method_8_code
def yL_arePressesRight : MethodName := ⟨RL, "arePressesRight", "(LPrintLedger;)Z"⟩
abbrev cL_arePapersRight : ByteArray := method_9_code
def yL_arePapersRight : MethodName := ⟨RL, "arePapersRight", "(LPrintLedger;Z)Z"⟩
abbrev vwCl : List vw_C := [(RX0, TX0, 7), (RX1, TX1, 15), (RX2, TX2, 4), (RX3, TX3, 7), (RX4, TX4, 11)]
end
section
theorem dX0_init_0 : decode cX0_init 0 = .ok (.aload_n 0, 1) := by decide +kernel
theorem dX0_init_1 : decode cX0_init 1 = .ok (.invokespecial 1, 3) := by decide +kernel
theorem dX0_init_4 : decode cX0_init 4 = .ok (.return_, 1) := by decide +kernel
theorem dX1_init_0 : decode cX1_init 0 = .ok (.aload_n 0, 1) := by decide +kernel
theorem dX1_init_1 : decode cX1_init 1 = .ok (.invokespecial 3, 3) := by decide +kernel
theorem dX1_init_4 : decode cX1_init 4 = .ok (.aload_n 0, 1) := by decide +kernel
theorem dX1_init_5 : decode cX1_init 5 = .ok (.iconst 0, 1) := by decide +kernel
theorem dX1_init_6 : decode cX1_init 6 = .ok (.putfield 9, 3) := by decide +kernel
theorem dX1_init_9 : decode cX1_init 9 = .ok (.aload_n 0, 1) := by decide +kernel
theorem dX1_init_10 : decode cX1_init 10 = .ok (.iconst (-1), 1) := by decide +kernel
theorem dX1_init_11 : decode cX1_init 11 = .ok (.putfield 15, 3) := by decide +kernel
theorem dX1_init_14 : decode cX1_init 14 = .ok (.aload_n 0, 1) := by decide +kernel
theorem dX1_init_15 : decode cX1_init 15 = .ok (.iload_n 1, 1) := by decide +kernel
theorem dX1_init_16 : decode cX1_init 16 = .ok (.putfield 18, 3) := by decide +kernel
theorem dX1_init_19 : decode cX1_init 19 = .ok (.aload_n 0, 1) := by decide +kernel
theorem dX1_init_20 : decode cX1_init 20 = .ok (.iload_n 2, 1) := by decide +kernel
theorem dX1_init_21 : decode cX1_init 21 = .ok (.putfield 21, 3) := by decide +kernel
theorem dX1_init_24 : decode cX1_init 24 = .ok (.aload_n 0, 1) := by decide +kernel
theorem dX1_init_25 : decode cX1_init 25 = .ok (.aload_n 3, 1) := by decide +kernel
theorem dX1_init_26 : decode cX1_init 26 = .ok (.putfield 24, 3) := by decide +kernel
theorem dX1_init_29 : decode cX1_init 29 = .ok (.aload_n 0, 1) := by decide +kernel
theorem dX1_init_30 : decode cX1_init 30 = .ok (.iload 4, 2) := by decide +kernel
theorem dX1_init_32 : decode cX1_init 32 = .ok (.putfield 28, 3) := by decide +kernel
theorem dX1_init_35 : decode cX1_init 35 = .ok (.aload_n 0, 1) := by decide +kernel
theorem dX1_init_36 : decode cX1_init 36 = .ok (.iload 5, 2) := by decide +kernel
theorem dX1_init_38 : decode cX1_init 38 = .ok (.putfield 31, 3) := by decide +kernel
theorem dX1_init_41 : decode cX1_init 41 = .ok (.return_, 1) := by decide +kernel
theorem dX1_layOut_0 : decode cX1_layOut 0 = .ok (.aload_n 0, 1) := by decide +kernel
theorem dX1_layOut_1 : decode cX1_layOut 1 = .ok (.getfield 24, 3) := by decide +kernel
theorem dX1_layOut_4 : decode cX1_layOut 4 = .ok (.iload_n 1, 1) := by decide +kernel
theorem dX1_layOut_5 : decode cX1_layOut 5 = .ok (.iload_n 2, 1) := by decide +kernel
theorem dX1_layOut_6 : decode cX1_layOut 6 = .ok (.invokevirtual 34, 3) := by decide +kernel
theorem dX1_layOut_9 : decode cX1_layOut 9 = .ok (.istore_n 3, 1) := by decide +kernel
theorem dX1_layOut_10 : decode cX1_layOut 10 = .ok (.aload_n 0, 1) := by decide +kernel
theorem dX1_layOut_11 : decode cX1_layOut 11 = .ok (.getfield 24, 3) := by decide +kernel
theorem dX1_layOut_14 : decode cX1_layOut 14 = .ok (.iload_n 2, 1) := by decide +kernel
theorem dX1_layOut_15 : decode cX1_layOut 15 = .ok (.iload_n 1, 1) := by decide +kernel
theorem dX1_layOut_16 : decode cX1_layOut 16 = .ok (.invokevirtual 34, 3) := by decide +kernel
theorem dX1_layOut_19 : decode cX1_layOut 19 = .ok (.istore 4, 2) := by decide +kernel
theorem dX1_layOut_21 : decode cX1_layOut 21 = .ok (.aload_n 0, 1) := by decide +kernel
theorem dX1_layOut_22 : decode cX1_layOut 22 = .ok (.iload 4, 2) := by decide +kernel
theorem dX1_layOut_24 : decode cX1_layOut 24 = .ok (.iload_n 3, 1) := by decide +kernel
theorem dX1_layOut_25 : decode cX1_layOut 25 = .ok (.if_icmp .le 7, 3) := by decide +kernel
theorem dX1_layOut_28 : decode cX1_layOut 28 = .ok (.iconst 1, 1) := by decide +kernel
theorem dX1_layOut_29 : decode cX1_layOut 29 = .ok (.goto 4, 3) := by decide +kernel
theorem dX1_layOut_32 : decode cX1_layOut 32 = .ok (.iconst 0, 1) := by decide +kernel
theorem dX1_layOut_33 : decode cX1_layOut 33 = .ok (.putfield 40, 3) := by decide +kernel
theorem dX1_layOut_36 : decode cX1_layOut 36 = .ok (.aload_n 0, 1) := by decide +kernel
theorem dX1_layOut_37 : decode cX1_layOut 37 = .ok (.aload_n 0, 1) := by decide +kernel
theorem dX1_layOut_38 : decode cX1_layOut 38 = .ok (.getfield 40, 3) := by decide +kernel
theorem dX1_layOut_41 : decode cX1_layOut 41 = .ok (.ifCond .eq 8, 3) := by decide +kernel
theorem dX1_layOut_44 : decode cX1_layOut 44 = .ok (.iload 4, 2) := by decide +kernel
theorem dX1_layOut_46 : decode cX1_layOut 46 = .ok (.goto 4, 3) := by decide +kernel
theorem dX1_layOut_49 : decode cX1_layOut 49 = .ok (.iload_n 3, 1) := by decide +kernel
theorem dX1_layOut_50 : decode cX1_layOut 50 = .ok (.putfield 44, 3) := by decide +kernel
theorem dX1_layOut_53 : decode cX1_layOut 53 = .ok (.aload_n 0, 1) := by decide +kernel
theorem dX1_layOut_54 : decode cX1_layOut 54 = .ok (.aload_n 0, 1) := by decide +kernel
theorem dX1_layOut_55 : decode cX1_layOut 55 = .ok (.getfield 24, 3) := by decide +kernel
theorem dX1_layOut_58 : decode cX1_layOut 58 = .ok (.getfield 47, 3) := by decide +kernel
theorem dX1_layOut_61 : decode cX1_layOut 61 = .ok (.aload_n 0, 1) := by decide +kernel
theorem dX1_layOut_62 : decode cX1_layOut 62 = .ok (.getfield 24, 3) := by decide +kernel
theorem dX1_layOut_65 : decode cX1_layOut 65 = .ok (.getfield 50, 3) := by decide +kernel
theorem dX1_layOut_68 : decode cX1_layOut 68 = .ok (.imul, 1) := by decide +kernel
theorem dX1_layOut_69 : decode cX1_layOut 69 = .ok (.aload_n 0, 1) := by decide +kernel
theorem dX1_layOut_70 : decode cX1_layOut 70 = .ok (.getfield 44, 3) := by decide +kernel
theorem dX1_layOut_73 : decode cX1_layOut 73 = .ok (.iload_n 1, 1) := by decide +kernel
theorem dX1_layOut_74 : decode cX1_layOut 74 = .ok (.imul, 1) := by decide +kernel
theorem dX1_layOut_75 : decode cX1_layOut 75 = .ok (.iload_n 2, 1) := by decide +kernel
theorem dX1_layOut_76 : decode cX1_layOut 76 = .ok (.imul, 1) := by decide +kernel
theorem dX1_layOut_77 : decode cX1_layOut 77 = .ok (.isub, 1) := by decide +kernel
theorem dX1_layOut_78 : decode cX1_layOut 78 = .ok (.putfield 53, 3) := by decide +kernel
theorem dX1_layOut_81 : decode cX1_layOut 81 = .ok (.return_, 1) := by decide +kernel
theorem dX1_sheets_0 : decode cX1_sheets 0 = .ok (.aload_n 0, 1) := by decide +kernel
theorem dX1_sheets_1 : decode cX1_sheets 1 = .ok (.getfield 28, 3) := by decide +kernel
theorem dX1_sheets_4 : decode cX1_sheets 4 = .ok (.aload_n 0, 1) := by decide +kernel
theorem dX1_sheets_5 : decode cX1_sheets 5 = .ok (.getfield 56, 3) := by decide +kernel
theorem dX1_sheets_8 : decode cX1_sheets 8 = .ok (.isub, 1) := by decide +kernel
theorem dX1_sheets_9 : decode cX1_sheets 9 = .ok (.iconst 0, 1) := by decide +kernel
theorem dX1_sheets_10 : decode cX1_sheets 10 = .ok (.invokestatic 59, 3) := by decide +kernel
theorem dX1_sheets_13 : decode cX1_sheets 13 = .ok (.istore_n 1, 1) := by decide +kernel
theorem dX1_sheets_14 : decode cX1_sheets 14 = .ok (.iload_n 1, 1) := by decide +kernel
theorem dX1_sheets_15 : decode cX1_sheets 15 = .ok (.aload_n 0, 1) := by decide +kernel
theorem dX1_sheets_16 : decode cX1_sheets 16 = .ok (.getfield 44, 3) := by decide +kernel
theorem dX1_sheets_19 : decode cX1_sheets 19 = .ok (.invokestatic 64, 3) := by decide +kernel
theorem dX1_sheets_22 : decode cX1_sheets 22 = .ok (.ireturn, 1) := by decide +kernel
theorem dX1_moneyOfInks_0 : decode cX1_moneyOfInks 0 = .ok (.sipush 200, 3) := by decide +kernel
theorem dX1_moneyOfInks_3 : decode cX1_moneyOfInks 3 = .ok (.aload_n 0, 1) := by decide +kernel
theorem dX1_moneyOfInks_4 : decode cX1_moneyOfInks 4 = .ok (.getfield 31, 3) := by decide +kernel
theorem dX1_moneyOfInks_7 : decode cX1_moneyOfInks 7 = .ok (.invokestatic 67, 3) := by decide +kernel
theorem dX1_moneyOfInks_10 : decode cX1_moneyOfInks 10 = .ok (.imul, 1) := by decide +kernel
theorem dX1_moneyOfInks_11 : decode cX1_moneyOfInks 11 = .ok (.ireturn, 1) := by decide +kernel
theorem dX1_takenWith_0 : decode cX1_takenWith 0 = .ok (.aload_n 0, 1) := by decide +kernel
theorem dX1_takenWith_1 : decode cX1_takenWith 1 = .ok (.invokevirtual 73, 3) := by decide +kernel
theorem dX1_takenWith_4 : decode cX1_takenWith 4 = .ok (.iload_n 1, 1) := by decide +kernel
theorem dX1_takenWith_5 : decode cX1_takenWith 5 = .ok (.iadd, 1) := by decide +kernel
theorem dX1_takenWith_6 : decode cX1_takenWith 6 = .ok (.aload_n 0, 1) := by decide +kernel
theorem dX1_takenWith_7 : decode cX1_takenWith 7 = .ok (.getfield 24, 3) := by decide +kernel
theorem dX1_takenWith_10 : decode cX1_takenWith 10 = .ok (.getfield 77, 3) := by decide +kernel
theorem dX1_takenWith_13 : decode cX1_takenWith 13 = .ok (.invokestatic 80, 3) := by decide +kernel
theorem dX1_takenWith_16 : decode cX1_takenWith 16 = .ok (.ireturn, 1) := by decide +kernel
theorem dX1_worth_0 : decode cX1_worth 0 = .ok (.aload_n 0, 1) := by decide +kernel
theorem dX1_worth_1 : decode cX1_worth 1 = .ok (.getfield 56, 3) := by decide +kernel
theorem dX1_worth_4 : decode cX1_worth 4 = .ok (.aload_n 0, 1) := by decide +kernel
theorem dX1_worth_5 : decode cX1_worth 5 = .ok (.getfield 28, 3) := by decide +kernel
theorem dX1_worth_8 : decode cX1_worth 8 = .ok (.aload_n 0, 1) := by decide +kernel
theorem dX1_worth_9 : decode cX1_worth 9 = .ok (.getfield 28, 3) := by decide +kernel
theorem dX1_worth_12 : decode cX1_worth 12 = .ok (.bipush 10, 2) := by decide +kernel
theorem dX1_worth_14 : decode cX1_worth 14 = .ok (.idiv, 1) := by decide +kernel
theorem dX1_worth_15 : decode cX1_worth 15 = .ok (.iadd, 1) := by decide +kernel
theorem dX1_worth_16 : decode cX1_worth 16 = .ok (.invokestatic 80, 3) := by decide +kernel
theorem dX1_worth_19 : decode cX1_worth 19 = .ok (.istore_n 1, 1) := by decide +kernel
theorem dX1_worth_20 : decode cX1_worth 20 = .ok (.aload_n 0, 1) := by decide +kernel
theorem dX1_worth_21 : decode cX1_worth 21 = .ok (.getfield 28, 3) := by decide +kernel
theorem dX1_worth_24 : decode cX1_worth 24 = .ok (.ifCond .ne 7, 3) := by decide +kernel
theorem dX1_worth_27 : decode cX1_worth 27 = .ok (.iconst 0, 1) := by decide +kernel
theorem dX1_worth_28 : decode cX1_worth 28 = .ok (.goto 18, 3) := by decide +kernel
theorem dX1_worth_31 : decode cX1_worth 31 = .ok (.aload_n 0, 1) := by decide +kernel
theorem dX1_worth_32 : decode cX1_worth 32 = .ok (.getfield 83, 3) := by decide +kernel
theorem dX1_worth_35 : decode cX1_worth 35 = .ok (.i2l, 1) := by decide +kernel
theorem dX1_worth_36 : decode cX1_worth 36 = .ok (.iload_n 1, 1) := by decide +kernel
theorem dX1_worth_37 : decode cX1_worth 37 = .ok (.i2l, 1) := by decide +kernel
theorem dX1_worth_38 : decode cX1_worth 38 = .ok (.lmul, 1) := by decide +kernel
theorem dX1_worth_39 : decode cX1_worth 39 = .ok (.aload_n 0, 1) := by decide +kernel
theorem dX1_worth_40 : decode cX1_worth 40 = .ok (.getfield 28, 3) := by decide +kernel
theorem dX1_worth_43 : decode cX1_worth 43 = .ok (.i2l, 1) := by decide +kernel
theorem dX1_worth_44 : decode cX1_worth 44 = .ok (.ldiv, 1) := by decide +kernel
theorem dX1_worth_45 : decode cX1_worth 45 = .ok (.l2i, 1) := by decide +kernel
theorem dX1_worth_46 : decode cX1_worth 46 = .ok (.ireturn, 1) := by decide +kernel
theorem dX2_init_0 : decode cX2_init 0 = .ok (.aload_n 0, 1) := by decide +kernel
theorem dX2_init_1 : decode cX2_init 1 = .ok (.invokespecial 3, 3) := by decide +kernel
theorem dX2_init_4 : decode cX2_init 4 = .ok (.aload_n 0, 1) := by decide +kernel
theorem dX2_init_5 : decode cX2_init 5 = .ok (.bipush 70, 2) := by decide +kernel
theorem dX2_init_7 : decode cX2_init 7 = .ok (.putfield 9, 3) := by decide +kernel
theorem dX2_init_10 : decode cX2_init 10 = .ok (.aload_n 0, 1) := by decide +kernel
theorem dX2_init_11 : decode cX2_init 11 = .ok (.bipush 50, 2) := by decide +kernel
theorem dX2_init_13 : decode cX2_init 13 = .ok (.putfield 15, 3) := by decide +kernel
theorem dX2_init_16 : decode cX2_init 16 = .ok (.aload_n 0, 1) := by decide +kernel
theorem dX2_init_17 : decode cX2_init 17 = .ok (.iconst 5, 1) := by decide +kernel
theorem dX2_init_18 : decode cX2_init 18 = .ok (.putfield 18, 3) := by decide +kernel
theorem dX2_init_21 : decode cX2_init 21 = .ok (.return_, 1) := by decide +kernel
theorem dX2_holds_0 : decode cX2_holds 0 = .ok (.aload_n 0, 1) := by decide +kernel
theorem dX2_holds_1 : decode cX2_holds 1 = .ok (.getfield 9, 3) := by decide +kernel
theorem dX2_holds_4 : decode cX2_holds 4 = .ok (.iload_n 1, 1) := by decide +kernel
theorem dX2_holds_5 : decode cX2_holds 5 = .ok (.invokestatic 21, 3) := by decide +kernel
theorem dX2_holds_8 : decode cX2_holds 8 = .ok (.aload_n 0, 1) := by decide +kernel
theorem dX2_holds_9 : decode cX2_holds 9 = .ok (.getfield 15, 3) := by decide +kernel
theorem dX2_holds_12 : decode cX2_holds 12 = .ok (.iload_n 2, 1) := by decide +kernel
theorem dX2_holds_13 : decode cX2_holds 13 = .ok (.invokestatic 21, 3) := by decide +kernel
theorem dX2_holds_16 : decode cX2_holds 16 = .ok (.imul, 1) := by decide +kernel
theorem dX2_holds_17 : decode cX2_holds 17 = .ok (.ireturn, 1) := by decide +kernel
theorem dX2_lotsWithRoom_0 : decode cX2_lotsWithRoom 0 = .ok (.ldc 25, 2) := by decide +kernel
theorem dX2_lotsWithRoom_2 : decode cX2_lotsWithRoom 2 = .ok (.aload_n 0, 1) := by decide +kernel
theorem dX2_lotsWithRoom_3 : decode cX2_lotsWithRoom 3 = .ok (.getfield 26, 3) := by decide +kernel
theorem dX2_lotsWithRoom_6 : decode cX2_lotsWithRoom 6 = .ok (.isub, 1) := by decide +kernel
theorem dX2_lotsWithRoom_7 : decode cX2_lotsWithRoom 7 = .ok (.sipush 250, 3) := by decide +kernel
theorem dX2_lotsWithRoom_10 : decode cX2_lotsWithRoom 10 = .ok (.idiv, 1) := by decide +kernel
theorem dX2_lotsWithRoom_11 : decode cX2_lotsWithRoom 11 = .ok (.ireturn, 1) := by decide +kernel
theorem dX3_init_0 : decode cX3_init 0 = .ok (.aload_n 0, 1) := by decide +kernel
theorem dX3_init_1 : decode cX3_init 1 = .ok (.invokespecial 3, 3) := by decide +kernel
theorem dX3_init_4 : decode cX3_init 4 = .ok (.aload_n 0, 1) := by decide +kernel
theorem dX3_init_5 : decode cX3_init 5 = .ok (.iconst 2, 1) := by decide +kernel
theorem dX3_init_6 : decode cX3_init 6 = .ok (.putfield 9, 3) := by decide +kernel
theorem dX3_init_9 : decode cX3_init 9 = .ok (.aload_n 0, 1) := by decide +kernel
theorem dX3_init_10 : decode cX3_init 10 = .ok (.bipush 20, 2) := by decide +kernel
theorem dX3_init_12 : decode cX3_init 12 = .ok (.putfield 15, 3) := by decide +kernel
theorem dX3_init_15 : decode cX3_init 15 = .ok (.aload_n 0, 1) := by decide +kernel
theorem dX3_init_16 : decode cX3_init 16 = .ok (.bipush 30, 2) := by decide +kernel
theorem dX3_init_18 : decode cX3_init 18 = .ok (.putfield 18, 3) := by decide +kernel
theorem dX3_init_21 : decode cX3_init 21 = .ok (.aload_n 0, 1) := by decide +kernel
theorem dX3_init_22 : decode cX3_init 22 = .ok (.bipush 50, 2) := by decide +kernel
theorem dX3_init_24 : decode cX3_init 24 = .ok (.putfield 21, 3) := by decide +kernel
theorem dX3_init_27 : decode cX3_init 27 = .ok (.aload_n 0, 1) := by decide +kernel
theorem dX3_init_28 : decode cX3_init 28 = .ok (.bipush 20, 2) := by decide +kernel
theorem dX3_init_30 : decode cX3_init 30 = .ok (.anewarray 24, 3) := by decide +kernel
theorem dX3_init_33 : decode cX3_init 33 = .ok (.putfield 26, 3) := by decide +kernel
theorem dX3_init_36 : decode cX3_init 36 = .ok (.return_, 1) := by decide +kernel
theorem dX3_passesOf_0 : decode cX3_passesOf 0 = .ok (.aload_n 1, 1) := by decide +kernel
theorem dX3_passesOf_1 : decode cX3_passesOf 1 = .ok (.getfield 30, 3) := by decide +kernel
theorem dX3_passesOf_4 : decode cX3_passesOf 4 = .ok (.invokestatic 33, 3) := by decide +kernel
theorem dX3_passesOf_7 : decode cX3_passesOf 7 = .ok (.aload_n 0, 1) := by decide +kernel
theorem dX3_passesOf_8 : decode cX3_passesOf 8 = .ok (.getfield 9, 3) := by decide +kernel
theorem dX3_passesOf_11 : decode cX3_passesOf 11 = .ok (.invokestatic 39, 3) := by decide +kernel
theorem dX3_passesOf_14 : decode cX3_passesOf 14 = .ok (.ireturn, 1) := by decide +kernel
theorem dX3_jobAt_0 : decode cX3_jobAt 0 = .ok (.iload_n 1, 1) := by decide +kernel
theorem dX3_jobAt_1 : decode cX3_jobAt 1 = .ok (.ifCond .lt 20, 3) := by decide +kernel
theorem dX3_jobAt_4 : decode cX3_jobAt 4 = .ok (.iload_n 1, 1) := by decide +kernel
theorem dX3_jobAt_5 : decode cX3_jobAt 5 = .ok (.aload_n 0, 1) := by decide +kernel
theorem dX3_jobAt_6 : decode cX3_jobAt 6 = .ok (.getfield 43, 3) := by decide +kernel
theorem dX3_jobAt_9 : decode cX3_jobAt 9 = .ok (.if_icmp .ge 12, 3) := by decide +kernel
theorem dX3_jobAt_12 : decode cX3_jobAt 12 = .ok (.iload_n 1, 1) := by decide +kernel
theorem dX3_jobAt_13 : decode cX3_jobAt 13 = .ok (.aload_n 0, 1) := by decide +kernel
theorem dX3_jobAt_14 : decode cX3_jobAt 14 = .ok (.getfield 26, 3) := by decide +kernel
theorem dX3_jobAt_17 : decode cX3_jobAt 17 = .ok (.arraylength, 1) := by decide +kernel
theorem dX3_jobAt_18 : decode cX3_jobAt 18 = .ok (.if_icmp .lt 7, 3) := by decide +kernel
theorem dX3_jobAt_21 : decode cX3_jobAt 21 = .ok (.aconst_null, 1) := by decide +kernel
theorem dX3_jobAt_22 : decode cX3_jobAt 22 = .ok (.goto 9, 3) := by decide +kernel
theorem dX3_jobAt_25 : decode cX3_jobAt 25 = .ok (.aload_n 0, 1) := by decide +kernel
theorem dX3_jobAt_26 : decode cX3_jobAt 26 = .ok (.getfield 26, 3) := by decide +kernel
theorem dX3_jobAt_29 : decode cX3_jobAt 29 = .ok (.iload_n 1, 1) := by decide +kernel
theorem dX3_jobAt_30 : decode cX3_jobAt 30 = .ok (.aaload, 1) := by decide +kernel
theorem dX3_jobAt_31 : decode cX3_jobAt 31 = .ok (.areturn, 1) := by decide +kernel
theorem dX3_insert_0 : decode cX3_insert 0 = .ok (.iload_n 2, 1) := by decide +kernel
theorem dX3_insert_1 : decode cX3_insert 1 = .ok (.ifCond .lt 23, 3) := by decide +kernel
theorem dX3_insert_4 : decode cX3_insert 4 = .ok (.iload_n 2, 1) := by decide +kernel
theorem dX3_insert_5 : decode cX3_insert 5 = .ok (.aload_n 0, 1) := by decide +kernel
theorem dX3_insert_6 : decode cX3_insert 6 = .ok (.getfield 43, 3) := by decide +kernel
theorem dX3_insert_9 : decode cX3_insert 9 = .ok (.if_icmp .gt 15, 3) := by decide +kernel
theorem dX3_insert_12 : decode cX3_insert 12 = .ok (.aload_n 0, 1) := by decide +kernel
theorem dX3_insert_13 : decode cX3_insert 13 = .ok (.getfield 43, 3) := by decide +kernel
theorem dX3_insert_16 : decode cX3_insert 16 = .ok (.aload_n 0, 1) := by decide +kernel
theorem dX3_insert_17 : decode cX3_insert 17 = .ok (.getfield 26, 3) := by decide +kernel
theorem dX3_insert_20 : decode cX3_insert 20 = .ok (.arraylength, 1) := by decide +kernel
theorem dX3_insert_21 : decode cX3_insert 21 = .ok (.if_icmp .lt 4, 3) := by decide +kernel
theorem dX3_insert_24 : decode cX3_insert 24 = .ok (.return_, 1) := by decide +kernel
theorem dX3_insert_25 : decode cX3_insert 25 = .ok (.aload_n 0, 1) := by decide +kernel
theorem dX3_insert_26 : decode cX3_insert 26 = .ok (.getfield 43, 3) := by decide +kernel
theorem dX3_insert_29 : decode cX3_insert 29 = .ok (.istore_n 3, 1) := by decide +kernel
theorem dX3_insert_30 : decode cX3_insert 30 = .ok (.iload_n 3, 1) := by decide +kernel
theorem dX3_insert_31 : decode cX3_insert 31 = .ok (.iload_n 2, 1) := by decide +kernel
theorem dX3_insert_32 : decode cX3_insert 32 = .ok (.if_icmp .le 23, 3) := by decide +kernel
theorem dX3_insert_35 : decode cX3_insert 35 = .ok (.aload_n 0, 1) := by decide +kernel
theorem dX3_insert_36 : decode cX3_insert 36 = .ok (.getfield 26, 3) := by decide +kernel
theorem dX3_insert_39 : decode cX3_insert 39 = .ok (.iload_n 3, 1) := by decide +kernel
theorem dX3_insert_40 : decode cX3_insert 40 = .ok (.aload_n 0, 1) := by decide +kernel
theorem dX3_insert_41 : decode cX3_insert 41 = .ok (.getfield 26, 3) := by decide +kernel
theorem dX3_insert_44 : decode cX3_insert 44 = .ok (.iload_n 3, 1) := by decide +kernel
theorem dX3_insert_45 : decode cX3_insert 45 = .ok (.iconst 1, 1) := by decide +kernel
theorem dX3_insert_46 : decode cX3_insert 46 = .ok (.isub, 1) := by decide +kernel
theorem dX3_insert_47 : decode cX3_insert 47 = .ok (.aaload, 1) := by decide +kernel
theorem dX3_insert_48 : decode cX3_insert 48 = .ok (.aastore, 1) := by decide +kernel
theorem dX3_insert_49 : decode cX3_insert 49 = .ok (.iinc 3 (-1), 3) := by decide +kernel
theorem dX3_insert_52 : decode cX3_insert 52 = .ok (.goto (-22), 3) := by decide +kernel
theorem dX3_insert_55 : decode cX3_insert 55 = .ok (.aload_n 0, 1) := by decide +kernel
theorem dX3_insert_56 : decode cX3_insert 56 = .ok (.getfield 26, 3) := by decide +kernel
theorem dX3_insert_59 : decode cX3_insert 59 = .ok (.iload_n 2, 1) := by decide +kernel
theorem dX3_insert_60 : decode cX3_insert 60 = .ok (.aload_n 1, 1) := by decide +kernel
theorem dX3_insert_61 : decode cX3_insert 61 = .ok (.aastore, 1) := by decide +kernel
theorem dX3_insert_62 : decode cX3_insert 62 = .ok (.aload_n 0, 1) := by decide +kernel
theorem dX3_insert_63 : decode cX3_insert 63 = .ok (.dup, 1) := by decide +kernel
theorem dX3_insert_64 : decode cX3_insert 64 = .ok (.getfield 43, 3) := by decide +kernel
theorem dX3_insert_67 : decode cX3_insert 67 = .ok (.iconst 1, 1) := by decide +kernel
theorem dX3_insert_68 : decode cX3_insert 68 = .ok (.iadd, 1) := by decide +kernel
theorem dX3_insert_69 : decode cX3_insert 69 = .ok (.putfield 43, 3) := by decide +kernel
theorem dX3_insert_72 : decode cX3_insert 72 = .ok (.return_, 1) := by decide +kernel
theorem dX3_remove_0 : decode cX3_remove 0 = .ok (.iload_n 1, 1) := by decide +kernel
theorem dX3_remove_1 : decode cX3_remove 1 = .ok (.ifCond .lt 23, 3) := by decide +kernel
theorem dX3_remove_4 : decode cX3_remove 4 = .ok (.iload_n 1, 1) := by decide +kernel
theorem dX3_remove_5 : decode cX3_remove 5 = .ok (.aload_n 0, 1) := by decide +kernel
theorem dX3_remove_6 : decode cX3_remove 6 = .ok (.getfield 43, 3) := by decide +kernel
theorem dX3_remove_9 : decode cX3_remove 9 = .ok (.if_icmp .ge 15, 3) := by decide +kernel
theorem dX3_remove_12 : decode cX3_remove 12 = .ok (.aload_n 0, 1) := by decide +kernel
theorem dX3_remove_13 : decode cX3_remove 13 = .ok (.getfield 43, 3) := by decide +kernel
theorem dX3_remove_16 : decode cX3_remove 16 = .ok (.aload_n 0, 1) := by decide +kernel
theorem dX3_remove_17 : decode cX3_remove 17 = .ok (.getfield 26, 3) := by decide +kernel
theorem dX3_remove_20 : decode cX3_remove 20 = .ok (.arraylength, 1) := by decide +kernel
theorem dX3_remove_21 : decode cX3_remove 21 = .ok (.if_icmp .le 4, 3) := by decide +kernel
theorem dX3_remove_24 : decode cX3_remove 24 = .ok (.return_, 1) := by decide +kernel
theorem dX3_remove_25 : decode cX3_remove 25 = .ok (.iload_n 1, 1) := by decide +kernel
theorem dX3_remove_26 : decode cX3_remove 26 = .ok (.istore_n 2, 1) := by decide +kernel
theorem dX3_remove_27 : decode cX3_remove 27 = .ok (.iload_n 2, 1) := by decide +kernel
theorem dX3_remove_28 : decode cX3_remove 28 = .ok (.aload_n 0, 1) := by decide +kernel
theorem dX3_remove_29 : decode cX3_remove 29 = .ok (.getfield 43, 3) := by decide +kernel
theorem dX3_remove_32 : decode cX3_remove 32 = .ok (.iconst 1, 1) := by decide +kernel
theorem dX3_remove_33 : decode cX3_remove 33 = .ok (.isub, 1) := by decide +kernel
theorem dX3_remove_34 : decode cX3_remove 34 = .ok (.if_icmp .ge 23, 3) := by decide +kernel
theorem dX3_remove_37 : decode cX3_remove 37 = .ok (.aload_n 0, 1) := by decide +kernel
theorem dX3_remove_38 : decode cX3_remove 38 = .ok (.getfield 26, 3) := by decide +kernel
theorem dX3_remove_41 : decode cX3_remove 41 = .ok (.iload_n 2, 1) := by decide +kernel
theorem dX3_remove_42 : decode cX3_remove 42 = .ok (.aload_n 0, 1) := by decide +kernel
theorem dX3_remove_43 : decode cX3_remove 43 = .ok (.getfield 26, 3) := by decide +kernel
theorem dX3_remove_46 : decode cX3_remove 46 = .ok (.iload_n 2, 1) := by decide +kernel
theorem dX3_remove_47 : decode cX3_remove 47 = .ok (.iconst 1, 1) := by decide +kernel
theorem dX3_remove_48 : decode cX3_remove 48 = .ok (.iadd, 1) := by decide +kernel
theorem dX3_remove_49 : decode cX3_remove 49 = .ok (.aaload, 1) := by decide +kernel
theorem dX3_remove_50 : decode cX3_remove 50 = .ok (.aastore, 1) := by decide +kernel
theorem dX3_remove_51 : decode cX3_remove 51 = .ok (.iinc 2 1, 3) := by decide +kernel
theorem dX3_remove_54 : decode cX3_remove 54 = .ok (.goto (-27), 3) := by decide +kernel
theorem dX3_remove_57 : decode cX3_remove 57 = .ok (.aload_n 0, 1) := by decide +kernel
theorem dX3_remove_58 : decode cX3_remove 58 = .ok (.dup, 1) := by decide +kernel
theorem dX3_remove_59 : decode cX3_remove 59 = .ok (.getfield 43, 3) := by decide +kernel
theorem dX3_remove_62 : decode cX3_remove 62 = .ok (.iconst 1, 1) := by decide +kernel
theorem dX3_remove_63 : decode cX3_remove 63 = .ok (.isub, 1) := by decide +kernel
theorem dX3_remove_64 : decode cX3_remove 64 = .ok (.putfield 43, 3) := by decide +kernel
theorem dX3_remove_67 : decode cX3_remove 67 = .ok (.aload_n 0, 1) := by decide +kernel
theorem dX3_remove_68 : decode cX3_remove 68 = .ok (.getfield 26, 3) := by decide +kernel
theorem dX3_remove_71 : decode cX3_remove 71 = .ok (.aload_n 0, 1) := by decide +kernel
theorem dX3_remove_72 : decode cX3_remove 72 = .ok (.getfield 43, 3) := by decide +kernel
theorem dX3_remove_75 : decode cX3_remove 75 = .ok (.aconst_null, 1) := by decide +kernel
theorem dX3_remove_76 : decode cX3_remove 76 = .ok (.aastore, 1) := by decide +kernel
theorem dX3_remove_77 : decode cX3_remove 77 = .ok (.return_, 1) := by decide +kernel
theorem dX3_bringLeastChangeAhead_0 : decode cX3_bringLeastChangeAhead 0 = .ok (.aload_n 0, 1) := by decide +kernel
theorem dX3_bringLeastChangeAhead_1 : decode cX3_bringLeastChangeAhead 1 = .ok (.getfield 46, 3) := by decide +kernel
theorem dX3_bringLeastChangeAhead_4 : decode cX3_bringLeastChangeAhead 4 = .ok (.istore_n 1, 1) := by decide +kernel
theorem dX3_bringLeastChangeAhead_5 : decode cX3_bringLeastChangeAhead 5 = .ok (.aload_n 0, 1) := by decide +kernel
theorem dX3_bringLeastChangeAhead_6 : decode cX3_bringLeastChangeAhead 6 = .ok (.getfield 43, 3) := by decide +kernel
theorem dX3_bringLeastChangeAhead_9 : decode cX3_bringLeastChangeAhead 9 = .ok (.istore_n 2, 1) := by decide +kernel
theorem dX3_bringLeastChangeAhead_10 : decode cX3_bringLeastChangeAhead 10 = .ok (.iconst 0, 1) := by decide +kernel
theorem dX3_bringLeastChangeAhead_11 : decode cX3_bringLeastChangeAhead 11 = .ok (.istore_n 3, 1) := by decide +kernel
theorem dX3_bringLeastChangeAhead_12 : decode cX3_bringLeastChangeAhead 12 = .ok (.iload_n 3, 1) := by decide +kernel
theorem dX3_bringLeastChangeAhead_13 : decode cX3_bringLeastChangeAhead 13 = .ok (.iload_n 2, 1) := by decide +kernel
theorem dX3_bringLeastChangeAhead_14 : decode cX3_bringLeastChangeAhead 14 = .ok (.if_icmp .ge 49, 3) := by decide +kernel
theorem dX3_bringLeastChangeAhead_17 : decode cX3_bringLeastChangeAhead 17 = .ok (.aload_n 0, 1) := by decide +kernel
theorem dX3_bringLeastChangeAhead_18 : decode cX3_bringLeastChangeAhead 18 = .ok (.iload_n 3, 1) := by decide +kernel
theorem dX3_bringLeastChangeAhead_19 : decode cX3_bringLeastChangeAhead 19 = .ok (.iload_n 1, 1) := by decide +kernel
theorem dX3_bringLeastChangeAhead_20 : decode cX3_bringLeastChangeAhead 20 = .ok (.invokevirtual 47, 3) := by decide +kernel
theorem dX3_bringLeastChangeAhead_23 : decode cX3_bringLeastChangeAhead 23 = .ok (.istore 4, 2) := by decide +kernel
theorem dX3_bringLeastChangeAhead_25 : decode cX3_bringLeastChangeAhead 25 = .ok (.aload_n 0, 1) := by decide +kernel
theorem dX3_bringLeastChangeAhead_26 : decode cX3_bringLeastChangeAhead 26 = .ok (.iload 4, 2) := by decide +kernel
theorem dX3_bringLeastChangeAhead_28 : decode cX3_bringLeastChangeAhead 28 = .ok (.invokevirtual 50, 3) := by decide +kernel
theorem dX3_bringLeastChangeAhead_31 : decode cX3_bringLeastChangeAhead 31 = .ok (.astore 5, 2) := by decide +kernel
theorem dX3_bringLeastChangeAhead_33 : decode cX3_bringLeastChangeAhead 33 = .ok (.aload 5, 2) := by decide +kernel
theorem dX3_bringLeastChangeAhead_35 : decode cX3_bringLeastChangeAhead 35 = .ok (.ifnull 22, 3) := by decide +kernel
theorem dX3_bringLeastChangeAhead_38 : decode cX3_bringLeastChangeAhead 38 = .ok (.aload_n 0, 1) := by decide +kernel
theorem dX3_bringLeastChangeAhead_39 : decode cX3_bringLeastChangeAhead 39 = .ok (.iload 4, 2) := by decide +kernel
theorem dX3_bringLeastChangeAhead_41 : decode cX3_bringLeastChangeAhead 41 = .ok (.invokevirtual 54, 3) := by decide +kernel
theorem dX3_bringLeastChangeAhead_44 : decode cX3_bringLeastChangeAhead 44 = .ok (.aload_n 0, 1) := by decide +kernel
theorem dX3_bringLeastChangeAhead_45 : decode cX3_bringLeastChangeAhead 45 = .ok (.aload 5, 2) := by decide +kernel
theorem dX3_bringLeastChangeAhead_47 : decode cX3_bringLeastChangeAhead 47 = .ok (.iload_n 3, 1) := by decide +kernel
theorem dX3_bringLeastChangeAhead_48 : decode cX3_bringLeastChangeAhead 48 = .ok (.invokevirtual 58, 3) := by decide +kernel
theorem dX3_bringLeastChangeAhead_51 : decode cX3_bringLeastChangeAhead 51 = .ok (.aload 5, 2) := by decide +kernel
theorem dX3_bringLeastChangeAhead_53 : decode cX3_bringLeastChangeAhead 53 = .ok (.getfield 30, 3) := by decide +kernel
theorem dX3_bringLeastChangeAhead_56 : decode cX3_bringLeastChangeAhead 56 = .ok (.istore_n 1, 1) := by decide +kernel
theorem dX3_bringLeastChangeAhead_57 : decode cX3_bringLeastChangeAhead 57 = .ok (.iinc 3 1, 3) := by decide +kernel
theorem dX3_bringLeastChangeAhead_60 : decode cX3_bringLeastChangeAhead 60 = .ok (.goto (-48), 3) := by decide +kernel
theorem dX3_bringLeastChangeAhead_63 : decode cX3_bringLeastChangeAhead 63 = .ok (.return_, 1) := by decide +kernel
theorem dX3_placeOfLeastChange_0 : decode cX3_placeOfLeastChange 0 = .ok (.iload_n 1, 1) := by decide +kernel
theorem dX3_placeOfLeastChange_1 : decode cX3_placeOfLeastChange 1 = .ok (.istore_n 3, 1) := by decide +kernel
theorem dX3_placeOfLeastChange_2 : decode cX3_placeOfLeastChange 2 = .ok (.ldc 62, 2) := by decide +kernel
theorem dX3_placeOfLeastChange_4 : decode cX3_placeOfLeastChange 4 = .ok (.istore 4, 2) := by decide +kernel
theorem dX3_placeOfLeastChange_6 : decode cX3_placeOfLeastChange 6 = .ok (.iload_n 1, 1) := by decide +kernel
theorem dX3_placeOfLeastChange_7 : decode cX3_placeOfLeastChange 7 = .ok (.istore 5, 2) := by decide +kernel
theorem dX3_placeOfLeastChange_9 : decode cX3_placeOfLeastChange 9 = .ok (.iload 5, 2) := by decide +kernel
theorem dX3_placeOfLeastChange_11 : decode cX3_placeOfLeastChange 11 = .ok (.aload_n 0, 1) := by decide +kernel
theorem dX3_placeOfLeastChange_12 : decode cX3_placeOfLeastChange 12 = .ok (.getfield 43, 3) := by decide +kernel
theorem dX3_placeOfLeastChange_15 : decode cX3_placeOfLeastChange 15 = .ok (.if_icmp .ge 49, 3) := by decide +kernel
theorem dX3_placeOfLeastChange_18 : decode cX3_placeOfLeastChange 18 = .ok (.aload_n 0, 1) := by decide +kernel
theorem dX3_placeOfLeastChange_19 : decode cX3_placeOfLeastChange 19 = .ok (.iload 5, 2) := by decide +kernel
theorem dX3_placeOfLeastChange_21 : decode cX3_placeOfLeastChange 21 = .ok (.invokevirtual 50, 3) := by decide +kernel
theorem dX3_placeOfLeastChange_24 : decode cX3_placeOfLeastChange 24 = .ok (.astore 6, 2) := by decide +kernel
theorem dX3_placeOfLeastChange_26 : decode cX3_placeOfLeastChange 26 = .ok (.aload 6, 2) := by decide +kernel
theorem dX3_placeOfLeastChange_28 : decode cX3_placeOfLeastChange 28 = .ok (.ifnonnull 8, 3) := by decide +kernel
theorem dX3_placeOfLeastChange_31 : decode cX3_placeOfLeastChange 31 = .ok (.ldc 62, 2) := by decide +kernel
theorem dX3_placeOfLeastChange_33 : decode cX3_placeOfLeastChange 33 = .ok (.goto 9, 3) := by decide +kernel
theorem dX3_placeOfLeastChange_36 : decode cX3_placeOfLeastChange 36 = .ok (.aload 6, 2) := by decide +kernel
theorem dX3_placeOfLeastChange_38 : decode cX3_placeOfLeastChange 38 = .ok (.iload_n 2, 1) := by decide +kernel
theorem dX3_placeOfLeastChange_39 : decode cX3_placeOfLeastChange 39 = .ok (.invokestatic 63, 3) := by decide +kernel
theorem dX3_placeOfLeastChange_42 : decode cX3_placeOfLeastChange 42 = .ok (.istore 7, 2) := by decide +kernel
theorem dX3_placeOfLeastChange_44 : decode cX3_placeOfLeastChange 44 = .ok (.iload 7, 2) := by decide +kernel
theorem dX3_placeOfLeastChange_46 : decode cX3_placeOfLeastChange 46 = .ok (.iload 4, 2) := by decide +kernel
theorem dX3_placeOfLeastChange_48 : decode cX3_placeOfLeastChange 48 = .ok (.if_icmp .ge 10, 3) := by decide +kernel
theorem dX3_placeOfLeastChange_51 : decode cX3_placeOfLeastChange 51 = .ok (.iload 5, 2) := by decide +kernel
theorem dX3_placeOfLeastChange_53 : decode cX3_placeOfLeastChange 53 = .ok (.istore_n 3, 1) := by decide +kernel
theorem dX3_placeOfLeastChange_54 : decode cX3_placeOfLeastChange 54 = .ok (.iload 7, 2) := by decide +kernel
theorem dX3_placeOfLeastChange_56 : decode cX3_placeOfLeastChange 56 = .ok (.istore 4, 2) := by decide +kernel
theorem dX3_placeOfLeastChange_58 : decode cX3_placeOfLeastChange 58 = .ok (.iinc 5 1, 3) := by decide +kernel
theorem dX3_placeOfLeastChange_61 : decode cX3_placeOfLeastChange 61 = .ok (.goto (-52), 3) := by decide +kernel
theorem dX3_placeOfLeastChange_64 : decode cX3_placeOfLeastChange 64 = .ok (.iload_n 3, 1) := by decide +kernel
theorem dX3_placeOfLeastChange_65 : decode cX3_placeOfLeastChange 65 = .ok (.ireturn, 1) := by decide +kernel
theorem dX3_learn_0 : decode cX3_learn 0 = .ok (.aload_n 0, 1) := by decide +kernel
theorem dX3_learn_1 : decode cX3_learn 1 = .ok (.aload_n 1, 1) := by decide +kernel
theorem dX3_learn_2 : decode cX3_learn 2 = .ok (.invokevirtual 67, 3) := by decide +kernel
theorem dX3_learn_5 : decode cX3_learn 5 = .ok (.istore 5, 2) := by decide +kernel
theorem dX3_learn_7 : decode cX3_learn 7 = .ok (.iload_n 2, 1) := by decide +kernel
theorem dX3_learn_8 : decode cX3_learn 8 = .ok (.aload_n 1, 1) := by decide +kernel
theorem dX3_learn_9 : decode cX3_learn 9 = .ok (.aload_n 0, 1) := by decide +kernel
theorem dX3_learn_10 : decode cX3_learn 10 = .ok (.getfield 46, 3) := by decide +kernel
theorem dX3_learn_13 : decode cX3_learn 13 = .ok (.invokestatic 63, 3) := by decide +kernel
theorem dX3_learn_16 : decode cX3_learn 16 = .ok (.isub, 1) := by decide +kernel
theorem dX3_learn_17 : decode cX3_learn 17 = .ok (.istore 6, 2) := by decide +kernel
theorem dX3_learn_19 : decode cX3_learn 19 = .ok (.iload 6, 2) := by decide +kernel
theorem dX3_learn_21 : decode cX3_learn 21 = .ok (.aload_n 0, 1) := by decide +kernel
theorem dX3_learn_22 : decode cX3_learn 22 = .ok (.getfield 15, 3) := by decide +kernel
theorem dX3_learn_25 : decode cX3_learn 25 = .ok (.iload 5, 2) := by decide +kernel
theorem dX3_learn_27 : decode cX3_learn 27 = .ok (.imul, 1) := by decide +kernel
theorem dX3_learn_28 : decode cX3_learn 28 = .ok (.isub, 1) := by decide +kernel
theorem dX3_learn_29 : decode cX3_learn 29 = .ok (.istore 7, 2) := by decide +kernel
theorem dX3_learn_31 : decode cX3_learn 31 = .ok (.iload 7, 2) := by decide +kernel
theorem dX3_learn_33 : decode cX3_learn 33 = .ok (.ifCond .lt 36, 3) := by decide +kernel
theorem dX3_learn_36 : decode cX3_learn 36 = .ok (.aload_n 0, 1) := by decide +kernel
theorem dX3_learn_37 : decode cX3_learn 37 = .ok (.iconst 3, 1) := by decide +kernel
theorem dX3_learn_38 : decode cX3_learn 38 = .ok (.aload_n 0, 1) := by decide +kernel
theorem dX3_learn_39 : decode cX3_learn 39 = .ok (.getfield 18, 3) := by decide +kernel
theorem dX3_learn_42 : decode cX3_learn 42 = .ok (.imul, 1) := by decide +kernel
theorem dX3_learn_43 : decode cX3_learn 43 = .ok (.iload 7, 2) := by decide +kernel
theorem dX3_learn_45 : decode cX3_learn 45 = .ok (.sipush 1000, 3) := by decide +kernel
theorem dX3_learn_48 : decode cX3_learn 48 = .ok (.imul, 1) := by decide +kernel
theorem dX3_learn_49 : decode cX3_learn 49 = .ok (.iload 4, 2) := by decide +kernel
theorem dX3_learn_51 : decode cX3_learn 51 = .ok (.iload 5, 2) := by decide +kernel
theorem dX3_learn_53 : decode cX3_learn 53 = .ok (.imul, 1) := by decide +kernel
theorem dX3_learn_54 : decode cX3_learn 54 = .ok (.invokestatic 71, 3) := by decide +kernel
theorem dX3_learn_57 : decode cX3_learn 57 = .ok (.iadd, 1) := by decide +kernel
theorem dX3_learn_58 : decode cX3_learn 58 = .ok (.iconst 4, 1) := by decide +kernel
theorem dX3_learn_59 : decode cX3_learn 59 = .ok (.idiv, 1) := by decide +kernel
theorem dX3_learn_60 : decode cX3_learn 60 = .ok (.invokestatic 74, 3) := by decide +kernel
theorem dX3_learn_63 : decode cX3_learn 63 = .ok (.putfield 18, 3) := by decide +kernel
theorem dX3_learn_66 : decode cX3_learn 66 = .ok (.goto 30, 3) := by decide +kernel
theorem dX3_learn_69 : decode cX3_learn 69 = .ok (.aload_n 0, 1) := by decide +kernel
theorem dX3_learn_70 : decode cX3_learn 70 = .ok (.iconst 3, 1) := by decide +kernel
theorem dX3_learn_71 : decode cX3_learn 71 = .ok (.aload_n 0, 1) := by decide +kernel
theorem dX3_learn_72 : decode cX3_learn 72 = .ok (.getfield 15, 3) := by decide +kernel
theorem dX3_learn_75 : decode cX3_learn 75 = .ok (.imul, 1) := by decide +kernel
theorem dX3_learn_76 : decode cX3_learn 76 = .ok (.iload 6, 2) := by decide +kernel
theorem dX3_learn_78 : decode cX3_learn 78 = .ok (.iconst 0, 1) := by decide +kernel
theorem dX3_learn_79 : decode cX3_learn 79 = .ok (.invokestatic 77, 3) := by decide +kernel
theorem dX3_learn_82 : decode cX3_learn 82 = .ok (.iload 5, 2) := by decide +kernel
theorem dX3_learn_84 : decode cX3_learn 84 = .ok (.invokestatic 71, 3) := by decide +kernel
theorem dX3_learn_87 : decode cX3_learn 87 = .ok (.iadd, 1) := by decide +kernel
theorem dX3_learn_88 : decode cX3_learn 88 = .ok (.iconst 4, 1) := by decide +kernel
theorem dX3_learn_89 : decode cX3_learn 89 = .ok (.idiv, 1) := by decide +kernel
theorem dX3_learn_90 : decode cX3_learn 90 = .ok (.invokestatic 74, 3) := by decide +kernel
theorem dX3_learn_93 : decode cX3_learn 93 = .ok (.putfield 15, 3) := by decide +kernel
theorem dX3_learn_96 : decode cX3_learn 96 = .ok (.aload_n 0, 1) := by decide +kernel
theorem dX3_learn_97 : decode cX3_learn 97 = .ok (.iconst 3, 1) := by decide +kernel
theorem dX3_learn_98 : decode cX3_learn 98 = .ok (.aload_n 0, 1) := by decide +kernel
theorem dX3_learn_99 : decode cX3_learn 99 = .ok (.getfield 21, 3) := by decide +kernel
theorem dX3_learn_102 : decode cX3_learn 102 = .ok (.imul, 1) := by decide +kernel
theorem dX3_learn_103 : decode cX3_learn 103 = .ok (.iload_n 3, 1) := by decide +kernel
theorem dX3_learn_104 : decode cX3_learn 104 = .ok (.sipush 1000, 3) := by decide +kernel
theorem dX3_learn_107 : decode cX3_learn 107 = .ok (.imul, 1) := by decide +kernel
theorem dX3_learn_108 : decode cX3_learn 108 = .ok (.iload 4, 2) := by decide +kernel
theorem dX3_learn_110 : decode cX3_learn 110 = .ok (.invokestatic 71, 3) := by decide +kernel
theorem dX3_learn_113 : decode cX3_learn 113 = .ok (.iadd, 1) := by decide +kernel
theorem dX3_learn_114 : decode cX3_learn 114 = .ok (.iconst 4, 1) := by decide +kernel
theorem dX3_learn_115 : decode cX3_learn 115 = .ok (.idiv, 1) := by decide +kernel
theorem dX3_learn_116 : decode cX3_learn 116 = .ok (.sipush 999, 3) := by decide +kernel
theorem dX3_learn_119 : decode cX3_learn 119 = .ok (.invokestatic 82, 3) := by decide +kernel
theorem dX3_learn_122 : decode cX3_learn 122 = .ok (.putfield 21, 3) := by decide +kernel
theorem dX3_learn_125 : decode cX3_learn 125 = .ok (.aload_n 0, 1) := by decide +kernel
theorem dX3_learn_126 : decode cX3_learn 126 = .ok (.aload_n 1, 1) := by decide +kernel
theorem dX3_learn_127 : decode cX3_learn 127 = .ok (.getfield 30, 3) := by decide +kernel
theorem dX3_learn_130 : decode cX3_learn 130 = .ok (.putfield 46, 3) := by decide +kernel
theorem dX3_learn_133 : decode cX3_learn 133 = .ok (.return_, 1) := by decide +kernel
theorem dX3_rateOf_0 : decode cX3_rateOf 0 = .ok (.iconst 1, 1) := by decide +kernel
theorem dX3_rateOf_1 : decode cX3_rateOf 1 = .ok (.iload_n 0, 1) := by decide +kernel
theorem dX3_rateOf_2 : decode cX3_rateOf 2 = .ok (.sipush 999, 3) := by decide +kernel
theorem dX3_rateOf_5 : decode cX3_rateOf 5 = .ok (.invokestatic 82, 3) := by decide +kernel
theorem dX3_rateOf_8 : decode cX3_rateOf 8 = .ok (.invokestatic 77, 3) := by decide +kernel
theorem dX3_rateOf_11 : decode cX3_rateOf 11 = .ok (.ireturn, 1) := by decide +kernel
theorem dX4_init_0 : decode cX4_init 0 = .ok (.aload_n 0, 1) := by decide +kernel
theorem dX4_init_1 : decode cX4_init 1 = .ok (.invokespecial 1, 3) := by decide +kernel
theorem dX4_init_4 : decode cX4_init 4 = .ok (.aload_n 0, 1) := by decide +kernel
theorem dX4_init_5 : decode cX4_init 5 = .ok (.iconst 4, 1) := by decide +kernel
theorem dX4_init_6 : decode cX4_init 6 = .ok (.anewarray 9, 3) := by decide +kernel
theorem dX4_init_9 : decode cX4_init 9 = .ok (.putfield 11, 3) := by decide +kernel
theorem dX4_init_12 : decode cX4_init 12 = .ok (.iconst 0, 1) := by decide +kernel
theorem dX4_init_13 : decode cX4_init 13 = .ok (.istore_n 1, 1) := by decide +kernel
theorem dX4_init_14 : decode cX4_init 14 = .ok (.iload_n 1, 1) := by decide +kernel
theorem dX4_init_15 : decode cX4_init 15 = .ok (.aload_n 0, 1) := by decide +kernel
theorem dX4_init_16 : decode cX4_init 16 = .ok (.getfield 11, 3) := by decide +kernel
theorem dX4_init_19 : decode cX4_init 19 = .ok (.arraylength, 1) := by decide +kernel
theorem dX4_init_20 : decode cX4_init 20 = .ok (.if_icmp .ge 22, 3) := by decide +kernel
theorem dX4_init_23 : decode cX4_init 23 = .ok (.aload_n 0, 1) := by decide +kernel
theorem dX4_init_24 : decode cX4_init 24 = .ok (.getfield 11, 3) := by decide +kernel
theorem dX4_init_27 : decode cX4_init 27 = .ok (.iload_n 1, 1) := by decide +kernel
theorem dX4_init_28 : decode cX4_init 28 = .ok (.new 9, 3) := by decide +kernel
theorem dX4_init_31 : decode cX4_init 31 = .ok (.dup, 1) := by decide +kernel
theorem dX4_init_32 : decode cX4_init 32 = .ok (.invokespecial 15, 3) := by decide +kernel
theorem dX4_init_35 : decode cX4_init 35 = .ok (.aastore, 1) := by decide +kernel
theorem dX4_init_36 : decode cX4_init 36 = .ok (.iinc 1 1, 3) := by decide +kernel
theorem dX4_init_39 : decode cX4_init 39 = .ok (.goto (-25), 3) := by decide +kernel
theorem dX4_init_42 : decode cX4_init 42 = .ok (.aload_n 0, 1) := by decide +kernel
theorem dX4_init_43 : decode cX4_init 43 = .ok (.iconst 3, 1) := by decide +kernel
theorem dX4_init_44 : decode cX4_init 44 = .ok (.anewarray 16, 3) := by decide +kernel
theorem dX4_init_47 : decode cX4_init 47 = .ok (.putfield 18, 3) := by decide +kernel
theorem dX4_init_50 : decode cX4_init 50 = .ok (.iconst 0, 1) := by decide +kernel
theorem dX4_init_51 : decode cX4_init 51 = .ok (.istore_n 1, 1) := by decide +kernel
theorem dX4_init_52 : decode cX4_init 52 = .ok (.iload_n 1, 1) := by decide +kernel
theorem dX4_init_53 : decode cX4_init 53 = .ok (.aload_n 0, 1) := by decide +kernel
theorem dX4_init_54 : decode cX4_init 54 = .ok (.getfield 18, 3) := by decide +kernel
theorem dX4_init_57 : decode cX4_init 57 = .ok (.arraylength, 1) := by decide +kernel
theorem dX4_init_58 : decode cX4_init 58 = .ok (.if_icmp .ge 22, 3) := by decide +kernel
theorem dX4_init_61 : decode cX4_init 61 = .ok (.aload_n 0, 1) := by decide +kernel
theorem dX4_init_62 : decode cX4_init 62 = .ok (.getfield 18, 3) := by decide +kernel
theorem dX4_init_65 : decode cX4_init 65 = .ok (.iload_n 1, 1) := by decide +kernel
theorem dX4_init_66 : decode cX4_init 66 = .ok (.new 16, 3) := by decide +kernel
theorem dX4_init_69 : decode cX4_init 69 = .ok (.dup, 1) := by decide +kernel
theorem dX4_init_70 : decode cX4_init 70 = .ok (.invokespecial 22, 3) := by decide +kernel
theorem dX4_init_73 : decode cX4_init 73 = .ok (.aastore, 1) := by decide +kernel
theorem dX4_init_74 : decode cX4_init 74 = .ok (.iinc 1 1, 3) := by decide +kernel
theorem dX4_init_77 : decode cX4_init 77 = .ok (.goto (-25), 3) := by decide +kernel
theorem dX4_init_80 : decode cX4_init 80 = .ok (.aload_n 0, 1) := by decide +kernel
theorem dX4_init_81 : decode cX4_init 81 = .ok (.bipush 20, 2) := by decide +kernel
theorem dX4_init_83 : decode cX4_init 83 = .ok (.anewarray 23, 3) := by decide +kernel
theorem dX4_init_86 : decode cX4_init 86 = .ok (.putfield 25, 3) := by decide +kernel
theorem dX4_init_89 : decode cX4_init 89 = .ok (.aload_n 0, 1) := by decide +kernel
theorem dX4_init_90 : decode cX4_init 90 = .ok (.bipush 10, 2) := by decide +kernel
theorem dX4_init_92 : decode cX4_init 92 = .ok (.putfield 29, 3) := by decide +kernel
theorem dX4_init_95 : decode cX4_init 95 = .ok (.aload_n 0, 1) := by decide +kernel
theorem dX4_init_96 : decode cX4_init 96 = .ok (.bipush 25, 2) := by decide +kernel
theorem dX4_init_98 : decode cX4_init 98 = .ok (.putfield 33, 3) := by decide +kernel
theorem dX4_init_101 : decode cX4_init 101 = .ok (.aload_n 0, 1) := by decide +kernel
theorem dX4_init_102 : decode cX4_init 102 = .ok (.new 36, 3) := by decide +kernel
theorem dX4_init_105 : decode cX4_init 105 = .ok (.dup, 1) := by decide +kernel
theorem dX4_init_106 : decode cX4_init 106 = .ok (.invokespecial 38, 3) := by decide +kernel
theorem dX4_init_109 : decode cX4_init 109 = .ok (.putfield 39, 3) := by decide +kernel
theorem dX4_init_112 : decode cX4_init 112 = .ok (.aload_n 0, 1) := by decide +kernel
theorem dX4_init_113 : decode cX4_init 113 = .ok (.new 16, 3) := by decide +kernel
theorem dX4_init_116 : decode cX4_init 116 = .ok (.dup, 1) := by decide +kernel
theorem dX4_init_117 : decode cX4_init 117 = .ok (.invokespecial 22, 3) := by decide +kernel
theorem dX4_init_120 : decode cX4_init 120 = .ok (.putfield 43, 3) := by decide +kernel
theorem dX4_init_123 : decode cX4_init 123 = .ok (.return_, 1) := by decide +kernel
theorem dX4_paper_0 : decode cX4_paper 0 = .ok (.aload_n 0, 1) := by decide +kernel
theorem dX4_paper_1 : decode cX4_paper 1 = .ok (.iload_n 1, 1) := by decide +kernel
theorem dX4_paper_2 : decode cX4_paper 2 = .ok (.invokevirtual 47, 3) := by decide +kernel
theorem dX4_paper_5 : decode cX4_paper 5 = .ok (.astore 5, 2) := by decide +kernel
theorem dX4_paper_7 : decode cX4_paper 7 = .ok (.iload_n 2, 1) := by decide +kernel
theorem dX4_paper_8 : decode cX4_paper 8 = .ok (.bipush 20, 2) := by decide +kernel
theorem dX4_paper_10 : decode cX4_paper 10 = .ok (.bipush 99, 2) := by decide +kernel
theorem dX4_paper_12 : decode cX4_paper 12 = .ok (.invokestatic 51, 3) := by decide +kernel
theorem dX4_paper_15 : decode cX4_paper 15 = .ok (.ifCond .ne 14, 3) := by decide +kernel
theorem dX4_paper_18 : decode cX4_paper 18 = .ok (.iload_n 3, 1) := by decide +kernel
theorem dX4_paper_19 : decode cX4_paper 19 = .ok (.bipush 20, 2) := by decide +kernel
theorem dX4_paper_21 : decode cX4_paper 21 = .ok (.bipush 99, 2) := by decide +kernel
theorem dX4_paper_23 : decode cX4_paper 23 = .ok (.invokestatic 51, 3) := by decide +kernel
theorem dX4_paper_26 : decode cX4_paper 26 = .ok (.ifCond .eq 13, 3) := by decide +kernel
theorem dX4_paper_29 : decode cX4_paper 29 = .ok (.new 55, 3) := by decide +kernel
theorem dX4_paper_32 : decode cX4_paper 32 = .ok (.dup, 1) := by decide +kernel
theorem dX4_paper_33 : decode cX4_paper 33 = .ok (.ldc 57, 2) := by decide +kernel
theorem dX4_paper_35 : decode cX4_paper 35 = .ok (.invokespecial 59, 3) := by decide +kernel
theorem dX4_paper_38 : decode cX4_paper 38 = .ok (.athrow, 1) := by decide +kernel
theorem dX4_paper_39 : decode cX4_paper 39 = .ok (.iload 4, 2) := by decide +kernel
theorem dX4_paper_41 : decode cX4_paper 41 = .ok (.iconst 1, 1) := by decide +kernel
theorem dX4_paper_42 : decode cX4_paper 42 = .ok (.bipush 99, 2) := by decide +kernel
theorem dX4_paper_44 : decode cX4_paper 44 = .ok (.invokestatic 51, 3) := by decide +kernel
theorem dX4_paper_47 : decode cX4_paper 47 = .ok (.ifCond .eq 13, 3) := by decide +kernel
theorem dX4_paper_50 : decode cX4_paper 50 = .ok (.new 55, 3) := by decide +kernel
theorem dX4_paper_53 : decode cX4_paper 53 = .ok (.dup, 1) := by decide +kernel
theorem dX4_paper_54 : decode cX4_paper 54 = .ok (.ldc 62, 2) := by decide +kernel
theorem dX4_paper_56 : decode cX4_paper 56 = .ok (.invokespecial 59, 3) := by decide +kernel
theorem dX4_paper_59 : decode cX4_paper 59 = .ok (.athrow, 1) := by decide +kernel
theorem dX4_paper_60 : decode cX4_paper 60 = .ok (.aload 5, 2) := by decide +kernel
theorem dX4_paper_62 : decode cX4_paper 62 = .ok (.getfield 64, 3) := by decide +kernel
theorem dX4_paper_65 : decode cX4_paper 65 = .ok (.istore 6, 2) := by decide +kernel
theorem dX4_paper_67 : decode cX4_paper 67 = .ok (.aload 5, 2) := by decide +kernel
theorem dX4_paper_69 : decode cX4_paper 69 = .ok (.iload_n 2, 1) := by decide +kernel
theorem dX4_paper_70 : decode cX4_paper 70 = .ok (.putfield 67, 3) := by decide +kernel
theorem dX4_paper_73 : decode cX4_paper 73 = .ok (.aload 5, 2) := by decide +kernel
theorem dX4_paper_75 : decode cX4_paper 75 = .ok (.iload_n 3, 1) := by decide +kernel
theorem dX4_paper_76 : decode cX4_paper 76 = .ok (.putfield 70, 3) := by decide +kernel
theorem dX4_paper_79 : decode cX4_paper 79 = .ok (.aload 5, 2) := by decide +kernel
theorem dX4_paper_81 : decode cX4_paper 81 = .ok (.iload 4, 2) := by decide +kernel
theorem dX4_paper_83 : decode cX4_paper 83 = .ok (.putfield 64, 3) := by decide +kernel
theorem dX4_paper_86 : decode cX4_paper 86 = .ok (.iload 6, 2) := by decide +kernel
theorem dX4_paper_88 : decode cX4_paper 88 = .ok (.ireturn, 1) := by decide +kernel
theorem dX4_buy_0 : decode cX4_buy 0 = .ok (.aload_n 0, 1) := by decide +kernel
theorem dX4_buy_1 : decode cX4_buy 1 = .ok (.iload_n 1, 1) := by decide +kernel
theorem dX4_buy_2 : decode cX4_buy 2 = .ok (.invokevirtual 47, 3) := by decide +kernel
theorem dX4_buy_5 : decode cX4_buy 5 = .ok (.astore_n 3, 1) := by decide +kernel
theorem dX4_buy_6 : decode cX4_buy 6 = .ok (.iload_n 2, 1) := by decide +kernel
theorem dX4_buy_7 : decode cX4_buy 7 = .ok (.iconst 1, 1) := by decide +kernel
theorem dX4_buy_8 : decode cX4_buy 8 = .ok (.bipush 40, 2) := by decide +kernel
theorem dX4_buy_10 : decode cX4_buy 10 = .ok (.invokestatic 51, 3) := by decide +kernel
theorem dX4_buy_13 : decode cX4_buy 13 = .ok (.ifCond .eq 13, 3) := by decide +kernel
theorem dX4_buy_16 : decode cX4_buy 16 = .ok (.new 55, 3) := by decide +kernel
theorem dX4_buy_19 : decode cX4_buy 19 = .ok (.dup, 1) := by decide +kernel
theorem dX4_buy_20 : decode cX4_buy 20 = .ok (.ldc 73, 2) := by decide +kernel
theorem dX4_buy_22 : decode cX4_buy 22 = .ok (.invokespecial 59, 3) := by decide +kernel
theorem dX4_buy_25 : decode cX4_buy 25 = .ok (.athrow, 1) := by decide +kernel
theorem dX4_buy_26 : decode cX4_buy 26 = .ok (.iload_n 2, 1) := by decide +kernel
theorem dX4_buy_27 : decode cX4_buy 27 = .ok (.aload_n 3, 1) := by decide +kernel
theorem dX4_buy_28 : decode cX4_buy 28 = .ok (.invokevirtual 75, 3) := by decide +kernel
theorem dX4_buy_31 : decode cX4_buy 31 = .ok (.if_icmp .le 13, 3) := by decide +kernel
theorem dX4_buy_34 : decode cX4_buy 34 = .ok (.new 55, 3) := by decide +kernel
theorem dX4_buy_37 : decode cX4_buy 37 = .ok (.dup, 1) := by decide +kernel
theorem dX4_buy_38 : decode cX4_buy 38 = .ok (.ldc 79, 2) := by decide +kernel
theorem dX4_buy_40 : decode cX4_buy 40 = .ok (.invokespecial 59, 3) := by decide +kernel
theorem dX4_buy_43 : decode cX4_buy 43 = .ok (.athrow, 1) := by decide +kernel
theorem dX4_buy_44 : decode cX4_buy 44 = .ok (.aload_n 0, 1) := by decide +kernel
theorem dX4_buy_45 : decode cX4_buy 45 = .ok (.aload_n 3, 1) := by decide +kernel
theorem dX4_buy_46 : decode cX4_buy 46 = .ok (.iload_n 2, 1) := by decide +kernel
theorem dX4_buy_47 : decode cX4_buy 47 = .ok (.invokevirtual 81, 3) := by decide +kernel
theorem dX4_buy_50 : decode cX4_buy 50 = .ok (.aload_n 3, 1) := by decide +kernel
theorem dX4_buy_51 : decode cX4_buy 51 = .ok (.getfield 85, 3) := by decide +kernel
theorem dX4_buy_54 : decode cX4_buy 54 = .ok (.ireturn, 1) := by decide +kernel
theorem dX4_buyAll_0 : decode cX4_buyAll 0 = .ok (.iconst 0, 1) := by decide +kernel
theorem dX4_buyAll_1 : decode cX4_buyAll 1 = .ok (.istore_n 1, 1) := by decide +kernel
theorem dX4_buyAll_2 : decode cX4_buyAll 2 = .ok (.iconst 0, 1) := by decide +kernel
theorem dX4_buyAll_3 : decode cX4_buyAll 3 = .ok (.istore_n 2, 1) := by decide +kernel
theorem dX4_buyAll_4 : decode cX4_buyAll 4 = .ok (.iload_n 2, 1) := by decide +kernel
theorem dX4_buyAll_5 : decode cX4_buyAll 5 = .ok (.aload_n 0, 1) := by decide +kernel
theorem dX4_buyAll_6 : decode cX4_buyAll 6 = .ok (.getfield 11, 3) := by decide +kernel
theorem dX4_buyAll_9 : decode cX4_buyAll 9 = .ok (.arraylength, 1) := by decide +kernel
theorem dX4_buyAll_10 : decode cX4_buyAll 10 = .ok (.if_icmp .ge 61, 3) := by decide +kernel
theorem dX4_buyAll_13 : decode cX4_buyAll 13 = .ok (.aload_n 0, 1) := by decide +kernel
theorem dX4_buyAll_14 : decode cX4_buyAll 14 = .ok (.getfield 11, 3) := by decide +kernel
theorem dX4_buyAll_17 : decode cX4_buyAll 17 = .ok (.iload_n 2, 1) := by decide +kernel
theorem dX4_buyAll_18 : decode cX4_buyAll 18 = .ok (.aaload, 1) := by decide +kernel
theorem dX4_buyAll_19 : decode cX4_buyAll 19 = .ok (.astore_n 3, 1) := by decide +kernel
theorem dX4_buyAll_20 : decode cX4_buyAll 20 = .ok (.aload_n 3, 1) := by decide +kernel
theorem dX4_buyAll_21 : decode cX4_buyAll 21 = .ok (.ifnull 44, 3) := by decide +kernel
theorem dX4_buyAll_24 : decode cX4_buyAll 24 = .ok (.aload_n 0, 1) := by decide +kernel
theorem dX4_buyAll_25 : decode cX4_buyAll 25 = .ok (.aload_n 3, 1) := by decide +kernel
theorem dX4_buyAll_26 : decode cX4_buyAll 26 = .ok (.invokevirtual 88, 3) := by decide +kernel
theorem dX4_buyAll_29 : decode cX4_buyAll 29 = .ok (.sipush 250, 3) := by decide +kernel
theorem dX4_buyAll_32 : decode cX4_buyAll 32 = .ok (.invokestatic 92, 3) := by decide +kernel
theorem dX4_buyAll_35 : decode cX4_buyAll 35 = .ok (.istore 4, 2) := by decide +kernel
theorem dX4_buyAll_37 : decode cX4_buyAll 37 = .ok (.iload 4, 2) := by decide +kernel
theorem dX4_buyAll_39 : decode cX4_buyAll 39 = .ok (.bipush 40, 2) := by decide +kernel
theorem dX4_buyAll_41 : decode cX4_buyAll 41 = .ok (.invokestatic 96, 3) := by decide +kernel
theorem dX4_buyAll_44 : decode cX4_buyAll 44 = .ok (.aload_n 3, 1) := by decide +kernel
theorem dX4_buyAll_45 : decode cX4_buyAll 45 = .ok (.invokevirtual 75, 3) := by decide +kernel
theorem dX4_buyAll_48 : decode cX4_buyAll 48 = .ok (.invokestatic 96, 3) := by decide +kernel
theorem dX4_buyAll_51 : decode cX4_buyAll 51 = .ok (.istore 5, 2) := by decide +kernel
theorem dX4_buyAll_53 : decode cX4_buyAll 53 = .ok (.aload_n 0, 1) := by decide +kernel
theorem dX4_buyAll_54 : decode cX4_buyAll 54 = .ok (.aload_n 3, 1) := by decide +kernel
theorem dX4_buyAll_55 : decode cX4_buyAll 55 = .ok (.iload 5, 2) := by decide +kernel
theorem dX4_buyAll_57 : decode cX4_buyAll 57 = .ok (.invokevirtual 81, 3) := by decide +kernel
theorem dX4_buyAll_60 : decode cX4_buyAll 60 = .ok (.iload_n 1, 1) := by decide +kernel
theorem dX4_buyAll_61 : decode cX4_buyAll 61 = .ok (.iload 5, 2) := by decide +kernel
theorem dX4_buyAll_63 : decode cX4_buyAll 63 = .ok (.iadd, 1) := by decide +kernel
theorem dX4_buyAll_64 : decode cX4_buyAll 64 = .ok (.istore_n 1, 1) := by decide +kernel
theorem dX4_buyAll_65 : decode cX4_buyAll 65 = .ok (.iinc 2 1, 3) := by decide +kernel
theorem dX4_buyAll_68 : decode cX4_buyAll 68 = .ok (.goto (-64), 3) := by decide +kernel
theorem dX4_buyAll_71 : decode cX4_buyAll 71 = .ok (.iload_n 1, 1) := by decide +kernel
theorem dX4_buyAll_72 : decode cX4_buyAll 72 = .ok (.ireturn, 1) := by decide +kernel
theorem dX4_ofPaper_0 : decode cX4_ofPaper 0 = .ok (.aload_n 0, 1) := by decide +kernel
theorem dX4_ofPaper_1 : decode cX4_ofPaper 1 = .ok (.iload_n 1, 1) := by decide +kernel
theorem dX4_ofPaper_2 : decode cX4_ofPaper 2 = .ok (.invokevirtual 47, 3) := by decide +kernel
theorem dX4_ofPaper_5 : decode cX4_ofPaper 5 = .ok (.astore_n 3, 1) := by decide +kernel
theorem dX4_ofPaper_6 : decode cX4_ofPaper 6 = .ok (.iload_n 2, 1) := by decide +kernel
theorem dX4_ofPaper_7 : decode cX4_ofPaper 7 = .ok (.tableswitch 69 0 5 #[37, 42, 47, 52, 57, 63], 37) := by decide +kernel
theorem dX4_ofPaper_44 : decode cX4_ofPaper 44 = .ok (.aload_n 3, 1) := by decide +kernel
theorem dX4_ofPaper_45 : decode cX4_ofPaper 45 = .ok (.getfield 67, 3) := by decide +kernel
theorem dX4_ofPaper_48 : decode cX4_ofPaper 48 = .ok (.ireturn, 1) := by decide +kernel
theorem dX4_ofPaper_49 : decode cX4_ofPaper 49 = .ok (.aload_n 3, 1) := by decide +kernel
theorem dX4_ofPaper_50 : decode cX4_ofPaper 50 = .ok (.getfield 70, 3) := by decide +kernel
theorem dX4_ofPaper_53 : decode cX4_ofPaper 53 = .ok (.ireturn, 1) := by decide +kernel
theorem dX4_ofPaper_54 : decode cX4_ofPaper 54 = .ok (.aload_n 3, 1) := by decide +kernel
theorem dX4_ofPaper_55 : decode cX4_ofPaper 55 = .ok (.getfield 64, 3) := by decide +kernel
theorem dX4_ofPaper_58 : decode cX4_ofPaper 58 = .ok (.ireturn, 1) := by decide +kernel
theorem dX4_ofPaper_59 : decode cX4_ofPaper 59 = .ok (.aload_n 3, 1) := by decide +kernel
theorem dX4_ofPaper_60 : decode cX4_ofPaper 60 = .ok (.getfield 85, 3) := by decide +kernel
theorem dX4_ofPaper_63 : decode cX4_ofPaper 63 = .ok (.ireturn, 1) := by decide +kernel
theorem dX4_ofPaper_64 : decode cX4_ofPaper 64 = .ok (.aload_n 0, 1) := by decide +kernel
theorem dX4_ofPaper_65 : decode cX4_ofPaper 65 = .ok (.aload_n 3, 1) := by decide +kernel
theorem dX4_ofPaper_66 : decode cX4_ofPaper 66 = .ok (.invokevirtual 101, 3) := by decide +kernel
theorem dX4_ofPaper_69 : decode cX4_ofPaper 69 = .ok (.ireturn, 1) := by decide +kernel
theorem dX4_ofPaper_70 : decode cX4_ofPaper 70 = .ok (.aload_n 0, 1) := by decide +kernel
theorem dX4_ofPaper_71 : decode cX4_ofPaper 71 = .ok (.aload_n 3, 1) := by decide +kernel
theorem dX4_ofPaper_72 : decode cX4_ofPaper 72 = .ok (.invokevirtual 88, 3) := by decide +kernel
theorem dX4_ofPaper_75 : decode cX4_ofPaper 75 = .ok (.ireturn, 1) := by decide +kernel
theorem dX4_ofPaper_76 : decode cX4_ofPaper 76 = .ok (.new 55, 3) := by decide +kernel
theorem dX4_ofPaper_79 : decode cX4_ofPaper 79 = .ok (.dup, 1) := by decide +kernel
theorem dX4_ofPaper_80 : decode cX4_ofPaper 80 = .ok (.ldc 104, 2) := by decide +kernel
theorem dX4_ofPaper_82 : decode cX4_ofPaper 82 = .ok (.invokespecial 59, 3) := by decide +kernel
theorem dX4_ofPaper_85 : decode cX4_ofPaper 85 = .ok (.athrow, 1) := by decide +kernel
theorem dX4_bring_0 : decode cX4_bring 0 = .ok (.iload_n 2, 1) := by decide +kernel
theorem dX4_bring_1 : decode cX4_bring 1 = .ok (.sipush 250, 3) := by decide +kernel
theorem dX4_bring_4 : decode cX4_bring 4 = .ok (.imul, 1) := by decide +kernel
theorem dX4_bring_5 : decode cX4_bring 5 = .ok (.istore_n 3, 1) := by decide +kernel
theorem dX4_bring_6 : decode cX4_bring 6 = .ok (.aload_n 1, 1) := by decide +kernel
theorem dX4_bring_7 : decode cX4_bring 7 = .ok (.dup, 1) := by decide +kernel
theorem dX4_bring_8 : decode cX4_bring 8 = .ok (.getfield 85, 3) := by decide +kernel
theorem dX4_bring_11 : decode cX4_bring 11 = .ok (.iload_n 3, 1) := by decide +kernel
theorem dX4_bring_12 : decode cX4_bring 12 = .ok (.iadd, 1) := by decide +kernel
theorem dX4_bring_13 : decode cX4_bring 13 = .ok (.putfield 85, 3) := by decide +kernel
theorem dX4_bring_16 : decode cX4_bring 16 = .ok (.aload_n 0, 1) := by decide +kernel
theorem dX4_bring_17 : decode cX4_bring 17 = .ok (.dup, 1) := by decide +kernel
theorem dX4_bring_18 : decode cX4_bring 18 = .ok (.getfield 106, 3) := by decide +kernel
theorem dX4_bring_21 : decode cX4_bring 21 = .ok (.iload_n 3, 1) := by decide +kernel
theorem dX4_bring_22 : decode cX4_bring 22 = .ok (.aload_n 1, 1) := by decide +kernel
theorem dX4_bring_23 : decode cX4_bring 23 = .ok (.getfield 64, 3) := by decide +kernel
theorem dX4_bring_26 : decode cX4_bring 26 = .ok (.imul, 1) := by decide +kernel
theorem dX4_bring_27 : decode cX4_bring 27 = .ok (.isub, 1) := by decide +kernel
theorem dX4_bring_28 : decode cX4_bring 28 = .ok (.putfield 106, 3) := by decide +kernel
theorem dX4_bring_31 : decode cX4_bring 31 = .ok (.return_, 1) := by decide +kernel
theorem dX4_forecastOf_0 : decode cX4_forecastOf 0 = .ok (.iconst 0, 1) := by decide +kernel
theorem dX4_forecastOf_1 : decode cX4_forecastOf 1 = .ok (.istore_n 2, 1) := by decide +kernel
theorem dX4_forecastOf_2 : decode cX4_forecastOf 2 = .ok (.iconst 0, 1) := by decide +kernel
theorem dX4_forecastOf_3 : decode cX4_forecastOf 3 = .ok (.istore_n 3, 1) := by decide +kernel
theorem dX4_forecastOf_4 : decode cX4_forecastOf 4 = .ok (.iload_n 3, 1) := by decide +kernel
theorem dX4_forecastOf_5 : decode cX4_forecastOf 5 = .ok (.aload_n 0, 1) := by decide +kernel
theorem dX4_forecastOf_6 : decode cX4_forecastOf 6 = .ok (.getfield 18, 3) := by decide +kernel
theorem dX4_forecastOf_9 : decode cX4_forecastOf 9 = .ok (.arraylength, 1) := by decide +kernel
theorem dX4_forecastOf_10 : decode cX4_forecastOf 10 = .ok (.if_icmp .ge 32, 3) := by decide +kernel
theorem dX4_forecastOf_13 : decode cX4_forecastOf 13 = .ok (.aload_n 0, 1) := by decide +kernel
theorem dX4_forecastOf_14 : decode cX4_forecastOf 14 = .ok (.getfield 18, 3) := by decide +kernel
theorem dX4_forecastOf_17 : decode cX4_forecastOf 17 = .ok (.iload_n 3, 1) := by decide +kernel
theorem dX4_forecastOf_18 : decode cX4_forecastOf 18 = .ok (.aaload, 1) := by decide +kernel
theorem dX4_forecastOf_19 : decode cX4_forecastOf 19 = .ok (.astore 4, 2) := by decide +kernel
theorem dX4_forecastOf_21 : decode cX4_forecastOf 21 = .ok (.aload 4, 2) := by decide +kernel
theorem dX4_forecastOf_23 : decode cX4_forecastOf 23 = .ok (.ifnull 13, 3) := by decide +kernel
theorem dX4_forecastOf_26 : decode cX4_forecastOf 26 = .ok (.iload_n 2, 1) := by decide +kernel
theorem dX4_forecastOf_27 : decode cX4_forecastOf 27 = .ok (.aload_n 0, 1) := by decide +kernel
theorem dX4_forecastOf_28 : decode cX4_forecastOf 28 = .ok (.aload_n 1, 1) := by decide +kernel
theorem dX4_forecastOf_29 : decode cX4_forecastOf 29 = .ok (.aload 4, 2) := by decide +kernel
theorem dX4_forecastOf_31 : decode cX4_forecastOf 31 = .ok (.invokevirtual 109, 3) := by decide +kernel
theorem dX4_forecastOf_34 : decode cX4_forecastOf 34 = .ok (.iadd, 1) := by decide +kernel
theorem dX4_forecastOf_35 : decode cX4_forecastOf 35 = .ok (.istore_n 2, 1) := by decide +kernel
theorem dX4_forecastOf_36 : decode cX4_forecastOf 36 = .ok (.iinc 3 1, 3) := by decide +kernel
theorem dX4_forecastOf_39 : decode cX4_forecastOf 39 = .ok (.goto (-35), 3) := by decide +kernel
theorem dX4_forecastOf_42 : decode cX4_forecastOf 42 = .ok (.iload_n 2, 1) := by decide +kernel
theorem dX4_forecastOf_43 : decode cX4_forecastOf 43 = .ok (.ireturn, 1) := by decide +kernel
theorem dX4_neededOf_0 : decode cX4_neededOf 0 = .ok (.iconst 0, 1) := by decide +kernel
theorem dX4_neededOf_1 : decode cX4_neededOf 1 = .ok (.istore_n 3, 1) := by decide +kernel
theorem dX4_neededOf_2 : decode cX4_neededOf 2 = .ok (.iconst 0, 1) := by decide +kernel
theorem dX4_neededOf_3 : decode cX4_neededOf 3 = .ok (.istore 4, 2) := by decide +kernel
theorem dX4_neededOf_5 : decode cX4_neededOf 5 = .ok (.iload 4, 2) := by decide +kernel
theorem dX4_neededOf_7 : decode cX4_neededOf 7 = .ok (.aload_n 2, 1) := by decide +kernel
theorem dX4_neededOf_8 : decode cX4_neededOf 8 = .ok (.getfield 113, 3) := by decide +kernel
theorem dX4_neededOf_11 : decode cX4_neededOf 11 = .ok (.if_icmp .ge 48, 3) := by decide +kernel
theorem dX4_neededOf_14 : decode cX4_neededOf 14 = .ok (.aload_n 2, 1) := by decide +kernel
theorem dX4_neededOf_15 : decode cX4_neededOf 15 = .ok (.iload 4, 2) := by decide +kernel
theorem dX4_neededOf_17 : decode cX4_neededOf 17 = .ok (.invokevirtual 116, 3) := by decide +kernel
theorem dX4_neededOf_20 : decode cX4_neededOf 20 = .ok (.astore 5, 2) := by decide +kernel
theorem dX4_neededOf_22 : decode cX4_neededOf 22 = .ok (.aload 5, 2) := by decide +kernel
theorem dX4_neededOf_24 : decode cX4_neededOf 24 = .ok (.ifnull 29, 3) := by decide +kernel
theorem dX4_neededOf_27 : decode cX4_neededOf 27 = .ok (.aload 5, 2) := by decide +kernel
theorem dX4_neededOf_29 : decode cX4_neededOf 29 = .ok (.getfield 120, 3) := by decide +kernel
theorem dX4_neededOf_32 : decode cX4_neededOf 32 = .ok (.aload_n 1, 1) := by decide +kernel
theorem dX4_neededOf_33 : decode cX4_neededOf 33 = .ok (.if_acmp .ne 20, 3) := by decide +kernel
theorem dX4_neededOf_36 : decode cX4_neededOf 36 = .ok (.iload_n 3, 1) := by decide +kernel
theorem dX4_neededOf_37 : decode cX4_neededOf 37 = .ok (.aload_n 0, 1) := by decide +kernel
theorem dX4_neededOf_38 : decode cX4_neededOf 38 = .ok (.aload 5, 2) := by decide +kernel
theorem dX4_neededOf_40 : decode cX4_neededOf 40 = .ok (.aload_n 2, 1) := by decide +kernel
theorem dX4_neededOf_41 : decode cX4_neededOf 41 = .ok (.aload_n 2, 1) := by decide +kernel
theorem dX4_neededOf_42 : decode cX4_neededOf 42 = .ok (.getfield 124, 3) := by decide +kernel
theorem dX4_neededOf_45 : decode cX4_neededOf 45 = .ok (.invokevirtual 127, 3) := by decide +kernel
theorem dX4_neededOf_48 : decode cX4_neededOf 48 = .ok (.getfield 131, 3) := by decide +kernel
theorem dX4_neededOf_51 : decode cX4_neededOf 51 = .ok (.iadd, 1) := by decide +kernel
theorem dX4_neededOf_52 : decode cX4_neededOf 52 = .ok (.istore_n 3, 1) := by decide +kernel
theorem dX4_neededOf_53 : decode cX4_neededOf 53 = .ok (.iinc 4 1, 3) := by decide +kernel
theorem dX4_neededOf_56 : decode cX4_neededOf 56 = .ok (.goto (-51), 3) := by decide +kernel
theorem dX4_neededOf_59 : decode cX4_neededOf 59 = .ok (.iload_n 3, 1) := by decide +kernel
theorem dX4_neededOf_60 : decode cX4_neededOf 60 = .ok (.ireturn, 1) := by decide +kernel
theorem dX4_shortOf_0 : decode cX4_shortOf 0 = .ok (.aload_n 0, 1) := by decide +kernel
theorem dX4_shortOf_1 : decode cX4_shortOf 1 = .ok (.aload_n 1, 1) := by decide +kernel
theorem dX4_shortOf_2 : decode cX4_shortOf 2 = .ok (.invokevirtual 101, 3) := by decide +kernel
theorem dX4_shortOf_5 : decode cX4_shortOf 5 = .ok (.aload_n 1, 1) := by decide +kernel
theorem dX4_shortOf_6 : decode cX4_shortOf 6 = .ok (.getfield 85, 3) := by decide +kernel
theorem dX4_shortOf_9 : decode cX4_shortOf 9 = .ok (.isub, 1) := by decide +kernel
theorem dX4_shortOf_10 : decode cX4_shortOf 10 = .ok (.iconst 0, 1) := by decide +kernel
theorem dX4_shortOf_11 : decode cX4_shortOf 11 = .ok (.invokestatic 134, 3) := by decide +kernel
theorem dX4_shortOf_14 : decode cX4_shortOf 14 = .ok (.ireturn, 1) := by decide +kernel
theorem dX4_job_0 : decode cX4_job 0 = .ok (.aload_n 0, 1) := by decide +kernel
theorem dX4_job_1 : decode cX4_job 1 = .ok (.iload_n 1, 1) := by decide +kernel
theorem dX4_job_2 : decode cX4_job 2 = .ok (.invokevirtual 47, 3) := by decide +kernel
theorem dX4_job_5 : decode cX4_job 5 = .ok (.astore 6, 2) := by decide +kernel
theorem dX4_job_7 : decode cX4_job 7 = .ok (.iload_n 2, 1) := by decide +kernel
theorem dX4_job_8 : decode cX4_job 8 = .ok (.iconst 1, 1) := by decide +kernel
theorem dX4_job_9 : decode cX4_job 9 = .ok (.bipush 99, 2) := by decide +kernel
theorem dX4_job_11 : decode cX4_job 11 = .ok (.invokestatic 51, 3) := by decide +kernel
theorem dX4_job_14 : decode cX4_job 14 = .ok (.ifCond .ne 13, 3) := by decide +kernel
theorem dX4_job_17 : decode cX4_job 17 = .ok (.iload_n 3, 1) := by decide +kernel
theorem dX4_job_18 : decode cX4_job 18 = .ok (.iconst 1, 1) := by decide +kernel
theorem dX4_job_19 : decode cX4_job 19 = .ok (.bipush 99, 2) := by decide +kernel
theorem dX4_job_21 : decode cX4_job 21 = .ok (.invokestatic 51, 3) := by decide +kernel
theorem dX4_job_24 : decode cX4_job 24 = .ok (.ifCond .eq 13, 3) := by decide +kernel
theorem dX4_job_27 : decode cX4_job 27 = .ok (.new 55, 3) := by decide +kernel
theorem dX4_job_30 : decode cX4_job 30 = .ok (.dup, 1) := by decide +kernel
theorem dX4_job_31 : decode cX4_job 31 = .ok (.ldc 137, 2) := by decide +kernel
theorem dX4_job_33 : decode cX4_job 33 = .ok (.invokespecial 59, 3) := by decide +kernel
theorem dX4_job_36 : decode cX4_job 36 = .ok (.athrow, 1) := by decide +kernel
theorem dX4_job_37 : decode cX4_job 37 = .ok (.iload 4, 2) := by decide +kernel
theorem dX4_job_39 : decode cX4_job 39 = .ok (.iconst 1, 1) := by decide +kernel
theorem dX4_job_40 : decode cX4_job 40 = .ok (.sipush 9999, 3) := by decide +kernel
theorem dX4_job_43 : decode cX4_job 43 = .ok (.invokestatic 51, 3) := by decide +kernel
theorem dX4_job_46 : decode cX4_job 46 = .ok (.ifCond .eq 13, 3) := by decide +kernel
theorem dX4_job_49 : decode cX4_job 49 = .ok (.new 55, 3) := by decide +kernel
theorem dX4_job_52 : decode cX4_job 52 = .ok (.dup, 1) := by decide +kernel
theorem dX4_job_53 : decode cX4_job 53 = .ok (.ldc 139, 2) := by decide +kernel
theorem dX4_job_55 : decode cX4_job 55 = .ok (.invokespecial 59, 3) := by decide +kernel
theorem dX4_job_58 : decode cX4_job 58 = .ok (.athrow, 1) := by decide +kernel
theorem dX4_job_59 : decode cX4_job 59 = .ok (.iload 5, 2) := by decide +kernel
theorem dX4_job_61 : decode cX4_job 61 = .ok (.iconst 1, 1) := by decide +kernel
theorem dX4_job_62 : decode cX4_job 62 = .ok (.bipush 15, 2) := by decide +kernel
theorem dX4_job_64 : decode cX4_job 64 = .ok (.invokestatic 51, 3) := by decide +kernel
theorem dX4_job_67 : decode cX4_job 67 = .ok (.ifCond .eq 13, 3) := by decide +kernel
theorem dX4_job_70 : decode cX4_job 70 = .ok (.new 55, 3) := by decide +kernel
theorem dX4_job_73 : decode cX4_job 73 = .ok (.dup, 1) := by decide +kernel
theorem dX4_job_74 : decode cX4_job 74 = .ok (.ldc 141, 2) := by decide +kernel
theorem dX4_job_76 : decode cX4_job 76 = .ok (.invokespecial 59, 3) := by decide +kernel
theorem dX4_job_79 : decode cX4_job 79 = .ok (.athrow, 1) := by decide +kernel
theorem dX4_job_80 : decode cX4_job 80 = .ok (.aload 6, 2) := by decide +kernel
theorem dX4_job_82 : decode cX4_job 82 = .ok (.iload_n 2, 1) := by decide +kernel
theorem dX4_job_83 : decode cX4_job 83 = .ok (.iload_n 3, 1) := by decide +kernel
theorem dX4_job_84 : decode cX4_job 84 = .ok (.invokevirtual 143, 3) := by decide +kernel
theorem dX4_job_87 : decode cX4_job 87 = .ok (.ifCond .ne 23, 3) := by decide +kernel
theorem dX4_job_90 : decode cX4_job 90 = .ok (.aload 6, 2) := by decide +kernel
theorem dX4_job_92 : decode cX4_job 92 = .ok (.iload_n 3, 1) := by decide +kernel
theorem dX4_job_93 : decode cX4_job 93 = .ok (.iload_n 2, 1) := by decide +kernel
theorem dX4_job_94 : decode cX4_job 94 = .ok (.invokevirtual 143, 3) := by decide +kernel
theorem dX4_job_97 : decode cX4_job 97 = .ok (.ifCond .ne 13, 3) := by decide +kernel
theorem dX4_job_100 : decode cX4_job 100 = .ok (.new 55, 3) := by decide +kernel
theorem dX4_job_103 : decode cX4_job 103 = .ok (.dup, 1) := by decide +kernel
theorem dX4_job_104 : decode cX4_job 104 = .ok (.ldc 146, 2) := by decide +kernel
theorem dX4_job_106 : decode cX4_job 106 = .ok (.invokespecial 59, 3) := by decide +kernel
theorem dX4_job_109 : decode cX4_job 109 = .ok (.athrow, 1) := by decide +kernel
theorem dX4_job_110 : decode cX4_job 110 = .ok (.aload_n 0, 1) := by decide +kernel
theorem dX4_job_111 : decode cX4_job 111 = .ok (.getfield 148, 3) := by decide +kernel
theorem dX4_job_114 : decode cX4_job 114 = .ok (.istore 7, 2) := by decide +kernel
theorem dX4_job_116 : decode cX4_job 116 = .ok (.iload 7, 2) := by decide +kernel
theorem dX4_job_118 : decode cX4_job 118 = .ok (.ifCond .lt 13, 3) := by decide +kernel
theorem dX4_job_121 : decode cX4_job 121 = .ok (.iload 7, 2) := by decide +kernel
theorem dX4_job_123 : decode cX4_job 123 = .ok (.aload_n 0, 1) := by decide +kernel
theorem dX4_job_124 : decode cX4_job 124 = .ok (.getfield 25, 3) := by decide +kernel
theorem dX4_job_127 : decode cX4_job 127 = .ok (.arraylength, 1) := by decide +kernel
theorem dX4_job_128 : decode cX4_job 128 = .ok (.if_icmp .lt 13, 3) := by decide +kernel
theorem dX4_job_131 : decode cX4_job 131 = .ok (.new 151, 3) := by decide +kernel
theorem dX4_job_134 : decode cX4_job 134 = .ok (.dup, 1) := by decide +kernel
theorem dX4_job_135 : decode cX4_job 135 = .ok (.ldc 153, 2) := by decide +kernel
theorem dX4_job_137 : decode cX4_job 137 = .ok (.invokespecial 155, 3) := by decide +kernel
theorem dX4_job_140 : decode cX4_job 140 = .ok (.athrow, 1) := by decide +kernel
theorem dX4_job_141 : decode cX4_job 141 = .ok (.new 23, 3) := by decide +kernel
theorem dX4_job_144 : decode cX4_job 144 = .ok (.dup, 1) := by decide +kernel
theorem dX4_job_145 : decode cX4_job 145 = .ok (.iload 7, 2) := by decide +kernel
theorem dX4_job_147 : decode cX4_job 147 = .ok (.iload_n 1, 1) := by decide +kernel
theorem dX4_job_148 : decode cX4_job 148 = .ok (.aload 6, 2) := by decide +kernel
theorem dX4_job_150 : decode cX4_job 150 = .ok (.iload 4, 2) := by decide +kernel
theorem dX4_job_152 : decode cX4_job 152 = .ok (.iload 5, 2) := by decide +kernel
theorem dX4_job_154 : decode cX4_job 154 = .ok (.invokespecial 156, 3) := by decide +kernel
theorem dX4_job_157 : decode cX4_job 157 = .ok (.astore 8, 2) := by decide +kernel
theorem dX4_job_159 : decode cX4_job 159 = .ok (.aload 8, 2) := by decide +kernel
theorem dX4_job_161 : decode cX4_job 161 = .ok (.iload_n 2, 1) := by decide +kernel
theorem dX4_job_162 : decode cX4_job 162 = .ok (.iload_n 3, 1) := by decide +kernel
theorem dX4_job_163 : decode cX4_job 163 = .ok (.invokevirtual 159, 3) := by decide +kernel
theorem dX4_job_166 : decode cX4_job 166 = .ok (.aload_n 0, 1) := by decide +kernel
theorem dX4_job_167 : decode cX4_job 167 = .ok (.getfield 25, 3) := by decide +kernel
theorem dX4_job_170 : decode cX4_job 170 = .ok (.iload 7, 2) := by decide +kernel
theorem dX4_job_172 : decode cX4_job 172 = .ok (.aload 8, 2) := by decide +kernel
theorem dX4_job_174 : decode cX4_job 174 = .ok (.aastore, 1) := by decide +kernel
theorem dX4_job_175 : decode cX4_job 175 = .ok (.aload_n 0, 1) := by decide +kernel
theorem dX4_job_176 : decode cX4_job 176 = .ok (.iload 7, 2) := by decide +kernel
theorem dX4_job_178 : decode cX4_job 178 = .ok (.iconst 1, 1) := by decide +kernel
theorem dX4_job_179 : decode cX4_job 179 = .ok (.iadd, 1) := by decide +kernel
theorem dX4_job_180 : decode cX4_job 180 = .ok (.putfield 148, 3) := by decide +kernel
theorem dX4_job_183 : decode cX4_job 183 = .ok (.iload 7, 2) := by decide +kernel
theorem dX4_job_185 : decode cX4_job 185 = .ok (.ireturn, 1) := by decide +kernel
theorem dX4_ofJob_0 : decode cX4_ofJob 0 = .ok (.aload_n 0, 1) := by decide +kernel
theorem dX4_ofJob_1 : decode cX4_ofJob 1 = .ok (.iload_n 1, 1) := by decide +kernel
theorem dX4_ofJob_2 : decode cX4_ofJob 2 = .ok (.invokevirtual 163, 3) := by decide +kernel
theorem dX4_ofJob_5 : decode cX4_ofJob 5 = .ok (.astore_n 3, 1) := by decide +kernel
theorem dX4_ofJob_6 : decode cX4_ofJob 6 = .ok (.iload_n 2, 1) := by decide +kernel
theorem dX4_ofJob_7 : decode cX4_ofJob 7 = .ok (.tableswitch 138 0 12 #[65, 70, 75, 80, 85, 98, 103, 108, 113, 118, 123, 128, 133], 65) := by decide +kernel
theorem dX4_ofJob_72 : decode cX4_ofJob 72 = .ok (.aload_n 3, 1) := by decide +kernel
theorem dX4_ofJob_73 : decode cX4_ofJob 73 = .ok (.getfield 166, 3) := by decide +kernel
theorem dX4_ofJob_76 : decode cX4_ofJob 76 = .ok (.ireturn, 1) := by decide +kernel
theorem dX4_ofJob_77 : decode cX4_ofJob 77 = .ok (.aload_n 3, 1) := by decide +kernel
theorem dX4_ofJob_78 : decode cX4_ofJob 78 = .ok (.getfield 169, 3) := by decide +kernel
theorem dX4_ofJob_81 : decode cX4_ofJob 81 = .ok (.ireturn, 1) := by decide +kernel
theorem dX4_ofJob_82 : decode cX4_ofJob 82 = .ok (.aload_n 3, 1) := by decide +kernel
theorem dX4_ofJob_83 : decode cX4_ofJob 83 = .ok (.getfield 172, 3) := by decide +kernel
theorem dX4_ofJob_86 : decode cX4_ofJob 86 = .ok (.ireturn, 1) := by decide +kernel
theorem dX4_ofJob_87 : decode cX4_ofJob 87 = .ok (.aload_n 3, 1) := by decide +kernel
theorem dX4_ofJob_88 : decode cX4_ofJob 88 = .ok (.getfield 173, 3) := by decide +kernel
theorem dX4_ofJob_91 : decode cX4_ofJob 91 = .ok (.ireturn, 1) := by decide +kernel
theorem dX4_ofJob_92 : decode cX4_ofJob 92 = .ok (.aload_n 3, 1) := by decide +kernel
theorem dX4_ofJob_93 : decode cX4_ofJob 93 = .ok (.getfield 176, 3) := by decide +kernel
theorem dX4_ofJob_96 : decode cX4_ofJob 96 = .ok (.ifCond .eq 7, 3) := by decide +kernel
theorem dX4_ofJob_99 : decode cX4_ofJob 99 = .ok (.iconst 1, 1) := by decide +kernel
theorem dX4_ofJob_100 : decode cX4_ofJob 100 = .ok (.goto 4, 3) := by decide +kernel
theorem dX4_ofJob_103 : decode cX4_ofJob 103 = .ok (.iconst 0, 1) := by decide +kernel
theorem dX4_ofJob_104 : decode cX4_ofJob 104 = .ok (.ireturn, 1) := by decide +kernel
theorem dX4_ofJob_105 : decode cX4_ofJob 105 = .ok (.aload_n 3, 1) := by decide +kernel
theorem dX4_ofJob_106 : decode cX4_ofJob 106 = .ok (.getfield 180, 3) := by decide +kernel
theorem dX4_ofJob_109 : decode cX4_ofJob 109 = .ok (.ireturn, 1) := by decide +kernel
theorem dX4_ofJob_110 : decode cX4_ofJob 110 = .ok (.aload_n 3, 1) := by decide +kernel
theorem dX4_ofJob_111 : decode cX4_ofJob 111 = .ok (.getfield 183, 3) := by decide +kernel
theorem dX4_ofJob_114 : decode cX4_ofJob 114 = .ok (.ireturn, 1) := by decide +kernel
theorem dX4_ofJob_115 : decode cX4_ofJob 115 = .ok (.aload_n 3, 1) := by decide +kernel
theorem dX4_ofJob_116 : decode cX4_ofJob 116 = .ok (.getfield 186, 3) := by decide +kernel
theorem dX4_ofJob_119 : decode cX4_ofJob 119 = .ok (.ireturn, 1) := by decide +kernel
theorem dX4_ofJob_120 : decode cX4_ofJob 120 = .ok (.aload_n 3, 1) := by decide +kernel
theorem dX4_ofJob_121 : decode cX4_ofJob 121 = .ok (.invokevirtual 189, 3) := by decide +kernel
theorem dX4_ofJob_124 : decode cX4_ofJob 124 = .ok (.ireturn, 1) := by decide +kernel
theorem dX4_ofJob_125 : decode cX4_ofJob 125 = .ok (.aload_n 3, 1) := by decide +kernel
theorem dX4_ofJob_126 : decode cX4_ofJob 126 = .ok (.getfield 192, 3) := by decide +kernel
theorem dX4_ofJob_129 : decode cX4_ofJob 129 = .ok (.ireturn, 1) := by decide +kernel
theorem dX4_ofJob_130 : decode cX4_ofJob 130 = .ok (.aload_n 3, 1) := by decide +kernel
theorem dX4_ofJob_131 : decode cX4_ofJob 131 = .ok (.getfield 195, 3) := by decide +kernel
theorem dX4_ofJob_134 : decode cX4_ofJob 134 = .ok (.ireturn, 1) := by decide +kernel
theorem dX4_ofJob_135 : decode cX4_ofJob 135 = .ok (.aload_n 3, 1) := by decide +kernel
theorem dX4_ofJob_136 : decode cX4_ofJob 136 = .ok (.getfield 198, 3) := by decide +kernel
theorem dX4_ofJob_139 : decode cX4_ofJob 139 = .ok (.ireturn, 1) := by decide +kernel
theorem dX4_ofJob_140 : decode cX4_ofJob 140 = .ok (.aload_n 3, 1) := by decide +kernel
theorem dX4_ofJob_141 : decode cX4_ofJob 141 = .ok (.getfield 201, 3) := by decide +kernel
theorem dX4_ofJob_144 : decode cX4_ofJob 144 = .ok (.ireturn, 1) := by decide +kernel
theorem dX4_ofJob_145 : decode cX4_ofJob 145 = .ok (.new 55, 3) := by decide +kernel
theorem dX4_ofJob_148 : decode cX4_ofJob 148 = .ok (.dup, 1) := by decide +kernel
theorem dX4_ofJob_149 : decode cX4_ofJob 149 = .ok (.ldc 204, 2) := by decide +kernel
theorem dX4_ofJob_151 : decode cX4_ofJob 151 = .ok (.invokespecial 59, 3) := by decide +kernel
theorem dX4_ofJob_154 : decode cX4_ofJob 154 = .ok (.athrow, 1) := by decide +kernel
theorem dX4_expected_0 : decode cX4_expected 0 = .ok (.aload_n 0, 1) := by decide +kernel
theorem dX4_expected_1 : decode cX4_expected 1 = .ok (.iload_n 1, 1) := by decide +kernel
theorem dX4_expected_2 : decode cX4_expected 2 = .ok (.invokevirtual 163, 3) := by decide +kernel
theorem dX4_expected_5 : decode cX4_expected 5 = .ok (.astore 4, 2) := by decide +kernel
theorem dX4_expected_7 : decode cX4_expected 7 = .ok (.aload_n 0, 1) := by decide +kernel
theorem dX4_expected_8 : decode cX4_expected 8 = .ok (.iload_n 2, 1) := by decide +kernel
theorem dX4_expected_9 : decode cX4_expected 9 = .ok (.invokevirtual 206, 3) := by decide +kernel
theorem dX4_expected_12 : decode cX4_expected 12 = .ok (.astore 5, 2) := by decide +kernel
theorem dX4_expected_14 : decode cX4_expected 14 = .ok (.aload_n 0, 1) := by decide +kernel
theorem dX4_expected_15 : decode cX4_expected 15 = .ok (.aload 4, 2) := by decide +kernel
theorem dX4_expected_17 : decode cX4_expected 17 = .ok (.aload 5, 2) := by decide +kernel
theorem dX4_expected_19 : decode cX4_expected 19 = .ok (.aload 5, 2) := by decide +kernel
theorem dX4_expected_21 : decode cX4_expected 21 = .ok (.getfield 124, 3) := by decide +kernel
theorem dX4_expected_24 : decode cX4_expected 24 = .ok (.invokevirtual 127, 3) := by decide +kernel
theorem dX4_expected_27 : decode cX4_expected 27 = .ok (.astore 6, 2) := by decide +kernel
theorem dX4_expected_29 : decode cX4_expected 29 = .ok (.iload_n 3, 1) := by decide +kernel
theorem dX4_expected_30 : decode cX4_expected 30 = .ok (.tableswitch 84 0 6 #[42, 48, 54, 60, 66, 72, 78], 42) := by decide +kernel
theorem dX4_expected_72 : decode cX4_expected 72 = .ok (.aload 6, 2) := by decide +kernel
theorem dX4_expected_74 : decode cX4_expected 74 = .ok (.getfield 210, 3) := by decide +kernel
theorem dX4_expected_77 : decode cX4_expected 77 = .ok (.ireturn, 1) := by decide +kernel
theorem dX4_expected_78 : decode cX4_expected 78 = .ok (.aload 6, 2) := by decide +kernel
theorem dX4_expected_80 : decode cX4_expected 80 = .ok (.getfield 213, 3) := by decide +kernel
theorem dX4_expected_83 : decode cX4_expected 83 = .ok (.ireturn, 1) := by decide +kernel
theorem dX4_expected_84 : decode cX4_expected 84 = .ok (.aload 6, 2) := by decide +kernel
theorem dX4_expected_86 : decode cX4_expected 86 = .ok (.getfield 216, 3) := by decide +kernel
theorem dX4_expected_89 : decode cX4_expected 89 = .ok (.ireturn, 1) := by decide +kernel
theorem dX4_expected_90 : decode cX4_expected 90 = .ok (.aload 6, 2) := by decide +kernel
theorem dX4_expected_92 : decode cX4_expected 92 = .ok (.getfield 131, 3) := by decide +kernel
theorem dX4_expected_95 : decode cX4_expected 95 = .ok (.ireturn, 1) := by decide +kernel
theorem dX4_expected_96 : decode cX4_expected 96 = .ok (.aload 6, 2) := by decide +kernel
theorem dX4_expected_98 : decode cX4_expected 98 = .ok (.getfield 219, 3) := by decide +kernel
theorem dX4_expected_101 : decode cX4_expected 101 = .ok (.ireturn, 1) := by decide +kernel
theorem dX4_expected_102 : decode cX4_expected 102 = .ok (.aload 6, 2) := by decide +kernel
theorem dX4_expected_104 : decode cX4_expected 104 = .ok (.getfield 222, 3) := by decide +kernel
theorem dX4_expected_107 : decode cX4_expected 107 = .ok (.ireturn, 1) := by decide +kernel
theorem dX4_expected_108 : decode cX4_expected 108 = .ok (.aload 6, 2) := by decide +kernel
theorem dX4_expected_110 : decode cX4_expected 110 = .ok (.getfield 223, 3) := by decide +kernel
theorem dX4_expected_113 : decode cX4_expected 113 = .ok (.ireturn, 1) := by decide +kernel
theorem dX4_expected_114 : decode cX4_expected 114 = .ok (.new 55, 3) := by decide +kernel
theorem dX4_expected_117 : decode cX4_expected 117 = .ok (.dup, 1) := by decide +kernel
theorem dX4_expected_118 : decode cX4_expected 118 = .ok (.ldc 224, 2) := by decide +kernel
theorem dX4_expected_120 : decode cX4_expected 120 = .ok (.invokespecial 59, 3) := by decide +kernel
theorem dX4_expected_123 : decode cX4_expected 123 = .ok (.athrow, 1) := by decide +kernel
theorem dX4_order_0 : decode cX4_order 0 = .ok (.aload_n 0, 1) := by decide +kernel
theorem dX4_order_1 : decode cX4_order 1 = .ok (.iload_n 1, 1) := by decide +kernel
theorem dX4_order_2 : decode cX4_order 2 = .ok (.invokevirtual 163, 3) := by decide +kernel
theorem dX4_order_5 : decode cX4_order 5 = .ok (.astore_n 3, 1) := by decide +kernel
theorem dX4_order_6 : decode cX4_order 6 = .ok (.aload_n 0, 1) := by decide +kernel
theorem dX4_order_7 : decode cX4_order 7 = .ok (.iload_n 2, 1) := by decide +kernel
theorem dX4_order_8 : decode cX4_order 8 = .ok (.invokevirtual 206, 3) := by decide +kernel
theorem dX4_order_11 : decode cX4_order 11 = .ok (.astore 4, 2) := by decide +kernel
theorem dX4_order_13 : decode cX4_order 13 = .ok (.aload_n 3, 1) := by decide +kernel
theorem dX4_order_14 : decode cX4_order 14 = .ok (.getfield 183, 3) := by decide +kernel
theorem dX4_order_17 : decode cX4_order 17 = .ok (.ifCond .eq 13, 3) := by decide +kernel
theorem dX4_order_20 : decode cX4_order 20 = .ok (.new 151, 3) := by decide +kernel
theorem dX4_order_23 : decode cX4_order 23 = .ok (.dup, 1) := by decide +kernel
theorem dX4_order_24 : decode cX4_order 24 = .ok (.ldc 226, 2) := by decide +kernel
theorem dX4_order_26 : decode cX4_order 26 = .ok (.invokespecial 155, 3) := by decide +kernel
theorem dX4_order_29 : decode cX4_order 29 = .ok (.athrow, 1) := by decide +kernel
theorem dX4_order_30 : decode cX4_order 30 = .ok (.aload_n 3, 1) := by decide +kernel
theorem dX4_order_31 : decode cX4_order 31 = .ok (.aload_n 0, 1) := by decide +kernel
theorem dX4_order_32 : decode cX4_order 32 = .ok (.aload_n 3, 1) := by decide +kernel
theorem dX4_order_33 : decode cX4_order 33 = .ok (.aload 4, 2) := by decide +kernel
theorem dX4_order_35 : decode cX4_order 35 = .ok (.aload 4, 2) := by decide +kernel
theorem dX4_order_37 : decode cX4_order 37 = .ok (.getfield 124, 3) := by decide +kernel
theorem dX4_order_40 : decode cX4_order 40 = .ok (.invokevirtual 127, 3) := by decide +kernel
theorem dX4_order_43 : decode cX4_order 43 = .ok (.getfield 223, 3) := by decide +kernel
theorem dX4_order_46 : decode cX4_order 46 = .ok (.putfield 192, 3) := by decide +kernel
theorem dX4_order_49 : decode cX4_order 49 = .ok (.aload_n 3, 1) := by decide +kernel
theorem dX4_order_50 : decode cX4_order 50 = .ok (.iload_n 2, 1) := by decide +kernel
theorem dX4_order_51 : decode cX4_order 51 = .ok (.putfield 201, 3) := by decide +kernel
theorem dX4_order_54 : decode cX4_order 54 = .ok (.aload_n 3, 1) := by decide +kernel
theorem dX4_order_55 : decode cX4_order 55 = .ok (.iconst 1, 1) := by decide +kernel
theorem dX4_order_56 : decode cX4_order 56 = .ok (.putfield 183, 3) := by decide +kernel
theorem dX4_order_59 : decode cX4_order 59 = .ok (.aload 4, 2) := by decide +kernel
theorem dX4_order_61 : decode cX4_order 61 = .ok (.aload_n 3, 1) := by decide +kernel
theorem dX4_order_62 : decode cX4_order 62 = .ok (.aload 4, 2) := by decide +kernel
theorem dX4_order_64 : decode cX4_order 64 = .ok (.getfield 113, 3) := by decide +kernel
theorem dX4_order_67 : decode cX4_order 67 = .ok (.invokevirtual 228, 3) := by decide +kernel
theorem dX4_order_70 : decode cX4_order 70 = .ok (.aload_n 3, 1) := by decide +kernel
theorem dX4_order_71 : decode cX4_order 71 = .ok (.getfield 192, 3) := by decide +kernel
theorem dX4_order_74 : decode cX4_order 74 = .ok (.ireturn, 1) := by decide +kernel
theorem dX4_again_0 : decode cX4_again 0 = .ok (.aload_n 0, 1) := by decide +kernel
theorem dX4_again_1 : decode cX4_again 1 = .ok (.iload_n 1, 1) := by decide +kernel
theorem dX4_again_2 : decode cX4_again 2 = .ok (.invokevirtual 163, 3) := by decide +kernel
theorem dX4_again_5 : decode cX4_again 5 = .ok (.astore_n 2, 1) := by decide +kernel
theorem dX4_again_6 : decode cX4_again 6 = .ok (.aload_n 2, 1) := by decide +kernel
theorem dX4_again_7 : decode cX4_again 7 = .ok (.getfield 183, 3) := by decide +kernel
theorem dX4_again_10 : decode cX4_again 10 = .ok (.iconst 2, 1) := by decide +kernel
theorem dX4_again_11 : decode cX4_again 11 = .ok (.if_icmp .eq 13, 3) := by decide +kernel
theorem dX4_again_14 : decode cX4_again 14 = .ok (.new 151, 3) := by decide +kernel
theorem dX4_again_17 : decode cX4_again 17 = .ok (.dup, 1) := by decide +kernel
theorem dX4_again_18 : decode cX4_again 18 = .ok (.ldc 232, 2) := by decide +kernel
theorem dX4_again_20 : decode cX4_again 20 = .ok (.invokespecial 155, 3) := by decide +kernel
theorem dX4_again_23 : decode cX4_again 23 = .ok (.athrow, 1) := by decide +kernel
theorem dX4_again_24 : decode cX4_again 24 = .ok (.aload_n 2, 1) := by decide +kernel
theorem dX4_again_25 : decode cX4_again 25 = .ok (.getfield 186, 3) := by decide +kernel
theorem dX4_again_28 : decode cX4_again 28 = .ok (.aload_n 2, 1) := by decide +kernel
theorem dX4_again_29 : decode cX4_again 29 = .ok (.getfield 169, 3) := by decide +kernel
theorem dX4_again_32 : decode cX4_again 32 = .ok (.if_icmp .lt 13, 3) := by decide +kernel
theorem dX4_again_35 : decode cX4_again 35 = .ok (.new 151, 3) := by decide +kernel
theorem dX4_again_38 : decode cX4_again 38 = .ok (.dup, 1) := by decide +kernel
theorem dX4_again_39 : decode cX4_again 39 = .ok (.ldc 234, 2) := by decide +kernel
theorem dX4_again_41 : decode cX4_again 41 = .ok (.invokespecial 155, 3) := by decide +kernel
theorem dX4_again_44 : decode cX4_again 44 = .ok (.athrow, 1) := by decide +kernel
theorem dX4_again_45 : decode cX4_again 45 = .ok (.aload_n 0, 1) := by decide +kernel
theorem dX4_again_46 : decode cX4_again 46 = .ok (.aload_n 2, 1) := by decide +kernel
theorem dX4_again_47 : decode cX4_again 47 = .ok (.getfield 201, 3) := by decide +kernel
theorem dX4_again_50 : decode cX4_again 50 = .ok (.invokevirtual 206, 3) := by decide +kernel
theorem dX4_again_53 : decode cX4_again 53 = .ok (.aload_n 2, 1) := by decide +kernel
theorem dX4_again_54 : decode cX4_again 54 = .ok (.iconst 0, 1) := by decide +kernel
theorem dX4_again_55 : decode cX4_again 55 = .ok (.invokevirtual 228, 3) := by decide +kernel
theorem dX4_again_58 : decode cX4_again 58 = .ok (.aload_n 2, 1) := by decide +kernel
theorem dX4_again_59 : decode cX4_again 59 = .ok (.iconst 1, 1) := by decide +kernel
theorem dX4_again_60 : decode cX4_again 60 = .ok (.putfield 183, 3) := by decide +kernel
theorem dX4_again_63 : decode cX4_again 63 = .ok (.aload_n 2, 1) := by decide +kernel
theorem dX4_again_64 : decode cX4_again 64 = .ok (.invokevirtual 189, 3) := by decide +kernel
theorem dX4_again_67 : decode cX4_again 67 = .ok (.ireturn, 1) := by decide +kernel
theorem dX4_invoice_0 : decode cX4_invoice 0 = .ok (.aload_n 0, 1) := by decide +kernel
theorem dX4_invoice_1 : decode cX4_invoice 1 = .ok (.iload_n 1, 1) := by decide +kernel
theorem dX4_invoice_2 : decode cX4_invoice 2 = .ok (.invokevirtual 163, 3) := by decide +kernel
theorem dX4_invoice_5 : decode cX4_invoice 5 = .ok (.astore_n 2, 1) := by decide +kernel
theorem dX4_invoice_6 : decode cX4_invoice 6 = .ok (.aload_n 2, 1) := by decide +kernel
theorem dX4_invoice_7 : decode cX4_invoice 7 = .ok (.getfield 183, 3) := by decide +kernel
theorem dX4_invoice_10 : decode cX4_invoice 10 = .ok (.iconst 2, 1) := by decide +kernel
theorem dX4_invoice_11 : decode cX4_invoice 11 = .ok (.if_icmp .eq 13, 3) := by decide +kernel
theorem dX4_invoice_14 : decode cX4_invoice 14 = .ok (.new 151, 3) := by decide +kernel
theorem dX4_invoice_17 : decode cX4_invoice 17 = .ok (.dup, 1) := by decide +kernel
theorem dX4_invoice_18 : decode cX4_invoice 18 = .ok (.ldc 232, 2) := by decide +kernel
theorem dX4_invoice_20 : decode cX4_invoice 20 = .ok (.invokespecial 155, 3) := by decide +kernel
theorem dX4_invoice_23 : decode cX4_invoice 23 = .ok (.athrow, 1) := by decide +kernel
theorem dX4_invoice_24 : decode cX4_invoice 24 = .ok (.aload_n 2, 1) := by decide +kernel
theorem dX4_invoice_25 : decode cX4_invoice 25 = .ok (.getfield 186, 3) := by decide +kernel
theorem dX4_invoice_28 : decode cX4_invoice 28 = .ok (.aload_n 2, 1) := by decide +kernel
theorem dX4_invoice_29 : decode cX4_invoice 29 = .ok (.getfield 169, 3) := by decide +kernel
theorem dX4_invoice_32 : decode cX4_invoice 32 = .ok (.aload_n 2, 1) := by decide +kernel
theorem dX4_invoice_33 : decode cX4_invoice 33 = .ok (.getfield 169, 3) := by decide +kernel
theorem dX4_invoice_36 : decode cX4_invoice 36 = .ok (.bipush 20, 2) := by decide +kernel
theorem dX4_invoice_38 : decode cX4_invoice 38 = .ok (.idiv, 1) := by decide +kernel
theorem dX4_invoice_39 : decode cX4_invoice 39 = .ok (.isub, 1) := by decide +kernel
theorem dX4_invoice_40 : decode cX4_invoice 40 = .ok (.if_icmp .ge 13, 3) := by decide +kernel
theorem dX4_invoice_43 : decode cX4_invoice 43 = .ok (.new 151, 3) := by decide +kernel
theorem dX4_invoice_46 : decode cX4_invoice 46 = .ok (.dup, 1) := by decide +kernel
theorem dX4_invoice_47 : decode cX4_invoice 47 = .ok (.ldc 236, 2) := by decide +kernel
theorem dX4_invoice_49 : decode cX4_invoice 49 = .ok (.invokespecial 155, 3) := by decide +kernel
theorem dX4_invoice_52 : decode cX4_invoice 52 = .ok (.athrow, 1) := by decide +kernel
theorem dX4_invoice_53 : decode cX4_invoice 53 = .ok (.aload_n 2, 1) := by decide +kernel
theorem dX4_invoice_54 : decode cX4_invoice 54 = .ok (.aload_n 2, 1) := by decide +kernel
theorem dX4_invoice_55 : decode cX4_invoice 55 = .ok (.invokevirtual 238, 3) := by decide +kernel
theorem dX4_invoice_58 : decode cX4_invoice 58 = .ok (.putfield 198, 3) := by decide +kernel
theorem dX4_invoice_61 : decode cX4_invoice 61 = .ok (.aload_n 2, 1) := by decide +kernel
theorem dX4_invoice_62 : decode cX4_invoice 62 = .ok (.iconst 3, 1) := by decide +kernel
theorem dX4_invoice_63 : decode cX4_invoice 63 = .ok (.putfield 183, 3) := by decide +kernel
theorem dX4_invoice_66 : decode cX4_invoice 66 = .ok (.aload_n 0, 1) := by decide +kernel
theorem dX4_invoice_67 : decode cX4_invoice 67 = .ok (.dup, 1) := by decide +kernel
theorem dX4_invoice_68 : decode cX4_invoice 68 = .ok (.getfield 106, 3) := by decide +kernel
theorem dX4_invoice_71 : decode cX4_invoice 71 = .ok (.aload_n 2, 1) := by decide +kernel
theorem dX4_invoice_72 : decode cX4_invoice 72 = .ok (.getfield 198, 3) := by decide +kernel
theorem dX4_invoice_75 : decode cX4_invoice 75 = .ok (.iadd, 1) := by decide +kernel
theorem dX4_invoice_76 : decode cX4_invoice 76 = .ok (.putfield 106, 3) := by decide +kernel
theorem dX4_invoice_79 : decode cX4_invoice 79 = .ok (.aload_n 2, 1) := by decide +kernel
theorem dX4_invoice_80 : decode cX4_invoice 80 = .ok (.getfield 198, 3) := by decide +kernel
theorem dX4_invoice_83 : decode cX4_invoice 83 = .ok (.ireturn, 1) := by decide +kernel
theorem dX4_expect_0 : decode cX4_expect 0 = .ok (.aload_n 0, 1) := by decide +kernel
theorem dX4_expect_1 : decode cX4_expect 1 = .ok (.getfield 39, 3) := by decide +kernel
theorem dX4_expect_4 : decode cX4_expect 4 = .ok (.astore 4, 2) := by decide +kernel
theorem dX4_expect_6 : decode cX4_expect 6 = .ok (.aload_n 1, 1) := by decide +kernel
theorem dX4_expect_7 : decode cX4_expect 7 = .ok (.invokevirtual 189, 3) := by decide +kernel
theorem dX4_expect_10 : decode cX4_expect 10 = .ok (.istore 5, 2) := by decide +kernel
theorem dX4_expect_12 : decode cX4_expect 12 = .ok (.aload 4, 2) := by decide +kernel
theorem dX4_expect_14 : decode cX4_expect 14 = .ok (.aload_n 2, 1) := by decide +kernel
theorem dX4_expect_15 : decode cX4_expect 15 = .ok (.aload_n 1, 1) := by decide +kernel
theorem dX4_expect_16 : decode cX4_expect 16 = .ok (.invokevirtual 241, 3) := by decide +kernel
theorem dX4_expect_19 : decode cX4_expect 19 = .ok (.putfield 210, 3) := by decide +kernel
theorem dX4_expect_22 : decode cX4_expect 22 = .ok (.aload 4, 2) := by decide +kernel
theorem dX4_expect_24 : decode cX4_expect 24 = .ok (.aload_n 1, 1) := by decide +kernel
theorem dX4_expect_25 : decode cX4_expect 25 = .ok (.iload_n 3, 1) := by decide +kernel
theorem dX4_expect_26 : decode cX4_expect 26 = .ok (.invokestatic 245, 3) := by decide +kernel
theorem dX4_expect_29 : decode cX4_expect 29 = .ok (.putfield 213, 3) := by decide +kernel
theorem dX4_expect_32 : decode cX4_expect 32 = .ok (.aload 4, 2) := by decide +kernel
theorem dX4_expect_34 : decode cX4_expect 34 = .ok (.iload 5, 2) := by decide +kernel
theorem dX4_expect_36 : decode cX4_expect 36 = .ok (.aload_n 2, 1) := by decide +kernel
theorem dX4_expect_37 : decode cX4_expect 37 = .ok (.getfield 249, 3) := by decide +kernel
theorem dX4_expect_40 : decode cX4_expect 40 = .ok (.imul, 1) := by decide +kernel
theorem dX4_expect_41 : decode cX4_expect 41 = .ok (.sipush 1000, 3) := by decide +kernel
theorem dX4_expect_44 : decode cX4_expect 44 = .ok (.idiv, 1) := by decide +kernel
theorem dX4_expect_45 : decode cX4_expect 45 = .ok (.iconst 5, 1) := by decide +kernel
theorem dX4_expect_46 : decode cX4_expect 46 = .ok (.aload 4, 2) := by decide +kernel
theorem dX4_expect_48 : decode cX4_expect 48 = .ok (.getfield 210, 3) := by decide +kernel
theorem dX4_expect_51 : decode cX4_expect 51 = .ok (.imul, 1) := by decide +kernel
theorem dX4_expect_52 : decode cX4_expect 52 = .ok (.iadd, 1) := by decide +kernel
theorem dX4_expect_53 : decode cX4_expect 53 = .ok (.putfield 216, 3) := by decide +kernel
theorem dX4_expect_56 : decode cX4_expect 56 = .ok (.aload 4, 2) := by decide +kernel
theorem dX4_expect_58 : decode cX4_expect 58 = .ok (.iload 5, 2) := by decide +kernel
theorem dX4_expect_60 : decode cX4_expect 60 = .ok (.aload 4, 2) := by decide +kernel
theorem dX4_expect_62 : decode cX4_expect 62 = .ok (.getfield 216, 3) := by decide +kernel
theorem dX4_expect_65 : decode cX4_expect 65 = .ok (.iadd, 1) := by decide +kernel
theorem dX4_expect_66 : decode cX4_expect 66 = .ok (.putfield 131, 3) := by decide +kernel
theorem dX4_expect_69 : decode cX4_expect 69 = .ok (.aload 4, 2) := by decide +kernel
theorem dX4_expect_71 : decode cX4_expect 71 = .ok (.getfield 131, 3) := by decide +kernel
theorem dX4_expect_74 : decode cX4_expect 74 = .ok (.i2l, 1) := by decide +kernel
theorem dX4_expect_75 : decode cX4_expect 75 = .ok (.aload_n 2, 1) := by decide +kernel
theorem dX4_expect_76 : decode cX4_expect 76 = .ok (.getfield 252, 3) := by decide +kernel
theorem dX4_expect_79 : decode cX4_expect 79 = .ok (.i2l, 1) := by decide +kernel
theorem dX4_expect_80 : decode cX4_expect 80 = .ok (.lmul, 1) := by decide +kernel
theorem dX4_expect_81 : decode cX4_expect 81 = .ok (.aload 4, 2) := by decide +kernel
theorem dX4_expect_83 : decode cX4_expect 83 = .ok (.getfield 210, 3) := by decide +kernel
theorem dX4_expect_86 : decode cX4_expect 86 = .ok (.i2l, 1) := by decide +kernel
theorem dX4_expect_87 : decode cX4_expect 87 = .ok (.lmul, 1) := by decide +kernel
theorem dX4_expect_88 : decode cX4_expect 88 = .ok (.ldc2_w 255, 3) := by decide +kernel
theorem dX4_expect_91 : decode cX4_expect 91 = .ok (.ldiv, 1) := by decide +kernel
theorem dX4_expect_92 : decode cX4_expect 92 = .ok (.lstore 6, 2) := by decide +kernel
theorem dX4_expect_94 : decode cX4_expect 94 = .ok (.aload 4, 2) := by decide +kernel
theorem dX4_expect_96 : decode cX4_expect 96 = .ok (.aload 4, 2) := by decide +kernel
theorem dX4_expect_98 : decode cX4_expect 98 = .ok (.getfield 213, 3) := by decide +kernel
theorem dX4_expect_101 : decode cX4_expect 101 = .ok (.aload_n 2, 1) := by decide +kernel
theorem dX4_expect_102 : decode cX4_expect 102 = .ok (.getfield 257, 3) := by decide +kernel
theorem dX4_expect_105 : decode cX4_expect 105 = .ok (.aload 4, 2) := by decide +kernel
theorem dX4_expect_107 : decode cX4_expect 107 = .ok (.getfield 210, 3) := by decide +kernel
theorem dX4_expect_110 : decode cX4_expect 110 = .ok (.imul, 1) := by decide +kernel
theorem dX4_expect_111 : decode cX4_expect 111 = .ok (.iadd, 1) := by decide +kernel
theorem dX4_expect_112 : decode cX4_expect 112 = .ok (.lload 6, 2) := by decide +kernel
theorem dX4_expect_114 : decode cX4_expect 114 = .ok (.l2i, 1) := by decide +kernel
theorem dX4_expect_115 : decode cX4_expect 115 = .ok (.iadd, 1) := by decide +kernel
theorem dX4_expect_116 : decode cX4_expect 116 = .ok (.putfield 219, 3) := by decide +kernel
theorem dX4_expect_119 : decode cX4_expect 119 = .ok (.aload 4, 2) := by decide +kernel
theorem dX4_expect_121 : decode cX4_expect 121 = .ok (.aload 4, 2) := by decide +kernel
theorem dX4_expect_123 : decode cX4_expect 123 = .ok (.getfield 219, 3) := by decide +kernel
theorem dX4_expect_126 : decode cX4_expect 126 = .ok (.aload_n 0, 1) := by decide +kernel
theorem dX4_expect_127 : decode cX4_expect 127 = .ok (.getfield 29, 3) := by decide +kernel
theorem dX4_expect_130 : decode cX4_expect 130 = .ok (.imul, 1) := by decide +kernel
theorem dX4_expect_131 : decode cX4_expect 131 = .ok (.aload_n 1, 1) := by decide +kernel
theorem dX4_expect_132 : decode cX4_expect 132 = .ok (.invokevirtual 260, 3) := by decide +kernel
theorem dX4_expect_135 : decode cX4_expect 135 = .ok (.iadd, 1) := by decide +kernel
theorem dX4_expect_136 : decode cX4_expect 136 = .ok (.aload 4, 2) := by decide +kernel
theorem dX4_expect_138 : decode cX4_expect 138 = .ok (.getfield 131, 3) := by decide +kernel
theorem dX4_expect_141 : decode cX4_expect 141 = .ok (.aload_n 1, 1) := by decide +kernel
theorem dX4_expect_142 : decode cX4_expect 142 = .ok (.getfield 120, 3) := by decide +kernel
theorem dX4_expect_145 : decode cX4_expect 145 = .ok (.getfield 64, 3) := by decide +kernel
theorem dX4_expect_148 : decode cX4_expect 148 = .ok (.imul, 1) := by decide +kernel
theorem dX4_expect_149 : decode cX4_expect 149 = .ok (.iadd, 1) := by decide +kernel
theorem dX4_expect_150 : decode cX4_expect 150 = .ok (.putfield 222, 3) := by decide +kernel
theorem dX4_expect_153 : decode cX4_expect 153 = .ok (.aload 4, 2) := by decide +kernel
theorem dX4_expect_155 : decode cX4_expect 155 = .ok (.aload 4, 2) := by decide +kernel
theorem dX4_expect_157 : decode cX4_expect 157 = .ok (.getfield 222, 3) := by decide +kernel
theorem dX4_expect_160 : decode cX4_expect 160 = .ok (.i2l, 1) := by decide +kernel
theorem dX4_expect_161 : decode cX4_expect 161 = .ok (.bipush 100, 2) := by decide +kernel
theorem dX4_expect_163 : decode cX4_expect 163 = .ok (.aload_n 0, 1) := by decide +kernel
theorem dX4_expect_164 : decode cX4_expect 164 = .ok (.getfield 33, 3) := by decide +kernel
theorem dX4_expect_167 : decode cX4_expect 167 = .ok (.iadd, 1) := by decide +kernel
theorem dX4_expect_168 : decode cX4_expect 168 = .ok (.i2l, 1) := by decide +kernel
theorem dX4_expect_169 : decode cX4_expect 169 = .ok (.lmul, 1) := by decide +kernel
theorem dX4_expect_170 : decode cX4_expect 170 = .ok (.ldc2_w 263, 3) := by decide +kernel
theorem dX4_expect_173 : decode cX4_expect 173 = .ok (.ldiv, 1) := by decide +kernel
theorem dX4_expect_174 : decode cX4_expect 174 = .ok (.l2i, 1) := by decide +kernel
theorem dX4_expect_175 : decode cX4_expect 175 = .ok (.putfield 223, 3) := by decide +kernel
theorem dX4_expect_178 : decode cX4_expect 178 = .ok (.aload 4, 2) := by decide +kernel
theorem dX4_expect_180 : decode cX4_expect 180 = .ok (.areturn, 1) := by decide +kernel
theorem dX4_changeOf_0 : decode cX4_changeOf 0 = .ok (.iconst 4, 1) := by decide +kernel
theorem dX4_changeOf_1 : decode cX4_changeOf 1 = .ok (.aload_n 0, 1) := by decide +kernel
theorem dX4_changeOf_2 : decode cX4_changeOf 2 = .ok (.getfield 172, 3) := by decide +kernel
theorem dX4_changeOf_5 : decode cX4_changeOf 5 = .ok (.iload_n 1, 1) := by decide +kernel
theorem dX4_changeOf_6 : decode cX4_changeOf 6 = .ok (.iconst (-1), 1) := by decide +kernel
theorem dX4_changeOf_7 : decode cX4_changeOf 7 = .ok (.ixor, 1) := by decide +kernel
theorem dX4_changeOf_8 : decode cX4_changeOf 8 = .ok (.iand, 1) := by decide +kernel
theorem dX4_changeOf_9 : decode cX4_changeOf 9 = .ok (.invokestatic 265, 3) := by decide +kernel
theorem dX4_changeOf_12 : decode cX4_changeOf 12 = .ok (.imul, 1) := by decide +kernel
theorem dX4_changeOf_13 : decode cX4_changeOf 13 = .ok (.ireturn, 1) := by decide +kernel
theorem dX4_towers_0 : decode cX4_towers 0 = .ok (.aload_n 0, 1) := by decide +kernel
theorem dX4_towers_1 : decode cX4_towers 1 = .ok (.iload_n 1, 1) := by decide +kernel
theorem dX4_towers_2 : decode cX4_towers 2 = .ok (.invokevirtual 206, 3) := by decide +kernel
theorem dX4_towers_5 : decode cX4_towers 5 = .ok (.astore_n 3, 1) := by decide +kernel
theorem dX4_towers_6 : decode cX4_towers 6 = .ok (.iload_n 2, 1) := by decide +kernel
theorem dX4_towers_7 : decode cX4_towers 7 = .ok (.iconst 1, 1) := by decide +kernel
theorem dX4_towers_8 : decode cX4_towers 8 = .ok (.iconst 4, 1) := by decide +kernel
theorem dX4_towers_9 : decode cX4_towers 9 = .ok (.invokestatic 51, 3) := by decide +kernel
theorem dX4_towers_12 : decode cX4_towers 12 = .ok (.ifCond .eq 14, 3) := by decide +kernel
theorem dX4_towers_15 : decode cX4_towers 15 = .ok (.new 55, 3) := by decide +kernel
theorem dX4_towers_18 : decode cX4_towers 18 = .ok (.dup, 1) := by decide +kernel
theorem dX4_towers_19 : decode cX4_towers 19 = .ok (.ldc_w 271, 3) := by decide +kernel
theorem dX4_towers_22 : decode cX4_towers 22 = .ok (.invokespecial 59, 3) := by decide +kernel
theorem dX4_towers_25 : decode cX4_towers 25 = .ok (.athrow, 1) := by decide +kernel
theorem dX4_towers_26 : decode cX4_towers 26 = .ok (.aload_n 3, 1) := by decide +kernel
theorem dX4_towers_27 : decode cX4_towers 27 = .ok (.getfield 273, 3) := by decide +kernel
theorem dX4_towers_30 : decode cX4_towers 30 = .ok (.istore 4, 2) := by decide +kernel
theorem dX4_towers_32 : decode cX4_towers 32 = .ok (.aload_n 3, 1) := by decide +kernel
theorem dX4_towers_33 : decode cX4_towers 33 = .ok (.iload_n 2, 1) := by decide +kernel
theorem dX4_towers_34 : decode cX4_towers 34 = .ok (.putfield 273, 3) := by decide +kernel
theorem dX4_towers_37 : decode cX4_towers 37 = .ok (.iload 4, 2) := by decide +kernel
theorem dX4_towers_39 : decode cX4_towers 39 = .ok (.ireturn, 1) := by decide +kernel
theorem dX4_ofPress_0 : decode cX4_ofPress 0 = .ok (.aload_n 0, 1) := by decide +kernel
theorem dX4_ofPress_1 : decode cX4_ofPress 1 = .ok (.iload_n 1, 1) := by decide +kernel
theorem dX4_ofPress_2 : decode cX4_ofPress 2 = .ok (.invokevirtual 206, 3) := by decide +kernel
theorem dX4_ofPress_5 : decode cX4_ofPress 5 = .ok (.astore_n 3, 1) := by decide +kernel
theorem dX4_ofPress_6 : decode cX4_ofPress 6 = .ok (.iload_n 2, 1) := by decide +kernel
theorem dX4_ofPress_7 : decode cX4_ofPress 7 = .ok (.tableswitch 77 0 6 #[41, 46, 51, 56, 61, 66, 71], 41) := by decide +kernel
theorem dX4_ofPress_48 : decode cX4_ofPress 48 = .ok (.aload_n 3, 1) := by decide +kernel
theorem dX4_ofPress_49 : decode cX4_ofPress 49 = .ok (.getfield 273, 3) := by decide +kernel
theorem dX4_ofPress_52 : decode cX4_ofPress 52 = .ok (.ireturn, 1) := by decide +kernel
theorem dX4_ofPress_53 : decode cX4_ofPress 53 = .ok (.aload_n 3, 1) := by decide +kernel
theorem dX4_ofPress_54 : decode cX4_ofPress 54 = .ok (.getfield 124, 3) := by decide +kernel
theorem dX4_ofPress_57 : decode cX4_ofPress 57 = .ok (.ireturn, 1) := by decide +kernel
theorem dX4_ofPress_58 : decode cX4_ofPress 58 = .ok (.aload_n 3, 1) := by decide +kernel
theorem dX4_ofPress_59 : decode cX4_ofPress 59 = .ok (.getfield 257, 3) := by decide +kernel
theorem dX4_ofPress_62 : decode cX4_ofPress 62 = .ok (.ireturn, 1) := by decide +kernel
theorem dX4_ofPress_63 : decode cX4_ofPress 63 = .ok (.aload_n 3, 1) := by decide +kernel
theorem dX4_ofPress_64 : decode cX4_ofPress 64 = .ok (.getfield 252, 3) := by decide +kernel
theorem dX4_ofPress_67 : decode cX4_ofPress 67 = .ok (.ireturn, 1) := by decide +kernel
theorem dX4_ofPress_68 : decode cX4_ofPress 68 = .ok (.aload_n 3, 1) := by decide +kernel
theorem dX4_ofPress_69 : decode cX4_ofPress 69 = .ok (.getfield 249, 3) := by decide +kernel
theorem dX4_ofPress_72 : decode cX4_ofPress 72 = .ok (.ireturn, 1) := by decide +kernel
theorem dX4_ofPress_73 : decode cX4_ofPress 73 = .ok (.aload_n 3, 1) := by decide +kernel
theorem dX4_ofPress_74 : decode cX4_ofPress 74 = .ok (.getfield 113, 3) := by decide +kernel
theorem dX4_ofPress_77 : decode cX4_ofPress 77 = .ok (.ireturn, 1) := by decide +kernel
theorem dX4_ofPress_78 : decode cX4_ofPress 78 = .ok (.aload_n 0, 1) := by decide +kernel
theorem dX4_ofPress_79 : decode cX4_ofPress 79 = .ok (.aload_n 3, 1) := by decide +kernel
theorem dX4_ofPress_80 : decode cX4_ofPress 80 = .ok (.invokevirtual 276, 3) := by decide +kernel
theorem dX4_ofPress_83 : decode cX4_ofPress 83 = .ok (.ireturn, 1) := by decide +kernel
theorem dX4_ofPress_84 : decode cX4_ofPress 84 = .ok (.new 55, 3) := by decide +kernel
theorem dX4_ofPress_87 : decode cX4_ofPress 87 = .ok (.dup, 1) := by decide +kernel
theorem dX4_ofPress_88 : decode cX4_ofPress 88 = .ok (.ldc_w 280, 3) := by decide +kernel
theorem dX4_ofPress_91 : decode cX4_ofPress 91 = .ok (.invokespecial 59, 3) := by decide +kernel
theorem dX4_ofPress_94 : decode cX4_ofPress 94 = .ok (.athrow, 1) := by decide +kernel
theorem dX4_queue_0 : decode cX4_queue 0 = .ok (.aload_n 0, 1) := by decide +kernel
theorem dX4_queue_1 : decode cX4_queue 1 = .ok (.iload_n 1, 1) := by decide +kernel
theorem dX4_queue_2 : decode cX4_queue 2 = .ok (.invokevirtual 206, 3) := by decide +kernel
theorem dX4_queue_5 : decode cX4_queue 5 = .ok (.iload_n 2, 1) := by decide +kernel
theorem dX4_queue_6 : decode cX4_queue 6 = .ok (.invokevirtual 116, 3) := by decide +kernel
theorem dX4_queue_9 : decode cX4_queue 9 = .ok (.astore_n 3, 1) := by decide +kernel
theorem dX4_queue_10 : decode cX4_queue 10 = .ok (.aload_n 3, 1) := by decide +kernel
theorem dX4_queue_11 : decode cX4_queue 11 = .ok (.ifnonnull 14, 3) := by decide +kernel
theorem dX4_queue_14 : decode cX4_queue 14 = .ok (.new 282, 3) := by decide +kernel
theorem dX4_queue_17 : decode cX4_queue 17 = .ok (.dup, 1) := by decide +kernel
theorem dX4_queue_18 : decode cX4_queue 18 = .ok (.ldc_w 284, 3) := by decide +kernel
theorem dX4_queue_21 : decode cX4_queue 21 = .ok (.invokespecial 286, 3) := by decide +kernel
theorem dX4_queue_24 : decode cX4_queue 24 = .ok (.athrow, 1) := by decide +kernel
theorem dX4_queue_25 : decode cX4_queue 25 = .ok (.aload_n 3, 1) := by decide +kernel
theorem dX4_queue_26 : decode cX4_queue 26 = .ok (.getfield 287, 3) := by decide +kernel
theorem dX4_queue_29 : decode cX4_queue 29 = .ok (.ireturn, 1) := by decide +kernel
theorem dX4_sort_0 : decode cX4_sort 0 = .ok (.aload_n 0, 1) := by decide +kernel
theorem dX4_sort_1 : decode cX4_sort 1 = .ok (.iload_n 1, 1) := by decide +kernel
theorem dX4_sort_2 : decode cX4_sort 2 = .ok (.invokevirtual 206, 3) := by decide +kernel
theorem dX4_sort_5 : decode cX4_sort 5 = .ok (.astore_n 2, 1) := by decide +kernel
theorem dX4_sort_6 : decode cX4_sort 6 = .ok (.aload_n 0, 1) := by decide +kernel
theorem dX4_sort_7 : decode cX4_sort 7 = .ok (.aload_n 2, 1) := by decide +kernel
theorem dX4_sort_8 : decode cX4_sort 8 = .ok (.invokevirtual 276, 3) := by decide +kernel
theorem dX4_sort_11 : decode cX4_sort 11 = .ok (.istore_n 3, 1) := by decide +kernel
theorem dX4_sort_12 : decode cX4_sort 12 = .ok (.aload_n 2, 1) := by decide +kernel
theorem dX4_sort_13 : decode cX4_sort 13 = .ok (.invokevirtual 290, 3) := by decide +kernel
theorem dX4_sort_16 : decode cX4_sort 16 = .ok (.iload_n 3, 1) := by decide +kernel
theorem dX4_sort_17 : decode cX4_sort 17 = .ok (.aload_n 0, 1) := by decide +kernel
theorem dX4_sort_18 : decode cX4_sort 18 = .ok (.aload_n 2, 1) := by decide +kernel
theorem dX4_sort_19 : decode cX4_sort 19 = .ok (.invokevirtual 276, 3) := by decide +kernel
theorem dX4_sort_22 : decode cX4_sort 22 = .ok (.isub, 1) := by decide +kernel
theorem dX4_sort_23 : decode cX4_sort 23 = .ok (.ireturn, 1) := by decide +kernel
theorem dX4_slip_0 : decode cX4_slip 0 = .ok (.aload_n 0, 1) := by decide +kernel
theorem dX4_slip_1 : decode cX4_slip 1 = .ok (.iload_n 1, 1) := by decide +kernel
theorem dX4_slip_2 : decode cX4_slip 2 = .ok (.invokevirtual 206, 3) := by decide +kernel
theorem dX4_slip_5 : decode cX4_slip 5 = .ok (.astore 4, 2) := by decide +kernel
theorem dX4_slip_7 : decode cX4_slip 7 = .ok (.aload 4, 2) := by decide +kernel
theorem dX4_slip_9 : decode cX4_slip 9 = .ok (.iload_n 2, 1) := by decide +kernel
theorem dX4_slip_10 : decode cX4_slip 10 = .ok (.iload_n 3, 1) := by decide +kernel
theorem dX4_slip_11 : decode cX4_slip 11 = .ok (.invokestatic 293, 3) := by decide +kernel
theorem dX4_slip_14 : decode cX4_slip 14 = .ok (.astore 5, 2) := by decide +kernel
theorem dX4_slip_16 : decode cX4_slip 16 = .ok (.aload 5, 2) := by decide +kernel
theorem dX4_slip_18 : decode cX4_slip 18 = .ok (.iload_n 3, 1) := by decide +kernel
theorem dX4_slip_19 : decode cX4_slip 19 = .ok (.invokevirtual 297, 3) := by decide +kernel
theorem dX4_slip_22 : decode cX4_slip 22 = .ok (.istore 6, 2) := by decide +kernel
theorem dX4_slip_24 : decode cX4_slip 24 = .ok (.iload_n 2, 1) := by decide +kernel
theorem dX4_slip_25 : decode cX4_slip 25 = .ok (.aload_n 0, 1) := by decide +kernel
theorem dX4_slip_26 : decode cX4_slip 26 = .ok (.getfield 29, 3) := by decide +kernel
theorem dX4_slip_29 : decode cX4_slip 29 = .ok (.imul, 1) := by decide +kernel
theorem dX4_slip_30 : decode cX4_slip 30 = .ok (.aload 5, 2) := by decide +kernel
theorem dX4_slip_32 : decode cX4_slip 32 = .ok (.getfield 300, 3) := by decide +kernel
theorem dX4_slip_35 : decode cX4_slip 35 = .ok (.ifCond .eq 7, 3) := by decide +kernel
theorem dX4_slip_38 : decode cX4_slip 38 = .ok (.iconst 0, 1) := by decide +kernel
theorem dX4_slip_39 : decode cX4_slip 39 = .ok (.goto 8, 3) := by decide +kernel
theorem dX4_slip_42 : decode cX4_slip 42 = .ok (.aload 5, 2) := by decide +kernel
theorem dX4_slip_44 : decode cX4_slip 44 = .ok (.invokevirtual 260, 3) := by decide +kernel
theorem dX4_slip_47 : decode cX4_slip 47 = .ok (.iadd, 1) := by decide +kernel
theorem dX4_slip_48 : decode cX4_slip 48 = .ok (.istore 7, 2) := by decide +kernel
theorem dX4_slip_50 : decode cX4_slip 50 = .ok (.aload 5, 2) := by decide +kernel
theorem dX4_slip_52 : decode cX4_slip 52 = .ok (.getfield 120, 3) := by decide +kernel
theorem dX4_slip_55 : decode cX4_slip 55 = .ok (.dup, 1) := by decide +kernel
theorem dX4_slip_56 : decode cX4_slip 56 = .ok (.getfield 85, 3) := by decide +kernel
theorem dX4_slip_59 : decode cX4_slip 59 = .ok (.iload 6, 2) := by decide +kernel
theorem dX4_slip_61 : decode cX4_slip 61 = .ok (.isub, 1) := by decide +kernel
theorem dX4_slip_62 : decode cX4_slip 62 = .ok (.putfield 85, 3) := by decide +kernel
theorem dX4_slip_65 : decode cX4_slip 65 = .ok (.aload 5, 2) := by decide +kernel
theorem dX4_slip_67 : decode cX4_slip 67 = .ok (.dup, 1) := by decide +kernel
theorem dX4_slip_68 : decode cX4_slip 68 = .ok (.getfield 186, 3) := by decide +kernel
theorem dX4_slip_71 : decode cX4_slip 71 = .ok (.iload 6, 2) := by decide +kernel
theorem dX4_slip_73 : decode cX4_slip 73 = .ok (.iload_n 3, 1) := by decide +kernel
theorem dX4_slip_74 : decode cX4_slip 74 = .ok (.isub, 1) := by decide +kernel
theorem dX4_slip_75 : decode cX4_slip 75 = .ok (.aload 5, 2) := by decide +kernel
theorem dX4_slip_77 : decode cX4_slip 77 = .ok (.getfield 173, 3) := by decide +kernel
theorem dX4_slip_80 : decode cX4_slip 80 = .ok (.imul, 1) := by decide +kernel
theorem dX4_slip_81 : decode cX4_slip 81 = .ok (.iadd, 1) := by decide +kernel
theorem dX4_slip_82 : decode cX4_slip 82 = .ok (.putfield 186, 3) := by decide +kernel
theorem dX4_slip_85 : decode cX4_slip 85 = .ok (.aload 5, 2) := by decide +kernel
theorem dX4_slip_87 : decode cX4_slip 87 = .ok (.dup, 1) := by decide +kernel
theorem dX4_slip_88 : decode cX4_slip 88 = .ok (.getfield 195, 3) := by decide +kernel
theorem dX4_slip_91 : decode cX4_slip 91 = .ok (.iload 7, 2) := by decide +kernel
theorem dX4_slip_93 : decode cX4_slip 93 = .ok (.iload 6, 2) := by decide +kernel
theorem dX4_slip_95 : decode cX4_slip 95 = .ok (.aload 5, 2) := by decide +kernel
theorem dX4_slip_97 : decode cX4_slip 97 = .ok (.getfield 120, 3) := by decide +kernel
theorem dX4_slip_100 : decode cX4_slip 100 = .ok (.getfield 64, 3) := by decide +kernel
theorem dX4_slip_103 : decode cX4_slip 103 = .ok (.imul, 1) := by decide +kernel
theorem dX4_slip_104 : decode cX4_slip 104 = .ok (.iadd, 1) := by decide +kernel
theorem dX4_slip_105 : decode cX4_slip 105 = .ok (.iadd, 1) := by decide +kernel
theorem dX4_slip_106 : decode cX4_slip 106 = .ok (.putfield 195, 3) := by decide +kernel
theorem dX4_slip_109 : decode cX4_slip 109 = .ok (.aload 5, 2) := by decide +kernel
theorem dX4_slip_111 : decode cX4_slip 111 = .ok (.iconst 1, 1) := by decide +kernel
theorem dX4_slip_112 : decode cX4_slip 112 = .ok (.putfield 300, 3) := by decide +kernel
theorem dX4_slip_115 : decode cX4_slip 115 = .ok (.aload 5, 2) := by decide +kernel
theorem dX4_slip_117 : decode cX4_slip 117 = .ok (.iconst 2, 1) := by decide +kernel
theorem dX4_slip_118 : decode cX4_slip 118 = .ok (.putfield 183, 3) := by decide +kernel
theorem dX4_slip_121 : decode cX4_slip 121 = .ok (.aload 4, 2) := by decide +kernel
theorem dX4_slip_123 : decode cX4_slip 123 = .ok (.iconst 0, 1) := by decide +kernel
theorem dX4_slip_124 : decode cX4_slip 124 = .ok (.invokevirtual 303, 3) := by decide +kernel
theorem dX4_slip_127 : decode cX4_slip 127 = .ok (.aload 4, 2) := by decide +kernel
theorem dX4_slip_129 : decode cX4_slip 129 = .ok (.aload 5, 2) := by decide +kernel
theorem dX4_slip_131 : decode cX4_slip 131 = .ok (.iload_n 2, 1) := by decide +kernel
theorem dX4_slip_132 : decode cX4_slip 132 = .ok (.iload_n 3, 1) := by decide +kernel
theorem dX4_slip_133 : decode cX4_slip 133 = .ok (.iload 6, 2) := by decide +kernel
theorem dX4_slip_135 : decode cX4_slip 135 = .ok (.invokevirtual 307, 3) := by decide +kernel
theorem dX4_slip_138 : decode cX4_slip 138 = .ok (.aload_n 0, 1) := by decide +kernel
theorem dX4_slip_139 : decode cX4_slip 139 = .ok (.dup, 1) := by decide +kernel
theorem dX4_slip_140 : decode cX4_slip 140 = .ok (.getfield 106, 3) := by decide +kernel
theorem dX4_slip_143 : decode cX4_slip 143 = .ok (.iload 7, 2) := by decide +kernel
theorem dX4_slip_145 : decode cX4_slip 145 = .ok (.isub, 1) := by decide +kernel
theorem dX4_slip_146 : decode cX4_slip 146 = .ok (.putfield 106, 3) := by decide +kernel
theorem dX4_slip_149 : decode cX4_slip 149 = .ok (.aload_n 0, 1) := by decide +kernel
theorem dX4_slip_150 : decode cX4_slip 150 = .ok (.dup, 1) := by decide +kernel
theorem dX4_slip_151 : decode cX4_slip 151 = .ok (.getfield 311, 3) := by decide +kernel
theorem dX4_slip_154 : decode cX4_slip 154 = .ok (.iload_n 2, 1) := by decide +kernel
theorem dX4_slip_155 : decode cX4_slip 155 = .ok (.iadd, 1) := by decide +kernel
theorem dX4_slip_156 : decode cX4_slip 156 = .ok (.putfield 311, 3) := by decide +kernel
theorem dX4_slip_159 : decode cX4_slip 159 = .ok (.aload_n 0, 1) := by decide +kernel
theorem dX4_slip_160 : decode cX4_slip 160 = .ok (.dup, 1) := by decide +kernel
theorem dX4_slip_161 : decode cX4_slip 161 = .ok (.getfield 314, 3) := by decide +kernel
theorem dX4_slip_164 : decode cX4_slip 164 = .ok (.iload_n 3, 1) := by decide +kernel
theorem dX4_slip_165 : decode cX4_slip 165 = .ok (.iadd, 1) := by decide +kernel
theorem dX4_slip_166 : decode cX4_slip 166 = .ok (.putfield 314, 3) := by decide +kernel
theorem dX4_slip_169 : decode cX4_slip 169 = .ok (.iload 6, 2) := by decide +kernel
theorem dX4_slip_171 : decode cX4_slip 171 = .ok (.iload_n 3, 1) := by decide +kernel
theorem dX4_slip_172 : decode cX4_slip 172 = .ok (.isub, 1) := by decide +kernel
theorem dX4_slip_173 : decode cX4_slip 173 = .ok (.ireturn, 1) := by decide +kernel
theorem dX4_jobOfSlip_0 : decode cX4_jobOfSlip 0 = .ok (.iload_n 1, 1) := by decide +kernel
theorem dX4_jobOfSlip_1 : decode cX4_jobOfSlip 1 = .ok (.iconst 1, 1) := by decide +kernel
theorem dX4_jobOfSlip_2 : decode cX4_jobOfSlip 2 = .ok (.sipush 9999, 3) := by decide +kernel
theorem dX4_jobOfSlip_5 : decode cX4_jobOfSlip 5 = .ok (.invokestatic 51, 3) := by decide +kernel
theorem dX4_jobOfSlip_8 : decode cX4_jobOfSlip 8 = .ok (.ifCond .eq 14, 3) := by decide +kernel
theorem dX4_jobOfSlip_11 : decode cX4_jobOfSlip 11 = .ok (.new 55, 3) := by decide +kernel
theorem dX4_jobOfSlip_14 : decode cX4_jobOfSlip 14 = .ok (.dup, 1) := by decide +kernel
theorem dX4_jobOfSlip_15 : decode cX4_jobOfSlip 15 = .ok (.ldc_w 317, 3) := by decide +kernel
theorem dX4_jobOfSlip_18 : decode cX4_jobOfSlip 18 = .ok (.invokespecial 59, 3) := by decide +kernel
theorem dX4_jobOfSlip_21 : decode cX4_jobOfSlip 21 = .ok (.athrow, 1) := by decide +kernel
theorem dX4_jobOfSlip_22 : decode cX4_jobOfSlip 22 = .ok (.iload_n 2, 1) := by decide +kernel
theorem dX4_jobOfSlip_23 : decode cX4_jobOfSlip 23 = .ok (.iconst 0, 1) := by decide +kernel
theorem dX4_jobOfSlip_24 : decode cX4_jobOfSlip 24 = .ok (.sipush 9999, 3) := by decide +kernel
theorem dX4_jobOfSlip_27 : decode cX4_jobOfSlip 27 = .ok (.invokestatic 51, 3) := by decide +kernel
theorem dX4_jobOfSlip_30 : decode cX4_jobOfSlip 30 = .ok (.ifCond .eq 14, 3) := by decide +kernel
theorem dX4_jobOfSlip_33 : decode cX4_jobOfSlip 33 = .ok (.new 55, 3) := by decide +kernel
theorem dX4_jobOfSlip_36 : decode cX4_jobOfSlip 36 = .ok (.dup, 1) := by decide +kernel
theorem dX4_jobOfSlip_37 : decode cX4_jobOfSlip 37 = .ok (.ldc_w 319, 3) := by decide +kernel
theorem dX4_jobOfSlip_40 : decode cX4_jobOfSlip 40 = .ok (.invokespecial 59, 3) := by decide +kernel
theorem dX4_jobOfSlip_43 : decode cX4_jobOfSlip 43 = .ok (.athrow, 1) := by decide +kernel
theorem dX4_jobOfSlip_44 : decode cX4_jobOfSlip 44 = .ok (.aload_n 0, 1) := by decide +kernel
theorem dX4_jobOfSlip_45 : decode cX4_jobOfSlip 45 = .ok (.iconst 0, 1) := by decide +kernel
theorem dX4_jobOfSlip_46 : decode cX4_jobOfSlip 46 = .ok (.invokevirtual 116, 3) := by decide +kernel
theorem dX4_jobOfSlip_49 : decode cX4_jobOfSlip 49 = .ok (.astore_n 3, 1) := by decide +kernel
theorem dX4_jobOfSlip_50 : decode cX4_jobOfSlip 50 = .ok (.aload_n 3, 1) := by decide +kernel
theorem dX4_jobOfSlip_51 : decode cX4_jobOfSlip 51 = .ok (.ifnonnull 14, 3) := by decide +kernel
theorem dX4_jobOfSlip_54 : decode cX4_jobOfSlip 54 = .ok (.new 151, 3) := by decide +kernel
theorem dX4_jobOfSlip_57 : decode cX4_jobOfSlip 57 = .ok (.dup, 1) := by decide +kernel
theorem dX4_jobOfSlip_58 : decode cX4_jobOfSlip 58 = .ok (.ldc_w 321, 3) := by decide +kernel
theorem dX4_jobOfSlip_61 : decode cX4_jobOfSlip 61 = .ok (.invokespecial 155, 3) := by decide +kernel
theorem dX4_jobOfSlip_64 : decode cX4_jobOfSlip 64 = .ok (.athrow, 1) := by decide +kernel
theorem dX4_jobOfSlip_65 : decode cX4_jobOfSlip 65 = .ok (.aload_n 3, 1) := by decide +kernel
theorem dX4_jobOfSlip_66 : decode cX4_jobOfSlip 66 = .ok (.getfield 120, 3) := by decide +kernel
theorem dX4_jobOfSlip_69 : decode cX4_jobOfSlip 69 = .ok (.getfield 85, 3) := by decide +kernel
theorem dX4_jobOfSlip_72 : decode cX4_jobOfSlip 72 = .ok (.iload_n 2, 1) := by decide +kernel
theorem dX4_jobOfSlip_73 : decode cX4_jobOfSlip 73 = .ok (.if_icmp .gt 14, 3) := by decide +kernel
theorem dX4_jobOfSlip_76 : decode cX4_jobOfSlip 76 = .ok (.new 151, 3) := by decide +kernel
theorem dX4_jobOfSlip_79 : decode cX4_jobOfSlip 79 = .ok (.dup, 1) := by decide +kernel
theorem dX4_jobOfSlip_80 : decode cX4_jobOfSlip 80 = .ok (.ldc_w 323, 3) := by decide +kernel
theorem dX4_jobOfSlip_83 : decode cX4_jobOfSlip 83 = .ok (.invokespecial 155, 3) := by decide +kernel
theorem dX4_jobOfSlip_86 : decode cX4_jobOfSlip 86 = .ok (.athrow, 1) := by decide +kernel
theorem dX4_jobOfSlip_87 : decode cX4_jobOfSlip 87 = .ok (.aload_n 3, 1) := by decide +kernel
theorem dX4_jobOfSlip_88 : decode cX4_jobOfSlip 88 = .ok (.areturn, 1) := by decide +kernel
theorem dX4_minutesOfQueue_0 : decode cX4_minutesOfQueue 0 = .ok (.iconst 0, 1) := by decide +kernel
theorem dX4_minutesOfQueue_1 : decode cX4_minutesOfQueue 1 = .ok (.istore_n 2, 1) := by decide +kernel
theorem dX4_minutesOfQueue_2 : decode cX4_minutesOfQueue 2 = .ok (.aload_n 1, 1) := by decide +kernel
theorem dX4_minutesOfQueue_3 : decode cX4_minutesOfQueue 3 = .ok (.getfield 124, 3) := by decide +kernel
theorem dX4_minutesOfQueue_6 : decode cX4_minutesOfQueue 6 = .ok (.istore_n 3, 1) := by decide +kernel
theorem dX4_minutesOfQueue_7 : decode cX4_minutesOfQueue 7 = .ok (.iconst 0, 1) := by decide +kernel
theorem dX4_minutesOfQueue_8 : decode cX4_minutesOfQueue 8 = .ok (.istore 4, 2) := by decide +kernel
theorem dX4_minutesOfQueue_10 : decode cX4_minutesOfQueue 10 = .ok (.iload 4, 2) := by decide +kernel
theorem dX4_minutesOfQueue_12 : decode cX4_minutesOfQueue 12 = .ok (.aload_n 1, 1) := by decide +kernel
theorem dX4_minutesOfQueue_13 : decode cX4_minutesOfQueue 13 = .ok (.getfield 113, 3) := by decide +kernel
theorem dX4_minutesOfQueue_16 : decode cX4_minutesOfQueue 16 = .ok (.if_icmp .ge 42, 3) := by decide +kernel
theorem dX4_minutesOfQueue_19 : decode cX4_minutesOfQueue 19 = .ok (.aload_n 1, 1) := by decide +kernel
theorem dX4_minutesOfQueue_20 : decode cX4_minutesOfQueue 20 = .ok (.iload 4, 2) := by decide +kernel
theorem dX4_minutesOfQueue_22 : decode cX4_minutesOfQueue 22 = .ok (.invokevirtual 116, 3) := by decide +kernel
theorem dX4_minutesOfQueue_25 : decode cX4_minutesOfQueue 25 = .ok (.astore 5, 2) := by decide +kernel
theorem dX4_minutesOfQueue_27 : decode cX4_minutesOfQueue 27 = .ok (.aload 5, 2) := by decide +kernel
theorem dX4_minutesOfQueue_29 : decode cX4_minutesOfQueue 29 = .ok (.ifnull 23, 3) := by decide +kernel
theorem dX4_minutesOfQueue_32 : decode cX4_minutesOfQueue 32 = .ok (.iload_n 2, 1) := by decide +kernel
theorem dX4_minutesOfQueue_33 : decode cX4_minutesOfQueue 33 = .ok (.aload_n 0, 1) := by decide +kernel
theorem dX4_minutesOfQueue_34 : decode cX4_minutesOfQueue 34 = .ok (.aload 5, 2) := by decide +kernel
theorem dX4_minutesOfQueue_36 : decode cX4_minutesOfQueue 36 = .ok (.aload_n 1, 1) := by decide +kernel
theorem dX4_minutesOfQueue_37 : decode cX4_minutesOfQueue 37 = .ok (.iload_n 3, 1) := by decide +kernel
theorem dX4_minutesOfQueue_38 : decode cX4_minutesOfQueue 38 = .ok (.invokevirtual 127, 3) := by decide +kernel
theorem dX4_minutesOfQueue_41 : decode cX4_minutesOfQueue 41 = .ok (.getfield 219, 3) := by decide +kernel
theorem dX4_minutesOfQueue_44 : decode cX4_minutesOfQueue 44 = .ok (.iadd, 1) := by decide +kernel
theorem dX4_minutesOfQueue_45 : decode cX4_minutesOfQueue 45 = .ok (.istore_n 2, 1) := by decide +kernel
theorem dX4_minutesOfQueue_46 : decode cX4_minutesOfQueue 46 = .ok (.aload 5, 2) := by decide +kernel
theorem dX4_minutesOfQueue_48 : decode cX4_minutesOfQueue 48 = .ok (.getfield 172, 3) := by decide +kernel
theorem dX4_minutesOfQueue_51 : decode cX4_minutesOfQueue 51 = .ok (.istore_n 3, 1) := by decide +kernel
theorem dX4_minutesOfQueue_52 : decode cX4_minutesOfQueue 52 = .ok (.iinc 4 1, 3) := by decide +kernel
theorem dX4_minutesOfQueue_55 : decode cX4_minutesOfQueue 55 = .ok (.goto (-45), 3) := by decide +kernel
theorem dX4_minutesOfQueue_58 : decode cX4_minutesOfQueue 58 = .ok (.iload_n 2, 1) := by decide +kernel
theorem dX4_minutesOfQueue_59 : decode cX4_minutesOfQueue 59 = .ok (.ireturn, 1) := by decide +kernel
theorem dX4_terms_0 : decode cX4_terms 0 = .ok (.iload_n 1, 1) := by decide +kernel
theorem dX4_terms_1 : decode cX4_terms 1 = .ok (.iconst 1, 1) := by decide +kernel
theorem dX4_terms_2 : decode cX4_terms 2 = .ok (.bipush 99, 2) := by decide +kernel
theorem dX4_terms_4 : decode cX4_terms 4 = .ok (.invokestatic 51, 3) := by decide +kernel
theorem dX4_terms_7 : decode cX4_terms 7 = .ok (.ifCond .eq 14, 3) := by decide +kernel
theorem dX4_terms_10 : decode cX4_terms 10 = .ok (.new 55, 3) := by decide +kernel
theorem dX4_terms_13 : decode cX4_terms 13 = .ok (.dup, 1) := by decide +kernel
theorem dX4_terms_14 : decode cX4_terms 14 = .ok (.ldc_w 325, 3) := by decide +kernel
theorem dX4_terms_17 : decode cX4_terms 17 = .ok (.invokespecial 59, 3) := by decide +kernel
theorem dX4_terms_20 : decode cX4_terms 20 = .ok (.athrow, 1) := by decide +kernel
theorem dX4_terms_21 : decode cX4_terms 21 = .ok (.iload_n 2, 1) := by decide +kernel
theorem dX4_terms_22 : decode cX4_terms 22 = .ok (.iconst 0, 1) := by decide +kernel
theorem dX4_terms_23 : decode cX4_terms 23 = .ok (.sipush 200, 3) := by decide +kernel
theorem dX4_terms_26 : decode cX4_terms 26 = .ok (.invokestatic 51, 3) := by decide +kernel
theorem dX4_terms_29 : decode cX4_terms 29 = .ok (.ifCond .eq 14, 3) := by decide +kernel
theorem dX4_terms_32 : decode cX4_terms 32 = .ok (.new 55, 3) := by decide +kernel
theorem dX4_terms_35 : decode cX4_terms 35 = .ok (.dup, 1) := by decide +kernel
theorem dX4_terms_36 : decode cX4_terms 36 = .ok (.ldc_w 327, 3) := by decide +kernel
theorem dX4_terms_39 : decode cX4_terms 39 = .ok (.invokespecial 59, 3) := by decide +kernel
theorem dX4_terms_42 : decode cX4_terms 42 = .ok (.athrow, 1) := by decide +kernel
theorem dX4_terms_43 : decode cX4_terms 43 = .ok (.aload_n 0, 1) := by decide +kernel
theorem dX4_terms_44 : decode cX4_terms 44 = .ok (.iload_n 1, 1) := by decide +kernel
theorem dX4_terms_45 : decode cX4_terms 45 = .ok (.putfield 29, 3) := by decide +kernel
theorem dX4_terms_48 : decode cX4_terms 48 = .ok (.aload_n 0, 1) := by decide +kernel
theorem dX4_terms_49 : decode cX4_terms 49 = .ok (.iload_n 2, 1) := by decide +kernel
theorem dX4_terms_50 : decode cX4_terms 50 = .ok (.putfield 33, 3) := by decide +kernel
theorem dX4_terms_53 : decode cX4_terms 53 = .ok (.aload_n 0, 1) := by decide +kernel
theorem dX4_terms_54 : decode cX4_terms 54 = .ok (.getfield 106, 3) := by decide +kernel
theorem dX4_terms_57 : decode cX4_terms 57 = .ok (.ireturn, 1) := by decide +kernel
theorem dX4_many_0 : decode cX4_many 0 = .ok (.iload_n 1, 1) := by decide +kernel
theorem dX4_many_1 : decode cX4_many 1 = .ok (.tableswitch 118 0 10 #[59, 64, 70, 76, 82, 88, 93, 98, 103, 108, 113], 59) := by decide +kernel
theorem dX4_many_60 : decode cX4_many 60 = .ok (.aload_n 0, 1) := by decide +kernel
theorem dX4_many_61 : decode cX4_many 61 = .ok (.getfield 148, 3) := by decide +kernel
theorem dX4_many_64 : decode cX4_many 64 = .ok (.ireturn, 1) := by decide +kernel
theorem dX4_many_65 : decode cX4_many 65 = .ok (.aload_n 0, 1) := by decide +kernel
theorem dX4_many_66 : decode cX4_many 66 = .ok (.iconst 0, 1) := by decide +kernel
theorem dX4_many_67 : decode cX4_many 67 = .ok (.invokevirtual 329, 3) := by decide +kernel
theorem dX4_many_70 : decode cX4_many 70 = .ok (.ireturn, 1) := by decide +kernel
theorem dX4_many_71 : decode cX4_many 71 = .ok (.aload_n 0, 1) := by decide +kernel
theorem dX4_many_72 : decode cX4_many 72 = .ok (.iconst 1, 1) := by decide +kernel
theorem dX4_many_73 : decode cX4_many 73 = .ok (.invokevirtual 329, 3) := by decide +kernel
theorem dX4_many_76 : decode cX4_many 76 = .ok (.ireturn, 1) := by decide +kernel
theorem dX4_many_77 : decode cX4_many 77 = .ok (.aload_n 0, 1) := by decide +kernel
theorem dX4_many_78 : decode cX4_many 78 = .ok (.iconst 2, 1) := by decide +kernel
theorem dX4_many_79 : decode cX4_many 79 = .ok (.invokevirtual 329, 3) := by decide +kernel
theorem dX4_many_82 : decode cX4_many 82 = .ok (.ireturn, 1) := by decide +kernel
theorem dX4_many_83 : decode cX4_many 83 = .ok (.aload_n 0, 1) := by decide +kernel
theorem dX4_many_84 : decode cX4_many 84 = .ok (.iconst 3, 1) := by decide +kernel
theorem dX4_many_85 : decode cX4_many 85 = .ok (.invokevirtual 329, 3) := by decide +kernel
theorem dX4_many_88 : decode cX4_many 88 = .ok (.ireturn, 1) := by decide +kernel
theorem dX4_many_89 : decode cX4_many 89 = .ok (.aload_n 0, 1) := by decide +kernel
theorem dX4_many_90 : decode cX4_many 90 = .ok (.getfield 106, 3) := by decide +kernel
theorem dX4_many_93 : decode cX4_many 93 = .ok (.ireturn, 1) := by decide +kernel
theorem dX4_many_94 : decode cX4_many 94 = .ok (.aload_n 0, 1) := by decide +kernel
theorem dX4_many_95 : decode cX4_many 95 = .ok (.invokevirtual 332, 3) := by decide +kernel
theorem dX4_many_98 : decode cX4_many 98 = .ok (.ireturn, 1) := by decide +kernel
theorem dX4_many_99 : decode cX4_many 99 = .ok (.aload_n 0, 1) := by decide +kernel
theorem dX4_many_100 : decode cX4_many 100 = .ok (.invokevirtual 335, 3) := by decide +kernel
theorem dX4_many_103 : decode cX4_many 103 = .ok (.ireturn, 1) := by decide +kernel
theorem dX4_many_104 : decode cX4_many 104 = .ok (.aload_n 0, 1) := by decide +kernel
theorem dX4_many_105 : decode cX4_many 105 = .ok (.invokevirtual 338, 3) := by decide +kernel
theorem dX4_many_108 : decode cX4_many 108 = .ok (.ireturn, 1) := by decide +kernel
theorem dX4_many_109 : decode cX4_many 109 = .ok (.aload_n 0, 1) := by decide +kernel
theorem dX4_many_110 : decode cX4_many 110 = .ok (.getfield 311, 3) := by decide +kernel
theorem dX4_many_113 : decode cX4_many 113 = .ok (.ireturn, 1) := by decide +kernel
theorem dX4_many_114 : decode cX4_many 114 = .ok (.aload_n 0, 1) := by decide +kernel
theorem dX4_many_115 : decode cX4_many 115 = .ok (.getfield 314, 3) := by decide +kernel
theorem dX4_many_118 : decode cX4_many 118 = .ok (.ireturn, 1) := by decide +kernel
theorem dX4_many_119 : decode cX4_many 119 = .ok (.new 55, 3) := by decide +kernel
theorem dX4_many_122 : decode cX4_many 122 = .ok (.dup, 1) := by decide +kernel
theorem dX4_many_123 : decode cX4_many 123 = .ok (.ldc_w 341, 3) := by decide +kernel
theorem dX4_many_126 : decode cX4_many 126 = .ok (.invokespecial 59, 3) := by decide +kernel
theorem dX4_many_129 : decode cX4_many 129 = .ok (.athrow, 1) := by decide +kernel
theorem dX4_jobsThatAre_0 : decode cX4_jobsThatAre 0 = .ok (.iconst 0, 1) := by decide +kernel
theorem dX4_jobsThatAre_1 : decode cX4_jobsThatAre 1 = .ok (.istore_n 2, 1) := by decide +kernel
theorem dX4_jobsThatAre_2 : decode cX4_jobsThatAre 2 = .ok (.iconst 0, 1) := by decide +kernel
theorem dX4_jobsThatAre_3 : decode cX4_jobsThatAre 3 = .ok (.istore_n 3, 1) := by decide +kernel
theorem dX4_jobsThatAre_4 : decode cX4_jobsThatAre 4 = .ok (.iload_n 3, 1) := by decide +kernel
theorem dX4_jobsThatAre_5 : decode cX4_jobsThatAre 5 = .ok (.aload_n 0, 1) := by decide +kernel
theorem dX4_jobsThatAre_6 : decode cX4_jobsThatAre 6 = .ok (.getfield 25, 3) := by decide +kernel
theorem dX4_jobsThatAre_9 : decode cX4_jobsThatAre 9 = .ok (.arraylength, 1) := by decide +kernel
theorem dX4_jobsThatAre_10 : decode cX4_jobsThatAre 10 = .ok (.if_icmp .ge 34, 3) := by decide +kernel
theorem dX4_jobsThatAre_13 : decode cX4_jobsThatAre 13 = .ok (.aload_n 0, 1) := by decide +kernel
theorem dX4_jobsThatAre_14 : decode cX4_jobsThatAre 14 = .ok (.getfield 25, 3) := by decide +kernel
theorem dX4_jobsThatAre_17 : decode cX4_jobsThatAre 17 = .ok (.iload_n 3, 1) := by decide +kernel
theorem dX4_jobsThatAre_18 : decode cX4_jobsThatAre 18 = .ok (.aaload, 1) := by decide +kernel
theorem dX4_jobsThatAre_19 : decode cX4_jobsThatAre 19 = .ok (.astore 4, 2) := by decide +kernel
theorem dX4_jobsThatAre_21 : decode cX4_jobsThatAre 21 = .ok (.aload 4, 2) := by decide +kernel
theorem dX4_jobsThatAre_23 : decode cX4_jobsThatAre 23 = .ok (.ifnull 15, 3) := by decide +kernel
theorem dX4_jobsThatAre_26 : decode cX4_jobsThatAre 26 = .ok (.aload 4, 2) := by decide +kernel
theorem dX4_jobsThatAre_28 : decode cX4_jobsThatAre 28 = .ok (.getfield 183, 3) := by decide +kernel
theorem dX4_jobsThatAre_31 : decode cX4_jobsThatAre 31 = .ok (.iload_n 1, 1) := by decide +kernel
theorem dX4_jobsThatAre_32 : decode cX4_jobsThatAre 32 = .ok (.if_icmp .ne 6, 3) := by decide +kernel
theorem dX4_jobsThatAre_35 : decode cX4_jobsThatAre 35 = .ok (.iinc 2 1, 3) := by decide +kernel
end
section
theorem dX4_jobsThatAre_38 : decode cX4_jobsThatAre 38 = .ok (.iinc 3 1, 3) := by decide +kernel
theorem dX4_jobsThatAre_41 : decode cX4_jobsThatAre 41 = .ok (.goto (-37), 3) := by decide +kernel
theorem dX4_jobsThatAre_44 : decode cX4_jobsThatAre 44 = .ok (.iload_n 2, 1) := by decide +kernel
theorem dX4_jobsThatAre_45 : decode cX4_jobsThatAre 45 = .ok (.ireturn, 1) := by decide +kernel
theorem dX4_moneyOfInvoices_0 : decode cX4_moneyOfInvoices 0 = .ok (.iconst 0, 1) := by decide +kernel
theorem dX4_moneyOfInvoices_1 : decode cX4_moneyOfInvoices 1 = .ok (.istore_n 1, 1) := by decide +kernel
theorem dX4_moneyOfInvoices_2 : decode cX4_moneyOfInvoices 2 = .ok (.iconst 0, 1) := by decide +kernel
theorem dX4_moneyOfInvoices_3 : decode cX4_moneyOfInvoices 3 = .ok (.istore_n 2, 1) := by decide +kernel
theorem dX4_moneyOfInvoices_4 : decode cX4_moneyOfInvoices 4 = .ok (.iload_n 2, 1) := by decide +kernel
theorem dX4_moneyOfInvoices_5 : decode cX4_moneyOfInvoices 5 = .ok (.aload_n 0, 1) := by decide +kernel
theorem dX4_moneyOfInvoices_6 : decode cX4_moneyOfInvoices 6 = .ok (.getfield 25, 3) := by decide +kernel
theorem dX4_moneyOfInvoices_9 : decode cX4_moneyOfInvoices 9 = .ok (.arraylength, 1) := by decide +kernel
theorem dX4_moneyOfInvoices_10 : decode cX4_moneyOfInvoices 10 = .ok (.if_icmp .ge 27, 3) := by decide +kernel
theorem dX4_moneyOfInvoices_13 : decode cX4_moneyOfInvoices 13 = .ok (.aload_n 0, 1) := by decide +kernel
theorem dX4_moneyOfInvoices_14 : decode cX4_moneyOfInvoices 14 = .ok (.getfield 25, 3) := by decide +kernel
theorem dX4_moneyOfInvoices_17 : decode cX4_moneyOfInvoices 17 = .ok (.iload_n 2, 1) := by decide +kernel
theorem dX4_moneyOfInvoices_18 : decode cX4_moneyOfInvoices 18 = .ok (.aaload, 1) := by decide +kernel
theorem dX4_moneyOfInvoices_19 : decode cX4_moneyOfInvoices 19 = .ok (.astore_n 3, 1) := by decide +kernel
theorem dX4_moneyOfInvoices_20 : decode cX4_moneyOfInvoices 20 = .ok (.aload_n 3, 1) := by decide +kernel
theorem dX4_moneyOfInvoices_21 : decode cX4_moneyOfInvoices 21 = .ok (.ifnull 10, 3) := by decide +kernel
theorem dX4_moneyOfInvoices_24 : decode cX4_moneyOfInvoices 24 = .ok (.iload_n 1, 1) := by decide +kernel
theorem dX4_moneyOfInvoices_25 : decode cX4_moneyOfInvoices 25 = .ok (.aload_n 3, 1) := by decide +kernel
theorem dX4_moneyOfInvoices_26 : decode cX4_moneyOfInvoices 26 = .ok (.getfield 198, 3) := by decide +kernel
theorem dX4_moneyOfInvoices_29 : decode cX4_moneyOfInvoices 29 = .ok (.iadd, 1) := by decide +kernel
theorem dX4_moneyOfInvoices_30 : decode cX4_moneyOfInvoices 30 = .ok (.istore_n 1, 1) := by decide +kernel
theorem dX4_moneyOfInvoices_31 : decode cX4_moneyOfInvoices 31 = .ok (.iinc 2 1, 3) := by decide +kernel
theorem dX4_moneyOfInvoices_34 : decode cX4_moneyOfInvoices 34 = .ok (.goto (-30), 3) := by decide +kernel
theorem dX4_moneyOfInvoices_37 : decode cX4_moneyOfInvoices 37 = .ok (.iload_n 1, 1) := by decide +kernel
theorem dX4_moneyOfInvoices_38 : decode cX4_moneyOfInvoices 38 = .ok (.ireturn, 1) := by decide +kernel
theorem dX4_costOfJobs_0 : decode cX4_costOfJobs 0 = .ok (.iconst 0, 1) := by decide +kernel
theorem dX4_costOfJobs_1 : decode cX4_costOfJobs 1 = .ok (.istore_n 1, 1) := by decide +kernel
theorem dX4_costOfJobs_2 : decode cX4_costOfJobs 2 = .ok (.iconst 0, 1) := by decide +kernel
theorem dX4_costOfJobs_3 : decode cX4_costOfJobs 3 = .ok (.istore_n 2, 1) := by decide +kernel
theorem dX4_costOfJobs_4 : decode cX4_costOfJobs 4 = .ok (.iload_n 2, 1) := by decide +kernel
theorem dX4_costOfJobs_5 : decode cX4_costOfJobs 5 = .ok (.aload_n 0, 1) := by decide +kernel
theorem dX4_costOfJobs_6 : decode cX4_costOfJobs 6 = .ok (.getfield 25, 3) := by decide +kernel
theorem dX4_costOfJobs_9 : decode cX4_costOfJobs 9 = .ok (.arraylength, 1) := by decide +kernel
theorem dX4_costOfJobs_10 : decode cX4_costOfJobs 10 = .ok (.if_icmp .ge 27, 3) := by decide +kernel
theorem dX4_costOfJobs_13 : decode cX4_costOfJobs 13 = .ok (.aload_n 0, 1) := by decide +kernel
theorem dX4_costOfJobs_14 : decode cX4_costOfJobs 14 = .ok (.getfield 25, 3) := by decide +kernel
theorem dX4_costOfJobs_17 : decode cX4_costOfJobs 17 = .ok (.iload_n 2, 1) := by decide +kernel
theorem dX4_costOfJobs_18 : decode cX4_costOfJobs 18 = .ok (.aaload, 1) := by decide +kernel
theorem dX4_costOfJobs_19 : decode cX4_costOfJobs 19 = .ok (.astore_n 3, 1) := by decide +kernel
theorem dX4_costOfJobs_20 : decode cX4_costOfJobs 20 = .ok (.aload_n 3, 1) := by decide +kernel
theorem dX4_costOfJobs_21 : decode cX4_costOfJobs 21 = .ok (.ifnull 10, 3) := by decide +kernel
theorem dX4_costOfJobs_24 : decode cX4_costOfJobs 24 = .ok (.iload_n 1, 1) := by decide +kernel
theorem dX4_costOfJobs_25 : decode cX4_costOfJobs 25 = .ok (.aload_n 3, 1) := by decide +kernel
theorem dX4_costOfJobs_26 : decode cX4_costOfJobs 26 = .ok (.getfield 195, 3) := by decide +kernel
theorem dX4_costOfJobs_29 : decode cX4_costOfJobs 29 = .ok (.iadd, 1) := by decide +kernel
theorem dX4_costOfJobs_30 : decode cX4_costOfJobs 30 = .ok (.istore_n 1, 1) := by decide +kernel
theorem dX4_costOfJobs_31 : decode cX4_costOfJobs 31 = .ok (.iinc 2 1, 3) := by decide +kernel
theorem dX4_costOfJobs_34 : decode cX4_costOfJobs 34 = .ok (.goto (-30), 3) := by decide +kernel
theorem dX4_costOfJobs_37 : decode cX4_costOfJobs 37 = .ok (.iload_n 1, 1) := by decide +kernel
theorem dX4_costOfJobs_38 : decode cX4_costOfJobs 38 = .ok (.ireturn, 1) := by decide +kernel
theorem dX4_worthOfStock_0 : decode cX4_worthOfStock 0 = .ok (.iconst 0, 1) := by decide +kernel
theorem dX4_worthOfStock_1 : decode cX4_worthOfStock 1 = .ok (.istore_n 1, 1) := by decide +kernel
theorem dX4_worthOfStock_2 : decode cX4_worthOfStock 2 = .ok (.iconst 0, 1) := by decide +kernel
theorem dX4_worthOfStock_3 : decode cX4_worthOfStock 3 = .ok (.istore_n 2, 1) := by decide +kernel
theorem dX4_worthOfStock_4 : decode cX4_worthOfStock 4 = .ok (.iload_n 2, 1) := by decide +kernel
theorem dX4_worthOfStock_5 : decode cX4_worthOfStock 5 = .ok (.aload_n 0, 1) := by decide +kernel
theorem dX4_worthOfStock_6 : decode cX4_worthOfStock 6 = .ok (.getfield 11, 3) := by decide +kernel
theorem dX4_worthOfStock_9 : decode cX4_worthOfStock 9 = .ok (.arraylength, 1) := by decide +kernel
theorem dX4_worthOfStock_10 : decode cX4_worthOfStock 10 = .ok (.if_icmp .ge 32, 3) := by decide +kernel
theorem dX4_worthOfStock_13 : decode cX4_worthOfStock 13 = .ok (.aload_n 0, 1) := by decide +kernel
theorem dX4_worthOfStock_14 : decode cX4_worthOfStock 14 = .ok (.getfield 11, 3) := by decide +kernel
theorem dX4_worthOfStock_17 : decode cX4_worthOfStock 17 = .ok (.iload_n 2, 1) := by decide +kernel
theorem dX4_worthOfStock_18 : decode cX4_worthOfStock 18 = .ok (.aaload, 1) := by decide +kernel
theorem dX4_worthOfStock_19 : decode cX4_worthOfStock 19 = .ok (.astore_n 3, 1) := by decide +kernel
theorem dX4_worthOfStock_20 : decode cX4_worthOfStock 20 = .ok (.aload_n 3, 1) := by decide +kernel
theorem dX4_worthOfStock_21 : decode cX4_worthOfStock 21 = .ok (.ifnull 15, 3) := by decide +kernel
theorem dX4_worthOfStock_24 : decode cX4_worthOfStock 24 = .ok (.iload_n 1, 1) := by decide +kernel
theorem dX4_worthOfStock_25 : decode cX4_worthOfStock 25 = .ok (.aload_n 3, 1) := by decide +kernel
theorem dX4_worthOfStock_26 : decode cX4_worthOfStock 26 = .ok (.getfield 85, 3) := by decide +kernel
theorem dX4_worthOfStock_29 : decode cX4_worthOfStock 29 = .ok (.aload_n 3, 1) := by decide +kernel
theorem dX4_worthOfStock_30 : decode cX4_worthOfStock 30 = .ok (.getfield 64, 3) := by decide +kernel
theorem dX4_worthOfStock_33 : decode cX4_worthOfStock 33 = .ok (.imul, 1) := by decide +kernel
theorem dX4_worthOfStock_34 : decode cX4_worthOfStock 34 = .ok (.iadd, 1) := by decide +kernel
theorem dX4_worthOfStock_35 : decode cX4_worthOfStock 35 = .ok (.istore_n 1, 1) := by decide +kernel
theorem dX4_worthOfStock_36 : decode cX4_worthOfStock 36 = .ok (.iinc 2 1, 3) := by decide +kernel
theorem dX4_worthOfStock_39 : decode cX4_worthOfStock 39 = .ok (.goto (-35), 3) := by decide +kernel
theorem dX4_worthOfStock_42 : decode cX4_worthOfStock 42 = .ok (.iload_n 1, 1) := by decide +kernel
theorem dX4_worthOfStock_43 : decode cX4_worthOfStock 43 = .ok (.ireturn, 1) := by decide +kernel
theorem dX4_bestPress_0 : decode cX4_bestPress 0 = .ok (.aload_n 0, 1) := by decide +kernel
theorem dX4_bestPress_1 : decode cX4_bestPress 1 = .ok (.iload_n 1, 1) := by decide +kernel
theorem dX4_bestPress_2 : decode cX4_bestPress 2 = .ok (.invokevirtual 163, 3) := by decide +kernel
theorem dX4_bestPress_5 : decode cX4_bestPress 5 = .ok (.astore_n 2, 1) := by decide +kernel
theorem dX4_bestPress_6 : decode cX4_bestPress 6 = .ok (.iconst 0, 1) := by decide +kernel
theorem dX4_bestPress_7 : decode cX4_bestPress 7 = .ok (.istore_n 3, 1) := by decide +kernel
theorem dX4_bestPress_8 : decode cX4_bestPress 8 = .ok (.ldc_w 343, 3) := by decide +kernel
theorem dX4_bestPress_11 : decode cX4_bestPress 11 = .ok (.istore 4, 2) := by decide +kernel
theorem dX4_bestPress_13 : decode cX4_bestPress 13 = .ok (.iconst 0, 1) := by decide +kernel
theorem dX4_bestPress_14 : decode cX4_bestPress 14 = .ok (.istore 5, 2) := by decide +kernel
theorem dX4_bestPress_16 : decode cX4_bestPress 16 = .ok (.iload 5, 2) := by decide +kernel
theorem dX4_bestPress_18 : decode cX4_bestPress 18 = .ok (.aload_n 0, 1) := by decide +kernel
theorem dX4_bestPress_19 : decode cX4_bestPress 19 = .ok (.getfield 18, 3) := by decide +kernel
theorem dX4_bestPress_22 : decode cX4_bestPress 22 = .ok (.arraylength, 1) := by decide +kernel
theorem dX4_bestPress_23 : decode cX4_bestPress 23 = .ok (.if_icmp .ge 54, 3) := by decide +kernel
theorem dX4_bestPress_26 : decode cX4_bestPress 26 = .ok (.aload_n 0, 1) := by decide +kernel
theorem dX4_bestPress_27 : decode cX4_bestPress 27 = .ok (.getfield 18, 3) := by decide +kernel
theorem dX4_bestPress_30 : decode cX4_bestPress 30 = .ok (.iload 5, 2) := by decide +kernel
theorem dX4_bestPress_32 : decode cX4_bestPress 32 = .ok (.aaload, 1) := by decide +kernel
theorem dX4_bestPress_33 : decode cX4_bestPress 33 = .ok (.astore 6, 2) := by decide +kernel
theorem dX4_bestPress_35 : decode cX4_bestPress 35 = .ok (.aload 6, 2) := by decide +kernel
theorem dX4_bestPress_37 : decode cX4_bestPress 37 = .ok (.ifnull 34, 3) := by decide +kernel
theorem dX4_bestPress_40 : decode cX4_bestPress 40 = .ok (.aload_n 0, 1) := by decide +kernel
theorem dX4_bestPress_41 : decode cX4_bestPress 41 = .ok (.aload_n 2, 1) := by decide +kernel
theorem dX4_bestPress_42 : decode cX4_bestPress 42 = .ok (.aload 6, 2) := by decide +kernel
theorem dX4_bestPress_44 : decode cX4_bestPress 44 = .ok (.aload 6, 2) := by decide +kernel
theorem dX4_bestPress_46 : decode cX4_bestPress 46 = .ok (.getfield 124, 3) := by decide +kernel
theorem dX4_bestPress_49 : decode cX4_bestPress 49 = .ok (.invokevirtual 127, 3) := by decide +kernel
theorem dX4_bestPress_52 : decode cX4_bestPress 52 = .ok (.getfield 222, 3) := by decide +kernel
theorem dX4_bestPress_55 : decode cX4_bestPress 55 = .ok (.istore 7, 2) := by decide +kernel
theorem dX4_bestPress_57 : decode cX4_bestPress 57 = .ok (.iload 7, 2) := by decide +kernel
theorem dX4_bestPress_59 : decode cX4_bestPress 59 = .ok (.iload 4, 2) := by decide +kernel
theorem dX4_bestPress_61 : decode cX4_bestPress 61 = .ok (.if_icmp .ge 10, 3) := by decide +kernel
theorem dX4_bestPress_64 : decode cX4_bestPress 64 = .ok (.iload 5, 2) := by decide +kernel
theorem dX4_bestPress_66 : decode cX4_bestPress 66 = .ok (.istore_n 3, 1) := by decide +kernel
theorem dX4_bestPress_67 : decode cX4_bestPress 67 = .ok (.iload 7, 2) := by decide +kernel
theorem dX4_bestPress_69 : decode cX4_bestPress 69 = .ok (.istore 4, 2) := by decide +kernel
theorem dX4_bestPress_71 : decode cX4_bestPress 71 = .ok (.iinc 5 1, 3) := by decide +kernel
theorem dX4_bestPress_74 : decode cX4_bestPress 74 = .ok (.goto (-58), 3) := by decide +kernel
theorem dX4_bestPress_77 : decode cX4_bestPress 77 = .ok (.iload_n 3, 1) := by decide +kernel
theorem dX4_bestPress_78 : decode cX4_bestPress 78 = .ok (.ireturn, 1) := by decide +kernel
theorem dX4_profit_0 : decode cX4_profit 0 = .ok (.aload_n 0, 1) := by decide +kernel
theorem dX4_profit_1 : decode cX4_profit 1 = .ok (.iload_n 1, 1) := by decide +kernel
theorem dX4_profit_2 : decode cX4_profit 2 = .ok (.invokevirtual 163, 3) := by decide +kernel
theorem dX4_profit_5 : decode cX4_profit 5 = .ok (.astore_n 2, 1) := by decide +kernel
theorem dX4_profit_6 : decode cX4_profit 6 = .ok (.aload_n 2, 1) := by decide +kernel
theorem dX4_profit_7 : decode cX4_profit 7 = .ok (.invokevirtual 238, 3) := by decide +kernel
theorem dX4_profit_10 : decode cX4_profit 10 = .ok (.aload_n 2, 1) := by decide +kernel
theorem dX4_profit_11 : decode cX4_profit 11 = .ok (.getfield 195, 3) := by decide +kernel
theorem dX4_profit_14 : decode cX4_profit 14 = .ok (.isub, 1) := by decide +kernel
theorem dX4_profit_15 : decode cX4_profit 15 = .ok (.ireturn, 1) := by decide +kernel
theorem dX4_digest_0 : decode cX4_digest 0 = .ok (.ldc2_w 348, 3) := by decide +kernel
theorem dX4_digest_3 : decode cX4_digest 3 = .ok (.lstore_n 1, 1) := by decide +kernel
theorem dX4_digest_4 : decode cX4_digest 4 = .ok (.iconst 0, 1) := by decide +kernel
theorem dX4_digest_5 : decode cX4_digest 5 = .ok (.istore_n 3, 1) := by decide +kernel
theorem dX4_digest_6 : decode cX4_digest 6 = .ok (.iload_n 3, 1) := by decide +kernel
theorem dX4_digest_7 : decode cX4_digest 7 = .ok (.bipush 10, 2) := by decide +kernel
theorem dX4_digest_9 : decode cX4_digest 9 = .ok (.if_icmp .gt 22, 3) := by decide +kernel
theorem dX4_digest_12 : decode cX4_digest 12 = .ok (.lload_n 1, 1) := by decide +kernel
theorem dX4_digest_13 : decode cX4_digest 13 = .ok (.ldc2_w 350, 3) := by decide +kernel
theorem dX4_digest_16 : decode cX4_digest 16 = .ok (.lmul, 1) := by decide +kernel
theorem dX4_digest_17 : decode cX4_digest 17 = .ok (.aload_n 0, 1) := by decide +kernel
theorem dX4_digest_18 : decode cX4_digest 18 = .ok (.iload_n 3, 1) := by decide +kernel
theorem dX4_digest_19 : decode cX4_digest 19 = .ok (.invokevirtual 352, 3) := by decide +kernel
theorem dX4_digest_22 : decode cX4_digest 22 = .ok (.i2l, 1) := by decide +kernel
theorem dX4_digest_23 : decode cX4_digest 23 = .ok (.ladd, 1) := by decide +kernel
theorem dX4_digest_24 : decode cX4_digest 24 = .ok (.lstore_n 1, 1) := by decide +kernel
theorem dX4_digest_25 : decode cX4_digest 25 = .ok (.iinc 3 1, 3) := by decide +kernel
theorem dX4_digest_28 : decode cX4_digest 28 = .ok (.goto (-22), 3) := by decide +kernel
theorem dX4_digest_31 : decode cX4_digest 31 = .ok (.iconst 0, 1) := by decide +kernel
theorem dX4_digest_32 : decode cX4_digest 32 = .ok (.istore_n 3, 1) := by decide +kernel
theorem dX4_digest_33 : decode cX4_digest 33 = .ok (.iload_n 3, 1) := by decide +kernel
theorem dX4_digest_34 : decode cX4_digest 34 = .ok (.aload_n 0, 1) := by decide +kernel
theorem dX4_digest_35 : decode cX4_digest 35 = .ok (.getfield 11, 3) := by decide +kernel
theorem dX4_digest_38 : decode cX4_digest 38 = .ok (.arraylength, 1) := by decide +kernel
theorem dX4_digest_39 : decode cX4_digest 39 = .ok (.if_icmp .ge 39, 3) := by decide +kernel
theorem dX4_digest_42 : decode cX4_digest 42 = .ok (.iconst 0, 1) := by decide +kernel
theorem dX4_digest_43 : decode cX4_digest 43 = .ok (.istore 4, 2) := by decide +kernel
theorem dX4_digest_45 : decode cX4_digest 45 = .ok (.iload 4, 2) := by decide +kernel
theorem dX4_digest_47 : decode cX4_digest 47 = .ok (.iconst 5, 1) := by decide +kernel
theorem dX4_digest_48 : decode cX4_digest 48 = .ok (.if_icmp .gt 24, 3) := by decide +kernel
theorem dX4_digest_51 : decode cX4_digest 51 = .ok (.lload_n 1, 1) := by decide +kernel
theorem dX4_digest_52 : decode cX4_digest 52 = .ok (.ldc2_w 350, 3) := by decide +kernel
theorem dX4_digest_55 : decode cX4_digest 55 = .ok (.lmul, 1) := by decide +kernel
theorem dX4_digest_56 : decode cX4_digest 56 = .ok (.aload_n 0, 1) := by decide +kernel
theorem dX4_digest_57 : decode cX4_digest 57 = .ok (.iload_n 3, 1) := by decide +kernel
theorem dX4_digest_58 : decode cX4_digest 58 = .ok (.iload 4, 2) := by decide +kernel
theorem dX4_digest_60 : decode cX4_digest 60 = .ok (.invokevirtual 355, 3) := by decide +kernel
theorem dX4_digest_63 : decode cX4_digest 63 = .ok (.i2l, 1) := by decide +kernel
theorem dX4_digest_64 : decode cX4_digest 64 = .ok (.ladd, 1) := by decide +kernel
theorem dX4_digest_65 : decode cX4_digest 65 = .ok (.lstore_n 1, 1) := by decide +kernel
theorem dX4_digest_66 : decode cX4_digest 66 = .ok (.iinc 4 1, 3) := by decide +kernel
theorem dX4_digest_69 : decode cX4_digest 69 = .ok (.goto (-24), 3) := by decide +kernel
theorem dX4_digest_72 : decode cX4_digest 72 = .ok (.iinc 3 1, 3) := by decide +kernel
theorem dX4_digest_75 : decode cX4_digest 75 = .ok (.goto (-42), 3) := by decide +kernel
theorem dX4_digest_78 : decode cX4_digest 78 = .ok (.iconst 0, 1) := by decide +kernel
theorem dX4_digest_79 : decode cX4_digest 79 = .ok (.istore_n 3, 1) := by decide +kernel
theorem dX4_digest_80 : decode cX4_digest 80 = .ok (.iload_n 3, 1) := by decide +kernel
theorem dX4_digest_81 : decode cX4_digest 81 = .ok (.aload_n 0, 1) := by decide +kernel
theorem dX4_digest_82 : decode cX4_digest 82 = .ok (.getfield 18, 3) := by decide +kernel
theorem dX4_digest_85 : decode cX4_digest 85 = .ok (.arraylength, 1) := by decide +kernel
theorem dX4_digest_86 : decode cX4_digest 86 = .ok (.if_icmp .ge 16, 3) := by decide +kernel
theorem dX4_digest_89 : decode cX4_digest 89 = .ok (.aload_n 0, 1) := by decide +kernel
theorem dX4_digest_90 : decode cX4_digest 90 = .ok (.lload_n 1, 1) := by decide +kernel
theorem dX4_digest_91 : decode cX4_digest 91 = .ok (.iload_n 3, 1) := by decide +kernel
theorem dX4_digest_92 : decode cX4_digest 92 = .ok (.invokevirtual 358, 3) := by decide +kernel
theorem dX4_digest_95 : decode cX4_digest 95 = .ok (.lstore_n 1, 1) := by decide +kernel
theorem dX4_digest_96 : decode cX4_digest 96 = .ok (.iinc 3 1, 3) := by decide +kernel
theorem dX4_digest_99 : decode cX4_digest 99 = .ok (.goto (-19), 3) := by decide +kernel
theorem dX4_digest_102 : decode cX4_digest 102 = .ok (.iconst 0, 1) := by decide +kernel
theorem dX4_digest_103 : decode cX4_digest 103 = .ok (.istore_n 3, 1) := by decide +kernel
theorem dX4_digest_104 : decode cX4_digest 104 = .ok (.iload_n 3, 1) := by decide +kernel
theorem dX4_digest_105 : decode cX4_digest 105 = .ok (.aload_n 0, 1) := by decide +kernel
theorem dX4_digest_106 : decode cX4_digest 106 = .ok (.getfield 148, 3) := by decide +kernel
theorem dX4_digest_109 : decode cX4_digest 109 = .ok (.if_icmp .ge 16, 3) := by decide +kernel
theorem dX4_digest_112 : decode cX4_digest 112 = .ok (.aload_n 0, 1) := by decide +kernel
theorem dX4_digest_113 : decode cX4_digest 113 = .ok (.lload_n 1, 1) := by decide +kernel
theorem dX4_digest_114 : decode cX4_digest 114 = .ok (.iload_n 3, 1) := by decide +kernel
theorem dX4_digest_115 : decode cX4_digest 115 = .ok (.invokevirtual 362, 3) := by decide +kernel
theorem dX4_digest_118 : decode cX4_digest 118 = .ok (.lstore_n 1, 1) := by decide +kernel
theorem dX4_digest_119 : decode cX4_digest 119 = .ok (.iinc 3 1, 3) := by decide +kernel
theorem dX4_digest_122 : decode cX4_digest 122 = .ok (.goto (-18), 3) := by decide +kernel
theorem dX4_digest_125 : decode cX4_digest 125 = .ok (.lload_n 1, 1) := by decide +kernel
theorem dX4_digest_126 : decode cX4_digest 126 = .ok (.lreturn, 1) := by decide +kernel
theorem dX4_digestWithPress_0 : decode cX4_digestWithPress 0 = .ok (.lload_n 1, 1) := by decide +kernel
theorem dX4_digestWithPress_1 : decode cX4_digestWithPress 1 = .ok (.lstore 4, 2) := by decide +kernel
theorem dX4_digestWithPress_3 : decode cX4_digestWithPress 3 = .ok (.iconst 0, 1) := by decide +kernel
theorem dX4_digestWithPress_4 : decode cX4_digestWithPress 4 = .ok (.istore 6, 2) := by decide +kernel
theorem dX4_digestWithPress_6 : decode cX4_digestWithPress 6 = .ok (.iload 6, 2) := by decide +kernel
theorem dX4_digestWithPress_8 : decode cX4_digestWithPress 8 = .ok (.bipush 6, 2) := by decide +kernel
theorem dX4_digestWithPress_10 : decode cX4_digestWithPress 10 = .ok (.if_icmp .gt 26, 3) := by decide +kernel
theorem dX4_digestWithPress_13 : decode cX4_digestWithPress 13 = .ok (.lload 4, 2) := by decide +kernel
theorem dX4_digestWithPress_15 : decode cX4_digestWithPress 15 = .ok (.ldc2_w 350, 3) := by decide +kernel
theorem dX4_digestWithPress_18 : decode cX4_digestWithPress 18 = .ok (.lmul, 1) := by decide +kernel
theorem dX4_digestWithPress_19 : decode cX4_digestWithPress 19 = .ok (.aload_n 0, 1) := by decide +kernel
theorem dX4_digestWithPress_20 : decode cX4_digestWithPress 20 = .ok (.iload_n 3, 1) := by decide +kernel
theorem dX4_digestWithPress_21 : decode cX4_digestWithPress 21 = .ok (.iload 6, 2) := by decide +kernel
theorem dX4_digestWithPress_23 : decode cX4_digestWithPress 23 = .ok (.invokevirtual 365, 3) := by decide +kernel
theorem dX4_digestWithPress_26 : decode cX4_digestWithPress 26 = .ok (.i2l, 1) := by decide +kernel
theorem dX4_digestWithPress_27 : decode cX4_digestWithPress 27 = .ok (.ladd, 1) := by decide +kernel
theorem dX4_digestWithPress_28 : decode cX4_digestWithPress 28 = .ok (.lstore 4, 2) := by decide +kernel
theorem dX4_digestWithPress_30 : decode cX4_digestWithPress 30 = .ok (.iinc 6 1, 3) := by decide +kernel
theorem dX4_digestWithPress_33 : decode cX4_digestWithPress 33 = .ok (.goto (-27), 3) := by decide +kernel
theorem dX4_digestWithPress_36 : decode cX4_digestWithPress 36 = .ok (.aload_n 0, 1) := by decide +kernel
theorem dX4_digestWithPress_37 : decode cX4_digestWithPress 37 = .ok (.iload_n 3, 1) := by decide +kernel
theorem dX4_digestWithPress_38 : decode cX4_digestWithPress 38 = .ok (.invokevirtual 206, 3) := by decide +kernel
theorem dX4_digestWithPress_41 : decode cX4_digestWithPress 41 = .ok (.getfield 113, 3) := by decide +kernel
theorem dX4_digestWithPress_44 : decode cX4_digestWithPress 44 = .ok (.istore 6, 2) := by decide +kernel
theorem dX4_digestWithPress_46 : decode cX4_digestWithPress 46 = .ok (.iconst 0, 1) := by decide +kernel
theorem dX4_digestWithPress_47 : decode cX4_digestWithPress 47 = .ok (.istore 7, 2) := by decide +kernel
theorem dX4_digestWithPress_49 : decode cX4_digestWithPress 49 = .ok (.iload 7, 2) := by decide +kernel
theorem dX4_digestWithPress_51 : decode cX4_digestWithPress 51 = .ok (.iload 6, 2) := by decide +kernel
theorem dX4_digestWithPress_53 : decode cX4_digestWithPress 53 = .ok (.if_icmp .ge 26, 3) := by decide +kernel
theorem dX4_digestWithPress_56 : decode cX4_digestWithPress 56 = .ok (.lload 4, 2) := by decide +kernel
theorem dX4_digestWithPress_58 : decode cX4_digestWithPress 58 = .ok (.ldc2_w 350, 3) := by decide +kernel
theorem dX4_digestWithPress_61 : decode cX4_digestWithPress 61 = .ok (.lmul, 1) := by decide +kernel
theorem dX4_digestWithPress_62 : decode cX4_digestWithPress 62 = .ok (.aload_n 0, 1) := by decide +kernel
theorem dX4_digestWithPress_63 : decode cX4_digestWithPress 63 = .ok (.iload_n 3, 1) := by decide +kernel
theorem dX4_digestWithPress_64 : decode cX4_digestWithPress 64 = .ok (.iload 7, 2) := by decide +kernel
theorem dX4_digestWithPress_66 : decode cX4_digestWithPress 66 = .ok (.invokevirtual 368, 3) := by decide +kernel
theorem dX4_digestWithPress_69 : decode cX4_digestWithPress 69 = .ok (.i2l, 1) := by decide +kernel
theorem dX4_digestWithPress_70 : decode cX4_digestWithPress 70 = .ok (.ladd, 1) := by decide +kernel
theorem dX4_digestWithPress_71 : decode cX4_digestWithPress 71 = .ok (.lstore 4, 2) := by decide +kernel
theorem dX4_digestWithPress_73 : decode cX4_digestWithPress 73 = .ok (.iinc 7 1, 3) := by decide +kernel
theorem dX4_digestWithPress_76 : decode cX4_digestWithPress 76 = .ok (.goto (-27), 3) := by decide +kernel
theorem dX4_digestWithPress_79 : decode cX4_digestWithPress 79 = .ok (.lload 4, 2) := by decide +kernel
theorem dX4_digestWithPress_81 : decode cX4_digestWithPress 81 = .ok (.lreturn, 1) := by decide +kernel
theorem dX4_digestWithJob_0 : decode cX4_digestWithJob 0 = .ok (.lload_n 1, 1) := by decide +kernel
theorem dX4_digestWithJob_1 : decode cX4_digestWithJob 1 = .ok (.lstore 4, 2) := by decide +kernel
theorem dX4_digestWithJob_3 : decode cX4_digestWithJob 3 = .ok (.iconst 0, 1) := by decide +kernel
theorem dX4_digestWithJob_4 : decode cX4_digestWithJob 4 = .ok (.istore 6, 2) := by decide +kernel
theorem dX4_digestWithJob_6 : decode cX4_digestWithJob 6 = .ok (.iload 6, 2) := by decide +kernel
theorem dX4_digestWithJob_8 : decode cX4_digestWithJob 8 = .ok (.bipush 12, 2) := by decide +kernel
theorem dX4_digestWithJob_10 : decode cX4_digestWithJob 10 = .ok (.if_icmp .gt 26, 3) := by decide +kernel
theorem dX4_digestWithJob_13 : decode cX4_digestWithJob 13 = .ok (.lload 4, 2) := by decide +kernel
theorem dX4_digestWithJob_15 : decode cX4_digestWithJob 15 = .ok (.ldc2_w 350, 3) := by decide +kernel
theorem dX4_digestWithJob_18 : decode cX4_digestWithJob 18 = .ok (.lmul, 1) := by decide +kernel
theorem dX4_digestWithJob_19 : decode cX4_digestWithJob 19 = .ok (.aload_n 0, 1) := by decide +kernel
theorem dX4_digestWithJob_20 : decode cX4_digestWithJob 20 = .ok (.iload_n 3, 1) := by decide +kernel
theorem dX4_digestWithJob_21 : decode cX4_digestWithJob 21 = .ok (.iload 6, 2) := by decide +kernel
theorem dX4_digestWithJob_23 : decode cX4_digestWithJob 23 = .ok (.invokevirtual 371, 3) := by decide +kernel
theorem dX4_digestWithJob_26 : decode cX4_digestWithJob 26 = .ok (.i2l, 1) := by decide +kernel
theorem dX4_digestWithJob_27 : decode cX4_digestWithJob 27 = .ok (.ladd, 1) := by decide +kernel
theorem dX4_digestWithJob_28 : decode cX4_digestWithJob 28 = .ok (.lstore 4, 2) := by decide +kernel
theorem dX4_digestWithJob_30 : decode cX4_digestWithJob 30 = .ok (.iinc 6 1, 3) := by decide +kernel
theorem dX4_digestWithJob_33 : decode cX4_digestWithJob 33 = .ok (.goto (-27), 3) := by decide +kernel
theorem dX4_digestWithJob_36 : decode cX4_digestWithJob 36 = .ok (.iconst 0, 1) := by decide +kernel
theorem dX4_digestWithJob_37 : decode cX4_digestWithJob 37 = .ok (.istore 6, 2) := by decide +kernel
theorem dX4_digestWithJob_39 : decode cX4_digestWithJob 39 = .ok (.iload 6, 2) := by decide +kernel
theorem dX4_digestWithJob_41 : decode cX4_digestWithJob 41 = .ok (.iconst 1, 1) := by decide +kernel
theorem dX4_digestWithJob_42 : decode cX4_digestWithJob 42 = .ok (.if_icmp .gt 44, 3) := by decide +kernel
theorem dX4_digestWithJob_45 : decode cX4_digestWithJob 45 = .ok (.iconst 3, 1) := by decide +kernel
theorem dX4_digestWithJob_46 : decode cX4_digestWithJob 46 = .ok (.istore 7, 2) := by decide +kernel
theorem dX4_digestWithJob_48 : decode cX4_digestWithJob 48 = .ok (.iload 7, 2) := by decide +kernel
theorem dX4_digestWithJob_50 : decode cX4_digestWithJob 50 = .ok (.bipush 6, 2) := by decide +kernel
theorem dX4_digestWithJob_52 : decode cX4_digestWithJob 52 = .ok (.if_icmp .gt 28, 3) := by decide +kernel
theorem dX4_digestWithJob_55 : decode cX4_digestWithJob 55 = .ok (.lload 4, 2) := by decide +kernel
theorem dX4_digestWithJob_57 : decode cX4_digestWithJob 57 = .ok (.ldc2_w 350, 3) := by decide +kernel
theorem dX4_digestWithJob_60 : decode cX4_digestWithJob 60 = .ok (.lmul, 1) := by decide +kernel
theorem dX4_digestWithJob_61 : decode cX4_digestWithJob 61 = .ok (.aload_n 0, 1) := by decide +kernel
theorem dX4_digestWithJob_62 : decode cX4_digestWithJob 62 = .ok (.iload_n 3, 1) := by decide +kernel
theorem dX4_digestWithJob_63 : decode cX4_digestWithJob 63 = .ok (.iload 6, 2) := by decide +kernel
theorem dX4_digestWithJob_65 : decode cX4_digestWithJob 65 = .ok (.iload 7, 2) := by decide +kernel
theorem dX4_digestWithJob_67 : decode cX4_digestWithJob 67 = .ok (.invokevirtual 374, 3) := by decide +kernel
theorem dX4_digestWithJob_70 : decode cX4_digestWithJob 70 = .ok (.i2l, 1) := by decide +kernel
theorem dX4_digestWithJob_71 : decode cX4_digestWithJob 71 = .ok (.ladd, 1) := by decide +kernel
theorem dX4_digestWithJob_72 : decode cX4_digestWithJob 72 = .ok (.lstore 4, 2) := by decide +kernel
theorem dX4_digestWithJob_74 : decode cX4_digestWithJob 74 = .ok (.iinc 7 1, 3) := by decide +kernel
theorem dX4_digestWithJob_77 : decode cX4_digestWithJob 77 = .ok (.goto (-29), 3) := by decide +kernel
theorem dX4_digestWithJob_80 : decode cX4_digestWithJob 80 = .ok (.iinc 6 1, 3) := by decide +kernel
theorem dX4_digestWithJob_83 : decode cX4_digestWithJob 83 = .ok (.goto (-44), 3) := by decide +kernel
theorem dX4_digestWithJob_86 : decode cX4_digestWithJob 86 = .ok (.lload 4, 2) := by decide +kernel
theorem dX4_digestWithJob_88 : decode cX4_digestWithJob 88 = .ok (.ldc2_w 350, 3) := by decide +kernel
theorem dX4_digestWithJob_91 : decode cX4_digestWithJob 91 = .ok (.lmul, 1) := by decide +kernel
theorem dX4_digestWithJob_92 : decode cX4_digestWithJob 92 = .ok (.aload_n 0, 1) := by decide +kernel
theorem dX4_digestWithJob_93 : decode cX4_digestWithJob 93 = .ok (.iload_n 3, 1) := by decide +kernel
theorem dX4_digestWithJob_94 : decode cX4_digestWithJob 94 = .ok (.invokevirtual 378, 3) := by decide +kernel
theorem dX4_digestWithJob_97 : decode cX4_digestWithJob 97 = .ok (.i2l, 1) := by decide +kernel
theorem dX4_digestWithJob_98 : decode cX4_digestWithJob 98 = .ok (.ladd, 1) := by decide +kernel
theorem dX4_digestWithJob_99 : decode cX4_digestWithJob 99 = .ok (.lstore 4, 2) := by decide +kernel
theorem dX4_digestWithJob_101 : decode cX4_digestWithJob 101 = .ok (.lload 4, 2) := by decide +kernel
theorem dX4_digestWithJob_103 : decode cX4_digestWithJob 103 = .ok (.ldc2_w 350, 3) := by decide +kernel
theorem dX4_digestWithJob_106 : decode cX4_digestWithJob 106 = .ok (.lmul, 1) := by decide +kernel
theorem dX4_digestWithJob_107 : decode cX4_digestWithJob 107 = .ok (.aload_n 0, 1) := by decide +kernel
theorem dX4_digestWithJob_108 : decode cX4_digestWithJob 108 = .ok (.iload_n 3, 1) := by decide +kernel
theorem dX4_digestWithJob_109 : decode cX4_digestWithJob 109 = .ok (.invokevirtual 381, 3) := by decide +kernel
theorem dX4_digestWithJob_112 : decode cX4_digestWithJob 112 = .ok (.i2l, 1) := by decide +kernel
theorem dX4_digestWithJob_113 : decode cX4_digestWithJob 113 = .ok (.ladd, 1) := by decide +kernel
theorem dX4_digestWithJob_114 : decode cX4_digestWithJob 114 = .ok (.lreturn, 1) := by decide +kernel
theorem dX4_paperOf_0 : decode cX4_paperOf 0 = .ok (.iload_n 1, 1) := by decide +kernel
theorem dX4_paperOf_1 : decode cX4_paperOf 1 = .ok (.ifCond .lt 12, 3) := by decide +kernel
theorem dX4_paperOf_4 : decode cX4_paperOf 4 = .ok (.iload_n 1, 1) := by decide +kernel
theorem dX4_paperOf_5 : decode cX4_paperOf 5 = .ok (.aload_n 0, 1) := by decide +kernel
theorem dX4_paperOf_6 : decode cX4_paperOf 6 = .ok (.getfield 11, 3) := by decide +kernel
theorem dX4_paperOf_9 : decode cX4_paperOf 9 = .ok (.arraylength, 1) := by decide +kernel
theorem dX4_paperOf_10 : decode cX4_paperOf 10 = .ok (.if_icmp .lt 7, 3) := by decide +kernel
theorem dX4_paperOf_13 : decode cX4_paperOf 13 = .ok (.aconst_null, 1) := by decide +kernel
theorem dX4_paperOf_14 : decode cX4_paperOf 14 = .ok (.goto 9, 3) := by decide +kernel
theorem dX4_paperOf_17 : decode cX4_paperOf 17 = .ok (.aload_n 0, 1) := by decide +kernel
theorem dX4_paperOf_18 : decode cX4_paperOf 18 = .ok (.getfield 11, 3) := by decide +kernel
theorem dX4_paperOf_21 : decode cX4_paperOf 21 = .ok (.iload_n 1, 1) := by decide +kernel
theorem dX4_paperOf_22 : decode cX4_paperOf 22 = .ok (.aaload, 1) := by decide +kernel
theorem dX4_paperOf_23 : decode cX4_paperOf 23 = .ok (.astore_n 2, 1) := by decide +kernel
theorem dX4_paperOf_24 : decode cX4_paperOf 24 = .ok (.aload_n 2, 1) := by decide +kernel
theorem dX4_paperOf_25 : decode cX4_paperOf 25 = .ok (.ifnonnull 14, 3) := by decide +kernel
theorem dX4_paperOf_28 : decode cX4_paperOf 28 = .ok (.new 282, 3) := by decide +kernel
theorem dX4_paperOf_31 : decode cX4_paperOf 31 = .ok (.dup, 1) := by decide +kernel
theorem dX4_paperOf_32 : decode cX4_paperOf 32 = .ok (.ldc_w 384, 3) := by decide +kernel
theorem dX4_paperOf_35 : decode cX4_paperOf 35 = .ok (.invokespecial 286, 3) := by decide +kernel
theorem dX4_paperOf_38 : decode cX4_paperOf 38 = .ok (.athrow, 1) := by decide +kernel
theorem dX4_paperOf_39 : decode cX4_paperOf 39 = .ok (.aload_n 2, 1) := by decide +kernel
theorem dX4_paperOf_40 : decode cX4_paperOf 40 = .ok (.areturn, 1) := by decide +kernel
theorem dX4_jobOf_0 : decode cX4_jobOf 0 = .ok (.iload_n 1, 1) := by decide +kernel
theorem dX4_jobOf_1 : decode cX4_jobOf 1 = .ok (.ifCond .lt 12, 3) := by decide +kernel
theorem dX4_jobOf_4 : decode cX4_jobOf 4 = .ok (.iload_n 1, 1) := by decide +kernel
theorem dX4_jobOf_5 : decode cX4_jobOf 5 = .ok (.aload_n 0, 1) := by decide +kernel
theorem dX4_jobOf_6 : decode cX4_jobOf 6 = .ok (.getfield 25, 3) := by decide +kernel
theorem dX4_jobOf_9 : decode cX4_jobOf 9 = .ok (.arraylength, 1) := by decide +kernel
theorem dX4_jobOf_10 : decode cX4_jobOf 10 = .ok (.if_icmp .lt 7, 3) := by decide +kernel
theorem dX4_jobOf_13 : decode cX4_jobOf 13 = .ok (.aconst_null, 1) := by decide +kernel
theorem dX4_jobOf_14 : decode cX4_jobOf 14 = .ok (.goto 9, 3) := by decide +kernel
theorem dX4_jobOf_17 : decode cX4_jobOf 17 = .ok (.aload_n 0, 1) := by decide +kernel
theorem dX4_jobOf_18 : decode cX4_jobOf 18 = .ok (.getfield 25, 3) := by decide +kernel
theorem dX4_jobOf_21 : decode cX4_jobOf 21 = .ok (.iload_n 1, 1) := by decide +kernel
theorem dX4_jobOf_22 : decode cX4_jobOf 22 = .ok (.aaload, 1) := by decide +kernel
theorem dX4_jobOf_23 : decode cX4_jobOf 23 = .ok (.astore_n 2, 1) := by decide +kernel
theorem dX4_jobOf_24 : decode cX4_jobOf 24 = .ok (.aload_n 2, 1) := by decide +kernel
theorem dX4_jobOf_25 : decode cX4_jobOf 25 = .ok (.ifnonnull 14, 3) := by decide +kernel
theorem dX4_jobOf_28 : decode cX4_jobOf 28 = .ok (.new 282, 3) := by decide +kernel
theorem dX4_jobOf_31 : decode cX4_jobOf 31 = .ok (.dup, 1) := by decide +kernel
theorem dX4_jobOf_32 : decode cX4_jobOf 32 = .ok (.ldc_w 386, 3) := by decide +kernel
theorem dX4_jobOf_35 : decode cX4_jobOf 35 = .ok (.invokespecial 286, 3) := by decide +kernel
theorem dX4_jobOf_38 : decode cX4_jobOf 38 = .ok (.athrow, 1) := by decide +kernel
theorem dX4_jobOf_39 : decode cX4_jobOf 39 = .ok (.aload_n 2, 1) := by decide +kernel
theorem dX4_jobOf_40 : decode cX4_jobOf 40 = .ok (.areturn, 1) := by decide +kernel
theorem dX4_pressOf_0 : decode cX4_pressOf 0 = .ok (.iload_n 1, 1) := by decide +kernel
theorem dX4_pressOf_1 : decode cX4_pressOf 1 = .ok (.ifCond .lt 12, 3) := by decide +kernel
theorem dX4_pressOf_4 : decode cX4_pressOf 4 = .ok (.iload_n 1, 1) := by decide +kernel
theorem dX4_pressOf_5 : decode cX4_pressOf 5 = .ok (.aload_n 0, 1) := by decide +kernel
theorem dX4_pressOf_6 : decode cX4_pressOf 6 = .ok (.getfield 18, 3) := by decide +kernel
theorem dX4_pressOf_9 : decode cX4_pressOf 9 = .ok (.arraylength, 1) := by decide +kernel
theorem dX4_pressOf_10 : decode cX4_pressOf 10 = .ok (.if_icmp .lt 7, 3) := by decide +kernel
theorem dX4_pressOf_13 : decode cX4_pressOf 13 = .ok (.aconst_null, 1) := by decide +kernel
theorem dX4_pressOf_14 : decode cX4_pressOf 14 = .ok (.goto 9, 3) := by decide +kernel
theorem dX4_pressOf_17 : decode cX4_pressOf 17 = .ok (.aload_n 0, 1) := by decide +kernel
theorem dX4_pressOf_18 : decode cX4_pressOf 18 = .ok (.getfield 18, 3) := by decide +kernel
theorem dX4_pressOf_21 : decode cX4_pressOf 21 = .ok (.iload_n 1, 1) := by decide +kernel
theorem dX4_pressOf_22 : decode cX4_pressOf 22 = .ok (.aaload, 1) := by decide +kernel
theorem dX4_pressOf_23 : decode cX4_pressOf 23 = .ok (.astore_n 2, 1) := by decide +kernel
theorem dX4_pressOf_24 : decode cX4_pressOf 24 = .ok (.aload_n 2, 1) := by decide +kernel
theorem dX4_pressOf_25 : decode cX4_pressOf 25 = .ok (.ifnonnull 14, 3) := by decide +kernel
theorem dX4_pressOf_28 : decode cX4_pressOf 28 = .ok (.new 282, 3) := by decide +kernel
theorem dX4_pressOf_31 : decode cX4_pressOf 31 = .ok (.dup, 1) := by decide +kernel
theorem dX4_pressOf_32 : decode cX4_pressOf 32 = .ok (.ldc_w 388, 3) := by decide +kernel
theorem dX4_pressOf_35 : decode cX4_pressOf 35 = .ok (.invokespecial 286, 3) := by decide +kernel
theorem dX4_pressOf_38 : decode cX4_pressOf 38 = .ok (.athrow, 1) := by decide +kernel
theorem dX4_pressOf_39 : decode cX4_pressOf 39 = .ok (.aload_n 2, 1) := by decide +kernel
theorem dX4_pressOf_40 : decode cX4_pressOf 40 = .ok (.areturn, 1) := by decide +kernel
theorem dX4_isOutside_0 : decode cX4_isOutside 0 = .ok (.iload_n 0, 1) := by decide +kernel
theorem dX4_isOutside_1 : decode cX4_isOutside 1 = .ok (.iload_n 1, 1) := by decide +kernel
theorem dX4_isOutside_2 : decode cX4_isOutside 2 = .ok (.if_icmp .lt 8, 3) := by decide +kernel
theorem dX4_isOutside_5 : decode cX4_isOutside 5 = .ok (.iload_n 0, 1) := by decide +kernel
theorem dX4_isOutside_6 : decode cX4_isOutside 6 = .ok (.iload_n 2, 1) := by decide +kernel
theorem dX4_isOutside_7 : decode cX4_isOutside 7 = .ok (.if_icmp .le 7, 3) := by decide +kernel
theorem dX4_isOutside_10 : decode cX4_isOutside 10 = .ok (.iconst 1, 1) := by decide +kernel
theorem dX4_isOutside_11 : decode cX4_isOutside 11 = .ok (.goto 4, 3) := by decide +kernel
theorem dX4_isOutside_14 : decode cX4_isOutside 14 = .ok (.iconst 0, 1) := by decide +kernel
theorem dX4_isOutside_15 : decode cX4_isOutside 15 = .ok (.ireturn, 1) := by decide +kernel
theorem dX4_divide_0 : decode cX4_divide 0 = .ok (.iload_n 1, 1) := by decide +kernel
theorem dX4_divide_1 : decode cX4_divide 1 = .ok (.ifCond .ne 7, 3) := by decide +kernel
theorem dX4_divide_4 : decode cX4_divide 4 = .ok (.iconst 0, 1) := by decide +kernel
theorem dX4_divide_5 : decode cX4_divide 5 = .ok (.goto 6, 3) := by decide +kernel
theorem dX4_divide_8 : decode cX4_divide 8 = .ok (.iload_n 0, 1) := by decide +kernel
theorem dX4_divide_9 : decode cX4_divide 9 = .ok (.iload_n 1, 1) := by decide +kernel
theorem dX4_divide_10 : decode cX4_divide 10 = .ok (.idiv, 1) := by decide +kernel
theorem dX4_divide_11 : decode cX4_divide 11 = .ok (.ireturn, 1) := by decide +kernel
theorem dX4_divideUp_0 : decode cX4_divideUp 0 = .ok (.iload_n 1, 1) := by decide +kernel
theorem dX4_divideUp_1 : decode cX4_divideUp 1 = .ok (.ifCond .ne 7, 3) := by decide +kernel
theorem dX4_divideUp_4 : decode cX4_divideUp 4 = .ok (.iconst 0, 1) := by decide +kernel
theorem dX4_divideUp_5 : decode cX4_divideUp 5 = .ok (.goto 10, 3) := by decide +kernel
theorem dX4_divideUp_8 : decode cX4_divideUp 8 = .ok (.iload_n 0, 1) := by decide +kernel
theorem dX4_divideUp_9 : decode cX4_divideUp 9 = .ok (.iload_n 1, 1) := by decide +kernel
theorem dX4_divideUp_10 : decode cX4_divideUp 10 = .ok (.iadd, 1) := by decide +kernel
theorem dX4_divideUp_11 : decode cX4_divideUp 11 = .ok (.iconst 1, 1) := by decide +kernel
theorem dX4_divideUp_12 : decode cX4_divideUp 12 = .ok (.isub, 1) := by decide +kernel
theorem dX4_divideUp_13 : decode cX4_divideUp 13 = .ok (.iload_n 1, 1) := by decide +kernel
theorem dX4_divideUp_14 : decode cX4_divideUp 14 = .ok (.idiv, 1) := by decide +kernel
theorem dX4_divideUp_15 : decode cX4_divideUp 15 = .ok (.ireturn, 1) := by decide +kernel
theorem dJ6_bitCount_0f7a4_0 : decode cJ6_bitCount_0f7a4 0 = .ok (.iload_n 0, 1) := by decide +kernel
theorem dJ6_bitCount_0f7a4_1 : decode cJ6_bitCount_0f7a4 1 = .ok (.iload_n 0, 1) := by decide +kernel
theorem dJ6_bitCount_0f7a4_2 : decode cJ6_bitCount_0f7a4 2 = .ok (.iconst 1, 1) := by decide +kernel
theorem dJ6_bitCount_0f7a4_3 : decode cJ6_bitCount_0f7a4 3 = .ok (.iushr, 1) := by decide +kernel
theorem dJ6_bitCount_0f7a4_4 : decode cJ6_bitCount_0f7a4 4 = .ok (.ldc_w 265, 3) := by decide +kernel
theorem dJ6_bitCount_0f7a4_7 : decode cJ6_bitCount_0f7a4 7 = .ok (.iand, 1) := by decide +kernel
theorem dJ6_bitCount_0f7a4_8 : decode cJ6_bitCount_0f7a4 8 = .ok (.isub, 1) := by decide +kernel
theorem dJ6_bitCount_0f7a4_9 : decode cJ6_bitCount_0f7a4 9 = .ok (.istore_n 0, 1) := by decide +kernel
theorem dJ6_bitCount_0f7a4_10 : decode cJ6_bitCount_0f7a4 10 = .ok (.iload_n 0, 1) := by decide +kernel
theorem dJ6_bitCount_0f7a4_11 : decode cJ6_bitCount_0f7a4 11 = .ok (.ldc_w 266, 3) := by decide +kernel
theorem dJ6_bitCount_0f7a4_14 : decode cJ6_bitCount_0f7a4 14 = .ok (.iand, 1) := by decide +kernel
theorem dJ6_bitCount_0f7a4_15 : decode cJ6_bitCount_0f7a4 15 = .ok (.iload_n 0, 1) := by decide +kernel
theorem dJ6_bitCount_0f7a4_16 : decode cJ6_bitCount_0f7a4 16 = .ok (.iconst 2, 1) := by decide +kernel
theorem dJ6_bitCount_0f7a4_17 : decode cJ6_bitCount_0f7a4 17 = .ok (.iushr, 1) := by decide +kernel
theorem dJ6_bitCount_0f7a4_18 : decode cJ6_bitCount_0f7a4 18 = .ok (.ldc_w 266, 3) := by decide +kernel
theorem dJ6_bitCount_0f7a4_21 : decode cJ6_bitCount_0f7a4 21 = .ok (.iand, 1) := by decide +kernel
theorem dJ6_bitCount_0f7a4_22 : decode cJ6_bitCount_0f7a4 22 = .ok (.iadd, 1) := by decide +kernel
theorem dJ6_bitCount_0f7a4_23 : decode cJ6_bitCount_0f7a4 23 = .ok (.istore_n 0, 1) := by decide +kernel
theorem dJ6_bitCount_0f7a4_24 : decode cJ6_bitCount_0f7a4 24 = .ok (.iload_n 0, 1) := by decide +kernel
theorem dJ6_bitCount_0f7a4_25 : decode cJ6_bitCount_0f7a4 25 = .ok (.iload_n 0, 1) := by decide +kernel
theorem dJ6_bitCount_0f7a4_26 : decode cJ6_bitCount_0f7a4 26 = .ok (.iconst 4, 1) := by decide +kernel
theorem dJ6_bitCount_0f7a4_27 : decode cJ6_bitCount_0f7a4 27 = .ok (.iushr, 1) := by decide +kernel
theorem dJ6_bitCount_0f7a4_28 : decode cJ6_bitCount_0f7a4 28 = .ok (.iadd, 1) := by decide +kernel
theorem dJ6_bitCount_0f7a4_29 : decode cJ6_bitCount_0f7a4 29 = .ok (.ldc_w 267, 3) := by decide +kernel
theorem dJ6_bitCount_0f7a4_32 : decode cJ6_bitCount_0f7a4 32 = .ok (.iand, 1) := by decide +kernel
theorem dJ6_bitCount_0f7a4_33 : decode cJ6_bitCount_0f7a4 33 = .ok (.istore_n 0, 1) := by decide +kernel
theorem dJ6_bitCount_0f7a4_34 : decode cJ6_bitCount_0f7a4 34 = .ok (.iload_n 0, 1) := by decide +kernel
theorem dJ6_bitCount_0f7a4_35 : decode cJ6_bitCount_0f7a4 35 = .ok (.iload_n 0, 1) := by decide +kernel
theorem dJ6_bitCount_0f7a4_36 : decode cJ6_bitCount_0f7a4 36 = .ok (.bipush 8, 2) := by decide +kernel
theorem dJ6_bitCount_0f7a4_38 : decode cJ6_bitCount_0f7a4 38 = .ok (.iushr, 1) := by decide +kernel
theorem dJ6_bitCount_0f7a4_39 : decode cJ6_bitCount_0f7a4 39 = .ok (.iadd, 1) := by decide +kernel
theorem dJ6_bitCount_0f7a4_40 : decode cJ6_bitCount_0f7a4 40 = .ok (.istore_n 0, 1) := by decide +kernel
theorem dJ6_bitCount_0f7a4_41 : decode cJ6_bitCount_0f7a4 41 = .ok (.iload_n 0, 1) := by decide +kernel
theorem dJ6_bitCount_0f7a4_42 : decode cJ6_bitCount_0f7a4 42 = .ok (.iload_n 0, 1) := by decide +kernel
theorem dJ6_bitCount_0f7a4_43 : decode cJ6_bitCount_0f7a4 43 = .ok (.bipush 16, 2) := by decide +kernel
theorem dJ6_bitCount_0f7a4_45 : decode cJ6_bitCount_0f7a4 45 = .ok (.iushr, 1) := by decide +kernel
theorem dJ6_bitCount_0f7a4_46 : decode cJ6_bitCount_0f7a4 46 = .ok (.iadd, 1) := by decide +kernel
theorem dJ6_bitCount_0f7a4_47 : decode cJ6_bitCount_0f7a4 47 = .ok (.istore_n 0, 1) := by decide +kernel
theorem dJ6_bitCount_0f7a4_48 : decode cJ6_bitCount_0f7a4 48 = .ok (.iload_n 0, 1) := by decide +kernel
theorem dJ6_bitCount_0f7a4_49 : decode cJ6_bitCount_0f7a4 49 = .ok (.bipush 63, 2) := by decide +kernel
theorem dJ6_bitCount_0f7a4_51 : decode cJ6_bitCount_0f7a4 51 = .ok (.iand, 1) := by decide +kernel
theorem dJ6_bitCount_0f7a4_52 : decode cJ6_bitCount_0f7a4 52 = .ok (.ireturn, 1) := by decide +kernel
theorem dJ9_max_7cf53_0 : decode cJ9_max_7cf53 0 = .ok (.iload_n 0, 1) := by decide +kernel
theorem dJ9_max_7cf53_1 : decode cJ9_max_7cf53 1 = .ok (.iload_n 1, 1) := by decide +kernel
theorem dJ9_max_7cf53_2 : decode cJ9_max_7cf53 2 = .ok (.if_icmp .lt 7, 3) := by decide +kernel
theorem dJ9_max_7cf53_5 : decode cJ9_max_7cf53 5 = .ok (.iload_n 0, 1) := by decide +kernel
theorem dJ9_max_7cf53_6 : decode cJ9_max_7cf53 6 = .ok (.goto 4, 3) := by decide +kernel
theorem dJ9_max_7cf53_9 : decode cJ9_max_7cf53 9 = .ok (.iload_n 1, 1) := by decide +kernel
theorem dJ9_max_7cf53_10 : decode cJ9_max_7cf53 10 = .ok (.ireturn, 1) := by decide +kernel
theorem dJ9_min_7cf53_0 : decode cJ9_min_7cf53 0 = .ok (.iload_n 0, 1) := by decide +kernel
theorem dJ9_min_7cf53_1 : decode cJ9_min_7cf53 1 = .ok (.iload_n 1, 1) := by decide +kernel
theorem dJ9_min_7cf53_2 : decode cJ9_min_7cf53 2 = .ok (.if_icmp .gt 7, 3) := by decide +kernel
theorem dJ9_min_7cf53_5 : decode cJ9_min_7cf53 5 = .ok (.iload_n 0, 1) := by decide +kernel
theorem dJ9_min_7cf53_6 : decode cJ9_min_7cf53 6 = .ok (.goto 4, 3) := by decide +kernel
theorem dJ9_min_7cf53_9 : decode cJ9_min_7cf53 9 = .ok (.iload_n 1, 1) := by decide +kernel
theorem dJ9_min_7cf53_10 : decode cJ9_min_7cf53 10 = .ok (.ireturn, 1) := by decide +kernel
theorem dL_below_0 : decode cL_below 0 = .ok (.iload_n 0, 1) := by decide +kernel
theorem dL_below_1 : decode cL_below 1 = .ok (.ldc 7, 2) := by decide +kernel
theorem dL_below_3 : decode cL_below 3 = .ok (.iand, 1) := by decide +kernel
theorem dL_below_4 : decode cL_below 4 = .ok (.iload_n 1, 1) := by decide +kernel
theorem dL_below_5 : decode cL_below 5 = .ok (.irem, 1) := by decide +kernel
theorem dL_below_6 : decode cL_below 6 = .ok (.ireturn, 1) := by decide +kernel
theorem dL_cell_0 : decode cL_cell 0 = .ok (.iload_n 1, 1) := by decide +kernel
theorem dL_cell_1 : decode cL_cell 1 = .ok (.aload_n 0, 1) := by decide +kernel
theorem dL_cell_2 : decode cL_cell 2 = .ok (.arraylength, 1) := by decide +kernel
theorem dL_cell_3 : decode cL_cell 3 = .ok (.if_icmp .ge 9, 3) := by decide +kernel
theorem dL_cell_6 : decode cL_cell 6 = .ok (.aload_n 0, 1) := by decide +kernel
theorem dL_cell_7 : decode cL_cell 7 = .ok (.iload_n 1, 1) := by decide +kernel
theorem dL_cell_8 : decode cL_cell 8 = .ok (.iaload, 1) := by decide +kernel
theorem dL_cell_9 : decode cL_cell 9 = .ok (.goto 9, 3) := by decide +kernel
theorem dL_cell_12 : decode cL_cell 12 = .ok (.ldc 8, 2) := by decide +kernel
theorem dL_cell_14 : decode cL_cell 14 = .ok (.iload_n 1, 1) := by decide +kernel
theorem dL_cell_15 : decode cL_cell 15 = .ok (.iconst 3, 1) := by decide +kernel
theorem dL_cell_16 : decode cL_cell 16 = .ok (.iadd, 1) := by decide +kernel
theorem dL_cell_17 : decode cL_cell 17 = .ok (.imul, 1) := by decide +kernel
theorem dL_cell_18 : decode cL_cell 18 = .ok (.ireturn, 1) := by decide +kernel
theorem dL_law_0 : decode cL_law 0 = .ok (.new 9, 3) := by decide +kernel
theorem dL_law_3 : decode cL_law 3 = .ok (.dup, 1) := by decide +kernel
theorem dL_law_4 : decode cL_law 4 = .ok (.invokespecial 11, 3) := by decide +kernel
theorem dL_law_7 : decode cL_law 7 = .ok (.astore_n 1, 1) := by decide +kernel
theorem dL_law_8 : decode cL_law 8 = .ok (.iconst 0, 1) := by decide +kernel
theorem dL_law_9 : decode cL_law 9 = .ok (.istore_n 2, 1) := by decide +kernel
theorem dL_law_10 : decode cL_law 10 = .ok (.iconst 0, 1) := by decide +kernel
theorem dL_law_11 : decode cL_law 11 = .ok (.istore_n 3, 1) := by decide +kernel
theorem dL_law_12 : decode cL_law 12 = .ok (.iload_n 3, 1) := by decide +kernel
theorem dL_law_13 : decode cL_law 13 = .ok (.bipush 60, 2) := by decide +kernel
theorem dL_law_15 : decode cL_law 15 = .ok (.if_icmp .ge 234, 3) := by decide +kernel
theorem dL_law_18 : decode cL_law 18 = .ok (.aload_n 0, 1) := by decide +kernel
theorem dL_law_19 : decode cL_law 19 = .ok (.iload_n 3, 1) := by decide +kernel
theorem dL_law_20 : decode cL_law 20 = .ok (.bipush 29, 2) := by decide +kernel
theorem dL_law_22 : decode cL_law 22 = .ok (.irem, 1) := by decide +kernel
theorem dL_law_23 : decode cL_law 23 = .ok (.invokestatic 12, 3) := by decide +kernel
theorem dL_law_26 : decode cL_law 26 = .ok (.iload_n 3, 1) := by decide +kernel
theorem dL_law_27 : decode cL_law 27 = .ok (.bipush 29, 2) := by decide +kernel
theorem dL_law_29 : decode cL_law 29 = .ok (.idiv, 1) := by decide +kernel
theorem dL_law_30 : decode cL_law 30 = .ok (.bipush 6, 2) := by decide +kernel
theorem dL_law_32 : decode cL_law 32 = .ok (.imul, 1) := by decide +kernel
theorem dL_law_33 : decode cL_law 33 = .ok (.ishr, 1) := by decide +kernel
theorem dL_law_34 : decode cL_law 34 = .ok (.istore 4, 2) := by decide +kernel
theorem dL_law_36 : decode cL_law 36 = .ok (.aload_n 1, 1) := by decide +kernel
theorem dL_law_37 : decode cL_law 37 = .ok (.iconst 5, 1) := by decide +kernel
theorem dL_law_38 : decode cL_law 38 = .ok (.invokevirtual 18, 3) := by decide +kernel
theorem dL_law_41 : decode cL_law 41 = .ok (.istore 5, 2) := by decide +kernel
theorem dL_law_43 : decode cL_law 43 = .ok (.aload_n 1, 1) := by decide +kernel
theorem dL_law_44 : decode cL_law 44 = .ok (.bipush 8, 2) := by decide +kernel
theorem dL_law_46 : decode cL_law 46 = .ok (.invokevirtual 18, 3) := by decide +kernel
theorem dL_law_49 : decode cL_law 49 = .ok (.istore 6, 2) := by decide +kernel
theorem dL_law_51 : decode cL_law 51 = .ok (.aload_n 1, 1) := by decide +kernel
theorem dL_law_52 : decode cL_law 52 = .ok (.bipush 7, 2) := by decide +kernel
theorem dL_law_54 : decode cL_law 54 = .ok (.invokevirtual 18, 3) := by decide +kernel
theorem dL_law_57 : decode cL_law 57 = .ok (.istore 7, 2) := by decide +kernel
theorem dL_law_59 : decode cL_law 59 = .ok (.aload_n 1, 1) := by decide +kernel
theorem dL_law_60 : decode cL_law 60 = .ok (.bipush 6, 2) := by decide +kernel
theorem dL_law_62 : decode cL_law 62 = .ok (.invokevirtual 18, 3) := by decide +kernel
theorem dL_law_65 : decode cL_law 65 = .ok (.istore 8, 2) := by decide +kernel
theorem dL_law_67 : decode cL_law 67 = .ok (.aload_n 1, 1) := by decide +kernel
theorem dL_law_68 : decode cL_law 68 = .ok (.iload 4, 2) := by decide +kernel
theorem dL_law_70 : decode cL_law 70 = .ok (.iload 4, 2) := by decide +kernel
theorem dL_law_72 : decode cL_law 72 = .ok (.iconst 3, 1) := by decide +kernel
theorem dL_law_73 : decode cL_law 73 = .ok (.ishr, 1) := by decide +kernel
theorem dL_law_74 : decode cL_law 74 = .ok (.iconst 1, 1) := by decide +kernel
theorem dL_law_75 : decode cL_law 75 = .ok (.aload_n 1, 1) := by decide +kernel
theorem dL_law_76 : decode cL_law 76 = .ok (.iconst 0, 1) := by decide +kernel
theorem dL_law_77 : decode cL_law 77 = .ok (.invokevirtual 18, 3) := by decide +kernel
theorem dL_law_80 : decode cL_law 80 = .ok (.invokestatic 22, 3) := by decide +kernel
theorem dL_law_83 : decode cL_law 83 = .ok (.invokestatic 28, 3) := by decide +kernel
theorem dL_law_86 : decode cL_law 86 = .ok (.iload 4, 2) := by decide +kernel
theorem dL_law_88 : decode cL_law 88 = .ok (.iconst 5, 1) := by decide +kernel
theorem dL_law_89 : decode cL_law 89 = .ok (.ishr, 1) := by decide +kernel
theorem dL_law_90 : decode cL_law 90 = .ok (.iconst 3, 1) := by decide +kernel
theorem dL_law_91 : decode cL_law 91 = .ok (.invokestatic 28, 3) := by decide +kernel
theorem dL_law_94 : decode cL_law 94 = .ok (.iload 4, 2) := by decide +kernel
theorem dL_law_96 : decode cL_law 96 = .ok (.iconst 4, 1) := by decide +kernel
theorem dL_law_97 : decode cL_law 97 = .ok (.ishr, 1) := by decide +kernel
theorem dL_law_98 : decode cL_law 98 = .ok (.iconst 4, 1) := by decide +kernel
theorem dL_law_99 : decode cL_law 99 = .ok (.invokestatic 28, 3) := by decide +kernel
theorem dL_law_102 : decode cL_law 102 = .ok (.invokestatic 31, 3) := by decide +kernel
theorem dL_law_105 : decode cL_law 105 = .ok (.ifCond .ne 5, 3) := by decide +kernel
theorem dL_law_108 : decode cL_law 108 = .ok (.iconst 0, 1) := by decide +kernel
theorem dL_law_109 : decode cL_law 109 = .ok (.ireturn, 1) := by decide +kernel
theorem dL_law_110 : decode cL_law 110 = .ok (.iload 4, 2) := by decide +kernel
theorem dL_law_112 : decode cL_law 112 = .ok (.bipush 13, 2) := by decide +kernel
theorem dL_law_114 : decode cL_law 114 = .ok (.invokestatic 28, 3) := by decide +kernel
theorem dL_law_117 : decode cL_law 117 = .ok (.istore 9, 2) := by decide +kernel
theorem dL_law_119 : decode cL_law 119 = .ok (.iload 9, 2) := by decide +kernel
theorem dL_law_121 : decode cL_law 121 = .ok (.bipush 12, 2) := by decide +kernel
theorem dL_law_123 : decode cL_law 123 = .ok (.if_icmp .eq 45, 3) := by decide +kernel
theorem dL_law_126 : decode cL_law 126 = .ok (.aload_n 1, 1) := by decide +kernel
theorem dL_law_127 : decode cL_law 127 = .ok (.iconst 5, 1) := by decide +kernel
theorem dL_law_128 : decode cL_law 128 = .ok (.invokevirtual 18, 3) := by decide +kernel
theorem dL_law_131 : decode cL_law 131 = .ok (.iload 5, 2) := by decide +kernel
theorem dL_law_133 : decode cL_law 133 = .ok (.isub, 1) := by decide +kernel
theorem dL_law_134 : decode cL_law 134 = .ok (.aload_n 1, 1) := by decide +kernel
theorem dL_law_135 : decode cL_law 135 = .ok (.bipush 8, 2) := by decide +kernel
theorem dL_law_137 : decode cL_law 137 = .ok (.invokevirtual 18, 3) := by decide +kernel
theorem dL_law_140 : decode cL_law 140 = .ok (.iadd, 1) := by decide +kernel
theorem dL_law_141 : decode cL_law 141 = .ok (.iload 6, 2) := by decide +kernel
theorem dL_law_143 : decode cL_law 143 = .ok (.isub, 1) := by decide +kernel
theorem dL_law_144 : decode cL_law 144 = .ok (.aload_n 1, 1) := by decide +kernel
theorem dL_law_145 : decode cL_law 145 = .ok (.bipush 6, 2) := by decide +kernel
theorem dL_law_147 : decode cL_law 147 = .ok (.invokevirtual 18, 3) := by decide +kernel
theorem dL_law_150 : decode cL_law 150 = .ok (.iload 8, 2) := by decide +kernel
theorem dL_law_152 : decode cL_law 152 = .ok (.isub, 1) := by decide +kernel
theorem dL_law_153 : decode cL_law 153 = .ok (.aload_n 1, 1) := by decide +kernel
theorem dL_law_154 : decode cL_law 154 = .ok (.bipush 7, 2) := by decide +kernel
theorem dL_law_156 : decode cL_law 156 = .ok (.invokevirtual 18, 3) := by decide +kernel
theorem dL_law_159 : decode cL_law 159 = .ok (.isub, 1) := by decide +kernel
theorem dL_law_160 : decode cL_law 160 = .ok (.iload 7, 2) := by decide +kernel
theorem dL_law_162 : decode cL_law 162 = .ok (.iadd, 1) := by decide +kernel
theorem dL_law_163 : decode cL_law 163 = .ok (.if_icmp .eq 5, 3) := by decide +kernel
theorem dL_law_166 : decode cL_law 166 = .ok (.iconst 0, 1) := by decide +kernel
theorem dL_law_167 : decode cL_law 167 = .ok (.ireturn, 1) := by decide +kernel
theorem dL_law_168 : decode cL_law 168 = .ok (.iload_n 2, 1) := by decide +kernel
theorem dL_law_169 : decode cL_law 169 = .ok (.iload 9, 2) := by decide +kernel
theorem dL_law_171 : decode cL_law 171 = .ok (.bipush 12, 2) := by decide +kernel
theorem dL_law_173 : decode cL_law 173 = .ok (.if_icmp .ne 7, 3) := by decide +kernel
theorem dL_law_176 : decode cL_law 176 = .ok (.iconst 1, 1) := by decide +kernel
theorem dL_law_177 : decode cL_law 177 = .ok (.goto 4, 3) := by decide +kernel
theorem dL_law_180 : decode cL_law 180 = .ok (.iconst 0, 1) := by decide +kernel
theorem dL_law_181 : decode cL_law 181 = .ok (.iadd, 1) := by decide +kernel
theorem dL_law_182 : decode cL_law 182 = .ok (.istore_n 2, 1) := by decide +kernel
theorem dL_law_183 : decode cL_law 183 = .ok (.iload_n 3, 1) := by decide +kernel
theorem dL_law_184 : decode cL_law 184 = .ok (.bipush 7, 2) := by decide +kernel
theorem dL_law_186 : decode cL_law 186 = .ok (.irem, 1) := by decide +kernel
theorem dL_law_187 : decode cL_law 187 = .ok (.bipush 6, 2) := by decide +kernel
theorem dL_law_189 : decode cL_law 189 = .ok (.if_icmp .eq 6, 3) := by decide +kernel
theorem dL_law_192 : decode cL_law 192 = .ok (.goto 51, 3) := by decide +kernel
theorem dL_law_195 : decode cL_law 195 = .ok (.aload_n 1, 1) := by decide +kernel
theorem dL_law_196 : decode cL_law 196 = .ok (.invokevirtual 35, 3) := by decide +kernel
theorem dL_law_199 : decode cL_law 199 = .ok (.lstore 10, 2) := by decide +kernel
theorem dL_law_201 : decode cL_law 201 = .ok (.aload_n 1, 1) := by decide +kernel
theorem dL_law_202 : decode cL_law 202 = .ok (.invokestatic 39, 3) := by decide +kernel
theorem dL_law_205 : decode cL_law 205 = .ok (.ifCond .eq 36, 3) := by decide +kernel
theorem dL_law_208 : decode cL_law 208 = .ok (.aload_n 1, 1) := by decide +kernel
theorem dL_law_209 : decode cL_law 209 = .ok (.invokestatic 43, 3) := by decide +kernel
theorem dL_law_212 : decode cL_law 212 = .ok (.ifCond .eq 29, 3) := by decide +kernel
theorem dL_law_215 : decode cL_law 215 = .ok (.aload_n 1, 1) := by decide +kernel
theorem dL_law_216 : decode cL_law 216 = .ok (.iload_n 2, 1) := by decide +kernel
theorem dL_law_217 : decode cL_law 217 = .ok (.ifCond .ne 7, 3) := by decide +kernel
theorem dL_law_220 : decode cL_law 220 = .ok (.iconst 1, 1) := by decide +kernel
theorem dL_law_221 : decode cL_law 221 = .ok (.goto 4, 3) := by decide +kernel
theorem dL_law_224 : decode cL_law 224 = .ok (.iconst 0, 1) := by decide +kernel
theorem dL_law_225 : decode cL_law 225 = .ok (.invokestatic 46, 3) := by decide +kernel
theorem dL_law_228 : decode cL_law 228 = .ok (.ifCond .eq 13, 3) := by decide +kernel
theorem dL_law_231 : decode cL_law 231 = .ok (.aload_n 1, 1) := by decide +kernel
theorem dL_law_232 : decode cL_law 232 = .ok (.invokevirtual 35, 3) := by decide +kernel
theorem dL_law_235 : decode cL_law 235 = .ok (.lload 10, 2) := by decide +kernel
theorem dL_law_237 : decode cL_law 237 = .ok (.lcmp, 1) := by decide +kernel
theorem dL_law_238 : decode cL_law 238 = .ok (.ifCond .eq 5, 3) := by decide +kernel
theorem dL_law_241 : decode cL_law 241 = .ok (.iconst 0, 1) := by decide +kernel
theorem dL_law_242 : decode cL_law 242 = .ok (.ireturn, 1) := by decide +kernel
theorem dL_law_243 : decode cL_law 243 = .ok (.iinc 3 1, 3) := by decide +kernel
theorem dL_law_246 : decode cL_law 246 = .ok (.goto (-234), 3) := by decide +kernel
theorem dL_law_249 : decode cL_law 249 = .ok (.iconst 1, 1) := by decide +kernel
theorem dL_law_250 : decode cL_law 250 = .ok (.ireturn, 1) := by decide +kernel
theorem dL_act_0 : decode cL_act 0 = .ok (.iload_n 1, 1) := by decide +kernel
theorem dL_act_1 : decode cL_act 1 = .ok (.bipush 13, 2) := by decide +kernel
theorem dL_act_3 : decode cL_act 3 = .ok (.invokestatic 28, 3) := by decide +kernel
theorem dL_act_6 : decode cL_act 6 = .ok (.tableswitch 410 0 11 #[62, 62, 127, 127, 177, 209, 234, 289, 326, 359, 384, 384], 62) := by decide +kernel
theorem dL_act_68 : decode cL_act 68 = .ok (.aload_n 0, 1) := by decide +kernel
theorem dL_act_69 : decode cL_act 69 = .ok (.iload 4, 2) := by decide +kernel
theorem dL_act_71 : decode cL_act 71 = .ok (.iconst 4, 1) := by decide +kernel
theorem dL_act_72 : decode cL_act 72 = .ok (.iload_n 1, 1) := by decide +kernel
theorem dL_act_73 : decode cL_act 73 = .ok (.iconst 5, 1) := by decide +kernel
theorem dL_act_74 : decode cL_act 74 = .ok (.ishr, 1) := by decide +kernel
theorem dL_act_75 : decode cL_act 75 = .ok (.bipush 17, 2) := by decide +kernel
theorem dL_act_77 : decode cL_act 77 = .ok (.invokestatic 28, 3) := by decide +kernel
theorem dL_act_80 : decode cL_act 80 = .ok (.iadd, 1) := by decide +kernel
theorem dL_act_81 : decode cL_act 81 = .ok (.iconst 4, 1) := by decide +kernel
theorem dL_act_82 : decode cL_act 82 = .ok (.iload_n 1, 1) := by decide +kernel
theorem dL_act_83 : decode cL_act 83 = .ok (.bipush 7, 2) := by decide +kernel
theorem dL_act_85 : decode cL_act 85 = .ok (.ishr, 1) := by decide +kernel
theorem dL_act_86 : decode cL_act 86 = .ok (.bipush 17, 2) := by decide +kernel
theorem dL_act_88 : decode cL_act 88 = .ok (.invokestatic 28, 3) := by decide +kernel
theorem dL_act_91 : decode cL_act 91 = .ok (.iadd, 1) := by decide +kernel
theorem dL_act_92 : decode cL_act 92 = .ok (.iconst 5, 1) := by decide +kernel
theorem dL_act_93 : decode cL_act 93 = .ok (.iload_n 1, 1) := by decide +kernel
theorem dL_act_94 : decode cL_act 94 = .ok (.iconst 3, 1) := by decide +kernel
theorem dL_act_95 : decode cL_act 95 = .ok (.ishr, 1) := by decide +kernel
theorem dL_act_96 : decode cL_act 96 = .ok (.sipush 1500, 3) := by decide +kernel
theorem dL_act_99 : decode cL_act 99 = .ok (.invokestatic 28, 3) := by decide +kernel
theorem dL_act_102 : decode cL_act 102 = .ok (.iadd, 1) := by decide +kernel
theorem dL_act_103 : decode cL_act 103 = .ok (.iconst 1, 1) := by decide +kernel
theorem dL_act_104 : decode cL_act 104 = .ok (.iload_n 1, 1) := by decide +kernel
theorem dL_act_105 : decode cL_act 105 = .ok (.bipush 6, 2) := by decide +kernel
theorem dL_act_107 : decode cL_act 107 = .ok (.ishr, 1) := by decide +kernel
theorem dL_act_108 : decode cL_act 108 = .ok (.bipush 15, 2) := by decide +kernel
theorem dL_act_110 : decode cL_act 110 = .ok (.invokestatic 28, 3) := by decide +kernel
theorem dL_act_113 : decode cL_act 113 = .ok (.iadd, 1) := by decide +kernel
theorem dL_act_114 : decode cL_act 114 = .ok (.invokevirtual 50, 3) := by decide +kernel
theorem dL_act_117 : decode cL_act 117 = .ok (.aload_n 0, 1) := by decide +kernel
theorem dL_act_118 : decode cL_act 118 = .ok (.iconst 0, 1) := by decide +kernel
theorem dL_act_119 : decode cL_act 119 = .ok (.invokevirtual 18, 3) := by decide +kernel
theorem dL_act_122 : decode cL_act 122 = .ok (.iconst 1, 1) := by decide +kernel
theorem dL_act_123 : decode cL_act 123 = .ok (.isub, 1) := by decide +kernel
theorem dL_act_124 : decode cL_act 124 = .ok (.if_icmp .ne 7, 3) := by decide +kernel
theorem dL_act_127 : decode cL_act 127 = .ok (.iconst 1, 1) := by decide +kernel
theorem dL_act_128 : decode cL_act 128 = .ok (.goto 4, 3) := by decide +kernel
theorem dL_act_131 : decode cL_act 131 = .ok (.iconst 0, 1) := by decide +kernel
theorem dL_act_132 : decode cL_act 132 = .ok (.ireturn, 1) := by decide +kernel
theorem dL_act_133 : decode cL_act 133 = .ok (.aload_n 0, 1) := by decide +kernel
theorem dL_act_134 : decode cL_act 134 = .ok (.iload_n 2, 1) := by decide +kernel
theorem dL_act_135 : decode cL_act 135 = .ok (.iload_n 3, 1) := by decide +kernel
theorem dL_act_136 : decode cL_act 136 = .ok (.invokevirtual 54, 3) := by decide +kernel
theorem dL_act_139 : decode cL_act 139 = .ok (.aload_n 0, 1) := by decide +kernel
theorem dL_act_140 : decode cL_act 140 = .ok (.iload_n 2, 1) := by decide +kernel
theorem dL_act_141 : decode cL_act 141 = .ok (.bipush 9, 2) := by decide +kernel
theorem dL_act_143 : decode cL_act 143 = .ok (.invokevirtual 57, 3) := by decide +kernel
theorem dL_act_146 : decode cL_act 146 = .ok (.if_icmp .ne 35, 3) := by decide +kernel
theorem dL_act_149 : decode cL_act 149 = .ok (.aload_n 0, 1) := by decide +kernel
theorem dL_act_150 : decode cL_act 150 = .ok (.iload_n 2, 1) := by decide +kernel
theorem dL_act_151 : decode cL_act 151 = .ok (.bipush 6, 2) := by decide +kernel
theorem dL_act_153 : decode cL_act 153 = .ok (.invokevirtual 57, 3) := by decide +kernel
theorem dL_act_156 : decode cL_act 156 = .ok (.iconst 1, 1) := by decide +kernel
theorem dL_act_157 : decode cL_act 157 = .ok (.if_icmp .ne 24, 3) := by decide +kernel
theorem dL_act_160 : decode cL_act 160 = .ok (.aload_n 0, 1) := by decide +kernel
theorem dL_act_161 : decode cL_act 161 = .ok (.iload_n 3, 1) := by decide +kernel
theorem dL_act_162 : decode cL_act 162 = .ok (.aload_n 0, 1) := by decide +kernel
theorem dL_act_163 : decode cL_act 163 = .ok (.iload_n 3, 1) := by decide +kernel
theorem dL_act_164 : decode cL_act 164 = .ok (.iconst 5, 1) := by decide +kernel
theorem dL_act_165 : decode cL_act 165 = .ok (.invokevirtual 60, 3) := by decide +kernel
theorem dL_act_168 : decode cL_act 168 = .ok (.iconst 1, 1) := by decide +kernel
theorem dL_act_169 : decode cL_act 169 = .ok (.isub, 1) := by decide +kernel
theorem dL_act_170 : decode cL_act 170 = .ok (.invokevirtual 63, 3) := by decide +kernel
theorem dL_act_173 : decode cL_act 173 = .ok (.iload_n 2, 1) := by decide +kernel
theorem dL_act_174 : decode cL_act 174 = .ok (.if_icmp .ne 7, 3) := by decide +kernel
theorem dL_act_177 : decode cL_act 177 = .ok (.iconst 1, 1) := by decide +kernel
theorem dL_act_178 : decode cL_act 178 = .ok (.goto 4, 3) := by decide +kernel
theorem dL_act_181 : decode cL_act 181 = .ok (.iconst 0, 1) := by decide +kernel
theorem dL_act_182 : decode cL_act 182 = .ok (.ireturn, 1) := by decide +kernel
theorem dL_act_183 : decode cL_act 183 = .ok (.aload_n 0, 1) := by decide +kernel
theorem dL_act_184 : decode cL_act 184 = .ok (.iload 4, 2) := by decide +kernel
theorem dL_act_186 : decode cL_act 186 = .ok (.iconst 1, 1) := by decide +kernel
theorem dL_act_187 : decode cL_act 187 = .ok (.iload_n 1, 1) := by decide +kernel
theorem dL_act_188 : decode cL_act 188 = .ok (.bipush 6, 2) := by decide +kernel
theorem dL_act_190 : decode cL_act 190 = .ok (.ishr, 1) := by decide +kernel
theorem dL_act_191 : decode cL_act 191 = .ok (.iconst 4, 1) := by decide +kernel
theorem dL_act_192 : decode cL_act 192 = .ok (.invokestatic 28, 3) := by decide +kernel
theorem dL_act_195 : decode cL_act 195 = .ok (.iadd, 1) := by decide +kernel
theorem dL_act_196 : decode cL_act 196 = .ok (.invokevirtual 66, 3) := by decide +kernel
theorem dL_act_199 : decode cL_act 199 = .ok (.aload_n 0, 1) := by decide +kernel
theorem dL_act_200 : decode cL_act 200 = .ok (.iload 4, 2) := by decide +kernel
theorem dL_act_202 : decode cL_act 202 = .ok (.iconst 3, 1) := by decide +kernel
theorem dL_act_203 : decode cL_act 203 = .ok (.invokevirtual 69, 3) := by decide +kernel
theorem dL_act_206 : decode cL_act 206 = .ok (.if_icmp .ne 7, 3) := by decide +kernel
theorem dL_act_209 : decode cL_act 209 = .ok (.iconst 1, 1) := by decide +kernel
theorem dL_act_210 : decode cL_act 210 = .ok (.goto 4, 3) := by decide +kernel
theorem dL_act_213 : decode cL_act 213 = .ok (.iconst 0, 1) := by decide +kernel
theorem dL_act_214 : decode cL_act 214 = .ok (.ireturn, 1) := by decide +kernel
theorem dL_act_215 : decode cL_act 215 = .ok (.aload_n 0, 1) := by decide +kernel
theorem dL_act_216 : decode cL_act 216 = .ok (.invokevirtual 72, 3) := by decide +kernel
theorem dL_act_219 : decode cL_act 219 = .ok (.istore 5, 2) := by decide +kernel
theorem dL_act_221 : decode cL_act 221 = .ok (.iload 5, 2) := by decide +kernel
theorem dL_act_223 : decode cL_act 223 = .ok (.ifCond .lt 15, 3) := by decide +kernel
theorem dL_act_226 : decode cL_act 226 = .ok (.iload 5, 2) := by decide +kernel
theorem dL_act_228 : decode cL_act 228 = .ok (.sipush 160, 3) := by decide +kernel
theorem dL_act_231 : decode cL_act 231 = .ok (.if_icmp .gt 7, 3) := by decide +kernel
theorem dL_act_234 : decode cL_act 234 = .ok (.iconst 1, 1) := by decide +kernel
theorem dL_act_235 : decode cL_act 235 = .ok (.goto 4, 3) := by decide +kernel
theorem dL_act_238 : decode cL_act 238 = .ok (.iconst 0, 1) := by decide +kernel
theorem dL_act_239 : decode cL_act 239 = .ok (.ireturn, 1) := by decide +kernel
theorem dL_act_240 : decode cL_act 240 = .ok (.aload_n 0, 1) := by decide +kernel
theorem dL_act_241 : decode cL_act 241 = .ok (.iload_n 2, 1) := by decide +kernel
theorem dL_act_242 : decode cL_act 242 = .ok (.invokevirtual 76, 3) := by decide +kernel
theorem dL_act_245 : decode cL_act 245 = .ok (.aload_n 0, 1) := by decide +kernel
theorem dL_act_246 : decode cL_act 246 = .ok (.iload_n 2, 1) := by decide +kernel
theorem dL_act_247 : decode cL_act 247 = .ok (.bipush 11, 2) := by decide +kernel
theorem dL_act_249 : decode cL_act 249 = .ok (.invokevirtual 57, 3) := by decide +kernel
theorem dL_act_252 : decode cL_act 252 = .ok (.if_icmp .ne 41, 3) := by decide +kernel
theorem dL_act_255 : decode cL_act 255 = .ok (.aload_n 0, 1) := by decide +kernel
theorem dL_act_256 : decode cL_act 256 = .ok (.iload_n 2, 1) := by decide +kernel
theorem dL_act_257 : decode cL_act 257 = .ok (.bipush 6, 2) := by decide +kernel
theorem dL_act_259 : decode cL_act 259 = .ok (.invokevirtual 57, 3) := by decide +kernel
theorem dL_act_262 : decode cL_act 262 = .ok (.iconst 3, 1) := by decide +kernel
theorem dL_act_263 : decode cL_act 263 = .ok (.if_icmp .ne 30, 3) := by decide +kernel
theorem dL_act_266 : decode cL_act 266 = .ok (.aload_n 0, 1) := by decide +kernel
theorem dL_act_267 : decode cL_act 267 = .ok (.iload_n 2, 1) := by decide +kernel
theorem dL_act_268 : decode cL_act 268 = .ok (.bipush 11, 2) := by decide +kernel
theorem dL_act_270 : decode cL_act 270 = .ok (.invokevirtual 57, 3) := by decide +kernel
theorem dL_act_273 : decode cL_act 273 = .ok (.aload_n 0, 1) := by decide +kernel
theorem dL_act_274 : decode cL_act 274 = .ok (.iload_n 2, 1) := by decide +kernel
theorem dL_act_275 : decode cL_act 275 = .ok (.invokevirtual 79, 3) := by decide +kernel
theorem dL_act_278 : decode cL_act 278 = .ok (.aload_n 0, 1) := by decide +kernel
theorem dL_act_279 : decode cL_act 279 = .ok (.iload_n 2, 1) := by decide +kernel
theorem dL_act_280 : decode cL_act 280 = .ok (.bipush 10, 2) := by decide +kernel
theorem dL_act_282 : decode cL_act 282 = .ok (.invokevirtual 57, 3) := by decide +kernel
theorem dL_act_285 : decode cL_act 285 = .ok (.iadd, 1) := by decide +kernel
theorem dL_act_286 : decode cL_act 286 = .ok (.if_icmp .ne 7, 3) := by decide +kernel
theorem dL_act_289 : decode cL_act 289 = .ok (.iconst 1, 1) := by decide +kernel
theorem dL_act_290 : decode cL_act 290 = .ok (.goto 4, 3) := by decide +kernel
theorem dL_act_293 : decode cL_act 293 = .ok (.iconst 0, 1) := by decide +kernel
theorem dL_act_294 : decode cL_act 294 = .ok (.ireturn, 1) := by decide +kernel
theorem dL_act_295 : decode cL_act 295 = .ok (.aload_n 0, 1) := by decide +kernel
theorem dL_act_296 : decode cL_act 296 = .ok (.iload_n 2, 1) := by decide +kernel
theorem dL_act_297 : decode cL_act 297 = .ok (.invokevirtual 82, 3) := by decide +kernel
theorem dL_act_300 : decode cL_act 300 = .ok (.aload_n 0, 1) := by decide +kernel
theorem dL_act_301 : decode cL_act 301 = .ok (.iload_n 2, 1) := by decide +kernel
theorem dL_act_302 : decode cL_act 302 = .ok (.bipush 8, 2) := by decide +kernel
theorem dL_act_304 : decode cL_act 304 = .ok (.invokevirtual 57, 3) := by decide +kernel
theorem dL_act_307 : decode cL_act 307 = .ok (.if_icmp .ne 23, 3) := by decide +kernel
theorem dL_act_310 : decode cL_act 310 = .ok (.aload_n 0, 1) := by decide +kernel
theorem dL_act_311 : decode cL_act 311 = .ok (.aload_n 0, 1) := by decide +kernel
theorem dL_act_312 : decode cL_act 312 = .ok (.iload_n 2, 1) := by decide +kernel
theorem dL_act_313 : decode cL_act 313 = .ok (.bipush 12, 2) := by decide +kernel
theorem dL_act_315 : decode cL_act 315 = .ok (.invokevirtual 57, 3) := by decide +kernel
theorem dL_act_318 : decode cL_act 318 = .ok (.iconst 0, 1) := by decide +kernel
theorem dL_act_319 : decode cL_act 319 = .ok (.invokevirtual 63, 3) := by decide +kernel
theorem dL_act_322 : decode cL_act 322 = .ok (.iload_n 2, 1) := by decide +kernel
theorem dL_act_323 : decode cL_act 323 = .ok (.if_icmp .ne 7, 3) := by decide +kernel
theorem dL_act_326 : decode cL_act 326 = .ok (.iconst 1, 1) := by decide +kernel
theorem dL_act_327 : decode cL_act 327 = .ok (.goto 4, 3) := by decide +kernel
theorem dL_act_330 : decode cL_act 330 = .ok (.iconst 0, 1) := by decide +kernel
theorem dL_act_331 : decode cL_act 331 = .ok (.ireturn, 1) := by decide +kernel
theorem dL_act_332 : decode cL_act 332 = .ok (.aload_n 0, 1) := by decide +kernel
theorem dL_act_333 : decode cL_act 333 = .ok (.iload_n 3, 1) := by decide +kernel
theorem dL_act_334 : decode cL_act 334 = .ok (.bipush 6, 2) := by decide +kernel
theorem dL_act_336 : decode cL_act 336 = .ok (.invokevirtual 60, 3) := by decide +kernel
theorem dL_act_339 : decode cL_act 339 = .ok (.istore 6, 2) := by decide +kernel
theorem dL_act_341 : decode cL_act 341 = .ok (.aload_n 0, 1) := by decide +kernel
theorem dL_act_342 : decode cL_act 342 = .ok (.iload_n 3, 1) := by decide +kernel
theorem dL_act_343 : decode cL_act 343 = .ok (.invokevirtual 85, 3) := by decide +kernel
theorem dL_act_346 : decode cL_act 346 = .ok (.iload 6, 2) := by decide +kernel
theorem dL_act_348 : decode cL_act 348 = .ok (.aload_n 0, 1) := by decide +kernel
theorem dL_act_349 : decode cL_act 349 = .ok (.iload_n 3, 1) := by decide +kernel
theorem dL_act_350 : decode cL_act 350 = .ok (.bipush 6, 2) := by decide +kernel
theorem dL_act_352 : decode cL_act 352 = .ok (.invokevirtual 60, 3) := by decide +kernel
theorem dL_act_355 : decode cL_act 355 = .ok (.isub, 1) := by decide +kernel
theorem dL_act_356 : decode cL_act 356 = .ok (.if_icmp .ne 7, 3) := by decide +kernel
theorem dL_act_359 : decode cL_act 359 = .ok (.iconst 1, 1) := by decide +kernel
theorem dL_act_360 : decode cL_act 360 = .ok (.goto 4, 3) := by decide +kernel
theorem dL_act_363 : decode cL_act 363 = .ok (.iconst 0, 1) := by decide +kernel
theorem dL_act_364 : decode cL_act 364 = .ok (.ireturn, 1) := by decide +kernel
theorem dL_act_365 : decode cL_act 365 = .ok (.aload_n 0, 1) := by decide +kernel
theorem dL_act_366 : decode cL_act 366 = .ok (.iload_n 3, 1) := by decide +kernel
theorem dL_act_367 : decode cL_act 367 = .ok (.iconst 1, 1) := by decide +kernel
theorem dL_act_368 : decode cL_act 368 = .ok (.iload_n 1, 1) := by decide +kernel
theorem dL_act_369 : decode cL_act 369 = .ok (.bipush 6, 2) := by decide +kernel
theorem dL_act_371 : decode cL_act 371 = .ok (.ishr, 1) := by decide +kernel
theorem dL_act_372 : decode cL_act 372 = .ok (.iconst 4, 1) := by decide +kernel
theorem dL_act_373 : decode cL_act 373 = .ok (.invokestatic 28, 3) := by decide +kernel
theorem dL_act_376 : decode cL_act 376 = .ok (.iadd, 1) := by decide +kernel
theorem dL_act_377 : decode cL_act 377 = .ok (.invokevirtual 88, 3) := by decide +kernel
theorem dL_act_380 : decode cL_act 380 = .ok (.iconst 4, 1) := by decide +kernel
theorem dL_act_381 : decode cL_act 381 = .ok (.if_icmp .gt 7, 3) := by decide +kernel
theorem dL_act_384 : decode cL_act 384 = .ok (.iconst 1, 1) := by decide +kernel
theorem dL_act_385 : decode cL_act 385 = .ok (.goto 4, 3) := by decide +kernel
theorem dL_act_388 : decode cL_act 388 = .ok (.iconst 0, 1) := by decide +kernel
theorem dL_act_389 : decode cL_act 389 = .ok (.ireturn, 1) := by decide +kernel
theorem dL_act_390 : decode cL_act 390 = .ok (.aload_n 0, 1) := by decide +kernel
theorem dL_act_391 : decode cL_act 391 = .ok (.iload_n 3, 1) := by decide +kernel
theorem dL_act_392 : decode cL_act 392 = .ok (.iconst 1, 1) := by decide +kernel
theorem dL_act_393 : decode cL_act 393 = .ok (.iload_n 1, 1) := by decide +kernel
theorem dL_act_394 : decode cL_act 394 = .ok (.iconst 4, 1) := by decide +kernel
theorem dL_act_395 : decode cL_act 395 = .ok (.ishr, 1) := by decide +kernel
theorem dL_act_396 : decode cL_act 396 = .ok (.sipush 150, 3) := by decide +kernel
theorem dL_act_399 : decode cL_act 399 = .ok (.invokestatic 28, 3) := by decide +kernel
theorem dL_act_402 : decode cL_act 402 = .ok (.iadd, 1) := by decide +kernel
theorem dL_act_403 : decode cL_act 403 = .ok (.iload_n 1, 1) := by decide +kernel
theorem dL_act_404 : decode cL_act 404 = .ok (.bipush 6, 2) := by decide +kernel
theorem dL_act_406 : decode cL_act 406 = .ok (.ishr, 1) := by decide +kernel
theorem dL_act_407 : decode cL_act 407 = .ok (.bipush 25, 2) := by decide +kernel
theorem dL_act_409 : decode cL_act 409 = .ok (.invokestatic 28, 3) := by decide +kernel
theorem dL_act_412 : decode cL_act 412 = .ok (.invokestatic 91, 3) := by decide +kernel
theorem dL_act_415 : decode cL_act 415 = .ok (.ireturn, 1) := by decide +kernel
theorem dL_act_416 : decode cL_act 416 = .ok (.iload_n 1, 1) := by decide +kernel
theorem dL_act_417 : decode cL_act 417 = .ok (.bipush 6, 2) := by decide +kernel
theorem dL_act_419 : decode cL_act 419 = .ok (.ishr, 1) := by decide +kernel
theorem dL_act_420 : decode cL_act 420 = .ok (.iconst 2, 1) := by decide +kernel
theorem dL_act_421 : decode cL_act 421 = .ok (.invokestatic 28, 3) := by decide +kernel
theorem dL_act_424 : decode cL_act 424 = .ok (.ifCond .ne 40, 3) := by decide +kernel
theorem dL_act_427 : decode cL_act 427 = .ok (.aload_n 0, 1) := by decide +kernel
theorem dL_act_428 : decode cL_act 428 = .ok (.iconst 1, 1) := by decide +kernel
theorem dL_act_429 : decode cL_act 429 = .ok (.iload_n 1, 1) := by decide +kernel
theorem dL_act_430 : decode cL_act 430 = .ok (.iconst 5, 1) := by decide +kernel
theorem dL_act_431 : decode cL_act 431 = .ok (.ishr, 1) := by decide +kernel
theorem dL_act_432 : decode cL_act 432 = .ok (.bipush 30, 2) := by decide +kernel
theorem dL_act_434 : decode cL_act 434 = .ok (.invokestatic 28, 3) := by decide +kernel
theorem dL_act_437 : decode cL_act 437 = .ok (.iadd, 1) := by decide +kernel
theorem dL_act_438 : decode cL_act 438 = .ok (.iload_n 1, 1) := by decide +kernel
theorem dL_act_439 : decode cL_act 439 = .ok (.bipush 7, 2) := by decide +kernel
theorem dL_act_441 : decode cL_act 441 = .ok (.ishr, 1) := by decide +kernel
theorem dL_act_442 : decode cL_act 442 = .ok (.bipush 90, 2) := by decide +kernel
theorem dL_act_444 : decode cL_act 444 = .ok (.invokestatic 28, 3) := by decide +kernel
theorem dL_act_447 : decode cL_act 447 = .ok (.invokevirtual 95, 3) := by decide +kernel
theorem dL_act_450 : decode cL_act 450 = .ok (.aload_n 0, 1) := by decide +kernel
theorem dL_act_451 : decode cL_act 451 = .ok (.iconst 5, 1) := by decide +kernel
theorem dL_act_452 : decode cL_act 452 = .ok (.invokevirtual 18, 3) := by decide +kernel
theorem dL_act_455 : decode cL_act 455 = .ok (.if_icmp .ne 7, 3) := by decide +kernel
theorem dL_act_458 : decode cL_act 458 = .ok (.iconst 1, 1) := by decide +kernel
theorem dL_act_459 : decode cL_act 459 = .ok (.goto 4, 3) := by decide +kernel
theorem dL_act_462 : decode cL_act 462 = .ok (.iconst 0, 1) := by decide +kernel
theorem dL_act_463 : decode cL_act 463 = .ok (.ireturn, 1) := by decide +kernel
theorem dL_act_464 : decode cL_act 464 = .ok (.aload_n 0, 1) := by decide +kernel
theorem dL_act_465 : decode cL_act 465 = .ok (.iload 4, 2) := by decide +kernel
theorem dL_act_467 : decode cL_act 467 = .ok (.bipush 40, 2) := by decide +kernel
theorem dL_act_469 : decode cL_act 469 = .ok (.iload_n 1, 1) := by decide +kernel
theorem dL_act_470 : decode cL_act 470 = .ok (.iconst 5, 1) := by decide +kernel
theorem dL_act_471 : decode cL_act 471 = .ok (.ishr, 1) := by decide +kernel
theorem dL_act_472 : decode cL_act 472 = .ok (.bipush 50, 2) := by decide +kernel
theorem dL_act_474 : decode cL_act 474 = .ok (.invokestatic 28, 3) := by decide +kernel
theorem dL_act_477 : decode cL_act 477 = .ok (.iadd, 1) := by decide +kernel
theorem dL_act_478 : decode cL_act 478 = .ok (.bipush 40, 2) := by decide +kernel
theorem dL_act_480 : decode cL_act 480 = .ok (.iload_n 1, 1) := by decide +kernel
theorem dL_act_481 : decode cL_act 481 = .ok (.bipush 7, 2) := by decide +kernel
theorem dL_act_483 : decode cL_act 483 = .ok (.ishr, 1) := by decide +kernel
theorem dL_act_484 : decode cL_act 484 = .ok (.bipush 50, 2) := by decide +kernel
theorem dL_act_486 : decode cL_act 486 = .ok (.invokestatic 28, 3) := by decide +kernel
theorem dL_act_489 : decode cL_act 489 = .ok (.iadd, 1) := by decide +kernel
theorem dL_act_490 : decode cL_act 490 = .ok (.iconst 1, 1) := by decide +kernel
theorem dL_act_491 : decode cL_act 491 = .ok (.iload_n 1, 1) := by decide +kernel
theorem dL_act_492 : decode cL_act 492 = .ok (.iconst 3, 1) := by decide +kernel
theorem dL_act_493 : decode cL_act 493 = .ok (.ishr, 1) := by decide +kernel
theorem dL_act_494 : decode cL_act 494 = .ok (.bipush 15, 2) := by decide +kernel
theorem dL_act_496 : decode cL_act 496 = .ok (.invokestatic 28, 3) := by decide +kernel
theorem dL_act_499 : decode cL_act 499 = .ok (.iadd, 1) := by decide +kernel
theorem dL_act_500 : decode cL_act 500 = .ok (.invokevirtual 98, 3) := by decide +kernel
theorem dL_act_503 : decode cL_act 503 = .ok (.bipush 99, 2) := by decide +kernel
theorem dL_act_505 : decode cL_act 505 = .ok (.if_icmp .gt 7, 3) := by decide +kernel
theorem dL_act_508 : decode cL_act 508 = .ok (.iconst 1, 1) := by decide +kernel
theorem dL_act_509 : decode cL_act 509 = .ok (.goto 4, 3) := by decide +kernel
theorem dL_act_512 : decode cL_act 512 = .ok (.iconst 0, 1) := by decide +kernel
theorem dL_act_513 : decode cL_act 513 = .ok (.ireturn, 1) := by decide +kernel
theorem dL_act_514 : decode cL_act 514 = .ok (.astore 5, 2) := by decide +kernel
theorem dL_act_516 : decode cL_act 516 = .ok (.aload_n 0, 1) := by decide +kernel
theorem dL_act_517 : decode cL_act 517 = .ok (.iconst 0, 1) := by decide +kernel
theorem dL_act_518 : decode cL_act 518 = .ok (.invokevirtual 18, 3) := by decide +kernel
theorem dL_act_521 : decode cL_act 521 = .ok (.ifCond .eq 25, 3) := by decide +kernel
theorem dL_act_524 : decode cL_act 524 = .ok (.iload_n 1, 1) := by decide +kernel
theorem dL_act_525 : decode cL_act 525 = .ok (.bipush 13, 2) := by decide +kernel
theorem dL_act_527 : decode cL_act 527 = .ok (.invokestatic 28, 3) := by decide +kernel
theorem dL_act_530 : decode cL_act 530 = .ok (.bipush 10, 2) := by decide +kernel
theorem dL_act_532 : decode cL_act 532 = .ok (.if_icmp .eq 14, 3) := by decide +kernel
theorem dL_act_535 : decode cL_act 535 = .ok (.iload_n 1, 1) := by decide +kernel
theorem dL_act_536 : decode cL_act 536 = .ok (.bipush 13, 2) := by decide +kernel
theorem dL_act_538 : decode cL_act 538 = .ok (.invokestatic 28, 3) := by decide +kernel
theorem dL_act_541 : decode cL_act 541 = .ok (.bipush 11, 2) := by decide +kernel
theorem dL_act_543 : decode cL_act 543 = .ok (.if_icmp .ne 7, 3) := by decide +kernel
theorem dL_act_546 : decode cL_act 546 = .ok (.iconst 1, 1) := by decide +kernel
theorem dL_act_547 : decode cL_act 547 = .ok (.goto 4, 3) := by decide +kernel
theorem dL_act_550 : decode cL_act 550 = .ok (.iconst 0, 1) := by decide +kernel
theorem dL_act_551 : decode cL_act 551 = .ok (.ireturn, 1) := by decide +kernel
theorem dL_act_552 : decode cL_act 552 = .ok (.astore 5, 2) := by decide +kernel
theorem dL_act_554 : decode cL_act 554 = .ok (.iload_n 1, 1) := by decide +kernel
theorem dL_act_555 : decode cL_act 555 = .ok (.bipush 13, 2) := by decide +kernel
theorem dL_act_557 : decode cL_act 557 = .ok (.invokestatic 28, 3) := by decide +kernel
theorem dL_act_560 : decode cL_act 560 = .ok (.iconst 4, 1) := by decide +kernel
theorem dL_act_561 : decode cL_act 561 = .ok (.if_icmp .ne 7, 3) := by decide +kernel
theorem dL_act_564 : decode cL_act 564 = .ok (.iconst 1, 1) := by decide +kernel
theorem dL_act_565 : decode cL_act 565 = .ok (.goto 4, 3) := by decide +kernel
theorem dL_act_568 : decode cL_act 568 = .ok (.iconst 0, 1) := by decide +kernel
theorem dL_act_569 : decode cL_act 569 = .ok (.ireturn, 1) := by decide +kernel
theorem dL_act_570 : decode cL_act 570 = .ok (.astore 5, 2) := by decide +kernel
theorem dL_act_572 : decode cL_act 572 = .ok (.iload_n 1, 1) := by decide +kernel
theorem dL_act_573 : decode cL_act 573 = .ok (.bipush 13, 2) := by decide +kernel
theorem dL_act_575 : decode cL_act 575 = .ok (.invokestatic 28, 3) := by decide +kernel
theorem dL_act_578 : decode cL_act 578 = .ok (.iconst 4, 1) := by decide +kernel
theorem dL_act_579 : decode cL_act 579 = .ok (.if_icmp .lt 24, 3) := by decide +kernel
theorem dL_act_582 : decode cL_act 582 = .ok (.iload_n 1, 1) := by decide +kernel
theorem dL_act_583 : decode cL_act 583 = .ok (.bipush 13, 2) := by decide +kernel
theorem dL_act_585 : decode cL_act 585 = .ok (.invokestatic 28, 3) := by decide +kernel
theorem dL_act_588 : decode cL_act 588 = .ok (.iconst 5, 1) := by decide +kernel
theorem dL_act_589 : decode cL_act 589 = .ok (.if_icmp .le 18, 3) := by decide +kernel
theorem dL_act_592 : decode cL_act 592 = .ok (.iload_n 1, 1) := by decide +kernel
theorem dL_act_593 : decode cL_act 593 = .ok (.bipush 13, 2) := by decide +kernel
theorem dL_act_595 : decode cL_act 595 = .ok (.invokestatic 28, 3) := by decide +kernel
theorem dL_act_598 : decode cL_act 598 = .ok (.bipush 12, 2) := by decide +kernel
theorem dL_act_600 : decode cL_act 600 = .ok (.if_icmp .ge 7, 3) := by decide +kernel
theorem dL_act_603 : decode cL_act 603 = .ok (.iconst 1, 1) := by decide +kernel
theorem dL_act_604 : decode cL_act 604 = .ok (.goto 4, 3) := by decide +kernel
theorem dL_act_607 : decode cL_act 607 = .ok (.iconst 0, 1) := by decide +kernel
theorem dL_act_608 : decode cL_act 608 = .ok (.ireturn, 1) := by decide +kernel
theorem dL_isTold_0 : decode cL_isTold 0 = .ok (.aload_n 0, 1) := by decide +kernel
theorem dL_isTold_1 : decode cL_isTold 1 = .ok (.iload_n 1, 1) := by decide +kernel
theorem dL_isTold_2 : decode cL_isTold 2 = .ok (.iconst 0, 1) := by decide +kernel
theorem dL_isTold_3 : decode cL_isTold 3 = .ok (.invokevirtual 63, 3) := by decide +kernel
theorem dL_isTold_6 : decode cL_isTold 6 = .ok (.istore 4, 2) := by decide +kernel
theorem dL_isTold_8 : decode cL_isTold 8 = .ok (.aload_n 0, 1) := by decide +kernel
theorem dL_isTold_9 : decode cL_isTold 9 = .ok (.iload 4, 2) := by decide +kernel
theorem dL_isTold_11 : decode cL_isTold 11 = .ok (.iconst 0, 1) := by decide +kernel
theorem dL_isTold_12 : decode cL_isTold 12 = .ok (.invokevirtual 57, 3) := by decide +kernel
theorem dL_isTold_15 : decode cL_isTold 15 = .ok (.istore 5, 2) := by decide +kernel
theorem dL_isTold_17 : decode cL_isTold 17 = .ok (.aload_n 0, 1) := by decide +kernel
theorem dL_isTold_18 : decode cL_isTold 18 = .ok (.iload 4, 2) := by decide +kernel
theorem dL_isTold_20 : decode cL_isTold 20 = .ok (.bipush 7, 2) := by decide +kernel
theorem dL_isTold_22 : decode cL_isTold 22 = .ok (.invokevirtual 57, 3) := by decide +kernel
theorem dL_isTold_25 : decode cL_isTold 25 = .ok (.istore 6, 2) := by decide +kernel
theorem dL_isTold_27 : decode cL_isTold 27 = .ok (.aload_n 0, 1) := by decide +kernel
theorem dL_isTold_28 : decode cL_isTold 28 = .ok (.iload 4, 2) := by decide +kernel
theorem dL_isTold_30 : decode cL_isTold 30 = .ok (.bipush 8, 2) := by decide +kernel
theorem dL_isTold_32 : decode cL_isTold 32 = .ok (.invokevirtual 57, 3) := by decide +kernel
theorem dL_isTold_35 : decode cL_isTold 35 = .ok (.istore 7, 2) := by decide +kernel
theorem dL_isTold_37 : decode cL_isTold 37 = .ok (.aload_n 0, 1) := by decide +kernel
theorem dL_isTold_38 : decode cL_isTold 38 = .ok (.iload 5, 2) := by decide +kernel
theorem dL_isTold_40 : decode cL_isTold 40 = .ok (.iconst 3, 1) := by decide +kernel
theorem dL_isTold_41 : decode cL_isTold 41 = .ok (.invokevirtual 69, 3) := by decide +kernel
theorem dL_isTold_44 : decode cL_isTold 44 = .ok (.istore 8, 2) := by decide +kernel
theorem dL_isTold_46 : decode cL_isTold 46 = .ok (.aload_n 0, 1) := by decide +kernel
theorem dL_isTold_47 : decode cL_isTold 47 = .ok (.iload_n 1, 1) := by decide +kernel
theorem dL_isTold_48 : decode cL_isTold 48 = .ok (.iconst 5, 1) := by decide +kernel
theorem dL_isTold_49 : decode cL_isTold 49 = .ok (.invokevirtual 60, 3) := by decide +kernel
theorem dL_isTold_52 : decode cL_isTold 52 = .ok (.istore 9, 2) := by decide +kernel
theorem dL_isTold_54 : decode cL_isTold 54 = .ok (.aload_n 0, 1) := by decide +kernel
theorem dL_isTold_55 : decode cL_isTold 55 = .ok (.iload_n 1, 1) := by decide +kernel
theorem dL_isTold_56 : decode cL_isTold 56 = .ok (.iload_n 2, 1) := by decide +kernel
theorem dL_isTold_57 : decode cL_isTold 57 = .ok (.iload_n 3, 1) := by decide +kernel
theorem dL_isTold_58 : decode cL_isTold 58 = .ok (.invokevirtual 108, 3) := by decide +kernel
theorem dL_isTold_61 : decode cL_isTold 61 = .ok (.istore 10, 2) := by decide +kernel
theorem dL_isTold_63 : decode cL_isTold 63 = .ok (.iload 10, 2) := by decide +kernel
theorem dL_isTold_65 : decode cL_isTold 65 = .ok (.iload_n 3, 1) := by decide +kernel
theorem dL_isTold_66 : decode cL_isTold 66 = .ok (.iadd, 1) := by decide +kernel
theorem dL_isTold_67 : decode cL_isTold 67 = .ok (.istore 11, 2) := by decide +kernel
theorem dL_isTold_69 : decode cL_isTold 69 = .ok (.iload 10, 2) := by decide +kernel
theorem dL_isTold_71 : decode cL_isTold 71 = .ok (.iconst 1, 1) := by decide +kernel
theorem dL_isTold_72 : decode cL_isTold 72 = .ok (.if_icmp .lt 126, 3) := by decide +kernel
theorem dL_isTold_75 : decode cL_isTold 75 = .ok (.iload 10, 2) := by decide +kernel
theorem dL_isTold_77 : decode cL_isTold 77 = .ok (.iload 7, 2) := by decide +kernel
theorem dL_isTold_79 : decode cL_isTold 79 = .ok (.if_icmp .gt 119, 3) := by decide +kernel
theorem dL_isTold_82 : decode cL_isTold 82 = .ok (.iload 11, 2) := by decide +kernel
theorem dL_isTold_84 : decode cL_isTold 84 = .ok (.iload 8, 2) := by decide +kernel
theorem dL_isTold_86 : decode cL_isTold 86 = .ok (.if_icmp .gt 112, 3) := by decide +kernel
theorem dL_isTold_89 : decode cL_isTold 89 = .ok (.iload 10, 2) := by decide +kernel
theorem dL_isTold_91 : decode cL_isTold 91 = .ok (.iload 7, 2) := by decide +kernel
theorem dL_isTold_93 : decode cL_isTold 93 = .ok (.if_icmp .eq 10, 3) := by decide +kernel
theorem dL_isTold_96 : decode cL_isTold 96 = .ok (.iload 11, 2) := by decide +kernel
theorem dL_isTold_98 : decode cL_isTold 98 = .ok (.iload 8, 2) := by decide +kernel
theorem dL_isTold_100 : decode cL_isTold 100 = .ok (.if_icmp .ne 98, 3) := by decide +kernel
theorem dL_isTold_103 : decode cL_isTold 103 = .ok (.aload_n 0, 1) := by decide +kernel
theorem dL_isTold_104 : decode cL_isTold 104 = .ok (.iload 5, 2) := by decide +kernel
theorem dL_isTold_106 : decode cL_isTold 106 = .ok (.iconst 3, 1) := by decide +kernel
theorem dL_isTold_107 : decode cL_isTold 107 = .ok (.invokevirtual 69, 3) := by decide +kernel
theorem dL_isTold_110 : decode cL_isTold 110 = .ok (.iload 8, 2) := by decide +kernel
theorem dL_isTold_112 : decode cL_isTold 112 = .ok (.iload 11, 2) := by decide +kernel
theorem dL_isTold_114 : decode cL_isTold 114 = .ok (.isub, 1) := by decide +kernel
theorem dL_isTold_115 : decode cL_isTold 115 = .ok (.if_icmp .ne 83, 3) := by decide +kernel
theorem dL_isTold_118 : decode cL_isTold 118 = .ok (.aload_n 0, 1) := by decide +kernel
theorem dL_isTold_119 : decode cL_isTold 119 = .ok (.iload 4, 2) := by decide +kernel
theorem dL_isTold_121 : decode cL_isTold 121 = .ok (.bipush 7, 2) := by decide +kernel
theorem dL_isTold_123 : decode cL_isTold 123 = .ok (.invokevirtual 57, 3) := by decide +kernel
theorem dL_isTold_126 : decode cL_isTold 126 = .ok (.iload 6, 2) := by decide +kernel
theorem dL_isTold_128 : decode cL_isTold 128 = .ok (.iload 10, 2) := by decide +kernel
theorem dL_isTold_130 : decode cL_isTold 130 = .ok (.aload_n 0, 1) := by decide +kernel
theorem dL_isTold_131 : decode cL_isTold 131 = .ok (.iload 4, 2) := by decide +kernel
theorem dL_isTold_133 : decode cL_isTold 133 = .ok (.iconst 3, 1) := by decide +kernel
theorem dL_isTold_134 : decode cL_isTold 134 = .ok (.invokevirtual 57, 3) := by decide +kernel
theorem dL_isTold_137 : decode cL_isTold 137 = .ok (.imul, 1) := by decide +kernel
theorem dL_isTold_138 : decode cL_isTold 138 = .ok (.iadd, 1) := by decide +kernel
theorem dL_isTold_139 : decode cL_isTold 139 = .ok (.if_icmp .ne 59, 3) := by decide +kernel
theorem dL_isTold_142 : decode cL_isTold 142 = .ok (.aload_n 0, 1) := by decide +kernel
theorem dL_isTold_143 : decode cL_isTold 143 = .ok (.iload 4, 2) := by decide +kernel
theorem dL_isTold_145 : decode cL_isTold 145 = .ok (.bipush 6, 2) := by decide +kernel
theorem dL_isTold_147 : decode cL_isTold 147 = .ok (.invokevirtual 57, 3) := by decide +kernel
theorem dL_isTold_150 : decode cL_isTold 150 = .ok (.iconst 2, 1) := by decide +kernel
theorem dL_isTold_151 : decode cL_isTold 151 = .ok (.if_icmp .ne 47, 3) := by decide +kernel
theorem dL_isTold_154 : decode cL_isTold 154 = .ok (.aload_n 0, 1) := by decide +kernel
theorem dL_isTold_155 : decode cL_isTold 155 = .ok (.iload_n 1, 1) := by decide +kernel
theorem dL_isTold_156 : decode cL_isTold 156 = .ok (.iconst 5, 1) := by decide +kernel
theorem dL_isTold_157 : decode cL_isTold 157 = .ok (.invokevirtual 60, 3) := by decide +kernel
theorem dL_isTold_160 : decode cL_isTold 160 = .ok (.iload 9, 2) := by decide +kernel
theorem dL_isTold_162 : decode cL_isTold 162 = .ok (.iconst 1, 1) := by decide +kernel
theorem dL_isTold_163 : decode cL_isTold 163 = .ok (.isub, 1) := by decide +kernel
theorem dL_isTold_164 : decode cL_isTold 164 = .ok (.if_icmp .ne 34, 3) := by decide +kernel
theorem dL_isTold_167 : decode cL_isTold 167 = .ok (.aload_n 0, 1) := by decide +kernel
theorem dL_isTold_168 : decode cL_isTold 168 = .ok (.iload_n 1, 1) := by decide +kernel
theorem dL_isTold_169 : decode cL_isTold 169 = .ok (.iconst 1, 1) := by decide +kernel
theorem dL_isTold_170 : decode cL_isTold 170 = .ok (.invokevirtual 60, 3) := by decide +kernel
theorem dL_isTold_173 : decode cL_isTold 173 = .ok (.aload_n 0, 1) := by decide +kernel
theorem dL_isTold_174 : decode cL_isTold 174 = .ok (.iload 4, 2) := by decide +kernel
theorem dL_isTold_176 : decode cL_isTold 176 = .ok (.iconst 2, 1) := by decide +kernel
theorem dL_isTold_177 : decode cL_isTold 177 = .ok (.invokevirtual 57, 3) := by decide +kernel
theorem dL_isTold_180 : decode cL_isTold 180 = .ok (.if_icmp .ne 18, 3) := by decide +kernel
theorem dL_isTold_183 : decode cL_isTold 183 = .ok (.aload_n 0, 1) := by decide +kernel
theorem dL_isTold_184 : decode cL_isTold 184 = .ok (.iload 4, 2) := by decide +kernel
theorem dL_isTold_186 : decode cL_isTold 186 = .ok (.iload_n 1, 1) := by decide +kernel
theorem dL_isTold_187 : decode cL_isTold 187 = .ok (.iconst 1, 1) := by decide +kernel
theorem dL_isTold_188 : decode cL_isTold 188 = .ok (.invokevirtual 112, 3) := by decide +kernel
theorem dL_isTold_191 : decode cL_isTold 191 = .ok (.ifCond .ne 7, 3) := by decide +kernel
theorem dL_isTold_194 : decode cL_isTold 194 = .ok (.iconst 1, 1) := by decide +kernel
theorem dL_isTold_195 : decode cL_isTold 195 = .ok (.goto 4, 3) := by decide +kernel
theorem dL_isTold_198 : decode cL_isTold 198 = .ok (.iconst 0, 1) := by decide +kernel
theorem dL_isTold_199 : decode cL_isTold 199 = .ok (.ireturn, 1) := by decide +kernel
theorem dL_areJobsRight_0 : decode cL_areJobsRight 0 = .ok (.iconst 4, 1) := by decide +kernel
theorem dL_areJobsRight_1 : decode cL_areJobsRight 1 = .ok (.newarray .int, 2) := by decide +kernel
theorem dL_areJobsRight_3 : decode cL_areJobsRight 3 = .ok (.astore_n 1, 1) := by decide +kernel
theorem dL_areJobsRight_4 : decode cL_areJobsRight 4 = .ok (.iconst 0, 1) := by decide +kernel
theorem dL_areJobsRight_5 : decode cL_areJobsRight 5 = .ok (.istore_n 2, 1) := by decide +kernel
theorem dL_areJobsRight_6 : decode cL_areJobsRight 6 = .ok (.iconst 0, 1) := by decide +kernel
theorem dL_areJobsRight_7 : decode cL_areJobsRight 7 = .ok (.istore_n 3, 1) := by decide +kernel
theorem dL_areJobsRight_8 : decode cL_areJobsRight 8 = .ok (.iconst 0, 1) := by decide +kernel
theorem dL_areJobsRight_9 : decode cL_areJobsRight 9 = .ok (.istore 4, 2) := by decide +kernel
theorem dL_areJobsRight_11 : decode cL_areJobsRight 11 = .ok (.iload 4, 2) := by decide +kernel
theorem dL_areJobsRight_13 : decode cL_areJobsRight 13 = .ok (.aload_n 0, 1) := by decide +kernel
theorem dL_areJobsRight_14 : decode cL_areJobsRight 14 = .ok (.iconst 0, 1) := by decide +kernel
theorem dL_areJobsRight_15 : decode cL_areJobsRight 15 = .ok (.invokevirtual 18, 3) := by decide +kernel
theorem dL_areJobsRight_18 : decode cL_areJobsRight 18 = .ok (.if_icmp .ge 411, 3) := by decide +kernel
theorem dL_areJobsRight_21 : decode cL_areJobsRight 21 = .ok (.aload_n 0, 1) := by decide +kernel
theorem dL_areJobsRight_22 : decode cL_areJobsRight 22 = .ok (.iload 4, 2) := by decide +kernel
theorem dL_areJobsRight_24 : decode cL_areJobsRight 24 = .ok (.bipush 6, 2) := by decide +kernel
theorem dL_areJobsRight_26 : decode cL_areJobsRight 26 = .ok (.invokevirtual 57, 3) := by decide +kernel
theorem dL_areJobsRight_29 : decode cL_areJobsRight 29 = .ok (.istore 5, 2) := by decide +kernel
theorem dL_areJobsRight_31 : decode cL_areJobsRight 31 = .ok (.aload_n 1, 1) := by decide +kernel
theorem dL_areJobsRight_32 : decode cL_areJobsRight 32 = .ok (.iload 5, 2) := by decide +kernel
theorem dL_areJobsRight_34 : decode cL_areJobsRight 34 = .ok (.dup2, 1) := by decide +kernel
theorem dL_areJobsRight_35 : decode cL_areJobsRight 35 = .ok (.iaload, 1) := by decide +kernel
theorem dL_areJobsRight_36 : decode cL_areJobsRight 36 = .ok (.iconst 1, 1) := by decide +kernel
theorem dL_areJobsRight_37 : decode cL_areJobsRight 37 = .ok (.iadd, 1) := by decide +kernel
theorem dL_areJobsRight_38 : decode cL_areJobsRight 38 = .ok (.iastore, 1) := by decide +kernel
theorem dL_areJobsRight_39 : decode cL_areJobsRight 39 = .ok (.iload_n 2, 1) := by decide +kernel
theorem dL_areJobsRight_40 : decode cL_areJobsRight 40 = .ok (.aload_n 0, 1) := by decide +kernel
theorem dL_areJobsRight_41 : decode cL_areJobsRight 41 = .ok (.iload 4, 2) := by decide +kernel
theorem dL_areJobsRight_43 : decode cL_areJobsRight 43 = .ok (.bipush 10, 2) := by decide +kernel
theorem dL_areJobsRight_45 : decode cL_areJobsRight 45 = .ok (.invokevirtual 57, 3) := by decide +kernel
theorem dL_areJobsRight_48 : decode cL_areJobsRight 48 = .ok (.iadd, 1) := by decide +kernel
theorem dL_areJobsRight_49 : decode cL_areJobsRight 49 = .ok (.istore_n 2, 1) := by decide +kernel
theorem dL_areJobsRight_50 : decode cL_areJobsRight 50 = .ok (.iload_n 3, 1) := by decide +kernel
theorem dL_areJobsRight_51 : decode cL_areJobsRight 51 = .ok (.aload_n 0, 1) := by decide +kernel
theorem dL_areJobsRight_52 : decode cL_areJobsRight 52 = .ok (.iload 4, 2) := by decide +kernel
theorem dL_areJobsRight_54 : decode cL_areJobsRight 54 = .ok (.bipush 11, 2) := by decide +kernel
theorem dL_areJobsRight_56 : decode cL_areJobsRight 56 = .ok (.invokevirtual 57, 3) := by decide +kernel
theorem dL_areJobsRight_59 : decode cL_areJobsRight 59 = .ok (.iadd, 1) := by decide +kernel
theorem dL_areJobsRight_60 : decode cL_areJobsRight 60 = .ok (.istore_n 3, 1) := by decide +kernel
theorem dL_areJobsRight_61 : decode cL_areJobsRight 61 = .ok (.iconst 0, 1) := by decide +kernel
theorem dL_areJobsRight_62 : decode cL_areJobsRight 62 = .ok (.istore 6, 2) := by decide +kernel
theorem dL_areJobsRight_64 : decode cL_areJobsRight 64 = .ok (.iconst 0, 1) := by decide +kernel
theorem dL_areJobsRight_65 : decode cL_areJobsRight 65 = .ok (.istore 7, 2) := by decide +kernel
theorem dL_areJobsRight_67 : decode cL_areJobsRight 67 = .ok (.iload 7, 2) := by decide +kernel
theorem dL_areJobsRight_69 : decode cL_areJobsRight 69 = .ok (.iconst 3, 1) := by decide +kernel
theorem dL_areJobsRight_70 : decode cL_areJobsRight 70 = .ok (.if_icmp .ge 66, 3) := by decide +kernel
theorem dL_areJobsRight_73 : decode cL_areJobsRight 73 = .ok (.iconst 0, 1) := by decide +kernel
theorem dL_areJobsRight_74 : decode cL_areJobsRight 74 = .ok (.istore 8, 2) := by decide +kernel
theorem dL_areJobsRight_76 : decode cL_areJobsRight 76 = .ok (.iload 8, 2) := by decide +kernel
theorem dL_areJobsRight_78 : decode cL_areJobsRight 78 = .ok (.aload_n 0, 1) := by decide +kernel
theorem dL_areJobsRight_79 : decode cL_areJobsRight 79 = .ok (.iload 7, 2) := by decide +kernel
theorem dL_areJobsRight_81 : decode cL_areJobsRight 81 = .ok (.iconst 5, 1) := by decide +kernel
theorem dL_areJobsRight_82 : decode cL_areJobsRight 82 = .ok (.invokevirtual 60, 3) := by decide +kernel
theorem dL_areJobsRight_85 : decode cL_areJobsRight 85 = .ok (.if_icmp .ge 45, 3) := by decide +kernel
theorem dL_areJobsRight_88 : decode cL_areJobsRight 88 = .ok (.iload 6, 2) := by decide +kernel
theorem dL_areJobsRight_90 : decode cL_areJobsRight 90 = .ok (.aload_n 0, 1) := by decide +kernel
theorem dL_areJobsRight_91 : decode cL_areJobsRight 91 = .ok (.iload 7, 2) := by decide +kernel
theorem dL_areJobsRight_93 : decode cL_areJobsRight 93 = .ok (.iload 8, 2) := by decide +kernel
theorem dL_areJobsRight_95 : decode cL_areJobsRight 95 = .ok (.invokevirtual 63, 3) := by decide +kernel
theorem dL_areJobsRight_98 : decode cL_areJobsRight 98 = .ok (.iload 4, 2) := by decide +kernel
theorem dL_areJobsRight_100 : decode cL_areJobsRight 100 = .ok (.if_icmp .ne 20, 3) := by decide +kernel
theorem dL_areJobsRight_103 : decode cL_areJobsRight 103 = .ok (.aload_n 0, 1) := by decide +kernel
theorem dL_areJobsRight_104 : decode cL_areJobsRight 104 = .ok (.iload 4, 2) := by decide +kernel
theorem dL_areJobsRight_106 : decode cL_areJobsRight 106 = .ok (.bipush 12, 2) := by decide +kernel
theorem dL_areJobsRight_108 : decode cL_areJobsRight 108 = .ok (.invokevirtual 57, 3) := by decide +kernel
theorem dL_areJobsRight_111 : decode cL_areJobsRight 111 = .ok (.iload 7, 2) := by decide +kernel
theorem dL_areJobsRight_113 : decode cL_areJobsRight 113 = .ok (.if_icmp .ne 7, 3) := by decide +kernel
theorem dL_areJobsRight_116 : decode cL_areJobsRight 116 = .ok (.iconst 1, 1) := by decide +kernel
theorem dL_areJobsRight_117 : decode cL_areJobsRight 117 = .ok (.goto 4, 3) := by decide +kernel
theorem dL_areJobsRight_120 : decode cL_areJobsRight 120 = .ok (.iconst 0, 1) := by decide +kernel
theorem dL_areJobsRight_121 : decode cL_areJobsRight 121 = .ok (.iadd, 1) := by decide +kernel
theorem dL_areJobsRight_122 : decode cL_areJobsRight 122 = .ok (.istore 6, 2) := by decide +kernel
theorem dL_areJobsRight_124 : decode cL_areJobsRight 124 = .ok (.iinc 8 1, 3) := by decide +kernel
theorem dL_areJobsRight_127 : decode cL_areJobsRight 127 = .ok (.goto (-51), 3) := by decide +kernel
theorem dL_areJobsRight_130 : decode cL_areJobsRight 130 = .ok (.iinc 7 1, 3) := by decide +kernel
theorem dL_areJobsRight_133 : decode cL_areJobsRight 133 = .ok (.goto (-66), 3) := by decide +kernel
theorem dL_areJobsRight_136 : decode cL_areJobsRight 136 = .ok (.aload_n 0, 1) := by decide +kernel
theorem dL_areJobsRight_137 : decode cL_areJobsRight 137 = .ok (.iload 4, 2) := by decide +kernel
theorem dL_areJobsRight_139 : decode cL_areJobsRight 139 = .ok (.iconst 1, 1) := by decide +kernel
theorem dL_areJobsRight_140 : decode cL_areJobsRight 140 = .ok (.invokevirtual 57, 3) := by decide +kernel
theorem dL_areJobsRight_143 : decode cL_areJobsRight 143 = .ok (.istore 7, 2) := by decide +kernel
theorem dL_areJobsRight_145 : decode cL_areJobsRight 145 = .ok (.aload_n 0, 1) := by decide +kernel
theorem dL_areJobsRight_146 : decode cL_areJobsRight 146 = .ok (.iload 4, 2) := by decide +kernel
theorem dL_areJobsRight_148 : decode cL_areJobsRight 148 = .ok (.bipush 7, 2) := by decide +kernel
theorem dL_areJobsRight_150 : decode cL_areJobsRight 150 = .ok (.invokevirtual 57, 3) := by decide +kernel
theorem dL_areJobsRight_153 : decode cL_areJobsRight 153 = .ok (.istore 8, 2) := by decide +kernel
theorem dL_areJobsRight_155 : decode cL_areJobsRight 155 = .ok (.aload_n 0, 1) := by decide +kernel
theorem dL_areJobsRight_156 : decode cL_areJobsRight 156 = .ok (.iload 4, 2) := by decide +kernel
theorem dL_areJobsRight_158 : decode cL_areJobsRight 158 = .ok (.iconst 3, 1) := by decide +kernel
theorem dL_areJobsRight_159 : decode cL_areJobsRight 159 = .ok (.invokevirtual 57, 3) := by decide +kernel
theorem dL_areJobsRight_162 : decode cL_areJobsRight 162 = .ok (.istore 9, 2) := by decide +kernel
theorem dL_areJobsRight_164 : decode cL_areJobsRight 164 = .ok (.aload_n 0, 1) := by decide +kernel
theorem dL_areJobsRight_165 : decode cL_areJobsRight 165 = .ok (.iload 4, 2) := by decide +kernel
theorem dL_areJobsRight_167 : decode cL_areJobsRight 167 = .ok (.bipush 8, 2) := by decide +kernel
theorem dL_areJobsRight_169 : decode cL_areJobsRight 169 = .ok (.invokevirtual 57, 3) := by decide +kernel
theorem dL_areJobsRight_172 : decode cL_areJobsRight 172 = .ok (.istore 10, 2) := by decide +kernel
theorem dL_areJobsRight_174 : decode cL_areJobsRight 174 = .ok (.iload 6, 2) := by decide +kernel
theorem dL_areJobsRight_176 : decode cL_areJobsRight 176 = .ok (.iload 5, 2) := by decide +kernel
theorem dL_areJobsRight_178 : decode cL_areJobsRight 178 = .ok (.iconst 1, 1) := by decide +kernel
theorem dL_areJobsRight_179 : decode cL_areJobsRight 179 = .ok (.if_icmp .ne 7, 3) := by decide +kernel
theorem dL_areJobsRight_182 : decode cL_areJobsRight 182 = .ok (.iconst 1, 1) := by decide +kernel
theorem dL_areJobsRight_183 : decode cL_areJobsRight 183 = .ok (.goto 4, 3) := by decide +kernel
theorem dL_areJobsRight_186 : decode cL_areJobsRight 186 = .ok (.iconst 0, 1) := by decide +kernel
theorem dL_areJobsRight_187 : decode cL_areJobsRight 187 = .ok (.if_icmp .ne 57, 3) := by decide +kernel
theorem dL_areJobsRight_190 : decode cL_areJobsRight 190 = .ok (.iload 5, 2) := by decide +kernel
theorem dL_areJobsRight_192 : decode cL_areJobsRight 192 = .ok (.ifCond .ne 7, 3) := by decide +kernel
theorem dL_areJobsRight_195 : decode cL_areJobsRight 195 = .ok (.iconst 1, 1) := by decide +kernel
theorem dL_areJobsRight_196 : decode cL_areJobsRight 196 = .ok (.goto 4, 3) := by decide +kernel
theorem dL_areJobsRight_199 : decode cL_areJobsRight 199 = .ok (.iconst 0, 1) := by decide +kernel
theorem dL_areJobsRight_200 : decode cL_areJobsRight 200 = .ok (.aload_n 0, 1) := by decide +kernel
theorem dL_areJobsRight_201 : decode cL_areJobsRight 201 = .ok (.iload 4, 2) := by decide +kernel
theorem dL_areJobsRight_203 : decode cL_areJobsRight 203 = .ok (.bipush 12, 2) := by decide +kernel
theorem dL_areJobsRight_205 : decode cL_areJobsRight 205 = .ok (.invokevirtual 57, 3) := by decide +kernel
theorem dL_areJobsRight_208 : decode cL_areJobsRight 208 = .ok (.iconst (-1), 1) := by decide +kernel
theorem dL_areJobsRight_209 : decode cL_areJobsRight 209 = .ok (.if_icmp .ne 7, 3) := by decide +kernel
theorem dL_areJobsRight_212 : decode cL_areJobsRight 212 = .ok (.iconst 1, 1) := by decide +kernel
theorem dL_areJobsRight_213 : decode cL_areJobsRight 213 = .ok (.goto 4, 3) := by decide +kernel
theorem dL_areJobsRight_216 : decode cL_areJobsRight 216 = .ok (.iconst 0, 1) := by decide +kernel
theorem dL_areJobsRight_217 : decode cL_areJobsRight 217 = .ok (.if_icmp .ne 27, 3) := by decide +kernel
theorem dL_areJobsRight_220 : decode cL_areJobsRight 220 = .ok (.iload 8, 2) := by decide +kernel
theorem dL_areJobsRight_222 : decode cL_areJobsRight 222 = .ok (.iload 9, 2) := by decide +kernel
theorem dL_areJobsRight_224 : decode cL_areJobsRight 224 = .ok (.irem, 1) := by decide +kernel
theorem dL_areJobsRight_225 : decode cL_areJobsRight 225 = .ok (.ifCond .ne 19, 3) := by decide +kernel
theorem dL_areJobsRight_228 : decode cL_areJobsRight 228 = .ok (.iload 9, 2) := by decide +kernel
theorem dL_areJobsRight_230 : decode cL_areJobsRight 230 = .ok (.iconst 1, 1) := by decide +kernel
theorem dL_areJobsRight_231 : decode cL_areJobsRight 231 = .ok (.if_icmp .lt 13, 3) := by decide +kernel
theorem dL_areJobsRight_234 : decode cL_areJobsRight 234 = .ok (.aload_n 0, 1) := by decide +kernel
theorem dL_areJobsRight_235 : decode cL_areJobsRight 235 = .ok (.iload 4, 2) := by decide +kernel
theorem dL_areJobsRight_237 : decode cL_areJobsRight 237 = .ok (.iconst 5, 1) := by decide +kernel
theorem dL_areJobsRight_238 : decode cL_areJobsRight 238 = .ok (.invokevirtual 57, 3) := by decide +kernel
theorem dL_areJobsRight_241 : decode cL_areJobsRight 241 = .ok (.ifCond .ge 5, 3) := by decide +kernel
theorem dL_areJobsRight_244 : decode cL_areJobsRight 244 = .ok (.iconst 0, 1) := by decide +kernel
theorem dL_areJobsRight_245 : decode cL_areJobsRight 245 = .ok (.ireturn, 1) := by decide +kernel
theorem dL_areJobsRight_246 : decode cL_areJobsRight 246 = .ok (.iload 8, 2) := by decide +kernel
theorem dL_areJobsRight_248 : decode cL_areJobsRight 248 = .ok (.iload 7, 2) := by decide +kernel
theorem dL_areJobsRight_250 : decode cL_areJobsRight 250 = .ok (.if_icmp .lt 11, 3) := by decide +kernel
theorem dL_areJobsRight_253 : decode cL_areJobsRight 253 = .ok (.iload 10, 2) := by decide +kernel
theorem dL_areJobsRight_255 : decode cL_areJobsRight 255 = .ok (.ifCond .eq 36, 3) := by decide +kernel
theorem dL_areJobsRight_258 : decode cL_areJobsRight 258 = .ok (.goto 31, 3) := by decide +kernel
theorem dL_areJobsRight_261 : decode cL_areJobsRight 261 = .ok (.iload 10, 2) := by decide +kernel
theorem dL_areJobsRight_263 : decode cL_areJobsRight 263 = .ok (.iload 9, 2) := by decide +kernel
theorem dL_areJobsRight_265 : decode cL_areJobsRight 265 = .ok (.imul, 1) := by decide +kernel
theorem dL_areJobsRight_266 : decode cL_areJobsRight 266 = .ok (.iload 7, 2) := by decide +kernel
theorem dL_areJobsRight_268 : decode cL_areJobsRight 268 = .ok (.iload 8, 2) := by decide +kernel
theorem dL_areJobsRight_270 : decode cL_areJobsRight 270 = .ok (.isub, 1) := by decide +kernel
theorem dL_areJobsRight_271 : decode cL_areJobsRight 271 = .ok (.if_icmp .lt 18, 3) := by decide +kernel
theorem dL_areJobsRight_274 : decode cL_areJobsRight 274 = .ok (.iload 10, 2) := by decide +kernel
theorem dL_areJobsRight_276 : decode cL_areJobsRight 276 = .ok (.iconst 1, 1) := by decide +kernel
theorem dL_areJobsRight_277 : decode cL_areJobsRight 277 = .ok (.isub, 1) := by decide +kernel
theorem dL_areJobsRight_278 : decode cL_areJobsRight 278 = .ok (.iload 9, 2) := by decide +kernel
theorem dL_areJobsRight_280 : decode cL_areJobsRight 280 = .ok (.imul, 1) := by decide +kernel
theorem dL_areJobsRight_281 : decode cL_areJobsRight 281 = .ok (.iload 7, 2) := by decide +kernel
theorem dL_areJobsRight_283 : decode cL_areJobsRight 283 = .ok (.iload 8, 2) := by decide +kernel
theorem dL_areJobsRight_285 : decode cL_areJobsRight 285 = .ok (.isub, 1) := by decide +kernel
theorem dL_areJobsRight_286 : decode cL_areJobsRight 286 = .ok (.if_icmp .lt 5, 3) := by decide +kernel
theorem dL_areJobsRight_289 : decode cL_areJobsRight 289 = .ok (.iconst 0, 1) := by decide +kernel
theorem dL_areJobsRight_290 : decode cL_areJobsRight 290 = .ok (.ireturn, 1) := by decide +kernel
theorem dL_areJobsRight_291 : decode cL_areJobsRight 291 = .ok (.iload 5, 2) := by decide +kernel
theorem dL_areJobsRight_293 : decode cL_areJobsRight 293 = .ok (.iconst 3, 1) := by decide +kernel
theorem dL_areJobsRight_294 : decode cL_areJobsRight 294 = .ok (.if_icmp .ne 16, 3) := by decide +kernel
theorem dL_areJobsRight_297 : decode cL_areJobsRight 297 = .ok (.iload 8, 2) := by decide +kernel
theorem dL_areJobsRight_299 : decode cL_areJobsRight 299 = .ok (.iload 7, 2) := by decide +kernel
theorem dL_areJobsRight_301 : decode cL_areJobsRight 301 = .ok (.iload 7, 2) := by decide +kernel
theorem dL_areJobsRight_303 : decode cL_areJobsRight 303 = .ok (.bipush 20, 2) := by decide +kernel
theorem dL_areJobsRight_305 : decode cL_areJobsRight 305 = .ok (.idiv, 1) := by decide +kernel
theorem dL_areJobsRight_306 : decode cL_areJobsRight 306 = .ok (.isub, 1) := by decide +kernel
theorem dL_areJobsRight_307 : decode cL_areJobsRight 307 = .ok (.if_icmp .lt 46, 3) := by decide +kernel
theorem dL_areJobsRight_310 : decode cL_areJobsRight 310 = .ok (.iload 5, 2) := by decide +kernel
theorem dL_areJobsRight_312 : decode cL_areJobsRight 312 = .ok (.iconst 3, 1) := by decide +kernel
theorem dL_areJobsRight_313 : decode cL_areJobsRight 313 = .ok (.if_icmp .ne 7, 3) := by decide +kernel
theorem dL_areJobsRight_316 : decode cL_areJobsRight 316 = .ok (.iconst 1, 1) := by decide +kernel
theorem dL_areJobsRight_317 : decode cL_areJobsRight 317 = .ok (.goto 4, 3) := by decide +kernel
theorem dL_areJobsRight_320 : decode cL_areJobsRight 320 = .ok (.iconst 0, 1) := by decide +kernel
theorem dL_areJobsRight_321 : decode cL_areJobsRight 321 = .ok (.aload_n 0, 1) := by decide +kernel
theorem dL_areJobsRight_322 : decode cL_areJobsRight 322 = .ok (.iload 4, 2) := by decide +kernel
theorem dL_areJobsRight_324 : decode cL_areJobsRight 324 = .ok (.bipush 11, 2) := by decide +kernel
theorem dL_areJobsRight_326 : decode cL_areJobsRight 326 = .ok (.invokevirtual 57, 3) := by decide +kernel
theorem dL_areJobsRight_329 : decode cL_areJobsRight 329 = .ok (.ifCond .le 7, 3) := by decide +kernel
theorem dL_areJobsRight_332 : decode cL_areJobsRight 332 = .ok (.iconst 1, 1) := by decide +kernel
theorem dL_areJobsRight_333 : decode cL_areJobsRight 333 = .ok (.goto 4, 3) := by decide +kernel
theorem dL_areJobsRight_336 : decode cL_areJobsRight 336 = .ok (.iconst 0, 1) := by decide +kernel
theorem dL_areJobsRight_337 : decode cL_areJobsRight 337 = .ok (.if_icmp .eq 18, 3) := by decide +kernel
theorem dL_areJobsRight_340 : decode cL_areJobsRight 340 = .ok (.aload_n 0, 1) := by decide +kernel
theorem dL_areJobsRight_341 : decode cL_areJobsRight 341 = .ok (.iload 4, 2) := by decide +kernel
theorem dL_areJobsRight_343 : decode cL_areJobsRight 343 = .ok (.bipush 9, 2) := by decide +kernel
theorem dL_areJobsRight_345 : decode cL_areJobsRight 345 = .ok (.invokevirtual 57, 3) := by decide +kernel
theorem dL_areJobsRight_348 : decode cL_areJobsRight 348 = .ok (.iload 7, 2) := by decide +kernel
theorem dL_areJobsRight_350 : decode cL_areJobsRight 350 = .ok (.if_icmp .le 5, 3) := by decide +kernel
theorem dL_areJobsRight_353 : decode cL_areJobsRight 353 = .ok (.iconst 0, 1) := by decide +kernel
theorem dL_areJobsRight_354 : decode cL_areJobsRight 354 = .ok (.ireturn, 1) := by decide +kernel
theorem dL_areJobsRight_355 : decode cL_areJobsRight 355 = .ok (.aload_n 0, 1) := by decide +kernel
theorem dL_areJobsRight_356 : decode cL_areJobsRight 356 = .ok (.iload 4, 2) := by decide +kernel
theorem dL_areJobsRight_358 : decode cL_areJobsRight 358 = .ok (.invokevirtual 115, 3) := by decide +kernel
theorem dL_areJobsRight_361 : decode cL_areJobsRight 361 = .ok (.istore 11, 2) := by decide +kernel
theorem dL_areJobsRight_363 : decode cL_areJobsRight 363 = .ok (.iconst 0, 1) := by decide +kernel
theorem dL_areJobsRight_364 : decode cL_areJobsRight 364 = .ok (.istore 12, 2) := by decide +kernel
theorem dL_areJobsRight_366 : decode cL_areJobsRight 366 = .ok (.iload 12, 2) := by decide +kernel
theorem dL_areJobsRight_368 : decode cL_areJobsRight 368 = .ok (.iconst 3, 1) := by decide +kernel
theorem dL_areJobsRight_369 : decode cL_areJobsRight 369 = .ok (.if_icmp .ge 54, 3) := by decide +kernel
theorem dL_areJobsRight_372 : decode cL_areJobsRight 372 = .ok (.aload_n 0, 1) := by decide +kernel
theorem dL_areJobsRight_373 : decode cL_areJobsRight 373 = .ok (.iload 4, 2) := by decide +kernel
theorem dL_areJobsRight_375 : decode cL_areJobsRight 375 = .ok (.iload 12, 2) := by decide +kernel
theorem dL_areJobsRight_377 : decode cL_areJobsRight 377 = .ok (.iconst 5, 1) := by decide +kernel
theorem dL_areJobsRight_378 : decode cL_areJobsRight 378 = .ok (.invokevirtual 112, 3) := by decide +kernel
theorem dL_areJobsRight_381 : decode cL_areJobsRight 381 = .ok (.aload_n 0, 1) := by decide +kernel
theorem dL_areJobsRight_382 : decode cL_areJobsRight 382 = .ok (.iload 4, 2) := by decide +kernel
theorem dL_areJobsRight_384 : decode cL_areJobsRight 384 = .ok (.iload 11, 2) := by decide +kernel
theorem dL_areJobsRight_386 : decode cL_areJobsRight 386 = .ok (.iconst 5, 1) := by decide +kernel
theorem dL_areJobsRight_387 : decode cL_areJobsRight 387 = .ok (.invokevirtual 112, 3) := by decide +kernel
theorem dL_areJobsRight_390 : decode cL_areJobsRight 390 = .ok (.if_icmp .lt 25, 3) := by decide +kernel
theorem dL_areJobsRight_393 : decode cL_areJobsRight 393 = .ok (.aload_n 0, 1) := by decide +kernel
theorem dL_areJobsRight_394 : decode cL_areJobsRight 394 = .ok (.iload 4, 2) := by decide +kernel
theorem dL_areJobsRight_396 : decode cL_areJobsRight 396 = .ok (.iload 12, 2) := by decide +kernel
theorem dL_areJobsRight_398 : decode cL_areJobsRight 398 = .ok (.bipush 6, 2) := by decide +kernel
theorem dL_areJobsRight_400 : decode cL_areJobsRight 400 = .ok (.invokevirtual 112, 3) := by decide +kernel
theorem dL_areJobsRight_403 : decode cL_areJobsRight 403 = .ok (.aload_n 0, 1) := by decide +kernel
theorem dL_areJobsRight_404 : decode cL_areJobsRight 404 = .ok (.iload 4, 2) := by decide +kernel
theorem dL_areJobsRight_406 : decode cL_areJobsRight 406 = .ok (.iload 12, 2) := by decide +kernel
theorem dL_areJobsRight_408 : decode cL_areJobsRight 408 = .ok (.iconst 5, 1) := by decide +kernel
theorem dL_areJobsRight_409 : decode cL_areJobsRight 409 = .ok (.invokevirtual 112, 3) := by decide +kernel
theorem dL_areJobsRight_412 : decode cL_areJobsRight 412 = .ok (.if_icmp .ge 5, 3) := by decide +kernel
theorem dL_areJobsRight_415 : decode cL_areJobsRight 415 = .ok (.iconst 0, 1) := by decide +kernel
theorem dL_areJobsRight_416 : decode cL_areJobsRight 416 = .ok (.ireturn, 1) := by decide +kernel
theorem dL_areJobsRight_417 : decode cL_areJobsRight 417 = .ok (.iinc 12 1, 3) := by decide +kernel
theorem dL_areJobsRight_420 : decode cL_areJobsRight 420 = .ok (.goto (-54), 3) := by decide +kernel
theorem dL_areJobsRight_423 : decode cL_areJobsRight 423 = .ok (.iinc 4 1, 3) := by decide +kernel
theorem dL_areJobsRight_426 : decode cL_areJobsRight 426 = .ok (.goto (-415), 3) := by decide +kernel
theorem dL_areJobsRight_429 : decode cL_areJobsRight 429 = .ok (.iconst 0, 1) := by decide +kernel
theorem dL_areJobsRight_430 : decode cL_areJobsRight 430 = .ok (.istore 4, 2) := by decide +kernel
theorem dL_areJobsRight_432 : decode cL_areJobsRight 432 = .ok (.iload 4, 2) := by decide +kernel
theorem dL_areJobsRight_434 : decode cL_areJobsRight 434 = .ok (.iconst 4, 1) := by decide +kernel
theorem dL_areJobsRight_435 : decode cL_areJobsRight 435 = .ok (.if_icmp .ge 26, 3) := by decide +kernel
theorem dL_areJobsRight_438 : decode cL_areJobsRight 438 = .ok (.aload_n 0, 1) := by decide +kernel
theorem dL_areJobsRight_439 : decode cL_areJobsRight 439 = .ok (.iconst 1, 1) := by decide +kernel
theorem dL_areJobsRight_440 : decode cL_areJobsRight 440 = .ok (.iload 4, 2) := by decide +kernel
theorem dL_areJobsRight_442 : decode cL_areJobsRight 442 = .ok (.iadd, 1) := by decide +kernel
theorem dL_areJobsRight_443 : decode cL_areJobsRight 443 = .ok (.invokevirtual 18, 3) := by decide +kernel
theorem dL_areJobsRight_446 : decode cL_areJobsRight 446 = .ok (.aload_n 1, 1) := by decide +kernel
theorem dL_areJobsRight_447 : decode cL_areJobsRight 447 = .ok (.iload 4, 2) := by decide +kernel
theorem dL_areJobsRight_449 : decode cL_areJobsRight 449 = .ok (.iaload, 1) := by decide +kernel
theorem dL_areJobsRight_450 : decode cL_areJobsRight 450 = .ok (.if_icmp .eq 5, 3) := by decide +kernel
theorem dL_areJobsRight_453 : decode cL_areJobsRight 453 = .ok (.iconst 0, 1) := by decide +kernel
theorem dL_areJobsRight_454 : decode cL_areJobsRight 454 = .ok (.ireturn, 1) := by decide +kernel
theorem dL_areJobsRight_455 : decode cL_areJobsRight 455 = .ok (.iinc 4 1, 3) := by decide +kernel
theorem dL_areJobsRight_458 : decode cL_areJobsRight 458 = .ok (.goto (-26), 3) := by decide +kernel
theorem dL_areJobsRight_461 : decode cL_areJobsRight 461 = .ok (.aload_n 0, 1) := by decide +kernel
theorem dL_areJobsRight_462 : decode cL_areJobsRight 462 = .ok (.bipush 7, 2) := by decide +kernel
theorem dL_areJobsRight_464 : decode cL_areJobsRight 464 = .ok (.invokevirtual 18, 3) := by decide +kernel
theorem dL_areJobsRight_467 : decode cL_areJobsRight 467 = .ok (.iload_n 2, 1) := by decide +kernel
theorem dL_areJobsRight_468 : decode cL_areJobsRight 468 = .ok (.if_icmp .ne 17, 3) := by decide +kernel
theorem dL_areJobsRight_471 : decode cL_areJobsRight 471 = .ok (.aload_n 0, 1) := by decide +kernel
theorem dL_areJobsRight_472 : decode cL_areJobsRight 472 = .ok (.bipush 6, 2) := by decide +kernel
theorem dL_areJobsRight_474 : decode cL_areJobsRight 474 = .ok (.invokevirtual 18, 3) := by decide +kernel
theorem dL_areJobsRight_477 : decode cL_areJobsRight 477 = .ok (.iload_n 3, 1) := by decide +kernel
theorem dL_areJobsRight_478 : decode cL_areJobsRight 478 = .ok (.if_icmp .ne 7, 3) := by decide +kernel
theorem dL_areJobsRight_481 : decode cL_areJobsRight 481 = .ok (.iconst 1, 1) := by decide +kernel
theorem dL_areJobsRight_482 : decode cL_areJobsRight 482 = .ok (.goto 4, 3) := by decide +kernel
theorem dL_areJobsRight_485 : decode cL_areJobsRight 485 = .ok (.iconst 0, 1) := by decide +kernel
theorem dL_areJobsRight_486 : decode cL_areJobsRight 486 = .ok (.ireturn, 1) := by decide +kernel
theorem dL_arePressesRight_0 : decode cL_arePressesRight 0 = .ok (.iconst 0, 1) := by decide +kernel
theorem dL_arePressesRight_1 : decode cL_arePressesRight 1 = .ok (.istore_n 1, 1) := by decide +kernel
theorem dL_arePressesRight_2 : decode cL_arePressesRight 2 = .ok (.iconst 0, 1) := by decide +kernel
theorem dL_arePressesRight_3 : decode cL_arePressesRight 3 = .ok (.istore_n 2, 1) := by decide +kernel
theorem dL_arePressesRight_4 : decode cL_arePressesRight 4 = .ok (.iload_n 2, 1) := by decide +kernel
theorem dL_arePressesRight_5 : decode cL_arePressesRight 5 = .ok (.iconst 3, 1) := by decide +kernel
theorem dL_arePressesRight_6 : decode cL_arePressesRight 6 = .ok (.if_icmp .ge 163, 3) := by decide +kernel
theorem dL_arePressesRight_9 : decode cL_arePressesRight 9 = .ok (.iload_n 1, 1) := by decide +kernel
theorem dL_arePressesRight_10 : decode cL_arePressesRight 10 = .ok (.aload_n 0, 1) := by decide +kernel
theorem dL_arePressesRight_11 : decode cL_arePressesRight 11 = .ok (.iload_n 2, 1) := by decide +kernel
theorem dL_arePressesRight_12 : decode cL_arePressesRight 12 = .ok (.iconst 5, 1) := by decide +kernel
theorem dL_arePressesRight_13 : decode cL_arePressesRight 13 = .ok (.invokevirtual 60, 3) := by decide +kernel
theorem dL_arePressesRight_16 : decode cL_arePressesRight 16 = .ok (.iadd, 1) := by decide +kernel
theorem dL_arePressesRight_17 : decode cL_arePressesRight 17 = .ok (.istore_n 1, 1) := by decide +kernel
theorem dL_arePressesRight_18 : decode cL_arePressesRight 18 = .ok (.iconst 2, 1) := by decide +kernel
theorem dL_arePressesRight_19 : decode cL_arePressesRight 19 = .ok (.istore_n 3, 1) := by decide +kernel
theorem dL_arePressesRight_20 : decode cL_arePressesRight 20 = .ok (.iload_n 3, 1) := by decide +kernel
theorem dL_arePressesRight_21 : decode cL_arePressesRight 21 = .ok (.iconst 4, 1) := by decide +kernel
theorem dL_arePressesRight_22 : decode cL_arePressesRight 22 = .ok (.if_icmp .ge 33, 3) := by decide +kernel
theorem dL_arePressesRight_25 : decode cL_arePressesRight 25 = .ok (.aload_n 0, 1) := by decide +kernel
theorem dL_arePressesRight_26 : decode cL_arePressesRight 26 = .ok (.iload_n 2, 1) := by decide +kernel
theorem dL_arePressesRight_27 : decode cL_arePressesRight 27 = .ok (.iload_n 3, 1) := by decide +kernel
theorem dL_arePressesRight_28 : decode cL_arePressesRight 28 = .ok (.invokevirtual 60, 3) := by decide +kernel
theorem dL_arePressesRight_31 : decode cL_arePressesRight 31 = .ok (.iconst 1, 1) := by decide +kernel
theorem dL_arePressesRight_32 : decode cL_arePressesRight 32 = .ok (.if_icmp .lt 15, 3) := by decide +kernel
theorem dL_arePressesRight_35 : decode cL_arePressesRight 35 = .ok (.aload_n 0, 1) := by decide +kernel
theorem dL_arePressesRight_36 : decode cL_arePressesRight 36 = .ok (.iload_n 2, 1) := by decide +kernel
theorem dL_arePressesRight_37 : decode cL_arePressesRight 37 = .ok (.iload_n 3, 1) := by decide +kernel
theorem dL_arePressesRight_38 : decode cL_arePressesRight 38 = .ok (.invokevirtual 60, 3) := by decide +kernel
theorem dL_arePressesRight_41 : decode cL_arePressesRight 41 = .ok (.sipush 999, 3) := by decide +kernel
theorem dL_arePressesRight_44 : decode cL_arePressesRight 44 = .ok (.if_icmp .le 5, 3) := by decide +kernel
theorem dL_arePressesRight_47 : decode cL_arePressesRight 47 = .ok (.iconst 0, 1) := by decide +kernel
theorem dL_arePressesRight_48 : decode cL_arePressesRight 48 = .ok (.ireturn, 1) := by decide +kernel
theorem dL_arePressesRight_49 : decode cL_arePressesRight 49 = .ok (.iinc 3 1, 3) := by decide +kernel
theorem dL_arePressesRight_52 : decode cL_arePressesRight 52 = .ok (.goto (-32), 3) := by decide +kernel
theorem dL_arePressesRight_55 : decode cL_arePressesRight 55 = .ok (.aload_n 0, 1) := by decide +kernel
theorem dL_arePressesRight_56 : decode cL_arePressesRight 56 = .ok (.iload_n 2, 1) := by decide +kernel
theorem dL_arePressesRight_57 : decode cL_arePressesRight 57 = .ok (.iconst 0, 1) := by decide +kernel
theorem dL_arePressesRight_58 : decode cL_arePressesRight 58 = .ok (.invokevirtual 60, 3) := by decide +kernel
theorem dL_arePressesRight_61 : decode cL_arePressesRight 61 = .ok (.iconst 1, 1) := by decide +kernel
theorem dL_arePressesRight_62 : decode cL_arePressesRight 62 = .ok (.if_icmp .lt 66, 3) := by decide +kernel
theorem dL_arePressesRight_65 : decode cL_arePressesRight 65 = .ok (.aload_n 0, 1) := by decide +kernel
theorem dL_arePressesRight_66 : decode cL_arePressesRight 66 = .ok (.iload_n 2, 1) := by decide +kernel
theorem dL_arePressesRight_67 : decode cL_arePressesRight 67 = .ok (.iconst 0, 1) := by decide +kernel
theorem dL_arePressesRight_68 : decode cL_arePressesRight 68 = .ok (.invokevirtual 60, 3) := by decide +kernel
theorem dL_arePressesRight_71 : decode cL_arePressesRight 71 = .ok (.iconst 4, 1) := by decide +kernel
theorem dL_arePressesRight_72 : decode cL_arePressesRight 72 = .ok (.if_icmp .gt 56, 3) := by decide +kernel
theorem dL_arePressesRight_75 : decode cL_arePressesRight 75 = .ok (.aload_n 0, 1) := by decide +kernel
theorem dL_arePressesRight_76 : decode cL_arePressesRight 76 = .ok (.iload_n 2, 1) := by decide +kernel
theorem dL_arePressesRight_77 : decode cL_arePressesRight 77 = .ok (.iconst 4, 1) := by decide +kernel
theorem dL_arePressesRight_78 : decode cL_arePressesRight 78 = .ok (.invokevirtual 60, 3) := by decide +kernel
theorem dL_arePressesRight_81 : decode cL_arePressesRight 81 = .ok (.ifCond .lt 47, 3) := by decide +kernel
theorem dL_arePressesRight_84 : decode cL_arePressesRight 84 = .ok (.aload_n 0, 1) := by decide +kernel
theorem dL_arePressesRight_85 : decode cL_arePressesRight 85 = .ok (.iload_n 2, 1) := by decide +kernel
theorem dL_arePressesRight_86 : decode cL_arePressesRight 86 = .ok (.iconst 4, 1) := by decide +kernel
theorem dL_arePressesRight_87 : decode cL_arePressesRight 87 = .ok (.invokevirtual 60, 3) := by decide +kernel
theorem dL_arePressesRight_90 : decode cL_arePressesRight 90 = .ok (.sipush 999, 3) := by decide +kernel
theorem dL_arePressesRight_93 : decode cL_arePressesRight 93 = .ok (.if_icmp .gt 35, 3) := by decide +kernel
theorem dL_arePressesRight_96 : decode cL_arePressesRight 96 = .ok (.aload_n 0, 1) := by decide +kernel
theorem dL_arePressesRight_97 : decode cL_arePressesRight 97 = .ok (.iload_n 2, 1) := by decide +kernel
theorem dL_arePressesRight_98 : decode cL_arePressesRight 98 = .ok (.iconst 5, 1) := by decide +kernel
theorem dL_arePressesRight_99 : decode cL_arePressesRight 99 = .ok (.invokevirtual 60, 3) := by decide +kernel
theorem dL_arePressesRight_102 : decode cL_arePressesRight 102 = .ok (.ifCond .ne 7, 3) := by decide +kernel
theorem dL_arePressesRight_105 : decode cL_arePressesRight 105 = .ok (.iconst 1, 1) := by decide +kernel
theorem dL_arePressesRight_106 : decode cL_arePressesRight 106 = .ok (.goto 4, 3) := by decide +kernel
theorem dL_arePressesRight_109 : decode cL_arePressesRight 109 = .ok (.iconst 0, 1) := by decide +kernel
theorem dL_arePressesRight_110 : decode cL_arePressesRight 110 = .ok (.aload_n 0, 1) := by decide +kernel
theorem dL_arePressesRight_111 : decode cL_arePressesRight 111 = .ok (.iload_n 2, 1) := by decide +kernel
theorem dL_arePressesRight_112 : decode cL_arePressesRight 112 = .ok (.bipush 6, 2) := by decide +kernel
theorem dL_arePressesRight_114 : decode cL_arePressesRight 114 = .ok (.invokevirtual 60, 3) := by decide +kernel
theorem dL_arePressesRight_117 : decode cL_arePressesRight 117 = .ok (.ifCond .ne 7, 3) := by decide +kernel
theorem dL_arePressesRight_120 : decode cL_arePressesRight 120 = .ok (.iconst 1, 1) := by decide +kernel
theorem dL_arePressesRight_121 : decode cL_arePressesRight 121 = .ok (.goto 4, 3) := by decide +kernel
theorem dL_arePressesRight_124 : decode cL_arePressesRight 124 = .ok (.iconst 0, 1) := by decide +kernel
theorem dL_arePressesRight_125 : decode cL_arePressesRight 125 = .ok (.if_icmp .eq 5, 3) := by decide +kernel
theorem dL_arePressesRight_128 : decode cL_arePressesRight 128 = .ok (.iconst 0, 1) := by decide +kernel
theorem dL_arePressesRight_129 : decode cL_arePressesRight 129 = .ok (.ireturn, 1) := by decide +kernel
theorem dL_arePressesRight_130 : decode cL_arePressesRight 130 = .ok (.aload_n 0, 1) := by decide +kernel
theorem dL_arePressesRight_131 : decode cL_arePressesRight 131 = .ok (.iload_n 2, 1) := by decide +kernel
theorem dL_arePressesRight_132 : decode cL_arePressesRight 132 = .ok (.iconst 5, 1) := by decide +kernel
theorem dL_arePressesRight_133 : decode cL_arePressesRight 133 = .ok (.invokevirtual 60, 3) := by decide +kernel
theorem dL_arePressesRight_136 : decode cL_arePressesRight 136 = .ok (.ifCond .le 27, 3) := by decide +kernel
theorem dL_arePressesRight_139 : decode cL_arePressesRight 139 = .ok (.aload_n 0, 1) := by decide +kernel
theorem dL_arePressesRight_140 : decode cL_arePressesRight 140 = .ok (.iload_n 2, 1) := by decide +kernel
theorem dL_arePressesRight_141 : decode cL_arePressesRight 141 = .ok (.bipush 6, 2) := by decide +kernel
theorem dL_arePressesRight_143 : decode cL_arePressesRight 143 = .ok (.invokevirtual 60, 3) := by decide +kernel
theorem dL_arePressesRight_146 : decode cL_arePressesRight 146 = .ok (.aload_n 0, 1) := by decide +kernel
theorem dL_arePressesRight_147 : decode cL_arePressesRight 147 = .ok (.aload_n 0, 1) := by decide +kernel
theorem dL_arePressesRight_148 : decode cL_arePressesRight 148 = .ok (.iload_n 2, 1) := by decide +kernel
theorem dL_arePressesRight_149 : decode cL_arePressesRight 149 = .ok (.iconst 0, 1) := by decide +kernel
theorem dL_arePressesRight_150 : decode cL_arePressesRight 150 = .ok (.invokevirtual 63, 3) := by decide +kernel
theorem dL_arePressesRight_153 : decode cL_arePressesRight 153 = .ok (.iload_n 2, 1) := by decide +kernel
theorem dL_arePressesRight_154 : decode cL_arePressesRight 154 = .ok (.iconst 4, 1) := by decide +kernel
theorem dL_arePressesRight_155 : decode cL_arePressesRight 155 = .ok (.invokevirtual 112, 3) := by decide +kernel
theorem dL_arePressesRight_158 : decode cL_arePressesRight 158 = .ok (.if_icmp .ge 5, 3) := by decide +kernel
theorem dL_arePressesRight_161 : decode cL_arePressesRight 161 = .ok (.iconst 0, 1) := by decide +kernel
theorem dL_arePressesRight_162 : decode cL_arePressesRight 162 = .ok (.ireturn, 1) := by decide +kernel
theorem dL_arePressesRight_163 : decode cL_arePressesRight 163 = .ok (.iinc 2 1, 3) := by decide +kernel
theorem dL_arePressesRight_166 : decode cL_arePressesRight 166 = .ok (.goto (-162), 3) := by decide +kernel
theorem dL_arePressesRight_169 : decode cL_arePressesRight 169 = .ok (.iload_n 1, 1) := by decide +kernel
theorem dL_arePressesRight_170 : decode cL_arePressesRight 170 = .ok (.aload_n 0, 1) := by decide +kernel
theorem dL_arePressesRight_171 : decode cL_arePressesRight 171 = .ok (.iconst 2, 1) := by decide +kernel
theorem dL_arePressesRight_172 : decode cL_arePressesRight 172 = .ok (.invokevirtual 18, 3) := by decide +kernel
theorem dL_arePressesRight_175 : decode cL_arePressesRight 175 = .ok (.if_icmp .ne 36, 3) := by decide +kernel
theorem dL_arePressesRight_178 : decode cL_arePressesRight 178 = .ok (.aload_n 0, 1) := by decide +kernel
theorem dL_arePressesRight_179 : decode cL_arePressesRight 179 = .ok (.bipush 9, 2) := by decide +kernel
theorem dL_arePressesRight_181 : decode cL_arePressesRight 181 = .ok (.invokevirtual 18, 3) := by decide +kernel
theorem dL_arePressesRight_184 : decode cL_arePressesRight 184 = .ok (.aload_n 0, 1) := by decide +kernel
theorem dL_arePressesRight_185 : decode cL_arePressesRight 185 = .ok (.iconst 3, 1) := by decide +kernel
theorem dL_arePressesRight_186 : decode cL_arePressesRight 186 = .ok (.invokevirtual 18, 3) := by decide +kernel
theorem dL_arePressesRight_189 : decode cL_arePressesRight 189 = .ok (.aload_n 0, 1) := by decide +kernel
theorem dL_arePressesRight_190 : decode cL_arePressesRight 190 = .ok (.iconst 4, 1) := by decide +kernel
theorem dL_arePressesRight_191 : decode cL_arePressesRight 191 = .ok (.invokevirtual 18, 3) := by decide +kernel
theorem dL_arePressesRight_194 : decode cL_arePressesRight 194 = .ok (.iadd, 1) := by decide +kernel
theorem dL_arePressesRight_195 : decode cL_arePressesRight 195 = .ok (.if_icmp .lt 16, 3) := by decide +kernel
theorem dL_arePressesRight_198 : decode cL_arePressesRight 198 = .ok (.aload_n 0, 1) := by decide +kernel
theorem dL_arePressesRight_199 : decode cL_arePressesRight 199 = .ok (.bipush 10, 2) := by decide +kernel
theorem dL_arePressesRight_201 : decode cL_arePressesRight 201 = .ok (.invokevirtual 18, 3) := by decide +kernel
theorem dL_arePressesRight_204 : decode cL_arePressesRight 204 = .ok (.ifCond .lt 7, 3) := by decide +kernel
theorem dL_arePressesRight_207 : decode cL_arePressesRight 207 = .ok (.iconst 1, 1) := by decide +kernel
theorem dL_arePressesRight_208 : decode cL_arePressesRight 208 = .ok (.goto 4, 3) := by decide +kernel
theorem dL_arePressesRight_211 : decode cL_arePressesRight 211 = .ok (.iconst 0, 1) := by decide +kernel
theorem dL_arePressesRight_212 : decode cL_arePressesRight 212 = .ok (.ireturn, 1) := by decide +kernel
theorem dL_arePapersRight_0 : decode cL_arePapersRight 0 = .ok (.iconst 0, 1) := by decide +kernel
theorem dL_arePapersRight_1 : decode cL_arePapersRight 1 = .ok (.istore_n 2, 1) := by decide +kernel
theorem dL_arePapersRight_2 : decode cL_arePapersRight 2 = .ok (.iconst 0, 1) := by decide +kernel
theorem dL_arePapersRight_3 : decode cL_arePapersRight 3 = .ok (.istore_n 3, 1) := by decide +kernel
theorem dL_arePapersRight_4 : decode cL_arePapersRight 4 = .ok (.iload_n 3, 1) := by decide +kernel
theorem dL_arePapersRight_5 : decode cL_arePapersRight 5 = .ok (.iconst 4, 1) := by decide +kernel
theorem dL_arePapersRight_6 : decode cL_arePapersRight 6 = .ok (.if_icmp .ge 158, 3) := by decide +kernel
theorem dL_arePapersRight_9 : decode cL_arePapersRight 9 = .ok (.aload_n 0, 1) := by decide +kernel
theorem dL_arePapersRight_10 : decode cL_arePapersRight 10 = .ok (.iload_n 3, 1) := by decide +kernel
theorem dL_arePapersRight_11 : decode cL_arePapersRight 11 = .ok (.iconst 3, 1) := by decide +kernel
theorem dL_arePapersRight_12 : decode cL_arePapersRight 12 = .ok (.invokevirtual 69, 3) := by decide +kernel
theorem dL_arePapersRight_15 : decode cL_arePapersRight 15 = .ok (.istore 4, 2) := by decide +kernel
theorem dL_arePapersRight_17 : decode cL_arePapersRight 17 = .ok (.aload_n 0, 1) := by decide +kernel
theorem dL_arePapersRight_18 : decode cL_arePapersRight 18 = .ok (.iload_n 3, 1) := by decide +kernel
theorem dL_arePapersRight_19 : decode cL_arePapersRight 19 = .ok (.iconst 4, 1) := by decide +kernel
theorem dL_arePapersRight_20 : decode cL_arePapersRight 20 = .ok (.invokevirtual 69, 3) := by decide +kernel
theorem dL_arePapersRight_23 : decode cL_arePapersRight 23 = .ok (.istore 5, 2) := by decide +kernel
theorem dL_arePapersRight_25 : decode cL_arePapersRight 25 = .ok (.iload_n 2, 1) := by decide +kernel
theorem dL_arePapersRight_26 : decode cL_arePapersRight 26 = .ok (.iload 4, 2) := by decide +kernel
theorem dL_arePapersRight_28 : decode cL_arePapersRight 28 = .ok (.aload_n 0, 1) := by decide +kernel
theorem dL_arePapersRight_29 : decode cL_arePapersRight 29 = .ok (.iload_n 3, 1) := by decide +kernel
theorem dL_arePapersRight_30 : decode cL_arePapersRight 30 = .ok (.iconst 2, 1) := by decide +kernel
theorem dL_arePapersRight_31 : decode cL_arePapersRight 31 = .ok (.invokevirtual 69, 3) := by decide +kernel
theorem dL_arePapersRight_34 : decode cL_arePapersRight 34 = .ok (.imul, 1) := by decide +kernel
theorem dL_arePapersRight_35 : decode cL_arePapersRight 35 = .ok (.iadd, 1) := by decide +kernel
theorem dL_arePapersRight_36 : decode cL_arePapersRight 36 = .ok (.istore_n 2, 1) := by decide +kernel
theorem dL_arePapersRight_37 : decode cL_arePapersRight 37 = .ok (.iload 4, 2) := by decide +kernel
theorem dL_arePapersRight_39 : decode cL_arePapersRight 39 = .ok (.ifCond .lt 28, 3) := by decide +kernel
theorem dL_arePapersRight_42 : decode cL_arePapersRight 42 = .ok (.iload 4, 2) := by decide +kernel
theorem dL_arePapersRight_44 : decode cL_arePapersRight 44 = .ok (.ldc 118, 2) := by decide +kernel
theorem dL_arePapersRight_46 : decode cL_arePapersRight 46 = .ok (.if_icmp .gt 21, 3) := by decide +kernel
theorem dL_arePapersRight_49 : decode cL_arePapersRight 49 = .ok (.aload_n 0, 1) := by decide +kernel
theorem dL_arePapersRight_50 : decode cL_arePapersRight 50 = .ok (.iload_n 3, 1) := by decide +kernel
theorem dL_arePapersRight_51 : decode cL_arePapersRight 51 = .ok (.iconst 5, 1) := by decide +kernel
theorem dL_arePapersRight_52 : decode cL_arePapersRight 52 = .ok (.invokevirtual 69, 3) := by decide +kernel
theorem dL_arePapersRight_55 : decode cL_arePapersRight 55 = .ok (.iconst 0, 1) := by decide +kernel
theorem dL_arePapersRight_56 : decode cL_arePapersRight 56 = .ok (.iload 5, 2) := by decide +kernel
theorem dL_arePapersRight_58 : decode cL_arePapersRight 58 = .ok (.iload 4, 2) := by decide +kernel
theorem dL_arePapersRight_60 : decode cL_arePapersRight 60 = .ok (.isub, 1) := by decide +kernel
theorem dL_arePapersRight_61 : decode cL_arePapersRight 61 = .ok (.invokestatic 22, 3) := by decide +kernel
theorem dL_arePapersRight_64 : decode cL_arePapersRight 64 = .ok (.if_icmp .eq 5, 3) := by decide +kernel
theorem dL_arePapersRight_67 : decode cL_arePapersRight 67 = .ok (.iconst 0, 1) := by decide +kernel
theorem dL_arePapersRight_68 : decode cL_arePapersRight 68 = .ok (.ireturn, 1) := by decide +kernel
theorem dL_arePapersRight_69 : decode cL_arePapersRight 69 = .ok (.iconst 0, 1) := by decide +kernel
theorem dL_arePapersRight_70 : decode cL_arePapersRight 70 = .ok (.istore 6, 2) := by decide +kernel
theorem dL_arePapersRight_72 : decode cL_arePapersRight 72 = .ok (.iconst 0, 1) := by decide +kernel
theorem dL_arePapersRight_73 : decode cL_arePapersRight 73 = .ok (.istore 7, 2) := by decide +kernel
theorem dL_arePapersRight_75 : decode cL_arePapersRight 75 = .ok (.iload 7, 2) := by decide +kernel
theorem dL_arePapersRight_77 : decode cL_arePapersRight 77 = .ok (.iconst 3, 1) := by decide +kernel
theorem dL_arePapersRight_78 : decode cL_arePapersRight 78 = .ok (.if_icmp .ge 71, 3) := by decide +kernel
theorem dL_arePapersRight_81 : decode cL_arePapersRight 81 = .ok (.iconst 0, 1) := by decide +kernel
theorem dL_arePapersRight_82 : decode cL_arePapersRight 82 = .ok (.istore 8, 2) := by decide +kernel
theorem dL_arePapersRight_84 : decode cL_arePapersRight 84 = .ok (.iload 8, 2) := by decide +kernel
theorem dL_arePapersRight_86 : decode cL_arePapersRight 86 = .ok (.aload_n 0, 1) := by decide +kernel
theorem dL_arePapersRight_87 : decode cL_arePapersRight 87 = .ok (.iload 7, 2) := by decide +kernel
theorem dL_arePapersRight_89 : decode cL_arePapersRight 89 = .ok (.iconst 5, 1) := by decide +kernel
theorem dL_arePapersRight_90 : decode cL_arePapersRight 90 = .ok (.invokevirtual 60, 3) := by decide +kernel
theorem dL_arePapersRight_93 : decode cL_arePapersRight 93 = .ok (.if_icmp .ge 50, 3) := by decide +kernel
theorem dL_arePapersRight_96 : decode cL_arePapersRight 96 = .ok (.iload 6, 2) := by decide +kernel
theorem dL_arePapersRight_98 : decode cL_arePapersRight 98 = .ok (.aload_n 0, 1) := by decide +kernel
theorem dL_arePapersRight_99 : decode cL_arePapersRight 99 = .ok (.aload_n 0, 1) := by decide +kernel
theorem dL_arePapersRight_100 : decode cL_arePapersRight 100 = .ok (.iload 7, 2) := by decide +kernel
theorem dL_arePapersRight_102 : decode cL_arePapersRight 102 = .ok (.iload 8, 2) := by decide +kernel
theorem dL_arePapersRight_104 : decode cL_arePapersRight 104 = .ok (.invokevirtual 63, 3) := by decide +kernel
theorem dL_arePapersRight_107 : decode cL_arePapersRight 107 = .ok (.iconst 0, 1) := by decide +kernel
theorem dL_arePapersRight_108 : decode cL_arePapersRight 108 = .ok (.invokevirtual 57, 3) := by decide +kernel
theorem dL_arePapersRight_111 : decode cL_arePapersRight 111 = .ok (.iload_n 3, 1) := by decide +kernel
theorem dL_arePapersRight_112 : decode cL_arePapersRight 112 = .ok (.if_icmp .ne 21, 3) := by decide +kernel
theorem dL_arePapersRight_115 : decode cL_arePapersRight 115 = .ok (.aload_n 0, 1) := by decide +kernel
theorem dL_arePapersRight_116 : decode cL_arePapersRight 116 = .ok (.aload_n 0, 1) := by decide +kernel
theorem dL_arePapersRight_117 : decode cL_arePapersRight 117 = .ok (.iload 7, 2) := by decide +kernel
theorem dL_arePapersRight_119 : decode cL_arePapersRight 119 = .ok (.iload 8, 2) := by decide +kernel
theorem dL_arePapersRight_121 : decode cL_arePapersRight 121 = .ok (.invokevirtual 63, 3) := by decide +kernel
theorem dL_arePapersRight_124 : decode cL_arePapersRight 124 = .ok (.iload 7, 2) := by decide +kernel
theorem dL_arePapersRight_126 : decode cL_arePapersRight 126 = .ok (.iconst 3, 1) := by decide +kernel
theorem dL_arePapersRight_127 : decode cL_arePapersRight 127 = .ok (.invokevirtual 112, 3) := by decide +kernel
theorem dL_arePapersRight_130 : decode cL_arePapersRight 130 = .ok (.goto 4, 3) := by decide +kernel
theorem dL_arePapersRight_133 : decode cL_arePapersRight 133 = .ok (.iconst 0, 1) := by decide +kernel
theorem dL_arePapersRight_134 : decode cL_arePapersRight 134 = .ok (.iadd, 1) := by decide +kernel
theorem dL_arePapersRight_135 : decode cL_arePapersRight 135 = .ok (.istore 6, 2) := by decide +kernel
theorem dL_arePapersRight_137 : decode cL_arePapersRight 137 = .ok (.iinc 8 1, 3) := by decide +kernel
theorem dL_arePapersRight_140 : decode cL_arePapersRight 140 = .ok (.goto (-56), 3) := by decide +kernel
theorem dL_arePapersRight_143 : decode cL_arePapersRight 143 = .ok (.iinc 7 1, 3) := by decide +kernel
theorem dL_arePapersRight_146 : decode cL_arePapersRight 146 = .ok (.goto (-71), 3) := by decide +kernel
theorem dL_arePapersRight_149 : decode cL_arePapersRight 149 = .ok (.iload 6, 2) := by decide +kernel
theorem dL_arePapersRight_151 : decode cL_arePapersRight 151 = .ok (.iload 5, 2) := by decide +kernel
theorem dL_arePapersRight_153 : decode cL_arePapersRight 153 = .ok (.if_icmp .eq 5, 3) := by decide +kernel
theorem dL_arePapersRight_156 : decode cL_arePapersRight 156 = .ok (.iconst 0, 1) := by decide +kernel
theorem dL_arePapersRight_157 : decode cL_arePapersRight 157 = .ok (.ireturn, 1) := by decide +kernel
theorem dL_arePapersRight_158 : decode cL_arePapersRight 158 = .ok (.iinc 3 1, 3) := by decide +kernel
theorem dL_arePapersRight_161 : decode cL_arePapersRight 161 = .ok (.goto (-157), 3) := by decide +kernel
theorem dL_arePapersRight_164 : decode cL_arePapersRight 164 = .ok (.aload_n 0, 1) := by decide +kernel
theorem dL_arePapersRight_165 : decode cL_arePapersRight 165 = .ok (.bipush 8, 2) := by decide +kernel
theorem dL_arePapersRight_167 : decode cL_arePapersRight 167 = .ok (.invokevirtual 18, 3) := by decide +kernel
theorem dL_arePapersRight_170 : decode cL_arePapersRight 170 = .ok (.iload_n 2, 1) := by decide +kernel
theorem dL_arePapersRight_171 : decode cL_arePapersRight 171 = .ok (.if_icmp .ne 34, 3) := by decide +kernel
theorem dL_arePapersRight_174 : decode cL_arePapersRight 174 = .ok (.iload_n 1, 1) := by decide +kernel
theorem dL_arePapersRight_175 : decode cL_arePapersRight 175 = .ok (.ifCond .eq 26, 3) := by decide +kernel
theorem dL_arePapersRight_178 : decode cL_arePapersRight 178 = .ok (.aload_n 0, 1) := by decide +kernel
theorem dL_arePapersRight_179 : decode cL_arePapersRight 179 = .ok (.iconst 5, 1) := by decide +kernel
theorem dL_arePapersRight_180 : decode cL_arePapersRight 180 = .ok (.invokevirtual 18, 3) := by decide +kernel
theorem dL_arePapersRight_183 : decode cL_arePapersRight 183 = .ok (.iload_n 2, 1) := by decide +kernel
theorem dL_arePapersRight_184 : decode cL_arePapersRight 184 = .ok (.iadd, 1) := by decide +kernel
theorem dL_arePapersRight_185 : decode cL_arePapersRight 185 = .ok (.aload_n 0, 1) := by decide +kernel
theorem dL_arePapersRight_186 : decode cL_arePapersRight 186 = .ok (.bipush 6, 2) := by decide +kernel
theorem dL_arePapersRight_188 : decode cL_arePapersRight 188 = .ok (.invokevirtual 18, 3) := by decide +kernel
theorem dL_arePapersRight_191 : decode cL_arePapersRight 191 = .ok (.aload_n 0, 1) := by decide +kernel
theorem dL_arePapersRight_192 : decode cL_arePapersRight 192 = .ok (.bipush 7, 2) := by decide +kernel
theorem dL_arePapersRight_194 : decode cL_arePapersRight 194 = .ok (.invokevirtual 18, 3) := by decide +kernel
theorem dL_arePapersRight_197 : decode cL_arePapersRight 197 = .ok (.isub, 1) := by decide +kernel
theorem dL_arePapersRight_198 : decode cL_arePapersRight 198 = .ok (.if_icmp .ne 7, 3) := by decide +kernel
theorem dL_arePapersRight_201 : decode cL_arePapersRight 201 = .ok (.iconst 1, 1) := by decide +kernel
theorem dL_arePapersRight_202 : decode cL_arePapersRight 202 = .ok (.goto 4, 3) := by decide +kernel
theorem dL_arePapersRight_205 : decode cL_arePapersRight 205 = .ok (.iconst 0, 1) := by decide +kernel
theorem dL_arePapersRight_206 : decode cL_arePapersRight 206 = .ok (.ireturn, 1) := by decide +kernel
end
section
/-! ===== the tables' good words, one list for every method ===== -/
def BG : List Cond := lw_tbl.filter goodWord
theorem bg_all : ∀ w ∈ BG, goodWord w = true := fun _ h => (List.mem_filter.mp h).2
theorem bg_tbl : ∀ w ∈ BG, w ∈ lw_tbl := fun _ h => (List.mem_filter.mp h).1
theorem bg_in {w : Cond} (i : Nat) (h : lw_tbl[i]? = some w) (g : goodWord w = true) : w ∈ BG := List.mem_filter.mpr ⟨List.mem_of_getElem? h, g⟩
theorem bg_self : GoodIn BG BG := fun w h => ⟨h, good_of_word (bg_all w h)⟩
theorem bg_c {w : Cond} (h : w ∈ BG) : GoodIn BG (w :: BG) := fun x hx => (List.mem_cons.mp hx).elim (fun e => e ▸ bg_self w h) (fun h => bg_self x h)
theorem bg_app {a b : List Cond} (ha : ∀ w ∈ a, w ∈ BG) (hb : GoodIn BG b) : GoodIn BG (a ++ b) := fun x hx => (List.mem_append.mp hx).elim (fun h => bg_self x (ha x h)) (fun h => hb x h)
theorem bg_V {own C : String} {i : Nat} {y : MethodName} {w : Cond} (h1 : Cond.methodLink own i y ∈ BG) (h2 : Cond.instanceMethod y ∈ BG) (h3 : Cond.selects C y y ∈ BG) (h4 : Cond.initialized C ∈ BG) (h : w ∈ BG) : GoodIn BG (wsV own i C y (w :: BG)) :=
  bg_app (fun x hx => by
    simp only [List.mem_cons, List.not_mem_nil, or_false] at hx
    rcases hx with rfl | rfl | rfl | rfl <;> assumption) (bg_c h)
theorem bg_S {own : String} {i : Nat} {y : MethodName} {w : Cond} (h1 : Cond.methodLink own i y ∈ BG) (h2 : Cond.static y ∈ BG) (h4 : Cond.initialized own ∈ BG) (h : w ∈ BG) : GoodIn BG (wsS own i y (w :: BG)) :=
  bg_app (fun x hx => by
    simp only [List.mem_cons, List.not_mem_nil, or_false] at hx
    rcases hx with rfl | rfl | rfl <;> assumption) (bg_c h)
/-! ===== words that are not good ones: links by nests, casts; strings; casts that fail ===== -/
def ew_is : Cond → Bool
  | .fieldLinkNest .. => true
  | .methodLinkNest .. => true
  | .castable .. => true
  | .declares .. => true
  | _ => false
def EW : List Cond := lw_tbl.filter ew_is
theorem ew_in {w : Cond} (i : Nat) (h : lw_tbl[i]? = some w) (g : ew_is w = true) : w ∈ EW := List.mem_filter.mpr ⟨List.mem_of_getElem? h, g⟩
theorem ew_on : ∀ w : Cond, ew_is w = true → w.onTables = true := by
  intro w h
  cases w <;> first | rfl | (simp [ew_is] at h)
theorem ew_warm {w : Cond} (h : ew_is w = true) {s U : State} (hW : s.WarmedH U.vm) (hz : va_Nw w s) : va_Nw w U := by
  cases w with
  | fieldLinkNest a i b n d hh => exact va_Nw.warmF hW hz
  | methodLinkNest a i x hh => exact va_Nw.warmM hW hz
  | castable C T => exact va_Nw.warmC hW hz
  | declares x => exact va_Nw.warmD hW hz
  | _ => simp [ew_is] at h
def evS : List (Nat × String) := [(341, "of the ledger one asks 0 to 10"), (384, "no such paper"), (104, "of a paper one asks 0 to 5"), (388, "no such press"), (280, "of a press one asks 0 to 6"), (284, "no such place in the queue"), (386, "no such job"), (204, "of a job one asks 0 to 12"), (224, "of what is expected one asks 0 to 6"), (137, "a piece is 1 to 99 wide and high"), (139, "copies are 1 to 9999"), (141, "a set of inks is 1 to 15"), (146, "the piece does not lie on the sheet"), (153, "there are 20 jobs"), (226, "the job is not new"), (73, "lots are 1 to 40"), (79, "the stock would be above 99999"), (232, "the job is not printed"), (236, "there are too few pieces"), (234, "nothing is lacking"), (271, "towers are 1 to 4"), (317, "minutes are 1 to 9999"), (319, "spoiled are 0 to 9999"), (321, "the queue is empty"), (323, "the stock is not more than what is spoiled"), (325, "a wage is 1 to 99"), (327, "a margin is 0 to 200"), (57, "a sheet is 20 to 99 wide and high"), (62, "a price is 1 to 99")]
def eIO : String := "java/lang/IndexOutOfBoundsException"
def eIA : String := "java/lang/IllegalArgumentException"
def eIS : String := "java/lang/IllegalStateException"
def evC : List (String × String) := [(eIA, eIO), (eIS, eIO), (eIS, eIA)]
/-- what a method needs beside good words -/
def EV (U : State) : Prop := (∀ w ∈ EW, va_Nw w U) ∧ (∀ q ∈ evS, ∃ a : Nat, vk_R RX4 q.1 q.2 a U) ∧ (∀ q ∈ evC, va_Nc q.1 q.2 U) ∧ va_AO RX1 U ∧ va_AO RX2 U ∧ va_AO RX3 U
theorem EV.warm {s U : State} (hW : s.WarmedH U.vm) (h : EV s) : EV U :=
  ⟨fun w hw => ew_warm (List.mem_filter.mp hw).2 hW (h.1 w hw), fun q hq => (h.2.1 q hq).elim fun a ha => ⟨a, vk_R.warm hW ha⟩, fun q hq => va_Nc.moved hW.alike (h.2.2.1 q hq), va_AO.moved hW.alike h.2.2.2.1, va_AO.moved hW.alike h.2.2.2.2.1, va_AO.moved hW.alike h.2.2.2.2.2⟩
theorem EV.same {u U : State} (hv : U.vm = u.vm) (h : EV u) : EV U :=
  ⟨fun w hw => va_Nw.same (ew_on w (List.mem_filter.mp hw).2) hv.symm (h.1 w hw), fun q hq => (h.2.1 q hq).elim fun a ha => ⟨a, vk_R.same hv ha⟩, fun q hq => va_Nc.moved (by rw [hv]; exact Vm.Alike.refl _) (h.2.2.1 q hq), va_AO.moved (by rw [hv]; exact Vm.Alike.refl _) h.2.2.2.1, va_AO.moved (by rw [hv]; exact Vm.Alike.refl _) h.2.2.2.2.1, va_AO.moved (by rw [hv]; exact Vm.Alike.refl _) h.2.2.2.2.2⟩
theorem EV.use {s : State} (h : EV s) {w : Cond} (hw : w ∈ EW) {A : Array Value} : w.before A s = true := va_Nw.use (ew_on w (List.mem_filter.mp hw).2) (h.1 w hw)
/-- the two statics that a new exception reads -/
def XZ (A : Nat → Prop) (U : State) (H : Heap) : Prop := vx_Zq Bundle.tN "UNASSIGNED_STACK" Bundle.steD A U H ∧ vx_Zq Bundle.tN "SUPPRESSED_SENTINEL" Bundle.listD A U H
theorem XZ.next {A B : Nat → Prop} {s U : State} {H : Heap} (h : XZ A s s.heap) (hq : ∀ a : Nat, a < s.heap.size → ¬ A a → H[a]? = s.heap[a]?) (hAB : ∀ q, B q → A q) (hvm : s.vm.Alike U.vm) : XZ B U H :=
  ⟨((h.1.kept hq).narrow hAB).moved hvm, ((h.2.kept hq).narrow hAB).moved hvm⟩
theorem XZ.moved {A : Nat → Prop} {s U : State} {H : Heap} (hvm : s.vm.Alike U.vm) (h : XZ A s H) : XZ A U H := ⟨h.1.moved hvm, h.2.moved hvm⟩
theorem XZ.narrow {A B : Nat → Prop} {s : State} {H : Heap} (h : XZ A s H) (hAB : ∀ q, B q → A q) : XZ B s H := ⟨h.1.narrow hAB, h.2.narrow hAB⟩
/-! ===== the world ===== -/
abbrev Em : Type := Nat → Int32
abbrev Fm : Type := Nat → Nat → Int32
abbrev Lm : Type := Nat → Nat → Option Nat
abbrev Sm : Type := Nat → Nat
/-- a state: what is expected; the numbers by object and place; the lines by press (6 .. 9): job numbers by place; the papers of the jobs (0 .. 3); how many jobs. Objects: 0 the shop, 1 the expectation, 2 .. 5 the papers, 6 .. 9 the presses (9: trial), 10 .. 13 their lines, 14, 15, 16 the rows of papers, presses, jobs, 17 + j the jobs -/
abbrev St : Type := Em × Fm × Lm × Sm × Nat
abbrev sE (σ : St) : Em := σ.1
abbrev sF (σ : St) : Fm := σ.2.1
abbrev sL (σ : St) : Lm := σ.2.2.1
abbrev sS (σ : St) : Sm := σ.2.2.2.1
abbrev sN (σ : St) : Nat := σ.2.2.2.2
def cLed (ad : Nat → Nat) (F : Fm) : List Value := [.ref (ad 14), .ref (ad 15), .ref (ad 16), .int (F 0 3), .int (F 0 4), .int (F 0 5), .int (F 0 6), .int (F 0 7), .int (F 0 8), .ref (ad 1), .ref (ad 9)]
def cExp (E : Em) : List Value := [.int (E 0), .int (E 1), .int (E 2), .int (E 3), .int (E 4), .int (E 5), .int (E 6)]
def cPap (F : Fm) (o : Nat) : List Value := [.int (F o 0), .int (F o 1), .int (F o 2), .int (F o 3)]
def cPrs (ad : Nat → Nat) (F : Fm) (o : Nat) : List Value := [.int (F o 0), .int (F o 1), .int (F o 2), .int (F o 3), .int (F o 4), .ref (ad (o + 4)), .int (F o 6)]
def cJob (ad : Nat → Nat) (F : Fm) (sh : Nat) (o : Nat) : List Value := [.int (F o 0), .int (F o 1), .ref (ad (2 + sh)), .int (F o 3), .int (F o 4), .int (F o 5), .int (F o 6), .int (F o 7), .int (F o 8), .int (F o 9), .int (F o 10), .int (F o 11), .int (F o 12), .int (F o 13), .int (F o 14)]
def aLin (ad : Nat → Nat) (L : Nat → Option Nat) : Nat → Option Nat := fun k => (L k).map (fun j => ad (17 + j))
def aPap (ad : Nat → Nat) : Nat → Option Nat := fun k => some (ad (2 + k))
def aPrs (ad : Nat → Nat) : Nat → Option Nat := fun k => some (ad (6 + k))
abbrev aRow (cA : ClassId) (n : Nat) (f : Nat → Option Nat) : va_E := .inl (cA, n, .inr (.inr (.inr (.inr f))))
def wC (ca : Nat → ClassId) (ad : Nat → Nat) (σ : St) (o : Nat) : va_E :=
  if o = 0 then .inr (4, cLed ad (sF σ)) else if o = 1 then .inr (0, cExp (sE σ)) else if o < 6 then .inr (2, cPap (sF σ) o) else if o < 10 then .inr (3, cPrs ad (sF σ) o)
  else if o < 14 then aRow (ca o) 20 (aLin ad (sL σ (o - 4))) else if o = 14 then aRow (ca o) 4 (aPap ad) else if o = 15 then aRow (ca o) 3 (aPrs ad) else if o = 16 then aRow (ca o) 20 (aLin ad (sL σ 16))
  else .inr (1, cJob ad (sF σ) (sS σ (o - 17)) o)
def wl (ca : Nat → ClassId) (ad : Nat → Nat) (σ : St) : va_W := (List.range (17 + sN σ)).map (fun o => (ad o, wC ca ad σ o))
abbrev wt (ca : Nat → ClassId) : List (ClassId × FieldType) := [(ca 10, .object RX1), (ca 11, .object RX1), (ca 12, .object RX1), (ca 13, .object RX1), (ca 14, .object RX2), (ca 15, .object RX3), (ca 16, .object RX1)]
section WorldRows
variable {ca : Nat → ClassId} {ad : Nat → Nat} {σ : St} {o : Nat}
theorem wl_at (h : o < 17 + sN σ) : (wl ca ad σ)[o]? = some (ad o, wC ca ad σ o) := by
  unfold wl
  rw [List.getElem?_map, List.getElem?_range h]
  rfl
theorem wl_len : (wl ca ad σ).length = 17 + sN σ := by simp [wl]
theorem wl_of {k : Nat} {q : Nat × va_E} (h : (wl ca ad σ)[k]? = some q) : k < 17 + sN σ ∧ q = (ad k, wC ca ad σ k) := by
  have hk : k < 17 + sN σ := by
    have := (List.getElem?_eq_some_iff.mp h).1
    rwa [wl_len] at this
  rw [wl_at hk] at h
  exact ⟨hk, (Option.some.inj h).symm⟩
theorem wC_0 : wC ca ad σ 0 = .inr (4, cLed ad (sF σ)) := rfl
theorem wC_1 : wC ca ad σ 1 = .inr (0, cExp (sE σ)) := rfl
theorem wC_P (h1 : 2 ≤ o) (h2 : o < 6) : wC ca ad σ o = .inr (2, cPap (sF σ) o) := by
  unfold wC
  rw [if_neg (by omega), if_neg (by omega), if_pos h2]
theorem wC_R (h1 : 6 ≤ o) (h2 : o < 10) : wC ca ad σ o = .inr (3, cPrs ad (sF σ) o) := by
  unfold wC
  rw [if_neg (by omega), if_neg (by omega), if_neg (by omega), if_pos h2]
theorem wC_L (h1 : 6 ≤ o) (h2 : o < 10) : wC ca ad σ (o + 4) = aRow (ca (o + 4)) 20 (aLin ad (sL σ o)) := by
  unfold wC
  rw [if_neg (by omega), if_neg (by omega), if_neg (by omega), if_neg (by omega), if_pos (by omega), Nat.add_sub_cancel]
theorem wC_14 : wC ca ad σ 14 = aRow (ca 14) 4 (aPap ad) := rfl
theorem wC_15 : wC ca ad σ 15 = aRow (ca 15) 3 (aPrs ad) := rfl
theorem wC_16 : wC ca ad σ 16 = aRow (ca 16) 20 (aLin ad (sL σ 16)) := rfl
theorem wC_J {j : Nat} : wC ca ad σ (17 + j) = .inr (1, cJob ad (sF σ) (sS σ j) (17 + j)) := by
  unfold wC
  rw [if_neg (by omega), if_neg (by omega), if_neg (by omega), if_neg (by omega), if_neg (by omega), if_neg (by omega), if_neg (by omega), if_neg (by omega), Nat.add_sub_cancel_left]
end WorldRows
def up2 (F : Fm) (o k : Nat) (v : Int32) : Fm := fun a b => if a = o then (if b = k then v else F a b) else F a b
theorem up2_ne {F : Fm} {o k : Nat} {v : Int32} {a b : Nat} (h : a ≠ o) : up2 F o k v a b = F a b := by simp [up2, h]
theorem up2_o {F : Fm} {o k : Nat} {v : Int32} {b : Nat} (h : b ≠ k) : up2 F o k v o b = F o b := by simp [up2, h]
theorem up2_s {F : Fm} {o k : Nat} {v : Int32} : up2 F o k v o k = v := by simp [up2]
def up1 (E : Em) (k : Nat) (v : Int32) : Em := fun b => if b = k then v else E b
def upL (L : Lm) (o k : Nat) (v : Option Nat) : Lm := fun a b => if a = o then (if b = k then v else L a b) else L a b
/-- another cell at the place o -/
theorem wl_set {ca : Nat → ClassId} {ad : Nat → Nat} {σ τ : St} {o : Nat} {e : va_E} (hn : sN τ = sN σ) (he : wC ca ad τ o = e) (hx : ∀ q, q < 17 + sN σ → q ≠ o → wC ca ad τ q = wC ca ad σ q) : (wl ca ad σ).set o (ad o, e) = wl ca ad τ := by
  apply List.ext_getElem?
  intro k
  by_cases hk : k < 17 + sN σ
  · rw [List.getElem?_set, wl_at (σ := τ) (by rw [hn]; exact hk)]
    by_cases h : o = k
    · subst h
      rw [if_pos rfl, if_pos (by rw [wl_len]; exact hk), he]
    · rw [if_neg h, wl_at hk, hx k hk (fun e => h e.symm)]
  · rw [List.getElem?_eq_none (by rw [List.length_set, wl_len]; omega), List.getElem?_eq_none (by rw [wl_len, hn]; omega)]
theorem wC_F {ca : Nat → ClassId} {ad : Nat → Nat} {E : Em} {F F' : Fm} {L : Lm} {S : Sm} {n q : Nat} (h : ∀ k, F' q k = F q k) : wC ca ad (E, F', L, S, n) q = wC ca ad (E, F, L, S, n) q := by
  unfold wC
  by_cases h0 : q = 0
  · subst h0
    simp only [if_true, cLed, sF, h]
  · rw [if_neg h0, if_neg h0]
    simp only [cPap, cPrs, cJob, sF, sE, sL, sS, sN, h]
theorem wl_F {ca : Nat → ClassId} {ad : Nat → Nat} {E : Em} {F : Fm} {L : Lm} {S : Sm} {n o k : Nat} {v : Int32} {e : va_E} (he : wC ca ad (E, up2 F o k v, L, S, n) o = e) : (wl ca ad (E, F, L, S, n)).set o (ad o, e) = wl ca ad (E, up2 F o k v, L, S, n) :=
  wl_set rfl he (fun q _ hq => wC_F (fun _ => up2_ne hq))
theorem wl_E {ca : Nat → ClassId} {ad : Nat → Nat} {E E' : Em} {F : Fm} {L : Lm} {S : Sm} {n : Nat} : (wl ca ad (E, F, L, S, n)).set 1 (ad 1, .inr (0, cExp E')) = wl ca ad (E', F, L, S, n) :=
  wl_set rfl rfl (fun q _ hq => by unfold wC; simp only [if_neg hq])
theorem wl_L {ca : Nat → ClassId} {ad : Nat → Nat} {E : Em} {F : Fm} {L L' : Lm} {S : Sm} {n o : Nat} (h1 : 6 ≤ o) (h2 : o < 10) (hx : ∀ q, q ≠ o → L' q = L q) : (wl ca ad (E, F, L, S, n)).set (o + 4) (ad (o + 4), aRow (ca (o + 4)) 20 (aLin ad (L' o))) = wl ca ad (E, F, L', S, n) :=
  wl_set rfl (wC_L h1 h2) (fun q _ hq => by
    unfold wC
    by_cases h : q < 10
    · rw [if_pos h, if_pos h]
    · have e : L' (q - 4) = L (q - 4) := hx _ (by omega)
      have e16 : L' 16 = L 16 := hx _ (by omega)
      simp only [sE, sF, sL, sS, sN, e, e16])
theorem wl_L16 {ca : Nat → ClassId} {ad : Nat → Nat} {E : Em} {F : Fm} {L L' : Lm} {S : Sm} {n : Nat} (hx : ∀ q, q ≠ 16 → L' q = L q) : (wl ca ad (E, F, L, S, n)).set 16 (ad 16, aRow (ca 16) 20 (aLin ad (L' 16))) = wl ca ad (E, F, L', S, n) :=
  wl_set rfl wC_16 (fun q _ hq => by
    unfold wC
    by_cases h : q < 14
    · have e : L' (q - 4) = L (q - 4) := hx _ (by omega)
      simp only [sE, sF, sL, sS, sN, e, if_pos h]
    · simp only [sE, sF, sL, sS, sN, if_neg h, if_neg hq])
end
section
set_option maxRecDepth 100000 in
theorem kw_0 : (Jvm.Cond.selects "PrintLedger" ({ cls := "PrintLedger", name := "jobsThatAre", desc := "(I)I" } : Jvm.MethodName) ({ cls := "PrintLedger", name := "jobsThatAre", desc := "(I)I" } : Jvm.MethodName)) ∈ BG := bg_in 0 rfl rfl
set_option maxRecDepth 100000 in
theorem kw_1 : (Jvm.Cond.selects "PrintLedger" ({ cls := "PrintLedger", name := "moneyOfInvoices", desc := "()I" } : Jvm.MethodName) ({ cls := "PrintLedger", name := "moneyOfInvoices", desc := "()I" } : Jvm.MethodName)) ∈ BG := bg_in 1 rfl rfl
set_option maxRecDepth 100000 in
theorem kw_2 : (Jvm.Cond.selects "PrintLedger" ({ cls := "PrintLedger", name := "costOfJobs", desc := "()I" } : Jvm.MethodName) ({ cls := "PrintLedger", name := "costOfJobs", desc := "()I" } : Jvm.MethodName)) ∈ BG := bg_in 2 rfl rfl
set_option maxRecDepth 100000 in
theorem kw_3 : (Jvm.Cond.selects "PrintLedger" ({ cls := "PrintLedger", name := "worthOfStock", desc := "()I" } : Jvm.MethodName) ({ cls := "PrintLedger", name := "worthOfStock", desc := "()I" } : Jvm.MethodName)) ∈ BG := bg_in 3 rfl rfl
set_option maxRecDepth 100000 in
theorem kw_4 : (Jvm.Cond.selects "java/lang/Throwable" ({ cls := "java/lang/Throwable", name := "fillInStackTrace", desc := "(I)Ljava/lang/Throwable;" } : Jvm.MethodName) ({ cls := "java/lang/Throwable", name := "fillInStackTrace", desc := "(I)Ljava/lang/Throwable;" } : Jvm.MethodName)) ∈ BG := bg_in 4 rfl rfl
set_option maxRecDepth 100000 in
theorem kw_5 : (Jvm.Cond.selects "PrintLedger" ({ cls := "PrintLedger", name := "paperOf", desc := "(I)LPrintLedger$Paper;" } : Jvm.MethodName) ({ cls := "PrintLedger", name := "paperOf", desc := "(I)LPrintLedger$Paper;" } : Jvm.MethodName)) ∈ BG := bg_in 5 rfl rfl
set_option maxRecDepth 100000 in
theorem kw_6 : (Jvm.Cond.selects "PrintLedger" ({ cls := "PrintLedger", name := "forecastOf", desc := "(LPrintLedger$Paper;)I" } : Jvm.MethodName) ({ cls := "PrintLedger", name := "forecastOf", desc := "(LPrintLedger$Paper;)I" } : Jvm.MethodName)) ∈ BG := bg_in 6 rfl rfl
set_option maxRecDepth 100000 in
theorem kw_7 : (Jvm.Cond.selects "PrintLedger" ({ cls := "PrintLedger", name := "neededOf", desc := "(LPrintLedger$Paper;LPrintLedger$Press;)I" } : Jvm.MethodName) ({ cls := "PrintLedger", name := "neededOf", desc := "(LPrintLedger$Paper;LPrintLedger$Press;)I" } : Jvm.MethodName)) ∈ BG := bg_in 7 rfl rfl
set_option maxRecDepth 100000 in
theorem kw_8 : (Jvm.Cond.selects "PrintLedger$Press" ({ cls := "PrintLedger$Press", name := "jobAt", desc := "(I)LPrintLedger$Job;" } : Jvm.MethodName) ({ cls := "PrintLedger$Press", name := "jobAt", desc := "(I)LPrintLedger$Job;" } : Jvm.MethodName)) ∈ BG := bg_in 8 rfl rfl
set_option maxRecDepth 100000 in
theorem kw_9 : (Jvm.Cond.selects "PrintLedger" ({ cls := "PrintLedger", name := "expect", desc := "(LPrintLedger$Job;LPrintLedger$Press;I)LPrintLedger$Expectation;" } : Jvm.MethodName) ({ cls := "PrintLedger", name := "expect", desc := "(LPrintLedger$Job;LPrintLedger$Press;I)LPrintLedger$Expectation;" } : Jvm.MethodName)) ∈ BG := bg_in 9 rfl rfl
set_option maxRecDepth 100000 in
theorem kw_10 : (Jvm.Cond.selects "PrintLedger$Job" ({ cls := "PrintLedger$Job", name := "sheets", desc := "()I" } : Jvm.MethodName) ({ cls := "PrintLedger$Job", name := "sheets", desc := "()I" } : Jvm.MethodName)) ∈ BG := bg_in 10 rfl rfl
set_option maxRecDepth 100000 in
theorem kw_11 : (Jvm.Cond.selects "PrintLedger$Press" ({ cls := "PrintLedger$Press", name := "passesOf", desc := "(LPrintLedger$Job;)I" } : Jvm.MethodName) ({ cls := "PrintLedger$Press", name := "passesOf", desc := "(LPrintLedger$Job;)I" } : Jvm.MethodName)) ∈ BG := bg_in 11 rfl rfl
set_option maxRecDepth 100000 in
theorem kw_12 : (Jvm.Cond.selects "PrintLedger$Job" ({ cls := "PrintLedger$Job", name := "moneyOfInks", desc := "()I" } : Jvm.MethodName) ({ cls := "PrintLedger$Job", name := "moneyOfInks", desc := "()I" } : Jvm.MethodName)) ∈ BG := bg_in 12 rfl rfl
set_option maxRecDepth 100000 in
theorem kw_13 : (Jvm.Cond.selects "PrintLedger" ({ cls := "PrintLedger", name := "shortOf", desc := "(LPrintLedger$Paper;)I" } : Jvm.MethodName) ({ cls := "PrintLedger", name := "shortOf", desc := "(LPrintLedger$Paper;)I" } : Jvm.MethodName)) ∈ BG := bg_in 13 rfl rfl
set_option maxRecDepth 100000 in
theorem kw_14 : (Jvm.Cond.selects "PrintLedger" ({ cls := "PrintLedger", name := "digestWithPress", desc := "(JI)J" } : Jvm.MethodName) ({ cls := "PrintLedger", name := "digestWithPress", desc := "(JI)J" } : Jvm.MethodName)) ∈ BG := bg_in 14 rfl rfl
set_option maxRecDepth 100000 in
theorem kw_15 : (Jvm.Cond.selects "PrintLedger" ({ cls := "PrintLedger", name := "pressOf", desc := "(I)LPrintLedger$Press;" } : Jvm.MethodName) ({ cls := "PrintLedger", name := "pressOf", desc := "(I)LPrintLedger$Press;" } : Jvm.MethodName)) ∈ BG := bg_in 15 rfl rfl
set_option maxRecDepth 100000 in
theorem kw_16 : (Jvm.Cond.selects "PrintLedger" ({ cls := "PrintLedger", name := "minutesOfQueue", desc := "(LPrintLedger$Press;)I" } : Jvm.MethodName) ({ cls := "PrintLedger", name := "minutesOfQueue", desc := "(LPrintLedger$Press;)I" } : Jvm.MethodName)) ∈ BG := bg_in 16 rfl rfl
set_option maxRecDepth 100000 in
theorem kw_17 : (Jvm.Cond.selects "PrintLedger" ({ cls := "PrintLedger", name := "digestWithJob", desc := "(JI)J" } : Jvm.MethodName) ({ cls := "PrintLedger", name := "digestWithJob", desc := "(JI)J" } : Jvm.MethodName)) ∈ BG := bg_in 17 rfl rfl
set_option maxRecDepth 100000 in
theorem kw_18 : (Jvm.Cond.selects "PrintLedger" ({ cls := "PrintLedger", name := "jobOf", desc := "(I)LPrintLedger$Job;" } : Jvm.MethodName) ({ cls := "PrintLedger", name := "jobOf", desc := "(I)LPrintLedger$Job;" } : Jvm.MethodName)) ∈ BG := bg_in 18 rfl rfl
set_option maxRecDepth 100000 in
theorem kw_19 : (Jvm.Cond.selects "PrintLedger$Job" ({ cls := "PrintLedger$Job", name := "worth", desc := "()I" } : Jvm.MethodName) ({ cls := "PrintLedger$Job", name := "worth", desc := "()I" } : Jvm.MethodName)) ∈ BG := bg_in 19 rfl rfl
set_option maxRecDepth 100000 in
theorem kw_20 : (Jvm.Cond.selects "PrintLedger$Paper" ({ cls := "PrintLedger$Paper", name := "holds", desc := "(II)I" } : Jvm.MethodName) ({ cls := "PrintLedger$Paper", name := "holds", desc := "(II)I" } : Jvm.MethodName)) ∈ BG := bg_in 20 rfl rfl
set_option maxRecDepth 100000 in
theorem kw_21 : (Jvm.Cond.selects "PrintLedger$Job" ({ cls := "PrintLedger$Job", name := "layOut", desc := "(II)V" } : Jvm.MethodName) ({ cls := "PrintLedger$Job", name := "layOut", desc := "(II)V" } : Jvm.MethodName)) ∈ BG := bg_in 21 rfl rfl
set_option maxRecDepth 100000 in
theorem kw_22 : (Jvm.Cond.selects "PrintLedger$Press" ({ cls := "PrintLedger$Press", name := "insert", desc := "(LPrintLedger$Job;I)V" } : Jvm.MethodName) ({ cls := "PrintLedger$Press", name := "insert", desc := "(LPrintLedger$Job;I)V" } : Jvm.MethodName)) ∈ BG := bg_in 22 rfl rfl
set_option maxRecDepth 100000 in
theorem kw_23 : (Jvm.Cond.selects "PrintLedger$Paper" ({ cls := "PrintLedger$Paper", name := "lotsWithRoom", desc := "()I" } : Jvm.MethodName) ({ cls := "PrintLedger$Paper", name := "lotsWithRoom", desc := "()I" } : Jvm.MethodName)) ∈ BG := bg_in 23 rfl rfl
set_option maxRecDepth 100000 in
theorem kw_24 : (Jvm.Cond.selects "PrintLedger" ({ cls := "PrintLedger", name := "bring", desc := "(LPrintLedger$Paper;I)V" } : Jvm.MethodName) ({ cls := "PrintLedger", name := "bring", desc := "(LPrintLedger$Paper;I)V" } : Jvm.MethodName)) ∈ BG := bg_in 24 rfl rfl
set_option maxRecDepth 100000 in
theorem kw_25 : (Jvm.Cond.selects "PrintLedger$Press" ({ cls := "PrintLedger$Press", name := "bringLeastChangeAhead", desc := "()V" } : Jvm.MethodName) ({ cls := "PrintLedger$Press", name := "bringLeastChangeAhead", desc := "()V" } : Jvm.MethodName)) ∈ BG := bg_in 25 rfl rfl
set_option maxRecDepth 100000 in
theorem kw_26 : (Jvm.Cond.selects "PrintLedger$Press" ({ cls := "PrintLedger$Press", name := "placeOfLeastChange", desc := "(II)I" } : Jvm.MethodName) ({ cls := "PrintLedger$Press", name := "placeOfLeastChange", desc := "(II)I" } : Jvm.MethodName)) ∈ BG := bg_in 26 rfl rfl
set_option maxRecDepth 100000 in
theorem kw_27 : (Jvm.Cond.selects "PrintLedger$Press" ({ cls := "PrintLedger$Press", name := "remove", desc := "(I)V" } : Jvm.MethodName) ({ cls := "PrintLedger$Press", name := "remove", desc := "(I)V" } : Jvm.MethodName)) ∈ BG := bg_in 27 rfl rfl
set_option maxRecDepth 100000 in
theorem kw_28 : (Jvm.Cond.selects "PrintLedger$Job" ({ cls := "PrintLedger$Job", name := "takenWith", desc := "(I)I" } : Jvm.MethodName) ({ cls := "PrintLedger$Job", name := "takenWith", desc := "(I)I" } : Jvm.MethodName)) ∈ BG := bg_in 28 rfl rfl
set_option maxRecDepth 100000 in
theorem kw_29 : (Jvm.Cond.selects "PrintLedger$Press" ({ cls := "PrintLedger$Press", name := "learn", desc := "(LPrintLedger$Job;III)V" } : Jvm.MethodName) ({ cls := "PrintLedger$Press", name := "learn", desc := "(LPrintLedger$Job;III)V" } : Jvm.MethodName)) ∈ BG := bg_in 29 rfl rfl
set_option maxRecDepth 100000 in
theorem kw_30 : (Jvm.Cond.initialized "PrintLedgerLaw") ∈ BG := bg_in 30 rfl rfl
set_option maxRecDepth 100000 in
theorem kw_31 : (Jvm.Cond.initialized "PrintLedger") ∈ BG := bg_in 31 rfl rfl
set_option maxRecDepth 100000 in
theorem kw_32 : (Jvm.Cond.initialized "PrintLedger$Paper") ∈ BG := bg_in 32 rfl rfl
set_option maxRecDepth 100000 in
theorem kw_33 : (Jvm.Cond.initialized "PrintLedger$Press") ∈ BG := bg_in 33 rfl rfl
set_option maxRecDepth 100000 in
theorem kw_34 : (Jvm.Cond.initialized "PrintLedger$Expectation") ∈ BG := bg_in 34 rfl rfl
set_option maxRecDepth 100000 in
theorem kw_35 : (Jvm.Cond.initialized "java/lang/Throwable") ∈ BG := bg_in 35 rfl rfl
set_option maxRecDepth 100000 in
theorem kw_36 : (Jvm.Cond.initialized "java/lang/Exception") ∈ BG := bg_in 36 rfl rfl
set_option maxRecDepth 100000 in
theorem kw_37 : (Jvm.Cond.initialized "java/lang/RuntimeException") ∈ BG := bg_in 37 rfl rfl
set_option maxRecDepth 100000 in
theorem kw_38 : (Jvm.Cond.initialized "java/lang/IllegalArgumentException") ∈ BG := bg_in 38 rfl rfl
set_option maxRecDepth 100000 in
theorem kw_39 : (Jvm.Cond.initialized "java/lang/Math") ∈ BG := bg_in 39 rfl rfl
set_option maxRecDepth 100000 in
theorem kw_40 : (Jvm.Cond.initialized "java/lang/IndexOutOfBoundsException") ∈ BG := bg_in 40 rfl rfl
set_option maxRecDepth 100000 in
theorem kw_41 : (Jvm.Cond.initialized "java/lang/IllegalStateException") ∈ BG := bg_in 41 rfl rfl
set_option maxRecDepth 100000 in
theorem kw_42 : (Jvm.Cond.initialized "PrintLedger$Job") ∈ BG := bg_in 42 rfl rfl
set_option maxRecDepth 100000 in
theorem kw_43 : (Jvm.Cond.initialized "java/lang/Integer") ∈ BG := bg_in 43 rfl rfl
set_option maxRecDepth 100000 in
theorem kw_44 : (Jvm.Cond.classLink "PrintLedgerLaw" (9 : Nat) "PrintLedger") ∈ BG := bg_in 44 rfl rfl
set_option maxRecDepth 100000 in
theorem kw_45 : (Jvm.Cond.instantiable "PrintLedger" (11 : Nat)) ∈ BG := bg_in 45 rfl rfl
set_option maxRecDepth 100000 in
theorem kw_46 : (Jvm.Cond.methodLink "PrintLedgerLaw" (11 : Nat) ({ cls := "PrintLedger", name := "<init>", desc := "()V" } : Jvm.MethodName)) ∈ BG := bg_in 46 rfl rfl
set_option maxRecDepth 100000 in
theorem kw_47 : (Jvm.Cond.instanceMethod ({ cls := "PrintLedger", name := "<init>", desc := "()V" } : Jvm.MethodName)) ∈ BG := bg_in 47 rfl rfl
set_option maxRecDepth 100000 in
theorem kw_48 : (Jvm.Cond.code ({ cls := "PrintLedger", name := "<init>", desc := "()V" } : Jvm.MethodName) prog_1_method_1_code (2 : Nat) (Option.none : Option Jvm.ClassFile.FieldType)) ∈ BG := bg_in 48 rfl rfl
set_option maxRecDepth 100000 in
theorem kw_49 : (Jvm.Cond.methodLink "PrintLedger" (1 : Nat) ({ cls := "java/lang/Object", name := "<init>", desc := "()V" } : Jvm.MethodName)) ∈ BG := bg_in 49 rfl rfl
set_option maxRecDepth 100000 in
theorem kw_50 : (Jvm.Cond.instanceMethod ({ cls := "java/lang/Object", name := "<init>", desc := "()V" } : Jvm.MethodName)) ∈ BG := bg_in 50 rfl rfl
set_option maxRecDepth 100000 in
theorem kw_51 : (Jvm.Cond.code ({ cls := "java/lang/Object", name := "<init>", desc := "()V" } : Jvm.MethodName) object_method_1_code (1 : Nat) (Option.none : Option Jvm.ClassFile.FieldType)) ∈ BG := bg_in 51 rfl rfl
set_option maxRecDepth 100000 in
theorem kw_52 : (Jvm.Cond.classLink "PrintLedger" (9 : Nat) "PrintLedger$Paper") ∈ BG := bg_in 52 rfl rfl
set_option maxRecDepth 100000 in
theorem kw_54 : (Jvm.Cond.instantiable "PrintLedger$Paper" (4 : Nat)) ∈ BG := bg_in 54 rfl rfl
set_option maxRecDepth 100000 in
theorem kw_55 : (Jvm.Cond.methodLinkNest "PrintLedger" (15 : Nat) ({ cls := "PrintLedger$Paper", name := "<init>", desc := "()V" } : Jvm.MethodName) "PrintLedger") ∈ EW := ew_in 55 rfl rfl
set_option maxRecDepth 100000 in
theorem kw_56 : (Jvm.Cond.instanceMethod ({ cls := "PrintLedger$Paper", name := "<init>", desc := "()V" } : Jvm.MethodName)) ∈ BG := bg_in 56 rfl rfl
set_option maxRecDepth 100000 in
theorem kw_57 : (Jvm.Cond.code ({ cls := "PrintLedger$Paper", name := "<init>", desc := "()V" } : Jvm.MethodName) prog_4_method_1_code (1 : Nat) (Option.none : Option Jvm.ClassFile.FieldType)) ∈ BG := bg_in 57 rfl rfl
set_option maxRecDepth 100000 in
theorem kw_58 : (Jvm.Cond.methodLink "PrintLedger$Paper" (3 : Nat) ({ cls := "java/lang/Object", name := "<init>", desc := "()V" } : Jvm.MethodName)) ∈ BG := bg_in 58 rfl rfl
set_option maxRecDepth 100000 in
theorem kw_59 : (Jvm.Cond.fieldLink "PrintLedger$Paper" (9 : Nat) "PrintLedger$Paper" "wide" "I") ∈ BG := bg_in 59 rfl rfl
set_option maxRecDepth 100000 in
theorem kw_60 : (Jvm.Cond.fieldLinkNest "PrintLedger$Job" (47 : Nat) "PrintLedger$Paper" "wide" "I" "PrintLedger") ∈ EW := ew_in 60 rfl rfl
set_option maxRecDepth 100000 in
theorem kw_61 : (Jvm.Cond.fieldLinkNest "PrintLedger" (67 : Nat) "PrintLedger$Paper" "wide" "I" "PrintLedger") ∈ EW := ew_in 61 rfl rfl
set_option maxRecDepth 100000 in
theorem kw_62 : (Jvm.Cond.fieldLink "PrintLedger$Paper" (15 : Nat) "PrintLedger$Paper" "high" "I") ∈ BG := bg_in 62 rfl rfl
set_option maxRecDepth 100000 in
theorem kw_63 : (Jvm.Cond.fieldLinkNest "PrintLedger$Job" (50 : Nat) "PrintLedger$Paper" "high" "I" "PrintLedger") ∈ EW := ew_in 63 rfl rfl
set_option maxRecDepth 100000 in
theorem kw_64 : (Jvm.Cond.fieldLinkNest "PrintLedger" (70 : Nat) "PrintLedger$Paper" "high" "I" "PrintLedger") ∈ EW := ew_in 64 rfl rfl
set_option maxRecDepth 100000 in
theorem kw_65 : (Jvm.Cond.fieldLink "PrintLedger$Paper" (18 : Nat) "PrintLedger$Paper" "price" "I") ∈ BG := bg_in 65 rfl rfl
set_option maxRecDepth 100000 in
theorem kw_66 : (Jvm.Cond.fieldLinkNest "PrintLedger" (64 : Nat) "PrintLedger$Paper" "price" "I" "PrintLedger") ∈ EW := ew_in 66 rfl rfl
set_option maxRecDepth 100000 in
theorem kw_67 : (Jvm.Cond.fieldLink "PrintLedger$Paper" (26 : Nat) "PrintLedger$Paper" "stock" "I") ∈ BG := bg_in 67 rfl rfl
set_option maxRecDepth 100000 in
theorem kw_68 : (Jvm.Cond.fieldLinkNest "PrintLedger" (85 : Nat) "PrintLedger$Paper" "stock" "I" "PrintLedger") ∈ EW := ew_in 68 rfl rfl
set_option maxRecDepth 100000 in
theorem kw_69 : (Jvm.Cond.fieldLinkNest "PrintLedger$Job" (77 : Nat) "PrintLedger$Paper" "stock" "I" "PrintLedger") ∈ EW := ew_in 69 rfl rfl
set_option maxRecDepth 100000 in
theorem kw_70 : (Jvm.Cond.lays "PrintLedger$Paper" "PrintLedger$Paper" "wide" "I") ∈ BG := bg_in 70 rfl rfl
set_option maxRecDepth 100000 in
theorem kw_72 : (Jvm.Cond.lays "PrintLedger$Paper" "PrintLedger$Paper" "high" "I") ∈ BG := bg_in 72 rfl rfl
set_option maxRecDepth 100000 in
theorem kw_74 : (Jvm.Cond.lays "PrintLedger$Paper" "PrintLedger$Paper" "price" "I") ∈ BG := bg_in 74 rfl rfl
set_option maxRecDepth 100000 in
theorem kw_76 : (Jvm.Cond.lays "PrintLedger$Paper" "PrintLedger$Paper" "stock" "I") ∈ BG := bg_in 76 rfl rfl
set_option maxRecDepth 100000 in
theorem kw_79 : (Jvm.Cond.classLink "PrintLedger" (16 : Nat) "PrintLedger$Press") ∈ BG := bg_in 79 rfl rfl
set_option maxRecDepth 100000 in
theorem kw_81 : (Jvm.Cond.instantiable "PrintLedger$Press" (7 : Nat)) ∈ BG := bg_in 81 rfl rfl
set_option maxRecDepth 100000 in
theorem kw_82 : (Jvm.Cond.methodLinkNest "PrintLedger" (22 : Nat) ({ cls := "PrintLedger$Press", name := "<init>", desc := "()V" } : Jvm.MethodName) "PrintLedger") ∈ EW := ew_in 82 rfl rfl
set_option maxRecDepth 100000 in
theorem kw_83 : (Jvm.Cond.instanceMethod ({ cls := "PrintLedger$Press", name := "<init>", desc := "()V" } : Jvm.MethodName)) ∈ BG := bg_in 83 rfl rfl
set_option maxRecDepth 100000 in
theorem kw_84 : (Jvm.Cond.code ({ cls := "PrintLedger$Press", name := "<init>", desc := "()V" } : Jvm.MethodName) prog_5_method_1_code (1 : Nat) (Option.none : Option Jvm.ClassFile.FieldType)) ∈ BG := bg_in 84 rfl rfl
set_option maxRecDepth 100000 in
theorem kw_85 : (Jvm.Cond.methodLink "PrintLedger$Press" (3 : Nat) ({ cls := "java/lang/Object", name := "<init>", desc := "()V" } : Jvm.MethodName)) ∈ BG := bg_in 85 rfl rfl
set_option maxRecDepth 100000 in
theorem kw_86 : (Jvm.Cond.classLink "PrintLedger$Press" (24 : Nat) "PrintLedger$Job") ∈ BG := bg_in 86 rfl rfl
set_option maxRecDepth 100000 in
theorem kw_88 : (Jvm.Cond.fieldLink "PrintLedger$Press" (9 : Nat) "PrintLedger$Press" "towers" "I") ∈ BG := bg_in 88 rfl rfl
set_option maxRecDepth 100000 in
theorem kw_89 : (Jvm.Cond.fieldLinkNest "PrintLedger" (273 : Nat) "PrintLedger$Press" "towers" "I" "PrintLedger") ∈ EW := ew_in 89 rfl rfl
set_option maxRecDepth 100000 in
theorem kw_90 : (Jvm.Cond.fieldLink "PrintLedger$Press" (46 : Nat) "PrintLedger$Press" "inks" "I") ∈ BG := bg_in 90 rfl rfl
set_option maxRecDepth 100000 in
theorem kw_91 : (Jvm.Cond.fieldLinkNest "PrintLedger" (124 : Nat) "PrintLedger$Press" "inks" "I" "PrintLedger") ∈ EW := ew_in 91 rfl rfl
set_option maxRecDepth 100000 in
theorem kw_92 : (Jvm.Cond.fieldLink "PrintLedger$Press" (15 : Nat) "PrintLedger$Press" "ready" "I") ∈ BG := bg_in 92 rfl rfl
set_option maxRecDepth 100000 in
theorem kw_93 : (Jvm.Cond.fieldLinkNest "PrintLedger" (257 : Nat) "PrintLedger$Press" "ready" "I" "PrintLedger") ∈ EW := ew_in 93 rfl rfl
set_option maxRecDepth 100000 in
theorem kw_94 : (Jvm.Cond.fieldLink "PrintLedger$Press" (18 : Nat) "PrintLedger$Press" "run" "I") ∈ BG := bg_in 94 rfl rfl
set_option maxRecDepth 100000 in
theorem kw_95 : (Jvm.Cond.fieldLinkNest "PrintLedger" (252 : Nat) "PrintLedger$Press" "run" "I" "PrintLedger") ∈ EW := ew_in 95 rfl rfl
set_option maxRecDepth 100000 in
theorem kw_96 : (Jvm.Cond.fieldLink "PrintLedger$Press" (21 : Nat) "PrintLedger$Press" "spoil" "I") ∈ BG := bg_in 96 rfl rfl
set_option maxRecDepth 100000 in
theorem kw_97 : (Jvm.Cond.fieldLinkNest "PrintLedger" (249 : Nat) "PrintLedger$Press" "spoil" "I" "PrintLedger") ∈ EW := ew_in 97 rfl rfl
set_option maxRecDepth 100000 in
theorem kw_98 : (Jvm.Cond.fieldLink "PrintLedger$Press" (26 : Nat) "PrintLedger$Press" "line" "[LPrintLedger$Job;") ∈ BG := bg_in 98 rfl rfl
set_option maxRecDepth 100000 in
theorem kw_99 : (Jvm.Cond.fieldLink "PrintLedger$Press" (43 : Nat) "PrintLedger$Press" "waiting" "I") ∈ BG := bg_in 99 rfl rfl
set_option maxRecDepth 100000 in
theorem kw_100 : (Jvm.Cond.fieldLinkNest "PrintLedger" (113 : Nat) "PrintLedger$Press" "waiting" "I" "PrintLedger") ∈ EW := ew_in 100 rfl rfl
set_option maxRecDepth 100000 in
theorem kw_101 : (Jvm.Cond.lays "PrintLedger$Press" "PrintLedger$Press" "towers" "I") ∈ BG := bg_in 101 rfl rfl
set_option maxRecDepth 100000 in
theorem kw_103 : (Jvm.Cond.lays "PrintLedger$Press" "PrintLedger$Press" "inks" "I") ∈ BG := bg_in 103 rfl rfl
set_option maxRecDepth 100000 in
theorem kw_105 : (Jvm.Cond.lays "PrintLedger$Press" "PrintLedger$Press" "ready" "I") ∈ BG := bg_in 105 rfl rfl
set_option maxRecDepth 100000 in
theorem kw_107 : (Jvm.Cond.lays "PrintLedger$Press" "PrintLedger$Press" "run" "I") ∈ BG := bg_in 107 rfl rfl
set_option maxRecDepth 100000 in
theorem kw_109 : (Jvm.Cond.lays "PrintLedger$Press" "PrintLedger$Press" "spoil" "I") ∈ BG := bg_in 109 rfl rfl
set_option maxRecDepth 100000 in
theorem kw_111 : (Jvm.Cond.laysFinal "PrintLedger$Press" "PrintLedger$Press" "line" "[LPrintLedger$Job;") ∈ BG := bg_in 111 rfl rfl
set_option maxRecDepth 100000 in
theorem kw_113 : (Jvm.Cond.lays "PrintLedger$Press" "PrintLedger$Press" "waiting" "I") ∈ BG := bg_in 113 rfl rfl
set_option maxRecDepth 100000 in
theorem kw_116 : (Jvm.Cond.classLink "PrintLedger" (23 : Nat) "PrintLedger$Job") ∈ BG := bg_in 116 rfl rfl
set_option maxRecDepth 100000 in
theorem kw_117 : (Jvm.Cond.classLink "PrintLedger" (36 : Nat) "PrintLedger$Expectation") ∈ BG := bg_in 117 rfl rfl
set_option maxRecDepth 100000 in
theorem kw_118 : (Jvm.Cond.instantiable "PrintLedger$Expectation" (7 : Nat)) ∈ BG := bg_in 118 rfl rfl
set_option maxRecDepth 100000 in
theorem kw_119 : (Jvm.Cond.methodLinkNest "PrintLedger" (38 : Nat) ({ cls := "PrintLedger$Expectation", name := "<init>", desc := "()V" } : Jvm.MethodName) "PrintLedger") ∈ EW := ew_in 119 rfl rfl
set_option maxRecDepth 100000 in
theorem kw_120 : (Jvm.Cond.instanceMethod ({ cls := "PrintLedger$Expectation", name := "<init>", desc := "()V" } : Jvm.MethodName)) ∈ BG := bg_in 120 rfl rfl
set_option maxRecDepth 100000 in
theorem kw_121 : (Jvm.Cond.code ({ cls := "PrintLedger$Expectation", name := "<init>", desc := "()V" } : Jvm.MethodName) prog_2_method_1_code (1 : Nat) (Option.none : Option Jvm.ClassFile.FieldType)) ∈ BG := bg_in 121 rfl rfl
set_option maxRecDepth 100000 in
theorem kw_122 : (Jvm.Cond.methodLink "PrintLedger$Expectation" (1 : Nat) ({ cls := "java/lang/Object", name := "<init>", desc := "()V" } : Jvm.MethodName)) ∈ BG := bg_in 122 rfl rfl
set_option maxRecDepth 100000 in
theorem kw_123 : (Jvm.Cond.fieldLinkNest "PrintLedger" (210 : Nat) "PrintLedger$Expectation" "passes" "I" "PrintLedger") ∈ EW := ew_in 123 rfl rfl
set_option maxRecDepth 100000 in
theorem kw_124 : (Jvm.Cond.fieldLinkNest "PrintLedger" (213 : Nat) "PrintLedger$Expectation" "change" "I" "PrintLedger") ∈ EW := ew_in 124 rfl rfl
set_option maxRecDepth 100000 in
theorem kw_125 : (Jvm.Cond.fieldLinkNest "PrintLedger" (216 : Nat) "PrintLedger$Expectation" "spoiled" "I" "PrintLedger") ∈ EW := ew_in 125 rfl rfl
set_option maxRecDepth 100000 in
theorem kw_126 : (Jvm.Cond.fieldLinkNest "PrintLedger" (131 : Nat) "PrintLedger$Expectation" "needed" "I" "PrintLedger") ∈ EW := ew_in 126 rfl rfl
set_option maxRecDepth 100000 in
theorem kw_127 : (Jvm.Cond.fieldLinkNest "PrintLedger" (219 : Nat) "PrintLedger$Expectation" "minutes" "I" "PrintLedger") ∈ EW := ew_in 127 rfl rfl
set_option maxRecDepth 100000 in
theorem kw_128 : (Jvm.Cond.fieldLinkNest "PrintLedger" (222 : Nat) "PrintLedger$Expectation" "cost" "I" "PrintLedger") ∈ EW := ew_in 128 rfl rfl
set_option maxRecDepth 100000 in
theorem kw_129 : (Jvm.Cond.fieldLinkNest "PrintLedger" (223 : Nat) "PrintLedger$Expectation" "quote" "I" "PrintLedger") ∈ EW := ew_in 129 rfl rfl
set_option maxRecDepth 100000 in
theorem kw_130 : (Jvm.Cond.lays "PrintLedger$Expectation" "PrintLedger$Expectation" "passes" "I") ∈ BG := bg_in 130 rfl rfl
set_option maxRecDepth 100000 in
theorem kw_132 : (Jvm.Cond.lays "PrintLedger$Expectation" "PrintLedger$Expectation" "change" "I") ∈ BG := bg_in 132 rfl rfl
set_option maxRecDepth 100000 in
theorem kw_134 : (Jvm.Cond.lays "PrintLedger$Expectation" "PrintLedger$Expectation" "spoiled" "I") ∈ BG := bg_in 134 rfl rfl
set_option maxRecDepth 100000 in
theorem kw_136 : (Jvm.Cond.lays "PrintLedger$Expectation" "PrintLedger$Expectation" "needed" "I") ∈ BG := bg_in 136 rfl rfl
set_option maxRecDepth 100000 in
theorem kw_138 : (Jvm.Cond.lays "PrintLedger$Expectation" "PrintLedger$Expectation" "minutes" "I") ∈ BG := bg_in 138 rfl rfl
set_option maxRecDepth 100000 in
theorem kw_140 : (Jvm.Cond.lays "PrintLedger$Expectation" "PrintLedger$Expectation" "cost" "I") ∈ BG := bg_in 140 rfl rfl
set_option maxRecDepth 100000 in
theorem kw_142 : (Jvm.Cond.lays "PrintLedger$Expectation" "PrintLedger$Expectation" "quote" "I") ∈ BG := bg_in 142 rfl rfl
set_option maxRecDepth 100000 in
theorem kw_145 : (Jvm.Cond.fieldLink "PrintLedger" (11 : Nat) "PrintLedger" "papers" "[LPrintLedger$Paper;") ∈ BG := bg_in 145 rfl rfl
set_option maxRecDepth 100000 in
theorem kw_146 : (Jvm.Cond.fieldLink "PrintLedger" (18 : Nat) "PrintLedger" "presses" "[LPrintLedger$Press;") ∈ BG := bg_in 146 rfl rfl
set_option maxRecDepth 100000 in
theorem kw_147 : (Jvm.Cond.fieldLink "PrintLedger" (25 : Nat) "PrintLedger" "jobs" "[LPrintLedger$Job;") ∈ BG := bg_in 147 rfl rfl
set_option maxRecDepth 100000 in
theorem kw_148 : (Jvm.Cond.fieldLink "PrintLedger" (148 : Nat) "PrintLedger" "jobCount" "I") ∈ BG := bg_in 148 rfl rfl
set_option maxRecDepth 100000 in
theorem kw_149 : (Jvm.Cond.fieldLink "PrintLedger" (106 : Nat) "PrintLedger" "money" "I") ∈ BG := bg_in 149 rfl rfl
set_option maxRecDepth 100000 in
theorem kw_150 : (Jvm.Cond.fieldLink "PrintLedger" (29 : Nat) "PrintLedger" "wage" "I") ∈ BG := bg_in 150 rfl rfl
set_option maxRecDepth 100000 in
theorem kw_151 : (Jvm.Cond.fieldLink "PrintLedger" (33 : Nat) "PrintLedger" "margin" "I") ∈ BG := bg_in 151 rfl rfl
set_option maxRecDepth 100000 in
theorem kw_152 : (Jvm.Cond.fieldLink "PrintLedger" (311 : Nat) "PrintLedger" "minutesTold" "I") ∈ BG := bg_in 152 rfl rfl
set_option maxRecDepth 100000 in
theorem kw_153 : (Jvm.Cond.fieldLink "PrintLedger" (314 : Nat) "PrintLedger" "spoiledTold" "I") ∈ BG := bg_in 153 rfl rfl
set_option maxRecDepth 100000 in
theorem kw_154 : (Jvm.Cond.fieldLink "PrintLedger" (39 : Nat) "PrintLedger" "expectation" "LPrintLedger$Expectation;") ∈ BG := bg_in 154 rfl rfl
set_option maxRecDepth 100000 in
theorem kw_155 : (Jvm.Cond.fieldLink "PrintLedger" (43 : Nat) "PrintLedger" "trial" "LPrintLedger$Press;") ∈ BG := bg_in 155 rfl rfl
set_option maxRecDepth 100000 in
theorem kw_156 : (Jvm.Cond.laysFinal "PrintLedger" "PrintLedger" "papers" "[LPrintLedger$Paper;") ∈ BG := bg_in 156 rfl rfl
set_option maxRecDepth 100000 in
theorem kw_158 : (Jvm.Cond.laysFinal "PrintLedger" "PrintLedger" "presses" "[LPrintLedger$Press;") ∈ BG := bg_in 158 rfl rfl
set_option maxRecDepth 100000 in
theorem kw_160 : (Jvm.Cond.laysFinal "PrintLedger" "PrintLedger" "jobs" "[LPrintLedger$Job;") ∈ BG := bg_in 160 rfl rfl
set_option maxRecDepth 100000 in
theorem kw_162 : (Jvm.Cond.lays "PrintLedger" "PrintLedger" "jobCount" "I") ∈ BG := bg_in 162 rfl rfl
set_option maxRecDepth 100000 in
theorem kw_164 : (Jvm.Cond.lays "PrintLedger" "PrintLedger" "money" "I") ∈ BG := bg_in 164 rfl rfl
set_option maxRecDepth 100000 in
theorem kw_166 : (Jvm.Cond.lays "PrintLedger" "PrintLedger" "wage" "I") ∈ BG := bg_in 166 rfl rfl
set_option maxRecDepth 100000 in
theorem kw_168 : (Jvm.Cond.lays "PrintLedger" "PrintLedger" "margin" "I") ∈ BG := bg_in 168 rfl rfl
set_option maxRecDepth 100000 in
theorem kw_170 : (Jvm.Cond.lays "PrintLedger" "PrintLedger" "minutesTold" "I") ∈ BG := bg_in 170 rfl rfl
set_option maxRecDepth 100000 in
theorem kw_172 : (Jvm.Cond.lays "PrintLedger" "PrintLedger" "spoiledTold" "I") ∈ BG := bg_in 172 rfl rfl
set_option maxRecDepth 100000 in
theorem kw_174 : (Jvm.Cond.laysFinal "PrintLedger" "PrintLedger" "expectation" "LPrintLedger$Expectation;") ∈ BG := bg_in 174 rfl rfl
set_option maxRecDepth 100000 in
theorem kw_176 : (Jvm.Cond.laysFinal "PrintLedger" "PrintLedger" "trial" "LPrintLedger$Press;") ∈ BG := bg_in 176 rfl rfl
set_option maxRecDepth 100000 in
theorem kw_179 : (Jvm.Cond.methodLink "PrintLedgerLaw" (18 : Nat) ({ cls := "PrintLedger", name := "many", desc := "(I)I" } : Jvm.MethodName)) ∈ BG := bg_in 179 rfl rfl
set_option maxRecDepth 100000 in
theorem kw_180 : (Jvm.Cond.instanceMethod ({ cls := "PrintLedger", name := "many", desc := "(I)I" } : Jvm.MethodName)) ∈ BG := bg_in 180 rfl rfl
set_option maxRecDepth 100000 in
theorem kw_181 : (Jvm.Cond.selects "PrintLedger" ({ cls := "PrintLedger", name := "many", desc := "(I)I" } : Jvm.MethodName) ({ cls := "PrintLedger", name := "many", desc := "(I)I" } : Jvm.MethodName)) ∈ BG := bg_in 181 rfl rfl
set_option maxRecDepth 100000 in
theorem kw_182 : (Jvm.Cond.code ({ cls := "PrintLedger", name := "many", desc := "(I)I" } : Jvm.MethodName) prog_1_method_26_code (2 : Nat) (Option.some Jvm.ClassFile.FieldType.int)) ∈ BG := bg_in 182 rfl rfl
set_option maxRecDepth 100000 in
theorem kw_183 : (Jvm.Cond.methodLink "PrintLedger" (329 : Nat) ({ cls := "PrintLedger", name := "jobsThatAre", desc := "(I)I" } : Jvm.MethodName)) ∈ BG := bg_in 183 rfl rfl
set_option maxRecDepth 100000 in
theorem kw_185 : (Jvm.Cond.instanceMethod ({ cls := "PrintLedger", name := "jobsThatAre", desc := "(I)I" } : Jvm.MethodName)) ∈ BG := bg_in 185 rfl rfl
set_option maxRecDepth 100000 in
theorem kw_186 : (Jvm.Cond.code ({ cls := "PrintLedger", name := "jobsThatAre", desc := "(I)I" } : Jvm.MethodName) prog_1_method_28_code (5 : Nat) (Option.some Jvm.ClassFile.FieldType.int)) ∈ BG := bg_in 186 rfl rfl
set_option maxRecDepth 100000 in
theorem kw_187 : (Jvm.Cond.methodLink "PrintLedger" (332 : Nat) ({ cls := "PrintLedger", name := "moneyOfInvoices", desc := "()I" } : Jvm.MethodName)) ∈ BG := bg_in 187 rfl rfl
set_option maxRecDepth 100000 in
theorem kw_189 : (Jvm.Cond.instanceMethod ({ cls := "PrintLedger", name := "moneyOfInvoices", desc := "()I" } : Jvm.MethodName)) ∈ BG := bg_in 189 rfl rfl
set_option maxRecDepth 100000 in
theorem kw_190 : (Jvm.Cond.code ({ cls := "PrintLedger", name := "moneyOfInvoices", desc := "()I" } : Jvm.MethodName) prog_1_method_29_code (4 : Nat) (Option.some Jvm.ClassFile.FieldType.int)) ∈ BG := bg_in 190 rfl rfl
set_option maxRecDepth 100000 in
theorem kw_191 : (Jvm.Cond.methodLink "PrintLedger" (335 : Nat) ({ cls := "PrintLedger", name := "costOfJobs", desc := "()I" } : Jvm.MethodName)) ∈ BG := bg_in 191 rfl rfl
set_option maxRecDepth 100000 in
theorem kw_193 : (Jvm.Cond.instanceMethod ({ cls := "PrintLedger", name := "costOfJobs", desc := "()I" } : Jvm.MethodName)) ∈ BG := bg_in 193 rfl rfl
set_option maxRecDepth 100000 in
theorem kw_194 : (Jvm.Cond.code ({ cls := "PrintLedger", name := "costOfJobs", desc := "()I" } : Jvm.MethodName) prog_1_method_30_code (4 : Nat) (Option.some Jvm.ClassFile.FieldType.int)) ∈ BG := bg_in 194 rfl rfl
set_option maxRecDepth 100000 in
theorem kw_195 : (Jvm.Cond.methodLink "PrintLedger" (338 : Nat) ({ cls := "PrintLedger", name := "worthOfStock", desc := "()I" } : Jvm.MethodName)) ∈ BG := bg_in 195 rfl rfl
set_option maxRecDepth 100000 in
theorem kw_197 : (Jvm.Cond.instanceMethod ({ cls := "PrintLedger", name := "worthOfStock", desc := "()I" } : Jvm.MethodName)) ∈ BG := bg_in 197 rfl rfl
set_option maxRecDepth 100000 in
theorem kw_198 : (Jvm.Cond.code ({ cls := "PrintLedger", name := "worthOfStock", desc := "()I" } : Jvm.MethodName) prog_1_method_31_code (4 : Nat) (Option.some Jvm.ClassFile.FieldType.int)) ∈ BG := bg_in 198 rfl rfl
set_option maxRecDepth 100000 in
theorem kw_199 : (Jvm.Cond.classLink "PrintLedger" (55 : Nat) "java/lang/IllegalArgumentException") ∈ BG := bg_in 199 rfl rfl
set_option maxRecDepth 100000 in
theorem kw_200 : (Jvm.Cond.instantiable "java/lang/IllegalArgumentException" (6 : Nat)) ∈ BG := bg_in 200 rfl rfl
set_option maxRecDepth 100000 in
theorem kw_201 : (Jvm.Cond.castable "java/lang/IllegalArgumentException" "java/lang/IllegalArgumentException") ∈ EW := ew_in 201 rfl rfl
set_option maxRecDepth 100000 in
theorem kw_208 : (Jvm.Cond.selects "java/lang/IllegalArgumentException" ({ cls := "java/lang/Throwable", name := "fillInStackTrace", desc := "(I)Ljava/lang/Throwable;" } : Jvm.MethodName) ({ cls := "java/lang/Throwable", name := "fillInStackTrace", desc := "(I)Ljava/lang/Throwable;" } : Jvm.MethodName)) ∈ BG := bg_in 208 rfl rfl
set_option maxRecDepth 100000 in
theorem kw_209 : (Jvm.Cond.selects "java/lang/IllegalArgumentException" ({ cls := "java/lang/Throwable", name := "fillInStackTrace", desc := "()Ljava/lang/Throwable;" } : Jvm.MethodName) ({ cls := "java/lang/Throwable", name := "fillInStackTrace", desc := "()Ljava/lang/Throwable;" } : Jvm.MethodName)) ∈ BG := bg_in 209 rfl rfl
set_option maxRecDepth 100000 in
theorem kw_210 : (Jvm.Cond.lays "java/lang/IllegalArgumentException" "java/lang/Throwable" "cause" "Ljava/lang/Throwable;") ∈ BG := bg_in 210 rfl rfl
set_option maxRecDepth 100000 in
theorem kw_211 : (Jvm.Cond.lays "java/lang/Throwable" "java/lang/Throwable" "cause" "Ljava/lang/Throwable;") ∈ BG := bg_in 211 rfl rfl
set_option maxRecDepth 100000 in
theorem kw_212 : (Jvm.Cond.lays "java/lang/IllegalArgumentException" "java/lang/Throwable" "stackTrace" "[Ljava/lang/StackTraceElement;") ∈ BG := bg_in 212 rfl rfl
set_option maxRecDepth 100000 in
theorem kw_213 : (Jvm.Cond.lays "java/lang/Throwable" "java/lang/Throwable" "stackTrace" "[Ljava/lang/StackTraceElement;") ∈ BG := bg_in 213 rfl rfl
set_option maxRecDepth 100000 in
theorem kw_214 : (Jvm.Cond.lays "java/lang/IllegalArgumentException" "java/lang/Throwable" "suppressedExceptions" "Ljava/util/List;") ∈ BG := bg_in 214 rfl rfl
set_option maxRecDepth 100000 in
theorem kw_215 : (Jvm.Cond.lays "java/lang/Throwable" "java/lang/Throwable" "suppressedExceptions" "Ljava/util/List;") ∈ BG := bg_in 215 rfl rfl
set_option maxRecDepth 100000 in
theorem kw_216 : (Jvm.Cond.lays "java/lang/IllegalArgumentException" "java/lang/Throwable" "detailMessage" "Ljava/lang/String;") ∈ BG := bg_in 216 rfl rfl
set_option maxRecDepth 100000 in
theorem kw_217 : (Jvm.Cond.lays "java/lang/Throwable" "java/lang/Throwable" "detailMessage" "Ljava/lang/String;") ∈ BG := bg_in 217 rfl rfl
set_option maxRecDepth 100000 in
theorem kw_218 : (Jvm.Cond.lays "java/lang/IllegalArgumentException" "java/lang/Throwable" "backtrace" "Ljava/lang/Object;") ∈ BG := bg_in 218 rfl rfl
set_option maxRecDepth 100000 in
theorem kw_219 : (Jvm.Cond.lays "java/lang/Throwable" "java/lang/Throwable" "backtrace" "Ljava/lang/Object;") ∈ BG := bg_in 219 rfl rfl
set_option maxRecDepth 100000 in
theorem kw_220 : (Jvm.Cond.fieldLink "java/lang/Throwable" (198 : Nat) "java/lang/Throwable" "backtrace" "Ljava/lang/Object;") ∈ BG := bg_in 220 rfl rfl
set_option maxRecDepth 100000 in
theorem kw_222 : (Jvm.Cond.instanceMethod ({ cls := "java/lang/Throwable", name := "<init>", desc := "()V" } : Jvm.MethodName)) ∈ BG := bg_in 222 rfl rfl
set_option maxRecDepth 100000 in
theorem kw_223 : (Jvm.Cond.code ({ cls := "java/lang/Throwable", name := "<init>", desc := "()V" } : Jvm.MethodName) prog_19_method_1_code (1 : Nat) (Option.none : Option Jvm.ClassFile.FieldType)) ∈ BG := bg_in 223 rfl rfl
set_option maxRecDepth 100000 in
theorem kw_224 : (Jvm.Cond.methodLink "java/lang/Throwable" (1 : Nat) ({ cls := "java/lang/Object", name := "<init>", desc := "()V" } : Jvm.MethodName)) ∈ BG := bg_in 224 rfl rfl
set_option maxRecDepth 100000 in
theorem kw_225 : (Jvm.Cond.fieldLink "java/lang/Throwable" (13 : Nat) "java/lang/Throwable" "UNASSIGNED_STACK" "[Ljava/lang/StackTraceElement;") ∈ BG := bg_in 225 rfl rfl
set_option maxRecDepth 100000 in
theorem kw_227 : (Jvm.Cond.fieldLink "java/lang/Throwable" (20 : Nat) "java/lang/Throwable" "SUPPRESSED_SENTINEL" "Ljava/util/List;") ∈ BG := bg_in 227 rfl rfl
set_option maxRecDepth 100000 in
theorem kw_229 : (Jvm.Cond.methodLink "java/lang/Throwable" (27 : Nat) ({ cls := "java/lang/Throwable", name := "fillInStackTrace", desc := "()Ljava/lang/Throwable;" } : Jvm.MethodName)) ∈ BG := bg_in 229 rfl rfl
set_option maxRecDepth 100000 in
theorem kw_230 : (Jvm.Cond.instanceMethod ({ cls := "java/lang/Throwable", name := "fillInStackTrace", desc := "()Ljava/lang/Throwable;" } : Jvm.MethodName)) ∈ BG := bg_in 230 rfl rfl
set_option maxRecDepth 100000 in
theorem kw_232 : (Jvm.Cond.selects "java/lang/IllegalStateException" ({ cls := "java/lang/Throwable", name := "fillInStackTrace", desc := "()Ljava/lang/Throwable;" } : Jvm.MethodName) ({ cls := "java/lang/Throwable", name := "fillInStackTrace", desc := "()Ljava/lang/Throwable;" } : Jvm.MethodName)) ∈ BG := bg_in 232 rfl rfl
set_option maxRecDepth 100000 in
theorem kw_233 : (Jvm.Cond.selects "java/lang/IndexOutOfBoundsException" ({ cls := "java/lang/Throwable", name := "fillInStackTrace", desc := "()Ljava/lang/Throwable;" } : Jvm.MethodName) ({ cls := "java/lang/Throwable", name := "fillInStackTrace", desc := "()Ljava/lang/Throwable;" } : Jvm.MethodName)) ∈ BG := bg_in 233 rfl rfl
set_option maxRecDepth 100000 in
theorem kw_235 : (Jvm.Cond.methodLink "java/lang/Throwable" (202 : Nat) ({ cls := "java/lang/Throwable", name := "fillInStackTrace", desc := "(I)Ljava/lang/Throwable;" } : Jvm.MethodName)) ∈ BG := bg_in 235 rfl rfl
set_option maxRecDepth 100000 in
theorem kw_237 : (Jvm.Cond.instanceMethod ({ cls := "java/lang/Throwable", name := "fillInStackTrace", desc := "(I)Ljava/lang/Throwable;" } : Jvm.MethodName)) ∈ BG := bg_in 237 rfl rfl
set_option maxRecDepth 100000 in
theorem kw_238 : (Jvm.Cond.instantiable "java/lang/Throwable" (6 : Nat)) ∈ BG := bg_in 238 rfl rfl
set_option maxRecDepth 100000 in
theorem kw_241 : (Jvm.Cond.methodLink "PrintLedger" (59 : Nat) ({ cls := "java/lang/IllegalArgumentException", name := "<init>", desc := "(Ljava/lang/String;)V" } : Jvm.MethodName)) ∈ BG := bg_in 241 rfl rfl
set_option maxRecDepth 100000 in
theorem kw_242 : (Jvm.Cond.instanceMethod ({ cls := "java/lang/IllegalArgumentException", name := "<init>", desc := "(Ljava/lang/String;)V" } : Jvm.MethodName)) ∈ BG := bg_in 242 rfl rfl
set_option maxRecDepth 100000 in
theorem kw_243 : (Jvm.Cond.code ({ cls := "java/lang/IllegalArgumentException", name := "<init>", desc := "(Ljava/lang/String;)V" } : Jvm.MethodName) prog_12_method_2_code (2 : Nat) (Option.none : Option Jvm.ClassFile.FieldType)) ∈ BG := bg_in 243 rfl rfl
set_option maxRecDepth 100000 in
theorem kw_244 : (Jvm.Cond.methodLink "java/lang/IllegalArgumentException" (7 : Nat) ({ cls := "java/lang/RuntimeException", name := "<init>", desc := "(Ljava/lang/String;)V" } : Jvm.MethodName)) ∈ BG := bg_in 244 rfl rfl
set_option maxRecDepth 100000 in
theorem kw_245 : (Jvm.Cond.instanceMethod ({ cls := "java/lang/RuntimeException", name := "<init>", desc := "(Ljava/lang/String;)V" } : Jvm.MethodName)) ∈ BG := bg_in 245 rfl rfl
set_option maxRecDepth 100000 in
theorem kw_246 : (Jvm.Cond.code ({ cls := "java/lang/RuntimeException", name := "<init>", desc := "(Ljava/lang/String;)V" } : Jvm.MethodName) prog_17_method_2_code (2 : Nat) (Option.none : Option Jvm.ClassFile.FieldType)) ∈ BG := bg_in 246 rfl rfl
set_option maxRecDepth 100000 in
theorem kw_247 : (Jvm.Cond.methodLink "java/lang/RuntimeException" (7 : Nat) ({ cls := "java/lang/Exception", name := "<init>", desc := "(Ljava/lang/String;)V" } : Jvm.MethodName)) ∈ BG := bg_in 247 rfl rfl
set_option maxRecDepth 100000 in
theorem kw_248 : (Jvm.Cond.instanceMethod ({ cls := "java/lang/Exception", name := "<init>", desc := "(Ljava/lang/String;)V" } : Jvm.MethodName)) ∈ BG := bg_in 248 rfl rfl
set_option maxRecDepth 100000 in
theorem kw_249 : (Jvm.Cond.code ({ cls := "java/lang/Exception", name := "<init>", desc := "(Ljava/lang/String;)V" } : Jvm.MethodName) prog_11_method_2_code (2 : Nat) (Option.none : Option Jvm.ClassFile.FieldType)) ∈ BG := bg_in 249 rfl rfl
set_option maxRecDepth 100000 in
theorem kw_250 : (Jvm.Cond.methodLink "java/lang/Exception" (7 : Nat) ({ cls := "java/lang/Throwable", name := "<init>", desc := "(Ljava/lang/String;)V" } : Jvm.MethodName)) ∈ BG := bg_in 250 rfl rfl
set_option maxRecDepth 100000 in
theorem kw_251 : (Jvm.Cond.instanceMethod ({ cls := "java/lang/Throwable", name := "<init>", desc := "(Ljava/lang/String;)V" } : Jvm.MethodName)) ∈ BG := bg_in 251 rfl rfl
set_option maxRecDepth 100000 in
theorem kw_252 : (Jvm.Cond.code ({ cls := "java/lang/Throwable", name := "<init>", desc := "(Ljava/lang/String;)V" } : Jvm.MethodName) prog_19_method_2_code (2 : Nat) (Option.none : Option Jvm.ClassFile.FieldType)) ∈ BG := bg_in 252 rfl rfl
set_option maxRecDepth 100000 in
theorem kw_253 : (Jvm.Cond.fieldLink "java/lang/Throwable" (198 : Nat) "java/lang/Throwable" "backtrace" "Ljava/lang/Object;") ∈ BG := bg_in 253 rfl rfl
set_option maxRecDepth 100000 in
theorem kw_254 : (Jvm.Cond.fieldLink "java/lang/Throwable" (31 : Nat) "java/lang/Throwable" "detailMessage" "Ljava/lang/String;") ∈ BG := bg_in 254 rfl rfl
set_option maxRecDepth 100000 in
theorem kw_255 : (Jvm.Cond.fieldLink "java/lang/Throwable" (7 : Nat) "java/lang/Throwable" "cause" "Ljava/lang/Throwable;") ∈ BG := bg_in 255 rfl rfl
set_option maxRecDepth 100000 in
theorem kw_256 : (Jvm.Cond.fieldLink "java/lang/Throwable" (17 : Nat) "java/lang/Throwable" "stackTrace" "[Ljava/lang/StackTraceElement;") ∈ BG := bg_in 256 rfl rfl
set_option maxRecDepth 100000 in
theorem kw_257 : (Jvm.Cond.fieldLink "java/lang/Throwable" (24 : Nat) "java/lang/Throwable" "suppressedExceptions" "Ljava/util/List;") ∈ BG := bg_in 257 rfl rfl
set_option maxRecDepth 100000 in
theorem kw_262 : (Jvm.Cond.lays "java/lang/IllegalArgumentException" "java/lang/Throwable" "depth" "I") ∈ BG := bg_in 262 rfl rfl
set_option maxRecDepth 100000 in
theorem kw_266 : (Jvm.Cond.arrayClass Jvm.ClassFile.FieldType.byte) ∈ BG := bg_in 266 rfl rfl
set_option maxRecDepth 100000 in
theorem kw_267 : (Jvm.Cond.methodLink "PrintLedgerLaw" (35 : Nat) ({ cls := "PrintLedger", name := "digest", desc := "()J" } : Jvm.MethodName)) ∈ BG := bg_in 267 rfl rfl
set_option maxRecDepth 100000 in
theorem kw_268 : (Jvm.Cond.instanceMethod ({ cls := "PrintLedger", name := "digest", desc := "()J" } : Jvm.MethodName)) ∈ BG := bg_in 268 rfl rfl
set_option maxRecDepth 100000 in
theorem kw_269 : (Jvm.Cond.selects "PrintLedger" ({ cls := "PrintLedger", name := "digest", desc := "()J" } : Jvm.MethodName) ({ cls := "PrintLedger", name := "digest", desc := "()J" } : Jvm.MethodName)) ∈ BG := bg_in 269 rfl rfl
set_option maxRecDepth 100000 in
theorem kw_270 : (Jvm.Cond.code ({ cls := "PrintLedger", name := "digest", desc := "()J" } : Jvm.MethodName) prog_1_method_35_code (5 : Nat) (Option.some Jvm.ClassFile.FieldType.long)) ∈ BG := bg_in 270 rfl rfl
set_option maxRecDepth 100000 in
theorem kw_271 : (Jvm.Cond.constantLong "PrintLedger" (348 : Nat) (58117 : Int64)) ∈ BG := bg_in 271 rfl rfl
set_option maxRecDepth 100000 in
theorem kw_272 : (Jvm.Cond.constantLong "PrintLedger" (350 : Nat) (31 : Int64)) ∈ BG := bg_in 272 rfl rfl
set_option maxRecDepth 100000 in
theorem kw_273 : (Jvm.Cond.methodLink "PrintLedger" (352 : Nat) ({ cls := "PrintLedger", name := "many", desc := "(I)I" } : Jvm.MethodName)) ∈ BG := bg_in 273 rfl rfl
set_option maxRecDepth 100000 in
theorem kw_274 : (Jvm.Cond.methodLink "PrintLedger" (355 : Nat) ({ cls := "PrintLedger", name := "ofPaper", desc := "(II)I" } : Jvm.MethodName)) ∈ BG := bg_in 274 rfl rfl
set_option maxRecDepth 100000 in
theorem kw_275 : (Jvm.Cond.instanceMethod ({ cls := "PrintLedger", name := "ofPaper", desc := "(II)I" } : Jvm.MethodName)) ∈ BG := bg_in 275 rfl rfl
set_option maxRecDepth 100000 in
theorem kw_276 : (Jvm.Cond.selects "PrintLedger" ({ cls := "PrintLedger", name := "ofPaper", desc := "(II)I" } : Jvm.MethodName) ({ cls := "PrintLedger", name := "ofPaper", desc := "(II)I" } : Jvm.MethodName)) ∈ BG := bg_in 276 rfl rfl
set_option maxRecDepth 100000 in
theorem kw_277 : (Jvm.Cond.code ({ cls := "PrintLedger", name := "ofPaper", desc := "(II)I" } : Jvm.MethodName) prog_1_method_5_code (4 : Nat) (Option.some Jvm.ClassFile.FieldType.int)) ∈ BG := bg_in 277 rfl rfl
set_option maxRecDepth 100000 in
theorem kw_278 : (Jvm.Cond.methodLink "PrintLedger" (47 : Nat) ({ cls := "PrintLedger", name := "paperOf", desc := "(I)LPrintLedger$Paper;" } : Jvm.MethodName)) ∈ BG := bg_in 278 rfl rfl
set_option maxRecDepth 100000 in
theorem kw_280 : (Jvm.Cond.instanceMethod ({ cls := "PrintLedger", name := "paperOf", desc := "(I)LPrintLedger$Paper;" } : Jvm.MethodName)) ∈ BG := bg_in 280 rfl rfl
set_option maxRecDepth 100000 in
theorem kw_281 : (Jvm.Cond.code ({ cls := "PrintLedger", name := "paperOf", desc := "(I)LPrintLedger$Paper;" } : Jvm.MethodName) prog_1_method_38_code (3 : Nat) (Option.some (Jvm.ClassFile.FieldType.object "PrintLedger$Paper"))) ∈ BG := bg_in 281 rfl rfl
set_option maxRecDepth 100000 in
theorem kw_282 : (Jvm.Cond.classLink "PrintLedger" (282 : Nat) "java/lang/IndexOutOfBoundsException") ∈ BG := bg_in 282 rfl rfl
set_option maxRecDepth 100000 in
theorem kw_283 : (Jvm.Cond.instantiable "java/lang/IndexOutOfBoundsException" (6 : Nat)) ∈ BG := bg_in 283 rfl rfl
set_option maxRecDepth 100000 in
theorem kw_284 : (Jvm.Cond.castable "java/lang/IndexOutOfBoundsException" "java/lang/IndexOutOfBoundsException") ∈ EW := ew_in 284 rfl rfl
set_option maxRecDepth 100000 in
theorem kw_285 : (Jvm.Cond.selects "java/lang/IndexOutOfBoundsException" ({ cls := "java/lang/Throwable", name := "fillInStackTrace", desc := "(I)Ljava/lang/Throwable;" } : Jvm.MethodName) ({ cls := "java/lang/Throwable", name := "fillInStackTrace", desc := "(I)Ljava/lang/Throwable;" } : Jvm.MethodName)) ∈ BG := bg_in 285 rfl rfl
set_option maxRecDepth 100000 in
theorem kw_286 : (Jvm.Cond.lays "java/lang/IndexOutOfBoundsException" "java/lang/Throwable" "cause" "Ljava/lang/Throwable;") ∈ BG := bg_in 286 rfl rfl
set_option maxRecDepth 100000 in
theorem kw_287 : (Jvm.Cond.lays "java/lang/IndexOutOfBoundsException" "java/lang/Throwable" "stackTrace" "[Ljava/lang/StackTraceElement;") ∈ BG := bg_in 287 rfl rfl
set_option maxRecDepth 100000 in
theorem kw_288 : (Jvm.Cond.lays "java/lang/IndexOutOfBoundsException" "java/lang/Throwable" "suppressedExceptions" "Ljava/util/List;") ∈ BG := bg_in 288 rfl rfl
set_option maxRecDepth 100000 in
theorem kw_289 : (Jvm.Cond.lays "java/lang/IndexOutOfBoundsException" "java/lang/Throwable" "detailMessage" "Ljava/lang/String;") ∈ BG := bg_in 289 rfl rfl
set_option maxRecDepth 100000 in
theorem kw_290 : (Jvm.Cond.lays "java/lang/IndexOutOfBoundsException" "java/lang/Throwable" "backtrace" "Ljava/lang/Object;") ∈ BG := bg_in 290 rfl rfl
set_option maxRecDepth 100000 in
theorem kw_292 : (Jvm.Cond.methodLink "PrintLedger" (286 : Nat) ({ cls := "java/lang/IndexOutOfBoundsException", name := "<init>", desc := "(Ljava/lang/String;)V" } : Jvm.MethodName)) ∈ BG := bg_in 292 rfl rfl
set_option maxRecDepth 100000 in
theorem kw_293 : (Jvm.Cond.instanceMethod ({ cls := "java/lang/IndexOutOfBoundsException", name := "<init>", desc := "(Ljava/lang/String;)V" } : Jvm.MethodName)) ∈ BG := bg_in 293 rfl rfl
set_option maxRecDepth 100000 in
theorem kw_294 : (Jvm.Cond.code ({ cls := "java/lang/IndexOutOfBoundsException", name := "<init>", desc := "(Ljava/lang/String;)V" } : Jvm.MethodName) prog_14_method_2_code (2 : Nat) (Option.none : Option Jvm.ClassFile.FieldType)) ∈ BG := bg_in 294 rfl rfl
set_option maxRecDepth 100000 in
theorem kw_295 : (Jvm.Cond.methodLink "java/lang/IndexOutOfBoundsException" (7 : Nat) ({ cls := "java/lang/RuntimeException", name := "<init>", desc := "(Ljava/lang/String;)V" } : Jvm.MethodName)) ∈ BG := bg_in 295 rfl rfl
set_option maxRecDepth 100000 in
theorem kw_296 : (Jvm.Cond.lays "java/lang/IndexOutOfBoundsException" "java/lang/Throwable" "depth" "I") ∈ BG := bg_in 296 rfl rfl
set_option maxRecDepth 100000 in
theorem kw_298 : (Jvm.Cond.methodLink "PrintLedger" (101 : Nat) ({ cls := "PrintLedger", name := "forecastOf", desc := "(LPrintLedger$Paper;)I" } : Jvm.MethodName)) ∈ BG := bg_in 298 rfl rfl
set_option maxRecDepth 100000 in
theorem kw_300 : (Jvm.Cond.instanceMethod ({ cls := "PrintLedger", name := "forecastOf", desc := "(LPrintLedger$Paper;)I" } : Jvm.MethodName)) ∈ BG := bg_in 300 rfl rfl
set_option maxRecDepth 100000 in
theorem kw_301 : (Jvm.Cond.code ({ cls := "PrintLedger", name := "forecastOf", desc := "(LPrintLedger$Paper;)I" } : Jvm.MethodName) prog_1_method_7_code (5 : Nat) (Option.some Jvm.ClassFile.FieldType.int)) ∈ BG := bg_in 301 rfl rfl
set_option maxRecDepth 100000 in
theorem kw_302 : (Jvm.Cond.methodLink "PrintLedger" (109 : Nat) ({ cls := "PrintLedger", name := "neededOf", desc := "(LPrintLedger$Paper;LPrintLedger$Press;)I" } : Jvm.MethodName)) ∈ BG := bg_in 302 rfl rfl
set_option maxRecDepth 100000 in
theorem kw_304 : (Jvm.Cond.instanceMethod ({ cls := "PrintLedger", name := "neededOf", desc := "(LPrintLedger$Paper;LPrintLedger$Press;)I" } : Jvm.MethodName)) ∈ BG := bg_in 304 rfl rfl
set_option maxRecDepth 100000 in
theorem kw_305 : (Jvm.Cond.code ({ cls := "PrintLedger", name := "neededOf", desc := "(LPrintLedger$Paper;LPrintLedger$Press;)I" } : Jvm.MethodName) prog_1_method_8_code (6 : Nat) (Option.some Jvm.ClassFile.FieldType.int)) ∈ BG := bg_in 305 rfl rfl
set_option maxRecDepth 100000 in
theorem kw_306 : (Jvm.Cond.methodLinkNest "PrintLedger" (116 : Nat) ({ cls := "PrintLedger$Press", name := "jobAt", desc := "(I)LPrintLedger$Job;" } : Jvm.MethodName) "PrintLedger") ∈ EW := ew_in 306 rfl rfl
set_option maxRecDepth 100000 in
theorem kw_308 : (Jvm.Cond.instanceMethod ({ cls := "PrintLedger$Press", name := "jobAt", desc := "(I)LPrintLedger$Job;" } : Jvm.MethodName)) ∈ BG := bg_in 308 rfl rfl
set_option maxRecDepth 100000 in
theorem kw_309 : (Jvm.Cond.code ({ cls := "PrintLedger$Press", name := "jobAt", desc := "(I)LPrintLedger$Job;" } : Jvm.MethodName) prog_5_method_3_code (2 : Nat) (Option.some (Jvm.ClassFile.FieldType.object "PrintLedger$Job"))) ∈ BG := bg_in 309 rfl rfl
set_option maxRecDepth 100000 in
theorem kw_310 : (Jvm.Cond.methodLink "PrintLedger" (127 : Nat) ({ cls := "PrintLedger", name := "expect", desc := "(LPrintLedger$Job;LPrintLedger$Press;I)LPrintLedger$Expectation;" } : Jvm.MethodName)) ∈ BG := bg_in 310 rfl rfl
set_option maxRecDepth 100000 in
theorem kw_312 : (Jvm.Cond.instanceMethod ({ cls := "PrintLedger", name := "expect", desc := "(LPrintLedger$Job;LPrintLedger$Press;I)LPrintLedger$Expectation;" } : Jvm.MethodName)) ∈ BG := bg_in 312 rfl rfl
set_option maxRecDepth 100000 in
theorem kw_313 : (Jvm.Cond.code ({ cls := "PrintLedger", name := "expect", desc := "(LPrintLedger$Job;LPrintLedger$Press;I)LPrintLedger$Expectation;" } : Jvm.MethodName) prog_1_method_16_code (8 : Nat) (Option.some (Jvm.ClassFile.FieldType.object "PrintLedger$Expectation"))) ∈ BG := bg_in 313 rfl rfl
set_option maxRecDepth 100000 in
theorem kw_314 : (Jvm.Cond.methodLinkNest "PrintLedger" (189 : Nat) ({ cls := "PrintLedger$Job", name := "sheets", desc := "()I" } : Jvm.MethodName) "PrintLedger") ∈ EW := ew_in 314 rfl rfl
set_option maxRecDepth 100000 in
theorem kw_316 : (Jvm.Cond.instanceMethod ({ cls := "PrintLedger$Job", name := "sheets", desc := "()I" } : Jvm.MethodName)) ∈ BG := bg_in 316 rfl rfl
set_option maxRecDepth 100000 in
theorem kw_317 : (Jvm.Cond.instantiable "PrintLedger$Job" (15 : Nat)) ∈ BG := bg_in 317 rfl rfl
set_option maxRecDepth 100000 in
theorem kw_318 : (Jvm.Cond.code ({ cls := "PrintLedger$Job", name := "sheets", desc := "()I" } : Jvm.MethodName) prog_3_method_3_code (2 : Nat) (Option.some Jvm.ClassFile.FieldType.int)) ∈ BG := bg_in 318 rfl rfl
set_option maxRecDepth 100000 in
theorem kw_319 : (Jvm.Cond.methodLink "PrintLedger$Job" (59 : Nat) ({ cls := "java/lang/Math", name := "max", desc := "(II)I" } : Jvm.MethodName)) ∈ BG := bg_in 319 rfl rfl
set_option maxRecDepth 100000 in
theorem kw_320 : (Jvm.Cond.static ({ cls := "java/lang/Math", name := "max", desc := "(II)I" } : Jvm.MethodName)) ∈ BG := bg_in 320 rfl rfl
set_option maxRecDepth 100000 in
theorem kw_321 : (Jvm.Cond.code ({ cls := "java/lang/Math", name := "max", desc := "(II)I" } : Jvm.MethodName) prog_16_method_65_code (2 : Nat) (Option.some Jvm.ClassFile.FieldType.int)) ∈ BG := bg_in 321 rfl rfl
set_option maxRecDepth 100000 in
theorem kw_322 : (Jvm.Cond.methodLinkNest "PrintLedger$Job" (64 : Nat) ({ cls := "PrintLedger", name := "divideUp", desc := "(II)I" } : Jvm.MethodName) "PrintLedger") ∈ EW := ew_in 322 rfl rfl
set_option maxRecDepth 100000 in
theorem kw_323 : (Jvm.Cond.static ({ cls := "PrintLedger", name := "divideUp", desc := "(II)I" } : Jvm.MethodName)) ∈ BG := bg_in 323 rfl rfl
set_option maxRecDepth 100000 in
theorem kw_324 : (Jvm.Cond.code ({ cls := "PrintLedger", name := "divideUp", desc := "(II)I" } : Jvm.MethodName) prog_1_method_43_code (2 : Nat) (Option.some Jvm.ClassFile.FieldType.int)) ∈ BG := bg_in 324 rfl rfl
set_option maxRecDepth 100000 in
theorem kw_325 : (Jvm.Cond.methodLinkNest "PrintLedger" (241 : Nat) ({ cls := "PrintLedger$Press", name := "passesOf", desc := "(LPrintLedger$Job;)I" } : Jvm.MethodName) "PrintLedger") ∈ EW := ew_in 325 rfl rfl
set_option maxRecDepth 100000 in
theorem kw_327 : (Jvm.Cond.instanceMethod ({ cls := "PrintLedger$Press", name := "passesOf", desc := "(LPrintLedger$Job;)I" } : Jvm.MethodName)) ∈ BG := bg_in 327 rfl rfl
set_option maxRecDepth 100000 in
theorem kw_328 : (Jvm.Cond.code ({ cls := "PrintLedger$Press", name := "passesOf", desc := "(LPrintLedger$Job;)I" } : Jvm.MethodName) prog_5_method_2_code (2 : Nat) (Option.some Jvm.ClassFile.FieldType.int)) ∈ BG := bg_in 328 rfl rfl
set_option maxRecDepth 100000 in
theorem kw_329 : (Jvm.Cond.methodLink "PrintLedger$Press" (33 : Nat) ({ cls := "java/lang/Integer", name := "bitCount", desc := "(I)I" } : Jvm.MethodName)) ∈ BG := bg_in 329 rfl rfl
set_option maxRecDepth 100000 in
theorem kw_330 : (Jvm.Cond.static ({ cls := "java/lang/Integer", name := "bitCount", desc := "(I)I" } : Jvm.MethodName)) ∈ BG := bg_in 330 rfl rfl
set_option maxRecDepth 100000 in
theorem kw_331 : (Jvm.Cond.code ({ cls := "java/lang/Integer", name := "bitCount", desc := "(I)I" } : Jvm.MethodName) prog_15_method_49_code (1 : Nat) (Option.some Jvm.ClassFile.FieldType.int)) ∈ BG := bg_in 331 rfl rfl
set_option maxRecDepth 100000 in
theorem kw_332 : (Jvm.Cond.constant "java/lang/Integer" (265 : Nat) (1431655765 : Int32)) ∈ BG := bg_in 332 rfl rfl
set_option maxRecDepth 100000 in
theorem kw_333 : (Jvm.Cond.constant "java/lang/Integer" (266 : Nat) (858993459 : Int32)) ∈ BG := bg_in 333 rfl rfl
set_option maxRecDepth 100000 in
theorem kw_334 : (Jvm.Cond.constant "java/lang/Integer" (267 : Nat) (252645135 : Int32)) ∈ BG := bg_in 334 rfl rfl
set_option maxRecDepth 100000 in
theorem kw_335 : (Jvm.Cond.methodLinkNest "PrintLedger$Press" (39 : Nat) ({ cls := "PrintLedger", name := "divideUp", desc := "(II)I" } : Jvm.MethodName) "PrintLedger") ∈ EW := ew_in 335 rfl rfl
set_option maxRecDepth 100000 in
theorem kw_336 : (Jvm.Cond.methodLink "PrintLedger" (245 : Nat) ({ cls := "PrintLedger", name := "changeOf", desc := "(LPrintLedger$Job;I)I" } : Jvm.MethodName)) ∈ BG := bg_in 336 rfl rfl
set_option maxRecDepth 100000 in
theorem kw_337 : (Jvm.Cond.static ({ cls := "PrintLedger", name := "changeOf", desc := "(LPrintLedger$Job;I)I" } : Jvm.MethodName)) ∈ BG := bg_in 337 rfl rfl
set_option maxRecDepth 100000 in
theorem kw_338 : (Jvm.Cond.code ({ cls := "PrintLedger", name := "changeOf", desc := "(LPrintLedger$Job;I)I" } : Jvm.MethodName) prog_1_method_17_code (2 : Nat) (Option.some Jvm.ClassFile.FieldType.int)) ∈ BG := bg_in 338 rfl rfl
set_option maxRecDepth 100000 in
theorem kw_339 : (Jvm.Cond.methodLink "PrintLedger" (265 : Nat) ({ cls := "java/lang/Integer", name := "bitCount", desc := "(I)I" } : Jvm.MethodName)) ∈ BG := bg_in 339 rfl rfl
set_option maxRecDepth 100000 in
theorem kw_340 : (Jvm.Cond.constantLong "PrintLedger" (255 : Nat) (1000 : Int64)) ∈ BG := bg_in 340 rfl rfl
set_option maxRecDepth 100000 in
theorem kw_341 : (Jvm.Cond.methodLinkNest "PrintLedger" (260 : Nat) ({ cls := "PrintLedger$Job", name := "moneyOfInks", desc := "()I" } : Jvm.MethodName) "PrintLedger") ∈ EW := ew_in 341 rfl rfl
set_option maxRecDepth 100000 in
theorem kw_343 : (Jvm.Cond.instanceMethod ({ cls := "PrintLedger$Job", name := "moneyOfInks", desc := "()I" } : Jvm.MethodName)) ∈ BG := bg_in 343 rfl rfl
set_option maxRecDepth 100000 in
theorem kw_344 : (Jvm.Cond.code ({ cls := "PrintLedger$Job", name := "moneyOfInks", desc := "()I" } : Jvm.MethodName) prog_3_method_4_code (1 : Nat) (Option.some Jvm.ClassFile.FieldType.int)) ∈ BG := bg_in 344 rfl rfl
set_option maxRecDepth 100000 in
theorem kw_345 : (Jvm.Cond.methodLink "PrintLedger$Job" (67 : Nat) ({ cls := "java/lang/Integer", name := "bitCount", desc := "(I)I" } : Jvm.MethodName)) ∈ BG := bg_in 345 rfl rfl
set_option maxRecDepth 100000 in
theorem kw_346 : (Jvm.Cond.constantLong "PrintLedger" (263 : Nat) (100 : Int64)) ∈ BG := bg_in 346 rfl rfl
set_option maxRecDepth 100000 in
theorem kw_347 : (Jvm.Cond.methodLink "PrintLedger" (88 : Nat) ({ cls := "PrintLedger", name := "shortOf", desc := "(LPrintLedger$Paper;)I" } : Jvm.MethodName)) ∈ BG := bg_in 347 rfl rfl
set_option maxRecDepth 100000 in
theorem kw_349 : (Jvm.Cond.instanceMethod ({ cls := "PrintLedger", name := "shortOf", desc := "(LPrintLedger$Paper;)I" } : Jvm.MethodName)) ∈ BG := bg_in 349 rfl rfl
set_option maxRecDepth 100000 in
theorem kw_350 : (Jvm.Cond.code ({ cls := "PrintLedger", name := "shortOf", desc := "(LPrintLedger$Paper;)I" } : Jvm.MethodName) prog_1_method_9_code (2 : Nat) (Option.some Jvm.ClassFile.FieldType.int)) ∈ BG := bg_in 350 rfl rfl
set_option maxRecDepth 100000 in
theorem kw_351 : (Jvm.Cond.methodLink "PrintLedger" (134 : Nat) ({ cls := "java/lang/Math", name := "max", desc := "(II)I" } : Jvm.MethodName)) ∈ BG := bg_in 351 rfl rfl
set_option maxRecDepth 100000 in
theorem kw_353 : (Jvm.Cond.methodLink "PrintLedger" (358 : Nat) ({ cls := "PrintLedger", name := "digestWithPress", desc := "(JI)J" } : Jvm.MethodName)) ∈ BG := bg_in 353 rfl rfl
set_option maxRecDepth 100000 in
theorem kw_355 : (Jvm.Cond.instanceMethod ({ cls := "PrintLedger", name := "digestWithPress", desc := "(JI)J" } : Jvm.MethodName)) ∈ BG := bg_in 355 rfl rfl
set_option maxRecDepth 100000 in
theorem kw_356 : (Jvm.Cond.code ({ cls := "PrintLedger", name := "digestWithPress", desc := "(JI)J" } : Jvm.MethodName) prog_1_method_36_code (8 : Nat) (Option.some Jvm.ClassFile.FieldType.long)) ∈ BG := bg_in 356 rfl rfl
set_option maxRecDepth 100000 in
theorem kw_357 : (Jvm.Cond.methodLink "PrintLedger" (365 : Nat) ({ cls := "PrintLedger", name := "ofPress", desc := "(II)I" } : Jvm.MethodName)) ∈ BG := bg_in 357 rfl rfl
set_option maxRecDepth 100000 in
theorem kw_358 : (Jvm.Cond.instanceMethod ({ cls := "PrintLedger", name := "ofPress", desc := "(II)I" } : Jvm.MethodName)) ∈ BG := bg_in 358 rfl rfl
set_option maxRecDepth 100000 in
theorem kw_359 : (Jvm.Cond.selects "PrintLedger" ({ cls := "PrintLedger", name := "ofPress", desc := "(II)I" } : Jvm.MethodName) ({ cls := "PrintLedger", name := "ofPress", desc := "(II)I" } : Jvm.MethodName)) ∈ BG := bg_in 359 rfl rfl
set_option maxRecDepth 100000 in
theorem kw_360 : (Jvm.Cond.code ({ cls := "PrintLedger", name := "ofPress", desc := "(II)I" } : Jvm.MethodName) prog_1_method_19_code (4 : Nat) (Option.some Jvm.ClassFile.FieldType.int)) ∈ BG := bg_in 360 rfl rfl
set_option maxRecDepth 100000 in
theorem kw_361 : (Jvm.Cond.methodLink "PrintLedger" (206 : Nat) ({ cls := "PrintLedger", name := "pressOf", desc := "(I)LPrintLedger$Press;" } : Jvm.MethodName)) ∈ BG := bg_in 361 rfl rfl
set_option maxRecDepth 100000 in
theorem kw_363 : (Jvm.Cond.instanceMethod ({ cls := "PrintLedger", name := "pressOf", desc := "(I)LPrintLedger$Press;" } : Jvm.MethodName)) ∈ BG := bg_in 363 rfl rfl
set_option maxRecDepth 100000 in
theorem kw_364 : (Jvm.Cond.code ({ cls := "PrintLedger", name := "pressOf", desc := "(I)LPrintLedger$Press;" } : Jvm.MethodName) prog_1_method_40_code (3 : Nat) (Option.some (Jvm.ClassFile.FieldType.object "PrintLedger$Press"))) ∈ BG := bg_in 364 rfl rfl
set_option maxRecDepth 100000 in
theorem kw_366 : (Jvm.Cond.methodLink "PrintLedger" (276 : Nat) ({ cls := "PrintLedger", name := "minutesOfQueue", desc := "(LPrintLedger$Press;)I" } : Jvm.MethodName)) ∈ BG := bg_in 366 rfl rfl
set_option maxRecDepth 100000 in
theorem kw_368 : (Jvm.Cond.instanceMethod ({ cls := "PrintLedger", name := "minutesOfQueue", desc := "(LPrintLedger$Press;)I" } : Jvm.MethodName)) ∈ BG := bg_in 368 rfl rfl
set_option maxRecDepth 100000 in
theorem kw_369 : (Jvm.Cond.code ({ cls := "PrintLedger", name := "minutesOfQueue", desc := "(LPrintLedger$Press;)I" } : Jvm.MethodName) prog_1_method_24_code (6 : Nat) (Option.some Jvm.ClassFile.FieldType.int)) ∈ BG := bg_in 369 rfl rfl
set_option maxRecDepth 100000 in
theorem kw_371 : (Jvm.Cond.methodLink "PrintLedger" (368 : Nat) ({ cls := "PrintLedger", name := "queue", desc := "(II)I" } : Jvm.MethodName)) ∈ BG := bg_in 371 rfl rfl
set_option maxRecDepth 100000 in
theorem kw_372 : (Jvm.Cond.instanceMethod ({ cls := "PrintLedger", name := "queue", desc := "(II)I" } : Jvm.MethodName)) ∈ BG := bg_in 372 rfl rfl
set_option maxRecDepth 100000 in
theorem kw_373 : (Jvm.Cond.selects "PrintLedger" ({ cls := "PrintLedger", name := "queue", desc := "(II)I" } : Jvm.MethodName) ({ cls := "PrintLedger", name := "queue", desc := "(II)I" } : Jvm.MethodName)) ∈ BG := bg_in 373 rfl rfl
set_option maxRecDepth 100000 in
theorem kw_374 : (Jvm.Cond.code ({ cls := "PrintLedger", name := "queue", desc := "(II)I" } : Jvm.MethodName) prog_1_method_20_code (4 : Nat) (Option.some Jvm.ClassFile.FieldType.int)) ∈ BG := bg_in 374 rfl rfl
set_option maxRecDepth 100000 in
theorem kw_376 : (Jvm.Cond.methodLink "PrintLedger" (362 : Nat) ({ cls := "PrintLedger", name := "digestWithJob", desc := "(JI)J" } : Jvm.MethodName)) ∈ BG := bg_in 376 rfl rfl
set_option maxRecDepth 100000 in
theorem kw_378 : (Jvm.Cond.instanceMethod ({ cls := "PrintLedger", name := "digestWithJob", desc := "(JI)J" } : Jvm.MethodName)) ∈ BG := bg_in 378 rfl rfl
set_option maxRecDepth 100000 in
theorem kw_379 : (Jvm.Cond.code ({ cls := "PrintLedger", name := "digestWithJob", desc := "(JI)J" } : Jvm.MethodName) prog_1_method_37_code (8 : Nat) (Option.some Jvm.ClassFile.FieldType.long)) ∈ BG := bg_in 379 rfl rfl
set_option maxRecDepth 100000 in
theorem kw_380 : (Jvm.Cond.methodLink "PrintLedger" (371 : Nat) ({ cls := "PrintLedger", name := "ofJob", desc := "(II)I" } : Jvm.MethodName)) ∈ BG := bg_in 380 rfl rfl
set_option maxRecDepth 100000 in
theorem kw_381 : (Jvm.Cond.instanceMethod ({ cls := "PrintLedger", name := "ofJob", desc := "(II)I" } : Jvm.MethodName)) ∈ BG := bg_in 381 rfl rfl
set_option maxRecDepth 100000 in
theorem kw_382 : (Jvm.Cond.selects "PrintLedger" ({ cls := "PrintLedger", name := "ofJob", desc := "(II)I" } : Jvm.MethodName) ({ cls := "PrintLedger", name := "ofJob", desc := "(II)I" } : Jvm.MethodName)) ∈ BG := bg_in 382 rfl rfl
set_option maxRecDepth 100000 in
theorem kw_383 : (Jvm.Cond.code ({ cls := "PrintLedger", name := "ofJob", desc := "(II)I" } : Jvm.MethodName) prog_1_method_11_code (4 : Nat) (Option.some Jvm.ClassFile.FieldType.int)) ∈ BG := bg_in 383 rfl rfl
set_option maxRecDepth 100000 in
theorem kw_384 : (Jvm.Cond.methodLink "PrintLedger" (163 : Nat) ({ cls := "PrintLedger", name := "jobOf", desc := "(I)LPrintLedger$Job;" } : Jvm.MethodName)) ∈ BG := bg_in 384 rfl rfl
set_option maxRecDepth 100000 in
theorem kw_386 : (Jvm.Cond.instanceMethod ({ cls := "PrintLedger", name := "jobOf", desc := "(I)LPrintLedger$Job;" } : Jvm.MethodName)) ∈ BG := bg_in 386 rfl rfl
set_option maxRecDepth 100000 in
theorem kw_387 : (Jvm.Cond.code ({ cls := "PrintLedger", name := "jobOf", desc := "(I)LPrintLedger$Job;" } : Jvm.MethodName) prog_1_method_39_code (3 : Nat) (Option.some (Jvm.ClassFile.FieldType.object "PrintLedger$Job"))) ∈ BG := bg_in 387 rfl rfl
set_option maxRecDepth 100000 in
theorem kw_390 : (Jvm.Cond.methodLink "PrintLedger" (374 : Nat) ({ cls := "PrintLedger", name := "expected", desc := "(III)I" } : Jvm.MethodName)) ∈ BG := bg_in 390 rfl rfl
set_option maxRecDepth 100000 in
theorem kw_391 : (Jvm.Cond.instanceMethod ({ cls := "PrintLedger", name := "expected", desc := "(III)I" } : Jvm.MethodName)) ∈ BG := bg_in 391 rfl rfl
set_option maxRecDepth 100000 in
theorem kw_392 : (Jvm.Cond.selects "PrintLedger" ({ cls := "PrintLedger", name := "expected", desc := "(III)I" } : Jvm.MethodName) ({ cls := "PrintLedger", name := "expected", desc := "(III)I" } : Jvm.MethodName)) ∈ BG := bg_in 392 rfl rfl
set_option maxRecDepth 100000 in
theorem kw_393 : (Jvm.Cond.code ({ cls := "PrintLedger", name := "expected", desc := "(III)I" } : Jvm.MethodName) prog_1_method_12_code (7 : Nat) (Option.some Jvm.ClassFile.FieldType.int)) ∈ BG := bg_in 393 rfl rfl
set_option maxRecDepth 100000 in
theorem kw_395 : (Jvm.Cond.methodLink "PrintLedger" (378 : Nat) ({ cls := "PrintLedger", name := "bestPress", desc := "(I)I" } : Jvm.MethodName)) ∈ BG := bg_in 395 rfl rfl
set_option maxRecDepth 100000 in
theorem kw_396 : (Jvm.Cond.instanceMethod ({ cls := "PrintLedger", name := "bestPress", desc := "(I)I" } : Jvm.MethodName)) ∈ BG := bg_in 396 rfl rfl
set_option maxRecDepth 100000 in
theorem kw_397 : (Jvm.Cond.selects "PrintLedger" ({ cls := "PrintLedger", name := "bestPress", desc := "(I)I" } : Jvm.MethodName) ({ cls := "PrintLedger", name := "bestPress", desc := "(I)I" } : Jvm.MethodName)) ∈ BG := bg_in 397 rfl rfl
set_option maxRecDepth 100000 in
theorem kw_398 : (Jvm.Cond.code ({ cls := "PrintLedger", name := "bestPress", desc := "(I)I" } : Jvm.MethodName) prog_1_method_32_code (8 : Nat) (Option.some Jvm.ClassFile.FieldType.int)) ∈ BG := bg_in 398 rfl rfl
set_option maxRecDepth 100000 in
theorem kw_399 : (Jvm.Cond.constant "PrintLedger" (343 : Nat) (2147483647 : Int32)) ∈ BG := bg_in 399 rfl rfl
set_option maxRecDepth 100000 in
theorem kw_400 : (Jvm.Cond.methodLink "PrintLedger" (381 : Nat) ({ cls := "PrintLedger", name := "profit", desc := "(I)I" } : Jvm.MethodName)) ∈ BG := bg_in 400 rfl rfl
set_option maxRecDepth 100000 in
theorem kw_401 : (Jvm.Cond.instanceMethod ({ cls := "PrintLedger", name := "profit", desc := "(I)I" } : Jvm.MethodName)) ∈ BG := bg_in 401 rfl rfl
set_option maxRecDepth 100000 in
theorem kw_402 : (Jvm.Cond.selects "PrintLedger" ({ cls := "PrintLedger", name := "profit", desc := "(I)I" } : Jvm.MethodName) ({ cls := "PrintLedger", name := "profit", desc := "(I)I" } : Jvm.MethodName)) ∈ BG := bg_in 402 rfl rfl
set_option maxRecDepth 100000 in
theorem kw_403 : (Jvm.Cond.code ({ cls := "PrintLedger", name := "profit", desc := "(I)I" } : Jvm.MethodName) prog_1_method_34_code (3 : Nat) (Option.some Jvm.ClassFile.FieldType.int)) ∈ BG := bg_in 403 rfl rfl
set_option maxRecDepth 100000 in
theorem kw_404 : (Jvm.Cond.methodLinkNest "PrintLedger" (238 : Nat) ({ cls := "PrintLedger$Job", name := "worth", desc := "()I" } : Jvm.MethodName) "PrintLedger") ∈ EW := ew_in 404 rfl rfl
set_option maxRecDepth 100000 in
theorem kw_406 : (Jvm.Cond.instanceMethod ({ cls := "PrintLedger$Job", name := "worth", desc := "()I" } : Jvm.MethodName)) ∈ BG := bg_in 406 rfl rfl
set_option maxRecDepth 100000 in
theorem kw_407 : (Jvm.Cond.code ({ cls := "PrintLedger$Job", name := "worth", desc := "()I" } : Jvm.MethodName) prog_3_method_6_code (2 : Nat) (Option.some Jvm.ClassFile.FieldType.int)) ∈ BG := bg_in 407 rfl rfl
set_option maxRecDepth 100000 in
theorem kw_408 : (Jvm.Cond.methodLink "PrintLedger$Job" (80 : Nat) ({ cls := "java/lang/Math", name := "min", desc := "(II)I" } : Jvm.MethodName)) ∈ BG := bg_in 408 rfl rfl
set_option maxRecDepth 100000 in
theorem kw_409 : (Jvm.Cond.static ({ cls := "java/lang/Math", name := "min", desc := "(II)I" } : Jvm.MethodName)) ∈ BG := bg_in 409 rfl rfl
set_option maxRecDepth 100000 in
theorem kw_410 : (Jvm.Cond.code ({ cls := "java/lang/Math", name := "min", desc := "(II)I" } : Jvm.MethodName) prog_16_method_69_code (2 : Nat) (Option.some Jvm.ClassFile.FieldType.int)) ∈ BG := bg_in 410 rfl rfl
set_option maxRecDepth 100000 in
theorem kw_411 : (Jvm.Cond.methodLink "PrintLedgerLaw" (28 : Nat) ({ cls := "PrintLedgerLaw", name := "below", desc := "(II)I" } : Jvm.MethodName)) ∈ BG := bg_in 411 rfl rfl
set_option maxRecDepth 100000 in
theorem kw_412 : (Jvm.Cond.static ({ cls := "PrintLedgerLaw", name := "below", desc := "(II)I" } : Jvm.MethodName)) ∈ BG := bg_in 412 rfl rfl
set_option maxRecDepth 100000 in
theorem kw_413 : (Jvm.Cond.code ({ cls := "PrintLedgerLaw", name := "below", desc := "(II)I" } : Jvm.MethodName) method_2_code (2 : Nat) (Option.some Jvm.ClassFile.FieldType.int)) ∈ BG := bg_in 413 rfl rfl
set_option maxRecDepth 100000 in
theorem kw_414 : (Jvm.Cond.constant "PrintLedgerLaw" (7 : Nat) (2147483647 : Int32)) ∈ BG := bg_in 414 rfl rfl
set_option maxRecDepth 100000 in
theorem kw_415 : (Jvm.Cond.methodLink "PrintLedgerLaw" (12 : Nat) ({ cls := "PrintLedgerLaw", name := "cell", desc := "([II)I" } : Jvm.MethodName)) ∈ BG := bg_in 415 rfl rfl
set_option maxRecDepth 100000 in
theorem kw_416 : (Jvm.Cond.static ({ cls := "PrintLedgerLaw", name := "cell", desc := "([II)I" } : Jvm.MethodName)) ∈ BG := bg_in 416 rfl rfl
set_option maxRecDepth 100000 in
theorem kw_417 : (Jvm.Cond.code ({ cls := "PrintLedgerLaw", name := "cell", desc := "([II)I" } : Jvm.MethodName) method_3_code (2 : Nat) (Option.some Jvm.ClassFile.FieldType.int)) ∈ BG := bg_in 417 rfl rfl
set_option maxRecDepth 100000 in
theorem kw_418 : (Jvm.Cond.constant "PrintLedgerLaw" (8 : Nat) (790386105 : Int32)) ∈ BG := bg_in 418 rfl rfl
set_option maxRecDepth 100000 in
theorem kw_419 : (Jvm.Cond.methodLink "PrintLedgerLaw" (31 : Nat) ({ cls := "PrintLedgerLaw", name := "act", desc := "(LPrintLedger;IIII)Z" } : Jvm.MethodName)) ∈ BG := bg_in 419 rfl rfl
set_option maxRecDepth 100000 in
theorem kw_420 : (Jvm.Cond.static ({ cls := "PrintLedgerLaw", name := "act", desc := "(LPrintLedger;IIII)Z" } : Jvm.MethodName)) ∈ BG := bg_in 420 rfl rfl
set_option maxRecDepth 100000 in
theorem kw_421 : (Jvm.Cond.codeWith ({ cls := "PrintLedgerLaw", name := "act", desc := "(LPrintLedger;IIII)Z" } : Jvm.MethodName) method_5_code (7 : Nat) (Option.some Jvm.ClassFile.FieldType.boolean) [((0 : Nat), (132 : Nat), (514 : Nat), (102 : Nat)), ((133 : Nat), (182 : Nat), (514 : Nat), (102 : Nat)), ((183 : Nat), (214 : Nat), (514 : Nat), (102 : Nat)), ((215 : Nat), (239 : Nat), (514 : Nat), (102 : Nat)), ((240 : Nat), (294 : Nat), (514 : Nat), (102 : Nat)), ((295 : Nat), (331 : Nat), (514 : Nat), (102 : Nat)), ((332 : Nat), (364 : Nat), (514 : Nat), (102 : Nat)), ((365 : Nat), (389 : Nat), (514 : Nat), (102 : Nat)), ((390 : Nat), (415 : Nat), (514 : Nat), (102 : Nat)), ((416 : Nat), (463 : Nat), (514 : Nat), (102 : Nat)), ((464 : Nat), (513 : Nat), (514 : Nat), (102 : Nat)), ((0 : Nat), (132 : Nat), (552 : Nat), (104 : Nat)), ((133 : Nat), (182 : Nat), (552 : Nat), (104 : Nat)), ((183 : Nat), (214 : Nat), (552 : Nat), (104 : Nat)), ((215 : Nat), (239 : Nat), (552 : Nat), (104 : Nat)), ((240 : Nat), (294 : Nat), (552 : Nat), (104 : Nat)), ((295 : Nat), (331 : Nat), (552 : Nat), (104 : Nat)), ((332 : Nat), (364 : Nat), (552 : Nat), (104 : Nat)), ((365 : Nat), (389 : Nat), (552 : Nat), (104 : Nat)), ((390 : Nat), (415 : Nat), (552 : Nat), (104 : Nat)), ((416 : Nat), (463 : Nat), (552 : Nat), (104 : Nat)), ((464 : Nat), (513 : Nat), (552 : Nat), (104 : Nat)), ((0 : Nat), (132 : Nat), (570 : Nat), (106 : Nat)), ((133 : Nat), (182 : Nat), (570 : Nat), (106 : Nat)), ((183 : Nat), (214 : Nat), (570 : Nat), (106 : Nat)), ((215 : Nat), (239 : Nat), (570 : Nat), (106 : Nat)), ((240 : Nat), (294 : Nat), (570 : Nat), (106 : Nat)), ((295 : Nat), (331 : Nat), (570 : Nat), (106 : Nat)), ((332 : Nat), (364 : Nat), (570 : Nat), (106 : Nat)), ((365 : Nat), (389 : Nat), (570 : Nat), (106 : Nat)), ((390 : Nat), (415 : Nat), (570 : Nat), (106 : Nat)), ((416 : Nat), (463 : Nat), (570 : Nat), (106 : Nat)), ((464 : Nat), (513 : Nat), (570 : Nat), (106 : Nat))]) ∈ BG := bg_in 421 rfl rfl
set_option maxRecDepth 100000 in
theorem kw_422 : (Jvm.Cond.classLink "PrintLedgerLaw" (102 : Nat) "java/lang/IndexOutOfBoundsException") ∈ BG := bg_in 422 rfl rfl
set_option maxRecDepth 100000 in
theorem kw_423 : (Jvm.Cond.classLink "PrintLedgerLaw" (104 : Nat) "java/lang/IllegalArgumentException") ∈ BG := bg_in 423 rfl rfl
set_option maxRecDepth 100000 in
theorem kw_424 : (Jvm.Cond.classLink "PrintLedgerLaw" (106 : Nat) "java/lang/IllegalStateException") ∈ BG := bg_in 424 rfl rfl
set_option maxRecDepth 100000 in
theorem kw_425 : (Jvm.Cond.methodLink "PrintLedgerLaw" (50 : Nat) ({ cls := "PrintLedger", name := "job", desc := "(IIIII)I" } : Jvm.MethodName)) ∈ BG := bg_in 425 rfl rfl
set_option maxRecDepth 100000 in
theorem kw_426 : (Jvm.Cond.instanceMethod ({ cls := "PrintLedger", name := "job", desc := "(IIIII)I" } : Jvm.MethodName)) ∈ BG := bg_in 426 rfl rfl
set_option maxRecDepth 100000 in
theorem kw_427 : (Jvm.Cond.selects "PrintLedger" ({ cls := "PrintLedger", name := "job", desc := "(IIIII)I" } : Jvm.MethodName) ({ cls := "PrintLedger", name := "job", desc := "(IIIII)I" } : Jvm.MethodName)) ∈ BG := bg_in 427 rfl rfl
set_option maxRecDepth 100000 in
theorem kw_428 : (Jvm.Cond.code ({ cls := "PrintLedger", name := "job", desc := "(IIIII)I" } : Jvm.MethodName) prog_1_method_10_code (9 : Nat) (Option.some Jvm.ClassFile.FieldType.int)) ∈ BG := bg_in 428 rfl rfl
set_option maxRecDepth 100000 in
theorem kw_429 : (Jvm.Cond.methodLink "PrintLedger" (51 : Nat) ({ cls := "PrintLedger", name := "isOutside", desc := "(III)Z" } : Jvm.MethodName)) ∈ BG := bg_in 429 rfl rfl
set_option maxRecDepth 100000 in
theorem kw_430 : (Jvm.Cond.static ({ cls := "PrintLedger", name := "isOutside", desc := "(III)Z" } : Jvm.MethodName)) ∈ BG := bg_in 430 rfl rfl
set_option maxRecDepth 100000 in
theorem kw_431 : (Jvm.Cond.code ({ cls := "PrintLedger", name := "isOutside", desc := "(III)Z" } : Jvm.MethodName) prog_1_method_41_code (3 : Nat) (Option.some Jvm.ClassFile.FieldType.boolean)) ∈ BG := bg_in 431 rfl rfl
set_option maxRecDepth 100000 in
theorem kw_435 : (Jvm.Cond.methodLinkNest "PrintLedger" (143 : Nat) ({ cls := "PrintLedger$Paper", name := "holds", desc := "(II)I" } : Jvm.MethodName) "PrintLedger") ∈ EW := ew_in 435 rfl rfl
set_option maxRecDepth 100000 in
theorem kw_437 : (Jvm.Cond.instanceMethod ({ cls := "PrintLedger$Paper", name := "holds", desc := "(II)I" } : Jvm.MethodName)) ∈ BG := bg_in 437 rfl rfl
set_option maxRecDepth 100000 in
theorem kw_438 : (Jvm.Cond.code ({ cls := "PrintLedger$Paper", name := "holds", desc := "(II)I" } : Jvm.MethodName) prog_4_method_2_code (3 : Nat) (Option.some Jvm.ClassFile.FieldType.int)) ∈ BG := bg_in 438 rfl rfl
set_option maxRecDepth 100000 in
theorem kw_439 : (Jvm.Cond.methodLinkNest "PrintLedger$Paper" (21 : Nat) ({ cls := "PrintLedger", name := "divide", desc := "(II)I" } : Jvm.MethodName) "PrintLedger") ∈ EW := ew_in 439 rfl rfl
set_option maxRecDepth 100000 in
theorem kw_440 : (Jvm.Cond.static ({ cls := "PrintLedger", name := "divide", desc := "(II)I" } : Jvm.MethodName)) ∈ BG := bg_in 440 rfl rfl
set_option maxRecDepth 100000 in
theorem kw_441 : (Jvm.Cond.code ({ cls := "PrintLedger", name := "divide", desc := "(II)I" } : Jvm.MethodName) prog_1_method_42_code (2 : Nat) (Option.some Jvm.ClassFile.FieldType.int)) ∈ BG := bg_in 441 rfl rfl
set_option maxRecDepth 100000 in
theorem kw_443 : (Jvm.Cond.classLink "PrintLedger" (151 : Nat) "java/lang/IllegalStateException") ∈ BG := bg_in 443 rfl rfl
set_option maxRecDepth 100000 in
theorem kw_444 : (Jvm.Cond.instantiable "java/lang/IllegalStateException" (6 : Nat)) ∈ BG := bg_in 444 rfl rfl
set_option maxRecDepth 100000 in
theorem kw_445 : (Jvm.Cond.castable "java/lang/IllegalStateException" "java/lang/IllegalStateException") ∈ EW := ew_in 445 rfl rfl
set_option maxRecDepth 100000 in
theorem kw_446 : (Jvm.Cond.selects "java/lang/IllegalStateException" ({ cls := "java/lang/Throwable", name := "fillInStackTrace", desc := "(I)Ljava/lang/Throwable;" } : Jvm.MethodName) ({ cls := "java/lang/Throwable", name := "fillInStackTrace", desc := "(I)Ljava/lang/Throwable;" } : Jvm.MethodName)) ∈ BG := bg_in 446 rfl rfl
set_option maxRecDepth 100000 in
theorem kw_447 : (Jvm.Cond.lays "java/lang/IllegalStateException" "java/lang/Throwable" "cause" "Ljava/lang/Throwable;") ∈ BG := bg_in 447 rfl rfl
set_option maxRecDepth 100000 in
theorem kw_448 : (Jvm.Cond.lays "java/lang/IllegalStateException" "java/lang/Throwable" "stackTrace" "[Ljava/lang/StackTraceElement;") ∈ BG := bg_in 448 rfl rfl
set_option maxRecDepth 100000 in
theorem kw_449 : (Jvm.Cond.lays "java/lang/IllegalStateException" "java/lang/Throwable" "suppressedExceptions" "Ljava/util/List;") ∈ BG := bg_in 449 rfl rfl
set_option maxRecDepth 100000 in
theorem kw_450 : (Jvm.Cond.lays "java/lang/IllegalStateException" "java/lang/Throwable" "detailMessage" "Ljava/lang/String;") ∈ BG := bg_in 450 rfl rfl
set_option maxRecDepth 100000 in
theorem kw_451 : (Jvm.Cond.lays "java/lang/IllegalStateException" "java/lang/Throwable" "backtrace" "Ljava/lang/Object;") ∈ BG := bg_in 451 rfl rfl
set_option maxRecDepth 100000 in
theorem kw_453 : (Jvm.Cond.methodLink "PrintLedger" (155 : Nat) ({ cls := "java/lang/IllegalStateException", name := "<init>", desc := "(Ljava/lang/String;)V" } : Jvm.MethodName)) ∈ BG := bg_in 453 rfl rfl
set_option maxRecDepth 100000 in
theorem kw_454 : (Jvm.Cond.instanceMethod ({ cls := "java/lang/IllegalStateException", name := "<init>", desc := "(Ljava/lang/String;)V" } : Jvm.MethodName)) ∈ BG := bg_in 454 rfl rfl
set_option maxRecDepth 100000 in
theorem kw_455 : (Jvm.Cond.code ({ cls := "java/lang/IllegalStateException", name := "<init>", desc := "(Ljava/lang/String;)V" } : Jvm.MethodName) prog_13_method_2_code (2 : Nat) (Option.none : Option Jvm.ClassFile.FieldType)) ∈ BG := bg_in 455 rfl rfl
set_option maxRecDepth 100000 in
theorem kw_456 : (Jvm.Cond.methodLink "java/lang/IllegalStateException" (7 : Nat) ({ cls := "java/lang/RuntimeException", name := "<init>", desc := "(Ljava/lang/String;)V" } : Jvm.MethodName)) ∈ BG := bg_in 456 rfl rfl
set_option maxRecDepth 100000 in
theorem kw_457 : (Jvm.Cond.lays "java/lang/IllegalStateException" "java/lang/Throwable" "depth" "I") ∈ BG := bg_in 457 rfl rfl
set_option maxRecDepth 100000 in
theorem kw_459 : (Jvm.Cond.methodLinkNest "PrintLedger" (156 : Nat) ({ cls := "PrintLedger$Job", name := "<init>", desc := "(IILPrintLedger$Paper;II)V" } : Jvm.MethodName) "PrintLedger") ∈ EW := ew_in 459 rfl rfl
set_option maxRecDepth 100000 in
theorem kw_460 : (Jvm.Cond.instanceMethod ({ cls := "PrintLedger$Job", name := "<init>", desc := "(IILPrintLedger$Paper;II)V" } : Jvm.MethodName)) ∈ BG := bg_in 460 rfl rfl
set_option maxRecDepth 100000 in
theorem kw_461 : (Jvm.Cond.code ({ cls := "PrintLedger$Job", name := "<init>", desc := "(IILPrintLedger$Paper;II)V" } : Jvm.MethodName) prog_3_method_1_code (6 : Nat) (Option.none : Option Jvm.ClassFile.FieldType)) ∈ BG := bg_in 461 rfl rfl
set_option maxRecDepth 100000 in
theorem kw_462 : (Jvm.Cond.methodLink "PrintLedger$Job" (3 : Nat) ({ cls := "java/lang/Object", name := "<init>", desc := "()V" } : Jvm.MethodName)) ∈ BG := bg_in 462 rfl rfl
set_option maxRecDepth 100000 in
theorem kw_463 : (Jvm.Cond.fieldLink "PrintLedger$Job" (18 : Nat) "PrintLedger$Job" "number" "I") ∈ BG := bg_in 463 rfl rfl
set_option maxRecDepth 100000 in
theorem kw_464 : (Jvm.Cond.fieldLinkNest "PrintLedger" (287 : Nat) "PrintLedger$Job" "number" "I" "PrintLedger") ∈ EW := ew_in 464 rfl rfl
set_option maxRecDepth 100000 in
theorem kw_465 : (Jvm.Cond.fieldLink "PrintLedger$Job" (21 : Nat) "PrintLedger$Job" "paper" "I") ∈ BG := bg_in 465 rfl rfl
set_option maxRecDepth 100000 in
theorem kw_466 : (Jvm.Cond.fieldLinkNest "PrintLedger" (166 : Nat) "PrintLedger$Job" "paper" "I" "PrintLedger") ∈ EW := ew_in 466 rfl rfl
set_option maxRecDepth 100000 in
theorem kw_467 : (Jvm.Cond.fieldLink "PrintLedger$Job" (24 : Nat) "PrintLedger$Job" "sheet" "LPrintLedger$Paper;") ∈ BG := bg_in 467 rfl rfl
set_option maxRecDepth 100000 in
theorem kw_468 : (Jvm.Cond.fieldLinkNest "PrintLedger" (120 : Nat) "PrintLedger$Job" "sheet" "LPrintLedger$Paper;" "PrintLedger") ∈ EW := ew_in 468 rfl rfl
set_option maxRecDepth 100000 in
theorem kw_469 : (Jvm.Cond.fieldLink "PrintLedger$Job" (28 : Nat) "PrintLedger$Job" "copies" "I") ∈ BG := bg_in 469 rfl rfl
set_option maxRecDepth 100000 in
theorem kw_470 : (Jvm.Cond.fieldLinkNest "PrintLedger" (169 : Nat) "PrintLedger$Job" "copies" "I" "PrintLedger") ∈ EW := ew_in 470 rfl rfl
set_option maxRecDepth 100000 in
theorem kw_471 : (Jvm.Cond.fieldLink "PrintLedger$Job" (31 : Nat) "PrintLedger$Job" "inks" "I") ∈ BG := bg_in 471 rfl rfl
set_option maxRecDepth 100000 in
theorem kw_472 : (Jvm.Cond.fieldLinkNest "PrintLedger$Press" (30 : Nat) "PrintLedger$Job" "inks" "I" "PrintLedger") ∈ EW := ew_in 472 rfl rfl
set_option maxRecDepth 100000 in
theorem kw_473 : (Jvm.Cond.fieldLinkNest "PrintLedger" (172 : Nat) "PrintLedger$Job" "inks" "I" "PrintLedger") ∈ EW := ew_in 473 rfl rfl
set_option maxRecDepth 100000 in
theorem kw_474 : (Jvm.Cond.fieldLink "PrintLedger$Job" (44 : Nat) "PrintLedger$Job" "lies" "I") ∈ BG := bg_in 474 rfl rfl
set_option maxRecDepth 100000 in
theorem kw_475 : (Jvm.Cond.fieldLinkNest "PrintLedger" (173 : Nat) "PrintLedger$Job" "lies" "I" "PrintLedger") ∈ EW := ew_in 475 rfl rfl
set_option maxRecDepth 100000 in
theorem kw_476 : (Jvm.Cond.fieldLink "PrintLedger$Job" (40 : Nat) "PrintLedger$Job" "turned" "Z") ∈ BG := bg_in 476 rfl rfl
set_option maxRecDepth 100000 in
theorem kw_477 : (Jvm.Cond.fieldLinkNest "PrintLedger" (176 : Nat) "PrintLedger$Job" "turned" "Z" "PrintLedger") ∈ EW := ew_in 477 rfl rfl
set_option maxRecDepth 100000 in
theorem kw_478 : (Jvm.Cond.fieldLink "PrintLedger$Job" (53 : Nat) "PrintLedger$Job" "leaves" "I") ∈ BG := bg_in 478 rfl rfl
set_option maxRecDepth 100000 in
theorem kw_479 : (Jvm.Cond.fieldLinkNest "PrintLedger" (180 : Nat) "PrintLedger$Job" "leaves" "I" "PrintLedger") ∈ EW := ew_in 479 rfl rfl
set_option maxRecDepth 100000 in
theorem kw_480 : (Jvm.Cond.fieldLink "PrintLedger$Job" (9 : Nat) "PrintLedger$Job" "state" "I") ∈ BG := bg_in 480 rfl rfl
set_option maxRecDepth 100000 in
theorem kw_481 : (Jvm.Cond.fieldLinkNest "PrintLedger" (183 : Nat) "PrintLedger$Job" "state" "I" "PrintLedger") ∈ EW := ew_in 481 rfl rfl
set_option maxRecDepth 100000 in
theorem kw_482 : (Jvm.Cond.fieldLink "PrintLedger$Job" (15 : Nat) "PrintLedger$Job" "press" "I") ∈ BG := bg_in 482 rfl rfl
set_option maxRecDepth 100000 in
theorem kw_483 : (Jvm.Cond.fieldLinkNest "PrintLedger" (201 : Nat) "PrintLedger$Job" "press" "I" "PrintLedger") ∈ EW := ew_in 483 rfl rfl
set_option maxRecDepth 100000 in
theorem kw_484 : (Jvm.Cond.fieldLink "PrintLedger$Job" (56 : Nat) "PrintLedger$Job" "made" "I") ∈ BG := bg_in 484 rfl rfl
set_option maxRecDepth 100000 in
theorem kw_485 : (Jvm.Cond.fieldLinkNest "PrintLedger" (186 : Nat) "PrintLedger$Job" "made" "I" "PrintLedger") ∈ EW := ew_in 485 rfl rfl
set_option maxRecDepth 100000 in
theorem kw_486 : (Jvm.Cond.fieldLink "PrintLedger$Job" (83 : Nat) "PrintLedger$Job" "quote" "I") ∈ BG := bg_in 486 rfl rfl
set_option maxRecDepth 100000 in
theorem kw_487 : (Jvm.Cond.fieldLinkNest "PrintLedger" (192 : Nat) "PrintLedger$Job" "quote" "I" "PrintLedger") ∈ EW := ew_in 487 rfl rfl
set_option maxRecDepth 100000 in
theorem kw_488 : (Jvm.Cond.fieldLinkNest "PrintLedger" (195 : Nat) "PrintLedger$Job" "cost" "I" "PrintLedger") ∈ EW := ew_in 488 rfl rfl
set_option maxRecDepth 100000 in
theorem kw_489 : (Jvm.Cond.fieldLinkNest "PrintLedger" (198 : Nat) "PrintLedger$Job" "invoiced" "I" "PrintLedger") ∈ EW := ew_in 489 rfl rfl
set_option maxRecDepth 100000 in
theorem kw_490 : (Jvm.Cond.fieldLinkNest "PrintLedger" (300 : Nat) "PrintLedger$Job" "inksArePaid" "Z" "PrintLedger") ∈ EW := ew_in 490 rfl rfl
set_option maxRecDepth 100000 in
theorem kw_491 : (Jvm.Cond.laysFinal "PrintLedger$Job" "PrintLedger$Job" "number" "I") ∈ BG := bg_in 491 rfl rfl
set_option maxRecDepth 100000 in
theorem kw_493 : (Jvm.Cond.laysFinal "PrintLedger$Job" "PrintLedger$Job" "paper" "I") ∈ BG := bg_in 493 rfl rfl
set_option maxRecDepth 100000 in
theorem kw_495 : (Jvm.Cond.laysFinal "PrintLedger$Job" "PrintLedger$Job" "sheet" "LPrintLedger$Paper;") ∈ BG := bg_in 495 rfl rfl
set_option maxRecDepth 100000 in
theorem kw_497 : (Jvm.Cond.laysFinal "PrintLedger$Job" "PrintLedger$Job" "copies" "I") ∈ BG := bg_in 497 rfl rfl
set_option maxRecDepth 100000 in
theorem kw_499 : (Jvm.Cond.laysFinal "PrintLedger$Job" "PrintLedger$Job" "inks" "I") ∈ BG := bg_in 499 rfl rfl
set_option maxRecDepth 100000 in
theorem kw_501 : (Jvm.Cond.lays "PrintLedger$Job" "PrintLedger$Job" "lies" "I") ∈ BG := bg_in 501 rfl rfl
set_option maxRecDepth 100000 in
theorem kw_503 : (Jvm.Cond.lays "PrintLedger$Job" "PrintLedger$Job" "turned" "Z") ∈ BG := bg_in 503 rfl rfl
set_option maxRecDepth 100000 in
theorem kw_505 : (Jvm.Cond.lays "PrintLedger$Job" "PrintLedger$Job" "leaves" "I") ∈ BG := bg_in 505 rfl rfl
set_option maxRecDepth 100000 in
theorem kw_507 : (Jvm.Cond.lays "PrintLedger$Job" "PrintLedger$Job" "state" "I") ∈ BG := bg_in 507 rfl rfl
set_option maxRecDepth 100000 in
theorem kw_509 : (Jvm.Cond.lays "PrintLedger$Job" "PrintLedger$Job" "press" "I") ∈ BG := bg_in 509 rfl rfl
set_option maxRecDepth 100000 in
theorem kw_511 : (Jvm.Cond.lays "PrintLedger$Job" "PrintLedger$Job" "made" "I") ∈ BG := bg_in 511 rfl rfl
set_option maxRecDepth 100000 in
theorem kw_513 : (Jvm.Cond.lays "PrintLedger$Job" "PrintLedger$Job" "quote" "I") ∈ BG := bg_in 513 rfl rfl
set_option maxRecDepth 100000 in
theorem kw_515 : (Jvm.Cond.lays "PrintLedger$Job" "PrintLedger$Job" "cost" "I") ∈ BG := bg_in 515 rfl rfl
set_option maxRecDepth 100000 in
theorem kw_517 : (Jvm.Cond.lays "PrintLedger$Job" "PrintLedger$Job" "invoiced" "I") ∈ BG := bg_in 517 rfl rfl
set_option maxRecDepth 100000 in
theorem kw_519 : (Jvm.Cond.lays "PrintLedger$Job" "PrintLedger$Job" "inksArePaid" "Z") ∈ BG := bg_in 519 rfl rfl
set_option maxRecDepth 100000 in
theorem kw_522 : (Jvm.Cond.methodLinkNest "PrintLedger" (159 : Nat) ({ cls := "PrintLedger$Job", name := "layOut", desc := "(II)V" } : Jvm.MethodName) "PrintLedger") ∈ EW := ew_in 522 rfl rfl
set_option maxRecDepth 100000 in
theorem kw_524 : (Jvm.Cond.instanceMethod ({ cls := "PrintLedger$Job", name := "layOut", desc := "(II)V" } : Jvm.MethodName)) ∈ BG := bg_in 524 rfl rfl
set_option maxRecDepth 100000 in
theorem kw_525 : (Jvm.Cond.code ({ cls := "PrintLedger$Job", name := "layOut", desc := "(II)V" } : Jvm.MethodName) prog_3_method_2_code (5 : Nat) (Option.none : Option Jvm.ClassFile.FieldType)) ∈ BG := bg_in 525 rfl rfl
set_option maxRecDepth 100000 in
theorem kw_526 : (Jvm.Cond.methodLinkNest "PrintLedger$Job" (34 : Nat) ({ cls := "PrintLedger$Paper", name := "holds", desc := "(II)I" } : Jvm.MethodName) "PrintLedger") ∈ EW := ew_in 526 rfl rfl
set_option maxRecDepth 100000 in
theorem kw_527 : (Jvm.Cond.methodLink "PrintLedgerLaw" (54 : Nat) ({ cls := "PrintLedger", name := "order", desc := "(II)I" } : Jvm.MethodName)) ∈ BG := bg_in 527 rfl rfl
set_option maxRecDepth 100000 in
theorem kw_528 : (Jvm.Cond.instanceMethod ({ cls := "PrintLedger", name := "order", desc := "(II)I" } : Jvm.MethodName)) ∈ BG := bg_in 528 rfl rfl
set_option maxRecDepth 100000 in
theorem kw_529 : (Jvm.Cond.selects "PrintLedger" ({ cls := "PrintLedger", name := "order", desc := "(II)I" } : Jvm.MethodName) ({ cls := "PrintLedger", name := "order", desc := "(II)I" } : Jvm.MethodName)) ∈ BG := bg_in 529 rfl rfl
set_option maxRecDepth 100000 in
theorem kw_530 : (Jvm.Cond.code ({ cls := "PrintLedger", name := "order", desc := "(II)I" } : Jvm.MethodName) prog_1_method_13_code (5 : Nat) (Option.some Jvm.ClassFile.FieldType.int)) ∈ BG := bg_in 530 rfl rfl
set_option maxRecDepth 100000 in
theorem kw_532 : (Jvm.Cond.methodLinkNest "PrintLedger" (228 : Nat) ({ cls := "PrintLedger$Press", name := "insert", desc := "(LPrintLedger$Job;I)V" } : Jvm.MethodName) "PrintLedger") ∈ EW := ew_in 532 rfl rfl
set_option maxRecDepth 100000 in
theorem kw_534 : (Jvm.Cond.instanceMethod ({ cls := "PrintLedger$Press", name := "insert", desc := "(LPrintLedger$Job;I)V" } : Jvm.MethodName)) ∈ BG := bg_in 534 rfl rfl
set_option maxRecDepth 100000 in
theorem kw_535 : (Jvm.Cond.code ({ cls := "PrintLedger$Press", name := "insert", desc := "(LPrintLedger$Job;I)V" } : Jvm.MethodName) prog_5_method_4_code (4 : Nat) (Option.none : Option Jvm.ClassFile.FieldType)) ∈ BG := bg_in 535 rfl rfl
set_option maxRecDepth 100000 in
theorem kw_536 : (Jvm.Cond.methodLink "PrintLedgerLaw" (57 : Nat) ({ cls := "PrintLedger", name := "ofJob", desc := "(II)I" } : Jvm.MethodName)) ∈ BG := bg_in 536 rfl rfl
set_option maxRecDepth 100000 in
theorem kw_537 : (Jvm.Cond.methodLink "PrintLedgerLaw" (60 : Nat) ({ cls := "PrintLedger", name := "ofPress", desc := "(II)I" } : Jvm.MethodName)) ∈ BG := bg_in 537 rfl rfl
set_option maxRecDepth 100000 in
theorem kw_538 : (Jvm.Cond.methodLink "PrintLedgerLaw" (63 : Nat) ({ cls := "PrintLedger", name := "queue", desc := "(II)I" } : Jvm.MethodName)) ∈ BG := bg_in 538 rfl rfl
set_option maxRecDepth 100000 in
theorem kw_539 : (Jvm.Cond.methodLink "PrintLedgerLaw" (66 : Nat) ({ cls := "PrintLedger", name := "buy", desc := "(II)I" } : Jvm.MethodName)) ∈ BG := bg_in 539 rfl rfl
set_option maxRecDepth 100000 in
theorem kw_540 : (Jvm.Cond.instanceMethod ({ cls := "PrintLedger", name := "buy", desc := "(II)I" } : Jvm.MethodName)) ∈ BG := bg_in 540 rfl rfl
set_option maxRecDepth 100000 in
theorem kw_541 : (Jvm.Cond.selects "PrintLedger" ({ cls := "PrintLedger", name := "buy", desc := "(II)I" } : Jvm.MethodName) ({ cls := "PrintLedger", name := "buy", desc := "(II)I" } : Jvm.MethodName)) ∈ BG := bg_in 541 rfl rfl
set_option maxRecDepth 100000 in
theorem kw_542 : (Jvm.Cond.code ({ cls := "PrintLedger", name := "buy", desc := "(II)I" } : Jvm.MethodName) prog_1_method_3_code (4 : Nat) (Option.some Jvm.ClassFile.FieldType.int)) ∈ BG := bg_in 542 rfl rfl
set_option maxRecDepth 100000 in
theorem kw_544 : (Jvm.Cond.methodLinkNest "PrintLedger" (75 : Nat) ({ cls := "PrintLedger$Paper", name := "lotsWithRoom", desc := "()I" } : Jvm.MethodName) "PrintLedger") ∈ EW := ew_in 544 rfl rfl
set_option maxRecDepth 100000 in
theorem kw_546 : (Jvm.Cond.instanceMethod ({ cls := "PrintLedger$Paper", name := "lotsWithRoom", desc := "()I" } : Jvm.MethodName)) ∈ BG := bg_in 546 rfl rfl
set_option maxRecDepth 100000 in
theorem kw_547 : (Jvm.Cond.code ({ cls := "PrintLedger$Paper", name := "lotsWithRoom", desc := "()I" } : Jvm.MethodName) prog_4_method_3_code (1 : Nat) (Option.some Jvm.ClassFile.FieldType.int)) ∈ BG := bg_in 547 rfl rfl
set_option maxRecDepth 100000 in
theorem kw_548 : (Jvm.Cond.constant "PrintLedger$Paper" (25 : Nat) (99999 : Int32)) ∈ BG := bg_in 548 rfl rfl
set_option maxRecDepth 100000 in
theorem kw_550 : (Jvm.Cond.methodLink "PrintLedger" (81 : Nat) ({ cls := "PrintLedger", name := "bring", desc := "(LPrintLedger$Paper;I)V" } : Jvm.MethodName)) ∈ BG := bg_in 550 rfl rfl
set_option maxRecDepth 100000 in
theorem kw_552 : (Jvm.Cond.instanceMethod ({ cls := "PrintLedger", name := "bring", desc := "(LPrintLedger$Paper;I)V" } : Jvm.MethodName)) ∈ BG := bg_in 552 rfl rfl
set_option maxRecDepth 100000 in
theorem kw_553 : (Jvm.Cond.code ({ cls := "PrintLedger", name := "bring", desc := "(LPrintLedger$Paper;I)V" } : Jvm.MethodName) prog_1_method_6_code (4 : Nat) (Option.none : Option Jvm.ClassFile.FieldType)) ∈ BG := bg_in 553 rfl rfl
set_option maxRecDepth 100000 in
theorem kw_554 : (Jvm.Cond.methodLink "PrintLedgerLaw" (69 : Nat) ({ cls := "PrintLedger", name := "ofPaper", desc := "(II)I" } : Jvm.MethodName)) ∈ BG := bg_in 554 rfl rfl
set_option maxRecDepth 100000 in
theorem kw_555 : (Jvm.Cond.methodLink "PrintLedgerLaw" (72 : Nat) ({ cls := "PrintLedger", name := "buyAll", desc := "()I" } : Jvm.MethodName)) ∈ BG := bg_in 555 rfl rfl
set_option maxRecDepth 100000 in
theorem kw_556 : (Jvm.Cond.instanceMethod ({ cls := "PrintLedger", name := "buyAll", desc := "()I" } : Jvm.MethodName)) ∈ BG := bg_in 556 rfl rfl
set_option maxRecDepth 100000 in
theorem kw_557 : (Jvm.Cond.selects "PrintLedger" ({ cls := "PrintLedger", name := "buyAll", desc := "()I" } : Jvm.MethodName) ({ cls := "PrintLedger", name := "buyAll", desc := "()I" } : Jvm.MethodName)) ∈ BG := bg_in 557 rfl rfl
set_option maxRecDepth 100000 in
theorem kw_558 : (Jvm.Cond.code ({ cls := "PrintLedger", name := "buyAll", desc := "()I" } : Jvm.MethodName) prog_1_method_4_code (6 : Nat) (Option.some Jvm.ClassFile.FieldType.int)) ∈ BG := bg_in 558 rfl rfl
set_option maxRecDepth 100000 in
theorem kw_559 : (Jvm.Cond.methodLink "PrintLedger" (92 : Nat) ({ cls := "PrintLedger", name := "divideUp", desc := "(II)I" } : Jvm.MethodName)) ∈ BG := bg_in 559 rfl rfl
set_option maxRecDepth 100000 in
theorem kw_560 : (Jvm.Cond.methodLink "PrintLedger" (96 : Nat) ({ cls := "java/lang/Math", name := "min", desc := "(II)I" } : Jvm.MethodName)) ∈ BG := bg_in 560 rfl rfl
set_option maxRecDepth 100000 in
theorem kw_561 : (Jvm.Cond.methodLink "PrintLedgerLaw" (76 : Nat) ({ cls := "PrintLedger", name := "invoice", desc := "(I)I" } : Jvm.MethodName)) ∈ BG := bg_in 561 rfl rfl
set_option maxRecDepth 100000 in
theorem kw_562 : (Jvm.Cond.instanceMethod ({ cls := "PrintLedger", name := "invoice", desc := "(I)I" } : Jvm.MethodName)) ∈ BG := bg_in 562 rfl rfl
set_option maxRecDepth 100000 in
theorem kw_563 : (Jvm.Cond.selects "PrintLedger" ({ cls := "PrintLedger", name := "invoice", desc := "(I)I" } : Jvm.MethodName) ({ cls := "PrintLedger", name := "invoice", desc := "(I)I" } : Jvm.MethodName)) ∈ BG := bg_in 563 rfl rfl
set_option maxRecDepth 100000 in
theorem kw_564 : (Jvm.Cond.code ({ cls := "PrintLedger", name := "invoice", desc := "(I)I" } : Jvm.MethodName) prog_1_method_15_code (3 : Nat) (Option.some Jvm.ClassFile.FieldType.int)) ∈ BG := bg_in 564 rfl rfl
set_option maxRecDepth 100000 in
theorem kw_567 : (Jvm.Cond.methodLink "PrintLedgerLaw" (79 : Nat) ({ cls := "PrintLedger", name := "profit", desc := "(I)I" } : Jvm.MethodName)) ∈ BG := bg_in 567 rfl rfl
set_option maxRecDepth 100000 in
theorem kw_568 : (Jvm.Cond.methodLink "PrintLedgerLaw" (82 : Nat) ({ cls := "PrintLedger", name := "again", desc := "(I)I" } : Jvm.MethodName)) ∈ BG := bg_in 568 rfl rfl
set_option maxRecDepth 100000 in
theorem kw_569 : (Jvm.Cond.instanceMethod ({ cls := "PrintLedger", name := "again", desc := "(I)I" } : Jvm.MethodName)) ∈ BG := bg_in 569 rfl rfl
set_option maxRecDepth 100000 in
theorem kw_570 : (Jvm.Cond.selects "PrintLedger" ({ cls := "PrintLedger", name := "again", desc := "(I)I" } : Jvm.MethodName) ({ cls := "PrintLedger", name := "again", desc := "(I)I" } : Jvm.MethodName)) ∈ BG := bg_in 570 rfl rfl
set_option maxRecDepth 100000 in
theorem kw_571 : (Jvm.Cond.code ({ cls := "PrintLedger", name := "again", desc := "(I)I" } : Jvm.MethodName) prog_1_method_14_code (3 : Nat) (Option.some Jvm.ClassFile.FieldType.int)) ∈ BG := bg_in 571 rfl rfl
set_option maxRecDepth 100000 in
theorem kw_573 : (Jvm.Cond.methodLink "PrintLedgerLaw" (85 : Nat) ({ cls := "PrintLedger", name := "sort", desc := "(I)I" } : Jvm.MethodName)) ∈ BG := bg_in 573 rfl rfl
set_option maxRecDepth 100000 in
theorem kw_574 : (Jvm.Cond.instanceMethod ({ cls := "PrintLedger", name := "sort", desc := "(I)I" } : Jvm.MethodName)) ∈ BG := bg_in 574 rfl rfl
set_option maxRecDepth 100000 in
theorem kw_575 : (Jvm.Cond.selects "PrintLedger" ({ cls := "PrintLedger", name := "sort", desc := "(I)I" } : Jvm.MethodName) ({ cls := "PrintLedger", name := "sort", desc := "(I)I" } : Jvm.MethodName)) ∈ BG := bg_in 575 rfl rfl
set_option maxRecDepth 100000 in
theorem kw_576 : (Jvm.Cond.code ({ cls := "PrintLedger", name := "sort", desc := "(I)I" } : Jvm.MethodName) prog_1_method_21_code (4 : Nat) (Option.some Jvm.ClassFile.FieldType.int)) ∈ BG := bg_in 576 rfl rfl
set_option maxRecDepth 100000 in
theorem kw_577 : (Jvm.Cond.methodLinkNest "PrintLedger" (290 : Nat) ({ cls := "PrintLedger$Press", name := "bringLeastChangeAhead", desc := "()V" } : Jvm.MethodName) "PrintLedger") ∈ EW := ew_in 577 rfl rfl
set_option maxRecDepth 100000 in
theorem kw_579 : (Jvm.Cond.instanceMethod ({ cls := "PrintLedger$Press", name := "bringLeastChangeAhead", desc := "()V" } : Jvm.MethodName)) ∈ BG := bg_in 579 rfl rfl
set_option maxRecDepth 100000 in
theorem kw_580 : (Jvm.Cond.code ({ cls := "PrintLedger$Press", name := "bringLeastChangeAhead", desc := "()V" } : Jvm.MethodName) prog_5_method_6_code (6 : Nat) (Option.none : Option Jvm.ClassFile.FieldType)) ∈ BG := bg_in 580 rfl rfl
set_option maxRecDepth 100000 in
theorem kw_581 : (Jvm.Cond.methodLink "PrintLedger$Press" (47 : Nat) ({ cls := "PrintLedger$Press", name := "placeOfLeastChange", desc := "(II)I" } : Jvm.MethodName)) ∈ BG := bg_in 581 rfl rfl
set_option maxRecDepth 100000 in
theorem kw_583 : (Jvm.Cond.instanceMethod ({ cls := "PrintLedger$Press", name := "placeOfLeastChange", desc := "(II)I" } : Jvm.MethodName)) ∈ BG := bg_in 583 rfl rfl
set_option maxRecDepth 100000 in
theorem kw_584 : (Jvm.Cond.code ({ cls := "PrintLedger$Press", name := "placeOfLeastChange", desc := "(II)I" } : Jvm.MethodName) prog_5_method_7_code (8 : Nat) (Option.some Jvm.ClassFile.FieldType.int)) ∈ BG := bg_in 584 rfl rfl
set_option maxRecDepth 100000 in
theorem kw_585 : (Jvm.Cond.constant "PrintLedger$Press" (62 : Nat) (2147483647 : Int32)) ∈ BG := bg_in 585 rfl rfl
set_option maxRecDepth 100000 in
theorem kw_586 : (Jvm.Cond.methodLink "PrintLedger$Press" (50 : Nat) ({ cls := "PrintLedger$Press", name := "jobAt", desc := "(I)LPrintLedger$Job;" } : Jvm.MethodName)) ∈ BG := bg_in 586 rfl rfl
set_option maxRecDepth 100000 in
theorem kw_587 : (Jvm.Cond.methodLinkNest "PrintLedger$Press" (63 : Nat) ({ cls := "PrintLedger", name := "changeOf", desc := "(LPrintLedger$Job;I)I" } : Jvm.MethodName) "PrintLedger") ∈ EW := ew_in 587 rfl rfl
set_option maxRecDepth 100000 in
theorem kw_588 : (Jvm.Cond.methodLink "PrintLedger$Press" (54 : Nat) ({ cls := "PrintLedger$Press", name := "remove", desc := "(I)V" } : Jvm.MethodName)) ∈ BG := bg_in 588 rfl rfl
set_option maxRecDepth 100000 in
theorem kw_590 : (Jvm.Cond.instanceMethod ({ cls := "PrintLedger$Press", name := "remove", desc := "(I)V" } : Jvm.MethodName)) ∈ BG := bg_in 590 rfl rfl
set_option maxRecDepth 100000 in
theorem kw_591 : (Jvm.Cond.code ({ cls := "PrintLedger$Press", name := "remove", desc := "(I)V" } : Jvm.MethodName) prog_5_method_5_code (3 : Nat) (Option.none : Option Jvm.ClassFile.FieldType)) ∈ BG := bg_in 591 rfl rfl
set_option maxRecDepth 100000 in
theorem kw_592 : (Jvm.Cond.methodLink "PrintLedger$Press" (58 : Nat) ({ cls := "PrintLedger$Press", name := "insert", desc := "(LPrintLedger$Job;I)V" } : Jvm.MethodName)) ∈ BG := bg_in 592 rfl rfl
set_option maxRecDepth 100000 in
theorem kw_593 : (Jvm.Cond.methodLink "PrintLedgerLaw" (88 : Nat) ({ cls := "PrintLedger", name := "towers", desc := "(II)I" } : Jvm.MethodName)) ∈ BG := bg_in 593 rfl rfl
set_option maxRecDepth 100000 in
theorem kw_594 : (Jvm.Cond.instanceMethod ({ cls := "PrintLedger", name := "towers", desc := "(II)I" } : Jvm.MethodName)) ∈ BG := bg_in 594 rfl rfl
set_option maxRecDepth 100000 in
theorem kw_595 : (Jvm.Cond.selects "PrintLedger" ({ cls := "PrintLedger", name := "towers", desc := "(II)I" } : Jvm.MethodName) ({ cls := "PrintLedger", name := "towers", desc := "(II)I" } : Jvm.MethodName)) ∈ BG := bg_in 595 rfl rfl
set_option maxRecDepth 100000 in
theorem kw_596 : (Jvm.Cond.code ({ cls := "PrintLedger", name := "towers", desc := "(II)I" } : Jvm.MethodName) prog_1_method_18_code (5 : Nat) (Option.some Jvm.ClassFile.FieldType.int)) ∈ BG := bg_in 596 rfl rfl
set_option maxRecDepth 100000 in
theorem kw_598 : (Jvm.Cond.methodLink "PrintLedgerLaw" (91 : Nat) ({ cls := "PrintLedgerLaw", name := "isTold", desc := "(LPrintLedger;III)Z" } : Jvm.MethodName)) ∈ BG := bg_in 598 rfl rfl
set_option maxRecDepth 100000 in
theorem kw_599 : (Jvm.Cond.static ({ cls := "PrintLedgerLaw", name := "isTold", desc := "(LPrintLedger;III)Z" } : Jvm.MethodName)) ∈ BG := bg_in 599 rfl rfl
set_option maxRecDepth 100000 in
theorem kw_600 : (Jvm.Cond.code ({ cls := "PrintLedgerLaw", name := "isTold", desc := "(LPrintLedger;III)Z" } : Jvm.MethodName) method_6_code (12 : Nat) (Option.some Jvm.ClassFile.FieldType.boolean)) ∈ BG := bg_in 600 rfl rfl
set_option maxRecDepth 100000 in
theorem kw_601 : (Jvm.Cond.methodLink "PrintLedgerLaw" (108 : Nat) ({ cls := "PrintLedger", name := "slip", desc := "(III)I" } : Jvm.MethodName)) ∈ BG := bg_in 601 rfl rfl
set_option maxRecDepth 100000 in
theorem kw_602 : (Jvm.Cond.instanceMethod ({ cls := "PrintLedger", name := "slip", desc := "(III)I" } : Jvm.MethodName)) ∈ BG := bg_in 602 rfl rfl
set_option maxRecDepth 100000 in
theorem kw_603 : (Jvm.Cond.selects "PrintLedger" ({ cls := "PrintLedger", name := "slip", desc := "(III)I" } : Jvm.MethodName) ({ cls := "PrintLedger", name := "slip", desc := "(III)I" } : Jvm.MethodName)) ∈ BG := bg_in 603 rfl rfl
set_option maxRecDepth 100000 in
theorem kw_604 : (Jvm.Cond.code ({ cls := "PrintLedger", name := "slip", desc := "(III)I" } : Jvm.MethodName) prog_1_method_22_code (8 : Nat) (Option.some Jvm.ClassFile.FieldType.int)) ∈ BG := bg_in 604 rfl rfl
set_option maxRecDepth 100000 in
theorem kw_605 : (Jvm.Cond.methodLink "PrintLedger" (293 : Nat) ({ cls := "PrintLedger", name := "jobOfSlip", desc := "(LPrintLedger$Press;II)LPrintLedger$Job;" } : Jvm.MethodName)) ∈ BG := bg_in 605 rfl rfl
set_option maxRecDepth 100000 in
theorem kw_606 : (Jvm.Cond.static ({ cls := "PrintLedger", name := "jobOfSlip", desc := "(LPrintLedger$Press;II)LPrintLedger$Job;" } : Jvm.MethodName)) ∈ BG := bg_in 606 rfl rfl
set_option maxRecDepth 100000 in
theorem kw_607 : (Jvm.Cond.code ({ cls := "PrintLedger", name := "jobOfSlip", desc := "(LPrintLedger$Press;II)LPrintLedger$Job;" } : Jvm.MethodName) prog_1_method_23_code (4 : Nat) (Option.some (Jvm.ClassFile.FieldType.object "PrintLedger$Job"))) ∈ BG := bg_in 607 rfl rfl
set_option maxRecDepth 100000 in
theorem kw_612 : (Jvm.Cond.methodLinkNest "PrintLedger" (297 : Nat) ({ cls := "PrintLedger$Job", name := "takenWith", desc := "(I)I" } : Jvm.MethodName) "PrintLedger") ∈ EW := ew_in 612 rfl rfl
set_option maxRecDepth 100000 in
theorem kw_614 : (Jvm.Cond.instanceMethod ({ cls := "PrintLedger$Job", name := "takenWith", desc := "(I)I" } : Jvm.MethodName)) ∈ BG := bg_in 614 rfl rfl
set_option maxRecDepth 100000 in
theorem kw_615 : (Jvm.Cond.code ({ cls := "PrintLedger$Job", name := "takenWith", desc := "(I)I" } : Jvm.MethodName) prog_3_method_5_code (2 : Nat) (Option.some Jvm.ClassFile.FieldType.int)) ∈ BG := bg_in 615 rfl rfl
set_option maxRecDepth 100000 in
theorem kw_616 : (Jvm.Cond.methodLink "PrintLedger$Job" (73 : Nat) ({ cls := "PrintLedger$Job", name := "sheets", desc := "()I" } : Jvm.MethodName)) ∈ BG := bg_in 616 rfl rfl
set_option maxRecDepth 100000 in
theorem kw_617 : (Jvm.Cond.methodLinkNest "PrintLedger" (303 : Nat) ({ cls := "PrintLedger$Press", name := "remove", desc := "(I)V" } : Jvm.MethodName) "PrintLedger") ∈ EW := ew_in 617 rfl rfl
set_option maxRecDepth 100000 in
theorem kw_618 : (Jvm.Cond.methodLinkNest "PrintLedger" (307 : Nat) ({ cls := "PrintLedger$Press", name := "learn", desc := "(LPrintLedger$Job;III)V" } : Jvm.MethodName) "PrintLedger") ∈ EW := ew_in 618 rfl rfl
set_option maxRecDepth 100000 in
theorem kw_620 : (Jvm.Cond.instanceMethod ({ cls := "PrintLedger$Press", name := "learn", desc := "(LPrintLedger$Job;III)V" } : Jvm.MethodName)) ∈ BG := bg_in 620 rfl rfl
set_option maxRecDepth 100000 in
theorem kw_621 : (Jvm.Cond.code ({ cls := "PrintLedger$Press", name := "learn", desc := "(LPrintLedger$Job;III)V" } : Jvm.MethodName) prog_5_method_9_code (8 : Nat) (Option.none : Option Jvm.ClassFile.FieldType)) ∈ BG := bg_in 621 rfl rfl
set_option maxRecDepth 100000 in
theorem kw_622 : (Jvm.Cond.methodLink "PrintLedger$Press" (67 : Nat) ({ cls := "PrintLedger$Press", name := "passesOf", desc := "(LPrintLedger$Job;)I" } : Jvm.MethodName)) ∈ BG := bg_in 622 rfl rfl
set_option maxRecDepth 100000 in
theorem kw_623 : (Jvm.Cond.methodLinkNest "PrintLedger$Press" (71 : Nat) ({ cls := "PrintLedger", name := "divide", desc := "(II)I" } : Jvm.MethodName) "PrintLedger") ∈ EW := ew_in 623 rfl rfl
set_option maxRecDepth 100000 in
theorem kw_624 : (Jvm.Cond.methodLink "PrintLedger$Press" (74 : Nat) ({ cls := "PrintLedger$Press", name := "rateOf", desc := "(I)I" } : Jvm.MethodName)) ∈ BG := bg_in 624 rfl rfl
set_option maxRecDepth 100000 in
theorem kw_625 : (Jvm.Cond.static ({ cls := "PrintLedger$Press", name := "rateOf", desc := "(I)I" } : Jvm.MethodName)) ∈ BG := bg_in 625 rfl rfl
set_option maxRecDepth 100000 in
theorem kw_626 : (Jvm.Cond.code ({ cls := "PrintLedger$Press", name := "rateOf", desc := "(I)I" } : Jvm.MethodName) prog_5_method_10_code (1 : Nat) (Option.some Jvm.ClassFile.FieldType.int)) ∈ BG := bg_in 626 rfl rfl
set_option maxRecDepth 100000 in
theorem kw_627 : (Jvm.Cond.methodLink "PrintLedger$Press" (82 : Nat) ({ cls := "java/lang/Math", name := "min", desc := "(II)I" } : Jvm.MethodName)) ∈ BG := bg_in 627 rfl rfl
set_option maxRecDepth 100000 in
theorem kw_628 : (Jvm.Cond.methodLink "PrintLedger$Press" (77 : Nat) ({ cls := "java/lang/Math", name := "max", desc := "(II)I" } : Jvm.MethodName)) ∈ BG := bg_in 628 rfl rfl
set_option maxRecDepth 100000 in
theorem kw_629 : (Jvm.Cond.methodLink "PrintLedgerLaw" (112 : Nat) ({ cls := "PrintLedger", name := "expected", desc := "(III)I" } : Jvm.MethodName)) ∈ BG := bg_in 629 rfl rfl
set_option maxRecDepth 100000 in
theorem kw_630 : (Jvm.Cond.methodLink "PrintLedgerLaw" (95 : Nat) ({ cls := "PrintLedger", name := "terms", desc := "(II)I" } : Jvm.MethodName)) ∈ BG := bg_in 630 rfl rfl
set_option maxRecDepth 100000 in
theorem kw_631 : (Jvm.Cond.instanceMethod ({ cls := "PrintLedger", name := "terms", desc := "(II)I" } : Jvm.MethodName)) ∈ BG := bg_in 631 rfl rfl
set_option maxRecDepth 100000 in
theorem kw_632 : (Jvm.Cond.selects "PrintLedger" ({ cls := "PrintLedger", name := "terms", desc := "(II)I" } : Jvm.MethodName) ({ cls := "PrintLedger", name := "terms", desc := "(II)I" } : Jvm.MethodName)) ∈ BG := bg_in 632 rfl rfl
set_option maxRecDepth 100000 in
theorem kw_633 : (Jvm.Cond.code ({ cls := "PrintLedger", name := "terms", desc := "(II)I" } : Jvm.MethodName) prog_1_method_25_code (3 : Nat) (Option.some Jvm.ClassFile.FieldType.int)) ∈ BG := bg_in 633 rfl rfl
set_option maxRecDepth 100000 in
theorem kw_636 : (Jvm.Cond.methodLink "PrintLedgerLaw" (98 : Nat) ({ cls := "PrintLedger", name := "paper", desc := "(IIII)I" } : Jvm.MethodName)) ∈ BG := bg_in 636 rfl rfl
set_option maxRecDepth 100000 in
theorem kw_637 : (Jvm.Cond.instanceMethod ({ cls := "PrintLedger", name := "paper", desc := "(IIII)I" } : Jvm.MethodName)) ∈ BG := bg_in 637 rfl rfl
set_option maxRecDepth 100000 in
theorem kw_638 : (Jvm.Cond.selects "PrintLedger" ({ cls := "PrintLedger", name := "paper", desc := "(IIII)I" } : Jvm.MethodName) ({ cls := "PrintLedger", name := "paper", desc := "(IIII)I" } : Jvm.MethodName)) ∈ BG := bg_in 638 rfl rfl
set_option maxRecDepth 100000 in
theorem kw_639 : (Jvm.Cond.code ({ cls := "PrintLedger", name := "paper", desc := "(IIII)I" } : Jvm.MethodName) prog_1_method_2_code (7 : Nat) (Option.some Jvm.ClassFile.FieldType.int)) ∈ BG := bg_in 639 rfl rfl
set_option maxRecDepth 100000 in
theorem kw_642 : (Jvm.Cond.methodLink "PrintLedgerLaw" (39 : Nat) ({ cls := "PrintLedgerLaw", name := "areJobsRight", desc := "(LPrintLedger;)Z" } : Jvm.MethodName)) ∈ BG := bg_in 642 rfl rfl
set_option maxRecDepth 100000 in
theorem kw_643 : (Jvm.Cond.static ({ cls := "PrintLedgerLaw", name := "areJobsRight", desc := "(LPrintLedger;)Z" } : Jvm.MethodName)) ∈ BG := bg_in 643 rfl rfl
set_option maxRecDepth 100000 in
theorem kw_644 : (Jvm.Cond.code ({ cls := "PrintLedgerLaw", name := "areJobsRight", desc := "(LPrintLedger;)Z" } : Jvm.MethodName) method_7_code (13 : Nat) (Option.some Jvm.ClassFile.FieldType.boolean)) ∈ BG := bg_in 644 rfl rfl
set_option maxRecDepth 100000 in
theorem kw_645 : (Jvm.Cond.methodLink "PrintLedgerLaw" (115 : Nat) ({ cls := "PrintLedger", name := "bestPress", desc := "(I)I" } : Jvm.MethodName)) ∈ BG := bg_in 645 rfl rfl
set_option maxRecDepth 100000 in
theorem kw_646 : (Jvm.Cond.arrayClass Jvm.ClassFile.FieldType.int) ∈ BG := bg_in 646 rfl rfl
set_option maxRecDepth 100000 in
theorem kw_647 : (Jvm.Cond.methodLink "PrintLedgerLaw" (43 : Nat) ({ cls := "PrintLedgerLaw", name := "arePressesRight", desc := "(LPrintLedger;)Z" } : Jvm.MethodName)) ∈ BG := bg_in 647 rfl rfl
set_option maxRecDepth 100000 in
theorem kw_648 : (Jvm.Cond.static ({ cls := "PrintLedgerLaw", name := "arePressesRight", desc := "(LPrintLedger;)Z" } : Jvm.MethodName)) ∈ BG := bg_in 648 rfl rfl
set_option maxRecDepth 100000 in
theorem kw_649 : (Jvm.Cond.code ({ cls := "PrintLedgerLaw", name := "arePressesRight", desc := "(LPrintLedger;)Z" } : Jvm.MethodName) method_8_code (4 : Nat) (Option.some Jvm.ClassFile.FieldType.boolean)) ∈ BG := bg_in 649 rfl rfl
set_option maxRecDepth 100000 in
theorem kw_650 : (Jvm.Cond.methodLink "PrintLedgerLaw" (46 : Nat) ({ cls := "PrintLedgerLaw", name := "arePapersRight", desc := "(LPrintLedger;Z)Z" } : Jvm.MethodName)) ∈ BG := bg_in 650 rfl rfl
set_option maxRecDepth 100000 in
theorem kw_651 : (Jvm.Cond.static ({ cls := "PrintLedgerLaw", name := "arePapersRight", desc := "(LPrintLedger;Z)Z" } : Jvm.MethodName)) ∈ BG := bg_in 651 rfl rfl
set_option maxRecDepth 100000 in
theorem kw_652 : (Jvm.Cond.code ({ cls := "PrintLedgerLaw", name := "arePapersRight", desc := "(LPrintLedger;Z)Z" } : Jvm.MethodName) method_9_code (9 : Nat) (Option.some Jvm.ClassFile.FieldType.boolean)) ∈ BG := bg_in 652 rfl rfl
set_option maxRecDepth 100000 in
theorem kw_653 : (Jvm.Cond.constant "PrintLedgerLaw" (118 : Nat) (99999 : Int32)) ∈ BG := bg_in 653 rfl rfl
set_option maxRecDepth 100000 in
theorem kw_654 : (Jvm.Cond.methodLink "PrintLedgerLaw" (22 : Nat) ({ cls := "java/lang/Math", name := "max", desc := "(II)I" } : Jvm.MethodName)) ∈ BG := bg_in 654 rfl rfl
theorem in_X0 : ∀ w ∈ u_ws RX0 TX0 7, w ∈ BG := by decide +kernel
theorem de_X0 : ∀ k, k < 7 → (TX0 k).1 = RX0 := by decide +kernel
theorem in_X1 : ∀ w ∈ u_ws RX1 TX1 15, w ∈ BG := by decide +kernel
theorem de_X1 : ∀ k, k < 15 → (TX1 k).1 = RX1 := by decide +kernel
theorem in_X2 : ∀ w ∈ u_ws RX2 TX2 4, w ∈ BG := by decide +kernel
theorem de_X2 : ∀ k, k < 4 → (TX2 k).1 = RX2 := by decide +kernel
theorem in_X3 : ∀ w ∈ u_ws RX3 TX3 7, w ∈ BG := by decide +kernel
theorem de_X3 : ∀ k, k < 7 → (TX3 k).1 = RX3 := by decide +kernel
theorem in_X4 : ∀ w ∈ u_ws RX4 TX4 11, w ∈ BG := by decide +kernel
theorem de_X4 : ∀ k, k < 11 → (TX4 k).1 = RX4 := by decide +kernel
end
section
/-! ===== rows over the world ===== -/
def Wd (D : va_G) (ca : Nat → ClassId) (ad : Nat → Nat) (A : Nat → Prop) (s : State) (H : Heap) (locs : List Loc) (σ : St) : Prop := va_P D vwCl (wl ca ad σ) H ∧ va_D A (wl ca ad σ) ∧ va_K D vwCl (wt ca) s ∧ va_S A s.heap H locs
def wA (ad : Nat → Nat) (n sz : Nat) : Nat → Prop := fun q => (∃ o, o < 17 + n ∧ q = ad o) ∨ sz ≤ q
def Cn (A : Nat → Prop) (s : State) : Prop := (∀ q, s.heap.size ≤ q → A q) ∧ EV s ∧ XZ A s s.heap
def WP (D : va_G) (ca : Nat → ClassId) (ad : Nat → Nat) (σ : St) (U : State) : Prop := va_P D vwCl (wl ca ad σ) U.heap ∧ va_K D vwCl (wt ca) U ∧ va_D (fun _ => True) (wl ca ad σ) ∧ EV U ∧ XZ (wA ad (sN σ) U.heap.size) U U.heap
def WQ (D : va_G) (ca : Nat → ClassId) (ad : Nat → Nat) (B : Nat → Prop) (τ : St) (t : State) : Prop := va_P D vwCl (wl ca ad τ) t.heap ∧ va_K D vwCl (wt ca) t ∧ va_D B (wl ca ad τ)
/-- a method's start over the world -/
abbrev Pw (D : va_G) (ca : Nat → ClassId) (ad : Nat → Nat) (σ : St) (sz : Nat) (As : List Value) : Array Value → State → Prop := va_Pc As (fun U => U.heap.size = sz ∧ WP D ca ad σ U)
theorem Pw.blind {D : va_G} {ca : Nat → ClassId} {ad : Nat → Nat} {σ : St} {sz : Nat} {As : List Value} : FrameBlind (Pw D ca ad σ sz As) := by
  intro a U g mk h
  obtain ⟨h0, h1, hP, hK, hD, hE, hZ⟩ := h
  exact ⟨h0, h1, hP, va_K.moved (u := U) (U := U.calling g mk a) (Vm.Alike.refl U.vm) hK, hD, EV.same (u := U) (U := U.calling g mk a) rfl hE, XZ.moved (s := U) (U := U.calling g mk a) (Vm.Alike.refl U.vm) hZ⟩
theorem Pn.blind {As : List Value} : FrameBlind (va_Pc As (fun _ => True)) := fun _ _ _ _ h => h
section WRows
variable {p : Program} {l : Launch} {e : Env} {R : Room} {s : State} {m : MethodId} {args : Array Value} {below : List Frame} {meth : Method} {c : Code} {H : Heap} {locs : List Loc} {cells slots : Nat} {Q : State → Prop}
variable {cc : ByteArray} {pc nL : Nat} {ls : Array Slot} {rest : List Value} {own : String} {D : va_G} {ca : Nat → ClassId} {ad : Nat → Nat} {A : Nat → Prop} {σ : St}
theorem w_sub (cn : Cn A s) (w : Wd D ca ad A s H locs σ) : ∀ q, wA ad (sN σ) H.size q → A q := by
  intro q h
  rcases h with ⟨o, ho, rfl⟩ | h
  · exact w.2.1.2 o _ (wl_at ho)
  · exact cn.1 q (Nat.le_trans w.2.2.2.1 h)
theorem w_pre (cn : Cn A s) (w : Wd D ca ad A s H locs σ) (U : State) (hU : U.heap = H) (hW : s.WarmedH U.vm) : U.heap.size = H.size ∧ WP D ca ad σ U := by
  refine ⟨by rw [hU], by rw [hU]; exact w.1, va_K.moved hW.alike w.2.2.1, w.2.1.weaken (fun _ _ _ _ => trivial), cn.2.1.warm hW, ?_⟩
  rw [hU]
  exact cn.2.2.next w.2.2.2.2.1 (w_sub cn w) hW.alike
theorem w_inj (w : Wd D ca ad A s H locs σ) {i j : Nat} (hi : i < 17 + sN σ) (hj : j < 17 + sN σ) (h : ad i = ad j) : i = j := w.2.1.1 i j _ _ (wl_at hi) (wl_at hj) h
theorem w_get (S : CallFix p m c cc nL s args BG own) (w : Wd D ca ad A s H locs σ) {o ci : Nat} {fs : List Value} {C : String} {T : u_T} {N index : Nat} (ho : o < 17 + sN σ) (hcell : wC ca ad σ o = .inr (ci, fs)) (hc : vwCl[ci]? = some (C, T, N)) (hin : ∀ x ∈ u_ws C T N, x ∈ BG) (k : Nat) (hk : k < N) (hd : (T k).1 = C) {v : Value} (hv : fs[k]? = some v) (hlink : (Cond.fieldLink own index C (T k).2.1 (T k).2.2.1) ∈ BG) (hdg : decode cc pc = .ok (.getfield index, 3))
    (kk : W p l e R s m args below meth c H locs cells slots Q (F0 m (pc + 3) ls (v :: rest))) : W p l e R s m args below meth c H locs cells slots Q (F0 m pc ls (.ref (ad o) :: rest)) := by
  obtain ⟨hx, hb, hml, hown, hts⟩ := S
  exact va_get hx hb hts hin hown w.2.2.1 w.1 o (by rw [wl_at ho, hcell]) hc k hk (hts _ hlink) (fun x h => by rw [hd] at h; exact h) hv hdg kk
theorem w_getN (S : CallFix p m c cc nL s args BG own) (cn : Cn A s) (w : Wd D ca ad A s H locs σ) {o ci : Nat} {fs : List Value} {C host : String} {T : u_T} {N index : Nat} (ho : o < 17 + sN σ) (hcell : wC ca ad σ o = .inr (ci, fs)) (hc : vwCl[ci]? = some (C, T, N)) (hin : ∀ x ∈ u_ws C T N, x ∈ BG) (k : Nat) (hk : k < N) (hd : (T k).1 = C) {v : Value} (hv : fs[k]? = some v) (hlink : (Cond.fieldLinkNest own index C (T k).2.1 (T k).2.2.1 host) ∈ EW) (hdg : decode cc pc = .ok (.getfield index, 3))
    (kk : W p l e R s m args below meth c H locs cells slots Q (F0 m (pc + 3) ls (v :: rest))) : W p l e R s m args below meth c H locs cells slots Q (F0 m pc ls (.ref (ad o) :: rest)) := by
  obtain ⟨hx, hb, hml, hown, hts⟩ := S
  exact va_getN hx hb hts hin hown w.2.2.1 w.1 o (by rw [wl_at ho, hcell]) hc k hk (cn.2.1.use hlink) (fun x h => by rw [hd] at h; exact h) hv hdg kk
/-- another cell for the object o, by a field's place -/
theorem w_put (S : CallFix p m c cc nL s args BG own) (w : Wd D ca ad A s H locs σ) (τ : St) {o ci : Nat} {fs : List Value} {C : String} {T : u_T} {N index : Nat} (ho : o < 17 + sN σ) (hcell : wC ca ad σ o = .inr (ci, fs)) (hc : vwCl[ci]? = some (C, T, N)) (hin : ∀ x ∈ u_ws C T N, x ∈ BG) (ty0 : Nat → FieldType) (hty : ∀ k, k < N → parseFieldDescriptor (T k).2.2.1 = some (ty0 k)) (hnm : ∀ a, a < N → ∀ b, b < N → a ≠ b → (T a).2.1 ≠ (T b).2.1) (k : Nat) (hk : k < N) (hd : (T k).1 = C) {v : Value}
    (hset : (wl ca ad σ).set o (ad o, .inr (ci, fs.set k v)) = wl ca ad τ) (hfin : (T k).2.2.2 = false) {ty : FieldType} (hpt : parseFieldDescriptor (T k).2.2.1 = some ty) (hn : narrow ty v = v) (hfit : fits ty v = true) (hl : k < fs.length) (hlink : (Cond.fieldLink own index C (T k).2.1 (T k).2.2.1) ∈ BG) (hdg : decode cc pc = .ok (.putfield index, 3))
    (kk : ∀ (H1 : Heap) (locs1 : List Loc), Wd D ca ad A s H1 locs1 τ → W p l e R s m args below meth c H1 locs1 cells slots Q (F0 m (pc + 3) ls rest)) : W p l e R s m args below meth c H locs cells slots Q (F0 m pc ls (v :: .ref (ad o) :: rest)) := by
  obtain ⟨hx, hb, hml, hown, hts⟩ := S
  refine va_put hx hb hts hin ty0 hty hnm hown w.2.2.1 w.1 w.2.1 w.2.2.2 o (by rw [wl_at ho, hcell]) hc k hk (hts _ hlink) (fun x h => by rw [hd] at h; exact h) hfin hpt hn hfit hl hdg (fun H1 locs1 hP hD hS => ?_)
  rw [hset] at hP hD
  exact kk H1 locs1 ⟨hP, hD, w.2.2.1, hS⟩
theorem w_putN (S : CallFix p m c cc nL s args BG own) (cn : Cn A s) (w : Wd D ca ad A s H locs σ) (τ : St) {o ci : Nat} {fs : List Value} {C host : String} {T : u_T} {N index : Nat} (ho : o < 17 + sN σ) (hcell : wC ca ad σ o = .inr (ci, fs)) (hc : vwCl[ci]? = some (C, T, N)) (hin : ∀ x ∈ u_ws C T N, x ∈ BG) (ty0 : Nat → FieldType) (hty : ∀ k, k < N → parseFieldDescriptor (T k).2.2.1 = some (ty0 k)) (hnm : ∀ a, a < N → ∀ b, b < N → a ≠ b → (T a).2.1 ≠ (T b).2.1) (k : Nat) (hk : k < N) (hd : (T k).1 = C) {v : Value}
    (hset : (wl ca ad σ).set o (ad o, .inr (ci, fs.set k v)) = wl ca ad τ) (hfin : (T k).2.2.2 = false) {ty : FieldType} (hpt : parseFieldDescriptor (T k).2.2.1 = some ty) (hn : narrow ty v = v) (hfit : fits ty v = true) (hl : k < fs.length) (hlink : (Cond.fieldLinkNest own index C (T k).2.1 (T k).2.2.1 host) ∈ EW) (hdg : decode cc pc = .ok (.putfield index, 3))
    (kk : ∀ (H1 : Heap) (locs1 : List Loc), Wd D ca ad A s H1 locs1 τ → W p l e R s m args below meth c H1 locs1 cells slots Q (F0 m (pc + 3) ls rest)) : W p l e R s m args below meth c H locs cells slots Q (F0 m pc ls (v :: .ref (ad o) :: rest)) := by
  obtain ⟨hx, hb, hml, hown, hts⟩ := S
  refine va_putN hx hb hts hin ty0 hty hnm hown w.2.2.1 w.1 w.2.1 w.2.2.2 o (by rw [wl_at ho, hcell]) hc k hk (cn.2.1.use hlink) (fun x h => by rw [hd] at h; exact h) hfin hpt hn hfit hl hdg (fun H1 locs1 hP hD hS => ?_)
  rw [hset] at hP hD
  exact kk H1 locs1 ⟨hP, hD, w.2.2.1, hS⟩
/-- an element of one of the world's rows -/
theorem w_ald (S : CallFix p m c cc nL s args BG own) (w : Wd D ca ad A s H locs σ) {o n t0 : Nat} {C : String} {f : Nat → Option Nat} (ho : o < 17 + sN σ) (hcell : wC ca ad σ o = aRow (ca o) n f) (ht : (wt ca)[t0]? = some (ca o, .object C)) {i : Int32} (hin : vp_in i n) (hdg : decode cc pc = .ok (.aaload, 1))
    (kk : W p l e R s m args below meth c H locs cells slots Q (F0 m (pc + 1) ls (va_rf (f i.toNatClampNeg) :: rest))) : W p l e R s m args below meth c H locs cells slots Q (F0 m pc ls (.int i :: .ref (ad o) :: rest)) :=
  va_aldq S.1 S.2.1 w.2.2.1 w.1 o t0 (by rw [wl_at ho, hcell]) ht hin hdg kk
theorem w_alen (S : CallFix p m c cc nL s args BG own) (w : Wd D ca ad A s H locs σ) {o n t0 : Nat} {C : String} {f : Nat → Option Nat} (ho : o < 17 + sN σ) (hcell : wC ca ad σ o = aRow (ca o) n f) (ht : (wt ca)[t0]? = some (ca o, .object C)) {v : Int32} (hv : Int32.ofNat n = v) (hdg : decode cc pc = .ok (.arraylength, 1))
    (kk : W p l e R s m args below meth c H locs cells slots Q (F0 m (pc + 1) ls (.int v :: rest))) : W p l e R s m args below meth c H locs cells slots Q (F0 m pc ls (.ref (ad o) :: rest)) :=
  va_alen S.1 S.2.1 w.2.2.1 w.1 o t0 (by rw [wl_at ho, hcell]) ht hv hdg kk

theorem open_W {y : MethodName} {maxL : Nat} {ret : Option FieldType} {rm : Room} {As : List Value} {sz mc ms : Nat} {Qc : Nat → Array Value → State → Outcome → State → Prop} (hy : plainName y.cls = true) (hlen : (lg_sl As).length ≤ maxL)
    (body : ∀ p e s m args below meth c, CallFix p m c cc maxL s args BG y.cls → meth.sig.returnType = ret → meth.locks = false → Wd D ca ad (wA ad (sN σ) s.heap.size) s s.heap [] σ → Cn (wA ad (sN σ) s.heap.size) s → ∀ ls, lv_has ls maxL (lv_args 0 As) →
      W p l e rm s m args below meth c s.heap [] 0 0 (MQ below (Qc s.heap.size) args s mc ms (wA ad (sN σ) s.heap.size)) (F0 m 0 ls [])) :
    Met l y (.code y cc maxL ret :: BG) rm (Pw D ca ad σ sz As) (Qc sz) mc ms (wA ad (sN σ) sz) := by
  refine Met.ofW (cc := cc) (maxL := maxL) (ret := ret) hy rfl ?_
  intro p e s m args below meth c s₁ B hml hv
  obtain ⟨rfl, rfl, hP, hK, hD, hE, hZ⟩ := hv
  have hts := atoms_spec (ws := Cond.code y cc maxL ret :: BG) B.pre
  have hl := lv_entry As (n := maxL) hlen
  rw [lg_entry_eq]
  exact body p e s m _ below meth c ⟨B.exec, B.bytes, hml, findClass_of_methodNamed B.named, fun w hw => hts w (List.mem_cons_of_mem _ hw)⟩ B.returns B.notSynchronized
    ⟨hP, hD.weaken (fun k q hk _ => by obtain ⟨h1, rfl⟩ := wl_of hk; exact Or.inl ⟨k, h1, rfl⟩), hK, va_S.rf⟩ ⟨fun q h => Or.inr h, hE, hZ⟩ _ hl
theorem open_P {y : MethodName} {maxL : Nat} {ret : Option FieldType} {rm : Room} {As : List Value} {mc ms : Nat} {Qc : Array Value → State → Outcome → State → Prop} {free : Addr → Prop} (hy : plainName y.cls = true) (hlen : (lg_sl As).length ≤ maxL)
    (body : ∀ p e s m args below meth c, CallFix p m c cc maxL s args BG y.cls → meth.sig.returnType = ret → meth.locks = false → ∀ ls, lv_has ls maxL (lv_args 0 As) →
      W p l e rm s m args below meth c s.heap [] 0 0 (MQ below Qc args s mc ms free) (F0 m 0 ls [])) :
    Met l y (.code y cc maxL ret :: BG) rm (va_Pc As (fun _ => True)) Qc mc ms free := by
  refine Met.ofW (cc := cc) (maxL := maxL) (ret := ret) hy rfl ?_
  intro p e s m args below meth c s₁ B hml hv
  obtain ⟨rfl, -⟩ := hv
  have hts := atoms_spec (ws := Cond.code y cc maxL ret :: BG) B.pre
  have hl := lv_entry As (n := maxL) hlen
  rw [lg_entry_eq]
  exact body p e s m _ below meth c ⟨B.exec, B.bytes, hml, findClass_of_methodNamed B.named, fun w hw => hts w (List.mem_cons_of_mem _ hw)⟩ B.returns B.notSynchronized _ hl
theorem open_X {y : MethodName} {maxL : Nat} {ret : Option FieldType} {rm : Room} {As : List Value} {sz mc ms : Nat} {Qc : Nat → Array Value → State → Outcome → State → Prop} {XC : Nat → String → State → State → Prop} (hy : plainName y.cls = true) (hlen : (lg_sl As).length ≤ maxL)
    (body : ∀ p e s m args below meth c, CallFix p m c cc maxL s args BG y.cls → meth.sig.returnType = ret → meth.locks = false → (∀ x ∈ c.exceptionTable.toList, False) → Wd D ca ad (wA ad (sN σ) s.heap.size) s s.heap [] σ → Cn (wA ad (sN σ) s.heap.size) s → ∀ ls, lv_has ls maxL (lv_args 0 As) →
      W p l e rm s m args below meth c s.heap [] 0 0 (vx_MQ below (Qc s.heap.size) (XC s.heap.size) args s mc ms (wA ad (sN σ) s.heap.size)) (F0 m 0 ls [])) :
    vx_Met l y (.code y cc maxL ret :: BG) rm (Pw D ca ad σ sz As) (Qc sz) (XC sz) mc ms (wA ad (sN σ) sz) := by
  refine vx_ofW (cc := cc) (maxL := maxL) (ret := ret) hy rfl ?_
  intro p e s m args below meth c s₁ B hml hnt hv
  obtain ⟨rfl, rfl, hP, hK, hD, hE, hZ⟩ := hv
  have hts := atoms_spec (ws := Cond.code y cc maxL ret :: BG) B.pre
  have hl := lv_entry As (n := maxL) hlen
  rw [lg_entry_eq]
  exact body p e s m _ below meth c ⟨B.exec, B.bytes, hml, findClass_of_methodNamed B.named, fun w hw => hts w (List.mem_cons_of_mem _ hw)⟩ B.returns B.notSynchronized hnt
    ⟨hP, hD.weaken (fun k q hk _ => by obtain ⟨h1, rfl⟩ := wl_of hk; exact Or.inl ⟨k, h1, rfl⟩), hK, va_S.rf⟩ ⟨fun q h => Or.inr h, hE, hZ⟩ _ hl
end WRows
end
section
/-! ===== ends ===== -/
abbrev Qi (D : va_G) (ca : Nat → ClassId) (ad : Nat → Nat) (n : Nat) (post : Int32 → St → Prop) (sz : Nat) : Array Value → State → Outcome → State → Prop := va_Qi post (fun u t => WQ D ca ad (wA ad n sz) u t) (wA ad n sz)
abbrev Ql (D : va_G) (ca : Nat → ClassId) (ad : Nat → Nat) (n : Nat) (post : Int64 → St → Prop) (sz : Nat) : Array Value → State → Outcome → State → Prop := va_Ql post (fun u t => WQ D ca ad (wA ad n sz) u t) (wA ad n sz)
abbrev Qv (D : va_G) (ca : Nat → ClassId) (ad : Nat → Nat) (n : Nat) (post : St → Prop) (sz : Nat) : Array Value → State → Outcome → State → Prop := va_Qv post (fun u t => WQ D ca ad (wA ad n sz) u t) (wA ad n sz)
abbrev Qr (D : va_G) (ca : Nat → ClassId) (ad : Nat → Nat) (n : Nat) (post : Option Nat → St → Prop) (sz : Nat) : Array Value → State → Outcome → State → Prop := va_Qq post (fun u t => WQ D ca ad (wA ad n sz) u t) (wA ad n sz)
/-- of no world: an int that is v -/
abbrev Qn (v : Int32) : Array Value → State → Outcome → State → Prop := va_Qi (fun r (_ : Unit) => r = v) (fun _ _ => True) (fun _ => False)
/-- which exception: 1, 2, 3 -/
def exN (k : Nat) : String := if k = 1 then eIO else if k = 2 then eIA else eIS
abbrev Xq (D : va_G) (ca : Nat → ClassId) (ad : Nat → Nat) (n : Nat) (er : Nat) (px : St → Prop) (sz : Nat) : String → State → State → Prop := vx_X (fun u : St => er ≠ 0 ∧ px u) (fun E u t => E = exN er ∧ WQ D ca ad (wA ad n sz) u t) (wA ad n sz)
section Ends
variable {p : Program} {l : Launch} {e : Env} {R : Room} {s : State} {m : MethodId} {args : Array Value} {below : List Frame} {meth : Method} {c : Code} {H : Heap} {locs : List Loc} {cells slots : Nat} {Q : State → Prop}
variable {cc : ByteArray} {pc nL : Nat} {ls : Array Slot} {rest : List Value} {own : String} {D : va_G} {ca : Nat → ClassId} {ad : Nat → Nat} {σ τ : St} {mc ms n : Nat}
theorem w_iret {post : Int32 → St → Prop} {v : Int32} {ty : FieldType} (S : CallFix p m c cc nL s args BG own) (hr : meth.sig.returnType = some ty) (hlk : meth.locks = false) (w : Wd D ca ad (wA ad n s.heap.size) s H locs τ) (hp : post v τ) (hdg : decode cc pc = .ok (.ireturn, 1)) (hn : narrow ty (.int v) = .int v) (h1 : cells ≤ mc) (h2 : slots ≤ ms) :
    W p l e R s m args below meth c H locs cells slots (MQ below (Qi D ca ad n post s.heap.size) args s mc ms (wA ad n s.heap.size)) (F0 m pc ls [.int v]) := by
  refine W.widen h1 h2 ?_
  exact W.zret S.1 S.2.1 hr hn (fun t ht hW => ⟨⟨v, τ, rfl, hp, by rw [ht]; exact w.1, va_K.moved hW.alike w.2.2.1, w.2.1⟩, w.2.2.2.F ht⟩) w.2.2.2.2.2 hdg
theorem w_lret {post : Int64 → St → Prop} {v : Int64} (S : CallFix p m c cc nL s args BG own) (hr : meth.sig.returnType = some .long) (hlk : meth.locks = false) (w : Wd D ca ad (wA ad n s.heap.size) s H locs τ) (hp : post v τ) (hdg : decode cc pc = .ok (.lreturn, 1)) (h1 : cells ≤ mc) (h2 : slots ≤ ms) :
    W p l e R s m args below meth c H locs cells slots (MQ below (Ql D ca ad n post s.heap.size) args s mc ms (wA ad n s.heap.size)) (F0 m pc ls [.long v]) := by
  refine W.widen h1 h2 ?_
  exact W.lret S.1 S.2.1 hr (fun t ht hW => ⟨⟨v, τ, rfl, hp, by rw [ht]; exact w.1, va_K.moved hW.alike w.2.2.1, w.2.1⟩, w.2.2.2.F ht⟩) w.2.2.2.2.2 hdg
theorem w_vret {post : St → Prop} (S : CallFix p m c cc nL s args BG own) (hr : meth.sig.returnType = none) (hlk : meth.locks = false) (w : Wd D ca ad (wA ad n s.heap.size) s H locs τ) (hp : post τ) (hdg : decode cc pc = .ok (.return_, 1)) (h1 : cells ≤ mc) (h2 : slots ≤ ms) :
    W p l e R s m args below meth c H locs cells slots (MQ below (Qv D ca ad n post s.heap.size) args s mc ms (wA ad n s.heap.size)) (F0 m pc ls []) := by
  refine W.widen h1 h2 ?_
  exact W.vret S.1 S.2.1 hr (fun t ht hW => ⟨⟨τ, rfl, hp, by rw [ht]; exact w.1, va_K.moved hW.alike w.2.2.1, w.2.1⟩, w.2.2.2.F ht⟩) w.2.2.2.2.2 hdg
theorem va_rf_is (r : Option Nat) : va_rf r = .null ∨ ∃ a, va_rf r = .ref a := by
  cases r with
  | none => exact Or.inl rfl
  | some a => exact Or.inr ⟨a, rfl⟩
theorem w_aret {post : Option Nat → St → Prop} {r : Option Nat} {C : String} (S : CallFix p m c cc nL s args BG own) (hr : meth.sig.returnType = some (.object C)) (hlk : meth.locks = false) (w : Wd D ca ad (wA ad n s.heap.size) s H locs τ) (hp : post r τ) (hdg : decode cc pc = .ok (.areturn, 1)) (h1 : cells ≤ mc) (h2 : slots ≤ ms) :
    W p l e R s m args below meth c H locs cells slots (MQ below (Qr D ca ad n post s.heap.size) args s mc ms (wA ad n s.heap.size)) (F0 m pc ls [va_rf r]) := by
  refine W.widen h1 h2 ?_
  exact W.aret S.1 S.2.1 hr (Or.inl ⟨C, rfl⟩) (va_rf_is r) (fun t ht hW => ⟨⟨r, τ, rfl, hp, by rw [ht]; exact w.1, va_K.moved hW.alike w.2.2.1, w.2.1⟩, w.2.2.2.F ht⟩) w.2.2.2.2.2 hdg
theorem n_iret {v : Int32} {u : Int32} {ty : FieldType} {free : Addr → Prop} (S : CallFix p m c cc nL s args BG own) (hr : meth.sig.returnType = some ty) (hlk : meth.locks = false) (hS : va_S (fun _ => False) s.heap H locs) (hp : v = u) (hdg : decode cc pc = .ok (.ireturn, 1)) (hn : narrow ty (.int v) = .int v) (h1 : cells ≤ mc) (h2 : slots ≤ ms) :
    W p l e R s m args below meth c H locs cells slots (MQ below (Qn u) args s mc ms free) (F0 m pc ls [.int v]) := by
  refine W.widen h1 h2 ?_
  exact W.zret S.1 S.2.1 hr hn (fun t ht hW => ⟨⟨v, (), rfl, hp, trivial⟩, hS.F ht⟩) (fun q h => (hS.2.2 q h).elim) hdg
end Ends
/-! ===== calls ===== -/
section CallRows
variable {p : Program} {l : Launch} {e : Env} {R : Room} {s : State} {m : MethodId} {args : Array Value} {below : List Frame} {meth : Method} {c : Code} {H : Heap} {locs : List Loc} {cells slots : Nat} {Q : State → Prop}
variable {cc bytes : ByteArray} {pc nL maxL index : Nat} {ls : Array Slot} {rest st0 As : List Value} {own : String} {D : va_G} {ca : Nat → ClassId} {ad : Nat → Nat} {A : Nat → Prop} {σ : St} {mc ms : Nat} {y : MethodName} {ret : Option FieldType} {rm : Room} {Qc : Nat → Array Value → State → Outcome → State → Prop} {XC : Nat → String → State → State → Prop}
/-- what a callee is called with, if it is an instance's method: the object o of the kind ci -/
theorem w_recv (w : Wd D ca ad A s H locs σ) {o ci : Nat} {fs : List Value} {q : vw_C} (ho : o < 17 + sN σ) (hcell : wC ca ad σ o = .inr (ci, fs)) (hc : vwCl[ci]? = some q) : ∃ cell : Cell, H[ad o]? = some cell ∧ cell.vm.isStatics = false ∧ s.vm.findClass q.1 = some cell.cls :=
  va_recv w.2.2.1 w.1 hc (q0 := o) (by rw [wl_at ho, hcell])
theorem w_runV {n o ci N : Nat} {fs : List Value} {C : String} {T : u_T} (S : CallFix p m c cc nL s args BG own) (cn : Cn A s) (w : Wd D ca ad A s H locs σ) (ho : o < 17 + sN σ) (hcell : wC ca ad σ o = .inr (ci, fs)) (hc : vwCl[ci]? = some (C, T, N))
    (hM : ∀ sz, Met l y (.code y bytes maxL ret :: BG) rm (Pw D ca ad σ sz (.ref (ad o) :: As)) (Qc sz) mc ms (wA ad (sN σ) sz)) (hT : GoodIn BG (wsV own index C y (.code y bytes maxL ret :: BG))) (hrc : rm.cells = mc) (hrs : rm.slots = ms)
    (hd : y.cls = C ∧ y.cls ≠ "java/lang/invoke/MethodHandle" ∧ y.cls ≠ "java/lang/invoke/VarHandle" ∧ (parseMethodDescriptor y.desc).map (fun d => d.parameters.length) = some n) (hR : rm.frames + 1 ≤ R.frames ∧ 8 + (maxL + 11) + rm.locals ≤ R.locals) (hn : As.length = n) (hsz : ls.size = nL)
    (hst : st0 = As.reverse ++ .ref (ad o) :: rest) (hW : (rest.map fun v => v.category).sum ≤ 8) (hdg : decode cc pc = .ok (.invokevirtual index, 3)) (hf : cells + mc ≤ R.cells ∧ slots + ms ≤ R.slots) :
    va_Run p l e R s m args below meth c H locs cells slots mc ms (F0 m pc ls st0) rest (Qc H.size (.ref (ad o) :: As).toArray) (wA ad (sN σ) H.size) :=
  va_runV (As := As) (rest := rest) S (hM H.size) (cwV n S.2.2.2.2 hT rfl hrc hrs hd hR) ⟨Pw.blind, w_recv w ho hcell hc, fun U hU hW => ⟨rfl, w_pre cn w U hU hW⟩⟩ rfl hn hsz hst (lv_room hW) hdg hf
theorem w_runVN {n o ci N : Nat} {fs : List Value} {C host : String} {T : u_T} (S : CallFix p m c cc nL s args BG own) (cn : Cn A s) (w : Wd D ca ad A s H locs σ) (ho : o < 17 + sN σ) (hcell : wC ca ad σ o = .inr (ci, fs)) (hc : vwCl[ci]? = some (C, T, N))
    (hM : ∀ sz, Met l y (.code y bytes maxL ret :: BG) rm (Pw D ca ad σ sz (.ref (ad o) :: As)) (Qc sz) mc ms (wA ad (sN σ) sz)) (h1 : Cond.methodLinkNest own index y host ∈ EW) (h2 : Cond.instanceMethod y ∈ BG) (h3 : Cond.selects C y y ∈ BG) (h4 : Cond.initialized y.cls ∈ BG) (h5 : Cond.code y bytes maxL ret ∈ BG) (hrc : rm.cells = mc) (hrs : rm.slots = ms)
    (hd : y.cls = C ∧ y.cls ≠ "java/lang/invoke/MethodHandle" ∧ y.cls ≠ "java/lang/invoke/VarHandle" ∧ (parseMethodDescriptor y.desc).map (fun d => d.parameters.length) = some n) (hR : rm.frames + 1 ≤ R.frames ∧ 8 + (maxL + 11) + rm.locals ≤ R.locals) (hn : As.length = n) (hsz : ls.size = nL)
    (hst : st0 = As.reverse ++ .ref (ad o) :: rest) (hW : (rest.map fun v => v.category).sum ≤ 8) (hdg : decode cc pc = .ok (.invokevirtual index, 3)) (hf : cells + mc ≤ R.cells ∧ slots + ms ≤ R.slots) :
    va_Run p l e R s m args below meth c H locs cells slots mc ms (F0 m pc ls st0) rest (Qc H.size (.ref (ad o) :: As).toArray) (wA ad (sN σ) H.size) :=
  va_runVN (As := As) (rest := rest) S (hM H.size) ⟨va_cnB n S.2.2.2.2 (bg_c h5) rfl hrc hrs (cn.2.1.1 _ h1) (S.2.2.2.2 _ h4) hd.2 hR, S.2.2.2.2 _ h2, S.2.2.2.2 _ h3⟩ ⟨Pw.blind, w_recv w ho hcell hc, fun U hU hW => ⟨rfl, w_pre cn w U hU hW⟩⟩ rfl hn hsz hst (lv_room hW) hdg hf
theorem w_runS {n : Nat} (S : CallFix p m c cc nL s args BG own) (cn : Cn A s) (w : Wd D ca ad A s H locs σ)
    (hM : ∀ sz, Met l y (.code y bytes maxL ret :: BG) rm (Pw D ca ad σ sz As) (Qc sz) mc ms (wA ad (sN σ) sz)) (hT : GoodIn BG (wsS own index y (.code y bytes maxL ret :: BG))) (hrc : rm.cells = mc) (hrs : rm.slots = ms)
    (hd : y.cls = own ∧ y.cls ≠ "java/lang/invoke/MethodHandle" ∧ y.cls ≠ "java/lang/invoke/VarHandle" ∧ (parseMethodDescriptor y.desc).map (fun d => d.parameters.length) = some n) (hR : rm.frames + 1 ≤ R.frames ∧ 8 + (maxL + 11) + rm.locals ≤ R.locals) (hn : As.length = n) (hsz : ls.size = nL)
    (hst : st0 = As.reverse ++ rest) (hW : (rest.map fun v => v.category).sum ≤ 8) (hdg : decode cc pc = .ok (.invokestatic index, 3)) (hf : cells + mc ≤ R.cells ∧ slots + ms ≤ R.slots) :
    va_Run p l e R s m args below meth c H locs cells slots mc ms (F0 m pc ls st0) rest (Qc H.size As.toArray) (wA ad (sN σ) H.size) :=
  va_runS (As := As) (rest := rest) S (hM H.size) (cwS n S.2.2.2.2 hT rfl hrc hrs hd hR) ⟨Pw.blind, fun U hU hW => ⟨rfl, w_pre cn w U hU hW⟩⟩ rfl hn hsz hst (lv_room hW) hdg hf
theorem w_runSN {n : Nat} {host : String} (S : CallFix p m c cc nL s args BG own) (cn : Cn A s) (w : Wd D ca ad A s H locs σ)
    (hM : ∀ sz, Met l y (.code y bytes maxL ret :: BG) rm (Pw D ca ad σ sz As) (Qc sz) mc ms (wA ad (sN σ) sz)) (h1 : Cond.methodLinkNest own index y host ∈ EW) (h2 : Cond.static y ∈ BG) (h4 : Cond.initialized y.cls ∈ BG) (h5 : Cond.code y bytes maxL ret ∈ BG) (hrc : rm.cells = mc) (hrs : rm.slots = ms)
    (hd : y.cls ≠ "java/lang/invoke/MethodHandle" ∧ y.cls ≠ "java/lang/invoke/VarHandle" ∧ (parseMethodDescriptor y.desc).map (fun d => d.parameters.length) = some n) (hR : rm.frames + 1 ≤ R.frames ∧ 8 + (maxL + 11) + rm.locals ≤ R.locals) (hn : As.length = n) (hsz : ls.size = nL)
    (hst : st0 = As.reverse ++ rest) (hW : (rest.map fun v => v.category).sum ≤ 8) (hdg : decode cc pc = .ok (.invokestatic index, 3)) (hf : cells + mc ≤ R.cells ∧ slots + ms ≤ R.slots) :
    va_Run p l e R s m args below meth c H locs cells slots mc ms (F0 m pc ls st0) rest (Qc H.size As.toArray) (wA ad (sN σ) H.size) :=
  va_runSN (As := As) (rest := rest) S (hM H.size) ⟨va_cnB n S.2.2.2.2 (bg_c h5) rfl hrc hrs (cn.2.1.1 _ h1) (S.2.2.2.2 _ h4) hd hR, S.2.2.2.2 _ h2, trivial⟩ ⟨Pw.blind, fun U hU hW => ⟨rfl, w_pre cn w U hU hW⟩⟩ rfl hn hsz hst (lv_room hW) hdg hf
/-- a static method of numbers alone, of the own class -/
theorem n_runS {n : Nat} {v : Int32} (S : CallFix p m c cc nL s args BG own)
    (hM : Met l y (.code y bytes maxL ret :: BG) rm (va_Pc As (fun _ => True)) (Qn v) 0 0 (fun _ => False)) (hT : GoodIn BG (wsS own index y (.code y bytes maxL ret :: BG))) (hrc : rm.cells = 0) (hrs : rm.slots = 0)
    (hd : y.cls = own ∧ y.cls ≠ "java/lang/invoke/MethodHandle" ∧ y.cls ≠ "java/lang/invoke/VarHandle" ∧ (parseMethodDescriptor y.desc).map (fun d => d.parameters.length) = some n) (hR : rm.frames + 1 ≤ R.frames ∧ 8 + (maxL + 11) + rm.locals ≤ R.locals) (hn : As.length = n) (hsz : ls.size = nL)
    (hst : st0 = As.reverse ++ rest) (hW : (rest.map fun v => v.category).sum ≤ 8) (hdg : decode cc pc = .ok (.invokestatic index, 3)) (hf : cells ≤ R.cells ∧ slots ≤ R.slots) :
    va_Run p l e R s m args below meth c H locs cells slots 0 0 (F0 m pc ls st0) rest (Qn v As.toArray) (fun _ => False) :=
  va_runS (As := As) (rest := rest) S hM (cwS n S.2.2.2.2 hT rfl hrc hrs hd hR) ⟨Pn.blind, fun U hU hW => ⟨rfl, trivial⟩⟩ rfl hn hsz hst (lv_room hW) hdg hf
/-- the same, of another class of the library (linked by no nest) -/
theorem n_runL {n : Nat} {v : Int32} (S : CallFix p m c cc nL s args BG own)
    (hM : Met l y (.code y bytes maxL ret :: BG) rm (va_Pc As (fun _ => True)) (Qn v) 0 0 (fun _ => False)) (h1 : Cond.methodLink own index y ∈ BG) (h2 : Cond.static y ∈ BG) (h4 : Cond.initialized y.cls ∈ BG) (h5 : Cond.code y bytes maxL ret ∈ BG) (hrc : rm.cells = 0) (hrs : rm.slots = 0)
    (hd : y.cls ≠ "java/lang/invoke/MethodHandle" ∧ y.cls ≠ "java/lang/invoke/VarHandle" ∧ (parseMethodDescriptor y.desc).map (fun d => d.parameters.length) = some n) (hR : rm.frames + 1 ≤ R.frames ∧ 8 + (maxL + 11) + rm.locals ≤ R.locals) (hn : As.length = n) (hsz : ls.size = nL)
    (hst : st0 = As.reverse ++ rest) (hW : (rest.map fun v => v.category).sum ≤ 8) (hdg : decode cc pc = .ok (.invokestatic index, 3)) (hf : cells ≤ R.cells ∧ slots ≤ R.slots) :
    va_Run p l e R s m args below meth c H locs cells slots 0 0 (F0 m pc ls st0) rest (Qn v As.toArray) (fun _ => False) :=
  va_runS (As := As) (rest := rest) S hM ⟨⟨hrc, hrs, hR.1, hR.2, fun w hw a' U hW => word_at hW (bg_c h5 w hw).2 (S.2.2.2.2 _ (bg_c h5 w hw).1), List.mem_cons_self, S.2.2.2.2 _ h5, S.2.2.2.2 _ h4, ⟨hd.1, hd.2.1⟩, fun sig h => by have h2 := hd.2.2; rw [h] at h2; exact (Option.some.inj h2).symm, S.2.2.2.2 _ h1⟩, S.2.2.2.2 _ h2⟩ ⟨Pn.blind, fun U hU hW => ⟨rfl, trivial⟩⟩ rfl hn hsz hst (lv_room hW) hdg hf
/-- a static method of numbers alone, of a nest mate -/
theorem n_runN {n : Nat} {v : Int32} {host : String} (S : CallFix p m c cc nL s args BG own) (cn : Cn A s)
    (hM : Met l y (.code y bytes maxL ret :: BG) rm (va_Pc As (fun _ => True)) (Qn v) 0 0 (fun _ => False)) (h1 : Cond.methodLinkNest own index y host ∈ EW) (h2 : Cond.static y ∈ BG) (h4 : Cond.initialized y.cls ∈ BG) (h5 : Cond.code y bytes maxL ret ∈ BG) (hrc : rm.cells = 0) (hrs : rm.slots = 0)
    (hd : y.cls ≠ "java/lang/invoke/MethodHandle" ∧ y.cls ≠ "java/lang/invoke/VarHandle" ∧ (parseMethodDescriptor y.desc).map (fun d => d.parameters.length) = some n) (hR : rm.frames + 1 ≤ R.frames ∧ 8 + (maxL + 11) + rm.locals ≤ R.locals) (hn : As.length = n) (hsz : ls.size = nL)
    (hst : st0 = As.reverse ++ rest) (hW : (rest.map fun v => v.category).sum ≤ 8) (hdg : decode cc pc = .ok (.invokestatic index, 3)) (hf : cells ≤ R.cells ∧ slots ≤ R.slots) :
    va_Run p l e R s m args below meth c H locs cells slots 0 0 (F0 m pc ls st0) rest (Qn v As.toArray) (fun _ => False) :=
  va_runSN (As := As) (rest := rest) S hM ⟨va_cnB n S.2.2.2.2 (bg_c h5) rfl hrc hrs (cn.2.1.1 _ h1) (S.2.2.2.2 _ h4) hd hR, S.2.2.2.2 _ h2, trivial⟩ ⟨Pn.blind, fun U hU hW => ⟨rfl, trivial⟩⟩ rfl hn hsz hst (lv_room hW) hdg hf
theorem w_same {H1 : Heap} {locs1 : List Loc} (w : Wd D ca ad A s H locs σ) (hq : ∀ q : Nat, q < H.size → ¬ False → H1[q]? = H[q]?) (hS : va_S A s.heap H1 locs1) : Wd D ca ad A s H1 locs1 σ :=
  ⟨w.1.kept (fun k q hk => hq _ (w.1 k q hk).lt (fun h => h)), w.2.1, w.2.2.1, hS⟩
theorem n_calli {a : Array Value} {v : Int32} (w : Wd D ca ad A s H locs σ) (hr : va_Run p l e R s m args below meth c H locs cells slots 0 0 (F0 m pc ls st0) rest (Qn v a) (fun _ => False))
    (kk : ∀ (H1 : Heap) (locs1 : List Loc), Wd D ca ad A s H1 locs1 σ → W p l e R s m args below meth c H1 locs1 cells slots Q (F0 m (pc + 3) ls (.int v :: rest))) : W p l e R s m args below meth c H locs cells slots Q (F0 m pc ls st0) :=
  va_calli hr w.2.2.2 (fun q _ h => h.elim) (fun q h => h.elim) (fun r u t H1 locs1 ht hvm hp hB hz hk hS => by
    subst hp
    exact kk H1 locs1 (w_same w hk hS))
/-- the same where there is no world yet -/
theorem n_calli0 {a : Array Value} {v : Int32} (hS0 : va_S A s.heap H locs) (hr : va_Run p l e R s m args below meth c H locs cells slots 0 0 (F0 m pc ls st0) rest (Qn v a) (fun _ => False))
    (kk : ∀ (H1 : Heap) (locs1 : List Loc), va_S A s.heap H1 locs1 → W p l e R s m args below meth c H1 locs1 cells slots Q (F0 m (pc + 3) ls (.int v :: rest))) : W p l e R s m args below meth c H locs cells slots Q (F0 m pc ls st0) :=
  va_calli hr hS0 (fun q _ h => h.elim) (fun q h => h.elim) (fun r u t H1 locs1 ht hvm hp hB hz hk hS => by
    subst hp
    exact kk H1 locs1 hS)
theorem w_back {t : State} {H1 : Heap} {locs1 : List Loc} {u : St} (cn : Cn A s) (w : Wd D ca ad A s H locs σ) (ht : t.heap = H1) (hvm : s.vm.Alike t.vm) (hB : WQ D ca ad (wA ad (sN σ) H.size) u t) (hS : va_S A s.heap H1 locs1) : Wd D ca ad A s H1 locs1 u :=
  ⟨by rw [← ht]; exact hB.1, hB.2.2.weaken (fun _ _ _ h => w_sub cn w _ h), va_K.moved hvm.symm hB.2.1, hS⟩
theorem w_calli {a : Array Value} {post : Int32 → St → Prop} (cn : Cn A s) (w : Wd D ca ad A s H locs σ) (hr : va_Run p l e R s m args below meth c H locs cells slots mc ms (F0 m pc ls st0) rest (Qi D ca ad (sN σ) post H.size a) (wA ad (sN σ) H.size))
    (kk : ∀ (r : Int32) (u : St) (H1 : Heap) (locs1 : List Loc), post r u → Wd D ca ad A s H1 locs1 u → W p l e R s m args below meth c H1 locs1 (cells + mc) (slots + ms) Q (F0 m (pc + 3) ls (.int r :: rest))) : W p l e R s m args below meth c H locs cells slots Q (F0 m pc ls st0) :=
  va_calli hr w.2.2.2 (fun q _ h => w_sub cn w q h) (w_sub cn w) (fun r u t H1 locs1 ht hvm hp hB hz hk hS => kk r u H1 locs1 hp (w_back cn w ht hvm hB hS))
theorem w_calll {a : Array Value} {post : Int64 → St → Prop} (cn : Cn A s) (w : Wd D ca ad A s H locs σ) (hr : va_Run p l e R s m args below meth c H locs cells slots mc ms (F0 m pc ls st0) rest (Ql D ca ad (sN σ) post H.size a) (wA ad (sN σ) H.size))
    (kk : ∀ (r : Int64) (u : St) (H1 : Heap) (locs1 : List Loc), post r u → Wd D ca ad A s H1 locs1 u → W p l e R s m args below meth c H1 locs1 (cells + mc) (slots + ms) Q (F0 m (pc + 3) ls (.long r :: rest))) : W p l e R s m args below meth c H locs cells slots Q (F0 m pc ls st0) :=
  va_calll hr w.2.2.2 (fun q _ h => w_sub cn w q h) (w_sub cn w) (fun r u t H1 locs1 ht hvm hp hB hz hk hS => kk r u H1 locs1 hp (w_back cn w ht hvm hB hS))
theorem w_callv {a : Array Value} {post : St → Prop} (cn : Cn A s) (w : Wd D ca ad A s H locs σ) (hr : va_Run p l e R s m args below meth c H locs cells slots mc ms (F0 m pc ls st0) rest (Qv D ca ad (sN σ) post H.size a) (wA ad (sN σ) H.size))
    (kk : ∀ (u : St) (H1 : Heap) (locs1 : List Loc), post u → Wd D ca ad A s H1 locs1 u → W p l e R s m args below meth c H1 locs1 (cells + mc) (slots + ms) Q (F0 m (pc + 3) ls rest)) : W p l e R s m args below meth c H locs cells slots Q (F0 m pc ls st0) :=
  va_callv hr w.2.2.2 (fun q _ h => w_sub cn w q h) (w_sub cn w) (fun u t H1 locs1 ht hvm hp hB hz hk hS => kk u H1 locs1 hp (w_back cn w ht hvm hB hS))
theorem w_callr {a : Array Value} {post : Option Nat → St → Prop} (cn : Cn A s) (w : Wd D ca ad A s H locs σ) (hr : va_Run p l e R s m args below meth c H locs cells slots mc ms (F0 m pc ls st0) rest (Qr D ca ad (sN σ) post H.size a) (wA ad (sN σ) H.size))
    (kk : ∀ (r : Option Nat) (u : St) (H1 : Heap) (locs1 : List Loc), post r u → Wd D ca ad A s H1 locs1 u → W p l e R s m args below meth c H1 locs1 (cells + mc) (slots + ms) Q (F0 m (pc + 3) ls (va_rf r :: rest))) : W p l e R s m args below meth c H locs cells slots Q (F0 m pc ls st0) :=
  va_callq hr w.2.2.2 (fun q _ h => w_sub cn w q h) (w_sub cn w) (fun r u t H1 locs1 ht hvm hp hB hz hk hS => kk r u H1 locs1 hp (w_back cn w ht hvm hB hS))
end CallRows
end
section
/-! ===== a row a kind of object ===== -/
theorem lt17 {o n : Nat} (h : o < 17) : o < 17 + n := by omega
theorem cJob_set {ad : Nat → Nat} {F : Fm} {sh o k : Nat} {v : Int32} (hk : k < 15 ∧ k ≠ 2) : (cJob ad F sh o).set k (.int v) = cJob ad (up2 F o k v) sh o := by
  rcases (show k = 0 ∨ k = 1 ∨ k = 3 ∨ k = 4 ∨ k = 5 ∨ k = 6 ∨ k = 7 ∨ k = 8 ∨ k = 9 ∨ k = 10 ∨ k = 11 ∨ k = 12 ∨ k = 13 ∨ k = 14 by omega) with rfl | rfl | rfl | rfl | rfl | rfl | rfl | rfl | rfl | rfl | rfl | rfl | rfl | rfl <;> simp [cJob, up2]
theorem cPrs_set {ad : Nat → Nat} {F : Fm} {o k : Nat} {v : Int32} (hk : k < 7 ∧ k ≠ 5) : (cPrs ad F o).set k (.int v) = cPrs ad (up2 F o k v) o := by
  rcases (show k = 0 ∨ k = 1 ∨ k = 2 ∨ k = 3 ∨ k = 4 ∨ k = 6 by omega) with rfl | rfl | rfl | rfl | rfl | rfl <;> simp [cPrs, up2]
theorem cPap_set {F : Fm} {o k : Nat} {v : Int32} (hk : k < 4) : (cPap F o).set k (.int v) = cPap (up2 F o k v) o := by
  rcases (show k = 0 ∨ k = 1 ∨ k = 2 ∨ k = 3 by omega) with rfl | rfl | rfl | rfl <;> simp [cPap, up2]
theorem cLed_set {ad : Nat → Nat} {F : Fm} {k : Nat} {v : Int32} (hk : 3 ≤ k ∧ k < 9) : (cLed ad F).set k (.int v) = cLed ad (up2 F 0 k v) := by
  rcases (show k = 3 ∨ k = 4 ∨ k = 5 ∨ k = 6 ∨ k = 7 ∨ k = 8 by omega) with rfl | rfl | rfl | rfl | rfl | rfl <;> simp [cLed, up2]
theorem cExp_set {E : Em} {k : Nat} {v : Int32} (hk : k < 7) : (cExp E).set k (.int v) = cExp (up1 E k v) := by
  rcases (show k = 0 ∨ k = 1 ∨ k = 2 ∨ k = 3 ∨ k = 4 ∨ k = 5 ∨ k = 6 by omega) with rfl | rfl | rfl | rfl | rfl | rfl | rfl <;> simp [cExp, up1]
section FieldRows
variable {p : Program} {l : Launch} {e : Env} {R : Room} {s : State} {m : MethodId} {args : Array Value} {below : List Frame} {meth : Method} {c : Code} {H : Heap} {locs : List Loc} {cells slots : Nat} {Q : State → Prop}
variable {cc : ByteArray} {pc nL index : Nat} {ls : Array Slot} {rest : List Value} {own host : String} {D : va_G} {ca : Nat → ClassId} {ad : Nat → Nat} {A : Nat → Prop} {E : Em} {F : Fm} {L : Lm} {S : Sm} {n : Nat}
theorem g_J (X : CallFix p m c cc nL s args BG own) (w : Wd D ca ad A s H locs (E, F, L, S, n)) {j : Nat} (hj : j < n) (k : Nat) (hk : k < 15) {v : Value} (hv : (cJob ad F (S j) (17 + j))[k]? = some v) (hlink : Cond.fieldLink own index RX1 (TX1 k).2.1 (TX1 k).2.2.1 ∈ BG) (hdg : decode cc pc = .ok (.getfield index, 3))
    (kk : W p l e R s m args below meth c H locs cells slots Q (F0 m (pc + 3) ls (v :: rest))) : W p l e R s m args below meth c H locs cells slots Q (F0 m pc ls (.ref (ad (17 + j)) :: rest)) :=
  w_get X w (Nat.add_lt_add_left hj 17) wC_J rfl in_X1 k hk (de_X1 k hk) hv hlink hdg kk
theorem gn_J (X : CallFix p m c cc nL s args BG own) (cn : Cn A s) (w : Wd D ca ad A s H locs (E, F, L, S, n)) {j : Nat} (hj : j < n) (k : Nat) (hk : k < 15) {v : Value} (hv : (cJob ad F (S j) (17 + j))[k]? = some v) (hlink : Cond.fieldLinkNest own index RX1 (TX1 k).2.1 (TX1 k).2.2.1 host ∈ EW) (hdg : decode cc pc = .ok (.getfield index, 3))
    (kk : W p l e R s m args below meth c H locs cells slots Q (F0 m (pc + 3) ls (v :: rest))) : W p l e R s m args below meth c H locs cells slots Q (F0 m pc ls (.ref (ad (17 + j)) :: rest)) :=
  w_getN X cn w (Nat.add_lt_add_left hj 17) wC_J rfl in_X1 k hk (de_X1 k hk) hv hlink hdg kk
theorem g_R (X : CallFix p m c cc nL s args BG own) (w : Wd D ca ad A s H locs (E, F, L, S, n)) {o : Nat} (ho : 6 ≤ o ∧ o < 10) (k : Nat) (hk : k < 7) {v : Value} (hv : (cPrs ad F o)[k]? = some v) (hlink : Cond.fieldLink own index RX3 (TX3 k).2.1 (TX3 k).2.2.1 ∈ BG) (hdg : decode cc pc = .ok (.getfield index, 3))
    (kk : W p l e R s m args below meth c H locs cells slots Q (F0 m (pc + 3) ls (v :: rest))) : W p l e R s m args below meth c H locs cells slots Q (F0 m pc ls (.ref (ad o) :: rest)) :=
  w_get X w (lt17 (by omega)) (wC_R ho.1 ho.2) rfl in_X3 k hk (de_X3 k hk) hv hlink hdg kk
theorem gn_R (X : CallFix p m c cc nL s args BG own) (cn : Cn A s) (w : Wd D ca ad A s H locs (E, F, L, S, n)) {o : Nat} (ho : 6 ≤ o ∧ o < 10) (k : Nat) (hk : k < 7) {v : Value} (hv : (cPrs ad F o)[k]? = some v) (hlink : Cond.fieldLinkNest own index RX3 (TX3 k).2.1 (TX3 k).2.2.1 host ∈ EW) (hdg : decode cc pc = .ok (.getfield index, 3))
    (kk : W p l e R s m args below meth c H locs cells slots Q (F0 m (pc + 3) ls (v :: rest))) : W p l e R s m args below meth c H locs cells slots Q (F0 m pc ls (.ref (ad o) :: rest)) :=
  w_getN X cn w (lt17 (by omega)) (wC_R ho.1 ho.2) rfl in_X3 k hk (de_X3 k hk) hv hlink hdg kk
theorem g_P (X : CallFix p m c cc nL s args BG own) (w : Wd D ca ad A s H locs (E, F, L, S, n)) {o : Nat} (ho : 2 ≤ o ∧ o < 6) (k : Nat) (hk : k < 4) {v : Value} (hv : (cPap F o)[k]? = some v) (hlink : Cond.fieldLink own index RX2 (TX2 k).2.1 (TX2 k).2.2.1 ∈ BG) (hdg : decode cc pc = .ok (.getfield index, 3))
    (kk : W p l e R s m args below meth c H locs cells slots Q (F0 m (pc + 3) ls (v :: rest))) : W p l e R s m args below meth c H locs cells slots Q (F0 m pc ls (.ref (ad o) :: rest)) :=
  w_get X w (lt17 (by omega)) (wC_P ho.1 ho.2) rfl in_X2 k hk (de_X2 k hk) hv hlink hdg kk
theorem gn_P (X : CallFix p m c cc nL s args BG own) (cn : Cn A s) (w : Wd D ca ad A s H locs (E, F, L, S, n)) {o : Nat} (ho : 2 ≤ o ∧ o < 6) (k : Nat) (hk : k < 4) {v : Value} (hv : (cPap F o)[k]? = some v) (hlink : Cond.fieldLinkNest own index RX2 (TX2 k).2.1 (TX2 k).2.2.1 host ∈ EW) (hdg : decode cc pc = .ok (.getfield index, 3))
    (kk : W p l e R s m args below meth c H locs cells slots Q (F0 m (pc + 3) ls (v :: rest))) : W p l e R s m args below meth c H locs cells slots Q (F0 m pc ls (.ref (ad o) :: rest)) :=
  w_getN X cn w (lt17 (by omega)) (wC_P ho.1 ho.2) rfl in_X2 k hk (de_X2 k hk) hv hlink hdg kk
theorem g_L (X : CallFix p m c cc nL s args BG own) (w : Wd D ca ad A s H locs (E, F, L, S, n)) (k : Nat) (hk : k < 11) {v : Value} (hv : (cLed ad F)[k]? = some v) (hlink : Cond.fieldLink own index RX4 (TX4 k).2.1 (TX4 k).2.2.1 ∈ BG) (hdg : decode cc pc = .ok (.getfield index, 3))
    (kk : W p l e R s m args below meth c H locs cells slots Q (F0 m (pc + 3) ls (v :: rest))) : W p l e R s m args below meth c H locs cells slots Q (F0 m pc ls (.ref (ad 0) :: rest)) :=
  w_get X w (lt17 (by omega)) wC_0 rfl in_X4 k hk (de_X4 k hk) hv hlink hdg kk
theorem gn_E (X : CallFix p m c cc nL s args BG own) (cn : Cn A s) (w : Wd D ca ad A s H locs (E, F, L, S, n)) (k : Nat) (hk : k < 7) {v : Value} (hv : (cExp E)[k]? = some v) (hlink : Cond.fieldLinkNest own index RX0 (TX0 k).2.1 (TX0 k).2.2.1 host ∈ EW) (hdg : decode cc pc = .ok (.getfield index, 3))
    (kk : W p l e R s m args below meth c H locs cells slots Q (F0 m (pc + 3) ls (v :: rest))) : W p l e R s m args below meth c H locs cells slots Q (F0 m pc ls (.ref (ad 1) :: rest)) :=
  w_getN X cn w (lt17 (by omega)) wC_1 rfl in_X0 k hk (de_X0 k hk) hv hlink hdg kk
theorem p_J (X : CallFix p m c cc nL s args BG own) (w : Wd D ca ad A s H locs (E, F, L, S, n)) {j : Nat} (hj : j < n) (k : Nat) (hk : k < 15 ∧ k ≠ 2) (hfin : (TX1 k).2.2.2 = false) {ty : FieldType} (hpt : parseFieldDescriptor (TX1 k).2.2.1 = some ty) {v : Int32} (hn : narrow ty (.int v) = .int v) (hfit : fits ty (.int v) = true) (hlink : Cond.fieldLink own index RX1 (TX1 k).2.1 (TX1 k).2.2.1 ∈ BG) (hdg : decode cc pc = .ok (.putfield index, 3))
    (kk : ∀ (H1 : Heap) (locs1 : List Loc), Wd D ca ad A s H1 locs1 (E, up2 F (17 + j) k v, L, S, n) → W p l e R s m args below meth c H1 locs1 cells slots Q (F0 m (pc + 3) ls rest)) : W p l e R s m args below meth c H locs cells slots Q (F0 m pc ls (.int v :: .ref (ad (17 + j)) :: rest)) :=
  w_put X w _ (Nat.add_lt_add_left hj 17) wC_J rfl in_X1 tyX1 tyX1_ok nmX1 k hk.1 (de_X1 k hk.1) (wl_F (by rw [wC_J, cJob_set hk])) hfin hpt hn hfit (by simp only [cJob, List.length_cons, List.length_nil]; omega) hlink hdg kk
theorem pn_J (X : CallFix p m c cc nL s args BG own) (cn : Cn A s) (w : Wd D ca ad A s H locs (E, F, L, S, n)) {j : Nat} (hj : j < n) (k : Nat) (hk : k < 15 ∧ k ≠ 2) (hfin : (TX1 k).2.2.2 = false) {ty : FieldType} (hpt : parseFieldDescriptor (TX1 k).2.2.1 = some ty) {v : Int32} (hn : narrow ty (.int v) = .int v) (hfit : fits ty (.int v) = true) (hlink : Cond.fieldLinkNest own index RX1 (TX1 k).2.1 (TX1 k).2.2.1 host ∈ EW) (hdg : decode cc pc = .ok (.putfield index, 3))
    (kk : ∀ (H1 : Heap) (locs1 : List Loc), Wd D ca ad A s H1 locs1 (E, up2 F (17 + j) k v, L, S, n) → W p l e R s m args below meth c H1 locs1 cells slots Q (F0 m (pc + 3) ls rest)) : W p l e R s m args below meth c H locs cells slots Q (F0 m pc ls (.int v :: .ref (ad (17 + j)) :: rest)) :=
  w_putN X cn w _ (Nat.add_lt_add_left hj 17) wC_J rfl in_X1 tyX1 tyX1_ok nmX1 k hk.1 (de_X1 k hk.1) (wl_F (by rw [wC_J, cJob_set hk])) hfin hpt hn hfit (by simp only [cJob, List.length_cons, List.length_nil]; omega) hlink hdg kk
theorem p_R (X : CallFix p m c cc nL s args BG own) (w : Wd D ca ad A s H locs (E, F, L, S, n)) {o : Nat} (ho : 6 ≤ o ∧ o < 10) (k : Nat) (hk : k < 7 ∧ k ≠ 5) (hfin : (TX3 k).2.2.2 = false) (hpt : parseFieldDescriptor (TX3 k).2.2.1 = some .int) {v : Int32} (hlink : Cond.fieldLink own index RX3 (TX3 k).2.1 (TX3 k).2.2.1 ∈ BG) (hdg : decode cc pc = .ok (.putfield index, 3))
    (kk : ∀ (H1 : Heap) (locs1 : List Loc), Wd D ca ad A s H1 locs1 (E, up2 F o k v, L, S, n) → W p l e R s m args below meth c H1 locs1 cells slots Q (F0 m (pc + 3) ls rest)) : W p l e R s m args below meth c H locs cells slots Q (F0 m pc ls (.int v :: .ref (ad o) :: rest)) :=
  w_put X w _ (lt17 (by omega)) (wC_R ho.1 ho.2) rfl in_X3 tyX3 tyX3_ok nmX3 k hk.1 (de_X3 k hk.1) (wl_F (by rw [wC_R ho.1 ho.2, cPrs_set hk])) hfin hpt rfl rfl (by simp only [cPrs, List.length_cons, List.length_nil]; omega) hlink hdg kk
theorem pn_R (X : CallFix p m c cc nL s args BG own) (cn : Cn A s) (w : Wd D ca ad A s H locs (E, F, L, S, n)) {o : Nat} (ho : 6 ≤ o ∧ o < 10) (k : Nat) (hk : k < 7 ∧ k ≠ 5) (hfin : (TX3 k).2.2.2 = false) (hpt : parseFieldDescriptor (TX3 k).2.2.1 = some .int) {v : Int32} (hlink : Cond.fieldLinkNest own index RX3 (TX3 k).2.1 (TX3 k).2.2.1 host ∈ EW) (hdg : decode cc pc = .ok (.putfield index, 3))
    (kk : ∀ (H1 : Heap) (locs1 : List Loc), Wd D ca ad A s H1 locs1 (E, up2 F o k v, L, S, n) → W p l e R s m args below meth c H1 locs1 cells slots Q (F0 m (pc + 3) ls rest)) : W p l e R s m args below meth c H locs cells slots Q (F0 m pc ls (.int v :: .ref (ad o) :: rest)) :=
  w_putN X cn w _ (lt17 (by omega)) (wC_R ho.1 ho.2) rfl in_X3 tyX3 tyX3_ok nmX3 k hk.1 (de_X3 k hk.1) (wl_F (by rw [wC_R ho.1 ho.2, cPrs_set hk])) hfin hpt rfl rfl (by simp only [cPrs, List.length_cons, List.length_nil]; omega) hlink hdg kk
theorem pn_P (X : CallFix p m c cc nL s args BG own) (cn : Cn A s) (w : Wd D ca ad A s H locs (E, F, L, S, n)) {o : Nat} (ho : 2 ≤ o ∧ o < 6) (k : Nat) (hk : k < 4) (hfin : (TX2 k).2.2.2 = false) (hpt : parseFieldDescriptor (TX2 k).2.2.1 = some .int) {v : Int32} (hlink : Cond.fieldLinkNest own index RX2 (TX2 k).2.1 (TX2 k).2.2.1 host ∈ EW) (hdg : decode cc pc = .ok (.putfield index, 3))
    (kk : ∀ (H1 : Heap) (locs1 : List Loc), Wd D ca ad A s H1 locs1 (E, up2 F o k v, L, S, n) → W p l e R s m args below meth c H1 locs1 cells slots Q (F0 m (pc + 3) ls rest)) : W p l e R s m args below meth c H locs cells slots Q (F0 m pc ls (.int v :: .ref (ad o) :: rest)) :=
  w_putN X cn w _ (lt17 (by omega)) (wC_P ho.1 ho.2) rfl in_X2 tyX2 tyX2_ok nmX2 k hk (de_X2 k hk) (wl_F (by rw [wC_P ho.1 ho.2, cPap_set hk])) hfin hpt rfl rfl (by simp only [cPap, List.length_cons, List.length_nil]; omega) hlink hdg kk
theorem p_L (X : CallFix p m c cc nL s args BG own) (w : Wd D ca ad A s H locs (E, F, L, S, n)) (k : Nat) (hk : 3 ≤ k ∧ k < 9) (hfin : (TX4 k).2.2.2 = false) (hpt : parseFieldDescriptor (TX4 k).2.2.1 = some .int) {v : Int32} (hlink : Cond.fieldLink own index RX4 (TX4 k).2.1 (TX4 k).2.2.1 ∈ BG) (hdg : decode cc pc = .ok (.putfield index, 3))
    (kk : ∀ (H1 : Heap) (locs1 : List Loc), Wd D ca ad A s H1 locs1 (E, up2 F 0 k v, L, S, n) → W p l e R s m args below meth c H1 locs1 cells slots Q (F0 m (pc + 3) ls rest)) : W p l e R s m args below meth c H locs cells slots Q (F0 m pc ls (.int v :: .ref (ad 0) :: rest)) :=
  w_put X w _ (lt17 (by omega)) wC_0 rfl in_X4 tyX4 tyX4_ok nmX4 k (by omega) (de_X4 k (by omega)) (wl_F (by rw [wC_0, cLed_set hk])) hfin hpt rfl rfl (by simp only [cLed, List.length_cons, List.length_nil]; omega) hlink hdg kk
theorem pn_E (X : CallFix p m c cc nL s args BG own) (cn : Cn A s) (w : Wd D ca ad A s H locs (E, F, L, S, n)) (k : Nat) (hk : k < 7) (hfin : (TX0 k).2.2.2 = false) (hpt : parseFieldDescriptor (TX0 k).2.2.1 = some .int) {v : Int32} (hlink : Cond.fieldLinkNest own index RX0 (TX0 k).2.1 (TX0 k).2.2.1 host ∈ EW) (hdg : decode cc pc = .ok (.putfield index, 3))
    (kk : ∀ (H1 : Heap) (locs1 : List Loc), Wd D ca ad A s H1 locs1 (up1 E k v, F, L, S, n) → W p l e R s m args below meth c H1 locs1 cells slots Q (F0 m (pc + 3) ls rest)) : W p l e R s m args below meth c H locs cells slots Q (F0 m pc ls (.int v :: .ref (ad 1) :: rest)) :=
  w_putN X cn w _ (lt17 (by omega)) wC_1 rfl in_X0 tyX0 tyX0_ok nmX0 k hk (de_X0 k hk) (by rw [cExp_set hk]; exact wl_E) hfin hpt rfl rfl (by simp only [cExp, List.length_cons, List.length_nil]; omega) hlink hdg kk
/-- a place of a press's line -/
theorem wt_L {o : Nat} (ho : 6 ≤ o ∧ o < 10) : (wt ca)[o - 6]? = some (ca (o + 4), .object RX1) := by
  rcases (show o = 6 ∨ o = 7 ∨ o = 8 ∨ o = 9 by omega) with rfl | rfl | rfl | rfl <;> rfl
theorem ld_L (X : CallFix p m c cc nL s args BG own) (w : Wd D ca ad A s H locs (E, F, L, S, n)) {o : Nat} (ho : 6 ≤ o ∧ o < 10) {i : Int32} (hin : vp_in i 20) (hdg : decode cc pc = .ok (.aaload, 1))
    (kk : W p l e R s m args below meth c H locs cells slots Q (F0 m (pc + 1) ls (va_rf ((L o i.toNatClampNeg).map (fun j => ad (17 + j))) :: rest))) : W p l e R s m args below meth c H locs cells slots Q (F0 m pc ls (.int i :: .ref (ad (o + 4)) :: rest)) :=
  w_ald X w (lt17 (by omega)) (wC_L ho.1 ho.2) (wt_L ho) hin hdg kk
theorem len_L (X : CallFix p m c cc nL s args BG own) (w : Wd D ca ad A s H locs (E, F, L, S, n)) {o : Nat} (ho : 6 ≤ o ∧ o < 10) (hdg : decode cc pc = .ok (.arraylength, 1))
    (kk : W p l e R s m args below meth c H locs cells slots Q (F0 m (pc + 1) ls (.int 20 :: rest))) : W p l e R s m args below meth c H locs cells slots Q (F0 m pc ls (.ref (ad (o + 4)) :: rest)) :=
  w_alen X w (lt17 (by omega)) (wC_L ho.1 ho.2) (wt_L ho) rfl hdg kk
theorem upL_map {ad : Nat → Nat} {L : Lm} {o k : Nat} {r : Option Nat} : va_up (aLin ad (L o)) k (r.map (fun j => ad (17 + j))) = aLin ad (upL L o k r o) := by
  funext x
  simp only [va_up, aLin, upL, if_true]
  by_cases h : x = k <;> simp [h]
theorem st_L (X : CallFix p m c cc nL s args BG own) (w : Wd D ca ad A s H locs (E, F, L, S, n)) {o : Nat} (ho : 6 ≤ o ∧ o < 10) (r : Option Nat) (hr : ∀ j, r = some j → j < n) {i : Int32} (hin : vp_in i 20) (hdg : decode cc pc = .ok (.aastore, 1))
    (kk : ∀ (H1 : Heap) (locs1 : List Loc), Wd D ca ad A s H1 locs1 (E, F, upL L o i.toNatClampNeg r, S, n) → W p l e R s m args below meth c H1 locs1 cells slots Q (F0 m (pc + 1) ls rest)) : W p l e R s m args below meth c H locs cells slots Q (F0 m pc ls (va_rf (r.map (fun j => ad (17 + j))) :: .int i :: .ref (ad (o + 4)) :: rest)) := by
  have hset : (wl ca ad (E, F, L, S, n)).set (o + 4) (ad (o + 4), aRow (ca (o + 4)) 20 (va_up (aLin ad (L o)) i.toNatClampNeg (r.map (fun j => ad (17 + j))))) = wl ca ad (E, F, upL L o i.toNatClampNeg r, S, n) := by
    rw [upL_map]
    exact wl_L ho.1 ho.2 (fun q hq => by funext x; simp only [upL, if_neg hq])
  cases r with
  | none =>
    refine va_astqN X.1 X.2.1 w.2.2.1 w.1 w.2.1 w.2.2.2 (o + 4) (o - 6) (by rw [wl_at (lt17 (by omega)), wC_L ho.1 ho.2]) (wt_L ho) hin hdg (fun H1 locs1 hP hD hS => kk H1 locs1 ?_)
    have hset' : (wl ca ad (E, F, L, S, n)).set (o + 4) (ad (o + 4), aRow (ca (o + 4)) 20 (va_up (aLin ad (L o)) i.toNatClampNeg none)) = wl ca ad (E, F, upL L o i.toNatClampNeg none, S, n) := hset
    have hP : va_P D vwCl ((wl ca ad (E, F, L, S, n)).set (o + 4) (ad (o + 4), aRow (ca (o + 4)) 20 (va_up (aLin ad (L o)) i.toNatClampNeg none))) H1 := hP
    have hD : va_D A ((wl ca ad (E, F, L, S, n)).set (o + 4) (ad (o + 4), aRow (ca (o + 4)) 20 (va_up (aLin ad (L o)) i.toNatClampNeg none))) := hD
    rw [hset'] at hP hD
    exact ⟨hP, hD, w.2.2.1, hS⟩
  | some j =>
    refine va_astq X.1 X.2.1 w.2.2.1 w.1 w.2.1 w.2.2.2 (o + 4) (o - 6) (17 + j) 1 (r := (RX1, TX1, 15)) (by rw [wl_at (lt17 (by omega)), wC_L ho.1 ho.2]) (wt_L ho) (by rw [wl_at (Nat.add_lt_add_left (hr j rfl) 17), wC_J]) rfl hin hdg (fun H1 locs1 hP hD hS => kk H1 locs1 ?_)
    have hset' : (wl ca ad (E, F, L, S, n)).set (o + 4) (ad (o + 4), aRow (ca (o + 4)) 20 (va_up (aLin ad (L o)) i.toNatClampNeg (some (ad (17 + j))))) = wl ca ad (E, F, upL L o i.toNatClampNeg (some j), S, n) := hset
    have hP : va_P D vwCl ((wl ca ad (E, F, L, S, n)).set (o + 4) (ad (o + 4), aRow (ca (o + 4)) 20 (va_up (aLin ad (L o)) i.toNatClampNeg (some (ad (17 + j)))))) H1 := hP
    have hD : va_D A ((wl ca ad (E, F, L, S, n)).set (o + 4) (ad (o + 4), aRow (ca (o + 4)) 20 (va_up (aLin ad (L o)) i.toNatClampNeg (some (ad (17 + j)))))) := hD
    rw [hset'] at hP hD
    exact ⟨hP, hD, w.2.2.1, hS⟩
theorem st_J (X : CallFix p m c cc nL s args BG own) (w : Wd D ca ad A s H locs (E, F, L, S, n)) {j : Nat} (hj : j < n) {i : Int32} (hin : vp_in i 20) (hdg : decode cc pc = .ok (.aastore, 1))
    (kk : ∀ (H1 : Heap) (locs1 : List Loc), Wd D ca ad A s H1 locs1 (E, F, upL L 16 i.toNatClampNeg (some j), S, n) → W p l e R s m args below meth c H1 locs1 cells slots Q (F0 m (pc + 1) ls rest)) : W p l e R s m args below meth c H locs cells slots Q (F0 m pc ls (.ref (ad (17 + j)) :: .int i :: .ref (ad 16) :: rest)) := by
  refine va_astq X.1 X.2.1 w.2.2.1 w.1 w.2.1 w.2.2.2 16 6 (17 + j) 1 (r := (RX1, TX1, 15)) (by rw [wl_at (lt17 (by omega)), wC_16]) rfl (by rw [wl_at (Nat.add_lt_add_left hj 17), wC_J]) rfl hin hdg (fun H1 locs1 hP hD hS => kk H1 locs1 ?_)
  have hset : (wl ca ad (E, F, L, S, n)).set 16 (ad 16, aRow (ca 16) 20 (va_up (aLin ad (L 16)) i.toNatClampNeg (some (ad (17 + j))))) = wl ca ad (E, F, upL L 16 i.toNatClampNeg (some j), S, n) := by
    have h := upL_map (ad := ad) (L := L) (o := 16) (k := i.toNatClampNeg) (r := some j)
    simp only [Option.map_some] at h
    rw [h]
    exact wl_L16 (fun q hq => by funext x; simp only [upL, if_neg hq])
  have hP : va_P D vwCl ((wl ca ad (E, F, L, S, n)).set 16 (ad 16, aRow (ca 16) 20 (va_up (aLin ad (L 16)) i.toNatClampNeg (some (ad (17 + j)))))) H1 := hP
  have hD : va_D A ((wl ca ad (E, F, L, S, n)).set 16 (ad 16, aRow (ca 16) 20 (va_up (aLin ad (L 16)) i.toNatClampNeg (some (ad (17 + j)))))) := hD
  rw [hset] at hP hD
  exact ⟨hP, hD, w.2.2.1, hS⟩
/-- the rows of papers, presses, jobs -/
theorem ld_P (X : CallFix p m c cc nL s args BG own) (w : Wd D ca ad A s H locs (E, F, L, S, n)) {i : Int32} (hin : vp_in i 4) (hdg : decode cc pc = .ok (.aaload, 1))
    (kk : W p l e R s m args below meth c H locs cells slots Q (F0 m (pc + 1) ls (.ref (ad (2 + i.toNatClampNeg)) :: rest))) : W p l e R s m args below meth c H locs cells slots Q (F0 m pc ls (.int i :: .ref (ad 14) :: rest)) :=
  w_ald X w (lt17 (by omega)) wC_14 (t0 := 4) rfl hin hdg kk
theorem ld_R (X : CallFix p m c cc nL s args BG own) (w : Wd D ca ad A s H locs (E, F, L, S, n)) {i : Int32} (hin : vp_in i 3) (hdg : decode cc pc = .ok (.aaload, 1))
    (kk : W p l e R s m args below meth c H locs cells slots Q (F0 m (pc + 1) ls (.ref (ad (6 + i.toNatClampNeg)) :: rest))) : W p l e R s m args below meth c H locs cells slots Q (F0 m pc ls (.int i :: .ref (ad 15) :: rest)) :=
  w_ald X w (lt17 (by omega)) wC_15 (t0 := 5) rfl hin hdg kk
theorem ld_J (X : CallFix p m c cc nL s args BG own) (w : Wd D ca ad A s H locs (E, F, L, S, n)) {i : Int32} (hin : vp_in i 20) (hdg : decode cc pc = .ok (.aaload, 1))
    (kk : W p l e R s m args below meth c H locs cells slots Q (F0 m (pc + 1) ls (va_rf ((L 16 i.toNatClampNeg).map (fun j => ad (17 + j))) :: rest))) : W p l e R s m args below meth c H locs cells slots Q (F0 m pc ls (.int i :: .ref (ad 16) :: rest)) :=
  w_ald X w (lt17 (by omega)) wC_16 (t0 := 6) rfl hin hdg kk
theorem len_P (X : CallFix p m c cc nL s args BG own) (w : Wd D ca ad A s H locs (E, F, L, S, n)) (hdg : decode cc pc = .ok (.arraylength, 1))
    (kk : W p l e R s m args below meth c H locs cells slots Q (F0 m (pc + 1) ls (.int 4 :: rest))) : W p l e R s m args below meth c H locs cells slots Q (F0 m pc ls (.ref (ad 14) :: rest)) :=
  w_alen X w (lt17 (by omega)) wC_14 (t0 := 4) rfl rfl hdg kk
theorem len_R (X : CallFix p m c cc nL s args BG own) (w : Wd D ca ad A s H locs (E, F, L, S, n)) (hdg : decode cc pc = .ok (.arraylength, 1))
    (kk : W p l e R s m args below meth c H locs cells slots Q (F0 m (pc + 1) ls (.int 3 :: rest))) : W p l e R s m args below meth c H locs cells slots Q (F0 m pc ls (.ref (ad 15) :: rest)) :=
  w_alen X w (lt17 (by omega)) wC_15 (t0 := 5) rfl rfl hdg kk
theorem len_J (X : CallFix p m c cc nL s args BG own) (w : Wd D ca ad A s H locs (E, F, L, S, n)) (hdg : decode cc pc = .ok (.arraylength, 1))
    (kk : W p l e R s m args below meth c H locs cells slots Q (F0 m (pc + 1) ls (.int 20 :: rest))) : W p l e R s m args below meth c H locs cells slots Q (F0 m pc ls (.ref (ad 16) :: rest)) :=
  w_alen X w (lt17 (by omega)) wC_16 (t0 := 6) rfl rfl hdg kk
end FieldRows
end
section
/-! ===== what the methods answer, in plain words ===== -/
def mx (x y : Int32) : Int32 := if x < y then y else x
def mn (x y : Int32) : Int32 := if y < x then y else x
def s_out (v a b : Int32) : Int32 := if v < a then 1 else if v ≤ b then 0 else 1
def s_div (a b : Int32) : Int32 := if b = 0 then 0 else a / b
def s_divUp (a b : Int32) : Int32 := if b = 0 then 0 else (a + b - 1) / b
def s_rate (x : Int32) : Int32 := mx 1 (mn x 999)
abbrev ush (x k : Int32) : Int32 := (x.toUInt32 >>> (k.toUInt32 &&& Int32.toUInt32 31)).toInt32
def bt1 (x : Int32) : Int32 := x - (ush x 1 &&& 1431655765)
def bt2 (x : Int32) : Int32 := (x &&& 858993459) + (ush x 2 &&& 858993459)
def bt3 (x : Int32) : Int32 := (x + ush x 4) &&& 252645135
def bt4 (x : Int32) : Int32 := x + ush x 8
def bt5 (x : Int32) : Int32 := x + ush x 16
def bitC (x : Int32) : Int32 := bt5 (bt4 (bt3 (bt2 (bt1 x)))) &&& 63
def s_below (v n : Int32) : Int32 := (v &&& 2147483647) - (v &&& 2147483647) / n * n
def s_sheets (F : Fm) (j : Nat) : Int32 := s_divUp (mx (F (17 + j) 3 - F (17 + j) 10) 0) (F (17 + j) 5)
def s_ink (F : Fm) (j : Nat) : Int32 := 200 * bitC (F (17 + j) 4)
def s_taken (F : Fm) (S : Sm) (j : Nat) (sp : Int32) : Int32 := mn (s_sheets F j + sp) (F (2 + S j) 3)
def s_worth (F : Fm) (j : Nat) : Int32 := if F (17 + j) 3 = 0 then 0 else ((F (17 + j) 11).toInt64 * (mn (F (17 + j) 10) (F (17 + j) 3 + F (17 + j) 3 / 10)).toInt64 / (F (17 + j) 3).toInt64).toInt32
def s_holds (F : Fm) (o : Nat) (a b : Int32) : Int32 := s_div (F o 0) a * s_div (F o 1) b
def s_room (F : Fm) (o : Nat) : Int32 := (99999 - F o 3) / 250
def s_passes (F : Fm) (o j : Nat) : Int32 := s_divUp (bitC (F (17 + j) 4)) (F o 0)
def s_change (F : Fm) (j : Nat) (inks : Int32) : Int32 := 4 * bitC (F (17 + j) 4 &&& (inks ^^^ (-1)))
def s_jobAt (F : Fm) (L : Lm) (o : Nat) (x : Int32) : Option Nat := if x < 0 then none else if F o 6 ≤ x then none else if x < 20 then L o x.toNatClampNeg else none
/-! ===== small facts for the walks ===== -/
theorem opt_or (x : Option Nat) : x = none ∨ ∃ j, x = some j := by
  cases x with
  | none => exact Or.inl rfl
  | some j => exact Or.inr ⟨j, rfl⟩
def aJb (n k : Nat) : Option Nat := if k < n then some k else none
theorem aJb_lt {n k j : Nat} (h : aJb n k = some j) : j < n := by
  unfold aJb at h
  by_cases hk : k < n
  · rw [if_pos hk] at h; cases h; exact hk
  · rw [if_neg hk] at h; cases h
theorem aJb_eq {n k j : Nat} (h : aJb n k = some j) : k = j ∧ k < n := by
  unfold aJb at h
  by_cases hk : k < n
  · rw [if_pos hk] at h; cases h; exact ⟨rfl, hk⟩
  · rw [if_neg hk] at h; cases h
theorem aJb_no {n k : Nat} (h : aJb n k = none) : n ≤ k := by
  unfold aJb at h
  by_cases hk : k < n
  · rw [if_pos hk] at h; cases h
  · omega
theorem aJbL_lt {L : Lm} {n k j : Nat} (hJ : L 16 = aJb n) (h : L 16 k = some j) : j < n := aJb_lt (by rw [← hJ]; exact h)
theorem aJbL_eq {L : Lm} {n k j : Nat} (hJ : L 16 = aJb n) (h : L 16 k = some j) : k = j ∧ k < n := aJb_eq (by rw [← hJ]; exact h)
theorem aJbL_no {L : Lm} {n k : Nat} (hJ : L 16 = aJb n) (h : L 16 k = none) : n ≤ k := aJb_no (by rw [← hJ]; exact h)
theorem pap_ok {x : Nat} (h : x < 4) : 2 ≤ 2 + x ∧ 2 + x < 6 := ⟨by omega, by omega⟩
theorem cl_lt {i : Int32} {N : Nat} (h : vp_in i N) : i.toNatClampNeg < N := by
  unfold vp_in at h
  omega
theorem pap_in {i : Int32} (h : vp_in i 4) : 2 ≤ 2 + i.toNatClampNeg ∧ 2 + i.toNatClampNeg < 6 := pap_ok (cl_lt h)
theorem prs_in {i : Int32} (h : vp_in i 3) : 6 ≤ 6 + i.toNatClampNeg ∧ 6 + i.toNatClampNeg < 10 := ⟨by omega, by have := cl_lt h; omega⟩
theorem in_of {x : Int32} {N : Nat} {M : Int32} (hM : M.toInt = N) (h0 : ¬ x < 0) (h1 : x < M) : vp_in x N := by
  rw [vp_in_iff]
  rw [Int32.lt_iff_toInt_lt] at h0 h1
  have e : (0 : Int32).toInt = 0 := rfl
  omega
theorem in_of' {x : Int32} {N : Nat} {M : Int32} (hM : M.toInt = N) (h0 : ¬ x < 0) (h1 : ¬ M ≤ x) : vp_in x N := by
  rw [vp_in_iff]
  rw [Int32.lt_iff_toInt_lt] at h0
  rw [Int32.le_iff_toInt_le] at h1
  have e : (0 : Int32).toInt = 0 := rfl
  omega
theorem tab_cases (x : Int32) (hi : Nat) : (x.toInt < 0 ∨ (hi : Int) < x.toInt) ∨ ∃ k : Nat, k ≤ hi ∧ x.toInt = (k : Int) := by
  by_cases h : x.toInt < 0 ∨ (hi : Int) < x.toInt
  · exact Or.inl h
  · refine Or.inr ⟨x.toInt.toNat, ?_, ?_⟩ <;> omega
theorem l_ne {x : Int32} (h : ¬ x = 0) : ¬ x.toInt64 = 0 := by
  intro h2
  apply h
  have h3 : x.toInt64.toInt = (0 : Int64).toInt := by rw [h2]
  rw [Int32.toInt_toInt64] at h3
  exact Int32.toInt_inj.mp h3
section MathRows
variable {p : Program} {l : Launch} {e : Env} {R : Room} {s : State} {m : MethodId} {args : Array Value} {below : List Frame} {meth : Method} {c : Code} {H : Heap} {locs : List Loc} {cells slots : Nat} {Q : State → Prop}
variable {cc : ByteArray} {pc nL index : Nat} {ls : Array Slot} {rest : List Value} {own : String}
theorem n_max (X : CallFix p m c cc nL s args BG own) (hls : ls.size = nL) (hlink : (Cond.methodLink own index Lib.Math.max.name).before args s = true) (hf : 1 ≤ R.frames) (hlo : (rest.map fun v => v.category).sum + 13 ≤ R.locals) (hc : cells ≤ R.cells) (hs : slots ≤ R.slots) {x y : Int32} (hdg : decode cc pc = .ok (.invokestatic index, 3))
    (kk : W p l e R s m args below meth c H locs cells slots Q (F0 m (pc + 3) ls (.int (mx x y) :: rest))) : W p l e R s m args below meth c H locs cells slots Q (F0 m pc ls (.int y :: .int x :: rest)) :=
  va_mmax X.1 X.2.1 (X.2.2.1.trans hls.symm) X.2.2.2.1 hlink (X.2.2.2.2 _ kw_320) (X.2.2.2.2 _ kw_39) (X.2.2.2.2 _ kw_321) hf hlo hc hs hdg kk
theorem n_min (X : CallFix p m c cc nL s args BG own) (hls : ls.size = nL) (hlink : (Cond.methodLink own index Lib.Math.min.name).before args s = true) (hf : 1 ≤ R.frames) (hlo : (rest.map fun v => v.category).sum + 13 ≤ R.locals) (hc : cells ≤ R.cells) (hs : slots ≤ R.slots) {x y : Int32} (hdg : decode cc pc = .ok (.invokestatic index, 3))
    (kk : W p l e R s m args below meth c H locs cells slots Q (F0 m (pc + 3) ls (.int (mn x y) :: rest))) : W p l e R s m args below meth c H locs cells slots Q (F0 m pc ls (.int y :: .int x :: rest)) :=
  va_mmin X.1 X.2.1 (X.2.2.1.trans hls.symm) X.2.2.2.1 hlink (X.2.2.2.2 _ kw_409) (X.2.2.2.2 _ kw_39) (X.2.2.2.2 _ kw_410) hf hlo hc hs hdg kk
end MathRows
end
section
set_option maxHeartbeats 4000000 in
set_option maxRecDepth 100000 in
theorem c_X4_isOutside (l : Launch) (v a b : Int32) : Met l yX4_isOutside (.code yX4_isOutside cX4_isOutside 3 (some .boolean) :: BG) { frames := 0, cells := 0, slots := 0, locals := 0 } (va_Pc [.int v, .int a, .int b] (fun _ => True)) (Qn (s_out v a b)) 0 0 (fun _ => False) := by
  refine open_P (by decide +kernel) (Nat.le_of_ble_eq_true rfl) ?_
  intro p e s m args below meth c X hr hlk ls hl
  have hl : lv_has ls 3 [(0, .int v), (1, .int a), (2, .int b)] := hl
  have hS : va_S (fun _ => False) s.heap s.heap [] := va_S.rf
  refine lv_iload_n X.1 X.2.1 dX4_isOutside_0 rfl (lv_at hl 0 rfl) ?_
  refine lv_iload_n X.1 X.2.1 dX4_isOutside_1 rfl (lv_at hl 1 rfl) ?_
  refine lv_icmp_lt (tgt := 10) X.1 X.2.1 dX4_isOutside_2 (by decide) (fun c1 => ?_) (fun c1 => ?_)
  ·
    refine lv_iconst (v := 1) X.1 X.2.1 dX4_isOutside_10 (by decide) ?_
    refine lv_goto (tgt := 15) X.1 X.2.1 dX4_isOutside_11 (by decide) ?_
    exact n_iret X hr hlk hS (by  simp [s_out, c1]) dX4_isOutside_15 rfl (Nat.le_of_ble_eq_true rfl) (Nat.le_of_ble_eq_true rfl)
  ·
    refine lv_iload_n X.1 X.2.1 dX4_isOutside_5 rfl (lv_at hl 0 rfl) ?_
    refine lv_iload_n X.1 X.2.1 dX4_isOutside_6 rfl (lv_at hl 2 rfl) ?_
    refine lv_icmp_le (tgt := 14) X.1 X.2.1 dX4_isOutside_7 (by decide) (fun c2 => ?_) (fun c2 => ?_)
    ·
      refine lv_iconst (v := 0) X.1 X.2.1 dX4_isOutside_14 (by decide) ?_
      exact n_iret X hr hlk hS (by  simp [s_out, c1, c2]) dX4_isOutside_15 rfl (Nat.le_of_ble_eq_true rfl) (Nat.le_of_ble_eq_true rfl)
    ·
      refine lv_iconst (v := 1) X.1 X.2.1 dX4_isOutside_10 (by decide) ?_
      refine lv_goto (tgt := 15) X.1 X.2.1 dX4_isOutside_11 (by decide) ?_
      exact n_iret X hr hlk hS (by  simp [s_out, c1, c2]) dX4_isOutside_15 rfl (Nat.le_of_ble_eq_true rfl) (Nat.le_of_ble_eq_true rfl)

set_option maxHeartbeats 4000000 in
set_option maxRecDepth 100000 in
theorem c_X4_divide (l : Launch) (a b : Int32) : Met l yX4_divide (.code yX4_divide cX4_divide 2 (some .int) :: BG) { frames := 0, cells := 0, slots := 0, locals := 0 } (va_Pc [.int a, .int b] (fun _ => True)) (Qn (s_div a b)) 0 0 (fun _ => False) := by
  refine open_P (by decide +kernel) (Nat.le_of_ble_eq_true rfl) ?_
  intro p e s m args below meth c X hr hlk ls hl
  have hl : lv_has ls 2 [(0, .int a), (1, .int b)] := hl
  have hS : va_S (fun _ => False) s.heap s.heap [] := va_S.rf
  refine lv_iload_n X.1 X.2.1 dX4_divide_0 rfl (lv_at hl 1 rfl) ?_
  refine lv_if_ne (tgt := 8) X.1 X.2.1 dX4_divide_1 (by decide) (fun c1 => ?_) (fun c1 => ?_)
  ·
    refine lv_iload_n X.1 X.2.1 dX4_divide_8 rfl (lv_at hl 0 rfl) ?_
    refine lv_iload_n X.1 X.2.1 dX4_divide_9 rfl (lv_at hl 1 rfl) ?_
    refine lv_idiv X.1 X.2.1 dX4_divide_10 c1 ?_
    exact n_iret X hr hlk hS (by  simp [s_div, c1]) dX4_divide_11 rfl (Nat.le_of_ble_eq_true rfl) (Nat.le_of_ble_eq_true rfl)
  ·
    refine lv_iconst (v := 0) X.1 X.2.1 dX4_divide_4 (by decide) ?_
    refine lv_goto (tgt := 11) X.1 X.2.1 dX4_divide_5 (by decide) ?_
    exact n_iret X hr hlk hS (by  simp [s_div, c1]) dX4_divide_11 rfl (Nat.le_of_ble_eq_true rfl) (Nat.le_of_ble_eq_true rfl)

set_option maxHeartbeats 4000000 in
set_option maxRecDepth 100000 in
theorem c_X4_divideUp (l : Launch) (a b : Int32) : Met l yX4_divideUp (.code yX4_divideUp cX4_divideUp 2 (some .int) :: BG) { frames := 0, cells := 0, slots := 0, locals := 0 } (va_Pc [.int a, .int b] (fun _ => True)) (Qn (s_divUp a b)) 0 0 (fun _ => False) := by
  refine open_P (by decide +kernel) (Nat.le_of_ble_eq_true rfl) ?_
  intro p e s m args below meth c X hr hlk ls hl
  have hl : lv_has ls 2 [(0, .int a), (1, .int b)] := hl
  have hS : va_S (fun _ => False) s.heap s.heap [] := va_S.rf
  refine lv_iload_n X.1 X.2.1 dX4_divideUp_0 rfl (lv_at hl 1 rfl) ?_
  refine lv_if_ne (tgt := 8) X.1 X.2.1 dX4_divideUp_1 (by decide) (fun c1 => ?_) (fun c1 => ?_)
  ·
    refine lv_iload_n X.1 X.2.1 dX4_divideUp_8 rfl (lv_at hl 0 rfl) ?_
    refine lv_iload_n X.1 X.2.1 dX4_divideUp_9 rfl (lv_at hl 1 rfl) ?_
    refine lv_iadd X.1 X.2.1 dX4_divideUp_10 ?_
    refine lv_iconst (v := 1) X.1 X.2.1 dX4_divideUp_11 (by decide) ?_
    refine lv_isub X.1 X.2.1 dX4_divideUp_12 ?_
    refine lv_iload_n X.1 X.2.1 dX4_divideUp_13 rfl (lv_at hl 1 rfl) ?_
    refine lv_idiv X.1 X.2.1 dX4_divideUp_14 c1 ?_
    exact n_iret X hr hlk hS (by  simp [s_divUp, c1]) dX4_divideUp_15 rfl (Nat.le_of_ble_eq_true rfl) (Nat.le_of_ble_eq_true rfl)
  ·
    refine lv_iconst (v := 0) X.1 X.2.1 dX4_divideUp_4 (by decide) ?_
    refine lv_goto (tgt := 15) X.1 X.2.1 dX4_divideUp_5 (by decide) ?_
    exact n_iret X hr hlk hS (by  simp [s_divUp, c1]) dX4_divideUp_15 rfl (Nat.le_of_ble_eq_true rfl) (Nat.le_of_ble_eq_true rfl)

set_option maxHeartbeats 4000000 in
set_option maxRecDepth 100000 in
theorem c_X3_rateOf (l : Launch) (x : Int32) : Met l yX3_rateOf (.code yX3_rateOf cX3_rateOf 1 (some .int) :: BG) { frames := 1, cells := 0, slots := 0, locals := 21 } (va_Pc [.int x] (fun _ => True)) (Qn (s_rate x)) 0 0 (fun _ => False) := by
  refine open_P (by decide +kernel) (Nat.le_of_ble_eq_true rfl) ?_
  intro p e s m args below meth c X hr hlk ls hl
  have hl : lv_has ls 1 [(0, .int x)] := hl
  have hS : va_S (fun _ => False) s.heap s.heap [] := va_S.rf
  refine lv_iconst (v := 1) X.1 X.2.1 dX3_rateOf_0 (by decide) ?_
  refine lv_iload_n X.1 X.2.1 dX3_rateOf_1 rfl (lv_at hl 0 rfl) ?_
  refine lv_sipush (v := 999) X.1 X.2.1 dX3_rateOf_2 (by decide) ?_
  refine n_min X hl.1 (X.2.2.2.2 _ kw_627) (Nat.le_of_ble_eq_true rfl) (Nat.le_of_ble_eq_true rfl) (Nat.le_of_ble_eq_true rfl) (Nat.le_of_ble_eq_true rfl) dX3_rateOf_5 ?_
  refine n_max X hl.1 (X.2.2.2.2 _ kw_628) (Nat.le_of_ble_eq_true rfl) (Nat.le_of_ble_eq_true rfl) (Nat.le_of_ble_eq_true rfl) (Nat.le_of_ble_eq_true rfl) dX3_rateOf_8 ?_
  exact n_iret X hr hlk hS (by  exact rfl) dX3_rateOf_11 rfl (Nat.le_of_ble_eq_true rfl) (Nat.le_of_ble_eq_true rfl)

set_option maxHeartbeats 4000000 in
set_option maxRecDepth 100000 in
theorem c_J6_bitCount_0f7a4 (l : Launch) (x : Int32) : Met l yJ6_bitCount_0f7a4 (.code yJ6_bitCount_0f7a4 cJ6_bitCount_0f7a4 1 (some .int) :: BG) { frames := 0, cells := 0, slots := 0, locals := 0 } (va_Pc [.int x] (fun _ => True)) (Qn (bitC x)) 0 0 (fun _ => False) := by
  refine open_P (by decide +kernel) (Nat.le_of_ble_eq_true rfl) ?_
  intro p e s m args below meth c X hr hlk ls hl
  have hl : lv_has ls 1 [(0, .int x)] := hl
  have hS : va_S (fun _ => False) s.heap s.heap [] := va_S.rf
  refine lv_iload_n X.1 X.2.1 dJ6_bitCount_0f7a4_0 rfl (lv_at hl 0 rfl) ?_
  refine lv_iload_n X.1 X.2.1 dJ6_bitCount_0f7a4_1 rfl (lv_at hl 0 rfl) ?_
  refine lv_iconst (v := 1) X.1 X.2.1 dJ6_bitCount_0f7a4_2 (by decide) ?_
  refine lv_iushr X.1 X.2.1 dJ6_bitCount_0f7a4_3 rfl ?_
  refine lv_ldcw (v := 1431655765) X.1 X.2.1 X.2.2.2.1 (X.2.2.2.2 _ kw_332) dJ6_bitCount_0f7a4_4 ?_
  refine lv_iand X.1 X.2.1 dJ6_bitCount_0f7a4_7 ?_
  refine lv_isub X.1 X.2.1 dJ6_bitCount_0f7a4_8 ?_
  refine lv_topi (fun x1 ex1 => ?_)
  refine lv_istore_n (lv' := [(0, .int x1)]) X.1 X.2.1 dJ6_bitCount_0f7a4_9 rfl hl (by decide) rfl (fun ls hl => ?_)
  refine lv_iload_n X.1 X.2.1 dJ6_bitCount_0f7a4_10 rfl (lv_at hl 0 rfl) ?_
  refine lv_ldcw (v := 858993459) X.1 X.2.1 X.2.2.2.1 (X.2.2.2.2 _ kw_333) dJ6_bitCount_0f7a4_11 ?_
  refine lv_iand X.1 X.2.1 dJ6_bitCount_0f7a4_14 ?_
  refine lv_iload_n X.1 X.2.1 dJ6_bitCount_0f7a4_15 rfl (lv_at hl 0 rfl) ?_
  refine lv_iconst (v := 2) X.1 X.2.1 dJ6_bitCount_0f7a4_16 (by decide) ?_
  refine lv_iushr X.1 X.2.1 dJ6_bitCount_0f7a4_17 rfl ?_
  refine lv_ldcw (v := 858993459) X.1 X.2.1 X.2.2.2.1 (X.2.2.2.2 _ kw_333) dJ6_bitCount_0f7a4_18 ?_
  refine lv_iand X.1 X.2.1 dJ6_bitCount_0f7a4_21 ?_
  refine lv_iadd X.1 X.2.1 dJ6_bitCount_0f7a4_22 ?_
  refine lv_topi (fun x2 ex2 => ?_)
  refine lv_istore_n (lv' := [(0, .int x2)]) X.1 X.2.1 dJ6_bitCount_0f7a4_23 rfl hl (by decide) rfl (fun ls hl => ?_)
  refine lv_iload_n X.1 X.2.1 dJ6_bitCount_0f7a4_24 rfl (lv_at hl 0 rfl) ?_
  refine lv_iload_n X.1 X.2.1 dJ6_bitCount_0f7a4_25 rfl (lv_at hl 0 rfl) ?_
  refine lv_iconst (v := 4) X.1 X.2.1 dJ6_bitCount_0f7a4_26 (by decide) ?_
  refine lv_iushr X.1 X.2.1 dJ6_bitCount_0f7a4_27 rfl ?_
  refine lv_iadd X.1 X.2.1 dJ6_bitCount_0f7a4_28 ?_
  refine lv_ldcw (v := 252645135) X.1 X.2.1 X.2.2.2.1 (X.2.2.2.2 _ kw_334) dJ6_bitCount_0f7a4_29 ?_
  refine lv_iand X.1 X.2.1 dJ6_bitCount_0f7a4_32 ?_
  refine lv_topi (fun x3 ex3 => ?_)
  refine lv_istore_n (lv' := [(0, .int x3)]) X.1 X.2.1 dJ6_bitCount_0f7a4_33 rfl hl (by decide) rfl (fun ls hl => ?_)
  refine lv_iload_n X.1 X.2.1 dJ6_bitCount_0f7a4_34 rfl (lv_at hl 0 rfl) ?_
  refine lv_iload_n X.1 X.2.1 dJ6_bitCount_0f7a4_35 rfl (lv_at hl 0 rfl) ?_
  refine lv_bipush (v := 8) X.1 X.2.1 dJ6_bitCount_0f7a4_36 (by decide) ?_
  refine lv_iushr X.1 X.2.1 dJ6_bitCount_0f7a4_38 rfl ?_
  refine lv_iadd X.1 X.2.1 dJ6_bitCount_0f7a4_39 ?_
  refine lv_topi (fun x4 ex4 => ?_)
  refine lv_istore_n (lv' := [(0, .int x4)]) X.1 X.2.1 dJ6_bitCount_0f7a4_40 rfl hl (by decide) rfl (fun ls hl => ?_)
  refine lv_iload_n X.1 X.2.1 dJ6_bitCount_0f7a4_41 rfl (lv_at hl 0 rfl) ?_
  refine lv_iload_n X.1 X.2.1 dJ6_bitCount_0f7a4_42 rfl (lv_at hl 0 rfl) ?_
  refine lv_bipush (v := 16) X.1 X.2.1 dJ6_bitCount_0f7a4_43 (by decide) ?_
  refine lv_iushr X.1 X.2.1 dJ6_bitCount_0f7a4_45 rfl ?_
  refine lv_iadd X.1 X.2.1 dJ6_bitCount_0f7a4_46 ?_
  refine lv_topi (fun x5 ex5 => ?_)
  refine lv_istore_n (lv' := [(0, .int x5)]) X.1 X.2.1 dJ6_bitCount_0f7a4_47 rfl hl (by decide) rfl (fun ls hl => ?_)
  refine lv_iload_n X.1 X.2.1 dJ6_bitCount_0f7a4_48 rfl (lv_at hl 0 rfl) ?_
  refine lv_bipush (v := 63) X.1 X.2.1 dJ6_bitCount_0f7a4_49 (by decide) ?_
  refine lv_iand X.1 X.2.1 dJ6_bitCount_0f7a4_51 ?_
  exact n_iret X hr hlk hS (by subst ex5; subst ex4; subst ex3; subst ex2; subst ex1; exact rfl) dJ6_bitCount_0f7a4_52 rfl (Nat.le_of_ble_eq_true rfl) (Nat.le_of_ble_eq_true rfl)

set_option maxHeartbeats 4000000 in
set_option maxRecDepth 100000 in
theorem c_X1_sheets (l : Launch) (D : va_G) (ca : Nat → ClassId) (ad : Nat → Nat) (E : Em) (F : Fm) (L : Lm) (S : Sm) (n : Nat) (j : Nat) (hj : j < n) (sz : Nat) : Met l yX1_sheets (.code yX1_sheets cX1_sheets 2 (some .int) :: BG) { frames := 1, cells := 0, slots := 0, locals := 21 } (Pw D ca ad (E, F, L, S, n) sz [.ref (ad (17 + j))]) (Qi D ca ad n (fun r u => r = s_sheets F j ∧ u = (E, F, L, S, n)) sz) 0 0 (wA ad n sz) := by
  refine open_W (σ := (E, F, L, S, n)) (Qc := Qi D ca ad n (fun r u => r = s_sheets F j ∧ u = (E, F, L, S, n))) (by decide +kernel) (Nat.le_of_ble_eq_true rfl) ?_
  intro p e s m args below meth c X hr hlk w cn ls hl
  have hl : lv_has ls 2 [(0, .ref (ad (17 + j)))] := hl
  refine lv_aload_n X.1 X.2.1 dX1_sheets_0 rfl (lv_at hl 0 rfl) ?_
  refine g_J X w hj 3 (by decide) (v := .int (F (17 + j) 3)) rfl kw_469 dX1_sheets_1 ?_
  refine lv_aload_n X.1 X.2.1 dX1_sheets_4 rfl (lv_at hl 0 rfl) ?_
  refine g_J X w hj 10 (by decide) (v := .int (F (17 + j) 10)) rfl kw_484 dX1_sheets_5 ?_
  refine lv_isub X.1 X.2.1 dX1_sheets_8 ?_
  refine lv_iconst (v := 0) X.1 X.2.1 dX1_sheets_9 (by decide) ?_
  refine n_max X hl.1 (X.2.2.2.2 _ kw_319) (Nat.le_of_ble_eq_true rfl) (Nat.le_of_ble_eq_true rfl) (Nat.le_of_ble_eq_true rfl) (Nat.le_of_ble_eq_true rfl) dX1_sheets_10 ?_
  refine lv_topi (fun x1 ex1 => ?_)
  refine lv_istore_n (lv' := [(1, .int x1), (0, .ref (ad (17 + j)))]) X.1 X.2.1 dX1_sheets_13 rfl hl (by decide) rfl (fun ls hl => ?_)
  refine lv_iload_n X.1 X.2.1 dX1_sheets_14 rfl (lv_at hl 0 rfl) ?_
  refine lv_aload_n X.1 X.2.1 dX1_sheets_15 rfl (lv_at hl 1 rfl) ?_
  refine g_J X w hj 5 (by decide) (v := .int (F (17 + j) 5)) rfl kw_474 dX1_sheets_16 ?_
  refine n_calli w (n_runN (n := 2) (As := [.int x1, .int (F (17 + j) 5)]) X cn (c_X4_divideUp l x1 (F (17 + j) 5)) kw_322 kw_323 kw_31 kw_324 rfl rfl (by decide +kernel) ⟨(Nat.le_of_ble_eq_true rfl), (Nat.le_of_ble_eq_true rfl)⟩ rfl hl.1 rfl (Nat.le_of_ble_eq_true rfl) dX1_sheets_19 ⟨(Nat.le_of_ble_eq_true rfl), (Nat.le_of_ble_eq_true rfl)⟩) (fun H locs w => ?_)
  exact w_iret X hr hlk w (by subst ex1; exact ⟨rfl, rfl⟩) dX1_sheets_22 rfl (Nat.le_of_ble_eq_true rfl) (Nat.le_of_ble_eq_true rfl)

set_option maxHeartbeats 4000000 in
set_option maxRecDepth 100000 in
theorem c_X1_moneyOfInks (l : Launch) (D : va_G) (ca : Nat → ClassId) (ad : Nat → Nat) (E : Em) (F : Fm) (L : Lm) (S : Sm) (n : Nat) (j : Nat) (hj : j < n) (sz : Nat) : Met l yX1_moneyOfInks (.code yX1_moneyOfInks cX1_moneyOfInks 1 (some .int) :: BG) { frames := 1, cells := 0, slots := 0, locals := 20 } (Pw D ca ad (E, F, L, S, n) sz [.ref (ad (17 + j))]) (Qi D ca ad n (fun r u => r = s_ink F j ∧ u = (E, F, L, S, n)) sz) 0 0 (wA ad n sz) := by
  refine open_W (σ := (E, F, L, S, n)) (Qc := Qi D ca ad n (fun r u => r = s_ink F j ∧ u = (E, F, L, S, n))) (by decide +kernel) (Nat.le_of_ble_eq_true rfl) ?_
  intro p e s m args below meth c X hr hlk w cn ls hl
  have hl : lv_has ls 1 [(0, .ref (ad (17 + j)))] := hl
  refine lv_sipush (v := 200) X.1 X.2.1 dX1_moneyOfInks_0 (by decide) ?_
  refine lv_aload_n X.1 X.2.1 dX1_moneyOfInks_3 rfl (lv_at hl 0 rfl) ?_
  refine g_J X w hj 4 (by decide) (v := .int (F (17 + j) 4)) rfl kw_471 dX1_moneyOfInks_4 ?_
  refine n_calli w (n_runL (n := 1) (As := [.int (F (17 + j) 4)]) X (c_J6_bitCount_0f7a4 l (F (17 + j) 4)) kw_345 kw_330 kw_43 kw_331 rfl rfl (by decide +kernel) ⟨(Nat.le_of_ble_eq_true rfl), (Nat.le_of_ble_eq_true rfl)⟩ rfl hl.1 rfl (Nat.le_of_ble_eq_true rfl) dX1_moneyOfInks_7 ⟨(Nat.le_of_ble_eq_true rfl), (Nat.le_of_ble_eq_true rfl)⟩) (fun H locs w => ?_)
  refine lv_imul X.1 X.2.1 dX1_moneyOfInks_10 ?_
  exact w_iret X hr hlk w (by  exact ⟨rfl, rfl⟩) dX1_moneyOfInks_11 rfl (Nat.le_of_ble_eq_true rfl) (Nat.le_of_ble_eq_true rfl)

set_option maxHeartbeats 4000000 in
set_option maxRecDepth 100000 in
theorem c_X1_takenWith (l : Launch) (D : va_G) (ca : Nat → ClassId) (ad : Nat → Nat) (E : Em) (F : Fm) (L : Lm) (S : Sm) (n : Nat) (j : Nat) (hj : j < n) (hs : ∀ j, j < n → S j < 4) (sp : Int32) (sz : Nat) : Met l yX1_takenWith (.code yX1_takenWith cX1_takenWith 2 (some .int) :: BG) { frames := 2, cells := 0, slots := 0, locals := 42 } (Pw D ca ad (E, F, L, S, n) sz [.ref (ad (17 + j)), .int sp]) (Qi D ca ad n (fun r u => r = s_taken F S j sp ∧ u = (E, F, L, S, n)) sz) 0 0 (wA ad n sz) := by
  refine open_W (σ := (E, F, L, S, n)) (Qc := Qi D ca ad n (fun r u => r = s_taken F S j sp ∧ u = (E, F, L, S, n))) (by decide +kernel) (Nat.le_of_ble_eq_true rfl) ?_
  intro p e s m args below meth c X hr hlk w cn ls hl
  have hl : lv_has ls 2 [(0, .ref (ad (17 + j))), (1, .int sp)] := hl
  refine lv_aload_n X.1 X.2.1 dX1_takenWith_0 rfl (lv_at hl 0 rfl) ?_
  refine w_calli cn w (w_runV (n := 0) (As := []) X cn w (Nat.add_lt_add_left hj 17) wC_J rfl (fun sz => c_X1_sheets l D ca ad E F L S n j hj sz) (bg_V kw_616 kw_316 kw_10 kw_42 kw_318) rfl rfl (by decide +kernel) ⟨(Nat.le_of_ble_eq_true rfl), (Nat.le_of_ble_eq_true rfl)⟩ rfl hl.1 rfl (Nat.le_of_ble_eq_true rfl) dX1_takenWith_1 ⟨(Nat.le_of_ble_eq_true rfl), (Nat.le_of_ble_eq_true rfl)⟩) (fun r1 u H locs hp w => ?_)
  obtain ⟨rfl, rfl⟩ := hp
  refine lv_iload_n X.1 X.2.1 dX1_takenWith_4 rfl (lv_at hl 1 rfl) ?_
  refine lv_iadd X.1 X.2.1 dX1_takenWith_5 ?_
  refine lv_aload_n X.1 X.2.1 dX1_takenWith_6 rfl (lv_at hl 0 rfl) ?_
  refine g_J X w hj 2 (by decide) (v := .ref (ad (2 + S j))) rfl kw_467 dX1_takenWith_7 ?_
  refine gn_P X cn w (pap_ok (hs _ hj)) 3 (by decide) (v := .int (F (2 + S j) 3)) rfl kw_69 dX1_takenWith_10 ?_
  refine n_min X hl.1 (X.2.2.2.2 _ kw_408) (Nat.le_of_ble_eq_true rfl) (Nat.le_of_ble_eq_true rfl) (Nat.le_of_ble_eq_true rfl) (Nat.le_of_ble_eq_true rfl) dX1_takenWith_13 ?_
  exact w_iret X hr hlk w (by  exact ⟨rfl, rfl⟩) dX1_takenWith_16 rfl (Nat.le_of_ble_eq_true rfl) (Nat.le_of_ble_eq_true rfl)

set_option maxHeartbeats 4000000 in
set_option maxRecDepth 100000 in
theorem c_X1_worth (l : Launch) (D : va_G) (ca : Nat → ClassId) (ad : Nat → Nat) (E : Em) (F : Fm) (L : Lm) (S : Sm) (n : Nat) (j : Nat) (hj : j < n) (sz : Nat) : Met l yX1_worth (.code yX1_worth cX1_worth 2 (some .int) :: BG) { frames := 1, cells := 0, slots := 0, locals := 21 } (Pw D ca ad (E, F, L, S, n) sz [.ref (ad (17 + j))]) (Qi D ca ad n (fun r u => r = s_worth F j ∧ u = (E, F, L, S, n)) sz) 0 0 (wA ad n sz) := by
  refine open_W (σ := (E, F, L, S, n)) (Qc := Qi D ca ad n (fun r u => r = s_worth F j ∧ u = (E, F, L, S, n))) (by decide +kernel) (Nat.le_of_ble_eq_true rfl) ?_
  intro p e s m args below meth c X hr hlk w cn ls hl
  have hl : lv_has ls 2 [(0, .ref (ad (17 + j)))] := hl
  refine lv_aload_n X.1 X.2.1 dX1_worth_0 rfl (lv_at hl 0 rfl) ?_
  refine g_J X w hj 10 (by decide) (v := .int (F (17 + j) 10)) rfl kw_484 dX1_worth_1 ?_
  refine lv_aload_n X.1 X.2.1 dX1_worth_4 rfl (lv_at hl 0 rfl) ?_
  refine g_J X w hj 3 (by decide) (v := .int (F (17 + j) 3)) rfl kw_469 dX1_worth_5 ?_
  refine lv_aload_n X.1 X.2.1 dX1_worth_8 rfl (lv_at hl 0 rfl) ?_
  refine g_J X w hj 3 (by decide) (v := .int (F (17 + j) 3)) rfl kw_469 dX1_worth_9 ?_
  refine lv_bipush (v := 10) X.1 X.2.1 dX1_worth_12 (by decide) ?_
  refine lv_idiv X.1 X.2.1 dX1_worth_14 (by decide) ?_
  refine lv_iadd X.1 X.2.1 dX1_worth_15 ?_
  refine n_min X hl.1 (X.2.2.2.2 _ kw_408) (Nat.le_of_ble_eq_true rfl) (Nat.le_of_ble_eq_true rfl) (Nat.le_of_ble_eq_true rfl) (Nat.le_of_ble_eq_true rfl) dX1_worth_16 ?_
  refine lv_topi (fun x1 ex1 => ?_)
  refine lv_istore_n (lv' := [(1, .int x1), (0, .ref (ad (17 + j)))]) X.1 X.2.1 dX1_worth_19 rfl hl (by decide) rfl (fun ls hl => ?_)
  refine lv_aload_n X.1 X.2.1 dX1_worth_20 rfl (lv_at hl 1 rfl) ?_
  refine g_J X w hj 3 (by decide) (v := .int (F (17 + j) 3)) rfl kw_469 dX1_worth_21 ?_
  refine lv_if_ne (tgt := 31) X.1 X.2.1 dX1_worth_24 (by decide) (fun c2 => ?_) (fun c2 => ?_)
  ·
    refine lv_aload_n X.1 X.2.1 dX1_worth_31 rfl (lv_at hl 1 rfl) ?_
    refine g_J X w hj 11 (by decide) (v := .int (F (17 + j) 11)) rfl kw_486 dX1_worth_32 ?_
    refine lv_i2l X.1 X.2.1 dX1_worth_35 rfl ?_
    refine lv_iload_n X.1 X.2.1 dX1_worth_36 rfl (lv_at hl 0 rfl) ?_
    refine lv_i2l X.1 X.2.1 dX1_worth_37 rfl ?_
    refine lv_lmul X.1 X.2.1 dX1_worth_38 ?_
    refine lv_aload_n X.1 X.2.1 dX1_worth_39 rfl (lv_at hl 1 rfl) ?_
    refine g_J X w hj 3 (by decide) (v := .int (F (17 + j) 3)) rfl kw_469 dX1_worth_40 ?_
    refine lv_i2l X.1 X.2.1 dX1_worth_43 rfl ?_
    refine lv_ldiv X.1 X.2.1 dX1_worth_44 (l_ne c2) ?_
    refine lv_l2i X.1 X.2.1 dX1_worth_45 rfl ?_
    exact w_iret X hr hlk w (by subst ex1; exact ⟨by simp [s_worth, c2], rfl⟩) dX1_worth_46 rfl (Nat.le_of_ble_eq_true rfl) (Nat.le_of_ble_eq_true rfl)
  ·
    refine lv_iconst (v := 0) X.1 X.2.1 dX1_worth_27 (by decide) ?_
    refine lv_goto (tgt := 46) X.1 X.2.1 dX1_worth_28 (by decide) ?_
    exact w_iret X hr hlk w (by subst ex1; exact ⟨by simp [s_worth, c2], rfl⟩) dX1_worth_46 rfl (Nat.le_of_ble_eq_true rfl) (Nat.le_of_ble_eq_true rfl)

set_option maxHeartbeats 4000000 in
set_option maxRecDepth 100000 in
theorem c_X2_holds (l : Launch) (D : va_G) (ca : Nat → ClassId) (ad : Nat → Nat) (E : Em) (F : Fm) (L : Lm) (S : Sm) (n : Nat) (o : Nat) (ho : 2 ≤ o ∧ o < 6) (a b : Int32) (sz : Nat) : Met l yX2_holds (.code yX2_holds cX2_holds 3 (some .int) :: BG) { frames := 1, cells := 0, slots := 0, locals := 21 } (Pw D ca ad (E, F, L, S, n) sz [.ref (ad o), .int a, .int b]) (Qi D ca ad n (fun r u => r = s_holds F o a b ∧ u = (E, F, L, S, n)) sz) 0 0 (wA ad n sz) := by
  refine open_W (σ := (E, F, L, S, n)) (Qc := Qi D ca ad n (fun r u => r = s_holds F o a b ∧ u = (E, F, L, S, n))) (by decide +kernel) (Nat.le_of_ble_eq_true rfl) ?_
  intro p e s m args below meth c X hr hlk w cn ls hl
  have hl : lv_has ls 3 [(0, .ref (ad o)), (1, .int a), (2, .int b)] := hl
  refine lv_aload_n X.1 X.2.1 dX2_holds_0 rfl (lv_at hl 0 rfl) ?_
  refine g_P X w ho 0 (by decide) (v := .int (F o 0)) rfl kw_59 dX2_holds_1 ?_
  refine lv_iload_n X.1 X.2.1 dX2_holds_4 rfl (lv_at hl 1 rfl) ?_
  refine n_calli w (n_runN (n := 2) (As := [.int (F o 0), .int a]) X cn (c_X4_divide l (F o 0) a) kw_439 kw_440 kw_31 kw_441 rfl rfl (by decide +kernel) ⟨(Nat.le_of_ble_eq_true rfl), (Nat.le_of_ble_eq_true rfl)⟩ rfl hl.1 rfl (Nat.le_of_ble_eq_true rfl) dX2_holds_5 ⟨(Nat.le_of_ble_eq_true rfl), (Nat.le_of_ble_eq_true rfl)⟩) (fun H locs w => ?_)
  refine lv_aload_n X.1 X.2.1 dX2_holds_8 rfl (lv_at hl 0 rfl) ?_
  refine g_P X w ho 1 (by decide) (v := .int (F o 1)) rfl kw_62 dX2_holds_9 ?_
  refine lv_iload_n X.1 X.2.1 dX2_holds_12 rfl (lv_at hl 2 rfl) ?_
  refine n_calli w (n_runN (n := 2) (As := [.int (F o 1), .int b]) X cn (c_X4_divide l (F o 1) b) kw_439 kw_440 kw_31 kw_441 rfl rfl (by decide +kernel) ⟨(Nat.le_of_ble_eq_true rfl), (Nat.le_of_ble_eq_true rfl)⟩ rfl hl.1 rfl (Nat.le_of_ble_eq_true rfl) dX2_holds_13 ⟨(Nat.le_of_ble_eq_true rfl), (Nat.le_of_ble_eq_true rfl)⟩) (fun H locs w => ?_)
  refine lv_imul X.1 X.2.1 dX2_holds_16 ?_
  exact w_iret X hr hlk w (by  exact ⟨rfl, rfl⟩) dX2_holds_17 rfl (Nat.le_of_ble_eq_true rfl) (Nat.le_of_ble_eq_true rfl)

set_option maxHeartbeats 4000000 in
set_option maxRecDepth 100000 in
theorem c_X2_lotsWithRoom (l : Launch) (D : va_G) (ca : Nat → ClassId) (ad : Nat → Nat) (E : Em) (F : Fm) (L : Lm) (S : Sm) (n : Nat) (o : Nat) (ho : 2 ≤ o ∧ o < 6) (sz : Nat) : Met l yX2_lotsWithRoom (.code yX2_lotsWithRoom cX2_lotsWithRoom 1 (some .int) :: BG) { frames := 0, cells := 0, slots := 0, locals := 0 } (Pw D ca ad (E, F, L, S, n) sz [.ref (ad o)]) (Qi D ca ad n (fun r u => r = s_room F o ∧ u = (E, F, L, S, n)) sz) 0 0 (wA ad n sz) := by
  refine open_W (σ := (E, F, L, S, n)) (Qc := Qi D ca ad n (fun r u => r = s_room F o ∧ u = (E, F, L, S, n))) (by decide +kernel) (Nat.le_of_ble_eq_true rfl) ?_
  intro p e s m args below meth c X hr hlk w cn ls hl
  have hl : lv_has ls 1 [(0, .ref (ad o))] := hl
  refine lv_ldc (v := 99999) X.1 X.2.1 X.2.2.2.1 (X.2.2.2.2 _ kw_548) dX2_lotsWithRoom_0 ?_
  refine lv_aload_n X.1 X.2.1 dX2_lotsWithRoom_2 rfl (lv_at hl 0 rfl) ?_
  refine g_P X w ho 3 (by decide) (v := .int (F o 3)) rfl kw_67 dX2_lotsWithRoom_3 ?_
  refine lv_isub X.1 X.2.1 dX2_lotsWithRoom_6 ?_
  refine lv_sipush (v := 250) X.1 X.2.1 dX2_lotsWithRoom_7 (by decide) ?_
  refine lv_idiv X.1 X.2.1 dX2_lotsWithRoom_10 (by decide) ?_
  exact w_iret X hr hlk w (by  exact ⟨rfl, rfl⟩) dX2_lotsWithRoom_11 rfl (Nat.le_of_ble_eq_true rfl) (Nat.le_of_ble_eq_true rfl)

set_option maxHeartbeats 4000000 in
set_option maxRecDepth 100000 in
theorem c_X3_passesOf (l : Launch) (D : va_G) (ca : Nat → ClassId) (ad : Nat → Nat) (E : Em) (F : Fm) (L : Lm) (S : Sm) (n : Nat) (o : Nat) (ho : 6 ≤ o ∧ o < 10) (j : Nat) (hj : j < n) (sz : Nat) : Met l yX3_passesOf (.code yX3_passesOf cX3_passesOf 2 (some .int) :: BG) { frames := 1, cells := 0, slots := 0, locals := 21 } (Pw D ca ad (E, F, L, S, n) sz [.ref (ad o), .ref (ad (17 + j))]) (Qi D ca ad n (fun r u => r = s_passes F o j ∧ u = (E, F, L, S, n)) sz) 0 0 (wA ad n sz) := by
  refine open_W (σ := (E, F, L, S, n)) (Qc := Qi D ca ad n (fun r u => r = s_passes F o j ∧ u = (E, F, L, S, n))) (by decide +kernel) (Nat.le_of_ble_eq_true rfl) ?_
  intro p e s m args below meth c X hr hlk w cn ls hl
  have hl : lv_has ls 2 [(0, .ref (ad o)), (1, .ref (ad (17 + j)))] := hl
  refine lv_aload_n X.1 X.2.1 dX3_passesOf_0 rfl (lv_at hl 1 rfl) ?_
  refine gn_J X cn w hj 4 (by decide) (v := .int (F (17 + j) 4)) rfl kw_472 dX3_passesOf_1 ?_
  refine n_calli w (n_runL (n := 1) (As := [.int (F (17 + j) 4)]) X (c_J6_bitCount_0f7a4 l (F (17 + j) 4)) kw_329 kw_330 kw_43 kw_331 rfl rfl (by decide +kernel) ⟨(Nat.le_of_ble_eq_true rfl), (Nat.le_of_ble_eq_true rfl)⟩ rfl hl.1 rfl (Nat.le_of_ble_eq_true rfl) dX3_passesOf_4 ⟨(Nat.le_of_ble_eq_true rfl), (Nat.le_of_ble_eq_true rfl)⟩) (fun H locs w => ?_)
  refine lv_aload_n X.1 X.2.1 dX3_passesOf_7 rfl (lv_at hl 0 rfl) ?_
  refine g_R X w ho 0 (by decide) (v := .int (F o 0)) rfl kw_88 dX3_passesOf_8 ?_
  refine n_calli w (n_runN (n := 2) (As := [.int (bitC (F (17 + j) 4)), .int (F o 0)]) X cn (c_X4_divideUp l (bitC (F (17 + j) 4)) (F o 0)) kw_335 kw_323 kw_31 kw_324 rfl rfl (by decide +kernel) ⟨(Nat.le_of_ble_eq_true rfl), (Nat.le_of_ble_eq_true rfl)⟩ rfl hl.1 rfl (Nat.le_of_ble_eq_true rfl) dX3_passesOf_11 ⟨(Nat.le_of_ble_eq_true rfl), (Nat.le_of_ble_eq_true rfl)⟩) (fun H locs w => ?_)
  exact w_iret X hr hlk w (by  exact ⟨rfl, rfl⟩) dX3_passesOf_14 rfl (Nat.le_of_ble_eq_true rfl) (Nat.le_of_ble_eq_true rfl)

set_option maxHeartbeats 4000000 in
set_option maxRecDepth 100000 in
theorem c_X4_changeOf (l : Launch) (D : va_G) (ca : Nat → ClassId) (ad : Nat → Nat) (E : Em) (F : Fm) (L : Lm) (S : Sm) (n : Nat) (j : Nat) (hj : j < n) (inks : Int32) (sz : Nat) : Met l yX4_changeOf (.code yX4_changeOf cX4_changeOf 2 (some .int) :: BG) { frames := 1, cells := 0, slots := 0, locals := 20 } (Pw D ca ad (E, F, L, S, n) sz [.ref (ad (17 + j)), .int inks]) (Qi D ca ad n (fun r u => r = s_change F j inks ∧ u = (E, F, L, S, n)) sz) 0 0 (wA ad n sz) := by
  refine open_W (σ := (E, F, L, S, n)) (Qc := Qi D ca ad n (fun r u => r = s_change F j inks ∧ u = (E, F, L, S, n))) (by decide +kernel) (Nat.le_of_ble_eq_true rfl) ?_
  intro p e s m args below meth c X hr hlk w cn ls hl
  have hl : lv_has ls 2 [(0, .ref (ad (17 + j))), (1, .int inks)] := hl
  refine lv_iconst (v := 4) X.1 X.2.1 dX4_changeOf_0 (by decide) ?_
  refine lv_aload_n X.1 X.2.1 dX4_changeOf_1 rfl (lv_at hl 0 rfl) ?_
  refine gn_J X cn w hj 4 (by decide) (v := .int (F (17 + j) 4)) rfl kw_473 dX4_changeOf_2 ?_
  refine lv_iload_n X.1 X.2.1 dX4_changeOf_5 rfl (lv_at hl 1 rfl) ?_
  refine lv_iconst (v := (-1)) X.1 X.2.1 dX4_changeOf_6 (by decide) ?_
  refine lv_ixor X.1 X.2.1 dX4_changeOf_7 ?_
  refine lv_iand X.1 X.2.1 dX4_changeOf_8 ?_
  refine n_calli w (n_runL (n := 1) (As := [.int ((F (17 + j) 4) &&& (inks ^^^ (-1)))]) X (c_J6_bitCount_0f7a4 l ((F (17 + j) 4) &&& (inks ^^^ (-1)))) kw_339 kw_330 kw_43 kw_331 rfl rfl (by decide +kernel) ⟨(Nat.le_of_ble_eq_true rfl), (Nat.le_of_ble_eq_true rfl)⟩ rfl hl.1 rfl (Nat.le_of_ble_eq_true rfl) dX4_changeOf_9 ⟨(Nat.le_of_ble_eq_true rfl), (Nat.le_of_ble_eq_true rfl)⟩) (fun H locs w => ?_)
  refine lv_imul X.1 X.2.1 dX4_changeOf_12 ?_
  exact w_iret X hr hlk w (by  exact ⟨rfl, rfl⟩) dX4_changeOf_13 rfl (Nat.le_of_ble_eq_true rfl) (Nat.le_of_ble_eq_true rfl)

set_option maxHeartbeats 4000000 in
set_option maxRecDepth 100000 in
theorem c_X3_jobAt (l : Launch) (D : va_G) (ca : Nat → ClassId) (ad : Nat → Nat) (E : Em) (F : Fm) (L : Lm) (S : Sm) (n : Nat) (o : Nat) (ho : 6 ≤ o ∧ o < 10) (x : Int32) (sz : Nat) : Met l yX3_jobAt (.code yX3_jobAt cX3_jobAt 2 (some (.object "PrintLedger$Job")) :: BG) { frames := 0, cells := 0, slots := 0, locals := 0 } (Pw D ca ad (E, F, L, S, n) sz [.ref (ad o), .int x]) (Qr D ca ad n (fun r u => r = (s_jobAt F L o x).map (fun j => ad (17 + j)) ∧ u = (E, F, L, S, n)) sz) 0 0 (wA ad n sz) := by
  refine open_W (σ := (E, F, L, S, n)) (Qc := Qr D ca ad n (fun r u => r = (s_jobAt F L o x).map (fun j => ad (17 + j)) ∧ u = (E, F, L, S, n))) (by decide +kernel) (Nat.le_of_ble_eq_true rfl) ?_
  intro p e s m args below meth c X hr hlk w cn ls hl
  have hl : lv_has ls 2 [(0, .ref (ad o)), (1, .int x)] := hl
  refine lv_iload_n X.1 X.2.1 dX3_jobAt_0 rfl (lv_at hl 1 rfl) ?_
  refine lv_if_lt (tgt := 21) X.1 X.2.1 dX3_jobAt_1 (by decide) (fun c1 => ?_) (fun c1 => ?_)
  ·
    refine lv_null X.1 X.2.1 dX3_jobAt_21 ?_
    refine lv_goto (tgt := 31) X.1 X.2.1 dX3_jobAt_22 (by decide) ?_
    exact w_aret (r := none) X hr hlk w (by  exact ⟨by simp [s_jobAt, c1], rfl⟩) dX3_jobAt_31 (Nat.le_of_ble_eq_true rfl) (Nat.le_of_ble_eq_true rfl)
  ·
    refine lv_iload_n X.1 X.2.1 dX3_jobAt_4 rfl (lv_at hl 1 rfl) ?_
    refine lv_aload_n X.1 X.2.1 dX3_jobAt_5 rfl (lv_at hl 0 rfl) ?_
    refine g_R X w ho 6 (by decide) (v := .int (F o 6)) rfl kw_99 dX3_jobAt_6 ?_
    refine lv_icmp_ge (tgt := 21) X.1 X.2.1 dX3_jobAt_9 (by decide) (fun c2 => ?_) (fun c2 => ?_)
    ·
      refine lv_null X.1 X.2.1 dX3_jobAt_21 ?_
      refine lv_goto (tgt := 31) X.1 X.2.1 dX3_jobAt_22 (by decide) ?_
      exact w_aret (r := none) X hr hlk w (by  exact ⟨by simp [s_jobAt, c1, c2], rfl⟩) dX3_jobAt_31 (Nat.le_of_ble_eq_true rfl) (Nat.le_of_ble_eq_true rfl)
    ·
      refine lv_iload_n X.1 X.2.1 dX3_jobAt_12 rfl (lv_at hl 1 rfl) ?_
      refine lv_aload_n X.1 X.2.1 dX3_jobAt_13 rfl (lv_at hl 0 rfl) ?_
      refine g_R X w ho 5 (by decide) (v := .ref (ad (o + 4))) rfl kw_98 dX3_jobAt_14 ?_
      refine len_L X w ho dX3_jobAt_17 ?_
      refine lv_icmp_lt (tgt := 25) X.1 X.2.1 dX3_jobAt_18 (by decide) (fun c3 => ?_) (fun c3 => ?_)
      ·
        refine lv_aload_n X.1 X.2.1 dX3_jobAt_25 rfl (lv_at hl 0 rfl) ?_
        refine g_R X w ho 5 (by decide) (v := .ref (ad (o + 4))) rfl kw_98 dX3_jobAt_26 ?_
        refine lv_iload_n X.1 X.2.1 dX3_jobAt_29 rfl (lv_at hl 1 rfl) ?_
        refine ld_L X w ho (in_of rfl c1 c3) dX3_jobAt_30 ?_
        exact w_aret (r := ((L o (x).toNatClampNeg).map (fun j => ad (17 + j)))) X hr hlk w (by  exact ⟨by simp [s_jobAt, c1, c2, c3], rfl⟩) dX3_jobAt_31 (Nat.le_of_ble_eq_true rfl) (Nat.le_of_ble_eq_true rfl)
      ·
        refine lv_null X.1 X.2.1 dX3_jobAt_21 ?_
        refine lv_goto (tgt := 31) X.1 X.2.1 dX3_jobAt_22 (by decide) ?_
        exact w_aret (r := none) X hr hlk w (by  exact ⟨by simp [s_jobAt, c1, c2, c3], rfl⟩) dX3_jobAt_31 (Nat.le_of_ble_eq_true rfl) (Nat.le_of_ble_eq_true rfl)
end
section
theorem in_lit {x : Int32} {N : Nat} (h : 0 ≤ x.toInt ∧ x.toInt < N) : vp_in x N := vp_in_iff.mpr h
/-! ===== expectations, queues, the ledger: what they answer ===== -/
def s_spoiled (F : Fm) (o j : Nat) : Int32 := s_sheets F j * F o 4 / 1000 + 5 * s_passes F o j
def s_needed (F : Fm) (o j : Nat) : Int32 := s_sheets F j + s_spoiled F o j
def s_running (F : Fm) (o j : Nat) : Int64 := (s_needed F o j).toInt64 * (F o 3).toInt64 * (s_passes F o j).toInt64 / 1000
def s_minutes (F : Fm) (o j : Nat) (inks : Int32) : Int32 := s_change F j inks + F o 2 * s_passes F o j + (s_running F o j).toInt32
def s_cost (F : Fm) (S : Sm) (o j : Nat) (inks : Int32) : Int32 := s_minutes F o j inks * F 0 5 + s_ink F j + s_needed F o j * F (2 + S j) 2
def s_quote (F : Fm) (S : Sm) (o j : Nat) (inks : Int32) : Int32 := ((s_cost F S o j inks).toInt64 * (100 + F 0 6).toInt64 / 100).toInt32
def s_exp (E : Em) (F : Fm) (S : Sm) (o j : Nat) (inks : Int32) : Em := up1 (up1 (up1 (up1 (up1 (up1 (up1 E 0 (s_passes F o j)) 1 (s_change F j inks)) 2 (s_spoiled F o j)) 3 (s_needed F o j)) 4 (s_minutes F o j inks)) 5 (s_cost F S o j inks)) 6 (s_quote F S o j inks)
/-- the whole class's own order: as many jobs as it counts, papers 0 to 3, lines of jobs that are, each as long as it says -/
def Wf (F : Fm) (L : Lm) (S : Sm) (n : Nat) (q : Nat → Nat) : Prop := n ≤ 20 ∧ (F 0 3 = nI n ∧ L 16 = aJb n) ∧ (∀ j, j < n → S j < 4) ∧ ∀ o, 6 ≤ o ∧ o < 10 → F o 6 = nI (q o) ∧ q o ≤ 20 ∧ ∀ k j, L o k = some j → j < n
theorem Wf.job {F : Fm} {L : Lm} {S : Sm} {n : Nat} {q : Nat → Nat} (h : Wf F L S n q) {o : Nat} (ho : 6 ≤ o ∧ o < 10) {k j : Nat} (hk : L o k = some j) : j < n := (h.2.2.2 o ho).2.2 k j hk
theorem cl_nI {k : Nat} (h : k < 2 ^ 31) : (nI k).toNatClampNeg = k := nI_clamp h
theorem jobAt_nI {F : Fm} {L : Lm} {o k w : Nat} (hw : F o 6 = nI w) (h20 : w ≤ 20) (hk : k < w) : s_jobAt F L o (nI k) = L o k := by
  unfold s_jobAt
  rw [if_neg (nI_pos (by omega)), hw, if_neg (by rw [nI_leI (by omega) (by omega)]; omega), if_pos (by rw [show (20 : Int32) = nI 20 from rfl, nI_ltI (by omega) (by omega)]; omega), cl_nI (by omega)]
theorem jobAt_out {F : Fm} {L : Lm} {o k w : Nat} (hw : F o 6 = nI w) (h20 : w ≤ 20) (hk : w ≤ k) (hk2 : k < 2 ^ 31) : s_jobAt F L o (nI k) = none := by
  unfold s_jobAt
  rw [if_neg (nI_pos hk2), hw, if_pos (by rw [nI_leI (by omega) (by omega)]; omega)]
theorem jobAt_of {F : Fm} {L : Lm} {o j : Nat} {x : Int32} (h : s_jobAt F L o x = some j) : L o x.toNatClampNeg = some j := by
  unfold s_jobAt at h
  split at h
  · cases h
  · split at h
    · cases h
    · split at h
      · exact h
      · cases h
def s_nee (F : Fm) (L : Lm) (S : Sm) (t o : Nat) : Nat → Nat → Int32 → Int32
  | 0, _, a => a
  | d + 1, k, a => s_nee F L S t o d (k + 1) (match L o k with
    | none => a
    | some j => if 2 + S j = t then a + s_needed F o j else a)
def s_neededOf (F : Fm) (L : Lm) (S : Sm) (q : Nat → Nat) (t o : Nat) : Int32 := s_nee F L S t o (q o) 0 0
def s_fore (F : Fm) (L : Lm) (S : Sm) (q : Nat → Nat) (t : Nat) : Int32 := 0 + s_neededOf F L S q t 6 + s_neededOf F L S q t 7 + s_neededOf F L S q t 8
def s_short (F : Fm) (L : Lm) (S : Sm) (q : Nat → Nat) (t : Nat) : Int32 := mx (s_fore F L S q t - F t 3) 0
def s_min (F : Fm) (L : Lm) (o : Nat) : Nat → Nat → Int32 → Int32 → Int32
  | 0, _, a, _ => a
  | d + 1, k, a, i => match L o k with
    | none => s_min F L o d (k + 1) a i
    | some j => s_min F L o d (k + 1) (a + s_minutes F o j i) (F (17 + j) 4)
def s_minQ (F : Fm) (L : Lm) (q : Nat → Nat) (o : Nat) : Int32 := s_min F L o (q o) 0 0 (F o 1)
def s_cnt (F : Fm) (n : Nat) (st : Int32) : Nat → Nat → Int32 → Int32
  | 0, _, a => a
  | d + 1, k, a => s_cnt F n st d (k + 1) (if k < n then (if F (17 + k) 8 = st then a + 1 else a) else a)
def s_sum (F : Fm) (n f : Nat) : Nat → Nat → Int32 → Int32
  | 0, _, a => a
  | d + 1, k, a => s_sum F n f d (k + 1) (if k < n then a + F (17 + k) f else a)
def s_count (F : Fm) (n : Nat) (st : Int32) : Int32 := s_cnt F n st 20 0 0
def s_total (F : Fm) (n f : Nat) : Int32 := s_sum F n f 20 0 0
def s_worthS (F : Fm) : Int32 := 0 + F 2 3 * F 2 2 + F 3 3 * F 3 2 + F 4 3 * F 4 2 + F 5 3 * F 5 2
def s_bring (F : Fm) (t : Nat) (lots : Int32) : Fm := up2 (up2 F t 3 (F t 3 + lots * 250)) 0 4 (up2 F t 3 (F t 3 + lots * 250) 0 4 - lots * 250 * up2 F t 3 (F t 3 + lots * 250) t 2)
def s_lots (F : Fm) (L : Lm) (S : Sm) (q : Nat → Nat) (t : Nat) : Int32 := mn (mn (s_divUp (s_short F L S q t) 250) 40) (s_room F t)
def s_buyF (F : Fm) (L : Lm) (S : Sm) (q : Nat → Nat) (t : Nat) : Fm := s_bring F t (s_lots F L S q t)
theorem ge20 {k d : Nat} (h : k + d = 20) : (20 : Int32) ≤ nI k ↔ d = 0 := by
  rw [show (20 : Int32) = nI 20 from rfl, nI_leI (by omega) (by omega)]
  omega
theorem geN {k d w : Nat} (h : k + d = w) (hw : w ≤ 20) : nI w ≤ nI k ↔ d = 0 := by
  rw [nI_leI (by omega) (by omega)]
  omega
theorem in20 {k d : Nat} (h : k + (d + 1) = 20) : vp_in (nI k) 20 := vp_in_nI (by omega) (by omega)
/-- numbers that the order doesn't speak of may change -/
theorem Wf.up {F : Fm} {L : Lm} {S : Sm} {n : Nat} {q : Nat → Nat} (h : Wf F L S n q) {o k : Nat} {v : Int32} (h0 : ¬ (o = 0 ∧ k = 3)) (h1 : ¬ ((6 ≤ o ∧ o < 10) ∧ k = 6)) : Wf (up2 F o k v) L S n q := by
  refine ⟨h.1, ⟨?_, h.2.1.2⟩, h.2.2.1, fun a ha => ⟨?_, (h.2.2.2 a ha).2⟩⟩
  · by_cases e : (0 : Nat) = o
    · subst e
      rw [up2_o (by omega)]; exact h.2.1.1
    · rw [up2_ne e]; exact h.2.1.1
  · by_cases e : a = o
    · subst e
      rw [up2_o (by omega)]; exact (h.2.2.2 a ha).1
    · rw [up2_ne e]; exact (h.2.2.2 a ha).1
theorem Wf.buy {F : Fm} {L : Lm} {S : Sm} {n : Nat} {q : Nat → Nat} (h : Wf F L S n q) {t : Nat} (ht : 2 ≤ t ∧ t < 6) {x : Int32} : Wf (s_bring F t x) L S n q :=
  (h.up (by omega) (by omega)).up (by omega) (by omega)
end
section
set_option maxHeartbeats 4000000 in
set_option maxRecDepth 100000 in
theorem c_X4_expect (l : Launch) (D : va_G) (ca : Nat → ClassId) (ad : Nat → Nat) (E : Em) (F : Fm) (L : Lm) (S : Sm) (n : Nat) (j : Nat) (hj : j < n) (o : Nat) (ho : 6 ≤ o ∧ o < 10) (i : Int32) (hs : ∀ j, j < n → S j < 4) (sz : Nat) : Met l yX4_expect (.code yX4_expect cX4_expect 8 (some (.object "PrintLedger$Expectation")) :: BG) { frames := 2, cells := 0, slots := 0, locals := 42 } (Pw D ca ad (E, F, L, S, n) sz [.ref (ad 0), .ref (ad (17 + j)), .ref (ad o), .int i]) (Qr D ca ad n (fun r u => r = some (ad 1) ∧ u = (s_exp E F S o j i, F, L, S, n)) sz) 0 0 (wA ad n sz) := by
  refine open_W (σ := (E, F, L, S, n)) (Qc := Qr D ca ad n (fun r u => r = some (ad 1) ∧ u = (s_exp E F S o j i, F, L, S, n))) (by decide +kernel) (Nat.le_of_ble_eq_true rfl) ?_
  intro p e s m args below meth c X hr hlk w cn ls hl
  have hl : lv_has ls 8 [(0, .ref (ad 0)), (1, .ref (ad (17 + j))), (2, .ref (ad o)), (3, .int i)] := hl
  refine lv_aload_n X.1 X.2.1 dX4_expect_0 rfl (lv_at hl 0 rfl) ?_
  refine g_L X w 9 (by decide) (v := .ref (ad 1)) rfl kw_154 dX4_expect_1 ?_
  refine lv_astore (lv' := [(4, .ref (ad 1)), (0, .ref (ad 0)), (1, .ref (ad (17 + j))), (2, .ref (ad o)), (3, .int i)]) X.1 X.2.1 dX4_expect_4 hl (by decide) rfl (fun ls hl => ?_)
  refine lv_aload_n X.1 X.2.1 dX4_expect_6 rfl (lv_at hl 2 rfl) ?_
  refine w_calli cn w (w_runVN (n := 0) (As := []) X cn w (Nat.add_lt_add_left hj 17) wC_J rfl (fun sz => c_X1_sheets l D ca ad E F L S n j hj sz) kw_314 kw_316 kw_10 kw_42 kw_318 rfl rfl (by decide +kernel) ⟨(Nat.le_of_ble_eq_true rfl), (Nat.le_of_ble_eq_true rfl)⟩ rfl hl.1 rfl (Nat.le_of_ble_eq_true rfl) dX4_expect_7 ⟨(Nat.le_of_ble_eq_true rfl), (Nat.le_of_ble_eq_true rfl)⟩) (fun r1 u H locs hp w => ?_)
  obtain ⟨rfl, rfl⟩ := hp
  refine lv_topi (fun x2 ex2 => ?_)
  refine lv_istore (lv' := [(5, .int x2), (4, .ref (ad 1)), (0, .ref (ad 0)), (1, .ref (ad (17 + j))), (2, .ref (ad o)), (3, .int i)]) X.1 X.2.1 dX4_expect_10 hl (by decide) rfl (fun ls hl => ?_)
  refine lv_aload X.1 X.2.1 dX4_expect_12 (lv_at hl 1 rfl) ?_
  refine lv_aload_n X.1 X.2.1 dX4_expect_14 rfl (lv_at hl 4 rfl) ?_
  refine lv_aload_n X.1 X.2.1 dX4_expect_15 rfl (lv_at hl 3 rfl) ?_
  refine w_calli cn w (w_runVN (n := 1) (As := [.ref (ad (17 + j))]) X cn w (lt17 (by have := ho; omega)) (wC_R (ho).1 (ho).2) rfl (fun sz => c_X3_passesOf l D ca ad E F L S n o ho j hj sz) kw_325 kw_327 kw_11 kw_33 kw_328 rfl rfl (by decide +kernel) ⟨(Nat.le_of_ble_eq_true rfl), (Nat.le_of_ble_eq_true rfl)⟩ rfl hl.1 rfl (Nat.le_of_ble_eq_true rfl) dX4_expect_16 ⟨(Nat.le_of_ble_eq_true rfl), (Nat.le_of_ble_eq_true rfl)⟩) (fun r3 u H locs hp w => ?_)
  obtain ⟨rfl, rfl⟩ := hp
  refine lv_topi (fun x4 ex4 => ?_)
  refine pn_E X cn w 0 (by decide) rfl (by decide +kernel) (v := x4) kw_123 dX4_expect_19 (fun H locs w => ?_)
  obtain ⟨E5, eE5⟩ : ∃ G : Em, G = up1 E 0 x4 := ⟨_, rfl⟩
  rw [← eE5] at w
  refine lv_aload X.1 X.2.1 dX4_expect_22 (lv_at hl 1 rfl) ?_
  refine lv_aload_n X.1 X.2.1 dX4_expect_24 rfl (lv_at hl 3 rfl) ?_
  refine lv_iload_n X.1 X.2.1 dX4_expect_25 rfl (lv_at hl 5 rfl) ?_
  refine w_calli cn w (w_runS (n := 2) (As := [.ref (ad (17 + j)), .int i]) X cn w (fun sz => c_X4_changeOf l D ca ad E5 F L S n j hj i sz) (bg_S kw_336 kw_337 kw_31 kw_338) rfl rfl (by decide +kernel) ⟨(Nat.le_of_ble_eq_true rfl), (Nat.le_of_ble_eq_true rfl)⟩ rfl hl.1 rfl (Nat.le_of_ble_eq_true rfl) dX4_expect_26 ⟨(Nat.le_of_ble_eq_true rfl), (Nat.le_of_ble_eq_true rfl)⟩) (fun r6 u H locs hp w => ?_)
  obtain ⟨rfl, rfl⟩ := hp
  refine lv_topi (fun x7 ex7 => ?_)
  refine pn_E X cn w 1 (by decide) rfl (by decide +kernel) (v := x7) kw_124 dX4_expect_29 (fun H locs w => ?_)
  obtain ⟨E8, eE8⟩ : ∃ G : Em, G = up1 E5 1 x7 := ⟨_, rfl⟩
  rw [← eE8] at w
  refine lv_aload X.1 X.2.1 dX4_expect_32 (lv_at hl 1 rfl) ?_
  refine lv_iload X.1 X.2.1 dX4_expect_34 (lv_at hl 0 rfl) ?_
  refine lv_aload_n X.1 X.2.1 dX4_expect_36 rfl (lv_at hl 4 rfl) ?_
  refine gn_R X cn w ho 4 (by decide) (v := .int (F o 4)) rfl kw_97 dX4_expect_37 ?_
  refine lv_imul X.1 X.2.1 dX4_expect_40 ?_
  refine lv_sipush (v := 1000) X.1 X.2.1 dX4_expect_41 (by decide) ?_
  refine lv_idiv X.1 X.2.1 dX4_expect_44 (by decide) ?_
  refine lv_iconst (v := 5) X.1 X.2.1 dX4_expect_45 (by decide) ?_
  refine lv_aload X.1 X.2.1 dX4_expect_46 (lv_at hl 1 rfl) ?_
  refine gn_E X cn w 0 (by decide) (v := .int (E8 0)) rfl kw_123 dX4_expect_48 ?_
  refine W.eq (g2 := F0 m 51 ls [.int x4, .int 5, .int ((x2 * (F o 4)) / 1000), .ref (ad 1)]) (by subst eE8; subst eE5; rfl) ?_
  refine lv_imul X.1 X.2.1 dX4_expect_51 ?_
  refine lv_iadd X.1 X.2.1 dX4_expect_52 ?_
  refine lv_topi (fun x9 ex9 => ?_)
  refine pn_E X cn w 2 (by decide) rfl (by decide +kernel) (v := x9) kw_125 dX4_expect_53 (fun H locs w => ?_)
  obtain ⟨E10, eE10⟩ : ∃ G : Em, G = up1 E8 2 x9 := ⟨_, rfl⟩
  rw [← eE10] at w
  refine lv_aload X.1 X.2.1 dX4_expect_56 (lv_at hl 1 rfl) ?_
  refine lv_iload X.1 X.2.1 dX4_expect_58 (lv_at hl 0 rfl) ?_
  refine lv_aload X.1 X.2.1 dX4_expect_60 (lv_at hl 1 rfl) ?_
  refine gn_E X cn w 2 (by decide) (v := .int (E10 2)) rfl kw_125 dX4_expect_62 ?_
  refine W.eq (g2 := F0 m 65 ls [.int x9, .int x2, .ref (ad 1)]) (by subst eE10; subst eE8; subst eE5; rfl) ?_
  refine lv_iadd X.1 X.2.1 dX4_expect_65 ?_
  refine lv_topi (fun x11 ex11 => ?_)
  refine pn_E X cn w 3 (by decide) rfl (by decide +kernel) (v := x11) kw_126 dX4_expect_66 (fun H locs w => ?_)
  obtain ⟨E12, eE12⟩ : ∃ G : Em, G = up1 E10 3 x11 := ⟨_, rfl⟩
  rw [← eE12] at w
  refine lv_aload X.1 X.2.1 dX4_expect_69 (lv_at hl 1 rfl) ?_
  refine gn_E X cn w 3 (by decide) (v := .int (E12 3)) rfl kw_126 dX4_expect_71 ?_
  refine W.eq (g2 := F0 m 74 ls [.int x11]) (by subst eE12; subst eE10; subst eE8; subst eE5; rfl) ?_
  refine lv_i2l X.1 X.2.1 dX4_expect_74 rfl ?_
  refine lv_aload_n X.1 X.2.1 dX4_expect_75 rfl (lv_at hl 4 rfl) ?_
  refine gn_R X cn w ho 3 (by decide) (v := .int (F o 3)) rfl kw_95 dX4_expect_76 ?_
  refine lv_i2l X.1 X.2.1 dX4_expect_79 rfl ?_
  refine lv_lmul X.1 X.2.1 dX4_expect_80 ?_
  refine lv_aload X.1 X.2.1 dX4_expect_81 (lv_at hl 1 rfl) ?_
  refine gn_E X cn w 0 (by decide) (v := .int (E12 0)) rfl kw_123 dX4_expect_83 ?_
  refine W.eq (g2 := F0 m 86 ls [.int x4, .long (((x11 : Int32).toInt64) * (((F o 3) : Int32).toInt64))]) (by subst eE12; subst eE10; subst eE8; subst eE5; rfl) ?_
  refine lv_i2l X.1 X.2.1 dX4_expect_86 rfl ?_
  refine lv_lmul X.1 X.2.1 dX4_expect_87 ?_
  refine lv_ldc2 (v := 1000) X.1 X.2.1 X.2.2.2.1 (X.2.2.2.2 _ kw_340) dX4_expect_88 ?_
  refine lv_ldiv X.1 X.2.1 dX4_expect_91 (by decide) ?_
  refine lv_topl (fun x13 ex13 => ?_)
  refine lv_lstore (lv' := [(6, .long x13), (5, .int x2), (4, .ref (ad 1)), (0, .ref (ad 0)), (1, .ref (ad (17 + j))), (2, .ref (ad o)), (3, .int i)]) X.1 X.2.1 dX4_expect_92 hl (by decide) rfl (fun ls hl => ?_)
  refine lv_aload X.1 X.2.1 dX4_expect_94 (lv_at hl 2 rfl) ?_
  refine lv_aload X.1 X.2.1 dX4_expect_96 (lv_at hl 2 rfl) ?_
  refine gn_E X cn w 1 (by decide) (v := .int (E12 1)) rfl kw_124 dX4_expect_98 ?_
  refine W.eq (g2 := F0 m 101 ls [.int x7, .ref (ad 1)]) (by subst eE12; subst eE10; subst eE8; subst eE5; rfl) ?_
  refine lv_aload_n X.1 X.2.1 dX4_expect_101 rfl (lv_at hl 5 rfl) ?_
  refine gn_R X cn w ho 2 (by decide) (v := .int (F o 2)) rfl kw_93 dX4_expect_102 ?_
  refine lv_aload X.1 X.2.1 dX4_expect_105 (lv_at hl 2 rfl) ?_
  refine gn_E X cn w 0 (by decide) (v := .int (E12 0)) rfl kw_123 dX4_expect_107 ?_
  refine W.eq (g2 := F0 m 110 ls [.int x4, .int (F o 2), .int x7, .ref (ad 1)]) (by subst eE12; subst eE10; subst eE8; subst eE5; rfl) ?_
  refine lv_imul X.1 X.2.1 dX4_expect_110 ?_
  refine lv_iadd X.1 X.2.1 dX4_expect_111 ?_
  refine lv_lload X.1 X.2.1 dX4_expect_112 (lv_at hl 0 rfl) ?_
  refine lv_l2i X.1 X.2.1 dX4_expect_114 rfl ?_
  refine lv_iadd X.1 X.2.1 dX4_expect_115 ?_
  refine lv_topi (fun x14 ex14 => ?_)
  refine pn_E X cn w 4 (by decide) rfl (by decide +kernel) (v := x14) kw_127 dX4_expect_116 (fun H locs w => ?_)
  obtain ⟨E15, eE15⟩ : ∃ G : Em, G = up1 E12 4 x14 := ⟨_, rfl⟩
  rw [← eE15] at w
  refine lv_aload X.1 X.2.1 dX4_expect_119 (lv_at hl 2 rfl) ?_
  refine lv_aload X.1 X.2.1 dX4_expect_121 (lv_at hl 2 rfl) ?_
  refine gn_E X cn w 4 (by decide) (v := .int (E15 4)) rfl kw_127 dX4_expect_123 ?_
  refine W.eq (g2 := F0 m 126 ls [.int x14, .ref (ad 1)]) (by subst eE15; subst eE12; subst eE10; subst eE8; subst eE5; rfl) ?_
  refine lv_aload_n X.1 X.2.1 dX4_expect_126 rfl (lv_at hl 3 rfl) ?_
  refine g_L X w 5 (by decide) (v := .int (F 0 5)) rfl kw_150 dX4_expect_127 ?_
  refine lv_imul X.1 X.2.1 dX4_expect_130 ?_
  refine lv_aload_n X.1 X.2.1 dX4_expect_131 rfl (lv_at hl 4 rfl) ?_
  refine w_calli cn w (w_runVN (n := 0) (As := []) X cn w (Nat.add_lt_add_left hj 17) wC_J rfl (fun sz => c_X1_moneyOfInks l D ca ad E15 F L S n j hj sz) kw_341 kw_343 kw_12 kw_42 kw_344 rfl rfl (by decide +kernel) ⟨(Nat.le_of_ble_eq_true rfl), (Nat.le_of_ble_eq_true rfl)⟩ rfl hl.1 rfl (Nat.le_of_ble_eq_true rfl) dX4_expect_132 ⟨(Nat.le_of_ble_eq_true rfl), (Nat.le_of_ble_eq_true rfl)⟩) (fun r16 u H locs hp w => ?_)
  obtain ⟨rfl, rfl⟩ := hp
  refine lv_iadd X.1 X.2.1 dX4_expect_135 ?_
  refine lv_aload X.1 X.2.1 dX4_expect_136 (lv_at hl 2 rfl) ?_
  refine gn_E X cn w 3 (by decide) (v := .int (E15 3)) rfl kw_126 dX4_expect_138 ?_
  refine W.eq (g2 := F0 m 141 ls [.int x11, .int ((x14 * (F 0 5)) + (s_ink F j)), .ref (ad 1)]) (by subst eE15; subst eE12; subst eE10; subst eE8; subst eE5; rfl) ?_
  refine lv_aload_n X.1 X.2.1 dX4_expect_141 rfl (lv_at hl 4 rfl) ?_
  refine gn_J X cn w hj 2 (by decide) (v := .ref (ad (2 + S j))) rfl kw_468 dX4_expect_142 ?_
  refine gn_P X cn w (pap_ok (hs _ hj)) 2 (by decide) (v := .int (F (2 + S j) 2)) rfl kw_66 dX4_expect_145 ?_
  refine lv_imul X.1 X.2.1 dX4_expect_148 ?_
  refine lv_iadd X.1 X.2.1 dX4_expect_149 ?_
  refine lv_topi (fun x17 ex17 => ?_)
  refine pn_E X cn w 5 (by decide) rfl (by decide +kernel) (v := x17) kw_128 dX4_expect_150 (fun H locs w => ?_)
  obtain ⟨E18, eE18⟩ : ∃ G : Em, G = up1 E15 5 x17 := ⟨_, rfl⟩
  rw [← eE18] at w
  refine lv_aload X.1 X.2.1 dX4_expect_153 (lv_at hl 2 rfl) ?_
  refine lv_aload X.1 X.2.1 dX4_expect_155 (lv_at hl 2 rfl) ?_
  refine gn_E X cn w 5 (by decide) (v := .int (E18 5)) rfl kw_128 dX4_expect_157 ?_
  refine W.eq (g2 := F0 m 160 ls [.int x17, .ref (ad 1)]) (by subst eE18; subst eE15; subst eE12; subst eE10; subst eE8; subst eE5; rfl) ?_
  refine lv_i2l X.1 X.2.1 dX4_expect_160 rfl ?_
  refine lv_bipush (v := 100) X.1 X.2.1 dX4_expect_161 (by decide) ?_
  refine lv_aload_n X.1 X.2.1 dX4_expect_163 rfl (lv_at hl 3 rfl) ?_
  refine g_L X w 6 (by decide) (v := .int (F 0 6)) rfl kw_151 dX4_expect_164 ?_
  refine lv_iadd X.1 X.2.1 dX4_expect_167 ?_
  refine lv_i2l X.1 X.2.1 dX4_expect_168 rfl ?_
  refine lv_lmul X.1 X.2.1 dX4_expect_169 ?_
  refine lv_ldc2 (v := 100) X.1 X.2.1 X.2.2.2.1 (X.2.2.2.2 _ kw_346) dX4_expect_170 ?_
  refine lv_ldiv X.1 X.2.1 dX4_expect_173 (by decide) ?_
  refine lv_l2i X.1 X.2.1 dX4_expect_174 rfl ?_
  refine lv_topi (fun x19 ex19 => ?_)
  refine pn_E X cn w 6 (by decide) rfl (by decide +kernel) (v := x19) kw_129 dX4_expect_175 (fun H locs w => ?_)
  obtain ⟨E20, eE20⟩ : ∃ G : Em, G = up1 E18 6 x19 := ⟨_, rfl⟩
  rw [← eE20] at w
  refine lv_aload X.1 X.2.1 dX4_expect_178 (lv_at hl 2 rfl) ?_
  exact w_aret (r := (some (ad 1))) X hr hlk w (by subst eE20; subst ex19; subst eE18; subst ex17; subst eE15; subst ex14; subst ex13; subst eE12; subst ex11; subst eE10; subst ex9; subst eE8; subst ex7; subst eE5; subst ex4; subst ex2; exact ⟨rfl, rfl⟩) dX4_expect_180 (Nat.le_of_ble_eq_true rfl) (Nat.le_of_ble_eq_true rfl)

def s_learn (F : Fm) (o j : Nat) (mi sp tk : Int32) : Fm :=
  up2 (up2 (if mi - s_change F j (F o 1) - F o 2 * s_passes F o j < 0 then up2 F o 2 (s_rate ((3 * F o 2 + s_div (mx (mi - s_change F j (F o 1)) 0) (s_passes F o j)) / 4)) else up2 F o 3 (s_rate ((3 * F o 3 + s_div ((mi - s_change F j (F o 1) - F o 2 * s_passes F o j) * 1000) (tk * s_passes F o j)) / 4)))
    o 4 (mn ((3 * F o 4 + s_div (sp * 1000) tk) / 4) 999)) o 1 (F (17 + j) 4)

set_option maxHeartbeats 4000000 in
set_option maxRecDepth 100000 in
theorem c_X3_learn (l : Launch) (D : va_G) (ca : Nat → ClassId) (ad : Nat → Nat) (E : Em) (F : Fm) (L : Lm) (S : Sm) (n : Nat) (o : Nat) (ho : 6 ≤ o ∧ o < 10) (j : Nat) (hj : j < n) (mi sp tk : Int32) (sz : Nat) : Met l yX3_learn (.code yX3_learn cX3_learn 8 none :: BG) { frames := 2, cells := 0, slots := 0, locals := 42 } (Pw D ca ad (E, F, L, S, n) sz [.ref (ad o), .ref (ad (17 + j)), .int mi, .int sp, .int tk]) (Qv D ca ad n (fun u => u = (E, s_learn F o j mi sp tk, L, S, n)) sz) 0 0 (wA ad n sz) := by
  refine open_W (σ := (E, F, L, S, n)) (Qc := Qv D ca ad n (fun u => u = (E, s_learn F o j mi sp tk, L, S, n))) (by decide +kernel) (Nat.le_of_ble_eq_true rfl) ?_
  intro p e s m args below meth c X hr hlk w cn ls hl
  have hl : lv_has ls 8 [(0, .ref (ad o)), (1, .ref (ad (17 + j))), (2, .int mi), (3, .int sp), (4, .int tk)] := hl
  refine lv_aload_n X.1 X.2.1 dX3_learn_0 rfl (lv_at hl 0 rfl) ?_
  refine lv_aload_n X.1 X.2.1 dX3_learn_1 rfl (lv_at hl 1 rfl) ?_
  refine w_calli cn w (w_runV (n := 1) (As := [.ref (ad (17 + j))]) X cn w (lt17 (by have := ho; omega)) (wC_R (ho).1 (ho).2) rfl (fun sz => c_X3_passesOf l D ca ad E F L S n o ho j hj sz) (bg_V kw_622 kw_327 kw_11 kw_33 kw_328) rfl rfl (by decide +kernel) ⟨(Nat.le_of_ble_eq_true rfl), (Nat.le_of_ble_eq_true rfl)⟩ rfl hl.1 rfl (Nat.le_of_ble_eq_true rfl) dX3_learn_2 ⟨(Nat.le_of_ble_eq_true rfl), (Nat.le_of_ble_eq_true rfl)⟩) (fun r1 u H locs hp w => ?_)
  obtain ⟨rfl, rfl⟩ := hp
  refine lv_topi (fun x2 ex2 => ?_)
  refine lv_istore (lv' := [(5, .int x2), (0, .ref (ad o)), (1, .ref (ad (17 + j))), (2, .int mi), (3, .int sp), (4, .int tk)]) X.1 X.2.1 dX3_learn_5 hl (by decide) rfl (fun ls hl => ?_)
  refine lv_iload_n X.1 X.2.1 dX3_learn_7 rfl (lv_at hl 3 rfl) ?_
  refine lv_aload_n X.1 X.2.1 dX3_learn_8 rfl (lv_at hl 2 rfl) ?_
  refine lv_aload_n X.1 X.2.1 dX3_learn_9 rfl (lv_at hl 1 rfl) ?_
  refine g_R X w ho 1 (by decide) (v := .int (F o 1)) rfl kw_90 dX3_learn_10 ?_
  refine w_calli cn w (w_runSN (n := 2) (As := [.ref (ad (17 + j)), .int (F o 1)]) X cn w (fun sz => c_X4_changeOf l D ca ad E F L S n j hj (F o 1) sz) kw_587 kw_337 kw_31 kw_338 rfl rfl (by decide +kernel) ⟨(Nat.le_of_ble_eq_true rfl), (Nat.le_of_ble_eq_true rfl)⟩ rfl hl.1 rfl (Nat.le_of_ble_eq_true rfl) dX3_learn_13 ⟨(Nat.le_of_ble_eq_true rfl), (Nat.le_of_ble_eq_true rfl)⟩) (fun r3 u H locs hp w => ?_)
  obtain ⟨rfl, rfl⟩ := hp
  refine lv_isub X.1 X.2.1 dX3_learn_16 ?_
  refine lv_topi (fun x4 ex4 => ?_)
  refine lv_istore (lv' := [(6, .int x4), (5, .int x2), (0, .ref (ad o)), (1, .ref (ad (17 + j))), (2, .int mi), (3, .int sp), (4, .int tk)]) X.1 X.2.1 dX3_learn_17 hl (by decide) rfl (fun ls hl => ?_)
  refine lv_iload X.1 X.2.1 dX3_learn_19 (lv_at hl 0 rfl) ?_
  refine lv_aload_n X.1 X.2.1 dX3_learn_21 rfl (lv_at hl 2 rfl) ?_
  refine g_R X w ho 2 (by decide) (v := .int (F o 2)) rfl kw_92 dX3_learn_22 ?_
  refine lv_iload X.1 X.2.1 dX3_learn_25 (lv_at hl 1 rfl) ?_
  refine lv_imul X.1 X.2.1 dX3_learn_27 ?_
  refine lv_isub X.1 X.2.1 dX3_learn_28 ?_
  refine lv_topi (fun x5 ex5 => ?_)
  refine lv_istore (lv' := [(7, .int x5), (6, .int x4), (5, .int x2), (0, .ref (ad o)), (1, .ref (ad (17 + j))), (2, .int mi), (3, .int sp), (4, .int tk)]) X.1 X.2.1 dX3_learn_29 hl (by decide) rfl (fun ls hl => ?_)
  refine lv_iload X.1 X.2.1 dX3_learn_31 (lv_at hl 0 rfl) ?_
  refine lv_if_lt (tgt := 69) X.1 X.2.1 dX3_learn_33 (by decide) (fun c6 => ?_) (fun c6 => ?_)
  ·
    refine lv_aload_n X.1 X.2.1 dX3_learn_69 rfl (lv_at hl 3 rfl) ?_
    refine lv_iconst (v := 3) X.1 X.2.1 dX3_learn_70 (by decide) ?_
    refine lv_aload_n X.1 X.2.1 dX3_learn_71 rfl (lv_at hl 3 rfl) ?_
    refine g_R X w ho 2 (by decide) (v := .int (F o 2)) rfl kw_92 dX3_learn_72 ?_
    refine lv_imul X.1 X.2.1 dX3_learn_75 ?_
    refine lv_iload X.1 X.2.1 dX3_learn_76 (lv_at hl 1 rfl) ?_
    refine lv_iconst (v := 0) X.1 X.2.1 dX3_learn_78 (by decide) ?_
    refine n_max X hl.1 (X.2.2.2.2 _ kw_628) (Nat.le_of_ble_eq_true rfl) (Nat.le_of_ble_eq_true rfl) (Nat.le_of_ble_eq_true rfl) (Nat.le_of_ble_eq_true rfl) dX3_learn_79 ?_
    refine lv_iload X.1 X.2.1 dX3_learn_82 (lv_at hl 2 rfl) ?_
    refine n_calli w (n_runN (n := 2) (As := [.int (mx x4 0), .int x2]) X cn (c_X4_divide l (mx x4 0) x2) kw_623 kw_440 kw_31 kw_441 rfl rfl (by decide +kernel) ⟨(Nat.le_of_ble_eq_true rfl), (Nat.le_of_ble_eq_true rfl)⟩ rfl hl.1 rfl (Nat.le_of_ble_eq_true rfl) dX3_learn_84 ⟨(Nat.le_of_ble_eq_true rfl), (Nat.le_of_ble_eq_true rfl)⟩) (fun H locs w => ?_)
    refine lv_iadd X.1 X.2.1 dX3_learn_87 ?_
    refine lv_iconst (v := 4) X.1 X.2.1 dX3_learn_88 (by decide) ?_
    refine lv_idiv X.1 X.2.1 dX3_learn_89 (by decide) ?_
    refine n_calli w (n_runS (n := 1) (As := [.int (((3 * (F o 2)) + (s_div (mx x4 0) x2)) / 4)]) X (c_X3_rateOf l (((3 * (F o 2)) + (s_div (mx x4 0) x2)) / 4)) (bg_S kw_624 kw_625 kw_33 kw_626) rfl rfl (by decide +kernel) ⟨(Nat.le_of_ble_eq_true rfl), (Nat.le_of_ble_eq_true rfl)⟩ rfl hl.1 rfl (Nat.le_of_ble_eq_true rfl) dX3_learn_90 ⟨(Nat.le_of_ble_eq_true rfl), (Nat.le_of_ble_eq_true rfl)⟩) (fun H locs w => ?_)
    refine p_R X w ho 2 (by decide) rfl (by decide +kernel) (v := (s_rate (((3 * (F o 2)) + (s_div (mx x4 0) x2)) / 4))) kw_92 dX3_learn_93 (fun H locs w => ?_)
    obtain ⟨F7, eF7⟩ : ∃ G : Fm, G = up2 F o 2 (s_rate (((3 * (F o 2)) + (s_div (mx x4 0) x2)) / 4)) := ⟨_, rfl⟩
    rw [← eF7] at w
    refine lv_aload_n X.1 X.2.1 dX3_learn_96 rfl (lv_at hl 3 rfl) ?_
    refine lv_iconst (v := 3) X.1 X.2.1 dX3_learn_97 (by decide) ?_
    refine lv_aload_n X.1 X.2.1 dX3_learn_98 rfl (lv_at hl 3 rfl) ?_
    refine g_R X w ho 4 (by decide) (v := .int (F7 o 4)) rfl kw_96 dX3_learn_99 ?_
    refine lv_imul X.1 X.2.1 dX3_learn_102 ?_
    refine lv_iload_n X.1 X.2.1 dX3_learn_103 rfl (lv_at hl 6 rfl) ?_
    refine lv_sipush (v := 1000) X.1 X.2.1 dX3_learn_104 (by decide) ?_
    refine lv_imul X.1 X.2.1 dX3_learn_107 ?_
    refine lv_iload X.1 X.2.1 dX3_learn_108 (lv_at hl 7 rfl) ?_
    refine n_calli w (n_runN (n := 2) (As := [.int (sp * 1000), .int tk]) X cn (c_X4_divide l (sp * 1000) tk) kw_623 kw_440 kw_31 kw_441 rfl rfl (by decide +kernel) ⟨(Nat.le_of_ble_eq_true rfl), (Nat.le_of_ble_eq_true rfl)⟩ rfl hl.1 rfl (Nat.le_of_ble_eq_true rfl) dX3_learn_110 ⟨(Nat.le_of_ble_eq_true rfl), (Nat.le_of_ble_eq_true rfl)⟩) (fun H locs w => ?_)
    refine lv_iadd X.1 X.2.1 dX3_learn_113 ?_
    refine lv_iconst (v := 4) X.1 X.2.1 dX3_learn_114 (by decide) ?_
    refine lv_idiv X.1 X.2.1 dX3_learn_115 (by decide) ?_
    refine lv_sipush (v := 999) X.1 X.2.1 dX3_learn_116 (by decide) ?_
    refine n_min X hl.1 (X.2.2.2.2 _ kw_627) (Nat.le_of_ble_eq_true rfl) (Nat.le_of_ble_eq_true rfl) (Nat.le_of_ble_eq_true rfl) (Nat.le_of_ble_eq_true rfl) dX3_learn_119 ?_
    refine p_R X w ho 4 (by decide) rfl (by decide +kernel) (v := (mn (((3 * (F7 o 4)) + (s_div (sp * 1000) tk)) / 4) 999)) kw_96 dX3_learn_122 (fun H locs w => ?_)
    obtain ⟨F8, eF8⟩ : ∃ G : Fm, G = up2 F7 o 4 (mn (((3 * (F7 o 4)) + (s_div (sp * 1000) tk)) / 4) 999) := ⟨_, rfl⟩
    rw [← eF8] at w
    refine lv_aload_n X.1 X.2.1 dX3_learn_125 rfl (lv_at hl 3 rfl) ?_
    refine lv_aload_n X.1 X.2.1 dX3_learn_126 rfl (lv_at hl 4 rfl) ?_
    refine gn_J X cn w hj 4 (by decide) (v := .int (F8 (17 + j) 4)) rfl kw_472 dX3_learn_127 ?_
    refine p_R X w ho 1 (by decide) rfl (by decide +kernel) (v := (F8 (17 + j) 4)) kw_90 dX3_learn_130 (fun H locs w => ?_)
    obtain ⟨F9, eF9⟩ : ∃ G : Fm, G = up2 F8 o 1 (F8 (17 + j) 4) := ⟨_, rfl⟩
    rw [← eF9] at w
    exact w_vret X hr hlk w (by subst eF9; subst eF8; subst eF7; subst ex5; subst ex4; subst ex2; have hne : ¬ 17 + j = o := (by omega); simp only [s_learn, c6, if_true, if_false]; simp [up2, hne]) dX3_learn_133 (Nat.le_of_ble_eq_true rfl) (Nat.le_of_ble_eq_true rfl)
  ·
    refine lv_aload_n X.1 X.2.1 dX3_learn_36 rfl (lv_at hl 3 rfl) ?_
    refine lv_iconst (v := 3) X.1 X.2.1 dX3_learn_37 (by decide) ?_
    refine lv_aload_n X.1 X.2.1 dX3_learn_38 rfl (lv_at hl 3 rfl) ?_
    refine g_R X w ho 3 (by decide) (v := .int (F o 3)) rfl kw_94 dX3_learn_39 ?_
    refine lv_imul X.1 X.2.1 dX3_learn_42 ?_
    refine lv_iload X.1 X.2.1 dX3_learn_43 (lv_at hl 0 rfl) ?_
    refine lv_sipush (v := 1000) X.1 X.2.1 dX3_learn_45 (by decide) ?_
    refine lv_imul X.1 X.2.1 dX3_learn_48 ?_
    refine lv_iload X.1 X.2.1 dX3_learn_49 (lv_at hl 7 rfl) ?_
    refine lv_iload X.1 X.2.1 dX3_learn_51 (lv_at hl 2 rfl) ?_
    refine lv_imul X.1 X.2.1 dX3_learn_53 ?_
    refine n_calli w (n_runN (n := 2) (As := [.int (x5 * 1000), .int (tk * x2)]) X cn (c_X4_divide l (x5 * 1000) (tk * x2)) kw_623 kw_440 kw_31 kw_441 rfl rfl (by decide +kernel) ⟨(Nat.le_of_ble_eq_true rfl), (Nat.le_of_ble_eq_true rfl)⟩ rfl hl.1 rfl (Nat.le_of_ble_eq_true rfl) dX3_learn_54 ⟨(Nat.le_of_ble_eq_true rfl), (Nat.le_of_ble_eq_true rfl)⟩) (fun H locs w => ?_)
    refine lv_iadd X.1 X.2.1 dX3_learn_57 ?_
    refine lv_iconst (v := 4) X.1 X.2.1 dX3_learn_58 (by decide) ?_
    refine lv_idiv X.1 X.2.1 dX3_learn_59 (by decide) ?_
    refine n_calli w (n_runS (n := 1) (As := [.int (((3 * (F o 3)) + (s_div (x5 * 1000) (tk * x2))) / 4)]) X (c_X3_rateOf l (((3 * (F o 3)) + (s_div (x5 * 1000) (tk * x2))) / 4)) (bg_S kw_624 kw_625 kw_33 kw_626) rfl rfl (by decide +kernel) ⟨(Nat.le_of_ble_eq_true rfl), (Nat.le_of_ble_eq_true rfl)⟩ rfl hl.1 rfl (Nat.le_of_ble_eq_true rfl) dX3_learn_60 ⟨(Nat.le_of_ble_eq_true rfl), (Nat.le_of_ble_eq_true rfl)⟩) (fun H locs w => ?_)
    refine p_R X w ho 3 (by decide) rfl (by decide +kernel) (v := (s_rate (((3 * (F o 3)) + (s_div (x5 * 1000) (tk * x2))) / 4))) kw_94 dX3_learn_63 (fun H locs w => ?_)
    obtain ⟨F10, eF10⟩ : ∃ G : Fm, G = up2 F o 3 (s_rate (((3 * (F o 3)) + (s_div (x5 * 1000) (tk * x2))) / 4)) := ⟨_, rfl⟩
    rw [← eF10] at w
    refine lv_goto (tgt := 96) X.1 X.2.1 dX3_learn_66 (by decide) ?_
    refine lv_aload_n X.1 X.2.1 dX3_learn_96 rfl (lv_at hl 3 rfl) ?_
    refine lv_iconst (v := 3) X.1 X.2.1 dX3_learn_97 (by decide) ?_
    refine lv_aload_n X.1 X.2.1 dX3_learn_98 rfl (lv_at hl 3 rfl) ?_
    refine g_R X w ho 4 (by decide) (v := .int (F10 o 4)) rfl kw_96 dX3_learn_99 ?_
    refine lv_imul X.1 X.2.1 dX3_learn_102 ?_
    refine lv_iload_n X.1 X.2.1 dX3_learn_103 rfl (lv_at hl 6 rfl) ?_
    refine lv_sipush (v := 1000) X.1 X.2.1 dX3_learn_104 (by decide) ?_
    refine lv_imul X.1 X.2.1 dX3_learn_107 ?_
    refine lv_iload X.1 X.2.1 dX3_learn_108 (lv_at hl 7 rfl) ?_
    refine n_calli w (n_runN (n := 2) (As := [.int (sp * 1000), .int tk]) X cn (c_X4_divide l (sp * 1000) tk) kw_623 kw_440 kw_31 kw_441 rfl rfl (by decide +kernel) ⟨(Nat.le_of_ble_eq_true rfl), (Nat.le_of_ble_eq_true rfl)⟩ rfl hl.1 rfl (Nat.le_of_ble_eq_true rfl) dX3_learn_110 ⟨(Nat.le_of_ble_eq_true rfl), (Nat.le_of_ble_eq_true rfl)⟩) (fun H locs w => ?_)
    refine lv_iadd X.1 X.2.1 dX3_learn_113 ?_
    refine lv_iconst (v := 4) X.1 X.2.1 dX3_learn_114 (by decide) ?_
    refine lv_idiv X.1 X.2.1 dX3_learn_115 (by decide) ?_
    refine lv_sipush (v := 999) X.1 X.2.1 dX3_learn_116 (by decide) ?_
    refine n_min X hl.1 (X.2.2.2.2 _ kw_627) (Nat.le_of_ble_eq_true rfl) (Nat.le_of_ble_eq_true rfl) (Nat.le_of_ble_eq_true rfl) (Nat.le_of_ble_eq_true rfl) dX3_learn_119 ?_
    refine p_R X w ho 4 (by decide) rfl (by decide +kernel) (v := (mn (((3 * (F10 o 4)) + (s_div (sp * 1000) tk)) / 4) 999)) kw_96 dX3_learn_122 (fun H locs w => ?_)
    obtain ⟨F11, eF11⟩ : ∃ G : Fm, G = up2 F10 o 4 (mn (((3 * (F10 o 4)) + (s_div (sp * 1000) tk)) / 4) 999) := ⟨_, rfl⟩
    rw [← eF11] at w
    refine lv_aload_n X.1 X.2.1 dX3_learn_125 rfl (lv_at hl 3 rfl) ?_
    refine lv_aload_n X.1 X.2.1 dX3_learn_126 rfl (lv_at hl 4 rfl) ?_
    refine gn_J X cn w hj 4 (by decide) (v := .int (F11 (17 + j) 4)) rfl kw_472 dX3_learn_127 ?_
    refine p_R X w ho 1 (by decide) rfl (by decide +kernel) (v := (F11 (17 + j) 4)) kw_90 dX3_learn_130 (fun H locs w => ?_)
    obtain ⟨F12, eF12⟩ : ∃ G : Fm, G = up2 F11 o 1 (F11 (17 + j) 4) := ⟨_, rfl⟩
    rw [← eF12] at w
    exact w_vret X hr hlk w (by subst eF12; subst eF11; subst eF10; subst ex5; subst ex4; subst ex2; have hne : ¬ 17 + j = o := (by omega); simp only [s_learn, c6, if_true, if_false]; simp [up2, hne]) dX3_learn_133 (Nat.le_of_ble_eq_true rfl) (Nat.le_of_ble_eq_true rfl)

set_option maxHeartbeats 4000000 in
set_option maxRecDepth 100000 in
theorem c_X4_bring (l : Launch) (D : va_G) (ca : Nat → ClassId) (ad : Nat → Nat) (E : Em) (F : Fm) (L : Lm) (S : Sm) (n : Nat) (t : Nat) (ht : 2 ≤ t ∧ t < 6) (lots : Int32) (sz : Nat) : Met l yX4_bring (.code yX4_bring cX4_bring 4 none :: BG) { frames := 0, cells := 0, slots := 0, locals := 0 } (Pw D ca ad (E, F, L, S, n) sz [.ref (ad 0), .ref (ad t), .int lots]) (Qv D ca ad n (fun u => u = (E, s_bring F t lots, L, S, n)) sz) 0 0 (wA ad n sz) := by
  refine open_W (σ := (E, F, L, S, n)) (Qc := Qv D ca ad n (fun u => u = (E, s_bring F t lots, L, S, n))) (by decide +kernel) (Nat.le_of_ble_eq_true rfl) ?_
  intro p e s m args below meth c X hr hlk w cn ls hl
  have hl : lv_has ls 4 [(0, .ref (ad 0)), (1, .ref (ad t)), (2, .int lots)] := hl
  refine lv_iload_n X.1 X.2.1 dX4_bring_0 rfl (lv_at hl 2 rfl) ?_
  refine lv_sipush (v := 250) X.1 X.2.1 dX4_bring_1 (by decide) ?_
  refine lv_imul X.1 X.2.1 dX4_bring_4 ?_
  refine lv_topi (fun x1 ex1 => ?_)
  refine lv_istore_n (lv' := [(3, .int x1), (0, .ref (ad 0)), (1, .ref (ad t)), (2, .int lots)]) X.1 X.2.1 dX4_bring_5 rfl hl (by decide) rfl (fun ls hl => ?_)
  refine lv_aload_n X.1 X.2.1 dX4_bring_6 rfl (lv_at hl 2 rfl) ?_
  refine lv_dup X.1 X.2.1 dX4_bring_7 rfl ?_
  refine gn_P X cn w ht 3 (by decide) (v := .int (F t 3)) rfl kw_68 dX4_bring_8 ?_
  refine lv_iload_n X.1 X.2.1 dX4_bring_11 rfl (lv_at hl 0 rfl) ?_
  refine lv_iadd X.1 X.2.1 dX4_bring_12 ?_
  refine pn_P X cn w ht 3 (by decide) rfl (by decide +kernel) (v := ((F t 3) + x1)) kw_68 dX4_bring_13 (fun H locs w => ?_)
  obtain ⟨F2, eF2⟩ : ∃ G : Fm, G = up2 F t 3 ((F t 3) + x1) := ⟨_, rfl⟩
  rw [← eF2] at w
  refine lv_aload_n X.1 X.2.1 dX4_bring_16 rfl (lv_at hl 1 rfl) ?_
  refine lv_dup X.1 X.2.1 dX4_bring_17 rfl ?_
  refine g_L X w 4 (by decide) (v := .int (F2 0 4)) rfl kw_149 dX4_bring_18 ?_
  refine lv_iload_n X.1 X.2.1 dX4_bring_21 rfl (lv_at hl 0 rfl) ?_
  refine lv_aload_n X.1 X.2.1 dX4_bring_22 rfl (lv_at hl 2 rfl) ?_
  refine gn_P X cn w ht 2 (by decide) (v := .int (F2 t 2)) rfl kw_66 dX4_bring_23 ?_
  refine lv_imul X.1 X.2.1 dX4_bring_26 ?_
  refine lv_isub X.1 X.2.1 dX4_bring_27 ?_
  refine p_L X w 4 (by decide) rfl (by decide +kernel) (v := ((F2 0 4) - (x1 * (F2 t 2)))) kw_149 dX4_bring_28 (fun H locs w => ?_)
  obtain ⟨F3, eF3⟩ : ∃ G : Fm, G = up2 F2 0 4 ((F2 0 4) - (x1 * (F2 t 2))) := ⟨_, rfl⟩
  rw [← eF3] at w
  exact w_vret X hr hlk w (by subst eF3; subst eF2; subst ex1; exact rfl) dX4_bring_31 (Nat.le_of_ble_eq_true rfl) (Nat.le_of_ble_eq_true rfl)

set_option maxHeartbeats 4000000 in
set_option maxRecDepth 100000 in
theorem lp_X4_jobsThatAre {p : Program} {l : Launch} {e : Env} {s : State} {m : MethodId} {args : Array Value} {below : List Frame} {meth : Method} {c : Code} {D : va_G} {ca : Nat → ClassId} {ad : Nat → Nat} {F : Fm} {L : Lm} {S : Sm} {n : Nat} (X : CallFix p m c cX4_jobsThatAre 5 s args BG yX4_jobsThatAre.cls) (hr : meth.sig.returnType = (some .int)) (hlk : meth.locks = false) (cn : Cn (wA ad n s.heap.size) s) (hJ : L 16 = aJb n) (sv : Int32) :
    ∀ (d : Nat) (k : Nat) (a : Int32), k + d = 20 → ∀ (E : Em) (H : Heap) (locs : List Loc), Wd D ca ad (wA ad n s.heap.size) s H locs (E, F, L, S, n) → ∀ (ls : Array Slot), lv_has ls 5 [(3, .int (nI k)), (2, .int a), (0, .ref (ad 0)), (1, .int sv)] →
      W p l e { frames := 0, cells := 0, slots := 0, locals := 0 } s m args below meth c H locs 0 0 (MQ below (Qi D ca ad n (fun r u => r = s_cnt F n sv d k a ∧ u.2 = (F, L, S, n)) s.heap.size) args s 0 0 (wA ad n s.heap.size)) (F0 m 4 ls []) := by
  intro d
  induction d with
  | zero =>
    intro k a hkd E H locs w ls hl
    refine lv_iload_n X.1 X.2.1 dX4_jobsThatAre_4 rfl (lv_at hl 0 rfl) ?_
    refine lv_aload_n X.1 X.2.1 dX4_jobsThatAre_5 rfl (lv_at hl 2 rfl) ?_
    refine g_L X w 2 (by decide) (v := .ref (ad 16)) rfl kw_147 dX4_jobsThatAre_6 ?_
    refine len_J X w dX4_jobsThatAre_9 ?_
    refine lv_icmp_ge (tgt := 44) X.1 X.2.1 dX4_jobsThatAre_10 (by decide) (fun c1 => ?_) (fun c1 => ?_)
    ·
      refine lv_iload_n X.1 X.2.1 dX4_jobsThatAre_44 rfl (lv_at hl 1 rfl) ?_
      exact w_iret X hr hlk w (by  exact ⟨rfl, rfl⟩) dX4_jobsThatAre_45 rfl (Nat.le_of_ble_eq_true rfl) (Nat.le_of_ble_eq_true rfl)
    ·
      exact absurd ((ge20 hkd).mpr rfl) c1
  | succ d ih =>
    intro k a hkd E H locs w ls hl
    refine lv_iload_n X.1 X.2.1 dX4_jobsThatAre_4 rfl (lv_at hl 0 rfl) ?_
    refine lv_aload_n X.1 X.2.1 dX4_jobsThatAre_5 rfl (lv_at hl 2 rfl) ?_
    refine g_L X w 2 (by decide) (v := .ref (ad 16)) rfl kw_147 dX4_jobsThatAre_6 ?_
    refine len_J X w dX4_jobsThatAre_9 ?_
    refine lv_icmp_ge (tgt := 44) X.1 X.2.1 dX4_jobsThatAre_10 (by decide) (fun c1 => ?_) (fun c1 => ?_)
    ·
      exact absurd ((ge20 hkd).mp c1) (by omega)
    ·
      refine lv_aload_n X.1 X.2.1 dX4_jobsThatAre_13 rfl (lv_at hl 2 rfl) ?_
      refine g_L X w 2 (by decide) (v := .ref (ad 16)) rfl kw_147 dX4_jobsThatAre_14 ?_
      refine lv_iload_n X.1 X.2.1 dX4_jobsThatAre_17 rfl (lv_at hl 0 rfl) ?_
      refine ld_J X w (in20 hkd) dX4_jobsThatAre_18 ?_
      refine W.eq (g2 := F0 m 19 ls [va_rf ((L 16 k).map (fun j => ad (17 + j)))]) (by rw [cl_nI (by omega)]) ?_
      obtain hj2n | ⟨j2, hj2s⟩ : (L 16 k) = none ∨ ∃ j, (L 16 k) = some j := opt_or _
      ·
        refine W.eq (g2 := F0 m 19 ls [.null]) (by simp only [hj2n]; rfl) ?_
        refine lv_astoreN (lv' := [(4, .null), (3, .int (nI k)), (2, .int a), (0, .ref (ad 0)), (1, .int sv)]) X.1 X.2.1 dX4_jobsThatAre_19 hl (by decide) rfl (fun ls hl => ?_)
        refine lv_aloadN X.1 X.2.1 dX4_jobsThatAre_21 (lv_at hl 0 rfl) ?_
        refine lv_ifnullN (tgt := 38) X.1 X.2.1 dX4_jobsThatAre_23 (by decide) ?_
        refine lv_iinc (v := (nI (k + 1))) (lv' := [(3, .int (nI (k + 1))), (4, .null), (2, .int a), (0, .ref (ad 0)), (1, .int sv)]) X.1 X.2.1 dX4_jobsThatAre_38 hl (k := 1) rfl (nI_1 k) (by decide) rfl (fun ls hl => ?_)
        refine lv_goto (tgt := 4) X.1 X.2.1 dX4_jobsThatAre_41 (by decide) ?_
        have hz : s_cnt F n sv (d + 1) k a = s_cnt F n sv d (k + 1) a := by  simp [s_cnt, (Nat.not_lt.mpr (aJbL_no hJ hj2n))]
        rw [hz]
        exact ih (k + 1) a (by omega) E H locs w ls (lv_sub hl [0, 2, 3, 4] rfl)
      ·
        obtain ⟨ej, hkn⟩ := aJbL_eq hJ hj2s
        subst ej
        refine W.eq (g2 := F0 m 19 ls [.ref (ad (17 + k))]) (by simp only [hj2s]; rfl) ?_
        refine lv_astore (lv' := [(4, .ref (ad (17 + k))), (3, .int (nI k)), (2, .int a), (0, .ref (ad 0)), (1, .int sv)]) X.1 X.2.1 dX4_jobsThatAre_19 hl (by decide) rfl (fun ls hl => ?_)
        refine lv_aload X.1 X.2.1 dX4_jobsThatAre_21 (lv_at hl 0 rfl) ?_
        refine lv_ifnull X.1 X.2.1 dX4_jobsThatAre_23 ?_
        refine lv_aload X.1 X.2.1 dX4_jobsThatAre_26 (lv_at hl 0 rfl) ?_
        refine gn_J X cn w hkn 8 (by decide) (v := .int (F (17 + k) 8)) rfl kw_481 dX4_jobsThatAre_28 ?_
        refine lv_iload_n X.1 X.2.1 dX4_jobsThatAre_31 rfl (lv_at hl 4 rfl) ?_
        refine lv_icmp_ne (tgt := 38) X.1 X.2.1 dX4_jobsThatAre_32 (by decide) (fun c3 => ?_) (fun c3 => ?_)
        ·
          refine lv_iinc (v := (nI (k + 1))) (lv' := [(3, .int (nI (k + 1))), (4, .ref (ad (17 + k))), (2, .int a), (0, .ref (ad 0)), (1, .int sv)]) X.1 X.2.1 dX4_jobsThatAre_38 hl (k := 1) rfl (nI_1 k) (by decide) rfl (fun ls hl => ?_)
          refine lv_goto (tgt := 4) X.1 X.2.1 dX4_jobsThatAre_41 (by decide) ?_
          have hz : s_cnt F n sv (d + 1) k a = s_cnt F n sv d (k + 1) a := by  simp [s_cnt, hkn, c3]
          rw [hz]
          exact ih (k + 1) a (by omega) E H locs w ls (lv_sub hl [0, 2, 3, 4] rfl)
        ·
          obtain ⟨x4, ex4⟩ : ∃ y : Int32, y = a + 1 := ⟨_, rfl⟩
          refine lv_iinc (v := x4) (lv' := [(2, .int x4), (4, .ref (ad (17 + k))), (3, .int (nI k)), (0, .ref (ad 0)), (1, .int sv)]) X.1 X.2.1 dX4_jobsThatAre_35 hl (k := 2) rfl (by rw [ex4]; rfl) (by decide) rfl (fun ls hl => ?_)
          refine lv_iinc (v := (nI (k + 1))) (lv' := [(3, .int (nI (k + 1))), (2, .int x4), (4, .ref (ad (17 + k))), (0, .ref (ad 0)), (1, .int sv)]) X.1 X.2.1 dX4_jobsThatAre_38 hl (k := 2) rfl (nI_1 k) (by decide) rfl (fun ls hl => ?_)
          refine lv_goto (tgt := 4) X.1 X.2.1 dX4_jobsThatAre_41 (by decide) ?_
          have hz : s_cnt F n sv (d + 1) k a = s_cnt F n sv d (k + 1) x4 := by subst ex4; simp [s_cnt, hkn, c3]
          rw [hz]
          exact ih (k + 1) x4 (by omega) E H locs w ls (lv_sub hl [0, 1, 3, 4] rfl)

set_option maxHeartbeats 4000000 in
set_option maxRecDepth 100000 in
theorem c_X4_jobsThatAre (l : Launch) (D : va_G) (ca : Nat → ClassId) (ad : Nat → Nat) (E : Em) (F : Fm) (L : Lm) (S : Sm) (n : Nat) (hJ : L 16 = aJb n) (sv : Int32) (sz : Nat) : Met l yX4_jobsThatAre (.code yX4_jobsThatAre cX4_jobsThatAre 5 (some .int) :: BG) { frames := 0, cells := 0, slots := 0, locals := 0 } (Pw D ca ad (E, F, L, S, n) sz [.ref (ad 0), .int sv]) (Qi D ca ad n (fun r u => r = s_cnt F n sv 20 0 0 ∧ u.2 = (F, L, S, n)) sz) 0 0 (wA ad n sz) := by
  refine open_W (σ := (E, F, L, S, n)) (Qc := Qi D ca ad n (fun r u => r = s_cnt F n sv 20 0 0 ∧ u.2 = (F, L, S, n))) (by decide +kernel) (Nat.le_of_ble_eq_true rfl) ?_
  intro p e s m args below meth c X hr hlk w cn ls hl
  have hl : lv_has ls 5 [(0, .ref (ad 0)), (1, .int sv)] := hl
  refine lv_iconst (v := 0) X.1 X.2.1 dX4_jobsThatAre_0 (by decide) ?_
  refine lv_istore_n (lv' := [(2, .int 0), (0, .ref (ad 0)), (1, .int sv)]) X.1 X.2.1 dX4_jobsThatAre_1 rfl hl (by decide) rfl (fun ls hl => ?_)
  refine lv_iconst (v := 0) X.1 X.2.1 dX4_jobsThatAre_2 (by decide) ?_
  refine lv_istore_n (lv' := [(3, .int 0), (2, .int 0), (0, .ref (ad 0)), (1, .int sv)]) X.1 X.2.1 dX4_jobsThatAre_3 rfl hl (by decide) rfl (fun ls hl => ?_)
  exact lp_X4_jobsThatAre X hr hlk cn hJ sv 20 0 0 (by omega) E _ _ w ls (lv_sub hl [0, 1, 2, 3] rfl)

set_option maxHeartbeats 4000000 in
set_option maxRecDepth 100000 in
theorem lp_X4_moneyOfInvoices {p : Program} {l : Launch} {e : Env} {s : State} {m : MethodId} {args : Array Value} {below : List Frame} {meth : Method} {c : Code} {D : va_G} {ca : Nat → ClassId} {ad : Nat → Nat} {F : Fm} {L : Lm} {S : Sm} {n : Nat} (X : CallFix p m c cX4_moneyOfInvoices 4 s args BG yX4_moneyOfInvoices.cls) (hr : meth.sig.returnType = (some .int)) (hlk : meth.locks = false) (cn : Cn (wA ad n s.heap.size) s) (hJ : L 16 = aJb n) :
    ∀ (d : Nat) (k : Nat) (a : Int32), k + d = 20 → ∀ (E : Em) (H : Heap) (locs : List Loc), Wd D ca ad (wA ad n s.heap.size) s H locs (E, F, L, S, n) → ∀ (ls : Array Slot), lv_has ls 4 [(2, .int (nI k)), (1, .int a), (0, .ref (ad 0))] →
      W p l e { frames := 0, cells := 0, slots := 0, locals := 0 } s m args below meth c H locs 0 0 (MQ below (Qi D ca ad n (fun r u => r = s_sum F n 13 d k a ∧ u.2 = (F, L, S, n)) s.heap.size) args s 0 0 (wA ad n s.heap.size)) (F0 m 4 ls []) := by
  intro d
  induction d with
  | zero =>
    intro k a hkd E H locs w ls hl
    refine lv_iload_n X.1 X.2.1 dX4_moneyOfInvoices_4 rfl (lv_at hl 0 rfl) ?_
    refine lv_aload_n X.1 X.2.1 dX4_moneyOfInvoices_5 rfl (lv_at hl 2 rfl) ?_
    refine g_L X w 2 (by decide) (v := .ref (ad 16)) rfl kw_147 dX4_moneyOfInvoices_6 ?_
    refine len_J X w dX4_moneyOfInvoices_9 ?_
    refine lv_icmp_ge (tgt := 37) X.1 X.2.1 dX4_moneyOfInvoices_10 (by decide) (fun c1 => ?_) (fun c1 => ?_)
    ·
      refine lv_iload_n X.1 X.2.1 dX4_moneyOfInvoices_37 rfl (lv_at hl 1 rfl) ?_
      exact w_iret X hr hlk w (by  exact ⟨rfl, rfl⟩) dX4_moneyOfInvoices_38 rfl (Nat.le_of_ble_eq_true rfl) (Nat.le_of_ble_eq_true rfl)
    ·
      exact absurd ((ge20 hkd).mpr rfl) c1
  | succ d ih =>
    intro k a hkd E H locs w ls hl
    refine lv_iload_n X.1 X.2.1 dX4_moneyOfInvoices_4 rfl (lv_at hl 0 rfl) ?_
    refine lv_aload_n X.1 X.2.1 dX4_moneyOfInvoices_5 rfl (lv_at hl 2 rfl) ?_
    refine g_L X w 2 (by decide) (v := .ref (ad 16)) rfl kw_147 dX4_moneyOfInvoices_6 ?_
    refine len_J X w dX4_moneyOfInvoices_9 ?_
    refine lv_icmp_ge (tgt := 37) X.1 X.2.1 dX4_moneyOfInvoices_10 (by decide) (fun c1 => ?_) (fun c1 => ?_)
    ·
      exact absurd ((ge20 hkd).mp c1) (by omega)
    ·
      refine lv_aload_n X.1 X.2.1 dX4_moneyOfInvoices_13 rfl (lv_at hl 2 rfl) ?_
      refine g_L X w 2 (by decide) (v := .ref (ad 16)) rfl kw_147 dX4_moneyOfInvoices_14 ?_
      refine lv_iload_n X.1 X.2.1 dX4_moneyOfInvoices_17 rfl (lv_at hl 0 rfl) ?_
      refine ld_J X w (in20 hkd) dX4_moneyOfInvoices_18 ?_
      refine W.eq (g2 := F0 m 19 ls [va_rf ((L 16 k).map (fun j => ad (17 + j)))]) (by rw [cl_nI (by omega)]) ?_
      obtain hj2n | ⟨j2, hj2s⟩ : (L 16 k) = none ∨ ∃ j, (L 16 k) = some j := opt_or _
      ·
        refine W.eq (g2 := F0 m 19 ls [.null]) (by simp only [hj2n]; rfl) ?_
        refine lv_astore_nN (lv' := [(3, .null), (2, .int (nI k)), (1, .int a), (0, .ref (ad 0))]) X.1 X.2.1 dX4_moneyOfInvoices_19 rfl hl (by decide) rfl (fun ls hl => ?_)
        refine lv_aload_nN X.1 X.2.1 dX4_moneyOfInvoices_20 rfl (lv_at hl 0 rfl) ?_
        refine lv_ifnullN (tgt := 31) X.1 X.2.1 dX4_moneyOfInvoices_21 (by decide) ?_
        refine lv_iinc (v := (nI (k + 1))) (lv' := [(2, .int (nI (k + 1))), (3, .null), (1, .int a), (0, .ref (ad 0))]) X.1 X.2.1 dX4_moneyOfInvoices_31 hl (k := 1) rfl (nI_1 k) (by decide) rfl (fun ls hl => ?_)
        refine lv_goto (tgt := 4) X.1 X.2.1 dX4_moneyOfInvoices_34 (by decide) ?_
        have hz : s_sum F n 13 (d + 1) k a = s_sum F n 13 d (k + 1) a := by  simp [s_sum, (Nat.not_lt.mpr (aJbL_no hJ hj2n))]
        rw [hz]
        exact ih (k + 1) a (by omega) E H locs w ls (lv_sub hl [0, 2, 3] rfl)
      ·
        obtain ⟨ej, hkn⟩ := aJbL_eq hJ hj2s
        subst ej
        refine W.eq (g2 := F0 m 19 ls [.ref (ad (17 + k))]) (by simp only [hj2s]; rfl) ?_
        refine lv_astore_n (lv' := [(3, .ref (ad (17 + k))), (2, .int (nI k)), (1, .int a), (0, .ref (ad 0))]) X.1 X.2.1 dX4_moneyOfInvoices_19 rfl hl (by decide) rfl (fun ls hl => ?_)
        refine lv_aload_n X.1 X.2.1 dX4_moneyOfInvoices_20 rfl (lv_at hl 0 rfl) ?_
        refine lv_ifnull X.1 X.2.1 dX4_moneyOfInvoices_21 ?_
        refine lv_iload_n X.1 X.2.1 dX4_moneyOfInvoices_24 rfl (lv_at hl 2 rfl) ?_
        refine lv_aload_n X.1 X.2.1 dX4_moneyOfInvoices_25 rfl (lv_at hl 0 rfl) ?_
        refine gn_J X cn w hkn 13 (by decide) (v := .int (F (17 + k) 13)) rfl kw_489 dX4_moneyOfInvoices_26 ?_
        refine lv_iadd X.1 X.2.1 dX4_moneyOfInvoices_29 ?_
        refine lv_topi (fun x3 ex3 => ?_)
        refine lv_istore_n (lv' := [(1, .int x3), (3, .ref (ad (17 + k))), (2, .int (nI k)), (0, .ref (ad 0))]) X.1 X.2.1 dX4_moneyOfInvoices_30 rfl hl (by decide) rfl (fun ls hl => ?_)
        refine lv_iinc (v := (nI (k + 1))) (lv' := [(2, .int (nI (k + 1))), (1, .int x3), (3, .ref (ad (17 + k))), (0, .ref (ad 0))]) X.1 X.2.1 dX4_moneyOfInvoices_31 hl (k := 2) rfl (nI_1 k) (by decide) rfl (fun ls hl => ?_)
        refine lv_goto (tgt := 4) X.1 X.2.1 dX4_moneyOfInvoices_34 (by decide) ?_
        have hz : s_sum F n 13 (d + 1) k a = s_sum F n 13 d (k + 1) x3 := by subst ex3; simp [s_sum, hkn]
        rw [hz]
        exact ih (k + 1) x3 (by omega) E H locs w ls (lv_sub hl [0, 1, 3] rfl)

set_option maxHeartbeats 4000000 in
set_option maxRecDepth 100000 in
theorem c_X4_moneyOfInvoices (l : Launch) (D : va_G) (ca : Nat → ClassId) (ad : Nat → Nat) (E : Em) (F : Fm) (L : Lm) (S : Sm) (n : Nat) (hJ : L 16 = aJb n) (sz : Nat) : Met l yX4_moneyOfInvoices (.code yX4_moneyOfInvoices cX4_moneyOfInvoices 4 (some .int) :: BG) { frames := 0, cells := 0, slots := 0, locals := 0 } (Pw D ca ad (E, F, L, S, n) sz [.ref (ad 0)]) (Qi D ca ad n (fun r u => r = s_sum F n 13 20 0 0 ∧ u.2 = (F, L, S, n)) sz) 0 0 (wA ad n sz) := by
  refine open_W (σ := (E, F, L, S, n)) (Qc := Qi D ca ad n (fun r u => r = s_sum F n 13 20 0 0 ∧ u.2 = (F, L, S, n))) (by decide +kernel) (Nat.le_of_ble_eq_true rfl) ?_
  intro p e s m args below meth c X hr hlk w cn ls hl
  have hl : lv_has ls 4 [(0, .ref (ad 0))] := hl
  refine lv_iconst (v := 0) X.1 X.2.1 dX4_moneyOfInvoices_0 (by decide) ?_
  refine lv_istore_n (lv' := [(1, .int 0), (0, .ref (ad 0))]) X.1 X.2.1 dX4_moneyOfInvoices_1 rfl hl (by decide) rfl (fun ls hl => ?_)
  refine lv_iconst (v := 0) X.1 X.2.1 dX4_moneyOfInvoices_2 (by decide) ?_
  refine lv_istore_n (lv' := [(2, .int 0), (1, .int 0), (0, .ref (ad 0))]) X.1 X.2.1 dX4_moneyOfInvoices_3 rfl hl (by decide) rfl (fun ls hl => ?_)
  exact lp_X4_moneyOfInvoices X hr hlk cn hJ 20 0 0 (by omega) E _ _ w ls (lv_sub hl [0, 1, 2] rfl)

set_option maxHeartbeats 4000000 in
set_option maxRecDepth 100000 in
theorem lp_X4_costOfJobs {p : Program} {l : Launch} {e : Env} {s : State} {m : MethodId} {args : Array Value} {below : List Frame} {meth : Method} {c : Code} {D : va_G} {ca : Nat → ClassId} {ad : Nat → Nat} {F : Fm} {L : Lm} {S : Sm} {n : Nat} (X : CallFix p m c cX4_costOfJobs 4 s args BG yX4_costOfJobs.cls) (hr : meth.sig.returnType = (some .int)) (hlk : meth.locks = false) (cn : Cn (wA ad n s.heap.size) s) (hJ : L 16 = aJb n) :
    ∀ (d : Nat) (k : Nat) (a : Int32), k + d = 20 → ∀ (E : Em) (H : Heap) (locs : List Loc), Wd D ca ad (wA ad n s.heap.size) s H locs (E, F, L, S, n) → ∀ (ls : Array Slot), lv_has ls 4 [(2, .int (nI k)), (1, .int a), (0, .ref (ad 0))] →
      W p l e { frames := 0, cells := 0, slots := 0, locals := 0 } s m args below meth c H locs 0 0 (MQ below (Qi D ca ad n (fun r u => r = s_sum F n 12 d k a ∧ u.2 = (F, L, S, n)) s.heap.size) args s 0 0 (wA ad n s.heap.size)) (F0 m 4 ls []) := by
  intro d
  induction d with
  | zero =>
    intro k a hkd E H locs w ls hl
    refine lv_iload_n X.1 X.2.1 dX4_costOfJobs_4 rfl (lv_at hl 0 rfl) ?_
    refine lv_aload_n X.1 X.2.1 dX4_costOfJobs_5 rfl (lv_at hl 2 rfl) ?_
    refine g_L X w 2 (by decide) (v := .ref (ad 16)) rfl kw_147 dX4_costOfJobs_6 ?_
    refine len_J X w dX4_costOfJobs_9 ?_
    refine lv_icmp_ge (tgt := 37) X.1 X.2.1 dX4_costOfJobs_10 (by decide) (fun c1 => ?_) (fun c1 => ?_)
    ·
      refine lv_iload_n X.1 X.2.1 dX4_costOfJobs_37 rfl (lv_at hl 1 rfl) ?_
      exact w_iret X hr hlk w (by  exact ⟨rfl, rfl⟩) dX4_costOfJobs_38 rfl (Nat.le_of_ble_eq_true rfl) (Nat.le_of_ble_eq_true rfl)
    ·
      exact absurd ((ge20 hkd).mpr rfl) c1
  | succ d ih =>
    intro k a hkd E H locs w ls hl
    refine lv_iload_n X.1 X.2.1 dX4_costOfJobs_4 rfl (lv_at hl 0 rfl) ?_
    refine lv_aload_n X.1 X.2.1 dX4_costOfJobs_5 rfl (lv_at hl 2 rfl) ?_
    refine g_L X w 2 (by decide) (v := .ref (ad 16)) rfl kw_147 dX4_costOfJobs_6 ?_
    refine len_J X w dX4_costOfJobs_9 ?_
    refine lv_icmp_ge (tgt := 37) X.1 X.2.1 dX4_costOfJobs_10 (by decide) (fun c1 => ?_) (fun c1 => ?_)
    ·
      exact absurd ((ge20 hkd).mp c1) (by omega)
    ·
      refine lv_aload_n X.1 X.2.1 dX4_costOfJobs_13 rfl (lv_at hl 2 rfl) ?_
      refine g_L X w 2 (by decide) (v := .ref (ad 16)) rfl kw_147 dX4_costOfJobs_14 ?_
      refine lv_iload_n X.1 X.2.1 dX4_costOfJobs_17 rfl (lv_at hl 0 rfl) ?_
      refine ld_J X w (in20 hkd) dX4_costOfJobs_18 ?_
      refine W.eq (g2 := F0 m 19 ls [va_rf ((L 16 k).map (fun j => ad (17 + j)))]) (by rw [cl_nI (by omega)]) ?_
      obtain hj2n | ⟨j2, hj2s⟩ : (L 16 k) = none ∨ ∃ j, (L 16 k) = some j := opt_or _
      ·
        refine W.eq (g2 := F0 m 19 ls [.null]) (by simp only [hj2n]; rfl) ?_
        refine lv_astore_nN (lv' := [(3, .null), (2, .int (nI k)), (1, .int a), (0, .ref (ad 0))]) X.1 X.2.1 dX4_costOfJobs_19 rfl hl (by decide) rfl (fun ls hl => ?_)
        refine lv_aload_nN X.1 X.2.1 dX4_costOfJobs_20 rfl (lv_at hl 0 rfl) ?_
        refine lv_ifnullN (tgt := 31) X.1 X.2.1 dX4_costOfJobs_21 (by decide) ?_
        refine lv_iinc (v := (nI (k + 1))) (lv' := [(2, .int (nI (k + 1))), (3, .null), (1, .int a), (0, .ref (ad 0))]) X.1 X.2.1 dX4_costOfJobs_31 hl (k := 1) rfl (nI_1 k) (by decide) rfl (fun ls hl => ?_)
        refine lv_goto (tgt := 4) X.1 X.2.1 dX4_costOfJobs_34 (by decide) ?_
        have hz : s_sum F n 12 (d + 1) k a = s_sum F n 12 d (k + 1) a := by  simp [s_sum, (Nat.not_lt.mpr (aJbL_no hJ hj2n))]
        rw [hz]
        exact ih (k + 1) a (by omega) E H locs w ls (lv_sub hl [0, 2, 3] rfl)
      ·
        obtain ⟨ej, hkn⟩ := aJbL_eq hJ hj2s
        subst ej
        refine W.eq (g2 := F0 m 19 ls [.ref (ad (17 + k))]) (by simp only [hj2s]; rfl) ?_
        refine lv_astore_n (lv' := [(3, .ref (ad (17 + k))), (2, .int (nI k)), (1, .int a), (0, .ref (ad 0))]) X.1 X.2.1 dX4_costOfJobs_19 rfl hl (by decide) rfl (fun ls hl => ?_)
        refine lv_aload_n X.1 X.2.1 dX4_costOfJobs_20 rfl (lv_at hl 0 rfl) ?_
        refine lv_ifnull X.1 X.2.1 dX4_costOfJobs_21 ?_
        refine lv_iload_n X.1 X.2.1 dX4_costOfJobs_24 rfl (lv_at hl 2 rfl) ?_
        refine lv_aload_n X.1 X.2.1 dX4_costOfJobs_25 rfl (lv_at hl 0 rfl) ?_
        refine gn_J X cn w hkn 12 (by decide) (v := .int (F (17 + k) 12)) rfl kw_488 dX4_costOfJobs_26 ?_
        refine lv_iadd X.1 X.2.1 dX4_costOfJobs_29 ?_
        refine lv_topi (fun x3 ex3 => ?_)
        refine lv_istore_n (lv' := [(1, .int x3), (3, .ref (ad (17 + k))), (2, .int (nI k)), (0, .ref (ad 0))]) X.1 X.2.1 dX4_costOfJobs_30 rfl hl (by decide) rfl (fun ls hl => ?_)
        refine lv_iinc (v := (nI (k + 1))) (lv' := [(2, .int (nI (k + 1))), (1, .int x3), (3, .ref (ad (17 + k))), (0, .ref (ad 0))]) X.1 X.2.1 dX4_costOfJobs_31 hl (k := 2) rfl (nI_1 k) (by decide) rfl (fun ls hl => ?_)
        refine lv_goto (tgt := 4) X.1 X.2.1 dX4_costOfJobs_34 (by decide) ?_
        have hz : s_sum F n 12 (d + 1) k a = s_sum F n 12 d (k + 1) x3 := by subst ex3; simp [s_sum, hkn]
        rw [hz]
        exact ih (k + 1) x3 (by omega) E H locs w ls (lv_sub hl [0, 1, 3] rfl)

set_option maxHeartbeats 4000000 in
set_option maxRecDepth 100000 in
theorem c_X4_costOfJobs (l : Launch) (D : va_G) (ca : Nat → ClassId) (ad : Nat → Nat) (E : Em) (F : Fm) (L : Lm) (S : Sm) (n : Nat) (hJ : L 16 = aJb n) (sz : Nat) : Met l yX4_costOfJobs (.code yX4_costOfJobs cX4_costOfJobs 4 (some .int) :: BG) { frames := 0, cells := 0, slots := 0, locals := 0 } (Pw D ca ad (E, F, L, S, n) sz [.ref (ad 0)]) (Qi D ca ad n (fun r u => r = s_sum F n 12 20 0 0 ∧ u.2 = (F, L, S, n)) sz) 0 0 (wA ad n sz) := by
  refine open_W (σ := (E, F, L, S, n)) (Qc := Qi D ca ad n (fun r u => r = s_sum F n 12 20 0 0 ∧ u.2 = (F, L, S, n))) (by decide +kernel) (Nat.le_of_ble_eq_true rfl) ?_
  intro p e s m args below meth c X hr hlk w cn ls hl
  have hl : lv_has ls 4 [(0, .ref (ad 0))] := hl
  refine lv_iconst (v := 0) X.1 X.2.1 dX4_costOfJobs_0 (by decide) ?_
  refine lv_istore_n (lv' := [(1, .int 0), (0, .ref (ad 0))]) X.1 X.2.1 dX4_costOfJobs_1 rfl hl (by decide) rfl (fun ls hl => ?_)
  refine lv_iconst (v := 0) X.1 X.2.1 dX4_costOfJobs_2 (by decide) ?_
  refine lv_istore_n (lv' := [(2, .int 0), (1, .int 0), (0, .ref (ad 0))]) X.1 X.2.1 dX4_costOfJobs_3 rfl hl (by decide) rfl (fun ls hl => ?_)
  exact lp_X4_costOfJobs X hr hlk cn hJ 20 0 0 (by omega) E _ _ w ls (lv_sub hl [0, 1, 2] rfl)

set_option maxHeartbeats 4000000 in
set_option maxRecDepth 100000 in
theorem c_X4_worthOfStock (l : Launch) (D : va_G) (ca : Nat → ClassId) (ad : Nat → Nat) (E : Em) (F : Fm) (L : Lm) (S : Sm) (n : Nat)  (sz : Nat) : Met l yX4_worthOfStock (.code yX4_worthOfStock cX4_worthOfStock 4 (some .int) :: BG) { frames := 0, cells := 0, slots := 0, locals := 0 } (Pw D ca ad (E, F, L, S, n) sz [.ref (ad 0)]) (Qi D ca ad n (fun r u => r = s_worthS F ∧ u.2 = (F, L, S, n)) sz) 0 0 (wA ad n sz) := by
  refine open_W (σ := (E, F, L, S, n)) (Qc := Qi D ca ad n (fun r u => r = s_worthS F ∧ u.2 = (F, L, S, n))) (by decide +kernel) (Nat.le_of_ble_eq_true rfl) ?_
  intro p e s m args below meth c X hr hlk w cn ls hl
  have hl : lv_has ls 4 [(0, .ref (ad 0))] := hl
  refine lv_iconst (v := 0) X.1 X.2.1 dX4_worthOfStock_0 (by decide) ?_
  refine lv_istore_n (lv' := [(1, .int 0), (0, .ref (ad 0))]) X.1 X.2.1 dX4_worthOfStock_1 rfl hl (by decide) rfl (fun ls hl => ?_)
  refine lv_iconst (v := 0) X.1 X.2.1 dX4_worthOfStock_2 (by decide) ?_
  refine lv_istore_n (lv' := [(2, .int 0), (1, .int 0), (0, .ref (ad 0))]) X.1 X.2.1 dX4_worthOfStock_3 rfl hl (by decide) rfl (fun ls hl => ?_)
  refine lv_iload_n X.1 X.2.1 dX4_worthOfStock_4 rfl (lv_at hl 0 rfl) ?_
  refine lv_aload_n X.1 X.2.1 dX4_worthOfStock_5 rfl (lv_at hl 2 rfl) ?_
  refine g_L X w 0 (by decide) (v := .ref (ad 14)) rfl kw_145 dX4_worthOfStock_6 ?_
  refine len_P X w dX4_worthOfStock_9 ?_
  refine lv_icmp_ge (tgt := 42) X.1 X.2.1 dX4_worthOfStock_10 (by decide) (fun c1 => ?_) (fun c1 => ?_)
  ·
    exact absurd c1 (by decide)
  ·
    refine lv_aload_n X.1 X.2.1 dX4_worthOfStock_13 rfl (lv_at hl 2 rfl) ?_
    refine g_L X w 0 (by decide) (v := .ref (ad 14)) rfl kw_145 dX4_worthOfStock_14 ?_
    refine lv_iload_n X.1 X.2.1 dX4_worthOfStock_17 rfl (lv_at hl 0 rfl) ?_
    refine ld_P X w (in_lit (by decide)) dX4_worthOfStock_18 ?_
    refine W.eq (g2 := F0 m 19 ls [.ref (ad 2)]) rfl ?_
    refine lv_astore_n (lv' := [(3, .ref (ad 2)), (2, .int 0), (1, .int 0), (0, .ref (ad 0))]) X.1 X.2.1 dX4_worthOfStock_19 rfl hl (by decide) rfl (fun ls hl => ?_)
    refine lv_aload_n X.1 X.2.1 dX4_worthOfStock_20 rfl (lv_at hl 0 rfl) ?_
    refine lv_ifnull X.1 X.2.1 dX4_worthOfStock_21 ?_
    refine lv_iload_n X.1 X.2.1 dX4_worthOfStock_24 rfl (lv_at hl 2 rfl) ?_
    refine lv_aload_n X.1 X.2.1 dX4_worthOfStock_25 rfl (lv_at hl 0 rfl) ?_
    refine gn_P X cn w (by decide : 2 ≤ 2 ∧ 2 < 6) 3 (by decide) (v := .int (F 2 3)) rfl kw_68 dX4_worthOfStock_26 ?_
    refine lv_aload_n X.1 X.2.1 dX4_worthOfStock_29 rfl (lv_at hl 0 rfl) ?_
    refine gn_P X cn w (by decide : 2 ≤ 2 ∧ 2 < 6) 2 (by decide) (v := .int (F 2 2)) rfl kw_66 dX4_worthOfStock_30 ?_
    refine lv_imul X.1 X.2.1 dX4_worthOfStock_33 ?_
    refine lv_iadd X.1 X.2.1 dX4_worthOfStock_34 ?_
    refine lv_topi (fun x2 ex2 => ?_)
    refine lv_istore_n (lv' := [(1, .int x2), (3, .ref (ad 2)), (2, .int 0), (0, .ref (ad 0))]) X.1 X.2.1 dX4_worthOfStock_35 rfl hl (by decide) rfl (fun ls hl => ?_)
    refine lv_iinc (v := 1) (lv' := [(2, .int 1), (1, .int x2), (3, .ref (ad 2)), (0, .ref (ad 0))]) X.1 X.2.1 dX4_worthOfStock_36 hl (k := 2) rfl (by decide) (by decide) rfl (fun ls hl => ?_)
    refine lv_goto (tgt := 4) X.1 X.2.1 dX4_worthOfStock_39 (by decide) ?_
    refine lv_iload_n X.1 X.2.1 dX4_worthOfStock_4 rfl (lv_at hl 0 rfl) ?_
    refine lv_aload_n X.1 X.2.1 dX4_worthOfStock_5 rfl (lv_at hl 3 rfl) ?_
    refine g_L X w 0 (by decide) (v := .ref (ad 14)) rfl kw_145 dX4_worthOfStock_6 ?_
    refine len_P X w dX4_worthOfStock_9 ?_
    refine lv_icmp_ge (tgt := 42) X.1 X.2.1 dX4_worthOfStock_10 (by decide) (fun c3 => ?_) (fun c3 => ?_)
    ·
      exact absurd c3 (by decide)
    ·
      refine lv_aload_n X.1 X.2.1 dX4_worthOfStock_13 rfl (lv_at hl 3 rfl) ?_
      refine g_L X w 0 (by decide) (v := .ref (ad 14)) rfl kw_145 dX4_worthOfStock_14 ?_
      refine lv_iload_n X.1 X.2.1 dX4_worthOfStock_17 rfl (lv_at hl 0 rfl) ?_
      refine ld_P X w (in_lit (by decide)) dX4_worthOfStock_18 ?_
      refine W.eq (g2 := F0 m 19 ls [.ref (ad 3)]) rfl ?_
      refine lv_astore_n (lv' := [(3, .ref (ad 3)), (2, .int 1), (1, .int x2), (0, .ref (ad 0))]) X.1 X.2.1 dX4_worthOfStock_19 rfl hl (by decide) rfl (fun ls hl => ?_)
      refine lv_aload_n X.1 X.2.1 dX4_worthOfStock_20 rfl (lv_at hl 0 rfl) ?_
      refine lv_ifnull X.1 X.2.1 dX4_worthOfStock_21 ?_
      refine lv_iload_n X.1 X.2.1 dX4_worthOfStock_24 rfl (lv_at hl 2 rfl) ?_
      refine lv_aload_n X.1 X.2.1 dX4_worthOfStock_25 rfl (lv_at hl 0 rfl) ?_
      refine gn_P X cn w (by decide : 2 ≤ 3 ∧ 3 < 6) 3 (by decide) (v := .int (F 3 3)) rfl kw_68 dX4_worthOfStock_26 ?_
      refine lv_aload_n X.1 X.2.1 dX4_worthOfStock_29 rfl (lv_at hl 0 rfl) ?_
      refine gn_P X cn w (by decide : 2 ≤ 3 ∧ 3 < 6) 2 (by decide) (v := .int (F 3 2)) rfl kw_66 dX4_worthOfStock_30 ?_
      refine lv_imul X.1 X.2.1 dX4_worthOfStock_33 ?_
      refine lv_iadd X.1 X.2.1 dX4_worthOfStock_34 ?_
      refine lv_topi (fun x4 ex4 => ?_)
      refine lv_istore_n (lv' := [(1, .int x4), (3, .ref (ad 3)), (2, .int 1), (0, .ref (ad 0))]) X.1 X.2.1 dX4_worthOfStock_35 rfl hl (by decide) rfl (fun ls hl => ?_)
      refine lv_iinc (v := 2) (lv' := [(2, .int 2), (1, .int x4), (3, .ref (ad 3)), (0, .ref (ad 0))]) X.1 X.2.1 dX4_worthOfStock_36 hl (k := 2) rfl (by decide) (by decide) rfl (fun ls hl => ?_)
      refine lv_goto (tgt := 4) X.1 X.2.1 dX4_worthOfStock_39 (by decide) ?_
      refine lv_iload_n X.1 X.2.1 dX4_worthOfStock_4 rfl (lv_at hl 0 rfl) ?_
      refine lv_aload_n X.1 X.2.1 dX4_worthOfStock_5 rfl (lv_at hl 3 rfl) ?_
      refine g_L X w 0 (by decide) (v := .ref (ad 14)) rfl kw_145 dX4_worthOfStock_6 ?_
      refine len_P X w dX4_worthOfStock_9 ?_
      refine lv_icmp_ge (tgt := 42) X.1 X.2.1 dX4_worthOfStock_10 (by decide) (fun c5 => ?_) (fun c5 => ?_)
      ·
        exact absurd c5 (by decide)
      ·
        refine lv_aload_n X.1 X.2.1 dX4_worthOfStock_13 rfl (lv_at hl 3 rfl) ?_
        refine g_L X w 0 (by decide) (v := .ref (ad 14)) rfl kw_145 dX4_worthOfStock_14 ?_
        refine lv_iload_n X.1 X.2.1 dX4_worthOfStock_17 rfl (lv_at hl 0 rfl) ?_
        refine ld_P X w (in_lit (by decide)) dX4_worthOfStock_18 ?_
        refine W.eq (g2 := F0 m 19 ls [.ref (ad 4)]) rfl ?_
        refine lv_astore_n (lv' := [(3, .ref (ad 4)), (2, .int 2), (1, .int x4), (0, .ref (ad 0))]) X.1 X.2.1 dX4_worthOfStock_19 rfl hl (by decide) rfl (fun ls hl => ?_)
        refine lv_aload_n X.1 X.2.1 dX4_worthOfStock_20 rfl (lv_at hl 0 rfl) ?_
        refine lv_ifnull X.1 X.2.1 dX4_worthOfStock_21 ?_
        refine lv_iload_n X.1 X.2.1 dX4_worthOfStock_24 rfl (lv_at hl 2 rfl) ?_
        refine lv_aload_n X.1 X.2.1 dX4_worthOfStock_25 rfl (lv_at hl 0 rfl) ?_
        refine gn_P X cn w (by decide : 2 ≤ 4 ∧ 4 < 6) 3 (by decide) (v := .int (F 4 3)) rfl kw_68 dX4_worthOfStock_26 ?_
        refine lv_aload_n X.1 X.2.1 dX4_worthOfStock_29 rfl (lv_at hl 0 rfl) ?_
        refine gn_P X cn w (by decide : 2 ≤ 4 ∧ 4 < 6) 2 (by decide) (v := .int (F 4 2)) rfl kw_66 dX4_worthOfStock_30 ?_
        refine lv_imul X.1 X.2.1 dX4_worthOfStock_33 ?_
        refine lv_iadd X.1 X.2.1 dX4_worthOfStock_34 ?_
        refine lv_topi (fun x6 ex6 => ?_)
        refine lv_istore_n (lv' := [(1, .int x6), (3, .ref (ad 4)), (2, .int 2), (0, .ref (ad 0))]) X.1 X.2.1 dX4_worthOfStock_35 rfl hl (by decide) rfl (fun ls hl => ?_)
        refine lv_iinc (v := 3) (lv' := [(2, .int 3), (1, .int x6), (3, .ref (ad 4)), (0, .ref (ad 0))]) X.1 X.2.1 dX4_worthOfStock_36 hl (k := 2) rfl (by decide) (by decide) rfl (fun ls hl => ?_)
        refine lv_goto (tgt := 4) X.1 X.2.1 dX4_worthOfStock_39 (by decide) ?_
        refine lv_iload_n X.1 X.2.1 dX4_worthOfStock_4 rfl (lv_at hl 0 rfl) ?_
        refine lv_aload_n X.1 X.2.1 dX4_worthOfStock_5 rfl (lv_at hl 3 rfl) ?_
        refine g_L X w 0 (by decide) (v := .ref (ad 14)) rfl kw_145 dX4_worthOfStock_6 ?_
        refine len_P X w dX4_worthOfStock_9 ?_
        refine lv_icmp_ge (tgt := 42) X.1 X.2.1 dX4_worthOfStock_10 (by decide) (fun c7 => ?_) (fun c7 => ?_)
        ·
          exact absurd c7 (by decide)
        ·
          refine lv_aload_n X.1 X.2.1 dX4_worthOfStock_13 rfl (lv_at hl 3 rfl) ?_
          refine g_L X w 0 (by decide) (v := .ref (ad 14)) rfl kw_145 dX4_worthOfStock_14 ?_
          refine lv_iload_n X.1 X.2.1 dX4_worthOfStock_17 rfl (lv_at hl 0 rfl) ?_
          refine ld_P X w (in_lit (by decide)) dX4_worthOfStock_18 ?_
          refine W.eq (g2 := F0 m 19 ls [.ref (ad 5)]) rfl ?_
          refine lv_astore_n (lv' := [(3, .ref (ad 5)), (2, .int 3), (1, .int x6), (0, .ref (ad 0))]) X.1 X.2.1 dX4_worthOfStock_19 rfl hl (by decide) rfl (fun ls hl => ?_)
          refine lv_aload_n X.1 X.2.1 dX4_worthOfStock_20 rfl (lv_at hl 0 rfl) ?_
          refine lv_ifnull X.1 X.2.1 dX4_worthOfStock_21 ?_
          refine lv_iload_n X.1 X.2.1 dX4_worthOfStock_24 rfl (lv_at hl 2 rfl) ?_
          refine lv_aload_n X.1 X.2.1 dX4_worthOfStock_25 rfl (lv_at hl 0 rfl) ?_
          refine gn_P X cn w (by decide : 2 ≤ 5 ∧ 5 < 6) 3 (by decide) (v := .int (F 5 3)) rfl kw_68 dX4_worthOfStock_26 ?_
          refine lv_aload_n X.1 X.2.1 dX4_worthOfStock_29 rfl (lv_at hl 0 rfl) ?_
          refine gn_P X cn w (by decide : 2 ≤ 5 ∧ 5 < 6) 2 (by decide) (v := .int (F 5 2)) rfl kw_66 dX4_worthOfStock_30 ?_
          refine lv_imul X.1 X.2.1 dX4_worthOfStock_33 ?_
          refine lv_iadd X.1 X.2.1 dX4_worthOfStock_34 ?_
          refine lv_topi (fun x8 ex8 => ?_)
          refine lv_istore_n (lv' := [(1, .int x8), (3, .ref (ad 5)), (2, .int 3), (0, .ref (ad 0))]) X.1 X.2.1 dX4_worthOfStock_35 rfl hl (by decide) rfl (fun ls hl => ?_)
          refine lv_iinc (v := 4) (lv' := [(2, .int 4), (1, .int x8), (3, .ref (ad 5)), (0, .ref (ad 0))]) X.1 X.2.1 dX4_worthOfStock_36 hl (k := 2) rfl (by decide) (by decide) rfl (fun ls hl => ?_)
          refine lv_goto (tgt := 4) X.1 X.2.1 dX4_worthOfStock_39 (by decide) ?_
          refine lv_iload_n X.1 X.2.1 dX4_worthOfStock_4 rfl (lv_at hl 0 rfl) ?_
          refine lv_aload_n X.1 X.2.1 dX4_worthOfStock_5 rfl (lv_at hl 3 rfl) ?_
          refine g_L X w 0 (by decide) (v := .ref (ad 14)) rfl kw_145 dX4_worthOfStock_6 ?_
          refine len_P X w dX4_worthOfStock_9 ?_
          refine lv_icmp_ge (tgt := 42) X.1 X.2.1 dX4_worthOfStock_10 (by decide) (fun c9 => ?_) (fun c9 => ?_)
          ·
            refine lv_iload_n X.1 X.2.1 dX4_worthOfStock_42 rfl (lv_at hl 1 rfl) ?_
            exact w_iret X hr hlk w (by subst ex8; subst ex6; subst ex4; subst ex2; exact ⟨rfl, rfl⟩) dX4_worthOfStock_43 rfl (Nat.le_of_ble_eq_true rfl) (Nat.le_of_ble_eq_true rfl)
          ·
            exact absurd (by decide) c9
end
section
def upLf (L : Lm) (o : Nat) (f : Nat → Option Nat) : Lm := fun a => if a = o then f else L a
theorem upLf_s {L : Lm} {o : Nat} {f : Nat → Option Nat} : upLf L o f o = f := by simp [upLf]
theorem upLf_ne {L : Lm} {o a : Nat} {f : Nat → Option Nat} (h : a ≠ o) : upLf L o f a = L a := by simp [upLf, h]
theorem upLf_self {L : Lm} {o : Nat} : upLf L o (L o) = L := by
  funext a
  by_cases h : a = o
  · subst h; rw [upLf_s]
  · rw [upLf_ne h]
theorem upL_upLf {L : Lm} {o k : Nat} {f : Nat → Option Nat} {r : Option Nat} : upL (upLf L o f) o k r = upLf L o (fun x => if x = k then r else f x) := by
  funext a x
  by_cases h : a = o
  · subst h; simp [upL, upLf]
  · simp [upL, upLf, h]
/-- the line while a place is made: what lies behind k is shifted by one, up to z -/
def shF (f : Nat → Option Nat) (k z : Nat) : Nat → Option Nat := fun x => if k < x ∧ x ≤ z then f (x - 1) else f x
theorem shF_z {f : Nat → Option Nat} {z : Nat} : shF f z z = f := by
  funext x
  simp only [shF]
  rw [if_neg (by omega)]
theorem shF_step {f : Nat → Option Nat} {k z : Nat} (h : k + 1 ≤ z) : (fun x => if x = k + 1 then shF f (k + 1) z k else shF f (k + 1) z x) = shF f k z := by
  funext x
  simp only [shF]
  by_cases h1 : x = k + 1
  · subst h1
    rw [if_pos rfl, if_neg (by omega), if_pos (by omega), Nat.add_sub_cancel]
  · rw [if_neg h1]
    by_cases h2 : k + 1 < x ∧ x ≤ z
    · rw [if_pos h2, if_pos (by omega)]
    · rw [if_neg h2, if_neg (by omega)]
theorem shF_lt {f : Nat → Option Nat} {k z n : Nat} (h : ∀ x j, f x = some j → j < n) : ∀ x j, shF f k z x = some j → j < n := by
  intro x j hx
  unfold shF at hx
  by_cases h2 : k < x ∧ x ≤ z
  · rw [if_pos h2] at hx; exact h _ _ hx
  · rw [if_neg h2] at hx; exact h _ _ hx
def insF (f : Nat → Option Nat) (pl j z : Nat) : Nat → Option Nat := fun x => if x = pl then some j else shF f pl z x
/-- the line while a place is taken out: what lies behind pl is shifted by one, up to k -/
def rsF (f : Nat → Option Nat) (pl k : Nat) : Nat → Option Nat := fun x => if pl ≤ x ∧ x < k then f (x + 1) else f x
theorem rsF_0 {f : Nat → Option Nat} {pl : Nat} : rsF f pl pl = f := by
  funext x
  simp only [rsF]
  rw [if_neg (by omega)]
theorem rsF_step {f : Nat → Option Nat} {pl k : Nat} (h : pl ≤ k) : (fun x => if x = k then rsF f pl k (k + 1) else rsF f pl k x) = rsF f pl (k + 1) := by
  funext x
  simp only [rsF]
  by_cases h1 : x = k
  · subst h1
    rw [if_pos rfl, if_neg (by omega), if_pos (by omega)]
  · rw [if_neg h1]
    by_cases h2 : pl ≤ x ∧ x < k
    · rw [if_pos h2, if_pos (by omega)]
    · rw [if_neg h2, if_neg (by omega)]
theorem rsF_lt {f : Nat → Option Nat} {pl k n : Nat} (h : ∀ x j, f x = some j → j < n) : ∀ x j, rsF f pl k x = some j → j < n := by
  intro x j hx
  unfold rsF at hx
  by_cases h2 : pl ≤ x ∧ x < k
  · rw [if_pos h2] at hx; exact h _ _ hx
  · rw [if_neg h2] at hx; exact h _ _ hx
def remF (f : Nat → Option Nat) (pl z : Nat) : Nat → Option Nat := fun x => if x = z - 1 then none else rsF f pl (z - 1) x
def s_chOf (F : Fm) (i : Int32) : Option Nat → Int32
  | none => 2147483647
  | some j => s_change F j i
/-- of those from k on, the first with the least change -/
def s_plc (F : Fm) (f : Nat → Option Nat) (i : Int32) : Nat → Nat → Nat → Int32 → Nat
  | 0, _, b, _ => b
  | d + 1, k, b, lst => if lst ≤ s_chOf F i (f k) then s_plc F f i d (k + 1) b lst else s_plc F f i d (k + 1) k (s_chOf F i (f k))
theorem s_plc_in (F : Fm) (f : Nat → Option Nat) (i : Int32) (from0 z : Nat) : ∀ (d k b : Nat) (lst : Int32), k + d = z → from0 ≤ k → from0 ≤ b ∧ b < z → from0 ≤ s_plc F f i d k b lst ∧ s_plc F f i d k b lst < z := by
  intro d
  induction d with
  | zero => intro k b lst _ _ hb; exact hb
  | succ d ih =>
    intro k b lst hk hf hb
    unfold s_plc
    split
    · exact ih (k + 1) b lst (by omega) (by omega) hb
    · exact ih (k + 1) k _ (by omega) (by omega) (by omega)
/-- the sort: at the place k, with the inks i, d places to go -/
def s_brg (F : Fm) (z : Nat) : Nat → Nat → (Nat → Option Nat) → Int32 → (Nat → Option Nat)
  | 0, _, f, _ => f
  | d + 1, k, f, i => match f (s_plc F f i (z - k) k k 2147483647) with
    | none => s_brg F z d (k + 1) f i
    | some j => s_brg F z d (k + 1) (insF (remF f (s_plc F f i (z - k) k k 2147483647) z) k j (z - 1)) (F (17 + j) 4)
theorem remF_lt {f : Nat → Option Nat} {pl z n : Nat} (h : ∀ x j, f x = some j → j < n) : ∀ x j, remF f pl z x = some j → j < n := by
  intro x j hx
  unfold remF at hx
  by_cases h2 : x = z - 1
  · rw [if_pos h2] at hx; cases hx
  · rw [if_neg h2] at hx; exact rsF_lt h _ _ hx
theorem insF_lt {f : Nat → Option Nat} {pl j z n : Nat} (hj : j < n) (h : ∀ x j, f x = some j → j < n) : ∀ x i, insF f pl j z x = some i → i < n := by
  intro x i hx
  unfold insF at hx
  by_cases h2 : x = pl
  · rw [if_pos h2] at hx; cases hx; exact hj
  · rw [if_neg h2] at hx; exact shF_lt h _ _ hx
theorem m1I : Int32.ofInt (-1) = -1 := by decide
theorem jobAt_nat {F : Fm} {L : Lm} {o k w : Nat} (hw : F o 6 = nI w) (h20 : w ≤ 20) (hk : k < w) : s_jobAt F L o (nI k) = L o k := jobAt_nI hw h20 hk
end
section
set_option maxHeartbeats 4000000 in
set_option maxRecDepth 100000 in
theorem lp_X4_neededOf {p : Program} {l : Launch} {e : Env} {s : State} {m : MethodId} {args : Array Value} {below : List Frame} {meth : Method} {c : Code} {D : va_G} {ca : Nat → ClassId} {ad : Nat → Nat} {F : Fm} {L : Lm} {S : Sm} {n : Nat} (X : CallFix p m c cX4_neededOf 6 s args BG yX4_neededOf.cls) (hr : meth.sig.returnType = (some .int)) (hlk : meth.locks = false) (cn : Cn (wA ad n s.heap.size) s) (q : Nat → Nat) (wf : Wf F L S n q) (t : Nat) (ht : 2 ≤ t ∧ t < 6) (o : Nat) (ho : 6 ≤ o ∧ o < 10) :
    ∀ (d : Nat) (k : Nat) (a : Int32), k + d = q o → ∀ (E : Em) (H : Heap) (locs : List Loc), Wd D ca ad (wA ad n s.heap.size) s H locs (E, F, L, S, n) → ∀ (ls : Array Slot), lv_has ls 6 [(4, .int (nI k)), (3, .int a), (0, .ref (ad 0)), (1, .ref (ad t)), (2, .ref (ad o))] →
      W p l e { frames := 3, cells := 0, slots := 0, locals := 69 } s m args below meth c H locs 0 0 (MQ below (Qi D ca ad n (fun r u => r = s_nee F L S t o d k a ∧ u.2 = (F, L, S, n)) s.heap.size) args s 0 0 (wA ad n s.heap.size)) (F0 m 5 ls []) := by
  intro d
  induction d with
  | zero =>
    intro k a hkd E H locs w ls hl
    have hs := wf.2.2.1
    obtain ⟨hqo, hq20, hqj⟩ := wf.2.2.2 o ho
    refine lv_iload X.1 X.2.1 dX4_neededOf_5 (lv_at hl 0 rfl) ?_
    refine lv_aload_n X.1 X.2.1 dX4_neededOf_7 rfl (lv_at hl 4 rfl) ?_
    refine gn_R X cn w ho 6 (by decide) (v := .int (F o 6)) rfl kw_100 dX4_neededOf_8 ?_
    refine lv_icmp_ge (tgt := 59) X.1 X.2.1 dX4_neededOf_11 (by decide) (fun c1 => ?_) (fun c1 => ?_)
    ·
      refine lv_iload_n X.1 X.2.1 dX4_neededOf_59 rfl (lv_at hl 1 rfl) ?_
      exact w_iret X hr hlk w (by  exact ⟨rfl, rfl⟩) dX4_neededOf_60 rfl (Nat.le_of_ble_eq_true rfl) (Nat.le_of_ble_eq_true rfl)
    ·
      exact absurd (by rw [hqo]; exact (geN hkd hq20).mpr rfl) c1
  | succ d ih =>
    intro k a hkd E H locs w ls hl
    have hs := wf.2.2.1
    obtain ⟨hqo, hq20, hqj⟩ := wf.2.2.2 o ho
    refine lv_iload X.1 X.2.1 dX4_neededOf_5 (lv_at hl 0 rfl) ?_
    refine lv_aload_n X.1 X.2.1 dX4_neededOf_7 rfl (lv_at hl 4 rfl) ?_
    refine gn_R X cn w ho 6 (by decide) (v := .int (F o 6)) rfl kw_100 dX4_neededOf_8 ?_
    refine lv_icmp_ge (tgt := 59) X.1 X.2.1 dX4_neededOf_11 (by decide) (fun c1 => ?_) (fun c1 => ?_)
    ·
      exact absurd ((geN hkd hq20).mp (by rw [← hqo]; exact c1)) (by omega)
    ·
      refine lv_aload_n X.1 X.2.1 dX4_neededOf_14 rfl (lv_at hl 4 rfl) ?_
      refine lv_iload X.1 X.2.1 dX4_neededOf_15 (lv_at hl 0 rfl) ?_
      refine w_callr cn w (w_runVN (n := 1) (As := [.int (nI k)]) X cn w (lt17 (by have := ho; omega)) (wC_R (ho).1 (ho).2) rfl (fun sz => c_X3_jobAt l D ca ad E F L S n o ho (nI k) sz) kw_306 kw_308 kw_8 kw_33 kw_309 rfl rfl (by decide +kernel) ⟨(Nat.le_of_ble_eq_true rfl), (Nat.le_of_ble_eq_true rfl)⟩ rfl hl.1 rfl (Nat.le_of_ble_eq_true rfl) dX4_neededOf_17 ⟨(Nat.le_of_ble_eq_true rfl), (Nat.le_of_ble_eq_true rfl)⟩) (fun r2 u H locs hp w => ?_)
      obtain ⟨rfl, rfl⟩ := hp
      refine W.eq (g2 := F0 m 20 ls [va_rf ((L o k).map (fun j => ad (17 + j)))]) (by rw [jobAt_nI hqo hq20 (by omega)]) ?_
      obtain hj3n | ⟨j3, hj3s⟩ : (L o k) = none ∨ ∃ j, (L o k) = some j := opt_or _
      ·
        refine W.eq (g2 := F0 m 20 ls [.null]) (by simp only [hj3n]; rfl) ?_
        refine lv_astoreN (lv' := [(5, .null), (4, .int (nI k)), (3, .int a), (0, .ref (ad 0)), (1, .ref (ad t)), (2, .ref (ad o))]) X.1 X.2.1 dX4_neededOf_20 hl (by decide) rfl (fun ls hl => ?_)
        refine lv_aloadN X.1 X.2.1 dX4_neededOf_22 (lv_at hl 0 rfl) ?_
        refine lv_ifnullN (tgt := 53) X.1 X.2.1 dX4_neededOf_24 (by decide) ?_
        refine lv_iinc (v := (nI (k + 1))) (lv' := [(4, .int (nI (k + 1))), (5, .null), (3, .int a), (0, .ref (ad 0)), (1, .ref (ad t)), (2, .ref (ad o))]) X.1 X.2.1 dX4_neededOf_53 hl (k := 1) rfl (nI_1 k) (by decide) rfl (fun ls hl => ?_)
        refine lv_goto (tgt := 5) X.1 X.2.1 dX4_neededOf_56 (by decide) ?_
        have hz : s_nee F L S t o (d + 1) k a = s_nee F L S t o d (k + 1) a := by  simp [s_nee, hj3n]
        rw [hz]
        exact ih (k + 1) a (by omega) E H locs w ls (lv_sub hl [0, 2, 3, 4, 5] rfl)
      ·
        refine W.eq (g2 := F0 m 20 ls [.ref (ad (17 + j3))]) (by simp only [hj3s]; rfl) ?_
        refine lv_astore (lv' := [(5, .ref (ad (17 + j3))), (4, .int (nI k)), (3, .int a), (0, .ref (ad 0)), (1, .ref (ad t)), (2, .ref (ad o))]) X.1 X.2.1 dX4_neededOf_20 hl (by decide) rfl (fun ls hl => ?_)
        refine lv_aload X.1 X.2.1 dX4_neededOf_22 (lv_at hl 0 rfl) ?_
        refine lv_ifnull X.1 X.2.1 dX4_neededOf_24 ?_
        refine lv_aload X.1 X.2.1 dX4_neededOf_27 (lv_at hl 0 rfl) ?_
        refine gn_J X cn w (hqj _ _ hj3s) 2 (by decide) (v := .ref (ad (2 + S j3))) rfl kw_468 dX4_neededOf_29 ?_
        refine lv_aload_n X.1 X.2.1 dX4_neededOf_32 rfl (lv_at hl 4 rfl) ?_
        refine lv_acmp_ne (rx := some (ad (2 + S j3))) (ry := some (ad t)) (tgt := 53) X.1 X.2.1 dX4_neededOf_33 (by decide) (fun c4 => ?_) (fun c4 => ?_)
        ·
          have hne : ¬ 2 + S j3 = t := fun h => c4 (by rw [h])
          refine lv_iinc (v := (nI (k + 1))) (lv' := [(4, .int (nI (k + 1))), (5, .ref (ad (17 + j3))), (3, .int a), (0, .ref (ad 0)), (1, .ref (ad t)), (2, .ref (ad o))]) X.1 X.2.1 dX4_neededOf_53 hl (k := 1) rfl (nI_1 k) (by decide) rfl (fun ls hl => ?_)
          refine lv_goto (tgt := 5) X.1 X.2.1 dX4_neededOf_56 (by decide) ?_
          have hz : s_nee F L S t o (d + 1) k a = s_nee F L S t o d (k + 1) a := by  simp [s_nee, hj3s, hne]
          rw [hz]
          exact ih (k + 1) a (by omega) E H locs w ls (lv_sub hl [0, 2, 3, 4, 5] rfl)
        ·
          have hee : 2 + S j3 = t := w_inj w (lt17 (by have := (pap_ok (hs _ (hqj _ _ hj3s))); omega)) (lt17 (by omega)) (Option.some.inj c4)
          refine lv_iload_n X.1 X.2.1 dX4_neededOf_36 rfl (lv_at hl 2 rfl) ?_
          refine lv_aload_n X.1 X.2.1 dX4_neededOf_37 rfl (lv_at hl 3 rfl) ?_
          refine lv_aload X.1 X.2.1 dX4_neededOf_38 (lv_at hl 0 rfl) ?_
          refine lv_aload_n X.1 X.2.1 dX4_neededOf_40 rfl (lv_at hl 5 rfl) ?_
          refine lv_aload_n X.1 X.2.1 dX4_neededOf_41 rfl (lv_at hl 5 rfl) ?_
          refine gn_R X cn w ho 1 (by decide) (v := .int (F o 1)) rfl kw_91 dX4_neededOf_42 ?_
          refine w_callr cn w (w_runV (n := 3) (As := [.ref (ad (17 + j3)), .ref (ad o), .int (F o 1)]) X cn w (lt17 (by decide)) wC_0 rfl (fun sz => c_X4_expect l D ca ad E F L S n j3 (hqj _ _ hj3s) o ho (F o 1) hs sz) (bg_V kw_310 kw_312 kw_9 kw_31 kw_313) rfl rfl (by decide +kernel) ⟨(Nat.le_of_ble_eq_true rfl), (Nat.le_of_ble_eq_true rfl)⟩ rfl hl.1 rfl (Nat.le_of_ble_eq_true rfl) dX4_neededOf_45 ⟨(Nat.le_of_ble_eq_true rfl), (Nat.le_of_ble_eq_true rfl)⟩) (fun r5 u H locs hp w => ?_)
          obtain ⟨rfl, rfl⟩ := hp
          refine W.eq (g2 := F0 m 48 ls [.ref (ad 1), .int a]) rfl ?_
          refine gn_E X cn w 3 (by decide) (v := .int ((s_exp E F S o j3 (F o 1)) 3)) rfl kw_126 dX4_neededOf_48 ?_
          refine W.eq (g2 := F0 m 51 ls [.int (s_needed F o j3), .int a]) rfl ?_
          refine lv_iadd X.1 X.2.1 dX4_neededOf_51 ?_
          refine lv_topi (fun x6 ex6 => ?_)
          refine lv_istore_n (lv' := [(3, .int x6), (5, .ref (ad (17 + j3))), (4, .int (nI k)), (0, .ref (ad 0)), (1, .ref (ad t)), (2, .ref (ad o))]) X.1 X.2.1 dX4_neededOf_52 rfl hl (by decide) rfl (fun ls hl => ?_)
          refine lv_iinc (v := (nI (k + 1))) (lv' := [(4, .int (nI (k + 1))), (3, .int x6), (5, .ref (ad (17 + j3))), (0, .ref (ad 0)), (1, .ref (ad t)), (2, .ref (ad o))]) X.1 X.2.1 dX4_neededOf_53 hl (k := 2) rfl (nI_1 k) (by decide) rfl (fun ls hl => ?_)
          refine lv_goto (tgt := 5) X.1 X.2.1 dX4_neededOf_56 (by decide) ?_
          have hz : s_nee F L S t o (d + 1) k a = s_nee F L S t o d (k + 1) x6 := by subst ex6; simp [s_nee, hj3s, hee]
          rw [hz]
          exact ih (k + 1) x6 (by omega) (s_exp E F S o j3 (F o 1)) H locs w ls (lv_sub hl [0, 1, 3, 4, 5] rfl)

set_option maxHeartbeats 4000000 in
set_option maxRecDepth 100000 in
theorem c_X4_neededOf (l : Launch) (D : va_G) (ca : Nat → ClassId) (ad : Nat → Nat) (E : Em) (F : Fm) (L : Lm) (S : Sm) (n : Nat) (q : Nat → Nat) (wf : Wf F L S n q) (t : Nat) (ht : 2 ≤ t ∧ t < 6) (o : Nat) (ho : 6 ≤ o ∧ o < 10) (sz : Nat) : Met l yX4_neededOf (.code yX4_neededOf cX4_neededOf 6 (some .int) :: BG) { frames := 3, cells := 0, slots := 0, locals := 69 } (Pw D ca ad (E, F, L, S, n) sz [.ref (ad 0), .ref (ad t), .ref (ad o)]) (Qi D ca ad n (fun r u => r = s_neededOf F L S q t o ∧ u.2 = (F, L, S, n)) sz) 0 0 (wA ad n sz) := by
  refine open_W (σ := (E, F, L, S, n)) (Qc := Qi D ca ad n (fun r u => r = s_neededOf F L S q t o ∧ u.2 = (F, L, S, n))) (by decide +kernel) (Nat.le_of_ble_eq_true rfl) ?_
  intro p e s m args below meth c X hr hlk w cn ls hl
  have hl : lv_has ls 6 [(0, .ref (ad 0)), (1, .ref (ad t)), (2, .ref (ad o))] := hl
  have hs := wf.2.2.1
  refine lv_iconst (v := 0) X.1 X.2.1 dX4_neededOf_0 (by decide) ?_
  refine lv_istore_n (lv' := [(3, .int 0), (0, .ref (ad 0)), (1, .ref (ad t)), (2, .ref (ad o))]) X.1 X.2.1 dX4_neededOf_1 rfl hl (by decide) rfl (fun ls hl => ?_)
  refine lv_iconst (v := 0) X.1 X.2.1 dX4_neededOf_2 (by decide) ?_
  refine lv_istore (lv' := [(4, .int 0), (3, .int 0), (0, .ref (ad 0)), (1, .ref (ad t)), (2, .ref (ad o))]) X.1 X.2.1 dX4_neededOf_3 hl (by decide) rfl (fun ls hl => ?_)
  exact lp_X4_neededOf X hr hlk cn q wf t ht o ho (q o) 0 0 (by omega) E _ _ w ls (lv_sub hl [0, 1, 2, 3, 4] rfl)

set_option maxHeartbeats 4000000 in
set_option maxRecDepth 100000 in
theorem c_X4_forecastOf (l : Launch) (D : va_G) (ca : Nat → ClassId) (ad : Nat → Nat) (E : Em) (F : Fm) (L : Lm) (S : Sm) (n : Nat) (q : Nat → Nat) (wf : Wf F L S n q) (t : Nat) (ht : 2 ≤ t ∧ t < 6) (sz : Nat) : Met l yX4_forecastOf (.code yX4_forecastOf cX4_forecastOf 5 (some .int) :: BG) { frames := 4, cells := 0, slots := 0, locals := 94 } (Pw D ca ad (E, F, L, S, n) sz [.ref (ad 0), .ref (ad t)]) (Qi D ca ad n (fun r u => r = s_fore F L S q t ∧ u.2 = (F, L, S, n)) sz) 0 0 (wA ad n sz) := by
  refine open_W (σ := (E, F, L, S, n)) (Qc := Qi D ca ad n (fun r u => r = s_fore F L S q t ∧ u.2 = (F, L, S, n))) (by decide +kernel) (Nat.le_of_ble_eq_true rfl) ?_
  intro p e s m args below meth c X hr hlk w cn ls hl
  have hl : lv_has ls 5 [(0, .ref (ad 0)), (1, .ref (ad t))] := hl
  have hs := wf.2.2.1
  refine lv_iconst (v := 0) X.1 X.2.1 dX4_forecastOf_0 (by decide) ?_
  refine lv_istore_n (lv' := [(2, .int 0), (0, .ref (ad 0)), (1, .ref (ad t))]) X.1 X.2.1 dX4_forecastOf_1 rfl hl (by decide) rfl (fun ls hl => ?_)
  refine lv_iconst (v := 0) X.1 X.2.1 dX4_forecastOf_2 (by decide) ?_
  refine lv_istore_n (lv' := [(3, .int 0), (2, .int 0), (0, .ref (ad 0)), (1, .ref (ad t))]) X.1 X.2.1 dX4_forecastOf_3 rfl hl (by decide) rfl (fun ls hl => ?_)
  refine lv_iload_n X.1 X.2.1 dX4_forecastOf_4 rfl (lv_at hl 0 rfl) ?_
  refine lv_aload_n X.1 X.2.1 dX4_forecastOf_5 rfl (lv_at hl 2 rfl) ?_
  refine g_L X w 1 (by decide) (v := .ref (ad 15)) rfl kw_146 dX4_forecastOf_6 ?_
  refine len_R X w dX4_forecastOf_9 ?_
  refine lv_icmp_ge (tgt := 42) X.1 X.2.1 dX4_forecastOf_10 (by decide) (fun c1 => ?_) (fun c1 => ?_)
  ·
    exact absurd c1 (by decide)
  ·
    refine lv_aload_n X.1 X.2.1 dX4_forecastOf_13 rfl (lv_at hl 2 rfl) ?_
    refine g_L X w 1 (by decide) (v := .ref (ad 15)) rfl kw_146 dX4_forecastOf_14 ?_
    refine lv_iload_n X.1 X.2.1 dX4_forecastOf_17 rfl (lv_at hl 0 rfl) ?_
    refine ld_R X w (in_lit (by decide)) dX4_forecastOf_18 ?_
    refine W.eq (g2 := F0 m 19 ls [.ref (ad 6)]) rfl ?_
    refine lv_astore (lv' := [(4, .ref (ad 6)), (3, .int 0), (2, .int 0), (0, .ref (ad 0)), (1, .ref (ad t))]) X.1 X.2.1 dX4_forecastOf_19 hl (by decide) rfl (fun ls hl => ?_)
    refine lv_aload X.1 X.2.1 dX4_forecastOf_21 (lv_at hl 0 rfl) ?_
    refine lv_ifnull X.1 X.2.1 dX4_forecastOf_23 ?_
    refine lv_iload_n X.1 X.2.1 dX4_forecastOf_26 rfl (lv_at hl 2 rfl) ?_
    refine lv_aload_n X.1 X.2.1 dX4_forecastOf_27 rfl (lv_at hl 3 rfl) ?_
    refine lv_aload_n X.1 X.2.1 dX4_forecastOf_28 rfl (lv_at hl 4 rfl) ?_
    refine lv_aload X.1 X.2.1 dX4_forecastOf_29 (lv_at hl 0 rfl) ?_
    refine w_calli cn w (w_runV (n := 2) (As := [.ref (ad t), .ref (ad 6)]) X cn w (lt17 (by decide)) wC_0 rfl (fun sz => c_X4_neededOf l D ca ad E F L S n q wf t ht 6 (by decide : 6 ≤ 6 ∧ 6 < 10) sz) (bg_V kw_302 kw_304 kw_7 kw_31 kw_305) rfl rfl (by decide +kernel) ⟨(Nat.le_of_ble_eq_true rfl), (Nat.le_of_ble_eq_true rfl)⟩ rfl hl.1 rfl (Nat.le_of_ble_eq_true rfl) dX4_forecastOf_31 ⟨(Nat.le_of_ble_eq_true rfl), (Nat.le_of_ble_eq_true rfl)⟩) (fun r2 u H locs hp w => ?_)
    obtain ⟨E3, q4⟩ := u
    obtain ⟨rfl, h5⟩ := hp
    have h5 : q4 = (F, L, S, n) := h5
    subst h5
    refine lv_iadd X.1 X.2.1 dX4_forecastOf_34 ?_
    refine lv_topi (fun x6 ex6 => ?_)
    refine lv_istore_n (lv' := [(2, .int x6), (4, .ref (ad 6)), (3, .int 0), (0, .ref (ad 0)), (1, .ref (ad t))]) X.1 X.2.1 dX4_forecastOf_35 rfl hl (by decide) rfl (fun ls hl => ?_)
    refine lv_iinc (v := 1) (lv' := [(3, .int 1), (2, .int x6), (4, .ref (ad 6)), (0, .ref (ad 0)), (1, .ref (ad t))]) X.1 X.2.1 dX4_forecastOf_36 hl (k := 2) rfl (by decide) (by decide) rfl (fun ls hl => ?_)
    refine lv_goto (tgt := 4) X.1 X.2.1 dX4_forecastOf_39 (by decide) ?_
    refine lv_iload_n X.1 X.2.1 dX4_forecastOf_4 rfl (lv_at hl 0 rfl) ?_
    refine lv_aload_n X.1 X.2.1 dX4_forecastOf_5 rfl (lv_at hl 3 rfl) ?_
    refine g_L X w 1 (by decide) (v := .ref (ad 15)) rfl kw_146 dX4_forecastOf_6 ?_
    refine len_R X w dX4_forecastOf_9 ?_
    refine lv_icmp_ge (tgt := 42) X.1 X.2.1 dX4_forecastOf_10 (by decide) (fun c7 => ?_) (fun c7 => ?_)
    ·
      exact absurd c7 (by decide)
    ·
      refine lv_aload_n X.1 X.2.1 dX4_forecastOf_13 rfl (lv_at hl 3 rfl) ?_
      refine g_L X w 1 (by decide) (v := .ref (ad 15)) rfl kw_146 dX4_forecastOf_14 ?_
      refine lv_iload_n X.1 X.2.1 dX4_forecastOf_17 rfl (lv_at hl 0 rfl) ?_
      refine ld_R X w (in_lit (by decide)) dX4_forecastOf_18 ?_
      refine W.eq (g2 := F0 m 19 ls [.ref (ad 7)]) rfl ?_
      refine lv_astore (lv' := [(4, .ref (ad 7)), (3, .int 1), (2, .int x6), (0, .ref (ad 0)), (1, .ref (ad t))]) X.1 X.2.1 dX4_forecastOf_19 hl (by decide) rfl (fun ls hl => ?_)
      refine lv_aload X.1 X.2.1 dX4_forecastOf_21 (lv_at hl 0 rfl) ?_
      refine lv_ifnull X.1 X.2.1 dX4_forecastOf_23 ?_
      refine lv_iload_n X.1 X.2.1 dX4_forecastOf_26 rfl (lv_at hl 2 rfl) ?_
      refine lv_aload_n X.1 X.2.1 dX4_forecastOf_27 rfl (lv_at hl 3 rfl) ?_
      refine lv_aload_n X.1 X.2.1 dX4_forecastOf_28 rfl (lv_at hl 4 rfl) ?_
      refine lv_aload X.1 X.2.1 dX4_forecastOf_29 (lv_at hl 0 rfl) ?_
      refine w_calli cn w (w_runV (n := 2) (As := [.ref (ad t), .ref (ad 7)]) X cn w (lt17 (by decide)) wC_0 rfl (fun sz => c_X4_neededOf l D ca ad E3 F L S n q wf t ht 7 (by decide : 6 ≤ 7 ∧ 7 < 10) sz) (bg_V kw_302 kw_304 kw_7 kw_31 kw_305) rfl rfl (by decide +kernel) ⟨(Nat.le_of_ble_eq_true rfl), (Nat.le_of_ble_eq_true rfl)⟩ rfl hl.1 rfl (Nat.le_of_ble_eq_true rfl) dX4_forecastOf_31 ⟨(Nat.le_of_ble_eq_true rfl), (Nat.le_of_ble_eq_true rfl)⟩) (fun r8 u H locs hp w => ?_)
      obtain ⟨E9, q10⟩ := u
      obtain ⟨rfl, h11⟩ := hp
      have h11 : q10 = (F, L, S, n) := h11
      subst h11
      refine lv_iadd X.1 X.2.1 dX4_forecastOf_34 ?_
      refine lv_topi (fun x12 ex12 => ?_)
      refine lv_istore_n (lv' := [(2, .int x12), (4, .ref (ad 7)), (3, .int 1), (0, .ref (ad 0)), (1, .ref (ad t))]) X.1 X.2.1 dX4_forecastOf_35 rfl hl (by decide) rfl (fun ls hl => ?_)
      refine lv_iinc (v := 2) (lv' := [(3, .int 2), (2, .int x12), (4, .ref (ad 7)), (0, .ref (ad 0)), (1, .ref (ad t))]) X.1 X.2.1 dX4_forecastOf_36 hl (k := 2) rfl (by decide) (by decide) rfl (fun ls hl => ?_)
      refine lv_goto (tgt := 4) X.1 X.2.1 dX4_forecastOf_39 (by decide) ?_
      refine lv_iload_n X.1 X.2.1 dX4_forecastOf_4 rfl (lv_at hl 0 rfl) ?_
      refine lv_aload_n X.1 X.2.1 dX4_forecastOf_5 rfl (lv_at hl 3 rfl) ?_
      refine g_L X w 1 (by decide) (v := .ref (ad 15)) rfl kw_146 dX4_forecastOf_6 ?_
      refine len_R X w dX4_forecastOf_9 ?_
      refine lv_icmp_ge (tgt := 42) X.1 X.2.1 dX4_forecastOf_10 (by decide) (fun c13 => ?_) (fun c13 => ?_)
      ·
        exact absurd c13 (by decide)
      ·
        refine lv_aload_n X.1 X.2.1 dX4_forecastOf_13 rfl (lv_at hl 3 rfl) ?_
        refine g_L X w 1 (by decide) (v := .ref (ad 15)) rfl kw_146 dX4_forecastOf_14 ?_
        refine lv_iload_n X.1 X.2.1 dX4_forecastOf_17 rfl (lv_at hl 0 rfl) ?_
        refine ld_R X w (in_lit (by decide)) dX4_forecastOf_18 ?_
        refine W.eq (g2 := F0 m 19 ls [.ref (ad 8)]) rfl ?_
        refine lv_astore (lv' := [(4, .ref (ad 8)), (3, .int 2), (2, .int x12), (0, .ref (ad 0)), (1, .ref (ad t))]) X.1 X.2.1 dX4_forecastOf_19 hl (by decide) rfl (fun ls hl => ?_)
        refine lv_aload X.1 X.2.1 dX4_forecastOf_21 (lv_at hl 0 rfl) ?_
        refine lv_ifnull X.1 X.2.1 dX4_forecastOf_23 ?_
        refine lv_iload_n X.1 X.2.1 dX4_forecastOf_26 rfl (lv_at hl 2 rfl) ?_
        refine lv_aload_n X.1 X.2.1 dX4_forecastOf_27 rfl (lv_at hl 3 rfl) ?_
        refine lv_aload_n X.1 X.2.1 dX4_forecastOf_28 rfl (lv_at hl 4 rfl) ?_
        refine lv_aload X.1 X.2.1 dX4_forecastOf_29 (lv_at hl 0 rfl) ?_
        refine w_calli cn w (w_runV (n := 2) (As := [.ref (ad t), .ref (ad 8)]) X cn w (lt17 (by decide)) wC_0 rfl (fun sz => c_X4_neededOf l D ca ad E9 F L S n q wf t ht 8 (by decide : 6 ≤ 8 ∧ 8 < 10) sz) (bg_V kw_302 kw_304 kw_7 kw_31 kw_305) rfl rfl (by decide +kernel) ⟨(Nat.le_of_ble_eq_true rfl), (Nat.le_of_ble_eq_true rfl)⟩ rfl hl.1 rfl (Nat.le_of_ble_eq_true rfl) dX4_forecastOf_31 ⟨(Nat.le_of_ble_eq_true rfl), (Nat.le_of_ble_eq_true rfl)⟩) (fun r14 u H locs hp w => ?_)
        obtain ⟨E15, q16⟩ := u
        obtain ⟨rfl, h17⟩ := hp
        have h17 : q16 = (F, L, S, n) := h17
        subst h17
        refine lv_iadd X.1 X.2.1 dX4_forecastOf_34 ?_
        refine lv_topi (fun x18 ex18 => ?_)
        refine lv_istore_n (lv' := [(2, .int x18), (4, .ref (ad 8)), (3, .int 2), (0, .ref (ad 0)), (1, .ref (ad t))]) X.1 X.2.1 dX4_forecastOf_35 rfl hl (by decide) rfl (fun ls hl => ?_)
        refine lv_iinc (v := 3) (lv' := [(3, .int 3), (2, .int x18), (4, .ref (ad 8)), (0, .ref (ad 0)), (1, .ref (ad t))]) X.1 X.2.1 dX4_forecastOf_36 hl (k := 2) rfl (by decide) (by decide) rfl (fun ls hl => ?_)
        refine lv_goto (tgt := 4) X.1 X.2.1 dX4_forecastOf_39 (by decide) ?_
        refine lv_iload_n X.1 X.2.1 dX4_forecastOf_4 rfl (lv_at hl 0 rfl) ?_
        refine lv_aload_n X.1 X.2.1 dX4_forecastOf_5 rfl (lv_at hl 3 rfl) ?_
        refine g_L X w 1 (by decide) (v := .ref (ad 15)) rfl kw_146 dX4_forecastOf_6 ?_
        refine len_R X w dX4_forecastOf_9 ?_
        refine lv_icmp_ge (tgt := 42) X.1 X.2.1 dX4_forecastOf_10 (by decide) (fun c19 => ?_) (fun c19 => ?_)
        ·
          refine lv_iload_n X.1 X.2.1 dX4_forecastOf_42 rfl (lv_at hl 1 rfl) ?_
          exact w_iret X hr hlk w (by subst ex18; subst ex12; subst ex6; exact ⟨rfl, rfl⟩) dX4_forecastOf_43 rfl (Nat.le_of_ble_eq_true rfl) (Nat.le_of_ble_eq_true rfl)
        ·
          exact absurd (by decide) c19

set_option maxHeartbeats 4000000 in
set_option maxRecDepth 100000 in
theorem c_X4_shortOf (l : Launch) (D : va_G) (ca : Nat → ClassId) (ad : Nat → Nat) (E : Em) (F : Fm) (L : Lm) (S : Sm) (n : Nat) (q : Nat → Nat) (wf : Wf F L S n q) (t : Nat) (ht : 2 ≤ t ∧ t < 6) (sz : Nat) : Met l yX4_shortOf (.code yX4_shortOf cX4_shortOf 2 (some .int) :: BG) { frames := 5, cells := 0, slots := 0, locals := 118 } (Pw D ca ad (E, F, L, S, n) sz [.ref (ad 0), .ref (ad t)]) (Qi D ca ad n (fun r u => r = s_short F L S q t ∧ u.2 = (F, L, S, n)) sz) 0 0 (wA ad n sz) := by
  refine open_W (σ := (E, F, L, S, n)) (Qc := Qi D ca ad n (fun r u => r = s_short F L S q t ∧ u.2 = (F, L, S, n))) (by decide +kernel) (Nat.le_of_ble_eq_true rfl) ?_
  intro p e s m args below meth c X hr hlk w cn ls hl
  have hl : lv_has ls 2 [(0, .ref (ad 0)), (1, .ref (ad t))] := hl
  have hs := wf.2.2.1
  refine lv_aload_n X.1 X.2.1 dX4_shortOf_0 rfl (lv_at hl 0 rfl) ?_
  refine lv_aload_n X.1 X.2.1 dX4_shortOf_1 rfl (lv_at hl 1 rfl) ?_
  refine w_calli cn w (w_runV (n := 1) (As := [.ref (ad t)]) X cn w (lt17 (by decide)) wC_0 rfl (fun sz => c_X4_forecastOf l D ca ad E F L S n q wf t ht sz) (bg_V kw_298 kw_300 kw_6 kw_31 kw_301) rfl rfl (by decide +kernel) ⟨(Nat.le_of_ble_eq_true rfl), (Nat.le_of_ble_eq_true rfl)⟩ rfl hl.1 rfl (Nat.le_of_ble_eq_true rfl) dX4_shortOf_2 ⟨(Nat.le_of_ble_eq_true rfl), (Nat.le_of_ble_eq_true rfl)⟩) (fun r1 u H locs hp w => ?_)
  obtain ⟨E2, q3⟩ := u
  obtain ⟨rfl, h4⟩ := hp
  have h4 : q3 = (F, L, S, n) := h4
  subst h4
  refine lv_aload_n X.1 X.2.1 dX4_shortOf_5 rfl (lv_at hl 1 rfl) ?_
  refine gn_P X cn w ht 3 (by decide) (v := .int (F t 3)) rfl kw_68 dX4_shortOf_6 ?_
  refine lv_isub X.1 X.2.1 dX4_shortOf_9 ?_
  refine lv_iconst (v := 0) X.1 X.2.1 dX4_shortOf_10 (by decide) ?_
  refine n_max X hl.1 (X.2.2.2.2 _ kw_351) (Nat.le_of_ble_eq_true rfl) (Nat.le_of_ble_eq_true rfl) (Nat.le_of_ble_eq_true rfl) (Nat.le_of_ble_eq_true rfl) dX4_shortOf_11 ?_
  exact w_iret X hr hlk w (by  exact ⟨rfl, rfl⟩) dX4_shortOf_14 rfl (Nat.le_of_ble_eq_true rfl) (Nat.le_of_ble_eq_true rfl)

set_option maxHeartbeats 4000000 in
set_option maxRecDepth 100000 in
theorem lp_X4_minutesOfQueue {p : Program} {l : Launch} {e : Env} {s : State} {m : MethodId} {args : Array Value} {below : List Frame} {meth : Method} {c : Code} {D : va_G} {ca : Nat → ClassId} {ad : Nat → Nat} {F : Fm} {L : Lm} {S : Sm} {n : Nat} (X : CallFix p m c cX4_minutesOfQueue 6 s args BG yX4_minutesOfQueue.cls) (hr : meth.sig.returnType = (some .int)) (hlk : meth.locks = false) (cn : Cn (wA ad n s.heap.size) s) (q : Nat → Nat) (wf : Wf F L S n q) (o : Nat) (ho : 6 ≤ o ∧ o < 10) :
    ∀ (d : Nat) (k : Nat) (a : Int32) (i : Int32), k + d = q o → ∀ (E : Em) (H : Heap) (locs : List Loc), Wd D ca ad (wA ad n s.heap.size) s H locs (E, F, L, S, n) → ∀ (ls : Array Slot), lv_has ls 6 [(4, .int (nI k)), (3, .int i), (2, .int a), (0, .ref (ad 0)), (1, .ref (ad o))] →
      W p l e { frames := 3, cells := 0, slots := 0, locals := 69 } s m args below meth c H locs 0 0 (MQ below (Qi D ca ad n (fun r u => r = s_min F L o d k a i ∧ u.2 = (F, L, S, n)) s.heap.size) args s 0 0 (wA ad n s.heap.size)) (F0 m 10 ls []) := by
  intro d
  induction d with
  | zero =>
    intro k a i hkd E H locs w ls hl
    have hs := wf.2.2.1
    obtain ⟨hqo, hq20, hqj⟩ := wf.2.2.2 o ho
    refine lv_iload X.1 X.2.1 dX4_minutesOfQueue_10 (lv_at hl 0 rfl) ?_
    refine lv_aload_n X.1 X.2.1 dX4_minutesOfQueue_12 rfl (lv_at hl 4 rfl) ?_
    refine gn_R X cn w ho 6 (by decide) (v := .int (F o 6)) rfl kw_100 dX4_minutesOfQueue_13 ?_
    refine lv_icmp_ge (tgt := 58) X.1 X.2.1 dX4_minutesOfQueue_16 (by decide) (fun c1 => ?_) (fun c1 => ?_)
    ·
      refine lv_iload_n X.1 X.2.1 dX4_minutesOfQueue_58 rfl (lv_at hl 2 rfl) ?_
      exact w_iret X hr hlk w (by  exact ⟨rfl, rfl⟩) dX4_minutesOfQueue_59 rfl (Nat.le_of_ble_eq_true rfl) (Nat.le_of_ble_eq_true rfl)
    ·
      exact absurd (by rw [hqo]; exact (geN hkd hq20).mpr rfl) c1
  | succ d ih =>
    intro k a i hkd E H locs w ls hl
    have hs := wf.2.2.1
    obtain ⟨hqo, hq20, hqj⟩ := wf.2.2.2 o ho
    refine lv_iload X.1 X.2.1 dX4_minutesOfQueue_10 (lv_at hl 0 rfl) ?_
    refine lv_aload_n X.1 X.2.1 dX4_minutesOfQueue_12 rfl (lv_at hl 4 rfl) ?_
    refine gn_R X cn w ho 6 (by decide) (v := .int (F o 6)) rfl kw_100 dX4_minutesOfQueue_13 ?_
    refine lv_icmp_ge (tgt := 58) X.1 X.2.1 dX4_minutesOfQueue_16 (by decide) (fun c1 => ?_) (fun c1 => ?_)
    ·
      exact absurd ((geN hkd hq20).mp (by rw [← hqo]; exact c1)) (by omega)
    ·
      refine lv_aload_n X.1 X.2.1 dX4_minutesOfQueue_19 rfl (lv_at hl 4 rfl) ?_
      refine lv_iload X.1 X.2.1 dX4_minutesOfQueue_20 (lv_at hl 0 rfl) ?_
      refine w_callr cn w (w_runVN (n := 1) (As := [.int (nI k)]) X cn w (lt17 (by have := ho; omega)) (wC_R (ho).1 (ho).2) rfl (fun sz => c_X3_jobAt l D ca ad E F L S n o ho (nI k) sz) kw_306 kw_308 kw_8 kw_33 kw_309 rfl rfl (by decide +kernel) ⟨(Nat.le_of_ble_eq_true rfl), (Nat.le_of_ble_eq_true rfl)⟩ rfl hl.1 rfl (Nat.le_of_ble_eq_true rfl) dX4_minutesOfQueue_22 ⟨(Nat.le_of_ble_eq_true rfl), (Nat.le_of_ble_eq_true rfl)⟩) (fun r2 u H locs hp w => ?_)
      obtain ⟨rfl, rfl⟩ := hp
      refine W.eq (g2 := F0 m 25 ls [va_rf ((L o k).map (fun j => ad (17 + j)))]) (by rw [jobAt_nI hqo hq20 (by omega)]) ?_
      obtain hj3n | ⟨j3, hj3s⟩ : (L o k) = none ∨ ∃ j, (L o k) = some j := opt_or _
      ·
        refine W.eq (g2 := F0 m 25 ls [.null]) (by simp only [hj3n]; rfl) ?_
        refine lv_astoreN (lv' := [(5, .null), (4, .int (nI k)), (3, .int i), (2, .int a), (0, .ref (ad 0)), (1, .ref (ad o))]) X.1 X.2.1 dX4_minutesOfQueue_25 hl (by decide) rfl (fun ls hl => ?_)
        refine lv_aloadN X.1 X.2.1 dX4_minutesOfQueue_27 (lv_at hl 0 rfl) ?_
        refine lv_ifnullN (tgt := 52) X.1 X.2.1 dX4_minutesOfQueue_29 (by decide) ?_
        refine lv_iinc (v := (nI (k + 1))) (lv' := [(4, .int (nI (k + 1))), (5, .null), (3, .int i), (2, .int a), (0, .ref (ad 0)), (1, .ref (ad o))]) X.1 X.2.1 dX4_minutesOfQueue_52 hl (k := 1) rfl (nI_1 k) (by decide) rfl (fun ls hl => ?_)
        refine lv_goto (tgt := 10) X.1 X.2.1 dX4_minutesOfQueue_55 (by decide) ?_
        have hz : s_min F L o (d + 1) k a i = s_min F L o d (k + 1) a i := by  simp [s_min, hj3n]
        rw [hz]
        exact ih (k + 1) a i (by omega) E H locs w ls (lv_sub hl [0, 2, 3, 4, 5] rfl)
      ·
        refine W.eq (g2 := F0 m 25 ls [.ref (ad (17 + j3))]) (by simp only [hj3s]; rfl) ?_
        refine lv_astore (lv' := [(5, .ref (ad (17 + j3))), (4, .int (nI k)), (3, .int i), (2, .int a), (0, .ref (ad 0)), (1, .ref (ad o))]) X.1 X.2.1 dX4_minutesOfQueue_25 hl (by decide) rfl (fun ls hl => ?_)
        refine lv_aload X.1 X.2.1 dX4_minutesOfQueue_27 (lv_at hl 0 rfl) ?_
        refine lv_ifnull X.1 X.2.1 dX4_minutesOfQueue_29 ?_
        refine lv_iload_n X.1 X.2.1 dX4_minutesOfQueue_32 rfl (lv_at hl 3 rfl) ?_
        refine lv_aload_n X.1 X.2.1 dX4_minutesOfQueue_33 rfl (lv_at hl 4 rfl) ?_
        refine lv_aload X.1 X.2.1 dX4_minutesOfQueue_34 (lv_at hl 0 rfl) ?_
        refine lv_aload_n X.1 X.2.1 dX4_minutesOfQueue_36 rfl (lv_at hl 5 rfl) ?_
        refine lv_iload_n X.1 X.2.1 dX4_minutesOfQueue_37 rfl (lv_at hl 2 rfl) ?_
        refine w_callr cn w (w_runV (n := 3) (As := [.ref (ad (17 + j3)), .ref (ad o), .int i]) X cn w (lt17 (by decide)) wC_0 rfl (fun sz => c_X4_expect l D ca ad E F L S n j3 (hqj _ _ hj3s) o ho i hs sz) (bg_V kw_310 kw_312 kw_9 kw_31 kw_313) rfl rfl (by decide +kernel) ⟨(Nat.le_of_ble_eq_true rfl), (Nat.le_of_ble_eq_true rfl)⟩ rfl hl.1 rfl (Nat.le_of_ble_eq_true rfl) dX4_minutesOfQueue_38 ⟨(Nat.le_of_ble_eq_true rfl), (Nat.le_of_ble_eq_true rfl)⟩) (fun r4 u H locs hp w => ?_)
        obtain ⟨rfl, rfl⟩ := hp
        refine W.eq (g2 := F0 m 41 ls [.ref (ad 1), .int a]) rfl ?_
        refine gn_E X cn w 4 (by decide) (v := .int ((s_exp E F S o j3 i) 4)) rfl kw_127 dX4_minutesOfQueue_41 ?_
        refine W.eq (g2 := F0 m 44 ls [.int (s_minutes F o j3 i), .int a]) rfl ?_
        refine lv_iadd X.1 X.2.1 dX4_minutesOfQueue_44 ?_
        refine lv_topi (fun x5 ex5 => ?_)
        refine lv_istore_n (lv' := [(2, .int x5), (5, .ref (ad (17 + j3))), (4, .int (nI k)), (3, .int i), (0, .ref (ad 0)), (1, .ref (ad o))]) X.1 X.2.1 dX4_minutesOfQueue_45 rfl hl (by decide) rfl (fun ls hl => ?_)
        refine lv_aload X.1 X.2.1 dX4_minutesOfQueue_46 (lv_at hl 1 rfl) ?_
        refine gn_J X cn w (hqj _ _ hj3s) 4 (by decide) (v := .int (F (17 + j3) 4)) rfl kw_473 dX4_minutesOfQueue_48 ?_
        refine lv_topi (fun x6 ex6 => ?_)
        refine lv_istore_n (lv' := [(3, .int x6), (2, .int x5), (5, .ref (ad (17 + j3))), (4, .int (nI k)), (0, .ref (ad 0)), (1, .ref (ad o))]) X.1 X.2.1 dX4_minutesOfQueue_51 rfl hl (by decide) rfl (fun ls hl => ?_)
        refine lv_iinc (v := (nI (k + 1))) (lv' := [(4, .int (nI (k + 1))), (3, .int x6), (2, .int x5), (5, .ref (ad (17 + j3))), (0, .ref (ad 0)), (1, .ref (ad o))]) X.1 X.2.1 dX4_minutesOfQueue_52 hl (k := 3) rfl (nI_1 k) (by decide) rfl (fun ls hl => ?_)
        refine lv_goto (tgt := 10) X.1 X.2.1 dX4_minutesOfQueue_55 (by decide) ?_
        have hz : s_min F L o (d + 1) k a i = s_min F L o d (k + 1) x5 x6 := by subst ex6; subst ex5; simp [s_min, hj3s]
        rw [hz]
        exact ih (k + 1) x5 x6 (by omega) (s_exp E F S o j3 i) H locs w ls (lv_sub hl [0, 1, 2, 4, 5] rfl)

set_option maxHeartbeats 4000000 in
set_option maxRecDepth 100000 in
theorem c_X4_minutesOfQueue (l : Launch) (D : va_G) (ca : Nat → ClassId) (ad : Nat → Nat) (E : Em) (F : Fm) (L : Lm) (S : Sm) (n : Nat) (q : Nat → Nat) (wf : Wf F L S n q) (o : Nat) (ho : 6 ≤ o ∧ o < 10) (sz : Nat) : Met l yX4_minutesOfQueue (.code yX4_minutesOfQueue cX4_minutesOfQueue 6 (some .int) :: BG) { frames := 3, cells := 0, slots := 0, locals := 69 } (Pw D ca ad (E, F, L, S, n) sz [.ref (ad 0), .ref (ad o)]) (Qi D ca ad n (fun r u => r = s_minQ F L q o ∧ u.2 = (F, L, S, n)) sz) 0 0 (wA ad n sz) := by
  refine open_W (σ := (E, F, L, S, n)) (Qc := Qi D ca ad n (fun r u => r = s_minQ F L q o ∧ u.2 = (F, L, S, n))) (by decide +kernel) (Nat.le_of_ble_eq_true rfl) ?_
  intro p e s m args below meth c X hr hlk w cn ls hl
  have hl : lv_has ls 6 [(0, .ref (ad 0)), (1, .ref (ad o))] := hl
  have hs := wf.2.2.1
  refine lv_iconst (v := 0) X.1 X.2.1 dX4_minutesOfQueue_0 (by decide) ?_
  refine lv_istore_n (lv' := [(2, .int 0), (0, .ref (ad 0)), (1, .ref (ad o))]) X.1 X.2.1 dX4_minutesOfQueue_1 rfl hl (by decide) rfl (fun ls hl => ?_)
  refine lv_aload_n X.1 X.2.1 dX4_minutesOfQueue_2 rfl (lv_at hl 2 rfl) ?_
  refine gn_R X cn w ho 1 (by decide) (v := .int (F o 1)) rfl kw_91 dX4_minutesOfQueue_3 ?_
  refine lv_topi (fun x1 ex1 => ?_)
  refine lv_istore_n (lv' := [(3, .int x1), (2, .int 0), (0, .ref (ad 0)), (1, .ref (ad o))]) X.1 X.2.1 dX4_minutesOfQueue_6 rfl hl (by decide) rfl (fun ls hl => ?_)
  refine lv_iconst (v := 0) X.1 X.2.1 dX4_minutesOfQueue_7 (by decide) ?_
  refine lv_istore (lv' := [(4, .int 0), (3, .int x1), (2, .int 0), (0, .ref (ad 0)), (1, .ref (ad o))]) X.1 X.2.1 dX4_minutesOfQueue_8 hl (by decide) rfl (fun ls hl => ?_)
  subst ex1;
  exact lp_X4_minutesOfQueue X hr hlk cn q wf o ho (q o) 0 0 (F o 1) (by omega) E _ _ w ls (lv_sub hl [0, 1, 2, 3, 4] rfl)

def s_bA2 (F : Fm) (L : Lm) (S : Sm) (q : Nat → Nat) : Fm := s_buyF F L S q 2
def s_bA3 (F : Fm) (L : Lm) (S : Sm) (q : Nat → Nat) : Fm := s_buyF (s_bA2 F L S q) L S q 3
def s_bA4 (F : Fm) (L : Lm) (S : Sm) (q : Nat → Nat) : Fm := s_buyF (s_bA3 F L S q) L S q 4
def s_bA5 (F : Fm) (L : Lm) (S : Sm) (q : Nat → Nat) : Fm := s_buyF (s_bA4 F L S q) L S q 5
def s_bought (F : Fm) (L : Lm) (S : Sm) (q : Nat → Nat) : Int32 := 0 + s_lots F L S q 2 + s_lots (s_bA2 F L S q) L S q 3 + s_lots (s_bA3 F L S q) L S q 4 + s_lots (s_bA4 F L S q) L S q 5

set_option maxHeartbeats 4000000 in
set_option maxRecDepth 100000 in
theorem c_X4_buyAll (l : Launch) (D : va_G) (ca : Nat → ClassId) (ad : Nat → Nat) (E : Em) (F : Fm) (L : Lm) (S : Sm) (n : Nat) (q : Nat → Nat) (wf : Wf F L S n q) (sz : Nat) : Met l yX4_buyAll (.code yX4_buyAll cX4_buyAll 6 (some .int) :: BG) { frames := 6, cells := 0, slots := 0, locals := 139 } (Pw D ca ad (E, F, L, S, n) sz [.ref (ad 0)]) (Qi D ca ad n (fun r u => r = s_bought F L S q ∧ u.2 = (s_bA5 F L S q, L, S, n)) sz) 0 0 (wA ad n sz) := by
  refine open_W (σ := (E, F, L, S, n)) (Qc := Qi D ca ad n (fun r u => r = s_bought F L S q ∧ u.2 = (s_bA5 F L S q, L, S, n))) (by decide +kernel) (Nat.le_of_ble_eq_true rfl) ?_
  intro p e s m args below meth c X hr hlk w cn ls hl
  have hl : lv_has ls 6 [(0, .ref (ad 0))] := hl
  have hs := wf.2.2.1
  refine lv_iconst (v := 0) X.1 X.2.1 dX4_buyAll_0 (by decide) ?_
  refine lv_istore_n (lv' := [(1, .int 0), (0, .ref (ad 0))]) X.1 X.2.1 dX4_buyAll_1 rfl hl (by decide) rfl (fun ls hl => ?_)
  refine lv_iconst (v := 0) X.1 X.2.1 dX4_buyAll_2 (by decide) ?_
  refine lv_istore_n (lv' := [(2, .int 0), (1, .int 0), (0, .ref (ad 0))]) X.1 X.2.1 dX4_buyAll_3 rfl hl (by decide) rfl (fun ls hl => ?_)
  refine lv_iload_n X.1 X.2.1 dX4_buyAll_4 rfl (lv_at hl 0 rfl) ?_
  refine lv_aload_n X.1 X.2.1 dX4_buyAll_5 rfl (lv_at hl 2 rfl) ?_
  refine g_L X w 0 (by decide) (v := .ref (ad 14)) rfl kw_145 dX4_buyAll_6 ?_
  refine len_P X w dX4_buyAll_9 ?_
  refine lv_icmp_ge (tgt := 71) X.1 X.2.1 dX4_buyAll_10 (by decide) (fun c1 => ?_) (fun c1 => ?_)
  ·
    exact absurd c1 (by decide)
  ·
    refine lv_aload_n X.1 X.2.1 dX4_buyAll_13 rfl (lv_at hl 2 rfl) ?_
    refine g_L X w 0 (by decide) (v := .ref (ad 14)) rfl kw_145 dX4_buyAll_14 ?_
    refine lv_iload_n X.1 X.2.1 dX4_buyAll_17 rfl (lv_at hl 0 rfl) ?_
    refine ld_P X w (in_lit (by decide)) dX4_buyAll_18 ?_
    refine W.eq (g2 := F0 m 19 ls [.ref (ad 2)]) rfl ?_
    refine lv_astore_n (lv' := [(3, .ref (ad 2)), (2, .int 0), (1, .int 0), (0, .ref (ad 0))]) X.1 X.2.1 dX4_buyAll_19 rfl hl (by decide) rfl (fun ls hl => ?_)
    refine lv_aload_n X.1 X.2.1 dX4_buyAll_20 rfl (lv_at hl 0 rfl) ?_
    refine lv_ifnull X.1 X.2.1 dX4_buyAll_21 ?_
    refine lv_aload_n X.1 X.2.1 dX4_buyAll_24 rfl (lv_at hl 3 rfl) ?_
    refine lv_aload_n X.1 X.2.1 dX4_buyAll_25 rfl (lv_at hl 0 rfl) ?_
    refine w_calli cn w (w_runV (n := 1) (As := [.ref (ad 2)]) X cn w (lt17 (by decide)) wC_0 rfl (fun sz => c_X4_shortOf l D ca ad E F L S n q wf 2 (by decide : 2 ≤ 2 ∧ 2 < 6) sz) (bg_V kw_347 kw_349 kw_13 kw_31 kw_350) rfl rfl (by decide +kernel) ⟨(Nat.le_of_ble_eq_true rfl), (Nat.le_of_ble_eq_true rfl)⟩ rfl hl.1 rfl (Nat.le_of_ble_eq_true rfl) dX4_buyAll_26 ⟨(Nat.le_of_ble_eq_true rfl), (Nat.le_of_ble_eq_true rfl)⟩) (fun r2 u H locs hp w => ?_)
    obtain ⟨E3, q4⟩ := u
    obtain ⟨rfl, h5⟩ := hp
    have h5 : q4 = (F, L, S, n) := h5
    subst h5
    refine lv_sipush (v := 250) X.1 X.2.1 dX4_buyAll_29 (by decide) ?_
    refine n_calli w (n_runS (n := 2) (As := [.int (s_short F L S q 2), .int 250]) X (c_X4_divideUp l (s_short F L S q 2) 250) (bg_S kw_559 kw_323 kw_31 kw_324) rfl rfl (by decide +kernel) ⟨(Nat.le_of_ble_eq_true rfl), (Nat.le_of_ble_eq_true rfl)⟩ rfl hl.1 rfl (Nat.le_of_ble_eq_true rfl) dX4_buyAll_32 ⟨(Nat.le_of_ble_eq_true rfl), (Nat.le_of_ble_eq_true rfl)⟩) (fun H locs w => ?_)
    refine lv_topi (fun x6 ex6 => ?_)
    refine lv_istore (lv' := [(4, .int x6), (3, .ref (ad 2)), (2, .int 0), (1, .int 0), (0, .ref (ad 0))]) X.1 X.2.1 dX4_buyAll_35 hl (by decide) rfl (fun ls hl => ?_)
    refine lv_iload X.1 X.2.1 dX4_buyAll_37 (lv_at hl 0 rfl) ?_
    refine lv_bipush (v := 40) X.1 X.2.1 dX4_buyAll_39 (by decide) ?_
    refine n_min X hl.1 (X.2.2.2.2 _ kw_560) (Nat.le_of_ble_eq_true rfl) (Nat.le_of_ble_eq_true rfl) (Nat.le_of_ble_eq_true rfl) (Nat.le_of_ble_eq_true rfl) dX4_buyAll_41 ?_
    refine lv_aload_n X.1 X.2.1 dX4_buyAll_44 rfl (lv_at hl 1 rfl) ?_
    refine w_calli cn w (w_runVN (n := 0) (As := []) X cn w (lt17 (by have := (by decide : 2 ≤ 2 ∧ 2 < 6); omega)) (wC_P ((by decide : 2 ≤ 2 ∧ 2 < 6)).1 ((by decide : 2 ≤ 2 ∧ 2 < 6)).2) rfl (fun sz => c_X2_lotsWithRoom l D ca ad E3 F L S n 2 (by decide : 2 ≤ 2 ∧ 2 < 6) sz) kw_544 kw_546 kw_23 kw_32 kw_547 rfl rfl (by decide +kernel) ⟨(Nat.le_of_ble_eq_true rfl), (Nat.le_of_ble_eq_true rfl)⟩ rfl hl.1 rfl (Nat.le_of_ble_eq_true rfl) dX4_buyAll_45 ⟨(Nat.le_of_ble_eq_true rfl), (Nat.le_of_ble_eq_true rfl)⟩) (fun r7 u H locs hp w => ?_)
    obtain ⟨rfl, rfl⟩ := hp
    refine n_min X hl.1 (X.2.2.2.2 _ kw_560) (Nat.le_of_ble_eq_true rfl) (Nat.le_of_ble_eq_true rfl) (Nat.le_of_ble_eq_true rfl) (Nat.le_of_ble_eq_true rfl) dX4_buyAll_48 ?_
    refine lv_topi (fun x8 ex8 => ?_)
    refine lv_istore (lv' := [(5, .int x8), (4, .int x6), (3, .ref (ad 2)), (2, .int 0), (1, .int 0), (0, .ref (ad 0))]) X.1 X.2.1 dX4_buyAll_51 hl (by decide) rfl (fun ls hl => ?_)
    refine lv_aload_n X.1 X.2.1 dX4_buyAll_53 rfl (lv_at hl 5 rfl) ?_
    refine lv_aload_n X.1 X.2.1 dX4_buyAll_54 rfl (lv_at hl 2 rfl) ?_
    refine lv_iload X.1 X.2.1 dX4_buyAll_55 (lv_at hl 0 rfl) ?_
    refine w_callv cn w (w_runV (n := 2) (As := [.ref (ad 2), .int x8]) X cn w (lt17 (by decide)) wC_0 rfl (fun sz => c_X4_bring l D ca ad E3 F L S n 2 (by decide : 2 ≤ 2 ∧ 2 < 6) x8 sz) (bg_V kw_550 kw_552 kw_24 kw_31 kw_553) rfl rfl (by decide +kernel) ⟨(Nat.le_of_ble_eq_true rfl), (Nat.le_of_ble_eq_true rfl)⟩ rfl hl.1 rfl (Nat.le_of_ble_eq_true rfl) dX4_buyAll_57 ⟨(Nat.le_of_ble_eq_true rfl), (Nat.le_of_ble_eq_true rfl)⟩) (fun u H locs hp w => ?_)
    subst hp
    obtain ⟨F9, eF9⟩ : ∃ G : Fm, G = (s_bring F 2 x8) := ⟨_, rfl⟩
    have wf : Wf F9 L S n q := by rw [eF9]; exact wf.buy (by decide : 2 ≤ 2 ∧ 2 < 6)
    rw [← eF9] at w
    refine lv_iload_n X.1 X.2.1 dX4_buyAll_60 rfl (lv_at hl 4 rfl) ?_
    refine lv_iload X.1 X.2.1 dX4_buyAll_61 (lv_at hl 0 rfl) ?_
    refine lv_iadd X.1 X.2.1 dX4_buyAll_63 ?_
    refine lv_topi (fun x10 ex10 => ?_)
    refine lv_istore_n (lv' := [(1, .int x10), (5, .int x8), (4, .int x6), (3, .ref (ad 2)), (2, .int 0), (0, .ref (ad 0))]) X.1 X.2.1 dX4_buyAll_64 rfl hl (by decide) rfl (fun ls hl => ?_)
    refine lv_iinc (v := 1) (lv' := [(2, .int 1), (1, .int x10), (5, .int x8), (4, .int x6), (3, .ref (ad 2)), (0, .ref (ad 0))]) X.1 X.2.1 dX4_buyAll_65 hl (k := 4) rfl (by decide) (by decide) rfl (fun ls hl => ?_)
    refine lv_goto (tgt := 4) X.1 X.2.1 dX4_buyAll_68 (by decide) ?_
    refine lv_iload_n X.1 X.2.1 dX4_buyAll_4 rfl (lv_at hl 0 rfl) ?_
    refine lv_aload_n X.1 X.2.1 dX4_buyAll_5 rfl (lv_at hl 5 rfl) ?_
    refine g_L X w 0 (by decide) (v := .ref (ad 14)) rfl kw_145 dX4_buyAll_6 ?_
    refine len_P X w dX4_buyAll_9 ?_
    refine lv_icmp_ge (tgt := 71) X.1 X.2.1 dX4_buyAll_10 (by decide) (fun c11 => ?_) (fun c11 => ?_)
    ·
      exact absurd c11 (by decide)
    ·
      refine lv_aload_n X.1 X.2.1 dX4_buyAll_13 rfl (lv_at hl 5 rfl) ?_
      refine g_L X w 0 (by decide) (v := .ref (ad 14)) rfl kw_145 dX4_buyAll_14 ?_
      refine lv_iload_n X.1 X.2.1 dX4_buyAll_17 rfl (lv_at hl 0 rfl) ?_
      refine ld_P X w (in_lit (by decide)) dX4_buyAll_18 ?_
      refine W.eq (g2 := F0 m 19 ls [.ref (ad 3)]) rfl ?_
      refine lv_astore_n (lv' := [(3, .ref (ad 3)), (2, .int 1), (1, .int x10), (5, .int x8), (4, .int x6), (0, .ref (ad 0))]) X.1 X.2.1 dX4_buyAll_19 rfl hl (by decide) rfl (fun ls hl => ?_)
      refine lv_aload_n X.1 X.2.1 dX4_buyAll_20 rfl (lv_at hl 0 rfl) ?_
      refine lv_ifnull X.1 X.2.1 dX4_buyAll_21 ?_
      refine lv_aload_n X.1 X.2.1 dX4_buyAll_24 rfl (lv_at hl 5 rfl) ?_
      refine lv_aload_n X.1 X.2.1 dX4_buyAll_25 rfl (lv_at hl 0 rfl) ?_
      refine w_calli cn w (w_runV (n := 1) (As := [.ref (ad 3)]) X cn w (lt17 (by decide)) wC_0 rfl (fun sz => c_X4_shortOf l D ca ad E3 F9 L S n q wf 3 (by decide : 2 ≤ 3 ∧ 3 < 6) sz) (bg_V kw_347 kw_349 kw_13 kw_31 kw_350) rfl rfl (by decide +kernel) ⟨(Nat.le_of_ble_eq_true rfl), (Nat.le_of_ble_eq_true rfl)⟩ rfl hl.1 rfl (Nat.le_of_ble_eq_true rfl) dX4_buyAll_26 ⟨(Nat.le_of_ble_eq_true rfl), (Nat.le_of_ble_eq_true rfl)⟩) (fun r12 u H locs hp w => ?_)
      obtain ⟨E13, q14⟩ := u
      obtain ⟨rfl, h15⟩ := hp
      have h15 : q14 = (F9, L, S, n) := h15
      subst h15
      refine lv_sipush (v := 250) X.1 X.2.1 dX4_buyAll_29 (by decide) ?_
      refine n_calli w (n_runS (n := 2) (As := [.int (s_short F9 L S q 3), .int 250]) X (c_X4_divideUp l (s_short F9 L S q 3) 250) (bg_S kw_559 kw_323 kw_31 kw_324) rfl rfl (by decide +kernel) ⟨(Nat.le_of_ble_eq_true rfl), (Nat.le_of_ble_eq_true rfl)⟩ rfl hl.1 rfl (Nat.le_of_ble_eq_true rfl) dX4_buyAll_32 ⟨(Nat.le_of_ble_eq_true rfl), (Nat.le_of_ble_eq_true rfl)⟩) (fun H locs w => ?_)
      refine lv_topi (fun x16 ex16 => ?_)
      refine lv_istore (lv' := [(4, .int x16), (3, .ref (ad 3)), (2, .int 1), (1, .int x10), (5, .int x8), (0, .ref (ad 0))]) X.1 X.2.1 dX4_buyAll_35 hl (by decide) rfl (fun ls hl => ?_)
      refine lv_iload X.1 X.2.1 dX4_buyAll_37 (lv_at hl 0 rfl) ?_
      refine lv_bipush (v := 40) X.1 X.2.1 dX4_buyAll_39 (by decide) ?_
      refine n_min X hl.1 (X.2.2.2.2 _ kw_560) (Nat.le_of_ble_eq_true rfl) (Nat.le_of_ble_eq_true rfl) (Nat.le_of_ble_eq_true rfl) (Nat.le_of_ble_eq_true rfl) dX4_buyAll_41 ?_
      refine lv_aload_n X.1 X.2.1 dX4_buyAll_44 rfl (lv_at hl 1 rfl) ?_
      refine w_calli cn w (w_runVN (n := 0) (As := []) X cn w (lt17 (by have := (by decide : 2 ≤ 3 ∧ 3 < 6); omega)) (wC_P ((by decide : 2 ≤ 3 ∧ 3 < 6)).1 ((by decide : 2 ≤ 3 ∧ 3 < 6)).2) rfl (fun sz => c_X2_lotsWithRoom l D ca ad E13 F9 L S n 3 (by decide : 2 ≤ 3 ∧ 3 < 6) sz) kw_544 kw_546 kw_23 kw_32 kw_547 rfl rfl (by decide +kernel) ⟨(Nat.le_of_ble_eq_true rfl), (Nat.le_of_ble_eq_true rfl)⟩ rfl hl.1 rfl (Nat.le_of_ble_eq_true rfl) dX4_buyAll_45 ⟨(Nat.le_of_ble_eq_true rfl), (Nat.le_of_ble_eq_true rfl)⟩) (fun r17 u H locs hp w => ?_)
      obtain ⟨rfl, rfl⟩ := hp
      refine n_min X hl.1 (X.2.2.2.2 _ kw_560) (Nat.le_of_ble_eq_true rfl) (Nat.le_of_ble_eq_true rfl) (Nat.le_of_ble_eq_true rfl) (Nat.le_of_ble_eq_true rfl) dX4_buyAll_48 ?_
      refine lv_topi (fun x18 ex18 => ?_)
      refine lv_istore (lv' := [(5, .int x18), (4, .int x16), (3, .ref (ad 3)), (2, .int 1), (1, .int x10), (0, .ref (ad 0))]) X.1 X.2.1 dX4_buyAll_51 hl (by decide) rfl (fun ls hl => ?_)
      refine lv_aload_n X.1 X.2.1 dX4_buyAll_53 rfl (lv_at hl 5 rfl) ?_
      refine lv_aload_n X.1 X.2.1 dX4_buyAll_54 rfl (lv_at hl 2 rfl) ?_
      refine lv_iload X.1 X.2.1 dX4_buyAll_55 (lv_at hl 0 rfl) ?_
      refine w_callv cn w (w_runV (n := 2) (As := [.ref (ad 3), .int x18]) X cn w (lt17 (by decide)) wC_0 rfl (fun sz => c_X4_bring l D ca ad E13 F9 L S n 3 (by decide : 2 ≤ 3 ∧ 3 < 6) x18 sz) (bg_V kw_550 kw_552 kw_24 kw_31 kw_553) rfl rfl (by decide +kernel) ⟨(Nat.le_of_ble_eq_true rfl), (Nat.le_of_ble_eq_true rfl)⟩ rfl hl.1 rfl (Nat.le_of_ble_eq_true rfl) dX4_buyAll_57 ⟨(Nat.le_of_ble_eq_true rfl), (Nat.le_of_ble_eq_true rfl)⟩) (fun u H locs hp w => ?_)
      subst hp
      obtain ⟨F19, eF19⟩ : ∃ G : Fm, G = (s_bring F9 3 x18) := ⟨_, rfl⟩
      have wf : Wf F19 L S n q := by rw [eF19]; exact wf.buy (by decide : 2 ≤ 3 ∧ 3 < 6)
      rw [← eF19] at w
      refine lv_iload_n X.1 X.2.1 dX4_buyAll_60 rfl (lv_at hl 4 rfl) ?_
      refine lv_iload X.1 X.2.1 dX4_buyAll_61 (lv_at hl 0 rfl) ?_
      refine lv_iadd X.1 X.2.1 dX4_buyAll_63 ?_
      refine lv_topi (fun x20 ex20 => ?_)
      refine lv_istore_n (lv' := [(1, .int x20), (5, .int x18), (4, .int x16), (3, .ref (ad 3)), (2, .int 1), (0, .ref (ad 0))]) X.1 X.2.1 dX4_buyAll_64 rfl hl (by decide) rfl (fun ls hl => ?_)
      refine lv_iinc (v := 2) (lv' := [(2, .int 2), (1, .int x20), (5, .int x18), (4, .int x16), (3, .ref (ad 3)), (0, .ref (ad 0))]) X.1 X.2.1 dX4_buyAll_65 hl (k := 4) rfl (by decide) (by decide) rfl (fun ls hl => ?_)
      refine lv_goto (tgt := 4) X.1 X.2.1 dX4_buyAll_68 (by decide) ?_
      refine lv_iload_n X.1 X.2.1 dX4_buyAll_4 rfl (lv_at hl 0 rfl) ?_
      refine lv_aload_n X.1 X.2.1 dX4_buyAll_5 rfl (lv_at hl 5 rfl) ?_
      refine g_L X w 0 (by decide) (v := .ref (ad 14)) rfl kw_145 dX4_buyAll_6 ?_
      refine len_P X w dX4_buyAll_9 ?_
      refine lv_icmp_ge (tgt := 71) X.1 X.2.1 dX4_buyAll_10 (by decide) (fun c21 => ?_) (fun c21 => ?_)
      ·
        exact absurd c21 (by decide)
      ·
        refine lv_aload_n X.1 X.2.1 dX4_buyAll_13 rfl (lv_at hl 5 rfl) ?_
        refine g_L X w 0 (by decide) (v := .ref (ad 14)) rfl kw_145 dX4_buyAll_14 ?_
        refine lv_iload_n X.1 X.2.1 dX4_buyAll_17 rfl (lv_at hl 0 rfl) ?_
        refine ld_P X w (in_lit (by decide)) dX4_buyAll_18 ?_
        refine W.eq (g2 := F0 m 19 ls [.ref (ad 4)]) rfl ?_
        refine lv_astore_n (lv' := [(3, .ref (ad 4)), (2, .int 2), (1, .int x20), (5, .int x18), (4, .int x16), (0, .ref (ad 0))]) X.1 X.2.1 dX4_buyAll_19 rfl hl (by decide) rfl (fun ls hl => ?_)
        refine lv_aload_n X.1 X.2.1 dX4_buyAll_20 rfl (lv_at hl 0 rfl) ?_
        refine lv_ifnull X.1 X.2.1 dX4_buyAll_21 ?_
        refine lv_aload_n X.1 X.2.1 dX4_buyAll_24 rfl (lv_at hl 5 rfl) ?_
        refine lv_aload_n X.1 X.2.1 dX4_buyAll_25 rfl (lv_at hl 0 rfl) ?_
        refine w_calli cn w (w_runV (n := 1) (As := [.ref (ad 4)]) X cn w (lt17 (by decide)) wC_0 rfl (fun sz => c_X4_shortOf l D ca ad E13 F19 L S n q wf 4 (by decide : 2 ≤ 4 ∧ 4 < 6) sz) (bg_V kw_347 kw_349 kw_13 kw_31 kw_350) rfl rfl (by decide +kernel) ⟨(Nat.le_of_ble_eq_true rfl), (Nat.le_of_ble_eq_true rfl)⟩ rfl hl.1 rfl (Nat.le_of_ble_eq_true rfl) dX4_buyAll_26 ⟨(Nat.le_of_ble_eq_true rfl), (Nat.le_of_ble_eq_true rfl)⟩) (fun r22 u H locs hp w => ?_)
        obtain ⟨E23, q24⟩ := u
        obtain ⟨rfl, h25⟩ := hp
        have h25 : q24 = (F19, L, S, n) := h25
        subst h25
        refine lv_sipush (v := 250) X.1 X.2.1 dX4_buyAll_29 (by decide) ?_
        refine n_calli w (n_runS (n := 2) (As := [.int (s_short F19 L S q 4), .int 250]) X (c_X4_divideUp l (s_short F19 L S q 4) 250) (bg_S kw_559 kw_323 kw_31 kw_324) rfl rfl (by decide +kernel) ⟨(Nat.le_of_ble_eq_true rfl), (Nat.le_of_ble_eq_true rfl)⟩ rfl hl.1 rfl (Nat.le_of_ble_eq_true rfl) dX4_buyAll_32 ⟨(Nat.le_of_ble_eq_true rfl), (Nat.le_of_ble_eq_true rfl)⟩) (fun H locs w => ?_)
        refine lv_topi (fun x26 ex26 => ?_)
        refine lv_istore (lv' := [(4, .int x26), (3, .ref (ad 4)), (2, .int 2), (1, .int x20), (5, .int x18), (0, .ref (ad 0))]) X.1 X.2.1 dX4_buyAll_35 hl (by decide) rfl (fun ls hl => ?_)
        refine lv_iload X.1 X.2.1 dX4_buyAll_37 (lv_at hl 0 rfl) ?_
        refine lv_bipush (v := 40) X.1 X.2.1 dX4_buyAll_39 (by decide) ?_
        refine n_min X hl.1 (X.2.2.2.2 _ kw_560) (Nat.le_of_ble_eq_true rfl) (Nat.le_of_ble_eq_true rfl) (Nat.le_of_ble_eq_true rfl) (Nat.le_of_ble_eq_true rfl) dX4_buyAll_41 ?_
        refine lv_aload_n X.1 X.2.1 dX4_buyAll_44 rfl (lv_at hl 1 rfl) ?_
        refine w_calli cn w (w_runVN (n := 0) (As := []) X cn w (lt17 (by have := (by decide : 2 ≤ 4 ∧ 4 < 6); omega)) (wC_P ((by decide : 2 ≤ 4 ∧ 4 < 6)).1 ((by decide : 2 ≤ 4 ∧ 4 < 6)).2) rfl (fun sz => c_X2_lotsWithRoom l D ca ad E23 F19 L S n 4 (by decide : 2 ≤ 4 ∧ 4 < 6) sz) kw_544 kw_546 kw_23 kw_32 kw_547 rfl rfl (by decide +kernel) ⟨(Nat.le_of_ble_eq_true rfl), (Nat.le_of_ble_eq_true rfl)⟩ rfl hl.1 rfl (Nat.le_of_ble_eq_true rfl) dX4_buyAll_45 ⟨(Nat.le_of_ble_eq_true rfl), (Nat.le_of_ble_eq_true rfl)⟩) (fun r27 u H locs hp w => ?_)
        obtain ⟨rfl, rfl⟩ := hp
        refine n_min X hl.1 (X.2.2.2.2 _ kw_560) (Nat.le_of_ble_eq_true rfl) (Nat.le_of_ble_eq_true rfl) (Nat.le_of_ble_eq_true rfl) (Nat.le_of_ble_eq_true rfl) dX4_buyAll_48 ?_
        refine lv_topi (fun x28 ex28 => ?_)
        refine lv_istore (lv' := [(5, .int x28), (4, .int x26), (3, .ref (ad 4)), (2, .int 2), (1, .int x20), (0, .ref (ad 0))]) X.1 X.2.1 dX4_buyAll_51 hl (by decide) rfl (fun ls hl => ?_)
        refine lv_aload_n X.1 X.2.1 dX4_buyAll_53 rfl (lv_at hl 5 rfl) ?_
        refine lv_aload_n X.1 X.2.1 dX4_buyAll_54 rfl (lv_at hl 2 rfl) ?_
        refine lv_iload X.1 X.2.1 dX4_buyAll_55 (lv_at hl 0 rfl) ?_
        refine w_callv cn w (w_runV (n := 2) (As := [.ref (ad 4), .int x28]) X cn w (lt17 (by decide)) wC_0 rfl (fun sz => c_X4_bring l D ca ad E23 F19 L S n 4 (by decide : 2 ≤ 4 ∧ 4 < 6) x28 sz) (bg_V kw_550 kw_552 kw_24 kw_31 kw_553) rfl rfl (by decide +kernel) ⟨(Nat.le_of_ble_eq_true rfl), (Nat.le_of_ble_eq_true rfl)⟩ rfl hl.1 rfl (Nat.le_of_ble_eq_true rfl) dX4_buyAll_57 ⟨(Nat.le_of_ble_eq_true rfl), (Nat.le_of_ble_eq_true rfl)⟩) (fun u H locs hp w => ?_)
        subst hp
        obtain ⟨F29, eF29⟩ : ∃ G : Fm, G = (s_bring F19 4 x28) := ⟨_, rfl⟩
        have wf : Wf F29 L S n q := by rw [eF29]; exact wf.buy (by decide : 2 ≤ 4 ∧ 4 < 6)
        rw [← eF29] at w
        refine lv_iload_n X.1 X.2.1 dX4_buyAll_60 rfl (lv_at hl 4 rfl) ?_
        refine lv_iload X.1 X.2.1 dX4_buyAll_61 (lv_at hl 0 rfl) ?_
        refine lv_iadd X.1 X.2.1 dX4_buyAll_63 ?_
        refine lv_topi (fun x30 ex30 => ?_)
        refine lv_istore_n (lv' := [(1, .int x30), (5, .int x28), (4, .int x26), (3, .ref (ad 4)), (2, .int 2), (0, .ref (ad 0))]) X.1 X.2.1 dX4_buyAll_64 rfl hl (by decide) rfl (fun ls hl => ?_)
        refine lv_iinc (v := 3) (lv' := [(2, .int 3), (1, .int x30), (5, .int x28), (4, .int x26), (3, .ref (ad 4)), (0, .ref (ad 0))]) X.1 X.2.1 dX4_buyAll_65 hl (k := 4) rfl (by decide) (by decide) rfl (fun ls hl => ?_)
        refine lv_goto (tgt := 4) X.1 X.2.1 dX4_buyAll_68 (by decide) ?_
        refine lv_iload_n X.1 X.2.1 dX4_buyAll_4 rfl (lv_at hl 0 rfl) ?_
        refine lv_aload_n X.1 X.2.1 dX4_buyAll_5 rfl (lv_at hl 5 rfl) ?_
        refine g_L X w 0 (by decide) (v := .ref (ad 14)) rfl kw_145 dX4_buyAll_6 ?_
        refine len_P X w dX4_buyAll_9 ?_
        refine lv_icmp_ge (tgt := 71) X.1 X.2.1 dX4_buyAll_10 (by decide) (fun c31 => ?_) (fun c31 => ?_)
        ·
          exact absurd c31 (by decide)
        ·
          refine lv_aload_n X.1 X.2.1 dX4_buyAll_13 rfl (lv_at hl 5 rfl) ?_
          refine g_L X w 0 (by decide) (v := .ref (ad 14)) rfl kw_145 dX4_buyAll_14 ?_
          refine lv_iload_n X.1 X.2.1 dX4_buyAll_17 rfl (lv_at hl 0 rfl) ?_
          refine ld_P X w (in_lit (by decide)) dX4_buyAll_18 ?_
          refine W.eq (g2 := F0 m 19 ls [.ref (ad 5)]) rfl ?_
          refine lv_astore_n (lv' := [(3, .ref (ad 5)), (2, .int 3), (1, .int x30), (5, .int x28), (4, .int x26), (0, .ref (ad 0))]) X.1 X.2.1 dX4_buyAll_19 rfl hl (by decide) rfl (fun ls hl => ?_)
          refine lv_aload_n X.1 X.2.1 dX4_buyAll_20 rfl (lv_at hl 0 rfl) ?_
          refine lv_ifnull X.1 X.2.1 dX4_buyAll_21 ?_
          refine lv_aload_n X.1 X.2.1 dX4_buyAll_24 rfl (lv_at hl 5 rfl) ?_
          refine lv_aload_n X.1 X.2.1 dX4_buyAll_25 rfl (lv_at hl 0 rfl) ?_
          refine w_calli cn w (w_runV (n := 1) (As := [.ref (ad 5)]) X cn w (lt17 (by decide)) wC_0 rfl (fun sz => c_X4_shortOf l D ca ad E23 F29 L S n q wf 5 (by decide : 2 ≤ 5 ∧ 5 < 6) sz) (bg_V kw_347 kw_349 kw_13 kw_31 kw_350) rfl rfl (by decide +kernel) ⟨(Nat.le_of_ble_eq_true rfl), (Nat.le_of_ble_eq_true rfl)⟩ rfl hl.1 rfl (Nat.le_of_ble_eq_true rfl) dX4_buyAll_26 ⟨(Nat.le_of_ble_eq_true rfl), (Nat.le_of_ble_eq_true rfl)⟩) (fun r32 u H locs hp w => ?_)
          obtain ⟨E33, q34⟩ := u
          obtain ⟨rfl, h35⟩ := hp
          have h35 : q34 = (F29, L, S, n) := h35
          subst h35
          refine lv_sipush (v := 250) X.1 X.2.1 dX4_buyAll_29 (by decide) ?_
          refine n_calli w (n_runS (n := 2) (As := [.int (s_short F29 L S q 5), .int 250]) X (c_X4_divideUp l (s_short F29 L S q 5) 250) (bg_S kw_559 kw_323 kw_31 kw_324) rfl rfl (by decide +kernel) ⟨(Nat.le_of_ble_eq_true rfl), (Nat.le_of_ble_eq_true rfl)⟩ rfl hl.1 rfl (Nat.le_of_ble_eq_true rfl) dX4_buyAll_32 ⟨(Nat.le_of_ble_eq_true rfl), (Nat.le_of_ble_eq_true rfl)⟩) (fun H locs w => ?_)
          refine lv_topi (fun x36 ex36 => ?_)
          refine lv_istore (lv' := [(4, .int x36), (3, .ref (ad 5)), (2, .int 3), (1, .int x30), (5, .int x28), (0, .ref (ad 0))]) X.1 X.2.1 dX4_buyAll_35 hl (by decide) rfl (fun ls hl => ?_)
          refine lv_iload X.1 X.2.1 dX4_buyAll_37 (lv_at hl 0 rfl) ?_
          refine lv_bipush (v := 40) X.1 X.2.1 dX4_buyAll_39 (by decide) ?_
          refine n_min X hl.1 (X.2.2.2.2 _ kw_560) (Nat.le_of_ble_eq_true rfl) (Nat.le_of_ble_eq_true rfl) (Nat.le_of_ble_eq_true rfl) (Nat.le_of_ble_eq_true rfl) dX4_buyAll_41 ?_
          refine lv_aload_n X.1 X.2.1 dX4_buyAll_44 rfl (lv_at hl 1 rfl) ?_
          refine w_calli cn w (w_runVN (n := 0) (As := []) X cn w (lt17 (by have := (by decide : 2 ≤ 5 ∧ 5 < 6); omega)) (wC_P ((by decide : 2 ≤ 5 ∧ 5 < 6)).1 ((by decide : 2 ≤ 5 ∧ 5 < 6)).2) rfl (fun sz => c_X2_lotsWithRoom l D ca ad E33 F29 L S n 5 (by decide : 2 ≤ 5 ∧ 5 < 6) sz) kw_544 kw_546 kw_23 kw_32 kw_547 rfl rfl (by decide +kernel) ⟨(Nat.le_of_ble_eq_true rfl), (Nat.le_of_ble_eq_true rfl)⟩ rfl hl.1 rfl (Nat.le_of_ble_eq_true rfl) dX4_buyAll_45 ⟨(Nat.le_of_ble_eq_true rfl), (Nat.le_of_ble_eq_true rfl)⟩) (fun r37 u H locs hp w => ?_)
          obtain ⟨rfl, rfl⟩ := hp
          refine n_min X hl.1 (X.2.2.2.2 _ kw_560) (Nat.le_of_ble_eq_true rfl) (Nat.le_of_ble_eq_true rfl) (Nat.le_of_ble_eq_true rfl) (Nat.le_of_ble_eq_true rfl) dX4_buyAll_48 ?_
          refine lv_topi (fun x38 ex38 => ?_)
          refine lv_istore (lv' := [(5, .int x38), (4, .int x36), (3, .ref (ad 5)), (2, .int 3), (1, .int x30), (0, .ref (ad 0))]) X.1 X.2.1 dX4_buyAll_51 hl (by decide) rfl (fun ls hl => ?_)
          refine lv_aload_n X.1 X.2.1 dX4_buyAll_53 rfl (lv_at hl 5 rfl) ?_
          refine lv_aload_n X.1 X.2.1 dX4_buyAll_54 rfl (lv_at hl 2 rfl) ?_
          refine lv_iload X.1 X.2.1 dX4_buyAll_55 (lv_at hl 0 rfl) ?_
          refine w_callv cn w (w_runV (n := 2) (As := [.ref (ad 5), .int x38]) X cn w (lt17 (by decide)) wC_0 rfl (fun sz => c_X4_bring l D ca ad E33 F29 L S n 5 (by decide : 2 ≤ 5 ∧ 5 < 6) x38 sz) (bg_V kw_550 kw_552 kw_24 kw_31 kw_553) rfl rfl (by decide +kernel) ⟨(Nat.le_of_ble_eq_true rfl), (Nat.le_of_ble_eq_true rfl)⟩ rfl hl.1 rfl (Nat.le_of_ble_eq_true rfl) dX4_buyAll_57 ⟨(Nat.le_of_ble_eq_true rfl), (Nat.le_of_ble_eq_true rfl)⟩) (fun u H locs hp w => ?_)
          subst hp
          obtain ⟨F39, eF39⟩ : ∃ G : Fm, G = (s_bring F29 5 x38) := ⟨_, rfl⟩
          have wf : Wf F39 L S n q := by rw [eF39]; exact wf.buy (by decide : 2 ≤ 5 ∧ 5 < 6)
          rw [← eF39] at w
          refine lv_iload_n X.1 X.2.1 dX4_buyAll_60 rfl (lv_at hl 4 rfl) ?_
          refine lv_iload X.1 X.2.1 dX4_buyAll_61 (lv_at hl 0 rfl) ?_
          refine lv_iadd X.1 X.2.1 dX4_buyAll_63 ?_
          refine lv_topi (fun x40 ex40 => ?_)
          refine lv_istore_n (lv' := [(1, .int x40), (5, .int x38), (4, .int x36), (3, .ref (ad 5)), (2, .int 3), (0, .ref (ad 0))]) X.1 X.2.1 dX4_buyAll_64 rfl hl (by decide) rfl (fun ls hl => ?_)
          refine lv_iinc (v := 4) (lv' := [(2, .int 4), (1, .int x40), (5, .int x38), (4, .int x36), (3, .ref (ad 5)), (0, .ref (ad 0))]) X.1 X.2.1 dX4_buyAll_65 hl (k := 4) rfl (by decide) (by decide) rfl (fun ls hl => ?_)
          refine lv_goto (tgt := 4) X.1 X.2.1 dX4_buyAll_68 (by decide) ?_
          refine lv_iload_n X.1 X.2.1 dX4_buyAll_4 rfl (lv_at hl 0 rfl) ?_
          refine lv_aload_n X.1 X.2.1 dX4_buyAll_5 rfl (lv_at hl 5 rfl) ?_
          refine g_L X w 0 (by decide) (v := .ref (ad 14)) rfl kw_145 dX4_buyAll_6 ?_
          refine len_P X w dX4_buyAll_9 ?_
          refine lv_icmp_ge (tgt := 71) X.1 X.2.1 dX4_buyAll_10 (by decide) (fun c41 => ?_) (fun c41 => ?_)
          ·
            refine lv_iload_n X.1 X.2.1 dX4_buyAll_71 rfl (lv_at hl 1 rfl) ?_
            exact w_iret X hr hlk w (by subst ex40; subst eF39; subst ex38; subst ex36; subst ex30; subst eF29; subst ex28; subst ex26; subst ex20; subst eF19; subst ex18; subst ex16; subst ex10; subst eF9; subst ex8; subst ex6; exact ⟨rfl, rfl⟩) dX4_buyAll_72 rfl (Nat.le_of_ble_eq_true rfl) (Nat.le_of_ble_eq_true rfl)
          ·
            exact absurd (by decide) c41
end
section
theorem nI_nle2 {a b : Nat} (h : b < a) (ha : a < 2 ^ 31) : ¬ nI a ≤ nI b := nI_ge h ha

set_option maxHeartbeats 4000000 in
set_option maxRecDepth 100000 in
theorem lp_X3_insert {p : Program} {l : Launch} {e : Env} {s : State} {m : MethodId} {args : Array Value} {below : List Frame} {meth : Method} {c : Code} {D : va_G} {ca : Nat → ClassId} {ad : Nat → Nat} {E : Em} {F : Fm} {L : Lm} {S : Sm} {n : Nat} (X : CallFix p m c cX3_insert 4 s args BG yX3_insert.cls) (hr : meth.sig.returnType = none) (hlk : meth.locks = false) (cn : Cn (wA ad n s.heap.size) s) (o : Nat) (ho : 6 ≤ o ∧ o < 10) (j : Nat) (hj : j < n) (z pl : Nat) (hz : F o 6 = nI z) (hz20 : z < 20) (hpl : pl ≤ z) (hqj : ∀ x j, L o x = some j → j < n) :
    ∀ (d : Nat) (k : Nat), pl + d = k → k ≤ z → ∀ (H : Heap) (locs : List Loc), Wd D ca ad (wA ad n s.heap.size) s H locs (E, F, (upLf L o (shF (L o) k z)), S, n) → ∀ (ls : Array Slot), lv_has ls 4 [(3, .int (nI k)), (0, .ref (ad o)), (1, .ref (ad (17 + j))), (2, .int (nI pl))] →
      W p l e { frames := 0, cells := 0, slots := 0, locals := 0 } s m args below meth c H locs 0 0 (MQ below (Qv D ca ad n (fun u => u = (E, up2 F o 6 (nI (z + 1)), upLf L o (insF (L o) pl j z), S, n)) s.heap.size) args s 0 0 (wA ad n s.heap.size)) (F0 m 30 ls []) := by
  intro d
  induction d with
  | zero =>
    intro k hkd hkz H locs w ls hl
    obtain rfl : pl = k := by omega
    refine lv_iload_n X.1 X.2.1 dX3_insert_30 rfl (lv_at hl 0 rfl) ?_
    refine lv_iload_n X.1 X.2.1 dX3_insert_31 rfl (lv_at hl 3 rfl) ?_
    refine lv_icmp_le (tgt := 55) X.1 X.2.1 dX3_insert_32 (by decide) (fun c1 => ?_) (fun c1 => ?_)
    ·
      refine lv_aload_n X.1 X.2.1 dX3_insert_55 rfl (lv_at hl 1 rfl) ?_
      refine g_R X w ho 5 (by decide) (v := .ref (ad (o + 4))) rfl kw_98 dX3_insert_56 ?_
      refine lv_iload_n X.1 X.2.1 dX3_insert_59 rfl (lv_at hl 3 rfl) ?_
      refine lv_aload_n X.1 X.2.1 dX3_insert_60 rfl (lv_at hl 2 rfl) ?_
      refine st_L X w ho (some j) (fun _ h => by cases h; exact hj) (vp_in_nI (by omega) (by omega)) dX3_insert_61 (fun H locs w => ?_)
      obtain ⟨L2, eL2⟩ : ∃ G : Lm, G = upL (upLf L o (shF (L o) pl z)) o ((nI pl)).toNatClampNeg (some j) := ⟨_, rfl⟩
      rw [← eL2] at w
      refine lv_aload_n X.1 X.2.1 dX3_insert_62 rfl (lv_at hl 1 rfl) ?_
      refine lv_dup X.1 X.2.1 dX3_insert_63 rfl ?_
      refine g_R X w ho 6 (by decide) (v := .int (F o 6)) rfl kw_99 dX3_insert_64 ?_
      refine lv_iconst (v := 1) X.1 X.2.1 dX3_insert_67 (by decide) ?_
      refine lv_iadd X.1 X.2.1 dX3_insert_68 ?_
      refine p_R X w ho 6 (by decide) rfl (by decide +kernel) (v := ((F o 6) + 1)) kw_99 dX3_insert_69 (fun H locs w => ?_)
      obtain ⟨F3, eF3⟩ : ∃ G : Fm, G = up2 F o 6 ((F o 6) + 1) := ⟨_, rfl⟩
      rw [← eF3] at w
      exact w_vret X hr hlk w (by subst eF3; subst eL2; rw [upL_upLf, cl_nI (by omega), hz, nI_1]; rfl) dX3_insert_72 (Nat.le_of_ble_eq_true rfl) (Nat.le_of_ble_eq_true rfl)
    ·
      exact absurd (Int32.le_refl _) c1
  | succ d ih =>
    intro k hkd hkz H locs w ls hl
    obtain ⟨k0, rfl⟩ : ∃ k0, k = k0 + 1 := ⟨pl + d, by omega⟩
    have hM : ∀ x j, (upLf L o (shF (L o) (k0 + 1) z)) o x = some j → j < n := fun x j h => by rw [upLf_s] at h; exact shF_lt hqj x j h
    refine lv_iload_n X.1 X.2.1 dX3_insert_30 rfl (lv_at hl 0 rfl) ?_
    refine lv_iload_n X.1 X.2.1 dX3_insert_31 rfl (lv_at hl 3 rfl) ?_
    refine lv_icmp_le (tgt := 55) X.1 X.2.1 dX3_insert_32 (by decide) (fun c1 => ?_) (fun c1 => ?_)
    ·
      exact absurd c1 (nI_nle2 (by omega) (by omega))
    ·
      refine lv_aload_n X.1 X.2.1 dX3_insert_35 rfl (lv_at hl 1 rfl) ?_
      refine g_R X w ho 5 (by decide) (v := .ref (ad (o + 4))) rfl kw_98 dX3_insert_36 ?_
      refine lv_iload_n X.1 X.2.1 dX3_insert_39 rfl (lv_at hl 0 rfl) ?_
      refine lv_aload_n X.1 X.2.1 dX3_insert_40 rfl (lv_at hl 1 rfl) ?_
      refine g_R X w ho 5 (by decide) (v := .ref (ad (o + 4))) rfl kw_98 dX3_insert_41 ?_
      refine lv_iload_n X.1 X.2.1 dX3_insert_44 rfl (lv_at hl 0 rfl) ?_
      refine lv_iconst (v := 1) X.1 X.2.1 dX3_insert_45 (by decide) ?_
      refine lv_isub X.1 X.2.1 dX3_insert_46 ?_
      refine ld_L X w ho (by rw [nI_pred]; exact vp_in_nI (by omega) (by omega)) dX3_insert_47 ?_
      refine st_L X w ho ((upLf L o (shF (L o) (k0 + 1) z)) o (((nI (k0 + 1)) - 1)).toNatClampNeg) (fun x h => (hM _ _ h)) (vp_in_nI (by omega) (by omega)) dX3_insert_48 (fun H locs w => ?_)
      obtain ⟨L2, eL2⟩ : ∃ G : Lm, G = upL (upLf L o (shF (L o) (k0 + 1) z)) o ((nI (k0 + 1))).toNatClampNeg ((upLf L o (shF (L o) (k0 + 1) z)) o (((nI (k0 + 1)) - 1)).toNatClampNeg) := ⟨_, rfl⟩
      rw [← eL2] at w
      refine lv_iinc (v := (nI k0)) (lv' := [(3, .int (nI k0)), (0, .ref (ad o)), (1, .ref (ad (17 + j))), (2, .int (nI pl))]) X.1 X.2.1 dX3_insert_49 hl (k := 0) rfl (by rw [m1I]; exact pk_m1 k0) (by decide) rfl (fun ls hl => ?_)
      refine lv_goto (tgt := 30) X.1 X.2.1 dX3_insert_52 (by decide) ?_
      have hL : L2 = (upLf L o (shF (L o) k0 z)) := by subst eL2; rw [nI_pred, cl_nI (by omega), cl_nI (by omega), upL_upLf, upLf_s]; rw [shF_step (by omega)]
      rw [hL] at w
      exact ih k0 (by omega) (by omega) H locs w ls (lv_sub hl [0, 1, 2, 3] rfl)

set_option maxHeartbeats 4000000 in
set_option maxRecDepth 100000 in
theorem c_X3_insert (l : Launch) (D : va_G) (ca : Nat → ClassId) (ad : Nat → Nat) (E : Em) (F : Fm) (L : Lm) (S : Sm) (n : Nat) (o : Nat) (ho : 6 ≤ o ∧ o < 10) (j : Nat) (hj : j < n) (z pl : Nat) (hz : F o 6 = nI z) (hz20 : z < 20) (hpl : pl ≤ z) (hqj : ∀ x j, L o x = some j → j < n) (sz : Nat) : Met l yX3_insert (.code yX3_insert cX3_insert 4 none :: BG) { frames := 0, cells := 0, slots := 0, locals := 0 } (Pw D ca ad (E, F, L, S, n) sz [.ref (ad o), .ref (ad (17 + j)), .int (nI pl)]) (Qv D ca ad n (fun u => u = (E, up2 F o 6 (nI (z + 1)), upLf L o (insF (L o) pl j z), S, n)) sz) 0 0 (wA ad n sz) := by
  refine open_W (σ := (E, F, L, S, n)) (Qc := Qv D ca ad n (fun u => u = (E, up2 F o 6 (nI (z + 1)), upLf L o (insF (L o) pl j z), S, n))) (by decide +kernel) (Nat.le_of_ble_eq_true rfl) ?_
  intro p e s m args below meth c X hr hlk w cn ls hl
  have hl : lv_has ls 4 [(0, .ref (ad o)), (1, .ref (ad (17 + j))), (2, .int (nI pl))] := hl
  refine lv_iload_n X.1 X.2.1 dX3_insert_0 rfl (lv_at hl 2 rfl) ?_
  refine lv_if_lt (tgt := 24) X.1 X.2.1 dX3_insert_1 (by decide) (fun c1 => ?_) (fun c1 => ?_)
  ·
    exact absurd c1 (nI_pos (by omega))
  ·
    refine lv_iload_n X.1 X.2.1 dX3_insert_4 rfl (lv_at hl 2 rfl) ?_
    refine lv_aload_n X.1 X.2.1 dX3_insert_5 rfl (lv_at hl 0 rfl) ?_
    refine g_R X w ho 6 (by decide) (v := .int (F o 6)) rfl kw_99 dX3_insert_6 ?_
    refine lv_icmp_gt (tgt := 24) X.1 X.2.1 dX3_insert_9 (by decide) (fun c2 => ?_) (fun c2 => ?_)
    ·
      rw [hz] at c2; exact absurd c2 (nI_nlt (by omega) (by omega))
    ·
      refine lv_aload_n X.1 X.2.1 dX3_insert_12 rfl (lv_at hl 0 rfl) ?_
      refine g_R X w ho 6 (by decide) (v := .int (F o 6)) rfl kw_99 dX3_insert_13 ?_
      refine lv_aload_n X.1 X.2.1 dX3_insert_16 rfl (lv_at hl 0 rfl) ?_
      refine g_R X w ho 5 (by decide) (v := .ref (ad (o + 4))) rfl kw_98 dX3_insert_17 ?_
      refine len_L X w ho dX3_insert_20 ?_
      refine lv_icmp_lt (tgt := 25) X.1 X.2.1 dX3_insert_21 (by decide) (fun c3 => ?_) (fun c3 => ?_)
      ·
        refine lv_aload_n X.1 X.2.1 dX3_insert_25 rfl (lv_at hl 0 rfl) ?_
        refine g_R X w ho 6 (by decide) (v := .int (F o 6)) rfl kw_99 dX3_insert_26 ?_
        refine lv_topi (fun x4 ex4 => ?_)
        refine lv_istore_n (lv' := [(3, .int x4), (0, .ref (ad o)), (1, .ref (ad (17 + j))), (2, .int (nI pl))]) X.1 X.2.1 dX3_insert_29 rfl hl (by decide) rfl (fun ls hl => ?_)
        subst ex4;
        rw [hz] at hl
        exact lp_X3_insert X hr hlk cn o ho j hj z pl hz hz20 hpl hqj (z - pl) z (by omega) (Nat.le_refl z) _ _ (by rw [shF_z, upLf_self]; exact w) ls (lv_sub hl [0, 1, 2, 3] rfl)
      ·
        exact absurd (by rw [hz, show (20 : Int32) = nI 20 from rfl]; exact nI_lt (by omega) (by omega)) c3

set_option maxHeartbeats 4000000 in
set_option maxRecDepth 100000 in
theorem lp_X3_remove {p : Program} {l : Launch} {e : Env} {s : State} {m : MethodId} {args : Array Value} {below : List Frame} {meth : Method} {c : Code} {D : va_G} {ca : Nat → ClassId} {ad : Nat → Nat} {E : Em} {F : Fm} {L : Lm} {S : Sm} {n : Nat} (X : CallFix p m c cX3_remove 3 s args BG yX3_remove.cls) (hr : meth.sig.returnType = none) (hlk : meth.locks = false) (cn : Cn (wA ad n s.heap.size) s) (o : Nat) (ho : 6 ≤ o ∧ o < 10) (z pl : Nat) (hz : F o 6 = nI z) (hz20 : z ≤ 20) (hpl : pl < z) (hqj : ∀ x j, L o x = some j → j < n) :
    ∀ (d : Nat) (k : Nat), k + d + 1 = z → pl ≤ k → ∀ (H : Heap) (locs : List Loc), Wd D ca ad (wA ad n s.heap.size) s H locs (E, F, (upLf L o (rsF (L o) pl k)), S, n) → ∀ (ls : Array Slot), lv_has ls 3 [(2, .int (nI k)), (0, .ref (ad o)), (1, .int (nI pl))] →
      W p l e { frames := 0, cells := 0, slots := 0, locals := 0 } s m args below meth c H locs 0 0 (MQ below (Qv D ca ad n (fun u => u = (E, up2 F o 6 (nI (z - 1)), upLf L o (remF (L o) pl z), S, n)) s.heap.size) args s 0 0 (wA ad n s.heap.size)) (F0 m 27 ls []) := by
  intro d
  induction d with
  | zero =>
    intro k hkd hkz H locs w ls hl
    refine lv_iload_n X.1 X.2.1 dX3_remove_27 rfl (lv_at hl 0 rfl) ?_
    refine lv_aload_n X.1 X.2.1 dX3_remove_28 rfl (lv_at hl 1 rfl) ?_
    refine g_R X w ho 6 (by decide) (v := .int (F o 6)) rfl kw_99 dX3_remove_29 ?_
    refine lv_iconst (v := 1) X.1 X.2.1 dX3_remove_32 (by decide) ?_
    refine lv_isub X.1 X.2.1 dX3_remove_33 ?_
    refine lv_icmp_ge (tgt := 57) X.1 X.2.1 dX3_remove_34 (by decide) (fun c1 => ?_) (fun c1 => ?_)
    ·
      refine lv_aload_n X.1 X.2.1 dX3_remove_57 rfl (lv_at hl 1 rfl) ?_
      refine lv_dup X.1 X.2.1 dX3_remove_58 rfl ?_
      refine g_R X w ho 6 (by decide) (v := .int (F o 6)) rfl kw_99 dX3_remove_59 ?_
      refine lv_iconst (v := 1) X.1 X.2.1 dX3_remove_62 (by decide) ?_
      refine lv_isub X.1 X.2.1 dX3_remove_63 ?_
      refine p_R X w ho 6 (by decide) rfl (by decide +kernel) (v := ((F o 6) - 1)) kw_99 dX3_remove_64 (fun H locs w => ?_)
      obtain ⟨F2, eF2⟩ : ∃ G : Fm, G = up2 F o 6 ((F o 6) - 1) := ⟨_, rfl⟩
      rw [← eF2] at w
      refine lv_aload_n X.1 X.2.1 dX3_remove_67 rfl (lv_at hl 1 rfl) ?_
      refine g_R X w ho 5 (by decide) (v := .ref (ad (o + 4))) rfl kw_98 dX3_remove_68 ?_
      refine lv_aload_n X.1 X.2.1 dX3_remove_71 rfl (lv_at hl 1 rfl) ?_
      refine g_R X w ho 6 (by decide) (v := .int (F2 o 6)) rfl kw_99 dX3_remove_72 ?_
      refine lv_null X.1 X.2.1 dX3_remove_75 ?_
      refine st_L X w ho none (fun _ h => by cases h) (by rw [eF2, up2_s, hz, show (1 : Int32) = nI 1 from rfl, pk_sub (by omega)]; exact vp_in_nI (by omega) (by omega)) dX3_remove_76 (fun H locs w => ?_)
      obtain ⟨L3, eL3⟩ : ∃ G : Lm, G = upL (upLf L o (rsF (L o) pl k)) o ((F2 o 6)).toNatClampNeg none := ⟨_, rfl⟩
      rw [← eL3] at w
      exact w_vret X hr hlk w (by subst eL3; subst eF2; rw [up2_s, hz, show (1 : Int32) = nI 1 from rfl, pk_sub (by omega), cl_nI (by omega), upL_upLf]; rw [show k = z - 1 by omega]; rfl) dX3_remove_77 (Nat.le_of_ble_eq_true rfl) (Nat.le_of_ble_eq_true rfl)
    ·
      exact absurd (by rw [hz, show (1 : Int32) = nI 1 from rfl, pk_sub (by omega)]; exact nI_le (by omega) (by omega)) c1
  | succ d ih =>
    intro k hkd hkz H locs w ls hl
    have hM : ∀ x j, (upLf L o (rsF (L o) pl k)) o x = some j → j < n := fun x j h => by rw [upLf_s] at h; exact rsF_lt hqj x j h
    refine lv_iload_n X.1 X.2.1 dX3_remove_27 rfl (lv_at hl 0 rfl) ?_
    refine lv_aload_n X.1 X.2.1 dX3_remove_28 rfl (lv_at hl 1 rfl) ?_
    refine g_R X w ho 6 (by decide) (v := .int (F o 6)) rfl kw_99 dX3_remove_29 ?_
    refine lv_iconst (v := 1) X.1 X.2.1 dX3_remove_32 (by decide) ?_
    refine lv_isub X.1 X.2.1 dX3_remove_33 ?_
    refine lv_icmp_ge (tgt := 57) X.1 X.2.1 dX3_remove_34 (by decide) (fun c1 => ?_) (fun c1 => ?_)
    ·
      rw [hz, show (1 : Int32) = nI 1 from rfl, pk_sub (by omega)] at c1; exact absurd c1 (nI_ge (by omega) (by omega))
    ·
      refine lv_aload_n X.1 X.2.1 dX3_remove_37 rfl (lv_at hl 1 rfl) ?_
      refine g_R X w ho 5 (by decide) (v := .ref (ad (o + 4))) rfl kw_98 dX3_remove_38 ?_
      refine lv_iload_n X.1 X.2.1 dX3_remove_41 rfl (lv_at hl 0 rfl) ?_
      refine lv_aload_n X.1 X.2.1 dX3_remove_42 rfl (lv_at hl 1 rfl) ?_
      refine g_R X w ho 5 (by decide) (v := .ref (ad (o + 4))) rfl kw_98 dX3_remove_43 ?_
      refine lv_iload_n X.1 X.2.1 dX3_remove_46 rfl (lv_at hl 0 rfl) ?_
      refine lv_iconst (v := 1) X.1 X.2.1 dX3_remove_47 (by decide) ?_
      refine lv_iadd X.1 X.2.1 dX3_remove_48 ?_
      refine ld_L X w ho (by rw [nI_1]; exact vp_in_nI (by omega) (by omega)) dX3_remove_49 ?_
      refine st_L X w ho ((upLf L o (rsF (L o) pl k)) o (((nI k) + 1)).toNatClampNeg) (fun x h => (hM _ _ h)) (vp_in_nI (by omega) (by omega)) dX3_remove_50 (fun H locs w => ?_)
      obtain ⟨L2, eL2⟩ : ∃ G : Lm, G = upL (upLf L o (rsF (L o) pl k)) o ((nI k)).toNatClampNeg ((upLf L o (rsF (L o) pl k)) o (((nI k) + 1)).toNatClampNeg) := ⟨_, rfl⟩
      rw [← eL2] at w
      refine lv_iinc (v := (nI (k + 1))) (lv' := [(2, .int (nI (k + 1))), (0, .ref (ad o)), (1, .int (nI pl))]) X.1 X.2.1 dX3_remove_51 hl (k := 0) rfl (nI_1 k) (by decide) rfl (fun ls hl => ?_)
      refine lv_goto (tgt := 27) X.1 X.2.1 dX3_remove_54 (by decide) ?_
      have hL : L2 = (upLf L o (rsF (L o) pl (k + 1))) := by subst eL2; rw [nI_1, cl_nI (by omega), cl_nI (by omega), upL_upLf, upLf_s]; rw [rsF_step (by omega)]
      rw [hL] at w
      exact ih (k + 1) (by omega) (by omega) H locs w ls (lv_sub hl [0, 1, 2] rfl)

set_option maxHeartbeats 4000000 in
set_option maxRecDepth 100000 in
theorem c_X3_remove (l : Launch) (D : va_G) (ca : Nat → ClassId) (ad : Nat → Nat) (E : Em) (F : Fm) (L : Lm) (S : Sm) (n : Nat) (o : Nat) (ho : 6 ≤ o ∧ o < 10) (z pl : Nat) (hz : F o 6 = nI z) (hz20 : z ≤ 20) (hpl : pl < z) (hqj : ∀ x j, L o x = some j → j < n) (sz : Nat) : Met l yX3_remove (.code yX3_remove cX3_remove 3 none :: BG) { frames := 0, cells := 0, slots := 0, locals := 0 } (Pw D ca ad (E, F, L, S, n) sz [.ref (ad o), .int (nI pl)]) (Qv D ca ad n (fun u => u = (E, up2 F o 6 (nI (z - 1)), upLf L o (remF (L o) pl z), S, n)) sz) 0 0 (wA ad n sz) := by
  refine open_W (σ := (E, F, L, S, n)) (Qc := Qv D ca ad n (fun u => u = (E, up2 F o 6 (nI (z - 1)), upLf L o (remF (L o) pl z), S, n))) (by decide +kernel) (Nat.le_of_ble_eq_true rfl) ?_
  intro p e s m args below meth c X hr hlk w cn ls hl
  have hl : lv_has ls 3 [(0, .ref (ad o)), (1, .int (nI pl))] := hl
  refine lv_iload_n X.1 X.2.1 dX3_remove_0 rfl (lv_at hl 1 rfl) ?_
  refine lv_if_lt (tgt := 24) X.1 X.2.1 dX3_remove_1 (by decide) (fun c1 => ?_) (fun c1 => ?_)
  ·
    exact absurd c1 (nI_pos (by omega))
  ·
    refine lv_iload_n X.1 X.2.1 dX3_remove_4 rfl (lv_at hl 1 rfl) ?_
    refine lv_aload_n X.1 X.2.1 dX3_remove_5 rfl (lv_at hl 0 rfl) ?_
    refine g_R X w ho 6 (by decide) (v := .int (F o 6)) rfl kw_99 dX3_remove_6 ?_
    refine lv_icmp_ge (tgt := 24) X.1 X.2.1 dX3_remove_9 (by decide) (fun c2 => ?_) (fun c2 => ?_)
    ·
      rw [hz] at c2; exact absurd c2 (nI_ge (by omega) (by omega))
    ·
      refine lv_aload_n X.1 X.2.1 dX3_remove_12 rfl (lv_at hl 0 rfl) ?_
      refine g_R X w ho 6 (by decide) (v := .int (F o 6)) rfl kw_99 dX3_remove_13 ?_
      refine lv_aload_n X.1 X.2.1 dX3_remove_16 rfl (lv_at hl 0 rfl) ?_
      refine g_R X w ho 5 (by decide) (v := .ref (ad (o + 4))) rfl kw_98 dX3_remove_17 ?_
      refine len_L X w ho dX3_remove_20 ?_
      refine lv_icmp_le (tgt := 25) X.1 X.2.1 dX3_remove_21 (by decide) (fun c3 => ?_) (fun c3 => ?_)
      ·
        refine lv_iload_n X.1 X.2.1 dX3_remove_25 rfl (lv_at hl 1 rfl) ?_
        refine lv_istore_n (lv' := [(2, .int (nI pl)), (0, .ref (ad o)), (1, .int (nI pl))]) X.1 X.2.1 dX3_remove_26 rfl hl (by decide) rfl (fun ls hl => ?_)
        exact lp_X3_remove X hr hlk cn o ho z pl hz hz20 hpl hqj (z - 1 - pl) pl (by omega) (Nat.le_refl pl) _ _ (by rw [rsF_0, upLf_self]; exact w) ls (lv_sub hl [0, 1, 2] rfl)
      ·
        exact absurd (by rw [hz, show (20 : Int32) = nI 20 from rfl]; exact nI_le (by omega) (by omega)) c3

set_option maxHeartbeats 4000000 in
set_option maxRecDepth 100000 in
theorem lp_X3_placeOfLeastChange {p : Program} {l : Launch} {e : Env} {s : State} {m : MethodId} {args : Array Value} {below : List Frame} {meth : Method} {c : Code} {D : va_G} {ca : Nat → ClassId} {ad : Nat → Nat} {E : Em} {F : Fm} {L : Lm} {S : Sm} {n : Nat} (X : CallFix p m c cX3_placeOfLeastChange 8 s args BG yX3_placeOfLeastChange.cls) (hr : meth.sig.returnType = (some .int)) (hlk : meth.locks = false) (cn : Cn (wA ad n s.heap.size) s) (o : Nat) (ho : 6 ≤ o ∧ o < 10) (z : Nat) (hqo : F o 6 = nI z) (hq20 : z ≤ 20) (hqj : ∀ x j, L o x = some j → j < n) (i : Int32) (f0 : Int32) :
    ∀ (d : Nat) (k b : Nat) (lst : Int32), k + d = z → ∀ (H : Heap) (locs : List Loc), Wd D ca ad (wA ad n s.heap.size) s H locs (E, F, L, S, n) → ∀ (ls : Array Slot), lv_has ls 8 [(5, .int (nI k)), (4, .int lst), (3, .int (nI b)), (0, .ref (ad o)), (1, .int f0), (2, .int i)] →
      W p l e { frames := 2, cells := 0, slots := 0, locals := 41 } s m args below meth c H locs 0 0 (MQ below (Qi D ca ad n (fun r u => r = nI (s_plc F (L o) i d k b lst) ∧ u = (E, F, L, S, n)) s.heap.size) args s 0 0 (wA ad n s.heap.size)) (F0 m 9 ls []) := by
  intro d
  induction d with
  | zero =>
    intro k b lst hkd H locs w ls hl
    refine lv_iload X.1 X.2.1 dX3_placeOfLeastChange_9 (lv_at hl 0 rfl) ?_
    refine lv_aload_n X.1 X.2.1 dX3_placeOfLeastChange_11 rfl (lv_at hl 3 rfl) ?_
    refine g_R X w ho 6 (by decide) (v := .int (F o 6)) rfl kw_99 dX3_placeOfLeastChange_12 ?_
    refine lv_icmp_ge (tgt := 64) X.1 X.2.1 dX3_placeOfLeastChange_15 (by decide) (fun c1 => ?_) (fun c1 => ?_)
    ·
      refine lv_iload_n X.1 X.2.1 dX3_placeOfLeastChange_64 rfl (lv_at hl 2 rfl) ?_
      exact w_iret X hr hlk w (by  exact ⟨rfl, rfl⟩) dX3_placeOfLeastChange_65 rfl (Nat.le_of_ble_eq_true rfl) (Nat.le_of_ble_eq_true rfl)
    ·
      exact absurd (by rw [hqo]; exact (geN hkd hq20).mpr rfl) c1
  | succ d ih =>
    intro k b lst hkd H locs w ls hl
    refine lv_iload X.1 X.2.1 dX3_placeOfLeastChange_9 (lv_at hl 0 rfl) ?_
    refine lv_aload_n X.1 X.2.1 dX3_placeOfLeastChange_11 rfl (lv_at hl 3 rfl) ?_
    refine g_R X w ho 6 (by decide) (v := .int (F o 6)) rfl kw_99 dX3_placeOfLeastChange_12 ?_
    refine lv_icmp_ge (tgt := 64) X.1 X.2.1 dX3_placeOfLeastChange_15 (by decide) (fun c1 => ?_) (fun c1 => ?_)
    ·
      exact absurd ((geN hkd hq20).mp (by rw [← hqo]; exact c1)) (by omega)
    ·
      refine lv_aload_n X.1 X.2.1 dX3_placeOfLeastChange_18 rfl (lv_at hl 3 rfl) ?_
      refine lv_iload X.1 X.2.1 dX3_placeOfLeastChange_19 (lv_at hl 0 rfl) ?_
      refine w_callr cn w (w_runV (n := 1) (As := [.int (nI k)]) X cn w (lt17 (by have := ho; omega)) (wC_R (ho).1 (ho).2) rfl (fun sz => c_X3_jobAt l D ca ad E F L S n o ho (nI k) sz) (bg_V kw_586 kw_308 kw_8 kw_33 kw_309) rfl rfl (by decide +kernel) ⟨(Nat.le_of_ble_eq_true rfl), (Nat.le_of_ble_eq_true rfl)⟩ rfl hl.1 rfl (Nat.le_of_ble_eq_true rfl) dX3_placeOfLeastChange_21 ⟨(Nat.le_of_ble_eq_true rfl), (Nat.le_of_ble_eq_true rfl)⟩) (fun r2 u H locs hp w => ?_)
      obtain ⟨rfl, rfl⟩ := hp
      refine W.eq (g2 := F0 m 24 ls [va_rf ((L o k).map (fun j => ad (17 + j)))]) (by rw [jobAt_nI hqo hq20 (by omega)]) ?_
      obtain hj3n | ⟨j3, hj3s⟩ : (L o k) = none ∨ ∃ j, (L o k) = some j := opt_or _
      ·
        refine W.eq (g2 := F0 m 24 ls [.null]) (by simp only [hj3n]; rfl) ?_
        refine lv_astoreN (lv' := [(6, .null), (5, .int (nI k)), (4, .int lst), (3, .int (nI b)), (0, .ref (ad o)), (1, .int f0), (2, .int i)]) X.1 X.2.1 dX3_placeOfLeastChange_24 hl (by decide) rfl (fun ls hl => ?_)
        refine lv_aloadN X.1 X.2.1 dX3_placeOfLeastChange_26 (lv_at hl 0 rfl) ?_
        refine lv_ifnonnullN X.1 X.2.1 dX3_placeOfLeastChange_28 ?_
        refine lv_ldc (v := 2147483647) X.1 X.2.1 X.2.2.2.1 (X.2.2.2.2 _ kw_585) dX3_placeOfLeastChange_31 ?_
        refine lv_goto (tgt := 42) X.1 X.2.1 dX3_placeOfLeastChange_33 (by decide) ?_
        refine lv_istore (lv' := [(7, .int 2147483647), (6, .null), (5, .int (nI k)), (4, .int lst), (3, .int (nI b)), (0, .ref (ad o)), (1, .int f0), (2, .int i)]) X.1 X.2.1 dX3_placeOfLeastChange_42 hl (by decide) rfl (fun ls hl => ?_)
        refine lv_iload X.1 X.2.1 dX3_placeOfLeastChange_44 (lv_at hl 0 rfl) ?_
        refine lv_iload X.1 X.2.1 dX3_placeOfLeastChange_46 (lv_at hl 3 rfl) ?_
        refine lv_icmp_ge (tgt := 58) X.1 X.2.1 dX3_placeOfLeastChange_48 (by decide) (fun c4 => ?_) (fun c4 => ?_)
        ·
          refine lv_iinc (v := (nI (k + 1))) (lv' := [(5, .int (nI (k + 1))), (7, .int 2147483647), (6, .null), (4, .int lst), (3, .int (nI b)), (0, .ref (ad o)), (1, .int f0), (2, .int i)]) X.1 X.2.1 dX3_placeOfLeastChange_58 hl (k := 2) rfl (nI_1 k) (by decide) rfl (fun ls hl => ?_)
          refine lv_goto (tgt := 9) X.1 X.2.1 dX3_placeOfLeastChange_61 (by decide) ?_
          have hz : s_plc F (L o) i (d + 1) k b lst = s_plc F (L o) i d (k + 1) b lst := by  simp [s_plc, s_chOf, hj3n, c4]
          rw [hz]
          exact ih (k + 1) b lst (by omega) H locs w ls (lv_sub hl [0, 3, 4, 5, 6, 7] rfl)
        ·
          refine lv_iload X.1 X.2.1 dX3_placeOfLeastChange_51 (lv_at hl 2 rfl) ?_
          refine lv_istore_n (lv' := [(3, .int (nI k)), (7, .int 2147483647), (6, .null), (5, .int (nI k)), (4, .int lst), (0, .ref (ad o)), (1, .int f0), (2, .int i)]) X.1 X.2.1 dX3_placeOfLeastChange_53 rfl hl (by decide) rfl (fun ls hl => ?_)
          refine lv_iload X.1 X.2.1 dX3_placeOfLeastChange_54 (lv_at hl 1 rfl) ?_
          refine lv_istore (lv' := [(4, .int 2147483647), (3, .int (nI k)), (7, .int 2147483647), (6, .null), (5, .int (nI k)), (0, .ref (ad o)), (1, .int f0), (2, .int i)]) X.1 X.2.1 dX3_placeOfLeastChange_56 hl (by decide) rfl (fun ls hl => ?_)
          refine lv_iinc (v := (nI (k + 1))) (lv' := [(5, .int (nI (k + 1))), (4, .int 2147483647), (3, .int (nI k)), (7, .int 2147483647), (6, .null), (0, .ref (ad o)), (1, .int f0), (2, .int i)]) X.1 X.2.1 dX3_placeOfLeastChange_58 hl (k := 4) rfl (nI_1 k) (by decide) rfl (fun ls hl => ?_)
          refine lv_goto (tgt := 9) X.1 X.2.1 dX3_placeOfLeastChange_61 (by decide) ?_
          have hz : s_plc F (L o) i (d + 1) k b lst = s_plc F (L o) i d (k + 1) k 2147483647 := by  simp [s_plc, s_chOf, hj3n, c4]
          rw [hz]
          exact ih (k + 1) k 2147483647 (by omega) H locs w ls (lv_sub hl [0, 1, 2, 5, 6, 7] rfl)
      ·
        refine W.eq (g2 := F0 m 24 ls [.ref (ad (17 + j3))]) (by simp only [hj3s]; rfl) ?_
        refine lv_astore (lv' := [(6, .ref (ad (17 + j3))), (5, .int (nI k)), (4, .int lst), (3, .int (nI b)), (0, .ref (ad o)), (1, .int f0), (2, .int i)]) X.1 X.2.1 dX3_placeOfLeastChange_24 hl (by decide) rfl (fun ls hl => ?_)
        refine lv_aload X.1 X.2.1 dX3_placeOfLeastChange_26 (lv_at hl 0 rfl) ?_
        refine lv_ifnonnull (tgt := 36) X.1 X.2.1 dX3_placeOfLeastChange_28 (by decide) ?_
        refine lv_aload X.1 X.2.1 dX3_placeOfLeastChange_36 (lv_at hl 0 rfl) ?_
        refine lv_iload_n X.1 X.2.1 dX3_placeOfLeastChange_38 rfl (lv_at hl 6 rfl) ?_
        refine w_calli cn w (w_runSN (n := 2) (As := [.ref (ad (17 + j3)), .int i]) X cn w (fun sz => c_X4_changeOf l D ca ad E F L S n j3 (hqj _ _ hj3s) i sz) kw_587 kw_337 kw_31 kw_338 rfl rfl (by decide +kernel) ⟨(Nat.le_of_ble_eq_true rfl), (Nat.le_of_ble_eq_true rfl)⟩ rfl hl.1 rfl (Nat.le_of_ble_eq_true rfl) dX3_placeOfLeastChange_39 ⟨(Nat.le_of_ble_eq_true rfl), (Nat.le_of_ble_eq_true rfl)⟩) (fun r5 u H locs hp w => ?_)
        obtain ⟨rfl, rfl⟩ := hp
        refine lv_topi (fun x6 ex6 => ?_)
        refine lv_istore (lv' := [(7, .int x6), (6, .ref (ad (17 + j3))), (5, .int (nI k)), (4, .int lst), (3, .int (nI b)), (0, .ref (ad o)), (1, .int f0), (2, .int i)]) X.1 X.2.1 dX3_placeOfLeastChange_42 hl (by decide) rfl (fun ls hl => ?_)
        refine lv_iload X.1 X.2.1 dX3_placeOfLeastChange_44 (lv_at hl 0 rfl) ?_
        refine lv_iload X.1 X.2.1 dX3_placeOfLeastChange_46 (lv_at hl 3 rfl) ?_
        refine lv_icmp_ge (tgt := 58) X.1 X.2.1 dX3_placeOfLeastChange_48 (by decide) (fun c7 => ?_) (fun c7 => ?_)
        ·
          refine lv_iinc (v := (nI (k + 1))) (lv' := [(5, .int (nI (k + 1))), (7, .int x6), (6, .ref (ad (17 + j3))), (4, .int lst), (3, .int (nI b)), (0, .ref (ad o)), (1, .int f0), (2, .int i)]) X.1 X.2.1 dX3_placeOfLeastChange_58 hl (k := 2) rfl (nI_1 k) (by decide) rfl (fun ls hl => ?_)
          refine lv_goto (tgt := 9) X.1 X.2.1 dX3_placeOfLeastChange_61 (by decide) ?_
          have hz : s_plc F (L o) i (d + 1) k b lst = s_plc F (L o) i d (k + 1) b lst := by subst ex6; simp [s_plc, s_chOf, hj3s, c7]
          rw [hz]
          exact ih (k + 1) b lst (by omega) H locs w ls (lv_sub hl [0, 3, 4, 5, 6, 7] rfl)
        ·
          refine lv_iload X.1 X.2.1 dX3_placeOfLeastChange_51 (lv_at hl 2 rfl) ?_
          refine lv_istore_n (lv' := [(3, .int (nI k)), (7, .int x6), (6, .ref (ad (17 + j3))), (5, .int (nI k)), (4, .int lst), (0, .ref (ad o)), (1, .int f0), (2, .int i)]) X.1 X.2.1 dX3_placeOfLeastChange_53 rfl hl (by decide) rfl (fun ls hl => ?_)
          refine lv_iload X.1 X.2.1 dX3_placeOfLeastChange_54 (lv_at hl 1 rfl) ?_
          refine lv_istore (lv' := [(4, .int x6), (3, .int (nI k)), (7, .int x6), (6, .ref (ad (17 + j3))), (5, .int (nI k)), (0, .ref (ad o)), (1, .int f0), (2, .int i)]) X.1 X.2.1 dX3_placeOfLeastChange_56 hl (by decide) rfl (fun ls hl => ?_)
          refine lv_iinc (v := (nI (k + 1))) (lv' := [(5, .int (nI (k + 1))), (4, .int x6), (3, .int (nI k)), (7, .int x6), (6, .ref (ad (17 + j3))), (0, .ref (ad o)), (1, .int f0), (2, .int i)]) X.1 X.2.1 dX3_placeOfLeastChange_58 hl (k := 4) rfl (nI_1 k) (by decide) rfl (fun ls hl => ?_)
          refine lv_goto (tgt := 9) X.1 X.2.1 dX3_placeOfLeastChange_61 (by decide) ?_
          have hz : s_plc F (L o) i (d + 1) k b lst = s_plc F (L o) i d (k + 1) k x6 := by subst ex6; simp [s_plc, s_chOf, hj3s, c7]
          rw [hz]
          exact ih (k + 1) k x6 (by omega) H locs w ls (lv_sub hl [0, 1, 2, 5, 6, 7] rfl)

set_option maxHeartbeats 4000000 in
set_option maxRecDepth 100000 in
theorem c_X3_placeOfLeastChange (l : Launch) (D : va_G) (ca : Nat → ClassId) (ad : Nat → Nat) (E : Em) (F : Fm) (L : Lm) (S : Sm) (n : Nat) (o : Nat) (ho : 6 ≤ o ∧ o < 10) (z : Nat) (hqo : F o 6 = nI z) (hq20 : z ≤ 20) (hqj : ∀ x j, L o x = some j → j < n) (i : Int32) (k : Nat) (hk : k ≤ z) (sz : Nat) : Met l yX3_placeOfLeastChange (.code yX3_placeOfLeastChange cX3_placeOfLeastChange 8 (some .int) :: BG) { frames := 2, cells := 0, slots := 0, locals := 41 } (Pw D ca ad (E, F, L, S, n) sz [.ref (ad o), .int (nI k), .int i]) (Qi D ca ad n (fun r u => r = nI (s_plc F (L o) i (z - k) k k 2147483647) ∧ u = (E, F, L, S, n)) sz) 0 0 (wA ad n sz) := by
  refine open_W (σ := (E, F, L, S, n)) (Qc := Qi D ca ad n (fun r u => r = nI (s_plc F (L o) i (z - k) k k 2147483647) ∧ u = (E, F, L, S, n))) (by decide +kernel) (Nat.le_of_ble_eq_true rfl) ?_
  intro p e s m args below meth c X hr hlk w cn ls hl
  have hl : lv_has ls 8 [(0, .ref (ad o)), (1, .int (nI k)), (2, .int i)] := hl
  refine lv_iload_n X.1 X.2.1 dX3_placeOfLeastChange_0 rfl (lv_at hl 1 rfl) ?_
  refine lv_istore_n (lv' := [(3, .int (nI k)), (0, .ref (ad o)), (1, .int (nI k)), (2, .int i)]) X.1 X.2.1 dX3_placeOfLeastChange_1 rfl hl (by decide) rfl (fun ls hl => ?_)
  refine lv_ldc (v := 2147483647) X.1 X.2.1 X.2.2.2.1 (X.2.2.2.2 _ kw_585) dX3_placeOfLeastChange_2 ?_
  refine lv_istore (lv' := [(4, .int 2147483647), (3, .int (nI k)), (0, .ref (ad o)), (1, .int (nI k)), (2, .int i)]) X.1 X.2.1 dX3_placeOfLeastChange_4 hl (by decide) rfl (fun ls hl => ?_)
  refine lv_iload_n X.1 X.2.1 dX3_placeOfLeastChange_6 rfl (lv_at hl 3 rfl) ?_
  refine lv_istore (lv' := [(5, .int (nI k)), (4, .int 2147483647), (3, .int (nI k)), (0, .ref (ad o)), (1, .int (nI k)), (2, .int i)]) X.1 X.2.1 dX3_placeOfLeastChange_7 hl (by decide) rfl (fun ls hl => ?_)
  exact lp_X3_placeOfLeastChange X hr hlk cn o ho z hqo hq20 hqj i (nI k) (z - k) k k 2147483647 (by omega) _ _ w ls (lv_sub hl [0, 1, 2, 3, 4, 5] rfl)

theorem upLf_upLf {L : Lm} {o : Nat} {f g : Nat → Option Nat} : upLf (upLf L o f) o g = upLf L o g := by
  funext a
  by_cases h : a = o <;> simp [upLf, h]
theorem up2_up2 {F : Fm} {o k : Nat} {v x : Int32} : up2 (up2 F o k v) o k x = up2 F o k x := by
  funext a b
  by_cases h : a = o <;> by_cases h2 : b = k <;> simp [up2, h, h2]
theorem up2_self {F : Fm} {o k : Nat} : up2 F o k (F o k) = F := by
  funext a b
  by_cases h : a = o
  · subst h
    by_cases h2 : b = k
    · subst h2; simp [up2]
    · simp [up2, h2]
  · simp [up2, h]

set_option maxHeartbeats 4000000 in
set_option maxRecDepth 100000 in
theorem lp_X3_bringLeastChangeAhead {p : Program} {l : Launch} {e : Env} {s : State} {m : MethodId} {args : Array Value} {below : List Frame} {meth : Method} {c : Code} {D : va_G} {ca : Nat → ClassId} {ad : Nat → Nat} {E : Em} {F : Fm} {L : Lm} {S : Sm} {n : Nat} (X : CallFix p m c cX3_bringLeastChangeAhead 6 s args BG yX3_bringLeastChangeAhead.cls) (hr : meth.sig.returnType = none) (hlk : meth.locks = false) (cn : Cn (wA ad n s.heap.size) s) (o : Nat) (ho : 6 ≤ o ∧ o < 10) (z : Nat) (hqo : F o 6 = nI z) (hq20 : z ≤ 20) :
    ∀ (d : Nat) (k : Nat) (f : Nat → Option Nat) (i : Int32), k + d = z → (∀ x j, f x = some j → j < n) → ∀ (H : Heap) (locs : List Loc), Wd D ca ad (wA ad n s.heap.size) s H locs (E, F, (upLf L o f), S, n) → ∀ (ls : Array Slot), lv_has ls 6 [(3, .int (nI k)), (2, .int (nI z)), (1, .int i), (0, .ref (ad o))] →
      W p l e { frames := 3, cells := 0, slots := 0, locals := 68 } s m args below meth c H locs 0 0 (MQ below (Qv D ca ad n (fun u => u = (E, F, upLf L o (s_brg F z d k f i), S, n)) s.heap.size) args s 0 0 (wA ad n s.heap.size)) (F0 m 12 ls []) := by
  intro d
  induction d with
  | zero =>
    intro k f i hkd hf H locs w ls hl
    refine lv_iload_n X.1 X.2.1 dX3_bringLeastChangeAhead_12 rfl (lv_at hl 0 rfl) ?_
    refine lv_iload_n X.1 X.2.1 dX3_bringLeastChangeAhead_13 rfl (lv_at hl 1 rfl) ?_
    refine lv_icmp_ge (tgt := 63) X.1 X.2.1 dX3_bringLeastChangeAhead_14 (by decide) (fun c1 => ?_) (fun c1 => ?_)
    ·
      exact w_vret X hr hlk w (by  exact rfl) dX3_bringLeastChangeAhead_63 (Nat.le_of_ble_eq_true rfl) (Nat.le_of_ble_eq_true rfl)
    ·
      exact absurd ((geN hkd hq20).mpr rfl) c1
  | succ d ih =>
    intro k f i hkd hf H locs w ls hl
    have hM : ∀ x j, (upLf L o f) o x = some j → j < n := fun x j h => by rw [upLf_s] at h; exact hf x j h
    refine lv_iload_n X.1 X.2.1 dX3_bringLeastChangeAhead_12 rfl (lv_at hl 0 rfl) ?_
    refine lv_iload_n X.1 X.2.1 dX3_bringLeastChangeAhead_13 rfl (lv_at hl 1 rfl) ?_
    refine lv_icmp_ge (tgt := 63) X.1 X.2.1 dX3_bringLeastChangeAhead_14 (by decide) (fun c1 => ?_) (fun c1 => ?_)
    ·
      exact absurd ((geN hkd hq20).mp c1) (by omega)
    ·
      refine lv_aload_n X.1 X.2.1 dX3_bringLeastChangeAhead_17 rfl (lv_at hl 3 rfl) ?_
      refine lv_iload_n X.1 X.2.1 dX3_bringLeastChangeAhead_18 rfl (lv_at hl 0 rfl) ?_
      refine lv_iload_n X.1 X.2.1 dX3_bringLeastChangeAhead_19 rfl (lv_at hl 2 rfl) ?_
      refine w_calli cn w (w_runV (n := 2) (As := [.int (nI k), .int i]) X cn w (lt17 (by have := ho; omega)) (wC_R (ho).1 (ho).2) rfl (fun sz => c_X3_placeOfLeastChange l D ca ad E F (upLf L o f) S n o ho z hqo hq20 hM i k (by omega) sz) (bg_V kw_581 kw_583 kw_26 kw_33 kw_584) rfl rfl (by decide +kernel) ⟨(Nat.le_of_ble_eq_true rfl), (Nat.le_of_ble_eq_true rfl)⟩ rfl hl.1 rfl (Nat.le_of_ble_eq_true rfl) dX3_bringLeastChangeAhead_20 ⟨(Nat.le_of_ble_eq_true rfl), (Nat.le_of_ble_eq_true rfl)⟩) (fun r2 u H locs hp w => ?_)
      obtain ⟨rfl, rfl⟩ := hp
      rw [upLf_s]
      obtain ⟨pl, epl⟩ : ∃ y : Nat, y = s_plc F f i (z - k) k k 2147483647 := ⟨_, rfl⟩
      rw [← epl]
      have hpl : k ≤ pl ∧ pl < z := by rw [epl]; exact s_plc_in F f i k z (z - k) k k _ (by omega) (by omega) (by omega)
      refine lv_istore (lv' := [(4, .int (nI pl)), (3, .int (nI k)), (2, .int (nI z)), (1, .int i), (0, .ref (ad o))]) X.1 X.2.1 dX3_bringLeastChangeAhead_23 hl (by decide) rfl (fun ls hl => ?_)
      refine lv_aload_n X.1 X.2.1 dX3_bringLeastChangeAhead_25 rfl (lv_at hl 4 rfl) ?_
      refine lv_iload X.1 X.2.1 dX3_bringLeastChangeAhead_26 (lv_at hl 0 rfl) ?_
      refine w_callr cn w (w_runV (n := 1) (As := [.int (nI pl)]) X cn w (lt17 (by have := ho; omega)) (wC_R (ho).1 (ho).2) rfl (fun sz => c_X3_jobAt l D ca ad E F (upLf L o f) S n o ho (nI pl) sz) (bg_V kw_586 kw_308 kw_8 kw_33 kw_309) rfl rfl (by decide +kernel) ⟨(Nat.le_of_ble_eq_true rfl), (Nat.le_of_ble_eq_true rfl)⟩ rfl hl.1 rfl (Nat.le_of_ble_eq_true rfl) dX3_bringLeastChangeAhead_28 ⟨(Nat.le_of_ble_eq_true rfl), (Nat.le_of_ble_eq_true rfl)⟩) (fun r3 u H locs hp w => ?_)
      obtain ⟨rfl, rfl⟩ := hp
      refine W.eq (g2 := F0 m 31 ls [va_rf ((f pl).map (fun j => ad (17 + j)))]) (by rw [jobAt_nI hqo hq20 hpl.2, upLf_s]) ?_
      obtain hj4n | ⟨j4, hj4s⟩ : (f pl) = none ∨ ∃ j, (f pl) = some j := opt_or _
      ·
        refine W.eq (g2 := F0 m 31 ls [.null]) (by simp only [hj4n]; rfl) ?_
        refine lv_astoreN (lv' := [(5, .null), (4, .int (nI pl)), (3, .int (nI k)), (2, .int (nI z)), (1, .int i), (0, .ref (ad o))]) X.1 X.2.1 dX3_bringLeastChangeAhead_31 hl (by decide) rfl (fun ls hl => ?_)
        refine lv_aloadN X.1 X.2.1 dX3_bringLeastChangeAhead_33 (lv_at hl 0 rfl) ?_
        refine lv_ifnullN (tgt := 57) X.1 X.2.1 dX3_bringLeastChangeAhead_35 (by decide) ?_
        refine lv_iinc (v := (nI (k + 1))) (lv' := [(3, .int (nI (k + 1))), (5, .null), (4, .int (nI pl)), (2, .int (nI z)), (1, .int i), (0, .ref (ad o))]) X.1 X.2.1 dX3_bringLeastChangeAhead_57 hl (k := 2) rfl (nI_1 k) (by decide) rfl (fun ls hl => ?_)
        refine lv_goto (tgt := 12) X.1 X.2.1 dX3_bringLeastChangeAhead_60 (by decide) ?_
        have hz : s_brg F z (d + 1) k f i = s_brg F z d (k + 1) f i := by  rw [s_brg, ← epl]; simp [hj4n]
        rw [hz]
        exact ih (k + 1) f i (by omega) hf H locs w ls (lv_sub hl [0, 3, 4, 5] rfl)
      ·
        refine W.eq (g2 := F0 m 31 ls [.ref (ad (17 + j4))]) (by simp only [hj4s]; rfl) ?_
        refine lv_astore (lv' := [(5, .ref (ad (17 + j4))), (4, .int (nI pl)), (3, .int (nI k)), (2, .int (nI z)), (1, .int i), (0, .ref (ad o))]) X.1 X.2.1 dX3_bringLeastChangeAhead_31 hl (by decide) rfl (fun ls hl => ?_)
        refine lv_aload X.1 X.2.1 dX3_bringLeastChangeAhead_33 (lv_at hl 0 rfl) ?_
        refine lv_ifnull X.1 X.2.1 dX3_bringLeastChangeAhead_35 ?_
        refine lv_aload_n X.1 X.2.1 dX3_bringLeastChangeAhead_38 rfl (lv_at hl 5 rfl) ?_
        refine lv_iload X.1 X.2.1 dX3_bringLeastChangeAhead_39 (lv_at hl 1 rfl) ?_
        refine w_callv cn w (w_runV (n := 1) (As := [.int (nI pl)]) X cn w (lt17 (by have := ho; omega)) (wC_R (ho).1 (ho).2) rfl (fun sz => c_X3_remove l D ca ad E F (upLf L o f) S n o ho z pl hqo hq20 hpl.2 hM sz) (bg_V kw_588 kw_590 kw_27 kw_33 kw_591) rfl rfl (by decide +kernel) ⟨(Nat.le_of_ble_eq_true rfl), (Nat.le_of_ble_eq_true rfl)⟩ rfl hl.1 rfl (Nat.le_of_ble_eq_true rfl) dX3_bringLeastChangeAhead_41 ⟨(Nat.le_of_ble_eq_true rfl), (Nat.le_of_ble_eq_true rfl)⟩) (fun u H locs hp w => ?_)
        subst hp
        rw [upLf_s, upLf_upLf] at w
        refine lv_aload_n X.1 X.2.1 dX3_bringLeastChangeAhead_44 rfl (lv_at hl 5 rfl) ?_
        refine lv_aload X.1 X.2.1 dX3_bringLeastChangeAhead_45 (lv_at hl 0 rfl) ?_
        refine lv_iload_n X.1 X.2.1 dX3_bringLeastChangeAhead_47 rfl (lv_at hl 2 rfl) ?_
        refine w_callv cn w (w_runV (n := 2) (As := [.ref (ad (17 + j4)), .int (nI k)]) X cn w (lt17 (by have := ho; omega)) (wC_R (ho).1 (ho).2) rfl (fun sz => c_X3_insert l D ca ad E (up2 F o 6 (nI (z - 1))) (upLf L o (remF f pl z)) S n o ho j4 (hf _ _ hj4s) (z - 1) k up2_s (by omega) (by omega) (fun x j h => by rw [upLf_s] at h; exact remF_lt hf x j h) sz) (bg_V kw_592 kw_534 kw_22 kw_33 kw_535) rfl rfl (by decide +kernel) ⟨(Nat.le_of_ble_eq_true rfl), (Nat.le_of_ble_eq_true rfl)⟩ rfl hl.1 rfl (Nat.le_of_ble_eq_true rfl) dX3_bringLeastChangeAhead_48 ⟨(Nat.le_of_ble_eq_true rfl), (Nat.le_of_ble_eq_true rfl)⟩) (fun u H locs hp w => ?_)
        subst hp
        rw [upLf_s, upLf_upLf, up2_up2, show z - 1 + 1 = z by omega, ← hqo, up2_self] at w
        refine lv_aload X.1 X.2.1 dX3_bringLeastChangeAhead_51 (lv_at hl 0 rfl) ?_
        refine gn_J X cn w (hf _ _ hj4s) 4 (by decide) (v := .int (F (17 + j4) 4)) rfl kw_472 dX3_bringLeastChangeAhead_53 ?_
        refine lv_topi (fun x5 ex5 => ?_)
        refine lv_istore_n (lv' := [(1, .int x5), (5, .ref (ad (17 + j4))), (4, .int (nI pl)), (3, .int (nI k)), (2, .int (nI z)), (0, .ref (ad o))]) X.1 X.2.1 dX3_bringLeastChangeAhead_56 rfl hl (by decide) rfl (fun ls hl => ?_)
        refine lv_iinc (v := (nI (k + 1))) (lv' := [(3, .int (nI (k + 1))), (1, .int x5), (5, .ref (ad (17 + j4))), (4, .int (nI pl)), (2, .int (nI z)), (0, .ref (ad o))]) X.1 X.2.1 dX3_bringLeastChangeAhead_57 hl (k := 3) rfl (nI_1 k) (by decide) rfl (fun ls hl => ?_)
        refine lv_goto (tgt := 12) X.1 X.2.1 dX3_bringLeastChangeAhead_60 (by decide) ?_
        have hz : s_brg F z (d + 1) k f i = s_brg F z d (k + 1) (insF (remF f pl z) k j4 (z - 1)) x5 := by subst ex5; rw [s_brg, ← epl]; simp [hj4s]
        rw [hz]
        exact ih (k + 1) (insF (remF f pl z) k j4 (z - 1)) x5 (by omega) (insF_lt (hf _ _ hj4s) (remF_lt hf)) H locs w ls (lv_sub hl [0, 4, 1, 5] rfl)

set_option maxHeartbeats 4000000 in
set_option maxRecDepth 100000 in
theorem c_X3_bringLeastChangeAhead (l : Launch) (D : va_G) (ca : Nat → ClassId) (ad : Nat → Nat) (E : Em) (F : Fm) (L : Lm) (S : Sm) (n : Nat) (o : Nat) (ho : 6 ≤ o ∧ o < 10) (z : Nat) (hqo : F o 6 = nI z) (hq20 : z ≤ 20) (hqj : ∀ x j, L o x = some j → j < n) (sz : Nat) : Met l yX3_bringLeastChangeAhead (.code yX3_bringLeastChangeAhead cX3_bringLeastChangeAhead 6 none :: BG) { frames := 3, cells := 0, slots := 0, locals := 68 } (Pw D ca ad (E, F, L, S, n) sz [.ref (ad o)]) (Qv D ca ad n (fun u => u = (E, F, upLf L o (s_brg F z z 0 (L o) (F o 1)), S, n)) sz) 0 0 (wA ad n sz) := by
  refine open_W (σ := (E, F, L, S, n)) (Qc := Qv D ca ad n (fun u => u = (E, F, upLf L o (s_brg F z z 0 (L o) (F o 1)), S, n))) (by decide +kernel) (Nat.le_of_ble_eq_true rfl) ?_
  intro p e s m args below meth c X hr hlk w cn ls hl
  have hl : lv_has ls 6 [(0, .ref (ad o))] := hl
  refine lv_aload_n X.1 X.2.1 dX3_bringLeastChangeAhead_0 rfl (lv_at hl 0 rfl) ?_
  refine g_R X w ho 1 (by decide) (v := .int (F o 1)) rfl kw_90 dX3_bringLeastChangeAhead_1 ?_
  refine lv_topi (fun x1 ex1 => ?_)
  refine lv_istore_n (lv' := [(1, .int x1), (0, .ref (ad o))]) X.1 X.2.1 dX3_bringLeastChangeAhead_4 rfl hl (by decide) rfl (fun ls hl => ?_)
  refine lv_aload_n X.1 X.2.1 dX3_bringLeastChangeAhead_5 rfl (lv_at hl 1 rfl) ?_
  refine g_R X w ho 6 (by decide) (v := .int (F o 6)) rfl kw_99 dX3_bringLeastChangeAhead_6 ?_
  refine lv_topi (fun x2 ex2 => ?_)
  refine lv_istore_n (lv' := [(2, .int x2), (1, .int x1), (0, .ref (ad o))]) X.1 X.2.1 dX3_bringLeastChangeAhead_9 rfl hl (by decide) rfl (fun ls hl => ?_)
  refine lv_iconst (v := 0) X.1 X.2.1 dX3_bringLeastChangeAhead_10 (by decide) ?_
  refine lv_istore_n (lv' := [(3, .int 0), (2, .int x2), (1, .int x1), (0, .ref (ad o))]) X.1 X.2.1 dX3_bringLeastChangeAhead_11 rfl hl (by decide) rfl (fun ls hl => ?_)
  subst ex2; subst ex1;
  rw [hqo] at hl
  exact lp_X3_bringLeastChangeAhead X hr hlk cn o ho z hqo hq20 z 0 (L o) (F o 1) (by omega) hqj _ _ (by rw [upLf_self]; exact w) ls (lv_sub hl [0, 1, 2, 3] rfl)

def s_lay (F : Fm) (S : Sm) (j : Nat) (a b : Int32) : Fm :=
  let st := s_holds F (2 + S j) a b
  let ac := s_holds F (2 + S j) b a
  let tu : Int32 := if ac ≤ st then 0 else 1
  let li := if ac ≤ st then st else ac
  up2 (up2 (up2 F (17 + j) 6 tu) (17 + j) 5 li) (17 + j) 7 (F (2 + S j) 0 * F (2 + S j) 1 - li * a * b)
end
section
/-! ===== methods that may throw: which exception, by a number (0: none) ===== -/
abbrev eRT : List String := ["java/lang/RuntimeException", "java/lang/Exception"]
theorem atg_1 : ∀ w ∈ (vx_atS RX4 286 eIO eRT).filter goodWord, w ∈ BG := by decide +kernel
theorem atn_1 : ∀ w ∈ (vx_atS RX4 286 eIO eRT).filter (fun w => !goodWord w), w ∈ EW := by decide +kernel
theorem atg_2 : ∀ w ∈ (vx_atS RX4 59 eIA eRT).filter goodWord, w ∈ BG := by decide +kernel
theorem atn_2 : ∀ w ∈ (vx_atS RX4 59 eIA eRT).filter (fun w => !goodWord w), w ∈ EW := by decide +kernel
theorem atg_3 : ∀ w ∈ (vx_atS RX4 155 eIS eRT).filter goodWord, w ∈ BG := by decide +kernel
theorem atn_3 : ∀ w ∈ (vx_atS RX4 155 eIS eRT).filter (fun w => !goodWord w), w ∈ EW := by decide +kernel
theorem fit_n : ∀ n ∈ eRT, Bundle.fit n = true := by decide +kernel
theorem ot_1 : ∀ w ∈ Cond.classLink RX4 282 eIO :: Cond.initialized eIO :: vx_atS RX4 286 eIO eRT, vx_ot w = true := by decide +kernel
theorem ot_2 : ∀ w ∈ Cond.classLink RX4 55 eIA :: Cond.initialized eIA :: vx_atS RX4 59 eIA eRT, vx_ot w = true := by decide +kernel
theorem ot_3 : ∀ w ∈ Cond.classLink RX4 151 eIS :: Cond.initialized eIS :: vx_atS RX4 155 eIS eRT, vx_ot w = true := by decide +kernel
/-- out of the range 0 .. N - 1: 1 -/
def erI (N : Nat) (i : Int32) : Nat := if i < 0 ∨ N ≤ i.toNatClampNeg then 1 else 0
theorem erI_neg {N : Nat} {i : Int32} (h : i < 0) : erI N i = 1 := if_pos (Or.inl h)
theorem erI_big {N : Nat} {i : Int32} (h : N ≤ i.toNatClampNeg) : erI N i = 1 := if_pos (Or.inr h)
theorem cl_ge {i M : Int32} {N : Nat} (hM : M.toInt = N) (h0 : ¬ i < 0) (h : M ≤ i) : N ≤ i.toNatClampNeg := by
  rw [Int32.le_iff_toInt_le] at h
  rw [Int32.lt_iff_toInt_lt] at h0
  have e : (0 : Int32).toInt = 0 := rfl
  have e2 : i.toNatClampNeg = i.toInt.toNat := rfl
  omega
theorem erI_ge {N : Nat} {i M : Int32} (hM : M.toInt = N) (h0 : ¬ i < 0) (h : ¬ i < M) : erI N i = 1 :=
  erI_big (cl_ge hM h0 (by rw [Int32.le_iff_toInt_le]; rw [Int32.lt_iff_toInt_lt] at h; omega))
theorem erI_in {N : Nat} {i : Int32} (h : vp_in i N) : erI N i = 0 := if_neg h
theorem in_erI {N : Nat} {i : Int32} (h : erI N i = 0) : vp_in i N := by
  unfold erI at h
  by_cases hc : i < 0 ∨ N ≤ i.toNatClampNeg
  · rw [if_pos hc] at h; cases h
  · exact hc
theorem erI_01 (N : Nat) (i : Int32) : erI N i = 0 ∨ erI N i = 1 := by
  unfold erI
  by_cases hc : i < 0 ∨ N ≤ i.toNatClampNeg
  · exact Or.inr (if_pos hc)
  · exact Or.inl (if_neg hc)
theorem erI_1 {N : Nat} {i : Int32} (h : ¬ erI N i = 0) : erI N i = 1 := (erI_01 N i).resolve_left h
section ExcRows
variable {p : Program} {l : Launch} {e : Env} {R : Room} {s : State} {m : MethodId} {args : Array Value} {below : List Frame} {meth : Method} {c : Code} {H : Heap} {locs : List Loc} {cells slots : Nat} {Q : State → Prop}
variable {cc bytes : ByteArray} {pc nL maxL index : Nat} {ls : Array Slot} {rest st0 As : List Value} {own : String} {D : va_G} {ca : Nat → ClassId} {ad : Nat → Nat} {A : Nat → Prop} {σ τ : St} {mc ms n er : Nat} {px : St → Prop} {y : MethodName} {ret : Option FieldType} {rm : Room} {Qc : Nat → Array Value → State → Outcome → State → Prop} {XC : Nat → String → State → State → Prop}
theorem x_post (cn : Cn (wA ad n s.heap.size) s) (w : Wd D ca ad (wA ad n s.heap.size) s H locs τ) (h0 : er ≠ 0) (hp : px τ) (E : String) (hE : E = exN er) (t : State) (hvm : s.vm.Alike t.vm) (hz : H.size ≤ t.heap.size) (hk : ∀ q : Nat, q < H.size → t.heap[q]? = H[q]?) : Xq D ca ad n er px s.heap.size E s t :=
  ⟨τ, ⟨h0, hp⟩, ⟨hE, w.1.kept (fun k q hk' => hk _ (w.1 k q hk').lt), va_K.moved hvm w.2.2.1, w.2.1⟩, Nat.le_trans w.2.2.2.1 hz, fun q h1 h2 => by rw [hk q (Nat.lt_of_lt_of_le h1 w.2.2.2.1)]; exact w.2.2.2.2.1 q h1 h2⟩
theorem x_throw1W {Qc : Array Value → State → Outcome → State → Prop} {k : Nat} {tx : String} (hlt : l.stackTraces = false) (X : CallFix p m c cc nL s args BG own) (hw : own = RX4) (hlk : meth.locks = false) (hnt : ∀ x ∈ c.exceptionTable.toList, False) (cn : Cn (wA ad n s.heap.size) s) (w : Wd D ca ad (wA ad n s.heap.size) s H locs τ) (hls : ls.size = nL) (hs : (k, tx) ∈ evS)
    (he : er = 1) (hp : px τ) (hm : er ≠ 0 → 1 ≤ mc ∧ 6 ≤ ms) (d0 : decode cc pc = .ok (.new 282, 3)) (d3 : decode cc (pc + 3) = .ok (.dup, 1)) (d4 : decode cc (pc + 4) = .ok (.ldc_w k, 3)) (d7 : decode cc (pc + 7) = .ok (.invokespecial 286, 3)) (d10 : decode cc (pc + 10) = .ok (.athrow, 1))
    (hf : 5 < R.frames) (hlo : (rest.map fun v => v.category).sum + 82 ≤ R.locals) (hc0 : cells = 0) (hs0 : slots = 0) (hRc : R.cells = mc) (hRs : R.slots = ms) :
    W p l e R s m args below meth c H locs cells slots (vx_MQ below Qc (Xq D ca ad n er px s.heap.size) args s mc ms (wA ad n s.heap.size)) (F0 m pc ls rest) := by
  subst hw
  obtain ⟨sa, hsa⟩ := cn.2.1.2.1 _ hs
  have hm' := hm (by omega)
  exact vx_throwSW X.1 X.2.1 hlt X.2.2.2.1 (by decide +kernel) fit_n (X.2.2.2.2 _ kw_282) (X.2.2.2.2 _ kw_40) hsa (vx_hat (fun w hw => X.2.2.2.2 _ (atg_1 w hw)) atn_1 (fun w hw => cn.2.1.use hw)) ot_1 cn.2.2.1 cn.2.2.2 w.2.2.2 (hls.trans X.2.2.1.symm) d0 d3 d4 d7 d10 (fun x hx => (hnt x hx).elim) hf hlo (by omega) (by omega) hlk
    (fun t hvm hz hk => x_post cn w (by omega) hp eIO (by rw [he]; rfl) t hvm hz hk) w.2.2.2.2.2 (by omega) (by omega)
theorem x_throw2W {Qc : Array Value → State → Outcome → State → Prop} {k : Nat} {tx : String} (hlt : l.stackTraces = false) (X : CallFix p m c cc nL s args BG own) (hw : own = RX4) (hlk : meth.locks = false) (hnt : ∀ x ∈ c.exceptionTable.toList, False) (cn : Cn (wA ad n s.heap.size) s) (w : Wd D ca ad (wA ad n s.heap.size) s H locs τ) (hls : ls.size = nL) (hs : (k, tx) ∈ evS)
    (he : er = 2) (hp : px τ) (hm : er ≠ 0 → 1 ≤ mc ∧ 6 ≤ ms) (d0 : decode cc pc = .ok (.new 55, 3)) (d3 : decode cc (pc + 3) = .ok (.dup, 1)) (d4 : decode cc (pc + 4) = .ok (.ldc_w k, 3)) (d7 : decode cc (pc + 7) = .ok (.invokespecial 59, 3)) (d10 : decode cc (pc + 10) = .ok (.athrow, 1))
    (hf : 5 < R.frames) (hlo : (rest.map fun v => v.category).sum + 82 ≤ R.locals) (hc0 : cells = 0) (hs0 : slots = 0) (hRc : R.cells = mc) (hRs : R.slots = ms) :
    W p l e R s m args below meth c H locs cells slots (vx_MQ below Qc (Xq D ca ad n er px s.heap.size) args s mc ms (wA ad n s.heap.size)) (F0 m pc ls rest) := by
  subst hw
  obtain ⟨sa, hsa⟩ := cn.2.1.2.1 _ hs
  have hm' := hm (by omega)
  exact vx_throwSW X.1 X.2.1 hlt X.2.2.2.1 (by decide +kernel) fit_n (X.2.2.2.2 _ kw_199) (X.2.2.2.2 _ kw_38) hsa (vx_hat (fun w hw => X.2.2.2.2 _ (atg_2 w hw)) atn_2 (fun w hw => cn.2.1.use hw)) ot_2 cn.2.2.1 cn.2.2.2 w.2.2.2 (hls.trans X.2.2.1.symm) d0 d3 d4 d7 d10 (fun x hx => (hnt x hx).elim) hf hlo (by omega) (by omega) hlk
    (fun t hvm hz hk => x_post cn w (by omega) hp eIA (by rw [he]; rfl) t hvm hz hk) w.2.2.2.2.2 (by omega) (by omega)
theorem x_throw3W {Qc : Array Value → State → Outcome → State → Prop} {k : Nat} {tx : String} (hlt : l.stackTraces = false) (X : CallFix p m c cc nL s args BG own) (hw : own = RX4) (hlk : meth.locks = false) (hnt : ∀ x ∈ c.exceptionTable.toList, False) (cn : Cn (wA ad n s.heap.size) s) (w : Wd D ca ad (wA ad n s.heap.size) s H locs τ) (hls : ls.size = nL) (hs : (k, tx) ∈ evS)
    (he : er = 3) (hp : px τ) (hm : er ≠ 0 → 1 ≤ mc ∧ 6 ≤ ms) (d0 : decode cc pc = .ok (.new 151, 3)) (d3 : decode cc (pc + 3) = .ok (.dup, 1)) (d4 : decode cc (pc + 4) = .ok (.ldc_w k, 3)) (d7 : decode cc (pc + 7) = .ok (.invokespecial 155, 3)) (d10 : decode cc (pc + 10) = .ok (.athrow, 1))
    (hf : 5 < R.frames) (hlo : (rest.map fun v => v.category).sum + 82 ≤ R.locals) (hc0 : cells = 0) (hs0 : slots = 0) (hRc : R.cells = mc) (hRs : R.slots = ms) :
    W p l e R s m args below meth c H locs cells slots (vx_MQ below Qc (Xq D ca ad n er px s.heap.size) args s mc ms (wA ad n s.heap.size)) (F0 m pc ls rest) := by
  subst hw
  obtain ⟨sa, hsa⟩ := cn.2.1.2.1 _ hs
  have hm' := hm (by omega)
  exact vx_throwSW X.1 X.2.1 hlt X.2.2.2.1 (by decide +kernel) fit_n (X.2.2.2.2 _ kw_443) (X.2.2.2.2 _ kw_41) hsa (vx_hat (fun w hw => X.2.2.2.2 _ (atg_3 w hw)) atn_3 (fun w hw => cn.2.1.use hw)) ot_3 cn.2.2.1 cn.2.2.2 w.2.2.2 (hls.trans X.2.2.1.symm) d0 d3 d4 d7 d10 (fun x hx => (hnt x hx).elim) hf hlo (by omega) (by omega) hlk
    (fun t hvm hz hk => x_post cn w (by omega) hp eIS (by rw [he]; rfl) t hvm hz hk) w.2.2.2.2.2 (by omega) (by omega)
theorem x_throw1 {Qc : Array Value → State → Outcome → State → Prop} {k : Nat} {tx : String} (hlt : l.stackTraces = false) (X : CallFix p m c cc nL s args BG own) (hw : own = RX4) (hlk : meth.locks = false) (hnt : ∀ x ∈ c.exceptionTable.toList, False) (cn : Cn (wA ad n s.heap.size) s) (w : Wd D ca ad (wA ad n s.heap.size) s H locs τ) (hls : ls.size = nL) (hs : (k, tx) ∈ evS)
    (he : er = 1) (hp : px τ) (hm : er ≠ 0 → 1 ≤ mc ∧ 6 ≤ ms) (d0 : decode cc pc = .ok (.new 282, 3)) (d3 : decode cc (pc + 3) = .ok (.dup, 1)) (d4 : decode cc (pc + 4) = .ok (.ldc k, 2)) (d7 : decode cc (pc + 6) = .ok (.invokespecial 286, 3)) (d10 : decode cc (pc + 9) = .ok (.athrow, 1))
    (hf : 5 < R.frames) (hlo : (rest.map fun v => v.category).sum + 82 ≤ R.locals) (hc0 : cells = 0) (hs0 : slots = 0) (hRc : R.cells = mc) (hRs : R.slots = ms) :
    W p l e R s m args below meth c H locs cells slots (vx_MQ below Qc (Xq D ca ad n er px s.heap.size) args s mc ms (wA ad n s.heap.size)) (F0 m pc ls rest) := by
  subst hw
  obtain ⟨sa, hsa⟩ := cn.2.1.2.1 _ hs
  have hm' := hm (by omega)
  exact vx_throwS X.1 X.2.1 hlt X.2.2.2.1 (by decide +kernel) fit_n (X.2.2.2.2 _ kw_282) (X.2.2.2.2 _ kw_40) hsa (vx_hat (fun w hw => X.2.2.2.2 _ (atg_1 w hw)) atn_1 (fun w hw => cn.2.1.use hw)) ot_1 cn.2.2.1 cn.2.2.2 w.2.2.2 (hls.trans X.2.2.1.symm) d0 d3 d4 d7 d10 (fun x hx => (hnt x hx).elim) hf hlo (by omega) (by omega) hlk
    (fun t hvm hz hk => x_post cn w (by omega) hp eIO (by rw [he]; rfl) t hvm hz hk) w.2.2.2.2.2 (by omega) (by omega)
theorem x_throw2 {Qc : Array Value → State → Outcome → State → Prop} {k : Nat} {tx : String} (hlt : l.stackTraces = false) (X : CallFix p m c cc nL s args BG own) (hw : own = RX4) (hlk : meth.locks = false) (hnt : ∀ x ∈ c.exceptionTable.toList, False) (cn : Cn (wA ad n s.heap.size) s) (w : Wd D ca ad (wA ad n s.heap.size) s H locs τ) (hls : ls.size = nL) (hs : (k, tx) ∈ evS)
    (he : er = 2) (hp : px τ) (hm : er ≠ 0 → 1 ≤ mc ∧ 6 ≤ ms) (d0 : decode cc pc = .ok (.new 55, 3)) (d3 : decode cc (pc + 3) = .ok (.dup, 1)) (d4 : decode cc (pc + 4) = .ok (.ldc k, 2)) (d7 : decode cc (pc + 6) = .ok (.invokespecial 59, 3)) (d10 : decode cc (pc + 9) = .ok (.athrow, 1))
    (hf : 5 < R.frames) (hlo : (rest.map fun v => v.category).sum + 82 ≤ R.locals) (hc0 : cells = 0) (hs0 : slots = 0) (hRc : R.cells = mc) (hRs : R.slots = ms) :
    W p l e R s m args below meth c H locs cells slots (vx_MQ below Qc (Xq D ca ad n er px s.heap.size) args s mc ms (wA ad n s.heap.size)) (F0 m pc ls rest) := by
  subst hw
  obtain ⟨sa, hsa⟩ := cn.2.1.2.1 _ hs
  have hm' := hm (by omega)
  exact vx_throwS X.1 X.2.1 hlt X.2.2.2.1 (by decide +kernel) fit_n (X.2.2.2.2 _ kw_199) (X.2.2.2.2 _ kw_38) hsa (vx_hat (fun w hw => X.2.2.2.2 _ (atg_2 w hw)) atn_2 (fun w hw => cn.2.1.use hw)) ot_2 cn.2.2.1 cn.2.2.2 w.2.2.2 (hls.trans X.2.2.1.symm) d0 d3 d4 d7 d10 (fun x hx => (hnt x hx).elim) hf hlo (by omega) (by omega) hlk
    (fun t hvm hz hk => x_post cn w (by omega) hp eIA (by rw [he]; rfl) t hvm hz hk) w.2.2.2.2.2 (by omega) (by omega)
theorem x_throw3 {Qc : Array Value → State → Outcome → State → Prop} {k : Nat} {tx : String} (hlt : l.stackTraces = false) (X : CallFix p m c cc nL s args BG own) (hw : own = RX4) (hlk : meth.locks = false) (hnt : ∀ x ∈ c.exceptionTable.toList, False) (cn : Cn (wA ad n s.heap.size) s) (w : Wd D ca ad (wA ad n s.heap.size) s H locs τ) (hls : ls.size = nL) (hs : (k, tx) ∈ evS)
    (he : er = 3) (hp : px τ) (hm : er ≠ 0 → 1 ≤ mc ∧ 6 ≤ ms) (d0 : decode cc pc = .ok (.new 151, 3)) (d3 : decode cc (pc + 3) = .ok (.dup, 1)) (d4 : decode cc (pc + 4) = .ok (.ldc k, 2)) (d7 : decode cc (pc + 6) = .ok (.invokespecial 155, 3)) (d10 : decode cc (pc + 9) = .ok (.athrow, 1))
    (hf : 5 < R.frames) (hlo : (rest.map fun v => v.category).sum + 82 ≤ R.locals) (hc0 : cells = 0) (hs0 : slots = 0) (hRc : R.cells = mc) (hRs : R.slots = ms) :
    W p l e R s m args below meth c H locs cells slots (vx_MQ below Qc (Xq D ca ad n er px s.heap.size) args s mc ms (wA ad n s.heap.size)) (F0 m pc ls rest) := by
  subst hw
  obtain ⟨sa, hsa⟩ := cn.2.1.2.1 _ hs
  have hm' := hm (by omega)
  exact vx_throwS X.1 X.2.1 hlt X.2.2.2.1 (by decide +kernel) fit_n (X.2.2.2.2 _ kw_443) (X.2.2.2.2 _ kw_41) hsa (vx_hat (fun w hw => X.2.2.2.2 _ (atg_3 w hw)) atn_3 (fun w hw => cn.2.1.use hw)) ot_3 cn.2.2.1 cn.2.2.2 w.2.2.2 (hls.trans X.2.2.1.symm) d0 d3 d4 d7 d10 (fun x hx => (hnt x hx).elim) hf hlo (by omega) (by omega) hlk
    (fun t hvm hz hk => x_post cn w (by omega) hp eIS (by rw [he]; rfl) t hvm hz hk) w.2.2.2.2.2 (by omega) (by omega)
/-- no exception: the plain contract -/
theorem met_of {Pc : Array Value → State → Prop} {Qc : Array Value → State → Outcome → State → Prop} {ws : List Cond} {sz : Nat} {free : Addr → Prop} (h : vx_Met l y ws rm Pc Qc (Xq D ca ad n er px sz) mc ms free) (h0 : er = 0) : Met l y ws rm Pc Qc mc ms free := by
  intro p e ha hc hk s m args below hf happ hpre hK
  obtain ⟨k, o, h1, h2, h3, h4⟩ := h p e ha hc hk s m args below hf happ hpre hK
  refine ⟨k, o, h1, h2, h3, ?_⟩
  rcases h4 with h4 | ⟨q, -, E, ce, L, ⟨u, ⟨hu, -⟩, -⟩, -⟩
  · exact h4
  · exact (hu h0).elim
/-- a call that surely throws, and isn't caught here -/
theorem x_gone {Qa : State → Outcome → State → Prop} {Qc : Array Value → State → Outcome → State → Prop} {er1 : Nat} {px1 : St → Prop} (X : CallFix p m c cc nL s args BG own) (hlk : meth.locks = false) (hnt : ∀ x ∈ c.exceptionTable.toList, False) (cn : Cn (wA ad n s.heap.size) s) (w : Wd D ca ad (wA ad n s.heap.size) s H locs σ)
    (hr : vx_Run p l e R s m args below meth c H locs cells slots 1 6 (F0 m pc ls st0) rest Qa (Xq D ca ad (sN σ) er1 px1 H.size) (wA ad (sN σ) H.size))
    (hno : ∀ st v t, ¬ Qa st (.returned v) t) (hex : exN er1 = exN er) (h0 : er ≠ 0) (hpx : ∀ u, px1 u → px u) (hm : er ≠ 0 → 1 ≤ mc ∧ 6 ≤ ms) (hc0 : cells = 0) (hs0 : slots = 0) :
    W p l e R s m args below meth c H locs cells slots (vx_MQ below Qc (Xq D ca ad n er px s.heap.size) args s mc ms (wA ad n s.heap.size)) (F0 m pc ls st0) := by
  intro T hT XX
  have hm' := hm h0
  rcases hr T hT XX with ⟨v, st₀, t, T', L, g0, X', hL, e1, e2, hq, st⟩ | ⟨q, st₀, t, T', L, E, ce, g0, X', hL, e1, e2, ⟨u, ⟨-, hp⟩, ⟨hE, hb⟩, hF⟩, hce, hcv, hcl, st⟩
  · exact (hno _ _ _ hq).elim
  · obtain ⟨k1, k2, k3⟩ := vx_keep g0 e1 w.2.2.2 (fun q _ h => w_sub cn w q h) (w_sub cn w) hL hF
    have w' : Wd D ca ad (wA ad n s.heap.size) s T'.heap (locs ++ L) u := w_back cn w e1.symm (by rw [← e2]; exact X'.warmed.alike) hb k3
    have kx : vx_W p l e R s m args below meth c T'.heap (locs ++ L) (cells + 1) (slots + 6) (vx_MQ below Qc (Xq D ca ad n er px s.heap.size) args s mc ms (wA ad n s.heap.size)) (F0 m pc ls rest) q :=
      vx_out (fun x hx => (hnt x hx).elim) hlk (by rw [e1]; exact hce) hcv hcl (fun t2 ht2 hvm => x_post cn w' h0 (hpx _ hp) E (by rw [hE, hex]) t2 hvm (by rw [ht2]; exact Nat.le_refl _) (fun q _ => by rw [ht2])) w'.2.2.2.2.2 (by omega) (by omega)
    obtain ⟨t2, a1, b1⟩ := kx T' rfl X'
    exact ⟨t2, st.trans a1, b1⟩
theorem xw_runV {n o ci N : Nat} {fs : List Value} {C : String} {T : u_T} (S : CallFix p m c cc nL s args BG own) (cn : Cn A s) (w : Wd D ca ad A s H locs σ) (ho : o < 17 + sN σ) (hcell : wC ca ad σ o = .inr (ci, fs)) (hc : vwCl[ci]? = some (C, T, N))
    (hM : ∀ sz, vx_Met l y (.code y bytes maxL ret :: BG) rm (Pw D ca ad σ sz (.ref (ad o) :: As)) (Qc sz) (XC sz) mc ms (wA ad (sN σ) sz)) (hT : GoodIn BG (wsV own index C y (.code y bytes maxL ret :: BG))) (hrc : rm.cells = mc) (hrs : rm.slots = ms)
    (hd : y.cls = C ∧ y.cls ≠ "java/lang/invoke/MethodHandle" ∧ y.cls ≠ "java/lang/invoke/VarHandle" ∧ (parseMethodDescriptor y.desc).map (fun d => d.parameters.length) = some n) (hR : rm.frames + 1 ≤ R.frames ∧ 8 + (maxL + 11) + rm.locals ≤ R.locals) (hn : As.length = n) (hsz : ls.size = nL)
    (hst : st0 = As.reverse ++ .ref (ad o) :: rest) (hW : (rest.map fun v => v.category).sum ≤ 8) (hdg : decode cc pc = .ok (.invokevirtual index, 3)) (hf : cells + mc ≤ R.cells ∧ slots + ms ≤ R.slots) :
    vx_Run p l e R s m args below meth c H locs cells slots mc ms (F0 m pc ls st0) rest (Qc H.size (.ref (ad o) :: As).toArray) (XC H.size) (wA ad (sN σ) H.size) :=
  vx_runV (As := As) (rest := rest) S (hM H.size) (cwV n S.2.2.2.2 hT rfl hrc hrs hd hR) ⟨Pw.blind, w_recv w ho hcell hc, fun U hU hW => ⟨rfl, w_pre cn w U hU hW⟩⟩ rfl hn hsz hst (lv_room hW) hdg hf
theorem xw_runS {n : Nat} (S : CallFix p m c cc nL s args BG own) (cn : Cn A s) (w : Wd D ca ad A s H locs σ)
    (hM : ∀ sz, vx_Met l y (.code y bytes maxL ret :: BG) rm (Pw D ca ad σ sz As) (Qc sz) (XC sz) mc ms (wA ad (sN σ) sz)) (hT : GoodIn BG (wsS own index y (.code y bytes maxL ret :: BG))) (hrc : rm.cells = mc) (hrs : rm.slots = ms)
    (hd : y.cls = own ∧ y.cls ≠ "java/lang/invoke/MethodHandle" ∧ y.cls ≠ "java/lang/invoke/VarHandle" ∧ (parseMethodDescriptor y.desc).map (fun d => d.parameters.length) = some n) (hR : rm.frames + 1 ≤ R.frames ∧ 8 + (maxL + 11) + rm.locals ≤ R.locals) (hn : As.length = n) (hsz : ls.size = nL)
    (hst : st0 = As.reverse ++ rest) (hW : (rest.map fun v => v.category).sum ≤ 8) (hdg : decode cc pc = .ok (.invokestatic index, 3)) (hf : cells + mc ≤ R.cells ∧ slots + ms ≤ R.slots) :
    vx_Run p l e R s m args below meth c H locs cells slots mc ms (F0 m pc ls st0) rest (Qc H.size As.toArray) (XC H.size) (wA ad (sN σ) H.size) :=
  vx_runS (As := As) (rest := rest) S (hM H.size) (cwS n S.2.2.2.2 hT rfl hrc hrs hd hR) ⟨Pw.blind, fun U hU hW => ⟨rfl, w_pre cn w U hU hW⟩⟩ rfl hn hsz hst (lv_room hW) hdg hf
end ExcRows
end
section
set_option maxHeartbeats 4000000 in
set_option maxRecDepth 100000 in
theorem c_X4_paperOf (l : Launch) (D : va_G) (ca : Nat → ClassId) (ad : Nat → Nat) (E : Em) (F : Fm) (L : Lm) (S : Sm) (n : Nat) (hlt : l.stackTraces = false) (i : Int32) (mc ms : Nat) (hm : erI 4 i ≠ 0 → 1 ≤ mc ∧ 6 ≤ ms) (sz : Nat) : vx_Met l yX4_paperOf (.code yX4_paperOf cX4_paperOf 3 (some (.object "PrintLedger$Paper")) :: BG) { frames := 6, cells := mc, slots := ms, locals := 95 } (Pw D ca ad (E, F, L, S, n) sz [.ref (ad 0), .int i]) (Qr D ca ad n (fun r u => erI 4 i = 0 ∧ r = some (ad (2 + i.toNatClampNeg)) ∧ u = (E, F, L, S, n)) sz) (Xq D ca ad n (erI 4 i) (fun u => u.2 = (F, L, S, n)) sz) mc ms (wA ad n sz) := by
  refine open_X (σ := (E, F, L, S, n)) (Qc := Qr D ca ad n (fun r u => erI 4 i = 0 ∧ r = some (ad (2 + i.toNatClampNeg)) ∧ u = (E, F, L, S, n))) (XC := Xq D ca ad n (erI 4 i) (fun u => u.2 = (F, L, S, n))) (by decide +kernel) (Nat.le_of_ble_eq_true rfl) ?_
  intro p e s m args below meth c X hr hlk hnt w cn ls hl
  have hl : lv_has ls 3 [(0, .ref (ad 0)), (1, .int i)] := hl
  refine lv_iload_n X.1 X.2.1 dX4_paperOf_0 rfl (lv_at hl 1 rfl) ?_
  refine lv_if_lt (tgt := 13) X.1 X.2.1 dX4_paperOf_1 (by decide) (fun c1 => ?_) (fun c1 => ?_)
  ·
    refine lv_null X.1 X.2.1 dX4_paperOf_13 ?_
    refine lv_goto (tgt := 23) X.1 X.2.1 dX4_paperOf_14 (by decide) ?_
    refine lv_astore_nN (lv' := [(2, .null), (0, .ref (ad 0)), (1, .int i)]) X.1 X.2.1 dX4_paperOf_23 rfl hl (by decide) rfl (fun ls hl => ?_)
    refine lv_aload_nN X.1 X.2.1 dX4_paperOf_24 rfl (lv_at hl 0 rfl) ?_
    refine lv_ifnonnullN X.1 X.2.1 dX4_paperOf_25 ?_
    exact x_throw1W (k := 384) (tx := "no such paper") hlt X rfl hlk hnt cn w hl.1 (by decide +kernel) (erI_neg c1) rfl hm dX4_paperOf_28 dX4_paperOf_31 dX4_paperOf_32 dX4_paperOf_35 dX4_paperOf_38 (Nat.le_of_ble_eq_true rfl) (Nat.le_of_ble_eq_true rfl) rfl rfl rfl rfl
  ·
    refine lv_iload_n X.1 X.2.1 dX4_paperOf_4 rfl (lv_at hl 1 rfl) ?_
    refine lv_aload_n X.1 X.2.1 dX4_paperOf_5 rfl (lv_at hl 0 rfl) ?_
    refine g_L X w 0 (by decide) (v := .ref (ad 14)) rfl kw_145 dX4_paperOf_6 ?_
    refine len_P X w dX4_paperOf_9 ?_
    refine lv_icmp_lt (tgt := 17) X.1 X.2.1 dX4_paperOf_10 (by decide) (fun c2 => ?_) (fun c2 => ?_)
    ·
      refine lv_aload_n X.1 X.2.1 dX4_paperOf_17 rfl (lv_at hl 0 rfl) ?_
      refine g_L X w 0 (by decide) (v := .ref (ad 14)) rfl kw_145 dX4_paperOf_18 ?_
      refine lv_iload_n X.1 X.2.1 dX4_paperOf_21 rfl (lv_at hl 1 rfl) ?_
      refine ld_P X w (in_of rfl c1 c2) dX4_paperOf_22 ?_
      refine lv_astore_n (lv' := [(2, .ref (ad (2 + (i).toNatClampNeg))), (0, .ref (ad 0)), (1, .int i)]) X.1 X.2.1 dX4_paperOf_23 rfl hl (by decide) rfl (fun ls hl => ?_)
      refine lv_aload_n X.1 X.2.1 dX4_paperOf_24 rfl (lv_at hl 0 rfl) ?_
      refine lv_ifnonnull (tgt := 39) X.1 X.2.1 dX4_paperOf_25 (by decide) ?_
      refine lv_aload_n X.1 X.2.1 dX4_paperOf_39 rfl (lv_at hl 0 rfl) ?_
      exact vx_ret (w_aret (r := (some (ad (2 + (i).toNatClampNeg)))) X hr hlk w (by  exact ⟨erI_in (in_of rfl c1 c2), rfl, rfl⟩) dX4_paperOf_40 (Nat.zero_le _) (Nat.zero_le _))
    ·
      refine lv_null X.1 X.2.1 dX4_paperOf_13 ?_
      refine lv_goto (tgt := 23) X.1 X.2.1 dX4_paperOf_14 (by decide) ?_
      refine lv_astore_nN (lv' := [(2, .null), (0, .ref (ad 0)), (1, .int i)]) X.1 X.2.1 dX4_paperOf_23 rfl hl (by decide) rfl (fun ls hl => ?_)
      refine lv_aload_nN X.1 X.2.1 dX4_paperOf_24 rfl (lv_at hl 0 rfl) ?_
      refine lv_ifnonnullN X.1 X.2.1 dX4_paperOf_25 ?_
      exact x_throw1W (k := 384) (tx := "no such paper") hlt X rfl hlk hnt cn w hl.1 (by decide +kernel) (erI_ge rfl c1 c2) rfl hm dX4_paperOf_28 dX4_paperOf_31 dX4_paperOf_32 dX4_paperOf_35 dX4_paperOf_38 (Nat.le_of_ble_eq_true rfl) (Nat.le_of_ble_eq_true rfl) rfl rfl rfl rfl

set_option maxHeartbeats 4000000 in
set_option maxRecDepth 100000 in
theorem c_X4_pressOf (l : Launch) (D : va_G) (ca : Nat → ClassId) (ad : Nat → Nat) (E : Em) (F : Fm) (L : Lm) (S : Sm) (n : Nat) (hlt : l.stackTraces = false) (i : Int32) (mc ms : Nat) (hm : erI 3 i ≠ 0 → 1 ≤ mc ∧ 6 ≤ ms) (sz : Nat) : vx_Met l yX4_pressOf (.code yX4_pressOf cX4_pressOf 3 (some (.object "PrintLedger$Press")) :: BG) { frames := 6, cells := mc, slots := ms, locals := 95 } (Pw D ca ad (E, F, L, S, n) sz [.ref (ad 0), .int i]) (Qr D ca ad n (fun r u => erI 3 i = 0 ∧ r = some (ad (6 + i.toNatClampNeg)) ∧ u = (E, F, L, S, n)) sz) (Xq D ca ad n (erI 3 i) (fun u => u.2 = (F, L, S, n)) sz) mc ms (wA ad n sz) := by
  refine open_X (σ := (E, F, L, S, n)) (Qc := Qr D ca ad n (fun r u => erI 3 i = 0 ∧ r = some (ad (6 + i.toNatClampNeg)) ∧ u = (E, F, L, S, n))) (XC := Xq D ca ad n (erI 3 i) (fun u => u.2 = (F, L, S, n))) (by decide +kernel) (Nat.le_of_ble_eq_true rfl) ?_
  intro p e s m args below meth c X hr hlk hnt w cn ls hl
  have hl : lv_has ls 3 [(0, .ref (ad 0)), (1, .int i)] := hl
  refine lv_iload_n X.1 X.2.1 dX4_pressOf_0 rfl (lv_at hl 1 rfl) ?_
  refine lv_if_lt (tgt := 13) X.1 X.2.1 dX4_pressOf_1 (by decide) (fun c1 => ?_) (fun c1 => ?_)
  ·
    refine lv_null X.1 X.2.1 dX4_pressOf_13 ?_
    refine lv_goto (tgt := 23) X.1 X.2.1 dX4_pressOf_14 (by decide) ?_
    refine lv_astore_nN (lv' := [(2, .null), (0, .ref (ad 0)), (1, .int i)]) X.1 X.2.1 dX4_pressOf_23 rfl hl (by decide) rfl (fun ls hl => ?_)
    refine lv_aload_nN X.1 X.2.1 dX4_pressOf_24 rfl (lv_at hl 0 rfl) ?_
    refine lv_ifnonnullN X.1 X.2.1 dX4_pressOf_25 ?_
    exact x_throw1W (k := 388) (tx := "no such press") hlt X rfl hlk hnt cn w hl.1 (by decide +kernel) (erI_neg c1) rfl hm dX4_pressOf_28 dX4_pressOf_31 dX4_pressOf_32 dX4_pressOf_35 dX4_pressOf_38 (Nat.le_of_ble_eq_true rfl) (Nat.le_of_ble_eq_true rfl) rfl rfl rfl rfl
  ·
    refine lv_iload_n X.1 X.2.1 dX4_pressOf_4 rfl (lv_at hl 1 rfl) ?_
    refine lv_aload_n X.1 X.2.1 dX4_pressOf_5 rfl (lv_at hl 0 rfl) ?_
    refine g_L X w 1 (by decide) (v := .ref (ad 15)) rfl kw_146 dX4_pressOf_6 ?_
    refine len_R X w dX4_pressOf_9 ?_
    refine lv_icmp_lt (tgt := 17) X.1 X.2.1 dX4_pressOf_10 (by decide) (fun c2 => ?_) (fun c2 => ?_)
    ·
      refine lv_aload_n X.1 X.2.1 dX4_pressOf_17 rfl (lv_at hl 0 rfl) ?_
      refine g_L X w 1 (by decide) (v := .ref (ad 15)) rfl kw_146 dX4_pressOf_18 ?_
      refine lv_iload_n X.1 X.2.1 dX4_pressOf_21 rfl (lv_at hl 1 rfl) ?_
      refine ld_R X w (in_of rfl c1 c2) dX4_pressOf_22 ?_
      refine lv_astore_n (lv' := [(2, .ref (ad (6 + (i).toNatClampNeg))), (0, .ref (ad 0)), (1, .int i)]) X.1 X.2.1 dX4_pressOf_23 rfl hl (by decide) rfl (fun ls hl => ?_)
      refine lv_aload_n X.1 X.2.1 dX4_pressOf_24 rfl (lv_at hl 0 rfl) ?_
      refine lv_ifnonnull (tgt := 39) X.1 X.2.1 dX4_pressOf_25 (by decide) ?_
      refine lv_aload_n X.1 X.2.1 dX4_pressOf_39 rfl (lv_at hl 0 rfl) ?_
      exact vx_ret (w_aret (r := (some (ad (6 + (i).toNatClampNeg)))) X hr hlk w (by  exact ⟨erI_in (in_of rfl c1 c2), rfl, rfl⟩) dX4_pressOf_40 (Nat.zero_le _) (Nat.zero_le _))
    ·
      refine lv_null X.1 X.2.1 dX4_pressOf_13 ?_
      refine lv_goto (tgt := 23) X.1 X.2.1 dX4_pressOf_14 (by decide) ?_
      refine lv_astore_nN (lv' := [(2, .null), (0, .ref (ad 0)), (1, .int i)]) X.1 X.2.1 dX4_pressOf_23 rfl hl (by decide) rfl (fun ls hl => ?_)
      refine lv_aload_nN X.1 X.2.1 dX4_pressOf_24 rfl (lv_at hl 0 rfl) ?_
      refine lv_ifnonnullN X.1 X.2.1 dX4_pressOf_25 ?_
      exact x_throw1W (k := 388) (tx := "no such press") hlt X rfl hlk hnt cn w hl.1 (by decide +kernel) (erI_ge rfl c1 c2) rfl hm dX4_pressOf_28 dX4_pressOf_31 dX4_pressOf_32 dX4_pressOf_35 dX4_pressOf_38 (Nat.le_of_ble_eq_true rfl) (Nat.le_of_ble_eq_true rfl) rfl rfl rfl rfl

set_option maxHeartbeats 4000000 in
set_option maxRecDepth 100000 in
theorem c_X4_jobOf (l : Launch) (D : va_G) (ca : Nat → ClassId) (ad : Nat → Nat) (E : Em) (F : Fm) (L : Lm) (S : Sm) (n : Nat) (hlt : l.stackTraces = false) (hJ : L 16 = aJb n) (hn20 : n ≤ 20) (i : Int32) (mc ms : Nat) (hm : erI n i ≠ 0 → 1 ≤ mc ∧ 6 ≤ ms) (sz : Nat) : vx_Met l yX4_jobOf (.code yX4_jobOf cX4_jobOf 3 (some (.object "PrintLedger$Job")) :: BG) { frames := 6, cells := mc, slots := ms, locals := 95 } (Pw D ca ad (E, F, L, S, n) sz [.ref (ad 0), .int i]) (Qr D ca ad n (fun r u => erI n i = 0 ∧ r = some (ad (17 + i.toNatClampNeg)) ∧ u = (E, F, L, S, n)) sz) (Xq D ca ad n (erI n i) (fun u => u.2 = (F, L, S, n)) sz) mc ms (wA ad n sz) := by
  refine open_X (σ := (E, F, L, S, n)) (Qc := Qr D ca ad n (fun r u => erI n i = 0 ∧ r = some (ad (17 + i.toNatClampNeg)) ∧ u = (E, F, L, S, n))) (XC := Xq D ca ad n (erI n i) (fun u => u.2 = (F, L, S, n))) (by decide +kernel) (Nat.le_of_ble_eq_true rfl) ?_
  intro p e s m args below meth c X hr hlk hnt w cn ls hl
  have hl : lv_has ls 3 [(0, .ref (ad 0)), (1, .int i)] := hl
  refine lv_iload_n X.1 X.2.1 dX4_jobOf_0 rfl (lv_at hl 1 rfl) ?_
  refine lv_if_lt (tgt := 13) X.1 X.2.1 dX4_jobOf_1 (by decide) (fun c1 => ?_) (fun c1 => ?_)
  ·
    refine lv_null X.1 X.2.1 dX4_jobOf_13 ?_
    refine lv_goto (tgt := 23) X.1 X.2.1 dX4_jobOf_14 (by decide) ?_
    refine lv_astore_nN (lv' := [(2, .null), (0, .ref (ad 0)), (1, .int i)]) X.1 X.2.1 dX4_jobOf_23 rfl hl (by decide) rfl (fun ls hl => ?_)
    refine lv_aload_nN X.1 X.2.1 dX4_jobOf_24 rfl (lv_at hl 0 rfl) ?_
    refine lv_ifnonnullN X.1 X.2.1 dX4_jobOf_25 ?_
    exact x_throw1W (k := 386) (tx := "no such job") hlt X rfl hlk hnt cn w hl.1 (by decide +kernel) (erI_neg c1) rfl hm dX4_jobOf_28 dX4_jobOf_31 dX4_jobOf_32 dX4_jobOf_35 dX4_jobOf_38 (Nat.le_of_ble_eq_true rfl) (Nat.le_of_ble_eq_true rfl) rfl rfl rfl rfl
  ·
    refine lv_iload_n X.1 X.2.1 dX4_jobOf_4 rfl (lv_at hl 1 rfl) ?_
    refine lv_aload_n X.1 X.2.1 dX4_jobOf_5 rfl (lv_at hl 0 rfl) ?_
    refine g_L X w 2 (by decide) (v := .ref (ad 16)) rfl kw_147 dX4_jobOf_6 ?_
    refine len_J X w dX4_jobOf_9 ?_
    refine lv_icmp_lt (tgt := 17) X.1 X.2.1 dX4_jobOf_10 (by decide) (fun c2 => ?_) (fun c2 => ?_)
    ·
      refine lv_aload_n X.1 X.2.1 dX4_jobOf_17 rfl (lv_at hl 0 rfl) ?_
      refine g_L X w 2 (by decide) (v := .ref (ad 16)) rfl kw_147 dX4_jobOf_18 ?_
      refine lv_iload_n X.1 X.2.1 dX4_jobOf_21 rfl (lv_at hl 1 rfl) ?_
      refine ld_J X w (in_of rfl c1 c2) dX4_jobOf_22 ?_
      obtain hj3n | ⟨j3, hj3s⟩ : (L 16 (i).toNatClampNeg) = none ∨ ∃ j, (L 16 (i).toNatClampNeg) = some j := opt_or _
      ·
        refine W.eq (g2 := F0 m 23 ls [.null]) (by simp only [hj3n]; rfl) ?_
        refine lv_astore_nN (lv' := [(2, .null), (0, .ref (ad 0)), (1, .int i)]) X.1 X.2.1 dX4_jobOf_23 rfl hl (by decide) rfl (fun ls hl => ?_)
        refine lv_aload_nN X.1 X.2.1 dX4_jobOf_24 rfl (lv_at hl 0 rfl) ?_
        refine lv_ifnonnullN X.1 X.2.1 dX4_jobOf_25 ?_
        exact x_throw1W (k := 386) (tx := "no such job") hlt X rfl hlk hnt cn w hl.1 (by decide +kernel) (erI_big (aJbL_no hJ hj3n)) rfl hm dX4_jobOf_28 dX4_jobOf_31 dX4_jobOf_32 dX4_jobOf_35 dX4_jobOf_38 (Nat.le_of_ble_eq_true rfl) (Nat.le_of_ble_eq_true rfl) rfl rfl rfl rfl
      ·
        refine W.eq (g2 := F0 m 23 ls [.ref (ad (17 + j3))]) (by simp only [hj3s]; rfl) ?_
        refine lv_astore_n (lv' := [(2, .ref (ad (17 + j3))), (0, .ref (ad 0)), (1, .int i)]) X.1 X.2.1 dX4_jobOf_23 rfl hl (by decide) rfl (fun ls hl => ?_)
        refine lv_aload_n X.1 X.2.1 dX4_jobOf_24 rfl (lv_at hl 0 rfl) ?_
        refine lv_ifnonnull (tgt := 39) X.1 X.2.1 dX4_jobOf_25 (by decide) ?_
        refine lv_aload_n X.1 X.2.1 dX4_jobOf_39 rfl (lv_at hl 0 rfl) ?_
        exact vx_ret (w_aret (r := (some (ad (17 + j3)))) X hr hlk w (by  exact ⟨by obtain ⟨e1, e2⟩ := aJbL_eq hJ hj3s; exact erI_in (by intro h; rcases h with h | h; exact c1 h; omega), by rw [(aJbL_eq hJ hj3s).1], rfl⟩) dX4_jobOf_40 (Nat.zero_le _) (Nat.zero_le _))
    ·
      refine lv_null X.1 X.2.1 dX4_jobOf_13 ?_
      refine lv_goto (tgt := 23) X.1 X.2.1 dX4_jobOf_14 (by decide) ?_
      refine lv_astore_nN (lv' := [(2, .null), (0, .ref (ad 0)), (1, .int i)]) X.1 X.2.1 dX4_jobOf_23 rfl hl (by decide) rfl (fun ls hl => ?_)
      refine lv_aload_nN X.1 X.2.1 dX4_jobOf_24 rfl (lv_at hl 0 rfl) ?_
      refine lv_ifnonnullN X.1 X.2.1 dX4_jobOf_25 ?_
      exact x_throw1W (k := 386) (tx := "no such job") hlt X rfl hlk hnt cn w hl.1 (by decide +kernel) (erI_big (Nat.le_trans hn20 (cl_ge (M := 20) rfl c1 (Int32.not_lt.mp c2)))) rfl hm dX4_jobOf_28 dX4_jobOf_31 dX4_jobOf_32 dX4_jobOf_35 dX4_jobOf_38 (Nat.le_of_ble_eq_true rfl) (Nat.le_of_ble_eq_true rfl) rfl rfl rfl rfl
end
section
/-! ===== the face: which exception, and what is answered ===== -/
def erW (hi : Nat) (x : Int32) : Nat := if x.toInt < 0 ∨ (hi : Int) < x.toInt then 2 else 0
abbrev oP (i : Int32) : Nat := 2 + i.toNatClampNeg
abbrev oR (i : Int32) : Nat := 6 + i.toNatClampNeg
abbrev oJ (i : Int32) : Nat := i.toNatClampNeg
def er_paper (i w h pr : Int32) : Nat := if erI 4 i = 0 then (if s_out w 20 99 = 0 then (if s_out h 20 99 = 0 then (if s_out pr 1 99 = 0 then 0 else 2) else 2) else 2) else 1
def s_paperF (F : Fm) (i w h pr : Int32) : Fm := up2 (up2 (up2 F (2 + i.toNatClampNeg) 0 w) (2 + i.toNatClampNeg) 1 h) (2 + i.toNatClampNeg) 2 pr
def er_buy (F : Fm) (i lots : Int32) : Nat := if erI 4 i = 0 then (if s_out lots 1 40 = 0 then (if lots ≤ s_room F (2 + i.toNatClampNeg) then 0 else 2) else 2) else 1
def er_ofPaper (i x : Int32) : Nat := if erI 4 i = 0 then erW 5 x else 1
def s_ofPaper (F : Fm) (L : Lm) (S : Sm) (q : Nat → Nat) (o : Nat) (x : Int32) : Int32 :=
  if x.toInt = 0 then F o 0 else if x.toInt = 1 then F o 1 else if x.toInt = 2 then F o 2 else if x.toInt = 3 then F o 3 else if x.toInt = 4 then s_fore F L S q o else s_short F L S q o
def er_ofJob (n : Nat) (i x : Int32) : Nat := if erI n i = 0 then erW 12 x else 1
def s_ofJob (F : Fm) (j : Nat) (x : Int32) : Int32 :=
  if x.toInt = 0 then F (17 + j) 1 else if x.toInt = 1 then F (17 + j) 3 else if x.toInt = 2 then F (17 + j) 4 else if x.toInt = 3 then F (17 + j) 5 else if x.toInt = 4 then (if F (17 + j) 6 = 0 then 0 else 1) else if x.toInt = 5 then F (17 + j) 7
  else if x.toInt = 6 then F (17 + j) 8 else if x.toInt = 7 then F (17 + j) 10 else if x.toInt = 8 then s_sheets F j else if x.toInt = 9 then F (17 + j) 11 else if x.toInt = 10 then F (17 + j) 12 else if x.toInt = 11 then F (17 + j) 13 else F (17 + j) 9
def er_expected (n : Nat) (i r x : Int32) : Nat := if erI n i = 0 then (if erI 3 r = 0 then erW 6 x else 1) else 1
def s_expected (F : Fm) (S : Sm) (j o : Nat) (x : Int32) : Int32 :=
  if x.toInt = 0 then s_passes F o j else if x.toInt = 1 then s_change F j (F o 1) else if x.toInt = 2 then s_spoiled F o j else if x.toInt = 3 then s_needed F o j else if x.toInt = 4 then s_minutes F o j (F o 1) else if x.toInt = 5 then s_cost F S o j (F o 1) else s_quote F S o j (F o 1)
def er_towers (r x : Int32) : Nat := if erI 3 r = 0 then (if s_out x 1 4 = 0 then 0 else 2) else 1
def er_ofPress (r x : Int32) : Nat := if erI 3 r = 0 then erW 6 x else 1
def s_ofPress (F : Fm) (L : Lm) (q : Nat → Nat) (o : Nat) (x : Int32) : Int32 :=
  if x.toInt = 0 then F o 0 else if x.toInt = 1 then F o 1 else if x.toInt = 2 then F o 2 else if x.toInt = 3 then F o 3 else if x.toInt = 4 then F o 4 else if x.toInt = 5 then F o 6 else s_minQ F L q o
def er_queue (F : Fm) (L : Lm) (r x : Int32) : Nat := if erI 3 r = 0 then (match s_jobAt F L (6 + r.toNatClampNeg) x with
  | none => 1
  | some _ => 0) else 1
def s_queue (F : Fm) (L : Lm) (o : Nat) (x : Int32) : Int32 := match s_jobAt F L o x with
  | none => 0
  | some j => F (17 + j) 0
def er_terms (x y : Int32) : Nat := if s_out x 1 99 = 0 then (if s_out y 0 200 = 0 then 0 else 2) else 2
def s_many (F : Fm) (n : Nat) (x : Int32) : Int32 :=
  if x.toInt = 0 then F 0 3 else if x.toInt = 1 then s_count F n 0 else if x.toInt = 2 then s_count F n 1 else if x.toInt = 3 then s_count F n 2 else if x.toInt = 4 then s_count F n 3 else if x.toInt = 5 then F 0 4
  else if x.toInt = 6 then s_total F n 13 else if x.toInt = 7 then s_total F n 12 else if x.toInt = 8 then s_worthS F else if x.toInt = 9 then F 0 7 else F 0 8
def s_bs (b : Int32 × Int32) (k cost : Int32) : Int32 × Int32 := if b.2 ≤ cost then b else (k, cost)
def s_best (F : Fm) (S : Sm) (j : Nat) : Int32 := (s_bs (s_bs (s_bs (0, 2147483647) 0 (s_cost F S 6 j (F 6 1))) 1 (s_cost F S 7 j (F 7 1))) 2 (s_cost F S 8 j (F 8 1))).1
theorem s_brg_lt {F : Fm} {z n : Nat} : ∀ (d k : Nat) (f : Nat → Option Nat) (i : Int32), (∀ x j, f x = some j → j < n) → ∀ x j, s_brg F z d k f i x = some j → j < n := by
  intro d
  induction d with
  | zero => intro k f i h x j hx; exact h x j hx
  | succ d ih =>
    intro k f i h x j hx
    unfold s_brg at hx
    cases hf : f (s_plc F f i (z - k) k k 2147483647) with
    | none => rw [hf] at hx; exact ih _ _ _ h x j hx
    | some a => rw [hf] at hx; exact ih _ _ _ (insF_lt (h _ _ hf) (remF_lt h)) x j hx
theorem Wf.line {F : Fm} {L : Lm} {S : Sm} {n : Nat} {q : Nat → Nat} (h : Wf F L S n q) {o : Nat} (ho : 6 ≤ o ∧ o < 10) {f : Nat → Option Nat} (hf : ∀ x j, f x = some j → j < n) : Wf F (upLf L o f) S n q := by
  refine ⟨h.1, ⟨h.2.1.1, by rw [upLf_ne (by omega)]; exact h.2.1.2⟩, h.2.2.1, fun a ha => ⟨(h.2.2.2 a ha).1, (h.2.2.2 a ha).2.1, ?_⟩⟩
  by_cases e : a = o
  · subst e; rw [upLf_s]; exact hf
  · rw [upLf_ne e]; exact (h.2.2.2 a ha).2.2
end
section
set_option maxHeartbeats 4000000 in
set_option maxRecDepth 100000 in
theorem c_X4_terms (l : Launch) (D : va_G) (ca : Nat → ClassId) (ad : Nat → Nat) (E : Em) (F : Fm) (L : Lm) (S : Sm) (n : Nat) (hlt : l.stackTraces = false) (q : Nat → Nat) (wf : Wf F L S n q) (x y : Int32) (mc ms : Nat) (hm : er_terms x y ≠ 0 → 1 ≤ mc ∧ 6 ≤ ms) (sz : Nat) : vx_Met l yX4_terms (.code yX4_terms cX4_terms 3 (some .int) :: BG) { frames := 6, cells := mc, slots := ms, locals := 95 } (Pw D ca ad (E, F, L, S, n) sz [.ref (ad 0), .int x, .int y]) (Qi D ca ad n (fun r u => er_terms x y = 0 ∧ r = F 0 4 ∧ u.2 = (up2 (up2 F 0 5 x) 0 6 y, L, S, n)) sz) (Xq D ca ad n (er_terms x y) (fun u => u.2 = (F, L, S, n)) sz) mc ms (wA ad n sz) := by
  refine open_X (σ := (E, F, L, S, n)) (Qc := Qi D ca ad n (fun r u => er_terms x y = 0 ∧ r = F 0 4 ∧ u.2 = (up2 (up2 F 0 5 x) 0 6 y, L, S, n))) (XC := Xq D ca ad n (er_terms x y) (fun u => u.2 = (F, L, S, n))) (by decide +kernel) (Nat.le_of_ble_eq_true rfl) ?_
  intro p e s m args below meth c X hr hlk hnt w cn ls hl
  have hl : lv_has ls 3 [(0, .ref (ad 0)), (1, .int x), (2, .int y)] := hl
  have hs := wf.2.2.1
  have hJ := wf.2.1.2
  refine lv_iload_n X.1 X.2.1 dX4_terms_0 rfl (lv_at hl 1 rfl) ?_
  refine lv_iconst (v := 1) X.1 X.2.1 dX4_terms_1 (by decide) ?_
  refine lv_bipush (v := 99) X.1 X.2.1 dX4_terms_2 (by decide) ?_
  refine n_calli w (n_runS (n := 3) (As := [.int x, .int 1, .int 99]) X (c_X4_isOutside l x 1 99) (bg_S kw_429 kw_430 kw_31 kw_431) rfl rfl (by decide +kernel) ⟨(Nat.le_of_ble_eq_true rfl), (Nat.le_of_ble_eq_true rfl)⟩ rfl hl.1 rfl (Nat.le_of_ble_eq_true rfl) dX4_terms_4 ⟨(Nat.zero_le _), (Nat.zero_le _)⟩) (fun H locs w => ?_)
  refine lv_if_eq (tgt := 21) X.1 X.2.1 dX4_terms_7 (by decide) (fun c1 => ?_) (fun c1 => ?_)
  ·
    refine lv_iload_n X.1 X.2.1 dX4_terms_21 rfl (lv_at hl 2 rfl) ?_
    refine lv_iconst (v := 0) X.1 X.2.1 dX4_terms_22 (by decide) ?_
    refine lv_sipush (v := 200) X.1 X.2.1 dX4_terms_23 (by decide) ?_
    refine n_calli w (n_runS (n := 3) (As := [.int y, .int 0, .int 200]) X (c_X4_isOutside l y 0 200) (bg_S kw_429 kw_430 kw_31 kw_431) rfl rfl (by decide +kernel) ⟨(Nat.le_of_ble_eq_true rfl), (Nat.le_of_ble_eq_true rfl)⟩ rfl hl.1 rfl (Nat.le_of_ble_eq_true rfl) dX4_terms_26 ⟨(Nat.zero_le _), (Nat.zero_le _)⟩) (fun H locs w => ?_)
    refine lv_if_eq (tgt := 43) X.1 X.2.1 dX4_terms_29 (by decide) (fun c2 => ?_) (fun c2 => ?_)
    ·
      refine lv_aload_n X.1 X.2.1 dX4_terms_43 rfl (lv_at hl 0 rfl) ?_
      refine lv_iload_n X.1 X.2.1 dX4_terms_44 rfl (lv_at hl 1 rfl) ?_
      refine p_L X w 5 (by decide) rfl (by decide +kernel) (v := x) kw_150 dX4_terms_45 (fun H locs w => ?_)
      obtain ⟨F3, eF3⟩ : ∃ G : Fm, G = up2 F 0 5 x := ⟨_, rfl⟩
      rw [← eF3] at w
      refine lv_aload_n X.1 X.2.1 dX4_terms_48 rfl (lv_at hl 0 rfl) ?_
      refine lv_iload_n X.1 X.2.1 dX4_terms_49 rfl (lv_at hl 2 rfl) ?_
      refine p_L X w 6 (by decide) rfl (by decide +kernel) (v := y) kw_151 dX4_terms_50 (fun H locs w => ?_)
      obtain ⟨F4, eF4⟩ : ∃ G : Fm, G = up2 F3 0 6 y := ⟨_, rfl⟩
      rw [← eF4] at w
      refine lv_aload_n X.1 X.2.1 dX4_terms_53 rfl (lv_at hl 0 rfl) ?_
      refine g_L X w 4 (by decide) (v := .int (F4 0 4)) rfl kw_149 dX4_terms_54 ?_
      exact vx_ret (w_iret X hr hlk w (by subst eF4; subst eF3; exact ⟨by simp [er_terms, c1, c2], by simp [up2], rfl⟩) dX4_terms_57 rfl (Nat.zero_le _) (Nat.zero_le _))
    ·
      exact x_throw2W (k := 327) (tx := "a margin is 0 to 200") hlt X rfl hlk hnt cn w hl.1 (by decide +kernel) (by  simp [er_terms, c1, c2]) rfl hm dX4_terms_32 dX4_terms_35 dX4_terms_36 dX4_terms_39 dX4_terms_42 (Nat.le_of_ble_eq_true rfl) (Nat.le_of_ble_eq_true rfl) rfl rfl rfl rfl
  ·
    exact x_throw2W (k := 325) (tx := "a wage is 1 to 99") hlt X rfl hlk hnt cn w hl.1 (by decide +kernel) (by  simp [er_terms, c1]) rfl hm dX4_terms_10 dX4_terms_13 dX4_terms_14 dX4_terms_17 dX4_terms_20 (Nat.le_of_ble_eq_true rfl) (Nat.le_of_ble_eq_true rfl) rfl rfl rfl rfl

set_option maxHeartbeats 4000000 in
set_option maxRecDepth 100000 in
theorem c_X4_paper (l : Launch) (D : va_G) (ca : Nat → ClassId) (ad : Nat → Nat) (E : Em) (F : Fm) (L : Lm) (S : Sm) (n : Nat) (hlt : l.stackTraces = false) (q : Nat → Nat) (wf : Wf F L S n q) (i x h y : Int32) (mc ms : Nat) (hm : er_paper i x h y ≠ 0 → 1 ≤ mc ∧ 6 ≤ ms) (sz : Nat) : vx_Met l yX4_paper (.code yX4_paper cX4_paper 7 (some .int) :: BG) { frames := 7, cells := mc, slots := ms, locals := 117 } (Pw D ca ad (E, F, L, S, n) sz [.ref (ad 0), .int i, .int x, .int h, .int y]) (Qi D ca ad n (fun r u => er_paper i x h y = 0 ∧ r = F (2 + i.toNatClampNeg) 2 ∧ u.2 = (s_paperF F i x h y, L, S, n)) sz) (Xq D ca ad n (er_paper i x h y) (fun u => u.2 = (F, L, S, n)) sz) mc ms (wA ad n sz) := by
  refine open_X (σ := (E, F, L, S, n)) (Qc := Qi D ca ad n (fun r u => er_paper i x h y = 0 ∧ r = F (2 + i.toNatClampNeg) 2 ∧ u.2 = (s_paperF F i x h y, L, S, n))) (XC := Xq D ca ad n (er_paper i x h y) (fun u => u.2 = (F, L, S, n))) (by decide +kernel) (Nat.le_of_ble_eq_true rfl) ?_
  intro p e s m args below meth c X hr hlk hnt w cn ls hl
  have hl : lv_has ls 7 [(0, .ref (ad 0)), (1, .int i), (2, .int x), (3, .int h), (4, .int y)] := hl
  have hs := wf.2.2.1
  have hJ := wf.2.1.2
  refine lv_aload_n X.1 X.2.1 dX4_paper_0 rfl (lv_at hl 0 rfl) ?_
  refine lv_iload_n X.1 X.2.1 dX4_paper_1 rfl (lv_at hl 1 rfl) ?_
  by_cases h2 : (erI 4 i) = 0
  ·
    refine w_callr cn w (w_runV (n := 1) (As := [.int i]) X cn w (lt17 (by decide)) wC_0 rfl (fun sz => met_of (c_X4_paperOf l D ca ad E F L S n hlt i 0 0 (fun h => (h h2).elim) sz) h2) (bg_V kw_278 kw_280 kw_5 kw_31 kw_281) rfl rfl (by decide +kernel) ⟨(Nat.le_of_ble_eq_true rfl), (Nat.le_of_ble_eq_true rfl)⟩ rfl hl.1 rfl (Nat.le_of_ble_eq_true rfl) dX4_paper_2 ⟨(Nat.zero_le _), (Nat.zero_le _)⟩) (fun r1 u H locs hp w => ?_)
    obtain ⟨-, rfl, rfl⟩ := hp
    refine W.eq (g2 := F0 m 5 ls [.ref (ad (2 + i.toNatClampNeg))]) rfl ?_
    refine lv_astore (lv' := [(5, .ref (ad (2 + i.toNatClampNeg))), (0, .ref (ad 0)), (1, .int i), (2, .int x), (3, .int h), (4, .int y)]) X.1 X.2.1 dX4_paper_5 hl (by decide) rfl (fun ls hl => ?_)
    refine lv_iload_n X.1 X.2.1 dX4_paper_7 rfl (lv_at hl 3 rfl) ?_
    refine lv_bipush (v := 20) X.1 X.2.1 dX4_paper_8 (by decide) ?_
    refine lv_bipush (v := 99) X.1 X.2.1 dX4_paper_10 (by decide) ?_
    refine n_calli w (n_runS (n := 3) (As := [.int x, .int 20, .int 99]) X (c_X4_isOutside l x 20 99) (bg_S kw_429 kw_430 kw_31 kw_431) rfl rfl (by decide +kernel) ⟨(Nat.le_of_ble_eq_true rfl), (Nat.le_of_ble_eq_true rfl)⟩ rfl hl.1 rfl (Nat.le_of_ble_eq_true rfl) dX4_paper_12 ⟨(Nat.zero_le _), (Nat.zero_le _)⟩) (fun H locs w => ?_)
    refine lv_if_ne (tgt := 29) X.1 X.2.1 dX4_paper_15 (by decide) (fun c3 => ?_) (fun c3 => ?_)
    ·
      exact x_throw2 (k := 57) (tx := "a sheet is 20 to 99 wide and high") hlt X rfl hlk hnt cn w hl.1 (by decide +kernel) (by  simp [er_paper, h2, c3]) rfl hm dX4_paper_29 dX4_paper_32 dX4_paper_33 dX4_paper_35 dX4_paper_38 (Nat.le_of_ble_eq_true rfl) (Nat.le_of_ble_eq_true rfl) rfl rfl rfl rfl
    ·
      refine lv_iload_n X.1 X.2.1 dX4_paper_18 rfl (lv_at hl 4 rfl) ?_
      refine lv_bipush (v := 20) X.1 X.2.1 dX4_paper_19 (by decide) ?_
      refine lv_bipush (v := 99) X.1 X.2.1 dX4_paper_21 (by decide) ?_
      refine n_calli w (n_runS (n := 3) (As := [.int h, .int 20, .int 99]) X (c_X4_isOutside l h 20 99) (bg_S kw_429 kw_430 kw_31 kw_431) rfl rfl (by decide +kernel) ⟨(Nat.le_of_ble_eq_true rfl), (Nat.le_of_ble_eq_true rfl)⟩ rfl hl.1 rfl (Nat.le_of_ble_eq_true rfl) dX4_paper_23 ⟨(Nat.zero_le _), (Nat.zero_le _)⟩) (fun H locs w => ?_)
      refine lv_if_eq (tgt := 39) X.1 X.2.1 dX4_paper_26 (by decide) (fun c4 => ?_) (fun c4 => ?_)
      ·
        refine lv_iload X.1 X.2.1 dX4_paper_39 (lv_at hl 5 rfl) ?_
        refine lv_iconst (v := 1) X.1 X.2.1 dX4_paper_41 (by decide) ?_
        refine lv_bipush (v := 99) X.1 X.2.1 dX4_paper_42 (by decide) ?_
        refine n_calli w (n_runS (n := 3) (As := [.int y, .int 1, .int 99]) X (c_X4_isOutside l y 1 99) (bg_S kw_429 kw_430 kw_31 kw_431) rfl rfl (by decide +kernel) ⟨(Nat.le_of_ble_eq_true rfl), (Nat.le_of_ble_eq_true rfl)⟩ rfl hl.1 rfl (Nat.le_of_ble_eq_true rfl) dX4_paper_44 ⟨(Nat.zero_le _), (Nat.zero_le _)⟩) (fun H locs w => ?_)
        refine lv_if_eq (tgt := 60) X.1 X.2.1 dX4_paper_47 (by decide) (fun c5 => ?_) (fun c5 => ?_)
        ·
          refine lv_aload X.1 X.2.1 dX4_paper_60 (lv_at hl 0 rfl) ?_
          refine gn_P X cn w (pap_in (in_erI h2)) 2 (by decide) (v := .int (F (2 + i.toNatClampNeg) 2)) rfl kw_66 dX4_paper_62 ?_
          refine lv_topi (fun x6 ex6 => ?_)
          refine lv_istore (lv' := [(6, .int x6), (5, .ref (ad (2 + i.toNatClampNeg))), (0, .ref (ad 0)), (1, .int i), (2, .int x), (3, .int h), (4, .int y)]) X.1 X.2.1 dX4_paper_65 hl (by decide) rfl (fun ls hl => ?_)
          refine lv_aload X.1 X.2.1 dX4_paper_67 (lv_at hl 1 rfl) ?_
          refine lv_iload_n X.1 X.2.1 dX4_paper_69 rfl (lv_at hl 4 rfl) ?_
          refine pn_P X cn w (pap_in (in_erI h2)) 0 (by decide) rfl (by decide +kernel) (v := x) kw_61 dX4_paper_70 (fun H locs w => ?_)
          obtain ⟨F7, eF7⟩ : ∃ G : Fm, G = up2 F (2 + i.toNatClampNeg) 0 x := ⟨_, rfl⟩
          rw [← eF7] at w
          refine lv_aload X.1 X.2.1 dX4_paper_73 (lv_at hl 1 rfl) ?_
          refine lv_iload_n X.1 X.2.1 dX4_paper_75 rfl (lv_at hl 5 rfl) ?_
          refine pn_P X cn w (pap_in (in_erI h2)) 1 (by decide) rfl (by decide +kernel) (v := h) kw_64 dX4_paper_76 (fun H locs w => ?_)
          obtain ⟨F8, eF8⟩ : ∃ G : Fm, G = up2 F7 (2 + i.toNatClampNeg) 1 h := ⟨_, rfl⟩
          rw [← eF8] at w
          refine lv_aload X.1 X.2.1 dX4_paper_79 (lv_at hl 1 rfl) ?_
          refine lv_iload X.1 X.2.1 dX4_paper_81 (lv_at hl 6 rfl) ?_
          refine pn_P X cn w (pap_in (in_erI h2)) 2 (by decide) rfl (by decide +kernel) (v := y) kw_66 dX4_paper_83 (fun H locs w => ?_)
          obtain ⟨F9, eF9⟩ : ∃ G : Fm, G = up2 F8 (2 + i.toNatClampNeg) 2 y := ⟨_, rfl⟩
          rw [← eF9] at w
          refine lv_iload X.1 X.2.1 dX4_paper_86 (lv_at hl 0 rfl) ?_
          exact vx_ret (w_iret X hr hlk w (by subst eF9; subst eF8; subst eF7; subst ex6; exact ⟨by simp [er_paper, h2, c3, c4, c5], rfl, rfl⟩) dX4_paper_88 rfl (Nat.zero_le _) (Nat.zero_le _))
        ·
          exact x_throw2 (k := 62) (tx := "a price is 1 to 99") hlt X rfl hlk hnt cn w hl.1 (by decide +kernel) (by  simp [er_paper, h2, c3, c4, c5]) rfl hm dX4_paper_50 dX4_paper_53 dX4_paper_54 dX4_paper_56 dX4_paper_59 (Nat.le_of_ble_eq_true rfl) (Nat.le_of_ble_eq_true rfl) rfl rfl rfl rfl
      ·
        exact x_throw2 (k := 57) (tx := "a sheet is 20 to 99 wide and high") hlt X rfl hlk hnt cn w hl.1 (by decide +kernel) (by  simp [er_paper, h2, c3, c4]) rfl hm dX4_paper_29 dX4_paper_32 dX4_paper_33 dX4_paper_35 dX4_paper_38 (Nat.le_of_ble_eq_true rfl) (Nat.le_of_ble_eq_true rfl) rfl rfl rfl rfl
  ·
    have hE : er_paper i x h y ≠ 0 ∧ exN ((erI 4 i)) = exN (er_paper i x h y) := by  simp [er_paper, h2, erI_1 h2]
    have hm' := hm hE.1
    exact x_gone X hlk hnt cn w (xw_runV (n := 1) (As := [.int i]) X cn w (lt17 (by decide)) wC_0 rfl (fun sz => c_X4_paperOf l D ca ad E F L S n hlt i 1 6 (fun _ => ⟨Nat.le_refl 1, Nat.le_refl 6⟩) sz) (bg_V kw_278 kw_280 kw_5 kw_31 kw_281) rfl rfl (by decide +kernel) ⟨(Nat.le_of_ble_eq_true rfl), (Nat.le_of_ble_eq_true rfl)⟩ rfl hl.1 rfl (Nat.le_of_ble_eq_true rfl) dX4_paper_2 ⟨hm'.1, hm'.2⟩) (fun st v t hq => by obtain ⟨⟨r, u, -, hp, -⟩, -⟩ := hq; exact h2 hp.1) hE.2 hE.1 (fun u hu => hu) hm rfl rfl

set_option maxHeartbeats 4000000 in
set_option maxRecDepth 100000 in
theorem c_X4_buy (l : Launch) (D : va_G) (ca : Nat → ClassId) (ad : Nat → Nat) (E : Em) (F : Fm) (L : Lm) (S : Sm) (n : Nat) (hlt : l.stackTraces = false) (q : Nat → Nat) (wf : Wf F L S n q) (i x : Int32) (mc ms : Nat) (hm : er_buy F i x ≠ 0 → 1 ≤ mc ∧ 6 ≤ ms) (sz : Nat) : vx_Met l yX4_buy (.code yX4_buy cX4_buy 4 (some .int) :: BG) { frames := 7, cells := mc, slots := ms, locals := 117 } (Pw D ca ad (E, F, L, S, n) sz [.ref (ad 0), .int i, .int x]) (Qi D ca ad n (fun r u => er_buy F i x = 0 ∧ r = s_bring F (2 + i.toNatClampNeg) x (2 + i.toNatClampNeg) 3 ∧ u.2 = (s_bring F (2 + i.toNatClampNeg) x, L, S, n)) sz) (Xq D ca ad n (er_buy F i x) (fun u => u.2 = (F, L, S, n)) sz) mc ms (wA ad n sz) := by
  refine open_X (σ := (E, F, L, S, n)) (Qc := Qi D ca ad n (fun r u => er_buy F i x = 0 ∧ r = s_bring F (2 + i.toNatClampNeg) x (2 + i.toNatClampNeg) 3 ∧ u.2 = (s_bring F (2 + i.toNatClampNeg) x, L, S, n))) (XC := Xq D ca ad n (er_buy F i x) (fun u => u.2 = (F, L, S, n))) (by decide +kernel) (Nat.le_of_ble_eq_true rfl) ?_
  intro p e s m args below meth c X hr hlk hnt w cn ls hl
  have hl : lv_has ls 4 [(0, .ref (ad 0)), (1, .int i), (2, .int x)] := hl
  have hs := wf.2.2.1
  have hJ := wf.2.1.2
  refine lv_aload_n X.1 X.2.1 dX4_buy_0 rfl (lv_at hl 0 rfl) ?_
  refine lv_iload_n X.1 X.2.1 dX4_buy_1 rfl (lv_at hl 1 rfl) ?_
  by_cases h2 : (erI 4 i) = 0
  ·
    refine w_callr cn w (w_runV (n := 1) (As := [.int i]) X cn w (lt17 (by decide)) wC_0 rfl (fun sz => met_of (c_X4_paperOf l D ca ad E F L S n hlt i 0 0 (fun h => (h h2).elim) sz) h2) (bg_V kw_278 kw_280 kw_5 kw_31 kw_281) rfl rfl (by decide +kernel) ⟨(Nat.le_of_ble_eq_true rfl), (Nat.le_of_ble_eq_true rfl)⟩ rfl hl.1 rfl (Nat.le_of_ble_eq_true rfl) dX4_buy_2 ⟨(Nat.zero_le _), (Nat.zero_le _)⟩) (fun r1 u H locs hp w => ?_)
    obtain ⟨-, rfl, rfl⟩ := hp
    refine W.eq (g2 := F0 m 5 ls [.ref (ad (2 + i.toNatClampNeg))]) rfl ?_
    refine lv_astore_n (lv' := [(3, .ref (ad (2 + i.toNatClampNeg))), (0, .ref (ad 0)), (1, .int i), (2, .int x)]) X.1 X.2.1 dX4_buy_5 rfl hl (by decide) rfl (fun ls hl => ?_)
    refine lv_iload_n X.1 X.2.1 dX4_buy_6 rfl (lv_at hl 3 rfl) ?_
    refine lv_iconst (v := 1) X.1 X.2.1 dX4_buy_7 (by decide) ?_
    refine lv_bipush (v := 40) X.1 X.2.1 dX4_buy_8 (by decide) ?_
    refine n_calli w (n_runS (n := 3) (As := [.int x, .int 1, .int 40]) X (c_X4_isOutside l x 1 40) (bg_S kw_429 kw_430 kw_31 kw_431) rfl rfl (by decide +kernel) ⟨(Nat.le_of_ble_eq_true rfl), (Nat.le_of_ble_eq_true rfl)⟩ rfl hl.1 rfl (Nat.le_of_ble_eq_true rfl) dX4_buy_10 ⟨(Nat.zero_le _), (Nat.zero_le _)⟩) (fun H locs w => ?_)
    refine lv_if_eq (tgt := 26) X.1 X.2.1 dX4_buy_13 (by decide) (fun c3 => ?_) (fun c3 => ?_)
    ·
      refine lv_iload_n X.1 X.2.1 dX4_buy_26 rfl (lv_at hl 3 rfl) ?_
      refine lv_aload_n X.1 X.2.1 dX4_buy_27 rfl (lv_at hl 0 rfl) ?_
      refine w_calli cn w (w_runVN (n := 0) (As := []) X cn w (lt17 (by have := (pap_in (in_erI h2)); omega)) (wC_P ((pap_in (in_erI h2))).1 ((pap_in (in_erI h2))).2) rfl (fun sz => c_X2_lotsWithRoom l D ca ad E F L S n (2 + i.toNatClampNeg) (pap_in (in_erI h2)) sz) kw_544 kw_546 kw_23 kw_32 kw_547 rfl rfl (by decide +kernel) ⟨(Nat.le_of_ble_eq_true rfl), (Nat.le_of_ble_eq_true rfl)⟩ rfl hl.1 rfl (Nat.le_of_ble_eq_true rfl) dX4_buy_28 ⟨(Nat.zero_le _), (Nat.zero_le _)⟩) (fun r4 u H locs hp w => ?_)
      obtain ⟨rfl, rfl⟩ := hp
      refine lv_icmp_le (tgt := 44) X.1 X.2.1 dX4_buy_31 (by decide) (fun c5 => ?_) (fun c5 => ?_)
      ·
        refine lv_aload_n X.1 X.2.1 dX4_buy_44 rfl (lv_at hl 1 rfl) ?_
        refine lv_aload_n X.1 X.2.1 dX4_buy_45 rfl (lv_at hl 0 rfl) ?_
        refine lv_iload_n X.1 X.2.1 dX4_buy_46 rfl (lv_at hl 3 rfl) ?_
        refine w_callv cn w (w_runV (n := 2) (As := [.ref (ad (2 + i.toNatClampNeg)), .int x]) X cn w (lt17 (by decide)) wC_0 rfl (fun sz => c_X4_bring l D ca ad E F L S n (2 + i.toNatClampNeg) (pap_in (in_erI h2)) x sz) (bg_V kw_550 kw_552 kw_24 kw_31 kw_553) rfl rfl (by decide +kernel) ⟨(Nat.le_of_ble_eq_true rfl), (Nat.le_of_ble_eq_true rfl)⟩ rfl hl.1 rfl (Nat.le_of_ble_eq_true rfl) dX4_buy_47 ⟨(Nat.zero_le _), (Nat.zero_le _)⟩) (fun u H locs hp w => ?_)
        subst hp
        refine lv_aload_n X.1 X.2.1 dX4_buy_50 rfl (lv_at hl 0 rfl) ?_
        refine gn_P X cn w (pap_in (in_erI h2)) 3 (by decide) (v := .int ((s_bring F (2 + i.toNatClampNeg) x) (2 + i.toNatClampNeg) 3)) rfl kw_68 dX4_buy_51 ?_
        exact vx_ret (w_iret X hr hlk w (by  exact ⟨by simp [er_buy, h2, c3, c5], rfl, rfl⟩) dX4_buy_54 rfl (Nat.zero_le _) (Nat.zero_le _))
      ·
        exact x_throw2 (k := 79) (tx := "the stock would be above 99999") hlt X rfl hlk hnt cn w hl.1 (by decide +kernel) (by  simp [er_buy, h2, c3, c5]) rfl hm dX4_buy_34 dX4_buy_37 dX4_buy_38 dX4_buy_40 dX4_buy_43 (Nat.le_of_ble_eq_true rfl) (Nat.le_of_ble_eq_true rfl) rfl rfl rfl rfl
    ·
      exact x_throw2 (k := 73) (tx := "lots are 1 to 40") hlt X rfl hlk hnt cn w hl.1 (by decide +kernel) (by  simp [er_buy, h2, c3]) rfl hm dX4_buy_16 dX4_buy_19 dX4_buy_20 dX4_buy_22 dX4_buy_25 (Nat.le_of_ble_eq_true rfl) (Nat.le_of_ble_eq_true rfl) rfl rfl rfl rfl
  ·
    have hE : er_buy F i x ≠ 0 ∧ exN ((erI 4 i)) = exN (er_buy F i x) := by  simp [er_buy, h2, erI_1 h2]
    have hm' := hm hE.1
    exact x_gone X hlk hnt cn w (xw_runV (n := 1) (As := [.int i]) X cn w (lt17 (by decide)) wC_0 rfl (fun sz => c_X4_paperOf l D ca ad E F L S n hlt i 1 6 (fun _ => ⟨Nat.le_refl 1, Nat.le_refl 6⟩) sz) (bg_V kw_278 kw_280 kw_5 kw_31 kw_281) rfl rfl (by decide +kernel) ⟨(Nat.le_of_ble_eq_true rfl), (Nat.le_of_ble_eq_true rfl)⟩ rfl hl.1 rfl (Nat.le_of_ble_eq_true rfl) dX4_buy_2 ⟨hm'.1, hm'.2⟩) (fun st v t hq => by obtain ⟨⟨r, u, -, hp, -⟩, -⟩ := hq; exact h2 hp.1) hE.2 hE.1 (fun u hu => hu) hm rfl rfl

set_option maxHeartbeats 4000000 in
set_option maxRecDepth 100000 in
theorem c_X4_ofPaper (l : Launch) (D : va_G) (ca : Nat → ClassId) (ad : Nat → Nat) (E : Em) (F : Fm) (L : Lm) (S : Sm) (n : Nat) (hlt : l.stackTraces = false) (q : Nat → Nat) (wf : Wf F L S n q) (i x : Int32) (mc ms : Nat) (hm : er_ofPaper i x ≠ 0 → 1 ≤ mc ∧ 6 ≤ ms) (sz : Nat) : vx_Met l yX4_ofPaper (.code yX4_ofPaper cX4_ofPaper 4 (some .int) :: BG) { frames := 7, cells := mc, slots := ms, locals := 139 } (Pw D ca ad (E, F, L, S, n) sz [.ref (ad 0), .int i, .int x]) (Qi D ca ad n (fun r u => er_ofPaper i x = 0 ∧ r = s_ofPaper F L S q (2 + i.toNatClampNeg) x ∧ u.2 = (F, L, S, n)) sz) (Xq D ca ad n (er_ofPaper i x) (fun u => u.2 = (F, L, S, n)) sz) mc ms (wA ad n sz) := by
  refine open_X (σ := (E, F, L, S, n)) (Qc := Qi D ca ad n (fun r u => er_ofPaper i x = 0 ∧ r = s_ofPaper F L S q (2 + i.toNatClampNeg) x ∧ u.2 = (F, L, S, n))) (XC := Xq D ca ad n (er_ofPaper i x) (fun u => u.2 = (F, L, S, n))) (by decide +kernel) (Nat.le_of_ble_eq_true rfl) ?_
  intro p e s m args below meth c X hr hlk hnt w cn ls hl
  have hl : lv_has ls 4 [(0, .ref (ad 0)), (1, .int i), (2, .int x)] := hl
  have hs := wf.2.2.1
  have hJ := wf.2.1.2
  refine lv_aload_n X.1 X.2.1 dX4_ofPaper_0 rfl (lv_at hl 0 rfl) ?_
  refine lv_iload_n X.1 X.2.1 dX4_ofPaper_1 rfl (lv_at hl 1 rfl) ?_
  by_cases h2 : (erI 4 i) = 0
  ·
    refine w_callr cn w (w_runV (n := 1) (As := [.int i]) X cn w (lt17 (by decide)) wC_0 rfl (fun sz => met_of (c_X4_paperOf l D ca ad E F L S n hlt i 0 0 (fun h => (h h2).elim) sz) h2) (bg_V kw_278 kw_280 kw_5 kw_31 kw_281) rfl rfl (by decide +kernel) ⟨(Nat.le_of_ble_eq_true rfl), (Nat.le_of_ble_eq_true rfl)⟩ rfl hl.1 rfl (Nat.le_of_ble_eq_true rfl) dX4_ofPaper_2 ⟨(Nat.zero_le _), (Nat.zero_le _)⟩) (fun r1 u H locs hp w => ?_)
    obtain ⟨-, rfl, rfl⟩ := hp
    refine W.eq (g2 := F0 m 5 ls [.ref (ad (2 + i.toNatClampNeg))]) rfl ?_
    refine lv_astore_n (lv' := [(3, .ref (ad (2 + i.toNatClampNeg))), (0, .ref (ad 0)), (1, .int i), (2, .int x)]) X.1 X.2.1 dX4_ofPaper_5 rfl hl (by decide) rfl (fun ls hl => ?_)
    refine lv_iload_n X.1 X.2.1 dX4_ofPaper_6 rfl (lv_at hl 3 rfl) ?_
    rcases tab_cases x 5 with c3 | ⟨c3n, c3l, c3⟩
    ·
      have c3 : x.toInt < 0 ∨ 5 < x.toInt := c3
      refine lv_tableOut (tgt := 76) X.1 X.2.1 dX4_ofPaper_7 c3 (by decide) ?_
      exact x_throw2 (k := 104) (tx := "of a paper one asks 0 to 5") hlt X rfl hlk hnt cn w hl.1 (by decide +kernel) (by  simp [er_ofPaper, erW, h2, c3]) rfl hm dX4_ofPaper_76 dX4_ofPaper_79 dX4_ofPaper_80 dX4_ofPaper_82 dX4_ofPaper_85 (Nat.le_of_ble_eq_true rfl) (Nat.le_of_ble_eq_true rfl) rfl rfl rfl rfl
    ·
      rcases (show c3n = 0 ∨ c3n = 1 ∨ c3n = 2 ∨ c3n = 3 ∨ c3n = 4 ∨ c3n = 5 by omega) with rfl | rfl | rfl | rfl | rfl | rfl
      ·
        refine lv_tableIn (tgt := 44) X.1 X.2.1 dX4_ofPaper_7 (by rw [c3]; decide) (by rw [c3]; decide) (by rw [c3]; rfl) (by decide) ?_
        refine lv_aload_n X.1 X.2.1 dX4_ofPaper_44 rfl (lv_at hl 0 rfl) ?_
        refine gn_P X cn w (pap_in (in_erI h2)) 0 (by decide) (v := .int (F (2 + i.toNatClampNeg) 0)) rfl kw_61 dX4_ofPaper_45 ?_
        exact vx_ret (w_iret X hr hlk w (by  exact ⟨by simp [er_ofPaper, erW, h2, c3], by simp [s_ofPaper, h2, c3], rfl⟩) dX4_ofPaper_48 rfl (Nat.zero_le _) (Nat.zero_le _))
      ·
        refine lv_tableIn (tgt := 49) X.1 X.2.1 dX4_ofPaper_7 (by rw [c3]; decide) (by rw [c3]; decide) (by rw [c3]; rfl) (by decide) ?_
        refine lv_aload_n X.1 X.2.1 dX4_ofPaper_49 rfl (lv_at hl 0 rfl) ?_
        refine gn_P X cn w (pap_in (in_erI h2)) 1 (by decide) (v := .int (F (2 + i.toNatClampNeg) 1)) rfl kw_64 dX4_ofPaper_50 ?_
        exact vx_ret (w_iret X hr hlk w (by  exact ⟨by simp [er_ofPaper, erW, h2, c3], by simp [s_ofPaper, h2, c3], rfl⟩) dX4_ofPaper_53 rfl (Nat.zero_le _) (Nat.zero_le _))
      ·
        refine lv_tableIn (tgt := 54) X.1 X.2.1 dX4_ofPaper_7 (by rw [c3]; decide) (by rw [c3]; decide) (by rw [c3]; rfl) (by decide) ?_
        refine lv_aload_n X.1 X.2.1 dX4_ofPaper_54 rfl (lv_at hl 0 rfl) ?_
        refine gn_P X cn w (pap_in (in_erI h2)) 2 (by decide) (v := .int (F (2 + i.toNatClampNeg) 2)) rfl kw_66 dX4_ofPaper_55 ?_
        exact vx_ret (w_iret X hr hlk w (by  exact ⟨by simp [er_ofPaper, erW, h2, c3], by simp [s_ofPaper, h2, c3], rfl⟩) dX4_ofPaper_58 rfl (Nat.zero_le _) (Nat.zero_le _))
      ·
        refine lv_tableIn (tgt := 59) X.1 X.2.1 dX4_ofPaper_7 (by rw [c3]; decide) (by rw [c3]; decide) (by rw [c3]; rfl) (by decide) ?_
        refine lv_aload_n X.1 X.2.1 dX4_ofPaper_59 rfl (lv_at hl 0 rfl) ?_
        refine gn_P X cn w (pap_in (in_erI h2)) 3 (by decide) (v := .int (F (2 + i.toNatClampNeg) 3)) rfl kw_68 dX4_ofPaper_60 ?_
        exact vx_ret (w_iret X hr hlk w (by  exact ⟨by simp [er_ofPaper, erW, h2, c3], by simp [s_ofPaper, h2, c3], rfl⟩) dX4_ofPaper_63 rfl (Nat.zero_le _) (Nat.zero_le _))
      ·
        refine lv_tableIn (tgt := 64) X.1 X.2.1 dX4_ofPaper_7 (by rw [c3]; decide) (by rw [c3]; decide) (by rw [c3]; rfl) (by decide) ?_
        refine lv_aload_n X.1 X.2.1 dX4_ofPaper_64 rfl (lv_at hl 1 rfl) ?_
        refine lv_aload_n X.1 X.2.1 dX4_ofPaper_65 rfl (lv_at hl 0 rfl) ?_
        refine w_calli cn w (w_runV (n := 1) (As := [.ref (ad (2 + i.toNatClampNeg))]) X cn w (lt17 (by decide)) wC_0 rfl (fun sz => c_X4_forecastOf l D ca ad E F L S n q wf (2 + i.toNatClampNeg) (pap_in (in_erI h2)) sz) (bg_V kw_298 kw_300 kw_6 kw_31 kw_301) rfl rfl (by decide +kernel) ⟨(Nat.le_of_ble_eq_true rfl), (Nat.le_of_ble_eq_true rfl)⟩ rfl hl.1 rfl (Nat.le_of_ble_eq_true rfl) dX4_ofPaper_66 ⟨(Nat.zero_le _), (Nat.zero_le _)⟩) (fun r4 u H locs hp w => ?_)
        obtain ⟨E5, q6⟩ := u
        obtain ⟨rfl, h7⟩ := hp
        have h7 : q6 = (F, L, S, n) := h7
        subst h7
        exact vx_ret (w_iret X hr hlk w (by  exact ⟨by simp [er_ofPaper, erW, h2, c3], by simp [s_ofPaper, h2, c3], rfl⟩) dX4_ofPaper_69 rfl (Nat.zero_le _) (Nat.zero_le _))
      ·
        refine lv_tableIn (tgt := 70) X.1 X.2.1 dX4_ofPaper_7 (by rw [c3]; decide) (by rw [c3]; decide) (by rw [c3]; rfl) (by decide) ?_
        refine lv_aload_n X.1 X.2.1 dX4_ofPaper_70 rfl (lv_at hl 1 rfl) ?_
        refine lv_aload_n X.1 X.2.1 dX4_ofPaper_71 rfl (lv_at hl 0 rfl) ?_
        refine w_calli cn w (w_runV (n := 1) (As := [.ref (ad (2 + i.toNatClampNeg))]) X cn w (lt17 (by decide)) wC_0 rfl (fun sz => c_X4_shortOf l D ca ad E F L S n q wf (2 + i.toNatClampNeg) (pap_in (in_erI h2)) sz) (bg_V kw_347 kw_349 kw_13 kw_31 kw_350) rfl rfl (by decide +kernel) ⟨(Nat.le_of_ble_eq_true rfl), (Nat.le_of_ble_eq_true rfl)⟩ rfl hl.1 rfl (Nat.le_of_ble_eq_true rfl) dX4_ofPaper_72 ⟨(Nat.zero_le _), (Nat.zero_le _)⟩) (fun r8 u H locs hp w => ?_)
        obtain ⟨E9, q10⟩ := u
        obtain ⟨rfl, h11⟩ := hp
        have h11 : q10 = (F, L, S, n) := h11
        subst h11
        exact vx_ret (w_iret X hr hlk w (by  exact ⟨by simp [er_ofPaper, erW, h2, c3], by simp [s_ofPaper, h2, c3], rfl⟩) dX4_ofPaper_75 rfl (Nat.zero_le _) (Nat.zero_le _))
  ·
    have hE : er_ofPaper i x ≠ 0 ∧ exN ((erI 4 i)) = exN (er_ofPaper i x) := by  simp [er_ofPaper, erW, h2, erI_1 h2]
    have hm' := hm hE.1
    exact x_gone X hlk hnt cn w (xw_runV (n := 1) (As := [.int i]) X cn w (lt17 (by decide)) wC_0 rfl (fun sz => c_X4_paperOf l D ca ad E F L S n hlt i 1 6 (fun _ => ⟨Nat.le_refl 1, Nat.le_refl 6⟩) sz) (bg_V kw_278 kw_280 kw_5 kw_31 kw_281) rfl rfl (by decide +kernel) ⟨(Nat.le_of_ble_eq_true rfl), (Nat.le_of_ble_eq_true rfl)⟩ rfl hl.1 rfl (Nat.le_of_ble_eq_true rfl) dX4_ofPaper_2 ⟨hm'.1, hm'.2⟩) (fun st v t hq => by obtain ⟨⟨r, u, -, hp, -⟩, -⟩ := hq; exact h2 hp.1) hE.2 hE.1 (fun u hu => hu) hm rfl rfl

set_option maxHeartbeats 4000000 in
set_option maxRecDepth 100000 in
theorem c_X4_ofJob (l : Launch) (D : va_G) (ca : Nat → ClassId) (ad : Nat → Nat) (E : Em) (F : Fm) (L : Lm) (S : Sm) (n : Nat) (hlt : l.stackTraces = false) (q : Nat → Nat) (wf : Wf F L S n q) (i x : Int32) (mc ms : Nat) (hm : er_ofJob n i x ≠ 0 → 1 ≤ mc ∧ 6 ≤ ms) (sz : Nat) : vx_Met l yX4_ofJob (.code yX4_ofJob cX4_ofJob 4 (some .int) :: BG) { frames := 7, cells := mc, slots := ms, locals := 117 } (Pw D ca ad (E, F, L, S, n) sz [.ref (ad 0), .int i, .int x]) (Qi D ca ad n (fun r u => er_ofJob n i x = 0 ∧ r = s_ofJob F i.toNatClampNeg x ∧ u.2 = (F, L, S, n)) sz) (Xq D ca ad n (er_ofJob n i x) (fun u => u.2 = (F, L, S, n)) sz) mc ms (wA ad n sz) := by
  refine open_X (σ := (E, F, L, S, n)) (Qc := Qi D ca ad n (fun r u => er_ofJob n i x = 0 ∧ r = s_ofJob F i.toNatClampNeg x ∧ u.2 = (F, L, S, n))) (XC := Xq D ca ad n (er_ofJob n i x) (fun u => u.2 = (F, L, S, n))) (by decide +kernel) (Nat.le_of_ble_eq_true rfl) ?_
  intro p e s m args below meth c X hr hlk hnt w cn ls hl
  have hl : lv_has ls 4 [(0, .ref (ad 0)), (1, .int i), (2, .int x)] := hl
  have hs := wf.2.2.1
  have hJ := wf.2.1.2
  refine lv_aload_n X.1 X.2.1 dX4_ofJob_0 rfl (lv_at hl 0 rfl) ?_
  refine lv_iload_n X.1 X.2.1 dX4_ofJob_1 rfl (lv_at hl 1 rfl) ?_
  by_cases h2 : (erI n i) = 0
  ·
    refine w_callr cn w (w_runV (n := 1) (As := [.int i]) X cn w (lt17 (by decide)) wC_0 rfl (fun sz => met_of (c_X4_jobOf l D ca ad E F L S n hlt wf.2.1.2 wf.1 i 0 0 (fun h => (h h2).elim) sz) h2) (bg_V kw_384 kw_386 kw_18 kw_31 kw_387) rfl rfl (by decide +kernel) ⟨(Nat.le_of_ble_eq_true rfl), (Nat.le_of_ble_eq_true rfl)⟩ rfl hl.1 rfl (Nat.le_of_ble_eq_true rfl) dX4_ofJob_2 ⟨(Nat.zero_le _), (Nat.zero_le _)⟩) (fun r1 u H locs hp w => ?_)
    obtain ⟨-, rfl, rfl⟩ := hp
    refine W.eq (g2 := F0 m 5 ls [.ref (ad (17 + i.toNatClampNeg))]) rfl ?_
    refine lv_astore_n (lv' := [(3, .ref (ad (17 + i.toNatClampNeg))), (0, .ref (ad 0)), (1, .int i), (2, .int x)]) X.1 X.2.1 dX4_ofJob_5 rfl hl (by decide) rfl (fun ls hl => ?_)
    refine lv_iload_n X.1 X.2.1 dX4_ofJob_6 rfl (lv_at hl 3 rfl) ?_
    rcases tab_cases x 12 with c3 | ⟨c3n, c3l, c3⟩
    ·
      have c3 : x.toInt < 0 ∨ 12 < x.toInt := c3
      refine lv_tableOut (tgt := 145) X.1 X.2.1 dX4_ofJob_7 c3 (by decide) ?_
      exact x_throw2 (k := 204) (tx := "of a job one asks 0 to 12") hlt X rfl hlk hnt cn w hl.1 (by decide +kernel) (by  simp [er_ofJob, erW, h2, c3]) rfl hm dX4_ofJob_145 dX4_ofJob_148 dX4_ofJob_149 dX4_ofJob_151 dX4_ofJob_154 (Nat.le_of_ble_eq_true rfl) (Nat.le_of_ble_eq_true rfl) rfl rfl rfl rfl
    ·
      rcases (show c3n = 0 ∨ c3n = 1 ∨ c3n = 2 ∨ c3n = 3 ∨ c3n = 4 ∨ c3n = 5 ∨ c3n = 6 ∨ c3n = 7 ∨ c3n = 8 ∨ c3n = 9 ∨ c3n = 10 ∨ c3n = 11 ∨ c3n = 12 by omega) with rfl | rfl | rfl | rfl | rfl | rfl | rfl | rfl | rfl | rfl | rfl | rfl | rfl
      ·
        refine lv_tableIn (tgt := 72) X.1 X.2.1 dX4_ofJob_7 (by rw [c3]; decide) (by rw [c3]; decide) (by rw [c3]; rfl) (by decide) ?_
        refine lv_aload_n X.1 X.2.1 dX4_ofJob_72 rfl (lv_at hl 0 rfl) ?_
        refine gn_J X cn w (cl_lt (in_erI h2)) 1 (by decide) (v := .int (F (17 + i.toNatClampNeg) 1)) rfl kw_466 dX4_ofJob_73 ?_
        exact vx_ret (w_iret X hr hlk w (by  exact ⟨by simp [er_ofJob, erW, h2, c3], by simp [s_ofJob, h2, c3], rfl⟩) dX4_ofJob_76 rfl (Nat.zero_le _) (Nat.zero_le _))
      ·
        refine lv_tableIn (tgt := 77) X.1 X.2.1 dX4_ofJob_7 (by rw [c3]; decide) (by rw [c3]; decide) (by rw [c3]; rfl) (by decide) ?_
        refine lv_aload_n X.1 X.2.1 dX4_ofJob_77 rfl (lv_at hl 0 rfl) ?_
        refine gn_J X cn w (cl_lt (in_erI h2)) 3 (by decide) (v := .int (F (17 + i.toNatClampNeg) 3)) rfl kw_470 dX4_ofJob_78 ?_
        exact vx_ret (w_iret X hr hlk w (by  exact ⟨by simp [er_ofJob, erW, h2, c3], by simp [s_ofJob, h2, c3], rfl⟩) dX4_ofJob_81 rfl (Nat.zero_le _) (Nat.zero_le _))
      ·
        refine lv_tableIn (tgt := 82) X.1 X.2.1 dX4_ofJob_7 (by rw [c3]; decide) (by rw [c3]; decide) (by rw [c3]; rfl) (by decide) ?_
        refine lv_aload_n X.1 X.2.1 dX4_ofJob_82 rfl (lv_at hl 0 rfl) ?_
        refine gn_J X cn w (cl_lt (in_erI h2)) 4 (by decide) (v := .int (F (17 + i.toNatClampNeg) 4)) rfl kw_473 dX4_ofJob_83 ?_
        exact vx_ret (w_iret X hr hlk w (by  exact ⟨by simp [er_ofJob, erW, h2, c3], by simp [s_ofJob, h2, c3], rfl⟩) dX4_ofJob_86 rfl (Nat.zero_le _) (Nat.zero_le _))
      ·
        refine lv_tableIn (tgt := 87) X.1 X.2.1 dX4_ofJob_7 (by rw [c3]; decide) (by rw [c3]; decide) (by rw [c3]; rfl) (by decide) ?_
        refine lv_aload_n X.1 X.2.1 dX4_ofJob_87 rfl (lv_at hl 0 rfl) ?_
        refine gn_J X cn w (cl_lt (in_erI h2)) 5 (by decide) (v := .int (F (17 + i.toNatClampNeg) 5)) rfl kw_475 dX4_ofJob_88 ?_
        exact vx_ret (w_iret X hr hlk w (by  exact ⟨by simp [er_ofJob, erW, h2, c3], by simp [s_ofJob, h2, c3], rfl⟩) dX4_ofJob_91 rfl (Nat.zero_le _) (Nat.zero_le _))
      ·
        refine lv_tableIn (tgt := 92) X.1 X.2.1 dX4_ofJob_7 (by rw [c3]; decide) (by rw [c3]; decide) (by rw [c3]; rfl) (by decide) ?_
        refine lv_aload_n X.1 X.2.1 dX4_ofJob_92 rfl (lv_at hl 0 rfl) ?_
        refine gn_J X cn w (cl_lt (in_erI h2)) 6 (by decide) (v := .int (F (17 + i.toNatClampNeg) 6)) rfl kw_477 dX4_ofJob_93 ?_
        refine lv_if_eq (tgt := 103) X.1 X.2.1 dX4_ofJob_96 (by decide) (fun c4 => ?_) (fun c4 => ?_)
        ·
          refine lv_iconst (v := 0) X.1 X.2.1 dX4_ofJob_103 (by decide) ?_
          exact vx_ret (w_iret X hr hlk w (by  exact ⟨by simp [er_ofJob, erW, h2, c3, c4], by simp [s_ofJob, h2, c3, c4], rfl⟩) dX4_ofJob_104 rfl (Nat.zero_le _) (Nat.zero_le _))
        ·
          refine lv_iconst (v := 1) X.1 X.2.1 dX4_ofJob_99 (by decide) ?_
          refine lv_goto (tgt := 104) X.1 X.2.1 dX4_ofJob_100 (by decide) ?_
          exact vx_ret (w_iret X hr hlk w (by  exact ⟨by simp [er_ofJob, erW, h2, c3, c4], by simp [s_ofJob, h2, c3, c4], rfl⟩) dX4_ofJob_104 rfl (Nat.zero_le _) (Nat.zero_le _))
      ·
        refine lv_tableIn (tgt := 105) X.1 X.2.1 dX4_ofJob_7 (by rw [c3]; decide) (by rw [c3]; decide) (by rw [c3]; rfl) (by decide) ?_
        refine lv_aload_n X.1 X.2.1 dX4_ofJob_105 rfl (lv_at hl 0 rfl) ?_
        refine gn_J X cn w (cl_lt (in_erI h2)) 7 (by decide) (v := .int (F (17 + i.toNatClampNeg) 7)) rfl kw_479 dX4_ofJob_106 ?_
        exact vx_ret (w_iret X hr hlk w (by  exact ⟨by simp [er_ofJob, erW, h2, c3], by simp [s_ofJob, h2, c3], rfl⟩) dX4_ofJob_109 rfl (Nat.zero_le _) (Nat.zero_le _))
      ·
        refine lv_tableIn (tgt := 110) X.1 X.2.1 dX4_ofJob_7 (by rw [c3]; decide) (by rw [c3]; decide) (by rw [c3]; rfl) (by decide) ?_
        refine lv_aload_n X.1 X.2.1 dX4_ofJob_110 rfl (lv_at hl 0 rfl) ?_
        refine gn_J X cn w (cl_lt (in_erI h2)) 8 (by decide) (v := .int (F (17 + i.toNatClampNeg) 8)) rfl kw_481 dX4_ofJob_111 ?_
        exact vx_ret (w_iret X hr hlk w (by  exact ⟨by simp [er_ofJob, erW, h2, c3], by simp [s_ofJob, h2, c3], rfl⟩) dX4_ofJob_114 rfl (Nat.zero_le _) (Nat.zero_le _))
      ·
        refine lv_tableIn (tgt := 115) X.1 X.2.1 dX4_ofJob_7 (by rw [c3]; decide) (by rw [c3]; decide) (by rw [c3]; rfl) (by decide) ?_
        refine lv_aload_n X.1 X.2.1 dX4_ofJob_115 rfl (lv_at hl 0 rfl) ?_
        refine gn_J X cn w (cl_lt (in_erI h2)) 10 (by decide) (v := .int (F (17 + i.toNatClampNeg) 10)) rfl kw_485 dX4_ofJob_116 ?_
        exact vx_ret (w_iret X hr hlk w (by  exact ⟨by simp [er_ofJob, erW, h2, c3], by simp [s_ofJob, h2, c3], rfl⟩) dX4_ofJob_119 rfl (Nat.zero_le _) (Nat.zero_le _))
      ·
        refine lv_tableIn (tgt := 120) X.1 X.2.1 dX4_ofJob_7 (by rw [c3]; decide) (by rw [c3]; decide) (by rw [c3]; rfl) (by decide) ?_
        refine lv_aload_n X.1 X.2.1 dX4_ofJob_120 rfl (lv_at hl 0 rfl) ?_
        refine w_calli cn w (w_runVN (n := 0) (As := []) X cn w (Nat.add_lt_add_left (cl_lt (in_erI h2)) 17) wC_J rfl (fun sz => c_X1_sheets l D ca ad E F L S n i.toNatClampNeg (cl_lt (in_erI h2)) sz) kw_314 kw_316 kw_10 kw_42 kw_318 rfl rfl (by decide +kernel) ⟨(Nat.le_of_ble_eq_true rfl), (Nat.le_of_ble_eq_true rfl)⟩ rfl hl.1 rfl (Nat.le_of_ble_eq_true rfl) dX4_ofJob_121 ⟨(Nat.zero_le _), (Nat.zero_le _)⟩) (fun r5 u H locs hp w => ?_)
        obtain ⟨rfl, rfl⟩ := hp
        exact vx_ret (w_iret X hr hlk w (by  exact ⟨by simp [er_ofJob, erW, h2, c3], by simp [s_ofJob, h2, c3], rfl⟩) dX4_ofJob_124 rfl (Nat.zero_le _) (Nat.zero_le _))
      ·
        refine lv_tableIn (tgt := 125) X.1 X.2.1 dX4_ofJob_7 (by rw [c3]; decide) (by rw [c3]; decide) (by rw [c3]; rfl) (by decide) ?_
        refine lv_aload_n X.1 X.2.1 dX4_ofJob_125 rfl (lv_at hl 0 rfl) ?_
        refine gn_J X cn w (cl_lt (in_erI h2)) 11 (by decide) (v := .int (F (17 + i.toNatClampNeg) 11)) rfl kw_487 dX4_ofJob_126 ?_
        exact vx_ret (w_iret X hr hlk w (by  exact ⟨by simp [er_ofJob, erW, h2, c3], by simp [s_ofJob, h2, c3], rfl⟩) dX4_ofJob_129 rfl (Nat.zero_le _) (Nat.zero_le _))
      ·
        refine lv_tableIn (tgt := 130) X.1 X.2.1 dX4_ofJob_7 (by rw [c3]; decide) (by rw [c3]; decide) (by rw [c3]; rfl) (by decide) ?_
        refine lv_aload_n X.1 X.2.1 dX4_ofJob_130 rfl (lv_at hl 0 rfl) ?_
        refine gn_J X cn w (cl_lt (in_erI h2)) 12 (by decide) (v := .int (F (17 + i.toNatClampNeg) 12)) rfl kw_488 dX4_ofJob_131 ?_
        exact vx_ret (w_iret X hr hlk w (by  exact ⟨by simp [er_ofJob, erW, h2, c3], by simp [s_ofJob, h2, c3], rfl⟩) dX4_ofJob_134 rfl (Nat.zero_le _) (Nat.zero_le _))
      ·
        refine lv_tableIn (tgt := 135) X.1 X.2.1 dX4_ofJob_7 (by rw [c3]; decide) (by rw [c3]; decide) (by rw [c3]; rfl) (by decide) ?_
        refine lv_aload_n X.1 X.2.1 dX4_ofJob_135 rfl (lv_at hl 0 rfl) ?_
        refine gn_J X cn w (cl_lt (in_erI h2)) 13 (by decide) (v := .int (F (17 + i.toNatClampNeg) 13)) rfl kw_489 dX4_ofJob_136 ?_
        exact vx_ret (w_iret X hr hlk w (by  exact ⟨by simp [er_ofJob, erW, h2, c3], by simp [s_ofJob, h2, c3], rfl⟩) dX4_ofJob_139 rfl (Nat.zero_le _) (Nat.zero_le _))
      ·
        refine lv_tableIn (tgt := 140) X.1 X.2.1 dX4_ofJob_7 (by rw [c3]; decide) (by rw [c3]; decide) (by rw [c3]; rfl) (by decide) ?_
        refine lv_aload_n X.1 X.2.1 dX4_ofJob_140 rfl (lv_at hl 0 rfl) ?_
        refine gn_J X cn w (cl_lt (in_erI h2)) 9 (by decide) (v := .int (F (17 + i.toNatClampNeg) 9)) rfl kw_483 dX4_ofJob_141 ?_
        exact vx_ret (w_iret X hr hlk w (by  exact ⟨by simp [er_ofJob, erW, h2, c3], by simp [s_ofJob, h2, c3], rfl⟩) dX4_ofJob_144 rfl (Nat.zero_le _) (Nat.zero_le _))
  ·
    have hE : er_ofJob n i x ≠ 0 ∧ exN ((erI n i)) = exN (er_ofJob n i x) := by  simp [er_ofJob, erW, h2, erI_1 h2]
    have hm' := hm hE.1
    exact x_gone X hlk hnt cn w (xw_runV (n := 1) (As := [.int i]) X cn w (lt17 (by decide)) wC_0 rfl (fun sz => c_X4_jobOf l D ca ad E F L S n hlt wf.2.1.2 wf.1 i 1 6 (fun _ => ⟨Nat.le_refl 1, Nat.le_refl 6⟩) sz) (bg_V kw_384 kw_386 kw_18 kw_31 kw_387) rfl rfl (by decide +kernel) ⟨(Nat.le_of_ble_eq_true rfl), (Nat.le_of_ble_eq_true rfl)⟩ rfl hl.1 rfl (Nat.le_of_ble_eq_true rfl) dX4_ofJob_2 ⟨hm'.1, hm'.2⟩) (fun st v t hq => by obtain ⟨⟨r, u, -, hp, -⟩, -⟩ := hq; exact h2 hp.1) hE.2 hE.1 (fun u hu => hu) hm rfl rfl

set_option maxHeartbeats 4000000 in
set_option maxRecDepth 100000 in
theorem c_X4_expected (l : Launch) (D : va_G) (ca : Nat → ClassId) (ad : Nat → Nat) (E : Em) (F : Fm) (L : Lm) (S : Sm) (n : Nat) (hlt : l.stackTraces = false) (q : Nat → Nat) (wf : Wf F L S n q) (i r x : Int32) (mc ms : Nat) (hm : er_expected n i r x ≠ 0 → 1 ≤ mc ∧ 6 ≤ ms) (sz : Nat) : vx_Met l yX4_expected (.code yX4_expected cX4_expected 7 (some .int) :: BG) { frames := 7, cells := mc, slots := ms, locals := 117 } (Pw D ca ad (E, F, L, S, n) sz [.ref (ad 0), .int i, .int r, .int x]) (Qi D ca ad n (fun v u => er_expected n i r x = 0 ∧ v = s_expected F S i.toNatClampNeg (6 + r.toNatClampNeg) x ∧ u.2 = (F, L, S, n)) sz) (Xq D ca ad n (er_expected n i r x) (fun u => u.2 = (F, L, S, n)) sz) mc ms (wA ad n sz) := by
  refine open_X (σ := (E, F, L, S, n)) (Qc := Qi D ca ad n (fun v u => er_expected n i r x = 0 ∧ v = s_expected F S i.toNatClampNeg (6 + r.toNatClampNeg) x ∧ u.2 = (F, L, S, n))) (XC := Xq D ca ad n (er_expected n i r x) (fun u => u.2 = (F, L, S, n))) (by decide +kernel) (Nat.le_of_ble_eq_true rfl) ?_
  intro p e s m args below meth c X hr hlk hnt w cn ls hl
  have hl : lv_has ls 7 [(0, .ref (ad 0)), (1, .int i), (2, .int r), (3, .int x)] := hl
  have hs := wf.2.2.1
  have hJ := wf.2.1.2
  refine lv_aload_n X.1 X.2.1 dX4_expected_0 rfl (lv_at hl 0 rfl) ?_
  refine lv_iload_n X.1 X.2.1 dX4_expected_1 rfl (lv_at hl 1 rfl) ?_
  by_cases h2 : (erI n i) = 0
  ·
    refine w_callr cn w (w_runV (n := 1) (As := [.int i]) X cn w (lt17 (by decide)) wC_0 rfl (fun sz => met_of (c_X4_jobOf l D ca ad E F L S n hlt wf.2.1.2 wf.1 i 0 0 (fun h => (h h2).elim) sz) h2) (bg_V kw_384 kw_386 kw_18 kw_31 kw_387) rfl rfl (by decide +kernel) ⟨(Nat.le_of_ble_eq_true rfl), (Nat.le_of_ble_eq_true rfl)⟩ rfl hl.1 rfl (Nat.le_of_ble_eq_true rfl) dX4_expected_2 ⟨(Nat.zero_le _), (Nat.zero_le _)⟩) (fun r1 u H locs hp w => ?_)
    obtain ⟨-, rfl, rfl⟩ := hp
    refine W.eq (g2 := F0 m 5 ls [.ref (ad (17 + i.toNatClampNeg))]) rfl ?_
    refine lv_astore (lv' := [(4, .ref (ad (17 + i.toNatClampNeg))), (0, .ref (ad 0)), (1, .int i), (2, .int r), (3, .int x)]) X.1 X.2.1 dX4_expected_5 hl (by decide) rfl (fun ls hl => ?_)
    refine lv_aload_n X.1 X.2.1 dX4_expected_7 rfl (lv_at hl 1 rfl) ?_
    refine lv_iload_n X.1 X.2.1 dX4_expected_8 rfl (lv_at hl 3 rfl) ?_
    by_cases h4 : (erI 3 r) = 0
    ·
      refine w_callr cn w (w_runV (n := 1) (As := [.int r]) X cn w (lt17 (by decide)) wC_0 rfl (fun sz => met_of (c_X4_pressOf l D ca ad E F L S n hlt r 0 0 (fun h => (h h4).elim) sz) h4) (bg_V kw_361 kw_363 kw_15 kw_31 kw_364) rfl rfl (by decide +kernel) ⟨(Nat.le_of_ble_eq_true rfl), (Nat.le_of_ble_eq_true rfl)⟩ rfl hl.1 rfl (Nat.le_of_ble_eq_true rfl) dX4_expected_9 ⟨(Nat.zero_le _), (Nat.zero_le _)⟩) (fun r3 u H locs hp w => ?_)
      obtain ⟨-, rfl, rfl⟩ := hp
      refine W.eq (g2 := F0 m 12 ls [.ref (ad (6 + r.toNatClampNeg))]) rfl ?_
      refine lv_astore (lv' := [(5, .ref (ad (6 + r.toNatClampNeg))), (4, .ref (ad (17 + i.toNatClampNeg))), (0, .ref (ad 0)), (1, .int i), (2, .int r), (3, .int x)]) X.1 X.2.1 dX4_expected_12 hl (by decide) rfl (fun ls hl => ?_)
      refine lv_aload_n X.1 X.2.1 dX4_expected_14 rfl (lv_at hl 2 rfl) ?_
      refine lv_aload X.1 X.2.1 dX4_expected_15 (lv_at hl 1 rfl) ?_
      refine lv_aload X.1 X.2.1 dX4_expected_17 (lv_at hl 0 rfl) ?_
      refine lv_aload X.1 X.2.1 dX4_expected_19 (lv_at hl 0 rfl) ?_
      refine gn_R X cn w (prs_in (in_erI h4)) 1 (by decide) (v := .int (F (6 + r.toNatClampNeg) 1)) rfl kw_91 dX4_expected_21 ?_
      refine w_callr cn w (w_runV (n := 3) (As := [.ref (ad (17 + i.toNatClampNeg)), .ref (ad (6 + r.toNatClampNeg)), .int (F (6 + r.toNatClampNeg) 1)]) X cn w (lt17 (by decide)) wC_0 rfl (fun sz => c_X4_expect l D ca ad E F L S n i.toNatClampNeg (cl_lt (in_erI h2)) (6 + r.toNatClampNeg) (prs_in (in_erI h4)) (F (6 + r.toNatClampNeg) 1) hs sz) (bg_V kw_310 kw_312 kw_9 kw_31 kw_313) rfl rfl (by decide +kernel) ⟨(Nat.le_of_ble_eq_true rfl), (Nat.le_of_ble_eq_true rfl)⟩ rfl hl.1 rfl (Nat.le_of_ble_eq_true rfl) dX4_expected_24 ⟨(Nat.zero_le _), (Nat.zero_le _)⟩) (fun r5 u H locs hp w => ?_)
      obtain ⟨rfl, rfl⟩ := hp
      refine W.eq (g2 := F0 m 27 ls [.ref (ad 1)]) rfl ?_
      refine lv_astore (lv' := [(6, .ref (ad 1)), (5, .ref (ad (6 + r.toNatClampNeg))), (4, .ref (ad (17 + i.toNatClampNeg))), (0, .ref (ad 0)), (1, .int i), (2, .int r), (3, .int x)]) X.1 X.2.1 dX4_expected_27 hl (by decide) rfl (fun ls hl => ?_)
      refine lv_iload_n X.1 X.2.1 dX4_expected_29 rfl (lv_at hl 6 rfl) ?_
      rcases tab_cases x 6 with c6 | ⟨c6n, c6l, c6⟩
      ·
        have c6 : x.toInt < 0 ∨ 6 < x.toInt := c6
        refine lv_tableOut (tgt := 114) X.1 X.2.1 dX4_expected_30 c6 (by decide) ?_
        exact x_throw2 (k := 224) (tx := "of what is expected one asks 0 to 6") hlt X rfl hlk hnt cn w hl.1 (by decide +kernel) (by  simp [er_expected, erW, h2, h4, c6]) rfl hm dX4_expected_114 dX4_expected_117 dX4_expected_118 dX4_expected_120 dX4_expected_123 (Nat.le_of_ble_eq_true rfl) (Nat.le_of_ble_eq_true rfl) rfl rfl rfl rfl
      ·
        rcases (show c6n = 0 ∨ c6n = 1 ∨ c6n = 2 ∨ c6n = 3 ∨ c6n = 4 ∨ c6n = 5 ∨ c6n = 6 by omega) with rfl | rfl | rfl | rfl | rfl | rfl | rfl
        ·
          refine lv_tableIn (tgt := 72) X.1 X.2.1 dX4_expected_30 (by rw [c6]; decide) (by rw [c6]; decide) (by rw [c6]; rfl) (by decide) ?_
          refine lv_aload X.1 X.2.1 dX4_expected_72 (lv_at hl 0 rfl) ?_
          refine gn_E X cn w 0 (by decide) (v := .int ((s_exp E F S (6 + r.toNatClampNeg) i.toNatClampNeg (F (6 + r.toNatClampNeg) 1)) 0)) rfl kw_123 dX4_expected_74 ?_
          refine W.eq (g2 := F0 m 77 ls [.int (s_passes F (6 + r.toNatClampNeg) i.toNatClampNeg)]) rfl ?_
          exact vx_ret (w_iret X hr hlk w (by  exact ⟨by simp [er_expected, erW, h2, h4, c6], by simp [s_expected, h2, h4, c6], rfl⟩) dX4_expected_77 rfl (Nat.zero_le _) (Nat.zero_le _))
        ·
          refine lv_tableIn (tgt := 78) X.1 X.2.1 dX4_expected_30 (by rw [c6]; decide) (by rw [c6]; decide) (by rw [c6]; rfl) (by decide) ?_
          refine lv_aload X.1 X.2.1 dX4_expected_78 (lv_at hl 0 rfl) ?_
          refine gn_E X cn w 1 (by decide) (v := .int ((s_exp E F S (6 + r.toNatClampNeg) i.toNatClampNeg (F (6 + r.toNatClampNeg) 1)) 1)) rfl kw_124 dX4_expected_80 ?_
          refine W.eq (g2 := F0 m 83 ls [.int (s_change F i.toNatClampNeg (F (6 + r.toNatClampNeg) 1))]) rfl ?_
          exact vx_ret (w_iret X hr hlk w (by  exact ⟨by simp [er_expected, erW, h2, h4, c6], by simp [s_expected, h2, h4, c6], rfl⟩) dX4_expected_83 rfl (Nat.zero_le _) (Nat.zero_le _))
        ·
          refine lv_tableIn (tgt := 84) X.1 X.2.1 dX4_expected_30 (by rw [c6]; decide) (by rw [c6]; decide) (by rw [c6]; rfl) (by decide) ?_
          refine lv_aload X.1 X.2.1 dX4_expected_84 (lv_at hl 0 rfl) ?_
          refine gn_E X cn w 2 (by decide) (v := .int ((s_exp E F S (6 + r.toNatClampNeg) i.toNatClampNeg (F (6 + r.toNatClampNeg) 1)) 2)) rfl kw_125 dX4_expected_86 ?_
          refine W.eq (g2 := F0 m 89 ls [.int (s_spoiled F (6 + r.toNatClampNeg) i.toNatClampNeg)]) rfl ?_
          exact vx_ret (w_iret X hr hlk w (by  exact ⟨by simp [er_expected, erW, h2, h4, c6], by simp [s_expected, h2, h4, c6], rfl⟩) dX4_expected_89 rfl (Nat.zero_le _) (Nat.zero_le _))
        ·
          refine lv_tableIn (tgt := 90) X.1 X.2.1 dX4_expected_30 (by rw [c6]; decide) (by rw [c6]; decide) (by rw [c6]; rfl) (by decide) ?_
          refine lv_aload X.1 X.2.1 dX4_expected_90 (lv_at hl 0 rfl) ?_
          refine gn_E X cn w 3 (by decide) (v := .int ((s_exp E F S (6 + r.toNatClampNeg) i.toNatClampNeg (F (6 + r.toNatClampNeg) 1)) 3)) rfl kw_126 dX4_expected_92 ?_
          refine W.eq (g2 := F0 m 95 ls [.int (s_needed F (6 + r.toNatClampNeg) i.toNatClampNeg)]) rfl ?_
          exact vx_ret (w_iret X hr hlk w (by  exact ⟨by simp [er_expected, erW, h2, h4, c6], by simp [s_expected, h2, h4, c6], rfl⟩) dX4_expected_95 rfl (Nat.zero_le _) (Nat.zero_le _))
        ·
          refine lv_tableIn (tgt := 96) X.1 X.2.1 dX4_expected_30 (by rw [c6]; decide) (by rw [c6]; decide) (by rw [c6]; rfl) (by decide) ?_
          refine lv_aload X.1 X.2.1 dX4_expected_96 (lv_at hl 0 rfl) ?_
          refine gn_E X cn w 4 (by decide) (v := .int ((s_exp E F S (6 + r.toNatClampNeg) i.toNatClampNeg (F (6 + r.toNatClampNeg) 1)) 4)) rfl kw_127 dX4_expected_98 ?_
          refine W.eq (g2 := F0 m 101 ls [.int (s_minutes F (6 + r.toNatClampNeg) i.toNatClampNeg (F (6 + r.toNatClampNeg) 1))]) rfl ?_
          exact vx_ret (w_iret X hr hlk w (by  exact ⟨by simp [er_expected, erW, h2, h4, c6], by simp [s_expected, h2, h4, c6], rfl⟩) dX4_expected_101 rfl (Nat.zero_le _) (Nat.zero_le _))
        ·
          refine lv_tableIn (tgt := 102) X.1 X.2.1 dX4_expected_30 (by rw [c6]; decide) (by rw [c6]; decide) (by rw [c6]; rfl) (by decide) ?_
          refine lv_aload X.1 X.2.1 dX4_expected_102 (lv_at hl 0 rfl) ?_
          refine gn_E X cn w 5 (by decide) (v := .int ((s_exp E F S (6 + r.toNatClampNeg) i.toNatClampNeg (F (6 + r.toNatClampNeg) 1)) 5)) rfl kw_128 dX4_expected_104 ?_
          refine W.eq (g2 := F0 m 107 ls [.int (s_cost F S (6 + r.toNatClampNeg) i.toNatClampNeg (F (6 + r.toNatClampNeg) 1))]) rfl ?_
          exact vx_ret (w_iret X hr hlk w (by  exact ⟨by simp [er_expected, erW, h2, h4, c6], by simp [s_expected, h2, h4, c6], rfl⟩) dX4_expected_107 rfl (Nat.zero_le _) (Nat.zero_le _))
        ·
          refine lv_tableIn (tgt := 108) X.1 X.2.1 dX4_expected_30 (by rw [c6]; decide) (by rw [c6]; decide) (by rw [c6]; rfl) (by decide) ?_
          refine lv_aload X.1 X.2.1 dX4_expected_108 (lv_at hl 0 rfl) ?_
          refine gn_E X cn w 6 (by decide) (v := .int ((s_exp E F S (6 + r.toNatClampNeg) i.toNatClampNeg (F (6 + r.toNatClampNeg) 1)) 6)) rfl kw_129 dX4_expected_110 ?_
          refine W.eq (g2 := F0 m 113 ls [.int (s_quote F S (6 + r.toNatClampNeg) i.toNatClampNeg (F (6 + r.toNatClampNeg) 1))]) rfl ?_
          exact vx_ret (w_iret X hr hlk w (by  exact ⟨by simp [er_expected, erW, h2, h4, c6], by simp [s_expected, h2, h4, c6], rfl⟩) dX4_expected_113 rfl (Nat.zero_le _) (Nat.zero_le _))
    ·
      have hE : er_expected n i r x ≠ 0 ∧ exN ((erI 3 r)) = exN (er_expected n i r x) := by  simp [er_expected, erW, h2, h4, erI_1 h4]
      have hm' := hm hE.1
      exact x_gone X hlk hnt cn w (xw_runV (n := 1) (As := [.int r]) X cn w (lt17 (by decide)) wC_0 rfl (fun sz => c_X4_pressOf l D ca ad E F L S n hlt r 1 6 (fun _ => ⟨Nat.le_refl 1, Nat.le_refl 6⟩) sz) (bg_V kw_361 kw_363 kw_15 kw_31 kw_364) rfl rfl (by decide +kernel) ⟨(Nat.le_of_ble_eq_true rfl), (Nat.le_of_ble_eq_true rfl)⟩ rfl hl.1 rfl (Nat.le_of_ble_eq_true rfl) dX4_expected_9 ⟨hm'.1, hm'.2⟩) (fun st v t hq => by obtain ⟨⟨r, u, -, hp, -⟩, -⟩ := hq; exact h4 hp.1) hE.2 hE.1 (fun u hu => hu) hm rfl rfl
  ·
    have hE : er_expected n i r x ≠ 0 ∧ exN ((erI n i)) = exN (er_expected n i r x) := by  simp [er_expected, erW, h2, erI_1 h2]
    have hm' := hm hE.1
    exact x_gone X hlk hnt cn w (xw_runV (n := 1) (As := [.int i]) X cn w (lt17 (by decide)) wC_0 rfl (fun sz => c_X4_jobOf l D ca ad E F L S n hlt wf.2.1.2 wf.1 i 1 6 (fun _ => ⟨Nat.le_refl 1, Nat.le_refl 6⟩) sz) (bg_V kw_384 kw_386 kw_18 kw_31 kw_387) rfl rfl (by decide +kernel) ⟨(Nat.le_of_ble_eq_true rfl), (Nat.le_of_ble_eq_true rfl)⟩ rfl hl.1 rfl (Nat.le_of_ble_eq_true rfl) dX4_expected_2 ⟨hm'.1, hm'.2⟩) (fun st v t hq => by obtain ⟨⟨r, u, -, hp, -⟩, -⟩ := hq; exact h2 hp.1) hE.2 hE.1 (fun u hu => hu) hm rfl rfl

set_option maxHeartbeats 4000000 in
set_option maxRecDepth 100000 in
theorem c_X4_towers (l : Launch) (D : va_G) (ca : Nat → ClassId) (ad : Nat → Nat) (E : Em) (F : Fm) (L : Lm) (S : Sm) (n : Nat) (hlt : l.stackTraces = false) (q : Nat → Nat) (wf : Wf F L S n q) (r x : Int32) (mc ms : Nat) (hm : er_towers r x ≠ 0 → 1 ≤ mc ∧ 6 ≤ ms) (sz : Nat) : vx_Met l yX4_towers (.code yX4_towers cX4_towers 5 (some .int) :: BG) { frames := 7, cells := mc, slots := ms, locals := 117 } (Pw D ca ad (E, F, L, S, n) sz [.ref (ad 0), .int r, .int x]) (Qi D ca ad n (fun v u => er_towers r x = 0 ∧ v = F (6 + r.toNatClampNeg) 0 ∧ u.2 = (up2 F (6 + r.toNatClampNeg) 0 x, L, S, n)) sz) (Xq D ca ad n (er_towers r x) (fun u => u.2 = (F, L, S, n)) sz) mc ms (wA ad n sz) := by
  refine open_X (σ := (E, F, L, S, n)) (Qc := Qi D ca ad n (fun v u => er_towers r x = 0 ∧ v = F (6 + r.toNatClampNeg) 0 ∧ u.2 = (up2 F (6 + r.toNatClampNeg) 0 x, L, S, n))) (XC := Xq D ca ad n (er_towers r x) (fun u => u.2 = (F, L, S, n))) (by decide +kernel) (Nat.le_of_ble_eq_true rfl) ?_
  intro p e s m args below meth c X hr hlk hnt w cn ls hl
  have hl : lv_has ls 5 [(0, .ref (ad 0)), (1, .int r), (2, .int x)] := hl
  have hs := wf.2.2.1
  have hJ := wf.2.1.2
  refine lv_aload_n X.1 X.2.1 dX4_towers_0 rfl (lv_at hl 0 rfl) ?_
  refine lv_iload_n X.1 X.2.1 dX4_towers_1 rfl (lv_at hl 1 rfl) ?_
  by_cases h2 : (erI 3 r) = 0
  ·
    refine w_callr cn w (w_runV (n := 1) (As := [.int r]) X cn w (lt17 (by decide)) wC_0 rfl (fun sz => met_of (c_X4_pressOf l D ca ad E F L S n hlt r 0 0 (fun h => (h h2).elim) sz) h2) (bg_V kw_361 kw_363 kw_15 kw_31 kw_364) rfl rfl (by decide +kernel) ⟨(Nat.le_of_ble_eq_true rfl), (Nat.le_of_ble_eq_true rfl)⟩ rfl hl.1 rfl (Nat.le_of_ble_eq_true rfl) dX4_towers_2 ⟨(Nat.zero_le _), (Nat.zero_le _)⟩) (fun r1 u H locs hp w => ?_)
    obtain ⟨-, rfl, rfl⟩ := hp
    refine W.eq (g2 := F0 m 5 ls [.ref (ad (6 + r.toNatClampNeg))]) rfl ?_
    refine lv_astore_n (lv' := [(3, .ref (ad (6 + r.toNatClampNeg))), (0, .ref (ad 0)), (1, .int r), (2, .int x)]) X.1 X.2.1 dX4_towers_5 rfl hl (by decide) rfl (fun ls hl => ?_)
    refine lv_iload_n X.1 X.2.1 dX4_towers_6 rfl (lv_at hl 3 rfl) ?_
    refine lv_iconst (v := 1) X.1 X.2.1 dX4_towers_7 (by decide) ?_
    refine lv_iconst (v := 4) X.1 X.2.1 dX4_towers_8 (by decide) ?_
    refine n_calli w (n_runS (n := 3) (As := [.int x, .int 1, .int 4]) X (c_X4_isOutside l x 1 4) (bg_S kw_429 kw_430 kw_31 kw_431) rfl rfl (by decide +kernel) ⟨(Nat.le_of_ble_eq_true rfl), (Nat.le_of_ble_eq_true rfl)⟩ rfl hl.1 rfl (Nat.le_of_ble_eq_true rfl) dX4_towers_9 ⟨(Nat.zero_le _), (Nat.zero_le _)⟩) (fun H locs w => ?_)
    refine lv_if_eq (tgt := 26) X.1 X.2.1 dX4_towers_12 (by decide) (fun c3 => ?_) (fun c3 => ?_)
    ·
      refine lv_aload_n X.1 X.2.1 dX4_towers_26 rfl (lv_at hl 0 rfl) ?_
      refine gn_R X cn w (prs_in (in_erI h2)) 0 (by decide) (v := .int (F (6 + r.toNatClampNeg) 0)) rfl kw_89 dX4_towers_27 ?_
      refine lv_topi (fun x4 ex4 => ?_)
      refine lv_istore (lv' := [(4, .int x4), (3, .ref (ad (6 + r.toNatClampNeg))), (0, .ref (ad 0)), (1, .int r), (2, .int x)]) X.1 X.2.1 dX4_towers_30 hl (by decide) rfl (fun ls hl => ?_)
      refine lv_aload_n X.1 X.2.1 dX4_towers_32 rfl (lv_at hl 1 rfl) ?_
      refine lv_iload_n X.1 X.2.1 dX4_towers_33 rfl (lv_at hl 4 rfl) ?_
      refine pn_R X cn w (prs_in (in_erI h2)) 0 (by decide) rfl (by decide +kernel) (v := x) kw_89 dX4_towers_34 (fun H locs w => ?_)
      obtain ⟨F5, eF5⟩ : ∃ G : Fm, G = up2 F (6 + r.toNatClampNeg) 0 x := ⟨_, rfl⟩
      rw [← eF5] at w
      refine lv_iload X.1 X.2.1 dX4_towers_37 (lv_at hl 0 rfl) ?_
      exact vx_ret (w_iret X hr hlk w (by subst eF5; subst ex4; exact ⟨by simp [er_towers, h2, c3], rfl, rfl⟩) dX4_towers_39 rfl (Nat.zero_le _) (Nat.zero_le _))
    ·
      exact x_throw2W (k := 271) (tx := "towers are 1 to 4") hlt X rfl hlk hnt cn w hl.1 (by decide +kernel) (by  simp [er_towers, h2, c3]) rfl hm dX4_towers_15 dX4_towers_18 dX4_towers_19 dX4_towers_22 dX4_towers_25 (Nat.le_of_ble_eq_true rfl) (Nat.le_of_ble_eq_true rfl) rfl rfl rfl rfl
  ·
    have hE : er_towers r x ≠ 0 ∧ exN ((erI 3 r)) = exN (er_towers r x) := by  simp [er_towers, h2, erI_1 h2]
    have hm' := hm hE.1
    exact x_gone X hlk hnt cn w (xw_runV (n := 1) (As := [.int r]) X cn w (lt17 (by decide)) wC_0 rfl (fun sz => c_X4_pressOf l D ca ad E F L S n hlt r 1 6 (fun _ => ⟨Nat.le_refl 1, Nat.le_refl 6⟩) sz) (bg_V kw_361 kw_363 kw_15 kw_31 kw_364) rfl rfl (by decide +kernel) ⟨(Nat.le_of_ble_eq_true rfl), (Nat.le_of_ble_eq_true rfl)⟩ rfl hl.1 rfl (Nat.le_of_ble_eq_true rfl) dX4_towers_2 ⟨hm'.1, hm'.2⟩) (fun st v t hq => by obtain ⟨⟨r, u, -, hp, -⟩, -⟩ := hq; exact h2 hp.1) hE.2 hE.1 (fun u hu => hu) hm rfl rfl

set_option maxHeartbeats 4000000 in
set_option maxRecDepth 100000 in
theorem c_X4_ofPress (l : Launch) (D : va_G) (ca : Nat → ClassId) (ad : Nat → Nat) (E : Em) (F : Fm) (L : Lm) (S : Sm) (n : Nat) (hlt : l.stackTraces = false) (q : Nat → Nat) (wf : Wf F L S n q) (r x : Int32) (mc ms : Nat) (hm : er_ofPress r x ≠ 0 → 1 ≤ mc ∧ 6 ≤ ms) (sz : Nat) : vx_Met l yX4_ofPress (.code yX4_ofPress cX4_ofPress 4 (some .int) :: BG) { frames := 7, cells := mc, slots := ms, locals := 117 } (Pw D ca ad (E, F, L, S, n) sz [.ref (ad 0), .int r, .int x]) (Qi D ca ad n (fun v u => er_ofPress r x = 0 ∧ v = s_ofPress F L q (6 + r.toNatClampNeg) x ∧ u.2 = (F, L, S, n)) sz) (Xq D ca ad n (er_ofPress r x) (fun u => u.2 = (F, L, S, n)) sz) mc ms (wA ad n sz) := by
  refine open_X (σ := (E, F, L, S, n)) (Qc := Qi D ca ad n (fun v u => er_ofPress r x = 0 ∧ v = s_ofPress F L q (6 + r.toNatClampNeg) x ∧ u.2 = (F, L, S, n))) (XC := Xq D ca ad n (er_ofPress r x) (fun u => u.2 = (F, L, S, n))) (by decide +kernel) (Nat.le_of_ble_eq_true rfl) ?_
  intro p e s m args below meth c X hr hlk hnt w cn ls hl
  have hl : lv_has ls 4 [(0, .ref (ad 0)), (1, .int r), (2, .int x)] := hl
  have hs := wf.2.2.1
  have hJ := wf.2.1.2
  refine lv_aload_n X.1 X.2.1 dX4_ofPress_0 rfl (lv_at hl 0 rfl) ?_
  refine lv_iload_n X.1 X.2.1 dX4_ofPress_1 rfl (lv_at hl 1 rfl) ?_
  by_cases h2 : (erI 3 r) = 0
  ·
    refine w_callr cn w (w_runV (n := 1) (As := [.int r]) X cn w (lt17 (by decide)) wC_0 rfl (fun sz => met_of (c_X4_pressOf l D ca ad E F L S n hlt r 0 0 (fun h => (h h2).elim) sz) h2) (bg_V kw_361 kw_363 kw_15 kw_31 kw_364) rfl rfl (by decide +kernel) ⟨(Nat.le_of_ble_eq_true rfl), (Nat.le_of_ble_eq_true rfl)⟩ rfl hl.1 rfl (Nat.le_of_ble_eq_true rfl) dX4_ofPress_2 ⟨(Nat.zero_le _), (Nat.zero_le _)⟩) (fun r1 u H locs hp w => ?_)
    obtain ⟨-, rfl, rfl⟩ := hp
    refine W.eq (g2 := F0 m 5 ls [.ref (ad (6 + r.toNatClampNeg))]) rfl ?_
    refine lv_astore_n (lv' := [(3, .ref (ad (6 + r.toNatClampNeg))), (0, .ref (ad 0)), (1, .int r), (2, .int x)]) X.1 X.2.1 dX4_ofPress_5 rfl hl (by decide) rfl (fun ls hl => ?_)
    refine lv_iload_n X.1 X.2.1 dX4_ofPress_6 rfl (lv_at hl 3 rfl) ?_
    rcases tab_cases x 6 with c3 | ⟨c3n, c3l, c3⟩
    ·
      have c3 : x.toInt < 0 ∨ 6 < x.toInt := c3
      refine lv_tableOut (tgt := 84) X.1 X.2.1 dX4_ofPress_7 c3 (by decide) ?_
      exact x_throw2W (k := 280) (tx := "of a press one asks 0 to 6") hlt X rfl hlk hnt cn w hl.1 (by decide +kernel) (by  simp [er_ofPress, erW, h2, c3]) rfl hm dX4_ofPress_84 dX4_ofPress_87 dX4_ofPress_88 dX4_ofPress_91 dX4_ofPress_94 (Nat.le_of_ble_eq_true rfl) (Nat.le_of_ble_eq_true rfl) rfl rfl rfl rfl
    ·
      rcases (show c3n = 0 ∨ c3n = 1 ∨ c3n = 2 ∨ c3n = 3 ∨ c3n = 4 ∨ c3n = 5 ∨ c3n = 6 by omega) with rfl | rfl | rfl | rfl | rfl | rfl | rfl
      ·
        refine lv_tableIn (tgt := 48) X.1 X.2.1 dX4_ofPress_7 (by rw [c3]; decide) (by rw [c3]; decide) (by rw [c3]; rfl) (by decide) ?_
        refine lv_aload_n X.1 X.2.1 dX4_ofPress_48 rfl (lv_at hl 0 rfl) ?_
        refine gn_R X cn w (prs_in (in_erI h2)) 0 (by decide) (v := .int (F (6 + r.toNatClampNeg) 0)) rfl kw_89 dX4_ofPress_49 ?_
        exact vx_ret (w_iret X hr hlk w (by  exact ⟨by simp [er_ofPress, erW, h2, c3], by simp [s_ofPress, h2, c3], rfl⟩) dX4_ofPress_52 rfl (Nat.zero_le _) (Nat.zero_le _))
      ·
        refine lv_tableIn (tgt := 53) X.1 X.2.1 dX4_ofPress_7 (by rw [c3]; decide) (by rw [c3]; decide) (by rw [c3]; rfl) (by decide) ?_
        refine lv_aload_n X.1 X.2.1 dX4_ofPress_53 rfl (lv_at hl 0 rfl) ?_
        refine gn_R X cn w (prs_in (in_erI h2)) 1 (by decide) (v := .int (F (6 + r.toNatClampNeg) 1)) rfl kw_91 dX4_ofPress_54 ?_
        exact vx_ret (w_iret X hr hlk w (by  exact ⟨by simp [er_ofPress, erW, h2, c3], by simp [s_ofPress, h2, c3], rfl⟩) dX4_ofPress_57 rfl (Nat.zero_le _) (Nat.zero_le _))
      ·
        refine lv_tableIn (tgt := 58) X.1 X.2.1 dX4_ofPress_7 (by rw [c3]; decide) (by rw [c3]; decide) (by rw [c3]; rfl) (by decide) ?_
        refine lv_aload_n X.1 X.2.1 dX4_ofPress_58 rfl (lv_at hl 0 rfl) ?_
        refine gn_R X cn w (prs_in (in_erI h2)) 2 (by decide) (v := .int (F (6 + r.toNatClampNeg) 2)) rfl kw_93 dX4_ofPress_59 ?_
        exact vx_ret (w_iret X hr hlk w (by  exact ⟨by simp [er_ofPress, erW, h2, c3], by simp [s_ofPress, h2, c3], rfl⟩) dX4_ofPress_62 rfl (Nat.zero_le _) (Nat.zero_le _))
      ·
        refine lv_tableIn (tgt := 63) X.1 X.2.1 dX4_ofPress_7 (by rw [c3]; decide) (by rw [c3]; decide) (by rw [c3]; rfl) (by decide) ?_
        refine lv_aload_n X.1 X.2.1 dX4_ofPress_63 rfl (lv_at hl 0 rfl) ?_
        refine gn_R X cn w (prs_in (in_erI h2)) 3 (by decide) (v := .int (F (6 + r.toNatClampNeg) 3)) rfl kw_95 dX4_ofPress_64 ?_
        exact vx_ret (w_iret X hr hlk w (by  exact ⟨by simp [er_ofPress, erW, h2, c3], by simp [s_ofPress, h2, c3], rfl⟩) dX4_ofPress_67 rfl (Nat.zero_le _) (Nat.zero_le _))
      ·
        refine lv_tableIn (tgt := 68) X.1 X.2.1 dX4_ofPress_7 (by rw [c3]; decide) (by rw [c3]; decide) (by rw [c3]; rfl) (by decide) ?_
        refine lv_aload_n X.1 X.2.1 dX4_ofPress_68 rfl (lv_at hl 0 rfl) ?_
        refine gn_R X cn w (prs_in (in_erI h2)) 4 (by decide) (v := .int (F (6 + r.toNatClampNeg) 4)) rfl kw_97 dX4_ofPress_69 ?_
        exact vx_ret (w_iret X hr hlk w (by  exact ⟨by simp [er_ofPress, erW, h2, c3], by simp [s_ofPress, h2, c3], rfl⟩) dX4_ofPress_72 rfl (Nat.zero_le _) (Nat.zero_le _))
      ·
        refine lv_tableIn (tgt := 73) X.1 X.2.1 dX4_ofPress_7 (by rw [c3]; decide) (by rw [c3]; decide) (by rw [c3]; rfl) (by decide) ?_
        refine lv_aload_n X.1 X.2.1 dX4_ofPress_73 rfl (lv_at hl 0 rfl) ?_
        refine gn_R X cn w (prs_in (in_erI h2)) 6 (by decide) (v := .int (F (6 + r.toNatClampNeg) 6)) rfl kw_100 dX4_ofPress_74 ?_
        exact vx_ret (w_iret X hr hlk w (by  exact ⟨by simp [er_ofPress, erW, h2, c3], by simp [s_ofPress, h2, c3], rfl⟩) dX4_ofPress_77 rfl (Nat.zero_le _) (Nat.zero_le _))
      ·
        refine lv_tableIn (tgt := 78) X.1 X.2.1 dX4_ofPress_7 (by rw [c3]; decide) (by rw [c3]; decide) (by rw [c3]; rfl) (by decide) ?_
        refine lv_aload_n X.1 X.2.1 dX4_ofPress_78 rfl (lv_at hl 1 rfl) ?_
        refine lv_aload_n X.1 X.2.1 dX4_ofPress_79 rfl (lv_at hl 0 rfl) ?_
        refine w_calli cn w (w_runV (n := 1) (As := [.ref (ad (6 + r.toNatClampNeg))]) X cn w (lt17 (by decide)) wC_0 rfl (fun sz => c_X4_minutesOfQueue l D ca ad E F L S n q wf (6 + r.toNatClampNeg) (prs_in (in_erI h2)) sz) (bg_V kw_366 kw_368 kw_16 kw_31 kw_369) rfl rfl (by decide +kernel) ⟨(Nat.le_of_ble_eq_true rfl), (Nat.le_of_ble_eq_true rfl)⟩ rfl hl.1 rfl (Nat.le_of_ble_eq_true rfl) dX4_ofPress_80 ⟨(Nat.zero_le _), (Nat.zero_le _)⟩) (fun r4 u H locs hp w => ?_)
        obtain ⟨E5, q6⟩ := u
        obtain ⟨rfl, h7⟩ := hp
        have h7 : q6 = (F, L, S, n) := h7
        subst h7
        exact vx_ret (w_iret X hr hlk w (by  exact ⟨by simp [er_ofPress, erW, h2, c3], by simp [s_ofPress, h2, c3], rfl⟩) dX4_ofPress_83 rfl (Nat.zero_le _) (Nat.zero_le _))
  ·
    have hE : er_ofPress r x ≠ 0 ∧ exN ((erI 3 r)) = exN (er_ofPress r x) := by  simp [er_ofPress, erW, h2, erI_1 h2]
    have hm' := hm hE.1
    exact x_gone X hlk hnt cn w (xw_runV (n := 1) (As := [.int r]) X cn w (lt17 (by decide)) wC_0 rfl (fun sz => c_X4_pressOf l D ca ad E F L S n hlt r 1 6 (fun _ => ⟨Nat.le_refl 1, Nat.le_refl 6⟩) sz) (bg_V kw_361 kw_363 kw_15 kw_31 kw_364) rfl rfl (by decide +kernel) ⟨(Nat.le_of_ble_eq_true rfl), (Nat.le_of_ble_eq_true rfl)⟩ rfl hl.1 rfl (Nat.le_of_ble_eq_true rfl) dX4_ofPress_2 ⟨hm'.1, hm'.2⟩) (fun st v t hq => by obtain ⟨⟨r, u, -, hp, -⟩, -⟩ := hq; exact h2 hp.1) hE.2 hE.1 (fun u hu => hu) hm rfl rfl

set_option maxHeartbeats 4000000 in
set_option maxRecDepth 100000 in
theorem c_X4_queue (l : Launch) (D : va_G) (ca : Nat → ClassId) (ad : Nat → Nat) (E : Em) (F : Fm) (L : Lm) (S : Sm) (n : Nat) (hlt : l.stackTraces = false) (q : Nat → Nat) (wf : Wf F L S n q) (r x : Int32) (mc ms : Nat) (hm : er_queue F L r x ≠ 0 → 1 ≤ mc ∧ 6 ≤ ms) (sz : Nat) : vx_Met l yX4_queue (.code yX4_queue cX4_queue 4 (some .int) :: BG) { frames := 7, cells := mc, slots := ms, locals := 117 } (Pw D ca ad (E, F, L, S, n) sz [.ref (ad 0), .int r, .int x]) (Qi D ca ad n (fun v u => er_queue F L r x = 0 ∧ v = s_queue F L (6 + r.toNatClampNeg) x ∧ u.2 = (F, L, S, n)) sz) (Xq D ca ad n (er_queue F L r x) (fun u => u.2 = (F, L, S, n)) sz) mc ms (wA ad n sz) := by
  refine open_X (σ := (E, F, L, S, n)) (Qc := Qi D ca ad n (fun v u => er_queue F L r x = 0 ∧ v = s_queue F L (6 + r.toNatClampNeg) x ∧ u.2 = (F, L, S, n))) (XC := Xq D ca ad n (er_queue F L r x) (fun u => u.2 = (F, L, S, n))) (by decide +kernel) (Nat.le_of_ble_eq_true rfl) ?_
  intro p e s m args below meth c X hr hlk hnt w cn ls hl
  have hl : lv_has ls 4 [(0, .ref (ad 0)), (1, .int r), (2, .int x)] := hl
  have hs := wf.2.2.1
  have hJ := wf.2.1.2
  refine lv_aload_n X.1 X.2.1 dX4_queue_0 rfl (lv_at hl 0 rfl) ?_
  refine lv_iload_n X.1 X.2.1 dX4_queue_1 rfl (lv_at hl 1 rfl) ?_
  by_cases h2 : (erI 3 r) = 0
  ·
    refine w_callr cn w (w_runV (n := 1) (As := [.int r]) X cn w (lt17 (by decide)) wC_0 rfl (fun sz => met_of (c_X4_pressOf l D ca ad E F L S n hlt r 0 0 (fun h => (h h2).elim) sz) h2) (bg_V kw_361 kw_363 kw_15 kw_31 kw_364) rfl rfl (by decide +kernel) ⟨(Nat.le_of_ble_eq_true rfl), (Nat.le_of_ble_eq_true rfl)⟩ rfl hl.1 rfl (Nat.le_of_ble_eq_true rfl) dX4_queue_2 ⟨(Nat.zero_le _), (Nat.zero_le _)⟩) (fun r1 u H locs hp w => ?_)
    obtain ⟨-, rfl, rfl⟩ := hp
    refine W.eq (g2 := F0 m 5 ls [.ref (ad (6 + r.toNatClampNeg))]) rfl ?_
    refine lv_iload_n X.1 X.2.1 dX4_queue_5 rfl (lv_at hl 2 rfl) ?_
    refine w_callr cn w (w_runVN (n := 1) (As := [.int x]) X cn w (lt17 (by have := (prs_in (in_erI h2)); omega)) (wC_R ((prs_in (in_erI h2))).1 ((prs_in (in_erI h2))).2) rfl (fun sz => c_X3_jobAt l D ca ad E F L S n (6 + r.toNatClampNeg) (prs_in (in_erI h2)) x sz) kw_306 kw_308 kw_8 kw_33 kw_309 rfl rfl (by decide +kernel) ⟨(Nat.le_of_ble_eq_true rfl), (Nat.le_of_ble_eq_true rfl)⟩ rfl hl.1 rfl (Nat.le_of_ble_eq_true rfl) dX4_queue_6 ⟨(Nat.zero_le _), (Nat.zero_le _)⟩) (fun r3 u H locs hp w => ?_)
    obtain ⟨rfl, rfl⟩ := hp
    obtain hj4n | ⟨j4, hj4s⟩ : (s_jobAt F L (6 + r.toNatClampNeg) x) = none ∨ ∃ j, (s_jobAt F L (6 + r.toNatClampNeg) x) = some j := opt_or _
    ·
      refine W.eq (g2 := F0 m 9 ls [.null]) (by simp only [hj4n]; rfl) ?_
      refine lv_astore_nN (lv' := [(3, .null), (0, .ref (ad 0)), (1, .int r), (2, .int x)]) X.1 X.2.1 dX4_queue_9 rfl hl (by decide) rfl (fun ls hl => ?_)
      refine lv_aload_nN X.1 X.2.1 dX4_queue_10 rfl (lv_at hl 0 rfl) ?_
      refine lv_ifnonnullN X.1 X.2.1 dX4_queue_11 ?_
      exact x_throw1W (k := 284) (tx := "no such place in the queue") hlt X rfl hlk hnt cn w hl.1 (by decide +kernel) (by  simp [er_queue, h2, hj4n]) rfl hm dX4_queue_14 dX4_queue_17 dX4_queue_18 dX4_queue_21 dX4_queue_24 (Nat.le_of_ble_eq_true rfl) (Nat.le_of_ble_eq_true rfl) rfl rfl rfl rfl
    ·
      refine W.eq (g2 := F0 m 9 ls [.ref (ad (17 + j4))]) (by simp only [hj4s]; rfl) ?_
      refine lv_astore_n (lv' := [(3, .ref (ad (17 + j4))), (0, .ref (ad 0)), (1, .int r), (2, .int x)]) X.1 X.2.1 dX4_queue_9 rfl hl (by decide) rfl (fun ls hl => ?_)
      refine lv_aload_n X.1 X.2.1 dX4_queue_10 rfl (lv_at hl 0 rfl) ?_
      refine lv_ifnonnull (tgt := 25) X.1 X.2.1 dX4_queue_11 (by decide) ?_
      refine lv_aload_n X.1 X.2.1 dX4_queue_25 rfl (lv_at hl 0 rfl) ?_
      refine gn_J X cn w ((wf.2.2.2 _ (prs_in (in_erI h2))).2.2 _ _ (jobAt_of hj4s)) 0 (by decide) (v := .int (F (17 + j4) 0)) rfl kw_464 dX4_queue_26 ?_
      exact vx_ret (w_iret X hr hlk w (by  exact ⟨by simp [er_queue, h2, hj4s], by simp [s_queue, h2, hj4s], rfl⟩) dX4_queue_29 rfl (Nat.zero_le _) (Nat.zero_le _))
  ·
    have hE : er_queue F L r x ≠ 0 ∧ exN ((erI 3 r)) = exN (er_queue F L r x) := by  simp [er_queue, h2, erI_1 h2]
    have hm' := hm hE.1
    exact x_gone X hlk hnt cn w (xw_runV (n := 1) (As := [.int r]) X cn w (lt17 (by decide)) wC_0 rfl (fun sz => c_X4_pressOf l D ca ad E F L S n hlt r 1 6 (fun _ => ⟨Nat.le_refl 1, Nat.le_refl 6⟩) sz) (bg_V kw_361 kw_363 kw_15 kw_31 kw_364) rfl rfl (by decide +kernel) ⟨(Nat.le_of_ble_eq_true rfl), (Nat.le_of_ble_eq_true rfl)⟩ rfl hl.1 rfl (Nat.le_of_ble_eq_true rfl) dX4_queue_2 ⟨hm'.1, hm'.2⟩) (fun st v t hq => by obtain ⟨⟨r, u, -, hp, -⟩, -⟩ := hq; exact h2 hp.1) hE.2 hE.1 (fun u hu => hu) hm rfl rfl

set_option maxHeartbeats 4000000 in
set_option maxRecDepth 100000 in
theorem c_X4_many (l : Launch) (D : va_G) (ca : Nat → ClassId) (ad : Nat → Nat) (E : Em) (F : Fm) (L : Lm) (S : Sm) (n : Nat) (hlt : l.stackTraces = false) (q : Nat → Nat) (wf : Wf F L S n q) (x : Int32) (mc ms : Nat) (hm : erW 10 x ≠ 0 → 1 ≤ mc ∧ 6 ≤ ms) (sz : Nat) : vx_Met l yX4_many (.code yX4_many cX4_many 2 (some .int) :: BG) { frames := 6, cells := mc, slots := ms, locals := 95 } (Pw D ca ad (E, F, L, S, n) sz [.ref (ad 0), .int x]) (Qi D ca ad n (fun v u => erW 10 x = 0 ∧ v = s_many F n x ∧ u.2 = (F, L, S, n)) sz) (Xq D ca ad n (erW 10 x) (fun u => u.2 = (F, L, S, n)) sz) mc ms (wA ad n sz) := by
  refine open_X (σ := (E, F, L, S, n)) (Qc := Qi D ca ad n (fun v u => erW 10 x = 0 ∧ v = s_many F n x ∧ u.2 = (F, L, S, n))) (XC := Xq D ca ad n (erW 10 x) (fun u => u.2 = (F, L, S, n))) (by decide +kernel) (Nat.le_of_ble_eq_true rfl) ?_
  intro p e s m args below meth c X hr hlk hnt w cn ls hl
  have hl : lv_has ls 2 [(0, .ref (ad 0)), (1, .int x)] := hl
  have hs := wf.2.2.1
  have hJ := wf.2.1.2
  refine lv_iload_n X.1 X.2.1 dX4_many_0 rfl (lv_at hl 1 rfl) ?_
  rcases tab_cases x 10 with c1 | ⟨c1n, c1l, c1⟩
  ·
    have c1 : x.toInt < 0 ∨ 10 < x.toInt := c1
    refine lv_tableOut (tgt := 119) X.1 X.2.1 dX4_many_1 c1 (by decide) ?_
    exact x_throw2W (k := 341) (tx := "of the ledger one asks 0 to 10") hlt X rfl hlk hnt cn w hl.1 (by decide +kernel) (by  simp [erW, c1]) rfl hm dX4_many_119 dX4_many_122 dX4_many_123 dX4_many_126 dX4_many_129 (Nat.le_of_ble_eq_true rfl) (Nat.le_of_ble_eq_true rfl) rfl rfl rfl rfl
  ·
    rcases (show c1n = 0 ∨ c1n = 1 ∨ c1n = 2 ∨ c1n = 3 ∨ c1n = 4 ∨ c1n = 5 ∨ c1n = 6 ∨ c1n = 7 ∨ c1n = 8 ∨ c1n = 9 ∨ c1n = 10 by omega) with rfl | rfl | rfl | rfl | rfl | rfl | rfl | rfl | rfl | rfl | rfl
    ·
      refine lv_tableIn (tgt := 60) X.1 X.2.1 dX4_many_1 (by rw [c1]; decide) (by rw [c1]; decide) (by rw [c1]; rfl) (by decide) ?_
      refine lv_aload_n X.1 X.2.1 dX4_many_60 rfl (lv_at hl 0 rfl) ?_
      refine g_L X w 3 (by decide) (v := .int (F 0 3)) rfl kw_148 dX4_many_61 ?_
      exact vx_ret (w_iret X hr hlk w (by  exact ⟨by simp [erW, c1], by simp [s_many, s_count, s_total, c1], rfl⟩) dX4_many_64 rfl (Nat.zero_le _) (Nat.zero_le _))
    ·
      refine lv_tableIn (tgt := 65) X.1 X.2.1 dX4_many_1 (by rw [c1]; decide) (by rw [c1]; decide) (by rw [c1]; rfl) (by decide) ?_
      refine lv_aload_n X.1 X.2.1 dX4_many_65 rfl (lv_at hl 0 rfl) ?_
      refine lv_iconst (v := 0) X.1 X.2.1 dX4_many_66 (by decide) ?_
      refine w_calli cn w (w_runV (n := 1) (As := [.int 0]) X cn w (lt17 (by decide)) wC_0 rfl (fun sz => c_X4_jobsThatAre l D ca ad E F L S n hJ 0 sz) (bg_V kw_183 kw_185 kw_0 kw_31 kw_186) rfl rfl (by decide +kernel) ⟨(Nat.le_of_ble_eq_true rfl), (Nat.le_of_ble_eq_true rfl)⟩ rfl hl.1 rfl (Nat.le_of_ble_eq_true rfl) dX4_many_67 ⟨(Nat.zero_le _), (Nat.zero_le _)⟩) (fun r2 u H locs hp w => ?_)
      obtain ⟨E3, q4⟩ := u
      obtain ⟨rfl, h5⟩ := hp
      have h5 : q4 = (F, L, S, n) := h5
      subst h5
      exact vx_ret (w_iret X hr hlk w (by  exact ⟨by simp [erW, c1], by simp [s_many, s_count, s_total, c1], rfl⟩) dX4_many_70 rfl (Nat.zero_le _) (Nat.zero_le _))
    ·
      refine lv_tableIn (tgt := 71) X.1 X.2.1 dX4_many_1 (by rw [c1]; decide) (by rw [c1]; decide) (by rw [c1]; rfl) (by decide) ?_
      refine lv_aload_n X.1 X.2.1 dX4_many_71 rfl (lv_at hl 0 rfl) ?_
      refine lv_iconst (v := 1) X.1 X.2.1 dX4_many_72 (by decide) ?_
      refine w_calli cn w (w_runV (n := 1) (As := [.int 1]) X cn w (lt17 (by decide)) wC_0 rfl (fun sz => c_X4_jobsThatAre l D ca ad E F L S n hJ 1 sz) (bg_V kw_183 kw_185 kw_0 kw_31 kw_186) rfl rfl (by decide +kernel) ⟨(Nat.le_of_ble_eq_true rfl), (Nat.le_of_ble_eq_true rfl)⟩ rfl hl.1 rfl (Nat.le_of_ble_eq_true rfl) dX4_many_73 ⟨(Nat.zero_le _), (Nat.zero_le _)⟩) (fun r6 u H locs hp w => ?_)
      obtain ⟨E7, q8⟩ := u
      obtain ⟨rfl, h9⟩ := hp
      have h9 : q8 = (F, L, S, n) := h9
      subst h9
      exact vx_ret (w_iret X hr hlk w (by  exact ⟨by simp [erW, c1], by simp [s_many, s_count, s_total, c1], rfl⟩) dX4_many_76 rfl (Nat.zero_le _) (Nat.zero_le _))
    ·
      refine lv_tableIn (tgt := 77) X.1 X.2.1 dX4_many_1 (by rw [c1]; decide) (by rw [c1]; decide) (by rw [c1]; rfl) (by decide) ?_
      refine lv_aload_n X.1 X.2.1 dX4_many_77 rfl (lv_at hl 0 rfl) ?_
      refine lv_iconst (v := 2) X.1 X.2.1 dX4_many_78 (by decide) ?_
      refine w_calli cn w (w_runV (n := 1) (As := [.int 2]) X cn w (lt17 (by decide)) wC_0 rfl (fun sz => c_X4_jobsThatAre l D ca ad E F L S n hJ 2 sz) (bg_V kw_183 kw_185 kw_0 kw_31 kw_186) rfl rfl (by decide +kernel) ⟨(Nat.le_of_ble_eq_true rfl), (Nat.le_of_ble_eq_true rfl)⟩ rfl hl.1 rfl (Nat.le_of_ble_eq_true rfl) dX4_many_79 ⟨(Nat.zero_le _), (Nat.zero_le _)⟩) (fun r10 u H locs hp w => ?_)
      obtain ⟨E11, q12⟩ := u
      obtain ⟨rfl, h13⟩ := hp
      have h13 : q12 = (F, L, S, n) := h13
      subst h13
      exact vx_ret (w_iret X hr hlk w (by  exact ⟨by simp [erW, c1], by simp [s_many, s_count, s_total, c1], rfl⟩) dX4_many_82 rfl (Nat.zero_le _) (Nat.zero_le _))
    ·
      refine lv_tableIn (tgt := 83) X.1 X.2.1 dX4_many_1 (by rw [c1]; decide) (by rw [c1]; decide) (by rw [c1]; rfl) (by decide) ?_
      refine lv_aload_n X.1 X.2.1 dX4_many_83 rfl (lv_at hl 0 rfl) ?_
      refine lv_iconst (v := 3) X.1 X.2.1 dX4_many_84 (by decide) ?_
      refine w_calli cn w (w_runV (n := 1) (As := [.int 3]) X cn w (lt17 (by decide)) wC_0 rfl (fun sz => c_X4_jobsThatAre l D ca ad E F L S n hJ 3 sz) (bg_V kw_183 kw_185 kw_0 kw_31 kw_186) rfl rfl (by decide +kernel) ⟨(Nat.le_of_ble_eq_true rfl), (Nat.le_of_ble_eq_true rfl)⟩ rfl hl.1 rfl (Nat.le_of_ble_eq_true rfl) dX4_many_85 ⟨(Nat.zero_le _), (Nat.zero_le _)⟩) (fun r14 u H locs hp w => ?_)
      obtain ⟨E15, q16⟩ := u
      obtain ⟨rfl, h17⟩ := hp
      have h17 : q16 = (F, L, S, n) := h17
      subst h17
      exact vx_ret (w_iret X hr hlk w (by  exact ⟨by simp [erW, c1], by simp [s_many, s_count, s_total, c1], rfl⟩) dX4_many_88 rfl (Nat.zero_le _) (Nat.zero_le _))
    ·
      refine lv_tableIn (tgt := 89) X.1 X.2.1 dX4_many_1 (by rw [c1]; decide) (by rw [c1]; decide) (by rw [c1]; rfl) (by decide) ?_
      refine lv_aload_n X.1 X.2.1 dX4_many_89 rfl (lv_at hl 0 rfl) ?_
      refine g_L X w 4 (by decide) (v := .int (F 0 4)) rfl kw_149 dX4_many_90 ?_
      exact vx_ret (w_iret X hr hlk w (by  exact ⟨by simp [erW, c1], by simp [s_many, s_count, s_total, c1], rfl⟩) dX4_many_93 rfl (Nat.zero_le _) (Nat.zero_le _))
    ·
      refine lv_tableIn (tgt := 94) X.1 X.2.1 dX4_many_1 (by rw [c1]; decide) (by rw [c1]; decide) (by rw [c1]; rfl) (by decide) ?_
      refine lv_aload_n X.1 X.2.1 dX4_many_94 rfl (lv_at hl 0 rfl) ?_
      refine w_calli cn w (w_runV (n := 0) (As := []) X cn w (lt17 (by decide)) wC_0 rfl (fun sz => c_X4_moneyOfInvoices l D ca ad E F L S n hJ sz) (bg_V kw_187 kw_189 kw_1 kw_31 kw_190) rfl rfl (by decide +kernel) ⟨(Nat.le_of_ble_eq_true rfl), (Nat.le_of_ble_eq_true rfl)⟩ rfl hl.1 rfl (Nat.le_of_ble_eq_true rfl) dX4_many_95 ⟨(Nat.zero_le _), (Nat.zero_le _)⟩) (fun r18 u H locs hp w => ?_)
      obtain ⟨E19, q20⟩ := u
      obtain ⟨rfl, h21⟩ := hp
      have h21 : q20 = (F, L, S, n) := h21
      subst h21
      exact vx_ret (w_iret X hr hlk w (by  exact ⟨by simp [erW, c1], by simp [s_many, s_count, s_total, c1], rfl⟩) dX4_many_98 rfl (Nat.zero_le _) (Nat.zero_le _))
    ·
      refine lv_tableIn (tgt := 99) X.1 X.2.1 dX4_many_1 (by rw [c1]; decide) (by rw [c1]; decide) (by rw [c1]; rfl) (by decide) ?_
      refine lv_aload_n X.1 X.2.1 dX4_many_99 rfl (lv_at hl 0 rfl) ?_
      refine w_calli cn w (w_runV (n := 0) (As := []) X cn w (lt17 (by decide)) wC_0 rfl (fun sz => c_X4_costOfJobs l D ca ad E F L S n hJ sz) (bg_V kw_191 kw_193 kw_2 kw_31 kw_194) rfl rfl (by decide +kernel) ⟨(Nat.le_of_ble_eq_true rfl), (Nat.le_of_ble_eq_true rfl)⟩ rfl hl.1 rfl (Nat.le_of_ble_eq_true rfl) dX4_many_100 ⟨(Nat.zero_le _), (Nat.zero_le _)⟩) (fun r22 u H locs hp w => ?_)
      obtain ⟨E23, q24⟩ := u
      obtain ⟨rfl, h25⟩ := hp
      have h25 : q24 = (F, L, S, n) := h25
      subst h25
      exact vx_ret (w_iret X hr hlk w (by  exact ⟨by simp [erW, c1], by simp [s_many, s_count, s_total, c1], rfl⟩) dX4_many_103 rfl (Nat.zero_le _) (Nat.zero_le _))
    ·
      refine lv_tableIn (tgt := 104) X.1 X.2.1 dX4_many_1 (by rw [c1]; decide) (by rw [c1]; decide) (by rw [c1]; rfl) (by decide) ?_
      refine lv_aload_n X.1 X.2.1 dX4_many_104 rfl (lv_at hl 0 rfl) ?_
      refine w_calli cn w (w_runV (n := 0) (As := []) X cn w (lt17 (by decide)) wC_0 rfl (fun sz => c_X4_worthOfStock l D ca ad E F L S n  sz) (bg_V kw_195 kw_197 kw_3 kw_31 kw_198) rfl rfl (by decide +kernel) ⟨(Nat.le_of_ble_eq_true rfl), (Nat.le_of_ble_eq_true rfl)⟩ rfl hl.1 rfl (Nat.le_of_ble_eq_true rfl) dX4_many_105 ⟨(Nat.zero_le _), (Nat.zero_le _)⟩) (fun r26 u H locs hp w => ?_)
      obtain ⟨E27, q28⟩ := u
      obtain ⟨rfl, h29⟩ := hp
      have h29 : q28 = (F, L, S, n) := h29
      subst h29
      exact vx_ret (w_iret X hr hlk w (by  exact ⟨by simp [erW, c1], by simp [s_many, s_count, s_total, c1], rfl⟩) dX4_many_108 rfl (Nat.zero_le _) (Nat.zero_le _))
    ·
      refine lv_tableIn (tgt := 109) X.1 X.2.1 dX4_many_1 (by rw [c1]; decide) (by rw [c1]; decide) (by rw [c1]; rfl) (by decide) ?_
      refine lv_aload_n X.1 X.2.1 dX4_many_109 rfl (lv_at hl 0 rfl) ?_
      refine g_L X w 7 (by decide) (v := .int (F 0 7)) rfl kw_152 dX4_many_110 ?_
      exact vx_ret (w_iret X hr hlk w (by  exact ⟨by simp [erW, c1], by simp [s_many, s_count, s_total, c1], rfl⟩) dX4_many_113 rfl (Nat.zero_le _) (Nat.zero_le _))
    ·
      refine lv_tableIn (tgt := 114) X.1 X.2.1 dX4_many_1 (by rw [c1]; decide) (by rw [c1]; decide) (by rw [c1]; rfl) (by decide) ?_
      refine lv_aload_n X.1 X.2.1 dX4_many_114 rfl (lv_at hl 0 rfl) ?_
      refine g_L X w 8 (by decide) (v := .int (F 0 8)) rfl kw_153 dX4_many_115 ?_
      exact vx_ret (w_iret X hr hlk w (by  exact ⟨by simp [erW, c1], by simp [s_many, s_count, s_total, c1], rfl⟩) dX4_many_118 rfl (Nat.zero_le _) (Nat.zero_le _))

set_option maxHeartbeats 4000000 in
set_option maxRecDepth 100000 in
theorem c_X4_profit (l : Launch) (D : va_G) (ca : Nat → ClassId) (ad : Nat → Nat) (E : Em) (F : Fm) (L : Lm) (S : Sm) (n : Nat) (hlt : l.stackTraces = false) (q : Nat → Nat) (wf : Wf F L S n q) (i : Int32) (mc ms : Nat) (hm : erI n i ≠ 0 → 1 ≤ mc ∧ 6 ≤ ms) (sz : Nat) : vx_Met l yX4_profit (.code yX4_profit cX4_profit 3 (some .int) :: BG) { frames := 7, cells := mc, slots := ms, locals := 117 } (Pw D ca ad (E, F, L, S, n) sz [.ref (ad 0), .int i]) (Qi D ca ad n (fun v u => erI n i = 0 ∧ v = s_worth F i.toNatClampNeg - F (17 + i.toNatClampNeg) 12 ∧ u.2 = (F, L, S, n)) sz) (Xq D ca ad n (erI n i) (fun u => u.2 = (F, L, S, n)) sz) mc ms (wA ad n sz) := by
  refine open_X (σ := (E, F, L, S, n)) (Qc := Qi D ca ad n (fun v u => erI n i = 0 ∧ v = s_worth F i.toNatClampNeg - F (17 + i.toNatClampNeg) 12 ∧ u.2 = (F, L, S, n))) (XC := Xq D ca ad n (erI n i) (fun u => u.2 = (F, L, S, n))) (by decide +kernel) (Nat.le_of_ble_eq_true rfl) ?_
  intro p e s m args below meth c X hr hlk hnt w cn ls hl
  have hl : lv_has ls 3 [(0, .ref (ad 0)), (1, .int i)] := hl
  have hs := wf.2.2.1
  have hJ := wf.2.1.2
  refine lv_aload_n X.1 X.2.1 dX4_profit_0 rfl (lv_at hl 0 rfl) ?_
  refine lv_iload_n X.1 X.2.1 dX4_profit_1 rfl (lv_at hl 1 rfl) ?_
  by_cases h2 : (erI n i) = 0
  ·
    refine w_callr cn w (w_runV (n := 1) (As := [.int i]) X cn w (lt17 (by decide)) wC_0 rfl (fun sz => met_of (c_X4_jobOf l D ca ad E F L S n hlt wf.2.1.2 wf.1 i 0 0 (fun h => (h h2).elim) sz) h2) (bg_V kw_384 kw_386 kw_18 kw_31 kw_387) rfl rfl (by decide +kernel) ⟨(Nat.le_of_ble_eq_true rfl), (Nat.le_of_ble_eq_true rfl)⟩ rfl hl.1 rfl (Nat.le_of_ble_eq_true rfl) dX4_profit_2 ⟨(Nat.zero_le _), (Nat.zero_le _)⟩) (fun r1 u H locs hp w => ?_)
    obtain ⟨-, rfl, rfl⟩ := hp
    refine W.eq (g2 := F0 m 5 ls [.ref (ad (17 + i.toNatClampNeg))]) rfl ?_
    refine lv_astore_n (lv' := [(2, .ref (ad (17 + i.toNatClampNeg))), (0, .ref (ad 0)), (1, .int i)]) X.1 X.2.1 dX4_profit_5 rfl hl (by decide) rfl (fun ls hl => ?_)
    refine lv_aload_n X.1 X.2.1 dX4_profit_6 rfl (lv_at hl 0 rfl) ?_
    refine w_calli cn w (w_runVN (n := 0) (As := []) X cn w (Nat.add_lt_add_left (cl_lt (in_erI h2)) 17) wC_J rfl (fun sz => c_X1_worth l D ca ad E F L S n i.toNatClampNeg (cl_lt (in_erI h2)) sz) kw_404 kw_406 kw_19 kw_42 kw_407 rfl rfl (by decide +kernel) ⟨(Nat.le_of_ble_eq_true rfl), (Nat.le_of_ble_eq_true rfl)⟩ rfl hl.1 rfl (Nat.le_of_ble_eq_true rfl) dX4_profit_7 ⟨(Nat.zero_le _), (Nat.zero_le _)⟩) (fun r3 u H locs hp w => ?_)
    obtain ⟨rfl, rfl⟩ := hp
    refine lv_aload_n X.1 X.2.1 dX4_profit_10 rfl (lv_at hl 0 rfl) ?_
    refine gn_J X cn w (cl_lt (in_erI h2)) 12 (by decide) (v := .int (F (17 + i.toNatClampNeg) 12)) rfl kw_488 dX4_profit_11 ?_
    refine lv_isub X.1 X.2.1 dX4_profit_14 ?_
    exact vx_ret (w_iret X hr hlk w (by  exact ⟨h2, rfl, rfl⟩) dX4_profit_15 rfl (Nat.zero_le _) (Nat.zero_le _))
  ·
    have hE : erI n i ≠ 0 ∧ exN ((erI n i)) = exN (erI n i) := by  simp [ne_eq, h2, erI_1 h2]
    have hm' := hm hE.1
    exact x_gone X hlk hnt cn w (xw_runV (n := 1) (As := [.int i]) X cn w (lt17 (by decide)) wC_0 rfl (fun sz => c_X4_jobOf l D ca ad E F L S n hlt wf.2.1.2 wf.1 i 1 6 (fun _ => ⟨Nat.le_refl 1, Nat.le_refl 6⟩) sz) (bg_V kw_384 kw_386 kw_18 kw_31 kw_387) rfl rfl (by decide +kernel) ⟨(Nat.le_of_ble_eq_true rfl), (Nat.le_of_ble_eq_true rfl)⟩ rfl hl.1 rfl (Nat.le_of_ble_eq_true rfl) dX4_profit_2 ⟨hm'.1, hm'.2⟩) (fun st v t hq => by obtain ⟨⟨r, u, -, hp, -⟩, -⟩ := hq; exact h2 hp.1) hE.2 hE.1 (fun u hu => hu) hm rfl rfl

set_option maxHeartbeats 4000000 in
set_option maxRecDepth 100000 in
theorem c_X4_bestPress (l : Launch) (D : va_G) (ca : Nat → ClassId) (ad : Nat → Nat) (E : Em) (F : Fm) (L : Lm) (S : Sm) (n : Nat) (hlt : l.stackTraces = false) (q : Nat → Nat) (wf : Wf F L S n q) (i : Int32) (mc ms : Nat) (hm : erI n i ≠ 0 → 1 ≤ mc ∧ 6 ≤ ms) (sz : Nat) : vx_Met l yX4_bestPress (.code yX4_bestPress cX4_bestPress 8 (some .int) :: BG) { frames := 7, cells := mc, slots := ms, locals := 117 } (Pw D ca ad (E, F, L, S, n) sz [.ref (ad 0), .int i]) (Qi D ca ad n (fun v u => erI n i = 0 ∧ v = s_best F S i.toNatClampNeg ∧ u.2 = (F, L, S, n)) sz) (Xq D ca ad n (erI n i) (fun u => u.2 = (F, L, S, n)) sz) mc ms (wA ad n sz) := by
  refine open_X (σ := (E, F, L, S, n)) (Qc := Qi D ca ad n (fun v u => erI n i = 0 ∧ v = s_best F S i.toNatClampNeg ∧ u.2 = (F, L, S, n))) (XC := Xq D ca ad n (erI n i) (fun u => u.2 = (F, L, S, n))) (by decide +kernel) (Nat.le_of_ble_eq_true rfl) ?_
  intro p e s m args below meth c X hr hlk hnt w cn ls hl
  have hl : lv_has ls 8 [(0, .ref (ad 0)), (1, .int i)] := hl
  have hs := wf.2.2.1
  have hJ := wf.2.1.2
  refine lv_aload_n X.1 X.2.1 dX4_bestPress_0 rfl (lv_at hl 0 rfl) ?_
  refine lv_iload_n X.1 X.2.1 dX4_bestPress_1 rfl (lv_at hl 1 rfl) ?_
  by_cases h2 : (erI n i) = 0
  ·
    refine w_callr cn w (w_runV (n := 1) (As := [.int i]) X cn w (lt17 (by decide)) wC_0 rfl (fun sz => met_of (c_X4_jobOf l D ca ad E F L S n hlt wf.2.1.2 wf.1 i 0 0 (fun h => (h h2).elim) sz) h2) (bg_V kw_384 kw_386 kw_18 kw_31 kw_387) rfl rfl (by decide +kernel) ⟨(Nat.le_of_ble_eq_true rfl), (Nat.le_of_ble_eq_true rfl)⟩ rfl hl.1 rfl (Nat.le_of_ble_eq_true rfl) dX4_bestPress_2 ⟨(Nat.zero_le _), (Nat.zero_le _)⟩) (fun r1 u H locs hp w => ?_)
    obtain ⟨-, rfl, rfl⟩ := hp
    refine W.eq (g2 := F0 m 5 ls [.ref (ad (17 + i.toNatClampNeg))]) rfl ?_
    refine lv_astore_n (lv' := [(2, .ref (ad (17 + i.toNatClampNeg))), (0, .ref (ad 0)), (1, .int i)]) X.1 X.2.1 dX4_bestPress_5 rfl hl (by decide) rfl (fun ls hl => ?_)
    refine lv_iconst (v := 0) X.1 X.2.1 dX4_bestPress_6 (by decide) ?_
    refine lv_istore_n (lv' := [(3, .int 0), (2, .ref (ad (17 + i.toNatClampNeg))), (0, .ref (ad 0)), (1, .int i)]) X.1 X.2.1 dX4_bestPress_7 rfl hl (by decide) rfl (fun ls hl => ?_)
    refine lv_ldcw (v := 2147483647) X.1 X.2.1 X.2.2.2.1 (X.2.2.2.2 _ kw_399) dX4_bestPress_8 ?_
    refine lv_istore (lv' := [(4, .int 2147483647), (3, .int 0), (2, .ref (ad (17 + i.toNatClampNeg))), (0, .ref (ad 0)), (1, .int i)]) X.1 X.2.1 dX4_bestPress_11 hl (by decide) rfl (fun ls hl => ?_)
    refine lv_iconst (v := 0) X.1 X.2.1 dX4_bestPress_13 (by decide) ?_
    refine lv_istore (lv' := [(5, .int 0), (4, .int 2147483647), (3, .int 0), (2, .ref (ad (17 + i.toNatClampNeg))), (0, .ref (ad 0)), (1, .int i)]) X.1 X.2.1 dX4_bestPress_14 hl (by decide) rfl (fun ls hl => ?_)
    refine lv_iload X.1 X.2.1 dX4_bestPress_16 (lv_at hl 0 rfl) ?_
    refine lv_aload_n X.1 X.2.1 dX4_bestPress_18 rfl (lv_at hl 4 rfl) ?_
    refine g_L X w 1 (by decide) (v := .ref (ad 15)) rfl kw_146 dX4_bestPress_19 ?_
    refine len_R X w dX4_bestPress_22 ?_
    refine lv_icmp_ge (tgt := 77) X.1 X.2.1 dX4_bestPress_23 (by decide) (fun c3 => ?_) (fun c3 => ?_)
    ·
      exact absurd c3 (by decide)
    ·
      refine lv_aload_n X.1 X.2.1 dX4_bestPress_26 rfl (lv_at hl 4 rfl) ?_
      refine g_L X w 1 (by decide) (v := .ref (ad 15)) rfl kw_146 dX4_bestPress_27 ?_
      refine lv_iload X.1 X.2.1 dX4_bestPress_30 (lv_at hl 0 rfl) ?_
      refine ld_R X w (in_lit (by decide)) dX4_bestPress_32 ?_
      refine W.eq (g2 := F0 m 33 ls [.ref (ad 6)]) rfl ?_
      refine lv_astore (lv' := [(6, .ref (ad 6)), (5, .int 0), (4, .int 2147483647), (3, .int 0), (2, .ref (ad (17 + i.toNatClampNeg))), (0, .ref (ad 0)), (1, .int i)]) X.1 X.2.1 dX4_bestPress_33 hl (by decide) rfl (fun ls hl => ?_)
      refine lv_aload X.1 X.2.1 dX4_bestPress_35 (lv_at hl 0 rfl) ?_
      refine lv_ifnull X.1 X.2.1 dX4_bestPress_37 ?_
      refine lv_aload_n X.1 X.2.1 dX4_bestPress_40 rfl (lv_at hl 5 rfl) ?_
      refine lv_aload_n X.1 X.2.1 dX4_bestPress_41 rfl (lv_at hl 4 rfl) ?_
      refine lv_aload X.1 X.2.1 dX4_bestPress_42 (lv_at hl 0 rfl) ?_
      refine lv_aload X.1 X.2.1 dX4_bestPress_44 (lv_at hl 0 rfl) ?_
      refine gn_R X cn w (by decide : 6 ≤ 6 ∧ 6 < 10) 1 (by decide) (v := .int (F 6 1)) rfl kw_91 dX4_bestPress_46 ?_
      refine w_callr cn w (w_runV (n := 3) (As := [.ref (ad (17 + i.toNatClampNeg)), .ref (ad 6), .int (F 6 1)]) X cn w (lt17 (by decide)) wC_0 rfl (fun sz => c_X4_expect l D ca ad E F L S n i.toNatClampNeg (cl_lt (in_erI h2)) 6 (by decide : 6 ≤ 6 ∧ 6 < 10) (F 6 1) hs sz) (bg_V kw_310 kw_312 kw_9 kw_31 kw_313) rfl rfl (by decide +kernel) ⟨(Nat.le_of_ble_eq_true rfl), (Nat.le_of_ble_eq_true rfl)⟩ rfl hl.1 rfl (Nat.le_of_ble_eq_true rfl) dX4_bestPress_49 ⟨(Nat.zero_le _), (Nat.zero_le _)⟩) (fun r4 u H locs hp w => ?_)
      obtain ⟨rfl, rfl⟩ := hp
      refine W.eq (g2 := F0 m 52 ls [.ref (ad 1)]) rfl ?_
      refine gn_E X cn w 5 (by decide) (v := .int ((s_exp E F S 6 i.toNatClampNeg (F 6 1)) 5)) rfl kw_128 dX4_bestPress_52 ?_
      refine W.eq (g2 := F0 m 55 ls [.int (s_cost F S 6 i.toNatClampNeg (F 6 1))]) rfl ?_
      refine lv_topi (fun x5 ex5 => ?_)
      refine lv_istore (lv' := [(7, .int x5), (6, .ref (ad 6)), (5, .int 0), (4, .int 2147483647), (3, .int 0), (2, .ref (ad (17 + i.toNatClampNeg))), (0, .ref (ad 0)), (1, .int i)]) X.1 X.2.1 dX4_bestPress_55 hl (by decide) rfl (fun ls hl => ?_)
      refine lv_iload X.1 X.2.1 dX4_bestPress_57 (lv_at hl 0 rfl) ?_
      refine lv_iload X.1 X.2.1 dX4_bestPress_59 (lv_at hl 3 rfl) ?_
      refine lv_icmp_ge (tgt := 71) X.1 X.2.1 dX4_bestPress_61 (by decide) (fun c6 => ?_) (fun c6 => ?_)
      ·
        refine lv_iinc (v := 1) (lv' := [(5, .int 1), (7, .int x5), (6, .ref (ad 6)), (4, .int 2147483647), (3, .int 0), (2, .ref (ad (17 + i.toNatClampNeg))), (0, .ref (ad 0)), (1, .int i)]) X.1 X.2.1 dX4_bestPress_71 hl (k := 2) rfl (by decide) (by decide) rfl (fun ls hl => ?_)
        refine lv_goto (tgt := 16) X.1 X.2.1 dX4_bestPress_74 (by decide) ?_
        refine lv_iload X.1 X.2.1 dX4_bestPress_16 (lv_at hl 0 rfl) ?_
        refine lv_aload_n X.1 X.2.1 dX4_bestPress_18 rfl (lv_at hl 6 rfl) ?_
        refine g_L X w 1 (by decide) (v := .ref (ad 15)) rfl kw_146 dX4_bestPress_19 ?_
        refine len_R X w dX4_bestPress_22 ?_
        refine lv_icmp_ge (tgt := 77) X.1 X.2.1 dX4_bestPress_23 (by decide) (fun c7 => ?_) (fun c7 => ?_)
        ·
          exact absurd c7 (by decide)
        ·
          refine lv_aload_n X.1 X.2.1 dX4_bestPress_26 rfl (lv_at hl 6 rfl) ?_
          refine g_L X w 1 (by decide) (v := .ref (ad 15)) rfl kw_146 dX4_bestPress_27 ?_
          refine lv_iload X.1 X.2.1 dX4_bestPress_30 (lv_at hl 0 rfl) ?_
          refine ld_R X w (in_lit (by decide)) dX4_bestPress_32 ?_
          refine W.eq (g2 := F0 m 33 ls [.ref (ad 7)]) rfl ?_
          refine lv_astore (lv' := [(6, .ref (ad 7)), (5, .int 1), (7, .int x5), (4, .int 2147483647), (3, .int 0), (2, .ref (ad (17 + i.toNatClampNeg))), (0, .ref (ad 0)), (1, .int i)]) X.1 X.2.1 dX4_bestPress_33 hl (by decide) rfl (fun ls hl => ?_)
          refine lv_aload X.1 X.2.1 dX4_bestPress_35 (lv_at hl 0 rfl) ?_
          refine lv_ifnull X.1 X.2.1 dX4_bestPress_37 ?_
          refine lv_aload_n X.1 X.2.1 dX4_bestPress_40 rfl (lv_at hl 6 rfl) ?_
          refine lv_aload_n X.1 X.2.1 dX4_bestPress_41 rfl (lv_at hl 5 rfl) ?_
          refine lv_aload X.1 X.2.1 dX4_bestPress_42 (lv_at hl 0 rfl) ?_
          refine lv_aload X.1 X.2.1 dX4_bestPress_44 (lv_at hl 0 rfl) ?_
          refine gn_R X cn w (by decide : 6 ≤ 7 ∧ 7 < 10) 1 (by decide) (v := .int (F 7 1)) rfl kw_91 dX4_bestPress_46 ?_
          refine w_callr cn w (w_runV (n := 3) (As := [.ref (ad (17 + i.toNatClampNeg)), .ref (ad 7), .int (F 7 1)]) X cn w (lt17 (by decide)) wC_0 rfl (fun sz => c_X4_expect l D ca ad (s_exp E F S 6 i.toNatClampNeg (F 6 1)) F L S n i.toNatClampNeg (cl_lt (in_erI h2)) 7 (by decide : 6 ≤ 7 ∧ 7 < 10) (F 7 1) hs sz) (bg_V kw_310 kw_312 kw_9 kw_31 kw_313) rfl rfl (by decide +kernel) ⟨(Nat.le_of_ble_eq_true rfl), (Nat.le_of_ble_eq_true rfl)⟩ rfl hl.1 rfl (Nat.le_of_ble_eq_true rfl) dX4_bestPress_49 ⟨(Nat.zero_le _), (Nat.zero_le _)⟩) (fun r8 u H locs hp w => ?_)
          obtain ⟨rfl, rfl⟩ := hp
          refine W.eq (g2 := F0 m 52 ls [.ref (ad 1)]) rfl ?_
          refine gn_E X cn w 5 (by decide) (v := .int ((s_exp (s_exp E F S 6 i.toNatClampNeg (F 6 1)) F S 7 i.toNatClampNeg (F 7 1)) 5)) rfl kw_128 dX4_bestPress_52 ?_
          refine W.eq (g2 := F0 m 55 ls [.int (s_cost F S 7 i.toNatClampNeg (F 7 1))]) rfl ?_
          refine lv_topi (fun x9 ex9 => ?_)
          refine lv_istore (lv' := [(7, .int x9), (6, .ref (ad 7)), (5, .int 1), (4, .int 2147483647), (3, .int 0), (2, .ref (ad (17 + i.toNatClampNeg))), (0, .ref (ad 0)), (1, .int i)]) X.1 X.2.1 dX4_bestPress_55 hl (by decide) rfl (fun ls hl => ?_)
          refine lv_iload X.1 X.2.1 dX4_bestPress_57 (lv_at hl 0 rfl) ?_
          refine lv_iload X.1 X.2.1 dX4_bestPress_59 (lv_at hl 3 rfl) ?_
          refine lv_icmp_ge (tgt := 71) X.1 X.2.1 dX4_bestPress_61 (by decide) (fun c10 => ?_) (fun c10 => ?_)
          ·
            refine lv_iinc (v := 2) (lv' := [(5, .int 2), (7, .int x9), (6, .ref (ad 7)), (4, .int 2147483647), (3, .int 0), (2, .ref (ad (17 + i.toNatClampNeg))), (0, .ref (ad 0)), (1, .int i)]) X.1 X.2.1 dX4_bestPress_71 hl (k := 2) rfl (by decide) (by decide) rfl (fun ls hl => ?_)
            refine lv_goto (tgt := 16) X.1 X.2.1 dX4_bestPress_74 (by decide) ?_
            refine lv_iload X.1 X.2.1 dX4_bestPress_16 (lv_at hl 0 rfl) ?_
            refine lv_aload_n X.1 X.2.1 dX4_bestPress_18 rfl (lv_at hl 6 rfl) ?_
            refine g_L X w 1 (by decide) (v := .ref (ad 15)) rfl kw_146 dX4_bestPress_19 ?_
            refine len_R X w dX4_bestPress_22 ?_
            refine lv_icmp_ge (tgt := 77) X.1 X.2.1 dX4_bestPress_23 (by decide) (fun c11 => ?_) (fun c11 => ?_)
            ·
              exact absurd c11 (by decide)
            ·
              refine lv_aload_n X.1 X.2.1 dX4_bestPress_26 rfl (lv_at hl 6 rfl) ?_
              refine g_L X w 1 (by decide) (v := .ref (ad 15)) rfl kw_146 dX4_bestPress_27 ?_
              refine lv_iload X.1 X.2.1 dX4_bestPress_30 (lv_at hl 0 rfl) ?_
              refine ld_R X w (in_lit (by decide)) dX4_bestPress_32 ?_
              refine W.eq (g2 := F0 m 33 ls [.ref (ad 8)]) rfl ?_
              refine lv_astore (lv' := [(6, .ref (ad 8)), (5, .int 2), (7, .int x9), (4, .int 2147483647), (3, .int 0), (2, .ref (ad (17 + i.toNatClampNeg))), (0, .ref (ad 0)), (1, .int i)]) X.1 X.2.1 dX4_bestPress_33 hl (by decide) rfl (fun ls hl => ?_)
              refine lv_aload X.1 X.2.1 dX4_bestPress_35 (lv_at hl 0 rfl) ?_
              refine lv_ifnull X.1 X.2.1 dX4_bestPress_37 ?_
              refine lv_aload_n X.1 X.2.1 dX4_bestPress_40 rfl (lv_at hl 6 rfl) ?_
              refine lv_aload_n X.1 X.2.1 dX4_bestPress_41 rfl (lv_at hl 5 rfl) ?_
              refine lv_aload X.1 X.2.1 dX4_bestPress_42 (lv_at hl 0 rfl) ?_
              refine lv_aload X.1 X.2.1 dX4_bestPress_44 (lv_at hl 0 rfl) ?_
              refine gn_R X cn w (by decide : 6 ≤ 8 ∧ 8 < 10) 1 (by decide) (v := .int (F 8 1)) rfl kw_91 dX4_bestPress_46 ?_
              refine w_callr cn w (w_runV (n := 3) (As := [.ref (ad (17 + i.toNatClampNeg)), .ref (ad 8), .int (F 8 1)]) X cn w (lt17 (by decide)) wC_0 rfl (fun sz => c_X4_expect l D ca ad (s_exp (s_exp E F S 6 i.toNatClampNeg (F 6 1)) F S 7 i.toNatClampNeg (F 7 1)) F L S n i.toNatClampNeg (cl_lt (in_erI h2)) 8 (by decide : 6 ≤ 8 ∧ 8 < 10) (F 8 1) hs sz) (bg_V kw_310 kw_312 kw_9 kw_31 kw_313) rfl rfl (by decide +kernel) ⟨(Nat.le_of_ble_eq_true rfl), (Nat.le_of_ble_eq_true rfl)⟩ rfl hl.1 rfl (Nat.le_of_ble_eq_true rfl) dX4_bestPress_49 ⟨(Nat.zero_le _), (Nat.zero_le _)⟩) (fun r12 u H locs hp w => ?_)
              obtain ⟨rfl, rfl⟩ := hp
              refine W.eq (g2 := F0 m 52 ls [.ref (ad 1)]) rfl ?_
              refine gn_E X cn w 5 (by decide) (v := .int ((s_exp (s_exp (s_exp E F S 6 i.toNatClampNeg (F 6 1)) F S 7 i.toNatClampNeg (F 7 1)) F S 8 i.toNatClampNeg (F 8 1)) 5)) rfl kw_128 dX4_bestPress_52 ?_
              refine W.eq (g2 := F0 m 55 ls [.int (s_cost F S 8 i.toNatClampNeg (F 8 1))]) rfl ?_
              refine lv_topi (fun x13 ex13 => ?_)
              refine lv_istore (lv' := [(7, .int x13), (6, .ref (ad 8)), (5, .int 2), (4, .int 2147483647), (3, .int 0), (2, .ref (ad (17 + i.toNatClampNeg))), (0, .ref (ad 0)), (1, .int i)]) X.1 X.2.1 dX4_bestPress_55 hl (by decide) rfl (fun ls hl => ?_)
              refine lv_iload X.1 X.2.1 dX4_bestPress_57 (lv_at hl 0 rfl) ?_
              refine lv_iload X.1 X.2.1 dX4_bestPress_59 (lv_at hl 3 rfl) ?_
              refine lv_icmp_ge (tgt := 71) X.1 X.2.1 dX4_bestPress_61 (by decide) (fun c14 => ?_) (fun c14 => ?_)
              ·
                refine lv_iinc (v := 3) (lv' := [(5, .int 3), (7, .int x13), (6, .ref (ad 8)), (4, .int 2147483647), (3, .int 0), (2, .ref (ad (17 + i.toNatClampNeg))), (0, .ref (ad 0)), (1, .int i)]) X.1 X.2.1 dX4_bestPress_71 hl (k := 2) rfl (by decide) (by decide) rfl (fun ls hl => ?_)
                refine lv_goto (tgt := 16) X.1 X.2.1 dX4_bestPress_74 (by decide) ?_
                refine lv_iload X.1 X.2.1 dX4_bestPress_16 (lv_at hl 0 rfl) ?_
                refine lv_aload_n X.1 X.2.1 dX4_bestPress_18 rfl (lv_at hl 6 rfl) ?_
                refine g_L X w 1 (by decide) (v := .ref (ad 15)) rfl kw_146 dX4_bestPress_19 ?_
                refine len_R X w dX4_bestPress_22 ?_
                refine lv_icmp_ge (tgt := 77) X.1 X.2.1 dX4_bestPress_23 (by decide) (fun c15 => ?_) (fun c15 => ?_)
                ·
                  refine lv_iload_n X.1 X.2.1 dX4_bestPress_77 rfl (lv_at hl 4 rfl) ?_
                  exact vx_ret (w_iret X hr hlk w (by subst ex13; subst ex9; subst ex5; exact ⟨h2, by simp [s_best, s_bs, c3, c6, c7, c10, c11, c14, c15], rfl⟩) dX4_bestPress_78 rfl (Nat.zero_le _) (Nat.zero_le _))
                ·
                  exact absurd (by decide) c15
              ·
                refine lv_iload X.1 X.2.1 dX4_bestPress_64 (lv_at hl 2 rfl) ?_
                refine lv_istore_n (lv' := [(3, .int 2), (7, .int x13), (6, .ref (ad 8)), (5, .int 2), (4, .int 2147483647), (2, .ref (ad (17 + i.toNatClampNeg))), (0, .ref (ad 0)), (1, .int i)]) X.1 X.2.1 dX4_bestPress_66 rfl hl (by decide) rfl (fun ls hl => ?_)
                refine lv_iload X.1 X.2.1 dX4_bestPress_67 (lv_at hl 1 rfl) ?_
                refine lv_istore (lv' := [(4, .int x13), (3, .int 2), (7, .int x13), (6, .ref (ad 8)), (5, .int 2), (2, .ref (ad (17 + i.toNatClampNeg))), (0, .ref (ad 0)), (1, .int i)]) X.1 X.2.1 dX4_bestPress_69 hl (by decide) rfl (fun ls hl => ?_)
                refine lv_iinc (v := 3) (lv' := [(5, .int 3), (4, .int x13), (3, .int 2), (7, .int x13), (6, .ref (ad 8)), (2, .ref (ad (17 + i.toNatClampNeg))), (0, .ref (ad 0)), (1, .int i)]) X.1 X.2.1 dX4_bestPress_71 hl (k := 4) rfl (by decide) (by decide) rfl (fun ls hl => ?_)
                refine lv_goto (tgt := 16) X.1 X.2.1 dX4_bestPress_74 (by decide) ?_
                refine lv_iload X.1 X.2.1 dX4_bestPress_16 (lv_at hl 0 rfl) ?_
                refine lv_aload_n X.1 X.2.1 dX4_bestPress_18 rfl (lv_at hl 6 rfl) ?_
                refine g_L X w 1 (by decide) (v := .ref (ad 15)) rfl kw_146 dX4_bestPress_19 ?_
                refine len_R X w dX4_bestPress_22 ?_
                refine lv_icmp_ge (tgt := 77) X.1 X.2.1 dX4_bestPress_23 (by decide) (fun c16 => ?_) (fun c16 => ?_)
                ·
                  refine lv_iload_n X.1 X.2.1 dX4_bestPress_77 rfl (lv_at hl 2 rfl) ?_
                  exact vx_ret (w_iret X hr hlk w (by subst ex13; subst ex9; subst ex5; exact ⟨h2, by simp [s_best, s_bs, c3, c6, c7, c10, c11, c14, c16], rfl⟩) dX4_bestPress_78 rfl (Nat.zero_le _) (Nat.zero_le _))
                ·
                  exact absurd (by decide) c16
          ·
            refine lv_iload X.1 X.2.1 dX4_bestPress_64 (lv_at hl 2 rfl) ?_
            refine lv_istore_n (lv' := [(3, .int 1), (7, .int x9), (6, .ref (ad 7)), (5, .int 1), (4, .int 2147483647), (2, .ref (ad (17 + i.toNatClampNeg))), (0, .ref (ad 0)), (1, .int i)]) X.1 X.2.1 dX4_bestPress_66 rfl hl (by decide) rfl (fun ls hl => ?_)
            refine lv_iload X.1 X.2.1 dX4_bestPress_67 (lv_at hl 1 rfl) ?_
            refine lv_istore (lv' := [(4, .int x9), (3, .int 1), (7, .int x9), (6, .ref (ad 7)), (5, .int 1), (2, .ref (ad (17 + i.toNatClampNeg))), (0, .ref (ad 0)), (1, .int i)]) X.1 X.2.1 dX4_bestPress_69 hl (by decide) rfl (fun ls hl => ?_)
            refine lv_iinc (v := 2) (lv' := [(5, .int 2), (4, .int x9), (3, .int 1), (7, .int x9), (6, .ref (ad 7)), (2, .ref (ad (17 + i.toNatClampNeg))), (0, .ref (ad 0)), (1, .int i)]) X.1 X.2.1 dX4_bestPress_71 hl (k := 4) rfl (by decide) (by decide) rfl (fun ls hl => ?_)
            refine lv_goto (tgt := 16) X.1 X.2.1 dX4_bestPress_74 (by decide) ?_
            refine lv_iload X.1 X.2.1 dX4_bestPress_16 (lv_at hl 0 rfl) ?_
            refine lv_aload_n X.1 X.2.1 dX4_bestPress_18 rfl (lv_at hl 6 rfl) ?_
            refine g_L X w 1 (by decide) (v := .ref (ad 15)) rfl kw_146 dX4_bestPress_19 ?_
            refine len_R X w dX4_bestPress_22 ?_
            refine lv_icmp_ge (tgt := 77) X.1 X.2.1 dX4_bestPress_23 (by decide) (fun c17 => ?_) (fun c17 => ?_)
            ·
              exact absurd c17 (by decide)
            ·
              refine lv_aload_n X.1 X.2.1 dX4_bestPress_26 rfl (lv_at hl 6 rfl) ?_
              refine g_L X w 1 (by decide) (v := .ref (ad 15)) rfl kw_146 dX4_bestPress_27 ?_
              refine lv_iload X.1 X.2.1 dX4_bestPress_30 (lv_at hl 0 rfl) ?_
              refine ld_R X w (in_lit (by decide)) dX4_bestPress_32 ?_
              refine W.eq (g2 := F0 m 33 ls [.ref (ad 8)]) rfl ?_
              refine lv_astore (lv' := [(6, .ref (ad 8)), (5, .int 2), (4, .int x9), (3, .int 1), (7, .int x9), (2, .ref (ad (17 + i.toNatClampNeg))), (0, .ref (ad 0)), (1, .int i)]) X.1 X.2.1 dX4_bestPress_33 hl (by decide) rfl (fun ls hl => ?_)
              refine lv_aload X.1 X.2.1 dX4_bestPress_35 (lv_at hl 0 rfl) ?_
              refine lv_ifnull X.1 X.2.1 dX4_bestPress_37 ?_
              refine lv_aload_n X.1 X.2.1 dX4_bestPress_40 rfl (lv_at hl 6 rfl) ?_
              refine lv_aload_n X.1 X.2.1 dX4_bestPress_41 rfl (lv_at hl 5 rfl) ?_
              refine lv_aload X.1 X.2.1 dX4_bestPress_42 (lv_at hl 0 rfl) ?_
              refine lv_aload X.1 X.2.1 dX4_bestPress_44 (lv_at hl 0 rfl) ?_
              refine gn_R X cn w (by decide : 6 ≤ 8 ∧ 8 < 10) 1 (by decide) (v := .int (F 8 1)) rfl kw_91 dX4_bestPress_46 ?_
              refine w_callr cn w (w_runV (n := 3) (As := [.ref (ad (17 + i.toNatClampNeg)), .ref (ad 8), .int (F 8 1)]) X cn w (lt17 (by decide)) wC_0 rfl (fun sz => c_X4_expect l D ca ad (s_exp (s_exp E F S 6 i.toNatClampNeg (F 6 1)) F S 7 i.toNatClampNeg (F 7 1)) F L S n i.toNatClampNeg (cl_lt (in_erI h2)) 8 (by decide : 6 ≤ 8 ∧ 8 < 10) (F 8 1) hs sz) (bg_V kw_310 kw_312 kw_9 kw_31 kw_313) rfl rfl (by decide +kernel) ⟨(Nat.le_of_ble_eq_true rfl), (Nat.le_of_ble_eq_true rfl)⟩ rfl hl.1 rfl (Nat.le_of_ble_eq_true rfl) dX4_bestPress_49 ⟨(Nat.zero_le _), (Nat.zero_le _)⟩) (fun r18 u H locs hp w => ?_)
              obtain ⟨rfl, rfl⟩ := hp
              refine W.eq (g2 := F0 m 52 ls [.ref (ad 1)]) rfl ?_
              refine gn_E X cn w 5 (by decide) (v := .int ((s_exp (s_exp (s_exp E F S 6 i.toNatClampNeg (F 6 1)) F S 7 i.toNatClampNeg (F 7 1)) F S 8 i.toNatClampNeg (F 8 1)) 5)) rfl kw_128 dX4_bestPress_52 ?_
              refine W.eq (g2 := F0 m 55 ls [.int (s_cost F S 8 i.toNatClampNeg (F 8 1))]) rfl ?_
              refine lv_topi (fun x19 ex19 => ?_)
              refine lv_istore (lv' := [(7, .int x19), (6, .ref (ad 8)), (5, .int 2), (4, .int x9), (3, .int 1), (2, .ref (ad (17 + i.toNatClampNeg))), (0, .ref (ad 0)), (1, .int i)]) X.1 X.2.1 dX4_bestPress_55 hl (by decide) rfl (fun ls hl => ?_)
              refine lv_iload X.1 X.2.1 dX4_bestPress_57 (lv_at hl 0 rfl) ?_
              refine lv_iload X.1 X.2.1 dX4_bestPress_59 (lv_at hl 3 rfl) ?_
              refine lv_icmp_ge (tgt := 71) X.1 X.2.1 dX4_bestPress_61 (by decide) (fun c20 => ?_) (fun c20 => ?_)
              ·
                refine lv_iinc (v := 3) (lv' := [(5, .int 3), (7, .int x19), (6, .ref (ad 8)), (4, .int x9), (3, .int 1), (2, .ref (ad (17 + i.toNatClampNeg))), (0, .ref (ad 0)), (1, .int i)]) X.1 X.2.1 dX4_bestPress_71 hl (k := 2) rfl (by decide) (by decide) rfl (fun ls hl => ?_)
                refine lv_goto (tgt := 16) X.1 X.2.1 dX4_bestPress_74 (by decide) ?_
                refine lv_iload X.1 X.2.1 dX4_bestPress_16 (lv_at hl 0 rfl) ?_
                refine lv_aload_n X.1 X.2.1 dX4_bestPress_18 rfl (lv_at hl 6 rfl) ?_
                refine g_L X w 1 (by decide) (v := .ref (ad 15)) rfl kw_146 dX4_bestPress_19 ?_
                refine len_R X w dX4_bestPress_22 ?_
                refine lv_icmp_ge (tgt := 77) X.1 X.2.1 dX4_bestPress_23 (by decide) (fun c21 => ?_) (fun c21 => ?_)
                ·
                  refine lv_iload_n X.1 X.2.1 dX4_bestPress_77 rfl (lv_at hl 4 rfl) ?_
                  exact vx_ret (w_iret X hr hlk w (by subst ex19; subst ex9; subst ex5; exact ⟨h2, by simp [s_best, s_bs, c3, c6, c7, c10, c17, c20, c21], rfl⟩) dX4_bestPress_78 rfl (Nat.zero_le _) (Nat.zero_le _))
                ·
                  exact absurd (by decide) c21
              ·
                refine lv_iload X.1 X.2.1 dX4_bestPress_64 (lv_at hl 2 rfl) ?_
                refine lv_istore_n (lv' := [(3, .int 2), (7, .int x19), (6, .ref (ad 8)), (5, .int 2), (4, .int x9), (2, .ref (ad (17 + i.toNatClampNeg))), (0, .ref (ad 0)), (1, .int i)]) X.1 X.2.1 dX4_bestPress_66 rfl hl (by decide) rfl (fun ls hl => ?_)
                refine lv_iload X.1 X.2.1 dX4_bestPress_67 (lv_at hl 1 rfl) ?_
                refine lv_istore (lv' := [(4, .int x19), (3, .int 2), (7, .int x19), (6, .ref (ad 8)), (5, .int 2), (2, .ref (ad (17 + i.toNatClampNeg))), (0, .ref (ad 0)), (1, .int i)]) X.1 X.2.1 dX4_bestPress_69 hl (by decide) rfl (fun ls hl => ?_)
                refine lv_iinc (v := 3) (lv' := [(5, .int 3), (4, .int x19), (3, .int 2), (7, .int x19), (6, .ref (ad 8)), (2, .ref (ad (17 + i.toNatClampNeg))), (0, .ref (ad 0)), (1, .int i)]) X.1 X.2.1 dX4_bestPress_71 hl (k := 4) rfl (by decide) (by decide) rfl (fun ls hl => ?_)
                refine lv_goto (tgt := 16) X.1 X.2.1 dX4_bestPress_74 (by decide) ?_
                refine lv_iload X.1 X.2.1 dX4_bestPress_16 (lv_at hl 0 rfl) ?_
                refine lv_aload_n X.1 X.2.1 dX4_bestPress_18 rfl (lv_at hl 6 rfl) ?_
                refine g_L X w 1 (by decide) (v := .ref (ad 15)) rfl kw_146 dX4_bestPress_19 ?_
                refine len_R X w dX4_bestPress_22 ?_
                refine lv_icmp_ge (tgt := 77) X.1 X.2.1 dX4_bestPress_23 (by decide) (fun c22 => ?_) (fun c22 => ?_)
                ·
                  refine lv_iload_n X.1 X.2.1 dX4_bestPress_77 rfl (lv_at hl 2 rfl) ?_
                  exact vx_ret (w_iret X hr hlk w (by subst ex19; subst ex9; subst ex5; exact ⟨h2, by simp [s_best, s_bs, c3, c6, c7, c10, c17, c20, c22], rfl⟩) dX4_bestPress_78 rfl (Nat.zero_le _) (Nat.zero_le _))
                ·
                  exact absurd (by decide) c22
      ·
        refine lv_iload X.1 X.2.1 dX4_bestPress_64 (lv_at hl 2 rfl) ?_
        refine lv_istore_n (lv' := [(3, .int 0), (7, .int x5), (6, .ref (ad 6)), (5, .int 0), (4, .int 2147483647), (2, .ref (ad (17 + i.toNatClampNeg))), (0, .ref (ad 0)), (1, .int i)]) X.1 X.2.1 dX4_bestPress_66 rfl hl (by decide) rfl (fun ls hl => ?_)
        refine lv_iload X.1 X.2.1 dX4_bestPress_67 (lv_at hl 1 rfl) ?_
        refine lv_istore (lv' := [(4, .int x5), (3, .int 0), (7, .int x5), (6, .ref (ad 6)), (5, .int 0), (2, .ref (ad (17 + i.toNatClampNeg))), (0, .ref (ad 0)), (1, .int i)]) X.1 X.2.1 dX4_bestPress_69 hl (by decide) rfl (fun ls hl => ?_)
        refine lv_iinc (v := 1) (lv' := [(5, .int 1), (4, .int x5), (3, .int 0), (7, .int x5), (6, .ref (ad 6)), (2, .ref (ad (17 + i.toNatClampNeg))), (0, .ref (ad 0)), (1, .int i)]) X.1 X.2.1 dX4_bestPress_71 hl (k := 4) rfl (by decide) (by decide) rfl (fun ls hl => ?_)
        refine lv_goto (tgt := 16) X.1 X.2.1 dX4_bestPress_74 (by decide) ?_
        refine lv_iload X.1 X.2.1 dX4_bestPress_16 (lv_at hl 0 rfl) ?_
        refine lv_aload_n X.1 X.2.1 dX4_bestPress_18 rfl (lv_at hl 6 rfl) ?_
        refine g_L X w 1 (by decide) (v := .ref (ad 15)) rfl kw_146 dX4_bestPress_19 ?_
        refine len_R X w dX4_bestPress_22 ?_
        refine lv_icmp_ge (tgt := 77) X.1 X.2.1 dX4_bestPress_23 (by decide) (fun c23 => ?_) (fun c23 => ?_)
        ·
          exact absurd c23 (by decide)
        ·
          refine lv_aload_n X.1 X.2.1 dX4_bestPress_26 rfl (lv_at hl 6 rfl) ?_
          refine g_L X w 1 (by decide) (v := .ref (ad 15)) rfl kw_146 dX4_bestPress_27 ?_
          refine lv_iload X.1 X.2.1 dX4_bestPress_30 (lv_at hl 0 rfl) ?_
          refine ld_R X w (in_lit (by decide)) dX4_bestPress_32 ?_
          refine W.eq (g2 := F0 m 33 ls [.ref (ad 7)]) rfl ?_
          refine lv_astore (lv' := [(6, .ref (ad 7)), (5, .int 1), (4, .int x5), (3, .int 0), (7, .int x5), (2, .ref (ad (17 + i.toNatClampNeg))), (0, .ref (ad 0)), (1, .int i)]) X.1 X.2.1 dX4_bestPress_33 hl (by decide) rfl (fun ls hl => ?_)
          refine lv_aload X.1 X.2.1 dX4_bestPress_35 (lv_at hl 0 rfl) ?_
          refine lv_ifnull X.1 X.2.1 dX4_bestPress_37 ?_
          refine lv_aload_n X.1 X.2.1 dX4_bestPress_40 rfl (lv_at hl 6 rfl) ?_
          refine lv_aload_n X.1 X.2.1 dX4_bestPress_41 rfl (lv_at hl 5 rfl) ?_
          refine lv_aload X.1 X.2.1 dX4_bestPress_42 (lv_at hl 0 rfl) ?_
          refine lv_aload X.1 X.2.1 dX4_bestPress_44 (lv_at hl 0 rfl) ?_
          refine gn_R X cn w (by decide : 6 ≤ 7 ∧ 7 < 10) 1 (by decide) (v := .int (F 7 1)) rfl kw_91 dX4_bestPress_46 ?_
          refine w_callr cn w (w_runV (n := 3) (As := [.ref (ad (17 + i.toNatClampNeg)), .ref (ad 7), .int (F 7 1)]) X cn w (lt17 (by decide)) wC_0 rfl (fun sz => c_X4_expect l D ca ad (s_exp E F S 6 i.toNatClampNeg (F 6 1)) F L S n i.toNatClampNeg (cl_lt (in_erI h2)) 7 (by decide : 6 ≤ 7 ∧ 7 < 10) (F 7 1) hs sz) (bg_V kw_310 kw_312 kw_9 kw_31 kw_313) rfl rfl (by decide +kernel) ⟨(Nat.le_of_ble_eq_true rfl), (Nat.le_of_ble_eq_true rfl)⟩ rfl hl.1 rfl (Nat.le_of_ble_eq_true rfl) dX4_bestPress_49 ⟨(Nat.zero_le _), (Nat.zero_le _)⟩) (fun r24 u H locs hp w => ?_)
          obtain ⟨rfl, rfl⟩ := hp
          refine W.eq (g2 := F0 m 52 ls [.ref (ad 1)]) rfl ?_
          refine gn_E X cn w 5 (by decide) (v := .int ((s_exp (s_exp E F S 6 i.toNatClampNeg (F 6 1)) F S 7 i.toNatClampNeg (F 7 1)) 5)) rfl kw_128 dX4_bestPress_52 ?_
          refine W.eq (g2 := F0 m 55 ls [.int (s_cost F S 7 i.toNatClampNeg (F 7 1))]) rfl ?_
          refine lv_topi (fun x25 ex25 => ?_)
          refine lv_istore (lv' := [(7, .int x25), (6, .ref (ad 7)), (5, .int 1), (4, .int x5), (3, .int 0), (2, .ref (ad (17 + i.toNatClampNeg))), (0, .ref (ad 0)), (1, .int i)]) X.1 X.2.1 dX4_bestPress_55 hl (by decide) rfl (fun ls hl => ?_)
          refine lv_iload X.1 X.2.1 dX4_bestPress_57 (lv_at hl 0 rfl) ?_
          refine lv_iload X.1 X.2.1 dX4_bestPress_59 (lv_at hl 3 rfl) ?_
          refine lv_icmp_ge (tgt := 71) X.1 X.2.1 dX4_bestPress_61 (by decide) (fun c26 => ?_) (fun c26 => ?_)
          ·
            refine lv_iinc (v := 2) (lv' := [(5, .int 2), (7, .int x25), (6, .ref (ad 7)), (4, .int x5), (3, .int 0), (2, .ref (ad (17 + i.toNatClampNeg))), (0, .ref (ad 0)), (1, .int i)]) X.1 X.2.1 dX4_bestPress_71 hl (k := 2) rfl (by decide) (by decide) rfl (fun ls hl => ?_)
            refine lv_goto (tgt := 16) X.1 X.2.1 dX4_bestPress_74 (by decide) ?_
            refine lv_iload X.1 X.2.1 dX4_bestPress_16 (lv_at hl 0 rfl) ?_
            refine lv_aload_n X.1 X.2.1 dX4_bestPress_18 rfl (lv_at hl 6 rfl) ?_
            refine g_L X w 1 (by decide) (v := .ref (ad 15)) rfl kw_146 dX4_bestPress_19 ?_
            refine len_R X w dX4_bestPress_22 ?_
            refine lv_icmp_ge (tgt := 77) X.1 X.2.1 dX4_bestPress_23 (by decide) (fun c27 => ?_) (fun c27 => ?_)
            ·
              exact absurd c27 (by decide)
            ·
              refine lv_aload_n X.1 X.2.1 dX4_bestPress_26 rfl (lv_at hl 6 rfl) ?_
              refine g_L X w 1 (by decide) (v := .ref (ad 15)) rfl kw_146 dX4_bestPress_27 ?_
              refine lv_iload X.1 X.2.1 dX4_bestPress_30 (lv_at hl 0 rfl) ?_
              refine ld_R X w (in_lit (by decide)) dX4_bestPress_32 ?_
              refine W.eq (g2 := F0 m 33 ls [.ref (ad 8)]) rfl ?_
              refine lv_astore (lv' := [(6, .ref (ad 8)), (5, .int 2), (7, .int x25), (4, .int x5), (3, .int 0), (2, .ref (ad (17 + i.toNatClampNeg))), (0, .ref (ad 0)), (1, .int i)]) X.1 X.2.1 dX4_bestPress_33 hl (by decide) rfl (fun ls hl => ?_)
              refine lv_aload X.1 X.2.1 dX4_bestPress_35 (lv_at hl 0 rfl) ?_
              refine lv_ifnull X.1 X.2.1 dX4_bestPress_37 ?_
              refine lv_aload_n X.1 X.2.1 dX4_bestPress_40 rfl (lv_at hl 6 rfl) ?_
              refine lv_aload_n X.1 X.2.1 dX4_bestPress_41 rfl (lv_at hl 5 rfl) ?_
              refine lv_aload X.1 X.2.1 dX4_bestPress_42 (lv_at hl 0 rfl) ?_
              refine lv_aload X.1 X.2.1 dX4_bestPress_44 (lv_at hl 0 rfl) ?_
              refine gn_R X cn w (by decide : 6 ≤ 8 ∧ 8 < 10) 1 (by decide) (v := .int (F 8 1)) rfl kw_91 dX4_bestPress_46 ?_
              refine w_callr cn w (w_runV (n := 3) (As := [.ref (ad (17 + i.toNatClampNeg)), .ref (ad 8), .int (F 8 1)]) X cn w (lt17 (by decide)) wC_0 rfl (fun sz => c_X4_expect l D ca ad (s_exp (s_exp E F S 6 i.toNatClampNeg (F 6 1)) F S 7 i.toNatClampNeg (F 7 1)) F L S n i.toNatClampNeg (cl_lt (in_erI h2)) 8 (by decide : 6 ≤ 8 ∧ 8 < 10) (F 8 1) hs sz) (bg_V kw_310 kw_312 kw_9 kw_31 kw_313) rfl rfl (by decide +kernel) ⟨(Nat.le_of_ble_eq_true rfl), (Nat.le_of_ble_eq_true rfl)⟩ rfl hl.1 rfl (Nat.le_of_ble_eq_true rfl) dX4_bestPress_49 ⟨(Nat.zero_le _), (Nat.zero_le _)⟩) (fun r28 u H locs hp w => ?_)
              obtain ⟨rfl, rfl⟩ := hp
              refine W.eq (g2 := F0 m 52 ls [.ref (ad 1)]) rfl ?_
              refine gn_E X cn w 5 (by decide) (v := .int ((s_exp (s_exp (s_exp E F S 6 i.toNatClampNeg (F 6 1)) F S 7 i.toNatClampNeg (F 7 1)) F S 8 i.toNatClampNeg (F 8 1)) 5)) rfl kw_128 dX4_bestPress_52 ?_
              refine W.eq (g2 := F0 m 55 ls [.int (s_cost F S 8 i.toNatClampNeg (F 8 1))]) rfl ?_
              refine lv_topi (fun x29 ex29 => ?_)
              refine lv_istore (lv' := [(7, .int x29), (6, .ref (ad 8)), (5, .int 2), (4, .int x5), (3, .int 0), (2, .ref (ad (17 + i.toNatClampNeg))), (0, .ref (ad 0)), (1, .int i)]) X.1 X.2.1 dX4_bestPress_55 hl (by decide) rfl (fun ls hl => ?_)
              refine lv_iload X.1 X.2.1 dX4_bestPress_57 (lv_at hl 0 rfl) ?_
              refine lv_iload X.1 X.2.1 dX4_bestPress_59 (lv_at hl 3 rfl) ?_
              refine lv_icmp_ge (tgt := 71) X.1 X.2.1 dX4_bestPress_61 (by decide) (fun c30 => ?_) (fun c30 => ?_)
              ·
                refine lv_iinc (v := 3) (lv' := [(5, .int 3), (7, .int x29), (6, .ref (ad 8)), (4, .int x5), (3, .int 0), (2, .ref (ad (17 + i.toNatClampNeg))), (0, .ref (ad 0)), (1, .int i)]) X.1 X.2.1 dX4_bestPress_71 hl (k := 2) rfl (by decide) (by decide) rfl (fun ls hl => ?_)
                refine lv_goto (tgt := 16) X.1 X.2.1 dX4_bestPress_74 (by decide) ?_
                refine lv_iload X.1 X.2.1 dX4_bestPress_16 (lv_at hl 0 rfl) ?_
                refine lv_aload_n X.1 X.2.1 dX4_bestPress_18 rfl (lv_at hl 6 rfl) ?_
                refine g_L X w 1 (by decide) (v := .ref (ad 15)) rfl kw_146 dX4_bestPress_19 ?_
                refine len_R X w dX4_bestPress_22 ?_
                refine lv_icmp_ge (tgt := 77) X.1 X.2.1 dX4_bestPress_23 (by decide) (fun c31 => ?_) (fun c31 => ?_)
                ·
                  refine lv_iload_n X.1 X.2.1 dX4_bestPress_77 rfl (lv_at hl 4 rfl) ?_
                  exact vx_ret (w_iret X hr hlk w (by subst ex29; subst ex25; subst ex5; exact ⟨h2, by simp [s_best, s_bs, c3, c6, c23, c26, c27, c30, c31], rfl⟩) dX4_bestPress_78 rfl (Nat.zero_le _) (Nat.zero_le _))
                ·
                  exact absurd (by decide) c31
              ·
                refine lv_iload X.1 X.2.1 dX4_bestPress_64 (lv_at hl 2 rfl) ?_
                refine lv_istore_n (lv' := [(3, .int 2), (7, .int x29), (6, .ref (ad 8)), (5, .int 2), (4, .int x5), (2, .ref (ad (17 + i.toNatClampNeg))), (0, .ref (ad 0)), (1, .int i)]) X.1 X.2.1 dX4_bestPress_66 rfl hl (by decide) rfl (fun ls hl => ?_)
                refine lv_iload X.1 X.2.1 dX4_bestPress_67 (lv_at hl 1 rfl) ?_
                refine lv_istore (lv' := [(4, .int x29), (3, .int 2), (7, .int x29), (6, .ref (ad 8)), (5, .int 2), (2, .ref (ad (17 + i.toNatClampNeg))), (0, .ref (ad 0)), (1, .int i)]) X.1 X.2.1 dX4_bestPress_69 hl (by decide) rfl (fun ls hl => ?_)
                refine lv_iinc (v := 3) (lv' := [(5, .int 3), (4, .int x29), (3, .int 2), (7, .int x29), (6, .ref (ad 8)), (2, .ref (ad (17 + i.toNatClampNeg))), (0, .ref (ad 0)), (1, .int i)]) X.1 X.2.1 dX4_bestPress_71 hl (k := 4) rfl (by decide) (by decide) rfl (fun ls hl => ?_)
                refine lv_goto (tgt := 16) X.1 X.2.1 dX4_bestPress_74 (by decide) ?_
                refine lv_iload X.1 X.2.1 dX4_bestPress_16 (lv_at hl 0 rfl) ?_
                refine lv_aload_n X.1 X.2.1 dX4_bestPress_18 rfl (lv_at hl 6 rfl) ?_
                refine g_L X w 1 (by decide) (v := .ref (ad 15)) rfl kw_146 dX4_bestPress_19 ?_
                refine len_R X w dX4_bestPress_22 ?_
                refine lv_icmp_ge (tgt := 77) X.1 X.2.1 dX4_bestPress_23 (by decide) (fun c32 => ?_) (fun c32 => ?_)
                ·
                  refine lv_iload_n X.1 X.2.1 dX4_bestPress_77 rfl (lv_at hl 2 rfl) ?_
                  exact vx_ret (w_iret X hr hlk w (by subst ex29; subst ex25; subst ex5; exact ⟨h2, by simp [s_best, s_bs, c3, c6, c23, c26, c27, c30, c32], rfl⟩) dX4_bestPress_78 rfl (Nat.zero_le _) (Nat.zero_le _))
                ·
                  exact absurd (by decide) c32
          ·
            refine lv_iload X.1 X.2.1 dX4_bestPress_64 (lv_at hl 2 rfl) ?_
            refine lv_istore_n (lv' := [(3, .int 1), (7, .int x25), (6, .ref (ad 7)), (5, .int 1), (4, .int x5), (2, .ref (ad (17 + i.toNatClampNeg))), (0, .ref (ad 0)), (1, .int i)]) X.1 X.2.1 dX4_bestPress_66 rfl hl (by decide) rfl (fun ls hl => ?_)
            refine lv_iload X.1 X.2.1 dX4_bestPress_67 (lv_at hl 1 rfl) ?_
            refine lv_istore (lv' := [(4, .int x25), (3, .int 1), (7, .int x25), (6, .ref (ad 7)), (5, .int 1), (2, .ref (ad (17 + i.toNatClampNeg))), (0, .ref (ad 0)), (1, .int i)]) X.1 X.2.1 dX4_bestPress_69 hl (by decide) rfl (fun ls hl => ?_)
            refine lv_iinc (v := 2) (lv' := [(5, .int 2), (4, .int x25), (3, .int 1), (7, .int x25), (6, .ref (ad 7)), (2, .ref (ad (17 + i.toNatClampNeg))), (0, .ref (ad 0)), (1, .int i)]) X.1 X.2.1 dX4_bestPress_71 hl (k := 4) rfl (by decide) (by decide) rfl (fun ls hl => ?_)
            refine lv_goto (tgt := 16) X.1 X.2.1 dX4_bestPress_74 (by decide) ?_
            refine lv_iload X.1 X.2.1 dX4_bestPress_16 (lv_at hl 0 rfl) ?_
            refine lv_aload_n X.1 X.2.1 dX4_bestPress_18 rfl (lv_at hl 6 rfl) ?_
            refine g_L X w 1 (by decide) (v := .ref (ad 15)) rfl kw_146 dX4_bestPress_19 ?_
            refine len_R X w dX4_bestPress_22 ?_
            refine lv_icmp_ge (tgt := 77) X.1 X.2.1 dX4_bestPress_23 (by decide) (fun c33 => ?_) (fun c33 => ?_)
            ·
              exact absurd c33 (by decide)
            ·
              refine lv_aload_n X.1 X.2.1 dX4_bestPress_26 rfl (lv_at hl 6 rfl) ?_
              refine g_L X w 1 (by decide) (v := .ref (ad 15)) rfl kw_146 dX4_bestPress_27 ?_
              refine lv_iload X.1 X.2.1 dX4_bestPress_30 (lv_at hl 0 rfl) ?_
              refine ld_R X w (in_lit (by decide)) dX4_bestPress_32 ?_
              refine W.eq (g2 := F0 m 33 ls [.ref (ad 8)]) rfl ?_
              refine lv_astore (lv' := [(6, .ref (ad 8)), (5, .int 2), (4, .int x25), (3, .int 1), (7, .int x25), (2, .ref (ad (17 + i.toNatClampNeg))), (0, .ref (ad 0)), (1, .int i)]) X.1 X.2.1 dX4_bestPress_33 hl (by decide) rfl (fun ls hl => ?_)
              refine lv_aload X.1 X.2.1 dX4_bestPress_35 (lv_at hl 0 rfl) ?_
              refine lv_ifnull X.1 X.2.1 dX4_bestPress_37 ?_
              refine lv_aload_n X.1 X.2.1 dX4_bestPress_40 rfl (lv_at hl 6 rfl) ?_
              refine lv_aload_n X.1 X.2.1 dX4_bestPress_41 rfl (lv_at hl 5 rfl) ?_
              refine lv_aload X.1 X.2.1 dX4_bestPress_42 (lv_at hl 0 rfl) ?_
              refine lv_aload X.1 X.2.1 dX4_bestPress_44 (lv_at hl 0 rfl) ?_
              refine gn_R X cn w (by decide : 6 ≤ 8 ∧ 8 < 10) 1 (by decide) (v := .int (F 8 1)) rfl kw_91 dX4_bestPress_46 ?_
              refine w_callr cn w (w_runV (n := 3) (As := [.ref (ad (17 + i.toNatClampNeg)), .ref (ad 8), .int (F 8 1)]) X cn w (lt17 (by decide)) wC_0 rfl (fun sz => c_X4_expect l D ca ad (s_exp (s_exp E F S 6 i.toNatClampNeg (F 6 1)) F S 7 i.toNatClampNeg (F 7 1)) F L S n i.toNatClampNeg (cl_lt (in_erI h2)) 8 (by decide : 6 ≤ 8 ∧ 8 < 10) (F 8 1) hs sz) (bg_V kw_310 kw_312 kw_9 kw_31 kw_313) rfl rfl (by decide +kernel) ⟨(Nat.le_of_ble_eq_true rfl), (Nat.le_of_ble_eq_true rfl)⟩ rfl hl.1 rfl (Nat.le_of_ble_eq_true rfl) dX4_bestPress_49 ⟨(Nat.zero_le _), (Nat.zero_le _)⟩) (fun r34 u H locs hp w => ?_)
              obtain ⟨rfl, rfl⟩ := hp
              refine W.eq (g2 := F0 m 52 ls [.ref (ad 1)]) rfl ?_
              refine gn_E X cn w 5 (by decide) (v := .int ((s_exp (s_exp (s_exp E F S 6 i.toNatClampNeg (F 6 1)) F S 7 i.toNatClampNeg (F 7 1)) F S 8 i.toNatClampNeg (F 8 1)) 5)) rfl kw_128 dX4_bestPress_52 ?_
              refine W.eq (g2 := F0 m 55 ls [.int (s_cost F S 8 i.toNatClampNeg (F 8 1))]) rfl ?_
              refine lv_topi (fun x35 ex35 => ?_)
              refine lv_istore (lv' := [(7, .int x35), (6, .ref (ad 8)), (5, .int 2), (4, .int x25), (3, .int 1), (2, .ref (ad (17 + i.toNatClampNeg))), (0, .ref (ad 0)), (1, .int i)]) X.1 X.2.1 dX4_bestPress_55 hl (by decide) rfl (fun ls hl => ?_)
              refine lv_iload X.1 X.2.1 dX4_bestPress_57 (lv_at hl 0 rfl) ?_
              refine lv_iload X.1 X.2.1 dX4_bestPress_59 (lv_at hl 3 rfl) ?_
              refine lv_icmp_ge (tgt := 71) X.1 X.2.1 dX4_bestPress_61 (by decide) (fun c36 => ?_) (fun c36 => ?_)
              ·
                refine lv_iinc (v := 3) (lv' := [(5, .int 3), (7, .int x35), (6, .ref (ad 8)), (4, .int x25), (3, .int 1), (2, .ref (ad (17 + i.toNatClampNeg))), (0, .ref (ad 0)), (1, .int i)]) X.1 X.2.1 dX4_bestPress_71 hl (k := 2) rfl (by decide) (by decide) rfl (fun ls hl => ?_)
                refine lv_goto (tgt := 16) X.1 X.2.1 dX4_bestPress_74 (by decide) ?_
                refine lv_iload X.1 X.2.1 dX4_bestPress_16 (lv_at hl 0 rfl) ?_
                refine lv_aload_n X.1 X.2.1 dX4_bestPress_18 rfl (lv_at hl 6 rfl) ?_
                refine g_L X w 1 (by decide) (v := .ref (ad 15)) rfl kw_146 dX4_bestPress_19 ?_
                refine len_R X w dX4_bestPress_22 ?_
                refine lv_icmp_ge (tgt := 77) X.1 X.2.1 dX4_bestPress_23 (by decide) (fun c37 => ?_) (fun c37 => ?_)
                ·
                  refine lv_iload_n X.1 X.2.1 dX4_bestPress_77 rfl (lv_at hl 4 rfl) ?_
                  exact vx_ret (w_iret X hr hlk w (by subst ex35; subst ex25; subst ex5; exact ⟨h2, by simp [s_best, s_bs, c3, c6, c23, c26, c33, c36, c37], rfl⟩) dX4_bestPress_78 rfl (Nat.zero_le _) (Nat.zero_le _))
                ·
                  exact absurd (by decide) c37
              ·
                refine lv_iload X.1 X.2.1 dX4_bestPress_64 (lv_at hl 2 rfl) ?_
                refine lv_istore_n (lv' := [(3, .int 2), (7, .int x35), (6, .ref (ad 8)), (5, .int 2), (4, .int x25), (2, .ref (ad (17 + i.toNatClampNeg))), (0, .ref (ad 0)), (1, .int i)]) X.1 X.2.1 dX4_bestPress_66 rfl hl (by decide) rfl (fun ls hl => ?_)
                refine lv_iload X.1 X.2.1 dX4_bestPress_67 (lv_at hl 1 rfl) ?_
                refine lv_istore (lv' := [(4, .int x35), (3, .int 2), (7, .int x35), (6, .ref (ad 8)), (5, .int 2), (2, .ref (ad (17 + i.toNatClampNeg))), (0, .ref (ad 0)), (1, .int i)]) X.1 X.2.1 dX4_bestPress_69 hl (by decide) rfl (fun ls hl => ?_)
                refine lv_iinc (v := 3) (lv' := [(5, .int 3), (4, .int x35), (3, .int 2), (7, .int x35), (6, .ref (ad 8)), (2, .ref (ad (17 + i.toNatClampNeg))), (0, .ref (ad 0)), (1, .int i)]) X.1 X.2.1 dX4_bestPress_71 hl (k := 4) rfl (by decide) (by decide) rfl (fun ls hl => ?_)
                refine lv_goto (tgt := 16) X.1 X.2.1 dX4_bestPress_74 (by decide) ?_
                refine lv_iload X.1 X.2.1 dX4_bestPress_16 (lv_at hl 0 rfl) ?_
                refine lv_aload_n X.1 X.2.1 dX4_bestPress_18 rfl (lv_at hl 6 rfl) ?_
                refine g_L X w 1 (by decide) (v := .ref (ad 15)) rfl kw_146 dX4_bestPress_19 ?_
                refine len_R X w dX4_bestPress_22 ?_
                refine lv_icmp_ge (tgt := 77) X.1 X.2.1 dX4_bestPress_23 (by decide) (fun c38 => ?_) (fun c38 => ?_)
                ·
                  refine lv_iload_n X.1 X.2.1 dX4_bestPress_77 rfl (lv_at hl 2 rfl) ?_
                  exact vx_ret (w_iret X hr hlk w (by subst ex35; subst ex25; subst ex5; exact ⟨h2, by simp [s_best, s_bs, c3, c6, c23, c26, c33, c36, c38], rfl⟩) dX4_bestPress_78 rfl (Nat.zero_le _) (Nat.zero_le _))
                ·
                  exact absurd (by decide) c38
  ·
    have hE : erI n i ≠ 0 ∧ exN ((erI n i)) = exN (erI n i) := by  simp [ne_eq, h2, erI_1 h2]
    have hm' := hm hE.1
    exact x_gone X hlk hnt cn w (xw_runV (n := 1) (As := [.int i]) X cn w (lt17 (by decide)) wC_0 rfl (fun sz => c_X4_jobOf l D ca ad E F L S n hlt wf.2.1.2 wf.1 i 1 6 (fun _ => ⟨Nat.le_refl 1, Nat.le_refl 6⟩) sz) (bg_V kw_384 kw_386 kw_18 kw_31 kw_387) rfl rfl (by decide +kernel) ⟨(Nat.le_of_ble_eq_true rfl), (Nat.le_of_ble_eq_true rfl)⟩ rfl hl.1 rfl (Nat.le_of_ble_eq_true rfl) dX4_bestPress_2 ⟨hm'.1, hm'.2⟩) (fun st v t hq => by obtain ⟨⟨r, u, -, hp, -⟩, -⟩ := hq; exact h2 hp.1) hE.2 hE.1 (fun u hu => hu) hm rfl rfl
end
