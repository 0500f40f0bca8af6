/-! ===== the law's own methods: entries, the script, catching ===== -/
theorem met_of0 {l : Launch} {y : MethodName} {ws : List Cond} {rm : Room} {Pc : Array Value → State → Prop} {Qc : Array Value → State → Outcome → State → Prop} {mc ms : Nat} {free : Addr → Prop} (h : vx_Met l y ws rm Pc Qc (fun _ _ _ => False) mc ms free) : Met l y ws rm Pc Qc mc ms free := by
  intro p e ha hc hk s m args below hf happ hpre hK
  obtain ⟨k, o, h1, h2, h3, h4⟩ := h p e ha hc hk s m args below hf happ hpre hK
  refine ⟨k, o, h1, h2, h3, ?_⟩
  rcases h4 with h4 | ⟨q, -, E, ce, L, hx, -⟩
  · exact h4
  · exact hx.elim
theorem open_A {l : Launch} {cc : ByteArray} {D : va_G} {ca : Nat → ClassId} {ad : Nat → Nat} {σ : St} {y : MethodName} {maxL : Nat} {ret : Option FieldType} {hh : List (Nat × Nat × Nat × Nat)} {rm : Room} {As : List Value} {sz mc ms : Nat} {Qc : Nat → Array Value → State → Outcome → State → Prop} (hy : plainName y.cls = true) (hlen : (lg_sl As).length ≤ maxL)
    (body : ∀ p e s m args below meth c, CallFix p m c cc maxL s args BG y.cls → meth.sig.returnType = ret → meth.locks = false → c.exceptionTable.toList = tableOf hh → Wd D ca ad (wA ad (sN σ) s.heap.size) s s.heap [] σ → Cn (wA ad (sN σ) s.heap.size) s → ∀ ls, lv_has ls maxL (lv_args 0 As) →
      W p l e rm s m args below meth c s.heap [] 0 0 (MQ below (Qc s.heap.size) args s mc ms (wA ad (sN σ) s.heap.size)) (F0 m 0 ls [])) :
    Met l y (.codeWith y cc maxL ret hh :: BG) rm (Pw D ca ad σ sz As) (Qc sz) mc ms (wA ad (sN σ) sz) := by
  refine met_of0 (vx_ofWH (cc := cc) (maxL := maxL) (ret := ret) (hh := hh) hy rfl ?_)
  intro p e s m args below meth c s₁ B hml hv
  obtain ⟨rfl, rfl, hP, hK, hD, hE, hZ⟩ := hv
  have hts := atoms_spec (ws := Cond.codeWith y cc maxL ret hh :: BG) B.pre
  have hl := lv_entry As (n := maxL) hlen
  rw [lg_entry_eq]
  exact vx_ret (body p e s m _ below meth c ⟨B.exec, B.bytes, hml, findClass_of_methodNamed B.named, fun w hw => hts w (List.mem_cons_of_mem _ hw)⟩ B.returns B.notSynchronized (vx_table (x := y) B (hts _ List.mem_cons_self))
    ⟨hP, hD.weaken (fun k q hk _ => by obtain ⟨h1, rfl⟩ := wl_of hk; exact Or.inl ⟨k, h1, rfl⟩), hK, va_S.rf⟩ ⟨fun q h => Or.inr h, hE, hZ⟩ _ hl)
section LawRows
variable {p : Program} {l : Launch} {e : Env} {R : Room} {s : State} {m : MethodId} {args : Array Value} {below : List Frame} {meth : Method} {c : Code} {H : Heap} {locs : List Loc} {cells slots : Nat} {Q : State → Prop}
variable {cc bytes : ByteArray} {pc nL maxL index : Nat} {ls : Array Slot} {rest st0 As : List Value} {own : String} {D : va_G} {ca : Nat → ClassId} {ad : Nat → Nat} {A : Nat → Prop} {σ : St} {mc ms : Nat} {y : MethodName} {ret : Option FieldType} {rm : Room} {Qc : Nat → Array Value → State → Outcome → State → Prop}
/-- a call that surely throws, caught here -/
theorem x_caught {Qa : State → Outcome → State → Prop} {er1 : Nat} {px1 : St → Prop} (X : CallFix p m c cc nL s args BG own) (cn : Cn A s) (w : Wd D ca ad A s H locs σ)
    (hr : vx_Run p l e R s m args below meth c H locs cells slots 1 6 (F0 m pc ls st0) rest Qa (Xq D ca ad (sN σ) er1 px1 H.size) (wA ad (sN σ) H.size))
    (hno : ∀ st v t, ¬ Qa st (.returned v) t) (E name : String) (hE : exN er1 = E) (pre : List ExceptionTableEntry) (x : ExceptionTableEntry) (suf : List ExceptionTableEntry) (hsplit : c.exceptionTable.toList = pre ++ x :: suf)
    (hpass : ∀ z ∈ pre, covers z pc = false ∨ (z.catchType ≠ 0 ∧ ∃ nm : String, (Cond.classLink own z.catchType nm).before args s = true ∧ va_Nc E nm s)) (hx : covers x pc = true) (h0 : x.catchType ≠ 0)
    (hlink : (Cond.classLink own x.catchType name).before args s = true) (hcast : (Cond.castable E name).before args s = true)
    (kk : ∀ (q9 : Nat) (u : St) (H1 : Heap) (locs1 : List Loc), px1 u → Wd D ca ad A s H1 locs1 u → W p l e R s m args below meth c H1 locs1 (cells + 1) (slots + 6) Q (F0 m x.handlerPc ls [.ref q9])) :
    W p l e R s m args below meth c H locs cells slots Q (F0 m pc ls st0) := by
  intro T hT XX
  rcases hr T hT XX with ⟨v, st₀, t, T', L, g0, X', hL, e1, e2, hq, st⟩ | ⟨q, st₀, t, T', L, E', ce, g0, X', hL, e1, e2, ⟨u, ⟨-, hp⟩, ⟨hE', hb⟩, hF⟩, hce, hcv, hcl, st⟩
  · exact (hno _ _ _ hq).elim
  · obtain ⟨k1, k2, k3⟩ := vx_keep g0 e1 w.2.2.2 (fun q _ h => w_sub cn w q h) (w_sub cn w) hL hF
    have w' : Wd D ca ad A s T'.heap (locs ++ L) u := w_back cn w e1.symm (by rw [← e2]; exact X'.warmed.alike) hb k3
    rw [hE', hE] at hcl
    obtain ⟨t2, a1, b1⟩ := vx_catch (rest := rest) X.2.2.2.1 pre x suf hsplit hpass hx h0 hlink hcast (by rw [e1]; exact hce) hcv hcl (kk q u T'.heap (locs ++ L) hp w') T' rfl X'
    exact ⟨t2, st.trans a1, b1⟩
theorem l_runA {n : Nat} {hh : List (Nat × Nat × Nat × Nat)} (S : CallFix p m c cc nL s args BG own) (cn : Cn A s) (w : Wd D ca ad A s H locs σ)
    (hM : ∀ sz, Met l y (.codeWith y bytes maxL ret hh :: BG) rm (Pw D ca ad σ sz As) (Qc sz) mc ms (wA ad (sN σ) sz)) (h1 : Cond.methodLink own index y ∈ BG) (h2 : Cond.static y ∈ BG) (h4 : Cond.initialized y.cls ∈ BG) (h5 : Cond.codeWith y bytes maxL ret hh ∈ BG) (hrc : rm.cells = mc) (hrs : rm.slots = ms)
    (hd : y.cls ≠ "java/lang/invoke/MethodHandle" ∧ y.cls ≠ "java/lang/invoke/VarHandle" ∧ (parseMethodDescriptor y.desc).map (fun d => d.parameters.length) = some n) (hR : rm.frames + 1 ≤ R.frames ∧ 8 + (maxL + 11) + rm.locals ≤ R.locals) (hn : As.length = n) (hsz : ls.size = nL)
    (hst : st0 = As.reverse ++ rest) (hW : (rest.map fun v => v.category).sum ≤ 8) (hdg : decode cc pc = .ok (.invokestatic index, 3)) (hf : cells + mc ≤ R.cells ∧ slots + ms ≤ R.slots) :
    va_Run p l e R s m args below meth c H locs cells slots mc ms (F0 m pc ls st0) rest (Qc H.size As.toArray) (wA ad (sN σ) H.size) :=
  vx_runSW (As := As) (rest := rest) S (hM H.size) (vx_cwSW n S.2.2.2.2 (bg_app (fun x hx => by
    simp only [List.mem_cons, List.not_mem_nil, or_false] at hx
    rcases hx with rfl | rfl | rfl <;> assumption) (bg_c h5)) rfl hrc hrs hd hR) ⟨Pw.blind, fun U hU hW => ⟨rfl, w_pre cn w U hU hW⟩⟩ rfl hn hsz hst (lv_room hW) hdg hf
end LawRows
def s_cell (L : Nat) (xs : Nat → Int32) (k : Int32) : Int32 := if Int32.ofNat L ≤ k then 790386105 * (k + 3) else xs k.toNatClampNeg
/-- what the law needs of a state to ask at all -/
def Lf (F : Fm) (L : Lm) (S : Sm) (n : Nat) (q : Nat → Nat) : Prop := Wf F L S n q ∧ (∀ o, 6 ≤ o ∧ o < 10 → ∀ k, k < q o → L o k ≠ none) ∧ ∀ j, j < n → F (17 + j) 0 = nI j ∧ F (17 + j) 1 = nI (S j) ∧ vp_in (F (17 + j) 8) 4 ∧ ¬ F (17 + j) 5 = 0
theorem Lf.queue {F : Fm} {L : Lm} {S : Sm} {n : Nat} {q : Nat → Nat} (h : Lf F L S n q) {r x : Int32} (he : er_queue F L r x = 0) : ∃ j, j < n ∧ s_jobAt F L (6 + r.toNatClampNeg) x = some j ∧ s_queue F L (6 + r.toNatClampNeg) x = nI j := by
  unfold er_queue at he
  by_cases h3 : erI 3 r = 0
  · rw [if_pos h3] at he
    cases hj : s_jobAt F L (6 + r.toNatClampNeg) x with
    | none => rw [hj] at he; cases he
    | some j =>
      have hjn : j < n := (h.1.2.2.2 _ (prs_in (in_erI h3))).2.2 _ _ (jobAt_of hj)
      refine ⟨j, hjn, rfl, ?_⟩
      simp only [s_queue, hj]
      exact (h.2.2 j hjn).1
  · rw [if_neg h3] at he; cases he
theorem Lf.idx {F : Fm} {L : Lm} {S : Sm} {n : Nat} {q : Nat → Nat} (h : Lf F L S n q) {j : Nat} (hj : j < n) : erI n (nI j) = 0 := erI_in (vp_in_nI hj (by have := h.1.1; omega))
theorem Lf.pap {F : Fm} {L : Lm} {S : Sm} {n : Nat} {q : Nat → Nat} (h : Lf F L S n q) {j : Nat} (hj : j < n) : erI 4 (F (17 + j) 1) = 0 := by
  rw [(h.2.2 j hj).2.1]
  exact erI_in (vp_in_nI (h.1.2.2.1 j hj) (by decide))
theorem er_queue_1 {F : Fm} {L : Lm} {r x : Int32} (h : ¬ er_queue F L r x = 0) : er_queue F L r x = 1 := by
  unfold er_queue at h ⊢
  by_cases h3 : erI 3 r = 0
  · rw [if_pos h3] at h ⊢
    cases hj : s_jobAt F L (6 + r.toNatClampNeg) x with
    | none => rfl
    | some j => rw [hj] at h; exact absurd rfl h
  · rw [if_neg h3]
theorem x_passA {own E : String} {s : State} {args : Array Value} {pc : Nat} {pre : List ExceptionTableEntry} (h : ∀ z ∈ pre, covers z pc = false) : ∀ z ∈ pre, covers z pc = false ∨ (z.catchType ≠ 0 ∧ ∃ nm : String, (Cond.classLink own z.catchType nm).before args s = true ∧ va_Nc E nm s) := fun z hz => Or.inl (h z hz)
theorem x_passB {own E : String} {s : State} {args : Array Value} {pc : Nat} {pre : List ExceptionTableEntry} (h : ∀ z ∈ pre, covers z pc = false ∨ z.catchType = 102) (h1 : (Cond.classLink own 102 eIO).before args s = true) (n1 : va_Nc E eIO s) : ∀ z ∈ pre, covers z pc = false ∨ (z.catchType ≠ 0 ∧ ∃ nm : String, (Cond.classLink own z.catchType nm).before args s = true ∧ va_Nc E nm s) := fun z hz => by
  rcases h z hz with h | h
  · exact Or.inl h
  · exact Or.inr ⟨by rw [h]; decide, eIO, by rw [h]; exact h1, n1⟩
theorem x_passC {own E : String} {s : State} {args : Array Value} {pc : Nat} {pre : List ExceptionTableEntry} (h : ∀ z ∈ pre, covers z pc = false ∨ z.catchType = 102 ∨ z.catchType = 104) (h1 : (Cond.classLink own 102 eIO).before args s = true) (n1 : va_Nc E eIO s) (h2 : (Cond.classLink own 104 eIA).before args s = true) (n2 : va_Nc E eIA s) : ∀ z ∈ pre, covers z pc = false ∨ (z.catchType ≠ 0 ∧ ∃ nm : String, (Cond.classLink own z.catchType nm).before args s = true ∧ va_Nc E nm s) := fun z hz => by
  rcases h z hz with h | h | h
  · exact Or.inl h
  · exact Or.inr ⟨by rw [h]; decide, eIO, by rw [h]; exact h1, n1⟩
  · exact Or.inr ⟨by rw [h]; decide, eIA, by rw [h]; exact h2, n2⟩
/-- an int, and a new job at u -/
abbrev Qk (D : va_G) (ca : Nat → ClassId) (ad : Nat → Nat) (n : Nat) (v : Int32) (E : Em) (F : Fm) (L : Lm) (S : Sm) (sz : Nat) : Array Value → State → Outcome → State → Prop := va_Qi (fun (r : Int32) (_ : Em × Nat) => r = v) (fun u t => WQ D ca (va_up ad (17 + n) u.2) (wA ad n sz) (u.1, F, L, S, n + 1) t) (wA ad n sz)
theorem w_callj {p : Program} {l : Launch} {e : Env} {R : Room} {s : State} {m : MethodId} {args : Array Value} {below : List Frame} {meth : Method} {c : Code} {H : Heap} {locs : List Loc} {cells slots : Nat} {Q : State → Prop} {pc : Nat} {ls : Array Slot} {rest st0 : List Value} {D : va_G} {ca : Nat → ClassId} {ad : Nat → Nat} {A : Nat → Prop} {E : Em} {F : Fm} {L : Lm} {S : Sm} {n mc ms : Nat} {τ : St} {a : Array Value}
    (cn : Cn A s) (w : Wd D ca ad A s H locs (E, F, L, S, n)) (hr : va_Run p l e R s m args below meth c H locs cells slots mc ms (F0 m pc ls st0) rest (Qj D ca ad n τ H.size a) (wA ad n H.size))
    (kk : ∀ (q9 : Nat) (H1 : Heap) (locs1 : List Loc), Wd D ca (va_up ad (17 + n) q9) A s H1 locs1 τ → W p l e R s m args below meth c H1 locs1 (cells + mc) (slots + ms) Q (F0 m (pc + 3) ls (.int (nI n) :: rest))) : W p l e R s m args below meth c H locs cells slots Q (F0 m pc ls st0) :=
  va_calli hr w.2.2.2 (fun q _ h => w_sub cn w q h) (w_sub cn w) (fun r u t H1 locs1 ht hvm hp hB hz hk hS => by
    subst hp
    exact kk u H1 locs1 ⟨by rw [← ht]; exact hB.1, hB.2.2.weaken (fun _ _ _ h => w_sub cn w _ h), va_K.moved hvm.symm hB.2.1, hS⟩)
