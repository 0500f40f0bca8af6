/-! ===== ends ===== -/
abbrev Qi (D : va_G) (ca : Nat → ClassId) (ad : Nat → Nat) (n : Nat) (post : Int32 → St → Prop) (sz : Nat) : Array Value → State → Outcome → State → Prop := va_Qi post (fun u t => WQ D ca ad (wA ad n sz) u t) (wA ad n sz)
abbrev Ql (D : va_G) (ca : Nat → ClassId) (ad : Nat → Nat) (n : Nat) (post : Int64 → St → Prop) (sz : Nat) : Array Value → State → Outcome → State → Prop := va_Ql post (fun u t => WQ D ca ad (wA ad n sz) u t) (wA ad n sz)
abbrev Qv (D : va_G) (ca : Nat → ClassId) (ad : Nat → Nat) (n : Nat) (post : St → Prop) (sz : Nat) : Array Value → State → Outcome → State → Prop := va_Qv post (fun u t => WQ D ca ad (wA ad n sz) u t) (wA ad n sz)
abbrev Qr (D : va_G) (ca : Nat → ClassId) (ad : Nat → Nat) (n : Nat) (post : Option Nat → St → Prop) (sz : Nat) : Array Value → State → Outcome → State → Prop := va_Qq post (fun u t => WQ D ca ad (wA ad n sz) u t) (wA ad n sz)
/-- of no world: an int that is v -/
abbrev Qn (v : Int32) : Array Value → State → Outcome → State → Prop := va_Qi (fun r (_ : Unit) => r = v) (fun _ _ => True) (fun _ => False)
/-- which exception: 1, 2, 3 -/
def exN (k : Nat) : String := if k = 1 then eIO else if k = 2 then eIA else eIS
abbrev Xq (D : va_G) (ca : Nat → ClassId) (ad : Nat → Nat) (n : Nat) (er : Nat) (px : St → Prop) (sz : Nat) : String → State → State → Prop := vx_X (fun u : St => er ≠ 0 ∧ px u) (fun E u t => E = exN er ∧ WQ D ca ad (wA ad n sz) u t) (wA ad n sz)
section Ends
variable {p : Program} {l : Launch} {e : Env} {R : Room} {s : State} {m : MethodId} {args : Array Value} {below : List Frame} {meth : Method} {c : Code} {H : Heap} {locs : List Loc} {cells slots : Nat} {Q : State → Prop}
variable {cc : ByteArray} {pc nL : Nat} {ls : Array Slot} {rest : List Value} {own : String} {D : va_G} {ca : Nat → ClassId} {ad : Nat → Nat} {σ τ : St} {mc ms n : Nat}
theorem w_iret {post : Int32 → St → Prop} {v : Int32} {ty : FieldType} (S : CallFix p m c cc nL s args BG own) (hr : meth.sig.returnType = some ty) (hlk : meth.locks = false) (w : Wd D ca ad (wA ad n s.heap.size) s H locs τ) (hp : post v τ) (hdg : decode cc pc = .ok (.ireturn, 1)) (hn : narrow ty (.int v) = .int v) (h1 : cells ≤ mc) (h2 : slots ≤ ms) :
    W p l e R s m args below meth c H locs cells slots (MQ below (Qi D ca ad n post s.heap.size) args s mc ms (wA ad n s.heap.size)) (F0 m pc ls [.int v]) := by
  refine W.widen h1 h2 ?_
  exact W.zret S.1 S.2.1 hr hn (fun t ht hW => ⟨⟨v, τ, rfl, hp, by rw [ht]; exact w.1, va_K.moved hW.alike w.2.2.1, w.2.1⟩, w.2.2.2.F ht⟩) w.2.2.2.2.2 hdg
theorem w_lret {post : Int64 → St → Prop} {v : Int64} (S : CallFix p m c cc nL s args BG own) (hr : meth.sig.returnType = some .long) (hlk : meth.locks = false) (w : Wd D ca ad (wA ad n s.heap.size) s H locs τ) (hp : post v τ) (hdg : decode cc pc = .ok (.lreturn, 1)) (h1 : cells ≤ mc) (h2 : slots ≤ ms) :
    W p l e R s m args below meth c H locs cells slots (MQ below (Ql D ca ad n post s.heap.size) args s mc ms (wA ad n s.heap.size)) (F0 m pc ls [.long v]) := by
  refine W.widen h1 h2 ?_
  exact W.lret S.1 S.2.1 hr (fun t ht hW => ⟨⟨v, τ, rfl, hp, by rw [ht]; exact w.1, va_K.moved hW.alike w.2.2.1, w.2.1⟩, w.2.2.2.F ht⟩) w.2.2.2.2.2 hdg
theorem w_vret {post : St → Prop} (S : CallFix p m c cc nL s args BG own) (hr : meth.sig.returnType = none) (hlk : meth.locks = false) (w : Wd D ca ad (wA ad n s.heap.size) s H locs τ) (hp : post τ) (hdg : decode cc pc = .ok (.return_, 1)) (h1 : cells ≤ mc) (h2 : slots ≤ ms) :
    W p l e R s m args below meth c H locs cells slots (MQ below (Qv D ca ad n post s.heap.size) args s mc ms (wA ad n s.heap.size)) (F0 m pc ls []) := by
  refine W.widen h1 h2 ?_
  exact W.vret S.1 S.2.1 hr (fun t ht hW => ⟨⟨τ, rfl, hp, by rw [ht]; exact w.1, va_K.moved hW.alike w.2.2.1, w.2.1⟩, w.2.2.2.F ht⟩) w.2.2.2.2.2 hdg
theorem va_rf_is (r : Option Nat) : va_rf r = .null ∨ ∃ a, va_rf r = .ref a := by
  cases r with
  | none => exact Or.inl rfl
  | some a => exact Or.inr ⟨a, rfl⟩
theorem w_aret {post : Option Nat → St → Prop} {r : Option Nat} {C : String} (S : CallFix p m c cc nL s args BG own) (hr : meth.sig.returnType = some (.object C)) (hlk : meth.locks = false) (w : Wd D ca ad (wA ad n s.heap.size) s H locs τ) (hp : post r τ) (hdg : decode cc pc = .ok (.areturn, 1)) (h1 : cells ≤ mc) (h2 : slots ≤ ms) :
    W p l e R s m args below meth c H locs cells slots (MQ below (Qr D ca ad n post s.heap.size) args s mc ms (wA ad n s.heap.size)) (F0 m pc ls [va_rf r]) := by
  refine W.widen h1 h2 ?_
  exact W.aret S.1 S.2.1 hr (Or.inl ⟨C, rfl⟩) (va_rf_is r) (fun t ht hW => ⟨⟨r, τ, rfl, hp, by rw [ht]; exact w.1, va_K.moved hW.alike w.2.2.1, w.2.1⟩, w.2.2.2.F ht⟩) w.2.2.2.2.2 hdg
theorem n_iret {v : Int32} {u : Int32} {ty : FieldType} {free : Addr → Prop} (S : CallFix p m c cc nL s args BG own) (hr : meth.sig.returnType = some ty) (hlk : meth.locks = false) (hS : va_S (fun _ => False) s.heap H locs) (hp : v = u) (hdg : decode cc pc = .ok (.ireturn, 1)) (hn : narrow ty (.int v) = .int v) (h1 : cells ≤ mc) (h2 : slots ≤ ms) :
    W p l e R s m args below meth c H locs cells slots (MQ below (Qn u) args s mc ms free) (F0 m pc ls [.int v]) := by
  refine W.widen h1 h2 ?_
  exact W.zret S.1 S.2.1 hr hn (fun t ht hW => ⟨⟨v, (), rfl, hp, trivial⟩, hS.F ht⟩) (fun q h => (hS.2.2 q h).elim) hdg
end Ends
/-! ===== calls ===== -/
section CallRows
variable {p : Program} {l : Launch} {e : Env} {R : Room} {s : State} {m : MethodId} {args : Array Value} {below : List Frame} {meth : Method} {c : Code} {H : Heap} {locs : List Loc} {cells slots : Nat} {Q : State → Prop}
variable {cc bytes : ByteArray} {pc nL maxL index : Nat} {ls : Array Slot} {rest st0 As : List Value} {own : String} {D : va_G} {ca : Nat → ClassId} {ad : Nat → Nat} {A : Nat → Prop} {σ : St} {mc ms : Nat} {y : MethodName} {ret : Option FieldType} {rm : Room} {Qc : Nat → Array Value → State → Outcome → State → Prop} {XC : Nat → String → State → State → Prop}
/-- what a callee is called with, if it is an instance's method: the object o of the kind ci -/
theorem w_recv (w : Wd D ca ad A s H locs σ) {o ci : Nat} {fs : List Value} {q : vw_C} (ho : o < 17 + sN σ) (hcell : wC ca ad σ o = .inr (ci, fs)) (hc : vwCl[ci]? = some q) : ∃ cell : Cell, H[ad o]? = some cell ∧ cell.vm.isStatics = false ∧ s.vm.findClass q.1 = some cell.cls :=
  va_recv w.2.2.1 w.1 hc (q0 := o) (by rw [wl_at ho, hcell])
theorem w_runV {n o ci N : Nat} {fs : List Value} {C : String} {T : u_T} (S : CallFix p m c cc nL s args BG own) (cn : Cn A s) (w : Wd D ca ad A s H locs σ) (ho : o < 17 + sN σ) (hcell : wC ca ad σ o = .inr (ci, fs)) (hc : vwCl[ci]? = some (C, T, N))
    (hM : ∀ sz, Met l y (.code y bytes maxL ret :: BG) rm (Pw D ca ad σ sz (.ref (ad o) :: As)) (Qc sz) mc ms (wA ad (sN σ) sz)) (hT : GoodIn BG (wsV own index C y (.code y bytes maxL ret :: BG))) (hrc : rm.cells = mc) (hrs : rm.slots = ms)
    (hd : y.cls = C ∧ y.cls ≠ "java/lang/invoke/MethodHandle" ∧ y.cls ≠ "java/lang/invoke/VarHandle" ∧ (parseMethodDescriptor y.desc).map (fun d => d.parameters.length) = some n) (hR : rm.frames + 1 ≤ R.frames ∧ 8 + (maxL + 11) + rm.locals ≤ R.locals) (hn : As.length = n) (hsz : ls.size = nL)
    (hst : st0 = As.reverse ++ .ref (ad o) :: rest) (hW : (rest.map fun v => v.category).sum ≤ 8) (hdg : decode cc pc = .ok (.invokevirtual index, 3)) (hf : cells + mc ≤ R.cells ∧ slots + ms ≤ R.slots) :
    va_Run p l e R s m args below meth c H locs cells slots mc ms (F0 m pc ls st0) rest (Qc H.size (.ref (ad o) :: As).toArray) (wA ad (sN σ) H.size) :=
  va_runV (As := As) (rest := rest) S (hM H.size) (cwV n S.2.2.2.2 hT rfl hrc hrs hd hR) ⟨Pw.blind, w_recv w ho hcell hc, fun U hU hW => ⟨rfl, w_pre cn w U hU hW⟩⟩ rfl hn hsz hst (lv_room hW) hdg hf
theorem w_runVN {n o ci N : Nat} {fs : List Value} {C host : String} {T : u_T} (S : CallFix p m c cc nL s args BG own) (cn : Cn A s) (w : Wd D ca ad A s H locs σ) (ho : o < 17 + sN σ) (hcell : wC ca ad σ o = .inr (ci, fs)) (hc : vwCl[ci]? = some (C, T, N))
    (hM : ∀ sz, Met l y (.code y bytes maxL ret :: BG) rm (Pw D ca ad σ sz (.ref (ad o) :: As)) (Qc sz) mc ms (wA ad (sN σ) sz)) (h1 : Cond.methodLinkNest own index y host ∈ EW) (h2 : Cond.instanceMethod y ∈ BG) (h3 : Cond.selects C y y ∈ BG) (h4 : Cond.initialized y.cls ∈ BG) (h5 : Cond.code y bytes maxL ret ∈ BG) (hrc : rm.cells = mc) (hrs : rm.slots = ms)
    (hd : y.cls = C ∧ y.cls ≠ "java/lang/invoke/MethodHandle" ∧ y.cls ≠ "java/lang/invoke/VarHandle" ∧ (parseMethodDescriptor y.desc).map (fun d => d.parameters.length) = some n) (hR : rm.frames + 1 ≤ R.frames ∧ 8 + (maxL + 11) + rm.locals ≤ R.locals) (hn : As.length = n) (hsz : ls.size = nL)
    (hst : st0 = As.reverse ++ .ref (ad o) :: rest) (hW : (rest.map fun v => v.category).sum ≤ 8) (hdg : decode cc pc = .ok (.invokevirtual index, 3)) (hf : cells + mc ≤ R.cells ∧ slots + ms ≤ R.slots) :
    va_Run p l e R s m args below meth c H locs cells slots mc ms (F0 m pc ls st0) rest (Qc H.size (.ref (ad o) :: As).toArray) (wA ad (sN σ) H.size) :=
  va_runVN (As := As) (rest := rest) S (hM H.size) ⟨va_cnB n S.2.2.2.2 (bg_c h5) rfl hrc hrs (cn.2.1.1 _ h1) (S.2.2.2.2 _ h4) hd.2 hR, S.2.2.2.2 _ h2, S.2.2.2.2 _ h3⟩ ⟨Pw.blind, w_recv w ho hcell hc, fun U hU hW => ⟨rfl, w_pre cn w U hU hW⟩⟩ rfl hn hsz hst (lv_room hW) hdg hf
theorem w_runS {n : Nat} (S : CallFix p m c cc nL s args BG own) (cn : Cn A s) (w : Wd D ca ad A s H locs σ)
    (hM : ∀ sz, Met l y (.code y bytes maxL ret :: BG) rm (Pw D ca ad σ sz As) (Qc sz) mc ms (wA ad (sN σ) sz)) (hT : GoodIn BG (wsS own index y (.code y bytes maxL ret :: BG))) (hrc : rm.cells = mc) (hrs : rm.slots = ms)
    (hd : y.cls = own ∧ y.cls ≠ "java/lang/invoke/MethodHandle" ∧ y.cls ≠ "java/lang/invoke/VarHandle" ∧ (parseMethodDescriptor y.desc).map (fun d => d.parameters.length) = some n) (hR : rm.frames + 1 ≤ R.frames ∧ 8 + (maxL + 11) + rm.locals ≤ R.locals) (hn : As.length = n) (hsz : ls.size = nL)
    (hst : st0 = As.reverse ++ rest) (hW : (rest.map fun v => v.category).sum ≤ 8) (hdg : decode cc pc = .ok (.invokestatic index, 3)) (hf : cells + mc ≤ R.cells ∧ slots + ms ≤ R.slots) :
    va_Run p l e R s m args below meth c H locs cells slots mc ms (F0 m pc ls st0) rest (Qc H.size As.toArray) (wA ad (sN σ) H.size) :=
  va_runS (As := As) (rest := rest) S (hM H.size) (cwS n S.2.2.2.2 hT rfl hrc hrs hd hR) ⟨Pw.blind, fun U hU hW => ⟨rfl, w_pre cn w U hU hW⟩⟩ rfl hn hsz hst (lv_room hW) hdg hf
theorem w_runSN {n : Nat} {host : String} (S : CallFix p m c cc nL s args BG own) (cn : Cn A s) (w : Wd D ca ad A s H locs σ)
    (hM : ∀ sz, Met l y (.code y bytes maxL ret :: BG) rm (Pw D ca ad σ sz As) (Qc sz) mc ms (wA ad (sN σ) sz)) (h1 : Cond.methodLinkNest own index y host ∈ EW) (h2 : Cond.static y ∈ BG) (h4 : Cond.initialized y.cls ∈ BG) (h5 : Cond.code y bytes maxL ret ∈ BG) (hrc : rm.cells = mc) (hrs : rm.slots = ms)
    (hd : y.cls ≠ "java/lang/invoke/MethodHandle" ∧ y.cls ≠ "java/lang/invoke/VarHandle" ∧ (parseMethodDescriptor y.desc).map (fun d => d.parameters.length) = some n) (hR : rm.frames + 1 ≤ R.frames ∧ 8 + (maxL + 11) + rm.locals ≤ R.locals) (hn : As.length = n) (hsz : ls.size = nL)
    (hst : st0 = As.reverse ++ rest) (hW : (rest.map fun v => v.category).sum ≤ 8) (hdg : decode cc pc = .ok (.invokestatic index, 3)) (hf : cells + mc ≤ R.cells ∧ slots + ms ≤ R.slots) :
    va_Run p l e R s m args below meth c H locs cells slots mc ms (F0 m pc ls st0) rest (Qc H.size As.toArray) (wA ad (sN σ) H.size) :=
  va_runSN (As := As) (rest := rest) S (hM H.size) ⟨va_cnB n S.2.2.2.2 (bg_c h5) rfl hrc hrs (cn.2.1.1 _ h1) (S.2.2.2.2 _ h4) hd hR, S.2.2.2.2 _ h2, trivial⟩ ⟨Pw.blind, fun U hU hW => ⟨rfl, w_pre cn w U hU hW⟩⟩ rfl hn hsz hst (lv_room hW) hdg hf
/-- a static method of numbers alone, of the own class -/
theorem n_runS {n : Nat} {v : Int32} (S : CallFix p m c cc nL s args BG own)
    (hM : Met l y (.code y bytes maxL ret :: BG) rm (va_Pc As (fun _ => True)) (Qn v) 0 0 (fun _ => False)) (hT : GoodIn BG (wsS own index y (.code y bytes maxL ret :: BG))) (hrc : rm.cells = 0) (hrs : rm.slots = 0)
    (hd : y.cls = own ∧ y.cls ≠ "java/lang/invoke/MethodHandle" ∧ y.cls ≠ "java/lang/invoke/VarHandle" ∧ (parseMethodDescriptor y.desc).map (fun d => d.parameters.length) = some n) (hR : rm.frames + 1 ≤ R.frames ∧ 8 + (maxL + 11) + rm.locals ≤ R.locals) (hn : As.length = n) (hsz : ls.size = nL)
    (hst : st0 = As.reverse ++ rest) (hW : (rest.map fun v => v.category).sum ≤ 8) (hdg : decode cc pc = .ok (.invokestatic index, 3)) (hf : cells ≤ R.cells ∧ slots ≤ R.slots) :
    va_Run p l e R s m args below meth c H locs cells slots 0 0 (F0 m pc ls st0) rest (Qn v As.toArray) (fun _ => False) :=
  va_runS (As := As) (rest := rest) S hM (cwS n S.2.2.2.2 hT rfl hrc hrs hd hR) ⟨Pn.blind, fun U hU hW => ⟨rfl, trivial⟩⟩ rfl hn hsz hst (lv_room hW) hdg hf
/-- the same, of another class of the library (linked by no nest) -/
theorem n_runL {n : Nat} {v : Int32} (S : CallFix p m c cc nL s args BG own)
    (hM : Met l y (.code y bytes maxL ret :: BG) rm (va_Pc As (fun _ => True)) (Qn v) 0 0 (fun _ => False)) (h1 : Cond.methodLink own index y ∈ BG) (h2 : Cond.static y ∈ BG) (h4 : Cond.initialized y.cls ∈ BG) (h5 : Cond.code y bytes maxL ret ∈ BG) (hrc : rm.cells = 0) (hrs : rm.slots = 0)
    (hd : y.cls ≠ "java/lang/invoke/MethodHandle" ∧ y.cls ≠ "java/lang/invoke/VarHandle" ∧ (parseMethodDescriptor y.desc).map (fun d => d.parameters.length) = some n) (hR : rm.frames + 1 ≤ R.frames ∧ 8 + (maxL + 11) + rm.locals ≤ R.locals) (hn : As.length = n) (hsz : ls.size = nL)
    (hst : st0 = As.reverse ++ rest) (hW : (rest.map fun v => v.category).sum ≤ 8) (hdg : decode cc pc = .ok (.invokestatic index, 3)) (hf : cells ≤ R.cells ∧ slots ≤ R.slots) :
    va_Run p l e R s m args below meth c H locs cells slots 0 0 (F0 m pc ls st0) rest (Qn v As.toArray) (fun _ => False) :=
  va_runS (As := As) (rest := rest) S hM ⟨⟨hrc, hrs, hR.1, hR.2, fun w hw a' U hW => word_at hW (bg_c h5 w hw).2 (S.2.2.2.2 _ (bg_c h5 w hw).1), List.mem_cons_self, S.2.2.2.2 _ h5, S.2.2.2.2 _ h4, ⟨hd.1, hd.2.1⟩, fun sig h => by have h2 := hd.2.2; rw [h] at h2; exact (Option.some.inj h2).symm, S.2.2.2.2 _ h1⟩, S.2.2.2.2 _ h2⟩ ⟨Pn.blind, fun U hU hW => ⟨rfl, trivial⟩⟩ rfl hn hsz hst (lv_room hW) hdg hf
/-- a static method of numbers alone, of a nest mate -/
theorem n_runN {n : Nat} {v : Int32} {host : String} (S : CallFix p m c cc nL s args BG own) (cn : Cn A s)
    (hM : Met l y (.code y bytes maxL ret :: BG) rm (va_Pc As (fun _ => True)) (Qn v) 0 0 (fun _ => False)) (h1 : Cond.methodLinkNest own index y host ∈ EW) (h2 : Cond.static y ∈ BG) (h4 : Cond.initialized y.cls ∈ BG) (h5 : Cond.code y bytes maxL ret ∈ BG) (hrc : rm.cells = 0) (hrs : rm.slots = 0)
    (hd : y.cls ≠ "java/lang/invoke/MethodHandle" ∧ y.cls ≠ "java/lang/invoke/VarHandle" ∧ (parseMethodDescriptor y.desc).map (fun d => d.parameters.length) = some n) (hR : rm.frames + 1 ≤ R.frames ∧ 8 + (maxL + 11) + rm.locals ≤ R.locals) (hn : As.length = n) (hsz : ls.size = nL)
    (hst : st0 = As.reverse ++ rest) (hW : (rest.map fun v => v.category).sum ≤ 8) (hdg : decode cc pc = .ok (.invokestatic index, 3)) (hf : cells ≤ R.cells ∧ slots ≤ R.slots) :
    va_Run p l e R s m args below meth c H locs cells slots 0 0 (F0 m pc ls st0) rest (Qn v As.toArray) (fun _ => False) :=
  va_runSN (As := As) (rest := rest) S hM ⟨va_cnB n S.2.2.2.2 (bg_c h5) rfl hrc hrs (cn.2.1.1 _ h1) (S.2.2.2.2 _ h4) hd hR, S.2.2.2.2 _ h2, trivial⟩ ⟨Pn.blind, fun U hU hW => ⟨rfl, trivial⟩⟩ rfl hn hsz hst (lv_room hW) hdg hf
theorem w_same {H1 : Heap} {locs1 : List Loc} (w : Wd D ca ad A s H locs σ) (hq : ∀ q : Nat, q < H.size → ¬ False → H1[q]? = H[q]?) (hS : va_S A s.heap H1 locs1) : Wd D ca ad A s H1 locs1 σ :=
  ⟨w.1.kept (fun k q hk => hq _ (w.1 k q hk).lt (fun h => h)), w.2.1, w.2.2.1, hS⟩
theorem n_calli {a : Array Value} {v : Int32} (w : Wd D ca ad A s H locs σ) (hr : va_Run p l e R s m args below meth c H locs cells slots 0 0 (F0 m pc ls st0) rest (Qn v a) (fun _ => False))
    (kk : ∀ (H1 : Heap) (locs1 : List Loc), Wd D ca ad A s H1 locs1 σ → W p l e R s m args below meth c H1 locs1 cells slots Q (F0 m (pc + 3) ls (.int v :: rest))) : W p l e R s m args below meth c H locs cells slots Q (F0 m pc ls st0) :=
  va_calli hr w.2.2.2 (fun q _ h => h.elim) (fun q h => h.elim) (fun r u t H1 locs1 ht hvm hp hB hz hk hS => by
    subst hp
    exact kk H1 locs1 (w_same w hk hS))
/-- the same where there is no world yet -/
theorem n_calli0 {a : Array Value} {v : Int32} (hS0 : va_S A s.heap H locs) (hr : va_Run p l e R s m args below meth c H locs cells slots 0 0 (F0 m pc ls st0) rest (Qn v a) (fun _ => False))
    (kk : ∀ (H1 : Heap) (locs1 : List Loc), va_S A s.heap H1 locs1 → W p l e R s m args below meth c H1 locs1 cells slots Q (F0 m (pc + 3) ls (.int v :: rest))) : W p l e R s m args below meth c H locs cells slots Q (F0 m pc ls st0) :=
  va_calli hr hS0 (fun q _ h => h.elim) (fun q h => h.elim) (fun r u t H1 locs1 ht hvm hp hB hz hk hS => by
    subst hp
    exact kk H1 locs1 hS)
theorem w_back {t : State} {H1 : Heap} {locs1 : List Loc} {u : St} (cn : Cn A s) (w : Wd D ca ad A s H locs σ) (ht : t.heap = H1) (hvm : s.vm.Alike t.vm) (hB : WQ D ca ad (wA ad (sN σ) H.size) u t) (hS : va_S A s.heap H1 locs1) : Wd D ca ad A s H1 locs1 u :=
  ⟨by rw [← ht]; exact hB.1, hB.2.2.weaken (fun _ _ _ h => w_sub cn w _ h), va_K.moved hvm.symm hB.2.1, hS⟩
theorem w_calli {a : Array Value} {post : Int32 → St → Prop} (cn : Cn A s) (w : Wd D ca ad A s H locs σ) (hr : va_Run p l e R s m args below meth c H locs cells slots mc ms (F0 m pc ls st0) rest (Qi D ca ad (sN σ) post H.size a) (wA ad (sN σ) H.size))
    (kk : ∀ (r : Int32) (u : St) (H1 : Heap) (locs1 : List Loc), post r u → Wd D ca ad A s H1 locs1 u → W p l e R s m args below meth c H1 locs1 (cells + mc) (slots + ms) Q (F0 m (pc + 3) ls (.int r :: rest))) : W p l e R s m args below meth c H locs cells slots Q (F0 m pc ls st0) :=
  va_calli hr w.2.2.2 (fun q _ h => w_sub cn w q h) (w_sub cn w) (fun r u t H1 locs1 ht hvm hp hB hz hk hS => kk r u H1 locs1 hp (w_back cn w ht hvm hB hS))
theorem w_calll {a : Array Value} {post : Int64 → St → Prop} (cn : Cn A s) (w : Wd D ca ad A s H locs σ) (hr : va_Run p l e R s m args below meth c H locs cells slots mc ms (F0 m pc ls st0) rest (Ql D ca ad (sN σ) post H.size a) (wA ad (sN σ) H.size))
    (kk : ∀ (r : Int64) (u : St) (H1 : Heap) (locs1 : List Loc), post r u → Wd D ca ad A s H1 locs1 u → W p l e R s m args below meth c H1 locs1 (cells + mc) (slots + ms) Q (F0 m (pc + 3) ls (.long r :: rest))) : W p l e R s m args below meth c H locs cells slots Q (F0 m pc ls st0) :=
  va_calll hr w.2.2.2 (fun q _ h => w_sub cn w q h) (w_sub cn w) (fun r u t H1 locs1 ht hvm hp hB hz hk hS => kk r u H1 locs1 hp (w_back cn w ht hvm hB hS))
theorem w_callv {a : Array Value} {post : St → Prop} (cn : Cn A s) (w : Wd D ca ad A s H locs σ) (hr : va_Run p l e R s m args below meth c H locs cells slots mc ms (F0 m pc ls st0) rest (Qv D ca ad (sN σ) post H.size a) (wA ad (sN σ) H.size))
    (kk : ∀ (u : St) (H1 : Heap) (locs1 : List Loc), post u → Wd D ca ad A s H1 locs1 u → W p l e R s m args below meth c H1 locs1 (cells + mc) (slots + ms) Q (F0 m (pc + 3) ls rest)) : W p l e R s m args below meth c H locs cells slots Q (F0 m pc ls st0) :=
  va_callv hr w.2.2.2 (fun q _ h => w_sub cn w q h) (w_sub cn w) (fun u t H1 locs1 ht hvm hp hB hz hk hS => kk u H1 locs1 hp (w_back cn w ht hvm hB hS))
theorem w_callr {a : Array Value} {post : Option Nat → St → Prop} (cn : Cn A s) (w : Wd D ca ad A s H locs σ) (hr : va_Run p l e R s m args below meth c H locs cells slots mc ms (F0 m pc ls st0) rest (Qr D ca ad (sN σ) post H.size a) (wA ad (sN σ) H.size))
    (kk : ∀ (r : Option Nat) (u : St) (H1 : Heap) (locs1 : List Loc), post r u → Wd D ca ad A s H1 locs1 u → W p l e R s m args below meth c H1 locs1 (cells + mc) (slots + ms) Q (F0 m (pc + 3) ls (va_rf r :: rest))) : W p l e R s m args below meth c H locs cells slots Q (F0 m pc ls st0) :=
  va_callq hr w.2.2.2 (fun q _ h => w_sub cn w q h) (w_sub cn w) (fun r u t H1 locs1 ht hvm hp hB hz hk hS => kk r u H1 locs1 hp (w_back cn w ht hvm hB hS))
end CallRows
