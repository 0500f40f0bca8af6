/-! ===== rows over the world ===== -/
def Wd (D : va_G) (ca : Nat → ClassId) (ad : Nat → Nat) (A : Nat → Prop) (s : State) (H : Heap) (locs : List Loc) (σ : St) : Prop := va_P D vwCl (wl ca ad σ) H ∧ va_D A (wl ca ad σ) ∧ va_K D vwCl (wt ca) s ∧ va_S A s.heap H locs
def wA (ad : Nat → Nat) (n sz : Nat) : Nat → Prop := fun q => (∃ o, o < 17 + n ∧ q = ad o) ∨ sz ≤ q
def Cn (A : Nat → Prop) (s : State) : Prop := (∀ q, s.heap.size ≤ q → A q) ∧ EV s ∧ XZ A s s.heap
def WP (D : va_G) (ca : Nat → ClassId) (ad : Nat → Nat) (σ : St) (U : State) : Prop := va_P D vwCl (wl ca ad σ) U.heap ∧ va_K D vwCl (wt ca) U ∧ va_D (fun _ => True) (wl ca ad σ) ∧ EV U ∧ XZ (wA ad (sN σ) U.heap.size) U U.heap
def WQ (D : va_G) (ca : Nat → ClassId) (ad : Nat → Nat) (B : Nat → Prop) (τ : St) (t : State) : Prop := va_P D vwCl (wl ca ad τ) t.heap ∧ va_K D vwCl (wt ca) t ∧ va_D B (wl ca ad τ)
/-- a method's start over the world -/
abbrev Pw (D : va_G) (ca : Nat → ClassId) (ad : Nat → Nat) (σ : St) (sz : Nat) (As : List Value) : Array Value → State → Prop := va_Pc As (fun U => U.heap.size = sz ∧ WP D ca ad σ U)
theorem Pw.blind {D : va_G} {ca : Nat → ClassId} {ad : Nat → Nat} {σ : St} {sz : Nat} {As : List Value} : FrameBlind (Pw D ca ad σ sz As) := by
  intro a U g mk h
  obtain ⟨h0, h1, hP, hK, hD, hE, hZ⟩ := h
  exact ⟨h0, h1, hP, va_K.moved (u := U) (U := U.calling g mk a) (Vm.Alike.refl U.vm) hK, hD, EV.same (u := U) (U := U.calling g mk a) rfl hE, XZ.moved (s := U) (U := U.calling g mk a) (Vm.Alike.refl U.vm) hZ⟩
theorem Pn.blind {As : List Value} : FrameBlind (va_Pc As (fun _ => True)) := fun _ _ _ _ h => h
section WRows
variable {p : Program} {l : Launch} {e : Env} {R : Room} {s : State} {m : MethodId} {args : Array Value} {below : List Frame} {meth : Method} {c : Code} {H : Heap} {locs : List Loc} {cells slots : Nat} {Q : State → Prop}
variable {cc : ByteArray} {pc nL : Nat} {ls : Array Slot} {rest : List Value} {own : String} {D : va_G} {ca : Nat → ClassId} {ad : Nat → Nat} {A : Nat → Prop} {σ : St}
theorem w_sub (cn : Cn A s) (w : Wd D ca ad A s H locs σ) : ∀ q, wA ad (sN σ) H.size q → A q := by
  intro q h
  rcases h with ⟨o, ho, rfl⟩ | h
  · exact w.2.1.2 o _ (wl_at ho)
  · exact cn.1 q (Nat.le_trans w.2.2.2.1 h)
theorem w_pre (cn : Cn A s) (w : Wd D ca ad A s H locs σ) (U : State) (hU : U.heap = H) (hW : s.WarmedH U.vm) : U.heap.size = H.size ∧ WP D ca ad σ U := by
  refine ⟨by rw [hU], by rw [hU]; exact w.1, va_K.moved hW.alike w.2.2.1, w.2.1.weaken (fun _ _ _ _ => trivial), cn.2.1.warm hW, ?_⟩
  rw [hU]
  exact cn.2.2.next w.2.2.2.2.1 (w_sub cn w) hW.alike
theorem w_inj (w : Wd D ca ad A s H locs σ) {i j : Nat} (hi : i < 17 + sN σ) (hj : j < 17 + sN σ) (h : ad i = ad j) : i = j := w.2.1.1 i j _ _ (wl_at hi) (wl_at hj) h
theorem w_get (S : CallFix p m c cc nL s args BG own) (w : Wd D ca ad A s H locs σ) {o ci : Nat} {fs : List Value} {C : String} {T : u_T} {N index : Nat} (ho : o < 17 + sN σ) (hcell : wC ca ad σ o = .inr (ci, fs)) (hc : vwCl[ci]? = some (C, T, N)) (hin : ∀ x ∈ u_ws C T N, x ∈ BG) (k : Nat) (hk : k < N) (hd : (T k).1 = C) {v : Value} (hv : fs[k]? = some v) (hlink : (Cond.fieldLink own index C (T k).2.1 (T k).2.2.1) ∈ BG) (hdg : decode cc pc = .ok (.getfield index, 3))
    (kk : W p l e R s m args below meth c H locs cells slots Q (F0 m (pc + 3) ls (v :: rest))) : W p l e R s m args below meth c H locs cells slots Q (F0 m pc ls (.ref (ad o) :: rest)) := by
  obtain ⟨hx, hb, hml, hown, hts⟩ := S
  exact va_get hx hb hts hin hown w.2.2.1 w.1 o (by rw [wl_at ho, hcell]) hc k hk (hts _ hlink) (fun x h => by rw [hd] at h; exact h) hv hdg kk
theorem w_getN (S : CallFix p m c cc nL s args BG own) (cn : Cn A s) (w : Wd D ca ad A s H locs σ) {o ci : Nat} {fs : List Value} {C host : String} {T : u_T} {N index : Nat} (ho : o < 17 + sN σ) (hcell : wC ca ad σ o = .inr (ci, fs)) (hc : vwCl[ci]? = some (C, T, N)) (hin : ∀ x ∈ u_ws C T N, x ∈ BG) (k : Nat) (hk : k < N) (hd : (T k).1 = C) {v : Value} (hv : fs[k]? = some v) (hlink : (Cond.fieldLinkNest own index C (T k).2.1 (T k).2.2.1 host) ∈ EW) (hdg : decode cc pc = .ok (.getfield index, 3))
    (kk : W p l e R s m args below meth c H locs cells slots Q (F0 m (pc + 3) ls (v :: rest))) : W p l e R s m args below meth c H locs cells slots Q (F0 m pc ls (.ref (ad o) :: rest)) := by
  obtain ⟨hx, hb, hml, hown, hts⟩ := S
  exact va_getN hx hb hts hin hown w.2.2.1 w.1 o (by rw [wl_at ho, hcell]) hc k hk (cn.2.1.use hlink) (fun x h => by rw [hd] at h; exact h) hv hdg kk
/-- another cell for the object o, by a field's place -/
theorem w_put (S : CallFix p m c cc nL s args BG own) (w : Wd D ca ad A s H locs σ) (τ : St) {o ci : Nat} {fs : List Value} {C : String} {T : u_T} {N index : Nat} (ho : o < 17 + sN σ) (hcell : wC ca ad σ o = .inr (ci, fs)) (hc : vwCl[ci]? = some (C, T, N)) (hin : ∀ x ∈ u_ws C T N, x ∈ BG) (ty0 : Nat → FieldType) (hty : ∀ k, k < N → parseFieldDescriptor (T k).2.2.1 = some (ty0 k)) (hnm : ∀ a, a < N → ∀ b, b < N → a ≠ b → (T a).2.1 ≠ (T b).2.1) (k : Nat) (hk : k < N) (hd : (T k).1 = C) {v : Value}
    (hset : (wl ca ad σ).set o (ad o, .inr (ci, fs.set k v)) = wl ca ad τ) (hfin : (T k).2.2.2 = false) {ty : FieldType} (hpt : parseFieldDescriptor (T k).2.2.1 = some ty) (hn : narrow ty v = v) (hfit : fits ty v = true) (hl : k < fs.length) (hlink : (Cond.fieldLink own index C (T k).2.1 (T k).2.2.1) ∈ BG) (hdg : decode cc pc = .ok (.putfield index, 3))
    (kk : ∀ (H1 : Heap) (locs1 : List Loc), Wd D ca ad A s H1 locs1 τ → W p l e R s m args below meth c H1 locs1 cells slots Q (F0 m (pc + 3) ls rest)) : W p l e R s m args below meth c H locs cells slots Q (F0 m pc ls (v :: .ref (ad o) :: rest)) := by
  obtain ⟨hx, hb, hml, hown, hts⟩ := S
  refine va_put hx hb hts hin ty0 hty hnm hown w.2.2.1 w.1 w.2.1 w.2.2.2 o (by rw [wl_at ho, hcell]) hc k hk (hts _ hlink) (fun x h => by rw [hd] at h; exact h) hfin hpt hn hfit hl hdg (fun H1 locs1 hP hD hS => ?_)
  rw [hset] at hP hD
  exact kk H1 locs1 ⟨hP, hD, w.2.2.1, hS⟩
theorem w_putN (S : CallFix p m c cc nL s args BG own) (cn : Cn A s) (w : Wd D ca ad A s H locs σ) (τ : St) {o ci : Nat} {fs : List Value} {C host : String} {T : u_T} {N index : Nat} (ho : o < 17 + sN σ) (hcell : wC ca ad σ o = .inr (ci, fs)) (hc : vwCl[ci]? = some (C, T, N)) (hin : ∀ x ∈ u_ws C T N, x ∈ BG) (ty0 : Nat → FieldType) (hty : ∀ k, k < N → parseFieldDescriptor (T k).2.2.1 = some (ty0 k)) (hnm : ∀ a, a < N → ∀ b, b < N → a ≠ b → (T a).2.1 ≠ (T b).2.1) (k : Nat) (hk : k < N) (hd : (T k).1 = C) {v : Value}
    (hset : (wl ca ad σ).set o (ad o, .inr (ci, fs.set k v)) = wl ca ad τ) (hfin : (T k).2.2.2 = false) {ty : FieldType} (hpt : parseFieldDescriptor (T k).2.2.1 = some ty) (hn : narrow ty v = v) (hfit : fits ty v = true) (hl : k < fs.length) (hlink : (Cond.fieldLinkNest own index C (T k).2.1 (T k).2.2.1 host) ∈ EW) (hdg : decode cc pc = .ok (.putfield index, 3))
    (kk : ∀ (H1 : Heap) (locs1 : List Loc), Wd D ca ad A s H1 locs1 τ → W p l e R s m args below meth c H1 locs1 cells slots Q (F0 m (pc + 3) ls rest)) : W p l e R s m args below meth c H locs cells slots Q (F0 m pc ls (v :: .ref (ad o) :: rest)) := by
  obtain ⟨hx, hb, hml, hown, hts⟩ := S
  refine va_putN hx hb hts hin ty0 hty hnm hown w.2.2.1 w.1 w.2.1 w.2.2.2 o (by rw [wl_at ho, hcell]) hc k hk (cn.2.1.use hlink) (fun x h => by rw [hd] at h; exact h) hfin hpt hn hfit hl hdg (fun H1 locs1 hP hD hS => ?_)
  rw [hset] at hP hD
  exact kk H1 locs1 ⟨hP, hD, w.2.2.1, hS⟩
/-- an element of one of the world's rows -/
theorem w_ald (S : CallFix p m c cc nL s args BG own) (w : Wd D ca ad A s H locs σ) {o n t0 : Nat} {C : String} {f : Nat → Option Nat} (ho : o < 17 + sN σ) (hcell : wC ca ad σ o = aRow (ca o) n f) (ht : (wt ca)[t0]? = some (ca o, .object C)) {i : Int32} (hin : vp_in i n) (hdg : decode cc pc = .ok (.aaload, 1))
    (kk : W p l e R s m args below meth c H locs cells slots Q (F0 m (pc + 1) ls (va_rf (f i.toNatClampNeg) :: rest))) : W p l e R s m args below meth c H locs cells slots Q (F0 m pc ls (.int i :: .ref (ad o) :: rest)) :=
  va_aldq S.1 S.2.1 w.2.2.1 w.1 o t0 (by rw [wl_at ho, hcell]) ht hin hdg kk
theorem w_alen (S : CallFix p m c cc nL s args BG own) (w : Wd D ca ad A s H locs σ) {o n t0 : Nat} {C : String} {f : Nat → Option Nat} (ho : o < 17 + sN σ) (hcell : wC ca ad σ o = aRow (ca o) n f) (ht : (wt ca)[t0]? = some (ca o, .object C)) {v : Int32} (hv : Int32.ofNat n = v) (hdg : decode cc pc = .ok (.arraylength, 1))
    (kk : W p l e R s m args below meth c H locs cells slots Q (F0 m (pc + 1) ls (.int v :: rest))) : W p l e R s m args below meth c H locs cells slots Q (F0 m pc ls (.ref (ad o) :: rest)) :=
  va_alen S.1 S.2.1 w.2.2.1 w.1 o t0 (by rw [wl_at ho, hcell]) ht hv hdg kk

theorem open_W {y : MethodName} {maxL : Nat} {ret : Option FieldType} {rm : Room} {As : List Value} {sz mc ms : Nat} {Qc : Nat → Array Value → State → Outcome → State → Prop} (hy : plainName y.cls = true) (hlen : (lg_sl As).length ≤ maxL)
    (body : ∀ p e s m args below meth c, CallFix p m c cc maxL s args BG y.cls → meth.sig.returnType = ret → meth.locks = false → Wd D ca ad (wA ad (sN σ) s.heap.size) s s.heap [] σ → Cn (wA ad (sN σ) s.heap.size) s → ∀ ls, lv_has ls maxL (lv_args 0 As) →
      W p l e rm s m args below meth c s.heap [] 0 0 (MQ below (Qc s.heap.size) args s mc ms (wA ad (sN σ) s.heap.size)) (F0 m 0 ls [])) :
    Met l y (.code y cc maxL ret :: BG) rm (Pw D ca ad σ sz As) (Qc sz) mc ms (wA ad (sN σ) sz) := by
  refine Met.ofW (cc := cc) (maxL := maxL) (ret := ret) hy rfl ?_
  intro p e s m args below meth c s₁ B hml hv
  obtain ⟨rfl, rfl, hP, hK, hD, hE, hZ⟩ := hv
  have hts := atoms_spec (ws := Cond.code y cc maxL ret :: BG) B.pre
  have hl := lv_entry As (n := maxL) hlen
  rw [lg_entry_eq]
  exact body p e s m _ below meth c ⟨B.exec, B.bytes, hml, findClass_of_methodNamed B.named, fun w hw => hts w (List.mem_cons_of_mem _ hw)⟩ B.returns B.notSynchronized
    ⟨hP, hD.weaken (fun k q hk _ => by obtain ⟨h1, rfl⟩ := wl_of hk; exact Or.inl ⟨k, h1, rfl⟩), hK, va_S.rf⟩ ⟨fun q h => Or.inr h, hE, hZ⟩ _ hl
theorem open_P {y : MethodName} {maxL : Nat} {ret : Option FieldType} {rm : Room} {As : List Value} {mc ms : Nat} {Qc : Array Value → State → Outcome → State → Prop} {free : Addr → Prop} (hy : plainName y.cls = true) (hlen : (lg_sl As).length ≤ maxL)
    (body : ∀ p e s m args below meth c, CallFix p m c cc maxL s args BG y.cls → meth.sig.returnType = ret → meth.locks = false → ∀ ls, lv_has ls maxL (lv_args 0 As) →
      W p l e rm s m args below meth c s.heap [] 0 0 (MQ below Qc args s mc ms free) (F0 m 0 ls [])) :
    Met l y (.code y cc maxL ret :: BG) rm (va_Pc As (fun _ => True)) Qc mc ms free := by
  refine Met.ofW (cc := cc) (maxL := maxL) (ret := ret) hy rfl ?_
  intro p e s m args below meth c s₁ B hml hv
  obtain ⟨rfl, -⟩ := hv
  have hts := atoms_spec (ws := Cond.code y cc maxL ret :: BG) B.pre
  have hl := lv_entry As (n := maxL) hlen
  rw [lg_entry_eq]
  exact body p e s m _ below meth c ⟨B.exec, B.bytes, hml, findClass_of_methodNamed B.named, fun w hw => hts w (List.mem_cons_of_mem _ hw)⟩ B.returns B.notSynchronized _ hl
theorem open_X {y : MethodName} {maxL : Nat} {ret : Option FieldType} {rm : Room} {As : List Value} {sz mc ms : Nat} {Qc : Nat → Array Value → State → Outcome → State → Prop} {XC : Nat → String → State → State → Prop} (hy : plainName y.cls = true) (hlen : (lg_sl As).length ≤ maxL)
    (body : ∀ p e s m args below meth c, CallFix p m c cc maxL s args BG y.cls → meth.sig.returnType = ret → meth.locks = false → (∀ x ∈ c.exceptionTable.toList, False) → Wd D ca ad (wA ad (sN σ) s.heap.size) s s.heap [] σ → Cn (wA ad (sN σ) s.heap.size) s → ∀ ls, lv_has ls maxL (lv_args 0 As) →
      W p l e rm s m args below meth c s.heap [] 0 0 (vx_MQ below (Qc s.heap.size) (XC s.heap.size) args s mc ms (wA ad (sN σ) s.heap.size)) (F0 m 0 ls [])) :
    vx_Met l y (.code y cc maxL ret :: BG) rm (Pw D ca ad σ sz As) (Qc sz) (XC sz) mc ms (wA ad (sN σ) sz) := by
  refine vx_ofW (cc := cc) (maxL := maxL) (ret := ret) hy rfl ?_
  intro p e s m args below meth c s₁ B hml hnt hv
  obtain ⟨rfl, rfl, hP, hK, hD, hE, hZ⟩ := hv
  have hts := atoms_spec (ws := Cond.code y cc maxL ret :: BG) B.pre
  have hl := lv_entry As (n := maxL) hlen
  rw [lg_entry_eq]
  exact body p e s m _ below meth c ⟨B.exec, B.bytes, hml, findClass_of_methodNamed B.named, fun w hw => hts w (List.mem_cons_of_mem _ hw)⟩ B.returns B.notSynchronized hnt
    ⟨hP, hD.weaken (fun k q hk _ => by obtain ⟨h1, rfl⟩ := wl_of hk; exact Or.inl ⟨k, h1, rfl⟩), hK, va_S.rf⟩ ⟨fun q h => Or.inr h, hE, hZ⟩ _ hl
end WRows
