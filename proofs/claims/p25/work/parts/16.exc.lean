/-! ===== methods that may throw: which exception, by a number (0: none) ===== -/
abbrev eRT : List String := ["java/lang/RuntimeException", "java/lang/Exception"]
theorem atg_1 : ∀ w ∈ (vx_atS RX4 286 eIO eRT).filter goodWord, w ∈ BG := by decide +kernel
theorem atn_1 : ∀ w ∈ (vx_atS RX4 286 eIO eRT).filter (fun w => !goodWord w), w ∈ EW := by decide +kernel
theorem atg_2 : ∀ w ∈ (vx_atS RX4 59 eIA eRT).filter goodWord, w ∈ BG := by decide +kernel
theorem atn_2 : ∀ w ∈ (vx_atS RX4 59 eIA eRT).filter (fun w => !goodWord w), w ∈ EW := by decide +kernel
theorem atg_3 : ∀ w ∈ (vx_atS RX4 155 eIS eRT).filter goodWord, w ∈ BG := by decide +kernel
theorem atn_3 : ∀ w ∈ (vx_atS RX4 155 eIS eRT).filter (fun w => !goodWord w), w ∈ EW := by decide +kernel
theorem fit_n : ∀ n ∈ eRT, Bundle.fit n = true := by decide +kernel
theorem ot_1 : ∀ w ∈ Cond.classLink RX4 282 eIO :: Cond.initialized eIO :: vx_atS RX4 286 eIO eRT, vx_ot w = true := by decide +kernel
theorem ot_2 : ∀ w ∈ Cond.classLink RX4 55 eIA :: Cond.initialized eIA :: vx_atS RX4 59 eIA eRT, vx_ot w = true := by decide +kernel
theorem ot_3 : ∀ w ∈ Cond.classLink RX4 151 eIS :: Cond.initialized eIS :: vx_atS RX4 155 eIS eRT, vx_ot w = true := by decide +kernel
/-- out of the range 0 .. N - 1: 1 -/
def erI (N : Nat) (i : Int32) : Nat := if i < 0 ∨ N ≤ i.toNatClampNeg then 1 else 0
theorem erI_neg {N : Nat} {i : Int32} (h : i < 0) : erI N i = 1 := if_pos (Or.inl h)
theorem erI_big {N : Nat} {i : Int32} (h : N ≤ i.toNatClampNeg) : erI N i = 1 := if_pos (Or.inr h)
theorem cl_ge {i M : Int32} {N : Nat} (hM : M.toInt = N) (h0 : ¬ i < 0) (h : M ≤ i) : N ≤ i.toNatClampNeg := by
  rw [Int32.le_iff_toInt_le] at h
  rw [Int32.lt_iff_toInt_lt] at h0
  have e : (0 : Int32).toInt = 0 := rfl
  have e2 : i.toNatClampNeg = i.toInt.toNat := rfl
  omega
theorem erI_ge {N : Nat} {i M : Int32} (hM : M.toInt = N) (h0 : ¬ i < 0) (h : ¬ i < M) : erI N i = 1 :=
  erI_big (cl_ge hM h0 (by rw [Int32.le_iff_toInt_le]; rw [Int32.lt_iff_toInt_lt] at h; omega))
theorem erI_in {N : Nat} {i : Int32} (h : vp_in i N) : erI N i = 0 := if_neg h
theorem in_erI {N : Nat} {i : Int32} (h : erI N i = 0) : vp_in i N := by
  unfold erI at h
  by_cases hc : i < 0 ∨ N ≤ i.toNatClampNeg
  · rw [if_pos hc] at h; cases h
  · exact hc
theorem erI_01 (N : Nat) (i : Int32) : erI N i = 0 ∨ erI N i = 1 := by
  unfold erI
  by_cases hc : i < 0 ∨ N ≤ i.toNatClampNeg
  · exact Or.inr (if_pos hc)
  · exact Or.inl (if_neg hc)
theorem erI_1 {N : Nat} {i : Int32} (h : ¬ erI N i = 0) : erI N i = 1 := (erI_01 N i).resolve_left h
section ExcRows
variable {p : Program} {l : Launch} {e : Env} {R : Room} {s : State} {m : MethodId} {args : Array Value} {below : List Frame} {meth : Method} {c : Code} {H : Heap} {locs : List Loc} {cells slots : Nat} {Q : State → Prop}
variable {cc bytes : ByteArray} {pc nL maxL index : Nat} {ls : Array Slot} {rest st0 As : List Value} {own : String} {D : va_G} {ca : Nat → ClassId} {ad : Nat → Nat} {A : Nat → Prop} {σ τ : St} {mc ms n er : Nat} {px : St → Prop} {y : MethodName} {ret : Option FieldType} {rm : Room} {Qc : Nat → Array Value → State → Outcome → State → Prop} {XC : Nat → String → State → State → Prop}
theorem x_post (cn : Cn (wA ad n s.heap.size) s) (w : Wd D ca ad (wA ad n s.heap.size) s H locs τ) (h0 : er ≠ 0) (hp : px τ) (E : String) (hE : E = exN er) (t : State) (hvm : s.vm.Alike t.vm) (hz : H.size ≤ t.heap.size) (hk : ∀ q : Nat, q < H.size → t.heap[q]? = H[q]?) : Xq D ca ad n er px s.heap.size E s t :=
  ⟨τ, ⟨h0, hp⟩, ⟨hE, w.1.kept (fun k q hk' => hk _ (w.1 k q hk').lt), va_K.moved hvm w.2.2.1, w.2.1⟩, Nat.le_trans w.2.2.2.1 hz, fun q h1 h2 => by rw [hk q (Nat.lt_of_lt_of_le h1 w.2.2.2.1)]; exact w.2.2.2.2.1 q h1 h2⟩
theorem x_throw1W {Qc : Array Value → State → Outcome → State → Prop} {k : Nat} {tx : String} (hlt : l.stackTraces = false) (X : CallFix p m c cc nL s args BG own) (hw : own = RX4) (hlk : meth.locks = false) (hnt : ∀ x ∈ c.exceptionTable.toList, False) (cn : Cn (wA ad n s.heap.size) s) (w : Wd D ca ad (wA ad n s.heap.size) s H locs τ) (hls : ls.size = nL) (hs : (k, tx) ∈ evS)
    (he : er = 1) (hp : px τ) (hm : er ≠ 0 → 1 ≤ mc ∧ 6 ≤ ms) (d0 : decode cc pc = .ok (.new 282, 3)) (d3 : decode cc (pc + 3) = .ok (.dup, 1)) (d4 : decode cc (pc + 4) = .ok (.ldc_w k, 3)) (d7 : decode cc (pc + 7) = .ok (.invokespecial 286, 3)) (d10 : decode cc (pc + 10) = .ok (.athrow, 1))
    (hf : 5 < R.frames) (hlo : (rest.map fun v => v.category).sum + 82 ≤ R.locals) (hc0 : cells = 0) (hs0 : slots = 0) (hRc : R.cells = mc) (hRs : R.slots = ms) :
    W p l e R s m args below meth c H locs cells slots (vx_MQ below Qc (Xq D ca ad n er px s.heap.size) args s mc ms (wA ad n s.heap.size)) (F0 m pc ls rest) := by
  subst hw
  obtain ⟨sa, hsa⟩ := cn.2.1.2.1 _ hs
  have hm' := hm (by omega)
  exact vx_throwSW X.1 X.2.1 hlt X.2.2.2.1 (by decide +kernel) fit_n (X.2.2.2.2 _ kw_282) (X.2.2.2.2 _ kw_40) hsa (vx_hat (fun w hw => X.2.2.2.2 _ (atg_1 w hw)) atn_1 (fun w hw => cn.2.1.use hw)) ot_1 cn.2.2.1 cn.2.2.2 w.2.2.2 (hls.trans X.2.2.1.symm) d0 d3 d4 d7 d10 (fun x hx => (hnt x hx).elim) hf hlo (by omega) (by omega) hlk
    (fun t hvm hz hk => x_post cn w (by omega) hp eIO (by rw [he]; rfl) t hvm hz hk) w.2.2.2.2.2 (by omega) (by omega)
theorem x_throw2W {Qc : Array Value → State → Outcome → State → Prop} {k : Nat} {tx : String} (hlt : l.stackTraces = false) (X : CallFix p m c cc nL s args BG own) (hw : own = RX4) (hlk : meth.locks = false) (hnt : ∀ x ∈ c.exceptionTable.toList, False) (cn : Cn (wA ad n s.heap.size) s) (w : Wd D ca ad (wA ad n s.heap.size) s H locs τ) (hls : ls.size = nL) (hs : (k, tx) ∈ evS)
    (he : er = 2) (hp : px τ) (hm : er ≠ 0 → 1 ≤ mc ∧ 6 ≤ ms) (d0 : decode cc pc = .ok (.new 55, 3)) (d3 : decode cc (pc + 3) = .ok (.dup, 1)) (d4 : decode cc (pc + 4) = .ok (.ldc_w k, 3)) (d7 : decode cc (pc + 7) = .ok (.invokespecial 59, 3)) (d10 : decode cc (pc + 10) = .ok (.athrow, 1))
    (hf : 5 < R.frames) (hlo : (rest.map fun v => v.category).sum + 82 ≤ R.locals) (hc0 : cells = 0) (hs0 : slots = 0) (hRc : R.cells = mc) (hRs : R.slots = ms) :
    W p l e R s m args below meth c H locs cells slots (vx_MQ below Qc (Xq D ca ad n er px s.heap.size) args s mc ms (wA ad n s.heap.size)) (F0 m pc ls rest) := by
  subst hw
  obtain ⟨sa, hsa⟩ := cn.2.1.2.1 _ hs
  have hm' := hm (by omega)
  exact vx_throwSW X.1 X.2.1 hlt X.2.2.2.1 (by decide +kernel) fit_n (X.2.2.2.2 _ kw_199) (X.2.2.2.2 _ kw_38) hsa (vx_hat (fun w hw => X.2.2.2.2 _ (atg_2 w hw)) atn_2 (fun w hw => cn.2.1.use hw)) ot_2 cn.2.2.1 cn.2.2.2 w.2.2.2 (hls.trans X.2.2.1.symm) d0 d3 d4 d7 d10 (fun x hx => (hnt x hx).elim) hf hlo (by omega) (by omega) hlk
    (fun t hvm hz hk => x_post cn w (by omega) hp eIA (by rw [he]; rfl) t hvm hz hk) w.2.2.2.2.2 (by omega) (by omega)
theorem x_throw3W {Qc : Array Value → State → Outcome → State → Prop} {k : Nat} {tx : String} (hlt : l.stackTraces = false) (X : CallFix p m c cc nL s args BG own) (hw : own = RX4) (hlk : meth.locks = false) (hnt : ∀ x ∈ c.exceptionTable.toList, False) (cn : Cn (wA ad n s.heap.size) s) (w : Wd D ca ad (wA ad n s.heap.size) s H locs τ) (hls : ls.size = nL) (hs : (k, tx) ∈ evS)
    (he : er = 3) (hp : px τ) (hm : er ≠ 0 → 1 ≤ mc ∧ 6 ≤ ms) (d0 : decode cc pc = .ok (.new 151, 3)) (d3 : decode cc (pc + 3) = .ok (.dup, 1)) (d4 : decode cc (pc + 4) = .ok (.ldc_w k, 3)) (d7 : decode cc (pc + 7) = .ok (.invokespecial 155, 3)) (d10 : decode cc (pc + 10) = .ok (.athrow, 1))
    (hf : 5 < R.frames) (hlo : (rest.map fun v => v.category).sum + 82 ≤ R.locals) (hc0 : cells = 0) (hs0 : slots = 0) (hRc : R.cells = mc) (hRs : R.slots = ms) :
    W p l e R s m args below meth c H locs cells slots (vx_MQ below Qc (Xq D ca ad n er px s.heap.size) args s mc ms (wA ad n s.heap.size)) (F0 m pc ls rest) := by
  subst hw
  obtain ⟨sa, hsa⟩ := cn.2.1.2.1 _ hs
  have hm' := hm (by omega)
  exact vx_throwSW X.1 X.2.1 hlt X.2.2.2.1 (by decide +kernel) fit_n (X.2.2.2.2 _ kw_443) (X.2.2.2.2 _ kw_41) hsa (vx_hat (fun w hw => X.2.2.2.2 _ (atg_3 w hw)) atn_3 (fun w hw => cn.2.1.use hw)) ot_3 cn.2.2.1 cn.2.2.2 w.2.2.2 (hls.trans X.2.2.1.symm) d0 d3 d4 d7 d10 (fun x hx => (hnt x hx).elim) hf hlo (by omega) (by omega) hlk
    (fun t hvm hz hk => x_post cn w (by omega) hp eIS (by rw [he]; rfl) t hvm hz hk) w.2.2.2.2.2 (by omega) (by omega)
theorem x_throw1 {Qc : Array Value → State → Outcome → State → Prop} {k : Nat} {tx : String} (hlt : l.stackTraces = false) (X : CallFix p m c cc nL s args BG own) (hw : own = RX4) (hlk : meth.locks = false) (hnt : ∀ x ∈ c.exceptionTable.toList, False) (cn : Cn (wA ad n s.heap.size) s) (w : Wd D ca ad (wA ad n s.heap.size) s H locs τ) (hls : ls.size = nL) (hs : (k, tx) ∈ evS)
    (he : er = 1) (hp : px τ) (hm : er ≠ 0 → 1 ≤ mc ∧ 6 ≤ ms) (d0 : decode cc pc = .ok (.new 282, 3)) (d3 : decode cc (pc + 3) = .ok (.dup, 1)) (d4 : decode cc (pc + 4) = .ok (.ldc k, 2)) (d7 : decode cc (pc + 6) = .ok (.invokespecial 286, 3)) (d10 : decode cc (pc + 9) = .ok (.athrow, 1))
    (hf : 5 < R.frames) (hlo : (rest.map fun v => v.category).sum + 82 ≤ R.locals) (hc0 : cells = 0) (hs0 : slots = 0) (hRc : R.cells = mc) (hRs : R.slots = ms) :
    W p l e R s m args below meth c H locs cells slots (vx_MQ below Qc (Xq D ca ad n er px s.heap.size) args s mc ms (wA ad n s.heap.size)) (F0 m pc ls rest) := by
  subst hw
  obtain ⟨sa, hsa⟩ := cn.2.1.2.1 _ hs
  have hm' := hm (by omega)
  exact vx_throwS X.1 X.2.1 hlt X.2.2.2.1 (by decide +kernel) fit_n (X.2.2.2.2 _ kw_282) (X.2.2.2.2 _ kw_40) hsa (vx_hat (fun w hw => X.2.2.2.2 _ (atg_1 w hw)) atn_1 (fun w hw => cn.2.1.use hw)) ot_1 cn.2.2.1 cn.2.2.2 w.2.2.2 (hls.trans X.2.2.1.symm) d0 d3 d4 d7 d10 (fun x hx => (hnt x hx).elim) hf hlo (by omega) (by omega) hlk
    (fun t hvm hz hk => x_post cn w (by omega) hp eIO (by rw [he]; rfl) t hvm hz hk) w.2.2.2.2.2 (by omega) (by omega)
theorem x_throw2 {Qc : Array Value → State → Outcome → State → Prop} {k : Nat} {tx : String} (hlt : l.stackTraces = false) (X : CallFix p m c cc nL s args BG own) (hw : own = RX4) (hlk : meth.locks = false) (hnt : ∀ x ∈ c.exceptionTable.toList, False) (cn : Cn (wA ad n s.heap.size) s) (w : Wd D ca ad (wA ad n s.heap.size) s H locs τ) (hls : ls.size = nL) (hs : (k, tx) ∈ evS)
    (he : er = 2) (hp : px τ) (hm : er ≠ 0 → 1 ≤ mc ∧ 6 ≤ ms) (d0 : decode cc pc = .ok (.new 55, 3)) (d3 : decode cc (pc + 3) = .ok (.dup, 1)) (d4 : decode cc (pc + 4) = .ok (.ldc k, 2)) (d7 : decode cc (pc + 6) = .ok (.invokespecial 59, 3)) (d10 : decode cc (pc + 9) = .ok (.athrow, 1))
    (hf : 5 < R.frames) (hlo : (rest.map fun v => v.category).sum + 82 ≤ R.locals) (hc0 : cells = 0) (hs0 : slots = 0) (hRc : R.cells = mc) (hRs : R.slots = ms) :
    W p l e R s m args below meth c H locs cells slots (vx_MQ below Qc (Xq D ca ad n er px s.heap.size) args s mc ms (wA ad n s.heap.size)) (F0 m pc ls rest) := by
  subst hw
  obtain ⟨sa, hsa⟩ := cn.2.1.2.1 _ hs
  have hm' := hm (by omega)
  exact vx_throwS X.1 X.2.1 hlt X.2.2.2.1 (by decide +kernel) fit_n (X.2.2.2.2 _ kw_199) (X.2.2.2.2 _ kw_38) hsa (vx_hat (fun w hw => X.2.2.2.2 _ (atg_2 w hw)) atn_2 (fun w hw => cn.2.1.use hw)) ot_2 cn.2.2.1 cn.2.2.2 w.2.2.2 (hls.trans X.2.2.1.symm) d0 d3 d4 d7 d10 (fun x hx => (hnt x hx).elim) hf hlo (by omega) (by omega) hlk
    (fun t hvm hz hk => x_post cn w (by omega) hp eIA (by rw [he]; rfl) t hvm hz hk) w.2.2.2.2.2 (by omega) (by omega)
theorem x_throw3 {Qc : Array Value → State → Outcome → State → Prop} {k : Nat} {tx : String} (hlt : l.stackTraces = false) (X : CallFix p m c cc nL s args BG own) (hw : own = RX4) (hlk : meth.locks = false) (hnt : ∀ x ∈ c.exceptionTable.toList, False) (cn : Cn (wA ad n s.heap.size) s) (w : Wd D ca ad (wA ad n s.heap.size) s H locs τ) (hls : ls.size = nL) (hs : (k, tx) ∈ evS)
    (he : er = 3) (hp : px τ) (hm : er ≠ 0 → 1 ≤ mc ∧ 6 ≤ ms) (d0 : decode cc pc = .ok (.new 151, 3)) (d3 : decode cc (pc + 3) = .ok (.dup, 1)) (d4 : decode cc (pc + 4) = .ok (.ldc k, 2)) (d7 : decode cc (pc + 6) = .ok (.invokespecial 155, 3)) (d10 : decode cc (pc + 9) = .ok (.athrow, 1))
    (hf : 5 < R.frames) (hlo : (rest.map fun v => v.category).sum + 82 ≤ R.locals) (hc0 : cells = 0) (hs0 : slots = 0) (hRc : R.cells = mc) (hRs : R.slots = ms) :
    W p l e R s m args below meth c H locs cells slots (vx_MQ below Qc (Xq D ca ad n er px s.heap.size) args s mc ms (wA ad n s.heap.size)) (F0 m pc ls rest) := by
  subst hw
  obtain ⟨sa, hsa⟩ := cn.2.1.2.1 _ hs
  have hm' := hm (by omega)
  exact vx_throwS X.1 X.2.1 hlt X.2.2.2.1 (by decide +kernel) fit_n (X.2.2.2.2 _ kw_443) (X.2.2.2.2 _ kw_41) hsa (vx_hat (fun w hw => X.2.2.2.2 _ (atg_3 w hw)) atn_3 (fun w hw => cn.2.1.use hw)) ot_3 cn.2.2.1 cn.2.2.2 w.2.2.2 (hls.trans X.2.2.1.symm) d0 d3 d4 d7 d10 (fun x hx => (hnt x hx).elim) hf hlo (by omega) (by omega) hlk
    (fun t hvm hz hk => x_post cn w (by omega) hp eIS (by rw [he]; rfl) t hvm hz hk) w.2.2.2.2.2 (by omega) (by omega)
/-- no exception: the plain contract -/
theorem met_of {Pc : Array Value → State → Prop} {Qc : Array Value → State → Outcome → State → Prop} {ws : List Cond} {sz : Nat} {free : Addr → Prop} (h : vx_Met l y ws rm Pc Qc (Xq D ca ad n er px sz) mc ms free) (h0 : er = 0) : Met l y ws rm Pc Qc mc ms free := by
  intro p e ha hc hk s m args below hf happ hpre hK
  obtain ⟨k, o, h1, h2, h3, h4⟩ := h p e ha hc hk s m args below hf happ hpre hK
  refine ⟨k, o, h1, h2, h3, ?_⟩
  rcases h4 with h4 | ⟨q, -, E, ce, L, ⟨u, ⟨hu, -⟩, -⟩, -⟩
  · exact h4
  · exact (hu h0).elim
/-- a call that surely throws, and isn't caught here -/
theorem x_gone {Qa : State → Outcome → State → Prop} {Qc : Array Value → State → Outcome → State → Prop} {er1 : Nat} {px1 : St → Prop} (X : CallFix p m c cc nL s args BG own) (hlk : meth.locks = false) (hnt : ∀ x ∈ c.exceptionTable.toList, False) (cn : Cn (wA ad n s.heap.size) s) (w : Wd D ca ad (wA ad n s.heap.size) s H locs σ)
    (hr : vx_Run p l e R s m args below meth c H locs cells slots 1 6 (F0 m pc ls st0) rest Qa (Xq D ca ad (sN σ) er1 px1 H.size) (wA ad (sN σ) H.size))
    (hno : ∀ st v t, ¬ Qa st (.returned v) t) (hex : exN er1 = exN er) (h0 : er ≠ 0) (hpx : ∀ u, px1 u → px u) (hm : er ≠ 0 → 1 ≤ mc ∧ 6 ≤ ms) (hc0 : cells = 0) (hs0 : slots = 0) :
    W p l e R s m args below meth c H locs cells slots (vx_MQ below Qc (Xq D ca ad n er px s.heap.size) args s mc ms (wA ad n s.heap.size)) (F0 m pc ls st0) := by
  intro T hT XX
  have hm' := hm h0
  rcases hr T hT XX with ⟨v, st₀, t, T', L, g0, X', hL, e1, e2, hq, st⟩ | ⟨q, st₀, t, T', L, E, ce, g0, X', hL, e1, e2, ⟨u, ⟨-, hp⟩, ⟨hE, hb⟩, hF⟩, hce, hcv, hcl, st⟩
  · exact (hno _ _ _ hq).elim
  · obtain ⟨k1, k2, k3⟩ := vx_keep g0 e1 w.2.2.2 (fun q _ h => w_sub cn w q h) (w_sub cn w) hL hF
    have w' : Wd D ca ad (wA ad n s.heap.size) s T'.heap (locs ++ L) u := w_back cn w e1.symm (by rw [← e2]; exact X'.warmed.alike) hb k3
    have kx : vx_W p l e R s m args below meth c T'.heap (locs ++ L) (cells + 1) (slots + 6) (vx_MQ below Qc (Xq D ca ad n er px s.heap.size) args s mc ms (wA ad n s.heap.size)) (F0 m pc ls rest) q :=
      vx_out (fun x hx => (hnt x hx).elim) hlk (by rw [e1]; exact hce) hcv hcl (fun t2 ht2 hvm => x_post cn w' h0 (hpx _ hp) E (by rw [hE, hex]) t2 hvm (by rw [ht2]; exact Nat.le_refl _) (fun q _ => by rw [ht2])) w'.2.2.2.2.2 (by omega) (by omega)
    obtain ⟨t2, a1, b1⟩ := kx T' rfl X'
    exact ⟨t2, st.trans a1, b1⟩
theorem xw_runV {n o ci N : Nat} {fs : List Value} {C : String} {T : u_T} (S : CallFix p m c cc nL s args BG own) (cn : Cn A s) (w : Wd D ca ad A s H locs σ) (ho : o < 17 + sN σ) (hcell : wC ca ad σ o = .inr (ci, fs)) (hc : vwCl[ci]? = some (C, T, N))
    (hM : ∀ sz, vx_Met l y (.code y bytes maxL ret :: BG) rm (Pw D ca ad σ sz (.ref (ad o) :: As)) (Qc sz) (XC sz) mc ms (wA ad (sN σ) sz)) (hT : GoodIn BG (wsV own index C y (.code y bytes maxL ret :: BG))) (hrc : rm.cells = mc) (hrs : rm.slots = ms)
    (hd : y.cls = C ∧ y.cls ≠ "java/lang/invoke/MethodHandle" ∧ y.cls ≠ "java/lang/invoke/VarHandle" ∧ (parseMethodDescriptor y.desc).map (fun d => d.parameters.length) = some n) (hR : rm.frames + 1 ≤ R.frames ∧ 8 + (maxL + 11) + rm.locals ≤ R.locals) (hn : As.length = n) (hsz : ls.size = nL)
    (hst : st0 = As.reverse ++ .ref (ad o) :: rest) (hW : (rest.map fun v => v.category).sum ≤ 8) (hdg : decode cc pc = .ok (.invokevirtual index, 3)) (hf : cells + mc ≤ R.cells ∧ slots + ms ≤ R.slots) :
    vx_Run p l e R s m args below meth c H locs cells slots mc ms (F0 m pc ls st0) rest (Qc H.size (.ref (ad o) :: As).toArray) (XC H.size) (wA ad (sN σ) H.size) :=
  vx_runV (As := As) (rest := rest) S (hM H.size) (cwV n S.2.2.2.2 hT rfl hrc hrs hd hR) ⟨Pw.blind, w_recv w ho hcell hc, fun U hU hW => ⟨rfl, w_pre cn w U hU hW⟩⟩ rfl hn hsz hst (lv_room hW) hdg hf
theorem xw_runS {n : Nat} (S : CallFix p m c cc nL s args BG own) (cn : Cn A s) (w : Wd D ca ad A s H locs σ)
    (hM : ∀ sz, vx_Met l y (.code y bytes maxL ret :: BG) rm (Pw D ca ad σ sz As) (Qc sz) (XC sz) mc ms (wA ad (sN σ) sz)) (hT : GoodIn BG (wsS own index y (.code y bytes maxL ret :: BG))) (hrc : rm.cells = mc) (hrs : rm.slots = ms)
    (hd : y.cls = own ∧ y.cls ≠ "java/lang/invoke/MethodHandle" ∧ y.cls ≠ "java/lang/invoke/VarHandle" ∧ (parseMethodDescriptor y.desc).map (fun d => d.parameters.length) = some n) (hR : rm.frames + 1 ≤ R.frames ∧ 8 + (maxL + 11) + rm.locals ≤ R.locals) (hn : As.length = n) (hsz : ls.size = nL)
    (hst : st0 = As.reverse ++ rest) (hW : (rest.map fun v => v.category).sum ≤ 8) (hdg : decode cc pc = .ok (.invokestatic index, 3)) (hf : cells + mc ≤ R.cells ∧ slots + ms ≤ R.slots) :
    vx_Run p l e R s m args below meth c H locs cells slots mc ms (F0 m pc ls st0) rest (Qc H.size As.toArray) (XC H.size) (wA ad (sN σ) H.size) :=
  vx_runS (As := As) (rest := rest) S (hM H.size) (cwS n S.2.2.2.2 hT rfl hrc hrs hd hR) ⟨Pw.blind, fun U hU hW => ⟨rfl, w_pre cn w U hU hW⟩⟩ rfl hn hsz hst (lv_room hW) hdg hf
end ExcRows
