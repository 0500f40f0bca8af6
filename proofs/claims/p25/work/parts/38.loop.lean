theorem lg_cmp_self (x : Int64) : lg_cmp x x = 0 := by
  unfold lg_cmp
  rw [if_neg (by exact fun h => Int64.lt_irrefl h), if_pos rfl]
section LawWalk
variable {p : Program} {l : Launch} {e : Env} {R : Room} {s : State} {m : MethodId} {args : Array Value} {below : List Frame} {meth : Method} {c : Code} {H : Heap} {locs : List Loc} {cells slots : Nat} {Q : State → Prop}
variable {cc : ByteArray} {pc nL index : Nat} {ls : Array Slot} {rest st0 : List Value} {D : va_G} {ca : Nat → ClassId} {ad : Nat → Nat} {A : Nat → Prop} {σ : St} {mc ms : Nat}
/-- reading the script -/
theorem x_cell (S : CallFix p m c cc nL s args BG RL) (w : Wd D ca ad A s H locs σ) {b LL : Nat} {xs : Nat → Int32} (hX : va_X b LL xs s s.heap) (hbl : b < s.heap.size) (hbA : ¬ A b) {k : Int32} (hk : ¬ k < 0) (hLL : LL < 2 ^ 31) (h1 : Cond.methodLink RL index yL_cell ∈ BG) (h2 : Cond.static yL_cell ∈ BG) (h4 : Cond.initialized RL ∈ BG) (h5 : Cond.code yL_cell cL_cell 2 (some .int) ∈ BG) (hR : 0 + 1 ≤ R.frames ∧ 8 + (2 + 11) + 0 ≤ R.locals) (hsz : ls.size = nL)
    (hst : st0 = [.int k, .ref b] ++ rest) (hW : (rest.map fun v => v.category).sum ≤ 8) (hdg : decode cc pc = .ok (.invokestatic index, 3)) (hf : cells ≤ R.cells ∧ slots ≤ R.slots) :
    va_Run p l e R s m args below meth c H locs cells slots 0 0 (F0 m pc ls st0) rest (Qn (s_cell LL xs k) [.ref b, .int k].toArray) (fun _ => False) :=
  va_runS (n := 2) (As := [.ref b, .int k]) (rest := rest) S (c_L_cell l b LL xs k hk hLL) (cwS 2 S.2.2.2.2 (bg_S h1 h2 h4 h5) rfl rfl rfl (by decide +kernel) hR) ⟨fun a U g mk h => ⟨h.1, va_X.moved (u := U) (U := U.calling g mk a) (Vm.Alike.refl U.vm) h.2.1, h.2.2⟩, fun U hU hW => ⟨rfl, by rw [hU]; exact (hX.kept (w.2.2.2.2.1 b hbl hbA)).moved hW.alike, by rw [hU]; exact Nat.lt_of_lt_of_le hbl w.2.2.2.1⟩⟩ rfl rfl hsz hst (lv_room hW) hdg hf
/-- an act -/
theorem w_calla {n : Nat} {a : Array Value} {G : Fm × Lm × Sm × Nat → Prop} (cn : Cn A s) (w : Wd D ca ad A s H locs σ) (hn : sN σ = n) (hr : va_Run p l e R s m args below meth c H locs cells slots mc ms (F0 m pc ls st0) rest (Qa D ca ad n G H.size a) (wA ad n H.size))
    (kk : ∀ (u : St × (Nat → Nat)) (H1 : Heap) (locs1 : List Loc), G u.1.2 → u.2 0 = ad 0 → Wd D ca u.2 A s H1 locs1 u.1 → W p l e R s m args below meth c H1 locs1 (cells + mc) (slots + ms) Q (F0 m (pc + 3) ls (.int 1 :: rest))) : W p l e R s m args below meth c H locs cells slots Q (F0 m pc ls st0) := by
  subst hn
  exact va_calli hr w.2.2.2 (fun q _ h => w_sub cn w q h) (w_sub cn w) (fun r u t H1 locs1 ht hvm hp hB hz hk hS => by
    obtain ⟨rfl, hG, h0⟩ := hp
    exact kk u H1 locs1 hG h0 ⟨by rw [← ht]; exact hB.1, hB.2.2.weaken (fun _ _ _ h => w_sub cn w _ h), va_K.moved hvm.symm hB.2.1, hS⟩)
end LawWalk
theorem rc_c {a : Nat} (h : a ≤ 654592) : a ≤ room_1.cells := h
theorem rc_s {a : Nat} (h : a ≤ 7137923) : a ≤ room_1.slots := h
theorem tm29 : ∀ t : Nat, t < 60 → ¬ (nI t - nI t / 29 * 29) < 0 := by
  have h : ∀ t : Fin 60, ¬ (nI t.val - nI t.val / 29 * 29) < 0 := by decide +kernel
  exact fun t ht => h ⟨t, ht⟩
theorem mx1_ne (z : Int32) : ¬ mx 1 z = 0 := by
  unfold mx
  split
  · rename_i h1
    intro h
    rw [h] at h1
    exact absurd h1 (by decide)
  · decide
theorem bal_step {a w i c a' w' i' c' : Int32} (h : a + w = i - c) (h2 : a' - a + w' - w = i' - i - c' + c) : a' + w' = i' - c' := by grind
/-- what an act leaves: the next state, and money and worth as invoices and costs moved -/
def GG (Iv : Fm → Lm → Sm → Nat → (Nat → Nat) → Nat → Prop) (t : Nat) (F : Fm) (n : Nat) (x : Int32) : Fm × Lm × Sm × Nat → Prop := fun u => ∃ q2 : Nat → Nat, Iv u.1 u.2.1 u.2.2.1 u.2.2.2 q2 (t + 1) ∧ (s_below x 13 = 12 ∨ s_many u.1 u.2.2.2 5 - s_many F n 5 + s_many u.1 u.2.2.2 8 - s_many F n 8 = s_many u.1 u.2.2.2 6 - s_many F n 6 - s_many u.1 u.2.2.2 7 + s_many F n 7)
/-- what the law's walk needs of the states that it meets -/
def LawInv (Iv : Fm → Lm → Sm → Nat → (Nat → Nat) → Nat → Prop) : Prop :=
  (∀ F L S n q t, Iv F L S n q t → Lf F L S n q) ∧
  (∀ F L S n q t, Iv F L S n q t → t < 60 → ∀ x : Int32, AOk F L S n q x (s_below (x >>> ((3 : Int32) &&& 31)) (mx 1 (s_many F n 0))) (s_below (x >>> ((5 : Int32) &&& 31)) 3) (s_below (x >>> ((4 : Int32) &&& 31)) 4) (GG Iv t F n x)) ∧
  (∀ F L S n q t, Iv F L S n q t → jj_all F L S n q ∧ jp_all F L S n q) ∧
  (∀ F L S n q t, Iv F L S n q t → ∀ b1 : Int32, (b1 = 0 ∨ s_many F n 5 + s_many F n 8 = s_many F n 6 - s_many F n 7) → jq_all F L S n q b1)

theorem nI_ge60 {t : Nat} (h : t < 60) : ¬ (60 : Int32) ≤ nI t := by
  rw [show (60 : Int32) = nI 60 from rfl]
  exact nI_ge h (by decide)
theorem nI_ne00 {k : Nat} (h : 0 < k) (hk : k < 2 ^ 31) : ¬ nI k = 0 := fun h0 => by
  have h1 := cl_nI hk
  rw [h0] at h1
  have h2 : (0 : Int32).toNatClampNeg = 0 := by decide
  omega

set_option maxHeartbeats 4000000 in
set_option maxRecDepth 100000 in
theorem law_loop {p : Program} {l : Launch} {e : Env} {s : State} {m : MethodId} {below : List Frame} {meth : Method} {c : Code} {D : va_G} {ca : Nat → ClassId} {b LL : Nat} {xs : Nat → Int32} (Iv : Fm → Lm → Sm → Nat → (Nat → Nat) → Nat → Prop) (hv : LawInv Iv) (X : CallFix p m c cL_law 12 s #[Value.ref b] BG RL) (hr : meth.sig.returnType = ret) (hlk : meth.locks = false) (cn : Cn (fun q => s.heap.size ≤ q) s) (hlt : l.stackTraces = false) (hL : LL ≤ 260) (hX : va_X b LL xs s s.heap) (hbl : b < s.heap.size) (hbA : ¬ (fun q => s.heap.size ≤ q) b) :
    ∀ (d t : Nat), t + d = 60 → ∀ (E : Em) (F : Fm) (L : Lm) (S : Sm) (n : Nat) (q : Nat → Nat) (ad : Nat → Nat) (cc12 : Int32) (H : Heap) (locs : List Loc), Wd D ca ad (fun q => s.heap.size ≤ q) s H locs (E, F, L, S, n) → Iv F L S n q t → (∃ cn : Nat, cc12 = nI cn ∧ cn ≤ t) → (cc12 = 0 → s_many F n 5 + s_many F n 8 = s_many F n 6 - s_many F n 7) → ∀ (ls : Array Slot), lv_has ls 12 [(3, .int (nI t)), (0, .ref b), (1, .ref (ad 0)), (2, .int cc12)] →
      W p l e room_1 s m #[Value.ref b] below meth c H locs (20 + 2 * t) (200 + 20 * t) (lw_Z below #[Value.ref b] s) (F0 m 12 ls []) := by
  intro d
  induction d with
  | zero =>
    intro t hkd E F L S n q ad cc12 H locs w hI hcn hb0 ls hl
    have hlf := hv.1 _ _ _ _ _ _ hI
    have wf := hlf.1
    have hs := wf.2.2.1
    have hJ := wf.2.1.2
    refine lv_iload_n X.1 X.2.1 dL_law_12 rfl (lv_at hl 0 rfl) ?_
    refine lv_bipush (v := 60) X.1 X.2.1 dL_law_13 (by decide) ?_
    refine lv_icmp_ge (tgt := 249) X.1 X.2.1 dL_law_15 (by decide) (fun c1 => ?_) (fun c1 => ?_)
    ·
      refine lv_iconst (v := 1) X.1 X.2.1 dL_law_249 (by decide) ?_
      refine va_forget (fun q9 hq => w.2.2.2.2.2 q9 hq) ?_
      refine W.widen (k := 654592) (n := 7137923) (by omega) (by omega) ?_
      exact lw_ret X.1 X.2.1 hr hlk dL_law_250
    ·
      exact absurd (by rw [show t = 60 by omega]; decide) c1
  | succ d ih =>
    intro t hkd E F L S n q ad cc12 H locs w hI hcn hb0 ls hl
    have hlf := hv.1 _ _ _ _ _ _ hI
    have wf := hlf.1
    have hs := wf.2.2.1
    have hJ := wf.2.1.2
    refine lv_iload_n X.1 X.2.1 dL_law_12 rfl (lv_at hl 0 rfl) ?_
    refine lv_bipush (v := 60) X.1 X.2.1 dL_law_13 (by decide) ?_
    refine lv_icmp_ge (tgt := 249) X.1 X.2.1 dL_law_15 (by decide) (fun c1 => ?_) (fun c1 => ?_)
    ·
      exact absurd c1 (nI_ge60 (by omega))
    ·
      refine lv_aload_n X.1 X.2.1 dL_law_18 rfl (lv_at hl 1 rfl) ?_
      refine lv_iload_n X.1 X.2.1 dL_law_19 rfl (lv_at hl 0 rfl) ?_
      refine lv_bipush (v := 29) X.1 X.2.1 dL_law_20 (by decide) ?_
      refine lv_irem X.1 X.2.1 dL_law_22 (by decide) ?_
      refine n_calli w (x_cell X w hX hbl hbA (tm29 t (by omega)) (Nat.lt_of_le_of_lt hL (by decide)) kw_415 kw_416 kw_30 kw_417 ⟨(Nat.le_of_ble_eq_true rfl), (Nat.le_of_ble_eq_true rfl)⟩ hl.1 rfl (Nat.le_of_ble_eq_true rfl) dL_law_23 ⟨(by first | exact rc_c (by omega) | exact rc_s (by omega)), (by first | exact rc_c (by omega) | exact rc_s (by omega))⟩) (fun H locs w => ?_)
      refine lv_iload_n X.1 X.2.1 dL_law_26 rfl (lv_at hl 0 rfl) ?_
      refine lv_bipush (v := 29) X.1 X.2.1 dL_law_27 (by decide) ?_
      refine lv_idiv X.1 X.2.1 dL_law_29 (by decide) ?_
      refine lv_bipush (v := 6) X.1 X.2.1 dL_law_30 (by decide) ?_
      refine lv_imul X.1 X.2.1 dL_law_32 ?_
      refine lv_ishr X.1 X.2.1 dL_law_33 ?_
      refine lv_topi (fun x2 ex2 => ?_)
      refine lv_istore (lv' := [(4, .int x2), (3, .int (nI t)), (0, .ref b), (1, .ref (ad 0)), (2, .int cc12)]) X.1 X.2.1 dL_law_34 hl (by decide) rfl (fun ls hl => ?_)
      refine lv_aload_n X.1 X.2.1 dL_law_36 rfl (lv_at hl 3 rfl) ?_
      refine lv_iconst (v := 5) X.1 X.2.1 dL_law_37 (by decide) ?_
      have h4 : (erW 10 (5 : Int32)) = 0 := (by decide)
      refine w_calli cn w (w_runV (n := 1) (As := [.int 5]) X cn w (lt17 (by decide)) wC_0 rfl (fun sz => met_of (c_X4_many l D ca ad E F L S n hlt q wf (5 : Int32) 0 0 (fun h => (h h4).elim) sz) h4) (bg_V kw_179 kw_180 kw_181 kw_31 kw_182) rfl rfl (by decide +kernel) ⟨(Nat.le_of_ble_eq_true rfl), (Nat.le_of_ble_eq_true rfl)⟩ rfl hl.1 rfl (Nat.le_of_ble_eq_true rfl) dL_law_38 ⟨(by first | exact rc_c (by omega) | exact rc_s (by omega)), (by first | exact rc_c (by omega) | exact rc_s (by omega))⟩) (fun r3 u H locs hp w => ?_)
      obtain ⟨E5, q6⟩ := u
      obtain ⟨-, rfl, h7⟩ := hp
      have h7 : q6 = (F, L, S, n) := h7
      subst h7
      refine lv_topi (fun x8 ex8 => ?_)
      refine lv_istore (lv' := [(5, .int x8), (4, .int x2), (3, .int (nI t)), (0, .ref b), (1, .ref (ad 0)), (2, .int cc12)]) X.1 X.2.1 dL_law_41 hl (by decide) rfl (fun ls hl => ?_)
      refine lv_aload_n X.1 X.2.1 dL_law_43 rfl (lv_at hl 4 rfl) ?_
      refine lv_bipush (v := 8) X.1 X.2.1 dL_law_44 (by decide) ?_
      have h10 : (erW 10 (8 : Int32)) = 0 := (by decide)
      refine w_calli cn w (w_runV (n := 1) (As := [.int 8]) X cn w (lt17 (by decide)) wC_0 rfl (fun sz => met_of (c_X4_many l D ca ad E5 F L S n hlt q wf (8 : Int32) 0 0 (fun h => (h h10).elim) sz) h10) (bg_V kw_179 kw_180 kw_181 kw_31 kw_182) rfl rfl (by decide +kernel) ⟨(Nat.le_of_ble_eq_true rfl), (Nat.le_of_ble_eq_true rfl)⟩ rfl hl.1 rfl (Nat.le_of_ble_eq_true rfl) dL_law_46 ⟨(by first | exact rc_c (by omega) | exact rc_s (by omega)), (by first | exact rc_c (by omega) | exact rc_s (by omega))⟩) (fun r9 u H locs hp w => ?_)
      obtain ⟨E11, q12⟩ := u
      obtain ⟨-, rfl, h13⟩ := hp
      have h13 : q12 = (F, L, S, n) := h13
      subst h13
      refine lv_topi (fun x14 ex14 => ?_)
      refine lv_istore (lv' := [(6, .int x14), (5, .int x8), (4, .int x2), (3, .int (nI t)), (0, .ref b), (1, .ref (ad 0)), (2, .int cc12)]) X.1 X.2.1 dL_law_49 hl (by decide) rfl (fun ls hl => ?_)
      refine lv_aload_n X.1 X.2.1 dL_law_51 rfl (lv_at hl 5 rfl) ?_
      refine lv_bipush (v := 7) X.1 X.2.1 dL_law_52 (by decide) ?_
      have h16 : (erW 10 (7 : Int32)) = 0 := (by decide)
      refine w_calli cn w (w_runV (n := 1) (As := [.int 7]) X cn w (lt17 (by decide)) wC_0 rfl (fun sz => met_of (c_X4_many l D ca ad E11 F L S n hlt q wf (7 : Int32) 0 0 (fun h => (h h16).elim) sz) h16) (bg_V kw_179 kw_180 kw_181 kw_31 kw_182) rfl rfl (by decide +kernel) ⟨(Nat.le_of_ble_eq_true rfl), (Nat.le_of_ble_eq_true rfl)⟩ rfl hl.1 rfl (Nat.le_of_ble_eq_true rfl) dL_law_54 ⟨(by first | exact rc_c (by omega) | exact rc_s (by omega)), (by first | exact rc_c (by omega) | exact rc_s (by omega))⟩) (fun r15 u H locs hp w => ?_)
      obtain ⟨E17, q18⟩ := u
      obtain ⟨-, rfl, h19⟩ := hp
      have h19 : q18 = (F, L, S, n) := h19
      subst h19
      refine lv_topi (fun x20 ex20 => ?_)
      refine lv_istore (lv' := [(7, .int x20), (6, .int x14), (5, .int x8), (4, .int x2), (3, .int (nI t)), (0, .ref b), (1, .ref (ad 0)), (2, .int cc12)]) X.1 X.2.1 dL_law_57 hl (by decide) rfl (fun ls hl => ?_)
      refine lv_aload_n X.1 X.2.1 dL_law_59 rfl (lv_at hl 6 rfl) ?_
      refine lv_bipush (v := 6) X.1 X.2.1 dL_law_60 (by decide) ?_
      have h22 : (erW 10 (6 : Int32)) = 0 := (by decide)
      refine w_calli cn w (w_runV (n := 1) (As := [.int 6]) X cn w (lt17 (by decide)) wC_0 rfl (fun sz => met_of (c_X4_many l D ca ad E17 F L S n hlt q wf (6 : Int32) 0 0 (fun h => (h h22).elim) sz) h22) (bg_V kw_179 kw_180 kw_181 kw_31 kw_182) rfl rfl (by decide +kernel) ⟨(Nat.le_of_ble_eq_true rfl), (Nat.le_of_ble_eq_true rfl)⟩ rfl hl.1 rfl (Nat.le_of_ble_eq_true rfl) dL_law_62 ⟨(by first | exact rc_c (by omega) | exact rc_s (by omega)), (by first | exact rc_c (by omega) | exact rc_s (by omega))⟩) (fun r21 u H locs hp w => ?_)
      obtain ⟨E23, q24⟩ := u
      obtain ⟨-, rfl, h25⟩ := hp
      have h25 : q24 = (F, L, S, n) := h25
      subst h25
      refine lv_topi (fun x26 ex26 => ?_)
      refine lv_istore (lv' := [(8, .int x26), (7, .int x20), (6, .int x14), (5, .int x8), (4, .int x2), (3, .int (nI t)), (0, .ref b), (1, .ref (ad 0)), (2, .int cc12)]) X.1 X.2.1 dL_law_65 hl (by decide) rfl (fun ls hl => ?_)
      refine lv_aload_n X.1 X.2.1 dL_law_67 rfl (lv_at hl 7 rfl) ?_
      refine lv_iload X.1 X.2.1 dL_law_68 (lv_at hl 4 rfl) ?_
      refine lv_iload X.1 X.2.1 dL_law_70 (lv_at hl 4 rfl) ?_
      refine lv_iconst (v := 3) X.1 X.2.1 dL_law_72 (by decide) ?_
      refine lv_ishr X.1 X.2.1 dL_law_73 ?_
      refine lv_iconst (v := 1) X.1 X.2.1 dL_law_74 (by decide) ?_
      refine lv_aload_n X.1 X.2.1 dL_law_75 rfl (lv_at hl 7 rfl) ?_
      refine lv_iconst (v := 0) X.1 X.2.1 dL_law_76 (by decide) ?_
      have h28 : (erW 10 (0 : Int32)) = 0 := (by decide)
      refine w_calli cn w (w_runV (n := 1) (As := [.int 0]) X cn w (lt17 (by decide)) wC_0 rfl (fun sz => met_of (c_X4_many l D ca ad E23 F L S n hlt q wf (0 : Int32) 0 0 (fun h => (h h28).elim) sz) h28) (bg_V kw_179 kw_180 kw_181 kw_31 kw_182) rfl rfl (by decide +kernel) ⟨(Nat.le_of_ble_eq_true rfl), (Nat.le_of_ble_eq_true rfl)⟩ rfl hl.1 rfl (Nat.le_of_ble_eq_true rfl) dL_law_77 ⟨(by first | exact rc_c (by omega) | exact rc_s (by omega)), (by first | exact rc_c (by omega) | exact rc_s (by omega))⟩) (fun r27 u H locs hp w => ?_)
      obtain ⟨E29, q30⟩ := u
      obtain ⟨-, rfl, h31⟩ := hp
      have h31 : q30 = (F, L, S, n) := h31
      subst h31
      refine n_max X hl.1 (X.2.2.2.2 _ kw_654) (Nat.le_of_ble_eq_true rfl) (Nat.le_of_ble_eq_true rfl) (by first | exact rc_c (by omega) | exact rc_s (by omega)) (by first | exact rc_c (by omega) | exact rc_s (by omega)) dL_law_80 ?_
      refine n_calli w (n_runS (n := 2) (As := [.int (x2 >>> ((3 : Int32) &&& 31)), .int (mx 1 (s_many F n (0 : Int32)))]) X (c_L_below l (x2 >>> ((3 : Int32) &&& 31)) (mx 1 (s_many F n (0 : Int32))) (mx1_ne _)) (bg_S kw_411 kw_412 kw_30 kw_413) rfl rfl (by decide +kernel) ⟨(Nat.le_of_ble_eq_true rfl), (Nat.le_of_ble_eq_true rfl)⟩ rfl hl.1 rfl (Nat.le_of_ble_eq_true rfl) dL_law_83 ⟨(by first | exact rc_c (by omega) | exact rc_s (by omega)), (by first | exact rc_c (by omega) | exact rc_s (by omega))⟩) (fun H locs w => ?_)
      refine lv_iload X.1 X.2.1 dL_law_86 (lv_at hl 4 rfl) ?_
      refine lv_iconst (v := 5) X.1 X.2.1 dL_law_88 (by decide) ?_
      refine lv_ishr X.1 X.2.1 dL_law_89 ?_
      refine lv_iconst (v := 3) X.1 X.2.1 dL_law_90 (by decide) ?_
      refine n_calli w (n_runS (n := 2) (As := [.int (x2 >>> ((5 : Int32) &&& 31)), .int 3]) X (c_L_below l (x2 >>> ((5 : Int32) &&& 31)) 3 (by decide)) (bg_S kw_411 kw_412 kw_30 kw_413) rfl rfl (by decide +kernel) ⟨(Nat.le_of_ble_eq_true rfl), (Nat.le_of_ble_eq_true rfl)⟩ rfl hl.1 rfl (Nat.le_of_ble_eq_true rfl) dL_law_91 ⟨(by first | exact rc_c (by omega) | exact rc_s (by omega)), (by first | exact rc_c (by omega) | exact rc_s (by omega))⟩) (fun H locs w => ?_)
      refine lv_iload X.1 X.2.1 dL_law_94 (lv_at hl 4 rfl) ?_
      refine lv_iconst (v := 4) X.1 X.2.1 dL_law_96 (by decide) ?_
      refine lv_ishr X.1 X.2.1 dL_law_97 ?_
      refine lv_iconst (v := 4) X.1 X.2.1 dL_law_98 (by decide) ?_
      refine n_calli w (n_runS (n := 2) (As := [.int (x2 >>> ((4 : Int32) &&& 31)), .int 4]) X (c_L_below l (x2 >>> ((4 : Int32) &&& 31)) 4 (by decide)) (bg_S kw_411 kw_412 kw_30 kw_413) rfl rfl (by decide +kernel) ⟨(Nat.le_of_ble_eq_true rfl), (Nat.le_of_ble_eq_true rfl)⟩ rfl hl.1 rfl (Nat.le_of_ble_eq_true rfl) dL_law_99 ⟨(by first | exact rc_c (by omega) | exact rc_s (by omega)), (by first | exact rc_c (by omega) | exact rc_s (by omega))⟩) (fun H locs w => ?_)
      refine w_calla (n := n) cn w rfl (l_runA (n := 5) (As := [.ref (ad 0), .int x2, .int (s_below (x2 >>> ((3 : Int32) &&& 31)) (mx 1 (s_many F n (0 : Int32)))), .int (s_below (x2 >>> ((5 : Int32) &&& 31)) 3), .int (s_below (x2 >>> ((4 : Int32) &&& 31)) 4)]) X cn w (fun sz => act_any l D ca ad E29 F L S n hlt q hlf x2 (s_below (x2 >>> ((3 : Int32) &&& 31)) (mx 1 (s_many F n (0 : Int32)))) (s_below (x2 >>> ((5 : Int32) &&& 31)) 3) (s_below (x2 >>> ((4 : Int32) &&& 31)) 4) _ (hv.2.1 _ _ _ _ _ _ hI (by omega) _) sz) kw_419 kw_420 kw_30 kw_421 rfl rfl (by decide +kernel) ⟨(Nat.le_of_ble_eq_true rfl), (Nat.le_of_ble_eq_true rfl)⟩ rfl hl.1 rfl (Nat.le_of_ble_eq_true rfl) dL_law_102 ⟨(by first | exact rc_c (by omega) | exact rc_s (by omega)), (by first | exact rc_c (by omega) | exact rc_s (by omega))⟩) (fun u H locs hG had w => ?_)
      obtain ⟨⟨E9, F9, L9, S9, n9⟩, ad9⟩ := u
      have had : ad9 0 = ad 0 := had
      rw [← had] at hl
      have w : Wd D ca ad9 _ s H locs (E9, F9, L9, S9, n9) := w
      obtain ⟨q9, hI9, hbal9⟩ := hG
      have hI9 : Iv F9 L9 S9 n9 q9 (t + 1) := hI9
      have hbal9 : s_below x2 13 = 12 ∨ s_many F9 n9 5 - s_many F n 5 + s_many F9 n9 8 - s_many F n 8 = s_many F9 n9 6 - s_many F n 6 - s_many F9 n9 7 + s_many F n 7 := hbal9
      have hlf9 := hv.1 _ _ _ _ _ _ hI9
      have wf9 := hlf9.1
      have hs9 := wf9.2.2.1
      have hJ9 := wf9.2.1.2
      refine lv_if_ne (tgt := 110) X.1 X.2.1 dL_law_105 (by decide) (fun c532 => ?_) (fun c532 => ?_)
      ·
        refine lv_iload X.1 X.2.1 dL_law_110 (lv_at hl 4 rfl) ?_
        refine lv_bipush (v := 13) X.1 X.2.1 dL_law_112 (by decide) ?_
        refine n_calli w (n_runS (n := 2) (As := [.int x2, .int 13]) X (c_L_below l x2 13 (by decide)) (bg_S kw_411 kw_412 kw_30 kw_413) rfl rfl (by decide +kernel) ⟨(Nat.le_of_ble_eq_true rfl), (Nat.le_of_ble_eq_true rfl)⟩ rfl hl.1 rfl (Nat.le_of_ble_eq_true rfl) dL_law_114 ⟨(by first | exact rc_c (by omega) | exact rc_s (by omega)), (by first | exact rc_c (by omega) | exact rc_s (by omega))⟩) (fun H locs w => ?_)
        refine lv_topi (fun x533 ex533 => ?_)
        refine lv_istore (lv' := [(9, .int x533), (8, .int x26), (7, .int x20), (6, .int x14), (5, .int x8), (4, .int x2), (3, .int (nI t)), (0, .ref b), (1, .ref (ad9 0)), (2, .int cc12)]) X.1 X.2.1 dL_law_117 hl (by decide) rfl (fun ls hl => ?_)
        refine lv_iload X.1 X.2.1 dL_law_119 (lv_at hl 0 rfl) ?_
        refine lv_bipush (v := 12) X.1 X.2.1 dL_law_121 (by decide) ?_
        refine lv_icmp_eq (tgt := 168) X.1 X.2.1 dL_law_123 (by decide) (fun c534 => ?_) (fun c534 => ?_)
        ·
          refine lv_iload_n X.1 X.2.1 dL_law_168 rfl (lv_at hl 9 rfl) ?_
          refine lv_iload X.1 X.2.1 dL_law_169 (lv_at hl 0 rfl) ?_
          refine lv_bipush (v := 12) X.1 X.2.1 dL_law_171 (by decide) ?_
          refine lv_icmp_ne (tgt := 180) X.1 X.2.1 dL_law_173 (by decide) (fun c535 => ?_) (fun c535 => ?_)
          ·
            exact absurd c534 c535
          ·
            refine lv_iconst (v := 1) X.1 X.2.1 dL_law_176 (by decide) ?_
            refine lv_goto (tgt := 181) X.1 X.2.1 dL_law_177 (by decide) ?_
            refine lv_iadd X.1 X.2.1 dL_law_181 ?_
            refine lv_topi (fun x536 ex536 => ?_)
            refine lv_istore_n (lv' := [(2, .int x536), (9, .int x533), (8, .int x26), (7, .int x20), (6, .int x14), (5, .int x8), (4, .int x2), (3, .int (nI t)), (0, .ref b), (1, .ref (ad9 0))]) X.1 X.2.1 dL_law_182 rfl hl (by decide) rfl (fun ls hl => ?_)
            have hcn9 : ∃ cn : Nat, x536 = nI cn ∧ cn ≤ t + 1 := by
              obtain ⟨cn0, h1, h2⟩ := hcn
              exact ⟨cn0 + 1, by subst ex536; subst ex533; subst ex26; subst ex20; subst ex14; subst ex8; subst ex2; rw [h1]; exact nI_1 cn0, by omega⟩
            have hb9 : x536 = 0 → s_many F9 n9 5 + s_many F9 n9 8 = s_many F9 n9 6 - s_many F9 n9 7 := fun h => by
              obtain ⟨cn0, h1, h2⟩ := hcn
              exfalso; subst ex536; subst ex533; subst ex26; subst ex20; subst ex14; subst ex8; subst ex2; rw [h1, nI_1 cn0] at h; exact nI_ne00 (by omega) (by omega) h
            refine lv_iload_n X.1 X.2.1 dL_law_183 rfl (lv_at hl 7 rfl) ?_
            refine lv_bipush (v := 7) X.1 X.2.1 dL_law_184 (by decide) ?_
            refine lv_irem X.1 X.2.1 dL_law_186 (by decide) ?_
            refine lv_bipush (v := 6) X.1 X.2.1 dL_law_187 (by decide) ?_
            refine lv_icmp_eq (tgt := 195) X.1 X.2.1 dL_law_189 (by decide) (fun c537 => ?_) (fun c537 => ?_)
            ·
              refine lv_aload_n X.1 X.2.1 dL_law_195 rfl (lv_at hl 9 rfl) ?_
              refine w_calll cn w (w_runV (n := 0) (As := []) X cn w (lt17 (by decide)) wC_0 rfl (fun sz => c_X4_digest l D ca ad9 E9 F9 L9 S9 n9 hlt q9 wf9 hlf9.2.1 sz) (bg_V kw_267 kw_268 kw_269 kw_31 kw_270) rfl rfl (by decide +kernel) ⟨(Nat.le_of_ble_eq_true rfl), (Nat.le_of_ble_eq_true rfl)⟩ rfl hl.1 rfl (Nat.le_of_ble_eq_true rfl) dL_law_196 ⟨(by first | exact rc_c (by omega) | exact rc_s (by omega)), (by first | exact rc_c (by omega) | exact rc_s (by omega))⟩) (fun r538 u H locs hp w => ?_)
              obtain ⟨E539, q540⟩ := u
              obtain ⟨rfl, h541⟩ := hp
              have h541 : q540 = (F9, L9, S9, n9) := h541
              subst h541
              refine lv_topl (fun x542 ex542 => ?_)
              refine lv_lstore (lv' := [(10, .long x542), (2, .int x536), (9, .int x533), (8, .int x26), (7, .int x20), (6, .int x14), (5, .int x8), (4, .int x2), (3, .int (nI t)), (0, .ref b), (1, .ref (ad9 0))]) X.1 X.2.1 dL_law_199 hl (by decide) rfl (fun ls hl => ?_)
              refine lv_aload_n X.1 X.2.1 dL_law_201 rfl (lv_at hl 10 rfl) ?_
              refine w_calli cn w (w_runS (n := 1) (As := [.ref (ad9 0)]) X cn w (fun sz => c_L_areJobsRight l D ca ad9 E539 F9 L9 S9 n9 hlt q9 hlf9 (hv.2.2.1 _ _ _ _ _ _ hI9).1 sz) (bg_S kw_642 kw_643 kw_30 kw_644) rfl rfl (by decide +kernel) ⟨(Nat.le_of_ble_eq_true rfl), (Nat.le_of_ble_eq_true rfl)⟩ rfl hl.1 rfl (Nat.le_of_ble_eq_true rfl) dL_law_202 ⟨(by first | exact rc_c (by omega) | exact rc_s (by omega)), (by first | exact rc_c (by omega) | exact rc_s (by omega))⟩) (fun r543 u H locs hp w => ?_)
              obtain ⟨E544, q545⟩ := u
              obtain ⟨rfl, h546⟩ := hp
              have h546 : q545 = (F9, L9, S9, n9) := h546
              subst h546
              refine lv_if_eq (tgt := 241) X.1 X.2.1 dL_law_205 (by decide) (fun c547 => ?_) (fun c547 => ?_)
              ·
                exact absurd c547 (by decide)
              ·
                refine lv_aload_n X.1 X.2.1 dL_law_208 rfl (lv_at hl 10 rfl) ?_
                refine w_calli cn w (w_runS (n := 1) (As := [.ref (ad9 0)]) X cn w (fun sz => c_L_arePressesRight l D ca ad9 E544 F9 L9 S9 n9 hlt q9 hlf9 (hv.2.2.1 _ _ _ _ _ _ hI9).2 sz) (bg_S kw_647 kw_648 kw_30 kw_649) rfl rfl (by decide +kernel) ⟨(Nat.le_of_ble_eq_true rfl), (Nat.le_of_ble_eq_true rfl)⟩ rfl hl.1 rfl (Nat.le_of_ble_eq_true rfl) dL_law_209 ⟨(by first | exact rc_c (by omega) | exact rc_s (by omega)), (by first | exact rc_c (by omega) | exact rc_s (by omega))⟩) (fun r548 u H locs hp w => ?_)
                obtain ⟨E549, q550⟩ := u
                obtain ⟨rfl, h551⟩ := hp
                have h551 : q550 = (F9, L9, S9, n9) := h551
                subst h551
                refine lv_if_eq (tgt := 241) X.1 X.2.1 dL_law_212 (by decide) (fun c552 => ?_) (fun c552 => ?_)
                ·
                  exact absurd c552 (by decide)
                ·
                  refine lv_aload_n X.1 X.2.1 dL_law_215 rfl (lv_at hl 10 rfl) ?_
                  refine lv_iload_n X.1 X.2.1 dL_law_216 rfl (lv_at hl 1 rfl) ?_
                  refine lv_if_ne (tgt := 224) X.1 X.2.1 dL_law_217 (by decide) (fun c553 => ?_) (fun c553 => ?_)
                  ·
                    refine lv_iconst (v := 0) X.1 X.2.1 dL_law_224 (by decide) ?_
                    refine w_calli cn w (w_runS (n := 2) (As := [.ref (ad9 0), .int 0]) X cn w (fun sz => c_L_arePapersRight l D ca ad9 E549 F9 L9 S9 n9 hlt q9 hlf9 (0 : Int32) (hv.2.2.2 _ _ _ _ _ _ hI9 (0 : Int32) (Or.inl rfl)) sz) (bg_S kw_650 kw_651 kw_30 kw_652) rfl rfl (by decide +kernel) ⟨(Nat.le_of_ble_eq_true rfl), (Nat.le_of_ble_eq_true rfl)⟩ rfl hl.1 rfl (Nat.le_of_ble_eq_true rfl) dL_law_225 ⟨(by first | exact rc_c (by omega) | exact rc_s (by omega)), (by first | exact rc_c (by omega) | exact rc_s (by omega))⟩) (fun r554 u H locs hp w => ?_)
                    obtain ⟨E555, q556⟩ := u
                    obtain ⟨rfl, h557⟩ := hp
                    have h557 : q556 = (F9, L9, S9, n9) := h557
                    subst h557
                    refine lv_if_eq (tgt := 241) X.1 X.2.1 dL_law_228 (by decide) (fun c558 => ?_) (fun c558 => ?_)
                    ·
                      exact absurd c558 (by decide)
                    ·
                      refine lv_aload_n X.1 X.2.1 dL_law_231 rfl (lv_at hl 10 rfl) ?_
                      refine w_calll cn w (w_runV (n := 0) (As := []) X cn w (lt17 (by decide)) wC_0 rfl (fun sz => c_X4_digest l D ca ad9 E555 F9 L9 S9 n9 hlt q9 wf9 hlf9.2.1 sz) (bg_V kw_267 kw_268 kw_269 kw_31 kw_270) rfl rfl (by decide +kernel) ⟨(Nat.le_of_ble_eq_true rfl), (Nat.le_of_ble_eq_true rfl)⟩ rfl hl.1 rfl (Nat.le_of_ble_eq_true rfl) dL_law_232 ⟨(by first | exact rc_c (by omega) | exact rc_s (by omega)), (by first | exact rc_c (by omega) | exact rc_s (by omega))⟩) (fun r559 u H locs hp w => ?_)
                      obtain ⟨E560, q561⟩ := u
                      obtain ⟨rfl, h562⟩ := hp
                      have h562 : q561 = (F9, L9, S9, n9) := h562
                      subst h562
                      refine lv_lload X.1 X.2.1 dL_law_235 (lv_at hl 0 rfl) ?_
                      refine W.lcmp X.1 X.2.1 dL_law_237 ?_
                      refine lv_if_eq (tgt := 243) X.1 X.2.1 dL_law_238 (by decide) (fun c563 => ?_) (fun c563 => ?_)
                      ·
                        refine lv_iinc (v := (nI (t + 1))) (lv' := [(3, .int (nI (t + 1))), (10, .long x542), (2, .int x536), (9, .int x533), (8, .int x26), (7, .int x20), (6, .int x14), (5, .int x8), (4, .int x2), (0, .ref b), (1, .ref (ad9 0))]) X.1 X.2.1 dL_law_243 hl (k := 8) rfl (nI_1 t) (by decide) rfl (fun ls hl => ?_)
                        refine lv_goto (tgt := 12) X.1 X.2.1 dL_law_246 (by decide) ?_
                        refine W.widen (k := 20 + 2 * (t + 1)) (n := 200 + 20 * (t + 1)) (by omega) (by omega) ?_
                        exact ih (t + 1) (by omega) E560 F9 L9 S9 n9 q9 ad9 x536 H locs w hI9 hcn9 hb9 ls (lv_sub hl [0, 9, 10, 2] rfl)
                      ·
                        subst ex542; subst ex536; subst ex533; subst ex26; subst ex20; subst ex14; subst ex8; subst ex2; exact absurd (lg_cmp_self _) c563
                  ·
                    refine lv_iconst (v := 1) X.1 X.2.1 dL_law_220 (by decide) ?_
                    refine lv_goto (tgt := 225) X.1 X.2.1 dL_law_221 (by decide) ?_
                    refine w_calli cn w (w_runS (n := 2) (As := [.ref (ad9 0), .int 1]) X cn w (fun sz => c_L_arePapersRight l D ca ad9 E549 F9 L9 S9 n9 hlt q9 hlf9 (1 : Int32) (hv.2.2.2 _ _ _ _ _ _ hI9 (1 : Int32) (Or.inr (hb9 c553))) sz) (bg_S kw_650 kw_651 kw_30 kw_652) rfl rfl (by decide +kernel) ⟨(Nat.le_of_ble_eq_true rfl), (Nat.le_of_ble_eq_true rfl)⟩ rfl hl.1 rfl (Nat.le_of_ble_eq_true rfl) dL_law_225 ⟨(by first | exact rc_c (by omega) | exact rc_s (by omega)), (by first | exact rc_c (by omega) | exact rc_s (by omega))⟩) (fun r564 u H locs hp w => ?_)
                    obtain ⟨E565, q566⟩ := u
                    obtain ⟨rfl, h567⟩ := hp
                    have h567 : q566 = (F9, L9, S9, n9) := h567
                    subst h567
                    refine lv_if_eq (tgt := 241) X.1 X.2.1 dL_law_228 (by decide) (fun c568 => ?_) (fun c568 => ?_)
                    ·
                      exact absurd c568 (by decide)
                    ·
                      refine lv_aload_n X.1 X.2.1 dL_law_231 rfl (lv_at hl 10 rfl) ?_
                      refine w_calll cn w (w_runV (n := 0) (As := []) X cn w (lt17 (by decide)) wC_0 rfl (fun sz => c_X4_digest l D ca ad9 E565 F9 L9 S9 n9 hlt q9 wf9 hlf9.2.1 sz) (bg_V kw_267 kw_268 kw_269 kw_31 kw_270) rfl rfl (by decide +kernel) ⟨(Nat.le_of_ble_eq_true rfl), (Nat.le_of_ble_eq_true rfl)⟩ rfl hl.1 rfl (Nat.le_of_ble_eq_true rfl) dL_law_232 ⟨(by first | exact rc_c (by omega) | exact rc_s (by omega)), (by first | exact rc_c (by omega) | exact rc_s (by omega))⟩) (fun r569 u H locs hp w => ?_)
                      obtain ⟨E570, q571⟩ := u
                      obtain ⟨rfl, h572⟩ := hp
                      have h572 : q571 = (F9, L9, S9, n9) := h572
                      subst h572
                      refine lv_lload X.1 X.2.1 dL_law_235 (lv_at hl 0 rfl) ?_
                      refine W.lcmp X.1 X.2.1 dL_law_237 ?_
                      refine lv_if_eq (tgt := 243) X.1 X.2.1 dL_law_238 (by decide) (fun c573 => ?_) (fun c573 => ?_)
                      ·
                        refine lv_iinc (v := (nI (t + 1))) (lv' := [(3, .int (nI (t + 1))), (10, .long x542), (2, .int x536), (9, .int x533), (8, .int x26), (7, .int x20), (6, .int x14), (5, .int x8), (4, .int x2), (0, .ref b), (1, .ref (ad9 0))]) X.1 X.2.1 dL_law_243 hl (k := 8) rfl (nI_1 t) (by decide) rfl (fun ls hl => ?_)
                        refine lv_goto (tgt := 12) X.1 X.2.1 dL_law_246 (by decide) ?_
                        refine W.widen (k := 20 + 2 * (t + 1)) (n := 200 + 20 * (t + 1)) (by omega) (by omega) ?_
                        exact ih (t + 1) (by omega) E570 F9 L9 S9 n9 q9 ad9 x536 H locs w hI9 hcn9 hb9 ls (lv_sub hl [0, 9, 10, 2] rfl)
                      ·
                        subst ex542; subst ex536; subst ex533; subst ex26; subst ex20; subst ex14; subst ex8; subst ex2; exact absurd (lg_cmp_self _) c573
            ·
              refine lv_goto (tgt := 243) X.1 X.2.1 dL_law_192 (by decide) ?_
              refine lv_iinc (v := (nI (t + 1))) (lv' := [(3, .int (nI (t + 1))), (2, .int x536), (9, .int x533), (8, .int x26), (7, .int x20), (6, .int x14), (5, .int x8), (4, .int x2), (0, .ref b), (1, .ref (ad9 0))]) X.1 X.2.1 dL_law_243 hl (k := 7) rfl (nI_1 t) (by decide) rfl (fun ls hl => ?_)
              refine lv_goto (tgt := 12) X.1 X.2.1 dL_law_246 (by decide) ?_
              refine W.widen (k := 20 + 2 * (t + 1)) (n := 200 + 20 * (t + 1)) (by omega) (by omega) ?_
              exact ih (t + 1) (by omega) E9 F9 L9 S9 n9 q9 ad9 x536 H locs w hI9 hcn9 hb9 ls (lv_sub hl [0, 8, 9, 1] rfl)
        ·
          refine lv_aload_n X.1 X.2.1 dL_law_126 rfl (lv_at hl 8 rfl) ?_
          refine lv_iconst (v := 5) X.1 X.2.1 dL_law_127 (by decide) ?_
          have h575 : (erW 10 (5 : Int32)) = 0 := (by decide)
          refine w_calli cn w (w_runV (n := 1) (As := [.int 5]) X cn w (lt17 (by decide)) wC_0 rfl (fun sz => met_of (c_X4_many l D ca ad9 E9 F9 L9 S9 n9 hlt q9 wf9 (5 : Int32) 0 0 (fun h => (h h575).elim) sz) h575) (bg_V kw_179 kw_180 kw_181 kw_31 kw_182) rfl rfl (by decide +kernel) ⟨(Nat.le_of_ble_eq_true rfl), (Nat.le_of_ble_eq_true rfl)⟩ rfl hl.1 rfl (Nat.le_of_ble_eq_true rfl) dL_law_128 ⟨(by first | exact rc_c (by omega) | exact rc_s (by omega)), (by first | exact rc_c (by omega) | exact rc_s (by omega))⟩) (fun r574 u H locs hp w => ?_)
          obtain ⟨E576, q577⟩ := u
          obtain ⟨-, rfl, h578⟩ := hp
          have h578 : q577 = (F9, L9, S9, n9) := h578
          subst h578
          refine lv_iload X.1 X.2.1 dL_law_131 (lv_at hl 4 rfl) ?_
          refine lv_isub X.1 X.2.1 dL_law_133 ?_
          refine lv_aload_n X.1 X.2.1 dL_law_134 rfl (lv_at hl 8 rfl) ?_
          refine lv_bipush (v := 8) X.1 X.2.1 dL_law_135 (by decide) ?_
          have h580 : (erW 10 (8 : Int32)) = 0 := (by decide)
          refine w_calli cn w (w_runV (n := 1) (As := [.int 8]) X cn w (lt17 (by decide)) wC_0 rfl (fun sz => met_of (c_X4_many l D ca ad9 E576 F9 L9 S9 n9 hlt q9 wf9 (8 : Int32) 0 0 (fun h => (h h580).elim) sz) h580) (bg_V kw_179 kw_180 kw_181 kw_31 kw_182) rfl rfl (by decide +kernel) ⟨(Nat.le_of_ble_eq_true rfl), (Nat.le_of_ble_eq_true rfl)⟩ rfl hl.1 rfl (Nat.le_of_ble_eq_true rfl) dL_law_137 ⟨(by first | exact rc_c (by omega) | exact rc_s (by omega)), (by first | exact rc_c (by omega) | exact rc_s (by omega))⟩) (fun r579 u H locs hp w => ?_)
          obtain ⟨E581, q582⟩ := u
          obtain ⟨-, rfl, h583⟩ := hp
          have h583 : q582 = (F9, L9, S9, n9) := h583
          subst h583
          refine lv_iadd X.1 X.2.1 dL_law_140 ?_
          refine lv_iload X.1 X.2.1 dL_law_141 (lv_at hl 3 rfl) ?_
          refine lv_isub X.1 X.2.1 dL_law_143 ?_
          refine lv_aload_n X.1 X.2.1 dL_law_144 rfl (lv_at hl 8 rfl) ?_
          refine lv_bipush (v := 6) X.1 X.2.1 dL_law_145 (by decide) ?_
          have h585 : (erW 10 (6 : Int32)) = 0 := (by decide)
          refine w_calli cn w (w_runV (n := 1) (As := [.int 6]) X cn w (lt17 (by decide)) wC_0 rfl (fun sz => met_of (c_X4_many l D ca ad9 E581 F9 L9 S9 n9 hlt q9 wf9 (6 : Int32) 0 0 (fun h => (h h585).elim) sz) h585) (bg_V kw_179 kw_180 kw_181 kw_31 kw_182) rfl rfl (by decide +kernel) ⟨(Nat.le_of_ble_eq_true rfl), (Nat.le_of_ble_eq_true rfl)⟩ rfl hl.1 rfl (Nat.le_of_ble_eq_true rfl) dL_law_147 ⟨(by first | exact rc_c (by omega) | exact rc_s (by omega)), (by first | exact rc_c (by omega) | exact rc_s (by omega))⟩) (fun r584 u H locs hp w => ?_)
          obtain ⟨E586, q587⟩ := u
          obtain ⟨-, rfl, h588⟩ := hp
          have h588 : q587 = (F9, L9, S9, n9) := h588
          subst h588
          refine lv_iload X.1 X.2.1 dL_law_150 (lv_at hl 1 rfl) ?_
          refine lv_isub X.1 X.2.1 dL_law_152 ?_
          refine lv_aload_n X.1 X.2.1 dL_law_153 rfl (lv_at hl 8 rfl) ?_
          refine lv_bipush (v := 7) X.1 X.2.1 dL_law_154 (by decide) ?_
          have h590 : (erW 10 (7 : Int32)) = 0 := (by decide)
          refine w_calli cn w (w_runV (n := 1) (As := [.int 7]) X cn w (lt17 (by decide)) wC_0 rfl (fun sz => met_of (c_X4_many l D ca ad9 E586 F9 L9 S9 n9 hlt q9 wf9 (7 : Int32) 0 0 (fun h => (h h590).elim) sz) h590) (bg_V kw_179 kw_180 kw_181 kw_31 kw_182) rfl rfl (by decide +kernel) ⟨(Nat.le_of_ble_eq_true rfl), (Nat.le_of_ble_eq_true rfl)⟩ rfl hl.1 rfl (Nat.le_of_ble_eq_true rfl) dL_law_156 ⟨(by first | exact rc_c (by omega) | exact rc_s (by omega)), (by first | exact rc_c (by omega) | exact rc_s (by omega))⟩) (fun r589 u H locs hp w => ?_)
          obtain ⟨E591, q592⟩ := u
          obtain ⟨-, rfl, h593⟩ := hp
          have h593 : q592 = (F9, L9, S9, n9) := h593
          subst h593
          refine lv_isub X.1 X.2.1 dL_law_159 ?_
          refine lv_iload X.1 X.2.1 dL_law_160 (lv_at hl 2 rfl) ?_
          refine lv_iadd X.1 X.2.1 dL_law_162 ?_
          refine lv_icmp_eq (tgt := 168) X.1 X.2.1 dL_law_163 (by decide) (fun c594 => ?_) (fun c594 => ?_)
          ·
            refine lv_iload_n X.1 X.2.1 dL_law_168 rfl (lv_at hl 9 rfl) ?_
            refine lv_iload X.1 X.2.1 dL_law_169 (lv_at hl 0 rfl) ?_
            refine lv_bipush (v := 12) X.1 X.2.1 dL_law_171 (by decide) ?_
            refine lv_icmp_ne (tgt := 180) X.1 X.2.1 dL_law_173 (by decide) (fun c595 => ?_) (fun c595 => ?_)
            ·
              refine lv_iconst (v := 0) X.1 X.2.1 dL_law_180 (by decide) ?_
              refine lv_iadd X.1 X.2.1 dL_law_181 ?_
              refine lv_topi (fun x596 ex596 => ?_)
              refine lv_istore_n (lv' := [(2, .int x596), (9, .int x533), (8, .int x26), (7, .int x20), (6, .int x14), (5, .int x8), (4, .int x2), (3, .int (nI t)), (0, .ref b), (1, .ref (ad9 0))]) X.1 X.2.1 dL_law_182 rfl hl (by decide) rfl (fun ls hl => ?_)
              have hcn9 : ∃ cn : Nat, x596 = nI cn ∧ cn ≤ t + 1 := by
                obtain ⟨cn0, h1, h2⟩ := hcn
                exact ⟨cn0, by subst ex596; subst ex533; subst ex26; subst ex20; subst ex14; subst ex8; subst ex2; rw [h1]; exact Int32.add_zero _, by omega⟩
              have hb9 : x596 = 0 → s_many F9 n9 5 + s_many F9 n9 8 = s_many F9 n9 6 - s_many F9 n9 7 := fun h => by
                have h0 : cc12 = 0 := by subst ex596; subst ex533; subst ex26; subst ex20; subst ex14; subst ex8; subst ex2; exact (Int32.add_zero _).symm.trans h
                exact bal_step (hb0 h0) (by subst ex596; subst ex533; subst ex26; subst ex20; subst ex14; subst ex8; subst ex2; exact hbal9.resolve_left c534)
              refine lv_iload_n X.1 X.2.1 dL_law_183 rfl (lv_at hl 7 rfl) ?_
              refine lv_bipush (v := 7) X.1 X.2.1 dL_law_184 (by decide) ?_
              refine lv_irem X.1 X.2.1 dL_law_186 (by decide) ?_
              refine lv_bipush (v := 6) X.1 X.2.1 dL_law_187 (by decide) ?_
              refine lv_icmp_eq (tgt := 195) X.1 X.2.1 dL_law_189 (by decide) (fun c597 => ?_) (fun c597 => ?_)
              ·
                refine lv_aload_n X.1 X.2.1 dL_law_195 rfl (lv_at hl 9 rfl) ?_
                refine w_calll cn w (w_runV (n := 0) (As := []) X cn w (lt17 (by decide)) wC_0 rfl (fun sz => c_X4_digest l D ca ad9 E591 F9 L9 S9 n9 hlt q9 wf9 hlf9.2.1 sz) (bg_V kw_267 kw_268 kw_269 kw_31 kw_270) rfl rfl (by decide +kernel) ⟨(Nat.le_of_ble_eq_true rfl), (Nat.le_of_ble_eq_true rfl)⟩ rfl hl.1 rfl (Nat.le_of_ble_eq_true rfl) dL_law_196 ⟨(by first | exact rc_c (by omega) | exact rc_s (by omega)), (by first | exact rc_c (by omega) | exact rc_s (by omega))⟩) (fun r598 u H locs hp w => ?_)
                obtain ⟨E599, q600⟩ := u
                obtain ⟨rfl, h601⟩ := hp
                have h601 : q600 = (F9, L9, S9, n9) := h601
                subst h601
                refine lv_topl (fun x602 ex602 => ?_)
                refine lv_lstore (lv' := [(10, .long x602), (2, .int x596), (9, .int x533), (8, .int x26), (7, .int x20), (6, .int x14), (5, .int x8), (4, .int x2), (3, .int (nI t)), (0, .ref b), (1, .ref (ad9 0))]) X.1 X.2.1 dL_law_199 hl (by decide) rfl (fun ls hl => ?_)
                refine lv_aload_n X.1 X.2.1 dL_law_201 rfl (lv_at hl 10 rfl) ?_
                refine w_calli cn w (w_runS (n := 1) (As := [.ref (ad9 0)]) X cn w (fun sz => c_L_areJobsRight l D ca ad9 E599 F9 L9 S9 n9 hlt q9 hlf9 (hv.2.2.1 _ _ _ _ _ _ hI9).1 sz) (bg_S kw_642 kw_643 kw_30 kw_644) rfl rfl (by decide +kernel) ⟨(Nat.le_of_ble_eq_true rfl), (Nat.le_of_ble_eq_true rfl)⟩ rfl hl.1 rfl (Nat.le_of_ble_eq_true rfl) dL_law_202 ⟨(by first | exact rc_c (by omega) | exact rc_s (by omega)), (by first | exact rc_c (by omega) | exact rc_s (by omega))⟩) (fun r603 u H locs hp w => ?_)
                obtain ⟨E604, q605⟩ := u
                obtain ⟨rfl, h606⟩ := hp
                have h606 : q605 = (F9, L9, S9, n9) := h606
                subst h606
                refine lv_if_eq (tgt := 241) X.1 X.2.1 dL_law_205 (by decide) (fun c607 => ?_) (fun c607 => ?_)
                ·
                  exact absurd c607 (by decide)
                ·
                  refine lv_aload_n X.1 X.2.1 dL_law_208 rfl (lv_at hl 10 rfl) ?_
                  refine w_calli cn w (w_runS (n := 1) (As := [.ref (ad9 0)]) X cn w (fun sz => c_L_arePressesRight l D ca ad9 E604 F9 L9 S9 n9 hlt q9 hlf9 (hv.2.2.1 _ _ _ _ _ _ hI9).2 sz) (bg_S kw_647 kw_648 kw_30 kw_649) rfl rfl (by decide +kernel) ⟨(Nat.le_of_ble_eq_true rfl), (Nat.le_of_ble_eq_true rfl)⟩ rfl hl.1 rfl (Nat.le_of_ble_eq_true rfl) dL_law_209 ⟨(by first | exact rc_c (by omega) | exact rc_s (by omega)), (by first | exact rc_c (by omega) | exact rc_s (by omega))⟩) (fun r608 u H locs hp w => ?_)
                  obtain ⟨E609, q610⟩ := u
                  obtain ⟨rfl, h611⟩ := hp
                  have h611 : q610 = (F9, L9, S9, n9) := h611
                  subst h611
                  refine lv_if_eq (tgt := 241) X.1 X.2.1 dL_law_212 (by decide) (fun c612 => ?_) (fun c612 => ?_)
                  ·
                    exact absurd c612 (by decide)
                  ·
                    refine lv_aload_n X.1 X.2.1 dL_law_215 rfl (lv_at hl 10 rfl) ?_
                    refine lv_iload_n X.1 X.2.1 dL_law_216 rfl (lv_at hl 1 rfl) ?_
                    refine lv_if_ne (tgt := 224) X.1 X.2.1 dL_law_217 (by decide) (fun c613 => ?_) (fun c613 => ?_)
                    ·
                      refine lv_iconst (v := 0) X.1 X.2.1 dL_law_224 (by decide) ?_
                      refine w_calli cn w (w_runS (n := 2) (As := [.ref (ad9 0), .int 0]) X cn w (fun sz => c_L_arePapersRight l D ca ad9 E609 F9 L9 S9 n9 hlt q9 hlf9 (0 : Int32) (hv.2.2.2 _ _ _ _ _ _ hI9 (0 : Int32) (Or.inl rfl)) sz) (bg_S kw_650 kw_651 kw_30 kw_652) rfl rfl (by decide +kernel) ⟨(Nat.le_of_ble_eq_true rfl), (Nat.le_of_ble_eq_true rfl)⟩ rfl hl.1 rfl (Nat.le_of_ble_eq_true rfl) dL_law_225 ⟨(by first | exact rc_c (by omega) | exact rc_s (by omega)), (by first | exact rc_c (by omega) | exact rc_s (by omega))⟩) (fun r614 u H locs hp w => ?_)
                      obtain ⟨E615, q616⟩ := u
                      obtain ⟨rfl, h617⟩ := hp
                      have h617 : q616 = (F9, L9, S9, n9) := h617
                      subst h617
                      refine lv_if_eq (tgt := 241) X.1 X.2.1 dL_law_228 (by decide) (fun c618 => ?_) (fun c618 => ?_)
                      ·
                        exact absurd c618 (by decide)
                      ·
                        refine lv_aload_n X.1 X.2.1 dL_law_231 rfl (lv_at hl 10 rfl) ?_
                        refine w_calll cn w (w_runV (n := 0) (As := []) X cn w (lt17 (by decide)) wC_0 rfl (fun sz => c_X4_digest l D ca ad9 E615 F9 L9 S9 n9 hlt q9 wf9 hlf9.2.1 sz) (bg_V kw_267 kw_268 kw_269 kw_31 kw_270) rfl rfl (by decide +kernel) ⟨(Nat.le_of_ble_eq_true rfl), (Nat.le_of_ble_eq_true rfl)⟩ rfl hl.1 rfl (Nat.le_of_ble_eq_true rfl) dL_law_232 ⟨(by first | exact rc_c (by omega) | exact rc_s (by omega)), (by first | exact rc_c (by omega) | exact rc_s (by omega))⟩) (fun r619 u H locs hp w => ?_)
                        obtain ⟨E620, q621⟩ := u
                        obtain ⟨rfl, h622⟩ := hp
                        have h622 : q621 = (F9, L9, S9, n9) := h622
                        subst h622
                        refine lv_lload X.1 X.2.1 dL_law_235 (lv_at hl 0 rfl) ?_
                        refine W.lcmp X.1 X.2.1 dL_law_237 ?_
                        refine lv_if_eq (tgt := 243) X.1 X.2.1 dL_law_238 (by decide) (fun c623 => ?_) (fun c623 => ?_)
                        ·
                          refine lv_iinc (v := (nI (t + 1))) (lv' := [(3, .int (nI (t + 1))), (10, .long x602), (2, .int x596), (9, .int x533), (8, .int x26), (7, .int x20), (6, .int x14), (5, .int x8), (4, .int x2), (0, .ref b), (1, .ref (ad9 0))]) X.1 X.2.1 dL_law_243 hl (k := 8) rfl (nI_1 t) (by decide) rfl (fun ls hl => ?_)
                          refine lv_goto (tgt := 12) X.1 X.2.1 dL_law_246 (by decide) ?_
                          refine W.widen (k := 20 + 2 * (t + 1)) (n := 200 + 20 * (t + 1)) (by omega) (by omega) ?_
                          exact ih (t + 1) (by omega) E620 F9 L9 S9 n9 q9 ad9 x596 H locs w hI9 hcn9 hb9 ls (lv_sub hl [0, 9, 10, 2] rfl)
                        ·
                          subst ex602; subst ex596; subst ex533; subst ex26; subst ex20; subst ex14; subst ex8; subst ex2; exact absurd (lg_cmp_self _) c623
                    ·
                      refine lv_iconst (v := 1) X.1 X.2.1 dL_law_220 (by decide) ?_
                      refine lv_goto (tgt := 225) X.1 X.2.1 dL_law_221 (by decide) ?_
                      refine w_calli cn w (w_runS (n := 2) (As := [.ref (ad9 0), .int 1]) X cn w (fun sz => c_L_arePapersRight l D ca ad9 E609 F9 L9 S9 n9 hlt q9 hlf9 (1 : Int32) (hv.2.2.2 _ _ _ _ _ _ hI9 (1 : Int32) (Or.inr (hb9 c613))) sz) (bg_S kw_650 kw_651 kw_30 kw_652) rfl rfl (by decide +kernel) ⟨(Nat.le_of_ble_eq_true rfl), (Nat.le_of_ble_eq_true rfl)⟩ rfl hl.1 rfl (Nat.le_of_ble_eq_true rfl) dL_law_225 ⟨(by first | exact rc_c (by omega) | exact rc_s (by omega)), (by first | exact rc_c (by omega) | exact rc_s (by omega))⟩) (fun r624 u H locs hp w => ?_)
                      obtain ⟨E625, q626⟩ := u
                      obtain ⟨rfl, h627⟩ := hp
                      have h627 : q626 = (F9, L9, S9, n9) := h627
                      subst h627
                      refine lv_if_eq (tgt := 241) X.1 X.2.1 dL_law_228 (by decide) (fun c628 => ?_) (fun c628 => ?_)
                      ·
                        exact absurd c628 (by decide)
                      ·
                        refine lv_aload_n X.1 X.2.1 dL_law_231 rfl (lv_at hl 10 rfl) ?_
                        refine w_calll cn w (w_runV (n := 0) (As := []) X cn w (lt17 (by decide)) wC_0 rfl (fun sz => c_X4_digest l D ca ad9 E625 F9 L9 S9 n9 hlt q9 wf9 hlf9.2.1 sz) (bg_V kw_267 kw_268 kw_269 kw_31 kw_270) rfl rfl (by decide +kernel) ⟨(Nat.le_of_ble_eq_true rfl), (Nat.le_of_ble_eq_true rfl)⟩ rfl hl.1 rfl (Nat.le_of_ble_eq_true rfl) dL_law_232 ⟨(by first | exact rc_c (by omega) | exact rc_s (by omega)), (by first | exact rc_c (by omega) | exact rc_s (by omega))⟩) (fun r629 u H locs hp w => ?_)
                        obtain ⟨E630, q631⟩ := u
                        obtain ⟨rfl, h632⟩ := hp
                        have h632 : q631 = (F9, L9, S9, n9) := h632
                        subst h632
                        refine lv_lload X.1 X.2.1 dL_law_235 (lv_at hl 0 rfl) ?_
                        refine W.lcmp X.1 X.2.1 dL_law_237 ?_
                        refine lv_if_eq (tgt := 243) X.1 X.2.1 dL_law_238 (by decide) (fun c633 => ?_) (fun c633 => ?_)
                        ·
                          refine lv_iinc (v := (nI (t + 1))) (lv' := [(3, .int (nI (t + 1))), (10, .long x602), (2, .int x596), (9, .int x533), (8, .int x26), (7, .int x20), (6, .int x14), (5, .int x8), (4, .int x2), (0, .ref b), (1, .ref (ad9 0))]) X.1 X.2.1 dL_law_243 hl (k := 8) rfl (nI_1 t) (by decide) rfl (fun ls hl => ?_)
                          refine lv_goto (tgt := 12) X.1 X.2.1 dL_law_246 (by decide) ?_
                          refine W.widen (k := 20 + 2 * (t + 1)) (n := 200 + 20 * (t + 1)) (by omega) (by omega) ?_
                          exact ih (t + 1) (by omega) E630 F9 L9 S9 n9 q9 ad9 x596 H locs w hI9 hcn9 hb9 ls (lv_sub hl [0, 9, 10, 2] rfl)
                        ·
                          subst ex602; subst ex596; subst ex533; subst ex26; subst ex20; subst ex14; subst ex8; subst ex2; exact absurd (lg_cmp_self _) c633
              ·
                refine lv_goto (tgt := 243) X.1 X.2.1 dL_law_192 (by decide) ?_
                refine lv_iinc (v := (nI (t + 1))) (lv' := [(3, .int (nI (t + 1))), (2, .int x596), (9, .int x533), (8, .int x26), (7, .int x20), (6, .int x14), (5, .int x8), (4, .int x2), (0, .ref b), (1, .ref (ad9 0))]) X.1 X.2.1 dL_law_243 hl (k := 7) rfl (nI_1 t) (by decide) rfl (fun ls hl => ?_)
                refine lv_goto (tgt := 12) X.1 X.2.1 dL_law_246 (by decide) ?_
                refine W.widen (k := 20 + 2 * (t + 1)) (n := 200 + 20 * (t + 1)) (by omega) (by omega) ?_
                exact ih (t + 1) (by omega) E591 F9 L9 S9 n9 q9 ad9 x596 H locs w hI9 hcn9 hb9 ls (lv_sub hl [0, 8, 9, 1] rfl)
            ·
              exact absurd c595 c534
          ·
            subst ex533; subst ex26; subst ex20; subst ex14; subst ex8; subst ex2; exact absurd (hbal9.resolve_left c534) c594
      ·
        exact absurd c532 (by decide)
