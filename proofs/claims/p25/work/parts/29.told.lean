set_option maxHeartbeats 4000000 in
set_option maxRecDepth 100000 in
theorem c_L_below (l : Launch) (v n : Int32) (hn : ¬ n = 0) : Met l yL_below (.code yL_below cL_below 2 (some .int) :: BG) { frames := 0, cells := 0, slots := 0, locals := 0 } (va_Pc [.int v, .int n] (fun _ => True)) (Qn (s_below v n)) 0 0 (fun _ => False) := by
  refine open_P (by decide +kernel) (Nat.le_of_ble_eq_true rfl) ?_
  intro p e s m args below meth c X hr hlk ls hl
  have hl : lv_has ls 2 [(0, .int v), (1, .int n)] := hl
  have hS : va_S (fun _ => False) s.heap s.heap [] := va_S.rf
  refine lv_iload_n X.1 X.2.1 dL_below_0 rfl (lv_at hl 0 rfl) ?_
  refine lv_ldc (v := 2147483647) X.1 X.2.1 X.2.2.2.1 (X.2.2.2.2 _ kw_414) dL_below_1 ?_
  refine lv_iand X.1 X.2.1 dL_below_3 ?_
  refine lv_iload_n X.1 X.2.1 dL_below_4 rfl (lv_at hl 1 rfl) ?_
  refine lv_irem X.1 X.2.1 dL_below_5 hn ?_
  exact n_iret X hr hlk hS (by  exact rfl) dL_below_6 rfl (Nat.le_of_ble_eq_true rfl) (Nat.le_of_ble_eq_true rfl)

set_option maxHeartbeats 4000000 in
set_option maxRecDepth 100000 in
theorem c_L_cell (l : Launch) (b LL : Nat) (xs : Nat → Int32) (k : Int32) (hk : ¬ k < 0) (hLL : LL < 2 ^ 31) : Met l yL_cell (.code yL_cell cL_cell 2 (some .int) :: BG) { frames := 0, cells := 0, slots := 0, locals := 0 } (va_Pc [.ref b, .int k] (fun U => va_X b LL xs U U.heap ∧ b < U.heap.size)) (Qn (s_cell LL xs k)) 0 0 (fun _ => False) := by
  refine Met.ofW (cc := cL_cell) (maxL := 2) (ret := some .int) (by decide +kernel) rfl ?_
  intro p e s m args below meth c s₁ B hml hv
  obtain ⟨rfl, hX0, hbl⟩ := hv
  have hts0 := atoms_spec (ws := Cond.code yL_cell cL_cell 2 (some .int) :: BG) B.pre
  have X : CallFix p m c cL_cell 2 s #[.ref b, .int k] BG yL_cell.cls := ⟨B.exec, B.bytes, hml, findClass_of_methodNamed B.named, fun w hw => hts0 w (List.mem_cons_of_mem _ hw)⟩
  have hr := B.returns
  have hlk := B.notSynchronized
  have hS : va_S (fun _ => False) s.heap s.heap [] := va_S.rf
  have hl := lv_entry ([.ref b, .int k]) (n := 2) (Nat.le_of_ble_eq_true rfl)
  rw [lg_entry_eq]
  generalize (lg_sl ([.ref b, .int k]) ++ List.replicate (2 - (lg_sl ([.ref b, .int k])).length) Slot.unset).toArray = ls at hl ⊢
  have hl : lv_has ls 2 [(0, .ref b), (1, .int k)] := hl
  refine lv_iload_n X.1 X.2.1 dL_cell_0 rfl (lv_at hl 1 rfl) ?_
  refine lv_aload_n X.1 X.2.1 dL_cell_1 rfl (lv_at hl 0 rfl) ?_
  refine va_slen X.1 X.2.1 hX0 hbl (fun h => h) hS dL_cell_2 ?_
  refine lv_icmp_ge (tgt := 12) X.1 X.2.1 dL_cell_3 (by decide) (fun c1 => ?_) (fun c1 => ?_)
  · refine lv_ldc (v := 790386105) X.1 X.2.1 X.2.2.2.1 (X.2.2.2.2 _ kw_418) dL_cell_12 ?_
    refine lv_iload_n X.1 X.2.1 dL_cell_14 rfl (lv_at hl 1 rfl) ?_
    refine lv_iconst (v := 3) X.1 X.2.1 dL_cell_15 (by decide) ?_
    refine lv_iadd X.1 X.2.1 dL_cell_16 ?_
    refine lv_imul X.1 X.2.1 dL_cell_17 ?_
    exact n_iret X hr hlk hS (by simp only [s_cell, if_pos c1]) dL_cell_18 rfl (Nat.le_refl _) (Nat.le_refl _)
  · have hin : vp_in k LL := in_of' (M := Int32.ofNat LL) (nI_toInt hLL) hk c1
    refine lv_aload_n X.1 X.2.1 dL_cell_6 rfl (lv_at hl 0 rfl) ?_
    refine lv_iload_n X.1 X.2.1 dL_cell_7 rfl (lv_at hl 1 rfl) ?_
    refine va_sld X.1 X.2.1 hX0 hbl (fun h => h) hS hin dL_cell_8 ?_
    refine lv_goto (tgt := 18) X.1 X.2.1 dL_cell_9 (by decide) ?_
    exact n_iret X hr hlk hS (by simp only [s_cell, if_neg c1]) dL_cell_18 rfl (Nat.le_refl _) (Nat.le_refl _)

theorem ofJob_0 {F : Fm} {j : Nat} : s_ofJob F j 0 = F (17 + j) 1 := by unfold s_ofJob; rw [if_pos (by decide)]
def er_told (F : Fm) (L : Lm) (S : Sm) (r mi sp : Int32) : Nat := if er_queue F L r 0 = 0 then er_slip F L S r mi sp else 1
def s_slF (F : Fm) (L : Lm) (S : Sm) (q : Nat → Nat) (o : Nat) (mi sp : Int32) : Fm := s_slipF F S q o (s_first F L o) mi sp (s_taken F S (s_first F L o) sp) (s_spent F (s_first F L o) mi)
/-- what isTold answers: 1 only if all is as it should be -/
def s_told (F : Fm) (L : Lm) (S : Sm) (q q2 : Nat → Nat) (o : Nat) (r mi sp : Int32) : Int32 :=
  let jb := s_queue F L o 0
  let j := jb.toNatClampNeg
  let pa := s_ofJob F j 0
  let ma := s_ofJob F j 7
  let sh := s_ofJob F j 8
  let sk := s_ofPaper F L S q (2 + pa.toNatClampNeg) 3
  let qu := s_ofPress F L q o 5
  let go := s_taken F S (s_first F L o) sp - sp
  let tk := go + sp
  let F2 := s_slF F L S q o mi sp
  let L2 := s_slipL L q o
  if go < 1 then 0 else if sh < go then 0 else if sk < tk then 0 else if (go = sh ∨ tk = sk) then (if s_ofPaper F2 L2 S q2 (2 + pa.toNatClampNeg) 3 = sk - tk then (if s_ofJob F2 j 7 = ma + go * s_ofJob F2 j 3 then (if s_ofJob F2 j 6 = 2 then (if s_ofPress F2 L2 q2 o 5 = qu - 1 then (if s_ofPress F2 L2 q2 o 1 = s_ofJob F2 j 2 then (if s_expected F2 S j o 1 = 0 then 1 else 0) else 0) else 0) else 0) else 0) else 0) else 0

set_option maxHeartbeats 4000000 in
set_option maxRecDepth 100000 in
theorem c_L_isTold (l : Launch) (D : va_G) (ca : Nat → ClassId) (ad : Nat → Nat) (E : Em) (F : Fm) (L : Lm) (S : Sm) (n : Nat) (hlt : l.stackTraces = false) (q : Nat → Nat)  (hlf : Lf F L S n q) (q2 : Nat → Nat) (r mi sp : Int32) (h3 : erI 3 r = 0) (hlf2 : er_told F L S r mi sp = 0 → Lf (s_slF F L S q (6 + r.toNatClampNeg) mi sp) (s_slipL L q (6 + r.toNatClampNeg)) S n q2) (mc ms : Nat) (hm : er_told F L S r mi sp ≠ 0 → 1 ≤ mc ∧ 6 ≤ ms) (sz : Nat) : vx_Met l yL_isTold (.code yL_isTold cL_isTold 12 (some .boolean) :: BG) { frames := 8, cells := mc, slots := ms, locals := 162 } (Pw D ca ad (E, F, L, S, n) sz [.ref (ad 0), .int r, .int mi, .int sp]) (Qi D ca ad n (fun v u => er_told F L S r mi sp = 0 ∧ v = s_told F L S q q2 (6 + r.toNatClampNeg) r mi sp ∧ u.2 = (s_slF F L S q (6 + r.toNatClampNeg) mi sp, s_slipL L q (6 + r.toNatClampNeg), S, n)) sz) (Xq D ca ad n (er_told F L S r mi sp) (fun u => u.2 = (F, L, S, n)) sz) mc ms (wA ad n sz) := by
  refine open_X (σ := (E, F, L, S, n)) (Qc := Qi D ca ad n (fun v u => er_told F L S r mi sp = 0 ∧ v = s_told F L S q q2 (6 + r.toNatClampNeg) r mi sp ∧ u.2 = (s_slF F L S q (6 + r.toNatClampNeg) mi sp, s_slipL L q (6 + r.toNatClampNeg), S, n))) (XC := Xq D ca ad n (er_told F L S r mi sp) (fun u => u.2 = (F, L, S, n))) (by decide +kernel) (Nat.le_of_ble_eq_true rfl) ?_
  intro p e s m args below meth c X hr hlk hnt w cn ls hl
  have hl : lv_has ls 12 [(0, .ref (ad 0)), (1, .int r), (2, .int mi), (3, .int sp)] := hl
  have wf := hlf.1
  have hs := wf.2.2.1
  have hJ := wf.2.1.2
  refine lv_aload_n X.1 X.2.1 dL_isTold_0 rfl (lv_at hl 0 rfl) ?_
  refine lv_iload_n X.1 X.2.1 dL_isTold_1 rfl (lv_at hl 1 rfl) ?_
  refine lv_iconst (v := 0) X.1 X.2.1 dL_isTold_2 (by decide) ?_
  by_cases h2 : (er_queue F L r 0) = 0
  ·
    refine w_calli cn w (w_runV (n := 2) (As := [.int r, .int 0]) X cn w (lt17 (by decide)) wC_0 rfl (fun sz => met_of (c_X4_queue l D ca ad E F L S n hlt q wf r 0 0 0 (fun h => (h h2).elim) sz) h2) (bg_V kw_538 kw_372 kw_373 kw_31 kw_374) rfl rfl (by decide +kernel) ⟨(Nat.le_of_ble_eq_true rfl), (Nat.le_of_ble_eq_true rfl)⟩ rfl hl.1 rfl (Nat.le_of_ble_eq_true rfl) dL_isTold_3 ⟨(Nat.zero_le _), (Nat.zero_le _)⟩) (fun r1 u H locs hp w => ?_)
    obtain ⟨E3, q4⟩ := u
    obtain ⟨-, rfl, h5⟩ := hp
    have h5 : q4 = (F, L, S, n) := h5
    subst h5
    obtain ⟨j9, hjn, hj9, hjq⟩ := hlf.queue h2
    refine lv_topi (fun x6 ex6 => ?_)
    refine lv_istore (lv' := [(4, .int x6), (0, .ref (ad 0)), (1, .int r), (2, .int mi), (3, .int sp)]) X.1 X.2.1 dL_isTold_6 hl (by decide) rfl (fun ls hl => ?_)
    refine lv_aload_n X.1 X.2.1 dL_isTold_8 rfl (lv_at hl 1 rfl) ?_
    refine lv_iload X.1 X.2.1 dL_isTold_9 (lv_at hl 0 rfl) ?_
    refine lv_iconst (v := 0) X.1 X.2.1 dL_isTold_11 (by decide) ?_
    have h8 : (er_ofJob n x6 0) = 0 := (by subst ex6; rw [hjq, er_ofJob, if_pos (hlf.idx hjn)]; decide)
    refine w_calli cn w (w_runV (n := 2) (As := [.int x6, .int 0]) X cn w (lt17 (by decide)) wC_0 rfl (fun sz => met_of (c_X4_ofJob l D ca ad E3 F L S n hlt q wf x6 0 0 0 (fun h => (h h8).elim) sz) h8) (bg_V kw_536 kw_381 kw_382 kw_31 kw_383) rfl rfl (by decide +kernel) ⟨(Nat.le_of_ble_eq_true rfl), (Nat.le_of_ble_eq_true rfl)⟩ rfl hl.1 rfl (Nat.le_of_ble_eq_true rfl) dL_isTold_12 ⟨(Nat.zero_le _), (Nat.zero_le _)⟩) (fun r7 u H locs hp w => ?_)
    obtain ⟨E9, q10⟩ := u
    obtain ⟨-, rfl, h11⟩ := hp
    have h11 : q10 = (F, L, S, n) := h11
    subst h11
    refine lv_topi (fun x12 ex12 => ?_)
    refine lv_istore (lv' := [(5, .int x12), (4, .int x6), (0, .ref (ad 0)), (1, .int r), (2, .int mi), (3, .int sp)]) X.1 X.2.1 dL_isTold_15 hl (by decide) rfl (fun ls hl => ?_)
    refine lv_aload_n X.1 X.2.1 dL_isTold_17 rfl (lv_at hl 2 rfl) ?_
    refine lv_iload X.1 X.2.1 dL_isTold_18 (lv_at hl 1 rfl) ?_
    refine lv_bipush (v := 7) X.1 X.2.1 dL_isTold_20 (by decide) ?_
    have h14 : (er_ofJob n x6 7) = 0 := (by subst ex12; subst ex6; rw [hjq, er_ofJob, if_pos (hlf.idx hjn)]; decide)
    refine w_calli cn w (w_runV (n := 2) (As := [.int x6, .int 7]) X cn w (lt17 (by decide)) wC_0 rfl (fun sz => met_of (c_X4_ofJob l D ca ad E9 F L S n hlt q wf x6 7 0 0 (fun h => (h h14).elim) sz) h14) (bg_V kw_536 kw_381 kw_382 kw_31 kw_383) rfl rfl (by decide +kernel) ⟨(Nat.le_of_ble_eq_true rfl), (Nat.le_of_ble_eq_true rfl)⟩ rfl hl.1 rfl (Nat.le_of_ble_eq_true rfl) dL_isTold_22 ⟨(Nat.zero_le _), (Nat.zero_le _)⟩) (fun r13 u H locs hp w => ?_)
    obtain ⟨E15, q16⟩ := u
    obtain ⟨-, rfl, h17⟩ := hp
    have h17 : q16 = (F, L, S, n) := h17
    subst h17
    refine lv_topi (fun x18 ex18 => ?_)
    refine lv_istore (lv' := [(6, .int x18), (5, .int x12), (4, .int x6), (0, .ref (ad 0)), (1, .int r), (2, .int mi), (3, .int sp)]) X.1 X.2.1 dL_isTold_25 hl (by decide) rfl (fun ls hl => ?_)
    refine lv_aload_n X.1 X.2.1 dL_isTold_27 rfl (lv_at hl 3 rfl) ?_
    refine lv_iload X.1 X.2.1 dL_isTold_28 (lv_at hl 2 rfl) ?_
    refine lv_bipush (v := 8) X.1 X.2.1 dL_isTold_30 (by decide) ?_
    have h20 : (er_ofJob n x6 8) = 0 := (by subst ex18; subst ex12; subst ex6; rw [hjq, er_ofJob, if_pos (hlf.idx hjn)]; decide)
    refine w_calli cn w (w_runV (n := 2) (As := [.int x6, .int 8]) X cn w (lt17 (by decide)) wC_0 rfl (fun sz => met_of (c_X4_ofJob l D ca ad E15 F L S n hlt q wf x6 8 0 0 (fun h => (h h20).elim) sz) h20) (bg_V kw_536 kw_381 kw_382 kw_31 kw_383) rfl rfl (by decide +kernel) ⟨(Nat.le_of_ble_eq_true rfl), (Nat.le_of_ble_eq_true rfl)⟩ rfl hl.1 rfl (Nat.le_of_ble_eq_true rfl) dL_isTold_32 ⟨(Nat.zero_le _), (Nat.zero_le _)⟩) (fun r19 u H locs hp w => ?_)
    obtain ⟨E21, q22⟩ := u
    obtain ⟨-, rfl, h23⟩ := hp
    have h23 : q22 = (F, L, S, n) := h23
    subst h23
    refine lv_topi (fun x24 ex24 => ?_)
    refine lv_istore (lv' := [(7, .int x24), (6, .int x18), (5, .int x12), (4, .int x6), (0, .ref (ad 0)), (1, .int r), (2, .int mi), (3, .int sp)]) X.1 X.2.1 dL_isTold_35 hl (by decide) rfl (fun ls hl => ?_)
    refine lv_aload_n X.1 X.2.1 dL_isTold_37 rfl (lv_at hl 4 rfl) ?_
    refine lv_iload X.1 X.2.1 dL_isTold_38 (lv_at hl 2 rfl) ?_
    refine lv_iconst (v := 3) X.1 X.2.1 dL_isTold_40 (by decide) ?_
    have h26 : (er_ofPaper x12 3) = 0 := (by subst ex24; subst ex18; subst ex12; subst ex6; rw [hjq, er_ofPaper, cl_nI (by have := hlf.1.1; omega), ofJob_0, if_pos (hlf.pap hjn)]; decide)
    refine w_calli cn w (w_runV (n := 2) (As := [.int x12, .int 3]) X cn w (lt17 (by decide)) wC_0 rfl (fun sz => met_of (c_X4_ofPaper l D ca ad E21 F L S n hlt q wf x12 3 0 0 (fun h => (h h26).elim) sz) h26) (bg_V kw_554 kw_275 kw_276 kw_31 kw_277) rfl rfl (by decide +kernel) ⟨(Nat.le_of_ble_eq_true rfl), (Nat.le_of_ble_eq_true rfl)⟩ rfl hl.1 rfl (Nat.le_of_ble_eq_true rfl) dL_isTold_41 ⟨(Nat.zero_le _), (Nat.zero_le _)⟩) (fun r25 u H locs hp w => ?_)
    obtain ⟨E27, q28⟩ := u
    obtain ⟨-, rfl, h29⟩ := hp
    have h29 : q28 = (F, L, S, n) := h29
    subst h29
    refine lv_topi (fun x30 ex30 => ?_)
    refine lv_istore (lv' := [(8, .int x30), (7, .int x24), (6, .int x18), (5, .int x12), (4, .int x6), (0, .ref (ad 0)), (1, .int r), (2, .int mi), (3, .int sp)]) X.1 X.2.1 dL_isTold_44 hl (by decide) rfl (fun ls hl => ?_)
    refine lv_aload_n X.1 X.2.1 dL_isTold_46 rfl (lv_at hl 5 rfl) ?_
    refine lv_iload_n X.1 X.2.1 dL_isTold_47 rfl (lv_at hl 6 rfl) ?_
    refine lv_iconst (v := 5) X.1 X.2.1 dL_isTold_48 (by decide) ?_
    have h32 : (er_ofPress r 5) = 0 := (by rw [er_ofPress, if_pos h3]; decide)
    refine w_calli cn w (w_runV (n := 2) (As := [.int r, .int 5]) X cn w (lt17 (by decide)) wC_0 rfl (fun sz => met_of (c_X4_ofPress l D ca ad E27 F L S n hlt q wf r 5 0 0 (fun h => (h h32).elim) sz) h32) (bg_V kw_537 kw_358 kw_359 kw_31 kw_360) rfl rfl (by decide +kernel) ⟨(Nat.le_of_ble_eq_true rfl), (Nat.le_of_ble_eq_true rfl)⟩ rfl hl.1 rfl (Nat.le_of_ble_eq_true rfl) dL_isTold_49 ⟨(Nat.zero_le _), (Nat.zero_le _)⟩) (fun r31 u H locs hp w => ?_)
    obtain ⟨E33, q34⟩ := u
    obtain ⟨-, rfl, h35⟩ := hp
    have h35 : q34 = (F, L, S, n) := h35
    subst h35
    refine lv_topi (fun x36 ex36 => ?_)
    refine lv_istore (lv' := [(9, .int x36), (8, .int x30), (7, .int x24), (6, .int x18), (5, .int x12), (4, .int x6), (0, .ref (ad 0)), (1, .int r), (2, .int mi), (3, .int sp)]) X.1 X.2.1 dL_isTold_52 hl (by decide) rfl (fun ls hl => ?_)
    refine lv_aload_n X.1 X.2.1 dL_isTold_54 rfl (lv_at hl 6 rfl) ?_
    refine lv_iload_n X.1 X.2.1 dL_isTold_55 rfl (lv_at hl 7 rfl) ?_
    refine lv_iload_n X.1 X.2.1 dL_isTold_56 rfl (lv_at hl 8 rfl) ?_
    refine lv_iload_n X.1 X.2.1 dL_isTold_57 rfl (lv_at hl 9 rfl) ?_
    by_cases h38 : (er_slip F L S r mi sp) = 0
    ·
      refine w_calli cn w (w_runV (n := 3) (As := [.int r, .int mi, .int sp]) X cn w (lt17 (by decide)) wC_0 rfl (fun sz => met_of (c_X4_slip l D ca ad E33 F L S n hlt q wf r mi sp 0 0 (fun h => (h h38).elim) sz) h38) (bg_V kw_601 kw_602 kw_603 kw_31 kw_604) rfl rfl (by decide +kernel) ⟨(Nat.le_of_ble_eq_true rfl), (Nat.le_of_ble_eq_true rfl)⟩ rfl hl.1 rfl (Nat.le_of_ble_eq_true rfl) dL_isTold_58 ⟨(Nat.zero_le _), (Nat.zero_le _)⟩) (fun r37 u H locs hp w => ?_)
      obtain ⟨E39, q40⟩ := u
      obtain ⟨-, rfl, h41⟩ := hp
      have h41 : q40 = ((s_slF F L S q (6 + r.toNatClampNeg) mi sp), (s_slipL L q (6 + r.toNatClampNeg)), S, n) := h41
      subst h41
      have lf2 := hlf2 (by simp [er_told, h2, h8, h14, h20, h26, h32, h38])
      have wf2 := lf2.1
      refine lv_topi (fun x501 ex501 => ?_)
      refine lv_istore (lv' := [(10, .int x501), (9, .int x36), (8, .int x30), (7, .int x24), (6, .int x18), (5, .int x12), (4, .int x6), (0, .ref (ad 0)), (1, .int r), (2, .int mi), (3, .int sp)]) X.1 X.2.1 dL_isTold_61 hl (by decide) rfl (fun ls hl => ?_)
      refine lv_iload X.1 X.2.1 dL_isTold_63 (lv_at hl 0 rfl) ?_
      refine lv_iload_n X.1 X.2.1 dL_isTold_65 rfl (lv_at hl 10 rfl) ?_
      refine lv_iadd X.1 X.2.1 dL_isTold_66 ?_
      refine lv_topi (fun x502 ex502 => ?_)
      refine lv_istore (lv' := [(11, .int x502), (10, .int x501), (9, .int x36), (8, .int x30), (7, .int x24), (6, .int x18), (5, .int x12), (4, .int x6), (0, .ref (ad 0)), (1, .int r), (2, .int mi), (3, .int sp)]) X.1 X.2.1 dL_isTold_67 hl (by decide) rfl (fun ls hl => ?_)
      refine lv_iload X.1 X.2.1 dL_isTold_69 (lv_at hl 1 rfl) ?_
      refine lv_iconst (v := 1) X.1 X.2.1 dL_isTold_71 (by decide) ?_
      refine lv_icmp_lt (tgt := 198) X.1 X.2.1 dL_isTold_72 (by decide) (fun c503 => ?_) (fun c503 => ?_)
      ·
        refine lv_iconst (v := 0) X.1 X.2.1 dL_isTold_198 (by decide) ?_
        exact vx_ret (w_iret X hr hlk w (by subst ex502; subst ex501; subst ex36; subst ex30; subst ex24; subst ex18; subst ex12; subst ex6; exact ⟨by simp [er_told, h2, h8, h14, h20, h26, h32, h38], by simp only [s_told, eq_true c503, or_true, true_or, or_self, or_false, false_or, and_true, true_and, and_false, false_and, not_true, not_false_iff, if_true, if_false], rfl⟩) dL_isTold_199 rfl (Nat.zero_le _) (Nat.zero_le _))
      ·
        refine lv_iload X.1 X.2.1 dL_isTold_75 (lv_at hl 1 rfl) ?_
        refine lv_iload X.1 X.2.1 dL_isTold_77 (lv_at hl 4 rfl) ?_
        refine lv_icmp_gt (tgt := 198) X.1 X.2.1 dL_isTold_79 (by decide) (fun c504 => ?_) (fun c504 => ?_)
        ·
          refine lv_iconst (v := 0) X.1 X.2.1 dL_isTold_198 (by decide) ?_
          exact vx_ret (w_iret X hr hlk w (by subst ex502; subst ex501; subst ex36; subst ex30; subst ex24; subst ex18; subst ex12; subst ex6; exact ⟨by simp [er_told, h2, h8, h14, h20, h26, h32, h38], by simp only [s_told, eq_false c503, eq_true c504, or_true, true_or, or_self, or_false, false_or, and_true, true_and, and_false, false_and, not_true, not_false_iff, if_true, if_false], rfl⟩) dL_isTold_199 rfl (Nat.zero_le _) (Nat.zero_le _))
        ·
          refine lv_iload X.1 X.2.1 dL_isTold_82 (lv_at hl 0 rfl) ?_
          refine lv_iload X.1 X.2.1 dL_isTold_84 (lv_at hl 3 rfl) ?_
          refine lv_icmp_gt (tgt := 198) X.1 X.2.1 dL_isTold_86 (by decide) (fun c505 => ?_) (fun c505 => ?_)
          ·
            refine lv_iconst (v := 0) X.1 X.2.1 dL_isTold_198 (by decide) ?_
            exact vx_ret (w_iret X hr hlk w (by subst ex502; subst ex501; subst ex36; subst ex30; subst ex24; subst ex18; subst ex12; subst ex6; exact ⟨by simp [er_told, h2, h8, h14, h20, h26, h32, h38], by simp only [s_told, eq_false c503, eq_false c504, eq_true c505, or_true, true_or, or_self, or_false, false_or, and_true, true_and, and_false, false_and, not_true, not_false_iff, if_true, if_false], rfl⟩) dL_isTold_199 rfl (Nat.zero_le _) (Nat.zero_le _))
          ·
            refine lv_iload X.1 X.2.1 dL_isTold_89 (lv_at hl 1 rfl) ?_
            refine lv_iload X.1 X.2.1 dL_isTold_91 (lv_at hl 4 rfl) ?_
            refine lv_icmp_eq (tgt := 103) X.1 X.2.1 dL_isTold_93 (by decide) (fun c506 => ?_) (fun c506 => ?_)
            ·
              refine lv_aload_n X.1 X.2.1 dL_isTold_103 rfl (lv_at hl 8 rfl) ?_
              refine lv_iload X.1 X.2.1 dL_isTold_104 (lv_at hl 6 rfl) ?_
              refine lv_iconst (v := 3) X.1 X.2.1 dL_isTold_106 (by decide) ?_
              have h508 : (er_ofPaper x12 3) = 0 := (by subst ex502; subst ex501; subst ex36; subst ex30; subst ex24; subst ex18; subst ex12; subst ex6; rw [hjq, er_ofPaper, cl_nI (by have := hlf.1.1; omega), ofJob_0, if_pos (hlf.pap hjn)]; decide)
              refine w_calli cn w (w_runV (n := 2) (As := [.int x12, .int 3]) X cn w (lt17 (by decide)) wC_0 rfl (fun sz => met_of (c_X4_ofPaper l D ca ad E39 (s_slF F L S q (6 + r.toNatClampNeg) mi sp) (s_slipL L q (6 + r.toNatClampNeg)) S n hlt q2 wf2 x12 3 0 0 (fun h => (h h508).elim) sz) h508) (bg_V kw_554 kw_275 kw_276 kw_31 kw_277) rfl rfl (by decide +kernel) ⟨(Nat.le_of_ble_eq_true rfl), (Nat.le_of_ble_eq_true rfl)⟩ rfl hl.1 rfl (Nat.le_of_ble_eq_true rfl) dL_isTold_107 ⟨(Nat.zero_le _), (Nat.zero_le _)⟩) (fun r507 u H locs hp w => ?_)
              obtain ⟨E509, q510⟩ := u
              obtain ⟨-, rfl, h511⟩ := hp
              have h511 : q510 = ((s_slF F L S q (6 + r.toNatClampNeg) mi sp), (s_slipL L q (6 + r.toNatClampNeg)), S, n) := h511
              subst h511
              refine lv_iload X.1 X.2.1 dL_isTold_110 (lv_at hl 3 rfl) ?_
              refine lv_iload X.1 X.2.1 dL_isTold_112 (lv_at hl 0 rfl) ?_
              refine lv_isub X.1 X.2.1 dL_isTold_114 ?_
              refine lv_icmp_ne (tgt := 198) X.1 X.2.1 dL_isTold_115 (by decide) (fun c512 => ?_) (fun c512 => ?_)
              ·
                refine lv_iconst (v := 0) X.1 X.2.1 dL_isTold_198 (by decide) ?_
                exact vx_ret (w_iret X hr hlk w (by subst ex502; subst ex501; subst ex36; subst ex30; subst ex24; subst ex18; subst ex12; subst ex6; exact ⟨by simp [er_told, h2, h8, h14, h20, h26, h32, h38, h508], by simp only [s_told, eq_false c503, eq_false c504, eq_false c505, eq_true c506, eq_false c512, or_true, true_or, or_self, or_false, false_or, and_true, true_and, and_false, false_and, not_true, not_false_iff, if_true, if_false], rfl⟩) dL_isTold_199 rfl (Nat.zero_le _) (Nat.zero_le _))
              ·
                refine lv_aload_n X.1 X.2.1 dL_isTold_118 rfl (lv_at hl 8 rfl) ?_
                refine lv_iload X.1 X.2.1 dL_isTold_119 (lv_at hl 7 rfl) ?_
                refine lv_bipush (v := 7) X.1 X.2.1 dL_isTold_121 (by decide) ?_
                have h514 : (er_ofJob n x6 7) = 0 := (by subst ex502; subst ex501; subst ex36; subst ex30; subst ex24; subst ex18; subst ex12; subst ex6; rw [hjq, er_ofJob, if_pos (hlf.idx hjn)]; decide)
                refine w_calli cn w (w_runV (n := 2) (As := [.int x6, .int 7]) X cn w (lt17 (by decide)) wC_0 rfl (fun sz => met_of (c_X4_ofJob l D ca ad E509 (s_slF F L S q (6 + r.toNatClampNeg) mi sp) (s_slipL L q (6 + r.toNatClampNeg)) S n hlt q2 wf2 x6 7 0 0 (fun h => (h h514).elim) sz) h514) (bg_V kw_536 kw_381 kw_382 kw_31 kw_383) rfl rfl (by decide +kernel) ⟨(Nat.le_of_ble_eq_true rfl), (Nat.le_of_ble_eq_true rfl)⟩ rfl hl.1 rfl (Nat.le_of_ble_eq_true rfl) dL_isTold_123 ⟨(Nat.zero_le _), (Nat.zero_le _)⟩) (fun r513 u H locs hp w => ?_)
                obtain ⟨E515, q516⟩ := u
                obtain ⟨-, rfl, h517⟩ := hp
                have h517 : q516 = ((s_slF F L S q (6 + r.toNatClampNeg) mi sp), (s_slipL L q (6 + r.toNatClampNeg)), S, n) := h517
                subst h517
                refine lv_iload X.1 X.2.1 dL_isTold_126 (lv_at hl 5 rfl) ?_
                refine lv_iload X.1 X.2.1 dL_isTold_128 (lv_at hl 1 rfl) ?_
                refine lv_aload_n X.1 X.2.1 dL_isTold_130 rfl (lv_at hl 8 rfl) ?_
                refine lv_iload X.1 X.2.1 dL_isTold_131 (lv_at hl 7 rfl) ?_
                refine lv_iconst (v := 3) X.1 X.2.1 dL_isTold_133 (by decide) ?_
                have h519 : (er_ofJob n x6 3) = 0 := (by subst ex502; subst ex501; subst ex36; subst ex30; subst ex24; subst ex18; subst ex12; subst ex6; rw [hjq, er_ofJob, if_pos (hlf.idx hjn)]; decide)
                refine w_calli cn w (w_runV (n := 2) (As := [.int x6, .int 3]) X cn w (lt17 (by decide)) wC_0 rfl (fun sz => met_of (c_X4_ofJob l D ca ad E515 (s_slF F L S q (6 + r.toNatClampNeg) mi sp) (s_slipL L q (6 + r.toNatClampNeg)) S n hlt q2 wf2 x6 3 0 0 (fun h => (h h519).elim) sz) h519) (bg_V kw_536 kw_381 kw_382 kw_31 kw_383) rfl rfl (by decide +kernel) ⟨(Nat.le_of_ble_eq_true rfl), (Nat.le_of_ble_eq_true rfl)⟩ rfl hl.1 rfl (Nat.le_of_ble_eq_true rfl) dL_isTold_134 ⟨(Nat.zero_le _), (Nat.zero_le _)⟩) (fun r518 u H locs hp w => ?_)
                obtain ⟨E520, q521⟩ := u
                obtain ⟨-, rfl, h522⟩ := hp
                have h522 : q521 = ((s_slF F L S q (6 + r.toNatClampNeg) mi sp), (s_slipL L q (6 + r.toNatClampNeg)), S, n) := h522
                subst h522
                refine lv_imul X.1 X.2.1 dL_isTold_137 ?_
                refine lv_iadd X.1 X.2.1 dL_isTold_138 ?_
                refine lv_icmp_ne (tgt := 198) X.1 X.2.1 dL_isTold_139 (by decide) (fun c523 => ?_) (fun c523 => ?_)
                ·
                  refine lv_iconst (v := 0) X.1 X.2.1 dL_isTold_198 (by decide) ?_
                  exact vx_ret (w_iret X hr hlk w (by subst ex502; subst ex501; subst ex36; subst ex30; subst ex24; subst ex18; subst ex12; subst ex6; exact ⟨by simp [er_told, h2, h8, h14, h20, h26, h32, h38, h508, h514, h519], by simp only [s_told, eq_false c503, eq_false c504, eq_false c505, eq_true c506, eq_true c512, eq_false c523, or_true, true_or, or_self, or_false, false_or, and_true, true_and, and_false, false_and, not_true, not_false_iff, if_true, if_false], rfl⟩) dL_isTold_199 rfl (Nat.zero_le _) (Nat.zero_le _))
                ·
                  refine lv_aload_n X.1 X.2.1 dL_isTold_142 rfl (lv_at hl 8 rfl) ?_
                  refine lv_iload X.1 X.2.1 dL_isTold_143 (lv_at hl 7 rfl) ?_
                  refine lv_bipush (v := 6) X.1 X.2.1 dL_isTold_145 (by decide) ?_
                  have h525 : (er_ofJob n x6 6) = 0 := (by subst ex502; subst ex501; subst ex36; subst ex30; subst ex24; subst ex18; subst ex12; subst ex6; rw [hjq, er_ofJob, if_pos (hlf.idx hjn)]; decide)
                  refine w_calli cn w (w_runV (n := 2) (As := [.int x6, .int 6]) X cn w (lt17 (by decide)) wC_0 rfl (fun sz => met_of (c_X4_ofJob l D ca ad E520 (s_slF F L S q (6 + r.toNatClampNeg) mi sp) (s_slipL L q (6 + r.toNatClampNeg)) S n hlt q2 wf2 x6 6 0 0 (fun h => (h h525).elim) sz) h525) (bg_V kw_536 kw_381 kw_382 kw_31 kw_383) rfl rfl (by decide +kernel) ⟨(Nat.le_of_ble_eq_true rfl), (Nat.le_of_ble_eq_true rfl)⟩ rfl hl.1 rfl (Nat.le_of_ble_eq_true rfl) dL_isTold_147 ⟨(Nat.zero_le _), (Nat.zero_le _)⟩) (fun r524 u H locs hp w => ?_)
                  obtain ⟨E526, q527⟩ := u
                  obtain ⟨-, rfl, h528⟩ := hp
                  have h528 : q527 = ((s_slF F L S q (6 + r.toNatClampNeg) mi sp), (s_slipL L q (6 + r.toNatClampNeg)), S, n) := h528
                  subst h528
                  refine lv_iconst (v := 2) X.1 X.2.1 dL_isTold_150 (by decide) ?_
                  refine lv_icmp_ne (tgt := 198) X.1 X.2.1 dL_isTold_151 (by decide) (fun c529 => ?_) (fun c529 => ?_)
                  ·
                    refine lv_iconst (v := 0) X.1 X.2.1 dL_isTold_198 (by decide) ?_
                    exact vx_ret (w_iret X hr hlk w (by subst ex502; subst ex501; subst ex36; subst ex30; subst ex24; subst ex18; subst ex12; subst ex6; exact ⟨by simp [er_told, h2, h8, h14, h20, h26, h32, h38, h508, h514, h519, h525], by simp only [s_told, eq_false c503, eq_false c504, eq_false c505, eq_true c506, eq_true c512, eq_true c523, eq_false c529, or_true, true_or, or_self, or_false, false_or, and_true, true_and, and_false, false_and, not_true, not_false_iff, if_true, if_false], rfl⟩) dL_isTold_199 rfl (Nat.zero_le _) (Nat.zero_le _))
                  ·
                    refine lv_aload_n X.1 X.2.1 dL_isTold_154 rfl (lv_at hl 8 rfl) ?_
                    refine lv_iload_n X.1 X.2.1 dL_isTold_155 rfl (lv_at hl 9 rfl) ?_
                    refine lv_iconst (v := 5) X.1 X.2.1 dL_isTold_156 (by decide) ?_
                    have h531 : (er_ofPress r 5) = 0 := (by rw [er_ofPress, if_pos h3]; decide)
                    refine w_calli cn w (w_runV (n := 2) (As := [.int r, .int 5]) X cn w (lt17 (by decide)) wC_0 rfl (fun sz => met_of (c_X4_ofPress l D ca ad E526 (s_slF F L S q (6 + r.toNatClampNeg) mi sp) (s_slipL L q (6 + r.toNatClampNeg)) S n hlt q2 wf2 r 5 0 0 (fun h => (h h531).elim) sz) h531) (bg_V kw_537 kw_358 kw_359 kw_31 kw_360) rfl rfl (by decide +kernel) ⟨(Nat.le_of_ble_eq_true rfl), (Nat.le_of_ble_eq_true rfl)⟩ rfl hl.1 rfl (Nat.le_of_ble_eq_true rfl) dL_isTold_157 ⟨(Nat.zero_le _), (Nat.zero_le _)⟩) (fun r530 u H locs hp w => ?_)
                    obtain ⟨E532, q533⟩ := u
                    obtain ⟨-, rfl, h534⟩ := hp
                    have h534 : q533 = ((s_slF F L S q (6 + r.toNatClampNeg) mi sp), (s_slipL L q (6 + r.toNatClampNeg)), S, n) := h534
                    subst h534
                    refine lv_iload X.1 X.2.1 dL_isTold_160 (lv_at hl 2 rfl) ?_
                    refine lv_iconst (v := 1) X.1 X.2.1 dL_isTold_162 (by decide) ?_
                    refine lv_isub X.1 X.2.1 dL_isTold_163 ?_
                    refine lv_icmp_ne (tgt := 198) X.1 X.2.1 dL_isTold_164 (by decide) (fun c535 => ?_) (fun c535 => ?_)
                    ·
                      refine lv_iconst (v := 0) X.1 X.2.1 dL_isTold_198 (by decide) ?_
                      exact vx_ret (w_iret X hr hlk w (by subst ex502; subst ex501; subst ex36; subst ex30; subst ex24; subst ex18; subst ex12; subst ex6; exact ⟨by simp [er_told, h2, h8, h14, h20, h26, h32, h38, h508, h514, h519, h525, h531], by simp only [s_told, eq_false c503, eq_false c504, eq_false c505, eq_true c506, eq_true c512, eq_true c523, eq_true c529, eq_false c535, or_true, true_or, or_self, or_false, false_or, and_true, true_and, and_false, false_and, not_true, not_false_iff, if_true, if_false], rfl⟩) dL_isTold_199 rfl (Nat.zero_le _) (Nat.zero_le _))
                    ·
                      refine lv_aload_n X.1 X.2.1 dL_isTold_167 rfl (lv_at hl 8 rfl) ?_
                      refine lv_iload_n X.1 X.2.1 dL_isTold_168 rfl (lv_at hl 9 rfl) ?_
                      refine lv_iconst (v := 1) X.1 X.2.1 dL_isTold_169 (by decide) ?_
                      have h537 : (er_ofPress r 1) = 0 := (by rw [er_ofPress, if_pos h3]; decide)
                      refine w_calli cn w (w_runV (n := 2) (As := [.int r, .int 1]) X cn w (lt17 (by decide)) wC_0 rfl (fun sz => met_of (c_X4_ofPress l D ca ad E532 (s_slF F L S q (6 + r.toNatClampNeg) mi sp) (s_slipL L q (6 + r.toNatClampNeg)) S n hlt q2 wf2 r 1 0 0 (fun h => (h h537).elim) sz) h537) (bg_V kw_537 kw_358 kw_359 kw_31 kw_360) rfl rfl (by decide +kernel) ⟨(Nat.le_of_ble_eq_true rfl), (Nat.le_of_ble_eq_true rfl)⟩ rfl hl.1 rfl (Nat.le_of_ble_eq_true rfl) dL_isTold_170 ⟨(Nat.zero_le _), (Nat.zero_le _)⟩) (fun r536 u H locs hp w => ?_)
                      obtain ⟨E538, q539⟩ := u
                      obtain ⟨-, rfl, h540⟩ := hp
                      have h540 : q539 = ((s_slF F L S q (6 + r.toNatClampNeg) mi sp), (s_slipL L q (6 + r.toNatClampNeg)), S, n) := h540
                      subst h540
                      refine lv_aload_n X.1 X.2.1 dL_isTold_173 rfl (lv_at hl 8 rfl) ?_
                      refine lv_iload X.1 X.2.1 dL_isTold_174 (lv_at hl 7 rfl) ?_
                      refine lv_iconst (v := 2) X.1 X.2.1 dL_isTold_176 (by decide) ?_
                      have h542 : (er_ofJob n x6 2) = 0 := (by subst ex502; subst ex501; subst ex36; subst ex30; subst ex24; subst ex18; subst ex12; subst ex6; rw [hjq, er_ofJob, if_pos (hlf.idx hjn)]; decide)
                      refine w_calli cn w (w_runV (n := 2) (As := [.int x6, .int 2]) X cn w (lt17 (by decide)) wC_0 rfl (fun sz => met_of (c_X4_ofJob l D ca ad E538 (s_slF F L S q (6 + r.toNatClampNeg) mi sp) (s_slipL L q (6 + r.toNatClampNeg)) S n hlt q2 wf2 x6 2 0 0 (fun h => (h h542).elim) sz) h542) (bg_V kw_536 kw_381 kw_382 kw_31 kw_383) rfl rfl (by decide +kernel) ⟨(Nat.le_of_ble_eq_true rfl), (Nat.le_of_ble_eq_true rfl)⟩ rfl hl.1 rfl (Nat.le_of_ble_eq_true rfl) dL_isTold_177 ⟨(Nat.zero_le _), (Nat.zero_le _)⟩) (fun r541 u H locs hp w => ?_)
                      obtain ⟨E543, q544⟩ := u
                      obtain ⟨-, rfl, h545⟩ := hp
                      have h545 : q544 = ((s_slF F L S q (6 + r.toNatClampNeg) mi sp), (s_slipL L q (6 + r.toNatClampNeg)), S, n) := h545
                      subst h545
                      refine lv_icmp_ne (tgt := 198) X.1 X.2.1 dL_isTold_180 (by decide) (fun c546 => ?_) (fun c546 => ?_)
                      ·
                        refine lv_iconst (v := 0) X.1 X.2.1 dL_isTold_198 (by decide) ?_
                        exact vx_ret (w_iret X hr hlk w (by subst ex502; subst ex501; subst ex36; subst ex30; subst ex24; subst ex18; subst ex12; subst ex6; exact ⟨by simp [er_told, h2, h8, h14, h20, h26, h32, h38, h508, h514, h519, h525, h531, h537, h542], by simp only [s_told, eq_false c503, eq_false c504, eq_false c505, eq_true c506, eq_true c512, eq_true c523, eq_true c529, eq_true c535, eq_false c546, or_true, true_or, or_self, or_false, false_or, and_true, true_and, and_false, false_and, not_true, not_false_iff, if_true, if_false], rfl⟩) dL_isTold_199 rfl (Nat.zero_le _) (Nat.zero_le _))
                      ·
                        refine lv_aload_n X.1 X.2.1 dL_isTold_183 rfl (lv_at hl 8 rfl) ?_
                        refine lv_iload X.1 X.2.1 dL_isTold_184 (lv_at hl 7 rfl) ?_
                        refine lv_iload_n X.1 X.2.1 dL_isTold_186 rfl (lv_at hl 9 rfl) ?_
                        refine lv_iconst (v := 1) X.1 X.2.1 dL_isTold_187 (by decide) ?_
                        have h548 : (er_expected n x6 r 1) = 0 := (by subst ex502; subst ex501; subst ex36; subst ex30; subst ex24; subst ex18; subst ex12; subst ex6; rw [hjq, er_expected, if_pos (hlf.idx hjn), if_pos h3]; decide)
                        refine w_calli cn w (w_runV (n := 3) (As := [.int x6, .int r, .int 1]) X cn w (lt17 (by decide)) wC_0 rfl (fun sz => met_of (c_X4_expected l D ca ad E543 (s_slF F L S q (6 + r.toNatClampNeg) mi sp) (s_slipL L q (6 + r.toNatClampNeg)) S n hlt q2 wf2 x6 r 1 0 0 (fun h => (h h548).elim) sz) h548) (bg_V kw_629 kw_391 kw_392 kw_31 kw_393) rfl rfl (by decide +kernel) ⟨(Nat.le_of_ble_eq_true rfl), (Nat.le_of_ble_eq_true rfl)⟩ rfl hl.1 rfl (Nat.le_of_ble_eq_true rfl) dL_isTold_188 ⟨(Nat.zero_le _), (Nat.zero_le _)⟩) (fun r547 u H locs hp w => ?_)
                        obtain ⟨E549, q550⟩ := u
                        obtain ⟨-, rfl, h551⟩ := hp
                        have h551 : q550 = ((s_slF F L S q (6 + r.toNatClampNeg) mi sp), (s_slipL L q (6 + r.toNatClampNeg)), S, n) := h551
                        subst h551
                        refine lv_if_ne (tgt := 198) X.1 X.2.1 dL_isTold_191 (by decide) (fun c552 => ?_) (fun c552 => ?_)
                        ·
                          refine lv_iconst (v := 0) X.1 X.2.1 dL_isTold_198 (by decide) ?_
                          exact vx_ret (w_iret X hr hlk w (by subst ex502; subst ex501; subst ex36; subst ex30; subst ex24; subst ex18; subst ex12; subst ex6; exact ⟨by simp [er_told, h2, h8, h14, h20, h26, h32, h38, h508, h514, h519, h525, h531, h537, h542, h548], by simp only [s_told, eq_false c503, eq_false c504, eq_false c505, eq_true c506, eq_true c512, eq_true c523, eq_true c529, eq_true c535, eq_true c546, eq_false c552, or_true, true_or, or_self, or_false, false_or, and_true, true_and, and_false, false_and, not_true, not_false_iff, if_true, if_false], rfl⟩) dL_isTold_199 rfl (Nat.zero_le _) (Nat.zero_le _))
                        ·
                          refine lv_iconst (v := 1) X.1 X.2.1 dL_isTold_194 (by decide) ?_
                          refine lv_goto (tgt := 199) X.1 X.2.1 dL_isTold_195 (by decide) ?_
                          exact vx_ret (w_iret X hr hlk w (by subst ex502; subst ex501; subst ex36; subst ex30; subst ex24; subst ex18; subst ex12; subst ex6; exact ⟨by simp [er_told, h2, h8, h14, h20, h26, h32, h38, h508, h514, h519, h525, h531, h537, h542, h548], by simp only [s_told, eq_false c503, eq_false c504, eq_false c505, eq_true c506, eq_true c512, eq_true c523, eq_true c529, eq_true c535, eq_true c546, eq_true c552, or_true, true_or, or_self, or_false, false_or, and_true, true_and, and_false, false_and, not_true, not_false_iff, if_true, if_false], rfl⟩) dL_isTold_199 rfl (Nat.zero_le _) (Nat.zero_le _))
            ·
              refine lv_iload X.1 X.2.1 dL_isTold_96 (lv_at hl 0 rfl) ?_
              refine lv_iload X.1 X.2.1 dL_isTold_98 (lv_at hl 3 rfl) ?_
              refine lv_icmp_ne (tgt := 198) X.1 X.2.1 dL_isTold_100 (by decide) (fun c553 => ?_) (fun c553 => ?_)
              ·
                refine lv_iconst (v := 0) X.1 X.2.1 dL_isTold_198 (by decide) ?_
                exact vx_ret (w_iret X hr hlk w (by subst ex502; subst ex501; subst ex36; subst ex30; subst ex24; subst ex18; subst ex12; subst ex6; exact ⟨by simp [er_told, h2, h8, h14, h20, h26, h32, h38], by simp only [s_told, eq_false c503, eq_false c504, eq_false c505, eq_false c506, eq_false c553, or_true, true_or, or_self, or_false, false_or, and_true, true_and, and_false, false_and, not_true, not_false_iff, if_true, if_false], rfl⟩) dL_isTold_199 rfl (Nat.zero_le _) (Nat.zero_le _))
              ·
                refine lv_aload_n X.1 X.2.1 dL_isTold_103 rfl (lv_at hl 8 rfl) ?_
                refine lv_iload X.1 X.2.1 dL_isTold_104 (lv_at hl 6 rfl) ?_
                refine lv_iconst (v := 3) X.1 X.2.1 dL_isTold_106 (by decide) ?_
                have h555 : (er_ofPaper x12 3) = 0 := (by subst ex502; subst ex501; subst ex36; subst ex30; subst ex24; subst ex18; subst ex12; subst ex6; rw [hjq, er_ofPaper, cl_nI (by have := hlf.1.1; omega), ofJob_0, if_pos (hlf.pap hjn)]; decide)
                refine w_calli cn w (w_runV (n := 2) (As := [.int x12, .int 3]) X cn w (lt17 (by decide)) wC_0 rfl (fun sz => met_of (c_X4_ofPaper l D ca ad E39 (s_slF F L S q (6 + r.toNatClampNeg) mi sp) (s_slipL L q (6 + r.toNatClampNeg)) S n hlt q2 wf2 x12 3 0 0 (fun h => (h h555).elim) sz) h555) (bg_V kw_554 kw_275 kw_276 kw_31 kw_277) rfl rfl (by decide +kernel) ⟨(Nat.le_of_ble_eq_true rfl), (Nat.le_of_ble_eq_true rfl)⟩ rfl hl.1 rfl (Nat.le_of_ble_eq_true rfl) dL_isTold_107 ⟨(Nat.zero_le _), (Nat.zero_le _)⟩) (fun r554 u H locs hp w => ?_)
                obtain ⟨E556, q557⟩ := u
                obtain ⟨-, rfl, h558⟩ := hp
                have h558 : q557 = ((s_slF F L S q (6 + r.toNatClampNeg) mi sp), (s_slipL L q (6 + r.toNatClampNeg)), S, n) := h558
                subst h558
                refine lv_iload X.1 X.2.1 dL_isTold_110 (lv_at hl 3 rfl) ?_
                refine lv_iload X.1 X.2.1 dL_isTold_112 (lv_at hl 0 rfl) ?_
                refine lv_isub X.1 X.2.1 dL_isTold_114 ?_
                refine lv_icmp_ne (tgt := 198) X.1 X.2.1 dL_isTold_115 (by decide) (fun c559 => ?_) (fun c559 => ?_)
                ·
                  refine lv_iconst (v := 0) X.1 X.2.1 dL_isTold_198 (by decide) ?_
                  exact vx_ret (w_iret X hr hlk w (by subst ex502; subst ex501; subst ex36; subst ex30; subst ex24; subst ex18; subst ex12; subst ex6; exact ⟨by simp [er_told, h2, h8, h14, h20, h26, h32, h38, h555], by simp only [s_told, eq_false c503, eq_false c504, eq_false c505, eq_false c506, eq_true c553, eq_false c559, or_true, true_or, or_self, or_false, false_or, and_true, true_and, and_false, false_and, not_true, not_false_iff, if_true, if_false], rfl⟩) dL_isTold_199 rfl (Nat.zero_le _) (Nat.zero_le _))
                ·
                  refine lv_aload_n X.1 X.2.1 dL_isTold_118 rfl (lv_at hl 8 rfl) ?_
                  refine lv_iload X.1 X.2.1 dL_isTold_119 (lv_at hl 7 rfl) ?_
                  refine lv_bipush (v := 7) X.1 X.2.1 dL_isTold_121 (by decide) ?_
                  have h561 : (er_ofJob n x6 7) = 0 := (by subst ex502; subst ex501; subst ex36; subst ex30; subst ex24; subst ex18; subst ex12; subst ex6; rw [hjq, er_ofJob, if_pos (hlf.idx hjn)]; decide)
                  refine w_calli cn w (w_runV (n := 2) (As := [.int x6, .int 7]) X cn w (lt17 (by decide)) wC_0 rfl (fun sz => met_of (c_X4_ofJob l D ca ad E556 (s_slF F L S q (6 + r.toNatClampNeg) mi sp) (s_slipL L q (6 + r.toNatClampNeg)) S n hlt q2 wf2 x6 7 0 0 (fun h => (h h561).elim) sz) h561) (bg_V kw_536 kw_381 kw_382 kw_31 kw_383) rfl rfl (by decide +kernel) ⟨(Nat.le_of_ble_eq_true rfl), (Nat.le_of_ble_eq_true rfl)⟩ rfl hl.1 rfl (Nat.le_of_ble_eq_true rfl) dL_isTold_123 ⟨(Nat.zero_le _), (Nat.zero_le _)⟩) (fun r560 u H locs hp w => ?_)
                  obtain ⟨E562, q563⟩ := u
                  obtain ⟨-, rfl, h564⟩ := hp
                  have h564 : q563 = ((s_slF F L S q (6 + r.toNatClampNeg) mi sp), (s_slipL L q (6 + r.toNatClampNeg)), S, n) := h564
                  subst h564
                  refine lv_iload X.1 X.2.1 dL_isTold_126 (lv_at hl 5 rfl) ?_
                  refine lv_iload X.1 X.2.1 dL_isTold_128 (lv_at hl 1 rfl) ?_
                  refine lv_aload_n X.1 X.2.1 dL_isTold_130 rfl (lv_at hl 8 rfl) ?_
                  refine lv_iload X.1 X.2.1 dL_isTold_131 (lv_at hl 7 rfl) ?_
                  refine lv_iconst (v := 3) X.1 X.2.1 dL_isTold_133 (by decide) ?_
                  have h566 : (er_ofJob n x6 3) = 0 := (by subst ex502; subst ex501; subst ex36; subst ex30; subst ex24; subst ex18; subst ex12; subst ex6; rw [hjq, er_ofJob, if_pos (hlf.idx hjn)]; decide)
                  refine w_calli cn w (w_runV (n := 2) (As := [.int x6, .int 3]) X cn w (lt17 (by decide)) wC_0 rfl (fun sz => met_of (c_X4_ofJob l D ca ad E562 (s_slF F L S q (6 + r.toNatClampNeg) mi sp) (s_slipL L q (6 + r.toNatClampNeg)) S n hlt q2 wf2 x6 3 0 0 (fun h => (h h566).elim) sz) h566) (bg_V kw_536 kw_381 kw_382 kw_31 kw_383) rfl rfl (by decide +kernel) ⟨(Nat.le_of_ble_eq_true rfl), (Nat.le_of_ble_eq_true rfl)⟩ rfl hl.1 rfl (Nat.le_of_ble_eq_true rfl) dL_isTold_134 ⟨(Nat.zero_le _), (Nat.zero_le _)⟩) (fun r565 u H locs hp w => ?_)
                  obtain ⟨E567, q568⟩ := u
                  obtain ⟨-, rfl, h569⟩ := hp
                  have h569 : q568 = ((s_slF F L S q (6 + r.toNatClampNeg) mi sp), (s_slipL L q (6 + r.toNatClampNeg)), S, n) := h569
                  subst h569
                  refine lv_imul X.1 X.2.1 dL_isTold_137 ?_
                  refine lv_iadd X.1 X.2.1 dL_isTold_138 ?_
                  refine lv_icmp_ne (tgt := 198) X.1 X.2.1 dL_isTold_139 (by decide) (fun c570 => ?_) (fun c570 => ?_)
                  ·
                    refine lv_iconst (v := 0) X.1 X.2.1 dL_isTold_198 (by decide) ?_
                    exact vx_ret (w_iret X hr hlk w (by subst ex502; subst ex501; subst ex36; subst ex30; subst ex24; subst ex18; subst ex12; subst ex6; exact ⟨by simp [er_told, h2, h8, h14, h20, h26, h32, h38, h555, h561, h566], by simp only [s_told, eq_false c503, eq_false c504, eq_false c505, eq_false c506, eq_true c553, eq_true c559, eq_false c570, or_true, true_or, or_self, or_false, false_or, and_true, true_and, and_false, false_and, not_true, not_false_iff, if_true, if_false], rfl⟩) dL_isTold_199 rfl (Nat.zero_le _) (Nat.zero_le _))
                  ·
                    refine lv_aload_n X.1 X.2.1 dL_isTold_142 rfl (lv_at hl 8 rfl) ?_
                    refine lv_iload X.1 X.2.1 dL_isTold_143 (lv_at hl 7 rfl) ?_
                    refine lv_bipush (v := 6) X.1 X.2.1 dL_isTold_145 (by decide) ?_
                    have h572 : (er_ofJob n x6 6) = 0 := (by subst ex502; subst ex501; subst ex36; subst ex30; subst ex24; subst ex18; subst ex12; subst ex6; rw [hjq, er_ofJob, if_pos (hlf.idx hjn)]; decide)
                    refine w_calli cn w (w_runV (n := 2) (As := [.int x6, .int 6]) X cn w (lt17 (by decide)) wC_0 rfl (fun sz => met_of (c_X4_ofJob l D ca ad E567 (s_slF F L S q (6 + r.toNatClampNeg) mi sp) (s_slipL L q (6 + r.toNatClampNeg)) S n hlt q2 wf2 x6 6 0 0 (fun h => (h h572).elim) sz) h572) (bg_V kw_536 kw_381 kw_382 kw_31 kw_383) rfl rfl (by decide +kernel) ⟨(Nat.le_of_ble_eq_true rfl), (Nat.le_of_ble_eq_true rfl)⟩ rfl hl.1 rfl (Nat.le_of_ble_eq_true rfl) dL_isTold_147 ⟨(Nat.zero_le _), (Nat.zero_le _)⟩) (fun r571 u H locs hp w => ?_)
                    obtain ⟨E573, q574⟩ := u
                    obtain ⟨-, rfl, h575⟩ := hp
                    have h575 : q574 = ((s_slF F L S q (6 + r.toNatClampNeg) mi sp), (s_slipL L q (6 + r.toNatClampNeg)), S, n) := h575
                    subst h575
                    refine lv_iconst (v := 2) X.1 X.2.1 dL_isTold_150 (by decide) ?_
                    refine lv_icmp_ne (tgt := 198) X.1 X.2.1 dL_isTold_151 (by decide) (fun c576 => ?_) (fun c576 => ?_)
                    ·
                      refine lv_iconst (v := 0) X.1 X.2.1 dL_isTold_198 (by decide) ?_
                      exact vx_ret (w_iret X hr hlk w (by subst ex502; subst ex501; subst ex36; subst ex30; subst ex24; subst ex18; subst ex12; subst ex6; exact ⟨by simp [er_told, h2, h8, h14, h20, h26, h32, h38, h555, h561, h566, h572], by simp only [s_told, eq_false c503, eq_false c504, eq_false c505, eq_false c506, eq_true c553, eq_true c559, eq_true c570, eq_false c576, or_true, true_or, or_self, or_false, false_or, and_true, true_and, and_false, false_and, not_true, not_false_iff, if_true, if_false], rfl⟩) dL_isTold_199 rfl (Nat.zero_le _) (Nat.zero_le _))
                    ·
                      refine lv_aload_n X.1 X.2.1 dL_isTold_154 rfl (lv_at hl 8 rfl) ?_
                      refine lv_iload_n X.1 X.2.1 dL_isTold_155 rfl (lv_at hl 9 rfl) ?_
                      refine lv_iconst (v := 5) X.1 X.2.1 dL_isTold_156 (by decide) ?_
                      have h578 : (er_ofPress r 5) = 0 := (by rw [er_ofPress, if_pos h3]; decide)
                      refine w_calli cn w (w_runV (n := 2) (As := [.int r, .int 5]) X cn w (lt17 (by decide)) wC_0 rfl (fun sz => met_of (c_X4_ofPress l D ca ad E573 (s_slF F L S q (6 + r.toNatClampNeg) mi sp) (s_slipL L q (6 + r.toNatClampNeg)) S n hlt q2 wf2 r 5 0 0 (fun h => (h h578).elim) sz) h578) (bg_V kw_537 kw_358 kw_359 kw_31 kw_360) rfl rfl (by decide +kernel) ⟨(Nat.le_of_ble_eq_true rfl), (Nat.le_of_ble_eq_true rfl)⟩ rfl hl.1 rfl (Nat.le_of_ble_eq_true rfl) dL_isTold_157 ⟨(Nat.zero_le _), (Nat.zero_le _)⟩) (fun r577 u H locs hp w => ?_)
                      obtain ⟨E579, q580⟩ := u
                      obtain ⟨-, rfl, h581⟩ := hp
                      have h581 : q580 = ((s_slF F L S q (6 + r.toNatClampNeg) mi sp), (s_slipL L q (6 + r.toNatClampNeg)), S, n) := h581
                      subst h581
                      refine lv_iload X.1 X.2.1 dL_isTold_160 (lv_at hl 2 rfl) ?_
                      refine lv_iconst (v := 1) X.1 X.2.1 dL_isTold_162 (by decide) ?_
                      refine lv_isub X.1 X.2.1 dL_isTold_163 ?_
                      refine lv_icmp_ne (tgt := 198) X.1 X.2.1 dL_isTold_164 (by decide) (fun c582 => ?_) (fun c582 => ?_)
                      ·
                        refine lv_iconst (v := 0) X.1 X.2.1 dL_isTold_198 (by decide) ?_
                        exact vx_ret (w_iret X hr hlk w (by subst ex502; subst ex501; subst ex36; subst ex30; subst ex24; subst ex18; subst ex12; subst ex6; exact ⟨by simp [er_told, h2, h8, h14, h20, h26, h32, h38, h555, h561, h566, h572, h578], by simp only [s_told, eq_false c503, eq_false c504, eq_false c505, eq_false c506, eq_true c553, eq_true c559, eq_true c570, eq_true c576, eq_false c582, or_true, true_or, or_self, or_false, false_or, and_true, true_and, and_false, false_and, not_true, not_false_iff, if_true, if_false], rfl⟩) dL_isTold_199 rfl (Nat.zero_le _) (Nat.zero_le _))
                      ·
                        refine lv_aload_n X.1 X.2.1 dL_isTold_167 rfl (lv_at hl 8 rfl) ?_
                        refine lv_iload_n X.1 X.2.1 dL_isTold_168 rfl (lv_at hl 9 rfl) ?_
                        refine lv_iconst (v := 1) X.1 X.2.1 dL_isTold_169 (by decide) ?_
                        have h584 : (er_ofPress r 1) = 0 := (by rw [er_ofPress, if_pos h3]; decide)
                        refine w_calli cn w (w_runV (n := 2) (As := [.int r, .int 1]) X cn w (lt17 (by decide)) wC_0 rfl (fun sz => met_of (c_X4_ofPress l D ca ad E579 (s_slF F L S q (6 + r.toNatClampNeg) mi sp) (s_slipL L q (6 + r.toNatClampNeg)) S n hlt q2 wf2 r 1 0 0 (fun h => (h h584).elim) sz) h584) (bg_V kw_537 kw_358 kw_359 kw_31 kw_360) rfl rfl (by decide +kernel) ⟨(Nat.le_of_ble_eq_true rfl), (Nat.le_of_ble_eq_true rfl)⟩ rfl hl.1 rfl (Nat.le_of_ble_eq_true rfl) dL_isTold_170 ⟨(Nat.zero_le _), (Nat.zero_le _)⟩) (fun r583 u H locs hp w => ?_)
                        obtain ⟨E585, q586⟩ := u
                        obtain ⟨-, rfl, h587⟩ := hp
                        have h587 : q586 = ((s_slF F L S q (6 + r.toNatClampNeg) mi sp), (s_slipL L q (6 + r.toNatClampNeg)), S, n) := h587
                        subst h587
                        refine lv_aload_n X.1 X.2.1 dL_isTold_173 rfl (lv_at hl 8 rfl) ?_
                        refine lv_iload X.1 X.2.1 dL_isTold_174 (lv_at hl 7 rfl) ?_
                        refine lv_iconst (v := 2) X.1 X.2.1 dL_isTold_176 (by decide) ?_
                        have h589 : (er_ofJob n x6 2) = 0 := (by subst ex502; subst ex501; subst ex36; subst ex30; subst ex24; subst ex18; subst ex12; subst ex6; rw [hjq, er_ofJob, if_pos (hlf.idx hjn)]; decide)
                        refine w_calli cn w (w_runV (n := 2) (As := [.int x6, .int 2]) X cn w (lt17 (by decide)) wC_0 rfl (fun sz => met_of (c_X4_ofJob l D ca ad E585 (s_slF F L S q (6 + r.toNatClampNeg) mi sp) (s_slipL L q (6 + r.toNatClampNeg)) S n hlt q2 wf2 x6 2 0 0 (fun h => (h h589).elim) sz) h589) (bg_V kw_536 kw_381 kw_382 kw_31 kw_383) rfl rfl (by decide +kernel) ⟨(Nat.le_of_ble_eq_true rfl), (Nat.le_of_ble_eq_true rfl)⟩ rfl hl.1 rfl (Nat.le_of_ble_eq_true rfl) dL_isTold_177 ⟨(Nat.zero_le _), (Nat.zero_le _)⟩) (fun r588 u H locs hp w => ?_)
                        obtain ⟨E590, q591⟩ := u
                        obtain ⟨-, rfl, h592⟩ := hp
                        have h592 : q591 = ((s_slF F L S q (6 + r.toNatClampNeg) mi sp), (s_slipL L q (6 + r.toNatClampNeg)), S, n) := h592
                        subst h592
                        refine lv_icmp_ne (tgt := 198) X.1 X.2.1 dL_isTold_180 (by decide) (fun c593 => ?_) (fun c593 => ?_)
                        ·
                          refine lv_iconst (v := 0) X.1 X.2.1 dL_isTold_198 (by decide) ?_
                          exact vx_ret (w_iret X hr hlk w (by subst ex502; subst ex501; subst ex36; subst ex30; subst ex24; subst ex18; subst ex12; subst ex6; exact ⟨by simp [er_told, h2, h8, h14, h20, h26, h32, h38, h555, h561, h566, h572, h578, h584, h589], by simp only [s_told, eq_false c503, eq_false c504, eq_false c505, eq_false c506, eq_true c553, eq_true c559, eq_true c570, eq_true c576, eq_true c582, eq_false c593, or_true, true_or, or_self, or_false, false_or, and_true, true_and, and_false, false_and, not_true, not_false_iff, if_true, if_false], rfl⟩) dL_isTold_199 rfl (Nat.zero_le _) (Nat.zero_le _))
                        ·
                          refine lv_aload_n X.1 X.2.1 dL_isTold_183 rfl (lv_at hl 8 rfl) ?_
                          refine lv_iload X.1 X.2.1 dL_isTold_184 (lv_at hl 7 rfl) ?_
                          refine lv_iload_n X.1 X.2.1 dL_isTold_186 rfl (lv_at hl 9 rfl) ?_
                          refine lv_iconst (v := 1) X.1 X.2.1 dL_isTold_187 (by decide) ?_
                          have h595 : (er_expected n x6 r 1) = 0 := (by subst ex502; subst ex501; subst ex36; subst ex30; subst ex24; subst ex18; subst ex12; subst ex6; rw [hjq, er_expected, if_pos (hlf.idx hjn), if_pos h3]; decide)
                          refine w_calli cn w (w_runV (n := 3) (As := [.int x6, .int r, .int 1]) X cn w (lt17 (by decide)) wC_0 rfl (fun sz => met_of (c_X4_expected l D ca ad E590 (s_slF F L S q (6 + r.toNatClampNeg) mi sp) (s_slipL L q (6 + r.toNatClampNeg)) S n hlt q2 wf2 x6 r 1 0 0 (fun h => (h h595).elim) sz) h595) (bg_V kw_629 kw_391 kw_392 kw_31 kw_393) rfl rfl (by decide +kernel) ⟨(Nat.le_of_ble_eq_true rfl), (Nat.le_of_ble_eq_true rfl)⟩ rfl hl.1 rfl (Nat.le_of_ble_eq_true rfl) dL_isTold_188 ⟨(Nat.zero_le _), (Nat.zero_le _)⟩) (fun r594 u H locs hp w => ?_)
                          obtain ⟨E596, q597⟩ := u
                          obtain ⟨-, rfl, h598⟩ := hp
                          have h598 : q597 = ((s_slF F L S q (6 + r.toNatClampNeg) mi sp), (s_slipL L q (6 + r.toNatClampNeg)), S, n) := h598
                          subst h598
                          refine lv_if_ne (tgt := 198) X.1 X.2.1 dL_isTold_191 (by decide) (fun c599 => ?_) (fun c599 => ?_)
                          ·
                            refine lv_iconst (v := 0) X.1 X.2.1 dL_isTold_198 (by decide) ?_
                            exact vx_ret (w_iret X hr hlk w (by subst ex502; subst ex501; subst ex36; subst ex30; subst ex24; subst ex18; subst ex12; subst ex6; exact ⟨by simp [er_told, h2, h8, h14, h20, h26, h32, h38, h555, h561, h566, h572, h578, h584, h589, h595], by simp only [s_told, eq_false c503, eq_false c504, eq_false c505, eq_false c506, eq_true c553, eq_true c559, eq_true c570, eq_true c576, eq_true c582, eq_true c593, eq_false c599, or_true, true_or, or_self, or_false, false_or, and_true, true_and, and_false, false_and, not_true, not_false_iff, if_true, if_false], rfl⟩) dL_isTold_199 rfl (Nat.zero_le _) (Nat.zero_le _))
                          ·
                            refine lv_iconst (v := 1) X.1 X.2.1 dL_isTold_194 (by decide) ?_
                            refine lv_goto (tgt := 199) X.1 X.2.1 dL_isTold_195 (by decide) ?_
                            exact vx_ret (w_iret X hr hlk w (by subst ex502; subst ex501; subst ex36; subst ex30; subst ex24; subst ex18; subst ex12; subst ex6; exact ⟨by simp [er_told, h2, h8, h14, h20, h26, h32, h38, h555, h561, h566, h572, h578, h584, h589, h595], by simp only [s_told, eq_false c503, eq_false c504, eq_false c505, eq_false c506, eq_true c553, eq_true c559, eq_true c570, eq_true c576, eq_true c582, eq_true c593, eq_true c599, or_true, true_or, or_self, or_false, false_or, and_true, true_and, and_false, false_and, not_true, not_false_iff, if_true, if_false], rfl⟩) dL_isTold_199 rfl (Nat.zero_le _) (Nat.zero_le _))
    ·
      have hE : er_told F L S r mi sp ≠ 0 ∧ exN ((er_slip F L S r mi sp)) = exN (er_told F L S r mi sp) := by subst ex36; subst ex30; subst ex24; subst ex18; subst ex12; subst ex6; simp [er_told, h2, h8, h14, h20, h26, h32, h38, h38]
      have hm' := hm hE.1
      exact x_gone X hlk hnt cn w (xw_runV (n := 3) (As := [.int r, .int mi, .int sp]) X cn w (lt17 (by decide)) wC_0 rfl (fun sz => c_X4_slip l D ca ad E33 F L S n hlt q wf r mi sp 1 6 (fun _ => ⟨Nat.le_refl 1, Nat.le_refl 6⟩) sz) (bg_V kw_601 kw_602 kw_603 kw_31 kw_604) rfl rfl (by decide +kernel) ⟨(Nat.le_of_ble_eq_true rfl), (Nat.le_of_ble_eq_true rfl)⟩ rfl hl.1 rfl (Nat.le_of_ble_eq_true rfl) dL_isTold_58 ⟨hm'.1, hm'.2⟩) (fun st v t hq => by obtain ⟨⟨r, u, -, hp, -⟩, -⟩ := hq; exact h38 hp.1) hE.2 hE.1 (fun u hu => hu) hm rfl rfl
  ·
    have hE : er_told F L S r mi sp ≠ 0 ∧ exN ((er_queue F L r 0)) = exN (er_told F L S r mi sp) := by  simp [er_told, h2, h2, er_queue_1 h2]
    have hm' := hm hE.1
    exact x_gone X hlk hnt cn w (xw_runV (n := 2) (As := [.int r, .int 0]) X cn w (lt17 (by decide)) wC_0 rfl (fun sz => c_X4_queue l D ca ad E F L S n hlt q wf r 0 1 6 (fun _ => ⟨Nat.le_refl 1, Nat.le_refl 6⟩) sz) (bg_V kw_538 kw_372 kw_373 kw_31 kw_374) rfl rfl (by decide +kernel) ⟨(Nat.le_of_ble_eq_true rfl), (Nat.le_of_ble_eq_true rfl)⟩ rfl hl.1 rfl (Nat.le_of_ble_eq_true rfl) dL_isTold_3 ⟨hm'.1, hm'.2⟩) (fun st v t hq => by obtain ⟨⟨r, u, -, hp, -⟩, -⟩ := hq; exact h2 hp.1) hE.2 hE.1 (fun u hu => hu) hm rfl rfl
