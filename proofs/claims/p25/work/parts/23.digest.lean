set_option maxHeartbeats 4000000 in
set_option maxRecDepth 100000 in
theorem lp_X4_digestWithPress {p : Program} {l : Launch} {e : Env} {s : State} {m : MethodId} {args : Array Value} {below : List Frame} {meth : Method} {c : Code} {D : va_G} {ca : Nat → ClassId} {ad : Nat → Nat} {F : Fm} {L : Lm} {S : Sm} {n : Nat} (X : CallFix p m c cX4_digestWithPress 8 s args BG yX4_digestWithPress.cls) (hr : meth.sig.returnType = (some .long)) (hlk : meth.locks = false) (cn : Cn (wA ad n s.heap.size) s) (hlt : l.stackTraces = false) (q : Nat → Nat) (wf : Wf F L S n q) (hful : ∀ o, 6 ≤ o ∧ o < 10 → ∀ k, k < q o → L o k ≠ none) (i : Int32) (hi : erI 3 i = 0) (d0 : Int64) :
    ∀ (d : Nat) (k : Nat) (a : Int64), k + d = q (6 + i.toNatClampNeg) → ∀ (E : Em) (H : Heap) (locs : List Loc), Wd D ca ad (wA ad n s.heap.size) s H locs (E, F, L, S, n) → ∀ (ls : Array Slot), lv_has ls 8 [(7, .int (nI k)), (4, .long a), (6, .int (nI (q (6 + i.toNatClampNeg)))), (0, .ref (ad 0)), (1, .long d0), (3, .int i)] →
      W p l e { frames := 8, cells := 0, slots := 0, locals := 140 } s m args below meth c H locs 0 0 (MQ below (Ql D ca ad n (fun r u => r = s_dQ F L (6 + i.toNatClampNeg) d k a ∧ u.2 = (F, L, S, n)) s.heap.size) args s 0 0 (wA ad n s.heap.size)) (F0 m 49 ls []) := by
  intro d
  induction d with
  | zero =>
    intro k a hkd E H locs w ls hl
    have hs := wf.2.2.1
    have ho := prs_in (in_erI hi)
    obtain ⟨hqo, hq20, hqj⟩ := wf.2.2.2 _ ho
    refine lv_iload X.1 X.2.1 dX4_digestWithPress_49 (lv_at hl 0 rfl) ?_
    refine lv_iload X.1 X.2.1 dX4_digestWithPress_51 (lv_at hl 2 rfl) ?_
    refine lv_icmp_ge (tgt := 79) X.1 X.2.1 dX4_digestWithPress_53 (by decide) (fun c1 => ?_) (fun c1 => ?_)
    ·
      refine lv_lload X.1 X.2.1 dX4_digestWithPress_79 (lv_at hl 1 rfl) ?_
      exact w_lret X hr hlk w (by  exact ⟨rfl, rfl⟩) dX4_digestWithPress_81 (Nat.le_of_ble_eq_true rfl) (Nat.le_of_ble_eq_true rfl)
    ·
      exact absurd ((geN hkd hq20).mpr rfl) c1
  | succ d ih =>
    intro k a hkd E H locs w ls hl
    have hs := wf.2.2.1
    have ho := prs_in (in_erI hi)
    obtain ⟨hqo, hq20, hqj⟩ := wf.2.2.2 _ ho
    refine lv_iload X.1 X.2.1 dX4_digestWithPress_49 (lv_at hl 0 rfl) ?_
    refine lv_iload X.1 X.2.1 dX4_digestWithPress_51 (lv_at hl 2 rfl) ?_
    refine lv_icmp_ge (tgt := 79) X.1 X.2.1 dX4_digestWithPress_53 (by decide) (fun c1 => ?_) (fun c1 => ?_)
    ·
      exact absurd ((geN hkd hq20).mp c1) (by omega)
    ·
      refine lv_lload X.1 X.2.1 dX4_digestWithPress_56 (lv_at hl 1 rfl) ?_
      refine lv_ldc2 (v := 31) X.1 X.2.1 X.2.2.2.1 (X.2.2.2.2 _ kw_272) dX4_digestWithPress_58 ?_
      refine lv_lmul X.1 X.2.1 dX4_digestWithPress_61 ?_
      refine lv_aload_n X.1 X.2.1 dX4_digestWithPress_62 rfl (lv_at hl 3 rfl) ?_
      refine lv_iload_n X.1 X.2.1 dX4_digestWithPress_63 rfl (lv_at hl 5 rfl) ?_
      refine lv_iload X.1 X.2.1 dX4_digestWithPress_64 (lv_at hl 0 rfl) ?_
      have h3 : (er_queue F L i (nI k)) = 0 := (queue_ok hi hqo hq20 (by omega) (hful _ ho k (by omega)))
      refine w_calli cn w (w_runV (n := 2) (As := [.int i, .int (nI k)]) X cn w (lt17 (by decide)) wC_0 rfl (fun sz => met_of (c_X4_queue l D ca ad E F L S n hlt q wf i (nI k) 0 0 (fun h => (h h3).elim) sz) h3) (bg_V kw_371 kw_372 kw_373 kw_31 kw_374) rfl rfl (by decide +kernel) ⟨(Nat.le_of_ble_eq_true rfl), (Nat.le_of_ble_eq_true rfl)⟩ rfl hl.1 rfl (Nat.le_of_ble_eq_true rfl) dX4_digestWithPress_66 ⟨(Nat.le_of_ble_eq_true rfl), (Nat.le_of_ble_eq_true rfl)⟩) (fun r2 u H locs hp w => ?_)
      obtain ⟨E4, q5⟩ := u
      obtain ⟨-, rfl, h6⟩ := hp
      have h6 : q5 = (F, L, S, n) := h6
      subst h6
      refine lv_i2l X.1 X.2.1 dX4_digestWithPress_69 rfl ?_
      refine lv_ladd X.1 X.2.1 dX4_digestWithPress_70 ?_
      refine lv_topl (fun x7 ex7 => ?_)
      refine lv_lstore (lv' := [(4, .long x7), (7, .int (nI k)), (6, .int (nI (q (6 + i.toNatClampNeg)))), (0, .ref (ad 0)), (1, .long d0), (3, .int i)]) X.1 X.2.1 dX4_digestWithPress_71 hl (by decide) rfl (fun ls hl => ?_)
      refine lv_iinc (v := (nI (k + 1))) (lv' := [(7, .int (nI (k + 1))), (4, .long x7), (6, .int (nI (q (6 + i.toNatClampNeg)))), (0, .ref (ad 0)), (1, .long d0), (3, .int i)]) X.1 X.2.1 dX4_digestWithPress_73 hl (k := 1) rfl (nI_1 k) (by decide) rfl (fun ls hl => ?_)
      refine lv_goto (tgt := 49) X.1 X.2.1 dX4_digestWithPress_76 (by decide) ?_
      have hz : s_dQ F L (6 + i.toNatClampNeg) (d + 1) k a = s_dQ F L (6 + i.toNatClampNeg) d (k + 1) x7 := by subst ex7; simp [s_dQ, dn]
      rw [hz]
      exact ih (k + 1) x7 (by omega) E4 H locs w ls (lv_sub hl [0, 1, 2, 3, 4, 5] rfl)

set_option maxHeartbeats 4000000 in
set_option maxRecDepth 100000 in
theorem c_X4_digestWithPress (l : Launch) (D : va_G) (ca : Nat → ClassId) (ad : Nat → Nat) (E : Em) (F : Fm) (L : Lm) (S : Sm) (n : Nat) (hlt : l.stackTraces = false) (q : Nat → Nat) (wf : Wf F L S n q) (hful : ∀ o, 6 ≤ o ∧ o < 10 → ∀ k, k < q o → L o k ≠ none) (i : Int32) (hi : erI 3 i = 0) (d0 : Int64) (sz : Nat) : Met l yX4_digestWithPress (.code yX4_digestWithPress cX4_digestWithPress 8 (some .long) :: BG) { frames := 8, cells := 0, slots := 0, locals := 140 } (Pw D ca ad (E, F, L, S, n) sz [.ref (ad 0), .long d0, .int i]) (Ql D ca ad n (fun r u => r = s_dP F L q (6 + i.toNatClampNeg) d0 ∧ u.2 = (F, L, S, n)) sz) 0 0 (wA ad n sz) := by
  refine open_W (σ := (E, F, L, S, n)) (Qc := Ql D ca ad n (fun r u => r = s_dP F L q (6 + i.toNatClampNeg) d0 ∧ u.2 = (F, L, S, n))) (by decide +kernel) (Nat.le_of_ble_eq_true rfl) ?_
  intro p e s m args below meth c X hr hlk w cn ls hl
  have hl : lv_has ls 8 [(0, .ref (ad 0)), (1, .long d0), (3, .int i)] := hl
  have hs := wf.2.2.1
  refine lv_lload_n X.1 X.2.1 dX4_digestWithPress_0 rfl (lv_at hl 1 rfl) ?_
  refine lv_lstore (lv' := [(4, .long d0), (0, .ref (ad 0)), (1, .long d0), (3, .int i)]) X.1 X.2.1 dX4_digestWithPress_1 hl (by decide) rfl (fun ls hl => ?_)
  refine lv_iconst (v := 0) X.1 X.2.1 dX4_digestWithPress_3 (by decide) ?_
  refine lv_istore (lv' := [(6, .int 0), (4, .long d0), (0, .ref (ad 0)), (1, .long d0), (3, .int i)]) X.1 X.2.1 dX4_digestWithPress_4 hl (by decide) rfl (fun ls hl => ?_)
  refine lv_iload X.1 X.2.1 dX4_digestWithPress_6 (lv_at hl 0 rfl) ?_
  refine lv_bipush (v := 6) X.1 X.2.1 dX4_digestWithPress_8 (by decide) ?_
  refine lv_icmp_gt (tgt := 36) X.1 X.2.1 dX4_digestWithPress_10 (by decide) (fun c1 => ?_) (fun c1 => ?_)
  ·
    exact absurd c1 (by decide)
  ·
    refine lv_lload X.1 X.2.1 dX4_digestWithPress_13 (lv_at hl 1 rfl) ?_
    refine lv_ldc2 (v := 31) X.1 X.2.1 X.2.2.2.1 (X.2.2.2.2 _ kw_272) dX4_digestWithPress_15 ?_
    refine lv_lmul X.1 X.2.1 dX4_digestWithPress_18 ?_
    refine lv_aload_n X.1 X.2.1 dX4_digestWithPress_19 rfl (lv_at hl 2 rfl) ?_
    refine lv_iload_n X.1 X.2.1 dX4_digestWithPress_20 rfl (lv_at hl 4 rfl) ?_
    refine lv_iload X.1 X.2.1 dX4_digestWithPress_21 (lv_at hl 0 rfl) ?_
    have h3 : (er_ofPress i 0) = 0 := (by rw [er_ofPress, if_pos hi]; decide)
    refine w_calli cn w (w_runV (n := 2) (As := [.int i, .int 0]) X cn w (lt17 (by decide)) wC_0 rfl (fun sz => met_of (c_X4_ofPress l D ca ad E F L S n hlt q wf i 0 0 0 (fun h => (h h3).elim) sz) h3) (bg_V kw_357 kw_358 kw_359 kw_31 kw_360) rfl rfl (by decide +kernel) ⟨(Nat.le_of_ble_eq_true rfl), (Nat.le_of_ble_eq_true rfl)⟩ rfl hl.1 rfl (Nat.le_of_ble_eq_true rfl) dX4_digestWithPress_23 ⟨(Nat.le_of_ble_eq_true rfl), (Nat.le_of_ble_eq_true rfl)⟩) (fun r2 u H locs hp w => ?_)
    obtain ⟨E4, q5⟩ := u
    obtain ⟨-, rfl, h6⟩ := hp
    have h6 : q5 = (F, L, S, n) := h6
    subst h6
    refine lv_i2l X.1 X.2.1 dX4_digestWithPress_26 rfl ?_
    refine lv_ladd X.1 X.2.1 dX4_digestWithPress_27 ?_
    refine lv_topl (fun x7 ex7 => ?_)
    refine lv_lstore (lv' := [(4, .long x7), (6, .int 0), (0, .ref (ad 0)), (1, .long d0), (3, .int i)]) X.1 X.2.1 dX4_digestWithPress_28 hl (by decide) rfl (fun ls hl => ?_)
    refine lv_iinc (v := 1) (lv' := [(6, .int 1), (4, .long x7), (0, .ref (ad 0)), (1, .long d0), (3, .int i)]) X.1 X.2.1 dX4_digestWithPress_30 hl (k := 1) rfl (by decide) (by decide) rfl (fun ls hl => ?_)
    refine lv_goto (tgt := 6) X.1 X.2.1 dX4_digestWithPress_33 (by decide) ?_
    refine lv_iload X.1 X.2.1 dX4_digestWithPress_6 (lv_at hl 0 rfl) ?_
    refine lv_bipush (v := 6) X.1 X.2.1 dX4_digestWithPress_8 (by decide) ?_
    refine lv_icmp_gt (tgt := 36) X.1 X.2.1 dX4_digestWithPress_10 (by decide) (fun c8 => ?_) (fun c8 => ?_)
    ·
      exact absurd c8 (by decide)
    ·
      refine lv_lload X.1 X.2.1 dX4_digestWithPress_13 (lv_at hl 1 rfl) ?_
      refine lv_ldc2 (v := 31) X.1 X.2.1 X.2.2.2.1 (X.2.2.2.2 _ kw_272) dX4_digestWithPress_15 ?_
      refine lv_lmul X.1 X.2.1 dX4_digestWithPress_18 ?_
      refine lv_aload_n X.1 X.2.1 dX4_digestWithPress_19 rfl (lv_at hl 2 rfl) ?_
      refine lv_iload_n X.1 X.2.1 dX4_digestWithPress_20 rfl (lv_at hl 4 rfl) ?_
      refine lv_iload X.1 X.2.1 dX4_digestWithPress_21 (lv_at hl 0 rfl) ?_
      have h10 : (er_ofPress i 1) = 0 := (by rw [er_ofPress, if_pos hi]; decide)
      refine w_calli cn w (w_runV (n := 2) (As := [.int i, .int 1]) X cn w (lt17 (by decide)) wC_0 rfl (fun sz => met_of (c_X4_ofPress l D ca ad E4 F L S n hlt q wf i 1 0 0 (fun h => (h h10).elim) sz) h10) (bg_V kw_357 kw_358 kw_359 kw_31 kw_360) rfl rfl (by decide +kernel) ⟨(Nat.le_of_ble_eq_true rfl), (Nat.le_of_ble_eq_true rfl)⟩ rfl hl.1 rfl (Nat.le_of_ble_eq_true rfl) dX4_digestWithPress_23 ⟨(Nat.le_of_ble_eq_true rfl), (Nat.le_of_ble_eq_true rfl)⟩) (fun r9 u H locs hp w => ?_)
      obtain ⟨E11, q12⟩ := u
      obtain ⟨-, rfl, h13⟩ := hp
      have h13 : q12 = (F, L, S, n) := h13
      subst h13
      refine lv_i2l X.1 X.2.1 dX4_digestWithPress_26 rfl ?_
      refine lv_ladd X.1 X.2.1 dX4_digestWithPress_27 ?_
      refine lv_topl (fun x14 ex14 => ?_)
      refine lv_lstore (lv' := [(4, .long x14), (6, .int 1), (0, .ref (ad 0)), (1, .long d0), (3, .int i)]) X.1 X.2.1 dX4_digestWithPress_28 hl (by decide) rfl (fun ls hl => ?_)
      refine lv_iinc (v := 2) (lv' := [(6, .int 2), (4, .long x14), (0, .ref (ad 0)), (1, .long d0), (3, .int i)]) X.1 X.2.1 dX4_digestWithPress_30 hl (k := 1) rfl (by decide) (by decide) rfl (fun ls hl => ?_)
      refine lv_goto (tgt := 6) X.1 X.2.1 dX4_digestWithPress_33 (by decide) ?_
      refine lv_iload X.1 X.2.1 dX4_digestWithPress_6 (lv_at hl 0 rfl) ?_
      refine lv_bipush (v := 6) X.1 X.2.1 dX4_digestWithPress_8 (by decide) ?_
      refine lv_icmp_gt (tgt := 36) X.1 X.2.1 dX4_digestWithPress_10 (by decide) (fun c15 => ?_) (fun c15 => ?_)
      ·
        exact absurd c15 (by decide)
      ·
        refine lv_lload X.1 X.2.1 dX4_digestWithPress_13 (lv_at hl 1 rfl) ?_
        refine lv_ldc2 (v := 31) X.1 X.2.1 X.2.2.2.1 (X.2.2.2.2 _ kw_272) dX4_digestWithPress_15 ?_
        refine lv_lmul X.1 X.2.1 dX4_digestWithPress_18 ?_
        refine lv_aload_n X.1 X.2.1 dX4_digestWithPress_19 rfl (lv_at hl 2 rfl) ?_
        refine lv_iload_n X.1 X.2.1 dX4_digestWithPress_20 rfl (lv_at hl 4 rfl) ?_
        refine lv_iload X.1 X.2.1 dX4_digestWithPress_21 (lv_at hl 0 rfl) ?_
        have h17 : (er_ofPress i 2) = 0 := (by rw [er_ofPress, if_pos hi]; decide)
        refine w_calli cn w (w_runV (n := 2) (As := [.int i, .int 2]) X cn w (lt17 (by decide)) wC_0 rfl (fun sz => met_of (c_X4_ofPress l D ca ad E11 F L S n hlt q wf i 2 0 0 (fun h => (h h17).elim) sz) h17) (bg_V kw_357 kw_358 kw_359 kw_31 kw_360) rfl rfl (by decide +kernel) ⟨(Nat.le_of_ble_eq_true rfl), (Nat.le_of_ble_eq_true rfl)⟩ rfl hl.1 rfl (Nat.le_of_ble_eq_true rfl) dX4_digestWithPress_23 ⟨(Nat.le_of_ble_eq_true rfl), (Nat.le_of_ble_eq_true rfl)⟩) (fun r16 u H locs hp w => ?_)
        obtain ⟨E18, q19⟩ := u
        obtain ⟨-, rfl, h20⟩ := hp
        have h20 : q19 = (F, L, S, n) := h20
        subst h20
        refine lv_i2l X.1 X.2.1 dX4_digestWithPress_26 rfl ?_
        refine lv_ladd X.1 X.2.1 dX4_digestWithPress_27 ?_
        refine lv_topl (fun x21 ex21 => ?_)
        refine lv_lstore (lv' := [(4, .long x21), (6, .int 2), (0, .ref (ad 0)), (1, .long d0), (3, .int i)]) X.1 X.2.1 dX4_digestWithPress_28 hl (by decide) rfl (fun ls hl => ?_)
        refine lv_iinc (v := 3) (lv' := [(6, .int 3), (4, .long x21), (0, .ref (ad 0)), (1, .long d0), (3, .int i)]) X.1 X.2.1 dX4_digestWithPress_30 hl (k := 1) rfl (by decide) (by decide) rfl (fun ls hl => ?_)
        refine lv_goto (tgt := 6) X.1 X.2.1 dX4_digestWithPress_33 (by decide) ?_
        refine lv_iload X.1 X.2.1 dX4_digestWithPress_6 (lv_at hl 0 rfl) ?_
        refine lv_bipush (v := 6) X.1 X.2.1 dX4_digestWithPress_8 (by decide) ?_
        refine lv_icmp_gt (tgt := 36) X.1 X.2.1 dX4_digestWithPress_10 (by decide) (fun c22 => ?_) (fun c22 => ?_)
        ·
          exact absurd c22 (by decide)
        ·
          refine lv_lload X.1 X.2.1 dX4_digestWithPress_13 (lv_at hl 1 rfl) ?_
          refine lv_ldc2 (v := 31) X.1 X.2.1 X.2.2.2.1 (X.2.2.2.2 _ kw_272) dX4_digestWithPress_15 ?_
          refine lv_lmul X.1 X.2.1 dX4_digestWithPress_18 ?_
          refine lv_aload_n X.1 X.2.1 dX4_digestWithPress_19 rfl (lv_at hl 2 rfl) ?_
          refine lv_iload_n X.1 X.2.1 dX4_digestWithPress_20 rfl (lv_at hl 4 rfl) ?_
          refine lv_iload X.1 X.2.1 dX4_digestWithPress_21 (lv_at hl 0 rfl) ?_
          have h24 : (er_ofPress i 3) = 0 := (by rw [er_ofPress, if_pos hi]; decide)
          refine w_calli cn w (w_runV (n := 2) (As := [.int i, .int 3]) X cn w (lt17 (by decide)) wC_0 rfl (fun sz => met_of (c_X4_ofPress l D ca ad E18 F L S n hlt q wf i 3 0 0 (fun h => (h h24).elim) sz) h24) (bg_V kw_357 kw_358 kw_359 kw_31 kw_360) rfl rfl (by decide +kernel) ⟨(Nat.le_of_ble_eq_true rfl), (Nat.le_of_ble_eq_true rfl)⟩ rfl hl.1 rfl (Nat.le_of_ble_eq_true rfl) dX4_digestWithPress_23 ⟨(Nat.le_of_ble_eq_true rfl), (Nat.le_of_ble_eq_true rfl)⟩) (fun r23 u H locs hp w => ?_)
          obtain ⟨E25, q26⟩ := u
          obtain ⟨-, rfl, h27⟩ := hp
          have h27 : q26 = (F, L, S, n) := h27
          subst h27
          refine lv_i2l X.1 X.2.1 dX4_digestWithPress_26 rfl ?_
          refine lv_ladd X.1 X.2.1 dX4_digestWithPress_27 ?_
          refine lv_topl (fun x28 ex28 => ?_)
          refine lv_lstore (lv' := [(4, .long x28), (6, .int 3), (0, .ref (ad 0)), (1, .long d0), (3, .int i)]) X.1 X.2.1 dX4_digestWithPress_28 hl (by decide) rfl (fun ls hl => ?_)
          refine lv_iinc (v := 4) (lv' := [(6, .int 4), (4, .long x28), (0, .ref (ad 0)), (1, .long d0), (3, .int i)]) X.1 X.2.1 dX4_digestWithPress_30 hl (k := 1) rfl (by decide) (by decide) rfl (fun ls hl => ?_)
          refine lv_goto (tgt := 6) X.1 X.2.1 dX4_digestWithPress_33 (by decide) ?_
          refine lv_iload X.1 X.2.1 dX4_digestWithPress_6 (lv_at hl 0 rfl) ?_
          refine lv_bipush (v := 6) X.1 X.2.1 dX4_digestWithPress_8 (by decide) ?_
          refine lv_icmp_gt (tgt := 36) X.1 X.2.1 dX4_digestWithPress_10 (by decide) (fun c29 => ?_) (fun c29 => ?_)
          ·
            exact absurd c29 (by decide)
          ·
            refine lv_lload X.1 X.2.1 dX4_digestWithPress_13 (lv_at hl 1 rfl) ?_
            refine lv_ldc2 (v := 31) X.1 X.2.1 X.2.2.2.1 (X.2.2.2.2 _ kw_272) dX4_digestWithPress_15 ?_
            refine lv_lmul X.1 X.2.1 dX4_digestWithPress_18 ?_
            refine lv_aload_n X.1 X.2.1 dX4_digestWithPress_19 rfl (lv_at hl 2 rfl) ?_
            refine lv_iload_n X.1 X.2.1 dX4_digestWithPress_20 rfl (lv_at hl 4 rfl) ?_
            refine lv_iload X.1 X.2.1 dX4_digestWithPress_21 (lv_at hl 0 rfl) ?_
            have h31 : (er_ofPress i 4) = 0 := (by rw [er_ofPress, if_pos hi]; decide)
            refine w_calli cn w (w_runV (n := 2) (As := [.int i, .int 4]) X cn w (lt17 (by decide)) wC_0 rfl (fun sz => met_of (c_X4_ofPress l D ca ad E25 F L S n hlt q wf i 4 0 0 (fun h => (h h31).elim) sz) h31) (bg_V kw_357 kw_358 kw_359 kw_31 kw_360) rfl rfl (by decide +kernel) ⟨(Nat.le_of_ble_eq_true rfl), (Nat.le_of_ble_eq_true rfl)⟩ rfl hl.1 rfl (Nat.le_of_ble_eq_true rfl) dX4_digestWithPress_23 ⟨(Nat.le_of_ble_eq_true rfl), (Nat.le_of_ble_eq_true rfl)⟩) (fun r30 u H locs hp w => ?_)
            obtain ⟨E32, q33⟩ := u
            obtain ⟨-, rfl, h34⟩ := hp
            have h34 : q33 = (F, L, S, n) := h34
            subst h34
            refine lv_i2l X.1 X.2.1 dX4_digestWithPress_26 rfl ?_
            refine lv_ladd X.1 X.2.1 dX4_digestWithPress_27 ?_
            refine lv_topl (fun x35 ex35 => ?_)
            refine lv_lstore (lv' := [(4, .long x35), (6, .int 4), (0, .ref (ad 0)), (1, .long d0), (3, .int i)]) X.1 X.2.1 dX4_digestWithPress_28 hl (by decide) rfl (fun ls hl => ?_)
            refine lv_iinc (v := 5) (lv' := [(6, .int 5), (4, .long x35), (0, .ref (ad 0)), (1, .long d0), (3, .int i)]) X.1 X.2.1 dX4_digestWithPress_30 hl (k := 1) rfl (by decide) (by decide) rfl (fun ls hl => ?_)
            refine lv_goto (tgt := 6) X.1 X.2.1 dX4_digestWithPress_33 (by decide) ?_
            refine lv_iload X.1 X.2.1 dX4_digestWithPress_6 (lv_at hl 0 rfl) ?_
            refine lv_bipush (v := 6) X.1 X.2.1 dX4_digestWithPress_8 (by decide) ?_
            refine lv_icmp_gt (tgt := 36) X.1 X.2.1 dX4_digestWithPress_10 (by decide) (fun c36 => ?_) (fun c36 => ?_)
            ·
              exact absurd c36 (by decide)
            ·
              refine lv_lload X.1 X.2.1 dX4_digestWithPress_13 (lv_at hl 1 rfl) ?_
              refine lv_ldc2 (v := 31) X.1 X.2.1 X.2.2.2.1 (X.2.2.2.2 _ kw_272) dX4_digestWithPress_15 ?_
              refine lv_lmul X.1 X.2.1 dX4_digestWithPress_18 ?_
              refine lv_aload_n X.1 X.2.1 dX4_digestWithPress_19 rfl (lv_at hl 2 rfl) ?_
              refine lv_iload_n X.1 X.2.1 dX4_digestWithPress_20 rfl (lv_at hl 4 rfl) ?_
              refine lv_iload X.1 X.2.1 dX4_digestWithPress_21 (lv_at hl 0 rfl) ?_
              have h38 : (er_ofPress i 5) = 0 := (by rw [er_ofPress, if_pos hi]; decide)
              refine w_calli cn w (w_runV (n := 2) (As := [.int i, .int 5]) X cn w (lt17 (by decide)) wC_0 rfl (fun sz => met_of (c_X4_ofPress l D ca ad E32 F L S n hlt q wf i 5 0 0 (fun h => (h h38).elim) sz) h38) (bg_V kw_357 kw_358 kw_359 kw_31 kw_360) rfl rfl (by decide +kernel) ⟨(Nat.le_of_ble_eq_true rfl), (Nat.le_of_ble_eq_true rfl)⟩ rfl hl.1 rfl (Nat.le_of_ble_eq_true rfl) dX4_digestWithPress_23 ⟨(Nat.le_of_ble_eq_true rfl), (Nat.le_of_ble_eq_true rfl)⟩) (fun r37 u H locs hp w => ?_)
              obtain ⟨E39, q40⟩ := u
              obtain ⟨-, rfl, h41⟩ := hp
              have h41 : q40 = (F, L, S, n) := h41
              subst h41
              refine lv_i2l X.1 X.2.1 dX4_digestWithPress_26 rfl ?_
              refine lv_ladd X.1 X.2.1 dX4_digestWithPress_27 ?_
              refine lv_topl (fun x42 ex42 => ?_)
              refine lv_lstore (lv' := [(4, .long x42), (6, .int 5), (0, .ref (ad 0)), (1, .long d0), (3, .int i)]) X.1 X.2.1 dX4_digestWithPress_28 hl (by decide) rfl (fun ls hl => ?_)
              refine lv_iinc (v := 6) (lv' := [(6, .int 6), (4, .long x42), (0, .ref (ad 0)), (1, .long d0), (3, .int i)]) X.1 X.2.1 dX4_digestWithPress_30 hl (k := 1) rfl (by decide) (by decide) rfl (fun ls hl => ?_)
              refine lv_goto (tgt := 6) X.1 X.2.1 dX4_digestWithPress_33 (by decide) ?_
              refine lv_iload X.1 X.2.1 dX4_digestWithPress_6 (lv_at hl 0 rfl) ?_
              refine lv_bipush (v := 6) X.1 X.2.1 dX4_digestWithPress_8 (by decide) ?_
              refine lv_icmp_gt (tgt := 36) X.1 X.2.1 dX4_digestWithPress_10 (by decide) (fun c43 => ?_) (fun c43 => ?_)
              ·
                exact absurd c43 (by decide)
              ·
                refine lv_lload X.1 X.2.1 dX4_digestWithPress_13 (lv_at hl 1 rfl) ?_
                refine lv_ldc2 (v := 31) X.1 X.2.1 X.2.2.2.1 (X.2.2.2.2 _ kw_272) dX4_digestWithPress_15 ?_
                refine lv_lmul X.1 X.2.1 dX4_digestWithPress_18 ?_
                refine lv_aload_n X.1 X.2.1 dX4_digestWithPress_19 rfl (lv_at hl 2 rfl) ?_
                refine lv_iload_n X.1 X.2.1 dX4_digestWithPress_20 rfl (lv_at hl 4 rfl) ?_
                refine lv_iload X.1 X.2.1 dX4_digestWithPress_21 (lv_at hl 0 rfl) ?_
                have h45 : (er_ofPress i 6) = 0 := (by rw [er_ofPress, if_pos hi]; decide)
                refine w_calli cn w (w_runV (n := 2) (As := [.int i, .int 6]) X cn w (lt17 (by decide)) wC_0 rfl (fun sz => met_of (c_X4_ofPress l D ca ad E39 F L S n hlt q wf i 6 0 0 (fun h => (h h45).elim) sz) h45) (bg_V kw_357 kw_358 kw_359 kw_31 kw_360) rfl rfl (by decide +kernel) ⟨(Nat.le_of_ble_eq_true rfl), (Nat.le_of_ble_eq_true rfl)⟩ rfl hl.1 rfl (Nat.le_of_ble_eq_true rfl) dX4_digestWithPress_23 ⟨(Nat.le_of_ble_eq_true rfl), (Nat.le_of_ble_eq_true rfl)⟩) (fun r44 u H locs hp w => ?_)
                obtain ⟨E46, q47⟩ := u
                obtain ⟨-, rfl, h48⟩ := hp
                have h48 : q47 = (F, L, S, n) := h48
                subst h48
                refine lv_i2l X.1 X.2.1 dX4_digestWithPress_26 rfl ?_
                refine lv_ladd X.1 X.2.1 dX4_digestWithPress_27 ?_
                refine lv_topl (fun x49 ex49 => ?_)
                refine lv_lstore (lv' := [(4, .long x49), (6, .int 6), (0, .ref (ad 0)), (1, .long d0), (3, .int i)]) X.1 X.2.1 dX4_digestWithPress_28 hl (by decide) rfl (fun ls hl => ?_)
                refine lv_iinc (v := 7) (lv' := [(6, .int 7), (4, .long x49), (0, .ref (ad 0)), (1, .long d0), (3, .int i)]) X.1 X.2.1 dX4_digestWithPress_30 hl (k := 1) rfl (by decide) (by decide) rfl (fun ls hl => ?_)
                refine lv_goto (tgt := 6) X.1 X.2.1 dX4_digestWithPress_33 (by decide) ?_
                refine lv_iload X.1 X.2.1 dX4_digestWithPress_6 (lv_at hl 0 rfl) ?_
                refine lv_bipush (v := 6) X.1 X.2.1 dX4_digestWithPress_8 (by decide) ?_
                refine lv_icmp_gt (tgt := 36) X.1 X.2.1 dX4_digestWithPress_10 (by decide) (fun c50 => ?_) (fun c50 => ?_)
                ·
                  refine lv_aload_n X.1 X.2.1 dX4_digestWithPress_36 rfl (lv_at hl 2 rfl) ?_
                  refine lv_iload_n X.1 X.2.1 dX4_digestWithPress_37 rfl (lv_at hl 4 rfl) ?_
                  have h52 : (erI 3 i) = 0 := hi
                  refine w_callr cn w (w_runV (n := 1) (As := [.int i]) X cn w (lt17 (by decide)) wC_0 rfl (fun sz => met_of (c_X4_pressOf l D ca ad E46 F L S n hlt i 0 0 (fun h => (h h52).elim) sz) h52) (bg_V kw_361 kw_363 kw_15 kw_31 kw_364) rfl rfl (by decide +kernel) ⟨(Nat.le_of_ble_eq_true rfl), (Nat.le_of_ble_eq_true rfl)⟩ rfl hl.1 rfl (Nat.le_of_ble_eq_true rfl) dX4_digestWithPress_38 ⟨(Nat.le_of_ble_eq_true rfl), (Nat.le_of_ble_eq_true rfl)⟩) (fun r51 u H locs hp w => ?_)
                  obtain ⟨-, rfl, rfl⟩ := hp
                  refine W.eq (g2 := F0 m 41 ls [.ref (ad (6 + i.toNatClampNeg))]) rfl ?_
                  refine gn_R X cn w (prs_in (in_erI h52)) 6 (by decide) (v := .int (F (6 + i.toNatClampNeg) 6)) rfl kw_100 dX4_digestWithPress_41 ?_
                  refine lv_topi (fun x53 ex53 => ?_)
                  refine lv_istore (lv' := [(6, .int x53), (4, .long x49), (0, .ref (ad 0)), (1, .long d0), (3, .int i)]) X.1 X.2.1 dX4_digestWithPress_44 hl (by decide) rfl (fun ls hl => ?_)
                  refine lv_iconst (v := 0) X.1 X.2.1 dX4_digestWithPress_46 (by decide) ?_
                  refine lv_istore (lv' := [(7, .int 0), (6, .int x53), (4, .long x49), (0, .ref (ad 0)), (1, .long d0), (3, .int i)]) X.1 X.2.1 dX4_digestWithPress_47 hl (by decide) rfl (fun ls hl => ?_)
                  subst ex53; subst ex49; subst ex42; subst ex35; subst ex28; subst ex21; subst ex14; subst ex7;
                  rw [(wf.2.2.2 _ (prs_in (in_erI hi))).1] at hl
                  exact lp_X4_digestWithPress X hr hlk cn hlt q wf hful i hi d0 (q (6 + i.toNatClampNeg)) 0 _ (by omega) E46 _ _ w ls (lv_sub hl [0, 2, 1, 3, 4, 5] rfl)
                ·
                  exact absurd (by decide) c50

set_option maxHeartbeats 4000000 in
set_option maxRecDepth 100000 in
theorem c_X4_digestWithJob (l : Launch) (D : va_G) (ca : Nat → ClassId) (ad : Nat → Nat) (E : Em) (F : Fm) (L : Lm) (S : Sm) (n : Nat) (hlt : l.stackTraces = false) (q : Nat → Nat) (wf : Wf F L S n q) (i : Int32) (hi : erI n i = 0) (d0 : Int64) (sz : Nat) : Met l yX4_digestWithJob (.code yX4_digestWithJob cX4_digestWithJob 8 (some .long) :: BG) { frames := 8, cells := 0, slots := 0, locals := 144 } (Pw D ca ad (E, F, L, S, n) sz [.ref (ad 0), .long d0, .int i]) (Ql D ca ad n (fun r u => r = s_dJ F S i.toNatClampNeg d0 ∧ u.2 = (F, L, S, n)) sz) 0 0 (wA ad n sz) := by
  refine open_W (σ := (E, F, L, S, n)) (Qc := Ql D ca ad n (fun r u => r = s_dJ F S i.toNatClampNeg d0 ∧ u.2 = (F, L, S, n))) (by decide +kernel) (Nat.le_of_ble_eq_true rfl) ?_
  intro p e s m args below meth c X hr hlk w cn ls hl
  have hl : lv_has ls 8 [(0, .ref (ad 0)), (1, .long d0), (3, .int i)] := hl
  have hs := wf.2.2.1
  refine lv_lload_n X.1 X.2.1 dX4_digestWithJob_0 rfl (lv_at hl 1 rfl) ?_
  refine lv_lstore (lv' := [(4, .long d0), (0, .ref (ad 0)), (1, .long d0), (3, .int i)]) X.1 X.2.1 dX4_digestWithJob_1 hl (by decide) rfl (fun ls hl => ?_)
  refine lv_iconst (v := 0) X.1 X.2.1 dX4_digestWithJob_3 (by decide) ?_
  refine lv_istore (lv' := [(6, .int 0), (4, .long d0), (0, .ref (ad 0)), (1, .long d0), (3, .int i)]) X.1 X.2.1 dX4_digestWithJob_4 hl (by decide) rfl (fun ls hl => ?_)
  refine lv_iload X.1 X.2.1 dX4_digestWithJob_6 (lv_at hl 0 rfl) ?_
  refine lv_bipush (v := 12) X.1 X.2.1 dX4_digestWithJob_8 (by decide) ?_
  refine lv_icmp_gt (tgt := 36) X.1 X.2.1 dX4_digestWithJob_10 (by decide) (fun c1 => ?_) (fun c1 => ?_)
  ·
    exact absurd c1 (by decide)
  ·
    refine lv_lload X.1 X.2.1 dX4_digestWithJob_13 (lv_at hl 1 rfl) ?_
    refine lv_ldc2 (v := 31) X.1 X.2.1 X.2.2.2.1 (X.2.2.2.2 _ kw_272) dX4_digestWithJob_15 ?_
    refine lv_lmul X.1 X.2.1 dX4_digestWithJob_18 ?_
    refine lv_aload_n X.1 X.2.1 dX4_digestWithJob_19 rfl (lv_at hl 2 rfl) ?_
    refine lv_iload_n X.1 X.2.1 dX4_digestWithJob_20 rfl (lv_at hl 4 rfl) ?_
    refine lv_iload X.1 X.2.1 dX4_digestWithJob_21 (lv_at hl 0 rfl) ?_
    have h3 : (er_ofJob n i 0) = 0 := (by rw [er_ofJob, if_pos hi]; decide)
    refine w_calli cn w (w_runV (n := 2) (As := [.int i, .int 0]) X cn w (lt17 (by decide)) wC_0 rfl (fun sz => met_of (c_X4_ofJob l D ca ad E F L S n hlt q wf i 0 0 0 (fun h => (h h3).elim) sz) h3) (bg_V kw_380 kw_381 kw_382 kw_31 kw_383) rfl rfl (by decide +kernel) ⟨(Nat.le_of_ble_eq_true rfl), (Nat.le_of_ble_eq_true rfl)⟩ rfl hl.1 rfl (Nat.le_of_ble_eq_true rfl) dX4_digestWithJob_23 ⟨(Nat.le_of_ble_eq_true rfl), (Nat.le_of_ble_eq_true rfl)⟩) (fun r2 u H locs hp w => ?_)
    obtain ⟨E4, q5⟩ := u
    obtain ⟨-, rfl, h6⟩ := hp
    have h6 : q5 = (F, L, S, n) := h6
    subst h6
    refine lv_i2l X.1 X.2.1 dX4_digestWithJob_26 rfl ?_
    refine lv_ladd X.1 X.2.1 dX4_digestWithJob_27 ?_
    refine lv_topl (fun x7 ex7 => ?_)
    refine lv_lstore (lv' := [(4, .long x7), (6, .int 0), (0, .ref (ad 0)), (1, .long d0), (3, .int i)]) X.1 X.2.1 dX4_digestWithJob_28 hl (by decide) rfl (fun ls hl => ?_)
    refine lv_iinc (v := 1) (lv' := [(6, .int 1), (4, .long x7), (0, .ref (ad 0)), (1, .long d0), (3, .int i)]) X.1 X.2.1 dX4_digestWithJob_30 hl (k := 1) rfl (by decide) (by decide) rfl (fun ls hl => ?_)
    refine lv_goto (tgt := 6) X.1 X.2.1 dX4_digestWithJob_33 (by decide) ?_
    refine lv_iload X.1 X.2.1 dX4_digestWithJob_6 (lv_at hl 0 rfl) ?_
    refine lv_bipush (v := 12) X.1 X.2.1 dX4_digestWithJob_8 (by decide) ?_
    refine lv_icmp_gt (tgt := 36) X.1 X.2.1 dX4_digestWithJob_10 (by decide) (fun c8 => ?_) (fun c8 => ?_)
    ·
      exact absurd c8 (by decide)
    ·
      refine lv_lload X.1 X.2.1 dX4_digestWithJob_13 (lv_at hl 1 rfl) ?_
      refine lv_ldc2 (v := 31) X.1 X.2.1 X.2.2.2.1 (X.2.2.2.2 _ kw_272) dX4_digestWithJob_15 ?_
      refine lv_lmul X.1 X.2.1 dX4_digestWithJob_18 ?_
      refine lv_aload_n X.1 X.2.1 dX4_digestWithJob_19 rfl (lv_at hl 2 rfl) ?_
      refine lv_iload_n X.1 X.2.1 dX4_digestWithJob_20 rfl (lv_at hl 4 rfl) ?_
      refine lv_iload X.1 X.2.1 dX4_digestWithJob_21 (lv_at hl 0 rfl) ?_
      have h10 : (er_ofJob n i 1) = 0 := (by rw [er_ofJob, if_pos hi]; decide)
      refine w_calli cn w (w_runV (n := 2) (As := [.int i, .int 1]) X cn w (lt17 (by decide)) wC_0 rfl (fun sz => met_of (c_X4_ofJob l D ca ad E4 F L S n hlt q wf i 1 0 0 (fun h => (h h10).elim) sz) h10) (bg_V kw_380 kw_381 kw_382 kw_31 kw_383) rfl rfl (by decide +kernel) ⟨(Nat.le_of_ble_eq_true rfl), (Nat.le_of_ble_eq_true rfl)⟩ rfl hl.1 rfl (Nat.le_of_ble_eq_true rfl) dX4_digestWithJob_23 ⟨(Nat.le_of_ble_eq_true rfl), (Nat.le_of_ble_eq_true rfl)⟩) (fun r9 u H locs hp w => ?_)
      obtain ⟨E11, q12⟩ := u
      obtain ⟨-, rfl, h13⟩ := hp
      have h13 : q12 = (F, L, S, n) := h13
      subst h13
      refine lv_i2l X.1 X.2.1 dX4_digestWithJob_26 rfl ?_
      refine lv_ladd X.1 X.2.1 dX4_digestWithJob_27 ?_
      refine lv_topl (fun x14 ex14 => ?_)
      refine lv_lstore (lv' := [(4, .long x14), (6, .int 1), (0, .ref (ad 0)), (1, .long d0), (3, .int i)]) X.1 X.2.1 dX4_digestWithJob_28 hl (by decide) rfl (fun ls hl => ?_)
      refine lv_iinc (v := 2) (lv' := [(6, .int 2), (4, .long x14), (0, .ref (ad 0)), (1, .long d0), (3, .int i)]) X.1 X.2.1 dX4_digestWithJob_30 hl (k := 1) rfl (by decide) (by decide) rfl (fun ls hl => ?_)
      refine lv_goto (tgt := 6) X.1 X.2.1 dX4_digestWithJob_33 (by decide) ?_
      refine lv_iload X.1 X.2.1 dX4_digestWithJob_6 (lv_at hl 0 rfl) ?_
      refine lv_bipush (v := 12) X.1 X.2.1 dX4_digestWithJob_8 (by decide) ?_
      refine lv_icmp_gt (tgt := 36) X.1 X.2.1 dX4_digestWithJob_10 (by decide) (fun c15 => ?_) (fun c15 => ?_)
      ·
        exact absurd c15 (by decide)
      ·
        refine lv_lload X.1 X.2.1 dX4_digestWithJob_13 (lv_at hl 1 rfl) ?_
        refine lv_ldc2 (v := 31) X.1 X.2.1 X.2.2.2.1 (X.2.2.2.2 _ kw_272) dX4_digestWithJob_15 ?_
        refine lv_lmul X.1 X.2.1 dX4_digestWithJob_18 ?_
        refine lv_aload_n X.1 X.2.1 dX4_digestWithJob_19 rfl (lv_at hl 2 rfl) ?_
        refine lv_iload_n X.1 X.2.1 dX4_digestWithJob_20 rfl (lv_at hl 4 rfl) ?_
        refine lv_iload X.1 X.2.1 dX4_digestWithJob_21 (lv_at hl 0 rfl) ?_
        have h17 : (er_ofJob n i 2) = 0 := (by rw [er_ofJob, if_pos hi]; decide)
        refine w_calli cn w (w_runV (n := 2) (As := [.int i, .int 2]) X cn w (lt17 (by decide)) wC_0 rfl (fun sz => met_of (c_X4_ofJob l D ca ad E11 F L S n hlt q wf i 2 0 0 (fun h => (h h17).elim) sz) h17) (bg_V kw_380 kw_381 kw_382 kw_31 kw_383) rfl rfl (by decide +kernel) ⟨(Nat.le_of_ble_eq_true rfl), (Nat.le_of_ble_eq_true rfl)⟩ rfl hl.1 rfl (Nat.le_of_ble_eq_true rfl) dX4_digestWithJob_23 ⟨(Nat.le_of_ble_eq_true rfl), (Nat.le_of_ble_eq_true rfl)⟩) (fun r16 u H locs hp w => ?_)
        obtain ⟨E18, q19⟩ := u
        obtain ⟨-, rfl, h20⟩ := hp
        have h20 : q19 = (F, L, S, n) := h20
        subst h20
        refine lv_i2l X.1 X.2.1 dX4_digestWithJob_26 rfl ?_
        refine lv_ladd X.1 X.2.1 dX4_digestWithJob_27 ?_
        refine lv_topl (fun x21 ex21 => ?_)
        refine lv_lstore (lv' := [(4, .long x21), (6, .int 2), (0, .ref (ad 0)), (1, .long d0), (3, .int i)]) X.1 X.2.1 dX4_digestWithJob_28 hl (by decide) rfl (fun ls hl => ?_)
        refine lv_iinc (v := 3) (lv' := [(6, .int 3), (4, .long x21), (0, .ref (ad 0)), (1, .long d0), (3, .int i)]) X.1 X.2.1 dX4_digestWithJob_30 hl (k := 1) rfl (by decide) (by decide) rfl (fun ls hl => ?_)
        refine lv_goto (tgt := 6) X.1 X.2.1 dX4_digestWithJob_33 (by decide) ?_
        refine lv_iload X.1 X.2.1 dX4_digestWithJob_6 (lv_at hl 0 rfl) ?_
        refine lv_bipush (v := 12) X.1 X.2.1 dX4_digestWithJob_8 (by decide) ?_
        refine lv_icmp_gt (tgt := 36) X.1 X.2.1 dX4_digestWithJob_10 (by decide) (fun c22 => ?_) (fun c22 => ?_)
        ·
          exact absurd c22 (by decide)
        ·
          refine lv_lload X.1 X.2.1 dX4_digestWithJob_13 (lv_at hl 1 rfl) ?_
          refine lv_ldc2 (v := 31) X.1 X.2.1 X.2.2.2.1 (X.2.2.2.2 _ kw_272) dX4_digestWithJob_15 ?_
          refine lv_lmul X.1 X.2.1 dX4_digestWithJob_18 ?_
          refine lv_aload_n X.1 X.2.1 dX4_digestWithJob_19 rfl (lv_at hl 2 rfl) ?_
          refine lv_iload_n X.1 X.2.1 dX4_digestWithJob_20 rfl (lv_at hl 4 rfl) ?_
          refine lv_iload X.1 X.2.1 dX4_digestWithJob_21 (lv_at hl 0 rfl) ?_
          have h24 : (er_ofJob n i 3) = 0 := (by rw [er_ofJob, if_pos hi]; decide)
          refine w_calli cn w (w_runV (n := 2) (As := [.int i, .int 3]) X cn w (lt17 (by decide)) wC_0 rfl (fun sz => met_of (c_X4_ofJob l D ca ad E18 F L S n hlt q wf i 3 0 0 (fun h => (h h24).elim) sz) h24) (bg_V kw_380 kw_381 kw_382 kw_31 kw_383) rfl rfl (by decide +kernel) ⟨(Nat.le_of_ble_eq_true rfl), (Nat.le_of_ble_eq_true rfl)⟩ rfl hl.1 rfl (Nat.le_of_ble_eq_true rfl) dX4_digestWithJob_23 ⟨(Nat.le_of_ble_eq_true rfl), (Nat.le_of_ble_eq_true rfl)⟩) (fun r23 u H locs hp w => ?_)
          obtain ⟨E25, q26⟩ := u
          obtain ⟨-, rfl, h27⟩ := hp
          have h27 : q26 = (F, L, S, n) := h27
          subst h27
          refine lv_i2l X.1 X.2.1 dX4_digestWithJob_26 rfl ?_
          refine lv_ladd X.1 X.2.1 dX4_digestWithJob_27 ?_
          refine lv_topl (fun x28 ex28 => ?_)
          refine lv_lstore (lv' := [(4, .long x28), (6, .int 3), (0, .ref (ad 0)), (1, .long d0), (3, .int i)]) X.1 X.2.1 dX4_digestWithJob_28 hl (by decide) rfl (fun ls hl => ?_)
          refine lv_iinc (v := 4) (lv' := [(6, .int 4), (4, .long x28), (0, .ref (ad 0)), (1, .long d0), (3, .int i)]) X.1 X.2.1 dX4_digestWithJob_30 hl (k := 1) rfl (by decide) (by decide) rfl (fun ls hl => ?_)
          refine lv_goto (tgt := 6) X.1 X.2.1 dX4_digestWithJob_33 (by decide) ?_
          refine lv_iload X.1 X.2.1 dX4_digestWithJob_6 (lv_at hl 0 rfl) ?_
          refine lv_bipush (v := 12) X.1 X.2.1 dX4_digestWithJob_8 (by decide) ?_
          refine lv_icmp_gt (tgt := 36) X.1 X.2.1 dX4_digestWithJob_10 (by decide) (fun c29 => ?_) (fun c29 => ?_)
          ·
            exact absurd c29 (by decide)
          ·
            refine lv_lload X.1 X.2.1 dX4_digestWithJob_13 (lv_at hl 1 rfl) ?_
            refine lv_ldc2 (v := 31) X.1 X.2.1 X.2.2.2.1 (X.2.2.2.2 _ kw_272) dX4_digestWithJob_15 ?_
            refine lv_lmul X.1 X.2.1 dX4_digestWithJob_18 ?_
            refine lv_aload_n X.1 X.2.1 dX4_digestWithJob_19 rfl (lv_at hl 2 rfl) ?_
            refine lv_iload_n X.1 X.2.1 dX4_digestWithJob_20 rfl (lv_at hl 4 rfl) ?_
            refine lv_iload X.1 X.2.1 dX4_digestWithJob_21 (lv_at hl 0 rfl) ?_
            have h31 : (er_ofJob n i 4) = 0 := (by rw [er_ofJob, if_pos hi]; decide)
            refine w_calli cn w (w_runV (n := 2) (As := [.int i, .int 4]) X cn w (lt17 (by decide)) wC_0 rfl (fun sz => met_of (c_X4_ofJob l D ca ad E25 F L S n hlt q wf i 4 0 0 (fun h => (h h31).elim) sz) h31) (bg_V kw_380 kw_381 kw_382 kw_31 kw_383) rfl rfl (by decide +kernel) ⟨(Nat.le_of_ble_eq_true rfl), (Nat.le_of_ble_eq_true rfl)⟩ rfl hl.1 rfl (Nat.le_of_ble_eq_true rfl) dX4_digestWithJob_23 ⟨(Nat.le_of_ble_eq_true rfl), (Nat.le_of_ble_eq_true rfl)⟩) (fun r30 u H locs hp w => ?_)
            obtain ⟨E32, q33⟩ := u
            obtain ⟨-, rfl, h34⟩ := hp
            have h34 : q33 = (F, L, S, n) := h34
            subst h34
            refine lv_i2l X.1 X.2.1 dX4_digestWithJob_26 rfl ?_
            refine lv_ladd X.1 X.2.1 dX4_digestWithJob_27 ?_
            refine lv_topl (fun x35 ex35 => ?_)
            refine lv_lstore (lv' := [(4, .long x35), (6, .int 4), (0, .ref (ad 0)), (1, .long d0), (3, .int i)]) X.1 X.2.1 dX4_digestWithJob_28 hl (by decide) rfl (fun ls hl => ?_)
            refine lv_iinc (v := 5) (lv' := [(6, .int 5), (4, .long x35), (0, .ref (ad 0)), (1, .long d0), (3, .int i)]) X.1 X.2.1 dX4_digestWithJob_30 hl (k := 1) rfl (by decide) (by decide) rfl (fun ls hl => ?_)
            refine lv_goto (tgt := 6) X.1 X.2.1 dX4_digestWithJob_33 (by decide) ?_
            refine lv_iload X.1 X.2.1 dX4_digestWithJob_6 (lv_at hl 0 rfl) ?_
            refine lv_bipush (v := 12) X.1 X.2.1 dX4_digestWithJob_8 (by decide) ?_
            refine lv_icmp_gt (tgt := 36) X.1 X.2.1 dX4_digestWithJob_10 (by decide) (fun c36 => ?_) (fun c36 => ?_)
            ·
              exact absurd c36 (by decide)
            ·
              refine lv_lload X.1 X.2.1 dX4_digestWithJob_13 (lv_at hl 1 rfl) ?_
              refine lv_ldc2 (v := 31) X.1 X.2.1 X.2.2.2.1 (X.2.2.2.2 _ kw_272) dX4_digestWithJob_15 ?_
              refine lv_lmul X.1 X.2.1 dX4_digestWithJob_18 ?_
              refine lv_aload_n X.1 X.2.1 dX4_digestWithJob_19 rfl (lv_at hl 2 rfl) ?_
              refine lv_iload_n X.1 X.2.1 dX4_digestWithJob_20 rfl (lv_at hl 4 rfl) ?_
              refine lv_iload X.1 X.2.1 dX4_digestWithJob_21 (lv_at hl 0 rfl) ?_
              have h38 : (er_ofJob n i 5) = 0 := (by rw [er_ofJob, if_pos hi]; decide)
              refine w_calli cn w (w_runV (n := 2) (As := [.int i, .int 5]) X cn w (lt17 (by decide)) wC_0 rfl (fun sz => met_of (c_X4_ofJob l D ca ad E32 F L S n hlt q wf i 5 0 0 (fun h => (h h38).elim) sz) h38) (bg_V kw_380 kw_381 kw_382 kw_31 kw_383) rfl rfl (by decide +kernel) ⟨(Nat.le_of_ble_eq_true rfl), (Nat.le_of_ble_eq_true rfl)⟩ rfl hl.1 rfl (Nat.le_of_ble_eq_true rfl) dX4_digestWithJob_23 ⟨(Nat.le_of_ble_eq_true rfl), (Nat.le_of_ble_eq_true rfl)⟩) (fun r37 u H locs hp w => ?_)
              obtain ⟨E39, q40⟩ := u
              obtain ⟨-, rfl, h41⟩ := hp
              have h41 : q40 = (F, L, S, n) := h41
              subst h41
              refine lv_i2l X.1 X.2.1 dX4_digestWithJob_26 rfl ?_
              refine lv_ladd X.1 X.2.1 dX4_digestWithJob_27 ?_
              refine lv_topl (fun x42 ex42 => ?_)
              refine lv_lstore (lv' := [(4, .long x42), (6, .int 5), (0, .ref (ad 0)), (1, .long d0), (3, .int i)]) X.1 X.2.1 dX4_digestWithJob_28 hl (by decide) rfl (fun ls hl => ?_)
              refine lv_iinc (v := 6) (lv' := [(6, .int 6), (4, .long x42), (0, .ref (ad 0)), (1, .long d0), (3, .int i)]) X.1 X.2.1 dX4_digestWithJob_30 hl (k := 1) rfl (by decide) (by decide) rfl (fun ls hl => ?_)
              refine lv_goto (tgt := 6) X.1 X.2.1 dX4_digestWithJob_33 (by decide) ?_
              refine lv_iload X.1 X.2.1 dX4_digestWithJob_6 (lv_at hl 0 rfl) ?_
              refine lv_bipush (v := 12) X.1 X.2.1 dX4_digestWithJob_8 (by decide) ?_
              refine lv_icmp_gt (tgt := 36) X.1 X.2.1 dX4_digestWithJob_10 (by decide) (fun c43 => ?_) (fun c43 => ?_)
              ·
                exact absurd c43 (by decide)
              ·
                refine lv_lload X.1 X.2.1 dX4_digestWithJob_13 (lv_at hl 1 rfl) ?_
                refine lv_ldc2 (v := 31) X.1 X.2.1 X.2.2.2.1 (X.2.2.2.2 _ kw_272) dX4_digestWithJob_15 ?_
                refine lv_lmul X.1 X.2.1 dX4_digestWithJob_18 ?_
                refine lv_aload_n X.1 X.2.1 dX4_digestWithJob_19 rfl (lv_at hl 2 rfl) ?_
                refine lv_iload_n X.1 X.2.1 dX4_digestWithJob_20 rfl (lv_at hl 4 rfl) ?_
                refine lv_iload X.1 X.2.1 dX4_digestWithJob_21 (lv_at hl 0 rfl) ?_
                have h45 : (er_ofJob n i 6) = 0 := (by rw [er_ofJob, if_pos hi]; decide)
                refine w_calli cn w (w_runV (n := 2) (As := [.int i, .int 6]) X cn w (lt17 (by decide)) wC_0 rfl (fun sz => met_of (c_X4_ofJob l D ca ad E39 F L S n hlt q wf i 6 0 0 (fun h => (h h45).elim) sz) h45) (bg_V kw_380 kw_381 kw_382 kw_31 kw_383) rfl rfl (by decide +kernel) ⟨(Nat.le_of_ble_eq_true rfl), (Nat.le_of_ble_eq_true rfl)⟩ rfl hl.1 rfl (Nat.le_of_ble_eq_true rfl) dX4_digestWithJob_23 ⟨(Nat.le_of_ble_eq_true rfl), (Nat.le_of_ble_eq_true rfl)⟩) (fun r44 u H locs hp w => ?_)
                obtain ⟨E46, q47⟩ := u
                obtain ⟨-, rfl, h48⟩ := hp
                have h48 : q47 = (F, L, S, n) := h48
                subst h48
                refine lv_i2l X.1 X.2.1 dX4_digestWithJob_26 rfl ?_
                refine lv_ladd X.1 X.2.1 dX4_digestWithJob_27 ?_
                refine lv_topl (fun x49 ex49 => ?_)
                refine lv_lstore (lv' := [(4, .long x49), (6, .int 6), (0, .ref (ad 0)), (1, .long d0), (3, .int i)]) X.1 X.2.1 dX4_digestWithJob_28 hl (by decide) rfl (fun ls hl => ?_)
                refine lv_iinc (v := 7) (lv' := [(6, .int 7), (4, .long x49), (0, .ref (ad 0)), (1, .long d0), (3, .int i)]) X.1 X.2.1 dX4_digestWithJob_30 hl (k := 1) rfl (by decide) (by decide) rfl (fun ls hl => ?_)
                refine lv_goto (tgt := 6) X.1 X.2.1 dX4_digestWithJob_33 (by decide) ?_
                refine lv_iload X.1 X.2.1 dX4_digestWithJob_6 (lv_at hl 0 rfl) ?_
                refine lv_bipush (v := 12) X.1 X.2.1 dX4_digestWithJob_8 (by decide) ?_
                refine lv_icmp_gt (tgt := 36) X.1 X.2.1 dX4_digestWithJob_10 (by decide) (fun c50 => ?_) (fun c50 => ?_)
                ·
                  exact absurd c50 (by decide)
                ·
                  refine lv_lload X.1 X.2.1 dX4_digestWithJob_13 (lv_at hl 1 rfl) ?_
                  refine lv_ldc2 (v := 31) X.1 X.2.1 X.2.2.2.1 (X.2.2.2.2 _ kw_272) dX4_digestWithJob_15 ?_
                  refine lv_lmul X.1 X.2.1 dX4_digestWithJob_18 ?_
                  refine lv_aload_n X.1 X.2.1 dX4_digestWithJob_19 rfl (lv_at hl 2 rfl) ?_
                  refine lv_iload_n X.1 X.2.1 dX4_digestWithJob_20 rfl (lv_at hl 4 rfl) ?_
                  refine lv_iload X.1 X.2.1 dX4_digestWithJob_21 (lv_at hl 0 rfl) ?_
                  have h52 : (er_ofJob n i 7) = 0 := (by rw [er_ofJob, if_pos hi]; decide)
                  refine w_calli cn w (w_runV (n := 2) (As := [.int i, .int 7]) X cn w (lt17 (by decide)) wC_0 rfl (fun sz => met_of (c_X4_ofJob l D ca ad E46 F L S n hlt q wf i 7 0 0 (fun h => (h h52).elim) sz) h52) (bg_V kw_380 kw_381 kw_382 kw_31 kw_383) rfl rfl (by decide +kernel) ⟨(Nat.le_of_ble_eq_true rfl), (Nat.le_of_ble_eq_true rfl)⟩ rfl hl.1 rfl (Nat.le_of_ble_eq_true rfl) dX4_digestWithJob_23 ⟨(Nat.le_of_ble_eq_true rfl), (Nat.le_of_ble_eq_true rfl)⟩) (fun r51 u H locs hp w => ?_)
                  obtain ⟨E53, q54⟩ := u
                  obtain ⟨-, rfl, h55⟩ := hp
                  have h55 : q54 = (F, L, S, n) := h55
                  subst h55
                  refine lv_i2l X.1 X.2.1 dX4_digestWithJob_26 rfl ?_
                  refine lv_ladd X.1 X.2.1 dX4_digestWithJob_27 ?_
                  refine lv_topl (fun x56 ex56 => ?_)
                  refine lv_lstore (lv' := [(4, .long x56), (6, .int 7), (0, .ref (ad 0)), (1, .long d0), (3, .int i)]) X.1 X.2.1 dX4_digestWithJob_28 hl (by decide) rfl (fun ls hl => ?_)
                  refine lv_iinc (v := 8) (lv' := [(6, .int 8), (4, .long x56), (0, .ref (ad 0)), (1, .long d0), (3, .int i)]) X.1 X.2.1 dX4_digestWithJob_30 hl (k := 1) rfl (by decide) (by decide) rfl (fun ls hl => ?_)
                  refine lv_goto (tgt := 6) X.1 X.2.1 dX4_digestWithJob_33 (by decide) ?_
                  refine lv_iload X.1 X.2.1 dX4_digestWithJob_6 (lv_at hl 0 rfl) ?_
                  refine lv_bipush (v := 12) X.1 X.2.1 dX4_digestWithJob_8 (by decide) ?_
                  refine lv_icmp_gt (tgt := 36) X.1 X.2.1 dX4_digestWithJob_10 (by decide) (fun c57 => ?_) (fun c57 => ?_)
                  ·
                    exact absurd c57 (by decide)
                  ·
                    refine lv_lload X.1 X.2.1 dX4_digestWithJob_13 (lv_at hl 1 rfl) ?_
                    refine lv_ldc2 (v := 31) X.1 X.2.1 X.2.2.2.1 (X.2.2.2.2 _ kw_272) dX4_digestWithJob_15 ?_
                    refine lv_lmul X.1 X.2.1 dX4_digestWithJob_18 ?_
                    refine lv_aload_n X.1 X.2.1 dX4_digestWithJob_19 rfl (lv_at hl 2 rfl) ?_
                    refine lv_iload_n X.1 X.2.1 dX4_digestWithJob_20 rfl (lv_at hl 4 rfl) ?_
                    refine lv_iload X.1 X.2.1 dX4_digestWithJob_21 (lv_at hl 0 rfl) ?_
                    have h59 : (er_ofJob n i 8) = 0 := (by rw [er_ofJob, if_pos hi]; decide)
                    refine w_calli cn w (w_runV (n := 2) (As := [.int i, .int 8]) X cn w (lt17 (by decide)) wC_0 rfl (fun sz => met_of (c_X4_ofJob l D ca ad E53 F L S n hlt q wf i 8 0 0 (fun h => (h h59).elim) sz) h59) (bg_V kw_380 kw_381 kw_382 kw_31 kw_383) rfl rfl (by decide +kernel) ⟨(Nat.le_of_ble_eq_true rfl), (Nat.le_of_ble_eq_true rfl)⟩ rfl hl.1 rfl (Nat.le_of_ble_eq_true rfl) dX4_digestWithJob_23 ⟨(Nat.le_of_ble_eq_true rfl), (Nat.le_of_ble_eq_true rfl)⟩) (fun r58 u H locs hp w => ?_)
                    obtain ⟨E60, q61⟩ := u
                    obtain ⟨-, rfl, h62⟩ := hp
                    have h62 : q61 = (F, L, S, n) := h62
                    subst h62
                    refine lv_i2l X.1 X.2.1 dX4_digestWithJob_26 rfl ?_
                    refine lv_ladd X.1 X.2.1 dX4_digestWithJob_27 ?_
                    refine lv_topl (fun x63 ex63 => ?_)
                    refine lv_lstore (lv' := [(4, .long x63), (6, .int 8), (0, .ref (ad 0)), (1, .long d0), (3, .int i)]) X.1 X.2.1 dX4_digestWithJob_28 hl (by decide) rfl (fun ls hl => ?_)
                    refine lv_iinc (v := 9) (lv' := [(6, .int 9), (4, .long x63), (0, .ref (ad 0)), (1, .long d0), (3, .int i)]) X.1 X.2.1 dX4_digestWithJob_30 hl (k := 1) rfl (by decide) (by decide) rfl (fun ls hl => ?_)
                    refine lv_goto (tgt := 6) X.1 X.2.1 dX4_digestWithJob_33 (by decide) ?_
                    refine lv_iload X.1 X.2.1 dX4_digestWithJob_6 (lv_at hl 0 rfl) ?_
                    refine lv_bipush (v := 12) X.1 X.2.1 dX4_digestWithJob_8 (by decide) ?_
                    refine lv_icmp_gt (tgt := 36) X.1 X.2.1 dX4_digestWithJob_10 (by decide) (fun c64 => ?_) (fun c64 => ?_)
                    ·
                      exact absurd c64 (by decide)
                    ·
                      refine lv_lload X.1 X.2.1 dX4_digestWithJob_13 (lv_at hl 1 rfl) ?_
                      refine lv_ldc2 (v := 31) X.1 X.2.1 X.2.2.2.1 (X.2.2.2.2 _ kw_272) dX4_digestWithJob_15 ?_
                      refine lv_lmul X.1 X.2.1 dX4_digestWithJob_18 ?_
                      refine lv_aload_n X.1 X.2.1 dX4_digestWithJob_19 rfl (lv_at hl 2 rfl) ?_
                      refine lv_iload_n X.1 X.2.1 dX4_digestWithJob_20 rfl (lv_at hl 4 rfl) ?_
                      refine lv_iload X.1 X.2.1 dX4_digestWithJob_21 (lv_at hl 0 rfl) ?_
                      have h66 : (er_ofJob n i 9) = 0 := (by rw [er_ofJob, if_pos hi]; decide)
                      refine w_calli cn w (w_runV (n := 2) (As := [.int i, .int 9]) X cn w (lt17 (by decide)) wC_0 rfl (fun sz => met_of (c_X4_ofJob l D ca ad E60 F L S n hlt q wf i 9 0 0 (fun h => (h h66).elim) sz) h66) (bg_V kw_380 kw_381 kw_382 kw_31 kw_383) rfl rfl (by decide +kernel) ⟨(Nat.le_of_ble_eq_true rfl), (Nat.le_of_ble_eq_true rfl)⟩ rfl hl.1 rfl (Nat.le_of_ble_eq_true rfl) dX4_digestWithJob_23 ⟨(Nat.le_of_ble_eq_true rfl), (Nat.le_of_ble_eq_true rfl)⟩) (fun r65 u H locs hp w => ?_)
                      obtain ⟨E67, q68⟩ := u
                      obtain ⟨-, rfl, h69⟩ := hp
                      have h69 : q68 = (F, L, S, n) := h69
                      subst h69
                      refine lv_i2l X.1 X.2.1 dX4_digestWithJob_26 rfl ?_
                      refine lv_ladd X.1 X.2.1 dX4_digestWithJob_27 ?_
                      refine lv_topl (fun x70 ex70 => ?_)
                      refine lv_lstore (lv' := [(4, .long x70), (6, .int 9), (0, .ref (ad 0)), (1, .long d0), (3, .int i)]) X.1 X.2.1 dX4_digestWithJob_28 hl (by decide) rfl (fun ls hl => ?_)
                      refine lv_iinc (v := 10) (lv' := [(6, .int 10), (4, .long x70), (0, .ref (ad 0)), (1, .long d0), (3, .int i)]) X.1 X.2.1 dX4_digestWithJob_30 hl (k := 1) rfl (by decide) (by decide) rfl (fun ls hl => ?_)
                      refine lv_goto (tgt := 6) X.1 X.2.1 dX4_digestWithJob_33 (by decide) ?_
                      refine lv_iload X.1 X.2.1 dX4_digestWithJob_6 (lv_at hl 0 rfl) ?_
                      refine lv_bipush (v := 12) X.1 X.2.1 dX4_digestWithJob_8 (by decide) ?_
                      refine lv_icmp_gt (tgt := 36) X.1 X.2.1 dX4_digestWithJob_10 (by decide) (fun c71 => ?_) (fun c71 => ?_)
                      ·
                        exact absurd c71 (by decide)
                      ·
                        refine lv_lload X.1 X.2.1 dX4_digestWithJob_13 (lv_at hl 1 rfl) ?_
                        refine lv_ldc2 (v := 31) X.1 X.2.1 X.2.2.2.1 (X.2.2.2.2 _ kw_272) dX4_digestWithJob_15 ?_
                        refine lv_lmul X.1 X.2.1 dX4_digestWithJob_18 ?_
                        refine lv_aload_n X.1 X.2.1 dX4_digestWithJob_19 rfl (lv_at hl 2 rfl) ?_
                        refine lv_iload_n X.1 X.2.1 dX4_digestWithJob_20 rfl (lv_at hl 4 rfl) ?_
                        refine lv_iload X.1 X.2.1 dX4_digestWithJob_21 (lv_at hl 0 rfl) ?_
                        have h73 : (er_ofJob n i 10) = 0 := (by rw [er_ofJob, if_pos hi]; decide)
                        refine w_calli cn w (w_runV (n := 2) (As := [.int i, .int 10]) X cn w (lt17 (by decide)) wC_0 rfl (fun sz => met_of (c_X4_ofJob l D ca ad E67 F L S n hlt q wf i 10 0 0 (fun h => (h h73).elim) sz) h73) (bg_V kw_380 kw_381 kw_382 kw_31 kw_383) rfl rfl (by decide +kernel) ⟨(Nat.le_of_ble_eq_true rfl), (Nat.le_of_ble_eq_true rfl)⟩ rfl hl.1 rfl (Nat.le_of_ble_eq_true rfl) dX4_digestWithJob_23 ⟨(Nat.le_of_ble_eq_true rfl), (Nat.le_of_ble_eq_true rfl)⟩) (fun r72 u H locs hp w => ?_)
                        obtain ⟨E74, q75⟩ := u
                        obtain ⟨-, rfl, h76⟩ := hp
                        have h76 : q75 = (F, L, S, n) := h76
                        subst h76
                        refine lv_i2l X.1 X.2.1 dX4_digestWithJob_26 rfl ?_
                        refine lv_ladd X.1 X.2.1 dX4_digestWithJob_27 ?_
                        refine lv_topl (fun x77 ex77 => ?_)
                        refine lv_lstore (lv' := [(4, .long x77), (6, .int 10), (0, .ref (ad 0)), (1, .long d0), (3, .int i)]) X.1 X.2.1 dX4_digestWithJob_28 hl (by decide) rfl (fun ls hl => ?_)
                        refine lv_iinc (v := 11) (lv' := [(6, .int 11), (4, .long x77), (0, .ref (ad 0)), (1, .long d0), (3, .int i)]) X.1 X.2.1 dX4_digestWithJob_30 hl (k := 1) rfl (by decide) (by decide) rfl (fun ls hl => ?_)
                        refine lv_goto (tgt := 6) X.1 X.2.1 dX4_digestWithJob_33 (by decide) ?_
                        refine lv_iload X.1 X.2.1 dX4_digestWithJob_6 (lv_at hl 0 rfl) ?_
                        refine lv_bipush (v := 12) X.1 X.2.1 dX4_digestWithJob_8 (by decide) ?_
                        refine lv_icmp_gt (tgt := 36) X.1 X.2.1 dX4_digestWithJob_10 (by decide) (fun c78 => ?_) (fun c78 => ?_)
                        ·
                          exact absurd c78 (by decide)
                        ·
                          refine lv_lload X.1 X.2.1 dX4_digestWithJob_13 (lv_at hl 1 rfl) ?_
                          refine lv_ldc2 (v := 31) X.1 X.2.1 X.2.2.2.1 (X.2.2.2.2 _ kw_272) dX4_digestWithJob_15 ?_
                          refine lv_lmul X.1 X.2.1 dX4_digestWithJob_18 ?_
                          refine lv_aload_n X.1 X.2.1 dX4_digestWithJob_19 rfl (lv_at hl 2 rfl) ?_
                          refine lv_iload_n X.1 X.2.1 dX4_digestWithJob_20 rfl (lv_at hl 4 rfl) ?_
                          refine lv_iload X.1 X.2.1 dX4_digestWithJob_21 (lv_at hl 0 rfl) ?_
                          have h80 : (er_ofJob n i 11) = 0 := (by rw [er_ofJob, if_pos hi]; decide)
                          refine w_calli cn w (w_runV (n := 2) (As := [.int i, .int 11]) X cn w (lt17 (by decide)) wC_0 rfl (fun sz => met_of (c_X4_ofJob l D ca ad E74 F L S n hlt q wf i 11 0 0 (fun h => (h h80).elim) sz) h80) (bg_V kw_380 kw_381 kw_382 kw_31 kw_383) rfl rfl (by decide +kernel) ⟨(Nat.le_of_ble_eq_true rfl), (Nat.le_of_ble_eq_true rfl)⟩ rfl hl.1 rfl (Nat.le_of_ble_eq_true rfl) dX4_digestWithJob_23 ⟨(Nat.le_of_ble_eq_true rfl), (Nat.le_of_ble_eq_true rfl)⟩) (fun r79 u H locs hp w => ?_)
                          obtain ⟨E81, q82⟩ := u
                          obtain ⟨-, rfl, h83⟩ := hp
                          have h83 : q82 = (F, L, S, n) := h83
                          subst h83
                          refine lv_i2l X.1 X.2.1 dX4_digestWithJob_26 rfl ?_
                          refine lv_ladd X.1 X.2.1 dX4_digestWithJob_27 ?_
                          refine lv_topl (fun x84 ex84 => ?_)
                          refine lv_lstore (lv' := [(4, .long x84), (6, .int 11), (0, .ref (ad 0)), (1, .long d0), (3, .int i)]) X.1 X.2.1 dX4_digestWithJob_28 hl (by decide) rfl (fun ls hl => ?_)
                          refine lv_iinc (v := 12) (lv' := [(6, .int 12), (4, .long x84), (0, .ref (ad 0)), (1, .long d0), (3, .int i)]) X.1 X.2.1 dX4_digestWithJob_30 hl (k := 1) rfl (by decide) (by decide) rfl (fun ls hl => ?_)
                          refine lv_goto (tgt := 6) X.1 X.2.1 dX4_digestWithJob_33 (by decide) ?_
                          refine lv_iload X.1 X.2.1 dX4_digestWithJob_6 (lv_at hl 0 rfl) ?_
                          refine lv_bipush (v := 12) X.1 X.2.1 dX4_digestWithJob_8 (by decide) ?_
                          refine lv_icmp_gt (tgt := 36) X.1 X.2.1 dX4_digestWithJob_10 (by decide) (fun c85 => ?_) (fun c85 => ?_)
                          ·
                            exact absurd c85 (by decide)
                          ·
                            refine lv_lload X.1 X.2.1 dX4_digestWithJob_13 (lv_at hl 1 rfl) ?_
                            refine lv_ldc2 (v := 31) X.1 X.2.1 X.2.2.2.1 (X.2.2.2.2 _ kw_272) dX4_digestWithJob_15 ?_
                            refine lv_lmul X.1 X.2.1 dX4_digestWithJob_18 ?_
                            refine lv_aload_n X.1 X.2.1 dX4_digestWithJob_19 rfl (lv_at hl 2 rfl) ?_
                            refine lv_iload_n X.1 X.2.1 dX4_digestWithJob_20 rfl (lv_at hl 4 rfl) ?_
                            refine lv_iload X.1 X.2.1 dX4_digestWithJob_21 (lv_at hl 0 rfl) ?_
                            have h87 : (er_ofJob n i 12) = 0 := (by rw [er_ofJob, if_pos hi]; decide)
                            refine w_calli cn w (w_runV (n := 2) (As := [.int i, .int 12]) X cn w (lt17 (by decide)) wC_0 rfl (fun sz => met_of (c_X4_ofJob l D ca ad E81 F L S n hlt q wf i 12 0 0 (fun h => (h h87).elim) sz) h87) (bg_V kw_380 kw_381 kw_382 kw_31 kw_383) rfl rfl (by decide +kernel) ⟨(Nat.le_of_ble_eq_true rfl), (Nat.le_of_ble_eq_true rfl)⟩ rfl hl.1 rfl (Nat.le_of_ble_eq_true rfl) dX4_digestWithJob_23 ⟨(Nat.le_of_ble_eq_true rfl), (Nat.le_of_ble_eq_true rfl)⟩) (fun r86 u H locs hp w => ?_)
                            obtain ⟨E88, q89⟩ := u
                            obtain ⟨-, rfl, h90⟩ := hp
                            have h90 : q89 = (F, L, S, n) := h90
                            subst h90
                            refine lv_i2l X.1 X.2.1 dX4_digestWithJob_26 rfl ?_
                            refine lv_ladd X.1 X.2.1 dX4_digestWithJob_27 ?_
                            refine lv_topl (fun x91 ex91 => ?_)
                            refine lv_lstore (lv' := [(4, .long x91), (6, .int 12), (0, .ref (ad 0)), (1, .long d0), (3, .int i)]) X.1 X.2.1 dX4_digestWithJob_28 hl (by decide) rfl (fun ls hl => ?_)
                            refine lv_iinc (v := 13) (lv' := [(6, .int 13), (4, .long x91), (0, .ref (ad 0)), (1, .long d0), (3, .int i)]) X.1 X.2.1 dX4_digestWithJob_30 hl (k := 1) rfl (by decide) (by decide) rfl (fun ls hl => ?_)
                            refine lv_goto (tgt := 6) X.1 X.2.1 dX4_digestWithJob_33 (by decide) ?_
                            refine lv_iload X.1 X.2.1 dX4_digestWithJob_6 (lv_at hl 0 rfl) ?_
                            refine lv_bipush (v := 12) X.1 X.2.1 dX4_digestWithJob_8 (by decide) ?_
                            refine lv_icmp_gt (tgt := 36) X.1 X.2.1 dX4_digestWithJob_10 (by decide) (fun c92 => ?_) (fun c92 => ?_)
                            ·
                              refine lv_iconst (v := 0) X.1 X.2.1 dX4_digestWithJob_36 (by decide) ?_
                              refine lv_istore (lv' := [(6, .int 0), (4, .long x91), (0, .ref (ad 0)), (1, .long d0), (3, .int i)]) X.1 X.2.1 dX4_digestWithJob_37 hl (by decide) rfl (fun ls hl => ?_)
                              refine lv_iload X.1 X.2.1 dX4_digestWithJob_39 (lv_at hl 0 rfl) ?_
                              refine lv_iconst (v := 1) X.1 X.2.1 dX4_digestWithJob_41 (by decide) ?_
                              refine lv_icmp_gt (tgt := 86) X.1 X.2.1 dX4_digestWithJob_42 (by decide) (fun c93 => ?_) (fun c93 => ?_)
                              ·
                                exact absurd c93 (by decide)
                              ·
                                refine lv_iconst (v := 3) X.1 X.2.1 dX4_digestWithJob_45 (by decide) ?_
                                refine lv_istore (lv' := [(7, .int 3), (6, .int 0), (4, .long x91), (0, .ref (ad 0)), (1, .long d0), (3, .int i)]) X.1 X.2.1 dX4_digestWithJob_46 hl (by decide) rfl (fun ls hl => ?_)
                                refine lv_iload X.1 X.2.1 dX4_digestWithJob_48 (lv_at hl 0 rfl) ?_
                                refine lv_bipush (v := 6) X.1 X.2.1 dX4_digestWithJob_50 (by decide) ?_
                                refine lv_icmp_gt (tgt := 80) X.1 X.2.1 dX4_digestWithJob_52 (by decide) (fun c94 => ?_) (fun c94 => ?_)
                                ·
                                  exact absurd c94 (by decide)
                                ·
                                  refine lv_lload X.1 X.2.1 dX4_digestWithJob_55 (lv_at hl 2 rfl) ?_
                                  refine lv_ldc2 (v := 31) X.1 X.2.1 X.2.2.2.1 (X.2.2.2.2 _ kw_272) dX4_digestWithJob_57 ?_
                                  refine lv_lmul X.1 X.2.1 dX4_digestWithJob_60 ?_
                                  refine lv_aload_n X.1 X.2.1 dX4_digestWithJob_61 rfl (lv_at hl 3 rfl) ?_
                                  refine lv_iload_n X.1 X.2.1 dX4_digestWithJob_62 rfl (lv_at hl 5 rfl) ?_
                                  refine lv_iload X.1 X.2.1 dX4_digestWithJob_63 (lv_at hl 1 rfl) ?_
                                  refine lv_iload X.1 X.2.1 dX4_digestWithJob_65 (lv_at hl 0 rfl) ?_
                                  have h96 : (er_expected n i 0 3) = 0 := (by rw [er_expected, if_pos hi, if_pos (by decide)]; decide)
                                  refine w_calli cn w (w_runV (n := 3) (As := [.int i, .int 0, .int 3]) X cn w (lt17 (by decide)) wC_0 rfl (fun sz => met_of (c_X4_expected l D ca ad E88 F L S n hlt q wf i 0 3 0 0 (fun h => (h h96).elim) sz) h96) (bg_V kw_390 kw_391 kw_392 kw_31 kw_393) rfl rfl (by decide +kernel) ⟨(Nat.le_of_ble_eq_true rfl), (Nat.le_of_ble_eq_true rfl)⟩ rfl hl.1 rfl (Nat.le_of_ble_eq_true rfl) dX4_digestWithJob_67 ⟨(Nat.le_of_ble_eq_true rfl), (Nat.le_of_ble_eq_true rfl)⟩) (fun r95 u H locs hp w => ?_)
                                  obtain ⟨E97, q98⟩ := u
                                  obtain ⟨-, rfl, h99⟩ := hp
                                  have h99 : q98 = (F, L, S, n) := h99
                                  subst h99
                                  refine lv_i2l X.1 X.2.1 dX4_digestWithJob_70 rfl ?_
                                  refine lv_ladd X.1 X.2.1 dX4_digestWithJob_71 ?_
                                  refine lv_topl (fun x100 ex100 => ?_)
                                  refine lv_lstore (lv' := [(4, .long x100), (7, .int 3), (6, .int 0), (0, .ref (ad 0)), (1, .long d0), (3, .int i)]) X.1 X.2.1 dX4_digestWithJob_72 hl (by decide) rfl (fun ls hl => ?_)
                                  refine lv_iinc (v := 4) (lv' := [(7, .int 4), (4, .long x100), (6, .int 0), (0, .ref (ad 0)), (1, .long d0), (3, .int i)]) X.1 X.2.1 dX4_digestWithJob_74 hl (k := 1) rfl (by decide) (by decide) rfl (fun ls hl => ?_)
                                  refine lv_goto (tgt := 48) X.1 X.2.1 dX4_digestWithJob_77 (by decide) ?_
                                  refine lv_iload X.1 X.2.1 dX4_digestWithJob_48 (lv_at hl 0 rfl) ?_
                                  refine lv_bipush (v := 6) X.1 X.2.1 dX4_digestWithJob_50 (by decide) ?_
                                  refine lv_icmp_gt (tgt := 80) X.1 X.2.1 dX4_digestWithJob_52 (by decide) (fun c101 => ?_) (fun c101 => ?_)
                                  ·
                                    exact absurd c101 (by decide)
                                  ·
                                    refine lv_lload X.1 X.2.1 dX4_digestWithJob_55 (lv_at hl 1 rfl) ?_
                                    refine lv_ldc2 (v := 31) X.1 X.2.1 X.2.2.2.1 (X.2.2.2.2 _ kw_272) dX4_digestWithJob_57 ?_
                                    refine lv_lmul X.1 X.2.1 dX4_digestWithJob_60 ?_
                                    refine lv_aload_n X.1 X.2.1 dX4_digestWithJob_61 rfl (lv_at hl 3 rfl) ?_
                                    refine lv_iload_n X.1 X.2.1 dX4_digestWithJob_62 rfl (lv_at hl 5 rfl) ?_
                                    refine lv_iload X.1 X.2.1 dX4_digestWithJob_63 (lv_at hl 2 rfl) ?_
                                    refine lv_iload X.1 X.2.1 dX4_digestWithJob_65 (lv_at hl 0 rfl) ?_
                                    have h103 : (er_expected n i 0 4) = 0 := (by rw [er_expected, if_pos hi, if_pos (by decide)]; decide)
                                    refine w_calli cn w (w_runV (n := 3) (As := [.int i, .int 0, .int 4]) X cn w (lt17 (by decide)) wC_0 rfl (fun sz => met_of (c_X4_expected l D ca ad E97 F L S n hlt q wf i 0 4 0 0 (fun h => (h h103).elim) sz) h103) (bg_V kw_390 kw_391 kw_392 kw_31 kw_393) rfl rfl (by decide +kernel) ⟨(Nat.le_of_ble_eq_true rfl), (Nat.le_of_ble_eq_true rfl)⟩ rfl hl.1 rfl (Nat.le_of_ble_eq_true rfl) dX4_digestWithJob_67 ⟨(Nat.le_of_ble_eq_true rfl), (Nat.le_of_ble_eq_true rfl)⟩) (fun r102 u H locs hp w => ?_)
                                    obtain ⟨E104, q105⟩ := u
                                    obtain ⟨-, rfl, h106⟩ := hp
                                    have h106 : q105 = (F, L, S, n) := h106
                                    subst h106
                                    refine lv_i2l X.1 X.2.1 dX4_digestWithJob_70 rfl ?_
                                    refine lv_ladd X.1 X.2.1 dX4_digestWithJob_71 ?_
                                    refine lv_topl (fun x107 ex107 => ?_)
                                    refine lv_lstore (lv' := [(4, .long x107), (7, .int 4), (6, .int 0), (0, .ref (ad 0)), (1, .long d0), (3, .int i)]) X.1 X.2.1 dX4_digestWithJob_72 hl (by decide) rfl (fun ls hl => ?_)
                                    refine lv_iinc (v := 5) (lv' := [(7, .int 5), (4, .long x107), (6, .int 0), (0, .ref (ad 0)), (1, .long d0), (3, .int i)]) X.1 X.2.1 dX4_digestWithJob_74 hl (k := 1) rfl (by decide) (by decide) rfl (fun ls hl => ?_)
                                    refine lv_goto (tgt := 48) X.1 X.2.1 dX4_digestWithJob_77 (by decide) ?_
                                    refine lv_iload X.1 X.2.1 dX4_digestWithJob_48 (lv_at hl 0 rfl) ?_
                                    refine lv_bipush (v := 6) X.1 X.2.1 dX4_digestWithJob_50 (by decide) ?_
                                    refine lv_icmp_gt (tgt := 80) X.1 X.2.1 dX4_digestWithJob_52 (by decide) (fun c108 => ?_) (fun c108 => ?_)
                                    ·
                                      exact absurd c108 (by decide)
                                    ·
                                      refine lv_lload X.1 X.2.1 dX4_digestWithJob_55 (lv_at hl 1 rfl) ?_
                                      refine lv_ldc2 (v := 31) X.1 X.2.1 X.2.2.2.1 (X.2.2.2.2 _ kw_272) dX4_digestWithJob_57 ?_
                                      refine lv_lmul X.1 X.2.1 dX4_digestWithJob_60 ?_
                                      refine lv_aload_n X.1 X.2.1 dX4_digestWithJob_61 rfl (lv_at hl 3 rfl) ?_
                                      refine lv_iload_n X.1 X.2.1 dX4_digestWithJob_62 rfl (lv_at hl 5 rfl) ?_
                                      refine lv_iload X.1 X.2.1 dX4_digestWithJob_63 (lv_at hl 2 rfl) ?_
                                      refine lv_iload X.1 X.2.1 dX4_digestWithJob_65 (lv_at hl 0 rfl) ?_
                                      have h110 : (er_expected n i 0 5) = 0 := (by rw [er_expected, if_pos hi, if_pos (by decide)]; decide)
                                      refine w_calli cn w (w_runV (n := 3) (As := [.int i, .int 0, .int 5]) X cn w (lt17 (by decide)) wC_0 rfl (fun sz => met_of (c_X4_expected l D ca ad E104 F L S n hlt q wf i 0 5 0 0 (fun h => (h h110).elim) sz) h110) (bg_V kw_390 kw_391 kw_392 kw_31 kw_393) rfl rfl (by decide +kernel) ⟨(Nat.le_of_ble_eq_true rfl), (Nat.le_of_ble_eq_true rfl)⟩ rfl hl.1 rfl (Nat.le_of_ble_eq_true rfl) dX4_digestWithJob_67 ⟨(Nat.le_of_ble_eq_true rfl), (Nat.le_of_ble_eq_true rfl)⟩) (fun r109 u H locs hp w => ?_)
                                      obtain ⟨E111, q112⟩ := u
                                      obtain ⟨-, rfl, h113⟩ := hp
                                      have h113 : q112 = (F, L, S, n) := h113
                                      subst h113
                                      refine lv_i2l X.1 X.2.1 dX4_digestWithJob_70 rfl ?_
                                      refine lv_ladd X.1 X.2.1 dX4_digestWithJob_71 ?_
                                      refine lv_topl (fun x114 ex114 => ?_)
                                      refine lv_lstore (lv' := [(4, .long x114), (7, .int 5), (6, .int 0), (0, .ref (ad 0)), (1, .long d0), (3, .int i)]) X.1 X.2.1 dX4_digestWithJob_72 hl (by decide) rfl (fun ls hl => ?_)
                                      refine lv_iinc (v := 6) (lv' := [(7, .int 6), (4, .long x114), (6, .int 0), (0, .ref (ad 0)), (1, .long d0), (3, .int i)]) X.1 X.2.1 dX4_digestWithJob_74 hl (k := 1) rfl (by decide) (by decide) rfl (fun ls hl => ?_)
                                      refine lv_goto (tgt := 48) X.1 X.2.1 dX4_digestWithJob_77 (by decide) ?_
                                      refine lv_iload X.1 X.2.1 dX4_digestWithJob_48 (lv_at hl 0 rfl) ?_
                                      refine lv_bipush (v := 6) X.1 X.2.1 dX4_digestWithJob_50 (by decide) ?_
                                      refine lv_icmp_gt (tgt := 80) X.1 X.2.1 dX4_digestWithJob_52 (by decide) (fun c115 => ?_) (fun c115 => ?_)
                                      ·
                                        exact absurd c115 (by decide)
                                      ·
                                        refine lv_lload X.1 X.2.1 dX4_digestWithJob_55 (lv_at hl 1 rfl) ?_
                                        refine lv_ldc2 (v := 31) X.1 X.2.1 X.2.2.2.1 (X.2.2.2.2 _ kw_272) dX4_digestWithJob_57 ?_
                                        refine lv_lmul X.1 X.2.1 dX4_digestWithJob_60 ?_
                                        refine lv_aload_n X.1 X.2.1 dX4_digestWithJob_61 rfl (lv_at hl 3 rfl) ?_
                                        refine lv_iload_n X.1 X.2.1 dX4_digestWithJob_62 rfl (lv_at hl 5 rfl) ?_
                                        refine lv_iload X.1 X.2.1 dX4_digestWithJob_63 (lv_at hl 2 rfl) ?_
                                        refine lv_iload X.1 X.2.1 dX4_digestWithJob_65 (lv_at hl 0 rfl) ?_
                                        have h117 : (er_expected n i 0 6) = 0 := (by rw [er_expected, if_pos hi, if_pos (by decide)]; decide)
                                        refine w_calli cn w (w_runV (n := 3) (As := [.int i, .int 0, .int 6]) X cn w (lt17 (by decide)) wC_0 rfl (fun sz => met_of (c_X4_expected l D ca ad E111 F L S n hlt q wf i 0 6 0 0 (fun h => (h h117).elim) sz) h117) (bg_V kw_390 kw_391 kw_392 kw_31 kw_393) rfl rfl (by decide +kernel) ⟨(Nat.le_of_ble_eq_true rfl), (Nat.le_of_ble_eq_true rfl)⟩ rfl hl.1 rfl (Nat.le_of_ble_eq_true rfl) dX4_digestWithJob_67 ⟨(Nat.le_of_ble_eq_true rfl), (Nat.le_of_ble_eq_true rfl)⟩) (fun r116 u H locs hp w => ?_)
                                        obtain ⟨E118, q119⟩ := u
                                        obtain ⟨-, rfl, h120⟩ := hp
                                        have h120 : q119 = (F, L, S, n) := h120
                                        subst h120
                                        refine lv_i2l X.1 X.2.1 dX4_digestWithJob_70 rfl ?_
                                        refine lv_ladd X.1 X.2.1 dX4_digestWithJob_71 ?_
                                        refine lv_topl (fun x121 ex121 => ?_)
                                        refine lv_lstore (lv' := [(4, .long x121), (7, .int 6), (6, .int 0), (0, .ref (ad 0)), (1, .long d0), (3, .int i)]) X.1 X.2.1 dX4_digestWithJob_72 hl (by decide) rfl (fun ls hl => ?_)
                                        refine lv_iinc (v := 7) (lv' := [(7, .int 7), (4, .long x121), (6, .int 0), (0, .ref (ad 0)), (1, .long d0), (3, .int i)]) X.1 X.2.1 dX4_digestWithJob_74 hl (k := 1) rfl (by decide) (by decide) rfl (fun ls hl => ?_)
                                        refine lv_goto (tgt := 48) X.1 X.2.1 dX4_digestWithJob_77 (by decide) ?_
                                        refine lv_iload X.1 X.2.1 dX4_digestWithJob_48 (lv_at hl 0 rfl) ?_
                                        refine lv_bipush (v := 6) X.1 X.2.1 dX4_digestWithJob_50 (by decide) ?_
                                        refine lv_icmp_gt (tgt := 80) X.1 X.2.1 dX4_digestWithJob_52 (by decide) (fun c122 => ?_) (fun c122 => ?_)
                                        ·
                                          refine lv_iinc (v := 1) (lv' := [(6, .int 1), (7, .int 7), (4, .long x121), (0, .ref (ad 0)), (1, .long d0), (3, .int i)]) X.1 X.2.1 dX4_digestWithJob_80 hl (k := 2) rfl (by decide) (by decide) rfl (fun ls hl => ?_)
                                          refine lv_goto (tgt := 39) X.1 X.2.1 dX4_digestWithJob_83 (by decide) ?_
                                          refine lv_iload X.1 X.2.1 dX4_digestWithJob_39 (lv_at hl 0 rfl) ?_
                                          refine lv_iconst (v := 1) X.1 X.2.1 dX4_digestWithJob_41 (by decide) ?_
                                          refine lv_icmp_gt (tgt := 86) X.1 X.2.1 dX4_digestWithJob_42 (by decide) (fun c123 => ?_) (fun c123 => ?_)
                                          ·
                                            exact absurd c123 (by decide)
                                          ·
                                            refine lv_iconst (v := 3) X.1 X.2.1 dX4_digestWithJob_45 (by decide) ?_
                                            refine lv_istore (lv' := [(7, .int 3), (6, .int 1), (4, .long x121), (0, .ref (ad 0)), (1, .long d0), (3, .int i)]) X.1 X.2.1 dX4_digestWithJob_46 hl (by decide) rfl (fun ls hl => ?_)
                                            refine lv_iload X.1 X.2.1 dX4_digestWithJob_48 (lv_at hl 0 rfl) ?_
                                            refine lv_bipush (v := 6) X.1 X.2.1 dX4_digestWithJob_50 (by decide) ?_
                                            refine lv_icmp_gt (tgt := 80) X.1 X.2.1 dX4_digestWithJob_52 (by decide) (fun c124 => ?_) (fun c124 => ?_)
                                            ·
                                              exact absurd c124 (by decide)
                                            ·
                                              refine lv_lload X.1 X.2.1 dX4_digestWithJob_55 (lv_at hl 2 rfl) ?_
                                              refine lv_ldc2 (v := 31) X.1 X.2.1 X.2.2.2.1 (X.2.2.2.2 _ kw_272) dX4_digestWithJob_57 ?_
                                              refine lv_lmul X.1 X.2.1 dX4_digestWithJob_60 ?_
                                              refine lv_aload_n X.1 X.2.1 dX4_digestWithJob_61 rfl (lv_at hl 3 rfl) ?_
                                              refine lv_iload_n X.1 X.2.1 dX4_digestWithJob_62 rfl (lv_at hl 5 rfl) ?_
                                              refine lv_iload X.1 X.2.1 dX4_digestWithJob_63 (lv_at hl 1 rfl) ?_
                                              refine lv_iload X.1 X.2.1 dX4_digestWithJob_65 (lv_at hl 0 rfl) ?_
                                              have h126 : (er_expected n i 1 3) = 0 := (by rw [er_expected, if_pos hi, if_pos (by decide)]; decide)
                                              refine w_calli cn w (w_runV (n := 3) (As := [.int i, .int 1, .int 3]) X cn w (lt17 (by decide)) wC_0 rfl (fun sz => met_of (c_X4_expected l D ca ad E118 F L S n hlt q wf i 1 3 0 0 (fun h => (h h126).elim) sz) h126) (bg_V kw_390 kw_391 kw_392 kw_31 kw_393) rfl rfl (by decide +kernel) ⟨(Nat.le_of_ble_eq_true rfl), (Nat.le_of_ble_eq_true rfl)⟩ rfl hl.1 rfl (Nat.le_of_ble_eq_true rfl) dX4_digestWithJob_67 ⟨(Nat.le_of_ble_eq_true rfl), (Nat.le_of_ble_eq_true rfl)⟩) (fun r125 u H locs hp w => ?_)
                                              obtain ⟨E127, q128⟩ := u
                                              obtain ⟨-, rfl, h129⟩ := hp
                                              have h129 : q128 = (F, L, S, n) := h129
                                              subst h129
                                              refine lv_i2l X.1 X.2.1 dX4_digestWithJob_70 rfl ?_
                                              refine lv_ladd X.1 X.2.1 dX4_digestWithJob_71 ?_
                                              refine lv_topl (fun x130 ex130 => ?_)
                                              refine lv_lstore (lv' := [(4, .long x130), (7, .int 3), (6, .int 1), (0, .ref (ad 0)), (1, .long d0), (3, .int i)]) X.1 X.2.1 dX4_digestWithJob_72 hl (by decide) rfl (fun ls hl => ?_)
                                              refine lv_iinc (v := 4) (lv' := [(7, .int 4), (4, .long x130), (6, .int 1), (0, .ref (ad 0)), (1, .long d0), (3, .int i)]) X.1 X.2.1 dX4_digestWithJob_74 hl (k := 1) rfl (by decide) (by decide) rfl (fun ls hl => ?_)
                                              refine lv_goto (tgt := 48) X.1 X.2.1 dX4_digestWithJob_77 (by decide) ?_
                                              refine lv_iload X.1 X.2.1 dX4_digestWithJob_48 (lv_at hl 0 rfl) ?_
                                              refine lv_bipush (v := 6) X.1 X.2.1 dX4_digestWithJob_50 (by decide) ?_
                                              refine lv_icmp_gt (tgt := 80) X.1 X.2.1 dX4_digestWithJob_52 (by decide) (fun c131 => ?_) (fun c131 => ?_)
                                              ·
                                                exact absurd c131 (by decide)
                                              ·
                                                refine lv_lload X.1 X.2.1 dX4_digestWithJob_55 (lv_at hl 1 rfl) ?_
                                                refine lv_ldc2 (v := 31) X.1 X.2.1 X.2.2.2.1 (X.2.2.2.2 _ kw_272) dX4_digestWithJob_57 ?_
                                                refine lv_lmul X.1 X.2.1 dX4_digestWithJob_60 ?_
                                                refine lv_aload_n X.1 X.2.1 dX4_digestWithJob_61 rfl (lv_at hl 3 rfl) ?_
                                                refine lv_iload_n X.1 X.2.1 dX4_digestWithJob_62 rfl (lv_at hl 5 rfl) ?_
                                                refine lv_iload X.1 X.2.1 dX4_digestWithJob_63 (lv_at hl 2 rfl) ?_
                                                refine lv_iload X.1 X.2.1 dX4_digestWithJob_65 (lv_at hl 0 rfl) ?_
                                                have h133 : (er_expected n i 1 4) = 0 := (by rw [er_expected, if_pos hi, if_pos (by decide)]; decide)
                                                refine w_calli cn w (w_runV (n := 3) (As := [.int i, .int 1, .int 4]) X cn w (lt17 (by decide)) wC_0 rfl (fun sz => met_of (c_X4_expected l D ca ad E127 F L S n hlt q wf i 1 4 0 0 (fun h => (h h133).elim) sz) h133) (bg_V kw_390 kw_391 kw_392 kw_31 kw_393) rfl rfl (by decide +kernel) ⟨(Nat.le_of_ble_eq_true rfl), (Nat.le_of_ble_eq_true rfl)⟩ rfl hl.1 rfl (Nat.le_of_ble_eq_true rfl) dX4_digestWithJob_67 ⟨(Nat.le_of_ble_eq_true rfl), (Nat.le_of_ble_eq_true rfl)⟩) (fun r132 u H locs hp w => ?_)
                                                obtain ⟨E134, q135⟩ := u
                                                obtain ⟨-, rfl, h136⟩ := hp
                                                have h136 : q135 = (F, L, S, n) := h136
                                                subst h136
                                                refine lv_i2l X.1 X.2.1 dX4_digestWithJob_70 rfl ?_
                                                refine lv_ladd X.1 X.2.1 dX4_digestWithJob_71 ?_
                                                refine lv_topl (fun x137 ex137 => ?_)
                                                refine lv_lstore (lv' := [(4, .long x137), (7, .int 4), (6, .int 1), (0, .ref (ad 0)), (1, .long d0), (3, .int i)]) X.1 X.2.1 dX4_digestWithJob_72 hl (by decide) rfl (fun ls hl => ?_)
                                                refine lv_iinc (v := 5) (lv' := [(7, .int 5), (4, .long x137), (6, .int 1), (0, .ref (ad 0)), (1, .long d0), (3, .int i)]) X.1 X.2.1 dX4_digestWithJob_74 hl (k := 1) rfl (by decide) (by decide) rfl (fun ls hl => ?_)
                                                refine lv_goto (tgt := 48) X.1 X.2.1 dX4_digestWithJob_77 (by decide) ?_
                                                refine lv_iload X.1 X.2.1 dX4_digestWithJob_48 (lv_at hl 0 rfl) ?_
                                                refine lv_bipush (v := 6) X.1 X.2.1 dX4_digestWithJob_50 (by decide) ?_
                                                refine lv_icmp_gt (tgt := 80) X.1 X.2.1 dX4_digestWithJob_52 (by decide) (fun c138 => ?_) (fun c138 => ?_)
                                                ·
                                                  exact absurd c138 (by decide)
                                                ·
                                                  refine lv_lload X.1 X.2.1 dX4_digestWithJob_55 (lv_at hl 1 rfl) ?_
                                                  refine lv_ldc2 (v := 31) X.1 X.2.1 X.2.2.2.1 (X.2.2.2.2 _ kw_272) dX4_digestWithJob_57 ?_
                                                  refine lv_lmul X.1 X.2.1 dX4_digestWithJob_60 ?_
                                                  refine lv_aload_n X.1 X.2.1 dX4_digestWithJob_61 rfl (lv_at hl 3 rfl) ?_
                                                  refine lv_iload_n X.1 X.2.1 dX4_digestWithJob_62 rfl (lv_at hl 5 rfl) ?_
                                                  refine lv_iload X.1 X.2.1 dX4_digestWithJob_63 (lv_at hl 2 rfl) ?_
                                                  refine lv_iload X.1 X.2.1 dX4_digestWithJob_65 (lv_at hl 0 rfl) ?_
                                                  have h140 : (er_expected n i 1 5) = 0 := (by rw [er_expected, if_pos hi, if_pos (by decide)]; decide)
                                                  refine w_calli cn w (w_runV (n := 3) (As := [.int i, .int 1, .int 5]) X cn w (lt17 (by decide)) wC_0 rfl (fun sz => met_of (c_X4_expected l D ca ad E134 F L S n hlt q wf i 1 5 0 0 (fun h => (h h140).elim) sz) h140) (bg_V kw_390 kw_391 kw_392 kw_31 kw_393) rfl rfl (by decide +kernel) ⟨(Nat.le_of_ble_eq_true rfl), (Nat.le_of_ble_eq_true rfl)⟩ rfl hl.1 rfl (Nat.le_of_ble_eq_true rfl) dX4_digestWithJob_67 ⟨(Nat.le_of_ble_eq_true rfl), (Nat.le_of_ble_eq_true rfl)⟩) (fun r139 u H locs hp w => ?_)
                                                  obtain ⟨E141, q142⟩ := u
                                                  obtain ⟨-, rfl, h143⟩ := hp
                                                  have h143 : q142 = (F, L, S, n) := h143
                                                  subst h143
                                                  refine lv_i2l X.1 X.2.1 dX4_digestWithJob_70 rfl ?_
                                                  refine lv_ladd X.1 X.2.1 dX4_digestWithJob_71 ?_
                                                  refine lv_topl (fun x144 ex144 => ?_)
                                                  refine lv_lstore (lv' := [(4, .long x144), (7, .int 5), (6, .int 1), (0, .ref (ad 0)), (1, .long d0), (3, .int i)]) X.1 X.2.1 dX4_digestWithJob_72 hl (by decide) rfl (fun ls hl => ?_)
                                                  refine lv_iinc (v := 6) (lv' := [(7, .int 6), (4, .long x144), (6, .int 1), (0, .ref (ad 0)), (1, .long d0), (3, .int i)]) X.1 X.2.1 dX4_digestWithJob_74 hl (k := 1) rfl (by decide) (by decide) rfl (fun ls hl => ?_)
                                                  refine lv_goto (tgt := 48) X.1 X.2.1 dX4_digestWithJob_77 (by decide) ?_
                                                  refine lv_iload X.1 X.2.1 dX4_digestWithJob_48 (lv_at hl 0 rfl) ?_
                                                  refine lv_bipush (v := 6) X.1 X.2.1 dX4_digestWithJob_50 (by decide) ?_
                                                  refine lv_icmp_gt (tgt := 80) X.1 X.2.1 dX4_digestWithJob_52 (by decide) (fun c145 => ?_) (fun c145 => ?_)
                                                  ·
                                                    exact absurd c145 (by decide)
                                                  ·
                                                    refine lv_lload X.1 X.2.1 dX4_digestWithJob_55 (lv_at hl 1 rfl) ?_
                                                    refine lv_ldc2 (v := 31) X.1 X.2.1 X.2.2.2.1 (X.2.2.2.2 _ kw_272) dX4_digestWithJob_57 ?_
                                                    refine lv_lmul X.1 X.2.1 dX4_digestWithJob_60 ?_
                                                    refine lv_aload_n X.1 X.2.1 dX4_digestWithJob_61 rfl (lv_at hl 3 rfl) ?_
                                                    refine lv_iload_n X.1 X.2.1 dX4_digestWithJob_62 rfl (lv_at hl 5 rfl) ?_
                                                    refine lv_iload X.1 X.2.1 dX4_digestWithJob_63 (lv_at hl 2 rfl) ?_
                                                    refine lv_iload X.1 X.2.1 dX4_digestWithJob_65 (lv_at hl 0 rfl) ?_
                                                    have h147 : (er_expected n i 1 6) = 0 := (by rw [er_expected, if_pos hi, if_pos (by decide)]; decide)
                                                    refine w_calli cn w (w_runV (n := 3) (As := [.int i, .int 1, .int 6]) X cn w (lt17 (by decide)) wC_0 rfl (fun sz => met_of (c_X4_expected l D ca ad E141 F L S n hlt q wf i 1 6 0 0 (fun h => (h h147).elim) sz) h147) (bg_V kw_390 kw_391 kw_392 kw_31 kw_393) rfl rfl (by decide +kernel) ⟨(Nat.le_of_ble_eq_true rfl), (Nat.le_of_ble_eq_true rfl)⟩ rfl hl.1 rfl (Nat.le_of_ble_eq_true rfl) dX4_digestWithJob_67 ⟨(Nat.le_of_ble_eq_true rfl), (Nat.le_of_ble_eq_true rfl)⟩) (fun r146 u H locs hp w => ?_)
                                                    obtain ⟨E148, q149⟩ := u
                                                    obtain ⟨-, rfl, h150⟩ := hp
                                                    have h150 : q149 = (F, L, S, n) := h150
                                                    subst h150
                                                    refine lv_i2l X.1 X.2.1 dX4_digestWithJob_70 rfl ?_
                                                    refine lv_ladd X.1 X.2.1 dX4_digestWithJob_71 ?_
                                                    refine lv_topl (fun x151 ex151 => ?_)
                                                    refine lv_lstore (lv' := [(4, .long x151), (7, .int 6), (6, .int 1), (0, .ref (ad 0)), (1, .long d0), (3, .int i)]) X.1 X.2.1 dX4_digestWithJob_72 hl (by decide) rfl (fun ls hl => ?_)
                                                    refine lv_iinc (v := 7) (lv' := [(7, .int 7), (4, .long x151), (6, .int 1), (0, .ref (ad 0)), (1, .long d0), (3, .int i)]) X.1 X.2.1 dX4_digestWithJob_74 hl (k := 1) rfl (by decide) (by decide) rfl (fun ls hl => ?_)
                                                    refine lv_goto (tgt := 48) X.1 X.2.1 dX4_digestWithJob_77 (by decide) ?_
                                                    refine lv_iload X.1 X.2.1 dX4_digestWithJob_48 (lv_at hl 0 rfl) ?_
                                                    refine lv_bipush (v := 6) X.1 X.2.1 dX4_digestWithJob_50 (by decide) ?_
                                                    refine lv_icmp_gt (tgt := 80) X.1 X.2.1 dX4_digestWithJob_52 (by decide) (fun c152 => ?_) (fun c152 => ?_)
                                                    ·
                                                      refine lv_iinc (v := 2) (lv' := [(6, .int 2), (7, .int 7), (4, .long x151), (0, .ref (ad 0)), (1, .long d0), (3, .int i)]) X.1 X.2.1 dX4_digestWithJob_80 hl (k := 2) rfl (by decide) (by decide) rfl (fun ls hl => ?_)
                                                      refine lv_goto (tgt := 39) X.1 X.2.1 dX4_digestWithJob_83 (by decide) ?_
                                                      refine lv_iload X.1 X.2.1 dX4_digestWithJob_39 (lv_at hl 0 rfl) ?_
                                                      refine lv_iconst (v := 1) X.1 X.2.1 dX4_digestWithJob_41 (by decide) ?_
                                                      refine lv_icmp_gt (tgt := 86) X.1 X.2.1 dX4_digestWithJob_42 (by decide) (fun c153 => ?_) (fun c153 => ?_)
                                                      ·
                                                        refine lv_lload X.1 X.2.1 dX4_digestWithJob_86 (lv_at hl 2 rfl) ?_
                                                        refine lv_ldc2 (v := 31) X.1 X.2.1 X.2.2.2.1 (X.2.2.2.2 _ kw_272) dX4_digestWithJob_88 ?_
                                                        refine lv_lmul X.1 X.2.1 dX4_digestWithJob_91 ?_
                                                        refine lv_aload_n X.1 X.2.1 dX4_digestWithJob_92 rfl (lv_at hl 3 rfl) ?_
                                                        refine lv_iload_n X.1 X.2.1 dX4_digestWithJob_93 rfl (lv_at hl 5 rfl) ?_
                                                        have h155 : (erI n i) = 0 := hi
                                                        refine w_calli cn w (w_runV (n := 1) (As := [.int i]) X cn w (lt17 (by decide)) wC_0 rfl (fun sz => met_of (c_X4_bestPress l D ca ad E148 F L S n hlt q wf i 0 0 (fun h => (h h155).elim) sz) h155) (bg_V kw_395 kw_396 kw_397 kw_31 kw_398) rfl rfl (by decide +kernel) ⟨(Nat.le_of_ble_eq_true rfl), (Nat.le_of_ble_eq_true rfl)⟩ rfl hl.1 rfl (Nat.le_of_ble_eq_true rfl) dX4_digestWithJob_94 ⟨(Nat.le_of_ble_eq_true rfl), (Nat.le_of_ble_eq_true rfl)⟩) (fun r154 u H locs hp w => ?_)
                                                        obtain ⟨E156, q157⟩ := u
                                                        obtain ⟨-, rfl, h158⟩ := hp
                                                        have h158 : q157 = (F, L, S, n) := h158
                                                        subst h158
                                                        refine lv_i2l X.1 X.2.1 dX4_digestWithJob_97 rfl ?_
                                                        refine lv_ladd X.1 X.2.1 dX4_digestWithJob_98 ?_
                                                        refine lv_topl (fun x159 ex159 => ?_)
                                                        refine lv_lstore (lv' := [(4, .long x159), (6, .int 2), (7, .int 7), (0, .ref (ad 0)), (1, .long d0), (3, .int i)]) X.1 X.2.1 dX4_digestWithJob_99 hl (by decide) rfl (fun ls hl => ?_)
                                                        refine lv_lload X.1 X.2.1 dX4_digestWithJob_101 (lv_at hl 0 rfl) ?_
                                                        refine lv_ldc2 (v := 31) X.1 X.2.1 X.2.2.2.1 (X.2.2.2.2 _ kw_272) dX4_digestWithJob_103 ?_
                                                        refine lv_lmul X.1 X.2.1 dX4_digestWithJob_106 ?_
                                                        refine lv_aload_n X.1 X.2.1 dX4_digestWithJob_107 rfl (lv_at hl 3 rfl) ?_
                                                        refine lv_iload_n X.1 X.2.1 dX4_digestWithJob_108 rfl (lv_at hl 5 rfl) ?_
                                                        have h161 : (erI n i) = 0 := hi
                                                        refine w_calli cn w (w_runV (n := 1) (As := [.int i]) X cn w (lt17 (by decide)) wC_0 rfl (fun sz => met_of (c_X4_profit l D ca ad E156 F L S n hlt q wf i 0 0 (fun h => (h h161).elim) sz) h161) (bg_V kw_400 kw_401 kw_402 kw_31 kw_403) rfl rfl (by decide +kernel) ⟨(Nat.le_of_ble_eq_true rfl), (Nat.le_of_ble_eq_true rfl)⟩ rfl hl.1 rfl (Nat.le_of_ble_eq_true rfl) dX4_digestWithJob_109 ⟨(Nat.le_of_ble_eq_true rfl), (Nat.le_of_ble_eq_true rfl)⟩) (fun r160 u H locs hp w => ?_)
                                                        obtain ⟨E162, q163⟩ := u
                                                        obtain ⟨-, rfl, h164⟩ := hp
                                                        have h164 : q163 = (F, L, S, n) := h164
                                                        subst h164
                                                        refine lv_i2l X.1 X.2.1 dX4_digestWithJob_112 rfl ?_
                                                        refine lv_ladd X.1 X.2.1 dX4_digestWithJob_113 ?_
                                                        exact w_lret X hr hlk w (by subst ex159; subst ex151; subst ex144; subst ex137; subst ex130; subst ex121; subst ex114; subst ex107; subst ex100; subst ex91; subst ex84; subst ex77; subst ex70; subst ex63; subst ex56; subst ex49; subst ex42; subst ex35; subst ex28; subst ex21; subst ex14; subst ex7; exact ⟨rfl, rfl⟩) dX4_digestWithJob_114 (Nat.le_of_ble_eq_true rfl) (Nat.le_of_ble_eq_true rfl)
                                                      ·
                                                        exact absurd (by decide) c153
                                                    ·
                                                      exact absurd (by decide) c152
                                        ·
                                          exact absurd (by decide) c122
                            ·
                              exact absurd (by decide) c92

set_option maxHeartbeats 4000000 in
set_option maxRecDepth 100000 in
theorem lp_X4_digest {p : Program} {l : Launch} {e : Env} {s : State} {m : MethodId} {args : Array Value} {below : List Frame} {meth : Method} {c : Code} {D : va_G} {ca : Nat → ClassId} {ad : Nat → Nat} {F : Fm} {L : Lm} {S : Sm} {n : Nat} (X : CallFix p m c cX4_digest 5 s args BG yX4_digest.cls) (hr : meth.sig.returnType = (some .long)) (hlk : meth.locks = false) (cn : Cn (wA ad n s.heap.size) s) (hlt : l.stackTraces = false) (q : Nat → Nat) (wf : Wf F L S n q) (hful : ∀ o, 6 ≤ o ∧ o < 10 → ∀ k, k < q o → L o k ≠ none) :
    ∀ (d : Nat) (k : Nat) (a : Int64), k + d = n → ∀ (E : Em) (H : Heap) (locs : List Loc), Wd D ca ad (wA ad n s.heap.size) s H locs (E, F, L, S, n) → ∀ (ls : Array Slot), lv_has ls 5 [(3, .int (nI k)), (1, .long a), (0, .ref (ad 0))] →
      W p l e { frames := 9, cells := 0, slots := 0, locals := 171 } s m args below meth c H locs 0 0 (MQ below (Ql D ca ad n (fun r u => r = s_dJs F S d k a ∧ u.2 = (F, L, S, n)) s.heap.size) args s 0 0 (wA ad n s.heap.size)) (F0 m 104 ls []) := by
  intro d
  induction d with
  | zero =>
    intro k a hkd E H locs w ls hl
    have hn20 := wf.1
    refine lv_iload_n X.1 X.2.1 dX4_digest_104 rfl (lv_at hl 0 rfl) ?_
    refine lv_aload_n X.1 X.2.1 dX4_digest_105 rfl (lv_at hl 2 rfl) ?_
    refine g_L X w 3 (by decide) (v := .int (F 0 3)) rfl kw_148 dX4_digest_106 ?_
    refine lv_icmp_ge (tgt := 125) X.1 X.2.1 dX4_digest_109 (by decide) (fun c1 => ?_) (fun c1 => ?_)
    ·
      refine lv_lload_n X.1 X.2.1 dX4_digest_125 rfl (lv_at hl 1 rfl) ?_
      exact w_lret X hr hlk w (by  exact ⟨rfl, rfl⟩) dX4_digest_126 (Nat.le_of_ble_eq_true rfl) (Nat.le_of_ble_eq_true rfl)
    ·
      exact absurd (by rw [wf.2.1.1]; exact (geN hkd wf.1).mpr rfl) c1
  | succ d ih =>
    intro k a hkd E H locs w ls hl
    have hn20 := wf.1
    refine lv_iload_n X.1 X.2.1 dX4_digest_104 rfl (lv_at hl 0 rfl) ?_
    refine lv_aload_n X.1 X.2.1 dX4_digest_105 rfl (lv_at hl 2 rfl) ?_
    refine g_L X w 3 (by decide) (v := .int (F 0 3)) rfl kw_148 dX4_digest_106 ?_
    refine lv_icmp_ge (tgt := 125) X.1 X.2.1 dX4_digest_109 (by decide) (fun c1 => ?_) (fun c1 => ?_)
    ·
      exact absurd ((geN hkd wf.1).mp (by rw [← wf.2.1.1]; exact c1)) (by omega)
    ·
      refine lv_aload_n X.1 X.2.1 dX4_digest_112 rfl (lv_at hl 2 rfl) ?_
      refine lv_lload_n X.1 X.2.1 dX4_digest_113 rfl (lv_at hl 1 rfl) ?_
      refine lv_iload_n X.1 X.2.1 dX4_digest_114 rfl (lv_at hl 0 rfl) ?_
      refine w_calll cn w (w_runV (n := 2) (As := [.long a, .int (nI k)]) X cn w (lt17 (by decide)) wC_0 rfl (fun sz => c_X4_digestWithJob l D ca ad E F L S n hlt q wf (nI k) (erI_in (vp_in_nI (by omega) (by omega))) a sz) (bg_V kw_376 kw_378 kw_17 kw_31 kw_379) rfl rfl (by decide +kernel) ⟨(Nat.le_of_ble_eq_true rfl), (Nat.le_of_ble_eq_true rfl)⟩ rfl hl.1 rfl (Nat.le_of_ble_eq_true rfl) dX4_digest_115 ⟨(Nat.le_of_ble_eq_true rfl), (Nat.le_of_ble_eq_true rfl)⟩) (fun r2 u H locs hp w => ?_)
      obtain ⟨E3, q4⟩ := u
      obtain ⟨rfl, h5⟩ := hp
      have h5 : q4 = (F, L, S, n) := h5
      subst h5
      refine W.eq (g2 := F0 m 118 ls [.long (s_dJ F S k a)]) (by rw [cl_nI (by omega)]) ?_
      refine lv_topl (fun x6 ex6 => ?_)
      refine lv_lstore_n (lv' := [(1, .long x6), (3, .int (nI k)), (0, .ref (ad 0))]) X.1 X.2.1 dX4_digest_118 rfl hl (by decide) rfl (fun ls hl => ?_)
      refine lv_iinc (v := (nI (k + 1))) (lv' := [(3, .int (nI (k + 1))), (1, .long x6), (0, .ref (ad 0))]) X.1 X.2.1 dX4_digest_119 hl (k := 1) rfl (nI_1 k) (by decide) rfl (fun ls hl => ?_)
      refine lv_goto (tgt := 104) X.1 X.2.1 dX4_digest_122 (by decide) ?_
      have hz : s_dJs F S (d + 1) k a = s_dJs F S d (k + 1) x6 := by subst ex6; simp [s_dJs, s_dJs]
      rw [hz]
      exact ih (k + 1) x6 (by omega) E3 H locs w ls (lv_sub hl [0, 1, 2] rfl)

set_option maxHeartbeats 4000000 in
set_option maxRecDepth 100000 in
theorem c_X4_digest (l : Launch) (D : va_G) (ca : Nat → ClassId) (ad : Nat → Nat) (E : Em) (F : Fm) (L : Lm) (S : Sm) (n : Nat) (hlt : l.stackTraces = false) (q : Nat → Nat) (wf : Wf F L S n q) (hful : ∀ o, 6 ≤ o ∧ o < 10 → ∀ k, k < q o → L o k ≠ none) (sz : Nat) : Met l yX4_digest (.code yX4_digest cX4_digest 5 (some .long) :: BG) { frames := 9, cells := 0, slots := 0, locals := 171 } (Pw D ca ad (E, F, L, S, n) sz [.ref (ad 0)]) (Ql D ca ad n (fun r u => r = s_dig F L S n q ∧ u.2 = (F, L, S, n)) sz) 0 0 (wA ad n sz) := by
  refine open_W (σ := (E, F, L, S, n)) (Qc := Ql D ca ad n (fun r u => r = s_dig F L S n q ∧ u.2 = (F, L, S, n))) (by decide +kernel) (Nat.le_of_ble_eq_true rfl) ?_
  intro p e s m args below meth c X hr hlk w cn ls hl
  have hl : lv_has ls 5 [(0, .ref (ad 0))] := hl
  have hs := wf.2.2.1
  refine lv_ldc2 (v := 58117) X.1 X.2.1 X.2.2.2.1 (X.2.2.2.2 _ kw_271) dX4_digest_0 ?_
  refine lv_lstore_n (lv' := [(1, .long 58117), (0, .ref (ad 0))]) X.1 X.2.1 dX4_digest_3 rfl hl (by decide) rfl (fun ls hl => ?_)
  refine lv_iconst (v := 0) X.1 X.2.1 dX4_digest_4 (by decide) ?_
  refine lv_istore_n (lv' := [(3, .int 0), (1, .long 58117), (0, .ref (ad 0))]) X.1 X.2.1 dX4_digest_5 rfl hl (by decide) rfl (fun ls hl => ?_)
  refine lv_iload_n X.1 X.2.1 dX4_digest_6 rfl (lv_at hl 0 rfl) ?_
  refine lv_bipush (v := 10) X.1 X.2.1 dX4_digest_7 (by decide) ?_
  refine lv_icmp_gt (tgt := 31) X.1 X.2.1 dX4_digest_9 (by decide) (fun c1 => ?_) (fun c1 => ?_)
  ·
    exact absurd c1 (by decide)
  ·
    refine lv_lload_n X.1 X.2.1 dX4_digest_12 rfl (lv_at hl 1 rfl) ?_
    refine lv_ldc2 (v := 31) X.1 X.2.1 X.2.2.2.1 (X.2.2.2.2 _ kw_272) dX4_digest_13 ?_
    refine lv_lmul X.1 X.2.1 dX4_digest_16 ?_
    refine lv_aload_n X.1 X.2.1 dX4_digest_17 rfl (lv_at hl 2 rfl) ?_
    refine lv_iload_n X.1 X.2.1 dX4_digest_18 rfl (lv_at hl 0 rfl) ?_
    have h3 : (erW 10 0) = 0 := (by decide)
    refine w_calli cn w (w_runV (n := 1) (As := [.int 0]) X cn w (lt17 (by decide)) wC_0 rfl (fun sz => met_of (c_X4_many l D ca ad E F L S n hlt q wf 0 0 0 (fun h => (h h3).elim) sz) h3) (bg_V kw_273 kw_180 kw_181 kw_31 kw_182) rfl rfl (by decide +kernel) ⟨(Nat.le_of_ble_eq_true rfl), (Nat.le_of_ble_eq_true rfl)⟩ rfl hl.1 rfl (Nat.le_of_ble_eq_true rfl) dX4_digest_19 ⟨(Nat.le_of_ble_eq_true rfl), (Nat.le_of_ble_eq_true rfl)⟩) (fun r2 u H locs hp w => ?_)
    obtain ⟨E4, q5⟩ := u
    obtain ⟨-, rfl, h6⟩ := hp
    have h6 : q5 = (F, L, S, n) := h6
    subst h6
    refine lv_i2l X.1 X.2.1 dX4_digest_22 rfl ?_
    refine lv_ladd X.1 X.2.1 dX4_digest_23 ?_
    refine lv_topl (fun x7 ex7 => ?_)
    refine lv_lstore_n (lv' := [(1, .long x7), (3, .int 0), (0, .ref (ad 0))]) X.1 X.2.1 dX4_digest_24 rfl hl (by decide) rfl (fun ls hl => ?_)
    refine lv_iinc (v := 1) (lv' := [(3, .int 1), (1, .long x7), (0, .ref (ad 0))]) X.1 X.2.1 dX4_digest_25 hl (k := 1) rfl (by decide) (by decide) rfl (fun ls hl => ?_)
    refine lv_goto (tgt := 6) X.1 X.2.1 dX4_digest_28 (by decide) ?_
    refine lv_iload_n X.1 X.2.1 dX4_digest_6 rfl (lv_at hl 0 rfl) ?_
    refine lv_bipush (v := 10) X.1 X.2.1 dX4_digest_7 (by decide) ?_
    refine lv_icmp_gt (tgt := 31) X.1 X.2.1 dX4_digest_9 (by decide) (fun c8 => ?_) (fun c8 => ?_)
    ·
      exact absurd c8 (by decide)
    ·
      refine lv_lload_n X.1 X.2.1 dX4_digest_12 rfl (lv_at hl 1 rfl) ?_
      refine lv_ldc2 (v := 31) X.1 X.2.1 X.2.2.2.1 (X.2.2.2.2 _ kw_272) dX4_digest_13 ?_
      refine lv_lmul X.1 X.2.1 dX4_digest_16 ?_
      refine lv_aload_n X.1 X.2.1 dX4_digest_17 rfl (lv_at hl 2 rfl) ?_
      refine lv_iload_n X.1 X.2.1 dX4_digest_18 rfl (lv_at hl 0 rfl) ?_
      have h10 : (erW 10 1) = 0 := (by decide)
      refine w_calli cn w (w_runV (n := 1) (As := [.int 1]) X cn w (lt17 (by decide)) wC_0 rfl (fun sz => met_of (c_X4_many l D ca ad E4 F L S n hlt q wf 1 0 0 (fun h => (h h10).elim) sz) h10) (bg_V kw_273 kw_180 kw_181 kw_31 kw_182) rfl rfl (by decide +kernel) ⟨(Nat.le_of_ble_eq_true rfl), (Nat.le_of_ble_eq_true rfl)⟩ rfl hl.1 rfl (Nat.le_of_ble_eq_true rfl) dX4_digest_19 ⟨(Nat.le_of_ble_eq_true rfl), (Nat.le_of_ble_eq_true rfl)⟩) (fun r9 u H locs hp w => ?_)
      obtain ⟨E11, q12⟩ := u
      obtain ⟨-, rfl, h13⟩ := hp
      have h13 : q12 = (F, L, S, n) := h13
      subst h13
      refine lv_i2l X.1 X.2.1 dX4_digest_22 rfl ?_
      refine lv_ladd X.1 X.2.1 dX4_digest_23 ?_
      refine lv_topl (fun x14 ex14 => ?_)
      refine lv_lstore_n (lv' := [(1, .long x14), (3, .int 1), (0, .ref (ad 0))]) X.1 X.2.1 dX4_digest_24 rfl hl (by decide) rfl (fun ls hl => ?_)
      refine lv_iinc (v := 2) (lv' := [(3, .int 2), (1, .long x14), (0, .ref (ad 0))]) X.1 X.2.1 dX4_digest_25 hl (k := 1) rfl (by decide) (by decide) rfl (fun ls hl => ?_)
      refine lv_goto (tgt := 6) X.1 X.2.1 dX4_digest_28 (by decide) ?_
      refine lv_iload_n X.1 X.2.1 dX4_digest_6 rfl (lv_at hl 0 rfl) ?_
      refine lv_bipush (v := 10) X.1 X.2.1 dX4_digest_7 (by decide) ?_
      refine lv_icmp_gt (tgt := 31) X.1 X.2.1 dX4_digest_9 (by decide) (fun c15 => ?_) (fun c15 => ?_)
      ·
        exact absurd c15 (by decide)
      ·
        refine lv_lload_n X.1 X.2.1 dX4_digest_12 rfl (lv_at hl 1 rfl) ?_
        refine lv_ldc2 (v := 31) X.1 X.2.1 X.2.2.2.1 (X.2.2.2.2 _ kw_272) dX4_digest_13 ?_
        refine lv_lmul X.1 X.2.1 dX4_digest_16 ?_
        refine lv_aload_n X.1 X.2.1 dX4_digest_17 rfl (lv_at hl 2 rfl) ?_
        refine lv_iload_n X.1 X.2.1 dX4_digest_18 rfl (lv_at hl 0 rfl) ?_
        have h17 : (erW 10 2) = 0 := (by decide)
        refine w_calli cn w (w_runV (n := 1) (As := [.int 2]) X cn w (lt17 (by decide)) wC_0 rfl (fun sz => met_of (c_X4_many l D ca ad E11 F L S n hlt q wf 2 0 0 (fun h => (h h17).elim) sz) h17) (bg_V kw_273 kw_180 kw_181 kw_31 kw_182) rfl rfl (by decide +kernel) ⟨(Nat.le_of_ble_eq_true rfl), (Nat.le_of_ble_eq_true rfl)⟩ rfl hl.1 rfl (Nat.le_of_ble_eq_true rfl) dX4_digest_19 ⟨(Nat.le_of_ble_eq_true rfl), (Nat.le_of_ble_eq_true rfl)⟩) (fun r16 u H locs hp w => ?_)
        obtain ⟨E18, q19⟩ := u
        obtain ⟨-, rfl, h20⟩ := hp
        have h20 : q19 = (F, L, S, n) := h20
        subst h20
        refine lv_i2l X.1 X.2.1 dX4_digest_22 rfl ?_
        refine lv_ladd X.1 X.2.1 dX4_digest_23 ?_
        refine lv_topl (fun x21 ex21 => ?_)
        refine lv_lstore_n (lv' := [(1, .long x21), (3, .int 2), (0, .ref (ad 0))]) X.1 X.2.1 dX4_digest_24 rfl hl (by decide) rfl (fun ls hl => ?_)
        refine lv_iinc (v := 3) (lv' := [(3, .int 3), (1, .long x21), (0, .ref (ad 0))]) X.1 X.2.1 dX4_digest_25 hl (k := 1) rfl (by decide) (by decide) rfl (fun ls hl => ?_)
        refine lv_goto (tgt := 6) X.1 X.2.1 dX4_digest_28 (by decide) ?_
        refine lv_iload_n X.1 X.2.1 dX4_digest_6 rfl (lv_at hl 0 rfl) ?_
        refine lv_bipush (v := 10) X.1 X.2.1 dX4_digest_7 (by decide) ?_
        refine lv_icmp_gt (tgt := 31) X.1 X.2.1 dX4_digest_9 (by decide) (fun c22 => ?_) (fun c22 => ?_)
        ·
          exact absurd c22 (by decide)
        ·
          refine lv_lload_n X.1 X.2.1 dX4_digest_12 rfl (lv_at hl 1 rfl) ?_
          refine lv_ldc2 (v := 31) X.1 X.2.1 X.2.2.2.1 (X.2.2.2.2 _ kw_272) dX4_digest_13 ?_
          refine lv_lmul X.1 X.2.1 dX4_digest_16 ?_
          refine lv_aload_n X.1 X.2.1 dX4_digest_17 rfl (lv_at hl 2 rfl) ?_
          refine lv_iload_n X.1 X.2.1 dX4_digest_18 rfl (lv_at hl 0 rfl) ?_
          have h24 : (erW 10 3) = 0 := (by decide)
          refine w_calli cn w (w_runV (n := 1) (As := [.int 3]) X cn w (lt17 (by decide)) wC_0 rfl (fun sz => met_of (c_X4_many l D ca ad E18 F L S n hlt q wf 3 0 0 (fun h => (h h24).elim) sz) h24) (bg_V kw_273 kw_180 kw_181 kw_31 kw_182) rfl rfl (by decide +kernel) ⟨(Nat.le_of_ble_eq_true rfl), (Nat.le_of_ble_eq_true rfl)⟩ rfl hl.1 rfl (Nat.le_of_ble_eq_true rfl) dX4_digest_19 ⟨(Nat.le_of_ble_eq_true rfl), (Nat.le_of_ble_eq_true rfl)⟩) (fun r23 u H locs hp w => ?_)
          obtain ⟨E25, q26⟩ := u
          obtain ⟨-, rfl, h27⟩ := hp
          have h27 : q26 = (F, L, S, n) := h27
          subst h27
          refine lv_i2l X.1 X.2.1 dX4_digest_22 rfl ?_
          refine lv_ladd X.1 X.2.1 dX4_digest_23 ?_
          refine lv_topl (fun x28 ex28 => ?_)
          refine lv_lstore_n (lv' := [(1, .long x28), (3, .int 3), (0, .ref (ad 0))]) X.1 X.2.1 dX4_digest_24 rfl hl (by decide) rfl (fun ls hl => ?_)
          refine lv_iinc (v := 4) (lv' := [(3, .int 4), (1, .long x28), (0, .ref (ad 0))]) X.1 X.2.1 dX4_digest_25 hl (k := 1) rfl (by decide) (by decide) rfl (fun ls hl => ?_)
          refine lv_goto (tgt := 6) X.1 X.2.1 dX4_digest_28 (by decide) ?_
          refine lv_iload_n X.1 X.2.1 dX4_digest_6 rfl (lv_at hl 0 rfl) ?_
          refine lv_bipush (v := 10) X.1 X.2.1 dX4_digest_7 (by decide) ?_
          refine lv_icmp_gt (tgt := 31) X.1 X.2.1 dX4_digest_9 (by decide) (fun c29 => ?_) (fun c29 => ?_)
          ·
            exact absurd c29 (by decide)
          ·
            refine lv_lload_n X.1 X.2.1 dX4_digest_12 rfl (lv_at hl 1 rfl) ?_
            refine lv_ldc2 (v := 31) X.1 X.2.1 X.2.2.2.1 (X.2.2.2.2 _ kw_272) dX4_digest_13 ?_
            refine lv_lmul X.1 X.2.1 dX4_digest_16 ?_
            refine lv_aload_n X.1 X.2.1 dX4_digest_17 rfl (lv_at hl 2 rfl) ?_
            refine lv_iload_n X.1 X.2.1 dX4_digest_18 rfl (lv_at hl 0 rfl) ?_
            have h31 : (erW 10 4) = 0 := (by decide)
            refine w_calli cn w (w_runV (n := 1) (As := [.int 4]) X cn w (lt17 (by decide)) wC_0 rfl (fun sz => met_of (c_X4_many l D ca ad E25 F L S n hlt q wf 4 0 0 (fun h => (h h31).elim) sz) h31) (bg_V kw_273 kw_180 kw_181 kw_31 kw_182) rfl rfl (by decide +kernel) ⟨(Nat.le_of_ble_eq_true rfl), (Nat.le_of_ble_eq_true rfl)⟩ rfl hl.1 rfl (Nat.le_of_ble_eq_true rfl) dX4_digest_19 ⟨(Nat.le_of_ble_eq_true rfl), (Nat.le_of_ble_eq_true rfl)⟩) (fun r30 u H locs hp w => ?_)
            obtain ⟨E32, q33⟩ := u
            obtain ⟨-, rfl, h34⟩ := hp
            have h34 : q33 = (F, L, S, n) := h34
            subst h34
            refine lv_i2l X.1 X.2.1 dX4_digest_22 rfl ?_
            refine lv_ladd X.1 X.2.1 dX4_digest_23 ?_
            refine lv_topl (fun x35 ex35 => ?_)
            refine lv_lstore_n (lv' := [(1, .long x35), (3, .int 4), (0, .ref (ad 0))]) X.1 X.2.1 dX4_digest_24 rfl hl (by decide) rfl (fun ls hl => ?_)
            refine lv_iinc (v := 5) (lv' := [(3, .int 5), (1, .long x35), (0, .ref (ad 0))]) X.1 X.2.1 dX4_digest_25 hl (k := 1) rfl (by decide) (by decide) rfl (fun ls hl => ?_)
            refine lv_goto (tgt := 6) X.1 X.2.1 dX4_digest_28 (by decide) ?_
            refine lv_iload_n X.1 X.2.1 dX4_digest_6 rfl (lv_at hl 0 rfl) ?_
            refine lv_bipush (v := 10) X.1 X.2.1 dX4_digest_7 (by decide) ?_
            refine lv_icmp_gt (tgt := 31) X.1 X.2.1 dX4_digest_9 (by decide) (fun c36 => ?_) (fun c36 => ?_)
            ·
              exact absurd c36 (by decide)
            ·
              refine lv_lload_n X.1 X.2.1 dX4_digest_12 rfl (lv_at hl 1 rfl) ?_
              refine lv_ldc2 (v := 31) X.1 X.2.1 X.2.2.2.1 (X.2.2.2.2 _ kw_272) dX4_digest_13 ?_
              refine lv_lmul X.1 X.2.1 dX4_digest_16 ?_
              refine lv_aload_n X.1 X.2.1 dX4_digest_17 rfl (lv_at hl 2 rfl) ?_
              refine lv_iload_n X.1 X.2.1 dX4_digest_18 rfl (lv_at hl 0 rfl) ?_
              have h38 : (erW 10 5) = 0 := (by decide)
              refine w_calli cn w (w_runV (n := 1) (As := [.int 5]) X cn w (lt17 (by decide)) wC_0 rfl (fun sz => met_of (c_X4_many l D ca ad E32 F L S n hlt q wf 5 0 0 (fun h => (h h38).elim) sz) h38) (bg_V kw_273 kw_180 kw_181 kw_31 kw_182) rfl rfl (by decide +kernel) ⟨(Nat.le_of_ble_eq_true rfl), (Nat.le_of_ble_eq_true rfl)⟩ rfl hl.1 rfl (Nat.le_of_ble_eq_true rfl) dX4_digest_19 ⟨(Nat.le_of_ble_eq_true rfl), (Nat.le_of_ble_eq_true rfl)⟩) (fun r37 u H locs hp w => ?_)
              obtain ⟨E39, q40⟩ := u
              obtain ⟨-, rfl, h41⟩ := hp
              have h41 : q40 = (F, L, S, n) := h41
              subst h41
              refine lv_i2l X.1 X.2.1 dX4_digest_22 rfl ?_
              refine lv_ladd X.1 X.2.1 dX4_digest_23 ?_
              refine lv_topl (fun x42 ex42 => ?_)
              refine lv_lstore_n (lv' := [(1, .long x42), (3, .int 5), (0, .ref (ad 0))]) X.1 X.2.1 dX4_digest_24 rfl hl (by decide) rfl (fun ls hl => ?_)
              refine lv_iinc (v := 6) (lv' := [(3, .int 6), (1, .long x42), (0, .ref (ad 0))]) X.1 X.2.1 dX4_digest_25 hl (k := 1) rfl (by decide) (by decide) rfl (fun ls hl => ?_)
              refine lv_goto (tgt := 6) X.1 X.2.1 dX4_digest_28 (by decide) ?_
              refine lv_iload_n X.1 X.2.1 dX4_digest_6 rfl (lv_at hl 0 rfl) ?_
              refine lv_bipush (v := 10) X.1 X.2.1 dX4_digest_7 (by decide) ?_
              refine lv_icmp_gt (tgt := 31) X.1 X.2.1 dX4_digest_9 (by decide) (fun c43 => ?_) (fun c43 => ?_)
              ·
                exact absurd c43 (by decide)
              ·
                refine lv_lload_n X.1 X.2.1 dX4_digest_12 rfl (lv_at hl 1 rfl) ?_
                refine lv_ldc2 (v := 31) X.1 X.2.1 X.2.2.2.1 (X.2.2.2.2 _ kw_272) dX4_digest_13 ?_
                refine lv_lmul X.1 X.2.1 dX4_digest_16 ?_
                refine lv_aload_n X.1 X.2.1 dX4_digest_17 rfl (lv_at hl 2 rfl) ?_
                refine lv_iload_n X.1 X.2.1 dX4_digest_18 rfl (lv_at hl 0 rfl) ?_
                have h45 : (erW 10 6) = 0 := (by decide)
                refine w_calli cn w (w_runV (n := 1) (As := [.int 6]) X cn w (lt17 (by decide)) wC_0 rfl (fun sz => met_of (c_X4_many l D ca ad E39 F L S n hlt q wf 6 0 0 (fun h => (h h45).elim) sz) h45) (bg_V kw_273 kw_180 kw_181 kw_31 kw_182) rfl rfl (by decide +kernel) ⟨(Nat.le_of_ble_eq_true rfl), (Nat.le_of_ble_eq_true rfl)⟩ rfl hl.1 rfl (Nat.le_of_ble_eq_true rfl) dX4_digest_19 ⟨(Nat.le_of_ble_eq_true rfl), (Nat.le_of_ble_eq_true rfl)⟩) (fun r44 u H locs hp w => ?_)
                obtain ⟨E46, q47⟩ := u
                obtain ⟨-, rfl, h48⟩ := hp
                have h48 : q47 = (F, L, S, n) := h48
                subst h48
                refine lv_i2l X.1 X.2.1 dX4_digest_22 rfl ?_
                refine lv_ladd X.1 X.2.1 dX4_digest_23 ?_
                refine lv_topl (fun x49 ex49 => ?_)
                refine lv_lstore_n (lv' := [(1, .long x49), (3, .int 6), (0, .ref (ad 0))]) X.1 X.2.1 dX4_digest_24 rfl hl (by decide) rfl (fun ls hl => ?_)
                refine lv_iinc (v := 7) (lv' := [(3, .int 7), (1, .long x49), (0, .ref (ad 0))]) X.1 X.2.1 dX4_digest_25 hl (k := 1) rfl (by decide) (by decide) rfl (fun ls hl => ?_)
                refine lv_goto (tgt := 6) X.1 X.2.1 dX4_digest_28 (by decide) ?_
                refine lv_iload_n X.1 X.2.1 dX4_digest_6 rfl (lv_at hl 0 rfl) ?_
                refine lv_bipush (v := 10) X.1 X.2.1 dX4_digest_7 (by decide) ?_
                refine lv_icmp_gt (tgt := 31) X.1 X.2.1 dX4_digest_9 (by decide) (fun c50 => ?_) (fun c50 => ?_)
                ·
                  exact absurd c50 (by decide)
                ·
                  refine lv_lload_n X.1 X.2.1 dX4_digest_12 rfl (lv_at hl 1 rfl) ?_
                  refine lv_ldc2 (v := 31) X.1 X.2.1 X.2.2.2.1 (X.2.2.2.2 _ kw_272) dX4_digest_13 ?_
                  refine lv_lmul X.1 X.2.1 dX4_digest_16 ?_
                  refine lv_aload_n X.1 X.2.1 dX4_digest_17 rfl (lv_at hl 2 rfl) ?_
                  refine lv_iload_n X.1 X.2.1 dX4_digest_18 rfl (lv_at hl 0 rfl) ?_
                  have h52 : (erW 10 7) = 0 := (by decide)
                  refine w_calli cn w (w_runV (n := 1) (As := [.int 7]) X cn w (lt17 (by decide)) wC_0 rfl (fun sz => met_of (c_X4_many l D ca ad E46 F L S n hlt q wf 7 0 0 (fun h => (h h52).elim) sz) h52) (bg_V kw_273 kw_180 kw_181 kw_31 kw_182) rfl rfl (by decide +kernel) ⟨(Nat.le_of_ble_eq_true rfl), (Nat.le_of_ble_eq_true rfl)⟩ rfl hl.1 rfl (Nat.le_of_ble_eq_true rfl) dX4_digest_19 ⟨(Nat.le_of_ble_eq_true rfl), (Nat.le_of_ble_eq_true rfl)⟩) (fun r51 u H locs hp w => ?_)
                  obtain ⟨E53, q54⟩ := u
                  obtain ⟨-, rfl, h55⟩ := hp
                  have h55 : q54 = (F, L, S, n) := h55
                  subst h55
                  refine lv_i2l X.1 X.2.1 dX4_digest_22 rfl ?_
                  refine lv_ladd X.1 X.2.1 dX4_digest_23 ?_
                  refine lv_topl (fun x56 ex56 => ?_)
                  refine lv_lstore_n (lv' := [(1, .long x56), (3, .int 7), (0, .ref (ad 0))]) X.1 X.2.1 dX4_digest_24 rfl hl (by decide) rfl (fun ls hl => ?_)
                  refine lv_iinc (v := 8) (lv' := [(3, .int 8), (1, .long x56), (0, .ref (ad 0))]) X.1 X.2.1 dX4_digest_25 hl (k := 1) rfl (by decide) (by decide) rfl (fun ls hl => ?_)
                  refine lv_goto (tgt := 6) X.1 X.2.1 dX4_digest_28 (by decide) ?_
                  refine lv_iload_n X.1 X.2.1 dX4_digest_6 rfl (lv_at hl 0 rfl) ?_
                  refine lv_bipush (v := 10) X.1 X.2.1 dX4_digest_7 (by decide) ?_
                  refine lv_icmp_gt (tgt := 31) X.1 X.2.1 dX4_digest_9 (by decide) (fun c57 => ?_) (fun c57 => ?_)
                  ·
                    exact absurd c57 (by decide)
                  ·
                    refine lv_lload_n X.1 X.2.1 dX4_digest_12 rfl (lv_at hl 1 rfl) ?_
                    refine lv_ldc2 (v := 31) X.1 X.2.1 X.2.2.2.1 (X.2.2.2.2 _ kw_272) dX4_digest_13 ?_
                    refine lv_lmul X.1 X.2.1 dX4_digest_16 ?_
                    refine lv_aload_n X.1 X.2.1 dX4_digest_17 rfl (lv_at hl 2 rfl) ?_
                    refine lv_iload_n X.1 X.2.1 dX4_digest_18 rfl (lv_at hl 0 rfl) ?_
                    have h59 : (erW 10 8) = 0 := (by decide)
                    refine w_calli cn w (w_runV (n := 1) (As := [.int 8]) X cn w (lt17 (by decide)) wC_0 rfl (fun sz => met_of (c_X4_many l D ca ad E53 F L S n hlt q wf 8 0 0 (fun h => (h h59).elim) sz) h59) (bg_V kw_273 kw_180 kw_181 kw_31 kw_182) rfl rfl (by decide +kernel) ⟨(Nat.le_of_ble_eq_true rfl), (Nat.le_of_ble_eq_true rfl)⟩ rfl hl.1 rfl (Nat.le_of_ble_eq_true rfl) dX4_digest_19 ⟨(Nat.le_of_ble_eq_true rfl), (Nat.le_of_ble_eq_true rfl)⟩) (fun r58 u H locs hp w => ?_)
                    obtain ⟨E60, q61⟩ := u
                    obtain ⟨-, rfl, h62⟩ := hp
                    have h62 : q61 = (F, L, S, n) := h62
                    subst h62
                    refine lv_i2l X.1 X.2.1 dX4_digest_22 rfl ?_
                    refine lv_ladd X.1 X.2.1 dX4_digest_23 ?_
                    refine lv_topl (fun x63 ex63 => ?_)
                    refine lv_lstore_n (lv' := [(1, .long x63), (3, .int 8), (0, .ref (ad 0))]) X.1 X.2.1 dX4_digest_24 rfl hl (by decide) rfl (fun ls hl => ?_)
                    refine lv_iinc (v := 9) (lv' := [(3, .int 9), (1, .long x63), (0, .ref (ad 0))]) X.1 X.2.1 dX4_digest_25 hl (k := 1) rfl (by decide) (by decide) rfl (fun ls hl => ?_)
                    refine lv_goto (tgt := 6) X.1 X.2.1 dX4_digest_28 (by decide) ?_
                    refine lv_iload_n X.1 X.2.1 dX4_digest_6 rfl (lv_at hl 0 rfl) ?_
                    refine lv_bipush (v := 10) X.1 X.2.1 dX4_digest_7 (by decide) ?_
                    refine lv_icmp_gt (tgt := 31) X.1 X.2.1 dX4_digest_9 (by decide) (fun c64 => ?_) (fun c64 => ?_)
                    ·
                      exact absurd c64 (by decide)
                    ·
                      refine lv_lload_n X.1 X.2.1 dX4_digest_12 rfl (lv_at hl 1 rfl) ?_
                      refine lv_ldc2 (v := 31) X.1 X.2.1 X.2.2.2.1 (X.2.2.2.2 _ kw_272) dX4_digest_13 ?_
                      refine lv_lmul X.1 X.2.1 dX4_digest_16 ?_
                      refine lv_aload_n X.1 X.2.1 dX4_digest_17 rfl (lv_at hl 2 rfl) ?_
                      refine lv_iload_n X.1 X.2.1 dX4_digest_18 rfl (lv_at hl 0 rfl) ?_
                      have h66 : (erW 10 9) = 0 := (by decide)
                      refine w_calli cn w (w_runV (n := 1) (As := [.int 9]) X cn w (lt17 (by decide)) wC_0 rfl (fun sz => met_of (c_X4_many l D ca ad E60 F L S n hlt q wf 9 0 0 (fun h => (h h66).elim) sz) h66) (bg_V kw_273 kw_180 kw_181 kw_31 kw_182) rfl rfl (by decide +kernel) ⟨(Nat.le_of_ble_eq_true rfl), (Nat.le_of_ble_eq_true rfl)⟩ rfl hl.1 rfl (Nat.le_of_ble_eq_true rfl) dX4_digest_19 ⟨(Nat.le_of_ble_eq_true rfl), (Nat.le_of_ble_eq_true rfl)⟩) (fun r65 u H locs hp w => ?_)
                      obtain ⟨E67, q68⟩ := u
                      obtain ⟨-, rfl, h69⟩ := hp
                      have h69 : q68 = (F, L, S, n) := h69
                      subst h69
                      refine lv_i2l X.1 X.2.1 dX4_digest_22 rfl ?_
                      refine lv_ladd X.1 X.2.1 dX4_digest_23 ?_
                      refine lv_topl (fun x70 ex70 => ?_)
                      refine lv_lstore_n (lv' := [(1, .long x70), (3, .int 9), (0, .ref (ad 0))]) X.1 X.2.1 dX4_digest_24 rfl hl (by decide) rfl (fun ls hl => ?_)
                      refine lv_iinc (v := 10) (lv' := [(3, .int 10), (1, .long x70), (0, .ref (ad 0))]) X.1 X.2.1 dX4_digest_25 hl (k := 1) rfl (by decide) (by decide) rfl (fun ls hl => ?_)
                      refine lv_goto (tgt := 6) X.1 X.2.1 dX4_digest_28 (by decide) ?_
                      refine lv_iload_n X.1 X.2.1 dX4_digest_6 rfl (lv_at hl 0 rfl) ?_
                      refine lv_bipush (v := 10) X.1 X.2.1 dX4_digest_7 (by decide) ?_
                      refine lv_icmp_gt (tgt := 31) X.1 X.2.1 dX4_digest_9 (by decide) (fun c71 => ?_) (fun c71 => ?_)
                      ·
                        exact absurd c71 (by decide)
                      ·
                        refine lv_lload_n X.1 X.2.1 dX4_digest_12 rfl (lv_at hl 1 rfl) ?_
                        refine lv_ldc2 (v := 31) X.1 X.2.1 X.2.2.2.1 (X.2.2.2.2 _ kw_272) dX4_digest_13 ?_
                        refine lv_lmul X.1 X.2.1 dX4_digest_16 ?_
                        refine lv_aload_n X.1 X.2.1 dX4_digest_17 rfl (lv_at hl 2 rfl) ?_
                        refine lv_iload_n X.1 X.2.1 dX4_digest_18 rfl (lv_at hl 0 rfl) ?_
                        have h73 : (erW 10 10) = 0 := (by decide)
                        refine w_calli cn w (w_runV (n := 1) (As := [.int 10]) X cn w (lt17 (by decide)) wC_0 rfl (fun sz => met_of (c_X4_many l D ca ad E67 F L S n hlt q wf 10 0 0 (fun h => (h h73).elim) sz) h73) (bg_V kw_273 kw_180 kw_181 kw_31 kw_182) rfl rfl (by decide +kernel) ⟨(Nat.le_of_ble_eq_true rfl), (Nat.le_of_ble_eq_true rfl)⟩ rfl hl.1 rfl (Nat.le_of_ble_eq_true rfl) dX4_digest_19 ⟨(Nat.le_of_ble_eq_true rfl), (Nat.le_of_ble_eq_true rfl)⟩) (fun r72 u H locs hp w => ?_)
                        obtain ⟨E74, q75⟩ := u
                        obtain ⟨-, rfl, h76⟩ := hp
                        have h76 : q75 = (F, L, S, n) := h76
                        subst h76
                        refine lv_i2l X.1 X.2.1 dX4_digest_22 rfl ?_
                        refine lv_ladd X.1 X.2.1 dX4_digest_23 ?_
                        refine lv_topl (fun x77 ex77 => ?_)
                        refine lv_lstore_n (lv' := [(1, .long x77), (3, .int 10), (0, .ref (ad 0))]) X.1 X.2.1 dX4_digest_24 rfl hl (by decide) rfl (fun ls hl => ?_)
                        refine lv_iinc (v := 11) (lv' := [(3, .int 11), (1, .long x77), (0, .ref (ad 0))]) X.1 X.2.1 dX4_digest_25 hl (k := 1) rfl (by decide) (by decide) rfl (fun ls hl => ?_)
                        refine lv_goto (tgt := 6) X.1 X.2.1 dX4_digest_28 (by decide) ?_
                        refine lv_iload_n X.1 X.2.1 dX4_digest_6 rfl (lv_at hl 0 rfl) ?_
                        refine lv_bipush (v := 10) X.1 X.2.1 dX4_digest_7 (by decide) ?_
                        refine lv_icmp_gt (tgt := 31) X.1 X.2.1 dX4_digest_9 (by decide) (fun c78 => ?_) (fun c78 => ?_)
                        ·
                          refine lv_iconst (v := 0) X.1 X.2.1 dX4_digest_31 (by decide) ?_
                          refine lv_istore_n (lv' := [(3, .int 0), (1, .long x77), (0, .ref (ad 0))]) X.1 X.2.1 dX4_digest_32 rfl hl (by decide) rfl (fun ls hl => ?_)
                          refine lv_iload_n X.1 X.2.1 dX4_digest_33 rfl (lv_at hl 0 rfl) ?_
                          refine lv_aload_n X.1 X.2.1 dX4_digest_34 rfl (lv_at hl 2 rfl) ?_
                          refine g_L X w 0 (by decide) (v := .ref (ad 14)) rfl kw_145 dX4_digest_35 ?_
                          refine len_P X w dX4_digest_38 ?_
                          refine lv_icmp_ge (tgt := 78) X.1 X.2.1 dX4_digest_39 (by decide) (fun c79 => ?_) (fun c79 => ?_)
                          ·
                            exact absurd c79 (by decide)
                          ·
                            refine lv_iconst (v := 0) X.1 X.2.1 dX4_digest_42 (by decide) ?_
                            refine lv_istore (lv' := [(4, .int 0), (3, .int 0), (1, .long x77), (0, .ref (ad 0))]) X.1 X.2.1 dX4_digest_43 hl (by decide) rfl (fun ls hl => ?_)
                            refine lv_iload X.1 X.2.1 dX4_digest_45 (lv_at hl 0 rfl) ?_
                            refine lv_iconst (v := 5) X.1 X.2.1 dX4_digest_47 (by decide) ?_
                            refine lv_icmp_gt (tgt := 72) X.1 X.2.1 dX4_digest_48 (by decide) (fun c80 => ?_) (fun c80 => ?_)
                            ·
                              exact absurd c80 (by decide)
                            ·
                              refine lv_lload_n X.1 X.2.1 dX4_digest_51 rfl (lv_at hl 2 rfl) ?_
                              refine lv_ldc2 (v := 31) X.1 X.2.1 X.2.2.2.1 (X.2.2.2.2 _ kw_272) dX4_digest_52 ?_
                              refine lv_lmul X.1 X.2.1 dX4_digest_55 ?_
                              refine lv_aload_n X.1 X.2.1 dX4_digest_56 rfl (lv_at hl 3 rfl) ?_
                              refine lv_iload_n X.1 X.2.1 dX4_digest_57 rfl (lv_at hl 1 rfl) ?_
                              refine lv_iload X.1 X.2.1 dX4_digest_58 (lv_at hl 0 rfl) ?_
                              have h82 : (er_ofPaper 0 0) = 0 := (by rw [er_ofPaper, if_pos (by decide)]; decide)
                              refine w_calli cn w (w_runV (n := 2) (As := [.int 0, .int 0]) X cn w (lt17 (by decide)) wC_0 rfl (fun sz => met_of (c_X4_ofPaper l D ca ad E74 F L S n hlt q wf 0 0 0 0 (fun h => (h h82).elim) sz) h82) (bg_V kw_274 kw_275 kw_276 kw_31 kw_277) rfl rfl (by decide +kernel) ⟨(Nat.le_of_ble_eq_true rfl), (Nat.le_of_ble_eq_true rfl)⟩ rfl hl.1 rfl (Nat.le_of_ble_eq_true rfl) dX4_digest_60 ⟨(Nat.le_of_ble_eq_true rfl), (Nat.le_of_ble_eq_true rfl)⟩) (fun r81 u H locs hp w => ?_)
                              obtain ⟨E83, q84⟩ := u
                              obtain ⟨-, rfl, h85⟩ := hp
                              have h85 : q84 = (F, L, S, n) := h85
                              subst h85
                              refine lv_i2l X.1 X.2.1 dX4_digest_63 rfl ?_
                              refine lv_ladd X.1 X.2.1 dX4_digest_64 ?_
                              refine lv_topl (fun x86 ex86 => ?_)
                              refine lv_lstore_n (lv' := [(1, .long x86), (4, .int 0), (3, .int 0), (0, .ref (ad 0))]) X.1 X.2.1 dX4_digest_65 rfl hl (by decide) rfl (fun ls hl => ?_)
                              refine lv_iinc (v := 1) (lv' := [(4, .int 1), (1, .long x86), (3, .int 0), (0, .ref (ad 0))]) X.1 X.2.1 dX4_digest_66 hl (k := 1) rfl (by decide) (by decide) rfl (fun ls hl => ?_)
                              refine lv_goto (tgt := 45) X.1 X.2.1 dX4_digest_69 (by decide) ?_
                              refine lv_iload X.1 X.2.1 dX4_digest_45 (lv_at hl 0 rfl) ?_
                              refine lv_iconst (v := 5) X.1 X.2.1 dX4_digest_47 (by decide) ?_
                              refine lv_icmp_gt (tgt := 72) X.1 X.2.1 dX4_digest_48 (by decide) (fun c87 => ?_) (fun c87 => ?_)
                              ·
                                exact absurd c87 (by decide)
                              ·
                                refine lv_lload_n X.1 X.2.1 dX4_digest_51 rfl (lv_at hl 1 rfl) ?_
                                refine lv_ldc2 (v := 31) X.1 X.2.1 X.2.2.2.1 (X.2.2.2.2 _ kw_272) dX4_digest_52 ?_
                                refine lv_lmul X.1 X.2.1 dX4_digest_55 ?_
                                refine lv_aload_n X.1 X.2.1 dX4_digest_56 rfl (lv_at hl 3 rfl) ?_
                                refine lv_iload_n X.1 X.2.1 dX4_digest_57 rfl (lv_at hl 2 rfl) ?_
                                refine lv_iload X.1 X.2.1 dX4_digest_58 (lv_at hl 0 rfl) ?_
                                have h89 : (er_ofPaper 0 1) = 0 := (by rw [er_ofPaper, if_pos (by decide)]; decide)
                                refine w_calli cn w (w_runV (n := 2) (As := [.int 0, .int 1]) X cn w (lt17 (by decide)) wC_0 rfl (fun sz => met_of (c_X4_ofPaper l D ca ad E83 F L S n hlt q wf 0 1 0 0 (fun h => (h h89).elim) sz) h89) (bg_V kw_274 kw_275 kw_276 kw_31 kw_277) rfl rfl (by decide +kernel) ⟨(Nat.le_of_ble_eq_true rfl), (Nat.le_of_ble_eq_true rfl)⟩ rfl hl.1 rfl (Nat.le_of_ble_eq_true rfl) dX4_digest_60 ⟨(Nat.le_of_ble_eq_true rfl), (Nat.le_of_ble_eq_true rfl)⟩) (fun r88 u H locs hp w => ?_)
                                obtain ⟨E90, q91⟩ := u
                                obtain ⟨-, rfl, h92⟩ := hp
                                have h92 : q91 = (F, L, S, n) := h92
                                subst h92
                                refine lv_i2l X.1 X.2.1 dX4_digest_63 rfl ?_
                                refine lv_ladd X.1 X.2.1 dX4_digest_64 ?_
                                refine lv_topl (fun x93 ex93 => ?_)
                                refine lv_lstore_n (lv' := [(1, .long x93), (4, .int 1), (3, .int 0), (0, .ref (ad 0))]) X.1 X.2.1 dX4_digest_65 rfl hl (by decide) rfl (fun ls hl => ?_)
                                refine lv_iinc (v := 2) (lv' := [(4, .int 2), (1, .long x93), (3, .int 0), (0, .ref (ad 0))]) X.1 X.2.1 dX4_digest_66 hl (k := 1) rfl (by decide) (by decide) rfl (fun ls hl => ?_)
                                refine lv_goto (tgt := 45) X.1 X.2.1 dX4_digest_69 (by decide) ?_
                                refine lv_iload X.1 X.2.1 dX4_digest_45 (lv_at hl 0 rfl) ?_
                                refine lv_iconst (v := 5) X.1 X.2.1 dX4_digest_47 (by decide) ?_
                                refine lv_icmp_gt (tgt := 72) X.1 X.2.1 dX4_digest_48 (by decide) (fun c94 => ?_) (fun c94 => ?_)
                                ·
                                  exact absurd c94 (by decide)
                                ·
                                  refine lv_lload_n X.1 X.2.1 dX4_digest_51 rfl (lv_at hl 1 rfl) ?_
                                  refine lv_ldc2 (v := 31) X.1 X.2.1 X.2.2.2.1 (X.2.2.2.2 _ kw_272) dX4_digest_52 ?_
                                  refine lv_lmul X.1 X.2.1 dX4_digest_55 ?_
                                  refine lv_aload_n X.1 X.2.1 dX4_digest_56 rfl (lv_at hl 3 rfl) ?_
                                  refine lv_iload_n X.1 X.2.1 dX4_digest_57 rfl (lv_at hl 2 rfl) ?_
                                  refine lv_iload X.1 X.2.1 dX4_digest_58 (lv_at hl 0 rfl) ?_
                                  have h96 : (er_ofPaper 0 2) = 0 := (by rw [er_ofPaper, if_pos (by decide)]; decide)
                                  refine w_calli cn w (w_runV (n := 2) (As := [.int 0, .int 2]) X cn w (lt17 (by decide)) wC_0 rfl (fun sz => met_of (c_X4_ofPaper l D ca ad E90 F L S n hlt q wf 0 2 0 0 (fun h => (h h96).elim) sz) h96) (bg_V kw_274 kw_275 kw_276 kw_31 kw_277) rfl rfl (by decide +kernel) ⟨(Nat.le_of_ble_eq_true rfl), (Nat.le_of_ble_eq_true rfl)⟩ rfl hl.1 rfl (Nat.le_of_ble_eq_true rfl) dX4_digest_60 ⟨(Nat.le_of_ble_eq_true rfl), (Nat.le_of_ble_eq_true rfl)⟩) (fun r95 u H locs hp w => ?_)
                                  obtain ⟨E97, q98⟩ := u
                                  obtain ⟨-, rfl, h99⟩ := hp
                                  have h99 : q98 = (F, L, S, n) := h99
                                  subst h99
                                  refine lv_i2l X.1 X.2.1 dX4_digest_63 rfl ?_
                                  refine lv_ladd X.1 X.2.1 dX4_digest_64 ?_
                                  refine lv_topl (fun x100 ex100 => ?_)
                                  refine lv_lstore_n (lv' := [(1, .long x100), (4, .int 2), (3, .int 0), (0, .ref (ad 0))]) X.1 X.2.1 dX4_digest_65 rfl hl (by decide) rfl (fun ls hl => ?_)
                                  refine lv_iinc (v := 3) (lv' := [(4, .int 3), (1, .long x100), (3, .int 0), (0, .ref (ad 0))]) X.1 X.2.1 dX4_digest_66 hl (k := 1) rfl (by decide) (by decide) rfl (fun ls hl => ?_)
                                  refine lv_goto (tgt := 45) X.1 X.2.1 dX4_digest_69 (by decide) ?_
                                  refine lv_iload X.1 X.2.1 dX4_digest_45 (lv_at hl 0 rfl) ?_
                                  refine lv_iconst (v := 5) X.1 X.2.1 dX4_digest_47 (by decide) ?_
                                  refine lv_icmp_gt (tgt := 72) X.1 X.2.1 dX4_digest_48 (by decide) (fun c101 => ?_) (fun c101 => ?_)
                                  ·
                                    exact absurd c101 (by decide)
                                  ·
                                    refine lv_lload_n X.1 X.2.1 dX4_digest_51 rfl (lv_at hl 1 rfl) ?_
                                    refine lv_ldc2 (v := 31) X.1 X.2.1 X.2.2.2.1 (X.2.2.2.2 _ kw_272) dX4_digest_52 ?_
                                    refine lv_lmul X.1 X.2.1 dX4_digest_55 ?_
                                    refine lv_aload_n X.1 X.2.1 dX4_digest_56 rfl (lv_at hl 3 rfl) ?_
                                    refine lv_iload_n X.1 X.2.1 dX4_digest_57 rfl (lv_at hl 2 rfl) ?_
                                    refine lv_iload X.1 X.2.1 dX4_digest_58 (lv_at hl 0 rfl) ?_
                                    have h103 : (er_ofPaper 0 3) = 0 := (by rw [er_ofPaper, if_pos (by decide)]; decide)
                                    refine w_calli cn w (w_runV (n := 2) (As := [.int 0, .int 3]) X cn w (lt17 (by decide)) wC_0 rfl (fun sz => met_of (c_X4_ofPaper l D ca ad E97 F L S n hlt q wf 0 3 0 0 (fun h => (h h103).elim) sz) h103) (bg_V kw_274 kw_275 kw_276 kw_31 kw_277) rfl rfl (by decide +kernel) ⟨(Nat.le_of_ble_eq_true rfl), (Nat.le_of_ble_eq_true rfl)⟩ rfl hl.1 rfl (Nat.le_of_ble_eq_true rfl) dX4_digest_60 ⟨(Nat.le_of_ble_eq_true rfl), (Nat.le_of_ble_eq_true rfl)⟩) (fun r102 u H locs hp w => ?_)
                                    obtain ⟨E104, q105⟩ := u
                                    obtain ⟨-, rfl, h106⟩ := hp
                                    have h106 : q105 = (F, L, S, n) := h106
                                    subst h106
                                    refine lv_i2l X.1 X.2.1 dX4_digest_63 rfl ?_
                                    refine lv_ladd X.1 X.2.1 dX4_digest_64 ?_
                                    refine lv_topl (fun x107 ex107 => ?_)
                                    refine lv_lstore_n (lv' := [(1, .long x107), (4, .int 3), (3, .int 0), (0, .ref (ad 0))]) X.1 X.2.1 dX4_digest_65 rfl hl (by decide) rfl (fun ls hl => ?_)
                                    refine lv_iinc (v := 4) (lv' := [(4, .int 4), (1, .long x107), (3, .int 0), (0, .ref (ad 0))]) X.1 X.2.1 dX4_digest_66 hl (k := 1) rfl (by decide) (by decide) rfl (fun ls hl => ?_)
                                    refine lv_goto (tgt := 45) X.1 X.2.1 dX4_digest_69 (by decide) ?_
                                    refine lv_iload X.1 X.2.1 dX4_digest_45 (lv_at hl 0 rfl) ?_
                                    refine lv_iconst (v := 5) X.1 X.2.1 dX4_digest_47 (by decide) ?_
                                    refine lv_icmp_gt (tgt := 72) X.1 X.2.1 dX4_digest_48 (by decide) (fun c108 => ?_) (fun c108 => ?_)
                                    ·
                                      exact absurd c108 (by decide)
                                    ·
                                      refine lv_lload_n X.1 X.2.1 dX4_digest_51 rfl (lv_at hl 1 rfl) ?_
                                      refine lv_ldc2 (v := 31) X.1 X.2.1 X.2.2.2.1 (X.2.2.2.2 _ kw_272) dX4_digest_52 ?_
                                      refine lv_lmul X.1 X.2.1 dX4_digest_55 ?_
                                      refine lv_aload_n X.1 X.2.1 dX4_digest_56 rfl (lv_at hl 3 rfl) ?_
                                      refine lv_iload_n X.1 X.2.1 dX4_digest_57 rfl (lv_at hl 2 rfl) ?_
                                      refine lv_iload X.1 X.2.1 dX4_digest_58 (lv_at hl 0 rfl) ?_
                                      have h110 : (er_ofPaper 0 4) = 0 := (by rw [er_ofPaper, if_pos (by decide)]; decide)
                                      refine w_calli cn w (w_runV (n := 2) (As := [.int 0, .int 4]) X cn w (lt17 (by decide)) wC_0 rfl (fun sz => met_of (c_X4_ofPaper l D ca ad E104 F L S n hlt q wf 0 4 0 0 (fun h => (h h110).elim) sz) h110) (bg_V kw_274 kw_275 kw_276 kw_31 kw_277) rfl rfl (by decide +kernel) ⟨(Nat.le_of_ble_eq_true rfl), (Nat.le_of_ble_eq_true rfl)⟩ rfl hl.1 rfl (Nat.le_of_ble_eq_true rfl) dX4_digest_60 ⟨(Nat.le_of_ble_eq_true rfl), (Nat.le_of_ble_eq_true rfl)⟩) (fun r109 u H locs hp w => ?_)
                                      obtain ⟨E111, q112⟩ := u
                                      obtain ⟨-, rfl, h113⟩ := hp
                                      have h113 : q112 = (F, L, S, n) := h113
                                      subst h113
                                      refine lv_i2l X.1 X.2.1 dX4_digest_63 rfl ?_
                                      refine lv_ladd X.1 X.2.1 dX4_digest_64 ?_
                                      refine lv_topl (fun x114 ex114 => ?_)
                                      refine lv_lstore_n (lv' := [(1, .long x114), (4, .int 4), (3, .int 0), (0, .ref (ad 0))]) X.1 X.2.1 dX4_digest_65 rfl hl (by decide) rfl (fun ls hl => ?_)
                                      refine lv_iinc (v := 5) (lv' := [(4, .int 5), (1, .long x114), (3, .int 0), (0, .ref (ad 0))]) X.1 X.2.1 dX4_digest_66 hl (k := 1) rfl (by decide) (by decide) rfl (fun ls hl => ?_)
                                      refine lv_goto (tgt := 45) X.1 X.2.1 dX4_digest_69 (by decide) ?_
                                      refine lv_iload X.1 X.2.1 dX4_digest_45 (lv_at hl 0 rfl) ?_
                                      refine lv_iconst (v := 5) X.1 X.2.1 dX4_digest_47 (by decide) ?_
                                      refine lv_icmp_gt (tgt := 72) X.1 X.2.1 dX4_digest_48 (by decide) (fun c115 => ?_) (fun c115 => ?_)
                                      ·
                                        exact absurd c115 (by decide)
                                      ·
                                        refine lv_lload_n X.1 X.2.1 dX4_digest_51 rfl (lv_at hl 1 rfl) ?_
                                        refine lv_ldc2 (v := 31) X.1 X.2.1 X.2.2.2.1 (X.2.2.2.2 _ kw_272) dX4_digest_52 ?_
                                        refine lv_lmul X.1 X.2.1 dX4_digest_55 ?_
                                        refine lv_aload_n X.1 X.2.1 dX4_digest_56 rfl (lv_at hl 3 rfl) ?_
                                        refine lv_iload_n X.1 X.2.1 dX4_digest_57 rfl (lv_at hl 2 rfl) ?_
                                        refine lv_iload X.1 X.2.1 dX4_digest_58 (lv_at hl 0 rfl) ?_
                                        have h117 : (er_ofPaper 0 5) = 0 := (by rw [er_ofPaper, if_pos (by decide)]; decide)
                                        refine w_calli cn w (w_runV (n := 2) (As := [.int 0, .int 5]) X cn w (lt17 (by decide)) wC_0 rfl (fun sz => met_of (c_X4_ofPaper l D ca ad E111 F L S n hlt q wf 0 5 0 0 (fun h => (h h117).elim) sz) h117) (bg_V kw_274 kw_275 kw_276 kw_31 kw_277) rfl rfl (by decide +kernel) ⟨(Nat.le_of_ble_eq_true rfl), (Nat.le_of_ble_eq_true rfl)⟩ rfl hl.1 rfl (Nat.le_of_ble_eq_true rfl) dX4_digest_60 ⟨(Nat.le_of_ble_eq_true rfl), (Nat.le_of_ble_eq_true rfl)⟩) (fun r116 u H locs hp w => ?_)
                                        obtain ⟨E118, q119⟩ := u
                                        obtain ⟨-, rfl, h120⟩ := hp
                                        have h120 : q119 = (F, L, S, n) := h120
                                        subst h120
                                        refine lv_i2l X.1 X.2.1 dX4_digest_63 rfl ?_
                                        refine lv_ladd X.1 X.2.1 dX4_digest_64 ?_
                                        refine lv_topl (fun x121 ex121 => ?_)
                                        refine lv_lstore_n (lv' := [(1, .long x121), (4, .int 5), (3, .int 0), (0, .ref (ad 0))]) X.1 X.2.1 dX4_digest_65 rfl hl (by decide) rfl (fun ls hl => ?_)
                                        refine lv_iinc (v := 6) (lv' := [(4, .int 6), (1, .long x121), (3, .int 0), (0, .ref (ad 0))]) X.1 X.2.1 dX4_digest_66 hl (k := 1) rfl (by decide) (by decide) rfl (fun ls hl => ?_)
                                        refine lv_goto (tgt := 45) X.1 X.2.1 dX4_digest_69 (by decide) ?_
                                        refine lv_iload X.1 X.2.1 dX4_digest_45 (lv_at hl 0 rfl) ?_
                                        refine lv_iconst (v := 5) X.1 X.2.1 dX4_digest_47 (by decide) ?_
                                        refine lv_icmp_gt (tgt := 72) X.1 X.2.1 dX4_digest_48 (by decide) (fun c122 => ?_) (fun c122 => ?_)
                                        ·
                                          refine lv_iinc (v := 1) (lv' := [(3, .int 1), (4, .int 6), (1, .long x121), (0, .ref (ad 0))]) X.1 X.2.1 dX4_digest_72 hl (k := 2) rfl (by decide) (by decide) rfl (fun ls hl => ?_)
                                          refine lv_goto (tgt := 33) X.1 X.2.1 dX4_digest_75 (by decide) ?_
                                          refine lv_iload_n X.1 X.2.1 dX4_digest_33 rfl (lv_at hl 0 rfl) ?_
                                          refine lv_aload_n X.1 X.2.1 dX4_digest_34 rfl (lv_at hl 3 rfl) ?_
                                          refine g_L X w 0 (by decide) (v := .ref (ad 14)) rfl kw_145 dX4_digest_35 ?_
                                          refine len_P X w dX4_digest_38 ?_
                                          refine lv_icmp_ge (tgt := 78) X.1 X.2.1 dX4_digest_39 (by decide) (fun c123 => ?_) (fun c123 => ?_)
                                          ·
                                            exact absurd c123 (by decide)
                                          ·
                                            refine lv_iconst (v := 0) X.1 X.2.1 dX4_digest_42 (by decide) ?_
                                            refine lv_istore (lv' := [(4, .int 0), (3, .int 1), (1, .long x121), (0, .ref (ad 0))]) X.1 X.2.1 dX4_digest_43 hl (by decide) rfl (fun ls hl => ?_)
                                            refine lv_iload X.1 X.2.1 dX4_digest_45 (lv_at hl 0 rfl) ?_
                                            refine lv_iconst (v := 5) X.1 X.2.1 dX4_digest_47 (by decide) ?_
                                            refine lv_icmp_gt (tgt := 72) X.1 X.2.1 dX4_digest_48 (by decide) (fun c124 => ?_) (fun c124 => ?_)
                                            ·
                                              exact absurd c124 (by decide)
                                            ·
                                              refine lv_lload_n X.1 X.2.1 dX4_digest_51 rfl (lv_at hl 2 rfl) ?_
                                              refine lv_ldc2 (v := 31) X.1 X.2.1 X.2.2.2.1 (X.2.2.2.2 _ kw_272) dX4_digest_52 ?_
                                              refine lv_lmul X.1 X.2.1 dX4_digest_55 ?_
                                              refine lv_aload_n X.1 X.2.1 dX4_digest_56 rfl (lv_at hl 3 rfl) ?_
                                              refine lv_iload_n X.1 X.2.1 dX4_digest_57 rfl (lv_at hl 1 rfl) ?_
                                              refine lv_iload X.1 X.2.1 dX4_digest_58 (lv_at hl 0 rfl) ?_
                                              have h126 : (er_ofPaper 1 0) = 0 := (by rw [er_ofPaper, if_pos (by decide)]; decide)
                                              refine w_calli cn w (w_runV (n := 2) (As := [.int 1, .int 0]) X cn w (lt17 (by decide)) wC_0 rfl (fun sz => met_of (c_X4_ofPaper l D ca ad E118 F L S n hlt q wf 1 0 0 0 (fun h => (h h126).elim) sz) h126) (bg_V kw_274 kw_275 kw_276 kw_31 kw_277) rfl rfl (by decide +kernel) ⟨(Nat.le_of_ble_eq_true rfl), (Nat.le_of_ble_eq_true rfl)⟩ rfl hl.1 rfl (Nat.le_of_ble_eq_true rfl) dX4_digest_60 ⟨(Nat.le_of_ble_eq_true rfl), (Nat.le_of_ble_eq_true rfl)⟩) (fun r125 u H locs hp w => ?_)
                                              obtain ⟨E127, q128⟩ := u
                                              obtain ⟨-, rfl, h129⟩ := hp
                                              have h129 : q128 = (F, L, S, n) := h129
                                              subst h129
                                              refine lv_i2l X.1 X.2.1 dX4_digest_63 rfl ?_
                                              refine lv_ladd X.1 X.2.1 dX4_digest_64 ?_
                                              refine lv_topl (fun x130 ex130 => ?_)
                                              refine lv_lstore_n (lv' := [(1, .long x130), (4, .int 0), (3, .int 1), (0, .ref (ad 0))]) X.1 X.2.1 dX4_digest_65 rfl hl (by decide) rfl (fun ls hl => ?_)
                                              refine lv_iinc (v := 1) (lv' := [(4, .int 1), (1, .long x130), (3, .int 1), (0, .ref (ad 0))]) X.1 X.2.1 dX4_digest_66 hl (k := 1) rfl (by decide) (by decide) rfl (fun ls hl => ?_)
                                              refine lv_goto (tgt := 45) X.1 X.2.1 dX4_digest_69 (by decide) ?_
                                              refine lv_iload X.1 X.2.1 dX4_digest_45 (lv_at hl 0 rfl) ?_
                                              refine lv_iconst (v := 5) X.1 X.2.1 dX4_digest_47 (by decide) ?_
                                              refine lv_icmp_gt (tgt := 72) X.1 X.2.1 dX4_digest_48 (by decide) (fun c131 => ?_) (fun c131 => ?_)
                                              ·
                                                exact absurd c131 (by decide)
                                              ·
                                                refine lv_lload_n X.1 X.2.1 dX4_digest_51 rfl (lv_at hl 1 rfl) ?_
                                                refine lv_ldc2 (v := 31) X.1 X.2.1 X.2.2.2.1 (X.2.2.2.2 _ kw_272) dX4_digest_52 ?_
                                                refine lv_lmul X.1 X.2.1 dX4_digest_55 ?_
                                                refine lv_aload_n X.1 X.2.1 dX4_digest_56 rfl (lv_at hl 3 rfl) ?_
                                                refine lv_iload_n X.1 X.2.1 dX4_digest_57 rfl (lv_at hl 2 rfl) ?_
                                                refine lv_iload X.1 X.2.1 dX4_digest_58 (lv_at hl 0 rfl) ?_
                                                have h133 : (er_ofPaper 1 1) = 0 := (by rw [er_ofPaper, if_pos (by decide)]; decide)
                                                refine w_calli cn w (w_runV (n := 2) (As := [.int 1, .int 1]) X cn w (lt17 (by decide)) wC_0 rfl (fun sz => met_of (c_X4_ofPaper l D ca ad E127 F L S n hlt q wf 1 1 0 0 (fun h => (h h133).elim) sz) h133) (bg_V kw_274 kw_275 kw_276 kw_31 kw_277) rfl rfl (by decide +kernel) ⟨(Nat.le_of_ble_eq_true rfl), (Nat.le_of_ble_eq_true rfl)⟩ rfl hl.1 rfl (Nat.le_of_ble_eq_true rfl) dX4_digest_60 ⟨(Nat.le_of_ble_eq_true rfl), (Nat.le_of_ble_eq_true rfl)⟩) (fun r132 u H locs hp w => ?_)
                                                obtain ⟨E134, q135⟩ := u
                                                obtain ⟨-, rfl, h136⟩ := hp
                                                have h136 : q135 = (F, L, S, n) := h136
                                                subst h136
                                                refine lv_i2l X.1 X.2.1 dX4_digest_63 rfl ?_
                                                refine lv_ladd X.1 X.2.1 dX4_digest_64 ?_
                                                refine lv_topl (fun x137 ex137 => ?_)
                                                refine lv_lstore_n (lv' := [(1, .long x137), (4, .int 1), (3, .int 1), (0, .ref (ad 0))]) X.1 X.2.1 dX4_digest_65 rfl hl (by decide) rfl (fun ls hl => ?_)
                                                refine lv_iinc (v := 2) (lv' := [(4, .int 2), (1, .long x137), (3, .int 1), (0, .ref (ad 0))]) X.1 X.2.1 dX4_digest_66 hl (k := 1) rfl (by decide) (by decide) rfl (fun ls hl => ?_)
                                                refine lv_goto (tgt := 45) X.1 X.2.1 dX4_digest_69 (by decide) ?_
                                                refine lv_iload X.1 X.2.1 dX4_digest_45 (lv_at hl 0 rfl) ?_
                                                refine lv_iconst (v := 5) X.1 X.2.1 dX4_digest_47 (by decide) ?_
                                                refine lv_icmp_gt (tgt := 72) X.1 X.2.1 dX4_digest_48 (by decide) (fun c138 => ?_) (fun c138 => ?_)
                                                ·
                                                  exact absurd c138 (by decide)
                                                ·
                                                  refine lv_lload_n X.1 X.2.1 dX4_digest_51 rfl (lv_at hl 1 rfl) ?_
                                                  refine lv_ldc2 (v := 31) X.1 X.2.1 X.2.2.2.1 (X.2.2.2.2 _ kw_272) dX4_digest_52 ?_
                                                  refine lv_lmul X.1 X.2.1 dX4_digest_55 ?_
                                                  refine lv_aload_n X.1 X.2.1 dX4_digest_56 rfl (lv_at hl 3 rfl) ?_
                                                  refine lv_iload_n X.1 X.2.1 dX4_digest_57 rfl (lv_at hl 2 rfl) ?_
                                                  refine lv_iload X.1 X.2.1 dX4_digest_58 (lv_at hl 0 rfl) ?_
                                                  have h140 : (er_ofPaper 1 2) = 0 := (by rw [er_ofPaper, if_pos (by decide)]; decide)
                                                  refine w_calli cn w (w_runV (n := 2) (As := [.int 1, .int 2]) X cn w (lt17 (by decide)) wC_0 rfl (fun sz => met_of (c_X4_ofPaper l D ca ad E134 F L S n hlt q wf 1 2 0 0 (fun h => (h h140).elim) sz) h140) (bg_V kw_274 kw_275 kw_276 kw_31 kw_277) rfl rfl (by decide +kernel) ⟨(Nat.le_of_ble_eq_true rfl), (Nat.le_of_ble_eq_true rfl)⟩ rfl hl.1 rfl (Nat.le_of_ble_eq_true rfl) dX4_digest_60 ⟨(Nat.le_of_ble_eq_true rfl), (Nat.le_of_ble_eq_true rfl)⟩) (fun r139 u H locs hp w => ?_)
                                                  obtain ⟨E141, q142⟩ := u
                                                  obtain ⟨-, rfl, h143⟩ := hp
                                                  have h143 : q142 = (F, L, S, n) := h143
                                                  subst h143
                                                  refine lv_i2l X.1 X.2.1 dX4_digest_63 rfl ?_
                                                  refine lv_ladd X.1 X.2.1 dX4_digest_64 ?_
                                                  refine lv_topl (fun x144 ex144 => ?_)
                                                  refine lv_lstore_n (lv' := [(1, .long x144), (4, .int 2), (3, .int 1), (0, .ref (ad 0))]) X.1 X.2.1 dX4_digest_65 rfl hl (by decide) rfl (fun ls hl => ?_)
                                                  refine lv_iinc (v := 3) (lv' := [(4, .int 3), (1, .long x144), (3, .int 1), (0, .ref (ad 0))]) X.1 X.2.1 dX4_digest_66 hl (k := 1) rfl (by decide) (by decide) rfl (fun ls hl => ?_)
                                                  refine lv_goto (tgt := 45) X.1 X.2.1 dX4_digest_69 (by decide) ?_
                                                  refine lv_iload X.1 X.2.1 dX4_digest_45 (lv_at hl 0 rfl) ?_
                                                  refine lv_iconst (v := 5) X.1 X.2.1 dX4_digest_47 (by decide) ?_
                                                  refine lv_icmp_gt (tgt := 72) X.1 X.2.1 dX4_digest_48 (by decide) (fun c145 => ?_) (fun c145 => ?_)
                                                  ·
                                                    exact absurd c145 (by decide)
                                                  ·
                                                    refine lv_lload_n X.1 X.2.1 dX4_digest_51 rfl (lv_at hl 1 rfl) ?_
                                                    refine lv_ldc2 (v := 31) X.1 X.2.1 X.2.2.2.1 (X.2.2.2.2 _ kw_272) dX4_digest_52 ?_
                                                    refine lv_lmul X.1 X.2.1 dX4_digest_55 ?_
                                                    refine lv_aload_n X.1 X.2.1 dX4_digest_56 rfl (lv_at hl 3 rfl) ?_
                                                    refine lv_iload_n X.1 X.2.1 dX4_digest_57 rfl (lv_at hl 2 rfl) ?_
                                                    refine lv_iload X.1 X.2.1 dX4_digest_58 (lv_at hl 0 rfl) ?_
                                                    have h147 : (er_ofPaper 1 3) = 0 := (by rw [er_ofPaper, if_pos (by decide)]; decide)
                                                    refine w_calli cn w (w_runV (n := 2) (As := [.int 1, .int 3]) X cn w (lt17 (by decide)) wC_0 rfl (fun sz => met_of (c_X4_ofPaper l D ca ad E141 F L S n hlt q wf 1 3 0 0 (fun h => (h h147).elim) sz) h147) (bg_V kw_274 kw_275 kw_276 kw_31 kw_277) rfl rfl (by decide +kernel) ⟨(Nat.le_of_ble_eq_true rfl), (Nat.le_of_ble_eq_true rfl)⟩ rfl hl.1 rfl (Nat.le_of_ble_eq_true rfl) dX4_digest_60 ⟨(Nat.le_of_ble_eq_true rfl), (Nat.le_of_ble_eq_true rfl)⟩) (fun r146 u H locs hp w => ?_)
                                                    obtain ⟨E148, q149⟩ := u
                                                    obtain ⟨-, rfl, h150⟩ := hp
                                                    have h150 : q149 = (F, L, S, n) := h150
                                                    subst h150
                                                    refine lv_i2l X.1 X.2.1 dX4_digest_63 rfl ?_
                                                    refine lv_ladd X.1 X.2.1 dX4_digest_64 ?_
                                                    refine lv_topl (fun x151 ex151 => ?_)
                                                    refine lv_lstore_n (lv' := [(1, .long x151), (4, .int 3), (3, .int 1), (0, .ref (ad 0))]) X.1 X.2.1 dX4_digest_65 rfl hl (by decide) rfl (fun ls hl => ?_)
                                                    refine lv_iinc (v := 4) (lv' := [(4, .int 4), (1, .long x151), (3, .int 1), (0, .ref (ad 0))]) X.1 X.2.1 dX4_digest_66 hl (k := 1) rfl (by decide) (by decide) rfl (fun ls hl => ?_)
                                                    refine lv_goto (tgt := 45) X.1 X.2.1 dX4_digest_69 (by decide) ?_
                                                    refine lv_iload X.1 X.2.1 dX4_digest_45 (lv_at hl 0 rfl) ?_
                                                    refine lv_iconst (v := 5) X.1 X.2.1 dX4_digest_47 (by decide) ?_
                                                    refine lv_icmp_gt (tgt := 72) X.1 X.2.1 dX4_digest_48 (by decide) (fun c152 => ?_) (fun c152 => ?_)
                                                    ·
                                                      exact absurd c152 (by decide)
                                                    ·
                                                      refine lv_lload_n X.1 X.2.1 dX4_digest_51 rfl (lv_at hl 1 rfl) ?_
                                                      refine lv_ldc2 (v := 31) X.1 X.2.1 X.2.2.2.1 (X.2.2.2.2 _ kw_272) dX4_digest_52 ?_
                                                      refine lv_lmul X.1 X.2.1 dX4_digest_55 ?_
                                                      refine lv_aload_n X.1 X.2.1 dX4_digest_56 rfl (lv_at hl 3 rfl) ?_
                                                      refine lv_iload_n X.1 X.2.1 dX4_digest_57 rfl (lv_at hl 2 rfl) ?_
                                                      refine lv_iload X.1 X.2.1 dX4_digest_58 (lv_at hl 0 rfl) ?_
                                                      have h154 : (er_ofPaper 1 4) = 0 := (by rw [er_ofPaper, if_pos (by decide)]; decide)
                                                      refine w_calli cn w (w_runV (n := 2) (As := [.int 1, .int 4]) X cn w (lt17 (by decide)) wC_0 rfl (fun sz => met_of (c_X4_ofPaper l D ca ad E148 F L S n hlt q wf 1 4 0 0 (fun h => (h h154).elim) sz) h154) (bg_V kw_274 kw_275 kw_276 kw_31 kw_277) rfl rfl (by decide +kernel) ⟨(Nat.le_of_ble_eq_true rfl), (Nat.le_of_ble_eq_true rfl)⟩ rfl hl.1 rfl (Nat.le_of_ble_eq_true rfl) dX4_digest_60 ⟨(Nat.le_of_ble_eq_true rfl), (Nat.le_of_ble_eq_true rfl)⟩) (fun r153 u H locs hp w => ?_)
                                                      obtain ⟨E155, q156⟩ := u
                                                      obtain ⟨-, rfl, h157⟩ := hp
                                                      have h157 : q156 = (F, L, S, n) := h157
                                                      subst h157
                                                      refine lv_i2l X.1 X.2.1 dX4_digest_63 rfl ?_
                                                      refine lv_ladd X.1 X.2.1 dX4_digest_64 ?_
                                                      refine lv_topl (fun x158 ex158 => ?_)
                                                      refine lv_lstore_n (lv' := [(1, .long x158), (4, .int 4), (3, .int 1), (0, .ref (ad 0))]) X.1 X.2.1 dX4_digest_65 rfl hl (by decide) rfl (fun ls hl => ?_)
                                                      refine lv_iinc (v := 5) (lv' := [(4, .int 5), (1, .long x158), (3, .int 1), (0, .ref (ad 0))]) X.1 X.2.1 dX4_digest_66 hl (k := 1) rfl (by decide) (by decide) rfl (fun ls hl => ?_)
                                                      refine lv_goto (tgt := 45) X.1 X.2.1 dX4_digest_69 (by decide) ?_
                                                      refine lv_iload X.1 X.2.1 dX4_digest_45 (lv_at hl 0 rfl) ?_
                                                      refine lv_iconst (v := 5) X.1 X.2.1 dX4_digest_47 (by decide) ?_
                                                      refine lv_icmp_gt (tgt := 72) X.1 X.2.1 dX4_digest_48 (by decide) (fun c159 => ?_) (fun c159 => ?_)
                                                      ·
                                                        exact absurd c159 (by decide)
                                                      ·
                                                        refine lv_lload_n X.1 X.2.1 dX4_digest_51 rfl (lv_at hl 1 rfl) ?_
                                                        refine lv_ldc2 (v := 31) X.1 X.2.1 X.2.2.2.1 (X.2.2.2.2 _ kw_272) dX4_digest_52 ?_
                                                        refine lv_lmul X.1 X.2.1 dX4_digest_55 ?_
                                                        refine lv_aload_n X.1 X.2.1 dX4_digest_56 rfl (lv_at hl 3 rfl) ?_
                                                        refine lv_iload_n X.1 X.2.1 dX4_digest_57 rfl (lv_at hl 2 rfl) ?_
                                                        refine lv_iload X.1 X.2.1 dX4_digest_58 (lv_at hl 0 rfl) ?_
                                                        have h161 : (er_ofPaper 1 5) = 0 := (by rw [er_ofPaper, if_pos (by decide)]; decide)
                                                        refine w_calli cn w (w_runV (n := 2) (As := [.int 1, .int 5]) X cn w (lt17 (by decide)) wC_0 rfl (fun sz => met_of (c_X4_ofPaper l D ca ad E155 F L S n hlt q wf 1 5 0 0 (fun h => (h h161).elim) sz) h161) (bg_V kw_274 kw_275 kw_276 kw_31 kw_277) rfl rfl (by decide +kernel) ⟨(Nat.le_of_ble_eq_true rfl), (Nat.le_of_ble_eq_true rfl)⟩ rfl hl.1 rfl (Nat.le_of_ble_eq_true rfl) dX4_digest_60 ⟨(Nat.le_of_ble_eq_true rfl), (Nat.le_of_ble_eq_true rfl)⟩) (fun r160 u H locs hp w => ?_)
                                                        obtain ⟨E162, q163⟩ := u
                                                        obtain ⟨-, rfl, h164⟩ := hp
                                                        have h164 : q163 = (F, L, S, n) := h164
                                                        subst h164
                                                        refine lv_i2l X.1 X.2.1 dX4_digest_63 rfl ?_
                                                        refine lv_ladd X.1 X.2.1 dX4_digest_64 ?_
                                                        refine lv_topl (fun x165 ex165 => ?_)
                                                        refine lv_lstore_n (lv' := [(1, .long x165), (4, .int 5), (3, .int 1), (0, .ref (ad 0))]) X.1 X.2.1 dX4_digest_65 rfl hl (by decide) rfl (fun ls hl => ?_)
                                                        refine lv_iinc (v := 6) (lv' := [(4, .int 6), (1, .long x165), (3, .int 1), (0, .ref (ad 0))]) X.1 X.2.1 dX4_digest_66 hl (k := 1) rfl (by decide) (by decide) rfl (fun ls hl => ?_)
                                                        refine lv_goto (tgt := 45) X.1 X.2.1 dX4_digest_69 (by decide) ?_
                                                        refine lv_iload X.1 X.2.1 dX4_digest_45 (lv_at hl 0 rfl) ?_
                                                        refine lv_iconst (v := 5) X.1 X.2.1 dX4_digest_47 (by decide) ?_
                                                        refine lv_icmp_gt (tgt := 72) X.1 X.2.1 dX4_digest_48 (by decide) (fun c166 => ?_) (fun c166 => ?_)
                                                        ·
                                                          refine lv_iinc (v := 2) (lv' := [(3, .int 2), (4, .int 6), (1, .long x165), (0, .ref (ad 0))]) X.1 X.2.1 dX4_digest_72 hl (k := 2) rfl (by decide) (by decide) rfl (fun ls hl => ?_)
                                                          refine lv_goto (tgt := 33) X.1 X.2.1 dX4_digest_75 (by decide) ?_
                                                          refine lv_iload_n X.1 X.2.1 dX4_digest_33 rfl (lv_at hl 0 rfl) ?_
                                                          refine lv_aload_n X.1 X.2.1 dX4_digest_34 rfl (lv_at hl 3 rfl) ?_
                                                          refine g_L X w 0 (by decide) (v := .ref (ad 14)) rfl kw_145 dX4_digest_35 ?_
                                                          refine len_P X w dX4_digest_38 ?_
                                                          refine lv_icmp_ge (tgt := 78) X.1 X.2.1 dX4_digest_39 (by decide) (fun c167 => ?_) (fun c167 => ?_)
                                                          ·
                                                            exact absurd c167 (by decide)
                                                          ·
                                                            refine lv_iconst (v := 0) X.1 X.2.1 dX4_digest_42 (by decide) ?_
                                                            refine lv_istore (lv' := [(4, .int 0), (3, .int 2), (1, .long x165), (0, .ref (ad 0))]) X.1 X.2.1 dX4_digest_43 hl (by decide) rfl (fun ls hl => ?_)
                                                            refine lv_iload X.1 X.2.1 dX4_digest_45 (lv_at hl 0 rfl) ?_
                                                            refine lv_iconst (v := 5) X.1 X.2.1 dX4_digest_47 (by decide) ?_
                                                            refine lv_icmp_gt (tgt := 72) X.1 X.2.1 dX4_digest_48 (by decide) (fun c168 => ?_) (fun c168 => ?_)
                                                            ·
                                                              exact absurd c168 (by decide)
                                                            ·
                                                              refine lv_lload_n X.1 X.2.1 dX4_digest_51 rfl (lv_at hl 2 rfl) ?_
                                                              refine lv_ldc2 (v := 31) X.1 X.2.1 X.2.2.2.1 (X.2.2.2.2 _ kw_272) dX4_digest_52 ?_
                                                              refine lv_lmul X.1 X.2.1 dX4_digest_55 ?_
                                                              refine lv_aload_n X.1 X.2.1 dX4_digest_56 rfl (lv_at hl 3 rfl) ?_
                                                              refine lv_iload_n X.1 X.2.1 dX4_digest_57 rfl (lv_at hl 1 rfl) ?_
                                                              refine lv_iload X.1 X.2.1 dX4_digest_58 (lv_at hl 0 rfl) ?_
                                                              have h170 : (er_ofPaper 2 0) = 0 := (by rw [er_ofPaper, if_pos (by decide)]; decide)
                                                              refine w_calli cn w (w_runV (n := 2) (As := [.int 2, .int 0]) X cn w (lt17 (by decide)) wC_0 rfl (fun sz => met_of (c_X4_ofPaper l D ca ad E162 F L S n hlt q wf 2 0 0 0 (fun h => (h h170).elim) sz) h170) (bg_V kw_274 kw_275 kw_276 kw_31 kw_277) rfl rfl (by decide +kernel) ⟨(Nat.le_of_ble_eq_true rfl), (Nat.le_of_ble_eq_true rfl)⟩ rfl hl.1 rfl (Nat.le_of_ble_eq_true rfl) dX4_digest_60 ⟨(Nat.le_of_ble_eq_true rfl), (Nat.le_of_ble_eq_true rfl)⟩) (fun r169 u H locs hp w => ?_)
                                                              obtain ⟨E171, q172⟩ := u
                                                              obtain ⟨-, rfl, h173⟩ := hp
                                                              have h173 : q172 = (F, L, S, n) := h173
                                                              subst h173
                                                              refine lv_i2l X.1 X.2.1 dX4_digest_63 rfl ?_
                                                              refine lv_ladd X.1 X.2.1 dX4_digest_64 ?_
                                                              refine lv_topl (fun x174 ex174 => ?_)
                                                              refine lv_lstore_n (lv' := [(1, .long x174), (4, .int 0), (3, .int 2), (0, .ref (ad 0))]) X.1 X.2.1 dX4_digest_65 rfl hl (by decide) rfl (fun ls hl => ?_)
                                                              refine lv_iinc (v := 1) (lv' := [(4, .int 1), (1, .long x174), (3, .int 2), (0, .ref (ad 0))]) X.1 X.2.1 dX4_digest_66 hl (k := 1) rfl (by decide) (by decide) rfl (fun ls hl => ?_)
                                                              refine lv_goto (tgt := 45) X.1 X.2.1 dX4_digest_69 (by decide) ?_
                                                              refine lv_iload X.1 X.2.1 dX4_digest_45 (lv_at hl 0 rfl) ?_
                                                              refine lv_iconst (v := 5) X.1 X.2.1 dX4_digest_47 (by decide) ?_
                                                              refine lv_icmp_gt (tgt := 72) X.1 X.2.1 dX4_digest_48 (by decide) (fun c175 => ?_) (fun c175 => ?_)
                                                              ·
                                                                exact absurd c175 (by decide)
                                                              ·
                                                                refine lv_lload_n X.1 X.2.1 dX4_digest_51 rfl (lv_at hl 1 rfl) ?_
                                                                refine lv_ldc2 (v := 31) X.1 X.2.1 X.2.2.2.1 (X.2.2.2.2 _ kw_272) dX4_digest_52 ?_
                                                                refine lv_lmul X.1 X.2.1 dX4_digest_55 ?_
                                                                refine lv_aload_n X.1 X.2.1 dX4_digest_56 rfl (lv_at hl 3 rfl) ?_
                                                                refine lv_iload_n X.1 X.2.1 dX4_digest_57 rfl (lv_at hl 2 rfl) ?_
                                                                refine lv_iload X.1 X.2.1 dX4_digest_58 (lv_at hl 0 rfl) ?_
                                                                have h177 : (er_ofPaper 2 1) = 0 := (by rw [er_ofPaper, if_pos (by decide)]; decide)
                                                                refine w_calli cn w (w_runV (n := 2) (As := [.int 2, .int 1]) X cn w (lt17 (by decide)) wC_0 rfl (fun sz => met_of (c_X4_ofPaper l D ca ad E171 F L S n hlt q wf 2 1 0 0 (fun h => (h h177).elim) sz) h177) (bg_V kw_274 kw_275 kw_276 kw_31 kw_277) rfl rfl (by decide +kernel) ⟨(Nat.le_of_ble_eq_true rfl), (Nat.le_of_ble_eq_true rfl)⟩ rfl hl.1 rfl (Nat.le_of_ble_eq_true rfl) dX4_digest_60 ⟨(Nat.le_of_ble_eq_true rfl), (Nat.le_of_ble_eq_true rfl)⟩) (fun r176 u H locs hp w => ?_)
                                                                obtain ⟨E178, q179⟩ := u
                                                                obtain ⟨-, rfl, h180⟩ := hp
                                                                have h180 : q179 = (F, L, S, n) := h180
                                                                subst h180
                                                                refine lv_i2l X.1 X.2.1 dX4_digest_63 rfl ?_
                                                                refine lv_ladd X.1 X.2.1 dX4_digest_64 ?_
                                                                refine lv_topl (fun x181 ex181 => ?_)
                                                                refine lv_lstore_n (lv' := [(1, .long x181), (4, .int 1), (3, .int 2), (0, .ref (ad 0))]) X.1 X.2.1 dX4_digest_65 rfl hl (by decide) rfl (fun ls hl => ?_)
                                                                refine lv_iinc (v := 2) (lv' := [(4, .int 2), (1, .long x181), (3, .int 2), (0, .ref (ad 0))]) X.1 X.2.1 dX4_digest_66 hl (k := 1) rfl (by decide) (by decide) rfl (fun ls hl => ?_)
                                                                refine lv_goto (tgt := 45) X.1 X.2.1 dX4_digest_69 (by decide) ?_
                                                                refine lv_iload X.1 X.2.1 dX4_digest_45 (lv_at hl 0 rfl) ?_
                                                                refine lv_iconst (v := 5) X.1 X.2.1 dX4_digest_47 (by decide) ?_
                                                                refine lv_icmp_gt (tgt := 72) X.1 X.2.1 dX4_digest_48 (by decide) (fun c182 => ?_) (fun c182 => ?_)
                                                                ·
                                                                  exact absurd c182 (by decide)
                                                                ·
                                                                  refine lv_lload_n X.1 X.2.1 dX4_digest_51 rfl (lv_at hl 1 rfl) ?_
                                                                  refine lv_ldc2 (v := 31) X.1 X.2.1 X.2.2.2.1 (X.2.2.2.2 _ kw_272) dX4_digest_52 ?_
                                                                  refine lv_lmul X.1 X.2.1 dX4_digest_55 ?_
                                                                  refine lv_aload_n X.1 X.2.1 dX4_digest_56 rfl (lv_at hl 3 rfl) ?_
                                                                  refine lv_iload_n X.1 X.2.1 dX4_digest_57 rfl (lv_at hl 2 rfl) ?_
                                                                  refine lv_iload X.1 X.2.1 dX4_digest_58 (lv_at hl 0 rfl) ?_
                                                                  have h184 : (er_ofPaper 2 2) = 0 := (by rw [er_ofPaper, if_pos (by decide)]; decide)
                                                                  refine w_calli cn w (w_runV (n := 2) (As := [.int 2, .int 2]) X cn w (lt17 (by decide)) wC_0 rfl (fun sz => met_of (c_X4_ofPaper l D ca ad E178 F L S n hlt q wf 2 2 0 0 (fun h => (h h184).elim) sz) h184) (bg_V kw_274 kw_275 kw_276 kw_31 kw_277) rfl rfl (by decide +kernel) ⟨(Nat.le_of_ble_eq_true rfl), (Nat.le_of_ble_eq_true rfl)⟩ rfl hl.1 rfl (Nat.le_of_ble_eq_true rfl) dX4_digest_60 ⟨(Nat.le_of_ble_eq_true rfl), (Nat.le_of_ble_eq_true rfl)⟩) (fun r183 u H locs hp w => ?_)
                                                                  obtain ⟨E185, q186⟩ := u
                                                                  obtain ⟨-, rfl, h187⟩ := hp
                                                                  have h187 : q186 = (F, L, S, n) := h187
                                                                  subst h187
                                                                  refine lv_i2l X.1 X.2.1 dX4_digest_63 rfl ?_
                                                                  refine lv_ladd X.1 X.2.1 dX4_digest_64 ?_
                                                                  refine lv_topl (fun x188 ex188 => ?_)
                                                                  refine lv_lstore_n (lv' := [(1, .long x188), (4, .int 2), (3, .int 2), (0, .ref (ad 0))]) X.1 X.2.1 dX4_digest_65 rfl hl (by decide) rfl (fun ls hl => ?_)
                                                                  refine lv_iinc (v := 3) (lv' := [(4, .int 3), (1, .long x188), (3, .int 2), (0, .ref (ad 0))]) X.1 X.2.1 dX4_digest_66 hl (k := 1) rfl (by decide) (by decide) rfl (fun ls hl => ?_)
                                                                  refine lv_goto (tgt := 45) X.1 X.2.1 dX4_digest_69 (by decide) ?_
                                                                  refine lv_iload X.1 X.2.1 dX4_digest_45 (lv_at hl 0 rfl) ?_
                                                                  refine lv_iconst (v := 5) X.1 X.2.1 dX4_digest_47 (by decide) ?_
                                                                  refine lv_icmp_gt (tgt := 72) X.1 X.2.1 dX4_digest_48 (by decide) (fun c189 => ?_) (fun c189 => ?_)
                                                                  ·
                                                                    exact absurd c189 (by decide)
                                                                  ·
                                                                    refine lv_lload_n X.1 X.2.1 dX4_digest_51 rfl (lv_at hl 1 rfl) ?_
                                                                    refine lv_ldc2 (v := 31) X.1 X.2.1 X.2.2.2.1 (X.2.2.2.2 _ kw_272) dX4_digest_52 ?_
                                                                    refine lv_lmul X.1 X.2.1 dX4_digest_55 ?_
                                                                    refine lv_aload_n X.1 X.2.1 dX4_digest_56 rfl (lv_at hl 3 rfl) ?_
                                                                    refine lv_iload_n X.1 X.2.1 dX4_digest_57 rfl (lv_at hl 2 rfl) ?_
                                                                    refine lv_iload X.1 X.2.1 dX4_digest_58 (lv_at hl 0 rfl) ?_
                                                                    have h191 : (er_ofPaper 2 3) = 0 := (by rw [er_ofPaper, if_pos (by decide)]; decide)
                                                                    refine w_calli cn w (w_runV (n := 2) (As := [.int 2, .int 3]) X cn w (lt17 (by decide)) wC_0 rfl (fun sz => met_of (c_X4_ofPaper l D ca ad E185 F L S n hlt q wf 2 3 0 0 (fun h => (h h191).elim) sz) h191) (bg_V kw_274 kw_275 kw_276 kw_31 kw_277) rfl rfl (by decide +kernel) ⟨(Nat.le_of_ble_eq_true rfl), (Nat.le_of_ble_eq_true rfl)⟩ rfl hl.1 rfl (Nat.le_of_ble_eq_true rfl) dX4_digest_60 ⟨(Nat.le_of_ble_eq_true rfl), (Nat.le_of_ble_eq_true rfl)⟩) (fun r190 u H locs hp w => ?_)
                                                                    obtain ⟨E192, q193⟩ := u
                                                                    obtain ⟨-, rfl, h194⟩ := hp
                                                                    have h194 : q193 = (F, L, S, n) := h194
                                                                    subst h194
                                                                    refine lv_i2l X.1 X.2.1 dX4_digest_63 rfl ?_
                                                                    refine lv_ladd X.1 X.2.1 dX4_digest_64 ?_
                                                                    refine lv_topl (fun x195 ex195 => ?_)
                                                                    refine lv_lstore_n (lv' := [(1, .long x195), (4, .int 3), (3, .int 2), (0, .ref (ad 0))]) X.1 X.2.1 dX4_digest_65 rfl hl (by decide) rfl (fun ls hl => ?_)
                                                                    refine lv_iinc (v := 4) (lv' := [(4, .int 4), (1, .long x195), (3, .int 2), (0, .ref (ad 0))]) X.1 X.2.1 dX4_digest_66 hl (k := 1) rfl (by decide) (by decide) rfl (fun ls hl => ?_)
                                                                    refine lv_goto (tgt := 45) X.1 X.2.1 dX4_digest_69 (by decide) ?_
                                                                    refine lv_iload X.1 X.2.1 dX4_digest_45 (lv_at hl 0 rfl) ?_
                                                                    refine lv_iconst (v := 5) X.1 X.2.1 dX4_digest_47 (by decide) ?_
                                                                    refine lv_icmp_gt (tgt := 72) X.1 X.2.1 dX4_digest_48 (by decide) (fun c196 => ?_) (fun c196 => ?_)
                                                                    ·
                                                                      exact absurd c196 (by decide)
                                                                    ·
                                                                      refine lv_lload_n X.1 X.2.1 dX4_digest_51 rfl (lv_at hl 1 rfl) ?_
                                                                      refine lv_ldc2 (v := 31) X.1 X.2.1 X.2.2.2.1 (X.2.2.2.2 _ kw_272) dX4_digest_52 ?_
                                                                      refine lv_lmul X.1 X.2.1 dX4_digest_55 ?_
                                                                      refine lv_aload_n X.1 X.2.1 dX4_digest_56 rfl (lv_at hl 3 rfl) ?_
                                                                      refine lv_iload_n X.1 X.2.1 dX4_digest_57 rfl (lv_at hl 2 rfl) ?_
                                                                      refine lv_iload X.1 X.2.1 dX4_digest_58 (lv_at hl 0 rfl) ?_
                                                                      have h198 : (er_ofPaper 2 4) = 0 := (by rw [er_ofPaper, if_pos (by decide)]; decide)
                                                                      refine w_calli cn w (w_runV (n := 2) (As := [.int 2, .int 4]) X cn w (lt17 (by decide)) wC_0 rfl (fun sz => met_of (c_X4_ofPaper l D ca ad E192 F L S n hlt q wf 2 4 0 0 (fun h => (h h198).elim) sz) h198) (bg_V kw_274 kw_275 kw_276 kw_31 kw_277) rfl rfl (by decide +kernel) ⟨(Nat.le_of_ble_eq_true rfl), (Nat.le_of_ble_eq_true rfl)⟩ rfl hl.1 rfl (Nat.le_of_ble_eq_true rfl) dX4_digest_60 ⟨(Nat.le_of_ble_eq_true rfl), (Nat.le_of_ble_eq_true rfl)⟩) (fun r197 u H locs hp w => ?_)
                                                                      obtain ⟨E199, q200⟩ := u
                                                                      obtain ⟨-, rfl, h201⟩ := hp
                                                                      have h201 : q200 = (F, L, S, n) := h201
                                                                      subst h201
                                                                      refine lv_i2l X.1 X.2.1 dX4_digest_63 rfl ?_
                                                                      refine lv_ladd X.1 X.2.1 dX4_digest_64 ?_
                                                                      refine lv_topl (fun x202 ex202 => ?_)
                                                                      refine lv_lstore_n (lv' := [(1, .long x202), (4, .int 4), (3, .int 2), (0, .ref (ad 0))]) X.1 X.2.1 dX4_digest_65 rfl hl (by decide) rfl (fun ls hl => ?_)
                                                                      refine lv_iinc (v := 5) (lv' := [(4, .int 5), (1, .long x202), (3, .int 2), (0, .ref (ad 0))]) X.1 X.2.1 dX4_digest_66 hl (k := 1) rfl (by decide) (by decide) rfl (fun ls hl => ?_)
                                                                      refine lv_goto (tgt := 45) X.1 X.2.1 dX4_digest_69 (by decide) ?_
                                                                      refine lv_iload X.1 X.2.1 dX4_digest_45 (lv_at hl 0 rfl) ?_
                                                                      refine lv_iconst (v := 5) X.1 X.2.1 dX4_digest_47 (by decide) ?_
                                                                      refine lv_icmp_gt (tgt := 72) X.1 X.2.1 dX4_digest_48 (by decide) (fun c203 => ?_) (fun c203 => ?_)
                                                                      ·
                                                                        exact absurd c203 (by decide)
                                                                      ·
                                                                        refine lv_lload_n X.1 X.2.1 dX4_digest_51 rfl (lv_at hl 1 rfl) ?_
                                                                        refine lv_ldc2 (v := 31) X.1 X.2.1 X.2.2.2.1 (X.2.2.2.2 _ kw_272) dX4_digest_52 ?_
                                                                        refine lv_lmul X.1 X.2.1 dX4_digest_55 ?_
                                                                        refine lv_aload_n X.1 X.2.1 dX4_digest_56 rfl (lv_at hl 3 rfl) ?_
                                                                        refine lv_iload_n X.1 X.2.1 dX4_digest_57 rfl (lv_at hl 2 rfl) ?_
                                                                        refine lv_iload X.1 X.2.1 dX4_digest_58 (lv_at hl 0 rfl) ?_
                                                                        have h205 : (er_ofPaper 2 5) = 0 := (by rw [er_ofPaper, if_pos (by decide)]; decide)
                                                                        refine w_calli cn w (w_runV (n := 2) (As := [.int 2, .int 5]) X cn w (lt17 (by decide)) wC_0 rfl (fun sz => met_of (c_X4_ofPaper l D ca ad E199 F L S n hlt q wf 2 5 0 0 (fun h => (h h205).elim) sz) h205) (bg_V kw_274 kw_275 kw_276 kw_31 kw_277) rfl rfl (by decide +kernel) ⟨(Nat.le_of_ble_eq_true rfl), (Nat.le_of_ble_eq_true rfl)⟩ rfl hl.1 rfl (Nat.le_of_ble_eq_true rfl) dX4_digest_60 ⟨(Nat.le_of_ble_eq_true rfl), (Nat.le_of_ble_eq_true rfl)⟩) (fun r204 u H locs hp w => ?_)
                                                                        obtain ⟨E206, q207⟩ := u
                                                                        obtain ⟨-, rfl, h208⟩ := hp
                                                                        have h208 : q207 = (F, L, S, n) := h208
                                                                        subst h208
                                                                        refine lv_i2l X.1 X.2.1 dX4_digest_63 rfl ?_
                                                                        refine lv_ladd X.1 X.2.1 dX4_digest_64 ?_
                                                                        refine lv_topl (fun x209 ex209 => ?_)
                                                                        refine lv_lstore_n (lv' := [(1, .long x209), (4, .int 5), (3, .int 2), (0, .ref (ad 0))]) X.1 X.2.1 dX4_digest_65 rfl hl (by decide) rfl (fun ls hl => ?_)
                                                                        refine lv_iinc (v := 6) (lv' := [(4, .int 6), (1, .long x209), (3, .int 2), (0, .ref (ad 0))]) X.1 X.2.1 dX4_digest_66 hl (k := 1) rfl (by decide) (by decide) rfl (fun ls hl => ?_)
                                                                        refine lv_goto (tgt := 45) X.1 X.2.1 dX4_digest_69 (by decide) ?_
                                                                        refine lv_iload X.1 X.2.1 dX4_digest_45 (lv_at hl 0 rfl) ?_
                                                                        refine lv_iconst (v := 5) X.1 X.2.1 dX4_digest_47 (by decide) ?_
                                                                        refine lv_icmp_gt (tgt := 72) X.1 X.2.1 dX4_digest_48 (by decide) (fun c210 => ?_) (fun c210 => ?_)
                                                                        ·
                                                                          refine lv_iinc (v := 3) (lv' := [(3, .int 3), (4, .int 6), (1, .long x209), (0, .ref (ad 0))]) X.1 X.2.1 dX4_digest_72 hl (k := 2) rfl (by decide) (by decide) rfl (fun ls hl => ?_)
                                                                          refine lv_goto (tgt := 33) X.1 X.2.1 dX4_digest_75 (by decide) ?_
                                                                          refine lv_iload_n X.1 X.2.1 dX4_digest_33 rfl (lv_at hl 0 rfl) ?_
                                                                          refine lv_aload_n X.1 X.2.1 dX4_digest_34 rfl (lv_at hl 3 rfl) ?_
                                                                          refine g_L X w 0 (by decide) (v := .ref (ad 14)) rfl kw_145 dX4_digest_35 ?_
                                                                          refine len_P X w dX4_digest_38 ?_
                                                                          refine lv_icmp_ge (tgt := 78) X.1 X.2.1 dX4_digest_39 (by decide) (fun c211 => ?_) (fun c211 => ?_)
                                                                          ·
                                                                            exact absurd c211 (by decide)
                                                                          ·
                                                                            refine lv_iconst (v := 0) X.1 X.2.1 dX4_digest_42 (by decide) ?_
                                                                            refine lv_istore (lv' := [(4, .int 0), (3, .int 3), (1, .long x209), (0, .ref (ad 0))]) X.1 X.2.1 dX4_digest_43 hl (by decide) rfl (fun ls hl => ?_)
                                                                            refine lv_iload X.1 X.2.1 dX4_digest_45 (lv_at hl 0 rfl) ?_
                                                                            refine lv_iconst (v := 5) X.1 X.2.1 dX4_digest_47 (by decide) ?_
                                                                            refine lv_icmp_gt (tgt := 72) X.1 X.2.1 dX4_digest_48 (by decide) (fun c212 => ?_) (fun c212 => ?_)
                                                                            ·
                                                                              exact absurd c212 (by decide)
                                                                            ·
                                                                              refine lv_lload_n X.1 X.2.1 dX4_digest_51 rfl (lv_at hl 2 rfl) ?_
                                                                              refine lv_ldc2 (v := 31) X.1 X.2.1 X.2.2.2.1 (X.2.2.2.2 _ kw_272) dX4_digest_52 ?_
                                                                              refine lv_lmul X.1 X.2.1 dX4_digest_55 ?_
                                                                              refine lv_aload_n X.1 X.2.1 dX4_digest_56 rfl (lv_at hl 3 rfl) ?_
                                                                              refine lv_iload_n X.1 X.2.1 dX4_digest_57 rfl (lv_at hl 1 rfl) ?_
                                                                              refine lv_iload X.1 X.2.1 dX4_digest_58 (lv_at hl 0 rfl) ?_
                                                                              have h214 : (er_ofPaper 3 0) = 0 := (by rw [er_ofPaper, if_pos (by decide)]; decide)
                                                                              refine w_calli cn w (w_runV (n := 2) (As := [.int 3, .int 0]) X cn w (lt17 (by decide)) wC_0 rfl (fun sz => met_of (c_X4_ofPaper l D ca ad E206 F L S n hlt q wf 3 0 0 0 (fun h => (h h214).elim) sz) h214) (bg_V kw_274 kw_275 kw_276 kw_31 kw_277) rfl rfl (by decide +kernel) ⟨(Nat.le_of_ble_eq_true rfl), (Nat.le_of_ble_eq_true rfl)⟩ rfl hl.1 rfl (Nat.le_of_ble_eq_true rfl) dX4_digest_60 ⟨(Nat.le_of_ble_eq_true rfl), (Nat.le_of_ble_eq_true rfl)⟩) (fun r213 u H locs hp w => ?_)
                                                                              obtain ⟨E215, q216⟩ := u
                                                                              obtain ⟨-, rfl, h217⟩ := hp
                                                                              have h217 : q216 = (F, L, S, n) := h217
                                                                              subst h217
                                                                              refine lv_i2l X.1 X.2.1 dX4_digest_63 rfl ?_
                                                                              refine lv_ladd X.1 X.2.1 dX4_digest_64 ?_
                                                                              refine lv_topl (fun x218 ex218 => ?_)
                                                                              refine lv_lstore_n (lv' := [(1, .long x218), (4, .int 0), (3, .int 3), (0, .ref (ad 0))]) X.1 X.2.1 dX4_digest_65 rfl hl (by decide) rfl (fun ls hl => ?_)
                                                                              refine lv_iinc (v := 1) (lv' := [(4, .int 1), (1, .long x218), (3, .int 3), (0, .ref (ad 0))]) X.1 X.2.1 dX4_digest_66 hl (k := 1) rfl (by decide) (by decide) rfl (fun ls hl => ?_)
                                                                              refine lv_goto (tgt := 45) X.1 X.2.1 dX4_digest_69 (by decide) ?_
                                                                              refine lv_iload X.1 X.2.1 dX4_digest_45 (lv_at hl 0 rfl) ?_
                                                                              refine lv_iconst (v := 5) X.1 X.2.1 dX4_digest_47 (by decide) ?_
                                                                              refine lv_icmp_gt (tgt := 72) X.1 X.2.1 dX4_digest_48 (by decide) (fun c219 => ?_) (fun c219 => ?_)
                                                                              ·
                                                                                exact absurd c219 (by decide)
                                                                              ·
                                                                                refine lv_lload_n X.1 X.2.1 dX4_digest_51 rfl (lv_at hl 1 rfl) ?_
                                                                                refine lv_ldc2 (v := 31) X.1 X.2.1 X.2.2.2.1 (X.2.2.2.2 _ kw_272) dX4_digest_52 ?_
                                                                                refine lv_lmul X.1 X.2.1 dX4_digest_55 ?_
                                                                                refine lv_aload_n X.1 X.2.1 dX4_digest_56 rfl (lv_at hl 3 rfl) ?_
                                                                                refine lv_iload_n X.1 X.2.1 dX4_digest_57 rfl (lv_at hl 2 rfl) ?_
                                                                                refine lv_iload X.1 X.2.1 dX4_digest_58 (lv_at hl 0 rfl) ?_
                                                                                have h221 : (er_ofPaper 3 1) = 0 := (by rw [er_ofPaper, if_pos (by decide)]; decide)
                                                                                refine w_calli cn w (w_runV (n := 2) (As := [.int 3, .int 1]) X cn w (lt17 (by decide)) wC_0 rfl (fun sz => met_of (c_X4_ofPaper l D ca ad E215 F L S n hlt q wf 3 1 0 0 (fun h => (h h221).elim) sz) h221) (bg_V kw_274 kw_275 kw_276 kw_31 kw_277) rfl rfl (by decide +kernel) ⟨(Nat.le_of_ble_eq_true rfl), (Nat.le_of_ble_eq_true rfl)⟩ rfl hl.1 rfl (Nat.le_of_ble_eq_true rfl) dX4_digest_60 ⟨(Nat.le_of_ble_eq_true rfl), (Nat.le_of_ble_eq_true rfl)⟩) (fun r220 u H locs hp w => ?_)
                                                                                obtain ⟨E222, q223⟩ := u
                                                                                obtain ⟨-, rfl, h224⟩ := hp
                                                                                have h224 : q223 = (F, L, S, n) := h224
                                                                                subst h224
                                                                                refine lv_i2l X.1 X.2.1 dX4_digest_63 rfl ?_
                                                                                refine lv_ladd X.1 X.2.1 dX4_digest_64 ?_
                                                                                refine lv_topl (fun x225 ex225 => ?_)
                                                                                refine lv_lstore_n (lv' := [(1, .long x225), (4, .int 1), (3, .int 3), (0, .ref (ad 0))]) X.1 X.2.1 dX4_digest_65 rfl hl (by decide) rfl (fun ls hl => ?_)
                                                                                refine lv_iinc (v := 2) (lv' := [(4, .int 2), (1, .long x225), (3, .int 3), (0, .ref (ad 0))]) X.1 X.2.1 dX4_digest_66 hl (k := 1) rfl (by decide) (by decide) rfl (fun ls hl => ?_)
                                                                                refine lv_goto (tgt := 45) X.1 X.2.1 dX4_digest_69 (by decide) ?_
                                                                                refine lv_iload X.1 X.2.1 dX4_digest_45 (lv_at hl 0 rfl) ?_
                                                                                refine lv_iconst (v := 5) X.1 X.2.1 dX4_digest_47 (by decide) ?_
                                                                                refine lv_icmp_gt (tgt := 72) X.1 X.2.1 dX4_digest_48 (by decide) (fun c226 => ?_) (fun c226 => ?_)
                                                                                ·
                                                                                  exact absurd c226 (by decide)
                                                                                ·
                                                                                  refine lv_lload_n X.1 X.2.1 dX4_digest_51 rfl (lv_at hl 1 rfl) ?_
                                                                                  refine lv_ldc2 (v := 31) X.1 X.2.1 X.2.2.2.1 (X.2.2.2.2 _ kw_272) dX4_digest_52 ?_
                                                                                  refine lv_lmul X.1 X.2.1 dX4_digest_55 ?_
                                                                                  refine lv_aload_n X.1 X.2.1 dX4_digest_56 rfl (lv_at hl 3 rfl) ?_
                                                                                  refine lv_iload_n X.1 X.2.1 dX4_digest_57 rfl (lv_at hl 2 rfl) ?_
                                                                                  refine lv_iload X.1 X.2.1 dX4_digest_58 (lv_at hl 0 rfl) ?_
                                                                                  have h228 : (er_ofPaper 3 2) = 0 := (by rw [er_ofPaper, if_pos (by decide)]; decide)
                                                                                  refine w_calli cn w (w_runV (n := 2) (As := [.int 3, .int 2]) X cn w (lt17 (by decide)) wC_0 rfl (fun sz => met_of (c_X4_ofPaper l D ca ad E222 F L S n hlt q wf 3 2 0 0 (fun h => (h h228).elim) sz) h228) (bg_V kw_274 kw_275 kw_276 kw_31 kw_277) rfl rfl (by decide +kernel) ⟨(Nat.le_of_ble_eq_true rfl), (Nat.le_of_ble_eq_true rfl)⟩ rfl hl.1 rfl (Nat.le_of_ble_eq_true rfl) dX4_digest_60 ⟨(Nat.le_of_ble_eq_true rfl), (Nat.le_of_ble_eq_true rfl)⟩) (fun r227 u H locs hp w => ?_)
                                                                                  obtain ⟨E229, q230⟩ := u
                                                                                  obtain ⟨-, rfl, h231⟩ := hp
                                                                                  have h231 : q230 = (F, L, S, n) := h231
                                                                                  subst h231
                                                                                  refine lv_i2l X.1 X.2.1 dX4_digest_63 rfl ?_
                                                                                  refine lv_ladd X.1 X.2.1 dX4_digest_64 ?_
                                                                                  refine lv_topl (fun x232 ex232 => ?_)
                                                                                  refine lv_lstore_n (lv' := [(1, .long x232), (4, .int 2), (3, .int 3), (0, .ref (ad 0))]) X.1 X.2.1 dX4_digest_65 rfl hl (by decide) rfl (fun ls hl => ?_)
                                                                                  refine lv_iinc (v := 3) (lv' := [(4, .int 3), (1, .long x232), (3, .int 3), (0, .ref (ad 0))]) X.1 X.2.1 dX4_digest_66 hl (k := 1) rfl (by decide) (by decide) rfl (fun ls hl => ?_)
                                                                                  refine lv_goto (tgt := 45) X.1 X.2.1 dX4_digest_69 (by decide) ?_
                                                                                  refine lv_iload X.1 X.2.1 dX4_digest_45 (lv_at hl 0 rfl) ?_
                                                                                  refine lv_iconst (v := 5) X.1 X.2.1 dX4_digest_47 (by decide) ?_
                                                                                  refine lv_icmp_gt (tgt := 72) X.1 X.2.1 dX4_digest_48 (by decide) (fun c233 => ?_) (fun c233 => ?_)
                                                                                  ·
                                                                                    exact absurd c233 (by decide)
                                                                                  ·
                                                                                    refine lv_lload_n X.1 X.2.1 dX4_digest_51 rfl (lv_at hl 1 rfl) ?_
                                                                                    refine lv_ldc2 (v := 31) X.1 X.2.1 X.2.2.2.1 (X.2.2.2.2 _ kw_272) dX4_digest_52 ?_
                                                                                    refine lv_lmul X.1 X.2.1 dX4_digest_55 ?_
                                                                                    refine lv_aload_n X.1 X.2.1 dX4_digest_56 rfl (lv_at hl 3 rfl) ?_
                                                                                    refine lv_iload_n X.1 X.2.1 dX4_digest_57 rfl (lv_at hl 2 rfl) ?_
                                                                                    refine lv_iload X.1 X.2.1 dX4_digest_58 (lv_at hl 0 rfl) ?_
                                                                                    have h235 : (er_ofPaper 3 3) = 0 := (by rw [er_ofPaper, if_pos (by decide)]; decide)
                                                                                    refine w_calli cn w (w_runV (n := 2) (As := [.int 3, .int 3]) X cn w (lt17 (by decide)) wC_0 rfl (fun sz => met_of (c_X4_ofPaper l D ca ad E229 F L S n hlt q wf 3 3 0 0 (fun h => (h h235).elim) sz) h235) (bg_V kw_274 kw_275 kw_276 kw_31 kw_277) rfl rfl (by decide +kernel) ⟨(Nat.le_of_ble_eq_true rfl), (Nat.le_of_ble_eq_true rfl)⟩ rfl hl.1 rfl (Nat.le_of_ble_eq_true rfl) dX4_digest_60 ⟨(Nat.le_of_ble_eq_true rfl), (Nat.le_of_ble_eq_true rfl)⟩) (fun r234 u H locs hp w => ?_)
                                                                                    obtain ⟨E236, q237⟩ := u
                                                                                    obtain ⟨-, rfl, h238⟩ := hp
                                                                                    have h238 : q237 = (F, L, S, n) := h238
                                                                                    subst h238
                                                                                    refine lv_i2l X.1 X.2.1 dX4_digest_63 rfl ?_
                                                                                    refine lv_ladd X.1 X.2.1 dX4_digest_64 ?_
                                                                                    refine lv_topl (fun x239 ex239 => ?_)
                                                                                    refine lv_lstore_n (lv' := [(1, .long x239), (4, .int 3), (3, .int 3), (0, .ref (ad 0))]) X.1 X.2.1 dX4_digest_65 rfl hl (by decide) rfl (fun ls hl => ?_)
                                                                                    refine lv_iinc (v := 4) (lv' := [(4, .int 4), (1, .long x239), (3, .int 3), (0, .ref (ad 0))]) X.1 X.2.1 dX4_digest_66 hl (k := 1) rfl (by decide) (by decide) rfl (fun ls hl => ?_)
                                                                                    refine lv_goto (tgt := 45) X.1 X.2.1 dX4_digest_69 (by decide) ?_
                                                                                    refine lv_iload X.1 X.2.1 dX4_digest_45 (lv_at hl 0 rfl) ?_
                                                                                    refine lv_iconst (v := 5) X.1 X.2.1 dX4_digest_47 (by decide) ?_
                                                                                    refine lv_icmp_gt (tgt := 72) X.1 X.2.1 dX4_digest_48 (by decide) (fun c240 => ?_) (fun c240 => ?_)
                                                                                    ·
                                                                                      exact absurd c240 (by decide)
                                                                                    ·
                                                                                      refine lv_lload_n X.1 X.2.1 dX4_digest_51 rfl (lv_at hl 1 rfl) ?_
                                                                                      refine lv_ldc2 (v := 31) X.1 X.2.1 X.2.2.2.1 (X.2.2.2.2 _ kw_272) dX4_digest_52 ?_
                                                                                      refine lv_lmul X.1 X.2.1 dX4_digest_55 ?_
                                                                                      refine lv_aload_n X.1 X.2.1 dX4_digest_56 rfl (lv_at hl 3 rfl) ?_
                                                                                      refine lv_iload_n X.1 X.2.1 dX4_digest_57 rfl (lv_at hl 2 rfl) ?_
                                                                                      refine lv_iload X.1 X.2.1 dX4_digest_58 (lv_at hl 0 rfl) ?_
                                                                                      have h242 : (er_ofPaper 3 4) = 0 := (by rw [er_ofPaper, if_pos (by decide)]; decide)
                                                                                      refine w_calli cn w (w_runV (n := 2) (As := [.int 3, .int 4]) X cn w (lt17 (by decide)) wC_0 rfl (fun sz => met_of (c_X4_ofPaper l D ca ad E236 F L S n hlt q wf 3 4 0 0 (fun h => (h h242).elim) sz) h242) (bg_V kw_274 kw_275 kw_276 kw_31 kw_277) rfl rfl (by decide +kernel) ⟨(Nat.le_of_ble_eq_true rfl), (Nat.le_of_ble_eq_true rfl)⟩ rfl hl.1 rfl (Nat.le_of_ble_eq_true rfl) dX4_digest_60 ⟨(Nat.le_of_ble_eq_true rfl), (Nat.le_of_ble_eq_true rfl)⟩) (fun r241 u H locs hp w => ?_)
                                                                                      obtain ⟨E243, q244⟩ := u
                                                                                      obtain ⟨-, rfl, h245⟩ := hp
                                                                                      have h245 : q244 = (F, L, S, n) := h245
                                                                                      subst h245
                                                                                      refine lv_i2l X.1 X.2.1 dX4_digest_63 rfl ?_
                                                                                      refine lv_ladd X.1 X.2.1 dX4_digest_64 ?_
                                                                                      refine lv_topl (fun x246 ex246 => ?_)
                                                                                      refine lv_lstore_n (lv' := [(1, .long x246), (4, .int 4), (3, .int 3), (0, .ref (ad 0))]) X.1 X.2.1 dX4_digest_65 rfl hl (by decide) rfl (fun ls hl => ?_)
                                                                                      refine lv_iinc (v := 5) (lv' := [(4, .int 5), (1, .long x246), (3, .int 3), (0, .ref (ad 0))]) X.1 X.2.1 dX4_digest_66 hl (k := 1) rfl (by decide) (by decide) rfl (fun ls hl => ?_)
                                                                                      refine lv_goto (tgt := 45) X.1 X.2.1 dX4_digest_69 (by decide) ?_
                                                                                      refine lv_iload X.1 X.2.1 dX4_digest_45 (lv_at hl 0 rfl) ?_
                                                                                      refine lv_iconst (v := 5) X.1 X.2.1 dX4_digest_47 (by decide) ?_
                                                                                      refine lv_icmp_gt (tgt := 72) X.1 X.2.1 dX4_digest_48 (by decide) (fun c247 => ?_) (fun c247 => ?_)
                                                                                      ·
                                                                                        exact absurd c247 (by decide)
                                                                                      ·
                                                                                        refine lv_lload_n X.1 X.2.1 dX4_digest_51 rfl (lv_at hl 1 rfl) ?_
                                                                                        refine lv_ldc2 (v := 31) X.1 X.2.1 X.2.2.2.1 (X.2.2.2.2 _ kw_272) dX4_digest_52 ?_
                                                                                        refine lv_lmul X.1 X.2.1 dX4_digest_55 ?_
                                                                                        refine lv_aload_n X.1 X.2.1 dX4_digest_56 rfl (lv_at hl 3 rfl) ?_
                                                                                        refine lv_iload_n X.1 X.2.1 dX4_digest_57 rfl (lv_at hl 2 rfl) ?_
                                                                                        refine lv_iload X.1 X.2.1 dX4_digest_58 (lv_at hl 0 rfl) ?_
                                                                                        have h249 : (er_ofPaper 3 5) = 0 := (by rw [er_ofPaper, if_pos (by decide)]; decide)
                                                                                        refine w_calli cn w (w_runV (n := 2) (As := [.int 3, .int 5]) X cn w (lt17 (by decide)) wC_0 rfl (fun sz => met_of (c_X4_ofPaper l D ca ad E243 F L S n hlt q wf 3 5 0 0 (fun h => (h h249).elim) sz) h249) (bg_V kw_274 kw_275 kw_276 kw_31 kw_277) rfl rfl (by decide +kernel) ⟨(Nat.le_of_ble_eq_true rfl), (Nat.le_of_ble_eq_true rfl)⟩ rfl hl.1 rfl (Nat.le_of_ble_eq_true rfl) dX4_digest_60 ⟨(Nat.le_of_ble_eq_true rfl), (Nat.le_of_ble_eq_true rfl)⟩) (fun r248 u H locs hp w => ?_)
                                                                                        obtain ⟨E250, q251⟩ := u
                                                                                        obtain ⟨-, rfl, h252⟩ := hp
                                                                                        have h252 : q251 = (F, L, S, n) := h252
                                                                                        subst h252
                                                                                        refine lv_i2l X.1 X.2.1 dX4_digest_63 rfl ?_
                                                                                        refine lv_ladd X.1 X.2.1 dX4_digest_64 ?_
                                                                                        refine lv_topl (fun x253 ex253 => ?_)
                                                                                        refine lv_lstore_n (lv' := [(1, .long x253), (4, .int 5), (3, .int 3), (0, .ref (ad 0))]) X.1 X.2.1 dX4_digest_65 rfl hl (by decide) rfl (fun ls hl => ?_)
                                                                                        refine lv_iinc (v := 6) (lv' := [(4, .int 6), (1, .long x253), (3, .int 3), (0, .ref (ad 0))]) X.1 X.2.1 dX4_digest_66 hl (k := 1) rfl (by decide) (by decide) rfl (fun ls hl => ?_)
                                                                                        refine lv_goto (tgt := 45) X.1 X.2.1 dX4_digest_69 (by decide) ?_
                                                                                        refine lv_iload X.1 X.2.1 dX4_digest_45 (lv_at hl 0 rfl) ?_
                                                                                        refine lv_iconst (v := 5) X.1 X.2.1 dX4_digest_47 (by decide) ?_
                                                                                        refine lv_icmp_gt (tgt := 72) X.1 X.2.1 dX4_digest_48 (by decide) (fun c254 => ?_) (fun c254 => ?_)
                                                                                        ·
                                                                                          refine lv_iinc (v := 4) (lv' := [(3, .int 4), (4, .int 6), (1, .long x253), (0, .ref (ad 0))]) X.1 X.2.1 dX4_digest_72 hl (k := 2) rfl (by decide) (by decide) rfl (fun ls hl => ?_)
                                                                                          refine lv_goto (tgt := 33) X.1 X.2.1 dX4_digest_75 (by decide) ?_
                                                                                          refine lv_iload_n X.1 X.2.1 dX4_digest_33 rfl (lv_at hl 0 rfl) ?_
                                                                                          refine lv_aload_n X.1 X.2.1 dX4_digest_34 rfl (lv_at hl 3 rfl) ?_
                                                                                          refine g_L X w 0 (by decide) (v := .ref (ad 14)) rfl kw_145 dX4_digest_35 ?_
                                                                                          refine len_P X w dX4_digest_38 ?_
                                                                                          refine lv_icmp_ge (tgt := 78) X.1 X.2.1 dX4_digest_39 (by decide) (fun c255 => ?_) (fun c255 => ?_)
                                                                                          ·
                                                                                            refine lv_iconst (v := 0) X.1 X.2.1 dX4_digest_78 (by decide) ?_
                                                                                            refine lv_istore_n (lv' := [(3, .int 0), (4, .int 6), (1, .long x253), (0, .ref (ad 0))]) X.1 X.2.1 dX4_digest_79 rfl hl (by decide) rfl (fun ls hl => ?_)
                                                                                            refine lv_iload_n X.1 X.2.1 dX4_digest_80 rfl (lv_at hl 0 rfl) ?_
                                                                                            refine lv_aload_n X.1 X.2.1 dX4_digest_81 rfl (lv_at hl 3 rfl) ?_
                                                                                            refine g_L X w 1 (by decide) (v := .ref (ad 15)) rfl kw_146 dX4_digest_82 ?_
                                                                                            refine len_R X w dX4_digest_85 ?_
                                                                                            refine lv_icmp_ge (tgt := 102) X.1 X.2.1 dX4_digest_86 (by decide) (fun c256 => ?_) (fun c256 => ?_)
                                                                                            ·
                                                                                              exact absurd c256 (by decide)
                                                                                            ·
                                                                                              refine lv_aload_n X.1 X.2.1 dX4_digest_89 rfl (lv_at hl 3 rfl) ?_
                                                                                              refine lv_lload_n X.1 X.2.1 dX4_digest_90 rfl (lv_at hl 2 rfl) ?_
                                                                                              refine lv_iload_n X.1 X.2.1 dX4_digest_91 rfl (lv_at hl 0 rfl) ?_
                                                                                              refine w_calll cn w (w_runV (n := 2) (As := [.long x253, .int 0]) X cn w (lt17 (by decide)) wC_0 rfl (fun sz => c_X4_digestWithPress l D ca ad E250 F L S n hlt q wf hful 0 (by decide) x253 sz) (bg_V kw_353 kw_355 kw_14 kw_31 kw_356) rfl rfl (by decide +kernel) ⟨(Nat.le_of_ble_eq_true rfl), (Nat.le_of_ble_eq_true rfl)⟩ rfl hl.1 rfl (Nat.le_of_ble_eq_true rfl) dX4_digest_92 ⟨(Nat.le_of_ble_eq_true rfl), (Nat.le_of_ble_eq_true rfl)⟩) (fun r257 u H locs hp w => ?_)
                                                                                              obtain ⟨E258, q259⟩ := u
                                                                                              obtain ⟨rfl, h260⟩ := hp
                                                                                              have h260 : q259 = (F, L, S, n) := h260
                                                                                              subst h260
                                                                                              refine lv_topl (fun x261 ex261 => ?_)
                                                                                              refine lv_lstore_n (lv' := [(1, .long x261), (3, .int 0), (4, .int 6), (0, .ref (ad 0))]) X.1 X.2.1 dX4_digest_95 rfl hl (by decide) rfl (fun ls hl => ?_)
                                                                                              refine lv_iinc (v := 1) (lv' := [(3, .int 1), (1, .long x261), (4, .int 6), (0, .ref (ad 0))]) X.1 X.2.1 dX4_digest_96 hl (k := 1) rfl (by decide) (by decide) rfl (fun ls hl => ?_)
                                                                                              refine lv_goto (tgt := 80) X.1 X.2.1 dX4_digest_99 (by decide) ?_
                                                                                              refine lv_iload_n X.1 X.2.1 dX4_digest_80 rfl (lv_at hl 0 rfl) ?_
                                                                                              refine lv_aload_n X.1 X.2.1 dX4_digest_81 rfl (lv_at hl 3 rfl) ?_
                                                                                              refine g_L X w 1 (by decide) (v := .ref (ad 15)) rfl kw_146 dX4_digest_82 ?_
                                                                                              refine len_R X w dX4_digest_85 ?_
                                                                                              refine lv_icmp_ge (tgt := 102) X.1 X.2.1 dX4_digest_86 (by decide) (fun c262 => ?_) (fun c262 => ?_)
                                                                                              ·
                                                                                                exact absurd c262 (by decide)
                                                                                              ·
                                                                                                refine lv_aload_n X.1 X.2.1 dX4_digest_89 rfl (lv_at hl 3 rfl) ?_
                                                                                                refine lv_lload_n X.1 X.2.1 dX4_digest_90 rfl (lv_at hl 1 rfl) ?_
                                                                                                refine lv_iload_n X.1 X.2.1 dX4_digest_91 rfl (lv_at hl 0 rfl) ?_
                                                                                                refine w_calll cn w (w_runV (n := 2) (As := [.long x261, .int 1]) X cn w (lt17 (by decide)) wC_0 rfl (fun sz => c_X4_digestWithPress l D ca ad E258 F L S n hlt q wf hful 1 (by decide) x261 sz) (bg_V kw_353 kw_355 kw_14 kw_31 kw_356) rfl rfl (by decide +kernel) ⟨(Nat.le_of_ble_eq_true rfl), (Nat.le_of_ble_eq_true rfl)⟩ rfl hl.1 rfl (Nat.le_of_ble_eq_true rfl) dX4_digest_92 ⟨(Nat.le_of_ble_eq_true rfl), (Nat.le_of_ble_eq_true rfl)⟩) (fun r263 u H locs hp w => ?_)
                                                                                                obtain ⟨E264, q265⟩ := u
                                                                                                obtain ⟨rfl, h266⟩ := hp
                                                                                                have h266 : q265 = (F, L, S, n) := h266
                                                                                                subst h266
                                                                                                refine lv_topl (fun x267 ex267 => ?_)
                                                                                                refine lv_lstore_n (lv' := [(1, .long x267), (3, .int 1), (4, .int 6), (0, .ref (ad 0))]) X.1 X.2.1 dX4_digest_95 rfl hl (by decide) rfl (fun ls hl => ?_)
                                                                                                refine lv_iinc (v := 2) (lv' := [(3, .int 2), (1, .long x267), (4, .int 6), (0, .ref (ad 0))]) X.1 X.2.1 dX4_digest_96 hl (k := 1) rfl (by decide) (by decide) rfl (fun ls hl => ?_)
                                                                                                refine lv_goto (tgt := 80) X.1 X.2.1 dX4_digest_99 (by decide) ?_
                                                                                                refine lv_iload_n X.1 X.2.1 dX4_digest_80 rfl (lv_at hl 0 rfl) ?_
                                                                                                refine lv_aload_n X.1 X.2.1 dX4_digest_81 rfl (lv_at hl 3 rfl) ?_
                                                                                                refine g_L X w 1 (by decide) (v := .ref (ad 15)) rfl kw_146 dX4_digest_82 ?_
                                                                                                refine len_R X w dX4_digest_85 ?_
                                                                                                refine lv_icmp_ge (tgt := 102) X.1 X.2.1 dX4_digest_86 (by decide) (fun c268 => ?_) (fun c268 => ?_)
                                                                                                ·
                                                                                                  exact absurd c268 (by decide)
                                                                                                ·
                                                                                                  refine lv_aload_n X.1 X.2.1 dX4_digest_89 rfl (lv_at hl 3 rfl) ?_
                                                                                                  refine lv_lload_n X.1 X.2.1 dX4_digest_90 rfl (lv_at hl 1 rfl) ?_
                                                                                                  refine lv_iload_n X.1 X.2.1 dX4_digest_91 rfl (lv_at hl 0 rfl) ?_
                                                                                                  refine w_calll cn w (w_runV (n := 2) (As := [.long x267, .int 2]) X cn w (lt17 (by decide)) wC_0 rfl (fun sz => c_X4_digestWithPress l D ca ad E264 F L S n hlt q wf hful 2 (by decide) x267 sz) (bg_V kw_353 kw_355 kw_14 kw_31 kw_356) rfl rfl (by decide +kernel) ⟨(Nat.le_of_ble_eq_true rfl), (Nat.le_of_ble_eq_true rfl)⟩ rfl hl.1 rfl (Nat.le_of_ble_eq_true rfl) dX4_digest_92 ⟨(Nat.le_of_ble_eq_true rfl), (Nat.le_of_ble_eq_true rfl)⟩) (fun r269 u H locs hp w => ?_)
                                                                                                  obtain ⟨E270, q271⟩ := u
                                                                                                  obtain ⟨rfl, h272⟩ := hp
                                                                                                  have h272 : q271 = (F, L, S, n) := h272
                                                                                                  subst h272
                                                                                                  refine lv_topl (fun x273 ex273 => ?_)
                                                                                                  refine lv_lstore_n (lv' := [(1, .long x273), (3, .int 2), (4, .int 6), (0, .ref (ad 0))]) X.1 X.2.1 dX4_digest_95 rfl hl (by decide) rfl (fun ls hl => ?_)
                                                                                                  refine lv_iinc (v := 3) (lv' := [(3, .int 3), (1, .long x273), (4, .int 6), (0, .ref (ad 0))]) X.1 X.2.1 dX4_digest_96 hl (k := 1) rfl (by decide) (by decide) rfl (fun ls hl => ?_)
                                                                                                  refine lv_goto (tgt := 80) X.1 X.2.1 dX4_digest_99 (by decide) ?_
                                                                                                  refine lv_iload_n X.1 X.2.1 dX4_digest_80 rfl (lv_at hl 0 rfl) ?_
                                                                                                  refine lv_aload_n X.1 X.2.1 dX4_digest_81 rfl (lv_at hl 3 rfl) ?_
                                                                                                  refine g_L X w 1 (by decide) (v := .ref (ad 15)) rfl kw_146 dX4_digest_82 ?_
                                                                                                  refine len_R X w dX4_digest_85 ?_
                                                                                                  refine lv_icmp_ge (tgt := 102) X.1 X.2.1 dX4_digest_86 (by decide) (fun c274 => ?_) (fun c274 => ?_)
                                                                                                  ·
                                                                                                    refine lv_iconst (v := 0) X.1 X.2.1 dX4_digest_102 (by decide) ?_
                                                                                                    refine lv_istore_n (lv' := [(3, .int 0), (1, .long x273), (4, .int 6), (0, .ref (ad 0))]) X.1 X.2.1 dX4_digest_103 rfl hl (by decide) rfl (fun ls hl => ?_)
                                                                                                    subst ex273; subst ex267; subst ex261; subst ex253; subst ex246; subst ex239; subst ex232; subst ex225; subst ex218; subst ex209; subst ex202; subst ex195; subst ex188; subst ex181; subst ex174; subst ex165; subst ex158; subst ex151; subst ex144; subst ex137; subst ex130; subst ex121; subst ex114; subst ex107; subst ex100; subst ex93; subst ex86; subst ex77; subst ex70; subst ex63; subst ex56; subst ex49; subst ex42; subst ex35; subst ex28; subst ex21; subst ex14; subst ex7;
                                                                                                    exact lp_X4_digest (n := n) X hr hlk cn hlt q wf hful n 0 _ (by omega) E270 _ _ w ls (lv_sub hl [0, 1, 3] rfl)
                                                                                                  ·
                                                                                                    exact absurd (by decide) c274
                                                                                          ·
                                                                                            exact absurd (by decide) c255
                                                                                        ·
                                                                                          exact absurd (by decide) c254
                                                                        ·
                                                                          exact absurd (by decide) c210
                                                        ·
                                                          exact absurd (by decide) c166
                                        ·
                                          exact absurd (by decide) c122
                        ·
                          exact absurd (by decide) c78
