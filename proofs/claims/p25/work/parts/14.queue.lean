set_option maxHeartbeats 4000000 in
set_option maxRecDepth 100000 in
theorem lp_X4_neededOf {p : Program} {l : Launch} {e : Env} {s : State} {m : MethodId} {args : Array Value} {below : List Frame} {meth : Method} {c : Code} {D : va_G} {ca : Nat → ClassId} {ad : Nat → Nat} {F : Fm} {L : Lm} {S : Sm} {n : Nat} (X : CallFix p m c cX4_neededOf 6 s args BG yX4_neededOf.cls) (hr : meth.sig.returnType = (some .int)) (hlk : meth.locks = false) (cn : Cn (wA ad n s.heap.size) s) (q : Nat → Nat) (wf : Wf F L S n q) (t : Nat) (ht : 2 ≤ t ∧ t < 6) (o : Nat) (ho : 6 ≤ o ∧ o < 10) :
    ∀ (d : Nat) (k : Nat) (a : Int32), k + d = q o → ∀ (E : Em) (H : Heap) (locs : List Loc), Wd D ca ad (wA ad n s.heap.size) s H locs (E, F, L, S, n) → ∀ (ls : Array Slot), lv_has ls 6 [(4, .int (nI k)), (3, .int a), (0, .ref (ad 0)), (1, .ref (ad t)), (2, .ref (ad o))] →
      W p l e { frames := 3, cells := 0, slots := 0, locals := 69 } s m args below meth c H locs 0 0 (MQ below (Qi D ca ad n (fun r u => r = s_nee F L S t o d k a ∧ u.2 = (F, L, S, n)) s.heap.size) args s 0 0 (wA ad n s.heap.size)) (F0 m 5 ls []) := by
  intro d
  induction d with
  | zero =>
    intro k a hkd E H locs w ls hl
    have hs := wf.2.2.1
    obtain ⟨hqo, hq20, hqj⟩ := wf.2.2.2 o ho
    refine lv_iload X.1 X.2.1 dX4_neededOf_5 (lv_at hl 0 rfl) ?_
    refine lv_aload_n X.1 X.2.1 dX4_neededOf_7 rfl (lv_at hl 4 rfl) ?_
    refine gn_R X cn w ho 6 (by decide) (v := .int (F o 6)) rfl kw_100 dX4_neededOf_8 ?_
    refine lv_icmp_ge (tgt := 59) X.1 X.2.1 dX4_neededOf_11 (by decide) (fun c1 => ?_) (fun c1 => ?_)
    ·
      refine lv_iload_n X.1 X.2.1 dX4_neededOf_59 rfl (lv_at hl 1 rfl) ?_
      exact w_iret X hr hlk w (by  exact ⟨rfl, rfl⟩) dX4_neededOf_60 rfl (Nat.le_of_ble_eq_true rfl) (Nat.le_of_ble_eq_true rfl)
    ·
      exact absurd (by rw [hqo]; exact (geN hkd hq20).mpr rfl) c1
  | succ d ih =>
    intro k a hkd E H locs w ls hl
    have hs := wf.2.2.1
    obtain ⟨hqo, hq20, hqj⟩ := wf.2.2.2 o ho
    refine lv_iload X.1 X.2.1 dX4_neededOf_5 (lv_at hl 0 rfl) ?_
    refine lv_aload_n X.1 X.2.1 dX4_neededOf_7 rfl (lv_at hl 4 rfl) ?_
    refine gn_R X cn w ho 6 (by decide) (v := .int (F o 6)) rfl kw_100 dX4_neededOf_8 ?_
    refine lv_icmp_ge (tgt := 59) X.1 X.2.1 dX4_neededOf_11 (by decide) (fun c1 => ?_) (fun c1 => ?_)
    ·
      exact absurd ((geN hkd hq20).mp (by rw [← hqo]; exact c1)) (by omega)
    ·
      refine lv_aload_n X.1 X.2.1 dX4_neededOf_14 rfl (lv_at hl 4 rfl) ?_
      refine lv_iload X.1 X.2.1 dX4_neededOf_15 (lv_at hl 0 rfl) ?_
      refine w_callr cn w (w_runVN (n := 1) (As := [.int (nI k)]) X cn w (lt17 (by have := ho; omega)) (wC_R (ho).1 (ho).2) rfl (fun sz => c_X3_jobAt l D ca ad E F L S n o ho (nI k) sz) kw_306 kw_308 kw_8 kw_33 kw_309 rfl rfl (by decide +kernel) ⟨(Nat.le_of_ble_eq_true rfl), (Nat.le_of_ble_eq_true rfl)⟩ rfl hl.1 rfl (Nat.le_of_ble_eq_true rfl) dX4_neededOf_17 ⟨(Nat.le_of_ble_eq_true rfl), (Nat.le_of_ble_eq_true rfl)⟩) (fun r2 u H locs hp w => ?_)
      obtain ⟨rfl, rfl⟩ := hp
      refine W.eq (g2 := F0 m 20 ls [va_rf ((L o k).map (fun j => ad (17 + j)))]) (by rw [jobAt_nI hqo hq20 (by omega)]) ?_
      obtain hj3n | ⟨j3, hj3s⟩ : (L o k) = none ∨ ∃ j, (L o k) = some j := opt_or _
      ·
        refine W.eq (g2 := F0 m 20 ls [.null]) (by simp only [hj3n]; rfl) ?_
        refine lv_astoreN (lv' := [(5, .null), (4, .int (nI k)), (3, .int a), (0, .ref (ad 0)), (1, .ref (ad t)), (2, .ref (ad o))]) X.1 X.2.1 dX4_neededOf_20 hl (by decide) rfl (fun ls hl => ?_)
        refine lv_aloadN X.1 X.2.1 dX4_neededOf_22 (lv_at hl 0 rfl) ?_
        refine lv_ifnullN (tgt := 53) X.1 X.2.1 dX4_neededOf_24 (by decide) ?_
        refine lv_iinc (v := (nI (k + 1))) (lv' := [(4, .int (nI (k + 1))), (5, .null), (3, .int a), (0, .ref (ad 0)), (1, .ref (ad t)), (2, .ref (ad o))]) X.1 X.2.1 dX4_neededOf_53 hl (k := 1) rfl (nI_1 k) (by decide) rfl (fun ls hl => ?_)
        refine lv_goto (tgt := 5) X.1 X.2.1 dX4_neededOf_56 (by decide) ?_
        have hz : s_nee F L S t o (d + 1) k a = s_nee F L S t o d (k + 1) a := by  simp [s_nee, hj3n]
        rw [hz]
        exact ih (k + 1) a (by omega) E H locs w ls (lv_sub hl [0, 2, 3, 4, 5] rfl)
      ·
        refine W.eq (g2 := F0 m 20 ls [.ref (ad (17 + j3))]) (by simp only [hj3s]; rfl) ?_
        refine lv_astore (lv' := [(5, .ref (ad (17 + j3))), (4, .int (nI k)), (3, .int a), (0, .ref (ad 0)), (1, .ref (ad t)), (2, .ref (ad o))]) X.1 X.2.1 dX4_neededOf_20 hl (by decide) rfl (fun ls hl => ?_)
        refine lv_aload X.1 X.2.1 dX4_neededOf_22 (lv_at hl 0 rfl) ?_
        refine lv_ifnull X.1 X.2.1 dX4_neededOf_24 ?_
        refine lv_aload X.1 X.2.1 dX4_neededOf_27 (lv_at hl 0 rfl) ?_
        refine gn_J X cn w (hqj _ _ hj3s) 2 (by decide) (v := .ref (ad (2 + S j3))) rfl kw_468 dX4_neededOf_29 ?_
        refine lv_aload_n X.1 X.2.1 dX4_neededOf_32 rfl (lv_at hl 4 rfl) ?_
        refine lv_acmp_ne (rx := some (ad (2 + S j3))) (ry := some (ad t)) (tgt := 53) X.1 X.2.1 dX4_neededOf_33 (by decide) (fun c4 => ?_) (fun c4 => ?_)
        ·
          have hne : ¬ 2 + S j3 = t := fun h => c4 (by rw [h])
          refine lv_iinc (v := (nI (k + 1))) (lv' := [(4, .int (nI (k + 1))), (5, .ref (ad (17 + j3))), (3, .int a), (0, .ref (ad 0)), (1, .ref (ad t)), (2, .ref (ad o))]) X.1 X.2.1 dX4_neededOf_53 hl (k := 1) rfl (nI_1 k) (by decide) rfl (fun ls hl => ?_)
          refine lv_goto (tgt := 5) X.1 X.2.1 dX4_neededOf_56 (by decide) ?_
          have hz : s_nee F L S t o (d + 1) k a = s_nee F L S t o d (k + 1) a := by  simp [s_nee, hj3s, hne]
          rw [hz]
          exact ih (k + 1) a (by omega) E H locs w ls (lv_sub hl [0, 2, 3, 4, 5] rfl)
        ·
          have hee : 2 + S j3 = t := w_inj w (lt17 (by have := (pap_ok (hs _ (hqj _ _ hj3s))); omega)) (lt17 (by omega)) (Option.some.inj c4)
          refine lv_iload_n X.1 X.2.1 dX4_neededOf_36 rfl (lv_at hl 2 rfl) ?_
          refine lv_aload_n X.1 X.2.1 dX4_neededOf_37 rfl (lv_at hl 3 rfl) ?_
          refine lv_aload X.1 X.2.1 dX4_neededOf_38 (lv_at hl 0 rfl) ?_
          refine lv_aload_n X.1 X.2.1 dX4_neededOf_40 rfl (lv_at hl 5 rfl) ?_
          refine lv_aload_n X.1 X.2.1 dX4_neededOf_41 rfl (lv_at hl 5 rfl) ?_
          refine gn_R X cn w ho 1 (by decide) (v := .int (F o 1)) rfl kw_91 dX4_neededOf_42 ?_
          refine w_callr cn w (w_runV (n := 3) (As := [.ref (ad (17 + j3)), .ref (ad o), .int (F o 1)]) X cn w (lt17 (by decide)) wC_0 rfl (fun sz => c_X4_expect l D ca ad E F L S n j3 (hqj _ _ hj3s) o ho (F o 1) hs sz) (bg_V kw_310 kw_312 kw_9 kw_31 kw_313) rfl rfl (by decide +kernel) ⟨(Nat.le_of_ble_eq_true rfl), (Nat.le_of_ble_eq_true rfl)⟩ rfl hl.1 rfl (Nat.le_of_ble_eq_true rfl) dX4_neededOf_45 ⟨(Nat.le_of_ble_eq_true rfl), (Nat.le_of_ble_eq_true rfl)⟩) (fun r5 u H locs hp w => ?_)
          obtain ⟨rfl, rfl⟩ := hp
          refine W.eq (g2 := F0 m 48 ls [.ref (ad 1), .int a]) rfl ?_
          refine gn_E X cn w 3 (by decide) (v := .int ((s_exp E F S o j3 (F o 1)) 3)) rfl kw_126 dX4_neededOf_48 ?_
          refine W.eq (g2 := F0 m 51 ls [.int (s_needed F o j3), .int a]) rfl ?_
          refine lv_iadd X.1 X.2.1 dX4_neededOf_51 ?_
          refine lv_topi (fun x6 ex6 => ?_)
          refine lv_istore_n (lv' := [(3, .int x6), (5, .ref (ad (17 + j3))), (4, .int (nI k)), (0, .ref (ad 0)), (1, .ref (ad t)), (2, .ref (ad o))]) X.1 X.2.1 dX4_neededOf_52 rfl hl (by decide) rfl (fun ls hl => ?_)
          refine lv_iinc (v := (nI (k + 1))) (lv' := [(4, .int (nI (k + 1))), (3, .int x6), (5, .ref (ad (17 + j3))), (0, .ref (ad 0)), (1, .ref (ad t)), (2, .ref (ad o))]) X.1 X.2.1 dX4_neededOf_53 hl (k := 2) rfl (nI_1 k) (by decide) rfl (fun ls hl => ?_)
          refine lv_goto (tgt := 5) X.1 X.2.1 dX4_neededOf_56 (by decide) ?_
          have hz : s_nee F L S t o (d + 1) k a = s_nee F L S t o d (k + 1) x6 := by subst ex6; simp [s_nee, hj3s, hee]
          rw [hz]
          exact ih (k + 1) x6 (by omega) (s_exp E F S o j3 (F o 1)) H locs w ls (lv_sub hl [0, 1, 3, 4, 5] rfl)

set_option maxHeartbeats 4000000 in
set_option maxRecDepth 100000 in
theorem c_X4_neededOf (l : Launch) (D : va_G) (ca : Nat → ClassId) (ad : Nat → Nat) (E : Em) (F : Fm) (L : Lm) (S : Sm) (n : Nat) (q : Nat → Nat) (wf : Wf F L S n q) (t : Nat) (ht : 2 ≤ t ∧ t < 6) (o : Nat) (ho : 6 ≤ o ∧ o < 10) (sz : Nat) : Met l yX4_neededOf (.code yX4_neededOf cX4_neededOf 6 (some .int) :: BG) { frames := 3, cells := 0, slots := 0, locals := 69 } (Pw D ca ad (E, F, L, S, n) sz [.ref (ad 0), .ref (ad t), .ref (ad o)]) (Qi D ca ad n (fun r u => r = s_neededOf F L S q t o ∧ u.2 = (F, L, S, n)) sz) 0 0 (wA ad n sz) := by
  refine open_W (σ := (E, F, L, S, n)) (Qc := Qi D ca ad n (fun r u => r = s_neededOf F L S q t o ∧ u.2 = (F, L, S, n))) (by decide +kernel) (Nat.le_of_ble_eq_true rfl) ?_
  intro p e s m args below meth c X hr hlk w cn ls hl
  have hl : lv_has ls 6 [(0, .ref (ad 0)), (1, .ref (ad t)), (2, .ref (ad o))] := hl
  have hs := wf.2.2.1
  refine lv_iconst (v := 0) X.1 X.2.1 dX4_neededOf_0 (by decide) ?_
  refine lv_istore_n (lv' := [(3, .int 0), (0, .ref (ad 0)), (1, .ref (ad t)), (2, .ref (ad o))]) X.1 X.2.1 dX4_neededOf_1 rfl hl (by decide) rfl (fun ls hl => ?_)
  refine lv_iconst (v := 0) X.1 X.2.1 dX4_neededOf_2 (by decide) ?_
  refine lv_istore (lv' := [(4, .int 0), (3, .int 0), (0, .ref (ad 0)), (1, .ref (ad t)), (2, .ref (ad o))]) X.1 X.2.1 dX4_neededOf_3 hl (by decide) rfl (fun ls hl => ?_)
  exact lp_X4_neededOf X hr hlk cn q wf t ht o ho (q o) 0 0 (by omega) E _ _ w ls (lv_sub hl [0, 1, 2, 3, 4] rfl)

set_option maxHeartbeats 4000000 in
set_option maxRecDepth 100000 in
theorem c_X4_forecastOf (l : Launch) (D : va_G) (ca : Nat → ClassId) (ad : Nat → Nat) (E : Em) (F : Fm) (L : Lm) (S : Sm) (n : Nat) (q : Nat → Nat) (wf : Wf F L S n q) (t : Nat) (ht : 2 ≤ t ∧ t < 6) (sz : Nat) : Met l yX4_forecastOf (.code yX4_forecastOf cX4_forecastOf 5 (some .int) :: BG) { frames := 4, cells := 0, slots := 0, locals := 94 } (Pw D ca ad (E, F, L, S, n) sz [.ref (ad 0), .ref (ad t)]) (Qi D ca ad n (fun r u => r = s_fore F L S q t ∧ u.2 = (F, L, S, n)) sz) 0 0 (wA ad n sz) := by
  refine open_W (σ := (E, F, L, S, n)) (Qc := Qi D ca ad n (fun r u => r = s_fore F L S q t ∧ u.2 = (F, L, S, n))) (by decide +kernel) (Nat.le_of_ble_eq_true rfl) ?_
  intro p e s m args below meth c X hr hlk w cn ls hl
  have hl : lv_has ls 5 [(0, .ref (ad 0)), (1, .ref (ad t))] := hl
  have hs := wf.2.2.1
  refine lv_iconst (v := 0) X.1 X.2.1 dX4_forecastOf_0 (by decide) ?_
  refine lv_istore_n (lv' := [(2, .int 0), (0, .ref (ad 0)), (1, .ref (ad t))]) X.1 X.2.1 dX4_forecastOf_1 rfl hl (by decide) rfl (fun ls hl => ?_)
  refine lv_iconst (v := 0) X.1 X.2.1 dX4_forecastOf_2 (by decide) ?_
  refine lv_istore_n (lv' := [(3, .int 0), (2, .int 0), (0, .ref (ad 0)), (1, .ref (ad t))]) X.1 X.2.1 dX4_forecastOf_3 rfl hl (by decide) rfl (fun ls hl => ?_)
  refine lv_iload_n X.1 X.2.1 dX4_forecastOf_4 rfl (lv_at hl 0 rfl) ?_
  refine lv_aload_n X.1 X.2.1 dX4_forecastOf_5 rfl (lv_at hl 2 rfl) ?_
  refine g_L X w 1 (by decide) (v := .ref (ad 15)) rfl kw_146 dX4_forecastOf_6 ?_
  refine len_R X w dX4_forecastOf_9 ?_
  refine lv_icmp_ge (tgt := 42) X.1 X.2.1 dX4_forecastOf_10 (by decide) (fun c1 => ?_) (fun c1 => ?_)
  ·
    exact absurd c1 (by decide)
  ·
    refine lv_aload_n X.1 X.2.1 dX4_forecastOf_13 rfl (lv_at hl 2 rfl) ?_
    refine g_L X w 1 (by decide) (v := .ref (ad 15)) rfl kw_146 dX4_forecastOf_14 ?_
    refine lv_iload_n X.1 X.2.1 dX4_forecastOf_17 rfl (lv_at hl 0 rfl) ?_
    refine ld_R X w (in_lit (by decide)) dX4_forecastOf_18 ?_
    refine W.eq (g2 := F0 m 19 ls [.ref (ad 6)]) rfl ?_
    refine lv_astore (lv' := [(4, .ref (ad 6)), (3, .int 0), (2, .int 0), (0, .ref (ad 0)), (1, .ref (ad t))]) X.1 X.2.1 dX4_forecastOf_19 hl (by decide) rfl (fun ls hl => ?_)
    refine lv_aload X.1 X.2.1 dX4_forecastOf_21 (lv_at hl 0 rfl) ?_
    refine lv_ifnull X.1 X.2.1 dX4_forecastOf_23 ?_
    refine lv_iload_n X.1 X.2.1 dX4_forecastOf_26 rfl (lv_at hl 2 rfl) ?_
    refine lv_aload_n X.1 X.2.1 dX4_forecastOf_27 rfl (lv_at hl 3 rfl) ?_
    refine lv_aload_n X.1 X.2.1 dX4_forecastOf_28 rfl (lv_at hl 4 rfl) ?_
    refine lv_aload X.1 X.2.1 dX4_forecastOf_29 (lv_at hl 0 rfl) ?_
    refine w_calli cn w (w_runV (n := 2) (As := [.ref (ad t), .ref (ad 6)]) X cn w (lt17 (by decide)) wC_0 rfl (fun sz => c_X4_neededOf l D ca ad E F L S n q wf t ht 6 (by decide : 6 ≤ 6 ∧ 6 < 10) sz) (bg_V kw_302 kw_304 kw_7 kw_31 kw_305) rfl rfl (by decide +kernel) ⟨(Nat.le_of_ble_eq_true rfl), (Nat.le_of_ble_eq_true rfl)⟩ rfl hl.1 rfl (Nat.le_of_ble_eq_true rfl) dX4_forecastOf_31 ⟨(Nat.le_of_ble_eq_true rfl), (Nat.le_of_ble_eq_true rfl)⟩) (fun r2 u H locs hp w => ?_)
    obtain ⟨E3, q4⟩ := u
    obtain ⟨rfl, h5⟩ := hp
    have h5 : q4 = (F, L, S, n) := h5
    subst h5
    refine lv_iadd X.1 X.2.1 dX4_forecastOf_34 ?_
    refine lv_topi (fun x6 ex6 => ?_)
    refine lv_istore_n (lv' := [(2, .int x6), (4, .ref (ad 6)), (3, .int 0), (0, .ref (ad 0)), (1, .ref (ad t))]) X.1 X.2.1 dX4_forecastOf_35 rfl hl (by decide) rfl (fun ls hl => ?_)
    refine lv_iinc (v := 1) (lv' := [(3, .int 1), (2, .int x6), (4, .ref (ad 6)), (0, .ref (ad 0)), (1, .ref (ad t))]) X.1 X.2.1 dX4_forecastOf_36 hl (k := 2) rfl (by decide) (by decide) rfl (fun ls hl => ?_)
    refine lv_goto (tgt := 4) X.1 X.2.1 dX4_forecastOf_39 (by decide) ?_
    refine lv_iload_n X.1 X.2.1 dX4_forecastOf_4 rfl (lv_at hl 0 rfl) ?_
    refine lv_aload_n X.1 X.2.1 dX4_forecastOf_5 rfl (lv_at hl 3 rfl) ?_
    refine g_L X w 1 (by decide) (v := .ref (ad 15)) rfl kw_146 dX4_forecastOf_6 ?_
    refine len_R X w dX4_forecastOf_9 ?_
    refine lv_icmp_ge (tgt := 42) X.1 X.2.1 dX4_forecastOf_10 (by decide) (fun c7 => ?_) (fun c7 => ?_)
    ·
      exact absurd c7 (by decide)
    ·
      refine lv_aload_n X.1 X.2.1 dX4_forecastOf_13 rfl (lv_at hl 3 rfl) ?_
      refine g_L X w 1 (by decide) (v := .ref (ad 15)) rfl kw_146 dX4_forecastOf_14 ?_
      refine lv_iload_n X.1 X.2.1 dX4_forecastOf_17 rfl (lv_at hl 0 rfl) ?_
      refine ld_R X w (in_lit (by decide)) dX4_forecastOf_18 ?_
      refine W.eq (g2 := F0 m 19 ls [.ref (ad 7)]) rfl ?_
      refine lv_astore (lv' := [(4, .ref (ad 7)), (3, .int 1), (2, .int x6), (0, .ref (ad 0)), (1, .ref (ad t))]) X.1 X.2.1 dX4_forecastOf_19 hl (by decide) rfl (fun ls hl => ?_)
      refine lv_aload X.1 X.2.1 dX4_forecastOf_21 (lv_at hl 0 rfl) ?_
      refine lv_ifnull X.1 X.2.1 dX4_forecastOf_23 ?_
      refine lv_iload_n X.1 X.2.1 dX4_forecastOf_26 rfl (lv_at hl 2 rfl) ?_
      refine lv_aload_n X.1 X.2.1 dX4_forecastOf_27 rfl (lv_at hl 3 rfl) ?_
      refine lv_aload_n X.1 X.2.1 dX4_forecastOf_28 rfl (lv_at hl 4 rfl) ?_
      refine lv_aload X.1 X.2.1 dX4_forecastOf_29 (lv_at hl 0 rfl) ?_
      refine w_calli cn w (w_runV (n := 2) (As := [.ref (ad t), .ref (ad 7)]) X cn w (lt17 (by decide)) wC_0 rfl (fun sz => c_X4_neededOf l D ca ad E3 F L S n q wf t ht 7 (by decide : 6 ≤ 7 ∧ 7 < 10) sz) (bg_V kw_302 kw_304 kw_7 kw_31 kw_305) rfl rfl (by decide +kernel) ⟨(Nat.le_of_ble_eq_true rfl), (Nat.le_of_ble_eq_true rfl)⟩ rfl hl.1 rfl (Nat.le_of_ble_eq_true rfl) dX4_forecastOf_31 ⟨(Nat.le_of_ble_eq_true rfl), (Nat.le_of_ble_eq_true rfl)⟩) (fun r8 u H locs hp w => ?_)
      obtain ⟨E9, q10⟩ := u
      obtain ⟨rfl, h11⟩ := hp
      have h11 : q10 = (F, L, S, n) := h11
      subst h11
      refine lv_iadd X.1 X.2.1 dX4_forecastOf_34 ?_
      refine lv_topi (fun x12 ex12 => ?_)
      refine lv_istore_n (lv' := [(2, .int x12), (4, .ref (ad 7)), (3, .int 1), (0, .ref (ad 0)), (1, .ref (ad t))]) X.1 X.2.1 dX4_forecastOf_35 rfl hl (by decide) rfl (fun ls hl => ?_)
      refine lv_iinc (v := 2) (lv' := [(3, .int 2), (2, .int x12), (4, .ref (ad 7)), (0, .ref (ad 0)), (1, .ref (ad t))]) X.1 X.2.1 dX4_forecastOf_36 hl (k := 2) rfl (by decide) (by decide) rfl (fun ls hl => ?_)
      refine lv_goto (tgt := 4) X.1 X.2.1 dX4_forecastOf_39 (by decide) ?_
      refine lv_iload_n X.1 X.2.1 dX4_forecastOf_4 rfl (lv_at hl 0 rfl) ?_
      refine lv_aload_n X.1 X.2.1 dX4_forecastOf_5 rfl (lv_at hl 3 rfl) ?_
      refine g_L X w 1 (by decide) (v := .ref (ad 15)) rfl kw_146 dX4_forecastOf_6 ?_
      refine len_R X w dX4_forecastOf_9 ?_
      refine lv_icmp_ge (tgt := 42) X.1 X.2.1 dX4_forecastOf_10 (by decide) (fun c13 => ?_) (fun c13 => ?_)
      ·
        exact absurd c13 (by decide)
      ·
        refine lv_aload_n X.1 X.2.1 dX4_forecastOf_13 rfl (lv_at hl 3 rfl) ?_
        refine g_L X w 1 (by decide) (v := .ref (ad 15)) rfl kw_146 dX4_forecastOf_14 ?_
        refine lv_iload_n X.1 X.2.1 dX4_forecastOf_17 rfl (lv_at hl 0 rfl) ?_
        refine ld_R X w (in_lit (by decide)) dX4_forecastOf_18 ?_
        refine W.eq (g2 := F0 m 19 ls [.ref (ad 8)]) rfl ?_
        refine lv_astore (lv' := [(4, .ref (ad 8)), (3, .int 2), (2, .int x12), (0, .ref (ad 0)), (1, .ref (ad t))]) X.1 X.2.1 dX4_forecastOf_19 hl (by decide) rfl (fun ls hl => ?_)
        refine lv_aload X.1 X.2.1 dX4_forecastOf_21 (lv_at hl 0 rfl) ?_
        refine lv_ifnull X.1 X.2.1 dX4_forecastOf_23 ?_
        refine lv_iload_n X.1 X.2.1 dX4_forecastOf_26 rfl (lv_at hl 2 rfl) ?_
        refine lv_aload_n X.1 X.2.1 dX4_forecastOf_27 rfl (lv_at hl 3 rfl) ?_
        refine lv_aload_n X.1 X.2.1 dX4_forecastOf_28 rfl (lv_at hl 4 rfl) ?_
        refine lv_aload X.1 X.2.1 dX4_forecastOf_29 (lv_at hl 0 rfl) ?_
        refine w_calli cn w (w_runV (n := 2) (As := [.ref (ad t), .ref (ad 8)]) X cn w (lt17 (by decide)) wC_0 rfl (fun sz => c_X4_neededOf l D ca ad E9 F L S n q wf t ht 8 (by decide : 6 ≤ 8 ∧ 8 < 10) sz) (bg_V kw_302 kw_304 kw_7 kw_31 kw_305) rfl rfl (by decide +kernel) ⟨(Nat.le_of_ble_eq_true rfl), (Nat.le_of_ble_eq_true rfl)⟩ rfl hl.1 rfl (Nat.le_of_ble_eq_true rfl) dX4_forecastOf_31 ⟨(Nat.le_of_ble_eq_true rfl), (Nat.le_of_ble_eq_true rfl)⟩) (fun r14 u H locs hp w => ?_)
        obtain ⟨E15, q16⟩ := u
        obtain ⟨rfl, h17⟩ := hp
        have h17 : q16 = (F, L, S, n) := h17
        subst h17
        refine lv_iadd X.1 X.2.1 dX4_forecastOf_34 ?_
        refine lv_topi (fun x18 ex18 => ?_)
        refine lv_istore_n (lv' := [(2, .int x18), (4, .ref (ad 8)), (3, .int 2), (0, .ref (ad 0)), (1, .ref (ad t))]) X.1 X.2.1 dX4_forecastOf_35 rfl hl (by decide) rfl (fun ls hl => ?_)
        refine lv_iinc (v := 3) (lv' := [(3, .int 3), (2, .int x18), (4, .ref (ad 8)), (0, .ref (ad 0)), (1, .ref (ad t))]) X.1 X.2.1 dX4_forecastOf_36 hl (k := 2) rfl (by decide) (by decide) rfl (fun ls hl => ?_)
        refine lv_goto (tgt := 4) X.1 X.2.1 dX4_forecastOf_39 (by decide) ?_
        refine lv_iload_n X.1 X.2.1 dX4_forecastOf_4 rfl (lv_at hl 0 rfl) ?_
        refine lv_aload_n X.1 X.2.1 dX4_forecastOf_5 rfl (lv_at hl 3 rfl) ?_
        refine g_L X w 1 (by decide) (v := .ref (ad 15)) rfl kw_146 dX4_forecastOf_6 ?_
        refine len_R X w dX4_forecastOf_9 ?_
        refine lv_icmp_ge (tgt := 42) X.1 X.2.1 dX4_forecastOf_10 (by decide) (fun c19 => ?_) (fun c19 => ?_)
        ·
          refine lv_iload_n X.1 X.2.1 dX4_forecastOf_42 rfl (lv_at hl 1 rfl) ?_
          exact w_iret X hr hlk w (by subst ex18; subst ex12; subst ex6; exact ⟨rfl, rfl⟩) dX4_forecastOf_43 rfl (Nat.le_of_ble_eq_true rfl) (Nat.le_of_ble_eq_true rfl)
        ·
          exact absurd (by decide) c19

set_option maxHeartbeats 4000000 in
set_option maxRecDepth 100000 in
theorem c_X4_shortOf (l : Launch) (D : va_G) (ca : Nat → ClassId) (ad : Nat → Nat) (E : Em) (F : Fm) (L : Lm) (S : Sm) (n : Nat) (q : Nat → Nat) (wf : Wf F L S n q) (t : Nat) (ht : 2 ≤ t ∧ t < 6) (sz : Nat) : Met l yX4_shortOf (.code yX4_shortOf cX4_shortOf 2 (some .int) :: BG) { frames := 5, cells := 0, slots := 0, locals := 118 } (Pw D ca ad (E, F, L, S, n) sz [.ref (ad 0), .ref (ad t)]) (Qi D ca ad n (fun r u => r = s_short F L S q t ∧ u.2 = (F, L, S, n)) sz) 0 0 (wA ad n sz) := by
  refine open_W (σ := (E, F, L, S, n)) (Qc := Qi D ca ad n (fun r u => r = s_short F L S q t ∧ u.2 = (F, L, S, n))) (by decide +kernel) (Nat.le_of_ble_eq_true rfl) ?_
  intro p e s m args below meth c X hr hlk w cn ls hl
  have hl : lv_has ls 2 [(0, .ref (ad 0)), (1, .ref (ad t))] := hl
  have hs := wf.2.2.1
  refine lv_aload_n X.1 X.2.1 dX4_shortOf_0 rfl (lv_at hl 0 rfl) ?_
  refine lv_aload_n X.1 X.2.1 dX4_shortOf_1 rfl (lv_at hl 1 rfl) ?_
  refine w_calli cn w (w_runV (n := 1) (As := [.ref (ad t)]) X cn w (lt17 (by decide)) wC_0 rfl (fun sz => c_X4_forecastOf l D ca ad E F L S n q wf t ht sz) (bg_V kw_298 kw_300 kw_6 kw_31 kw_301) rfl rfl (by decide +kernel) ⟨(Nat.le_of_ble_eq_true rfl), (Nat.le_of_ble_eq_true rfl)⟩ rfl hl.1 rfl (Nat.le_of_ble_eq_true rfl) dX4_shortOf_2 ⟨(Nat.le_of_ble_eq_true rfl), (Nat.le_of_ble_eq_true rfl)⟩) (fun r1 u H locs hp w => ?_)
  obtain ⟨E2, q3⟩ := u
  obtain ⟨rfl, h4⟩ := hp
  have h4 : q3 = (F, L, S, n) := h4
  subst h4
  refine lv_aload_n X.1 X.2.1 dX4_shortOf_5 rfl (lv_at hl 1 rfl) ?_
  refine gn_P X cn w ht 3 (by decide) (v := .int (F t 3)) rfl kw_68 dX4_shortOf_6 ?_
  refine lv_isub X.1 X.2.1 dX4_shortOf_9 ?_
  refine lv_iconst (v := 0) X.1 X.2.1 dX4_shortOf_10 (by decide) ?_
  refine n_max X hl.1 (X.2.2.2.2 _ kw_351) (Nat.le_of_ble_eq_true rfl) (Nat.le_of_ble_eq_true rfl) (Nat.le_of_ble_eq_true rfl) (Nat.le_of_ble_eq_true rfl) dX4_shortOf_11 ?_
  exact w_iret X hr hlk w (by  exact ⟨rfl, rfl⟩) dX4_shortOf_14 rfl (Nat.le_of_ble_eq_true rfl) (Nat.le_of_ble_eq_true rfl)

set_option maxHeartbeats 4000000 in
set_option maxRecDepth 100000 in
theorem lp_X4_minutesOfQueue {p : Program} {l : Launch} {e : Env} {s : State} {m : MethodId} {args : Array Value} {below : List Frame} {meth : Method} {c : Code} {D : va_G} {ca : Nat → ClassId} {ad : Nat → Nat} {F : Fm} {L : Lm} {S : Sm} {n : Nat} (X : CallFix p m c cX4_minutesOfQueue 6 s args BG yX4_minutesOfQueue.cls) (hr : meth.sig.returnType = (some .int)) (hlk : meth.locks = false) (cn : Cn (wA ad n s.heap.size) s) (q : Nat → Nat) (wf : Wf F L S n q) (o : Nat) (ho : 6 ≤ o ∧ o < 10) :
    ∀ (d : Nat) (k : Nat) (a : Int32) (i : Int32), k + d = q o → ∀ (E : Em) (H : Heap) (locs : List Loc), Wd D ca ad (wA ad n s.heap.size) s H locs (E, F, L, S, n) → ∀ (ls : Array Slot), lv_has ls 6 [(4, .int (nI k)), (3, .int i), (2, .int a), (0, .ref (ad 0)), (1, .ref (ad o))] →
      W p l e { frames := 3, cells := 0, slots := 0, locals := 69 } s m args below meth c H locs 0 0 (MQ below (Qi D ca ad n (fun r u => r = s_min F L o d k a i ∧ u.2 = (F, L, S, n)) s.heap.size) args s 0 0 (wA ad n s.heap.size)) (F0 m 10 ls []) := by
  intro d
  induction d with
  | zero =>
    intro k a i hkd E H locs w ls hl
    have hs := wf.2.2.1
    obtain ⟨hqo, hq20, hqj⟩ := wf.2.2.2 o ho
    refine lv_iload X.1 X.2.1 dX4_minutesOfQueue_10 (lv_at hl 0 rfl) ?_
    refine lv_aload_n X.1 X.2.1 dX4_minutesOfQueue_12 rfl (lv_at hl 4 rfl) ?_
    refine gn_R X cn w ho 6 (by decide) (v := .int (F o 6)) rfl kw_100 dX4_minutesOfQueue_13 ?_
    refine lv_icmp_ge (tgt := 58) X.1 X.2.1 dX4_minutesOfQueue_16 (by decide) (fun c1 => ?_) (fun c1 => ?_)
    ·
      refine lv_iload_n X.1 X.2.1 dX4_minutesOfQueue_58 rfl (lv_at hl 2 rfl) ?_
      exact w_iret X hr hlk w (by  exact ⟨rfl, rfl⟩) dX4_minutesOfQueue_59 rfl (Nat.le_of_ble_eq_true rfl) (Nat.le_of_ble_eq_true rfl)
    ·
      exact absurd (by rw [hqo]; exact (geN hkd hq20).mpr rfl) c1
  | succ d ih =>
    intro k a i hkd E H locs w ls hl
    have hs := wf.2.2.1
    obtain ⟨hqo, hq20, hqj⟩ := wf.2.2.2 o ho
    refine lv_iload X.1 X.2.1 dX4_minutesOfQueue_10 (lv_at hl 0 rfl) ?_
    refine lv_aload_n X.1 X.2.1 dX4_minutesOfQueue_12 rfl (lv_at hl 4 rfl) ?_
    refine gn_R X cn w ho 6 (by decide) (v := .int (F o 6)) rfl kw_100 dX4_minutesOfQueue_13 ?_
    refine lv_icmp_ge (tgt := 58) X.1 X.2.1 dX4_minutesOfQueue_16 (by decide) (fun c1 => ?_) (fun c1 => ?_)
    ·
      exact absurd ((geN hkd hq20).mp (by rw [← hqo]; exact c1)) (by omega)
    ·
      refine lv_aload_n X.1 X.2.1 dX4_minutesOfQueue_19 rfl (lv_at hl 4 rfl) ?_
      refine lv_iload X.1 X.2.1 dX4_minutesOfQueue_20 (lv_at hl 0 rfl) ?_
      refine w_callr cn w (w_runVN (n := 1) (As := [.int (nI k)]) X cn w (lt17 (by have := ho; omega)) (wC_R (ho).1 (ho).2) rfl (fun sz => c_X3_jobAt l D ca ad E F L S n o ho (nI k) sz) kw_306 kw_308 kw_8 kw_33 kw_309 rfl rfl (by decide +kernel) ⟨(Nat.le_of_ble_eq_true rfl), (Nat.le_of_ble_eq_true rfl)⟩ rfl hl.1 rfl (Nat.le_of_ble_eq_true rfl) dX4_minutesOfQueue_22 ⟨(Nat.le_of_ble_eq_true rfl), (Nat.le_of_ble_eq_true rfl)⟩) (fun r2 u H locs hp w => ?_)
      obtain ⟨rfl, rfl⟩ := hp
      refine W.eq (g2 := F0 m 25 ls [va_rf ((L o k).map (fun j => ad (17 + j)))]) (by rw [jobAt_nI hqo hq20 (by omega)]) ?_
      obtain hj3n | ⟨j3, hj3s⟩ : (L o k) = none ∨ ∃ j, (L o k) = some j := opt_or _
      ·
        refine W.eq (g2 := F0 m 25 ls [.null]) (by simp only [hj3n]; rfl) ?_
        refine lv_astoreN (lv' := [(5, .null), (4, .int (nI k)), (3, .int i), (2, .int a), (0, .ref (ad 0)), (1, .ref (ad o))]) X.1 X.2.1 dX4_minutesOfQueue_25 hl (by decide) rfl (fun ls hl => ?_)
        refine lv_aloadN X.1 X.2.1 dX4_minutesOfQueue_27 (lv_at hl 0 rfl) ?_
        refine lv_ifnullN (tgt := 52) X.1 X.2.1 dX4_minutesOfQueue_29 (by decide) ?_
        refine lv_iinc (v := (nI (k + 1))) (lv' := [(4, .int (nI (k + 1))), (5, .null), (3, .int i), (2, .int a), (0, .ref (ad 0)), (1, .ref (ad o))]) X.1 X.2.1 dX4_minutesOfQueue_52 hl (k := 1) rfl (nI_1 k) (by decide) rfl (fun ls hl => ?_)
        refine lv_goto (tgt := 10) X.1 X.2.1 dX4_minutesOfQueue_55 (by decide) ?_
        have hz : s_min F L o (d + 1) k a i = s_min F L o d (k + 1) a i := by  simp [s_min, hj3n]
        rw [hz]
        exact ih (k + 1) a i (by omega) E H locs w ls (lv_sub hl [0, 2, 3, 4, 5] rfl)
      ·
        refine W.eq (g2 := F0 m 25 ls [.ref (ad (17 + j3))]) (by simp only [hj3s]; rfl) ?_
        refine lv_astore (lv' := [(5, .ref (ad (17 + j3))), (4, .int (nI k)), (3, .int i), (2, .int a), (0, .ref (ad 0)), (1, .ref (ad o))]) X.1 X.2.1 dX4_minutesOfQueue_25 hl (by decide) rfl (fun ls hl => ?_)
        refine lv_aload X.1 X.2.1 dX4_minutesOfQueue_27 (lv_at hl 0 rfl) ?_
        refine lv_ifnull X.1 X.2.1 dX4_minutesOfQueue_29 ?_
        refine lv_iload_n X.1 X.2.1 dX4_minutesOfQueue_32 rfl (lv_at hl 3 rfl) ?_
        refine lv_aload_n X.1 X.2.1 dX4_minutesOfQueue_33 rfl (lv_at hl 4 rfl) ?_
        refine lv_aload X.1 X.2.1 dX4_minutesOfQueue_34 (lv_at hl 0 rfl) ?_
        refine lv_aload_n X.1 X.2.1 dX4_minutesOfQueue_36 rfl (lv_at hl 5 rfl) ?_
        refine lv_iload_n X.1 X.2.1 dX4_minutesOfQueue_37 rfl (lv_at hl 2 rfl) ?_
        refine w_callr cn w (w_runV (n := 3) (As := [.ref (ad (17 + j3)), .ref (ad o), .int i]) X cn w (lt17 (by decide)) wC_0 rfl (fun sz => c_X4_expect l D ca ad E F L S n j3 (hqj _ _ hj3s) o ho i hs sz) (bg_V kw_310 kw_312 kw_9 kw_31 kw_313) rfl rfl (by decide +kernel) ⟨(Nat.le_of_ble_eq_true rfl), (Nat.le_of_ble_eq_true rfl)⟩ rfl hl.1 rfl (Nat.le_of_ble_eq_true rfl) dX4_minutesOfQueue_38 ⟨(Nat.le_of_ble_eq_true rfl), (Nat.le_of_ble_eq_true rfl)⟩) (fun r4 u H locs hp w => ?_)
        obtain ⟨rfl, rfl⟩ := hp
        refine W.eq (g2 := F0 m 41 ls [.ref (ad 1), .int a]) rfl ?_
        refine gn_E X cn w 4 (by decide) (v := .int ((s_exp E F S o j3 i) 4)) rfl kw_127 dX4_minutesOfQueue_41 ?_
        refine W.eq (g2 := F0 m 44 ls [.int (s_minutes F o j3 i), .int a]) rfl ?_
        refine lv_iadd X.1 X.2.1 dX4_minutesOfQueue_44 ?_
        refine lv_topi (fun x5 ex5 => ?_)
        refine lv_istore_n (lv' := [(2, .int x5), (5, .ref (ad (17 + j3))), (4, .int (nI k)), (3, .int i), (0, .ref (ad 0)), (1, .ref (ad o))]) X.1 X.2.1 dX4_minutesOfQueue_45 rfl hl (by decide) rfl (fun ls hl => ?_)
        refine lv_aload X.1 X.2.1 dX4_minutesOfQueue_46 (lv_at hl 1 rfl) ?_
        refine gn_J X cn w (hqj _ _ hj3s) 4 (by decide) (v := .int (F (17 + j3) 4)) rfl kw_473 dX4_minutesOfQueue_48 ?_
        refine lv_topi (fun x6 ex6 => ?_)
        refine lv_istore_n (lv' := [(3, .int x6), (2, .int x5), (5, .ref (ad (17 + j3))), (4, .int (nI k)), (0, .ref (ad 0)), (1, .ref (ad o))]) X.1 X.2.1 dX4_minutesOfQueue_51 rfl hl (by decide) rfl (fun ls hl => ?_)
        refine lv_iinc (v := (nI (k + 1))) (lv' := [(4, .int (nI (k + 1))), (3, .int x6), (2, .int x5), (5, .ref (ad (17 + j3))), (0, .ref (ad 0)), (1, .ref (ad o))]) X.1 X.2.1 dX4_minutesOfQueue_52 hl (k := 3) rfl (nI_1 k) (by decide) rfl (fun ls hl => ?_)
        refine lv_goto (tgt := 10) X.1 X.2.1 dX4_minutesOfQueue_55 (by decide) ?_
        have hz : s_min F L o (d + 1) k a i = s_min F L o d (k + 1) x5 x6 := by subst ex6; subst ex5; simp [s_min, hj3s]
        rw [hz]
        exact ih (k + 1) x5 x6 (by omega) (s_exp E F S o j3 i) H locs w ls (lv_sub hl [0, 1, 2, 4, 5] rfl)

set_option maxHeartbeats 4000000 in
set_option maxRecDepth 100000 in
theorem c_X4_minutesOfQueue (l : Launch) (D : va_G) (ca : Nat → ClassId) (ad : Nat → Nat) (E : Em) (F : Fm) (L : Lm) (S : Sm) (n : Nat) (q : Nat → Nat) (wf : Wf F L S n q) (o : Nat) (ho : 6 ≤ o ∧ o < 10) (sz : Nat) : Met l yX4_minutesOfQueue (.code yX4_minutesOfQueue cX4_minutesOfQueue 6 (some .int) :: BG) { frames := 3, cells := 0, slots := 0, locals := 69 } (Pw D ca ad (E, F, L, S, n) sz [.ref (ad 0), .ref (ad o)]) (Qi D ca ad n (fun r u => r = s_minQ F L q o ∧ u.2 = (F, L, S, n)) sz) 0 0 (wA ad n sz) := by
  refine open_W (σ := (E, F, L, S, n)) (Qc := Qi D ca ad n (fun r u => r = s_minQ F L q o ∧ u.2 = (F, L, S, n))) (by decide +kernel) (Nat.le_of_ble_eq_true rfl) ?_
  intro p e s m args below meth c X hr hlk w cn ls hl
  have hl : lv_has ls 6 [(0, .ref (ad 0)), (1, .ref (ad o))] := hl
  have hs := wf.2.2.1
  refine lv_iconst (v := 0) X.1 X.2.1 dX4_minutesOfQueue_0 (by decide) ?_
  refine lv_istore_n (lv' := [(2, .int 0), (0, .ref (ad 0)), (1, .ref (ad o))]) X.1 X.2.1 dX4_minutesOfQueue_1 rfl hl (by decide) rfl (fun ls hl => ?_)
  refine lv_aload_n X.1 X.2.1 dX4_minutesOfQueue_2 rfl (lv_at hl 2 rfl) ?_
  refine gn_R X cn w ho 1 (by decide) (v := .int (F o 1)) rfl kw_91 dX4_minutesOfQueue_3 ?_
  refine lv_topi (fun x1 ex1 => ?_)
  refine lv_istore_n (lv' := [(3, .int x1), (2, .int 0), (0, .ref (ad 0)), (1, .ref (ad o))]) X.1 X.2.1 dX4_minutesOfQueue_6 rfl hl (by decide) rfl (fun ls hl => ?_)
  refine lv_iconst (v := 0) X.1 X.2.1 dX4_minutesOfQueue_7 (by decide) ?_
  refine lv_istore (lv' := [(4, .int 0), (3, .int x1), (2, .int 0), (0, .ref (ad 0)), (1, .ref (ad o))]) X.1 X.2.1 dX4_minutesOfQueue_8 hl (by decide) rfl (fun ls hl => ?_)
  subst ex1;
  exact lp_X4_minutesOfQueue X hr hlk cn q wf o ho (q o) 0 0 (F o 1) (by omega) E _ _ w ls (lv_sub hl [0, 1, 2, 3, 4] rfl)

def s_bA2 (F : Fm) (L : Lm) (S : Sm) (q : Nat → Nat) : Fm := s_buyF F L S q 2
def s_bA3 (F : Fm) (L : Lm) (S : Sm) (q : Nat → Nat) : Fm := s_buyF (s_bA2 F L S q) L S q 3
def s_bA4 (F : Fm) (L : Lm) (S : Sm) (q : Nat → Nat) : Fm := s_buyF (s_bA3 F L S q) L S q 4
def s_bA5 (F : Fm) (L : Lm) (S : Sm) (q : Nat → Nat) : Fm := s_buyF (s_bA4 F L S q) L S q 5
def s_bought (F : Fm) (L : Lm) (S : Sm) (q : Nat → Nat) : Int32 := 0 + s_lots F L S q 2 + s_lots (s_bA2 F L S q) L S q 3 + s_lots (s_bA3 F L S q) L S q 4 + s_lots (s_bA4 F L S q) L S q 5

set_option maxHeartbeats 4000000 in
set_option maxRecDepth 100000 in
theorem c_X4_buyAll (l : Launch) (D : va_G) (ca : Nat → ClassId) (ad : Nat → Nat) (E : Em) (F : Fm) (L : Lm) (S : Sm) (n : Nat) (q : Nat → Nat) (wf : Wf F L S n q) (sz : Nat) : Met l yX4_buyAll (.code yX4_buyAll cX4_buyAll 6 (some .int) :: BG) { frames := 6, cells := 0, slots := 0, locals := 139 } (Pw D ca ad (E, F, L, S, n) sz [.ref (ad 0)]) (Qi D ca ad n (fun r u => r = s_bought F L S q ∧ u.2 = (s_bA5 F L S q, L, S, n)) sz) 0 0 (wA ad n sz) := by
  refine open_W (σ := (E, F, L, S, n)) (Qc := Qi D ca ad n (fun r u => r = s_bought F L S q ∧ u.2 = (s_bA5 F L S q, L, S, n))) (by decide +kernel) (Nat.le_of_ble_eq_true rfl) ?_
  intro p e s m args below meth c X hr hlk w cn ls hl
  have hl : lv_has ls 6 [(0, .ref (ad 0))] := hl
  have hs := wf.2.2.1
  refine lv_iconst (v := 0) X.1 X.2.1 dX4_buyAll_0 (by decide) ?_
  refine lv_istore_n (lv' := [(1, .int 0), (0, .ref (ad 0))]) X.1 X.2.1 dX4_buyAll_1 rfl hl (by decide) rfl (fun ls hl => ?_)
  refine lv_iconst (v := 0) X.1 X.2.1 dX4_buyAll_2 (by decide) ?_
  refine lv_istore_n (lv' := [(2, .int 0), (1, .int 0), (0, .ref (ad 0))]) X.1 X.2.1 dX4_buyAll_3 rfl hl (by decide) rfl (fun ls hl => ?_)
  refine lv_iload_n X.1 X.2.1 dX4_buyAll_4 rfl (lv_at hl 0 rfl) ?_
  refine lv_aload_n X.1 X.2.1 dX4_buyAll_5 rfl (lv_at hl 2 rfl) ?_
  refine g_L X w 0 (by decide) (v := .ref (ad 14)) rfl kw_145 dX4_buyAll_6 ?_
  refine len_P X w dX4_buyAll_9 ?_
  refine lv_icmp_ge (tgt := 71) X.1 X.2.1 dX4_buyAll_10 (by decide) (fun c1 => ?_) (fun c1 => ?_)
  ·
    exact absurd c1 (by decide)
  ·
    refine lv_aload_n X.1 X.2.1 dX4_buyAll_13 rfl (lv_at hl 2 rfl) ?_
    refine g_L X w 0 (by decide) (v := .ref (ad 14)) rfl kw_145 dX4_buyAll_14 ?_
    refine lv_iload_n X.1 X.2.1 dX4_buyAll_17 rfl (lv_at hl 0 rfl) ?_
    refine ld_P X w (in_lit (by decide)) dX4_buyAll_18 ?_
    refine W.eq (g2 := F0 m 19 ls [.ref (ad 2)]) rfl ?_
    refine lv_astore_n (lv' := [(3, .ref (ad 2)), (2, .int 0), (1, .int 0), (0, .ref (ad 0))]) X.1 X.2.1 dX4_buyAll_19 rfl hl (by decide) rfl (fun ls hl => ?_)
    refine lv_aload_n X.1 X.2.1 dX4_buyAll_20 rfl (lv_at hl 0 rfl) ?_
    refine lv_ifnull X.1 X.2.1 dX4_buyAll_21 ?_
    refine lv_aload_n X.1 X.2.1 dX4_buyAll_24 rfl (lv_at hl 3 rfl) ?_
    refine lv_aload_n X.1 X.2.1 dX4_buyAll_25 rfl (lv_at hl 0 rfl) ?_
    refine w_calli cn w (w_runV (n := 1) (As := [.ref (ad 2)]) X cn w (lt17 (by decide)) wC_0 rfl (fun sz => c_X4_shortOf l D ca ad E F L S n q wf 2 (by decide : 2 ≤ 2 ∧ 2 < 6) sz) (bg_V kw_347 kw_349 kw_13 kw_31 kw_350) rfl rfl (by decide +kernel) ⟨(Nat.le_of_ble_eq_true rfl), (Nat.le_of_ble_eq_true rfl)⟩ rfl hl.1 rfl (Nat.le_of_ble_eq_true rfl) dX4_buyAll_26 ⟨(Nat.le_of_ble_eq_true rfl), (Nat.le_of_ble_eq_true rfl)⟩) (fun r2 u H locs hp w => ?_)
    obtain ⟨E3, q4⟩ := u
    obtain ⟨rfl, h5⟩ := hp
    have h5 : q4 = (F, L, S, n) := h5
    subst h5
    refine lv_sipush (v := 250) X.1 X.2.1 dX4_buyAll_29 (by decide) ?_
    refine n_calli w (n_runS (n := 2) (As := [.int (s_short F L S q 2), .int 250]) X (c_X4_divideUp l (s_short F L S q 2) 250) (bg_S kw_559 kw_323 kw_31 kw_324) rfl rfl (by decide +kernel) ⟨(Nat.le_of_ble_eq_true rfl), (Nat.le_of_ble_eq_true rfl)⟩ rfl hl.1 rfl (Nat.le_of_ble_eq_true rfl) dX4_buyAll_32 ⟨(Nat.le_of_ble_eq_true rfl), (Nat.le_of_ble_eq_true rfl)⟩) (fun H locs w => ?_)
    refine lv_topi (fun x6 ex6 => ?_)
    refine lv_istore (lv' := [(4, .int x6), (3, .ref (ad 2)), (2, .int 0), (1, .int 0), (0, .ref (ad 0))]) X.1 X.2.1 dX4_buyAll_35 hl (by decide) rfl (fun ls hl => ?_)
    refine lv_iload X.1 X.2.1 dX4_buyAll_37 (lv_at hl 0 rfl) ?_
    refine lv_bipush (v := 40) X.1 X.2.1 dX4_buyAll_39 (by decide) ?_
    refine n_min X hl.1 (X.2.2.2.2 _ kw_560) (Nat.le_of_ble_eq_true rfl) (Nat.le_of_ble_eq_true rfl) (Nat.le_of_ble_eq_true rfl) (Nat.le_of_ble_eq_true rfl) dX4_buyAll_41 ?_
    refine lv_aload_n X.1 X.2.1 dX4_buyAll_44 rfl (lv_at hl 1 rfl) ?_
    refine w_calli cn w (w_runVN (n := 0) (As := []) X cn w (lt17 (by have := (by decide : 2 ≤ 2 ∧ 2 < 6); omega)) (wC_P ((by decide : 2 ≤ 2 ∧ 2 < 6)).1 ((by decide : 2 ≤ 2 ∧ 2 < 6)).2) rfl (fun sz => c_X2_lotsWithRoom l D ca ad E3 F L S n 2 (by decide : 2 ≤ 2 ∧ 2 < 6) sz) kw_544 kw_546 kw_23 kw_32 kw_547 rfl rfl (by decide +kernel) ⟨(Nat.le_of_ble_eq_true rfl), (Nat.le_of_ble_eq_true rfl)⟩ rfl hl.1 rfl (Nat.le_of_ble_eq_true rfl) dX4_buyAll_45 ⟨(Nat.le_of_ble_eq_true rfl), (Nat.le_of_ble_eq_true rfl)⟩) (fun r7 u H locs hp w => ?_)
    obtain ⟨rfl, rfl⟩ := hp
    refine n_min X hl.1 (X.2.2.2.2 _ kw_560) (Nat.le_of_ble_eq_true rfl) (Nat.le_of_ble_eq_true rfl) (Nat.le_of_ble_eq_true rfl) (Nat.le_of_ble_eq_true rfl) dX4_buyAll_48 ?_
    refine lv_topi (fun x8 ex8 => ?_)
    refine lv_istore (lv' := [(5, .int x8), (4, .int x6), (3, .ref (ad 2)), (2, .int 0), (1, .int 0), (0, .ref (ad 0))]) X.1 X.2.1 dX4_buyAll_51 hl (by decide) rfl (fun ls hl => ?_)
    refine lv_aload_n X.1 X.2.1 dX4_buyAll_53 rfl (lv_at hl 5 rfl) ?_
    refine lv_aload_n X.1 X.2.1 dX4_buyAll_54 rfl (lv_at hl 2 rfl) ?_
    refine lv_iload X.1 X.2.1 dX4_buyAll_55 (lv_at hl 0 rfl) ?_
    refine w_callv cn w (w_runV (n := 2) (As := [.ref (ad 2), .int x8]) X cn w (lt17 (by decide)) wC_0 rfl (fun sz => c_X4_bring l D ca ad E3 F L S n 2 (by decide : 2 ≤ 2 ∧ 2 < 6) x8 sz) (bg_V kw_550 kw_552 kw_24 kw_31 kw_553) rfl rfl (by decide +kernel) ⟨(Nat.le_of_ble_eq_true rfl), (Nat.le_of_ble_eq_true rfl)⟩ rfl hl.1 rfl (Nat.le_of_ble_eq_true rfl) dX4_buyAll_57 ⟨(Nat.le_of_ble_eq_true rfl), (Nat.le_of_ble_eq_true rfl)⟩) (fun u H locs hp w => ?_)
    subst hp
    obtain ⟨F9, eF9⟩ : ∃ G : Fm, G = (s_bring F 2 x8) := ⟨_, rfl⟩
    have wf : Wf F9 L S n q := by rw [eF9]; exact wf.buy (by decide : 2 ≤ 2 ∧ 2 < 6)
    rw [← eF9] at w
    refine lv_iload_n X.1 X.2.1 dX4_buyAll_60 rfl (lv_at hl 4 rfl) ?_
    refine lv_iload X.1 X.2.1 dX4_buyAll_61 (lv_at hl 0 rfl) ?_
    refine lv_iadd X.1 X.2.1 dX4_buyAll_63 ?_
    refine lv_topi (fun x10 ex10 => ?_)
    refine lv_istore_n (lv' := [(1, .int x10), (5, .int x8), (4, .int x6), (3, .ref (ad 2)), (2, .int 0), (0, .ref (ad 0))]) X.1 X.2.1 dX4_buyAll_64 rfl hl (by decide) rfl (fun ls hl => ?_)
    refine lv_iinc (v := 1) (lv' := [(2, .int 1), (1, .int x10), (5, .int x8), (4, .int x6), (3, .ref (ad 2)), (0, .ref (ad 0))]) X.1 X.2.1 dX4_buyAll_65 hl (k := 4) rfl (by decide) (by decide) rfl (fun ls hl => ?_)
    refine lv_goto (tgt := 4) X.1 X.2.1 dX4_buyAll_68 (by decide) ?_
    refine lv_iload_n X.1 X.2.1 dX4_buyAll_4 rfl (lv_at hl 0 rfl) ?_
    refine lv_aload_n X.1 X.2.1 dX4_buyAll_5 rfl (lv_at hl 5 rfl) ?_
    refine g_L X w 0 (by decide) (v := .ref (ad 14)) rfl kw_145 dX4_buyAll_6 ?_
    refine len_P X w dX4_buyAll_9 ?_
    refine lv_icmp_ge (tgt := 71) X.1 X.2.1 dX4_buyAll_10 (by decide) (fun c11 => ?_) (fun c11 => ?_)
    ·
      exact absurd c11 (by decide)
    ·
      refine lv_aload_n X.1 X.2.1 dX4_buyAll_13 rfl (lv_at hl 5 rfl) ?_
      refine g_L X w 0 (by decide) (v := .ref (ad 14)) rfl kw_145 dX4_buyAll_14 ?_
      refine lv_iload_n X.1 X.2.1 dX4_buyAll_17 rfl (lv_at hl 0 rfl) ?_
      refine ld_P X w (in_lit (by decide)) dX4_buyAll_18 ?_
      refine W.eq (g2 := F0 m 19 ls [.ref (ad 3)]) rfl ?_
      refine lv_astore_n (lv' := [(3, .ref (ad 3)), (2, .int 1), (1, .int x10), (5, .int x8), (4, .int x6), (0, .ref (ad 0))]) X.1 X.2.1 dX4_buyAll_19 rfl hl (by decide) rfl (fun ls hl => ?_)
      refine lv_aload_n X.1 X.2.1 dX4_buyAll_20 rfl (lv_at hl 0 rfl) ?_
      refine lv_ifnull X.1 X.2.1 dX4_buyAll_21 ?_
      refine lv_aload_n X.1 X.2.1 dX4_buyAll_24 rfl (lv_at hl 5 rfl) ?_
      refine lv_aload_n X.1 X.2.1 dX4_buyAll_25 rfl (lv_at hl 0 rfl) ?_
      refine w_calli cn w (w_runV (n := 1) (As := [.ref (ad 3)]) X cn w (lt17 (by decide)) wC_0 rfl (fun sz => c_X4_shortOf l D ca ad E3 F9 L S n q wf 3 (by decide : 2 ≤ 3 ∧ 3 < 6) sz) (bg_V kw_347 kw_349 kw_13 kw_31 kw_350) rfl rfl (by decide +kernel) ⟨(Nat.le_of_ble_eq_true rfl), (Nat.le_of_ble_eq_true rfl)⟩ rfl hl.1 rfl (Nat.le_of_ble_eq_true rfl) dX4_buyAll_26 ⟨(Nat.le_of_ble_eq_true rfl), (Nat.le_of_ble_eq_true rfl)⟩) (fun r12 u H locs hp w => ?_)
      obtain ⟨E13, q14⟩ := u
      obtain ⟨rfl, h15⟩ := hp
      have h15 : q14 = (F9, L, S, n) := h15
      subst h15
      refine lv_sipush (v := 250) X.1 X.2.1 dX4_buyAll_29 (by decide) ?_
      refine n_calli w (n_runS (n := 2) (As := [.int (s_short F9 L S q 3), .int 250]) X (c_X4_divideUp l (s_short F9 L S q 3) 250) (bg_S kw_559 kw_323 kw_31 kw_324) rfl rfl (by decide +kernel) ⟨(Nat.le_of_ble_eq_true rfl), (Nat.le_of_ble_eq_true rfl)⟩ rfl hl.1 rfl (Nat.le_of_ble_eq_true rfl) dX4_buyAll_32 ⟨(Nat.le_of_ble_eq_true rfl), (Nat.le_of_ble_eq_true rfl)⟩) (fun H locs w => ?_)
      refine lv_topi (fun x16 ex16 => ?_)
      refine lv_istore (lv' := [(4, .int x16), (3, .ref (ad 3)), (2, .int 1), (1, .int x10), (5, .int x8), (0, .ref (ad 0))]) X.1 X.2.1 dX4_buyAll_35 hl (by decide) rfl (fun ls hl => ?_)
      refine lv_iload X.1 X.2.1 dX4_buyAll_37 (lv_at hl 0 rfl) ?_
      refine lv_bipush (v := 40) X.1 X.2.1 dX4_buyAll_39 (by decide) ?_
      refine n_min X hl.1 (X.2.2.2.2 _ kw_560) (Nat.le_of_ble_eq_true rfl) (Nat.le_of_ble_eq_true rfl) (Nat.le_of_ble_eq_true rfl) (Nat.le_of_ble_eq_true rfl) dX4_buyAll_41 ?_
      refine lv_aload_n X.1 X.2.1 dX4_buyAll_44 rfl (lv_at hl 1 rfl) ?_
      refine w_calli cn w (w_runVN (n := 0) (As := []) X cn w (lt17 (by have := (by decide : 2 ≤ 3 ∧ 3 < 6); omega)) (wC_P ((by decide : 2 ≤ 3 ∧ 3 < 6)).1 ((by decide : 2 ≤ 3 ∧ 3 < 6)).2) rfl (fun sz => c_X2_lotsWithRoom l D ca ad E13 F9 L S n 3 (by decide : 2 ≤ 3 ∧ 3 < 6) sz) kw_544 kw_546 kw_23 kw_32 kw_547 rfl rfl (by decide +kernel) ⟨(Nat.le_of_ble_eq_true rfl), (Nat.le_of_ble_eq_true rfl)⟩ rfl hl.1 rfl (Nat.le_of_ble_eq_true rfl) dX4_buyAll_45 ⟨(Nat.le_of_ble_eq_true rfl), (Nat.le_of_ble_eq_true rfl)⟩) (fun r17 u H locs hp w => ?_)
      obtain ⟨rfl, rfl⟩ := hp
      refine n_min X hl.1 (X.2.2.2.2 _ kw_560) (Nat.le_of_ble_eq_true rfl) (Nat.le_of_ble_eq_true rfl) (Nat.le_of_ble_eq_true rfl) (Nat.le_of_ble_eq_true rfl) dX4_buyAll_48 ?_
      refine lv_topi (fun x18 ex18 => ?_)
      refine lv_istore (lv' := [(5, .int x18), (4, .int x16), (3, .ref (ad 3)), (2, .int 1), (1, .int x10), (0, .ref (ad 0))]) X.1 X.2.1 dX4_buyAll_51 hl (by decide) rfl (fun ls hl => ?_)
      refine lv_aload_n X.1 X.2.1 dX4_buyAll_53 rfl (lv_at hl 5 rfl) ?_
      refine lv_aload_n X.1 X.2.1 dX4_buyAll_54 rfl (lv_at hl 2 rfl) ?_
      refine lv_iload X.1 X.2.1 dX4_buyAll_55 (lv_at hl 0 rfl) ?_
      refine w_callv cn w (w_runV (n := 2) (As := [.ref (ad 3), .int x18]) X cn w (lt17 (by decide)) wC_0 rfl (fun sz => c_X4_bring l D ca ad E13 F9 L S n 3 (by decide : 2 ≤ 3 ∧ 3 < 6) x18 sz) (bg_V kw_550 kw_552 kw_24 kw_31 kw_553) rfl rfl (by decide +kernel) ⟨(Nat.le_of_ble_eq_true rfl), (Nat.le_of_ble_eq_true rfl)⟩ rfl hl.1 rfl (Nat.le_of_ble_eq_true rfl) dX4_buyAll_57 ⟨(Nat.le_of_ble_eq_true rfl), (Nat.le_of_ble_eq_true rfl)⟩) (fun u H locs hp w => ?_)
      subst hp
      obtain ⟨F19, eF19⟩ : ∃ G : Fm, G = (s_bring F9 3 x18) := ⟨_, rfl⟩
      have wf : Wf F19 L S n q := by rw [eF19]; exact wf.buy (by decide : 2 ≤ 3 ∧ 3 < 6)
      rw [← eF19] at w
      refine lv_iload_n X.1 X.2.1 dX4_buyAll_60 rfl (lv_at hl 4 rfl) ?_
      refine lv_iload X.1 X.2.1 dX4_buyAll_61 (lv_at hl 0 rfl) ?_
      refine lv_iadd X.1 X.2.1 dX4_buyAll_63 ?_
      refine lv_topi (fun x20 ex20 => ?_)
      refine lv_istore_n (lv' := [(1, .int x20), (5, .int x18), (4, .int x16), (3, .ref (ad 3)), (2, .int 1), (0, .ref (ad 0))]) X.1 X.2.1 dX4_buyAll_64 rfl hl (by decide) rfl (fun ls hl => ?_)
      refine lv_iinc (v := 2) (lv' := [(2, .int 2), (1, .int x20), (5, .int x18), (4, .int x16), (3, .ref (ad 3)), (0, .ref (ad 0))]) X.1 X.2.1 dX4_buyAll_65 hl (k := 4) rfl (by decide) (by decide) rfl (fun ls hl => ?_)
      refine lv_goto (tgt := 4) X.1 X.2.1 dX4_buyAll_68 (by decide) ?_
      refine lv_iload_n X.1 X.2.1 dX4_buyAll_4 rfl (lv_at hl 0 rfl) ?_
      refine lv_aload_n X.1 X.2.1 dX4_buyAll_5 rfl (lv_at hl 5 rfl) ?_
      refine g_L X w 0 (by decide) (v := .ref (ad 14)) rfl kw_145 dX4_buyAll_6 ?_
      refine len_P X w dX4_buyAll_9 ?_
      refine lv_icmp_ge (tgt := 71) X.1 X.2.1 dX4_buyAll_10 (by decide) (fun c21 => ?_) (fun c21 => ?_)
      ·
        exact absurd c21 (by decide)
      ·
        refine lv_aload_n X.1 X.2.1 dX4_buyAll_13 rfl (lv_at hl 5 rfl) ?_
        refine g_L X w 0 (by decide) (v := .ref (ad 14)) rfl kw_145 dX4_buyAll_14 ?_
        refine lv_iload_n X.1 X.2.1 dX4_buyAll_17 rfl (lv_at hl 0 rfl) ?_
        refine ld_P X w (in_lit (by decide)) dX4_buyAll_18 ?_
        refine W.eq (g2 := F0 m 19 ls [.ref (ad 4)]) rfl ?_
        refine lv_astore_n (lv' := [(3, .ref (ad 4)), (2, .int 2), (1, .int x20), (5, .int x18), (4, .int x16), (0, .ref (ad 0))]) X.1 X.2.1 dX4_buyAll_19 rfl hl (by decide) rfl (fun ls hl => ?_)
        refine lv_aload_n X.1 X.2.1 dX4_buyAll_20 rfl (lv_at hl 0 rfl) ?_
        refine lv_ifnull X.1 X.2.1 dX4_buyAll_21 ?_
        refine lv_aload_n X.1 X.2.1 dX4_buyAll_24 rfl (lv_at hl 5 rfl) ?_
        refine lv_aload_n X.1 X.2.1 dX4_buyAll_25 rfl (lv_at hl 0 rfl) ?_
        refine w_calli cn w (w_runV (n := 1) (As := [.ref (ad 4)]) X cn w (lt17 (by decide)) wC_0 rfl (fun sz => c_X4_shortOf l D ca ad E13 F19 L S n q wf 4 (by decide : 2 ≤ 4 ∧ 4 < 6) sz) (bg_V kw_347 kw_349 kw_13 kw_31 kw_350) rfl rfl (by decide +kernel) ⟨(Nat.le_of_ble_eq_true rfl), (Nat.le_of_ble_eq_true rfl)⟩ rfl hl.1 rfl (Nat.le_of_ble_eq_true rfl) dX4_buyAll_26 ⟨(Nat.le_of_ble_eq_true rfl), (Nat.le_of_ble_eq_true rfl)⟩) (fun r22 u H locs hp w => ?_)
        obtain ⟨E23, q24⟩ := u
        obtain ⟨rfl, h25⟩ := hp
        have h25 : q24 = (F19, L, S, n) := h25
        subst h25
        refine lv_sipush (v := 250) X.1 X.2.1 dX4_buyAll_29 (by decide) ?_
        refine n_calli w (n_runS (n := 2) (As := [.int (s_short F19 L S q 4), .int 250]) X (c_X4_divideUp l (s_short F19 L S q 4) 250) (bg_S kw_559 kw_323 kw_31 kw_324) rfl rfl (by decide +kernel) ⟨(Nat.le_of_ble_eq_true rfl), (Nat.le_of_ble_eq_true rfl)⟩ rfl hl.1 rfl (Nat.le_of_ble_eq_true rfl) dX4_buyAll_32 ⟨(Nat.le_of_ble_eq_true rfl), (Nat.le_of_ble_eq_true rfl)⟩) (fun H locs w => ?_)
        refine lv_topi (fun x26 ex26 => ?_)
        refine lv_istore (lv' := [(4, .int x26), (3, .ref (ad 4)), (2, .int 2), (1, .int x20), (5, .int x18), (0, .ref (ad 0))]) X.1 X.2.1 dX4_buyAll_35 hl (by decide) rfl (fun ls hl => ?_)
        refine lv_iload X.1 X.2.1 dX4_buyAll_37 (lv_at hl 0 rfl) ?_
        refine lv_bipush (v := 40) X.1 X.2.1 dX4_buyAll_39 (by decide) ?_
        refine n_min X hl.1 (X.2.2.2.2 _ kw_560) (Nat.le_of_ble_eq_true rfl) (Nat.le_of_ble_eq_true rfl) (Nat.le_of_ble_eq_true rfl) (Nat.le_of_ble_eq_true rfl) dX4_buyAll_41 ?_
        refine lv_aload_n X.1 X.2.1 dX4_buyAll_44 rfl (lv_at hl 1 rfl) ?_
        refine w_calli cn w (w_runVN (n := 0) (As := []) X cn w (lt17 (by have := (by decide : 2 ≤ 4 ∧ 4 < 6); omega)) (wC_P ((by decide : 2 ≤ 4 ∧ 4 < 6)).1 ((by decide : 2 ≤ 4 ∧ 4 < 6)).2) rfl (fun sz => c_X2_lotsWithRoom l D ca ad E23 F19 L S n 4 (by decide : 2 ≤ 4 ∧ 4 < 6) sz) kw_544 kw_546 kw_23 kw_32 kw_547 rfl rfl (by decide +kernel) ⟨(Nat.le_of_ble_eq_true rfl), (Nat.le_of_ble_eq_true rfl)⟩ rfl hl.1 rfl (Nat.le_of_ble_eq_true rfl) dX4_buyAll_45 ⟨(Nat.le_of_ble_eq_true rfl), (Nat.le_of_ble_eq_true rfl)⟩) (fun r27 u H locs hp w => ?_)
        obtain ⟨rfl, rfl⟩ := hp
        refine n_min X hl.1 (X.2.2.2.2 _ kw_560) (Nat.le_of_ble_eq_true rfl) (Nat.le_of_ble_eq_true rfl) (Nat.le_of_ble_eq_true rfl) (Nat.le_of_ble_eq_true rfl) dX4_buyAll_48 ?_
        refine lv_topi (fun x28 ex28 => ?_)
        refine lv_istore (lv' := [(5, .int x28), (4, .int x26), (3, .ref (ad 4)), (2, .int 2), (1, .int x20), (0, .ref (ad 0))]) X.1 X.2.1 dX4_buyAll_51 hl (by decide) rfl (fun ls hl => ?_)
        refine lv_aload_n X.1 X.2.1 dX4_buyAll_53 rfl (lv_at hl 5 rfl) ?_
        refine lv_aload_n X.1 X.2.1 dX4_buyAll_54 rfl (lv_at hl 2 rfl) ?_
        refine lv_iload X.1 X.2.1 dX4_buyAll_55 (lv_at hl 0 rfl) ?_
        refine w_callv cn w (w_runV (n := 2) (As := [.ref (ad 4), .int x28]) X cn w (lt17 (by decide)) wC_0 rfl (fun sz => c_X4_bring l D ca ad E23 F19 L S n 4 (by decide : 2 ≤ 4 ∧ 4 < 6) x28 sz) (bg_V kw_550 kw_552 kw_24 kw_31 kw_553) rfl rfl (by decide +kernel) ⟨(Nat.le_of_ble_eq_true rfl), (Nat.le_of_ble_eq_true rfl)⟩ rfl hl.1 rfl (Nat.le_of_ble_eq_true rfl) dX4_buyAll_57 ⟨(Nat.le_of_ble_eq_true rfl), (Nat.le_of_ble_eq_true rfl)⟩) (fun u H locs hp w => ?_)
        subst hp
        obtain ⟨F29, eF29⟩ : ∃ G : Fm, G = (s_bring F19 4 x28) := ⟨_, rfl⟩
        have wf : Wf F29 L S n q := by rw [eF29]; exact wf.buy (by decide : 2 ≤ 4 ∧ 4 < 6)
        rw [← eF29] at w
        refine lv_iload_n X.1 X.2.1 dX4_buyAll_60 rfl (lv_at hl 4 rfl) ?_
        refine lv_iload X.1 X.2.1 dX4_buyAll_61 (lv_at hl 0 rfl) ?_
        refine lv_iadd X.1 X.2.1 dX4_buyAll_63 ?_
        refine lv_topi (fun x30 ex30 => ?_)
        refine lv_istore_n (lv' := [(1, .int x30), (5, .int x28), (4, .int x26), (3, .ref (ad 4)), (2, .int 2), (0, .ref (ad 0))]) X.1 X.2.1 dX4_buyAll_64 rfl hl (by decide) rfl (fun ls hl => ?_)
        refine lv_iinc (v := 3) (lv' := [(2, .int 3), (1, .int x30), (5, .int x28), (4, .int x26), (3, .ref (ad 4)), (0, .ref (ad 0))]) X.1 X.2.1 dX4_buyAll_65 hl (k := 4) rfl (by decide) (by decide) rfl (fun ls hl => ?_)
        refine lv_goto (tgt := 4) X.1 X.2.1 dX4_buyAll_68 (by decide) ?_
        refine lv_iload_n X.1 X.2.1 dX4_buyAll_4 rfl (lv_at hl 0 rfl) ?_
        refine lv_aload_n X.1 X.2.1 dX4_buyAll_5 rfl (lv_at hl 5 rfl) ?_
        refine g_L X w 0 (by decide) (v := .ref (ad 14)) rfl kw_145 dX4_buyAll_6 ?_
        refine len_P X w dX4_buyAll_9 ?_
        refine lv_icmp_ge (tgt := 71) X.1 X.2.1 dX4_buyAll_10 (by decide) (fun c31 => ?_) (fun c31 => ?_)
        ·
          exact absurd c31 (by decide)
        ·
          refine lv_aload_n X.1 X.2.1 dX4_buyAll_13 rfl (lv_at hl 5 rfl) ?_
          refine g_L X w 0 (by decide) (v := .ref (ad 14)) rfl kw_145 dX4_buyAll_14 ?_
          refine lv_iload_n X.1 X.2.1 dX4_buyAll_17 rfl (lv_at hl 0 rfl) ?_
          refine ld_P X w (in_lit (by decide)) dX4_buyAll_18 ?_
          refine W.eq (g2 := F0 m 19 ls [.ref (ad 5)]) rfl ?_
          refine lv_astore_n (lv' := [(3, .ref (ad 5)), (2, .int 3), (1, .int x30), (5, .int x28), (4, .int x26), (0, .ref (ad 0))]) X.1 X.2.1 dX4_buyAll_19 rfl hl (by decide) rfl (fun ls hl => ?_)
          refine lv_aload_n X.1 X.2.1 dX4_buyAll_20 rfl (lv_at hl 0 rfl) ?_
          refine lv_ifnull X.1 X.2.1 dX4_buyAll_21 ?_
          refine lv_aload_n X.1 X.2.1 dX4_buyAll_24 rfl (lv_at hl 5 rfl) ?_
          refine lv_aload_n X.1 X.2.1 dX4_buyAll_25 rfl (lv_at hl 0 rfl) ?_
          refine w_calli cn w (w_runV (n := 1) (As := [.ref (ad 5)]) X cn w (lt17 (by decide)) wC_0 rfl (fun sz => c_X4_shortOf l D ca ad E23 F29 L S n q wf 5 (by decide : 2 ≤ 5 ∧ 5 < 6) sz) (bg_V kw_347 kw_349 kw_13 kw_31 kw_350) rfl rfl (by decide +kernel) ⟨(Nat.le_of_ble_eq_true rfl), (Nat.le_of_ble_eq_true rfl)⟩ rfl hl.1 rfl (Nat.le_of_ble_eq_true rfl) dX4_buyAll_26 ⟨(Nat.le_of_ble_eq_true rfl), (Nat.le_of_ble_eq_true rfl)⟩) (fun r32 u H locs hp w => ?_)
          obtain ⟨E33, q34⟩ := u
          obtain ⟨rfl, h35⟩ := hp
          have h35 : q34 = (F29, L, S, n) := h35
          subst h35
          refine lv_sipush (v := 250) X.1 X.2.1 dX4_buyAll_29 (by decide) ?_
          refine n_calli w (n_runS (n := 2) (As := [.int (s_short F29 L S q 5), .int 250]) X (c_X4_divideUp l (s_short F29 L S q 5) 250) (bg_S kw_559 kw_323 kw_31 kw_324) rfl rfl (by decide +kernel) ⟨(Nat.le_of_ble_eq_true rfl), (Nat.le_of_ble_eq_true rfl)⟩ rfl hl.1 rfl (Nat.le_of_ble_eq_true rfl) dX4_buyAll_32 ⟨(Nat.le_of_ble_eq_true rfl), (Nat.le_of_ble_eq_true rfl)⟩) (fun H locs w => ?_)
          refine lv_topi (fun x36 ex36 => ?_)
          refine lv_istore (lv' := [(4, .int x36), (3, .ref (ad 5)), (2, .int 3), (1, .int x30), (5, .int x28), (0, .ref (ad 0))]) X.1 X.2.1 dX4_buyAll_35 hl (by decide) rfl (fun ls hl => ?_)
          refine lv_iload X.1 X.2.1 dX4_buyAll_37 (lv_at hl 0 rfl) ?_
          refine lv_bipush (v := 40) X.1 X.2.1 dX4_buyAll_39 (by decide) ?_
          refine n_min X hl.1 (X.2.2.2.2 _ kw_560) (Nat.le_of_ble_eq_true rfl) (Nat.le_of_ble_eq_true rfl) (Nat.le_of_ble_eq_true rfl) (Nat.le_of_ble_eq_true rfl) dX4_buyAll_41 ?_
          refine lv_aload_n X.1 X.2.1 dX4_buyAll_44 rfl (lv_at hl 1 rfl) ?_
          refine w_calli cn w (w_runVN (n := 0) (As := []) X cn w (lt17 (by have := (by decide : 2 ≤ 5 ∧ 5 < 6); omega)) (wC_P ((by decide : 2 ≤ 5 ∧ 5 < 6)).1 ((by decide : 2 ≤ 5 ∧ 5 < 6)).2) rfl (fun sz => c_X2_lotsWithRoom l D ca ad E33 F29 L S n 5 (by decide : 2 ≤ 5 ∧ 5 < 6) sz) kw_544 kw_546 kw_23 kw_32 kw_547 rfl rfl (by decide +kernel) ⟨(Nat.le_of_ble_eq_true rfl), (Nat.le_of_ble_eq_true rfl)⟩ rfl hl.1 rfl (Nat.le_of_ble_eq_true rfl) dX4_buyAll_45 ⟨(Nat.le_of_ble_eq_true rfl), (Nat.le_of_ble_eq_true rfl)⟩) (fun r37 u H locs hp w => ?_)
          obtain ⟨rfl, rfl⟩ := hp
          refine n_min X hl.1 (X.2.2.2.2 _ kw_560) (Nat.le_of_ble_eq_true rfl) (Nat.le_of_ble_eq_true rfl) (Nat.le_of_ble_eq_true rfl) (Nat.le_of_ble_eq_true rfl) dX4_buyAll_48 ?_
          refine lv_topi (fun x38 ex38 => ?_)
          refine lv_istore (lv' := [(5, .int x38), (4, .int x36), (3, .ref (ad 5)), (2, .int 3), (1, .int x30), (0, .ref (ad 0))]) X.1 X.2.1 dX4_buyAll_51 hl (by decide) rfl (fun ls hl => ?_)
          refine lv_aload_n X.1 X.2.1 dX4_buyAll_53 rfl (lv_at hl 5 rfl) ?_
          refine lv_aload_n X.1 X.2.1 dX4_buyAll_54 rfl (lv_at hl 2 rfl) ?_
          refine lv_iload X.1 X.2.1 dX4_buyAll_55 (lv_at hl 0 rfl) ?_
          refine w_callv cn w (w_runV (n := 2) (As := [.ref (ad 5), .int x38]) X cn w (lt17 (by decide)) wC_0 rfl (fun sz => c_X4_bring l D ca ad E33 F29 L S n 5 (by decide : 2 ≤ 5 ∧ 5 < 6) x38 sz) (bg_V kw_550 kw_552 kw_24 kw_31 kw_553) rfl rfl (by decide +kernel) ⟨(Nat.le_of_ble_eq_true rfl), (Nat.le_of_ble_eq_true rfl)⟩ rfl hl.1 rfl (Nat.le_of_ble_eq_true rfl) dX4_buyAll_57 ⟨(Nat.le_of_ble_eq_true rfl), (Nat.le_of_ble_eq_true rfl)⟩) (fun u H locs hp w => ?_)
          subst hp
          obtain ⟨F39, eF39⟩ : ∃ G : Fm, G = (s_bring F29 5 x38) := ⟨_, rfl⟩
          have wf : Wf F39 L S n q := by rw [eF39]; exact wf.buy (by decide : 2 ≤ 5 ∧ 5 < 6)
          rw [← eF39] at w
          refine lv_iload_n X.1 X.2.1 dX4_buyAll_60 rfl (lv_at hl 4 rfl) ?_
          refine lv_iload X.1 X.2.1 dX4_buyAll_61 (lv_at hl 0 rfl) ?_
          refine lv_iadd X.1 X.2.1 dX4_buyAll_63 ?_
          refine lv_topi (fun x40 ex40 => ?_)
          refine lv_istore_n (lv' := [(1, .int x40), (5, .int x38), (4, .int x36), (3, .ref (ad 5)), (2, .int 3), (0, .ref (ad 0))]) X.1 X.2.1 dX4_buyAll_64 rfl hl (by decide) rfl (fun ls hl => ?_)
          refine lv_iinc (v := 4) (lv' := [(2, .int 4), (1, .int x40), (5, .int x38), (4, .int x36), (3, .ref (ad 5)), (0, .ref (ad 0))]) X.1 X.2.1 dX4_buyAll_65 hl (k := 4) rfl (by decide) (by decide) rfl (fun ls hl => ?_)
          refine lv_goto (tgt := 4) X.1 X.2.1 dX4_buyAll_68 (by decide) ?_
          refine lv_iload_n X.1 X.2.1 dX4_buyAll_4 rfl (lv_at hl 0 rfl) ?_
          refine lv_aload_n X.1 X.2.1 dX4_buyAll_5 rfl (lv_at hl 5 rfl) ?_
          refine g_L X w 0 (by decide) (v := .ref (ad 14)) rfl kw_145 dX4_buyAll_6 ?_
          refine len_P X w dX4_buyAll_9 ?_
          refine lv_icmp_ge (tgt := 71) X.1 X.2.1 dX4_buyAll_10 (by decide) (fun c41 => ?_) (fun c41 => ?_)
          ·
            refine lv_iload_n X.1 X.2.1 dX4_buyAll_71 rfl (lv_at hl 1 rfl) ?_
            exact w_iret X hr hlk w (by subst ex40; subst eF39; subst ex38; subst ex36; subst ex30; subst eF29; subst ex28; subst ex26; subst ex20; subst eF19; subst ex18; subst ex16; subst ex10; subst eF9; subst ex8; subst ex6; exact ⟨rfl, rfl⟩) dX4_buyAll_72 rfl (Nat.le_of_ble_eq_true rfl) (Nat.le_of_ble_eq_true rfl)
          ·
            exact absurd (by decide) c41
