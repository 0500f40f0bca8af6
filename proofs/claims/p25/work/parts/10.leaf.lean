set_option maxHeartbeats 4000000 in
set_option maxRecDepth 100000 in
theorem c_X4_isOutside (l : Launch) (v a b : Int32) : Met l yX4_isOutside (.code yX4_isOutside cX4_isOutside 3 (some .boolean) :: BG) { frames := 0, cells := 0, slots := 0, locals := 0 } (va_Pc [.int v, .int a, .int b] (fun _ => True)) (Qn (s_out v a b)) 0 0 (fun _ => False) := by
  refine open_P (by decide +kernel) (Nat.le_of_ble_eq_true rfl) ?_
  intro p e s m args below meth c X hr hlk ls hl
  have hl : lv_has ls 3 [(0, .int v), (1, .int a), (2, .int b)] := hl
  have hS : va_S (fun _ => False) s.heap s.heap [] := va_S.rf
  refine lv_iload_n X.1 X.2.1 dX4_isOutside_0 rfl (lv_at hl 0 rfl) ?_
  refine lv_iload_n X.1 X.2.1 dX4_isOutside_1 rfl (lv_at hl 1 rfl) ?_
  refine lv_icmp_lt (tgt := 10) X.1 X.2.1 dX4_isOutside_2 (by decide) (fun c1 => ?_) (fun c1 => ?_)
  ·
    refine lv_iconst (v := 1) X.1 X.2.1 dX4_isOutside_10 (by decide) ?_
    refine lv_goto (tgt := 15) X.1 X.2.1 dX4_isOutside_11 (by decide) ?_
    exact n_iret X hr hlk hS (by  simp [s_out, c1]) dX4_isOutside_15 rfl (Nat.le_of_ble_eq_true rfl) (Nat.le_of_ble_eq_true rfl)
  ·
    refine lv_iload_n X.1 X.2.1 dX4_isOutside_5 rfl (lv_at hl 0 rfl) ?_
    refine lv_iload_n X.1 X.2.1 dX4_isOutside_6 rfl (lv_at hl 2 rfl) ?_
    refine lv_icmp_le (tgt := 14) X.1 X.2.1 dX4_isOutside_7 (by decide) (fun c2 => ?_) (fun c2 => ?_)
    ·
      refine lv_iconst (v := 0) X.1 X.2.1 dX4_isOutside_14 (by decide) ?_
      exact n_iret X hr hlk hS (by  simp [s_out, c1, c2]) dX4_isOutside_15 rfl (Nat.le_of_ble_eq_true rfl) (Nat.le_of_ble_eq_true rfl)
    ·
      refine lv_iconst (v := 1) X.1 X.2.1 dX4_isOutside_10 (by decide) ?_
      refine lv_goto (tgt := 15) X.1 X.2.1 dX4_isOutside_11 (by decide) ?_
      exact n_iret X hr hlk hS (by  simp [s_out, c1, c2]) dX4_isOutside_15 rfl (Nat.le_of_ble_eq_true rfl) (Nat.le_of_ble_eq_true rfl)

set_option maxHeartbeats 4000000 in
set_option maxRecDepth 100000 in
theorem c_X4_divide (l : Launch) (a b : Int32) : Met l yX4_divide (.code yX4_divide cX4_divide 2 (some .int) :: BG) { frames := 0, cells := 0, slots := 0, locals := 0 } (va_Pc [.int a, .int b] (fun _ => True)) (Qn (s_div a b)) 0 0 (fun _ => False) := by
  refine open_P (by decide +kernel) (Nat.le_of_ble_eq_true rfl) ?_
  intro p e s m args below meth c X hr hlk ls hl
  have hl : lv_has ls 2 [(0, .int a), (1, .int b)] := hl
  have hS : va_S (fun _ => False) s.heap s.heap [] := va_S.rf
  refine lv_iload_n X.1 X.2.1 dX4_divide_0 rfl (lv_at hl 1 rfl) ?_
  refine lv_if_ne (tgt := 8) X.1 X.2.1 dX4_divide_1 (by decide) (fun c1 => ?_) (fun c1 => ?_)
  ·
    refine lv_iload_n X.1 X.2.1 dX4_divide_8 rfl (lv_at hl 0 rfl) ?_
    refine lv_iload_n X.1 X.2.1 dX4_divide_9 rfl (lv_at hl 1 rfl) ?_
    refine lv_idiv X.1 X.2.1 dX4_divide_10 c1 ?_
    exact n_iret X hr hlk hS (by  simp [s_div, c1]) dX4_divide_11 rfl (Nat.le_of_ble_eq_true rfl) (Nat.le_of_ble_eq_true rfl)
  ·
    refine lv_iconst (v := 0) X.1 X.2.1 dX4_divide_4 (by decide) ?_
    refine lv_goto (tgt := 11) X.1 X.2.1 dX4_divide_5 (by decide) ?_
    exact n_iret X hr hlk hS (by  simp [s_div, c1]) dX4_divide_11 rfl (Nat.le_of_ble_eq_true rfl) (Nat.le_of_ble_eq_true rfl)

set_option maxHeartbeats 4000000 in
set_option maxRecDepth 100000 in
theorem c_X4_divideUp (l : Launch) (a b : Int32) : Met l yX4_divideUp (.code yX4_divideUp cX4_divideUp 2 (some .int) :: BG) { frames := 0, cells := 0, slots := 0, locals := 0 } (va_Pc [.int a, .int b] (fun _ => True)) (Qn (s_divUp a b)) 0 0 (fun _ => False) := by
  refine open_P (by decide +kernel) (Nat.le_of_ble_eq_true rfl) ?_
  intro p e s m args below meth c X hr hlk ls hl
  have hl : lv_has ls 2 [(0, .int a), (1, .int b)] := hl
  have hS : va_S (fun _ => False) s.heap s.heap [] := va_S.rf
  refine lv_iload_n X.1 X.2.1 dX4_divideUp_0 rfl (lv_at hl 1 rfl) ?_
  refine lv_if_ne (tgt := 8) X.1 X.2.1 dX4_divideUp_1 (by decide) (fun c1 => ?_) (fun c1 => ?_)
  ·
    refine lv_iload_n X.1 X.2.1 dX4_divideUp_8 rfl (lv_at hl 0 rfl) ?_
    refine lv_iload_n X.1 X.2.1 dX4_divideUp_9 rfl (lv_at hl 1 rfl) ?_
    refine lv_iadd X.1 X.2.1 dX4_divideUp_10 ?_
    refine lv_iconst (v := 1) X.1 X.2.1 dX4_divideUp_11 (by decide) ?_
    refine lv_isub X.1 X.2.1 dX4_divideUp_12 ?_
    refine lv_iload_n X.1 X.2.1 dX4_divideUp_13 rfl (lv_at hl 1 rfl) ?_
    refine lv_idiv X.1 X.2.1 dX4_divideUp_14 c1 ?_
    exact n_iret X hr hlk hS (by  simp [s_divUp, c1]) dX4_divideUp_15 rfl (Nat.le_of_ble_eq_true rfl) (Nat.le_of_ble_eq_true rfl)
  ·
    refine lv_iconst (v := 0) X.1 X.2.1 dX4_divideUp_4 (by decide) ?_
    refine lv_goto (tgt := 15) X.1 X.2.1 dX4_divideUp_5 (by decide) ?_
    exact n_iret X hr hlk hS (by  simp [s_divUp, c1]) dX4_divideUp_15 rfl (Nat.le_of_ble_eq_true rfl) (Nat.le_of_ble_eq_true rfl)

set_option maxHeartbeats 4000000 in
set_option maxRecDepth 100000 in
theorem c_X3_rateOf (l : Launch) (x : Int32) : Met l yX3_rateOf (.code yX3_rateOf cX3_rateOf 1 (some .int) :: BG) { frames := 1, cells := 0, slots := 0, locals := 21 } (va_Pc [.int x] (fun _ => True)) (Qn (s_rate x)) 0 0 (fun _ => False) := by
  refine open_P (by decide +kernel) (Nat.le_of_ble_eq_true rfl) ?_
  intro p e s m args below meth c X hr hlk ls hl
  have hl : lv_has ls 1 [(0, .int x)] := hl
  have hS : va_S (fun _ => False) s.heap s.heap [] := va_S.rf
  refine lv_iconst (v := 1) X.1 X.2.1 dX3_rateOf_0 (by decide) ?_
  refine lv_iload_n X.1 X.2.1 dX3_rateOf_1 rfl (lv_at hl 0 rfl) ?_
  refine lv_sipush (v := 999) X.1 X.2.1 dX3_rateOf_2 (by decide) ?_
  refine n_min X hl.1 (X.2.2.2.2 _ kw_627) (Nat.le_of_ble_eq_true rfl) (Nat.le_of_ble_eq_true rfl) (Nat.le_of_ble_eq_true rfl) (Nat.le_of_ble_eq_true rfl) dX3_rateOf_5 ?_
  refine n_max X hl.1 (X.2.2.2.2 _ kw_628) (Nat.le_of_ble_eq_true rfl) (Nat.le_of_ble_eq_true rfl) (Nat.le_of_ble_eq_true rfl) (Nat.le_of_ble_eq_true rfl) dX3_rateOf_8 ?_
  exact n_iret X hr hlk hS (by  exact rfl) dX3_rateOf_11 rfl (Nat.le_of_ble_eq_true rfl) (Nat.le_of_ble_eq_true rfl)

set_option maxHeartbeats 4000000 in
set_option maxRecDepth 100000 in
theorem c_J6_bitCount_0f7a4 (l : Launch) (x : Int32) : Met l yJ6_bitCount_0f7a4 (.code yJ6_bitCount_0f7a4 cJ6_bitCount_0f7a4 1 (some .int) :: BG) { frames := 0, cells := 0, slots := 0, locals := 0 } (va_Pc [.int x] (fun _ => True)) (Qn (bitC x)) 0 0 (fun _ => False) := by
  refine open_P (by decide +kernel) (Nat.le_of_ble_eq_true rfl) ?_
  intro p e s m args below meth c X hr hlk ls hl
  have hl : lv_has ls 1 [(0, .int x)] := hl
  have hS : va_S (fun _ => False) s.heap s.heap [] := va_S.rf
  refine lv_iload_n X.1 X.2.1 dJ6_bitCount_0f7a4_0 rfl (lv_at hl 0 rfl) ?_
  refine lv_iload_n X.1 X.2.1 dJ6_bitCount_0f7a4_1 rfl (lv_at hl 0 rfl) ?_
  refine lv_iconst (v := 1) X.1 X.2.1 dJ6_bitCount_0f7a4_2 (by decide) ?_
  refine lv_iushr X.1 X.2.1 dJ6_bitCount_0f7a4_3 rfl ?_
  refine lv_ldcw (v := 1431655765) X.1 X.2.1 X.2.2.2.1 (X.2.2.2.2 _ kw_332) dJ6_bitCount_0f7a4_4 ?_
  refine lv_iand X.1 X.2.1 dJ6_bitCount_0f7a4_7 ?_
  refine lv_isub X.1 X.2.1 dJ6_bitCount_0f7a4_8 ?_
  refine lv_topi (fun x1 ex1 => ?_)
  refine lv_istore_n (lv' := [(0, .int x1)]) X.1 X.2.1 dJ6_bitCount_0f7a4_9 rfl hl (by decide) rfl (fun ls hl => ?_)
  refine lv_iload_n X.1 X.2.1 dJ6_bitCount_0f7a4_10 rfl (lv_at hl 0 rfl) ?_
  refine lv_ldcw (v := 858993459) X.1 X.2.1 X.2.2.2.1 (X.2.2.2.2 _ kw_333) dJ6_bitCount_0f7a4_11 ?_
  refine lv_iand X.1 X.2.1 dJ6_bitCount_0f7a4_14 ?_
  refine lv_iload_n X.1 X.2.1 dJ6_bitCount_0f7a4_15 rfl (lv_at hl 0 rfl) ?_
  refine lv_iconst (v := 2) X.1 X.2.1 dJ6_bitCount_0f7a4_16 (by decide) ?_
  refine lv_iushr X.1 X.2.1 dJ6_bitCount_0f7a4_17 rfl ?_
  refine lv_ldcw (v := 858993459) X.1 X.2.1 X.2.2.2.1 (X.2.2.2.2 _ kw_333) dJ6_bitCount_0f7a4_18 ?_
  refine lv_iand X.1 X.2.1 dJ6_bitCount_0f7a4_21 ?_
  refine lv_iadd X.1 X.2.1 dJ6_bitCount_0f7a4_22 ?_
  refine lv_topi (fun x2 ex2 => ?_)
  refine lv_istore_n (lv' := [(0, .int x2)]) X.1 X.2.1 dJ6_bitCount_0f7a4_23 rfl hl (by decide) rfl (fun ls hl => ?_)
  refine lv_iload_n X.1 X.2.1 dJ6_bitCount_0f7a4_24 rfl (lv_at hl 0 rfl) ?_
  refine lv_iload_n X.1 X.2.1 dJ6_bitCount_0f7a4_25 rfl (lv_at hl 0 rfl) ?_
  refine lv_iconst (v := 4) X.1 X.2.1 dJ6_bitCount_0f7a4_26 (by decide) ?_
  refine lv_iushr X.1 X.2.1 dJ6_bitCount_0f7a4_27 rfl ?_
  refine lv_iadd X.1 X.2.1 dJ6_bitCount_0f7a4_28 ?_
  refine lv_ldcw (v := 252645135) X.1 X.2.1 X.2.2.2.1 (X.2.2.2.2 _ kw_334) dJ6_bitCount_0f7a4_29 ?_
  refine lv_iand X.1 X.2.1 dJ6_bitCount_0f7a4_32 ?_
  refine lv_topi (fun x3 ex3 => ?_)
  refine lv_istore_n (lv' := [(0, .int x3)]) X.1 X.2.1 dJ6_bitCount_0f7a4_33 rfl hl (by decide) rfl (fun ls hl => ?_)
  refine lv_iload_n X.1 X.2.1 dJ6_bitCount_0f7a4_34 rfl (lv_at hl 0 rfl) ?_
  refine lv_iload_n X.1 X.2.1 dJ6_bitCount_0f7a4_35 rfl (lv_at hl 0 rfl) ?_
  refine lv_bipush (v := 8) X.1 X.2.1 dJ6_bitCount_0f7a4_36 (by decide) ?_
  refine lv_iushr X.1 X.2.1 dJ6_bitCount_0f7a4_38 rfl ?_
  refine lv_iadd X.1 X.2.1 dJ6_bitCount_0f7a4_39 ?_
  refine lv_topi (fun x4 ex4 => ?_)
  refine lv_istore_n (lv' := [(0, .int x4)]) X.1 X.2.1 dJ6_bitCount_0f7a4_40 rfl hl (by decide) rfl (fun ls hl => ?_)
  refine lv_iload_n X.1 X.2.1 dJ6_bitCount_0f7a4_41 rfl (lv_at hl 0 rfl) ?_
  refine lv_iload_n X.1 X.2.1 dJ6_bitCount_0f7a4_42 rfl (lv_at hl 0 rfl) ?_
  refine lv_bipush (v := 16) X.1 X.2.1 dJ6_bitCount_0f7a4_43 (by decide) ?_
  refine lv_iushr X.1 X.2.1 dJ6_bitCount_0f7a4_45 rfl ?_
  refine lv_iadd X.1 X.2.1 dJ6_bitCount_0f7a4_46 ?_
  refine lv_topi (fun x5 ex5 => ?_)
  refine lv_istore_n (lv' := [(0, .int x5)]) X.1 X.2.1 dJ6_bitCount_0f7a4_47 rfl hl (by decide) rfl (fun ls hl => ?_)
  refine lv_iload_n X.1 X.2.1 dJ6_bitCount_0f7a4_48 rfl (lv_at hl 0 rfl) ?_
  refine lv_bipush (v := 63) X.1 X.2.1 dJ6_bitCount_0f7a4_49 (by decide) ?_
  refine lv_iand X.1 X.2.1 dJ6_bitCount_0f7a4_51 ?_
  exact n_iret X hr hlk hS (by subst ex5; subst ex4; subst ex3; subst ex2; subst ex1; exact rfl) dJ6_bitCount_0f7a4_52 rfl (Nat.le_of_ble_eq_true rfl) (Nat.le_of_ble_eq_true rfl)

set_option maxHeartbeats 4000000 in
set_option maxRecDepth 100000 in
theorem c_X1_sheets (l : Launch) (D : va_G) (ca : Nat → ClassId) (ad : Nat → Nat) (E : Em) (F : Fm) (L : Lm) (S : Sm) (n : Nat) (j : Nat) (hj : j < n) (sz : Nat) : Met l yX1_sheets (.code yX1_sheets cX1_sheets 2 (some .int) :: BG) { frames := 1, cells := 0, slots := 0, locals := 21 } (Pw D ca ad (E, F, L, S, n) sz [.ref (ad (17 + j))]) (Qi D ca ad n (fun r u => r = s_sheets F j ∧ u = (E, F, L, S, n)) sz) 0 0 (wA ad n sz) := by
  refine open_W (σ := (E, F, L, S, n)) (Qc := Qi D ca ad n (fun r u => r = s_sheets F j ∧ u = (E, F, L, S, n))) (by decide +kernel) (Nat.le_of_ble_eq_true rfl) ?_
  intro p e s m args below meth c X hr hlk w cn ls hl
  have hl : lv_has ls 2 [(0, .ref (ad (17 + j)))] := hl
  refine lv_aload_n X.1 X.2.1 dX1_sheets_0 rfl (lv_at hl 0 rfl) ?_
  refine g_J X w hj 3 (by decide) (v := .int (F (17 + j) 3)) rfl kw_469 dX1_sheets_1 ?_
  refine lv_aload_n X.1 X.2.1 dX1_sheets_4 rfl (lv_at hl 0 rfl) ?_
  refine g_J X w hj 10 (by decide) (v := .int (F (17 + j) 10)) rfl kw_484 dX1_sheets_5 ?_
  refine lv_isub X.1 X.2.1 dX1_sheets_8 ?_
  refine lv_iconst (v := 0) X.1 X.2.1 dX1_sheets_9 (by decide) ?_
  refine n_max X hl.1 (X.2.2.2.2 _ kw_319) (Nat.le_of_ble_eq_true rfl) (Nat.le_of_ble_eq_true rfl) (Nat.le_of_ble_eq_true rfl) (Nat.le_of_ble_eq_true rfl) dX1_sheets_10 ?_
  refine lv_topi (fun x1 ex1 => ?_)
  refine lv_istore_n (lv' := [(1, .int x1), (0, .ref (ad (17 + j)))]) X.1 X.2.1 dX1_sheets_13 rfl hl (by decide) rfl (fun ls hl => ?_)
  refine lv_iload_n X.1 X.2.1 dX1_sheets_14 rfl (lv_at hl 0 rfl) ?_
  refine lv_aload_n X.1 X.2.1 dX1_sheets_15 rfl (lv_at hl 1 rfl) ?_
  refine g_J X w hj 5 (by decide) (v := .int (F (17 + j) 5)) rfl kw_474 dX1_sheets_16 ?_
  refine n_calli w (n_runN (n := 2) (As := [.int x1, .int (F (17 + j) 5)]) X cn (c_X4_divideUp l x1 (F (17 + j) 5)) kw_322 kw_323 kw_31 kw_324 rfl rfl (by decide +kernel) ⟨(Nat.le_of_ble_eq_true rfl), (Nat.le_of_ble_eq_true rfl)⟩ rfl hl.1 rfl (Nat.le_of_ble_eq_true rfl) dX1_sheets_19 ⟨(Nat.le_of_ble_eq_true rfl), (Nat.le_of_ble_eq_true rfl)⟩) (fun H locs w => ?_)
  exact w_iret X hr hlk w (by subst ex1; exact ⟨rfl, rfl⟩) dX1_sheets_22 rfl (Nat.le_of_ble_eq_true rfl) (Nat.le_of_ble_eq_true rfl)

set_option maxHeartbeats 4000000 in
set_option maxRecDepth 100000 in
theorem c_X1_moneyOfInks (l : Launch) (D : va_G) (ca : Nat → ClassId) (ad : Nat → Nat) (E : Em) (F : Fm) (L : Lm) (S : Sm) (n : Nat) (j : Nat) (hj : j < n) (sz : Nat) : Met l yX1_moneyOfInks (.code yX1_moneyOfInks cX1_moneyOfInks 1 (some .int) :: BG) { frames := 1, cells := 0, slots := 0, locals := 20 } (Pw D ca ad (E, F, L, S, n) sz [.ref (ad (17 + j))]) (Qi D ca ad n (fun r u => r = s_ink F j ∧ u = (E, F, L, S, n)) sz) 0 0 (wA ad n sz) := by
  refine open_W (σ := (E, F, L, S, n)) (Qc := Qi D ca ad n (fun r u => r = s_ink F j ∧ u = (E, F, L, S, n))) (by decide +kernel) (Nat.le_of_ble_eq_true rfl) ?_
  intro p e s m args below meth c X hr hlk w cn ls hl
  have hl : lv_has ls 1 [(0, .ref (ad (17 + j)))] := hl
  refine lv_sipush (v := 200) X.1 X.2.1 dX1_moneyOfInks_0 (by decide) ?_
  refine lv_aload_n X.1 X.2.1 dX1_moneyOfInks_3 rfl (lv_at hl 0 rfl) ?_
  refine g_J X w hj 4 (by decide) (v := .int (F (17 + j) 4)) rfl kw_471 dX1_moneyOfInks_4 ?_
  refine n_calli w (n_runL (n := 1) (As := [.int (F (17 + j) 4)]) X (c_J6_bitCount_0f7a4 l (F (17 + j) 4)) kw_345 kw_330 kw_43 kw_331 rfl rfl (by decide +kernel) ⟨(Nat.le_of_ble_eq_true rfl), (Nat.le_of_ble_eq_true rfl)⟩ rfl hl.1 rfl (Nat.le_of_ble_eq_true rfl) dX1_moneyOfInks_7 ⟨(Nat.le_of_ble_eq_true rfl), (Nat.le_of_ble_eq_true rfl)⟩) (fun H locs w => ?_)
  refine lv_imul X.1 X.2.1 dX1_moneyOfInks_10 ?_
  exact w_iret X hr hlk w (by  exact ⟨rfl, rfl⟩) dX1_moneyOfInks_11 rfl (Nat.le_of_ble_eq_true rfl) (Nat.le_of_ble_eq_true rfl)

set_option maxHeartbeats 4000000 in
set_option maxRecDepth 100000 in
theorem c_X1_takenWith (l : Launch) (D : va_G) (ca : Nat → ClassId) (ad : Nat → Nat) (E : Em) (F : Fm) (L : Lm) (S : Sm) (n : Nat) (j : Nat) (hj : j < n) (hs : ∀ j, j < n → S j < 4) (sp : Int32) (sz : Nat) : Met l yX1_takenWith (.code yX1_takenWith cX1_takenWith 2 (some .int) :: BG) { frames := 2, cells := 0, slots := 0, locals := 42 } (Pw D ca ad (E, F, L, S, n) sz [.ref (ad (17 + j)), .int sp]) (Qi D ca ad n (fun r u => r = s_taken F S j sp ∧ u = (E, F, L, S, n)) sz) 0 0 (wA ad n sz) := by
  refine open_W (σ := (E, F, L, S, n)) (Qc := Qi D ca ad n (fun r u => r = s_taken F S j sp ∧ u = (E, F, L, S, n))) (by decide +kernel) (Nat.le_of_ble_eq_true rfl) ?_
  intro p e s m args below meth c X hr hlk w cn ls hl
  have hl : lv_has ls 2 [(0, .ref (ad (17 + j))), (1, .int sp)] := hl
  refine lv_aload_n X.1 X.2.1 dX1_takenWith_0 rfl (lv_at hl 0 rfl) ?_
  refine w_calli cn w (w_runV (n := 0) (As := []) X cn w (Nat.add_lt_add_left hj 17) wC_J rfl (fun sz => c_X1_sheets l D ca ad E F L S n j hj sz) (bg_V kw_616 kw_316 kw_10 kw_42 kw_318) rfl rfl (by decide +kernel) ⟨(Nat.le_of_ble_eq_true rfl), (Nat.le_of_ble_eq_true rfl)⟩ rfl hl.1 rfl (Nat.le_of_ble_eq_true rfl) dX1_takenWith_1 ⟨(Nat.le_of_ble_eq_true rfl), (Nat.le_of_ble_eq_true rfl)⟩) (fun r1 u H locs hp w => ?_)
  obtain ⟨rfl, rfl⟩ := hp
  refine lv_iload_n X.1 X.2.1 dX1_takenWith_4 rfl (lv_at hl 1 rfl) ?_
  refine lv_iadd X.1 X.2.1 dX1_takenWith_5 ?_
  refine lv_aload_n X.1 X.2.1 dX1_takenWith_6 rfl (lv_at hl 0 rfl) ?_
  refine g_J X w hj 2 (by decide) (v := .ref (ad (2 + S j))) rfl kw_467 dX1_takenWith_7 ?_
  refine gn_P X cn w (pap_ok (hs _ hj)) 3 (by decide) (v := .int (F (2 + S j) 3)) rfl kw_69 dX1_takenWith_10 ?_
  refine n_min X hl.1 (X.2.2.2.2 _ kw_408) (Nat.le_of_ble_eq_true rfl) (Nat.le_of_ble_eq_true rfl) (Nat.le_of_ble_eq_true rfl) (Nat.le_of_ble_eq_true rfl) dX1_takenWith_13 ?_
  exact w_iret X hr hlk w (by  exact ⟨rfl, rfl⟩) dX1_takenWith_16 rfl (Nat.le_of_ble_eq_true rfl) (Nat.le_of_ble_eq_true rfl)

set_option maxHeartbeats 4000000 in
set_option maxRecDepth 100000 in
theorem c_X1_worth (l : Launch) (D : va_G) (ca : Nat → ClassId) (ad : Nat → Nat) (E : Em) (F : Fm) (L : Lm) (S : Sm) (n : Nat) (j : Nat) (hj : j < n) (sz : Nat) : Met l yX1_worth (.code yX1_worth cX1_worth 2 (some .int) :: BG) { frames := 1, cells := 0, slots := 0, locals := 21 } (Pw D ca ad (E, F, L, S, n) sz [.ref (ad (17 + j))]) (Qi D ca ad n (fun r u => r = s_worth F j ∧ u = (E, F, L, S, n)) sz) 0 0 (wA ad n sz) := by
  refine open_W (σ := (E, F, L, S, n)) (Qc := Qi D ca ad n (fun r u => r = s_worth F j ∧ u = (E, F, L, S, n))) (by decide +kernel) (Nat.le_of_ble_eq_true rfl) ?_
  intro p e s m args below meth c X hr hlk w cn ls hl
  have hl : lv_has ls 2 [(0, .ref (ad (17 + j)))] := hl
  refine lv_aload_n X.1 X.2.1 dX1_worth_0 rfl (lv_at hl 0 rfl) ?_
  refine g_J X w hj 10 (by decide) (v := .int (F (17 + j) 10)) rfl kw_484 dX1_worth_1 ?_
  refine lv_aload_n X.1 X.2.1 dX1_worth_4 rfl (lv_at hl 0 rfl) ?_
  refine g_J X w hj 3 (by decide) (v := .int (F (17 + j) 3)) rfl kw_469 dX1_worth_5 ?_
  refine lv_aload_n X.1 X.2.1 dX1_worth_8 rfl (lv_at hl 0 rfl) ?_
  refine g_J X w hj 3 (by decide) (v := .int (F (17 + j) 3)) rfl kw_469 dX1_worth_9 ?_
  refine lv_bipush (v := 10) X.1 X.2.1 dX1_worth_12 (by decide) ?_
  refine lv_idiv X.1 X.2.1 dX1_worth_14 (by decide) ?_
  refine lv_iadd X.1 X.2.1 dX1_worth_15 ?_
  refine n_min X hl.1 (X.2.2.2.2 _ kw_408) (Nat.le_of_ble_eq_true rfl) (Nat.le_of_ble_eq_true rfl) (Nat.le_of_ble_eq_true rfl) (Nat.le_of_ble_eq_true rfl) dX1_worth_16 ?_
  refine lv_topi (fun x1 ex1 => ?_)
  refine lv_istore_n (lv' := [(1, .int x1), (0, .ref (ad (17 + j)))]) X.1 X.2.1 dX1_worth_19 rfl hl (by decide) rfl (fun ls hl => ?_)
  refine lv_aload_n X.1 X.2.1 dX1_worth_20 rfl (lv_at hl 1 rfl) ?_
  refine g_J X w hj 3 (by decide) (v := .int (F (17 + j) 3)) rfl kw_469 dX1_worth_21 ?_
  refine lv_if_ne (tgt := 31) X.1 X.2.1 dX1_worth_24 (by decide) (fun c2 => ?_) (fun c2 => ?_)
  ·
    refine lv_aload_n X.1 X.2.1 dX1_worth_31 rfl (lv_at hl 1 rfl) ?_
    refine g_J X w hj 11 (by decide) (v := .int (F (17 + j) 11)) rfl kw_486 dX1_worth_32 ?_
    refine lv_i2l X.1 X.2.1 dX1_worth_35 rfl ?_
    refine lv_iload_n X.1 X.2.1 dX1_worth_36 rfl (lv_at hl 0 rfl) ?_
    refine lv_i2l X.1 X.2.1 dX1_worth_37 rfl ?_
    refine lv_lmul X.1 X.2.1 dX1_worth_38 ?_
    refine lv_aload_n X.1 X.2.1 dX1_worth_39 rfl (lv_at hl 1 rfl) ?_
    refine g_J X w hj 3 (by decide) (v := .int (F (17 + j) 3)) rfl kw_469 dX1_worth_40 ?_
    refine lv_i2l X.1 X.2.1 dX1_worth_43 rfl ?_
    refine lv_ldiv X.1 X.2.1 dX1_worth_44 (l_ne c2) ?_
    refine lv_l2i X.1 X.2.1 dX1_worth_45 rfl ?_
    exact w_iret X hr hlk w (by subst ex1; exact ⟨by simp [s_worth, c2], rfl⟩) dX1_worth_46 rfl (Nat.le_of_ble_eq_true rfl) (Nat.le_of_ble_eq_true rfl)
  ·
    refine lv_iconst (v := 0) X.1 X.2.1 dX1_worth_27 (by decide) ?_
    refine lv_goto (tgt := 46) X.1 X.2.1 dX1_worth_28 (by decide) ?_
    exact w_iret X hr hlk w (by subst ex1; exact ⟨by simp [s_worth, c2], rfl⟩) dX1_worth_46 rfl (Nat.le_of_ble_eq_true rfl) (Nat.le_of_ble_eq_true rfl)

set_option maxHeartbeats 4000000 in
set_option maxRecDepth 100000 in
theorem c_X2_holds (l : Launch) (D : va_G) (ca : Nat → ClassId) (ad : Nat → Nat) (E : Em) (F : Fm) (L : Lm) (S : Sm) (n : Nat) (o : Nat) (ho : 2 ≤ o ∧ o < 6) (a b : Int32) (sz : Nat) : Met l yX2_holds (.code yX2_holds cX2_holds 3 (some .int) :: BG) { frames := 1, cells := 0, slots := 0, locals := 21 } (Pw D ca ad (E, F, L, S, n) sz [.ref (ad o), .int a, .int b]) (Qi D ca ad n (fun r u => r = s_holds F o a b ∧ u = (E, F, L, S, n)) sz) 0 0 (wA ad n sz) := by
  refine open_W (σ := (E, F, L, S, n)) (Qc := Qi D ca ad n (fun r u => r = s_holds F o a b ∧ u = (E, F, L, S, n))) (by decide +kernel) (Nat.le_of_ble_eq_true rfl) ?_
  intro p e s m args below meth c X hr hlk w cn ls hl
  have hl : lv_has ls 3 [(0, .ref (ad o)), (1, .int a), (2, .int b)] := hl
  refine lv_aload_n X.1 X.2.1 dX2_holds_0 rfl (lv_at hl 0 rfl) ?_
  refine g_P X w ho 0 (by decide) (v := .int (F o 0)) rfl kw_59 dX2_holds_1 ?_
  refine lv_iload_n X.1 X.2.1 dX2_holds_4 rfl (lv_at hl 1 rfl) ?_
  refine n_calli w (n_runN (n := 2) (As := [.int (F o 0), .int a]) X cn (c_X4_divide l (F o 0) a) kw_439 kw_440 kw_31 kw_441 rfl rfl (by decide +kernel) ⟨(Nat.le_of_ble_eq_true rfl), (Nat.le_of_ble_eq_true rfl)⟩ rfl hl.1 rfl (Nat.le_of_ble_eq_true rfl) dX2_holds_5 ⟨(Nat.le_of_ble_eq_true rfl), (Nat.le_of_ble_eq_true rfl)⟩) (fun H locs w => ?_)
  refine lv_aload_n X.1 X.2.1 dX2_holds_8 rfl (lv_at hl 0 rfl) ?_
  refine g_P X w ho 1 (by decide) (v := .int (F o 1)) rfl kw_62 dX2_holds_9 ?_
  refine lv_iload_n X.1 X.2.1 dX2_holds_12 rfl (lv_at hl 2 rfl) ?_
  refine n_calli w (n_runN (n := 2) (As := [.int (F o 1), .int b]) X cn (c_X4_divide l (F o 1) b) kw_439 kw_440 kw_31 kw_441 rfl rfl (by decide +kernel) ⟨(Nat.le_of_ble_eq_true rfl), (Nat.le_of_ble_eq_true rfl)⟩ rfl hl.1 rfl (Nat.le_of_ble_eq_true rfl) dX2_holds_13 ⟨(Nat.le_of_ble_eq_true rfl), (Nat.le_of_ble_eq_true rfl)⟩) (fun H locs w => ?_)
  refine lv_imul X.1 X.2.1 dX2_holds_16 ?_
  exact w_iret X hr hlk w (by  exact ⟨rfl, rfl⟩) dX2_holds_17 rfl (Nat.le_of_ble_eq_true rfl) (Nat.le_of_ble_eq_true rfl)

set_option maxHeartbeats 4000000 in
set_option maxRecDepth 100000 in
theorem c_X2_lotsWithRoom (l : Launch) (D : va_G) (ca : Nat → ClassId) (ad : Nat → Nat) (E : Em) (F : Fm) (L : Lm) (S : Sm) (n : Nat) (o : Nat) (ho : 2 ≤ o ∧ o < 6) (sz : Nat) : Met l yX2_lotsWithRoom (.code yX2_lotsWithRoom cX2_lotsWithRoom 1 (some .int) :: BG) { frames := 0, cells := 0, slots := 0, locals := 0 } (Pw D ca ad (E, F, L, S, n) sz [.ref (ad o)]) (Qi D ca ad n (fun r u => r = s_room F o ∧ u = (E, F, L, S, n)) sz) 0 0 (wA ad n sz) := by
  refine open_W (σ := (E, F, L, S, n)) (Qc := Qi D ca ad n (fun r u => r = s_room F o ∧ u = (E, F, L, S, n))) (by decide +kernel) (Nat.le_of_ble_eq_true rfl) ?_
  intro p e s m args below meth c X hr hlk w cn ls hl
  have hl : lv_has ls 1 [(0, .ref (ad o))] := hl
  refine lv_ldc (v := 99999) X.1 X.2.1 X.2.2.2.1 (X.2.2.2.2 _ kw_548) dX2_lotsWithRoom_0 ?_
  refine lv_aload_n X.1 X.2.1 dX2_lotsWithRoom_2 rfl (lv_at hl 0 rfl) ?_
  refine g_P X w ho 3 (by decide) (v := .int (F o 3)) rfl kw_67 dX2_lotsWithRoom_3 ?_
  refine lv_isub X.1 X.2.1 dX2_lotsWithRoom_6 ?_
  refine lv_sipush (v := 250) X.1 X.2.1 dX2_lotsWithRoom_7 (by decide) ?_
  refine lv_idiv X.1 X.2.1 dX2_lotsWithRoom_10 (by decide) ?_
  exact w_iret X hr hlk w (by  exact ⟨rfl, rfl⟩) dX2_lotsWithRoom_11 rfl (Nat.le_of_ble_eq_true rfl) (Nat.le_of_ble_eq_true rfl)

set_option maxHeartbeats 4000000 in
set_option maxRecDepth 100000 in
theorem c_X3_passesOf (l : Launch) (D : va_G) (ca : Nat → ClassId) (ad : Nat → Nat) (E : Em) (F : Fm) (L : Lm) (S : Sm) (n : Nat) (o : Nat) (ho : 6 ≤ o ∧ o < 10) (j : Nat) (hj : j < n) (sz : Nat) : Met l yX3_passesOf (.code yX3_passesOf cX3_passesOf 2 (some .int) :: BG) { frames := 1, cells := 0, slots := 0, locals := 21 } (Pw D ca ad (E, F, L, S, n) sz [.ref (ad o), .ref (ad (17 + j))]) (Qi D ca ad n (fun r u => r = s_passes F o j ∧ u = (E, F, L, S, n)) sz) 0 0 (wA ad n sz) := by
  refine open_W (σ := (E, F, L, S, n)) (Qc := Qi D ca ad n (fun r u => r = s_passes F o j ∧ u = (E, F, L, S, n))) (by decide +kernel) (Nat.le_of_ble_eq_true rfl) ?_
  intro p e s m args below meth c X hr hlk w cn ls hl
  have hl : lv_has ls 2 [(0, .ref (ad o)), (1, .ref (ad (17 + j)))] := hl
  refine lv_aload_n X.1 X.2.1 dX3_passesOf_0 rfl (lv_at hl 1 rfl) ?_
  refine gn_J X cn w hj 4 (by decide) (v := .int (F (17 + j) 4)) rfl kw_472 dX3_passesOf_1 ?_
  refine n_calli w (n_runL (n := 1) (As := [.int (F (17 + j) 4)]) X (c_J6_bitCount_0f7a4 l (F (17 + j) 4)) kw_329 kw_330 kw_43 kw_331 rfl rfl (by decide +kernel) ⟨(Nat.le_of_ble_eq_true rfl), (Nat.le_of_ble_eq_true rfl)⟩ rfl hl.1 rfl (Nat.le_of_ble_eq_true rfl) dX3_passesOf_4 ⟨(Nat.le_of_ble_eq_true rfl), (Nat.le_of_ble_eq_true rfl)⟩) (fun H locs w => ?_)
  refine lv_aload_n X.1 X.2.1 dX3_passesOf_7 rfl (lv_at hl 0 rfl) ?_
  refine g_R X w ho 0 (by decide) (v := .int (F o 0)) rfl kw_88 dX3_passesOf_8 ?_
  refine n_calli w (n_runN (n := 2) (As := [.int (bitC (F (17 + j) 4)), .int (F o 0)]) X cn (c_X4_divideUp l (bitC (F (17 + j) 4)) (F o 0)) kw_335 kw_323 kw_31 kw_324 rfl rfl (by decide +kernel) ⟨(Nat.le_of_ble_eq_true rfl), (Nat.le_of_ble_eq_true rfl)⟩ rfl hl.1 rfl (Nat.le_of_ble_eq_true rfl) dX3_passesOf_11 ⟨(Nat.le_of_ble_eq_true rfl), (Nat.le_of_ble_eq_true rfl)⟩) (fun H locs w => ?_)
  exact w_iret X hr hlk w (by  exact ⟨rfl, rfl⟩) dX3_passesOf_14 rfl (Nat.le_of_ble_eq_true rfl) (Nat.le_of_ble_eq_true rfl)

set_option maxHeartbeats 4000000 in
set_option maxRecDepth 100000 in
theorem c_X4_changeOf (l : Launch) (D : va_G) (ca : Nat → ClassId) (ad : Nat → Nat) (E : Em) (F : Fm) (L : Lm) (S : Sm) (n : Nat) (j : Nat) (hj : j < n) (inks : Int32) (sz : Nat) : Met l yX4_changeOf (.code yX4_changeOf cX4_changeOf 2 (some .int) :: BG) { frames := 1, cells := 0, slots := 0, locals := 20 } (Pw D ca ad (E, F, L, S, n) sz [.ref (ad (17 + j)), .int inks]) (Qi D ca ad n (fun r u => r = s_change F j inks ∧ u = (E, F, L, S, n)) sz) 0 0 (wA ad n sz) := by
  refine open_W (σ := (E, F, L, S, n)) (Qc := Qi D ca ad n (fun r u => r = s_change F j inks ∧ u = (E, F, L, S, n))) (by decide +kernel) (Nat.le_of_ble_eq_true rfl) ?_
  intro p e s m args below meth c X hr hlk w cn ls hl
  have hl : lv_has ls 2 [(0, .ref (ad (17 + j))), (1, .int inks)] := hl
  refine lv_iconst (v := 4) X.1 X.2.1 dX4_changeOf_0 (by decide) ?_
  refine lv_aload_n X.1 X.2.1 dX4_changeOf_1 rfl (lv_at hl 0 rfl) ?_
  refine gn_J X cn w hj 4 (by decide) (v := .int (F (17 + j) 4)) rfl kw_473 dX4_changeOf_2 ?_
  refine lv_iload_n X.1 X.2.1 dX4_changeOf_5 rfl (lv_at hl 1 rfl) ?_
  refine lv_iconst (v := (-1)) X.1 X.2.1 dX4_changeOf_6 (by decide) ?_
  refine lv_ixor X.1 X.2.1 dX4_changeOf_7 ?_
  refine lv_iand X.1 X.2.1 dX4_changeOf_8 ?_
  refine n_calli w (n_runL (n := 1) (As := [.int ((F (17 + j) 4) &&& (inks ^^^ (-1)))]) X (c_J6_bitCount_0f7a4 l ((F (17 + j) 4) &&& (inks ^^^ (-1)))) kw_339 kw_330 kw_43 kw_331 rfl rfl (by decide +kernel) ⟨(Nat.le_of_ble_eq_true rfl), (Nat.le_of_ble_eq_true rfl)⟩ rfl hl.1 rfl (Nat.le_of_ble_eq_true rfl) dX4_changeOf_9 ⟨(Nat.le_of_ble_eq_true rfl), (Nat.le_of_ble_eq_true rfl)⟩) (fun H locs w => ?_)
  refine lv_imul X.1 X.2.1 dX4_changeOf_12 ?_
  exact w_iret X hr hlk w (by  exact ⟨rfl, rfl⟩) dX4_changeOf_13 rfl (Nat.le_of_ble_eq_true rfl) (Nat.le_of_ble_eq_true rfl)

set_option maxHeartbeats 4000000 in
set_option maxRecDepth 100000 in
theorem c_X3_jobAt (l : Launch) (D : va_G) (ca : Nat → ClassId) (ad : Nat → Nat) (E : Em) (F : Fm) (L : Lm) (S : Sm) (n : Nat) (o : Nat) (ho : 6 ≤ o ∧ o < 10) (x : Int32) (sz : Nat) : Met l yX3_jobAt (.code yX3_jobAt cX3_jobAt 2 (some (.object "PrintLedger$Job")) :: BG) { frames := 0, cells := 0, slots := 0, locals := 0 } (Pw D ca ad (E, F, L, S, n) sz [.ref (ad o), .int x]) (Qr D ca ad n (fun r u => r = (s_jobAt F L o x).map (fun j => ad (17 + j)) ∧ u = (E, F, L, S, n)) sz) 0 0 (wA ad n sz) := by
  refine open_W (σ := (E, F, L, S, n)) (Qc := Qr D ca ad n (fun r u => r = (s_jobAt F L o x).map (fun j => ad (17 + j)) ∧ u = (E, F, L, S, n))) (by decide +kernel) (Nat.le_of_ble_eq_true rfl) ?_
  intro p e s m args below meth c X hr hlk w cn ls hl
  have hl : lv_has ls 2 [(0, .ref (ad o)), (1, .int x)] := hl
  refine lv_iload_n X.1 X.2.1 dX3_jobAt_0 rfl (lv_at hl 1 rfl) ?_
  refine lv_if_lt (tgt := 21) X.1 X.2.1 dX3_jobAt_1 (by decide) (fun c1 => ?_) (fun c1 => ?_)
  ·
    refine lv_null X.1 X.2.1 dX3_jobAt_21 ?_
    refine lv_goto (tgt := 31) X.1 X.2.1 dX3_jobAt_22 (by decide) ?_
    exact w_aret (r := none) X hr hlk w (by  exact ⟨by simp [s_jobAt, c1], rfl⟩) dX3_jobAt_31 (Nat.le_of_ble_eq_true rfl) (Nat.le_of_ble_eq_true rfl)
  ·
    refine lv_iload_n X.1 X.2.1 dX3_jobAt_4 rfl (lv_at hl 1 rfl) ?_
    refine lv_aload_n X.1 X.2.1 dX3_jobAt_5 rfl (lv_at hl 0 rfl) ?_
    refine g_R X w ho 6 (by decide) (v := .int (F o 6)) rfl kw_99 dX3_jobAt_6 ?_
    refine lv_icmp_ge (tgt := 21) X.1 X.2.1 dX3_jobAt_9 (by decide) (fun c2 => ?_) (fun c2 => ?_)
    ·
      refine lv_null X.1 X.2.1 dX3_jobAt_21 ?_
      refine lv_goto (tgt := 31) X.1 X.2.1 dX3_jobAt_22 (by decide) ?_
      exact w_aret (r := none) X hr hlk w (by  exact ⟨by simp [s_jobAt, c1, c2], rfl⟩) dX3_jobAt_31 (Nat.le_of_ble_eq_true rfl) (Nat.le_of_ble_eq_true rfl)
    ·
      refine lv_iload_n X.1 X.2.1 dX3_jobAt_12 rfl (lv_at hl 1 rfl) ?_
      refine lv_aload_n X.1 X.2.1 dX3_jobAt_13 rfl (lv_at hl 0 rfl) ?_
      refine g_R X w ho 5 (by decide) (v := .ref (ad (o + 4))) rfl kw_98 dX3_jobAt_14 ?_
      refine len_L X w ho dX3_jobAt_17 ?_
      refine lv_icmp_lt (tgt := 25) X.1 X.2.1 dX3_jobAt_18 (by decide) (fun c3 => ?_) (fun c3 => ?_)
      ·
        refine lv_aload_n X.1 X.2.1 dX3_jobAt_25 rfl (lv_at hl 0 rfl) ?_
        refine g_R X w ho 5 (by decide) (v := .ref (ad (o + 4))) rfl kw_98 dX3_jobAt_26 ?_
        refine lv_iload_n X.1 X.2.1 dX3_jobAt_29 rfl (lv_at hl 1 rfl) ?_
        refine ld_L X w ho (in_of rfl c1 c3) dX3_jobAt_30 ?_
        exact w_aret (r := ((L o (x).toNatClampNeg).map (fun j => ad (17 + j)))) X hr hlk w (by  exact ⟨by simp [s_jobAt, c1, c2, c3], rfl⟩) dX3_jobAt_31 (Nat.le_of_ble_eq_true rfl) (Nat.le_of_ble_eq_true rfl)
      ·
        refine lv_null X.1 X.2.1 dX3_jobAt_21 ?_
        refine lv_goto (tgt := 31) X.1 X.2.1 dX3_jobAt_22 (by decide) ?_
        exact w_aret (r := none) X hr hlk w (by  exact ⟨by simp [s_jobAt, c1, c2, c3], rfl⟩) dX3_jobAt_31 (Nat.le_of_ble_eq_true rfl) (Nat.le_of_ble_eq_true rfl)
