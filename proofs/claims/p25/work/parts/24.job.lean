def s_layF (F : Fm) (S : Sm) (j : Nat) (a b : Int32) : Fm :=
  up2 (up2 (up2 F (17 + j) 6 (if s_holds F (2 + S j) b a ≤ s_holds F (2 + S j) a b then 0 else 1)) (17 + j) 5 (if s_holds F (2 + S j) b a ≤ s_holds F (2 + S j) a b then s_holds F (2 + S j) a b else s_holds F (2 + S j) b a)) (17 + j) 7
    (F (2 + S j) 0 * F (2 + S j) 1 - (if s_holds F (2 + S j) b a ≤ s_holds F (2 + S j) a b then s_holds F (2 + S j) a b else s_holds F (2 + S j) b a) * a * b)

set_option maxHeartbeats 4000000 in
set_option maxRecDepth 100000 in
theorem c_X1_layOut (l : Launch) (D : va_G) (ca : Nat → ClassId) (ad : Nat → Nat) (E : Em) (F : Fm) (L : Lm) (S : Sm) (n : Nat) (j : Nat) (hj : j < n) (hs : ∀ j, j < n → S j < 4) (a b : Int32) (sz : Nat) : Met l yX1_layOut (.code yX1_layOut cX1_layOut 5 none :: BG) { frames := 2, cells := 0, slots := 0, locals := 43 } (Pw D ca ad (E, F, L, S, n) sz [.ref (ad (17 + j)), .int a, .int b]) (Qv D ca ad n (fun u => u = (E, s_layF F S j a b, L, S, n)) sz) 0 0 (wA ad n sz) := by
  refine open_W (σ := (E, F, L, S, n)) (Qc := Qv D ca ad n (fun u => u = (E, s_layF F S j a b, L, S, n))) (by decide +kernel) (Nat.le_of_ble_eq_true rfl) ?_
  intro p e s m args below meth c X hr hlk w cn ls hl
  have hl : lv_has ls 5 [(0, .ref (ad (17 + j))), (1, .int a), (2, .int b)] := hl
  refine lv_aload_n X.1 X.2.1 dX1_layOut_0 rfl (lv_at hl 0 rfl) ?_
  refine g_J X w hj 2 (by decide) (v := .ref (ad (2 + S j))) rfl kw_467 dX1_layOut_1 ?_
  refine lv_iload_n X.1 X.2.1 dX1_layOut_4 rfl (lv_at hl 1 rfl) ?_
  refine lv_iload_n X.1 X.2.1 dX1_layOut_5 rfl (lv_at hl 2 rfl) ?_
  refine w_calli cn w (w_runVN (n := 2) (As := [.int a, .int b]) X cn w (lt17 (by have := (pap_ok (hs _ hj)); omega)) (wC_P ((pap_ok (hs _ hj))).1 ((pap_ok (hs _ hj))).2) rfl (fun sz => c_X2_holds l D ca ad E F L S n (2 + S j) (pap_ok (hs _ hj)) a b sz) kw_526 kw_437 kw_20 kw_32 kw_438 rfl rfl (by decide +kernel) ⟨(Nat.le_of_ble_eq_true rfl), (Nat.le_of_ble_eq_true rfl)⟩ rfl hl.1 rfl (Nat.le_of_ble_eq_true rfl) dX1_layOut_6 ⟨(Nat.le_of_ble_eq_true rfl), (Nat.le_of_ble_eq_true rfl)⟩) (fun r1 u H locs hp w => ?_)
  obtain ⟨rfl, rfl⟩ := hp
  refine lv_topi (fun x2 ex2 => ?_)
  refine lv_istore_n (lv' := [(3, .int x2), (0, .ref (ad (17 + j))), (1, .int a), (2, .int b)]) X.1 X.2.1 dX1_layOut_9 rfl hl (by decide) rfl (fun ls hl => ?_)
  refine lv_aload_n X.1 X.2.1 dX1_layOut_10 rfl (lv_at hl 1 rfl) ?_
  refine g_J X w hj 2 (by decide) (v := .ref (ad (2 + S j))) rfl kw_467 dX1_layOut_11 ?_
  refine lv_iload_n X.1 X.2.1 dX1_layOut_14 rfl (lv_at hl 3 rfl) ?_
  refine lv_iload_n X.1 X.2.1 dX1_layOut_15 rfl (lv_at hl 2 rfl) ?_
  refine w_calli cn w (w_runVN (n := 2) (As := [.int b, .int a]) X cn w (lt17 (by have := (pap_ok (hs _ hj)); omega)) (wC_P ((pap_ok (hs _ hj))).1 ((pap_ok (hs _ hj))).2) rfl (fun sz => c_X2_holds l D ca ad E F L S n (2 + S j) (pap_ok (hs _ hj)) b a sz) kw_526 kw_437 kw_20 kw_32 kw_438 rfl rfl (by decide +kernel) ⟨(Nat.le_of_ble_eq_true rfl), (Nat.le_of_ble_eq_true rfl)⟩ rfl hl.1 rfl (Nat.le_of_ble_eq_true rfl) dX1_layOut_16 ⟨(Nat.le_of_ble_eq_true rfl), (Nat.le_of_ble_eq_true rfl)⟩) (fun r3 u H locs hp w => ?_)
  obtain ⟨rfl, rfl⟩ := hp
  refine lv_topi (fun x4 ex4 => ?_)
  refine lv_istore (lv' := [(4, .int x4), (3, .int x2), (0, .ref (ad (17 + j))), (1, .int a), (2, .int b)]) X.1 X.2.1 dX1_layOut_19 hl (by decide) rfl (fun ls hl => ?_)
  refine lv_aload_n X.1 X.2.1 dX1_layOut_21 rfl (lv_at hl 2 rfl) ?_
  refine lv_iload X.1 X.2.1 dX1_layOut_22 (lv_at hl 0 rfl) ?_
  refine lv_iload_n X.1 X.2.1 dX1_layOut_24 rfl (lv_at hl 1 rfl) ?_
  refine lv_icmp_le (tgt := 32) X.1 X.2.1 dX1_layOut_25 (by decide) (fun c5 => ?_) (fun c5 => ?_)
  ·
    refine lv_iconst (v := 0) X.1 X.2.1 dX1_layOut_32 (by decide) ?_
    refine p_J X w hj 6 (by decide) rfl (ty := .boolean) (by decide +kernel) (v := 0) rfl rfl kw_476 dX1_layOut_33 (fun H locs w => ?_)
    obtain ⟨F6, eF6⟩ : ∃ G : Fm, G = up2 F (17 + j) 6 0 := ⟨_, rfl⟩
    rw [← eF6] at w
    refine lv_aload_n X.1 X.2.1 dX1_layOut_36 rfl (lv_at hl 2 rfl) ?_
    refine lv_aload_n X.1 X.2.1 dX1_layOut_37 rfl (lv_at hl 2 rfl) ?_
    refine g_J X w hj 6 (by decide) (v := .int (F6 (17 + j) 6)) rfl kw_476 dX1_layOut_38 ?_
    refine lv_if_eq (tgt := 49) X.1 X.2.1 dX1_layOut_41 (by decide) (fun c7 => ?_) (fun c7 => ?_)
    ·
      refine lv_iload_n X.1 X.2.1 dX1_layOut_49 rfl (lv_at hl 1 rfl) ?_
      refine p_J X w hj 5 (by decide) rfl (ty := .int) (by decide +kernel) (v := x2) rfl rfl kw_474 dX1_layOut_50 (fun H locs w => ?_)
      obtain ⟨F8, eF8⟩ : ∃ G : Fm, G = up2 F6 (17 + j) 5 x2 := ⟨_, rfl⟩
      rw [← eF8] at w
      refine lv_aload_n X.1 X.2.1 dX1_layOut_53 rfl (lv_at hl 2 rfl) ?_
      refine lv_aload_n X.1 X.2.1 dX1_layOut_54 rfl (lv_at hl 2 rfl) ?_
      refine g_J X w hj 2 (by decide) (v := .ref (ad (2 + S j))) rfl kw_467 dX1_layOut_55 ?_
      refine gn_P X cn w (pap_ok (hs _ hj)) 0 (by decide) (v := .int (F8 (2 + S j) 0)) rfl kw_60 dX1_layOut_58 ?_
      refine lv_aload_n X.1 X.2.1 dX1_layOut_61 rfl (lv_at hl 2 rfl) ?_
      refine g_J X w hj 2 (by decide) (v := .ref (ad (2 + S j))) rfl kw_467 dX1_layOut_62 ?_
      refine gn_P X cn w (pap_ok (hs _ hj)) 1 (by decide) (v := .int (F8 (2 + S j) 1)) rfl kw_63 dX1_layOut_65 ?_
      refine lv_imul X.1 X.2.1 dX1_layOut_68 ?_
      refine lv_aload_n X.1 X.2.1 dX1_layOut_69 rfl (lv_at hl 2 rfl) ?_
      refine g_J X w hj 5 (by decide) (v := .int (F8 (17 + j) 5)) rfl kw_474 dX1_layOut_70 ?_
      refine lv_iload_n X.1 X.2.1 dX1_layOut_73 rfl (lv_at hl 3 rfl) ?_
      refine lv_imul X.1 X.2.1 dX1_layOut_74 ?_
      refine lv_iload_n X.1 X.2.1 dX1_layOut_75 rfl (lv_at hl 4 rfl) ?_
      refine lv_imul X.1 X.2.1 dX1_layOut_76 ?_
      refine lv_isub X.1 X.2.1 dX1_layOut_77 ?_
      refine p_J X w hj 7 (by decide) rfl (ty := .int) (by decide +kernel) (v := (((F8 (2 + S j) 0) * (F8 (2 + S j) 1)) - (((F8 (17 + j) 5) * a) * b))) rfl rfl kw_478 dX1_layOut_78 (fun H locs w => ?_)
      obtain ⟨F9, eF9⟩ : ∃ G : Fm, G = up2 F8 (17 + j) 7 (((F8 (2 + S j) 0) * (F8 (2 + S j) 1)) - (((F8 (17 + j) 5) * a) * b)) := ⟨_, rfl⟩
      rw [← eF9] at w
      exact w_vret X hr hlk w (by subst eF9; subst eF8; subst eF6; subst ex4; subst ex2; have hsj := hs _ hj; have n1 : 2 + S j ≠ 17 + j := (by omega); simp only [s_layF, c5, if_true, if_false, up2_ne n1, up2_s]) dX1_layOut_81 (Nat.le_of_ble_eq_true rfl) (Nat.le_of_ble_eq_true rfl)
    ·
      exact absurd (by subst eF6; subst ex4; subst ex2; rw [up2_s]) c7
  ·
    refine lv_iconst (v := 1) X.1 X.2.1 dX1_layOut_28 (by decide) ?_
    refine lv_goto (tgt := 33) X.1 X.2.1 dX1_layOut_29 (by decide) ?_
    refine p_J X w hj 6 (by decide) rfl (ty := .boolean) (by decide +kernel) (v := 1) rfl rfl kw_476 dX1_layOut_33 (fun H locs w => ?_)
    obtain ⟨F10, eF10⟩ : ∃ G : Fm, G = up2 F (17 + j) 6 1 := ⟨_, rfl⟩
    rw [← eF10] at w
    refine lv_aload_n X.1 X.2.1 dX1_layOut_36 rfl (lv_at hl 2 rfl) ?_
    refine lv_aload_n X.1 X.2.1 dX1_layOut_37 rfl (lv_at hl 2 rfl) ?_
    refine g_J X w hj 6 (by decide) (v := .int (F10 (17 + j) 6)) rfl kw_476 dX1_layOut_38 ?_
    refine lv_if_eq (tgt := 49) X.1 X.2.1 dX1_layOut_41 (by decide) (fun c11 => ?_) (fun c11 => ?_)
    ·
      exact absurd c11 (by subst eF10; subst ex4; subst ex2; rw [up2_s]; decide)
    ·
      refine lv_iload X.1 X.2.1 dX1_layOut_44 (lv_at hl 0 rfl) ?_
      refine lv_goto (tgt := 50) X.1 X.2.1 dX1_layOut_46 (by decide) ?_
      refine p_J X w hj 5 (by decide) rfl (ty := .int) (by decide +kernel) (v := x4) rfl rfl kw_474 dX1_layOut_50 (fun H locs w => ?_)
      obtain ⟨F12, eF12⟩ : ∃ G : Fm, G = up2 F10 (17 + j) 5 x4 := ⟨_, rfl⟩
      rw [← eF12] at w
      refine lv_aload_n X.1 X.2.1 dX1_layOut_53 rfl (lv_at hl 2 rfl) ?_
      refine lv_aload_n X.1 X.2.1 dX1_layOut_54 rfl (lv_at hl 2 rfl) ?_
      refine g_J X w hj 2 (by decide) (v := .ref (ad (2 + S j))) rfl kw_467 dX1_layOut_55 ?_
      refine gn_P X cn w (pap_ok (hs _ hj)) 0 (by decide) (v := .int (F12 (2 + S j) 0)) rfl kw_60 dX1_layOut_58 ?_
      refine lv_aload_n X.1 X.2.1 dX1_layOut_61 rfl (lv_at hl 2 rfl) ?_
      refine g_J X w hj 2 (by decide) (v := .ref (ad (2 + S j))) rfl kw_467 dX1_layOut_62 ?_
      refine gn_P X cn w (pap_ok (hs _ hj)) 1 (by decide) (v := .int (F12 (2 + S j) 1)) rfl kw_63 dX1_layOut_65 ?_
      refine lv_imul X.1 X.2.1 dX1_layOut_68 ?_
      refine lv_aload_n X.1 X.2.1 dX1_layOut_69 rfl (lv_at hl 2 rfl) ?_
      refine g_J X w hj 5 (by decide) (v := .int (F12 (17 + j) 5)) rfl kw_474 dX1_layOut_70 ?_
      refine lv_iload_n X.1 X.2.1 dX1_layOut_73 rfl (lv_at hl 3 rfl) ?_
      refine lv_imul X.1 X.2.1 dX1_layOut_74 ?_
      refine lv_iload_n X.1 X.2.1 dX1_layOut_75 rfl (lv_at hl 4 rfl) ?_
      refine lv_imul X.1 X.2.1 dX1_layOut_76 ?_
      refine lv_isub X.1 X.2.1 dX1_layOut_77 ?_
      refine p_J X w hj 7 (by decide) rfl (ty := .int) (by decide +kernel) (v := (((F12 (2 + S j) 0) * (F12 (2 + S j) 1)) - (((F12 (17 + j) 5) * a) * b))) rfl rfl kw_478 dX1_layOut_78 (fun H locs w => ?_)
      obtain ⟨F13, eF13⟩ : ∃ G : Fm, G = up2 F12 (17 + j) 7 (((F12 (2 + S j) 0) * (F12 (2 + S j) 1)) - (((F12 (17 + j) 5) * a) * b)) := ⟨_, rfl⟩
      rw [← eF13] at w
      exact w_vret X hr hlk w (by subst eF13; subst eF12; subst eF10; subst ex4; subst ex2; have hsj := hs _ hj; have n1 : 2 + S j ≠ 17 + j := (by omega); simp only [s_layF, c5, if_true, if_false, up2_ne n1, up2_s]) dX1_layOut_81 (Nat.le_of_ble_eq_true rfl) (Nat.le_of_ble_eq_true rfl)

set_option maxHeartbeats 4000000 in
set_option maxRecDepth 100000 in
theorem c_X1_init (l : Launch) (D : va_G) (h0 sz : Nat) (nu pa co ik : Int32) (sh : Nat) : Met l yX1_init (.code yX1_init cX1_init 6 none :: BG) { frames := 1, cells := 0, slots := 0, locals := 12 } (va_Pc [.ref h0, .int nu, .int pa, .ref sh, .int co, .int ik] (fun U => U.heap.size = sz ∧ va_P D vwCl [(h0, .inr (1, [.int 0, .int 0, .null, .int 0, .int 0, .int 0, .int 0, .int 0, .int 0, .int 0, .int 0, .int 0, .int 0, .int 0, .int 0]))] U.heap ∧ va_K D vwCl [] U ∧ va_D (fun _ => True) [(h0, .inr (1, [.int 0, .int 0, .null, .int 0, .int 0, .int 0, .int 0, .int 0, .int 0, .int 0, .int 0, .int 0, .int 0, .int 0, .int 0]))])) (va_Qv (fun _ : Unit => True) (fun _ t => va_P D vwCl [(h0, .inr (1, [.int nu, .int pa, (.ref sh), .int co, .int ik, .int 0, .int 0, .int 0, .int 0, .int (-1), .int 0, .int 0, .int 0, .int 0, .int 0]))] t.heap ∧ va_K D vwCl [] t) (va_A [(h0, .inr (1, [.int 0, .int 0, .null, .int 0, .int 0, .int 0, .int 0, .int 0, .int 0, .int 0, .int 0, .int 0, .int 0, .int 0, .int 0]))] sz)) 0 0 (va_A [(h0, .inr (1, [.int 0, .int 0, .null, .int 0, .int 0, .int 0, .int 0, .int 0, .int 0, .int 0, .int 0, .int 0, .int 0, .int 0, .int 0]))] sz) := by
  refine Met.ofW (cc := cX1_init) (maxL := 6) (ret := none) (by decide +kernel) rfl ?_
  intro p e s m args below meth c s₁ B hml hv
  obtain ⟨rfl, rfl, hP, hK, hD0⟩ := hv
  have hts0 := atoms_spec (ws := Cond.code yX1_init cX1_init 6 none :: BG) B.pre
  have X : CallFix p m c cX1_init 6 s #[.ref h0, .int nu, .int pa, .ref sh, .int co, .int ik] BG yX1_init.cls := ⟨B.exec, B.bytes, hml, findClass_of_methodNamed B.named, fun w hw => hts0 w (List.mem_cons_of_mem _ hw)⟩
  have hr := B.returns
  have hlk := B.notSynchronized
  have hin : meth.name = "<init>" := (name_of_methodNamed B.named B.method).1
  have hD := hD0.self (sz := s.heap.size)
  generalize hAe : va_A [(h0, .inr (1, [.int 0, .int 0, .null, .int 0, .int 0, .int 0, .int 0, .int 0, .int 0, .int 0, .int 0, .int 0, .int 0, .int 0, .int 0]))] s.heap.size = A at hD ⊢
  have hS : va_S A s.heap s.heap [] := va_S.rf
  have hl := lv_entry ([.ref h0, .int nu, .int pa, .ref sh, .int co, .int ik]) (n := 6) (Nat.le_of_ble_eq_true rfl)
  rw [lg_entry_eq]
  generalize (lg_sl ([.ref h0, .int nu, .int pa, .ref sh, .int co, .int ik]) ++ List.replicate (6 - (lg_sl ([.ref h0, .int nu, .int pa, .ref sh, .int co, .int ik])).length) Slot.unset).toArray = ls at hl ⊢
  have hl : lv_has ls 6 [(0, .ref h0), (1, .int nu), (2, .int pa), (3, .ref sh), (4, .int co), (5, .int ik)] := hl
  refine lv_aload_n X.1 X.2.1 dX1_init_0 rfl (lv_at hl 0 rfl) ?_
  refine W.objInit X.1 X.2.1 X.2.2.2.1 (X.2.2.2.2 _ kw_462) (X.2.2.2.2 _ kw_50) (X.2.2.2.2 _ kw_51) rfl (by rw [hml]; exact hl.1) rfl dX1_init_1 (Nat.le_of_ble_eq_true rfl) (Nat.le_of_ble_eq_true rfl) ?_
  refine W.eq (g2 := F0 m 4 ls []) rfl ?_
  refine lv_aload_n X.1 X.2.1 dX1_init_4 rfl (lv_at hl 0 rfl) ?_
  refine lv_iconst (v := 0) X.1 X.2.1 dX1_init_5 (by decide) ?_
  refine va_put (D := D) (ci := 1) (v := (.int 0)) (ty := .int) (C := RX1) (T := TX1) (N := 15) X.1 X.2.1 X.2.2.2.2 in_X1 tyX1 tyX1_ok nmX1 X.2.2.2.1 hK hP hD hS 0 rfl rfl 8 (by decide) (X.2.2.2.2 _ kw_480) (fun _ h9 => h9) rfl (by decide +kernel) rfl rfl (Nat.le_of_ble_eq_true rfl) dX1_init_6 (fun H locs hP hD hS => ?_)
  have hP : va_P D vwCl [(h0, .inr (1, [.int 0, .int 0, .null, .int 0, .int 0, .int 0, .int 0, .int 0, .int 0, .int 0, .int 0, .int 0, .int 0, .int 0, .int 0]))] H := hP
  have hD : va_D A [(h0, .inr (1, [.int 0, .int 0, .null, .int 0, .int 0, .int 0, .int 0, .int 0, .int 0, .int 0, .int 0, .int 0, .int 0, .int 0, .int 0]))] := hD
  refine lv_aload_n X.1 X.2.1 dX1_init_9 rfl (lv_at hl 0 rfl) ?_
  refine lv_iconst (v := (-1)) X.1 X.2.1 dX1_init_10 (by decide) ?_
  refine va_put (D := D) (ci := 1) (v := (.int (-1))) (ty := .int) (C := RX1) (T := TX1) (N := 15) X.1 X.2.1 X.2.2.2.2 in_X1 tyX1 tyX1_ok nmX1 X.2.2.2.1 hK hP hD hS 0 rfl rfl 9 (by decide) (X.2.2.2.2 _ kw_482) (fun _ h9 => h9) rfl (by decide +kernel) rfl rfl (Nat.le_of_ble_eq_true rfl) dX1_init_11 (fun H locs hP hD hS => ?_)
  have hP : va_P D vwCl [(h0, .inr (1, [.int 0, .int 0, .null, .int 0, .int 0, .int 0, .int 0, .int 0, .int 0, .int (-1), .int 0, .int 0, .int 0, .int 0, .int 0]))] H := hP
  have hD : va_D A [(h0, .inr (1, [.int 0, .int 0, .null, .int 0, .int 0, .int 0, .int 0, .int 0, .int 0, .int (-1), .int 0, .int 0, .int 0, .int 0, .int 0]))] := hD
  refine lv_aload_n X.1 X.2.1 dX1_init_14 rfl (lv_at hl 0 rfl) ?_
  refine lv_iload_n X.1 X.2.1 dX1_init_15 rfl (lv_at hl 1 rfl) ?_
  refine va_putF (D := D) (ci := 1) (v := (.int nu)) (ty := .int) (C := RX1) (T := TX1) (N := 15) X.1 X.2.1 X.2.2.2.2 in_X1 tyX1 tyX1_ok nmX1 X.2.2.2.1 hK hP hD hS 0 rfl rfl 0 (by decide) (X.2.2.2.2 _ kw_463) (fun _ h9 => h9) rfl hin rfl (by decide +kernel) rfl rfl (Nat.le_of_ble_eq_true rfl) dX1_init_16 (fun H locs hP hD hS => ?_)
  have hP : va_P D vwCl [(h0, .inr (1, [.int nu, .int 0, .null, .int 0, .int 0, .int 0, .int 0, .int 0, .int 0, .int (-1), .int 0, .int 0, .int 0, .int 0, .int 0]))] H := hP
  have hD : va_D A [(h0, .inr (1, [.int nu, .int 0, .null, .int 0, .int 0, .int 0, .int 0, .int 0, .int 0, .int (-1), .int 0, .int 0, .int 0, .int 0, .int 0]))] := hD
  refine lv_aload_n X.1 X.2.1 dX1_init_19 rfl (lv_at hl 0 rfl) ?_
  refine lv_iload_n X.1 X.2.1 dX1_init_20 rfl (lv_at hl 2 rfl) ?_
  refine va_putF (D := D) (ci := 1) (v := (.int pa)) (ty := .int) (C := RX1) (T := TX1) (N := 15) X.1 X.2.1 X.2.2.2.2 in_X1 tyX1 tyX1_ok nmX1 X.2.2.2.1 hK hP hD hS 0 rfl rfl 1 (by decide) (X.2.2.2.2 _ kw_465) (fun _ h9 => h9) rfl hin rfl (by decide +kernel) rfl rfl (Nat.le_of_ble_eq_true rfl) dX1_init_21 (fun H locs hP hD hS => ?_)
  have hP : va_P D vwCl [(h0, .inr (1, [.int nu, .int pa, .null, .int 0, .int 0, .int 0, .int 0, .int 0, .int 0, .int (-1), .int 0, .int 0, .int 0, .int 0, .int 0]))] H := hP
  have hD : va_D A [(h0, .inr (1, [.int nu, .int pa, .null, .int 0, .int 0, .int 0, .int 0, .int 0, .int 0, .int (-1), .int 0, .int 0, .int 0, .int 0, .int 0]))] := hD
  refine lv_aload_n X.1 X.2.1 dX1_init_24 rfl (lv_at hl 0 rfl) ?_
  refine lv_aload_n X.1 X.2.1 dX1_init_25 rfl (lv_at hl 3 rfl) ?_
  refine va_putF (D := D) (ci := 1) (v := (.ref sh)) (ty := (.object "PrintLedger$Paper")) (C := RX1) (T := TX1) (N := 15) X.1 X.2.1 X.2.2.2.2 in_X1 tyX1 tyX1_ok nmX1 X.2.2.2.1 hK hP hD hS 0 rfl rfl 2 (by decide) (X.2.2.2.2 _ kw_467) (fun _ h9 => h9) rfl hin rfl (by decide +kernel) rfl rfl (Nat.le_of_ble_eq_true rfl) dX1_init_26 (fun H locs hP hD hS => ?_)
  have hP : va_P D vwCl [(h0, .inr (1, [.int nu, .int pa, (.ref sh), .int 0, .int 0, .int 0, .int 0, .int 0, .int 0, .int (-1), .int 0, .int 0, .int 0, .int 0, .int 0]))] H := hP
  have hD : va_D A [(h0, .inr (1, [.int nu, .int pa, (.ref sh), .int 0, .int 0, .int 0, .int 0, .int 0, .int 0, .int (-1), .int 0, .int 0, .int 0, .int 0, .int 0]))] := hD
  refine lv_aload_n X.1 X.2.1 dX1_init_29 rfl (lv_at hl 0 rfl) ?_
  refine lv_iload X.1 X.2.1 dX1_init_30 (lv_at hl 4 rfl) ?_
  refine va_putF (D := D) (ci := 1) (v := (.int co)) (ty := .int) (C := RX1) (T := TX1) (N := 15) X.1 X.2.1 X.2.2.2.2 in_X1 tyX1 tyX1_ok nmX1 X.2.2.2.1 hK hP hD hS 0 rfl rfl 3 (by decide) (X.2.2.2.2 _ kw_469) (fun _ h9 => h9) rfl hin rfl (by decide +kernel) rfl rfl (Nat.le_of_ble_eq_true rfl) dX1_init_32 (fun H locs hP hD hS => ?_)
  have hP : va_P D vwCl [(h0, .inr (1, [.int nu, .int pa, (.ref sh), .int co, .int 0, .int 0, .int 0, .int 0, .int 0, .int (-1), .int 0, .int 0, .int 0, .int 0, .int 0]))] H := hP
  have hD : va_D A [(h0, .inr (1, [.int nu, .int pa, (.ref sh), .int co, .int 0, .int 0, .int 0, .int 0, .int 0, .int (-1), .int 0, .int 0, .int 0, .int 0, .int 0]))] := hD
  refine lv_aload_n X.1 X.2.1 dX1_init_35 rfl (lv_at hl 0 rfl) ?_
  refine lv_iload X.1 X.2.1 dX1_init_36 (lv_at hl 5 rfl) ?_
  refine va_putF (D := D) (ci := 1) (v := (.int ik)) (ty := .int) (C := RX1) (T := TX1) (N := 15) X.1 X.2.1 X.2.2.2.2 in_X1 tyX1 tyX1_ok nmX1 X.2.2.2.1 hK hP hD hS 0 rfl rfl 4 (by decide) (X.2.2.2.2 _ kw_471) (fun _ h9 => h9) rfl hin rfl (by decide +kernel) rfl rfl (Nat.le_of_ble_eq_true rfl) dX1_init_38 (fun H locs hP hD hS => ?_)
  have hP : va_P D vwCl [(h0, .inr (1, [.int nu, .int pa, (.ref sh), .int co, .int ik, .int 0, .int 0, .int 0, .int 0, .int (-1), .int 0, .int 0, .int 0, .int 0, .int 0]))] H := hP
  have hD : va_D A [(h0, .inr (1, [.int nu, .int pa, (.ref sh), .int co, .int ik, .int 0, .int 0, .int 0, .int 0, .int (-1), .int 0, .int 0, .int 0, .int 0, .int 0]))] := hD
  exact W.vret X.1 X.2.1 hr (fun t ht hW => ⟨⟨(), rfl, trivial, by rw [ht]; exact hP, va_K.moved hW.alike hK⟩, hS.F ht⟩) hS.2.2 dX1_init_41
