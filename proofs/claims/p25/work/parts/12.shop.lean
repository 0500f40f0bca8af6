set_option maxHeartbeats 4000000 in
set_option maxRecDepth 100000 in
theorem c_X4_expect (l : Launch) (D : va_G) (ca : Nat → ClassId) (ad : Nat → Nat) (E : Em) (F : Fm) (L : Lm) (S : Sm) (n : Nat) (j : Nat) (hj : j < n) (o : Nat) (ho : 6 ≤ o ∧ o < 10) (i : Int32) (hs : ∀ j, j < n → S j < 4) (sz : Nat) : Met l yX4_expect (.code yX4_expect cX4_expect 8 (some (.object "PrintLedger$Expectation")) :: BG) { frames := 2, cells := 0, slots := 0, locals := 42 } (Pw D ca ad (E, F, L, S, n) sz [.ref (ad 0), .ref (ad (17 + j)), .ref (ad o), .int i]) (Qr D ca ad n (fun r u => r = some (ad 1) ∧ u = (s_exp E F S o j i, F, L, S, n)) sz) 0 0 (wA ad n sz) := by
  refine open_W (σ := (E, F, L, S, n)) (Qc := Qr D ca ad n (fun r u => r = some (ad 1) ∧ u = (s_exp E F S o j i, F, L, S, n))) (by decide +kernel) (Nat.le_of_ble_eq_true rfl) ?_
  intro p e s m args below meth c X hr hlk w cn ls hl
  have hl : lv_has ls 8 [(0, .ref (ad 0)), (1, .ref (ad (17 + j))), (2, .ref (ad o)), (3, .int i)] := hl
  refine lv_aload_n X.1 X.2.1 dX4_expect_0 rfl (lv_at hl 0 rfl) ?_
  refine g_L X w 9 (by decide) (v := .ref (ad 1)) rfl kw_154 dX4_expect_1 ?_
  refine lv_astore (lv' := [(4, .ref (ad 1)), (0, .ref (ad 0)), (1, .ref (ad (17 + j))), (2, .ref (ad o)), (3, .int i)]) X.1 X.2.1 dX4_expect_4 hl (by decide) rfl (fun ls hl => ?_)
  refine lv_aload_n X.1 X.2.1 dX4_expect_6 rfl (lv_at hl 2 rfl) ?_
  refine w_calli cn w (w_runVN (n := 0) (As := []) X cn w (Nat.add_lt_add_left hj 17) wC_J rfl (fun sz => c_X1_sheets l D ca ad E F L S n j hj sz) kw_314 kw_316 kw_10 kw_42 kw_318 rfl rfl (by decide +kernel) ⟨(Nat.le_of_ble_eq_true rfl), (Nat.le_of_ble_eq_true rfl)⟩ rfl hl.1 rfl (Nat.le_of_ble_eq_true rfl) dX4_expect_7 ⟨(Nat.le_of_ble_eq_true rfl), (Nat.le_of_ble_eq_true rfl)⟩) (fun r1 u H locs hp w => ?_)
  obtain ⟨rfl, rfl⟩ := hp
  refine lv_topi (fun x2 ex2 => ?_)
  refine lv_istore (lv' := [(5, .int x2), (4, .ref (ad 1)), (0, .ref (ad 0)), (1, .ref (ad (17 + j))), (2, .ref (ad o)), (3, .int i)]) X.1 X.2.1 dX4_expect_10 hl (by decide) rfl (fun ls hl => ?_)
  refine lv_aload X.1 X.2.1 dX4_expect_12 (lv_at hl 1 rfl) ?_
  refine lv_aload_n X.1 X.2.1 dX4_expect_14 rfl (lv_at hl 4 rfl) ?_
  refine lv_aload_n X.1 X.2.1 dX4_expect_15 rfl (lv_at hl 3 rfl) ?_
  refine w_calli cn w (w_runVN (n := 1) (As := [.ref (ad (17 + j))]) X cn w (lt17 (by have := ho; omega)) (wC_R (ho).1 (ho).2) rfl (fun sz => c_X3_passesOf l D ca ad E F L S n o ho j hj sz) kw_325 kw_327 kw_11 kw_33 kw_328 rfl rfl (by decide +kernel) ⟨(Nat.le_of_ble_eq_true rfl), (Nat.le_of_ble_eq_true rfl)⟩ rfl hl.1 rfl (Nat.le_of_ble_eq_true rfl) dX4_expect_16 ⟨(Nat.le_of_ble_eq_true rfl), (Nat.le_of_ble_eq_true rfl)⟩) (fun r3 u H locs hp w => ?_)
  obtain ⟨rfl, rfl⟩ := hp
  refine lv_topi (fun x4 ex4 => ?_)
  refine pn_E X cn w 0 (by decide) rfl (by decide +kernel) (v := x4) kw_123 dX4_expect_19 (fun H locs w => ?_)
  obtain ⟨E5, eE5⟩ : ∃ G : Em, G = up1 E 0 x4 := ⟨_, rfl⟩
  rw [← eE5] at w
  refine lv_aload X.1 X.2.1 dX4_expect_22 (lv_at hl 1 rfl) ?_
  refine lv_aload_n X.1 X.2.1 dX4_expect_24 rfl (lv_at hl 3 rfl) ?_
  refine lv_iload_n X.1 X.2.1 dX4_expect_25 rfl (lv_at hl 5 rfl) ?_
  refine w_calli cn w (w_runS (n := 2) (As := [.ref (ad (17 + j)), .int i]) X cn w (fun sz => c_X4_changeOf l D ca ad E5 F L S n j hj i sz) (bg_S kw_336 kw_337 kw_31 kw_338) rfl rfl (by decide +kernel) ⟨(Nat.le_of_ble_eq_true rfl), (Nat.le_of_ble_eq_true rfl)⟩ rfl hl.1 rfl (Nat.le_of_ble_eq_true rfl) dX4_expect_26 ⟨(Nat.le_of_ble_eq_true rfl), (Nat.le_of_ble_eq_true rfl)⟩) (fun r6 u H locs hp w => ?_)
  obtain ⟨rfl, rfl⟩ := hp
  refine lv_topi (fun x7 ex7 => ?_)
  refine pn_E X cn w 1 (by decide) rfl (by decide +kernel) (v := x7) kw_124 dX4_expect_29 (fun H locs w => ?_)
  obtain ⟨E8, eE8⟩ : ∃ G : Em, G = up1 E5 1 x7 := ⟨_, rfl⟩
  rw [← eE8] at w
  refine lv_aload X.1 X.2.1 dX4_expect_32 (lv_at hl 1 rfl) ?_
  refine lv_iload X.1 X.2.1 dX4_expect_34 (lv_at hl 0 rfl) ?_
  refine lv_aload_n X.1 X.2.1 dX4_expect_36 rfl (lv_at hl 4 rfl) ?_
  refine gn_R X cn w ho 4 (by decide) (v := .int (F o 4)) rfl kw_97 dX4_expect_37 ?_
  refine lv_imul X.1 X.2.1 dX4_expect_40 ?_
  refine lv_sipush (v := 1000) X.1 X.2.1 dX4_expect_41 (by decide) ?_
  refine lv_idiv X.1 X.2.1 dX4_expect_44 (by decide) ?_
  refine lv_iconst (v := 5) X.1 X.2.1 dX4_expect_45 (by decide) ?_
  refine lv_aload X.1 X.2.1 dX4_expect_46 (lv_at hl 1 rfl) ?_
  refine gn_E X cn w 0 (by decide) (v := .int (E8 0)) rfl kw_123 dX4_expect_48 ?_
  refine W.eq (g2 := F0 m 51 ls [.int x4, .int 5, .int ((x2 * (F o 4)) / 1000), .ref (ad 1)]) (by subst eE8; subst eE5; rfl) ?_
  refine lv_imul X.1 X.2.1 dX4_expect_51 ?_
  refine lv_iadd X.1 X.2.1 dX4_expect_52 ?_
  refine lv_topi (fun x9 ex9 => ?_)
  refine pn_E X cn w 2 (by decide) rfl (by decide +kernel) (v := x9) kw_125 dX4_expect_53 (fun H locs w => ?_)
  obtain ⟨E10, eE10⟩ : ∃ G : Em, G = up1 E8 2 x9 := ⟨_, rfl⟩
  rw [← eE10] at w
  refine lv_aload X.1 X.2.1 dX4_expect_56 (lv_at hl 1 rfl) ?_
  refine lv_iload X.1 X.2.1 dX4_expect_58 (lv_at hl 0 rfl) ?_
  refine lv_aload X.1 X.2.1 dX4_expect_60 (lv_at hl 1 rfl) ?_
  refine gn_E X cn w 2 (by decide) (v := .int (E10 2)) rfl kw_125 dX4_expect_62 ?_
  refine W.eq (g2 := F0 m 65 ls [.int x9, .int x2, .ref (ad 1)]) (by subst eE10; subst eE8; subst eE5; rfl) ?_
  refine lv_iadd X.1 X.2.1 dX4_expect_65 ?_
  refine lv_topi (fun x11 ex11 => ?_)
  refine pn_E X cn w 3 (by decide) rfl (by decide +kernel) (v := x11) kw_126 dX4_expect_66 (fun H locs w => ?_)
  obtain ⟨E12, eE12⟩ : ∃ G : Em, G = up1 E10 3 x11 := ⟨_, rfl⟩
  rw [← eE12] at w
  refine lv_aload X.1 X.2.1 dX4_expect_69 (lv_at hl 1 rfl) ?_
  refine gn_E X cn w 3 (by decide) (v := .int (E12 3)) rfl kw_126 dX4_expect_71 ?_
  refine W.eq (g2 := F0 m 74 ls [.int x11]) (by subst eE12; subst eE10; subst eE8; subst eE5; rfl) ?_
  refine lv_i2l X.1 X.2.1 dX4_expect_74 rfl ?_
  refine lv_aload_n X.1 X.2.1 dX4_expect_75 rfl (lv_at hl 4 rfl) ?_
  refine gn_R X cn w ho 3 (by decide) (v := .int (F o 3)) rfl kw_95 dX4_expect_76 ?_
  refine lv_i2l X.1 X.2.1 dX4_expect_79 rfl ?_
  refine lv_lmul X.1 X.2.1 dX4_expect_80 ?_
  refine lv_aload X.1 X.2.1 dX4_expect_81 (lv_at hl 1 rfl) ?_
  refine gn_E X cn w 0 (by decide) (v := .int (E12 0)) rfl kw_123 dX4_expect_83 ?_
  refine W.eq (g2 := F0 m 86 ls [.int x4, .long (((x11 : Int32).toInt64) * (((F o 3) : Int32).toInt64))]) (by subst eE12; subst eE10; subst eE8; subst eE5; rfl) ?_
  refine lv_i2l X.1 X.2.1 dX4_expect_86 rfl ?_
  refine lv_lmul X.1 X.2.1 dX4_expect_87 ?_
  refine lv_ldc2 (v := 1000) X.1 X.2.1 X.2.2.2.1 (X.2.2.2.2 _ kw_340) dX4_expect_88 ?_
  refine lv_ldiv X.1 X.2.1 dX4_expect_91 (by decide) ?_
  refine lv_topl (fun x13 ex13 => ?_)
  refine lv_lstore (lv' := [(6, .long x13), (5, .int x2), (4, .ref (ad 1)), (0, .ref (ad 0)), (1, .ref (ad (17 + j))), (2, .ref (ad o)), (3, .int i)]) X.1 X.2.1 dX4_expect_92 hl (by decide) rfl (fun ls hl => ?_)
  refine lv_aload X.1 X.2.1 dX4_expect_94 (lv_at hl 2 rfl) ?_
  refine lv_aload X.1 X.2.1 dX4_expect_96 (lv_at hl 2 rfl) ?_
  refine gn_E X cn w 1 (by decide) (v := .int (E12 1)) rfl kw_124 dX4_expect_98 ?_
  refine W.eq (g2 := F0 m 101 ls [.int x7, .ref (ad 1)]) (by subst eE12; subst eE10; subst eE8; subst eE5; rfl) ?_
  refine lv_aload_n X.1 X.2.1 dX4_expect_101 rfl (lv_at hl 5 rfl) ?_
  refine gn_R X cn w ho 2 (by decide) (v := .int (F o 2)) rfl kw_93 dX4_expect_102 ?_
  refine lv_aload X.1 X.2.1 dX4_expect_105 (lv_at hl 2 rfl) ?_
  refine gn_E X cn w 0 (by decide) (v := .int (E12 0)) rfl kw_123 dX4_expect_107 ?_
  refine W.eq (g2 := F0 m 110 ls [.int x4, .int (F o 2), .int x7, .ref (ad 1)]) (by subst eE12; subst eE10; subst eE8; subst eE5; rfl) ?_
  refine lv_imul X.1 X.2.1 dX4_expect_110 ?_
  refine lv_iadd X.1 X.2.1 dX4_expect_111 ?_
  refine lv_lload X.1 X.2.1 dX4_expect_112 (lv_at hl 0 rfl) ?_
  refine lv_l2i X.1 X.2.1 dX4_expect_114 rfl ?_
  refine lv_iadd X.1 X.2.1 dX4_expect_115 ?_
  refine lv_topi (fun x14 ex14 => ?_)
  refine pn_E X cn w 4 (by decide) rfl (by decide +kernel) (v := x14) kw_127 dX4_expect_116 (fun H locs w => ?_)
  obtain ⟨E15, eE15⟩ : ∃ G : Em, G = up1 E12 4 x14 := ⟨_, rfl⟩
  rw [← eE15] at w
  refine lv_aload X.1 X.2.1 dX4_expect_119 (lv_at hl 2 rfl) ?_
  refine lv_aload X.1 X.2.1 dX4_expect_121 (lv_at hl 2 rfl) ?_
  refine gn_E X cn w 4 (by decide) (v := .int (E15 4)) rfl kw_127 dX4_expect_123 ?_
  refine W.eq (g2 := F0 m 126 ls [.int x14, .ref (ad 1)]) (by subst eE15; subst eE12; subst eE10; subst eE8; subst eE5; rfl) ?_
  refine lv_aload_n X.1 X.2.1 dX4_expect_126 rfl (lv_at hl 3 rfl) ?_
  refine g_L X w 5 (by decide) (v := .int (F 0 5)) rfl kw_150 dX4_expect_127 ?_
  refine lv_imul X.1 X.2.1 dX4_expect_130 ?_
  refine lv_aload_n X.1 X.2.1 dX4_expect_131 rfl (lv_at hl 4 rfl) ?_
  refine w_calli cn w (w_runVN (n := 0) (As := []) X cn w (Nat.add_lt_add_left hj 17) wC_J rfl (fun sz => c_X1_moneyOfInks l D ca ad E15 F L S n j hj sz) kw_341 kw_343 kw_12 kw_42 kw_344 rfl rfl (by decide +kernel) ⟨(Nat.le_of_ble_eq_true rfl), (Nat.le_of_ble_eq_true rfl)⟩ rfl hl.1 rfl (Nat.le_of_ble_eq_true rfl) dX4_expect_132 ⟨(Nat.le_of_ble_eq_true rfl), (Nat.le_of_ble_eq_true rfl)⟩) (fun r16 u H locs hp w => ?_)
  obtain ⟨rfl, rfl⟩ := hp
  refine lv_iadd X.1 X.2.1 dX4_expect_135 ?_
  refine lv_aload X.1 X.2.1 dX4_expect_136 (lv_at hl 2 rfl) ?_
  refine gn_E X cn w 3 (by decide) (v := .int (E15 3)) rfl kw_126 dX4_expect_138 ?_
  refine W.eq (g2 := F0 m 141 ls [.int x11, .int ((x14 * (F 0 5)) + (s_ink F j)), .ref (ad 1)]) (by subst eE15; subst eE12; subst eE10; subst eE8; subst eE5; rfl) ?_
  refine lv_aload_n X.1 X.2.1 dX4_expect_141 rfl (lv_at hl 4 rfl) ?_
  refine gn_J X cn w hj 2 (by decide) (v := .ref (ad (2 + S j))) rfl kw_468 dX4_expect_142 ?_
  refine gn_P X cn w (pap_ok (hs _ hj)) 2 (by decide) (v := .int (F (2 + S j) 2)) rfl kw_66 dX4_expect_145 ?_
  refine lv_imul X.1 X.2.1 dX4_expect_148 ?_
  refine lv_iadd X.1 X.2.1 dX4_expect_149 ?_
  refine lv_topi (fun x17 ex17 => ?_)
  refine pn_E X cn w 5 (by decide) rfl (by decide +kernel) (v := x17) kw_128 dX4_expect_150 (fun H locs w => ?_)
  obtain ⟨E18, eE18⟩ : ∃ G : Em, G = up1 E15 5 x17 := ⟨_, rfl⟩
  rw [← eE18] at w
  refine lv_aload X.1 X.2.1 dX4_expect_153 (lv_at hl 2 rfl) ?_
  refine lv_aload X.1 X.2.1 dX4_expect_155 (lv_at hl 2 rfl) ?_
  refine gn_E X cn w 5 (by decide) (v := .int (E18 5)) rfl kw_128 dX4_expect_157 ?_
  refine W.eq (g2 := F0 m 160 ls [.int x17, .ref (ad 1)]) (by subst eE18; subst eE15; subst eE12; subst eE10; subst eE8; subst eE5; rfl) ?_
  refine lv_i2l X.1 X.2.1 dX4_expect_160 rfl ?_
  refine lv_bipush (v := 100) X.1 X.2.1 dX4_expect_161 (by decide) ?_
  refine lv_aload_n X.1 X.2.1 dX4_expect_163 rfl (lv_at hl 3 rfl) ?_
  refine g_L X w 6 (by decide) (v := .int (F 0 6)) rfl kw_151 dX4_expect_164 ?_
  refine lv_iadd X.1 X.2.1 dX4_expect_167 ?_
  refine lv_i2l X.1 X.2.1 dX4_expect_168 rfl ?_
  refine lv_lmul X.1 X.2.1 dX4_expect_169 ?_
  refine lv_ldc2 (v := 100) X.1 X.2.1 X.2.2.2.1 (X.2.2.2.2 _ kw_346) dX4_expect_170 ?_
  refine lv_ldiv X.1 X.2.1 dX4_expect_173 (by decide) ?_
  refine lv_l2i X.1 X.2.1 dX4_expect_174 rfl ?_
  refine lv_topi (fun x19 ex19 => ?_)
  refine pn_E X cn w 6 (by decide) rfl (by decide +kernel) (v := x19) kw_129 dX4_expect_175 (fun H locs w => ?_)
  obtain ⟨E20, eE20⟩ : ∃ G : Em, G = up1 E18 6 x19 := ⟨_, rfl⟩
  rw [← eE20] at w
  refine lv_aload X.1 X.2.1 dX4_expect_178 (lv_at hl 2 rfl) ?_
  exact w_aret (r := (some (ad 1))) X hr hlk w (by subst eE20; subst ex19; subst eE18; subst ex17; subst eE15; subst ex14; subst ex13; subst eE12; subst ex11; subst eE10; subst ex9; subst eE8; subst ex7; subst eE5; subst ex4; subst ex2; exact ⟨rfl, rfl⟩) dX4_expect_180 (Nat.le_of_ble_eq_true rfl) (Nat.le_of_ble_eq_true rfl)

def s_learn (F : Fm) (o j : Nat) (mi sp tk : Int32) : Fm :=
  up2 (up2 (if mi - s_change F j (F o 1) - F o 2 * s_passes F o j < 0 then up2 F o 2 (s_rate ((3 * F o 2 + s_div (mx (mi - s_change F j (F o 1)) 0) (s_passes F o j)) / 4)) else up2 F o 3 (s_rate ((3 * F o 3 + s_div ((mi - s_change F j (F o 1) - F o 2 * s_passes F o j) * 1000) (tk * s_passes F o j)) / 4)))
    o 4 (mn ((3 * F o 4 + s_div (sp * 1000) tk) / 4) 999)) o 1 (F (17 + j) 4)

set_option maxHeartbeats 4000000 in
set_option maxRecDepth 100000 in
theorem c_X3_learn (l : Launch) (D : va_G) (ca : Nat → ClassId) (ad : Nat → Nat) (E : Em) (F : Fm) (L : Lm) (S : Sm) (n : Nat) (o : Nat) (ho : 6 ≤ o ∧ o < 10) (j : Nat) (hj : j < n) (mi sp tk : Int32) (sz : Nat) : Met l yX3_learn (.code yX3_learn cX3_learn 8 none :: BG) { frames := 2, cells := 0, slots := 0, locals := 42 } (Pw D ca ad (E, F, L, S, n) sz [.ref (ad o), .ref (ad (17 + j)), .int mi, .int sp, .int tk]) (Qv D ca ad n (fun u => u = (E, s_learn F o j mi sp tk, L, S, n)) sz) 0 0 (wA ad n sz) := by
  refine open_W (σ := (E, F, L, S, n)) (Qc := Qv D ca ad n (fun u => u = (E, s_learn F o j mi sp tk, L, S, n))) (by decide +kernel) (Nat.le_of_ble_eq_true rfl) ?_
  intro p e s m args below meth c X hr hlk w cn ls hl
  have hl : lv_has ls 8 [(0, .ref (ad o)), (1, .ref (ad (17 + j))), (2, .int mi), (3, .int sp), (4, .int tk)] := hl
  refine lv_aload_n X.1 X.2.1 dX3_learn_0 rfl (lv_at hl 0 rfl) ?_
  refine lv_aload_n X.1 X.2.1 dX3_learn_1 rfl (lv_at hl 1 rfl) ?_
  refine w_calli cn w (w_runV (n := 1) (As := [.ref (ad (17 + j))]) X cn w (lt17 (by have := ho; omega)) (wC_R (ho).1 (ho).2) rfl (fun sz => c_X3_passesOf l D ca ad E F L S n o ho j hj sz) (bg_V kw_622 kw_327 kw_11 kw_33 kw_328) rfl rfl (by decide +kernel) ⟨(Nat.le_of_ble_eq_true rfl), (Nat.le_of_ble_eq_true rfl)⟩ rfl hl.1 rfl (Nat.le_of_ble_eq_true rfl) dX3_learn_2 ⟨(Nat.le_of_ble_eq_true rfl), (Nat.le_of_ble_eq_true rfl)⟩) (fun r1 u H locs hp w => ?_)
  obtain ⟨rfl, rfl⟩ := hp
  refine lv_topi (fun x2 ex2 => ?_)
  refine lv_istore (lv' := [(5, .int x2), (0, .ref (ad o)), (1, .ref (ad (17 + j))), (2, .int mi), (3, .int sp), (4, .int tk)]) X.1 X.2.1 dX3_learn_5 hl (by decide) rfl (fun ls hl => ?_)
  refine lv_iload_n X.1 X.2.1 dX3_learn_7 rfl (lv_at hl 3 rfl) ?_
  refine lv_aload_n X.1 X.2.1 dX3_learn_8 rfl (lv_at hl 2 rfl) ?_
  refine lv_aload_n X.1 X.2.1 dX3_learn_9 rfl (lv_at hl 1 rfl) ?_
  refine g_R X w ho 1 (by decide) (v := .int (F o 1)) rfl kw_90 dX3_learn_10 ?_
  refine w_calli cn w (w_runSN (n := 2) (As := [.ref (ad (17 + j)), .int (F o 1)]) X cn w (fun sz => c_X4_changeOf l D ca ad E F L S n j hj (F o 1) sz) kw_587 kw_337 kw_31 kw_338 rfl rfl (by decide +kernel) ⟨(Nat.le_of_ble_eq_true rfl), (Nat.le_of_ble_eq_true rfl)⟩ rfl hl.1 rfl (Nat.le_of_ble_eq_true rfl) dX3_learn_13 ⟨(Nat.le_of_ble_eq_true rfl), (Nat.le_of_ble_eq_true rfl)⟩) (fun r3 u H locs hp w => ?_)
  obtain ⟨rfl, rfl⟩ := hp
  refine lv_isub X.1 X.2.1 dX3_learn_16 ?_
  refine lv_topi (fun x4 ex4 => ?_)
  refine lv_istore (lv' := [(6, .int x4), (5, .int x2), (0, .ref (ad o)), (1, .ref (ad (17 + j))), (2, .int mi), (3, .int sp), (4, .int tk)]) X.1 X.2.1 dX3_learn_17 hl (by decide) rfl (fun ls hl => ?_)
  refine lv_iload X.1 X.2.1 dX3_learn_19 (lv_at hl 0 rfl) ?_
  refine lv_aload_n X.1 X.2.1 dX3_learn_21 rfl (lv_at hl 2 rfl) ?_
  refine g_R X w ho 2 (by decide) (v := .int (F o 2)) rfl kw_92 dX3_learn_22 ?_
  refine lv_iload X.1 X.2.1 dX3_learn_25 (lv_at hl 1 rfl) ?_
  refine lv_imul X.1 X.2.1 dX3_learn_27 ?_
  refine lv_isub X.1 X.2.1 dX3_learn_28 ?_
  refine lv_topi (fun x5 ex5 => ?_)
  refine lv_istore (lv' := [(7, .int x5), (6, .int x4), (5, .int x2), (0, .ref (ad o)), (1, .ref (ad (17 + j))), (2, .int mi), (3, .int sp), (4, .int tk)]) X.1 X.2.1 dX3_learn_29 hl (by decide) rfl (fun ls hl => ?_)
  refine lv_iload X.1 X.2.1 dX3_learn_31 (lv_at hl 0 rfl) ?_
  refine lv_if_lt (tgt := 69) X.1 X.2.1 dX3_learn_33 (by decide) (fun c6 => ?_) (fun c6 => ?_)
  ·
    refine lv_aload_n X.1 X.2.1 dX3_learn_69 rfl (lv_at hl 3 rfl) ?_
    refine lv_iconst (v := 3) X.1 X.2.1 dX3_learn_70 (by decide) ?_
    refine lv_aload_n X.1 X.2.1 dX3_learn_71 rfl (lv_at hl 3 rfl) ?_
    refine g_R X w ho 2 (by decide) (v := .int (F o 2)) rfl kw_92 dX3_learn_72 ?_
    refine lv_imul X.1 X.2.1 dX3_learn_75 ?_
    refine lv_iload X.1 X.2.1 dX3_learn_76 (lv_at hl 1 rfl) ?_
    refine lv_iconst (v := 0) X.1 X.2.1 dX3_learn_78 (by decide) ?_
    refine n_max X hl.1 (X.2.2.2.2 _ kw_628) (Nat.le_of_ble_eq_true rfl) (Nat.le_of_ble_eq_true rfl) (Nat.le_of_ble_eq_true rfl) (Nat.le_of_ble_eq_true rfl) dX3_learn_79 ?_
    refine lv_iload X.1 X.2.1 dX3_learn_82 (lv_at hl 2 rfl) ?_
    refine n_calli w (n_runN (n := 2) (As := [.int (mx x4 0), .int x2]) X cn (c_X4_divide l (mx x4 0) x2) kw_623 kw_440 kw_31 kw_441 rfl rfl (by decide +kernel) ⟨(Nat.le_of_ble_eq_true rfl), (Nat.le_of_ble_eq_true rfl)⟩ rfl hl.1 rfl (Nat.le_of_ble_eq_true rfl) dX3_learn_84 ⟨(Nat.le_of_ble_eq_true rfl), (Nat.le_of_ble_eq_true rfl)⟩) (fun H locs w => ?_)
    refine lv_iadd X.1 X.2.1 dX3_learn_87 ?_
    refine lv_iconst (v := 4) X.1 X.2.1 dX3_learn_88 (by decide) ?_
    refine lv_idiv X.1 X.2.1 dX3_learn_89 (by decide) ?_
    refine n_calli w (n_runS (n := 1) (As := [.int (((3 * (F o 2)) + (s_div (mx x4 0) x2)) / 4)]) X (c_X3_rateOf l (((3 * (F o 2)) + (s_div (mx x4 0) x2)) / 4)) (bg_S kw_624 kw_625 kw_33 kw_626) rfl rfl (by decide +kernel) ⟨(Nat.le_of_ble_eq_true rfl), (Nat.le_of_ble_eq_true rfl)⟩ rfl hl.1 rfl (Nat.le_of_ble_eq_true rfl) dX3_learn_90 ⟨(Nat.le_of_ble_eq_true rfl), (Nat.le_of_ble_eq_true rfl)⟩) (fun H locs w => ?_)
    refine p_R X w ho 2 (by decide) rfl (by decide +kernel) (v := (s_rate (((3 * (F o 2)) + (s_div (mx x4 0) x2)) / 4))) kw_92 dX3_learn_93 (fun H locs w => ?_)
    obtain ⟨F7, eF7⟩ : ∃ G : Fm, G = up2 F o 2 (s_rate (((3 * (F o 2)) + (s_div (mx x4 0) x2)) / 4)) := ⟨_, rfl⟩
    rw [← eF7] at w
    refine lv_aload_n X.1 X.2.1 dX3_learn_96 rfl (lv_at hl 3 rfl) ?_
    refine lv_iconst (v := 3) X.1 X.2.1 dX3_learn_97 (by decide) ?_
    refine lv_aload_n X.1 X.2.1 dX3_learn_98 rfl (lv_at hl 3 rfl) ?_
    refine g_R X w ho 4 (by decide) (v := .int (F7 o 4)) rfl kw_96 dX3_learn_99 ?_
    refine lv_imul X.1 X.2.1 dX3_learn_102 ?_
    refine lv_iload_n X.1 X.2.1 dX3_learn_103 rfl (lv_at hl 6 rfl) ?_
    refine lv_sipush (v := 1000) X.1 X.2.1 dX3_learn_104 (by decide) ?_
    refine lv_imul X.1 X.2.1 dX3_learn_107 ?_
    refine lv_iload X.1 X.2.1 dX3_learn_108 (lv_at hl 7 rfl) ?_
    refine n_calli w (n_runN (n := 2) (As := [.int (sp * 1000), .int tk]) X cn (c_X4_divide l (sp * 1000) tk) kw_623 kw_440 kw_31 kw_441 rfl rfl (by decide +kernel) ⟨(Nat.le_of_ble_eq_true rfl), (Nat.le_of_ble_eq_true rfl)⟩ rfl hl.1 rfl (Nat.le_of_ble_eq_true rfl) dX3_learn_110 ⟨(Nat.le_of_ble_eq_true rfl), (Nat.le_of_ble_eq_true rfl)⟩) (fun H locs w => ?_)
    refine lv_iadd X.1 X.2.1 dX3_learn_113 ?_
    refine lv_iconst (v := 4) X.1 X.2.1 dX3_learn_114 (by decide) ?_
    refine lv_idiv X.1 X.2.1 dX3_learn_115 (by decide) ?_
    refine lv_sipush (v := 999) X.1 X.2.1 dX3_learn_116 (by decide) ?_
    refine n_min X hl.1 (X.2.2.2.2 _ kw_627) (Nat.le_of_ble_eq_true rfl) (Nat.le_of_ble_eq_true rfl) (Nat.le_of_ble_eq_true rfl) (Nat.le_of_ble_eq_true rfl) dX3_learn_119 ?_
    refine p_R X w ho 4 (by decide) rfl (by decide +kernel) (v := (mn (((3 * (F7 o 4)) + (s_div (sp * 1000) tk)) / 4) 999)) kw_96 dX3_learn_122 (fun H locs w => ?_)
    obtain ⟨F8, eF8⟩ : ∃ G : Fm, G = up2 F7 o 4 (mn (((3 * (F7 o 4)) + (s_div (sp * 1000) tk)) / 4) 999) := ⟨_, rfl⟩
    rw [← eF8] at w
    refine lv_aload_n X.1 X.2.1 dX3_learn_125 rfl (lv_at hl 3 rfl) ?_
    refine lv_aload_n X.1 X.2.1 dX3_learn_126 rfl (lv_at hl 4 rfl) ?_
    refine gn_J X cn w hj 4 (by decide) (v := .int (F8 (17 + j) 4)) rfl kw_472 dX3_learn_127 ?_
    refine p_R X w ho 1 (by decide) rfl (by decide +kernel) (v := (F8 (17 + j) 4)) kw_90 dX3_learn_130 (fun H locs w => ?_)
    obtain ⟨F9, eF9⟩ : ∃ G : Fm, G = up2 F8 o 1 (F8 (17 + j) 4) := ⟨_, rfl⟩
    rw [← eF9] at w
    exact w_vret X hr hlk w (by subst eF9; subst eF8; subst eF7; subst ex5; subst ex4; subst ex2; have hne : ¬ 17 + j = o := (by omega); simp only [s_learn, c6, if_true, if_false]; simp [up2, hne]) dX3_learn_133 (Nat.le_of_ble_eq_true rfl) (Nat.le_of_ble_eq_true rfl)
  ·
    refine lv_aload_n X.1 X.2.1 dX3_learn_36 rfl (lv_at hl 3 rfl) ?_
    refine lv_iconst (v := 3) X.1 X.2.1 dX3_learn_37 (by decide) ?_
    refine lv_aload_n X.1 X.2.1 dX3_learn_38 rfl (lv_at hl 3 rfl) ?_
    refine g_R X w ho 3 (by decide) (v := .int (F o 3)) rfl kw_94 dX3_learn_39 ?_
    refine lv_imul X.1 X.2.1 dX3_learn_42 ?_
    refine lv_iload X.1 X.2.1 dX3_learn_43 (lv_at hl 0 rfl) ?_
    refine lv_sipush (v := 1000) X.1 X.2.1 dX3_learn_45 (by decide) ?_
    refine lv_imul X.1 X.2.1 dX3_learn_48 ?_
    refine lv_iload X.1 X.2.1 dX3_learn_49 (lv_at hl 7 rfl) ?_
    refine lv_iload X.1 X.2.1 dX3_learn_51 (lv_at hl 2 rfl) ?_
    refine lv_imul X.1 X.2.1 dX3_learn_53 ?_
    refine n_calli w (n_runN (n := 2) (As := [.int (x5 * 1000), .int (tk * x2)]) X cn (c_X4_divide l (x5 * 1000) (tk * x2)) kw_623 kw_440 kw_31 kw_441 rfl rfl (by decide +kernel) ⟨(Nat.le_of_ble_eq_true rfl), (Nat.le_of_ble_eq_true rfl)⟩ rfl hl.1 rfl (Nat.le_of_ble_eq_true rfl) dX3_learn_54 ⟨(Nat.le_of_ble_eq_true rfl), (Nat.le_of_ble_eq_true rfl)⟩) (fun H locs w => ?_)
    refine lv_iadd X.1 X.2.1 dX3_learn_57 ?_
    refine lv_iconst (v := 4) X.1 X.2.1 dX3_learn_58 (by decide) ?_
    refine lv_idiv X.1 X.2.1 dX3_learn_59 (by decide) ?_
    refine n_calli w (n_runS (n := 1) (As := [.int (((3 * (F o 3)) + (s_div (x5 * 1000) (tk * x2))) / 4)]) X (c_X3_rateOf l (((3 * (F o 3)) + (s_div (x5 * 1000) (tk * x2))) / 4)) (bg_S kw_624 kw_625 kw_33 kw_626) rfl rfl (by decide +kernel) ⟨(Nat.le_of_ble_eq_true rfl), (Nat.le_of_ble_eq_true rfl)⟩ rfl hl.1 rfl (Nat.le_of_ble_eq_true rfl) dX3_learn_60 ⟨(Nat.le_of_ble_eq_true rfl), (Nat.le_of_ble_eq_true rfl)⟩) (fun H locs w => ?_)
    refine p_R X w ho 3 (by decide) rfl (by decide +kernel) (v := (s_rate (((3 * (F o 3)) + (s_div (x5 * 1000) (tk * x2))) / 4))) kw_94 dX3_learn_63 (fun H locs w => ?_)
    obtain ⟨F10, eF10⟩ : ∃ G : Fm, G = up2 F o 3 (s_rate (((3 * (F o 3)) + (s_div (x5 * 1000) (tk * x2))) / 4)) := ⟨_, rfl⟩
    rw [← eF10] at w
    refine lv_goto (tgt := 96) X.1 X.2.1 dX3_learn_66 (by decide) ?_
    refine lv_aload_n X.1 X.2.1 dX3_learn_96 rfl (lv_at hl 3 rfl) ?_
    refine lv_iconst (v := 3) X.1 X.2.1 dX3_learn_97 (by decide) ?_
    refine lv_aload_n X.1 X.2.1 dX3_learn_98 rfl (lv_at hl 3 rfl) ?_
    refine g_R X w ho 4 (by decide) (v := .int (F10 o 4)) rfl kw_96 dX3_learn_99 ?_
    refine lv_imul X.1 X.2.1 dX3_learn_102 ?_
    refine lv_iload_n X.1 X.2.1 dX3_learn_103 rfl (lv_at hl 6 rfl) ?_
    refine lv_sipush (v := 1000) X.1 X.2.1 dX3_learn_104 (by decide) ?_
    refine lv_imul X.1 X.2.1 dX3_learn_107 ?_
    refine lv_iload X.1 X.2.1 dX3_learn_108 (lv_at hl 7 rfl) ?_
    refine n_calli w (n_runN (n := 2) (As := [.int (sp * 1000), .int tk]) X cn (c_X4_divide l (sp * 1000) tk) kw_623 kw_440 kw_31 kw_441 rfl rfl (by decide +kernel) ⟨(Nat.le_of_ble_eq_true rfl), (Nat.le_of_ble_eq_true rfl)⟩ rfl hl.1 rfl (Nat.le_of_ble_eq_true rfl) dX3_learn_110 ⟨(Nat.le_of_ble_eq_true rfl), (Nat.le_of_ble_eq_true rfl)⟩) (fun H locs w => ?_)
    refine lv_iadd X.1 X.2.1 dX3_learn_113 ?_
    refine lv_iconst (v := 4) X.1 X.2.1 dX3_learn_114 (by decide) ?_
    refine lv_idiv X.1 X.2.1 dX3_learn_115 (by decide) ?_
    refine lv_sipush (v := 999) X.1 X.2.1 dX3_learn_116 (by decide) ?_
    refine n_min X hl.1 (X.2.2.2.2 _ kw_627) (Nat.le_of_ble_eq_true rfl) (Nat.le_of_ble_eq_true rfl) (Nat.le_of_ble_eq_true rfl) (Nat.le_of_ble_eq_true rfl) dX3_learn_119 ?_
    refine p_R X w ho 4 (by decide) rfl (by decide +kernel) (v := (mn (((3 * (F10 o 4)) + (s_div (sp * 1000) tk)) / 4) 999)) kw_96 dX3_learn_122 (fun H locs w => ?_)
    obtain ⟨F11, eF11⟩ : ∃ G : Fm, G = up2 F10 o 4 (mn (((3 * (F10 o 4)) + (s_div (sp * 1000) tk)) / 4) 999) := ⟨_, rfl⟩
    rw [← eF11] at w
    refine lv_aload_n X.1 X.2.1 dX3_learn_125 rfl (lv_at hl 3 rfl) ?_
    refine lv_aload_n X.1 X.2.1 dX3_learn_126 rfl (lv_at hl 4 rfl) ?_
    refine gn_J X cn w hj 4 (by decide) (v := .int (F11 (17 + j) 4)) rfl kw_472 dX3_learn_127 ?_
    refine p_R X w ho 1 (by decide) rfl (by decide +kernel) (v := (F11 (17 + j) 4)) kw_90 dX3_learn_130 (fun H locs w => ?_)
    obtain ⟨F12, eF12⟩ : ∃ G : Fm, G = up2 F11 o 1 (F11 (17 + j) 4) := ⟨_, rfl⟩
    rw [← eF12] at w
    exact w_vret X hr hlk w (by subst eF12; subst eF11; subst eF10; subst ex5; subst ex4; subst ex2; have hne : ¬ 17 + j = o := (by omega); simp only [s_learn, c6, if_true, if_false]; simp [up2, hne]) dX3_learn_133 (Nat.le_of_ble_eq_true rfl) (Nat.le_of_ble_eq_true rfl)

set_option maxHeartbeats 4000000 in
set_option maxRecDepth 100000 in
theorem c_X4_bring (l : Launch) (D : va_G) (ca : Nat → ClassId) (ad : Nat → Nat) (E : Em) (F : Fm) (L : Lm) (S : Sm) (n : Nat) (t : Nat) (ht : 2 ≤ t ∧ t < 6) (lots : Int32) (sz : Nat) : Met l yX4_bring (.code yX4_bring cX4_bring 4 none :: BG) { frames := 0, cells := 0, slots := 0, locals := 0 } (Pw D ca ad (E, F, L, S, n) sz [.ref (ad 0), .ref (ad t), .int lots]) (Qv D ca ad n (fun u => u = (E, s_bring F t lots, L, S, n)) sz) 0 0 (wA ad n sz) := by
  refine open_W (σ := (E, F, L, S, n)) (Qc := Qv D ca ad n (fun u => u = (E, s_bring F t lots, L, S, n))) (by decide +kernel) (Nat.le_of_ble_eq_true rfl) ?_
  intro p e s m args below meth c X hr hlk w cn ls hl
  have hl : lv_has ls 4 [(0, .ref (ad 0)), (1, .ref (ad t)), (2, .int lots)] := hl
  refine lv_iload_n X.1 X.2.1 dX4_bring_0 rfl (lv_at hl 2 rfl) ?_
  refine lv_sipush (v := 250) X.1 X.2.1 dX4_bring_1 (by decide) ?_
  refine lv_imul X.1 X.2.1 dX4_bring_4 ?_
  refine lv_topi (fun x1 ex1 => ?_)
  refine lv_istore_n (lv' := [(3, .int x1), (0, .ref (ad 0)), (1, .ref (ad t)), (2, .int lots)]) X.1 X.2.1 dX4_bring_5 rfl hl (by decide) rfl (fun ls hl => ?_)
  refine lv_aload_n X.1 X.2.1 dX4_bring_6 rfl (lv_at hl 2 rfl) ?_
  refine lv_dup X.1 X.2.1 dX4_bring_7 rfl ?_
  refine gn_P X cn w ht 3 (by decide) (v := .int (F t 3)) rfl kw_68 dX4_bring_8 ?_
  refine lv_iload_n X.1 X.2.1 dX4_bring_11 rfl (lv_at hl 0 rfl) ?_
  refine lv_iadd X.1 X.2.1 dX4_bring_12 ?_
  refine pn_P X cn w ht 3 (by decide) rfl (by decide +kernel) (v := ((F t 3) + x1)) kw_68 dX4_bring_13 (fun H locs w => ?_)
  obtain ⟨F2, eF2⟩ : ∃ G : Fm, G = up2 F t 3 ((F t 3) + x1) := ⟨_, rfl⟩
  rw [← eF2] at w
  refine lv_aload_n X.1 X.2.1 dX4_bring_16 rfl (lv_at hl 1 rfl) ?_
  refine lv_dup X.1 X.2.1 dX4_bring_17 rfl ?_
  refine g_L X w 4 (by decide) (v := .int (F2 0 4)) rfl kw_149 dX4_bring_18 ?_
  refine lv_iload_n X.1 X.2.1 dX4_bring_21 rfl (lv_at hl 0 rfl) ?_
  refine lv_aload_n X.1 X.2.1 dX4_bring_22 rfl (lv_at hl 2 rfl) ?_
  refine gn_P X cn w ht 2 (by decide) (v := .int (F2 t 2)) rfl kw_66 dX4_bring_23 ?_
  refine lv_imul X.1 X.2.1 dX4_bring_26 ?_
  refine lv_isub X.1 X.2.1 dX4_bring_27 ?_
  refine p_L X w 4 (by decide) rfl (by decide +kernel) (v := ((F2 0 4) - (x1 * (F2 t 2)))) kw_149 dX4_bring_28 (fun H locs w => ?_)
  obtain ⟨F3, eF3⟩ : ∃ G : Fm, G = up2 F2 0 4 ((F2 0 4) - (x1 * (F2 t 2))) := ⟨_, rfl⟩
  rw [← eF3] at w
  exact w_vret X hr hlk w (by subst eF3; subst eF2; subst ex1; exact rfl) dX4_bring_31 (Nat.le_of_ble_eq_true rfl) (Nat.le_of_ble_eq_true rfl)

set_option maxHeartbeats 4000000 in
set_option maxRecDepth 100000 in
theorem lp_X4_jobsThatAre {p : Program} {l : Launch} {e : Env} {s : State} {m : MethodId} {args : Array Value} {below : List Frame} {meth : Method} {c : Code} {D : va_G} {ca : Nat → ClassId} {ad : Nat → Nat} {F : Fm} {L : Lm} {S : Sm} {n : Nat} (X : CallFix p m c cX4_jobsThatAre 5 s args BG yX4_jobsThatAre.cls) (hr : meth.sig.returnType = (some .int)) (hlk : meth.locks = false) (cn : Cn (wA ad n s.heap.size) s) (hJ : L 16 = aJb n) (sv : Int32) :
    ∀ (d : Nat) (k : Nat) (a : Int32), k + d = 20 → ∀ (E : Em) (H : Heap) (locs : List Loc), Wd D ca ad (wA ad n s.heap.size) s H locs (E, F, L, S, n) → ∀ (ls : Array Slot), lv_has ls 5 [(3, .int (nI k)), (2, .int a), (0, .ref (ad 0)), (1, .int sv)] →
      W p l e { frames := 0, cells := 0, slots := 0, locals := 0 } s m args below meth c H locs 0 0 (MQ below (Qi D ca ad n (fun r u => r = s_cnt F n sv d k a ∧ u.2 = (F, L, S, n)) s.heap.size) args s 0 0 (wA ad n s.heap.size)) (F0 m 4 ls []) := by
  intro d
  induction d with
  | zero =>
    intro k a hkd E H locs w ls hl
    refine lv_iload_n X.1 X.2.1 dX4_jobsThatAre_4 rfl (lv_at hl 0 rfl) ?_
    refine lv_aload_n X.1 X.2.1 dX4_jobsThatAre_5 rfl (lv_at hl 2 rfl) ?_
    refine g_L X w 2 (by decide) (v := .ref (ad 16)) rfl kw_147 dX4_jobsThatAre_6 ?_
    refine len_J X w dX4_jobsThatAre_9 ?_
    refine lv_icmp_ge (tgt := 44) X.1 X.2.1 dX4_jobsThatAre_10 (by decide) (fun c1 => ?_) (fun c1 => ?_)
    ·
      refine lv_iload_n X.1 X.2.1 dX4_jobsThatAre_44 rfl (lv_at hl 1 rfl) ?_
      exact w_iret X hr hlk w (by  exact ⟨rfl, rfl⟩) dX4_jobsThatAre_45 rfl (Nat.le_of_ble_eq_true rfl) (Nat.le_of_ble_eq_true rfl)
    ·
      exact absurd ((ge20 hkd).mpr rfl) c1
  | succ d ih =>
    intro k a hkd E H locs w ls hl
    refine lv_iload_n X.1 X.2.1 dX4_jobsThatAre_4 rfl (lv_at hl 0 rfl) ?_
    refine lv_aload_n X.1 X.2.1 dX4_jobsThatAre_5 rfl (lv_at hl 2 rfl) ?_
    refine g_L X w 2 (by decide) (v := .ref (ad 16)) rfl kw_147 dX4_jobsThatAre_6 ?_
    refine len_J X w dX4_jobsThatAre_9 ?_
    refine lv_icmp_ge (tgt := 44) X.1 X.2.1 dX4_jobsThatAre_10 (by decide) (fun c1 => ?_) (fun c1 => ?_)
    ·
      exact absurd ((ge20 hkd).mp c1) (by omega)
    ·
      refine lv_aload_n X.1 X.2.1 dX4_jobsThatAre_13 rfl (lv_at hl 2 rfl) ?_
      refine g_L X w 2 (by decide) (v := .ref (ad 16)) rfl kw_147 dX4_jobsThatAre_14 ?_
      refine lv_iload_n X.1 X.2.1 dX4_jobsThatAre_17 rfl (lv_at hl 0 rfl) ?_
      refine ld_J X w (in20 hkd) dX4_jobsThatAre_18 ?_
      refine W.eq (g2 := F0 m 19 ls [va_rf ((L 16 k).map (fun j => ad (17 + j)))]) (by rw [cl_nI (by omega)]) ?_
      obtain hj2n | ⟨j2, hj2s⟩ : (L 16 k) = none ∨ ∃ j, (L 16 k) = some j := opt_or _
      ·
        refine W.eq (g2 := F0 m 19 ls [.null]) (by simp only [hj2n]; rfl) ?_
        refine lv_astoreN (lv' := [(4, .null), (3, .int (nI k)), (2, .int a), (0, .ref (ad 0)), (1, .int sv)]) X.1 X.2.1 dX4_jobsThatAre_19 hl (by decide) rfl (fun ls hl => ?_)
        refine lv_aloadN X.1 X.2.1 dX4_jobsThatAre_21 (lv_at hl 0 rfl) ?_
        refine lv_ifnullN (tgt := 38) X.1 X.2.1 dX4_jobsThatAre_23 (by decide) ?_
        refine lv_iinc (v := (nI (k + 1))) (lv' := [(3, .int (nI (k + 1))), (4, .null), (2, .int a), (0, .ref (ad 0)), (1, .int sv)]) X.1 X.2.1 dX4_jobsThatAre_38 hl (k := 1) rfl (nI_1 k) (by decide) rfl (fun ls hl => ?_)
        refine lv_goto (tgt := 4) X.1 X.2.1 dX4_jobsThatAre_41 (by decide) ?_
        have hz : s_cnt F n sv (d + 1) k a = s_cnt F n sv d (k + 1) a := by  simp [s_cnt, (Nat.not_lt.mpr (aJbL_no hJ hj2n))]
        rw [hz]
        exact ih (k + 1) a (by omega) E H locs w ls (lv_sub hl [0, 2, 3, 4] rfl)
      ·
        obtain ⟨ej, hkn⟩ := aJbL_eq hJ hj2s
        subst ej
        refine W.eq (g2 := F0 m 19 ls [.ref (ad (17 + k))]) (by simp only [hj2s]; rfl) ?_
        refine lv_astore (lv' := [(4, .ref (ad (17 + k))), (3, .int (nI k)), (2, .int a), (0, .ref (ad 0)), (1, .int sv)]) X.1 X.2.1 dX4_jobsThatAre_19 hl (by decide) rfl (fun ls hl => ?_)
        refine lv_aload X.1 X.2.1 dX4_jobsThatAre_21 (lv_at hl 0 rfl) ?_
        refine lv_ifnull X.1 X.2.1 dX4_jobsThatAre_23 ?_
        refine lv_aload X.1 X.2.1 dX4_jobsThatAre_26 (lv_at hl 0 rfl) ?_
        refine gn_J X cn w hkn 8 (by decide) (v := .int (F (17 + k) 8)) rfl kw_481 dX4_jobsThatAre_28 ?_
        refine lv_iload_n X.1 X.2.1 dX4_jobsThatAre_31 rfl (lv_at hl 4 rfl) ?_
        refine lv_icmp_ne (tgt := 38) X.1 X.2.1 dX4_jobsThatAre_32 (by decide) (fun c3 => ?_) (fun c3 => ?_)
        ·
          refine lv_iinc (v := (nI (k + 1))) (lv' := [(3, .int (nI (k + 1))), (4, .ref (ad (17 + k))), (2, .int a), (0, .ref (ad 0)), (1, .int sv)]) X.1 X.2.1 dX4_jobsThatAre_38 hl (k := 1) rfl (nI_1 k) (by decide) rfl (fun ls hl => ?_)
          refine lv_goto (tgt := 4) X.1 X.2.1 dX4_jobsThatAre_41 (by decide) ?_
          have hz : s_cnt F n sv (d + 1) k a = s_cnt F n sv d (k + 1) a := by  simp [s_cnt, hkn, c3]
          rw [hz]
          exact ih (k + 1) a (by omega) E H locs w ls (lv_sub hl [0, 2, 3, 4] rfl)
        ·
          obtain ⟨x4, ex4⟩ : ∃ y : Int32, y = a + 1 := ⟨_, rfl⟩
          refine lv_iinc (v := x4) (lv' := [(2, .int x4), (4, .ref (ad (17 + k))), (3, .int (nI k)), (0, .ref (ad 0)), (1, .int sv)]) X.1 X.2.1 dX4_jobsThatAre_35 hl (k := 2) rfl (by rw [ex4]; rfl) (by decide) rfl (fun ls hl => ?_)
          refine lv_iinc (v := (nI (k + 1))) (lv' := [(3, .int (nI (k + 1))), (2, .int x4), (4, .ref (ad (17 + k))), (0, .ref (ad 0)), (1, .int sv)]) X.1 X.2.1 dX4_jobsThatAre_38 hl (k := 2) rfl (nI_1 k) (by decide) rfl (fun ls hl => ?_)
          refine lv_goto (tgt := 4) X.1 X.2.1 dX4_jobsThatAre_41 (by decide) ?_
          have hz : s_cnt F n sv (d + 1) k a = s_cnt F n sv d (k + 1) x4 := by subst ex4; simp [s_cnt, hkn, c3]
          rw [hz]
          exact ih (k + 1) x4 (by omega) E H locs w ls (lv_sub hl [0, 1, 3, 4] rfl)

set_option maxHeartbeats 4000000 in
set_option maxRecDepth 100000 in
theorem c_X4_jobsThatAre (l : Launch) (D : va_G) (ca : Nat → ClassId) (ad : Nat → Nat) (E : Em) (F : Fm) (L : Lm) (S : Sm) (n : Nat) (hJ : L 16 = aJb n) (sv : Int32) (sz : Nat) : Met l yX4_jobsThatAre (.code yX4_jobsThatAre cX4_jobsThatAre 5 (some .int) :: BG) { frames := 0, cells := 0, slots := 0, locals := 0 } (Pw D ca ad (E, F, L, S, n) sz [.ref (ad 0), .int sv]) (Qi D ca ad n (fun r u => r = s_cnt F n sv 20 0 0 ∧ u.2 = (F, L, S, n)) sz) 0 0 (wA ad n sz) := by
  refine open_W (σ := (E, F, L, S, n)) (Qc := Qi D ca ad n (fun r u => r = s_cnt F n sv 20 0 0 ∧ u.2 = (F, L, S, n))) (by decide +kernel) (Nat.le_of_ble_eq_true rfl) ?_
  intro p e s m args below meth c X hr hlk w cn ls hl
  have hl : lv_has ls 5 [(0, .ref (ad 0)), (1, .int sv)] := hl
  refine lv_iconst (v := 0) X.1 X.2.1 dX4_jobsThatAre_0 (by decide) ?_
  refine lv_istore_n (lv' := [(2, .int 0), (0, .ref (ad 0)), (1, .int sv)]) X.1 X.2.1 dX4_jobsThatAre_1 rfl hl (by decide) rfl (fun ls hl => ?_)
  refine lv_iconst (v := 0) X.1 X.2.1 dX4_jobsThatAre_2 (by decide) ?_
  refine lv_istore_n (lv' := [(3, .int 0), (2, .int 0), (0, .ref (ad 0)), (1, .int sv)]) X.1 X.2.1 dX4_jobsThatAre_3 rfl hl (by decide) rfl (fun ls hl => ?_)
  exact lp_X4_jobsThatAre X hr hlk cn hJ sv 20 0 0 (by omega) E _ _ w ls (lv_sub hl [0, 1, 2, 3] rfl)

set_option maxHeartbeats 4000000 in
set_option maxRecDepth 100000 in
theorem lp_X4_moneyOfInvoices {p : Program} {l : Launch} {e : Env} {s : State} {m : MethodId} {args : Array Value} {below : List Frame} {meth : Method} {c : Code} {D : va_G} {ca : Nat → ClassId} {ad : Nat → Nat} {F : Fm} {L : Lm} {S : Sm} {n : Nat} (X : CallFix p m c cX4_moneyOfInvoices 4 s args BG yX4_moneyOfInvoices.cls) (hr : meth.sig.returnType = (some .int)) (hlk : meth.locks = false) (cn : Cn (wA ad n s.heap.size) s) (hJ : L 16 = aJb n) :
    ∀ (d : Nat) (k : Nat) (a : Int32), k + d = 20 → ∀ (E : Em) (H : Heap) (locs : List Loc), Wd D ca ad (wA ad n s.heap.size) s H locs (E, F, L, S, n) → ∀ (ls : Array Slot), lv_has ls 4 [(2, .int (nI k)), (1, .int a), (0, .ref (ad 0))] →
      W p l e { frames := 0, cells := 0, slots := 0, locals := 0 } s m args below meth c H locs 0 0 (MQ below (Qi D ca ad n (fun r u => r = s_sum F n 13 d k a ∧ u.2 = (F, L, S, n)) s.heap.size) args s 0 0 (wA ad n s.heap.size)) (F0 m 4 ls []) := by
  intro d
  induction d with
  | zero =>
    intro k a hkd E H locs w ls hl
    refine lv_iload_n X.1 X.2.1 dX4_moneyOfInvoices_4 rfl (lv_at hl 0 rfl) ?_
    refine lv_aload_n X.1 X.2.1 dX4_moneyOfInvoices_5 rfl (lv_at hl 2 rfl) ?_
    refine g_L X w 2 (by decide) (v := .ref (ad 16)) rfl kw_147 dX4_moneyOfInvoices_6 ?_
    refine len_J X w dX4_moneyOfInvoices_9 ?_
    refine lv_icmp_ge (tgt := 37) X.1 X.2.1 dX4_moneyOfInvoices_10 (by decide) (fun c1 => ?_) (fun c1 => ?_)
    ·
      refine lv_iload_n X.1 X.2.1 dX4_moneyOfInvoices_37 rfl (lv_at hl 1 rfl) ?_
      exact w_iret X hr hlk w (by  exact ⟨rfl, rfl⟩) dX4_moneyOfInvoices_38 rfl (Nat.le_of_ble_eq_true rfl) (Nat.le_of_ble_eq_true rfl)
    ·
      exact absurd ((ge20 hkd).mpr rfl) c1
  | succ d ih =>
    intro k a hkd E H locs w ls hl
    refine lv_iload_n X.1 X.2.1 dX4_moneyOfInvoices_4 rfl (lv_at hl 0 rfl) ?_
    refine lv_aload_n X.1 X.2.1 dX4_moneyOfInvoices_5 rfl (lv_at hl 2 rfl) ?_
    refine g_L X w 2 (by decide) (v := .ref (ad 16)) rfl kw_147 dX4_moneyOfInvoices_6 ?_
    refine len_J X w dX4_moneyOfInvoices_9 ?_
    refine lv_icmp_ge (tgt := 37) X.1 X.2.1 dX4_moneyOfInvoices_10 (by decide) (fun c1 => ?_) (fun c1 => ?_)
    ·
      exact absurd ((ge20 hkd).mp c1) (by omega)
    ·
      refine lv_aload_n X.1 X.2.1 dX4_moneyOfInvoices_13 rfl (lv_at hl 2 rfl) ?_
      refine g_L X w 2 (by decide) (v := .ref (ad 16)) rfl kw_147 dX4_moneyOfInvoices_14 ?_
      refine lv_iload_n X.1 X.2.1 dX4_moneyOfInvoices_17 rfl (lv_at hl 0 rfl) ?_
      refine ld_J X w (in20 hkd) dX4_moneyOfInvoices_18 ?_
      refine W.eq (g2 := F0 m 19 ls [va_rf ((L 16 k).map (fun j => ad (17 + j)))]) (by rw [cl_nI (by omega)]) ?_
      obtain hj2n | ⟨j2, hj2s⟩ : (L 16 k) = none ∨ ∃ j, (L 16 k) = some j := opt_or _
      ·
        refine W.eq (g2 := F0 m 19 ls [.null]) (by simp only [hj2n]; rfl) ?_
        refine lv_astore_nN (lv' := [(3, .null), (2, .int (nI k)), (1, .int a), (0, .ref (ad 0))]) X.1 X.2.1 dX4_moneyOfInvoices_19 rfl hl (by decide) rfl (fun ls hl => ?_)
        refine lv_aload_nN X.1 X.2.1 dX4_moneyOfInvoices_20 rfl (lv_at hl 0 rfl) ?_
        refine lv_ifnullN (tgt := 31) X.1 X.2.1 dX4_moneyOfInvoices_21 (by decide) ?_
        refine lv_iinc (v := (nI (k + 1))) (lv' := [(2, .int (nI (k + 1))), (3, .null), (1, .int a), (0, .ref (ad 0))]) X.1 X.2.1 dX4_moneyOfInvoices_31 hl (k := 1) rfl (nI_1 k) (by decide) rfl (fun ls hl => ?_)
        refine lv_goto (tgt := 4) X.1 X.2.1 dX4_moneyOfInvoices_34 (by decide) ?_
        have hz : s_sum F n 13 (d + 1) k a = s_sum F n 13 d (k + 1) a := by  simp [s_sum, (Nat.not_lt.mpr (aJbL_no hJ hj2n))]
        rw [hz]
        exact ih (k + 1) a (by omega) E H locs w ls (lv_sub hl [0, 2, 3] rfl)
      ·
        obtain ⟨ej, hkn⟩ := aJbL_eq hJ hj2s
        subst ej
        refine W.eq (g2 := F0 m 19 ls [.ref (ad (17 + k))]) (by simp only [hj2s]; rfl) ?_
        refine lv_astore_n (lv' := [(3, .ref (ad (17 + k))), (2, .int (nI k)), (1, .int a), (0, .ref (ad 0))]) X.1 X.2.1 dX4_moneyOfInvoices_19 rfl hl (by decide) rfl (fun ls hl => ?_)
        refine lv_aload_n X.1 X.2.1 dX4_moneyOfInvoices_20 rfl (lv_at hl 0 rfl) ?_
        refine lv_ifnull X.1 X.2.1 dX4_moneyOfInvoices_21 ?_
        refine lv_iload_n X.1 X.2.1 dX4_moneyOfInvoices_24 rfl (lv_at hl 2 rfl) ?_
        refine lv_aload_n X.1 X.2.1 dX4_moneyOfInvoices_25 rfl (lv_at hl 0 rfl) ?_
        refine gn_J X cn w hkn 13 (by decide) (v := .int (F (17 + k) 13)) rfl kw_489 dX4_moneyOfInvoices_26 ?_
        refine lv_iadd X.1 X.2.1 dX4_moneyOfInvoices_29 ?_
        refine lv_topi (fun x3 ex3 => ?_)
        refine lv_istore_n (lv' := [(1, .int x3), (3, .ref (ad (17 + k))), (2, .int (nI k)), (0, .ref (ad 0))]) X.1 X.2.1 dX4_moneyOfInvoices_30 rfl hl (by decide) rfl (fun ls hl => ?_)
        refine lv_iinc (v := (nI (k + 1))) (lv' := [(2, .int (nI (k + 1))), (1, .int x3), (3, .ref (ad (17 + k))), (0, .ref (ad 0))]) X.1 X.2.1 dX4_moneyOfInvoices_31 hl (k := 2) rfl (nI_1 k) (by decide) rfl (fun ls hl => ?_)
        refine lv_goto (tgt := 4) X.1 X.2.1 dX4_moneyOfInvoices_34 (by decide) ?_
        have hz : s_sum F n 13 (d + 1) k a = s_sum F n 13 d (k + 1) x3 := by subst ex3; simp [s_sum, hkn]
        rw [hz]
        exact ih (k + 1) x3 (by omega) E H locs w ls (lv_sub hl [0, 1, 3] rfl)

set_option maxHeartbeats 4000000 in
set_option maxRecDepth 100000 in
theorem c_X4_moneyOfInvoices (l : Launch) (D : va_G) (ca : Nat → ClassId) (ad : Nat → Nat) (E : Em) (F : Fm) (L : Lm) (S : Sm) (n : Nat) (hJ : L 16 = aJb n) (sz : Nat) : Met l yX4_moneyOfInvoices (.code yX4_moneyOfInvoices cX4_moneyOfInvoices 4 (some .int) :: BG) { frames := 0, cells := 0, slots := 0, locals := 0 } (Pw D ca ad (E, F, L, S, n) sz [.ref (ad 0)]) (Qi D ca ad n (fun r u => r = s_sum F n 13 20 0 0 ∧ u.2 = (F, L, S, n)) sz) 0 0 (wA ad n sz) := by
  refine open_W (σ := (E, F, L, S, n)) (Qc := Qi D ca ad n (fun r u => r = s_sum F n 13 20 0 0 ∧ u.2 = (F, L, S, n))) (by decide +kernel) (Nat.le_of_ble_eq_true rfl) ?_
  intro p e s m args below meth c X hr hlk w cn ls hl
  have hl : lv_has ls 4 [(0, .ref (ad 0))] := hl
  refine lv_iconst (v := 0) X.1 X.2.1 dX4_moneyOfInvoices_0 (by decide) ?_
  refine lv_istore_n (lv' := [(1, .int 0), (0, .ref (ad 0))]) X.1 X.2.1 dX4_moneyOfInvoices_1 rfl hl (by decide) rfl (fun ls hl => ?_)
  refine lv_iconst (v := 0) X.1 X.2.1 dX4_moneyOfInvoices_2 (by decide) ?_
  refine lv_istore_n (lv' := [(2, .int 0), (1, .int 0), (0, .ref (ad 0))]) X.1 X.2.1 dX4_moneyOfInvoices_3 rfl hl (by decide) rfl (fun ls hl => ?_)
  exact lp_X4_moneyOfInvoices X hr hlk cn hJ 20 0 0 (by omega) E _ _ w ls (lv_sub hl [0, 1, 2] rfl)

set_option maxHeartbeats 4000000 in
set_option maxRecDepth 100000 in
theorem lp_X4_costOfJobs {p : Program} {l : Launch} {e : Env} {s : State} {m : MethodId} {args : Array Value} {below : List Frame} {meth : Method} {c : Code} {D : va_G} {ca : Nat → ClassId} {ad : Nat → Nat} {F : Fm} {L : Lm} {S : Sm} {n : Nat} (X : CallFix p m c cX4_costOfJobs 4 s args BG yX4_costOfJobs.cls) (hr : meth.sig.returnType = (some .int)) (hlk : meth.locks = false) (cn : Cn (wA ad n s.heap.size) s) (hJ : L 16 = aJb n) :
    ∀ (d : Nat) (k : Nat) (a : Int32), k + d = 20 → ∀ (E : Em) (H : Heap) (locs : List Loc), Wd D ca ad (wA ad n s.heap.size) s H locs (E, F, L, S, n) → ∀ (ls : Array Slot), lv_has ls 4 [(2, .int (nI k)), (1, .int a), (0, .ref (ad 0))] →
      W p l e { frames := 0, cells := 0, slots := 0, locals := 0 } s m args below meth c H locs 0 0 (MQ below (Qi D ca ad n (fun r u => r = s_sum F n 12 d k a ∧ u.2 = (F, L, S, n)) s.heap.size) args s 0 0 (wA ad n s.heap.size)) (F0 m 4 ls []) := by
  intro d
  induction d with
  | zero =>
    intro k a hkd E H locs w ls hl
    refine lv_iload_n X.1 X.2.1 dX4_costOfJobs_4 rfl (lv_at hl 0 rfl) ?_
    refine lv_aload_n X.1 X.2.1 dX4_costOfJobs_5 rfl (lv_at hl 2 rfl) ?_
    refine g_L X w 2 (by decide) (v := .ref (ad 16)) rfl kw_147 dX4_costOfJobs_6 ?_
    refine len_J X w dX4_costOfJobs_9 ?_
    refine lv_icmp_ge (tgt := 37) X.1 X.2.1 dX4_costOfJobs_10 (by decide) (fun c1 => ?_) (fun c1 => ?_)
    ·
      refine lv_iload_n X.1 X.2.1 dX4_costOfJobs_37 rfl (lv_at hl 1 rfl) ?_
      exact w_iret X hr hlk w (by  exact ⟨rfl, rfl⟩) dX4_costOfJobs_38 rfl (Nat.le_of_ble_eq_true rfl) (Nat.le_of_ble_eq_true rfl)
    ·
      exact absurd ((ge20 hkd).mpr rfl) c1
  | succ d ih =>
    intro k a hkd E H locs w ls hl
    refine lv_iload_n X.1 X.2.1 dX4_costOfJobs_4 rfl (lv_at hl 0 rfl) ?_
    refine lv_aload_n X.1 X.2.1 dX4_costOfJobs_5 rfl (lv_at hl 2 rfl) ?_
    refine g_L X w 2 (by decide) (v := .ref (ad 16)) rfl kw_147 dX4_costOfJobs_6 ?_
    refine len_J X w dX4_costOfJobs_9 ?_
    refine lv_icmp_ge (tgt := 37) X.1 X.2.1 dX4_costOfJobs_10 (by decide) (fun c1 => ?_) (fun c1 => ?_)
    ·
      exact absurd ((ge20 hkd).mp c1) (by omega)
    ·
      refine lv_aload_n X.1 X.2.1 dX4_costOfJobs_13 rfl (lv_at hl 2 rfl) ?_
      refine g_L X w 2 (by decide) (v := .ref (ad 16)) rfl kw_147 dX4_costOfJobs_14 ?_
      refine lv_iload_n X.1 X.2.1 dX4_costOfJobs_17 rfl (lv_at hl 0 rfl) ?_
      refine ld_J X w (in20 hkd) dX4_costOfJobs_18 ?_
      refine W.eq (g2 := F0 m 19 ls [va_rf ((L 16 k).map (fun j => ad (17 + j)))]) (by rw [cl_nI (by omega)]) ?_
      obtain hj2n | ⟨j2, hj2s⟩ : (L 16 k) = none ∨ ∃ j, (L 16 k) = some j := opt_or _
      ·
        refine W.eq (g2 := F0 m 19 ls [.null]) (by simp only [hj2n]; rfl) ?_
        refine lv_astore_nN (lv' := [(3, .null), (2, .int (nI k)), (1, .int a), (0, .ref (ad 0))]) X.1 X.2.1 dX4_costOfJobs_19 rfl hl (by decide) rfl (fun ls hl => ?_)
        refine lv_aload_nN X.1 X.2.1 dX4_costOfJobs_20 rfl (lv_at hl 0 rfl) ?_
        refine lv_ifnullN (tgt := 31) X.1 X.2.1 dX4_costOfJobs_21 (by decide) ?_
        refine lv_iinc (v := (nI (k + 1))) (lv' := [(2, .int (nI (k + 1))), (3, .null), (1, .int a), (0, .ref (ad 0))]) X.1 X.2.1 dX4_costOfJobs_31 hl (k := 1) rfl (nI_1 k) (by decide) rfl (fun ls hl => ?_)
        refine lv_goto (tgt := 4) X.1 X.2.1 dX4_costOfJobs_34 (by decide) ?_
        have hz : s_sum F n 12 (d + 1) k a = s_sum F n 12 d (k + 1) a := by  simp [s_sum, (Nat.not_lt.mpr (aJbL_no hJ hj2n))]
        rw [hz]
        exact ih (k + 1) a (by omega) E H locs w ls (lv_sub hl [0, 2, 3] rfl)
      ·
        obtain ⟨ej, hkn⟩ := aJbL_eq hJ hj2s
        subst ej
        refine W.eq (g2 := F0 m 19 ls [.ref (ad (17 + k))]) (by simp only [hj2s]; rfl) ?_
        refine lv_astore_n (lv' := [(3, .ref (ad (17 + k))), (2, .int (nI k)), (1, .int a), (0, .ref (ad 0))]) X.1 X.2.1 dX4_costOfJobs_19 rfl hl (by decide) rfl (fun ls hl => ?_)
        refine lv_aload_n X.1 X.2.1 dX4_costOfJobs_20 rfl (lv_at hl 0 rfl) ?_
        refine lv_ifnull X.1 X.2.1 dX4_costOfJobs_21 ?_
        refine lv_iload_n X.1 X.2.1 dX4_costOfJobs_24 rfl (lv_at hl 2 rfl) ?_
        refine lv_aload_n X.1 X.2.1 dX4_costOfJobs_25 rfl (lv_at hl 0 rfl) ?_
        refine gn_J X cn w hkn 12 (by decide) (v := .int (F (17 + k) 12)) rfl kw_488 dX4_costOfJobs_26 ?_
        refine lv_iadd X.1 X.2.1 dX4_costOfJobs_29 ?_
        refine lv_topi (fun x3 ex3 => ?_)
        refine lv_istore_n (lv' := [(1, .int x3), (3, .ref (ad (17 + k))), (2, .int (nI k)), (0, .ref (ad 0))]) X.1 X.2.1 dX4_costOfJobs_30 rfl hl (by decide) rfl (fun ls hl => ?_)
        refine lv_iinc (v := (nI (k + 1))) (lv' := [(2, .int (nI (k + 1))), (1, .int x3), (3, .ref (ad (17 + k))), (0, .ref (ad 0))]) X.1 X.2.1 dX4_costOfJobs_31 hl (k := 2) rfl (nI_1 k) (by decide) rfl (fun ls hl => ?_)
        refine lv_goto (tgt := 4) X.1 X.2.1 dX4_costOfJobs_34 (by decide) ?_
        have hz : s_sum F n 12 (d + 1) k a = s_sum F n 12 d (k + 1) x3 := by subst ex3; simp [s_sum, hkn]
        rw [hz]
        exact ih (k + 1) x3 (by omega) E H locs w ls (lv_sub hl [0, 1, 3] rfl)

set_option maxHeartbeats 4000000 in
set_option maxRecDepth 100000 in
theorem c_X4_costOfJobs (l : Launch) (D : va_G) (ca : Nat → ClassId) (ad : Nat → Nat) (E : Em) (F : Fm) (L : Lm) (S : Sm) (n : Nat) (hJ : L 16 = aJb n) (sz : Nat) : Met l yX4_costOfJobs (.code yX4_costOfJobs cX4_costOfJobs 4 (some .int) :: BG) { frames := 0, cells := 0, slots := 0, locals := 0 } (Pw D ca ad (E, F, L, S, n) sz [.ref (ad 0)]) (Qi D ca ad n (fun r u => r = s_sum F n 12 20 0 0 ∧ u.2 = (F, L, S, n)) sz) 0 0 (wA ad n sz) := by
  refine open_W (σ := (E, F, L, S, n)) (Qc := Qi D ca ad n (fun r u => r = s_sum F n 12 20 0 0 ∧ u.2 = (F, L, S, n))) (by decide +kernel) (Nat.le_of_ble_eq_true rfl) ?_
  intro p e s m args below meth c X hr hlk w cn ls hl
  have hl : lv_has ls 4 [(0, .ref (ad 0))] := hl
  refine lv_iconst (v := 0) X.1 X.2.1 dX4_costOfJobs_0 (by decide) ?_
  refine lv_istore_n (lv' := [(1, .int 0), (0, .ref (ad 0))]) X.1 X.2.1 dX4_costOfJobs_1 rfl hl (by decide) rfl (fun ls hl => ?_)
  refine lv_iconst (v := 0) X.1 X.2.1 dX4_costOfJobs_2 (by decide) ?_
  refine lv_istore_n (lv' := [(2, .int 0), (1, .int 0), (0, .ref (ad 0))]) X.1 X.2.1 dX4_costOfJobs_3 rfl hl (by decide) rfl (fun ls hl => ?_)
  exact lp_X4_costOfJobs X hr hlk cn hJ 20 0 0 (by omega) E _ _ w ls (lv_sub hl [0, 1, 2] rfl)

set_option maxHeartbeats 4000000 in
set_option maxRecDepth 100000 in
theorem c_X4_worthOfStock (l : Launch) (D : va_G) (ca : Nat → ClassId) (ad : Nat → Nat) (E : Em) (F : Fm) (L : Lm) (S : Sm) (n : Nat)  (sz : Nat) : Met l yX4_worthOfStock (.code yX4_worthOfStock cX4_worthOfStock 4 (some .int) :: BG) { frames := 0, cells := 0, slots := 0, locals := 0 } (Pw D ca ad (E, F, L, S, n) sz [.ref (ad 0)]) (Qi D ca ad n (fun r u => r = s_worthS F ∧ u.2 = (F, L, S, n)) sz) 0 0 (wA ad n sz) := by
  refine open_W (σ := (E, F, L, S, n)) (Qc := Qi D ca ad n (fun r u => r = s_worthS F ∧ u.2 = (F, L, S, n))) (by decide +kernel) (Nat.le_of_ble_eq_true rfl) ?_
  intro p e s m args below meth c X hr hlk w cn ls hl
  have hl : lv_has ls 4 [(0, .ref (ad 0))] := hl
  refine lv_iconst (v := 0) X.1 X.2.1 dX4_worthOfStock_0 (by decide) ?_
  refine lv_istore_n (lv' := [(1, .int 0), (0, .ref (ad 0))]) X.1 X.2.1 dX4_worthOfStock_1 rfl hl (by decide) rfl (fun ls hl => ?_)
  refine lv_iconst (v := 0) X.1 X.2.1 dX4_worthOfStock_2 (by decide) ?_
  refine lv_istore_n (lv' := [(2, .int 0), (1, .int 0), (0, .ref (ad 0))]) X.1 X.2.1 dX4_worthOfStock_3 rfl hl (by decide) rfl (fun ls hl => ?_)
  refine lv_iload_n X.1 X.2.1 dX4_worthOfStock_4 rfl (lv_at hl 0 rfl) ?_
  refine lv_aload_n X.1 X.2.1 dX4_worthOfStock_5 rfl (lv_at hl 2 rfl) ?_
  refine g_L X w 0 (by decide) (v := .ref (ad 14)) rfl kw_145 dX4_worthOfStock_6 ?_
  refine len_P X w dX4_worthOfStock_9 ?_
  refine lv_icmp_ge (tgt := 42) X.1 X.2.1 dX4_worthOfStock_10 (by decide) (fun c1 => ?_) (fun c1 => ?_)
  ·
    exact absurd c1 (by decide)
  ·
    refine lv_aload_n X.1 X.2.1 dX4_worthOfStock_13 rfl (lv_at hl 2 rfl) ?_
    refine g_L X w 0 (by decide) (v := .ref (ad 14)) rfl kw_145 dX4_worthOfStock_14 ?_
    refine lv_iload_n X.1 X.2.1 dX4_worthOfStock_17 rfl (lv_at hl 0 rfl) ?_
    refine ld_P X w (in_lit (by decide)) dX4_worthOfStock_18 ?_
    refine W.eq (g2 := F0 m 19 ls [.ref (ad 2)]) rfl ?_
    refine lv_astore_n (lv' := [(3, .ref (ad 2)), (2, .int 0), (1, .int 0), (0, .ref (ad 0))]) X.1 X.2.1 dX4_worthOfStock_19 rfl hl (by decide) rfl (fun ls hl => ?_)
    refine lv_aload_n X.1 X.2.1 dX4_worthOfStock_20 rfl (lv_at hl 0 rfl) ?_
    refine lv_ifnull X.1 X.2.1 dX4_worthOfStock_21 ?_
    refine lv_iload_n X.1 X.2.1 dX4_worthOfStock_24 rfl (lv_at hl 2 rfl) ?_
    refine lv_aload_n X.1 X.2.1 dX4_worthOfStock_25 rfl (lv_at hl 0 rfl) ?_
    refine gn_P X cn w (by decide : 2 ≤ 2 ∧ 2 < 6) 3 (by decide) (v := .int (F 2 3)) rfl kw_68 dX4_worthOfStock_26 ?_
    refine lv_aload_n X.1 X.2.1 dX4_worthOfStock_29 rfl (lv_at hl 0 rfl) ?_
    refine gn_P X cn w (by decide : 2 ≤ 2 ∧ 2 < 6) 2 (by decide) (v := .int (F 2 2)) rfl kw_66 dX4_worthOfStock_30 ?_
    refine lv_imul X.1 X.2.1 dX4_worthOfStock_33 ?_
    refine lv_iadd X.1 X.2.1 dX4_worthOfStock_34 ?_
    refine lv_topi (fun x2 ex2 => ?_)
    refine lv_istore_n (lv' := [(1, .int x2), (3, .ref (ad 2)), (2, .int 0), (0, .ref (ad 0))]) X.1 X.2.1 dX4_worthOfStock_35 rfl hl (by decide) rfl (fun ls hl => ?_)
    refine lv_iinc (v := 1) (lv' := [(2, .int 1), (1, .int x2), (3, .ref (ad 2)), (0, .ref (ad 0))]) X.1 X.2.1 dX4_worthOfStock_36 hl (k := 2) rfl (by decide) (by decide) rfl (fun ls hl => ?_)
    refine lv_goto (tgt := 4) X.1 X.2.1 dX4_worthOfStock_39 (by decide) ?_
    refine lv_iload_n X.1 X.2.1 dX4_worthOfStock_4 rfl (lv_at hl 0 rfl) ?_
    refine lv_aload_n X.1 X.2.1 dX4_worthOfStock_5 rfl (lv_at hl 3 rfl) ?_
    refine g_L X w 0 (by decide) (v := .ref (ad 14)) rfl kw_145 dX4_worthOfStock_6 ?_
    refine len_P X w dX4_worthOfStock_9 ?_
    refine lv_icmp_ge (tgt := 42) X.1 X.2.1 dX4_worthOfStock_10 (by decide) (fun c3 => ?_) (fun c3 => ?_)
    ·
      exact absurd c3 (by decide)
    ·
      refine lv_aload_n X.1 X.2.1 dX4_worthOfStock_13 rfl (lv_at hl 3 rfl) ?_
      refine g_L X w 0 (by decide) (v := .ref (ad 14)) rfl kw_145 dX4_worthOfStock_14 ?_
      refine lv_iload_n X.1 X.2.1 dX4_worthOfStock_17 rfl (lv_at hl 0 rfl) ?_
      refine ld_P X w (in_lit (by decide)) dX4_worthOfStock_18 ?_
      refine W.eq (g2 := F0 m 19 ls [.ref (ad 3)]) rfl ?_
      refine lv_astore_n (lv' := [(3, .ref (ad 3)), (2, .int 1), (1, .int x2), (0, .ref (ad 0))]) X.1 X.2.1 dX4_worthOfStock_19 rfl hl (by decide) rfl (fun ls hl => ?_)
      refine lv_aload_n X.1 X.2.1 dX4_worthOfStock_20 rfl (lv_at hl 0 rfl) ?_
      refine lv_ifnull X.1 X.2.1 dX4_worthOfStock_21 ?_
      refine lv_iload_n X.1 X.2.1 dX4_worthOfStock_24 rfl (lv_at hl 2 rfl) ?_
      refine lv_aload_n X.1 X.2.1 dX4_worthOfStock_25 rfl (lv_at hl 0 rfl) ?_
      refine gn_P X cn w (by decide : 2 ≤ 3 ∧ 3 < 6) 3 (by decide) (v := .int (F 3 3)) rfl kw_68 dX4_worthOfStock_26 ?_
      refine lv_aload_n X.1 X.2.1 dX4_worthOfStock_29 rfl (lv_at hl 0 rfl) ?_
      refine gn_P X cn w (by decide : 2 ≤ 3 ∧ 3 < 6) 2 (by decide) (v := .int (F 3 2)) rfl kw_66 dX4_worthOfStock_30 ?_
      refine lv_imul X.1 X.2.1 dX4_worthOfStock_33 ?_
      refine lv_iadd X.1 X.2.1 dX4_worthOfStock_34 ?_
      refine lv_topi (fun x4 ex4 => ?_)
      refine lv_istore_n (lv' := [(1, .int x4), (3, .ref (ad 3)), (2, .int 1), (0, .ref (ad 0))]) X.1 X.2.1 dX4_worthOfStock_35 rfl hl (by decide) rfl (fun ls hl => ?_)
      refine lv_iinc (v := 2) (lv' := [(2, .int 2), (1, .int x4), (3, .ref (ad 3)), (0, .ref (ad 0))]) X.1 X.2.1 dX4_worthOfStock_36 hl (k := 2) rfl (by decide) (by decide) rfl (fun ls hl => ?_)
      refine lv_goto (tgt := 4) X.1 X.2.1 dX4_worthOfStock_39 (by decide) ?_
      refine lv_iload_n X.1 X.2.1 dX4_worthOfStock_4 rfl (lv_at hl 0 rfl) ?_
      refine lv_aload_n X.1 X.2.1 dX4_worthOfStock_5 rfl (lv_at hl 3 rfl) ?_
      refine g_L X w 0 (by decide) (v := .ref (ad 14)) rfl kw_145 dX4_worthOfStock_6 ?_
      refine len_P X w dX4_worthOfStock_9 ?_
      refine lv_icmp_ge (tgt := 42) X.1 X.2.1 dX4_worthOfStock_10 (by decide) (fun c5 => ?_) (fun c5 => ?_)
      ·
        exact absurd c5 (by decide)
      ·
        refine lv_aload_n X.1 X.2.1 dX4_worthOfStock_13 rfl (lv_at hl 3 rfl) ?_
        refine g_L X w 0 (by decide) (v := .ref (ad 14)) rfl kw_145 dX4_worthOfStock_14 ?_
        refine lv_iload_n X.1 X.2.1 dX4_worthOfStock_17 rfl (lv_at hl 0 rfl) ?_
        refine ld_P X w (in_lit (by decide)) dX4_worthOfStock_18 ?_
        refine W.eq (g2 := F0 m 19 ls [.ref (ad 4)]) rfl ?_
        refine lv_astore_n (lv' := [(3, .ref (ad 4)), (2, .int 2), (1, .int x4), (0, .ref (ad 0))]) X.1 X.2.1 dX4_worthOfStock_19 rfl hl (by decide) rfl (fun ls hl => ?_)
        refine lv_aload_n X.1 X.2.1 dX4_worthOfStock_20 rfl (lv_at hl 0 rfl) ?_
        refine lv_ifnull X.1 X.2.1 dX4_worthOfStock_21 ?_
        refine lv_iload_n X.1 X.2.1 dX4_worthOfStock_24 rfl (lv_at hl 2 rfl) ?_
        refine lv_aload_n X.1 X.2.1 dX4_worthOfStock_25 rfl (lv_at hl 0 rfl) ?_
        refine gn_P X cn w (by decide : 2 ≤ 4 ∧ 4 < 6) 3 (by decide) (v := .int (F 4 3)) rfl kw_68 dX4_worthOfStock_26 ?_
        refine lv_aload_n X.1 X.2.1 dX4_worthOfStock_29 rfl (lv_at hl 0 rfl) ?_
        refine gn_P X cn w (by decide : 2 ≤ 4 ∧ 4 < 6) 2 (by decide) (v := .int (F 4 2)) rfl kw_66 dX4_worthOfStock_30 ?_
        refine lv_imul X.1 X.2.1 dX4_worthOfStock_33 ?_
        refine lv_iadd X.1 X.2.1 dX4_worthOfStock_34 ?_
        refine lv_topi (fun x6 ex6 => ?_)
        refine lv_istore_n (lv' := [(1, .int x6), (3, .ref (ad 4)), (2, .int 2), (0, .ref (ad 0))]) X.1 X.2.1 dX4_worthOfStock_35 rfl hl (by decide) rfl (fun ls hl => ?_)
        refine lv_iinc (v := 3) (lv' := [(2, .int 3), (1, .int x6), (3, .ref (ad 4)), (0, .ref (ad 0))]) X.1 X.2.1 dX4_worthOfStock_36 hl (k := 2) rfl (by decide) (by decide) rfl (fun ls hl => ?_)
        refine lv_goto (tgt := 4) X.1 X.2.1 dX4_worthOfStock_39 (by decide) ?_
        refine lv_iload_n X.1 X.2.1 dX4_worthOfStock_4 rfl (lv_at hl 0 rfl) ?_
        refine lv_aload_n X.1 X.2.1 dX4_worthOfStock_5 rfl (lv_at hl 3 rfl) ?_
        refine g_L X w 0 (by decide) (v := .ref (ad 14)) rfl kw_145 dX4_worthOfStock_6 ?_
        refine len_P X w dX4_worthOfStock_9 ?_
        refine lv_icmp_ge (tgt := 42) X.1 X.2.1 dX4_worthOfStock_10 (by decide) (fun c7 => ?_) (fun c7 => ?_)
        ·
          exact absurd c7 (by decide)
        ·
          refine lv_aload_n X.1 X.2.1 dX4_worthOfStock_13 rfl (lv_at hl 3 rfl) ?_
          refine g_L X w 0 (by decide) (v := .ref (ad 14)) rfl kw_145 dX4_worthOfStock_14 ?_
          refine lv_iload_n X.1 X.2.1 dX4_worthOfStock_17 rfl (lv_at hl 0 rfl) ?_
          refine ld_P X w (in_lit (by decide)) dX4_worthOfStock_18 ?_
          refine W.eq (g2 := F0 m 19 ls [.ref (ad 5)]) rfl ?_
          refine lv_astore_n (lv' := [(3, .ref (ad 5)), (2, .int 3), (1, .int x6), (0, .ref (ad 0))]) X.1 X.2.1 dX4_worthOfStock_19 rfl hl (by decide) rfl (fun ls hl => ?_)
          refine lv_aload_n X.1 X.2.1 dX4_worthOfStock_20 rfl (lv_at hl 0 rfl) ?_
          refine lv_ifnull X.1 X.2.1 dX4_worthOfStock_21 ?_
          refine lv_iload_n X.1 X.2.1 dX4_worthOfStock_24 rfl (lv_at hl 2 rfl) ?_
          refine lv_aload_n X.1 X.2.1 dX4_worthOfStock_25 rfl (lv_at hl 0 rfl) ?_
          refine gn_P X cn w (by decide : 2 ≤ 5 ∧ 5 < 6) 3 (by decide) (v := .int (F 5 3)) rfl kw_68 dX4_worthOfStock_26 ?_
          refine lv_aload_n X.1 X.2.1 dX4_worthOfStock_29 rfl (lv_at hl 0 rfl) ?_
          refine gn_P X cn w (by decide : 2 ≤ 5 ∧ 5 < 6) 2 (by decide) (v := .int (F 5 2)) rfl kw_66 dX4_worthOfStock_30 ?_
          refine lv_imul X.1 X.2.1 dX4_worthOfStock_33 ?_
          refine lv_iadd X.1 X.2.1 dX4_worthOfStock_34 ?_
          refine lv_topi (fun x8 ex8 => ?_)
          refine lv_istore_n (lv' := [(1, .int x8), (3, .ref (ad 5)), (2, .int 3), (0, .ref (ad 0))]) X.1 X.2.1 dX4_worthOfStock_35 rfl hl (by decide) rfl (fun ls hl => ?_)
          refine lv_iinc (v := 4) (lv' := [(2, .int 4), (1, .int x8), (3, .ref (ad 5)), (0, .ref (ad 0))]) X.1 X.2.1 dX4_worthOfStock_36 hl (k := 2) rfl (by decide) (by decide) rfl (fun ls hl => ?_)
          refine lv_goto (tgt := 4) X.1 X.2.1 dX4_worthOfStock_39 (by decide) ?_
          refine lv_iload_n X.1 X.2.1 dX4_worthOfStock_4 rfl (lv_at hl 0 rfl) ?_
          refine lv_aload_n X.1 X.2.1 dX4_worthOfStock_5 rfl (lv_at hl 3 rfl) ?_
          refine g_L X w 0 (by decide) (v := .ref (ad 14)) rfl kw_145 dX4_worthOfStock_6 ?_
          refine len_P X w dX4_worthOfStock_9 ?_
          refine lv_icmp_ge (tgt := 42) X.1 X.2.1 dX4_worthOfStock_10 (by decide) (fun c9 => ?_) (fun c9 => ?_)
          ·
            refine lv_iload_n X.1 X.2.1 dX4_worthOfStock_42 rfl (lv_at hl 1 rfl) ?_
            exact w_iret X hr hlk w (by subst ex8; subst ex6; subst ex4; subst ex2; exact ⟨rfl, rfl⟩) dX4_worthOfStock_43 rfl (Nat.le_of_ble_eq_true rfl) (Nat.le_of_ble_eq_true rfl)
          ·
            exact absurd (by decide) c9
