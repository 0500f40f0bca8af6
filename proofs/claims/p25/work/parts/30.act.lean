def hhA : List (Nat × Nat × Nat × Nat) := [(0, 132, 514, 102), (133, 182, 514, 102), (183, 214, 514, 102), (215, 239, 514, 102), (240, 294, 514, 102), (295, 331, 514, 102), (332, 364, 514, 102), (365, 389, 514, 102), (390, 415, 514, 102), (416, 463, 514, 102), (464, 513, 514, 102), (0, 132, 552, 104), (133, 182, 552, 104), (183, 214, 552, 104), (215, 239, 552, 104), (240, 294, 552, 104), (295, 331, 552, 104), (332, 364, 552, 104), (365, 389, 552, 104), (390, 415, 552, 104), (416, 463, 552, 104), (464, 513, 552, 104), (0, 132, 570, 106), (133, 182, 570, 106), (183, 214, 570, 106), (215, 239, 570, 106), (240, 294, 570, 106), (295, 331, 570, 106), (332, 364, 570, 106), (365, 389, 570, 106), (390, 415, 570, 106), (416, 463, 570, 106), (464, 513, 570, 106)]
abbrev ATB : List ExceptionTableEntry := tableOf hhA

theorem told_01 (F : Fm) (L : Lm) (S : Sm) (q q2 : Nat → Nat) (o : Nat) (r mi sp : Int32) : s_told F L S q q2 o r mi sp = 0 ∨ s_told F L S q q2 o r mi sp = 1 := by
  simp only [s_told]
  repeat' split
  all_goals first | exact Or.inl rfl | exact Or.inr rfl
theorem told_nar (F : Fm) (L : Lm) (S : Sm) (q q2 : Nat → Nat) (o : Nat) (r mi sp : Int32) : narrow .boolean (.int (s_told F L S q q2 o r mi sp)) = .int (s_told F L S q q2 o r mi sp) := by
  rcases told_01 F L S q q2 o r mi sp with h | h <;> rw [h] <;> rfl

set_option maxHeartbeats 4000000 in
set_option maxRecDepth 100000 in
theorem ca_job0 (l : Launch) (D : va_G) (ca : Nat → ClassId) (ad : Nat → Nat) (E : Em) (F : Fm) (L : Lm) (S : Sm) (n : Nat) (hlt : l.stackTraces = false) (q : Nat → Nat) (hlf : Lf F L S n q) (x jb r pp : Int32) (hkd : s_below x 13 = 0) (h0 : er_job F n pp (4 + s_below (x >>> ((5 : Int32) &&& 31)) 17) (4 + s_below (x >>> ((7 : Int32) &&& 31)) 17) (5 + s_below (x >>> ((3 : Int32) &&& 31)) 1500) (1 + s_below (x >>> ((6 : Int32) &&& 31)) 15) = 0) (wf2 : Wf (s_jobF F S n pp (4 + s_below (x >>> ((5 : Int32) &&& 31)) 17) (4 + s_below (x >>> ((7 : Int32) &&& 31)) 17) (5 + s_below (x >>> ((3 : Int32) &&& 31)) 1500) (1 + s_below (x >>> ((6 : Int32) &&& 31)) 15)) (s_jobL L n) (nwS S n pp.toNatClampNeg) (n + 1) q) (sz : Nat) : Met l yL_act (.codeWith yL_act cL_act 7 (some .boolean) hhA :: BG) { frames := 9, cells := 1, slots := 15, locals := 200 } (Pw D ca ad (E, F, L, S, n) sz [.ref (ad 0), .int x, .int jb, .int r, .int pp]) (Qk D ca ad n (if nI n = s_many (s_jobF F S n pp (4 + s_below (x >>> ((5 : Int32) &&& 31)) 17) (4 + s_below (x >>> ((7 : Int32) &&& 31)) 17) (5 + s_below (x >>> ((3 : Int32) &&& 31)) 1500) (1 + s_below (x >>> ((6 : Int32) &&& 31)) 15)) (n + 1) 0 - 1 then 1 else 0) E (s_jobF F S n pp (4 + s_below (x >>> ((5 : Int32) &&& 31)) 17) (4 + s_below (x >>> ((7 : Int32) &&& 31)) 17) (5 + s_below (x >>> ((3 : Int32) &&& 31)) 1500) (1 + s_below (x >>> ((6 : Int32) &&& 31)) 15)) (s_jobL L n) (nwS S n pp.toNatClampNeg) sz) 1 15 (wA ad n sz) := by
  refine open_A (σ := (E, F, L, S, n)) (Qc := Qk D ca ad n (if nI n = s_many (s_jobF F S n pp (4 + s_below (x >>> ((5 : Int32) &&& 31)) 17) (4 + s_below (x >>> ((7 : Int32) &&& 31)) 17) (5 + s_below (x >>> ((3 : Int32) &&& 31)) 1500) (1 + s_below (x >>> ((6 : Int32) &&& 31)) 15)) (n + 1) 0 - 1 then 1 else 0) E (s_jobF F S n pp (4 + s_below (x >>> ((5 : Int32) &&& 31)) 17) (4 + s_below (x >>> ((7 : Int32) &&& 31)) 17) (5 + s_below (x >>> ((3 : Int32) &&& 31)) 1500) (1 + s_below (x >>> ((6 : Int32) &&& 31)) 15)) (s_jobL L n) (nwS S n pp.toNatClampNeg)) (by decide +kernel) (Nat.le_of_ble_eq_true rfl) ?_
  intro p e s m args below meth c X hr hlk htab w cn ls hl
  have hl : lv_has ls 7 [(0, .ref (ad 0)), (1, .int x), (2, .int jb), (3, .int r), (4, .int pp)] := hl
  have wf := hlf.1
  have hs := wf.2.2.1
  have hJ := wf.2.1.2
  refine lv_iload_n X.1 X.2.1 dL_act_0 rfl (lv_at hl 1 rfl) ?_
  refine lv_bipush (v := 13) X.1 X.2.1 dL_act_1 (by decide) ?_
  refine n_calli w (n_runS (n := 2) (As := [.int x, .int 13]) X (c_L_below l x 13 (by decide)) (bg_S kw_411 kw_412 kw_30 kw_413) rfl rfl (by decide +kernel) ⟨(Nat.le_of_ble_eq_true rfl), (Nat.le_of_ble_eq_true rfl)⟩ rfl hl.1 rfl (Nat.le_of_ble_eq_true rfl) dL_act_3 ⟨(Nat.le_of_ble_eq_true rfl), (Nat.le_of_ble_eq_true rfl)⟩) (fun H locs w => ?_)
  refine W.eq (g2 := F0 m 6 ls [.int 0]) (by rw [hkd]) ?_
  refine lv_tableIn (tgt := 68) X.1 X.2.1 dL_act_6 (by decide) (by decide) rfl (by decide) ?_
  refine lv_aload_n X.1 X.2.1 dL_act_68 rfl (lv_at hl 0 rfl) ?_
  refine lv_iload X.1 X.2.1 dL_act_69 (lv_at hl 4 rfl) ?_
  refine lv_iconst (v := 4) X.1 X.2.1 dL_act_71 (by decide) ?_
  refine lv_iload_n X.1 X.2.1 dL_act_72 rfl (lv_at hl 1 rfl) ?_
  refine lv_iconst (v := 5) X.1 X.2.1 dL_act_73 (by decide) ?_
  refine lv_ishr X.1 X.2.1 dL_act_74 ?_
  refine lv_bipush (v := 17) X.1 X.2.1 dL_act_75 (by decide) ?_
  refine n_calli w (n_runS (n := 2) (As := [.int (x >>> ((5 : Int32) &&& 31)), .int 17]) X (c_L_below l (x >>> ((5 : Int32) &&& 31)) 17 (by decide)) (bg_S kw_411 kw_412 kw_30 kw_413) rfl rfl (by decide +kernel) ⟨(Nat.le_of_ble_eq_true rfl), (Nat.le_of_ble_eq_true rfl)⟩ rfl hl.1 rfl (Nat.le_of_ble_eq_true rfl) dL_act_77 ⟨(Nat.le_of_ble_eq_true rfl), (Nat.le_of_ble_eq_true rfl)⟩) (fun H locs w => ?_)
  refine lv_iadd X.1 X.2.1 dL_act_80 ?_
  refine lv_iconst (v := 4) X.1 X.2.1 dL_act_81 (by decide) ?_
  refine lv_iload_n X.1 X.2.1 dL_act_82 rfl (lv_at hl 1 rfl) ?_
  refine lv_bipush (v := 7) X.1 X.2.1 dL_act_83 (by decide) ?_
  refine lv_ishr X.1 X.2.1 dL_act_85 ?_
  refine lv_bipush (v := 17) X.1 X.2.1 dL_act_86 (by decide) ?_
  refine n_calli w (n_runS (n := 2) (As := [.int (x >>> ((7 : Int32) &&& 31)), .int 17]) X (c_L_below l (x >>> ((7 : Int32) &&& 31)) 17 (by decide)) (bg_S kw_411 kw_412 kw_30 kw_413) rfl rfl (by decide +kernel) ⟨(Nat.le_of_ble_eq_true rfl), (Nat.le_of_ble_eq_true rfl)⟩ rfl hl.1 rfl (Nat.le_of_ble_eq_true rfl) dL_act_88 ⟨(Nat.le_of_ble_eq_true rfl), (Nat.le_of_ble_eq_true rfl)⟩) (fun H locs w => ?_)
  refine lv_iadd X.1 X.2.1 dL_act_91 ?_
  refine lv_iconst (v := 5) X.1 X.2.1 dL_act_92 (by decide) ?_
  refine lv_iload_n X.1 X.2.1 dL_act_93 rfl (lv_at hl 1 rfl) ?_
  refine lv_iconst (v := 3) X.1 X.2.1 dL_act_94 (by decide) ?_
  refine lv_ishr X.1 X.2.1 dL_act_95 ?_
  refine lv_sipush (v := 1500) X.1 X.2.1 dL_act_96 (by decide) ?_
  refine n_calli w (n_runS (n := 2) (As := [.int (x >>> ((3 : Int32) &&& 31)), .int 1500]) X (c_L_below l (x >>> ((3 : Int32) &&& 31)) 1500 (by decide)) (bg_S kw_411 kw_412 kw_30 kw_413) rfl rfl (by decide +kernel) ⟨(Nat.le_of_ble_eq_true rfl), (Nat.le_of_ble_eq_true rfl)⟩ rfl hl.1 rfl (Nat.le_of_ble_eq_true rfl) dL_act_99 ⟨(Nat.le_of_ble_eq_true rfl), (Nat.le_of_ble_eq_true rfl)⟩) (fun H locs w => ?_)
  refine lv_iadd X.1 X.2.1 dL_act_102 ?_
  refine lv_iconst (v := 1) X.1 X.2.1 dL_act_103 (by decide) ?_
  refine lv_iload_n X.1 X.2.1 dL_act_104 rfl (lv_at hl 1 rfl) ?_
  refine lv_bipush (v := 6) X.1 X.2.1 dL_act_105 (by decide) ?_
  refine lv_ishr X.1 X.2.1 dL_act_107 ?_
  refine lv_bipush (v := 15) X.1 X.2.1 dL_act_108 (by decide) ?_
  refine n_calli w (n_runS (n := 2) (As := [.int (x >>> ((6 : Int32) &&& 31)), .int 15]) X (c_L_below l (x >>> ((6 : Int32) &&& 31)) 15 (by decide)) (bg_S kw_411 kw_412 kw_30 kw_413) rfl rfl (by decide +kernel) ⟨(Nat.le_of_ble_eq_true rfl), (Nat.le_of_ble_eq_true rfl)⟩ rfl hl.1 rfl (Nat.le_of_ble_eq_true rfl) dL_act_110 ⟨(Nat.le_of_ble_eq_true rfl), (Nat.le_of_ble_eq_true rfl)⟩) (fun H locs w => ?_)
  refine lv_iadd X.1 X.2.1 dL_act_113 ?_
  refine w_callj cn w (w_runV (n := 5) (As := [.int pp, .int (4 + (s_below (x >>> ((5 : Int32) &&& 31)) 17)), .int (4 + (s_below (x >>> ((7 : Int32) &&& 31)) 17)), .int (5 + (s_below (x >>> ((3 : Int32) &&& 31)) 1500)), .int (1 + (s_below (x >>> ((6 : Int32) &&& 31)) 15))]) X cn w (lt17 (by decide)) wC_0 rfl (fun sz => c_X4_job l D ca ad E F L S n hlt q wf pp (4 + (s_below (x >>> ((5 : Int32) &&& 31)) 17)) (4 + (s_below (x >>> ((7 : Int32) &&& 31)) 17)) (5 + (s_below (x >>> ((3 : Int32) &&& 31)) 1500)) (1 + (s_below (x >>> ((6 : Int32) &&& 31)) 15)) (by rw [h0]) sz) (bg_V kw_425 kw_426 kw_427 kw_31 kw_428) rfl rfl (by decide +kernel) ⟨(Nat.le_of_ble_eq_true rfl), (Nat.le_of_ble_eq_true rfl)⟩ rfl hl.1 rfl (Nat.le_of_ble_eq_true rfl) dL_act_114 ⟨(Nat.le_of_ble_eq_true rfl), (Nat.le_of_ble_eq_true rfl)⟩) (fun q9 H locs w => ?_)
  have hadu : ad 0 = va_up ad (17 + n) q9 0 := by simp only [va_up]; rw [if_neg (by omega)]
  obtain ⟨ad2, ead⟩ : ∃ f, f = va_up ad (17 + n) q9 := ⟨_, rfl⟩
  rw [← ead] at w hadu
  rw [hadu] at hl
  refine lv_aload_n X.1 X.2.1 dL_act_117 rfl (lv_at hl 0 rfl) ?_
  refine lv_iconst (v := 0) X.1 X.2.1 dL_act_118 (by decide) ?_
  have h502 : (erW 10 0) = 0 := (by decide)
  refine w_calli cn w (w_runV (n := 1) (As := [.int 0]) X cn w (lt17 (by decide)) wC_0 rfl (fun sz => met_of (c_X4_many l D ca ad2 E (s_jobF F S n pp (4 + s_below (x >>> ((5 : Int32) &&& 31)) 17) (4 + s_below (x >>> ((7 : Int32) &&& 31)) 17) (5 + s_below (x >>> ((3 : Int32) &&& 31)) 1500) (1 + s_below (x >>> ((6 : Int32) &&& 31)) 15)) (s_jobL L n) (nwS S n pp.toNatClampNeg) (n + 1) hlt q wf2 0 0 0 (fun h => (h h502).elim) sz) h502) (bg_V kw_179 kw_180 kw_181 kw_31 kw_182) rfl rfl (by decide +kernel) ⟨(Nat.le_of_ble_eq_true rfl), (Nat.le_of_ble_eq_true rfl)⟩ rfl hl.1 rfl (Nat.le_of_ble_eq_true rfl) dL_act_119 ⟨(Nat.le_of_ble_eq_true rfl), (Nat.le_of_ble_eq_true rfl)⟩) (fun r501 u H locs hp w => ?_)
  obtain ⟨E503, q504⟩ := u
  obtain ⟨-, rfl, h505⟩ := hp
  have h505 : q504 = ((s_jobF F S n pp (4 + s_below (x >>> ((5 : Int32) &&& 31)) 17) (4 + s_below (x >>> ((7 : Int32) &&& 31)) 17) (5 + s_below (x >>> ((3 : Int32) &&& 31)) 1500) (1 + s_below (x >>> ((6 : Int32) &&& 31)) 15)), (s_jobL L n), (nwS S n pp.toNatClampNeg), (n + 1)) := h505
  subst h505
  refine lv_iconst (v := 1) X.1 X.2.1 dL_act_122 (by decide) ?_
  refine lv_isub X.1 X.2.1 dL_act_123 ?_
  refine lv_icmp_ne (tgt := 131) X.1 X.2.1 dL_act_124 (by decide) (fun c506 => ?_) (fun c506 => ?_)
  ·
    refine lv_iconst (v := 0) X.1 X.2.1 dL_act_131 (by decide) ?_
    subst ead
    refine W.widen (k := 1) (n := 15) (Nat.le_of_ble_eq_true rfl) (Nat.le_of_ble_eq_true rfl) ?_
    exact W.zret X.1 X.2.1 hr rfl (fun t ht hW => ⟨⟨0, (E503, q9), rfl, by simp only [eq_false c506, or_true, true_or, or_self, or_false, false_or, and_true, true_and, and_false, false_and, not_true, not_false_iff, if_true, if_false], by rw [ht]; exact w.1, va_K.moved hW.alike w.2.2.1, w.2.1⟩, w.2.2.2.F ht⟩) w.2.2.2.2.2 dL_act_132
  ·
    refine lv_iconst (v := 1) X.1 X.2.1 dL_act_127 (by decide) ?_
    refine lv_goto (tgt := 132) X.1 X.2.1 dL_act_128 (by decide) ?_
    subst ead
    refine W.widen (k := 1) (n := 15) (Nat.le_of_ble_eq_true rfl) (Nat.le_of_ble_eq_true rfl) ?_
    exact W.zret X.1 X.2.1 hr rfl (fun t ht hW => ⟨⟨1, (E503, q9), rfl, by simp only [eq_true c506, or_true, true_or, or_self, or_false, false_or, and_true, true_and, and_false, false_and, not_true, not_false_iff, if_true, if_false], by rw [ht]; exact w.1, va_K.moved hW.alike w.2.2.1, w.2.1⟩, w.2.2.2.F ht⟩) w.2.2.2.2.2 dL_act_132

set_option maxHeartbeats 4000000 in
set_option maxRecDepth 100000 in
theorem ca_job1 (l : Launch) (D : va_G) (ca : Nat → ClassId) (ad : Nat → Nat) (E : Em) (F : Fm) (L : Lm) (S : Sm) (n : Nat) (hlt : l.stackTraces = false) (q : Nat → Nat) (hlf : Lf F L S n q) (x jb r pp : Int32) (hkd : s_below x 13 = 1) (h0 : er_job F n pp (4 + s_below (x >>> ((5 : Int32) &&& 31)) 17) (4 + s_below (x >>> ((7 : Int32) &&& 31)) 17) (5 + s_below (x >>> ((3 : Int32) &&& 31)) 1500) (1 + s_below (x >>> ((6 : Int32) &&& 31)) 15) = 0) (wf2 : Wf (s_jobF F S n pp (4 + s_below (x >>> ((5 : Int32) &&& 31)) 17) (4 + s_below (x >>> ((7 : Int32) &&& 31)) 17) (5 + s_below (x >>> ((3 : Int32) &&& 31)) 1500) (1 + s_below (x >>> ((6 : Int32) &&& 31)) 15)) (s_jobL L n) (nwS S n pp.toNatClampNeg) (n + 1) q) (sz : Nat) : Met l yL_act (.codeWith yL_act cL_act 7 (some .boolean) hhA :: BG) { frames := 9, cells := 1, slots := 15, locals := 200 } (Pw D ca ad (E, F, L, S, n) sz [.ref (ad 0), .int x, .int jb, .int r, .int pp]) (Qk D ca ad n (if nI n = s_many (s_jobF F S n pp (4 + s_below (x >>> ((5 : Int32) &&& 31)) 17) (4 + s_below (x >>> ((7 : Int32) &&& 31)) 17) (5 + s_below (x >>> ((3 : Int32) &&& 31)) 1500) (1 + s_below (x >>> ((6 : Int32) &&& 31)) 15)) (n + 1) 0 - 1 then 1 else 0) E (s_jobF F S n pp (4 + s_below (x >>> ((5 : Int32) &&& 31)) 17) (4 + s_below (x >>> ((7 : Int32) &&& 31)) 17) (5 + s_below (x >>> ((3 : Int32) &&& 31)) 1500) (1 + s_below (x >>> ((6 : Int32) &&& 31)) 15)) (s_jobL L n) (nwS S n pp.toNatClampNeg) sz) 1 15 (wA ad n sz) := by
  refine open_A (σ := (E, F, L, S, n)) (Qc := Qk D ca ad n (if nI n = s_many (s_jobF F S n pp (4 + s_below (x >>> ((5 : Int32) &&& 31)) 17) (4 + s_below (x >>> ((7 : Int32) &&& 31)) 17) (5 + s_below (x >>> ((3 : Int32) &&& 31)) 1500) (1 + s_below (x >>> ((6 : Int32) &&& 31)) 15)) (n + 1) 0 - 1 then 1 else 0) E (s_jobF F S n pp (4 + s_below (x >>> ((5 : Int32) &&& 31)) 17) (4 + s_below (x >>> ((7 : Int32) &&& 31)) 17) (5 + s_below (x >>> ((3 : Int32) &&& 31)) 1500) (1 + s_below (x >>> ((6 : Int32) &&& 31)) 15)) (s_jobL L n) (nwS S n pp.toNatClampNeg)) (by decide +kernel) (Nat.le_of_ble_eq_true rfl) ?_
  intro p e s m args below meth c X hr hlk htab w cn ls hl
  have hl : lv_has ls 7 [(0, .ref (ad 0)), (1, .int x), (2, .int jb), (3, .int r), (4, .int pp)] := hl
  have wf := hlf.1
  have hs := wf.2.2.1
  have hJ := wf.2.1.2
  refine lv_iload_n X.1 X.2.1 dL_act_0 rfl (lv_at hl 1 rfl) ?_
  refine lv_bipush (v := 13) X.1 X.2.1 dL_act_1 (by decide) ?_
  refine n_calli w (n_runS (n := 2) (As := [.int x, .int 13]) X (c_L_below l x 13 (by decide)) (bg_S kw_411 kw_412 kw_30 kw_413) rfl rfl (by decide +kernel) ⟨(Nat.le_of_ble_eq_true rfl), (Nat.le_of_ble_eq_true rfl)⟩ rfl hl.1 rfl (Nat.le_of_ble_eq_true rfl) dL_act_3 ⟨(Nat.le_of_ble_eq_true rfl), (Nat.le_of_ble_eq_true rfl)⟩) (fun H locs w => ?_)
  refine W.eq (g2 := F0 m 6 ls [.int 1]) (by rw [hkd]) ?_
  refine lv_tableIn (tgt := 68) X.1 X.2.1 dL_act_6 (by decide) (by decide) rfl (by decide) ?_
  refine lv_aload_n X.1 X.2.1 dL_act_68 rfl (lv_at hl 0 rfl) ?_
  refine lv_iload X.1 X.2.1 dL_act_69 (lv_at hl 4 rfl) ?_
  refine lv_iconst (v := 4) X.1 X.2.1 dL_act_71 (by decide) ?_
  refine lv_iload_n X.1 X.2.1 dL_act_72 rfl (lv_at hl 1 rfl) ?_
  refine lv_iconst (v := 5) X.1 X.2.1 dL_act_73 (by decide) ?_
  refine lv_ishr X.1 X.2.1 dL_act_74 ?_
  refine lv_bipush (v := 17) X.1 X.2.1 dL_act_75 (by decide) ?_
  refine n_calli w (n_runS (n := 2) (As := [.int (x >>> ((5 : Int32) &&& 31)), .int 17]) X (c_L_below l (x >>> ((5 : Int32) &&& 31)) 17 (by decide)) (bg_S kw_411 kw_412 kw_30 kw_413) rfl rfl (by decide +kernel) ⟨(Nat.le_of_ble_eq_true rfl), (Nat.le_of_ble_eq_true rfl)⟩ rfl hl.1 rfl (Nat.le_of_ble_eq_true rfl) dL_act_77 ⟨(Nat.le_of_ble_eq_true rfl), (Nat.le_of_ble_eq_true rfl)⟩) (fun H locs w => ?_)
  refine lv_iadd X.1 X.2.1 dL_act_80 ?_
  refine lv_iconst (v := 4) X.1 X.2.1 dL_act_81 (by decide) ?_
  refine lv_iload_n X.1 X.2.1 dL_act_82 rfl (lv_at hl 1 rfl) ?_
  refine lv_bipush (v := 7) X.1 X.2.1 dL_act_83 (by decide) ?_
  refine lv_ishr X.1 X.2.1 dL_act_85 ?_
  refine lv_bipush (v := 17) X.1 X.2.1 dL_act_86 (by decide) ?_
  refine n_calli w (n_runS (n := 2) (As := [.int (x >>> ((7 : Int32) &&& 31)), .int 17]) X (c_L_below l (x >>> ((7 : Int32) &&& 31)) 17 (by decide)) (bg_S kw_411 kw_412 kw_30 kw_413) rfl rfl (by decide +kernel) ⟨(Nat.le_of_ble_eq_true rfl), (Nat.le_of_ble_eq_true rfl)⟩ rfl hl.1 rfl (Nat.le_of_ble_eq_true rfl) dL_act_88 ⟨(Nat.le_of_ble_eq_true rfl), (Nat.le_of_ble_eq_true rfl)⟩) (fun H locs w => ?_)
  refine lv_iadd X.1 X.2.1 dL_act_91 ?_
  refine lv_iconst (v := 5) X.1 X.2.1 dL_act_92 (by decide) ?_
  refine lv_iload_n X.1 X.2.1 dL_act_93 rfl (lv_at hl 1 rfl) ?_
  refine lv_iconst (v := 3) X.1 X.2.1 dL_act_94 (by decide) ?_
  refine lv_ishr X.1 X.2.1 dL_act_95 ?_
  refine lv_sipush (v := 1500) X.1 X.2.1 dL_act_96 (by decide) ?_
  refine n_calli w (n_runS (n := 2) (As := [.int (x >>> ((3 : Int32) &&& 31)), .int 1500]) X (c_L_below l (x >>> ((3 : Int32) &&& 31)) 1500 (by decide)) (bg_S kw_411 kw_412 kw_30 kw_413) rfl rfl (by decide +kernel) ⟨(Nat.le_of_ble_eq_true rfl), (Nat.le_of_ble_eq_true rfl)⟩ rfl hl.1 rfl (Nat.le_of_ble_eq_true rfl) dL_act_99 ⟨(Nat.le_of_ble_eq_true rfl), (Nat.le_of_ble_eq_true rfl)⟩) (fun H locs w => ?_)
  refine lv_iadd X.1 X.2.1 dL_act_102 ?_
  refine lv_iconst (v := 1) X.1 X.2.1 dL_act_103 (by decide) ?_
  refine lv_iload_n X.1 X.2.1 dL_act_104 rfl (lv_at hl 1 rfl) ?_
  refine lv_bipush (v := 6) X.1 X.2.1 dL_act_105 (by decide) ?_
  refine lv_ishr X.1 X.2.1 dL_act_107 ?_
  refine lv_bipush (v := 15) X.1 X.2.1 dL_act_108 (by decide) ?_
  refine n_calli w (n_runS (n := 2) (As := [.int (x >>> ((6 : Int32) &&& 31)), .int 15]) X (c_L_below l (x >>> ((6 : Int32) &&& 31)) 15 (by decide)) (bg_S kw_411 kw_412 kw_30 kw_413) rfl rfl (by decide +kernel) ⟨(Nat.le_of_ble_eq_true rfl), (Nat.le_of_ble_eq_true rfl)⟩ rfl hl.1 rfl (Nat.le_of_ble_eq_true rfl) dL_act_110 ⟨(Nat.le_of_ble_eq_true rfl), (Nat.le_of_ble_eq_true rfl)⟩) (fun H locs w => ?_)
  refine lv_iadd X.1 X.2.1 dL_act_113 ?_
  refine w_callj cn w (w_runV (n := 5) (As := [.int pp, .int (4 + (s_below (x >>> ((5 : Int32) &&& 31)) 17)), .int (4 + (s_below (x >>> ((7 : Int32) &&& 31)) 17)), .int (5 + (s_below (x >>> ((3 : Int32) &&& 31)) 1500)), .int (1 + (s_below (x >>> ((6 : Int32) &&& 31)) 15))]) X cn w (lt17 (by decide)) wC_0 rfl (fun sz => c_X4_job l D ca ad E F L S n hlt q wf pp (4 + (s_below (x >>> ((5 : Int32) &&& 31)) 17)) (4 + (s_below (x >>> ((7 : Int32) &&& 31)) 17)) (5 + (s_below (x >>> ((3 : Int32) &&& 31)) 1500)) (1 + (s_below (x >>> ((6 : Int32) &&& 31)) 15)) (by rw [h0]) sz) (bg_V kw_425 kw_426 kw_427 kw_31 kw_428) rfl rfl (by decide +kernel) ⟨(Nat.le_of_ble_eq_true rfl), (Nat.le_of_ble_eq_true rfl)⟩ rfl hl.1 rfl (Nat.le_of_ble_eq_true rfl) dL_act_114 ⟨(Nat.le_of_ble_eq_true rfl), (Nat.le_of_ble_eq_true rfl)⟩) (fun q9 H locs w => ?_)
  have hadu : ad 0 = va_up ad (17 + n) q9 0 := by simp only [va_up]; rw [if_neg (by omega)]
  obtain ⟨ad2, ead⟩ : ∃ f, f = va_up ad (17 + n) q9 := ⟨_, rfl⟩
  rw [← ead] at w hadu
  rw [hadu] at hl
  refine lv_aload_n X.1 X.2.1 dL_act_117 rfl (lv_at hl 0 rfl) ?_
  refine lv_iconst (v := 0) X.1 X.2.1 dL_act_118 (by decide) ?_
  have h502 : (erW 10 0) = 0 := (by decide)
  refine w_calli cn w (w_runV (n := 1) (As := [.int 0]) X cn w (lt17 (by decide)) wC_0 rfl (fun sz => met_of (c_X4_many l D ca ad2 E (s_jobF F S n pp (4 + s_below (x >>> ((5 : Int32) &&& 31)) 17) (4 + s_below (x >>> ((7 : Int32) &&& 31)) 17) (5 + s_below (x >>> ((3 : Int32) &&& 31)) 1500) (1 + s_below (x >>> ((6 : Int32) &&& 31)) 15)) (s_jobL L n) (nwS S n pp.toNatClampNeg) (n + 1) hlt q wf2 0 0 0 (fun h => (h h502).elim) sz) h502) (bg_V kw_179 kw_180 kw_181 kw_31 kw_182) rfl rfl (by decide +kernel) ⟨(Nat.le_of_ble_eq_true rfl), (Nat.le_of_ble_eq_true rfl)⟩ rfl hl.1 rfl (Nat.le_of_ble_eq_true rfl) dL_act_119 ⟨(Nat.le_of_ble_eq_true rfl), (Nat.le_of_ble_eq_true rfl)⟩) (fun r501 u H locs hp w => ?_)
  obtain ⟨E503, q504⟩ := u
  obtain ⟨-, rfl, h505⟩ := hp
  have h505 : q504 = ((s_jobF F S n pp (4 + s_below (x >>> ((5 : Int32) &&& 31)) 17) (4 + s_below (x >>> ((7 : Int32) &&& 31)) 17) (5 + s_below (x >>> ((3 : Int32) &&& 31)) 1500) (1 + s_below (x >>> ((6 : Int32) &&& 31)) 15)), (s_jobL L n), (nwS S n pp.toNatClampNeg), (n + 1)) := h505
  subst h505
  refine lv_iconst (v := 1) X.1 X.2.1 dL_act_122 (by decide) ?_
  refine lv_isub X.1 X.2.1 dL_act_123 ?_
  refine lv_icmp_ne (tgt := 131) X.1 X.2.1 dL_act_124 (by decide) (fun c506 => ?_) (fun c506 => ?_)
  ·
    refine lv_iconst (v := 0) X.1 X.2.1 dL_act_131 (by decide) ?_
    subst ead
    refine W.widen (k := 1) (n := 15) (Nat.le_of_ble_eq_true rfl) (Nat.le_of_ble_eq_true rfl) ?_
    exact W.zret X.1 X.2.1 hr rfl (fun t ht hW => ⟨⟨0, (E503, q9), rfl, by simp only [eq_false c506, or_true, true_or, or_self, or_false, false_or, and_true, true_and, and_false, false_and, not_true, not_false_iff, if_true, if_false], by rw [ht]; exact w.1, va_K.moved hW.alike w.2.2.1, w.2.1⟩, w.2.2.2.F ht⟩) w.2.2.2.2.2 dL_act_132
  ·
    refine lv_iconst (v := 1) X.1 X.2.1 dL_act_127 (by decide) ?_
    refine lv_goto (tgt := 132) X.1 X.2.1 dL_act_128 (by decide) ?_
    subst ead
    refine W.widen (k := 1) (n := 15) (Nat.le_of_ble_eq_true rfl) (Nat.le_of_ble_eq_true rfl) ?_
    exact W.zret X.1 X.2.1 hr rfl (fun t ht hW => ⟨⟨1, (E503, q9), rfl, by simp only [eq_true c506, or_true, true_or, or_self, or_false, false_or, and_true, true_and, and_false, false_and, not_true, not_false_iff, if_true, if_false], by rw [ht]; exact w.1, va_K.moved hW.alike w.2.2.1, w.2.1⟩, w.2.2.2.F ht⟩) w.2.2.2.2.2 dL_act_132

set_option maxHeartbeats 4000000 in
set_option maxRecDepth 100000 in
theorem ca_job0_x (l : Launch) (D : va_G) (ca : Nat → ClassId) (ad : Nat → Nat) (E : Em) (F : Fm) (L : Lm) (S : Sm) (n : Nat) (hlt : l.stackTraces = false) (q : Nat → Nat) (hlf : Lf F L S n q) (x jb r pp : Int32) (hkd : s_below x 13 = 0) (hx : er_job F n pp (4 + s_below (x >>> ((5 : Int32) &&& 31)) 17) (4 + s_below (x >>> ((7 : Int32) &&& 31)) 17) (5 + s_below (x >>> ((3 : Int32) &&& 31)) 1500) (1 + s_below (x >>> ((6 : Int32) &&& 31)) 15) = 3) (sz : Nat) : Met l yL_act (.codeWith yL_act cL_act 7 (some .boolean) hhA :: BG) { frames := 9, cells := 1, slots := 15, locals := 200 } (Pw D ca ad (E, F, L, S, n) sz [.ref (ad 0), .int x, .int jb, .int r, .int pp]) (Qi D ca ad n (fun v u => v = (if s_below x 13 < 4 then 1 else if s_below x 13 ≤ 5 then 0 else if 12 ≤ s_below x 13 then 0 else 1) ∧ u.2 = (F, L, S, n)) sz) 1 15 (wA ad n sz) := by
  refine open_A (σ := (E, F, L, S, n)) (Qc := Qi D ca ad n (fun v u => v = (if s_below x 13 < 4 then 1 else if s_below x 13 ≤ 5 then 0 else if 12 ≤ s_below x 13 then 0 else 1) ∧ u.2 = (F, L, S, n))) (by decide +kernel) (Nat.le_of_ble_eq_true rfl) ?_
  intro p e s m args below meth c X hr hlk htab w cn ls hl
  have hl : lv_has ls 7 [(0, .ref (ad 0)), (1, .int x), (2, .int jb), (3, .int r), (4, .int pp)] := hl
  have wf := hlf.1
  have hs := wf.2.2.1
  have hJ := wf.2.1.2
  refine lv_iload_n X.1 X.2.1 dL_act_0 rfl (lv_at hl 1 rfl) ?_
  refine lv_bipush (v := 13) X.1 X.2.1 dL_act_1 (by decide) ?_
  refine n_calli w (n_runS (n := 2) (As := [.int x, .int 13]) X (c_L_below l x 13 (by decide)) (bg_S kw_411 kw_412 kw_30 kw_413) rfl rfl (by decide +kernel) ⟨(Nat.le_of_ble_eq_true rfl), (Nat.le_of_ble_eq_true rfl)⟩ rfl hl.1 rfl (Nat.le_of_ble_eq_true rfl) dL_act_3 ⟨(Nat.le_of_ble_eq_true rfl), (Nat.le_of_ble_eq_true rfl)⟩) (fun H locs w => ?_)
  refine W.eq (g2 := F0 m 6 ls [.int 0]) (by rw [hkd]) ?_
  refine lv_tableIn (tgt := 68) X.1 X.2.1 dL_act_6 (by decide) (by decide) rfl (by decide) ?_
  refine lv_aload_n X.1 X.2.1 dL_act_68 rfl (lv_at hl 0 rfl) ?_
  refine lv_iload X.1 X.2.1 dL_act_69 (lv_at hl 4 rfl) ?_
  refine lv_iconst (v := 4) X.1 X.2.1 dL_act_71 (by decide) ?_
  refine lv_iload_n X.1 X.2.1 dL_act_72 rfl (lv_at hl 1 rfl) ?_
  refine lv_iconst (v := 5) X.1 X.2.1 dL_act_73 (by decide) ?_
  refine lv_ishr X.1 X.2.1 dL_act_74 ?_
  refine lv_bipush (v := 17) X.1 X.2.1 dL_act_75 (by decide) ?_
  refine n_calli w (n_runS (n := 2) (As := [.int (x >>> ((5 : Int32) &&& 31)), .int 17]) X (c_L_below l (x >>> ((5 : Int32) &&& 31)) 17 (by decide)) (bg_S kw_411 kw_412 kw_30 kw_413) rfl rfl (by decide +kernel) ⟨(Nat.le_of_ble_eq_true rfl), (Nat.le_of_ble_eq_true rfl)⟩ rfl hl.1 rfl (Nat.le_of_ble_eq_true rfl) dL_act_77 ⟨(Nat.le_of_ble_eq_true rfl), (Nat.le_of_ble_eq_true rfl)⟩) (fun H locs w => ?_)
  refine lv_iadd X.1 X.2.1 dL_act_80 ?_
  refine lv_iconst (v := 4) X.1 X.2.1 dL_act_81 (by decide) ?_
  refine lv_iload_n X.1 X.2.1 dL_act_82 rfl (lv_at hl 1 rfl) ?_
  refine lv_bipush (v := 7) X.1 X.2.1 dL_act_83 (by decide) ?_
  refine lv_ishr X.1 X.2.1 dL_act_85 ?_
  refine lv_bipush (v := 17) X.1 X.2.1 dL_act_86 (by decide) ?_
  refine n_calli w (n_runS (n := 2) (As := [.int (x >>> ((7 : Int32) &&& 31)), .int 17]) X (c_L_below l (x >>> ((7 : Int32) &&& 31)) 17 (by decide)) (bg_S kw_411 kw_412 kw_30 kw_413) rfl rfl (by decide +kernel) ⟨(Nat.le_of_ble_eq_true rfl), (Nat.le_of_ble_eq_true rfl)⟩ rfl hl.1 rfl (Nat.le_of_ble_eq_true rfl) dL_act_88 ⟨(Nat.le_of_ble_eq_true rfl), (Nat.le_of_ble_eq_true rfl)⟩) (fun H locs w => ?_)
  refine lv_iadd X.1 X.2.1 dL_act_91 ?_
  refine lv_iconst (v := 5) X.1 X.2.1 dL_act_92 (by decide) ?_
  refine lv_iload_n X.1 X.2.1 dL_act_93 rfl (lv_at hl 1 rfl) ?_
  refine lv_iconst (v := 3) X.1 X.2.1 dL_act_94 (by decide) ?_
  refine lv_ishr X.1 X.2.1 dL_act_95 ?_
  refine lv_sipush (v := 1500) X.1 X.2.1 dL_act_96 (by decide) ?_
  refine n_calli w (n_runS (n := 2) (As := [.int (x >>> ((3 : Int32) &&& 31)), .int 1500]) X (c_L_below l (x >>> ((3 : Int32) &&& 31)) 1500 (by decide)) (bg_S kw_411 kw_412 kw_30 kw_413) rfl rfl (by decide +kernel) ⟨(Nat.le_of_ble_eq_true rfl), (Nat.le_of_ble_eq_true rfl)⟩ rfl hl.1 rfl (Nat.le_of_ble_eq_true rfl) dL_act_99 ⟨(Nat.le_of_ble_eq_true rfl), (Nat.le_of_ble_eq_true rfl)⟩) (fun H locs w => ?_)
  refine lv_iadd X.1 X.2.1 dL_act_102 ?_
  refine lv_iconst (v := 1) X.1 X.2.1 dL_act_103 (by decide) ?_
  refine lv_iload_n X.1 X.2.1 dL_act_104 rfl (lv_at hl 1 rfl) ?_
  refine lv_bipush (v := 6) X.1 X.2.1 dL_act_105 (by decide) ?_
  refine lv_ishr X.1 X.2.1 dL_act_107 ?_
  refine lv_bipush (v := 15) X.1 X.2.1 dL_act_108 (by decide) ?_
  refine n_calli w (n_runS (n := 2) (As := [.int (x >>> ((6 : Int32) &&& 31)), .int 15]) X (c_L_below l (x >>> ((6 : Int32) &&& 31)) 15 (by decide)) (bg_S kw_411 kw_412 kw_30 kw_413) rfl rfl (by decide +kernel) ⟨(Nat.le_of_ble_eq_true rfl), (Nat.le_of_ble_eq_true rfl)⟩ rfl hl.1 rfl (Nat.le_of_ble_eq_true rfl) dL_act_110 ⟨(Nat.le_of_ble_eq_true rfl), (Nat.le_of_ble_eq_true rfl)⟩) (fun H locs w => ?_)
  refine lv_iadd X.1 X.2.1 dL_act_113 ?_
  have h2 : (er_job F n pp (4 + (s_below (x >>> ((5 : Int32) &&& 31)) 17)) (4 + (s_below (x >>> ((7 : Int32) &&& 31)) 17)) (5 + (s_below (x >>> ((3 : Int32) &&& 31)) 1500)) (1 + (s_below (x >>> ((6 : Int32) &&& 31)) 15))) = 3 := hx
  refine x_caught X cn w (xw_runV (n := 5) (As := [.int pp, .int (4 + (s_below (x >>> ((5 : Int32) &&& 31)) 17)), .int (4 + (s_below (x >>> ((7 : Int32) &&& 31)) 17)), .int (5 + (s_below (x >>> ((3 : Int32) &&& 31)) 1500)), .int (1 + (s_below (x >>> ((6 : Int32) &&& 31)) 15))]) X cn w (lt17 (by decide)) wC_0 rfl (fun sz => cx_X4_job l D ca ad E F L S n hlt q wf pp (4 + (s_below (x >>> ((5 : Int32) &&& 31)) 17)) (4 + (s_below (x >>> ((7 : Int32) &&& 31)) 17)) (5 + (s_below (x >>> ((3 : Int32) &&& 31)) 1500)) (1 + (s_below (x >>> ((6 : Int32) &&& 31)) 15)) (by rw [hx]; decide) 1 6 (fun _ => ⟨Nat.le_refl 1, Nat.le_refl 6⟩) sz) (bg_V kw_425 kw_426 kw_427 kw_31 kw_428) rfl rfl (by decide +kernel) ⟨(Nat.le_of_ble_eq_true rfl), (Nat.le_of_ble_eq_true rfl)⟩ rfl hl.1 rfl (Nat.le_of_ble_eq_true rfl) dL_act_114 ⟨(Nat.le_of_ble_eq_true rfl), (Nat.le_of_ble_eq_true rfl)⟩) (fun st v t hq => by obtain ⟨⟨r, u, -, hp, -⟩, -⟩ := hq; first | exact hp.elim | (have h9 := hp.1; omega)) eIS eIS (by rw [h2]; rfl) (ATB.take 22) ⟨0, 132, 570, 106⟩ (ATB.drop 23) (htab.trans (by decide +kernel)) (x_passC (by decide +kernel) (X.2.2.2.2 _ kw_422) (cn.2.1.2.2.1 (eIS, eIO) (by decide)) (X.2.2.2.2 _ kw_423) (cn.2.1.2.2.1 (eIS, eIA) (by decide))) (by decide +kernel) (by decide) (X.2.2.2.2 _ kw_424) (cn.2.1.use kw_445) (fun q9 u H locs hu w => ?_)
  obtain ⟨E3, q4⟩ := u
  have hu : q4 = (F, L, S, n) := hu
  subst hu
  refine lv_astore (lv' := [(5, .ref q9), (0, .ref (ad 0)), (1, .int x), (2, .int jb), (3, .int r), (4, .int pp)]) X.1 X.2.1 dL_act_570 hl (by decide) rfl (fun ls hl => ?_)
  refine lv_iload_n X.1 X.2.1 dL_act_572 rfl (lv_at hl 2 rfl) ?_
  refine lv_bipush (v := 13) X.1 X.2.1 dL_act_573 (by decide) ?_
  refine n_calli w (n_runS (n := 2) (As := [.int x, .int 13]) X (c_L_below l x 13 (by decide)) (bg_S kw_411 kw_412 kw_30 kw_413) rfl rfl (by decide +kernel) ⟨(Nat.le_of_ble_eq_true rfl), (Nat.le_of_ble_eq_true rfl)⟩ rfl hl.1 rfl (Nat.le_of_ble_eq_true rfl) dL_act_575 ⟨(Nat.le_of_ble_eq_true rfl), (Nat.le_of_ble_eq_true rfl)⟩) (fun H locs w => ?_)
  refine lv_iconst (v := 4) X.1 X.2.1 dL_act_578 (by decide) ?_
  refine lv_icmp_lt (tgt := 603) X.1 X.2.1 dL_act_579 (by decide) (fun c5 => ?_) (fun c5 => ?_)
  ·
    refine lv_iconst (v := 1) X.1 X.2.1 dL_act_603 (by decide) ?_
    refine lv_goto (tgt := 608) X.1 X.2.1 dL_act_604 (by decide) ?_
    exact w_iret X hr hlk w (by  exact ⟨by simp only [eq_true c5, or_true, true_or, or_self, or_false, false_or, and_true, true_and, and_false, false_and, not_true, not_false_iff, if_true, if_false], rfl⟩) dL_act_608 rfl (Nat.le_of_ble_eq_true rfl) (Nat.le_of_ble_eq_true rfl)
  ·
    refine lv_iload_n X.1 X.2.1 dL_act_582 rfl (lv_at hl 2 rfl) ?_
    refine lv_bipush (v := 13) X.1 X.2.1 dL_act_583 (by decide) ?_
    refine n_calli w (n_runS (n := 2) (As := [.int x, .int 13]) X (c_L_below l x 13 (by decide)) (bg_S kw_411 kw_412 kw_30 kw_413) rfl rfl (by decide +kernel) ⟨(Nat.le_of_ble_eq_true rfl), (Nat.le_of_ble_eq_true rfl)⟩ rfl hl.1 rfl (Nat.le_of_ble_eq_true rfl) dL_act_585 ⟨(Nat.le_of_ble_eq_true rfl), (Nat.le_of_ble_eq_true rfl)⟩) (fun H locs w => ?_)
    refine lv_iconst (v := 5) X.1 X.2.1 dL_act_588 (by decide) ?_
    refine lv_icmp_le (tgt := 607) X.1 X.2.1 dL_act_589 (by decide) (fun c6 => ?_) (fun c6 => ?_)
    ·
      refine lv_iconst (v := 0) X.1 X.2.1 dL_act_607 (by decide) ?_
      exact w_iret X hr hlk w (by  exact ⟨by simp only [eq_false c5, eq_true c6, or_true, true_or, or_self, or_false, false_or, and_true, true_and, and_false, false_and, not_true, not_false_iff, if_true, if_false], rfl⟩) dL_act_608 rfl (Nat.le_of_ble_eq_true rfl) (Nat.le_of_ble_eq_true rfl)
    ·
      refine lv_iload_n X.1 X.2.1 dL_act_592 rfl (lv_at hl 2 rfl) ?_
      refine lv_bipush (v := 13) X.1 X.2.1 dL_act_593 (by decide) ?_
      refine n_calli w (n_runS (n := 2) (As := [.int x, .int 13]) X (c_L_below l x 13 (by decide)) (bg_S kw_411 kw_412 kw_30 kw_413) rfl rfl (by decide +kernel) ⟨(Nat.le_of_ble_eq_true rfl), (Nat.le_of_ble_eq_true rfl)⟩ rfl hl.1 rfl (Nat.le_of_ble_eq_true rfl) dL_act_595 ⟨(Nat.le_of_ble_eq_true rfl), (Nat.le_of_ble_eq_true rfl)⟩) (fun H locs w => ?_)
      refine lv_bipush (v := 12) X.1 X.2.1 dL_act_598 (by decide) ?_
      refine lv_icmp_ge (tgt := 607) X.1 X.2.1 dL_act_600 (by decide) (fun c7 => ?_) (fun c7 => ?_)
      ·
        refine lv_iconst (v := 0) X.1 X.2.1 dL_act_607 (by decide) ?_
        exact w_iret X hr hlk w (by  exact ⟨by simp only [eq_false c5, eq_false c6, eq_true c7, or_true, true_or, or_self, or_false, false_or, and_true, true_and, and_false, false_and, not_true, not_false_iff, if_true, if_false], rfl⟩) dL_act_608 rfl (Nat.le_of_ble_eq_true rfl) (Nat.le_of_ble_eq_true rfl)
      ·
        refine lv_iconst (v := 1) X.1 X.2.1 dL_act_603 (by decide) ?_
        refine lv_goto (tgt := 608) X.1 X.2.1 dL_act_604 (by decide) ?_
        exact w_iret X hr hlk w (by  exact ⟨by simp only [eq_false c5, eq_false c6, eq_false c7, or_true, true_or, or_self, or_false, false_or, and_true, true_and, and_false, false_and, not_true, not_false_iff, if_true, if_false], rfl⟩) dL_act_608 rfl (Nat.le_of_ble_eq_true rfl) (Nat.le_of_ble_eq_true rfl)

set_option maxHeartbeats 4000000 in
set_option maxRecDepth 100000 in
theorem ca_job1_x (l : Launch) (D : va_G) (ca : Nat → ClassId) (ad : Nat → Nat) (E : Em) (F : Fm) (L : Lm) (S : Sm) (n : Nat) (hlt : l.stackTraces = false) (q : Nat → Nat) (hlf : Lf F L S n q) (x jb r pp : Int32) (hkd : s_below x 13 = 1) (hx : er_job F n pp (4 + s_below (x >>> ((5 : Int32) &&& 31)) 17) (4 + s_below (x >>> ((7 : Int32) &&& 31)) 17) (5 + s_below (x >>> ((3 : Int32) &&& 31)) 1500) (1 + s_below (x >>> ((6 : Int32) &&& 31)) 15) = 3) (sz : Nat) : Met l yL_act (.codeWith yL_act cL_act 7 (some .boolean) hhA :: BG) { frames := 9, cells := 1, slots := 15, locals := 200 } (Pw D ca ad (E, F, L, S, n) sz [.ref (ad 0), .int x, .int jb, .int r, .int pp]) (Qi D ca ad n (fun v u => v = (if s_below x 13 < 4 then 1 else if s_below x 13 ≤ 5 then 0 else if 12 ≤ s_below x 13 then 0 else 1) ∧ u.2 = (F, L, S, n)) sz) 1 15 (wA ad n sz) := by
  refine open_A (σ := (E, F, L, S, n)) (Qc := Qi D ca ad n (fun v u => v = (if s_below x 13 < 4 then 1 else if s_below x 13 ≤ 5 then 0 else if 12 ≤ s_below x 13 then 0 else 1) ∧ u.2 = (F, L, S, n))) (by decide +kernel) (Nat.le_of_ble_eq_true rfl) ?_
  intro p e s m args below meth c X hr hlk htab w cn ls hl
  have hl : lv_has ls 7 [(0, .ref (ad 0)), (1, .int x), (2, .int jb), (3, .int r), (4, .int pp)] := hl
  have wf := hlf.1
  have hs := wf.2.2.1
  have hJ := wf.2.1.2
  refine lv_iload_n X.1 X.2.1 dL_act_0 rfl (lv_at hl 1 rfl) ?_
  refine lv_bipush (v := 13) X.1 X.2.1 dL_act_1 (by decide) ?_
  refine n_calli w (n_runS (n := 2) (As := [.int x, .int 13]) X (c_L_below l x 13 (by decide)) (bg_S kw_411 kw_412 kw_30 kw_413) rfl rfl (by decide +kernel) ⟨(Nat.le_of_ble_eq_true rfl), (Nat.le_of_ble_eq_true rfl)⟩ rfl hl.1 rfl (Nat.le_of_ble_eq_true rfl) dL_act_3 ⟨(Nat.le_of_ble_eq_true rfl), (Nat.le_of_ble_eq_true rfl)⟩) (fun H locs w => ?_)
  refine W.eq (g2 := F0 m 6 ls [.int 1]) (by rw [hkd]) ?_
  refine lv_tableIn (tgt := 68) X.1 X.2.1 dL_act_6 (by decide) (by decide) rfl (by decide) ?_
  refine lv_aload_n X.1 X.2.1 dL_act_68 rfl (lv_at hl 0 rfl) ?_
  refine lv_iload X.1 X.2.1 dL_act_69 (lv_at hl 4 rfl) ?_
  refine lv_iconst (v := 4) X.1 X.2.1 dL_act_71 (by decide) ?_
  refine lv_iload_n X.1 X.2.1 dL_act_72 rfl (lv_at hl 1 rfl) ?_
  refine lv_iconst (v := 5) X.1 X.2.1 dL_act_73 (by decide) ?_
  refine lv_ishr X.1 X.2.1 dL_act_74 ?_
  refine lv_bipush (v := 17) X.1 X.2.1 dL_act_75 (by decide) ?_
  refine n_calli w (n_runS (n := 2) (As := [.int (x >>> ((5 : Int32) &&& 31)), .int 17]) X (c_L_below l (x >>> ((5 : Int32) &&& 31)) 17 (by decide)) (bg_S kw_411 kw_412 kw_30 kw_413) rfl rfl (by decide +kernel) ⟨(Nat.le_of_ble_eq_true rfl), (Nat.le_of_ble_eq_true rfl)⟩ rfl hl.1 rfl (Nat.le_of_ble_eq_true rfl) dL_act_77 ⟨(Nat.le_of_ble_eq_true rfl), (Nat.le_of_ble_eq_true rfl)⟩) (fun H locs w => ?_)
  refine lv_iadd X.1 X.2.1 dL_act_80 ?_
  refine lv_iconst (v := 4) X.1 X.2.1 dL_act_81 (by decide) ?_
  refine lv_iload_n X.1 X.2.1 dL_act_82 rfl (lv_at hl 1 rfl) ?_
  refine lv_bipush (v := 7) X.1 X.2.1 dL_act_83 (by decide) ?_
  refine lv_ishr X.1 X.2.1 dL_act_85 ?_
  refine lv_bipush (v := 17) X.1 X.2.1 dL_act_86 (by decide) ?_
  refine n_calli w (n_runS (n := 2) (As := [.int (x >>> ((7 : Int32) &&& 31)), .int 17]) X (c_L_below l (x >>> ((7 : Int32) &&& 31)) 17 (by decide)) (bg_S kw_411 kw_412 kw_30 kw_413) rfl rfl (by decide +kernel) ⟨(Nat.le_of_ble_eq_true rfl), (Nat.le_of_ble_eq_true rfl)⟩ rfl hl.1 rfl (Nat.le_of_ble_eq_true rfl) dL_act_88 ⟨(Nat.le_of_ble_eq_true rfl), (Nat.le_of_ble_eq_true rfl)⟩) (fun H locs w => ?_)
  refine lv_iadd X.1 X.2.1 dL_act_91 ?_
  refine lv_iconst (v := 5) X.1 X.2.1 dL_act_92 (by decide) ?_
  refine lv_iload_n X.1 X.2.1 dL_act_93 rfl (lv_at hl 1 rfl) ?_
  refine lv_iconst (v := 3) X.1 X.2.1 dL_act_94 (by decide) ?_
  refine lv_ishr X.1 X.2.1 dL_act_95 ?_
  refine lv_sipush (v := 1500) X.1 X.2.1 dL_act_96 (by decide) ?_
  refine n_calli w (n_runS (n := 2) (As := [.int (x >>> ((3 : Int32) &&& 31)), .int 1500]) X (c_L_below l (x >>> ((3 : Int32) &&& 31)) 1500 (by decide)) (bg_S kw_411 kw_412 kw_30 kw_413) rfl rfl (by decide +kernel) ⟨(Nat.le_of_ble_eq_true rfl), (Nat.le_of_ble_eq_true rfl)⟩ rfl hl.1 rfl (Nat.le_of_ble_eq_true rfl) dL_act_99 ⟨(Nat.le_of_ble_eq_true rfl), (Nat.le_of_ble_eq_true rfl)⟩) (fun H locs w => ?_)
  refine lv_iadd X.1 X.2.1 dL_act_102 ?_
  refine lv_iconst (v := 1) X.1 X.2.1 dL_act_103 (by decide) ?_
  refine lv_iload_n X.1 X.2.1 dL_act_104 rfl (lv_at hl 1 rfl) ?_
  refine lv_bipush (v := 6) X.1 X.2.1 dL_act_105 (by decide) ?_
  refine lv_ishr X.1 X.2.1 dL_act_107 ?_
  refine lv_bipush (v := 15) X.1 X.2.1 dL_act_108 (by decide) ?_
  refine n_calli w (n_runS (n := 2) (As := [.int (x >>> ((6 : Int32) &&& 31)), .int 15]) X (c_L_below l (x >>> ((6 : Int32) &&& 31)) 15 (by decide)) (bg_S kw_411 kw_412 kw_30 kw_413) rfl rfl (by decide +kernel) ⟨(Nat.le_of_ble_eq_true rfl), (Nat.le_of_ble_eq_true rfl)⟩ rfl hl.1 rfl (Nat.le_of_ble_eq_true rfl) dL_act_110 ⟨(Nat.le_of_ble_eq_true rfl), (Nat.le_of_ble_eq_true rfl)⟩) (fun H locs w => ?_)
  refine lv_iadd X.1 X.2.1 dL_act_113 ?_
  have h2 : (er_job F n pp (4 + (s_below (x >>> ((5 : Int32) &&& 31)) 17)) (4 + (s_below (x >>> ((7 : Int32) &&& 31)) 17)) (5 + (s_below (x >>> ((3 : Int32) &&& 31)) 1500)) (1 + (s_below (x >>> ((6 : Int32) &&& 31)) 15))) = 3 := hx
  refine x_caught X cn w (xw_runV (n := 5) (As := [.int pp, .int (4 + (s_below (x >>> ((5 : Int32) &&& 31)) 17)), .int (4 + (s_below (x >>> ((7 : Int32) &&& 31)) 17)), .int (5 + (s_below (x >>> ((3 : Int32) &&& 31)) 1500)), .int (1 + (s_below (x >>> ((6 : Int32) &&& 31)) 15))]) X cn w (lt17 (by decide)) wC_0 rfl (fun sz => cx_X4_job l D ca ad E F L S n hlt q wf pp (4 + (s_below (x >>> ((5 : Int32) &&& 31)) 17)) (4 + (s_below (x >>> ((7 : Int32) &&& 31)) 17)) (5 + (s_below (x >>> ((3 : Int32) &&& 31)) 1500)) (1 + (s_below (x >>> ((6 : Int32) &&& 31)) 15)) (by rw [hx]; decide) 1 6 (fun _ => ⟨Nat.le_refl 1, Nat.le_refl 6⟩) sz) (bg_V kw_425 kw_426 kw_427 kw_31 kw_428) rfl rfl (by decide +kernel) ⟨(Nat.le_of_ble_eq_true rfl), (Nat.le_of_ble_eq_true rfl)⟩ rfl hl.1 rfl (Nat.le_of_ble_eq_true rfl) dL_act_114 ⟨(Nat.le_of_ble_eq_true rfl), (Nat.le_of_ble_eq_true rfl)⟩) (fun st v t hq => by obtain ⟨⟨r, u, -, hp, -⟩, -⟩ := hq; first | exact hp.elim | (have h9 := hp.1; omega)) eIS eIS (by rw [h2]; rfl) (ATB.take 22) ⟨0, 132, 570, 106⟩ (ATB.drop 23) (htab.trans (by decide +kernel)) (x_passC (by decide +kernel) (X.2.2.2.2 _ kw_422) (cn.2.1.2.2.1 (eIS, eIO) (by decide)) (X.2.2.2.2 _ kw_423) (cn.2.1.2.2.1 (eIS, eIA) (by decide))) (by decide +kernel) (by decide) (X.2.2.2.2 _ kw_424) (cn.2.1.use kw_445) (fun q9 u H locs hu w => ?_)
  obtain ⟨E3, q4⟩ := u
  have hu : q4 = (F, L, S, n) := hu
  subst hu
  refine lv_astore (lv' := [(5, .ref q9), (0, .ref (ad 0)), (1, .int x), (2, .int jb), (3, .int r), (4, .int pp)]) X.1 X.2.1 dL_act_570 hl (by decide) rfl (fun ls hl => ?_)
  refine lv_iload_n X.1 X.2.1 dL_act_572 rfl (lv_at hl 2 rfl) ?_
  refine lv_bipush (v := 13) X.1 X.2.1 dL_act_573 (by decide) ?_
  refine n_calli w (n_runS (n := 2) (As := [.int x, .int 13]) X (c_L_below l x 13 (by decide)) (bg_S kw_411 kw_412 kw_30 kw_413) rfl rfl (by decide +kernel) ⟨(Nat.le_of_ble_eq_true rfl), (Nat.le_of_ble_eq_true rfl)⟩ rfl hl.1 rfl (Nat.le_of_ble_eq_true rfl) dL_act_575 ⟨(Nat.le_of_ble_eq_true rfl), (Nat.le_of_ble_eq_true rfl)⟩) (fun H locs w => ?_)
  refine lv_iconst (v := 4) X.1 X.2.1 dL_act_578 (by decide) ?_
  refine lv_icmp_lt (tgt := 603) X.1 X.2.1 dL_act_579 (by decide) (fun c5 => ?_) (fun c5 => ?_)
  ·
    refine lv_iconst (v := 1) X.1 X.2.1 dL_act_603 (by decide) ?_
    refine lv_goto (tgt := 608) X.1 X.2.1 dL_act_604 (by decide) ?_
    exact w_iret X hr hlk w (by  exact ⟨by simp only [eq_true c5, or_true, true_or, or_self, or_false, false_or, and_true, true_and, and_false, false_and, not_true, not_false_iff, if_true, if_false], rfl⟩) dL_act_608 rfl (Nat.le_of_ble_eq_true rfl) (Nat.le_of_ble_eq_true rfl)
  ·
    refine lv_iload_n X.1 X.2.1 dL_act_582 rfl (lv_at hl 2 rfl) ?_
    refine lv_bipush (v := 13) X.1 X.2.1 dL_act_583 (by decide) ?_
    refine n_calli w (n_runS (n := 2) (As := [.int x, .int 13]) X (c_L_below l x 13 (by decide)) (bg_S kw_411 kw_412 kw_30 kw_413) rfl rfl (by decide +kernel) ⟨(Nat.le_of_ble_eq_true rfl), (Nat.le_of_ble_eq_true rfl)⟩ rfl hl.1 rfl (Nat.le_of_ble_eq_true rfl) dL_act_585 ⟨(Nat.le_of_ble_eq_true rfl), (Nat.le_of_ble_eq_true rfl)⟩) (fun H locs w => ?_)
    refine lv_iconst (v := 5) X.1 X.2.1 dL_act_588 (by decide) ?_
    refine lv_icmp_le (tgt := 607) X.1 X.2.1 dL_act_589 (by decide) (fun c6 => ?_) (fun c6 => ?_)
    ·
      refine lv_iconst (v := 0) X.1 X.2.1 dL_act_607 (by decide) ?_
      exact w_iret X hr hlk w (by  exact ⟨by simp only [eq_false c5, eq_true c6, or_true, true_or, or_self, or_false, false_or, and_true, true_and, and_false, false_and, not_true, not_false_iff, if_true, if_false], rfl⟩) dL_act_608 rfl (Nat.le_of_ble_eq_true rfl) (Nat.le_of_ble_eq_true rfl)
    ·
      refine lv_iload_n X.1 X.2.1 dL_act_592 rfl (lv_at hl 2 rfl) ?_
      refine lv_bipush (v := 13) X.1 X.2.1 dL_act_593 (by decide) ?_
      refine n_calli w (n_runS (n := 2) (As := [.int x, .int 13]) X (c_L_below l x 13 (by decide)) (bg_S kw_411 kw_412 kw_30 kw_413) rfl rfl (by decide +kernel) ⟨(Nat.le_of_ble_eq_true rfl), (Nat.le_of_ble_eq_true rfl)⟩ rfl hl.1 rfl (Nat.le_of_ble_eq_true rfl) dL_act_595 ⟨(Nat.le_of_ble_eq_true rfl), (Nat.le_of_ble_eq_true rfl)⟩) (fun H locs w => ?_)
      refine lv_bipush (v := 12) X.1 X.2.1 dL_act_598 (by decide) ?_
      refine lv_icmp_ge (tgt := 607) X.1 X.2.1 dL_act_600 (by decide) (fun c7 => ?_) (fun c7 => ?_)
      ·
        refine lv_iconst (v := 0) X.1 X.2.1 dL_act_607 (by decide) ?_
        exact w_iret X hr hlk w (by  exact ⟨by simp only [eq_false c5, eq_false c6, eq_true c7, or_true, true_or, or_self, or_false, false_or, and_true, true_and, and_false, false_and, not_true, not_false_iff, if_true, if_false], rfl⟩) dL_act_608 rfl (Nat.le_of_ble_eq_true rfl) (Nat.le_of_ble_eq_true rfl)
      ·
        refine lv_iconst (v := 1) X.1 X.2.1 dL_act_603 (by decide) ?_
        refine lv_goto (tgt := 608) X.1 X.2.1 dL_act_604 (by decide) ?_
        exact w_iret X hr hlk w (by  exact ⟨by simp only [eq_false c5, eq_false c6, eq_false c7, or_true, true_or, or_self, or_false, false_or, and_true, true_and, and_false, false_and, not_true, not_false_iff, if_true, if_false], rfl⟩) dL_act_608 rfl (Nat.le_of_ble_eq_true rfl) (Nat.le_of_ble_eq_true rfl)

set_option maxHeartbeats 4000000 in
set_option maxRecDepth 100000 in
theorem ca_order2 (l : Launch) (D : va_G) (ca : Nat → ClassId) (ad : Nat → Nat) (E : Em) (F : Fm) (L : Lm) (S : Sm) (n : Nat) (hlt : l.stackTraces = false) (q : Nat → Nat) (hlf : Lf F L S n q) (x jb r pp : Int32) (hkd : s_below x 13 = 2) (h0 : er_order F n jb r = 0) (hi : erI n jb = 0) (h3 : erI 3 r = 0) (hroom : er_order F n jb r = 0 → q (6 + r.toNatClampNeg) < 20) (q2 : Nat → Nat) (wf2 : Wf (s_orderF F S q jb.toNatClampNeg (6 + r.toNatClampNeg) r) (s_insL L q (q (6 + r.toNatClampNeg)) jb.toNatClampNeg (6 + r.toNatClampNeg)) S n q2) (hq2 : er_queue (s_orderF F S q jb.toNatClampNeg (6 + r.toNatClampNeg) r) (s_insL L q (q (6 + r.toNatClampNeg)) jb.toNatClampNeg (6 + r.toNatClampNeg)) r (s_ofPress (s_orderF F S q jb.toNatClampNeg (6 + r.toNatClampNeg) r) (s_insL L q (q (6 + r.toNatClampNeg)) jb.toNatClampNeg (6 + r.toNatClampNeg)) q (6 + r.toNatClampNeg) 5 - 1) = 0) (sz : Nat) : Met l yL_act (.codeWith yL_act cL_act 7 (some .boolean) hhA :: BG) { frames := 9, cells := 1, slots := 15, locals := 200 } (Pw D ca ad (E, F, L, S, n) sz [.ref (ad 0), .int x, .int jb, .int r, .int pp]) (Qi D ca ad n (fun v u => v = (if s_orderF F S q jb.toNatClampNeg (6 + r.toNatClampNeg) r (17 + jb.toNatClampNeg) 11 = s_ofJob (s_orderF F S q jb.toNatClampNeg (6 + r.toNatClampNeg) r) jb.toNatClampNeg 9 then (if s_ofJob (s_orderF F S q jb.toNatClampNeg (6 + r.toNatClampNeg) r) jb.toNatClampNeg 6 = 1 then (if s_queue (s_orderF F S q jb.toNatClampNeg (6 + r.toNatClampNeg) r) (s_insL L q (q (6 + r.toNatClampNeg)) jb.toNatClampNeg (6 + r.toNatClampNeg)) (6 + r.toNatClampNeg) (s_ofPress (s_orderF F S q jb.toNatClampNeg (6 + r.toNatClampNeg) r) (s_insL L q (q (6 + r.toNatClampNeg)) jb.toNatClampNeg (6 + r.toNatClampNeg)) q (6 + r.toNatClampNeg) 5 - 1) = jb then 1 else 0) else 0) else 0) ∧ u.2 = ((s_orderF F S q jb.toNatClampNeg (6 + r.toNatClampNeg) r), (s_insL L q (q (6 + r.toNatClampNeg)) jb.toNatClampNeg (6 + r.toNatClampNeg)), S, n)) sz) 1 15 (wA ad n sz) := by
  refine open_A (σ := (E, F, L, S, n)) (Qc := Qi D ca ad n (fun v u => v = (if s_orderF F S q jb.toNatClampNeg (6 + r.toNatClampNeg) r (17 + jb.toNatClampNeg) 11 = s_ofJob (s_orderF F S q jb.toNatClampNeg (6 + r.toNatClampNeg) r) jb.toNatClampNeg 9 then (if s_ofJob (s_orderF F S q jb.toNatClampNeg (6 + r.toNatClampNeg) r) jb.toNatClampNeg 6 = 1 then (if s_queue (s_orderF F S q jb.toNatClampNeg (6 + r.toNatClampNeg) r) (s_insL L q (q (6 + r.toNatClampNeg)) jb.toNatClampNeg (6 + r.toNatClampNeg)) (6 + r.toNatClampNeg) (s_ofPress (s_orderF F S q jb.toNatClampNeg (6 + r.toNatClampNeg) r) (s_insL L q (q (6 + r.toNatClampNeg)) jb.toNatClampNeg (6 + r.toNatClampNeg)) q (6 + r.toNatClampNeg) 5 - 1) = jb then 1 else 0) else 0) else 0) ∧ u.2 = ((s_orderF F S q jb.toNatClampNeg (6 + r.toNatClampNeg) r), (s_insL L q (q (6 + r.toNatClampNeg)) jb.toNatClampNeg (6 + r.toNatClampNeg)), S, n))) (by decide +kernel) (Nat.le_of_ble_eq_true rfl) ?_
  intro p e s m args below meth c X hr hlk htab w cn ls hl
  have hl : lv_has ls 7 [(0, .ref (ad 0)), (1, .int x), (2, .int jb), (3, .int r), (4, .int pp)] := hl
  have wf := hlf.1
  have hs := wf.2.2.1
  have hJ := wf.2.1.2
  refine lv_iload_n X.1 X.2.1 dL_act_0 rfl (lv_at hl 1 rfl) ?_
  refine lv_bipush (v := 13) X.1 X.2.1 dL_act_1 (by decide) ?_
  refine n_calli w (n_runS (n := 2) (As := [.int x, .int 13]) X (c_L_below l x 13 (by decide)) (bg_S kw_411 kw_412 kw_30 kw_413) rfl rfl (by decide +kernel) ⟨(Nat.le_of_ble_eq_true rfl), (Nat.le_of_ble_eq_true rfl)⟩ rfl hl.1 rfl (Nat.le_of_ble_eq_true rfl) dL_act_3 ⟨(Nat.le_of_ble_eq_true rfl), (Nat.le_of_ble_eq_true rfl)⟩) (fun H locs w => ?_)
  refine W.eq (g2 := F0 m 6 ls [.int 2]) (by rw [hkd]) ?_
  refine lv_tableIn (tgt := 133) X.1 X.2.1 dL_act_6 (by decide) (by decide) rfl (by decide) ?_
  refine lv_aload_n X.1 X.2.1 dL_act_133 rfl (lv_at hl 0 rfl) ?_
  refine lv_iload_n X.1 X.2.1 dL_act_134 rfl (lv_at hl 2 rfl) ?_
  refine lv_iload_n X.1 X.2.1 dL_act_135 rfl (lv_at hl 3 rfl) ?_
  have h2 : (er_order F n jb r) = 0 := h0
  refine w_calli cn w (w_runV (n := 2) (As := [.int jb, .int r]) X cn w (lt17 (by decide)) wC_0 rfl (fun sz => met_of (c_X4_order l D ca ad E F L S n hlt q wf jb r hroom 0 0 (fun h => (h h2).elim) sz) h2) (bg_V kw_527 kw_528 kw_529 kw_31 kw_530) rfl rfl (by decide +kernel) ⟨(Nat.le_of_ble_eq_true rfl), (Nat.le_of_ble_eq_true rfl)⟩ rfl hl.1 rfl (Nat.le_of_ble_eq_true rfl) dL_act_136 ⟨(Nat.le_of_ble_eq_true rfl), (Nat.le_of_ble_eq_true rfl)⟩) (fun r1 u H locs hp w => ?_)
  obtain ⟨E3, q4⟩ := u
  obtain ⟨-, rfl, h5⟩ := hp
  have h5 : q4 = ((s_orderF F S q jb.toNatClampNeg (6 + r.toNatClampNeg) r), (s_insL L q (q (6 + r.toNatClampNeg)) jb.toNatClampNeg (6 + r.toNatClampNeg)), S, n) := h5
  subst h5
  refine lv_aload_n X.1 X.2.1 dL_act_139 rfl (lv_at hl 0 rfl) ?_
  refine lv_iload_n X.1 X.2.1 dL_act_140 rfl (lv_at hl 2 rfl) ?_
  refine lv_bipush (v := 9) X.1 X.2.1 dL_act_141 (by decide) ?_
  have h502 : (er_ofJob n jb 9) = 0 := (by rw [er_ofJob, if_pos hi]; decide)
  refine w_calli cn w (w_runV (n := 2) (As := [.int jb, .int 9]) X cn w (lt17 (by decide)) wC_0 rfl (fun sz => met_of (c_X4_ofJob l D ca ad E3 (s_orderF F S q jb.toNatClampNeg (6 + r.toNatClampNeg) r) (s_insL L q (q (6 + r.toNatClampNeg)) jb.toNatClampNeg (6 + r.toNatClampNeg)) S n hlt q2 wf2 jb 9 0 0 (fun h => (h h502).elim) sz) h502) (bg_V kw_536 kw_381 kw_382 kw_31 kw_383) rfl rfl (by decide +kernel) ⟨(Nat.le_of_ble_eq_true rfl), (Nat.le_of_ble_eq_true rfl)⟩ rfl hl.1 rfl (Nat.le_of_ble_eq_true rfl) dL_act_143 ⟨(Nat.le_of_ble_eq_true rfl), (Nat.le_of_ble_eq_true rfl)⟩) (fun r501 u H locs hp w => ?_)
  obtain ⟨E503, q504⟩ := u
  obtain ⟨-, rfl, h505⟩ := hp
  have h505 : q504 = ((s_orderF F S q jb.toNatClampNeg (6 + r.toNatClampNeg) r), (s_insL L q (q (6 + r.toNatClampNeg)) jb.toNatClampNeg (6 + r.toNatClampNeg)), S, n) := h505
  subst h505
  refine lv_icmp_ne (tgt := 181) X.1 X.2.1 dL_act_146 (by decide) (fun c506 => ?_) (fun c506 => ?_)
  ·
    refine lv_iconst (v := 0) X.1 X.2.1 dL_act_181 (by decide) ?_
    exact w_iret X hr hlk w (by  exact ⟨by simp only [eq_false c506, or_true, true_or, or_self, or_false, false_or, and_true, true_and, and_false, false_and, not_true, not_false_iff, if_true, if_false], rfl⟩) dL_act_182 rfl (Nat.le_of_ble_eq_true rfl) (Nat.le_of_ble_eq_true rfl)
  ·
    refine lv_aload_n X.1 X.2.1 dL_act_149 rfl (lv_at hl 0 rfl) ?_
    refine lv_iload_n X.1 X.2.1 dL_act_150 rfl (lv_at hl 2 rfl) ?_
    refine lv_bipush (v := 6) X.1 X.2.1 dL_act_151 (by decide) ?_
    have h508 : (er_ofJob n jb 6) = 0 := (by rw [er_ofJob, if_pos hi]; decide)
    refine w_calli cn w (w_runV (n := 2) (As := [.int jb, .int 6]) X cn w (lt17 (by decide)) wC_0 rfl (fun sz => met_of (c_X4_ofJob l D ca ad E503 (s_orderF F S q jb.toNatClampNeg (6 + r.toNatClampNeg) r) (s_insL L q (q (6 + r.toNatClampNeg)) jb.toNatClampNeg (6 + r.toNatClampNeg)) S n hlt q2 wf2 jb 6 0 0 (fun h => (h h508).elim) sz) h508) (bg_V kw_536 kw_381 kw_382 kw_31 kw_383) rfl rfl (by decide +kernel) ⟨(Nat.le_of_ble_eq_true rfl), (Nat.le_of_ble_eq_true rfl)⟩ rfl hl.1 rfl (Nat.le_of_ble_eq_true rfl) dL_act_153 ⟨(Nat.le_of_ble_eq_true rfl), (Nat.le_of_ble_eq_true rfl)⟩) (fun r507 u H locs hp w => ?_)
    obtain ⟨E509, q510⟩ := u
    obtain ⟨-, rfl, h511⟩ := hp
    have h511 : q510 = ((s_orderF F S q jb.toNatClampNeg (6 + r.toNatClampNeg) r), (s_insL L q (q (6 + r.toNatClampNeg)) jb.toNatClampNeg (6 + r.toNatClampNeg)), S, n) := h511
    subst h511
    refine lv_iconst (v := 1) X.1 X.2.1 dL_act_156 (by decide) ?_
    refine lv_icmp_ne (tgt := 181) X.1 X.2.1 dL_act_157 (by decide) (fun c512 => ?_) (fun c512 => ?_)
    ·
      refine lv_iconst (v := 0) X.1 X.2.1 dL_act_181 (by decide) ?_
      exact w_iret X hr hlk w (by  exact ⟨by simp only [eq_true c506, eq_false c512, or_true, true_or, or_self, or_false, false_or, and_true, true_and, and_false, false_and, not_true, not_false_iff, if_true, if_false], rfl⟩) dL_act_182 rfl (Nat.le_of_ble_eq_true rfl) (Nat.le_of_ble_eq_true rfl)
    ·
      refine lv_aload_n X.1 X.2.1 dL_act_160 rfl (lv_at hl 0 rfl) ?_
      refine lv_iload_n X.1 X.2.1 dL_act_161 rfl (lv_at hl 3 rfl) ?_
      refine lv_aload_n X.1 X.2.1 dL_act_162 rfl (lv_at hl 0 rfl) ?_
      refine lv_iload_n X.1 X.2.1 dL_act_163 rfl (lv_at hl 3 rfl) ?_
      refine lv_iconst (v := 5) X.1 X.2.1 dL_act_164 (by decide) ?_
      have h514 : (er_ofPress r 5) = 0 := (by rw [er_ofPress, if_pos h3]; decide)
      refine w_calli cn w (w_runV (n := 2) (As := [.int r, .int 5]) X cn w (lt17 (by decide)) wC_0 rfl (fun sz => met_of (c_X4_ofPress l D ca ad E509 (s_orderF F S q jb.toNatClampNeg (6 + r.toNatClampNeg) r) (s_insL L q (q (6 + r.toNatClampNeg)) jb.toNatClampNeg (6 + r.toNatClampNeg)) S n hlt q2 wf2 r 5 0 0 (fun h => (h h514).elim) sz) h514) (bg_V kw_537 kw_358 kw_359 kw_31 kw_360) rfl rfl (by decide +kernel) ⟨(Nat.le_of_ble_eq_true rfl), (Nat.le_of_ble_eq_true rfl)⟩ rfl hl.1 rfl (Nat.le_of_ble_eq_true rfl) dL_act_165 ⟨(Nat.le_of_ble_eq_true rfl), (Nat.le_of_ble_eq_true rfl)⟩) (fun r513 u H locs hp w => ?_)
      obtain ⟨E515, q516⟩ := u
      obtain ⟨-, rfl, h517⟩ := hp
      have h517 : q516 = ((s_orderF F S q jb.toNatClampNeg (6 + r.toNatClampNeg) r), (s_insL L q (q (6 + r.toNatClampNeg)) jb.toNatClampNeg (6 + r.toNatClampNeg)), S, n) := h517
      subst h517
      refine lv_iconst (v := 1) X.1 X.2.1 dL_act_168 (by decide) ?_
      refine lv_isub X.1 X.2.1 dL_act_169 ?_
      have h519 : (er_queue (s_orderF F S q jb.toNatClampNeg (6 + r.toNatClampNeg) r) (s_insL L q (q (6 + r.toNatClampNeg)) jb.toNatClampNeg (6 + r.toNatClampNeg)) r ((s_ofPress (s_orderF F S q jb.toNatClampNeg (6 + r.toNatClampNeg) r) (s_insL L q (q (6 + r.toNatClampNeg)) jb.toNatClampNeg (6 + r.toNatClampNeg)) q (6 + r.toNatClampNeg) 5) - 1)) = 0 := hq2
      refine w_calli cn w (w_runV (n := 2) (As := [.int r, .int ((s_ofPress (s_orderF F S q jb.toNatClampNeg (6 + r.toNatClampNeg) r) (s_insL L q (q (6 + r.toNatClampNeg)) jb.toNatClampNeg (6 + r.toNatClampNeg)) q (6 + r.toNatClampNeg) 5) - 1)]) X cn w (lt17 (by decide)) wC_0 rfl (fun sz => met_of (c_X4_queue l D ca ad E515 (s_orderF F S q jb.toNatClampNeg (6 + r.toNatClampNeg) r) (s_insL L q (q (6 + r.toNatClampNeg)) jb.toNatClampNeg (6 + r.toNatClampNeg)) S n hlt q2 wf2 r ((s_ofPress (s_orderF F S q jb.toNatClampNeg (6 + r.toNatClampNeg) r) (s_insL L q (q (6 + r.toNatClampNeg)) jb.toNatClampNeg (6 + r.toNatClampNeg)) q (6 + r.toNatClampNeg) 5) - 1) 0 0 (fun h => (h h519).elim) sz) h519) (bg_V kw_538 kw_372 kw_373 kw_31 kw_374) rfl rfl (by decide +kernel) ⟨(Nat.le_of_ble_eq_true rfl), (Nat.le_of_ble_eq_true rfl)⟩ rfl hl.1 rfl (Nat.le_of_ble_eq_true rfl) dL_act_170 ⟨(Nat.le_of_ble_eq_true rfl), (Nat.le_of_ble_eq_true rfl)⟩) (fun r518 u H locs hp w => ?_)
      obtain ⟨E520, q521⟩ := u
      obtain ⟨-, rfl, h522⟩ := hp
      have h522 : q521 = ((s_orderF F S q jb.toNatClampNeg (6 + r.toNatClampNeg) r), (s_insL L q (q (6 + r.toNatClampNeg)) jb.toNatClampNeg (6 + r.toNatClampNeg)), S, n) := h522
      subst h522
      refine lv_iload_n X.1 X.2.1 dL_act_173 rfl (lv_at hl 2 rfl) ?_
      refine lv_icmp_ne (tgt := 181) X.1 X.2.1 dL_act_174 (by decide) (fun c523 => ?_) (fun c523 => ?_)
      ·
        refine lv_iconst (v := 0) X.1 X.2.1 dL_act_181 (by decide) ?_
        exact w_iret X hr hlk w (by  exact ⟨by simp only [eq_true c506, eq_true c512, eq_false c523, or_true, true_or, or_self, or_false, false_or, and_true, true_and, and_false, false_and, not_true, not_false_iff, if_true, if_false], rfl⟩) dL_act_182 rfl (Nat.le_of_ble_eq_true rfl) (Nat.le_of_ble_eq_true rfl)
      ·
        refine lv_iconst (v := 1) X.1 X.2.1 dL_act_177 (by decide) ?_
        refine lv_goto (tgt := 182) X.1 X.2.1 dL_act_178 (by decide) ?_
        exact w_iret X hr hlk w (by  exact ⟨by simp only [eq_true c506, eq_true c512, eq_true c523, or_true, true_or, or_self, or_false, false_or, and_true, true_and, and_false, false_and, not_true, not_false_iff, if_true, if_false], rfl⟩) dL_act_182 rfl (Nat.le_of_ble_eq_true rfl) (Nat.le_of_ble_eq_true rfl)

set_option maxHeartbeats 4000000 in
set_option maxRecDepth 100000 in
theorem ca_order2_x1 (l : Launch) (D : va_G) (ca : Nat → ClassId) (ad : Nat → Nat) (E : Em) (F : Fm) (L : Lm) (S : Sm) (n : Nat) (hlt : l.stackTraces = false) (q : Nat → Nat) (hlf : Lf F L S n q) (x jb r pp : Int32) (hkd : s_below x 13 = 2) (hx : er_order F n jb r = 1) (hroom : er_order F n jb r = 0 → q (6 + r.toNatClampNeg) < 20) (sz : Nat) : Met l yL_act (.codeWith yL_act cL_act 7 (some .boolean) hhA :: BG) { frames := 9, cells := 1, slots := 15, locals := 200 } (Pw D ca ad (E, F, L, S, n) sz [.ref (ad 0), .int x, .int jb, .int r, .int pp]) (Qi D ca ad n (fun v u => v = (if s_many F n 0 = 0 then 1 else if s_below x 13 = 10 then 1 else if s_below x 13 = 11 then 1 else 0) ∧ u.2 = (F, L, S, n)) sz) 1 15 (wA ad n sz) := by
  refine open_A (σ := (E, F, L, S, n)) (Qc := Qi D ca ad n (fun v u => v = (if s_many F n 0 = 0 then 1 else if s_below x 13 = 10 then 1 else if s_below x 13 = 11 then 1 else 0) ∧ u.2 = (F, L, S, n))) (by decide +kernel) (Nat.le_of_ble_eq_true rfl) ?_
  intro p e s m args below meth c X hr hlk htab w cn ls hl
  have hl : lv_has ls 7 [(0, .ref (ad 0)), (1, .int x), (2, .int jb), (3, .int r), (4, .int pp)] := hl
  have wf := hlf.1
  have hs := wf.2.2.1
  have hJ := wf.2.1.2
  refine lv_iload_n X.1 X.2.1 dL_act_0 rfl (lv_at hl 1 rfl) ?_
  refine lv_bipush (v := 13) X.1 X.2.1 dL_act_1 (by decide) ?_
  refine n_calli w (n_runS (n := 2) (As := [.int x, .int 13]) X (c_L_below l x 13 (by decide)) (bg_S kw_411 kw_412 kw_30 kw_413) rfl rfl (by decide +kernel) ⟨(Nat.le_of_ble_eq_true rfl), (Nat.le_of_ble_eq_true rfl)⟩ rfl hl.1 rfl (Nat.le_of_ble_eq_true rfl) dL_act_3 ⟨(Nat.le_of_ble_eq_true rfl), (Nat.le_of_ble_eq_true rfl)⟩) (fun H locs w => ?_)
  refine W.eq (g2 := F0 m 6 ls [.int 2]) (by rw [hkd]) ?_
  refine lv_tableIn (tgt := 133) X.1 X.2.1 dL_act_6 (by decide) (by decide) rfl (by decide) ?_
  refine lv_aload_n X.1 X.2.1 dL_act_133 rfl (lv_at hl 0 rfl) ?_
  refine lv_iload_n X.1 X.2.1 dL_act_134 rfl (lv_at hl 2 rfl) ?_
  refine lv_iload_n X.1 X.2.1 dL_act_135 rfl (lv_at hl 3 rfl) ?_
  have h2 : (er_order F n jb r) = 1 := hx
  refine x_caught X cn w (xw_runV (n := 2) (As := [.int jb, .int r]) X cn w (lt17 (by decide)) wC_0 rfl (fun sz => c_X4_order l D ca ad E F L S n hlt q wf jb r hroom 1 6 (fun _ => ⟨Nat.le_refl 1, Nat.le_refl 6⟩) sz) (bg_V kw_527 kw_528 kw_529 kw_31 kw_530) rfl rfl (by decide +kernel) ⟨(Nat.le_of_ble_eq_true rfl), (Nat.le_of_ble_eq_true rfl)⟩ rfl hl.1 rfl (Nat.le_of_ble_eq_true rfl) dL_act_136 ⟨(Nat.le_of_ble_eq_true rfl), (Nat.le_of_ble_eq_true rfl)⟩) (fun st v t hq => by obtain ⟨⟨r, u, -, hp, -⟩, -⟩ := hq; first | exact hp.elim | (have h9 := hp.1; omega)) eIO eIO (by rw [h2]; rfl) (ATB.take 1) ⟨133, 182, 514, 102⟩ (ATB.drop 2) (htab.trans (by decide +kernel)) (x_passA (by decide +kernel)) (by decide +kernel) (by decide) (X.2.2.2.2 _ kw_422) (cn.2.1.use kw_284) (fun q9 u H locs hu w => ?_)
  obtain ⟨E3, q4⟩ := u
  have hu : q4 = (F, L, S, n) := hu
  subst hu
  refine lv_astore (lv' := [(5, .ref q9), (0, .ref (ad 0)), (1, .int x), (2, .int jb), (3, .int r), (4, .int pp)]) X.1 X.2.1 dL_act_514 hl (by decide) rfl (fun ls hl => ?_)
  refine lv_aload_n X.1 X.2.1 dL_act_516 rfl (lv_at hl 1 rfl) ?_
  refine lv_iconst (v := 0) X.1 X.2.1 dL_act_517 (by decide) ?_
  have h6 : (erW 10 0) = 0 := (by decide)
  refine w_calli cn w (w_runV (n := 1) (As := [.int 0]) X cn w (lt17 (by decide)) wC_0 rfl (fun sz => met_of (c_X4_many l D ca ad E3 F L S n hlt q wf 0 0 0 (fun h => (h h6).elim) sz) h6) (bg_V kw_179 kw_180 kw_181 kw_31 kw_182) rfl rfl (by decide +kernel) ⟨(Nat.le_of_ble_eq_true rfl), (Nat.le_of_ble_eq_true rfl)⟩ rfl hl.1 rfl (Nat.le_of_ble_eq_true rfl) dL_act_518 ⟨(Nat.le_of_ble_eq_true rfl), (Nat.le_of_ble_eq_true rfl)⟩) (fun r5 u H locs hp w => ?_)
  obtain ⟨E7, q8⟩ := u
  obtain ⟨-, rfl, h9⟩ := hp
  have h9 : q8 = (F, L, S, n) := h9
  subst h9
  refine lv_if_eq (tgt := 546) X.1 X.2.1 dL_act_521 (by decide) (fun c10 => ?_) (fun c10 => ?_)
  ·
    refine lv_iconst (v := 1) X.1 X.2.1 dL_act_546 (by decide) ?_
    refine lv_goto (tgt := 551) X.1 X.2.1 dL_act_547 (by decide) ?_
    exact w_iret X hr hlk w (by  exact ⟨by simp only [eq_true c10, or_true, true_or, or_self, or_false, false_or, and_true, true_and, and_false, false_and, not_true, not_false_iff, if_true, if_false], rfl⟩) dL_act_551 rfl (Nat.le_of_ble_eq_true rfl) (Nat.le_of_ble_eq_true rfl)
  ·
    refine lv_iload_n X.1 X.2.1 dL_act_524 rfl (lv_at hl 2 rfl) ?_
    refine lv_bipush (v := 13) X.1 X.2.1 dL_act_525 (by decide) ?_
    refine n_calli w (n_runS (n := 2) (As := [.int x, .int 13]) X (c_L_below l x 13 (by decide)) (bg_S kw_411 kw_412 kw_30 kw_413) rfl rfl (by decide +kernel) ⟨(Nat.le_of_ble_eq_true rfl), (Nat.le_of_ble_eq_true rfl)⟩ rfl hl.1 rfl (Nat.le_of_ble_eq_true rfl) dL_act_527 ⟨(Nat.le_of_ble_eq_true rfl), (Nat.le_of_ble_eq_true rfl)⟩) (fun H locs w => ?_)
    refine lv_bipush (v := 10) X.1 X.2.1 dL_act_530 (by decide) ?_
    refine lv_icmp_eq (tgt := 546) X.1 X.2.1 dL_act_532 (by decide) (fun c11 => ?_) (fun c11 => ?_)
    ·
      refine lv_iconst (v := 1) X.1 X.2.1 dL_act_546 (by decide) ?_
      refine lv_goto (tgt := 551) X.1 X.2.1 dL_act_547 (by decide) ?_
      exact w_iret X hr hlk w (by  exact ⟨by simp only [eq_false c10, eq_true c11, or_true, true_or, or_self, or_false, false_or, and_true, true_and, and_false, false_and, not_true, not_false_iff, if_true, if_false], rfl⟩) dL_act_551 rfl (Nat.le_of_ble_eq_true rfl) (Nat.le_of_ble_eq_true rfl)
    ·
      refine lv_iload_n X.1 X.2.1 dL_act_535 rfl (lv_at hl 2 rfl) ?_
      refine lv_bipush (v := 13) X.1 X.2.1 dL_act_536 (by decide) ?_
      refine n_calli w (n_runS (n := 2) (As := [.int x, .int 13]) X (c_L_below l x 13 (by decide)) (bg_S kw_411 kw_412 kw_30 kw_413) rfl rfl (by decide +kernel) ⟨(Nat.le_of_ble_eq_true rfl), (Nat.le_of_ble_eq_true rfl)⟩ rfl hl.1 rfl (Nat.le_of_ble_eq_true rfl) dL_act_538 ⟨(Nat.le_of_ble_eq_true rfl), (Nat.le_of_ble_eq_true rfl)⟩) (fun H locs w => ?_)
      refine lv_bipush (v := 11) X.1 X.2.1 dL_act_541 (by decide) ?_
      refine lv_icmp_ne (tgt := 550) X.1 X.2.1 dL_act_543 (by decide) (fun c12 => ?_) (fun c12 => ?_)
      ·
        refine lv_iconst (v := 0) X.1 X.2.1 dL_act_550 (by decide) ?_
        exact w_iret X hr hlk w (by  exact ⟨by simp only [eq_false c10, eq_false c11, eq_false c12, or_true, true_or, or_self, or_false, false_or, and_true, true_and, and_false, false_and, not_true, not_false_iff, if_true, if_false], rfl⟩) dL_act_551 rfl (Nat.le_of_ble_eq_true rfl) (Nat.le_of_ble_eq_true rfl)
      ·
        refine lv_iconst (v := 1) X.1 X.2.1 dL_act_546 (by decide) ?_
        refine lv_goto (tgt := 551) X.1 X.2.1 dL_act_547 (by decide) ?_
        exact w_iret X hr hlk w (by  exact ⟨by simp only [eq_false c10, eq_false c11, eq_true c12, or_true, true_or, or_self, or_false, false_or, and_true, true_and, and_false, false_and, not_true, not_false_iff, if_true, if_false], rfl⟩) dL_act_551 rfl (Nat.le_of_ble_eq_true rfl) (Nat.le_of_ble_eq_true rfl)

set_option maxHeartbeats 4000000 in
set_option maxRecDepth 100000 in
theorem ca_order2_x3 (l : Launch) (D : va_G) (ca : Nat → ClassId) (ad : Nat → Nat) (E : Em) (F : Fm) (L : Lm) (S : Sm) (n : Nat) (hlt : l.stackTraces = false) (q : Nat → Nat) (hlf : Lf F L S n q) (x jb r pp : Int32) (hkd : s_below x 13 = 2) (hx : er_order F n jb r = 3) (hroom : er_order F n jb r = 0 → q (6 + r.toNatClampNeg) < 20) (sz : Nat) : Met l yL_act (.codeWith yL_act cL_act 7 (some .boolean) hhA :: BG) { frames := 9, cells := 1, slots := 15, locals := 200 } (Pw D ca ad (E, F, L, S, n) sz [.ref (ad 0), .int x, .int jb, .int r, .int pp]) (Qi D ca ad n (fun v u => v = (if s_below x 13 < 4 then 1 else if s_below x 13 ≤ 5 then 0 else if 12 ≤ s_below x 13 then 0 else 1) ∧ u.2 = (F, L, S, n)) sz) 1 15 (wA ad n sz) := by
  refine open_A (σ := (E, F, L, S, n)) (Qc := Qi D ca ad n (fun v u => v = (if s_below x 13 < 4 then 1 else if s_below x 13 ≤ 5 then 0 else if 12 ≤ s_below x 13 then 0 else 1) ∧ u.2 = (F, L, S, n))) (by decide +kernel) (Nat.le_of_ble_eq_true rfl) ?_
  intro p e s m args below meth c X hr hlk htab w cn ls hl
  have hl : lv_has ls 7 [(0, .ref (ad 0)), (1, .int x), (2, .int jb), (3, .int r), (4, .int pp)] := hl
  have wf := hlf.1
  have hs := wf.2.2.1
  have hJ := wf.2.1.2
  refine lv_iload_n X.1 X.2.1 dL_act_0 rfl (lv_at hl 1 rfl) ?_
  refine lv_bipush (v := 13) X.1 X.2.1 dL_act_1 (by decide) ?_
  refine n_calli w (n_runS (n := 2) (As := [.int x, .int 13]) X (c_L_below l x 13 (by decide)) (bg_S kw_411 kw_412 kw_30 kw_413) rfl rfl (by decide +kernel) ⟨(Nat.le_of_ble_eq_true rfl), (Nat.le_of_ble_eq_true rfl)⟩ rfl hl.1 rfl (Nat.le_of_ble_eq_true rfl) dL_act_3 ⟨(Nat.le_of_ble_eq_true rfl), (Nat.le_of_ble_eq_true rfl)⟩) (fun H locs w => ?_)
  refine W.eq (g2 := F0 m 6 ls [.int 2]) (by rw [hkd]) ?_
  refine lv_tableIn (tgt := 133) X.1 X.2.1 dL_act_6 (by decide) (by decide) rfl (by decide) ?_
  refine lv_aload_n X.1 X.2.1 dL_act_133 rfl (lv_at hl 0 rfl) ?_
  refine lv_iload_n X.1 X.2.1 dL_act_134 rfl (lv_at hl 2 rfl) ?_
  refine lv_iload_n X.1 X.2.1 dL_act_135 rfl (lv_at hl 3 rfl) ?_
  have h2 : (er_order F n jb r) = 3 := hx
  refine x_caught X cn w (xw_runV (n := 2) (As := [.int jb, .int r]) X cn w (lt17 (by decide)) wC_0 rfl (fun sz => c_X4_order l D ca ad E F L S n hlt q wf jb r hroom 1 6 (fun _ => ⟨Nat.le_refl 1, Nat.le_refl 6⟩) sz) (bg_V kw_527 kw_528 kw_529 kw_31 kw_530) rfl rfl (by decide +kernel) ⟨(Nat.le_of_ble_eq_true rfl), (Nat.le_of_ble_eq_true rfl)⟩ rfl hl.1 rfl (Nat.le_of_ble_eq_true rfl) dL_act_136 ⟨(Nat.le_of_ble_eq_true rfl), (Nat.le_of_ble_eq_true rfl)⟩) (fun st v t hq => by obtain ⟨⟨r, u, -, hp, -⟩, -⟩ := hq; first | exact hp.elim | (have h9 := hp.1; omega)) eIS eIS (by rw [h2]; rfl) (ATB.take 23) ⟨133, 182, 570, 106⟩ (ATB.drop 24) (htab.trans (by decide +kernel)) (x_passC (by decide +kernel) (X.2.2.2.2 _ kw_422) (cn.2.1.2.2.1 (eIS, eIO) (by decide)) (X.2.2.2.2 _ kw_423) (cn.2.1.2.2.1 (eIS, eIA) (by decide))) (by decide +kernel) (by decide) (X.2.2.2.2 _ kw_424) (cn.2.1.use kw_445) (fun q9 u H locs hu w => ?_)
  obtain ⟨E3, q4⟩ := u
  have hu : q4 = (F, L, S, n) := hu
  subst hu
  refine lv_astore (lv' := [(5, .ref q9), (0, .ref (ad 0)), (1, .int x), (2, .int jb), (3, .int r), (4, .int pp)]) X.1 X.2.1 dL_act_570 hl (by decide) rfl (fun ls hl => ?_)
  refine lv_iload_n X.1 X.2.1 dL_act_572 rfl (lv_at hl 2 rfl) ?_
  refine lv_bipush (v := 13) X.1 X.2.1 dL_act_573 (by decide) ?_
  refine n_calli w (n_runS (n := 2) (As := [.int x, .int 13]) X (c_L_below l x 13 (by decide)) (bg_S kw_411 kw_412 kw_30 kw_413) rfl rfl (by decide +kernel) ⟨(Nat.le_of_ble_eq_true rfl), (Nat.le_of_ble_eq_true rfl)⟩ rfl hl.1 rfl (Nat.le_of_ble_eq_true rfl) dL_act_575 ⟨(Nat.le_of_ble_eq_true rfl), (Nat.le_of_ble_eq_true rfl)⟩) (fun H locs w => ?_)
  refine lv_iconst (v := 4) X.1 X.2.1 dL_act_578 (by decide) ?_
  refine lv_icmp_lt (tgt := 603) X.1 X.2.1 dL_act_579 (by decide) (fun c5 => ?_) (fun c5 => ?_)
  ·
    refine lv_iconst (v := 1) X.1 X.2.1 dL_act_603 (by decide) ?_
    refine lv_goto (tgt := 608) X.1 X.2.1 dL_act_604 (by decide) ?_
    exact w_iret X hr hlk w (by  exact ⟨by simp only [eq_true c5, or_true, true_or, or_self, or_false, false_or, and_true, true_and, and_false, false_and, not_true, not_false_iff, if_true, if_false], rfl⟩) dL_act_608 rfl (Nat.le_of_ble_eq_true rfl) (Nat.le_of_ble_eq_true rfl)
  ·
    refine lv_iload_n X.1 X.2.1 dL_act_582 rfl (lv_at hl 2 rfl) ?_
    refine lv_bipush (v := 13) X.1 X.2.1 dL_act_583 (by decide) ?_
    refine n_calli w (n_runS (n := 2) (As := [.int x, .int 13]) X (c_L_below l x 13 (by decide)) (bg_S kw_411 kw_412 kw_30 kw_413) rfl rfl (by decide +kernel) ⟨(Nat.le_of_ble_eq_true rfl), (Nat.le_of_ble_eq_true rfl)⟩ rfl hl.1 rfl (Nat.le_of_ble_eq_true rfl) dL_act_585 ⟨(Nat.le_of_ble_eq_true rfl), (Nat.le_of_ble_eq_true rfl)⟩) (fun H locs w => ?_)
    refine lv_iconst (v := 5) X.1 X.2.1 dL_act_588 (by decide) ?_
    refine lv_icmp_le (tgt := 607) X.1 X.2.1 dL_act_589 (by decide) (fun c6 => ?_) (fun c6 => ?_)
    ·
      refine lv_iconst (v := 0) X.1 X.2.1 dL_act_607 (by decide) ?_
      exact w_iret X hr hlk w (by  exact ⟨by simp only [eq_false c5, eq_true c6, or_true, true_or, or_self, or_false, false_or, and_true, true_and, and_false, false_and, not_true, not_false_iff, if_true, if_false], rfl⟩) dL_act_608 rfl (Nat.le_of_ble_eq_true rfl) (Nat.le_of_ble_eq_true rfl)
    ·
      refine lv_iload_n X.1 X.2.1 dL_act_592 rfl (lv_at hl 2 rfl) ?_
      refine lv_bipush (v := 13) X.1 X.2.1 dL_act_593 (by decide) ?_
      refine n_calli w (n_runS (n := 2) (As := [.int x, .int 13]) X (c_L_below l x 13 (by decide)) (bg_S kw_411 kw_412 kw_30 kw_413) rfl rfl (by decide +kernel) ⟨(Nat.le_of_ble_eq_true rfl), (Nat.le_of_ble_eq_true rfl)⟩ rfl hl.1 rfl (Nat.le_of_ble_eq_true rfl) dL_act_595 ⟨(Nat.le_of_ble_eq_true rfl), (Nat.le_of_ble_eq_true rfl)⟩) (fun H locs w => ?_)
      refine lv_bipush (v := 12) X.1 X.2.1 dL_act_598 (by decide) ?_
      refine lv_icmp_ge (tgt := 607) X.1 X.2.1 dL_act_600 (by decide) (fun c7 => ?_) (fun c7 => ?_)
      ·
        refine lv_iconst (v := 0) X.1 X.2.1 dL_act_607 (by decide) ?_
        exact w_iret X hr hlk w (by  exact ⟨by simp only [eq_false c5, eq_false c6, eq_true c7, or_true, true_or, or_self, or_false, false_or, and_true, true_and, and_false, false_and, not_true, not_false_iff, if_true, if_false], rfl⟩) dL_act_608 rfl (Nat.le_of_ble_eq_true rfl) (Nat.le_of_ble_eq_true rfl)
      ·
        refine lv_iconst (v := 1) X.1 X.2.1 dL_act_603 (by decide) ?_
        refine lv_goto (tgt := 608) X.1 X.2.1 dL_act_604 (by decide) ?_
        exact w_iret X hr hlk w (by  exact ⟨by simp only [eq_false c5, eq_false c6, eq_false c7, or_true, true_or, or_self, or_false, false_or, and_true, true_and, and_false, false_and, not_true, not_false_iff, if_true, if_false], rfl⟩) dL_act_608 rfl (Nat.le_of_ble_eq_true rfl) (Nat.le_of_ble_eq_true rfl)

set_option maxHeartbeats 4000000 in
set_option maxRecDepth 100000 in
theorem ca_order3 (l : Launch) (D : va_G) (ca : Nat → ClassId) (ad : Nat → Nat) (E : Em) (F : Fm) (L : Lm) (S : Sm) (n : Nat) (hlt : l.stackTraces = false) (q : Nat → Nat) (hlf : Lf F L S n q) (x jb r pp : Int32) (hkd : s_below x 13 = 3) (h0 : er_order F n jb r = 0) (hi : erI n jb = 0) (h3 : erI 3 r = 0) (hroom : er_order F n jb r = 0 → q (6 + r.toNatClampNeg) < 20) (q2 : Nat → Nat) (wf2 : Wf (s_orderF F S q jb.toNatClampNeg (6 + r.toNatClampNeg) r) (s_insL L q (q (6 + r.toNatClampNeg)) jb.toNatClampNeg (6 + r.toNatClampNeg)) S n q2) (hq2 : er_queue (s_orderF F S q jb.toNatClampNeg (6 + r.toNatClampNeg) r) (s_insL L q (q (6 + r.toNatClampNeg)) jb.toNatClampNeg (6 + r.toNatClampNeg)) r (s_ofPress (s_orderF F S q jb.toNatClampNeg (6 + r.toNatClampNeg) r) (s_insL L q (q (6 + r.toNatClampNeg)) jb.toNatClampNeg (6 + r.toNatClampNeg)) q (6 + r.toNatClampNeg) 5 - 1) = 0) (sz : Nat) : Met l yL_act (.codeWith yL_act cL_act 7 (some .boolean) hhA :: BG) { frames := 9, cells := 1, slots := 15, locals := 200 } (Pw D ca ad (E, F, L, S, n) sz [.ref (ad 0), .int x, .int jb, .int r, .int pp]) (Qi D ca ad n (fun v u => v = (if s_orderF F S q jb.toNatClampNeg (6 + r.toNatClampNeg) r (17 + jb.toNatClampNeg) 11 = s_ofJob (s_orderF F S q jb.toNatClampNeg (6 + r.toNatClampNeg) r) jb.toNatClampNeg 9 then (if s_ofJob (s_orderF F S q jb.toNatClampNeg (6 + r.toNatClampNeg) r) jb.toNatClampNeg 6 = 1 then (if s_queue (s_orderF F S q jb.toNatClampNeg (6 + r.toNatClampNeg) r) (s_insL L q (q (6 + r.toNatClampNeg)) jb.toNatClampNeg (6 + r.toNatClampNeg)) (6 + r.toNatClampNeg) (s_ofPress (s_orderF F S q jb.toNatClampNeg (6 + r.toNatClampNeg) r) (s_insL L q (q (6 + r.toNatClampNeg)) jb.toNatClampNeg (6 + r.toNatClampNeg)) q (6 + r.toNatClampNeg) 5 - 1) = jb then 1 else 0) else 0) else 0) ∧ u.2 = ((s_orderF F S q jb.toNatClampNeg (6 + r.toNatClampNeg) r), (s_insL L q (q (6 + r.toNatClampNeg)) jb.toNatClampNeg (6 + r.toNatClampNeg)), S, n)) sz) 1 15 (wA ad n sz) := by
  refine open_A (σ := (E, F, L, S, n)) (Qc := Qi D ca ad n (fun v u => v = (if s_orderF F S q jb.toNatClampNeg (6 + r.toNatClampNeg) r (17 + jb.toNatClampNeg) 11 = s_ofJob (s_orderF F S q jb.toNatClampNeg (6 + r.toNatClampNeg) r) jb.toNatClampNeg 9 then (if s_ofJob (s_orderF F S q jb.toNatClampNeg (6 + r.toNatClampNeg) r) jb.toNatClampNeg 6 = 1 then (if s_queue (s_orderF F S q jb.toNatClampNeg (6 + r.toNatClampNeg) r) (s_insL L q (q (6 + r.toNatClampNeg)) jb.toNatClampNeg (6 + r.toNatClampNeg)) (6 + r.toNatClampNeg) (s_ofPress (s_orderF F S q jb.toNatClampNeg (6 + r.toNatClampNeg) r) (s_insL L q (q (6 + r.toNatClampNeg)) jb.toNatClampNeg (6 + r.toNatClampNeg)) q (6 + r.toNatClampNeg) 5 - 1) = jb then 1 else 0) else 0) else 0) ∧ u.2 = ((s_orderF F S q jb.toNatClampNeg (6 + r.toNatClampNeg) r), (s_insL L q (q (6 + r.toNatClampNeg)) jb.toNatClampNeg (6 + r.toNatClampNeg)), S, n))) (by decide +kernel) (Nat.le_of_ble_eq_true rfl) ?_
  intro p e s m args below meth c X hr hlk htab w cn ls hl
  have hl : lv_has ls 7 [(0, .ref (ad 0)), (1, .int x), (2, .int jb), (3, .int r), (4, .int pp)] := hl
  have wf := hlf.1
  have hs := wf.2.2.1
  have hJ := wf.2.1.2
  refine lv_iload_n X.1 X.2.1 dL_act_0 rfl (lv_at hl 1 rfl) ?_
  refine lv_bipush (v := 13) X.1 X.2.1 dL_act_1 (by decide) ?_
  refine n_calli w (n_runS (n := 2) (As := [.int x, .int 13]) X (c_L_below l x 13 (by decide)) (bg_S kw_411 kw_412 kw_30 kw_413) rfl rfl (by decide +kernel) ⟨(Nat.le_of_ble_eq_true rfl), (Nat.le_of_ble_eq_true rfl)⟩ rfl hl.1 rfl (Nat.le_of_ble_eq_true rfl) dL_act_3 ⟨(Nat.le_of_ble_eq_true rfl), (Nat.le_of_ble_eq_true rfl)⟩) (fun H locs w => ?_)
  refine W.eq (g2 := F0 m 6 ls [.int 3]) (by rw [hkd]) ?_
  refine lv_tableIn (tgt := 133) X.1 X.2.1 dL_act_6 (by decide) (by decide) rfl (by decide) ?_
  refine lv_aload_n X.1 X.2.1 dL_act_133 rfl (lv_at hl 0 rfl) ?_
  refine lv_iload_n X.1 X.2.1 dL_act_134 rfl (lv_at hl 2 rfl) ?_
  refine lv_iload_n X.1 X.2.1 dL_act_135 rfl (lv_at hl 3 rfl) ?_
  have h2 : (er_order F n jb r) = 0 := h0
  refine w_calli cn w (w_runV (n := 2) (As := [.int jb, .int r]) X cn w (lt17 (by decide)) wC_0 rfl (fun sz => met_of (c_X4_order l D ca ad E F L S n hlt q wf jb r hroom 0 0 (fun h => (h h2).elim) sz) h2) (bg_V kw_527 kw_528 kw_529 kw_31 kw_530) rfl rfl (by decide +kernel) ⟨(Nat.le_of_ble_eq_true rfl), (Nat.le_of_ble_eq_true rfl)⟩ rfl hl.1 rfl (Nat.le_of_ble_eq_true rfl) dL_act_136 ⟨(Nat.le_of_ble_eq_true rfl), (Nat.le_of_ble_eq_true rfl)⟩) (fun r1 u H locs hp w => ?_)
  obtain ⟨E3, q4⟩ := u
  obtain ⟨-, rfl, h5⟩ := hp
  have h5 : q4 = ((s_orderF F S q jb.toNatClampNeg (6 + r.toNatClampNeg) r), (s_insL L q (q (6 + r.toNatClampNeg)) jb.toNatClampNeg (6 + r.toNatClampNeg)), S, n) := h5
  subst h5
  refine lv_aload_n X.1 X.2.1 dL_act_139 rfl (lv_at hl 0 rfl) ?_
  refine lv_iload_n X.1 X.2.1 dL_act_140 rfl (lv_at hl 2 rfl) ?_
  refine lv_bipush (v := 9) X.1 X.2.1 dL_act_141 (by decide) ?_
  have h502 : (er_ofJob n jb 9) = 0 := (by rw [er_ofJob, if_pos hi]; decide)
  refine w_calli cn w (w_runV (n := 2) (As := [.int jb, .int 9]) X cn w (lt17 (by decide)) wC_0 rfl (fun sz => met_of (c_X4_ofJob l D ca ad E3 (s_orderF F S q jb.toNatClampNeg (6 + r.toNatClampNeg) r) (s_insL L q (q (6 + r.toNatClampNeg)) jb.toNatClampNeg (6 + r.toNatClampNeg)) S n hlt q2 wf2 jb 9 0 0 (fun h => (h h502).elim) sz) h502) (bg_V kw_536 kw_381 kw_382 kw_31 kw_383) rfl rfl (by decide +kernel) ⟨(Nat.le_of_ble_eq_true rfl), (Nat.le_of_ble_eq_true rfl)⟩ rfl hl.1 rfl (Nat.le_of_ble_eq_true rfl) dL_act_143 ⟨(Nat.le_of_ble_eq_true rfl), (Nat.le_of_ble_eq_true rfl)⟩) (fun r501 u H locs hp w => ?_)
  obtain ⟨E503, q504⟩ := u
  obtain ⟨-, rfl, h505⟩ := hp
  have h505 : q504 = ((s_orderF F S q jb.toNatClampNeg (6 + r.toNatClampNeg) r), (s_insL L q (q (6 + r.toNatClampNeg)) jb.toNatClampNeg (6 + r.toNatClampNeg)), S, n) := h505
  subst h505
  refine lv_icmp_ne (tgt := 181) X.1 X.2.1 dL_act_146 (by decide) (fun c506 => ?_) (fun c506 => ?_)
  ·
    refine lv_iconst (v := 0) X.1 X.2.1 dL_act_181 (by decide) ?_
    exact w_iret X hr hlk w (by  exact ⟨by simp only [eq_false c506, or_true, true_or, or_self, or_false, false_or, and_true, true_and, and_false, false_and, not_true, not_false_iff, if_true, if_false], rfl⟩) dL_act_182 rfl (Nat.le_of_ble_eq_true rfl) (Nat.le_of_ble_eq_true rfl)
  ·
    refine lv_aload_n X.1 X.2.1 dL_act_149 rfl (lv_at hl 0 rfl) ?_
    refine lv_iload_n X.1 X.2.1 dL_act_150 rfl (lv_at hl 2 rfl) ?_
    refine lv_bipush (v := 6) X.1 X.2.1 dL_act_151 (by decide) ?_
    have h508 : (er_ofJob n jb 6) = 0 := (by rw [er_ofJob, if_pos hi]; decide)
    refine w_calli cn w (w_runV (n := 2) (As := [.int jb, .int 6]) X cn w (lt17 (by decide)) wC_0 rfl (fun sz => met_of (c_X4_ofJob l D ca ad E503 (s_orderF F S q jb.toNatClampNeg (6 + r.toNatClampNeg) r) (s_insL L q (q (6 + r.toNatClampNeg)) jb.toNatClampNeg (6 + r.toNatClampNeg)) S n hlt q2 wf2 jb 6 0 0 (fun h => (h h508).elim) sz) h508) (bg_V kw_536 kw_381 kw_382 kw_31 kw_383) rfl rfl (by decide +kernel) ⟨(Nat.le_of_ble_eq_true rfl), (Nat.le_of_ble_eq_true rfl)⟩ rfl hl.1 rfl (Nat.le_of_ble_eq_true rfl) dL_act_153 ⟨(Nat.le_of_ble_eq_true rfl), (Nat.le_of_ble_eq_true rfl)⟩) (fun r507 u H locs hp w => ?_)
    obtain ⟨E509, q510⟩ := u
    obtain ⟨-, rfl, h511⟩ := hp
    have h511 : q510 = ((s_orderF F S q jb.toNatClampNeg (6 + r.toNatClampNeg) r), (s_insL L q (q (6 + r.toNatClampNeg)) jb.toNatClampNeg (6 + r.toNatClampNeg)), S, n) := h511
    subst h511
    refine lv_iconst (v := 1) X.1 X.2.1 dL_act_156 (by decide) ?_
    refine lv_icmp_ne (tgt := 181) X.1 X.2.1 dL_act_157 (by decide) (fun c512 => ?_) (fun c512 => ?_)
    ·
      refine lv_iconst (v := 0) X.1 X.2.1 dL_act_181 (by decide) ?_
      exact w_iret X hr hlk w (by  exact ⟨by simp only [eq_true c506, eq_false c512, or_true, true_or, or_self, or_false, false_or, and_true, true_and, and_false, false_and, not_true, not_false_iff, if_true, if_false], rfl⟩) dL_act_182 rfl (Nat.le_of_ble_eq_true rfl) (Nat.le_of_ble_eq_true rfl)
    ·
      refine lv_aload_n X.1 X.2.1 dL_act_160 rfl (lv_at hl 0 rfl) ?_
      refine lv_iload_n X.1 X.2.1 dL_act_161 rfl (lv_at hl 3 rfl) ?_
      refine lv_aload_n X.1 X.2.1 dL_act_162 rfl (lv_at hl 0 rfl) ?_
      refine lv_iload_n X.1 X.2.1 dL_act_163 rfl (lv_at hl 3 rfl) ?_
      refine lv_iconst (v := 5) X.1 X.2.1 dL_act_164 (by decide) ?_
      have h514 : (er_ofPress r 5) = 0 := (by rw [er_ofPress, if_pos h3]; decide)
      refine w_calli cn w (w_runV (n := 2) (As := [.int r, .int 5]) X cn w (lt17 (by decide)) wC_0 rfl (fun sz => met_of (c_X4_ofPress l D ca ad E509 (s_orderF F S q jb.toNatClampNeg (6 + r.toNatClampNeg) r) (s_insL L q (q (6 + r.toNatClampNeg)) jb.toNatClampNeg (6 + r.toNatClampNeg)) S n hlt q2 wf2 r 5 0 0 (fun h => (h h514).elim) sz) h514) (bg_V kw_537 kw_358 kw_359 kw_31 kw_360) rfl rfl (by decide +kernel) ⟨(Nat.le_of_ble_eq_true rfl), (Nat.le_of_ble_eq_true rfl)⟩ rfl hl.1 rfl (Nat.le_of_ble_eq_true rfl) dL_act_165 ⟨(Nat.le_of_ble_eq_true rfl), (Nat.le_of_ble_eq_true rfl)⟩) (fun r513 u H locs hp w => ?_)
      obtain ⟨E515, q516⟩ := u
      obtain ⟨-, rfl, h517⟩ := hp
      have h517 : q516 = ((s_orderF F S q jb.toNatClampNeg (6 + r.toNatClampNeg) r), (s_insL L q (q (6 + r.toNatClampNeg)) jb.toNatClampNeg (6 + r.toNatClampNeg)), S, n) := h517
      subst h517
      refine lv_iconst (v := 1) X.1 X.2.1 dL_act_168 (by decide) ?_
      refine lv_isub X.1 X.2.1 dL_act_169 ?_
      have h519 : (er_queue (s_orderF F S q jb.toNatClampNeg (6 + r.toNatClampNeg) r) (s_insL L q (q (6 + r.toNatClampNeg)) jb.toNatClampNeg (6 + r.toNatClampNeg)) r ((s_ofPress (s_orderF F S q jb.toNatClampNeg (6 + r.toNatClampNeg) r) (s_insL L q (q (6 + r.toNatClampNeg)) jb.toNatClampNeg (6 + r.toNatClampNeg)) q (6 + r.toNatClampNeg) 5) - 1)) = 0 := hq2
      refine w_calli cn w (w_runV (n := 2) (As := [.int r, .int ((s_ofPress (s_orderF F S q jb.toNatClampNeg (6 + r.toNatClampNeg) r) (s_insL L q (q (6 + r.toNatClampNeg)) jb.toNatClampNeg (6 + r.toNatClampNeg)) q (6 + r.toNatClampNeg) 5) - 1)]) X cn w (lt17 (by decide)) wC_0 rfl (fun sz => met_of (c_X4_queue l D ca ad E515 (s_orderF F S q jb.toNatClampNeg (6 + r.toNatClampNeg) r) (s_insL L q (q (6 + r.toNatClampNeg)) jb.toNatClampNeg (6 + r.toNatClampNeg)) S n hlt q2 wf2 r ((s_ofPress (s_orderF F S q jb.toNatClampNeg (6 + r.toNatClampNeg) r) (s_insL L q (q (6 + r.toNatClampNeg)) jb.toNatClampNeg (6 + r.toNatClampNeg)) q (6 + r.toNatClampNeg) 5) - 1) 0 0 (fun h => (h h519).elim) sz) h519) (bg_V kw_538 kw_372 kw_373 kw_31 kw_374) rfl rfl (by decide +kernel) ⟨(Nat.le_of_ble_eq_true rfl), (Nat.le_of_ble_eq_true rfl)⟩ rfl hl.1 rfl (Nat.le_of_ble_eq_true rfl) dL_act_170 ⟨(Nat.le_of_ble_eq_true rfl), (Nat.le_of_ble_eq_true rfl)⟩) (fun r518 u H locs hp w => ?_)
      obtain ⟨E520, q521⟩ := u
      obtain ⟨-, rfl, h522⟩ := hp
      have h522 : q521 = ((s_orderF F S q jb.toNatClampNeg (6 + r.toNatClampNeg) r), (s_insL L q (q (6 + r.toNatClampNeg)) jb.toNatClampNeg (6 + r.toNatClampNeg)), S, n) := h522
      subst h522
      refine lv_iload_n X.1 X.2.1 dL_act_173 rfl (lv_at hl 2 rfl) ?_
      refine lv_icmp_ne (tgt := 181) X.1 X.2.1 dL_act_174 (by decide) (fun c523 => ?_) (fun c523 => ?_)
      ·
        refine lv_iconst (v := 0) X.1 X.2.1 dL_act_181 (by decide) ?_
        exact w_iret X hr hlk w (by  exact ⟨by simp only [eq_true c506, eq_true c512, eq_false c523, or_true, true_or, or_self, or_false, false_or, and_true, true_and, and_false, false_and, not_true, not_false_iff, if_true, if_false], rfl⟩) dL_act_182 rfl (Nat.le_of_ble_eq_true rfl) (Nat.le_of_ble_eq_true rfl)
      ·
        refine lv_iconst (v := 1) X.1 X.2.1 dL_act_177 (by decide) ?_
        refine lv_goto (tgt := 182) X.1 X.2.1 dL_act_178 (by decide) ?_
        exact w_iret X hr hlk w (by  exact ⟨by simp only [eq_true c506, eq_true c512, eq_true c523, or_true, true_or, or_self, or_false, false_or, and_true, true_and, and_false, false_and, not_true, not_false_iff, if_true, if_false], rfl⟩) dL_act_182 rfl (Nat.le_of_ble_eq_true rfl) (Nat.le_of_ble_eq_true rfl)

set_option maxHeartbeats 4000000 in
set_option maxRecDepth 100000 in
theorem ca_order3_x1 (l : Launch) (D : va_G) (ca : Nat → ClassId) (ad : Nat → Nat) (E : Em) (F : Fm) (L : Lm) (S : Sm) (n : Nat) (hlt : l.stackTraces = false) (q : Nat → Nat) (hlf : Lf F L S n q) (x jb r pp : Int32) (hkd : s_below x 13 = 3) (hx : er_order F n jb r = 1) (hroom : er_order F n jb r = 0 → q (6 + r.toNatClampNeg) < 20) (sz : Nat) : Met l yL_act (.codeWith yL_act cL_act 7 (some .boolean) hhA :: BG) { frames := 9, cells := 1, slots := 15, locals := 200 } (Pw D ca ad (E, F, L, S, n) sz [.ref (ad 0), .int x, .int jb, .int r, .int pp]) (Qi D ca ad n (fun v u => v = (if s_many F n 0 = 0 then 1 else if s_below x 13 = 10 then 1 else if s_below x 13 = 11 then 1 else 0) ∧ u.2 = (F, L, S, n)) sz) 1 15 (wA ad n sz) := by
  refine open_A (σ := (E, F, L, S, n)) (Qc := Qi D ca ad n (fun v u => v = (if s_many F n 0 = 0 then 1 else if s_below x 13 = 10 then 1 else if s_below x 13 = 11 then 1 else 0) ∧ u.2 = (F, L, S, n))) (by decide +kernel) (Nat.le_of_ble_eq_true rfl) ?_
  intro p e s m args below meth c X hr hlk htab w cn ls hl
  have hl : lv_has ls 7 [(0, .ref (ad 0)), (1, .int x), (2, .int jb), (3, .int r), (4, .int pp)] := hl
  have wf := hlf.1
  have hs := wf.2.2.1
  have hJ := wf.2.1.2
  refine lv_iload_n X.1 X.2.1 dL_act_0 rfl (lv_at hl 1 rfl) ?_
  refine lv_bipush (v := 13) X.1 X.2.1 dL_act_1 (by decide) ?_
  refine n_calli w (n_runS (n := 2) (As := [.int x, .int 13]) X (c_L_below l x 13 (by decide)) (bg_S kw_411 kw_412 kw_30 kw_413) rfl rfl (by decide +kernel) ⟨(Nat.le_of_ble_eq_true rfl), (Nat.le_of_ble_eq_true rfl)⟩ rfl hl.1 rfl (Nat.le_of_ble_eq_true rfl) dL_act_3 ⟨(Nat.le_of_ble_eq_true rfl), (Nat.le_of_ble_eq_true rfl)⟩) (fun H locs w => ?_)
  refine W.eq (g2 := F0 m 6 ls [.int 3]) (by rw [hkd]) ?_
  refine lv_tableIn (tgt := 133) X.1 X.2.1 dL_act_6 (by decide) (by decide) rfl (by decide) ?_
  refine lv_aload_n X.1 X.2.1 dL_act_133 rfl (lv_at hl 0 rfl) ?_
  refine lv_iload_n X.1 X.2.1 dL_act_134 rfl (lv_at hl 2 rfl) ?_
  refine lv_iload_n X.1 X.2.1 dL_act_135 rfl (lv_at hl 3 rfl) ?_
  have h2 : (er_order F n jb r) = 1 := hx
  refine x_caught X cn w (xw_runV (n := 2) (As := [.int jb, .int r]) X cn w (lt17 (by decide)) wC_0 rfl (fun sz => c_X4_order l D ca ad E F L S n hlt q wf jb r hroom 1 6 (fun _ => ⟨Nat.le_refl 1, Nat.le_refl 6⟩) sz) (bg_V kw_527 kw_528 kw_529 kw_31 kw_530) rfl rfl (by decide +kernel) ⟨(Nat.le_of_ble_eq_true rfl), (Nat.le_of_ble_eq_true rfl)⟩ rfl hl.1 rfl (Nat.le_of_ble_eq_true rfl) dL_act_136 ⟨(Nat.le_of_ble_eq_true rfl), (Nat.le_of_ble_eq_true rfl)⟩) (fun st v t hq => by obtain ⟨⟨r, u, -, hp, -⟩, -⟩ := hq; first | exact hp.elim | (have h9 := hp.1; omega)) eIO eIO (by rw [h2]; rfl) (ATB.take 1) ⟨133, 182, 514, 102⟩ (ATB.drop 2) (htab.trans (by decide +kernel)) (x_passA (by decide +kernel)) (by decide +kernel) (by decide) (X.2.2.2.2 _ kw_422) (cn.2.1.use kw_284) (fun q9 u H locs hu w => ?_)
  obtain ⟨E3, q4⟩ := u
  have hu : q4 = (F, L, S, n) := hu
  subst hu
  refine lv_astore (lv' := [(5, .ref q9), (0, .ref (ad 0)), (1, .int x), (2, .int jb), (3, .int r), (4, .int pp)]) X.1 X.2.1 dL_act_514 hl (by decide) rfl (fun ls hl => ?_)
  refine lv_aload_n X.1 X.2.1 dL_act_516 rfl (lv_at hl 1 rfl) ?_
  refine lv_iconst (v := 0) X.1 X.2.1 dL_act_517 (by decide) ?_
  have h6 : (erW 10 0) = 0 := (by decide)
  refine w_calli cn w (w_runV (n := 1) (As := [.int 0]) X cn w (lt17 (by decide)) wC_0 rfl (fun sz => met_of (c_X4_many l D ca ad E3 F L S n hlt q wf 0 0 0 (fun h => (h h6).elim) sz) h6) (bg_V kw_179 kw_180 kw_181 kw_31 kw_182) rfl rfl (by decide +kernel) ⟨(Nat.le_of_ble_eq_true rfl), (Nat.le_of_ble_eq_true rfl)⟩ rfl hl.1 rfl (Nat.le_of_ble_eq_true rfl) dL_act_518 ⟨(Nat.le_of_ble_eq_true rfl), (Nat.le_of_ble_eq_true rfl)⟩) (fun r5 u H locs hp w => ?_)
  obtain ⟨E7, q8⟩ := u
  obtain ⟨-, rfl, h9⟩ := hp
  have h9 : q8 = (F, L, S, n) := h9
  subst h9
  refine lv_if_eq (tgt := 546) X.1 X.2.1 dL_act_521 (by decide) (fun c10 => ?_) (fun c10 => ?_)
  ·
    refine lv_iconst (v := 1) X.1 X.2.1 dL_act_546 (by decide) ?_
    refine lv_goto (tgt := 551) X.1 X.2.1 dL_act_547 (by decide) ?_
    exact w_iret X hr hlk w (by  exact ⟨by simp only [eq_true c10, or_true, true_or, or_self, or_false, false_or, and_true, true_and, and_false, false_and, not_true, not_false_iff, if_true, if_false], rfl⟩) dL_act_551 rfl (Nat.le_of_ble_eq_true rfl) (Nat.le_of_ble_eq_true rfl)
  ·
    refine lv_iload_n X.1 X.2.1 dL_act_524 rfl (lv_at hl 2 rfl) ?_
    refine lv_bipush (v := 13) X.1 X.2.1 dL_act_525 (by decide) ?_
    refine n_calli w (n_runS (n := 2) (As := [.int x, .int 13]) X (c_L_below l x 13 (by decide)) (bg_S kw_411 kw_412 kw_30 kw_413) rfl rfl (by decide +kernel) ⟨(Nat.le_of_ble_eq_true rfl), (Nat.le_of_ble_eq_true rfl)⟩ rfl hl.1 rfl (Nat.le_of_ble_eq_true rfl) dL_act_527 ⟨(Nat.le_of_ble_eq_true rfl), (Nat.le_of_ble_eq_true rfl)⟩) (fun H locs w => ?_)
    refine lv_bipush (v := 10) X.1 X.2.1 dL_act_530 (by decide) ?_
    refine lv_icmp_eq (tgt := 546) X.1 X.2.1 dL_act_532 (by decide) (fun c11 => ?_) (fun c11 => ?_)
    ·
      refine lv_iconst (v := 1) X.1 X.2.1 dL_act_546 (by decide) ?_
      refine lv_goto (tgt := 551) X.1 X.2.1 dL_act_547 (by decide) ?_
      exact w_iret X hr hlk w (by  exact ⟨by simp only [eq_false c10, eq_true c11, or_true, true_or, or_self, or_false, false_or, and_true, true_and, and_false, false_and, not_true, not_false_iff, if_true, if_false], rfl⟩) dL_act_551 rfl (Nat.le_of_ble_eq_true rfl) (Nat.le_of_ble_eq_true rfl)
    ·
      refine lv_iload_n X.1 X.2.1 dL_act_535 rfl (lv_at hl 2 rfl) ?_
      refine lv_bipush (v := 13) X.1 X.2.1 dL_act_536 (by decide) ?_
      refine n_calli w (n_runS (n := 2) (As := [.int x, .int 13]) X (c_L_below l x 13 (by decide)) (bg_S kw_411 kw_412 kw_30 kw_413) rfl rfl (by decide +kernel) ⟨(Nat.le_of_ble_eq_true rfl), (Nat.le_of_ble_eq_true rfl)⟩ rfl hl.1 rfl (Nat.le_of_ble_eq_true rfl) dL_act_538 ⟨(Nat.le_of_ble_eq_true rfl), (Nat.le_of_ble_eq_true rfl)⟩) (fun H locs w => ?_)
      refine lv_bipush (v := 11) X.1 X.2.1 dL_act_541 (by decide) ?_
      refine lv_icmp_ne (tgt := 550) X.1 X.2.1 dL_act_543 (by decide) (fun c12 => ?_) (fun c12 => ?_)
      ·
        refine lv_iconst (v := 0) X.1 X.2.1 dL_act_550 (by decide) ?_
        exact w_iret X hr hlk w (by  exact ⟨by simp only [eq_false c10, eq_false c11, eq_false c12, or_true, true_or, or_self, or_false, false_or, and_true, true_and, and_false, false_and, not_true, not_false_iff, if_true, if_false], rfl⟩) dL_act_551 rfl (Nat.le_of_ble_eq_true rfl) (Nat.le_of_ble_eq_true rfl)
      ·
        refine lv_iconst (v := 1) X.1 X.2.1 dL_act_546 (by decide) ?_
        refine lv_goto (tgt := 551) X.1 X.2.1 dL_act_547 (by decide) ?_
        exact w_iret X hr hlk w (by  exact ⟨by simp only [eq_false c10, eq_false c11, eq_true c12, or_true, true_or, or_self, or_false, false_or, and_true, true_and, and_false, false_and, not_true, not_false_iff, if_true, if_false], rfl⟩) dL_act_551 rfl (Nat.le_of_ble_eq_true rfl) (Nat.le_of_ble_eq_true rfl)

set_option maxHeartbeats 4000000 in
set_option maxRecDepth 100000 in
theorem ca_order3_x3 (l : Launch) (D : va_G) (ca : Nat → ClassId) (ad : Nat → Nat) (E : Em) (F : Fm) (L : Lm) (S : Sm) (n : Nat) (hlt : l.stackTraces = false) (q : Nat → Nat) (hlf : Lf F L S n q) (x jb r pp : Int32) (hkd : s_below x 13 = 3) (hx : er_order F n jb r = 3) (hroom : er_order F n jb r = 0 → q (6 + r.toNatClampNeg) < 20) (sz : Nat) : Met l yL_act (.codeWith yL_act cL_act 7 (some .boolean) hhA :: BG) { frames := 9, cells := 1, slots := 15, locals := 200 } (Pw D ca ad (E, F, L, S, n) sz [.ref (ad 0), .int x, .int jb, .int r, .int pp]) (Qi D ca ad n (fun v u => v = (if s_below x 13 < 4 then 1 else if s_below x 13 ≤ 5 then 0 else if 12 ≤ s_below x 13 then 0 else 1) ∧ u.2 = (F, L, S, n)) sz) 1 15 (wA ad n sz) := by
  refine open_A (σ := (E, F, L, S, n)) (Qc := Qi D ca ad n (fun v u => v = (if s_below x 13 < 4 then 1 else if s_below x 13 ≤ 5 then 0 else if 12 ≤ s_below x 13 then 0 else 1) ∧ u.2 = (F, L, S, n))) (by decide +kernel) (Nat.le_of_ble_eq_true rfl) ?_
  intro p e s m args below meth c X hr hlk htab w cn ls hl
  have hl : lv_has ls 7 [(0, .ref (ad 0)), (1, .int x), (2, .int jb), (3, .int r), (4, .int pp)] := hl
  have wf := hlf.1
  have hs := wf.2.2.1
  have hJ := wf.2.1.2
  refine lv_iload_n X.1 X.2.1 dL_act_0 rfl (lv_at hl 1 rfl) ?_
  refine lv_bipush (v := 13) X.1 X.2.1 dL_act_1 (by decide) ?_
  refine n_calli w (n_runS (n := 2) (As := [.int x, .int 13]) X (c_L_below l x 13 (by decide)) (bg_S kw_411 kw_412 kw_30 kw_413) rfl rfl (by decide +kernel) ⟨(Nat.le_of_ble_eq_true rfl), (Nat.le_of_ble_eq_true rfl)⟩ rfl hl.1 rfl (Nat.le_of_ble_eq_true rfl) dL_act_3 ⟨(Nat.le_of_ble_eq_true rfl), (Nat.le_of_ble_eq_true rfl)⟩) (fun H locs w => ?_)
  refine W.eq (g2 := F0 m 6 ls [.int 3]) (by rw [hkd]) ?_
  refine lv_tableIn (tgt := 133) X.1 X.2.1 dL_act_6 (by decide) (by decide) rfl (by decide) ?_
  refine lv_aload_n X.1 X.2.1 dL_act_133 rfl (lv_at hl 0 rfl) ?_
  refine lv_iload_n X.1 X.2.1 dL_act_134 rfl (lv_at hl 2 rfl) ?_
  refine lv_iload_n X.1 X.2.1 dL_act_135 rfl (lv_at hl 3 rfl) ?_
  have h2 : (er_order F n jb r) = 3 := hx
  refine x_caught X cn w (xw_runV (n := 2) (As := [.int jb, .int r]) X cn w (lt17 (by decide)) wC_0 rfl (fun sz => c_X4_order l D ca ad E F L S n hlt q wf jb r hroom 1 6 (fun _ => ⟨Nat.le_refl 1, Nat.le_refl 6⟩) sz) (bg_V kw_527 kw_528 kw_529 kw_31 kw_530) rfl rfl (by decide +kernel) ⟨(Nat.le_of_ble_eq_true rfl), (Nat.le_of_ble_eq_true rfl)⟩ rfl hl.1 rfl (Nat.le_of_ble_eq_true rfl) dL_act_136 ⟨(Nat.le_of_ble_eq_true rfl), (Nat.le_of_ble_eq_true rfl)⟩) (fun st v t hq => by obtain ⟨⟨r, u, -, hp, -⟩, -⟩ := hq; first | exact hp.elim | (have h9 := hp.1; omega)) eIS eIS (by rw [h2]; rfl) (ATB.take 23) ⟨133, 182, 570, 106⟩ (ATB.drop 24) (htab.trans (by decide +kernel)) (x_passC (by decide +kernel) (X.2.2.2.2 _ kw_422) (cn.2.1.2.2.1 (eIS, eIO) (by decide)) (X.2.2.2.2 _ kw_423) (cn.2.1.2.2.1 (eIS, eIA) (by decide))) (by decide +kernel) (by decide) (X.2.2.2.2 _ kw_424) (cn.2.1.use kw_445) (fun q9 u H locs hu w => ?_)
  obtain ⟨E3, q4⟩ := u
  have hu : q4 = (F, L, S, n) := hu
  subst hu
  refine lv_astore (lv' := [(5, .ref q9), (0, .ref (ad 0)), (1, .int x), (2, .int jb), (3, .int r), (4, .int pp)]) X.1 X.2.1 dL_act_570 hl (by decide) rfl (fun ls hl => ?_)
  refine lv_iload_n X.1 X.2.1 dL_act_572 rfl (lv_at hl 2 rfl) ?_
  refine lv_bipush (v := 13) X.1 X.2.1 dL_act_573 (by decide) ?_
  refine n_calli w (n_runS (n := 2) (As := [.int x, .int 13]) X (c_L_below l x 13 (by decide)) (bg_S kw_411 kw_412 kw_30 kw_413) rfl rfl (by decide +kernel) ⟨(Nat.le_of_ble_eq_true rfl), (Nat.le_of_ble_eq_true rfl)⟩ rfl hl.1 rfl (Nat.le_of_ble_eq_true rfl) dL_act_575 ⟨(Nat.le_of_ble_eq_true rfl), (Nat.le_of_ble_eq_true rfl)⟩) (fun H locs w => ?_)
  refine lv_iconst (v := 4) X.1 X.2.1 dL_act_578 (by decide) ?_
  refine lv_icmp_lt (tgt := 603) X.1 X.2.1 dL_act_579 (by decide) (fun c5 => ?_) (fun c5 => ?_)
  ·
    refine lv_iconst (v := 1) X.1 X.2.1 dL_act_603 (by decide) ?_
    refine lv_goto (tgt := 608) X.1 X.2.1 dL_act_604 (by decide) ?_
    exact w_iret X hr hlk w (by  exact ⟨by simp only [eq_true c5, or_true, true_or, or_self, or_false, false_or, and_true, true_and, and_false, false_and, not_true, not_false_iff, if_true, if_false], rfl⟩) dL_act_608 rfl (Nat.le_of_ble_eq_true rfl) (Nat.le_of_ble_eq_true rfl)
  ·
    refine lv_iload_n X.1 X.2.1 dL_act_582 rfl (lv_at hl 2 rfl) ?_
    refine lv_bipush (v := 13) X.1 X.2.1 dL_act_583 (by decide) ?_
    refine n_calli w (n_runS (n := 2) (As := [.int x, .int 13]) X (c_L_below l x 13 (by decide)) (bg_S kw_411 kw_412 kw_30 kw_413) rfl rfl (by decide +kernel) ⟨(Nat.le_of_ble_eq_true rfl), (Nat.le_of_ble_eq_true rfl)⟩ rfl hl.1 rfl (Nat.le_of_ble_eq_true rfl) dL_act_585 ⟨(Nat.le_of_ble_eq_true rfl), (Nat.le_of_ble_eq_true rfl)⟩) (fun H locs w => ?_)
    refine lv_iconst (v := 5) X.1 X.2.1 dL_act_588 (by decide) ?_
    refine lv_icmp_le (tgt := 607) X.1 X.2.1 dL_act_589 (by decide) (fun c6 => ?_) (fun c6 => ?_)
    ·
      refine lv_iconst (v := 0) X.1 X.2.1 dL_act_607 (by decide) ?_
      exact w_iret X hr hlk w (by  exact ⟨by simp only [eq_false c5, eq_true c6, or_true, true_or, or_self, or_false, false_or, and_true, true_and, and_false, false_and, not_true, not_false_iff, if_true, if_false], rfl⟩) dL_act_608 rfl (Nat.le_of_ble_eq_true rfl) (Nat.le_of_ble_eq_true rfl)
    ·
      refine lv_iload_n X.1 X.2.1 dL_act_592 rfl (lv_at hl 2 rfl) ?_
      refine lv_bipush (v := 13) X.1 X.2.1 dL_act_593 (by decide) ?_
      refine n_calli w (n_runS (n := 2) (As := [.int x, .int 13]) X (c_L_below l x 13 (by decide)) (bg_S kw_411 kw_412 kw_30 kw_413) rfl rfl (by decide +kernel) ⟨(Nat.le_of_ble_eq_true rfl), (Nat.le_of_ble_eq_true rfl)⟩ rfl hl.1 rfl (Nat.le_of_ble_eq_true rfl) dL_act_595 ⟨(Nat.le_of_ble_eq_true rfl), (Nat.le_of_ble_eq_true rfl)⟩) (fun H locs w => ?_)
      refine lv_bipush (v := 12) X.1 X.2.1 dL_act_598 (by decide) ?_
      refine lv_icmp_ge (tgt := 607) X.1 X.2.1 dL_act_600 (by decide) (fun c7 => ?_) (fun c7 => ?_)
      ·
        refine lv_iconst (v := 0) X.1 X.2.1 dL_act_607 (by decide) ?_
        exact w_iret X hr hlk w (by  exact ⟨by simp only [eq_false c5, eq_false c6, eq_true c7, or_true, true_or, or_self, or_false, false_or, and_true, true_and, and_false, false_and, not_true, not_false_iff, if_true, if_false], rfl⟩) dL_act_608 rfl (Nat.le_of_ble_eq_true rfl) (Nat.le_of_ble_eq_true rfl)
      ·
        refine lv_iconst (v := 1) X.1 X.2.1 dL_act_603 (by decide) ?_
        refine lv_goto (tgt := 608) X.1 X.2.1 dL_act_604 (by decide) ?_
        exact w_iret X hr hlk w (by  exact ⟨by simp only [eq_false c5, eq_false c6, eq_false c7, or_true, true_or, or_self, or_false, false_or, and_true, true_and, and_false, false_and, not_true, not_false_iff, if_true, if_false], rfl⟩) dL_act_608 rfl (Nat.le_of_ble_eq_true rfl) (Nat.le_of_ble_eq_true rfl)

set_option maxHeartbeats 4000000 in
set_option maxRecDepth 100000 in
theorem ca_buy (l : Launch) (D : va_G) (ca : Nat → ClassId) (ad : Nat → Nat) (E : Em) (F : Fm) (L : Lm) (S : Sm) (n : Nat) (hlt : l.stackTraces = false) (q : Nat → Nat) (hlf : Lf F L S n q) (x jb r pp : Int32) (hkd : s_below x 13 = 4) (h0 : er_buy F pp (1 + s_below (x >>> ((6 : Int32) &&& 31)) 4) = 0) (hp4 : erI 4 pp = 0) (sz : Nat) : Met l yL_act (.codeWith yL_act cL_act 7 (some .boolean) hhA :: BG) { frames := 9, cells := 1, slots := 15, locals := 200 } (Pw D ca ad (E, F, L, S, n) sz [.ref (ad 0), .int x, .int jb, .int r, .int pp]) (Qi D ca ad n (fun v u => v = (if (s_bring F (2 + pp.toNatClampNeg) (1 + s_below (x >>> ((6 : Int32) &&& 31)) 4)) (2 + pp.toNatClampNeg) 3 = s_ofPaper (s_bring F (2 + pp.toNatClampNeg) (1 + s_below (x >>> ((6 : Int32) &&& 31)) 4)) L S q (2 + pp.toNatClampNeg) 3 then 1 else 0) ∧ u.2 = ((s_bring F (2 + pp.toNatClampNeg) (1 + s_below (x >>> ((6 : Int32) &&& 31)) 4)), L, S, n)) sz) 1 15 (wA ad n sz) := by
  refine open_A (σ := (E, F, L, S, n)) (Qc := Qi D ca ad n (fun v u => v = (if (s_bring F (2 + pp.toNatClampNeg) (1 + s_below (x >>> ((6 : Int32) &&& 31)) 4)) (2 + pp.toNatClampNeg) 3 = s_ofPaper (s_bring F (2 + pp.toNatClampNeg) (1 + s_below (x >>> ((6 : Int32) &&& 31)) 4)) L S q (2 + pp.toNatClampNeg) 3 then 1 else 0) ∧ u.2 = ((s_bring F (2 + pp.toNatClampNeg) (1 + s_below (x >>> ((6 : Int32) &&& 31)) 4)), L, S, n))) (by decide +kernel) (Nat.le_of_ble_eq_true rfl) ?_
  intro p e s m args below meth c X hr hlk htab w cn ls hl
  have hl : lv_has ls 7 [(0, .ref (ad 0)), (1, .int x), (2, .int jb), (3, .int r), (4, .int pp)] := hl
  have wf := hlf.1
  have hs := wf.2.2.1
  have hJ := wf.2.1.2
  refine lv_iload_n X.1 X.2.1 dL_act_0 rfl (lv_at hl 1 rfl) ?_
  refine lv_bipush (v := 13) X.1 X.2.1 dL_act_1 (by decide) ?_
  refine n_calli w (n_runS (n := 2) (As := [.int x, .int 13]) X (c_L_below l x 13 (by decide)) (bg_S kw_411 kw_412 kw_30 kw_413) rfl rfl (by decide +kernel) ⟨(Nat.le_of_ble_eq_true rfl), (Nat.le_of_ble_eq_true rfl)⟩ rfl hl.1 rfl (Nat.le_of_ble_eq_true rfl) dL_act_3 ⟨(Nat.le_of_ble_eq_true rfl), (Nat.le_of_ble_eq_true rfl)⟩) (fun H locs w => ?_)
  refine W.eq (g2 := F0 m 6 ls [.int 4]) (by rw [hkd]) ?_
  refine lv_tableIn (tgt := 183) X.1 X.2.1 dL_act_6 (by decide) (by decide) rfl (by decide) ?_
  refine lv_aload_n X.1 X.2.1 dL_act_183 rfl (lv_at hl 0 rfl) ?_
  refine lv_iload X.1 X.2.1 dL_act_184 (lv_at hl 4 rfl) ?_
  refine lv_iconst (v := 1) X.1 X.2.1 dL_act_186 (by decide) ?_
  refine lv_iload_n X.1 X.2.1 dL_act_187 rfl (lv_at hl 1 rfl) ?_
  refine lv_bipush (v := 6) X.1 X.2.1 dL_act_188 (by decide) ?_
  refine lv_ishr X.1 X.2.1 dL_act_190 ?_
  refine lv_iconst (v := 4) X.1 X.2.1 dL_act_191 (by decide) ?_
  refine n_calli w (n_runS (n := 2) (As := [.int (x >>> ((6 : Int32) &&& 31)), .int 4]) X (c_L_below l (x >>> ((6 : Int32) &&& 31)) 4 (by decide)) (bg_S kw_411 kw_412 kw_30 kw_413) rfl rfl (by decide +kernel) ⟨(Nat.le_of_ble_eq_true rfl), (Nat.le_of_ble_eq_true rfl)⟩ rfl hl.1 rfl (Nat.le_of_ble_eq_true rfl) dL_act_192 ⟨(Nat.le_of_ble_eq_true rfl), (Nat.le_of_ble_eq_true rfl)⟩) (fun H locs w => ?_)
  refine lv_iadd X.1 X.2.1 dL_act_195 ?_
  have h2 : (er_buy F pp (1 + (s_below (x >>> ((6 : Int32) &&& 31)) 4))) = 0 := h0
  refine w_calli cn w (w_runV (n := 2) (As := [.int pp, .int (1 + (s_below (x >>> ((6 : Int32) &&& 31)) 4))]) X cn w (lt17 (by decide)) wC_0 rfl (fun sz => met_of (c_X4_buy l D ca ad E F L S n hlt q wf pp (1 + (s_below (x >>> ((6 : Int32) &&& 31)) 4)) 0 0 (fun h => (h h2).elim) sz) h2) (bg_V kw_539 kw_540 kw_541 kw_31 kw_542) rfl rfl (by decide +kernel) ⟨(Nat.le_of_ble_eq_true rfl), (Nat.le_of_ble_eq_true rfl)⟩ rfl hl.1 rfl (Nat.le_of_ble_eq_true rfl) dL_act_196 ⟨(Nat.le_of_ble_eq_true rfl), (Nat.le_of_ble_eq_true rfl)⟩) (fun r1 u H locs hp w => ?_)
  obtain ⟨E3, q4⟩ := u
  obtain ⟨-, rfl, h5⟩ := hp
  have h5 : q4 = ((s_bring F (2 + pp.toNatClampNeg) (1 + (s_below (x >>> ((6 : Int32) &&& 31)) 4))), L, S, n) := h5
  subst h5
  refine lv_aload_n X.1 X.2.1 dL_act_199 rfl (lv_at hl 0 rfl) ?_
  refine lv_iload X.1 X.2.1 dL_act_200 (lv_at hl 4 rfl) ?_
  refine lv_iconst (v := 3) X.1 X.2.1 dL_act_202 (by decide) ?_
  have h502 : (er_ofPaper pp 3) = 0 := (by rw [er_ofPaper, if_pos hp4]; decide)
  refine w_calli cn w (w_runV (n := 2) (As := [.int pp, .int 3]) X cn w (lt17 (by decide)) wC_0 rfl (fun sz => met_of (c_X4_ofPaper l D ca ad E3 (s_bring F (2 + pp.toNatClampNeg) (1 + (s_below (x >>> ((6 : Int32) &&& 31)) 4))) L S n hlt q (wf.buy (pap_in (in_erI hp4))) pp 3 0 0 (fun h => (h h502).elim) sz) h502) (bg_V kw_554 kw_275 kw_276 kw_31 kw_277) rfl rfl (by decide +kernel) ⟨(Nat.le_of_ble_eq_true rfl), (Nat.le_of_ble_eq_true rfl)⟩ rfl hl.1 rfl (Nat.le_of_ble_eq_true rfl) dL_act_203 ⟨(Nat.le_of_ble_eq_true rfl), (Nat.le_of_ble_eq_true rfl)⟩) (fun r501 u H locs hp w => ?_)
  obtain ⟨E503, q504⟩ := u
  obtain ⟨-, rfl, h505⟩ := hp
  have h505 : q504 = ((s_bring F (2 + pp.toNatClampNeg) (1 + (s_below (x >>> ((6 : Int32) &&& 31)) 4))), L, S, n) := h505
  subst h505
  refine lv_icmp_ne (tgt := 213) X.1 X.2.1 dL_act_206 (by decide) (fun c506 => ?_) (fun c506 => ?_)
  ·
    refine lv_iconst (v := 0) X.1 X.2.1 dL_act_213 (by decide) ?_
    exact w_iret X hr hlk w (by  exact ⟨by simp only [eq_false c506, or_true, true_or, or_self, or_false, false_or, and_true, true_and, and_false, false_and, not_true, not_false_iff, if_true, if_false], rfl⟩) dL_act_214 rfl (Nat.le_of_ble_eq_true rfl) (Nat.le_of_ble_eq_true rfl)
  ·
    refine lv_iconst (v := 1) X.1 X.2.1 dL_act_209 (by decide) ?_
    refine lv_goto (tgt := 214) X.1 X.2.1 dL_act_210 (by decide) ?_
    exact w_iret X hr hlk w (by  exact ⟨by simp only [eq_true c506, or_true, true_or, or_self, or_false, false_or, and_true, true_and, and_false, false_and, not_true, not_false_iff, if_true, if_false], rfl⟩) dL_act_214 rfl (Nat.le_of_ble_eq_true rfl) (Nat.le_of_ble_eq_true rfl)

set_option maxHeartbeats 4000000 in
set_option maxRecDepth 100000 in
theorem ca_buy_x (l : Launch) (D : va_G) (ca : Nat → ClassId) (ad : Nat → Nat) (E : Em) (F : Fm) (L : Lm) (S : Sm) (n : Nat) (hlt : l.stackTraces = false) (q : Nat → Nat) (hlf : Lf F L S n q) (x jb r pp : Int32) (hkd : s_below x 13 = 4) (hx : er_buy F pp (1 + s_below (x >>> ((6 : Int32) &&& 31)) 4) = 2) (sz : Nat) : Met l yL_act (.codeWith yL_act cL_act 7 (some .boolean) hhA :: BG) { frames := 9, cells := 1, slots := 15, locals := 200 } (Pw D ca ad (E, F, L, S, n) sz [.ref (ad 0), .int x, .int jb, .int r, .int pp]) (Qi D ca ad n (fun v u => v = (if s_below x 13 = 4 then 1 else 0) ∧ u.2 = (F, L, S, n)) sz) 1 15 (wA ad n sz) := by
  refine open_A (σ := (E, F, L, S, n)) (Qc := Qi D ca ad n (fun v u => v = (if s_below x 13 = 4 then 1 else 0) ∧ u.2 = (F, L, S, n))) (by decide +kernel) (Nat.le_of_ble_eq_true rfl) ?_
  intro p e s m args below meth c X hr hlk htab w cn ls hl
  have hl : lv_has ls 7 [(0, .ref (ad 0)), (1, .int x), (2, .int jb), (3, .int r), (4, .int pp)] := hl
  have wf := hlf.1
  have hs := wf.2.2.1
  have hJ := wf.2.1.2
  refine lv_iload_n X.1 X.2.1 dL_act_0 rfl (lv_at hl 1 rfl) ?_
  refine lv_bipush (v := 13) X.1 X.2.1 dL_act_1 (by decide) ?_
  refine n_calli w (n_runS (n := 2) (As := [.int x, .int 13]) X (c_L_below l x 13 (by decide)) (bg_S kw_411 kw_412 kw_30 kw_413) rfl rfl (by decide +kernel) ⟨(Nat.le_of_ble_eq_true rfl), (Nat.le_of_ble_eq_true rfl)⟩ rfl hl.1 rfl (Nat.le_of_ble_eq_true rfl) dL_act_3 ⟨(Nat.le_of_ble_eq_true rfl), (Nat.le_of_ble_eq_true rfl)⟩) (fun H locs w => ?_)
  refine W.eq (g2 := F0 m 6 ls [.int 4]) (by rw [hkd]) ?_
  refine lv_tableIn (tgt := 183) X.1 X.2.1 dL_act_6 (by decide) (by decide) rfl (by decide) ?_
  refine lv_aload_n X.1 X.2.1 dL_act_183 rfl (lv_at hl 0 rfl) ?_
  refine lv_iload X.1 X.2.1 dL_act_184 (lv_at hl 4 rfl) ?_
  refine lv_iconst (v := 1) X.1 X.2.1 dL_act_186 (by decide) ?_
  refine lv_iload_n X.1 X.2.1 dL_act_187 rfl (lv_at hl 1 rfl) ?_
  refine lv_bipush (v := 6) X.1 X.2.1 dL_act_188 (by decide) ?_
  refine lv_ishr X.1 X.2.1 dL_act_190 ?_
  refine lv_iconst (v := 4) X.1 X.2.1 dL_act_191 (by decide) ?_
  refine n_calli w (n_runS (n := 2) (As := [.int (x >>> ((6 : Int32) &&& 31)), .int 4]) X (c_L_below l (x >>> ((6 : Int32) &&& 31)) 4 (by decide)) (bg_S kw_411 kw_412 kw_30 kw_413) rfl rfl (by decide +kernel) ⟨(Nat.le_of_ble_eq_true rfl), (Nat.le_of_ble_eq_true rfl)⟩ rfl hl.1 rfl (Nat.le_of_ble_eq_true rfl) dL_act_192 ⟨(Nat.le_of_ble_eq_true rfl), (Nat.le_of_ble_eq_true rfl)⟩) (fun H locs w => ?_)
  refine lv_iadd X.1 X.2.1 dL_act_195 ?_
  have h2 : (er_buy F pp (1 + (s_below (x >>> ((6 : Int32) &&& 31)) 4))) = 2 := hx
  refine x_caught X cn w (xw_runV (n := 2) (As := [.int pp, .int (1 + (s_below (x >>> ((6 : Int32) &&& 31)) 4))]) X cn w (lt17 (by decide)) wC_0 rfl (fun sz => c_X4_buy l D ca ad E F L S n hlt q wf pp (1 + (s_below (x >>> ((6 : Int32) &&& 31)) 4)) 1 6 (fun _ => ⟨Nat.le_refl 1, Nat.le_refl 6⟩) sz) (bg_V kw_539 kw_540 kw_541 kw_31 kw_542) rfl rfl (by decide +kernel) ⟨(Nat.le_of_ble_eq_true rfl), (Nat.le_of_ble_eq_true rfl)⟩ rfl hl.1 rfl (Nat.le_of_ble_eq_true rfl) dL_act_196 ⟨(Nat.le_of_ble_eq_true rfl), (Nat.le_of_ble_eq_true rfl)⟩) (fun st v t hq => by obtain ⟨⟨r, u, -, hp, -⟩, -⟩ := hq; first | exact hp.elim | (have h9 := hp.1; omega)) eIA eIA (by rw [h2]; rfl) (ATB.take 13) ⟨183, 214, 552, 104⟩ (ATB.drop 14) (htab.trans (by decide +kernel)) (x_passB (by decide +kernel) (X.2.2.2.2 _ kw_422) (cn.2.1.2.2.1 (eIA, eIO) (by decide))) (by decide +kernel) (by decide) (X.2.2.2.2 _ kw_423) (cn.2.1.use kw_201) (fun q9 u H locs hu w => ?_)
  obtain ⟨E3, q4⟩ := u
  have hu : q4 = (F, L, S, n) := hu
  subst hu
  refine lv_astore (lv' := [(5, .ref q9), (0, .ref (ad 0)), (1, .int x), (2, .int jb), (3, .int r), (4, .int pp)]) X.1 X.2.1 dL_act_552 hl (by decide) rfl (fun ls hl => ?_)
  refine lv_iload_n X.1 X.2.1 dL_act_554 rfl (lv_at hl 2 rfl) ?_
  refine lv_bipush (v := 13) X.1 X.2.1 dL_act_555 (by decide) ?_
  refine n_calli w (n_runS (n := 2) (As := [.int x, .int 13]) X (c_L_below l x 13 (by decide)) (bg_S kw_411 kw_412 kw_30 kw_413) rfl rfl (by decide +kernel) ⟨(Nat.le_of_ble_eq_true rfl), (Nat.le_of_ble_eq_true rfl)⟩ rfl hl.1 rfl (Nat.le_of_ble_eq_true rfl) dL_act_557 ⟨(Nat.le_of_ble_eq_true rfl), (Nat.le_of_ble_eq_true rfl)⟩) (fun H locs w => ?_)
  refine lv_iconst (v := 4) X.1 X.2.1 dL_act_560 (by decide) ?_
  refine lv_icmp_ne (tgt := 568) X.1 X.2.1 dL_act_561 (by decide) (fun c5 => ?_) (fun c5 => ?_)
  ·
    refine lv_iconst (v := 0) X.1 X.2.1 dL_act_568 (by decide) ?_
    exact w_iret X hr hlk w (by  exact ⟨by simp only [eq_false c5, or_true, true_or, or_self, or_false, false_or, and_true, true_and, and_false, false_and, not_true, not_false_iff, if_true, if_false], rfl⟩) dL_act_569 rfl (Nat.le_of_ble_eq_true rfl) (Nat.le_of_ble_eq_true rfl)
  ·
    refine lv_iconst (v := 1) X.1 X.2.1 dL_act_564 (by decide) ?_
    refine lv_goto (tgt := 569) X.1 X.2.1 dL_act_565 (by decide) ?_
    exact w_iret X hr hlk w (by  exact ⟨by simp only [eq_true c5, or_true, true_or, or_self, or_false, false_or, and_true, true_and, and_false, false_and, not_true, not_false_iff, if_true, if_false], rfl⟩) dL_act_569 rfl (Nat.le_of_ble_eq_true rfl) (Nat.le_of_ble_eq_true rfl)

set_option maxHeartbeats 4000000 in
set_option maxRecDepth 100000 in
theorem ca_buyAll (l : Launch) (D : va_G) (ca : Nat → ClassId) (ad : Nat → Nat) (E : Em) (F : Fm) (L : Lm) (S : Sm) (n : Nat) (hlt : l.stackTraces = false) (q : Nat → Nat) (hlf : Lf F L S n q) (x jb r pp : Int32) (hkd : s_below x 13 = 5)  (sz : Nat) : Met l yL_act (.codeWith yL_act cL_act 7 (some .boolean) hhA :: BG) { frames := 9, cells := 1, slots := 15, locals := 200 } (Pw D ca ad (E, F, L, S, n) sz [.ref (ad 0), .int x, .int jb, .int r, .int pp]) (Qi D ca ad n (fun v u => v = (if s_bought F L S q < 0 then 0 else if 160 < s_bought F L S q then 0 else 1) ∧ u.2 = ((s_bA5 F L S q), L, S, n)) sz) 1 15 (wA ad n sz) := by
  refine open_A (σ := (E, F, L, S, n)) (Qc := Qi D ca ad n (fun v u => v = (if s_bought F L S q < 0 then 0 else if 160 < s_bought F L S q then 0 else 1) ∧ u.2 = ((s_bA5 F L S q), L, S, n))) (by decide +kernel) (Nat.le_of_ble_eq_true rfl) ?_
  intro p e s m args below meth c X hr hlk htab w cn ls hl
  have hl : lv_has ls 7 [(0, .ref (ad 0)), (1, .int x), (2, .int jb), (3, .int r), (4, .int pp)] := hl
  have wf := hlf.1
  have hs := wf.2.2.1
  have hJ := wf.2.1.2
  refine lv_iload_n X.1 X.2.1 dL_act_0 rfl (lv_at hl 1 rfl) ?_
  refine lv_bipush (v := 13) X.1 X.2.1 dL_act_1 (by decide) ?_
  refine n_calli w (n_runS (n := 2) (As := [.int x, .int 13]) X (c_L_below l x 13 (by decide)) (bg_S kw_411 kw_412 kw_30 kw_413) rfl rfl (by decide +kernel) ⟨(Nat.le_of_ble_eq_true rfl), (Nat.le_of_ble_eq_true rfl)⟩ rfl hl.1 rfl (Nat.le_of_ble_eq_true rfl) dL_act_3 ⟨(Nat.le_of_ble_eq_true rfl), (Nat.le_of_ble_eq_true rfl)⟩) (fun H locs w => ?_)
  refine W.eq (g2 := F0 m 6 ls [.int 5]) (by rw [hkd]) ?_
  refine lv_tableIn (tgt := 215) X.1 X.2.1 dL_act_6 (by decide) (by decide) rfl (by decide) ?_
  refine lv_aload_n X.1 X.2.1 dL_act_215 rfl (lv_at hl 0 rfl) ?_
  refine w_calli cn w (w_runV (n := 0) (As := []) X cn w (lt17 (by decide)) wC_0 rfl (fun sz => c_X4_buyAll l D ca ad E F L S n q wf sz) (bg_V kw_555 kw_556 kw_557 kw_31 kw_558) rfl rfl (by decide +kernel) ⟨(Nat.le_of_ble_eq_true rfl), (Nat.le_of_ble_eq_true rfl)⟩ rfl hl.1 rfl (Nat.le_of_ble_eq_true rfl) dL_act_216 ⟨(Nat.le_of_ble_eq_true rfl), (Nat.le_of_ble_eq_true rfl)⟩) (fun r1 u H locs hp w => ?_)
  obtain ⟨E2, q3⟩ := u
  obtain ⟨rfl, h4⟩ := hp
  have h4 : q3 = ((s_bA5 F L S q), L, S, n) := h4
  subst h4
  refine lv_topi (fun x5 ex5 => ?_)
  refine lv_istore (lv' := [(5, .int x5), (0, .ref (ad 0)), (1, .int x), (2, .int jb), (3, .int r), (4, .int pp)]) X.1 X.2.1 dL_act_219 hl (by decide) rfl (fun ls hl => ?_)
  refine lv_iload X.1 X.2.1 dL_act_221 (lv_at hl 0 rfl) ?_
  refine lv_if_lt (tgt := 238) X.1 X.2.1 dL_act_223 (by decide) (fun c6 => ?_) (fun c6 => ?_)
  ·
    refine lv_iconst (v := 0) X.1 X.2.1 dL_act_238 (by decide) ?_
    exact w_iret X hr hlk w (by subst ex5; exact ⟨by simp only [eq_true c6, or_true, true_or, or_self, or_false, false_or, and_true, true_and, and_false, false_and, not_true, not_false_iff, if_true, if_false], rfl⟩) dL_act_239 rfl (Nat.le_of_ble_eq_true rfl) (Nat.le_of_ble_eq_true rfl)
  ·
    refine lv_iload X.1 X.2.1 dL_act_226 (lv_at hl 0 rfl) ?_
    refine lv_sipush (v := 160) X.1 X.2.1 dL_act_228 (by decide) ?_
    refine lv_icmp_gt (tgt := 238) X.1 X.2.1 dL_act_231 (by decide) (fun c7 => ?_) (fun c7 => ?_)
    ·
      refine lv_iconst (v := 0) X.1 X.2.1 dL_act_238 (by decide) ?_
      exact w_iret X hr hlk w (by subst ex5; exact ⟨by simp only [eq_false c6, eq_true c7, or_true, true_or, or_self, or_false, false_or, and_true, true_and, and_false, false_and, not_true, not_false_iff, if_true, if_false], rfl⟩) dL_act_239 rfl (Nat.le_of_ble_eq_true rfl) (Nat.le_of_ble_eq_true rfl)
    ·
      refine lv_iconst (v := 1) X.1 X.2.1 dL_act_234 (by decide) ?_
      refine lv_goto (tgt := 239) X.1 X.2.1 dL_act_235 (by decide) ?_
      exact w_iret X hr hlk w (by subst ex5; exact ⟨by simp only [eq_false c6, eq_false c7, or_true, true_or, or_self, or_false, false_or, and_true, true_and, and_false, false_and, not_true, not_false_iff, if_true, if_false], rfl⟩) dL_act_239 rfl (Nat.le_of_ble_eq_true rfl) (Nat.le_of_ble_eq_true rfl)

set_option maxHeartbeats 4000000 in
set_option maxRecDepth 100000 in
theorem ca_invoice (l : Launch) (D : va_G) (ca : Nat → ClassId) (ad : Nat → Nat) (E : Em) (F : Fm) (L : Lm) (S : Sm) (n : Nat) (hlt : l.stackTraces = false) (q : Nat → Nat) (hlf : Lf F L S n q) (x jb r pp : Int32) (hkd : s_below x 13 = 6) (h0 : er_invoice F n jb = 0) (hi : erI n jb = 0) (wf2 : Wf (s_invF F jb.toNatClampNeg) L S n q) (sz : Nat) : Met l yL_act (.codeWith yL_act cL_act 7 (some .boolean) hhA :: BG) { frames := 9, cells := 1, slots := 15, locals := 200 } (Pw D ca ad (E, F, L, S, n) sz [.ref (ad 0), .int x, .int jb, .int r, .int pp]) (Qi D ca ad n (fun v u => v = (if (s_invF F jb.toNatClampNeg) (17 + jb.toNatClampNeg) 13 = s_ofJob (s_invF F jb.toNatClampNeg) jb.toNatClampNeg 11 then (if s_ofJob (s_invF F jb.toNatClampNeg) jb.toNatClampNeg 6 = 3 then (if s_ofJob (s_invF F jb.toNatClampNeg) jb.toNatClampNeg 11 = s_worth (s_invF F jb.toNatClampNeg) jb.toNatClampNeg - (s_invF F jb.toNatClampNeg) (17 + jb.toNatClampNeg) 12 + s_ofJob (s_invF F jb.toNatClampNeg) jb.toNatClampNeg 10 then 1 else 0) else 0) else 0) ∧ u.2 = ((s_invF F jb.toNatClampNeg), L, S, n)) sz) 1 15 (wA ad n sz) := by
  refine open_A (σ := (E, F, L, S, n)) (Qc := Qi D ca ad n (fun v u => v = (if (s_invF F jb.toNatClampNeg) (17 + jb.toNatClampNeg) 13 = s_ofJob (s_invF F jb.toNatClampNeg) jb.toNatClampNeg 11 then (if s_ofJob (s_invF F jb.toNatClampNeg) jb.toNatClampNeg 6 = 3 then (if s_ofJob (s_invF F jb.toNatClampNeg) jb.toNatClampNeg 11 = s_worth (s_invF F jb.toNatClampNeg) jb.toNatClampNeg - (s_invF F jb.toNatClampNeg) (17 + jb.toNatClampNeg) 12 + s_ofJob (s_invF F jb.toNatClampNeg) jb.toNatClampNeg 10 then 1 else 0) else 0) else 0) ∧ u.2 = ((s_invF F jb.toNatClampNeg), L, S, n))) (by decide +kernel) (Nat.le_of_ble_eq_true rfl) ?_
  intro p e s m args below meth c X hr hlk htab w cn ls hl
  have hl : lv_has ls 7 [(0, .ref (ad 0)), (1, .int x), (2, .int jb), (3, .int r), (4, .int pp)] := hl
  have wf := hlf.1
  have hs := wf.2.2.1
  have hJ := wf.2.1.2
  refine lv_iload_n X.1 X.2.1 dL_act_0 rfl (lv_at hl 1 rfl) ?_
  refine lv_bipush (v := 13) X.1 X.2.1 dL_act_1 (by decide) ?_
  refine n_calli w (n_runS (n := 2) (As := [.int x, .int 13]) X (c_L_below l x 13 (by decide)) (bg_S kw_411 kw_412 kw_30 kw_413) rfl rfl (by decide +kernel) ⟨(Nat.le_of_ble_eq_true rfl), (Nat.le_of_ble_eq_true rfl)⟩ rfl hl.1 rfl (Nat.le_of_ble_eq_true rfl) dL_act_3 ⟨(Nat.le_of_ble_eq_true rfl), (Nat.le_of_ble_eq_true rfl)⟩) (fun H locs w => ?_)
  refine W.eq (g2 := F0 m 6 ls [.int 6]) (by rw [hkd]) ?_
  refine lv_tableIn (tgt := 240) X.1 X.2.1 dL_act_6 (by decide) (by decide) rfl (by decide) ?_
  refine lv_aload_n X.1 X.2.1 dL_act_240 rfl (lv_at hl 0 rfl) ?_
  refine lv_iload_n X.1 X.2.1 dL_act_241 rfl (lv_at hl 2 rfl) ?_
  have h2 : (er_invoice F n jb) = 0 := h0
  refine w_calli cn w (w_runV (n := 1) (As := [.int jb]) X cn w (lt17 (by decide)) wC_0 rfl (fun sz => met_of (c_X4_invoice l D ca ad E F L S n hlt q wf jb 0 0 (fun h => (h h2).elim) sz) h2) (bg_V kw_561 kw_562 kw_563 kw_31 kw_564) rfl rfl (by decide +kernel) ⟨(Nat.le_of_ble_eq_true rfl), (Nat.le_of_ble_eq_true rfl)⟩ rfl hl.1 rfl (Nat.le_of_ble_eq_true rfl) dL_act_242 ⟨(Nat.le_of_ble_eq_true rfl), (Nat.le_of_ble_eq_true rfl)⟩) (fun r1 u H locs hp w => ?_)
  obtain ⟨E3, q4⟩ := u
  obtain ⟨-, rfl, h5⟩ := hp
  have h5 : q4 = ((s_invF F jb.toNatClampNeg), L, S, n) := h5
  subst h5
  refine lv_aload_n X.1 X.2.1 dL_act_245 rfl (lv_at hl 0 rfl) ?_
  refine lv_iload_n X.1 X.2.1 dL_act_246 rfl (lv_at hl 2 rfl) ?_
  refine lv_bipush (v := 11) X.1 X.2.1 dL_act_247 (by decide) ?_
  have h502 : (er_ofJob n jb 11) = 0 := (by rw [er_ofJob, if_pos hi]; decide)
  refine w_calli cn w (w_runV (n := 2) (As := [.int jb, .int 11]) X cn w (lt17 (by decide)) wC_0 rfl (fun sz => met_of (c_X4_ofJob l D ca ad E3 (s_invF F jb.toNatClampNeg) L S n hlt q wf2 jb 11 0 0 (fun h => (h h502).elim) sz) h502) (bg_V kw_536 kw_381 kw_382 kw_31 kw_383) rfl rfl (by decide +kernel) ⟨(Nat.le_of_ble_eq_true rfl), (Nat.le_of_ble_eq_true rfl)⟩ rfl hl.1 rfl (Nat.le_of_ble_eq_true rfl) dL_act_249 ⟨(Nat.le_of_ble_eq_true rfl), (Nat.le_of_ble_eq_true rfl)⟩) (fun r501 u H locs hp w => ?_)
  obtain ⟨E503, q504⟩ := u
  obtain ⟨-, rfl, h505⟩ := hp
  have h505 : q504 = ((s_invF F jb.toNatClampNeg), L, S, n) := h505
  subst h505
  refine lv_icmp_ne (tgt := 293) X.1 X.2.1 dL_act_252 (by decide) (fun c506 => ?_) (fun c506 => ?_)
  ·
    refine lv_iconst (v := 0) X.1 X.2.1 dL_act_293 (by decide) ?_
    exact w_iret X hr hlk w (by  exact ⟨by simp only [eq_false c506, or_true, true_or, or_self, or_false, false_or, and_true, true_and, and_false, false_and, not_true, not_false_iff, if_true, if_false], rfl⟩) dL_act_294 rfl (Nat.le_of_ble_eq_true rfl) (Nat.le_of_ble_eq_true rfl)
  ·
    refine lv_aload_n X.1 X.2.1 dL_act_255 rfl (lv_at hl 0 rfl) ?_
    refine lv_iload_n X.1 X.2.1 dL_act_256 rfl (lv_at hl 2 rfl) ?_
    refine lv_bipush (v := 6) X.1 X.2.1 dL_act_257 (by decide) ?_
    have h508 : (er_ofJob n jb 6) = 0 := (by rw [er_ofJob, if_pos hi]; decide)
    refine w_calli cn w (w_runV (n := 2) (As := [.int jb, .int 6]) X cn w (lt17 (by decide)) wC_0 rfl (fun sz => met_of (c_X4_ofJob l D ca ad E503 (s_invF F jb.toNatClampNeg) L S n hlt q wf2 jb 6 0 0 (fun h => (h h508).elim) sz) h508) (bg_V kw_536 kw_381 kw_382 kw_31 kw_383) rfl rfl (by decide +kernel) ⟨(Nat.le_of_ble_eq_true rfl), (Nat.le_of_ble_eq_true rfl)⟩ rfl hl.1 rfl (Nat.le_of_ble_eq_true rfl) dL_act_259 ⟨(Nat.le_of_ble_eq_true rfl), (Nat.le_of_ble_eq_true rfl)⟩) (fun r507 u H locs hp w => ?_)
    obtain ⟨E509, q510⟩ := u
    obtain ⟨-, rfl, h511⟩ := hp
    have h511 : q510 = ((s_invF F jb.toNatClampNeg), L, S, n) := h511
    subst h511
    refine lv_iconst (v := 3) X.1 X.2.1 dL_act_262 (by decide) ?_
    refine lv_icmp_ne (tgt := 293) X.1 X.2.1 dL_act_263 (by decide) (fun c512 => ?_) (fun c512 => ?_)
    ·
      refine lv_iconst (v := 0) X.1 X.2.1 dL_act_293 (by decide) ?_
      exact w_iret X hr hlk w (by  exact ⟨by simp only [eq_true c506, eq_false c512, or_true, true_or, or_self, or_false, false_or, and_true, true_and, and_false, false_and, not_true, not_false_iff, if_true, if_false], rfl⟩) dL_act_294 rfl (Nat.le_of_ble_eq_true rfl) (Nat.le_of_ble_eq_true rfl)
    ·
      refine lv_aload_n X.1 X.2.1 dL_act_266 rfl (lv_at hl 0 rfl) ?_
      refine lv_iload_n X.1 X.2.1 dL_act_267 rfl (lv_at hl 2 rfl) ?_
      refine lv_bipush (v := 11) X.1 X.2.1 dL_act_268 (by decide) ?_
      have h514 : (er_ofJob n jb 11) = 0 := (by rw [er_ofJob, if_pos hi]; decide)
      refine w_calli cn w (w_runV (n := 2) (As := [.int jb, .int 11]) X cn w (lt17 (by decide)) wC_0 rfl (fun sz => met_of (c_X4_ofJob l D ca ad E509 (s_invF F jb.toNatClampNeg) L S n hlt q wf2 jb 11 0 0 (fun h => (h h514).elim) sz) h514) (bg_V kw_536 kw_381 kw_382 kw_31 kw_383) rfl rfl (by decide +kernel) ⟨(Nat.le_of_ble_eq_true rfl), (Nat.le_of_ble_eq_true rfl)⟩ rfl hl.1 rfl (Nat.le_of_ble_eq_true rfl) dL_act_270 ⟨(Nat.le_of_ble_eq_true rfl), (Nat.le_of_ble_eq_true rfl)⟩) (fun r513 u H locs hp w => ?_)
      obtain ⟨E515, q516⟩ := u
      obtain ⟨-, rfl, h517⟩ := hp
      have h517 : q516 = ((s_invF F jb.toNatClampNeg), L, S, n) := h517
      subst h517
      refine lv_aload_n X.1 X.2.1 dL_act_273 rfl (lv_at hl 0 rfl) ?_
      refine lv_iload_n X.1 X.2.1 dL_act_274 rfl (lv_at hl 2 rfl) ?_
      have h519 : (erI n jb) = 0 := hi
      refine w_calli cn w (w_runV (n := 1) (As := [.int jb]) X cn w (lt17 (by decide)) wC_0 rfl (fun sz => met_of (c_X4_profit l D ca ad E515 (s_invF F jb.toNatClampNeg) L S n hlt q wf2 jb 0 0 (fun h => (h h519).elim) sz) h519) (bg_V kw_567 kw_401 kw_402 kw_31 kw_403) rfl rfl (by decide +kernel) ⟨(Nat.le_of_ble_eq_true rfl), (Nat.le_of_ble_eq_true rfl)⟩ rfl hl.1 rfl (Nat.le_of_ble_eq_true rfl) dL_act_275 ⟨(Nat.le_of_ble_eq_true rfl), (Nat.le_of_ble_eq_true rfl)⟩) (fun r518 u H locs hp w => ?_)
      obtain ⟨E520, q521⟩ := u
      obtain ⟨-, rfl, h522⟩ := hp
      have h522 : q521 = ((s_invF F jb.toNatClampNeg), L, S, n) := h522
      subst h522
      refine lv_aload_n X.1 X.2.1 dL_act_278 rfl (lv_at hl 0 rfl) ?_
      refine lv_iload_n X.1 X.2.1 dL_act_279 rfl (lv_at hl 2 rfl) ?_
      refine lv_bipush (v := 10) X.1 X.2.1 dL_act_280 (by decide) ?_
      have h524 : (er_ofJob n jb 10) = 0 := (by rw [er_ofJob, if_pos hi]; decide)
      refine w_calli cn w (w_runV (n := 2) (As := [.int jb, .int 10]) X cn w (lt17 (by decide)) wC_0 rfl (fun sz => met_of (c_X4_ofJob l D ca ad E520 (s_invF F jb.toNatClampNeg) L S n hlt q wf2 jb 10 0 0 (fun h => (h h524).elim) sz) h524) (bg_V kw_536 kw_381 kw_382 kw_31 kw_383) rfl rfl (by decide +kernel) ⟨(Nat.le_of_ble_eq_true rfl), (Nat.le_of_ble_eq_true rfl)⟩ rfl hl.1 rfl (Nat.le_of_ble_eq_true rfl) dL_act_282 ⟨(Nat.le_of_ble_eq_true rfl), (Nat.le_of_ble_eq_true rfl)⟩) (fun r523 u H locs hp w => ?_)
      obtain ⟨E525, q526⟩ := u
      obtain ⟨-, rfl, h527⟩ := hp
      have h527 : q526 = ((s_invF F jb.toNatClampNeg), L, S, n) := h527
      subst h527
      refine lv_iadd X.1 X.2.1 dL_act_285 ?_
      refine lv_icmp_ne (tgt := 293) X.1 X.2.1 dL_act_286 (by decide) (fun c528 => ?_) (fun c528 => ?_)
      ·
        refine lv_iconst (v := 0) X.1 X.2.1 dL_act_293 (by decide) ?_
        exact w_iret X hr hlk w (by  exact ⟨by simp only [eq_true c506, eq_true c512, eq_false c528, or_true, true_or, or_self, or_false, false_or, and_true, true_and, and_false, false_and, not_true, not_false_iff, if_true, if_false], rfl⟩) dL_act_294 rfl (Nat.le_of_ble_eq_true rfl) (Nat.le_of_ble_eq_true rfl)
      ·
        refine lv_iconst (v := 1) X.1 X.2.1 dL_act_289 (by decide) ?_
        refine lv_goto (tgt := 294) X.1 X.2.1 dL_act_290 (by decide) ?_
        exact w_iret X hr hlk w (by  exact ⟨by simp only [eq_true c506, eq_true c512, eq_true c528, or_true, true_or, or_self, or_false, false_or, and_true, true_and, and_false, false_and, not_true, not_false_iff, if_true, if_false], rfl⟩) dL_act_294 rfl (Nat.le_of_ble_eq_true rfl) (Nat.le_of_ble_eq_true rfl)

set_option maxHeartbeats 4000000 in
set_option maxRecDepth 100000 in
theorem ca_invoice_x1 (l : Launch) (D : va_G) (ca : Nat → ClassId) (ad : Nat → Nat) (E : Em) (F : Fm) (L : Lm) (S : Sm) (n : Nat) (hlt : l.stackTraces = false) (q : Nat → Nat) (hlf : Lf F L S n q) (x jb r pp : Int32) (hkd : s_below x 13 = 6) (hx : er_invoice F n jb = 1) (sz : Nat) : Met l yL_act (.codeWith yL_act cL_act 7 (some .boolean) hhA :: BG) { frames := 9, cells := 1, slots := 15, locals := 200 } (Pw D ca ad (E, F, L, S, n) sz [.ref (ad 0), .int x, .int jb, .int r, .int pp]) (Qi D ca ad n (fun v u => v = (if s_many F n 0 = 0 then 1 else if s_below x 13 = 10 then 1 else if s_below x 13 = 11 then 1 else 0) ∧ u.2 = (F, L, S, n)) sz) 1 15 (wA ad n sz) := by
  refine open_A (σ := (E, F, L, S, n)) (Qc := Qi D ca ad n (fun v u => v = (if s_many F n 0 = 0 then 1 else if s_below x 13 = 10 then 1 else if s_below x 13 = 11 then 1 else 0) ∧ u.2 = (F, L, S, n))) (by decide +kernel) (Nat.le_of_ble_eq_true rfl) ?_
  intro p e s m args below meth c X hr hlk htab w cn ls hl
  have hl : lv_has ls 7 [(0, .ref (ad 0)), (1, .int x), (2, .int jb), (3, .int r), (4, .int pp)] := hl
  have wf := hlf.1
  have hs := wf.2.2.1
  have hJ := wf.2.1.2
  refine lv_iload_n X.1 X.2.1 dL_act_0 rfl (lv_at hl 1 rfl) ?_
  refine lv_bipush (v := 13) X.1 X.2.1 dL_act_1 (by decide) ?_
  refine n_calli w (n_runS (n := 2) (As := [.int x, .int 13]) X (c_L_below l x 13 (by decide)) (bg_S kw_411 kw_412 kw_30 kw_413) rfl rfl (by decide +kernel) ⟨(Nat.le_of_ble_eq_true rfl), (Nat.le_of_ble_eq_true rfl)⟩ rfl hl.1 rfl (Nat.le_of_ble_eq_true rfl) dL_act_3 ⟨(Nat.le_of_ble_eq_true rfl), (Nat.le_of_ble_eq_true rfl)⟩) (fun H locs w => ?_)
  refine W.eq (g2 := F0 m 6 ls [.int 6]) (by rw [hkd]) ?_
  refine lv_tableIn (tgt := 240) X.1 X.2.1 dL_act_6 (by decide) (by decide) rfl (by decide) ?_
  refine lv_aload_n X.1 X.2.1 dL_act_240 rfl (lv_at hl 0 rfl) ?_
  refine lv_iload_n X.1 X.2.1 dL_act_241 rfl (lv_at hl 2 rfl) ?_
  have h2 : (er_invoice F n jb) = 1 := hx
  refine x_caught X cn w (xw_runV (n := 1) (As := [.int jb]) X cn w (lt17 (by decide)) wC_0 rfl (fun sz => c_X4_invoice l D ca ad E F L S n hlt q wf jb 1 6 (fun _ => ⟨Nat.le_refl 1, Nat.le_refl 6⟩) sz) (bg_V kw_561 kw_562 kw_563 kw_31 kw_564) rfl rfl (by decide +kernel) ⟨(Nat.le_of_ble_eq_true rfl), (Nat.le_of_ble_eq_true rfl)⟩ rfl hl.1 rfl (Nat.le_of_ble_eq_true rfl) dL_act_242 ⟨(Nat.le_of_ble_eq_true rfl), (Nat.le_of_ble_eq_true rfl)⟩) (fun st v t hq => by obtain ⟨⟨r, u, -, hp, -⟩, -⟩ := hq; first | exact hp.elim | (have h9 := hp.1; omega)) eIO eIO (by rw [h2]; rfl) (ATB.take 4) ⟨240, 294, 514, 102⟩ (ATB.drop 5) (htab.trans (by decide +kernel)) (x_passA (by decide +kernel)) (by decide +kernel) (by decide) (X.2.2.2.2 _ kw_422) (cn.2.1.use kw_284) (fun q9 u H locs hu w => ?_)
  obtain ⟨E3, q4⟩ := u
  have hu : q4 = (F, L, S, n) := hu
  subst hu
  refine lv_astore (lv' := [(5, .ref q9), (0, .ref (ad 0)), (1, .int x), (2, .int jb), (3, .int r), (4, .int pp)]) X.1 X.2.1 dL_act_514 hl (by decide) rfl (fun ls hl => ?_)
  refine lv_aload_n X.1 X.2.1 dL_act_516 rfl (lv_at hl 1 rfl) ?_
  refine lv_iconst (v := 0) X.1 X.2.1 dL_act_517 (by decide) ?_
  have h6 : (erW 10 0) = 0 := (by decide)
  refine w_calli cn w (w_runV (n := 1) (As := [.int 0]) X cn w (lt17 (by decide)) wC_0 rfl (fun sz => met_of (c_X4_many l D ca ad E3 F L S n hlt q wf 0 0 0 (fun h => (h h6).elim) sz) h6) (bg_V kw_179 kw_180 kw_181 kw_31 kw_182) rfl rfl (by decide +kernel) ⟨(Nat.le_of_ble_eq_true rfl), (Nat.le_of_ble_eq_true rfl)⟩ rfl hl.1 rfl (Nat.le_of_ble_eq_true rfl) dL_act_518 ⟨(Nat.le_of_ble_eq_true rfl), (Nat.le_of_ble_eq_true rfl)⟩) (fun r5 u H locs hp w => ?_)
  obtain ⟨E7, q8⟩ := u
  obtain ⟨-, rfl, h9⟩ := hp
  have h9 : q8 = (F, L, S, n) := h9
  subst h9
  refine lv_if_eq (tgt := 546) X.1 X.2.1 dL_act_521 (by decide) (fun c10 => ?_) (fun c10 => ?_)
  ·
    refine lv_iconst (v := 1) X.1 X.2.1 dL_act_546 (by decide) ?_
    refine lv_goto (tgt := 551) X.1 X.2.1 dL_act_547 (by decide) ?_
    exact w_iret X hr hlk w (by  exact ⟨by simp only [eq_true c10, or_true, true_or, or_self, or_false, false_or, and_true, true_and, and_false, false_and, not_true, not_false_iff, if_true, if_false], rfl⟩) dL_act_551 rfl (Nat.le_of_ble_eq_true rfl) (Nat.le_of_ble_eq_true rfl)
  ·
    refine lv_iload_n X.1 X.2.1 dL_act_524 rfl (lv_at hl 2 rfl) ?_
    refine lv_bipush (v := 13) X.1 X.2.1 dL_act_525 (by decide) ?_
    refine n_calli w (n_runS (n := 2) (As := [.int x, .int 13]) X (c_L_below l x 13 (by decide)) (bg_S kw_411 kw_412 kw_30 kw_413) rfl rfl (by decide +kernel) ⟨(Nat.le_of_ble_eq_true rfl), (Nat.le_of_ble_eq_true rfl)⟩ rfl hl.1 rfl (Nat.le_of_ble_eq_true rfl) dL_act_527 ⟨(Nat.le_of_ble_eq_true rfl), (Nat.le_of_ble_eq_true rfl)⟩) (fun H locs w => ?_)
    refine lv_bipush (v := 10) X.1 X.2.1 dL_act_530 (by decide) ?_
    refine lv_icmp_eq (tgt := 546) X.1 X.2.1 dL_act_532 (by decide) (fun c11 => ?_) (fun c11 => ?_)
    ·
      refine lv_iconst (v := 1) X.1 X.2.1 dL_act_546 (by decide) ?_
      refine lv_goto (tgt := 551) X.1 X.2.1 dL_act_547 (by decide) ?_
      exact w_iret X hr hlk w (by  exact ⟨by simp only [eq_false c10, eq_true c11, or_true, true_or, or_self, or_false, false_or, and_true, true_and, and_false, false_and, not_true, not_false_iff, if_true, if_false], rfl⟩) dL_act_551 rfl (Nat.le_of_ble_eq_true rfl) (Nat.le_of_ble_eq_true rfl)
    ·
      refine lv_iload_n X.1 X.2.1 dL_act_535 rfl (lv_at hl 2 rfl) ?_
      refine lv_bipush (v := 13) X.1 X.2.1 dL_act_536 (by decide) ?_
      refine n_calli w (n_runS (n := 2) (As := [.int x, .int 13]) X (c_L_below l x 13 (by decide)) (bg_S kw_411 kw_412 kw_30 kw_413) rfl rfl (by decide +kernel) ⟨(Nat.le_of_ble_eq_true rfl), (Nat.le_of_ble_eq_true rfl)⟩ rfl hl.1 rfl (Nat.le_of_ble_eq_true rfl) dL_act_538 ⟨(Nat.le_of_ble_eq_true rfl), (Nat.le_of_ble_eq_true rfl)⟩) (fun H locs w => ?_)
      refine lv_bipush (v := 11) X.1 X.2.1 dL_act_541 (by decide) ?_
      refine lv_icmp_ne (tgt := 550) X.1 X.2.1 dL_act_543 (by decide) (fun c12 => ?_) (fun c12 => ?_)
      ·
        refine lv_iconst (v := 0) X.1 X.2.1 dL_act_550 (by decide) ?_
        exact w_iret X hr hlk w (by  exact ⟨by simp only [eq_false c10, eq_false c11, eq_false c12, or_true, true_or, or_self, or_false, false_or, and_true, true_and, and_false, false_and, not_true, not_false_iff, if_true, if_false], rfl⟩) dL_act_551 rfl (Nat.le_of_ble_eq_true rfl) (Nat.le_of_ble_eq_true rfl)
      ·
        refine lv_iconst (v := 1) X.1 X.2.1 dL_act_546 (by decide) ?_
        refine lv_goto (tgt := 551) X.1 X.2.1 dL_act_547 (by decide) ?_
        exact w_iret X hr hlk w (by  exact ⟨by simp only [eq_false c10, eq_false c11, eq_true c12, or_true, true_or, or_self, or_false, false_or, and_true, true_and, and_false, false_and, not_true, not_false_iff, if_true, if_false], rfl⟩) dL_act_551 rfl (Nat.le_of_ble_eq_true rfl) (Nat.le_of_ble_eq_true rfl)

set_option maxHeartbeats 4000000 in
set_option maxRecDepth 100000 in
theorem ca_invoice_x3 (l : Launch) (D : va_G) (ca : Nat → ClassId) (ad : Nat → Nat) (E : Em) (F : Fm) (L : Lm) (S : Sm) (n : Nat) (hlt : l.stackTraces = false) (q : Nat → Nat) (hlf : Lf F L S n q) (x jb r pp : Int32) (hkd : s_below x 13 = 6) (hx : er_invoice F n jb = 3) (sz : Nat) : Met l yL_act (.codeWith yL_act cL_act 7 (some .boolean) hhA :: BG) { frames := 9, cells := 1, slots := 15, locals := 200 } (Pw D ca ad (E, F, L, S, n) sz [.ref (ad 0), .int x, .int jb, .int r, .int pp]) (Qi D ca ad n (fun v u => v = (if s_below x 13 < 4 then 1 else if s_below x 13 ≤ 5 then 0 else if 12 ≤ s_below x 13 then 0 else 1) ∧ u.2 = (F, L, S, n)) sz) 1 15 (wA ad n sz) := by
  refine open_A (σ := (E, F, L, S, n)) (Qc := Qi D ca ad n (fun v u => v = (if s_below x 13 < 4 then 1 else if s_below x 13 ≤ 5 then 0 else if 12 ≤ s_below x 13 then 0 else 1) ∧ u.2 = (F, L, S, n))) (by decide +kernel) (Nat.le_of_ble_eq_true rfl) ?_
  intro p e s m args below meth c X hr hlk htab w cn ls hl
  have hl : lv_has ls 7 [(0, .ref (ad 0)), (1, .int x), (2, .int jb), (3, .int r), (4, .int pp)] := hl
  have wf := hlf.1
  have hs := wf.2.2.1
  have hJ := wf.2.1.2
  refine lv_iload_n X.1 X.2.1 dL_act_0 rfl (lv_at hl 1 rfl) ?_
  refine lv_bipush (v := 13) X.1 X.2.1 dL_act_1 (by decide) ?_
  refine n_calli w (n_runS (n := 2) (As := [.int x, .int 13]) X (c_L_below l x 13 (by decide)) (bg_S kw_411 kw_412 kw_30 kw_413) rfl rfl (by decide +kernel) ⟨(Nat.le_of_ble_eq_true rfl), (Nat.le_of_ble_eq_true rfl)⟩ rfl hl.1 rfl (Nat.le_of_ble_eq_true rfl) dL_act_3 ⟨(Nat.le_of_ble_eq_true rfl), (Nat.le_of_ble_eq_true rfl)⟩) (fun H locs w => ?_)
  refine W.eq (g2 := F0 m 6 ls [.int 6]) (by rw [hkd]) ?_
  refine lv_tableIn (tgt := 240) X.1 X.2.1 dL_act_6 (by decide) (by decide) rfl (by decide) ?_
  refine lv_aload_n X.1 X.2.1 dL_act_240 rfl (lv_at hl 0 rfl) ?_
  refine lv_iload_n X.1 X.2.1 dL_act_241 rfl (lv_at hl 2 rfl) ?_
  have h2 : (er_invoice F n jb) = 3 := hx
  refine x_caught X cn w (xw_runV (n := 1) (As := [.int jb]) X cn w (lt17 (by decide)) wC_0 rfl (fun sz => c_X4_invoice l D ca ad E F L S n hlt q wf jb 1 6 (fun _ => ⟨Nat.le_refl 1, Nat.le_refl 6⟩) sz) (bg_V kw_561 kw_562 kw_563 kw_31 kw_564) rfl rfl (by decide +kernel) ⟨(Nat.le_of_ble_eq_true rfl), (Nat.le_of_ble_eq_true rfl)⟩ rfl hl.1 rfl (Nat.le_of_ble_eq_true rfl) dL_act_242 ⟨(Nat.le_of_ble_eq_true rfl), (Nat.le_of_ble_eq_true rfl)⟩) (fun st v t hq => by obtain ⟨⟨r, u, -, hp, -⟩, -⟩ := hq; first | exact hp.elim | (have h9 := hp.1; omega)) eIS eIS (by rw [h2]; rfl) (ATB.take 26) ⟨240, 294, 570, 106⟩ (ATB.drop 27) (htab.trans (by decide +kernel)) (x_passC (by decide +kernel) (X.2.2.2.2 _ kw_422) (cn.2.1.2.2.1 (eIS, eIO) (by decide)) (X.2.2.2.2 _ kw_423) (cn.2.1.2.2.1 (eIS, eIA) (by decide))) (by decide +kernel) (by decide) (X.2.2.2.2 _ kw_424) (cn.2.1.use kw_445) (fun q9 u H locs hu w => ?_)
  obtain ⟨E3, q4⟩ := u
  have hu : q4 = (F, L, S, n) := hu
  subst hu
  refine lv_astore (lv' := [(5, .ref q9), (0, .ref (ad 0)), (1, .int x), (2, .int jb), (3, .int r), (4, .int pp)]) X.1 X.2.1 dL_act_570 hl (by decide) rfl (fun ls hl => ?_)
  refine lv_iload_n X.1 X.2.1 dL_act_572 rfl (lv_at hl 2 rfl) ?_
  refine lv_bipush (v := 13) X.1 X.2.1 dL_act_573 (by decide) ?_
  refine n_calli w (n_runS (n := 2) (As := [.int x, .int 13]) X (c_L_below l x 13 (by decide)) (bg_S kw_411 kw_412 kw_30 kw_413) rfl rfl (by decide +kernel) ⟨(Nat.le_of_ble_eq_true rfl), (Nat.le_of_ble_eq_true rfl)⟩ rfl hl.1 rfl (Nat.le_of_ble_eq_true rfl) dL_act_575 ⟨(Nat.le_of_ble_eq_true rfl), (Nat.le_of_ble_eq_true rfl)⟩) (fun H locs w => ?_)
  refine lv_iconst (v := 4) X.1 X.2.1 dL_act_578 (by decide) ?_
  refine lv_icmp_lt (tgt := 603) X.1 X.2.1 dL_act_579 (by decide) (fun c5 => ?_) (fun c5 => ?_)
  ·
    refine lv_iconst (v := 1) X.1 X.2.1 dL_act_603 (by decide) ?_
    refine lv_goto (tgt := 608) X.1 X.2.1 dL_act_604 (by decide) ?_
    exact w_iret X hr hlk w (by  exact ⟨by simp only [eq_true c5, or_true, true_or, or_self, or_false, false_or, and_true, true_and, and_false, false_and, not_true, not_false_iff, if_true, if_false], rfl⟩) dL_act_608 rfl (Nat.le_of_ble_eq_true rfl) (Nat.le_of_ble_eq_true rfl)
  ·
    refine lv_iload_n X.1 X.2.1 dL_act_582 rfl (lv_at hl 2 rfl) ?_
    refine lv_bipush (v := 13) X.1 X.2.1 dL_act_583 (by decide) ?_
    refine n_calli w (n_runS (n := 2) (As := [.int x, .int 13]) X (c_L_below l x 13 (by decide)) (bg_S kw_411 kw_412 kw_30 kw_413) rfl rfl (by decide +kernel) ⟨(Nat.le_of_ble_eq_true rfl), (Nat.le_of_ble_eq_true rfl)⟩ rfl hl.1 rfl (Nat.le_of_ble_eq_true rfl) dL_act_585 ⟨(Nat.le_of_ble_eq_true rfl), (Nat.le_of_ble_eq_true rfl)⟩) (fun H locs w => ?_)
    refine lv_iconst (v := 5) X.1 X.2.1 dL_act_588 (by decide) ?_
    refine lv_icmp_le (tgt := 607) X.1 X.2.1 dL_act_589 (by decide) (fun c6 => ?_) (fun c6 => ?_)
    ·
      refine lv_iconst (v := 0) X.1 X.2.1 dL_act_607 (by decide) ?_
      exact w_iret X hr hlk w (by  exact ⟨by simp only [eq_false c5, eq_true c6, or_true, true_or, or_self, or_false, false_or, and_true, true_and, and_false, false_and, not_true, not_false_iff, if_true, if_false], rfl⟩) dL_act_608 rfl (Nat.le_of_ble_eq_true rfl) (Nat.le_of_ble_eq_true rfl)
    ·
      refine lv_iload_n X.1 X.2.1 dL_act_592 rfl (lv_at hl 2 rfl) ?_
      refine lv_bipush (v := 13) X.1 X.2.1 dL_act_593 (by decide) ?_
      refine n_calli w (n_runS (n := 2) (As := [.int x, .int 13]) X (c_L_below l x 13 (by decide)) (bg_S kw_411 kw_412 kw_30 kw_413) rfl rfl (by decide +kernel) ⟨(Nat.le_of_ble_eq_true rfl), (Nat.le_of_ble_eq_true rfl)⟩ rfl hl.1 rfl (Nat.le_of_ble_eq_true rfl) dL_act_595 ⟨(Nat.le_of_ble_eq_true rfl), (Nat.le_of_ble_eq_true rfl)⟩) (fun H locs w => ?_)
      refine lv_bipush (v := 12) X.1 X.2.1 dL_act_598 (by decide) ?_
      refine lv_icmp_ge (tgt := 607) X.1 X.2.1 dL_act_600 (by decide) (fun c7 => ?_) (fun c7 => ?_)
      ·
        refine lv_iconst (v := 0) X.1 X.2.1 dL_act_607 (by decide) ?_
        exact w_iret X hr hlk w (by  exact ⟨by simp only [eq_false c5, eq_false c6, eq_true c7, or_true, true_or, or_self, or_false, false_or, and_true, true_and, and_false, false_and, not_true, not_false_iff, if_true, if_false], rfl⟩) dL_act_608 rfl (Nat.le_of_ble_eq_true rfl) (Nat.le_of_ble_eq_true rfl)
      ·
        refine lv_iconst (v := 1) X.1 X.2.1 dL_act_603 (by decide) ?_
        refine lv_goto (tgt := 608) X.1 X.2.1 dL_act_604 (by decide) ?_
        exact w_iret X hr hlk w (by  exact ⟨by simp only [eq_false c5, eq_false c6, eq_false c7, or_true, true_or, or_self, or_false, false_or, and_true, true_and, and_false, false_and, not_true, not_false_iff, if_true, if_false], rfl⟩) dL_act_608 rfl (Nat.le_of_ble_eq_true rfl) (Nat.le_of_ble_eq_true rfl)

set_option maxHeartbeats 4000000 in
set_option maxRecDepth 100000 in
theorem ca_again (l : Launch) (D : va_G) (ca : Nat → ClassId) (ad : Nat → Nat) (E : Em) (F : Fm) (L : Lm) (S : Sm) (n : Nat) (hlt : l.stackTraces = false) (q : Nat → Nat) (hlf : Lf F L S n q) (x jb r pp : Int32) (hkd : s_below x 13 = 7) (h0 : er_again F n jb = 0) (hi : erI n jb = 0) (hag : er_again F n jb = 0 → erI 3 (F (17 + jb.toNatClampNeg) 9) = 0 ∧ q (6 + (F (17 + jb.toNatClampNeg) 9).toNatClampNeg) < 20) (q2 : Nat → Nat) (wf2 : Wf (s_againF F q jb.toNatClampNeg (6 + (F (17 + jb.toNatClampNeg) 9).toNatClampNeg)) (s_insL L q 0 jb.toNatClampNeg (6 + (F (17 + jb.toNatClampNeg) 9).toNatClampNeg)) S n q2) (hq2 : er_queue (s_againF F q jb.toNatClampNeg (6 + (F (17 + jb.toNatClampNeg) 9).toNatClampNeg)) (s_insL L q 0 jb.toNatClampNeg (6 + (F (17 + jb.toNatClampNeg) 9).toNatClampNeg)) (s_ofJob (s_againF F q jb.toNatClampNeg (6 + (F (17 + jb.toNatClampNeg) 9).toNatClampNeg)) jb.toNatClampNeg 12) 0 = 0) (sz : Nat) : Met l yL_act (.codeWith yL_act cL_act 7 (some .boolean) hhA :: BG) { frames := 9, cells := 1, slots := 15, locals := 200 } (Pw D ca ad (E, F, L, S, n) sz [.ref (ad 0), .int x, .int jb, .int r, .int pp]) (Qi D ca ad n (fun v u => v = (if s_sheets (s_againF F q jb.toNatClampNeg (6 + (F (17 + jb.toNatClampNeg) 9).toNatClampNeg)) jb.toNatClampNeg = s_ofJob (s_againF F q jb.toNatClampNeg (6 + (F (17 + jb.toNatClampNeg) 9).toNatClampNeg)) jb.toNatClampNeg 8 then (if s_queue (s_againF F q jb.toNatClampNeg (6 + (F (17 + jb.toNatClampNeg) 9).toNatClampNeg)) (s_insL L q 0 jb.toNatClampNeg (6 + (F (17 + jb.toNatClampNeg) 9).toNatClampNeg)) (6 + (s_ofJob (s_againF F q jb.toNatClampNeg (6 + (F (17 + jb.toNatClampNeg) 9).toNatClampNeg)) jb.toNatClampNeg 12).toNatClampNeg) 0 = jb then 1 else 0) else 0) ∧ u.2 = ((s_againF F q jb.toNatClampNeg (6 + (F (17 + jb.toNatClampNeg) 9).toNatClampNeg)), (s_insL L q 0 jb.toNatClampNeg (6 + (F (17 + jb.toNatClampNeg) 9).toNatClampNeg)), S, n)) sz) 1 15 (wA ad n sz) := by
  refine open_A (σ := (E, F, L, S, n)) (Qc := Qi D ca ad n (fun v u => v = (if s_sheets (s_againF F q jb.toNatClampNeg (6 + (F (17 + jb.toNatClampNeg) 9).toNatClampNeg)) jb.toNatClampNeg = s_ofJob (s_againF F q jb.toNatClampNeg (6 + (F (17 + jb.toNatClampNeg) 9).toNatClampNeg)) jb.toNatClampNeg 8 then (if s_queue (s_againF F q jb.toNatClampNeg (6 + (F (17 + jb.toNatClampNeg) 9).toNatClampNeg)) (s_insL L q 0 jb.toNatClampNeg (6 + (F (17 + jb.toNatClampNeg) 9).toNatClampNeg)) (6 + (s_ofJob (s_againF F q jb.toNatClampNeg (6 + (F (17 + jb.toNatClampNeg) 9).toNatClampNeg)) jb.toNatClampNeg 12).toNatClampNeg) 0 = jb then 1 else 0) else 0) ∧ u.2 = ((s_againF F q jb.toNatClampNeg (6 + (F (17 + jb.toNatClampNeg) 9).toNatClampNeg)), (s_insL L q 0 jb.toNatClampNeg (6 + (F (17 + jb.toNatClampNeg) 9).toNatClampNeg)), S, n))) (by decide +kernel) (Nat.le_of_ble_eq_true rfl) ?_
  intro p e s m args below meth c X hr hlk htab w cn ls hl
  have hl : lv_has ls 7 [(0, .ref (ad 0)), (1, .int x), (2, .int jb), (3, .int r), (4, .int pp)] := hl
  have wf := hlf.1
  have hs := wf.2.2.1
  have hJ := wf.2.1.2
  refine lv_iload_n X.1 X.2.1 dL_act_0 rfl (lv_at hl 1 rfl) ?_
  refine lv_bipush (v := 13) X.1 X.2.1 dL_act_1 (by decide) ?_
  refine n_calli w (n_runS (n := 2) (As := [.int x, .int 13]) X (c_L_below l x 13 (by decide)) (bg_S kw_411 kw_412 kw_30 kw_413) rfl rfl (by decide +kernel) ⟨(Nat.le_of_ble_eq_true rfl), (Nat.le_of_ble_eq_true rfl)⟩ rfl hl.1 rfl (Nat.le_of_ble_eq_true rfl) dL_act_3 ⟨(Nat.le_of_ble_eq_true rfl), (Nat.le_of_ble_eq_true rfl)⟩) (fun H locs w => ?_)
  refine W.eq (g2 := F0 m 6 ls [.int 7]) (by rw [hkd]) ?_
  refine lv_tableIn (tgt := 295) X.1 X.2.1 dL_act_6 (by decide) (by decide) rfl (by decide) ?_
  refine lv_aload_n X.1 X.2.1 dL_act_295 rfl (lv_at hl 0 rfl) ?_
  refine lv_iload_n X.1 X.2.1 dL_act_296 rfl (lv_at hl 2 rfl) ?_
  have h2 : (er_again F n jb) = 0 := h0
  refine w_calli cn w (w_runV (n := 1) (As := [.int jb]) X cn w (lt17 (by decide)) wC_0 rfl (fun sz => met_of (c_X4_again l D ca ad E F L S n hlt q wf jb hag 0 0 (fun h => (h h2).elim) sz) h2) (bg_V kw_568 kw_569 kw_570 kw_31 kw_571) rfl rfl (by decide +kernel) ⟨(Nat.le_of_ble_eq_true rfl), (Nat.le_of_ble_eq_true rfl)⟩ rfl hl.1 rfl (Nat.le_of_ble_eq_true rfl) dL_act_297 ⟨(Nat.le_of_ble_eq_true rfl), (Nat.le_of_ble_eq_true rfl)⟩) (fun r1 u H locs hp w => ?_)
  obtain ⟨E3, q4⟩ := u
  obtain ⟨-, rfl, h5⟩ := hp
  have h5 : q4 = ((s_againF F q jb.toNatClampNeg (6 + (F (17 + jb.toNatClampNeg) 9).toNatClampNeg)), (s_insL L q 0 jb.toNatClampNeg (6 + (F (17 + jb.toNatClampNeg) 9).toNatClampNeg)), S, n) := h5
  subst h5
  refine lv_aload_n X.1 X.2.1 dL_act_300 rfl (lv_at hl 0 rfl) ?_
  refine lv_iload_n X.1 X.2.1 dL_act_301 rfl (lv_at hl 2 rfl) ?_
  refine lv_bipush (v := 8) X.1 X.2.1 dL_act_302 (by decide) ?_
  have h502 : (er_ofJob n jb 8) = 0 := (by rw [er_ofJob, if_pos hi]; decide)
  refine w_calli cn w (w_runV (n := 2) (As := [.int jb, .int 8]) X cn w (lt17 (by decide)) wC_0 rfl (fun sz => met_of (c_X4_ofJob l D ca ad E3 (s_againF F q jb.toNatClampNeg (6 + (F (17 + jb.toNatClampNeg) 9).toNatClampNeg)) (s_insL L q 0 jb.toNatClampNeg (6 + (F (17 + jb.toNatClampNeg) 9).toNatClampNeg)) S n hlt q2 wf2 jb 8 0 0 (fun h => (h h502).elim) sz) h502) (bg_V kw_536 kw_381 kw_382 kw_31 kw_383) rfl rfl (by decide +kernel) ⟨(Nat.le_of_ble_eq_true rfl), (Nat.le_of_ble_eq_true rfl)⟩ rfl hl.1 rfl (Nat.le_of_ble_eq_true rfl) dL_act_304 ⟨(Nat.le_of_ble_eq_true rfl), (Nat.le_of_ble_eq_true rfl)⟩) (fun r501 u H locs hp w => ?_)
  obtain ⟨E503, q504⟩ := u
  obtain ⟨-, rfl, h505⟩ := hp
  have h505 : q504 = ((s_againF F q jb.toNatClampNeg (6 + (F (17 + jb.toNatClampNeg) 9).toNatClampNeg)), (s_insL L q 0 jb.toNatClampNeg (6 + (F (17 + jb.toNatClampNeg) 9).toNatClampNeg)), S, n) := h505
  subst h505
  refine lv_icmp_ne (tgt := 330) X.1 X.2.1 dL_act_307 (by decide) (fun c506 => ?_) (fun c506 => ?_)
  ·
    refine lv_iconst (v := 0) X.1 X.2.1 dL_act_330 (by decide) ?_
    exact w_iret X hr hlk w (by  exact ⟨by simp only [eq_false c506, or_true, true_or, or_self, or_false, false_or, and_true, true_and, and_false, false_and, not_true, not_false_iff, if_true, if_false], rfl⟩) dL_act_331 rfl (Nat.le_of_ble_eq_true rfl) (Nat.le_of_ble_eq_true rfl)
  ·
    refine lv_aload_n X.1 X.2.1 dL_act_310 rfl (lv_at hl 0 rfl) ?_
    refine lv_aload_n X.1 X.2.1 dL_act_311 rfl (lv_at hl 0 rfl) ?_
    refine lv_iload_n X.1 X.2.1 dL_act_312 rfl (lv_at hl 2 rfl) ?_
    refine lv_bipush (v := 12) X.1 X.2.1 dL_act_313 (by decide) ?_
    have h508 : (er_ofJob n jb 12) = 0 := (by rw [er_ofJob, if_pos hi]; decide)
    refine w_calli cn w (w_runV (n := 2) (As := [.int jb, .int 12]) X cn w (lt17 (by decide)) wC_0 rfl (fun sz => met_of (c_X4_ofJob l D ca ad E503 (s_againF F q jb.toNatClampNeg (6 + (F (17 + jb.toNatClampNeg) 9).toNatClampNeg)) (s_insL L q 0 jb.toNatClampNeg (6 + (F (17 + jb.toNatClampNeg) 9).toNatClampNeg)) S n hlt q2 wf2 jb 12 0 0 (fun h => (h h508).elim) sz) h508) (bg_V kw_536 kw_381 kw_382 kw_31 kw_383) rfl rfl (by decide +kernel) ⟨(Nat.le_of_ble_eq_true rfl), (Nat.le_of_ble_eq_true rfl)⟩ rfl hl.1 rfl (Nat.le_of_ble_eq_true rfl) dL_act_315 ⟨(Nat.le_of_ble_eq_true rfl), (Nat.le_of_ble_eq_true rfl)⟩) (fun r507 u H locs hp w => ?_)
    obtain ⟨E509, q510⟩ := u
    obtain ⟨-, rfl, h511⟩ := hp
    have h511 : q510 = ((s_againF F q jb.toNatClampNeg (6 + (F (17 + jb.toNatClampNeg) 9).toNatClampNeg)), (s_insL L q 0 jb.toNatClampNeg (6 + (F (17 + jb.toNatClampNeg) 9).toNatClampNeg)), S, n) := h511
    subst h511
    refine lv_iconst (v := 0) X.1 X.2.1 dL_act_318 (by decide) ?_
    have h513 : (er_queue (s_againF F q jb.toNatClampNeg (6 + (F (17 + jb.toNatClampNeg) 9).toNatClampNeg)) (s_insL L q 0 jb.toNatClampNeg (6 + (F (17 + jb.toNatClampNeg) 9).toNatClampNeg)) (s_ofJob (s_againF F q jb.toNatClampNeg (6 + (F (17 + jb.toNatClampNeg) 9).toNatClampNeg)) jb.toNatClampNeg 12) 0) = 0 := hq2
    refine w_calli cn w (w_runV (n := 2) (As := [.int (s_ofJob (s_againF F q jb.toNatClampNeg (6 + (F (17 + jb.toNatClampNeg) 9).toNatClampNeg)) jb.toNatClampNeg 12), .int 0]) X cn w (lt17 (by decide)) wC_0 rfl (fun sz => met_of (c_X4_queue l D ca ad E509 (s_againF F q jb.toNatClampNeg (6 + (F (17 + jb.toNatClampNeg) 9).toNatClampNeg)) (s_insL L q 0 jb.toNatClampNeg (6 + (F (17 + jb.toNatClampNeg) 9).toNatClampNeg)) S n hlt q2 wf2 (s_ofJob (s_againF F q jb.toNatClampNeg (6 + (F (17 + jb.toNatClampNeg) 9).toNatClampNeg)) jb.toNatClampNeg 12) 0 0 0 (fun h => (h h513).elim) sz) h513) (bg_V kw_538 kw_372 kw_373 kw_31 kw_374) rfl rfl (by decide +kernel) ⟨(Nat.le_of_ble_eq_true rfl), (Nat.le_of_ble_eq_true rfl)⟩ rfl hl.1 rfl (Nat.le_of_ble_eq_true rfl) dL_act_319 ⟨(Nat.le_of_ble_eq_true rfl), (Nat.le_of_ble_eq_true rfl)⟩) (fun r512 u H locs hp w => ?_)
    obtain ⟨E514, q515⟩ := u
    obtain ⟨-, rfl, h516⟩ := hp
    have h516 : q515 = ((s_againF F q jb.toNatClampNeg (6 + (F (17 + jb.toNatClampNeg) 9).toNatClampNeg)), (s_insL L q 0 jb.toNatClampNeg (6 + (F (17 + jb.toNatClampNeg) 9).toNatClampNeg)), S, n) := h516
    subst h516
    refine lv_iload_n X.1 X.2.1 dL_act_322 rfl (lv_at hl 2 rfl) ?_
    refine lv_icmp_ne (tgt := 330) X.1 X.2.1 dL_act_323 (by decide) (fun c517 => ?_) (fun c517 => ?_)
    ·
      refine lv_iconst (v := 0) X.1 X.2.1 dL_act_330 (by decide) ?_
      exact w_iret X hr hlk w (by  exact ⟨by simp only [eq_true c506, eq_false c517, or_true, true_or, or_self, or_false, false_or, and_true, true_and, and_false, false_and, not_true, not_false_iff, if_true, if_false], rfl⟩) dL_act_331 rfl (Nat.le_of_ble_eq_true rfl) (Nat.le_of_ble_eq_true rfl)
    ·
      refine lv_iconst (v := 1) X.1 X.2.1 dL_act_326 (by decide) ?_
      refine lv_goto (tgt := 331) X.1 X.2.1 dL_act_327 (by decide) ?_
      exact w_iret X hr hlk w (by  exact ⟨by simp only [eq_true c506, eq_true c517, or_true, true_or, or_self, or_false, false_or, and_true, true_and, and_false, false_and, not_true, not_false_iff, if_true, if_false], rfl⟩) dL_act_331 rfl (Nat.le_of_ble_eq_true rfl) (Nat.le_of_ble_eq_true rfl)

set_option maxHeartbeats 4000000 in
set_option maxRecDepth 100000 in
theorem ca_again_x1 (l : Launch) (D : va_G) (ca : Nat → ClassId) (ad : Nat → Nat) (E : Em) (F : Fm) (L : Lm) (S : Sm) (n : Nat) (hlt : l.stackTraces = false) (q : Nat → Nat) (hlf : Lf F L S n q) (x jb r pp : Int32) (hkd : s_below x 13 = 7) (hx : er_again F n jb = 1) (hag : er_again F n jb = 0 → erI 3 (F (17 + jb.toNatClampNeg) 9) = 0 ∧ q (6 + (F (17 + jb.toNatClampNeg) 9).toNatClampNeg) < 20) (sz : Nat) : Met l yL_act (.codeWith yL_act cL_act 7 (some .boolean) hhA :: BG) { frames := 9, cells := 1, slots := 15, locals := 200 } (Pw D ca ad (E, F, L, S, n) sz [.ref (ad 0), .int x, .int jb, .int r, .int pp]) (Qi D ca ad n (fun v u => v = (if s_many F n 0 = 0 then 1 else if s_below x 13 = 10 then 1 else if s_below x 13 = 11 then 1 else 0) ∧ u.2 = (F, L, S, n)) sz) 1 15 (wA ad n sz) := by
  refine open_A (σ := (E, F, L, S, n)) (Qc := Qi D ca ad n (fun v u => v = (if s_many F n 0 = 0 then 1 else if s_below x 13 = 10 then 1 else if s_below x 13 = 11 then 1 else 0) ∧ u.2 = (F, L, S, n))) (by decide +kernel) (Nat.le_of_ble_eq_true rfl) ?_
  intro p e s m args below meth c X hr hlk htab w cn ls hl
  have hl : lv_has ls 7 [(0, .ref (ad 0)), (1, .int x), (2, .int jb), (3, .int r), (4, .int pp)] := hl
  have wf := hlf.1
  have hs := wf.2.2.1
  have hJ := wf.2.1.2
  refine lv_iload_n X.1 X.2.1 dL_act_0 rfl (lv_at hl 1 rfl) ?_
  refine lv_bipush (v := 13) X.1 X.2.1 dL_act_1 (by decide) ?_
  refine n_calli w (n_runS (n := 2) (As := [.int x, .int 13]) X (c_L_below l x 13 (by decide)) (bg_S kw_411 kw_412 kw_30 kw_413) rfl rfl (by decide +kernel) ⟨(Nat.le_of_ble_eq_true rfl), (Nat.le_of_ble_eq_true rfl)⟩ rfl hl.1 rfl (Nat.le_of_ble_eq_true rfl) dL_act_3 ⟨(Nat.le_of_ble_eq_true rfl), (Nat.le_of_ble_eq_true rfl)⟩) (fun H locs w => ?_)
  refine W.eq (g2 := F0 m 6 ls [.int 7]) (by rw [hkd]) ?_
  refine lv_tableIn (tgt := 295) X.1 X.2.1 dL_act_6 (by decide) (by decide) rfl (by decide) ?_
  refine lv_aload_n X.1 X.2.1 dL_act_295 rfl (lv_at hl 0 rfl) ?_
  refine lv_iload_n X.1 X.2.1 dL_act_296 rfl (lv_at hl 2 rfl) ?_
  have h2 : (er_again F n jb) = 1 := hx
  refine x_caught X cn w (xw_runV (n := 1) (As := [.int jb]) X cn w (lt17 (by decide)) wC_0 rfl (fun sz => c_X4_again l D ca ad E F L S n hlt q wf jb hag 1 6 (fun _ => ⟨Nat.le_refl 1, Nat.le_refl 6⟩) sz) (bg_V kw_568 kw_569 kw_570 kw_31 kw_571) rfl rfl (by decide +kernel) ⟨(Nat.le_of_ble_eq_true rfl), (Nat.le_of_ble_eq_true rfl)⟩ rfl hl.1 rfl (Nat.le_of_ble_eq_true rfl) dL_act_297 ⟨(Nat.le_of_ble_eq_true rfl), (Nat.le_of_ble_eq_true rfl)⟩) (fun st v t hq => by obtain ⟨⟨r, u, -, hp, -⟩, -⟩ := hq; first | exact hp.elim | (have h9 := hp.1; omega)) eIO eIO (by rw [h2]; rfl) (ATB.take 5) ⟨295, 331, 514, 102⟩ (ATB.drop 6) (htab.trans (by decide +kernel)) (x_passA (by decide +kernel)) (by decide +kernel) (by decide) (X.2.2.2.2 _ kw_422) (cn.2.1.use kw_284) (fun q9 u H locs hu w => ?_)
  obtain ⟨E3, q4⟩ := u
  have hu : q4 = (F, L, S, n) := hu
  subst hu
  refine lv_astore (lv' := [(5, .ref q9), (0, .ref (ad 0)), (1, .int x), (2, .int jb), (3, .int r), (4, .int pp)]) X.1 X.2.1 dL_act_514 hl (by decide) rfl (fun ls hl => ?_)
  refine lv_aload_n X.1 X.2.1 dL_act_516 rfl (lv_at hl 1 rfl) ?_
  refine lv_iconst (v := 0) X.1 X.2.1 dL_act_517 (by decide) ?_
  have h6 : (erW 10 0) = 0 := (by decide)
  refine w_calli cn w (w_runV (n := 1) (As := [.int 0]) X cn w (lt17 (by decide)) wC_0 rfl (fun sz => met_of (c_X4_many l D ca ad E3 F L S n hlt q wf 0 0 0 (fun h => (h h6).elim) sz) h6) (bg_V kw_179 kw_180 kw_181 kw_31 kw_182) rfl rfl (by decide +kernel) ⟨(Nat.le_of_ble_eq_true rfl), (Nat.le_of_ble_eq_true rfl)⟩ rfl hl.1 rfl (Nat.le_of_ble_eq_true rfl) dL_act_518 ⟨(Nat.le_of_ble_eq_true rfl), (Nat.le_of_ble_eq_true rfl)⟩) (fun r5 u H locs hp w => ?_)
  obtain ⟨E7, q8⟩ := u
  obtain ⟨-, rfl, h9⟩ := hp
  have h9 : q8 = (F, L, S, n) := h9
  subst h9
  refine lv_if_eq (tgt := 546) X.1 X.2.1 dL_act_521 (by decide) (fun c10 => ?_) (fun c10 => ?_)
  ·
    refine lv_iconst (v := 1) X.1 X.2.1 dL_act_546 (by decide) ?_
    refine lv_goto (tgt := 551) X.1 X.2.1 dL_act_547 (by decide) ?_
    exact w_iret X hr hlk w (by  exact ⟨by simp only [eq_true c10, or_true, true_or, or_self, or_false, false_or, and_true, true_and, and_false, false_and, not_true, not_false_iff, if_true, if_false], rfl⟩) dL_act_551 rfl (Nat.le_of_ble_eq_true rfl) (Nat.le_of_ble_eq_true rfl)
  ·
    refine lv_iload_n X.1 X.2.1 dL_act_524 rfl (lv_at hl 2 rfl) ?_
    refine lv_bipush (v := 13) X.1 X.2.1 dL_act_525 (by decide) ?_
    refine n_calli w (n_runS (n := 2) (As := [.int x, .int 13]) X (c_L_below l x 13 (by decide)) (bg_S kw_411 kw_412 kw_30 kw_413) rfl rfl (by decide +kernel) ⟨(Nat.le_of_ble_eq_true rfl), (Nat.le_of_ble_eq_true rfl)⟩ rfl hl.1 rfl (Nat.le_of_ble_eq_true rfl) dL_act_527 ⟨(Nat.le_of_ble_eq_true rfl), (Nat.le_of_ble_eq_true rfl)⟩) (fun H locs w => ?_)
    refine lv_bipush (v := 10) X.1 X.2.1 dL_act_530 (by decide) ?_
    refine lv_icmp_eq (tgt := 546) X.1 X.2.1 dL_act_532 (by decide) (fun c11 => ?_) (fun c11 => ?_)
    ·
      refine lv_iconst (v := 1) X.1 X.2.1 dL_act_546 (by decide) ?_
      refine lv_goto (tgt := 551) X.1 X.2.1 dL_act_547 (by decide) ?_
      exact w_iret X hr hlk w (by  exact ⟨by simp only [eq_false c10, eq_true c11, or_true, true_or, or_self, or_false, false_or, and_true, true_and, and_false, false_and, not_true, not_false_iff, if_true, if_false], rfl⟩) dL_act_551 rfl (Nat.le_of_ble_eq_true rfl) (Nat.le_of_ble_eq_true rfl)
    ·
      refine lv_iload_n X.1 X.2.1 dL_act_535 rfl (lv_at hl 2 rfl) ?_
      refine lv_bipush (v := 13) X.1 X.2.1 dL_act_536 (by decide) ?_
      refine n_calli w (n_runS (n := 2) (As := [.int x, .int 13]) X (c_L_below l x 13 (by decide)) (bg_S kw_411 kw_412 kw_30 kw_413) rfl rfl (by decide +kernel) ⟨(Nat.le_of_ble_eq_true rfl), (Nat.le_of_ble_eq_true rfl)⟩ rfl hl.1 rfl (Nat.le_of_ble_eq_true rfl) dL_act_538 ⟨(Nat.le_of_ble_eq_true rfl), (Nat.le_of_ble_eq_true rfl)⟩) (fun H locs w => ?_)
      refine lv_bipush (v := 11) X.1 X.2.1 dL_act_541 (by decide) ?_
      refine lv_icmp_ne (tgt := 550) X.1 X.2.1 dL_act_543 (by decide) (fun c12 => ?_) (fun c12 => ?_)
      ·
        refine lv_iconst (v := 0) X.1 X.2.1 dL_act_550 (by decide) ?_
        exact w_iret X hr hlk w (by  exact ⟨by simp only [eq_false c10, eq_false c11, eq_false c12, or_true, true_or, or_self, or_false, false_or, and_true, true_and, and_false, false_and, not_true, not_false_iff, if_true, if_false], rfl⟩) dL_act_551 rfl (Nat.le_of_ble_eq_true rfl) (Nat.le_of_ble_eq_true rfl)
      ·
        refine lv_iconst (v := 1) X.1 X.2.1 dL_act_546 (by decide) ?_
        refine lv_goto (tgt := 551) X.1 X.2.1 dL_act_547 (by decide) ?_
        exact w_iret X hr hlk w (by  exact ⟨by simp only [eq_false c10, eq_false c11, eq_true c12, or_true, true_or, or_self, or_false, false_or, and_true, true_and, and_false, false_and, not_true, not_false_iff, if_true, if_false], rfl⟩) dL_act_551 rfl (Nat.le_of_ble_eq_true rfl) (Nat.le_of_ble_eq_true rfl)

set_option maxHeartbeats 4000000 in
set_option maxRecDepth 100000 in
theorem ca_again_x3 (l : Launch) (D : va_G) (ca : Nat → ClassId) (ad : Nat → Nat) (E : Em) (F : Fm) (L : Lm) (S : Sm) (n : Nat) (hlt : l.stackTraces = false) (q : Nat → Nat) (hlf : Lf F L S n q) (x jb r pp : Int32) (hkd : s_below x 13 = 7) (hx : er_again F n jb = 3) (hag : er_again F n jb = 0 → erI 3 (F (17 + jb.toNatClampNeg) 9) = 0 ∧ q (6 + (F (17 + jb.toNatClampNeg) 9).toNatClampNeg) < 20) (sz : Nat) : Met l yL_act (.codeWith yL_act cL_act 7 (some .boolean) hhA :: BG) { frames := 9, cells := 1, slots := 15, locals := 200 } (Pw D ca ad (E, F, L, S, n) sz [.ref (ad 0), .int x, .int jb, .int r, .int pp]) (Qi D ca ad n (fun v u => v = (if s_below x 13 < 4 then 1 else if s_below x 13 ≤ 5 then 0 else if 12 ≤ s_below x 13 then 0 else 1) ∧ u.2 = (F, L, S, n)) sz) 1 15 (wA ad n sz) := by
  refine open_A (σ := (E, F, L, S, n)) (Qc := Qi D ca ad n (fun v u => v = (if s_below x 13 < 4 then 1 else if s_below x 13 ≤ 5 then 0 else if 12 ≤ s_below x 13 then 0 else 1) ∧ u.2 = (F, L, S, n))) (by decide +kernel) (Nat.le_of_ble_eq_true rfl) ?_
  intro p e s m args below meth c X hr hlk htab w cn ls hl
  have hl : lv_has ls 7 [(0, .ref (ad 0)), (1, .int x), (2, .int jb), (3, .int r), (4, .int pp)] := hl
  have wf := hlf.1
  have hs := wf.2.2.1
  have hJ := wf.2.1.2
  refine lv_iload_n X.1 X.2.1 dL_act_0 rfl (lv_at hl 1 rfl) ?_
  refine lv_bipush (v := 13) X.1 X.2.1 dL_act_1 (by decide) ?_
  refine n_calli w (n_runS (n := 2) (As := [.int x, .int 13]) X (c_L_below l x 13 (by decide)) (bg_S kw_411 kw_412 kw_30 kw_413) rfl rfl (by decide +kernel) ⟨(Nat.le_of_ble_eq_true rfl), (Nat.le_of_ble_eq_true rfl)⟩ rfl hl.1 rfl (Nat.le_of_ble_eq_true rfl) dL_act_3 ⟨(Nat.le_of_ble_eq_true rfl), (Nat.le_of_ble_eq_true rfl)⟩) (fun H locs w => ?_)
  refine W.eq (g2 := F0 m 6 ls [.int 7]) (by rw [hkd]) ?_
  refine lv_tableIn (tgt := 295) X.1 X.2.1 dL_act_6 (by decide) (by decide) rfl (by decide) ?_
  refine lv_aload_n X.1 X.2.1 dL_act_295 rfl (lv_at hl 0 rfl) ?_
  refine lv_iload_n X.1 X.2.1 dL_act_296 rfl (lv_at hl 2 rfl) ?_
  have h2 : (er_again F n jb) = 3 := hx
  refine x_caught X cn w (xw_runV (n := 1) (As := [.int jb]) X cn w (lt17 (by decide)) wC_0 rfl (fun sz => c_X4_again l D ca ad E F L S n hlt q wf jb hag 1 6 (fun _ => ⟨Nat.le_refl 1, Nat.le_refl 6⟩) sz) (bg_V kw_568 kw_569 kw_570 kw_31 kw_571) rfl rfl (by decide +kernel) ⟨(Nat.le_of_ble_eq_true rfl), (Nat.le_of_ble_eq_true rfl)⟩ rfl hl.1 rfl (Nat.le_of_ble_eq_true rfl) dL_act_297 ⟨(Nat.le_of_ble_eq_true rfl), (Nat.le_of_ble_eq_true rfl)⟩) (fun st v t hq => by obtain ⟨⟨r, u, -, hp, -⟩, -⟩ := hq; first | exact hp.elim | (have h9 := hp.1; omega)) eIS eIS (by rw [h2]; rfl) (ATB.take 27) ⟨295, 331, 570, 106⟩ (ATB.drop 28) (htab.trans (by decide +kernel)) (x_passC (by decide +kernel) (X.2.2.2.2 _ kw_422) (cn.2.1.2.2.1 (eIS, eIO) (by decide)) (X.2.2.2.2 _ kw_423) (cn.2.1.2.2.1 (eIS, eIA) (by decide))) (by decide +kernel) (by decide) (X.2.2.2.2 _ kw_424) (cn.2.1.use kw_445) (fun q9 u H locs hu w => ?_)
  obtain ⟨E3, q4⟩ := u
  have hu : q4 = (F, L, S, n) := hu
  subst hu
  refine lv_astore (lv' := [(5, .ref q9), (0, .ref (ad 0)), (1, .int x), (2, .int jb), (3, .int r), (4, .int pp)]) X.1 X.2.1 dL_act_570 hl (by decide) rfl (fun ls hl => ?_)
  refine lv_iload_n X.1 X.2.1 dL_act_572 rfl (lv_at hl 2 rfl) ?_
  refine lv_bipush (v := 13) X.1 X.2.1 dL_act_573 (by decide) ?_
  refine n_calli w (n_runS (n := 2) (As := [.int x, .int 13]) X (c_L_below l x 13 (by decide)) (bg_S kw_411 kw_412 kw_30 kw_413) rfl rfl (by decide +kernel) ⟨(Nat.le_of_ble_eq_true rfl), (Nat.le_of_ble_eq_true rfl)⟩ rfl hl.1 rfl (Nat.le_of_ble_eq_true rfl) dL_act_575 ⟨(Nat.le_of_ble_eq_true rfl), (Nat.le_of_ble_eq_true rfl)⟩) (fun H locs w => ?_)
  refine lv_iconst (v := 4) X.1 X.2.1 dL_act_578 (by decide) ?_
  refine lv_icmp_lt (tgt := 603) X.1 X.2.1 dL_act_579 (by decide) (fun c5 => ?_) (fun c5 => ?_)
  ·
    refine lv_iconst (v := 1) X.1 X.2.1 dL_act_603 (by decide) ?_
    refine lv_goto (tgt := 608) X.1 X.2.1 dL_act_604 (by decide) ?_
    exact w_iret X hr hlk w (by  exact ⟨by simp only [eq_true c5, or_true, true_or, or_self, or_false, false_or, and_true, true_and, and_false, false_and, not_true, not_false_iff, if_true, if_false], rfl⟩) dL_act_608 rfl (Nat.le_of_ble_eq_true rfl) (Nat.le_of_ble_eq_true rfl)
  ·
    refine lv_iload_n X.1 X.2.1 dL_act_582 rfl (lv_at hl 2 rfl) ?_
    refine lv_bipush (v := 13) X.1 X.2.1 dL_act_583 (by decide) ?_
    refine n_calli w (n_runS (n := 2) (As := [.int x, .int 13]) X (c_L_below l x 13 (by decide)) (bg_S kw_411 kw_412 kw_30 kw_413) rfl rfl (by decide +kernel) ⟨(Nat.le_of_ble_eq_true rfl), (Nat.le_of_ble_eq_true rfl)⟩ rfl hl.1 rfl (Nat.le_of_ble_eq_true rfl) dL_act_585 ⟨(Nat.le_of_ble_eq_true rfl), (Nat.le_of_ble_eq_true rfl)⟩) (fun H locs w => ?_)
    refine lv_iconst (v := 5) X.1 X.2.1 dL_act_588 (by decide) ?_
    refine lv_icmp_le (tgt := 607) X.1 X.2.1 dL_act_589 (by decide) (fun c6 => ?_) (fun c6 => ?_)
    ·
      refine lv_iconst (v := 0) X.1 X.2.1 dL_act_607 (by decide) ?_
      exact w_iret X hr hlk w (by  exact ⟨by simp only [eq_false c5, eq_true c6, or_true, true_or, or_self, or_false, false_or, and_true, true_and, and_false, false_and, not_true, not_false_iff, if_true, if_false], rfl⟩) dL_act_608 rfl (Nat.le_of_ble_eq_true rfl) (Nat.le_of_ble_eq_true rfl)
    ·
      refine lv_iload_n X.1 X.2.1 dL_act_592 rfl (lv_at hl 2 rfl) ?_
      refine lv_bipush (v := 13) X.1 X.2.1 dL_act_593 (by decide) ?_
      refine n_calli w (n_runS (n := 2) (As := [.int x, .int 13]) X (c_L_below l x 13 (by decide)) (bg_S kw_411 kw_412 kw_30 kw_413) rfl rfl (by decide +kernel) ⟨(Nat.le_of_ble_eq_true rfl), (Nat.le_of_ble_eq_true rfl)⟩ rfl hl.1 rfl (Nat.le_of_ble_eq_true rfl) dL_act_595 ⟨(Nat.le_of_ble_eq_true rfl), (Nat.le_of_ble_eq_true rfl)⟩) (fun H locs w => ?_)
      refine lv_bipush (v := 12) X.1 X.2.1 dL_act_598 (by decide) ?_
      refine lv_icmp_ge (tgt := 607) X.1 X.2.1 dL_act_600 (by decide) (fun c7 => ?_) (fun c7 => ?_)
      ·
        refine lv_iconst (v := 0) X.1 X.2.1 dL_act_607 (by decide) ?_
        exact w_iret X hr hlk w (by  exact ⟨by simp only [eq_false c5, eq_false c6, eq_true c7, or_true, true_or, or_self, or_false, false_or, and_true, true_and, and_false, false_and, not_true, not_false_iff, if_true, if_false], rfl⟩) dL_act_608 rfl (Nat.le_of_ble_eq_true rfl) (Nat.le_of_ble_eq_true rfl)
      ·
        refine lv_iconst (v := 1) X.1 X.2.1 dL_act_603 (by decide) ?_
        refine lv_goto (tgt := 608) X.1 X.2.1 dL_act_604 (by decide) ?_
        exact w_iret X hr hlk w (by  exact ⟨by simp only [eq_false c5, eq_false c6, eq_false c7, or_true, true_or, or_self, or_false, false_or, and_true, true_and, and_false, false_and, not_true, not_false_iff, if_true, if_false], rfl⟩) dL_act_608 rfl (Nat.le_of_ble_eq_true rfl) (Nat.le_of_ble_eq_true rfl)

set_option maxHeartbeats 4000000 in
set_option maxRecDepth 100000 in
theorem ca_sort (l : Launch) (D : va_G) (ca : Nat → ClassId) (ad : Nat → Nat) (E : Em) (F : Fm) (L : Lm) (S : Sm) (n : Nat) (hlt : l.stackTraces = false) (q : Nat → Nat) (hlf : Lf F L S n q) (x jb r pp : Int32) (hkd : s_below x 13 = 8) (h3 : erI 3 r = 0) (wf2 : Wf F (s_sortL F L q (6 + r.toNatClampNeg)) S n q) (sz : Nat) : Met l yL_act (.codeWith yL_act cL_act 7 (some .boolean) hhA :: BG) { frames := 9, cells := 1, slots := 15, locals := 200 } (Pw D ca ad (E, F, L, S, n) sz [.ref (ad 0), .int x, .int jb, .int r, .int pp]) (Qi D ca ad n (fun v u => v = (if s_minQ F L q (6 + r.toNatClampNeg) - s_minQ F (s_sortL F L q (6 + r.toNatClampNeg)) q (6 + r.toNatClampNeg) = s_ofPress F L q (6 + r.toNatClampNeg) 6 - s_ofPress F (s_sortL F L q (6 + r.toNatClampNeg)) q (6 + r.toNatClampNeg) 6 then 1 else 0) ∧ u.2 = (F, (s_sortL F L q (6 + r.toNatClampNeg)), S, n)) sz) 1 15 (wA ad n sz) := by
  refine open_A (σ := (E, F, L, S, n)) (Qc := Qi D ca ad n (fun v u => v = (if s_minQ F L q (6 + r.toNatClampNeg) - s_minQ F (s_sortL F L q (6 + r.toNatClampNeg)) q (6 + r.toNatClampNeg) = s_ofPress F L q (6 + r.toNatClampNeg) 6 - s_ofPress F (s_sortL F L q (6 + r.toNatClampNeg)) q (6 + r.toNatClampNeg) 6 then 1 else 0) ∧ u.2 = (F, (s_sortL F L q (6 + r.toNatClampNeg)), S, n))) (by decide +kernel) (Nat.le_of_ble_eq_true rfl) ?_
  intro p e s m args below meth c X hr hlk htab w cn ls hl
  have hl : lv_has ls 7 [(0, .ref (ad 0)), (1, .int x), (2, .int jb), (3, .int r), (4, .int pp)] := hl
  have wf := hlf.1
  have hs := wf.2.2.1
  have hJ := wf.2.1.2
  refine lv_iload_n X.1 X.2.1 dL_act_0 rfl (lv_at hl 1 rfl) ?_
  refine lv_bipush (v := 13) X.1 X.2.1 dL_act_1 (by decide) ?_
  refine n_calli w (n_runS (n := 2) (As := [.int x, .int 13]) X (c_L_below l x 13 (by decide)) (bg_S kw_411 kw_412 kw_30 kw_413) rfl rfl (by decide +kernel) ⟨(Nat.le_of_ble_eq_true rfl), (Nat.le_of_ble_eq_true rfl)⟩ rfl hl.1 rfl (Nat.le_of_ble_eq_true rfl) dL_act_3 ⟨(Nat.le_of_ble_eq_true rfl), (Nat.le_of_ble_eq_true rfl)⟩) (fun H locs w => ?_)
  refine W.eq (g2 := F0 m 6 ls [.int 8]) (by rw [hkd]) ?_
  refine lv_tableIn (tgt := 332) X.1 X.2.1 dL_act_6 (by decide) (by decide) rfl (by decide) ?_
  refine lv_aload_n X.1 X.2.1 dL_act_332 rfl (lv_at hl 0 rfl) ?_
  refine lv_iload_n X.1 X.2.1 dL_act_333 rfl (lv_at hl 3 rfl) ?_
  refine lv_bipush (v := 6) X.1 X.2.1 dL_act_334 (by decide) ?_
  have h2 : (er_ofPress r 6) = 0 := (by rw [er_ofPress, if_pos h3]; decide)
  refine w_calli cn w (w_runV (n := 2) (As := [.int r, .int 6]) X cn w (lt17 (by decide)) wC_0 rfl (fun sz => met_of (c_X4_ofPress l D ca ad E F L S n hlt q wf r 6 0 0 (fun h => (h h2).elim) sz) h2) (bg_V kw_537 kw_358 kw_359 kw_31 kw_360) rfl rfl (by decide +kernel) ⟨(Nat.le_of_ble_eq_true rfl), (Nat.le_of_ble_eq_true rfl)⟩ rfl hl.1 rfl (Nat.le_of_ble_eq_true rfl) dL_act_336 ⟨(Nat.le_of_ble_eq_true rfl), (Nat.le_of_ble_eq_true rfl)⟩) (fun r1 u H locs hp w => ?_)
  obtain ⟨E3, q4⟩ := u
  obtain ⟨-, rfl, h5⟩ := hp
  have h5 : q4 = (F, L, S, n) := h5
  subst h5
  refine lv_topi (fun x6 ex6 => ?_)
  refine lv_istore (lv' := [(6, .int x6), (0, .ref (ad 0)), (1, .int x), (2, .int jb), (3, .int r), (4, .int pp)]) X.1 X.2.1 dL_act_339 hl (by decide) rfl (fun ls hl => ?_)
  refine lv_aload_n X.1 X.2.1 dL_act_341 rfl (lv_at hl 1 rfl) ?_
  refine lv_iload_n X.1 X.2.1 dL_act_342 rfl (lv_at hl 4 rfl) ?_
  have h8 : (erI 3 r) = 0 := h3
  refine w_calli cn w (w_runV (n := 1) (As := [.int r]) X cn w (lt17 (by decide)) wC_0 rfl (fun sz => met_of (c_X4_sort l D ca ad E3 F L S n hlt q wf r 0 0 (fun h => (h h8).elim) sz) h8) (bg_V kw_573 kw_574 kw_575 kw_31 kw_576) rfl rfl (by decide +kernel) ⟨(Nat.le_of_ble_eq_true rfl), (Nat.le_of_ble_eq_true rfl)⟩ rfl hl.1 rfl (Nat.le_of_ble_eq_true rfl) dL_act_343 ⟨(Nat.le_of_ble_eq_true rfl), (Nat.le_of_ble_eq_true rfl)⟩) (fun r7 u H locs hp w => ?_)
  obtain ⟨E9, q10⟩ := u
  obtain ⟨-, rfl, h11⟩ := hp
  have h11 : q10 = (F, (s_sortL F L q (6 + r.toNatClampNeg)), S, n) := h11
  subst h11
  refine lv_iload X.1 X.2.1 dL_act_346 (lv_at hl 0 rfl) ?_
  refine lv_aload_n X.1 X.2.1 dL_act_348 rfl (lv_at hl 1 rfl) ?_
  refine lv_iload_n X.1 X.2.1 dL_act_349 rfl (lv_at hl 4 rfl) ?_
  refine lv_bipush (v := 6) X.1 X.2.1 dL_act_350 (by decide) ?_
  have h502 : (er_ofPress r 6) = 0 := (by rw [er_ofPress, if_pos h3]; decide)
  refine w_calli cn w (w_runV (n := 2) (As := [.int r, .int 6]) X cn w (lt17 (by decide)) wC_0 rfl (fun sz => met_of (c_X4_ofPress l D ca ad E9 F (s_sortL F L q (6 + r.toNatClampNeg)) S n hlt q wf2 r 6 0 0 (fun h => (h h502).elim) sz) h502) (bg_V kw_537 kw_358 kw_359 kw_31 kw_360) rfl rfl (by decide +kernel) ⟨(Nat.le_of_ble_eq_true rfl), (Nat.le_of_ble_eq_true rfl)⟩ rfl hl.1 rfl (Nat.le_of_ble_eq_true rfl) dL_act_352 ⟨(Nat.le_of_ble_eq_true rfl), (Nat.le_of_ble_eq_true rfl)⟩) (fun r501 u H locs hp w => ?_)
  obtain ⟨E503, q504⟩ := u
  obtain ⟨-, rfl, h505⟩ := hp
  have h505 : q504 = (F, (s_sortL F L q (6 + r.toNatClampNeg)), S, n) := h505
  subst h505
  refine lv_isub X.1 X.2.1 dL_act_355 ?_
  refine lv_icmp_ne (tgt := 363) X.1 X.2.1 dL_act_356 (by decide) (fun c506 => ?_) (fun c506 => ?_)
  ·
    refine lv_iconst (v := 0) X.1 X.2.1 dL_act_363 (by decide) ?_
    exact w_iret X hr hlk w (by subst ex6; exact ⟨by simp only [eq_false c506, or_true, true_or, or_self, or_false, false_or, and_true, true_and, and_false, false_and, not_true, not_false_iff, if_true, if_false], rfl⟩) dL_act_364 rfl (Nat.le_of_ble_eq_true rfl) (Nat.le_of_ble_eq_true rfl)
  ·
    refine lv_iconst (v := 1) X.1 X.2.1 dL_act_359 (by decide) ?_
    refine lv_goto (tgt := 364) X.1 X.2.1 dL_act_360 (by decide) ?_
    exact w_iret X hr hlk w (by subst ex6; exact ⟨by simp only [eq_true c506, or_true, true_or, or_self, or_false, false_or, and_true, true_and, and_false, false_and, not_true, not_false_iff, if_true, if_false], rfl⟩) dL_act_364 rfl (Nat.le_of_ble_eq_true rfl) (Nat.le_of_ble_eq_true rfl)

set_option maxHeartbeats 4000000 in
set_option maxRecDepth 100000 in
theorem ca_towers (l : Launch) (D : va_G) (ca : Nat → ClassId) (ad : Nat → Nat) (E : Em) (F : Fm) (L : Lm) (S : Sm) (n : Nat) (hlt : l.stackTraces = false) (q : Nat → Nat) (hlf : Lf F L S n q) (x jb r pp : Int32) (hkd : s_below x 13 = 9) (h0 : er_towers r (1 + s_below (x >>> ((6 : Int32) &&& 31)) 4) = 0) (sz : Nat) : Met l yL_act (.codeWith yL_act cL_act 7 (some .boolean) hhA :: BG) { frames := 9, cells := 1, slots := 15, locals := 200 } (Pw D ca ad (E, F, L, S, n) sz [.ref (ad 0), .int x, .int jb, .int r, .int pp]) (Qi D ca ad n (fun v u => v = (if 4 < F (6 + r.toNatClampNeg) 0 then 0 else 1) ∧ u.2 = ((up2 F (6 + r.toNatClampNeg) 0 (1 + s_below (x >>> ((6 : Int32) &&& 31)) 4)), L, S, n)) sz) 1 15 (wA ad n sz) := by
  refine open_A (σ := (E, F, L, S, n)) (Qc := Qi D ca ad n (fun v u => v = (if 4 < F (6 + r.toNatClampNeg) 0 then 0 else 1) ∧ u.2 = ((up2 F (6 + r.toNatClampNeg) 0 (1 + s_below (x >>> ((6 : Int32) &&& 31)) 4)), L, S, n))) (by decide +kernel) (Nat.le_of_ble_eq_true rfl) ?_
  intro p e s m args below meth c X hr hlk htab w cn ls hl
  have hl : lv_has ls 7 [(0, .ref (ad 0)), (1, .int x), (2, .int jb), (3, .int r), (4, .int pp)] := hl
  have wf := hlf.1
  have hs := wf.2.2.1
  have hJ := wf.2.1.2
  refine lv_iload_n X.1 X.2.1 dL_act_0 rfl (lv_at hl 1 rfl) ?_
  refine lv_bipush (v := 13) X.1 X.2.1 dL_act_1 (by decide) ?_
  refine n_calli w (n_runS (n := 2) (As := [.int x, .int 13]) X (c_L_below l x 13 (by decide)) (bg_S kw_411 kw_412 kw_30 kw_413) rfl rfl (by decide +kernel) ⟨(Nat.le_of_ble_eq_true rfl), (Nat.le_of_ble_eq_true rfl)⟩ rfl hl.1 rfl (Nat.le_of_ble_eq_true rfl) dL_act_3 ⟨(Nat.le_of_ble_eq_true rfl), (Nat.le_of_ble_eq_true rfl)⟩) (fun H locs w => ?_)
  refine W.eq (g2 := F0 m 6 ls [.int 9]) (by rw [hkd]) ?_
  refine lv_tableIn (tgt := 365) X.1 X.2.1 dL_act_6 (by decide) (by decide) rfl (by decide) ?_
  refine lv_aload_n X.1 X.2.1 dL_act_365 rfl (lv_at hl 0 rfl) ?_
  refine lv_iload_n X.1 X.2.1 dL_act_366 rfl (lv_at hl 3 rfl) ?_
  refine lv_iconst (v := 1) X.1 X.2.1 dL_act_367 (by decide) ?_
  refine lv_iload_n X.1 X.2.1 dL_act_368 rfl (lv_at hl 1 rfl) ?_
  refine lv_bipush (v := 6) X.1 X.2.1 dL_act_369 (by decide) ?_
  refine lv_ishr X.1 X.2.1 dL_act_371 ?_
  refine lv_iconst (v := 4) X.1 X.2.1 dL_act_372 (by decide) ?_
  refine n_calli w (n_runS (n := 2) (As := [.int (x >>> ((6 : Int32) &&& 31)), .int 4]) X (c_L_below l (x >>> ((6 : Int32) &&& 31)) 4 (by decide)) (bg_S kw_411 kw_412 kw_30 kw_413) rfl rfl (by decide +kernel) ⟨(Nat.le_of_ble_eq_true rfl), (Nat.le_of_ble_eq_true rfl)⟩ rfl hl.1 rfl (Nat.le_of_ble_eq_true rfl) dL_act_373 ⟨(Nat.le_of_ble_eq_true rfl), (Nat.le_of_ble_eq_true rfl)⟩) (fun H locs w => ?_)
  refine lv_iadd X.1 X.2.1 dL_act_376 ?_
  have h2 : (er_towers r (1 + (s_below (x >>> ((6 : Int32) &&& 31)) 4))) = 0 := h0
  refine w_calli cn w (w_runV (n := 2) (As := [.int r, .int (1 + (s_below (x >>> ((6 : Int32) &&& 31)) 4))]) X cn w (lt17 (by decide)) wC_0 rfl (fun sz => met_of (c_X4_towers l D ca ad E F L S n hlt q wf r (1 + (s_below (x >>> ((6 : Int32) &&& 31)) 4)) 0 0 (fun h => (h h2).elim) sz) h2) (bg_V kw_593 kw_594 kw_595 kw_31 kw_596) rfl rfl (by decide +kernel) ⟨(Nat.le_of_ble_eq_true rfl), (Nat.le_of_ble_eq_true rfl)⟩ rfl hl.1 rfl (Nat.le_of_ble_eq_true rfl) dL_act_377 ⟨(Nat.le_of_ble_eq_true rfl), (Nat.le_of_ble_eq_true rfl)⟩) (fun r1 u H locs hp w => ?_)
  obtain ⟨E3, q4⟩ := u
  obtain ⟨-, rfl, h5⟩ := hp
  have h5 : q4 = ((up2 F (6 + r.toNatClampNeg) 0 (1 + (s_below (x >>> ((6 : Int32) &&& 31)) 4))), L, S, n) := h5
  subst h5
  refine lv_iconst (v := 4) X.1 X.2.1 dL_act_380 (by decide) ?_
  refine lv_icmp_gt (tgt := 388) X.1 X.2.1 dL_act_381 (by decide) (fun c6 => ?_) (fun c6 => ?_)
  ·
    refine lv_iconst (v := 0) X.1 X.2.1 dL_act_388 (by decide) ?_
    exact w_iret X hr hlk w (by  exact ⟨by simp only [eq_true c6, or_true, true_or, or_self, or_false, false_or, and_true, true_and, and_false, false_and, not_true, not_false_iff, if_true, if_false], rfl⟩) dL_act_389 rfl (Nat.le_of_ble_eq_true rfl) (Nat.le_of_ble_eq_true rfl)
  ·
    refine lv_iconst (v := 1) X.1 X.2.1 dL_act_384 (by decide) ?_
    refine lv_goto (tgt := 389) X.1 X.2.1 dL_act_385 (by decide) ?_
    exact w_iret X hr hlk w (by  exact ⟨by simp only [eq_false c6, or_true, true_or, or_self, or_false, false_or, and_true, true_and, and_false, false_and, not_true, not_false_iff, if_true, if_false], rfl⟩) dL_act_389 rfl (Nat.le_of_ble_eq_true rfl) (Nat.le_of_ble_eq_true rfl)

set_option maxHeartbeats 4000000 in
set_option maxRecDepth 100000 in
theorem ca_told10 (l : Launch) (D : va_G) (ca : Nat → ClassId) (ad : Nat → Nat) (E : Em) (F : Fm) (L : Lm) (S : Sm) (n : Nat) (hlt : l.stackTraces = false) (q : Nat → Nat) (hlf : Lf F L S n q) (x jb r pp : Int32) (hkd : s_below x 13 = 10) (h0 : er_told F L S r (1 + s_below (x >>> ((4 : Int32) &&& 31)) 150) (s_below (x >>> ((6 : Int32) &&& 31)) 25) = 0) (h3 : erI 3 r = 0) (q2 : Nat → Nat) (hlf2 : er_told F L S r (1 + s_below (x >>> ((4 : Int32) &&& 31)) 150) (s_below (x >>> ((6 : Int32) &&& 31)) 25) = 0 → Lf (s_slF F L S q (6 + r.toNatClampNeg) (1 + s_below (x >>> ((4 : Int32) &&& 31)) 150) (s_below (x >>> ((6 : Int32) &&& 31)) 25)) (s_slipL L q (6 + r.toNatClampNeg)) S n q2) (sz : Nat) : Met l yL_act (.codeWith yL_act cL_act 7 (some .boolean) hhA :: BG) { frames := 9, cells := 1, slots := 15, locals := 200 } (Pw D ca ad (E, F, L, S, n) sz [.ref (ad 0), .int x, .int jb, .int r, .int pp]) (Qi D ca ad n (fun v u => v = (s_told F L S q q2 (6 + r.toNatClampNeg) r (1 + s_below (x >>> ((4 : Int32) &&& 31)) 150) (s_below (x >>> ((6 : Int32) &&& 31)) 25)) ∧ u.2 = ((s_slF F L S q (6 + r.toNatClampNeg) (1 + s_below (x >>> ((4 : Int32) &&& 31)) 150) (s_below (x >>> ((6 : Int32) &&& 31)) 25)), (s_slipL L q (6 + r.toNatClampNeg)), S, n)) sz) 1 15 (wA ad n sz) := by
  refine open_A (σ := (E, F, L, S, n)) (Qc := Qi D ca ad n (fun v u => v = (s_told F L S q q2 (6 + r.toNatClampNeg) r (1 + s_below (x >>> ((4 : Int32) &&& 31)) 150) (s_below (x >>> ((6 : Int32) &&& 31)) 25)) ∧ u.2 = ((s_slF F L S q (6 + r.toNatClampNeg) (1 + s_below (x >>> ((4 : Int32) &&& 31)) 150) (s_below (x >>> ((6 : Int32) &&& 31)) 25)), (s_slipL L q (6 + r.toNatClampNeg)), S, n))) (by decide +kernel) (Nat.le_of_ble_eq_true rfl) ?_
  intro p e s m args below meth c X hr hlk htab w cn ls hl
  have hl : lv_has ls 7 [(0, .ref (ad 0)), (1, .int x), (2, .int jb), (3, .int r), (4, .int pp)] := hl
  have wf := hlf.1
  have hs := wf.2.2.1
  have hJ := wf.2.1.2
  refine lv_iload_n X.1 X.2.1 dL_act_0 rfl (lv_at hl 1 rfl) ?_
  refine lv_bipush (v := 13) X.1 X.2.1 dL_act_1 (by decide) ?_
  refine n_calli w (n_runS (n := 2) (As := [.int x, .int 13]) X (c_L_below l x 13 (by decide)) (bg_S kw_411 kw_412 kw_30 kw_413) rfl rfl (by decide +kernel) ⟨(Nat.le_of_ble_eq_true rfl), (Nat.le_of_ble_eq_true rfl)⟩ rfl hl.1 rfl (Nat.le_of_ble_eq_true rfl) dL_act_3 ⟨(Nat.le_of_ble_eq_true rfl), (Nat.le_of_ble_eq_true rfl)⟩) (fun H locs w => ?_)
  refine W.eq (g2 := F0 m 6 ls [.int 10]) (by rw [hkd]) ?_
  refine lv_tableIn (tgt := 390) X.1 X.2.1 dL_act_6 (by decide) (by decide) rfl (by decide) ?_
  refine lv_aload_n X.1 X.2.1 dL_act_390 rfl (lv_at hl 0 rfl) ?_
  refine lv_iload_n X.1 X.2.1 dL_act_391 rfl (lv_at hl 3 rfl) ?_
  refine lv_iconst (v := 1) X.1 X.2.1 dL_act_392 (by decide) ?_
  refine lv_iload_n X.1 X.2.1 dL_act_393 rfl (lv_at hl 1 rfl) ?_
  refine lv_iconst (v := 4) X.1 X.2.1 dL_act_394 (by decide) ?_
  refine lv_ishr X.1 X.2.1 dL_act_395 ?_
  refine lv_sipush (v := 150) X.1 X.2.1 dL_act_396 (by decide) ?_
  refine n_calli w (n_runS (n := 2) (As := [.int (x >>> ((4 : Int32) &&& 31)), .int 150]) X (c_L_below l (x >>> ((4 : Int32) &&& 31)) 150 (by decide)) (bg_S kw_411 kw_412 kw_30 kw_413) rfl rfl (by decide +kernel) ⟨(Nat.le_of_ble_eq_true rfl), (Nat.le_of_ble_eq_true rfl)⟩ rfl hl.1 rfl (Nat.le_of_ble_eq_true rfl) dL_act_399 ⟨(Nat.le_of_ble_eq_true rfl), (Nat.le_of_ble_eq_true rfl)⟩) (fun H locs w => ?_)
  refine lv_iadd X.1 X.2.1 dL_act_402 ?_
  refine lv_iload_n X.1 X.2.1 dL_act_403 rfl (lv_at hl 1 rfl) ?_
  refine lv_bipush (v := 6) X.1 X.2.1 dL_act_404 (by decide) ?_
  refine lv_ishr X.1 X.2.1 dL_act_406 ?_
  refine lv_bipush (v := 25) X.1 X.2.1 dL_act_407 (by decide) ?_
  refine n_calli w (n_runS (n := 2) (As := [.int (x >>> ((6 : Int32) &&& 31)), .int 25]) X (c_L_below l (x >>> ((6 : Int32) &&& 31)) 25 (by decide)) (bg_S kw_411 kw_412 kw_30 kw_413) rfl rfl (by decide +kernel) ⟨(Nat.le_of_ble_eq_true rfl), (Nat.le_of_ble_eq_true rfl)⟩ rfl hl.1 rfl (Nat.le_of_ble_eq_true rfl) dL_act_409 ⟨(Nat.le_of_ble_eq_true rfl), (Nat.le_of_ble_eq_true rfl)⟩) (fun H locs w => ?_)
  have h2 : (er_told F L S r (1 + (s_below (x >>> ((4 : Int32) &&& 31)) 150)) (s_below (x >>> ((6 : Int32) &&& 31)) 25)) = 0 := h0
  refine w_calli cn w (w_runS (n := 4) (As := [.ref (ad 0), .int r, .int (1 + (s_below (x >>> ((4 : Int32) &&& 31)) 150)), .int (s_below (x >>> ((6 : Int32) &&& 31)) 25)]) X cn w (fun sz => met_of (c_L_isTold l D ca ad E F L S n hlt q hlf q2 r (1 + (s_below (x >>> ((4 : Int32) &&& 31)) 150)) (s_below (x >>> ((6 : Int32) &&& 31)) 25) h3 hlf2 0 0 (fun h => (h h2).elim) sz) h2) (bg_S kw_598 kw_599 kw_30 kw_600) rfl rfl (by decide +kernel) ⟨(Nat.le_of_ble_eq_true rfl), (Nat.le_of_ble_eq_true rfl)⟩ rfl hl.1 rfl (Nat.le_of_ble_eq_true rfl) dL_act_412 ⟨(Nat.le_of_ble_eq_true rfl), (Nat.le_of_ble_eq_true rfl)⟩) (fun r1 u H locs hp w => ?_)
  obtain ⟨E3, q4⟩ := u
  obtain ⟨-, rfl, h5⟩ := hp
  have h5 : q4 = ((s_slF F L S q (6 + r.toNatClampNeg) (1 + s_below (x >>> ((4 : Int32) &&& 31)) 150) (s_below (x >>> ((6 : Int32) &&& 31)) 25)), (s_slipL L q (6 + r.toNatClampNeg)), S, n) := h5
  subst h5
  exact w_iret X hr hlk w (by  exact ⟨rfl, rfl⟩) dL_act_415 (told_nar _ _ _ _ _ _ _ _ _) (Nat.le_of_ble_eq_true rfl) (Nat.le_of_ble_eq_true rfl)

set_option maxHeartbeats 4000000 in
set_option maxRecDepth 100000 in
theorem ca_told10_x1 (l : Launch) (D : va_G) (ca : Nat → ClassId) (ad : Nat → Nat) (E : Em) (F : Fm) (L : Lm) (S : Sm) (n : Nat) (hlt : l.stackTraces = false) (q : Nat → Nat) (hlf : Lf F L S n q) (x jb r pp : Int32) (hkd : s_below x 13 = 10) (hx : er_told F L S r (1 + s_below (x >>> ((4 : Int32) &&& 31)) 150) (s_below (x >>> ((6 : Int32) &&& 31)) 25) = 1) (h3 : erI 3 r = 0) (q2 : Nat → Nat) (hlf2 : er_told F L S r (1 + s_below (x >>> ((4 : Int32) &&& 31)) 150) (s_below (x >>> ((6 : Int32) &&& 31)) 25) = 0 → Lf (s_slF F L S q (6 + r.toNatClampNeg) (1 + s_below (x >>> ((4 : Int32) &&& 31)) 150) (s_below (x >>> ((6 : Int32) &&& 31)) 25)) (s_slipL L q (6 + r.toNatClampNeg)) S n q2) (sz : Nat) : Met l yL_act (.codeWith yL_act cL_act 7 (some .boolean) hhA :: BG) { frames := 9, cells := 1, slots := 15, locals := 200 } (Pw D ca ad (E, F, L, S, n) sz [.ref (ad 0), .int x, .int jb, .int r, .int pp]) (Qi D ca ad n (fun v u => v = (if s_many F n 0 = 0 then 1 else if s_below x 13 = 10 then 1 else if s_below x 13 = 11 then 1 else 0) ∧ u.2 = (F, L, S, n)) sz) 1 15 (wA ad n sz) := by
  refine open_A (σ := (E, F, L, S, n)) (Qc := Qi D ca ad n (fun v u => v = (if s_many F n 0 = 0 then 1 else if s_below x 13 = 10 then 1 else if s_below x 13 = 11 then 1 else 0) ∧ u.2 = (F, L, S, n))) (by decide +kernel) (Nat.le_of_ble_eq_true rfl) ?_
  intro p e s m args below meth c X hr hlk htab w cn ls hl
  have hl : lv_has ls 7 [(0, .ref (ad 0)), (1, .int x), (2, .int jb), (3, .int r), (4, .int pp)] := hl
  have wf := hlf.1
  have hs := wf.2.2.1
  have hJ := wf.2.1.2
  refine lv_iload_n X.1 X.2.1 dL_act_0 rfl (lv_at hl 1 rfl) ?_
  refine lv_bipush (v := 13) X.1 X.2.1 dL_act_1 (by decide) ?_
  refine n_calli w (n_runS (n := 2) (As := [.int x, .int 13]) X (c_L_below l x 13 (by decide)) (bg_S kw_411 kw_412 kw_30 kw_413) rfl rfl (by decide +kernel) ⟨(Nat.le_of_ble_eq_true rfl), (Nat.le_of_ble_eq_true rfl)⟩ rfl hl.1 rfl (Nat.le_of_ble_eq_true rfl) dL_act_3 ⟨(Nat.le_of_ble_eq_true rfl), (Nat.le_of_ble_eq_true rfl)⟩) (fun H locs w => ?_)
  refine W.eq (g2 := F0 m 6 ls [.int 10]) (by rw [hkd]) ?_
  refine lv_tableIn (tgt := 390) X.1 X.2.1 dL_act_6 (by decide) (by decide) rfl (by decide) ?_
  refine lv_aload_n X.1 X.2.1 dL_act_390 rfl (lv_at hl 0 rfl) ?_
  refine lv_iload_n X.1 X.2.1 dL_act_391 rfl (lv_at hl 3 rfl) ?_
  refine lv_iconst (v := 1) X.1 X.2.1 dL_act_392 (by decide) ?_
  refine lv_iload_n X.1 X.2.1 dL_act_393 rfl (lv_at hl 1 rfl) ?_
  refine lv_iconst (v := 4) X.1 X.2.1 dL_act_394 (by decide) ?_
  refine lv_ishr X.1 X.2.1 dL_act_395 ?_
  refine lv_sipush (v := 150) X.1 X.2.1 dL_act_396 (by decide) ?_
  refine n_calli w (n_runS (n := 2) (As := [.int (x >>> ((4 : Int32) &&& 31)), .int 150]) X (c_L_below l (x >>> ((4 : Int32) &&& 31)) 150 (by decide)) (bg_S kw_411 kw_412 kw_30 kw_413) rfl rfl (by decide +kernel) ⟨(Nat.le_of_ble_eq_true rfl), (Nat.le_of_ble_eq_true rfl)⟩ rfl hl.1 rfl (Nat.le_of_ble_eq_true rfl) dL_act_399 ⟨(Nat.le_of_ble_eq_true rfl), (Nat.le_of_ble_eq_true rfl)⟩) (fun H locs w => ?_)
  refine lv_iadd X.1 X.2.1 dL_act_402 ?_
  refine lv_iload_n X.1 X.2.1 dL_act_403 rfl (lv_at hl 1 rfl) ?_
  refine lv_bipush (v := 6) X.1 X.2.1 dL_act_404 (by decide) ?_
  refine lv_ishr X.1 X.2.1 dL_act_406 ?_
  refine lv_bipush (v := 25) X.1 X.2.1 dL_act_407 (by decide) ?_
  refine n_calli w (n_runS (n := 2) (As := [.int (x >>> ((6 : Int32) &&& 31)), .int 25]) X (c_L_below l (x >>> ((6 : Int32) &&& 31)) 25 (by decide)) (bg_S kw_411 kw_412 kw_30 kw_413) rfl rfl (by decide +kernel) ⟨(Nat.le_of_ble_eq_true rfl), (Nat.le_of_ble_eq_true rfl)⟩ rfl hl.1 rfl (Nat.le_of_ble_eq_true rfl) dL_act_409 ⟨(Nat.le_of_ble_eq_true rfl), (Nat.le_of_ble_eq_true rfl)⟩) (fun H locs w => ?_)
  have h2 : (er_told F L S r (1 + (s_below (x >>> ((4 : Int32) &&& 31)) 150)) (s_below (x >>> ((6 : Int32) &&& 31)) 25)) = 1 := hx
  refine x_caught X cn w (xw_runS (n := 4) (As := [.ref (ad 0), .int r, .int (1 + (s_below (x >>> ((4 : Int32) &&& 31)) 150)), .int (s_below (x >>> ((6 : Int32) &&& 31)) 25)]) X cn w (fun sz => c_L_isTold l D ca ad E F L S n hlt q hlf q2 r (1 + (s_below (x >>> ((4 : Int32) &&& 31)) 150)) (s_below (x >>> ((6 : Int32) &&& 31)) 25) h3 hlf2 1 6 (fun _ => ⟨Nat.le_refl 1, Nat.le_refl 6⟩) sz) (bg_S kw_598 kw_599 kw_30 kw_600) rfl rfl (by decide +kernel) ⟨(Nat.le_of_ble_eq_true rfl), (Nat.le_of_ble_eq_true rfl)⟩ rfl hl.1 rfl (Nat.le_of_ble_eq_true rfl) dL_act_412 ⟨(Nat.le_of_ble_eq_true rfl), (Nat.le_of_ble_eq_true rfl)⟩) (fun st v t hq => by obtain ⟨⟨r, u, -, hp, -⟩, -⟩ := hq; first | exact hp.elim | (have h9 := hp.1; omega)) eIO eIO (by rw [h2]; rfl) (ATB.take 8) ⟨390, 415, 514, 102⟩ (ATB.drop 9) (htab.trans (by decide +kernel)) (x_passA (by decide +kernel)) (by decide +kernel) (by decide) (X.2.2.2.2 _ kw_422) (cn.2.1.use kw_284) (fun q9 u H locs hu w => ?_)
  obtain ⟨E3, q4⟩ := u
  have hu : q4 = (F, L, S, n) := hu
  subst hu
  refine lv_astore (lv' := [(5, .ref q9), (0, .ref (ad 0)), (1, .int x), (2, .int jb), (3, .int r), (4, .int pp)]) X.1 X.2.1 dL_act_514 hl (by decide) rfl (fun ls hl => ?_)
  refine lv_aload_n X.1 X.2.1 dL_act_516 rfl (lv_at hl 1 rfl) ?_
  refine lv_iconst (v := 0) X.1 X.2.1 dL_act_517 (by decide) ?_
  have h6 : (erW 10 0) = 0 := (by decide)
  refine w_calli cn w (w_runV (n := 1) (As := [.int 0]) X cn w (lt17 (by decide)) wC_0 rfl (fun sz => met_of (c_X4_many l D ca ad E3 F L S n hlt q wf 0 0 0 (fun h => (h h6).elim) sz) h6) (bg_V kw_179 kw_180 kw_181 kw_31 kw_182) rfl rfl (by decide +kernel) ⟨(Nat.le_of_ble_eq_true rfl), (Nat.le_of_ble_eq_true rfl)⟩ rfl hl.1 rfl (Nat.le_of_ble_eq_true rfl) dL_act_518 ⟨(Nat.le_of_ble_eq_true rfl), (Nat.le_of_ble_eq_true rfl)⟩) (fun r5 u H locs hp w => ?_)
  obtain ⟨E7, q8⟩ := u
  obtain ⟨-, rfl, h9⟩ := hp
  have h9 : q8 = (F, L, S, n) := h9
  subst h9
  refine lv_if_eq (tgt := 546) X.1 X.2.1 dL_act_521 (by decide) (fun c10 => ?_) (fun c10 => ?_)
  ·
    refine lv_iconst (v := 1) X.1 X.2.1 dL_act_546 (by decide) ?_
    refine lv_goto (tgt := 551) X.1 X.2.1 dL_act_547 (by decide) ?_
    exact w_iret X hr hlk w (by  exact ⟨by simp only [eq_true c10, or_true, true_or, or_self, or_false, false_or, and_true, true_and, and_false, false_and, not_true, not_false_iff, if_true, if_false], rfl⟩) dL_act_551 rfl (Nat.le_of_ble_eq_true rfl) (Nat.le_of_ble_eq_true rfl)
  ·
    refine lv_iload_n X.1 X.2.1 dL_act_524 rfl (lv_at hl 2 rfl) ?_
    refine lv_bipush (v := 13) X.1 X.2.1 dL_act_525 (by decide) ?_
    refine n_calli w (n_runS (n := 2) (As := [.int x, .int 13]) X (c_L_below l x 13 (by decide)) (bg_S kw_411 kw_412 kw_30 kw_413) rfl rfl (by decide +kernel) ⟨(Nat.le_of_ble_eq_true rfl), (Nat.le_of_ble_eq_true rfl)⟩ rfl hl.1 rfl (Nat.le_of_ble_eq_true rfl) dL_act_527 ⟨(Nat.le_of_ble_eq_true rfl), (Nat.le_of_ble_eq_true rfl)⟩) (fun H locs w => ?_)
    refine lv_bipush (v := 10) X.1 X.2.1 dL_act_530 (by decide) ?_
    refine lv_icmp_eq (tgt := 546) X.1 X.2.1 dL_act_532 (by decide) (fun c11 => ?_) (fun c11 => ?_)
    ·
      refine lv_iconst (v := 1) X.1 X.2.1 dL_act_546 (by decide) ?_
      refine lv_goto (tgt := 551) X.1 X.2.1 dL_act_547 (by decide) ?_
      exact w_iret X hr hlk w (by  exact ⟨by simp only [eq_false c10, eq_true c11, or_true, true_or, or_self, or_false, false_or, and_true, true_and, and_false, false_and, not_true, not_false_iff, if_true, if_false], rfl⟩) dL_act_551 rfl (Nat.le_of_ble_eq_true rfl) (Nat.le_of_ble_eq_true rfl)
    ·
      refine lv_iload_n X.1 X.2.1 dL_act_535 rfl (lv_at hl 2 rfl) ?_
      refine lv_bipush (v := 13) X.1 X.2.1 dL_act_536 (by decide) ?_
      refine n_calli w (n_runS (n := 2) (As := [.int x, .int 13]) X (c_L_below l x 13 (by decide)) (bg_S kw_411 kw_412 kw_30 kw_413) rfl rfl (by decide +kernel) ⟨(Nat.le_of_ble_eq_true rfl), (Nat.le_of_ble_eq_true rfl)⟩ rfl hl.1 rfl (Nat.le_of_ble_eq_true rfl) dL_act_538 ⟨(Nat.le_of_ble_eq_true rfl), (Nat.le_of_ble_eq_true rfl)⟩) (fun H locs w => ?_)
      refine lv_bipush (v := 11) X.1 X.2.1 dL_act_541 (by decide) ?_
      refine lv_icmp_ne (tgt := 550) X.1 X.2.1 dL_act_543 (by decide) (fun c12 => ?_) (fun c12 => ?_)
      ·
        refine lv_iconst (v := 0) X.1 X.2.1 dL_act_550 (by decide) ?_
        exact w_iret X hr hlk w (by  exact ⟨by simp only [eq_false c10, eq_false c11, eq_false c12, or_true, true_or, or_self, or_false, false_or, and_true, true_and, and_false, false_and, not_true, not_false_iff, if_true, if_false], rfl⟩) dL_act_551 rfl (Nat.le_of_ble_eq_true rfl) (Nat.le_of_ble_eq_true rfl)
      ·
        refine lv_iconst (v := 1) X.1 X.2.1 dL_act_546 (by decide) ?_
        refine lv_goto (tgt := 551) X.1 X.2.1 dL_act_547 (by decide) ?_
        exact w_iret X hr hlk w (by  exact ⟨by simp only [eq_false c10, eq_false c11, eq_true c12, or_true, true_or, or_self, or_false, false_or, and_true, true_and, and_false, false_and, not_true, not_false_iff, if_true, if_false], rfl⟩) dL_act_551 rfl (Nat.le_of_ble_eq_true rfl) (Nat.le_of_ble_eq_true rfl)

set_option maxHeartbeats 4000000 in
set_option maxRecDepth 100000 in
theorem ca_told10_x3 (l : Launch) (D : va_G) (ca : Nat → ClassId) (ad : Nat → Nat) (E : Em) (F : Fm) (L : Lm) (S : Sm) (n : Nat) (hlt : l.stackTraces = false) (q : Nat → Nat) (hlf : Lf F L S n q) (x jb r pp : Int32) (hkd : s_below x 13 = 10) (hx : er_told F L S r (1 + s_below (x >>> ((4 : Int32) &&& 31)) 150) (s_below (x >>> ((6 : Int32) &&& 31)) 25) = 3) (h3 : erI 3 r = 0) (q2 : Nat → Nat) (hlf2 : er_told F L S r (1 + s_below (x >>> ((4 : Int32) &&& 31)) 150) (s_below (x >>> ((6 : Int32) &&& 31)) 25) = 0 → Lf (s_slF F L S q (6 + r.toNatClampNeg) (1 + s_below (x >>> ((4 : Int32) &&& 31)) 150) (s_below (x >>> ((6 : Int32) &&& 31)) 25)) (s_slipL L q (6 + r.toNatClampNeg)) S n q2) (sz : Nat) : Met l yL_act (.codeWith yL_act cL_act 7 (some .boolean) hhA :: BG) { frames := 9, cells := 1, slots := 15, locals := 200 } (Pw D ca ad (E, F, L, S, n) sz [.ref (ad 0), .int x, .int jb, .int r, .int pp]) (Qi D ca ad n (fun v u => v = (if s_below x 13 < 4 then 1 else if s_below x 13 ≤ 5 then 0 else if 12 ≤ s_below x 13 then 0 else 1) ∧ u.2 = (F, L, S, n)) sz) 1 15 (wA ad n sz) := by
  refine open_A (σ := (E, F, L, S, n)) (Qc := Qi D ca ad n (fun v u => v = (if s_below x 13 < 4 then 1 else if s_below x 13 ≤ 5 then 0 else if 12 ≤ s_below x 13 then 0 else 1) ∧ u.2 = (F, L, S, n))) (by decide +kernel) (Nat.le_of_ble_eq_true rfl) ?_
  intro p e s m args below meth c X hr hlk htab w cn ls hl
  have hl : lv_has ls 7 [(0, .ref (ad 0)), (1, .int x), (2, .int jb), (3, .int r), (4, .int pp)] := hl
  have wf := hlf.1
  have hs := wf.2.2.1
  have hJ := wf.2.1.2
  refine lv_iload_n X.1 X.2.1 dL_act_0 rfl (lv_at hl 1 rfl) ?_
  refine lv_bipush (v := 13) X.1 X.2.1 dL_act_1 (by decide) ?_
  refine n_calli w (n_runS (n := 2) (As := [.int x, .int 13]) X (c_L_below l x 13 (by decide)) (bg_S kw_411 kw_412 kw_30 kw_413) rfl rfl (by decide +kernel) ⟨(Nat.le_of_ble_eq_true rfl), (Nat.le_of_ble_eq_true rfl)⟩ rfl hl.1 rfl (Nat.le_of_ble_eq_true rfl) dL_act_3 ⟨(Nat.le_of_ble_eq_true rfl), (Nat.le_of_ble_eq_true rfl)⟩) (fun H locs w => ?_)
  refine W.eq (g2 := F0 m 6 ls [.int 10]) (by rw [hkd]) ?_
  refine lv_tableIn (tgt := 390) X.1 X.2.1 dL_act_6 (by decide) (by decide) rfl (by decide) ?_
  refine lv_aload_n X.1 X.2.1 dL_act_390 rfl (lv_at hl 0 rfl) ?_
  refine lv_iload_n X.1 X.2.1 dL_act_391 rfl (lv_at hl 3 rfl) ?_
  refine lv_iconst (v := 1) X.1 X.2.1 dL_act_392 (by decide) ?_
  refine lv_iload_n X.1 X.2.1 dL_act_393 rfl (lv_at hl 1 rfl) ?_
  refine lv_iconst (v := 4) X.1 X.2.1 dL_act_394 (by decide) ?_
  refine lv_ishr X.1 X.2.1 dL_act_395 ?_
  refine lv_sipush (v := 150) X.1 X.2.1 dL_act_396 (by decide) ?_
  refine n_calli w (n_runS (n := 2) (As := [.int (x >>> ((4 : Int32) &&& 31)), .int 150]) X (c_L_below l (x >>> ((4 : Int32) &&& 31)) 150 (by decide)) (bg_S kw_411 kw_412 kw_30 kw_413) rfl rfl (by decide +kernel) ⟨(Nat.le_of_ble_eq_true rfl), (Nat.le_of_ble_eq_true rfl)⟩ rfl hl.1 rfl (Nat.le_of_ble_eq_true rfl) dL_act_399 ⟨(Nat.le_of_ble_eq_true rfl), (Nat.le_of_ble_eq_true rfl)⟩) (fun H locs w => ?_)
  refine lv_iadd X.1 X.2.1 dL_act_402 ?_
  refine lv_iload_n X.1 X.2.1 dL_act_403 rfl (lv_at hl 1 rfl) ?_
  refine lv_bipush (v := 6) X.1 X.2.1 dL_act_404 (by decide) ?_
  refine lv_ishr X.1 X.2.1 dL_act_406 ?_
  refine lv_bipush (v := 25) X.1 X.2.1 dL_act_407 (by decide) ?_
  refine n_calli w (n_runS (n := 2) (As := [.int (x >>> ((6 : Int32) &&& 31)), .int 25]) X (c_L_below l (x >>> ((6 : Int32) &&& 31)) 25 (by decide)) (bg_S kw_411 kw_412 kw_30 kw_413) rfl rfl (by decide +kernel) ⟨(Nat.le_of_ble_eq_true rfl), (Nat.le_of_ble_eq_true rfl)⟩ rfl hl.1 rfl (Nat.le_of_ble_eq_true rfl) dL_act_409 ⟨(Nat.le_of_ble_eq_true rfl), (Nat.le_of_ble_eq_true rfl)⟩) (fun H locs w => ?_)
  have h2 : (er_told F L S r (1 + (s_below (x >>> ((4 : Int32) &&& 31)) 150)) (s_below (x >>> ((6 : Int32) &&& 31)) 25)) = 3 := hx
  refine x_caught X cn w (xw_runS (n := 4) (As := [.ref (ad 0), .int r, .int (1 + (s_below (x >>> ((4 : Int32) &&& 31)) 150)), .int (s_below (x >>> ((6 : Int32) &&& 31)) 25)]) X cn w (fun sz => c_L_isTold l D ca ad E F L S n hlt q hlf q2 r (1 + (s_below (x >>> ((4 : Int32) &&& 31)) 150)) (s_below (x >>> ((6 : Int32) &&& 31)) 25) h3 hlf2 1 6 (fun _ => ⟨Nat.le_refl 1, Nat.le_refl 6⟩) sz) (bg_S kw_598 kw_599 kw_30 kw_600) rfl rfl (by decide +kernel) ⟨(Nat.le_of_ble_eq_true rfl), (Nat.le_of_ble_eq_true rfl)⟩ rfl hl.1 rfl (Nat.le_of_ble_eq_true rfl) dL_act_412 ⟨(Nat.le_of_ble_eq_true rfl), (Nat.le_of_ble_eq_true rfl)⟩) (fun st v t hq => by obtain ⟨⟨r, u, -, hp, -⟩, -⟩ := hq; first | exact hp.elim | (have h9 := hp.1; omega)) eIS eIS (by rw [h2]; rfl) (ATB.take 30) ⟨390, 415, 570, 106⟩ (ATB.drop 31) (htab.trans (by decide +kernel)) (x_passC (by decide +kernel) (X.2.2.2.2 _ kw_422) (cn.2.1.2.2.1 (eIS, eIO) (by decide)) (X.2.2.2.2 _ kw_423) (cn.2.1.2.2.1 (eIS, eIA) (by decide))) (by decide +kernel) (by decide) (X.2.2.2.2 _ kw_424) (cn.2.1.use kw_445) (fun q9 u H locs hu w => ?_)
  obtain ⟨E3, q4⟩ := u
  have hu : q4 = (F, L, S, n) := hu
  subst hu
  refine lv_astore (lv' := [(5, .ref q9), (0, .ref (ad 0)), (1, .int x), (2, .int jb), (3, .int r), (4, .int pp)]) X.1 X.2.1 dL_act_570 hl (by decide) rfl (fun ls hl => ?_)
  refine lv_iload_n X.1 X.2.1 dL_act_572 rfl (lv_at hl 2 rfl) ?_
  refine lv_bipush (v := 13) X.1 X.2.1 dL_act_573 (by decide) ?_
  refine n_calli w (n_runS (n := 2) (As := [.int x, .int 13]) X (c_L_below l x 13 (by decide)) (bg_S kw_411 kw_412 kw_30 kw_413) rfl rfl (by decide +kernel) ⟨(Nat.le_of_ble_eq_true rfl), (Nat.le_of_ble_eq_true rfl)⟩ rfl hl.1 rfl (Nat.le_of_ble_eq_true rfl) dL_act_575 ⟨(Nat.le_of_ble_eq_true rfl), (Nat.le_of_ble_eq_true rfl)⟩) (fun H locs w => ?_)
  refine lv_iconst (v := 4) X.1 X.2.1 dL_act_578 (by decide) ?_
  refine lv_icmp_lt (tgt := 603) X.1 X.2.1 dL_act_579 (by decide) (fun c5 => ?_) (fun c5 => ?_)
  ·
    refine lv_iconst (v := 1) X.1 X.2.1 dL_act_603 (by decide) ?_
    refine lv_goto (tgt := 608) X.1 X.2.1 dL_act_604 (by decide) ?_
    exact w_iret X hr hlk w (by  exact ⟨by simp only [eq_true c5, or_true, true_or, or_self, or_false, false_or, and_true, true_and, and_false, false_and, not_true, not_false_iff, if_true, if_false], rfl⟩) dL_act_608 rfl (Nat.le_of_ble_eq_true rfl) (Nat.le_of_ble_eq_true rfl)
  ·
    refine lv_iload_n X.1 X.2.1 dL_act_582 rfl (lv_at hl 2 rfl) ?_
    refine lv_bipush (v := 13) X.1 X.2.1 dL_act_583 (by decide) ?_
    refine n_calli w (n_runS (n := 2) (As := [.int x, .int 13]) X (c_L_below l x 13 (by decide)) (bg_S kw_411 kw_412 kw_30 kw_413) rfl rfl (by decide +kernel) ⟨(Nat.le_of_ble_eq_true rfl), (Nat.le_of_ble_eq_true rfl)⟩ rfl hl.1 rfl (Nat.le_of_ble_eq_true rfl) dL_act_585 ⟨(Nat.le_of_ble_eq_true rfl), (Nat.le_of_ble_eq_true rfl)⟩) (fun H locs w => ?_)
    refine lv_iconst (v := 5) X.1 X.2.1 dL_act_588 (by decide) ?_
    refine lv_icmp_le (tgt := 607) X.1 X.2.1 dL_act_589 (by decide) (fun c6 => ?_) (fun c6 => ?_)
    ·
      refine lv_iconst (v := 0) X.1 X.2.1 dL_act_607 (by decide) ?_
      exact w_iret X hr hlk w (by  exact ⟨by simp only [eq_false c5, eq_true c6, or_true, true_or, or_self, or_false, false_or, and_true, true_and, and_false, false_and, not_true, not_false_iff, if_true, if_false], rfl⟩) dL_act_608 rfl (Nat.le_of_ble_eq_true rfl) (Nat.le_of_ble_eq_true rfl)
    ·
      refine lv_iload_n X.1 X.2.1 dL_act_592 rfl (lv_at hl 2 rfl) ?_
      refine lv_bipush (v := 13) X.1 X.2.1 dL_act_593 (by decide) ?_
      refine n_calli w (n_runS (n := 2) (As := [.int x, .int 13]) X (c_L_below l x 13 (by decide)) (bg_S kw_411 kw_412 kw_30 kw_413) rfl rfl (by decide +kernel) ⟨(Nat.le_of_ble_eq_true rfl), (Nat.le_of_ble_eq_true rfl)⟩ rfl hl.1 rfl (Nat.le_of_ble_eq_true rfl) dL_act_595 ⟨(Nat.le_of_ble_eq_true rfl), (Nat.le_of_ble_eq_true rfl)⟩) (fun H locs w => ?_)
      refine lv_bipush (v := 12) X.1 X.2.1 dL_act_598 (by decide) ?_
      refine lv_icmp_ge (tgt := 607) X.1 X.2.1 dL_act_600 (by decide) (fun c7 => ?_) (fun c7 => ?_)
      ·
        refine lv_iconst (v := 0) X.1 X.2.1 dL_act_607 (by decide) ?_
        exact w_iret X hr hlk w (by  exact ⟨by simp only [eq_false c5, eq_false c6, eq_true c7, or_true, true_or, or_self, or_false, false_or, and_true, true_and, and_false, false_and, not_true, not_false_iff, if_true, if_false], rfl⟩) dL_act_608 rfl (Nat.le_of_ble_eq_true rfl) (Nat.le_of_ble_eq_true rfl)
      ·
        refine lv_iconst (v := 1) X.1 X.2.1 dL_act_603 (by decide) ?_
        refine lv_goto (tgt := 608) X.1 X.2.1 dL_act_604 (by decide) ?_
        exact w_iret X hr hlk w (by  exact ⟨by simp only [eq_false c5, eq_false c6, eq_false c7, or_true, true_or, or_self, or_false, false_or, and_true, true_and, and_false, false_and, not_true, not_false_iff, if_true, if_false], rfl⟩) dL_act_608 rfl (Nat.le_of_ble_eq_true rfl) (Nat.le_of_ble_eq_true rfl)

set_option maxHeartbeats 4000000 in
set_option maxRecDepth 100000 in
theorem ca_told11 (l : Launch) (D : va_G) (ca : Nat → ClassId) (ad : Nat → Nat) (E : Em) (F : Fm) (L : Lm) (S : Sm) (n : Nat) (hlt : l.stackTraces = false) (q : Nat → Nat) (hlf : Lf F L S n q) (x jb r pp : Int32) (hkd : s_below x 13 = 11) (h0 : er_told F L S r (1 + s_below (x >>> ((4 : Int32) &&& 31)) 150) (s_below (x >>> ((6 : Int32) &&& 31)) 25) = 0) (h3 : erI 3 r = 0) (q2 : Nat → Nat) (hlf2 : er_told F L S r (1 + s_below (x >>> ((4 : Int32) &&& 31)) 150) (s_below (x >>> ((6 : Int32) &&& 31)) 25) = 0 → Lf (s_slF F L S q (6 + r.toNatClampNeg) (1 + s_below (x >>> ((4 : Int32) &&& 31)) 150) (s_below (x >>> ((6 : Int32) &&& 31)) 25)) (s_slipL L q (6 + r.toNatClampNeg)) S n q2) (sz : Nat) : Met l yL_act (.codeWith yL_act cL_act 7 (some .boolean) hhA :: BG) { frames := 9, cells := 1, slots := 15, locals := 200 } (Pw D ca ad (E, F, L, S, n) sz [.ref (ad 0), .int x, .int jb, .int r, .int pp]) (Qi D ca ad n (fun v u => v = (s_told F L S q q2 (6 + r.toNatClampNeg) r (1 + s_below (x >>> ((4 : Int32) &&& 31)) 150) (s_below (x >>> ((6 : Int32) &&& 31)) 25)) ∧ u.2 = ((s_slF F L S q (6 + r.toNatClampNeg) (1 + s_below (x >>> ((4 : Int32) &&& 31)) 150) (s_below (x >>> ((6 : Int32) &&& 31)) 25)), (s_slipL L q (6 + r.toNatClampNeg)), S, n)) sz) 1 15 (wA ad n sz) := by
  refine open_A (σ := (E, F, L, S, n)) (Qc := Qi D ca ad n (fun v u => v = (s_told F L S q q2 (6 + r.toNatClampNeg) r (1 + s_below (x >>> ((4 : Int32) &&& 31)) 150) (s_below (x >>> ((6 : Int32) &&& 31)) 25)) ∧ u.2 = ((s_slF F L S q (6 + r.toNatClampNeg) (1 + s_below (x >>> ((4 : Int32) &&& 31)) 150) (s_below (x >>> ((6 : Int32) &&& 31)) 25)), (s_slipL L q (6 + r.toNatClampNeg)), S, n))) (by decide +kernel) (Nat.le_of_ble_eq_true rfl) ?_
  intro p e s m args below meth c X hr hlk htab w cn ls hl
  have hl : lv_has ls 7 [(0, .ref (ad 0)), (1, .int x), (2, .int jb), (3, .int r), (4, .int pp)] := hl
  have wf := hlf.1
  have hs := wf.2.2.1
  have hJ := wf.2.1.2
  refine lv_iload_n X.1 X.2.1 dL_act_0 rfl (lv_at hl 1 rfl) ?_
  refine lv_bipush (v := 13) X.1 X.2.1 dL_act_1 (by decide) ?_
  refine n_calli w (n_runS (n := 2) (As := [.int x, .int 13]) X (c_L_below l x 13 (by decide)) (bg_S kw_411 kw_412 kw_30 kw_413) rfl rfl (by decide +kernel) ⟨(Nat.le_of_ble_eq_true rfl), (Nat.le_of_ble_eq_true rfl)⟩ rfl hl.1 rfl (Nat.le_of_ble_eq_true rfl) dL_act_3 ⟨(Nat.le_of_ble_eq_true rfl), (Nat.le_of_ble_eq_true rfl)⟩) (fun H locs w => ?_)
  refine W.eq (g2 := F0 m 6 ls [.int 11]) (by rw [hkd]) ?_
  refine lv_tableIn (tgt := 390) X.1 X.2.1 dL_act_6 (by decide) (by decide) rfl (by decide) ?_
  refine lv_aload_n X.1 X.2.1 dL_act_390 rfl (lv_at hl 0 rfl) ?_
  refine lv_iload_n X.1 X.2.1 dL_act_391 rfl (lv_at hl 3 rfl) ?_
  refine lv_iconst (v := 1) X.1 X.2.1 dL_act_392 (by decide) ?_
  refine lv_iload_n X.1 X.2.1 dL_act_393 rfl (lv_at hl 1 rfl) ?_
  refine lv_iconst (v := 4) X.1 X.2.1 dL_act_394 (by decide) ?_
  refine lv_ishr X.1 X.2.1 dL_act_395 ?_
  refine lv_sipush (v := 150) X.1 X.2.1 dL_act_396 (by decide) ?_
  refine n_calli w (n_runS (n := 2) (As := [.int (x >>> ((4 : Int32) &&& 31)), .int 150]) X (c_L_below l (x >>> ((4 : Int32) &&& 31)) 150 (by decide)) (bg_S kw_411 kw_412 kw_30 kw_413) rfl rfl (by decide +kernel) ⟨(Nat.le_of_ble_eq_true rfl), (Nat.le_of_ble_eq_true rfl)⟩ rfl hl.1 rfl (Nat.le_of_ble_eq_true rfl) dL_act_399 ⟨(Nat.le_of_ble_eq_true rfl), (Nat.le_of_ble_eq_true rfl)⟩) (fun H locs w => ?_)
  refine lv_iadd X.1 X.2.1 dL_act_402 ?_
  refine lv_iload_n X.1 X.2.1 dL_act_403 rfl (lv_at hl 1 rfl) ?_
  refine lv_bipush (v := 6) X.1 X.2.1 dL_act_404 (by decide) ?_
  refine lv_ishr X.1 X.2.1 dL_act_406 ?_
  refine lv_bipush (v := 25) X.1 X.2.1 dL_act_407 (by decide) ?_
  refine n_calli w (n_runS (n := 2) (As := [.int (x >>> ((6 : Int32) &&& 31)), .int 25]) X (c_L_below l (x >>> ((6 : Int32) &&& 31)) 25 (by decide)) (bg_S kw_411 kw_412 kw_30 kw_413) rfl rfl (by decide +kernel) ⟨(Nat.le_of_ble_eq_true rfl), (Nat.le_of_ble_eq_true rfl)⟩ rfl hl.1 rfl (Nat.le_of_ble_eq_true rfl) dL_act_409 ⟨(Nat.le_of_ble_eq_true rfl), (Nat.le_of_ble_eq_true rfl)⟩) (fun H locs w => ?_)
  have h2 : (er_told F L S r (1 + (s_below (x >>> ((4 : Int32) &&& 31)) 150)) (s_below (x >>> ((6 : Int32) &&& 31)) 25)) = 0 := h0
  refine w_calli cn w (w_runS (n := 4) (As := [.ref (ad 0), .int r, .int (1 + (s_below (x >>> ((4 : Int32) &&& 31)) 150)), .int (s_below (x >>> ((6 : Int32) &&& 31)) 25)]) X cn w (fun sz => met_of (c_L_isTold l D ca ad E F L S n hlt q hlf q2 r (1 + (s_below (x >>> ((4 : Int32) &&& 31)) 150)) (s_below (x >>> ((6 : Int32) &&& 31)) 25) h3 hlf2 0 0 (fun h => (h h2).elim) sz) h2) (bg_S kw_598 kw_599 kw_30 kw_600) rfl rfl (by decide +kernel) ⟨(Nat.le_of_ble_eq_true rfl), (Nat.le_of_ble_eq_true rfl)⟩ rfl hl.1 rfl (Nat.le_of_ble_eq_true rfl) dL_act_412 ⟨(Nat.le_of_ble_eq_true rfl), (Nat.le_of_ble_eq_true rfl)⟩) (fun r1 u H locs hp w => ?_)
  obtain ⟨E3, q4⟩ := u
  obtain ⟨-, rfl, h5⟩ := hp
  have h5 : q4 = ((s_slF F L S q (6 + r.toNatClampNeg) (1 + s_below (x >>> ((4 : Int32) &&& 31)) 150) (s_below (x >>> ((6 : Int32) &&& 31)) 25)), (s_slipL L q (6 + r.toNatClampNeg)), S, n) := h5
  subst h5
  exact w_iret X hr hlk w (by  exact ⟨rfl, rfl⟩) dL_act_415 (told_nar _ _ _ _ _ _ _ _ _) (Nat.le_of_ble_eq_true rfl) (Nat.le_of_ble_eq_true rfl)

set_option maxHeartbeats 4000000 in
set_option maxRecDepth 100000 in
theorem ca_told11_x1 (l : Launch) (D : va_G) (ca : Nat → ClassId) (ad : Nat → Nat) (E : Em) (F : Fm) (L : Lm) (S : Sm) (n : Nat) (hlt : l.stackTraces = false) (q : Nat → Nat) (hlf : Lf F L S n q) (x jb r pp : Int32) (hkd : s_below x 13 = 11) (hx : er_told F L S r (1 + s_below (x >>> ((4 : Int32) &&& 31)) 150) (s_below (x >>> ((6 : Int32) &&& 31)) 25) = 1) (h3 : erI 3 r = 0) (q2 : Nat → Nat) (hlf2 : er_told F L S r (1 + s_below (x >>> ((4 : Int32) &&& 31)) 150) (s_below (x >>> ((6 : Int32) &&& 31)) 25) = 0 → Lf (s_slF F L S q (6 + r.toNatClampNeg) (1 + s_below (x >>> ((4 : Int32) &&& 31)) 150) (s_below (x >>> ((6 : Int32) &&& 31)) 25)) (s_slipL L q (6 + r.toNatClampNeg)) S n q2) (sz : Nat) : Met l yL_act (.codeWith yL_act cL_act 7 (some .boolean) hhA :: BG) { frames := 9, cells := 1, slots := 15, locals := 200 } (Pw D ca ad (E, F, L, S, n) sz [.ref (ad 0), .int x, .int jb, .int r, .int pp]) (Qi D ca ad n (fun v u => v = (if s_many F n 0 = 0 then 1 else if s_below x 13 = 10 then 1 else if s_below x 13 = 11 then 1 else 0) ∧ u.2 = (F, L, S, n)) sz) 1 15 (wA ad n sz) := by
  refine open_A (σ := (E, F, L, S, n)) (Qc := Qi D ca ad n (fun v u => v = (if s_many F n 0 = 0 then 1 else if s_below x 13 = 10 then 1 else if s_below x 13 = 11 then 1 else 0) ∧ u.2 = (F, L, S, n))) (by decide +kernel) (Nat.le_of_ble_eq_true rfl) ?_
  intro p e s m args below meth c X hr hlk htab w cn ls hl
  have hl : lv_has ls 7 [(0, .ref (ad 0)), (1, .int x), (2, .int jb), (3, .int r), (4, .int pp)] := hl
  have wf := hlf.1
  have hs := wf.2.2.1
  have hJ := wf.2.1.2
  refine lv_iload_n X.1 X.2.1 dL_act_0 rfl (lv_at hl 1 rfl) ?_
  refine lv_bipush (v := 13) X.1 X.2.1 dL_act_1 (by decide) ?_
  refine n_calli w (n_runS (n := 2) (As := [.int x, .int 13]) X (c_L_below l x 13 (by decide)) (bg_S kw_411 kw_412 kw_30 kw_413) rfl rfl (by decide +kernel) ⟨(Nat.le_of_ble_eq_true rfl), (Nat.le_of_ble_eq_true rfl)⟩ rfl hl.1 rfl (Nat.le_of_ble_eq_true rfl) dL_act_3 ⟨(Nat.le_of_ble_eq_true rfl), (Nat.le_of_ble_eq_true rfl)⟩) (fun H locs w => ?_)
  refine W.eq (g2 := F0 m 6 ls [.int 11]) (by rw [hkd]) ?_
  refine lv_tableIn (tgt := 390) X.1 X.2.1 dL_act_6 (by decide) (by decide) rfl (by decide) ?_
  refine lv_aload_n X.1 X.2.1 dL_act_390 rfl (lv_at hl 0 rfl) ?_
  refine lv_iload_n X.1 X.2.1 dL_act_391 rfl (lv_at hl 3 rfl) ?_
  refine lv_iconst (v := 1) X.1 X.2.1 dL_act_392 (by decide) ?_
  refine lv_iload_n X.1 X.2.1 dL_act_393 rfl (lv_at hl 1 rfl) ?_
  refine lv_iconst (v := 4) X.1 X.2.1 dL_act_394 (by decide) ?_
  refine lv_ishr X.1 X.2.1 dL_act_395 ?_
  refine lv_sipush (v := 150) X.1 X.2.1 dL_act_396 (by decide) ?_
  refine n_calli w (n_runS (n := 2) (As := [.int (x >>> ((4 : Int32) &&& 31)), .int 150]) X (c_L_below l (x >>> ((4 : Int32) &&& 31)) 150 (by decide)) (bg_S kw_411 kw_412 kw_30 kw_413) rfl rfl (by decide +kernel) ⟨(Nat.le_of_ble_eq_true rfl), (Nat.le_of_ble_eq_true rfl)⟩ rfl hl.1 rfl (Nat.le_of_ble_eq_true rfl) dL_act_399 ⟨(Nat.le_of_ble_eq_true rfl), (Nat.le_of_ble_eq_true rfl)⟩) (fun H locs w => ?_)
  refine lv_iadd X.1 X.2.1 dL_act_402 ?_
  refine lv_iload_n X.1 X.2.1 dL_act_403 rfl (lv_at hl 1 rfl) ?_
  refine lv_bipush (v := 6) X.1 X.2.1 dL_act_404 (by decide) ?_
  refine lv_ishr X.1 X.2.1 dL_act_406 ?_
  refine lv_bipush (v := 25) X.1 X.2.1 dL_act_407 (by decide) ?_
  refine n_calli w (n_runS (n := 2) (As := [.int (x >>> ((6 : Int32) &&& 31)), .int 25]) X (c_L_below l (x >>> ((6 : Int32) &&& 31)) 25 (by decide)) (bg_S kw_411 kw_412 kw_30 kw_413) rfl rfl (by decide +kernel) ⟨(Nat.le_of_ble_eq_true rfl), (Nat.le_of_ble_eq_true rfl)⟩ rfl hl.1 rfl (Nat.le_of_ble_eq_true rfl) dL_act_409 ⟨(Nat.le_of_ble_eq_true rfl), (Nat.le_of_ble_eq_true rfl)⟩) (fun H locs w => ?_)
  have h2 : (er_told F L S r (1 + (s_below (x >>> ((4 : Int32) &&& 31)) 150)) (s_below (x >>> ((6 : Int32) &&& 31)) 25)) = 1 := hx
  refine x_caught X cn w (xw_runS (n := 4) (As := [.ref (ad 0), .int r, .int (1 + (s_below (x >>> ((4 : Int32) &&& 31)) 150)), .int (s_below (x >>> ((6 : Int32) &&& 31)) 25)]) X cn w (fun sz => c_L_isTold l D ca ad E F L S n hlt q hlf q2 r (1 + (s_below (x >>> ((4 : Int32) &&& 31)) 150)) (s_below (x >>> ((6 : Int32) &&& 31)) 25) h3 hlf2 1 6 (fun _ => ⟨Nat.le_refl 1, Nat.le_refl 6⟩) sz) (bg_S kw_598 kw_599 kw_30 kw_600) rfl rfl (by decide +kernel) ⟨(Nat.le_of_ble_eq_true rfl), (Nat.le_of_ble_eq_true rfl)⟩ rfl hl.1 rfl (Nat.le_of_ble_eq_true rfl) dL_act_412 ⟨(Nat.le_of_ble_eq_true rfl), (Nat.le_of_ble_eq_true rfl)⟩) (fun st v t hq => by obtain ⟨⟨r, u, -, hp, -⟩, -⟩ := hq; first | exact hp.elim | (have h9 := hp.1; omega)) eIO eIO (by rw [h2]; rfl) (ATB.take 8) ⟨390, 415, 514, 102⟩ (ATB.drop 9) (htab.trans (by decide +kernel)) (x_passA (by decide +kernel)) (by decide +kernel) (by decide) (X.2.2.2.2 _ kw_422) (cn.2.1.use kw_284) (fun q9 u H locs hu w => ?_)
  obtain ⟨E3, q4⟩ := u
  have hu : q4 = (F, L, S, n) := hu
  subst hu
  refine lv_astore (lv' := [(5, .ref q9), (0, .ref (ad 0)), (1, .int x), (2, .int jb), (3, .int r), (4, .int pp)]) X.1 X.2.1 dL_act_514 hl (by decide) rfl (fun ls hl => ?_)
  refine lv_aload_n X.1 X.2.1 dL_act_516 rfl (lv_at hl 1 rfl) ?_
  refine lv_iconst (v := 0) X.1 X.2.1 dL_act_517 (by decide) ?_
  have h6 : (erW 10 0) = 0 := (by decide)
  refine w_calli cn w (w_runV (n := 1) (As := [.int 0]) X cn w (lt17 (by decide)) wC_0 rfl (fun sz => met_of (c_X4_many l D ca ad E3 F L S n hlt q wf 0 0 0 (fun h => (h h6).elim) sz) h6) (bg_V kw_179 kw_180 kw_181 kw_31 kw_182) rfl rfl (by decide +kernel) ⟨(Nat.le_of_ble_eq_true rfl), (Nat.le_of_ble_eq_true rfl)⟩ rfl hl.1 rfl (Nat.le_of_ble_eq_true rfl) dL_act_518 ⟨(Nat.le_of_ble_eq_true rfl), (Nat.le_of_ble_eq_true rfl)⟩) (fun r5 u H locs hp w => ?_)
  obtain ⟨E7, q8⟩ := u
  obtain ⟨-, rfl, h9⟩ := hp
  have h9 : q8 = (F, L, S, n) := h9
  subst h9
  refine lv_if_eq (tgt := 546) X.1 X.2.1 dL_act_521 (by decide) (fun c10 => ?_) (fun c10 => ?_)
  ·
    refine lv_iconst (v := 1) X.1 X.2.1 dL_act_546 (by decide) ?_
    refine lv_goto (tgt := 551) X.1 X.2.1 dL_act_547 (by decide) ?_
    exact w_iret X hr hlk w (by  exact ⟨by simp only [eq_true c10, or_true, true_or, or_self, or_false, false_or, and_true, true_and, and_false, false_and, not_true, not_false_iff, if_true, if_false], rfl⟩) dL_act_551 rfl (Nat.le_of_ble_eq_true rfl) (Nat.le_of_ble_eq_true rfl)
  ·
    refine lv_iload_n X.1 X.2.1 dL_act_524 rfl (lv_at hl 2 rfl) ?_
    refine lv_bipush (v := 13) X.1 X.2.1 dL_act_525 (by decide) ?_
    refine n_calli w (n_runS (n := 2) (As := [.int x, .int 13]) X (c_L_below l x 13 (by decide)) (bg_S kw_411 kw_412 kw_30 kw_413) rfl rfl (by decide +kernel) ⟨(Nat.le_of_ble_eq_true rfl), (Nat.le_of_ble_eq_true rfl)⟩ rfl hl.1 rfl (Nat.le_of_ble_eq_true rfl) dL_act_527 ⟨(Nat.le_of_ble_eq_true rfl), (Nat.le_of_ble_eq_true rfl)⟩) (fun H locs w => ?_)
    refine lv_bipush (v := 10) X.1 X.2.1 dL_act_530 (by decide) ?_
    refine lv_icmp_eq (tgt := 546) X.1 X.2.1 dL_act_532 (by decide) (fun c11 => ?_) (fun c11 => ?_)
    ·
      refine lv_iconst (v := 1) X.1 X.2.1 dL_act_546 (by decide) ?_
      refine lv_goto (tgt := 551) X.1 X.2.1 dL_act_547 (by decide) ?_
      exact w_iret X hr hlk w (by  exact ⟨by simp only [eq_false c10, eq_true c11, or_true, true_or, or_self, or_false, false_or, and_true, true_and, and_false, false_and, not_true, not_false_iff, if_true, if_false], rfl⟩) dL_act_551 rfl (Nat.le_of_ble_eq_true rfl) (Nat.le_of_ble_eq_true rfl)
    ·
      refine lv_iload_n X.1 X.2.1 dL_act_535 rfl (lv_at hl 2 rfl) ?_
      refine lv_bipush (v := 13) X.1 X.2.1 dL_act_536 (by decide) ?_
      refine n_calli w (n_runS (n := 2) (As := [.int x, .int 13]) X (c_L_below l x 13 (by decide)) (bg_S kw_411 kw_412 kw_30 kw_413) rfl rfl (by decide +kernel) ⟨(Nat.le_of_ble_eq_true rfl), (Nat.le_of_ble_eq_true rfl)⟩ rfl hl.1 rfl (Nat.le_of_ble_eq_true rfl) dL_act_538 ⟨(Nat.le_of_ble_eq_true rfl), (Nat.le_of_ble_eq_true rfl)⟩) (fun H locs w => ?_)
      refine lv_bipush (v := 11) X.1 X.2.1 dL_act_541 (by decide) ?_
      refine lv_icmp_ne (tgt := 550) X.1 X.2.1 dL_act_543 (by decide) (fun c12 => ?_) (fun c12 => ?_)
      ·
        refine lv_iconst (v := 0) X.1 X.2.1 dL_act_550 (by decide) ?_
        exact w_iret X hr hlk w (by  exact ⟨by simp only [eq_false c10, eq_false c11, eq_false c12, or_true, true_or, or_self, or_false, false_or, and_true, true_and, and_false, false_and, not_true, not_false_iff, if_true, if_false], rfl⟩) dL_act_551 rfl (Nat.le_of_ble_eq_true rfl) (Nat.le_of_ble_eq_true rfl)
      ·
        refine lv_iconst (v := 1) X.1 X.2.1 dL_act_546 (by decide) ?_
        refine lv_goto (tgt := 551) X.1 X.2.1 dL_act_547 (by decide) ?_
        exact w_iret X hr hlk w (by  exact ⟨by simp only [eq_false c10, eq_false c11, eq_true c12, or_true, true_or, or_self, or_false, false_or, and_true, true_and, and_false, false_and, not_true, not_false_iff, if_true, if_false], rfl⟩) dL_act_551 rfl (Nat.le_of_ble_eq_true rfl) (Nat.le_of_ble_eq_true rfl)

set_option maxHeartbeats 4000000 in
set_option maxRecDepth 100000 in
theorem ca_told11_x3 (l : Launch) (D : va_G) (ca : Nat → ClassId) (ad : Nat → Nat) (E : Em) (F : Fm) (L : Lm) (S : Sm) (n : Nat) (hlt : l.stackTraces = false) (q : Nat → Nat) (hlf : Lf F L S n q) (x jb r pp : Int32) (hkd : s_below x 13 = 11) (hx : er_told F L S r (1 + s_below (x >>> ((4 : Int32) &&& 31)) 150) (s_below (x >>> ((6 : Int32) &&& 31)) 25) = 3) (h3 : erI 3 r = 0) (q2 : Nat → Nat) (hlf2 : er_told F L S r (1 + s_below (x >>> ((4 : Int32) &&& 31)) 150) (s_below (x >>> ((6 : Int32) &&& 31)) 25) = 0 → Lf (s_slF F L S q (6 + r.toNatClampNeg) (1 + s_below (x >>> ((4 : Int32) &&& 31)) 150) (s_below (x >>> ((6 : Int32) &&& 31)) 25)) (s_slipL L q (6 + r.toNatClampNeg)) S n q2) (sz : Nat) : Met l yL_act (.codeWith yL_act cL_act 7 (some .boolean) hhA :: BG) { frames := 9, cells := 1, slots := 15, locals := 200 } (Pw D ca ad (E, F, L, S, n) sz [.ref (ad 0), .int x, .int jb, .int r, .int pp]) (Qi D ca ad n (fun v u => v = (if s_below x 13 < 4 then 1 else if s_below x 13 ≤ 5 then 0 else if 12 ≤ s_below x 13 then 0 else 1) ∧ u.2 = (F, L, S, n)) sz) 1 15 (wA ad n sz) := by
  refine open_A (σ := (E, F, L, S, n)) (Qc := Qi D ca ad n (fun v u => v = (if s_below x 13 < 4 then 1 else if s_below x 13 ≤ 5 then 0 else if 12 ≤ s_below x 13 then 0 else 1) ∧ u.2 = (F, L, S, n))) (by decide +kernel) (Nat.le_of_ble_eq_true rfl) ?_
  intro p e s m args below meth c X hr hlk htab w cn ls hl
  have hl : lv_has ls 7 [(0, .ref (ad 0)), (1, .int x), (2, .int jb), (3, .int r), (4, .int pp)] := hl
  have wf := hlf.1
  have hs := wf.2.2.1
  have hJ := wf.2.1.2
  refine lv_iload_n X.1 X.2.1 dL_act_0 rfl (lv_at hl 1 rfl) ?_
  refine lv_bipush (v := 13) X.1 X.2.1 dL_act_1 (by decide) ?_
  refine n_calli w (n_runS (n := 2) (As := [.int x, .int 13]) X (c_L_below l x 13 (by decide)) (bg_S kw_411 kw_412 kw_30 kw_413) rfl rfl (by decide +kernel) ⟨(Nat.le_of_ble_eq_true rfl), (Nat.le_of_ble_eq_true rfl)⟩ rfl hl.1 rfl (Nat.le_of_ble_eq_true rfl) dL_act_3 ⟨(Nat.le_of_ble_eq_true rfl), (Nat.le_of_ble_eq_true rfl)⟩) (fun H locs w => ?_)
  refine W.eq (g2 := F0 m 6 ls [.int 11]) (by rw [hkd]) ?_
  refine lv_tableIn (tgt := 390) X.1 X.2.1 dL_act_6 (by decide) (by decide) rfl (by decide) ?_
  refine lv_aload_n X.1 X.2.1 dL_act_390 rfl (lv_at hl 0 rfl) ?_
  refine lv_iload_n X.1 X.2.1 dL_act_391 rfl (lv_at hl 3 rfl) ?_
  refine lv_iconst (v := 1) X.1 X.2.1 dL_act_392 (by decide) ?_
  refine lv_iload_n X.1 X.2.1 dL_act_393 rfl (lv_at hl 1 rfl) ?_
  refine lv_iconst (v := 4) X.1 X.2.1 dL_act_394 (by decide) ?_
  refine lv_ishr X.1 X.2.1 dL_act_395 ?_
  refine lv_sipush (v := 150) X.1 X.2.1 dL_act_396 (by decide) ?_
  refine n_calli w (n_runS (n := 2) (As := [.int (x >>> ((4 : Int32) &&& 31)), .int 150]) X (c_L_below l (x >>> ((4 : Int32) &&& 31)) 150 (by decide)) (bg_S kw_411 kw_412 kw_30 kw_413) rfl rfl (by decide +kernel) ⟨(Nat.le_of_ble_eq_true rfl), (Nat.le_of_ble_eq_true rfl)⟩ rfl hl.1 rfl (Nat.le_of_ble_eq_true rfl) dL_act_399 ⟨(Nat.le_of_ble_eq_true rfl), (Nat.le_of_ble_eq_true rfl)⟩) (fun H locs w => ?_)
  refine lv_iadd X.1 X.2.1 dL_act_402 ?_
  refine lv_iload_n X.1 X.2.1 dL_act_403 rfl (lv_at hl 1 rfl) ?_
  refine lv_bipush (v := 6) X.1 X.2.1 dL_act_404 (by decide) ?_
  refine lv_ishr X.1 X.2.1 dL_act_406 ?_
  refine lv_bipush (v := 25) X.1 X.2.1 dL_act_407 (by decide) ?_
  refine n_calli w (n_runS (n := 2) (As := [.int (x >>> ((6 : Int32) &&& 31)), .int 25]) X (c_L_below l (x >>> ((6 : Int32) &&& 31)) 25 (by decide)) (bg_S kw_411 kw_412 kw_30 kw_413) rfl rfl (by decide +kernel) ⟨(Nat.le_of_ble_eq_true rfl), (Nat.le_of_ble_eq_true rfl)⟩ rfl hl.1 rfl (Nat.le_of_ble_eq_true rfl) dL_act_409 ⟨(Nat.le_of_ble_eq_true rfl), (Nat.le_of_ble_eq_true rfl)⟩) (fun H locs w => ?_)
  have h2 : (er_told F L S r (1 + (s_below (x >>> ((4 : Int32) &&& 31)) 150)) (s_below (x >>> ((6 : Int32) &&& 31)) 25)) = 3 := hx
  refine x_caught X cn w (xw_runS (n := 4) (As := [.ref (ad 0), .int r, .int (1 + (s_below (x >>> ((4 : Int32) &&& 31)) 150)), .int (s_below (x >>> ((6 : Int32) &&& 31)) 25)]) X cn w (fun sz => c_L_isTold l D ca ad E F L S n hlt q hlf q2 r (1 + (s_below (x >>> ((4 : Int32) &&& 31)) 150)) (s_below (x >>> ((6 : Int32) &&& 31)) 25) h3 hlf2 1 6 (fun _ => ⟨Nat.le_refl 1, Nat.le_refl 6⟩) sz) (bg_S kw_598 kw_599 kw_30 kw_600) rfl rfl (by decide +kernel) ⟨(Nat.le_of_ble_eq_true rfl), (Nat.le_of_ble_eq_true rfl)⟩ rfl hl.1 rfl (Nat.le_of_ble_eq_true rfl) dL_act_412 ⟨(Nat.le_of_ble_eq_true rfl), (Nat.le_of_ble_eq_true rfl)⟩) (fun st v t hq => by obtain ⟨⟨r, u, -, hp, -⟩, -⟩ := hq; first | exact hp.elim | (have h9 := hp.1; omega)) eIS eIS (by rw [h2]; rfl) (ATB.take 30) ⟨390, 415, 570, 106⟩ (ATB.drop 31) (htab.trans (by decide +kernel)) (x_passC (by decide +kernel) (X.2.2.2.2 _ kw_422) (cn.2.1.2.2.1 (eIS, eIO) (by decide)) (X.2.2.2.2 _ kw_423) (cn.2.1.2.2.1 (eIS, eIA) (by decide))) (by decide +kernel) (by decide) (X.2.2.2.2 _ kw_424) (cn.2.1.use kw_445) (fun q9 u H locs hu w => ?_)
  obtain ⟨E3, q4⟩ := u
  have hu : q4 = (F, L, S, n) := hu
  subst hu
  refine lv_astore (lv' := [(5, .ref q9), (0, .ref (ad 0)), (1, .int x), (2, .int jb), (3, .int r), (4, .int pp)]) X.1 X.2.1 dL_act_570 hl (by decide) rfl (fun ls hl => ?_)
  refine lv_iload_n X.1 X.2.1 dL_act_572 rfl (lv_at hl 2 rfl) ?_
  refine lv_bipush (v := 13) X.1 X.2.1 dL_act_573 (by decide) ?_
  refine n_calli w (n_runS (n := 2) (As := [.int x, .int 13]) X (c_L_below l x 13 (by decide)) (bg_S kw_411 kw_412 kw_30 kw_413) rfl rfl (by decide +kernel) ⟨(Nat.le_of_ble_eq_true rfl), (Nat.le_of_ble_eq_true rfl)⟩ rfl hl.1 rfl (Nat.le_of_ble_eq_true rfl) dL_act_575 ⟨(Nat.le_of_ble_eq_true rfl), (Nat.le_of_ble_eq_true rfl)⟩) (fun H locs w => ?_)
  refine lv_iconst (v := 4) X.1 X.2.1 dL_act_578 (by decide) ?_
  refine lv_icmp_lt (tgt := 603) X.1 X.2.1 dL_act_579 (by decide) (fun c5 => ?_) (fun c5 => ?_)
  ·
    refine lv_iconst (v := 1) X.1 X.2.1 dL_act_603 (by decide) ?_
    refine lv_goto (tgt := 608) X.1 X.2.1 dL_act_604 (by decide) ?_
    exact w_iret X hr hlk w (by  exact ⟨by simp only [eq_true c5, or_true, true_or, or_self, or_false, false_or, and_true, true_and, and_false, false_and, not_true, not_false_iff, if_true, if_false], rfl⟩) dL_act_608 rfl (Nat.le_of_ble_eq_true rfl) (Nat.le_of_ble_eq_true rfl)
  ·
    refine lv_iload_n X.1 X.2.1 dL_act_582 rfl (lv_at hl 2 rfl) ?_
    refine lv_bipush (v := 13) X.1 X.2.1 dL_act_583 (by decide) ?_
    refine n_calli w (n_runS (n := 2) (As := [.int x, .int 13]) X (c_L_below l x 13 (by decide)) (bg_S kw_411 kw_412 kw_30 kw_413) rfl rfl (by decide +kernel) ⟨(Nat.le_of_ble_eq_true rfl), (Nat.le_of_ble_eq_true rfl)⟩ rfl hl.1 rfl (Nat.le_of_ble_eq_true rfl) dL_act_585 ⟨(Nat.le_of_ble_eq_true rfl), (Nat.le_of_ble_eq_true rfl)⟩) (fun H locs w => ?_)
    refine lv_iconst (v := 5) X.1 X.2.1 dL_act_588 (by decide) ?_
    refine lv_icmp_le (tgt := 607) X.1 X.2.1 dL_act_589 (by decide) (fun c6 => ?_) (fun c6 => ?_)
    ·
      refine lv_iconst (v := 0) X.1 X.2.1 dL_act_607 (by decide) ?_
      exact w_iret X hr hlk w (by  exact ⟨by simp only [eq_false c5, eq_true c6, or_true, true_or, or_self, or_false, false_or, and_true, true_and, and_false, false_and, not_true, not_false_iff, if_true, if_false], rfl⟩) dL_act_608 rfl (Nat.le_of_ble_eq_true rfl) (Nat.le_of_ble_eq_true rfl)
    ·
      refine lv_iload_n X.1 X.2.1 dL_act_592 rfl (lv_at hl 2 rfl) ?_
      refine lv_bipush (v := 13) X.1 X.2.1 dL_act_593 (by decide) ?_
      refine n_calli w (n_runS (n := 2) (As := [.int x, .int 13]) X (c_L_below l x 13 (by decide)) (bg_S kw_411 kw_412 kw_30 kw_413) rfl rfl (by decide +kernel) ⟨(Nat.le_of_ble_eq_true rfl), (Nat.le_of_ble_eq_true rfl)⟩ rfl hl.1 rfl (Nat.le_of_ble_eq_true rfl) dL_act_595 ⟨(Nat.le_of_ble_eq_true rfl), (Nat.le_of_ble_eq_true rfl)⟩) (fun H locs w => ?_)
      refine lv_bipush (v := 12) X.1 X.2.1 dL_act_598 (by decide) ?_
      refine lv_icmp_ge (tgt := 607) X.1 X.2.1 dL_act_600 (by decide) (fun c7 => ?_) (fun c7 => ?_)
      ·
        refine lv_iconst (v := 0) X.1 X.2.1 dL_act_607 (by decide) ?_
        exact w_iret X hr hlk w (by  exact ⟨by simp only [eq_false c5, eq_false c6, eq_true c7, or_true, true_or, or_self, or_false, false_or, and_true, true_and, and_false, false_and, not_true, not_false_iff, if_true, if_false], rfl⟩) dL_act_608 rfl (Nat.le_of_ble_eq_true rfl) (Nat.le_of_ble_eq_true rfl)
      ·
        refine lv_iconst (v := 1) X.1 X.2.1 dL_act_603 (by decide) ?_
        refine lv_goto (tgt := 608) X.1 X.2.1 dL_act_604 (by decide) ?_
        exact w_iret X hr hlk w (by  exact ⟨by simp only [eq_false c5, eq_false c6, eq_false c7, or_true, true_or, or_self, or_false, false_or, and_true, true_and, and_false, false_and, not_true, not_false_iff, if_true, if_false], rfl⟩) dL_act_608 rfl (Nat.le_of_ble_eq_true rfl) (Nat.le_of_ble_eq_true rfl)

set_option maxHeartbeats 4000000 in
set_option maxRecDepth 100000 in
theorem ca_terms (l : Launch) (D : va_G) (ca : Nat → ClassId) (ad : Nat → Nat) (E : Em) (F : Fm) (L : Lm) (S : Sm) (n : Nat) (hlt : l.stackTraces = false) (q : Nat → Nat) (hlf : Lf F L S n q) (x jb r pp : Int32) (hkd : s_below x 13 = 12) (hb : s_below (x >>> ((6 : Int32) &&& 31)) 2 = 0) (h0 : er_terms (1 + s_below (x >>> ((5 : Int32) &&& 31)) 30) (s_below (x >>> ((7 : Int32) &&& 31)) 90) = 0) (wf2 : Wf (up2 (up2 F 0 5 (1 + s_below (x >>> ((5 : Int32) &&& 31)) 30)) 0 6 (s_below (x >>> ((7 : Int32) &&& 31)) 90)) L S n q) (sz : Nat) : Met l yL_act (.codeWith yL_act cL_act 7 (some .boolean) hhA :: BG) { frames := 9, cells := 1, slots := 15, locals := 200 } (Pw D ca ad (E, F, L, S, n) sz [.ref (ad 0), .int x, .int jb, .int r, .int pp]) (Qi D ca ad n (fun v u => v = (if F 0 4 = s_many (up2 (up2 F 0 5 (1 + s_below (x >>> ((5 : Int32) &&& 31)) 30)) 0 6 (s_below (x >>> ((7 : Int32) &&& 31)) 90)) n 5 then 1 else 0) ∧ u.2 = ((up2 (up2 F 0 5 (1 + s_below (x >>> ((5 : Int32) &&& 31)) 30)) 0 6 (s_below (x >>> ((7 : Int32) &&& 31)) 90)), L, S, n)) sz) 1 15 (wA ad n sz) := by
  refine open_A (σ := (E, F, L, S, n)) (Qc := Qi D ca ad n (fun v u => v = (if F 0 4 = s_many (up2 (up2 F 0 5 (1 + s_below (x >>> ((5 : Int32) &&& 31)) 30)) 0 6 (s_below (x >>> ((7 : Int32) &&& 31)) 90)) n 5 then 1 else 0) ∧ u.2 = ((up2 (up2 F 0 5 (1 + s_below (x >>> ((5 : Int32) &&& 31)) 30)) 0 6 (s_below (x >>> ((7 : Int32) &&& 31)) 90)), L, S, n))) (by decide +kernel) (Nat.le_of_ble_eq_true rfl) ?_
  intro p e s m args below meth c X hr hlk htab w cn ls hl
  have hl : lv_has ls 7 [(0, .ref (ad 0)), (1, .int x), (2, .int jb), (3, .int r), (4, .int pp)] := hl
  have wf := hlf.1
  have hs := wf.2.2.1
  have hJ := wf.2.1.2
  refine lv_iload_n X.1 X.2.1 dL_act_0 rfl (lv_at hl 1 rfl) ?_
  refine lv_bipush (v := 13) X.1 X.2.1 dL_act_1 (by decide) ?_
  refine n_calli w (n_runS (n := 2) (As := [.int x, .int 13]) X (c_L_below l x 13 (by decide)) (bg_S kw_411 kw_412 kw_30 kw_413) rfl rfl (by decide +kernel) ⟨(Nat.le_of_ble_eq_true rfl), (Nat.le_of_ble_eq_true rfl)⟩ rfl hl.1 rfl (Nat.le_of_ble_eq_true rfl) dL_act_3 ⟨(Nat.le_of_ble_eq_true rfl), (Nat.le_of_ble_eq_true rfl)⟩) (fun H locs w => ?_)
  refine W.eq (g2 := F0 m 6 ls [.int 12]) (by rw [hkd]) ?_
  refine lv_tableOut (tgt := 416) X.1 X.2.1 dL_act_6 (Or.inr (by decide)) (by decide) ?_
  refine lv_iload_n X.1 X.2.1 dL_act_416 rfl (lv_at hl 1 rfl) ?_
  refine lv_bipush (v := 6) X.1 X.2.1 dL_act_417 (by decide) ?_
  refine lv_ishr X.1 X.2.1 dL_act_419 ?_
  refine lv_iconst (v := 2) X.1 X.2.1 dL_act_420 (by decide) ?_
  refine n_calli w (n_runS (n := 2) (As := [.int (x >>> ((6 : Int32) &&& 31)), .int 2]) X (c_L_below l (x >>> ((6 : Int32) &&& 31)) 2 (by decide)) (bg_S kw_411 kw_412 kw_30 kw_413) rfl rfl (by decide +kernel) ⟨(Nat.le_of_ble_eq_true rfl), (Nat.le_of_ble_eq_true rfl)⟩ rfl hl.1 rfl (Nat.le_of_ble_eq_true rfl) dL_act_421 ⟨(Nat.le_of_ble_eq_true rfl), (Nat.le_of_ble_eq_true rfl)⟩) (fun H locs w => ?_)
  refine lv_if_ne (tgt := 464) X.1 X.2.1 dL_act_424 (by decide) (fun c1 => ?_) (fun c1 => ?_)
  ·
    exact absurd hb c1
  ·
    refine lv_aload_n X.1 X.2.1 dL_act_427 rfl (lv_at hl 0 rfl) ?_
    refine lv_iconst (v := 1) X.1 X.2.1 dL_act_428 (by decide) ?_
    refine lv_iload_n X.1 X.2.1 dL_act_429 rfl (lv_at hl 1 rfl) ?_
    refine lv_iconst (v := 5) X.1 X.2.1 dL_act_430 (by decide) ?_
    refine lv_ishr X.1 X.2.1 dL_act_431 ?_
    refine lv_bipush (v := 30) X.1 X.2.1 dL_act_432 (by decide) ?_
    refine n_calli w (n_runS (n := 2) (As := [.int (x >>> ((5 : Int32) &&& 31)), .int 30]) X (c_L_below l (x >>> ((5 : Int32) &&& 31)) 30 (by decide)) (bg_S kw_411 kw_412 kw_30 kw_413) rfl rfl (by decide +kernel) ⟨(Nat.le_of_ble_eq_true rfl), (Nat.le_of_ble_eq_true rfl)⟩ rfl hl.1 rfl (Nat.le_of_ble_eq_true rfl) dL_act_434 ⟨(Nat.le_of_ble_eq_true rfl), (Nat.le_of_ble_eq_true rfl)⟩) (fun H locs w => ?_)
    refine lv_iadd X.1 X.2.1 dL_act_437 ?_
    refine lv_iload_n X.1 X.2.1 dL_act_438 rfl (lv_at hl 1 rfl) ?_
    refine lv_bipush (v := 7) X.1 X.2.1 dL_act_439 (by decide) ?_
    refine lv_ishr X.1 X.2.1 dL_act_441 ?_
    refine lv_bipush (v := 90) X.1 X.2.1 dL_act_442 (by decide) ?_
    refine n_calli w (n_runS (n := 2) (As := [.int (x >>> ((7 : Int32) &&& 31)), .int 90]) X (c_L_below l (x >>> ((7 : Int32) &&& 31)) 90 (by decide)) (bg_S kw_411 kw_412 kw_30 kw_413) rfl rfl (by decide +kernel) ⟨(Nat.le_of_ble_eq_true rfl), (Nat.le_of_ble_eq_true rfl)⟩ rfl hl.1 rfl (Nat.le_of_ble_eq_true rfl) dL_act_444 ⟨(Nat.le_of_ble_eq_true rfl), (Nat.le_of_ble_eq_true rfl)⟩) (fun H locs w => ?_)
    have h3 : (er_terms (1 + (s_below (x >>> ((5 : Int32) &&& 31)) 30)) (s_below (x >>> ((7 : Int32) &&& 31)) 90)) = 0 := h0
    refine w_calli cn w (w_runV (n := 2) (As := [.int (1 + (s_below (x >>> ((5 : Int32) &&& 31)) 30)), .int (s_below (x >>> ((7 : Int32) &&& 31)) 90)]) X cn w (lt17 (by decide)) wC_0 rfl (fun sz => met_of (c_X4_terms l D ca ad E F L S n hlt q wf (1 + (s_below (x >>> ((5 : Int32) &&& 31)) 30)) (s_below (x >>> ((7 : Int32) &&& 31)) 90) 0 0 (fun h => (h h3).elim) sz) h3) (bg_V kw_630 kw_631 kw_632 kw_31 kw_633) rfl rfl (by decide +kernel) ⟨(Nat.le_of_ble_eq_true rfl), (Nat.le_of_ble_eq_true rfl)⟩ rfl hl.1 rfl (Nat.le_of_ble_eq_true rfl) dL_act_447 ⟨(Nat.le_of_ble_eq_true rfl), (Nat.le_of_ble_eq_true rfl)⟩) (fun r2 u H locs hp w => ?_)
    obtain ⟨E4, q5⟩ := u
    obtain ⟨-, rfl, h6⟩ := hp
    have h6 : q5 = ((up2 (up2 F 0 5 (1 + (s_below (x >>> ((5 : Int32) &&& 31)) 30))) 0 6 (s_below (x >>> ((7 : Int32) &&& 31)) 90)), L, S, n) := h6
    subst h6
    refine lv_aload_n X.1 X.2.1 dL_act_450 rfl (lv_at hl 0 rfl) ?_
    refine lv_iconst (v := 5) X.1 X.2.1 dL_act_451 (by decide) ?_
    have h502 : (erW 10 5) = 0 := (by decide)
    refine w_calli cn w (w_runV (n := 1) (As := [.int 5]) X cn w (lt17 (by decide)) wC_0 rfl (fun sz => met_of (c_X4_many l D ca ad E4 (up2 (up2 F 0 5 (1 + (s_below (x >>> ((5 : Int32) &&& 31)) 30))) 0 6 (s_below (x >>> ((7 : Int32) &&& 31)) 90)) L S n hlt q wf2 5 0 0 (fun h => (h h502).elim) sz) h502) (bg_V kw_179 kw_180 kw_181 kw_31 kw_182) rfl rfl (by decide +kernel) ⟨(Nat.le_of_ble_eq_true rfl), (Nat.le_of_ble_eq_true rfl)⟩ rfl hl.1 rfl (Nat.le_of_ble_eq_true rfl) dL_act_452 ⟨(Nat.le_of_ble_eq_true rfl), (Nat.le_of_ble_eq_true rfl)⟩) (fun r501 u H locs hp w => ?_)
    obtain ⟨E503, q504⟩ := u
    obtain ⟨-, rfl, h505⟩ := hp
    have h505 : q504 = ((up2 (up2 F 0 5 (1 + (s_below (x >>> ((5 : Int32) &&& 31)) 30))) 0 6 (s_below (x >>> ((7 : Int32) &&& 31)) 90)), L, S, n) := h505
    subst h505
    refine lv_icmp_ne (tgt := 462) X.1 X.2.1 dL_act_455 (by decide) (fun c506 => ?_) (fun c506 => ?_)
    ·
      refine lv_iconst (v := 0) X.1 X.2.1 dL_act_462 (by decide) ?_
      exact w_iret X hr hlk w (by  exact ⟨by simp only [eq_true c1, eq_false c506, or_true, true_or, or_self, or_false, false_or, and_true, true_and, and_false, false_and, not_true, not_false_iff, if_true, if_false], rfl⟩) dL_act_463 rfl (Nat.le_of_ble_eq_true rfl) (Nat.le_of_ble_eq_true rfl)
    ·
      refine lv_iconst (v := 1) X.1 X.2.1 dL_act_458 (by decide) ?_
      refine lv_goto (tgt := 463) X.1 X.2.1 dL_act_459 (by decide) ?_
      exact w_iret X hr hlk w (by  exact ⟨by simp only [eq_true c1, eq_true c506, or_true, true_or, or_self, or_false, false_or, and_true, true_and, and_false, false_and, not_true, not_false_iff, if_true, if_false], rfl⟩) dL_act_463 rfl (Nat.le_of_ble_eq_true rfl) (Nat.le_of_ble_eq_true rfl)

set_option maxHeartbeats 4000000 in
set_option maxRecDepth 100000 in
theorem ca_paper (l : Launch) (D : va_G) (ca : Nat → ClassId) (ad : Nat → Nat) (E : Em) (F : Fm) (L : Lm) (S : Sm) (n : Nat) (hlt : l.stackTraces = false) (q : Nat → Nat) (hlf : Lf F L S n q) (x jb r pp : Int32) (hkd : s_below x 13 = 12) (hb : ¬ s_below (x >>> ((6 : Int32) &&& 31)) 2 = 0) (h0 : er_paper pp (40 + s_below (x >>> ((5 : Int32) &&& 31)) 50) (40 + s_below (x >>> ((7 : Int32) &&& 31)) 50) (1 + s_below (x >>> ((3 : Int32) &&& 31)) 15) = 0) (sz : Nat) : Met l yL_act (.codeWith yL_act cL_act 7 (some .boolean) hhA :: BG) { frames := 9, cells := 1, slots := 15, locals := 200 } (Pw D ca ad (E, F, L, S, n) sz [.ref (ad 0), .int x, .int jb, .int r, .int pp]) (Qi D ca ad n (fun v u => v = (if 99 < F (2 + pp.toNatClampNeg) 2 then 0 else 1) ∧ u.2 = ((s_paperF F pp (40 + s_below (x >>> ((5 : Int32) &&& 31)) 50) (40 + s_below (x >>> ((7 : Int32) &&& 31)) 50) (1 + s_below (x >>> ((3 : Int32) &&& 31)) 15)), L, S, n)) sz) 1 15 (wA ad n sz) := by
  refine open_A (σ := (E, F, L, S, n)) (Qc := Qi D ca ad n (fun v u => v = (if 99 < F (2 + pp.toNatClampNeg) 2 then 0 else 1) ∧ u.2 = ((s_paperF F pp (40 + s_below (x >>> ((5 : Int32) &&& 31)) 50) (40 + s_below (x >>> ((7 : Int32) &&& 31)) 50) (1 + s_below (x >>> ((3 : Int32) &&& 31)) 15)), L, S, n))) (by decide +kernel) (Nat.le_of_ble_eq_true rfl) ?_
  intro p e s m args below meth c X hr hlk htab w cn ls hl
  have hl : lv_has ls 7 [(0, .ref (ad 0)), (1, .int x), (2, .int jb), (3, .int r), (4, .int pp)] := hl
  have wf := hlf.1
  have hs := wf.2.2.1
  have hJ := wf.2.1.2
  refine lv_iload_n X.1 X.2.1 dL_act_0 rfl (lv_at hl 1 rfl) ?_
  refine lv_bipush (v := 13) X.1 X.2.1 dL_act_1 (by decide) ?_
  refine n_calli w (n_runS (n := 2) (As := [.int x, .int 13]) X (c_L_below l x 13 (by decide)) (bg_S kw_411 kw_412 kw_30 kw_413) rfl rfl (by decide +kernel) ⟨(Nat.le_of_ble_eq_true rfl), (Nat.le_of_ble_eq_true rfl)⟩ rfl hl.1 rfl (Nat.le_of_ble_eq_true rfl) dL_act_3 ⟨(Nat.le_of_ble_eq_true rfl), (Nat.le_of_ble_eq_true rfl)⟩) (fun H locs w => ?_)
  refine W.eq (g2 := F0 m 6 ls [.int 12]) (by rw [hkd]) ?_
  refine lv_tableOut (tgt := 416) X.1 X.2.1 dL_act_6 (Or.inr (by decide)) (by decide) ?_
  refine lv_iload_n X.1 X.2.1 dL_act_416 rfl (lv_at hl 1 rfl) ?_
  refine lv_bipush (v := 6) X.1 X.2.1 dL_act_417 (by decide) ?_
  refine lv_ishr X.1 X.2.1 dL_act_419 ?_
  refine lv_iconst (v := 2) X.1 X.2.1 dL_act_420 (by decide) ?_
  refine n_calli w (n_runS (n := 2) (As := [.int (x >>> ((6 : Int32) &&& 31)), .int 2]) X (c_L_below l (x >>> ((6 : Int32) &&& 31)) 2 (by decide)) (bg_S kw_411 kw_412 kw_30 kw_413) rfl rfl (by decide +kernel) ⟨(Nat.le_of_ble_eq_true rfl), (Nat.le_of_ble_eq_true rfl)⟩ rfl hl.1 rfl (Nat.le_of_ble_eq_true rfl) dL_act_421 ⟨(Nat.le_of_ble_eq_true rfl), (Nat.le_of_ble_eq_true rfl)⟩) (fun H locs w => ?_)
  refine lv_if_ne (tgt := 464) X.1 X.2.1 dL_act_424 (by decide) (fun c1 => ?_) (fun c1 => ?_)
  ·
    refine lv_aload_n X.1 X.2.1 dL_act_464 rfl (lv_at hl 0 rfl) ?_
    refine lv_iload X.1 X.2.1 dL_act_465 (lv_at hl 4 rfl) ?_
    refine lv_bipush (v := 40) X.1 X.2.1 dL_act_467 (by decide) ?_
    refine lv_iload_n X.1 X.2.1 dL_act_469 rfl (lv_at hl 1 rfl) ?_
    refine lv_iconst (v := 5) X.1 X.2.1 dL_act_470 (by decide) ?_
    refine lv_ishr X.1 X.2.1 dL_act_471 ?_
    refine lv_bipush (v := 50) X.1 X.2.1 dL_act_472 (by decide) ?_
    refine n_calli w (n_runS (n := 2) (As := [.int (x >>> ((5 : Int32) &&& 31)), .int 50]) X (c_L_below l (x >>> ((5 : Int32) &&& 31)) 50 (by decide)) (bg_S kw_411 kw_412 kw_30 kw_413) rfl rfl (by decide +kernel) ⟨(Nat.le_of_ble_eq_true rfl), (Nat.le_of_ble_eq_true rfl)⟩ rfl hl.1 rfl (Nat.le_of_ble_eq_true rfl) dL_act_474 ⟨(Nat.le_of_ble_eq_true rfl), (Nat.le_of_ble_eq_true rfl)⟩) (fun H locs w => ?_)
    refine lv_iadd X.1 X.2.1 dL_act_477 ?_
    refine lv_bipush (v := 40) X.1 X.2.1 dL_act_478 (by decide) ?_
    refine lv_iload_n X.1 X.2.1 dL_act_480 rfl (lv_at hl 1 rfl) ?_
    refine lv_bipush (v := 7) X.1 X.2.1 dL_act_481 (by decide) ?_
    refine lv_ishr X.1 X.2.1 dL_act_483 ?_
    refine lv_bipush (v := 50) X.1 X.2.1 dL_act_484 (by decide) ?_
    refine n_calli w (n_runS (n := 2) (As := [.int (x >>> ((7 : Int32) &&& 31)), .int 50]) X (c_L_below l (x >>> ((7 : Int32) &&& 31)) 50 (by decide)) (bg_S kw_411 kw_412 kw_30 kw_413) rfl rfl (by decide +kernel) ⟨(Nat.le_of_ble_eq_true rfl), (Nat.le_of_ble_eq_true rfl)⟩ rfl hl.1 rfl (Nat.le_of_ble_eq_true rfl) dL_act_486 ⟨(Nat.le_of_ble_eq_true rfl), (Nat.le_of_ble_eq_true rfl)⟩) (fun H locs w => ?_)
    refine lv_iadd X.1 X.2.1 dL_act_489 ?_
    refine lv_iconst (v := 1) X.1 X.2.1 dL_act_490 (by decide) ?_
    refine lv_iload_n X.1 X.2.1 dL_act_491 rfl (lv_at hl 1 rfl) ?_
    refine lv_iconst (v := 3) X.1 X.2.1 dL_act_492 (by decide) ?_
    refine lv_ishr X.1 X.2.1 dL_act_493 ?_
    refine lv_bipush (v := 15) X.1 X.2.1 dL_act_494 (by decide) ?_
    refine n_calli w (n_runS (n := 2) (As := [.int (x >>> ((3 : Int32) &&& 31)), .int 15]) X (c_L_below l (x >>> ((3 : Int32) &&& 31)) 15 (by decide)) (bg_S kw_411 kw_412 kw_30 kw_413) rfl rfl (by decide +kernel) ⟨(Nat.le_of_ble_eq_true rfl), (Nat.le_of_ble_eq_true rfl)⟩ rfl hl.1 rfl (Nat.le_of_ble_eq_true rfl) dL_act_496 ⟨(Nat.le_of_ble_eq_true rfl), (Nat.le_of_ble_eq_true rfl)⟩) (fun H locs w => ?_)
    refine lv_iadd X.1 X.2.1 dL_act_499 ?_
    have h3 : (er_paper pp (40 + (s_below (x >>> ((5 : Int32) &&& 31)) 50)) (40 + (s_below (x >>> ((7 : Int32) &&& 31)) 50)) (1 + (s_below (x >>> ((3 : Int32) &&& 31)) 15))) = 0 := h0
    refine w_calli cn w (w_runV (n := 4) (As := [.int pp, .int (40 + (s_below (x >>> ((5 : Int32) &&& 31)) 50)), .int (40 + (s_below (x >>> ((7 : Int32) &&& 31)) 50)), .int (1 + (s_below (x >>> ((3 : Int32) &&& 31)) 15))]) X cn w (lt17 (by decide)) wC_0 rfl (fun sz => met_of (c_X4_paper l D ca ad E F L S n hlt q wf pp (40 + (s_below (x >>> ((5 : Int32) &&& 31)) 50)) (40 + (s_below (x >>> ((7 : Int32) &&& 31)) 50)) (1 + (s_below (x >>> ((3 : Int32) &&& 31)) 15)) 0 0 (fun h => (h h3).elim) sz) h3) (bg_V kw_636 kw_637 kw_638 kw_31 kw_639) rfl rfl (by decide +kernel) ⟨(Nat.le_of_ble_eq_true rfl), (Nat.le_of_ble_eq_true rfl)⟩ rfl hl.1 rfl (Nat.le_of_ble_eq_true rfl) dL_act_500 ⟨(Nat.le_of_ble_eq_true rfl), (Nat.le_of_ble_eq_true rfl)⟩) (fun r2 u H locs hp w => ?_)
    obtain ⟨E4, q5⟩ := u
    obtain ⟨-, rfl, h6⟩ := hp
    have h6 : q5 = ((s_paperF F pp (40 + (s_below (x >>> ((5 : Int32) &&& 31)) 50)) (40 + (s_below (x >>> ((7 : Int32) &&& 31)) 50)) (1 + (s_below (x >>> ((3 : Int32) &&& 31)) 15))), L, S, n) := h6
    subst h6
    refine lv_bipush (v := 99) X.1 X.2.1 dL_act_503 (by decide) ?_
    refine lv_icmp_gt (tgt := 512) X.1 X.2.1 dL_act_505 (by decide) (fun c7 => ?_) (fun c7 => ?_)
    ·
      refine lv_iconst (v := 0) X.1 X.2.1 dL_act_512 (by decide) ?_
      exact w_iret X hr hlk w (by  exact ⟨by simp only [eq_false c1, eq_true c7, or_true, true_or, or_self, or_false, false_or, and_true, true_and, and_false, false_and, not_true, not_false_iff, if_true, if_false], rfl⟩) dL_act_513 rfl (Nat.le_of_ble_eq_true rfl) (Nat.le_of_ble_eq_true rfl)
    ·
      refine lv_iconst (v := 1) X.1 X.2.1 dL_act_508 (by decide) ?_
      refine lv_goto (tgt := 513) X.1 X.2.1 dL_act_509 (by decide) ?_
      exact w_iret X hr hlk w (by  exact ⟨by simp only [eq_false c1, eq_false c7, or_true, true_or, or_self, or_false, false_or, and_true, true_and, and_false, false_and, not_true, not_false_iff, if_true, if_false], rfl⟩) dL_act_513 rfl (Nat.le_of_ble_eq_true rfl) (Nat.le_of_ble_eq_true rfl)
  ·
    exact (hb c1).elim
