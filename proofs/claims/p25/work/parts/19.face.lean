set_option maxHeartbeats 4000000 in
set_option maxRecDepth 100000 in
theorem c_X4_terms (l : Launch) (D : va_G) (ca : Nat → ClassId) (ad : Nat → Nat) (E : Em) (F : Fm) (L : Lm) (S : Sm) (n : Nat) (hlt : l.stackTraces = false) (q : Nat → Nat) (wf : Wf F L S n q) (x y : Int32) (mc ms : Nat) (hm : er_terms x y ≠ 0 → 1 ≤ mc ∧ 6 ≤ ms) (sz : Nat) : vx_Met l yX4_terms (.code yX4_terms cX4_terms 3 (some .int) :: BG) { frames := 6, cells := mc, slots := ms, locals := 95 } (Pw D ca ad (E, F, L, S, n) sz [.ref (ad 0), .int x, .int y]) (Qi D ca ad n (fun r u => er_terms x y = 0 ∧ r = F 0 4 ∧ u.2 = (up2 (up2 F 0 5 x) 0 6 y, L, S, n)) sz) (Xq D ca ad n (er_terms x y) (fun u => u.2 = (F, L, S, n)) sz) mc ms (wA ad n sz) := by
  refine open_X (σ := (E, F, L, S, n)) (Qc := Qi D ca ad n (fun r u => er_terms x y = 0 ∧ r = F 0 4 ∧ u.2 = (up2 (up2 F 0 5 x) 0 6 y, L, S, n))) (XC := Xq D ca ad n (er_terms x y) (fun u => u.2 = (F, L, S, n))) (by decide +kernel) (Nat.le_of_ble_eq_true rfl) ?_
  intro p e s m args below meth c X hr hlk hnt w cn ls hl
  have hl : lv_has ls 3 [(0, .ref (ad 0)), (1, .int x), (2, .int y)] := hl
  have hs := wf.2.2.1
  have hJ := wf.2.1.2
  refine lv_iload_n X.1 X.2.1 dX4_terms_0 rfl (lv_at hl 1 rfl) ?_
  refine lv_iconst (v := 1) X.1 X.2.1 dX4_terms_1 (by decide) ?_
  refine lv_bipush (v := 99) X.1 X.2.1 dX4_terms_2 (by decide) ?_
  refine n_calli w (n_runS (n := 3) (As := [.int x, .int 1, .int 99]) X (c_X4_isOutside l x 1 99) (bg_S kw_429 kw_430 kw_31 kw_431) rfl rfl (by decide +kernel) ⟨(Nat.le_of_ble_eq_true rfl), (Nat.le_of_ble_eq_true rfl)⟩ rfl hl.1 rfl (Nat.le_of_ble_eq_true rfl) dX4_terms_4 ⟨(Nat.zero_le _), (Nat.zero_le _)⟩) (fun H locs w => ?_)
  refine lv_if_eq (tgt := 21) X.1 X.2.1 dX4_terms_7 (by decide) (fun c1 => ?_) (fun c1 => ?_)
  ·
    refine lv_iload_n X.1 X.2.1 dX4_terms_21 rfl (lv_at hl 2 rfl) ?_
    refine lv_iconst (v := 0) X.1 X.2.1 dX4_terms_22 (by decide) ?_
    refine lv_sipush (v := 200) X.1 X.2.1 dX4_terms_23 (by decide) ?_
    refine n_calli w (n_runS (n := 3) (As := [.int y, .int 0, .int 200]) X (c_X4_isOutside l y 0 200) (bg_S kw_429 kw_430 kw_31 kw_431) rfl rfl (by decide +kernel) ⟨(Nat.le_of_ble_eq_true rfl), (Nat.le_of_ble_eq_true rfl)⟩ rfl hl.1 rfl (Nat.le_of_ble_eq_true rfl) dX4_terms_26 ⟨(Nat.zero_le _), (Nat.zero_le _)⟩) (fun H locs w => ?_)
    refine lv_if_eq (tgt := 43) X.1 X.2.1 dX4_terms_29 (by decide) (fun c2 => ?_) (fun c2 => ?_)
    ·
      refine lv_aload_n X.1 X.2.1 dX4_terms_43 rfl (lv_at hl 0 rfl) ?_
      refine lv_iload_n X.1 X.2.1 dX4_terms_44 rfl (lv_at hl 1 rfl) ?_
      refine p_L X w 5 (by decide) rfl (by decide +kernel) (v := x) kw_150 dX4_terms_45 (fun H locs w => ?_)
      obtain ⟨F3, eF3⟩ : ∃ G : Fm, G = up2 F 0 5 x := ⟨_, rfl⟩
      rw [← eF3] at w
      refine lv_aload_n X.1 X.2.1 dX4_terms_48 rfl (lv_at hl 0 rfl) ?_
      refine lv_iload_n X.1 X.2.1 dX4_terms_49 rfl (lv_at hl 2 rfl) ?_
      refine p_L X w 6 (by decide) rfl (by decide +kernel) (v := y) kw_151 dX4_terms_50 (fun H locs w => ?_)
      obtain ⟨F4, eF4⟩ : ∃ G : Fm, G = up2 F3 0 6 y := ⟨_, rfl⟩
      rw [← eF4] at w
      refine lv_aload_n X.1 X.2.1 dX4_terms_53 rfl (lv_at hl 0 rfl) ?_
      refine g_L X w 4 (by decide) (v := .int (F4 0 4)) rfl kw_149 dX4_terms_54 ?_
      exact vx_ret (w_iret X hr hlk w (by subst eF4; subst eF3; exact ⟨by simp [er_terms, c1, c2], by simp [up2], rfl⟩) dX4_terms_57 rfl (Nat.zero_le _) (Nat.zero_le _))
    ·
      exact x_throw2W (k := 327) (tx := "a margin is 0 to 200") hlt X rfl hlk hnt cn w hl.1 (by decide +kernel) (by  simp [er_terms, c1, c2]) rfl hm dX4_terms_32 dX4_terms_35 dX4_terms_36 dX4_terms_39 dX4_terms_42 (Nat.le_of_ble_eq_true rfl) (Nat.le_of_ble_eq_true rfl) rfl rfl rfl rfl
  ·
    exact x_throw2W (k := 325) (tx := "a wage is 1 to 99") hlt X rfl hlk hnt cn w hl.1 (by decide +kernel) (by  simp [er_terms, c1]) rfl hm dX4_terms_10 dX4_terms_13 dX4_terms_14 dX4_terms_17 dX4_terms_20 (Nat.le_of_ble_eq_true rfl) (Nat.le_of_ble_eq_true rfl) rfl rfl rfl rfl

set_option maxHeartbeats 4000000 in
set_option maxRecDepth 100000 in
theorem c_X4_paper (l : Launch) (D : va_G) (ca : Nat → ClassId) (ad : Nat → Nat) (E : Em) (F : Fm) (L : Lm) (S : Sm) (n : Nat) (hlt : l.stackTraces = false) (q : Nat → Nat) (wf : Wf F L S n q) (i x h y : Int32) (mc ms : Nat) (hm : er_paper i x h y ≠ 0 → 1 ≤ mc ∧ 6 ≤ ms) (sz : Nat) : vx_Met l yX4_paper (.code yX4_paper cX4_paper 7 (some .int) :: BG) { frames := 7, cells := mc, slots := ms, locals := 117 } (Pw D ca ad (E, F, L, S, n) sz [.ref (ad 0), .int i, .int x, .int h, .int y]) (Qi D ca ad n (fun r u => er_paper i x h y = 0 ∧ r = F (2 + i.toNatClampNeg) 2 ∧ u.2 = (s_paperF F i x h y, L, S, n)) sz) (Xq D ca ad n (er_paper i x h y) (fun u => u.2 = (F, L, S, n)) sz) mc ms (wA ad n sz) := by
  refine open_X (σ := (E, F, L, S, n)) (Qc := Qi D ca ad n (fun r u => er_paper i x h y = 0 ∧ r = F (2 + i.toNatClampNeg) 2 ∧ u.2 = (s_paperF F i x h y, L, S, n))) (XC := Xq D ca ad n (er_paper i x h y) (fun u => u.2 = (F, L, S, n))) (by decide +kernel) (Nat.le_of_ble_eq_true rfl) ?_
  intro p e s m args below meth c X hr hlk hnt w cn ls hl
  have hl : lv_has ls 7 [(0, .ref (ad 0)), (1, .int i), (2, .int x), (3, .int h), (4, .int y)] := hl
  have hs := wf.2.2.1
  have hJ := wf.2.1.2
  refine lv_aload_n X.1 X.2.1 dX4_paper_0 rfl (lv_at hl 0 rfl) ?_
  refine lv_iload_n X.1 X.2.1 dX4_paper_1 rfl (lv_at hl 1 rfl) ?_
  by_cases h2 : (erI 4 i) = 0
  ·
    refine w_callr cn w (w_runV (n := 1) (As := [.int i]) X cn w (lt17 (by decide)) wC_0 rfl (fun sz => met_of (c_X4_paperOf l D ca ad E F L S n hlt i 0 0 (fun h => (h h2).elim) sz) h2) (bg_V kw_278 kw_280 kw_5 kw_31 kw_281) rfl rfl (by decide +kernel) ⟨(Nat.le_of_ble_eq_true rfl), (Nat.le_of_ble_eq_true rfl)⟩ rfl hl.1 rfl (Nat.le_of_ble_eq_true rfl) dX4_paper_2 ⟨(Nat.zero_le _), (Nat.zero_le _)⟩) (fun r1 u H locs hp w => ?_)
    obtain ⟨-, rfl, rfl⟩ := hp
    refine W.eq (g2 := F0 m 5 ls [.ref (ad (2 + i.toNatClampNeg))]) rfl ?_
    refine lv_astore (lv' := [(5, .ref (ad (2 + i.toNatClampNeg))), (0, .ref (ad 0)), (1, .int i), (2, .int x), (3, .int h), (4, .int y)]) X.1 X.2.1 dX4_paper_5 hl (by decide) rfl (fun ls hl => ?_)
    refine lv_iload_n X.1 X.2.1 dX4_paper_7 rfl (lv_at hl 3 rfl) ?_
    refine lv_bipush (v := 20) X.1 X.2.1 dX4_paper_8 (by decide) ?_
    refine lv_bipush (v := 99) X.1 X.2.1 dX4_paper_10 (by decide) ?_
    refine n_calli w (n_runS (n := 3) (As := [.int x, .int 20, .int 99]) X (c_X4_isOutside l x 20 99) (bg_S kw_429 kw_430 kw_31 kw_431) rfl rfl (by decide +kernel) ⟨(Nat.le_of_ble_eq_true rfl), (Nat.le_of_ble_eq_true rfl)⟩ rfl hl.1 rfl (Nat.le_of_ble_eq_true rfl) dX4_paper_12 ⟨(Nat.zero_le _), (Nat.zero_le _)⟩) (fun H locs w => ?_)
    refine lv_if_ne (tgt := 29) X.1 X.2.1 dX4_paper_15 (by decide) (fun c3 => ?_) (fun c3 => ?_)
    ·
      exact x_throw2 (k := 57) (tx := "a sheet is 20 to 99 wide and high") hlt X rfl hlk hnt cn w hl.1 (by decide +kernel) (by  simp [er_paper, h2, c3]) rfl hm dX4_paper_29 dX4_paper_32 dX4_paper_33 dX4_paper_35 dX4_paper_38 (Nat.le_of_ble_eq_true rfl) (Nat.le_of_ble_eq_true rfl) rfl rfl rfl rfl
    ·
      refine lv_iload_n X.1 X.2.1 dX4_paper_18 rfl (lv_at hl 4 rfl) ?_
      refine lv_bipush (v := 20) X.1 X.2.1 dX4_paper_19 (by decide) ?_
      refine lv_bipush (v := 99) X.1 X.2.1 dX4_paper_21 (by decide) ?_
      refine n_calli w (n_runS (n := 3) (As := [.int h, .int 20, .int 99]) X (c_X4_isOutside l h 20 99) (bg_S kw_429 kw_430 kw_31 kw_431) rfl rfl (by decide +kernel) ⟨(Nat.le_of_ble_eq_true rfl), (Nat.le_of_ble_eq_true rfl)⟩ rfl hl.1 rfl (Nat.le_of_ble_eq_true rfl) dX4_paper_23 ⟨(Nat.zero_le _), (Nat.zero_le _)⟩) (fun H locs w => ?_)
      refine lv_if_eq (tgt := 39) X.1 X.2.1 dX4_paper_26 (by decide) (fun c4 => ?_) (fun c4 => ?_)
      ·
        refine lv_iload X.1 X.2.1 dX4_paper_39 (lv_at hl 5 rfl) ?_
        refine lv_iconst (v := 1) X.1 X.2.1 dX4_paper_41 (by decide) ?_
        refine lv_bipush (v := 99) X.1 X.2.1 dX4_paper_42 (by decide) ?_
        refine n_calli w (n_runS (n := 3) (As := [.int y, .int 1, .int 99]) X (c_X4_isOutside l y 1 99) (bg_S kw_429 kw_430 kw_31 kw_431) rfl rfl (by decide +kernel) ⟨(Nat.le_of_ble_eq_true rfl), (Nat.le_of_ble_eq_true rfl)⟩ rfl hl.1 rfl (Nat.le_of_ble_eq_true rfl) dX4_paper_44 ⟨(Nat.zero_le _), (Nat.zero_le _)⟩) (fun H locs w => ?_)
        refine lv_if_eq (tgt := 60) X.1 X.2.1 dX4_paper_47 (by decide) (fun c5 => ?_) (fun c5 => ?_)
        ·
          refine lv_aload X.1 X.2.1 dX4_paper_60 (lv_at hl 0 rfl) ?_
          refine gn_P X cn w (pap_in (in_erI h2)) 2 (by decide) (v := .int (F (2 + i.toNatClampNeg) 2)) rfl kw_66 dX4_paper_62 ?_
          refine lv_topi (fun x6 ex6 => ?_)
          refine lv_istore (lv' := [(6, .int x6), (5, .ref (ad (2 + i.toNatClampNeg))), (0, .ref (ad 0)), (1, .int i), (2, .int x), (3, .int h), (4, .int y)]) X.1 X.2.1 dX4_paper_65 hl (by decide) rfl (fun ls hl => ?_)
          refine lv_aload X.1 X.2.1 dX4_paper_67 (lv_at hl 1 rfl) ?_
          refine lv_iload_n X.1 X.2.1 dX4_paper_69 rfl (lv_at hl 4 rfl) ?_
          refine pn_P X cn w (pap_in (in_erI h2)) 0 (by decide) rfl (by decide +kernel) (v := x) kw_61 dX4_paper_70 (fun H locs w => ?_)
          obtain ⟨F7, eF7⟩ : ∃ G : Fm, G = up2 F (2 + i.toNatClampNeg) 0 x := ⟨_, rfl⟩
          rw [← eF7] at w
          refine lv_aload X.1 X.2.1 dX4_paper_73 (lv_at hl 1 rfl) ?_
          refine lv_iload_n X.1 X.2.1 dX4_paper_75 rfl (lv_at hl 5 rfl) ?_
          refine pn_P X cn w (pap_in (in_erI h2)) 1 (by decide) rfl (by decide +kernel) (v := h) kw_64 dX4_paper_76 (fun H locs w => ?_)
          obtain ⟨F8, eF8⟩ : ∃ G : Fm, G = up2 F7 (2 + i.toNatClampNeg) 1 h := ⟨_, rfl⟩
          rw [← eF8] at w
          refine lv_aload X.1 X.2.1 dX4_paper_79 (lv_at hl 1 rfl) ?_
          refine lv_iload X.1 X.2.1 dX4_paper_81 (lv_at hl 6 rfl) ?_
          refine pn_P X cn w (pap_in (in_erI h2)) 2 (by decide) rfl (by decide +kernel) (v := y) kw_66 dX4_paper_83 (fun H locs w => ?_)
          obtain ⟨F9, eF9⟩ : ∃ G : Fm, G = up2 F8 (2 + i.toNatClampNeg) 2 y := ⟨_, rfl⟩
          rw [← eF9] at w
          refine lv_iload X.1 X.2.1 dX4_paper_86 (lv_at hl 0 rfl) ?_
          exact vx_ret (w_iret X hr hlk w (by subst eF9; subst eF8; subst eF7; subst ex6; exact ⟨by simp [er_paper, h2, c3, c4, c5], rfl, rfl⟩) dX4_paper_88 rfl (Nat.zero_le _) (Nat.zero_le _))
        ·
          exact x_throw2 (k := 62) (tx := "a price is 1 to 99") hlt X rfl hlk hnt cn w hl.1 (by decide +kernel) (by  simp [er_paper, h2, c3, c4, c5]) rfl hm dX4_paper_50 dX4_paper_53 dX4_paper_54 dX4_paper_56 dX4_paper_59 (Nat.le_of_ble_eq_true rfl) (Nat.le_of_ble_eq_true rfl) rfl rfl rfl rfl
      ·
        exact x_throw2 (k := 57) (tx := "a sheet is 20 to 99 wide and high") hlt X rfl hlk hnt cn w hl.1 (by decide +kernel) (by  simp [er_paper, h2, c3, c4]) rfl hm dX4_paper_29 dX4_paper_32 dX4_paper_33 dX4_paper_35 dX4_paper_38 (Nat.le_of_ble_eq_true rfl) (Nat.le_of_ble_eq_true rfl) rfl rfl rfl rfl
  ·
    have hE : er_paper i x h y ≠ 0 ∧ exN ((erI 4 i)) = exN (er_paper i x h y) := by  simp [er_paper, h2, erI_1 h2]
    have hm' := hm hE.1
    exact x_gone X hlk hnt cn w (xw_runV (n := 1) (As := [.int i]) X cn w (lt17 (by decide)) wC_0 rfl (fun sz => c_X4_paperOf l D ca ad E F L S n hlt i 1 6 (fun _ => ⟨Nat.le_refl 1, Nat.le_refl 6⟩) sz) (bg_V kw_278 kw_280 kw_5 kw_31 kw_281) rfl rfl (by decide +kernel) ⟨(Nat.le_of_ble_eq_true rfl), (Nat.le_of_ble_eq_true rfl)⟩ rfl hl.1 rfl (Nat.le_of_ble_eq_true rfl) dX4_paper_2 ⟨hm'.1, hm'.2⟩) (fun st v t hq => by obtain ⟨⟨r, u, -, hp, -⟩, -⟩ := hq; exact h2 hp.1) hE.2 hE.1 (fun u hu => hu) hm rfl rfl

set_option maxHeartbeats 4000000 in
set_option maxRecDepth 100000 in
theorem c_X4_buy (l : Launch) (D : va_G) (ca : Nat → ClassId) (ad : Nat → Nat) (E : Em) (F : Fm) (L : Lm) (S : Sm) (n : Nat) (hlt : l.stackTraces = false) (q : Nat → Nat) (wf : Wf F L S n q) (i x : Int32) (mc ms : Nat) (hm : er_buy F i x ≠ 0 → 1 ≤ mc ∧ 6 ≤ ms) (sz : Nat) : vx_Met l yX4_buy (.code yX4_buy cX4_buy 4 (some .int) :: BG) { frames := 7, cells := mc, slots := ms, locals := 117 } (Pw D ca ad (E, F, L, S, n) sz [.ref (ad 0), .int i, .int x]) (Qi D ca ad n (fun r u => er_buy F i x = 0 ∧ r = s_bring F (2 + i.toNatClampNeg) x (2 + i.toNatClampNeg) 3 ∧ u.2 = (s_bring F (2 + i.toNatClampNeg) x, L, S, n)) sz) (Xq D ca ad n (er_buy F i x) (fun u => u.2 = (F, L, S, n)) sz) mc ms (wA ad n sz) := by
  refine open_X (σ := (E, F, L, S, n)) (Qc := Qi D ca ad n (fun r u => er_buy F i x = 0 ∧ r = s_bring F (2 + i.toNatClampNeg) x (2 + i.toNatClampNeg) 3 ∧ u.2 = (s_bring F (2 + i.toNatClampNeg) x, L, S, n))) (XC := Xq D ca ad n (er_buy F i x) (fun u => u.2 = (F, L, S, n))) (by decide +kernel) (Nat.le_of_ble_eq_true rfl) ?_
  intro p e s m args below meth c X hr hlk hnt w cn ls hl
  have hl : lv_has ls 4 [(0, .ref (ad 0)), (1, .int i), (2, .int x)] := hl
  have hs := wf.2.2.1
  have hJ := wf.2.1.2
  refine lv_aload_n X.1 X.2.1 dX4_buy_0 rfl (lv_at hl 0 rfl) ?_
  refine lv_iload_n X.1 X.2.1 dX4_buy_1 rfl (lv_at hl 1 rfl) ?_
  by_cases h2 : (erI 4 i) = 0
  ·
    refine w_callr cn w (w_runV (n := 1) (As := [.int i]) X cn w (lt17 (by decide)) wC_0 rfl (fun sz => met_of (c_X4_paperOf l D ca ad E F L S n hlt i 0 0 (fun h => (h h2).elim) sz) h2) (bg_V kw_278 kw_280 kw_5 kw_31 kw_281) rfl rfl (by decide +kernel) ⟨(Nat.le_of_ble_eq_true rfl), (Nat.le_of_ble_eq_true rfl)⟩ rfl hl.1 rfl (Nat.le_of_ble_eq_true rfl) dX4_buy_2 ⟨(Nat.zero_le _), (Nat.zero_le _)⟩) (fun r1 u H locs hp w => ?_)
    obtain ⟨-, rfl, rfl⟩ := hp
    refine W.eq (g2 := F0 m 5 ls [.ref (ad (2 + i.toNatClampNeg))]) rfl ?_
    refine lv_astore_n (lv' := [(3, .ref (ad (2 + i.toNatClampNeg))), (0, .ref (ad 0)), (1, .int i), (2, .int x)]) X.1 X.2.1 dX4_buy_5 rfl hl (by decide) rfl (fun ls hl => ?_)
    refine lv_iload_n X.1 X.2.1 dX4_buy_6 rfl (lv_at hl 3 rfl) ?_
    refine lv_iconst (v := 1) X.1 X.2.1 dX4_buy_7 (by decide) ?_
    refine lv_bipush (v := 40) X.1 X.2.1 dX4_buy_8 (by decide) ?_
    refine n_calli w (n_runS (n := 3) (As := [.int x, .int 1, .int 40]) X (c_X4_isOutside l x 1 40) (bg_S kw_429 kw_430 kw_31 kw_431) rfl rfl (by decide +kernel) ⟨(Nat.le_of_ble_eq_true rfl), (Nat.le_of_ble_eq_true rfl)⟩ rfl hl.1 rfl (Nat.le_of_ble_eq_true rfl) dX4_buy_10 ⟨(Nat.zero_le _), (Nat.zero_le _)⟩) (fun H locs w => ?_)
    refine lv_if_eq (tgt := 26) X.1 X.2.1 dX4_buy_13 (by decide) (fun c3 => ?_) (fun c3 => ?_)
    ·
      refine lv_iload_n X.1 X.2.1 dX4_buy_26 rfl (lv_at hl 3 rfl) ?_
      refine lv_aload_n X.1 X.2.1 dX4_buy_27 rfl (lv_at hl 0 rfl) ?_
      refine w_calli cn w (w_runVN (n := 0) (As := []) X cn w (lt17 (by have := (pap_in (in_erI h2)); omega)) (wC_P ((pap_in (in_erI h2))).1 ((pap_in (in_erI h2))).2) rfl (fun sz => c_X2_lotsWithRoom l D ca ad E F L S n (2 + i.toNatClampNeg) (pap_in (in_erI h2)) sz) kw_544 kw_546 kw_23 kw_32 kw_547 rfl rfl (by decide +kernel) ⟨(Nat.le_of_ble_eq_true rfl), (Nat.le_of_ble_eq_true rfl)⟩ rfl hl.1 rfl (Nat.le_of_ble_eq_true rfl) dX4_buy_28 ⟨(Nat.zero_le _), (Nat.zero_le _)⟩) (fun r4 u H locs hp w => ?_)
      obtain ⟨rfl, rfl⟩ := hp
      refine lv_icmp_le (tgt := 44) X.1 X.2.1 dX4_buy_31 (by decide) (fun c5 => ?_) (fun c5 => ?_)
      ·
        refine lv_aload_n X.1 X.2.1 dX4_buy_44 rfl (lv_at hl 1 rfl) ?_
        refine lv_aload_n X.1 X.2.1 dX4_buy_45 rfl (lv_at hl 0 rfl) ?_
        refine lv_iload_n X.1 X.2.1 dX4_buy_46 rfl (lv_at hl 3 rfl) ?_
        refine w_callv cn w (w_runV (n := 2) (As := [.ref (ad (2 + i.toNatClampNeg)), .int x]) X cn w (lt17 (by decide)) wC_0 rfl (fun sz => c_X4_bring l D ca ad E F L S n (2 + i.toNatClampNeg) (pap_in (in_erI h2)) x sz) (bg_V kw_550 kw_552 kw_24 kw_31 kw_553) rfl rfl (by decide +kernel) ⟨(Nat.le_of_ble_eq_true rfl), (Nat.le_of_ble_eq_true rfl)⟩ rfl hl.1 rfl (Nat.le_of_ble_eq_true rfl) dX4_buy_47 ⟨(Nat.zero_le _), (Nat.zero_le _)⟩) (fun u H locs hp w => ?_)
        subst hp
        refine lv_aload_n X.1 X.2.1 dX4_buy_50 rfl (lv_at hl 0 rfl) ?_
        refine gn_P X cn w (pap_in (in_erI h2)) 3 (by decide) (v := .int ((s_bring F (2 + i.toNatClampNeg) x) (2 + i.toNatClampNeg) 3)) rfl kw_68 dX4_buy_51 ?_
        exact vx_ret (w_iret X hr hlk w (by  exact ⟨by simp [er_buy, h2, c3, c5], rfl, rfl⟩) dX4_buy_54 rfl (Nat.zero_le _) (Nat.zero_le _))
      ·
        exact x_throw2 (k := 79) (tx := "the stock would be above 99999") hlt X rfl hlk hnt cn w hl.1 (by decide +kernel) (by  simp [er_buy, h2, c3, c5]) rfl hm dX4_buy_34 dX4_buy_37 dX4_buy_38 dX4_buy_40 dX4_buy_43 (Nat.le_of_ble_eq_true rfl) (Nat.le_of_ble_eq_true rfl) rfl rfl rfl rfl
    ·
      exact x_throw2 (k := 73) (tx := "lots are 1 to 40") hlt X rfl hlk hnt cn w hl.1 (by decide +kernel) (by  simp [er_buy, h2, c3]) rfl hm dX4_buy_16 dX4_buy_19 dX4_buy_20 dX4_buy_22 dX4_buy_25 (Nat.le_of_ble_eq_true rfl) (Nat.le_of_ble_eq_true rfl) rfl rfl rfl rfl
  ·
    have hE : er_buy F i x ≠ 0 ∧ exN ((erI 4 i)) = exN (er_buy F i x) := by  simp [er_buy, h2, erI_1 h2]
    have hm' := hm hE.1
    exact x_gone X hlk hnt cn w (xw_runV (n := 1) (As := [.int i]) X cn w (lt17 (by decide)) wC_0 rfl (fun sz => c_X4_paperOf l D ca ad E F L S n hlt i 1 6 (fun _ => ⟨Nat.le_refl 1, Nat.le_refl 6⟩) sz) (bg_V kw_278 kw_280 kw_5 kw_31 kw_281) rfl rfl (by decide +kernel) ⟨(Nat.le_of_ble_eq_true rfl), (Nat.le_of_ble_eq_true rfl)⟩ rfl hl.1 rfl (Nat.le_of_ble_eq_true rfl) dX4_buy_2 ⟨hm'.1, hm'.2⟩) (fun st v t hq => by obtain ⟨⟨r, u, -, hp, -⟩, -⟩ := hq; exact h2 hp.1) hE.2 hE.1 (fun u hu => hu) hm rfl rfl

set_option maxHeartbeats 4000000 in
set_option maxRecDepth 100000 in
theorem c_X4_ofPaper (l : Launch) (D : va_G) (ca : Nat → ClassId) (ad : Nat → Nat) (E : Em) (F : Fm) (L : Lm) (S : Sm) (n : Nat) (hlt : l.stackTraces = false) (q : Nat → Nat) (wf : Wf F L S n q) (i x : Int32) (mc ms : Nat) (hm : er_ofPaper i x ≠ 0 → 1 ≤ mc ∧ 6 ≤ ms) (sz : Nat) : vx_Met l yX4_ofPaper (.code yX4_ofPaper cX4_ofPaper 4 (some .int) :: BG) { frames := 7, cells := mc, slots := ms, locals := 139 } (Pw D ca ad (E, F, L, S, n) sz [.ref (ad 0), .int i, .int x]) (Qi D ca ad n (fun r u => er_ofPaper i x = 0 ∧ r = s_ofPaper F L S q (2 + i.toNatClampNeg) x ∧ u.2 = (F, L, S, n)) sz) (Xq D ca ad n (er_ofPaper i x) (fun u => u.2 = (F, L, S, n)) sz) mc ms (wA ad n sz) := by
  refine open_X (σ := (E, F, L, S, n)) (Qc := Qi D ca ad n (fun r u => er_ofPaper i x = 0 ∧ r = s_ofPaper F L S q (2 + i.toNatClampNeg) x ∧ u.2 = (F, L, S, n))) (XC := Xq D ca ad n (er_ofPaper i x) (fun u => u.2 = (F, L, S, n))) (by decide +kernel) (Nat.le_of_ble_eq_true rfl) ?_
  intro p e s m args below meth c X hr hlk hnt w cn ls hl
  have hl : lv_has ls 4 [(0, .ref (ad 0)), (1, .int i), (2, .int x)] := hl
  have hs := wf.2.2.1
  have hJ := wf.2.1.2
  refine lv_aload_n X.1 X.2.1 dX4_ofPaper_0 rfl (lv_at hl 0 rfl) ?_
  refine lv_iload_n X.1 X.2.1 dX4_ofPaper_1 rfl (lv_at hl 1 rfl) ?_
  by_cases h2 : (erI 4 i) = 0
  ·
    refine w_callr cn w (w_runV (n := 1) (As := [.int i]) X cn w (lt17 (by decide)) wC_0 rfl (fun sz => met_of (c_X4_paperOf l D ca ad E F L S n hlt i 0 0 (fun h => (h h2).elim) sz) h2) (bg_V kw_278 kw_280 kw_5 kw_31 kw_281) rfl rfl (by decide +kernel) ⟨(Nat.le_of_ble_eq_true rfl), (Nat.le_of_ble_eq_true rfl)⟩ rfl hl.1 rfl (Nat.le_of_ble_eq_true rfl) dX4_ofPaper_2 ⟨(Nat.zero_le _), (Nat.zero_le _)⟩) (fun r1 u H locs hp w => ?_)
    obtain ⟨-, rfl, rfl⟩ := hp
    refine W.eq (g2 := F0 m 5 ls [.ref (ad (2 + i.toNatClampNeg))]) rfl ?_
    refine lv_astore_n (lv' := [(3, .ref (ad (2 + i.toNatClampNeg))), (0, .ref (ad 0)), (1, .int i), (2, .int x)]) X.1 X.2.1 dX4_ofPaper_5 rfl hl (by decide) rfl (fun ls hl => ?_)
    refine lv_iload_n X.1 X.2.1 dX4_ofPaper_6 rfl (lv_at hl 3 rfl) ?_
    rcases tab_cases x 5 with c3 | ⟨c3n, c3l, c3⟩
    ·
      have c3 : x.toInt < 0 ∨ 5 < x.toInt := c3
      refine lv_tableOut (tgt := 76) X.1 X.2.1 dX4_ofPaper_7 c3 (by decide) ?_
      exact x_throw2 (k := 104) (tx := "of a paper one asks 0 to 5") hlt X rfl hlk hnt cn w hl.1 (by decide +kernel) (by  simp [er_ofPaper, erW, h2, c3]) rfl hm dX4_ofPaper_76 dX4_ofPaper_79 dX4_ofPaper_80 dX4_ofPaper_82 dX4_ofPaper_85 (Nat.le_of_ble_eq_true rfl) (Nat.le_of_ble_eq_true rfl) rfl rfl rfl rfl
    ·
      rcases (show c3n = 0 ∨ c3n = 1 ∨ c3n = 2 ∨ c3n = 3 ∨ c3n = 4 ∨ c3n = 5 by omega) with rfl | rfl | rfl | rfl | rfl | rfl
      ·
        refine lv_tableIn (tgt := 44) X.1 X.2.1 dX4_ofPaper_7 (by rw [c3]; decide) (by rw [c3]; decide) (by rw [c3]; rfl) (by decide) ?_
        refine lv_aload_n X.1 X.2.1 dX4_ofPaper_44 rfl (lv_at hl 0 rfl) ?_
        refine gn_P X cn w (pap_in (in_erI h2)) 0 (by decide) (v := .int (F (2 + i.toNatClampNeg) 0)) rfl kw_61 dX4_ofPaper_45 ?_
        exact vx_ret (w_iret X hr hlk w (by  exact ⟨by simp [er_ofPaper, erW, h2, c3], by simp [s_ofPaper, h2, c3], rfl⟩) dX4_ofPaper_48 rfl (Nat.zero_le _) (Nat.zero_le _))
      ·
        refine lv_tableIn (tgt := 49) X.1 X.2.1 dX4_ofPaper_7 (by rw [c3]; decide) (by rw [c3]; decide) (by rw [c3]; rfl) (by decide) ?_
        refine lv_aload_n X.1 X.2.1 dX4_ofPaper_49 rfl (lv_at hl 0 rfl) ?_
        refine gn_P X cn w (pap_in (in_erI h2)) 1 (by decide) (v := .int (F (2 + i.toNatClampNeg) 1)) rfl kw_64 dX4_ofPaper_50 ?_
        exact vx_ret (w_iret X hr hlk w (by  exact ⟨by simp [er_ofPaper, erW, h2, c3], by simp [s_ofPaper, h2, c3], rfl⟩) dX4_ofPaper_53 rfl (Nat.zero_le _) (Nat.zero_le _))
      ·
        refine lv_tableIn (tgt := 54) X.1 X.2.1 dX4_ofPaper_7 (by rw [c3]; decide) (by rw [c3]; decide) (by rw [c3]; rfl) (by decide) ?_
        refine lv_aload_n X.1 X.2.1 dX4_ofPaper_54 rfl (lv_at hl 0 rfl) ?_
        refine gn_P X cn w (pap_in (in_erI h2)) 2 (by decide) (v := .int (F (2 + i.toNatClampNeg) 2)) rfl kw_66 dX4_ofPaper_55 ?_
        exact vx_ret (w_iret X hr hlk w (by  exact ⟨by simp [er_ofPaper, erW, h2, c3], by simp [s_ofPaper, h2, c3], rfl⟩) dX4_ofPaper_58 rfl (Nat.zero_le _) (Nat.zero_le _))
      ·
        refine lv_tableIn (tgt := 59) X.1 X.2.1 dX4_ofPaper_7 (by rw [c3]; decide) (by rw [c3]; decide) (by rw [c3]; rfl) (by decide) ?_
        refine lv_aload_n X.1 X.2.1 dX4_ofPaper_59 rfl (lv_at hl 0 rfl) ?_
        refine gn_P X cn w (pap_in (in_erI h2)) 3 (by decide) (v := .int (F (2 + i.toNatClampNeg) 3)) rfl kw_68 dX4_ofPaper_60 ?_
        exact vx_ret (w_iret X hr hlk w (by  exact ⟨by simp [er_ofPaper, erW, h2, c3], by simp [s_ofPaper, h2, c3], rfl⟩) dX4_ofPaper_63 rfl (Nat.zero_le _) (Nat.zero_le _))
      ·
        refine lv_tableIn (tgt := 64) X.1 X.2.1 dX4_ofPaper_7 (by rw [c3]; decide) (by rw [c3]; decide) (by rw [c3]; rfl) (by decide) ?_
        refine lv_aload_n X.1 X.2.1 dX4_ofPaper_64 rfl (lv_at hl 1 rfl) ?_
        refine lv_aload_n X.1 X.2.1 dX4_ofPaper_65 rfl (lv_at hl 0 rfl) ?_
        refine w_calli cn w (w_runV (n := 1) (As := [.ref (ad (2 + i.toNatClampNeg))]) X cn w (lt17 (by decide)) wC_0 rfl (fun sz => c_X4_forecastOf l D ca ad E F L S n q wf (2 + i.toNatClampNeg) (pap_in (in_erI h2)) sz) (bg_V kw_298 kw_300 kw_6 kw_31 kw_301) rfl rfl (by decide +kernel) ⟨(Nat.le_of_ble_eq_true rfl), (Nat.le_of_ble_eq_true rfl)⟩ rfl hl.1 rfl (Nat.le_of_ble_eq_true rfl) dX4_ofPaper_66 ⟨(Nat.zero_le _), (Nat.zero_le _)⟩) (fun r4 u H locs hp w => ?_)
        obtain ⟨E5, q6⟩ := u
        obtain ⟨rfl, h7⟩ := hp
        have h7 : q6 = (F, L, S, n) := h7
        subst h7
        exact vx_ret (w_iret X hr hlk w (by  exact ⟨by simp [er_ofPaper, erW, h2, c3], by simp [s_ofPaper, h2, c3], rfl⟩) dX4_ofPaper_69 rfl (Nat.zero_le _) (Nat.zero_le _))
      ·
        refine lv_tableIn (tgt := 70) X.1 X.2.1 dX4_ofPaper_7 (by rw [c3]; decide) (by rw [c3]; decide) (by rw [c3]; rfl) (by decide) ?_
        refine lv_aload_n X.1 X.2.1 dX4_ofPaper_70 rfl (lv_at hl 1 rfl) ?_
        refine lv_aload_n X.1 X.2.1 dX4_ofPaper_71 rfl (lv_at hl 0 rfl) ?_
        refine w_calli cn w (w_runV (n := 1) (As := [.ref (ad (2 + i.toNatClampNeg))]) X cn w (lt17 (by decide)) wC_0 rfl (fun sz => c_X4_shortOf l D ca ad E F L S n q wf (2 + i.toNatClampNeg) (pap_in (in_erI h2)) sz) (bg_V kw_347 kw_349 kw_13 kw_31 kw_350) rfl rfl (by decide +kernel) ⟨(Nat.le_of_ble_eq_true rfl), (Nat.le_of_ble_eq_true rfl)⟩ rfl hl.1 rfl (Nat.le_of_ble_eq_true rfl) dX4_ofPaper_72 ⟨(Nat.zero_le _), (Nat.zero_le _)⟩) (fun r8 u H locs hp w => ?_)
        obtain ⟨E9, q10⟩ := u
        obtain ⟨rfl, h11⟩ := hp
        have h11 : q10 = (F, L, S, n) := h11
        subst h11
        exact vx_ret (w_iret X hr hlk w (by  exact ⟨by simp [er_ofPaper, erW, h2, c3], by simp [s_ofPaper, h2, c3], rfl⟩) dX4_ofPaper_75 rfl (Nat.zero_le _) (Nat.zero_le _))
  ·
    have hE : er_ofPaper i x ≠ 0 ∧ exN ((erI 4 i)) = exN (er_ofPaper i x) := by  simp [er_ofPaper, erW, h2, erI_1 h2]
    have hm' := hm hE.1
    exact x_gone X hlk hnt cn w (xw_runV (n := 1) (As := [.int i]) X cn w (lt17 (by decide)) wC_0 rfl (fun sz => c_X4_paperOf l D ca ad E F L S n hlt i 1 6 (fun _ => ⟨Nat.le_refl 1, Nat.le_refl 6⟩) sz) (bg_V kw_278 kw_280 kw_5 kw_31 kw_281) rfl rfl (by decide +kernel) ⟨(Nat.le_of_ble_eq_true rfl), (Nat.le_of_ble_eq_true rfl)⟩ rfl hl.1 rfl (Nat.le_of_ble_eq_true rfl) dX4_ofPaper_2 ⟨hm'.1, hm'.2⟩) (fun st v t hq => by obtain ⟨⟨r, u, -, hp, -⟩, -⟩ := hq; exact h2 hp.1) hE.2 hE.1 (fun u hu => hu) hm rfl rfl

set_option maxHeartbeats 4000000 in
set_option maxRecDepth 100000 in
theorem c_X4_ofJob (l : Launch) (D : va_G) (ca : Nat → ClassId) (ad : Nat → Nat) (E : Em) (F : Fm) (L : Lm) (S : Sm) (n : Nat) (hlt : l.stackTraces = false) (q : Nat → Nat) (wf : Wf F L S n q) (i x : Int32) (mc ms : Nat) (hm : er_ofJob n i x ≠ 0 → 1 ≤ mc ∧ 6 ≤ ms) (sz : Nat) : vx_Met l yX4_ofJob (.code yX4_ofJob cX4_ofJob 4 (some .int) :: BG) { frames := 7, cells := mc, slots := ms, locals := 117 } (Pw D ca ad (E, F, L, S, n) sz [.ref (ad 0), .int i, .int x]) (Qi D ca ad n (fun r u => er_ofJob n i x = 0 ∧ r = s_ofJob F i.toNatClampNeg x ∧ u.2 = (F, L, S, n)) sz) (Xq D ca ad n (er_ofJob n i x) (fun u => u.2 = (F, L, S, n)) sz) mc ms (wA ad n sz) := by
  refine open_X (σ := (E, F, L, S, n)) (Qc := Qi D ca ad n (fun r u => er_ofJob n i x = 0 ∧ r = s_ofJob F i.toNatClampNeg x ∧ u.2 = (F, L, S, n))) (XC := Xq D ca ad n (er_ofJob n i x) (fun u => u.2 = (F, L, S, n))) (by decide +kernel) (Nat.le_of_ble_eq_true rfl) ?_
  intro p e s m args below meth c X hr hlk hnt w cn ls hl
  have hl : lv_has ls 4 [(0, .ref (ad 0)), (1, .int i), (2, .int x)] := hl
  have hs := wf.2.2.1
  have hJ := wf.2.1.2
  refine lv_aload_n X.1 X.2.1 dX4_ofJob_0 rfl (lv_at hl 0 rfl) ?_
  refine lv_iload_n X.1 X.2.1 dX4_ofJob_1 rfl (lv_at hl 1 rfl) ?_
  by_cases h2 : (erI n i) = 0
  ·
    refine w_callr cn w (w_runV (n := 1) (As := [.int i]) X cn w (lt17 (by decide)) wC_0 rfl (fun sz => met_of (c_X4_jobOf l D ca ad E F L S n hlt wf.2.1.2 wf.1 i 0 0 (fun h => (h h2).elim) sz) h2) (bg_V kw_384 kw_386 kw_18 kw_31 kw_387) rfl rfl (by decide +kernel) ⟨(Nat.le_of_ble_eq_true rfl), (Nat.le_of_ble_eq_true rfl)⟩ rfl hl.1 rfl (Nat.le_of_ble_eq_true rfl) dX4_ofJob_2 ⟨(Nat.zero_le _), (Nat.zero_le _)⟩) (fun r1 u H locs hp w => ?_)
    obtain ⟨-, rfl, rfl⟩ := hp
    refine W.eq (g2 := F0 m 5 ls [.ref (ad (17 + i.toNatClampNeg))]) rfl ?_
    refine lv_astore_n (lv' := [(3, .ref (ad (17 + i.toNatClampNeg))), (0, .ref (ad 0)), (1, .int i), (2, .int x)]) X.1 X.2.1 dX4_ofJob_5 rfl hl (by decide) rfl (fun ls hl => ?_)
    refine lv_iload_n X.1 X.2.1 dX4_ofJob_6 rfl (lv_at hl 3 rfl) ?_
    rcases tab_cases x 12 with c3 | ⟨c3n, c3l, c3⟩
    ·
      have c3 : x.toInt < 0 ∨ 12 < x.toInt := c3
      refine lv_tableOut (tgt := 145) X.1 X.2.1 dX4_ofJob_7 c3 (by decide) ?_
      exact x_throw2 (k := 204) (tx := "of a job one asks 0 to 12") hlt X rfl hlk hnt cn w hl.1 (by decide +kernel) (by  simp [er_ofJob, erW, h2, c3]) rfl hm dX4_ofJob_145 dX4_ofJob_148 dX4_ofJob_149 dX4_ofJob_151 dX4_ofJob_154 (Nat.le_of_ble_eq_true rfl) (Nat.le_of_ble_eq_true rfl) rfl rfl rfl rfl
    ·
      rcases (show c3n = 0 ∨ c3n = 1 ∨ c3n = 2 ∨ c3n = 3 ∨ c3n = 4 ∨ c3n = 5 ∨ c3n = 6 ∨ c3n = 7 ∨ c3n = 8 ∨ c3n = 9 ∨ c3n = 10 ∨ c3n = 11 ∨ c3n = 12 by omega) with rfl | rfl | rfl | rfl | rfl | rfl | rfl | rfl | rfl | rfl | rfl | rfl | rfl
      ·
        refine lv_tableIn (tgt := 72) X.1 X.2.1 dX4_ofJob_7 (by rw [c3]; decide) (by rw [c3]; decide) (by rw [c3]; rfl) (by decide) ?_
        refine lv_aload_n X.1 X.2.1 dX4_ofJob_72 rfl (lv_at hl 0 rfl) ?_
        refine gn_J X cn w (cl_lt (in_erI h2)) 1 (by decide) (v := .int (F (17 + i.toNatClampNeg) 1)) rfl kw_466 dX4_ofJob_73 ?_
        exact vx_ret (w_iret X hr hlk w (by  exact ⟨by simp [er_ofJob, erW, h2, c3], by simp [s_ofJob, h2, c3], rfl⟩) dX4_ofJob_76 rfl (Nat.zero_le _) (Nat.zero_le _))
      ·
        refine lv_tableIn (tgt := 77) X.1 X.2.1 dX4_ofJob_7 (by rw [c3]; decide) (by rw [c3]; decide) (by rw [c3]; rfl) (by decide) ?_
        refine lv_aload_n X.1 X.2.1 dX4_ofJob_77 rfl (lv_at hl 0 rfl) ?_
        refine gn_J X cn w (cl_lt (in_erI h2)) 3 (by decide) (v := .int (F (17 + i.toNatClampNeg) 3)) rfl kw_470 dX4_ofJob_78 ?_
        exact vx_ret (w_iret X hr hlk w (by  exact ⟨by simp [er_ofJob, erW, h2, c3], by simp [s_ofJob, h2, c3], rfl⟩) dX4_ofJob_81 rfl (Nat.zero_le _) (Nat.zero_le _))
      ·
        refine lv_tableIn (tgt := 82) X.1 X.2.1 dX4_ofJob_7 (by rw [c3]; decide) (by rw [c3]; decide) (by rw [c3]; rfl) (by decide) ?_
        refine lv_aload_n X.1 X.2.1 dX4_ofJob_82 rfl (lv_at hl 0 rfl) ?_
        refine gn_J X cn w (cl_lt (in_erI h2)) 4 (by decide) (v := .int (F (17 + i.toNatClampNeg) 4)) rfl kw_473 dX4_ofJob_83 ?_
        exact vx_ret (w_iret X hr hlk w (by  exact ⟨by simp [er_ofJob, erW, h2, c3], by simp [s_ofJob, h2, c3], rfl⟩) dX4_ofJob_86 rfl (Nat.zero_le _) (Nat.zero_le _))
      ·
        refine lv_tableIn (tgt := 87) X.1 X.2.1 dX4_ofJob_7 (by rw [c3]; decide) (by rw [c3]; decide) (by rw [c3]; rfl) (by decide) ?_
        refine lv_aload_n X.1 X.2.1 dX4_ofJob_87 rfl (lv_at hl 0 rfl) ?_
        refine gn_J X cn w (cl_lt (in_erI h2)) 5 (by decide) (v := .int (F (17 + i.toNatClampNeg) 5)) rfl kw_475 dX4_ofJob_88 ?_
        exact vx_ret (w_iret X hr hlk w (by  exact ⟨by simp [er_ofJob, erW, h2, c3], by simp [s_ofJob, h2, c3], rfl⟩) dX4_ofJob_91 rfl (Nat.zero_le _) (Nat.zero_le _))
      ·
        refine lv_tableIn (tgt := 92) X.1 X.2.1 dX4_ofJob_7 (by rw [c3]; decide) (by rw [c3]; decide) (by rw [c3]; rfl) (by decide) ?_
        refine lv_aload_n X.1 X.2.1 dX4_ofJob_92 rfl (lv_at hl 0 rfl) ?_
        refine gn_J X cn w (cl_lt (in_erI h2)) 6 (by decide) (v := .int (F (17 + i.toNatClampNeg) 6)) rfl kw_477 dX4_ofJob_93 ?_
        refine lv_if_eq (tgt := 103) X.1 X.2.1 dX4_ofJob_96 (by decide) (fun c4 => ?_) (fun c4 => ?_)
        ·
          refine lv_iconst (v := 0) X.1 X.2.1 dX4_ofJob_103 (by decide) ?_
          exact vx_ret (w_iret X hr hlk w (by  exact ⟨by simp [er_ofJob, erW, h2, c3, c4], by simp [s_ofJob, h2, c3, c4], rfl⟩) dX4_ofJob_104 rfl (Nat.zero_le _) (Nat.zero_le _))
        ·
          refine lv_iconst (v := 1) X.1 X.2.1 dX4_ofJob_99 (by decide) ?_
          refine lv_goto (tgt := 104) X.1 X.2.1 dX4_ofJob_100 (by decide) ?_
          exact vx_ret (w_iret X hr hlk w (by  exact ⟨by simp [er_ofJob, erW, h2, c3, c4], by simp [s_ofJob, h2, c3, c4], rfl⟩) dX4_ofJob_104 rfl (Nat.zero_le _) (Nat.zero_le _))
      ·
        refine lv_tableIn (tgt := 105) X.1 X.2.1 dX4_ofJob_7 (by rw [c3]; decide) (by rw [c3]; decide) (by rw [c3]; rfl) (by decide) ?_
        refine lv_aload_n X.1 X.2.1 dX4_ofJob_105 rfl (lv_at hl 0 rfl) ?_
        refine gn_J X cn w (cl_lt (in_erI h2)) 7 (by decide) (v := .int (F (17 + i.toNatClampNeg) 7)) rfl kw_479 dX4_ofJob_106 ?_
        exact vx_ret (w_iret X hr hlk w (by  exact ⟨by simp [er_ofJob, erW, h2, c3], by simp [s_ofJob, h2, c3], rfl⟩) dX4_ofJob_109 rfl (Nat.zero_le _) (Nat.zero_le _))
      ·
        refine lv_tableIn (tgt := 110) X.1 X.2.1 dX4_ofJob_7 (by rw [c3]; decide) (by rw [c3]; decide) (by rw [c3]; rfl) (by decide) ?_
        refine lv_aload_n X.1 X.2.1 dX4_ofJob_110 rfl (lv_at hl 0 rfl) ?_
        refine gn_J X cn w (cl_lt (in_erI h2)) 8 (by decide) (v := .int (F (17 + i.toNatClampNeg) 8)) rfl kw_481 dX4_ofJob_111 ?_
        exact vx_ret (w_iret X hr hlk w (by  exact ⟨by simp [er_ofJob, erW, h2, c3], by simp [s_ofJob, h2, c3], rfl⟩) dX4_ofJob_114 rfl (Nat.zero_le _) (Nat.zero_le _))
      ·
        refine lv_tableIn (tgt := 115) X.1 X.2.1 dX4_ofJob_7 (by rw [c3]; decide) (by rw [c3]; decide) (by rw [c3]; rfl) (by decide) ?_
        refine lv_aload_n X.1 X.2.1 dX4_ofJob_115 rfl (lv_at hl 0 rfl) ?_
        refine gn_J X cn w (cl_lt (in_erI h2)) 10 (by decide) (v := .int (F (17 + i.toNatClampNeg) 10)) rfl kw_485 dX4_ofJob_116 ?_
        exact vx_ret (w_iret X hr hlk w (by  exact ⟨by simp [er_ofJob, erW, h2, c3], by simp [s_ofJob, h2, c3], rfl⟩) dX4_ofJob_119 rfl (Nat.zero_le _) (Nat.zero_le _))
      ·
        refine lv_tableIn (tgt := 120) X.1 X.2.1 dX4_ofJob_7 (by rw [c3]; decide) (by rw [c3]; decide) (by rw [c3]; rfl) (by decide) ?_
        refine lv_aload_n X.1 X.2.1 dX4_ofJob_120 rfl (lv_at hl 0 rfl) ?_
        refine w_calli cn w (w_runVN (n := 0) (As := []) X cn w (Nat.add_lt_add_left (cl_lt (in_erI h2)) 17) wC_J rfl (fun sz => c_X1_sheets l D ca ad E F L S n i.toNatClampNeg (cl_lt (in_erI h2)) sz) kw_314 kw_316 kw_10 kw_42 kw_318 rfl rfl (by decide +kernel) ⟨(Nat.le_of_ble_eq_true rfl), (Nat.le_of_ble_eq_true rfl)⟩ rfl hl.1 rfl (Nat.le_of_ble_eq_true rfl) dX4_ofJob_121 ⟨(Nat.zero_le _), (Nat.zero_le _)⟩) (fun r5 u H locs hp w => ?_)
        obtain ⟨rfl, rfl⟩ := hp
        exact vx_ret (w_iret X hr hlk w (by  exact ⟨by simp [er_ofJob, erW, h2, c3], by simp [s_ofJob, h2, c3], rfl⟩) dX4_ofJob_124 rfl (Nat.zero_le _) (Nat.zero_le _))
      ·
        refine lv_tableIn (tgt := 125) X.1 X.2.1 dX4_ofJob_7 (by rw [c3]; decide) (by rw [c3]; decide) (by rw [c3]; rfl) (by decide) ?_
        refine lv_aload_n X.1 X.2.1 dX4_ofJob_125 rfl (lv_at hl 0 rfl) ?_
        refine gn_J X cn w (cl_lt (in_erI h2)) 11 (by decide) (v := .int (F (17 + i.toNatClampNeg) 11)) rfl kw_487 dX4_ofJob_126 ?_
        exact vx_ret (w_iret X hr hlk w (by  exact ⟨by simp [er_ofJob, erW, h2, c3], by simp [s_ofJob, h2, c3], rfl⟩) dX4_ofJob_129 rfl (Nat.zero_le _) (Nat.zero_le _))
      ·
        refine lv_tableIn (tgt := 130) X.1 X.2.1 dX4_ofJob_7 (by rw [c3]; decide) (by rw [c3]; decide) (by rw [c3]; rfl) (by decide) ?_
        refine lv_aload_n X.1 X.2.1 dX4_ofJob_130 rfl (lv_at hl 0 rfl) ?_
        refine gn_J X cn w (cl_lt (in_erI h2)) 12 (by decide) (v := .int (F (17 + i.toNatClampNeg) 12)) rfl kw_488 dX4_ofJob_131 ?_
        exact vx_ret (w_iret X hr hlk w (by  exact ⟨by simp [er_ofJob, erW, h2, c3], by simp [s_ofJob, h2, c3], rfl⟩) dX4_ofJob_134 rfl (Nat.zero_le _) (Nat.zero_le _))
      ·
        refine lv_tableIn (tgt := 135) X.1 X.2.1 dX4_ofJob_7 (by rw [c3]; decide) (by rw [c3]; decide) (by rw [c3]; rfl) (by decide) ?_
        refine lv_aload_n X.1 X.2.1 dX4_ofJob_135 rfl (lv_at hl 0 rfl) ?_
        refine gn_J X cn w (cl_lt (in_erI h2)) 13 (by decide) (v := .int (F (17 + i.toNatClampNeg) 13)) rfl kw_489 dX4_ofJob_136 ?_
        exact vx_ret (w_iret X hr hlk w (by  exact ⟨by simp [er_ofJob, erW, h2, c3], by simp [s_ofJob, h2, c3], rfl⟩) dX4_ofJob_139 rfl (Nat.zero_le _) (Nat.zero_le _))
      ·
        refine lv_tableIn (tgt := 140) X.1 X.2.1 dX4_ofJob_7 (by rw [c3]; decide) (by rw [c3]; decide) (by rw [c3]; rfl) (by decide) ?_
        refine lv_aload_n X.1 X.2.1 dX4_ofJob_140 rfl (lv_at hl 0 rfl) ?_
        refine gn_J X cn w (cl_lt (in_erI h2)) 9 (by decide) (v := .int (F (17 + i.toNatClampNeg) 9)) rfl kw_483 dX4_ofJob_141 ?_
        exact vx_ret (w_iret X hr hlk w (by  exact ⟨by simp [er_ofJob, erW, h2, c3], by simp [s_ofJob, h2, c3], rfl⟩) dX4_ofJob_144 rfl (Nat.zero_le _) (Nat.zero_le _))
  ·
    have hE : er_ofJob n i x ≠ 0 ∧ exN ((erI n i)) = exN (er_ofJob n i x) := by  simp [er_ofJob, erW, h2, erI_1 h2]
    have hm' := hm hE.1
    exact x_gone X hlk hnt cn w (xw_runV (n := 1) (As := [.int i]) X cn w (lt17 (by decide)) wC_0 rfl (fun sz => c_X4_jobOf l D ca ad E F L S n hlt wf.2.1.2 wf.1 i 1 6 (fun _ => ⟨Nat.le_refl 1, Nat.le_refl 6⟩) sz) (bg_V kw_384 kw_386 kw_18 kw_31 kw_387) rfl rfl (by decide +kernel) ⟨(Nat.le_of_ble_eq_true rfl), (Nat.le_of_ble_eq_true rfl)⟩ rfl hl.1 rfl (Nat.le_of_ble_eq_true rfl) dX4_ofJob_2 ⟨hm'.1, hm'.2⟩) (fun st v t hq => by obtain ⟨⟨r, u, -, hp, -⟩, -⟩ := hq; exact h2 hp.1) hE.2 hE.1 (fun u hu => hu) hm rfl rfl

set_option maxHeartbeats 4000000 in
set_option maxRecDepth 100000 in
theorem c_X4_expected (l : Launch) (D : va_G) (ca : Nat → ClassId) (ad : Nat → Nat) (E : Em) (F : Fm) (L : Lm) (S : Sm) (n : Nat) (hlt : l.stackTraces = false) (q : Nat → Nat) (wf : Wf F L S n q) (i r x : Int32) (mc ms : Nat) (hm : er_expected n i r x ≠ 0 → 1 ≤ mc ∧ 6 ≤ ms) (sz : Nat) : vx_Met l yX4_expected (.code yX4_expected cX4_expected 7 (some .int) :: BG) { frames := 7, cells := mc, slots := ms, locals := 117 } (Pw D ca ad (E, F, L, S, n) sz [.ref (ad 0), .int i, .int r, .int x]) (Qi D ca ad n (fun v u => er_expected n i r x = 0 ∧ v = s_expected F S i.toNatClampNeg (6 + r.toNatClampNeg) x ∧ u.2 = (F, L, S, n)) sz) (Xq D ca ad n (er_expected n i r x) (fun u => u.2 = (F, L, S, n)) sz) mc ms (wA ad n sz) := by
  refine open_X (σ := (E, F, L, S, n)) (Qc := Qi D ca ad n (fun v u => er_expected n i r x = 0 ∧ v = s_expected F S i.toNatClampNeg (6 + r.toNatClampNeg) x ∧ u.2 = (F, L, S, n))) (XC := Xq D ca ad n (er_expected n i r x) (fun u => u.2 = (F, L, S, n))) (by decide +kernel) (Nat.le_of_ble_eq_true rfl) ?_
  intro p e s m args below meth c X hr hlk hnt w cn ls hl
  have hl : lv_has ls 7 [(0, .ref (ad 0)), (1, .int i), (2, .int r), (3, .int x)] := hl
  have hs := wf.2.2.1
  have hJ := wf.2.1.2
  refine lv_aload_n X.1 X.2.1 dX4_expected_0 rfl (lv_at hl 0 rfl) ?_
  refine lv_iload_n X.1 X.2.1 dX4_expected_1 rfl (lv_at hl 1 rfl) ?_
  by_cases h2 : (erI n i) = 0
  ·
    refine w_callr cn w (w_runV (n := 1) (As := [.int i]) X cn w (lt17 (by decide)) wC_0 rfl (fun sz => met_of (c_X4_jobOf l D ca ad E F L S n hlt wf.2.1.2 wf.1 i 0 0 (fun h => (h h2).elim) sz) h2) (bg_V kw_384 kw_386 kw_18 kw_31 kw_387) rfl rfl (by decide +kernel) ⟨(Nat.le_of_ble_eq_true rfl), (Nat.le_of_ble_eq_true rfl)⟩ rfl hl.1 rfl (Nat.le_of_ble_eq_true rfl) dX4_expected_2 ⟨(Nat.zero_le _), (Nat.zero_le _)⟩) (fun r1 u H locs hp w => ?_)
    obtain ⟨-, rfl, rfl⟩ := hp
    refine W.eq (g2 := F0 m 5 ls [.ref (ad (17 + i.toNatClampNeg))]) rfl ?_
    refine lv_astore (lv' := [(4, .ref (ad (17 + i.toNatClampNeg))), (0, .ref (ad 0)), (1, .int i), (2, .int r), (3, .int x)]) X.1 X.2.1 dX4_expected_5 hl (by decide) rfl (fun ls hl => ?_)
    refine lv_aload_n X.1 X.2.1 dX4_expected_7 rfl (lv_at hl 1 rfl) ?_
    refine lv_iload_n X.1 X.2.1 dX4_expected_8 rfl (lv_at hl 3 rfl) ?_
    by_cases h4 : (erI 3 r) = 0
    ·
      refine w_callr cn w (w_runV (n := 1) (As := [.int r]) X cn w (lt17 (by decide)) wC_0 rfl (fun sz => met_of (c_X4_pressOf l D ca ad E F L S n hlt r 0 0 (fun h => (h h4).elim) sz) h4) (bg_V kw_361 kw_363 kw_15 kw_31 kw_364) rfl rfl (by decide +kernel) ⟨(Nat.le_of_ble_eq_true rfl), (Nat.le_of_ble_eq_true rfl)⟩ rfl hl.1 rfl (Nat.le_of_ble_eq_true rfl) dX4_expected_9 ⟨(Nat.zero_le _), (Nat.zero_le _)⟩) (fun r3 u H locs hp w => ?_)
      obtain ⟨-, rfl, rfl⟩ := hp
      refine W.eq (g2 := F0 m 12 ls [.ref (ad (6 + r.toNatClampNeg))]) rfl ?_
      refine lv_astore (lv' := [(5, .ref (ad (6 + r.toNatClampNeg))), (4, .ref (ad (17 + i.toNatClampNeg))), (0, .ref (ad 0)), (1, .int i), (2, .int r), (3, .int x)]) X.1 X.2.1 dX4_expected_12 hl (by decide) rfl (fun ls hl => ?_)
      refine lv_aload_n X.1 X.2.1 dX4_expected_14 rfl (lv_at hl 2 rfl) ?_
      refine lv_aload X.1 X.2.1 dX4_expected_15 (lv_at hl 1 rfl) ?_
      refine lv_aload X.1 X.2.1 dX4_expected_17 (lv_at hl 0 rfl) ?_
      refine lv_aload X.1 X.2.1 dX4_expected_19 (lv_at hl 0 rfl) ?_
      refine gn_R X cn w (prs_in (in_erI h4)) 1 (by decide) (v := .int (F (6 + r.toNatClampNeg) 1)) rfl kw_91 dX4_expected_21 ?_
      refine w_callr cn w (w_runV (n := 3) (As := [.ref (ad (17 + i.toNatClampNeg)), .ref (ad (6 + r.toNatClampNeg)), .int (F (6 + r.toNatClampNeg) 1)]) X cn w (lt17 (by decide)) wC_0 rfl (fun sz => c_X4_expect l D ca ad E F L S n i.toNatClampNeg (cl_lt (in_erI h2)) (6 + r.toNatClampNeg) (prs_in (in_erI h4)) (F (6 + r.toNatClampNeg) 1) hs sz) (bg_V kw_310 kw_312 kw_9 kw_31 kw_313) rfl rfl (by decide +kernel) ⟨(Nat.le_of_ble_eq_true rfl), (Nat.le_of_ble_eq_true rfl)⟩ rfl hl.1 rfl (Nat.le_of_ble_eq_true rfl) dX4_expected_24 ⟨(Nat.zero_le _), (Nat.zero_le _)⟩) (fun r5 u H locs hp w => ?_)
      obtain ⟨rfl, rfl⟩ := hp
      refine W.eq (g2 := F0 m 27 ls [.ref (ad 1)]) rfl ?_
      refine lv_astore (lv' := [(6, .ref (ad 1)), (5, .ref (ad (6 + r.toNatClampNeg))), (4, .ref (ad (17 + i.toNatClampNeg))), (0, .ref (ad 0)), (1, .int i), (2, .int r), (3, .int x)]) X.1 X.2.1 dX4_expected_27 hl (by decide) rfl (fun ls hl => ?_)
      refine lv_iload_n X.1 X.2.1 dX4_expected_29 rfl (lv_at hl 6 rfl) ?_
      rcases tab_cases x 6 with c6 | ⟨c6n, c6l, c6⟩
      ·
        have c6 : x.toInt < 0 ∨ 6 < x.toInt := c6
        refine lv_tableOut (tgt := 114) X.1 X.2.1 dX4_expected_30 c6 (by decide) ?_
        exact x_throw2 (k := 224) (tx := "of what is expected one asks 0 to 6") hlt X rfl hlk hnt cn w hl.1 (by decide +kernel) (by  simp [er_expected, erW, h2, h4, c6]) rfl hm dX4_expected_114 dX4_expected_117 dX4_expected_118 dX4_expected_120 dX4_expected_123 (Nat.le_of_ble_eq_true rfl) (Nat.le_of_ble_eq_true rfl) rfl rfl rfl rfl
      ·
        rcases (show c6n = 0 ∨ c6n = 1 ∨ c6n = 2 ∨ c6n = 3 ∨ c6n = 4 ∨ c6n = 5 ∨ c6n = 6 by omega) with rfl | rfl | rfl | rfl | rfl | rfl | rfl
        ·
          refine lv_tableIn (tgt := 72) X.1 X.2.1 dX4_expected_30 (by rw [c6]; decide) (by rw [c6]; decide) (by rw [c6]; rfl) (by decide) ?_
          refine lv_aload X.1 X.2.1 dX4_expected_72 (lv_at hl 0 rfl) ?_
          refine gn_E X cn w 0 (by decide) (v := .int ((s_exp E F S (6 + r.toNatClampNeg) i.toNatClampNeg (F (6 + r.toNatClampNeg) 1)) 0)) rfl kw_123 dX4_expected_74 ?_
          refine W.eq (g2 := F0 m 77 ls [.int (s_passes F (6 + r.toNatClampNeg) i.toNatClampNeg)]) rfl ?_
          exact vx_ret (w_iret X hr hlk w (by  exact ⟨by simp [er_expected, erW, h2, h4, c6], by simp [s_expected, h2, h4, c6], rfl⟩) dX4_expected_77 rfl (Nat.zero_le _) (Nat.zero_le _))
        ·
          refine lv_tableIn (tgt := 78) X.1 X.2.1 dX4_expected_30 (by rw [c6]; decide) (by rw [c6]; decide) (by rw [c6]; rfl) (by decide) ?_
          refine lv_aload X.1 X.2.1 dX4_expected_78 (lv_at hl 0 rfl) ?_
          refine gn_E X cn w 1 (by decide) (v := .int ((s_exp E F S (6 + r.toNatClampNeg) i.toNatClampNeg (F (6 + r.toNatClampNeg) 1)) 1)) rfl kw_124 dX4_expected_80 ?_
          refine W.eq (g2 := F0 m 83 ls [.int (s_change F i.toNatClampNeg (F (6 + r.toNatClampNeg) 1))]) rfl ?_
          exact vx_ret (w_iret X hr hlk w (by  exact ⟨by simp [er_expected, erW, h2, h4, c6], by simp [s_expected, h2, h4, c6], rfl⟩) dX4_expected_83 rfl (Nat.zero_le _) (Nat.zero_le _))
        ·
          refine lv_tableIn (tgt := 84) X.1 X.2.1 dX4_expected_30 (by rw [c6]; decide) (by rw [c6]; decide) (by rw [c6]; rfl) (by decide) ?_
          refine lv_aload X.1 X.2.1 dX4_expected_84 (lv_at hl 0 rfl) ?_
          refine gn_E X cn w 2 (by decide) (v := .int ((s_exp E F S (6 + r.toNatClampNeg) i.toNatClampNeg (F (6 + r.toNatClampNeg) 1)) 2)) rfl kw_125 dX4_expected_86 ?_
          refine W.eq (g2 := F0 m 89 ls [.int (s_spoiled F (6 + r.toNatClampNeg) i.toNatClampNeg)]) rfl ?_
          exact vx_ret (w_iret X hr hlk w (by  exact ⟨by simp [er_expected, erW, h2, h4, c6], by simp [s_expected, h2, h4, c6], rfl⟩) dX4_expected_89 rfl (Nat.zero_le _) (Nat.zero_le _))
        ·
          refine lv_tableIn (tgt := 90) X.1 X.2.1 dX4_expected_30 (by rw [c6]; decide) (by rw [c6]; decide) (by rw [c6]; rfl) (by decide) ?_
          refine lv_aload X.1 X.2.1 dX4_expected_90 (lv_at hl 0 rfl) ?_
          refine gn_E X cn w 3 (by decide) (v := .int ((s_exp E F S (6 + r.toNatClampNeg) i.toNatClampNeg (F (6 + r.toNatClampNeg) 1)) 3)) rfl kw_126 dX4_expected_92 ?_
          refine W.eq (g2 := F0 m 95 ls [.int (s_needed F (6 + r.toNatClampNeg) i.toNatClampNeg)]) rfl ?_
          exact vx_ret (w_iret X hr hlk w (by  exact ⟨by simp [er_expected, erW, h2, h4, c6], by simp [s_expected, h2, h4, c6], rfl⟩) dX4_expected_95 rfl (Nat.zero_le _) (Nat.zero_le _))
        ·
          refine lv_tableIn (tgt := 96) X.1 X.2.1 dX4_expected_30 (by rw [c6]; decide) (by rw [c6]; decide) (by rw [c6]; rfl) (by decide) ?_
          refine lv_aload X.1 X.2.1 dX4_expected_96 (lv_at hl 0 rfl) ?_
          refine gn_E X cn w 4 (by decide) (v := .int ((s_exp E F S (6 + r.toNatClampNeg) i.toNatClampNeg (F (6 + r.toNatClampNeg) 1)) 4)) rfl kw_127 dX4_expected_98 ?_
          refine W.eq (g2 := F0 m 101 ls [.int (s_minutes F (6 + r.toNatClampNeg) i.toNatClampNeg (F (6 + r.toNatClampNeg) 1))]) rfl ?_
          exact vx_ret (w_iret X hr hlk w (by  exact ⟨by simp [er_expected, erW, h2, h4, c6], by simp [s_expected, h2, h4, c6], rfl⟩) dX4_expected_101 rfl (Nat.zero_le _) (Nat.zero_le _))
        ·
          refine lv_tableIn (tgt := 102) X.1 X.2.1 dX4_expected_30 (by rw [c6]; decide) (by rw [c6]; decide) (by rw [c6]; rfl) (by decide) ?_
          refine lv_aload X.1 X.2.1 dX4_expected_102 (lv_at hl 0 rfl) ?_
          refine gn_E X cn w 5 (by decide) (v := .int ((s_exp E F S (6 + r.toNatClampNeg) i.toNatClampNeg (F (6 + r.toNatClampNeg) 1)) 5)) rfl kw_128 dX4_expected_104 ?_
          refine W.eq (g2 := F0 m 107 ls [.int (s_cost F S (6 + r.toNatClampNeg) i.toNatClampNeg (F (6 + r.toNatClampNeg) 1))]) rfl ?_
          exact vx_ret (w_iret X hr hlk w (by  exact ⟨by simp [er_expected, erW, h2, h4, c6], by simp [s_expected, h2, h4, c6], rfl⟩) dX4_expected_107 rfl (Nat.zero_le _) (Nat.zero_le _))
        ·
          refine lv_tableIn (tgt := 108) X.1 X.2.1 dX4_expected_30 (by rw [c6]; decide) (by rw [c6]; decide) (by rw [c6]; rfl) (by decide) ?_
          refine lv_aload X.1 X.2.1 dX4_expected_108 (lv_at hl 0 rfl) ?_
          refine gn_E X cn w 6 (by decide) (v := .int ((s_exp E F S (6 + r.toNatClampNeg) i.toNatClampNeg (F (6 + r.toNatClampNeg) 1)) 6)) rfl kw_129 dX4_expected_110 ?_
          refine W.eq (g2 := F0 m 113 ls [.int (s_quote F S (6 + r.toNatClampNeg) i.toNatClampNeg (F (6 + r.toNatClampNeg) 1))]) rfl ?_
          exact vx_ret (w_iret X hr hlk w (by  exact ⟨by simp [er_expected, erW, h2, h4, c6], by simp [s_expected, h2, h4, c6], rfl⟩) dX4_expected_113 rfl (Nat.zero_le _) (Nat.zero_le _))
    ·
      have hE : er_expected n i r x ≠ 0 ∧ exN ((erI 3 r)) = exN (er_expected n i r x) := by  simp [er_expected, erW, h2, h4, erI_1 h4]
      have hm' := hm hE.1
      exact x_gone X hlk hnt cn w (xw_runV (n := 1) (As := [.int r]) X cn w (lt17 (by decide)) wC_0 rfl (fun sz => c_X4_pressOf l D ca ad E F L S n hlt r 1 6 (fun _ => ⟨Nat.le_refl 1, Nat.le_refl 6⟩) sz) (bg_V kw_361 kw_363 kw_15 kw_31 kw_364) rfl rfl (by decide +kernel) ⟨(Nat.le_of_ble_eq_true rfl), (Nat.le_of_ble_eq_true rfl)⟩ rfl hl.1 rfl (Nat.le_of_ble_eq_true rfl) dX4_expected_9 ⟨hm'.1, hm'.2⟩) (fun st v t hq => by obtain ⟨⟨r, u, -, hp, -⟩, -⟩ := hq; exact h4 hp.1) hE.2 hE.1 (fun u hu => hu) hm rfl rfl
  ·
    have hE : er_expected n i r x ≠ 0 ∧ exN ((erI n i)) = exN (er_expected n i r x) := by  simp [er_expected, erW, h2, erI_1 h2]
    have hm' := hm hE.1
    exact x_gone X hlk hnt cn w (xw_runV (n := 1) (As := [.int i]) X cn w (lt17 (by decide)) wC_0 rfl (fun sz => c_X4_jobOf l D ca ad E F L S n hlt wf.2.1.2 wf.1 i 1 6 (fun _ => ⟨Nat.le_refl 1, Nat.le_refl 6⟩) sz) (bg_V kw_384 kw_386 kw_18 kw_31 kw_387) rfl rfl (by decide +kernel) ⟨(Nat.le_of_ble_eq_true rfl), (Nat.le_of_ble_eq_true rfl)⟩ rfl hl.1 rfl (Nat.le_of_ble_eq_true rfl) dX4_expected_2 ⟨hm'.1, hm'.2⟩) (fun st v t hq => by obtain ⟨⟨r, u, -, hp, -⟩, -⟩ := hq; exact h2 hp.1) hE.2 hE.1 (fun u hu => hu) hm rfl rfl

set_option maxHeartbeats 4000000 in
set_option maxRecDepth 100000 in
theorem c_X4_towers (l : Launch) (D : va_G) (ca : Nat → ClassId) (ad : Nat → Nat) (E : Em) (F : Fm) (L : Lm) (S : Sm) (n : Nat) (hlt : l.stackTraces = false) (q : Nat → Nat) (wf : Wf F L S n q) (r x : Int32) (mc ms : Nat) (hm : er_towers r x ≠ 0 → 1 ≤ mc ∧ 6 ≤ ms) (sz : Nat) : vx_Met l yX4_towers (.code yX4_towers cX4_towers 5 (some .int) :: BG) { frames := 7, cells := mc, slots := ms, locals := 117 } (Pw D ca ad (E, F, L, S, n) sz [.ref (ad 0), .int r, .int x]) (Qi D ca ad n (fun v u => er_towers r x = 0 ∧ v = F (6 + r.toNatClampNeg) 0 ∧ u.2 = (up2 F (6 + r.toNatClampNeg) 0 x, L, S, n)) sz) (Xq D ca ad n (er_towers r x) (fun u => u.2 = (F, L, S, n)) sz) mc ms (wA ad n sz) := by
  refine open_X (σ := (E, F, L, S, n)) (Qc := Qi D ca ad n (fun v u => er_towers r x = 0 ∧ v = F (6 + r.toNatClampNeg) 0 ∧ u.2 = (up2 F (6 + r.toNatClampNeg) 0 x, L, S, n))) (XC := Xq D ca ad n (er_towers r x) (fun u => u.2 = (F, L, S, n))) (by decide +kernel) (Nat.le_of_ble_eq_true rfl) ?_
  intro p e s m args below meth c X hr hlk hnt w cn ls hl
  have hl : lv_has ls 5 [(0, .ref (ad 0)), (1, .int r), (2, .int x)] := hl
  have hs := wf.2.2.1
  have hJ := wf.2.1.2
  refine lv_aload_n X.1 X.2.1 dX4_towers_0 rfl (lv_at hl 0 rfl) ?_
  refine lv_iload_n X.1 X.2.1 dX4_towers_1 rfl (lv_at hl 1 rfl) ?_
  by_cases h2 : (erI 3 r) = 0
  ·
    refine w_callr cn w (w_runV (n := 1) (As := [.int r]) X cn w (lt17 (by decide)) wC_0 rfl (fun sz => met_of (c_X4_pressOf l D ca ad E F L S n hlt r 0 0 (fun h => (h h2).elim) sz) h2) (bg_V kw_361 kw_363 kw_15 kw_31 kw_364) rfl rfl (by decide +kernel) ⟨(Nat.le_of_ble_eq_true rfl), (Nat.le_of_ble_eq_true rfl)⟩ rfl hl.1 rfl (Nat.le_of_ble_eq_true rfl) dX4_towers_2 ⟨(Nat.zero_le _), (Nat.zero_le _)⟩) (fun r1 u H locs hp w => ?_)
    obtain ⟨-, rfl, rfl⟩ := hp
    refine W.eq (g2 := F0 m 5 ls [.ref (ad (6 + r.toNatClampNeg))]) rfl ?_
    refine lv_astore_n (lv' := [(3, .ref (ad (6 + r.toNatClampNeg))), (0, .ref (ad 0)), (1, .int r), (2, .int x)]) X.1 X.2.1 dX4_towers_5 rfl hl (by decide) rfl (fun ls hl => ?_)
    refine lv_iload_n X.1 X.2.1 dX4_towers_6 rfl (lv_at hl 3 rfl) ?_
    refine lv_iconst (v := 1) X.1 X.2.1 dX4_towers_7 (by decide) ?_
    refine lv_iconst (v := 4) X.1 X.2.1 dX4_towers_8 (by decide) ?_
    refine n_calli w (n_runS (n := 3) (As := [.int x, .int 1, .int 4]) X (c_X4_isOutside l x 1 4) (bg_S kw_429 kw_430 kw_31 kw_431) rfl rfl (by decide +kernel) ⟨(Nat.le_of_ble_eq_true rfl), (Nat.le_of_ble_eq_true rfl)⟩ rfl hl.1 rfl (Nat.le_of_ble_eq_true rfl) dX4_towers_9 ⟨(Nat.zero_le _), (Nat.zero_le _)⟩) (fun H locs w => ?_)
    refine lv_if_eq (tgt := 26) X.1 X.2.1 dX4_towers_12 (by decide) (fun c3 => ?_) (fun c3 => ?_)
    ·
      refine lv_aload_n X.1 X.2.1 dX4_towers_26 rfl (lv_at hl 0 rfl) ?_
      refine gn_R X cn w (prs_in (in_erI h2)) 0 (by decide) (v := .int (F (6 + r.toNatClampNeg) 0)) rfl kw_89 dX4_towers_27 ?_
      refine lv_topi (fun x4 ex4 => ?_)
      refine lv_istore (lv' := [(4, .int x4), (3, .ref (ad (6 + r.toNatClampNeg))), (0, .ref (ad 0)), (1, .int r), (2, .int x)]) X.1 X.2.1 dX4_towers_30 hl (by decide) rfl (fun ls hl => ?_)
      refine lv_aload_n X.1 X.2.1 dX4_towers_32 rfl (lv_at hl 1 rfl) ?_
      refine lv_iload_n X.1 X.2.1 dX4_towers_33 rfl (lv_at hl 4 rfl) ?_
      refine pn_R X cn w (prs_in (in_erI h2)) 0 (by decide) rfl (by decide +kernel) (v := x) kw_89 dX4_towers_34 (fun H locs w => ?_)
      obtain ⟨F5, eF5⟩ : ∃ G : Fm, G = up2 F (6 + r.toNatClampNeg) 0 x := ⟨_, rfl⟩
      rw [← eF5] at w
      refine lv_iload X.1 X.2.1 dX4_towers_37 (lv_at hl 0 rfl) ?_
      exact vx_ret (w_iret X hr hlk w (by subst eF5; subst ex4; exact ⟨by simp [er_towers, h2, c3], rfl, rfl⟩) dX4_towers_39 rfl (Nat.zero_le _) (Nat.zero_le _))
    ·
      exact x_throw2W (k := 271) (tx := "towers are 1 to 4") hlt X rfl hlk hnt cn w hl.1 (by decide +kernel) (by  simp [er_towers, h2, c3]) rfl hm dX4_towers_15 dX4_towers_18 dX4_towers_19 dX4_towers_22 dX4_towers_25 (Nat.le_of_ble_eq_true rfl) (Nat.le_of_ble_eq_true rfl) rfl rfl rfl rfl
  ·
    have hE : er_towers r x ≠ 0 ∧ exN ((erI 3 r)) = exN (er_towers r x) := by  simp [er_towers, h2, erI_1 h2]
    have hm' := hm hE.1
    exact x_gone X hlk hnt cn w (xw_runV (n := 1) (As := [.int r]) X cn w (lt17 (by decide)) wC_0 rfl (fun sz => c_X4_pressOf l D ca ad E F L S n hlt r 1 6 (fun _ => ⟨Nat.le_refl 1, Nat.le_refl 6⟩) sz) (bg_V kw_361 kw_363 kw_15 kw_31 kw_364) rfl rfl (by decide +kernel) ⟨(Nat.le_of_ble_eq_true rfl), (Nat.le_of_ble_eq_true rfl)⟩ rfl hl.1 rfl (Nat.le_of_ble_eq_true rfl) dX4_towers_2 ⟨hm'.1, hm'.2⟩) (fun st v t hq => by obtain ⟨⟨r, u, -, hp, -⟩, -⟩ := hq; exact h2 hp.1) hE.2 hE.1 (fun u hu => hu) hm rfl rfl

set_option maxHeartbeats 4000000 in
set_option maxRecDepth 100000 in
theorem c_X4_ofPress (l : Launch) (D : va_G) (ca : Nat → ClassId) (ad : Nat → Nat) (E : Em) (F : Fm) (L : Lm) (S : Sm) (n : Nat) (hlt : l.stackTraces = false) (q : Nat → Nat) (wf : Wf F L S n q) (r x : Int32) (mc ms : Nat) (hm : er_ofPress r x ≠ 0 → 1 ≤ mc ∧ 6 ≤ ms) (sz : Nat) : vx_Met l yX4_ofPress (.code yX4_ofPress cX4_ofPress 4 (some .int) :: BG) { frames := 7, cells := mc, slots := ms, locals := 117 } (Pw D ca ad (E, F, L, S, n) sz [.ref (ad 0), .int r, .int x]) (Qi D ca ad n (fun v u => er_ofPress r x = 0 ∧ v = s_ofPress F L q (6 + r.toNatClampNeg) x ∧ u.2 = (F, L, S, n)) sz) (Xq D ca ad n (er_ofPress r x) (fun u => u.2 = (F, L, S, n)) sz) mc ms (wA ad n sz) := by
  refine open_X (σ := (E, F, L, S, n)) (Qc := Qi D ca ad n (fun v u => er_ofPress r x = 0 ∧ v = s_ofPress F L q (6 + r.toNatClampNeg) x ∧ u.2 = (F, L, S, n))) (XC := Xq D ca ad n (er_ofPress r x) (fun u => u.2 = (F, L, S, n))) (by decide +kernel) (Nat.le_of_ble_eq_true rfl) ?_
  intro p e s m args below meth c X hr hlk hnt w cn ls hl
  have hl : lv_has ls 4 [(0, .ref (ad 0)), (1, .int r), (2, .int x)] := hl
  have hs := wf.2.2.1
  have hJ := wf.2.1.2
  refine lv_aload_n X.1 X.2.1 dX4_ofPress_0 rfl (lv_at hl 0 rfl) ?_
  refine lv_iload_n X.1 X.2.1 dX4_ofPress_1 rfl (lv_at hl 1 rfl) ?_
  by_cases h2 : (erI 3 r) = 0
  ·
    refine w_callr cn w (w_runV (n := 1) (As := [.int r]) X cn w (lt17 (by decide)) wC_0 rfl (fun sz => met_of (c_X4_pressOf l D ca ad E F L S n hlt r 0 0 (fun h => (h h2).elim) sz) h2) (bg_V kw_361 kw_363 kw_15 kw_31 kw_364) rfl rfl (by decide +kernel) ⟨(Nat.le_of_ble_eq_true rfl), (Nat.le_of_ble_eq_true rfl)⟩ rfl hl.1 rfl (Nat.le_of_ble_eq_true rfl) dX4_ofPress_2 ⟨(Nat.zero_le _), (Nat.zero_le _)⟩) (fun r1 u H locs hp w => ?_)
    obtain ⟨-, rfl, rfl⟩ := hp
    refine W.eq (g2 := F0 m 5 ls [.ref (ad (6 + r.toNatClampNeg))]) rfl ?_
    refine lv_astore_n (lv' := [(3, .ref (ad (6 + r.toNatClampNeg))), (0, .ref (ad 0)), (1, .int r), (2, .int x)]) X.1 X.2.1 dX4_ofPress_5 rfl hl (by decide) rfl (fun ls hl => ?_)
    refine lv_iload_n X.1 X.2.1 dX4_ofPress_6 rfl (lv_at hl 3 rfl) ?_
    rcases tab_cases x 6 with c3 | ⟨c3n, c3l, c3⟩
    ·
      have c3 : x.toInt < 0 ∨ 6 < x.toInt := c3
      refine lv_tableOut (tgt := 84) X.1 X.2.1 dX4_ofPress_7 c3 (by decide) ?_
      exact x_throw2W (k := 280) (tx := "of a press one asks 0 to 6") hlt X rfl hlk hnt cn w hl.1 (by decide +kernel) (by  simp [er_ofPress, erW, h2, c3]) rfl hm dX4_ofPress_84 dX4_ofPress_87 dX4_ofPress_88 dX4_ofPress_91 dX4_ofPress_94 (Nat.le_of_ble_eq_true rfl) (Nat.le_of_ble_eq_true rfl) rfl rfl rfl rfl
    ·
      rcases (show c3n = 0 ∨ c3n = 1 ∨ c3n = 2 ∨ c3n = 3 ∨ c3n = 4 ∨ c3n = 5 ∨ c3n = 6 by omega) with rfl | rfl | rfl | rfl | rfl | rfl | rfl
      ·
        refine lv_tableIn (tgt := 48) X.1 X.2.1 dX4_ofPress_7 (by rw [c3]; decide) (by rw [c3]; decide) (by rw [c3]; rfl) (by decide) ?_
        refine lv_aload_n X.1 X.2.1 dX4_ofPress_48 rfl (lv_at hl 0 rfl) ?_
        refine gn_R X cn w (prs_in (in_erI h2)) 0 (by decide) (v := .int (F (6 + r.toNatClampNeg) 0)) rfl kw_89 dX4_ofPress_49 ?_
        exact vx_ret (w_iret X hr hlk w (by  exact ⟨by simp [er_ofPress, erW, h2, c3], by simp [s_ofPress, h2, c3], rfl⟩) dX4_ofPress_52 rfl (Nat.zero_le _) (Nat.zero_le _))
      ·
        refine lv_tableIn (tgt := 53) X.1 X.2.1 dX4_ofPress_7 (by rw [c3]; decide) (by rw [c3]; decide) (by rw [c3]; rfl) (by decide) ?_
        refine lv_aload_n X.1 X.2.1 dX4_ofPress_53 rfl (lv_at hl 0 rfl) ?_
        refine gn_R X cn w (prs_in (in_erI h2)) 1 (by decide) (v := .int (F (6 + r.toNatClampNeg) 1)) rfl kw_91 dX4_ofPress_54 ?_
        exact vx_ret (w_iret X hr hlk w (by  exact ⟨by simp [er_ofPress, erW, h2, c3], by simp [s_ofPress, h2, c3], rfl⟩) dX4_ofPress_57 rfl (Nat.zero_le _) (Nat.zero_le _))
      ·
        refine lv_tableIn (tgt := 58) X.1 X.2.1 dX4_ofPress_7 (by rw [c3]; decide) (by rw [c3]; decide) (by rw [c3]; rfl) (by decide) ?_
        refine lv_aload_n X.1 X.2.1 dX4_ofPress_58 rfl (lv_at hl 0 rfl) ?_
        refine gn_R X cn w (prs_in (in_erI h2)) 2 (by decide) (v := .int (F (6 + r.toNatClampNeg) 2)) rfl kw_93 dX4_ofPress_59 ?_
        exact vx_ret (w_iret X hr hlk w (by  exact ⟨by simp [er_ofPress, erW, h2, c3], by simp [s_ofPress, h2, c3], rfl⟩) dX4_ofPress_62 rfl (Nat.zero_le _) (Nat.zero_le _))
      ·
        refine lv_tableIn (tgt := 63) X.1 X.2.1 dX4_ofPress_7 (by rw [c3]; decide) (by rw [c3]; decide) (by rw [c3]; rfl) (by decide) ?_
        refine lv_aload_n X.1 X.2.1 dX4_ofPress_63 rfl (lv_at hl 0 rfl) ?_
        refine gn_R X cn w (prs_in (in_erI h2)) 3 (by decide) (v := .int (F (6 + r.toNatClampNeg) 3)) rfl kw_95 dX4_ofPress_64 ?_
        exact vx_ret (w_iret X hr hlk w (by  exact ⟨by simp [er_ofPress, erW, h2, c3], by simp [s_ofPress, h2, c3], rfl⟩) dX4_ofPress_67 rfl (Nat.zero_le _) (Nat.zero_le _))
      ·
        refine lv_tableIn (tgt := 68) X.1 X.2.1 dX4_ofPress_7 (by rw [c3]; decide) (by rw [c3]; decide) (by rw [c3]; rfl) (by decide) ?_
        refine lv_aload_n X.1 X.2.1 dX4_ofPress_68 rfl (lv_at hl 0 rfl) ?_
        refine gn_R X cn w (prs_in (in_erI h2)) 4 (by decide) (v := .int (F (6 + r.toNatClampNeg) 4)) rfl kw_97 dX4_ofPress_69 ?_
        exact vx_ret (w_iret X hr hlk w (by  exact ⟨by simp [er_ofPress, erW, h2, c3], by simp [s_ofPress, h2, c3], rfl⟩) dX4_ofPress_72 rfl (Nat.zero_le _) (Nat.zero_le _))
      ·
        refine lv_tableIn (tgt := 73) X.1 X.2.1 dX4_ofPress_7 (by rw [c3]; decide) (by rw [c3]; decide) (by rw [c3]; rfl) (by decide) ?_
        refine lv_aload_n X.1 X.2.1 dX4_ofPress_73 rfl (lv_at hl 0 rfl) ?_
        refine gn_R X cn w (prs_in (in_erI h2)) 6 (by decide) (v := .int (F (6 + r.toNatClampNeg) 6)) rfl kw_100 dX4_ofPress_74 ?_
        exact vx_ret (w_iret X hr hlk w (by  exact ⟨by simp [er_ofPress, erW, h2, c3], by simp [s_ofPress, h2, c3], rfl⟩) dX4_ofPress_77 rfl (Nat.zero_le _) (Nat.zero_le _))
      ·
        refine lv_tableIn (tgt := 78) X.1 X.2.1 dX4_ofPress_7 (by rw [c3]; decide) (by rw [c3]; decide) (by rw [c3]; rfl) (by decide) ?_
        refine lv_aload_n X.1 X.2.1 dX4_ofPress_78 rfl (lv_at hl 1 rfl) ?_
        refine lv_aload_n X.1 X.2.1 dX4_ofPress_79 rfl (lv_at hl 0 rfl) ?_
        refine w_calli cn w (w_runV (n := 1) (As := [.ref (ad (6 + r.toNatClampNeg))]) X cn w (lt17 (by decide)) wC_0 rfl (fun sz => c_X4_minutesOfQueue l D ca ad E F L S n q wf (6 + r.toNatClampNeg) (prs_in (in_erI h2)) sz) (bg_V kw_366 kw_368 kw_16 kw_31 kw_369) rfl rfl (by decide +kernel) ⟨(Nat.le_of_ble_eq_true rfl), (Nat.le_of_ble_eq_true rfl)⟩ rfl hl.1 rfl (Nat.le_of_ble_eq_true rfl) dX4_ofPress_80 ⟨(Nat.zero_le _), (Nat.zero_le _)⟩) (fun r4 u H locs hp w => ?_)
        obtain ⟨E5, q6⟩ := u
        obtain ⟨rfl, h7⟩ := hp
        have h7 : q6 = (F, L, S, n) := h7
        subst h7
        exact vx_ret (w_iret X hr hlk w (by  exact ⟨by simp [er_ofPress, erW, h2, c3], by simp [s_ofPress, h2, c3], rfl⟩) dX4_ofPress_83 rfl (Nat.zero_le _) (Nat.zero_le _))
  ·
    have hE : er_ofPress r x ≠ 0 ∧ exN ((erI 3 r)) = exN (er_ofPress r x) := by  simp [er_ofPress, erW, h2, erI_1 h2]
    have hm' := hm hE.1
    exact x_gone X hlk hnt cn w (xw_runV (n := 1) (As := [.int r]) X cn w (lt17 (by decide)) wC_0 rfl (fun sz => c_X4_pressOf l D ca ad E F L S n hlt r 1 6 (fun _ => ⟨Nat.le_refl 1, Nat.le_refl 6⟩) sz) (bg_V kw_361 kw_363 kw_15 kw_31 kw_364) rfl rfl (by decide +kernel) ⟨(Nat.le_of_ble_eq_true rfl), (Nat.le_of_ble_eq_true rfl)⟩ rfl hl.1 rfl (Nat.le_of_ble_eq_true rfl) dX4_ofPress_2 ⟨hm'.1, hm'.2⟩) (fun st v t hq => by obtain ⟨⟨r, u, -, hp, -⟩, -⟩ := hq; exact h2 hp.1) hE.2 hE.1 (fun u hu => hu) hm rfl rfl

set_option maxHeartbeats 4000000 in
set_option maxRecDepth 100000 in
theorem c_X4_queue (l : Launch) (D : va_G) (ca : Nat → ClassId) (ad : Nat → Nat) (E : Em) (F : Fm) (L : Lm) (S : Sm) (n : Nat) (hlt : l.stackTraces = false) (q : Nat → Nat) (wf : Wf F L S n q) (r x : Int32) (mc ms : Nat) (hm : er_queue F L r x ≠ 0 → 1 ≤ mc ∧ 6 ≤ ms) (sz : Nat) : vx_Met l yX4_queue (.code yX4_queue cX4_queue 4 (some .int) :: BG) { frames := 7, cells := mc, slots := ms, locals := 117 } (Pw D ca ad (E, F, L, S, n) sz [.ref (ad 0), .int r, .int x]) (Qi D ca ad n (fun v u => er_queue F L r x = 0 ∧ v = s_queue F L (6 + r.toNatClampNeg) x ∧ u.2 = (F, L, S, n)) sz) (Xq D ca ad n (er_queue F L r x) (fun u => u.2 = (F, L, S, n)) sz) mc ms (wA ad n sz) := by
  refine open_X (σ := (E, F, L, S, n)) (Qc := Qi D ca ad n (fun v u => er_queue F L r x = 0 ∧ v = s_queue F L (6 + r.toNatClampNeg) x ∧ u.2 = (F, L, S, n))) (XC := Xq D ca ad n (er_queue F L r x) (fun u => u.2 = (F, L, S, n))) (by decide +kernel) (Nat.le_of_ble_eq_true rfl) ?_
  intro p e s m args below meth c X hr hlk hnt w cn ls hl
  have hl : lv_has ls 4 [(0, .ref (ad 0)), (1, .int r), (2, .int x)] := hl
  have hs := wf.2.2.1
  have hJ := wf.2.1.2
  refine lv_aload_n X.1 X.2.1 dX4_queue_0 rfl (lv_at hl 0 rfl) ?_
  refine lv_iload_n X.1 X.2.1 dX4_queue_1 rfl (lv_at hl 1 rfl) ?_
  by_cases h2 : (erI 3 r) = 0
  ·
    refine w_callr cn w (w_runV (n := 1) (As := [.int r]) X cn w (lt17 (by decide)) wC_0 rfl (fun sz => met_of (c_X4_pressOf l D ca ad E F L S n hlt r 0 0 (fun h => (h h2).elim) sz) h2) (bg_V kw_361 kw_363 kw_15 kw_31 kw_364) rfl rfl (by decide +kernel) ⟨(Nat.le_of_ble_eq_true rfl), (Nat.le_of_ble_eq_true rfl)⟩ rfl hl.1 rfl (Nat.le_of_ble_eq_true rfl) dX4_queue_2 ⟨(Nat.zero_le _), (Nat.zero_le _)⟩) (fun r1 u H locs hp w => ?_)
    obtain ⟨-, rfl, rfl⟩ := hp
    refine W.eq (g2 := F0 m 5 ls [.ref (ad (6 + r.toNatClampNeg))]) rfl ?_
    refine lv_iload_n X.1 X.2.1 dX4_queue_5 rfl (lv_at hl 2 rfl) ?_
    refine w_callr cn w (w_runVN (n := 1) (As := [.int x]) X cn w (lt17 (by have := (prs_in (in_erI h2)); omega)) (wC_R ((prs_in (in_erI h2))).1 ((prs_in (in_erI h2))).2) rfl (fun sz => c_X3_jobAt l D ca ad E F L S n (6 + r.toNatClampNeg) (prs_in (in_erI h2)) x sz) kw_306 kw_308 kw_8 kw_33 kw_309 rfl rfl (by decide +kernel) ⟨(Nat.le_of_ble_eq_true rfl), (Nat.le_of_ble_eq_true rfl)⟩ rfl hl.1 rfl (Nat.le_of_ble_eq_true rfl) dX4_queue_6 ⟨(Nat.zero_le _), (Nat.zero_le _)⟩) (fun r3 u H locs hp w => ?_)
    obtain ⟨rfl, rfl⟩ := hp
    obtain hj4n | ⟨j4, hj4s⟩ : (s_jobAt F L (6 + r.toNatClampNeg) x) = none ∨ ∃ j, (s_jobAt F L (6 + r.toNatClampNeg) x) = some j := opt_or _
    ·
      refine W.eq (g2 := F0 m 9 ls [.null]) (by simp only [hj4n]; rfl) ?_
      refine lv_astore_nN (lv' := [(3, .null), (0, .ref (ad 0)), (1, .int r), (2, .int x)]) X.1 X.2.1 dX4_queue_9 rfl hl (by decide) rfl (fun ls hl => ?_)
      refine lv_aload_nN X.1 X.2.1 dX4_queue_10 rfl (lv_at hl 0 rfl) ?_
      refine lv_ifnonnullN X.1 X.2.1 dX4_queue_11 ?_
      exact x_throw1W (k := 284) (tx := "no such place in the queue") hlt X rfl hlk hnt cn w hl.1 (by decide +kernel) (by  simp [er_queue, h2, hj4n]) rfl hm dX4_queue_14 dX4_queue_17 dX4_queue_18 dX4_queue_21 dX4_queue_24 (Nat.le_of_ble_eq_true rfl) (Nat.le_of_ble_eq_true rfl) rfl rfl rfl rfl
    ·
      refine W.eq (g2 := F0 m 9 ls [.ref (ad (17 + j4))]) (by simp only [hj4s]; rfl) ?_
      refine lv_astore_n (lv' := [(3, .ref (ad (17 + j4))), (0, .ref (ad 0)), (1, .int r), (2, .int x)]) X.1 X.2.1 dX4_queue_9 rfl hl (by decide) rfl (fun ls hl => ?_)
      refine lv_aload_n X.1 X.2.1 dX4_queue_10 rfl (lv_at hl 0 rfl) ?_
      refine lv_ifnonnull (tgt := 25) X.1 X.2.1 dX4_queue_11 (by decide) ?_
      refine lv_aload_n X.1 X.2.1 dX4_queue_25 rfl (lv_at hl 0 rfl) ?_
      refine gn_J X cn w ((wf.2.2.2 _ (prs_in (in_erI h2))).2.2 _ _ (jobAt_of hj4s)) 0 (by decide) (v := .int (F (17 + j4) 0)) rfl kw_464 dX4_queue_26 ?_
      exact vx_ret (w_iret X hr hlk w (by  exact ⟨by simp [er_queue, h2, hj4s], by simp [s_queue, h2, hj4s], rfl⟩) dX4_queue_29 rfl (Nat.zero_le _) (Nat.zero_le _))
  ·
    have hE : er_queue F L r x ≠ 0 ∧ exN ((erI 3 r)) = exN (er_queue F L r x) := by  simp [er_queue, h2, erI_1 h2]
    have hm' := hm hE.1
    exact x_gone X hlk hnt cn w (xw_runV (n := 1) (As := [.int r]) X cn w (lt17 (by decide)) wC_0 rfl (fun sz => c_X4_pressOf l D ca ad E F L S n hlt r 1 6 (fun _ => ⟨Nat.le_refl 1, Nat.le_refl 6⟩) sz) (bg_V kw_361 kw_363 kw_15 kw_31 kw_364) rfl rfl (by decide +kernel) ⟨(Nat.le_of_ble_eq_true rfl), (Nat.le_of_ble_eq_true rfl)⟩ rfl hl.1 rfl (Nat.le_of_ble_eq_true rfl) dX4_queue_2 ⟨hm'.1, hm'.2⟩) (fun st v t hq => by obtain ⟨⟨r, u, -, hp, -⟩, -⟩ := hq; exact h2 hp.1) hE.2 hE.1 (fun u hu => hu) hm rfl rfl

set_option maxHeartbeats 4000000 in
set_option maxRecDepth 100000 in
theorem c_X4_many (l : Launch) (D : va_G) (ca : Nat → ClassId) (ad : Nat → Nat) (E : Em) (F : Fm) (L : Lm) (S : Sm) (n : Nat) (hlt : l.stackTraces = false) (q : Nat → Nat) (wf : Wf F L S n q) (x : Int32) (mc ms : Nat) (hm : erW 10 x ≠ 0 → 1 ≤ mc ∧ 6 ≤ ms) (sz : Nat) : vx_Met l yX4_many (.code yX4_many cX4_many 2 (some .int) :: BG) { frames := 6, cells := mc, slots := ms, locals := 95 } (Pw D ca ad (E, F, L, S, n) sz [.ref (ad 0), .int x]) (Qi D ca ad n (fun v u => erW 10 x = 0 ∧ v = s_many F n x ∧ u.2 = (F, L, S, n)) sz) (Xq D ca ad n (erW 10 x) (fun u => u.2 = (F, L, S, n)) sz) mc ms (wA ad n sz) := by
  refine open_X (σ := (E, F, L, S, n)) (Qc := Qi D ca ad n (fun v u => erW 10 x = 0 ∧ v = s_many F n x ∧ u.2 = (F, L, S, n))) (XC := Xq D ca ad n (erW 10 x) (fun u => u.2 = (F, L, S, n))) (by decide +kernel) (Nat.le_of_ble_eq_true rfl) ?_
  intro p e s m args below meth c X hr hlk hnt w cn ls hl
  have hl : lv_has ls 2 [(0, .ref (ad 0)), (1, .int x)] := hl
  have hs := wf.2.2.1
  have hJ := wf.2.1.2
  refine lv_iload_n X.1 X.2.1 dX4_many_0 rfl (lv_at hl 1 rfl) ?_
  rcases tab_cases x 10 with c1 | ⟨c1n, c1l, c1⟩
  ·
    have c1 : x.toInt < 0 ∨ 10 < x.toInt := c1
    refine lv_tableOut (tgt := 119) X.1 X.2.1 dX4_many_1 c1 (by decide) ?_
    exact x_throw2W (k := 341) (tx := "of the ledger one asks 0 to 10") hlt X rfl hlk hnt cn w hl.1 (by decide +kernel) (by  simp [erW, c1]) rfl hm dX4_many_119 dX4_many_122 dX4_many_123 dX4_many_126 dX4_many_129 (Nat.le_of_ble_eq_true rfl) (Nat.le_of_ble_eq_true rfl) rfl rfl rfl rfl
  ·
    rcases (show c1n = 0 ∨ c1n = 1 ∨ c1n = 2 ∨ c1n = 3 ∨ c1n = 4 ∨ c1n = 5 ∨ c1n = 6 ∨ c1n = 7 ∨ c1n = 8 ∨ c1n = 9 ∨ c1n = 10 by omega) with rfl | rfl | rfl | rfl | rfl | rfl | rfl | rfl | rfl | rfl | rfl
    ·
      refine lv_tableIn (tgt := 60) X.1 X.2.1 dX4_many_1 (by rw [c1]; decide) (by rw [c1]; decide) (by rw [c1]; rfl) (by decide) ?_
      refine lv_aload_n X.1 X.2.1 dX4_many_60 rfl (lv_at hl 0 rfl) ?_
      refine g_L X w 3 (by decide) (v := .int (F 0 3)) rfl kw_148 dX4_many_61 ?_
      exact vx_ret (w_iret X hr hlk w (by  exact ⟨by simp [erW, c1], by simp [s_many, s_count, s_total, c1], rfl⟩) dX4_many_64 rfl (Nat.zero_le _) (Nat.zero_le _))
    ·
      refine lv_tableIn (tgt := 65) X.1 X.2.1 dX4_many_1 (by rw [c1]; decide) (by rw [c1]; decide) (by rw [c1]; rfl) (by decide) ?_
      refine lv_aload_n X.1 X.2.1 dX4_many_65 rfl (lv_at hl 0 rfl) ?_
      refine lv_iconst (v := 0) X.1 X.2.1 dX4_many_66 (by decide) ?_
      refine w_calli cn w (w_runV (n := 1) (As := [.int 0]) X cn w (lt17 (by decide)) wC_0 rfl (fun sz => c_X4_jobsThatAre l D ca ad E F L S n hJ 0 sz) (bg_V kw_183 kw_185 kw_0 kw_31 kw_186) rfl rfl (by decide +kernel) ⟨(Nat.le_of_ble_eq_true rfl), (Nat.le_of_ble_eq_true rfl)⟩ rfl hl.1 rfl (Nat.le_of_ble_eq_true rfl) dX4_many_67 ⟨(Nat.zero_le _), (Nat.zero_le _)⟩) (fun r2 u H locs hp w => ?_)
      obtain ⟨E3, q4⟩ := u
      obtain ⟨rfl, h5⟩ := hp
      have h5 : q4 = (F, L, S, n) := h5
      subst h5
      exact vx_ret (w_iret X hr hlk w (by  exact ⟨by simp [erW, c1], by simp [s_many, s_count, s_total, c1], rfl⟩) dX4_many_70 rfl (Nat.zero_le _) (Nat.zero_le _))
    ·
      refine lv_tableIn (tgt := 71) X.1 X.2.1 dX4_many_1 (by rw [c1]; decide) (by rw [c1]; decide) (by rw [c1]; rfl) (by decide) ?_
      refine lv_aload_n X.1 X.2.1 dX4_many_71 rfl (lv_at hl 0 rfl) ?_
      refine lv_iconst (v := 1) X.1 X.2.1 dX4_many_72 (by decide) ?_
      refine w_calli cn w (w_runV (n := 1) (As := [.int 1]) X cn w (lt17 (by decide)) wC_0 rfl (fun sz => c_X4_jobsThatAre l D ca ad E F L S n hJ 1 sz) (bg_V kw_183 kw_185 kw_0 kw_31 kw_186) rfl rfl (by decide +kernel) ⟨(Nat.le_of_ble_eq_true rfl), (Nat.le_of_ble_eq_true rfl)⟩ rfl hl.1 rfl (Nat.le_of_ble_eq_true rfl) dX4_many_73 ⟨(Nat.zero_le _), (Nat.zero_le _)⟩) (fun r6 u H locs hp w => ?_)
      obtain ⟨E7, q8⟩ := u
      obtain ⟨rfl, h9⟩ := hp
      have h9 : q8 = (F, L, S, n) := h9
      subst h9
      exact vx_ret (w_iret X hr hlk w (by  exact ⟨by simp [erW, c1], by simp [s_many, s_count, s_total, c1], rfl⟩) dX4_many_76 rfl (Nat.zero_le _) (Nat.zero_le _))
    ·
      refine lv_tableIn (tgt := 77) X.1 X.2.1 dX4_many_1 (by rw [c1]; decide) (by rw [c1]; decide) (by rw [c1]; rfl) (by decide) ?_
      refine lv_aload_n X.1 X.2.1 dX4_many_77 rfl (lv_at hl 0 rfl) ?_
      refine lv_iconst (v := 2) X.1 X.2.1 dX4_many_78 (by decide) ?_
      refine w_calli cn w (w_runV (n := 1) (As := [.int 2]) X cn w (lt17 (by decide)) wC_0 rfl (fun sz => c_X4_jobsThatAre l D ca ad E F L S n hJ 2 sz) (bg_V kw_183 kw_185 kw_0 kw_31 kw_186) rfl rfl (by decide +kernel) ⟨(Nat.le_of_ble_eq_true rfl), (Nat.le_of_ble_eq_true rfl)⟩ rfl hl.1 rfl (Nat.le_of_ble_eq_true rfl) dX4_many_79 ⟨(Nat.zero_le _), (Nat.zero_le _)⟩) (fun r10 u H locs hp w => ?_)
      obtain ⟨E11, q12⟩ := u
      obtain ⟨rfl, h13⟩ := hp
      have h13 : q12 = (F, L, S, n) := h13
      subst h13
      exact vx_ret (w_iret X hr hlk w (by  exact ⟨by simp [erW, c1], by simp [s_many, s_count, s_total, c1], rfl⟩) dX4_many_82 rfl (Nat.zero_le _) (Nat.zero_le _))
    ·
      refine lv_tableIn (tgt := 83) X.1 X.2.1 dX4_many_1 (by rw [c1]; decide) (by rw [c1]; decide) (by rw [c1]; rfl) (by decide) ?_
      refine lv_aload_n X.1 X.2.1 dX4_many_83 rfl (lv_at hl 0 rfl) ?_
      refine lv_iconst (v := 3) X.1 X.2.1 dX4_many_84 (by decide) ?_
      refine w_calli cn w (w_runV (n := 1) (As := [.int 3]) X cn w (lt17 (by decide)) wC_0 rfl (fun sz => c_X4_jobsThatAre l D ca ad E F L S n hJ 3 sz) (bg_V kw_183 kw_185 kw_0 kw_31 kw_186) rfl rfl (by decide +kernel) ⟨(Nat.le_of_ble_eq_true rfl), (Nat.le_of_ble_eq_true rfl)⟩ rfl hl.1 rfl (Nat.le_of_ble_eq_true rfl) dX4_many_85 ⟨(Nat.zero_le _), (Nat.zero_le _)⟩) (fun r14 u H locs hp w => ?_)
      obtain ⟨E15, q16⟩ := u
      obtain ⟨rfl, h17⟩ := hp
      have h17 : q16 = (F, L, S, n) := h17
      subst h17
      exact vx_ret (w_iret X hr hlk w (by  exact ⟨by simp [erW, c1], by simp [s_many, s_count, s_total, c1], rfl⟩) dX4_many_88 rfl (Nat.zero_le _) (Nat.zero_le _))
    ·
      refine lv_tableIn (tgt := 89) X.1 X.2.1 dX4_many_1 (by rw [c1]; decide) (by rw [c1]; decide) (by rw [c1]; rfl) (by decide) ?_
      refine lv_aload_n X.1 X.2.1 dX4_many_89 rfl (lv_at hl 0 rfl) ?_
      refine g_L X w 4 (by decide) (v := .int (F 0 4)) rfl kw_149 dX4_many_90 ?_
      exact vx_ret (w_iret X hr hlk w (by  exact ⟨by simp [erW, c1], by simp [s_many, s_count, s_total, c1], rfl⟩) dX4_many_93 rfl (Nat.zero_le _) (Nat.zero_le _))
    ·
      refine lv_tableIn (tgt := 94) X.1 X.2.1 dX4_many_1 (by rw [c1]; decide) (by rw [c1]; decide) (by rw [c1]; rfl) (by decide) ?_
      refine lv_aload_n X.1 X.2.1 dX4_many_94 rfl (lv_at hl 0 rfl) ?_
      refine w_calli cn w (w_runV (n := 0) (As := []) X cn w (lt17 (by decide)) wC_0 rfl (fun sz => c_X4_moneyOfInvoices l D ca ad E F L S n hJ sz) (bg_V kw_187 kw_189 kw_1 kw_31 kw_190) rfl rfl (by decide +kernel) ⟨(Nat.le_of_ble_eq_true rfl), (Nat.le_of_ble_eq_true rfl)⟩ rfl hl.1 rfl (Nat.le_of_ble_eq_true rfl) dX4_many_95 ⟨(Nat.zero_le _), (Nat.zero_le _)⟩) (fun r18 u H locs hp w => ?_)
      obtain ⟨E19, q20⟩ := u
      obtain ⟨rfl, h21⟩ := hp
      have h21 : q20 = (F, L, S, n) := h21
      subst h21
      exact vx_ret (w_iret X hr hlk w (by  exact ⟨by simp [erW, c1], by simp [s_many, s_count, s_total, c1], rfl⟩) dX4_many_98 rfl (Nat.zero_le _) (Nat.zero_le _))
    ·
      refine lv_tableIn (tgt := 99) X.1 X.2.1 dX4_many_1 (by rw [c1]; decide) (by rw [c1]; decide) (by rw [c1]; rfl) (by decide) ?_
      refine lv_aload_n X.1 X.2.1 dX4_many_99 rfl (lv_at hl 0 rfl) ?_
      refine w_calli cn w (w_runV (n := 0) (As := []) X cn w (lt17 (by decide)) wC_0 rfl (fun sz => c_X4_costOfJobs l D ca ad E F L S n hJ sz) (bg_V kw_191 kw_193 kw_2 kw_31 kw_194) rfl rfl (by decide +kernel) ⟨(Nat.le_of_ble_eq_true rfl), (Nat.le_of_ble_eq_true rfl)⟩ rfl hl.1 rfl (Nat.le_of_ble_eq_true rfl) dX4_many_100 ⟨(Nat.zero_le _), (Nat.zero_le _)⟩) (fun r22 u H locs hp w => ?_)
      obtain ⟨E23, q24⟩ := u
      obtain ⟨rfl, h25⟩ := hp
      have h25 : q24 = (F, L, S, n) := h25
      subst h25
      exact vx_ret (w_iret X hr hlk w (by  exact ⟨by simp [erW, c1], by simp [s_many, s_count, s_total, c1], rfl⟩) dX4_many_103 rfl (Nat.zero_le _) (Nat.zero_le _))
    ·
      refine lv_tableIn (tgt := 104) X.1 X.2.1 dX4_many_1 (by rw [c1]; decide) (by rw [c1]; decide) (by rw [c1]; rfl) (by decide) ?_
      refine lv_aload_n X.1 X.2.1 dX4_many_104 rfl (lv_at hl 0 rfl) ?_
      refine w_calli cn w (w_runV (n := 0) (As := []) X cn w (lt17 (by decide)) wC_0 rfl (fun sz => c_X4_worthOfStock l D ca ad E F L S n  sz) (bg_V kw_195 kw_197 kw_3 kw_31 kw_198) rfl rfl (by decide +kernel) ⟨(Nat.le_of_ble_eq_true rfl), (Nat.le_of_ble_eq_true rfl)⟩ rfl hl.1 rfl (Nat.le_of_ble_eq_true rfl) dX4_many_105 ⟨(Nat.zero_le _), (Nat.zero_le _)⟩) (fun r26 u H locs hp w => ?_)
      obtain ⟨E27, q28⟩ := u
      obtain ⟨rfl, h29⟩ := hp
      have h29 : q28 = (F, L, S, n) := h29
      subst h29
      exact vx_ret (w_iret X hr hlk w (by  exact ⟨by simp [erW, c1], by simp [s_many, s_count, s_total, c1], rfl⟩) dX4_many_108 rfl (Nat.zero_le _) (Nat.zero_le _))
    ·
      refine lv_tableIn (tgt := 109) X.1 X.2.1 dX4_many_1 (by rw [c1]; decide) (by rw [c1]; decide) (by rw [c1]; rfl) (by decide) ?_
      refine lv_aload_n X.1 X.2.1 dX4_many_109 rfl (lv_at hl 0 rfl) ?_
      refine g_L X w 7 (by decide) (v := .int (F 0 7)) rfl kw_152 dX4_many_110 ?_
      exact vx_ret (w_iret X hr hlk w (by  exact ⟨by simp [erW, c1], by simp [s_many, s_count, s_total, c1], rfl⟩) dX4_many_113 rfl (Nat.zero_le _) (Nat.zero_le _))
    ·
      refine lv_tableIn (tgt := 114) X.1 X.2.1 dX4_many_1 (by rw [c1]; decide) (by rw [c1]; decide) (by rw [c1]; rfl) (by decide) ?_
      refine lv_aload_n X.1 X.2.1 dX4_many_114 rfl (lv_at hl 0 rfl) ?_
      refine g_L X w 8 (by decide) (v := .int (F 0 8)) rfl kw_153 dX4_many_115 ?_
      exact vx_ret (w_iret X hr hlk w (by  exact ⟨by simp [erW, c1], by simp [s_many, s_count, s_total, c1], rfl⟩) dX4_many_118 rfl (Nat.zero_le _) (Nat.zero_le _))

set_option maxHeartbeats 4000000 in
set_option maxRecDepth 100000 in
theorem c_X4_profit (l : Launch) (D : va_G) (ca : Nat → ClassId) (ad : Nat → Nat) (E : Em) (F : Fm) (L : Lm) (S : Sm) (n : Nat) (hlt : l.stackTraces = false) (q : Nat → Nat) (wf : Wf F L S n q) (i : Int32) (mc ms : Nat) (hm : erI n i ≠ 0 → 1 ≤ mc ∧ 6 ≤ ms) (sz : Nat) : vx_Met l yX4_profit (.code yX4_profit cX4_profit 3 (some .int) :: BG) { frames := 7, cells := mc, slots := ms, locals := 117 } (Pw D ca ad (E, F, L, S, n) sz [.ref (ad 0), .int i]) (Qi D ca ad n (fun v u => erI n i = 0 ∧ v = s_worth F i.toNatClampNeg - F (17 + i.toNatClampNeg) 12 ∧ u.2 = (F, L, S, n)) sz) (Xq D ca ad n (erI n i) (fun u => u.2 = (F, L, S, n)) sz) mc ms (wA ad n sz) := by
  refine open_X (σ := (E, F, L, S, n)) (Qc := Qi D ca ad n (fun v u => erI n i = 0 ∧ v = s_worth F i.toNatClampNeg - F (17 + i.toNatClampNeg) 12 ∧ u.2 = (F, L, S, n))) (XC := Xq D ca ad n (erI n i) (fun u => u.2 = (F, L, S, n))) (by decide +kernel) (Nat.le_of_ble_eq_true rfl) ?_
  intro p e s m args below meth c X hr hlk hnt w cn ls hl
  have hl : lv_has ls 3 [(0, .ref (ad 0)), (1, .int i)] := hl
  have hs := wf.2.2.1
  have hJ := wf.2.1.2
  refine lv_aload_n X.1 X.2.1 dX4_profit_0 rfl (lv_at hl 0 rfl) ?_
  refine lv_iload_n X.1 X.2.1 dX4_profit_1 rfl (lv_at hl 1 rfl) ?_
  by_cases h2 : (erI n i) = 0
  ·
    refine w_callr cn w (w_runV (n := 1) (As := [.int i]) X cn w (lt17 (by decide)) wC_0 rfl (fun sz => met_of (c_X4_jobOf l D ca ad E F L S n hlt wf.2.1.2 wf.1 i 0 0 (fun h => (h h2).elim) sz) h2) (bg_V kw_384 kw_386 kw_18 kw_31 kw_387) rfl rfl (by decide +kernel) ⟨(Nat.le_of_ble_eq_true rfl), (Nat.le_of_ble_eq_true rfl)⟩ rfl hl.1 rfl (Nat.le_of_ble_eq_true rfl) dX4_profit_2 ⟨(Nat.zero_le _), (Nat.zero_le _)⟩) (fun r1 u H locs hp w => ?_)
    obtain ⟨-, rfl, rfl⟩ := hp
    refine W.eq (g2 := F0 m 5 ls [.ref (ad (17 + i.toNatClampNeg))]) rfl ?_
    refine lv_astore_n (lv' := [(2, .ref (ad (17 + i.toNatClampNeg))), (0, .ref (ad 0)), (1, .int i)]) X.1 X.2.1 dX4_profit_5 rfl hl (by decide) rfl (fun ls hl => ?_)
    refine lv_aload_n X.1 X.2.1 dX4_profit_6 rfl (lv_at hl 0 rfl) ?_
    refine w_calli cn w (w_runVN (n := 0) (As := []) X cn w (Nat.add_lt_add_left (cl_lt (in_erI h2)) 17) wC_J rfl (fun sz => c_X1_worth l D ca ad E F L S n i.toNatClampNeg (cl_lt (in_erI h2)) sz) kw_404 kw_406 kw_19 kw_42 kw_407 rfl rfl (by decide +kernel) ⟨(Nat.le_of_ble_eq_true rfl), (Nat.le_of_ble_eq_true rfl)⟩ rfl hl.1 rfl (Nat.le_of_ble_eq_true rfl) dX4_profit_7 ⟨(Nat.zero_le _), (Nat.zero_le _)⟩) (fun r3 u H locs hp w => ?_)
    obtain ⟨rfl, rfl⟩ := hp
    refine lv_aload_n X.1 X.2.1 dX4_profit_10 rfl (lv_at hl 0 rfl) ?_
    refine gn_J X cn w (cl_lt (in_erI h2)) 12 (by decide) (v := .int (F (17 + i.toNatClampNeg) 12)) rfl kw_488 dX4_profit_11 ?_
    refine lv_isub X.1 X.2.1 dX4_profit_14 ?_
    exact vx_ret (w_iret X hr hlk w (by  exact ⟨h2, rfl, rfl⟩) dX4_profit_15 rfl (Nat.zero_le _) (Nat.zero_le _))
  ·
    have hE : erI n i ≠ 0 ∧ exN ((erI n i)) = exN (erI n i) := by  simp [ne_eq, h2, erI_1 h2]
    have hm' := hm hE.1
    exact x_gone X hlk hnt cn w (xw_runV (n := 1) (As := [.int i]) X cn w (lt17 (by decide)) wC_0 rfl (fun sz => c_X4_jobOf l D ca ad E F L S n hlt wf.2.1.2 wf.1 i 1 6 (fun _ => ⟨Nat.le_refl 1, Nat.le_refl 6⟩) sz) (bg_V kw_384 kw_386 kw_18 kw_31 kw_387) rfl rfl (by decide +kernel) ⟨(Nat.le_of_ble_eq_true rfl), (Nat.le_of_ble_eq_true rfl)⟩ rfl hl.1 rfl (Nat.le_of_ble_eq_true rfl) dX4_profit_2 ⟨hm'.1, hm'.2⟩) (fun st v t hq => by obtain ⟨⟨r, u, -, hp, -⟩, -⟩ := hq; exact h2 hp.1) hE.2 hE.1 (fun u hu => hu) hm rfl rfl

set_option maxHeartbeats 4000000 in
set_option maxRecDepth 100000 in
theorem c_X4_bestPress (l : Launch) (D : va_G) (ca : Nat → ClassId) (ad : Nat → Nat) (E : Em) (F : Fm) (L : Lm) (S : Sm) (n : Nat) (hlt : l.stackTraces = false) (q : Nat → Nat) (wf : Wf F L S n q) (i : Int32) (mc ms : Nat) (hm : erI n i ≠ 0 → 1 ≤ mc ∧ 6 ≤ ms) (sz : Nat) : vx_Met l yX4_bestPress (.code yX4_bestPress cX4_bestPress 8 (some .int) :: BG) { frames := 7, cells := mc, slots := ms, locals := 117 } (Pw D ca ad (E, F, L, S, n) sz [.ref (ad 0), .int i]) (Qi D ca ad n (fun v u => erI n i = 0 ∧ v = s_best F S i.toNatClampNeg ∧ u.2 = (F, L, S, n)) sz) (Xq D ca ad n (erI n i) (fun u => u.2 = (F, L, S, n)) sz) mc ms (wA ad n sz) := by
  refine open_X (σ := (E, F, L, S, n)) (Qc := Qi D ca ad n (fun v u => erI n i = 0 ∧ v = s_best F S i.toNatClampNeg ∧ u.2 = (F, L, S, n))) (XC := Xq D ca ad n (erI n i) (fun u => u.2 = (F, L, S, n))) (by decide +kernel) (Nat.le_of_ble_eq_true rfl) ?_
  intro p e s m args below meth c X hr hlk hnt w cn ls hl
  have hl : lv_has ls 8 [(0, .ref (ad 0)), (1, .int i)] := hl
  have hs := wf.2.2.1
  have hJ := wf.2.1.2
  refine lv_aload_n X.1 X.2.1 dX4_bestPress_0 rfl (lv_at hl 0 rfl) ?_
  refine lv_iload_n X.1 X.2.1 dX4_bestPress_1 rfl (lv_at hl 1 rfl) ?_
  by_cases h2 : (erI n i) = 0
  ·
    refine w_callr cn w (w_runV (n := 1) (As := [.int i]) X cn w (lt17 (by decide)) wC_0 rfl (fun sz => met_of (c_X4_jobOf l D ca ad E F L S n hlt wf.2.1.2 wf.1 i 0 0 (fun h => (h h2).elim) sz) h2) (bg_V kw_384 kw_386 kw_18 kw_31 kw_387) rfl rfl (by decide +kernel) ⟨(Nat.le_of_ble_eq_true rfl), (Nat.le_of_ble_eq_true rfl)⟩ rfl hl.1 rfl (Nat.le_of_ble_eq_true rfl) dX4_bestPress_2 ⟨(Nat.zero_le _), (Nat.zero_le _)⟩) (fun r1 u H locs hp w => ?_)
    obtain ⟨-, rfl, rfl⟩ := hp
    refine W.eq (g2 := F0 m 5 ls [.ref (ad (17 + i.toNatClampNeg))]) rfl ?_
    refine lv_astore_n (lv' := [(2, .ref (ad (17 + i.toNatClampNeg))), (0, .ref (ad 0)), (1, .int i)]) X.1 X.2.1 dX4_bestPress_5 rfl hl (by decide) rfl (fun ls hl => ?_)
    refine lv_iconst (v := 0) X.1 X.2.1 dX4_bestPress_6 (by decide) ?_
    refine lv_istore_n (lv' := [(3, .int 0), (2, .ref (ad (17 + i.toNatClampNeg))), (0, .ref (ad 0)), (1, .int i)]) X.1 X.2.1 dX4_bestPress_7 rfl hl (by decide) rfl (fun ls hl => ?_)
    refine lv_ldcw (v := 2147483647) X.1 X.2.1 X.2.2.2.1 (X.2.2.2.2 _ kw_399) dX4_bestPress_8 ?_
    refine lv_istore (lv' := [(4, .int 2147483647), (3, .int 0), (2, .ref (ad (17 + i.toNatClampNeg))), (0, .ref (ad 0)), (1, .int i)]) X.1 X.2.1 dX4_bestPress_11 hl (by decide) rfl (fun ls hl => ?_)
    refine lv_iconst (v := 0) X.1 X.2.1 dX4_bestPress_13 (by decide) ?_
    refine lv_istore (lv' := [(5, .int 0), (4, .int 2147483647), (3, .int 0), (2, .ref (ad (17 + i.toNatClampNeg))), (0, .ref (ad 0)), (1, .int i)]) X.1 X.2.1 dX4_bestPress_14 hl (by decide) rfl (fun ls hl => ?_)
    refine lv_iload X.1 X.2.1 dX4_bestPress_16 (lv_at hl 0 rfl) ?_
    refine lv_aload_n X.1 X.2.1 dX4_bestPress_18 rfl (lv_at hl 4 rfl) ?_
    refine g_L X w 1 (by decide) (v := .ref (ad 15)) rfl kw_146 dX4_bestPress_19 ?_
    refine len_R X w dX4_bestPress_22 ?_
    refine lv_icmp_ge (tgt := 77) X.1 X.2.1 dX4_bestPress_23 (by decide) (fun c3 => ?_) (fun c3 => ?_)
    ·
      exact absurd c3 (by decide)
    ·
      refine lv_aload_n X.1 X.2.1 dX4_bestPress_26 rfl (lv_at hl 4 rfl) ?_
      refine g_L X w 1 (by decide) (v := .ref (ad 15)) rfl kw_146 dX4_bestPress_27 ?_
      refine lv_iload X.1 X.2.1 dX4_bestPress_30 (lv_at hl 0 rfl) ?_
      refine ld_R X w (in_lit (by decide)) dX4_bestPress_32 ?_
      refine W.eq (g2 := F0 m 33 ls [.ref (ad 6)]) rfl ?_
      refine lv_astore (lv' := [(6, .ref (ad 6)), (5, .int 0), (4, .int 2147483647), (3, .int 0), (2, .ref (ad (17 + i.toNatClampNeg))), (0, .ref (ad 0)), (1, .int i)]) X.1 X.2.1 dX4_bestPress_33 hl (by decide) rfl (fun ls hl => ?_)
      refine lv_aload X.1 X.2.1 dX4_bestPress_35 (lv_at hl 0 rfl) ?_
      refine lv_ifnull X.1 X.2.1 dX4_bestPress_37 ?_
      refine lv_aload_n X.1 X.2.1 dX4_bestPress_40 rfl (lv_at hl 5 rfl) ?_
      refine lv_aload_n X.1 X.2.1 dX4_bestPress_41 rfl (lv_at hl 4 rfl) ?_
      refine lv_aload X.1 X.2.1 dX4_bestPress_42 (lv_at hl 0 rfl) ?_
      refine lv_aload X.1 X.2.1 dX4_bestPress_44 (lv_at hl 0 rfl) ?_
      refine gn_R X cn w (by decide : 6 ≤ 6 ∧ 6 < 10) 1 (by decide) (v := .int (F 6 1)) rfl kw_91 dX4_bestPress_46 ?_
      refine w_callr cn w (w_runV (n := 3) (As := [.ref (ad (17 + i.toNatClampNeg)), .ref (ad 6), .int (F 6 1)]) X cn w (lt17 (by decide)) wC_0 rfl (fun sz => c_X4_expect l D ca ad E F L S n i.toNatClampNeg (cl_lt (in_erI h2)) 6 (by decide : 6 ≤ 6 ∧ 6 < 10) (F 6 1) hs sz) (bg_V kw_310 kw_312 kw_9 kw_31 kw_313) rfl rfl (by decide +kernel) ⟨(Nat.le_of_ble_eq_true rfl), (Nat.le_of_ble_eq_true rfl)⟩ rfl hl.1 rfl (Nat.le_of_ble_eq_true rfl) dX4_bestPress_49 ⟨(Nat.zero_le _), (Nat.zero_le _)⟩) (fun r4 u H locs hp w => ?_)
      obtain ⟨rfl, rfl⟩ := hp
      refine W.eq (g2 := F0 m 52 ls [.ref (ad 1)]) rfl ?_
      refine gn_E X cn w 5 (by decide) (v := .int ((s_exp E F S 6 i.toNatClampNeg (F 6 1)) 5)) rfl kw_128 dX4_bestPress_52 ?_
      refine W.eq (g2 := F0 m 55 ls [.int (s_cost F S 6 i.toNatClampNeg (F 6 1))]) rfl ?_
      refine lv_topi (fun x5 ex5 => ?_)
      refine lv_istore (lv' := [(7, .int x5), (6, .ref (ad 6)), (5, .int 0), (4, .int 2147483647), (3, .int 0), (2, .ref (ad (17 + i.toNatClampNeg))), (0, .ref (ad 0)), (1, .int i)]) X.1 X.2.1 dX4_bestPress_55 hl (by decide) rfl (fun ls hl => ?_)
      refine lv_iload X.1 X.2.1 dX4_bestPress_57 (lv_at hl 0 rfl) ?_
      refine lv_iload X.1 X.2.1 dX4_bestPress_59 (lv_at hl 3 rfl) ?_
      refine lv_icmp_ge (tgt := 71) X.1 X.2.1 dX4_bestPress_61 (by decide) (fun c6 => ?_) (fun c6 => ?_)
      ·
        refine lv_iinc (v := 1) (lv' := [(5, .int 1), (7, .int x5), (6, .ref (ad 6)), (4, .int 2147483647), (3, .int 0), (2, .ref (ad (17 + i.toNatClampNeg))), (0, .ref (ad 0)), (1, .int i)]) X.1 X.2.1 dX4_bestPress_71 hl (k := 2) rfl (by decide) (by decide) rfl (fun ls hl => ?_)
        refine lv_goto (tgt := 16) X.1 X.2.1 dX4_bestPress_74 (by decide) ?_
        refine lv_iload X.1 X.2.1 dX4_bestPress_16 (lv_at hl 0 rfl) ?_
        refine lv_aload_n X.1 X.2.1 dX4_bestPress_18 rfl (lv_at hl 6 rfl) ?_
        refine g_L X w 1 (by decide) (v := .ref (ad 15)) rfl kw_146 dX4_bestPress_19 ?_
        refine len_R X w dX4_bestPress_22 ?_
        refine lv_icmp_ge (tgt := 77) X.1 X.2.1 dX4_bestPress_23 (by decide) (fun c7 => ?_) (fun c7 => ?_)
        ·
          exact absurd c7 (by decide)
        ·
          refine lv_aload_n X.1 X.2.1 dX4_bestPress_26 rfl (lv_at hl 6 rfl) ?_
          refine g_L X w 1 (by decide) (v := .ref (ad 15)) rfl kw_146 dX4_bestPress_27 ?_
          refine lv_iload X.1 X.2.1 dX4_bestPress_30 (lv_at hl 0 rfl) ?_
          refine ld_R X w (in_lit (by decide)) dX4_bestPress_32 ?_
          refine W.eq (g2 := F0 m 33 ls [.ref (ad 7)]) rfl ?_
          refine lv_astore (lv' := [(6, .ref (ad 7)), (5, .int 1), (7, .int x5), (4, .int 2147483647), (3, .int 0), (2, .ref (ad (17 + i.toNatClampNeg))), (0, .ref (ad 0)), (1, .int i)]) X.1 X.2.1 dX4_bestPress_33 hl (by decide) rfl (fun ls hl => ?_)
          refine lv_aload X.1 X.2.1 dX4_bestPress_35 (lv_at hl 0 rfl) ?_
          refine lv_ifnull X.1 X.2.1 dX4_bestPress_37 ?_
          refine lv_aload_n X.1 X.2.1 dX4_bestPress_40 rfl (lv_at hl 6 rfl) ?_
          refine lv_aload_n X.1 X.2.1 dX4_bestPress_41 rfl (lv_at hl 5 rfl) ?_
          refine lv_aload X.1 X.2.1 dX4_bestPress_42 (lv_at hl 0 rfl) ?_
          refine lv_aload X.1 X.2.1 dX4_bestPress_44 (lv_at hl 0 rfl) ?_
          refine gn_R X cn w (by decide : 6 ≤ 7 ∧ 7 < 10) 1 (by decide) (v := .int (F 7 1)) rfl kw_91 dX4_bestPress_46 ?_
          refine w_callr cn w (w_runV (n := 3) (As := [.ref (ad (17 + i.toNatClampNeg)), .ref (ad 7), .int (F 7 1)]) X cn w (lt17 (by decide)) wC_0 rfl (fun sz => c_X4_expect l D ca ad (s_exp E F S 6 i.toNatClampNeg (F 6 1)) F L S n i.toNatClampNeg (cl_lt (in_erI h2)) 7 (by decide : 6 ≤ 7 ∧ 7 < 10) (F 7 1) hs sz) (bg_V kw_310 kw_312 kw_9 kw_31 kw_313) rfl rfl (by decide +kernel) ⟨(Nat.le_of_ble_eq_true rfl), (Nat.le_of_ble_eq_true rfl)⟩ rfl hl.1 rfl (Nat.le_of_ble_eq_true rfl) dX4_bestPress_49 ⟨(Nat.zero_le _), (Nat.zero_le _)⟩) (fun r8 u H locs hp w => ?_)
          obtain ⟨rfl, rfl⟩ := hp
          refine W.eq (g2 := F0 m 52 ls [.ref (ad 1)]) rfl ?_
          refine gn_E X cn w 5 (by decide) (v := .int ((s_exp (s_exp E F S 6 i.toNatClampNeg (F 6 1)) F S 7 i.toNatClampNeg (F 7 1)) 5)) rfl kw_128 dX4_bestPress_52 ?_
          refine W.eq (g2 := F0 m 55 ls [.int (s_cost F S 7 i.toNatClampNeg (F 7 1))]) rfl ?_
          refine lv_topi (fun x9 ex9 => ?_)
          refine lv_istore (lv' := [(7, .int x9), (6, .ref (ad 7)), (5, .int 1), (4, .int 2147483647), (3, .int 0), (2, .ref (ad (17 + i.toNatClampNeg))), (0, .ref (ad 0)), (1, .int i)]) X.1 X.2.1 dX4_bestPress_55 hl (by decide) rfl (fun ls hl => ?_)
          refine lv_iload X.1 X.2.1 dX4_bestPress_57 (lv_at hl 0 rfl) ?_
          refine lv_iload X.1 X.2.1 dX4_bestPress_59 (lv_at hl 3 rfl) ?_
          refine lv_icmp_ge (tgt := 71) X.1 X.2.1 dX4_bestPress_61 (by decide) (fun c10 => ?_) (fun c10 => ?_)
          ·
            refine lv_iinc (v := 2) (lv' := [(5, .int 2), (7, .int x9), (6, .ref (ad 7)), (4, .int 2147483647), (3, .int 0), (2, .ref (ad (17 + i.toNatClampNeg))), (0, .ref (ad 0)), (1, .int i)]) X.1 X.2.1 dX4_bestPress_71 hl (k := 2) rfl (by decide) (by decide) rfl (fun ls hl => ?_)
            refine lv_goto (tgt := 16) X.1 X.2.1 dX4_bestPress_74 (by decide) ?_
            refine lv_iload X.1 X.2.1 dX4_bestPress_16 (lv_at hl 0 rfl) ?_
            refine lv_aload_n X.1 X.2.1 dX4_bestPress_18 rfl (lv_at hl 6 rfl) ?_
            refine g_L X w 1 (by decide) (v := .ref (ad 15)) rfl kw_146 dX4_bestPress_19 ?_
            refine len_R X w dX4_bestPress_22 ?_
            refine lv_icmp_ge (tgt := 77) X.1 X.2.1 dX4_bestPress_23 (by decide) (fun c11 => ?_) (fun c11 => ?_)
            ·
              exact absurd c11 (by decide)
            ·
              refine lv_aload_n X.1 X.2.1 dX4_bestPress_26 rfl (lv_at hl 6 rfl) ?_
              refine g_L X w 1 (by decide) (v := .ref (ad 15)) rfl kw_146 dX4_bestPress_27 ?_
              refine lv_iload X.1 X.2.1 dX4_bestPress_30 (lv_at hl 0 rfl) ?_
              refine ld_R X w (in_lit (by decide)) dX4_bestPress_32 ?_
              refine W.eq (g2 := F0 m 33 ls [.ref (ad 8)]) rfl ?_
              refine lv_astore (lv' := [(6, .ref (ad 8)), (5, .int 2), (7, .int x9), (4, .int 2147483647), (3, .int 0), (2, .ref (ad (17 + i.toNatClampNeg))), (0, .ref (ad 0)), (1, .int i)]) X.1 X.2.1 dX4_bestPress_33 hl (by decide) rfl (fun ls hl => ?_)
              refine lv_aload X.1 X.2.1 dX4_bestPress_35 (lv_at hl 0 rfl) ?_
              refine lv_ifnull X.1 X.2.1 dX4_bestPress_37 ?_
              refine lv_aload_n X.1 X.2.1 dX4_bestPress_40 rfl (lv_at hl 6 rfl) ?_
              refine lv_aload_n X.1 X.2.1 dX4_bestPress_41 rfl (lv_at hl 5 rfl) ?_
              refine lv_aload X.1 X.2.1 dX4_bestPress_42 (lv_at hl 0 rfl) ?_
              refine lv_aload X.1 X.2.1 dX4_bestPress_44 (lv_at hl 0 rfl) ?_
              refine gn_R X cn w (by decide : 6 ≤ 8 ∧ 8 < 10) 1 (by decide) (v := .int (F 8 1)) rfl kw_91 dX4_bestPress_46 ?_
              refine w_callr cn w (w_runV (n := 3) (As := [.ref (ad (17 + i.toNatClampNeg)), .ref (ad 8), .int (F 8 1)]) X cn w (lt17 (by decide)) wC_0 rfl (fun sz => c_X4_expect l D ca ad (s_exp (s_exp E F S 6 i.toNatClampNeg (F 6 1)) F S 7 i.toNatClampNeg (F 7 1)) F L S n i.toNatClampNeg (cl_lt (in_erI h2)) 8 (by decide : 6 ≤ 8 ∧ 8 < 10) (F 8 1) hs sz) (bg_V kw_310 kw_312 kw_9 kw_31 kw_313) rfl rfl (by decide +kernel) ⟨(Nat.le_of_ble_eq_true rfl), (Nat.le_of_ble_eq_true rfl)⟩ rfl hl.1 rfl (Nat.le_of_ble_eq_true rfl) dX4_bestPress_49 ⟨(Nat.zero_le _), (Nat.zero_le _)⟩) (fun r12 u H locs hp w => ?_)
              obtain ⟨rfl, rfl⟩ := hp
              refine W.eq (g2 := F0 m 52 ls [.ref (ad 1)]) rfl ?_
              refine gn_E X cn w 5 (by decide) (v := .int ((s_exp (s_exp (s_exp E F S 6 i.toNatClampNeg (F 6 1)) F S 7 i.toNatClampNeg (F 7 1)) F S 8 i.toNatClampNeg (F 8 1)) 5)) rfl kw_128 dX4_bestPress_52 ?_
              refine W.eq (g2 := F0 m 55 ls [.int (s_cost F S 8 i.toNatClampNeg (F 8 1))]) rfl ?_
              refine lv_topi (fun x13 ex13 => ?_)
              refine lv_istore (lv' := [(7, .int x13), (6, .ref (ad 8)), (5, .int 2), (4, .int 2147483647), (3, .int 0), (2, .ref (ad (17 + i.toNatClampNeg))), (0, .ref (ad 0)), (1, .int i)]) X.1 X.2.1 dX4_bestPress_55 hl (by decide) rfl (fun ls hl => ?_)
              refine lv_iload X.1 X.2.1 dX4_bestPress_57 (lv_at hl 0 rfl) ?_
              refine lv_iload X.1 X.2.1 dX4_bestPress_59 (lv_at hl 3 rfl) ?_
              refine lv_icmp_ge (tgt := 71) X.1 X.2.1 dX4_bestPress_61 (by decide) (fun c14 => ?_) (fun c14 => ?_)
              ·
                refine lv_iinc (v := 3) (lv' := [(5, .int 3), (7, .int x13), (6, .ref (ad 8)), (4, .int 2147483647), (3, .int 0), (2, .ref (ad (17 + i.toNatClampNeg))), (0, .ref (ad 0)), (1, .int i)]) X.1 X.2.1 dX4_bestPress_71 hl (k := 2) rfl (by decide) (by decide) rfl (fun ls hl => ?_)
                refine lv_goto (tgt := 16) X.1 X.2.1 dX4_bestPress_74 (by decide) ?_
                refine lv_iload X.1 X.2.1 dX4_bestPress_16 (lv_at hl 0 rfl) ?_
                refine lv_aload_n X.1 X.2.1 dX4_bestPress_18 rfl (lv_at hl 6 rfl) ?_
                refine g_L X w 1 (by decide) (v := .ref (ad 15)) rfl kw_146 dX4_bestPress_19 ?_
                refine len_R X w dX4_bestPress_22 ?_
                refine lv_icmp_ge (tgt := 77) X.1 X.2.1 dX4_bestPress_23 (by decide) (fun c15 => ?_) (fun c15 => ?_)
                ·
                  refine lv_iload_n X.1 X.2.1 dX4_bestPress_77 rfl (lv_at hl 4 rfl) ?_
                  exact vx_ret (w_iret X hr hlk w (by subst ex13; subst ex9; subst ex5; exact ⟨h2, by simp [s_best, s_bs, c3, c6, c7, c10, c11, c14, c15], rfl⟩) dX4_bestPress_78 rfl (Nat.zero_le _) (Nat.zero_le _))
                ·
                  exact absurd (by decide) c15
              ·
                refine lv_iload X.1 X.2.1 dX4_bestPress_64 (lv_at hl 2 rfl) ?_
                refine lv_istore_n (lv' := [(3, .int 2), (7, .int x13), (6, .ref (ad 8)), (5, .int 2), (4, .int 2147483647), (2, .ref (ad (17 + i.toNatClampNeg))), (0, .ref (ad 0)), (1, .int i)]) X.1 X.2.1 dX4_bestPress_66 rfl hl (by decide) rfl (fun ls hl => ?_)
                refine lv_iload X.1 X.2.1 dX4_bestPress_67 (lv_at hl 1 rfl) ?_
                refine lv_istore (lv' := [(4, .int x13), (3, .int 2), (7, .int x13), (6, .ref (ad 8)), (5, .int 2), (2, .ref (ad (17 + i.toNatClampNeg))), (0, .ref (ad 0)), (1, .int i)]) X.1 X.2.1 dX4_bestPress_69 hl (by decide) rfl (fun ls hl => ?_)
                refine lv_iinc (v := 3) (lv' := [(5, .int 3), (4, .int x13), (3, .int 2), (7, .int x13), (6, .ref (ad 8)), (2, .ref (ad (17 + i.toNatClampNeg))), (0, .ref (ad 0)), (1, .int i)]) X.1 X.2.1 dX4_bestPress_71 hl (k := 4) rfl (by decide) (by decide) rfl (fun ls hl => ?_)
                refine lv_goto (tgt := 16) X.1 X.2.1 dX4_bestPress_74 (by decide) ?_
                refine lv_iload X.1 X.2.1 dX4_bestPress_16 (lv_at hl 0 rfl) ?_
                refine lv_aload_n X.1 X.2.1 dX4_bestPress_18 rfl (lv_at hl 6 rfl) ?_
                refine g_L X w 1 (by decide) (v := .ref (ad 15)) rfl kw_146 dX4_bestPress_19 ?_
                refine len_R X w dX4_bestPress_22 ?_
                refine lv_icmp_ge (tgt := 77) X.1 X.2.1 dX4_bestPress_23 (by decide) (fun c16 => ?_) (fun c16 => ?_)
                ·
                  refine lv_iload_n X.1 X.2.1 dX4_bestPress_77 rfl (lv_at hl 2 rfl) ?_
                  exact vx_ret (w_iret X hr hlk w (by subst ex13; subst ex9; subst ex5; exact ⟨h2, by simp [s_best, s_bs, c3, c6, c7, c10, c11, c14, c16], rfl⟩) dX4_bestPress_78 rfl (Nat.zero_le _) (Nat.zero_le _))
                ·
                  exact absurd (by decide) c16
          ·
            refine lv_iload X.1 X.2.1 dX4_bestPress_64 (lv_at hl 2 rfl) ?_
            refine lv_istore_n (lv' := [(3, .int 1), (7, .int x9), (6, .ref (ad 7)), (5, .int 1), (4, .int 2147483647), (2, .ref (ad (17 + i.toNatClampNeg))), (0, .ref (ad 0)), (1, .int i)]) X.1 X.2.1 dX4_bestPress_66 rfl hl (by decide) rfl (fun ls hl => ?_)
            refine lv_iload X.1 X.2.1 dX4_bestPress_67 (lv_at hl 1 rfl) ?_
            refine lv_istore (lv' := [(4, .int x9), (3, .int 1), (7, .int x9), (6, .ref (ad 7)), (5, .int 1), (2, .ref (ad (17 + i.toNatClampNeg))), (0, .ref (ad 0)), (1, .int i)]) X.1 X.2.1 dX4_bestPress_69 hl (by decide) rfl (fun ls hl => ?_)
            refine lv_iinc (v := 2) (lv' := [(5, .int 2), (4, .int x9), (3, .int 1), (7, .int x9), (6, .ref (ad 7)), (2, .ref (ad (17 + i.toNatClampNeg))), (0, .ref (ad 0)), (1, .int i)]) X.1 X.2.1 dX4_bestPress_71 hl (k := 4) rfl (by decide) (by decide) rfl (fun ls hl => ?_)
            refine lv_goto (tgt := 16) X.1 X.2.1 dX4_bestPress_74 (by decide) ?_
            refine lv_iload X.1 X.2.1 dX4_bestPress_16 (lv_at hl 0 rfl) ?_
            refine lv_aload_n X.1 X.2.1 dX4_bestPress_18 rfl (lv_at hl 6 rfl) ?_
            refine g_L X w 1 (by decide) (v := .ref (ad 15)) rfl kw_146 dX4_bestPress_19 ?_
            refine len_R X w dX4_bestPress_22 ?_
            refine lv_icmp_ge (tgt := 77) X.1 X.2.1 dX4_bestPress_23 (by decide) (fun c17 => ?_) (fun c17 => ?_)
            ·
              exact absurd c17 (by decide)
            ·
              refine lv_aload_n X.1 X.2.1 dX4_bestPress_26 rfl (lv_at hl 6 rfl) ?_
              refine g_L X w 1 (by decide) (v := .ref (ad 15)) rfl kw_146 dX4_bestPress_27 ?_
              refine lv_iload X.1 X.2.1 dX4_bestPress_30 (lv_at hl 0 rfl) ?_
              refine ld_R X w (in_lit (by decide)) dX4_bestPress_32 ?_
              refine W.eq (g2 := F0 m 33 ls [.ref (ad 8)]) rfl ?_
              refine lv_astore (lv' := [(6, .ref (ad 8)), (5, .int 2), (4, .int x9), (3, .int 1), (7, .int x9), (2, .ref (ad (17 + i.toNatClampNeg))), (0, .ref (ad 0)), (1, .int i)]) X.1 X.2.1 dX4_bestPress_33 hl (by decide) rfl (fun ls hl => ?_)
              refine lv_aload X.1 X.2.1 dX4_bestPress_35 (lv_at hl 0 rfl) ?_
              refine lv_ifnull X.1 X.2.1 dX4_bestPress_37 ?_
              refine lv_aload_n X.1 X.2.1 dX4_bestPress_40 rfl (lv_at hl 6 rfl) ?_
              refine lv_aload_n X.1 X.2.1 dX4_bestPress_41 rfl (lv_at hl 5 rfl) ?_
              refine lv_aload X.1 X.2.1 dX4_bestPress_42 (lv_at hl 0 rfl) ?_
              refine lv_aload X.1 X.2.1 dX4_bestPress_44 (lv_at hl 0 rfl) ?_
              refine gn_R X cn w (by decide : 6 ≤ 8 ∧ 8 < 10) 1 (by decide) (v := .int (F 8 1)) rfl kw_91 dX4_bestPress_46 ?_
              refine w_callr cn w (w_runV (n := 3) (As := [.ref (ad (17 + i.toNatClampNeg)), .ref (ad 8), .int (F 8 1)]) X cn w (lt17 (by decide)) wC_0 rfl (fun sz => c_X4_expect l D ca ad (s_exp (s_exp E F S 6 i.toNatClampNeg (F 6 1)) F S 7 i.toNatClampNeg (F 7 1)) F L S n i.toNatClampNeg (cl_lt (in_erI h2)) 8 (by decide : 6 ≤ 8 ∧ 8 < 10) (F 8 1) hs sz) (bg_V kw_310 kw_312 kw_9 kw_31 kw_313) rfl rfl (by decide +kernel) ⟨(Nat.le_of_ble_eq_true rfl), (Nat.le_of_ble_eq_true rfl)⟩ rfl hl.1 rfl (Nat.le_of_ble_eq_true rfl) dX4_bestPress_49 ⟨(Nat.zero_le _), (Nat.zero_le _)⟩) (fun r18 u H locs hp w => ?_)
              obtain ⟨rfl, rfl⟩ := hp
              refine W.eq (g2 := F0 m 52 ls [.ref (ad 1)]) rfl ?_
              refine gn_E X cn w 5 (by decide) (v := .int ((s_exp (s_exp (s_exp E F S 6 i.toNatClampNeg (F 6 1)) F S 7 i.toNatClampNeg (F 7 1)) F S 8 i.toNatClampNeg (F 8 1)) 5)) rfl kw_128 dX4_bestPress_52 ?_
              refine W.eq (g2 := F0 m 55 ls [.int (s_cost F S 8 i.toNatClampNeg (F 8 1))]) rfl ?_
              refine lv_topi (fun x19 ex19 => ?_)
              refine lv_istore (lv' := [(7, .int x19), (6, .ref (ad 8)), (5, .int 2), (4, .int x9), (3, .int 1), (2, .ref (ad (17 + i.toNatClampNeg))), (0, .ref (ad 0)), (1, .int i)]) X.1 X.2.1 dX4_bestPress_55 hl (by decide) rfl (fun ls hl => ?_)
              refine lv_iload X.1 X.2.1 dX4_bestPress_57 (lv_at hl 0 rfl) ?_
              refine lv_iload X.1 X.2.1 dX4_bestPress_59 (lv_at hl 3 rfl) ?_
              refine lv_icmp_ge (tgt := 71) X.1 X.2.1 dX4_bestPress_61 (by decide) (fun c20 => ?_) (fun c20 => ?_)
              ·
                refine lv_iinc (v := 3) (lv' := [(5, .int 3), (7, .int x19), (6, .ref (ad 8)), (4, .int x9), (3, .int 1), (2, .ref (ad (17 + i.toNatClampNeg))), (0, .ref (ad 0)), (1, .int i)]) X.1 X.2.1 dX4_bestPress_71 hl (k := 2) rfl (by decide) (by decide) rfl (fun ls hl => ?_)
                refine lv_goto (tgt := 16) X.1 X.2.1 dX4_bestPress_74 (by decide) ?_
                refine lv_iload X.1 X.2.1 dX4_bestPress_16 (lv_at hl 0 rfl) ?_
                refine lv_aload_n X.1 X.2.1 dX4_bestPress_18 rfl (lv_at hl 6 rfl) ?_
                refine g_L X w 1 (by decide) (v := .ref (ad 15)) rfl kw_146 dX4_bestPress_19 ?_
                refine len_R X w dX4_bestPress_22 ?_
                refine lv_icmp_ge (tgt := 77) X.1 X.2.1 dX4_bestPress_23 (by decide) (fun c21 => ?_) (fun c21 => ?_)
                ·
                  refine lv_iload_n X.1 X.2.1 dX4_bestPress_77 rfl (lv_at hl 4 rfl) ?_
                  exact vx_ret (w_iret X hr hlk w (by subst ex19; subst ex9; subst ex5; exact ⟨h2, by simp [s_best, s_bs, c3, c6, c7, c10, c17, c20, c21], rfl⟩) dX4_bestPress_78 rfl (Nat.zero_le _) (Nat.zero_le _))
                ·
                  exact absurd (by decide) c21
              ·
                refine lv_iload X.1 X.2.1 dX4_bestPress_64 (lv_at hl 2 rfl) ?_
                refine lv_istore_n (lv' := [(3, .int 2), (7, .int x19), (6, .ref (ad 8)), (5, .int 2), (4, .int x9), (2, .ref (ad (17 + i.toNatClampNeg))), (0, .ref (ad 0)), (1, .int i)]) X.1 X.2.1 dX4_bestPress_66 rfl hl (by decide) rfl (fun ls hl => ?_)
                refine lv_iload X.1 X.2.1 dX4_bestPress_67 (lv_at hl 1 rfl) ?_
                refine lv_istore (lv' := [(4, .int x19), (3, .int 2), (7, .int x19), (6, .ref (ad 8)), (5, .int 2), (2, .ref (ad (17 + i.toNatClampNeg))), (0, .ref (ad 0)), (1, .int i)]) X.1 X.2.1 dX4_bestPress_69 hl (by decide) rfl (fun ls hl => ?_)
                refine lv_iinc (v := 3) (lv' := [(5, .int 3), (4, .int x19), (3, .int 2), (7, .int x19), (6, .ref (ad 8)), (2, .ref (ad (17 + i.toNatClampNeg))), (0, .ref (ad 0)), (1, .int i)]) X.1 X.2.1 dX4_bestPress_71 hl (k := 4) rfl (by decide) (by decide) rfl (fun ls hl => ?_)
                refine lv_goto (tgt := 16) X.1 X.2.1 dX4_bestPress_74 (by decide) ?_
                refine lv_iload X.1 X.2.1 dX4_bestPress_16 (lv_at hl 0 rfl) ?_
                refine lv_aload_n X.1 X.2.1 dX4_bestPress_18 rfl (lv_at hl 6 rfl) ?_
                refine g_L X w 1 (by decide) (v := .ref (ad 15)) rfl kw_146 dX4_bestPress_19 ?_
                refine len_R X w dX4_bestPress_22 ?_
                refine lv_icmp_ge (tgt := 77) X.1 X.2.1 dX4_bestPress_23 (by decide) (fun c22 => ?_) (fun c22 => ?_)
                ·
                  refine lv_iload_n X.1 X.2.1 dX4_bestPress_77 rfl (lv_at hl 2 rfl) ?_
                  exact vx_ret (w_iret X hr hlk w (by subst ex19; subst ex9; subst ex5; exact ⟨h2, by simp [s_best, s_bs, c3, c6, c7, c10, c17, c20, c22], rfl⟩) dX4_bestPress_78 rfl (Nat.zero_le _) (Nat.zero_le _))
                ·
                  exact absurd (by decide) c22
      ·
        refine lv_iload X.1 X.2.1 dX4_bestPress_64 (lv_at hl 2 rfl) ?_
        refine lv_istore_n (lv' := [(3, .int 0), (7, .int x5), (6, .ref (ad 6)), (5, .int 0), (4, .int 2147483647), (2, .ref (ad (17 + i.toNatClampNeg))), (0, .ref (ad 0)), (1, .int i)]) X.1 X.2.1 dX4_bestPress_66 rfl hl (by decide) rfl (fun ls hl => ?_)
        refine lv_iload X.1 X.2.1 dX4_bestPress_67 (lv_at hl 1 rfl) ?_
        refine lv_istore (lv' := [(4, .int x5), (3, .int 0), (7, .int x5), (6, .ref (ad 6)), (5, .int 0), (2, .ref (ad (17 + i.toNatClampNeg))), (0, .ref (ad 0)), (1, .int i)]) X.1 X.2.1 dX4_bestPress_69 hl (by decide) rfl (fun ls hl => ?_)
        refine lv_iinc (v := 1) (lv' := [(5, .int 1), (4, .int x5), (3, .int 0), (7, .int x5), (6, .ref (ad 6)), (2, .ref (ad (17 + i.toNatClampNeg))), (0, .ref (ad 0)), (1, .int i)]) X.1 X.2.1 dX4_bestPress_71 hl (k := 4) rfl (by decide) (by decide) rfl (fun ls hl => ?_)
        refine lv_goto (tgt := 16) X.1 X.2.1 dX4_bestPress_74 (by decide) ?_
        refine lv_iload X.1 X.2.1 dX4_bestPress_16 (lv_at hl 0 rfl) ?_
        refine lv_aload_n X.1 X.2.1 dX4_bestPress_18 rfl (lv_at hl 6 rfl) ?_
        refine g_L X w 1 (by decide) (v := .ref (ad 15)) rfl kw_146 dX4_bestPress_19 ?_
        refine len_R X w dX4_bestPress_22 ?_
        refine lv_icmp_ge (tgt := 77) X.1 X.2.1 dX4_bestPress_23 (by decide) (fun c23 => ?_) (fun c23 => ?_)
        ·
          exact absurd c23 (by decide)
        ·
          refine lv_aload_n X.1 X.2.1 dX4_bestPress_26 rfl (lv_at hl 6 rfl) ?_
          refine g_L X w 1 (by decide) (v := .ref (ad 15)) rfl kw_146 dX4_bestPress_27 ?_
          refine lv_iload X.1 X.2.1 dX4_bestPress_30 (lv_at hl 0 rfl) ?_
          refine ld_R X w (in_lit (by decide)) dX4_bestPress_32 ?_
          refine W.eq (g2 := F0 m 33 ls [.ref (ad 7)]) rfl ?_
          refine lv_astore (lv' := [(6, .ref (ad 7)), (5, .int 1), (4, .int x5), (3, .int 0), (7, .int x5), (2, .ref (ad (17 + i.toNatClampNeg))), (0, .ref (ad 0)), (1, .int i)]) X.1 X.2.1 dX4_bestPress_33 hl (by decide) rfl (fun ls hl => ?_)
          refine lv_aload X.1 X.2.1 dX4_bestPress_35 (lv_at hl 0 rfl) ?_
          refine lv_ifnull X.1 X.2.1 dX4_bestPress_37 ?_
          refine lv_aload_n X.1 X.2.1 dX4_bestPress_40 rfl (lv_at hl 6 rfl) ?_
          refine lv_aload_n X.1 X.2.1 dX4_bestPress_41 rfl (lv_at hl 5 rfl) ?_
          refine lv_aload X.1 X.2.1 dX4_bestPress_42 (lv_at hl 0 rfl) ?_
          refine lv_aload X.1 X.2.1 dX4_bestPress_44 (lv_at hl 0 rfl) ?_
          refine gn_R X cn w (by decide : 6 ≤ 7 ∧ 7 < 10) 1 (by decide) (v := .int (F 7 1)) rfl kw_91 dX4_bestPress_46 ?_
          refine w_callr cn w (w_runV (n := 3) (As := [.ref (ad (17 + i.toNatClampNeg)), .ref (ad 7), .int (F 7 1)]) X cn w (lt17 (by decide)) wC_0 rfl (fun sz => c_X4_expect l D ca ad (s_exp E F S 6 i.toNatClampNeg (F 6 1)) F L S n i.toNatClampNeg (cl_lt (in_erI h2)) 7 (by decide : 6 ≤ 7 ∧ 7 < 10) (F 7 1) hs sz) (bg_V kw_310 kw_312 kw_9 kw_31 kw_313) rfl rfl (by decide +kernel) ⟨(Nat.le_of_ble_eq_true rfl), (Nat.le_of_ble_eq_true rfl)⟩ rfl hl.1 rfl (Nat.le_of_ble_eq_true rfl) dX4_bestPress_49 ⟨(Nat.zero_le _), (Nat.zero_le _)⟩) (fun r24 u H locs hp w => ?_)
          obtain ⟨rfl, rfl⟩ := hp
          refine W.eq (g2 := F0 m 52 ls [.ref (ad 1)]) rfl ?_
          refine gn_E X cn w 5 (by decide) (v := .int ((s_exp (s_exp E F S 6 i.toNatClampNeg (F 6 1)) F S 7 i.toNatClampNeg (F 7 1)) 5)) rfl kw_128 dX4_bestPress_52 ?_
          refine W.eq (g2 := F0 m 55 ls [.int (s_cost F S 7 i.toNatClampNeg (F 7 1))]) rfl ?_
          refine lv_topi (fun x25 ex25 => ?_)
          refine lv_istore (lv' := [(7, .int x25), (6, .ref (ad 7)), (5, .int 1), (4, .int x5), (3, .int 0), (2, .ref (ad (17 + i.toNatClampNeg))), (0, .ref (ad 0)), (1, .int i)]) X.1 X.2.1 dX4_bestPress_55 hl (by decide) rfl (fun ls hl => ?_)
          refine lv_iload X.1 X.2.1 dX4_bestPress_57 (lv_at hl 0 rfl) ?_
          refine lv_iload X.1 X.2.1 dX4_bestPress_59 (lv_at hl 3 rfl) ?_
          refine lv_icmp_ge (tgt := 71) X.1 X.2.1 dX4_bestPress_61 (by decide) (fun c26 => ?_) (fun c26 => ?_)
          ·
            refine lv_iinc (v := 2) (lv' := [(5, .int 2), (7, .int x25), (6, .ref (ad 7)), (4, .int x5), (3, .int 0), (2, .ref (ad (17 + i.toNatClampNeg))), (0, .ref (ad 0)), (1, .int i)]) X.1 X.2.1 dX4_bestPress_71 hl (k := 2) rfl (by decide) (by decide) rfl (fun ls hl => ?_)
            refine lv_goto (tgt := 16) X.1 X.2.1 dX4_bestPress_74 (by decide) ?_
            refine lv_iload X.1 X.2.1 dX4_bestPress_16 (lv_at hl 0 rfl) ?_
            refine lv_aload_n X.1 X.2.1 dX4_bestPress_18 rfl (lv_at hl 6 rfl) ?_
            refine g_L X w 1 (by decide) (v := .ref (ad 15)) rfl kw_146 dX4_bestPress_19 ?_
            refine len_R X w dX4_bestPress_22 ?_
            refine lv_icmp_ge (tgt := 77) X.1 X.2.1 dX4_bestPress_23 (by decide) (fun c27 => ?_) (fun c27 => ?_)
            ·
              exact absurd c27 (by decide)
            ·
              refine lv_aload_n X.1 X.2.1 dX4_bestPress_26 rfl (lv_at hl 6 rfl) ?_
              refine g_L X w 1 (by decide) (v := .ref (ad 15)) rfl kw_146 dX4_bestPress_27 ?_
              refine lv_iload X.1 X.2.1 dX4_bestPress_30 (lv_at hl 0 rfl) ?_
              refine ld_R X w (in_lit (by decide)) dX4_bestPress_32 ?_
              refine W.eq (g2 := F0 m 33 ls [.ref (ad 8)]) rfl ?_
              refine lv_astore (lv' := [(6, .ref (ad 8)), (5, .int 2), (7, .int x25), (4, .int x5), (3, .int 0), (2, .ref (ad (17 + i.toNatClampNeg))), (0, .ref (ad 0)), (1, .int i)]) X.1 X.2.1 dX4_bestPress_33 hl (by decide) rfl (fun ls hl => ?_)
              refine lv_aload X.1 X.2.1 dX4_bestPress_35 (lv_at hl 0 rfl) ?_
              refine lv_ifnull X.1 X.2.1 dX4_bestPress_37 ?_
              refine lv_aload_n X.1 X.2.1 dX4_bestPress_40 rfl (lv_at hl 6 rfl) ?_
              refine lv_aload_n X.1 X.2.1 dX4_bestPress_41 rfl (lv_at hl 5 rfl) ?_
              refine lv_aload X.1 X.2.1 dX4_bestPress_42 (lv_at hl 0 rfl) ?_
              refine lv_aload X.1 X.2.1 dX4_bestPress_44 (lv_at hl 0 rfl) ?_
              refine gn_R X cn w (by decide : 6 ≤ 8 ∧ 8 < 10) 1 (by decide) (v := .int (F 8 1)) rfl kw_91 dX4_bestPress_46 ?_
              refine w_callr cn w (w_runV (n := 3) (As := [.ref (ad (17 + i.toNatClampNeg)), .ref (ad 8), .int (F 8 1)]) X cn w (lt17 (by decide)) wC_0 rfl (fun sz => c_X4_expect l D ca ad (s_exp (s_exp E F S 6 i.toNatClampNeg (F 6 1)) F S 7 i.toNatClampNeg (F 7 1)) F L S n i.toNatClampNeg (cl_lt (in_erI h2)) 8 (by decide : 6 ≤ 8 ∧ 8 < 10) (F 8 1) hs sz) (bg_V kw_310 kw_312 kw_9 kw_31 kw_313) rfl rfl (by decide +kernel) ⟨(Nat.le_of_ble_eq_true rfl), (Nat.le_of_ble_eq_true rfl)⟩ rfl hl.1 rfl (Nat.le_of_ble_eq_true rfl) dX4_bestPress_49 ⟨(Nat.zero_le _), (Nat.zero_le _)⟩) (fun r28 u H locs hp w => ?_)
              obtain ⟨rfl, rfl⟩ := hp
              refine W.eq (g2 := F0 m 52 ls [.ref (ad 1)]) rfl ?_
              refine gn_E X cn w 5 (by decide) (v := .int ((s_exp (s_exp (s_exp E F S 6 i.toNatClampNeg (F 6 1)) F S 7 i.toNatClampNeg (F 7 1)) F S 8 i.toNatClampNeg (F 8 1)) 5)) rfl kw_128 dX4_bestPress_52 ?_
              refine W.eq (g2 := F0 m 55 ls [.int (s_cost F S 8 i.toNatClampNeg (F 8 1))]) rfl ?_
              refine lv_topi (fun x29 ex29 => ?_)
              refine lv_istore (lv' := [(7, .int x29), (6, .ref (ad 8)), (5, .int 2), (4, .int x5), (3, .int 0), (2, .ref (ad (17 + i.toNatClampNeg))), (0, .ref (ad 0)), (1, .int i)]) X.1 X.2.1 dX4_bestPress_55 hl (by decide) rfl (fun ls hl => ?_)
              refine lv_iload X.1 X.2.1 dX4_bestPress_57 (lv_at hl 0 rfl) ?_
              refine lv_iload X.1 X.2.1 dX4_bestPress_59 (lv_at hl 3 rfl) ?_
              refine lv_icmp_ge (tgt := 71) X.1 X.2.1 dX4_bestPress_61 (by decide) (fun c30 => ?_) (fun c30 => ?_)
              ·
                refine lv_iinc (v := 3) (lv' := [(5, .int 3), (7, .int x29), (6, .ref (ad 8)), (4, .int x5), (3, .int 0), (2, .ref (ad (17 + i.toNatClampNeg))), (0, .ref (ad 0)), (1, .int i)]) X.1 X.2.1 dX4_bestPress_71 hl (k := 2) rfl (by decide) (by decide) rfl (fun ls hl => ?_)
                refine lv_goto (tgt := 16) X.1 X.2.1 dX4_bestPress_74 (by decide) ?_
                refine lv_iload X.1 X.2.1 dX4_bestPress_16 (lv_at hl 0 rfl) ?_
                refine lv_aload_n X.1 X.2.1 dX4_bestPress_18 rfl (lv_at hl 6 rfl) ?_
                refine g_L X w 1 (by decide) (v := .ref (ad 15)) rfl kw_146 dX4_bestPress_19 ?_
                refine len_R X w dX4_bestPress_22 ?_
                refine lv_icmp_ge (tgt := 77) X.1 X.2.1 dX4_bestPress_23 (by decide) (fun c31 => ?_) (fun c31 => ?_)
                ·
                  refine lv_iload_n X.1 X.2.1 dX4_bestPress_77 rfl (lv_at hl 4 rfl) ?_
                  exact vx_ret (w_iret X hr hlk w (by subst ex29; subst ex25; subst ex5; exact ⟨h2, by simp [s_best, s_bs, c3, c6, c23, c26, c27, c30, c31], rfl⟩) dX4_bestPress_78 rfl (Nat.zero_le _) (Nat.zero_le _))
                ·
                  exact absurd (by decide) c31
              ·
                refine lv_iload X.1 X.2.1 dX4_bestPress_64 (lv_at hl 2 rfl) ?_
                refine lv_istore_n (lv' := [(3, .int 2), (7, .int x29), (6, .ref (ad 8)), (5, .int 2), (4, .int x5), (2, .ref (ad (17 + i.toNatClampNeg))), (0, .ref (ad 0)), (1, .int i)]) X.1 X.2.1 dX4_bestPress_66 rfl hl (by decide) rfl (fun ls hl => ?_)
                refine lv_iload X.1 X.2.1 dX4_bestPress_67 (lv_at hl 1 rfl) ?_
                refine lv_istore (lv' := [(4, .int x29), (3, .int 2), (7, .int x29), (6, .ref (ad 8)), (5, .int 2), (2, .ref (ad (17 + i.toNatClampNeg))), (0, .ref (ad 0)), (1, .int i)]) X.1 X.2.1 dX4_bestPress_69 hl (by decide) rfl (fun ls hl => ?_)
                refine lv_iinc (v := 3) (lv' := [(5, .int 3), (4, .int x29), (3, .int 2), (7, .int x29), (6, .ref (ad 8)), (2, .ref (ad (17 + i.toNatClampNeg))), (0, .ref (ad 0)), (1, .int i)]) X.1 X.2.1 dX4_bestPress_71 hl (k := 4) rfl (by decide) (by decide) rfl (fun ls hl => ?_)
                refine lv_goto (tgt := 16) X.1 X.2.1 dX4_bestPress_74 (by decide) ?_
                refine lv_iload X.1 X.2.1 dX4_bestPress_16 (lv_at hl 0 rfl) ?_
                refine lv_aload_n X.1 X.2.1 dX4_bestPress_18 rfl (lv_at hl 6 rfl) ?_
                refine g_L X w 1 (by decide) (v := .ref (ad 15)) rfl kw_146 dX4_bestPress_19 ?_
                refine len_R X w dX4_bestPress_22 ?_
                refine lv_icmp_ge (tgt := 77) X.1 X.2.1 dX4_bestPress_23 (by decide) (fun c32 => ?_) (fun c32 => ?_)
                ·
                  refine lv_iload_n X.1 X.2.1 dX4_bestPress_77 rfl (lv_at hl 2 rfl) ?_
                  exact vx_ret (w_iret X hr hlk w (by subst ex29; subst ex25; subst ex5; exact ⟨h2, by simp [s_best, s_bs, c3, c6, c23, c26, c27, c30, c32], rfl⟩) dX4_bestPress_78 rfl (Nat.zero_le _) (Nat.zero_le _))
                ·
                  exact absurd (by decide) c32
          ·
            refine lv_iload X.1 X.2.1 dX4_bestPress_64 (lv_at hl 2 rfl) ?_
            refine lv_istore_n (lv' := [(3, .int 1), (7, .int x25), (6, .ref (ad 7)), (5, .int 1), (4, .int x5), (2, .ref (ad (17 + i.toNatClampNeg))), (0, .ref (ad 0)), (1, .int i)]) X.1 X.2.1 dX4_bestPress_66 rfl hl (by decide) rfl (fun ls hl => ?_)
            refine lv_iload X.1 X.2.1 dX4_bestPress_67 (lv_at hl 1 rfl) ?_
            refine lv_istore (lv' := [(4, .int x25), (3, .int 1), (7, .int x25), (6, .ref (ad 7)), (5, .int 1), (2, .ref (ad (17 + i.toNatClampNeg))), (0, .ref (ad 0)), (1, .int i)]) X.1 X.2.1 dX4_bestPress_69 hl (by decide) rfl (fun ls hl => ?_)
            refine lv_iinc (v := 2) (lv' := [(5, .int 2), (4, .int x25), (3, .int 1), (7, .int x25), (6, .ref (ad 7)), (2, .ref (ad (17 + i.toNatClampNeg))), (0, .ref (ad 0)), (1, .int i)]) X.1 X.2.1 dX4_bestPress_71 hl (k := 4) rfl (by decide) (by decide) rfl (fun ls hl => ?_)
            refine lv_goto (tgt := 16) X.1 X.2.1 dX4_bestPress_74 (by decide) ?_
            refine lv_iload X.1 X.2.1 dX4_bestPress_16 (lv_at hl 0 rfl) ?_
            refine lv_aload_n X.1 X.2.1 dX4_bestPress_18 rfl (lv_at hl 6 rfl) ?_
            refine g_L X w 1 (by decide) (v := .ref (ad 15)) rfl kw_146 dX4_bestPress_19 ?_
            refine len_R X w dX4_bestPress_22 ?_
            refine lv_icmp_ge (tgt := 77) X.1 X.2.1 dX4_bestPress_23 (by decide) (fun c33 => ?_) (fun c33 => ?_)
            ·
              exact absurd c33 (by decide)
            ·
              refine lv_aload_n X.1 X.2.1 dX4_bestPress_26 rfl (lv_at hl 6 rfl) ?_
              refine g_L X w 1 (by decide) (v := .ref (ad 15)) rfl kw_146 dX4_bestPress_27 ?_
              refine lv_iload X.1 X.2.1 dX4_bestPress_30 (lv_at hl 0 rfl) ?_
              refine ld_R X w (in_lit (by decide)) dX4_bestPress_32 ?_
              refine W.eq (g2 := F0 m 33 ls [.ref (ad 8)]) rfl ?_
              refine lv_astore (lv' := [(6, .ref (ad 8)), (5, .int 2), (4, .int x25), (3, .int 1), (7, .int x25), (2, .ref (ad (17 + i.toNatClampNeg))), (0, .ref (ad 0)), (1, .int i)]) X.1 X.2.1 dX4_bestPress_33 hl (by decide) rfl (fun ls hl => ?_)
              refine lv_aload X.1 X.2.1 dX4_bestPress_35 (lv_at hl 0 rfl) ?_
              refine lv_ifnull X.1 X.2.1 dX4_bestPress_37 ?_
              refine lv_aload_n X.1 X.2.1 dX4_bestPress_40 rfl (lv_at hl 6 rfl) ?_
              refine lv_aload_n X.1 X.2.1 dX4_bestPress_41 rfl (lv_at hl 5 rfl) ?_
              refine lv_aload X.1 X.2.1 dX4_bestPress_42 (lv_at hl 0 rfl) ?_
              refine lv_aload X.1 X.2.1 dX4_bestPress_44 (lv_at hl 0 rfl) ?_
              refine gn_R X cn w (by decide : 6 ≤ 8 ∧ 8 < 10) 1 (by decide) (v := .int (F 8 1)) rfl kw_91 dX4_bestPress_46 ?_
              refine w_callr cn w (w_runV (n := 3) (As := [.ref (ad (17 + i.toNatClampNeg)), .ref (ad 8), .int (F 8 1)]) X cn w (lt17 (by decide)) wC_0 rfl (fun sz => c_X4_expect l D ca ad (s_exp (s_exp E F S 6 i.toNatClampNeg (F 6 1)) F S 7 i.toNatClampNeg (F 7 1)) F L S n i.toNatClampNeg (cl_lt (in_erI h2)) 8 (by decide : 6 ≤ 8 ∧ 8 < 10) (F 8 1) hs sz) (bg_V kw_310 kw_312 kw_9 kw_31 kw_313) rfl rfl (by decide +kernel) ⟨(Nat.le_of_ble_eq_true rfl), (Nat.le_of_ble_eq_true rfl)⟩ rfl hl.1 rfl (Nat.le_of_ble_eq_true rfl) dX4_bestPress_49 ⟨(Nat.zero_le _), (Nat.zero_le _)⟩) (fun r34 u H locs hp w => ?_)
              obtain ⟨rfl, rfl⟩ := hp
              refine W.eq (g2 := F0 m 52 ls [.ref (ad 1)]) rfl ?_
              refine gn_E X cn w 5 (by decide) (v := .int ((s_exp (s_exp (s_exp E F S 6 i.toNatClampNeg (F 6 1)) F S 7 i.toNatClampNeg (F 7 1)) F S 8 i.toNatClampNeg (F 8 1)) 5)) rfl kw_128 dX4_bestPress_52 ?_
              refine W.eq (g2 := F0 m 55 ls [.int (s_cost F S 8 i.toNatClampNeg (F 8 1))]) rfl ?_
              refine lv_topi (fun x35 ex35 => ?_)
              refine lv_istore (lv' := [(7, .int x35), (6, .ref (ad 8)), (5, .int 2), (4, .int x25), (3, .int 1), (2, .ref (ad (17 + i.toNatClampNeg))), (0, .ref (ad 0)), (1, .int i)]) X.1 X.2.1 dX4_bestPress_55 hl (by decide) rfl (fun ls hl => ?_)
              refine lv_iload X.1 X.2.1 dX4_bestPress_57 (lv_at hl 0 rfl) ?_
              refine lv_iload X.1 X.2.1 dX4_bestPress_59 (lv_at hl 3 rfl) ?_
              refine lv_icmp_ge (tgt := 71) X.1 X.2.1 dX4_bestPress_61 (by decide) (fun c36 => ?_) (fun c36 => ?_)
              ·
                refine lv_iinc (v := 3) (lv' := [(5, .int 3), (7, .int x35), (6, .ref (ad 8)), (4, .int x25), (3, .int 1), (2, .ref (ad (17 + i.toNatClampNeg))), (0, .ref (ad 0)), (1, .int i)]) X.1 X.2.1 dX4_bestPress_71 hl (k := 2) rfl (by decide) (by decide) rfl (fun ls hl => ?_)
                refine lv_goto (tgt := 16) X.1 X.2.1 dX4_bestPress_74 (by decide) ?_
                refine lv_iload X.1 X.2.1 dX4_bestPress_16 (lv_at hl 0 rfl) ?_
                refine lv_aload_n X.1 X.2.1 dX4_bestPress_18 rfl (lv_at hl 6 rfl) ?_
                refine g_L X w 1 (by decide) (v := .ref (ad 15)) rfl kw_146 dX4_bestPress_19 ?_
                refine len_R X w dX4_bestPress_22 ?_
                refine lv_icmp_ge (tgt := 77) X.1 X.2.1 dX4_bestPress_23 (by decide) (fun c37 => ?_) (fun c37 => ?_)
                ·
                  refine lv_iload_n X.1 X.2.1 dX4_bestPress_77 rfl (lv_at hl 4 rfl) ?_
                  exact vx_ret (w_iret X hr hlk w (by subst ex35; subst ex25; subst ex5; exact ⟨h2, by simp [s_best, s_bs, c3, c6, c23, c26, c33, c36, c37], rfl⟩) dX4_bestPress_78 rfl (Nat.zero_le _) (Nat.zero_le _))
                ·
                  exact absurd (by decide) c37
              ·
                refine lv_iload X.1 X.2.1 dX4_bestPress_64 (lv_at hl 2 rfl) ?_
                refine lv_istore_n (lv' := [(3, .int 2), (7, .int x35), (6, .ref (ad 8)), (5, .int 2), (4, .int x25), (2, .ref (ad (17 + i.toNatClampNeg))), (0, .ref (ad 0)), (1, .int i)]) X.1 X.2.1 dX4_bestPress_66 rfl hl (by decide) rfl (fun ls hl => ?_)
                refine lv_iload X.1 X.2.1 dX4_bestPress_67 (lv_at hl 1 rfl) ?_
                refine lv_istore (lv' := [(4, .int x35), (3, .int 2), (7, .int x35), (6, .ref (ad 8)), (5, .int 2), (2, .ref (ad (17 + i.toNatClampNeg))), (0, .ref (ad 0)), (1, .int i)]) X.1 X.2.1 dX4_bestPress_69 hl (by decide) rfl (fun ls hl => ?_)
                refine lv_iinc (v := 3) (lv' := [(5, .int 3), (4, .int x35), (3, .int 2), (7, .int x35), (6, .ref (ad 8)), (2, .ref (ad (17 + i.toNatClampNeg))), (0, .ref (ad 0)), (1, .int i)]) X.1 X.2.1 dX4_bestPress_71 hl (k := 4) rfl (by decide) (by decide) rfl (fun ls hl => ?_)
                refine lv_goto (tgt := 16) X.1 X.2.1 dX4_bestPress_74 (by decide) ?_
                refine lv_iload X.1 X.2.1 dX4_bestPress_16 (lv_at hl 0 rfl) ?_
                refine lv_aload_n X.1 X.2.1 dX4_bestPress_18 rfl (lv_at hl 6 rfl) ?_
                refine g_L X w 1 (by decide) (v := .ref (ad 15)) rfl kw_146 dX4_bestPress_19 ?_
                refine len_R X w dX4_bestPress_22 ?_
                refine lv_icmp_ge (tgt := 77) X.1 X.2.1 dX4_bestPress_23 (by decide) (fun c38 => ?_) (fun c38 => ?_)
                ·
                  refine lv_iload_n X.1 X.2.1 dX4_bestPress_77 rfl (lv_at hl 2 rfl) ?_
                  exact vx_ret (w_iret X hr hlk w (by subst ex35; subst ex25; subst ex5; exact ⟨h2, by simp [s_best, s_bs, c3, c6, c23, c26, c33, c36, c38], rfl⟩) dX4_bestPress_78 rfl (Nat.zero_le _) (Nat.zero_le _))
                ·
                  exact absurd (by decide) c38
  ·
    have hE : erI n i ≠ 0 ∧ exN ((erI n i)) = exN (erI n i) := by  simp [ne_eq, h2, erI_1 h2]
    have hm' := hm hE.1
    exact x_gone X hlk hnt cn w (xw_runV (n := 1) (As := [.int i]) X cn w (lt17 (by decide)) wC_0 rfl (fun sz => c_X4_jobOf l D ca ad E F L S n hlt wf.2.1.2 wf.1 i 1 6 (fun _ => ⟨Nat.le_refl 1, Nat.le_refl 6⟩) sz) (bg_V kw_384 kw_386 kw_18 kw_31 kw_387) rfl rfl (by decide +kernel) ⟨(Nat.le_of_ble_eq_true rfl), (Nat.le_of_ble_eq_true rfl)⟩ rfl hl.1 rfl (Nat.le_of_ble_eq_true rfl) dX4_bestPress_2 ⟨hm'.1, hm'.2⟩) (fun st v t hq => by obtain ⟨⟨r, u, -, hp, -⟩, -⟩ := hq; exact h2 hp.1) hE.2 hE.1 (fun u hu => hu) hm rfl rfl
