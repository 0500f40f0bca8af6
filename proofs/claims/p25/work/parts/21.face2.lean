set_option maxHeartbeats 4000000 in
set_option maxRecDepth 100000 in
theorem c_X4_order (l : Launch) (D : va_G) (ca : Nat → ClassId) (ad : Nat → Nat) (E : Em) (F : Fm) (L : Lm) (S : Sm) (n : Nat) (hlt : l.stackTraces = false) (q : Nat → Nat) (wf : Wf F L S n q) (i r : Int32) (hroom : er_order F n i r = 0 → q (6 + r.toNatClampNeg) < 20) (mc ms : Nat) (hm : er_order F n i r ≠ 0 → 1 ≤ mc ∧ 6 ≤ ms) (sz : Nat) : vx_Met l yX4_order (.code yX4_order cX4_order 5 (some .int) :: BG) { frames := 7, cells := mc, slots := ms, locals := 117 } (Pw D ca ad (E, F, L, S, n) sz [.ref (ad 0), .int i, .int r]) (Qi D ca ad n (fun v u => er_order F n i r = 0 ∧ v = s_orderF F S q i.toNatClampNeg (6 + r.toNatClampNeg) r (17 + i.toNatClampNeg) 11 ∧ u.2 = (s_orderF F S q i.toNatClampNeg (6 + r.toNatClampNeg) r, s_insL L q (q (6 + r.toNatClampNeg)) i.toNatClampNeg (6 + r.toNatClampNeg), S, n)) sz) (Xq D ca ad n (er_order F n i r) (fun u => u.2 = (F, L, S, n)) sz) mc ms (wA ad n sz) := by
  refine open_X (σ := (E, F, L, S, n)) (Qc := Qi D ca ad n (fun v u => er_order F n i r = 0 ∧ v = s_orderF F S q i.toNatClampNeg (6 + r.toNatClampNeg) r (17 + i.toNatClampNeg) 11 ∧ u.2 = (s_orderF F S q i.toNatClampNeg (6 + r.toNatClampNeg) r, s_insL L q (q (6 + r.toNatClampNeg)) i.toNatClampNeg (6 + r.toNatClampNeg), S, n))) (XC := Xq D ca ad n (er_order F n i r) (fun u => u.2 = (F, L, S, n))) (by decide +kernel) (Nat.le_of_ble_eq_true rfl) ?_
  intro p e s m args below meth c X hr hlk hnt w cn ls hl
  have hl : lv_has ls 5 [(0, .ref (ad 0)), (1, .int i), (2, .int r)] := hl
  have hs := wf.2.2.1
  have hJ := wf.2.1.2
  refine lv_aload_n X.1 X.2.1 dX4_order_0 rfl (lv_at hl 0 rfl) ?_
  refine lv_iload_n X.1 X.2.1 dX4_order_1 rfl (lv_at hl 1 rfl) ?_
  by_cases h2 : (erI n i) = 0
  ·
    refine w_callr cn w (w_runV (n := 1) (As := [.int i]) X cn w (lt17 (by decide)) wC_0 rfl (fun sz => met_of (c_X4_jobOf l D ca ad E F L S n hlt wf.2.1.2 wf.1 i 0 0 (fun h => (h h2).elim) sz) h2) (bg_V kw_384 kw_386 kw_18 kw_31 kw_387) rfl rfl (by decide +kernel) ⟨(Nat.le_of_ble_eq_true rfl), (Nat.le_of_ble_eq_true rfl)⟩ rfl hl.1 rfl (Nat.le_of_ble_eq_true rfl) dX4_order_2 ⟨(Nat.zero_le _), (Nat.zero_le _)⟩) (fun r1 u H locs hp w => ?_)
    obtain ⟨-, rfl, rfl⟩ := hp
    refine W.eq (g2 := F0 m 5 ls [.ref (ad (17 + i.toNatClampNeg))]) rfl ?_
    refine lv_astore_n (lv' := [(3, .ref (ad (17 + i.toNatClampNeg))), (0, .ref (ad 0)), (1, .int i), (2, .int r)]) X.1 X.2.1 dX4_order_5 rfl hl (by decide) rfl (fun ls hl => ?_)
    refine lv_aload_n X.1 X.2.1 dX4_order_6 rfl (lv_at hl 1 rfl) ?_
    refine lv_iload_n X.1 X.2.1 dX4_order_7 rfl (lv_at hl 3 rfl) ?_
    by_cases h4 : (erI 3 r) = 0
    ·
      refine w_callr cn w (w_runV (n := 1) (As := [.int r]) X cn w (lt17 (by decide)) wC_0 rfl (fun sz => met_of (c_X4_pressOf l D ca ad E F L S n hlt r 0 0 (fun h => (h h4).elim) sz) h4) (bg_V kw_361 kw_363 kw_15 kw_31 kw_364) rfl rfl (by decide +kernel) ⟨(Nat.le_of_ble_eq_true rfl), (Nat.le_of_ble_eq_true rfl)⟩ rfl hl.1 rfl (Nat.le_of_ble_eq_true rfl) dX4_order_8 ⟨(Nat.zero_le _), (Nat.zero_le _)⟩) (fun r3 u H locs hp w => ?_)
      obtain ⟨-, rfl, rfl⟩ := hp
      refine W.eq (g2 := F0 m 11 ls [.ref (ad (6 + r.toNatClampNeg))]) rfl ?_
      refine lv_astore (lv' := [(4, .ref (ad (6 + r.toNatClampNeg))), (3, .ref (ad (17 + i.toNatClampNeg))), (0, .ref (ad 0)), (1, .int i), (2, .int r)]) X.1 X.2.1 dX4_order_11 hl (by decide) rfl (fun ls hl => ?_)
      refine lv_aload_n X.1 X.2.1 dX4_order_13 rfl (lv_at hl 1 rfl) ?_
      refine gn_J X cn w (cl_lt (in_erI h2)) 8 (by decide) (v := .int (F (17 + i.toNatClampNeg) 8)) rfl kw_481 dX4_order_14 ?_
      refine lv_if_eq (tgt := 30) X.1 X.2.1 dX4_order_17 (by decide) (fun c5 => ?_) (fun c5 => ?_)
      ·
        refine lv_aload_n X.1 X.2.1 dX4_order_30 rfl (lv_at hl 1 rfl) ?_
        refine lv_aload_n X.1 X.2.1 dX4_order_31 rfl (lv_at hl 2 rfl) ?_
        refine lv_aload_n X.1 X.2.1 dX4_order_32 rfl (lv_at hl 1 rfl) ?_
        refine lv_aload X.1 X.2.1 dX4_order_33 (lv_at hl 0 rfl) ?_
        refine lv_aload X.1 X.2.1 dX4_order_35 (lv_at hl 0 rfl) ?_
        refine gn_R X cn w (prs_in (in_erI h4)) 1 (by decide) (v := .int (F (6 + r.toNatClampNeg) 1)) rfl kw_91 dX4_order_37 ?_
        refine w_callr cn w (w_runV (n := 3) (As := [.ref (ad (17 + i.toNatClampNeg)), .ref (ad (6 + r.toNatClampNeg)), .int (F (6 + r.toNatClampNeg) 1)]) X cn w (lt17 (by decide)) wC_0 rfl (fun sz => c_X4_expect l D ca ad E F L S n i.toNatClampNeg (cl_lt (in_erI h2)) (6 + r.toNatClampNeg) (prs_in (in_erI h4)) (F (6 + r.toNatClampNeg) 1) hs sz) (bg_V kw_310 kw_312 kw_9 kw_31 kw_313) rfl rfl (by decide +kernel) ⟨(Nat.le_of_ble_eq_true rfl), (Nat.le_of_ble_eq_true rfl)⟩ rfl hl.1 rfl (Nat.le_of_ble_eq_true rfl) dX4_order_40 ⟨(Nat.zero_le _), (Nat.zero_le _)⟩) (fun r6 u H locs hp w => ?_)
        obtain ⟨rfl, rfl⟩ := hp
        refine W.eq (g2 := F0 m 43 ls [.ref (ad 1), .ref (ad (17 + i.toNatClampNeg))]) rfl ?_
        refine gn_E X cn w 6 (by decide) (v := .int ((s_exp E F S (6 + r.toNatClampNeg) i.toNatClampNeg (F (6 + r.toNatClampNeg) 1)) 6)) rfl kw_129 dX4_order_43 ?_
        refine W.eq (g2 := F0 m 46 ls [.int (s_quote F S (6 + r.toNatClampNeg) i.toNatClampNeg (F (6 + r.toNatClampNeg) 1)), .ref (ad (17 + i.toNatClampNeg))]) rfl ?_
        refine pn_J X cn w (cl_lt (in_erI h2)) 11 (by decide) rfl (ty := .int) (by decide +kernel) (v := (s_quote F S (6 + r.toNatClampNeg) i.toNatClampNeg (F (6 + r.toNatClampNeg) 1))) rfl rfl kw_487 dX4_order_46 (fun H locs w => ?_)
        obtain ⟨F7, eF7⟩ : ∃ G : Fm, G = up2 F (17 + i.toNatClampNeg) 11 (s_quote F S (6 + r.toNatClampNeg) i.toNatClampNeg (F (6 + r.toNatClampNeg) 1)) := ⟨_, rfl⟩
        rw [← eF7] at w
        refine lv_aload_n X.1 X.2.1 dX4_order_49 rfl (lv_at hl 1 rfl) ?_
        refine lv_iload_n X.1 X.2.1 dX4_order_50 rfl (lv_at hl 4 rfl) ?_
        refine pn_J X cn w (cl_lt (in_erI h2)) 9 (by decide) rfl (ty := .int) (by decide +kernel) (v := r) rfl rfl kw_483 dX4_order_51 (fun H locs w => ?_)
        obtain ⟨F8, eF8⟩ : ∃ G : Fm, G = up2 F7 (17 + i.toNatClampNeg) 9 r := ⟨_, rfl⟩
        rw [← eF8] at w
        refine lv_aload_n X.1 X.2.1 dX4_order_54 rfl (lv_at hl 1 rfl) ?_
        refine lv_iconst (v := 1) X.1 X.2.1 dX4_order_55 (by decide) ?_
        refine pn_J X cn w (cl_lt (in_erI h2)) 8 (by decide) rfl (ty := .int) (by decide +kernel) (v := 1) rfl rfl kw_481 dX4_order_56 (fun H locs w => ?_)
        obtain ⟨F9, eF9⟩ : ∃ G : Fm, G = up2 F8 (17 + i.toNatClampNeg) 8 1 := ⟨_, rfl⟩
        rw [← eF9] at w
        refine lv_aload X.1 X.2.1 dX4_order_59 (lv_at hl 0 rfl) ?_
        refine lv_aload_n X.1 X.2.1 dX4_order_61 rfl (lv_at hl 1 rfl) ?_
        refine lv_aload X.1 X.2.1 dX4_order_62 (lv_at hl 0 rfl) ?_
        refine gn_R X cn w (prs_in (in_erI h4)) 6 (by decide) (v := .int (F9 (6 + r.toNatClampNeg) 6)) rfl kw_100 dX4_order_64 ?_
        have hop := prs_in (in_erI h4)
        have hz : F9 (6 + r.toNatClampNeg) 6 = nI (q (6 + r.toNatClampNeg)) := by subst eF9; subst eF8; subst eF7; have n1 : (6 + r.toNatClampNeg) ≠ 17 + i.toNatClampNeg := (by omega); simp only [up2_ne n1]; exact (wf.2.2.2 _ hop).1
        refine W.eq (g2 := F0 m 67 ls [.int (nI (q (6 + r.toNatClampNeg))), .ref (ad (17 + i.toNatClampNeg)), .ref (ad (6 + r.toNatClampNeg))]) (by rw [hz]) ?_
        refine w_callv cn w (w_runVN (n := 2) (As := [.ref (ad (17 + i.toNatClampNeg)), .int (nI (q (6 + r.toNatClampNeg)))]) X cn w (lt17 (by have := (prs_in (in_erI h4)); omega)) (wC_R ((prs_in (in_erI h4))).1 ((prs_in (in_erI h4))).2) rfl (fun sz => c_X3_insert l D ca ad (s_exp E F S (6 + r.toNatClampNeg) i.toNatClampNeg (F (6 + r.toNatClampNeg) 1)) F9 L S n (6 + r.toNatClampNeg) hop i.toNatClampNeg (cl_lt (in_erI h2)) (q (6 + r.toNatClampNeg)) (q (6 + r.toNatClampNeg)) hz (hroom (by simp [er_order, h2, h4, c5])) (by omega) (wf.2.2.2 _ hop).2.2 sz) kw_532 kw_534 kw_22 kw_33 kw_535 rfl rfl (by decide +kernel) ⟨(Nat.le_of_ble_eq_true rfl), (Nat.le_of_ble_eq_true rfl)⟩ rfl hl.1 rfl (Nat.le_of_ble_eq_true rfl) dX4_order_67 ⟨(Nat.zero_le _), (Nat.zero_le _)⟩) (fun u H locs hp w => ?_)
        subst hp
        refine lv_aload_n X.1 X.2.1 dX4_order_70 rfl (lv_at hl 1 rfl) ?_
        refine gn_J X cn w (cl_lt (in_erI h2)) 11 (by decide) (v := .int ((up2 F9 (6 + r.toNatClampNeg) 6 (nI (q (6 + r.toNatClampNeg) + 1))) (17 + i.toNatClampNeg) 11)) rfl kw_487 dX4_order_71 ?_
        exact vx_ret (w_iret X hr hlk w (by subst eF9; subst eF8; subst eF7; exact ⟨by simp [er_order, h2, h4, c5], rfl, rfl⟩) dX4_order_74 rfl (Nat.zero_le _) (Nat.zero_le _))
      ·
        exact x_throw3 (k := 226) (tx := "the job is not new") hlt X rfl hlk hnt cn w hl.1 (by decide +kernel) (by  simp [er_order, h2, h4, c5]) rfl hm dX4_order_20 dX4_order_23 dX4_order_24 dX4_order_26 dX4_order_29 (Nat.le_of_ble_eq_true rfl) (Nat.le_of_ble_eq_true rfl) rfl rfl rfl rfl
    ·
      have hE : er_order F n i r ≠ 0 ∧ exN ((erI 3 r)) = exN (er_order F n i r) := by  simp [er_order, h2, h4, erI_1 h4]
      have hm' := hm hE.1
      exact x_gone X hlk hnt cn w (xw_runV (n := 1) (As := [.int r]) X cn w (lt17 (by decide)) wC_0 rfl (fun sz => c_X4_pressOf l D ca ad E F L S n hlt r 1 6 (fun _ => ⟨Nat.le_refl 1, Nat.le_refl 6⟩) sz) (bg_V kw_361 kw_363 kw_15 kw_31 kw_364) rfl rfl (by decide +kernel) ⟨(Nat.le_of_ble_eq_true rfl), (Nat.le_of_ble_eq_true rfl)⟩ rfl hl.1 rfl (Nat.le_of_ble_eq_true rfl) dX4_order_8 ⟨hm'.1, hm'.2⟩) (fun st v t hq => by obtain ⟨⟨r, u, -, hp, -⟩, -⟩ := hq; exact h4 hp.1) hE.2 hE.1 (fun u hu => hu) hm rfl rfl
  ·
    have hE : er_order F n i r ≠ 0 ∧ exN ((erI n i)) = exN (er_order F n i r) := by  simp [er_order, h2, erI_1 h2]
    have hm' := hm hE.1
    exact x_gone X hlk hnt cn w (xw_runV (n := 1) (As := [.int i]) X cn w (lt17 (by decide)) wC_0 rfl (fun sz => c_X4_jobOf l D ca ad E F L S n hlt wf.2.1.2 wf.1 i 1 6 (fun _ => ⟨Nat.le_refl 1, Nat.le_refl 6⟩) sz) (bg_V kw_384 kw_386 kw_18 kw_31 kw_387) rfl rfl (by decide +kernel) ⟨(Nat.le_of_ble_eq_true rfl), (Nat.le_of_ble_eq_true rfl)⟩ rfl hl.1 rfl (Nat.le_of_ble_eq_true rfl) dX4_order_2 ⟨hm'.1, hm'.2⟩) (fun st v t hq => by obtain ⟨⟨r, u, -, hp, -⟩, -⟩ := hq; exact h2 hp.1) hE.2 hE.1 (fun u hu => hu) hm rfl rfl

set_option maxHeartbeats 4000000 in
set_option maxRecDepth 100000 in
theorem c_X4_again (l : Launch) (D : va_G) (ca : Nat → ClassId) (ad : Nat → Nat) (E : Em) (F : Fm) (L : Lm) (S : Sm) (n : Nat) (hlt : l.stackTraces = false) (q : Nat → Nat) (wf : Wf F L S n q) (i : Int32) (hag : er_again F n i = 0 → erI 3 (F (17 + i.toNatClampNeg) 9) = 0 ∧ q (6 + (F (17 + i.toNatClampNeg) 9).toNatClampNeg) < 20) (mc ms : Nat) (hm : er_again F n i ≠ 0 → 1 ≤ mc ∧ 6 ≤ ms) (sz : Nat) : vx_Met l yX4_again (.code yX4_again cX4_again 3 (some .int) :: BG) { frames := 7, cells := mc, slots := ms, locals := 117 } (Pw D ca ad (E, F, L, S, n) sz [.ref (ad 0), .int i]) (Qi D ca ad n (fun v u => er_again F n i = 0 ∧ v = s_sheets (s_againF F q i.toNatClampNeg (6 + (F (17 + i.toNatClampNeg) 9).toNatClampNeg)) i.toNatClampNeg ∧ u.2 = (s_againF F q i.toNatClampNeg (6 + (F (17 + i.toNatClampNeg) 9).toNatClampNeg), s_insL L q 0 i.toNatClampNeg (6 + (F (17 + i.toNatClampNeg) 9).toNatClampNeg), S, n)) sz) (Xq D ca ad n (er_again F n i) (fun u => u.2 = (F, L, S, n)) sz) mc ms (wA ad n sz) := by
  refine open_X (σ := (E, F, L, S, n)) (Qc := Qi D ca ad n (fun v u => er_again F n i = 0 ∧ v = s_sheets (s_againF F q i.toNatClampNeg (6 + (F (17 + i.toNatClampNeg) 9).toNatClampNeg)) i.toNatClampNeg ∧ u.2 = (s_againF F q i.toNatClampNeg (6 + (F (17 + i.toNatClampNeg) 9).toNatClampNeg), s_insL L q 0 i.toNatClampNeg (6 + (F (17 + i.toNatClampNeg) 9).toNatClampNeg), S, n))) (XC := Xq D ca ad n (er_again F n i) (fun u => u.2 = (F, L, S, n))) (by decide +kernel) (Nat.le_of_ble_eq_true rfl) ?_
  intro p e s m args below meth c X hr hlk hnt w cn ls hl
  have hl : lv_has ls 3 [(0, .ref (ad 0)), (1, .int i)] := hl
  have hs := wf.2.2.1
  have hJ := wf.2.1.2
  refine lv_aload_n X.1 X.2.1 dX4_again_0 rfl (lv_at hl 0 rfl) ?_
  refine lv_iload_n X.1 X.2.1 dX4_again_1 rfl (lv_at hl 1 rfl) ?_
  by_cases h2 : (erI n i) = 0
  ·
    refine w_callr cn w (w_runV (n := 1) (As := [.int i]) X cn w (lt17 (by decide)) wC_0 rfl (fun sz => met_of (c_X4_jobOf l D ca ad E F L S n hlt wf.2.1.2 wf.1 i 0 0 (fun h => (h h2).elim) sz) h2) (bg_V kw_384 kw_386 kw_18 kw_31 kw_387) rfl rfl (by decide +kernel) ⟨(Nat.le_of_ble_eq_true rfl), (Nat.le_of_ble_eq_true rfl)⟩ rfl hl.1 rfl (Nat.le_of_ble_eq_true rfl) dX4_again_2 ⟨(Nat.zero_le _), (Nat.zero_le _)⟩) (fun r1 u H locs hp w => ?_)
    obtain ⟨-, rfl, rfl⟩ := hp
    refine W.eq (g2 := F0 m 5 ls [.ref (ad (17 + i.toNatClampNeg))]) rfl ?_
    refine lv_astore_n (lv' := [(2, .ref (ad (17 + i.toNatClampNeg))), (0, .ref (ad 0)), (1, .int i)]) X.1 X.2.1 dX4_again_5 rfl hl (by decide) rfl (fun ls hl => ?_)
    refine lv_aload_n X.1 X.2.1 dX4_again_6 rfl (lv_at hl 0 rfl) ?_
    refine gn_J X cn w (cl_lt (in_erI h2)) 8 (by decide) (v := .int (F (17 + i.toNatClampNeg) 8)) rfl kw_481 dX4_again_7 ?_
    refine lv_iconst (v := 2) X.1 X.2.1 dX4_again_10 (by decide) ?_
    refine lv_icmp_eq (tgt := 24) X.1 X.2.1 dX4_again_11 (by decide) (fun c3 => ?_) (fun c3 => ?_)
    ·
      refine lv_aload_n X.1 X.2.1 dX4_again_24 rfl (lv_at hl 0 rfl) ?_
      refine gn_J X cn w (cl_lt (in_erI h2)) 10 (by decide) (v := .int (F (17 + i.toNatClampNeg) 10)) rfl kw_485 dX4_again_25 ?_
      refine lv_aload_n X.1 X.2.1 dX4_again_28 rfl (lv_at hl 0 rfl) ?_
      refine gn_J X cn w (cl_lt (in_erI h2)) 3 (by decide) (v := .int (F (17 + i.toNatClampNeg) 3)) rfl kw_470 dX4_again_29 ?_
      refine lv_icmp_lt (tgt := 45) X.1 X.2.1 dX4_again_32 (by decide) (fun c4 => ?_) (fun c4 => ?_)
      ·
        refine lv_aload_n X.1 X.2.1 dX4_again_45 rfl (lv_at hl 1 rfl) ?_
        refine lv_aload_n X.1 X.2.1 dX4_again_46 rfl (lv_at hl 0 rfl) ?_
        refine gn_J X cn w (cl_lt (in_erI h2)) 9 (by decide) (v := .int (F (17 + i.toNatClampNeg) 9)) rfl kw_483 dX4_again_47 ?_
        have h6 : (erI 3 (F (17 + i.toNatClampNeg) 9)) = 0 := (hag (by simp [er_again, h2, c3, c4])).1
        refine w_callr cn w (w_runV (n := 1) (As := [.int (F (17 + i.toNatClampNeg) 9)]) X cn w (lt17 (by decide)) wC_0 rfl (fun sz => met_of (c_X4_pressOf l D ca ad E F L S n hlt (F (17 + i.toNatClampNeg) 9) 0 0 (fun h => (h h6).elim) sz) h6) (bg_V kw_361 kw_363 kw_15 kw_31 kw_364) rfl rfl (by decide +kernel) ⟨(Nat.le_of_ble_eq_true rfl), (Nat.le_of_ble_eq_true rfl)⟩ rfl hl.1 rfl (Nat.le_of_ble_eq_true rfl) dX4_again_50 ⟨(Nat.zero_le _), (Nat.zero_le _)⟩) (fun r5 u H locs hp w => ?_)
        obtain ⟨-, rfl, rfl⟩ := hp
        refine W.eq (g2 := F0 m 53 ls [.ref (ad (6 + (F (17 + i.toNatClampNeg) 9).toNatClampNeg))]) rfl ?_
        refine lv_aload_n X.1 X.2.1 dX4_again_53 rfl (lv_at hl 0 rfl) ?_
        refine lv_iconst (v := 0) X.1 X.2.1 dX4_again_54 (by decide) ?_
        have hop : 6 ≤ (6 + (F (17 + i.toNatClampNeg) 9).toNatClampNeg) ∧ (6 + (F (17 + i.toNatClampNeg) 9).toNatClampNeg) < 10 := prs_in (in_erI h6)
        have hz : F (6 + (F (17 + i.toNatClampNeg) 9).toNatClampNeg) 6 = nI (q (6 + (F (17 + i.toNatClampNeg) 9).toNatClampNeg)) := (wf.2.2.2 _ hop).1
        refine w_callv cn w (w_runVN (n := 2) (As := [.ref (ad (17 + i.toNatClampNeg)), .int 0]) X cn w (lt17 (by have := (prs_in (in_erI h6)); omega)) (wC_R ((prs_in (in_erI h6))).1 ((prs_in (in_erI h6))).2) rfl (fun sz => c_X3_insert l D ca ad E F L S n (6 + (F (17 + i.toNatClampNeg) 9).toNatClampNeg) hop i.toNatClampNeg (cl_lt (in_erI h2)) (q (6 + (F (17 + i.toNatClampNeg) 9).toNatClampNeg)) 0 hz (hag (by simp [er_again, h2, c3, c4])).2 (by omega) (wf.2.2.2 _ hop).2.2 sz) kw_532 kw_534 kw_22 kw_33 kw_535 rfl rfl (by decide +kernel) ⟨(Nat.le_of_ble_eq_true rfl), (Nat.le_of_ble_eq_true rfl)⟩ rfl hl.1 rfl (Nat.le_of_ble_eq_true rfl) dX4_again_55 ⟨(Nat.zero_le _), (Nat.zero_le _)⟩) (fun u H locs hp w => ?_)
        subst hp
        refine lv_aload_n X.1 X.2.1 dX4_again_58 rfl (lv_at hl 0 rfl) ?_
        refine lv_iconst (v := 1) X.1 X.2.1 dX4_again_59 (by decide) ?_
        refine pn_J X cn w (cl_lt (in_erI h2)) 8 (by decide) rfl (ty := .int) (by decide +kernel) (v := 1) rfl rfl kw_481 dX4_again_60 (fun H locs w => ?_)
        obtain ⟨F7, eF7⟩ : ∃ G : Fm, G = up2 (up2 F (6 + (F (17 + i.toNatClampNeg) 9).toNatClampNeg) 6 (nI (q (6 + (F (17 + i.toNatClampNeg) 9).toNatClampNeg) + 1))) (17 + i.toNatClampNeg) 8 1 := ⟨_, rfl⟩
        rw [← eF7] at w
        refine lv_aload_n X.1 X.2.1 dX4_again_63 rfl (lv_at hl 0 rfl) ?_
        refine w_calli cn w (w_runVN (n := 0) (As := []) X cn w (Nat.add_lt_add_left (cl_lt (in_erI h2)) 17) wC_J rfl (fun sz => c_X1_sheets l D ca ad E F7 (upLf L (6 + (F (17 + i.toNatClampNeg) 9).toNatClampNeg) (insF (L (6 + (F (17 + i.toNatClampNeg) 9).toNatClampNeg)) 0 i.toNatClampNeg (q (6 + (F (17 + i.toNatClampNeg) 9).toNatClampNeg)))) S n i.toNatClampNeg (cl_lt (in_erI h2)) sz) kw_314 kw_316 kw_10 kw_42 kw_318 rfl rfl (by decide +kernel) ⟨(Nat.le_of_ble_eq_true rfl), (Nat.le_of_ble_eq_true rfl)⟩ rfl hl.1 rfl (Nat.le_of_ble_eq_true rfl) dX4_again_64 ⟨(Nat.zero_le _), (Nat.zero_le _)⟩) (fun r8 u H locs hp w => ?_)
        obtain ⟨rfl, rfl⟩ := hp
        exact vx_ret (w_iret X hr hlk w (by subst eF7; exact ⟨by simp [er_again, h2, c3, c4, h6], rfl, rfl⟩) dX4_again_67 rfl (Nat.zero_le _) (Nat.zero_le _))
      ·
        exact x_throw3 (k := 234) (tx := "nothing is lacking") hlt X rfl hlk hnt cn w hl.1 (by decide +kernel) (by  simp [er_again, h2, c3, c4]) rfl hm dX4_again_35 dX4_again_38 dX4_again_39 dX4_again_41 dX4_again_44 (Nat.le_of_ble_eq_true rfl) (Nat.le_of_ble_eq_true rfl) rfl rfl rfl rfl
    ·
      exact x_throw3 (k := 232) (tx := "the job is not printed") hlt X rfl hlk hnt cn w hl.1 (by decide +kernel) (by  simp [er_again, h2, c3]) rfl hm dX4_again_14 dX4_again_17 dX4_again_18 dX4_again_20 dX4_again_23 (Nat.le_of_ble_eq_true rfl) (Nat.le_of_ble_eq_true rfl) rfl rfl rfl rfl
  ·
    have hE : er_again F n i ≠ 0 ∧ exN ((erI n i)) = exN (er_again F n i) := by  simp [er_again, h2, h2, erI_1 h2]
    have hm' := hm hE.1
    exact x_gone X hlk hnt cn w (xw_runV (n := 1) (As := [.int i]) X cn w (lt17 (by decide)) wC_0 rfl (fun sz => c_X4_jobOf l D ca ad E F L S n hlt wf.2.1.2 wf.1 i 1 6 (fun _ => ⟨Nat.le_refl 1, Nat.le_refl 6⟩) sz) (bg_V kw_384 kw_386 kw_18 kw_31 kw_387) rfl rfl (by decide +kernel) ⟨(Nat.le_of_ble_eq_true rfl), (Nat.le_of_ble_eq_true rfl)⟩ rfl hl.1 rfl (Nat.le_of_ble_eq_true rfl) dX4_again_2 ⟨hm'.1, hm'.2⟩) (fun st v t hq => by obtain ⟨⟨r, u, -, hp, -⟩, -⟩ := hq; exact h2 hp.1) hE.2 hE.1 (fun u hu => hu) hm rfl rfl

set_option maxHeartbeats 4000000 in
set_option maxRecDepth 100000 in
theorem c_X4_invoice (l : Launch) (D : va_G) (ca : Nat → ClassId) (ad : Nat → Nat) (E : Em) (F : Fm) (L : Lm) (S : Sm) (n : Nat) (hlt : l.stackTraces = false) (q : Nat → Nat) (wf : Wf F L S n q) (i : Int32) (mc ms : Nat) (hm : er_invoice F n i ≠ 0 → 1 ≤ mc ∧ 6 ≤ ms) (sz : Nat) : vx_Met l yX4_invoice (.code yX4_invoice cX4_invoice 3 (some .int) :: BG) { frames := 7, cells := mc, slots := ms, locals := 117 } (Pw D ca ad (E, F, L, S, n) sz [.ref (ad 0), .int i]) (Qi D ca ad n (fun v u => er_invoice F n i = 0 ∧ v = s_invF F i.toNatClampNeg (17 + i.toNatClampNeg) 13 ∧ u.2 = (s_invF F i.toNatClampNeg, L, S, n)) sz) (Xq D ca ad n (er_invoice F n i) (fun u => u.2 = (F, L, S, n)) sz) mc ms (wA ad n sz) := by
  refine open_X (σ := (E, F, L, S, n)) (Qc := Qi D ca ad n (fun v u => er_invoice F n i = 0 ∧ v = s_invF F i.toNatClampNeg (17 + i.toNatClampNeg) 13 ∧ u.2 = (s_invF F i.toNatClampNeg, L, S, n))) (XC := Xq D ca ad n (er_invoice F n i) (fun u => u.2 = (F, L, S, n))) (by decide +kernel) (Nat.le_of_ble_eq_true rfl) ?_
  intro p e s m args below meth c X hr hlk hnt w cn ls hl
  have hl : lv_has ls 3 [(0, .ref (ad 0)), (1, .int i)] := hl
  have hs := wf.2.2.1
  have hJ := wf.2.1.2
  refine lv_aload_n X.1 X.2.1 dX4_invoice_0 rfl (lv_at hl 0 rfl) ?_
  refine lv_iload_n X.1 X.2.1 dX4_invoice_1 rfl (lv_at hl 1 rfl) ?_
  by_cases h2 : (erI n i) = 0
  ·
    refine w_callr cn w (w_runV (n := 1) (As := [.int i]) X cn w (lt17 (by decide)) wC_0 rfl (fun sz => met_of (c_X4_jobOf l D ca ad E F L S n hlt wf.2.1.2 wf.1 i 0 0 (fun h => (h h2).elim) sz) h2) (bg_V kw_384 kw_386 kw_18 kw_31 kw_387) rfl rfl (by decide +kernel) ⟨(Nat.le_of_ble_eq_true rfl), (Nat.le_of_ble_eq_true rfl)⟩ rfl hl.1 rfl (Nat.le_of_ble_eq_true rfl) dX4_invoice_2 ⟨(Nat.zero_le _), (Nat.zero_le _)⟩) (fun r1 u H locs hp w => ?_)
    obtain ⟨-, rfl, rfl⟩ := hp
    refine W.eq (g2 := F0 m 5 ls [.ref (ad (17 + i.toNatClampNeg))]) rfl ?_
    refine lv_astore_n (lv' := [(2, .ref (ad (17 + i.toNatClampNeg))), (0, .ref (ad 0)), (1, .int i)]) X.1 X.2.1 dX4_invoice_5 rfl hl (by decide) rfl (fun ls hl => ?_)
    refine lv_aload_n X.1 X.2.1 dX4_invoice_6 rfl (lv_at hl 0 rfl) ?_
    refine gn_J X cn w (cl_lt (in_erI h2)) 8 (by decide) (v := .int (F (17 + i.toNatClampNeg) 8)) rfl kw_481 dX4_invoice_7 ?_
    refine lv_iconst (v := 2) X.1 X.2.1 dX4_invoice_10 (by decide) ?_
    refine lv_icmp_eq (tgt := 24) X.1 X.2.1 dX4_invoice_11 (by decide) (fun c3 => ?_) (fun c3 => ?_)
    ·
      refine lv_aload_n X.1 X.2.1 dX4_invoice_24 rfl (lv_at hl 0 rfl) ?_
      refine gn_J X cn w (cl_lt (in_erI h2)) 10 (by decide) (v := .int (F (17 + i.toNatClampNeg) 10)) rfl kw_485 dX4_invoice_25 ?_
      refine lv_aload_n X.1 X.2.1 dX4_invoice_28 rfl (lv_at hl 0 rfl) ?_
      refine gn_J X cn w (cl_lt (in_erI h2)) 3 (by decide) (v := .int (F (17 + i.toNatClampNeg) 3)) rfl kw_470 dX4_invoice_29 ?_
      refine lv_aload_n X.1 X.2.1 dX4_invoice_32 rfl (lv_at hl 0 rfl) ?_
      refine gn_J X cn w (cl_lt (in_erI h2)) 3 (by decide) (v := .int (F (17 + i.toNatClampNeg) 3)) rfl kw_470 dX4_invoice_33 ?_
      refine lv_bipush (v := 20) X.1 X.2.1 dX4_invoice_36 (by decide) ?_
      refine lv_idiv X.1 X.2.1 dX4_invoice_38 (by decide) ?_
      refine lv_isub X.1 X.2.1 dX4_invoice_39 ?_
      refine lv_icmp_ge (tgt := 53) X.1 X.2.1 dX4_invoice_40 (by decide) (fun c4 => ?_) (fun c4 => ?_)
      ·
        refine lv_aload_n X.1 X.2.1 dX4_invoice_53 rfl (lv_at hl 0 rfl) ?_
        refine lv_aload_n X.1 X.2.1 dX4_invoice_54 rfl (lv_at hl 0 rfl) ?_
        refine w_calli cn w (w_runVN (n := 0) (As := []) X cn w (Nat.add_lt_add_left (cl_lt (in_erI h2)) 17) wC_J rfl (fun sz => c_X1_worth l D ca ad E F L S n i.toNatClampNeg (cl_lt (in_erI h2)) sz) kw_404 kw_406 kw_19 kw_42 kw_407 rfl rfl (by decide +kernel) ⟨(Nat.le_of_ble_eq_true rfl), (Nat.le_of_ble_eq_true rfl)⟩ rfl hl.1 rfl (Nat.le_of_ble_eq_true rfl) dX4_invoice_55 ⟨(Nat.zero_le _), (Nat.zero_le _)⟩) (fun r5 u H locs hp w => ?_)
        obtain ⟨rfl, rfl⟩ := hp
        refine pn_J X cn w (cl_lt (in_erI h2)) 13 (by decide) rfl (ty := .int) (by decide +kernel) (v := (s_worth F i.toNatClampNeg)) rfl rfl kw_489 dX4_invoice_58 (fun H locs w => ?_)
        obtain ⟨F6, eF6⟩ : ∃ G : Fm, G = up2 F (17 + i.toNatClampNeg) 13 (s_worth F i.toNatClampNeg) := ⟨_, rfl⟩
        rw [← eF6] at w
        refine lv_aload_n X.1 X.2.1 dX4_invoice_61 rfl (lv_at hl 0 rfl) ?_
        refine lv_iconst (v := 3) X.1 X.2.1 dX4_invoice_62 (by decide) ?_
        refine pn_J X cn w (cl_lt (in_erI h2)) 8 (by decide) rfl (ty := .int) (by decide +kernel) (v := 3) rfl rfl kw_481 dX4_invoice_63 (fun H locs w => ?_)
        obtain ⟨F7, eF7⟩ : ∃ G : Fm, G = up2 F6 (17 + i.toNatClampNeg) 8 3 := ⟨_, rfl⟩
        rw [← eF7] at w
        refine lv_aload_n X.1 X.2.1 dX4_invoice_66 rfl (lv_at hl 1 rfl) ?_
        refine lv_dup X.1 X.2.1 dX4_invoice_67 rfl ?_
        refine g_L X w 4 (by decide) (v := .int (F7 0 4)) rfl kw_149 dX4_invoice_68 ?_
        refine lv_aload_n X.1 X.2.1 dX4_invoice_71 rfl (lv_at hl 0 rfl) ?_
        refine gn_J X cn w (cl_lt (in_erI h2)) 13 (by decide) (v := .int (F7 (17 + i.toNatClampNeg) 13)) rfl kw_489 dX4_invoice_72 ?_
        refine lv_iadd X.1 X.2.1 dX4_invoice_75 ?_
        refine p_L X w 4 (by decide) rfl (by decide +kernel) (v := ((F7 0 4) + (F7 (17 + i.toNatClampNeg) 13))) kw_149 dX4_invoice_76 (fun H locs w => ?_)
        obtain ⟨F8, eF8⟩ : ∃ G : Fm, G = up2 F7 0 4 ((F7 0 4) + (F7 (17 + i.toNatClampNeg) 13)) := ⟨_, rfl⟩
        rw [← eF8] at w
        refine lv_aload_n X.1 X.2.1 dX4_invoice_79 rfl (lv_at hl 0 rfl) ?_
        refine gn_J X cn w (cl_lt (in_erI h2)) 13 (by decide) (v := .int (F8 (17 + i.toNatClampNeg) 13)) rfl kw_489 dX4_invoice_80 ?_
        exact vx_ret (w_iret X hr hlk w (by subst eF8; subst eF7; subst eF6; exact ⟨by simp [er_invoice, h2, c3, c4], rfl, rfl⟩) dX4_invoice_83 rfl (Nat.zero_le _) (Nat.zero_le _))
      ·
        exact x_throw3 (k := 236) (tx := "there are too few pieces") hlt X rfl hlk hnt cn w hl.1 (by decide +kernel) (by  simp [er_invoice, h2, c3, c4]) rfl hm dX4_invoice_43 dX4_invoice_46 dX4_invoice_47 dX4_invoice_49 dX4_invoice_52 (Nat.le_of_ble_eq_true rfl) (Nat.le_of_ble_eq_true rfl) rfl rfl rfl rfl
    ·
      exact x_throw3 (k := 232) (tx := "the job is not printed") hlt X rfl hlk hnt cn w hl.1 (by decide +kernel) (by  simp [er_invoice, h2, c3]) rfl hm dX4_invoice_14 dX4_invoice_17 dX4_invoice_18 dX4_invoice_20 dX4_invoice_23 (Nat.le_of_ble_eq_true rfl) (Nat.le_of_ble_eq_true rfl) rfl rfl rfl rfl
  ·
    have hE : er_invoice F n i ≠ 0 ∧ exN ((erI n i)) = exN (er_invoice F n i) := by  simp [er_invoice, h2, erI_1 h2]
    have hm' := hm hE.1
    exact x_gone X hlk hnt cn w (xw_runV (n := 1) (As := [.int i]) X cn w (lt17 (by decide)) wC_0 rfl (fun sz => c_X4_jobOf l D ca ad E F L S n hlt wf.2.1.2 wf.1 i 1 6 (fun _ => ⟨Nat.le_refl 1, Nat.le_refl 6⟩) sz) (bg_V kw_384 kw_386 kw_18 kw_31 kw_387) rfl rfl (by decide +kernel) ⟨(Nat.le_of_ble_eq_true rfl), (Nat.le_of_ble_eq_true rfl)⟩ rfl hl.1 rfl (Nat.le_of_ble_eq_true rfl) dX4_invoice_2 ⟨hm'.1, hm'.2⟩) (fun st v t hq => by obtain ⟨⟨r, u, -, hp, -⟩, -⟩ := hq; exact h2 hp.1) hE.2 hE.1 (fun u hu => hu) hm rfl rfl

set_option maxHeartbeats 4000000 in
set_option maxRecDepth 100000 in
theorem c_X4_sort (l : Launch) (D : va_G) (ca : Nat → ClassId) (ad : Nat → Nat) (E : Em) (F : Fm) (L : Lm) (S : Sm) (n : Nat) (hlt : l.stackTraces = false) (q : Nat → Nat) (wf : Wf F L S n q) (r : Int32) (mc ms : Nat) (hm : erI 3 r ≠ 0 → 1 ≤ mc ∧ 6 ≤ ms) (sz : Nat) : vx_Met l yX4_sort (.code yX4_sort cX4_sort 4 (some .int) :: BG) { frames := 7, cells := mc, slots := ms, locals := 117 } (Pw D ca ad (E, F, L, S, n) sz [.ref (ad 0), .int r]) (Qi D ca ad n (fun v u => erI 3 r = 0 ∧ v = s_minQ F L q (6 + r.toNatClampNeg) - s_minQ F (s_sortL F L q (6 + r.toNatClampNeg)) q (6 + r.toNatClampNeg) ∧ u.2 = (F, s_sortL F L q (6 + r.toNatClampNeg), S, n)) sz) (Xq D ca ad n (erI 3 r) (fun u => u.2 = (F, L, S, n)) sz) mc ms (wA ad n sz) := by
  refine open_X (σ := (E, F, L, S, n)) (Qc := Qi D ca ad n (fun v u => erI 3 r = 0 ∧ v = s_minQ F L q (6 + r.toNatClampNeg) - s_minQ F (s_sortL F L q (6 + r.toNatClampNeg)) q (6 + r.toNatClampNeg) ∧ u.2 = (F, s_sortL F L q (6 + r.toNatClampNeg), S, n))) (XC := Xq D ca ad n (erI 3 r) (fun u => u.2 = (F, L, S, n))) (by decide +kernel) (Nat.le_of_ble_eq_true rfl) ?_
  intro p e s m args below meth c X hr hlk hnt w cn ls hl
  have hl : lv_has ls 4 [(0, .ref (ad 0)), (1, .int r)] := hl
  have hs := wf.2.2.1
  have hJ := wf.2.1.2
  refine lv_aload_n X.1 X.2.1 dX4_sort_0 rfl (lv_at hl 0 rfl) ?_
  refine lv_iload_n X.1 X.2.1 dX4_sort_1 rfl (lv_at hl 1 rfl) ?_
  by_cases h2 : (erI 3 r) = 0
  ·
    refine w_callr cn w (w_runV (n := 1) (As := [.int r]) X cn w (lt17 (by decide)) wC_0 rfl (fun sz => met_of (c_X4_pressOf l D ca ad E F L S n hlt r 0 0 (fun h => (h h2).elim) sz) h2) (bg_V kw_361 kw_363 kw_15 kw_31 kw_364) rfl rfl (by decide +kernel) ⟨(Nat.le_of_ble_eq_true rfl), (Nat.le_of_ble_eq_true rfl)⟩ rfl hl.1 rfl (Nat.le_of_ble_eq_true rfl) dX4_sort_2 ⟨(Nat.zero_le _), (Nat.zero_le _)⟩) (fun r1 u H locs hp w => ?_)
    obtain ⟨-, rfl, rfl⟩ := hp
    refine W.eq (g2 := F0 m 5 ls [.ref (ad (6 + r.toNatClampNeg))]) rfl ?_
    refine lv_astore_n (lv' := [(2, .ref (ad (6 + r.toNatClampNeg))), (0, .ref (ad 0)), (1, .int r)]) X.1 X.2.1 dX4_sort_5 rfl hl (by decide) rfl (fun ls hl => ?_)
    refine lv_aload_n X.1 X.2.1 dX4_sort_6 rfl (lv_at hl 1 rfl) ?_
    refine lv_aload_n X.1 X.2.1 dX4_sort_7 rfl (lv_at hl 0 rfl) ?_
    refine w_calli cn w (w_runV (n := 1) (As := [.ref (ad (6 + r.toNatClampNeg))]) X cn w (lt17 (by decide)) wC_0 rfl (fun sz => c_X4_minutesOfQueue l D ca ad E F L S n q wf (6 + r.toNatClampNeg) (prs_in (in_erI h2)) sz) (bg_V kw_366 kw_368 kw_16 kw_31 kw_369) rfl rfl (by decide +kernel) ⟨(Nat.le_of_ble_eq_true rfl), (Nat.le_of_ble_eq_true rfl)⟩ rfl hl.1 rfl (Nat.le_of_ble_eq_true rfl) dX4_sort_8 ⟨(Nat.zero_le _), (Nat.zero_le _)⟩) (fun r3 u H locs hp w => ?_)
    obtain ⟨E4, q5⟩ := u
    obtain ⟨rfl, h6⟩ := hp
    have h6 : q5 = (F, L, S, n) := h6
    subst h6
    refine lv_topi (fun x7 ex7 => ?_)
    refine lv_istore_n (lv' := [(3, .int x7), (2, .ref (ad (6 + r.toNatClampNeg))), (0, .ref (ad 0)), (1, .int r)]) X.1 X.2.1 dX4_sort_11 rfl hl (by decide) rfl (fun ls hl => ?_)
    refine lv_aload_n X.1 X.2.1 dX4_sort_12 rfl (lv_at hl 1 rfl) ?_
    refine w_callv cn w (w_runVN (n := 0) (As := []) X cn w (lt17 (by have := (prs_in (in_erI h2)); omega)) (wC_R ((prs_in (in_erI h2))).1 ((prs_in (in_erI h2))).2) rfl (fun sz => c_X3_bringLeastChangeAhead l D ca ad E4 F L S n (6 + r.toNatClampNeg) (prs_in (in_erI h2)) (q (6 + r.toNatClampNeg)) (wf.2.2.2 _ (prs_in (in_erI h2))).1 (wf.2.2.2 _ (prs_in (in_erI h2))).2.1 (wf.2.2.2 _ (prs_in (in_erI h2))).2.2 sz) kw_577 kw_579 kw_25 kw_33 kw_580 rfl rfl (by decide +kernel) ⟨(Nat.le_of_ble_eq_true rfl), (Nat.le_of_ble_eq_true rfl)⟩ rfl hl.1 rfl (Nat.le_of_ble_eq_true rfl) dX4_sort_13 ⟨(Nat.zero_le _), (Nat.zero_le _)⟩) (fun u H locs hp w => ?_)
    subst hp
    refine lv_iload_n X.1 X.2.1 dX4_sort_16 rfl (lv_at hl 0 rfl) ?_
    have wf := wf.line (f := s_brg F (q (6 + r.toNatClampNeg)) (q (6 + r.toNatClampNeg)) 0 (L (6 + r.toNatClampNeg)) (F (6 + r.toNatClampNeg) 1)) (prs_in (in_erI h2)) (s_brg_lt (q (6 + r.toNatClampNeg)) 0 _ (F (6 + r.toNatClampNeg) 1) (wf.2.2.2 _ (prs_in (in_erI h2))).2.2)
    refine lv_aload_n X.1 X.2.1 dX4_sort_17 rfl (lv_at hl 2 rfl) ?_
    refine lv_aload_n X.1 X.2.1 dX4_sort_18 rfl (lv_at hl 1 rfl) ?_
    refine w_calli cn w (w_runV (n := 1) (As := [.ref (ad (6 + r.toNatClampNeg))]) X cn w (lt17 (by decide)) wC_0 rfl (fun sz => c_X4_minutesOfQueue l D ca ad E4 F (upLf L (6 + r.toNatClampNeg) (s_brg F (q (6 + r.toNatClampNeg)) (q (6 + r.toNatClampNeg)) 0 (L (6 + r.toNatClampNeg)) (F (6 + r.toNatClampNeg) 1))) S n q wf (6 + r.toNatClampNeg) (prs_in (in_erI h2)) sz) (bg_V kw_366 kw_368 kw_16 kw_31 kw_369) rfl rfl (by decide +kernel) ⟨(Nat.le_of_ble_eq_true rfl), (Nat.le_of_ble_eq_true rfl)⟩ rfl hl.1 rfl (Nat.le_of_ble_eq_true rfl) dX4_sort_19 ⟨(Nat.zero_le _), (Nat.zero_le _)⟩) (fun r8 u H locs hp w => ?_)
    obtain ⟨E9, q10⟩ := u
    obtain ⟨rfl, h11⟩ := hp
    have h11 : q10 = (F, (upLf L (6 + r.toNatClampNeg) (s_brg F (q (6 + r.toNatClampNeg)) (q (6 + r.toNatClampNeg)) 0 (L (6 + r.toNatClampNeg)) (F (6 + r.toNatClampNeg) 1))), S, n) := h11
    subst h11
    refine lv_isub X.1 X.2.1 dX4_sort_22 ?_
    exact vx_ret (w_iret X hr hlk w (by subst ex7; exact ⟨h2, rfl, rfl⟩) dX4_sort_23 rfl (Nat.zero_le _) (Nat.zero_le _))
  ·
    have hE : erI 3 r ≠ 0 ∧ exN ((erI 3 r)) = exN (erI 3 r) := by  simp [ne_eq, h2, erI_1 h2]
    have hm' := hm hE.1
    exact x_gone X hlk hnt cn w (xw_runV (n := 1) (As := [.int r]) X cn w (lt17 (by decide)) wC_0 rfl (fun sz => c_X4_pressOf l D ca ad E F L S n hlt r 1 6 (fun _ => ⟨Nat.le_refl 1, Nat.le_refl 6⟩) sz) (bg_V kw_361 kw_363 kw_15 kw_31 kw_364) rfl rfl (by decide +kernel) ⟨(Nat.le_of_ble_eq_true rfl), (Nat.le_of_ble_eq_true rfl)⟩ rfl hl.1 rfl (Nat.le_of_ble_eq_true rfl) dX4_sort_2 ⟨hm'.1, hm'.2⟩) (fun st v t hq => by obtain ⟨⟨r, u, -, hp, -⟩, -⟩ := hq; exact h2 hp.1) hE.2 hE.1 (fun u hu => hu) hm rfl rfl

set_option maxHeartbeats 4000000 in
set_option maxRecDepth 100000 in
theorem c_X4_jobOfSlip (l : Launch) (D : va_G) (ca : Nat → ClassId) (ad : Nat → Nat) (E : Em) (F : Fm) (L : Lm) (S : Sm) (n : Nat) (hlt : l.stackTraces = false) (q : Nat → Nat) (wf : Wf F L S n q) (o : Nat) (ho : 6 ≤ o ∧ o < 10) (mi sp : Int32) (mc ms : Nat) (hm : er_jos F L S o mi sp ≠ 0 → 1 ≤ mc ∧ 6 ≤ ms) (sz : Nat) : vx_Met l yX4_jobOfSlip (.code yX4_jobOfSlip cX4_jobOfSlip 4 (some (.object "PrintLedger$Job")) :: BG) { frames := 6, cells := mc, slots := ms, locals := 95 } (Pw D ca ad (E, F, L, S, n) sz [.ref (ad o), .int mi, .int sp]) (Qr D ca ad n (fun v u => er_jos F L S o mi sp = 0 ∧ v = (s_jobAt F L o 0).map (fun j => ad (17 + j)) ∧ u = (E, F, L, S, n)) sz) (Xq D ca ad n (er_jos F L S o mi sp) (fun u => u.2 = (F, L, S, n)) sz) mc ms (wA ad n sz) := by
  refine open_X (σ := (E, F, L, S, n)) (Qc := Qr D ca ad n (fun v u => er_jos F L S o mi sp = 0 ∧ v = (s_jobAt F L o 0).map (fun j => ad (17 + j)) ∧ u = (E, F, L, S, n))) (XC := Xq D ca ad n (er_jos F L S o mi sp) (fun u => u.2 = (F, L, S, n))) (by decide +kernel) (Nat.le_of_ble_eq_true rfl) ?_
  intro p e s m args below meth c X hr hlk hnt w cn ls hl
  have hl : lv_has ls 4 [(0, .ref (ad o)), (1, .int mi), (2, .int sp)] := hl
  have hs := wf.2.2.1
  have hJ := wf.2.1.2
  refine lv_iload_n X.1 X.2.1 dX4_jobOfSlip_0 rfl (lv_at hl 1 rfl) ?_
  refine lv_iconst (v := 1) X.1 X.2.1 dX4_jobOfSlip_1 (by decide) ?_
  refine lv_sipush (v := 9999) X.1 X.2.1 dX4_jobOfSlip_2 (by decide) ?_
  refine n_calli w (n_runS (n := 3) (As := [.int mi, .int 1, .int 9999]) X (c_X4_isOutside l mi 1 9999) (bg_S kw_429 kw_430 kw_31 kw_431) rfl rfl (by decide +kernel) ⟨(Nat.le_of_ble_eq_true rfl), (Nat.le_of_ble_eq_true rfl)⟩ rfl hl.1 rfl (Nat.le_of_ble_eq_true rfl) dX4_jobOfSlip_5 ⟨(Nat.zero_le _), (Nat.zero_le _)⟩) (fun H locs w => ?_)
  refine lv_if_eq (tgt := 22) X.1 X.2.1 dX4_jobOfSlip_8 (by decide) (fun c1 => ?_) (fun c1 => ?_)
  ·
    refine lv_iload_n X.1 X.2.1 dX4_jobOfSlip_22 rfl (lv_at hl 2 rfl) ?_
    refine lv_iconst (v := 0) X.1 X.2.1 dX4_jobOfSlip_23 (by decide) ?_
    refine lv_sipush (v := 9999) X.1 X.2.1 dX4_jobOfSlip_24 (by decide) ?_
    refine n_calli w (n_runS (n := 3) (As := [.int sp, .int 0, .int 9999]) X (c_X4_isOutside l sp 0 9999) (bg_S kw_429 kw_430 kw_31 kw_431) rfl rfl (by decide +kernel) ⟨(Nat.le_of_ble_eq_true rfl), (Nat.le_of_ble_eq_true rfl)⟩ rfl hl.1 rfl (Nat.le_of_ble_eq_true rfl) dX4_jobOfSlip_27 ⟨(Nat.zero_le _), (Nat.zero_le _)⟩) (fun H locs w => ?_)
    refine lv_if_eq (tgt := 44) X.1 X.2.1 dX4_jobOfSlip_30 (by decide) (fun c2 => ?_) (fun c2 => ?_)
    ·
      refine lv_aload_n X.1 X.2.1 dX4_jobOfSlip_44 rfl (lv_at hl 0 rfl) ?_
      refine lv_iconst (v := 0) X.1 X.2.1 dX4_jobOfSlip_45 (by decide) ?_
      refine w_callr cn w (w_runVN (n := 1) (As := [.int 0]) X cn w (lt17 (by have := ho; omega)) (wC_R (ho).1 (ho).2) rfl (fun sz => c_X3_jobAt l D ca ad E F L S n o ho 0 sz) kw_306 kw_308 kw_8 kw_33 kw_309 rfl rfl (by decide +kernel) ⟨(Nat.le_of_ble_eq_true rfl), (Nat.le_of_ble_eq_true rfl)⟩ rfl hl.1 rfl (Nat.le_of_ble_eq_true rfl) dX4_jobOfSlip_46 ⟨(Nat.zero_le _), (Nat.zero_le _)⟩) (fun r3 u H locs hp w => ?_)
      obtain ⟨rfl, rfl⟩ := hp
      obtain hj4n | ⟨j4, hj4s⟩ : (s_jobAt F L o 0) = none ∨ ∃ j, (s_jobAt F L o 0) = some j := opt_or _
      ·
        refine W.eq (g2 := F0 m 49 ls [.null]) (by simp only [hj4n]; rfl) ?_
        refine lv_astore_nN (lv' := [(3, .null), (0, .ref (ad o)), (1, .int mi), (2, .int sp)]) X.1 X.2.1 dX4_jobOfSlip_49 rfl hl (by decide) rfl (fun ls hl => ?_)
        refine lv_aload_nN X.1 X.2.1 dX4_jobOfSlip_50 rfl (lv_at hl 0 rfl) ?_
        refine lv_ifnonnullN X.1 X.2.1 dX4_jobOfSlip_51 ?_
        exact x_throw3W (k := 321) (tx := "the queue is empty") hlt X rfl hlk hnt cn w hl.1 (by decide +kernel) (by  simp [er_jos, c1, c2, hj4n]) rfl hm dX4_jobOfSlip_54 dX4_jobOfSlip_57 dX4_jobOfSlip_58 dX4_jobOfSlip_61 dX4_jobOfSlip_64 (Nat.le_of_ble_eq_true rfl) (Nat.le_of_ble_eq_true rfl) rfl rfl rfl rfl
      ·
        refine W.eq (g2 := F0 m 49 ls [.ref (ad (17 + j4))]) (by simp only [hj4s]; rfl) ?_
        refine lv_astore_n (lv' := [(3, .ref (ad (17 + j4))), (0, .ref (ad o)), (1, .int mi), (2, .int sp)]) X.1 X.2.1 dX4_jobOfSlip_49 rfl hl (by decide) rfl (fun ls hl => ?_)
        refine lv_aload_n X.1 X.2.1 dX4_jobOfSlip_50 rfl (lv_at hl 0 rfl) ?_
        refine lv_ifnonnull (tgt := 65) X.1 X.2.1 dX4_jobOfSlip_51 (by decide) ?_
        refine lv_aload_n X.1 X.2.1 dX4_jobOfSlip_65 rfl (lv_at hl 0 rfl) ?_
        refine gn_J X cn w ((wf.2.2.2 _ ho).2.2 _ _ (jobAt_of hj4s)) 2 (by decide) (v := .ref (ad (2 + S j4))) rfl kw_468 dX4_jobOfSlip_66 ?_
        refine gn_P X cn w (pap_ok (hs _ ((wf.2.2.2 _ ho).2.2 _ _ (jobAt_of hj4s)))) 3 (by decide) (v := .int (F (2 + S j4) 3)) rfl kw_68 dX4_jobOfSlip_69 ?_
        refine lv_iload_n X.1 X.2.1 dX4_jobOfSlip_72 rfl (lv_at hl 3 rfl) ?_
        refine lv_icmp_gt (tgt := 87) X.1 X.2.1 dX4_jobOfSlip_73 (by decide) (fun c5 => ?_) (fun c5 => ?_)
        ·
          refine lv_aload_n X.1 X.2.1 dX4_jobOfSlip_87 rfl (lv_at hl 0 rfl) ?_
          exact vx_ret (w_aret (r := (some (ad (17 + j4)))) X hr hlk w (by  exact ⟨by simp [er_jos, c1, c2, hj4s, c5], by simp [hj4s], rfl⟩) dX4_jobOfSlip_88 (Nat.zero_le _) (Nat.zero_le _))
        ·
          exact x_throw3W (k := 323) (tx := "the stock is not more than what is spoiled") hlt X rfl hlk hnt cn w hl.1 (by decide +kernel) (by  simp [er_jos, c1, c2, hj4s, c5]) rfl hm dX4_jobOfSlip_76 dX4_jobOfSlip_79 dX4_jobOfSlip_80 dX4_jobOfSlip_83 dX4_jobOfSlip_86 (Nat.le_of_ble_eq_true rfl) (Nat.le_of_ble_eq_true rfl) rfl rfl rfl rfl
    ·
      exact x_throw2W (k := 319) (tx := "spoiled are 0 to 9999") hlt X rfl hlk hnt cn w hl.1 (by decide +kernel) (by  simp [er_jos, c1, c2]) rfl hm dX4_jobOfSlip_33 dX4_jobOfSlip_36 dX4_jobOfSlip_37 dX4_jobOfSlip_40 dX4_jobOfSlip_43 (Nat.le_of_ble_eq_true rfl) (Nat.le_of_ble_eq_true rfl) rfl rfl rfl rfl
  ·
    exact x_throw2W (k := 317) (tx := "minutes are 1 to 9999") hlt X rfl hlk hnt cn w hl.1 (by decide +kernel) (by  simp [er_jos, c1]) rfl hm dX4_jobOfSlip_11 dX4_jobOfSlip_14 dX4_jobOfSlip_15 dX4_jobOfSlip_18 dX4_jobOfSlip_21 (Nat.le_of_ble_eq_true rfl) (Nat.le_of_ble_eq_true rfl) rfl rfl rfl rfl

set_option maxHeartbeats 4000000 in
set_option maxRecDepth 100000 in
theorem c_X4_slip (l : Launch) (D : va_G) (ca : Nat → ClassId) (ad : Nat → Nat) (E : Em) (F : Fm) (L : Lm) (S : Sm) (n : Nat) (hlt : l.stackTraces = false) (q : Nat → Nat) (wf : Wf F L S n q) (r mi sp : Int32) (mc ms : Nat) (hm : er_slip F L S r mi sp ≠ 0 → 1 ≤ mc ∧ 6 ≤ ms) (sz : Nat) : vx_Met l yX4_slip (.code yX4_slip cX4_slip 8 (some .int) :: BG) { frames := 7, cells := mc, slots := ms, locals := 118 } (Pw D ca ad (E, F, L, S, n) sz [.ref (ad 0), .int r, .int mi, .int sp]) (Qi D ca ad n (fun v u => er_slip F L S r mi sp = 0 ∧ v = s_taken F S (s_first F L (6 + r.toNatClampNeg)) sp - sp ∧ u.2 = (s_slipF F S q (6 + r.toNatClampNeg) (s_first F L (6 + r.toNatClampNeg)) mi sp (s_taken F S (s_first F L (6 + r.toNatClampNeg)) sp) (s_spent F (s_first F L (6 + r.toNatClampNeg)) mi), s_slipL L q (6 + r.toNatClampNeg), S, n)) sz) (Xq D ca ad n (er_slip F L S r mi sp) (fun u => u.2 = (F, L, S, n)) sz) mc ms (wA ad n sz) := by
  refine open_X (σ := (E, F, L, S, n)) (Qc := Qi D ca ad n (fun v u => er_slip F L S r mi sp = 0 ∧ v = s_taken F S (s_first F L (6 + r.toNatClampNeg)) sp - sp ∧ u.2 = (s_slipF F S q (6 + r.toNatClampNeg) (s_first F L (6 + r.toNatClampNeg)) mi sp (s_taken F S (s_first F L (6 + r.toNatClampNeg)) sp) (s_spent F (s_first F L (6 + r.toNatClampNeg)) mi), s_slipL L q (6 + r.toNatClampNeg), S, n))) (XC := Xq D ca ad n (er_slip F L S r mi sp) (fun u => u.2 = (F, L, S, n))) (by decide +kernel) (Nat.le_of_ble_eq_true rfl) ?_
  intro p e s m args below meth c X hr hlk hnt w cn ls hl
  have hl : lv_has ls 8 [(0, .ref (ad 0)), (1, .int r), (2, .int mi), (3, .int sp)] := hl
  have hs := wf.2.2.1
  have hJ := wf.2.1.2
  refine lv_aload_n X.1 X.2.1 dX4_slip_0 rfl (lv_at hl 0 rfl) ?_
  refine lv_iload_n X.1 X.2.1 dX4_slip_1 rfl (lv_at hl 1 rfl) ?_
  by_cases h2 : (erI 3 r) = 0
  ·
    refine w_callr cn w (w_runV (n := 1) (As := [.int r]) X cn w (lt17 (by decide)) wC_0 rfl (fun sz => met_of (c_X4_pressOf l D ca ad E F L S n hlt r 0 0 (fun h => (h h2).elim) sz) h2) (bg_V kw_361 kw_363 kw_15 kw_31 kw_364) rfl rfl (by decide +kernel) ⟨(Nat.le_of_ble_eq_true rfl), (Nat.le_of_ble_eq_true rfl)⟩ rfl hl.1 rfl (Nat.le_of_ble_eq_true rfl) dX4_slip_2 ⟨(Nat.zero_le _), (Nat.zero_le _)⟩) (fun r1 u H locs hp w => ?_)
    obtain ⟨-, rfl, rfl⟩ := hp
    refine W.eq (g2 := F0 m 5 ls [.ref (ad (6 + r.toNatClampNeg))]) rfl ?_
    refine lv_astore (lv' := [(4, .ref (ad (6 + r.toNatClampNeg))), (0, .ref (ad 0)), (1, .int r), (2, .int mi), (3, .int sp)]) X.1 X.2.1 dX4_slip_5 hl (by decide) rfl (fun ls hl => ?_)
    refine lv_aload X.1 X.2.1 dX4_slip_7 (lv_at hl 0 rfl) ?_
    refine lv_iload_n X.1 X.2.1 dX4_slip_9 rfl (lv_at hl 3 rfl) ?_
    refine lv_iload_n X.1 X.2.1 dX4_slip_10 rfl (lv_at hl 4 rfl) ?_
    by_cases h4 : (er_jos F L S (6 + r.toNatClampNeg) mi sp) = 0
    ·
      refine w_callr cn w (w_runS (n := 3) (As := [.ref (ad (6 + r.toNatClampNeg)), .int mi, .int sp]) X cn w (fun sz => met_of (c_X4_jobOfSlip l D ca ad E F L S n hlt q wf (6 + r.toNatClampNeg) (prs_in (in_erI h2)) mi sp 0 0 (fun h => (h h4).elim) sz) h4) (bg_S kw_605 kw_606 kw_31 kw_607) rfl rfl (by decide +kernel) ⟨(Nat.le_of_ble_eq_true rfl), (Nat.le_of_ble_eq_true rfl)⟩ rfl hl.1 rfl (Nat.le_of_ble_eq_true rfl) dX4_slip_11 ⟨(Nat.zero_le _), (Nat.zero_le _)⟩) (fun r3 u H locs hp w => ?_)
      obtain ⟨-, rfl, rfl⟩ := hp
      obtain ⟨j, hj0⟩ := er_jos_some h4
      have hj : j < n := (wf.2.2.2 _ (prs_in (in_erI h2))).2.2 _ _ (jobAt_of hj0)
      have hjf : s_first F L (6 + r.toNatClampNeg) = j := by simp [s_first, hj0]
      refine W.eq (g2 := F0 m 14 ls [.ref (ad (17 + j))]) (by simp only [hj0]; rfl) ?_
      refine lv_astore (lv' := [(5, .ref (ad (17 + j))), (4, .ref (ad (6 + r.toNatClampNeg))), (0, .ref (ad 0)), (1, .int r), (2, .int mi), (3, .int sp)]) X.1 X.2.1 dX4_slip_14 hl (by decide) rfl (fun ls hl => ?_)
      refine lv_aload X.1 X.2.1 dX4_slip_16 (lv_at hl 0 rfl) ?_
      refine lv_iload_n X.1 X.2.1 dX4_slip_18 rfl (lv_at hl 5 rfl) ?_
      refine w_calli cn w (w_runVN (n := 1) (As := [.int sp]) X cn w (Nat.add_lt_add_left hj 17) wC_J rfl (fun sz => c_X1_takenWith l D ca ad E F L S n j hj hs sp sz) kw_612 kw_614 kw_28 kw_42 kw_615 rfl rfl (by decide +kernel) ⟨(Nat.le_of_ble_eq_true rfl), (Nat.le_of_ble_eq_true rfl)⟩ rfl hl.1 rfl (Nat.le_of_ble_eq_true rfl) dX4_slip_19 ⟨(Nat.zero_le _), (Nat.zero_le _)⟩) (fun r5 u H locs hp w => ?_)
      obtain ⟨rfl, rfl⟩ := hp
      refine lv_topi (fun x6 ex6 => ?_)
      refine lv_istore (lv' := [(6, .int x6), (5, .ref (ad (17 + j))), (4, .ref (ad (6 + r.toNatClampNeg))), (0, .ref (ad 0)), (1, .int r), (2, .int mi), (3, .int sp)]) X.1 X.2.1 dX4_slip_22 hl (by decide) rfl (fun ls hl => ?_)
      refine lv_iload_n X.1 X.2.1 dX4_slip_24 rfl (lv_at hl 5 rfl) ?_
      refine lv_aload_n X.1 X.2.1 dX4_slip_25 rfl (lv_at hl 3 rfl) ?_
      refine g_L X w 5 (by decide) (v := .int (F 0 5)) rfl kw_150 dX4_slip_26 ?_
      refine lv_imul X.1 X.2.1 dX4_slip_29 ?_
      refine lv_aload X.1 X.2.1 dX4_slip_30 (lv_at hl 1 rfl) ?_
      refine gn_J X cn w hj 14 (by decide) (v := .int (F (17 + j) 14)) rfl kw_490 dX4_slip_32 ?_
      refine lv_if_eq (tgt := 42) X.1 X.2.1 dX4_slip_35 (by decide) (fun c7 => ?_) (fun c7 => ?_)
      ·
        refine lv_aload X.1 X.2.1 dX4_slip_42 (lv_at hl 1 rfl) ?_
        refine w_calli cn w (w_runVN (n := 0) (As := []) X cn w (Nat.add_lt_add_left hj 17) wC_J rfl (fun sz => c_X1_moneyOfInks l D ca ad E F L S n j hj sz) kw_341 kw_343 kw_12 kw_42 kw_344 rfl rfl (by decide +kernel) ⟨(Nat.le_of_ble_eq_true rfl), (Nat.le_of_ble_eq_true rfl)⟩ rfl hl.1 rfl (Nat.le_of_ble_eq_true rfl) dX4_slip_44 ⟨(Nat.zero_le _), (Nat.zero_le _)⟩) (fun r8 u H locs hp w => ?_)
        obtain ⟨rfl, rfl⟩ := hp
        refine lv_iadd X.1 X.2.1 dX4_slip_47 ?_
        refine lv_topi (fun x9 ex9 => ?_)
        refine lv_istore (lv' := [(7, .int x9), (6, .int x6), (5, .ref (ad (17 + j))), (4, .ref (ad (6 + r.toNatClampNeg))), (0, .ref (ad 0)), (1, .int r), (2, .int mi), (3, .int sp)]) X.1 X.2.1 dX4_slip_48 hl (by decide) rfl (fun ls hl => ?_)
        have hsp : x9 = s_spent F j mi := by rw [ex9]; simp [s_spent, c7]
        refine lv_aload X.1 X.2.1 dX4_slip_50 (lv_at hl 2 rfl) ?_
        refine gn_J X cn w hj 2 (by decide) (v := .ref (ad (2 + S j))) rfl kw_468 dX4_slip_52 ?_
        refine lv_dup X.1 X.2.1 dX4_slip_55 rfl ?_
        refine gn_P X cn w (pap_ok (hs _ hj)) 3 (by decide) (v := .int (F (2 + S j) 3)) rfl kw_68 dX4_slip_56 ?_
        refine lv_iload X.1 X.2.1 dX4_slip_59 (lv_at hl 1 rfl) ?_
        refine lv_isub X.1 X.2.1 dX4_slip_61 ?_
        refine pn_P X cn w (pap_ok (hs _ hj)) 3 (by decide) rfl (by decide +kernel) (v := ((F (2 + S j) 3) - x6)) kw_68 dX4_slip_62 (fun H locs w => ?_)
        obtain ⟨F10, eF10⟩ : ∃ G : Fm, G = up2 F (2 + S j) 3 ((F (2 + S j) 3) - x6) := ⟨_, rfl⟩
        rw [← eF10] at w
        refine lv_aload X.1 X.2.1 dX4_slip_65 (lv_at hl 2 rfl) ?_
        refine lv_dup X.1 X.2.1 dX4_slip_67 rfl ?_
        refine gn_J X cn w hj 10 (by decide) (v := .int (F10 (17 + j) 10)) rfl kw_485 dX4_slip_68 ?_
        refine lv_iload X.1 X.2.1 dX4_slip_71 (lv_at hl 1 rfl) ?_
        refine lv_iload_n X.1 X.2.1 dX4_slip_73 rfl (lv_at hl 7 rfl) ?_
        refine lv_isub X.1 X.2.1 dX4_slip_74 ?_
        refine lv_aload X.1 X.2.1 dX4_slip_75 (lv_at hl 2 rfl) ?_
        refine gn_J X cn w hj 5 (by decide) (v := .int (F10 (17 + j) 5)) rfl kw_475 dX4_slip_77 ?_
        refine lv_imul X.1 X.2.1 dX4_slip_80 ?_
        refine lv_iadd X.1 X.2.1 dX4_slip_81 ?_
        refine pn_J X cn w hj 10 (by decide) rfl (ty := .int) (by decide +kernel) (v := ((F10 (17 + j) 10) + ((x6 - sp) * (F10 (17 + j) 5)))) rfl rfl kw_485 dX4_slip_82 (fun H locs w => ?_)
        obtain ⟨F11, eF11⟩ : ∃ G : Fm, G = up2 F10 (17 + j) 10 ((F10 (17 + j) 10) + ((x6 - sp) * (F10 (17 + j) 5))) := ⟨_, rfl⟩
        rw [← eF11] at w
        refine lv_aload X.1 X.2.1 dX4_slip_85 (lv_at hl 2 rfl) ?_
        refine lv_dup X.1 X.2.1 dX4_slip_87 rfl ?_
        refine gn_J X cn w hj 12 (by decide) (v := .int (F11 (17 + j) 12)) rfl kw_488 dX4_slip_88 ?_
        refine lv_iload X.1 X.2.1 dX4_slip_91 (lv_at hl 0 rfl) ?_
        refine lv_iload X.1 X.2.1 dX4_slip_93 (lv_at hl 1 rfl) ?_
        refine lv_aload X.1 X.2.1 dX4_slip_95 (lv_at hl 2 rfl) ?_
        refine gn_J X cn w hj 2 (by decide) (v := .ref (ad (2 + S j))) rfl kw_468 dX4_slip_97 ?_
        refine gn_P X cn w (pap_ok (hs _ hj)) 2 (by decide) (v := .int (F11 (2 + S j) 2)) rfl kw_66 dX4_slip_100 ?_
        refine lv_imul X.1 X.2.1 dX4_slip_103 ?_
        refine lv_iadd X.1 X.2.1 dX4_slip_104 ?_
        refine lv_iadd X.1 X.2.1 dX4_slip_105 ?_
        refine pn_J X cn w hj 12 (by decide) rfl (ty := .int) (by decide +kernel) (v := ((F11 (17 + j) 12) + (x9 + (x6 * (F11 (2 + S j) 2))))) rfl rfl kw_488 dX4_slip_106 (fun H locs w => ?_)
        obtain ⟨F12, eF12⟩ : ∃ G : Fm, G = up2 F11 (17 + j) 12 ((F11 (17 + j) 12) + (x9 + (x6 * (F11 (2 + S j) 2)))) := ⟨_, rfl⟩
        rw [← eF12] at w
        refine lv_aload X.1 X.2.1 dX4_slip_109 (lv_at hl 2 rfl) ?_
        refine lv_iconst (v := 1) X.1 X.2.1 dX4_slip_111 (by decide) ?_
        refine pn_J X cn w hj 14 (by decide) rfl (ty := .boolean) (by decide +kernel) (v := 1) rfl rfl kw_490 dX4_slip_112 (fun H locs w => ?_)
        obtain ⟨F13, eF13⟩ : ∃ G : Fm, G = up2 F12 (17 + j) 14 1 := ⟨_, rfl⟩
        rw [← eF13] at w
        refine lv_aload X.1 X.2.1 dX4_slip_115 (lv_at hl 2 rfl) ?_
        refine lv_iconst (v := 2) X.1 X.2.1 dX4_slip_117 (by decide) ?_
        refine pn_J X cn w hj 8 (by decide) rfl (ty := .int) (by decide +kernel) (v := 2) rfl rfl kw_481 dX4_slip_118 (fun H locs w => ?_)
        obtain ⟨F14, eF14⟩ : ∃ G : Fm, G = up2 F13 (17 + j) 8 2 := ⟨_, rfl⟩
        rw [← eF14] at w
        refine lv_aload X.1 X.2.1 dX4_slip_121 (lv_at hl 3 rfl) ?_
        refine lv_iconst (v := 0) X.1 X.2.1 dX4_slip_123 (by decide) ?_
        have hop := (prs_in (in_erI h2))
        have hz : F14 (6 + r.toNatClampNeg) 6 = nI (q (6 + r.toNatClampNeg)) := by subst eF14; subst eF13; subst eF12; subst eF11; subst eF10; subst hsp; subst ex6; have hsj := hs _ hj; have n1 : (6 + r.toNatClampNeg) ≠ 17 + j := (by omega); have n2 : (6 + r.toNatClampNeg) ≠ 2 + S j := (by omega); simp only [up2_ne n1, up2_ne n2]; exact (wf.2.2.2 _ hop).1
        refine w_callv cn w (w_runVN (n := 1) (As := [.int 0]) X cn w (lt17 (by have := (prs_in (in_erI h2)); omega)) (wC_R ((prs_in (in_erI h2))).1 ((prs_in (in_erI h2))).2) rfl (fun sz => c_X3_remove l D ca ad E F14 L S n (6 + r.toNatClampNeg) hop (q (6 + r.toNatClampNeg)) 0 hz (wf.2.2.2 _ hop).2.1 (jobAt_pos hj0 (wf.2.2.2 _ hop).1) (wf.2.2.2 _ hop).2.2 sz) kw_617 kw_590 kw_27 kw_33 kw_591 rfl rfl (by decide +kernel) ⟨(Nat.le_of_ble_eq_true rfl), (Nat.le_of_ble_eq_true rfl)⟩ rfl hl.1 rfl (Nat.le_of_ble_eq_true rfl) dX4_slip_124 ⟨(Nat.zero_le _), (Nat.zero_le _)⟩) (fun u H locs hp w => ?_)
        subst hp
        refine lv_aload X.1 X.2.1 dX4_slip_127 (lv_at hl 3 rfl) ?_
        refine lv_aload X.1 X.2.1 dX4_slip_129 (lv_at hl 2 rfl) ?_
        refine lv_iload_n X.1 X.2.1 dX4_slip_131 rfl (lv_at hl 6 rfl) ?_
        refine lv_iload_n X.1 X.2.1 dX4_slip_132 rfl (lv_at hl 7 rfl) ?_
        refine lv_iload X.1 X.2.1 dX4_slip_133 (lv_at hl 1 rfl) ?_
        refine w_callv cn w (w_runVN (n := 4) (As := [.ref (ad (17 + j)), .int mi, .int sp, .int x6]) X cn w (lt17 (by have := (prs_in (in_erI h2)); omega)) (wC_R ((prs_in (in_erI h2))).1 ((prs_in (in_erI h2))).2) rfl (fun sz => c_X3_learn l D ca ad E (up2 F14 (6 + r.toNatClampNeg) 6 (nI (q (6 + r.toNatClampNeg) - 1))) (upLf L (6 + r.toNatClampNeg) (remF (L (6 + r.toNatClampNeg)) 0 (q (6 + r.toNatClampNeg)))) S n (6 + r.toNatClampNeg) (prs_in (in_erI h2)) j hj mi sp x6 sz) kw_618 kw_620 kw_29 kw_33 kw_621 rfl rfl (by decide +kernel) ⟨(Nat.le_of_ble_eq_true rfl), (Nat.le_of_ble_eq_true rfl)⟩ rfl hl.1 rfl (Nat.le_of_ble_eq_true rfl) dX4_slip_135 ⟨(Nat.zero_le _), (Nat.zero_le _)⟩) (fun u H locs hp w => ?_)
        subst hp
        refine lv_aload_n X.1 X.2.1 dX4_slip_138 rfl (lv_at hl 4 rfl) ?_
        refine lv_dup X.1 X.2.1 dX4_slip_139 rfl ?_
        refine g_L X w 4 (by decide) (v := .int ((s_learn (up2 F14 (6 + r.toNatClampNeg) 6 (nI (q (6 + r.toNatClampNeg) - 1))) (6 + r.toNatClampNeg) j mi sp x6) 0 4)) rfl kw_149 dX4_slip_140 ?_
        refine lv_iload X.1 X.2.1 dX4_slip_143 (lv_at hl 0 rfl) ?_
        refine lv_isub X.1 X.2.1 dX4_slip_145 ?_
        refine p_L X w 4 (by decide) rfl (by decide +kernel) (v := (((s_learn (up2 F14 (6 + r.toNatClampNeg) 6 (nI (q (6 + r.toNatClampNeg) - 1))) (6 + r.toNatClampNeg) j mi sp x6) 0 4) - x9)) kw_149 dX4_slip_146 (fun H locs w => ?_)
        obtain ⟨F15, eF15⟩ : ∃ G : Fm, G = up2 (s_learn (up2 F14 (6 + r.toNatClampNeg) 6 (nI (q (6 + r.toNatClampNeg) - 1))) (6 + r.toNatClampNeg) j mi sp x6) 0 4 (((s_learn (up2 F14 (6 + r.toNatClampNeg) 6 (nI (q (6 + r.toNatClampNeg) - 1))) (6 + r.toNatClampNeg) j mi sp x6) 0 4) - x9) := ⟨_, rfl⟩
        rw [← eF15] at w
        refine lv_aload_n X.1 X.2.1 dX4_slip_149 rfl (lv_at hl 4 rfl) ?_
        refine lv_dup X.1 X.2.1 dX4_slip_150 rfl ?_
        refine g_L X w 7 (by decide) (v := .int (F15 0 7)) rfl kw_152 dX4_slip_151 ?_
        refine lv_iload_n X.1 X.2.1 dX4_slip_154 rfl (lv_at hl 6 rfl) ?_
        refine lv_iadd X.1 X.2.1 dX4_slip_155 ?_
        refine p_L X w 7 (by decide) rfl (by decide +kernel) (v := ((F15 0 7) + mi)) kw_152 dX4_slip_156 (fun H locs w => ?_)
        obtain ⟨F16, eF16⟩ : ∃ G : Fm, G = up2 F15 0 7 ((F15 0 7) + mi) := ⟨_, rfl⟩
        rw [← eF16] at w
        refine lv_aload_n X.1 X.2.1 dX4_slip_159 rfl (lv_at hl 4 rfl) ?_
        refine lv_dup X.1 X.2.1 dX4_slip_160 rfl ?_
        refine g_L X w 8 (by decide) (v := .int (F16 0 8)) rfl kw_153 dX4_slip_161 ?_
        refine lv_iload_n X.1 X.2.1 dX4_slip_164 rfl (lv_at hl 7 rfl) ?_
        refine lv_iadd X.1 X.2.1 dX4_slip_165 ?_
        refine p_L X w 8 (by decide) rfl (by decide +kernel) (v := ((F16 0 8) + sp)) kw_153 dX4_slip_166 (fun H locs w => ?_)
        obtain ⟨F17, eF17⟩ : ∃ G : Fm, G = up2 F16 0 8 ((F16 0 8) + sp) := ⟨_, rfl⟩
        rw [← eF17] at w
        refine lv_iload X.1 X.2.1 dX4_slip_169 (lv_at hl 1 rfl) ?_
        refine lv_iload_n X.1 X.2.1 dX4_slip_171 rfl (lv_at hl 7 rfl) ?_
        refine lv_isub X.1 X.2.1 dX4_slip_172 ?_
        exact vx_ret (w_iret X hr hlk w (by subst eF17; subst eF16; subst eF15; subst eF14; subst eF13; subst eF12; subst eF11; subst eF10; subst hsp; subst ex6; rw [hjf]; exact ⟨by simp [er_slip, h2, h4], rfl, rfl⟩) dX4_slip_173 rfl (Nat.zero_le _) (Nat.zero_le _))
      ·
        refine lv_iconst (v := 0) X.1 X.2.1 dX4_slip_38 (by decide) ?_
        refine lv_goto (tgt := 47) X.1 X.2.1 dX4_slip_39 (by decide) ?_
        refine lv_iadd X.1 X.2.1 dX4_slip_47 ?_
        refine lv_topi (fun x18 ex18 => ?_)
        refine lv_istore (lv' := [(7, .int x18), (6, .int x6), (5, .ref (ad (17 + j))), (4, .ref (ad (6 + r.toNatClampNeg))), (0, .ref (ad 0)), (1, .int r), (2, .int mi), (3, .int sp)]) X.1 X.2.1 dX4_slip_48 hl (by decide) rfl (fun ls hl => ?_)
        have hsp : x18 = s_spent F j mi := by rw [ex18]; simp [s_spent, c7]
        refine lv_aload X.1 X.2.1 dX4_slip_50 (lv_at hl 2 rfl) ?_
        refine gn_J X cn w hj 2 (by decide) (v := .ref (ad (2 + S j))) rfl kw_468 dX4_slip_52 ?_
        refine lv_dup X.1 X.2.1 dX4_slip_55 rfl ?_
        refine gn_P X cn w (pap_ok (hs _ hj)) 3 (by decide) (v := .int (F (2 + S j) 3)) rfl kw_68 dX4_slip_56 ?_
        refine lv_iload X.1 X.2.1 dX4_slip_59 (lv_at hl 1 rfl) ?_
        refine lv_isub X.1 X.2.1 dX4_slip_61 ?_
        refine pn_P X cn w (pap_ok (hs _ hj)) 3 (by decide) rfl (by decide +kernel) (v := ((F (2 + S j) 3) - x6)) kw_68 dX4_slip_62 (fun H locs w => ?_)
        obtain ⟨F19, eF19⟩ : ∃ G : Fm, G = up2 F (2 + S j) 3 ((F (2 + S j) 3) - x6) := ⟨_, rfl⟩
        rw [← eF19] at w
        refine lv_aload X.1 X.2.1 dX4_slip_65 (lv_at hl 2 rfl) ?_
        refine lv_dup X.1 X.2.1 dX4_slip_67 rfl ?_
        refine gn_J X cn w hj 10 (by decide) (v := .int (F19 (17 + j) 10)) rfl kw_485 dX4_slip_68 ?_
        refine lv_iload X.1 X.2.1 dX4_slip_71 (lv_at hl 1 rfl) ?_
        refine lv_iload_n X.1 X.2.1 dX4_slip_73 rfl (lv_at hl 7 rfl) ?_
        refine lv_isub X.1 X.2.1 dX4_slip_74 ?_
        refine lv_aload X.1 X.2.1 dX4_slip_75 (lv_at hl 2 rfl) ?_
        refine gn_J X cn w hj 5 (by decide) (v := .int (F19 (17 + j) 5)) rfl kw_475 dX4_slip_77 ?_
        refine lv_imul X.1 X.2.1 dX4_slip_80 ?_
        refine lv_iadd X.1 X.2.1 dX4_slip_81 ?_
        refine pn_J X cn w hj 10 (by decide) rfl (ty := .int) (by decide +kernel) (v := ((F19 (17 + j) 10) + ((x6 - sp) * (F19 (17 + j) 5)))) rfl rfl kw_485 dX4_slip_82 (fun H locs w => ?_)
        obtain ⟨F20, eF20⟩ : ∃ G : Fm, G = up2 F19 (17 + j) 10 ((F19 (17 + j) 10) + ((x6 - sp) * (F19 (17 + j) 5))) := ⟨_, rfl⟩
        rw [← eF20] at w
        refine lv_aload X.1 X.2.1 dX4_slip_85 (lv_at hl 2 rfl) ?_
        refine lv_dup X.1 X.2.1 dX4_slip_87 rfl ?_
        refine gn_J X cn w hj 12 (by decide) (v := .int (F20 (17 + j) 12)) rfl kw_488 dX4_slip_88 ?_
        refine lv_iload X.1 X.2.1 dX4_slip_91 (lv_at hl 0 rfl) ?_
        refine lv_iload X.1 X.2.1 dX4_slip_93 (lv_at hl 1 rfl) ?_
        refine lv_aload X.1 X.2.1 dX4_slip_95 (lv_at hl 2 rfl) ?_
        refine gn_J X cn w hj 2 (by decide) (v := .ref (ad (2 + S j))) rfl kw_468 dX4_slip_97 ?_
        refine gn_P X cn w (pap_ok (hs _ hj)) 2 (by decide) (v := .int (F20 (2 + S j) 2)) rfl kw_66 dX4_slip_100 ?_
        refine lv_imul X.1 X.2.1 dX4_slip_103 ?_
        refine lv_iadd X.1 X.2.1 dX4_slip_104 ?_
        refine lv_iadd X.1 X.2.1 dX4_slip_105 ?_
        refine pn_J X cn w hj 12 (by decide) rfl (ty := .int) (by decide +kernel) (v := ((F20 (17 + j) 12) + (x18 + (x6 * (F20 (2 + S j) 2))))) rfl rfl kw_488 dX4_slip_106 (fun H locs w => ?_)
        obtain ⟨F21, eF21⟩ : ∃ G : Fm, G = up2 F20 (17 + j) 12 ((F20 (17 + j) 12) + (x18 + (x6 * (F20 (2 + S j) 2)))) := ⟨_, rfl⟩
        rw [← eF21] at w
        refine lv_aload X.1 X.2.1 dX4_slip_109 (lv_at hl 2 rfl) ?_
        refine lv_iconst (v := 1) X.1 X.2.1 dX4_slip_111 (by decide) ?_
        refine pn_J X cn w hj 14 (by decide) rfl (ty := .boolean) (by decide +kernel) (v := 1) rfl rfl kw_490 dX4_slip_112 (fun H locs w => ?_)
        obtain ⟨F22, eF22⟩ : ∃ G : Fm, G = up2 F21 (17 + j) 14 1 := ⟨_, rfl⟩
        rw [← eF22] at w
        refine lv_aload X.1 X.2.1 dX4_slip_115 (lv_at hl 2 rfl) ?_
        refine lv_iconst (v := 2) X.1 X.2.1 dX4_slip_117 (by decide) ?_
        refine pn_J X cn w hj 8 (by decide) rfl (ty := .int) (by decide +kernel) (v := 2) rfl rfl kw_481 dX4_slip_118 (fun H locs w => ?_)
        obtain ⟨F23, eF23⟩ : ∃ G : Fm, G = up2 F22 (17 + j) 8 2 := ⟨_, rfl⟩
        rw [← eF23] at w
        refine lv_aload X.1 X.2.1 dX4_slip_121 (lv_at hl 3 rfl) ?_
        refine lv_iconst (v := 0) X.1 X.2.1 dX4_slip_123 (by decide) ?_
        have hop := (prs_in (in_erI h2))
        have hz : F23 (6 + r.toNatClampNeg) 6 = nI (q (6 + r.toNatClampNeg)) := by subst eF23; subst eF22; subst eF21; subst eF20; subst eF19; subst hsp; subst ex6; have hsj := hs _ hj; have n1 : (6 + r.toNatClampNeg) ≠ 17 + j := (by omega); have n2 : (6 + r.toNatClampNeg) ≠ 2 + S j := (by omega); simp only [up2_ne n1, up2_ne n2]; exact (wf.2.2.2 _ hop).1
        refine w_callv cn w (w_runVN (n := 1) (As := [.int 0]) X cn w (lt17 (by have := (prs_in (in_erI h2)); omega)) (wC_R ((prs_in (in_erI h2))).1 ((prs_in (in_erI h2))).2) rfl (fun sz => c_X3_remove l D ca ad E F23 L S n (6 + r.toNatClampNeg) hop (q (6 + r.toNatClampNeg)) 0 hz (wf.2.2.2 _ hop).2.1 (jobAt_pos hj0 (wf.2.2.2 _ hop).1) (wf.2.2.2 _ hop).2.2 sz) kw_617 kw_590 kw_27 kw_33 kw_591 rfl rfl (by decide +kernel) ⟨(Nat.le_of_ble_eq_true rfl), (Nat.le_of_ble_eq_true rfl)⟩ rfl hl.1 rfl (Nat.le_of_ble_eq_true rfl) dX4_slip_124 ⟨(Nat.zero_le _), (Nat.zero_le _)⟩) (fun u H locs hp w => ?_)
        subst hp
        refine lv_aload X.1 X.2.1 dX4_slip_127 (lv_at hl 3 rfl) ?_
        refine lv_aload X.1 X.2.1 dX4_slip_129 (lv_at hl 2 rfl) ?_
        refine lv_iload_n X.1 X.2.1 dX4_slip_131 rfl (lv_at hl 6 rfl) ?_
        refine lv_iload_n X.1 X.2.1 dX4_slip_132 rfl (lv_at hl 7 rfl) ?_
        refine lv_iload X.1 X.2.1 dX4_slip_133 (lv_at hl 1 rfl) ?_
        refine w_callv cn w (w_runVN (n := 4) (As := [.ref (ad (17 + j)), .int mi, .int sp, .int x6]) X cn w (lt17 (by have := (prs_in (in_erI h2)); omega)) (wC_R ((prs_in (in_erI h2))).1 ((prs_in (in_erI h2))).2) rfl (fun sz => c_X3_learn l D ca ad E (up2 F23 (6 + r.toNatClampNeg) 6 (nI (q (6 + r.toNatClampNeg) - 1))) (upLf L (6 + r.toNatClampNeg) (remF (L (6 + r.toNatClampNeg)) 0 (q (6 + r.toNatClampNeg)))) S n (6 + r.toNatClampNeg) (prs_in (in_erI h2)) j hj mi sp x6 sz) kw_618 kw_620 kw_29 kw_33 kw_621 rfl rfl (by decide +kernel) ⟨(Nat.le_of_ble_eq_true rfl), (Nat.le_of_ble_eq_true rfl)⟩ rfl hl.1 rfl (Nat.le_of_ble_eq_true rfl) dX4_slip_135 ⟨(Nat.zero_le _), (Nat.zero_le _)⟩) (fun u H locs hp w => ?_)
        subst hp
        refine lv_aload_n X.1 X.2.1 dX4_slip_138 rfl (lv_at hl 4 rfl) ?_
        refine lv_dup X.1 X.2.1 dX4_slip_139 rfl ?_
        refine g_L X w 4 (by decide) (v := .int ((s_learn (up2 F23 (6 + r.toNatClampNeg) 6 (nI (q (6 + r.toNatClampNeg) - 1))) (6 + r.toNatClampNeg) j mi sp x6) 0 4)) rfl kw_149 dX4_slip_140 ?_
        refine lv_iload X.1 X.2.1 dX4_slip_143 (lv_at hl 0 rfl) ?_
        refine lv_isub X.1 X.2.1 dX4_slip_145 ?_
        refine p_L X w 4 (by decide) rfl (by decide +kernel) (v := (((s_learn (up2 F23 (6 + r.toNatClampNeg) 6 (nI (q (6 + r.toNatClampNeg) - 1))) (6 + r.toNatClampNeg) j mi sp x6) 0 4) - x18)) kw_149 dX4_slip_146 (fun H locs w => ?_)
        obtain ⟨F24, eF24⟩ : ∃ G : Fm, G = up2 (s_learn (up2 F23 (6 + r.toNatClampNeg) 6 (nI (q (6 + r.toNatClampNeg) - 1))) (6 + r.toNatClampNeg) j mi sp x6) 0 4 (((s_learn (up2 F23 (6 + r.toNatClampNeg) 6 (nI (q (6 + r.toNatClampNeg) - 1))) (6 + r.toNatClampNeg) j mi sp x6) 0 4) - x18) := ⟨_, rfl⟩
        rw [← eF24] at w
        refine lv_aload_n X.1 X.2.1 dX4_slip_149 rfl (lv_at hl 4 rfl) ?_
        refine lv_dup X.1 X.2.1 dX4_slip_150 rfl ?_
        refine g_L X w 7 (by decide) (v := .int (F24 0 7)) rfl kw_152 dX4_slip_151 ?_
        refine lv_iload_n X.1 X.2.1 dX4_slip_154 rfl (lv_at hl 6 rfl) ?_
        refine lv_iadd X.1 X.2.1 dX4_slip_155 ?_
        refine p_L X w 7 (by decide) rfl (by decide +kernel) (v := ((F24 0 7) + mi)) kw_152 dX4_slip_156 (fun H locs w => ?_)
        obtain ⟨F25, eF25⟩ : ∃ G : Fm, G = up2 F24 0 7 ((F24 0 7) + mi) := ⟨_, rfl⟩
        rw [← eF25] at w
        refine lv_aload_n X.1 X.2.1 dX4_slip_159 rfl (lv_at hl 4 rfl) ?_
        refine lv_dup X.1 X.2.1 dX4_slip_160 rfl ?_
        refine g_L X w 8 (by decide) (v := .int (F25 0 8)) rfl kw_153 dX4_slip_161 ?_
        refine lv_iload_n X.1 X.2.1 dX4_slip_164 rfl (lv_at hl 7 rfl) ?_
        refine lv_iadd X.1 X.2.1 dX4_slip_165 ?_
        refine p_L X w 8 (by decide) rfl (by decide +kernel) (v := ((F25 0 8) + sp)) kw_153 dX4_slip_166 (fun H locs w => ?_)
        obtain ⟨F26, eF26⟩ : ∃ G : Fm, G = up2 F25 0 8 ((F25 0 8) + sp) := ⟨_, rfl⟩
        rw [← eF26] at w
        refine lv_iload X.1 X.2.1 dX4_slip_169 (lv_at hl 1 rfl) ?_
        refine lv_iload_n X.1 X.2.1 dX4_slip_171 rfl (lv_at hl 7 rfl) ?_
        refine lv_isub X.1 X.2.1 dX4_slip_172 ?_
        exact vx_ret (w_iret X hr hlk w (by subst eF26; subst eF25; subst eF24; subst eF23; subst eF22; subst eF21; subst eF20; subst eF19; subst hsp; subst ex6; rw [hjf]; exact ⟨by simp [er_slip, h2, h4], rfl, rfl⟩) dX4_slip_173 rfl (Nat.zero_le _) (Nat.zero_le _))
    ·
      have hE : er_slip F L S r mi sp ≠ 0 ∧ exN ((er_jos F L S (6 + r.toNatClampNeg) mi sp)) = exN (er_slip F L S r mi sp) := by  simp [er_slip, h2, h4]
      have hm' := hm hE.1
      exact x_gone X hlk hnt cn w (xw_runS (n := 3) (As := [.ref (ad (6 + r.toNatClampNeg)), .int mi, .int sp]) X cn w (fun sz => c_X4_jobOfSlip l D ca ad E F L S n hlt q wf (6 + r.toNatClampNeg) (prs_in (in_erI h2)) mi sp 1 6 (fun _ => ⟨Nat.le_refl 1, Nat.le_refl 6⟩) sz) (bg_S kw_605 kw_606 kw_31 kw_607) rfl rfl (by decide +kernel) ⟨(Nat.le_of_ble_eq_true rfl), (Nat.le_of_ble_eq_true rfl)⟩ rfl hl.1 rfl (Nat.le_of_ble_eq_true rfl) dX4_slip_11 ⟨hm'.1, hm'.2⟩) (fun st v t hq => by obtain ⟨⟨r, u, -, hp, -⟩, -⟩ := hq; exact h4 hp.1) hE.2 hE.1 (fun u hu => hu) hm rfl rfl
  ·
    have hE : er_slip F L S r mi sp ≠ 0 ∧ exN ((erI 3 r)) = exN (er_slip F L S r mi sp) := by  simp [er_slip, h2, erI_1 h2]
    have hm' := hm hE.1
    exact x_gone X hlk hnt cn w (xw_runV (n := 1) (As := [.int r]) X cn w (lt17 (by decide)) wC_0 rfl (fun sz => c_X4_pressOf l D ca ad E F L S n hlt r 1 6 (fun _ => ⟨Nat.le_refl 1, Nat.le_refl 6⟩) sz) (bg_V kw_361 kw_363 kw_15 kw_31 kw_364) rfl rfl (by decide +kernel) ⟨(Nat.le_of_ble_eq_true rfl), (Nat.le_of_ble_eq_true rfl)⟩ rfl hl.1 rfl (Nat.le_of_ble_eq_true rfl) dX4_slip_2 ⟨hm'.1, hm'.2⟩) (fun st v t hq => by obtain ⟨⟨r, u, -, hp, -⟩, -⟩ := hq; exact h2 hp.1) hE.2 hE.1 (fun u hu => hu) hm rfl rfl
