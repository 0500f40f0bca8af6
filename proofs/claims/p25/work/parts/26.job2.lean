set_option maxHeartbeats 4000000 in
set_option maxRecDepth 100000 in
theorem cx_X4_job (l : Launch) (D : va_G) (ca : Nat → ClassId) (ad : Nat → Nat) (E : Em) (F : Fm) (L : Lm) (S : Sm) (n : Nat) (hlt : l.stackTraces = false) (q : Nat → Nat) (wf : Wf F L S n q) (i a b co ik : Int32) (hne : er_job F n i a b co ik ≠ 0) (mc ms : Nat) (hm : er_job F n i a b co ik ≠ 0 → 1 ≤ mc ∧ 6 ≤ ms) (sz : Nat) : vx_Met l yX4_job (.code yX4_job cX4_job 9 (some .int) :: BG) { frames := 7, cells := mc, slots := ms, locals := 117 } (Pw D ca ad (E, F, L, S, n) sz [.ref (ad 0), .int i, .int a, .int b, .int co, .int ik]) (Qi D ca ad n (fun _ _ => False) sz) (Xq D ca ad n (er_job F n i a b co ik) (fun u => u.2 = (F, L, S, n)) sz) mc ms (wA ad n sz) := by
  refine open_X (σ := (E, F, L, S, n)) (Qc := Qi D ca ad n (fun _ _ => False)) (XC := Xq D ca ad n (er_job F n i a b co ik) (fun u => u.2 = (F, L, S, n))) (by decide +kernel) (Nat.le_of_ble_eq_true rfl) ?_
  intro p e s m args below meth c X hr hlk hnt w cn ls hl
  have hl : lv_has ls 9 [(0, .ref (ad 0)), (1, .int i), (2, .int a), (3, .int b), (4, .int co), (5, .int ik)] := hl
  have hs := wf.2.2.1
  have hJ := wf.2.1.2
  have hn20 := wf.1
  refine lv_aload_n X.1 X.2.1 dX4_job_0 rfl (lv_at hl 0 rfl) ?_
  refine lv_iload_n X.1 X.2.1 dX4_job_1 rfl (lv_at hl 1 rfl) ?_
  by_cases h2 : (erI 4 i) = 0
  ·
    refine w_callr cn w (w_runV (n := 1) (As := [.int i]) X cn w (lt17 (by decide)) wC_0 rfl (fun sz => met_of (c_X4_paperOf l D ca ad E F L S n hlt i 0 0 (fun h => (h h2).elim) sz) h2) (bg_V kw_278 kw_280 kw_5 kw_31 kw_281) rfl rfl (by decide +kernel) ⟨(Nat.le_of_ble_eq_true rfl), (Nat.le_of_ble_eq_true rfl)⟩ rfl hl.1 rfl (Nat.le_of_ble_eq_true rfl) dX4_job_2 ⟨(Nat.zero_le _), (Nat.zero_le _)⟩) (fun r1 u H locs hp w => ?_)
    obtain ⟨-, rfl, rfl⟩ := hp
    refine W.eq (g2 := F0 m 5 ls [.ref (ad (2 + i.toNatClampNeg))]) rfl ?_
    refine lv_astore (lv' := [(6, .ref (ad (2 + i.toNatClampNeg))), (0, .ref (ad 0)), (1, .int i), (2, .int a), (3, .int b), (4, .int co), (5, .int ik)]) X.1 X.2.1 dX4_job_5 hl (by decide) rfl (fun ls hl => ?_)
    refine lv_iload_n X.1 X.2.1 dX4_job_7 rfl (lv_at hl 3 rfl) ?_
    refine lv_iconst (v := 1) X.1 X.2.1 dX4_job_8 (by decide) ?_
    refine lv_bipush (v := 99) X.1 X.2.1 dX4_job_9 (by decide) ?_
    refine n_calli w (n_runS (n := 3) (As := [.int a, .int 1, .int 99]) X (c_X4_isOutside l a 1 99) (bg_S kw_429 kw_430 kw_31 kw_431) rfl rfl (by decide +kernel) ⟨(Nat.le_of_ble_eq_true rfl), (Nat.le_of_ble_eq_true rfl)⟩ rfl hl.1 rfl (Nat.le_of_ble_eq_true rfl) dX4_job_11 ⟨(Nat.zero_le _), (Nat.zero_le _)⟩) (fun H locs w => ?_)
    refine lv_if_ne (tgt := 27) X.1 X.2.1 dX4_job_14 (by decide) (fun c3 => ?_) (fun c3 => ?_)
    ·
      exact x_throw2 (k := 137) (tx := "a piece is 1 to 99 wide and high") hlt X rfl hlk hnt cn w hl.1 (by decide +kernel) (by  simp [er_job, h2, c3]) rfl hm dX4_job_27 dX4_job_30 dX4_job_31 dX4_job_33 dX4_job_36 (Nat.le_of_ble_eq_true rfl) (Nat.le_of_ble_eq_true rfl) rfl rfl rfl rfl
    ·
      refine lv_iload_n X.1 X.2.1 dX4_job_17 rfl (lv_at hl 4 rfl) ?_
      refine lv_iconst (v := 1) X.1 X.2.1 dX4_job_18 (by decide) ?_
      refine lv_bipush (v := 99) X.1 X.2.1 dX4_job_19 (by decide) ?_
      refine n_calli w (n_runS (n := 3) (As := [.int b, .int 1, .int 99]) X (c_X4_isOutside l b 1 99) (bg_S kw_429 kw_430 kw_31 kw_431) rfl rfl (by decide +kernel) ⟨(Nat.le_of_ble_eq_true rfl), (Nat.le_of_ble_eq_true rfl)⟩ rfl hl.1 rfl (Nat.le_of_ble_eq_true rfl) dX4_job_21 ⟨(Nat.zero_le _), (Nat.zero_le _)⟩) (fun H locs w => ?_)
      refine lv_if_eq (tgt := 37) X.1 X.2.1 dX4_job_24 (by decide) (fun c4 => ?_) (fun c4 => ?_)
      ·
        refine lv_iload X.1 X.2.1 dX4_job_37 (lv_at hl 5 rfl) ?_
        refine lv_iconst (v := 1) X.1 X.2.1 dX4_job_39 (by decide) ?_
        refine lv_sipush (v := 9999) X.1 X.2.1 dX4_job_40 (by decide) ?_
        refine n_calli w (n_runS (n := 3) (As := [.int co, .int 1, .int 9999]) X (c_X4_isOutside l co 1 9999) (bg_S kw_429 kw_430 kw_31 kw_431) rfl rfl (by decide +kernel) ⟨(Nat.le_of_ble_eq_true rfl), (Nat.le_of_ble_eq_true rfl)⟩ rfl hl.1 rfl (Nat.le_of_ble_eq_true rfl) dX4_job_43 ⟨(Nat.zero_le _), (Nat.zero_le _)⟩) (fun H locs w => ?_)
        refine lv_if_eq (tgt := 59) X.1 X.2.1 dX4_job_46 (by decide) (fun c5 => ?_) (fun c5 => ?_)
        ·
          refine lv_iload X.1 X.2.1 dX4_job_59 (lv_at hl 6 rfl) ?_
          refine lv_iconst (v := 1) X.1 X.2.1 dX4_job_61 (by decide) ?_
          refine lv_bipush (v := 15) X.1 X.2.1 dX4_job_62 (by decide) ?_
          refine n_calli w (n_runS (n := 3) (As := [.int ik, .int 1, .int 15]) X (c_X4_isOutside l ik 1 15) (bg_S kw_429 kw_430 kw_31 kw_431) rfl rfl (by decide +kernel) ⟨(Nat.le_of_ble_eq_true rfl), (Nat.le_of_ble_eq_true rfl)⟩ rfl hl.1 rfl (Nat.le_of_ble_eq_true rfl) dX4_job_64 ⟨(Nat.zero_le _), (Nat.zero_le _)⟩) (fun H locs w => ?_)
          refine lv_if_eq (tgt := 80) X.1 X.2.1 dX4_job_67 (by decide) (fun c6 => ?_) (fun c6 => ?_)
          ·
            refine lv_aload X.1 X.2.1 dX4_job_80 (lv_at hl 0 rfl) ?_
            refine lv_iload_n X.1 X.2.1 dX4_job_82 rfl (lv_at hl 3 rfl) ?_
            refine lv_iload_n X.1 X.2.1 dX4_job_83 rfl (lv_at hl 4 rfl) ?_
            refine w_calli cn w (w_runVN (n := 2) (As := [.int a, .int b]) X cn w (lt17 (by have := (pap_in (in_erI h2)); omega)) (wC_P ((pap_in (in_erI h2))).1 ((pap_in (in_erI h2))).2) rfl (fun sz => c_X2_holds l D ca ad E F L S n (2 + i.toNatClampNeg) (pap_in (in_erI h2)) a b sz) kw_435 kw_437 kw_20 kw_32 kw_438 rfl rfl (by decide +kernel) ⟨(Nat.le_of_ble_eq_true rfl), (Nat.le_of_ble_eq_true rfl)⟩ rfl hl.1 rfl (Nat.le_of_ble_eq_true rfl) dX4_job_84 ⟨(Nat.zero_le _), (Nat.zero_le _)⟩) (fun r7 u H locs hp w => ?_)
            obtain ⟨rfl, rfl⟩ := hp
            refine lv_if_ne (tgt := 110) X.1 X.2.1 dX4_job_87 (by decide) (fun c8 => ?_) (fun c8 => ?_)
            ·
              refine lv_aload_n X.1 X.2.1 dX4_job_110 rfl (lv_at hl 1 rfl) ?_
              refine g_L X w 3 (by decide) (v := .int (F 0 3)) rfl kw_148 dX4_job_111 ?_
              refine W.eq (g2 := F0 m 114 ls [.int (nI n)]) (by rw [wf.2.1.1]) ?_
              refine lv_istore (lv' := [(7, .int (nI n)), (6, .ref (ad (2 + i.toNatClampNeg))), (0, .ref (ad 0)), (1, .int i), (2, .int a), (3, .int b), (4, .int co), (5, .int ik)]) X.1 X.2.1 dX4_job_114 hl (by decide) rfl (fun ls hl => ?_)
              refine lv_iload X.1 X.2.1 dX4_job_116 (lv_at hl 0 rfl) ?_
              refine lv_if_lt (tgt := 131) X.1 X.2.1 dX4_job_118 (by decide) (fun c9 => ?_) (fun c9 => ?_)
              ·
                exact absurd c9 (nI_pos (by omega))
              ·
                refine lv_iload X.1 X.2.1 dX4_job_121 (lv_at hl 0 rfl) ?_
                refine lv_aload_n X.1 X.2.1 dX4_job_123 rfl (lv_at hl 2 rfl) ?_
                refine g_L X w 2 (by decide) (v := .ref (ad 16)) rfl kw_147 dX4_job_124 ?_
                refine len_J X w dX4_job_127 ?_
                refine lv_icmp_lt (tgt := 141) X.1 X.2.1 dX4_job_128 (by decide) (fun c10 => ?_) (fun c10 => ?_)
                ·
                  exact absurd (by simp [er_job, h2, c3, c4, c5, c6, c8, c9, c10]) hne
                ·
                  exact x_throw3 (k := 153) (tx := "there are 20 jobs") hlt X rfl hlk hnt cn w hl.1 (by decide +kernel) (by  simp [er_job, h2, c3, c4, c5, c6, c8, c9, c10]) rfl hm dX4_job_131 dX4_job_134 dX4_job_135 dX4_job_137 dX4_job_140 (Nat.le_of_ble_eq_true rfl) (Nat.le_of_ble_eq_true rfl) rfl rfl rfl rfl
            ·
              refine lv_aload X.1 X.2.1 dX4_job_90 (lv_at hl 0 rfl) ?_
              refine lv_iload_n X.1 X.2.1 dX4_job_92 rfl (lv_at hl 4 rfl) ?_
              refine lv_iload_n X.1 X.2.1 dX4_job_93 rfl (lv_at hl 3 rfl) ?_
              refine w_calli cn w (w_runVN (n := 2) (As := [.int b, .int a]) X cn w (lt17 (by have := (pap_in (in_erI h2)); omega)) (wC_P ((pap_in (in_erI h2))).1 ((pap_in (in_erI h2))).2) rfl (fun sz => c_X2_holds l D ca ad E F L S n (2 + i.toNatClampNeg) (pap_in (in_erI h2)) b a sz) kw_435 kw_437 kw_20 kw_32 kw_438 rfl rfl (by decide +kernel) ⟨(Nat.le_of_ble_eq_true rfl), (Nat.le_of_ble_eq_true rfl)⟩ rfl hl.1 rfl (Nat.le_of_ble_eq_true rfl) dX4_job_94 ⟨(Nat.zero_le _), (Nat.zero_le _)⟩) (fun r11 u H locs hp w => ?_)
              obtain ⟨rfl, rfl⟩ := hp
              refine lv_if_ne (tgt := 110) X.1 X.2.1 dX4_job_97 (by decide) (fun c12 => ?_) (fun c12 => ?_)
              ·
                refine lv_aload_n X.1 X.2.1 dX4_job_110 rfl (lv_at hl 1 rfl) ?_
                refine g_L X w 3 (by decide) (v := .int (F 0 3)) rfl kw_148 dX4_job_111 ?_
                refine W.eq (g2 := F0 m 114 ls [.int (nI n)]) (by rw [wf.2.1.1]) ?_
                refine lv_istore (lv' := [(7, .int (nI n)), (6, .ref (ad (2 + i.toNatClampNeg))), (0, .ref (ad 0)), (1, .int i), (2, .int a), (3, .int b), (4, .int co), (5, .int ik)]) X.1 X.2.1 dX4_job_114 hl (by decide) rfl (fun ls hl => ?_)
                refine lv_iload X.1 X.2.1 dX4_job_116 (lv_at hl 0 rfl) ?_
                refine lv_if_lt (tgt := 131) X.1 X.2.1 dX4_job_118 (by decide) (fun c13 => ?_) (fun c13 => ?_)
                ·
                  exact absurd c13 (nI_pos (by omega))
                ·
                  refine lv_iload X.1 X.2.1 dX4_job_121 (lv_at hl 0 rfl) ?_
                  refine lv_aload_n X.1 X.2.1 dX4_job_123 rfl (lv_at hl 2 rfl) ?_
                  refine g_L X w 2 (by decide) (v := .ref (ad 16)) rfl kw_147 dX4_job_124 ?_
                  refine len_J X w dX4_job_127 ?_
                  refine lv_icmp_lt (tgt := 141) X.1 X.2.1 dX4_job_128 (by decide) (fun c14 => ?_) (fun c14 => ?_)
                  ·
                    exact absurd (by simp [er_job, h2, c3, c4, c5, c6, c8, c12, c13, c14]) hne
                  ·
                    exact x_throw3 (k := 153) (tx := "there are 20 jobs") hlt X rfl hlk hnt cn w hl.1 (by decide +kernel) (by  simp [er_job, h2, c3, c4, c5, c6, c8, c12, c13, c14]) rfl hm dX4_job_131 dX4_job_134 dX4_job_135 dX4_job_137 dX4_job_140 (Nat.le_of_ble_eq_true rfl) (Nat.le_of_ble_eq_true rfl) rfl rfl rfl rfl
              ·
                exact x_throw2 (k := 146) (tx := "the piece does not lie on the sheet") hlt X rfl hlk hnt cn w hl.1 (by decide +kernel) (by  simp [er_job, h2, c3, c4, c5, c6, c8, c12]) rfl hm dX4_job_100 dX4_job_103 dX4_job_104 dX4_job_106 dX4_job_109 (Nat.le_of_ble_eq_true rfl) (Nat.le_of_ble_eq_true rfl) rfl rfl rfl rfl
          ·
            exact x_throw2 (k := 141) (tx := "a set of inks is 1 to 15") hlt X rfl hlk hnt cn w hl.1 (by decide +kernel) (by  simp [er_job, h2, c3, c4, c5, c6]) rfl hm dX4_job_70 dX4_job_73 dX4_job_74 dX4_job_76 dX4_job_79 (Nat.le_of_ble_eq_true rfl) (Nat.le_of_ble_eq_true rfl) rfl rfl rfl rfl
        ·
          exact x_throw2 (k := 139) (tx := "copies are 1 to 9999") hlt X rfl hlk hnt cn w hl.1 (by decide +kernel) (by  simp [er_job, h2, c3, c4, c5]) rfl hm dX4_job_49 dX4_job_52 dX4_job_53 dX4_job_55 dX4_job_58 (Nat.le_of_ble_eq_true rfl) (Nat.le_of_ble_eq_true rfl) rfl rfl rfl rfl
      ·
        exact x_throw2 (k := 137) (tx := "a piece is 1 to 99 wide and high") hlt X rfl hlk hnt cn w hl.1 (by decide +kernel) (by  simp [er_job, h2, c3, c4]) rfl hm dX4_job_27 dX4_job_30 dX4_job_31 dX4_job_33 dX4_job_36 (Nat.le_of_ble_eq_true rfl) (Nat.le_of_ble_eq_true rfl) rfl rfl rfl rfl
  ·
    have hE : er_job F n i a b co ik ≠ 0 ∧ exN ((erI 4 i)) = exN (er_job F n i a b co ik) := by  simp [er_job, h2, h2, erI_1 h2]
    have hm' := hm hE.1
    exact x_gone X hlk hnt cn w (xw_runV (n := 1) (As := [.int i]) X cn w (lt17 (by decide)) wC_0 rfl (fun sz => c_X4_paperOf l D ca ad E F L S n hlt i 1 6 (fun _ => ⟨Nat.le_refl 1, Nat.le_refl 6⟩) sz) (bg_V kw_278 kw_280 kw_5 kw_31 kw_281) rfl rfl (by decide +kernel) ⟨(Nat.le_of_ble_eq_true rfl), (Nat.le_of_ble_eq_true rfl)⟩ rfl hl.1 rfl (Nat.le_of_ble_eq_true rfl) dX4_job_2 ⟨hm'.1, hm'.2⟩) (fun st v t hq => by obtain ⟨⟨r, u, -, hp, -⟩, -⟩ := hq; exact h2 hp.1) hE.2 hE.1 (fun u hu => hu) hm rfl rfl

/-- a new job: its number; the world has one job more, its address is u -/
abbrev Qj (D : va_G) (ca : Nat → ClassId) (ad : Nat → Nat) (n : Nat) (τ : St) (sz : Nat) : Array Value → State → Outcome → State → Prop := va_Qi (fun (r : Int32) (_ : Nat) => r = nI n) (fun u t => WQ D ca (va_up ad (17 + n) u) (wA ad n sz) τ t) (wA ad n sz)

set_option maxHeartbeats 4000000 in
set_option maxRecDepth 100000 in
theorem c_X4_job (l : Launch) (D : va_G) (ca : Nat → ClassId) (ad : Nat → Nat) (E : Em) (F : Fm) (L : Lm) (S : Sm) (n : Nat) (hlt : l.stackTraces = false) (q : Nat → Nat) (wf : Wf F L S n q) (i a b co ik : Int32) (h0 : er_job F n i a b co ik = 0) (sz : Nat) : Met l yX4_job (.code yX4_job cX4_job 9 (some .int) :: BG) { frames := 7, cells := 1, slots := 15, locals := 117 } (Pw D ca ad (E, F, L, S, n) sz [.ref (ad 0), .int i, .int a, .int b, .int co, .int ik]) (Qj D ca ad n (E, s_jobF F S n i a b co ik, s_jobL L n, nwS S n i.toNatClampNeg, n + 1) sz) 1 15 (wA ad n sz) := by
  refine open_W (σ := (E, F, L, S, n)) (Qc := Qj D ca ad n (E, s_jobF F S n i a b co ik, s_jobL L n, nwS S n i.toNatClampNeg, n + 1)) (by decide +kernel) (Nat.le_of_ble_eq_true rfl) ?_
  intro p e s m args below meth c X hr hlk w cn ls hl
  have hl : lv_has ls 9 [(0, .ref (ad 0)), (1, .int i), (2, .int a), (3, .int b), (4, .int co), (5, .int ik)] := hl
  have hs := wf.2.2.1
  have hJ := wf.2.1.2
  have hn20 := wf.1
  have hp0 : erI 4 i = 0 := by
    rcases erI_01 4 i with h | h
    · exact h
    · simp [er_job, h] at h0
  have hn20l : n < 20 := by
    rcases Nat.lt_or_ge n 20 with h | h
    · exact h
    · have h9 : ¬ nI n < 20 := by rw [show (20 : Int32) = nI 20 from rfl]; exact nI_nlt h (by omega)
      exfalso; revert h0; simp only [er_job, h9, if_false]; repeat' split
      all_goals simp
  refine lv_aload_n X.1 X.2.1 dX4_job_0 rfl (lv_at hl 0 rfl) ?_
  refine lv_iload_n X.1 X.2.1 dX4_job_1 rfl (lv_at hl 1 rfl) ?_
  have h2 : (erI 4 i) = 0 := hp0
  refine w_callr cn w (w_runV (n := 1) (As := [.int i]) X cn w (lt17 (by decide)) wC_0 rfl (fun sz => met_of (c_X4_paperOf l D ca ad E F L S n hlt i 0 0 (fun h => (h h2).elim) sz) h2) (bg_V kw_278 kw_280 kw_5 kw_31 kw_281) rfl rfl (by decide +kernel) ⟨(Nat.le_of_ble_eq_true rfl), (Nat.le_of_ble_eq_true rfl)⟩ rfl hl.1 rfl (Nat.le_of_ble_eq_true rfl) dX4_job_2 ⟨(Nat.le_of_ble_eq_true rfl), (Nat.le_of_ble_eq_true rfl)⟩) (fun r1 u H locs hp w => ?_)
  obtain ⟨-, rfl, rfl⟩ := hp
  refine W.eq (g2 := F0 m 5 ls [.ref (ad (2 + i.toNatClampNeg))]) rfl ?_
  refine lv_astore (lv' := [(6, .ref (ad (2 + i.toNatClampNeg))), (0, .ref (ad 0)), (1, .int i), (2, .int a), (3, .int b), (4, .int co), (5, .int ik)]) X.1 X.2.1 dX4_job_5 hl (by decide) rfl (fun ls hl => ?_)
  refine lv_iload_n X.1 X.2.1 dX4_job_7 rfl (lv_at hl 3 rfl) ?_
  refine lv_iconst (v := 1) X.1 X.2.1 dX4_job_8 (by decide) ?_
  refine lv_bipush (v := 99) X.1 X.2.1 dX4_job_9 (by decide) ?_
  refine n_calli w (n_runS (n := 3) (As := [.int a, .int 1, .int 99]) X (c_X4_isOutside l a 1 99) (bg_S kw_429 kw_430 kw_31 kw_431) rfl rfl (by decide +kernel) ⟨(Nat.le_of_ble_eq_true rfl), (Nat.le_of_ble_eq_true rfl)⟩ rfl hl.1 rfl (Nat.le_of_ble_eq_true rfl) dX4_job_11 ⟨(Nat.le_of_ble_eq_true rfl), (Nat.le_of_ble_eq_true rfl)⟩) (fun H locs w => ?_)
  refine lv_if_ne (tgt := 27) X.1 X.2.1 dX4_job_14 (by decide) (fun c3 => ?_) (fun c3 => ?_)
  ·
    exact absurd h0 (by simp [er_job, h2, c3])
  ·
    refine lv_iload_n X.1 X.2.1 dX4_job_17 rfl (lv_at hl 4 rfl) ?_
    refine lv_iconst (v := 1) X.1 X.2.1 dX4_job_18 (by decide) ?_
    refine lv_bipush (v := 99) X.1 X.2.1 dX4_job_19 (by decide) ?_
    refine n_calli w (n_runS (n := 3) (As := [.int b, .int 1, .int 99]) X (c_X4_isOutside l b 1 99) (bg_S kw_429 kw_430 kw_31 kw_431) rfl rfl (by decide +kernel) ⟨(Nat.le_of_ble_eq_true rfl), (Nat.le_of_ble_eq_true rfl)⟩ rfl hl.1 rfl (Nat.le_of_ble_eq_true rfl) dX4_job_21 ⟨(Nat.le_of_ble_eq_true rfl), (Nat.le_of_ble_eq_true rfl)⟩) (fun H locs w => ?_)
    refine lv_if_eq (tgt := 37) X.1 X.2.1 dX4_job_24 (by decide) (fun c4 => ?_) (fun c4 => ?_)
    ·
      refine lv_iload X.1 X.2.1 dX4_job_37 (lv_at hl 5 rfl) ?_
      refine lv_iconst (v := 1) X.1 X.2.1 dX4_job_39 (by decide) ?_
      refine lv_sipush (v := 9999) X.1 X.2.1 dX4_job_40 (by decide) ?_
      refine n_calli w (n_runS (n := 3) (As := [.int co, .int 1, .int 9999]) X (c_X4_isOutside l co 1 9999) (bg_S kw_429 kw_430 kw_31 kw_431) rfl rfl (by decide +kernel) ⟨(Nat.le_of_ble_eq_true rfl), (Nat.le_of_ble_eq_true rfl)⟩ rfl hl.1 rfl (Nat.le_of_ble_eq_true rfl) dX4_job_43 ⟨(Nat.le_of_ble_eq_true rfl), (Nat.le_of_ble_eq_true rfl)⟩) (fun H locs w => ?_)
      refine lv_if_eq (tgt := 59) X.1 X.2.1 dX4_job_46 (by decide) (fun c5 => ?_) (fun c5 => ?_)
      ·
        refine lv_iload X.1 X.2.1 dX4_job_59 (lv_at hl 6 rfl) ?_
        refine lv_iconst (v := 1) X.1 X.2.1 dX4_job_61 (by decide) ?_
        refine lv_bipush (v := 15) X.1 X.2.1 dX4_job_62 (by decide) ?_
        refine n_calli w (n_runS (n := 3) (As := [.int ik, .int 1, .int 15]) X (c_X4_isOutside l ik 1 15) (bg_S kw_429 kw_430 kw_31 kw_431) rfl rfl (by decide +kernel) ⟨(Nat.le_of_ble_eq_true rfl), (Nat.le_of_ble_eq_true rfl)⟩ rfl hl.1 rfl (Nat.le_of_ble_eq_true rfl) dX4_job_64 ⟨(Nat.le_of_ble_eq_true rfl), (Nat.le_of_ble_eq_true rfl)⟩) (fun H locs w => ?_)
        refine lv_if_eq (tgt := 80) X.1 X.2.1 dX4_job_67 (by decide) (fun c6 => ?_) (fun c6 => ?_)
        ·
          refine lv_aload X.1 X.2.1 dX4_job_80 (lv_at hl 0 rfl) ?_
          refine lv_iload_n X.1 X.2.1 dX4_job_82 rfl (lv_at hl 3 rfl) ?_
          refine lv_iload_n X.1 X.2.1 dX4_job_83 rfl (lv_at hl 4 rfl) ?_
          refine w_calli cn w (w_runVN (n := 2) (As := [.int a, .int b]) X cn w (lt17 (by have := (pap_in (in_erI h2)); omega)) (wC_P ((pap_in (in_erI h2))).1 ((pap_in (in_erI h2))).2) rfl (fun sz => c_X2_holds l D ca ad E F L S n (2 + i.toNatClampNeg) (pap_in (in_erI h2)) a b sz) kw_435 kw_437 kw_20 kw_32 kw_438 rfl rfl (by decide +kernel) ⟨(Nat.le_of_ble_eq_true rfl), (Nat.le_of_ble_eq_true rfl)⟩ rfl hl.1 rfl (Nat.le_of_ble_eq_true rfl) dX4_job_84 ⟨(Nat.le_of_ble_eq_true rfl), (Nat.le_of_ble_eq_true rfl)⟩) (fun r7 u H locs hp w => ?_)
          obtain ⟨rfl, rfl⟩ := hp
          refine lv_if_ne (tgt := 110) X.1 X.2.1 dX4_job_87 (by decide) (fun c8 => ?_) (fun c8 => ?_)
          ·
            refine lv_aload_n X.1 X.2.1 dX4_job_110 rfl (lv_at hl 1 rfl) ?_
            refine g_L X w 3 (by decide) (v := .int (F 0 3)) rfl kw_148 dX4_job_111 ?_
            refine W.eq (g2 := F0 m 114 ls [.int (nI n)]) (by rw [wf.2.1.1]) ?_
            refine lv_istore (lv' := [(7, .int (nI n)), (6, .ref (ad (2 + i.toNatClampNeg))), (0, .ref (ad 0)), (1, .int i), (2, .int a), (3, .int b), (4, .int co), (5, .int ik)]) X.1 X.2.1 dX4_job_114 hl (by decide) rfl (fun ls hl => ?_)
            refine lv_iload X.1 X.2.1 dX4_job_116 (lv_at hl 0 rfl) ?_
            refine lv_if_lt (tgt := 131) X.1 X.2.1 dX4_job_118 (by decide) (fun c9 => ?_) (fun c9 => ?_)
            ·
              exact absurd c9 (nI_pos (by omega))
            ·
              refine lv_iload X.1 X.2.1 dX4_job_121 (lv_at hl 0 rfl) ?_
              refine lv_aload_n X.1 X.2.1 dX4_job_123 rfl (lv_at hl 2 rfl) ?_
              refine g_L X w 2 (by decide) (v := .ref (ad 16)) rfl kw_147 dX4_job_124 ?_
              refine len_J X w dX4_job_127 ?_
              refine lv_icmp_lt (tgt := 141) X.1 X.2.1 dX4_job_128 (by decide) (fun c10 => ?_) (fun c10 => ?_)
              ·
                refine va_new (D := D) (ci := 1) (fs := [.int 0, .int 0, .null, .int 0, .int 0, .int 0, .int 0, .int 0, .int 0, .int 0, .int 0, .int 0, .int 0, .int 0, .int 0]) (C := RX1) (T := TX1) (N := 15) X.1 X.2.1 X.2.2.2.2 in_X1 tyX1 tyX1_ok X.2.2.2.1 (X.2.2.2.2 _ kw_116) (X.2.2.2.2 _ kw_317) (X.2.2.2.2 _ kw_42) w.2.2.1 w.1 w.2.1 w.2.2.2 cn.1 rfl (fun j hj => by rcases (show j = 0 ∨ j = 1 ∨ j = 2 ∨ j = 3 ∨ j = 4 ∨ j = 5 ∨ j = 6 ∨ j = 7 ∨ j = 8 ∨ j = 9 ∨ j = 10 ∨ j = 11 ∨ j = 12 ∨ j = 13 ∨ j = 14 by omega) with rfl | rfl | rfl | rfl | rfl | rfl | rfl | rfl | rfl | rfl | rfl | rfl | rfl | rfl | rfl <;> rfl) (Nat.le_of_ble_eq_true rfl) (Nat.le_of_ble_eq_true rfl) dX4_job_141 (fun q9 H hP hD hS => ?_)
                refine lv_dup X.1 X.2.1 dX4_job_144 rfl ?_
                refine lv_iload X.1 X.2.1 dX4_job_145 (lv_at hl 0 rfl) ?_
                refine lv_iload_n X.1 X.2.1 dX4_job_147 rfl (lv_at hl 3 rfl) ?_
                refine lv_aload X.1 X.2.1 dX4_job_148 (lv_at hl 1 rfl) ?_
                refine lv_iload X.1 X.2.1 dX4_job_150 (lv_at hl 6 rfl) ?_
                refine lv_iload X.1 X.2.1 dX4_job_152 (lv_at hl 7 rfl) ?_
                have hlen9 : (wl ca ad (E, F, L, S, n)).length = 17 + n := wl_len
                have hat9 : (wl ca ad (E, F, L, S, n) ++ [(q9, .inr (1, [.int 0, .int 0, .null, .int 0, .int 0, .int 0, .int 0, .int 0, .int 0, .int 0, .int 0, .int 0, .int 0, .int 0, .int 0]))])[17 + n]? = some (q9, .inr (1, [.int 0, .int 0, .null, .int 0, .int 0, .int 0, .int 0, .int 0, .int 0, .int 0, .int 0, .int 0, .int 0, .int 0, .int 0])) := by
                  rw [List.getElem?_append_right (by rw [hlen9]; exact Nat.le_refl _), hlen9, Nat.sub_self]
                  rfl
                have hPc : va_P D vwCl [(q9, .inr (1, [.int 0, .int 0, .null, .int 0, .int 0, .int 0, .int 0, .int 0, .int 0, .int 0, .int 0, .int 0, .int 0, .int 0, .int 0]))] H := fun k c hc => by
                  rcases k with _ | k
                  · cases hc; exact hP (17 + n) _ hat9
                  · simp at hc
                have hDc : va_D (fun _ => True) [(q9, .inr (1, [.int 0, .int 0, .null, .int 0, .int 0, .int 0, .int 0, .int 0, .int 0, .int 0, .int 0, .int 0, .int 0, .int 0, .int 0]))] := ⟨fun x y c c' hc hc' _ => by
                  rcases x with _ | x
                  · rcases y with _ | y
                    · rfl
                    · simp at hc'
                  · simp at hc, fun _ _ _ => trivial⟩
                have hFc : ∀ z, va_A [(q9, .inr (1, [.int 0, .int 0, .null, .int 0, .int 0, .int 0, .int 0, .int 0, .int 0, .int 0, .int 0, .int 0, .int 0, .int 0, .int 0]))] H.size z → wA ad n s.heap.size z := by
                  rintro z (⟨k, c, hc⟩ | hz)
                  · rcases k with _ | k
                    · cases hc; exact hD.2 (17 + n) _ hat9
                    · simp at hc
                  · exact Or.inr (Nat.le_trans hS.1 hz)
                have hKc := w.2.2.1.sub (tys' := []) [] rfl
                refine va_callv (va_runIN (As := [.int (nI n), .int i, .ref (ad (2 + i.toNatClampNeg)), .int co, .int ik]) (rest := [.ref q9]) X (c_X1_init l D q9 H.size (nI n) i co ik (ad (2 + i.toNatClampNeg))) ⟨va_cnB 5 X.2.2.2.2 (bg_c kw_461) rfl rfl rfl (cn.2.1.1 _ kw_459) (X.2.2.2.2 _ kw_42) (by decide +kernel) ⟨Nat.le_of_ble_eq_true rfl, Nat.le_of_ble_eq_true rfl⟩, rfl, X.2.2.2.2 _ kw_460⟩ ⟨fun a U g mk z => by obtain ⟨q0, q1, qP, qK, qD⟩ := z; exact ⟨q0, q1, qP, va_K.moved (u := U) (U := U.calling g mk a) (Vm.Alike.refl U.vm) qK, qD⟩, fun U hU hW => ⟨rfl, by rw [hU], by rw [hU]; exact hPc, va_K.moved hW.alike hKc, hDc⟩⟩ rfl rfl hl.1 rfl (lv_room (Nat.le_of_ble_eq_true rfl)) dX4_job_154 ⟨Nat.le_of_ble_eq_true rfl, Nat.le_of_ble_eq_true rfl⟩) hS (fun z _ h => hFc z h) hFc (fun u t H1 locs ht hvm hw hB hz1 hk1 hS => ?_)
                obtain ⟨hP1, -⟩ := hB
                rw [ht] at hP1
                have hLl : ∀ o, (6 ≤ o ∧ o < 10) ∨ o = 16 → ∀ k j, L o k = some j → j < n := fun o ho k j h => by
                  rcases ho with ho | rfl
                  · exact (wf.2.2.2 o ho).2.2 k j h
                  · exact aJbL_lt hJ h
                have hadu : ∀ x, x < 17 + n → va_up ad (17 + n) q9 x = ad x := fun x hx => by simp only [va_up]; rw [if_neg (by omega)]
                have hadq : va_up ad (17 + n) q9 (17 + n) = q9 := by simp [va_up]
                have hjoin := wl_join (t := i.toNatClampNeg) hP hD hk1 hP1 hs (cl_lt (in_erI hp0)) hLl
                obtain ⟨ad2, ead⟩ : ∃ f, f = va_up ad (17 + n) q9 := ⟨_, rfl⟩
                rw [← ead] at hjoin hadu hadq
                have hA2 : ∀ x, x < 17 + (n + 1) → wA ad n s.heap.size (ad2 x) := fun x hx => hjoin.2.2 x _ (wl_at hx)
                have w : Wd D ca ad2 (wA ad n s.heap.size) s H1 locs (E, nwF F n i co ik, L, nwS S n i.toNatClampNeg, n + 1) := ⟨hjoin.1, hjoin.2, w.2.2.1, hS⟩
                have hpp := pap_in (in_erI hp0)
                have hjn : n < n + 1 := Nat.lt_succ_self n
                have hs : ∀ j, j < n + 1 → nwS S n i.toNatClampNeg j < 4 := fun j hj => by
                  simp only [nwS]
                  split
                  · exact cl_lt (in_erI hp0)
                  · exact hs j (by omega)
                rw [← hadu (2 + i.toNatClampNeg) (by omega), ← hadu 0 (by omega)] at hl
                rw [← hadq]
                refine lv_astore (lv' := [(8, .ref (ad2 (17 + n))), (7, .int (nI n)), (6, .ref (ad2 (2 + i.toNatClampNeg))), (0, .ref (ad2 0)), (1, .int i), (2, .int a), (3, .int b), (4, .int co), (5, .int ik)]) X.1 X.2.1 dX4_job_157 hl (by decide) rfl (fun ls hl => ?_)
                refine lv_aload X.1 X.2.1 dX4_job_159 (lv_at hl 0 rfl) ?_
                refine lv_iload_n X.1 X.2.1 dX4_job_161 rfl (lv_at hl 5 rfl) ?_
                refine lv_iload_n X.1 X.2.1 dX4_job_162 rfl (lv_at hl 6 rfl) ?_
                refine w_callv cn w (w_runVN (n := 2) (As := [.int a, .int b]) X cn w (Nat.add_lt_add_left hjn 17) wC_J rfl (fun sz => c_X1_layOut l D ca ad2 E (nwF F n i co ik) L (nwS S n i.toNatClampNeg) (n + 1) n hjn hs a b sz) kw_522 kw_524 kw_21 kw_42 kw_525 rfl rfl (by decide +kernel) ⟨(Nat.le_of_ble_eq_true rfl), (Nat.le_of_ble_eq_true rfl)⟩ rfl hl.1 rfl (Nat.le_of_ble_eq_true rfl) dX4_job_163 ⟨(Nat.le_of_ble_eq_true rfl), (Nat.le_of_ble_eq_true rfl)⟩) (fun u H locs hp w => ?_)
                subst hp
                refine lv_aload_n X.1 X.2.1 dX4_job_166 rfl (lv_at hl 3 rfl) ?_
                refine g_L X w 2 (by decide) (v := .ref (ad2 16)) rfl kw_147 dX4_job_167 ?_
                refine lv_iload X.1 X.2.1 dX4_job_170 (lv_at hl 1 rfl) ?_
                refine lv_aload X.1 X.2.1 dX4_job_172 (lv_at hl 0 rfl) ?_
                refine st_J X w hjn (vp_in_nI hn20l (by omega)) dX4_job_174 (fun H locs w => ?_)
                obtain ⟨L501, eL501⟩ : ∃ G : Lm, G = upL L 16 ((nI n)).toNatClampNeg (some n) := ⟨_, rfl⟩
                rw [← eL501] at w
                refine lv_aload_n X.1 X.2.1 dX4_job_175 rfl (lv_at hl 3 rfl) ?_
                refine lv_iload X.1 X.2.1 dX4_job_176 (lv_at hl 1 rfl) ?_
                refine lv_iconst (v := 1) X.1 X.2.1 dX4_job_178 (by decide) ?_
                refine lv_iadd X.1 X.2.1 dX4_job_179 ?_
                refine p_L X w 3 (by decide) rfl (by decide +kernel) (v := ((nI n) + 1)) kw_148 dX4_job_180 (fun H locs w => ?_)
                obtain ⟨F502, eF502⟩ : ∃ G : Fm, G = up2 (s_layF (nwF F n i co ik) (nwS S n i.toNatClampNeg) n a b) 0 3 ((nI n) + 1) := ⟨_, rfl⟩
                rw [← eF502] at w
                refine lv_iload X.1 X.2.1 dX4_job_183 (lv_at hl 1 rfl) ?_
                have hFj : F502 = s_jobF F S n i a b co ik := by rw [eF502, nI_1]; rfl
                have hLj : L501 = s_jobL L n := by rw [eL501, cl_nI (by omega)]; rfl
                rw [hFj, hLj] at w
                refine W.widen (k := 1) (n := 15) (Nat.le_of_ble_eq_true rfl) (Nat.le_of_ble_eq_true rfl) ?_
                exact W.zret X.1 X.2.1 hr rfl (fun t ht hW => ⟨⟨nI n, q9, rfl, rfl, by rw [ht, ← ead]; exact w.1, va_K.moved hW.alike w.2.2.1, by rw [← ead]; exact w.2.1⟩, w.2.2.2.F ht⟩) w.2.2.2.2.2 dX4_job_185
              ·
                exact absurd h0 (by simp [er_job, h2, c3, c4, c5, c6, c8, c9, c10])
          ·
            refine lv_aload X.1 X.2.1 dX4_job_90 (lv_at hl 0 rfl) ?_
            refine lv_iload_n X.1 X.2.1 dX4_job_92 rfl (lv_at hl 4 rfl) ?_
            refine lv_iload_n X.1 X.2.1 dX4_job_93 rfl (lv_at hl 3 rfl) ?_
            refine w_calli cn w (w_runVN (n := 2) (As := [.int b, .int a]) X cn w (lt17 (by have := (pap_in (in_erI h2)); omega)) (wC_P ((pap_in (in_erI h2))).1 ((pap_in (in_erI h2))).2) rfl (fun sz => c_X2_holds l D ca ad E F L S n (2 + i.toNatClampNeg) (pap_in (in_erI h2)) b a sz) kw_435 kw_437 kw_20 kw_32 kw_438 rfl rfl (by decide +kernel) ⟨(Nat.le_of_ble_eq_true rfl), (Nat.le_of_ble_eq_true rfl)⟩ rfl hl.1 rfl (Nat.le_of_ble_eq_true rfl) dX4_job_94 ⟨(Nat.le_of_ble_eq_true rfl), (Nat.le_of_ble_eq_true rfl)⟩) (fun r11 u H locs hp w => ?_)
            obtain ⟨rfl, rfl⟩ := hp
            refine lv_if_ne (tgt := 110) X.1 X.2.1 dX4_job_97 (by decide) (fun c12 => ?_) (fun c12 => ?_)
            ·
              refine lv_aload_n X.1 X.2.1 dX4_job_110 rfl (lv_at hl 1 rfl) ?_
              refine g_L X w 3 (by decide) (v := .int (F 0 3)) rfl kw_148 dX4_job_111 ?_
              refine W.eq (g2 := F0 m 114 ls [.int (nI n)]) (by rw [wf.2.1.1]) ?_
              refine lv_istore (lv' := [(7, .int (nI n)), (6, .ref (ad (2 + i.toNatClampNeg))), (0, .ref (ad 0)), (1, .int i), (2, .int a), (3, .int b), (4, .int co), (5, .int ik)]) X.1 X.2.1 dX4_job_114 hl (by decide) rfl (fun ls hl => ?_)
              refine lv_iload X.1 X.2.1 dX4_job_116 (lv_at hl 0 rfl) ?_
              refine lv_if_lt (tgt := 131) X.1 X.2.1 dX4_job_118 (by decide) (fun c13 => ?_) (fun c13 => ?_)
              ·
                exact absurd c13 (nI_pos (by omega))
              ·
                refine lv_iload X.1 X.2.1 dX4_job_121 (lv_at hl 0 rfl) ?_
                refine lv_aload_n X.1 X.2.1 dX4_job_123 rfl (lv_at hl 2 rfl) ?_
                refine g_L X w 2 (by decide) (v := .ref (ad 16)) rfl kw_147 dX4_job_124 ?_
                refine len_J X w dX4_job_127 ?_
                refine lv_icmp_lt (tgt := 141) X.1 X.2.1 dX4_job_128 (by decide) (fun c14 => ?_) (fun c14 => ?_)
                ·
                  refine va_new (D := D) (ci := 1) (fs := [.int 0, .int 0, .null, .int 0, .int 0, .int 0, .int 0, .int 0, .int 0, .int 0, .int 0, .int 0, .int 0, .int 0, .int 0]) (C := RX1) (T := TX1) (N := 15) X.1 X.2.1 X.2.2.2.2 in_X1 tyX1 tyX1_ok X.2.2.2.1 (X.2.2.2.2 _ kw_116) (X.2.2.2.2 _ kw_317) (X.2.2.2.2 _ kw_42) w.2.2.1 w.1 w.2.1 w.2.2.2 cn.1 rfl (fun j hj => by rcases (show j = 0 ∨ j = 1 ∨ j = 2 ∨ j = 3 ∨ j = 4 ∨ j = 5 ∨ j = 6 ∨ j = 7 ∨ j = 8 ∨ j = 9 ∨ j = 10 ∨ j = 11 ∨ j = 12 ∨ j = 13 ∨ j = 14 by omega) with rfl | rfl | rfl | rfl | rfl | rfl | rfl | rfl | rfl | rfl | rfl | rfl | rfl | rfl | rfl <;> rfl) (Nat.le_of_ble_eq_true rfl) (Nat.le_of_ble_eq_true rfl) dX4_job_141 (fun q9 H hP hD hS => ?_)
                  refine lv_dup X.1 X.2.1 dX4_job_144 rfl ?_
                  refine lv_iload X.1 X.2.1 dX4_job_145 (lv_at hl 0 rfl) ?_
                  refine lv_iload_n X.1 X.2.1 dX4_job_147 rfl (lv_at hl 3 rfl) ?_
                  refine lv_aload X.1 X.2.1 dX4_job_148 (lv_at hl 1 rfl) ?_
                  refine lv_iload X.1 X.2.1 dX4_job_150 (lv_at hl 6 rfl) ?_
                  refine lv_iload X.1 X.2.1 dX4_job_152 (lv_at hl 7 rfl) ?_
                  have hlen9 : (wl ca ad (E, F, L, S, n)).length = 17 + n := wl_len
                  have hat9 : (wl ca ad (E, F, L, S, n) ++ [(q9, .inr (1, [.int 0, .int 0, .null, .int 0, .int 0, .int 0, .int 0, .int 0, .int 0, .int 0, .int 0, .int 0, .int 0, .int 0, .int 0]))])[17 + n]? = some (q9, .inr (1, [.int 0, .int 0, .null, .int 0, .int 0, .int 0, .int 0, .int 0, .int 0, .int 0, .int 0, .int 0, .int 0, .int 0, .int 0])) := by
                    rw [List.getElem?_append_right (by rw [hlen9]; exact Nat.le_refl _), hlen9, Nat.sub_self]
                    rfl
                  have hPc : va_P D vwCl [(q9, .inr (1, [.int 0, .int 0, .null, .int 0, .int 0, .int 0, .int 0, .int 0, .int 0, .int 0, .int 0, .int 0, .int 0, .int 0, .int 0]))] H := fun k c hc => by
                    rcases k with _ | k
                    · cases hc; exact hP (17 + n) _ hat9
                    · simp at hc
                  have hDc : va_D (fun _ => True) [(q9, .inr (1, [.int 0, .int 0, .null, .int 0, .int 0, .int 0, .int 0, .int 0, .int 0, .int 0, .int 0, .int 0, .int 0, .int 0, .int 0]))] := ⟨fun x y c c' hc hc' _ => by
                    rcases x with _ | x
                    · rcases y with _ | y
                      · rfl
                      · simp at hc'
                    · simp at hc, fun _ _ _ => trivial⟩
                  have hFc : ∀ z, va_A [(q9, .inr (1, [.int 0, .int 0, .null, .int 0, .int 0, .int 0, .int 0, .int 0, .int 0, .int 0, .int 0, .int 0, .int 0, .int 0, .int 0]))] H.size z → wA ad n s.heap.size z := by
                    rintro z (⟨k, c, hc⟩ | hz)
                    · rcases k with _ | k
                      · cases hc; exact hD.2 (17 + n) _ hat9
                      · simp at hc
                    · exact Or.inr (Nat.le_trans hS.1 hz)
                  have hKc := w.2.2.1.sub (tys' := []) [] rfl
                  refine va_callv (va_runIN (As := [.int (nI n), .int i, .ref (ad (2 + i.toNatClampNeg)), .int co, .int ik]) (rest := [.ref q9]) X (c_X1_init l D q9 H.size (nI n) i co ik (ad (2 + i.toNatClampNeg))) ⟨va_cnB 5 X.2.2.2.2 (bg_c kw_461) rfl rfl rfl (cn.2.1.1 _ kw_459) (X.2.2.2.2 _ kw_42) (by decide +kernel) ⟨Nat.le_of_ble_eq_true rfl, Nat.le_of_ble_eq_true rfl⟩, rfl, X.2.2.2.2 _ kw_460⟩ ⟨fun a U g mk z => by obtain ⟨q0, q1, qP, qK, qD⟩ := z; exact ⟨q0, q1, qP, va_K.moved (u := U) (U := U.calling g mk a) (Vm.Alike.refl U.vm) qK, qD⟩, fun U hU hW => ⟨rfl, by rw [hU], by rw [hU]; exact hPc, va_K.moved hW.alike hKc, hDc⟩⟩ rfl rfl hl.1 rfl (lv_room (Nat.le_of_ble_eq_true rfl)) dX4_job_154 ⟨Nat.le_of_ble_eq_true rfl, Nat.le_of_ble_eq_true rfl⟩) hS (fun z _ h => hFc z h) hFc (fun u t H1 locs ht hvm hw hB hz1 hk1 hS => ?_)
                  obtain ⟨hP1, -⟩ := hB
                  rw [ht] at hP1
                  have hLl : ∀ o, (6 ≤ o ∧ o < 10) ∨ o = 16 → ∀ k j, L o k = some j → j < n := fun o ho k j h => by
                    rcases ho with ho | rfl
                    · exact (wf.2.2.2 o ho).2.2 k j h
                    · exact aJbL_lt hJ h
                  have hadu : ∀ x, x < 17 + n → va_up ad (17 + n) q9 x = ad x := fun x hx => by simp only [va_up]; rw [if_neg (by omega)]
                  have hadq : va_up ad (17 + n) q9 (17 + n) = q9 := by simp [va_up]
                  have hjoin := wl_join (t := i.toNatClampNeg) hP hD hk1 hP1 hs (cl_lt (in_erI hp0)) hLl
                  obtain ⟨ad2, ead⟩ : ∃ f, f = va_up ad (17 + n) q9 := ⟨_, rfl⟩
                  rw [← ead] at hjoin hadu hadq
                  have hA2 : ∀ x, x < 17 + (n + 1) → wA ad n s.heap.size (ad2 x) := fun x hx => hjoin.2.2 x _ (wl_at hx)
                  have w : Wd D ca ad2 (wA ad n s.heap.size) s H1 locs (E, nwF F n i co ik, L, nwS S n i.toNatClampNeg, n + 1) := ⟨hjoin.1, hjoin.2, w.2.2.1, hS⟩
                  have hpp := pap_in (in_erI hp0)
                  have hjn : n < n + 1 := Nat.lt_succ_self n
                  have hs : ∀ j, j < n + 1 → nwS S n i.toNatClampNeg j < 4 := fun j hj => by
                    simp only [nwS]
                    split
                    · exact cl_lt (in_erI hp0)
                    · exact hs j (by omega)
                  rw [← hadu (2 + i.toNatClampNeg) (by omega), ← hadu 0 (by omega)] at hl
                  rw [← hadq]
                  refine lv_astore (lv' := [(8, .ref (ad2 (17 + n))), (7, .int (nI n)), (6, .ref (ad2 (2 + i.toNatClampNeg))), (0, .ref (ad2 0)), (1, .int i), (2, .int a), (3, .int b), (4, .int co), (5, .int ik)]) X.1 X.2.1 dX4_job_157 hl (by decide) rfl (fun ls hl => ?_)
                  refine lv_aload X.1 X.2.1 dX4_job_159 (lv_at hl 0 rfl) ?_
                  refine lv_iload_n X.1 X.2.1 dX4_job_161 rfl (lv_at hl 5 rfl) ?_
                  refine lv_iload_n X.1 X.2.1 dX4_job_162 rfl (lv_at hl 6 rfl) ?_
                  refine w_callv cn w (w_runVN (n := 2) (As := [.int a, .int b]) X cn w (Nat.add_lt_add_left hjn 17) wC_J rfl (fun sz => c_X1_layOut l D ca ad2 E (nwF F n i co ik) L (nwS S n i.toNatClampNeg) (n + 1) n hjn hs a b sz) kw_522 kw_524 kw_21 kw_42 kw_525 rfl rfl (by decide +kernel) ⟨(Nat.le_of_ble_eq_true rfl), (Nat.le_of_ble_eq_true rfl)⟩ rfl hl.1 rfl (Nat.le_of_ble_eq_true rfl) dX4_job_163 ⟨(Nat.le_of_ble_eq_true rfl), (Nat.le_of_ble_eq_true rfl)⟩) (fun u H locs hp w => ?_)
                  subst hp
                  refine lv_aload_n X.1 X.2.1 dX4_job_166 rfl (lv_at hl 3 rfl) ?_
                  refine g_L X w 2 (by decide) (v := .ref (ad2 16)) rfl kw_147 dX4_job_167 ?_
                  refine lv_iload X.1 X.2.1 dX4_job_170 (lv_at hl 1 rfl) ?_
                  refine lv_aload X.1 X.2.1 dX4_job_172 (lv_at hl 0 rfl) ?_
                  refine st_J X w hjn (vp_in_nI hn20l (by omega)) dX4_job_174 (fun H locs w => ?_)
                  obtain ⟨L501, eL501⟩ : ∃ G : Lm, G = upL L 16 ((nI n)).toNatClampNeg (some n) := ⟨_, rfl⟩
                  rw [← eL501] at w
                  refine lv_aload_n X.1 X.2.1 dX4_job_175 rfl (lv_at hl 3 rfl) ?_
                  refine lv_iload X.1 X.2.1 dX4_job_176 (lv_at hl 1 rfl) ?_
                  refine lv_iconst (v := 1) X.1 X.2.1 dX4_job_178 (by decide) ?_
                  refine lv_iadd X.1 X.2.1 dX4_job_179 ?_
                  refine p_L X w 3 (by decide) rfl (by decide +kernel) (v := ((nI n) + 1)) kw_148 dX4_job_180 (fun H locs w => ?_)
                  obtain ⟨F502, eF502⟩ : ∃ G : Fm, G = up2 (s_layF (nwF F n i co ik) (nwS S n i.toNatClampNeg) n a b) 0 3 ((nI n) + 1) := ⟨_, rfl⟩
                  rw [← eF502] at w
                  refine lv_iload X.1 X.2.1 dX4_job_183 (lv_at hl 1 rfl) ?_
                  have hFj : F502 = s_jobF F S n i a b co ik := by rw [eF502, nI_1]; rfl
                  have hLj : L501 = s_jobL L n := by rw [eL501, cl_nI (by omega)]; rfl
                  rw [hFj, hLj] at w
                  refine W.widen (k := 1) (n := 15) (Nat.le_of_ble_eq_true rfl) (Nat.le_of_ble_eq_true rfl) ?_
                  exact W.zret X.1 X.2.1 hr rfl (fun t ht hW => ⟨⟨nI n, q9, rfl, rfl, by rw [ht, ← ead]; exact w.1, va_K.moved hW.alike w.2.2.1, by rw [← ead]; exact w.2.1⟩, w.2.2.2.F ht⟩) w.2.2.2.2.2 dX4_job_185
                ·
                  exact absurd h0 (by simp [er_job, h2, c3, c4, c5, c6, c8, c12, c13, c14])
            ·
              exact absurd h0 (by simp [er_job, h2, c3, c4, c5, c6, c8, c12])
        ·
          exact absurd h0 (by simp [er_job, h2, c3, c4, c5, c6])
      ·
        exact absurd h0 (by simp [er_job, h2, c3, c4, c5])
    ·
      exact absurd h0 (by simp [er_job, h2, c3, c4])
