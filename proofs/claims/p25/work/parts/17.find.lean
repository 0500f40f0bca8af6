set_option maxHeartbeats 4000000 in
set_option maxRecDepth 100000 in
theorem c_X4_paperOf (l : Launch) (D : va_G) (ca : Nat → ClassId) (ad : Nat → Nat) (E : Em) (F : Fm) (L : Lm) (S : Sm) (n : Nat) (hlt : l.stackTraces = false) (i : Int32) (mc ms : Nat) (hm : erI 4 i ≠ 0 → 1 ≤ mc ∧ 6 ≤ ms) (sz : Nat) : vx_Met l yX4_paperOf (.code yX4_paperOf cX4_paperOf 3 (some (.object "PrintLedger$Paper")) :: BG) { frames := 6, cells := mc, slots := ms, locals := 95 } (Pw D ca ad (E, F, L, S, n) sz [.ref (ad 0), .int i]) (Qr D ca ad n (fun r u => erI 4 i = 0 ∧ r = some (ad (2 + i.toNatClampNeg)) ∧ u = (E, F, L, S, n)) sz) (Xq D ca ad n (erI 4 i) (fun u => u.2 = (F, L, S, n)) sz) mc ms (wA ad n sz) := by
  refine open_X (σ := (E, F, L, S, n)) (Qc := Qr D ca ad n (fun r u => erI 4 i = 0 ∧ r = some (ad (2 + i.toNatClampNeg)) ∧ u = (E, F, L, S, n))) (XC := Xq D ca ad n (erI 4 i) (fun u => u.2 = (F, L, S, n))) (by decide +kernel) (Nat.le_of_ble_eq_true rfl) ?_
  intro p e s m args below meth c X hr hlk hnt w cn ls hl
  have hl : lv_has ls 3 [(0, .ref (ad 0)), (1, .int i)] := hl
  refine lv_iload_n X.1 X.2.1 dX4_paperOf_0 rfl (lv_at hl 1 rfl) ?_
  refine lv_if_lt (tgt := 13) X.1 X.2.1 dX4_paperOf_1 (by decide) (fun c1 => ?_) (fun c1 => ?_)
  ·
    refine lv_null X.1 X.2.1 dX4_paperOf_13 ?_
    refine lv_goto (tgt := 23) X.1 X.2.1 dX4_paperOf_14 (by decide) ?_
    refine lv_astore_nN (lv' := [(2, .null), (0, .ref (ad 0)), (1, .int i)]) X.1 X.2.1 dX4_paperOf_23 rfl hl (by decide) rfl (fun ls hl => ?_)
    refine lv_aload_nN X.1 X.2.1 dX4_paperOf_24 rfl (lv_at hl 0 rfl) ?_
    refine lv_ifnonnullN X.1 X.2.1 dX4_paperOf_25 ?_
    exact x_throw1W (k := 384) (tx := "no such paper") hlt X rfl hlk hnt cn w hl.1 (by decide +kernel) (erI_neg c1) rfl hm dX4_paperOf_28 dX4_paperOf_31 dX4_paperOf_32 dX4_paperOf_35 dX4_paperOf_38 (Nat.le_of_ble_eq_true rfl) (Nat.le_of_ble_eq_true rfl) rfl rfl rfl rfl
  ·
    refine lv_iload_n X.1 X.2.1 dX4_paperOf_4 rfl (lv_at hl 1 rfl) ?_
    refine lv_aload_n X.1 X.2.1 dX4_paperOf_5 rfl (lv_at hl 0 rfl) ?_
    refine g_L X w 0 (by decide) (v := .ref (ad 14)) rfl kw_145 dX4_paperOf_6 ?_
    refine len_P X w dX4_paperOf_9 ?_
    refine lv_icmp_lt (tgt := 17) X.1 X.2.1 dX4_paperOf_10 (by decide) (fun c2 => ?_) (fun c2 => ?_)
    ·
      refine lv_aload_n X.1 X.2.1 dX4_paperOf_17 rfl (lv_at hl 0 rfl) ?_
      refine g_L X w 0 (by decide) (v := .ref (ad 14)) rfl kw_145 dX4_paperOf_18 ?_
      refine lv_iload_n X.1 X.2.1 dX4_paperOf_21 rfl (lv_at hl 1 rfl) ?_
      refine ld_P X w (in_of rfl c1 c2) dX4_paperOf_22 ?_
      refine lv_astore_n (lv' := [(2, .ref (ad (2 + (i).toNatClampNeg))), (0, .ref (ad 0)), (1, .int i)]) X.1 X.2.1 dX4_paperOf_23 rfl hl (by decide) rfl (fun ls hl => ?_)
      refine lv_aload_n X.1 X.2.1 dX4_paperOf_24 rfl (lv_at hl 0 rfl) ?_
      refine lv_ifnonnull (tgt := 39) X.1 X.2.1 dX4_paperOf_25 (by decide) ?_
      refine lv_aload_n X.1 X.2.1 dX4_paperOf_39 rfl (lv_at hl 0 rfl) ?_
      exact vx_ret (w_aret (r := (some (ad (2 + (i).toNatClampNeg)))) X hr hlk w (by  exact ⟨erI_in (in_of rfl c1 c2), rfl, rfl⟩) dX4_paperOf_40 (Nat.zero_le _) (Nat.zero_le _))
    ·
      refine lv_null X.1 X.2.1 dX4_paperOf_13 ?_
      refine lv_goto (tgt := 23) X.1 X.2.1 dX4_paperOf_14 (by decide) ?_
      refine lv_astore_nN (lv' := [(2, .null), (0, .ref (ad 0)), (1, .int i)]) X.1 X.2.1 dX4_paperOf_23 rfl hl (by decide) rfl (fun ls hl => ?_)
      refine lv_aload_nN X.1 X.2.1 dX4_paperOf_24 rfl (lv_at hl 0 rfl) ?_
      refine lv_ifnonnullN X.1 X.2.1 dX4_paperOf_25 ?_
      exact x_throw1W (k := 384) (tx := "no such paper") hlt X rfl hlk hnt cn w hl.1 (by decide +kernel) (erI_ge rfl c1 c2) rfl hm dX4_paperOf_28 dX4_paperOf_31 dX4_paperOf_32 dX4_paperOf_35 dX4_paperOf_38 (Nat.le_of_ble_eq_true rfl) (Nat.le_of_ble_eq_true rfl) rfl rfl rfl rfl

set_option maxHeartbeats 4000000 in
set_option maxRecDepth 100000 in
theorem c_X4_pressOf (l : Launch) (D : va_G) (ca : Nat → ClassId) (ad : Nat → Nat) (E : Em) (F : Fm) (L : Lm) (S : Sm) (n : Nat) (hlt : l.stackTraces = false) (i : Int32) (mc ms : Nat) (hm : erI 3 i ≠ 0 → 1 ≤ mc ∧ 6 ≤ ms) (sz : Nat) : vx_Met l yX4_pressOf (.code yX4_pressOf cX4_pressOf 3 (some (.object "PrintLedger$Press")) :: BG) { frames := 6, cells := mc, slots := ms, locals := 95 } (Pw D ca ad (E, F, L, S, n) sz [.ref (ad 0), .int i]) (Qr D ca ad n (fun r u => erI 3 i = 0 ∧ r = some (ad (6 + i.toNatClampNeg)) ∧ u = (E, F, L, S, n)) sz) (Xq D ca ad n (erI 3 i) (fun u => u.2 = (F, L, S, n)) sz) mc ms (wA ad n sz) := by
  refine open_X (σ := (E, F, L, S, n)) (Qc := Qr D ca ad n (fun r u => erI 3 i = 0 ∧ r = some (ad (6 + i.toNatClampNeg)) ∧ u = (E, F, L, S, n))) (XC := Xq D ca ad n (erI 3 i) (fun u => u.2 = (F, L, S, n))) (by decide +kernel) (Nat.le_of_ble_eq_true rfl) ?_
  intro p e s m args below meth c X hr hlk hnt w cn ls hl
  have hl : lv_has ls 3 [(0, .ref (ad 0)), (1, .int i)] := hl
  refine lv_iload_n X.1 X.2.1 dX4_pressOf_0 rfl (lv_at hl 1 rfl) ?_
  refine lv_if_lt (tgt := 13) X.1 X.2.1 dX4_pressOf_1 (by decide) (fun c1 => ?_) (fun c1 => ?_)
  ·
    refine lv_null X.1 X.2.1 dX4_pressOf_13 ?_
    refine lv_goto (tgt := 23) X.1 X.2.1 dX4_pressOf_14 (by decide) ?_
    refine lv_astore_nN (lv' := [(2, .null), (0, .ref (ad 0)), (1, .int i)]) X.1 X.2.1 dX4_pressOf_23 rfl hl (by decide) rfl (fun ls hl => ?_)
    refine lv_aload_nN X.1 X.2.1 dX4_pressOf_24 rfl (lv_at hl 0 rfl) ?_
    refine lv_ifnonnullN X.1 X.2.1 dX4_pressOf_25 ?_
    exact x_throw1W (k := 388) (tx := "no such press") hlt X rfl hlk hnt cn w hl.1 (by decide +kernel) (erI_neg c1) rfl hm dX4_pressOf_28 dX4_pressOf_31 dX4_pressOf_32 dX4_pressOf_35 dX4_pressOf_38 (Nat.le_of_ble_eq_true rfl) (Nat.le_of_ble_eq_true rfl) rfl rfl rfl rfl
  ·
    refine lv_iload_n X.1 X.2.1 dX4_pressOf_4 rfl (lv_at hl 1 rfl) ?_
    refine lv_aload_n X.1 X.2.1 dX4_pressOf_5 rfl (lv_at hl 0 rfl) ?_
    refine g_L X w 1 (by decide) (v := .ref (ad 15)) rfl kw_146 dX4_pressOf_6 ?_
    refine len_R X w dX4_pressOf_9 ?_
    refine lv_icmp_lt (tgt := 17) X.1 X.2.1 dX4_pressOf_10 (by decide) (fun c2 => ?_) (fun c2 => ?_)
    ·
      refine lv_aload_n X.1 X.2.1 dX4_pressOf_17 rfl (lv_at hl 0 rfl) ?_
      refine g_L X w 1 (by decide) (v := .ref (ad 15)) rfl kw_146 dX4_pressOf_18 ?_
      refine lv_iload_n X.1 X.2.1 dX4_pressOf_21 rfl (lv_at hl 1 rfl) ?_
      refine ld_R X w (in_of rfl c1 c2) dX4_pressOf_22 ?_
      refine lv_astore_n (lv' := [(2, .ref (ad (6 + (i).toNatClampNeg))), (0, .ref (ad 0)), (1, .int i)]) X.1 X.2.1 dX4_pressOf_23 rfl hl (by decide) rfl (fun ls hl => ?_)
      refine lv_aload_n X.1 X.2.1 dX4_pressOf_24 rfl (lv_at hl 0 rfl) ?_
      refine lv_ifnonnull (tgt := 39) X.1 X.2.1 dX4_pressOf_25 (by decide) ?_
      refine lv_aload_n X.1 X.2.1 dX4_pressOf_39 rfl (lv_at hl 0 rfl) ?_
      exact vx_ret (w_aret (r := (some (ad (6 + (i).toNatClampNeg)))) X hr hlk w (by  exact ⟨erI_in (in_of rfl c1 c2), rfl, rfl⟩) dX4_pressOf_40 (Nat.zero_le _) (Nat.zero_le _))
    ·
      refine lv_null X.1 X.2.1 dX4_pressOf_13 ?_
      refine lv_goto (tgt := 23) X.1 X.2.1 dX4_pressOf_14 (by decide) ?_
      refine lv_astore_nN (lv' := [(2, .null), (0, .ref (ad 0)), (1, .int i)]) X.1 X.2.1 dX4_pressOf_23 rfl hl (by decide) rfl (fun ls hl => ?_)
      refine lv_aload_nN X.1 X.2.1 dX4_pressOf_24 rfl (lv_at hl 0 rfl) ?_
      refine lv_ifnonnullN X.1 X.2.1 dX4_pressOf_25 ?_
      exact x_throw1W (k := 388) (tx := "no such press") hlt X rfl hlk hnt cn w hl.1 (by decide +kernel) (erI_ge rfl c1 c2) rfl hm dX4_pressOf_28 dX4_pressOf_31 dX4_pressOf_32 dX4_pressOf_35 dX4_pressOf_38 (Nat.le_of_ble_eq_true rfl) (Nat.le_of_ble_eq_true rfl) rfl rfl rfl rfl

set_option maxHeartbeats 4000000 in
set_option maxRecDepth 100000 in
theorem c_X4_jobOf (l : Launch) (D : va_G) (ca : Nat → ClassId) (ad : Nat → Nat) (E : Em) (F : Fm) (L : Lm) (S : Sm) (n : Nat) (hlt : l.stackTraces = false) (hJ : L 16 = aJb n) (hn20 : n ≤ 20) (i : Int32) (mc ms : Nat) (hm : erI n i ≠ 0 → 1 ≤ mc ∧ 6 ≤ ms) (sz : Nat) : vx_Met l yX4_jobOf (.code yX4_jobOf cX4_jobOf 3 (some (.object "PrintLedger$Job")) :: BG) { frames := 6, cells := mc, slots := ms, locals := 95 } (Pw D ca ad (E, F, L, S, n) sz [.ref (ad 0), .int i]) (Qr D ca ad n (fun r u => erI n i = 0 ∧ r = some (ad (17 + i.toNatClampNeg)) ∧ u = (E, F, L, S, n)) sz) (Xq D ca ad n (erI n i) (fun u => u.2 = (F, L, S, n)) sz) mc ms (wA ad n sz) := by
  refine open_X (σ := (E, F, L, S, n)) (Qc := Qr D ca ad n (fun r u => erI n i = 0 ∧ r = some (ad (17 + i.toNatClampNeg)) ∧ u = (E, F, L, S, n))) (XC := Xq D ca ad n (erI n i) (fun u => u.2 = (F, L, S, n))) (by decide +kernel) (Nat.le_of_ble_eq_true rfl) ?_
  intro p e s m args below meth c X hr hlk hnt w cn ls hl
  have hl : lv_has ls 3 [(0, .ref (ad 0)), (1, .int i)] := hl
  refine lv_iload_n X.1 X.2.1 dX4_jobOf_0 rfl (lv_at hl 1 rfl) ?_
  refine lv_if_lt (tgt := 13) X.1 X.2.1 dX4_jobOf_1 (by decide) (fun c1 => ?_) (fun c1 => ?_)
  ·
    refine lv_null X.1 X.2.1 dX4_jobOf_13 ?_
    refine lv_goto (tgt := 23) X.1 X.2.1 dX4_jobOf_14 (by decide) ?_
    refine lv_astore_nN (lv' := [(2, .null), (0, .ref (ad 0)), (1, .int i)]) X.1 X.2.1 dX4_jobOf_23 rfl hl (by decide) rfl (fun ls hl => ?_)
    refine lv_aload_nN X.1 X.2.1 dX4_jobOf_24 rfl (lv_at hl 0 rfl) ?_
    refine lv_ifnonnullN X.1 X.2.1 dX4_jobOf_25 ?_
    exact x_throw1W (k := 386) (tx := "no such job") hlt X rfl hlk hnt cn w hl.1 (by decide +kernel) (erI_neg c1) rfl hm dX4_jobOf_28 dX4_jobOf_31 dX4_jobOf_32 dX4_jobOf_35 dX4_jobOf_38 (Nat.le_of_ble_eq_true rfl) (Nat.le_of_ble_eq_true rfl) rfl rfl rfl rfl
  ·
    refine lv_iload_n X.1 X.2.1 dX4_jobOf_4 rfl (lv_at hl 1 rfl) ?_
    refine lv_aload_n X.1 X.2.1 dX4_jobOf_5 rfl (lv_at hl 0 rfl) ?_
    refine g_L X w 2 (by decide) (v := .ref (ad 16)) rfl kw_147 dX4_jobOf_6 ?_
    refine len_J X w dX4_jobOf_9 ?_
    refine lv_icmp_lt (tgt := 17) X.1 X.2.1 dX4_jobOf_10 (by decide) (fun c2 => ?_) (fun c2 => ?_)
    ·
      refine lv_aload_n X.1 X.2.1 dX4_jobOf_17 rfl (lv_at hl 0 rfl) ?_
      refine g_L X w 2 (by decide) (v := .ref (ad 16)) rfl kw_147 dX4_jobOf_18 ?_
      refine lv_iload_n X.1 X.2.1 dX4_jobOf_21 rfl (lv_at hl 1 rfl) ?_
      refine ld_J X w (in_of rfl c1 c2) dX4_jobOf_22 ?_
      obtain hj3n | ⟨j3, hj3s⟩ : (L 16 (i).toNatClampNeg) = none ∨ ∃ j, (L 16 (i).toNatClampNeg) = some j := opt_or _
      ·
        refine W.eq (g2 := F0 m 23 ls [.null]) (by simp only [hj3n]; rfl) ?_
        refine lv_astore_nN (lv' := [(2, .null), (0, .ref (ad 0)), (1, .int i)]) X.1 X.2.1 dX4_jobOf_23 rfl hl (by decide) rfl (fun ls hl => ?_)
        refine lv_aload_nN X.1 X.2.1 dX4_jobOf_24 rfl (lv_at hl 0 rfl) ?_
        refine lv_ifnonnullN X.1 X.2.1 dX4_jobOf_25 ?_
        exact x_throw1W (k := 386) (tx := "no such job") hlt X rfl hlk hnt cn w hl.1 (by decide +kernel) (erI_big (aJbL_no hJ hj3n)) rfl hm dX4_jobOf_28 dX4_jobOf_31 dX4_jobOf_32 dX4_jobOf_35 dX4_jobOf_38 (Nat.le_of_ble_eq_true rfl) (Nat.le_of_ble_eq_true rfl) rfl rfl rfl rfl
      ·
        refine W.eq (g2 := F0 m 23 ls [.ref (ad (17 + j3))]) (by simp only [hj3s]; rfl) ?_
        refine lv_astore_n (lv' := [(2, .ref (ad (17 + j3))), (0, .ref (ad 0)), (1, .int i)]) X.1 X.2.1 dX4_jobOf_23 rfl hl (by decide) rfl (fun ls hl => ?_)
        refine lv_aload_n X.1 X.2.1 dX4_jobOf_24 rfl (lv_at hl 0 rfl) ?_
        refine lv_ifnonnull (tgt := 39) X.1 X.2.1 dX4_jobOf_25 (by decide) ?_
        refine lv_aload_n X.1 X.2.1 dX4_jobOf_39 rfl (lv_at hl 0 rfl) ?_
        exact vx_ret (w_aret (r := (some (ad (17 + j3)))) X hr hlk w (by  exact ⟨by obtain ⟨e1, e2⟩ := aJbL_eq hJ hj3s; exact erI_in (by intro h; rcases h with h | h; exact c1 h; omega), by rw [(aJbL_eq hJ hj3s).1], rfl⟩) dX4_jobOf_40 (Nat.zero_le _) (Nat.zero_le _))
    ·
      refine lv_null X.1 X.2.1 dX4_jobOf_13 ?_
      refine lv_goto (tgt := 23) X.1 X.2.1 dX4_jobOf_14 (by decide) ?_
      refine lv_astore_nN (lv' := [(2, .null), (0, .ref (ad 0)), (1, .int i)]) X.1 X.2.1 dX4_jobOf_23 rfl hl (by decide) rfl (fun ls hl => ?_)
      refine lv_aload_nN X.1 X.2.1 dX4_jobOf_24 rfl (lv_at hl 0 rfl) ?_
      refine lv_ifnonnullN X.1 X.2.1 dX4_jobOf_25 ?_
      exact x_throw1W (k := 386) (tx := "no such job") hlt X rfl hlk hnt cn w hl.1 (by decide +kernel) (erI_big (Nat.le_trans hn20 (cl_ge (M := 20) rfl c1 (Int32.not_lt.mp c2)))) rfl hm dX4_jobOf_28 dX4_jobOf_31 dX4_jobOf_32 dX4_jobOf_35 dX4_jobOf_38 (Nat.le_of_ble_eq_true rfl) (Nat.le_of_ble_eq_true rfl) rfl rfl rfl rfl
