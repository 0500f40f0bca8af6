theorem nI_nle2 {a b : Nat} (h : b < a) (ha : a < 2 ^ 31) : ¬ nI a ≤ nI b := nI_ge h ha

set_option maxHeartbeats 4000000 in
set_option maxRecDepth 100000 in
theorem lp_X3_insert {p : Program} {l : Launch} {e : Env} {s : State} {m : MethodId} {args : Array Value} {below : List Frame} {meth : Method} {c : Code} {D : va_G} {ca : Nat → ClassId} {ad : Nat → Nat} {E : Em} {F : Fm} {L : Lm} {S : Sm} {n : Nat} (X : CallFix p m c cX3_insert 4 s args BG yX3_insert.cls) (hr : meth.sig.returnType = none) (hlk : meth.locks = false) (cn : Cn (wA ad n s.heap.size) s) (o : Nat) (ho : 6 ≤ o ∧ o < 10) (j : Nat) (hj : j < n) (z pl : Nat) (hz : F o 6 = nI z) (hz20 : z < 20) (hpl : pl ≤ z) (hqj : ∀ x j, L o x = some j → j < n) :
    ∀ (d : Nat) (k : Nat), pl + d = k → k ≤ z → ∀ (H : Heap) (locs : List Loc), Wd D ca ad (wA ad n s.heap.size) s H locs (E, F, (upLf L o (shF (L o) k z)), S, n) → ∀ (ls : Array Slot), lv_has ls 4 [(3, .int (nI k)), (0, .ref (ad o)), (1, .ref (ad (17 + j))), (2, .int (nI pl))] →
      W p l e { frames := 0, cells := 0, slots := 0, locals := 0 } s m args below meth c H locs 0 0 (MQ below (Qv D ca ad n (fun u => u = (E, up2 F o 6 (nI (z + 1)), upLf L o (insF (L o) pl j z), S, n)) s.heap.size) args s 0 0 (wA ad n s.heap.size)) (F0 m 30 ls []) := by
  intro d
  induction d with
  | zero =>
    intro k hkd hkz H locs w ls hl
    obtain rfl : pl = k := by omega
    refine lv_iload_n X.1 X.2.1 dX3_insert_30 rfl (lv_at hl 0 rfl) ?_
    refine lv_iload_n X.1 X.2.1 dX3_insert_31 rfl (lv_at hl 3 rfl) ?_
    refine lv_icmp_le (tgt := 55) X.1 X.2.1 dX3_insert_32 (by decide) (fun c1 => ?_) (fun c1 => ?_)
    ·
      refine lv_aload_n X.1 X.2.1 dX3_insert_55 rfl (lv_at hl 1 rfl) ?_
      refine g_R X w ho 5 (by decide) (v := .ref (ad (o + 4))) rfl kw_98 dX3_insert_56 ?_
      refine lv_iload_n X.1 X.2.1 dX3_insert_59 rfl (lv_at hl 3 rfl) ?_
      refine lv_aload_n X.1 X.2.1 dX3_insert_60 rfl (lv_at hl 2 rfl) ?_
      refine st_L X w ho (some j) (fun _ h => by cases h; exact hj) (vp_in_nI (by omega) (by omega)) dX3_insert_61 (fun H locs w => ?_)
      obtain ⟨L2, eL2⟩ : ∃ G : Lm, G = upL (upLf L o (shF (L o) pl z)) o ((nI pl)).toNatClampNeg (some j) := ⟨_, rfl⟩
      rw [← eL2] at w
      refine lv_aload_n X.1 X.2.1 dX3_insert_62 rfl (lv_at hl 1 rfl) ?_
      refine lv_dup X.1 X.2.1 dX3_insert_63 rfl ?_
      refine g_R X w ho 6 (by decide) (v := .int (F o 6)) rfl kw_99 dX3_insert_64 ?_
      refine lv_iconst (v := 1) X.1 X.2.1 dX3_insert_67 (by decide) ?_
      refine lv_iadd X.1 X.2.1 dX3_insert_68 ?_
      refine p_R X w ho 6 (by decide) rfl (by decide +kernel) (v := ((F o 6) + 1)) kw_99 dX3_insert_69 (fun H locs w => ?_)
      obtain ⟨F3, eF3⟩ : ∃ G : Fm, G = up2 F o 6 ((F o 6) + 1) := ⟨_, rfl⟩
      rw [← eF3] at w
      exact w_vret X hr hlk w (by subst eF3; subst eL2; rw [upL_upLf, cl_nI (by omega), hz, nI_1]; rfl) dX3_insert_72 (Nat.le_of_ble_eq_true rfl) (Nat.le_of_ble_eq_true rfl)
    ·
      exact absurd (Int32.le_refl _) c1
  | succ d ih =>
    intro k hkd hkz H locs w ls hl
    obtain ⟨k0, rfl⟩ : ∃ k0, k = k0 + 1 := ⟨pl + d, by omega⟩
    have hM : ∀ x j, (upLf L o (shF (L o) (k0 + 1) z)) o x = some j → j < n := fun x j h => by rw [upLf_s] at h; exact shF_lt hqj x j h
    refine lv_iload_n X.1 X.2.1 dX3_insert_30 rfl (lv_at hl 0 rfl) ?_
    refine lv_iload_n X.1 X.2.1 dX3_insert_31 rfl (lv_at hl 3 rfl) ?_
    refine lv_icmp_le (tgt := 55) X.1 X.2.1 dX3_insert_32 (by decide) (fun c1 => ?_) (fun c1 => ?_)
    ·
      exact absurd c1 (nI_nle2 (by omega) (by omega))
    ·
      refine lv_aload_n X.1 X.2.1 dX3_insert_35 rfl (lv_at hl 1 rfl) ?_
      refine g_R X w ho 5 (by decide) (v := .ref (ad (o + 4))) rfl kw_98 dX3_insert_36 ?_
      refine lv_iload_n X.1 X.2.1 dX3_insert_39 rfl (lv_at hl 0 rfl) ?_
      refine lv_aload_n X.1 X.2.1 dX3_insert_40 rfl (lv_at hl 1 rfl) ?_
      refine g_R X w ho 5 (by decide) (v := .ref (ad (o + 4))) rfl kw_98 dX3_insert_41 ?_
      refine lv_iload_n X.1 X.2.1 dX3_insert_44 rfl (lv_at hl 0 rfl) ?_
      refine lv_iconst (v := 1) X.1 X.2.1 dX3_insert_45 (by decide) ?_
      refine lv_isub X.1 X.2.1 dX3_insert_46 ?_
      refine ld_L X w ho (by rw [nI_pred]; exact vp_in_nI (by omega) (by omega)) dX3_insert_47 ?_
      refine st_L X w ho ((upLf L o (shF (L o) (k0 + 1) z)) o (((nI (k0 + 1)) - 1)).toNatClampNeg) (fun x h => (hM _ _ h)) (vp_in_nI (by omega) (by omega)) dX3_insert_48 (fun H locs w => ?_)
      obtain ⟨L2, eL2⟩ : ∃ G : Lm, G = upL (upLf L o (shF (L o) (k0 + 1) z)) o ((nI (k0 + 1))).toNatClampNeg ((upLf L o (shF (L o) (k0 + 1) z)) o (((nI (k0 + 1)) - 1)).toNatClampNeg) := ⟨_, rfl⟩
      rw [← eL2] at w
      refine lv_iinc (v := (nI k0)) (lv' := [(3, .int (nI k0)), (0, .ref (ad o)), (1, .ref (ad (17 + j))), (2, .int (nI pl))]) X.1 X.2.1 dX3_insert_49 hl (k := 0) rfl (by rw [m1I]; exact pk_m1 k0) (by decide) rfl (fun ls hl => ?_)
      refine lv_goto (tgt := 30) X.1 X.2.1 dX3_insert_52 (by decide) ?_
      have hL : L2 = (upLf L o (shF (L o) k0 z)) := by subst eL2; rw [nI_pred, cl_nI (by omega), cl_nI (by omega), upL_upLf, upLf_s]; rw [shF_step (by omega)]
      rw [hL] at w
      exact ih k0 (by omega) (by omega) H locs w ls (lv_sub hl [0, 1, 2, 3] rfl)

set_option maxHeartbeats 4000000 in
set_option maxRecDepth 100000 in
theorem c_X3_insert (l : Launch) (D : va_G) (ca : Nat → ClassId) (ad : Nat → Nat) (E : Em) (F : Fm) (L : Lm) (S : Sm) (n : Nat) (o : Nat) (ho : 6 ≤ o ∧ o < 10) (j : Nat) (hj : j < n) (z pl : Nat) (hz : F o 6 = nI z) (hz20 : z < 20) (hpl : pl ≤ z) (hqj : ∀ x j, L o x = some j → j < n) (sz : Nat) : Met l yX3_insert (.code yX3_insert cX3_insert 4 none :: BG) { frames := 0, cells := 0, slots := 0, locals := 0 } (Pw D ca ad (E, F, L, S, n) sz [.ref (ad o), .ref (ad (17 + j)), .int (nI pl)]) (Qv D ca ad n (fun u => u = (E, up2 F o 6 (nI (z + 1)), upLf L o (insF (L o) pl j z), S, n)) sz) 0 0 (wA ad n sz) := by
  refine open_W (σ := (E, F, L, S, n)) (Qc := Qv D ca ad n (fun u => u = (E, up2 F o 6 (nI (z + 1)), upLf L o (insF (L o) pl j z), S, n))) (by decide +kernel) (Nat.le_of_ble_eq_true rfl) ?_
  intro p e s m args below meth c X hr hlk w cn ls hl
  have hl : lv_has ls 4 [(0, .ref (ad o)), (1, .ref (ad (17 + j))), (2, .int (nI pl))] := hl
  refine lv_iload_n X.1 X.2.1 dX3_insert_0 rfl (lv_at hl 2 rfl) ?_
  refine lv_if_lt (tgt := 24) X.1 X.2.1 dX3_insert_1 (by decide) (fun c1 => ?_) (fun c1 => ?_)
  ·
    exact absurd c1 (nI_pos (by omega))
  ·
    refine lv_iload_n X.1 X.2.1 dX3_insert_4 rfl (lv_at hl 2 rfl) ?_
    refine lv_aload_n X.1 X.2.1 dX3_insert_5 rfl (lv_at hl 0 rfl) ?_
    refine g_R X w ho 6 (by decide) (v := .int (F o 6)) rfl kw_99 dX3_insert_6 ?_
    refine lv_icmp_gt (tgt := 24) X.1 X.2.1 dX3_insert_9 (by decide) (fun c2 => ?_) (fun c2 => ?_)
    ·
      rw [hz] at c2; exact absurd c2 (nI_nlt (by omega) (by omega))
    ·
      refine lv_aload_n X.1 X.2.1 dX3_insert_12 rfl (lv_at hl 0 rfl) ?_
      refine g_R X w ho 6 (by decide) (v := .int (F o 6)) rfl kw_99 dX3_insert_13 ?_
      refine lv_aload_n X.1 X.2.1 dX3_insert_16 rfl (lv_at hl 0 rfl) ?_
      refine g_R X w ho 5 (by decide) (v := .ref (ad (o + 4))) rfl kw_98 dX3_insert_17 ?_
      refine len_L X w ho dX3_insert_20 ?_
      refine lv_icmp_lt (tgt := 25) X.1 X.2.1 dX3_insert_21 (by decide) (fun c3 => ?_) (fun c3 => ?_)
      ·
        refine lv_aload_n X.1 X.2.1 dX3_insert_25 rfl (lv_at hl 0 rfl) ?_
        refine g_R X w ho 6 (by decide) (v := .int (F o 6)) rfl kw_99 dX3_insert_26 ?_
        refine lv_topi (fun x4 ex4 => ?_)
        refine lv_istore_n (lv' := [(3, .int x4), (0, .ref (ad o)), (1, .ref (ad (17 + j))), (2, .int (nI pl))]) X.1 X.2.1 dX3_insert_29 rfl hl (by decide) rfl (fun ls hl => ?_)
        subst ex4;
        rw [hz] at hl
        exact lp_X3_insert X hr hlk cn o ho j hj z pl hz hz20 hpl hqj (z - pl) z (by omega) (Nat.le_refl z) _ _ (by rw [shF_z, upLf_self]; exact w) ls (lv_sub hl [0, 1, 2, 3] rfl)
      ·
        exact absurd (by rw [hz, show (20 : Int32) = nI 20 from rfl]; exact nI_lt (by omega) (by omega)) c3

set_option maxHeartbeats 4000000 in
set_option maxRecDepth 100000 in
theorem lp_X3_remove {p : Program} {l : Launch} {e : Env} {s : State} {m : MethodId} {args : Array Value} {below : List Frame} {meth : Method} {c : Code} {D : va_G} {ca : Nat → ClassId} {ad : Nat → Nat} {E : Em} {F : Fm} {L : Lm} {S : Sm} {n : Nat} (X : CallFix p m c cX3_remove 3 s args BG yX3_remove.cls) (hr : meth.sig.returnType = none) (hlk : meth.locks = false) (cn : Cn (wA ad n s.heap.size) s) (o : Nat) (ho : 6 ≤ o ∧ o < 10) (z pl : Nat) (hz : F o 6 = nI z) (hz20 : z ≤ 20) (hpl : pl < z) (hqj : ∀ x j, L o x = some j → j < n) :
    ∀ (d : Nat) (k : Nat), k + d + 1 = z → pl ≤ k → ∀ (H : Heap) (locs : List Loc), Wd D ca ad (wA ad n s.heap.size) s H locs (E, F, (upLf L o (rsF (L o) pl k)), S, n) → ∀ (ls : Array Slot), lv_has ls 3 [(2, .int (nI k)), (0, .ref (ad o)), (1, .int (nI pl))] →
      W p l e { frames := 0, cells := 0, slots := 0, locals := 0 } s m args below meth c H locs 0 0 (MQ below (Qv D ca ad n (fun u => u = (E, up2 F o 6 (nI (z - 1)), upLf L o (remF (L o) pl z), S, n)) s.heap.size) args s 0 0 (wA ad n s.heap.size)) (F0 m 27 ls []) := by
  intro d
  induction d with
  | zero =>
    intro k hkd hkz H locs w ls hl
    refine lv_iload_n X.1 X.2.1 dX3_remove_27 rfl (lv_at hl 0 rfl) ?_
    refine lv_aload_n X.1 X.2.1 dX3_remove_28 rfl (lv_at hl 1 rfl) ?_
    refine g_R X w ho 6 (by decide) (v := .int (F o 6)) rfl kw_99 dX3_remove_29 ?_
    refine lv_iconst (v := 1) X.1 X.2.1 dX3_remove_32 (by decide) ?_
    refine lv_isub X.1 X.2.1 dX3_remove_33 ?_
    refine lv_icmp_ge (tgt := 57) X.1 X.2.1 dX3_remove_34 (by decide) (fun c1 => ?_) (fun c1 => ?_)
    ·
      refine lv_aload_n X.1 X.2.1 dX3_remove_57 rfl (lv_at hl 1 rfl) ?_
      refine lv_dup X.1 X.2.1 dX3_remove_58 rfl ?_
      refine g_R X w ho 6 (by decide) (v := .int (F o 6)) rfl kw_99 dX3_remove_59 ?_
      refine lv_iconst (v := 1) X.1 X.2.1 dX3_remove_62 (by decide) ?_
      refine lv_isub X.1 X.2.1 dX3_remove_63 ?_
      refine p_R X w ho 6 (by decide) rfl (by decide +kernel) (v := ((F o 6) - 1)) kw_99 dX3_remove_64 (fun H locs w => ?_)
      obtain ⟨F2, eF2⟩ : ∃ G : Fm, G = up2 F o 6 ((F o 6) - 1) := ⟨_, rfl⟩
      rw [← eF2] at w
      refine lv_aload_n X.1 X.2.1 dX3_remove_67 rfl (lv_at hl 1 rfl) ?_
      refine g_R X w ho 5 (by decide) (v := .ref (ad (o + 4))) rfl kw_98 dX3_remove_68 ?_
      refine lv_aload_n X.1 X.2.1 dX3_remove_71 rfl (lv_at hl 1 rfl) ?_
      refine g_R X w ho 6 (by decide) (v := .int (F2 o 6)) rfl kw_99 dX3_remove_72 ?_
      refine lv_null X.1 X.2.1 dX3_remove_75 ?_
      refine st_L X w ho none (fun _ h => by cases h) (by rw [eF2, up2_s, hz, show (1 : Int32) = nI 1 from rfl, pk_sub (by omega)]; exact vp_in_nI (by omega) (by omega)) dX3_remove_76 (fun H locs w => ?_)
      obtain ⟨L3, eL3⟩ : ∃ G : Lm, G = upL (upLf L o (rsF (L o) pl k)) o ((F2 o 6)).toNatClampNeg none := ⟨_, rfl⟩
      rw [← eL3] at w
      exact w_vret X hr hlk w (by subst eL3; subst eF2; rw [up2_s, hz, show (1 : Int32) = nI 1 from rfl, pk_sub (by omega), cl_nI (by omega), upL_upLf]; rw [show k = z - 1 by omega]; rfl) dX3_remove_77 (Nat.le_of_ble_eq_true rfl) (Nat.le_of_ble_eq_true rfl)
    ·
      exact absurd (by rw [hz, show (1 : Int32) = nI 1 from rfl, pk_sub (by omega)]; exact nI_le (by omega) (by omega)) c1
  | succ d ih =>
    intro k hkd hkz H locs w ls hl
    have hM : ∀ x j, (upLf L o (rsF (L o) pl k)) o x = some j → j < n := fun x j h => by rw [upLf_s] at h; exact rsF_lt hqj x j h
    refine lv_iload_n X.1 X.2.1 dX3_remove_27 rfl (lv_at hl 0 rfl) ?_
    refine lv_aload_n X.1 X.2.1 dX3_remove_28 rfl (lv_at hl 1 rfl) ?_
    refine g_R X w ho 6 (by decide) (v := .int (F o 6)) rfl kw_99 dX3_remove_29 ?_
    refine lv_iconst (v := 1) X.1 X.2.1 dX3_remove_32 (by decide) ?_
    refine lv_isub X.1 X.2.1 dX3_remove_33 ?_
    refine lv_icmp_ge (tgt := 57) X.1 X.2.1 dX3_remove_34 (by decide) (fun c1 => ?_) (fun c1 => ?_)
    ·
      rw [hz, show (1 : Int32) = nI 1 from rfl, pk_sub (by omega)] at c1; exact absurd c1 (nI_ge (by omega) (by omega))
    ·
      refine lv_aload_n X.1 X.2.1 dX3_remove_37 rfl (lv_at hl 1 rfl) ?_
      refine g_R X w ho 5 (by decide) (v := .ref (ad (o + 4))) rfl kw_98 dX3_remove_38 ?_
      refine lv_iload_n X.1 X.2.1 dX3_remove_41 rfl (lv_at hl 0 rfl) ?_
      refine lv_aload_n X.1 X.2.1 dX3_remove_42 rfl (lv_at hl 1 rfl) ?_
      refine g_R X w ho 5 (by decide) (v := .ref (ad (o + 4))) rfl kw_98 dX3_remove_43 ?_
      refine lv_iload_n X.1 X.2.1 dX3_remove_46 rfl (lv_at hl 0 rfl) ?_
      refine lv_iconst (v := 1) X.1 X.2.1 dX3_remove_47 (by decide) ?_
      refine lv_iadd X.1 X.2.1 dX3_remove_48 ?_
      refine ld_L X w ho (by rw [nI_1]; exact vp_in_nI (by omega) (by omega)) dX3_remove_49 ?_
      refine st_L X w ho ((upLf L o (rsF (L o) pl k)) o (((nI k) + 1)).toNatClampNeg) (fun x h => (hM _ _ h)) (vp_in_nI (by omega) (by omega)) dX3_remove_50 (fun H locs w => ?_)
      obtain ⟨L2, eL2⟩ : ∃ G : Lm, G = upL (upLf L o (rsF (L o) pl k)) o ((nI k)).toNatClampNeg ((upLf L o (rsF (L o) pl k)) o (((nI k) + 1)).toNatClampNeg) := ⟨_, rfl⟩
      rw [← eL2] at w
      refine lv_iinc (v := (nI (k + 1))) (lv' := [(2, .int (nI (k + 1))), (0, .ref (ad o)), (1, .int (nI pl))]) X.1 X.2.1 dX3_remove_51 hl (k := 0) rfl (nI_1 k) (by decide) rfl (fun ls hl => ?_)
      refine lv_goto (tgt := 27) X.1 X.2.1 dX3_remove_54 (by decide) ?_
      have hL : L2 = (upLf L o (rsF (L o) pl (k + 1))) := by subst eL2; rw [nI_1, cl_nI (by omega), cl_nI (by omega), upL_upLf, upLf_s]; rw [rsF_step (by omega)]
      rw [hL] at w
      exact ih (k + 1) (by omega) (by omega) H locs w ls (lv_sub hl [0, 1, 2] rfl)

set_option maxHeartbeats 4000000 in
set_option maxRecDepth 100000 in
theorem c_X3_remove (l : Launch) (D : va_G) (ca : Nat → ClassId) (ad : Nat → Nat) (E : Em) (F : Fm) (L : Lm) (S : Sm) (n : Nat) (o : Nat) (ho : 6 ≤ o ∧ o < 10) (z pl : Nat) (hz : F o 6 = nI z) (hz20 : z ≤ 20) (hpl : pl < z) (hqj : ∀ x j, L o x = some j → j < n) (sz : Nat) : Met l yX3_remove (.code yX3_remove cX3_remove 3 none :: BG) { frames := 0, cells := 0, slots := 0, locals := 0 } (Pw D ca ad (E, F, L, S, n) sz [.ref (ad o), .int (nI pl)]) (Qv D ca ad n (fun u => u = (E, up2 F o 6 (nI (z - 1)), upLf L o (remF (L o) pl z), S, n)) sz) 0 0 (wA ad n sz) := by
  refine open_W (σ := (E, F, L, S, n)) (Qc := Qv D ca ad n (fun u => u = (E, up2 F o 6 (nI (z - 1)), upLf L o (remF (L o) pl z), S, n))) (by decide +kernel) (Nat.le_of_ble_eq_true rfl) ?_
  intro p e s m args below meth c X hr hlk w cn ls hl
  have hl : lv_has ls 3 [(0, .ref (ad o)), (1, .int (nI pl))] := hl
  refine lv_iload_n X.1 X.2.1 dX3_remove_0 rfl (lv_at hl 1 rfl) ?_
  refine lv_if_lt (tgt := 24) X.1 X.2.1 dX3_remove_1 (by decide) (fun c1 => ?_) (fun c1 => ?_)
  ·
    exact absurd c1 (nI_pos (by omega))
  ·
    refine lv_iload_n X.1 X.2.1 dX3_remove_4 rfl (lv_at hl 1 rfl) ?_
    refine lv_aload_n X.1 X.2.1 dX3_remove_5 rfl (lv_at hl 0 rfl) ?_
    refine g_R X w ho 6 (by decide) (v := .int (F o 6)) rfl kw_99 dX3_remove_6 ?_
    refine lv_icmp_ge (tgt := 24) X.1 X.2.1 dX3_remove_9 (by decide) (fun c2 => ?_) (fun c2 => ?_)
    ·
      rw [hz] at c2; exact absurd c2 (nI_ge (by omega) (by omega))
    ·
      refine lv_aload_n X.1 X.2.1 dX3_remove_12 rfl (lv_at hl 0 rfl) ?_
      refine g_R X w ho 6 (by decide) (v := .int (F o 6)) rfl kw_99 dX3_remove_13 ?_
      refine lv_aload_n X.1 X.2.1 dX3_remove_16 rfl (lv_at hl 0 rfl) ?_
      refine g_R X w ho 5 (by decide) (v := .ref (ad (o + 4))) rfl kw_98 dX3_remove_17 ?_
      refine len_L X w ho dX3_remove_20 ?_
      refine lv_icmp_le (tgt := 25) X.1 X.2.1 dX3_remove_21 (by decide) (fun c3 => ?_) (fun c3 => ?_)
      ·
        refine lv_iload_n X.1 X.2.1 dX3_remove_25 rfl (lv_at hl 1 rfl) ?_
        refine lv_istore_n (lv' := [(2, .int (nI pl)), (0, .ref (ad o)), (1, .int (nI pl))]) X.1 X.2.1 dX3_remove_26 rfl hl (by decide) rfl (fun ls hl => ?_)
        exact lp_X3_remove X hr hlk cn o ho z pl hz hz20 hpl hqj (z - 1 - pl) pl (by omega) (Nat.le_refl pl) _ _ (by rw [rsF_0, upLf_self]; exact w) ls (lv_sub hl [0, 1, 2] rfl)
      ·
        exact absurd (by rw [hz, show (20 : Int32) = nI 20 from rfl]; exact nI_le (by omega) (by omega)) c3

set_option maxHeartbeats 4000000 in
set_option maxRecDepth 100000 in
theorem lp_X3_placeOfLeastChange {p : Program} {l : Launch} {e : Env} {s : State} {m : MethodId} {args : Array Value} {below : List Frame} {meth : Method} {c : Code} {D : va_G} {ca : Nat → ClassId} {ad : Nat → Nat} {E : Em} {F : Fm} {L : Lm} {S : Sm} {n : Nat} (X : CallFix p m c cX3_placeOfLeastChange 8 s args BG yX3_placeOfLeastChange.cls) (hr : meth.sig.returnType = (some .int)) (hlk : meth.locks = false) (cn : Cn (wA ad n s.heap.size) s) (o : Nat) (ho : 6 ≤ o ∧ o < 10) (z : Nat) (hqo : F o 6 = nI z) (hq20 : z ≤ 20) (hqj : ∀ x j, L o x = some j → j < n) (i : Int32) (f0 : Int32) :
    ∀ (d : Nat) (k b : Nat) (lst : Int32), k + d = z → ∀ (H : Heap) (locs : List Loc), Wd D ca ad (wA ad n s.heap.size) s H locs (E, F, L, S, n) → ∀ (ls : Array Slot), lv_has ls 8 [(5, .int (nI k)), (4, .int lst), (3, .int (nI b)), (0, .ref (ad o)), (1, .int f0), (2, .int i)] →
      W p l e { frames := 2, cells := 0, slots := 0, locals := 41 } s m args below meth c H locs 0 0 (MQ below (Qi D ca ad n (fun r u => r = nI (s_plc F (L o) i d k b lst) ∧ u = (E, F, L, S, n)) s.heap.size) args s 0 0 (wA ad n s.heap.size)) (F0 m 9 ls []) := by
  intro d
  induction d with
  | zero =>
    intro k b lst hkd H locs w ls hl
    refine lv_iload X.1 X.2.1 dX3_placeOfLeastChange_9 (lv_at hl 0 rfl) ?_
    refine lv_aload_n X.1 X.2.1 dX3_placeOfLeastChange_11 rfl (lv_at hl 3 rfl) ?_
    refine g_R X w ho 6 (by decide) (v := .int (F o 6)) rfl kw_99 dX3_placeOfLeastChange_12 ?_
    refine lv_icmp_ge (tgt := 64) X.1 X.2.1 dX3_placeOfLeastChange_15 (by decide) (fun c1 => ?_) (fun c1 => ?_)
    ·
      refine lv_iload_n X.1 X.2.1 dX3_placeOfLeastChange_64 rfl (lv_at hl 2 rfl) ?_
      exact w_iret X hr hlk w (by  exact ⟨rfl, rfl⟩) dX3_placeOfLeastChange_65 rfl (Nat.le_of_ble_eq_true rfl) (Nat.le_of_ble_eq_true rfl)
    ·
      exact absurd (by rw [hqo]; exact (geN hkd hq20).mpr rfl) c1
  | succ d ih =>
    intro k b lst hkd H locs w ls hl
    refine lv_iload X.1 X.2.1 dX3_placeOfLeastChange_9 (lv_at hl 0 rfl) ?_
    refine lv_aload_n X.1 X.2.1 dX3_placeOfLeastChange_11 rfl (lv_at hl 3 rfl) ?_
    refine g_R X w ho 6 (by decide) (v := .int (F o 6)) rfl kw_99 dX3_placeOfLeastChange_12 ?_
    refine lv_icmp_ge (tgt := 64) X.1 X.2.1 dX3_placeOfLeastChange_15 (by decide) (fun c1 => ?_) (fun c1 => ?_)
    ·
      exact absurd ((geN hkd hq20).mp (by rw [← hqo]; exact c1)) (by omega)
    ·
      refine lv_aload_n X.1 X.2.1 dX3_placeOfLeastChange_18 rfl (lv_at hl 3 rfl) ?_
      refine lv_iload X.1 X.2.1 dX3_placeOfLeastChange_19 (lv_at hl 0 rfl) ?_
      refine w_callr cn w (w_runV (n := 1) (As := [.int (nI k)]) X cn w (lt17 (by have := ho; omega)) (wC_R (ho).1 (ho).2) rfl (fun sz => c_X3_jobAt l D ca ad E F L S n o ho (nI k) sz) (bg_V kw_586 kw_308 kw_8 kw_33 kw_309) rfl rfl (by decide +kernel) ⟨(Nat.le_of_ble_eq_true rfl), (Nat.le_of_ble_eq_true rfl)⟩ rfl hl.1 rfl (Nat.le_of_ble_eq_true rfl) dX3_placeOfLeastChange_21 ⟨(Nat.le_of_ble_eq_true rfl), (Nat.le_of_ble_eq_true rfl)⟩) (fun r2 u H locs hp w => ?_)
      obtain ⟨rfl, rfl⟩ := hp
      refine W.eq (g2 := F0 m 24 ls [va_rf ((L o k).map (fun j => ad (17 + j)))]) (by rw [jobAt_nI hqo hq20 (by omega)]) ?_
      obtain hj3n | ⟨j3, hj3s⟩ : (L o k) = none ∨ ∃ j, (L o k) = some j := opt_or _
      ·
        refine W.eq (g2 := F0 m 24 ls [.null]) (by simp only [hj3n]; rfl) ?_
        refine lv_astoreN (lv' := [(6, .null), (5, .int (nI k)), (4, .int lst), (3, .int (nI b)), (0, .ref (ad o)), (1, .int f0), (2, .int i)]) X.1 X.2.1 dX3_placeOfLeastChange_24 hl (by decide) rfl (fun ls hl => ?_)
        refine lv_aloadN X.1 X.2.1 dX3_placeOfLeastChange_26 (lv_at hl 0 rfl) ?_
        refine lv_ifnonnullN X.1 X.2.1 dX3_placeOfLeastChange_28 ?_
        refine lv_ldc (v := 2147483647) X.1 X.2.1 X.2.2.2.1 (X.2.2.2.2 _ kw_585) dX3_placeOfLeastChange_31 ?_
        refine lv_goto (tgt := 42) X.1 X.2.1 dX3_placeOfLeastChange_33 (by decide) ?_
        refine lv_istore (lv' := [(7, .int 2147483647), (6, .null), (5, .int (nI k)), (4, .int lst), (3, .int (nI b)), (0, .ref (ad o)), (1, .int f0), (2, .int i)]) X.1 X.2.1 dX3_placeOfLeastChange_42 hl (by decide) rfl (fun ls hl => ?_)
        refine lv_iload X.1 X.2.1 dX3_placeOfLeastChange_44 (lv_at hl 0 rfl) ?_
        refine lv_iload X.1 X.2.1 dX3_placeOfLeastChange_46 (lv_at hl 3 rfl) ?_
        refine lv_icmp_ge (tgt := 58) X.1 X.2.1 dX3_placeOfLeastChange_48 (by decide) (fun c4 => ?_) (fun c4 => ?_)
        ·
          refine lv_iinc (v := (nI (k + 1))) (lv' := [(5, .int (nI (k + 1))), (7, .int 2147483647), (6, .null), (4, .int lst), (3, .int (nI b)), (0, .ref (ad o)), (1, .int f0), (2, .int i)]) X.1 X.2.1 dX3_placeOfLeastChange_58 hl (k := 2) rfl (nI_1 k) (by decide) rfl (fun ls hl => ?_)
          refine lv_goto (tgt := 9) X.1 X.2.1 dX3_placeOfLeastChange_61 (by decide) ?_
          have hz : s_plc F (L o) i (d + 1) k b lst = s_plc F (L o) i d (k + 1) b lst := by  simp [s_plc, s_chOf, hj3n, c4]
          rw [hz]
          exact ih (k + 1) b lst (by omega) H locs w ls (lv_sub hl [0, 3, 4, 5, 6, 7] rfl)
        ·
          refine lv_iload X.1 X.2.1 dX3_placeOfLeastChange_51 (lv_at hl 2 rfl) ?_
          refine lv_istore_n (lv' := [(3, .int (nI k)), (7, .int 2147483647), (6, .null), (5, .int (nI k)), (4, .int lst), (0, .ref (ad o)), (1, .int f0), (2, .int i)]) X.1 X.2.1 dX3_placeOfLeastChange_53 rfl hl (by decide) rfl (fun ls hl => ?_)
          refine lv_iload X.1 X.2.1 dX3_placeOfLeastChange_54 (lv_at hl 1 rfl) ?_
          refine lv_istore (lv' := [(4, .int 2147483647), (3, .int (nI k)), (7, .int 2147483647), (6, .null), (5, .int (nI k)), (0, .ref (ad o)), (1, .int f0), (2, .int i)]) X.1 X.2.1 dX3_placeOfLeastChange_56 hl (by decide) rfl (fun ls hl => ?_)
          refine lv_iinc (v := (nI (k + 1))) (lv' := [(5, .int (nI (k + 1))), (4, .int 2147483647), (3, .int (nI k)), (7, .int 2147483647), (6, .null), (0, .ref (ad o)), (1, .int f0), (2, .int i)]) X.1 X.2.1 dX3_placeOfLeastChange_58 hl (k := 4) rfl (nI_1 k) (by decide) rfl (fun ls hl => ?_)
          refine lv_goto (tgt := 9) X.1 X.2.1 dX3_placeOfLeastChange_61 (by decide) ?_
          have hz : s_plc F (L o) i (d + 1) k b lst = s_plc F (L o) i d (k + 1) k 2147483647 := by  simp [s_plc, s_chOf, hj3n, c4]
          rw [hz]
          exact ih (k + 1) k 2147483647 (by omega) H locs w ls (lv_sub hl [0, 1, 2, 5, 6, 7] rfl)
      ·
        refine W.eq (g2 := F0 m 24 ls [.ref (ad (17 + j3))]) (by simp only [hj3s]; rfl) ?_
        refine lv_astore (lv' := [(6, .ref (ad (17 + j3))), (5, .int (nI k)), (4, .int lst), (3, .int (nI b)), (0, .ref (ad o)), (1, .int f0), (2, .int i)]) X.1 X.2.1 dX3_placeOfLeastChange_24 hl (by decide) rfl (fun ls hl => ?_)
        refine lv_aload X.1 X.2.1 dX3_placeOfLeastChange_26 (lv_at hl 0 rfl) ?_
        refine lv_ifnonnull (tgt := 36) X.1 X.2.1 dX3_placeOfLeastChange_28 (by decide) ?_
        refine lv_aload X.1 X.2.1 dX3_placeOfLeastChange_36 (lv_at hl 0 rfl) ?_
        refine lv_iload_n X.1 X.2.1 dX3_placeOfLeastChange_38 rfl (lv_at hl 6 rfl) ?_
        refine w_calli cn w (w_runSN (n := 2) (As := [.ref (ad (17 + j3)), .int i]) X cn w (fun sz => c_X4_changeOf l D ca ad E F L S n j3 (hqj _ _ hj3s) i sz) kw_587 kw_337 kw_31 kw_338 rfl rfl (by decide +kernel) ⟨(Nat.le_of_ble_eq_true rfl), (Nat.le_of_ble_eq_true rfl)⟩ rfl hl.1 rfl (Nat.le_of_ble_eq_true rfl) dX3_placeOfLeastChange_39 ⟨(Nat.le_of_ble_eq_true rfl), (Nat.le_of_ble_eq_true rfl)⟩) (fun r5 u H locs hp w => ?_)
        obtain ⟨rfl, rfl⟩ := hp
        refine lv_topi (fun x6 ex6 => ?_)
        refine lv_istore (lv' := [(7, .int x6), (6, .ref (ad (17 + j3))), (5, .int (nI k)), (4, .int lst), (3, .int (nI b)), (0, .ref (ad o)), (1, .int f0), (2, .int i)]) X.1 X.2.1 dX3_placeOfLeastChange_42 hl (by decide) rfl (fun ls hl => ?_)
        refine lv_iload X.1 X.2.1 dX3_placeOfLeastChange_44 (lv_at hl 0 rfl) ?_
        refine lv_iload X.1 X.2.1 dX3_placeOfLeastChange_46 (lv_at hl 3 rfl) ?_
        refine lv_icmp_ge (tgt := 58) X.1 X.2.1 dX3_placeOfLeastChange_48 (by decide) (fun c7 => ?_) (fun c7 => ?_)
        ·
          refine lv_iinc (v := (nI (k + 1))) (lv' := [(5, .int (nI (k + 1))), (7, .int x6), (6, .ref (ad (17 + j3))), (4, .int lst), (3, .int (nI b)), (0, .ref (ad o)), (1, .int f0), (2, .int i)]) X.1 X.2.1 dX3_placeOfLeastChange_58 hl (k := 2) rfl (nI_1 k) (by decide) rfl (fun ls hl => ?_)
          refine lv_goto (tgt := 9) X.1 X.2.1 dX3_placeOfLeastChange_61 (by decide) ?_
          have hz : s_plc F (L o) i (d + 1) k b lst = s_plc F (L o) i d (k + 1) b lst := by subst ex6; simp [s_plc, s_chOf, hj3s, c7]
          rw [hz]
          exact ih (k + 1) b lst (by omega) H locs w ls (lv_sub hl [0, 3, 4, 5, 6, 7] rfl)
        ·
          refine lv_iload X.1 X.2.1 dX3_placeOfLeastChange_51 (lv_at hl 2 rfl) ?_
          refine lv_istore_n (lv' := [(3, .int (nI k)), (7, .int x6), (6, .ref (ad (17 + j3))), (5, .int (nI k)), (4, .int lst), (0, .ref (ad o)), (1, .int f0), (2, .int i)]) X.1 X.2.1 dX3_placeOfLeastChange_53 rfl hl (by decide) rfl (fun ls hl => ?_)
          refine lv_iload X.1 X.2.1 dX3_placeOfLeastChange_54 (lv_at hl 1 rfl) ?_
          refine lv_istore (lv' := [(4, .int x6), (3, .int (nI k)), (7, .int x6), (6, .ref (ad (17 + j3))), (5, .int (nI k)), (0, .ref (ad o)), (1, .int f0), (2, .int i)]) X.1 X.2.1 dX3_placeOfLeastChange_56 hl (by decide) rfl (fun ls hl => ?_)
          refine lv_iinc (v := (nI (k + 1))) (lv' := [(5, .int (nI (k + 1))), (4, .int x6), (3, .int (nI k)), (7, .int x6), (6, .ref (ad (17 + j3))), (0, .ref (ad o)), (1, .int f0), (2, .int i)]) X.1 X.2.1 dX3_placeOfLeastChange_58 hl (k := 4) rfl (nI_1 k) (by decide) rfl (fun ls hl => ?_)
          refine lv_goto (tgt := 9) X.1 X.2.1 dX3_placeOfLeastChange_61 (by decide) ?_
          have hz : s_plc F (L o) i (d + 1) k b lst = s_plc F (L o) i d (k + 1) k x6 := by subst ex6; simp [s_plc, s_chOf, hj3s, c7]
          rw [hz]
          exact ih (k + 1) k x6 (by omega) H locs w ls (lv_sub hl [0, 1, 2, 5, 6, 7] rfl)

set_option maxHeartbeats 4000000 in
set_option maxRecDepth 100000 in
theorem c_X3_placeOfLeastChange (l : Launch) (D : va_G) (ca : Nat → ClassId) (ad : Nat → Nat) (E : Em) (F : Fm) (L : Lm) (S : Sm) (n : Nat) (o : Nat) (ho : 6 ≤ o ∧ o < 10) (z : Nat) (hqo : F o 6 = nI z) (hq20 : z ≤ 20) (hqj : ∀ x j, L o x = some j → j < n) (i : Int32) (k : Nat) (hk : k ≤ z) (sz : Nat) : Met l yX3_placeOfLeastChange (.code yX3_placeOfLeastChange cX3_placeOfLeastChange 8 (some .int) :: BG) { frames := 2, cells := 0, slots := 0, locals := 41 } (Pw D ca ad (E, F, L, S, n) sz [.ref (ad o), .int (nI k), .int i]) (Qi D ca ad n (fun r u => r = nI (s_plc F (L o) i (z - k) k k 2147483647) ∧ u = (E, F, L, S, n)) sz) 0 0 (wA ad n sz) := by
  refine open_W (σ := (E, F, L, S, n)) (Qc := Qi D ca ad n (fun r u => r = nI (s_plc F (L o) i (z - k) k k 2147483647) ∧ u = (E, F, L, S, n))) (by decide +kernel) (Nat.le_of_ble_eq_true rfl) ?_
  intro p e s m args below meth c X hr hlk w cn ls hl
  have hl : lv_has ls 8 [(0, .ref (ad o)), (1, .int (nI k)), (2, .int i)] := hl
  refine lv_iload_n X.1 X.2.1 dX3_placeOfLeastChange_0 rfl (lv_at hl 1 rfl) ?_
  refine lv_istore_n (lv' := [(3, .int (nI k)), (0, .ref (ad o)), (1, .int (nI k)), (2, .int i)]) X.1 X.2.1 dX3_placeOfLeastChange_1 rfl hl (by decide) rfl (fun ls hl => ?_)
  refine lv_ldc (v := 2147483647) X.1 X.2.1 X.2.2.2.1 (X.2.2.2.2 _ kw_585) dX3_placeOfLeastChange_2 ?_
  refine lv_istore (lv' := [(4, .int 2147483647), (3, .int (nI k)), (0, .ref (ad o)), (1, .int (nI k)), (2, .int i)]) X.1 X.2.1 dX3_placeOfLeastChange_4 hl (by decide) rfl (fun ls hl => ?_)
  refine lv_iload_n X.1 X.2.1 dX3_placeOfLeastChange_6 rfl (lv_at hl 3 rfl) ?_
  refine lv_istore (lv' := [(5, .int (nI k)), (4, .int 2147483647), (3, .int (nI k)), (0, .ref (ad o)), (1, .int (nI k)), (2, .int i)]) X.1 X.2.1 dX3_placeOfLeastChange_7 hl (by decide) rfl (fun ls hl => ?_)
  exact lp_X3_placeOfLeastChange X hr hlk cn o ho z hqo hq20 hqj i (nI k) (z - k) k k 2147483647 (by omega) _ _ w ls (lv_sub hl [0, 1, 2, 3, 4, 5] rfl)

theorem upLf_upLf {L : Lm} {o : Nat} {f g : Nat → Option Nat} : upLf (upLf L o f) o g = upLf L o g := by
  funext a
  by_cases h : a = o <;> simp [upLf, h]
theorem up2_up2 {F : Fm} {o k : Nat} {v x : Int32} : up2 (up2 F o k v) o k x = up2 F o k x := by
  funext a b
  by_cases h : a = o <;> by_cases h2 : b = k <;> simp [up2, h, h2]
theorem up2_self {F : Fm} {o k : Nat} : up2 F o k (F o k) = F := by
  funext a b
  by_cases h : a = o
  · subst h
    by_cases h2 : b = k
    · subst h2; simp [up2]
    · simp [up2, h2]
  · simp [up2, h]

set_option maxHeartbeats 4000000 in
set_option maxRecDepth 100000 in
theorem lp_X3_bringLeastChangeAhead {p : Program} {l : Launch} {e : Env} {s : State} {m : MethodId} {args : Array Value} {below : List Frame} {meth : Method} {c : Code} {D : va_G} {ca : Nat → ClassId} {ad : Nat → Nat} {E : Em} {F : Fm} {L : Lm} {S : Sm} {n : Nat} (X : CallFix p m c cX3_bringLeastChangeAhead 6 s args BG yX3_bringLeastChangeAhead.cls) (hr : meth.sig.returnType = none) (hlk : meth.locks = false) (cn : Cn (wA ad n s.heap.size) s) (o : Nat) (ho : 6 ≤ o ∧ o < 10) (z : Nat) (hqo : F o 6 = nI z) (hq20 : z ≤ 20) :
    ∀ (d : Nat) (k : Nat) (f : Nat → Option Nat) (i : Int32), k + d = z → (∀ x j, f x = some j → j < n) → ∀ (H : Heap) (locs : List Loc), Wd D ca ad (wA ad n s.heap.size) s H locs (E, F, (upLf L o f), S, n) → ∀ (ls : Array Slot), lv_has ls 6 [(3, .int (nI k)), (2, .int (nI z)), (1, .int i), (0, .ref (ad o))] →
      W p l e { frames := 3, cells := 0, slots := 0, locals := 68 } s m args below meth c H locs 0 0 (MQ below (Qv D ca ad n (fun u => u = (E, F, upLf L o (s_brg F z d k f i), S, n)) s.heap.size) args s 0 0 (wA ad n s.heap.size)) (F0 m 12 ls []) := by
  intro d
  induction d with
  | zero =>
    intro k f i hkd hf H locs w ls hl
    refine lv_iload_n X.1 X.2.1 dX3_bringLeastChangeAhead_12 rfl (lv_at hl 0 rfl) ?_
    refine lv_iload_n X.1 X.2.1 dX3_bringLeastChangeAhead_13 rfl (lv_at hl 1 rfl) ?_
    refine lv_icmp_ge (tgt := 63) X.1 X.2.1 dX3_bringLeastChangeAhead_14 (by decide) (fun c1 => ?_) (fun c1 => ?_)
    ·
      exact w_vret X hr hlk w (by  exact rfl) dX3_bringLeastChangeAhead_63 (Nat.le_of_ble_eq_true rfl) (Nat.le_of_ble_eq_true rfl)
    ·
      exact absurd ((geN hkd hq20).mpr rfl) c1
  | succ d ih =>
    intro k f i hkd hf H locs w ls hl
    have hM : ∀ x j, (upLf L o f) o x = some j → j < n := fun x j h => by rw [upLf_s] at h; exact hf x j h
    refine lv_iload_n X.1 X.2.1 dX3_bringLeastChangeAhead_12 rfl (lv_at hl 0 rfl) ?_
    refine lv_iload_n X.1 X.2.1 dX3_bringLeastChangeAhead_13 rfl (lv_at hl 1 rfl) ?_
    refine lv_icmp_ge (tgt := 63) X.1 X.2.1 dX3_bringLeastChangeAhead_14 (by decide) (fun c1 => ?_) (fun c1 => ?_)
    ·
      exact absurd ((geN hkd hq20).mp c1) (by omega)
    ·
      refine lv_aload_n X.1 X.2.1 dX3_bringLeastChangeAhead_17 rfl (lv_at hl 3 rfl) ?_
      refine lv_iload_n X.1 X.2.1 dX3_bringLeastChangeAhead_18 rfl (lv_at hl 0 rfl) ?_
      refine lv_iload_n X.1 X.2.1 dX3_bringLeastChangeAhead_19 rfl (lv_at hl 2 rfl) ?_
      refine w_calli cn w (w_runV (n := 2) (As := [.int (nI k), .int i]) X cn w (lt17 (by have := ho; omega)) (wC_R (ho).1 (ho).2) rfl (fun sz => c_X3_placeOfLeastChange l D ca ad E F (upLf L o f) S n o ho z hqo hq20 hM i k (by omega) sz) (bg_V kw_581 kw_583 kw_26 kw_33 kw_584) rfl rfl (by decide +kernel) ⟨(Nat.le_of_ble_eq_true rfl), (Nat.le_of_ble_eq_true rfl)⟩ rfl hl.1 rfl (Nat.le_of_ble_eq_true rfl) dX3_bringLeastChangeAhead_20 ⟨(Nat.le_of_ble_eq_true rfl), (Nat.le_of_ble_eq_true rfl)⟩) (fun r2 u H locs hp w => ?_)
      obtain ⟨rfl, rfl⟩ := hp
      rw [upLf_s]
      obtain ⟨pl, epl⟩ : ∃ y : Nat, y = s_plc F f i (z - k) k k 2147483647 := ⟨_, rfl⟩
      rw [← epl]
      have hpl : k ≤ pl ∧ pl < z := by rw [epl]; exact s_plc_in F f i k z (z - k) k k _ (by omega) (by omega) (by omega)
      refine lv_istore (lv' := [(4, .int (nI pl)), (3, .int (nI k)), (2, .int (nI z)), (1, .int i), (0, .ref (ad o))]) X.1 X.2.1 dX3_bringLeastChangeAhead_23 hl (by decide) rfl (fun ls hl => ?_)
      refine lv_aload_n X.1 X.2.1 dX3_bringLeastChangeAhead_25 rfl (lv_at hl 4 rfl) ?_
      refine lv_iload X.1 X.2.1 dX3_bringLeastChangeAhead_26 (lv_at hl 0 rfl) ?_
      refine w_callr cn w (w_runV (n := 1) (As := [.int (nI pl)]) X cn w (lt17 (by have := ho; omega)) (wC_R (ho).1 (ho).2) rfl (fun sz => c_X3_jobAt l D ca ad E F (upLf L o f) S n o ho (nI pl) sz) (bg_V kw_586 kw_308 kw_8 kw_33 kw_309) rfl rfl (by decide +kernel) ⟨(Nat.le_of_ble_eq_true rfl), (Nat.le_of_ble_eq_true rfl)⟩ rfl hl.1 rfl (Nat.le_of_ble_eq_true rfl) dX3_bringLeastChangeAhead_28 ⟨(Nat.le_of_ble_eq_true rfl), (Nat.le_of_ble_eq_true rfl)⟩) (fun r3 u H locs hp w => ?_)
      obtain ⟨rfl, rfl⟩ := hp
      refine W.eq (g2 := F0 m 31 ls [va_rf ((f pl).map (fun j => ad (17 + j)))]) (by rw [jobAt_nI hqo hq20 hpl.2, upLf_s]) ?_
      obtain hj4n | ⟨j4, hj4s⟩ : (f pl) = none ∨ ∃ j, (f pl) = some j := opt_or _
      ·
        refine W.eq (g2 := F0 m 31 ls [.null]) (by simp only [hj4n]; rfl) ?_
        refine lv_astoreN (lv' := [(5, .null), (4, .int (nI pl)), (3, .int (nI k)), (2, .int (nI z)), (1, .int i), (0, .ref (ad o))]) X.1 X.2.1 dX3_bringLeastChangeAhead_31 hl (by decide) rfl (fun ls hl => ?_)
        refine lv_aloadN X.1 X.2.1 dX3_bringLeastChangeAhead_33 (lv_at hl 0 rfl) ?_
        refine lv_ifnullN (tgt := 57) X.1 X.2.1 dX3_bringLeastChangeAhead_35 (by decide) ?_
        refine lv_iinc (v := (nI (k + 1))) (lv' := [(3, .int (nI (k + 1))), (5, .null), (4, .int (nI pl)), (2, .int (nI z)), (1, .int i), (0, .ref (ad o))]) X.1 X.2.1 dX3_bringLeastChangeAhead_57 hl (k := 2) rfl (nI_1 k) (by decide) rfl (fun ls hl => ?_)
        refine lv_goto (tgt := 12) X.1 X.2.1 dX3_bringLeastChangeAhead_60 (by decide) ?_
        have hz : s_brg F z (d + 1) k f i = s_brg F z d (k + 1) f i := by  rw [s_brg, ← epl]; simp [hj4n]
        rw [hz]
        exact ih (k + 1) f i (by omega) hf H locs w ls (lv_sub hl [0, 3, 4, 5] rfl)
      ·
        refine W.eq (g2 := F0 m 31 ls [.ref (ad (17 + j4))]) (by simp only [hj4s]; rfl) ?_
        refine lv_astore (lv' := [(5, .ref (ad (17 + j4))), (4, .int (nI pl)), (3, .int (nI k)), (2, .int (nI z)), (1, .int i), (0, .ref (ad o))]) X.1 X.2.1 dX3_bringLeastChangeAhead_31 hl (by decide) rfl (fun ls hl => ?_)
        refine lv_aload X.1 X.2.1 dX3_bringLeastChangeAhead_33 (lv_at hl 0 rfl) ?_
        refine lv_ifnull X.1 X.2.1 dX3_bringLeastChangeAhead_35 ?_
        refine lv_aload_n X.1 X.2.1 dX3_bringLeastChangeAhead_38 rfl (lv_at hl 5 rfl) ?_
        refine lv_iload X.1 X.2.1 dX3_bringLeastChangeAhead_39 (lv_at hl 1 rfl) ?_
        refine w_callv cn w (w_runV (n := 1) (As := [.int (nI pl)]) X cn w (lt17 (by have := ho; omega)) (wC_R (ho).1 (ho).2) rfl (fun sz => c_X3_remove l D ca ad E F (upLf L o f) S n o ho z pl hqo hq20 hpl.2 hM sz) (bg_V kw_588 kw_590 kw_27 kw_33 kw_591) rfl rfl (by decide +kernel) ⟨(Nat.le_of_ble_eq_true rfl), (Nat.le_of_ble_eq_true rfl)⟩ rfl hl.1 rfl (Nat.le_of_ble_eq_true rfl) dX3_bringLeastChangeAhead_41 ⟨(Nat.le_of_ble_eq_true rfl), (Nat.le_of_ble_eq_true rfl)⟩) (fun u H locs hp w => ?_)
        subst hp
        rw [upLf_s, upLf_upLf] at w
        refine lv_aload_n X.1 X.2.1 dX3_bringLeastChangeAhead_44 rfl (lv_at hl 5 rfl) ?_
        refine lv_aload X.1 X.2.1 dX3_bringLeastChangeAhead_45 (lv_at hl 0 rfl) ?_
        refine lv_iload_n X.1 X.2.1 dX3_bringLeastChangeAhead_47 rfl (lv_at hl 2 rfl) ?_
        refine w_callv cn w (w_runV (n := 2) (As := [.ref (ad (17 + j4)), .int (nI k)]) X cn w (lt17 (by have := ho; omega)) (wC_R (ho).1 (ho).2) rfl (fun sz => c_X3_insert l D ca ad E (up2 F o 6 (nI (z - 1))) (upLf L o (remF f pl z)) S n o ho j4 (hf _ _ hj4s) (z - 1) k up2_s (by omega) (by omega) (fun x j h => by rw [upLf_s] at h; exact remF_lt hf x j h) sz) (bg_V kw_592 kw_534 kw_22 kw_33 kw_535) rfl rfl (by decide +kernel) ⟨(Nat.le_of_ble_eq_true rfl), (Nat.le_of_ble_eq_true rfl)⟩ rfl hl.1 rfl (Nat.le_of_ble_eq_true rfl) dX3_bringLeastChangeAhead_48 ⟨(Nat.le_of_ble_eq_true rfl), (Nat.le_of_ble_eq_true rfl)⟩) (fun u H locs hp w => ?_)
        subst hp
        rw [upLf_s, upLf_upLf, up2_up2, show z - 1 + 1 = z by omega, ← hqo, up2_self] at w
        refine lv_aload X.1 X.2.1 dX3_bringLeastChangeAhead_51 (lv_at hl 0 rfl) ?_
        refine gn_J X cn w (hf _ _ hj4s) 4 (by decide) (v := .int (F (17 + j4) 4)) rfl kw_472 dX3_bringLeastChangeAhead_53 ?_
        refine lv_topi (fun x5 ex5 => ?_)
        refine lv_istore_n (lv' := [(1, .int x5), (5, .ref (ad (17 + j4))), (4, .int (nI pl)), (3, .int (nI k)), (2, .int (nI z)), (0, .ref (ad o))]) X.1 X.2.1 dX3_bringLeastChangeAhead_56 rfl hl (by decide) rfl (fun ls hl => ?_)
        refine lv_iinc (v := (nI (k + 1))) (lv' := [(3, .int (nI (k + 1))), (1, .int x5), (5, .ref (ad (17 + j4))), (4, .int (nI pl)), (2, .int (nI z)), (0, .ref (ad o))]) X.1 X.2.1 dX3_bringLeastChangeAhead_57 hl (k := 3) rfl (nI_1 k) (by decide) rfl (fun ls hl => ?_)
        refine lv_goto (tgt := 12) X.1 X.2.1 dX3_bringLeastChangeAhead_60 (by decide) ?_
        have hz : s_brg F z (d + 1) k f i = s_brg F z d (k + 1) (insF (remF f pl z) k j4 (z - 1)) x5 := by subst ex5; rw [s_brg, ← epl]; simp [hj4s]
        rw [hz]
        exact ih (k + 1) (insF (remF f pl z) k j4 (z - 1)) x5 (by omega) (insF_lt (hf _ _ hj4s) (remF_lt hf)) H locs w ls (lv_sub hl [0, 4, 1, 5] rfl)

set_option maxHeartbeats 4000000 in
set_option maxRecDepth 100000 in
theorem c_X3_bringLeastChangeAhead (l : Launch) (D : va_G) (ca : Nat → ClassId) (ad : Nat → Nat) (E : Em) (F : Fm) (L : Lm) (S : Sm) (n : Nat) (o : Nat) (ho : 6 ≤ o ∧ o < 10) (z : Nat) (hqo : F o 6 = nI z) (hq20 : z ≤ 20) (hqj : ∀ x j, L o x = some j → j < n) (sz : Nat) : Met l yX3_bringLeastChangeAhead (.code yX3_bringLeastChangeAhead cX3_bringLeastChangeAhead 6 none :: BG) { frames := 3, cells := 0, slots := 0, locals := 68 } (Pw D ca ad (E, F, L, S, n) sz [.ref (ad o)]) (Qv D ca ad n (fun u => u = (E, F, upLf L o (s_brg F z z 0 (L o) (F o 1)), S, n)) sz) 0 0 (wA ad n sz) := by
  refine open_W (σ := (E, F, L, S, n)) (Qc := Qv D ca ad n (fun u => u = (E, F, upLf L o (s_brg F z z 0 (L o) (F o 1)), S, n))) (by decide +kernel) (Nat.le_of_ble_eq_true rfl) ?_
  intro p e s m args below meth c X hr hlk w cn ls hl
  have hl : lv_has ls 6 [(0, .ref (ad o))] := hl
  refine lv_aload_n X.1 X.2.1 dX3_bringLeastChangeAhead_0 rfl (lv_at hl 0 rfl) ?_
  refine g_R X w ho 1 (by decide) (v := .int (F o 1)) rfl kw_90 dX3_bringLeastChangeAhead_1 ?_
  refine lv_topi (fun x1 ex1 => ?_)
  refine lv_istore_n (lv' := [(1, .int x1), (0, .ref (ad o))]) X.1 X.2.1 dX3_bringLeastChangeAhead_4 rfl hl (by decide) rfl (fun ls hl => ?_)
  refine lv_aload_n X.1 X.2.1 dX3_bringLeastChangeAhead_5 rfl (lv_at hl 1 rfl) ?_
  refine g_R X w ho 6 (by decide) (v := .int (F o 6)) rfl kw_99 dX3_bringLeastChangeAhead_6 ?_
  refine lv_topi (fun x2 ex2 => ?_)
  refine lv_istore_n (lv' := [(2, .int x2), (1, .int x1), (0, .ref (ad o))]) X.1 X.2.1 dX3_bringLeastChangeAhead_9 rfl hl (by decide) rfl (fun ls hl => ?_)
  refine lv_iconst (v := 0) X.1 X.2.1 dX3_bringLeastChangeAhead_10 (by decide) ?_
  refine lv_istore_n (lv' := [(3, .int 0), (2, .int x2), (1, .int x1), (0, .ref (ad o))]) X.1 X.2.1 dX3_bringLeastChangeAhead_11 rfl hl (by decide) rfl (fun ls hl => ?_)
  subst ex2; subst ex1;
  rw [hqo] at hl
  exact lp_X3_bringLeastChangeAhead X hr hlk cn o ho z hqo hq20 z 0 (L o) (F o 1) (by omega) hqj _ _ (by rw [upLf_self]; exact w) ls (lv_sub hl [0, 1, 2, 3] rfl)

def s_lay (F : Fm) (S : Sm) (j : Nat) (a b : Int32) : Fm :=
  let st := s_holds F (2 + S j) a b
  let ac := s_holds F (2 + S j) b a
  let tu : Int32 := if ac ≤ st then 0 else 1
  let li := if ac ≤ st then st else ac
  up2 (up2 (up2 F (17 + j) 6 tu) (17 + j) 5 li) (17 + j) 7 (F (2 + S j) 0 * F (2 + S j) 1 - li * a * b)
