/-- what the law asks of a press -/
def jp_ok (F : Fm) (L : Lm) (S : Sm) (q : Nat → Nat) (r : Int32) : Prop :=
  ¬ s_ofPress F L q (6 + r.toNatClampNeg) 2 < 1 ∧ s_ofPress F L q (6 + r.toNatClampNeg) 2 ≤ 999 ∧ ¬ s_ofPress F L q (6 + r.toNatClampNeg) 3 < 1 ∧ s_ofPress F L q (6 + r.toNatClampNeg) 3 ≤ 999 ∧
  ¬ s_ofPress F L q (6 + r.toNatClampNeg) 0 < 1 ∧ ¬ 4 < s_ofPress F L q (6 + r.toNatClampNeg) 0 ∧ ¬ s_ofPress F L q (6 + r.toNatClampNeg) 4 < 0 ∧ ¬ 999 < s_ofPress F L q (6 + r.toNatClampNeg) 4 ∧
  (s_ofPress F L q (6 + r.toNatClampNeg) 5 = 0 ↔ s_ofPress F L q (6 + r.toNatClampNeg) 6 = 0) ∧ (s_ofPress F L q (6 + r.toNatClampNeg) 5 ≤ 0 ∨ s_expected F S (s_queue F L (6 + r.toNatClampNeg) 0).toNatClampNeg (6 + r.toNatClampNeg) 4 ≤ s_ofPress F L q (6 + r.toNatClampNeg) 6)
def jp_all (F : Fm) (L : Lm) (S : Sm) (n : Nat) (q : Nat → Nat) : Prop := (∀ r : Int32, erI 3 r = 0 → jp_ok F L S q r) ∧
  0 + s_ofPress F L q (6 + (0 : Int32).toNatClampNeg) 5 + s_ofPress F L q (6 + (1 : Int32).toNatClampNeg) 5 + s_ofPress F L q (6 + (2 : Int32).toNatClampNeg) 5 = s_many F n 2 ∧ ¬ s_many F n 9 < s_many F n 3 + s_many F n 4 ∧ ¬ s_many F n 10 < 0
theorem ofPress_5 {F : Fm} {L : Lm} {q : Nat → Nat} {o : Nat} : s_ofPress F L q o 5 = F o 6 := by
  unfold s_ofPress
  rw [if_neg (by decide), if_neg (by decide), if_neg (by decide), if_neg (by decide), if_neg (by decide), if_pos (by decide)]
theorem Lf.first {F : Fm} {L : Lm} {S : Sm} {n : Nat} {q : Nat → Nat} (h : Lf F L S n q) {r : Int32} (h3 : erI 3 r = 0) (h5 : ¬ s_ofPress F L q (6 + r.toNatClampNeg) 5 ≤ 0) : er_queue F L r 0 = 0 := by
  have ho := prs_in (in_erI h3)
  obtain ⟨hqo, hq20, hqj⟩ := h.1.2.2.2 _ ho
  rw [ofPress_5, hqo] at h5
  have hq : 0 < q (6 + r.toNatClampNeg) := by
    rcases Nat.eq_zero_or_pos (q (6 + r.toNatClampNeg)) with h0 | h0
    · rw [h0] at h5; exact absurd (Int32.le_refl _) h5
    · exact h0
  exact queue_ok (k := 0) h3 hqo hq20 hq (h.2.1 _ ho 0 hq)

set_option maxHeartbeats 4000000 in
set_option maxRecDepth 100000 in
theorem sg_press {p : Program} {l : Launch} {e : Env} {s : State} {m : MethodId} {args : Array Value} {below : List Frame} {meth : Method} {c : Code} {D : va_G} {ca : Nat → ClassId} {ad : Nat → Nat} {E : Em} {F : Fm} {L : Lm} {S : Sm} {n : Nat} {A : Nat → Prop} {Q : State → Prop} (X : CallFix p m c cL_arePressesRight 4 s args BG yL_arePressesRight.cls) (cn : Cn A s) (hlt : l.stackTraces = false) (q : Nat → Nat) (hlf : Lf F L S n q) (r : Int32) (h3 : erI 3 r = 0) (hjp : jp_ok F L S q r) (a : Int32) (H : Heap) (locs : List Loc) (w : Wd D ca ad A s H locs (E, F, L, S, n)) (ls : Array Slot) (hl : lv_has ls 4 [(2, .int r), (1, .int a), (0, .ref (ad 0))])
    (kk : ∀ (E1 : Em) (H1 : Heap) (locs1 : List Loc) (ls1 : Array Slot), Wd D ca ad A s H1 locs1 (E1, F, L, S, n) → lv_has ls1 4 [(2, .int r), (1, .int (a + s_ofPress F L q (6 + r.toNatClampNeg) 5)), (0, .ref (ad 0))] → W p l e { frames := 9, cells := 0, slots := 0, locals := 300 } s m args below meth c H1 locs1 0 0 Q (F0 m 163 ls1 [])) :
    W p l e { frames := 9, cells := 0, slots := 0, locals := 300 } s m args below meth c H locs 0 0 Q (F0 m 9 ls []) := by
  have wf := hlf.1
  have hs := wf.2.2.1
  have hJ := wf.2.1.2
  refine lv_iload_n X.1 X.2.1 dL_arePressesRight_9 rfl (lv_at hl 1 rfl) ?_
  refine lv_aload_n X.1 X.2.1 dL_arePressesRight_10 rfl (lv_at hl 2 rfl) ?_
  refine lv_iload_n X.1 X.2.1 dL_arePressesRight_11 rfl (lv_at hl 0 rfl) ?_
  refine lv_iconst (v := 5) X.1 X.2.1 dL_arePressesRight_12 (by decide) ?_
  have h2 : (er_ofPress r (5 : Int32)) = 0 := (by rw [er_ofPress, if_pos h3]; decide)
  refine w_calli cn w (w_runV (n := 2) (As := [.int r, .int 5]) X cn w (lt17 (by decide)) wC_0 rfl (fun sz => met_of (c_X4_ofPress l D ca ad E F L S n hlt q wf r (5 : Int32) 0 0 (fun h => (h h2).elim) sz) h2) (bg_V kw_537 kw_358 kw_359 kw_31 kw_360) rfl rfl (by decide +kernel) ⟨(Nat.le_of_ble_eq_true rfl), (Nat.le_of_ble_eq_true rfl)⟩ rfl hl.1 rfl (Nat.le_of_ble_eq_true rfl) dL_arePressesRight_13 ⟨(Nat.le_of_ble_eq_true rfl), (Nat.le_of_ble_eq_true rfl)⟩) (fun r1 u H locs hp w => ?_)
  obtain ⟨E3, q4⟩ := u
  obtain ⟨-, rfl, h5⟩ := hp
  have h5 : q4 = (F, L, S, n) := h5
  subst h5
  refine lv_iadd X.1 X.2.1 dL_arePressesRight_16 ?_
  refine lv_topi (fun x6 ex6 => ?_)
  refine lv_istore_n (lv' := [(1, .int x6), (2, .int r), (0, .ref (ad 0))]) X.1 X.2.1 dL_arePressesRight_17 rfl hl (by decide) rfl (fun ls hl => ?_)
  refine lv_iconst (v := 2) X.1 X.2.1 dL_arePressesRight_18 (by decide) ?_
  refine lv_istore_n (lv' := [(3, .int 2), (1, .int x6), (2, .int r), (0, .ref (ad 0))]) X.1 X.2.1 dL_arePressesRight_19 rfl hl (by decide) rfl (fun ls hl => ?_)
  refine lv_iload_n X.1 X.2.1 dL_arePressesRight_20 rfl (lv_at hl 0 rfl) ?_
  refine lv_iconst (v := 4) X.1 X.2.1 dL_arePressesRight_21 (by decide) ?_
  refine lv_icmp_ge (tgt := 55) X.1 X.2.1 dL_arePressesRight_22 (by decide) (fun c7 => ?_) (fun c7 => ?_)
  ·
    exact absurd c7 (by decide)
  ·
    refine lv_aload_n X.1 X.2.1 dL_arePressesRight_25 rfl (lv_at hl 3 rfl) ?_
    refine lv_iload_n X.1 X.2.1 dL_arePressesRight_26 rfl (lv_at hl 2 rfl) ?_
    refine lv_iload_n X.1 X.2.1 dL_arePressesRight_27 rfl (lv_at hl 0 rfl) ?_
    have h9 : (er_ofPress r (2 : Int32)) = 0 := (by rw [er_ofPress, if_pos h3]; decide)
    refine w_calli cn w (w_runV (n := 2) (As := [.int r, .int 2]) X cn w (lt17 (by decide)) wC_0 rfl (fun sz => met_of (c_X4_ofPress l D ca ad E3 F L S n hlt q wf r (2 : Int32) 0 0 (fun h => (h h9).elim) sz) h9) (bg_V kw_537 kw_358 kw_359 kw_31 kw_360) rfl rfl (by decide +kernel) ⟨(Nat.le_of_ble_eq_true rfl), (Nat.le_of_ble_eq_true rfl)⟩ rfl hl.1 rfl (Nat.le_of_ble_eq_true rfl) dL_arePressesRight_28 ⟨(Nat.le_of_ble_eq_true rfl), (Nat.le_of_ble_eq_true rfl)⟩) (fun r8 u H locs hp w => ?_)
    obtain ⟨E10, q11⟩ := u
    obtain ⟨-, rfl, h12⟩ := hp
    have h12 : q11 = (F, L, S, n) := h12
    subst h12
    refine lv_iconst (v := 1) X.1 X.2.1 dL_arePressesRight_31 (by decide) ?_
    refine lv_icmp_lt (tgt := 47) X.1 X.2.1 dL_arePressesRight_32 (by decide) (fun c13 => ?_) (fun c13 => ?_)
    ·
      obtain ⟨g1, g2, g3, g4, g5, g6, g7, g8, g9, g10⟩ := hjp
      first | exact absurd c13 g1 | exact absurd g2 c13 | exact absurd c13 g3 | exact absurd g4 c13 | exact absurd c13 g5 | exact absurd c13 g6 | exact absurd c13 g7 | exact absurd c13 g8 | exact absurd (g9.mp c13) c7 | exact absurd (g9.mpr c7) c13 | exact absurd (g10.resolve_left c7) c13
    ·
      refine lv_aload_n X.1 X.2.1 dL_arePressesRight_35 rfl (lv_at hl 3 rfl) ?_
      refine lv_iload_n X.1 X.2.1 dL_arePressesRight_36 rfl (lv_at hl 2 rfl) ?_
      refine lv_iload_n X.1 X.2.1 dL_arePressesRight_37 rfl (lv_at hl 0 rfl) ?_
      have h15 : (er_ofPress r (2 : Int32)) = 0 := (by rw [er_ofPress, if_pos h3]; decide)
      refine w_calli cn w (w_runV (n := 2) (As := [.int r, .int 2]) X cn w (lt17 (by decide)) wC_0 rfl (fun sz => met_of (c_X4_ofPress l D ca ad E10 F L S n hlt q wf r (2 : Int32) 0 0 (fun h => (h h15).elim) sz) h15) (bg_V kw_537 kw_358 kw_359 kw_31 kw_360) rfl rfl (by decide +kernel) ⟨(Nat.le_of_ble_eq_true rfl), (Nat.le_of_ble_eq_true rfl)⟩ rfl hl.1 rfl (Nat.le_of_ble_eq_true rfl) dL_arePressesRight_38 ⟨(Nat.le_of_ble_eq_true rfl), (Nat.le_of_ble_eq_true rfl)⟩) (fun r14 u H locs hp w => ?_)
      obtain ⟨E16, q17⟩ := u
      obtain ⟨-, rfl, h18⟩ := hp
      have h18 : q17 = (F, L, S, n) := h18
      subst h18
      refine lv_sipush (v := 999) X.1 X.2.1 dL_arePressesRight_41 (by decide) ?_
      refine lv_icmp_le (tgt := 49) X.1 X.2.1 dL_arePressesRight_44 (by decide) (fun c19 => ?_) (fun c19 => ?_)
      ·
        refine lv_iinc (v := 3) (lv' := [(3, .int 3), (1, .int x6), (2, .int r), (0, .ref (ad 0))]) X.1 X.2.1 dL_arePressesRight_49 hl (k := 0) rfl (by decide) (by decide) rfl (fun ls hl => ?_)
        refine lv_goto (tgt := 20) X.1 X.2.1 dL_arePressesRight_52 (by decide) ?_
        refine lv_iload_n X.1 X.2.1 dL_arePressesRight_20 rfl (lv_at hl 0 rfl) ?_
        refine lv_iconst (v := 4) X.1 X.2.1 dL_arePressesRight_21 (by decide) ?_
        refine lv_icmp_ge (tgt := 55) X.1 X.2.1 dL_arePressesRight_22 (by decide) (fun c20 => ?_) (fun c20 => ?_)
        ·
          exact absurd c20 (by decide)
        ·
          refine lv_aload_n X.1 X.2.1 dL_arePressesRight_25 rfl (lv_at hl 3 rfl) ?_
          refine lv_iload_n X.1 X.2.1 dL_arePressesRight_26 rfl (lv_at hl 2 rfl) ?_
          refine lv_iload_n X.1 X.2.1 dL_arePressesRight_27 rfl (lv_at hl 0 rfl) ?_
          have h22 : (er_ofPress r (3 : Int32)) = 0 := (by rw [er_ofPress, if_pos h3]; decide)
          refine w_calli cn w (w_runV (n := 2) (As := [.int r, .int 3]) X cn w (lt17 (by decide)) wC_0 rfl (fun sz => met_of (c_X4_ofPress l D ca ad E16 F L S n hlt q wf r (3 : Int32) 0 0 (fun h => (h h22).elim) sz) h22) (bg_V kw_537 kw_358 kw_359 kw_31 kw_360) rfl rfl (by decide +kernel) ⟨(Nat.le_of_ble_eq_true rfl), (Nat.le_of_ble_eq_true rfl)⟩ rfl hl.1 rfl (Nat.le_of_ble_eq_true rfl) dL_arePressesRight_28 ⟨(Nat.le_of_ble_eq_true rfl), (Nat.le_of_ble_eq_true rfl)⟩) (fun r21 u H locs hp w => ?_)
          obtain ⟨E23, q24⟩ := u
          obtain ⟨-, rfl, h25⟩ := hp
          have h25 : q24 = (F, L, S, n) := h25
          subst h25
          refine lv_iconst (v := 1) X.1 X.2.1 dL_arePressesRight_31 (by decide) ?_
          refine lv_icmp_lt (tgt := 47) X.1 X.2.1 dL_arePressesRight_32 (by decide) (fun c26 => ?_) (fun c26 => ?_)
          ·
            obtain ⟨g1, g2, g3, g4, g5, g6, g7, g8, g9, g10⟩ := hjp
            first | exact absurd c26 g1 | exact absurd g2 c26 | exact absurd c26 g3 | exact absurd g4 c26 | exact absurd c26 g5 | exact absurd c26 g6 | exact absurd c26 g7 | exact absurd c26 g8 | exact absurd (g9.mp c19) c20 | exact absurd (g9.mpr c20) c19 | exact absurd (g10.resolve_left c20) c26
          ·
            refine lv_aload_n X.1 X.2.1 dL_arePressesRight_35 rfl (lv_at hl 3 rfl) ?_
            refine lv_iload_n X.1 X.2.1 dL_arePressesRight_36 rfl (lv_at hl 2 rfl) ?_
            refine lv_iload_n X.1 X.2.1 dL_arePressesRight_37 rfl (lv_at hl 0 rfl) ?_
            have h28 : (er_ofPress r (3 : Int32)) = 0 := (by rw [er_ofPress, if_pos h3]; decide)
            refine w_calli cn w (w_runV (n := 2) (As := [.int r, .int 3]) X cn w (lt17 (by decide)) wC_0 rfl (fun sz => met_of (c_X4_ofPress l D ca ad E23 F L S n hlt q wf r (3 : Int32) 0 0 (fun h => (h h28).elim) sz) h28) (bg_V kw_537 kw_358 kw_359 kw_31 kw_360) rfl rfl (by decide +kernel) ⟨(Nat.le_of_ble_eq_true rfl), (Nat.le_of_ble_eq_true rfl)⟩ rfl hl.1 rfl (Nat.le_of_ble_eq_true rfl) dL_arePressesRight_38 ⟨(Nat.le_of_ble_eq_true rfl), (Nat.le_of_ble_eq_true rfl)⟩) (fun r27 u H locs hp w => ?_)
            obtain ⟨E29, q30⟩ := u
            obtain ⟨-, rfl, h31⟩ := hp
            have h31 : q30 = (F, L, S, n) := h31
            subst h31
            refine lv_sipush (v := 999) X.1 X.2.1 dL_arePressesRight_41 (by decide) ?_
            refine lv_icmp_le (tgt := 49) X.1 X.2.1 dL_arePressesRight_44 (by decide) (fun c32 => ?_) (fun c32 => ?_)
            ·
              refine lv_iinc (v := 4) (lv' := [(3, .int 4), (1, .int x6), (2, .int r), (0, .ref (ad 0))]) X.1 X.2.1 dL_arePressesRight_49 hl (k := 0) rfl (by decide) (by decide) rfl (fun ls hl => ?_)
              refine lv_goto (tgt := 20) X.1 X.2.1 dL_arePressesRight_52 (by decide) ?_
              refine lv_iload_n X.1 X.2.1 dL_arePressesRight_20 rfl (lv_at hl 0 rfl) ?_
              refine lv_iconst (v := 4) X.1 X.2.1 dL_arePressesRight_21 (by decide) ?_
              refine lv_icmp_ge (tgt := 55) X.1 X.2.1 dL_arePressesRight_22 (by decide) (fun c33 => ?_) (fun c33 => ?_)
              ·
                refine lv_aload_n X.1 X.2.1 dL_arePressesRight_55 rfl (lv_at hl 3 rfl) ?_
                refine lv_iload_n X.1 X.2.1 dL_arePressesRight_56 rfl (lv_at hl 2 rfl) ?_
                refine lv_iconst (v := 0) X.1 X.2.1 dL_arePressesRight_57 (by decide) ?_
                have h35 : (er_ofPress r (0 : Int32)) = 0 := (by rw [er_ofPress, if_pos h3]; decide)
                refine w_calli cn w (w_runV (n := 2) (As := [.int r, .int 0]) X cn w (lt17 (by decide)) wC_0 rfl (fun sz => met_of (c_X4_ofPress l D ca ad E29 F L S n hlt q wf r (0 : Int32) 0 0 (fun h => (h h35).elim) sz) h35) (bg_V kw_537 kw_358 kw_359 kw_31 kw_360) rfl rfl (by decide +kernel) ⟨(Nat.le_of_ble_eq_true rfl), (Nat.le_of_ble_eq_true rfl)⟩ rfl hl.1 rfl (Nat.le_of_ble_eq_true rfl) dL_arePressesRight_58 ⟨(Nat.le_of_ble_eq_true rfl), (Nat.le_of_ble_eq_true rfl)⟩) (fun r34 u H locs hp w => ?_)
                obtain ⟨E36, q37⟩ := u
                obtain ⟨-, rfl, h38⟩ := hp
                have h38 : q37 = (F, L, S, n) := h38
                subst h38
                refine lv_iconst (v := 1) X.1 X.2.1 dL_arePressesRight_61 (by decide) ?_
                refine lv_icmp_lt (tgt := 128) X.1 X.2.1 dL_arePressesRight_62 (by decide) (fun c39 => ?_) (fun c39 => ?_)
                ·
                  obtain ⟨g1, g2, g3, g4, g5, g6, g7, g8, g9, g10⟩ := hjp
                  first | exact absurd c39 g1 | exact absurd g2 c39 | exact absurd c39 g3 | exact absurd g4 c39 | exact absurd c39 g5 | exact absurd c39 g6 | exact absurd c39 g7 | exact absurd c39 g8 | exact absurd (g9.mp c32) c33 | exact absurd (g9.mpr c33) c32 | exact absurd (g10.resolve_left c33) c39
                ·
                  refine lv_aload_n X.1 X.2.1 dL_arePressesRight_65 rfl (lv_at hl 3 rfl) ?_
                  refine lv_iload_n X.1 X.2.1 dL_arePressesRight_66 rfl (lv_at hl 2 rfl) ?_
                  refine lv_iconst (v := 0) X.1 X.2.1 dL_arePressesRight_67 (by decide) ?_
                  have h41 : (er_ofPress r (0 : Int32)) = 0 := (by rw [er_ofPress, if_pos h3]; decide)
                  refine w_calli cn w (w_runV (n := 2) (As := [.int r, .int 0]) X cn w (lt17 (by decide)) wC_0 rfl (fun sz => met_of (c_X4_ofPress l D ca ad E36 F L S n hlt q wf r (0 : Int32) 0 0 (fun h => (h h41).elim) sz) h41) (bg_V kw_537 kw_358 kw_359 kw_31 kw_360) rfl rfl (by decide +kernel) ⟨(Nat.le_of_ble_eq_true rfl), (Nat.le_of_ble_eq_true rfl)⟩ rfl hl.1 rfl (Nat.le_of_ble_eq_true rfl) dL_arePressesRight_68 ⟨(Nat.le_of_ble_eq_true rfl), (Nat.le_of_ble_eq_true rfl)⟩) (fun r40 u H locs hp w => ?_)
                  obtain ⟨E42, q43⟩ := u
                  obtain ⟨-, rfl, h44⟩ := hp
                  have h44 : q43 = (F, L, S, n) := h44
                  subst h44
                  refine lv_iconst (v := 4) X.1 X.2.1 dL_arePressesRight_71 (by decide) ?_
                  refine lv_icmp_gt (tgt := 128) X.1 X.2.1 dL_arePressesRight_72 (by decide) (fun c45 => ?_) (fun c45 => ?_)
                  ·
                    obtain ⟨g1, g2, g3, g4, g5, g6, g7, g8, g9, g10⟩ := hjp
                    first | exact absurd c45 g1 | exact absurd g2 c45 | exact absurd c45 g3 | exact absurd g4 c45 | exact absurd c45 g5 | exact absurd c45 g6 | exact absurd c45 g7 | exact absurd c45 g8 | exact absurd (g9.mp c33) c39 | exact absurd (g9.mpr c39) c33 | exact absurd (g10.resolve_left c39) c45
                  ·
                    refine lv_aload_n X.1 X.2.1 dL_arePressesRight_75 rfl (lv_at hl 3 rfl) ?_
                    refine lv_iload_n X.1 X.2.1 dL_arePressesRight_76 rfl (lv_at hl 2 rfl) ?_
                    refine lv_iconst (v := 4) X.1 X.2.1 dL_arePressesRight_77 (by decide) ?_
                    have h47 : (er_ofPress r (4 : Int32)) = 0 := (by rw [er_ofPress, if_pos h3]; decide)
                    refine w_calli cn w (w_runV (n := 2) (As := [.int r, .int 4]) X cn w (lt17 (by decide)) wC_0 rfl (fun sz => met_of (c_X4_ofPress l D ca ad E42 F L S n hlt q wf r (4 : Int32) 0 0 (fun h => (h h47).elim) sz) h47) (bg_V kw_537 kw_358 kw_359 kw_31 kw_360) rfl rfl (by decide +kernel) ⟨(Nat.le_of_ble_eq_true rfl), (Nat.le_of_ble_eq_true rfl)⟩ rfl hl.1 rfl (Nat.le_of_ble_eq_true rfl) dL_arePressesRight_78 ⟨(Nat.le_of_ble_eq_true rfl), (Nat.le_of_ble_eq_true rfl)⟩) (fun r46 u H locs hp w => ?_)
                    obtain ⟨E48, q49⟩ := u
                    obtain ⟨-, rfl, h50⟩ := hp
                    have h50 : q49 = (F, L, S, n) := h50
                    subst h50
                    refine lv_if_lt (tgt := 128) X.1 X.2.1 dL_arePressesRight_81 (by decide) (fun c51 => ?_) (fun c51 => ?_)
                    ·
                      obtain ⟨g1, g2, g3, g4, g5, g6, g7, g8, g9, g10⟩ := hjp
                      first | exact absurd c51 g1 | exact absurd g2 c51 | exact absurd c51 g3 | exact absurd g4 c51 | exact absurd c51 g5 | exact absurd c51 g6 | exact absurd c51 g7 | exact absurd c51 g8 | exact absurd (g9.mp c39) c45 | exact absurd (g9.mpr c45) c39 | exact absurd (g10.resolve_left c45) c51
                    ·
                      refine lv_aload_n X.1 X.2.1 dL_arePressesRight_84 rfl (lv_at hl 3 rfl) ?_
                      refine lv_iload_n X.1 X.2.1 dL_arePressesRight_85 rfl (lv_at hl 2 rfl) ?_
                      refine lv_iconst (v := 4) X.1 X.2.1 dL_arePressesRight_86 (by decide) ?_
                      have h53 : (er_ofPress r (4 : Int32)) = 0 := (by rw [er_ofPress, if_pos h3]; decide)
                      refine w_calli cn w (w_runV (n := 2) (As := [.int r, .int 4]) X cn w (lt17 (by decide)) wC_0 rfl (fun sz => met_of (c_X4_ofPress l D ca ad E48 F L S n hlt q wf r (4 : Int32) 0 0 (fun h => (h h53).elim) sz) h53) (bg_V kw_537 kw_358 kw_359 kw_31 kw_360) rfl rfl (by decide +kernel) ⟨(Nat.le_of_ble_eq_true rfl), (Nat.le_of_ble_eq_true rfl)⟩ rfl hl.1 rfl (Nat.le_of_ble_eq_true rfl) dL_arePressesRight_87 ⟨(Nat.le_of_ble_eq_true rfl), (Nat.le_of_ble_eq_true rfl)⟩) (fun r52 u H locs hp w => ?_)
                      obtain ⟨E54, q55⟩ := u
                      obtain ⟨-, rfl, h56⟩ := hp
                      have h56 : q55 = (F, L, S, n) := h56
                      subst h56
                      refine lv_sipush (v := 999) X.1 X.2.1 dL_arePressesRight_90 (by decide) ?_
                      refine lv_icmp_gt (tgt := 128) X.1 X.2.1 dL_arePressesRight_93 (by decide) (fun c57 => ?_) (fun c57 => ?_)
                      ·
                        obtain ⟨g1, g2, g3, g4, g5, g6, g7, g8, g9, g10⟩ := hjp
                        first | exact absurd c57 g1 | exact absurd g2 c57 | exact absurd c57 g3 | exact absurd g4 c57 | exact absurd c57 g5 | exact absurd c57 g6 | exact absurd c57 g7 | exact absurd c57 g8 | exact absurd (g9.mp c45) c51 | exact absurd (g9.mpr c51) c45 | exact absurd (g10.resolve_left c51) c57
                      ·
                        refine lv_aload_n X.1 X.2.1 dL_arePressesRight_96 rfl (lv_at hl 3 rfl) ?_
                        refine lv_iload_n X.1 X.2.1 dL_arePressesRight_97 rfl (lv_at hl 2 rfl) ?_
                        refine lv_iconst (v := 5) X.1 X.2.1 dL_arePressesRight_98 (by decide) ?_
                        have h59 : (er_ofPress r (5 : Int32)) = 0 := (by rw [er_ofPress, if_pos h3]; decide)
                        refine w_calli cn w (w_runV (n := 2) (As := [.int r, .int 5]) X cn w (lt17 (by decide)) wC_0 rfl (fun sz => met_of (c_X4_ofPress l D ca ad E54 F L S n hlt q wf r (5 : Int32) 0 0 (fun h => (h h59).elim) sz) h59) (bg_V kw_537 kw_358 kw_359 kw_31 kw_360) rfl rfl (by decide +kernel) ⟨(Nat.le_of_ble_eq_true rfl), (Nat.le_of_ble_eq_true rfl)⟩ rfl hl.1 rfl (Nat.le_of_ble_eq_true rfl) dL_arePressesRight_99 ⟨(Nat.le_of_ble_eq_true rfl), (Nat.le_of_ble_eq_true rfl)⟩) (fun r58 u H locs hp w => ?_)
                        obtain ⟨E60, q61⟩ := u
                        obtain ⟨-, rfl, h62⟩ := hp
                        have h62 : q61 = (F, L, S, n) := h62
                        subst h62
                        refine lv_if_ne (tgt := 109) X.1 X.2.1 dL_arePressesRight_102 (by decide) (fun c63 => ?_) (fun c63 => ?_)
                        ·
                          refine lv_iconst (v := 0) X.1 X.2.1 dL_arePressesRight_109 (by decide) ?_
                          refine lv_aload_n X.1 X.2.1 dL_arePressesRight_110 rfl (lv_at hl 3 rfl) ?_
                          refine lv_iload_n X.1 X.2.1 dL_arePressesRight_111 rfl (lv_at hl 2 rfl) ?_
                          refine lv_bipush (v := 6) X.1 X.2.1 dL_arePressesRight_112 (by decide) ?_
                          have h65 : (er_ofPress r (6 : Int32)) = 0 := (by rw [er_ofPress, if_pos h3]; decide)
                          refine w_calli cn w (w_runV (n := 2) (As := [.int r, .int 6]) X cn w (lt17 (by decide)) wC_0 rfl (fun sz => met_of (c_X4_ofPress l D ca ad E60 F L S n hlt q wf r (6 : Int32) 0 0 (fun h => (h h65).elim) sz) h65) (bg_V kw_537 kw_358 kw_359 kw_31 kw_360) rfl rfl (by decide +kernel) ⟨(Nat.le_of_ble_eq_true rfl), (Nat.le_of_ble_eq_true rfl)⟩ rfl hl.1 rfl (Nat.le_of_ble_eq_true rfl) dL_arePressesRight_114 ⟨(Nat.le_of_ble_eq_true rfl), (Nat.le_of_ble_eq_true rfl)⟩) (fun r64 u H locs hp w => ?_)
                          obtain ⟨E66, q67⟩ := u
                          obtain ⟨-, rfl, h68⟩ := hp
                          have h68 : q67 = (F, L, S, n) := h68
                          subst h68
                          refine lv_if_ne (tgt := 124) X.1 X.2.1 dL_arePressesRight_117 (by decide) (fun c69 => ?_) (fun c69 => ?_)
                          ·
                            refine lv_iconst (v := 0) X.1 X.2.1 dL_arePressesRight_124 (by decide) ?_
                            refine lv_icmp_eq (tgt := 130) X.1 X.2.1 dL_arePressesRight_125 (by decide) (fun c70 => ?_) (fun c70 => ?_)
                            ·
                              refine lv_aload_n X.1 X.2.1 dL_arePressesRight_130 rfl (lv_at hl 3 rfl) ?_
                              refine lv_iload_n X.1 X.2.1 dL_arePressesRight_131 rfl (lv_at hl 2 rfl) ?_
                              refine lv_iconst (v := 5) X.1 X.2.1 dL_arePressesRight_132 (by decide) ?_
                              have h72 : (er_ofPress r (5 : Int32)) = 0 := (by rw [er_ofPress, if_pos h3]; decide)
                              refine w_calli cn w (w_runV (n := 2) (As := [.int r, .int 5]) X cn w (lt17 (by decide)) wC_0 rfl (fun sz => met_of (c_X4_ofPress l D ca ad E66 F L S n hlt q wf r (5 : Int32) 0 0 (fun h => (h h72).elim) sz) h72) (bg_V kw_537 kw_358 kw_359 kw_31 kw_360) rfl rfl (by decide +kernel) ⟨(Nat.le_of_ble_eq_true rfl), (Nat.le_of_ble_eq_true rfl)⟩ rfl hl.1 rfl (Nat.le_of_ble_eq_true rfl) dL_arePressesRight_133 ⟨(Nat.le_of_ble_eq_true rfl), (Nat.le_of_ble_eq_true rfl)⟩) (fun r71 u H locs hp w => ?_)
                              obtain ⟨E73, q74⟩ := u
                              obtain ⟨-, rfl, h75⟩ := hp
                              have h75 : q74 = (F, L, S, n) := h75
                              subst h75
                              refine lv_if_le (tgt := 163) X.1 X.2.1 dL_arePressesRight_136 (by decide) (fun c76 => ?_) (fun c76 => ?_)
                              ·
                                subst ex6;
                                exact kk E73 _ _ ls w (lv_sub hl [2, 1, 3] rfl)
                              ·
                                refine lv_aload_n X.1 X.2.1 dL_arePressesRight_139 rfl (lv_at hl 3 rfl) ?_
                                refine lv_iload_n X.1 X.2.1 dL_arePressesRight_140 rfl (lv_at hl 2 rfl) ?_
                                refine lv_bipush (v := 6) X.1 X.2.1 dL_arePressesRight_141 (by decide) ?_
                                have h78 : (er_ofPress r (6 : Int32)) = 0 := (by rw [er_ofPress, if_pos h3]; decide)
                                refine w_calli cn w (w_runV (n := 2) (As := [.int r, .int 6]) X cn w (lt17 (by decide)) wC_0 rfl (fun sz => met_of (c_X4_ofPress l D ca ad E73 F L S n hlt q wf r (6 : Int32) 0 0 (fun h => (h h78).elim) sz) h78) (bg_V kw_537 kw_358 kw_359 kw_31 kw_360) rfl rfl (by decide +kernel) ⟨(Nat.le_of_ble_eq_true rfl), (Nat.le_of_ble_eq_true rfl)⟩ rfl hl.1 rfl (Nat.le_of_ble_eq_true rfl) dL_arePressesRight_143 ⟨(Nat.le_of_ble_eq_true rfl), (Nat.le_of_ble_eq_true rfl)⟩) (fun r77 u H locs hp w => ?_)
                                obtain ⟨E79, q80⟩ := u
                                obtain ⟨-, rfl, h81⟩ := hp
                                have h81 : q80 = (F, L, S, n) := h81
                                subst h81
                                refine lv_aload_n X.1 X.2.1 dL_arePressesRight_146 rfl (lv_at hl 3 rfl) ?_
                                refine lv_aload_n X.1 X.2.1 dL_arePressesRight_147 rfl (lv_at hl 3 rfl) ?_
                                refine lv_iload_n X.1 X.2.1 dL_arePressesRight_148 rfl (lv_at hl 2 rfl) ?_
                                refine lv_iconst (v := 0) X.1 X.2.1 dL_arePressesRight_149 (by decide) ?_
                                have h83 : (er_queue F L r (0 : Int32)) = 0 := (hlf.first h3 c76)
                                refine w_calli cn w (w_runV (n := 2) (As := [.int r, .int 0]) X cn w (lt17 (by decide)) wC_0 rfl (fun sz => met_of (c_X4_queue l D ca ad E79 F L S n hlt q wf r (0 : Int32) 0 0 (fun h => (h h83).elim) sz) h83) (bg_V kw_538 kw_372 kw_373 kw_31 kw_374) rfl rfl (by decide +kernel) ⟨(Nat.le_of_ble_eq_true rfl), (Nat.le_of_ble_eq_true rfl)⟩ rfl hl.1 rfl (Nat.le_of_ble_eq_true rfl) dL_arePressesRight_150 ⟨(Nat.le_of_ble_eq_true rfl), (Nat.le_of_ble_eq_true rfl)⟩) (fun r82 u H locs hp w => ?_)
                                obtain ⟨E84, q85⟩ := u
                                obtain ⟨-, rfl, h86⟩ := hp
                                have h86 : q85 = (F, L, S, n) := h86
                                subst h86
                                obtain ⟨jq87, hjq87, ejq87, fjq87⟩ := hlf.queue h83
                                refine lv_iload_n X.1 X.2.1 dL_arePressesRight_153 rfl (lv_at hl 2 rfl) ?_
                                refine lv_iconst (v := 4) X.1 X.2.1 dL_arePressesRight_154 (by decide) ?_
                                have h89 : (er_expected n (s_queue F L (6 + r.toNatClampNeg) (0 : Int32)) r (4 : Int32)) = 0 := (by rw [fjq87, er_expected, if_pos (hlf.idx hjq87), if_pos h3]; decide)
                                refine w_calli cn w (w_runV (n := 3) (As := [.int (s_queue F L (6 + r.toNatClampNeg) (0 : Int32)), .int r, .int 4]) X cn w (lt17 (by decide)) wC_0 rfl (fun sz => met_of (c_X4_expected l D ca ad E84 F L S n hlt q wf (s_queue F L (6 + r.toNatClampNeg) (0 : Int32)) r (4 : Int32) 0 0 (fun h => (h h89).elim) sz) h89) (bg_V kw_629 kw_391 kw_392 kw_31 kw_393) rfl rfl (by decide +kernel) ⟨(Nat.le_of_ble_eq_true rfl), (Nat.le_of_ble_eq_true rfl)⟩ rfl hl.1 rfl (Nat.le_of_ble_eq_true rfl) dL_arePressesRight_155 ⟨(Nat.le_of_ble_eq_true rfl), (Nat.le_of_ble_eq_true rfl)⟩) (fun r88 u H locs hp w => ?_)
                                obtain ⟨E90, q91⟩ := u
                                obtain ⟨-, rfl, h92⟩ := hp
                                have h92 : q91 = (F, L, S, n) := h92
                                subst h92
                                refine lv_icmp_ge (tgt := 163) X.1 X.2.1 dL_arePressesRight_158 (by decide) (fun c93 => ?_) (fun c93 => ?_)
                                ·
                                  subst ex6;
                                  exact kk E90 _ _ ls w (lv_sub hl [2, 1, 3] rfl)
                                ·
                                  obtain ⟨g1, g2, g3, g4, g5, g6, g7, g8, g9, g10⟩ := hjp
                                  first | exact absurd c93 g1 | exact absurd g2 c93 | exact absurd c93 g3 | exact absurd g4 c93 | exact absurd c93 g5 | exact absurd c93 g6 | exact absurd c93 g7 | exact absurd c93 g8 | exact absurd (g9.mp c70) c76 | exact absurd (g9.mpr c76) c70 | exact absurd (g10.resolve_left c76) c93
                            ·
                              exact absurd (by decide) c70
                          ·
                            refine lv_iconst (v := 1) X.1 X.2.1 dL_arePressesRight_120 (by decide) ?_
                            refine lv_goto (tgt := 125) X.1 X.2.1 dL_arePressesRight_121 (by decide) ?_
                            refine lv_icmp_eq (tgt := 130) X.1 X.2.1 dL_arePressesRight_125 (by decide) (fun c94 => ?_) (fun c94 => ?_)
                            ·
                              exact absurd c94 (by decide)
                            ·
                              obtain ⟨g1, g2, g3, g4, g5, g6, g7, g8, g9, g10⟩ := hjp
                              first | exact absurd c94 g1 | exact absurd g2 c94 | exact absurd c94 g3 | exact absurd g4 c94 | exact absurd c94 g5 | exact absurd c94 g6 | exact absurd c94 g7 | exact absurd c94 g8 | exact absurd (g9.mp c63) c69 | exact absurd (g9.mpr c69) c63 | exact absurd (g10.resolve_left c69) c94
                        ·
                          refine lv_iconst (v := 1) X.1 X.2.1 dL_arePressesRight_105 (by decide) ?_
                          refine lv_goto (tgt := 110) X.1 X.2.1 dL_arePressesRight_106 (by decide) ?_
                          refine lv_aload_n X.1 X.2.1 dL_arePressesRight_110 rfl (lv_at hl 3 rfl) ?_
                          refine lv_iload_n X.1 X.2.1 dL_arePressesRight_111 rfl (lv_at hl 2 rfl) ?_
                          refine lv_bipush (v := 6) X.1 X.2.1 dL_arePressesRight_112 (by decide) ?_
                          have h96 : (er_ofPress r (6 : Int32)) = 0 := (by rw [er_ofPress, if_pos h3]; decide)
                          refine w_calli cn w (w_runV (n := 2) (As := [.int r, .int 6]) X cn w (lt17 (by decide)) wC_0 rfl (fun sz => met_of (c_X4_ofPress l D ca ad E60 F L S n hlt q wf r (6 : Int32) 0 0 (fun h => (h h96).elim) sz) h96) (bg_V kw_537 kw_358 kw_359 kw_31 kw_360) rfl rfl (by decide +kernel) ⟨(Nat.le_of_ble_eq_true rfl), (Nat.le_of_ble_eq_true rfl)⟩ rfl hl.1 rfl (Nat.le_of_ble_eq_true rfl) dL_arePressesRight_114 ⟨(Nat.le_of_ble_eq_true rfl), (Nat.le_of_ble_eq_true rfl)⟩) (fun r95 u H locs hp w => ?_)
                          obtain ⟨E97, q98⟩ := u
                          obtain ⟨-, rfl, h99⟩ := hp
                          have h99 : q98 = (F, L, S, n) := h99
                          subst h99
                          refine lv_if_ne (tgt := 124) X.1 X.2.1 dL_arePressesRight_117 (by decide) (fun c100 => ?_) (fun c100 => ?_)
                          ·
                            refine lv_iconst (v := 0) X.1 X.2.1 dL_arePressesRight_124 (by decide) ?_
                            refine lv_icmp_eq (tgt := 130) X.1 X.2.1 dL_arePressesRight_125 (by decide) (fun c101 => ?_) (fun c101 => ?_)
                            ·
                              exact absurd c101 (by decide)
                            ·
                              obtain ⟨g1, g2, g3, g4, g5, g6, g7, g8, g9, g10⟩ := hjp
                              first | exact absurd c101 g1 | exact absurd g2 c101 | exact absurd c101 g3 | exact absurd g4 c101 | exact absurd c101 g5 | exact absurd c101 g6 | exact absurd c101 g7 | exact absurd c101 g8 | exact absurd (g9.mp c63) c100 | exact absurd (g9.mpr c100) c63 | exact absurd (g10.resolve_left c100) c101
                          ·
                            refine lv_iconst (v := 1) X.1 X.2.1 dL_arePressesRight_120 (by decide) ?_
                            refine lv_goto (tgt := 125) X.1 X.2.1 dL_arePressesRight_121 (by decide) ?_
                            refine lv_icmp_eq (tgt := 130) X.1 X.2.1 dL_arePressesRight_125 (by decide) (fun c102 => ?_) (fun c102 => ?_)
                            ·
                              refine lv_aload_n X.1 X.2.1 dL_arePressesRight_130 rfl (lv_at hl 3 rfl) ?_
                              refine lv_iload_n X.1 X.2.1 dL_arePressesRight_131 rfl (lv_at hl 2 rfl) ?_
                              refine lv_iconst (v := 5) X.1 X.2.1 dL_arePressesRight_132 (by decide) ?_
                              have h104 : (er_ofPress r (5 : Int32)) = 0 := (by rw [er_ofPress, if_pos h3]; decide)
                              refine w_calli cn w (w_runV (n := 2) (As := [.int r, .int 5]) X cn w (lt17 (by decide)) wC_0 rfl (fun sz => met_of (c_X4_ofPress l D ca ad E97 F L S n hlt q wf r (5 : Int32) 0 0 (fun h => (h h104).elim) sz) h104) (bg_V kw_537 kw_358 kw_359 kw_31 kw_360) rfl rfl (by decide +kernel) ⟨(Nat.le_of_ble_eq_true rfl), (Nat.le_of_ble_eq_true rfl)⟩ rfl hl.1 rfl (Nat.le_of_ble_eq_true rfl) dL_arePressesRight_133 ⟨(Nat.le_of_ble_eq_true rfl), (Nat.le_of_ble_eq_true rfl)⟩) (fun r103 u H locs hp w => ?_)
                              obtain ⟨E105, q106⟩ := u
                              obtain ⟨-, rfl, h107⟩ := hp
                              have h107 : q106 = (F, L, S, n) := h107
                              subst h107
                              refine lv_if_le (tgt := 163) X.1 X.2.1 dL_arePressesRight_136 (by decide) (fun c108 => ?_) (fun c108 => ?_)
                              ·
                                subst ex6;
                                exact kk E105 _ _ ls w (lv_sub hl [2, 1, 3] rfl)
                              ·
                                refine lv_aload_n X.1 X.2.1 dL_arePressesRight_139 rfl (lv_at hl 3 rfl) ?_
                                refine lv_iload_n X.1 X.2.1 dL_arePressesRight_140 rfl (lv_at hl 2 rfl) ?_
                                refine lv_bipush (v := 6) X.1 X.2.1 dL_arePressesRight_141 (by decide) ?_
                                have h110 : (er_ofPress r (6 : Int32)) = 0 := (by rw [er_ofPress, if_pos h3]; decide)
                                refine w_calli cn w (w_runV (n := 2) (As := [.int r, .int 6]) X cn w (lt17 (by decide)) wC_0 rfl (fun sz => met_of (c_X4_ofPress l D ca ad E105 F L S n hlt q wf r (6 : Int32) 0 0 (fun h => (h h110).elim) sz) h110) (bg_V kw_537 kw_358 kw_359 kw_31 kw_360) rfl rfl (by decide +kernel) ⟨(Nat.le_of_ble_eq_true rfl), (Nat.le_of_ble_eq_true rfl)⟩ rfl hl.1 rfl (Nat.le_of_ble_eq_true rfl) dL_arePressesRight_143 ⟨(Nat.le_of_ble_eq_true rfl), (Nat.le_of_ble_eq_true rfl)⟩) (fun r109 u H locs hp w => ?_)
                                obtain ⟨E111, q112⟩ := u
                                obtain ⟨-, rfl, h113⟩ := hp
                                have h113 : q112 = (F, L, S, n) := h113
                                subst h113
                                refine lv_aload_n X.1 X.2.1 dL_arePressesRight_146 rfl (lv_at hl 3 rfl) ?_
                                refine lv_aload_n X.1 X.2.1 dL_arePressesRight_147 rfl (lv_at hl 3 rfl) ?_
                                refine lv_iload_n X.1 X.2.1 dL_arePressesRight_148 rfl (lv_at hl 2 rfl) ?_
                                refine lv_iconst (v := 0) X.1 X.2.1 dL_arePressesRight_149 (by decide) ?_
                                have h115 : (er_queue F L r (0 : Int32)) = 0 := (hlf.first h3 c108)
                                refine w_calli cn w (w_runV (n := 2) (As := [.int r, .int 0]) X cn w (lt17 (by decide)) wC_0 rfl (fun sz => met_of (c_X4_queue l D ca ad E111 F L S n hlt q wf r (0 : Int32) 0 0 (fun h => (h h115).elim) sz) h115) (bg_V kw_538 kw_372 kw_373 kw_31 kw_374) rfl rfl (by decide +kernel) ⟨(Nat.le_of_ble_eq_true rfl), (Nat.le_of_ble_eq_true rfl)⟩ rfl hl.1 rfl (Nat.le_of_ble_eq_true rfl) dL_arePressesRight_150 ⟨(Nat.le_of_ble_eq_true rfl), (Nat.le_of_ble_eq_true rfl)⟩) (fun r114 u H locs hp w => ?_)
                                obtain ⟨E116, q117⟩ := u
                                obtain ⟨-, rfl, h118⟩ := hp
                                have h118 : q117 = (F, L, S, n) := h118
                                subst h118
                                obtain ⟨jq119, hjq119, ejq119, fjq119⟩ := hlf.queue h115
                                refine lv_iload_n X.1 X.2.1 dL_arePressesRight_153 rfl (lv_at hl 2 rfl) ?_
                                refine lv_iconst (v := 4) X.1 X.2.1 dL_arePressesRight_154 (by decide) ?_
                                have h121 : (er_expected n (s_queue F L (6 + r.toNatClampNeg) (0 : Int32)) r (4 : Int32)) = 0 := (by rw [fjq119, er_expected, if_pos (hlf.idx hjq119), if_pos h3]; decide)
                                refine w_calli cn w (w_runV (n := 3) (As := [.int (s_queue F L (6 + r.toNatClampNeg) (0 : Int32)), .int r, .int 4]) X cn w (lt17 (by decide)) wC_0 rfl (fun sz => met_of (c_X4_expected l D ca ad E116 F L S n hlt q wf (s_queue F L (6 + r.toNatClampNeg) (0 : Int32)) r (4 : Int32) 0 0 (fun h => (h h121).elim) sz) h121) (bg_V kw_629 kw_391 kw_392 kw_31 kw_393) rfl rfl (by decide +kernel) ⟨(Nat.le_of_ble_eq_true rfl), (Nat.le_of_ble_eq_true rfl)⟩ rfl hl.1 rfl (Nat.le_of_ble_eq_true rfl) dL_arePressesRight_155 ⟨(Nat.le_of_ble_eq_true rfl), (Nat.le_of_ble_eq_true rfl)⟩) (fun r120 u H locs hp w => ?_)
                                obtain ⟨E122, q123⟩ := u
                                obtain ⟨-, rfl, h124⟩ := hp
                                have h124 : q123 = (F, L, S, n) := h124
                                subst h124
                                refine lv_icmp_ge (tgt := 163) X.1 X.2.1 dL_arePressesRight_158 (by decide) (fun c125 => ?_) (fun c125 => ?_)
                                ·
                                  subst ex6;
                                  exact kk E122 _ _ ls w (lv_sub hl [2, 1, 3] rfl)
                                ·
                                  obtain ⟨g1, g2, g3, g4, g5, g6, g7, g8, g9, g10⟩ := hjp
                                  first | exact absurd c125 g1 | exact absurd g2 c125 | exact absurd c125 g3 | exact absurd g4 c125 | exact absurd c125 g5 | exact absurd c125 g6 | exact absurd c125 g7 | exact absurd c125 g8 | exact absurd (g9.mp c102) c108 | exact absurd (g9.mpr c108) c102 | exact absurd (g10.resolve_left c108) c125
                            ·
                              exact absurd (by decide) c102
              ·
                exact absurd (by decide) c33
            ·
              obtain ⟨g1, g2, g3, g4, g5, g6, g7, g8, g9, g10⟩ := hjp
              first | exact absurd c32 g1 | exact absurd g2 c32 | exact absurd c32 g3 | exact absurd g4 c32 | exact absurd c32 g5 | exact absurd c32 g6 | exact absurd c32 g7 | exact absurd c32 g8 | exact absurd (g9.mp c20) c26 | exact absurd (g9.mpr c26) c20 | exact absurd (g10.resolve_left c26) c32
      ·
        obtain ⟨g1, g2, g3, g4, g5, g6, g7, g8, g9, g10⟩ := hjp
        first | exact absurd c19 g1 | exact absurd g2 c19 | exact absurd c19 g3 | exact absurd g4 c19 | exact absurd c19 g5 | exact absurd c19 g6 | exact absurd c19 g7 | exact absurd c19 g8 | exact absurd (g9.mp c7) c13 | exact absurd (g9.mpr c13) c7 | exact absurd (g10.resolve_left c13) c19

set_option maxHeartbeats 4000000 in
set_option maxRecDepth 100000 in
theorem c_L_arePressesRight (l : Launch) (D : va_G) (ca : Nat → ClassId) (ad : Nat → Nat) (E : Em) (F : Fm) (L : Lm) (S : Sm) (n : Nat) (hlt : l.stackTraces = false) (q : Nat → Nat) (hlf : Lf F L S n q) (hjp : jp_all F L S n q) (sz : Nat) : Met l yL_arePressesRight (.code yL_arePressesRight cL_arePressesRight 4 (some .boolean) :: BG) { frames := 9, cells := 0, slots := 0, locals := 300 } (Pw D ca ad (E, F, L, S, n) sz [.ref (ad 0)]) (Qi D ca ad n (fun v u => v = 1 ∧ u.2 = (F, L, S, n)) sz) 0 0 (wA ad n sz) := by
  refine open_W (σ := (E, F, L, S, n)) (Qc := Qi D ca ad n (fun v u => v = 1 ∧ u.2 = (F, L, S, n))) (by decide +kernel) (Nat.le_of_ble_eq_true rfl) ?_
  intro p e s m args below meth c X hr hlk w cn ls hl
  have hl : lv_has ls 4 [(0, .ref (ad 0))] := hl
  have wf := hlf.1
  have hs := wf.2.2.1
  have hJ := wf.2.1.2
  refine lv_iconst (v := 0) X.1 X.2.1 dL_arePressesRight_0 (by decide) ?_
  refine lv_istore_n (lv' := [(1, .int 0), (0, .ref (ad 0))]) X.1 X.2.1 dL_arePressesRight_1 rfl hl (by decide) rfl (fun ls hl => ?_)
  refine lv_iconst (v := 0) X.1 X.2.1 dL_arePressesRight_2 (by decide) ?_
  refine lv_istore_n (lv' := [(2, .int 0), (1, .int 0), (0, .ref (ad 0))]) X.1 X.2.1 dL_arePressesRight_3 rfl hl (by decide) rfl (fun ls hl => ?_)
  refine lv_iload_n X.1 X.2.1 dL_arePressesRight_4 rfl (lv_at hl 0 rfl) ?_
  refine lv_iconst (v := 3) X.1 X.2.1 dL_arePressesRight_5 (by decide) ?_
  refine lv_icmp_ge (tgt := 169) X.1 X.2.1 dL_arePressesRight_6 (by decide) (fun c1 => ?_) (fun c1 => ?_)
  ·
    exact absurd c1 (by decide)
  ·
    refine sg_press X cn hlt q hlf (0 : Int32) (by decide) (hjp.1 _ (by decide)) (0 : Int32) _ _ w ls (lv_sub hl [0, 1, 2] rfl) (fun E2 H locs ls w hl => ?_)
    refine lv_iinc (v := 1) (lv' := [(2, .int 1), (1, .int (0 + s_ofPress F L q (6 + (0 : Int32).toNatClampNeg) 5)), (0, .ref (ad 0))]) X.1 X.2.1 dL_arePressesRight_163 hl (k := 0) rfl (by decide) (by decide) rfl (fun ls hl => ?_)
    refine lv_goto (tgt := 4) X.1 X.2.1 dL_arePressesRight_166 (by decide) ?_
    refine lv_iload_n X.1 X.2.1 dL_arePressesRight_4 rfl (lv_at hl 0 rfl) ?_
    refine lv_iconst (v := 3) X.1 X.2.1 dL_arePressesRight_5 (by decide) ?_
    refine lv_icmp_ge (tgt := 169) X.1 X.2.1 dL_arePressesRight_6 (by decide) (fun c3 => ?_) (fun c3 => ?_)
    ·
      exact absurd c3 (by decide)
    ·
      refine sg_press X cn hlt q hlf (1 : Int32) (by decide) (hjp.1 _ (by decide)) (0 + s_ofPress F L q (6 + (0 : Int32).toNatClampNeg) 5) _ _ w ls (lv_sub hl [0, 1, 2] rfl) (fun E4 H locs ls w hl => ?_)
      refine lv_iinc (v := 2) (lv' := [(2, .int 2), (1, .int ((0 + s_ofPress F L q (6 + (0 : Int32).toNatClampNeg) 5) + s_ofPress F L q (6 + (1 : Int32).toNatClampNeg) 5)), (0, .ref (ad 0))]) X.1 X.2.1 dL_arePressesRight_163 hl (k := 0) rfl (by decide) (by decide) rfl (fun ls hl => ?_)
      refine lv_goto (tgt := 4) X.1 X.2.1 dL_arePressesRight_166 (by decide) ?_
      refine lv_iload_n X.1 X.2.1 dL_arePressesRight_4 rfl (lv_at hl 0 rfl) ?_
      refine lv_iconst (v := 3) X.1 X.2.1 dL_arePressesRight_5 (by decide) ?_
      refine lv_icmp_ge (tgt := 169) X.1 X.2.1 dL_arePressesRight_6 (by decide) (fun c5 => ?_) (fun c5 => ?_)
      ·
        exact absurd c5 (by decide)
      ·
        refine sg_press X cn hlt q hlf (2 : Int32) (by decide) (hjp.1 _ (by decide)) ((0 + s_ofPress F L q (6 + (0 : Int32).toNatClampNeg) 5) + s_ofPress F L q (6 + (1 : Int32).toNatClampNeg) 5) _ _ w ls (lv_sub hl [0, 1, 2] rfl) (fun E6 H locs ls w hl => ?_)
        refine lv_iinc (v := 3) (lv' := [(2, .int 3), (1, .int (((0 + s_ofPress F L q (6 + (0 : Int32).toNatClampNeg) 5) + s_ofPress F L q (6 + (1 : Int32).toNatClampNeg) 5) + s_ofPress F L q (6 + (2 : Int32).toNatClampNeg) 5)), (0, .ref (ad 0))]) X.1 X.2.1 dL_arePressesRight_163 hl (k := 0) rfl (by decide) (by decide) rfl (fun ls hl => ?_)
        refine lv_goto (tgt := 4) X.1 X.2.1 dL_arePressesRight_166 (by decide) ?_
        refine lv_iload_n X.1 X.2.1 dL_arePressesRight_4 rfl (lv_at hl 0 rfl) ?_
        refine lv_iconst (v := 3) X.1 X.2.1 dL_arePressesRight_5 (by decide) ?_
        refine lv_icmp_ge (tgt := 169) X.1 X.2.1 dL_arePressesRight_6 (by decide) (fun c7 => ?_) (fun c7 => ?_)
        ·
          refine lv_iload_n X.1 X.2.1 dL_arePressesRight_169 rfl (lv_at hl 1 rfl) ?_
          refine lv_aload_n X.1 X.2.1 dL_arePressesRight_170 rfl (lv_at hl 2 rfl) ?_
          refine lv_iconst (v := 2) X.1 X.2.1 dL_arePressesRight_171 (by decide) ?_
          have h9 : (erW 10 (2 : Int32)) = 0 := (by decide)
          refine w_calli cn w (w_runV (n := 1) (As := [.int 2]) X cn w (lt17 (by decide)) wC_0 rfl (fun sz => met_of (c_X4_many l D ca ad E6 F L S n hlt q wf (2 : Int32) 0 0 (fun h => (h h9).elim) sz) h9) (bg_V kw_179 kw_180 kw_181 kw_31 kw_182) rfl rfl (by decide +kernel) ⟨(Nat.le_of_ble_eq_true rfl), (Nat.le_of_ble_eq_true rfl)⟩ rfl hl.1 rfl (Nat.le_of_ble_eq_true rfl) dL_arePressesRight_172 ⟨(Nat.le_of_ble_eq_true rfl), (Nat.le_of_ble_eq_true rfl)⟩) (fun r8 u H locs hp w => ?_)
          obtain ⟨E10, q11⟩ := u
          obtain ⟨-, rfl, h12⟩ := hp
          have h12 : q11 = (F, L, S, n) := h12
          subst h12
          refine lv_icmp_ne (tgt := 211) X.1 X.2.1 dL_arePressesRight_175 (by decide) (fun c13 => ?_) (fun c13 => ?_)
          ·
            skip
            obtain ⟨-, g1, g2, g3⟩ := hjp
            first | exact absurd g1 c13 | exact absurd c13 g2 | exact absurd c13 g3
          ·
            refine lv_aload_n X.1 X.2.1 dL_arePressesRight_178 rfl (lv_at hl 2 rfl) ?_
            refine lv_bipush (v := 9) X.1 X.2.1 dL_arePressesRight_179 (by decide) ?_
            have h15 : (erW 10 (9 : Int32)) = 0 := (by decide)
            refine w_calli cn w (w_runV (n := 1) (As := [.int 9]) X cn w (lt17 (by decide)) wC_0 rfl (fun sz => met_of (c_X4_many l D ca ad E10 F L S n hlt q wf (9 : Int32) 0 0 (fun h => (h h15).elim) sz) h15) (bg_V kw_179 kw_180 kw_181 kw_31 kw_182) rfl rfl (by decide +kernel) ⟨(Nat.le_of_ble_eq_true rfl), (Nat.le_of_ble_eq_true rfl)⟩ rfl hl.1 rfl (Nat.le_of_ble_eq_true rfl) dL_arePressesRight_181 ⟨(Nat.le_of_ble_eq_true rfl), (Nat.le_of_ble_eq_true rfl)⟩) (fun r14 u H locs hp w => ?_)
            obtain ⟨E16, q17⟩ := u
            obtain ⟨-, rfl, h18⟩ := hp
            have h18 : q17 = (F, L, S, n) := h18
            subst h18
            refine lv_aload_n X.1 X.2.1 dL_arePressesRight_184 rfl (lv_at hl 2 rfl) ?_
            refine lv_iconst (v := 3) X.1 X.2.1 dL_arePressesRight_185 (by decide) ?_
            have h20 : (erW 10 (3 : Int32)) = 0 := (by decide)
            refine w_calli cn w (w_runV (n := 1) (As := [.int 3]) X cn w (lt17 (by decide)) wC_0 rfl (fun sz => met_of (c_X4_many l D ca ad E16 F L S n hlt q wf (3 : Int32) 0 0 (fun h => (h h20).elim) sz) h20) (bg_V kw_179 kw_180 kw_181 kw_31 kw_182) rfl rfl (by decide +kernel) ⟨(Nat.le_of_ble_eq_true rfl), (Nat.le_of_ble_eq_true rfl)⟩ rfl hl.1 rfl (Nat.le_of_ble_eq_true rfl) dL_arePressesRight_186 ⟨(Nat.le_of_ble_eq_true rfl), (Nat.le_of_ble_eq_true rfl)⟩) (fun r19 u H locs hp w => ?_)
            obtain ⟨E21, q22⟩ := u
            obtain ⟨-, rfl, h23⟩ := hp
            have h23 : q22 = (F, L, S, n) := h23
            subst h23
            refine lv_aload_n X.1 X.2.1 dL_arePressesRight_189 rfl (lv_at hl 2 rfl) ?_
            refine lv_iconst (v := 4) X.1 X.2.1 dL_arePressesRight_190 (by decide) ?_
            have h25 : (erW 10 (4 : Int32)) = 0 := (by decide)
            refine w_calli cn w (w_runV (n := 1) (As := [.int 4]) X cn w (lt17 (by decide)) wC_0 rfl (fun sz => met_of (c_X4_many l D ca ad E21 F L S n hlt q wf (4 : Int32) 0 0 (fun h => (h h25).elim) sz) h25) (bg_V kw_179 kw_180 kw_181 kw_31 kw_182) rfl rfl (by decide +kernel) ⟨(Nat.le_of_ble_eq_true rfl), (Nat.le_of_ble_eq_true rfl)⟩ rfl hl.1 rfl (Nat.le_of_ble_eq_true rfl) dL_arePressesRight_191 ⟨(Nat.le_of_ble_eq_true rfl), (Nat.le_of_ble_eq_true rfl)⟩) (fun r24 u H locs hp w => ?_)
            obtain ⟨E26, q27⟩ := u
            obtain ⟨-, rfl, h28⟩ := hp
            have h28 : q27 = (F, L, S, n) := h28
            subst h28
            refine lv_iadd X.1 X.2.1 dL_arePressesRight_194 ?_
            refine lv_icmp_lt (tgt := 211) X.1 X.2.1 dL_arePressesRight_195 (by decide) (fun c29 => ?_) (fun c29 => ?_)
            ·
              skip
              obtain ⟨-, g1, g2, g3⟩ := hjp
              first | exact absurd g1 c29 | exact absurd c29 g2 | exact absurd c29 g3
            ·
              refine lv_aload_n X.1 X.2.1 dL_arePressesRight_198 rfl (lv_at hl 2 rfl) ?_
              refine lv_bipush (v := 10) X.1 X.2.1 dL_arePressesRight_199 (by decide) ?_
              have h31 : (erW 10 (10 : Int32)) = 0 := (by decide)
              refine w_calli cn w (w_runV (n := 1) (As := [.int 10]) X cn w (lt17 (by decide)) wC_0 rfl (fun sz => met_of (c_X4_many l D ca ad E26 F L S n hlt q wf (10 : Int32) 0 0 (fun h => (h h31).elim) sz) h31) (bg_V kw_179 kw_180 kw_181 kw_31 kw_182) rfl rfl (by decide +kernel) ⟨(Nat.le_of_ble_eq_true rfl), (Nat.le_of_ble_eq_true rfl)⟩ rfl hl.1 rfl (Nat.le_of_ble_eq_true rfl) dL_arePressesRight_201 ⟨(Nat.le_of_ble_eq_true rfl), (Nat.le_of_ble_eq_true rfl)⟩) (fun r30 u H locs hp w => ?_)
              obtain ⟨E32, q33⟩ := u
              obtain ⟨-, rfl, h34⟩ := hp
              have h34 : q33 = (F, L, S, n) := h34
              subst h34
              refine lv_if_lt (tgt := 211) X.1 X.2.1 dL_arePressesRight_204 (by decide) (fun c35 => ?_) (fun c35 => ?_)
              ·
                skip
                obtain ⟨-, g1, g2, g3⟩ := hjp
                first | exact absurd g1 c35 | exact absurd c35 g2 | exact absurd c35 g3
              ·
                refine lv_iconst (v := 1) X.1 X.2.1 dL_arePressesRight_207 (by decide) ?_
                refine lv_goto (tgt := 212) X.1 X.2.1 dL_arePressesRight_208 (by decide) ?_
                exact w_iret X hr hlk w (by  exact ⟨rfl, rfl⟩) dL_arePressesRight_212 rfl (Nat.le_of_ble_eq_true rfl) (Nat.le_of_ble_eq_true rfl)
        ·
          exact absurd (by decide) c7
