theorem many_0 {F : Fm} {n : Nat} : s_many F n 0 = F 0 3 := by unfold s_many; rw [if_pos (by decide)]
def s_tly (F : Fm) : Nat → Nat → (Nat → Int32) → (Nat → Int32)
  | 0, _, f => f
  | d + 1, k, f => s_tly F d (k + 1) (upd f (s_ofJob F (nI k).toNatClampNeg (6 : Int32)).toNatClampNeg (f (s_ofJob F (nI k).toNatClampNeg (6 : Int32)).toNatClampNeg + 1))
def s_spd (F : Fm) : Nat → Nat → Int32 → Int32
  | 0, _, a => a
  | d + 1, k, a => s_spd F d (k + 1) (a + s_ofJob F (nI k).toNatClampNeg (10 : Int32))
def s_bil (F : Fm) : Nat → Nat → Int32 → Int32
  | 0, _, a => a
  | d + 1, k, a => s_bil F d (k + 1) (a + s_ofJob F (nI k).toNatClampNeg (11 : Int32))
def jj_all (F : Fm) (L : Lm) (S : Sm) (n : Nat) (q : Nat → Nat) : Prop := (∀ k, k < n → jj_ok F L S q k) ∧
  s_many F n (1 + 0) = s_tly F n 0 (fun _ => 0) (0 : Int32).toNatClampNeg ∧ s_many F n (1 + 1) = s_tly F n 0 (fun _ => 0) (1 : Int32).toNatClampNeg ∧ s_many F n (1 + 2) = s_tly F n 0 (fun _ => 0) (2 : Int32).toNatClampNeg ∧ s_many F n (1 + 3) = s_tly F n 0 (fun _ => 0) (3 : Int32).toNatClampNeg ∧
  s_many F n 7 = s_spd F n 0 0 ∧ s_many F n 6 = s_bil F n 0 0

set_option maxHeartbeats 4000000 in
set_option maxRecDepth 100000 in
theorem lp_jobs {p : Program} {l : Launch} {e : Env} {s : State} {m : MethodId} {args : Array Value} {below : List Frame} {meth : Method} {c : Code} {D : va_G} {ca : Nat → ClassId} {ad : Nat → Nat} {F : Fm} {L : Lm} {S : Sm} {n : Nat} {A : Nat → Prop} {Q : State → Prop} (X : CallFix p m c cL_areJobsRight 13 s args BG yL_areJobsRight.cls) (cn : Cn A s) (hlt : l.stackTraces = false) (q : Nat → Nat) (hlf : Lf F L S n q) (hjj : ∀ k, k < n → jj_ok F L S q k) (b : Nat) (cA : ClassId) (hbx : ∀ o, o < 17 + n → b ≠ ad o) (hAb : A b) (hK1 : va_K D vwCl [(cA, .int)] s) :
    ∀ (d : Nat) (k : Nat) (f : Nat → Int32) (sp : Int32) (bi : Int32), k + d = n → ∀ (E : Em) (H : Heap) (locs : List Loc), Wd D ca ad A s H locs (E, F, L, S, n) → va_P D vwCl [(b, .inl (cA, 4, .inl f))] H → ∀ (ls : Array Slot), lv_has ls 13 [(4, .int (nI k)), (0, .ref (ad 0)), (1, .ref b), (2, .int sp), (3, .int bi)] →
    (∀ (E1 : Em) (H1 : Heap) (locs1 : List Loc) (ls1 : Array Slot), Wd D ca ad A s H1 locs1 (E1, F, L, S, n) → va_P D vwCl [(b, .inl (cA, 4, .inl (s_tly F d k f)))] H1 → lv_has ls1 13 [(2, .int (s_spd F d k sp)), (3, .int (s_bil F d k bi)), (0, .ref (ad 0)), (1, .ref b)] → W p l e { frames := 9, cells := 1, slots := 4, locals := 300 } s m args below meth c H1 locs1 1 4 Q (F0 m 429 ls1 [])) →
    W p l e { frames := 9, cells := 1, slots := 4, locals := 300 } s m args below meth c H locs 1 4 Q (F0 m 11 ls []) := by
  have wf := hlf.1
  have hs := wf.2.2.1
  have hJ := wf.2.1.2
  intro d
  induction d with
  | zero =>
    intro k f sp bi hkd E H locs w hx ls hl kk
    refine lv_iload X.1 X.2.1 dL_areJobsRight_11 (lv_at hl 0 rfl) ?_
    refine lv_aload_n X.1 X.2.1 dL_areJobsRight_13 rfl (lv_at hl 1 rfl) ?_
    refine lv_iconst (v := 0) X.1 X.2.1 dL_areJobsRight_14 (by decide) ?_
    have h2 : (erW 10 (0 : Int32)) = 0 := (by decide)
    refine x_calli cn w hbx hx (w_runV (n := 1) (As := [.int 0]) X cn w (lt17 (by decide)) wC_0 rfl (fun sz => met_of (c_X4_many l D ca ad E F L S n hlt q wf (0 : Int32) 0 0 (fun h => (h h2).elim) sz) h2) (bg_V kw_179 kw_180 kw_181 kw_31 kw_182) rfl rfl (by decide +kernel) ⟨(Nat.le_of_ble_eq_true rfl), (Nat.le_of_ble_eq_true rfl)⟩ rfl hl.1 rfl (Nat.le_of_ble_eq_true rfl) dL_areJobsRight_15 ⟨(Nat.le_of_ble_eq_true rfl), (Nat.le_of_ble_eq_true rfl)⟩) (fun r1 u H locs hp w hx => ?_)
    obtain ⟨E3, q4⟩ := u
    obtain ⟨-, rfl, h5⟩ := hp
    have h5 : q4 = (F, L, S, n) := h5
    subst h5
    refine lv_icmp_ge (tgt := 429) X.1 X.2.1 dL_areJobsRight_18 (by decide) (fun c6 => ?_) (fun c6 => ?_)
    ·
      skip
      exact kk E3 _ _ ls w hx (lv_sub hl [3, 4, 1, 2] rfl)
    ·
      exact absurd (by rw [many_0, wf.2.1.1]; exact (geN hkd wf.1).mpr rfl) c6
  | succ d ih =>
    intro k f sp bi hkd E H locs w hx ls hl kk
    refine lv_iload X.1 X.2.1 dL_areJobsRight_11 (lv_at hl 0 rfl) ?_
    refine lv_aload_n X.1 X.2.1 dL_areJobsRight_13 rfl (lv_at hl 1 rfl) ?_
    refine lv_iconst (v := 0) X.1 X.2.1 dL_areJobsRight_14 (by decide) ?_
    have h2 : (erW 10 (0 : Int32)) = 0 := (by decide)
    refine x_calli cn w hbx hx (w_runV (n := 1) (As := [.int 0]) X cn w (lt17 (by decide)) wC_0 rfl (fun sz => met_of (c_X4_many l D ca ad E F L S n hlt q wf (0 : Int32) 0 0 (fun h => (h h2).elim) sz) h2) (bg_V kw_179 kw_180 kw_181 kw_31 kw_182) rfl rfl (by decide +kernel) ⟨(Nat.le_of_ble_eq_true rfl), (Nat.le_of_ble_eq_true rfl)⟩ rfl hl.1 rfl (Nat.le_of_ble_eq_true rfl) dL_areJobsRight_15 ⟨(Nat.le_of_ble_eq_true rfl), (Nat.le_of_ble_eq_true rfl)⟩) (fun r1 u H locs hp w hx => ?_)
    obtain ⟨E3, q4⟩ := u
    obtain ⟨-, rfl, h5⟩ := hp
    have h5 : q4 = (F, L, S, n) := h5
    subst h5
    refine lv_icmp_ge (tgt := 429) X.1 X.2.1 dL_areJobsRight_18 (by decide) (fun c6 => ?_) (fun c6 => ?_)
    ·
      rw [many_0, wf.2.1.1] at c6; exact absurd ((geN hkd wf.1).mp c6) (by omega)
    ·
      refine sg_job X cn hlt q hlf k (by omega) (hjj k (by omega)) sp bi b cA f hbx hAb hK1 _ _ w hx ls (lv_sub hl [0, 1, 2, 3, 4] rfl) (fun E7 H locs ls w hx hl => ?_)
      refine lv_iinc (v := (nI (k + 1))) (lv' := [(4, .int (nI (k + 1))), (0, .ref (ad 0)), (1, .ref b), (2, .int (sp + s_ofJob F (nI k).toNatClampNeg (10 : Int32))), (3, .int (bi + s_ofJob F (nI k).toNatClampNeg (11 : Int32)))]) X.1 X.2.1 dL_areJobsRight_423 hl (k := 0) rfl (nI_1 k) (by decide) rfl (fun ls hl => ?_)
      refine lv_goto (tgt := 11) X.1 X.2.1 dL_areJobsRight_426 (by decide) ?_
      have hz1 : (s_spd F (d + 1) k sp) = (s_spd F d (k + 1) (sp + s_ofJob F (nI k).toNatClampNeg (10 : Int32))) := by  rfl
      rw [hz1] at kk
      have hz2 : (s_bil F (d + 1) k bi) = (s_bil F d (k + 1) (bi + s_ofJob F (nI k).toNatClampNeg (11 : Int32))) := by  rfl
      rw [hz2] at kk
      have hz3 : (s_tly F (d + 1) k f) = (s_tly F d (k + 1) (upd f (s_ofJob F (nI k).toNatClampNeg (6 : Int32)).toNatClampNeg (f (s_ofJob F (nI k).toNatClampNeg (6 : Int32)).toNatClampNeg + 1))) := by  rfl
      rw [hz3] at kk
      exact ih (k + 1) (upd f (s_ofJob F (nI k).toNatClampNeg (6 : Int32)).toNatClampNeg (f (s_ofJob F (nI k).toNatClampNeg (6 : Int32)).toNatClampNeg + 1)) (sp + s_ofJob F (nI k).toNatClampNeg (10 : Int32)) (bi + s_ofJob F (nI k).toNatClampNeg (11 : Int32)) (by omega) E7 H locs w hx ls (lv_sub hl [0, 1, 2, 3, 4] rfl) kk

set_option maxHeartbeats 4000000 in
set_option maxRecDepth 100000 in
theorem c_L_areJobsRight (l : Launch) (D : va_G) (ca : Nat → ClassId) (ad : Nat → Nat) (E : Em) (F : Fm) (L : Lm) (S : Sm) (n : Nat) (hlt : l.stackTraces = false) (q : Nat → Nat) (hlf : Lf F L S n q) (hjj : jj_all F L S n q) (sz : Nat) : Met l yL_areJobsRight (.code yL_areJobsRight cL_areJobsRight 13 (some .boolean) :: BG) { frames := 9, cells := 1, slots := 4, locals := 300 } (Pw D ca ad (E, F, L, S, n) sz [.ref (ad 0)]) (Qi D ca ad n (fun v u => v = 1 ∧ u.2 = (F, L, S, n)) sz) 1 4 (wA ad n sz) := by
  refine open_W (σ := (E, F, L, S, n)) (Qc := Qi D ca ad n (fun v u => v = 1 ∧ u.2 = (F, L, S, n))) (by decide +kernel) (Nat.le_of_ble_eq_true rfl) ?_
  intro p e s m args below meth c X hr hlk w cn ls hl
  have hl : lv_has ls 13 [(0, .ref (ad 0))] := hl
  have wf := hlf.1
  have hs := wf.2.2.1
  have hJ := wf.2.1.2
  refine lv_iconst (v := 4) X.1 X.2.1 dL_areJobsRight_0 (by decide) ?_
  refine x_new X cn w (X.2.2.2.2 _ kw_646) (Nat.le_of_ble_eq_true rfl) (Nat.le_of_ble_eq_true rfl) dL_areJobsRight_1 (fun b cA H w hx hbx hAb hK1 => ?_)
  refine lv_astore_n (lv' := [(1, .ref b), (0, .ref (ad 0))]) X.1 X.2.1 dL_areJobsRight_3 rfl hl (by decide) rfl (fun ls hl => ?_)
  refine lv_iconst (v := 0) X.1 X.2.1 dL_areJobsRight_4 (by decide) ?_
  refine lv_istore_n (lv' := [(2, .int 0), (1, .ref b), (0, .ref (ad 0))]) X.1 X.2.1 dL_areJobsRight_5 rfl hl (by decide) rfl (fun ls hl => ?_)
  refine lv_iconst (v := 0) X.1 X.2.1 dL_areJobsRight_6 (by decide) ?_
  refine lv_istore_n (lv' := [(3, .int 0), (2, .int 0), (1, .ref b), (0, .ref (ad 0))]) X.1 X.2.1 dL_areJobsRight_7 rfl hl (by decide) rfl (fun ls hl => ?_)
  refine lv_iconst (v := 0) X.1 X.2.1 dL_areJobsRight_8 (by decide) ?_
  refine lv_istore (lv' := [(4, .int 0), (3, .int 0), (2, .int 0), (1, .ref b), (0, .ref (ad 0))]) X.1 X.2.1 dL_areJobsRight_9 hl (by decide) rfl (fun ls hl => ?_)
  refine lp_jobs (n := n) X cn hlt q hlf hjj.1 b cA hbx hAb hK1 n 0 (fun _ => 0) 0 0 (by omega) E _ _ w hx ls (lv_sub hl [0, 4, 3, 2, 1] rfl) (fun E1 H locs ls w hx hl => ?_)
  refine lv_iconst (v := 0) X.1 X.2.1 dL_areJobsRight_429 (by decide) ?_
  refine lv_istore (lv' := [(4, .int 0), (2, .int (s_spd F n 0 0)), (3, .int (s_bil F n 0 0)), (0, .ref (ad 0)), (1, .ref b)]) X.1 X.2.1 dL_areJobsRight_430 hl (by decide) rfl (fun ls hl => ?_)
  refine lv_iload X.1 X.2.1 dL_areJobsRight_432 (lv_at hl 0 rfl) ?_
  refine lv_iconst (v := 4) X.1 X.2.1 dL_areJobsRight_434 (by decide) ?_
  refine lv_icmp_ge (tgt := 461) X.1 X.2.1 dL_areJobsRight_435 (by decide) (fun c2 => ?_) (fun c2 => ?_)
  ·
    exact absurd c2 (by decide)
  ·
    refine lv_aload_n X.1 X.2.1 dL_areJobsRight_438 rfl (lv_at hl 3 rfl) ?_
    refine lv_iconst (v := 1) X.1 X.2.1 dL_areJobsRight_439 (by decide) ?_
    refine lv_iload X.1 X.2.1 dL_areJobsRight_440 (lv_at hl 0 rfl) ?_
    refine lv_iadd X.1 X.2.1 dL_areJobsRight_442 ?_
    have h4 : (erW 10 (1 + 0)) = 0 := (by decide)
    refine x_calli cn w hbx hx (w_runV (n := 1) (As := [.int (1 + 0)]) X cn w (lt17 (by decide)) wC_0 rfl (fun sz => met_of (c_X4_many l D ca ad E1 F L S n hlt q wf (1 + 0) 0 0 (fun h => (h h4).elim) sz) h4) (bg_V kw_179 kw_180 kw_181 kw_31 kw_182) rfl rfl (by decide +kernel) ⟨(Nat.le_of_ble_eq_true rfl), (Nat.le_of_ble_eq_true rfl)⟩ rfl hl.1 rfl (Nat.le_of_ble_eq_true rfl) dL_areJobsRight_443 ⟨(Nat.le_of_ble_eq_true rfl), (Nat.le_of_ble_eq_true rfl)⟩) (fun r3 u H locs hp w hx => ?_)
    obtain ⟨E5, q6⟩ := u
    obtain ⟨-, rfl, h7⟩ := hp
    have h7 : q6 = (F, L, S, n) := h7
    subst h7
    refine lv_aload_n X.1 X.2.1 dL_areJobsRight_446 rfl (lv_at hl 4 rfl) ?_
    refine lv_iload X.1 X.2.1 dL_areJobsRight_447 (lv_at hl 0 rfl) ?_
    refine va_iald X.1 X.2.1 hK1 hx 0 0 rfl rfl (in_lit (by decide)) dL_areJobsRight_449 ?_
    refine lv_icmp_eq (tgt := 455) X.1 X.2.1 dL_areJobsRight_450 (by decide) (fun c8 => ?_) (fun c8 => ?_)
    ·
      refine lv_iinc (v := 1) (lv' := [(4, .int 1), (2, .int (s_spd F n 0 0)), (3, .int (s_bil F n 0 0)), (0, .ref (ad 0)), (1, .ref b)]) X.1 X.2.1 dL_areJobsRight_455 hl (k := 0) rfl (by decide) (by decide) rfl (fun ls hl => ?_)
      refine lv_goto (tgt := 432) X.1 X.2.1 dL_areJobsRight_458 (by decide) ?_
      refine lv_iload X.1 X.2.1 dL_areJobsRight_432 (lv_at hl 0 rfl) ?_
      refine lv_iconst (v := 4) X.1 X.2.1 dL_areJobsRight_434 (by decide) ?_
      refine lv_icmp_ge (tgt := 461) X.1 X.2.1 dL_areJobsRight_435 (by decide) (fun c9 => ?_) (fun c9 => ?_)
      ·
        exact absurd c9 (by decide)
      ·
        refine lv_aload_n X.1 X.2.1 dL_areJobsRight_438 rfl (lv_at hl 3 rfl) ?_
        refine lv_iconst (v := 1) X.1 X.2.1 dL_areJobsRight_439 (by decide) ?_
        refine lv_iload X.1 X.2.1 dL_areJobsRight_440 (lv_at hl 0 rfl) ?_
        refine lv_iadd X.1 X.2.1 dL_areJobsRight_442 ?_
        have h11 : (erW 10 (1 + 1)) = 0 := (by decide)
        refine x_calli cn w hbx hx (w_runV (n := 1) (As := [.int (1 + 1)]) X cn w (lt17 (by decide)) wC_0 rfl (fun sz => met_of (c_X4_many l D ca ad E5 F L S n hlt q wf (1 + 1) 0 0 (fun h => (h h11).elim) sz) h11) (bg_V kw_179 kw_180 kw_181 kw_31 kw_182) rfl rfl (by decide +kernel) ⟨(Nat.le_of_ble_eq_true rfl), (Nat.le_of_ble_eq_true rfl)⟩ rfl hl.1 rfl (Nat.le_of_ble_eq_true rfl) dL_areJobsRight_443 ⟨(Nat.le_of_ble_eq_true rfl), (Nat.le_of_ble_eq_true rfl)⟩) (fun r10 u H locs hp w hx => ?_)
        obtain ⟨E12, q13⟩ := u
        obtain ⟨-, rfl, h14⟩ := hp
        have h14 : q13 = (F, L, S, n) := h14
        subst h14
        refine lv_aload_n X.1 X.2.1 dL_areJobsRight_446 rfl (lv_at hl 4 rfl) ?_
        refine lv_iload X.1 X.2.1 dL_areJobsRight_447 (lv_at hl 0 rfl) ?_
        refine va_iald X.1 X.2.1 hK1 hx 0 0 rfl rfl (in_lit (by decide)) dL_areJobsRight_449 ?_
        refine lv_icmp_eq (tgt := 455) X.1 X.2.1 dL_areJobsRight_450 (by decide) (fun c15 => ?_) (fun c15 => ?_)
        ·
          refine lv_iinc (v := 2) (lv' := [(4, .int 2), (2, .int (s_spd F n 0 0)), (3, .int (s_bil F n 0 0)), (0, .ref (ad 0)), (1, .ref b)]) X.1 X.2.1 dL_areJobsRight_455 hl (k := 0) rfl (by decide) (by decide) rfl (fun ls hl => ?_)
          refine lv_goto (tgt := 432) X.1 X.2.1 dL_areJobsRight_458 (by decide) ?_
          refine lv_iload X.1 X.2.1 dL_areJobsRight_432 (lv_at hl 0 rfl) ?_
          refine lv_iconst (v := 4) X.1 X.2.1 dL_areJobsRight_434 (by decide) ?_
          refine lv_icmp_ge (tgt := 461) X.1 X.2.1 dL_areJobsRight_435 (by decide) (fun c16 => ?_) (fun c16 => ?_)
          ·
            exact absurd c16 (by decide)
          ·
            refine lv_aload_n X.1 X.2.1 dL_areJobsRight_438 rfl (lv_at hl 3 rfl) ?_
            refine lv_iconst (v := 1) X.1 X.2.1 dL_areJobsRight_439 (by decide) ?_
            refine lv_iload X.1 X.2.1 dL_areJobsRight_440 (lv_at hl 0 rfl) ?_
            refine lv_iadd X.1 X.2.1 dL_areJobsRight_442 ?_
            have h18 : (erW 10 (1 + 2)) = 0 := (by decide)
            refine x_calli cn w hbx hx (w_runV (n := 1) (As := [.int (1 + 2)]) X cn w (lt17 (by decide)) wC_0 rfl (fun sz => met_of (c_X4_many l D ca ad E12 F L S n hlt q wf (1 + 2) 0 0 (fun h => (h h18).elim) sz) h18) (bg_V kw_179 kw_180 kw_181 kw_31 kw_182) rfl rfl (by decide +kernel) ⟨(Nat.le_of_ble_eq_true rfl), (Nat.le_of_ble_eq_true rfl)⟩ rfl hl.1 rfl (Nat.le_of_ble_eq_true rfl) dL_areJobsRight_443 ⟨(Nat.le_of_ble_eq_true rfl), (Nat.le_of_ble_eq_true rfl)⟩) (fun r17 u H locs hp w hx => ?_)
            obtain ⟨E19, q20⟩ := u
            obtain ⟨-, rfl, h21⟩ := hp
            have h21 : q20 = (F, L, S, n) := h21
            subst h21
            refine lv_aload_n X.1 X.2.1 dL_areJobsRight_446 rfl (lv_at hl 4 rfl) ?_
            refine lv_iload X.1 X.2.1 dL_areJobsRight_447 (lv_at hl 0 rfl) ?_
            refine va_iald X.1 X.2.1 hK1 hx 0 0 rfl rfl (in_lit (by decide)) dL_areJobsRight_449 ?_
            refine lv_icmp_eq (tgt := 455) X.1 X.2.1 dL_areJobsRight_450 (by decide) (fun c22 => ?_) (fun c22 => ?_)
            ·
              refine lv_iinc (v := 3) (lv' := [(4, .int 3), (2, .int (s_spd F n 0 0)), (3, .int (s_bil F n 0 0)), (0, .ref (ad 0)), (1, .ref b)]) X.1 X.2.1 dL_areJobsRight_455 hl (k := 0) rfl (by decide) (by decide) rfl (fun ls hl => ?_)
              refine lv_goto (tgt := 432) X.1 X.2.1 dL_areJobsRight_458 (by decide) ?_
              refine lv_iload X.1 X.2.1 dL_areJobsRight_432 (lv_at hl 0 rfl) ?_
              refine lv_iconst (v := 4) X.1 X.2.1 dL_areJobsRight_434 (by decide) ?_
              refine lv_icmp_ge (tgt := 461) X.1 X.2.1 dL_areJobsRight_435 (by decide) (fun c23 => ?_) (fun c23 => ?_)
              ·
                exact absurd c23 (by decide)
              ·
                refine lv_aload_n X.1 X.2.1 dL_areJobsRight_438 rfl (lv_at hl 3 rfl) ?_
                refine lv_iconst (v := 1) X.1 X.2.1 dL_areJobsRight_439 (by decide) ?_
                refine lv_iload X.1 X.2.1 dL_areJobsRight_440 (lv_at hl 0 rfl) ?_
                refine lv_iadd X.1 X.2.1 dL_areJobsRight_442 ?_
                have h25 : (erW 10 (1 + 3)) = 0 := (by decide)
                refine x_calli cn w hbx hx (w_runV (n := 1) (As := [.int (1 + 3)]) X cn w (lt17 (by decide)) wC_0 rfl (fun sz => met_of (c_X4_many l D ca ad E19 F L S n hlt q wf (1 + 3) 0 0 (fun h => (h h25).elim) sz) h25) (bg_V kw_179 kw_180 kw_181 kw_31 kw_182) rfl rfl (by decide +kernel) ⟨(Nat.le_of_ble_eq_true rfl), (Nat.le_of_ble_eq_true rfl)⟩ rfl hl.1 rfl (Nat.le_of_ble_eq_true rfl) dL_areJobsRight_443 ⟨(Nat.le_of_ble_eq_true rfl), (Nat.le_of_ble_eq_true rfl)⟩) (fun r24 u H locs hp w hx => ?_)
                obtain ⟨E26, q27⟩ := u
                obtain ⟨-, rfl, h28⟩ := hp
                have h28 : q27 = (F, L, S, n) := h28
                subst h28
                refine lv_aload_n X.1 X.2.1 dL_areJobsRight_446 rfl (lv_at hl 4 rfl) ?_
                refine lv_iload X.1 X.2.1 dL_areJobsRight_447 (lv_at hl 0 rfl) ?_
                refine va_iald X.1 X.2.1 hK1 hx 0 0 rfl rfl (in_lit (by decide)) dL_areJobsRight_449 ?_
                refine lv_icmp_eq (tgt := 455) X.1 X.2.1 dL_areJobsRight_450 (by decide) (fun c29 => ?_) (fun c29 => ?_)
                ·
                  refine lv_iinc (v := 4) (lv' := [(4, .int 4), (2, .int (s_spd F n 0 0)), (3, .int (s_bil F n 0 0)), (0, .ref (ad 0)), (1, .ref b)]) X.1 X.2.1 dL_areJobsRight_455 hl (k := 0) rfl (by decide) (by decide) rfl (fun ls hl => ?_)
                  refine lv_goto (tgt := 432) X.1 X.2.1 dL_areJobsRight_458 (by decide) ?_
                  refine lv_iload X.1 X.2.1 dL_areJobsRight_432 (lv_at hl 0 rfl) ?_
                  refine lv_iconst (v := 4) X.1 X.2.1 dL_areJobsRight_434 (by decide) ?_
                  refine lv_icmp_ge (tgt := 461) X.1 X.2.1 dL_areJobsRight_435 (by decide) (fun c30 => ?_) (fun c30 => ?_)
                  ·
                    refine lv_aload_n X.1 X.2.1 dL_areJobsRight_461 rfl (lv_at hl 3 rfl) ?_
                    refine lv_bipush (v := 7) X.1 X.2.1 dL_areJobsRight_462 (by decide) ?_
                    have h32 : (erW 10 (7 : Int32)) = 0 := (by decide)
                    refine x_calli cn w hbx hx (w_runV (n := 1) (As := [.int 7]) X cn w (lt17 (by decide)) wC_0 rfl (fun sz => met_of (c_X4_many l D ca ad E26 F L S n hlt q wf (7 : Int32) 0 0 (fun h => (h h32).elim) sz) h32) (bg_V kw_179 kw_180 kw_181 kw_31 kw_182) rfl rfl (by decide +kernel) ⟨(Nat.le_of_ble_eq_true rfl), (Nat.le_of_ble_eq_true rfl)⟩ rfl hl.1 rfl (Nat.le_of_ble_eq_true rfl) dL_areJobsRight_464 ⟨(Nat.le_of_ble_eq_true rfl), (Nat.le_of_ble_eq_true rfl)⟩) (fun r31 u H locs hp w hx => ?_)
                    obtain ⟨E33, q34⟩ := u
                    obtain ⟨-, rfl, h35⟩ := hp
                    have h35 : q34 = (F, L, S, n) := h35
                    subst h35
                    refine lv_iload_n X.1 X.2.1 dL_areJobsRight_467 rfl (lv_at hl 1 rfl) ?_
                    refine lv_icmp_ne (tgt := 485) X.1 X.2.1 dL_areJobsRight_468 (by decide) (fun c36 => ?_) (fun c36 => ?_)
                    ·
                      obtain ⟨-, g0, g1, g2, g3, g4, g5⟩ := hjj
                      exact absurd g4 c36
                    ·
                      refine lv_aload_n X.1 X.2.1 dL_areJobsRight_471 rfl (lv_at hl 3 rfl) ?_
                      refine lv_bipush (v := 6) X.1 X.2.1 dL_areJobsRight_472 (by decide) ?_
                      have h38 : (erW 10 (6 : Int32)) = 0 := (by decide)
                      refine x_calli cn w hbx hx (w_runV (n := 1) (As := [.int 6]) X cn w (lt17 (by decide)) wC_0 rfl (fun sz => met_of (c_X4_many l D ca ad E33 F L S n hlt q wf (6 : Int32) 0 0 (fun h => (h h38).elim) sz) h38) (bg_V kw_179 kw_180 kw_181 kw_31 kw_182) rfl rfl (by decide +kernel) ⟨(Nat.le_of_ble_eq_true rfl), (Nat.le_of_ble_eq_true rfl)⟩ rfl hl.1 rfl (Nat.le_of_ble_eq_true rfl) dL_areJobsRight_474 ⟨(Nat.le_of_ble_eq_true rfl), (Nat.le_of_ble_eq_true rfl)⟩) (fun r37 u H locs hp w hx => ?_)
                      obtain ⟨E39, q40⟩ := u
                      obtain ⟨-, rfl, h41⟩ := hp
                      have h41 : q40 = (F, L, S, n) := h41
                      subst h41
                      refine lv_iload_n X.1 X.2.1 dL_areJobsRight_477 rfl (lv_at hl 2 rfl) ?_
                      refine lv_icmp_ne (tgt := 485) X.1 X.2.1 dL_areJobsRight_478 (by decide) (fun c42 => ?_) (fun c42 => ?_)
                      ·
                        obtain ⟨-, g0, g1, g2, g3, g4, g5⟩ := hjj
                        exact absurd g5 c42
                      ·
                        refine lv_iconst (v := 1) X.1 X.2.1 dL_areJobsRight_481 (by decide) ?_
                        refine lv_goto (tgt := 486) X.1 X.2.1 dL_areJobsRight_482 (by decide) ?_
                        exact w_iret X hr hlk w (by  exact ⟨rfl, rfl⟩) dL_areJobsRight_486 rfl (Nat.le_of_ble_eq_true rfl) (Nat.le_of_ble_eq_true rfl)
                  ·
                    exact absurd (by decide) c30
                ·
                  obtain ⟨-, g0, g1, g2, g3, g4, g5⟩ := hjj
                  exact absurd g3 c29
            ·
              obtain ⟨-, g0, g1, g2, g3, g4, g5⟩ := hjj
              exact absurd g2 c22
        ·
          obtain ⟨-, g0, g1, g2, g3, g4, g5⟩ := hjj
          exact absurd g1 c15
    ·
      obtain ⟨-, g0, g1, g2, g3, g4, g5⟩ := hjj
      exact absurd g0 c8
