theorem ofJob_at {F : Fm} {L : Lm} {S : Sm} {n : Nat} {q : Nat → Nat} (h : Lf F L S n q) {k : Nat} (hk : k < n) {x : Int32} (hx : erW 12 x = 0) : er_ofJob n (nI k) x = 0 := by rw [er_ofJob, if_pos (h.idx hk)]; exact hx
/-- how often a job stands in a queue, as the law counts it -/
def s_mkP (F : Fm) (L : Lm) (I : Int32) (r : Int32) (o : Nat) : Nat → Nat → Int32 → Int32
  | 0, _, a => a
  | d + 1, k, a => s_mkP F L I r o d (k + 1) (a + if s_queue F L o (nI k) = I then (if s_ofJob F I.toNatClampNeg (12 : Int32) = r then 1 else 0) else 0)

set_option maxHeartbeats 4000000 in
set_option maxRecDepth 100000 in
theorem lp_mk {p : Program} {l : Launch} {e : Env} {s : State} {m : MethodId} {args : Array Value} {below : List Frame} {meth : Method} {c : Code} {D : va_G} {ca : Nat → ClassId} {ad : Nat → Nat} {F : Fm} {L : Lm} {S : Sm} {n : Nat} {A : Nat → Prop} {Q : State → Prop} (X : CallFix p m c cL_areJobsRight 13 s args BG yL_areJobsRight.cls) (cn : Cn A s) (hlt : l.stackTraces = false) (q : Nat → Nat) (hlf : Lf F L S n q) (r : Int32) (h3 : erI 3 r = 0) (i : Nat) (hi : i < n) (sp bi st : Int32) (b : Nat) (cA : ClassId) (f : Nat → Int32) (hbx : ∀ o, o < 17 + n → b ≠ ad o) (hAb : A b) (hK1 : va_K D vwCl [(cA, .int)] s) :
    ∀ (d : Nat) (k : Nat) (a : Int32), k + d = q (6 + r.toNatClampNeg) → ∀ (E : Em) (H : Heap) (locs : List Loc), Wd D ca ad A s H locs (E, F, L, S, n) → va_P D vwCl [(b, .inl (cA, 4, .inl f))] H → ∀ (ls : Array Slot), lv_has ls 13 [(8, .int (nI k)), (6, .int a), (0, .ref (ad 0)), (1, .ref b), (2, .int sp), (3, .int bi), (4, .int (nI i)), (5, .int st), (7, .int r)] →
    (∀ (E1 : Em) (H1 : Heap) (locs1 : List Loc) (ls1 : Array Slot), Wd D ca ad A s H1 locs1 (E1, F, L, S, n) → va_P D vwCl [(b, .inl (cA, 4, .inl f))] H1 → lv_has ls1 13 [(6, .int (s_mkP F L (nI i) r (6 + r.toNatClampNeg) d k a)), (0, .ref (ad 0)), (1, .ref b), (2, .int sp), (3, .int bi), (4, .int (nI i)), (5, .int st), (7, .int r)] → W p l e { frames := 9, cells := 1, slots := 4, locals := 300 } s m args below meth c H1 locs1 1 4 Q (F0 m 130 ls1 [])) →
    W p l e { frames := 9, cells := 1, slots := 4, locals := 300 } s m args below meth c H locs 1 4 Q (F0 m 76 ls []) := by
  have wf := hlf.1
  have hs := wf.2.2.1
  have hJ := wf.2.1.2
  have ho := prs_in (in_erI h3)
  obtain ⟨hqo, hq20, hqj⟩ := wf.2.2.2 _ ho
  intro d
  induction d with
  | zero =>
    intro k a hkd E H locs w hx ls hl kk
    refine lv_iload X.1 X.2.1 dL_areJobsRight_76 (lv_at hl 0 rfl) ?_
    refine lv_aload_n X.1 X.2.1 dL_areJobsRight_78 rfl (lv_at hl 2 rfl) ?_
    refine lv_iload X.1 X.2.1 dL_areJobsRight_79 (lv_at hl 8 rfl) ?_
    refine lv_iconst (v := 5) X.1 X.2.1 dL_areJobsRight_81 (by decide) ?_
    have h2 : (er_ofPress r (5 : Int32)) = 0 := (by rw [er_ofPress, if_pos h3]; decide)
    refine x_calli cn w hbx hx (w_runV (n := 2) (As := [.int r, .int 5]) X cn w (lt17 (by decide)) wC_0 rfl (fun sz => met_of (c_X4_ofPress l D ca ad E F L S n hlt q wf r (5 : Int32) 0 0 (fun h => (h h2).elim) sz) h2) (bg_V kw_537 kw_358 kw_359 kw_31 kw_360) rfl rfl (by decide +kernel) ⟨(Nat.le_of_ble_eq_true rfl), (Nat.le_of_ble_eq_true rfl)⟩ rfl hl.1 rfl (Nat.le_of_ble_eq_true rfl) dL_areJobsRight_82 ⟨(Nat.le_of_ble_eq_true rfl), (Nat.le_of_ble_eq_true rfl)⟩) (fun r1 u H locs hp w hx => ?_)
    obtain ⟨E3, q4⟩ := u
    obtain ⟨-, rfl, h5⟩ := hp
    have h5 : q4 = (F, L, S, n) := h5
    subst h5
    refine lv_icmp_ge (tgt := 130) X.1 X.2.1 dL_areJobsRight_85 (by decide) (fun c6 => ?_) (fun c6 => ?_)
    ·
      skip
      exact kk E3 _ _ ls w hx (lv_sub hl [1, 2, 3, 4, 5, 6, 7, 8] rfl)
    ·
      exact absurd (by rw [ofPress_5, hqo]; exact (geN hkd hq20).mpr rfl) c6
  | succ d ih =>
    intro k a hkd E H locs w hx ls hl kk
    refine lv_iload X.1 X.2.1 dL_areJobsRight_76 (lv_at hl 0 rfl) ?_
    refine lv_aload_n X.1 X.2.1 dL_areJobsRight_78 rfl (lv_at hl 2 rfl) ?_
    refine lv_iload X.1 X.2.1 dL_areJobsRight_79 (lv_at hl 8 rfl) ?_
    refine lv_iconst (v := 5) X.1 X.2.1 dL_areJobsRight_81 (by decide) ?_
    have h2 : (er_ofPress r (5 : Int32)) = 0 := (by rw [er_ofPress, if_pos h3]; decide)
    refine x_calli cn w hbx hx (w_runV (n := 2) (As := [.int r, .int 5]) X cn w (lt17 (by decide)) wC_0 rfl (fun sz => met_of (c_X4_ofPress l D ca ad E F L S n hlt q wf r (5 : Int32) 0 0 (fun h => (h h2).elim) sz) h2) (bg_V kw_537 kw_358 kw_359 kw_31 kw_360) rfl rfl (by decide +kernel) ⟨(Nat.le_of_ble_eq_true rfl), (Nat.le_of_ble_eq_true rfl)⟩ rfl hl.1 rfl (Nat.le_of_ble_eq_true rfl) dL_areJobsRight_82 ⟨(Nat.le_of_ble_eq_true rfl), (Nat.le_of_ble_eq_true rfl)⟩) (fun r1 u H locs hp w hx => ?_)
    obtain ⟨E3, q4⟩ := u
    obtain ⟨-, rfl, h5⟩ := hp
    have h5 : q4 = (F, L, S, n) := h5
    subst h5
    refine lv_icmp_ge (tgt := 130) X.1 X.2.1 dL_areJobsRight_85 (by decide) (fun c6 => ?_) (fun c6 => ?_)
    ·
      rw [ofPress_5, hqo] at c6; exact absurd ((geN hkd hq20).mp c6) (by omega)
    ·
      refine lv_iload X.1 X.2.1 dL_areJobsRight_88 (lv_at hl 1 rfl) ?_
      refine lv_aload_n X.1 X.2.1 dL_areJobsRight_90 rfl (lv_at hl 2 rfl) ?_
      refine lv_iload X.1 X.2.1 dL_areJobsRight_91 (lv_at hl 8 rfl) ?_
      refine lv_iload X.1 X.2.1 dL_areJobsRight_93 (lv_at hl 0 rfl) ?_
      have h8 : (er_queue F L r (nI k)) = 0 := (queue_ok h3 hqo hq20 (by omega) (hlf.2.1 _ ho k (by omega)))
      refine x_calli cn w hbx hx (w_runV (n := 2) (As := [.int r, .int (nI k)]) X cn w (lt17 (by decide)) wC_0 rfl (fun sz => met_of (c_X4_queue l D ca ad E3 F L S n hlt q wf r (nI k) 0 0 (fun h => (h h8).elim) sz) h8) (bg_V kw_538 kw_372 kw_373 kw_31 kw_374) rfl rfl (by decide +kernel) ⟨(Nat.le_of_ble_eq_true rfl), (Nat.le_of_ble_eq_true rfl)⟩ rfl hl.1 rfl (Nat.le_of_ble_eq_true rfl) dL_areJobsRight_95 ⟨(Nat.le_of_ble_eq_true rfl), (Nat.le_of_ble_eq_true rfl)⟩) (fun r7 u H locs hp w hx => ?_)
      obtain ⟨E9, q10⟩ := u
      obtain ⟨-, rfl, h11⟩ := hp
      have h11 : q10 = (F, L, S, n) := h11
      subst h11
      obtain ⟨jq12, hjq12, ejq12, fjq12⟩ := hlf.queue h8
      refine lv_iload X.1 X.2.1 dL_areJobsRight_98 (lv_at hl 6 rfl) ?_
      refine lv_icmp_ne (tgt := 120) X.1 X.2.1 dL_areJobsRight_100 (by decide) (fun c13 => ?_) (fun c13 => ?_)
      ·
        refine lv_iconst (v := 0) X.1 X.2.1 dL_areJobsRight_120 (by decide) ?_
        refine lv_iadd X.1 X.2.1 dL_areJobsRight_121 ?_
        refine lv_topi (fun x14 ex14 => ?_)
        refine lv_istore (lv' := [(6, .int x14), (8, .int (nI k)), (0, .ref (ad 0)), (1, .ref b), (2, .int sp), (3, .int bi), (4, .int (nI i)), (5, .int st), (7, .int r)]) X.1 X.2.1 dL_areJobsRight_122 hl (by decide) rfl (fun ls hl => ?_)
        refine lv_iinc (v := (nI (k + 1))) (lv' := [(8, .int (nI (k + 1))), (6, .int x14), (0, .ref (ad 0)), (1, .ref b), (2, .int sp), (3, .int bi), (4, .int (nI i)), (5, .int st), (7, .int r)]) X.1 X.2.1 dL_areJobsRight_124 hl (k := 1) rfl (nI_1 k) (by decide) rfl (fun ls hl => ?_)
        refine lv_goto (tgt := 76) X.1 X.2.1 dL_areJobsRight_127 (by decide) ?_
        have hz1 : (s_mkP F L (nI i) r (6 + r.toNatClampNeg) (d + 1) k a) = (s_mkP F L (nI i) r (6 + r.toNatClampNeg) d (k + 1) x14) := by subst ex14; simp only [s_mkP, eq_false c13, if_true, if_false, ite_true, ite_false]
        rw [hz1] at kk
        exact ih (k + 1) x14 (by omega) E9 H locs w hx ls (lv_sub hl [0, 1, 2, 3, 4, 5, 6, 7, 8] rfl) kk
      ·
        refine lv_aload_n X.1 X.2.1 dL_areJobsRight_103 rfl (lv_at hl 2 rfl) ?_
        refine lv_iload X.1 X.2.1 dL_areJobsRight_104 (lv_at hl 6 rfl) ?_
        refine lv_bipush (v := 12) X.1 X.2.1 dL_areJobsRight_106 (by decide) ?_
        have h16 : (er_ofJob n (nI i) (12 : Int32)) = 0 := (ofJob_at hlf hi (by decide))
        refine x_calli cn w hbx hx (w_runV (n := 2) (As := [.int (nI i), .int 12]) X cn w (lt17 (by decide)) wC_0 rfl (fun sz => met_of (c_X4_ofJob l D ca ad E9 F L S n hlt q wf (nI i) (12 : Int32) 0 0 (fun h => (h h16).elim) sz) h16) (bg_V kw_536 kw_381 kw_382 kw_31 kw_383) rfl rfl (by decide +kernel) ⟨(Nat.le_of_ble_eq_true rfl), (Nat.le_of_ble_eq_true rfl)⟩ rfl hl.1 rfl (Nat.le_of_ble_eq_true rfl) dL_areJobsRight_108 ⟨(Nat.le_of_ble_eq_true rfl), (Nat.le_of_ble_eq_true rfl)⟩) (fun r15 u H locs hp w hx => ?_)
        obtain ⟨E17, q18⟩ := u
        obtain ⟨-, rfl, h19⟩ := hp
        have h19 : q18 = (F, L, S, n) := h19
        subst h19
        refine lv_iload X.1 X.2.1 dL_areJobsRight_111 (lv_at hl 8 rfl) ?_
        refine lv_icmp_ne (tgt := 120) X.1 X.2.1 dL_areJobsRight_113 (by decide) (fun c20 => ?_) (fun c20 => ?_)
        ·
          refine lv_iconst (v := 0) X.1 X.2.1 dL_areJobsRight_120 (by decide) ?_
          refine lv_iadd X.1 X.2.1 dL_areJobsRight_121 ?_
          refine lv_topi (fun x21 ex21 => ?_)
          refine lv_istore (lv' := [(6, .int x21), (8, .int (nI k)), (0, .ref (ad 0)), (1, .ref b), (2, .int sp), (3, .int bi), (4, .int (nI i)), (5, .int st), (7, .int r)]) X.1 X.2.1 dL_areJobsRight_122 hl (by decide) rfl (fun ls hl => ?_)
          refine lv_iinc (v := (nI (k + 1))) (lv' := [(8, .int (nI (k + 1))), (6, .int x21), (0, .ref (ad 0)), (1, .ref b), (2, .int sp), (3, .int bi), (4, .int (nI i)), (5, .int st), (7, .int r)]) X.1 X.2.1 dL_areJobsRight_124 hl (k := 1) rfl (nI_1 k) (by decide) rfl (fun ls hl => ?_)
          refine lv_goto (tgt := 76) X.1 X.2.1 dL_areJobsRight_127 (by decide) ?_
          have hz1 : (s_mkP F L (nI i) r (6 + r.toNatClampNeg) (d + 1) k a) = (s_mkP F L (nI i) r (6 + r.toNatClampNeg) d (k + 1) x21) := by subst ex21; simp only [s_mkP, eq_true c13, eq_false c20, if_true, if_false, ite_true, ite_false]
          rw [hz1] at kk
          exact ih (k + 1) x21 (by omega) E17 H locs w hx ls (lv_sub hl [0, 1, 2, 3, 4, 5, 6, 7, 8] rfl) kk
        ·
          refine lv_iconst (v := 1) X.1 X.2.1 dL_areJobsRight_116 (by decide) ?_
          refine lv_goto (tgt := 121) X.1 X.2.1 dL_areJobsRight_117 (by decide) ?_
          refine lv_iadd X.1 X.2.1 dL_areJobsRight_121 ?_
          refine lv_topi (fun x22 ex22 => ?_)
          refine lv_istore (lv' := [(6, .int x22), (8, .int (nI k)), (0, .ref (ad 0)), (1, .ref b), (2, .int sp), (3, .int bi), (4, .int (nI i)), (5, .int st), (7, .int r)]) X.1 X.2.1 dL_areJobsRight_122 hl (by decide) rfl (fun ls hl => ?_)
          refine lv_iinc (v := (nI (k + 1))) (lv' := [(8, .int (nI (k + 1))), (6, .int x22), (0, .ref (ad 0)), (1, .ref b), (2, .int sp), (3, .int bi), (4, .int (nI i)), (5, .int st), (7, .int r)]) X.1 X.2.1 dL_areJobsRight_124 hl (k := 1) rfl (nI_1 k) (by decide) rfl (fun ls hl => ?_)
          refine lv_goto (tgt := 76) X.1 X.2.1 dL_areJobsRight_127 (by decide) ?_
          have hz1 : (s_mkP F L (nI i) r (6 + r.toNatClampNeg) (d + 1) k a) = (s_mkP F L (nI i) r (6 + r.toNatClampNeg) d (k + 1) x22) := by subst ex22; simp only [s_mkP, eq_true c13, eq_true c20, if_true, if_false, ite_true, ite_false]
          rw [hz1] at kk
          exact ih (k + 1) x22 (by omega) E17 H locs w hx ls (lv_sub hl [0, 1, 2, 3, 4, 5, 6, 7, 8] rfl) kk

/-- what the law asks of a job -/
def jj_mk (F : Fm) (L : Lm) (q : Nat → Nat) (k : Nat) : Int32 := s_mkP F L (nI k) (2 : Int32) (6 + (2 : Int32).toNatClampNeg) (q (6 + (2 : Int32).toNatClampNeg)) 0 (s_mkP F L (nI k) (1 : Int32) (6 + (1 : Int32).toNatClampNeg) (q (6 + (1 : Int32).toNatClampNeg)) 0 (s_mkP F L (nI k) (0 : Int32) (6 + (0 : Int32).toNatClampNeg) (q (6 + (0 : Int32).toNatClampNeg)) 0 0))
def jj_ok (F : Fm) (L : Lm) (S : Sm) (q : Nat → Nat) (k : Nat) : Prop :=
  vp_in (s_ofJob F (nI k).toNatClampNeg (6 : Int32)) 4 ∧ jj_mk F L q k = (if s_ofJob F (nI k).toNatClampNeg (6 : Int32) = 1 then 1 else 0) ∧ (s_ofJob F (nI k).toNatClampNeg (6 : Int32) = 0 ↔ s_ofJob F (nI k).toNatClampNeg (12 : Int32) = -1) ∧
  (¬ s_ofJob F (nI k).toNatClampNeg (3 : Int32) = 0 ∧ s_ofJob F (nI k).toNatClampNeg (7 : Int32) - s_ofJob F (nI k).toNatClampNeg (7 : Int32) / s_ofJob F (nI k).toNatClampNeg (3 : Int32) * s_ofJob F (nI k).toNatClampNeg (3 : Int32) = 0 ∧ ¬ s_ofJob F (nI k).toNatClampNeg (3 : Int32) < 1 ∧ 0 ≤ s_ofJob F (nI k).toNatClampNeg (5 : Int32)) ∧
  ((s_ofJob F (nI k).toNatClampNeg (7 : Int32) < s_ofJob F (nI k).toNatClampNeg (1 : Int32) ∧ ¬ s_ofJob F (nI k).toNatClampNeg (8 : Int32) * s_ofJob F (nI k).toNatClampNeg (3 : Int32) < s_ofJob F (nI k).toNatClampNeg (1 : Int32) - s_ofJob F (nI k).toNatClampNeg (7 : Int32) ∧ (s_ofJob F (nI k).toNatClampNeg (8 : Int32) - 1) * s_ofJob F (nI k).toNatClampNeg (3 : Int32) < s_ofJob F (nI k).toNatClampNeg (1 : Int32) - s_ofJob F (nI k).toNatClampNeg (7 : Int32)) ∨ (¬ s_ofJob F (nI k).toNatClampNeg (7 : Int32) < s_ofJob F (nI k).toNatClampNeg (1 : Int32) ∧ s_ofJob F (nI k).toNatClampNeg (8 : Int32) = 0)) ∧
  (¬ s_ofJob F (nI k).toNatClampNeg (6 : Int32) = 3 ∨ ¬ s_ofJob F (nI k).toNatClampNeg (7 : Int32) < s_ofJob F (nI k).toNatClampNeg (1 : Int32) - s_ofJob F (nI k).toNatClampNeg (1 : Int32) / 20) ∧ ((s_ofJob F (nI k).toNatClampNeg (6 : Int32) = 3 ↔ ¬ s_ofJob F (nI k).toNatClampNeg (11 : Int32) ≤ 0) ∨ s_ofJob F (nI k).toNatClampNeg (9 : Int32) ≤ s_ofJob F (nI k).toNatClampNeg (1 : Int32)) ∧
  ∀ r : Int32, erI 3 r = 0 → ¬ s_expected F S (nI k).toNatClampNeg (6 + r.toNatClampNeg) 5 < s_expected F S (nI k).toNatClampNeg (6 + (s_best F S (nI k).toNatClampNeg).toNatClampNeg) 5 ∧ s_expected F S (nI k).toNatClampNeg (6 + r.toNatClampNeg) 5 ≤ s_expected F S (nI k).toNatClampNeg (6 + r.toNatClampNeg) 6
theorem best_3 {F : Fm} {S : Sm} {j : Nat} : erI 3 (s_best F S j) = 0 := by
  have hb : ∀ (b : Int32 × Int32) (k c : Int32), erI 3 b.1 = 0 → erI 3 k = 0 → erI 3 (s_bs b k c).1 = 0 := fun b k c h1 h2 => by
    unfold s_bs
    split
    · exact h1
    · exact h2
  unfold s_best
  exact hb _ _ _ (hb _ _ _ (hb _ _ _ (by decide) (by decide)) (by decide)) (by decide)

set_option maxHeartbeats 4000000 in
set_option maxRecDepth 100000 in
theorem sg_ja {p : Program} {l : Launch} {e : Env} {s : State} {m : MethodId} {args : Array Value} {below : List Frame} {meth : Method} {c : Code} {D : va_G} {ca : Nat → ClassId} {ad : Nat → Nat} {E : Em} {F : Fm} {L : Lm} {S : Sm} {n : Nat} {A : Nat → Prop} {Q : State → Prop} (X : CallFix p m c cL_areJobsRight 13 s args BG yL_areJobsRight.cls) (cn : Cn A s) (hlt : l.stackTraces = false) (q : Nat → Nat) (hlf : Lf F L S n q) (k : Nat) (hk : k < n) (hjj : jj_ok F L S q k) (sp bi : Int32) (b : Nat) (cA : ClassId) (f : Nat → Int32) (hbx : ∀ o, o < 17 + n → b ≠ ad o) (hAb : A b) (hK1 : va_K D vwCl [(cA, .int)] s) (H : Heap) (locs : List Loc) (w : Wd D ca ad A s H locs (E, F, L, S, n)) (hx : va_P D vwCl [(b, .inl (cA, 4, .inl f))] H) (ls : Array Slot) (hl : lv_has ls 13 [(4, .int (nI k)), (0, .ref (ad 0)), (1, .ref b), (2, .int sp), (3, .int bi)])
    (kk : ∀ (E1 : Em) (H1 : Heap) (locs1 : List Loc) (ls1 : Array Slot), Wd D ca ad A s H1 locs1 (E1, F, L, S, n) → va_P D vwCl [(b, .inl (cA, 4, .inl (upd f (s_ofJob F (nI k).toNatClampNeg (6 : Int32)).toNatClampNeg (f (s_ofJob F (nI k).toNatClampNeg (6 : Int32)).toNatClampNeg + 1))))] H1 → lv_has ls1 13 [(5, .int (s_ofJob F (nI k).toNatClampNeg (6 : Int32))), (4, .int (nI k)), (0, .ref (ad 0)), (1, .ref b), (2, .int (sp + s_ofJob F (nI k).toNatClampNeg (10 : Int32))), (3, .int (bi + s_ofJob F (nI k).toNatClampNeg (11 : Int32)))] → W p l e { frames := 9, cells := 1, slots := 4, locals := 300 } s m args below meth c H1 locs1 1 4 Q (F0 m 61 ls1 [])) :
    W p l e { frames := 9, cells := 1, slots := 4, locals := 300 } s m args below meth c H locs 1 4 Q (F0 m 21 ls []) := by
  have wf := hlf.1
  have hs := wf.2.2.1
  have hJ := wf.2.1.2
  refine lv_aload_n X.1 X.2.1 dL_areJobsRight_21 rfl (lv_at hl 1 rfl) ?_
  refine lv_iload X.1 X.2.1 dL_areJobsRight_22 (lv_at hl 0 rfl) ?_
  refine lv_bipush (v := 6) X.1 X.2.1 dL_areJobsRight_24 (by decide) ?_
  have h2 : (er_ofJob n (nI k) (6 : Int32)) = 0 := (ofJob_at hlf hk (by decide))
  refine x_calli cn w hbx hx (w_runV (n := 2) (As := [.int (nI k), .int 6]) X cn w (lt17 (by decide)) wC_0 rfl (fun sz => met_of (c_X4_ofJob l D ca ad E F L S n hlt q wf (nI k) (6 : Int32) 0 0 (fun h => (h h2).elim) sz) h2) (bg_V kw_536 kw_381 kw_382 kw_31 kw_383) rfl rfl (by decide +kernel) ⟨(Nat.le_of_ble_eq_true rfl), (Nat.le_of_ble_eq_true rfl)⟩ rfl hl.1 rfl (Nat.le_of_ble_eq_true rfl) dL_areJobsRight_26 ⟨(Nat.le_of_ble_eq_true rfl), (Nat.le_of_ble_eq_true rfl)⟩) (fun r1 u H locs hp w hx => ?_)
  obtain ⟨E3, q4⟩ := u
  obtain ⟨-, rfl, h5⟩ := hp
  have h5 : q4 = (F, L, S, n) := h5
  subst h5
  refine lv_topi (fun x6 ex6 => ?_)
  refine lv_istore (lv' := [(5, .int x6), (4, .int (nI k)), (0, .ref (ad 0)), (1, .ref b), (2, .int sp), (3, .int bi)]) X.1 X.2.1 dL_areJobsRight_29 hl (by decide) rfl (fun ls hl => ?_)
  refine lv_aload_n X.1 X.2.1 dL_areJobsRight_31 rfl (lv_at hl 3 rfl) ?_
  refine lv_iload X.1 X.2.1 dL_areJobsRight_32 (lv_at hl 0 rfl) ?_
  refine lv_dup2_11 X.1 X.2.1 dL_areJobsRight_34 rfl rfl ?_
  refine va_iald X.1 X.2.1 hK1 hx 0 0 rfl rfl (by subst ex6; exact hjj.1) dL_areJobsRight_35 ?_
  refine lv_iconst (v := 1) X.1 X.2.1 dL_areJobsRight_36 (by decide) ?_
  refine lv_iadd X.1 X.2.1 dL_areJobsRight_37 ?_
  refine x_st X w hx hbx hAb hK1 (by subst ex6; exact hjj.1) dL_areJobsRight_38 (fun H locs w hx => ?_)
  refine lv_iload_n X.1 X.2.1 dL_areJobsRight_39 rfl (lv_at hl 4 rfl) ?_
  refine lv_aload_n X.1 X.2.1 dL_areJobsRight_40 rfl (lv_at hl 2 rfl) ?_
  refine lv_iload X.1 X.2.1 dL_areJobsRight_41 (lv_at hl 1 rfl) ?_
  refine lv_bipush (v := 10) X.1 X.2.1 dL_areJobsRight_43 (by decide) ?_
  have h8 : (er_ofJob n (nI k) (10 : Int32)) = 0 := (ofJob_at hlf hk (by decide))
  refine x_calli cn w hbx hx (w_runV (n := 2) (As := [.int (nI k), .int 10]) X cn w (lt17 (by decide)) wC_0 rfl (fun sz => met_of (c_X4_ofJob l D ca ad E3 F L S n hlt q wf (nI k) (10 : Int32) 0 0 (fun h => (h h8).elim) sz) h8) (bg_V kw_536 kw_381 kw_382 kw_31 kw_383) rfl rfl (by decide +kernel) ⟨(Nat.le_of_ble_eq_true rfl), (Nat.le_of_ble_eq_true rfl)⟩ rfl hl.1 rfl (Nat.le_of_ble_eq_true rfl) dL_areJobsRight_45 ⟨(Nat.le_of_ble_eq_true rfl), (Nat.le_of_ble_eq_true rfl)⟩) (fun r7 u H locs hp w hx => ?_)
  obtain ⟨E9, q10⟩ := u
  obtain ⟨-, rfl, h11⟩ := hp
  have h11 : q10 = (F, L, S, n) := h11
  subst h11
  refine lv_iadd X.1 X.2.1 dL_areJobsRight_48 ?_
  refine lv_topi (fun x12 ex12 => ?_)
  refine lv_istore_n (lv' := [(2, .int x12), (5, .int x6), (4, .int (nI k)), (0, .ref (ad 0)), (1, .ref b), (3, .int bi)]) X.1 X.2.1 dL_areJobsRight_49 rfl hl (by decide) rfl (fun ls hl => ?_)
  refine lv_iload_n X.1 X.2.1 dL_areJobsRight_50 rfl (lv_at hl 5 rfl) ?_
  refine lv_aload_n X.1 X.2.1 dL_areJobsRight_51 rfl (lv_at hl 3 rfl) ?_
  refine lv_iload X.1 X.2.1 dL_areJobsRight_52 (lv_at hl 2 rfl) ?_
  refine lv_bipush (v := 11) X.1 X.2.1 dL_areJobsRight_54 (by decide) ?_
  have h14 : (er_ofJob n (nI k) (11 : Int32)) = 0 := (ofJob_at hlf hk (by decide))
  refine x_calli cn w hbx hx (w_runV (n := 2) (As := [.int (nI k), .int 11]) X cn w (lt17 (by decide)) wC_0 rfl (fun sz => met_of (c_X4_ofJob l D ca ad E9 F L S n hlt q wf (nI k) (11 : Int32) 0 0 (fun h => (h h14).elim) sz) h14) (bg_V kw_536 kw_381 kw_382 kw_31 kw_383) rfl rfl (by decide +kernel) ⟨(Nat.le_of_ble_eq_true rfl), (Nat.le_of_ble_eq_true rfl)⟩ rfl hl.1 rfl (Nat.le_of_ble_eq_true rfl) dL_areJobsRight_56 ⟨(Nat.le_of_ble_eq_true rfl), (Nat.le_of_ble_eq_true rfl)⟩) (fun r13 u H locs hp w hx => ?_)
  obtain ⟨E15, q16⟩ := u
  obtain ⟨-, rfl, h17⟩ := hp
  have h17 : q16 = (F, L, S, n) := h17
  subst h17
  refine lv_iadd X.1 X.2.1 dL_areJobsRight_59 ?_
  refine lv_topi (fun x18 ex18 => ?_)
  refine lv_istore_n (lv' := [(3, .int x18), (2, .int x12), (5, .int x6), (4, .int (nI k)), (0, .ref (ad 0)), (1, .ref b)]) X.1 X.2.1 dL_areJobsRight_60 rfl hl (by decide) rfl (fun ls hl => ?_)
  subst ex18; subst ex12; subst ex6;
  exact kk E15 _ _ ls w hx (lv_sub hl [2, 3, 4, 5, 1, 0] rfl)

set_option maxHeartbeats 4000000 in
set_option maxRecDepth 100000 in
theorem sg_jc {p : Program} {l : Launch} {e : Env} {s : State} {m : MethodId} {args : Array Value} {below : List Frame} {meth : Method} {c : Code} {D : va_G} {ca : Nat → ClassId} {ad : Nat → Nat} {E : Em} {F : Fm} {L : Lm} {S : Sm} {n : Nat} {A : Nat → Prop} {Q : State → Prop} (X : CallFix p m c cL_areJobsRight 13 s args BG yL_areJobsRight.cls) (cn : Cn A s) (hlt : l.stackTraces = false) (q : Nat → Nat) (hlf : Lf F L S n q) (k : Nat) (hk : k < n) (hjj : jj_ok F L S q k) (sp bi : Int32) (b : Nat) (cA : ClassId) (f : Nat → Int32) (hbx : ∀ o, o < 17 + n → b ≠ ad o) (hAb : A b) (hK1 : va_K D vwCl [(cA, .int)] s) (H : Heap) (locs : List Loc) (w : Wd D ca ad A s H locs (E, F, L, S, n)) (hx : va_P D vwCl [(b, .inl (cA, 4, .inl f))] H) (ls : Array Slot) (hl : lv_has ls 13 [(4, .int (nI k)), (0, .ref (ad 0)), (1, .ref b), (2, .int sp), (3, .int bi), (5, .int (s_ofJob F (nI k).toNatClampNeg (6 : Int32))), (6, .int (jj_mk F L q k)), (7, .int (s_ofJob F (nI k).toNatClampNeg (1 : Int32))), (8, .int (s_ofJob F (nI k).toNatClampNeg (7 : Int32))), (9, .int (s_ofJob F (nI k).toNatClampNeg (3 : Int32))), (10, .int (s_ofJob F (nI k).toNatClampNeg (8 : Int32)))])
    (kk : ∀ (E1 : Em) (H1 : Heap) (locs1 : List Loc) (ls1 : Array Slot), Wd D ca ad A s H1 locs1 (E1, F, L, S, n) → va_P D vwCl [(b, .inl (cA, 4, .inl f))] H1 → lv_has ls1 13 [(4, .int (nI k)), (0, .ref (ad 0)), (1, .ref b), (2, .int sp), (3, .int bi), (5, .int (s_ofJob F (nI k).toNatClampNeg (6 : Int32))), (6, .int (jj_mk F L q k)), (7, .int (s_ofJob F (nI k).toNatClampNeg (1 : Int32))), (8, .int (s_ofJob F (nI k).toNatClampNeg (7 : Int32))), (9, .int (s_ofJob F (nI k).toNatClampNeg (3 : Int32))), (10, .int (s_ofJob F (nI k).toNatClampNeg (8 : Int32)))] → W p l e { frames := 9, cells := 1, slots := 4, locals := 300 } s m args below meth c H1 locs1 1 4 Q (F0 m 190 ls1 [])) :
    W p l e { frames := 9, cells := 1, slots := 4, locals := 300 } s m args below meth c H locs 1 4 Q (F0 m 174 ls []) := by
  have wf := hlf.1
  have hs := wf.2.2.1
  have hJ := wf.2.1.2
  refine lv_iload X.1 X.2.1 dL_areJobsRight_174 (lv_at hl 6 rfl) ?_
  refine lv_iload X.1 X.2.1 dL_areJobsRight_176 (lv_at hl 5 rfl) ?_
  refine lv_iconst (v := 1) X.1 X.2.1 dL_areJobsRight_178 (by decide) ?_
  refine lv_icmp_ne (tgt := 186) X.1 X.2.1 dL_areJobsRight_179 (by decide) (fun c1 => ?_) (fun c1 => ?_)
  ·
    refine lv_iconst (v := 0) X.1 X.2.1 dL_areJobsRight_186 (by decide) ?_
    refine lv_icmp_ne (tgt := 244) X.1 X.2.1 dL_areJobsRight_187 (by decide) (fun c2 => ?_) (fun c2 => ?_)
    ·
      have g1 := hjj.2.1
      first | (rw [if_pos c1] at g1; exact absurd g1 c2) | (rw [if_neg c1] at g1; exact absurd g1 c2)
    ·
      skip
      exact kk E _ _ ls w hx (lv_sub hl [0, 1, 2, 3, 4, 5, 6, 7, 8, 9, 10] rfl)
  ·
    refine lv_iconst (v := 1) X.1 X.2.1 dL_areJobsRight_182 (by decide) ?_
    refine lv_goto (tgt := 187) X.1 X.2.1 dL_areJobsRight_183 (by decide) ?_
    refine lv_icmp_ne (tgt := 244) X.1 X.2.1 dL_areJobsRight_187 (by decide) (fun c3 => ?_) (fun c3 => ?_)
    ·
      have g1 := hjj.2.1
      first | (rw [if_pos c1] at g1; exact absurd g1 c3) | (rw [if_neg c1] at g1; exact absurd g1 c3)
    ·
      skip
      exact kk E _ _ ls w hx (lv_sub hl [0, 1, 2, 3, 4, 5, 6, 7, 8, 9, 10] rfl)

set_option maxHeartbeats 4000000 in
set_option maxRecDepth 100000 in
theorem sg_jd {p : Program} {l : Launch} {e : Env} {s : State} {m : MethodId} {args : Array Value} {below : List Frame} {meth : Method} {c : Code} {D : va_G} {ca : Nat → ClassId} {ad : Nat → Nat} {E : Em} {F : Fm} {L : Lm} {S : Sm} {n : Nat} {A : Nat → Prop} {Q : State → Prop} (X : CallFix p m c cL_areJobsRight 13 s args BG yL_areJobsRight.cls) (cn : Cn A s) (hlt : l.stackTraces = false) (q : Nat → Nat) (hlf : Lf F L S n q) (k : Nat) (hk : k < n) (hjj : jj_ok F L S q k) (sp bi : Int32) (b : Nat) (cA : ClassId) (f : Nat → Int32) (hbx : ∀ o, o < 17 + n → b ≠ ad o) (hAb : A b) (hK1 : va_K D vwCl [(cA, .int)] s) (H : Heap) (locs : List Loc) (w : Wd D ca ad A s H locs (E, F, L, S, n)) (hx : va_P D vwCl [(b, .inl (cA, 4, .inl f))] H) (ls : Array Slot) (hl : lv_has ls 13 [(4, .int (nI k)), (0, .ref (ad 0)), (1, .ref b), (2, .int sp), (3, .int bi), (5, .int (s_ofJob F (nI k).toNatClampNeg (6 : Int32))), (6, .int (jj_mk F L q k)), (7, .int (s_ofJob F (nI k).toNatClampNeg (1 : Int32))), (8, .int (s_ofJob F (nI k).toNatClampNeg (7 : Int32))), (9, .int (s_ofJob F (nI k).toNatClampNeg (3 : Int32))), (10, .int (s_ofJob F (nI k).toNatClampNeg (8 : Int32)))])
    (kk : ∀ (E1 : Em) (H1 : Heap) (locs1 : List Loc) (ls1 : Array Slot), Wd D ca ad A s H1 locs1 (E1, F, L, S, n) → va_P D vwCl [(b, .inl (cA, 4, .inl f))] H1 → lv_has ls1 13 [(4, .int (nI k)), (0, .ref (ad 0)), (1, .ref b), (2, .int sp), (3, .int bi), (5, .int (s_ofJob F (nI k).toNatClampNeg (6 : Int32))), (6, .int (jj_mk F L q k)), (7, .int (s_ofJob F (nI k).toNatClampNeg (1 : Int32))), (8, .int (s_ofJob F (nI k).toNatClampNeg (7 : Int32))), (9, .int (s_ofJob F (nI k).toNatClampNeg (3 : Int32))), (10, .int (s_ofJob F (nI k).toNatClampNeg (8 : Int32)))] → W p l e { frames := 9, cells := 1, slots := 4, locals := 300 } s m args below meth c H1 locs1 1 4 Q (F0 m 220 ls1 [])) :
    W p l e { frames := 9, cells := 1, slots := 4, locals := 300 } s m args below meth c H locs 1 4 Q (F0 m 190 ls []) := by
  have wf := hlf.1
  have hs := wf.2.2.1
  have hJ := wf.2.1.2
  refine lv_iload X.1 X.2.1 dL_areJobsRight_190 (lv_at hl 5 rfl) ?_
  refine lv_if_ne (tgt := 199) X.1 X.2.1 dL_areJobsRight_192 (by decide) (fun c1 => ?_) (fun c1 => ?_)
  ·
    refine lv_iconst (v := 0) X.1 X.2.1 dL_areJobsRight_199 (by decide) ?_
    refine lv_aload_n X.1 X.2.1 dL_areJobsRight_200 rfl (lv_at hl 1 rfl) ?_
    refine lv_iload X.1 X.2.1 dL_areJobsRight_201 (lv_at hl 0 rfl) ?_
    refine lv_bipush (v := 12) X.1 X.2.1 dL_areJobsRight_203 (by decide) ?_
    have h3 : (er_ofJob n (nI k) (12 : Int32)) = 0 := (ofJob_at hlf hk (by decide))
    refine x_calli cn w hbx hx (w_runV (n := 2) (As := [.int (nI k), .int 12]) X cn w (lt17 (by decide)) wC_0 rfl (fun sz => met_of (c_X4_ofJob l D ca ad E F L S n hlt q wf (nI k) (12 : Int32) 0 0 (fun h => (h h3).elim) sz) h3) (bg_V kw_536 kw_381 kw_382 kw_31 kw_383) rfl rfl (by decide +kernel) ⟨(Nat.le_of_ble_eq_true rfl), (Nat.le_of_ble_eq_true rfl)⟩ rfl hl.1 rfl (Nat.le_of_ble_eq_true rfl) dL_areJobsRight_205 ⟨(Nat.le_of_ble_eq_true rfl), (Nat.le_of_ble_eq_true rfl)⟩) (fun r2 u H locs hp w hx => ?_)
    obtain ⟨E4, q5⟩ := u
    obtain ⟨-, rfl, h6⟩ := hp
    have h6 : q5 = (F, L, S, n) := h6
    subst h6
    refine lv_iconst (v := (-1)) X.1 X.2.1 dL_areJobsRight_208 (by decide) ?_
    refine lv_icmp_ne (tgt := 216) X.1 X.2.1 dL_areJobsRight_209 (by decide) (fun c7 => ?_) (fun c7 => ?_)
    ·
      refine lv_iconst (v := 0) X.1 X.2.1 dL_areJobsRight_216 (by decide) ?_
      refine lv_icmp_ne (tgt := 244) X.1 X.2.1 dL_areJobsRight_217 (by decide) (fun c8 => ?_) (fun c8 => ?_)
      ·
        exact absurd rfl c8
      ·
        skip
        exact kk E4 _ _ ls w hx (lv_sub hl [0, 1, 2, 3, 4, 5, 6, 7, 8, 9, 10] rfl)
    ·
      refine lv_iconst (v := 1) X.1 X.2.1 dL_areJobsRight_212 (by decide) ?_
      refine lv_goto (tgt := 217) X.1 X.2.1 dL_areJobsRight_213 (by decide) ?_
      refine lv_icmp_ne (tgt := 244) X.1 X.2.1 dL_areJobsRight_217 (by decide) (fun c9 => ?_) (fun c9 => ?_)
      ·
        have g1 := hjj.2.2.1
        first | exact absurd (g1.mp c1) c7 | exact absurd (g1.mpr c7) c1
      ·
        exact absurd c9 (by decide)
  ·
    refine lv_iconst (v := 1) X.1 X.2.1 dL_areJobsRight_195 (by decide) ?_
    refine lv_goto (tgt := 200) X.1 X.2.1 dL_areJobsRight_196 (by decide) ?_
    refine lv_aload_n X.1 X.2.1 dL_areJobsRight_200 rfl (lv_at hl 1 rfl) ?_
    refine lv_iload X.1 X.2.1 dL_areJobsRight_201 (lv_at hl 0 rfl) ?_
    refine lv_bipush (v := 12) X.1 X.2.1 dL_areJobsRight_203 (by decide) ?_
    have h11 : (er_ofJob n (nI k) (12 : Int32)) = 0 := (ofJob_at hlf hk (by decide))
    refine x_calli cn w hbx hx (w_runV (n := 2) (As := [.int (nI k), .int 12]) X cn w (lt17 (by decide)) wC_0 rfl (fun sz => met_of (c_X4_ofJob l D ca ad E F L S n hlt q wf (nI k) (12 : Int32) 0 0 (fun h => (h h11).elim) sz) h11) (bg_V kw_536 kw_381 kw_382 kw_31 kw_383) rfl rfl (by decide +kernel) ⟨(Nat.le_of_ble_eq_true rfl), (Nat.le_of_ble_eq_true rfl)⟩ rfl hl.1 rfl (Nat.le_of_ble_eq_true rfl) dL_areJobsRight_205 ⟨(Nat.le_of_ble_eq_true rfl), (Nat.le_of_ble_eq_true rfl)⟩) (fun r10 u H locs hp w hx => ?_)
    obtain ⟨E12, q13⟩ := u
    obtain ⟨-, rfl, h14⟩ := hp
    have h14 : q13 = (F, L, S, n) := h14
    subst h14
    refine lv_iconst (v := (-1)) X.1 X.2.1 dL_areJobsRight_208 (by decide) ?_
    refine lv_icmp_ne (tgt := 216) X.1 X.2.1 dL_areJobsRight_209 (by decide) (fun c15 => ?_) (fun c15 => ?_)
    ·
      refine lv_iconst (v := 0) X.1 X.2.1 dL_areJobsRight_216 (by decide) ?_
      refine lv_icmp_ne (tgt := 244) X.1 X.2.1 dL_areJobsRight_217 (by decide) (fun c16 => ?_) (fun c16 => ?_)
      ·
        have g1 := hjj.2.2.1
        first | exact absurd (g1.mp c1) c15 | exact absurd (g1.mpr c15) c1
      ·
        exact absurd c16 (by decide)
    ·
      refine lv_iconst (v := 1) X.1 X.2.1 dL_areJobsRight_212 (by decide) ?_
      refine lv_goto (tgt := 217) X.1 X.2.1 dL_areJobsRight_213 (by decide) ?_
      refine lv_icmp_ne (tgt := 244) X.1 X.2.1 dL_areJobsRight_217 (by decide) (fun c17 => ?_) (fun c17 => ?_)
      ·
        exact absurd rfl c17
      ·
        skip
        exact kk E12 _ _ ls w hx (lv_sub hl [0, 1, 2, 3, 4, 5, 6, 7, 8, 9, 10] rfl)

set_option maxHeartbeats 4000000 in
set_option maxRecDepth 100000 in
theorem sg_je {p : Program} {l : Launch} {e : Env} {s : State} {m : MethodId} {args : Array Value} {below : List Frame} {meth : Method} {c : Code} {D : va_G} {ca : Nat → ClassId} {ad : Nat → Nat} {E : Em} {F : Fm} {L : Lm} {S : Sm} {n : Nat} {A : Nat → Prop} {Q : State → Prop} (X : CallFix p m c cL_areJobsRight 13 s args BG yL_areJobsRight.cls) (cn : Cn A s) (hlt : l.stackTraces = false) (q : Nat → Nat) (hlf : Lf F L S n q) (k : Nat) (hk : k < n) (hjj : jj_ok F L S q k) (sp bi : Int32) (b : Nat) (cA : ClassId) (f : Nat → Int32) (hbx : ∀ o, o < 17 + n → b ≠ ad o) (hAb : A b) (hK1 : va_K D vwCl [(cA, .int)] s) (H : Heap) (locs : List Loc) (w : Wd D ca ad A s H locs (E, F, L, S, n)) (hx : va_P D vwCl [(b, .inl (cA, 4, .inl f))] H) (ls : Array Slot) (hl : lv_has ls 13 [(4, .int (nI k)), (0, .ref (ad 0)), (1, .ref b), (2, .int sp), (3, .int bi), (5, .int (s_ofJob F (nI k).toNatClampNeg (6 : Int32))), (6, .int (jj_mk F L q k)), (7, .int (s_ofJob F (nI k).toNatClampNeg (1 : Int32))), (8, .int (s_ofJob F (nI k).toNatClampNeg (7 : Int32))), (9, .int (s_ofJob F (nI k).toNatClampNeg (3 : Int32))), (10, .int (s_ofJob F (nI k).toNatClampNeg (8 : Int32)))])
    (kk : ∀ (E1 : Em) (H1 : Heap) (locs1 : List Loc) (ls1 : Array Slot), Wd D ca ad A s H1 locs1 (E1, F, L, S, n) → va_P D vwCl [(b, .inl (cA, 4, .inl f))] H1 → lv_has ls1 13 [(4, .int (nI k)), (0, .ref (ad 0)), (1, .ref b), (2, .int sp), (3, .int bi), (5, .int (s_ofJob F (nI k).toNatClampNeg (6 : Int32))), (6, .int (jj_mk F L q k)), (7, .int (s_ofJob F (nI k).toNatClampNeg (1 : Int32))), (8, .int (s_ofJob F (nI k).toNatClampNeg (7 : Int32))), (9, .int (s_ofJob F (nI k).toNatClampNeg (3 : Int32))), (10, .int (s_ofJob F (nI k).toNatClampNeg (8 : Int32)))] → W p l e { frames := 9, cells := 1, slots := 4, locals := 300 } s m args below meth c H1 locs1 1 4 Q (F0 m 246 ls1 [])) :
    W p l e { frames := 9, cells := 1, slots := 4, locals := 300 } s m args below meth c H locs 1 4 Q (F0 m 220 ls []) := by
  have wf := hlf.1
  have hs := wf.2.2.1
  have hJ := wf.2.1.2
  refine lv_iload X.1 X.2.1 dL_areJobsRight_220 (lv_at hl 8 rfl) ?_
  refine lv_iload X.1 X.2.1 dL_areJobsRight_222 (lv_at hl 9 rfl) ?_
  refine lv_irem X.1 X.2.1 dL_areJobsRight_224 (hjj.2.2.2.1.1) ?_
  refine lv_if_ne (tgt := 244) X.1 X.2.1 dL_areJobsRight_225 (by decide) (fun c1 => ?_) (fun c1 => ?_)
  ·
    obtain ⟨g0, g1, g2, g3⟩ := hjj.2.2.2.1
    first | exact absurd g1 c1 | exact absurd c1 g2 | exact absurd g3 c1
  ·
    refine lv_iload X.1 X.2.1 dL_areJobsRight_228 (lv_at hl 9 rfl) ?_
    refine lv_iconst (v := 1) X.1 X.2.1 dL_areJobsRight_230 (by decide) ?_
    refine lv_icmp_lt (tgt := 244) X.1 X.2.1 dL_areJobsRight_231 (by decide) (fun c2 => ?_) (fun c2 => ?_)
    ·
      obtain ⟨g0, g1, g2, g3⟩ := hjj.2.2.2.1
      first | exact absurd g1 c2 | exact absurd c2 g2 | exact absurd g3 c2
    ·
      refine lv_aload_n X.1 X.2.1 dL_areJobsRight_234 rfl (lv_at hl 1 rfl) ?_
      refine lv_iload X.1 X.2.1 dL_areJobsRight_235 (lv_at hl 0 rfl) ?_
      refine lv_iconst (v := 5) X.1 X.2.1 dL_areJobsRight_237 (by decide) ?_
      have h4 : (er_ofJob n (nI k) (5 : Int32)) = 0 := (ofJob_at hlf hk (by decide))
      refine x_calli cn w hbx hx (w_runV (n := 2) (As := [.int (nI k), .int 5]) X cn w (lt17 (by decide)) wC_0 rfl (fun sz => met_of (c_X4_ofJob l D ca ad E F L S n hlt q wf (nI k) (5 : Int32) 0 0 (fun h => (h h4).elim) sz) h4) (bg_V kw_536 kw_381 kw_382 kw_31 kw_383) rfl rfl (by decide +kernel) ⟨(Nat.le_of_ble_eq_true rfl), (Nat.le_of_ble_eq_true rfl)⟩ rfl hl.1 rfl (Nat.le_of_ble_eq_true rfl) dL_areJobsRight_238 ⟨(Nat.le_of_ble_eq_true rfl), (Nat.le_of_ble_eq_true rfl)⟩) (fun r3 u H locs hp w hx => ?_)
      obtain ⟨E5, q6⟩ := u
      obtain ⟨-, rfl, h7⟩ := hp
      have h7 : q6 = (F, L, S, n) := h7
      subst h7
      refine lv_if_ge (tgt := 246) X.1 X.2.1 dL_areJobsRight_241 (by decide) (fun c8 => ?_) (fun c8 => ?_)
      ·
        skip
        exact kk E5 _ _ ls w hx (lv_sub hl [0, 1, 2, 3, 4, 5, 6, 7, 8, 9, 10] rfl)
      ·
        obtain ⟨g0, g1, g2, g3⟩ := hjj.2.2.2.1
        first | exact absurd g1 c8 | exact absurd c8 g2 | exact absurd g3 c8

set_option maxHeartbeats 4000000 in
set_option maxRecDepth 100000 in
theorem sg_jf {p : Program} {l : Launch} {e : Env} {s : State} {m : MethodId} {args : Array Value} {below : List Frame} {meth : Method} {c : Code} {D : va_G} {ca : Nat → ClassId} {ad : Nat → Nat} {E : Em} {F : Fm} {L : Lm} {S : Sm} {n : Nat} {A : Nat → Prop} {Q : State → Prop} (X : CallFix p m c cL_areJobsRight 13 s args BG yL_areJobsRight.cls) (cn : Cn A s) (hlt : l.stackTraces = false) (q : Nat → Nat) (hlf : Lf F L S n q) (k : Nat) (hk : k < n) (hjj : jj_ok F L S q k) (sp bi : Int32) (b : Nat) (cA : ClassId) (f : Nat → Int32) (hbx : ∀ o, o < 17 + n → b ≠ ad o) (hAb : A b) (hK1 : va_K D vwCl [(cA, .int)] s) (H : Heap) (locs : List Loc) (w : Wd D ca ad A s H locs (E, F, L, S, n)) (hx : va_P D vwCl [(b, .inl (cA, 4, .inl f))] H) (ls : Array Slot) (hl : lv_has ls 13 [(4, .int (nI k)), (0, .ref (ad 0)), (1, .ref b), (2, .int sp), (3, .int bi), (5, .int (s_ofJob F (nI k).toNatClampNeg (6 : Int32))), (6, .int (jj_mk F L q k)), (7, .int (s_ofJob F (nI k).toNatClampNeg (1 : Int32))), (8, .int (s_ofJob F (nI k).toNatClampNeg (7 : Int32))), (9, .int (s_ofJob F (nI k).toNatClampNeg (3 : Int32))), (10, .int (s_ofJob F (nI k).toNatClampNeg (8 : Int32)))])
    (kk : ∀ (E1 : Em) (H1 : Heap) (locs1 : List Loc) (ls1 : Array Slot), Wd D ca ad A s H1 locs1 (E1, F, L, S, n) → va_P D vwCl [(b, .inl (cA, 4, .inl f))] H1 → lv_has ls1 13 [(4, .int (nI k)), (0, .ref (ad 0)), (1, .ref b), (2, .int sp), (3, .int bi), (5, .int (s_ofJob F (nI k).toNatClampNeg (6 : Int32))), (6, .int (jj_mk F L q k)), (7, .int (s_ofJob F (nI k).toNatClampNeg (1 : Int32))), (8, .int (s_ofJob F (nI k).toNatClampNeg (7 : Int32))), (9, .int (s_ofJob F (nI k).toNatClampNeg (3 : Int32))), (10, .int (s_ofJob F (nI k).toNatClampNeg (8 : Int32)))] → W p l e { frames := 9, cells := 1, slots := 4, locals := 300 } s m args below meth c H1 locs1 1 4 Q (F0 m 291 ls1 [])) :
    W p l e { frames := 9, cells := 1, slots := 4, locals := 300 } s m args below meth c H locs 1 4 Q (F0 m 246 ls []) := by
  have wf := hlf.1
  have hs := wf.2.2.1
  have hJ := wf.2.1.2
  refine lv_iload X.1 X.2.1 dL_areJobsRight_246 (lv_at hl 8 rfl) ?_
  refine lv_iload X.1 X.2.1 dL_areJobsRight_248 (lv_at hl 7 rfl) ?_
  refine lv_icmp_lt (tgt := 261) X.1 X.2.1 dL_areJobsRight_250 (by decide) (fun c1 => ?_) (fun c1 => ?_)
  ·
    refine lv_iload X.1 X.2.1 dL_areJobsRight_261 (lv_at hl 10 rfl) ?_
    refine lv_iload X.1 X.2.1 dL_areJobsRight_263 (lv_at hl 9 rfl) ?_
    refine lv_imul X.1 X.2.1 dL_areJobsRight_265 ?_
    refine lv_iload X.1 X.2.1 dL_areJobsRight_266 (lv_at hl 7 rfl) ?_
    refine lv_iload X.1 X.2.1 dL_areJobsRight_268 (lv_at hl 8 rfl) ?_
    refine lv_isub X.1 X.2.1 dL_areJobsRight_270 ?_
    refine lv_icmp_lt (tgt := 289) X.1 X.2.1 dL_areJobsRight_271 (by decide) (fun c2 => ?_) (fun c2 => ?_)
    ·
      rcases hjj.2.2.2.2.1 with ⟨g0, g1, g2⟩ | ⟨g0, g1⟩
      all_goals first | exact absurd g0 c1 | exact absurd c1 g0 | exact absurd c2 g1 | exact absurd g1 c2 | exact absurd g2 c2
    ·
      refine lv_iload X.1 X.2.1 dL_areJobsRight_274 (lv_at hl 10 rfl) ?_
      refine lv_iconst (v := 1) X.1 X.2.1 dL_areJobsRight_276 (by decide) ?_
      refine lv_isub X.1 X.2.1 dL_areJobsRight_277 ?_
      refine lv_iload X.1 X.2.1 dL_areJobsRight_278 (lv_at hl 9 rfl) ?_
      refine lv_imul X.1 X.2.1 dL_areJobsRight_280 ?_
      refine lv_iload X.1 X.2.1 dL_areJobsRight_281 (lv_at hl 7 rfl) ?_
      refine lv_iload X.1 X.2.1 dL_areJobsRight_283 (lv_at hl 8 rfl) ?_
      refine lv_isub X.1 X.2.1 dL_areJobsRight_285 ?_
      refine lv_icmp_lt (tgt := 291) X.1 X.2.1 dL_areJobsRight_286 (by decide) (fun c3 => ?_) (fun c3 => ?_)
      ·
        skip
        exact kk E _ _ ls w hx (lv_sub hl [0, 1, 2, 3, 4, 5, 6, 7, 8, 9, 10] rfl)
      ·
        rcases hjj.2.2.2.2.1 with ⟨g0, g1, g2⟩ | ⟨g0, g1⟩
        all_goals first | exact absurd g0 c1 | exact absurd c1 g0 | exact absurd c3 g1 | exact absurd g1 c3 | exact absurd g2 c3
  ·
    refine lv_iload X.1 X.2.1 dL_areJobsRight_253 (lv_at hl 10 rfl) ?_
    refine lv_if_eq (tgt := 291) X.1 X.2.1 dL_areJobsRight_255 (by decide) (fun c4 => ?_) (fun c4 => ?_)
    ·
      skip
      exact kk E _ _ ls w hx (lv_sub hl [0, 1, 2, 3, 4, 5, 6, 7, 8, 9, 10] rfl)
    ·
      refine lv_goto (tgt := 289) X.1 X.2.1 dL_areJobsRight_258 (by decide) ?_
      rcases hjj.2.2.2.2.1 with ⟨g0, g1, g2⟩ | ⟨g0, g1⟩
      all_goals first | exact absurd g0 c1 | exact absurd c1 g0 | exact absurd c4 g1 | exact absurd g1 c4 | exact absurd g2 c4

set_option maxHeartbeats 4000000 in
set_option maxRecDepth 100000 in
theorem sg_jg {p : Program} {l : Launch} {e : Env} {s : State} {m : MethodId} {args : Array Value} {below : List Frame} {meth : Method} {c : Code} {D : va_G} {ca : Nat → ClassId} {ad : Nat → Nat} {E : Em} {F : Fm} {L : Lm} {S : Sm} {n : Nat} {A : Nat → Prop} {Q : State → Prop} (X : CallFix p m c cL_areJobsRight 13 s args BG yL_areJobsRight.cls) (cn : Cn A s) (hlt : l.stackTraces = false) (q : Nat → Nat) (hlf : Lf F L S n q) (k : Nat) (hk : k < n) (hjj : jj_ok F L S q k) (sp bi : Int32) (b : Nat) (cA : ClassId) (f : Nat → Int32) (hbx : ∀ o, o < 17 + n → b ≠ ad o) (hAb : A b) (hK1 : va_K D vwCl [(cA, .int)] s) (H : Heap) (locs : List Loc) (w : Wd D ca ad A s H locs (E, F, L, S, n)) (hx : va_P D vwCl [(b, .inl (cA, 4, .inl f))] H) (ls : Array Slot) (hl : lv_has ls 13 [(4, .int (nI k)), (0, .ref (ad 0)), (1, .ref b), (2, .int sp), (3, .int bi), (5, .int (s_ofJob F (nI k).toNatClampNeg (6 : Int32))), (6, .int (jj_mk F L q k)), (7, .int (s_ofJob F (nI k).toNatClampNeg (1 : Int32))), (8, .int (s_ofJob F (nI k).toNatClampNeg (7 : Int32))), (9, .int (s_ofJob F (nI k).toNatClampNeg (3 : Int32))), (10, .int (s_ofJob F (nI k).toNatClampNeg (8 : Int32)))])
    (kk : ∀ (E1 : Em) (H1 : Heap) (locs1 : List Loc) (ls1 : Array Slot), Wd D ca ad A s H1 locs1 (E1, F, L, S, n) → va_P D vwCl [(b, .inl (cA, 4, .inl f))] H1 → lv_has ls1 13 [(4, .int (nI k)), (0, .ref (ad 0)), (1, .ref b), (2, .int sp), (3, .int bi), (5, .int (s_ofJob F (nI k).toNatClampNeg (6 : Int32))), (6, .int (jj_mk F L q k)), (7, .int (s_ofJob F (nI k).toNatClampNeg (1 : Int32))), (8, .int (s_ofJob F (nI k).toNatClampNeg (7 : Int32))), (9, .int (s_ofJob F (nI k).toNatClampNeg (3 : Int32))), (10, .int (s_ofJob F (nI k).toNatClampNeg (8 : Int32)))] → W p l e { frames := 9, cells := 1, slots := 4, locals := 300 } s m args below meth c H1 locs1 1 4 Q (F0 m 310 ls1 [])) :
    W p l e { frames := 9, cells := 1, slots := 4, locals := 300 } s m args below meth c H locs 1 4 Q (F0 m 291 ls []) := by
  have wf := hlf.1
  have hs := wf.2.2.1
  have hJ := wf.2.1.2
  refine lv_iload X.1 X.2.1 dL_areJobsRight_291 (lv_at hl 5 rfl) ?_
  refine lv_iconst (v := 3) X.1 X.2.1 dL_areJobsRight_293 (by decide) ?_
  refine lv_icmp_ne (tgt := 310) X.1 X.2.1 dL_areJobsRight_294 (by decide) (fun c1 => ?_) (fun c1 => ?_)
  ·
    skip
    exact kk E _ _ ls w hx (lv_sub hl [0, 1, 2, 3, 4, 5, 6, 7, 8, 9, 10] rfl)
  ·
    refine lv_iload X.1 X.2.1 dL_areJobsRight_297 (lv_at hl 8 rfl) ?_
    refine lv_iload X.1 X.2.1 dL_areJobsRight_299 (lv_at hl 7 rfl) ?_
    refine lv_iload X.1 X.2.1 dL_areJobsRight_301 (lv_at hl 7 rfl) ?_
    refine lv_bipush (v := 20) X.1 X.2.1 dL_areJobsRight_303 (by decide) ?_
    refine lv_idiv X.1 X.2.1 dL_areJobsRight_305 (by decide) ?_
    refine lv_isub X.1 X.2.1 dL_areJobsRight_306 ?_
    refine lv_icmp_lt (tgt := 353) X.1 X.2.1 dL_areJobsRight_307 (by decide) (fun c2 => ?_) (fun c2 => ?_)
    ·
      rcases hjj.2.2.2.2.2.1 with g0 | g0
      all_goals first | exact absurd c1 g0 | exact absurd c2 g0
    ·
      skip
      exact kk E _ _ ls w hx (lv_sub hl [0, 1, 2, 3, 4, 5, 6, 7, 8, 9, 10] rfl)

set_option maxHeartbeats 4000000 in
set_option maxRecDepth 100000 in
theorem sg_jh {p : Program} {l : Launch} {e : Env} {s : State} {m : MethodId} {args : Array Value} {below : List Frame} {meth : Method} {c : Code} {D : va_G} {ca : Nat → ClassId} {ad : Nat → Nat} {E : Em} {F : Fm} {L : Lm} {S : Sm} {n : Nat} {A : Nat → Prop} {Q : State → Prop} (X : CallFix p m c cL_areJobsRight 13 s args BG yL_areJobsRight.cls) (cn : Cn A s) (hlt : l.stackTraces = false) (q : Nat → Nat) (hlf : Lf F L S n q) (k : Nat) (hk : k < n) (hjj : jj_ok F L S q k) (sp bi : Int32) (b : Nat) (cA : ClassId) (f : Nat → Int32) (hbx : ∀ o, o < 17 + n → b ≠ ad o) (hAb : A b) (hK1 : va_K D vwCl [(cA, .int)] s) (H : Heap) (locs : List Loc) (w : Wd D ca ad A s H locs (E, F, L, S, n)) (hx : va_P D vwCl [(b, .inl (cA, 4, .inl f))] H) (ls : Array Slot) (hl : lv_has ls 13 [(4, .int (nI k)), (0, .ref (ad 0)), (1, .ref b), (2, .int sp), (3, .int bi), (5, .int (s_ofJob F (nI k).toNatClampNeg (6 : Int32))), (6, .int (jj_mk F L q k)), (7, .int (s_ofJob F (nI k).toNatClampNeg (1 : Int32))), (8, .int (s_ofJob F (nI k).toNatClampNeg (7 : Int32))), (9, .int (s_ofJob F (nI k).toNatClampNeg (3 : Int32))), (10, .int (s_ofJob F (nI k).toNatClampNeg (8 : Int32)))])
    (kk : ∀ (E1 : Em) (H1 : Heap) (locs1 : List Loc) (ls1 : Array Slot), Wd D ca ad A s H1 locs1 (E1, F, L, S, n) → va_P D vwCl [(b, .inl (cA, 4, .inl f))] H1 → lv_has ls1 13 [(4, .int (nI k)), (0, .ref (ad 0)), (1, .ref b), (2, .int sp), (3, .int bi), (5, .int (s_ofJob F (nI k).toNatClampNeg (6 : Int32))), (6, .int (jj_mk F L q k)), (7, .int (s_ofJob F (nI k).toNatClampNeg (1 : Int32))), (8, .int (s_ofJob F (nI k).toNatClampNeg (7 : Int32))), (9, .int (s_ofJob F (nI k).toNatClampNeg (3 : Int32))), (10, .int (s_ofJob F (nI k).toNatClampNeg (8 : Int32)))] → W p l e { frames := 9, cells := 1, slots := 4, locals := 300 } s m args below meth c H1 locs1 1 4 Q (F0 m 355 ls1 [])) :
    W p l e { frames := 9, cells := 1, slots := 4, locals := 300 } s m args below meth c H locs 1 4 Q (F0 m 310 ls []) := by
  have wf := hlf.1
  have hs := wf.2.2.1
  have hJ := wf.2.1.2
  refine lv_iload X.1 X.2.1 dL_areJobsRight_310 (lv_at hl 5 rfl) ?_
  refine lv_iconst (v := 3) X.1 X.2.1 dL_areJobsRight_312 (by decide) ?_
  refine lv_icmp_ne (tgt := 320) X.1 X.2.1 dL_areJobsRight_313 (by decide) (fun c1 => ?_) (fun c1 => ?_)
  ·
    refine lv_iconst (v := 0) X.1 X.2.1 dL_areJobsRight_320 (by decide) ?_
    refine lv_aload_n X.1 X.2.1 dL_areJobsRight_321 rfl (lv_at hl 1 rfl) ?_
    refine lv_iload X.1 X.2.1 dL_areJobsRight_322 (lv_at hl 0 rfl) ?_
    refine lv_bipush (v := 11) X.1 X.2.1 dL_areJobsRight_324 (by decide) ?_
    have h3 : (er_ofJob n (nI k) (11 : Int32)) = 0 := (ofJob_at hlf hk (by decide))
    refine x_calli cn w hbx hx (w_runV (n := 2) (As := [.int (nI k), .int 11]) X cn w (lt17 (by decide)) wC_0 rfl (fun sz => met_of (c_X4_ofJob l D ca ad E F L S n hlt q wf (nI k) (11 : Int32) 0 0 (fun h => (h h3).elim) sz) h3) (bg_V kw_536 kw_381 kw_382 kw_31 kw_383) rfl rfl (by decide +kernel) ⟨(Nat.le_of_ble_eq_true rfl), (Nat.le_of_ble_eq_true rfl)⟩ rfl hl.1 rfl (Nat.le_of_ble_eq_true rfl) dL_areJobsRight_326 ⟨(Nat.le_of_ble_eq_true rfl), (Nat.le_of_ble_eq_true rfl)⟩) (fun r2 u H locs hp w hx => ?_)
    obtain ⟨E4, q5⟩ := u
    obtain ⟨-, rfl, h6⟩ := hp
    have h6 : q5 = (F, L, S, n) := h6
    subst h6
    refine lv_if_le (tgt := 336) X.1 X.2.1 dL_areJobsRight_329 (by decide) (fun c7 => ?_) (fun c7 => ?_)
    ·
      refine lv_iconst (v := 0) X.1 X.2.1 dL_areJobsRight_336 (by decide) ?_
      refine lv_icmp_eq (tgt := 355) X.1 X.2.1 dL_areJobsRight_337 (by decide) (fun c8 => ?_) (fun c8 => ?_)
      ·
        skip
        exact kk E4 _ _ ls w hx (lv_sub hl [0, 1, 2, 3, 4, 5, 6, 7, 8, 9, 10] rfl)
      ·
        exact absurd (by decide) c8
    ·
      refine lv_iconst (v := 1) X.1 X.2.1 dL_areJobsRight_332 (by decide) ?_
      refine lv_goto (tgt := 337) X.1 X.2.1 dL_areJobsRight_333 (by decide) ?_
      refine lv_icmp_eq (tgt := 355) X.1 X.2.1 dL_areJobsRight_337 (by decide) (fun c9 => ?_) (fun c9 => ?_)
      ·
        exact absurd c9 (by decide)
      ·
        refine lv_aload_n X.1 X.2.1 dL_areJobsRight_340 rfl (lv_at hl 1 rfl) ?_
        refine lv_iload X.1 X.2.1 dL_areJobsRight_341 (lv_at hl 0 rfl) ?_
        refine lv_bipush (v := 9) X.1 X.2.1 dL_areJobsRight_343 (by decide) ?_
        have h11 : (er_ofJob n (nI k) (9 : Int32)) = 0 := (ofJob_at hlf hk (by decide))
        refine x_calli cn w hbx hx (w_runV (n := 2) (As := [.int (nI k), .int 9]) X cn w (lt17 (by decide)) wC_0 rfl (fun sz => met_of (c_X4_ofJob l D ca ad E4 F L S n hlt q wf (nI k) (9 : Int32) 0 0 (fun h => (h h11).elim) sz) h11) (bg_V kw_536 kw_381 kw_382 kw_31 kw_383) rfl rfl (by decide +kernel) ⟨(Nat.le_of_ble_eq_true rfl), (Nat.le_of_ble_eq_true rfl)⟩ rfl hl.1 rfl (Nat.le_of_ble_eq_true rfl) dL_areJobsRight_345 ⟨(Nat.le_of_ble_eq_true rfl), (Nat.le_of_ble_eq_true rfl)⟩) (fun r10 u H locs hp w hx => ?_)
        obtain ⟨E12, q13⟩ := u
        obtain ⟨-, rfl, h14⟩ := hp
        have h14 : q13 = (F, L, S, n) := h14
        subst h14
        refine lv_iload X.1 X.2.1 dL_areJobsRight_348 (lv_at hl 7 rfl) ?_
        refine lv_icmp_le (tgt := 355) X.1 X.2.1 dL_areJobsRight_350 (by decide) (fun c15 => ?_) (fun c15 => ?_)
        ·
          skip
          exact kk E12 _ _ ls w hx (lv_sub hl [0, 1, 2, 3, 4, 5, 6, 7, 8, 9, 10] rfl)
        ·
          rcases hjj.2.2.2.2.2.2.1 with g0 | g0
          all_goals first | exact absurd (g0.mp c1) (fun h => h c7) | exact absurd (g0.mpr c7) c1 | exact absurd g0 c15 | exact absurd (g0.mp c1) c7 | (exact c1 (g0.mpr c7))
  ·
    refine lv_iconst (v := 1) X.1 X.2.1 dL_areJobsRight_316 (by decide) ?_
    refine lv_goto (tgt := 321) X.1 X.2.1 dL_areJobsRight_317 (by decide) ?_
    refine lv_aload_n X.1 X.2.1 dL_areJobsRight_321 rfl (lv_at hl 1 rfl) ?_
    refine lv_iload X.1 X.2.1 dL_areJobsRight_322 (lv_at hl 0 rfl) ?_
    refine lv_bipush (v := 11) X.1 X.2.1 dL_areJobsRight_324 (by decide) ?_
    have h17 : (er_ofJob n (nI k) (11 : Int32)) = 0 := (ofJob_at hlf hk (by decide))
    refine x_calli cn w hbx hx (w_runV (n := 2) (As := [.int (nI k), .int 11]) X cn w (lt17 (by decide)) wC_0 rfl (fun sz => met_of (c_X4_ofJob l D ca ad E F L S n hlt q wf (nI k) (11 : Int32) 0 0 (fun h => (h h17).elim) sz) h17) (bg_V kw_536 kw_381 kw_382 kw_31 kw_383) rfl rfl (by decide +kernel) ⟨(Nat.le_of_ble_eq_true rfl), (Nat.le_of_ble_eq_true rfl)⟩ rfl hl.1 rfl (Nat.le_of_ble_eq_true rfl) dL_areJobsRight_326 ⟨(Nat.le_of_ble_eq_true rfl), (Nat.le_of_ble_eq_true rfl)⟩) (fun r16 u H locs hp w hx => ?_)
    obtain ⟨E18, q19⟩ := u
    obtain ⟨-, rfl, h20⟩ := hp
    have h20 : q19 = (F, L, S, n) := h20
    subst h20
    refine lv_if_le (tgt := 336) X.1 X.2.1 dL_areJobsRight_329 (by decide) (fun c21 => ?_) (fun c21 => ?_)
    ·
      refine lv_iconst (v := 0) X.1 X.2.1 dL_areJobsRight_336 (by decide) ?_
      refine lv_icmp_eq (tgt := 355) X.1 X.2.1 dL_areJobsRight_337 (by decide) (fun c22 => ?_) (fun c22 => ?_)
      ·
        exact absurd c22 (by decide)
      ·
        refine lv_aload_n X.1 X.2.1 dL_areJobsRight_340 rfl (lv_at hl 1 rfl) ?_
        refine lv_iload X.1 X.2.1 dL_areJobsRight_341 (lv_at hl 0 rfl) ?_
        refine lv_bipush (v := 9) X.1 X.2.1 dL_areJobsRight_343 (by decide) ?_
        have h24 : (er_ofJob n (nI k) (9 : Int32)) = 0 := (ofJob_at hlf hk (by decide))
        refine x_calli cn w hbx hx (w_runV (n := 2) (As := [.int (nI k), .int 9]) X cn w (lt17 (by decide)) wC_0 rfl (fun sz => met_of (c_X4_ofJob l D ca ad E18 F L S n hlt q wf (nI k) (9 : Int32) 0 0 (fun h => (h h24).elim) sz) h24) (bg_V kw_536 kw_381 kw_382 kw_31 kw_383) rfl rfl (by decide +kernel) ⟨(Nat.le_of_ble_eq_true rfl), (Nat.le_of_ble_eq_true rfl)⟩ rfl hl.1 rfl (Nat.le_of_ble_eq_true rfl) dL_areJobsRight_345 ⟨(Nat.le_of_ble_eq_true rfl), (Nat.le_of_ble_eq_true rfl)⟩) (fun r23 u H locs hp w hx => ?_)
        obtain ⟨E25, q26⟩ := u
        obtain ⟨-, rfl, h27⟩ := hp
        have h27 : q26 = (F, L, S, n) := h27
        subst h27
        refine lv_iload X.1 X.2.1 dL_areJobsRight_348 (lv_at hl 7 rfl) ?_
        refine lv_icmp_le (tgt := 355) X.1 X.2.1 dL_areJobsRight_350 (by decide) (fun c28 => ?_) (fun c28 => ?_)
        ·
          skip
          exact kk E25 _ _ ls w hx (lv_sub hl [0, 1, 2, 3, 4, 5, 6, 7, 8, 9, 10] rfl)
        ·
          rcases hjj.2.2.2.2.2.2.1 with g0 | g0
          all_goals first | exact absurd (g0.mp c1) (fun h => h c21) | exact absurd (g0.mpr c21) c1 | exact absurd g0 c28 | exact absurd (g0.mp c1) c21 | (exact c1 (g0.mpr c21))
    ·
      refine lv_iconst (v := 1) X.1 X.2.1 dL_areJobsRight_332 (by decide) ?_
      refine lv_goto (tgt := 337) X.1 X.2.1 dL_areJobsRight_333 (by decide) ?_
      refine lv_icmp_eq (tgt := 355) X.1 X.2.1 dL_areJobsRight_337 (by decide) (fun c29 => ?_) (fun c29 => ?_)
      ·
        skip
        exact kk E18 _ _ ls w hx (lv_sub hl [0, 1, 2, 3, 4, 5, 6, 7, 8, 9, 10] rfl)
      ·
        exact absurd (by decide) c29

set_option maxHeartbeats 4000000 in
set_option maxRecDepth 100000 in
theorem sg_ji {p : Program} {l : Launch} {e : Env} {s : State} {m : MethodId} {args : Array Value} {below : List Frame} {meth : Method} {c : Code} {D : va_G} {ca : Nat → ClassId} {ad : Nat → Nat} {E : Em} {F : Fm} {L : Lm} {S : Sm} {n : Nat} {A : Nat → Prop} {Q : State → Prop} (X : CallFix p m c cL_areJobsRight 13 s args BG yL_areJobsRight.cls) (cn : Cn A s) (hlt : l.stackTraces = false) (q : Nat → Nat) (hlf : Lf F L S n q) (k : Nat) (hk : k < n) (hjj : jj_ok F L S q k) (sp bi : Int32) (b : Nat) (cA : ClassId) (f : Nat → Int32) (hbx : ∀ o, o < 17 + n → b ≠ ad o) (hAb : A b) (hK1 : va_K D vwCl [(cA, .int)] s) (H : Heap) (locs : List Loc) (w : Wd D ca ad A s H locs (E, F, L, S, n)) (hx : va_P D vwCl [(b, .inl (cA, 4, .inl f))] H) (ls : Array Slot) (hl : lv_has ls 13 [(4, .int (nI k)), (0, .ref (ad 0)), (1, .ref b), (2, .int sp), (3, .int bi), (5, .int (s_ofJob F (nI k).toNatClampNeg (6 : Int32))), (6, .int (jj_mk F L q k)), (7, .int (s_ofJob F (nI k).toNatClampNeg (1 : Int32))), (8, .int (s_ofJob F (nI k).toNatClampNeg (7 : Int32))), (9, .int (s_ofJob F (nI k).toNatClampNeg (3 : Int32))), (10, .int (s_ofJob F (nI k).toNatClampNeg (8 : Int32)))])
    (kk : ∀ (E1 : Em) (H1 : Heap) (locs1 : List Loc) (ls1 : Array Slot), Wd D ca ad A s H1 locs1 (E1, F, L, S, n) → va_P D vwCl [(b, .inl (cA, 4, .inl f))] H1 → lv_has ls1 13 [(4, .int (nI k)), (0, .ref (ad 0)), (1, .ref b), (2, .int sp), (3, .int bi)] → W p l e { frames := 9, cells := 1, slots := 4, locals := 300 } s m args below meth c H1 locs1 1 4 Q (F0 m 423 ls1 [])) :
    W p l e { frames := 9, cells := 1, slots := 4, locals := 300 } s m args below meth c H locs 1 4 Q (F0 m 355 ls []) := by
  have wf := hlf.1
  have hs := wf.2.2.1
  have hJ := wf.2.1.2
  refine lv_aload_n X.1 X.2.1 dL_areJobsRight_355 rfl (lv_at hl 1 rfl) ?_
  refine lv_iload X.1 X.2.1 dL_areJobsRight_356 (lv_at hl 0 rfl) ?_
  have h2 : (erI n (nI k)) = 0 := (hlf.idx hk)
  refine x_calli cn w hbx hx (w_runV (n := 1) (As := [.int (nI k)]) X cn w (lt17 (by decide)) wC_0 rfl (fun sz => met_of (c_X4_bestPress l D ca ad E F L S n hlt q wf (nI k) 0 0 (fun h => (h h2).elim) sz) h2) (bg_V kw_645 kw_396 kw_397 kw_31 kw_398) rfl rfl (by decide +kernel) ⟨(Nat.le_of_ble_eq_true rfl), (Nat.le_of_ble_eq_true rfl)⟩ rfl hl.1 rfl (Nat.le_of_ble_eq_true rfl) dL_areJobsRight_358 ⟨(Nat.le_of_ble_eq_true rfl), (Nat.le_of_ble_eq_true rfl)⟩) (fun r1 u H locs hp w hx => ?_)
  obtain ⟨E3, q4⟩ := u
  obtain ⟨-, rfl, h5⟩ := hp
  have h5 : q4 = (F, L, S, n) := h5
  subst h5
  refine lv_topi (fun x6 ex6 => ?_)
  refine lv_istore (lv' := [(11, .int x6), (4, .int (nI k)), (0, .ref (ad 0)), (1, .ref b), (2, .int sp), (3, .int bi), (5, .int (s_ofJob F (nI k).toNatClampNeg (6 : Int32))), (6, .int (jj_mk F L q k)), (7, .int (s_ofJob F (nI k).toNatClampNeg (1 : Int32))), (8, .int (s_ofJob F (nI k).toNatClampNeg (7 : Int32))), (9, .int (s_ofJob F (nI k).toNatClampNeg (3 : Int32))), (10, .int (s_ofJob F (nI k).toNatClampNeg (8 : Int32)))]) X.1 X.2.1 dL_areJobsRight_361 hl (by decide) rfl (fun ls hl => ?_)
  refine lv_iconst (v := 0) X.1 X.2.1 dL_areJobsRight_363 (by decide) ?_
  refine lv_istore (lv' := [(12, .int 0), (11, .int x6), (4, .int (nI k)), (0, .ref (ad 0)), (1, .ref b), (2, .int sp), (3, .int bi), (5, .int (s_ofJob F (nI k).toNatClampNeg (6 : Int32))), (6, .int (jj_mk F L q k)), (7, .int (s_ofJob F (nI k).toNatClampNeg (1 : Int32))), (8, .int (s_ofJob F (nI k).toNatClampNeg (7 : Int32))), (9, .int (s_ofJob F (nI k).toNatClampNeg (3 : Int32))), (10, .int (s_ofJob F (nI k).toNatClampNeg (8 : Int32)))]) X.1 X.2.1 dL_areJobsRight_364 hl (by decide) rfl (fun ls hl => ?_)
  refine lv_iload X.1 X.2.1 dL_areJobsRight_366 (lv_at hl 0 rfl) ?_
  refine lv_iconst (v := 3) X.1 X.2.1 dL_areJobsRight_368 (by decide) ?_
  refine lv_icmp_ge (tgt := 423) X.1 X.2.1 dL_areJobsRight_369 (by decide) (fun c7 => ?_) (fun c7 => ?_)
  ·
    exact absurd c7 (by decide)
  ·
    refine lv_aload_n X.1 X.2.1 dL_areJobsRight_372 rfl (lv_at hl 3 rfl) ?_
    refine lv_iload X.1 X.2.1 dL_areJobsRight_373 (lv_at hl 2 rfl) ?_
    refine lv_iload X.1 X.2.1 dL_areJobsRight_375 (lv_at hl 0 rfl) ?_
    refine lv_iconst (v := 5) X.1 X.2.1 dL_areJobsRight_377 (by decide) ?_
    have h9 : (er_expected n (nI k) (0 : Int32) (5 : Int32)) = 0 := (by subst ex6; rw [er_expected, if_pos (hlf.idx hk), if_pos (by first | decide | exact best_3)]; decide)
    refine x_calli cn w hbx hx (w_runV (n := 3) (As := [.int (nI k), .int 0, .int 5]) X cn w (lt17 (by decide)) wC_0 rfl (fun sz => met_of (c_X4_expected l D ca ad E3 F L S n hlt q wf (nI k) (0 : Int32) (5 : Int32) 0 0 (fun h => (h h9).elim) sz) h9) (bg_V kw_629 kw_391 kw_392 kw_31 kw_393) rfl rfl (by decide +kernel) ⟨(Nat.le_of_ble_eq_true rfl), (Nat.le_of_ble_eq_true rfl)⟩ rfl hl.1 rfl (Nat.le_of_ble_eq_true rfl) dL_areJobsRight_378 ⟨(Nat.le_of_ble_eq_true rfl), (Nat.le_of_ble_eq_true rfl)⟩) (fun r8 u H locs hp w hx => ?_)
    obtain ⟨E10, q11⟩ := u
    obtain ⟨-, rfl, h12⟩ := hp
    have h12 : q11 = (F, L, S, n) := h12
    subst h12
    refine lv_aload_n X.1 X.2.1 dL_areJobsRight_381 rfl (lv_at hl 3 rfl) ?_
    refine lv_iload X.1 X.2.1 dL_areJobsRight_382 (lv_at hl 2 rfl) ?_
    refine lv_iload X.1 X.2.1 dL_areJobsRight_384 (lv_at hl 1 rfl) ?_
    refine lv_iconst (v := 5) X.1 X.2.1 dL_areJobsRight_386 (by decide) ?_
    have h14 : (er_expected n (nI k) x6 (5 : Int32)) = 0 := (by subst ex6; rw [er_expected, if_pos (hlf.idx hk), if_pos (by first | decide | exact best_3)]; decide)
    refine x_calli cn w hbx hx (w_runV (n := 3) (As := [.int (nI k), .int x6, .int 5]) X cn w (lt17 (by decide)) wC_0 rfl (fun sz => met_of (c_X4_expected l D ca ad E10 F L S n hlt q wf (nI k) x6 (5 : Int32) 0 0 (fun h => (h h14).elim) sz) h14) (bg_V kw_629 kw_391 kw_392 kw_31 kw_393) rfl rfl (by decide +kernel) ⟨(Nat.le_of_ble_eq_true rfl), (Nat.le_of_ble_eq_true rfl)⟩ rfl hl.1 rfl (Nat.le_of_ble_eq_true rfl) dL_areJobsRight_387 ⟨(Nat.le_of_ble_eq_true rfl), (Nat.le_of_ble_eq_true rfl)⟩) (fun r13 u H locs hp w hx => ?_)
    obtain ⟨E15, q16⟩ := u
    obtain ⟨-, rfl, h17⟩ := hp
    have h17 : q16 = (F, L, S, n) := h17
    subst h17
    refine lv_icmp_lt (tgt := 415) X.1 X.2.1 dL_areJobsRight_390 (by decide) (fun c18 => ?_) (fun c18 => ?_)
    ·
      obtain ⟨g0, g1⟩ := hjj.2.2.2.2.2.2.2 (0 : Int32) (by decide)
      subst ex6;
      first | exact absurd c18 g0 | exact absurd g1 c18
    ·
      refine lv_aload_n X.1 X.2.1 dL_areJobsRight_393 rfl (lv_at hl 3 rfl) ?_
      refine lv_iload X.1 X.2.1 dL_areJobsRight_394 (lv_at hl 2 rfl) ?_
      refine lv_iload X.1 X.2.1 dL_areJobsRight_396 (lv_at hl 0 rfl) ?_
      refine lv_bipush (v := 6) X.1 X.2.1 dL_areJobsRight_398 (by decide) ?_
      have h20 : (er_expected n (nI k) (0 : Int32) (6 : Int32)) = 0 := (by subst ex6; rw [er_expected, if_pos (hlf.idx hk), if_pos (by first | decide | exact best_3)]; decide)
      refine x_calli cn w hbx hx (w_runV (n := 3) (As := [.int (nI k), .int 0, .int 6]) X cn w (lt17 (by decide)) wC_0 rfl (fun sz => met_of (c_X4_expected l D ca ad E15 F L S n hlt q wf (nI k) (0 : Int32) (6 : Int32) 0 0 (fun h => (h h20).elim) sz) h20) (bg_V kw_629 kw_391 kw_392 kw_31 kw_393) rfl rfl (by decide +kernel) ⟨(Nat.le_of_ble_eq_true rfl), (Nat.le_of_ble_eq_true rfl)⟩ rfl hl.1 rfl (Nat.le_of_ble_eq_true rfl) dL_areJobsRight_400 ⟨(Nat.le_of_ble_eq_true rfl), (Nat.le_of_ble_eq_true rfl)⟩) (fun r19 u H locs hp w hx => ?_)
      obtain ⟨E21, q22⟩ := u
      obtain ⟨-, rfl, h23⟩ := hp
      have h23 : q22 = (F, L, S, n) := h23
      subst h23
      refine lv_aload_n X.1 X.2.1 dL_areJobsRight_403 rfl (lv_at hl 3 rfl) ?_
      refine lv_iload X.1 X.2.1 dL_areJobsRight_404 (lv_at hl 2 rfl) ?_
      refine lv_iload X.1 X.2.1 dL_areJobsRight_406 (lv_at hl 0 rfl) ?_
      refine lv_iconst (v := 5) X.1 X.2.1 dL_areJobsRight_408 (by decide) ?_
      have h25 : (er_expected n (nI k) (0 : Int32) (5 : Int32)) = 0 := (by subst ex6; rw [er_expected, if_pos (hlf.idx hk), if_pos (by first | decide | exact best_3)]; decide)
      refine x_calli cn w hbx hx (w_runV (n := 3) (As := [.int (nI k), .int 0, .int 5]) X cn w (lt17 (by decide)) wC_0 rfl (fun sz => met_of (c_X4_expected l D ca ad E21 F L S n hlt q wf (nI k) (0 : Int32) (5 : Int32) 0 0 (fun h => (h h25).elim) sz) h25) (bg_V kw_629 kw_391 kw_392 kw_31 kw_393) rfl rfl (by decide +kernel) ⟨(Nat.le_of_ble_eq_true rfl), (Nat.le_of_ble_eq_true rfl)⟩ rfl hl.1 rfl (Nat.le_of_ble_eq_true rfl) dL_areJobsRight_409 ⟨(Nat.le_of_ble_eq_true rfl), (Nat.le_of_ble_eq_true rfl)⟩) (fun r24 u H locs hp w hx => ?_)
      obtain ⟨E26, q27⟩ := u
      obtain ⟨-, rfl, h28⟩ := hp
      have h28 : q27 = (F, L, S, n) := h28
      subst h28
      refine lv_icmp_ge (tgt := 417) X.1 X.2.1 dL_areJobsRight_412 (by decide) (fun c29 => ?_) (fun c29 => ?_)
      ·
        refine lv_iinc (v := 1) (lv' := [(12, .int 1), (11, .int x6), (4, .int (nI k)), (0, .ref (ad 0)), (1, .ref b), (2, .int sp), (3, .int bi), (5, .int (s_ofJob F (nI k).toNatClampNeg (6 : Int32))), (6, .int (jj_mk F L q k)), (7, .int (s_ofJob F (nI k).toNatClampNeg (1 : Int32))), (8, .int (s_ofJob F (nI k).toNatClampNeg (7 : Int32))), (9, .int (s_ofJob F (nI k).toNatClampNeg (3 : Int32))), (10, .int (s_ofJob F (nI k).toNatClampNeg (8 : Int32)))]) X.1 X.2.1 dL_areJobsRight_417 hl (k := 0) rfl (by decide) (by decide) rfl (fun ls hl => ?_)
        refine lv_goto (tgt := 366) X.1 X.2.1 dL_areJobsRight_420 (by decide) ?_
        refine lv_iload X.1 X.2.1 dL_areJobsRight_366 (lv_at hl 0 rfl) ?_
        refine lv_iconst (v := 3) X.1 X.2.1 dL_areJobsRight_368 (by decide) ?_
        refine lv_icmp_ge (tgt := 423) X.1 X.2.1 dL_areJobsRight_369 (by decide) (fun c30 => ?_) (fun c30 => ?_)
        ·
          exact absurd c30 (by decide)
        ·
          refine lv_aload_n X.1 X.2.1 dL_areJobsRight_372 rfl (lv_at hl 3 rfl) ?_
          refine lv_iload X.1 X.2.1 dL_areJobsRight_373 (lv_at hl 2 rfl) ?_
          refine lv_iload X.1 X.2.1 dL_areJobsRight_375 (lv_at hl 0 rfl) ?_
          refine lv_iconst (v := 5) X.1 X.2.1 dL_areJobsRight_377 (by decide) ?_
          have h32 : (er_expected n (nI k) (1 : Int32) (5 : Int32)) = 0 := (by subst ex6; rw [er_expected, if_pos (hlf.idx hk), if_pos (by first | decide | exact best_3)]; decide)
          refine x_calli cn w hbx hx (w_runV (n := 3) (As := [.int (nI k), .int 1, .int 5]) X cn w (lt17 (by decide)) wC_0 rfl (fun sz => met_of (c_X4_expected l D ca ad E26 F L S n hlt q wf (nI k) (1 : Int32) (5 : Int32) 0 0 (fun h => (h h32).elim) sz) h32) (bg_V kw_629 kw_391 kw_392 kw_31 kw_393) rfl rfl (by decide +kernel) ⟨(Nat.le_of_ble_eq_true rfl), (Nat.le_of_ble_eq_true rfl)⟩ rfl hl.1 rfl (Nat.le_of_ble_eq_true rfl) dL_areJobsRight_378 ⟨(Nat.le_of_ble_eq_true rfl), (Nat.le_of_ble_eq_true rfl)⟩) (fun r31 u H locs hp w hx => ?_)
          obtain ⟨E33, q34⟩ := u
          obtain ⟨-, rfl, h35⟩ := hp
          have h35 : q34 = (F, L, S, n) := h35
          subst h35
          refine lv_aload_n X.1 X.2.1 dL_areJobsRight_381 rfl (lv_at hl 3 rfl) ?_
          refine lv_iload X.1 X.2.1 dL_areJobsRight_382 (lv_at hl 2 rfl) ?_
          refine lv_iload X.1 X.2.1 dL_areJobsRight_384 (lv_at hl 1 rfl) ?_
          refine lv_iconst (v := 5) X.1 X.2.1 dL_areJobsRight_386 (by decide) ?_
          have h37 : (er_expected n (nI k) x6 (5 : Int32)) = 0 := (by subst ex6; rw [er_expected, if_pos (hlf.idx hk), if_pos (by first | decide | exact best_3)]; decide)
          refine x_calli cn w hbx hx (w_runV (n := 3) (As := [.int (nI k), .int x6, .int 5]) X cn w (lt17 (by decide)) wC_0 rfl (fun sz => met_of (c_X4_expected l D ca ad E33 F L S n hlt q wf (nI k) x6 (5 : Int32) 0 0 (fun h => (h h37).elim) sz) h37) (bg_V kw_629 kw_391 kw_392 kw_31 kw_393) rfl rfl (by decide +kernel) ⟨(Nat.le_of_ble_eq_true rfl), (Nat.le_of_ble_eq_true rfl)⟩ rfl hl.1 rfl (Nat.le_of_ble_eq_true rfl) dL_areJobsRight_387 ⟨(Nat.le_of_ble_eq_true rfl), (Nat.le_of_ble_eq_true rfl)⟩) (fun r36 u H locs hp w hx => ?_)
          obtain ⟨E38, q39⟩ := u
          obtain ⟨-, rfl, h40⟩ := hp
          have h40 : q39 = (F, L, S, n) := h40
          subst h40
          refine lv_icmp_lt (tgt := 415) X.1 X.2.1 dL_areJobsRight_390 (by decide) (fun c41 => ?_) (fun c41 => ?_)
          ·
            obtain ⟨g0, g1⟩ := hjj.2.2.2.2.2.2.2 (1 : Int32) (by decide)
            subst ex6;
            first | exact absurd c41 g0 | exact absurd g1 c41
          ·
            refine lv_aload_n X.1 X.2.1 dL_areJobsRight_393 rfl (lv_at hl 3 rfl) ?_
            refine lv_iload X.1 X.2.1 dL_areJobsRight_394 (lv_at hl 2 rfl) ?_
            refine lv_iload X.1 X.2.1 dL_areJobsRight_396 (lv_at hl 0 rfl) ?_
            refine lv_bipush (v := 6) X.1 X.2.1 dL_areJobsRight_398 (by decide) ?_
            have h43 : (er_expected n (nI k) (1 : Int32) (6 : Int32)) = 0 := (by subst ex6; rw [er_expected, if_pos (hlf.idx hk), if_pos (by first | decide | exact best_3)]; decide)
            refine x_calli cn w hbx hx (w_runV (n := 3) (As := [.int (nI k), .int 1, .int 6]) X cn w (lt17 (by decide)) wC_0 rfl (fun sz => met_of (c_X4_expected l D ca ad E38 F L S n hlt q wf (nI k) (1 : Int32) (6 : Int32) 0 0 (fun h => (h h43).elim) sz) h43) (bg_V kw_629 kw_391 kw_392 kw_31 kw_393) rfl rfl (by decide +kernel) ⟨(Nat.le_of_ble_eq_true rfl), (Nat.le_of_ble_eq_true rfl)⟩ rfl hl.1 rfl (Nat.le_of_ble_eq_true rfl) dL_areJobsRight_400 ⟨(Nat.le_of_ble_eq_true rfl), (Nat.le_of_ble_eq_true rfl)⟩) (fun r42 u H locs hp w hx => ?_)
            obtain ⟨E44, q45⟩ := u
            obtain ⟨-, rfl, h46⟩ := hp
            have h46 : q45 = (F, L, S, n) := h46
            subst h46
            refine lv_aload_n X.1 X.2.1 dL_areJobsRight_403 rfl (lv_at hl 3 rfl) ?_
            refine lv_iload X.1 X.2.1 dL_areJobsRight_404 (lv_at hl 2 rfl) ?_
            refine lv_iload X.1 X.2.1 dL_areJobsRight_406 (lv_at hl 0 rfl) ?_
            refine lv_iconst (v := 5) X.1 X.2.1 dL_areJobsRight_408 (by decide) ?_
            have h48 : (er_expected n (nI k) (1 : Int32) (5 : Int32)) = 0 := (by subst ex6; rw [er_expected, if_pos (hlf.idx hk), if_pos (by first | decide | exact best_3)]; decide)
            refine x_calli cn w hbx hx (w_runV (n := 3) (As := [.int (nI k), .int 1, .int 5]) X cn w (lt17 (by decide)) wC_0 rfl (fun sz => met_of (c_X4_expected l D ca ad E44 F L S n hlt q wf (nI k) (1 : Int32) (5 : Int32) 0 0 (fun h => (h h48).elim) sz) h48) (bg_V kw_629 kw_391 kw_392 kw_31 kw_393) rfl rfl (by decide +kernel) ⟨(Nat.le_of_ble_eq_true rfl), (Nat.le_of_ble_eq_true rfl)⟩ rfl hl.1 rfl (Nat.le_of_ble_eq_true rfl) dL_areJobsRight_409 ⟨(Nat.le_of_ble_eq_true rfl), (Nat.le_of_ble_eq_true rfl)⟩) (fun r47 u H locs hp w hx => ?_)
            obtain ⟨E49, q50⟩ := u
            obtain ⟨-, rfl, h51⟩ := hp
            have h51 : q50 = (F, L, S, n) := h51
            subst h51
            refine lv_icmp_ge (tgt := 417) X.1 X.2.1 dL_areJobsRight_412 (by decide) (fun c52 => ?_) (fun c52 => ?_)
            ·
              refine lv_iinc (v := 2) (lv' := [(12, .int 2), (11, .int x6), (4, .int (nI k)), (0, .ref (ad 0)), (1, .ref b), (2, .int sp), (3, .int bi), (5, .int (s_ofJob F (nI k).toNatClampNeg (6 : Int32))), (6, .int (jj_mk F L q k)), (7, .int (s_ofJob F (nI k).toNatClampNeg (1 : Int32))), (8, .int (s_ofJob F (nI k).toNatClampNeg (7 : Int32))), (9, .int (s_ofJob F (nI k).toNatClampNeg (3 : Int32))), (10, .int (s_ofJob F (nI k).toNatClampNeg (8 : Int32)))]) X.1 X.2.1 dL_areJobsRight_417 hl (k := 0) rfl (by decide) (by decide) rfl (fun ls hl => ?_)
              refine lv_goto (tgt := 366) X.1 X.2.1 dL_areJobsRight_420 (by decide) ?_
              refine lv_iload X.1 X.2.1 dL_areJobsRight_366 (lv_at hl 0 rfl) ?_
              refine lv_iconst (v := 3) X.1 X.2.1 dL_areJobsRight_368 (by decide) ?_
              refine lv_icmp_ge (tgt := 423) X.1 X.2.1 dL_areJobsRight_369 (by decide) (fun c53 => ?_) (fun c53 => ?_)
              ·
                exact absurd c53 (by decide)
              ·
                refine lv_aload_n X.1 X.2.1 dL_areJobsRight_372 rfl (lv_at hl 3 rfl) ?_
                refine lv_iload X.1 X.2.1 dL_areJobsRight_373 (lv_at hl 2 rfl) ?_
                refine lv_iload X.1 X.2.1 dL_areJobsRight_375 (lv_at hl 0 rfl) ?_
                refine lv_iconst (v := 5) X.1 X.2.1 dL_areJobsRight_377 (by decide) ?_
                have h55 : (er_expected n (nI k) (2 : Int32) (5 : Int32)) = 0 := (by subst ex6; rw [er_expected, if_pos (hlf.idx hk), if_pos (by first | decide | exact best_3)]; decide)
                refine x_calli cn w hbx hx (w_runV (n := 3) (As := [.int (nI k), .int 2, .int 5]) X cn w (lt17 (by decide)) wC_0 rfl (fun sz => met_of (c_X4_expected l D ca ad E49 F L S n hlt q wf (nI k) (2 : Int32) (5 : Int32) 0 0 (fun h => (h h55).elim) sz) h55) (bg_V kw_629 kw_391 kw_392 kw_31 kw_393) rfl rfl (by decide +kernel) ⟨(Nat.le_of_ble_eq_true rfl), (Nat.le_of_ble_eq_true rfl)⟩ rfl hl.1 rfl (Nat.le_of_ble_eq_true rfl) dL_areJobsRight_378 ⟨(Nat.le_of_ble_eq_true rfl), (Nat.le_of_ble_eq_true rfl)⟩) (fun r54 u H locs hp w hx => ?_)
                obtain ⟨E56, q57⟩ := u
                obtain ⟨-, rfl, h58⟩ := hp
                have h58 : q57 = (F, L, S, n) := h58
                subst h58
                refine lv_aload_n X.1 X.2.1 dL_areJobsRight_381 rfl (lv_at hl 3 rfl) ?_
                refine lv_iload X.1 X.2.1 dL_areJobsRight_382 (lv_at hl 2 rfl) ?_
                refine lv_iload X.1 X.2.1 dL_areJobsRight_384 (lv_at hl 1 rfl) ?_
                refine lv_iconst (v := 5) X.1 X.2.1 dL_areJobsRight_386 (by decide) ?_
                have h60 : (er_expected n (nI k) x6 (5 : Int32)) = 0 := (by subst ex6; rw [er_expected, if_pos (hlf.idx hk), if_pos (by first | decide | exact best_3)]; decide)
                refine x_calli cn w hbx hx (w_runV (n := 3) (As := [.int (nI k), .int x6, .int 5]) X cn w (lt17 (by decide)) wC_0 rfl (fun sz => met_of (c_X4_expected l D ca ad E56 F L S n hlt q wf (nI k) x6 (5 : Int32) 0 0 (fun h => (h h60).elim) sz) h60) (bg_V kw_629 kw_391 kw_392 kw_31 kw_393) rfl rfl (by decide +kernel) ⟨(Nat.le_of_ble_eq_true rfl), (Nat.le_of_ble_eq_true rfl)⟩ rfl hl.1 rfl (Nat.le_of_ble_eq_true rfl) dL_areJobsRight_387 ⟨(Nat.le_of_ble_eq_true rfl), (Nat.le_of_ble_eq_true rfl)⟩) (fun r59 u H locs hp w hx => ?_)
                obtain ⟨E61, q62⟩ := u
                obtain ⟨-, rfl, h63⟩ := hp
                have h63 : q62 = (F, L, S, n) := h63
                subst h63
                refine lv_icmp_lt (tgt := 415) X.1 X.2.1 dL_areJobsRight_390 (by decide) (fun c64 => ?_) (fun c64 => ?_)
                ·
                  obtain ⟨g0, g1⟩ := hjj.2.2.2.2.2.2.2 (2 : Int32) (by decide)
                  subst ex6;
                  first | exact absurd c64 g0 | exact absurd g1 c64
                ·
                  refine lv_aload_n X.1 X.2.1 dL_areJobsRight_393 rfl (lv_at hl 3 rfl) ?_
                  refine lv_iload X.1 X.2.1 dL_areJobsRight_394 (lv_at hl 2 rfl) ?_
                  refine lv_iload X.1 X.2.1 dL_areJobsRight_396 (lv_at hl 0 rfl) ?_
                  refine lv_bipush (v := 6) X.1 X.2.1 dL_areJobsRight_398 (by decide) ?_
                  have h66 : (er_expected n (nI k) (2 : Int32) (6 : Int32)) = 0 := (by subst ex6; rw [er_expected, if_pos (hlf.idx hk), if_pos (by first | decide | exact best_3)]; decide)
                  refine x_calli cn w hbx hx (w_runV (n := 3) (As := [.int (nI k), .int 2, .int 6]) X cn w (lt17 (by decide)) wC_0 rfl (fun sz => met_of (c_X4_expected l D ca ad E61 F L S n hlt q wf (nI k) (2 : Int32) (6 : Int32) 0 0 (fun h => (h h66).elim) sz) h66) (bg_V kw_629 kw_391 kw_392 kw_31 kw_393) rfl rfl (by decide +kernel) ⟨(Nat.le_of_ble_eq_true rfl), (Nat.le_of_ble_eq_true rfl)⟩ rfl hl.1 rfl (Nat.le_of_ble_eq_true rfl) dL_areJobsRight_400 ⟨(Nat.le_of_ble_eq_true rfl), (Nat.le_of_ble_eq_true rfl)⟩) (fun r65 u H locs hp w hx => ?_)
                  obtain ⟨E67, q68⟩ := u
                  obtain ⟨-, rfl, h69⟩ := hp
                  have h69 : q68 = (F, L, S, n) := h69
                  subst h69
                  refine lv_aload_n X.1 X.2.1 dL_areJobsRight_403 rfl (lv_at hl 3 rfl) ?_
                  refine lv_iload X.1 X.2.1 dL_areJobsRight_404 (lv_at hl 2 rfl) ?_
                  refine lv_iload X.1 X.2.1 dL_areJobsRight_406 (lv_at hl 0 rfl) ?_
                  refine lv_iconst (v := 5) X.1 X.2.1 dL_areJobsRight_408 (by decide) ?_
                  have h71 : (er_expected n (nI k) (2 : Int32) (5 : Int32)) = 0 := (by subst ex6; rw [er_expected, if_pos (hlf.idx hk), if_pos (by first | decide | exact best_3)]; decide)
                  refine x_calli cn w hbx hx (w_runV (n := 3) (As := [.int (nI k), .int 2, .int 5]) X cn w (lt17 (by decide)) wC_0 rfl (fun sz => met_of (c_X4_expected l D ca ad E67 F L S n hlt q wf (nI k) (2 : Int32) (5 : Int32) 0 0 (fun h => (h h71).elim) sz) h71) (bg_V kw_629 kw_391 kw_392 kw_31 kw_393) rfl rfl (by decide +kernel) ⟨(Nat.le_of_ble_eq_true rfl), (Nat.le_of_ble_eq_true rfl)⟩ rfl hl.1 rfl (Nat.le_of_ble_eq_true rfl) dL_areJobsRight_409 ⟨(Nat.le_of_ble_eq_true rfl), (Nat.le_of_ble_eq_true rfl)⟩) (fun r70 u H locs hp w hx => ?_)
                  obtain ⟨E72, q73⟩ := u
                  obtain ⟨-, rfl, h74⟩ := hp
                  have h74 : q73 = (F, L, S, n) := h74
                  subst h74
                  refine lv_icmp_ge (tgt := 417) X.1 X.2.1 dL_areJobsRight_412 (by decide) (fun c75 => ?_) (fun c75 => ?_)
                  ·
                    refine lv_iinc (v := 3) (lv' := [(12, .int 3), (11, .int x6), (4, .int (nI k)), (0, .ref (ad 0)), (1, .ref b), (2, .int sp), (3, .int bi), (5, .int (s_ofJob F (nI k).toNatClampNeg (6 : Int32))), (6, .int (jj_mk F L q k)), (7, .int (s_ofJob F (nI k).toNatClampNeg (1 : Int32))), (8, .int (s_ofJob F (nI k).toNatClampNeg (7 : Int32))), (9, .int (s_ofJob F (nI k).toNatClampNeg (3 : Int32))), (10, .int (s_ofJob F (nI k).toNatClampNeg (8 : Int32)))]) X.1 X.2.1 dL_areJobsRight_417 hl (k := 0) rfl (by decide) (by decide) rfl (fun ls hl => ?_)
                    refine lv_goto (tgt := 366) X.1 X.2.1 dL_areJobsRight_420 (by decide) ?_
                    refine lv_iload X.1 X.2.1 dL_areJobsRight_366 (lv_at hl 0 rfl) ?_
                    refine lv_iconst (v := 3) X.1 X.2.1 dL_areJobsRight_368 (by decide) ?_
                    refine lv_icmp_ge (tgt := 423) X.1 X.2.1 dL_areJobsRight_369 (by decide) (fun c76 => ?_) (fun c76 => ?_)
                    ·
                      subst ex6;
                      exact kk E72 _ _ ls w hx (lv_sub hl [2, 3, 4, 5, 6] rfl)
                    ·
                      exact absurd (by decide) c76
                  ·
                    obtain ⟨g0, g1⟩ := hjj.2.2.2.2.2.2.2 (2 : Int32) (by decide)
                    subst ex6;
                    first | exact absurd c75 g0 | exact absurd g1 c75
            ·
              obtain ⟨g0, g1⟩ := hjj.2.2.2.2.2.2.2 (1 : Int32) (by decide)
              subst ex6;
              first | exact absurd c52 g0 | exact absurd g1 c52
      ·
        obtain ⟨g0, g1⟩ := hjj.2.2.2.2.2.2.2 (0 : Int32) (by decide)
        subst ex6;
        first | exact absurd c29 g0 | exact absurd g1 c29

set_option maxHeartbeats 4000000 in
set_option maxRecDepth 100000 in
theorem sg_jb {p : Program} {l : Launch} {e : Env} {s : State} {m : MethodId} {args : Array Value} {below : List Frame} {meth : Method} {c : Code} {D : va_G} {ca : Nat → ClassId} {ad : Nat → Nat} {E : Em} {F : Fm} {L : Lm} {S : Sm} {n : Nat} {A : Nat → Prop} {Q : State → Prop} (X : CallFix p m c cL_areJobsRight 13 s args BG yL_areJobsRight.cls) (cn : Cn A s) (hlt : l.stackTraces = false) (q : Nat → Nat) (hlf : Lf F L S n q) (k : Nat) (hk : k < n) (hjj : jj_ok F L S q k) (sp bi : Int32) (b : Nat) (cA : ClassId) (f : Nat → Int32) (hbx : ∀ o, o < 17 + n → b ≠ ad o) (hAb : A b) (hK1 : va_K D vwCl [(cA, .int)] s) (H : Heap) (locs : List Loc) (w : Wd D ca ad A s H locs (E, F, L, S, n)) (hx : va_P D vwCl [(b, .inl (cA, 4, .inl f))] H) (ls : Array Slot) (hl : lv_has ls 13 [(5, .int (s_ofJob F (nI k).toNatClampNeg (6 : Int32))), (4, .int (nI k)), (0, .ref (ad 0)), (1, .ref b), (2, .int sp), (3, .int bi)])
    (kk : ∀ (E1 : Em) (H1 : Heap) (locs1 : List Loc) (ls1 : Array Slot), Wd D ca ad A s H1 locs1 (E1, F, L, S, n) → va_P D vwCl [(b, .inl (cA, 4, .inl f))] H1 → lv_has ls1 13 [(4, .int (nI k)), (0, .ref (ad 0)), (1, .ref b), (2, .int sp), (3, .int bi)] → W p l e { frames := 9, cells := 1, slots := 4, locals := 300 } s m args below meth c H1 locs1 1 4 Q (F0 m 423 ls1 [])) :
    W p l e { frames := 9, cells := 1, slots := 4, locals := 300 } s m args below meth c H locs 1 4 Q (F0 m 61 ls []) := by
  have wf := hlf.1
  have hs := wf.2.2.1
  have hJ := wf.2.1.2
  refine lv_iconst (v := 0) X.1 X.2.1 dL_areJobsRight_61 (by decide) ?_
  refine lv_istore (lv' := [(6, .int 0), (5, .int (s_ofJob F (nI k).toNatClampNeg (6 : Int32))), (4, .int (nI k)), (0, .ref (ad 0)), (1, .ref b), (2, .int sp), (3, .int bi)]) X.1 X.2.1 dL_areJobsRight_62 hl (by decide) rfl (fun ls hl => ?_)
  refine lv_iconst (v := 0) X.1 X.2.1 dL_areJobsRight_64 (by decide) ?_
  refine lv_istore (lv' := [(7, .int 0), (6, .int 0), (5, .int (s_ofJob F (nI k).toNatClampNeg (6 : Int32))), (4, .int (nI k)), (0, .ref (ad 0)), (1, .ref b), (2, .int sp), (3, .int bi)]) X.1 X.2.1 dL_areJobsRight_65 hl (by decide) rfl (fun ls hl => ?_)
  refine lv_iload X.1 X.2.1 dL_areJobsRight_67 (lv_at hl 0 rfl) ?_
  refine lv_iconst (v := 3) X.1 X.2.1 dL_areJobsRight_69 (by decide) ?_
  refine lv_icmp_ge (tgt := 136) X.1 X.2.1 dL_areJobsRight_70 (by decide) (fun c1 => ?_) (fun c1 => ?_)
  ·
    exact absurd c1 (by decide)
  ·
    refine lv_iconst (v := 0) X.1 X.2.1 dL_areJobsRight_73 (by decide) ?_
    refine lv_istore (lv' := [(8, .int 0), (7, .int 0), (6, .int 0), (5, .int (s_ofJob F (nI k).toNatClampNeg (6 : Int32))), (4, .int (nI k)), (0, .ref (ad 0)), (1, .ref b), (2, .int sp), (3, .int bi)]) X.1 X.2.1 dL_areJobsRight_74 hl (by decide) rfl (fun ls hl => ?_)
    refine lp_mk X cn hlt q hlf (0 : Int32) (by decide) k hk sp bi (s_ofJob F (nI k).toNatClampNeg (6 : Int32)) b cA f hbx hAb hK1 (q (6 + (0 : Int32).toNatClampNeg)) 0 0 (by omega) E _ _ w hx ls (lv_sub hl [0, 2, 5, 6, 7, 8, 4, 3, 1] rfl) (fun E2 H locs ls w hx hl => ?_)
    refine lv_iinc (v := 1) (lv' := [(7, .int 1), (6, .int (s_mkP F L (nI k) (0 : Int32) (6 + (0 : Int32).toNatClampNeg) (q (6 + (0 : Int32).toNatClampNeg)) 0 0)), (0, .ref (ad 0)), (1, .ref b), (2, .int sp), (3, .int bi), (4, .int (nI k)), (5, .int (s_ofJob F (nI k).toNatClampNeg (6 : Int32)))]) X.1 X.2.1 dL_areJobsRight_130 hl (k := 7) rfl (by decide) (by decide) rfl (fun ls hl => ?_)
    refine lv_goto (tgt := 67) X.1 X.2.1 dL_areJobsRight_133 (by decide) ?_
    refine lv_iload X.1 X.2.1 dL_areJobsRight_67 (lv_at hl 0 rfl) ?_
    refine lv_iconst (v := 3) X.1 X.2.1 dL_areJobsRight_69 (by decide) ?_
    refine lv_icmp_ge (tgt := 136) X.1 X.2.1 dL_areJobsRight_70 (by decide) (fun c3 => ?_) (fun c3 => ?_)
    ·
      exact absurd c3 (by decide)
    ·
      refine lv_iconst (v := 0) X.1 X.2.1 dL_areJobsRight_73 (by decide) ?_
      refine lv_istore (lv' := [(8, .int 0), (7, .int 1), (6, .int (s_mkP F L (nI k) (0 : Int32) (6 + (0 : Int32).toNatClampNeg) (q (6 + (0 : Int32).toNatClampNeg)) 0 0)), (0, .ref (ad 0)), (1, .ref b), (2, .int sp), (3, .int bi), (4, .int (nI k)), (5, .int (s_ofJob F (nI k).toNatClampNeg (6 : Int32)))]) X.1 X.2.1 dL_areJobsRight_74 hl (by decide) rfl (fun ls hl => ?_)
      refine lp_mk X cn hlt q hlf (1 : Int32) (by decide) k hk sp bi (s_ofJob F (nI k).toNatClampNeg (6 : Int32)) b cA f hbx hAb hK1 (q (6 + (1 : Int32).toNatClampNeg)) 0 (s_mkP F L (nI k) (0 : Int32) (6 + (0 : Int32).toNatClampNeg) (q (6 + (0 : Int32).toNatClampNeg)) 0 0) (by omega) E2 _ _ w hx ls (lv_sub hl [0, 2, 3, 4, 5, 6, 7, 8, 1] rfl) (fun E4 H locs ls w hx hl => ?_)
      refine lv_iinc (v := 2) (lv' := [(7, .int 2), (6, .int (s_mkP F L (nI k) (1 : Int32) (6 + (1 : Int32).toNatClampNeg) (q (6 + (1 : Int32).toNatClampNeg)) 0 (s_mkP F L (nI k) (0 : Int32) (6 + (0 : Int32).toNatClampNeg) (q (6 + (0 : Int32).toNatClampNeg)) 0 0))), (0, .ref (ad 0)), (1, .ref b), (2, .int sp), (3, .int bi), (4, .int (nI k)), (5, .int (s_ofJob F (nI k).toNatClampNeg (6 : Int32)))]) X.1 X.2.1 dL_areJobsRight_130 hl (k := 7) rfl (by decide) (by decide) rfl (fun ls hl => ?_)
      refine lv_goto (tgt := 67) X.1 X.2.1 dL_areJobsRight_133 (by decide) ?_
      refine lv_iload X.1 X.2.1 dL_areJobsRight_67 (lv_at hl 0 rfl) ?_
      refine lv_iconst (v := 3) X.1 X.2.1 dL_areJobsRight_69 (by decide) ?_
      refine lv_icmp_ge (tgt := 136) X.1 X.2.1 dL_areJobsRight_70 (by decide) (fun c5 => ?_) (fun c5 => ?_)
      ·
        exact absurd c5 (by decide)
      ·
        refine lv_iconst (v := 0) X.1 X.2.1 dL_areJobsRight_73 (by decide) ?_
        refine lv_istore (lv' := [(8, .int 0), (7, .int 2), (6, .int (s_mkP F L (nI k) (1 : Int32) (6 + (1 : Int32).toNatClampNeg) (q (6 + (1 : Int32).toNatClampNeg)) 0 (s_mkP F L (nI k) (0 : Int32) (6 + (0 : Int32).toNatClampNeg) (q (6 + (0 : Int32).toNatClampNeg)) 0 0))), (0, .ref (ad 0)), (1, .ref b), (2, .int sp), (3, .int bi), (4, .int (nI k)), (5, .int (s_ofJob F (nI k).toNatClampNeg (6 : Int32)))]) X.1 X.2.1 dL_areJobsRight_74 hl (by decide) rfl (fun ls hl => ?_)
        refine lp_mk X cn hlt q hlf (2 : Int32) (by decide) k hk sp bi (s_ofJob F (nI k).toNatClampNeg (6 : Int32)) b cA f hbx hAb hK1 (q (6 + (2 : Int32).toNatClampNeg)) 0 (s_mkP F L (nI k) (1 : Int32) (6 + (1 : Int32).toNatClampNeg) (q (6 + (1 : Int32).toNatClampNeg)) 0 (s_mkP F L (nI k) (0 : Int32) (6 + (0 : Int32).toNatClampNeg) (q (6 + (0 : Int32).toNatClampNeg)) 0 0)) (by omega) E4 _ _ w hx ls (lv_sub hl [0, 2, 3, 4, 5, 6, 7, 8, 1] rfl) (fun E6 H locs ls w hx hl => ?_)
        refine lv_iinc (v := 3) (lv' := [(7, .int 3), (6, .int (s_mkP F L (nI k) (2 : Int32) (6 + (2 : Int32).toNatClampNeg) (q (6 + (2 : Int32).toNatClampNeg)) 0 (s_mkP F L (nI k) (1 : Int32) (6 + (1 : Int32).toNatClampNeg) (q (6 + (1 : Int32).toNatClampNeg)) 0 (s_mkP F L (nI k) (0 : Int32) (6 + (0 : Int32).toNatClampNeg) (q (6 + (0 : Int32).toNatClampNeg)) 0 0)))), (0, .ref (ad 0)), (1, .ref b), (2, .int sp), (3, .int bi), (4, .int (nI k)), (5, .int (s_ofJob F (nI k).toNatClampNeg (6 : Int32)))]) X.1 X.2.1 dL_areJobsRight_130 hl (k := 7) rfl (by decide) (by decide) rfl (fun ls hl => ?_)
        refine lv_goto (tgt := 67) X.1 X.2.1 dL_areJobsRight_133 (by decide) ?_
        refine lv_iload X.1 X.2.1 dL_areJobsRight_67 (lv_at hl 0 rfl) ?_
        refine lv_iconst (v := 3) X.1 X.2.1 dL_areJobsRight_69 (by decide) ?_
        refine lv_icmp_ge (tgt := 136) X.1 X.2.1 dL_areJobsRight_70 (by decide) (fun c7 => ?_) (fun c7 => ?_)
        ·
          refine lv_aload_n X.1 X.2.1 dL_areJobsRight_136 rfl (lv_at hl 2 rfl) ?_
          refine lv_iload X.1 X.2.1 dL_areJobsRight_137 (lv_at hl 6 rfl) ?_
          refine lv_iconst (v := 1) X.1 X.2.1 dL_areJobsRight_139 (by decide) ?_
          have h9 : (er_ofJob n (nI k) (1 : Int32)) = 0 := (ofJob_at hlf hk (by decide))
          refine x_calli cn w hbx hx (w_runV (n := 2) (As := [.int (nI k), .int 1]) X cn w (lt17 (by decide)) wC_0 rfl (fun sz => met_of (c_X4_ofJob l D ca ad E6 F L S n hlt q wf (nI k) (1 : Int32) 0 0 (fun h => (h h9).elim) sz) h9) (bg_V kw_536 kw_381 kw_382 kw_31 kw_383) rfl rfl (by decide +kernel) ⟨(Nat.le_of_ble_eq_true rfl), (Nat.le_of_ble_eq_true rfl)⟩ rfl hl.1 rfl (Nat.le_of_ble_eq_true rfl) dL_areJobsRight_140 ⟨(Nat.le_of_ble_eq_true rfl), (Nat.le_of_ble_eq_true rfl)⟩) (fun r8 u H locs hp w hx => ?_)
          obtain ⟨E10, q11⟩ := u
          obtain ⟨-, rfl, h12⟩ := hp
          have h12 : q11 = (F, L, S, n) := h12
          subst h12
          refine lv_topi (fun x13 ex13 => ?_)
          refine lv_istore (lv' := [(7, .int x13), (6, .int (s_mkP F L (nI k) (2 : Int32) (6 + (2 : Int32).toNatClampNeg) (q (6 + (2 : Int32).toNatClampNeg)) 0 (s_mkP F L (nI k) (1 : Int32) (6 + (1 : Int32).toNatClampNeg) (q (6 + (1 : Int32).toNatClampNeg)) 0 (s_mkP F L (nI k) (0 : Int32) (6 + (0 : Int32).toNatClampNeg) (q (6 + (0 : Int32).toNatClampNeg)) 0 0)))), (0, .ref (ad 0)), (1, .ref b), (2, .int sp), (3, .int bi), (4, .int (nI k)), (5, .int (s_ofJob F (nI k).toNatClampNeg (6 : Int32)))]) X.1 X.2.1 dL_areJobsRight_143 hl (by decide) rfl (fun ls hl => ?_)
          refine lv_aload_n X.1 X.2.1 dL_areJobsRight_145 rfl (lv_at hl 2 rfl) ?_
          refine lv_iload X.1 X.2.1 dL_areJobsRight_146 (lv_at hl 6 rfl) ?_
          refine lv_bipush (v := 7) X.1 X.2.1 dL_areJobsRight_148 (by decide) ?_
          have h15 : (er_ofJob n (nI k) (7 : Int32)) = 0 := (ofJob_at hlf hk (by decide))
          refine x_calli cn w hbx hx (w_runV (n := 2) (As := [.int (nI k), .int 7]) X cn w (lt17 (by decide)) wC_0 rfl (fun sz => met_of (c_X4_ofJob l D ca ad E10 F L S n hlt q wf (nI k) (7 : Int32) 0 0 (fun h => (h h15).elim) sz) h15) (bg_V kw_536 kw_381 kw_382 kw_31 kw_383) rfl rfl (by decide +kernel) ⟨(Nat.le_of_ble_eq_true rfl), (Nat.le_of_ble_eq_true rfl)⟩ rfl hl.1 rfl (Nat.le_of_ble_eq_true rfl) dL_areJobsRight_150 ⟨(Nat.le_of_ble_eq_true rfl), (Nat.le_of_ble_eq_true rfl)⟩) (fun r14 u H locs hp w hx => ?_)
          obtain ⟨E16, q17⟩ := u
          obtain ⟨-, rfl, h18⟩ := hp
          have h18 : q17 = (F, L, S, n) := h18
          subst h18
          refine lv_topi (fun x19 ex19 => ?_)
          refine lv_istore (lv' := [(8, .int x19), (7, .int x13), (6, .int (s_mkP F L (nI k) (2 : Int32) (6 + (2 : Int32).toNatClampNeg) (q (6 + (2 : Int32).toNatClampNeg)) 0 (s_mkP F L (nI k) (1 : Int32) (6 + (1 : Int32).toNatClampNeg) (q (6 + (1 : Int32).toNatClampNeg)) 0 (s_mkP F L (nI k) (0 : Int32) (6 + (0 : Int32).toNatClampNeg) (q (6 + (0 : Int32).toNatClampNeg)) 0 0)))), (0, .ref (ad 0)), (1, .ref b), (2, .int sp), (3, .int bi), (4, .int (nI k)), (5, .int (s_ofJob F (nI k).toNatClampNeg (6 : Int32)))]) X.1 X.2.1 dL_areJobsRight_153 hl (by decide) rfl (fun ls hl => ?_)
          refine lv_aload_n X.1 X.2.1 dL_areJobsRight_155 rfl (lv_at hl 3 rfl) ?_
          refine lv_iload X.1 X.2.1 dL_areJobsRight_156 (lv_at hl 7 rfl) ?_
          refine lv_iconst (v := 3) X.1 X.2.1 dL_areJobsRight_158 (by decide) ?_
          have h21 : (er_ofJob n (nI k) (3 : Int32)) = 0 := (ofJob_at hlf hk (by decide))
          refine x_calli cn w hbx hx (w_runV (n := 2) (As := [.int (nI k), .int 3]) X cn w (lt17 (by decide)) wC_0 rfl (fun sz => met_of (c_X4_ofJob l D ca ad E16 F L S n hlt q wf (nI k) (3 : Int32) 0 0 (fun h => (h h21).elim) sz) h21) (bg_V kw_536 kw_381 kw_382 kw_31 kw_383) rfl rfl (by decide +kernel) ⟨(Nat.le_of_ble_eq_true rfl), (Nat.le_of_ble_eq_true rfl)⟩ rfl hl.1 rfl (Nat.le_of_ble_eq_true rfl) dL_areJobsRight_159 ⟨(Nat.le_of_ble_eq_true rfl), (Nat.le_of_ble_eq_true rfl)⟩) (fun r20 u H locs hp w hx => ?_)
          obtain ⟨E22, q23⟩ := u
          obtain ⟨-, rfl, h24⟩ := hp
          have h24 : q23 = (F, L, S, n) := h24
          subst h24
          refine lv_topi (fun x25 ex25 => ?_)
          refine lv_istore (lv' := [(9, .int x25), (8, .int x19), (7, .int x13), (6, .int (s_mkP F L (nI k) (2 : Int32) (6 + (2 : Int32).toNatClampNeg) (q (6 + (2 : Int32).toNatClampNeg)) 0 (s_mkP F L (nI k) (1 : Int32) (6 + (1 : Int32).toNatClampNeg) (q (6 + (1 : Int32).toNatClampNeg)) 0 (s_mkP F L (nI k) (0 : Int32) (6 + (0 : Int32).toNatClampNeg) (q (6 + (0 : Int32).toNatClampNeg)) 0 0)))), (0, .ref (ad 0)), (1, .ref b), (2, .int sp), (3, .int bi), (4, .int (nI k)), (5, .int (s_ofJob F (nI k).toNatClampNeg (6 : Int32)))]) X.1 X.2.1 dL_areJobsRight_162 hl (by decide) rfl (fun ls hl => ?_)
          refine lv_aload_n X.1 X.2.1 dL_areJobsRight_164 rfl (lv_at hl 4 rfl) ?_
          refine lv_iload X.1 X.2.1 dL_areJobsRight_165 (lv_at hl 8 rfl) ?_
          refine lv_bipush (v := 8) X.1 X.2.1 dL_areJobsRight_167 (by decide) ?_
          have h27 : (er_ofJob n (nI k) (8 : Int32)) = 0 := (ofJob_at hlf hk (by decide))
          refine x_calli cn w hbx hx (w_runV (n := 2) (As := [.int (nI k), .int 8]) X cn w (lt17 (by decide)) wC_0 rfl (fun sz => met_of (c_X4_ofJob l D ca ad E22 F L S n hlt q wf (nI k) (8 : Int32) 0 0 (fun h => (h h27).elim) sz) h27) (bg_V kw_536 kw_381 kw_382 kw_31 kw_383) rfl rfl (by decide +kernel) ⟨(Nat.le_of_ble_eq_true rfl), (Nat.le_of_ble_eq_true rfl)⟩ rfl hl.1 rfl (Nat.le_of_ble_eq_true rfl) dL_areJobsRight_169 ⟨(Nat.le_of_ble_eq_true rfl), (Nat.le_of_ble_eq_true rfl)⟩) (fun r26 u H locs hp w hx => ?_)
          obtain ⟨E28, q29⟩ := u
          obtain ⟨-, rfl, h30⟩ := hp
          have h30 : q29 = (F, L, S, n) := h30
          subst h30
          refine lv_topi (fun x31 ex31 => ?_)
          refine lv_istore (lv' := [(10, .int x31), (9, .int x25), (8, .int x19), (7, .int x13), (6, .int (s_mkP F L (nI k) (2 : Int32) (6 + (2 : Int32).toNatClampNeg) (q (6 + (2 : Int32).toNatClampNeg)) 0 (s_mkP F L (nI k) (1 : Int32) (6 + (1 : Int32).toNatClampNeg) (q (6 + (1 : Int32).toNatClampNeg)) 0 (s_mkP F L (nI k) (0 : Int32) (6 + (0 : Int32).toNatClampNeg) (q (6 + (0 : Int32).toNatClampNeg)) 0 0)))), (0, .ref (ad 0)), (1, .ref b), (2, .int sp), (3, .int bi), (4, .int (nI k)), (5, .int (s_ofJob F (nI k).toNatClampNeg (6 : Int32)))]) X.1 X.2.1 dL_areJobsRight_172 hl (by decide) rfl (fun ls hl => ?_)
          subst ex31
          subst ex25
          subst ex19
          subst ex13
          refine sg_jc X cn hlt q hlf k hk hjj sp bi b cA f hbx hAb hK1 _ _ w hx ls (lv_sub hl [9, 5, 6, 7, 8, 10, 4, 3, 2, 1, 0] rfl) (fun E32 H locs ls w hx hl => ?_)
          refine sg_jd X cn hlt q hlf k hk hjj sp bi b cA f hbx hAb hK1 _ _ w hx ls (lv_sub hl [0, 1, 2, 3, 4, 5, 6, 7, 8, 9, 10] rfl) (fun E33 H locs ls w hx hl => ?_)
          refine sg_je X cn hlt q hlf k hk hjj sp bi b cA f hbx hAb hK1 _ _ w hx ls (lv_sub hl [0, 1, 2, 3, 4, 5, 6, 7, 8, 9, 10] rfl) (fun E34 H locs ls w hx hl => ?_)
          refine sg_jf X cn hlt q hlf k hk hjj sp bi b cA f hbx hAb hK1 _ _ w hx ls (lv_sub hl [0, 1, 2, 3, 4, 5, 6, 7, 8, 9, 10] rfl) (fun E35 H locs ls w hx hl => ?_)
          refine sg_jg X cn hlt q hlf k hk hjj sp bi b cA f hbx hAb hK1 _ _ w hx ls (lv_sub hl [0, 1, 2, 3, 4, 5, 6, 7, 8, 9, 10] rfl) (fun E36 H locs ls w hx hl => ?_)
          refine sg_jh X cn hlt q hlf k hk hjj sp bi b cA f hbx hAb hK1 _ _ w hx ls (lv_sub hl [0, 1, 2, 3, 4, 5, 6, 7, 8, 9, 10] rfl) (fun E37 H locs ls w hx hl => ?_)
          refine sg_ji X cn hlt q hlf k hk hjj sp bi b cA f hbx hAb hK1 _ _ w hx ls (lv_sub hl [0, 1, 2, 3, 4, 5, 6, 7, 8, 9, 10] rfl) (fun E38 H locs ls w hx hl => ?_)
          skip
          exact kk E38 _ _ ls w hx (lv_sub hl [0, 1, 2, 3, 4] rfl)
        ·
          exact absurd (by decide) c7

set_option maxHeartbeats 4000000 in
set_option maxRecDepth 100000 in
theorem sg_job {p : Program} {l : Launch} {e : Env} {s : State} {m : MethodId} {args : Array Value} {below : List Frame} {meth : Method} {c : Code} {D : va_G} {ca : Nat → ClassId} {ad : Nat → Nat} {E : Em} {F : Fm} {L : Lm} {S : Sm} {n : Nat} {A : Nat → Prop} {Q : State → Prop} (X : CallFix p m c cL_areJobsRight 13 s args BG yL_areJobsRight.cls) (cn : Cn A s) (hlt : l.stackTraces = false) (q : Nat → Nat) (hlf : Lf F L S n q) (k : Nat) (hk : k < n) (hjj : jj_ok F L S q k) (sp bi : Int32) (b : Nat) (cA : ClassId) (f : Nat → Int32) (hbx : ∀ o, o < 17 + n → b ≠ ad o) (hAb : A b) (hK1 : va_K D vwCl [(cA, .int)] s) (H : Heap) (locs : List Loc) (w : Wd D ca ad A s H locs (E, F, L, S, n)) (hx : va_P D vwCl [(b, .inl (cA, 4, .inl f))] H) (ls : Array Slot) (hl : lv_has ls 13 [(4, .int (nI k)), (0, .ref (ad 0)), (1, .ref b), (2, .int sp), (3, .int bi)])
    (kk : ∀ (E1 : Em) (H1 : Heap) (locs1 : List Loc) (ls1 : Array Slot), Wd D ca ad A s H1 locs1 (E1, F, L, S, n) → va_P D vwCl [(b, .inl (cA, 4, .inl (upd f (s_ofJob F (nI k).toNatClampNeg (6 : Int32)).toNatClampNeg (f (s_ofJob F (nI k).toNatClampNeg (6 : Int32)).toNatClampNeg + 1))))] H1 → lv_has ls1 13 [(4, .int (nI k)), (0, .ref (ad 0)), (1, .ref b), (2, .int (sp + s_ofJob F (nI k).toNatClampNeg (10 : Int32))), (3, .int (bi + s_ofJob F (nI k).toNatClampNeg (11 : Int32)))] → W p l e { frames := 9, cells := 1, slots := 4, locals := 300 } s m args below meth c H1 locs1 1 4 Q (F0 m 423 ls1 [])) :
    W p l e { frames := 9, cells := 1, slots := 4, locals := 300 } s m args below meth c H locs 1 4 Q (F0 m 21 ls []) := by
  have wf := hlf.1
  have hs := wf.2.2.1
  have hJ := wf.2.1.2
  refine lv_aload_n X.1 X.2.1 dL_areJobsRight_21 rfl (lv_at hl 1 rfl) ?_
  refine lv_iload X.1 X.2.1 dL_areJobsRight_22 (lv_at hl 0 rfl) ?_
  refine lv_bipush (v := 6) X.1 X.2.1 dL_areJobsRight_24 (by decide) ?_
  have h2 : (er_ofJob n (nI k) (6 : Int32)) = 0 := (ofJob_at hlf hk (by decide))
  refine x_calli cn w hbx hx (w_runV (n := 2) (As := [.int (nI k), .int 6]) X cn w (lt17 (by decide)) wC_0 rfl (fun sz => met_of (c_X4_ofJob l D ca ad E F L S n hlt q wf (nI k) (6 : Int32) 0 0 (fun h => (h h2).elim) sz) h2) (bg_V kw_536 kw_381 kw_382 kw_31 kw_383) rfl rfl (by decide +kernel) ⟨(Nat.le_of_ble_eq_true rfl), (Nat.le_of_ble_eq_true rfl)⟩ rfl hl.1 rfl (Nat.le_of_ble_eq_true rfl) dL_areJobsRight_26 ⟨(Nat.le_of_ble_eq_true rfl), (Nat.le_of_ble_eq_true rfl)⟩) (fun r1 u H locs hp w hx => ?_)
  obtain ⟨E3, q4⟩ := u
  obtain ⟨-, rfl, h5⟩ := hp
  have h5 : q4 = (F, L, S, n) := h5
  subst h5
  refine lv_topi (fun x6 ex6 => ?_)
  refine lv_istore (lv' := [(5, .int x6), (4, .int (nI k)), (0, .ref (ad 0)), (1, .ref b), (2, .int sp), (3, .int bi)]) X.1 X.2.1 dL_areJobsRight_29 hl (by decide) rfl (fun ls hl => ?_)
  refine lv_aload_n X.1 X.2.1 dL_areJobsRight_31 rfl (lv_at hl 3 rfl) ?_
  refine lv_iload X.1 X.2.1 dL_areJobsRight_32 (lv_at hl 0 rfl) ?_
  refine lv_dup2_11 X.1 X.2.1 dL_areJobsRight_34 rfl rfl ?_
  refine va_iald X.1 X.2.1 hK1 hx 0 0 rfl rfl (by subst ex6; exact hjj.1) dL_areJobsRight_35 ?_
  refine lv_iconst (v := 1) X.1 X.2.1 dL_areJobsRight_36 (by decide) ?_
  refine lv_iadd X.1 X.2.1 dL_areJobsRight_37 ?_
  refine x_st X w hx hbx hAb hK1 (by subst ex6; exact hjj.1) dL_areJobsRight_38 (fun H locs w hx => ?_)
  refine lv_iload_n X.1 X.2.1 dL_areJobsRight_39 rfl (lv_at hl 4 rfl) ?_
  refine lv_aload_n X.1 X.2.1 dL_areJobsRight_40 rfl (lv_at hl 2 rfl) ?_
  refine lv_iload X.1 X.2.1 dL_areJobsRight_41 (lv_at hl 1 rfl) ?_
  refine lv_bipush (v := 10) X.1 X.2.1 dL_areJobsRight_43 (by decide) ?_
  have h8 : (er_ofJob n (nI k) (10 : Int32)) = 0 := (ofJob_at hlf hk (by decide))
  refine x_calli cn w hbx hx (w_runV (n := 2) (As := [.int (nI k), .int 10]) X cn w (lt17 (by decide)) wC_0 rfl (fun sz => met_of (c_X4_ofJob l D ca ad E3 F L S n hlt q wf (nI k) (10 : Int32) 0 0 (fun h => (h h8).elim) sz) h8) (bg_V kw_536 kw_381 kw_382 kw_31 kw_383) rfl rfl (by decide +kernel) ⟨(Nat.le_of_ble_eq_true rfl), (Nat.le_of_ble_eq_true rfl)⟩ rfl hl.1 rfl (Nat.le_of_ble_eq_true rfl) dL_areJobsRight_45 ⟨(Nat.le_of_ble_eq_true rfl), (Nat.le_of_ble_eq_true rfl)⟩) (fun r7 u H locs hp w hx => ?_)
  obtain ⟨E9, q10⟩ := u
  obtain ⟨-, rfl, h11⟩ := hp
  have h11 : q10 = (F, L, S, n) := h11
  subst h11
  refine lv_iadd X.1 X.2.1 dL_areJobsRight_48 ?_
  refine lv_topi (fun x12 ex12 => ?_)
  refine lv_istore_n (lv' := [(2, .int x12), (5, .int x6), (4, .int (nI k)), (0, .ref (ad 0)), (1, .ref b), (3, .int bi)]) X.1 X.2.1 dL_areJobsRight_49 rfl hl (by decide) rfl (fun ls hl => ?_)
  refine lv_iload_n X.1 X.2.1 dL_areJobsRight_50 rfl (lv_at hl 5 rfl) ?_
  refine lv_aload_n X.1 X.2.1 dL_areJobsRight_51 rfl (lv_at hl 3 rfl) ?_
  refine lv_iload X.1 X.2.1 dL_areJobsRight_52 (lv_at hl 2 rfl) ?_
  refine lv_bipush (v := 11) X.1 X.2.1 dL_areJobsRight_54 (by decide) ?_
  have h14 : (er_ofJob n (nI k) (11 : Int32)) = 0 := (ofJob_at hlf hk (by decide))
  refine x_calli cn w hbx hx (w_runV (n := 2) (As := [.int (nI k), .int 11]) X cn w (lt17 (by decide)) wC_0 rfl (fun sz => met_of (c_X4_ofJob l D ca ad E9 F L S n hlt q wf (nI k) (11 : Int32) 0 0 (fun h => (h h14).elim) sz) h14) (bg_V kw_536 kw_381 kw_382 kw_31 kw_383) rfl rfl (by decide +kernel) ⟨(Nat.le_of_ble_eq_true rfl), (Nat.le_of_ble_eq_true rfl)⟩ rfl hl.1 rfl (Nat.le_of_ble_eq_true rfl) dL_areJobsRight_56 ⟨(Nat.le_of_ble_eq_true rfl), (Nat.le_of_ble_eq_true rfl)⟩) (fun r13 u H locs hp w hx => ?_)
  obtain ⟨E15, q16⟩ := u
  obtain ⟨-, rfl, h17⟩ := hp
  have h17 : q16 = (F, L, S, n) := h17
  subst h17
  refine lv_iadd X.1 X.2.1 dL_areJobsRight_59 ?_
  refine lv_topi (fun x18 ex18 => ?_)
  refine lv_istore_n (lv' := [(3, .int x18), (2, .int x12), (5, .int x6), (4, .int (nI k)), (0, .ref (ad 0)), (1, .ref b)]) X.1 X.2.1 dL_areJobsRight_60 rfl hl (by decide) rfl (fun ls hl => ?_)
  subst ex18
  subst ex12
  subst ex6
  refine sg_jb X cn hlt q hlf k hk hjj (sp + (s_ofJob F (nI k).toNatClampNeg (10 : Int32))) (bi + (s_ofJob F (nI k).toNatClampNeg (11 : Int32))) b cA (upd f ((s_ofJob F (nI k).toNatClampNeg (6 : Int32)) : Int32).toNatClampNeg ((f ((s_ofJob F (nI k).toNatClampNeg (6 : Int32)) : Int32).toNatClampNeg) + 1)) hbx hAb hK1 _ _ w hx ls (lv_sub hl [2, 3, 4, 5, 1, 0] rfl) (fun E19 H locs ls w hx hl => ?_)
  skip
  exact kk E19 _ _ ls w hx (lv_sub hl [0, 1, 2, 3, 4] rfl)
