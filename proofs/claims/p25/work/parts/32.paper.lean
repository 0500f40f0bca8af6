/-- what the waiting jobs on one paper need, as the law counts it -/
def s_neeP (F : Fm) (L : Lm) (S : Sm) (P : Int32) (o : Nat) : Nat → Nat → Int32 → Int32
  | 0, _, a => a
  | d + 1, k, a => s_neeP F L S P o d (k + 1) (a + if s_ofJob F (s_queue F L o (nI k)).toNatClampNeg 0 = P then s_expected F S (s_queue F L o (nI k)).toNatClampNeg o 3 else 0)

set_option maxHeartbeats 4000000 in
set_option maxRecDepth 100000 in
theorem lp_pap {p : Program} {l : Launch} {e : Env} {s : State} {m : MethodId} {args : Array Value} {below : List Frame} {meth : Method} {c : Code} {D : va_G} {ca : Nat → ClassId} {ad : Nat → Nat} {F : Fm} {L : Lm} {S : Sm} {n : Nat} {A : Nat → Prop} {Q : State → Prop} (X : CallFix p m c cL_arePapersRight 9 s args BG yL_arePapersRight.cls) (cn : Cn A s) (hlt : l.stackTraces = false) (q : Nat → Nat) (hlf : Lf F L S n q) (r : Int32) (h3 : erI 3 r = 0) (P b1 wo st fo : Int32) :
    ∀ (d : Nat) (k : Nat) (a : Int32), k + d = q (6 + r.toNatClampNeg) → ∀ (E : Em) (H : Heap) (locs : List Loc), Wd D ca ad A s H locs (E, F, L, S, n) → ∀ (ls : Array Slot), lv_has ls 9 [(8, .int (nI k)), (6, .int a), (0, .ref (ad 0)), (1, .int b1), (2, .int wo), (3, .int P), (4, .int st), (5, .int fo), (7, .int r)] →
    (∀ (E1 : Em) (H1 : Heap) (locs1 : List Loc) (ls1 : Array Slot), Wd D ca ad A s H1 locs1 (E1, F, L, S, n) → lv_has ls1 9 [(6, .int (s_neeP F L S P (6 + r.toNatClampNeg) d k a)), (0, .ref (ad 0)), (1, .int b1), (2, .int wo), (3, .int P), (4, .int st), (5, .int fo), (7, .int r)] → W p l e { frames := 9, cells := 0, slots := 0, locals := 300 } s m args below meth c H1 locs1 0 0 Q (F0 m 143 ls1 [])) →
    W p l e { frames := 9, cells := 0, slots := 0, locals := 300 } s m args below meth c H locs 0 0 Q (F0 m 84 ls []) := by
  have wf := hlf.1
  have hs := wf.2.2.1
  have hJ := wf.2.1.2
  have ho := prs_in (in_erI h3)
  obtain ⟨hqo, hq20, hqj⟩ := wf.2.2.2 _ ho
  intro d
  induction d with
  | zero =>
    intro k a hkd E H locs w ls hl kk
    refine lv_iload X.1 X.2.1 dL_arePapersRight_84 (lv_at hl 0 rfl) ?_
    refine lv_aload_n X.1 X.2.1 dL_arePapersRight_86 rfl (lv_at hl 2 rfl) ?_
    refine lv_iload X.1 X.2.1 dL_arePapersRight_87 (lv_at hl 8 rfl) ?_
    refine lv_iconst (v := 5) X.1 X.2.1 dL_arePapersRight_89 (by decide) ?_
    have h2 : (er_ofPress r (5 : Int32)) = 0 := (by rw [er_ofPress, if_pos h3]; decide)
    refine w_calli cn w (w_runV (n := 2) (As := [.int r, .int 5]) X cn w (lt17 (by decide)) wC_0 rfl (fun sz => met_of (c_X4_ofPress l D ca ad E F L S n hlt q wf r (5 : Int32) 0 0 (fun h => (h h2).elim) sz) h2) (bg_V kw_537 kw_358 kw_359 kw_31 kw_360) rfl rfl (by decide +kernel) ⟨(Nat.le_of_ble_eq_true rfl), (Nat.le_of_ble_eq_true rfl)⟩ rfl hl.1 rfl (Nat.le_of_ble_eq_true rfl) dL_arePapersRight_90 ⟨(Nat.le_of_ble_eq_true rfl), (Nat.le_of_ble_eq_true rfl)⟩) (fun r1 u H locs hp w => ?_)
    obtain ⟨E3, q4⟩ := u
    obtain ⟨-, rfl, h5⟩ := hp
    have h5 : q4 = (F, L, S, n) := h5
    subst h5
    refine lv_icmp_ge (tgt := 143) X.1 X.2.1 dL_arePapersRight_93 (by decide) (fun c6 => ?_) (fun c6 => ?_)
    ·
      skip
      exact kk E3 _ _ ls w (lv_sub hl [1, 2, 3, 4, 5, 6, 7, 8] rfl)
    ·
      exact absurd (by rw [ofPress_5, hqo]; exact (geN hkd hq20).mpr rfl) c6
  | succ d ih =>
    intro k a hkd E H locs w ls hl kk
    refine lv_iload X.1 X.2.1 dL_arePapersRight_84 (lv_at hl 0 rfl) ?_
    refine lv_aload_n X.1 X.2.1 dL_arePapersRight_86 rfl (lv_at hl 2 rfl) ?_
    refine lv_iload X.1 X.2.1 dL_arePapersRight_87 (lv_at hl 8 rfl) ?_
    refine lv_iconst (v := 5) X.1 X.2.1 dL_arePapersRight_89 (by decide) ?_
    have h2 : (er_ofPress r (5 : Int32)) = 0 := (by rw [er_ofPress, if_pos h3]; decide)
    refine w_calli cn w (w_runV (n := 2) (As := [.int r, .int 5]) X cn w (lt17 (by decide)) wC_0 rfl (fun sz => met_of (c_X4_ofPress l D ca ad E F L S n hlt q wf r (5 : Int32) 0 0 (fun h => (h h2).elim) sz) h2) (bg_V kw_537 kw_358 kw_359 kw_31 kw_360) rfl rfl (by decide +kernel) ⟨(Nat.le_of_ble_eq_true rfl), (Nat.le_of_ble_eq_true rfl)⟩ rfl hl.1 rfl (Nat.le_of_ble_eq_true rfl) dL_arePapersRight_90 ⟨(Nat.le_of_ble_eq_true rfl), (Nat.le_of_ble_eq_true rfl)⟩) (fun r1 u H locs hp w => ?_)
    obtain ⟨E3, q4⟩ := u
    obtain ⟨-, rfl, h5⟩ := hp
    have h5 : q4 = (F, L, S, n) := h5
    subst h5
    refine lv_icmp_ge (tgt := 143) X.1 X.2.1 dL_arePapersRight_93 (by decide) (fun c6 => ?_) (fun c6 => ?_)
    ·
      rw [ofPress_5, hqo] at c6; exact absurd ((geN hkd hq20).mp c6) (by omega)
    ·
      refine lv_iload X.1 X.2.1 dL_arePapersRight_96 (lv_at hl 1 rfl) ?_
      refine lv_aload_n X.1 X.2.1 dL_arePapersRight_98 rfl (lv_at hl 2 rfl) ?_
      refine lv_aload_n X.1 X.2.1 dL_arePapersRight_99 rfl (lv_at hl 2 rfl) ?_
      refine lv_iload X.1 X.2.1 dL_arePapersRight_100 (lv_at hl 8 rfl) ?_
      refine lv_iload X.1 X.2.1 dL_arePapersRight_102 (lv_at hl 0 rfl) ?_
      have h8 : (er_queue F L r (nI k)) = 0 := (queue_ok h3 hqo hq20 (by omega) (hlf.2.1 _ ho k (by omega)))
      refine w_calli cn w (w_runV (n := 2) (As := [.int r, .int (nI k)]) X cn w (lt17 (by decide)) wC_0 rfl (fun sz => met_of (c_X4_queue l D ca ad E3 F L S n hlt q wf r (nI k) 0 0 (fun h => (h h8).elim) sz) h8) (bg_V kw_538 kw_372 kw_373 kw_31 kw_374) rfl rfl (by decide +kernel) ⟨(Nat.le_of_ble_eq_true rfl), (Nat.le_of_ble_eq_true rfl)⟩ rfl hl.1 rfl (Nat.le_of_ble_eq_true rfl) dL_arePapersRight_104 ⟨(Nat.le_of_ble_eq_true rfl), (Nat.le_of_ble_eq_true rfl)⟩) (fun r7 u H locs hp w => ?_)
      obtain ⟨E9, q10⟩ := u
      obtain ⟨-, rfl, h11⟩ := hp
      have h11 : q10 = (F, L, S, n) := h11
      subst h11
      obtain ⟨jq12, hjq12, ejq12, fjq12⟩ := hlf.queue h8
      refine lv_iconst (v := 0) X.1 X.2.1 dL_arePapersRight_107 (by decide) ?_
      have h14 : (er_ofJob n (s_queue F L (6 + r.toNatClampNeg) (nI k)) (0 : Int32)) = 0 := (by rw [fjq12, er_ofJob, if_pos (hlf.idx hjq12)]; decide)
      refine w_calli cn w (w_runV (n := 2) (As := [.int (s_queue F L (6 + r.toNatClampNeg) (nI k)), .int 0]) X cn w (lt17 (by decide)) wC_0 rfl (fun sz => met_of (c_X4_ofJob l D ca ad E9 F L S n hlt q wf (s_queue F L (6 + r.toNatClampNeg) (nI k)) (0 : Int32) 0 0 (fun h => (h h14).elim) sz) h14) (bg_V kw_536 kw_381 kw_382 kw_31 kw_383) rfl rfl (by decide +kernel) ⟨(Nat.le_of_ble_eq_true rfl), (Nat.le_of_ble_eq_true rfl)⟩ rfl hl.1 rfl (Nat.le_of_ble_eq_true rfl) dL_arePapersRight_108 ⟨(Nat.le_of_ble_eq_true rfl), (Nat.le_of_ble_eq_true rfl)⟩) (fun r13 u H locs hp w => ?_)
      obtain ⟨E15, q16⟩ := u
      obtain ⟨-, rfl, h17⟩ := hp
      have h17 : q16 = (F, L, S, n) := h17
      subst h17
      refine lv_iload_n X.1 X.2.1 dL_arePapersRight_111 rfl (lv_at hl 5 rfl) ?_
      refine lv_icmp_ne (tgt := 133) X.1 X.2.1 dL_arePapersRight_112 (by decide) (fun c18 => ?_) (fun c18 => ?_)
      ·
        refine lv_iconst (v := 0) X.1 X.2.1 dL_arePapersRight_133 (by decide) ?_
        refine lv_iadd X.1 X.2.1 dL_arePapersRight_134 ?_
        refine lv_topi (fun x19 ex19 => ?_)
        refine lv_istore (lv' := [(6, .int x19), (8, .int (nI k)), (0, .ref (ad 0)), (1, .int b1), (2, .int wo), (3, .int P), (4, .int st), (5, .int fo), (7, .int r)]) X.1 X.2.1 dL_arePapersRight_135 hl (by decide) rfl (fun ls hl => ?_)
        refine lv_iinc (v := (nI (k + 1))) (lv' := [(8, .int (nI (k + 1))), (6, .int x19), (0, .ref (ad 0)), (1, .int b1), (2, .int wo), (3, .int P), (4, .int st), (5, .int fo), (7, .int r)]) X.1 X.2.1 dL_arePapersRight_137 hl (k := 1) rfl (nI_1 k) (by decide) rfl (fun ls hl => ?_)
        refine lv_goto (tgt := 84) X.1 X.2.1 dL_arePapersRight_140 (by decide) ?_
        have hz1 : (s_neeP F L S P (6 + r.toNatClampNeg) (d + 1) k a) = (s_neeP F L S P (6 + r.toNatClampNeg) d (k + 1) x19) := by subst ex19; simp only [s_neeP, eq_false c18, if_true, if_false, ite_true, ite_false]
        rw [hz1] at kk
        exact ih (k + 1) x19 (by omega) E15 H locs w ls (lv_sub hl [0, 1, 2, 3, 4, 5, 6, 7, 8] rfl) kk
      ·
        refine lv_aload_n X.1 X.2.1 dL_arePapersRight_115 rfl (lv_at hl 2 rfl) ?_
        refine lv_aload_n X.1 X.2.1 dL_arePapersRight_116 rfl (lv_at hl 2 rfl) ?_
        refine lv_iload X.1 X.2.1 dL_arePapersRight_117 (lv_at hl 8 rfl) ?_
        refine lv_iload X.1 X.2.1 dL_arePapersRight_119 (lv_at hl 0 rfl) ?_
        have h21 : (er_queue F L r (nI k)) = 0 := (queue_ok h3 hqo hq20 (by omega) (hlf.2.1 _ ho k (by omega)))
        refine w_calli cn w (w_runV (n := 2) (As := [.int r, .int (nI k)]) X cn w (lt17 (by decide)) wC_0 rfl (fun sz => met_of (c_X4_queue l D ca ad E15 F L S n hlt q wf r (nI k) 0 0 (fun h => (h h21).elim) sz) h21) (bg_V kw_538 kw_372 kw_373 kw_31 kw_374) rfl rfl (by decide +kernel) ⟨(Nat.le_of_ble_eq_true rfl), (Nat.le_of_ble_eq_true rfl)⟩ rfl hl.1 rfl (Nat.le_of_ble_eq_true rfl) dL_arePapersRight_121 ⟨(Nat.le_of_ble_eq_true rfl), (Nat.le_of_ble_eq_true rfl)⟩) (fun r20 u H locs hp w => ?_)
        obtain ⟨E22, q23⟩ := u
        obtain ⟨-, rfl, h24⟩ := hp
        have h24 : q23 = (F, L, S, n) := h24
        subst h24
        obtain ⟨jq25, hjq25, ejq25, fjq25⟩ := hlf.queue h21
        refine lv_iload X.1 X.2.1 dL_arePapersRight_124 (lv_at hl 8 rfl) ?_
        refine lv_iconst (v := 3) X.1 X.2.1 dL_arePapersRight_126 (by decide) ?_
        have h27 : (er_expected n (s_queue F L (6 + r.toNatClampNeg) (nI k)) r (3 : Int32)) = 0 := (by rw [fjq25, er_expected, if_pos (hlf.idx hjq25), if_pos h3]; decide)
        refine w_calli cn w (w_runV (n := 3) (As := [.int (s_queue F L (6 + r.toNatClampNeg) (nI k)), .int r, .int 3]) X cn w (lt17 (by decide)) wC_0 rfl (fun sz => met_of (c_X4_expected l D ca ad E22 F L S n hlt q wf (s_queue F L (6 + r.toNatClampNeg) (nI k)) r (3 : Int32) 0 0 (fun h => (h h27).elim) sz) h27) (bg_V kw_629 kw_391 kw_392 kw_31 kw_393) rfl rfl (by decide +kernel) ⟨(Nat.le_of_ble_eq_true rfl), (Nat.le_of_ble_eq_true rfl)⟩ rfl hl.1 rfl (Nat.le_of_ble_eq_true rfl) dL_arePapersRight_127 ⟨(Nat.le_of_ble_eq_true rfl), (Nat.le_of_ble_eq_true rfl)⟩) (fun r26 u H locs hp w => ?_)
        obtain ⟨E28, q29⟩ := u
        obtain ⟨-, rfl, h30⟩ := hp
        have h30 : q29 = (F, L, S, n) := h30
        subst h30
        refine lv_goto (tgt := 134) X.1 X.2.1 dL_arePapersRight_130 (by decide) ?_
        refine lv_iadd X.1 X.2.1 dL_arePapersRight_134 ?_
        refine lv_topi (fun x31 ex31 => ?_)
        refine lv_istore (lv' := [(6, .int x31), (8, .int (nI k)), (0, .ref (ad 0)), (1, .int b1), (2, .int wo), (3, .int P), (4, .int st), (5, .int fo), (7, .int r)]) X.1 X.2.1 dL_arePapersRight_135 hl (by decide) rfl (fun ls hl => ?_)
        refine lv_iinc (v := (nI (k + 1))) (lv' := [(8, .int (nI (k + 1))), (6, .int x31), (0, .ref (ad 0)), (1, .int b1), (2, .int wo), (3, .int P), (4, .int st), (5, .int fo), (7, .int r)]) X.1 X.2.1 dL_arePapersRight_137 hl (k := 1) rfl (nI_1 k) (by decide) rfl (fun ls hl => ?_)
        refine lv_goto (tgt := 84) X.1 X.2.1 dL_arePapersRight_140 (by decide) ?_
        have hz1 : (s_neeP F L S P (6 + r.toNatClampNeg) (d + 1) k a) = (s_neeP F L S P (6 + r.toNatClampNeg) d (k + 1) x31) := by subst ex31; simp only [s_neeP, eq_true c18, if_true, if_false, ite_true, ite_false]
        rw [hz1] at kk
        exact ih (k + 1) x31 (by omega) E28 H locs w ls (lv_sub hl [0, 1, 2, 3, 4, 5, 6, 7, 8] rfl) kk

/-- what the law asks of a paper -/
def jq_ok (F : Fm) (L : Lm) (S : Sm) (q : Nat → Nat) (P : Int32) : Prop :=
  ¬ s_ofPaper F L S q (2 + P.toNatClampNeg) 3 < 0 ∧ ¬ 99999 < s_ofPaper F L S q (2 + P.toNatClampNeg) 3 ∧ s_ofPaper F L S q (2 + P.toNatClampNeg) 5 = mx 0 (s_ofPaper F L S q (2 + P.toNatClampNeg) 4 - s_ofPaper F L S q (2 + P.toNatClampNeg) 3) ∧
  s_neeP F L S P (6 + (2 : Int32).toNatClampNeg) (q (6 + (2 : Int32).toNatClampNeg)) 0 (s_neeP F L S P (6 + (1 : Int32).toNatClampNeg) (q (6 + (1 : Int32).toNatClampNeg)) 0 (s_neeP F L S P (6 + (0 : Int32).toNatClampNeg) (q (6 + (0 : Int32).toNatClampNeg)) 0 0)) = s_ofPaper F L S q (2 + P.toNatClampNeg) 4
def jq_worth (F : Fm) (L : Lm) (S : Sm) (q : Nat → Nat) : Int32 := 0 + s_ofPaper F L S q (2 + (0 : Int32).toNatClampNeg) 3 * s_ofPaper F L S q (2 + (0 : Int32).toNatClampNeg) 2 + s_ofPaper F L S q (2 + (1 : Int32).toNatClampNeg) 3 * s_ofPaper F L S q (2 + (1 : Int32).toNatClampNeg) 2 + s_ofPaper F L S q (2 + (2 : Int32).toNatClampNeg) 3 * s_ofPaper F L S q (2 + (2 : Int32).toNatClampNeg) 2 + s_ofPaper F L S q (2 + (3 : Int32).toNatClampNeg) 3 * s_ofPaper F L S q (2 + (3 : Int32).toNatClampNeg) 2
def jq_all (F : Fm) (L : Lm) (S : Sm) (n : Nat) (q : Nat → Nat) (b1 : Int32) : Prop := (∀ P : Int32, erI 4 P = 0 → jq_ok F L S q P) ∧ s_many F n 8 = jq_worth F L S q ∧ (b1 = 0 ∨ s_many F n 5 + jq_worth F L S q = s_many F n 6 - s_many F n 7)

set_option maxHeartbeats 4000000 in
set_option maxRecDepth 100000 in
theorem sg_pap {p : Program} {l : Launch} {e : Env} {s : State} {m : MethodId} {args : Array Value} {below : List Frame} {meth : Method} {c : Code} {D : va_G} {ca : Nat → ClassId} {ad : Nat → Nat} {E : Em} {F : Fm} {L : Lm} {S : Sm} {n : Nat} {A : Nat → Prop} {Q : State → Prop} (X : CallFix p m c cL_arePapersRight 9 s args BG yL_arePapersRight.cls) (cn : Cn A s) (hlt : l.stackTraces = false) (q : Nat → Nat) (hlf : Lf F L S n q) (P : Int32) (h4 : erI 4 P = 0) (hjq : jq_ok F L S q P) (b1 wo : Int32) (H : Heap) (locs : List Loc) (w : Wd D ca ad A s H locs (E, F, L, S, n)) (ls : Array Slot) (hl : lv_has ls 9 [(3, .int P), (2, .int wo), (0, .ref (ad 0)), (1, .int b1)])
    (kk : ∀ (E1 : Em) (H1 : Heap) (locs1 : List Loc) (ls1 : Array Slot), Wd D ca ad A s H1 locs1 (E1, F, L, S, n) → lv_has ls1 9 [(3, .int P), (2, .int (wo + s_ofPaper F L S q (2 + P.toNatClampNeg) 3 * s_ofPaper F L S q (2 + P.toNatClampNeg) 2)), (0, .ref (ad 0)), (1, .int b1)] → W p l e { frames := 9, cells := 0, slots := 0, locals := 300 } s m args below meth c H1 locs1 0 0 Q (F0 m 158 ls1 [])) :
    W p l e { frames := 9, cells := 0, slots := 0, locals := 300 } s m args below meth c H locs 0 0 Q (F0 m 9 ls []) := by
  have wf := hlf.1
  have hs := wf.2.2.1
  have hJ := wf.2.1.2
  refine lv_aload_n X.1 X.2.1 dL_arePapersRight_9 rfl (lv_at hl 2 rfl) ?_
  refine lv_iload_n X.1 X.2.1 dL_arePapersRight_10 rfl (lv_at hl 0 rfl) ?_
  refine lv_iconst (v := 3) X.1 X.2.1 dL_arePapersRight_11 (by decide) ?_
  have h2 : (er_ofPaper P (3 : Int32)) = 0 := (by rw [er_ofPaper, if_pos h4]; decide)
  refine w_calli cn w (w_runV (n := 2) (As := [.int P, .int 3]) X cn w (lt17 (by decide)) wC_0 rfl (fun sz => met_of (c_X4_ofPaper l D ca ad E F L S n hlt q wf P (3 : Int32) 0 0 (fun h => (h h2).elim) sz) h2) (bg_V kw_554 kw_275 kw_276 kw_31 kw_277) rfl rfl (by decide +kernel) ⟨(Nat.le_of_ble_eq_true rfl), (Nat.le_of_ble_eq_true rfl)⟩ rfl hl.1 rfl (Nat.le_of_ble_eq_true rfl) dL_arePapersRight_12 ⟨(Nat.le_of_ble_eq_true rfl), (Nat.le_of_ble_eq_true rfl)⟩) (fun r1 u H locs hp w => ?_)
  obtain ⟨E3, q4⟩ := u
  obtain ⟨-, rfl, h5⟩ := hp
  have h5 : q4 = (F, L, S, n) := h5
  subst h5
  refine lv_topi (fun x6 ex6 => ?_)
  refine lv_istore (lv' := [(4, .int x6), (3, .int P), (2, .int wo), (0, .ref (ad 0)), (1, .int b1)]) X.1 X.2.1 dL_arePapersRight_15 hl (by decide) rfl (fun ls hl => ?_)
  refine lv_aload_n X.1 X.2.1 dL_arePapersRight_17 rfl (lv_at hl 3 rfl) ?_
  refine lv_iload_n X.1 X.2.1 dL_arePapersRight_18 rfl (lv_at hl 1 rfl) ?_
  refine lv_iconst (v := 4) X.1 X.2.1 dL_arePapersRight_19 (by decide) ?_
  have h8 : (er_ofPaper P (4 : Int32)) = 0 := (by rw [er_ofPaper, if_pos h4]; decide)
  refine w_calli cn w (w_runV (n := 2) (As := [.int P, .int 4]) X cn w (lt17 (by decide)) wC_0 rfl (fun sz => met_of (c_X4_ofPaper l D ca ad E3 F L S n hlt q wf P (4 : Int32) 0 0 (fun h => (h h8).elim) sz) h8) (bg_V kw_554 kw_275 kw_276 kw_31 kw_277) rfl rfl (by decide +kernel) ⟨(Nat.le_of_ble_eq_true rfl), (Nat.le_of_ble_eq_true rfl)⟩ rfl hl.1 rfl (Nat.le_of_ble_eq_true rfl) dL_arePapersRight_20 ⟨(Nat.le_of_ble_eq_true rfl), (Nat.le_of_ble_eq_true rfl)⟩) (fun r7 u H locs hp w => ?_)
  obtain ⟨E9, q10⟩ := u
  obtain ⟨-, rfl, h11⟩ := hp
  have h11 : q10 = (F, L, S, n) := h11
  subst h11
  refine lv_topi (fun x12 ex12 => ?_)
  refine lv_istore (lv' := [(5, .int x12), (4, .int x6), (3, .int P), (2, .int wo), (0, .ref (ad 0)), (1, .int b1)]) X.1 X.2.1 dL_arePapersRight_23 hl (by decide) rfl (fun ls hl => ?_)
  refine lv_iload_n X.1 X.2.1 dL_arePapersRight_25 rfl (lv_at hl 3 rfl) ?_
  refine lv_iload X.1 X.2.1 dL_arePapersRight_26 (lv_at hl 1 rfl) ?_
  refine lv_aload_n X.1 X.2.1 dL_arePapersRight_28 rfl (lv_at hl 4 rfl) ?_
  refine lv_iload_n X.1 X.2.1 dL_arePapersRight_29 rfl (lv_at hl 2 rfl) ?_
  refine lv_iconst (v := 2) X.1 X.2.1 dL_arePapersRight_30 (by decide) ?_
  have h14 : (er_ofPaper P (2 : Int32)) = 0 := (by rw [er_ofPaper, if_pos h4]; decide)
  refine w_calli cn w (w_runV (n := 2) (As := [.int P, .int 2]) X cn w (lt17 (by decide)) wC_0 rfl (fun sz => met_of (c_X4_ofPaper l D ca ad E9 F L S n hlt q wf P (2 : Int32) 0 0 (fun h => (h h14).elim) sz) h14) (bg_V kw_554 kw_275 kw_276 kw_31 kw_277) rfl rfl (by decide +kernel) ⟨(Nat.le_of_ble_eq_true rfl), (Nat.le_of_ble_eq_true rfl)⟩ rfl hl.1 rfl (Nat.le_of_ble_eq_true rfl) dL_arePapersRight_31 ⟨(Nat.le_of_ble_eq_true rfl), (Nat.le_of_ble_eq_true rfl)⟩) (fun r13 u H locs hp w => ?_)
  obtain ⟨E15, q16⟩ := u
  obtain ⟨-, rfl, h17⟩ := hp
  have h17 : q16 = (F, L, S, n) := h17
  subst h17
  refine lv_imul X.1 X.2.1 dL_arePapersRight_34 ?_
  refine lv_iadd X.1 X.2.1 dL_arePapersRight_35 ?_
  refine lv_topi (fun x18 ex18 => ?_)
  refine lv_istore_n (lv' := [(2, .int x18), (5, .int x12), (4, .int x6), (3, .int P), (0, .ref (ad 0)), (1, .int b1)]) X.1 X.2.1 dL_arePapersRight_36 rfl hl (by decide) rfl (fun ls hl => ?_)
  refine lv_iload X.1 X.2.1 dL_arePapersRight_37 (lv_at hl 2 rfl) ?_
  refine lv_if_lt (tgt := 67) X.1 X.2.1 dL_arePapersRight_39 (by decide) (fun c19 => ?_) (fun c19 => ?_)
  ·
    subst ex18; subst ex12; subst ex6;
    obtain ⟨g1, g2, g3, g4⟩ := hjq
    first | exact absurd c19 g1 | exact absurd c19 g2 | exact absurd g3 c19 | exact absurd g4 c19
  ·
    refine lv_iload X.1 X.2.1 dL_arePapersRight_42 (lv_at hl 2 rfl) ?_
    refine lv_ldc (v := 99999) X.1 X.2.1 X.2.2.2.1 (X.2.2.2.2 _ kw_653) dL_arePapersRight_44 ?_
    refine lv_icmp_gt (tgt := 67) X.1 X.2.1 dL_arePapersRight_46 (by decide) (fun c20 => ?_) (fun c20 => ?_)
    ·
      subst ex18; subst ex12; subst ex6;
      obtain ⟨g1, g2, g3, g4⟩ := hjq
      first | exact absurd c20 g1 | exact absurd c20 g2 | exact absurd g3 c20 | exact absurd g4 c20
    ·
      refine lv_aload_n X.1 X.2.1 dL_arePapersRight_49 rfl (lv_at hl 4 rfl) ?_
      refine lv_iload_n X.1 X.2.1 dL_arePapersRight_50 rfl (lv_at hl 3 rfl) ?_
      refine lv_iconst (v := 5) X.1 X.2.1 dL_arePapersRight_51 (by decide) ?_
      have h22 : (er_ofPaper P (5 : Int32)) = 0 := (by rw [er_ofPaper, if_pos h4]; decide)
      refine w_calli cn w (w_runV (n := 2) (As := [.int P, .int 5]) X cn w (lt17 (by decide)) wC_0 rfl (fun sz => met_of (c_X4_ofPaper l D ca ad E15 F L S n hlt q wf P (5 : Int32) 0 0 (fun h => (h h22).elim) sz) h22) (bg_V kw_554 kw_275 kw_276 kw_31 kw_277) rfl rfl (by decide +kernel) ⟨(Nat.le_of_ble_eq_true rfl), (Nat.le_of_ble_eq_true rfl)⟩ rfl hl.1 rfl (Nat.le_of_ble_eq_true rfl) dL_arePapersRight_52 ⟨(Nat.le_of_ble_eq_true rfl), (Nat.le_of_ble_eq_true rfl)⟩) (fun r21 u H locs hp w => ?_)
      obtain ⟨E23, q24⟩ := u
      obtain ⟨-, rfl, h25⟩ := hp
      have h25 : q24 = (F, L, S, n) := h25
      subst h25
      refine lv_iconst (v := 0) X.1 X.2.1 dL_arePapersRight_55 (by decide) ?_
      refine lv_iload X.1 X.2.1 dL_arePapersRight_56 (lv_at hl 1 rfl) ?_
      refine lv_iload X.1 X.2.1 dL_arePapersRight_58 (lv_at hl 2 rfl) ?_
      refine lv_isub X.1 X.2.1 dL_arePapersRight_60 ?_
      refine n_max X hl.1 (X.2.2.2.2 _ kw_654) (Nat.le_of_ble_eq_true rfl) (Nat.le_of_ble_eq_true rfl) (Nat.le_of_ble_eq_true rfl) (Nat.le_of_ble_eq_true rfl) dL_arePapersRight_61 ?_
      refine lv_icmp_eq (tgt := 69) X.1 X.2.1 dL_arePapersRight_64 (by decide) (fun c26 => ?_) (fun c26 => ?_)
      ·
        refine lv_iconst (v := 0) X.1 X.2.1 dL_arePapersRight_69 (by decide) ?_
        refine lv_istore (lv' := [(6, .int 0), (2, .int x18), (5, .int x12), (4, .int x6), (3, .int P), (0, .ref (ad 0)), (1, .int b1)]) X.1 X.2.1 dL_arePapersRight_70 hl (by decide) rfl (fun ls hl => ?_)
        refine lv_iconst (v := 0) X.1 X.2.1 dL_arePapersRight_72 (by decide) ?_
        refine lv_istore (lv' := [(7, .int 0), (6, .int 0), (2, .int x18), (5, .int x12), (4, .int x6), (3, .int P), (0, .ref (ad 0)), (1, .int b1)]) X.1 X.2.1 dL_arePapersRight_73 hl (by decide) rfl (fun ls hl => ?_)
        refine lv_iload X.1 X.2.1 dL_arePapersRight_75 (lv_at hl 0 rfl) ?_
        refine lv_iconst (v := 3) X.1 X.2.1 dL_arePapersRight_77 (by decide) ?_
        refine lv_icmp_ge (tgt := 149) X.1 X.2.1 dL_arePapersRight_78 (by decide) (fun c27 => ?_) (fun c27 => ?_)
        ·
          exact absurd c27 (by decide)
        ·
          refine lv_iconst (v := 0) X.1 X.2.1 dL_arePapersRight_81 (by decide) ?_
          refine lv_istore (lv' := [(8, .int 0), (7, .int 0), (6, .int 0), (2, .int x18), (5, .int x12), (4, .int x6), (3, .int P), (0, .ref (ad 0)), (1, .int b1)]) X.1 X.2.1 dL_arePapersRight_82 hl (by decide) rfl (fun ls hl => ?_)
          refine lp_pap X cn hlt q hlf (0 : Int32) (by decide) P b1 x18 x6 x12 (q (6 + (0 : Int32).toNatClampNeg)) 0 0 (by omega) E23 _ _ w ls (lv_sub hl [0, 2, 7, 8, 3, 6, 5, 4, 1] rfl) (fun E28 H locs ls w hl => ?_)
          refine lv_iinc (v := 1) (lv' := [(7, .int 1), (6, .int (s_neeP F L S P (6 + (0 : Int32).toNatClampNeg) (q (6 + (0 : Int32).toNatClampNeg)) 0 0)), (0, .ref (ad 0)), (1, .int b1), (2, .int x18), (3, .int P), (4, .int x6), (5, .int x12)]) X.1 X.2.1 dL_arePapersRight_143 hl (k := 7) rfl (by decide) (by decide) rfl (fun ls hl => ?_)
          refine lv_goto (tgt := 75) X.1 X.2.1 dL_arePapersRight_146 (by decide) ?_
          refine lv_iload X.1 X.2.1 dL_arePapersRight_75 (lv_at hl 0 rfl) ?_
          refine lv_iconst (v := 3) X.1 X.2.1 dL_arePapersRight_77 (by decide) ?_
          refine lv_icmp_ge (tgt := 149) X.1 X.2.1 dL_arePapersRight_78 (by decide) (fun c29 => ?_) (fun c29 => ?_)
          ·
            exact absurd c29 (by decide)
          ·
            refine lv_iconst (v := 0) X.1 X.2.1 dL_arePapersRight_81 (by decide) ?_
            refine lv_istore (lv' := [(8, .int 0), (7, .int 1), (6, .int (s_neeP F L S P (6 + (0 : Int32).toNatClampNeg) (q (6 + (0 : Int32).toNatClampNeg)) 0 0)), (0, .ref (ad 0)), (1, .int b1), (2, .int x18), (3, .int P), (4, .int x6), (5, .int x12)]) X.1 X.2.1 dL_arePapersRight_82 hl (by decide) rfl (fun ls hl => ?_)
            refine lp_pap X cn hlt q hlf (1 : Int32) (by decide) P b1 x18 x6 x12 (q (6 + (1 : Int32).toNatClampNeg)) 0 (s_neeP F L S P (6 + (0 : Int32).toNatClampNeg) (q (6 + (0 : Int32).toNatClampNeg)) 0 0) (by omega) E28 _ _ w ls (lv_sub hl [0, 2, 3, 4, 5, 6, 7, 8, 1] rfl) (fun E30 H locs ls w hl => ?_)
            refine lv_iinc (v := 2) (lv' := [(7, .int 2), (6, .int (s_neeP F L S P (6 + (1 : Int32).toNatClampNeg) (q (6 + (1 : Int32).toNatClampNeg)) 0 (s_neeP F L S P (6 + (0 : Int32).toNatClampNeg) (q (6 + (0 : Int32).toNatClampNeg)) 0 0))), (0, .ref (ad 0)), (1, .int b1), (2, .int x18), (3, .int P), (4, .int x6), (5, .int x12)]) X.1 X.2.1 dL_arePapersRight_143 hl (k := 7) rfl (by decide) (by decide) rfl (fun ls hl => ?_)
            refine lv_goto (tgt := 75) X.1 X.2.1 dL_arePapersRight_146 (by decide) ?_
            refine lv_iload X.1 X.2.1 dL_arePapersRight_75 (lv_at hl 0 rfl) ?_
            refine lv_iconst (v := 3) X.1 X.2.1 dL_arePapersRight_77 (by decide) ?_
            refine lv_icmp_ge (tgt := 149) X.1 X.2.1 dL_arePapersRight_78 (by decide) (fun c31 => ?_) (fun c31 => ?_)
            ·
              exact absurd c31 (by decide)
            ·
              refine lv_iconst (v := 0) X.1 X.2.1 dL_arePapersRight_81 (by decide) ?_
              refine lv_istore (lv' := [(8, .int 0), (7, .int 2), (6, .int (s_neeP F L S P (6 + (1 : Int32).toNatClampNeg) (q (6 + (1 : Int32).toNatClampNeg)) 0 (s_neeP F L S P (6 + (0 : Int32).toNatClampNeg) (q (6 + (0 : Int32).toNatClampNeg)) 0 0))), (0, .ref (ad 0)), (1, .int b1), (2, .int x18), (3, .int P), (4, .int x6), (5, .int x12)]) X.1 X.2.1 dL_arePapersRight_82 hl (by decide) rfl (fun ls hl => ?_)
              refine lp_pap X cn hlt q hlf (2 : Int32) (by decide) P b1 x18 x6 x12 (q (6 + (2 : Int32).toNatClampNeg)) 0 (s_neeP F L S P (6 + (1 : Int32).toNatClampNeg) (q (6 + (1 : Int32).toNatClampNeg)) 0 (s_neeP F L S P (6 + (0 : Int32).toNatClampNeg) (q (6 + (0 : Int32).toNatClampNeg)) 0 0)) (by omega) E30 _ _ w ls (lv_sub hl [0, 2, 3, 4, 5, 6, 7, 8, 1] rfl) (fun E32 H locs ls w hl => ?_)
              refine lv_iinc (v := 3) (lv' := [(7, .int 3), (6, .int (s_neeP F L S P (6 + (2 : Int32).toNatClampNeg) (q (6 + (2 : Int32).toNatClampNeg)) 0 (s_neeP F L S P (6 + (1 : Int32).toNatClampNeg) (q (6 + (1 : Int32).toNatClampNeg)) 0 (s_neeP F L S P (6 + (0 : Int32).toNatClampNeg) (q (6 + (0 : Int32).toNatClampNeg)) 0 0)))), (0, .ref (ad 0)), (1, .int b1), (2, .int x18), (3, .int P), (4, .int x6), (5, .int x12)]) X.1 X.2.1 dL_arePapersRight_143 hl (k := 7) rfl (by decide) (by decide) rfl (fun ls hl => ?_)
              refine lv_goto (tgt := 75) X.1 X.2.1 dL_arePapersRight_146 (by decide) ?_
              refine lv_iload X.1 X.2.1 dL_arePapersRight_75 (lv_at hl 0 rfl) ?_
              refine lv_iconst (v := 3) X.1 X.2.1 dL_arePapersRight_77 (by decide) ?_
              refine lv_icmp_ge (tgt := 149) X.1 X.2.1 dL_arePapersRight_78 (by decide) (fun c33 => ?_) (fun c33 => ?_)
              ·
                refine lv_iload X.1 X.2.1 dL_arePapersRight_149 (lv_at hl 1 rfl) ?_
                refine lv_iload X.1 X.2.1 dL_arePapersRight_151 (lv_at hl 7 rfl) ?_
                refine lv_icmp_eq (tgt := 158) X.1 X.2.1 dL_arePapersRight_153 (by decide) (fun c34 => ?_) (fun c34 => ?_)
                ·
                  subst ex18; subst ex12; subst ex6;
                  exact kk E32 _ _ ls w (lv_sub hl [5, 4, 2, 3] rfl)
                ·
                  subst ex18; subst ex12; subst ex6;
                  obtain ⟨g1, g2, g3, g4⟩ := hjq
                  first | exact absurd c34 g1 | exact absurd c34 g2 | exact absurd g3 c34 | exact absurd g4 c34
              ·
                exact absurd (by decide) c33
      ·
        subst ex18; subst ex12; subst ex6;
        obtain ⟨g1, g2, g3, g4⟩ := hjq
        first | exact absurd c26 g1 | exact absurd c26 g2 | exact absurd g3 c26 | exact absurd g4 c26

set_option maxHeartbeats 4000000 in
set_option maxRecDepth 100000 in
theorem c_L_arePapersRight (l : Launch) (D : va_G) (ca : Nat → ClassId) (ad : Nat → Nat) (E : Em) (F : Fm) (L : Lm) (S : Sm) (n : Nat) (hlt : l.stackTraces = false) (q : Nat → Nat) (hlf : Lf F L S n q) (b1 : Int32) (hjq : jq_all F L S n q b1) (sz : Nat) : Met l yL_arePapersRight (.code yL_arePapersRight cL_arePapersRight 9 (some .boolean) :: BG) { frames := 9, cells := 0, slots := 0, locals := 300 } (Pw D ca ad (E, F, L, S, n) sz [.ref (ad 0), .int b1]) (Qi D ca ad n (fun v u => v = 1 ∧ u.2 = (F, L, S, n)) sz) 0 0 (wA ad n sz) := by
  refine open_W (σ := (E, F, L, S, n)) (Qc := Qi D ca ad n (fun v u => v = 1 ∧ u.2 = (F, L, S, n))) (by decide +kernel) (Nat.le_of_ble_eq_true rfl) ?_
  intro p e s m args below meth c X hr hlk w cn ls hl
  have hl : lv_has ls 9 [(0, .ref (ad 0)), (1, .int b1)] := hl
  have wf := hlf.1
  have hs := wf.2.2.1
  have hJ := wf.2.1.2
  refine lv_iconst (v := 0) X.1 X.2.1 dL_arePapersRight_0 (by decide) ?_
  refine lv_istore_n (lv' := [(2, .int 0), (0, .ref (ad 0)), (1, .int b1)]) X.1 X.2.1 dL_arePapersRight_1 rfl hl (by decide) rfl (fun ls hl => ?_)
  refine lv_iconst (v := 0) X.1 X.2.1 dL_arePapersRight_2 (by decide) ?_
  refine lv_istore_n (lv' := [(3, .int 0), (2, .int 0), (0, .ref (ad 0)), (1, .int b1)]) X.1 X.2.1 dL_arePapersRight_3 rfl hl (by decide) rfl (fun ls hl => ?_)
  refine lv_iload_n X.1 X.2.1 dL_arePapersRight_4 rfl (lv_at hl 0 rfl) ?_
  refine lv_iconst (v := 4) X.1 X.2.1 dL_arePapersRight_5 (by decide) ?_
  refine lv_icmp_ge (tgt := 164) X.1 X.2.1 dL_arePapersRight_6 (by decide) (fun c1 => ?_) (fun c1 => ?_)
  ·
    exact absurd c1 (by decide)
  ·
    refine sg_pap X cn hlt q hlf (0 : Int32) (by decide) (hjq.1 _ (by decide)) b1 (0 : Int32) _ _ w ls (lv_sub hl [0, 1, 2, 3] rfl) (fun E2 H locs ls w hl => ?_)
    refine lv_iinc (v := 1) (lv' := [(3, .int 1), (2, .int (0 + s_ofPaper F L S q (2 + (0 : Int32).toNatClampNeg) 3 * s_ofPaper F L S q (2 + (0 : Int32).toNatClampNeg) 2)), (0, .ref (ad 0)), (1, .int b1)]) X.1 X.2.1 dL_arePapersRight_158 hl (k := 0) rfl (by decide) (by decide) rfl (fun ls hl => ?_)
    refine lv_goto (tgt := 4) X.1 X.2.1 dL_arePapersRight_161 (by decide) ?_
    refine lv_iload_n X.1 X.2.1 dL_arePapersRight_4 rfl (lv_at hl 0 rfl) ?_
    refine lv_iconst (v := 4) X.1 X.2.1 dL_arePapersRight_5 (by decide) ?_
    refine lv_icmp_ge (tgt := 164) X.1 X.2.1 dL_arePapersRight_6 (by decide) (fun c3 => ?_) (fun c3 => ?_)
    ·
      exact absurd c3 (by decide)
    ·
      refine sg_pap X cn hlt q hlf (1 : Int32) (by decide) (hjq.1 _ (by decide)) b1 (0 + s_ofPaper F L S q (2 + (0 : Int32).toNatClampNeg) 3 * s_ofPaper F L S q (2 + (0 : Int32).toNatClampNeg) 2) _ _ w ls (lv_sub hl [0, 1, 2, 3] rfl) (fun E4 H locs ls w hl => ?_)
      refine lv_iinc (v := 2) (lv' := [(3, .int 2), (2, .int ((0 + s_ofPaper F L S q (2 + (0 : Int32).toNatClampNeg) 3 * s_ofPaper F L S q (2 + (0 : Int32).toNatClampNeg) 2) + s_ofPaper F L S q (2 + (1 : Int32).toNatClampNeg) 3 * s_ofPaper F L S q (2 + (1 : Int32).toNatClampNeg) 2)), (0, .ref (ad 0)), (1, .int b1)]) X.1 X.2.1 dL_arePapersRight_158 hl (k := 0) rfl (by decide) (by decide) rfl (fun ls hl => ?_)
      refine lv_goto (tgt := 4) X.1 X.2.1 dL_arePapersRight_161 (by decide) ?_
      refine lv_iload_n X.1 X.2.1 dL_arePapersRight_4 rfl (lv_at hl 0 rfl) ?_
      refine lv_iconst (v := 4) X.1 X.2.1 dL_arePapersRight_5 (by decide) ?_
      refine lv_icmp_ge (tgt := 164) X.1 X.2.1 dL_arePapersRight_6 (by decide) (fun c5 => ?_) (fun c5 => ?_)
      ·
        exact absurd c5 (by decide)
      ·
        refine sg_pap X cn hlt q hlf (2 : Int32) (by decide) (hjq.1 _ (by decide)) b1 ((0 + s_ofPaper F L S q (2 + (0 : Int32).toNatClampNeg) 3 * s_ofPaper F L S q (2 + (0 : Int32).toNatClampNeg) 2) + s_ofPaper F L S q (2 + (1 : Int32).toNatClampNeg) 3 * s_ofPaper F L S q (2 + (1 : Int32).toNatClampNeg) 2) _ _ w ls (lv_sub hl [0, 1, 2, 3] rfl) (fun E6 H locs ls w hl => ?_)
        refine lv_iinc (v := 3) (lv' := [(3, .int 3), (2, .int (((0 + s_ofPaper F L S q (2 + (0 : Int32).toNatClampNeg) 3 * s_ofPaper F L S q (2 + (0 : Int32).toNatClampNeg) 2) + s_ofPaper F L S q (2 + (1 : Int32).toNatClampNeg) 3 * s_ofPaper F L S q (2 + (1 : Int32).toNatClampNeg) 2) + s_ofPaper F L S q (2 + (2 : Int32).toNatClampNeg) 3 * s_ofPaper F L S q (2 + (2 : Int32).toNatClampNeg) 2)), (0, .ref (ad 0)), (1, .int b1)]) X.1 X.2.1 dL_arePapersRight_158 hl (k := 0) rfl (by decide) (by decide) rfl (fun ls hl => ?_)
        refine lv_goto (tgt := 4) X.1 X.2.1 dL_arePapersRight_161 (by decide) ?_
        refine lv_iload_n X.1 X.2.1 dL_arePapersRight_4 rfl (lv_at hl 0 rfl) ?_
        refine lv_iconst (v := 4) X.1 X.2.1 dL_arePapersRight_5 (by decide) ?_
        refine lv_icmp_ge (tgt := 164) X.1 X.2.1 dL_arePapersRight_6 (by decide) (fun c7 => ?_) (fun c7 => ?_)
        ·
          exact absurd c7 (by decide)
        ·
          refine sg_pap X cn hlt q hlf (3 : Int32) (by decide) (hjq.1 _ (by decide)) b1 (((0 + s_ofPaper F L S q (2 + (0 : Int32).toNatClampNeg) 3 * s_ofPaper F L S q (2 + (0 : Int32).toNatClampNeg) 2) + s_ofPaper F L S q (2 + (1 : Int32).toNatClampNeg) 3 * s_ofPaper F L S q (2 + (1 : Int32).toNatClampNeg) 2) + s_ofPaper F L S q (2 + (2 : Int32).toNatClampNeg) 3 * s_ofPaper F L S q (2 + (2 : Int32).toNatClampNeg) 2) _ _ w ls (lv_sub hl [0, 1, 2, 3] rfl) (fun E8 H locs ls w hl => ?_)
          refine lv_iinc (v := 4) (lv' := [(3, .int 4), (2, .int ((((0 + s_ofPaper F L S q (2 + (0 : Int32).toNatClampNeg) 3 * s_ofPaper F L S q (2 + (0 : Int32).toNatClampNeg) 2) + s_ofPaper F L S q (2 + (1 : Int32).toNatClampNeg) 3 * s_ofPaper F L S q (2 + (1 : Int32).toNatClampNeg) 2) + s_ofPaper F L S q (2 + (2 : Int32).toNatClampNeg) 3 * s_ofPaper F L S q (2 + (2 : Int32).toNatClampNeg) 2) + s_ofPaper F L S q (2 + (3 : Int32).toNatClampNeg) 3 * s_ofPaper F L S q (2 + (3 : Int32).toNatClampNeg) 2)), (0, .ref (ad 0)), (1, .int b1)]) X.1 X.2.1 dL_arePapersRight_158 hl (k := 0) rfl (by decide) (by decide) rfl (fun ls hl => ?_)
          refine lv_goto (tgt := 4) X.1 X.2.1 dL_arePapersRight_161 (by decide) ?_
          refine lv_iload_n X.1 X.2.1 dL_arePapersRight_4 rfl (lv_at hl 0 rfl) ?_
          refine lv_iconst (v := 4) X.1 X.2.1 dL_arePapersRight_5 (by decide) ?_
          refine lv_icmp_ge (tgt := 164) X.1 X.2.1 dL_arePapersRight_6 (by decide) (fun c9 => ?_) (fun c9 => ?_)
          ·
            refine lv_aload_n X.1 X.2.1 dL_arePapersRight_164 rfl (lv_at hl 2 rfl) ?_
            refine lv_bipush (v := 8) X.1 X.2.1 dL_arePapersRight_165 (by decide) ?_
            have h11 : (erW 10 (8 : Int32)) = 0 := (by decide)
            refine w_calli cn w (w_runV (n := 1) (As := [.int 8]) X cn w (lt17 (by decide)) wC_0 rfl (fun sz => met_of (c_X4_many l D ca ad E8 F L S n hlt q wf (8 : Int32) 0 0 (fun h => (h h11).elim) sz) h11) (bg_V kw_179 kw_180 kw_181 kw_31 kw_182) rfl rfl (by decide +kernel) ⟨(Nat.le_of_ble_eq_true rfl), (Nat.le_of_ble_eq_true rfl)⟩ rfl hl.1 rfl (Nat.le_of_ble_eq_true rfl) dL_arePapersRight_167 ⟨(Nat.le_of_ble_eq_true rfl), (Nat.le_of_ble_eq_true rfl)⟩) (fun r10 u H locs hp w => ?_)
            obtain ⟨E12, q13⟩ := u
            obtain ⟨-, rfl, h14⟩ := hp
            have h14 : q13 = (F, L, S, n) := h14
            subst h14
            refine lv_iload_n X.1 X.2.1 dL_arePapersRight_170 rfl (lv_at hl 1 rfl) ?_
            refine lv_icmp_ne (tgt := 205) X.1 X.2.1 dL_arePapersRight_171 (by decide) (fun c15 => ?_) (fun c15 => ?_)
            ·
              obtain ⟨-, g1, g2⟩ := hjq
              first | exact absurd g1 c15 | exact absurd (g2.resolve_left c9) c15
            ·
              refine lv_iload_n X.1 X.2.1 dL_arePapersRight_174 rfl (lv_at hl 3 rfl) ?_
              refine lv_if_eq (tgt := 201) X.1 X.2.1 dL_arePapersRight_175 (by decide) (fun c16 => ?_) (fun c16 => ?_)
              ·
                refine lv_iconst (v := 1) X.1 X.2.1 dL_arePapersRight_201 (by decide) ?_
                refine lv_goto (tgt := 206) X.1 X.2.1 dL_arePapersRight_202 (by decide) ?_
                exact w_iret X hr hlk w (by  exact ⟨rfl, rfl⟩) dL_arePapersRight_206 rfl (Nat.le_of_ble_eq_true rfl) (Nat.le_of_ble_eq_true rfl)
              ·
                refine lv_aload_n X.1 X.2.1 dL_arePapersRight_178 rfl (lv_at hl 2 rfl) ?_
                refine lv_iconst (v := 5) X.1 X.2.1 dL_arePapersRight_179 (by decide) ?_
                have h18 : (erW 10 (5 : Int32)) = 0 := (by decide)
                refine w_calli cn w (w_runV (n := 1) (As := [.int 5]) X cn w (lt17 (by decide)) wC_0 rfl (fun sz => met_of (c_X4_many l D ca ad E12 F L S n hlt q wf (5 : Int32) 0 0 (fun h => (h h18).elim) sz) h18) (bg_V kw_179 kw_180 kw_181 kw_31 kw_182) rfl rfl (by decide +kernel) ⟨(Nat.le_of_ble_eq_true rfl), (Nat.le_of_ble_eq_true rfl)⟩ rfl hl.1 rfl (Nat.le_of_ble_eq_true rfl) dL_arePapersRight_180 ⟨(Nat.le_of_ble_eq_true rfl), (Nat.le_of_ble_eq_true rfl)⟩) (fun r17 u H locs hp w => ?_)
                obtain ⟨E19, q20⟩ := u
                obtain ⟨-, rfl, h21⟩ := hp
                have h21 : q20 = (F, L, S, n) := h21
                subst h21
                refine lv_iload_n X.1 X.2.1 dL_arePapersRight_183 rfl (lv_at hl 1 rfl) ?_
                refine lv_iadd X.1 X.2.1 dL_arePapersRight_184 ?_
                refine lv_aload_n X.1 X.2.1 dL_arePapersRight_185 rfl (lv_at hl 2 rfl) ?_
                refine lv_bipush (v := 6) X.1 X.2.1 dL_arePapersRight_186 (by decide) ?_
                have h23 : (erW 10 (6 : Int32)) = 0 := (by decide)
                refine w_calli cn w (w_runV (n := 1) (As := [.int 6]) X cn w (lt17 (by decide)) wC_0 rfl (fun sz => met_of (c_X4_many l D ca ad E19 F L S n hlt q wf (6 : Int32) 0 0 (fun h => (h h23).elim) sz) h23) (bg_V kw_179 kw_180 kw_181 kw_31 kw_182) rfl rfl (by decide +kernel) ⟨(Nat.le_of_ble_eq_true rfl), (Nat.le_of_ble_eq_true rfl)⟩ rfl hl.1 rfl (Nat.le_of_ble_eq_true rfl) dL_arePapersRight_188 ⟨(Nat.le_of_ble_eq_true rfl), (Nat.le_of_ble_eq_true rfl)⟩) (fun r22 u H locs hp w => ?_)
                obtain ⟨E24, q25⟩ := u
                obtain ⟨-, rfl, h26⟩ := hp
                have h26 : q25 = (F, L, S, n) := h26
                subst h26
                refine lv_aload_n X.1 X.2.1 dL_arePapersRight_191 rfl (lv_at hl 2 rfl) ?_
                refine lv_bipush (v := 7) X.1 X.2.1 dL_arePapersRight_192 (by decide) ?_
                have h28 : (erW 10 (7 : Int32)) = 0 := (by decide)
                refine w_calli cn w (w_runV (n := 1) (As := [.int 7]) X cn w (lt17 (by decide)) wC_0 rfl (fun sz => met_of (c_X4_many l D ca ad E24 F L S n hlt q wf (7 : Int32) 0 0 (fun h => (h h28).elim) sz) h28) (bg_V kw_179 kw_180 kw_181 kw_31 kw_182) rfl rfl (by decide +kernel) ⟨(Nat.le_of_ble_eq_true rfl), (Nat.le_of_ble_eq_true rfl)⟩ rfl hl.1 rfl (Nat.le_of_ble_eq_true rfl) dL_arePapersRight_194 ⟨(Nat.le_of_ble_eq_true rfl), (Nat.le_of_ble_eq_true rfl)⟩) (fun r27 u H locs hp w => ?_)
                obtain ⟨E29, q30⟩ := u
                obtain ⟨-, rfl, h31⟩ := hp
                have h31 : q30 = (F, L, S, n) := h31
                subst h31
                refine lv_isub X.1 X.2.1 dL_arePapersRight_197 ?_
                refine lv_icmp_ne (tgt := 205) X.1 X.2.1 dL_arePapersRight_198 (by decide) (fun c32 => ?_) (fun c32 => ?_)
                ·
                  obtain ⟨-, g1, g2⟩ := hjq
                  first | exact absurd g1 c32 | exact absurd (g2.resolve_left c16) c32
                ·
                  refine lv_iconst (v := 1) X.1 X.2.1 dL_arePapersRight_201 (by decide) ?_
                  refine lv_goto (tgt := 206) X.1 X.2.1 dL_arePapersRight_202 (by decide) ?_
                  exact w_iret X hr hlk w (by  exact ⟨rfl, rfl⟩) dL_arePapersRight_206 rfl (Nat.le_of_ble_eq_true rfl) (Nat.le_of_ble_eq_true rfl)
          ·
            exact absurd (by decide) c9
