/-! ===== the entry: what the Statement gives of the start ===== -/
set_option maxRecDepth 100000 in
theorem t_in {w : Cond} (i : Nat) (h : lw_tbl[i]? = some w) : w ∈ lw_tbl := List.mem_of_getElem? h
theorem n_in {w : Cond} (i : Nat) (h : (flatC (Jvm.Cond.and given_1 narrow_1))[i]? = some w) : w ∈ flatC (Jvm.Cond.and given_1 narrow_1) := List.mem_of_getElem? h
theorem ev_str {s : State} {args : Array Value} {k : Nat} {tx : String} (h1 : (Cond.stringRef RX4 k tx).before args s = true) (h2 : (Cond.exactly (.string RX4 k) "java/lang/String").before args s = true) : ∃ a : Nat, vk_R RX4 k tx a s := by
  obtain ⟨a, c, cA, kA, q1, -⟩ := Cond.exactly_spec (args := args) (first := s) (o := none) (s := s) (idx := []) (t := .string RX4 k) (cls := "java/lang/String") h2
  exact ⟨a, vk_R.of h1 q1⟩
set_option maxRecDepth 100000 in
set_option maxHeartbeats 4000000 in
theorem ev_start {s : State} {args : Array Value} (hts : ∀ w ∈ lw_tbl, w.before args s = true) (hn : ∀ w ∈ flatC (Jvm.Cond.and given_1 narrow_1), w.before args s = true) : EV s := by
  refine ⟨fun w hw => va_Nw.of (ew_on w (List.mem_filter.mp hw).2) (hts w (List.mem_filter.mp hw).1), ?_, ?_, va_AO.of (hts _ (t_in 87 rfl)), va_AO.of (hts _ (t_in 53 rfl)), va_AO.of (hts _ (t_in 80 rfl))⟩
  · refine List.forall_mem_cons.mpr ⟨ev_str (hts _ (t_in 240 rfl)) (hn _ (n_in 27 rfl)), List.forall_mem_cons.mpr ⟨ev_str (hts _ (t_in 291 rfl)) (hn _ (n_in 61 rfl)), List.forall_mem_cons.mpr ⟨ev_str (hts _ (t_in 352 rfl)) (hn _ (n_in 78 rfl)), List.forall_mem_cons.mpr ⟨ev_str (hts _ (t_in 365 rfl)) (hn _ (n_in 108 rfl)), List.forall_mem_cons.mpr ⟨ev_str (hts _ (t_in 370 rfl)) (hn _ (n_in 125 rfl)), List.forall_mem_cons.mpr ⟨ev_str (hts _ (t_in 375 rfl)) (hn _ (n_in 155 rfl)), List.forall_mem_cons.mpr ⟨ev_str (hts _ (t_in 388 rfl)) (hn _ (n_in 185 rfl)), List.forall_mem_cons.mpr ⟨ev_str (hts _ (t_in 389 rfl)) (hn _ (n_in 200 rfl)), List.forall_mem_cons.mpr ⟨ev_str (hts _ (t_in 394 rfl)) (hn _ (n_in 229 rfl)), List.forall_mem_cons.mpr ⟨ev_str (hts _ (t_in 432 rfl)) (hn _ (n_in 268 rfl)), List.forall_mem_cons.mpr ⟨ev_str (hts _ (t_in 433 rfl)) (hn _ (n_in 304 rfl)), List.forall_mem_cons.mpr ⟨ev_str (hts _ (t_in 434 rfl)) (hn _ (n_in 328 rfl)), List.forall_mem_cons.mpr ⟨ev_str (hts _ (t_in 442 rfl)) (hn _ (n_in 356 rfl)), List.forall_mem_cons.mpr ⟨ev_str (hts _ (t_in 452 rfl)) (hn _ (n_in 395 rfl)), List.forall_mem_cons.mpr ⟨ev_str (hts _ (t_in 531 rfl)) (hn _ (n_in 416 rfl)), List.forall_mem_cons.mpr ⟨ev_str (hts _ (t_in 543 rfl)) (hn _ (n_in 438 rfl)), List.forall_mem_cons.mpr ⟨ev_str (hts _ (t_in 549 rfl)) (hn _ (n_in 458 rfl)), List.forall_mem_cons.mpr ⟨ev_str (hts _ (t_in 565 rfl)) (hn _ (n_in 492 rfl)), List.forall_mem_cons.mpr ⟨ev_str (hts _ (t_in 566 rfl)) (hn _ (n_in 518 rfl)), List.forall_mem_cons.mpr ⟨ev_str (hts _ (t_in 572 rfl)) (hn _ (n_in 546 rfl)), List.forall_mem_cons.mpr ⟨ev_str (hts _ (t_in 597 rfl)) (hn _ (n_in 568 rfl)), List.forall_mem_cons.mpr ⟨ev_str (hts _ (t_in 608 rfl)) (hn _ (n_in 589 rfl)), List.forall_mem_cons.mpr ⟨ev_str (hts _ (t_in 609 rfl)) (hn _ (n_in 614 rfl)), List.forall_mem_cons.mpr ⟨ev_str (hts _ (t_in 610 rfl)) (hn _ (n_in 639 rfl)), List.forall_mem_cons.mpr ⟨ev_str (hts _ (t_in 611 rfl)) (hn _ (n_in 661 rfl)), List.forall_mem_cons.mpr ⟨ev_str (hts _ (t_in 634 rfl)) (hn _ (n_in 707 rfl)), List.forall_mem_cons.mpr ⟨ev_str (hts _ (t_in 635 rfl)) (hn _ (n_in 728 rfl)), List.forall_mem_cons.mpr ⟨ev_str (hts _ (t_in 640 rfl)) (hn _ (n_in 752 rfl)), List.forall_mem_cons.mpr ⟨ev_str (hts _ (t_in 641 rfl)) (hn _ (n_in 789 rfl)), fun _ h => absurd h List.not_mem_nil⟩⟩⟩⟩⟩⟩⟩⟩⟩⟩⟩⟩⟩⟩⟩⟩⟩⟩⟩⟩⟩⟩⟩⟩⟩⟩⟩⟩⟩
  · exact List.forall_mem_cons.mpr ⟨va_Nc.of (hn _ (n_in 10 rfl)), List.forall_mem_cons.mpr ⟨va_Nc.of (hn _ (n_in 11 rfl)), List.forall_mem_cons.mpr ⟨va_Nc.of (hn _ (n_in 18 rfl)), fun _ h => absurd h List.not_mem_nil⟩⟩⟩
set_option maxRecDepth 100000 in
set_option maxHeartbeats 4000000 in
theorem xz_start {s : State} {args : Array Value} (hts : ∀ w ∈ lw_tbl, w.before args s = true) (hn : ∀ w ∈ flatC (Jvm.Cond.and given_1 narrow_1), w.before args s = true) : XZ (fun q => s.heap.size ≤ q) s s.heap :=
  ⟨vx_Zqof (hts _ (t_in 226 rfl)) (hts _ (bg_tbl _ kw_35)) (hn _ (n_in 4 rfl)) (fun a h => Nat.not_le.mpr h), vx_Zqof (hts _ (t_in 228 rfl)) (hts _ (bg_tbl _ kw_35)) (hn _ (n_in 5 rfl)) (fun a h => Nat.not_le.mpr h)⟩

set_option maxHeartbeats 4000000 in
set_option maxRecDepth 100000 in
theorem start_of (Iv : Fm → Lm → Sm → Nat → (Nat → Nat) → Nat → Prop) (hv : LawInv Iv) (hI0 : ∃ q0 : Nat → Nat, Iv F00 (fun _ _ => none) (fun _ => 0) 0 q0 0) (hb0 : s_many F00 0 5 + s_many F00 0 8 = s_many F00 0 6 - s_many F00 0 7) {p : Program} {e : Env} {s : State} {m : MethodId} {below : List Frame} {meth : Method} {c : Code} (l : Launch) (hflags : l.flags = flags0) {b L : Nat} {xs : Nat → Int32} (hL : L ≤ 260) (C0 : lw_At p s m meth c b L xs) : W p l e room_1 s m #[Value.ref b] below meth c s.heap [] 0 0 (lw_Z below #[Value.ref b] s) (entryFrame m ([Value.ref b] : List Value).toArray 12) := by
  obtain ⟨hx, hb, hr, hml, hown, hts, hX, hbl, hlk, hgv⟩ := C0
  have hn := flat_of_before _ hgv
  have hlt : l.stackTraces = false := by unfold Launch.stackTraces; rw [hflags]; decide
  have X : CallFix p m c cL_law 12 s #[Value.ref b] BG RL := ⟨hx, hb, hml, hown, fun w hw => hts w (bg_tbl w hw)⟩
  have hA : ∀ q : Nat, s.heap.size ≤ q → (fun q : Nat => s.heap.size ≤ q) q := fun _ h => h
  have hbA : ¬ (fun q : Nat => s.heap.size ≤ q) b := Nat.not_le.mpr hbl
  have hev : EV s := ev_start hts hn
  have cn : Cn (fun q => s.heap.size ≤ q) s := ⟨fun _ h => h, hev, xz_start hts hn⟩
  obtain ⟨c0, i0, hk0⟩ := u_known (C := RX0) (T := TX0) (N := 7) (n := 7) X.2.2.2.2 in_X0 (X.2.2.2.2 _ kw_118)
  obtain ⟨c1, i1, hk1⟩ := u_known (C := RX1) (T := TX1) (N := 15) (n := 15) X.2.2.2.2 in_X1 (X.2.2.2.2 _ kw_317)
  obtain ⟨c2, i2, hk2⟩ := u_known (C := RX2) (T := TX2) (N := 4) (n := 4) X.2.2.2.2 in_X2 (X.2.2.2.2 _ kw_54)
  obtain ⟨c3, i3, hk3⟩ := u_known (C := RX3) (T := TX3) (N := 7) (n := 7) X.2.2.2.2 in_X3 (X.2.2.2.2 _ kw_81)
  obtain ⟨c4, i4, hk4⟩ := u_known (C := RX4) (T := TX4) (N := 11) (n := 11) X.2.2.2.2 in_X4 (X.2.2.2.2 _ kw_45)
  obtain ⟨D, hKc⟩ : ∃ D : va_G, ∀ (k : Nat) (q : vw_C), vwCl[k]? = some q → u_Kn s q.1 q.2.1 q.2.2 (D.1 k) (D.2 k) := by
    refine ⟨(fun k => if k = 0 then c0 else if k = 1 then c1 else if k = 2 then c2 else if k = 3 then c3 else c4, fun k => if k = 0 then i0 else if k = 1 then i1 else if k = 2 then i2 else if k = 3 then i3 else i4), ?_⟩
    intro k q hq
    match k, hq with
    | 0, hq => cases hq; exact hk0
    | 1, hq => cases hq; exact hk1
    | 2, hq => cases hq; exact hk2
    | 3, hq => cases hq; exact hk3
    | 4, hq => cases hq; exact hk4
    | k + 5, hq => simp at hq
  have hS : va_S (fun q : Nat => s.heap.size ≤ q) s.heap s.heap [] := va_S.rf
  have hK : va_K D vwCl [] s := ⟨hKc, fun k q h => by simp at h⟩
  have hP : va_P D vwCl [] s.heap := fun k q h => by simp at h
  have hD : va_D (fun q : Nat => s.heap.size ≤ q) [] := ⟨fun i j p q h => by simp at h, fun k q h => by simp at h⟩
  have hl := lv_entry ([Value.ref b]) (n := 12) (Nat.le_of_ble_eq_true rfl)
  rw [lg_entry_eq]
  generalize (lg_sl ([Value.ref b]) ++ List.replicate (12 - (lg_sl ([Value.ref b])).length) Slot.unset).toArray = ls at hl ⊢
  have hl : lv_has ls 12 [(0, .ref b)] := hl
  refine va_new (D := D) (ci := 4) (fs := [.null, .null, .null, .int 0, .int 0, .int 0, .int 0, .int 0, .int 0, .null, .null]) (C := RX4) (T := TX4) (N := 11) X.1 X.2.1 X.2.2.2.2 in_X4 tyX4 tyX4_ok X.2.2.2.1 (X.2.2.2.2 _ kw_44) (X.2.2.2.2 _ kw_45) (X.2.2.2.2 _ kw_31) hK hP hD hS hA rfl (fun j hj => by rcases (show j = 0 ∨ j = 1 ∨ j = 2 ∨ j = 3 ∨ j = 4 ∨ j = 5 ∨ j = 6 ∨ j = 7 ∨ j = 8 ∨ j = 9 ∨ j = 10 by omega) with rfl | rfl | rfl | rfl | rfl | rfl | rfl | rfl | rfl | rfl | rfl <;> rfl) (Nat.le_of_ble_eq_true rfl) (Nat.le_of_ble_eq_true rfl) dL_law_0 (fun h0 H hP hD hS => ?_)
  refine lv_dup X.1 X.2.1 dL_law_3 rfl ?_
  have hP : va_P D vwCl [(h0, .inr (4, [.null, .null, .null, .int 0, .int 0, .int 0, .int 0, .int 0, .int 0, .null, .null]))] H := hP
  have hD : va_D (fun q : Nat => s.heap.size ≤ q) [(h0, .inr (4, [.null, .null, .null, .int 0, .int 0, .int 0, .int 0, .int 0, .int 0, .null, .null]))] := hD
  have hFc : ∀ z, va_A [(h0, .inr (4, [.null, .null, .null, .int 0, .int 0, .int 0, .int 0, .int 0, .int 0, .null, .null]))] H.size z → s.heap.size ≤ z := by
    rintro z (⟨k, c, hc⟩ | hz)
    · rcases k with _ | k
      · cases hc; exact hD.2 0 _ rfl
      · simp at hc
    · exact Nat.le_trans hS.1 hz
  have h0sig : ∀ sig, parseMethodDescriptor yX4_init.desc = some sig → 0 = sig.parameters.length := fun sig h => by
    have h2 : (parseMethodDescriptor yX4_init.desc).map (fun d => d.parameters.length) = some 0 := by decide +kernel
    rw [h] at h2; exact (Option.some.inj h2).symm
  refine va_callv (va_runI (As := []) (rest := [.ref h0]) (n := 0) X (c_X4_init l D h0 H.size) ⟨⟨rfl, rfl, Nat.le_of_ble_eq_true rfl, Nat.le_of_ble_eq_true rfl, fun w hw a' U hW => word_at hW (bg_c kw_48 w hw).2 (X.2.2.2.2 _ (bg_c kw_48 w hw).1), List.mem_cons_self, X.2.2.2.2 _ kw_48, X.2.2.2.2 _ kw_31, by decide +kernel, h0sig, X.2.2.2.2 _ kw_46⟩, rfl, X.2.2.2.2 _ kw_47⟩ ⟨fun a U g mk z => by obtain ⟨q0, q1, qP, qK, qD, qE⟩ := z; exact ⟨q0, q1, qP, va_K.moved (u := U) (U := U.calling g mk a) (Vm.Alike.refl U.vm) qK, qD, EV.same (u := U) (U := U.calling g mk a) rfl qE⟩, fun U hU hW => ⟨rfl, by rw [hU], by rw [hU]; exact hP, va_K.moved hW.alike hK, hD.weaken (fun _ _ _ _ => trivial), EV.warm hW hev⟩⟩ rfl rfl hl.1 rfl (lv_room (Nat.le_of_ble_eq_true rfl)) dL_law_4 ⟨Nat.le_of_ble_eq_true rfl, Nat.le_of_ble_eq_true rfl⟩) hS (fun z _ h => hFc z h) hFc (fun u t H1 locs ht hvm hw hB hz1 hk1 hS => ?_)
  obtain ⟨ca, ad⟩ := u
  obtain ⟨rfl, hB⟩ := hB
  have w : Wd D ca ad (fun q => s.heap.size ≤ q) s H1 locs S00 := ⟨by rw [← ht]; exact hB.1, hB.2.2.weaken (fun _ _ _ h => hFc _ h), va_K.moved hvm.symm hB.2.1, hS⟩
  refine lv_astore_n (lv' := [(1, .ref (ad 0)), (0, .ref b)]) X.1 X.2.1 dL_law_7 rfl hl (by decide) rfl (fun ls hl => ?_)
  refine lv_iconst (v := 0) X.1 X.2.1 dL_law_8 (by decide) ?_
  refine lv_istore_n (lv' := [(2, .int 0), (1, .ref (ad 0)), (0, .ref b)]) X.1 X.2.1 dL_law_9 rfl hl (by decide) rfl (fun ls hl => ?_)
  refine lv_iconst (v := 0) X.1 X.2.1 dL_law_10 (by decide) ?_
  refine lv_istore_n (lv' := [(3, .int 0), (2, .int 0), (1, .ref (ad 0)), (0, .ref b)]) X.1 X.2.1 dL_law_11 rfl hl (by decide) rfl (fun ls hl => ?_)
  obtain ⟨q0, hI⟩ := hI0
  refine W.widen (k := 20 + 2 * 0) (n := 200 + 20 * 0) (Nat.le_of_ble_eq_true rfl) (Nat.le_of_ble_eq_true rfl) ?_
  exact law_loop Iv hv X hr hlk cn hlt hL hX hbl hbA 60 0 rfl _ _ _ _ _ q0 ad 0 H1 locs w hI ⟨0, rfl, Nat.le_refl 0⟩ (fun _ => hb0) ls (lv_sub hl [0, 3, 2, 1] rfl)
