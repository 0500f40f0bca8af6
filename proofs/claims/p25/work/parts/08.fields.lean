/-! ===== a row a kind of object ===== -/
theorem lt17 {o n : Nat} (h : o < 17) : o < 17 + n := by omega
theorem cJob_set {ad : Nat → Nat} {F : Fm} {sh o k : Nat} {v : Int32} (hk : k < 15 ∧ k ≠ 2) : (cJob ad F sh o).set k (.int v) = cJob ad (up2 F o k v) sh o := by
  rcases (show k = 0 ∨ k = 1 ∨ k = 3 ∨ k = 4 ∨ k = 5 ∨ k = 6 ∨ k = 7 ∨ k = 8 ∨ k = 9 ∨ k = 10 ∨ k = 11 ∨ k = 12 ∨ k = 13 ∨ k = 14 by omega) with rfl | rfl | rfl | rfl | rfl | rfl | rfl | rfl | rfl | rfl | rfl | rfl | rfl | rfl <;> simp [cJob, up2]
theorem cPrs_set {ad : Nat → Nat} {F : Fm} {o k : Nat} {v : Int32} (hk : k < 7 ∧ k ≠ 5) : (cPrs ad F o).set k (.int v) = cPrs ad (up2 F o k v) o := by
  rcases (show k = 0 ∨ k = 1 ∨ k = 2 ∨ k = 3 ∨ k = 4 ∨ k = 6 by omega) with rfl | rfl | rfl | rfl | rfl | rfl <;> simp [cPrs, up2]
theorem cPap_set {F : Fm} {o k : Nat} {v : Int32} (hk : k < 4) : (cPap F o).set k (.int v) = cPap (up2 F o k v) o := by
  rcases (show k = 0 ∨ k = 1 ∨ k = 2 ∨ k = 3 by omega) with rfl | rfl | rfl | rfl <;> simp [cPap, up2]
theorem cLed_set {ad : Nat → Nat} {F : Fm} {k : Nat} {v : Int32} (hk : 3 ≤ k ∧ k < 9) : (cLed ad F).set k (.int v) = cLed ad (up2 F 0 k v) := by
  rcases (show k = 3 ∨ k = 4 ∨ k = 5 ∨ k = 6 ∨ k = 7 ∨ k = 8 by omega) with rfl | rfl | rfl | rfl | rfl | rfl <;> simp [cLed, up2]
theorem cExp_set {E : Em} {k : Nat} {v : Int32} (hk : k < 7) : (cExp E).set k (.int v) = cExp (up1 E k v) := by
  rcases (show k = 0 ∨ k = 1 ∨ k = 2 ∨ k = 3 ∨ k = 4 ∨ k = 5 ∨ k = 6 by omega) with rfl | rfl | rfl | rfl | rfl | rfl | rfl <;> simp [cExp, up1]
section FieldRows
variable {p : Program} {l : Launch} {e : Env} {R : Room} {s : State} {m : MethodId} {args : Array Value} {below : List Frame} {meth : Method} {c : Code} {H : Heap} {locs : List Loc} {cells slots : Nat} {Q : State → Prop}
variable {cc : ByteArray} {pc nL index : Nat} {ls : Array Slot} {rest : List Value} {own host : String} {D : va_G} {ca : Nat → ClassId} {ad : Nat → Nat} {A : Nat → Prop} {E : Em} {F : Fm} {L : Lm} {S : Sm} {n : Nat}
theorem g_J (X : CallFix p m c cc nL s args BG own) (w : Wd D ca ad A s H locs (E, F, L, S, n)) {j : Nat} (hj : j < n) (k : Nat) (hk : k < 15) {v : Value} (hv : (cJob ad F (S j) (17 + j))[k]? = some v) (hlink : Cond.fieldLink own index RX1 (TX1 k).2.1 (TX1 k).2.2.1 ∈ BG) (hdg : decode cc pc = .ok (.getfield index, 3))
    (kk : W p l e R s m args below meth c H locs cells slots Q (F0 m (pc + 3) ls (v :: rest))) : W p l e R s m args below meth c H locs cells slots Q (F0 m pc ls (.ref (ad (17 + j)) :: rest)) :=
  w_get X w (Nat.add_lt_add_left hj 17) wC_J rfl in_X1 k hk (de_X1 k hk) hv hlink hdg kk
theorem gn_J (X : CallFix p m c cc nL s args BG own) (cn : Cn A s) (w : Wd D ca ad A s H locs (E, F, L, S, n)) {j : Nat} (hj : j < n) (k : Nat) (hk : k < 15) {v : Value} (hv : (cJob ad F (S j) (17 + j))[k]? = some v) (hlink : Cond.fieldLinkNest own index RX1 (TX1 k).2.1 (TX1 k).2.2.1 host ∈ EW) (hdg : decode cc pc = .ok (.getfield index, 3))
    (kk : W p l e R s m args below meth c H locs cells slots Q (F0 m (pc + 3) ls (v :: rest))) : W p l e R s m args below meth c H locs cells slots Q (F0 m pc ls (.ref (ad (17 + j)) :: rest)) :=
  w_getN X cn w (Nat.add_lt_add_left hj 17) wC_J rfl in_X1 k hk (de_X1 k hk) hv hlink hdg kk
theorem g_R (X : CallFix p m c cc nL s args BG own) (w : Wd D ca ad A s H locs (E, F, L, S, n)) {o : Nat} (ho : 6 ≤ o ∧ o < 10) (k : Nat) (hk : k < 7) {v : Value} (hv : (cPrs ad F o)[k]? = some v) (hlink : Cond.fieldLink own index RX3 (TX3 k).2.1 (TX3 k).2.2.1 ∈ BG) (hdg : decode cc pc = .ok (.getfield index, 3))
    (kk : W p l e R s m args below meth c H locs cells slots Q (F0 m (pc + 3) ls (v :: rest))) : W p l e R s m args below meth c H locs cells slots Q (F0 m pc ls (.ref (ad o) :: rest)) :=
  w_get X w (lt17 (by omega)) (wC_R ho.1 ho.2) rfl in_X3 k hk (de_X3 k hk) hv hlink hdg kk
theorem gn_R (X : CallFix p m c cc nL s args BG own) (cn : Cn A s) (w : Wd D ca ad A s H locs (E, F, L, S, n)) {o : Nat} (ho : 6 ≤ o ∧ o < 10) (k : Nat) (hk : k < 7) {v : Value} (hv : (cPrs ad F o)[k]? = some v) (hlink : Cond.fieldLinkNest own index RX3 (TX3 k).2.1 (TX3 k).2.2.1 host ∈ EW) (hdg : decode cc pc = .ok (.getfield index, 3))
    (kk : W p l e R s m args below meth c H locs cells slots Q (F0 m (pc + 3) ls (v :: rest))) : W p l e R s m args below meth c H locs cells slots Q (F0 m pc ls (.ref (ad o) :: rest)) :=
  w_getN X cn w (lt17 (by omega)) (wC_R ho.1 ho.2) rfl in_X3 k hk (de_X3 k hk) hv hlink hdg kk
theorem g_P (X : CallFix p m c cc nL s args BG own) (w : Wd D ca ad A s H locs (E, F, L, S, n)) {o : Nat} (ho : 2 ≤ o ∧ o < 6) (k : Nat) (hk : k < 4) {v : Value} (hv : (cPap F o)[k]? = some v) (hlink : Cond.fieldLink own index RX2 (TX2 k).2.1 (TX2 k).2.2.1 ∈ BG) (hdg : decode cc pc = .ok (.getfield index, 3))
    (kk : W p l e R s m args below meth c H locs cells slots Q (F0 m (pc + 3) ls (v :: rest))) : W p l e R s m args below meth c H locs cells slots Q (F0 m pc ls (.ref (ad o) :: rest)) :=
  w_get X w (lt17 (by omega)) (wC_P ho.1 ho.2) rfl in_X2 k hk (de_X2 k hk) hv hlink hdg kk
theorem gn_P (X : CallFix p m c cc nL s args BG own) (cn : Cn A s) (w : Wd D ca ad A s H locs (E, F, L, S, n)) {o : Nat} (ho : 2 ≤ o ∧ o < 6) (k : Nat) (hk : k < 4) {v : Value} (hv : (cPap F o)[k]? = some v) (hlink : Cond.fieldLinkNest own index RX2 (TX2 k).2.1 (TX2 k).2.2.1 host ∈ EW) (hdg : decode cc pc = .ok (.getfield index, 3))
    (kk : W p l e R s m args below meth c H locs cells slots Q (F0 m (pc + 3) ls (v :: rest))) : W p l e R s m args below meth c H locs cells slots Q (F0 m pc ls (.ref (ad o) :: rest)) :=
  w_getN X cn w (lt17 (by omega)) (wC_P ho.1 ho.2) rfl in_X2 k hk (de_X2 k hk) hv hlink hdg kk
theorem g_L (X : CallFix p m c cc nL s args BG own) (w : Wd D ca ad A s H locs (E, F, L, S, n)) (k : Nat) (hk : k < 11) {v : Value} (hv : (cLed ad F)[k]? = some v) (hlink : Cond.fieldLink own index RX4 (TX4 k).2.1 (TX4 k).2.2.1 ∈ BG) (hdg : decode cc pc = .ok (.getfield index, 3))
    (kk : W p l e R s m args below meth c H locs cells slots Q (F0 m (pc + 3) ls (v :: rest))) : W p l e R s m args below meth c H locs cells slots Q (F0 m pc ls (.ref (ad 0) :: rest)) :=
  w_get X w (lt17 (by omega)) wC_0 rfl in_X4 k hk (de_X4 k hk) hv hlink hdg kk
theorem gn_E (X : CallFix p m c cc nL s args BG own) (cn : Cn A s) (w : Wd D ca ad A s H locs (E, F, L, S, n)) (k : Nat) (hk : k < 7) {v : Value} (hv : (cExp E)[k]? = some v) (hlink : Cond.fieldLinkNest own index RX0 (TX0 k).2.1 (TX0 k).2.2.1 host ∈ EW) (hdg : decode cc pc = .ok (.getfield index, 3))
    (kk : W p l e R s m args below meth c H locs cells slots Q (F0 m (pc + 3) ls (v :: rest))) : W p l e R s m args below meth c H locs cells slots Q (F0 m pc ls (.ref (ad 1) :: rest)) :=
  w_getN X cn w (lt17 (by omega)) wC_1 rfl in_X0 k hk (de_X0 k hk) hv hlink hdg kk
theorem p_J (X : CallFix p m c cc nL s args BG own) (w : Wd D ca ad A s H locs (E, F, L, S, n)) {j : Nat} (hj : j < n) (k : Nat) (hk : k < 15 ∧ k ≠ 2) (hfin : (TX1 k).2.2.2 = false) {ty : FieldType} (hpt : parseFieldDescriptor (TX1 k).2.2.1 = some ty) {v : Int32} (hn : narrow ty (.int v) = .int v) (hfit : fits ty (.int v) = true) (hlink : Cond.fieldLink own index RX1 (TX1 k).2.1 (TX1 k).2.2.1 ∈ BG) (hdg : decode cc pc = .ok (.putfield index, 3))
    (kk : ∀ (H1 : Heap) (locs1 : List Loc), Wd D ca ad A s H1 locs1 (E, up2 F (17 + j) k v, L, S, n) → W p l e R s m args below meth c H1 locs1 cells slots Q (F0 m (pc + 3) ls rest)) : W p l e R s m args below meth c H locs cells slots Q (F0 m pc ls (.int v :: .ref (ad (17 + j)) :: rest)) :=
  w_put X w _ (Nat.add_lt_add_left hj 17) wC_J rfl in_X1 tyX1 tyX1_ok nmX1 k hk.1 (de_X1 k hk.1) (wl_F (by rw [wC_J, cJob_set hk])) hfin hpt hn hfit (by simp only [cJob, List.length_cons, List.length_nil]; omega) hlink hdg kk
theorem pn_J (X : CallFix p m c cc nL s args BG own) (cn : Cn A s) (w : Wd D ca ad A s H locs (E, F, L, S, n)) {j : Nat} (hj : j < n) (k : Nat) (hk : k < 15 ∧ k ≠ 2) (hfin : (TX1 k).2.2.2 = false) {ty : FieldType} (hpt : parseFieldDescriptor (TX1 k).2.2.1 = some ty) {v : Int32} (hn : narrow ty (.int v) = .int v) (hfit : fits ty (.int v) = true) (hlink : Cond.fieldLinkNest own index RX1 (TX1 k).2.1 (TX1 k).2.2.1 host ∈ EW) (hdg : decode cc pc = .ok (.putfield index, 3))
    (kk : ∀ (H1 : Heap) (locs1 : List Loc), Wd D ca ad A s H1 locs1 (E, up2 F (17 + j) k v, L, S, n) → W p l e R s m args below meth c H1 locs1 cells slots Q (F0 m (pc + 3) ls rest)) : W p l e R s m args below meth c H locs cells slots Q (F0 m pc ls (.int v :: .ref (ad (17 + j)) :: rest)) :=
  w_putN X cn w _ (Nat.add_lt_add_left hj 17) wC_J rfl in_X1 tyX1 tyX1_ok nmX1 k hk.1 (de_X1 k hk.1) (wl_F (by rw [wC_J, cJob_set hk])) hfin hpt hn hfit (by simp only [cJob, List.length_cons, List.length_nil]; omega) hlink hdg kk
theorem p_R (X : CallFix p m c cc nL s args BG own) (w : Wd D ca ad A s H locs (E, F, L, S, n)) {o : Nat} (ho : 6 ≤ o ∧ o < 10) (k : Nat) (hk : k < 7 ∧ k ≠ 5) (hfin : (TX3 k).2.2.2 = false) (hpt : parseFieldDescriptor (TX3 k).2.2.1 = some .int) {v : Int32} (hlink : Cond.fieldLink own index RX3 (TX3 k).2.1 (TX3 k).2.2.1 ∈ BG) (hdg : decode cc pc = .ok (.putfield index, 3))
    (kk : ∀ (H1 : Heap) (locs1 : List Loc), Wd D ca ad A s H1 locs1 (E, up2 F o k v, L, S, n) → W p l e R s m args below meth c H1 locs1 cells slots Q (F0 m (pc + 3) ls rest)) : W p l e R s m args below meth c H locs cells slots Q (F0 m pc ls (.int v :: .ref (ad o) :: rest)) :=
  w_put X w _ (lt17 (by omega)) (wC_R ho.1 ho.2) rfl in_X3 tyX3 tyX3_ok nmX3 k hk.1 (de_X3 k hk.1) (wl_F (by rw [wC_R ho.1 ho.2, cPrs_set hk])) hfin hpt rfl rfl (by simp only [cPrs, List.length_cons, List.length_nil]; omega) hlink hdg kk
theorem pn_R (X : CallFix p m c cc nL s args BG own) (cn : Cn A s) (w : Wd D ca ad A s H locs (E, F, L, S, n)) {o : Nat} (ho : 6 ≤ o ∧ o < 10) (k : Nat) (hk : k < 7 ∧ k ≠ 5) (hfin : (TX3 k).2.2.2 = false) (hpt : parseFieldDescriptor (TX3 k).2.2.1 = some .int) {v : Int32} (hlink : Cond.fieldLinkNest own index RX3 (TX3 k).2.1 (TX3 k).2.2.1 host ∈ EW) (hdg : decode cc pc = .ok (.putfield index, 3))
    (kk : ∀ (H1 : Heap) (locs1 : List Loc), Wd D ca ad A s H1 locs1 (E, up2 F o k v, L, S, n) → W p l e R s m args below meth c H1 locs1 cells slots Q (F0 m (pc + 3) ls rest)) : W p l e R s m args below meth c H locs cells slots Q (F0 m pc ls (.int v :: .ref (ad o) :: rest)) :=
  w_putN X cn w _ (lt17 (by omega)) (wC_R ho.1 ho.2) rfl in_X3 tyX3 tyX3_ok nmX3 k hk.1 (de_X3 k hk.1) (wl_F (by rw [wC_R ho.1 ho.2, cPrs_set hk])) hfin hpt rfl rfl (by simp only [cPrs, List.length_cons, List.length_nil]; omega) hlink hdg kk
theorem pn_P (X : CallFix p m c cc nL s args BG own) (cn : Cn A s) (w : Wd D ca ad A s H locs (E, F, L, S, n)) {o : Nat} (ho : 2 ≤ o ∧ o < 6) (k : Nat) (hk : k < 4) (hfin : (TX2 k).2.2.2 = false) (hpt : parseFieldDescriptor (TX2 k).2.2.1 = some .int) {v : Int32} (hlink : Cond.fieldLinkNest own index RX2 (TX2 k).2.1 (TX2 k).2.2.1 host ∈ EW) (hdg : decode cc pc = .ok (.putfield index, 3))
    (kk : ∀ (H1 : Heap) (locs1 : List Loc), Wd D ca ad A s H1 locs1 (E, up2 F o k v, L, S, n) → W p l e R s m args below meth c H1 locs1 cells slots Q (F0 m (pc + 3) ls rest)) : W p l e R s m args below meth c H locs cells slots Q (F0 m pc ls (.int v :: .ref (ad o) :: rest)) :=
  w_putN X cn w _ (lt17 (by omega)) (wC_P ho.1 ho.2) rfl in_X2 tyX2 tyX2_ok nmX2 k hk (de_X2 k hk) (wl_F (by rw [wC_P ho.1 ho.2, cPap_set hk])) hfin hpt rfl rfl (by simp only [cPap, List.length_cons, List.length_nil]; omega) hlink hdg kk
theorem p_L (X : CallFix p m c cc nL s args BG own) (w : Wd D ca ad A s H locs (E, F, L, S, n)) (k : Nat) (hk : 3 ≤ k ∧ k < 9) (hfin : (TX4 k).2.2.2 = false) (hpt : parseFieldDescriptor (TX4 k).2.2.1 = some .int) {v : Int32} (hlink : Cond.fieldLink own index RX4 (TX4 k).2.1 (TX4 k).2.2.1 ∈ BG) (hdg : decode cc pc = .ok (.putfield index, 3))
    (kk : ∀ (H1 : Heap) (locs1 : List Loc), Wd D ca ad A s H1 locs1 (E, up2 F 0 k v, L, S, n) → W p l e R s m args below meth c H1 locs1 cells slots Q (F0 m (pc + 3) ls rest)) : W p l e R s m args below meth c H locs cells slots Q (F0 m pc ls (.int v :: .ref (ad 0) :: rest)) :=
  w_put X w _ (lt17 (by omega)) wC_0 rfl in_X4 tyX4 tyX4_ok nmX4 k (by omega) (de_X4 k (by omega)) (wl_F (by rw [wC_0, cLed_set hk])) hfin hpt rfl rfl (by simp only [cLed, List.length_cons, List.length_nil]; omega) hlink hdg kk
theorem pn_E (X : CallFix p m c cc nL s args BG own) (cn : Cn A s) (w : Wd D ca ad A s H locs (E, F, L, S, n)) (k : Nat) (hk : k < 7) (hfin : (TX0 k).2.2.2 = false) (hpt : parseFieldDescriptor (TX0 k).2.2.1 = some .int) {v : Int32} (hlink : Cond.fieldLinkNest own index RX0 (TX0 k).2.1 (TX0 k).2.2.1 host ∈ EW) (hdg : decode cc pc = .ok (.putfield index, 3))
    (kk : ∀ (H1 : Heap) (locs1 : List Loc), Wd D ca ad A s H1 locs1 (up1 E k v, F, L, S, n) → W p l e R s m args below meth c H1 locs1 cells slots Q (F0 m (pc + 3) ls rest)) : W p l e R s m args below meth c H locs cells slots Q (F0 m pc ls (.int v :: .ref (ad 1) :: rest)) :=
  w_putN X cn w _ (lt17 (by omega)) wC_1 rfl in_X0 tyX0 tyX0_ok nmX0 k hk (de_X0 k hk) (by rw [cExp_set hk]; exact wl_E) hfin hpt rfl rfl (by simp only [cExp, List.length_cons, List.length_nil]; omega) hlink hdg kk
/-- a place of a press's line -/
theorem wt_L {o : Nat} (ho : 6 ≤ o ∧ o < 10) : (wt ca)[o - 6]? = some (ca (o + 4), .object RX1) := by
  rcases (show o = 6 ∨ o = 7 ∨ o = 8 ∨ o = 9 by omega) with rfl | rfl | rfl | rfl <;> rfl
theorem ld_L (X : CallFix p m c cc nL s args BG own) (w : Wd D ca ad A s H locs (E, F, L, S, n)) {o : Nat} (ho : 6 ≤ o ∧ o < 10) {i : Int32} (hin : vp_in i 20) (hdg : decode cc pc = .ok (.aaload, 1))
    (kk : W p l e R s m args below meth c H locs cells slots Q (F0 m (pc + 1) ls (va_rf ((L o i.toNatClampNeg).map (fun j => ad (17 + j))) :: rest))) : W p l e R s m args below meth c H locs cells slots Q (F0 m pc ls (.int i :: .ref (ad (o + 4)) :: rest)) :=
  w_ald X w (lt17 (by omega)) (wC_L ho.1 ho.2) (wt_L ho) hin hdg kk
theorem len_L (X : CallFix p m c cc nL s args BG own) (w : Wd D ca ad A s H locs (E, F, L, S, n)) {o : Nat} (ho : 6 ≤ o ∧ o < 10) (hdg : decode cc pc = .ok (.arraylength, 1))
    (kk : W p l e R s m args below meth c H locs cells slots Q (F0 m (pc + 1) ls (.int 20 :: rest))) : W p l e R s m args below meth c H locs cells slots Q (F0 m pc ls (.ref (ad (o + 4)) :: rest)) :=
  w_alen X w (lt17 (by omega)) (wC_L ho.1 ho.2) (wt_L ho) rfl hdg kk
theorem upL_map {ad : Nat → Nat} {L : Lm} {o k : Nat} {r : Option Nat} : va_up (aLin ad (L o)) k (r.map (fun j => ad (17 + j))) = aLin ad (upL L o k r o) := by
  funext x
  simp only [va_up, aLin, upL, if_true]
  by_cases h : x = k <;> simp [h]
theorem st_L (X : CallFix p m c cc nL s args BG own) (w : Wd D ca ad A s H locs (E, F, L, S, n)) {o : Nat} (ho : 6 ≤ o ∧ o < 10) (r : Option Nat) (hr : ∀ j, r = some j → j < n) {i : Int32} (hin : vp_in i 20) (hdg : decode cc pc = .ok (.aastore, 1))
    (kk : ∀ (H1 : Heap) (locs1 : List Loc), Wd D ca ad A s H1 locs1 (E, F, upL L o i.toNatClampNeg r, S, n) → W p l e R s m args below meth c H1 locs1 cells slots Q (F0 m (pc + 1) ls rest)) : W p l e R s m args below meth c H locs cells slots Q (F0 m pc ls (va_rf (r.map (fun j => ad (17 + j))) :: .int i :: .ref (ad (o + 4)) :: rest)) := by
  have hset : (wl ca ad (E, F, L, S, n)).set (o + 4) (ad (o + 4), aRow (ca (o + 4)) 20 (va_up (aLin ad (L o)) i.toNatClampNeg (r.map (fun j => ad (17 + j))))) = wl ca ad (E, F, upL L o i.toNatClampNeg r, S, n) := by
    rw [upL_map]
    exact wl_L ho.1 ho.2 (fun q hq => by funext x; simp only [upL, if_neg hq])
  cases r with
  | none =>
    refine va_astqN X.1 X.2.1 w.2.2.1 w.1 w.2.1 w.2.2.2 (o + 4) (o - 6) (by rw [wl_at (lt17 (by omega)), wC_L ho.1 ho.2]) (wt_L ho) hin hdg (fun H1 locs1 hP hD hS => kk H1 locs1 ?_)
    have hset' : (wl ca ad (E, F, L, S, n)).set (o + 4) (ad (o + 4), aRow (ca (o + 4)) 20 (va_up (aLin ad (L o)) i.toNatClampNeg none)) = wl ca ad (E, F, upL L o i.toNatClampNeg none, S, n) := hset
    have hP : va_P D vwCl ((wl ca ad (E, F, L, S, n)).set (o + 4) (ad (o + 4), aRow (ca (o + 4)) 20 (va_up (aLin ad (L o)) i.toNatClampNeg none))) H1 := hP
    have hD : va_D A ((wl ca ad (E, F, L, S, n)).set (o + 4) (ad (o + 4), aRow (ca (o + 4)) 20 (va_up (aLin ad (L o)) i.toNatClampNeg none))) := hD
    rw [hset'] at hP hD
    exact ⟨hP, hD, w.2.2.1, hS⟩
  | some j =>
    refine va_astq X.1 X.2.1 w.2.2.1 w.1 w.2.1 w.2.2.2 (o + 4) (o - 6) (17 + j) 1 (r := (RX1, TX1, 15)) (by rw [wl_at (lt17 (by omega)), wC_L ho.1 ho.2]) (wt_L ho) (by rw [wl_at (Nat.add_lt_add_left (hr j rfl) 17), wC_J]) rfl hin hdg (fun H1 locs1 hP hD hS => kk H1 locs1 ?_)
    have hset' : (wl ca ad (E, F, L, S, n)).set (o + 4) (ad (o + 4), aRow (ca (o + 4)) 20 (va_up (aLin ad (L o)) i.toNatClampNeg (some (ad (17 + j))))) = wl ca ad (E, F, upL L o i.toNatClampNeg (some j), S, n) := hset
    have hP : va_P D vwCl ((wl ca ad (E, F, L, S, n)).set (o + 4) (ad (o + 4), aRow (ca (o + 4)) 20 (va_up (aLin ad (L o)) i.toNatClampNeg (some (ad (17 + j)))))) H1 := hP
    have hD : va_D A ((wl ca ad (E, F, L, S, n)).set (o + 4) (ad (o + 4), aRow (ca (o + 4)) 20 (va_up (aLin ad (L o)) i.toNatClampNeg (some (ad (17 + j)))))) := hD
    rw [hset'] at hP hD
    exact ⟨hP, hD, w.2.2.1, hS⟩
theorem st_J (X : CallFix p m c cc nL s args BG own) (w : Wd D ca ad A s H locs (E, F, L, S, n)) {j : Nat} (hj : j < n) {i : Int32} (hin : vp_in i 20) (hdg : decode cc pc = .ok (.aastore, 1))
    (kk : ∀ (H1 : Heap) (locs1 : List Loc), Wd D ca ad A s H1 locs1 (E, F, upL L 16 i.toNatClampNeg (some j), S, n) → W p l e R s m args below meth c H1 locs1 cells slots Q (F0 m (pc + 1) ls rest)) : W p l e R s m args below meth c H locs cells slots Q (F0 m pc ls (.ref (ad (17 + j)) :: .int i :: .ref (ad 16) :: rest)) := by
  refine va_astq X.1 X.2.1 w.2.2.1 w.1 w.2.1 w.2.2.2 16 6 (17 + j) 1 (r := (RX1, TX1, 15)) (by rw [wl_at (lt17 (by omega)), wC_16]) rfl (by rw [wl_at (Nat.add_lt_add_left hj 17), wC_J]) rfl hin hdg (fun H1 locs1 hP hD hS => kk H1 locs1 ?_)
  have hset : (wl ca ad (E, F, L, S, n)).set 16 (ad 16, aRow (ca 16) 20 (va_up (aLin ad (L 16)) i.toNatClampNeg (some (ad (17 + j))))) = wl ca ad (E, F, upL L 16 i.toNatClampNeg (some j), S, n) := by
    have h := upL_map (ad := ad) (L := L) (o := 16) (k := i.toNatClampNeg) (r := some j)
    simp only [Option.map_some] at h
    rw [h]
    exact wl_L16 (fun q hq => by funext x; simp only [upL, if_neg hq])
  have hP : va_P D vwCl ((wl ca ad (E, F, L, S, n)).set 16 (ad 16, aRow (ca 16) 20 (va_up (aLin ad (L 16)) i.toNatClampNeg (some (ad (17 + j)))))) H1 := hP
  have hD : va_D A ((wl ca ad (E, F, L, S, n)).set 16 (ad 16, aRow (ca 16) 20 (va_up (aLin ad (L 16)) i.toNatClampNeg (some (ad (17 + j)))))) := hD
  rw [hset] at hP hD
  exact ⟨hP, hD, w.2.2.1, hS⟩
/-- the rows of papers, presses, jobs -/
theorem ld_P (X : CallFix p m c cc nL s args BG own) (w : Wd D ca ad A s H locs (E, F, L, S, n)) {i : Int32} (hin : vp_in i 4) (hdg : decode cc pc = .ok (.aaload, 1))
    (kk : W p l e R s m args below meth c H locs cells slots Q (F0 m (pc + 1) ls (.ref (ad (2 + i.toNatClampNeg)) :: rest))) : W p l e R s m args below meth c H locs cells slots Q (F0 m pc ls (.int i :: .ref (ad 14) :: rest)) :=
  by
  have h : i.toNatClampNeg < 4 := by unfold vp_in at hin; omega
  refine w_ald X w (lt17 (by omega)) wC_14 (t0 := 4) rfl hin hdg ?_
  rw [show va_rf (aPap ad i.toNatClampNeg) = .ref (ad (2 + i.toNatClampNeg)) from by simp only [aPap, if_pos h, va_rf]]
  exact kk
theorem ld_R (X : CallFix p m c cc nL s args BG own) (w : Wd D ca ad A s H locs (E, F, L, S, n)) {i : Int32} (hin : vp_in i 3) (hdg : decode cc pc = .ok (.aaload, 1))
    (kk : W p l e R s m args below meth c H locs cells slots Q (F0 m (pc + 1) ls (.ref (ad (6 + i.toNatClampNeg)) :: rest))) : W p l e R s m args below meth c H locs cells slots Q (F0 m pc ls (.int i :: .ref (ad 15) :: rest)) :=
  by
  have h : i.toNatClampNeg < 3 := by unfold vp_in at hin; omega
  refine w_ald X w (lt17 (by omega)) wC_15 (t0 := 5) rfl hin hdg ?_
  rw [show va_rf (aPrs ad i.toNatClampNeg) = .ref (ad (6 + i.toNatClampNeg)) from by simp only [aPrs, if_pos h, va_rf]]
  exact kk
theorem ld_J (X : CallFix p m c cc nL s args BG own) (w : Wd D ca ad A s H locs (E, F, L, S, n)) {i : Int32} (hin : vp_in i 20) (hdg : decode cc pc = .ok (.aaload, 1))
    (kk : W p l e R s m args below meth c H locs cells slots Q (F0 m (pc + 1) ls (va_rf ((L 16 i.toNatClampNeg).map (fun j => ad (17 + j))) :: rest))) : W p l e R s m args below meth c H locs cells slots Q (F0 m pc ls (.int i :: .ref (ad 16) :: rest)) :=
  w_ald X w (lt17 (by omega)) wC_16 (t0 := 6) rfl hin hdg kk
theorem len_P (X : CallFix p m c cc nL s args BG own) (w : Wd D ca ad A s H locs (E, F, L, S, n)) (hdg : decode cc pc = .ok (.arraylength, 1))
    (kk : W p l e R s m args below meth c H locs cells slots Q (F0 m (pc + 1) ls (.int 4 :: rest))) : W p l e R s m args below meth c H locs cells slots Q (F0 m pc ls (.ref (ad 14) :: rest)) :=
  w_alen X w (lt17 (by omega)) wC_14 (t0 := 4) rfl rfl hdg kk
theorem len_R (X : CallFix p m c cc nL s args BG own) (w : Wd D ca ad A s H locs (E, F, L, S, n)) (hdg : decode cc pc = .ok (.arraylength, 1))
    (kk : W p l e R s m args below meth c H locs cells slots Q (F0 m (pc + 1) ls (.int 3 :: rest))) : W p l e R s m args below meth c H locs cells slots Q (F0 m pc ls (.ref (ad 15) :: rest)) :=
  w_alen X w (lt17 (by omega)) wC_15 (t0 := 5) rfl rfl hdg kk
theorem len_J (X : CallFix p m c cc nL s args BG own) (w : Wd D ca ad A s H locs (E, F, L, S, n)) (hdg : decode cc pc = .ok (.arraylength, 1))
    (kk : W p l e R s m args below meth c H locs cells slots Q (F0 m (pc + 1) ls (.int 20 :: rest))) : W p l e R s m args below meth c H locs cells slots Q (F0 m pc ls (.ref (ad 16) :: rest)) :=
  w_alen X w (lt17 (by omega)) wC_16 (t0 := 6) rfl rfl hdg kk
end FieldRows
