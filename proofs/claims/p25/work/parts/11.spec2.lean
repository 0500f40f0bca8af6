theorem in_lit {x : Int32} {N : Nat} (h : 0 ≤ x.toInt ∧ x.toInt < N) : vp_in x N := vp_in_iff.mpr h
/-! ===== expectations, queues, the ledger: what they answer ===== -/
def s_spoiled (F : Fm) (o j : Nat) : Int32 := s_sheets F j * F o 4 / 1000 + 5 * s_passes F o j
def s_needed (F : Fm) (o j : Nat) : Int32 := s_sheets F j + s_spoiled F o j
def s_running (F : Fm) (o j : Nat) : Int64 := (s_needed F o j).toInt64 * (F o 3).toInt64 * (s_passes F o j).toInt64 / 1000
def s_minutes (F : Fm) (o j : Nat) (inks : Int32) : Int32 := s_change F j inks + F o 2 * s_passes F o j + (s_running F o j).toInt32
def s_cost (F : Fm) (S : Sm) (o j : Nat) (inks : Int32) : Int32 := s_minutes F o j inks * F 0 5 + s_ink F j + s_needed F o j * F (2 + S j) 2
def s_quote (F : Fm) (S : Sm) (o j : Nat) (inks : Int32) : Int32 := ((s_cost F S o j inks).toInt64 * (100 + F 0 6).toInt64 / 100).toInt32
def s_exp (E : Em) (F : Fm) (S : Sm) (o j : Nat) (inks : Int32) : Em := up1 (up1 (up1 (up1 (up1 (up1 (up1 E 0 (s_passes F o j)) 1 (s_change F j inks)) 2 (s_spoiled F o j)) 3 (s_needed F o j)) 4 (s_minutes F o j inks)) 5 (s_cost F S o j inks)) 6 (s_quote F S o j inks)
/-- the whole class's own order: as many jobs as it counts, papers 0 to 3, lines of jobs that are, each as long as it says -/
def Wf (F : Fm) (L : Lm) (S : Sm) (n : Nat) (q : Nat → Nat) : Prop := n ≤ 20 ∧ (F 0 3 = nI n ∧ L 16 = aJb n) ∧ (∀ j, j < n → S j < 4) ∧ ∀ o, 6 ≤ o ∧ o < 10 → F o 6 = nI (q o) ∧ q o ≤ 20 ∧ ∀ k j, L o k = some j → j < n
theorem Wf.job {F : Fm} {L : Lm} {S : Sm} {n : Nat} {q : Nat → Nat} (h : Wf F L S n q) {o : Nat} (ho : 6 ≤ o ∧ o < 10) {k j : Nat} (hk : L o k = some j) : j < n := (h.2.2.2 o ho).2.2 k j hk
theorem cl_nI {k : Nat} (h : k < 2 ^ 31) : (nI k).toNatClampNeg = k := nI_clamp h
theorem jobAt_nI {F : Fm} {L : Lm} {o k w : Nat} (hw : F o 6 = nI w) (h20 : w ≤ 20) (hk : k < w) : s_jobAt F L o (nI k) = L o k := by
  unfold s_jobAt
  rw [if_neg (nI_pos (by omega)), hw, if_neg (by rw [nI_leI (by omega) (by omega)]; omega), if_pos (by rw [show (20 : Int32) = nI 20 from rfl, nI_ltI (by omega) (by omega)]; omega), cl_nI (by omega)]
theorem jobAt_out {F : Fm} {L : Lm} {o k w : Nat} (hw : F o 6 = nI w) (h20 : w ≤ 20) (hk : w ≤ k) (hk2 : k < 2 ^ 31) : s_jobAt F L o (nI k) = none := by
  unfold s_jobAt
  rw [if_neg (nI_pos hk2), hw, if_pos (by rw [nI_leI (by omega) (by omega)]; omega)]
theorem jobAt_of {F : Fm} {L : Lm} {o j : Nat} {x : Int32} (h : s_jobAt F L o x = some j) : L o x.toNatClampNeg = some j := by
  unfold s_jobAt at h
  split at h
  · cases h
  · split at h
    · cases h
    · split at h
      · exact h
      · cases h
def s_nee (F : Fm) (L : Lm) (S : Sm) (t o : Nat) : Nat → Nat → Int32 → Int32
  | 0, _, a => a
  | d + 1, k, a => s_nee F L S t o d (k + 1) (match L o k with
    | none => a
    | some j => if 2 + S j = t then a + s_needed F o j else a)
def s_neededOf (F : Fm) (L : Lm) (S : Sm) (q : Nat → Nat) (t o : Nat) : Int32 := s_nee F L S t o (q o) 0 0
def s_fore (F : Fm) (L : Lm) (S : Sm) (q : Nat → Nat) (t : Nat) : Int32 := 0 + s_neededOf F L S q t 6 + s_neededOf F L S q t 7 + s_neededOf F L S q t 8
def s_short (F : Fm) (L : Lm) (S : Sm) (q : Nat → Nat) (t : Nat) : Int32 := mx (s_fore F L S q t - F t 3) 0
def s_min (F : Fm) (L : Lm) (o : Nat) : Nat → Nat → Int32 → Int32 → Int32
  | 0, _, a, _ => a
  | d + 1, k, a, i => match L o k with
    | none => s_min F L o d (k + 1) a i
    | some j => s_min F L o d (k + 1) (a + s_minutes F o j i) (F (17 + j) 4)
def s_minQ (F : Fm) (L : Lm) (q : Nat → Nat) (o : Nat) : Int32 := s_min F L o (q o) 0 0 (F o 1)
def s_cnt (F : Fm) (n : Nat) (st : Int32) : Nat → Nat → Int32 → Int32
  | 0, _, a => a
  | d + 1, k, a => s_cnt F n st d (k + 1) (if k < n then (if F (17 + k) 8 = st then a + 1 else a) else a)
def s_sum (F : Fm) (n f : Nat) : Nat → Nat → Int32 → Int32
  | 0, _, a => a
  | d + 1, k, a => s_sum F n f d (k + 1) (if k < n then a + F (17 + k) f else a)
def s_count (F : Fm) (n : Nat) (st : Int32) : Int32 := s_cnt F n st 20 0 0
def s_total (F : Fm) (n f : Nat) : Int32 := s_sum F n f 20 0 0
def s_worthS (F : Fm) : Int32 := 0 + F 2 3 * F 2 2 + F 3 3 * F 3 2 + F 4 3 * F 4 2 + F 5 3 * F 5 2
def s_bring (F : Fm) (t : Nat) (lots : Int32) : Fm := up2 (up2 F t 3 (F t 3 + lots * 250)) 0 4 (up2 F t 3 (F t 3 + lots * 250) 0 4 - lots * 250 * up2 F t 3 (F t 3 + lots * 250) t 2)
def s_lots (F : Fm) (L : Lm) (S : Sm) (q : Nat → Nat) (t : Nat) : Int32 := mn (mn (s_divUp (s_short F L S q t) 250) 40) (s_room F t)
def s_buyF (F : Fm) (L : Lm) (S : Sm) (q : Nat → Nat) (t : Nat) : Fm := s_bring F t (s_lots F L S q t)
theorem ge20 {k d : Nat} (h : k + d = 20) : (20 : Int32) ≤ nI k ↔ d = 0 := by
  rw [show (20 : Int32) = nI 20 from rfl, nI_leI (by omega) (by omega)]
  omega
theorem geN {k d w : Nat} (h : k + d = w) (hw : w ≤ 20) : nI w ≤ nI k ↔ d = 0 := by
  rw [nI_leI (by omega) (by omega)]
  omega
theorem in20 {k d : Nat} (h : k + (d + 1) = 20) : vp_in (nI k) 20 := vp_in_nI (by omega) (by omega)
/-- numbers that the order doesn't speak of may change -/
theorem Wf.up {F : Fm} {L : Lm} {S : Sm} {n : Nat} {q : Nat → Nat} (h : Wf F L S n q) {o k : Nat} {v : Int32} (h0 : ¬ (o = 0 ∧ k = 3)) (h1 : ¬ ((6 ≤ o ∧ o < 10) ∧ k = 6)) : Wf (up2 F o k v) L S n q := by
  refine ⟨h.1, ⟨?_, h.2.1.2⟩, h.2.2.1, fun a ha => ⟨?_, (h.2.2.2 a ha).2⟩⟩
  · by_cases e : (0 : Nat) = o
    · subst e
      rw [up2_o (by omega)]; exact h.2.1.1
    · rw [up2_ne e]; exact h.2.1.1
  · by_cases e : a = o
    · subst e
      rw [up2_o (by omega)]; exact (h.2.2.2 a ha).1
    · rw [up2_ne e]; exact (h.2.2.2 a ha).1
theorem Wf.buy {F : Fm} {L : Lm} {S : Sm} {n : Nat} {q : Nat → Nat} (h : Wf F L S n q) {t : Nat} (ht : 2 ≤ t ∧ t < 6) {x : Int32} : Wf (s_bring F t x) L S n q :=
  (h.up (by omega) (by omega)).up (by omega) (by omega)
