/-! ===== the papers' law out of the invariant ===== -/
theorem ofPaper_k {F : Fm} {L : Lm} {S : Sm} {q : Nat → Nat} {o : Nat} : s_ofPaper F L S q o 2 = F o 2 ∧ s_ofPaper F L S q o 3 = F o 3 ∧ s_ofPaper F L S q o 4 = s_fore F L S q o ∧ s_ofPaper F L S q o 5 = s_short F L S q o := by
  unfold s_ofPaper
  refine ⟨?_, ?_, ?_, ?_⟩
  · rw [if_neg (by decide), if_neg (by decide), if_pos (by decide)]
  · rw [if_neg (by decide), if_neg (by decide), if_neg (by decide), if_pos (by decide)]
  · rw [if_neg (by decide), if_neg (by decide), if_neg (by decide), if_neg (by decide), if_pos (by decide)]
  · rw [if_neg (by decide), if_neg (by decide), if_neg (by decide), if_neg (by decide), if_neg (by decide)]
theorem mx_0 (x : Int32) : mx x 0 = mx 0 x := by
  unfold mx
  by_cases h : x < 0
  · rw [if_pos h, if_neg (fun h2 => absurd (Int32.lt_trans h h2) (Int32.lt_irrefl))]
  · rw [if_neg h]
    by_cases h2 : 0 < x
    · rw [if_pos h2]
    · rw [if_neg h2]
      exact Int32.le_antisymm (Int32.not_lt.mp h2) (Int32.not_lt.mp h)
theorem nee_add {F : Fm} {L : Lm} {S : Sm} {t o : Nat} : ∀ (d k : Nat) (a b : Int32), s_nee F L S t o d k (a + b) = a + s_nee F L S t o d k b := by
  intro d
  induction d with
  | zero => intro k a b; rfl
  | succ d ih =>
    intro k a b
    unfold s_nee
    cases L o k with
    | none => exact ih (k + 1) a b
    | some j =>
      show s_nee F L S t o d (k + 1) (if 2 + S j = t then a + b + s_needed F o j else a + b) = a + s_nee F L S t o d (k + 1) (if 2 + S j = t then b + s_needed F o j else b)
      by_cases h : 2 + S j = t
      · rw [if_pos h, if_pos h, Int32.add_assoc, ih]
      · rw [if_neg h, if_neg h, ih]
theorem neeP_nee {F : Fm} {L : Lm} {S : Sm} {n t p o : Nat} {q : Nat → Nat} (h : Inv F L S n q t) (ho : 6 ≤ o ∧ o < 10) (hp : p < 4) : ∀ (d k : Nat) (a : Int32), k + d = q o → s_neeP F L S (nI p) o d k a = s_nee F L S (2 + p) o d k a := by
  intro d
  induction d with
  | zero => intro k a _; rfl
  | succ d ih =>
    intro k a hk
    obtain ⟨j, hj, e⟩ := h.full ho (k := k) (by omega)
    have hlf := h.lf
    have hn20 := hlf.1.1
    have hqa := queue_at h ho (by omega) e
    unfold s_neeP s_nee
    rw [hqa, cl_nI (by omega), ih (k + 1) _ (by omega), e, ofJob_0, (hlf.2.2 j hj).2.1, expected_k.1]
    have hS := hlf.1.2.2.1 j hj
    show s_nee F L S (2 + p) o d (k + 1) (a + if nI (S j) = nI p then s_needed F o j else 0) = s_nee F L S (2 + p) o d (k + 1) (if 2 + S j = 2 + p then a + s_needed F o j else a)
    by_cases hh : S j = p
    · rw [if_pos (by rw [hh]), if_pos (by omega)]
    · rw [if_neg (by rw [nI_eq (by omega) (by omega)]; exact hh), if_neg (by omega), Int32.add_zero]
theorem Inv.jq {F : Fm} {L : Lm} {S : Sm} {n t : Nat} {q : Nat → Nat} (h : Inv F L S n q t) (b1 : Int32) (hb : b1 = 0 ∨ s_many F n 5 + s_many F n 8 = s_many F n 6 - s_many F n 7) : jq_all F L S n q b1 := by
  have hw : s_many F n 8 = jq_worth F L S q := by
    rw [many_k.2.2.2.2.2.2.2.1]
    unfold jq_worth s_worthS
    rw [show 2 + (0 : Int32).toNatClampNeg = 2 from by decide, show 2 + (1 : Int32).toNatClampNeg = 3 from by decide, show 2 + (2 : Int32).toNatClampNeg = 4 from by decide, show 2 + (3 : Int32).toNatClampNeg = 5 from by decide]
    simp only [ofPaper_k.1, ofPaper_k.2.1]
  refine ⟨fun P hP => ?_, hw, ?_⟩
  · obtain ⟨p, hp, e1, e2⟩ := er_p hP
    unfold jq_ok
    rw [e2]
    obtain ⟨wi, hi, pr, sk, -, -, -, ⟨h3, s1⟩⟩ := h.2.2.2.1 (2 + p) (by omega) (by omega)
    rw [ofPaper_k.2.1, ofPaper_k.2.2.1, ofPaper_k.2.2.2, h3]
    refine ⟨nI_pos (by omega), nI_nlt (a := 99999) s1 (by omega), ?_, ?_⟩
    · unfold s_short
      rw [h3, mx_0]
    · rw [show 6 + (0 : Int32).toNatClampNeg = 6 from by decide, show 6 + (1 : Int32).toNatClampNeg = 7 from by decide, show 6 + (2 : Int32).toNatClampNeg = 8 from by decide, e1]
      rw [neeP_nee h (by omega) hp _ _ _ (Nat.zero_add _), neeP_nee h (by omega) hp _ _ _ (Nat.zero_add _), neeP_nee h (by omega) hp _ _ _ (Nat.zero_add _)]
      unfold s_fore s_neededOf
      have h7 := nee_add (F := F) (L := L) (S := S) (t := 2 + p) (o := 7) (q 7) 0 (s_nee F L S (2 + p) 6 (q 6) 0 0) 0
      have h8 := nee_add (F := F) (L := L) (S := S) (t := 2 + p) (o := 8) (q 8) 0 (s_nee F L S (2 + p) 6 (q 6) 0 0 + s_nee F L S (2 + p) 7 (q 7) 0 0) 0
      rw [Int32.add_zero] at h7 h8
      rw [h7, h8, Int32.zero_add]
  · rcases hb with hb | hb
    · exact Or.inl hb
    · exact Or.inr (by rw [← hw]; exact hb)
