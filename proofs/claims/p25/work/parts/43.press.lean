/-! ===== the invariant gives the class's order and the presses' law ===== -/
theorem er_o {r : Int32} (h : erI 3 r = 0) : ∃ k : Nat, k < 3 ∧ r = nI k ∧ r.toNatClampNeg = k := by
  obtain ⟨k, hk, rfl⟩ := vp_in_of (in_erI h) (by decide)
  exact ⟨k, hk, rfl, cl_nI (by omega)⟩
theorem er_p {r : Int32} (h : erI 4 r = 0) : ∃ k : Nat, k < 4 ∧ r = nI k ∧ r.toNatClampNeg = k := by
  obtain ⟨k, hk, rfl⟩ := vp_in_of (in_erI h) (by decide)
  exact ⟨k, hk, rfl, cl_nI (by omega)⟩
theorem qu_mem {F : Fm} {L : Lm} {n o k j : Nat} {Q : Nat → List Nat} (ho : 6 ≤ o) (ho2 : o < 9) (hL : ∀ k, L o k = (Q o)[k]?) (hc : ∀ j, (Q o).count j = if j < n ∧ F (17 + j) 8 = 1 ∧ F (17 + j) 9 = nI (o - 6) then 1 else 0) (h : L o k = some j) : j < n ∧ F (17 + j) 8 = 1 ∧ F (17 + j) 9 = nI (o - 6) := by
  rw [hL] at h
  have hm : j ∈ Q o := List.mem_of_getElem? h
  have h1 := List.count_pos_iff.mpr hm
  rw [hc j] at h1
  by_cases hh : j < n ∧ F (17 + j) 8 = 1 ∧ F (17 + j) 9 = nI (o - 6)
  · exact hh
  · rw [if_neg hh] at h1; omega
theorem Inv.lf {F : Fm} {L : Lm} {S : Sm} {n t : Nat} {q : Nat → Nat} (h : Inv F L S n q t) : Lf F L S n q := by
  obtain ⟨hn, hJ, hjb, -, -, -, Q, hQ, hQ9, hc, hsum⟩ := h
  have hle : nst (g8 F) 1 n ≤ n := nst_le
  have hq9 : q 9 = 0 := by rw [(hQ 9 (by omega)).2.1, hQ9]; rfl
  have hq : ∀ o, 6 ≤ o ∧ o < 10 → q o ≤ 20 := fun o ho => by
    rcases (show o = 6 ∨ o = 7 ∨ o = 8 ∨ o = 9 by omega) with rfl | rfl | rfl | rfl <;> omega
  have hS : ∀ j, j < n → S j < 4 := fun j hj => by
    obtain ⟨_, _, _, _, _, _, _, ⟨-, -, h⟩, -⟩ := hjb j hj
    exact h
  refine ⟨⟨hn, hJ, hS, fun o ho => ⟨(hQ o ho).2.2, hq o ho, fun k j hk => ?_⟩⟩, fun o ho k hk => ?_, fun j hj => ?_⟩
  · rcases Nat.lt_or_ge o 9 with h9 | h9
    · exact (qu_mem ho.1 h9 (hQ o ho).1 (hc o ho.1 h9) hk).1
    · obtain rfl : o = 9 := by omega
      rw [(hQ 9 ho).1, hQ9] at hk
      simp at hk
  · rw [(hQ o ho).1, List.getElem?_eq_getElem (by rw [← (hQ o ho).2.1]; exact hk)]
    simp
  · obtain ⟨co, ik, li, mu, le, qu, st, ⟨h0, h1, h2⟩, -, -, ⟨h5, l1, l2⟩, -, ⟨h8, s1⟩, -⟩ := hjb j hj
    exact ⟨h0, h1, by rw [h8]; exact vp_in_nI s1 (by decide), by rw [h5]; exact nI_ne0 l1 (by omega)⟩
theorem min_in {F : Fm} {L : Lm} {S : Sm} {n o : Nat} (hp : prR (F o)) (hjb : ∀ j, j < n → jbR (F (17 + j)) (S j) j) : ∀ (d k x : Nat) (i : Int32), x + d * 16200 < 2 ^ 30 → (∀ y, y < d → ∃ j, j < n ∧ L o (k + y) = some j) → ∃ y : Nat, s_min F L o d k (nI x) i = nI y ∧ x ≤ y ∧ y ≤ x + d * 16200 := by
  intro d
  induction d with
  | zero => intro k x i _ _; exact ⟨x, rfl, Nat.le_refl _, by omega⟩
  | succ d ih =>
    intro k x i hx hL
    obtain ⟨j, hj, e⟩ := hL 0 (by omega)
    rw [Nat.add_zero] at e
    obtain ⟨sh, pa, ch, ne, mi, -, -, -, -, hmi, -, -, -, -, m1, m2⟩ := ex_all (hjb j hj) hp i
    obtain ⟨y, h1, h2, h3⟩ := ih (k + 1) (x + mi) (F (17 + j) 4) (by omega) (fun y hy => by
      have := hL (y + 1) (by omega)
      rw [show k + (y + 1) = k + 1 + y by omega] at this
      exact this)
    refine ⟨y, ?_, by omega, by omega⟩
    show (match L o k with
      | none => s_min F L o d (k + 1) (nI x) i
      | some j => s_min F L o d (k + 1) (nI x + s_minutes F o j i) (F (17 + j) 4)) = _
    rw [e]
    show s_min F L o d (k + 1) (nI x + s_minutes F o j i) (F (17 + j) 4) = _
    rw [hmi, nI_add, h1]
theorem ofPress_k {F : Fm} {L : Lm} {q : Nat → Nat} {o : Nat} : s_ofPress F L q o 0 = F o 0 ∧ s_ofPress F L q o 2 = F o 2 ∧ s_ofPress F L q o 3 = F o 3 ∧ s_ofPress F L q o 4 = F o 4 ∧ s_ofPress F L q o 6 = s_minQ F L q o := by
  unfold s_ofPress
  refine ⟨?_, ?_, ?_, ?_, ?_⟩
  · rw [if_pos (by decide)]
  · rw [if_neg (by decide), if_neg (by decide), if_pos (by decide)]
  · rw [if_neg (by decide), if_neg (by decide), if_neg (by decide), if_pos (by decide)]
  · rw [if_neg (by decide), if_neg (by decide), if_neg (by decide), if_neg (by decide), if_pos (by decide)]
  · rw [if_neg (by decide), if_neg (by decide), if_neg (by decide), if_neg (by decide), if_neg (by decide), if_neg (by decide)]
theorem expected_k {F : Fm} {S : Sm} {j o : Nat} : s_expected F S j o 3 = s_needed F o j ∧ s_expected F S j o 4 = s_minutes F o j (F o 1) ∧ s_expected F S j o 5 = s_cost F S o j (F o 1) ∧ s_expected F S j o 6 = s_quote F S o j (F o 1) ∧ s_expected F S j o 1 = s_change F j (F o 1) := by
  unfold s_expected
  refine ⟨?_, ?_, ?_, ?_, ?_⟩
  · rw [if_neg (by decide), if_neg (by decide), if_neg (by decide), if_pos (by decide)]
  · rw [if_neg (by decide), if_neg (by decide), if_neg (by decide), if_neg (by decide), if_pos (by decide)]
  · rw [if_neg (by decide), if_neg (by decide), if_neg (by decide), if_neg (by decide), if_neg (by decide), if_pos (by decide)]
  · rw [if_neg (by decide), if_neg (by decide), if_neg (by decide), if_neg (by decide), if_neg (by decide), if_neg (by decide)]
  · rw [if_neg (by decide), if_pos (by decide)]
theorem many_k {F : Fm} {n : Nat} : s_many F n 1 = s_count F n 0 ∧ s_many F n 2 = s_count F n 1 ∧ s_many F n 3 = s_count F n 2 ∧ s_many F n 4 = s_count F n 3 ∧ s_many F n 5 = F 0 4 ∧ s_many F n 6 = s_total F n 13 ∧ s_many F n 7 = s_total F n 12 ∧ s_many F n 8 = s_worthS F ∧ s_many F n 9 = F 0 7 ∧ s_many F n 10 = F 0 8 := by
  unfold s_many
  refine ⟨?_, ?_, ?_, ?_, ?_, ?_, ?_, ?_, ?_, ?_⟩
  · rw [if_neg (by decide), if_pos (by decide)]
  · rw [if_neg (by decide), if_neg (by decide), if_pos (by decide)]
  · rw [if_neg (by decide), if_neg (by decide), if_neg (by decide), if_pos (by decide)]
  · rw [if_neg (by decide), if_neg (by decide), if_neg (by decide), if_neg (by decide), if_pos (by decide)]
  · rw [if_neg (by decide), if_neg (by decide), if_neg (by decide), if_neg (by decide), if_neg (by decide), if_pos (by decide)]
  · rw [if_neg (by decide), if_neg (by decide), if_neg (by decide), if_neg (by decide), if_neg (by decide), if_neg (by decide), if_pos (by decide)]
  · rw [if_neg (by decide), if_neg (by decide), if_neg (by decide), if_neg (by decide), if_neg (by decide), if_neg (by decide), if_neg (by decide), if_pos (by decide)]
  · rw [if_neg (by decide), if_neg (by decide), if_neg (by decide), if_neg (by decide), if_neg (by decide), if_neg (by decide), if_neg (by decide), if_neg (by decide), if_pos (by decide)]
  · rw [if_neg (by decide), if_neg (by decide), if_neg (by decide), if_neg (by decide), if_neg (by decide), if_neg (by decide), if_neg (by decide), if_neg (by decide), if_neg (by decide), if_pos (by decide)]
  · rw [if_neg (by decide), if_neg (by decide), if_neg (by decide), if_neg (by decide), if_neg (by decide), if_neg (by decide), if_neg (by decide), if_neg (by decide), if_neg (by decide), if_neg (by decide)]
theorem Inv.full {F : Fm} {L : Lm} {S : Sm} {n t : Nat} {q : Nat → Nat} (h : Inv F L S n q t) {o : Nat} (ho : 6 ≤ o ∧ o < 10) {k : Nat} (hk : k < q o) : ∃ j, j < n ∧ L o k = some j := by
  have hlf := h.lf
  cases e : L o k with
  | none => exact absurd e (hlf.2.1 o ho k hk)
  | some j => exact ⟨j, (hlf.1.2.2.2 o ho).2.2 k j e, rfl⟩
theorem queue_at {F : Fm} {L : Lm} {S : Sm} {n t : Nat} {q : Nat → Nat} (h : Inv F L S n q t) {o k j : Nat} (ho : 6 ≤ o ∧ o < 10) (hk : k < q o) (e : L o k = some j) : s_queue F L o (nI k) = nI j := by
  have hlf := h.lf
  obtain ⟨w1, w2, w3⟩ := hlf.1.2.2.2 o ho
  unfold s_queue
  rw [jobAt_nI w1 w2 hk, e]
  exact (hlf.2.2 j (w3 k j e)).1
theorem Inv.jp {F : Fm} {L : Lm} {S : Sm} {n t : Nat} {q : Nat → Nat} (h : Inv F L S n q t) (ht : t ≤ 60) : jp_all F L S n q := by
  have hlf := h.lf
  have h0 := h
  obtain ⟨hn, hJ, hjb, hpp, hpr, hsh, Q, hQ, hQ9, hc, hsum⟩ := h
  refine ⟨fun r hr => ?_, ?_, ?_, ?_⟩
  · obtain ⟨k, hk, -, er⟩ := er_o hr
    unfold jp_ok
    have hp := hpr (6 + r.toNatClampNeg) (by omega) (by omega)
    have ho : 6 ≤ 6 + r.toNatClampNeg ∧ 6 + r.toNatClampNeg < 10 := by omega
    generalize 6 + r.toNatClampNeg = o at *
    obtain ⟨w1, w2, w3⟩ := hlf.1.2.2.2 o ho
    obtain ⟨k0, k2, k3, k4, k6⟩ := @ofPress_k F L q o
    have hp' := hp
    obtain ⟨to, re, ru, sp, ⟨p0, t1, t2⟩, ⟨p2, r1, r2⟩, ⟨p3, u1, u2⟩, ⟨p4, s1⟩⟩ := hp'
    have hmin : (q o = 0 ∧ s_minQ F L q o = 0) ∨ (0 < q o ∧ ∃ (j m y : Nat), L o 0 = some j ∧ s_minutes F o j (F o 1) = nI m ∧ m ≤ y ∧ 1 ≤ m ∧ y < 2 ^ 30 ∧ s_minQ F L q o = nI y) := by
      rcases Nat.eq_zero_or_pos (q o) with hq | hq
      · left; refine ⟨hq, ?_⟩
        unfold s_minQ; rw [hq]; rfl
      · right; refine ⟨hq, ?_⟩
        obtain ⟨j, hj, e⟩ := h0.full ho hq
        obtain ⟨sh, pa, ch, ne, mi, -, -, -, -, hmi, -, -, -, -, m1, m2⟩ := ex_all (hjb j hj) hp (F o 1)
        obtain ⟨d, hd⟩ : ∃ d, q o = d + 1 := ⟨q o - 1, by omega⟩
        obtain ⟨y, h1, h2, h3⟩ := min_in hp hjb d 1 mi (F (17 + j) 4) (by omega) (fun y hy => h0.full ho (by omega))
        refine ⟨j, mi, y, e, hmi, by omega, m1, by omega, ?_⟩
        unfold s_minQ
        rw [hd]
        show (match L o 0 with
          | none => s_min F L o d 1 0 (F o 1)
          | some j => s_min F L o d 1 (0 + s_minutes F o j (F o 1)) (F (17 + j) 4)) = _
        rw [e]
        show s_min F L o d 1 (0 + s_minutes F o j (F o 1)) (F (17 + j) 4) = _
        rw [hmi, show (0 : Int32) = nI 0 from rfl, nI_add, Nat.zero_add, h1]
    rw [k0, k2, k3, k4, k6, ofPress_5, w1, p0, p2, p3, p4]
    refine ⟨nI_nlt (b := 1) r1 (by omega), nI_le (b := 999) r2 (by omega), nI_nlt (b := 1) u1 (by omega), nI_le (b := 999) u2 (by omega), nI_nlt (b := 1) t1 (by omega), nI_nlt (a := 4) t2 (by omega), nI_pos (by omega), nI_nlt (a := 999) s1 (by omega), ?_, ?_⟩
    · rcases hmin with ⟨hq, hm⟩ | ⟨hq, j, m, y, -, -, b1, b2, b3, hm⟩
      · rw [hq, hm]; exact ⟨fun _ => rfl, fun _ => rfl⟩
      · rw [hm]
        exact ⟨fun h => absurd h (nI_ne0 hq (by omega)), fun h => absurd h (nI_ne0 (by omega) (by omega))⟩
    · rcases hmin with ⟨hq, hm⟩ | ⟨hq, j, m, y, e, hmi, b1, b2, b3, hm⟩
      · left; rw [hq]; exact Int32.le_refl _
      · right
        rw [hm, expected_k.2.1]
        have hqa := queue_at h0 ho hq e
        have hj : j < n := w3 0 j e
        rw [show (0 : Int32) = nI 0 from rfl, hqa, cl_nI (by omega), hmi]
        exact nI_le b1 (by omega)
  · obtain ⟨w6, -⟩ := hlf.1.2.2.2 6 (by omega)
    obtain ⟨w7, -⟩ := hlf.1.2.2.2 7 (by omega)
    obtain ⟨w8, -⟩ := hlf.1.2.2.2 8 (by omega)
    rw [show 6 + (0 : Int32).toNatClampNeg = 6 from by decide, show 6 + (1 : Int32).toNatClampNeg = 7 from by decide, show 6 + (2 : Int32).toNatClampNeg = 8 from by decide, ofPress_5, ofPress_5, ofPress_5, w6, w7, w8, many_k.2.1, count_nst hn, ← hsum, show (0 : Int32) = nI 0 from rfl, nI_add, nI_add, nI_add, Nat.zero_add]
  · obtain ⟨wa, mg, mt, sp, -, -, ⟨h7, m1, m2⟩, -⟩ := hsh
    rw [many_k.2.2.1, many_k.2.2.2.1, many_k.2.2.2.2.2.2.2.2.1, count_nst hn, count_nst hn, h7, nI_add]
    exact nI_nlt m2 (by omega)
  · obtain ⟨wa, mg, mt, sp, -, -, -, h8, m1⟩ := hsh
    rw [many_k.2.2.2.2.2.2.2.2.2, h8]
    exact nI_pos (by omega)
