/-! ===== the jobs' law out of the invariant ===== -/
theorem ofJob_k {F : Fm} {j : Nat} : s_ofJob F j 1 = F (17 + j) 3 ∧ s_ofJob F j 3 = F (17 + j) 5 ∧ s_ofJob F j 5 = F (17 + j) 7 ∧ s_ofJob F j 6 = F (17 + j) 8 ∧ s_ofJob F j 7 = F (17 + j) 10 ∧ s_ofJob F j 8 = s_sheets F j ∧ s_ofJob F j 9 = F (17 + j) 11 ∧ s_ofJob F j 10 = F (17 + j) 12 ∧ s_ofJob F j 11 = F (17 + j) 13 ∧ s_ofJob F j 12 = F (17 + j) 9 ∧ s_ofJob F j 2 = F (17 + j) 4 := by
  unfold s_ofJob
  refine ⟨?_, ?_, ?_, ?_, ?_, ?_, ?_, ?_, ?_, ?_, ?_⟩
  · rw [if_neg (by decide), if_pos (by decide)]
  · rw [if_neg (by decide), if_neg (by decide), if_neg (by decide), if_pos (by decide)]
  · rw [if_neg (by decide), if_neg (by decide), if_neg (by decide), if_neg (by decide), if_neg (by decide), if_pos (by decide)]
  · rw [if_neg (by decide), if_neg (by decide), if_neg (by decide), if_neg (by decide), if_neg (by decide), if_neg (by decide), if_pos (by decide)]
  · rw [if_neg (by decide), if_neg (by decide), if_neg (by decide), if_neg (by decide), if_neg (by decide), if_neg (by decide), if_neg (by decide), if_pos (by decide)]
  · rw [if_neg (by decide), if_neg (by decide), if_neg (by decide), if_neg (by decide), if_neg (by decide), if_neg (by decide), if_neg (by decide), if_neg (by decide), if_pos (by decide)]
  · rw [if_neg (by decide), if_neg (by decide), if_neg (by decide), if_neg (by decide), if_neg (by decide), if_neg (by decide), if_neg (by decide), if_neg (by decide), if_neg (by decide), if_pos (by decide)]
  · rw [if_neg (by decide), if_neg (by decide), if_neg (by decide), if_neg (by decide), if_neg (by decide), if_neg (by decide), if_neg (by decide), if_neg (by decide), if_neg (by decide), if_neg (by decide), if_pos (by decide)]
  · rw [if_neg (by decide), if_neg (by decide), if_neg (by decide), if_neg (by decide), if_neg (by decide), if_neg (by decide), if_neg (by decide), if_neg (by decide), if_neg (by decide), if_neg (by decide), if_neg (by decide), if_pos (by decide)]
  · rw [if_neg (by decide), if_neg (by decide), if_neg (by decide), if_neg (by decide), if_neg (by decide), if_neg (by decide), if_neg (by decide), if_neg (by decide), if_neg (by decide), if_neg (by decide), if_neg (by decide), if_neg (by decide)]
  · rw [if_neg (by decide), if_neg (by decide), if_pos (by decide)]
theorem mkP_nat {F : Fm} {L : Lm} {S : Sm} {n t i r o : Nat} {q : Nat → Nat} (h : Inv F L S n q t) (ho : 6 ≤ o ∧ o < 10) (hi : i < n) {ℓ : List Nat} (hL : ∀ k, L o k = ℓ[k]?) (hq : q o = ℓ.length) : ∀ (d k a : Nat), k + d = ℓ.length → s_mkP F L (nI i) (nI r) o d k (nI a) = nI (a + (if F (17 + i) 9 = nI r then (ℓ.drop k).count i else 0)) := by
  intro d
  induction d with
  | zero =>
    intro k a hk
    rw [List.drop_eq_nil_of_le (by omega)]
    show nI a = _
    simp
  | succ d ih =>
    intro k a hk
    have hkl : k < ℓ.length := by omega
    have hn20 := h.1
    obtain ⟨j, hj, e⟩ := h.full ho (k := k) (by omega)
    have hqa := queue_at h ho (by omega) e
    have hjl : ℓ[k] = j := by
      have h2 := hL k
      rw [e, List.getElem?_eq_getElem hkl] at h2
      exact (Option.some.inj h2).symm
    unfold s_mkP
    rw [hqa, List.drop_eq_getElem_cons hkl, hjl, List.count_cons, cl_nI (by omega), ofJob_k.2.2.2.2.2.2.2.2.2.1]
    by_cases hji : j = i
    · subst hji
      rw [if_pos rfl]
      by_cases hr : F (17 + j) 9 = nI r
      · rw [if_pos hr, nI_1, ih (k + 1) (a + 1) (by omega), if_pos hr, if_pos hr]
        simp
        congr 1; omega
      · rw [if_neg hr, Int32.add_zero, ih (k + 1) a (by omega), if_neg hr, if_neg hr]
    · rw [if_neg (by rw [nI_eq (by omega) (by omega)]; exact hji), Int32.add_zero, ih (k + 1) a (by omega)]
      simp [hji]
theorem tly_nat {F : Fm} {S : Sm} {n v : Nat} (hjb : ∀ j, j < n → jbR (F (17 + j)) (S j) j) (hv : v < 4) (hn : n ≤ 20) : ∀ (d k a : Nat) (f : Nat → Int32), k + d = n → f v = nI (a + nst (g8 F) (nI v) k) → s_tly F d k f v = nI (a + nst (g8 F) (nI v) n) := by
  intro d
  induction d with
  | zero => intro k a f hk hf; rw [Nat.add_zero] at hk; subst hk; exact hf
  | succ d ih =>
    intro k a f hk hf
    obtain ⟨co, ik, li, mu, le, qu, st, -, -, -, -, -, ⟨h8, s1⟩, -⟩ := hjb k (by omega)
    unfold s_tly
    refine ih (k + 1) a _ (by omega) ?_
    rw [cl_nI (by omega), ofJob_k.2.2.2.1, h8, cl_nI (by omega)]
    have e3 : nst (g8 F) (nI v) (k + 1) = nst (g8 F) (nI v) k + (if F (17 + k) 8 = nI v then 1 else 0) := rfl
    rw [e3, h8]
    by_cases hs : st = v
    · subst hs
      rw [if_pos rfl]
      unfold upd
      rw [if_pos rfl, hf, nI_1]
      congr 1
    · rw [if_neg (by rw [nI_eq (by omega) (by omega)]; exact hs)]
      unfold upd
      rw [if_neg (fun e => hs e.symm), hf, Nat.add_zero]
theorem sum_out {F : Fm} {n f : Nat} : ∀ (d k : Nat) (a : Int32), n ≤ k → s_sum F n f d k a = a := by
  intro d
  induction d with
  | zero => intro k a _; rfl
  | succ d ih =>
    intro k a hk
    unfold s_sum
    rw [if_neg (by omega)]
    exact ih (k + 1) a (by omega)
theorem spd_sum {F : Fm} {n : Nat} (hn : n ≤ 20) (e : Nat) : ∀ (d k : Nat) (a : Int32), k + d = n → s_spd F d k a = s_sum F n 12 (d + e) k a ∧ s_bil F d k a = s_sum F n 13 (d + e) k a := by
  intro d
  induction d with
  | zero => intro k a hk; exact ⟨(sum_out _ _ _ (by omega)).symm, (sum_out _ _ _ (by omega)).symm⟩
  | succ d ih =>
    intro k a hk
    rw [show d + 1 + e = (d + e) + 1 by omega]
    unfold s_spd s_bil s_sum
    rw [if_pos (by omega), if_pos (by omega), cl_nI (by omega), ofJob_k.2.2.2.2.2.2.2.1, ofJob_k.2.2.2.2.2.2.2.2.1]
    exact ⟨(ih (k + 1) _ (by omega)).1, (ih (k + 1) _ (by omega)).2⟩
theorem best_nat {F : Fm} {S : Sm} {j a b c : Nat} (ha : s_cost F S 6 j (F 6 1) = nI a) (hb : s_cost F S 7 j (F 7 1) = nI b) (hc : s_cost F S 8 j (F 8 1) = nI c) (ha2 : a ≤ 540000) (hb2 : b ≤ 540000) (hc2 : c ≤ 540000) : (s_best F S j = nI 0 ∧ a ≤ b ∧ a ≤ c) ∨ (s_best F S j = nI 1 ∧ b ≤ a ∧ b ≤ c) ∨ (s_best F S j = nI 2 ∧ c ≤ a ∧ c ≤ b) := by
  unfold s_best
  rw [ha, hb, hc]
  have h0 : s_bs (0, 2147483647) 0 (nI a) = (0, nI a) := by
    unfold s_bs
    rw [if_neg (by exact nI_ge (b := 2147483647) (by omega) (by omega))]
  rw [h0]
  have hs : ∀ (k x y z : Int32) (m w : Nat), m < 2 ^ 31 → w < 2 ^ 31 → s_bs (x, nI m) k (nI w) = if m ≤ w then (x, nI m) else (k, nI w) := fun k x y z m w hm hw => by
    unfold s_bs
    by_cases h : m ≤ w
    · rw [if_pos h, if_pos (nI_le h hw)]
    · rw [if_neg h, if_neg (nI_ge (by omega) hm)]
  rw [hs 1 0 0 0 a b (by omega) (by omega)]
  by_cases h1 : a ≤ b
  · rw [if_pos h1, hs 2 0 0 0 a c (by omega) (by omega)]
    by_cases h2 : a ≤ c
    · rw [if_pos h2]; exact Or.inl ⟨rfl, h1, h2⟩
    · rw [if_neg h2]; exact Or.inr (Or.inr ⟨rfl, by omega, by omega⟩)
  · rw [if_neg h1, hs 2 1 0 0 b c (by omega) (by omega)]
    by_cases h2 : b ≤ c
    · rw [if_pos h2]; exact Or.inr (Or.inl ⟨rfl, by omega, h2⟩)
    · rw [if_neg h2]; exact Or.inr (Or.inr ⟨rfl, by omega, by omega⟩)
