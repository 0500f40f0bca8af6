/-! ===== the pure side: numbers ===== -/
theorem pu_and {a : Nat} (ha : a ≤ 15) (y : Int32) : ∃ c : Nat, c ≤ 15 ∧ nI a &&& y = nI c := by
  have h : (nI a &&& y).toBitVec.toNat ≤ a := by
    have h1 : (nI a &&& y).toBitVec = (nI a).toBitVec &&& y.toBitVec := rfl
    rw [h1, BitVec.toNat_and]
    have h2 : (nI a).toBitVec.toNat = a := pk_tn (by omega)
    rw [h2]
    exact Nat.and_le_left
  refine ⟨(nI a &&& y).toBitVec.toNat, Nat.le_trans h ha, ?_⟩
  have h3 := pk_and (nI a &&& y) (m := -1) 32 (by decide)
  have h4 : (nI a &&& y).toBitVec.toNat % 2 ^ 32 = (nI a &&& y).toBitVec.toNat := Nat.mod_eq_of_lt (by omega)
  rw [h4] at h3
  rw [← h3]
  exact (Int32.and_neg_one).symm
theorem pu_bit {a : Nat} (ha : a ≤ 15) : ∃ c : Nat, c ≤ 4 ∧ (a ≠ 0 → 1 ≤ c) ∧ bitC (nI a) = nI c := by
  have h : ∀ a : Fin 16, ∃ c : Fin 5, (a.val ≠ 0 → 1 ≤ c.val) ∧ bitC (nI a.val) = nI c.val := by decide +kernel
  obtain ⟨c, h1, h2⟩ := h ⟨a, by omega⟩
  exact ⟨c.val, by omega, h1, h2⟩
theorem pu_mx (a b : Nat) (ha : a < 2 ^ 31) (hb : b < 2 ^ 31) : mx (nI a) (nI b) = nI (max a b) := by
  unfold mx
  by_cases h : a < b
  · rw [if_pos (nI_lt h hb), Nat.max_eq_right (Nat.le_of_lt h)]
  · rw [if_neg (by rw [nI_ltI ha hb]; exact h), Nat.max_eq_left (by omega)]
theorem pu_mn (a b : Nat) (ha : a < 2 ^ 31) (hb : b < 2 ^ 31) : mn (nI a) (nI b) = nI (min a b) := by
  unfold mn
  by_cases h : b < a
  · rw [if_pos (nI_lt h ha), Nat.min_eq_right (Nat.le_of_lt h)]
  · rw [if_neg (by rw [nI_ltI hb ha]; exact h), Nat.min_eq_left (by omega)]
theorem pu_sub0 (a b : Nat) (ha : a < 2 ^ 30) (hb : b < 2 ^ 30) : mx (nI a - nI b) 0 = nI (a - b) := by
  by_cases h : b ≤ a
  · rw [pk_sub h]
    exact (pu_mx (a - b) 0 (by omega) (by omega)).trans (by rw [Nat.max_eq_left (Nat.zero_le _)])
  · have h1 : nI a - nI b < 0 := pk_sneg hb (by omega)
    unfold mx
    rw [if_pos h1, show a - b = 0 by omega]
    rfl
theorem pu_div (a b : Nat) (ha : a < 2 ^ 31) (hb : b < 2 ^ 31) : s_div (nI a) (nI b) = nI (a / b) := by
  unfold s_div
  by_cases h : b = 0
  · subst h; rw [if_pos (by rfl), Nat.div_zero]; rfl
  · rw [if_neg (nI_ne0 (by omega) hb)]
    exact pk_div ha (by omega) hb
theorem pu_divUp (a b : Nat) (hb0 : 1 ≤ b) (hab : a + b < 2 ^ 31) : s_divUp (nI a) (nI b) = nI ((a + b - 1) / b) := by
  unfold s_divUp
  rw [if_neg (nI_ne0 hb0 (by omega)), nI_add, show (1 : Int32) = nI 1 from rfl, pk_sub (by omega)]
  exact pk_div (by omega) (by omega) (by omega)
theorem pu_rate (x : Int32) : ∃ c : Nat, 1 ≤ c ∧ c ≤ 999 ∧ s_rate x = nI c := by
  unfold s_rate
  have h1 : mn x 999 ≤ 999 := by
    unfold mn
    split
    · exact Int32.le_refl _
    · rename_i h; exact Int32.not_lt.mp h
  generalize mn x 999 = y at h1
  unfold mx
  by_cases h : 1 < y
  · rw [if_pos h]
    obtain ⟨c, hc, rfl⟩ := nI_of2 (M := 999) (n := 999) rfl (fun h0 => absurd (Int32.lt_trans h h0) (by decide)) h1
    refine ⟨c, ?_, hc, rfl⟩
    rw [show (1 : Int32) = nI 1 from rfl, nI_ltI (by omega) (by omega)] at h
    omega
  · rw [if_neg h]
    exact ⟨1, by omega, by omega, rfl⟩
theorem pu_out {v a b : Nat} (h1 : a ≤ v) (h2 : v ≤ b) (hb : b < 2 ^ 31) : s_out (nI v) (nI a) (nI b) = 0 := by
  unfold s_out
  rw [if_neg (nI_nlt h1 (by omega)), if_pos (nI_le h2 hb)]
/-- what is drawn below a number -/
theorem pu_below (v : Int32) {n : Nat} (hn : 1 ≤ n) (hn2 : n < 2 ^ 31) : ∃ c : Nat, c < n ∧ s_below v (nI n) = nI c := by
  unfold s_below
  have h := pk_and v (m := 2147483647) 31 (by decide)
  rw [h]
  have hlt : v.toBitVec.toNat % 2 ^ 31 < 2 ^ 31 := Nat.mod_lt _ (by decide)
  exact ⟨_, Nat.mod_lt _ (by omega), pk_rem hlt (by omega) hn2⟩
