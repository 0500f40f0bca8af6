/-- what a slip writes, row by row -/
theorem slip_rows {F : Fm} {S : Sm} {q : Nat → Nat} {o j : Nat} {mi sp tk spent : Int32} (ho : 6 ≤ o ∧ o < 10) (hS : S j < 4) : ∀ G, G = s_slipF F S q o j mi sp tk spent →
    (∀ a, a ≠ 0 → a ≠ 2 + S j → a ≠ 17 + j → a ≠ o → G a = F a) ∧ (∀ b, b ≠ 4 → b ≠ 7 → b ≠ 8 → G 0 b = F 0 b) ∧ G 0 4 = F 0 4 - spent ∧ G 0 7 = F 0 7 + mi ∧ G 0 8 = F 0 8 + sp ∧
    (∀ b, b ≠ 3 → G (2 + S j) b = F (2 + S j) b) ∧ G (2 + S j) 3 = F (2 + S j) 3 - tk ∧ (∀ b, b ≠ 8 → b ≠ 10 → b ≠ 12 → b ≠ 14 → G (17 + j) b = F (17 + j) b) ∧ G (17 + j) 8 = 2 ∧ G (17 + j) 10 = F (17 + j) 10 + (tk - sp) * F (17 + j) 5 ∧ G (17 + j) 12 = F (17 + j) 12 + (spent + tk * F (2 + S j) 2) ∧
    G o 6 = nI (q o - 1) ∧ G o 0 = F o 0 ∧ G o 1 = F (17 + j) 4 ∧ (∃ x : Int32, G o 2 = F o 2 ∨ G o 2 = s_rate x) ∧ (∃ x : Int32, G o 3 = F o 3 ∨ G o 3 = s_rate x) ∧ G o 4 = mn ((3 * F o 4 + s_div (sp * 1000) tk) / 4) 999 := by
  intro G hG
  obtain ⟨X, hX⟩ : ∃ X, X = up2 (s_sl5 F S j sp tk spent) o 6 (nI (q o - 1)) := ⟨_, rfl⟩
  have hG2 : G = up2 (up2 (up2 (s_learn X o j mi sp tk) 0 4 (s_learn X o j mi sp tk 0 4 - spent)) 0 7 (up2 (s_learn X o j mi sp tk) 0 4 (s_learn X o j mi sp tk 0 4 - spent) 0 7 + mi)) 0 8 (up2 (up2 (s_learn X o j mi sp tk) 0 4 (s_learn X o j mi sp tk 0 4 - spent)) 0 7 (up2 (s_learn X o j mi sp tk) 0 4 (s_learn X o j mi sp tk 0 4 - spent) 0 7 + mi) 0 8 + sp) := by
    rw [hG, hX]; rfl
  have lne : ∀ a b, a ≠ o → s_learn X o j mi sp tk a b = X a b := fun a b ha => by
    unfold s_learn
    rw [up2_ne ha, up2_ne ha]
    split <;> rw [up2_ne ha]
  have l0 : ∀ b, b ≠ 1 → b ≠ 2 → b ≠ 3 → b ≠ 4 → s_learn X o j mi sp tk o b = X o b := fun b h1 h2 h3 h4 => by
    unfold s_learn
    rw [up2_o h1, up2_o h4]
    split
    · rw [up2_o h2]
    · rw [up2_o h3]
  have l1 : s_learn X o j mi sp tk o 1 = X (17 + j) 4 := by unfold s_learn; rw [up2_s]
  have l4 : s_learn X o j mi sp tk o 4 = mn ((3 * X o 4 + s_div (sp * 1000) tk) / 4) 999 := by unfold s_learn; rw [up2_o (by omega), up2_s]
  have l2 : ∃ x : Int32, s_learn X o j mi sp tk o 2 = X o 2 ∨ s_learn X o j mi sp tk o 2 = s_rate x := by
    unfold s_learn
    rw [up2_o (by omega), up2_o (by omega)]
    split
    · exact ⟨_, Or.inr up2_s⟩
    · exact ⟨0, Or.inl (up2_o (by omega))⟩
  have l3 : ∃ x : Int32, s_learn X o j mi sp tk o 3 = X o 3 ∨ s_learn X o j mi sp tk o 3 = s_rate x := by
    unfold s_learn
    rw [up2_o (by omega), up2_o (by omega)]
    split
    · exact ⟨0, Or.inl (up2_o (by omega))⟩
    · exact ⟨_, Or.inr up2_s⟩
  have gne : ∀ a b, a ≠ 0 → G a b = s_learn X o j mi sp tk a b := fun a b h => by rw [hG2, up2_ne h, up2_ne h, up2_ne h]
  have xr : ∀ a b, a ≠ 2 + S j → a ≠ 17 + j → a ≠ o → X a b = F a b := fun a b h1 h2 h3 => by
    rw [hX, up2_ne h3]; unfold s_sl5 s_sl3 s_sl2 s_sl1
    rw [up2_ne h2, up2_ne h2, up2_ne h2, up2_ne h2, up2_ne h1]
  have xp : ∀ b, b ≠ 3 → X (2 + S j) b = F (2 + S j) b := fun b hb => by
    rw [hX, up2_ne (by omega)]; unfold s_sl5 s_sl3 s_sl2 s_sl1
    rw [up2_ne (by omega), up2_ne (by omega), up2_ne (by omega), up2_ne (by omega), up2_o hb]
  have xp3 : X (2 + S j) 3 = F (2 + S j) 3 - tk := by
    rw [hX, up2_ne (by omega)]; unfold s_sl5 s_sl3 s_sl2 s_sl1
    rw [up2_ne (by omega), up2_ne (by omega), up2_ne (by omega), up2_ne (by omega), up2_s]
  have xj : ∀ b, b ≠ 8 → b ≠ 10 → b ≠ 12 → b ≠ 14 → X (17 + j) b = F (17 + j) b := fun b h1 h2 h3 h4 => by
    rw [hX, up2_ne (by omega)]; unfold s_sl5 s_sl3 s_sl2 s_sl1
    rw [up2_o h1, up2_o h4, up2_o h3, up2_o h2, up2_ne (by omega)]
  have xj8 : X (17 + j) 8 = 2 := by rw [hX, up2_ne (by omega)]; unfold s_sl5; rw [up2_s]
  have xj10 : X (17 + j) 10 = F (17 + j) 10 + (tk - sp) * F (17 + j) 5 := by
    rw [hX, up2_ne (by omega)]; unfold s_sl5 s_sl3 s_sl2 s_sl1
    rw [up2_o (by omega), up2_o (by omega), up2_o (by omega), up2_s, up2_ne (by omega), up2_ne (by omega)]
  have xj12 : X (17 + j) 12 = F (17 + j) 12 + (spent + tk * F (2 + S j) 2) := by
    rw [hX, up2_ne (by omega)]; unfold s_sl5 s_sl3
    rw [up2_o (by omega), up2_o (by omega), up2_s]
    unfold s_sl2 s_sl1
    rw [up2_o (by omega), up2_ne (by omega), up2_ne (by omega), up2_o (by omega)]
  have xo : ∀ b, b ≠ 6 → X o b = F o b := fun b hb => by
    rw [hX, up2_o hb]; unfold s_sl5 s_sl3 s_sl2 s_sl1
    rw [up2_ne (by omega), up2_ne (by omega), up2_ne (by omega), up2_ne (by omega), up2_ne (by omega)]
  have xo6 : X o 6 = nI (q o - 1) := by rw [hX, up2_s]
  refine ⟨fun a h0 h1 h2 h3 => by funext b; rw [gne a b h0, lne a b h3, xr a b h1 h2 h3], fun b h4 h7 h8 => ?_, ?_, ?_, ?_, fun b hb => by rw [gne _ b (by omega), lne _ b (by omega), xp b hb], by rw [gne _ _ (by omega), lne _ _ (by omega), xp3], fun b h1 h2 h3 h4 => by rw [gne _ b (by omega), lne _ b (by omega), xj b h1 h2 h3 h4], by rw [gne _ _ (by omega), lne _ _ (by omega), xj8], by rw [gne _ _ (by omega), lne _ _ (by omega), xj10], by rw [gne _ _ (by omega), lne _ _ (by omega), xj12], by rw [gne _ _ (by omega), l0 6 (by omega) (by omega) (by omega) (by omega), xo6], by rw [gne _ _ (by omega), l0 0 (by omega) (by omega) (by omega) (by omega), xo 0 (by omega)], by rw [gne _ _ (by omega), l1, xj 4 (by omega) (by omega) (by omega) (by omega)], ?_, ?_, by rw [gne _ _ (by omega), l4, xo 4 (by omega)]⟩
  · rw [hG2, up2_o h8, up2_o h7, up2_o h4, lne 0 b (by omega), xr 0 b (by omega) (by omega) (by omega)]
  · rw [hG2, up2_o (by omega), up2_o (by omega), up2_s, lne 0 4 (by omega), xr 0 4 (by omega) (by omega) (by omega)]
  · rw [hG2, up2_o (by omega), up2_s, up2_o (by omega), lne 0 7 (by omega), xr 0 7 (by omega) (by omega) (by omega)]
  · rw [hG2, up2_s, up2_o (by omega), up2_o (by omega), lne 0 8 (by omega), xr 0 8 (by omega) (by omega) (by omega)]
  · obtain ⟨x, hx⟩ := l2
    rw [gne _ _ (by omega)]
    rw [xo 2 (by omega)] at hx
    exact ⟨x, hx⟩
  · obtain ⟨x, hx⟩ := l3
    rw [gne _ _ (by omega)]
    rw [xo 3 (by omega)] at hx
    exact ⟨x, hx⟩
