/-- the first job leaves a queue: what the invariant needs of the lists -/
theorem quR.leave {F G : Fm} {L : Lm} {n β ρ : Nat} {q : Nat → Nat} (h : quR F L n q) (hρ : ρ < 3) (hq : 0 < q (6 + ρ)) (hL : L (6 + ρ) 0 = some β) (g8' : G (17 + β) 8 ≠ 1) (hG : ∀ j, j ≠ β → G (17 + j) 8 = F (17 + j) 8 ∧ G (17 + j) 9 = F (17 + j) 9) (h6 : G (6 + ρ) 6 = nI (q (6 + ρ) - 1)) (h6o : ∀ o, 6 ≤ o ∧ o < 10 → o ≠ 6 + ρ → G o 6 = F o 6) (hcnt : nst (g8 F) 1 n = nst (g8 G) 1 n + 1) : quR G (s_slipL L q (6 + ρ)) n (fun o => if o = 6 + ρ then q (6 + ρ) - 1 else q o) := by
  obtain ⟨Q, hQ, hQ9, hc, hsum⟩ := h
  have ho : 6 ≤ 6 + ρ ∧ 6 + ρ < 10 := by omega
  obtain ⟨b1, b2, b3⟩ := hQ _ ho
  have hpl : 0 < (Q (6 + ρ)).length := by omega
  have hi := li_rem b1 hpl
  rw [← b2] at hi
  have hb0 : (Q (6 + ρ))[0] = β := by
    have h2 := b1 0
    rw [hL, List.getElem?_eq_getElem hpl] at h2
    exact (Option.some.inj h2).symm
  have hm := qu_mem (n := n) (by omega) (by omega) b1 (hc (6 + ρ) (by omega) (by omega)) hL
  refine ⟨fun o => if o = 6 + ρ then (Q (6 + ρ)).eraseIdx 0 else Q o, fun o ho2 => ?_, ?_, fun o h1 h2 j => ?_, ?_⟩
  · by_cases e : o = 6 + ρ
    · subst e
      refine ⟨fun k => ?_, ?_, ?_⟩
      · unfold s_slipL; rw [upLf_s]; show _ = (if 6 + ρ = 6 + ρ then (Q (6 + ρ)).eraseIdx 0 else Q (6 + ρ))[k]?; rw [if_pos rfl]; exact hi k
      · show (if 6 + ρ = 6 + ρ then q (6 + ρ) - 1 else q (6 + ρ)) = (if 6 + ρ = 6 + ρ then (Q (6 + ρ)).eraseIdx 0 else Q (6 + ρ)).length
        rw [if_pos rfl, if_pos rfl, le_rem _ _ hpl, b2]
      · show G (6 + ρ) 6 = nI (if 6 + ρ = 6 + ρ then q (6 + ρ) - 1 else q (6 + ρ))
        rw [if_pos rfl]; exact h6
    · refine ⟨fun k => ?_, ?_, ?_⟩
      · unfold s_slipL; rw [upLf_ne e]; show _ = (if o = 6 + ρ then (Q (6 + ρ)).eraseIdx 0 else Q o)[k]?; rw [if_neg e]; exact (hQ _ ho2).1 k
      · show (if o = 6 + ρ then q (6 + ρ) - 1 else q o) = (if o = 6 + ρ then (Q (6 + ρ)).eraseIdx 0 else Q o).length
        rw [if_neg e, if_neg e]; exact (hQ _ ho2).2.1
      · show G o 6 = nI (if o = 6 + ρ then q (6 + ρ) - 1 else q o)
        rw [if_neg e, h6o o ho2 e]; exact (hQ _ ho2).2.2
  · show (if 9 = 6 + ρ then (Q (6 + ρ)).eraseIdx 0 else Q 9) = []
    rw [if_neg (by omega)]; exact hQ9
  · show (if o = 6 + ρ then (Q (6 + ρ)).eraseIdx 0 else Q o).count j = _
    have hoj := hc o h1 h2 j
    by_cases ej : j = β
    · subst ej
      by_cases e : o = 6 + ρ
      · subst e
        rw [if_pos rfl, if_neg (fun z => g8' z.2.1)]
        have hr := co_rem (Q (6 + ρ)) 0 hpl j
        rw [hb0, if_pos rfl, hoj] at hr
        split at hr <;> omega
      · rw [if_neg e, hoj, if_neg (fun z => by
          have z2 := z.2.2
          rw [hm.2.2, nI_eq (by omega) (by omega)] at z2
          omega), if_neg (fun z => g8' z.2.1)]
    · obtain ⟨x1, x2⟩ := hG j ej
      by_cases e : o = 6 + ρ
      · subst e
        have hr := co_rem (Q (6 + ρ)) 0 hpl j
        rw [hb0, if_neg ej, Nat.add_zero] at hr
        rw [if_pos rfl, ← hr, hoj, x1, x2]
      · rw [if_neg e, hoj, x1, x2]
  · show (if 6 = 6 + ρ then q (6 + ρ) - 1 else q 6) + (if 7 = 6 + ρ then q (6 + ρ) - 1 else q 7) + (if 8 = 6 + ρ then q (6 + ρ) - 1 else q 8) = _
    rcases (show ρ = 0 ∨ ρ = 1 ∨ ρ = 2 by omega) with rfl | rfl | rfl <;> simp at hq ⊢ <;> omega
