theorem k_sort {F : Fm} {L : Lm} {S : Sm} {n t : Nat} {q : Nat → Nat} {x jb r pp : Int32} (h : Inv F L S n q t) (hk : s_below x 13 = 8) (h3 : erI 3 r = 0) : ak_14 F L S n q x jb r pp (GG Inv t F n x) := by
  obtain ⟨ρ, hρ, -, er⟩ := er_o h3
  have ho : 6 ≤ 6 + ρ ∧ 6 + ρ < 10 := by omega
  unfold ak_14
  rw [er]
  have hI : Inv F (s_sortL F L q (6 + ρ)) S n q t := by
    obtain ⟨hn, hJ, hjb, hpp, hpr, hsh, Q, hQ, hQ9, hc, hsum⟩ := h
    obtain ⟨ℓ2, a1, a2, a3⟩ := brg_li (F := F) (q (6 + ρ)) 0 (L (6 + ρ)) (F (6 + ρ) 1) (Q (6 + ρ)) (by rw [(hQ _ ho).2.1, Nat.zero_add]) (hQ _ ho).1
    rw [← (hQ _ ho).2.1] at a1 a3
    refine ⟨hn, ⟨hJ.1, ?_⟩, hjb, hpp, hpr, hsh, fun o => if o = 6 + ρ then ℓ2 else Q o, fun o ho2 => ?_, ?_, fun o h1 h2 j => ?_, hsum⟩
    · unfold s_sortL; rw [upLf_ne (by omega)]; exact hJ.2
    · by_cases e : o = 6 + ρ
      · subst e
        refine ⟨fun k => ?_, ?_, (hQ _ ho2).2.2⟩
        · show _ = (if 6 + ρ = 6 + ρ then ℓ2 else Q (6 + ρ))[k]?
          unfold s_sortL; rw [upLf_s, if_pos rfl]; exact a3 k
        · show _ = (if 6 + ρ = 6 + ρ then ℓ2 else Q (6 + ρ)).length
          rw [if_pos rfl]; exact a1.symm
      · refine ⟨fun k => ?_, ?_, (hQ _ ho2).2.2⟩
        · show _ = (if o = 6 + ρ then ℓ2 else Q o)[k]?
          unfold s_sortL; rw [upLf_ne e, if_neg e]; exact (hQ _ ho2).1 k
        · show _ = (if o = 6 + ρ then ℓ2 else Q o).length
          rw [if_neg e]; exact (hQ _ ho2).2.1
    · show (if 9 = 6 + ρ then ℓ2 else Q 9) = []
      rw [if_neg (by omega)]; exact hQ9
    · show (if o = 6 + ρ then ℓ2 else Q o).count j = _
      by_cases e : o = 6 + ρ
      · subst e; rw [if_pos rfl, a2]; exact hc _ h1 h2 j
      · rw [if_neg e]; exact hc o h1 h2 j
  exact ⟨hk, h3, hI.lf.1, by rw [ofPress_k.2.2.2.2, ofPress_k.2.2.2.2, if_pos rfl], GG.mk q hI.next (Or.inr (bal_eq rfl rfl rfl rfl))⟩
/-- a job comes into a queue: what the invariant needs of the lists -/
theorem quR.come {F G : Fm} {L : Lm} {n β ρ pl : Nat} {q : Nat → Nat} (h : quR F L n q) (hβ : β < n) (hρ : ρ < 3) (hpl : pl ≤ q (6 + ρ)) (h8 : F (17 + β) 8 ≠ 1) (g8' : G (17 + β) 8 = 1) (g9 : G (17 + β) 9 = nI ρ) (hG : ∀ j, j ≠ β → G (17 + j) 8 = F (17 + j) 8 ∧ G (17 + j) 9 = F (17 + j) 9) (h6 : G (6 + ρ) 6 = nI (q (6 + ρ) + 1)) (h6o : ∀ o, 6 ≤ o ∧ o < 10 → o ≠ 6 + ρ → G o 6 = F o 6) (hcnt : nst (g8 G) 1 n = nst (g8 F) 1 n + 1) : quR G (s_insL L q pl β (6 + ρ)) n (fun o => if o = 6 + ρ then q (6 + ρ) + 1 else q o) := by
  obtain ⟨Q, hQ, hQ9, hc, hsum⟩ := h
  have ho : 6 ≤ 6 + ρ ∧ 6 + ρ < 10 := by omega
  obtain ⟨b1, b2, b3⟩ := hQ _ ho
  rw [b2] at hpl
  have hi := li_ins (j := β) b1 hpl
  rw [← b2] at hi
  refine ⟨fun o => if o = 6 + ρ then (Q (6 + ρ)).insertIdx pl β else Q o, fun o ho2 => ?_, ?_, fun o h1 h2 j => ?_, ?_⟩
  · by_cases e : o = 6 + ρ
    · subst e
      refine ⟨fun k => ?_, ?_, ?_⟩
      · unfold s_insL; rw [upLf_s]; show _ = (if 6 + ρ = 6 + ρ then (Q (6 + ρ)).insertIdx pl β else Q (6 + ρ))[k]?; rw [if_pos rfl]; exact hi k
      · show (if 6 + ρ = 6 + ρ then q (6 + ρ) + 1 else q (6 + ρ)) = (if 6 + ρ = 6 + ρ then (Q (6 + ρ)).insertIdx pl β else Q (6 + ρ)).length
        rw [if_pos rfl, if_pos rfl, le_ins _ _ _ hpl, b2]
      · show G (6 + ρ) 6 = nI (if 6 + ρ = 6 + ρ then q (6 + ρ) + 1 else q (6 + ρ))
        rw [if_pos rfl]; exact h6
    · refine ⟨fun k => ?_, ?_, ?_⟩
      · unfold s_insL; rw [upLf_ne e]; show _ = (if o = 6 + ρ then (Q (6 + ρ)).insertIdx pl β else Q o)[k]?; rw [if_neg e]; exact (hQ _ ho2).1 k
      · show (if o = 6 + ρ then q (6 + ρ) + 1 else q o) = (if o = 6 + ρ then (Q (6 + ρ)).insertIdx pl β else Q o).length
        rw [if_neg e, if_neg e]; exact (hQ _ ho2).2.1
      · show G o 6 = nI (if o = 6 + ρ then q (6 + ρ) + 1 else q o)
        rw [if_neg e, h6o o ho2 e]; exact (hQ _ ho2).2.2
  · show (if 9 = 6 + ρ then (Q (6 + ρ)).insertIdx pl β else Q 9) = []
    rw [if_neg (by omega)]; exact hQ9
  · show (if o = 6 + ρ then (Q (6 + ρ)).insertIdx pl β else Q o).count j = _
    have hoj := hc o h1 h2 j
    by_cases ej : j = β
    · subst ej
      have hz : (Q o).count j = 0 := by rw [hoj, if_neg (fun z => h8 z.2.1)]
      by_cases e : o = 6 + ρ
      · subst e
        rw [if_pos rfl, co_ins _ _ _ hpl, hz, if_pos rfl, if_pos ⟨hβ, g8', by rw [g9]; congr 1; omega⟩]
      · rw [if_neg e, hz, if_neg (fun z => by
          have z2 := z.2.2
          rw [g9, nI_eq (by omega) (by omega)] at z2
          omega)]
    · obtain ⟨x1, x2⟩ := hG j ej
      by_cases e : o = 6 + ρ
      · subst e
        rw [if_pos rfl, co_ins _ _ _ hpl, hoj, if_neg ej, Nat.add_zero, x1, x2]
      · rw [if_neg e, hoj, x1, x2]
  · show (if 6 = 6 + ρ then q (6 + ρ) + 1 else q 6) + (if 7 = 6 + ρ then q (6 + ρ) + 1 else q 7) + (if 8 = 6 + ρ then q (6 + ρ) + 1 else q 8) = _
    rw [hcnt, ← hsum]
    rcases (show ρ = 0 ∨ ρ = 1 ∨ ρ = 2 by omega) with rfl | rfl | rfl <;> simp <;> omega
