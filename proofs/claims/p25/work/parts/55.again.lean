theorem k_again {F : Fm} {L : Lm} {S : Sm} {n t β : Nat} {q : Nat → Nat} {x jb r pp : Int32} (h : Inv F L S n q t) (hk : s_below x 13 = 7) (hjb : jb = nI β) (hβ : β < max 1 n) : ak_11 F L S n q x jb r pp (GG Inv t F n x) ∨ ak_12 F L S n q x jb r pp (GG Inv t F n x) ∨ ak_13 F L S n q x jb r pp (GG Inv t F n x) := by
  have hn := h.1
  rcases Nat.eq_zero_or_pos n with h0 | h0
  · right; left
    subst h0
    have her : er_again F 0 jb = 1 := by
      unfold er_again
      rw [if_neg]
      rw [erI_big (Nat.zero_le _)]; decide
    refine ⟨hk, her, fun z => absurd (her.symm.trans z) (by decide), ?_, GG.same h⟩
    rw [many_0, h.2.1.1, if_pos (by rfl)]
  · have hβn : β < n := by omega
    have hlf := h.lf
    have hix : erI n jb = 0 := by rw [hjb]; exact hlf.idx hβn
    have hcl : jb.toNatClampNeg = β := by rw [hjb]; exact cl_nI (by omega)
    have hrow := h.2.2.1 β hβn
    obtain ⟨co, ik, li, mu, le, qu, st, ⟨f0, f1, s4⟩, ⟨f3, co1, co2⟩, f4, f5, f7, ⟨f8, st1⟩, ⟨f10, mu1⟩, f11, g0, g1, g2, g3, g4⟩ := id hrow
    have her : er_again F n jb = if st = 2 ∧ mu * li < co then 0 else 3 := by
      unfold er_again
      rw [if_pos hix, hcl, f8, f3, f10]
      by_cases e : st = 2
      · rw [e, if_pos (show nI 2 = (2 : Int32) from rfl)]
        by_cases e2 : mu * li < co
        · rw [if_pos (nI_lt e2 (by omega)), if_pos ⟨rfl, e2⟩]
        · rw [if_neg (nI_nlt (by omega) (by omega)), if_neg (fun z => e2 z.2)]
      · rw [if_neg (show ¬ nI st = (2 : Int32) from by rw [show (2 : Int32) = nI 2 from rfl, nI_eq (by omega) (by omega)]; exact e), if_neg (fun z => e z.1)]
    by_cases e : st = 2 ∧ mu * li < co
    · left
      rw [if_pos e] at her
      obtain ⟨rfl, hmade⟩ := e
      obtain ⟨ρ, hρ, f9⟩ := g1 (by omega)
      have er : (F (17 + β) 9).toNatClampNeg = ρ := by rw [f9]; exact cl_nI (by omega)
      have h3 : erI 3 (F (17 + β) 9) = 0 := by rw [f9]; exact erI_in (vp_in_nI hρ (by decide))
      obtain ⟨G, hG⟩ : ∃ G, G = s_againF F q β (6 + ρ) := ⟨_, rfl⟩
      have hro : ∀ a, a ≠ 17 + β → a ≠ 6 + ρ → G a = F a := fun a h1 h2 => by
        rw [hG]; unfold s_againF; rw [up2_row h1, up2_row h2]
      have hp6 : G (6 + ρ) 6 = nI (q (6 + ρ) + 1) := by rw [hG]; unfold s_againF; rw [up2_ne (by omega), up2_s]
      have hpo : ∀ b, b ≠ 6 → G (6 + ρ) b = F (6 + ρ) b := fun b hb => by
        rw [hG]; unfold s_againF; rw [up2_ne (by omega), up2_o hb]
      have hjf : ∀ b, b ≠ 8 → G (17 + β) b = F (17 + β) b := fun b h1 => by
        rw [hG]; unfold s_againF; rw [up2_o h1, up2_ne (by omega)]
      have hj8 : G (17 + β) 8 = 1 := by rw [hG]; unfold s_againF; rw [up2_s]
      have h8o : ∀ j, j ≠ β → G (17 + j) = F (17 + j) := fun j hj => hro _ (by omega) (by omega)
      have hst := nst_up (g := g8 F) (h := g8 G) (a := nI 2) (b := nI 1) (j := β) (by decide) (show F (17 + β) 8 = nI 2 from f8) (show G (17 + β) 8 = nI 1 from hj8) (fun i hi => by unfold g8; rw [h8o i hi]) hβn
      have hcnt : nst (g8 G) 1 n = nst (g8 F) 1 n + 1 := hst.2.1
      have hqs : q (6 + ρ) < 20 := by
        obtain ⟨Q, hQ, hQ9, hc, hsum⟩ := h.2.2.2.2.2.2
        have h1 : nst (g8 G) 1 n ≤ n := nst_le
        rcases (show ρ = 0 ∨ ρ = 1 ∨ ρ = 2 by omega) with rfl | rfl | rfl <;> simp only [Nat.reduceAdd, Nat.add_zero] <;> omega
      have hI : Inv G (s_insL L q 0 β (6 + ρ)) S n (fun o => if o = 6 + ρ then q (6 + ρ) + 1 else q o) t := by
        obtain ⟨-, hJ, hjb2, hpp, hpr, hsh, hqu⟩ := h
        refine ⟨hn, ⟨by rw [hro 0 (by omega) (by omega)]; exact hJ.1, ?_⟩, fun j hj => ?_, fun o h1 h2 => by rw [hro o (by omega) (by omega)]; exact hpp o h1 h2, fun o h1 h2 => ?_, ?_, ?_⟩
        · unfold s_insL; rw [upLf_ne (by omega)]; exact hJ.2
        · by_cases e : j = β
          · subst e
            exact ⟨co, ik, li, mu, le, qu, 1, ⟨by rw [hjf 0 (by omega)]; exact f0, by rw [hjf 1 (by omega)]; exact f1, s4⟩, ⟨by rw [hjf 3 (by omega)]; exact f3, co1, co2⟩, by rw [hjf 4 (by omega)]; exact f4, by rw [hjf 5 (by omega)]; exact f5, by rw [hjf 7 (by omega)]; exact f7, ⟨hj8, by omega⟩, ⟨by rw [hjf 10 (by omega)]; exact f10, mu1⟩, by rw [hjf 11 (by omega)]; exact f11, fun z => absurd z (by omega), fun _ => ⟨ρ, hρ, by rw [hjf 9 (by omega)]; exact f9⟩, fun _ => hmade, fun z => absurd z (by omega), fun _ => by rw [hjf 13 (by omega)]; exact g4 (by omega)⟩
          · rw [h8o j e]; exact hjb2 j hj
        · by_cases e : o = 6 + ρ
          · subst e
            obtain ⟨to, re, ru, sp, p0, p2, p3, p4⟩ := hpr _ h1 h2
            exact ⟨to, re, ru, sp, by rw [hpo 0 (by omega)]; exact p0, by rw [hpo 2 (by omega)]; exact p2, by rw [hpo 3 (by omega)]; exact p3, by rw [hpo 4 (by omega)]; exact p4⟩
          · rw [hro o (by omega) e]; exact hpr o h1 h2
        · have x2 : nst (g8 F) 2 n = nst (g8 G) 2 n + 1 := hst.1
          have x3 : nst (g8 G) 3 n = nst (g8 F) 3 n := hst.2.2 3 (by decide) (by decide)
          rw [hro 0 (by omega) (by omega)]
          obtain ⟨wa, mg, mt, sp, h5, h6, ⟨h7, m1, m2⟩, h8⟩ := hsh
          exact ⟨wa, mg, mt, sp, h5, h6, ⟨h7, m1, by omega⟩, h8⟩
        · exact hqu.come hβn hρ (Nat.zero_le _) (by rw [f8]; decide) hj8 (by rw [hjf 9 (by omega)]; exact f9) (fun j hj => by rw [h8o j hj]; exact ⟨rfl, rfl⟩) hp6 (fun o ho e => by rw [hro o (by omega) e]) hcnt
      have hL : s_insL L q 0 β (6 + ρ) (6 + ρ) 0 = some β := by
        unfold s_insL; rw [upLf_s]; unfold insF; rw [if_pos rfl]
      have hqa := queue_at hI (o := 6 + ρ) (k := 0) (by omega) (by show 0 < (if 6 + ρ = 6 + ρ then q (6 + ρ) + 1 else q (6 + ρ)); rw [if_pos rfl]; omega) hL
      have hj9 : G (17 + β) 9 = F (17 + β) 9 := hjf 9 (by omega)
      unfold ak_11
      rw [hcl, er, ← hG, ofJob_k.2.2.2.2.2.2.2.2.2.1, hj9, er]
      refine ⟨hk, _, her, hix, fun _ => ⟨h3, hqs⟩, hI.lf.1, ?_, ?_, GG.mk _ hI.next (Or.inr ?_)⟩
      · exact queue_ok (k := 0) (w := q (6 + ρ) + 1) h3 (by rw [er]; exact hp6) (by omega) (by omega) (by rw [er, hL]; simp)
      · rw [ofJob_k.2.2.2.2.2.1, if_pos rfl, show (0 : Int32) = nI 0 from rfl, hqa, if_pos hjb.symm]
      · have hs : ∀ b, b ≠ 8 → ∀ j, j < n → G (17 + j) b = F (17 + j) b := fun b z1 j _ => by
          by_cases e : j = β
          · subst e; exact hjf b z1
          · rw [h8o j e]
        refine bal_eq (by rw [hro 0 (by omega) (by omega)]) ?_ (sum_congr (hs 13 (by omega)) _ _ _) (sum_congr (hs 12 (by omega)) _ _ _)
        unfold s_worthS
        rw [hro 2 (by omega) (by omega), hro 3 (by omega) (by omega), hro 4 (by omega) (by omega), hro 5 (by omega) (by omega)]
    · right; right
      rw [if_neg e] at her
      refine ⟨hk, her, fun z => absurd (her.symm.trans z) (by decide), ?_, GG.same h⟩
      rw [hk]; decide
