theorem k_invoice {F : Fm} {L : Lm} {S : Sm} {n t β : Nat} {q : Nat → Nat} {x jb r pp : Int32} (h : Inv F L S n q t) (hk : s_below x 13 = 6) (hjb : jb = nI β) (hβ : β < max 1 n) : ak_8 F L S n q x jb r pp (GG Inv t F n x) ∨ ak_9 F L S n q x jb r pp (GG Inv t F n x) ∨ ak_10 F L S n q x jb r pp (GG Inv t F n x) := by
  have hn := h.1
  rcases Nat.eq_zero_or_pos n with h0 | h0
  · right; left
    subst h0
    refine ⟨hk, ?_, ?_, GG.same h⟩
    · unfold er_invoice
      rw [if_neg]
      rw [erI_big (Nat.zero_le _)]; decide
    · rw [many_0, h.2.1.1, if_pos (by rfl)]
  · have hβn : β < n := by omega
    have hlf := h.lf
    have hix : erI n jb = 0 := by rw [hjb]; exact hlf.idx hβn
    have hcl : jb.toNatClampNeg = β := by rw [hjb]; exact cl_nI (by omega)
    obtain ⟨co, ik, li, mu, le, qu, st, ⟨f0, f1, s4⟩, ⟨f3, co1, co2⟩, f4, f5, f7, ⟨f8, st1⟩, ⟨f10, mu1⟩, f11, g0, g1, g2, g3, g4⟩ := h.2.2.1 β hβn
    have her : er_invoice F n jb = if st = 2 ∧ co - co / 20 ≤ mu * li then 0 else 3 := by
      unfold er_invoice
      rw [if_pos hix, hcl, f8, f3, f10, show (20 : Int32) = nI 20 from rfl, pk_div (by omega) (by omega) (by omega), pk_sub (by omega)]
      by_cases e : st = 2
      · rw [e, if_pos (show nI 2 = (2 : Int32) from rfl)]
        by_cases e2 : co - co / 20 ≤ mu * li
        · rw [if_pos (nI_le e2 (by omega)), if_pos ⟨rfl, e2⟩]
        · rw [if_neg (nI_ge (by omega) (by omega)), if_neg (fun z => e2 z.2)]
      · rw [if_neg (show ¬ nI st = (2 : Int32) from by rw [show (2 : Int32) = nI 2 from rfl, nI_eq (by omega) (by omega)]; exact e), if_neg (fun z => e z.1)]
    by_cases hh : st = 2 ∧ co - co / 20 ≤ mu * li
    · left
      rw [if_pos hh] at her
      obtain ⟨rfl, hmade⟩ := hh
      have hro : ∀ a, a ≠ 0 → a ≠ 17 + β → s_invF F β a = F a := fun a h1 h2 => by
        unfold s_invF
        rw [up2_row h1, up2_row h2, up2_row h2]
      have h00 : ∀ b, b ≠ 4 → s_invF F β 0 b = F 0 b := fun b hb => by
        unfold s_invF
        rw [up2_o hb, up2_ne (by omega), up2_ne (by omega)]
      have hjf : ∀ b, b ≠ 13 → b ≠ 8 → s_invF F β (17 + β) b = F (17 + β) b := fun b h1 h2 => by
        unfold s_invF
        rw [up2_ne (by omega), up2_o h2, up2_o h1]
      have hj13 : s_invF F β (17 + β) 13 = s_worth F β := by
        unfold s_invF
        rw [up2_ne (by omega), up2_o (by omega), up2_s]
      have hj8 : s_invF F β (17 + β) 8 = 3 := by
        unfold s_invF
        rw [up2_ne (by omega), up2_s]
      have h04 : s_invF F β 0 4 = F 0 4 + s_worth F β := by
        unfold s_invF
        rw [up2_s, up2_ne (by omega), up2_ne (by omega), up2_o (by omega), up2_s]
      have hwr : wR (s_invF F β (17 + β)) = s_worth F β := by
        rw [worth_wR]
        unfold wR
        rw [hjf 3 (by omega) (by omega), hjf 10 (by omega) (by omega), hjf 11 (by omega) (by omega)]
      have h8o : ∀ j, j ≠ β → s_invF F β (17 + j) = F (17 + j) := fun j hj => hro _ (by omega) (by omega)
      have hst := nst_up (g := g8 F) (h := g8 (s_invF F β)) (a := nI 2) (b := nI 3) (j := β) (by decide) (show F (17 + β) 8 = nI 2 from f8) (show s_invF F β (17 + β) 8 = nI 3 from hj8) (fun i hi => by unfold g8; rw [h8o i hi]) hβn
      have hI : Inv (s_invF F β) L S n q t := by
        obtain ⟨-, hJ, hjb2, hpp, hpr, hsh, hqu⟩ := h
        refine ⟨hn, ⟨(h00 3 (by omega)).trans hJ.1, hJ.2⟩, fun j hj => ?_, fun o h1 h2 => by rw [hro o (by omega) (by omega)]; exact hpp o h1 h2, fun o h1 h2 => by rw [hro o (by omega) (by omega)]; exact hpr o h1 h2, ?_, ?_⟩
        · by_cases e : j = β
          · subst e
            exact ⟨co, ik, li, mu, le, qu, 3, ⟨by rw [hjf 0 (by omega) (by omega)]; exact f0, by rw [hjf 1 (by omega) (by omega)]; exact f1, s4⟩, ⟨by rw [hjf 3 (by omega) (by omega)]; exact f3, co1, co2⟩, by rw [hjf 4 (by omega) (by omega)]; exact f4, by rw [hjf 5 (by omega) (by omega)]; exact f5, by rw [hjf 7 (by omega) (by omega)]; exact f7, ⟨hj8, by omega⟩, ⟨by rw [hjf 10 (by omega) (by omega)]; exact f10, mu1⟩, by rw [hjf 11 (by omega) (by omega)]; exact f11, fun z => absurd z (by omega), fun _ => by rw [hjf 9 (by omega) (by omega)]; exact g1 (by omega), fun z => absurd z (by omega), fun _ => ⟨hmade, by rw [hj13, hwr]⟩, fun z => absurd rfl z⟩
          · rw [h8o j e]; exact hjb2 j hj
        · obtain ⟨wa, mg, mt, sp, h5, h6, ⟨h7, m1, m2⟩, h8⟩ := hsh
          have e2 := hst.1
          have e3 := hst.2.1
          have m2 : nst (g8 F) (nI 2) n + nst (g8 F) (nI 3) n ≤ mt := m2
          exact ⟨wa, mg, mt, sp, by rw [h00 5 (by omega)]; exact h5, by rw [h00 6 (by omega)]; exact h6, ⟨by rw [h00 7 (by omega)]; exact h7, m1, by show nst (g8 (s_invF F β)) (nI 2) n + nst (g8 (s_invF F β)) (nI 3) n ≤ mt; omega⟩, by rw [h00 8 (by omega)]; exact h8⟩
        · refine hqu.congr2 (fun o ho => by rw [hro o (by omega) (by omega)]) (fun j hj => ?_) (fun j hj => ?_)
          · by_cases e : j = β
            · subst e; rw [hj8, f8]; exact ⟨fun z => absurd z (by decide), fun z => absurd z (by decide)⟩
            · rw [h8o j e]
          · by_cases e : j = β
            · subst e; exact hjf 9 (by omega) (by omega)
            · rw [h8o j e]
      unfold ak_8
      rw [hcl]
      refine ⟨hk, her, hix, hI.lf.1, ?_, GG.mk q hI.next (Or.inr ?_)⟩
      · rw [ofJob_k.2.2.2.2.2.2.2.2.1, if_pos rfl, ofJob_k.2.2.2.1, if_pos hj8, ofJob_k.2.2.2.2.2.2.2.1, if_pos]
        rw [worth_wR, hwr, hj13]
        grind
      · have hw8 : s_worthS (s_invF F β) = s_worthS F := by
          unfold s_worthS
          rw [hro 2 (by omega) (by omega), hro 3 (by omega) (by omega), hro 4 (by omega) (by omega), hro 5 (by omega) (by omega)]
        have t13 := total_up (F := F) (G := s_invF F β) (f := 13) hβn hn (fun i hi => by rw [h8o i hi])
        have t12 := total_up (F := F) (G := s_invF F β) (f := 12) hβn hn (fun i hi => by rw [h8o i hi])
        rw [hj13, g4 (by omega)] at t13
        rw [hjf 12 (by omega) (by omega)] at t12
        unfold balN
        simp only [many_k.2.2.2.2.1, many_k.2.2.2.2.2.1, many_k.2.2.2.2.2.2.1, many_k.2.2.2.2.2.2.2.1]
        rw [h04, hw8, t13, t12]
        grind
    · right; right
      rw [if_neg hh] at her
      refine ⟨hk, her, ?_, GG.same h⟩
      rw [hk]; decide
