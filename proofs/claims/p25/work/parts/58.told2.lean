theorem inks_0 {a : Nat} (h : a ≤ 15) : bitC (nI a &&& (nI a ^^^ (-1))) = 0 := by
  have h2 : ∀ a : Fin 16, bitC (nI a.val &&& (nI a.val ^^^ (-1))) = 0 := by decide +kernel
  exact h2 ⟨a, by omega⟩
theorem k_told {F : Fm} {L : Lm} {S : Sm} {n t : Nat} {q : Nat → Nat} {x jb r pp : Int32} (h : Inv F L S n q t) (hk : s_below x 13 = 10 ∨ s_below x 13 = 11) (h3 : erI 3 r = 0) : ak_16 F L S n q x jb r pp (GG Inv t F n x) ∨ ak_17 F L S n q x jb r pp (GG Inv t F n x) ∨ ak_18 F L S n q x jb r pp (GG Inv t F n x) := by
  obtain ⟨ρ, hρ, -, er⟩ := er_o h3
  have ho : 6 ≤ 6 + ρ ∧ 6 + ρ < 10 := by omega
  obtain ⟨a, ha, ea⟩ := pu_below (x >>> ((4 : Int32) &&& 31)) (n := 150) (by omega) (by omega)
  have ea : s_below (x >>> ((4 : Int32) &&& 31)) 150 = nI a := ea
  obtain ⟨s, hs, es⟩ := pu_below (x >>> ((6 : Int32) &&& 31)) (n := 25) (by omega) (by omega)
  have es : s_below (x >>> ((6 : Int32) &&& 31)) 25 = nI s := es
  unfold ak_16 ak_17 ak_18
  rw [ea, es, show (1 : Int32) + nI a = nI (1 + a) from nI_add 1 a, er]
  have hlf := h.lf
  have hn := h.1
  obtain ⟨w1, w2, w3⟩ := hlf.1.2.2.2 _ ho
  rcases Nat.eq_zero_or_pos (q (6 + ρ)) with hq | hq
  · right; left
    have her : er_told F L S r (nI (1 + a)) (nI s) = 1 := by
      have : er_queue F L r 0 = 1 := by
        unfold er_queue
        rw [if_pos h3, er, show s_jobAt F L (6 + ρ) 0 = none from jobAt_out (k := 0) w1 w2 (by omega) (by omega)]
      unfold er_told
      rw [this, if_neg (by decide)]
    refine ⟨hk, q, her, h3, fun z => absurd (her.symm.trans z) (by decide), ?_, GG.same h⟩
    rcases hk with hk | hk <;> rw [hk] <;> split <;> first | rfl | decide
  · obtain ⟨β, hβ, e⟩ := h.full ho hq
    have hja : s_jobAt F L (6 + ρ) 0 = some β := (jobAt_nI (k := 0) w1 w2 hq).trans e
    have hfi : s_first F L (6 + ρ) = β := by unfold s_first; rw [hja]; rfl
    have hqz : er_queue F L r 0 = 0 := queue_ok (k := 0) h3 (by rw [er]; exact w1) w2 hq (by rw [er, e]; simp)
    have hrow := h.2.2.1 β hβ
    obtain ⟨co, ik, li, mu, le, qu, st, ⟨f0, f1, s4⟩, ⟨f3, co1, co2⟩, ⟨f4, ik1, ik2⟩, ⟨f5, li1, li2⟩, f7, ⟨f8, st1⟩, ⟨f10, mu1⟩, f11, g0, g1, g2, g3, g4⟩ := id hrow
    obtain ⟨wi, hi, pr, sk, -, -, ⟨q2p, -, -⟩, ⟨p3, sk1⟩⟩ := h.2.2.2.1 (2 + S β) (by omega) (by omega)
    have her : er_told F L S r (nI (1 + a)) (nI s) = if s < sk then 0 else 3 := by
      unfold er_told er_slip er_jos
      rw [if_pos hqz, if_pos h3, er, hja, if_pos (show s_out (nI (1 + a)) 1 9999 = 0 from pu_out (a := 1) (b := 9999) (by omega) (by omega) (by omega)), if_pos (show s_out (nI s) 0 9999 = 0 from pu_out (a := 0) (b := 9999) (by omega) (by omega) (by omega))]
      show (if nI s < F (2 + S β) 3 then 0 else 3) = _
      rw [p3]
      by_cases z : s < sk
      · rw [if_pos z, if_pos (nI_lt z (by omega))]
      · rw [if_neg z, if_neg (nI_nlt (by omega) (by omega))]
    by_cases hsk : s < sk
    · left
      sorry
    · right; right
      rw [if_neg hsk] at her
      refine ⟨hk, q, her, h3, fun z => absurd (her.symm.trans z) (by decide), ?_, GG.same h⟩
      rcases hk with hk | hk <;> rw [hk] <;> decide
