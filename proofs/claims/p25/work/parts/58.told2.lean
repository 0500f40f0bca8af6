theorem inks_0 {a : Nat} (h : a ≤ 15) : bitC (nI a &&& (nI a ^^^ (-1))) = 0 := by
  have h2 : ∀ a : Fin 16, bitC (nI a.val &&& (nI a.val ^^^ (-1))) = 0 := by decide +kernel
  exact h2 ⟨a, by omega⟩
theorem k_told {F : Fm} {L : Lm} {S : Sm} {n t : Nat} {q : Nat → Nat} {x jb r pp : Int32} (h : Inv F L S n q t) (hk : s_below x 13 = 10 ∨ s_below x 13 = 11) (h3 : erI 3 r = 0) : ak_16 F L S n q x jb r pp (GG Inv t F n x) ∨ ak_17 F L S n q x jb r pp (GG Inv t F n x) ∨ ak_18 F L S n q x jb r pp (GG Inv t F n x) := by
  obtain ⟨ρ, hρ, -, er⟩ := er_o h3
  have ho : 6 ≤ 6 + ρ ∧ 6 + ρ < 10 := by omega
  obtain ⟨a, ha, ea⟩ := pu_below (x >>> ((4 : Int32) &&& 31)) (n := 150) (by omega) (by omega)
  have ea : s_below (x >>> ((4 : Int32) &&& 31)) 150 = nI a := ea
  obtain ⟨s, hs, es⟩ := pu_below (x >>> ((6 : Int32) &&& 31)) (n := 25) (by omega) (by omega)
  have es : s_below (x >>> ((6 : Int32) &&& 31)) 25 = nI s := es
  unfold ak_16 ak_17 ak_18
  rw [ea, es, show (1 : Int32) + nI a = nI (1 + a) from nI_add 1 a, er]
  have hlf := h.lf
  have hn := h.1
  obtain ⟨w1, w2, w3⟩ := hlf.1.2.2.2 _ ho
  rcases Nat.eq_zero_or_pos (q (6 + ρ)) with hq | hq
  · right; left
    have her : er_told F L S r (nI (1 + a)) (nI s) = 1 := by
      have : er_queue F L r 0 = 1 := by
        unfold er_queue
        rw [if_pos h3, er, show s_jobAt F L (6 + ρ) 0 = none from jobAt_out (k := 0) w1 w2 (by omega) (by omega)]
      unfold er_told
      rw [this, if_neg (by decide)]
    refine ⟨hk, q, her, h3, fun z => absurd (her.symm.trans z) (by decide), ?_, GG.same h⟩
    rcases hk with hk | hk <;> rw [hk] <;> split <;> first | rfl | decide
  · obtain ⟨β, hβ, e⟩ := h.full ho hq
    have hja : s_jobAt F L (6 + ρ) 0 = some β := (jobAt_nI (k := 0) w1 w2 hq).trans e
    have hfi : s_first F L (6 + ρ) = β := by unfold s_first; rw [hja]; rfl
    have hqz : er_queue F L r 0 = 0 := queue_ok (k := 0) h3 (by rw [er]; exact w1) w2 hq (by rw [er, e]; simp)
    have hrow := h.2.2.1 β hβ
    obtain ⟨co, ik, li, mu, le, qu, st, ⟨f0, f1, s4⟩, ⟨f3, co1, co2⟩, ⟨f4, ik1, ik2⟩, ⟨f5, li1, li2⟩, f7, ⟨f8, st1⟩, ⟨f10, mu1⟩, f11, g0, g1, g2, g3, g4⟩ := id hrow
    obtain ⟨wi, hi, pr, sk, -, -, ⟨q2p, -, -⟩, ⟨p3, sk1⟩⟩ := h.2.2.2.1 (2 + S β) (by omega) (by omega)
    have her : er_told F L S r (nI (1 + a)) (nI s) = if s < sk then 0 else 3 := by
      unfold er_told er_slip er_jos
      rw [if_pos hqz, if_pos h3, er, hja, if_pos (show s_out (nI (1 + a)) 1 9999 = 0 from pu_out (a := 1) (b := 9999) (by omega) (by omega) (by omega)), if_pos (show s_out (nI s) 0 9999 = 0 from pu_out (a := 0) (b := 9999) (by omega) (by omega) (by omega))]
      show (if nI s < F (2 + S β) 3 then 0 else 3) = _
      rw [p3]
      by_cases z : s < sk
      · rw [if_pos z, if_pos (nI_lt z (by omega))]
      · rw [if_neg z, if_neg (nI_nlt (by omega) (by omega))]
    by_cases hsk : s < sk
    · left
      rw [if_pos hsk] at her
      have hm : β < n ∧ F (17 + β) 8 = 1 ∧ F (17 + β) 9 = nI (6 + ρ - 6) := by
        obtain ⟨Q, hQ, hQ9, hc, hsum⟩ := h.2.2.2.2.2.2
        exact qu_mem (by omega) (by omega) (hQ _ ho).1 (hc _ (by omega) (by omega)) e
      have hst1 : st = 1 := by
        have z := hm.2.1
        rw [f8, show (1 : Int32) = nI 1 from rfl, nI_eq (by omega) (by omega)] at z
        exact z
      subst hst1
      have hmade := g2 rfl
      have hsh := sheets_eq f3 f10 f5 co2 mu1 li1 li2
      have hd := dv_up (co - mu * li) li li1
      have hd2 := hd.2.2 (by omega)
      generalize (co - mu * li + li - 1) / li = sh at *
      have htk : s_taken F S β (nI s) = nI (min (sh + s) sk) := by
        unfold s_taken
        rw [hsh, p3, nI_add, pu_mn _ _ (by omega) (by omega)]
      obtain ⟨tk, htke⟩ : ∃ tk, tk = min (sh + s) sk := ⟨_, rfl⟩
      rw [← htke] at htk
      have ht1 : s < tk := by omega
      have ht2 : tk - s ≤ sh := by omega
      have ht3 : tk ≤ sk := by omega
      have ht4 : tk = sk ∨ tk - s = sh := by omega
      clear htke
      obtain ⟨G, hG⟩ : ∃ G, G = s_slF F L S q (6 + ρ) (nI (1 + a)) (nI s) := ⟨_, rfl⟩
      have hG2 : G = s_slipF F S q (6 + ρ) β (nI (1 + a)) (nI s) (nI tk) (s_spent F β (nI (1 + a))) := by
        rw [hG]; unfold s_slF; rw [hfi, htk]
      obtain ⟨r0, r00, r04, r07, r08, rp, rp3, rj, rj8, rj10, rj12, ro6, ro0, ro1, ⟨x2, ro2⟩, ⟨x3, ro3⟩, ro4⟩ := slip_rows ho s4 G hG2
      have hgl : (tk - s) * li ≤ sh * li := Nat.mul_le_mul_right li ht2
      have hsl : (sh - 1) * li = sh * li - li := by rw [Nat.sub_mul, Nat.one_mul]
      have hm10 : G (17 + β) 10 = nI ((mu + (tk - s)) * li) := by
        rw [rj10, f10, f5, pk_sub (by omega), pk_mul, nI_add, Nat.add_mul]
      have hmb : (mu + (tk - s)) * li ≤ 2200 := by rw [Nat.add_mul]; omega
      have h8o : ∀ j, j ≠ β → G (17 + j) = F (17 + j) := fun j hj => r0 _ (by omega) (by omega) (by omega) (by omega)
      have hstn := nst_up (g := g8 F) (h := g8 G) (a := nI 1) (b := nI 2) (j := β) (by decide) (show F (17 + β) 8 = nI 1 from f8) (show G (17 + β) 8 = nI 2 from rj8) (fun i hi => by unfold g8; rw [h8o i hi]) hβ
      have hI : Inv G (s_slipL L q (6 + ρ)) S n (fun o => if o = 6 + ρ then q (6 + ρ) - 1 else q o) (t + 1) := by
        obtain ⟨-, hJ, hjb2, hpp, hpr, hsh2, hqu⟩ := h
        refine ⟨hn, ⟨by rw [r00 3 (by omega) (by omega) (by omega)]; exact hJ.1, ?_⟩, fun j hj => ?_, fun o h1 h2 => ?_, fun o h1 h2 => ?_, ?_, ?_⟩
        · unfold s_slipL; rw [upLf_ne (by omega)]; exact hJ.2
        · by_cases z : j = β
          · subst z
            exact ⟨co, ik, li, mu + (tk - s), le, qu, 2, ⟨by rw [rj 0 (by omega) (by omega) (by omega) (by omega)]; exact f0, by rw [rj 1 (by omega) (by omega) (by omega) (by omega)]; exact f1, s4⟩, ⟨by rw [rj 3 (by omega) (by omega) (by omega) (by omega)]; exact f3, co1, co2⟩, ⟨by rw [rj 4 (by omega) (by omega) (by omega) (by omega)]; exact f4, ik1, ik2⟩, ⟨by rw [rj 5 (by omega) (by omega) (by omega) (by omega)]; exact f5, li1, li2⟩, by rw [rj 7 (by omega) (by omega) (by omega) (by omega)]; exact f7, ⟨rj8, by omega⟩, ⟨hm10, hmb⟩, by rw [rj 11 (by omega) (by omega) (by omega) (by omega)]; exact f11, fun z => absurd z (by omega), fun _ => by rw [rj 9 (by omega) (by omega) (by omega) (by omega)]; exact g1 (by omega), fun z => absurd z (by omega), fun z => absurd z (by omega), fun _ => by rw [rj 13 (by omega) (by omega) (by omega) (by omega)]; exact g4 (by omega)⟩
          · rw [h8o j z]; exact hjb2 j hj
        · by_cases z : o = 2 + S β
          · subst z
            exact (hpp _ h1 h2).up (rp 0 (by omega)) (rp 1 (by omega)) (rp 2 (by omega)) (sk := sk - tk) (by rw [rp3, p3, pk_sub ht3]) (by omega)
          · rw [r0 o (by omega) z (by omega) (by omega)]; exact hpp o h1 h2
        · by_cases z : o = 6 + ρ
          · subst z
            obtain ⟨to, re, ru, sp, ⟨p0, t1, t2⟩, p2, p3', ⟨p4, s5⟩⟩ := hpr _ h1 h2
            have k2 : ∃ c : Nat, 1 ≤ c ∧ c ≤ 999 ∧ G (6 + ρ) 2 = nI c := by
              rcases ro2 with z | z
              · exact ⟨re, p2.2.1, p2.2.2, z.trans p2.1⟩
              · obtain ⟨c, c1, c2, c3⟩ := pu_rate x2; exact ⟨c, c1, c2, z.trans c3⟩
            have k3 : ∃ c : Nat, 1 ≤ c ∧ c ≤ 999 ∧ G (6 + ρ) 3 = nI c := by
              rcases ro3 with z | z
              · exact ⟨ru, p3'.2.1, p3'.2.2, z.trans p3'.1⟩
              · obtain ⟨c, c1, c2, c3⟩ := pu_rate x3; exact ⟨c, c1, c2, z.trans c3⟩
            obtain ⟨c2, a1, a2, a3⟩ := k2
            obtain ⟨c3, b1, b2, b3⟩ := k3
            have hdv : s * 1000 / tk ≤ 24000 := Nat.le_trans (Nat.div_le_self _ _) (by omega)
            refine ⟨to, c2, c3, min ((3 * sp + s * 1000 / tk) / 4) 999, ⟨ro0.trans p0, t1, t2⟩, ⟨a3, a1, a2⟩, ⟨b3, b1, b2⟩, ⟨?_, by omega⟩⟩
            rw [ro4, p4, show (1000 : Int32) = nI 1000 from rfl, pk_mul, pu_div _ _ (by omega) (by omega), show (3 : Int32) = nI 3 from rfl, pk_mul, nI_add, show (4 : Int32) = nI 4 from rfl, pk_div (by omega) (by omega) (by omega), show (999 : Int32) = nI 999 from rfl, pu_mn _ _ (by omega) (by omega)]
          · rw [r0 o (by omega) (by omega) (by omega) z]; exact hpr o h1 h2
        · have x1 : nst (g8 G) 2 n = nst (g8 F) 2 n + 1 := hstn.2.1
          have x4 : nst (g8 G) 3 n = nst (g8 F) 3 n := hstn.2.2 3 (by decide) (by decide)
          obtain ⟨wa, mg, mt, sp, h5, h6, ⟨h7, m1, m2⟩, ⟨h8, m3⟩⟩ := hsh2
          exact ⟨wa, mg, mt + (1 + a), sp + s, by rw [r00 5 (by omega) (by omega) (by omega)]; exact h5, by rw [r00 6 (by omega) (by omega) (by omega)]; exact h6, ⟨by rw [r07, h7, nI_add], by omega, by omega⟩, ⟨by rw [r08, h8, nI_add], by omega⟩⟩
        · exact hqu.leave hρ hq e (by rw [rj8]; decide) (fun j hj => by rw [h8o j hj]; exact ⟨rfl, rfl⟩) ro6 (fun o ho2 z => by rw [r0 o (by omega) (by omega) (by omega) z]) hstn.1
      have hq0 : s_queue F L (6 + ρ) 0 = nI β := queue_at h (k := 0) ho hq e
      have hcb : (nI β).toNatClampNeg = β := cl_nI (by omega)
      have hcS : (nI (S β)).toNatClampNeg = S β := cl_nI (by omega)
      have hp1 : ∀ q9, s_ofPress G (s_slipL L q (6 + ρ)) q9 (6 + ρ) 1 = G (6 + ρ) 1 := fun q9 => by
        unfold s_ofPress; rw [if_neg (by decide), if_pos (by decide)]
      have hch : s_change G β (G (6 + ρ) 1) = 0 := by
        unfold s_change
        rw [ro1, rj 4 (by omega) (by omega) (by omega) (by omega), f4, inks_0 ik2]; decide
      have hgo : nI tk - nI s = nI (tk - s) := pk_sub (by omega)
      have htold : ∀ q9, s_told F L S q q9 (6 + ρ) r (nI (1 + a)) (nI s) = 1 := fun q9 => by
        simp only [s_told, ← hG, hq0, hcb, hfi, htk, ofJob_0, f1, hcS, ofJob_k.2.1, ofJob_k.2.2.2.1, ofJob_k.2.2.2.2.1, ofJob_k.2.2.2.2.2.1, ofJob_k.2.2.2.2.2.2.2.2.2.2, ofPaper_k.2.1, ofPress_5, hp1, expected_k.2.2.2.2, hch, hgo, nI_add, show tk - s + s = tk by omega, hsh, p3, rp3, rj8, ro6, w1]
        rw [if_neg (show ¬ nI (tk - s) < (1 : Int32) from nI_nlt (b := 1) (by omega) (by omega)), if_neg (nI_nlt ht2 (by omega)), if_neg (nI_nlt ht3 (by omega)), if_pos (ht4.elim (fun z => Or.inr (by rw [z])) (fun z => Or.inl (by rw [z]))), if_pos (by first | rfl | trivial), if_pos (by rw [rj10, hgo, rj 5 (by omega) (by omega) (by omega) (by omega)]), if_pos trivial, if_pos (by rw [show (1 : Int32) = nI 1 from rfl, pk_sub (by omega)]), if_pos (by rw [ro1, rj 4 (by omega) (by omega) (by omega) (by omega)]), if_pos trivial]
      rw [← hG]
      refine ⟨hk, _, her, h3, fun _ => hI.lf, htold _, GG.mk _ hI (Or.inr ?_)⟩
      have t13 := total_up (F := F) (G := G) (f := 13) hβ hn (fun i hi => by rw [h8o i hi])
      have t12 := total_up (F := F) (G := G) (f := 12) hβ hn (fun i hi => by rw [h8o i hi])
      rw [rj 13 (by omega) (by omega) (by omega) (by omega)] at t13
      rw [rj12] at t12
      have hw : s_worthS G = s_worthS F - nI tk * F (2 + S β) 2 := by
        have hp2 := rp 2 (by omega)
        have hz : ∀ o, 2 ≤ o → o < 6 → o ≠ 2 + S β → G o = F o := fun o z1 z2 z3 => r0 o (by omega) z3 (by omega) (by omega)
        unfold s_worthS
        generalize S β = σ at rp3 hp2 hz s4 ⊢
        rcases (show σ = 0 ∨ σ = 1 ∨ σ = 2 ∨ σ = 3 by omega) with rfl | rfl | rfl | rfl <;> simp only [Nat.reduceAdd, Nat.add_zero] at rp3 hp2 hz ⊢
        · rw [hz 3 (by omega) (by omega) (by omega), hz 4 (by omega) (by omega) (by omega), hz 5 (by omega) (by omega) (by omega), rp3, hp2]; grind
        · rw [hz 2 (by omega) (by omega) (by omega), hz 4 (by omega) (by omega) (by omega), hz 5 (by omega) (by omega) (by omega), rp3, hp2]; grind
        · rw [hz 2 (by omega) (by omega) (by omega), hz 3 (by omega) (by omega) (by omega), hz 5 (by omega) (by omega) (by omega), rp3, hp2]; grind
        · rw [hz 2 (by omega) (by omega) (by omega), hz 3 (by omega) (by omega) (by omega), hz 4 (by omega) (by omega) (by omega), rp3, hp2]; grind
      unfold balN
      simp only [many_k.2.2.2.2.1, many_k.2.2.2.2.2.1, many_k.2.2.2.2.2.2.1, many_k.2.2.2.2.2.2.2.1]
      rw [r04, hw, t13, t12]
      grind
    · right; right
      rw [if_neg hsk] at her
      refine ⟨hk, q, her, h3, fun z => absurd (her.symm.trans z) (by decide), ?_, GG.same h⟩
      rcases hk with hk | hk <;> rw [hk] <;> decide
