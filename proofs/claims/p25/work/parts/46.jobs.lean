theorem Inv.mk {F : Fm} {L : Lm} {S : Sm} {n t k : Nat} {q : Nat → Nat} (h : Inv F L S n q t) (hk : k < n) : jj_mk F L q k = (if F (17 + k) 8 = 1 then 1 else 0) := by
  have h0 := h
  obtain ⟨hn, hJ, hjb, hpp, hpr, hsh, Q, hQ, hQ9, hc, hsum⟩ := h
  obtain ⟨co, ik, li, mu, le, qu, st, -, -, -, -, -, ⟨h8, s1⟩, -, -, -, hs9, -⟩ := hjb k hk
  unfold jj_mk
  rw [show 6 + (0 : Int32).toNatClampNeg = 6 from by decide, show 6 + (1 : Int32).toNatClampNeg = 7 from by decide, show 6 + (2 : Int32).toNatClampNeg = 8 from by decide]
  have m6 := mkP_nat (r := 0) (o := 6) (i := k) h0 (by omega) hk (hQ 6 (by omega)).1 (hQ 6 (by omega)).2.1 (q 6) 0 0 (by rw [(hQ 6 (by omega)).2.1, Nat.zero_add])
  have m7 := fun a => mkP_nat (r := 1) (o := 7) (i := k) h0 (by omega) hk (hQ 7 (by omega)).1 (hQ 7 (by omega)).2.1 (q 7) 0 a (by rw [(hQ 7 (by omega)).2.1, Nat.zero_add])
  have m8 := fun a => mkP_nat (r := 2) (o := 8) (i := k) h0 (by omega) hk (hQ 8 (by omega)).1 (hQ 8 (by omega)).2.1 (q 8) 0 a (by rw [(hQ 8 (by omega)).2.1, Nat.zero_add])
  rw [show (s_mkP F L (nI k) (0 : Int32) 6 (q 6) 0 0) = s_mkP F L (nI k) (nI 0) 6 (q 6) 0 (nI 0) from rfl, m6, show (1 : Int32) = nI 1 from rfl, m7, show (2 : Int32) = nI 2 from rfl, m8]
  have c6 := hc 6 (by omega) (by omega) k
  have c7 := hc 7 (by omega) (by omega) k
  have c8 := hc 8 (by omega) (by omega) k
  rw [List.drop_zero, List.drop_zero, List.drop_zero, c6, c7, c8, h8, show (1 : Int32) = nI 1 from rfl]
  by_cases e1 : st = 1
  · subst e1
    obtain ⟨pr, hpr3, h9⟩ := hs9 (by omega)
    rw [h9, if_pos rfl]
    rcases (show pr = 0 ∨ pr = 1 ∨ pr = 2 by omega) with rfl | rfl | rfl <;> simp [hk, nI_eq]
  · have e2 : ¬ nI st = nI 1 := by rw [nI_eq (by omega) (by omega)]; exact e1
    rw [if_neg e2]
    simp [e2]
    rfl
theorem Inv.jk {F : Fm} {L : Lm} {S : Sm} {n t k : Nat} {q : Nat → Nat} (h : Inv F L S n q t) (hk : k < n) : jj_ok F L S q k := by
  have hmk := h.mk hk
  have h0 := h
  obtain ⟨hn, hJ, hjb, hpp, hpr, hsh, -⟩ := h
  have hj := hjb k hk
  obtain ⟨co, ik, li, mu, le, qu, st, ⟨-, -, hS4⟩, ⟨f3, co1, co2⟩, ⟨f4, ik1, ik2⟩, ⟨f5, li1, li2⟩, ⟨f7, le1⟩, ⟨f8, st1⟩, ⟨f10, mu1⟩, ⟨f11, qu1⟩, g0, g1, g2, g3, g4⟩ := hjb k hk
  have hshe := sheets_eq f3 f10 f5 co2 mu1 li1 li2
  have hd := dv_up (co - mu * li) li li1
  unfold jj_ok
  rw [cl_nI (by omega), ofJob_k.1, ofJob_k.2.1, ofJob_k.2.2.1, ofJob_k.2.2.2.1, ofJob_k.2.2.2.2.1, ofJob_k.2.2.2.2.2.1, ofJob_k.2.2.2.2.2.2.1, ofJob_k.2.2.2.2.2.2.2.2.1, ofJob_k.2.2.2.2.2.2.2.2.2.1, hmk, hshe, f3, f5, f7, f8, f10, f11]
  generalize (co - mu * li + li - 1) / li = sh at *
  have hshb : sh ≤ 1504 := by omega
  have hsl : sh * li ≤ 1504 * 600 := Nat.mul_le_mul hshb li2
  refine ⟨vp_in_nI st1 (by decide), rfl, ⟨fun h => ?_, fun h => ?_⟩, ⟨nI_ne0 li1 (by omega), ?_, nI_nlt (b := 1) li1 (by omega), nI_pos' (by omega)⟩, ?_, ?_, ?_, fun r hr => ?_⟩
  · rw [show (0 : Int32) = nI 0 from rfl, nI_eq (by omega) (by omega)] at h
    exact (g0 h).2
  · by_cases e : st = 0
    · rw [e]; rfl
    · obtain ⟨pr, hp3, e9⟩ := g1 e
      rw [e9] at h
      have h5 : (nI pr).toInt = -1 := by rw [h]; decide
      rw [nI_toInt (by omega)] at h5
      omega
  · rw [pk_rem (by omega) li1 (by omega), Nat.mul_mod_left]; rfl
  · by_cases e : mu * li < co
    · left
      obtain ⟨h1, h2⟩ := hd.2.2 (by omega)
      refine ⟨nI_lt e (by omega), ?_, ?_⟩
      · rw [pk_mul, pk_sub (by omega)]
        exact nI_nlt (by omega) (by omega)
      · rw [show (1 : Int32) = nI 1 from rfl, pk_sub h1, pk_mul, pk_sub (by omega)]
        exact nI_lt h2 (by omega)
    · right
      refine ⟨nI_nlt (by omega) (by omega), ?_⟩
      rw [show sh = 0 by omega]; rfl
  · by_cases e : st = 3
    · right
      obtain ⟨h1, -⟩ := g3 e
      rw [show (20 : Int32) = nI 20 from rfl, pk_div (by omega) (by omega) (by omega), pk_sub (by omega)]
      exact nI_nlt h1 (by omega)
    · left
      rw [show (3 : Int32) = nI 3 from rfl, nI_eq (by omega) (by omega)]; exact e
  · by_cases e : st = 3
    · by_cases hq : qu ≤ co
      · right; exact nI_le hq (by omega)
      · left
        obtain ⟨h1, h2⟩ := g3 e
        have hw : ∃ wv : Nat, 1 ≤ wv ∧ wv < 2 ^ 31 ∧ F (17 + k) 13 = nI wv := by
          have hm1 : 1 ≤ min (mu * li) (co + co / 10) := by omega
          have hm2 : min (mu * li) (co + co / 10) ≤ 2200 := by omega
          refine ⟨qu * min (mu * li) (co + co / 10) / co, ?_, ?_, ?_⟩
          · refine (Nat.le_div_iff_mul_le (by omega)).mpr ?_
            have := Nat.mul_le_mul (show co ≤ qu by omega) hm1
            omega
          · have h5 : qu * min (mu * li) (co + co / 10) / co ≤ qu * min (mu * li) (co + co / 10) / 5 := Nat.div_le_div_left co1 (by omega)
            have h6 : qu * min (mu * li) (co + co / 10) ≤ 2000000 * 2200 := Nat.mul_le_mul qu1 hm2
            omega
          · have h6 : qu * min (mu * li) (co + co / 10) ≤ 2000000 * 2200 := Nat.mul_le_mul qu1 hm2
            rw [h2]
            unfold wR
            rw [f3, f10, f11, if_neg (nI_ne0 (by omega) (by omega)), show (10 : Int32) = nI 10 from rfl, pk_div (by omega) (by omega) (by omega), nI_add, pu_mn _ _ (by omega) (by omega), nI_l (by omega), nI_l (by omega), nI_l (by omega), lN_mul, pk_lDiv (by omega) (by omega) (by omega), lN_i]
        obtain ⟨wv, w1, w2, hw⟩ := hw
        rw [hw, e]
        exact ⟨fun _ => by rw [show (0 : Int32) = nI 0 from rfl]; exact nI_ge (by omega) (by omega), fun _ => rfl⟩
    · left
      rw [g4 e, show (3 : Int32) = nI 3 from rfl, nI_eq (by omega) (by omega)]
      exact ⟨fun h => absurd h e, fun h => absurd (Int32.le_refl _) h⟩
  · obtain ⟨ρ, hρ, -, e2⟩ := er_o hr
    have hP := hpp (2 + S k) (by omega) (by omega)
    obtain ⟨a, qa, ha, hqa, a1, a2, a3⟩ := ex_cost hj (hpr 6 (by omega) (by omega)) hP hsh (F 6 1)
    obtain ⟨b, qb, hb, hqb, b1, b2, b3⟩ := ex_cost hj (hpr 7 (by omega) (by omega)) hP hsh (F 7 1)
    obtain ⟨c, qc, hc, hqc, c1, c2, c3⟩ := ex_cost hj (hpr 8 (by omega) (by omega)) hP hsh (F 8 1)
    rw [expected_k.2.2.1, expected_k.2.2.1, expected_k.2.2.2.1, e2]
    rcases best_nat ha hb hc a3 b3 c3 with ⟨e, x1, x2⟩ | ⟨e, x1, x2⟩ | ⟨e, x1, x2⟩ <;> rw [e, cl_nI (by omega)] <;> rcases (show ρ = 0 ∨ ρ = 1 ∨ ρ = 2 by omega) with rfl | rfl | rfl <;> simp only [Nat.add_zero, Nat.reduceAdd, ha, hb, hc, hqa, hqb, hqc] <;> exact ⟨nI_nlt (by omega) (by omega), nI_le (by omega) (by omega)⟩
theorem Inv.jj {F : Fm} {L : Lm} {S : Sm} {n t : Nat} {q : Nat → Nat} (h : Inv F L S n q t) : jj_all F L S n q := by
  have h0 := h
  obtain ⟨hn, hJ, hjb, hpp, hpr, hsh, -⟩ := h
  have hz : ∀ v : Nat, v < 4 → s_tly F n 0 (fun _ => 0) v = nI (nst (g8 F) (nI v) n) := fun v hv => by
    have := tly_nat hjb hv hn n 0 0 (fun _ => 0) (Nat.zero_add n) rfl
    rw [Nat.zero_add] at this; exact this
  have hsp := spd_sum (F := F) hn (20 - n) n 0 0 (Nat.zero_add n)
  rw [show n + (20 - n) = 20 by omega] at hsp
  refine ⟨fun k hk => h0.jk hk, ?_, ?_, ?_, ?_, ?_, ?_⟩
  · rw [show (0 : Int32).toNatClampNeg = 0 from by decide, hz 0 (by omega), show (1 + 0 : Int32) = 1 from by decide, many_k.1, count_nst hn]; rfl
  · rw [show (1 : Int32).toNatClampNeg = 1 from by decide, hz 1 (by omega), show (1 + 1 : Int32) = 2 from by decide, many_k.2.1, count_nst hn]; rfl
  · rw [show (2 : Int32).toNatClampNeg = 2 from by decide, hz 2 (by omega), show (1 + 2 : Int32) = 3 from by decide, many_k.2.2.1, count_nst hn]; rfl
  · rw [show (3 : Int32).toNatClampNeg = 3 from by decide, hz 3 (by omega), show (1 + 3 : Int32) = 4 from by decide, many_k.2.2.2.1, count_nst hn]; rfl
  · rw [many_k.2.2.2.2.2.2.1, hsp.1]; rfl
  · rw [many_k.2.2.2.2.2.1, hsp.2]; rfl
