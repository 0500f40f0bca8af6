theorem sum_new {F G : Fm} {n f : Nat} (H : ∀ i, i < n → G (17 + i) f = F (17 + i) f) (h0 : G (17 + n) f = 0) : ∀ (d k : Nat) (a : Int32), s_sum G (n + 1) f d k a = s_sum F n f d k a := by
  intro d
  induction d with
  | zero => intro k a; rfl
  | succ d ih =>
    intro k a
    unfold s_sum
    rw [ih]
    by_cases h1 : k < n
    · rw [if_pos h1, if_pos (by omega), H k h1]
    · rw [if_neg h1]
      by_cases h2 : k = n
      · subst h2; rw [if_pos (by omega), h0, Int32.add_zero]
      · rw [if_neg (by omega)]
theorem holds_nat {F : Fm} {o wi hi a b : Nat} (h0 : F o 0 = nI wi) (h1 : F o 1 = nI hi) (hw : wi ≤ 89) (hh : hi ≤ 89) (ha : 4 ≤ a) (ha2 : a ≤ 20) (hb : 4 ≤ b) (hb2 : b ≤ 20) : s_holds F o (nI a) (nI b) = nI (wi / a * (hi / b)) := by
  unfold s_holds
  rw [h0, h1, pu_div _ _ (by omega) (by omega), pu_div _ _ (by omega) (by omega), pk_mul]
theorem holds_in {wi hi a b : Nat} (hw : wi ≤ 89) (hh : hi ≤ 89) (hw2 : 40 ≤ wi) (hh2 : 40 ≤ hi) (ha : 4 ≤ a) (ha2 : a ≤ 20) (hb : 4 ≤ b) (hb2 : b ≤ 20) : 1 ≤ wi / a * (hi / b) ∧ wi / a * (hi / b) ≤ 600 ∧ wi / a * (hi / b) * a * b ≤ wi * hi := by
  have h1 : 1 ≤ wi / a := (Nat.le_div_iff_mul_le (by omega)).mpr (by omega)
  have h2 : 1 ≤ hi / b := (Nat.le_div_iff_mul_le (by omega)).mpr (by omega)
  have h3 : wi / a ≤ 22 := Nat.le_trans (Nat.div_le_div_left ha (by omega)) (by omega)
  have h4 : hi / b ≤ 22 := Nat.le_trans (Nat.div_le_div_left hb (by omega)) (by omega)
  have h5 := Nat.mul_le_mul h1 h2
  have h6 := Nat.mul_le_mul h3 h4
  have h7 := Nat.mul_le_mul (Nat.div_mul_le_self wi a) (Nat.div_mul_le_self hi b)
  refine ⟨by omega, by omega, ?_⟩
  calc wi / a * (hi / b) * a * b = wi / a * a * (hi / b * b) := by ac_rfl
    _ ≤ wi * hi := h7
theorem k_job {F : Fm} {L : Lm} {S : Sm} {n t : Nat} {q : Nat → Nat} {x jb r pp : Int32} (h : Inv F L S n q t) (hk : s_below x 13 = 0 ∨ s_below x 13 = 1) (h4 : erI 4 pp = 0) : ak_0 F L S n q x jb r pp (GG Inv t F n x) ∨ ak_1 F L S n q x jb r pp (GG Inv t F n x) := by
  obtain ⟨p, hp, e1, ep⟩ := er_p h4
  obtain ⟨a0, ha, ea⟩ := pu_below (x >>> ((5 : Int32) &&& 31)) (n := 17) (by omega) (by omega)
  have ea : s_below (x >>> ((5 : Int32) &&& 31)) 17 = nI a0 := ea
  obtain ⟨b0, hb, eb⟩ := pu_below (x >>> ((7 : Int32) &&& 31)) (n := 17) (by omega) (by omega)
  have eb : s_below (x >>> ((7 : Int32) &&& 31)) 17 = nI b0 := eb
  obtain ⟨c0, hc, ec⟩ := pu_below (x >>> ((3 : Int32) &&& 31)) (n := 1500) (by omega) (by omega)
  have ec : s_below (x >>> ((3 : Int32) &&& 31)) 1500 = nI c0 := ec
  obtain ⟨k0, hk0, ek⟩ := pu_below (x >>> ((6 : Int32) &&& 31)) (n := 15) (by omega) (by omega)
  have ek : s_below (x >>> ((6 : Int32) &&& 31)) 15 = nI k0 := ek
  unfold ak_0 ak_1
  rw [ea, eb, ec, ek, show (4 : Int32) + nI a0 = nI (4 + a0) from nI_add 4 a0, show (4 : Int32) + nI b0 = nI (4 + b0) from nI_add 4 b0, show (5 : Int32) + nI c0 = nI (5 + c0) from nI_add 5 c0, show (1 : Int32) + nI k0 = nI (1 + k0) from nI_add 1 k0]
  obtain ⟨a, rfl⟩ : ∃ a, a = 4 + a0 := ⟨_, rfl⟩
  have hA1 : 4 ≤ 4 + a0 := by omega
  have hA2 : 4 + a0 ≤ 20 := by omega
  have hB1 : 4 ≤ 4 + b0 := by omega
  have hB2 : 4 + b0 ≤ 20 := by omega
  have hC1 : 5 ≤ 5 + c0 := by omega
  have hC2 : 5 + c0 ≤ 1504 := by omega
  have hK1 : 1 ≤ 1 + k0 := by omega
  have hK2 : 1 + k0 ≤ 15 := by omega
  generalize 4 + a0 = a at *
  generalize 4 + b0 = b at *
  generalize 5 + c0 = co at *
  generalize 1 + k0 = ik at *
  obtain ⟨hn, hJ, hjb, hpp, hpr, hsh, hqu⟩ := id h
  obtain ⟨wi, hi, pr, sk, ⟨w0, w1, w2⟩, ⟨v0, v1, v2⟩, -, -⟩ := hpp (2 + p) (by omega) (by omega)
  have hh1 := holds_nat w0 v0 w2 v2 hA1 hA2 hB1 hB2
  have hh2 := holds_nat w0 v0 w2 v2 hB1 hB2 hA1 hA2
  obtain ⟨i1, i2, i3⟩ := holds_in w2 v2 w1 v1 hA1 hA2 hB1 hB2
  obtain ⟨j1, j2, j3⟩ := holds_in w2 v2 w1 v1 hB1 hB2 hA1 hA2
  have her : er_job F n pp (nI a) (nI b) (nI co) (nI ik) = if n < 20 then 0 else 3 := by
    unfold er_job
    rw [if_pos h4, if_pos (show s_out (nI a) 1 99 = 0 from pu_out (a := 1) (b := 99) (by omega) (by omega) (by omega)), if_pos (show s_out (nI b) 1 99 = 0 from pu_out (a := 1) (b := 99) (by omega) (by omega) (by omega)), if_pos (show s_out (nI co) 1 9999 = 0 from pu_out (a := 1) (b := 9999) (by omega) (by omega) (by omega)), if_pos (show s_out (nI ik) 1 15 = 0 from pu_out (a := 1) (b := 15) (by omega) (by omega) (by omega)), ep, hh1, if_neg (nI_ne0 i1 (by omega))]
    by_cases e : n < 20
    · rw [if_pos e, if_pos (show nI n < (20 : Int32) from nI_lt (b := 20) e (by omega))]
    · rw [if_neg e, if_neg (show ¬ nI n < (20 : Int32) from nI_nlt (b := 20) (by omega) (by omega))]
  by_cases e : n < 20
  · left
    rw [if_pos e] at her
    obtain ⟨G, hG⟩ : ∃ G, G = s_jobF F S n pp (nI a) (nI b) (nI co) (nI ik) := ⟨_, rfl⟩
    obtain ⟨li, hli1, hli2, hli3, hli⟩ : ∃ li : Nat, 1 ≤ li ∧ li ≤ 600 ∧ li * a * b ≤ wi * hi ∧ (if s_holds F (2 + p) (nI b) (nI a) ≤ s_holds F (2 + p) (nI a) (nI b) then s_holds F (2 + p) (nI a) (nI b) else s_holds F (2 + p) (nI b) (nI a)) = nI li := by
      by_cases z : s_holds F (2 + p) (nI b) (nI a) ≤ s_holds F (2 + p) (nI a) (nI b)
      · rw [if_pos z]; exact ⟨_, i1, i2, i3, hh1⟩
      · rw [if_neg z]
        refine ⟨_, j1, j2, ?_, hh2⟩
        calc wi / b * (hi / a) * a * b = wi / b * (hi / a) * b * a := by ac_rfl
          _ ≤ wi * hi := j3
    have hnw : ∀ o, o ≠ 17 + n → nwF F n pp (nI co) (nI ik) o = F o := fun o ho => by
      funext z; unfold nwF; rw [if_neg ho]
    have hSn : nwS S n pp.toNatClampNeg n = p := by unfold nwS; rw [if_pos rfl, ep]
    have hG2 : G = up2 (up2 (up2 (up2 (nwF F n pp (nI co) (nI ik)) (17 + n) 6 (if s_holds F (2 + p) (nI b) (nI a) ≤ s_holds F (2 + p) (nI a) (nI b) then 0 else 1)) (17 + n) 5 (nI li)) (17 + n) 7 (F (2 + p) 0 * F (2 + p) 1 - nI li * nI a * nI b)) 0 3 (nI (n + 1)) := by
      rw [hG]
      unfold s_jobF s_layF
      rw [hSn]
      have hq1 : ∀ u v, s_holds (nwF F n pp (nI co) (nI ik)) (2 + p) u v = s_holds F (2 + p) u v := fun u v => by
        unfold s_holds; rw [hnw (2 + p) (by omega)]
      rw [hq1, hq1, hli, hnw (2 + p) (by omega)]
    have hro : ∀ o, o ≠ 0 → o ≠ 17 + n → G o = F o := fun o h1 h2 => by
      rw [hG2, up2_row h1, up2_row h2, up2_row h2, up2_row h2, hnw o h2]
    have h00 : ∀ z, z ≠ 3 → G 0 z = F 0 z := fun z hz => by
      rw [hG2, up2_o hz, up2_ne (by omega), up2_ne (by omega), up2_ne (by omega), hnw 0 (by omega)]
    have h03 : G 0 3 = nI (n + 1) := by rw [hG2, up2_s]
    have hnf : ∀ z, z ≠ 5 → z ≠ 6 → z ≠ 7 → G (17 + n) z = (if z = 0 then nI n else if z = 1 then pp else if z = 3 then nI co else if z = 4 then nI ik else if z = 9 then -1 else 0) := fun z h5 h6 h7 => by
      rw [hG2, up2_ne (by omega), up2_o h7, up2_o h5, up2_o h6]
      unfold nwF; rw [if_pos rfl]
    have hn5 : G (17 + n) 5 = nI li := by rw [hG2, up2_ne (by omega), up2_o (by omega), up2_s]
    have hwh : wi * hi ≤ 89 * 89 := Nat.mul_le_mul w2 v2
    have hn7 : G (17 + n) 7 = nI (wi * hi - li * a * b) := by rw [hG2, up2_ne (by omega), up2_s, w0, v0, pk_mul, pk_mul, pk_mul, pk_sub hli3]
    have hn8 : G (17 + n) 8 = 0 := hnf 8 (by omega) (by omega) (by omega)
    have hst : ∀ v, v ≠ 0 → nst (g8 G) v (n + 1) = nst (g8 F) v n := fun v hv => by
      show nst (g8 G) v n + (if G (17 + n) 8 = v then 1 else 0) = _
      rw [hn8, if_neg (fun z => hv z.symm), Nat.add_zero]
      exact nst_eq (fun j hj => by unfold g8; rw [hro _ (by omega) (by omega)])
    have hI : Inv G (s_jobL L n) (nwS S n pp.toNatClampNeg) (n + 1) q t := by
      refine ⟨by omega, ⟨h03, ?_⟩, fun j hj => ?_, fun o h1 h2 => by rw [hro o (by omega) (by omega)]; exact hpp o h1 h2, fun o h1 h2 => by rw [hro o (by omega) (by omega)]; exact hpr o h1 h2, ?_, ?_⟩
      · funext z
        show (if (16 : Nat) = 16 then (if z = n then some n else L 16 z) else L 16 z) = if z < n + 1 then some z else none
        rw [if_pos rfl]
        by_cases hz : z = n
        · subst hz; rw [if_pos rfl, if_pos (Nat.lt_succ_self _)]
        · rw [if_neg hz, hJ.2]
          show (if z < n then some z else none) = _
          by_cases hz2 : z < n
          · rw [if_pos hz2, if_pos (by omega)]
          · rw [if_neg hz2, if_neg (by omega)]
      · by_cases hj2 : j = n
        · subst hj2
          rw [hSn]
          exact ⟨co, ik, li, 0, wi * hi - li * a * b, 0, 0, ⟨hnf 0 (by omega) (by omega) (by omega), by rw [← e1]; exact hnf 1 (by omega) (by omega) (by omega), hp⟩, ⟨hnf 3 (by omega) (by omega) (by omega), hC1, hC2⟩, ⟨hnf 4 (by omega) (by omega) (by omega), hK1, hK2⟩, ⟨hn5, hli1, hli2⟩, ⟨hn7, by omega⟩, ⟨hn8, by omega⟩, ⟨by rw [Nat.zero_mul]; exact hnf 10 (by omega) (by omega) (by omega), by omega⟩, ⟨hnf 11 (by omega) (by omega) (by omega), by omega⟩, fun _ => ⟨rfl, hnf 9 (by omega) (by omega) (by omega)⟩, fun z => absurd rfl z, fun z => absurd z (by omega), fun z => absurd z (by omega), fun _ => hnf 13 (by omega) (by omega) (by omega)⟩
        · have hSj : nwS S n pp.toNatClampNeg j = S j := by unfold nwS; rw [if_neg hj2]
          rw [hSj, hro _ (by omega) (by omega)]
          exact hjb j (by omega)
      · rw [hst 2 (by decide), hst 3 (by decide)]
        obtain ⟨wa, mg, mt, sp, h5, h6, h7, h8⟩ := hsh
        exact ⟨wa, mg, mt, sp, by rw [h00 5 (by omega)]; exact h5, by rw [h00 6 (by omega)]; exact h6, by rw [h00 7 (by omega)]; exact h7, by rw [h00 8 (by omega)]; exact h8⟩
      · obtain ⟨Q, hQ, hQ9, hcn, hsum⟩ := hqu
        refine ⟨Q, fun o ho => ⟨fun z => ?_, (hQ o ho).2.1, by rw [hro o (by omega) (by omega)]; exact (hQ o ho).2.2⟩, hQ9, fun o h1 h2 j => ?_, by rw [hst 1 (by decide)]; exact hsum⟩
        · have : s_jobL L n o z = L o z := by
            unfold s_jobL upL
            simp [show o ≠ 16 by omega]
          rw [this]; exact (hQ o ho).1 z
        · rw [hcn o h1 h2 j]
          by_cases hj2 : j = n
          · subst hj2
            rw [if_neg (fun z => absurd z.1 (Nat.lt_irrefl _)), if_neg (fun z => by rw [hn8] at z; exact absurd z.2.1 (by decide))]
          · rw [hro (17 + j) (by omega) (by omega)]
            by_cases hj3 : j < n
            · simp [hj3, show j < n + 1 by omega]
            · rw [if_neg (fun z => hj3 z.1), if_neg (fun z => absurd z.1 (by omega))]
    rw [← hG]
    refine ⟨hk, her, hI.lf.1, ?_, GG.mk q hI.next (Or.inr ?_)⟩
    · rw [many_0, h03, nI_pred, if_pos rfl]
    · refine bal_eq (h00 4 (by omega)) ?_ (sum_new (fun i hi2 => by rw [hro _ (by omega) (by omega)]) (hnf 13 (by omega) (by omega) (by omega)) _ _ _) (sum_new (fun i hi2 => by rw [hro _ (by omega) (by omega)]) (hnf 12 (by omega) (by omega) (by omega)) _ _ _)
      unfold s_worthS
      rw [hro 2 (by omega) (by omega), hro 3 (by omega) (by omega), hro 4 (by omega) (by omega), hro 5 (by omega) (by omega)]
  · right
    rw [if_neg e] at her
    refine ⟨hk, her, ?_, GG.same h⟩
    rcases hk with hk | hk <;> rw [hk] <;> decide
