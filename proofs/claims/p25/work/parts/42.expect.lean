/-! ===== what is expected of a job on a press, in numbers ===== -/
theorem dv_up (x li : Nat) (hl : 1 ≤ li) : (x + li - 1) / li ≤ x ∧ x ≤ (x + li - 1) / li * li ∧ (1 ≤ x → 1 ≤ (x + li - 1) / li ∧ ((x + li - 1) / li - 1) * li < x) := by
  have h1 := Nat.div_add_mod (x + li - 1) li
  have h2 := Nat.mod_lt (x + li - 1) hl
  generalize (x + li - 1) / li = d at *
  generalize (x + li - 1) % li = r at *
  rw [Nat.mul_comm] at h1
  refine ⟨?_, by omega, fun hx => ?_⟩
  · rcases Nat.lt_or_ge x d with h | h
    · exfalso
      have h3 : (x + 1) * li ≤ d * li := Nat.mul_le_mul_right li h
      have h4 : x * 1 ≤ x * li := Nat.mul_le_mul_left x hl
      rw [Nat.add_mul] at h3
      omega
    · exact h
  · have hd : 1 ≤ d := by
      rcases Nat.eq_zero_or_pos d with h | h
      · subst h; omega
      · exact h
    refine ⟨hd, ?_⟩
    rw [Nat.sub_mul]
    omega
theorem sheets_eq {F : Fm} {j co m li : Nat} (h3 : F (17 + j) 3 = nI co) (h10 : F (17 + j) 10 = nI m) (h5 : F (17 + j) 5 = nI li) (hc : co ≤ 1504) (hm : m ≤ 2200) (hl : 1 ≤ li) (hl2 : li ≤ 600) : s_sheets F j = nI ((co - m + li - 1) / li) := by
  unfold s_sheets
  rw [h3, h10, h5, pu_sub0 co m (by omega) (by omega), pu_divUp _ _ hl (by omega)]
theorem passes_eq {F : Fm} {o j ik to : Nat} (h4 : F (17 + j) 4 = nI ik) (hi : 1 ≤ ik) (hi2 : ik ≤ 15) (h0 : F o 0 = nI to) (ht : 1 ≤ to) (ht2 : to ≤ 4) : ∃ pa : Nat, 1 ≤ pa ∧ pa ≤ 4 ∧ s_passes F o j = nI pa := by
  obtain ⟨c, hc, hc1, hb⟩ := pu_bit hi2
  have hd := dv_up c to ht
  have hc1 := hc1 (by omega)
  refine ⟨(c + to - 1) / to, (hd.2.2 hc1).1, by omega, ?_⟩
  unfold s_passes
  rw [h4, hb, h0, pu_divUp _ _ ht (by omega)]
theorem change_eq {F : Fm} {j ik : Nat} (h4 : F (17 + j) 4 = nI ik) (hi2 : ik ≤ 15) (i : Int32) : ∃ ch : Nat, ch ≤ 16 ∧ s_change F j i = nI ch := by
  obtain ⟨c, hc, e⟩ := pu_and hi2 (i ^^^ (-1))
  obtain ⟨b, hb, -, hb2⟩ := pu_bit hc
  refine ⟨4 * b, by omega, ?_⟩
  unfold s_change
  rw [h4, e, hb2, show (4 : Int32) = nI 4 from rfl, pk_mul]
theorem ex_all {F : Fm} {o j s : Nat} (hj : jbR (F (17 + j)) s j) (hp : prR (F o)) (i : Int32) : ∃ sh pa ch ne mi : Nat, s_sheets F j = nI sh ∧ s_passes F o j = nI pa ∧ s_change F j i = nI ch ∧ s_needed F o j = nI ne ∧ s_minutes F o j i = nI mi ∧ sh ≤ 1504 ∧ (1 ≤ pa ∧ pa ≤ 4) ∧ ch ≤ 16 ∧ ne ≤ 3027 ∧ 1 ≤ mi ∧ mi ≤ 16200 := by
  obtain ⟨co, ik, li, mu, le, qu, st, -, ⟨h3, c1, c2⟩, ⟨h4, k1, k2⟩, ⟨h5, l1, l2⟩, -, -, ⟨h10, m1⟩, -⟩ := hj
  obtain ⟨to, re, ru, sp, ⟨p0, t1, t2⟩, ⟨p2, r1, r2⟩, ⟨p3, u1, u2⟩, ⟨p4, s1⟩⟩ := hp
  have hsh := sheets_eq h3 h10 h5 c2 m1 l1 l2
  have hd := (dv_up (co - mu * li) li l1).1
  generalize (co - mu * li + li - 1) / li = sh at *
  obtain ⟨pa, a1, a2, hpa⟩ := passes_eq h4 k1 k2 p0 t1 t2
  obtain ⟨ch, c3, hch⟩ := change_eq h4 k2 i
  have hss : sh * sp ≤ 1504 * 999 := Nat.mul_le_mul (by omega) s1
  have hsp : s_spoiled F o j = nI (sh * sp / 1000 + 5 * pa) := by
    unfold s_spoiled
    rw [hsh, p4, hpa, pk_mul, show (1000 : Int32) = nI 1000 from rfl, pk_div (by omega) (by omega) (by omega), show (5 : Int32) = nI 5 from rfl, pk_mul, nI_add]
  have hne : s_needed F o j = nI (sh + (sh * sp / 1000 + 5 * pa)) := by
    unfold s_needed
    rw [hsp, hsh, nI_add]
  have hneb : sh + (sh * sp / 1000 + 5 * pa) ≤ 3027 := by omega
  generalize sh + (sh * sp / 1000 + 5 * pa) = ne at *
  have hr1 : ne * ru ≤ 3027 * 999 := Nat.mul_le_mul hneb u2
  have hr2 : ne * ru * pa ≤ 3027 * 999 * 4 := Nat.mul_le_mul hr1 a2
  have hrn : s_running F o j = lN (ne * ru * pa / 1000) := by
    unfold s_running
    rw [hne, p3, hpa, nI_l (by omega), nI_l (by omega), nI_l (by omega), lN_mul, lN_mul, show (1000 : Int64) = lN 1000 from rfl, pk_lDiv (by omega) (by omega) (by omega)]
  have hrp : re * pa ≤ 999 * 4 := Nat.mul_le_mul r2 a2
  have hrp1 : 1 * 1 ≤ re * pa := Nat.mul_le_mul r1 a1
  refine ⟨sh, pa, ch, ne, ch + re * pa + ne * ru * pa / 1000, hsh, hpa, hch, hne, ?_, by omega, ⟨a1, a2⟩, c3, hneb, by omega, by omega⟩
  unfold s_minutes
  rw [hch, p2, hpa, hrn, lN_i, pk_mul, nI_add, nI_add]
theorem ex_cost {F : Fm} {S : Sm} {o j t pi : Nat} (hj : jbR (F (17 + j)) (S j) j) (hp : prR (F o)) (hpp : ppR (F (2 + S j))) (hs : shR (F 0) t pi) (i : Int32) : ∃ cc qu : Nat, s_cost F S o j i = nI cc ∧ s_quote F S o j i = nI qu ∧ cc ≤ qu ∧ qu ≤ 2000000 ∧ cc ≤ 540000 := by
  obtain ⟨sh, pa, ch, ne, mi, -, -, -, hne, hmi, -, -, -, b1, b2, b3⟩ := ex_all hj hp i
  obtain ⟨co, ik, li, mu, le, qu, st, -, -, ⟨h4, k1, k2⟩, -⟩ := hj
  obtain ⟨wi, hi, pr, sk, -, -, ⟨q2, r1, r2⟩, -⟩ := hpp
  obtain ⟨wa, mg, mt, sp, ⟨w5, w1, w2⟩, ⟨w6, g1⟩, -⟩ := hs
  obtain ⟨c, hc, hc1, hb⟩ := pu_bit k2
  have e1 : mi * wa ≤ 16200 * 30 := Nat.mul_le_mul b3 w2
  have e2 : ne * pr ≤ 3027 * 15 := Nat.mul_le_mul b1 r2
  have hcost : s_cost F S o j i = nI (mi * wa + 200 * c + ne * pr) := by
    unfold s_cost s_ink
    rw [hmi, w5, hne, q2, h4, hb, show (200 : Int32) = nI 200 from rfl, pk_mul, pk_mul, pk_mul, nI_add, nI_add]
  have hcc : mi * wa + 200 * c + ne * pr ≤ 540000 := by omega
  generalize mi * wa + 200 * c + ne * pr = cc at *
  have e3 : cc * (100 + mg) ≤ 540000 * 189 := Nat.mul_le_mul hcc (by omega)
  have e4 : cc * 100 ≤ cc * (100 + mg) := Nat.mul_le_mul_left cc (by omega)
  refine ⟨cc, cc * (100 + mg) / 100, hcost, ?_, by omega, by omega, hcc⟩
  unfold s_quote
  rw [hcost, w6, show (100 : Int32) = nI 100 from rfl, nI_add, nI_l (by omega), nI_l (by omega), lN_mul, show (100 : Int64) = lN 100 from rfl, pk_lDiv (by omega) (by omega) (by omega), lN_i]
