theorem bring_step {F : Fm} {L : Lm} {S : Sm} {n t p l sk : Nat} {q : Nat → Nat} (h : Inv F L S n q t) (hp : p < 4) (h3 : F (2 + p) 3 = nI sk) (hl : sk + l * 250 ≤ 99999) : Inv (s_bring F (2 + p) (nI l)) L S n q t ∧ (∀ j, s_bring F (2 + p) (nI l) (17 + j) = F (17 + j)) ∧ s_bring F (2 + p) (nI l) 0 4 - F 0 4 + s_worthS (s_bring F (2 + p) (nI l)) - s_worthS F = 0 := by
  have hro : ∀ a, a ≠ 0 → a ≠ 2 + p → s_bring F (2 + p) (nI l) a = F a := fun a h0 h1 => by
    unfold s_bring
    rw [up2_row h0, up2_row h1]
  have h00 : ∀ b, b ≠ 4 → s_bring F (2 + p) (nI l) 0 b = F 0 b := fun b hb => by
    unfold s_bring
    rw [up2_in, if_neg hb, up2_ne (by omega)]
  have hpo : ∀ b, b ≠ 3 → s_bring F (2 + p) (nI l) (2 + p) b = F (2 + p) b := fun b hb => by
    unfold s_bring
    rw [up2_row (by omega), up2_in, if_neg hb]
  have hp3 : s_bring F (2 + p) (nI l) (2 + p) 3 = F (2 + p) 3 + nI l * 250 := by
    unfold s_bring
    rw [up2_row (by omega), up2_in, if_pos rfl]
  have h04 : s_bring F (2 + p) (nI l) 0 4 = F 0 4 - nI l * 250 * F (2 + p) 2 := by
    unfold s_bring
    rw [up2_in, if_pos rfl, up2_ne (by omega), up2_o (by omega)]
  refine ⟨h.congr (h00 3 (by omega)) (fun j _ => hro _ (by omega) (by omega)) (fun o h1 h2 => ?_) (fun o h1 h2 => ?_) (fun o ho => ?_) (fun pi hs => ?_), fun j => hro _ (by omega) (by omega), ?_⟩
  · by_cases e : o = 2 + p
    · subst e
      refine (h.2.2.2.1 (2 + p) h1 h2).up (hpo 0 (by omega)) (hpo 1 (by omega)) (hpo 2 (by omega)) (sk := sk + l * 250) ?_ hl
      rw [hp3, h3, show (250 : Int32) = nI 250 from rfl, pk_mul, nI_add]
    · rw [hro o (by omega) e]; exact h.2.2.2.1 o h1 h2
  · rw [hro o (by omega) (by omega)]; exact h.2.2.2.2.1 o h1 h2
  · rw [hro o (by omega) (by omega)]
  · obtain ⟨wa, mg, mt, sp, h5, h6, h7, h8⟩ := hs
    exact ⟨wa, mg, mt, sp, by rw [h00 5 (by omega)]; exact h5, by rw [h00 6 (by omega)]; exact h6, by rw [h00 7 (by omega)]; exact h7, by rw [h00 8 (by omega)]; exact h8⟩
  · have hp2 := hpo 2 (by omega)
    unfold s_worthS
    rw [h04]
    rcases (show p = 0 ∨ p = 1 ∨ p = 2 ∨ p = 3 by omega) with rfl | rfl | rfl | rfl <;> simp only [Nat.reduceAdd, Nat.add_zero] at *
    · rw [hro 3 (by omega) (by omega), hro 4 (by omega) (by omega), hro 5 (by omega) (by omega), hp3, hp2]; grind
    · rw [hro 2 (by omega) (by omega), hro 4 (by omega) (by omega), hro 5 (by omega) (by omega), hp3, hp2]; grind
    · rw [hro 2 (by omega) (by omega), hro 3 (by omega) (by omega), hro 5 (by omega) (by omega), hp3, hp2]; grind
    · rw [hro 2 (by omega) (by omega), hro 3 (by omega) (by omega), hro 4 (by omega) (by omega), hp3, hp2]; grind
theorem room_nat {F : Fm} {o sk : Nat} (h3 : F o 3 = nI sk) (hs : sk ≤ 99999) : s_room F o = nI ((99999 - sk) / 250) := by
  unfold s_room
  rw [h3, show (99999 : Int32) = nI 99999 from rfl, pk_sub hs, show (250 : Int32) = nI 250 from rfl, pk_div (by omega) (by omega) (by omega)]
theorem k_buy {F : Fm} {L : Lm} {S : Sm} {n t : Nat} {q : Nat → Nat} {x jb r pp : Int32} (h : Inv F L S n q t) (hk : s_below x 13 = 4) (h4 : erI 4 pp = 0) : ak_5 F L S n q x jb r pp (GG Inv t F n x) ∨ ak_6 F L S n q x jb r pp (GG Inv t F n x) := by
  obtain ⟨p, hp, e1, ep⟩ := er_p h4
  obtain ⟨c, hc, ec⟩ := pu_below (x >>> ((6 : Int32) &&& 31)) (n := 4) (by omega) (by omega)
  have ec : s_below (x >>> ((6 : Int32) &&& 31)) 4 = nI c := ec
  obtain ⟨wi, hi, pr, sk, -, -, -, ⟨h3, s1⟩⟩ := h.2.2.2.1 (2 + p) (by omega) (by omega)
  have hr := room_nat h3 s1
  have her : er_buy F pp (1 + nI c) = if 1 + c ≤ (99999 - sk) / 250 then 0 else 2 := by
    unfold er_buy
    rw [if_pos h4, ep, hr, show (1 : Int32) + nI c = nI (1 + c) from nI_add 1 c, if_pos (show s_out (nI (1 + c)) 1 40 = 0 from pu_out (a := 1) (b := 40) (by omega) (by omega) (by omega))]
    by_cases hh : 1 + c ≤ (99999 - sk) / 250
    · rw [if_pos hh, if_pos (nI_le hh (by omega))]
    · rw [if_neg hh, if_neg (nI_ge (by omega) (by omega))]
  by_cases hh : 1 + c ≤ (99999 - sk) / 250
  · left
    rw [if_pos hh] at her
    obtain ⟨b1, b2, b3⟩ := bring_step (l := 1 + c) h hp h3 (by omega)
    unfold ak_5
    rw [ec, ep]
    refine ⟨hk, her, h4, ?_, ?_⟩
    · rw [ofPaper_k.2.1, if_pos rfl]
    · rw [show (1 : Int32) + nI c = nI (1 + c) from nI_add 1 c]
      exact GG.mk q b1.next (Or.inr (bal_jobs (fun j _ => b2 j) b3))
  · right
    rw [if_neg hh] at her
    unfold ak_6
    rw [ec]
    exact ⟨hk, her, by rw [if_pos hk], GG.same h⟩
theorem nee_nat {F : Fm} {L : Lm} {S : Sm} {n t x o : Nat} {q : Nat → Nat} (h : Inv F L S n q t) (ho : 6 ≤ o ∧ o < 9) : ∀ (d k a : Nat), k + d = q o → a + d * 3027 < 2 ^ 30 → ∃ y : Nat, s_nee F L S x o d k (nI a) = nI y ∧ y ≤ a + d * 3027 := by
  intro d
  induction d with
  | zero => intro k a _ _; exact ⟨a, rfl, by omega⟩
  | succ d ih =>
    intro k a hk hb
    have hk1 : k + 1 + d = q o := by omega
    have hb2 : a + d * 3027 ≤ a + (d + 1) * 3027 := by omega
    have hb1 : a + d * 3027 < 2 ^ 30 := Nat.lt_of_le_of_lt hb2 hb
    obtain ⟨j, hj, e⟩ := h.full (o := o) (by omega) (k := k) (by omega)
    obtain ⟨sh, pa, ch, ne, mi, -, -, -, hne, -, -, -, -, n1, -⟩ := ex_all (h.2.2.1 j hj) (h.2.2.2.2.1 o ho.1 ho.2) 0
    unfold s_nee
    rw [e]
    show ∃ y : Nat, s_nee F L S x o d (k + 1) (if 2 + S j = x then nI a + s_needed F o j else nI a) = nI y ∧ y ≤ a + (d + 1) * 3027
    by_cases hh : 2 + S j = x
    · rw [if_pos hh, hne, nI_add]
      obtain ⟨y, h1, h2⟩ := ih (k + 1) (a + ne) (by omega) (by omega)
      exact ⟨y, h1, by omega⟩
    · rw [if_neg hh]
      obtain ⟨y, h1, h2⟩ := ih (k + 1) a hk1 hb1
      exact ⟨y, h1, Nat.le_trans h2 hb2⟩
theorem lots_nat {F : Fm} {L : Lm} {S : Sm} {n t p sk : Nat} {q : Nat → Nat} (h : Inv F L S n q t) (h3 : F (2 + p) 3 = nI sk) (hs : sk ≤ 99999) : ∃ l : Nat, s_lots F L S q (2 + p) = nI l ∧ l ≤ 40 ∧ sk + l * 250 ≤ 99999 := by
  have hlf := h.lf
  have hq := fun o ho => (hlf.1.2.2.2 o ho).2.1
  have q6 := hq 6 (by omega)
  have q7 := hq 7 (by omega)
  have q8 := hq 8 (by omega)
  obtain ⟨a, ha, a1⟩ := nee_nat (x := 2 + p) (o := 6) h (by omega) (q 6) 0 0 (Nat.zero_add _) (by omega)
  obtain ⟨b, hb, b1⟩ := nee_nat (x := 2 + p) (o := 7) h (by omega) (q 7) 0 0 (Nat.zero_add _) (by omega)
  obtain ⟨c, hc, c1⟩ := nee_nat (x := 2 + p) (o := 8) h (by omega) (q 8) 0 0 (Nat.zero_add _) (by omega)
  have hf : s_fore F L S q (2 + p) = nI (a + b + c) := by
    unfold s_fore s_neededOf
    rw [show (0 : Int32) = nI 0 from rfl, ha, hb, hc, nI_add, nI_add, nI_add, Nat.zero_add]
  have hsh : s_short F L S q (2 + p) = nI (a + b + c - sk) := by
    unfold s_short
    rw [hf, h3, pu_sub0 _ _ (by omega) (by omega)]
  have hr := room_nat h3 hs
  refine ⟨min (min ((a + b + c - sk + 250 - 1) / 250) 40) ((99999 - sk) / 250), ?_, by omega, by omega⟩
  unfold s_lots
  rw [hsh, hr, show (250 : Int32) = nI 250 from rfl, pu_divUp _ _ (by omega) (by omega), show (40 : Int32) = nI 40 from rfl, pu_mn _ _ (by omega) (by omega), pu_mn _ _ (by omega) (by omega)]
theorem buyF_step {F : Fm} {L : Lm} {S : Sm} {n t p : Nat} {q : Nat → Nat} (h : Inv F L S n q t) (hp : p < 4) : Inv (s_buyF F L S q (2 + p)) L S n q t ∧ (∀ j, s_buyF F L S q (2 + p) (17 + j) = F (17 + j)) ∧ s_buyF F L S q (2 + p) 0 4 - F 0 4 + s_worthS (s_buyF F L S q (2 + p)) - s_worthS F = 0 ∧ ∃ l : Nat, s_lots F L S q (2 + p) = nI l ∧ l ≤ 40 := by
  obtain ⟨wi, hi, pr, sk, -, -, -, ⟨h3, s1⟩⟩ := h.2.2.2.1 (2 + p) (by omega) (by omega)
  obtain ⟨l, hl, l1, l2⟩ := lots_nat h h3 s1
  obtain ⟨b1, b2, b3⟩ := bring_step h hp h3 l2
  unfold s_buyF
  rw [hl]
  exact ⟨b1, b2, b3, l, rfl, l1⟩
theorem k_buyAll {F : Fm} {L : Lm} {S : Sm} {n t : Nat} {q : Nat → Nat} {x jb r pp : Int32} (h : Inv F L S n q t) (hk : s_below x 13 = 5) : ak_7 F L S n q x jb r pp (GG Inv t F n x) := by
  obtain ⟨i2, j2, m2, l2, e2, b2⟩ := buyF_step (p := 0) h (by omega)
  have i2 : Inv (s_bA2 F L S q) L S n q t := i2
  obtain ⟨i3, j3, m3, l3, e3, b3⟩ := buyF_step (p := 1) i2 (by omega)
  have i3 : Inv (s_bA3 F L S q) L S n q t := i3
  obtain ⟨i4, j4, m4, l4, e4, b4⟩ := buyF_step (p := 2) i3 (by omega)
  have i4 : Inv (s_bA4 F L S q) L S n q t := i4
  obtain ⟨i5, j5, m5, l5, e5, b5⟩ := buyF_step (p := 3) i4 (by omega)
  have i5 : Inv (s_bA5 F L S q) L S n q t := i5
  unfold ak_7
  refine ⟨hk, ?_, GG.mk q i5.next (Or.inr (bal_jobs (fun j _ => ?_) ?_))⟩
  · have hb : s_bought F L S q = nI (l2 + l3 + l4 + l5) := by
      unfold s_bought
      rw [show s_lots F L S q 2 = nI l2 from e2, show s_lots (s_bA2 F L S q) L S q 3 = nI l3 from e3, show s_lots (s_bA3 F L S q) L S q 4 = nI l4 from e4, show s_lots (s_bA4 F L S q) L S q 5 = nI l5 from e5, show (0 : Int32) = nI 0 from rfl, nI_add, nI_add, nI_add, nI_add, Nat.zero_add]
    rw [hb, if_neg (nI_pos (by omega)), if_neg (show ¬ (160 : Int32) < nI (l2 + l3 + l4 + l5) from nI_nlt (a := 160) (by omega) (by omega))]
  · exact (j5 j).trans ((j4 j).trans ((j3 j).trans (j2 j)))
  · have m2 : s_bA2 F L S q 0 4 - F 0 4 + s_worthS (s_bA2 F L S q) - s_worthS F = 0 := m2
    have m3 : s_bA3 F L S q 0 4 - s_bA2 F L S q 0 4 + s_worthS (s_bA3 F L S q) - s_worthS (s_bA2 F L S q) = 0 := m3
    have m4 : s_bA4 F L S q 0 4 - s_bA3 F L S q 0 4 + s_worthS (s_bA4 F L S q) - s_worthS (s_bA3 F L S q) = 0 := m4
    have m5 : s_bA5 F L S q 0 4 - s_bA4 F L S q 0 4 + s_worthS (s_bA5 F L S q) - s_worthS (s_bA4 F L S q) = 0 := m5
    grind
