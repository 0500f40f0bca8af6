theorem k_terms {F : Fm} {L : Lm} {S : Sm} {n t : Nat} {q : Nat → Nat} {x jb r pp : Int32} (h : Inv F L S n q t) (hk : s_below x 13 = 12) (hb : s_below (x >>> ((6 : Int32) &&& 31)) 2 = 0) : ak_19 F L S n q x jb r pp (GG Inv t F n x) := by
  obtain ⟨a, ha, ea⟩ := pu_below (x >>> ((5 : Int32) &&& 31)) (n := 30) (by omega) (by omega)
  have ea : s_below (x >>> ((5 : Int32) &&& 31)) 30 = nI a := ea
  obtain ⟨m, hm, em⟩ := pu_below (x >>> ((7 : Int32) &&& 31)) (n := 90) (by omega) (by omega)
  have em : s_below (x >>> ((7 : Int32) &&& 31)) 90 = nI m := em
  unfold ak_19
  rw [ea, em, show (1 : Int32) + nI a = nI (1 + a) from nI_add 1 a]
  have hro : ∀ o, o ≠ 0 → up2 (up2 F 0 5 (nI (1 + a))) 0 6 (nI m) o = F o := fun o ho => by rw [up2_row ho, up2_row ho]
  have h0 : ∀ b, b ≠ 5 → b ≠ 6 → up2 (up2 F 0 5 (nI (1 + a))) 0 6 (nI m) 0 b = F 0 b := fun b h5 h6 => by rw [up2_o h6, up2_o h5]
  have hI : Inv (up2 (up2 F 0 5 (nI (1 + a))) 0 6 (nI m)) L S n q t := by
    refine h.congr (h0 3 (by omega) (by omega)) (fun j _ => hro _ (by omega)) (fun o h1 h2 => by rw [hro o (by omega)]; exact h.2.2.2.1 o h1 h2) (fun o h1 h2 => by rw [hro o (by omega)]; exact h.2.2.2.2.1 o h1 h2) (fun o ho => by rw [hro o (by omega)]) (fun pi hs => ?_)
    obtain ⟨wa, mg, mt, sp, h5, h6, h7, h8⟩ := hs
    exact ⟨1 + a, m, mt, sp, ⟨by rw [up2_o (by omega), up2_s], by omega, by omega⟩, ⟨by rw [up2_s], by omega⟩, by rw [h0 7 (by omega) (by omega)]; exact h7, by rw [h0 8 (by omega) (by omega)]; exact h8⟩
  refine ⟨hk, hb, ?_, hI.lf.1, ?_, GG.mk q hI.next (Or.inl hk)⟩
  · unfold er_terms
    rw [if_pos (show s_out (nI (1 + a)) 1 99 = 0 from pu_out (a := 1) (b := 99) (by omega) (by omega) (by omega)), if_pos (show s_out (nI m) 0 200 = 0 from pu_out (a := 0) (b := 200) (by omega) (by omega) (by omega))]
  · rw [many_k.2.2.2.2.1, h0 4 (by omega) (by omega), if_pos rfl]
theorem k_paper {F : Fm} {L : Lm} {S : Sm} {n t : Nat} {q : Nat → Nat} {x jb r pp : Int32} (h : Inv F L S n q t) (hk : s_below x 13 = 12) (h4 : erI 4 pp = 0) (hb : ¬ s_below (x >>> ((6 : Int32) &&& 31)) 2 = 0) : ak_20 F L S n q x jb r pp (GG Inv t F n x) := by
  obtain ⟨p, hp, e1, ep⟩ := er_p h4
  obtain ⟨a, ha, ea⟩ := pu_below (x >>> ((5 : Int32) &&& 31)) (n := 50) (by omega) (by omega)
  have ea : s_below (x >>> ((5 : Int32) &&& 31)) 50 = nI a := ea
  obtain ⟨m, hm, em⟩ := pu_below (x >>> ((7 : Int32) &&& 31)) (n := 50) (by omega) (by omega)
  have em : s_below (x >>> ((7 : Int32) &&& 31)) 50 = nI m := em
  obtain ⟨c, hc, ec⟩ := pu_below (x >>> ((3 : Int32) &&& 31)) (n := 15) (by omega) (by omega)
  have ec : s_below (x >>> ((3 : Int32) &&& 31)) 15 = nI c := ec
  unfold ak_20
  rw [ea, em, ec, show (1 : Int32) + nI c = nI (1 + c) from nI_add 1 c, show (40 : Int32) + nI a = nI (40 + a) from nI_add 40 a, show (40 : Int32) + nI m = nI (40 + m) from nI_add 40 m]
  obtain ⟨wi, hi, pr, sk, w0, w1, ⟨w2, p1, p2⟩, ⟨h3, s1⟩⟩ := h.2.2.2.1 (2 + p) (by omega) (by omega)
  have hro : ∀ o, o ≠ 2 + p → s_paperF F pp (nI (40 + a)) (nI (40 + m)) (nI (1 + c)) o = F o := fun o ho => by
    unfold s_paperF
    rw [ep, up2_row ho, up2_row ho, up2_row ho]
  have hI : Inv (s_paperF F pp (nI (40 + a)) (nI (40 + m)) (nI (1 + c))) L S n q t := by
    refine h.congr (by rw [hro 0 (by omega)]) (fun j _ => hro _ (by omega)) (fun o h1 h2 => ?_) (fun o h1 h2 => by rw [hro o (by omega)]; exact h.2.2.2.2.1 o h1 h2) (fun o ho => by rw [hro o (by omega)]) (fun pi hs => by rw [hro 0 (by omega)]; exact hs)
    by_cases e : o = 2 + p
    · subst e
      refine ⟨40 + a, 40 + m, 1 + c, sk, ⟨?_, by omega, by omega⟩, ⟨?_, by omega, by omega⟩, ⟨?_, by omega, by omega⟩, ?_, s1⟩
      · unfold s_paperF; rw [ep, up2_o (by omega), up2_o (by omega), up2_s]
      · unfold s_paperF; rw [ep, up2_o (by omega), up2_s]
      · unfold s_paperF; rw [ep, up2_s]
      · unfold s_paperF; rw [ep, up2_o (by omega), up2_o (by omega), up2_o (by omega)]; exact h3
    · rw [hro o e]; exact h.2.2.2.1 o h1 h2
  refine ⟨hk, hb, ?_, ?_, GG.mk q hI.next (Or.inl hk)⟩
  · unfold er_paper
    rw [if_pos h4, if_pos (show s_out (nI (40 + a)) 20 99 = 0 from pu_out (a := 20) (b := 99) (by omega) (by omega) (by omega)), if_pos (show s_out (nI (40 + m)) 20 99 = 0 from pu_out (a := 20) (b := 99) (by omega) (by omega) (by omega)), if_pos (show s_out (nI (1 + c)) 1 99 = 0 from pu_out (a := 1) (b := 99) (by omega) (by omega) (by omega))]
  · rw [ep, w2, if_neg (show ¬ (99 : Int32) < nI pr from nI_nlt (a := 99) (by omega) (by omega))]
theorem nst_iff {g h : Nat → Int32} {v : Int32} : ∀ {n : Nat}, (∀ j, j < n → (h j = v ↔ g j = v)) → nst h v n = nst g v n := by
  intro n
  induction n with
  | zero => intro _; rfl
  | succ n ih =>
    intro H
    unfold nst
    rw [ih (fun j hj => H j (by omega))]
    by_cases e : g n = v
    · rw [if_pos e, if_pos ((H n (by omega)).mpr e)]
    · rw [if_neg e, if_neg (fun h2 => e ((H n (by omega)).mp h2))]
theorem quR.congr2 {F G : Fm} {L : Lm} {n : Nat} {q : Nat → Nat} (h : quR F L n q) (h6 : ∀ o, 6 ≤ o ∧ o < 10 → G o 6 = F o 6) (h8 : ∀ j, j < n → (G (17 + j) 8 = 1 ↔ F (17 + j) 8 = 1)) (h9 : ∀ j, j < n → G (17 + j) 9 = F (17 + j) 9) : quR G L n q := by
  obtain ⟨Q, hQ, hQ9, hc, hsum⟩ := h
  refine ⟨Q, fun o ho => ⟨(hQ o ho).1, (hQ o ho).2.1, (h6 o ho).trans (hQ o ho).2.2⟩, hQ9, fun o h1 h2 j => ?_, ?_⟩
  · rw [hc o h1 h2 j]
    by_cases hj : j < n
    · rw [h9 j hj]
      by_cases e : F (17 + j) 8 = 1
      · simp [hj, e, (h8 j hj).mpr e]
      · have e2 : ¬ G (17 + j) 8 = 1 := fun e2 => e ((h8 j hj).mp e2)
        simp [e, e2]
    · rw [if_neg (fun e => hj e.1), if_neg (fun e => hj e.1)]
  · rw [hsum]
    exact (nst_iff (fun j hj => h8 j hj)).symm
theorem sum_add {F : Fm} {n f : Nat} : ∀ (d k : Nat) (a b : Int32), s_sum F n f d k (a + b) = a + s_sum F n f d k b := by
  intro d
  induction d with
  | zero => intro k a b; rfl
  | succ d ih =>
    intro k a b
    unfold s_sum
    by_cases hk : k < n
    · rw [if_pos hk, if_pos hk, Int32.add_assoc, ih]
    · rw [if_neg hk, if_neg hk, ih]
theorem sum_up {F G : Fm} {n f j : Nat} (hj : j < n) (H : ∀ i, i ≠ j → G (17 + i) f = F (17 + i) f) : ∀ (d k : Nat) (a : Int32), s_sum G n f d k a = s_sum F n f d k a + (if k ≤ j ∧ j < k + d then G (17 + j) f - F (17 + j) f else 0) := by
  intro d
  induction d with
  | zero => intro k a; rw [if_neg (by omega), Int32.add_zero]; rfl
  | succ d ih =>
    intro k a
    unfold s_sum
    by_cases e : k = j
    · subst e
      rw [if_pos hj, if_pos hj, if_pos (by omega), ih, if_neg (by omega), Int32.add_zero]
      rw [show a + G (17 + k) f = (G (17 + k) f - F (17 + k) f) + (a + F (17 + k) f) by grind, sum_add]
      grind
    · rw [ih, H k e]
      generalize (if k < n then a + F (17 + k) f else a) = z
      by_cases h2 : k + 1 ≤ j ∧ j < k + 1 + d
      · rw [if_pos h2, if_pos (by omega)]
      · rw [if_neg h2, if_neg (by omega)]
theorem total_up {F G : Fm} {n f j : Nat} (hj : j < n) (hn : n ≤ 20) (H : ∀ i, i ≠ j → G (17 + i) f = F (17 + i) f) : s_total G n f = s_total F n f + (G (17 + j) f - F (17 + j) f) := by
  unfold s_total
  rw [sum_up hj H, if_pos (by omega)]
