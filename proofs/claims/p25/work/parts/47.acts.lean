/-! ===== the acts keep the invariant ===== -/
theorem up2_row {F : Fm} {o k a : Nat} {v : Int32} (h : a ≠ o) : up2 F o k v a = F a := by
  funext b
  simp [up2, h]
theorem up2_in {F : Fm} {o k b : Nat} {v : Int32} : up2 F o k v o b = if b = k then v else F o b := by
  by_cases h : b = k <;> simp [up2, h]
theorem shR.next {f : Nat → Int32} {t pi : Nat} (h : shR f t pi) : shR f (t + 1) pi := by
  obtain ⟨wa, mg, mt, sp, h5, h6, ⟨h7, a1, a2⟩, h8, b1⟩ := h
  exact ⟨wa, mg, mt, sp, h5, h6, ⟨h7, by omega, a2⟩, h8, by omega⟩
theorem Inv.next {F : Fm} {L : Lm} {S : Sm} {n t : Nat} {q : Nat → Nat} (h : Inv F L S n q t) : Inv F L S n q (t + 1) := by
  obtain ⟨hn, hJ, hjb, hpp, hpr, hsh, hqu⟩ := h
  exact ⟨hn, hJ, hjb, hpp, hpr, hsh.next, hqu⟩
theorem quR.congr {F G : Fm} {L : Lm} {n : Nat} {q : Nat → Nat} (h : quR F L n q) (h6 : ∀ o, 6 ≤ o ∧ o < 10 → G o 6 = F o 6) (h8 : ∀ j, j < n → G (17 + j) 8 = F (17 + j) 8) (h9 : ∀ j, j < n → G (17 + j) 9 = F (17 + j) 9) : quR G L n q := by
  obtain ⟨Q, hQ, hQ9, hc, hsum⟩ := h
  refine ⟨Q, fun o ho => ⟨(hQ o ho).1, (hQ o ho).2.1, (h6 o ho).trans (hQ o ho).2.2⟩, hQ9, fun o h1 h2 j => ?_, ?_⟩
  · rw [hc o h1 h2 j]
    by_cases hj : j < n
    · rw [h8 j hj, h9 j hj]
    · rw [if_neg (fun e => hj e.1), if_neg (fun e => hj e.1)]
  · rw [hsum]
    exact nst_eq (fun j hj => (h8 j hj).symm)
/-- the jobs and the queues stay, the rest stays in its bounds -/
theorem Inv.congr {F G : Fm} {L : Lm} {S : Sm} {n t t2 : Nat} {q : Nat → Nat} (h : Inv F L S n q t) (h3 : G 0 3 = F 0 3) (hj : ∀ j, j < n → G (17 + j) = F (17 + j)) (hp : ∀ o, 2 ≤ o → o < 6 → ppR (G o)) (hr : ∀ o, 6 ≤ o → o < 9 → prR (G o)) (h6 : ∀ o, 6 ≤ o ∧ o < 10 → G o 6 = F o 6) (hs : ∀ pi, shR (F 0) t pi → shR (G 0) t2 pi) : Inv G L S n q t2 := by
  obtain ⟨hn, hJ, hjb, hpp, hpr, hsh, hqu⟩ := h
  have e : ∀ v, nst (g8 G) v n = nst (g8 F) v n := fun v => nst_eq (fun j hj2 => by unfold g8; rw [hj j hj2])
  refine ⟨hn, ⟨h3.trans hJ.1, hJ.2⟩, fun j hj2 => by rw [hj j hj2]; exact hjb j hj2, hp, hr, by rw [e, e]; exact hs _ hsh, hqu.congr h6 (fun j hj2 => by rw [hj j hj2]) (fun j hj2 => by rw [hj j hj2])⟩
theorem sum_congr {F G : Fm} {n f : Nat} (h : ∀ j, j < n → G (17 + j) f = F (17 + j) f) : ∀ (d k : Nat) (a : Int32), s_sum G n f d k a = s_sum F n f d k a := by
  intro d
  induction d with
  | zero => intro k a; rfl
  | succ d ih =>
    intro k a
    unfold s_sum
    by_cases hk : k < n
    · rw [if_pos hk, if_pos hk, h k hk, ih]
    · rw [if_neg hk, if_neg hk, ih]
/-- money and worth moved as the invoices and the costs -/
def balN (F G : Fm) (n m : Nat) : Prop := s_many G m 5 - s_many F n 5 + s_many G m 8 - s_many F n 8 = s_many G m 6 - s_many F n 6 - s_many G m 7 + s_many F n 7
theorem bal_eq {F G : Fm} {n m : Nat} (h5 : G 0 4 = F 0 4) (h8 : s_worthS G = s_worthS F) (h6 : s_total G m 13 = s_total F n 13) (h7 : s_total G m 12 = s_total F n 12) : balN F G n m := by
  unfold balN
  simp only [many_k.2.2.2.2.1, many_k.2.2.2.2.2.1, many_k.2.2.2.2.2.2.1, many_k.2.2.2.2.2.2.2.1]
  rw [h5, h8, h6, h7]
  grind
theorem bal_jobs {F G : Fm} {n : Nat} (hj : ∀ j, j < n → G (17 + j) = F (17 + j)) (hm : G 0 4 - F 0 4 + s_worthS G - s_worthS F = 0) : balN F G n n := by
  unfold balN
  simp only [many_k.2.2.2.2.1, many_k.2.2.2.2.2.1, many_k.2.2.2.2.2.2.1, many_k.2.2.2.2.2.2.2.1]
  have h13 : s_total G n 13 = s_total F n 13 := sum_congr (fun j h => by rw [hj j h]) _ _ _
  have h12 : s_total G n 12 = s_total F n 12 := sum_congr (fun j h => by rw [hj j h]) _ _ _
  rw [h12, h13, hm]
  grind
theorem GG.mk {F G : Fm} {M : Lm} {T : Sm} {n m t : Nat} {x : Int32} (q2 : Nat → Nat) (h : Inv G M T m q2 (t + 1)) (hb : s_below x 13 = 12 ∨ balN F G n m) : GG Inv t F n x (G, M, T, m) := ⟨q2, h, hb⟩
theorem GG.same {F : Fm} {L : Lm} {S : Sm} {n t : Nat} {q : Nat → Nat} {x : Int32} (h : Inv F L S n q t) : GG Inv t F n x (F, L, S, n) := ⟨q, h.next, Or.inr (bal_eq rfl rfl rfl rfl)⟩
theorem ppR.up {f g : Nat → Int32} (h : ppR f) (h0 : g 0 = f 0) (h1 : g 1 = f 1) (h2 : g 2 = f 2) {sk : Nat} (h3 : g 3 = nI sk) (hs : sk ≤ 99999) : ppR g := by
  obtain ⟨wi, hi, pr, sk0, ⟨a0, a1, a2⟩, ⟨b0, b1, b2⟩, ⟨c0, c1, c2⟩, -⟩ := h
  exact ⟨wi, hi, pr, sk, ⟨h0.trans a0, a1, a2⟩, ⟨h1.trans b0, b1, b2⟩, ⟨h2.trans c0, c1, c2⟩, h3, hs⟩
-- towers
theorem k_towers {F : Fm} {L : Lm} {S : Sm} {n t : Nat} {q : Nat → Nat} {x jb r pp : Int32} (h : Inv F L S n q t) (hk : s_below x 13 = 9) (h3 : erI 3 r = 0) : ak_15 F L S n q x jb r pp (GG Inv t F n x) := by
  obtain ⟨ρ, hρ, -, er⟩ := er_o h3
  obtain ⟨c, hc, ec⟩ := pu_below (x >>> ((6 : Int32) &&& 31)) (n := 4) (by omega) (by omega)
  have ec : s_below (x >>> ((6 : Int32) &&& 31)) 4 = nI c := ec
  obtain ⟨to, re, ru, sp, ⟨p0, t1, t2⟩, p2, p3, p4⟩ := h.2.2.2.2.1 (6 + ρ) (by omega) (by omega)
  unfold ak_15
  rw [ec, er, show (1 : Int32) = nI 1 from rfl, nI_add]
  refine ⟨hk, ?_, ?_, GG.mk q (h.congr ?_ ?_ ?_ ?_ ?_ ?_) (Or.inr (bal_jobs (fun j hj => up2_row (by omega)) ?_))⟩
  · unfold er_towers
    rw [if_pos h3, if_pos (show s_out (nI (1 + c)) 1 4 = 0 from pu_out (a := 1) (b := 4) (by omega) (by omega) (by omega))]
  · rw [if_neg (by rw [p0]; exact nI_nlt (a := 4) t2 (by omega))]
  · rw [up2_row (by omega)]
  · exact fun j hj => up2_row (by omega)
  · exact fun o h1 h2 => by rw [up2_row (by omega)]; exact h.2.2.2.1 o h1 h2
  · intro o h1 h2
    by_cases e : o = 6 + ρ
    · subst e
      refine ⟨1 + c, re, ru, sp, ⟨by rw [up2_in, if_pos rfl], by omega, by omega⟩, ?_, ?_, ?_⟩
      · rw [up2_in, if_neg (by omega)]; exact p2
      · rw [up2_in, if_neg (by omega)]; exact p3
      · rw [up2_in, if_neg (by omega)]; exact p4
    · rw [up2_row e]; exact h.2.2.2.2.1 o h1 h2
  · intro o ho
    by_cases e : o = 6 + ρ
    · subst e; rw [up2_in, if_neg (by omega)]
    · rw [up2_row e]
  · intro pi hs; rw [up2_row (by omega)]; exact hs.next
  · have h1 : s_worthS (up2 F (6 + ρ) 0 (nI (1 + c))) = s_worthS F := by
      unfold s_worthS
      rw [up2_row (a := 2) (by omega), up2_row (a := 3) (by omega), up2_row (a := 4) (by omega), up2_row (a := 5) (by omega)]
    rw [h1, up2_row (by omega)]
    grind
