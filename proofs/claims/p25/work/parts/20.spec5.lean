def er_order (F : Fm) (n : Nat) (i r : Int32) : Nat := if erI n i = 0 then (if erI 3 r = 0 then (if F (17 + i.toNatClampNeg) 8 = 0 then 0 else 3) else 1) else 1
def s_orderF (F : Fm) (S : Sm) (q : Nat → Nat) (j o : Nat) (r : Int32) : Fm := up2 (up2 (up2 (up2 F (17 + j) 11 (s_quote F S o j (F o 1))) (17 + j) 9 r) (17 + j) 8 1) o 6 (nI (q o + 1))
def s_insL (L : Lm) (q : Nat → Nat) (pl j o : Nat) : Lm := upLf L o (insF (L o) pl j (q o))
def er_again (F : Fm) (n : Nat) (i : Int32) : Nat := if erI n i = 0 then (if F (17 + i.toNatClampNeg) 8 = 2 then (if F (17 + i.toNatClampNeg) 10 < F (17 + i.toNatClampNeg) 3 then 0 else 3) else 3) else 1
def s_againF (F : Fm) (q : Nat → Nat) (j o : Nat) : Fm := up2 (up2 F o 6 (nI (q o + 1))) (17 + j) 8 1
def er_invoice (F : Fm) (n : Nat) (i : Int32) : Nat := if erI n i = 0 then (if F (17 + i.toNatClampNeg) 8 = 2 then (if F (17 + i.toNatClampNeg) 3 - F (17 + i.toNatClampNeg) 3 / 20 ≤ F (17 + i.toNatClampNeg) 10 then 0 else 3) else 3) else 1
def s_invF (F : Fm) (j : Nat) : Fm := up2 (up2 (up2 F (17 + j) 13 (s_worth F j)) (17 + j) 8 3) 0 4 (up2 (up2 F (17 + j) 13 (s_worth F j)) (17 + j) 8 3 0 4 + up2 (up2 F (17 + j) 13 (s_worth F j)) (17 + j) 8 3 (17 + j) 13)
def s_sortL (F : Fm) (L : Lm) (q : Nat → Nat) (o : Nat) : Lm := upLf L o (s_brg F (q o) (q o) 0 (L o) (F o 1))
def er_jos (F : Fm) (L : Lm) (S : Sm) (o : Nat) (mi sp : Int32) : Nat := if s_out mi 1 9999 = 0 then (if s_out sp 0 9999 = 0 then (match s_jobAt F L o 0 with
  | none => 3
  | some j => if sp < F (2 + S j) 3 then 0 else 3) else 2) else 2
theorem er_jos_some {F : Fm} {L : Lm} {S : Sm} {o : Nat} {mi sp : Int32} (h : er_jos F L S o mi sp = 0) : ∃ j, s_jobAt F L o 0 = some j := by
  unfold er_jos at h
  cases hj : s_jobAt F L o 0 with
  | some j => exact ⟨j, rfl⟩
  | none =>
    rw [hj] at h
    by_cases h1 : s_out mi 1 9999 = 0 <;> by_cases h2 : s_out sp 0 9999 = 0 <;> simp [h1, h2] at h
theorem jobAt_pos {F : Fm} {L : Lm} {o j w : Nat} (h : s_jobAt F L o 0 = some j) (hw : F o 6 = nI w) : 0 < w := by
  rcases Nat.eq_zero_or_pos w with h0 | h0
  · subst h0
    unfold s_jobAt at h
    rw [if_neg (by decide), hw, if_pos (by decide)] at h
    cases h
  · exact h0
def er_slip (F : Fm) (L : Lm) (S : Sm) (r mi sp : Int32) : Nat := if erI 3 r = 0 then er_jos F L S (6 + r.toNatClampNeg) mi sp else 1
def s_first (F : Fm) (L : Lm) (o : Nat) : Nat := (s_jobAt F L o 0).getD 0
def s_spent (F : Fm) (j : Nat) (mi : Int32) : Int32 := mi * F 0 5 + (if F (17 + j) 14 = 0 then s_ink F j else 0)
def s_sl1 (F : Fm) (S : Sm) (j : Nat) (tk : Int32) : Fm := up2 F (2 + S j) 3 (F (2 + S j) 3 - tk)
def s_sl2 (F : Fm) (S : Sm) (j : Nat) (sp tk : Int32) : Fm := up2 (s_sl1 F S j tk) (17 + j) 10 (s_sl1 F S j tk (17 + j) 10 + (tk - sp) * s_sl1 F S j tk (17 + j) 5)
def s_sl3 (F : Fm) (S : Sm) (j : Nat) (sp tk spent : Int32) : Fm := up2 (s_sl2 F S j sp tk) (17 + j) 12 (s_sl2 F S j sp tk (17 + j) 12 + (spent + tk * s_sl2 F S j sp tk (2 + S j) 2))
def s_sl5 (F : Fm) (S : Sm) (j : Nat) (sp tk spent : Int32) : Fm := up2 (up2 (s_sl3 F S j sp tk spent) (17 + j) 14 1) (17 + j) 8 2
def s_sl7 (F : Fm) (S : Sm) (q : Nat → Nat) (o j : Nat) (mi sp tk spent : Int32) : Fm := s_learn (up2 (s_sl5 F S j sp tk spent) o 6 (nI (q o - 1))) o j mi sp tk
def s_sl8 (F : Fm) (S : Sm) (q : Nat → Nat) (o j : Nat) (mi sp tk spent : Int32) : Fm := up2 (s_sl7 F S q o j mi sp tk spent) 0 4 (s_sl7 F S q o j mi sp tk spent 0 4 - spent)
def s_sl9 (F : Fm) (S : Sm) (q : Nat → Nat) (o j : Nat) (mi sp tk spent : Int32) : Fm := up2 (s_sl8 F S q o j mi sp tk spent) 0 7 (s_sl8 F S q o j mi sp tk spent 0 7 + mi)
def s_slipF (F : Fm) (S : Sm) (q : Nat → Nat) (o j : Nat) (mi sp tk spent : Int32) : Fm := up2 (s_sl9 F S q o j mi sp tk spent) 0 8 (s_sl9 F S q o j mi sp tk spent 0 8 + sp)
def s_slipL (L : Lm) (q : Nat → Nat) (o : Nat) : Lm := upLf L o (remF (L o) 0 (q o))
