/-! ===== the face: which exception, and what is answered ===== -/
def erW (hi : Nat) (x : Int32) : Nat := if x.toInt < 0 ∨ (hi : Int) < x.toInt then 2 else 0
abbrev oP (i : Int32) : Nat := 2 + i.toNatClampNeg
abbrev oR (i : Int32) : Nat := 6 + i.toNatClampNeg
abbrev oJ (i : Int32) : Nat := i.toNatClampNeg
def er_paper (i w h pr : Int32) : Nat := if erI 4 i = 0 then (if s_out w 20 99 = 0 then (if s_out h 20 99 = 0 then (if s_out pr 1 99 = 0 then 0 else 2) else 2) else 2) else 1
def s_paperF (F : Fm) (i w h pr : Int32) : Fm := up2 (up2 (up2 F (2 + i.toNatClampNeg) 0 w) (2 + i.toNatClampNeg) 1 h) (2 + i.toNatClampNeg) 2 pr
def er_buy (F : Fm) (i lots : Int32) : Nat := if erI 4 i = 0 then (if s_out lots 1 40 = 0 then (if lots ≤ s_room F (2 + i.toNatClampNeg) then 0 else 2) else 2) else 1
def er_ofPaper (i x : Int32) : Nat := if erI 4 i = 0 then erW 5 x else 1
def s_ofPaper (F : Fm) (L : Lm) (S : Sm) (q : Nat → Nat) (o : Nat) (x : Int32) : Int32 :=
  if x.toInt = 0 then F o 0 else if x.toInt = 1 then F o 1 else if x.toInt = 2 then F o 2 else if x.toInt = 3 then F o 3 else if x.toInt = 4 then s_fore F L S q o else s_short F L S q o
def er_ofJob (n : Nat) (i x : Int32) : Nat := if erI n i = 0 then erW 12 x else 1
def s_ofJob (F : Fm) (j : Nat) (x : Int32) : Int32 :=
  if x.toInt = 0 then F (17 + j) 1 else if x.toInt = 1 then F (17 + j) 3 else if x.toInt = 2 then F (17 + j) 4 else if x.toInt = 3 then F (17 + j) 5 else if x.toInt = 4 then (if F (17 + j) 6 = 0 then 0 else 1) else if x.toInt = 5 then F (17 + j) 7
  else if x.toInt = 6 then F (17 + j) 8 else if x.toInt = 7 then F (17 + j) 10 else if x.toInt = 8 then s_sheets F j else if x.toInt = 9 then F (17 + j) 11 else if x.toInt = 10 then F (17 + j) 12 else if x.toInt = 11 then F (17 + j) 13 else F (17 + j) 9
def er_expected (n : Nat) (i r x : Int32) : Nat := if erI n i = 0 then (if erI 3 r = 0 then erW 6 x else 1) else 1
def s_expected (F : Fm) (S : Sm) (j o : Nat) (x : Int32) : Int32 :=
  if x.toInt = 0 then s_passes F o j else if x.toInt = 1 then s_change F j (F o 1) else if x.toInt = 2 then s_spoiled F o j else if x.toInt = 3 then s_needed F o j else if x.toInt = 4 then s_minutes F o j (F o 1) else if x.toInt = 5 then s_cost F S o j (F o 1) else s_quote F S o j (F o 1)
def er_towers (r x : Int32) : Nat := if erI 3 r = 0 then (if s_out x 1 4 = 0 then 0 else 2) else 1
def er_ofPress (r x : Int32) : Nat := if erI 3 r = 0 then erW 6 x else 1
def s_ofPress (F : Fm) (L : Lm) (q : Nat → Nat) (o : Nat) (x : Int32) : Int32 :=
  if x.toInt = 0 then F o 0 else if x.toInt = 1 then F o 1 else if x.toInt = 2 then F o 2 else if x.toInt = 3 then F o 3 else if x.toInt = 4 then F o 4 else if x.toInt = 5 then F o 6 else s_minQ F L q o
def er_queue (F : Fm) (L : Lm) (r x : Int32) : Nat := if erI 3 r = 0 then (match s_jobAt F L (6 + r.toNatClampNeg) x with
  | none => 1
  | some _ => 0) else 1
def s_queue (F : Fm) (L : Lm) (o : Nat) (x : Int32) : Int32 := match s_jobAt F L o x with
  | none => 0
  | some j => F (17 + j) 0
def er_terms (x y : Int32) : Nat := if s_out x 1 99 = 0 then (if s_out y 0 200 = 0 then 0 else 2) else 2
def s_many (F : Fm) (n : Nat) (x : Int32) : Int32 :=
  if x.toInt = 0 then F 0 3 else if x.toInt = 1 then s_count F n 0 else if x.toInt = 2 then s_count F n 1 else if x.toInt = 3 then s_count F n 2 else if x.toInt = 4 then s_count F n 3 else if x.toInt = 5 then F 0 4
  else if x.toInt = 6 then s_total F n 13 else if x.toInt = 7 then s_total F n 12 else if x.toInt = 8 then s_worthS F else if x.toInt = 9 then F 0 7 else F 0 8
def s_bs (b : Int32 × Int32) (k cost : Int32) : Int32 × Int32 := if b.2 ≤ cost then b else (k, cost)
def s_best (F : Fm) (S : Sm) (j : Nat) : Int32 := (s_bs (s_bs (s_bs (0, 2147483647) 0 (s_cost F S 6 j (F 6 1))) 1 (s_cost F S 7 j (F 7 1))) 2 (s_cost F S 8 j (F 8 1))).1
theorem s_brg_lt {F : Fm} {z n : Nat} : ∀ (d k : Nat) (f : Nat → Option Nat) (i : Int32), (∀ x j, f x = some j → j < n) → ∀ x j, s_brg F z d k f i x = some j → j < n := by
  intro d
  induction d with
  | zero => intro k f i h x j hx; exact h x j hx
  | succ d ih =>
    intro k f i h x j hx
    unfold s_brg at hx
    cases hf : f (s_plc F f i (z - k) k k 2147483647) with
    | none => rw [hf] at hx; exact ih _ _ _ h x j hx
    | some a => rw [hf] at hx; exact ih _ _ _ (insF_lt (h _ _ hf) (remF_lt h)) x j hx
theorem Wf.line {F : Fm} {L : Lm} {S : Sm} {n : Nat} {q : Nat → Nat} (h : Wf F L S n q) {o : Nat} (ho : 6 ≤ o ∧ o < 10) {f : Nat → Option Nat} (hf : ∀ x j, f x = some j → j < n) : Wf F (upLf L o f) S n q := by
  refine ⟨h.1, ⟨h.2.1.1, by rw [upLf_ne (by omega)]; exact h.2.1.2⟩, h.2.2.1, fun a ha => ⟨(h.2.2.2 a ha).1, (h.2.2.2 a ha).2.1, ?_⟩⟩
  by_cases e : a = o
  · subst e; rw [upLf_s]; exact hf
  · rw [upLf_ne e]; exact (h.2.2.2 a ha).2.2
