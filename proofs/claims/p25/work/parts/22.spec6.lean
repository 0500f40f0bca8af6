/-! ===== the digest ===== -/
abbrev dn (d : Int64) (v : Int32) : Int64 := d * 31 + v.toInt64
def s_dQ (F : Fm) (L : Lm) (o : Nat) : Nat → Nat → Int64 → Int64
  | 0, _, a => a
  | d + 1, k, a => s_dQ F L o d (k + 1) (dn a (s_queue F L o (nI k)))
def s_dP (F : Fm) (L : Lm) (q : Nat → Nat) (o : Nat) (a : Int64) : Int64 :=
  s_dQ F L o (q o) 0 (dn (dn (dn (dn (dn (dn (dn a (s_ofPress F L q o 0)) (s_ofPress F L q o 1)) (s_ofPress F L q o 2)) (s_ofPress F L q o 3)) (s_ofPress F L q o 4)) (s_ofPress F L q o 5)) (s_ofPress F L q o 6))
def s_dJ (F : Fm) (S : Sm) (j : Nat) (a : Int64) : Int64 :=
  let b := dn (dn (dn (dn (dn (dn (dn (dn (dn (dn (dn (dn (dn a (s_ofJob F j 0)) (s_ofJob F j 1)) (s_ofJob F j 2)) (s_ofJob F j 3)) (s_ofJob F j 4)) (s_ofJob F j 5)) (s_ofJob F j 6)) (s_ofJob F j 7)) (s_ofJob F j 8)) (s_ofJob F j 9)) (s_ofJob F j 10)) (s_ofJob F j 11)) (s_ofJob F j 12)
  let c := dn (dn (dn (dn (dn (dn (dn (dn b (s_expected F S j 6 3)) (s_expected F S j 6 4)) (s_expected F S j 6 5)) (s_expected F S j 6 6)) (s_expected F S j 7 3)) (s_expected F S j 7 4)) (s_expected F S j 7 5)) (s_expected F S j 7 6)
  dn (dn c (s_best F S j)) (s_worth F j - F (17 + j) 12)
def s_dJs (F : Fm) (S : Sm) : Nat → Nat → Int64 → Int64
  | 0, _, a => a
  | d + 1, k, a => s_dJs F S d (k + 1) (s_dJ F S k a)
def s_d6 (F : Fm) (L : Lm) (S : Sm) (q : Nat → Nat) (o : Nat) (a : Int64) : Int64 :=
  dn (dn (dn (dn (dn (dn a (s_ofPaper F L S q o 0)) (s_ofPaper F L S q o 1)) (s_ofPaper F L S q o 2)) (s_ofPaper F L S q o 3)) (s_ofPaper F L S q o 4)) (s_ofPaper F L S q o 5)
def s_dM (F : Fm) (n : Nat) : Int64 :=
  dn (dn (dn (dn (dn (dn (dn (dn (dn (dn (dn 58117 (s_many F n 0)) (s_many F n 1)) (s_many F n 2)) (s_many F n 3)) (s_many F n 4)) (s_many F n 5)) (s_many F n 6)) (s_many F n 7)) (s_many F n 8)) (s_many F n 9)) (s_many F n 10)
def s_dig (F : Fm) (L : Lm) (S : Sm) (n : Nat) (q : Nat → Nat) : Int64 :=
  s_dJs F S n 0 (s_dP F L q 8 (s_dP F L q 7 (s_dP F L q 6 (s_d6 F L S q 5 (s_d6 F L S q 4 (s_d6 F L S q 3 (s_d6 F L S q 2 (s_dM F n))))))))
theorem cl_lit0 : (0 : Int32).toNatClampNeg = 0 := rfl
theorem cl_lit1 : (1 : Int32).toNatClampNeg = 1 := rfl
theorem cl_lit2 : (2 : Int32).toNatClampNeg = 2 := rfl
theorem cl_lit3 : (3 : Int32).toNatClampNeg = 3 := rfl
theorem queue_ok {F : Fm} {L : Lm} {r : Int32} {k w : Nat} (h3 : erI 3 r = 0) (hw : F (6 + r.toNatClampNeg) 6 = nI w) (h20 : w ≤ 20) (hk : k < w) (hf : L (6 + r.toNatClampNeg) k ≠ none) : er_queue F L r (nI k) = 0 := by
  unfold er_queue
  rw [if_pos h3, jobAt_nI hw h20 hk]
  cases h : L (6 + r.toNatClampNeg) k with
  | none => exact absurd h hf
  | some j => rfl
