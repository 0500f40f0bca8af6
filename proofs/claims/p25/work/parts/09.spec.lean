/-! ===== what the methods answer, in plain words ===== -/
def mx (x y : Int32) : Int32 := if x < y then y else x
def mn (x y : Int32) : Int32 := if y < x then y else x
def s_out (v a b : Int32) : Int32 := if v < a then 1 else if v ≤ b then 0 else 1
def s_div (a b : Int32) : Int32 := if b = 0 then 0 else a / b
def s_divUp (a b : Int32) : Int32 := if b = 0 then 0 else (a + b - 1) / b
def s_rate (x : Int32) : Int32 := mx 1 (mn x 999)
abbrev ush (x k : Int32) : Int32 := (x.toUInt32 >>> (k.toUInt32 &&& Int32.toUInt32 31)).toInt32
def bt1 (x : Int32) : Int32 := x - (ush x 1 &&& 1431655765)
def bt2 (x : Int32) : Int32 := (x &&& 858993459) + (ush x 2 &&& 858993459)
def bt3 (x : Int32) : Int32 := (x + ush x 4) &&& 252645135
def bt4 (x : Int32) : Int32 := x + ush x 8
def bt5 (x : Int32) : Int32 := x + ush x 16
def bitC (x : Int32) : Int32 := bt5 (bt4 (bt3 (bt2 (bt1 x)))) &&& 63
def s_below (v n : Int32) : Int32 := (v &&& 2147483647) - (v &&& 2147483647) / n * n
def s_sheets (F : Fm) (j : Nat) : Int32 := s_divUp (mx (F (17 + j) 3 - F (17 + j) 10) 0) (F (17 + j) 5)
def s_ink (F : Fm) (j : Nat) : Int32 := 200 * bitC (F (17 + j) 4)
def s_taken (F : Fm) (S : Sm) (j : Nat) (sp : Int32) : Int32 := mn (s_sheets F j + sp) (F (2 + S j) 3)
def s_worth (F : Fm) (j : Nat) : Int32 := if F (17 + j) 3 = 0 then 0 else ((F (17 + j) 11).toInt64 * (mn (F (17 + j) 10) (F (17 + j) 3 + F (17 + j) 3 / 10)).toInt64 / (F (17 + j) 3).toInt64).toInt32
def s_holds (F : Fm) (o : Nat) (a b : Int32) : Int32 := s_div (F o 0) a * s_div (F o 1) b
def s_room (F : Fm) (o : Nat) : Int32 := (99999 - F o 3) / 250
def s_passes (F : Fm) (o j : Nat) : Int32 := s_divUp (bitC (F (17 + j) 4)) (F o 0)
def s_change (F : Fm) (j : Nat) (inks : Int32) : Int32 := 4 * bitC (F (17 + j) 4 &&& (inks ^^^ (-1)))
def s_jobAt (F : Fm) (L : Lm) (o : Nat) (x : Int32) : Option Nat := if x < 0 then none else if F o 6 ≤ x then none else if x < 20 then L o x.toNatClampNeg else none
/-! ===== small facts for the walks ===== -/
theorem opt_or (x : Option Nat) : x = none ∨ ∃ j, x = some j := by
  cases x with
  | none => exact Or.inl rfl
  | some j => exact Or.inr ⟨j, rfl⟩
def aJb (n k : Nat) : Option Nat := if k < n then some k else none
theorem aJb_lt {n k j : Nat} (h : aJb n k = some j) : j < n := by
  unfold aJb at h
  by_cases hk : k < n
  · rw [if_pos hk] at h; cases h; exact hk
  · rw [if_neg hk] at h; cases h
theorem aJb_eq {n k j : Nat} (h : aJb n k = some j) : k = j ∧ k < n := by
  unfold aJb at h
  by_cases hk : k < n
  · rw [if_pos hk] at h; cases h; exact ⟨rfl, hk⟩
  · rw [if_neg hk] at h; cases h
theorem aJb_no {n k : Nat} (h : aJb n k = none) : n ≤ k := by
  unfold aJb at h
  by_cases hk : k < n
  · rw [if_pos hk] at h; cases h
  · omega
theorem aJbL_lt {L : Lm} {n k j : Nat} (hJ : L 16 = aJb n) (h : L 16 k = some j) : j < n := aJb_lt (by rw [← hJ]; exact h)
theorem aJbL_eq {L : Lm} {n k j : Nat} (hJ : L 16 = aJb n) (h : L 16 k = some j) : k = j ∧ k < n := aJb_eq (by rw [← hJ]; exact h)
theorem aJbL_no {L : Lm} {n k : Nat} (hJ : L 16 = aJb n) (h : L 16 k = none) : n ≤ k := aJb_no (by rw [← hJ]; exact h)
theorem pap_ok {x : Nat} (h : x < 4) : 2 ≤ 2 + x ∧ 2 + x < 6 := ⟨by omega, by omega⟩
theorem cl_lt {i : Int32} {N : Nat} (h : vp_in i N) : i.toNatClampNeg < N := by
  unfold vp_in at h
  omega
theorem pap_in {i : Int32} (h : vp_in i 4) : 2 ≤ 2 + i.toNatClampNeg ∧ 2 + i.toNatClampNeg < 6 := pap_ok (cl_lt h)
theorem prs_in {i : Int32} (h : vp_in i 3) : 6 ≤ 6 + i.toNatClampNeg ∧ 6 + i.toNatClampNeg < 10 := ⟨by omega, by have := cl_lt h; omega⟩
theorem in_of {x : Int32} {N : Nat} {M : Int32} (hM : M.toInt = N) (h0 : ¬ x < 0) (h1 : x < M) : vp_in x N := by
  rw [vp_in_iff]
  rw [Int32.lt_iff_toInt_lt] at h0 h1
  have e : (0 : Int32).toInt = 0 := rfl
  omega
theorem in_of' {x : Int32} {N : Nat} {M : Int32} (hM : M.toInt = N) (h0 : ¬ x < 0) (h1 : ¬ M ≤ x) : vp_in x N := by
  rw [vp_in_iff]
  rw [Int32.lt_iff_toInt_lt] at h0
  rw [Int32.le_iff_toInt_le] at h1
  have e : (0 : Int32).toInt = 0 := rfl
  omega
theorem tab_cases (x : Int32) (hi : Nat) : (x.toInt < 0 ∨ (hi : Int) < x.toInt) ∨ ∃ k : Nat, k ≤ hi ∧ x.toInt = (k : Int) := by
  by_cases h : x.toInt < 0 ∨ (hi : Int) < x.toInt
  · exact Or.inl h
  · refine Or.inr ⟨x.toInt.toNat, ?_, ?_⟩ <;> omega
theorem l_ne {x : Int32} (h : ¬ x = 0) : ¬ x.toInt64 = 0 := by
  intro h2
  apply h
  have h3 : x.toInt64.toInt = (0 : Int64).toInt := by rw [h2]
  rw [Int32.toInt_toInt64] at h3
  exact Int32.toInt_inj.mp h3
section MathRows
variable {p : Program} {l : Launch} {e : Env} {R : Room} {s : State} {m : MethodId} {args : Array Value} {below : List Frame} {meth : Method} {c : Code} {H : Heap} {locs : List Loc} {cells slots : Nat} {Q : State → Prop}
variable {cc : ByteArray} {pc nL index : Nat} {ls : Array Slot} {rest : List Value} {own : String}
theorem n_max (X : CallFix p m c cc nL s args BG own) (hls : ls.size = nL) (hlink : (Cond.methodLink own index Lib.Math.max.name).before args s = true) (hf : 1 ≤ R.frames) (hlo : (rest.map fun v => v.category).sum + 13 ≤ R.locals) (hc : cells ≤ R.cells) (hs : slots ≤ R.slots) {x y : Int32} (hdg : decode cc pc = .ok (.invokestatic index, 3))
    (kk : W p l e R s m args below meth c H locs cells slots Q (F0 m (pc + 3) ls (.int (mx x y) :: rest))) : W p l e R s m args below meth c H locs cells slots Q (F0 m pc ls (.int y :: .int x :: rest)) :=
  va_mmax X.1 X.2.1 (X.2.2.1.trans hls.symm) X.2.2.2.1 hlink (X.2.2.2.2 _ kw_320) (X.2.2.2.2 _ kw_39) (X.2.2.2.2 _ kw_321) hf hlo hc hs hdg kk
theorem n_min (X : CallFix p m c cc nL s args BG own) (hls : ls.size = nL) (hlink : (Cond.methodLink own index Lib.Math.min.name).before args s = true) (hf : 1 ≤ R.frames) (hlo : (rest.map fun v => v.category).sum + 13 ≤ R.locals) (hc : cells ≤ R.cells) (hs : slots ≤ R.slots) {x y : Int32} (hdg : decode cc pc = .ok (.invokestatic index, 3))
    (kk : W p l e R s m args below meth c H locs cells slots Q (F0 m (pc + 3) ls (.int (mn x y) :: rest))) : W p l e R s m args below meth c H locs cells slots Q (F0 m pc ls (.int y :: .int x :: rest)) :=
  va_mmin X.1 X.2.1 (X.2.2.1.trans hls.symm) X.2.2.2.1 hlink (X.2.2.2.2 _ kw_409) (X.2.2.2.2 _ kw_39) (X.2.2.2.2 _ kw_410) hf hlo hc hs hdg kk
end MathRows
