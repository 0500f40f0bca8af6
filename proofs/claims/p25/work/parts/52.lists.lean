/-! ===== queues as lists ===== -/
theorem li_ins {f : Nat → Option Nat} {ℓ : List Nat} {pl j : Nat} (h : ∀ k, f k = ℓ[k]?) (hp : pl ≤ ℓ.length) : ∀ k, insF f pl j ℓ.length k = (ℓ.insertIdx pl j)[k]? := by
  intro k
  unfold insF shF
  rw [List.getElem?_insertIdx]
  by_cases e : k = pl
  · subst e
    rw [if_pos rfl, if_neg (Nat.lt_irrefl _), if_pos rfl]
    rw [if_pos (by omega)]
  · rw [if_neg e]
    by_cases e2 : k < pl
    · rw [if_neg (by omega), if_pos e2, h]
    · rw [if_neg e2, if_neg e]
      by_cases e3 : k ≤ ℓ.length
      · rw [if_pos (by omega), h]
      · rw [if_neg (by omega), h, List.getElem?_eq_none (by omega), List.getElem?_eq_none (by omega)]
theorem li_rem {f : Nat → Option Nat} {ℓ : List Nat} {pl : Nat} (h : ∀ k, f k = ℓ[k]?) (hp : pl < ℓ.length) : ∀ k, remF f pl ℓ.length k = (ℓ.eraseIdx pl)[k]? := by
  intro k
  unfold remF rsF
  rw [List.getElem?_eraseIdx]
  by_cases e : k = ℓ.length - 1
  · rw [if_pos e]
    by_cases e2 : k < pl
    · omega
    · rw [if_neg e2, List.getElem?_eq_none (by omega)]
  · rw [if_neg e]
    by_cases e2 : k < pl
    · rw [if_pos e2, if_neg (by omega), h]
    · rw [if_neg e2]
      by_cases e3 : k < ℓ.length - 1
      · rw [if_pos (by omega), h]
      · rw [if_neg (by omega), h, List.getElem?_eq_none (by omega), List.getElem?_eq_none (by omega)]
theorem co_ins (ℓ : List Nat) (pl j : Nat) (hp : pl ≤ ℓ.length) (i : Nat) : (ℓ.insertIdx pl j).count i = ℓ.count i + (if i = j then 1 else 0) := by
  have h := (List.perm_insertIdx j ℓ hp).count_eq i
  rw [h, List.count_cons]
  by_cases e : i = j
  · subst e; simp
  · simp [e]
    exact fun z => e z.symm
theorem co_rem : ∀ (ℓ : List Nat) (pl : Nat) (hp : pl < ℓ.length) (i : Nat), ℓ.count i = (ℓ.eraseIdx pl).count i + (if i = ℓ[pl] then 1 else 0) := by
  intro ℓ
  induction ℓ with
  | nil => intro pl hp; exact absurd hp (Nat.not_lt_zero _)
  | cons a l ih =>
    intro pl hp i
    cases pl with
    | zero =>
      show (a :: l).count i = l.count i + (if i = a then 1 else 0)
      rw [List.count_cons]
      by_cases e : i = a
      · subst e; simp
      · rw [if_neg e]
        simp
        exact fun z => e z.symm
    | succ p =>
      have h := ih p (Nat.lt_of_succ_lt_succ hp) i
      show (a :: l).count i = (a :: l.eraseIdx p).count i + (if i = l[p]'(Nat.lt_of_succ_lt_succ hp) then 1 else 0)
      rw [List.count_cons, List.count_cons, h]
      omega
theorem le_ins (ℓ : List Nat) (pl j : Nat) (hp : pl ≤ ℓ.length) : (ℓ.insertIdx pl j).length = ℓ.length + 1 := by
  rw [List.length_insertIdx, if_pos hp]
theorem le_rem (ℓ : List Nat) (pl : Nat) (hp : pl < ℓ.length) : (ℓ.eraseIdx pl).length = ℓ.length - 1 := by
  rw [List.length_eraseIdx, if_pos hp]
/-- the sort: the same jobs, in another order -/
theorem brg_li {F : Fm} : ∀ (d k : Nat) (f : Nat → Option Nat) (i : Int32) (ℓ : List Nat), k + d = ℓ.length → (∀ k, f k = ℓ[k]?) → ∃ ℓ2 : List Nat, ℓ2.length = ℓ.length ∧ (∀ x, ℓ2.count x = ℓ.count x) ∧ ∀ x, s_brg F ℓ.length d k f i x = ℓ2[x]? := by
  intro d
  induction d with
  | zero => intro k f i ℓ _ h; exact ⟨ℓ, rfl, fun _ => rfl, h⟩
  | succ d ih =>
    intro k f i ℓ hk h
    obtain ⟨p1, p2⟩ := s_plc_in F f i k ℓ.length (ℓ.length - k) k k 2147483647 (by omega) (Nat.le_refl k) ⟨Nat.le_refl k, by omega⟩
    unfold s_brg
    generalize s_plc F f i (ℓ.length - k) k k 2147483647 = pl at *
    have hj : f pl = some ℓ[pl] := by rw [h, List.getElem?_eq_getElem p2]
    rw [hj]
    have h1 := li_rem h p2
    have l1 := le_rem ℓ pl p2
    have h2 := li_ins (j := ℓ[pl]) h1 (pl := k) (by omega)
    have l2 := le_ins (ℓ.eraseIdx pl) k ℓ[pl] (by omega)
    have hz : ((ℓ.eraseIdx pl).insertIdx k ℓ[pl]).length = ℓ.length := by omega
    rw [l1] at h2
    obtain ⟨ℓ2, a1, a2, a3⟩ := ih (k + 1) (insF (remF f pl ℓ.length) k ℓ[pl] (ℓ.length - 1)) (F (17 + ℓ[pl]) 4) ((ℓ.eraseIdx pl).insertIdx k ℓ[pl]) (by omega) h2
    rw [hz] at a1 a3
    refine ⟨ℓ2, a1, fun x => ?_, a3⟩
    rw [a2 x, co_ins _ _ _ (by omega), co_rem ℓ pl p2]
