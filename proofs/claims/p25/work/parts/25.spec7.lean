/-! ===== job: a new object in the world ===== -/
def er_job (F : Fm) (n : Nat) (i a b co ik : Int32) : Nat := if erI 4 i = 0 then (if s_out a 1 99 = 0 then (if s_out b 1 99 = 0 then (if s_out co 1 9999 = 0 then (if s_out ik 1 15 = 0 then (if s_holds F (2 + i.toNatClampNeg) a b = 0 then (if s_holds F (2 + i.toNatClampNeg) b a = 0 then 2 else (if nI n < 20 then 0 else 3)) else (if nI n < 20 then 0 else 3)) else 2) else 2) else 2) else 2) else 1
def nwF (F : Fm) (n : Nat) (pa co ik : Int32) : Fm := fun o k => if o = 17 + n then (if k = 0 then nI n else if k = 1 then pa else if k = 3 then co else if k = 4 then ik else if k = 9 then -1 else 0) else F o k
def nwS (S : Sm) (n t : Nat) : Sm := fun j => if j = n then t else S j
def s_jobF (F : Fm) (S : Sm) (n : Nat) (i a b co ik : Int32) : Fm := up2 (s_layF (nwF F n i co ik) (nwS S n i.toNatClampNeg) n a b) 0 3 (nI (n + 1))
def s_jobL (L : Lm) (n : Nat) : Lm := upL L 16 n (some n)
/-- the world with a new job: the old cells as they were, the new one at q -/
theorem wl_new {ca : Nat → ClassId} {ad : Nat → Nat} {E : Em} {F : Fm} {L : Lm} {S : Sm} {n q t : Nat} {pa co ik : Int32} (hS : ∀ j, j < n → S j < 4) (ht : t < 4) (hL : ∀ o, (6 ≤ o ∧ o < 10) ∨ o = 16 → ∀ k j, L o k = some j → j < n) {k : Nat} (hk : k < 17 + n) :
    wC ca (va_up ad (17 + n) q) (E, nwF F n pa co ik, L, nwS S n t, n + 1) k = wC ca ad (E, F, L, S, n) k := by
  have hu : ∀ x, x < 17 + n → va_up ad (17 + n) q x = ad x := fun x hx => by simp only [va_up]; rw [if_neg (by omega)]
  have hF : ∀ x b, x < 17 + n → nwF F n pa co ik x b = F x b := fun x b hx => by simp only [nwF]; rw [if_neg (by omega)]
  have hline : ∀ o, (6 ≤ o ∧ o < 10) ∨ o = 16 → aLin (va_up ad (17 + n) q) (L o) = aLin ad (L o) := fun o ho => by
    funext x
    simp only [aLin]
    cases h : L o x with
    | none => rfl
    | some j =>
      have hj := hL o ho x j h
      simp only [Option.map_some]
      rw [hu _ (by omega)]
  by_cases h0 : k = 0
  · subst h0
    show Sum.inr (4, cLed _ _) = Sum.inr (4, cLed _ _)
    simp only [cLed, sF, hF 0 _ (by omega), hu 14 (by omega), hu 15 (by omega), hu 16 (by omega), hu 1 (by omega), hu 9 (by omega)]
  · by_cases h1 : k = 1
    · subst h1; rfl
    · by_cases h2 : k < 6
      · rw [wC_P (by omega) h2, wC_P (by omega) h2]
        simp only [cPap, sF, hF k _ hk]
      · by_cases h3 : k < 10
        · rw [wC_R (by omega) h3, wC_R (by omega) h3]
          simp only [cPrs, sF, hF k _ hk, hu (k + 4) (by omega)]
        · by_cases h4 : k < 14
          · obtain ⟨o, rfl⟩ : ∃ o, k = o + 4 := ⟨k - 4, by omega⟩
            rw [wC_L (by omega) (by omega), wC_L (by omega) (by omega)]
            simp only [sL]
            rw [hline o (Or.inl (by omega))]
          · by_cases h5 : k = 14
            · subst h5
              show aRow (ca 14) 4 _ = aRow (ca 14) 4 _
              have e : aPap (va_up ad (17 + n) q) = aPap ad := by
                funext x
                simp only [aPap]
                by_cases hx : x < 4
                · rw [if_pos hx, if_pos hx, hu _ (by omega)]
                · rw [if_neg hx, if_neg hx]
              rw [e]
            · by_cases h6 : k = 15
              · subst h6
                show aRow (ca 15) 3 _ = aRow (ca 15) 3 _
                have e : aPrs (va_up ad (17 + n) q) = aPrs ad := by
                  funext x
                  simp only [aPrs]
                  by_cases hx : x < 3
                  · rw [if_pos hx, if_pos hx, hu _ (by omega)]
                  · rw [if_neg hx, if_neg hx]
                rw [e]
              · by_cases h7 : k = 16
                · subst h7
                  show aRow (ca 16) 20 _ = aRow (ca 16) 20 _
                  simp only [sL]
                  rw [hline 16 (Or.inr rfl)]
                · obtain ⟨j, rfl⟩ : ∃ j, k = 17 + j := ⟨k - 17, by omega⟩
                  have hj : j < n := by omega
                  have hsj := hS j hj
                  have e : nwS S n t j = S j := by simp only [nwS]; rw [if_neg (by omega)]
                  rw [wC_J, wC_J]
                  simp only [cJob, sF, sS, e, hF _ _ hk, hu (2 + S j) (by omega)]
theorem wl_join {D : va_G} {ca : Nat → ClassId} {ad : Nat → Nat} {A : Nat → Prop} {E : Em} {F : Fm} {L : Lm} {S : Sm} {n q t : Nat} {pa co ik : Int32} {e0 : va_E} {H H1 : Heap} (hP : va_P D vwCl (wl ca ad (E, F, L, S, n) ++ [(q, e0)]) H) (hD : va_D A (wl ca ad (E, F, L, S, n) ++ [(q, e0)]))
    (hk : ∀ x : Nat, x < H.size → ¬ va_A [(q, e0)] H.size x → H1[x]? = H[x]?) (hP1 : va_P D vwCl [(q, .inr (1, [.int (nI n), .int pa, .ref (ad (2 + t)), .int co, .int ik, .int 0, .int 0, .int 0, .int 0, .int (-1), .int 0, .int 0, .int 0, .int 0, .int 0]))] H1)
    (hS : ∀ j, j < n → S j < 4) (ht : t < 4) (hL : ∀ o, (6 ≤ o ∧ o < 10) ∨ o = 16 → ∀ k j, L o k = some j → j < n) :
    va_P D vwCl (wl ca (va_up ad (17 + n) q) (E, nwF F n pa co ik, L, nwS S n t, n + 1)) H1 ∧ va_D A (wl ca (va_up ad (17 + n) q) (E, nwF F n pa co ik, L, nwS S n t, n + 1)) := by
  have hu : ∀ x, x < 17 + n → va_up ad (17 + n) q x = ad x := fun x hx => by simp only [va_up]; rw [if_neg (by omega)]
  have hq : va_up ad (17 + n) q (17 + n) = q := by simp [va_up]
  have hlen : (wl ca ad (E, F, L, S, n)).length = 17 + n := wl_len
  have hold : ∀ k, k < 17 + n → (wl ca ad (E, F, L, S, n) ++ [(q, e0)])[k]? = some (ad k, wC ca ad (E, F, L, S, n) k) := fun k hk => by
    rw [List.getElem?_append_left (by rw [hlen]; exact hk)]
    exact wl_at hk
  have hnew : (wl ca ad (E, F, L, S, n) ++ [(q, e0)])[17 + n]? = some (q, e0) := by
    rw [List.getElem?_append_right (by rw [hlen]; exact Nat.le_refl _), hlen, Nat.sub_self]
    rfl
  refine ⟨fun k c hc => ?_, ?_, ?_⟩
  · obtain ⟨hk2, rfl⟩ := wl_of hc
    have hk3 : k < 17 + (n + 1) := hk2
    by_cases h : k < 17 + n
    · rw [hu k h, wl_new hS ht hL h]
      refine (hP k _ (hold k h)).kept (hk _ (hP k _ (hold k h)).lt ?_)
      rintro (⟨i, e, hi⟩ | h9)
      · have : i = 0 := by
          rcases i with _ | i
          · rfl
          · simp at hi
        subst this
        simp only [List.getElem?_cons_zero, Option.some.injEq, Prod.mk.injEq] at hi
        have := hD.1 k (17 + n) _ _ (hold k h) hnew hi.1.symm
        omega
      · exact absurd (hP k _ (hold k h)).lt (Nat.not_lt.mpr h9)
    · obtain rfl : k = 17 + n := by omega
      rw [hq, wC_J]
      have e : va_up ad (17 + n) q (2 + t) = ad (2 + t) := hu _ (by omega)
      have h1 := hP1 0 _ rfl
      simp only [cJob, sF, sS, nwS, nwF, if_true, e]
      exact h1
  · intro i j a b hi hj hab
    obtain ⟨hi2, rfl⟩ := wl_of hi
    obtain ⟨hj2, rfl⟩ := wl_of hj
    have hi3 : i < 17 + (n + 1) := hi2
    have hj3 : j < 17 + (n + 1) := hj2
    by_cases h : i < 17 + n <;> by_cases h' : j < 17 + n
    · rw [hu i h, hu j h'] at hab
      exact hD.1 i j _ _ (hold i h) (hold j h') hab
    · obtain rfl : j = 17 + n := by omega
      rw [hu i h, hq] at hab
      exact hD.1 i (17 + n) _ _ (hold i h) hnew hab
    · obtain rfl : i = 17 + n := by omega
      rw [hu j h', hq] at hab
      exact hD.1 (17 + n) j _ _ hnew (hold j h') hab
    · omega
  · intro k c hc
    obtain ⟨hk2, rfl⟩ := wl_of hc
    have hk3 : k < 17 + (n + 1) := hk2
    by_cases h : k < 17 + n
    · show A (va_up ad (17 + n) q k)
      rw [hu k h]; exact hD.2 k _ (hold k h)
    · obtain rfl : k = 17 + n := by omega
      show A (va_up ad (17 + n) q (17 + n))
      rw [hq]; exact hD.2 _ _ hnew
