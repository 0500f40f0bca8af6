/-! ===== the invariant ===== -/
/-- a job's worth, out of its row -/
def wR (f : Nat → Int32) : Int32 := if f 3 = 0 then 0 else ((f 11).toInt64 * (mn (f 10) (f 3 + f 3 / 10)).toInt64 / (f 3).toInt64).toInt32
theorem worth_wR {F : Fm} {j : Nat} : s_worth F j = wR (F (17 + j)) := rfl
/-- a job's row: copies, inks, lies, sheets' good ones, leaves, quote, state -/
def jbR (f : Nat → Int32) (s j : Nat) : Prop := ∃ co ik li mu le qu st : Nat,
  (f 0 = nI j ∧ f 1 = nI s ∧ s < 4) ∧ (f 3 = nI co ∧ 5 ≤ co ∧ co ≤ 1504) ∧ (f 4 = nI ik ∧ 1 ≤ ik ∧ ik ≤ 15) ∧ (f 5 = nI li ∧ 1 ≤ li ∧ li ≤ 600) ∧ (f 7 = nI le ∧ le < 10000) ∧ (f 8 = nI st ∧ st < 4) ∧
  (f 10 = nI (mu * li) ∧ mu * li ≤ 2200) ∧ (f 11 = nI qu ∧ qu ≤ 2000000) ∧
  (st = 0 → mu = 0 ∧ f 9 = -1) ∧ (st ≠ 0 → ∃ pr : Nat, pr < 3 ∧ f 9 = nI pr) ∧ (st = 1 → mu * li < co) ∧ (st = 3 → co - co / 20 ≤ mu * li ∧ f 13 = wR f) ∧ (st ≠ 3 → f 13 = 0)
/-- a paper's row -/
def ppR (f : Nat → Int32) : Prop := ∃ wi hi pr sk : Nat, (f 0 = nI wi ∧ 40 ≤ wi ∧ wi ≤ 89) ∧ (f 1 = nI hi ∧ 40 ≤ hi ∧ hi ≤ 89) ∧ (f 2 = nI pr ∧ 1 ≤ pr ∧ pr ≤ 15) ∧ (f 3 = nI sk ∧ sk ≤ 99999)
/-- a press's row -/
def prR (f : Nat → Int32) : Prop := ∃ to re ru sp : Nat, (f 0 = nI to ∧ 1 ≤ to ∧ to ≤ 4) ∧ (f 2 = nI re ∧ 1 ≤ re ∧ re ≤ 999) ∧ (f 3 = nI ru ∧ 1 ≤ ru ∧ ru ≤ 999) ∧ (f 4 = nI sp ∧ sp ≤ 999)
/-- how many of the first n are v -/
def nst (g : Nat → Int32) (v : Int32) : Nat → Nat
  | 0 => 0
  | n + 1 => nst g v n + (if g n = v then 1 else 0)
def g8 (F : Fm) : Nat → Int32 := fun j => F (17 + j) 8
/-- the shop's row: wage, margin, minutes and spoiled told -/
def shR (f : Nat → Int32) (t pi : Nat) : Prop := ∃ wa mg mt sp : Nat, (f 5 = nI wa ∧ 1 ≤ wa ∧ wa ≤ 30) ∧ (f 6 = nI mg ∧ mg ≤ 89) ∧ (f 7 = nI mt ∧ mt ≤ 150 * t ∧ pi ≤ mt) ∧ (f 8 = nI sp ∧ sp ≤ 24 * t)
/-- the queues as lists -/
def quR (F : Fm) (L : Lm) (n : Nat) (q : Nat → Nat) : Prop := ∃ Q : Nat → List Nat, (∀ o, 6 ≤ o ∧ o < 10 → (∀ k, L o k = (Q o)[k]?) ∧ q o = (Q o).length ∧ F o 6 = nI (q o)) ∧ Q 9 = [] ∧
  (∀ o, 6 ≤ o → o < 9 → ∀ j, (Q o).count j = if j < n ∧ F (17 + j) 8 = 1 ∧ F (17 + j) 9 = nI (o - 6) then 1 else 0) ∧ q 6 + q 7 + q 8 = nst (g8 F) 1 n
def Inv (F : Fm) (L : Lm) (S : Sm) (n : Nat) (q : Nat → Nat) (t : Nat) : Prop :=
  n ≤ 20 ∧ (F 0 3 = nI n ∧ L 16 = aJb n) ∧ (∀ j, j < n → jbR (F (17 + j)) (S j) j) ∧ (∀ o, 2 ≤ o → o < 6 → ppR (F o)) ∧ (∀ o, 6 ≤ o → o < 9 → prR (F o)) ∧ shR (F 0) t (nst (g8 F) 2 n + nst (g8 F) 3 n) ∧ quR F L n q
theorem nst_le {g : Nat → Int32} {v : Int32} : ∀ {n : Nat}, nst g v n ≤ n := by
  intro n
  induction n with
  | zero => exact Nat.le_refl 0
  | succ n ih =>
    unfold nst
    split <;> omega
theorem nst_eq {g h : Nat → Int32} {v : Int32} : ∀ {n : Nat}, (∀ j, j < n → g j = h j) → nst g v n = nst h v n := by
  intro n
  induction n with
  | zero => intro _; rfl
  | succ n ih =>
    intro H
    unfold nst
    rw [ih (fun j hj => H j (by omega)), H n (by omega)]
/-- one of them moves from a to b -/
theorem nst_up {g h : Nat → Int32} {a b : Int32} {j : Nat} (hab : a ≠ b) (ha : g j = a) (hb : h j = b) (H : ∀ i, i ≠ j → h i = g i) : ∀ {n : Nat}, j < n → nst g a n = nst h a n + 1 ∧ nst h b n = nst g b n + 1 ∧ ∀ v, v ≠ a → v ≠ b → nst h v n = nst g v n := by
  intro n
  induction n with
  | zero => intro h; omega
  | succ n ih =>
    intro hj
    by_cases e : j = n
    · subst e
      have h1 : ∀ v, nst h v j = nst g v j := fun v => nst_eq (fun i hi => H i (by omega))
      refine ⟨?_, ?_, fun v hva hvb => ?_⟩
      · show nst g a j + (if g j = a then 1 else 0) = nst h a j + (if h j = a then 1 else 0) + 1
        rw [h1, ha, hb, if_pos rfl, if_neg (fun e => hab e.symm)]
      · show nst h b j + (if h j = b then 1 else 0) = nst g b j + (if g j = b then 1 else 0) + 1
        rw [h1, ha, hb, if_pos rfl, if_neg hab]
      · show nst h v j + (if h j = v then 1 else 0) = nst g v j + (if g j = v then 1 else 0)
        rw [h1, ha, hb, if_neg (fun e => hvb e.symm), if_neg (fun e => hva e.symm)]
    · obtain ⟨i1, i2, i3⟩ := ih (by omega)
      refine ⟨?_, ?_, fun v hva hvb => ?_⟩
      · show nst g a n + (if g n = a then 1 else 0) = nst h a n + (if h n = a then 1 else 0) + 1
        rw [H n (fun e2 => e e2.symm)]; omega
      · show nst h b n + (if h n = b then 1 else 0) = nst g b n + (if g n = b then 1 else 0) + 1
        rw [H n (fun e2 => e e2.symm)]; omega
      · show nst h v n + (if h n = v then 1 else 0) = nst g v n + (if g n = v then 1 else 0)
        rw [H n (fun e2 => e e2.symm), i3 v hva hvb]
theorem cnt_nst {F : Fm} {n : Nat} {v : Int32} : ∀ (d k a : Nat), k + d ≤ 20 → s_cnt F n v d k (nI a) = nI (a + (nst (g8 F) v (min n (k + d)) - nst (g8 F) v (min n k))) := by
  intro d
  induction d with
  | zero => intro k a h; rw [Nat.add_zero, Nat.sub_self]; rfl
  | succ d ih =>
    intro k a h
    have mono : ∀ m x : Nat, nst (g8 F) v m ≤ nst (g8 F) v (m + x) := fun m x => by
      induction x with
      | zero => exact Nat.le_refl _
      | succ x ihx => exact Nat.le_trans ihx (Nat.le_add_right _ _)
    show s_cnt F n v d (k + 1) (if k < n then (if F (17 + k) 8 = v then nI a + 1 else nI a) else nI a) = _
    by_cases hk : k < n
    · have e1 : min n k = k := by omega
      have e2 : min n (k + 1) = k + 1 := by omega
      have e3 : nst (g8 F) v (k + 1) = nst (g8 F) v k + (if F (17 + k) 8 = v then 1 else 0) := rfl
      have e4 : k + 1 ≤ min n (k + (d + 1)) := by omega
      have e5 := mono (k + 1) (min n (k + (d + 1)) - (k + 1))
      rw [show k + 1 + (min n (k + (d + 1)) - (k + 1)) = min n (k + (d + 1)) by omega] at e5
      rw [if_pos hk]
      by_cases hv : F (17 + k) 8 = v
      · rw [if_pos hv, nI_1, ih (k + 1) (a + 1) (by omega), e1, e2, e3, if_pos hv, show k + 1 + d = k + (d + 1) by omega]
        rw [if_pos hv] at e3
        congr 1; omega
      · rw [if_neg hv, ih (k + 1) a (by omega), e1, e2, e3, if_neg hv, show k + 1 + d = k + (d + 1) by omega]
        rfl
    · rw [if_neg hk, ih (k + 1) a (by omega), show min n (k + 1) = min n k by omega, show k + 1 + d = k + (d + 1) by omega]
theorem count_nst {F : Fm} {n : Nat} {v : Int32} (hn : n ≤ 20) : s_count F n v = nI (nst (g8 F) v n) := by
  unfold s_count
  have h := cnt_nst (F := F) (n := n) (v := v) 20 0 0 (Nat.le_refl 20)
  rw [show min n (0 + 20) = n by omega, show min n 0 = 0 by omega, show nst (g8 F) v 0 = 0 from rfl, Nat.sub_zero, Nat.zero_add] at h
  exact h
