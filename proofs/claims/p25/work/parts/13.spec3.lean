def upLf (L : Lm) (o : Nat) (f : Nat → Option Nat) : Lm := fun a => if a = o then f else L a
theorem upLf_s {L : Lm} {o : Nat} {f : Nat → Option Nat} : upLf L o f o = f := by simp [upLf]
theorem upLf_ne {L : Lm} {o a : Nat} {f : Nat → Option Nat} (h : a ≠ o) : upLf L o f a = L a := by simp [upLf, h]
theorem upLf_self {L : Lm} {o : Nat} : upLf L o (L o) = L := by
  funext a
  by_cases h : a = o
  · subst h; rw [upLf_s]
  · rw [upLf_ne h]
theorem upL_upLf {L : Lm} {o k : Nat} {f : Nat → Option Nat} {r : Option Nat} : upL (upLf L o f) o k r = upLf L o (fun x => if x = k then r else f x) := by
  funext a x
  by_cases h : a = o
  · subst h; simp [upL, upLf]
  · simp [upL, upLf, h]
/-- the line while a place is made: what lies behind k is shifted by one, up to z -/
def shF (f : Nat → Option Nat) (k z : Nat) : Nat → Option Nat := fun x => if k < x ∧ x ≤ z then f (x - 1) else f x
theorem shF_z {f : Nat → Option Nat} {z : Nat} : shF f z z = f := by
  funext x
  simp only [shF]
  rw [if_neg (by omega)]
theorem shF_step {f : Nat → Option Nat} {k z : Nat} (h : k + 1 ≤ z) : (fun x => if x = k + 1 then shF f (k + 1) z k else shF f (k + 1) z x) = shF f k z := by
  funext x
  simp only [shF]
  by_cases h1 : x = k + 1
  · subst h1
    rw [if_pos rfl, if_neg (by omega), if_pos (by omega), Nat.add_sub_cancel]
  · rw [if_neg h1]
    by_cases h2 : k + 1 < x ∧ x ≤ z
    · rw [if_pos h2, if_pos (by omega)]
    · rw [if_neg h2, if_neg (by omega)]
theorem shF_lt {f : Nat → Option Nat} {k z n : Nat} (h : ∀ x j, f x = some j → j < n) : ∀ x j, shF f k z x = some j → j < n := by
  intro x j hx
  unfold shF at hx
  by_cases h2 : k < x ∧ x ≤ z
  · rw [if_pos h2] at hx; exact h _ _ hx
  · rw [if_neg h2] at hx; exact h _ _ hx
def insF (f : Nat → Option Nat) (pl j z : Nat) : Nat → Option Nat := fun x => if x = pl then some j else shF f pl z x
/-- the line while a place is taken out: what lies behind pl is shifted by one, up to k -/
def rsF (f : Nat → Option Nat) (pl k : Nat) : Nat → Option Nat := fun x => if pl ≤ x ∧ x < k then f (x + 1) else f x
theorem rsF_0 {f : Nat → Option Nat} {pl : Nat} : rsF f pl pl = f := by
  funext x
  simp only [rsF]
  rw [if_neg (by omega)]
theorem rsF_step {f : Nat → Option Nat} {pl k : Nat} (h : pl ≤ k) : (fun x => if x = k then rsF f pl k (k + 1) else rsF f pl k x) = rsF f pl (k + 1) := by
  funext x
  simp only [rsF]
  by_cases h1 : x = k
  · subst h1
    rw [if_pos rfl, if_neg (by omega), if_pos (by omega)]
  · rw [if_neg h1]
    by_cases h2 : pl ≤ x ∧ x < k
    · rw [if_pos h2, if_pos (by omega)]
    · rw [if_neg h2, if_neg (by omega)]
theorem rsF_lt {f : Nat → Option Nat} {pl k n : Nat} (h : ∀ x j, f x = some j → j < n) : ∀ x j, rsF f pl k x = some j → j < n := by
  intro x j hx
  unfold rsF at hx
  by_cases h2 : pl ≤ x ∧ x < k
  · rw [if_pos h2] at hx; exact h _ _ hx
  · rw [if_neg h2] at hx; exact h _ _ hx
def remF (f : Nat → Option Nat) (pl z : Nat) : Nat → Option Nat := fun x => if x = z - 1 then none else rsF f pl (z - 1) x
def s_chOf (F : Fm) (i : Int32) : Option Nat → Int32
  | none => 2147483647
  | some j => s_change F j i
/-- of those from k on, the first with the least change -/
def s_plc (F : Fm) (f : Nat → Option Nat) (i : Int32) : Nat → Nat → Nat → Int32 → Nat
  | 0, _, b, _ => b
  | d + 1, k, b, lst => if lst ≤ s_chOf F i (f k) then s_plc F f i d (k + 1) b lst else s_plc F f i d (k + 1) k (s_chOf F i (f k))
theorem s_plc_in (F : Fm) (f : Nat → Option Nat) (i : Int32) (from0 z : Nat) : ∀ (d k b : Nat) (lst : Int32), k + d = z → from0 ≤ k → from0 ≤ b ∧ b < z → from0 ≤ s_plc F f i d k b lst ∧ s_plc F f i d k b lst < z := by
  intro d
  induction d with
  | zero => intro k b lst _ _ hb; exact hb
  | succ d ih =>
    intro k b lst hk hf hb
    unfold s_plc
    split
    · exact ih (k + 1) b lst (by omega) (by omega) hb
    · exact ih (k + 1) k _ (by omega) (by omega) (by omega)
/-- the sort: at the place k, with the inks i, d places to go -/
def s_brg (F : Fm) (z : Nat) : Nat → Nat → (Nat → Option Nat) → Int32 → (Nat → Option Nat)
  | 0, _, f, _ => f
  | d + 1, k, f, i => match f (s_plc F f i (z - k) k k 2147483647) with
    | none => s_brg F z d (k + 1) f i
    | some j => s_brg F z d (k + 1) (insF (remF f (s_plc F f i (z - k) k k 2147483647) z) k j (z - 1)) (F (17 + j) 4)
theorem remF_lt {f : Nat → Option Nat} {pl z n : Nat} (h : ∀ x j, f x = some j → j < n) : ∀ x j, remF f pl z x = some j → j < n := by
  intro x j hx
  unfold remF at hx
  by_cases h2 : x = z - 1
  · rw [if_pos h2] at hx; cases hx
  · rw [if_neg h2] at hx; exact rsF_lt h _ _ hx
theorem insF_lt {f : Nat → Option Nat} {pl j z n : Nat} (hj : j < n) (h : ∀ x j, f x = some j → j < n) : ∀ x i, insF f pl j z x = some i → i < n := by
  intro x i hx
  unfold insF at hx
  by_cases h2 : x = pl
  · rw [if_pos h2] at hx; cases hx; exact hj
  · rw [if_neg h2] at hx; exact shF_lt h _ _ hx
theorem m1I : Int32.ofInt (-1) = -1 := by decide
theorem jobAt_nat {F : Fm} {L : Lm} {o k w : Nat} (hw : F o 6 = nI w) (h20 : w ≤ 20) (hk : k < w) : s_jobAt F L o (nI k) = L o k := jobAt_nI hw h20 hk
