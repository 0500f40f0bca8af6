/-! ===== the tables' good words, one list for every method ===== -/
def BG : List Cond := lw_tbl.filter goodWord
theorem bg_all : ∀ w ∈ BG, goodWord w = true := fun _ h => (List.mem_filter.mp h).2
theorem bg_tbl : ∀ w ∈ BG, w ∈ lw_tbl := fun _ h => (List.mem_filter.mp h).1
theorem bg_in {w : Cond} (i : Nat) (h : lw_tbl[i]? = some w) (g : goodWord w = true) : w ∈ BG := List.mem_filter.mpr ⟨List.mem_of_getElem? h, g⟩
theorem bg_self : GoodIn BG BG := fun w h => ⟨h, good_of_word (bg_all w h)⟩
theorem bg_c {w : Cond} (h : w ∈ BG) : GoodIn BG (w :: BG) := fun x hx => (List.mem_cons.mp hx).elim (fun e => e ▸ bg_self w h) (fun h => bg_self x h)
theorem bg_app {a b : List Cond} (ha : ∀ w ∈ a, w ∈ BG) (hb : GoodIn BG b) : GoodIn BG (a ++ b) := fun x hx => (List.mem_append.mp hx).elim (fun h => bg_self x (ha x h)) (fun h => hb x h)
theorem bg_V {own C : String} {i : Nat} {y : MethodName} {w : Cond} (h1 : Cond.methodLink own i y ∈ BG) (h2 : Cond.instanceMethod y ∈ BG) (h3 : Cond.selects C y y ∈ BG) (h4 : Cond.initialized C ∈ BG) (h : w ∈ BG) : GoodIn BG (wsV own i C y (w :: BG)) :=
  bg_app (fun x hx => by
    simp only [List.mem_cons, List.not_mem_nil, or_false] at hx
    rcases hx with rfl | rfl | rfl | rfl <;> assumption) (bg_c h)
theorem bg_S {own : String} {i : Nat} {y : MethodName} {w : Cond} (h1 : Cond.methodLink own i y ∈ BG) (h2 : Cond.static y ∈ BG) (h4 : Cond.initialized own ∈ BG) (h : w ∈ BG) : GoodIn BG (wsS own i y (w :: BG)) :=
  bg_app (fun x hx => by
    simp only [List.mem_cons, List.not_mem_nil, or_false] at hx
    rcases hx with rfl | rfl | rfl <;> assumption) (bg_c h)
/-! ===== words that are not good ones: links by nests, casts; strings; casts that fail ===== -/
def ew_is : Cond → Bool
  | .fieldLinkNest .. => true
  | .methodLinkNest .. => true
  | .castable .. => true
  | .declares .. => true
  | _ => false
def EW : List Cond := lw_tbl.filter ew_is
theorem ew_in {w : Cond} (i : Nat) (h : lw_tbl[i]? = some w) (g : ew_is w = true) : w ∈ EW := List.mem_filter.mpr ⟨List.mem_of_getElem? h, g⟩
theorem ew_on : ∀ w : Cond, ew_is w = true → w.onTables = true := by
  intro w h
  cases w <;> first | rfl | (simp [ew_is] at h)
theorem ew_warm {w : Cond} (h : ew_is w = true) {s U : State} (hW : s.WarmedH U.vm) (hz : va_Nw w s) : va_Nw w U := by
  cases w with
  | fieldLinkNest a i b n d hh => exact va_Nw.warmF hW hz
  | methodLinkNest a i x hh => exact va_Nw.warmM hW hz
  | castable C T => exact va_Nw.warmC hW hz
  | declares x => exact va_Nw.warmD hW hz
  | _ => simp [ew_is] at h
def evS : List (Nat × String) := [(341, "of the ledger one asks 0 to 10"), (384, "no such paper"), (104, "of a paper one asks 0 to 5"), (388, "no such press"), (280, "of a press one asks 0 to 6"), (284, "no such place in the queue"), (386, "no such job"), (204, "of a job one asks 0 to 12"), (224, "of what is expected one asks 0 to 6"), (137, "a piece is 1 to 99 wide and high"), (139, "copies are 1 to 9999"), (141, "a set of inks is 1 to 15"), (146, "the piece does not lie on the sheet"), (153, "there are 20 jobs"), (226, "the job is not new"), (73, "lots are 1 to 40"), (79, "the stock would be above 99999"), (232, "the job is not printed"), (236, "there are too few pieces"), (234, "nothing is lacking"), (271, "towers are 1 to 4"), (317, "minutes are 1 to 9999"), (319, "spoiled are 0 to 9999"), (321, "the queue is empty"), (323, "the stock is not more than what is spoiled"), (325, "a wage is 1 to 99"), (327, "a margin is 0 to 200"), (57, "a sheet is 20 to 99 wide and high"), (62, "a price is 1 to 99")]
def eIO : String := "java/lang/IndexOutOfBoundsException"
def eIA : String := "java/lang/IllegalArgumentException"
def eIS : String := "java/lang/IllegalStateException"
def evC : List (String × String) := [(eIA, eIO), (eIS, eIO), (eIS, eIA)]
/-- what a method needs beside good words -/
def EV (U : State) : Prop := (∀ w ∈ EW, va_Nw w U) ∧ (∀ q ∈ evS, ∃ a : Nat, vk_R RX4 q.1 q.2 a U) ∧ (∀ q ∈ evC, va_Nc q.1 q.2 U) ∧ va_AO RX1 U ∧ va_AO RX2 U ∧ va_AO RX3 U
theorem EV.warm {s U : State} (hW : s.WarmedH U.vm) (h : EV s) : EV U :=
  ⟨fun w hw => ew_warm (List.mem_filter.mp hw).2 hW (h.1 w hw), fun q hq => (h.2.1 q hq).elim fun a ha => ⟨a, vk_R.warm hW ha⟩, fun q hq => va_Nc.moved hW.alike (h.2.2.1 q hq), va_AO.moved hW.alike h.2.2.2.1, va_AO.moved hW.alike h.2.2.2.2.1, va_AO.moved hW.alike h.2.2.2.2.2⟩
theorem EV.same {u U : State} (hv : U.vm = u.vm) (h : EV u) : EV U :=
  ⟨fun w hw => va_Nw.same (ew_on w (List.mem_filter.mp hw).2) hv.symm (h.1 w hw), fun q hq => (h.2.1 q hq).elim fun a ha => ⟨a, vk_R.same hv ha⟩, fun q hq => va_Nc.moved (by rw [hv]; exact Vm.Alike.refl _) (h.2.2.1 q hq), va_AO.moved (by rw [hv]; exact Vm.Alike.refl _) h.2.2.2.1, va_AO.moved (by rw [hv]; exact Vm.Alike.refl _) h.2.2.2.2.1, va_AO.moved (by rw [hv]; exact Vm.Alike.refl _) h.2.2.2.2.2⟩
theorem EV.use {s : State} (h : EV s) {w : Cond} (hw : w ∈ EW) {A : Array Value} : w.before A s = true := va_Nw.use (ew_on w (List.mem_filter.mp hw).2) (h.1 w hw)
/-- the two statics that a new exception reads -/
def XZ (A : Nat → Prop) (U : State) (H : Heap) : Prop := vx_Zq Bundle.tN "UNASSIGNED_STACK" Bundle.steD A U H ∧ vx_Zq Bundle.tN "SUPPRESSED_SENTINEL" Bundle.listD A U H
theorem XZ.next {A B : Nat → Prop} {s U : State} {H : Heap} (h : XZ A s s.heap) (hq : ∀ a : Nat, a < s.heap.size → ¬ A a → H[a]? = s.heap[a]?) (hAB : ∀ q, B q → A q) (hvm : s.vm.Alike U.vm) : XZ B U H :=
  ⟨((h.1.kept hq).narrow hAB).moved hvm, ((h.2.kept hq).narrow hAB).moved hvm⟩
theorem XZ.moved {A : Nat → Prop} {s U : State} {H : Heap} (hvm : s.vm.Alike U.vm) (h : XZ A s H) : XZ A U H := ⟨h.1.moved hvm, h.2.moved hvm⟩
theorem XZ.narrow {A B : Nat → Prop} {s : State} {H : Heap} (h : XZ A s H) (hAB : ∀ q, B q → A q) : XZ B s H := ⟨h.1.narrow hAB, h.2.narrow hAB⟩
/-! ===== the world ===== -/
abbrev Em : Type := Nat → Int32
abbrev Fm : Type := Nat → Nat → Int32
abbrev Lm : Type := Nat → Nat → Option Nat
abbrev Sm : Type := Nat → Nat
/-- a state: what is expected; the numbers by object and place; the lines by press (6 .. 9): job numbers by place; the papers of the jobs (0 .. 3); how many jobs. Objects: 0 the shop, 1 the expectation, 2 .. 5 the papers, 6 .. 9 the presses (9: trial), 10 .. 13 their lines, 14, 15, 16 the rows of papers, presses, jobs, 17 + j the jobs -/
abbrev St : Type := Em × Fm × Lm × Sm × Nat
abbrev sE (σ : St) : Em := σ.1
abbrev sF (σ : St) : Fm := σ.2.1
abbrev sL (σ : St) : Lm := σ.2.2.1
abbrev sS (σ : St) : Sm := σ.2.2.2.1
abbrev sN (σ : St) : Nat := σ.2.2.2.2
def cLed (ad : Nat → Nat) (F : Fm) : List Value := [.ref (ad 14), .ref (ad 15), .ref (ad 16), .int (F 0 3), .int (F 0 4), .int (F 0 5), .int (F 0 6), .int (F 0 7), .int (F 0 8), .ref (ad 1), .ref (ad 9)]
def cExp (E : Em) : List Value := [.int (E 0), .int (E 1), .int (E 2), .int (E 3), .int (E 4), .int (E 5), .int (E 6)]
def cPap (F : Fm) (o : Nat) : List Value := [.int (F o 0), .int (F o 1), .int (F o 2), .int (F o 3)]
def cPrs (ad : Nat → Nat) (F : Fm) (o : Nat) : List Value := [.int (F o 0), .int (F o 1), .int (F o 2), .int (F o 3), .int (F o 4), .ref (ad (o + 4)), .int (F o 6)]
def cJob (ad : Nat → Nat) (F : Fm) (sh : Nat) (o : Nat) : List Value := [.int (F o 0), .int (F o 1), .ref (ad (2 + sh)), .int (F o 3), .int (F o 4), .int (F o 5), .int (F o 6), .int (F o 7), .int (F o 8), .int (F o 9), .int (F o 10), .int (F o 11), .int (F o 12), .int (F o 13), .int (F o 14)]
def aLin (ad : Nat → Nat) (L : Nat → Option Nat) : Nat → Option Nat := fun k => (L k).map (fun j => ad (17 + j))
def aPap (ad : Nat → Nat) : Nat → Option Nat := fun k => if k < 4 then some (ad (2 + k)) else none
def aPrs (ad : Nat → Nat) : Nat → Option Nat := fun k => if k < 3 then some (ad (6 + k)) else none
abbrev aRow (cA : ClassId) (n : Nat) (f : Nat → Option Nat) : va_E := .inl (cA, n, .inr (.inr (.inr (.inr f))))
def wC (ca : Nat → ClassId) (ad : Nat → Nat) (σ : St) (o : Nat) : va_E :=
  if o = 0 then .inr (4, cLed ad (sF σ)) else if o = 1 then .inr (0, cExp (sE σ)) else if o < 6 then .inr (2, cPap (sF σ) o) else if o < 10 then .inr (3, cPrs ad (sF σ) o)
  else if o < 14 then aRow (ca o) 20 (aLin ad (sL σ (o - 4))) else if o = 14 then aRow (ca o) 4 (aPap ad) else if o = 15 then aRow (ca o) 3 (aPrs ad) else if o = 16 then aRow (ca o) 20 (aLin ad (sL σ 16))
  else .inr (1, cJob ad (sF σ) (sS σ (o - 17)) o)
def wl (ca : Nat → ClassId) (ad : Nat → Nat) (σ : St) : va_W := (List.range (17 + sN σ)).map (fun o => (ad o, wC ca ad σ o))
abbrev wt (ca : Nat → ClassId) : List (ClassId × FieldType) := [(ca 10, .object RX1), (ca 11, .object RX1), (ca 12, .object RX1), (ca 13, .object RX1), (ca 14, .object RX2), (ca 15, .object RX3), (ca 16, .object RX1)]
section WorldRows
variable {ca : Nat → ClassId} {ad : Nat → Nat} {σ : St} {o : Nat}
theorem wl_at (h : o < 17 + sN σ) : (wl ca ad σ)[o]? = some (ad o, wC ca ad σ o) := by
  unfold wl
  rw [List.getElem?_map, List.getElem?_range h]
  rfl
theorem wl_len : (wl ca ad σ).length = 17 + sN σ := by simp [wl]
theorem wl_of {k : Nat} {q : Nat × va_E} (h : (wl ca ad σ)[k]? = some q) : k < 17 + sN σ ∧ q = (ad k, wC ca ad σ k) := by
  have hk : k < 17 + sN σ := by
    have := (List.getElem?_eq_some_iff.mp h).1
    rwa [wl_len] at this
  rw [wl_at hk] at h
  exact ⟨hk, (Option.some.inj h).symm⟩
theorem wC_0 : wC ca ad σ 0 = .inr (4, cLed ad (sF σ)) := rfl
theorem wC_1 : wC ca ad σ 1 = .inr (0, cExp (sE σ)) := rfl
theorem wC_P (h1 : 2 ≤ o) (h2 : o < 6) : wC ca ad σ o = .inr (2, cPap (sF σ) o) := by
  unfold wC
  rw [if_neg (by omega), if_neg (by omega), if_pos h2]
theorem wC_R (h1 : 6 ≤ o) (h2 : o < 10) : wC ca ad σ o = .inr (3, cPrs ad (sF σ) o) := by
  unfold wC
  rw [if_neg (by omega), if_neg (by omega), if_neg (by omega), if_pos h2]
theorem wC_L (h1 : 6 ≤ o) (h2 : o < 10) : wC ca ad σ (o + 4) = aRow (ca (o + 4)) 20 (aLin ad (sL σ o)) := by
  unfold wC
  rw [if_neg (by omega), if_neg (by omega), if_neg (by omega), if_neg (by omega), if_pos (by omega), Nat.add_sub_cancel]
theorem wC_14 : wC ca ad σ 14 = aRow (ca 14) 4 (aPap ad) := rfl
theorem wC_15 : wC ca ad σ 15 = aRow (ca 15) 3 (aPrs ad) := rfl
theorem wC_16 : wC ca ad σ 16 = aRow (ca 16) 20 (aLin ad (sL σ 16)) := rfl
theorem wC_J {j : Nat} : wC ca ad σ (17 + j) = .inr (1, cJob ad (sF σ) (sS σ j) (17 + j)) := by
  unfold wC
  rw [if_neg (by omega), if_neg (by omega), if_neg (by omega), if_neg (by omega), if_neg (by omega), if_neg (by omega), if_neg (by omega), if_neg (by omega), Nat.add_sub_cancel_left]
end WorldRows
def up2 (F : Fm) (o k : Nat) (v : Int32) : Fm := fun a b => if a = o then (if b = k then v else F a b) else F a b
theorem up2_ne {F : Fm} {o k : Nat} {v : Int32} {a b : Nat} (h : a ≠ o) : up2 F o k v a b = F a b := by simp [up2, h]
theorem up2_o {F : Fm} {o k : Nat} {v : Int32} {b : Nat} (h : b ≠ k) : up2 F o k v o b = F o b := by simp [up2, h]
theorem up2_s {F : Fm} {o k : Nat} {v : Int32} : up2 F o k v o k = v := by simp [up2]
def up1 (E : Em) (k : Nat) (v : Int32) : Em := fun b => if b = k then v else E b
def upL (L : Lm) (o k : Nat) (v : Option Nat) : Lm := fun a b => if a = o then (if b = k then v else L a b) else L a b
/-- another cell at the place o -/
theorem wl_set {ca : Nat → ClassId} {ad : Nat → Nat} {σ τ : St} {o : Nat} {e : va_E} (hn : sN τ = sN σ) (he : wC ca ad τ o = e) (hx : ∀ q, q < 17 + sN σ → q ≠ o → wC ca ad τ q = wC ca ad σ q) : (wl ca ad σ).set o (ad o, e) = wl ca ad τ := by
  apply List.ext_getElem?
  intro k
  by_cases hk : k < 17 + sN σ
  · rw [List.getElem?_set, wl_at (σ := τ) (by rw [hn]; exact hk)]
    by_cases h : o = k
    · subst h
      rw [if_pos rfl, if_pos (by rw [wl_len]; exact hk), he]
    · rw [if_neg h, wl_at hk, hx k hk (fun e => h e.symm)]
  · rw [List.getElem?_eq_none (by rw [List.length_set, wl_len]; omega), List.getElem?_eq_none (by rw [wl_len, hn]; omega)]
theorem wC_F {ca : Nat → ClassId} {ad : Nat → Nat} {E : Em} {F F' : Fm} {L : Lm} {S : Sm} {n q : Nat} (h : ∀ k, F' q k = F q k) : wC ca ad (E, F', L, S, n) q = wC ca ad (E, F, L, S, n) q := by
  unfold wC
  by_cases h0 : q = 0
  · subst h0
    simp only [if_true, cLed, sF, h]
  · rw [if_neg h0, if_neg h0]
    simp only [cPap, cPrs, cJob, sF, sE, sL, sS, sN, h]
theorem wl_F {ca : Nat → ClassId} {ad : Nat → Nat} {E : Em} {F : Fm} {L : Lm} {S : Sm} {n o k : Nat} {v : Int32} {e : va_E} (he : wC ca ad (E, up2 F o k v, L, S, n) o = e) : (wl ca ad (E, F, L, S, n)).set o (ad o, e) = wl ca ad (E, up2 F o k v, L, S, n) :=
  wl_set rfl he (fun q _ hq => wC_F (fun _ => up2_ne hq))
theorem wl_E {ca : Nat → ClassId} {ad : Nat → Nat} {E E' : Em} {F : Fm} {L : Lm} {S : Sm} {n : Nat} : (wl ca ad (E, F, L, S, n)).set 1 (ad 1, .inr (0, cExp E')) = wl ca ad (E', F, L, S, n) :=
  wl_set rfl rfl (fun q _ hq => by unfold wC; simp only [if_neg hq])
theorem wl_L {ca : Nat → ClassId} {ad : Nat → Nat} {E : Em} {F : Fm} {L L' : Lm} {S : Sm} {n o : Nat} (h1 : 6 ≤ o) (h2 : o < 10) (hx : ∀ q, q ≠ o → L' q = L q) : (wl ca ad (E, F, L, S, n)).set (o + 4) (ad (o + 4), aRow (ca (o + 4)) 20 (aLin ad (L' o))) = wl ca ad (E, F, L', S, n) :=
  wl_set rfl (wC_L h1 h2) (fun q _ hq => by
    unfold wC
    by_cases h : q < 10
    · rw [if_pos h, if_pos h]
    · have e : L' (q - 4) = L (q - 4) := hx _ (by omega)
      have e16 : L' 16 = L 16 := hx _ (by omega)
      simp only [sE, sF, sL, sS, sN, e, e16])
theorem wl_L16 {ca : Nat → ClassId} {ad : Nat → Nat} {E : Em} {F : Fm} {L L' : Lm} {S : Sm} {n : Nat} (hx : ∀ q, q ≠ 16 → L' q = L q) : (wl ca ad (E, F, L, S, n)).set 16 (ad 16, aRow (ca 16) 20 (aLin ad (L' 16))) = wl ca ad (E, F, L', S, n) :=
  wl_set rfl wC_16 (fun q _ hq => by
    unfold wC
    by_cases h : q < 14
    · have e : L' (q - 4) = L (q - 4) := hx _ (by omega)
      simp only [sE, sF, sL, sS, sN, e, if_pos h]
    · simp only [sE, sF, sL, sS, sN, if_neg h, if_neg hq])
