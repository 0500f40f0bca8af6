/-! ===== a little array beside the world ===== -/
section ArrRows
variable {p : Program} {l : Launch} {e : Env} {R : Room} {s : State} {m : MethodId} {args : Array Value} {below : List Frame} {meth : Method} {c : Code} {H : Heap} {locs : List Loc} {cells slots : Nat} {Q : State → Prop}
variable {cc : ByteArray} {pc nL : Nat} {ls : Array Slot} {rest st0 : List Value} {own : String} {D : va_G} {ca : Nat → ClassId} {ad : Nat → Nat} {A : Nat → Prop} {σ : St} {mc ms : Nat}
theorem x_new (S : CallFix p m c cc nL s args BG own) (cn : Cn A s) (w : Wd D ca ad A s H locs σ) (harr : (Cond.arrayClass .int).before args s = true) (hc : cells + 1 ≤ R.cells) (hs : slots + 4 ≤ R.slots) (hdg : decode cc pc = .ok (.newarray .int, 2))
    (kk : ∀ (b : Nat) (cA : ClassId) (H1 : Heap), Wd D ca ad A s H1 locs σ → va_P D vwCl [(b, .inl (cA, 4, .inl (fun _ => 0)))] H1 → (∀ o, o < 17 + sN σ → b ≠ ad o) → A b → va_K D vwCl [(cA, .int)] s → W p l e R s m args below meth c H1 locs (cells + 1) (slots + 4) Q (F0 m (pc + 2) ls (.ref b :: rest))) :
    W p l e R s m args below meth c H locs cells slots Q (F0 m pc ls (.int 4 :: rest)) := by
  refine va_newa (atype := .int) (ty := .int) S.1 S.2.1 harr rfl w.2.2.1 w.1 w.2.1 w.2.2.2 cn.1 (N' := 4) (a0 := (4, .inl (fun _ => 0))) (fun cA => rfl) (by decide) (by decide) (by decide) hc hs hdg fun b cA H1 hK hP hD hS => ?_
  have hlen : (wl ca ad σ).length = 17 + sN σ := by simp [wl]
  have hlast : (wl ca ad σ ++ [(b, (Sum.inl (cA, 4, Sum.inl (fun _ => 0)) : va_E))])[17 + sN σ]? = some (b, .inl (cA, 4, .inl (fun _ => 0))) := by
    rw [List.getElem?_append_right (by omega), hlen, Nat.sub_self]; rfl
  have hold : ∀ (k : Nat) (q : Nat × va_E), (wl ca ad σ)[k]? = some q → (wl ca ad σ ++ [(b, (Sum.inl (cA, 4, Sum.inl (fun _ => 0)) : va_E))])[k]? = some q := fun k q hk => by
    rw [List.getElem?_append_left (List.getElem?_eq_some_iff.mp hk).1]; exact hk
  refine kk b cA H1 ⟨hP.by (fun k => k) hold, hD.by (fun k => k) hold (fun i j _ _ h => h), w.2.2.1, hS⟩ (hP.by (fun _ => 17 + sN σ) (fun k q hk => ?_)) (fun o ho hbo => ?_) (hD.2 _ _ hlast) ⟨hK.1, fun k q hk => ?_⟩
  · have hz : k < 1 := (List.getElem?_eq_some_iff.mp hk).1
    obtain rfl : k = 0 := by omega
    rw [hlast]; exact hk
  · have := hD.1 (17 + sN σ) o _ _ hlast (hold o _ (wl_at ho)) hbo
    omega
  · have hz : k < 1 := (List.getElem?_eq_some_iff.mp hk).1
    obtain rfl : k = 0 := by omega
    exact hK.2 7 q hk
theorem x_st (S : CallFix p m c cc nL s args BG own) (w : Wd D ca ad A s H locs σ) {b : Nat} {cA : ClassId} {f : Nat → Int32} (hx : va_P D vwCl [(b, .inl (cA, 4, .inl f))] H) (hbx : ∀ o, o < 17 + sN σ → b ≠ ad o) (hAb : A b) (hK1 : va_K D vwCl [(cA, .int)] s) {i x : Int32} (hin : vp_in i 4) (hdg : decode cc pc = .ok (.iastore, 1))
    (kk : ∀ (H1 : Heap) (locs1 : List Loc), Wd D ca ad A s H1 locs1 σ → va_P D vwCl [(b, .inl (cA, 4, .inl (upd f i.toNatClampNeg x)))] H1 → W p l e R s m args below meth c H1 locs1 cells slots Q (F0 m (pc + 1) ls rest)) :
    W p l e R s m args below meth c H locs cells slots Q (F0 m pc ls (.int x :: .int i :: .ref b :: rest)) := by
  have hlen : (wl ca ad σ).length = 17 + sN σ := by simp [wl]
  have hlast : ∀ y : va_E, (wl ca ad σ ++ [(b, y)])[17 + sN σ]? = some (b, y) := fun y => by
    rw [List.getElem?_append_right (by omega), hlen, Nat.sub_self]; rfl
  have hold : ∀ (y : va_E) (k : Nat) (q : Nat × va_E), (wl ca ad σ)[k]? = some q → (wl ca ad σ ++ [(b, y)])[k]? = some q := fun y k q hk => by
    rw [List.getElem?_append_left (List.getElem?_eq_some_iff.mp hk).1]; exact hk
  have hD1 : va_D A [(b, (Sum.inl (cA, 4, Sum.inl f) : va_E))] := ⟨fun i j p q hi hj _ => by
      have := (List.getElem?_eq_some_iff.mp hi).1; have := (List.getElem?_eq_some_iff.mp hj).1; simp at *; omega, fun k q hk => by
      have hz : k < 1 := (List.getElem?_eq_some_iff.mp hk).1
      obtain rfl : k = 0 := by omega
      cases hk; exact hAb⟩
  have hD2 : va_D A (wl ca ad σ ++ [(b, (Sum.inl (cA, 4, Sum.inl f) : va_E))]) := w.2.1.app hD1 (fun i j p q hi hj h => by
      have hz : j < 1 := (List.getElem?_eq_some_iff.mp hj).1
      obtain rfl : j = 0 := by omega
      cases hj
      obtain ⟨h1, rfl⟩ := wl_of hi
      exact hbx i h1 h.symm)
  refine va_iast S.1 S.2.1 hK1 (w.1.app hx) hD2 w.2.2.2 (17 + sN σ) 0 (hlast _) rfl hin hdg fun H1 locs1 hP hD hS => ?_
  have hset : (wl ca ad σ ++ [(b, (Sum.inl (cA, 4, Sum.inl f) : va_E))]).set (17 + sN σ) (b, .inl (cA, 4, .inl (upd f i.toNatClampNeg x))) = wl ca ad σ ++ [(b, .inl (cA, 4, .inl (upd f i.toNatClampNeg x)))] := by
    rw [List.set_append_right _ _ (by omega), hlen, Nat.sub_self]; rfl
  rw [hset] at hP hD
  refine kk H1 locs1 ⟨hP.by (fun k => k) (hold _), hD.by (fun k => k) (hold _) (fun i j _ _ h => h), w.2.2.1, hS⟩ (hP.by (fun _ => 17 + sN σ) (fun k q hk => ?_))
  have hz : k < 1 := (List.getElem?_eq_some_iff.mp hk).1
  obtain rfl : k = 0 := by omega
  rw [hlast]; exact hk
theorem x_calli {a : Array Value} {post : Int32 → St → Prop} {b : Nat} {y : va_E} (cn : Cn A s) (w : Wd D ca ad A s H locs σ) (hbx : ∀ o, o < 17 + sN σ → b ≠ ad o) (hx : va_P D vwCl [(b, y)] H) (hr : va_Run p l e R s m args below meth c H locs cells slots mc ms (F0 m pc ls st0) rest (Qi D ca ad (sN σ) post H.size a) (wA ad (sN σ) H.size))
    (kk : ∀ (r : Int32) (u : St) (H1 : Heap) (locs1 : List Loc), post r u → Wd D ca ad A s H1 locs1 u → va_P D vwCl [(b, y)] H1 → W p l e R s m args below meth c H1 locs1 (cells + mc) (slots + ms) Q (F0 m (pc + 3) ls (.int r :: rest))) : W p l e R s m args below meth c H locs cells slots Q (F0 m pc ls st0) :=
  va_calli hr w.2.2.2 (fun q _ h => w_sub cn w q h) (w_sub cn w) (fun r u t H1 locs1 ht hvm hp hB hz hk hS => kk r u H1 locs1 hp (w_back cn w ht hvm hB hS) (hx.kept (fun k q hq => by
    have hz : k < 1 := (List.getElem?_eq_some_iff.mp hq).1
    obtain rfl : k = 0 := by omega
    have hlt := (hx 0 q hq).lt
    cases hq
    refine hk b hlt (fun h => ?_)
    rcases h with ⟨o, ho, hbo⟩ | h
    · exact hbx o ho hbo
    · exact absurd hlt (Nat.not_lt.mpr h))))
end ArrRows
