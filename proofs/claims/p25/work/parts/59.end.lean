/-! ===== the end: the invariant is the law's; the new shop has it ===== -/
def IvP (F : Fm) (L : Lm) (S : Sm) (n : Nat) (q : Nat → Nat) (t : Nat) : Prop := Inv F L S n q t ∧ t ≤ 60
theorem GG_eq {F : Fm} {n t : Nat} {x : Int32} (ht : t < 60) : GG IvP t F n x = GG Inv t F n x := by
  funext u
  apply propext
  constructor
  · rintro ⟨q2, ⟨h, -⟩, hb⟩
    exact ⟨q2, h, hb⟩
  · rintro ⟨q2, h, hb⟩
    exact ⟨q2, ⟨h, by omega⟩, hb⟩
theorem mx_n {F : Fm} {L : Lm} {S : Sm} {n t : Nat} {q : Nat → Nat} (h : Inv F L S n q t) : mx 1 (s_many F n 0) = nI (max 1 n) := by
  rw [many_0, h.2.1.1, show (1 : Int32) = nI 1 from rfl]
  have := h.1
  exact pu_mx 1 n (by omega) (by omega)
theorem ok_0 {F : Fm} {L : Lm} {S : Sm} {n : Nat} {q : Nat → Nat} {x jb r pp : Int32} {G : Fm × Lm × Sm × Nat → Prop} (h : ak_0 F L S n q x jb r pp G) : AOk F L S n q x jb r pp G := Or.inl h
theorem ok_1 {F : Fm} {L : Lm} {S : Sm} {n : Nat} {q : Nat → Nat} {x jb r pp : Int32} {G : Fm × Lm × Sm × Nat → Prop} (h : ak_1 F L S n q x jb r pp G) : AOk F L S n q x jb r pp G := Or.inr (Or.inl h)
theorem ok_2 {F : Fm} {L : Lm} {S : Sm} {n : Nat} {q : Nat → Nat} {x jb r pp : Int32} {G : Fm × Lm × Sm × Nat → Prop} (h : ak_2 F L S n q x jb r pp G) : AOk F L S n q x jb r pp G := Or.inr (Or.inr (Or.inl h))
theorem ok_3 {F : Fm} {L : Lm} {S : Sm} {n : Nat} {q : Nat → Nat} {x jb r pp : Int32} {G : Fm × Lm × Sm × Nat → Prop} (h : ak_3 F L S n q x jb r pp G) : AOk F L S n q x jb r pp G := Or.inr (Or.inr (Or.inr (Or.inl h)))
theorem ok_4 {F : Fm} {L : Lm} {S : Sm} {n : Nat} {q : Nat → Nat} {x jb r pp : Int32} {G : Fm × Lm × Sm × Nat → Prop} (h : ak_4 F L S n q x jb r pp G) : AOk F L S n q x jb r pp G := Or.inr (Or.inr (Or.inr (Or.inr (Or.inl h))))
theorem ok_5 {F : Fm} {L : Lm} {S : Sm} {n : Nat} {q : Nat → Nat} {x jb r pp : Int32} {G : Fm × Lm × Sm × Nat → Prop} (h : ak_5 F L S n q x jb r pp G) : AOk F L S n q x jb r pp G := Or.inr (Or.inr (Or.inr (Or.inr (Or.inr (Or.inl h)))))
theorem ok_6 {F : Fm} {L : Lm} {S : Sm} {n : Nat} {q : Nat → Nat} {x jb r pp : Int32} {G : Fm × Lm × Sm × Nat → Prop} (h : ak_6 F L S n q x jb r pp G) : AOk F L S n q x jb r pp G := Or.inr (Or.inr (Or.inr (Or.inr (Or.inr (Or.inr (Or.inl h))))))
theorem ok_7 {F : Fm} {L : Lm} {S : Sm} {n : Nat} {q : Nat → Nat} {x jb r pp : Int32} {G : Fm × Lm × Sm × Nat → Prop} (h : ak_7 F L S n q x jb r pp G) : AOk F L S n q x jb r pp G := Or.inr (Or.inr (Or.inr (Or.inr (Or.inr (Or.inr (Or.inr (Or.inl h)))))))
theorem ok_8 {F : Fm} {L : Lm} {S : Sm} {n : Nat} {q : Nat → Nat} {x jb r pp : Int32} {G : Fm × Lm × Sm × Nat → Prop} (h : ak_8 F L S n q x jb r pp G) : AOk F L S n q x jb r pp G := Or.inr (Or.inr (Or.inr (Or.inr (Or.inr (Or.inr (Or.inr (Or.inr (Or.inl h))))))))
theorem ok_9 {F : Fm} {L : Lm} {S : Sm} {n : Nat} {q : Nat → Nat} {x jb r pp : Int32} {G : Fm × Lm × Sm × Nat → Prop} (h : ak_9 F L S n q x jb r pp G) : AOk F L S n q x jb r pp G := Or.inr (Or.inr (Or.inr (Or.inr (Or.inr (Or.inr (Or.inr (Or.inr (Or.inr (Or.inl h)))))))))
theorem ok_10 {F : Fm} {L : Lm} {S : Sm} {n : Nat} {q : Nat → Nat} {x jb r pp : Int32} {G : Fm × Lm × Sm × Nat → Prop} (h : ak_10 F L S n q x jb r pp G) : AOk F L S n q x jb r pp G := Or.inr (Or.inr (Or.inr (Or.inr (Or.inr (Or.inr (Or.inr (Or.inr (Or.inr (Or.inr (Or.inl h))))))))))
theorem ok_11 {F : Fm} {L : Lm} {S : Sm} {n : Nat} {q : Nat → Nat} {x jb r pp : Int32} {G : Fm × Lm × Sm × Nat → Prop} (h : ak_11 F L S n q x jb r pp G) : AOk F L S n q x jb r pp G := Or.inr (Or.inr (Or.inr (Or.inr (Or.inr (Or.inr (Or.inr (Or.inr (Or.inr (Or.inr (Or.inr (Or.inl h)))))))))))
theorem ok_12 {F : Fm} {L : Lm} {S : Sm} {n : Nat} {q : Nat → Nat} {x jb r pp : Int32} {G : Fm × Lm × Sm × Nat → Prop} (h : ak_12 F L S n q x jb r pp G) : AOk F L S n q x jb r pp G := Or.inr (Or.inr (Or.inr (Or.inr (Or.inr (Or.inr (Or.inr (Or.inr (Or.inr (Or.inr (Or.inr (Or.inr (Or.inl h))))))))))))
theorem ok_13 {F : Fm} {L : Lm} {S : Sm} {n : Nat} {q : Nat → Nat} {x jb r pp : Int32} {G : Fm × Lm × Sm × Nat → Prop} (h : ak_13 F L S n q x jb r pp G) : AOk F L S n q x jb r pp G := Or.inr (Or.inr (Or.inr (Or.inr (Or.inr (Or.inr (Or.inr (Or.inr (Or.inr (Or.inr (Or.inr (Or.inr (Or.inr (Or.inl h)))))))))))))
theorem ok_14 {F : Fm} {L : Lm} {S : Sm} {n : Nat} {q : Nat → Nat} {x jb r pp : Int32} {G : Fm × Lm × Sm × Nat → Prop} (h : ak_14 F L S n q x jb r pp G) : AOk F L S n q x jb r pp G := Or.inr (Or.inr (Or.inr (Or.inr (Or.inr (Or.inr (Or.inr (Or.inr (Or.inr (Or.inr (Or.inr (Or.inr (Or.inr (Or.inr (Or.inl h))))))))))))))
theorem ok_15 {F : Fm} {L : Lm} {S : Sm} {n : Nat} {q : Nat → Nat} {x jb r pp : Int32} {G : Fm × Lm × Sm × Nat → Prop} (h : ak_15 F L S n q x jb r pp G) : AOk F L S n q x jb r pp G := Or.inr (Or.inr (Or.inr (Or.inr (Or.inr (Or.inr (Or.inr (Or.inr (Or.inr (Or.inr (Or.inr (Or.inr (Or.inr (Or.inr (Or.inr (Or.inl h)))))))))))))))
theorem ok_16 {F : Fm} {L : Lm} {S : Sm} {n : Nat} {q : Nat → Nat} {x jb r pp : Int32} {G : Fm × Lm × Sm × Nat → Prop} (h : ak_16 F L S n q x jb r pp G) : AOk F L S n q x jb r pp G := Or.inr (Or.inr (Or.inr (Or.inr (Or.inr (Or.inr (Or.inr (Or.inr (Or.inr (Or.inr (Or.inr (Or.inr (Or.inr (Or.inr (Or.inr (Or.inr (Or.inl h))))))))))))))))
theorem ok_17 {F : Fm} {L : Lm} {S : Sm} {n : Nat} {q : Nat → Nat} {x jb r pp : Int32} {G : Fm × Lm × Sm × Nat → Prop} (h : ak_17 F L S n q x jb r pp G) : AOk F L S n q x jb r pp G := Or.inr (Or.inr (Or.inr (Or.inr (Or.inr (Or.inr (Or.inr (Or.inr (Or.inr (Or.inr (Or.inr (Or.inr (Or.inr (Or.inr (Or.inr (Or.inr (Or.inr (Or.inl h)))))))))))))))))
theorem ok_18 {F : Fm} {L : Lm} {S : Sm} {n : Nat} {q : Nat → Nat} {x jb r pp : Int32} {G : Fm × Lm × Sm × Nat → Prop} (h : ak_18 F L S n q x jb r pp G) : AOk F L S n q x jb r pp G := Or.inr (Or.inr (Or.inr (Or.inr (Or.inr (Or.inr (Or.inr (Or.inr (Or.inr (Or.inr (Or.inr (Or.inr (Or.inr (Or.inr (Or.inr (Or.inr (Or.inr (Or.inr (Or.inl h))))))))))))))))))
theorem ok_19 {F : Fm} {L : Lm} {S : Sm} {n : Nat} {q : Nat → Nat} {x jb r pp : Int32} {G : Fm × Lm × Sm × Nat → Prop} (h : ak_19 F L S n q x jb r pp G) : AOk F L S n q x jb r pp G := Or.inr (Or.inr (Or.inr (Or.inr (Or.inr (Or.inr (Or.inr (Or.inr (Or.inr (Or.inr (Or.inr (Or.inr (Or.inr (Or.inr (Or.inr (Or.inr (Or.inr (Or.inr (Or.inr (Or.inl h)))))))))))))))))))
theorem ok_20 {F : Fm} {L : Lm} {S : Sm} {n : Nat} {q : Nat → Nat} {x jb r pp : Int32} {G : Fm × Lm × Sm × Nat → Prop} (h : ak_20 F L S n q x jb r pp G) : AOk F L S n q x jb r pp G := Or.inr (Or.inr (Or.inr (Or.inr (Or.inr (Or.inr (Or.inr (Or.inr (Or.inr (Or.inr (Or.inr (Or.inr (Or.inr (Or.inr (Or.inr (Or.inr (Or.inr (Or.inr (Or.inr (Or.inr (h))))))))))))))))))))
theorem any_ok {F : Fm} {L : Lm} {S : Sm} {n t β : Nat} {q : Nat → Nat} {x jb r pp : Int32} (h : Inv F L S n q t) (hjb : jb = nI β) (hβ : β < max 1 n) (h3 : erI 3 r = 0) (h4 : erI 4 pp = 0) : AOk F L S n q x jb r pp (GG Inv t F n x) := by
  obtain ⟨k, hk, ek⟩ := pu_below x (n := 13) (by omega) (by omega)
  have ek : s_below x 13 = nI k := ek
  rcases (show k = 0 ∨ k = 1 ∨ k = 2 ∨ k = 3 ∨ k = 4 ∨ k = 5 ∨ k = 6 ∨ k = 7 ∨ k = 8 ∨ k = 9 ∨ k = 10 ∨ k = 11 ∨ k = 12 by omega) with rfl | rfl | rfl | rfl | rfl | rfl | rfl | rfl | rfl | rfl | rfl | rfl | rfl
  · rcases k_job h (Or.inl ek) h4 with z | z
    · exact ok_0 z
    · exact ok_1 z
  · rcases k_job h (Or.inr ek) h4 with z | z
    · exact ok_0 z
    · exact ok_1 z
  · rcases k_order h (Or.inl ek) hjb hβ h3 with z | z | z
    · exact ok_2 z
    · exact ok_3 z
    · exact ok_4 z
  · rcases k_order h (Or.inr ek) hjb hβ h3 with z | z | z
    · exact ok_2 z
    · exact ok_3 z
    · exact ok_4 z
  · rcases k_buy h ek h4 with z | z
    · exact ok_5 z
    · exact ok_6 z
  · exact ok_7 (k_buyAll h ek)
  · rcases k_invoice h ek hjb hβ with z | z | z
    · exact ok_8 z
    · exact ok_9 z
    · exact ok_10 z
  · rcases k_again h ek hjb hβ with z | z | z
    · exact ok_11 z
    · exact ok_12 z
    · exact ok_13 z
  · exact ok_14 (k_sort h ek h3)
  · exact ok_15 (k_towers h ek h3)
  · rcases k_told h (Or.inl ek) h3 with z | z | z
    · exact ok_16 z
    · exact ok_17 z
    · exact ok_18 z
  · rcases k_told h (Or.inr ek) h3 with z | z | z
    · exact ok_16 z
    · exact ok_17 z
    · exact ok_18 z
  · by_cases hb : s_below (x >>> ((6 : Int32) &&& 31)) 2 = 0
    · exact ok_19 (k_terms h ek hb)
    · exact ok_20 (k_paper h ek h4 hb)
theorem law_inv : LawInv IvP := by
  refine ⟨fun F L S n q t h => h.1.lf, fun F L S n q t h ht x => ?_, fun F L S n q t h => ⟨h.1.jj, h.1.jp h.2⟩, fun F L S n q t h b1 hb => h.1.jq b1 hb⟩
  obtain ⟨h, -⟩ := h
  have hn := h.1
  rw [GG_eq ht, mx_n h]
  obtain ⟨β, hβ, eβ⟩ := pu_below (x >>> ((3 : Int32) &&& 31)) (n := max 1 n) (by omega) (by omega)
  obtain ⟨ρ, hρ, eρ⟩ := pu_below (x >>> ((5 : Int32) &&& 31)) (n := 3) (by omega) (by omega)
  obtain ⟨π, hπ, eπ⟩ := pu_below (x >>> ((4 : Int32) &&& 31)) (n := 4) (by omega) (by omega)
  have eρ : s_below (x >>> ((5 : Int32) &&& 31)) 3 = nI ρ := eρ
  have eπ : s_below (x >>> ((4 : Int32) &&& 31)) 4 = nI π := eπ
  exact any_ok h eβ hβ (by rw [eρ]; exact erI_in (vp_in_nI hρ (by omega))) (by rw [eπ]; exact erI_in (vp_in_nI hπ (by omega)))
theorem F00_6 {o : Nat} (h1 : 6 ≤ o) (h2 : o < 10) : F00 o = fun k => if k = 0 then 2 else if k = 2 then 20 else if k = 3 then 30 else if k = 4 then 50 else 0 := by
  funext k
  unfold F00
  rw [if_neg (by omega), if_neg (by omega), if_neg (by omega), if_pos h2]
theorem F00_2 {o : Nat} (h1 : 2 ≤ o) (h2 : o < 6) : F00 o = fun k => if k = 0 then 70 else if k = 1 then 50 else if k = 2 then 5 else 0 := by
  funext k
  unfold F00
  rw [if_neg (by omega), if_neg (by omega), if_pos h2]
theorem inv_new : Inv F00 (fun _ _ => none) (fun _ => 0) 0 (fun _ => 0) 0 := by
  refine ⟨by omega, ⟨rfl, ?_⟩, fun j hj => absurd hj (by omega), fun o h1 h2 => ?_, fun o h1 h2 => ?_, ?_, fun _ => [], fun o ho => ⟨fun k => List.getElem?_nil.symm, rfl, ?_⟩, rfl, fun o h1 h2 j => ?_, rfl⟩
  · funext k
    unfold aJb
    rw [if_neg (by omega)]
  · rw [F00_2 h1 h2]
    exact ⟨70, 50, 5, 0, ⟨rfl, by omega, by omega⟩, ⟨rfl, by omega, by omega⟩, ⟨rfl, by omega, by omega⟩, ⟨rfl, by omega⟩⟩
  · rw [F00_6 h1 (by omega)]
    exact ⟨2, 20, 30, 50, ⟨rfl, by omega, by omega⟩, ⟨rfl, by omega, by omega⟩, ⟨rfl, by omega, by omega⟩, ⟨rfl, by omega⟩⟩
  · exact ⟨10, 25, 0, 0, ⟨rfl, by omega, by omega⟩, ⟨rfl, by omega⟩, ⟨rfl, by omega, Nat.le_refl 0⟩, ⟨rfl, by omega⟩⟩
  · rw [F00_6 ho.1 ho.2]
    rfl
  · rw [if_neg (by omega)]
    rfl
