/-! the state grows -/
def RfS (S : SS) : Prop := (∀ (i : Nat) (c : CeS), (sCells S)[i]? = some c → (∀ v ∈ c.2.2.1, v < (sVers S).length) ∧ ∀ q ∈ c.2.2.2, q.1 < (sVers S).length) ∧ (∀ w ∈ sOrd S, w < (sWarn S).length) ∧ (∀ (w : Nat) (x : WaS) (v : Nat), (sWarn S)[w]? = some x → x.2 = some v → v < (sVers S).length) ∧ (∀ (i : Nat) (v : VeS), (sVers S)[i]? = some v → v.1 < (sWarn S).length) ∧
  ∀ (i : Nat) (h : HaS), (sHs S)[i]? = some h → (∀ v, some v ∈ h.2.2.1.1 → v < (sVers S).length) ∧ ∀ q ∈ h.2.2.2, q.1 < (sVers S).length
section GR
variable {F : Nat → Option AC} {S S' : SS} {ad ad' : Nat → Nat → Nat} {A A' : AH}
theorem CTop_ad {κ : Nat} {x : AC} (hκ : κ < 4) (h : CTop S ad κ x) (h1 : ∀ k, k < 4 → ad' k 0 = ad k 0) (h4 : ad' 4 99 = ad 4 99) (h14 : ∀ i, i < (sCells S).length → ad' 14 i = ad 14 i) (h20 : ∀ w ∈ sOrd S, ad' 20 w = ad 20 w) (h23 : ∀ i, i < (sHs S).length → ad' 23 i = ad 23 i) : CTop S ad' κ x := by
  have hk : κ = 0 ∨ κ = 1 ∨ κ = 2 ∨ κ = 3 := by omega
  rcases hk with rfl | rfl | rfl | rfl
  · have h : x = _ := h
    rw [h]
    show _ = _
    rw [h1 1 (by omega), h1 2 (by omega), h1 3 (by omega), h4]
  · obtain ⟨gb, e, l⟩ := h
    have e2 : ((List.range (sCells S).length).map fun i => Value.ref (ad' 14 i)) = (List.range (sCells S).length).map fun i => Value.ref (ad 14 i) := List.map_congr_left (fun i hi => by rw [h14 i (List.mem_range.mp hi)])
    exact ⟨gb, by rw [e, e2], by rw [e2]; exact l⟩
  · obtain ⟨gb, e, l⟩ := h
    have e2 : ((sOrd S).map fun i => Value.ref (ad' 20 i)) = (sOrd S).map fun i => Value.ref (ad 20 i) := List.map_congr_left (fun i hi => by rw [h20 i hi])
    exact ⟨gb, by rw [e, e2], by rw [e2]; exact l⟩
  · obtain ⟨gb, e, l⟩ := h
    have e2 : ((List.range (sHs S).length).map fun i => Value.ref (ad' 23 i)) = (List.range (sHs S).length).map fun i => Value.ref (ad 23 i) := List.map_congr_left (fun i hi => by rw [h23 i (List.mem_range.mp hi)])
    exact ⟨gb, by rw [e, e2], by rw [e2]; exact l⟩
theorem CMsg_ad {m : Pts × Tx} {κ i i' : Nat} {x : AC} (h : CMsg m ad i κ x) (h1 : 4 ≤ κ) (h2 : κ < 14) (hk : ∀ k, 5 ≤ k → k < 14 → ad' k i' = ad k i) : CMsg m ad' i' κ x := by
  rcases k4 h1 h2 with rfl | rfl | rfl | rfl | rfl | rfl | rfl | rfl | rfl | rfl
  · have h : x = _ := h
    rw [h]
    show _ = _
    rw [hk 5 (by omega) (by omega), hk 8 (by omega) (by omega)]
  · have h : x = _ := h
    rw [h]
    show _ = _
    rw [hk 6 (by omega) (by omega), hk 7 (by omega) (by omega)]
  · exact h
  · exact h
  · have h : x = _ := h
    rw [h]
    show _ = _
    rw [hk 9 (by omega) (by omega), hk 13 (by omega) (by omega)]
  · have h : x = _ := h
    rw [h]
    show _ = _
    rw [hk 10 (by omega) (by omega), hk 11 (by omega) (by omega), hk 12 (by omega) (by omega)]
  · exact h
  · exact h
  · exact h
  · exact h
theorem CCell_ad {c : CeS} {κ i : Nat} {x : AC} (h : CCell c ad i κ x) (h1 : 14 ≤ κ) (h2 : κ < 20) (hk : ∀ k, 14 ≤ k → k < 20 → ad' k i = ad k i) (hl : ∀ v ∈ c.2.2.1, ad' 21 v = ad 21 v) (hp : ∀ q ∈ c.2.2.2, ad' 21 q.1 = ad 21 q.1) : CCell c ad' i κ x := by
  have e1 : (c.2.2.1.map fun v => Value.ref (ad' 21 v)) = c.2.2.1.map fun v => Value.ref (ad 21 v) := List.map_congr_left (fun v hv => by rw [hl v hv])
  have e2 : (c.2.2.2.map fun q => Value.ref (ad' 21 q.1)) = c.2.2.2.map fun q => Value.ref (ad 21 q.1) := List.map_congr_left (fun v hv => by rw [hp v hv])
  have hk3 : κ = 14 ∨ κ = 15 ∨ κ = 16 ∨ κ = 17 ∨ κ = 18 ∨ κ = 19 := by omega
  rcases hk3 with rfl | rfl | rfl | rfl | rfl | rfl
  · have h : x = _ := h
    rw [h]
    show _ = _
    have e3 : ad' (if c.2.1.2 then 16 else 15) i = ad (if c.2.1.2 then 16 else 15) i := by split; exact hk 16 (by omega) (by omega); exact hk 15 (by omega) (by omega)
    have e4 : ad' (if c.2.1.2 then 15 else 16) i = ad (if c.2.1.2 then 15 else 16) i := by split; exact hk 15 (by omega) (by omega); exact hk 16 (by omega) (by omega)
    rw [e3, e4, hk 17 (by omega) (by omega), hk 18 (by omega) (by omega), hk 19 (by omega) (by omega)]
  · unfold CCell at h ⊢
    simp only at h ⊢
    rw [e1]; exact h
  · unfold CCell at h ⊢
    simp only at h ⊢
    rw [e1]; exact h
  · unfold CCell at h ⊢
    simp only at h ⊢
    rw [e2]; exact h
  · exact h
  · exact h
theorem CWarn_ad {w : WaS} {i : Nat} {x : AC} (h : CWarn w ad i x) (hv : ∀ v, w.2 = some v → ad' 21 v = ad 21 v) : CWarn w ad' i x := by
  unfold CWarn at h ⊢
  rw [h]
  cases hw : w.2 with
  | none => rfl
  | some v => simp only [rfN]; rw [hv v hw]
theorem CVer_ad {v : VeS} {κ i : Nat} {x : AC} (h : CVer v ad i κ x) (h1 : 21 ≤ κ) (h2 : κ ≤ 22) (hw : ad' 20 v.1 = ad 20 v.1) (hk : v.2.2.isSome = true → ad' 5 i = ad 5 i ∧ ad' 8 i = ad 8 i ∧ ad' 22 i = ad 22 i) : CVer v ad' i κ x := by
  have hk3 : κ = 21 ∨ κ = 22 := by omega
  rcases hk3 with rfl | rfl
  · unfold CVer at h ⊢
    simp only at h ⊢
    rw [h, hw]
    cases hs : v.2.2 with
    | none => rfl
    | some s =>
      obtain ⟨a, b, c⟩ := hk (by rw [hs]; rfl)
      simp only [a, b, c]
  · exact h
theorem CHs_ad {c : HaS} {κ i : Nat} {x : AC} (h : CHs c ad i κ x) (h1 : 23 ≤ κ) (h2 : κ ≤ 30) (hk : ∀ k, 23 ≤ k → k ≤ 30 → ad' k i = ad k i) (hl : ∀ v, some v ∈ c.2.2.1.1 → ad' 21 v = ad 21 v) (hp : ∀ q ∈ c.2.2.2, ad' 21 q.1 = ad 21 q.1) : CHs c ad' i κ x := by
  have e1 : (c.2.2.1.1.map (rfN ad' 21)) = c.2.2.1.1.map (rfN ad 21) := List.map_congr_left (fun v hv => by
    cases v with
    | none => rfl
    | some v => simp only [rfN]; rw [hl v hv])
  have e2 : (c.2.2.2.map fun q => Value.ref (ad' 21 q.1)) = c.2.2.2.map fun q => Value.ref (ad 21 q.1) := List.map_congr_left (fun v hv => by rw [hp v hv])
  rcases k23 h1 h2 with rfl | rfl | rfl | rfl | rfl | rfl | rfl | rfl
  · have h : x = _ := h
    rw [h]
    show _ = _
    rw [hk 24 (by omega) (by omega), hk 25 (by omega) (by omega), hk 26 (by omega) (by omega), hk 27 (by omega) (by omega), hk 28 (by omega) (by omega), hk 29 (by omega) (by omega), hk 30 (by omega) (by omega)]
  · exact h
  · unfold CHs at h ⊢
    simp only at h ⊢
    rw [e1]; exact h
  · exact h
  · exact h
  · unfold CHs at h ⊢
    simp only at h ⊢
    rw [e2]; exact h
  · exact h
  · exact h
/-- other names at places where nothing lives -/
theorem Inv.relab (I : Inv F S ad A) (R : RfS S) (h : ∀ κ i, LV S κ i → ad' κ i = ad κ i) : Inv F S ad' A := by
  obtain ⟨i1, i2, i3, i4⟩ := I
  obtain ⟨r1, r2, r3, r4, r5⟩ := R
  have hV : ∀ v, v < (sVers S).length → ad' 21 v = ad 21 v := fun v hv => h 21 v (LV_ver hv)
  refine ⟨fun κ i κ' i' a b e => i1 κ i κ' i' a b (by rw [← h κ i a, ← h κ' i' b]; exact e), fun κ i a => ?_, fun q x hq => ⟨(i3 q x hq).1, fun κ i a => by rw [h κ i a]; exact (i3 q x hq).2 κ i a⟩, i4⟩
  obtain ⟨x, b1, b2, b3, b4, b5, b6, b7⟩ := i2 κ i a
  refine ⟨x, by rw [h κ i a]; exact b1, fun hκ => CTop_ad hκ (b2 hκ) (fun k hk => h k 0 (Or.inl ⟨hk, rfl⟩)) (h 4 99 (LV_msg (by omega) (by omega))) (fun i hi => h 14 i (LV_cell (by omega) (by omega) hi)) (fun w hw => h 20 w (Or.inr (Or.inr (Or.inr (Or.inl ⟨rfl, r2 w hw⟩))))) (fun i hi => h 23 i (LV_hs (by omega) (by omega) hi)), ?_, ?_, ?_, ?_, ?_⟩
  · intro c1 c2 m hm
    exact CMsg_ad (b3 c1 c2 m hm) c1 c2 (fun k k1 k2 => h k i (Or.inr (Or.inl ⟨by omega, k2, by omega, by rw [hm]; rfl⟩)))
  · intro c1 c2 c hc
    exact CCell_ad (b4 c1 c2 c hc) c1 c2 (fun k k1 k2 => h k i (LV_cell k1 k2 (List.getElem?_eq_some_iff.mp hc).1)) (fun v hv => hV v ((r1 i c hc).1 v hv)) (fun q hq => hV _ ((r1 i c hc).2 q hq))
  · intro c1 w hw
    exact CWarn_ad (b5 c1 w hw) (fun v hv => hV v (r3 i w v hw hv))
  · intro c1 c2 v hv
    refine CVer_ad (b6 c1 c2 v hv) c1 c2 (h 20 _ (Or.inr (Or.inr (Or.inr (Or.inl ⟨rfl, r4 i v hv⟩))))) (fun hs => ?_)
    have hm : (msgOf S i).isSome = true := by
      unfold msgOf
      split
      · rfl
      · rw [hv]; simpa using hs
    exact ⟨h 5 i (Or.inr (Or.inl ⟨by omega, by omega, by omega, hm⟩)), h 8 i (Or.inr (Or.inl ⟨by omega, by omega, by omega, hm⟩)), h 22 i (Or.inr (Or.inr (Or.inr (Or.inr (Or.inr (Or.inl ⟨rfl, v, hv, hs⟩))))))⟩
  · intro c1 c2 c hc
    exact CHs_ad (b7 c1 c2 c hc) c1 c2 (fun k k1 k2 => h k i (LV_hs k1 k2 (List.getElem?_eq_some_iff.mp hc).1)) (fun v hv => hV v ((r5 i c hc).1 v hv)) (fun q hq => hV _ ((r5 i c hc).2 q hq))
/-- the heap grows or changes elsewhere -/
theorem Inv.same (I : Inv F S ad A) (h : ∀ κ i, LV S κ i → A'.1 (ad κ i) = A.1 (ad κ i)) (hF : ∀ q x, F q = some x → A'.1 q = some x) (hb : ∀ q x, A'.1 q = some x → q < A'.2.1) : Inv F S ad A' := by
  obtain ⟨i1, i2, i3, i4⟩ := I
  exact ⟨i1, fun κ i a => by obtain ⟨x, b1, b2⟩ := i2 κ i a; exact ⟨x, (h κ i a).trans b1, b2⟩, fun q x hq => ⟨hF q x hq, (i3 q x hq).2⟩, hb⟩
/-- cells that no role holds become roles -/
theorem Inv.adopt (I : Inv F S ad A) (N : Nat → Nat → Prop) (hLV : ∀ κ i, LV S' κ i → LV S κ i ∨ N κ i) (hne : ∀ κ i, N κ i → (∀ κ' i', LV S κ' i' → ad κ i ≠ ad κ' i') ∧ F (ad κ i) = none) (hnn : ∀ κ i κ' i', N κ i → N κ' i' → ad κ i = ad κ' i' → κ = κ' ∧ i = i')
    (hc : ∀ κ i, LV S' κ i → ∃ x, A'.1 (ad κ i) = some x ∧ CT S' ad κ i x) (hF : ∀ q x, F q = some x → A'.1 q = some x) (hb : ∀ q x, A'.1 q = some x → q < A'.2.1) : Inv F S' ad A' := by
  obtain ⟨i1, i2, i3, i4⟩ := I
  refine ⟨fun κ i κ' i' a b e => ?_, hc, fun q x hq => ⟨hF q x hq, fun κ i a e => ?_⟩, hb⟩
  · rcases hLV κ i a with a | a <;> rcases hLV κ' i' b with b | b
    · exact i1 κ i κ' i' a b e
    · exact absurd e.symm ((hne κ' i' b).1 κ i a)
    · exact absurd e ((hne κ i a).1 κ' i' b)
    · exact hnn κ i κ' i' a b e
  · rcases hLV κ i a with a | a
    · exact (i3 q x hq).2 κ i a e
    · rw [← e, (hne κ i a).2] at hq; cases hq
/-- another message is typed -/
theorem Inv.retype (I : Inv F S ad A) (h40 : (sVers S).length ≤ 40) {m : Pts × Tx} (had : ∀ κ i, ¬ (4 ≤ κ ∧ κ < 14 ∧ i = 99) → ad' κ i = ad κ i) (hnew : ∀ κ, 4 ≤ κ → κ < 14 → A.2.1 ≤ ad' κ 99) (hnn : ∀ κ κ', 4 ≤ κ → κ < 14 → 4 ≤ κ' → κ' < 14 → ad' κ 99 = ad' κ' 99 → κ = κ')
    (hc : ∀ κ, 4 ≤ κ → κ < 14 → ∃ x, A'.1 (ad' κ 99) = some x ∧ CMsg m ad' 99 κ x) (h0 : A'.1 (ad 0 0) = some (0, [.int (sClock S), .ref (ad 1 0), .int (nI (sCells S).length), .ref (ad 2 0), .int (nI (sWarn S).length), .int (nI (sVers S).length), .ref (ad 3 0), .int (nI (sHs S).length), .ref (ad' 4 99)]))
    (hs : ∀ q, q < A.2.1 → q ≠ ad 0 0 → A'.1 q = A.1 q) (hF : F (ad 0 0) = none) (hb : ∀ q x, A'.1 q = some x → q < A'.2.1) : Inv F (setTy S m) ad' A' := by
  obtain ⟨i1, i2, i3, i4⟩ := I
  have hlt : ∀ κ i, LV S κ i → ad κ i < A.2.1 := fun κ i a => by obtain ⟨x, b, -⟩ := i2 κ i a; exact i4 _ x b
  have L0 : LV S 0 0 := Or.inl ⟨by omega, rfl⟩
  refine ⟨fun κ i κ' i' a b e => ?_, fun κ i a => ?_, fun q x hq => ⟨?_, fun κ i a e => ?_⟩, hb⟩
  · rw [LV_setTy] at a b
    by_cases c : 4 ≤ κ ∧ κ < 14 ∧ i = 99 <;> by_cases c' : 4 ≤ κ' ∧ κ' < 14 ∧ i' = 99
    · obtain ⟨c1, c2, rfl⟩ := c
      obtain ⟨c3, c4, rfl⟩ := c'
      exact ⟨hnn κ κ' c1 c2 c3 c4 e, rfl⟩
    · obtain ⟨c1, c2, rfl⟩ := c
      rw [had κ' i' c'] at e
      have := hnew κ c1 c2
      have := hlt κ' i' b
      omega
    · obtain ⟨c1, c2, rfl⟩ := c'
      rw [had κ i c] at e
      have := hnew κ' c1 c2
      have := hlt κ i a
      omega
    · rw [had κ i c, had κ' i' c'] at e
      exact i1 κ i κ' i' a b e
  · rw [LV_setTy] at a
    by_cases c : 4 ≤ κ ∧ κ < 14 ∧ i = 99
    · obtain ⟨c1, c2, rfl⟩ := c
      obtain ⟨x, d1, d2⟩ := hc κ c1 c2
      refine ⟨x, d1, fun h => by omega, fun _ _ m' hm => ?_, fun h _ => by omega, fun h => by omega, fun h _ => by omega, fun h _ => by omega⟩
      have e : m' = m := by simpa [msgOf, setTy] using hm.symm
      rw [e]; exact d2
    · rw [had κ i c]
      by_cases hz : κ = 0
      · subst hz
        have hi : i = 0 := by rcases a with h | h | h | h | h | h | h <;> omega
        subst hi
        refine ⟨_, h0, fun _ => ?_, fun h => by omega, fun h => by omega, fun h => by omega, fun h => by omega, fun h => by omega⟩
        show _ = _
        rw [had 1 0 (by omega), had 2 0 (by omega), had 3 0 (by omega)]
        rfl
      · obtain ⟨x, b1, b2, b3, b4, b5, b6, b7⟩ := i2 κ i a
        refine ⟨x, (hs _ (hlt κ i a) (fun e => hz (i1 κ i 0 0 a L0 e).1)).trans b1, fun hκ => ?_, ?_, ?_, ?_, ?_, ?_⟩
        · have hk : κ = 1 ∨ κ = 2 ∨ κ = 3 := by omega
          have h9 := b2 hκ
          rcases hk with rfl | rfl | rfl
          · obtain ⟨gb, e, l⟩ := h9
            have e2 : ((List.range (sCells S).length).map fun i => Value.ref (ad' 14 i)) = (List.range (sCells S).length).map fun i => Value.ref (ad 14 i) := List.map_congr_left (fun i hi => by rw [had 14 i (by omega)])
            exact ⟨gb, by rw [e]; show (104, _) = (104, _); rw [← e2]; rfl, by show ((List.range (sCells S).length).map fun i => Value.ref (ad' 14 i)).length + _ = _; rw [e2]; exact l⟩
          · obtain ⟨gb, e, l⟩ := h9
            have e2 : ((sOrd S).map fun i => Value.ref (ad' 20 i)) = (sOrd S).map fun i => Value.ref (ad 20 i) := List.map_congr_left (fun i hi => by rw [had 20 i (by omega)])
            exact ⟨gb, by rw [e]; show (105, _) = (105, _); rw [← e2]; rfl, by show ((sOrd S).map fun i => Value.ref (ad' 20 i)).length + _ = _; rw [e2]; exact l⟩
          · obtain ⟨gb, e, l⟩ := h9
            have e2 : ((List.range (sHs S).length).map fun i => Value.ref (ad' 23 i)) = (List.range (sHs S).length).map fun i => Value.ref (ad 23 i) := List.map_congr_left (fun i hi => by rw [had 23 i (by omega)])
            exact ⟨gb, by rw [e]; show (106, _) = (106, _); rw [← e2]; rfl, by show ((List.range (sHs S).length).map fun i => Value.ref (ad' 23 i)).length + _ = _; rw [e2]; exact l⟩
        · intro c1 c2 m' hm
          have hi : ¬ i = 99 := fun e => c ⟨c1, c2, e⟩
          exact CMsg_ad (b3 c1 c2 m' (by simpa [msgOf, setTy, hi] using hm)) c1 c2 (fun k k1 k2 => had k i (by omega))
        · intro c1 c2 c hc
          exact CCell_ad (b4 c1 c2 c hc) c1 c2 (fun k k1 k2 => had k i (by omega)) (fun v _ => had 21 v (by omega)) (fun q _ => had 21 _ (by omega))
        · intro c1 w hw
          exact CWarn_ad (b5 c1 w hw) (fun v _ => had 21 v (by omega))
        · intro c1 c2 v hv
          refine CVer_ad (b6 c1 c2 v hv) c1 c2 (had 20 _ (by omega)) (fun hs => ⟨?_, ?_, had 22 i (by omega)⟩)
          · exact had 5 i (by have := (List.getElem?_eq_some_iff.mp hv).1; have h40 : (sVers (setTy S m)).length ≤ 40 := h40; omega)
          · exact had 8 i (by have := (List.getElem?_eq_some_iff.mp hv).1; have h40 : (sVers (setTy S m)).length ≤ 40 := h40; omega)
        · intro c1 c2 c hc
          exact CHs_ad (b7 c1 c2 c hc) c1 c2 (fun k k1 k2 => had k i (by omega)) (fun v _ => had 21 v (by omega)) (fun q _ => had 21 _ (by omega))
  · obtain ⟨e1, e2⟩ := i3 q x hq
    rw [hs q (i4 q x e1) (fun e => by rw [e, hF] at hq; cases hq)]
    exact e1
  · rw [LV_setTy] at a
    obtain ⟨e1, e2⟩ := i3 q x hq
    by_cases c : 4 ≤ κ ∧ κ < 14 ∧ i = 99
    · obtain ⟨c1, c2, rfl⟩ := c
      have := hnew κ c1 c2
      have := i4 q x e1
      omega
    · rw [had κ i c] at e
      exact e2 κ i a e
end GR
