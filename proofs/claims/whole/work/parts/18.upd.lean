/-! the state changes: one component at a time -/
theorem tw_54 : TW WS YS "AreaWarnings" 54 56 "java/lang/IllegalArgumentException" := ⟨in_at 231 (by decide +kernel), in_at 232 (by decide +kernel), by decide +kernel, by decide +kernel, by decide +kernel⟩
theorem tw_57 : TW WS YS "AreaWarnings" 57 59 "java/lang/IllegalStateException" := ⟨in_at 295 (by decide +kernel), in_at 296 (by decide +kernel), by decide +kernel, by decide +kernel, by decide +kernel⟩
theorem tw_125 : TW WS YS "AreaWarnings" 125 127 "java/lang/UnsupportedOperationException" := ⟨in_at 467 (by decide +kernel), in_at 468 (by decide +kernel), by decide +kernel, by decide +kernel, by decide +kernel⟩
theorem tw_193 : TW WS YS "AreaWarnings" 193 195 "java/lang/IndexOutOfBoundsException" := ⟨in_at 607 (by decide +kernel), in_at 608 (by decide +kernel), by decide +kernel, by decide +kernel, by decide +kernel⟩
section UP
variable {F : Nat → Option AC} {S : SS} {ad : Nat → Nat → Nat} {A : AH}
theorem Inv.upd {S' : SS} {A' : AH} (I : Inv F S ad A) (h2 : A'.2 = A.2) (hLV : ∀ κ i, LV S' κ i ↔ LV S κ i) (D : Nat → Nat → Prop) (hag : ∀ q, (∀ κ i, LV S κ i → D κ i → q ≠ ad κ i) → A'.1 q = A.1 q)
    (hD : ∀ κ i, LV S κ i → D κ i → ∃ x, A'.1 (ad κ i) = some x ∧ CT S' ad κ i x) (hcl : ∀ κ i x, LV S κ i → ¬ D κ i → CT S ad κ i x → CT S' ad κ i x) : Inv F S' ad A' := by
  obtain ⟨i1, i2, i3, i4⟩ := I
  refine ⟨fun κ i κ' i' h h' e => i1 κ i κ' i' ((hLV κ i).mp h) ((hLV κ' i').mp h') e, fun κ i h => ?_, fun q x hq => ?_, fun q x hq => ?_⟩
  · have h := (hLV κ i).mp h
    by_cases hd : D κ i
    · exact hD κ i h hd
    · obtain ⟨x, h3, h4⟩ := i2 κ i h
      refine ⟨x, ?_, hcl κ i x h hd h4⟩
      rw [hag]
      · exact h3
      · intro κ' i' h' hd' e
        obtain ⟨rfl, rfl⟩ := i1 κ i κ' i' h h' e
        exact hd hd'
  · obtain ⟨h3, h4⟩ := i3 q x hq
    refine ⟨?_, fun κ i h => h4 κ i ((hLV κ i).mp h)⟩
    rw [hag q (fun κ i h _ e => h4 κ i h e.symm)]
    exact h3
  · rw [h2]
    by_cases hc : ∃ κ i, LV S κ i ∧ D κ i ∧ q = ad κ i
    · obtain ⟨κ, i, h, -, rfl⟩ := hc
      obtain ⟨y, h3, -⟩ := i2 κ i h
      exact i4 _ y h3
    · rw [hag q (fun κ i h hd e => hc ⟨κ, i, h, hd, e⟩)] at hq
      exact i4 q x hq
def setCe (S : SS) (i : Nat) (c : CeS) : SS := (S.1, (sCells S).set i c, S.2.2)
def setHs (S : SS) (i : Nat) (h : HaS) : SS := (S.1, S.2.1, S.2.2.1, S.2.2.2.1, S.2.2.2.2.1, (sHs S).set i h)
def setTy (S : SS) (m : Pts × Tx) : SS := (S.1, S.2.1, m, S.2.2.2)
def setCk (S : SS) (k : Int32) : SS := (k, S.2)
theorem msgOf_setCe (S : SS) (i j : Nat) (c : CeS) : msgOf (setCe S i c) j = msgOf S j := rfl
theorem LV_setCe (S : SS) (i : Nat) (c : CeS) (κ j : Nat) : LV (setCe S i c) κ j ↔ LV S κ j := by
  unfold LV
  rw [show (sCells (setCe S i c)).length = (sCells S).length from List.length_set]
  exact Iff.rfl
theorem LV_setHs (S : SS) (i : Nat) (h : HaS) (κ j : Nat) : LV (setHs S i h) κ j ↔ LV S κ j := by
  unfold LV
  rw [show (sHs (setHs S i h)).length = (sHs S).length from List.length_set]
  exact Iff.rfl
theorem LV_setTy (S : SS) (m : Pts × Tx) (κ j : Nat) : LV (setTy S m) κ j ↔ LV S κ j := by
  have h : (msgOf (setTy S m) j).isSome = (msgOf S j).isSome := by
    unfold msgOf setTy
    split <;> simp
  simp only [LV, h]
  rfl
theorem LV_setCk (S : SS) (k : Int32) (κ j : Nat) : LV (setCk S k) κ j ↔ LV S κ j := Iff.rfl
theorem CTop_len {S S' : SS} {ad : Nat → Nat → Nat} {κ : Nat} {x : AC} (h0 : sClock S' = sClock S) (h1 : (sCells S').length = (sCells S).length) (h2 : (sWarn S').length = (sWarn S).length) (h3 : (sVers S').length = (sVers S).length) (h4 : (sHs S').length = (sHs S).length) (h5 : sOrd S' = sOrd S) (h : CTop S ad κ x) : CTop S' ad κ x := by
  unfold CTop at h ⊢
  rw [h0, h1, h2, h3, h4, h5]
  exact h
/-- one cell's record -/
theorem Inv.updCell {A' : AH} {i : Nat} {c' : CeS} (I : Inv F S ad A) (hi : i < (sCells S).length) (h2 : A'.2 = A.2) (hag : ∀ q, (∀ κ, 14 ≤ κ → κ < 20 → q ≠ ad κ i) → A'.1 q = A.1 q) (hnew : ∀ κ, 14 ≤ κ → κ < 20 → ∃ x, A'.1 (ad κ i) = some x ∧ CCell c' ad i κ x) : Inv F (setCe S i c') ad A' := by
  refine I.upd h2 (LV_setCe S i c') (fun κ j => 14 ≤ κ ∧ κ < 20 ∧ j = i) (fun q hq => hag q (fun κ h3 h4 => hq κ i (Or.inr (Or.inr (Or.inl ⟨h3, h4, hi⟩))) ⟨h3, h4, rfl⟩)) ?_ ?_
  · rintro κ j - ⟨h3, h4, rfl⟩
    obtain ⟨x, h5, h6⟩ := hnew κ h3 h4
    refine ⟨x, h5, fun h => by omega, fun _ h => by omega, fun _ _ c hc => ?_, fun h => by omega, fun h _ => by omega, fun h _ => by omega⟩
    have e : ((sCells S).set j c')[j]? = some c := hc
    rw [List.getElem?_set_self hi] at e
    cases e
    exact h6
  · intro κ j x _ hd hx
    obtain ⟨x1, x2, x3, x4, x5, x6⟩ := hx
    refine ⟨fun h => CTop_len (S := S) rfl List.length_set rfl rfl rfl rfl (x1 h), x2, fun h3 h4 c hc => ?_, x4, x5, x6⟩
    have hne : i ≠ j := fun e => hd ⟨h3, h4, e.symm⟩
    have e : ((sCells S).set i c')[j]? = some c := hc
    rw [List.getElem?_set_ne hne] at e
    exact x3 h3 h4 c e
/-- one handset's record -/
theorem Inv.updHs {A' : AH} {i : Nat} {h' : HaS} (I : Inv F S ad A) (hi : i < (sHs S).length) (h2 : A'.2 = A.2) (hag : ∀ q, (∀ κ, 23 ≤ κ → κ ≤ 30 → q ≠ ad κ i) → A'.1 q = A.1 q) (hnew : ∀ κ, 23 ≤ κ → κ ≤ 30 → ∃ x, A'.1 (ad κ i) = some x ∧ CHs h' ad i κ x) : Inv F (setHs S i h') ad A' := by
  refine I.upd h2 (LV_setHs S i h') (fun κ j => 23 ≤ κ ∧ κ ≤ 30 ∧ j = i) (fun q hq => hag q (fun κ h3 h4 => hq κ i (Or.inr (Or.inr (Or.inr (Or.inr (Or.inr (Or.inr ⟨h3, h4, hi⟩)))))) ⟨h3, h4, rfl⟩)) ?_ ?_
  · rintro κ j - ⟨h3, h4, rfl⟩
    obtain ⟨x, h5, h6⟩ := hnew κ h3 h4
    refine ⟨x, h5, fun h => by omega, fun _ h => by omega, fun _ h => by omega, fun h => by omega, fun _ h => by omega, fun _ _ c hc => ?_⟩
    have e : ((sHs S).set j h')[j]? = some c := hc
    rw [List.getElem?_set_self hi] at e
    cases e
    exact h6
  · intro κ j x _ hd hx
    obtain ⟨x1, x2, x3, x4, x5, x6⟩ := hx
    refine ⟨fun h => CTop_len (S := S) rfl rfl rfl rfl List.length_set rfl (x1 h), x2, x3, x4, x5, fun h3 h4 c hc => ?_⟩
    have hne : i ≠ j := fun e => hd ⟨h3, h4, e.symm⟩
    have e : ((sHs S).set i h')[j]? = some c := hc
    rw [List.getElem?_set_ne hne] at e
    exact x6 h3 h4 c e
/-- what is typed -/
theorem Inv.updTy {A' : AH} {m' : Pts × Tx} (I : Inv F S ad A) (h2 : A'.2 = A.2) (hag : ∀ q, (∀ κ, 4 ≤ κ → κ < 14 → q ≠ ad κ 99) → A'.1 q = A.1 q) (hnew : ∀ κ, 4 ≤ κ → κ < 14 → ∃ x, A'.1 (ad κ 99) = some x ∧ CMsg m' ad 99 κ x) : Inv F (setTy S m') ad A' := by
  refine I.upd h2 (LV_setTy S m') (fun κ j => 4 ≤ κ ∧ κ < 14 ∧ j = 99) (fun q hq => hag q (fun κ h3 h4 => hq κ 99 (Or.inr (Or.inl ⟨h3, h4, fun _ => rfl, by simp [msgOf]⟩)) ⟨h3, h4, rfl⟩)) ?_ ?_
  · rintro κ j - ⟨h3, h4, rfl⟩
    obtain ⟨x, h5, h6⟩ := hnew κ h3 h4
    refine ⟨x, h5, fun h => by omega, fun _ _ m hm => ?_, fun h _ => by omega, fun h => by omega, fun h _ => by omega, fun h _ => by omega⟩
    have e : m = m' := by simpa [msgOf, setTy] using hm.symm
    rw [e]; exact h6
  · intro κ j x _ hd hx
    obtain ⟨x1, x2, x3, x4, x5, x6⟩ := hx
    refine ⟨x1, fun h3 h4 m hm => x2 h3 h4 m ?_, x3, x4, x5, x6⟩
    have hne : ¬ j = 99 := fun e => hd ⟨h3, h4, e⟩
    simpa [msgOf, setTy, hne] using hm
/-- the clock -/
theorem Inv.updCk (I : Inv F S ad A) {k : Int32} {x : AC} (hx : x = (0, [.int k, .ref (ad 1 0), .int (nI (sCells S).length), .ref (ad 2 0), .int (nI (sWarn S).length), .int (nI (sVers S).length), .ref (ad 3 0), .int (nI (sHs S).length), .ref (ad 4 99)])) : Inv F (setCk S k) ad (aset A (ad 0 0) x) := by
  refine I.upd (aset_two A _ x) (LV_setCk S k) (fun κ j => κ = 0) (fun q hq => aset_ne A x (hq 0 0 (Or.inl ⟨by omega, rfl⟩) rfl)) ?_ ?_
  · rintro κ j hl rfl
    have hj : j = 0 := by rcases hl with h | h | h | h | h | h | h <;> omega
    subst hj
    exact ⟨x, aset_same A _ x, fun _ => hx, fun h => by omega, fun h => by omega, fun h => by omega, fun h => by omega, fun h => by omega⟩
  · intro κ j x' _ hd hx'
    obtain ⟨x1, x2, x3, x4, x5, x6⟩ := hx'
    refine ⟨fun h => ?_, x2, x3, x4, x5, x6⟩
    have h1 := x1 h
    unfold CTop at h1 ⊢
    match κ, hd, h1 with
    | 1, _, h1 => exact h1
    | 2, _, h1 => exact h1
    | (k + 3), _, h1 => exact h1
end UP
