/-! writers of what is typed -/
/-- an end that gives a value and a state, no cell made -/
def Ps (v : Option Value) (F : Nat → Option AC) (S' : SS) (ad : Nat → Nat → Nat) (A : AH) : Out → AH → Prop := fun r A' => r = .inl v ∧ Inv F S' ad A' ∧ A'.2 = A.2
theorem ps_no {v : Option Value} {F : Nat → Option AC} {S' : SS} {ad : Nat → Nat → Nat} {A : AH} : ∀ a A', ¬ Ps v F S' ad A (.inr a) A' := fun a A' h => by cases h.1
theorem ps_of {v v' : Option Value} {F : Nat → Option AC} {S' : SS} {ad : Nat → Nat → Nat} {A A' : AH} (I : Inv F S' ad A') (h2 : A'.2 = A.2) (h : v' = v) : Ps v F S' ad A (.inl v') A' := ⟨by rw [h], I, h2⟩
/-- a public method's end: the state, the answer or the number of the exception, and how much was made -/
def PubR (F : Nat → Option AC) (ad : Nat → Nat → Nat) (A : AH) (q : SS × (Value ⊕ Nat)) : Out → AH → Prop := fun r A' => ∃ ad', ad' 0 0 = ad 0 0 ∧ Inv F q.1 ad' A' ∧ A'.2.1 ≤ A.2.1 + 16 ∧ A'.2.2 ≤ A.2.2 + 400 ∧
  (match q.2 with | .inl v => r = .inl (some v) | .inr k => ∃ a, r = .inr a ∧ A'.1 a = some (200 + k, []))
section W1
variable {u : Ux} {d : Nat} {A : AH} {F : Nat → Option AC} {S : SS} {ad : Nat → Nat → Nat}
theorem Inv.ne (I : Inv F S ad A) {κ i κ' i' : Nat} (h : LV S κ i) (h' : LV S κ' i') (hne : κ ≠ κ' ∨ i ≠ i') : ad κ i ≠ ad κ' i' := fun e => by
  obtain ⟨e1, e2⟩ := I.1 κ i κ' i' h h' e
  rcases hne with q | q
  · exact q e1
  · exact q e2
theorem Inv.exc (I : Inv F S ad A) (x : AC) (n : Nat) : Inv F S ad (anew A x n) := by
  obtain ⟨i1, i2, i3, i4⟩ := I
  have hk : ∀ q y, A.1 q = some y → (anew A x n).1 q = some y := fun q y h => by
    have := i4 q y h
    simp only [anew]
    rw [if_neg (by omega)]
    exact h
  refine ⟨i1, fun κ i h => ?_, fun q y h => ⟨hk q y (i3 q y h).1, (i3 q y h).2⟩, fun q y h => ?_⟩
  · obtain ⟨y, h1, h2⟩ := i2 κ i h
    exact ⟨y, hk _ y h1, h2⟩
  · simp only [anew] at h ⊢
    split at h
    · omega
    · have := i4 q y h; omega
theorem pub_thr {q : SS × (Value ⊕ Nat)} {k : Nat} (I : Inv F S ad A) (hq : q = (S, .inr k)) : PubR F ad A q (.inr A.2.1) (anew A (200 + k, []) 6) := by
  subst hq
  exact ⟨ad, rfl, I.exc _ _, by simp only [anew]; omega, by simp only [anew]; omega, _, rfl, by simp [anew]⟩
theorem pub_ret {q : SS × (Value ⊕ Nat)} {A' : AH} {S' : SS} {v : Value} (I : Inv F S' ad A') (h2 : A'.2 = A.2) (hq : q = (S', .inl v)) : PubR F ad A q (.inl (some v)) A' := by
  subst hq
  exact ⟨ad, rfl, I, by rw [h2]; omega, by rw [h2]; omega, rfl⟩
theorem LV_msg {S : SS} {κ : Nat} (h1 : 4 ≤ κ) (h2 : κ < 14) : LV S κ 99 := Or.inr (Or.inl ⟨h1, h2, fun _ => rfl, by simp [msgOf]⟩)
theorem msg_ty : msgOf S 99 = some (sTyped S) := by simp [msgOf]
theorem CMsg_tx {a a' : Pts} {t : Tx} {i κ : Nat} {x : AC} (h : CMsg (a, t) ad i κ x) (h5 : κ ≠ 5) (h6 : κ ≠ 6) (h7 : κ ≠ 7) : CMsg (a', t) ad i κ x := by
  unfold CMsg at h ⊢
  split <;> simp_all
theorem k4 {κ : Nat} (h1 : 4 ≤ κ) (h2 : κ < 14) : κ = 4 ∨ κ = 5 ∨ κ = 6 ∨ κ = 7 ∨ κ = 8 ∨ κ = 9 ∨ κ = 10 ∨ κ = 11 ∨ κ = 12 ∨ κ = 13 := by omega
/-- the array's next value is written: one more is known -/
theorem ArG.app {k n : Nat} {l gb : List Value} {v : Value} (h : l.length + gb.length = n) (hl : l.length < n) : ArG k n (l ++ [v]) (k, (l ++ gb).set l.length v) := by
  cases gb with
  | nil => simp at h; omega
  | cons b r =>
    refine ⟨r, ?_, by simp at h ⊢; omega⟩
    rw [List.set_append_right _ _ (Nat.le_refl _)]
    simp
set_option maxRecDepth 100000 in
set_option maxHeartbeats 4000000 in
theorem Ar_addCorner_ok {x y : Int32} {a : Pts} {t : Tx} (I : Inv F S ad A) (hm : sTyped S = (a, t)) (ha : a.length < 8) : V (gg u) d mm_Ar_addCorner 0 [some (.ref (ad 5 99)), some (.int x), some (.int y)] [] A (Ps (some (.int (nI (a.length + 1)))) F (setTy S (a ++ [(x, y)], t)) ad A) := by
  have hty := msg_ty (S := S)
  rw [hm] at hty
  obtain ⟨x5, h5, e5⟩ := I.msg (κ := 5) (by omega) (by omega) (by omega) hty
  obtain ⟨x6, h6, g6, e6, l6⟩ := I.msg (κ := 6) (by omega) (by omega) (by omega) hty
  obtain ⟨x7, h7, g7, e7, l7⟩ := I.msg (κ := 7) (by omega) (by omega) (by omega) hty
  have e5 : x5 = _ := e5
  subst e5 e6 e7
  simp only at h5 h6 h7 l6 l7
  have n1 := I.ne (LV_msg (S := S) (κ := 5) (by omega) (by omega)) (LV_msg (κ := 6) (by omega) (by omega)) (Or.inl (by omega))
  have n2 := I.ne (LV_msg (S := S) (κ := 5) (by omega) (by omega)) (LV_msg (κ := 7) (by omega) (by omega)) (Or.inl (by omega))
  have n3 := I.ne (LV_msg (S := S) (κ := 6) (by omega) (by omega)) (LV_msg (κ := 7) (by omega) (by omega)) (Or.inl (by omega))
  simp only [List.length_map] at l6 l7
  refine v_aload_n (dk cd_Ar_addCorner 0 rfl) rfl ?_
  refine v_getf (dk cd_Ar_addCorner 1 rfl) fg_Ar_9_Ar (by repeat first | assumption | exact aset_same _ _ _ | refine (aset_ne _ _ (by first | assumption | exact Ne.symm (by assumption))).trans ?_) (by rfl) ?_
  refine v_aload_n (dk cd_Ar_addCorner 2 rfl) rfl ?_
  refine v_getf (dk cd_Ar_addCorner 3 rfl) fg_Ar_18_Ar (by repeat first | assumption | exact aset_same _ _ _ | refine (aset_ne _ _ (by first | assumption | exact Ne.symm (by assumption))).trans ?_) (by rfl) ?_
  refine v_iload_n (dk cd_Ar_addCorner 4 rfl) rfl ?_
  refine v_iastN (j := 0) (dk cd_Ar_addCorner 5 rfl) (by repeat first | assumption | exact aset_same _ _ _ | refine (aset_ne _ _ (by first | assumption | exact Ne.symm (by assumption))).trans ?_) (by decide) rfl (by omega) (by simp; omega) ?_
  refine v_aload_n (dk cd_Ar_addCorner 6 rfl) rfl ?_
  refine v_getf (dk cd_Ar_addCorner 7 rfl) fg_Ar_15_Ar (by repeat first | assumption | exact aset_same _ _ _ | refine (aset_ne _ _ (by first | assumption | exact Ne.symm (by assumption))).trans ?_) (by rfl) ?_
  refine v_aload_n (dk cd_Ar_addCorner 8 rfl) rfl ?_
  refine v_getf (dk cd_Ar_addCorner 9 rfl) fg_Ar_18_Ar (by repeat first | assumption | exact aset_same _ _ _ | refine (aset_ne _ _ (by first | assumption | exact Ne.symm (by assumption))).trans ?_) (by rfl) ?_
  refine v_iload_n (dk cd_Ar_addCorner 10 rfl) rfl ?_
  refine v_iastN (j := 0) (dk cd_Ar_addCorner 11 rfl) (by repeat first | assumption | exact aset_same _ _ _ | refine (aset_ne _ _ (by first | assumption | exact Ne.symm (by assumption))).trans ?_) (by decide) rfl (by omega) (by simp; omega) ?_
  refine v_aload_n (dk cd_Ar_addCorner 12 rfl) rfl ?_
  refine v_dup (dk cd_Ar_addCorner 13 rfl) rfl ?_
  refine v_getf (dk cd_Ar_addCorner 14 rfl) fg_Ar_18_Ar (by repeat first | assumption | exact aset_same _ _ _ | refine (aset_ne _ _ (by first | assumption | exact Ne.symm (by assumption))).trans ?_) (by rfl) ?_
  refine v_iconst (v := nI 1) (dk cd_Ar_addCorner 15 rfl) (by decide) ?_
  refine v_iaddN (dk cd_Ar_addCorner 16 rfl) ?_
  refine v_putf (dk cd_Ar_addCorner 17 rfl) fp_Ar_18_Ar (fun h => by cases h) (by repeat first | assumption | exact aset_same _ _ _ | refine (aset_ne _ _ (by first | assumption | exact Ne.symm (by assumption))).trans ?_) rfl rfl ?_
  refine v_aload_n (dk cd_Ar_addCorner 18 rfl) rfl ?_
  refine v_getf (dk cd_Ar_addCorner 19 rfl) fg_Ar_18_Ar (by repeat first | assumption | exact aset_same _ _ _ | refine (aset_ne _ _ (by first | assumption | exact Ne.symm (by assumption))).trans ?_) (by rfl) ?_
  refine v_iret (dk cd_Ar_addCorner 20 rfl) rfl (ps_of (I.updTy rfl (fun q hq => ?_) (fun κ h1 h2 => ?_)) rfl rfl)
  · rw [aset_ne _ _ (hq 5 (by omega) (by omega)), aset_ne _ _ (hq 7 (by omega) (by omega)), aset_ne _ _ (hq 6 (by omega) (by omega))]
  · by_cases k5 : κ = 5
    · subst k5
      exact ⟨_, aset_same _ _ _, by simp [CMsg]⟩
    by_cases k6 : κ = 6
    · subst k6
      refine ⟨_, (aset_ne _ _ (Ne.symm n1)).trans ((aset_ne _ _ n3).trans (aset_same _ _ _)), ?_⟩
      have h9 := ArG.app (k := 100) (v := .int x) (show (a.map fun p => Value.int p.1).length + g6.length = 8 by simpa using l6) (by simpa using ha)
      simpa [CMsg] using h9
    by_cases k7 : κ = 7
    · subst k7
      refine ⟨_, (aset_ne _ _ (Ne.symm n2)).trans (aset_same _ _ _), ?_⟩
      have h9 := ArG.app (k := 100) (v := .int y) (show (a.map fun p => Value.int p.2).length + g7.length = 8 by simpa using l7) (by simpa using ha)
      simpa [CMsg] using h9
    · obtain ⟨xx, hh1, hh2⟩ := I.msg (κ := κ) h1 h2 (fun _ => rfl) hty
      refine ⟨xx, ?_, CMsg_tx hh2 k5 k6 k7⟩
      rw [aset_ne _ _ (I.ne (LV_msg h1 h2) (LV_msg (κ := 5) (by omega) (by omega)) (Or.inl k5)), aset_ne _ _ (I.ne (LV_msg h1 h2) (LV_msg (κ := 7) (by omega) (by omega)) (Or.inl k7)), aset_ne _ _ (I.ne (LV_msg h1 h2) (LV_msg (κ := 6) (by omega) (by omega)) (Or.inl k6))]
      exact hh1
end W1
