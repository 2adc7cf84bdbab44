/-! a warning is put in its place -/
def insP (S : SS) (id : Int32) : Nat → Nat
  | 0 => 0
  | q + 1 => if wId S ((sOrd S).getD q 0) ≤ id then q + 1 else insP S id q
def newOrd (S : SS) (id : Int32) : List Nat := (sOrd S).take (insP S id (sOrd S).length) ++ (sWarn S).length :: (sOrd S).drop (insP S id (sOrd S).length)
def addWa (S : SS) (id : Int32) : SS := (S.1, S.2.1, S.2.2.1, (sWarn S ++ [(id, none)], newOrd S id), S.2.2.2.2)
theorem insP_le (S : SS) (id : Int32) : ∀ q, insP S id q ≤ q
  | 0 => Nat.le_refl 0
  | q + 1 => by
    unfold insP
    split
    · exact Nat.le_refl _
    · exact Nat.le_succ_of_le (insP_le S id q)
theorem newOrd_len (S : SS) (id : Int32) : (newOrd S id).length = (sOrd S).length + 1 := by
  have := insP_le S id (sOrd S).length
  unfold newOrd
  rw [List.length_append, List.length_cons, List.length_take, List.length_drop]
  omega
theorem newOrd_mem {S : SS} {id : Int32} {w : Nat} (h : w ∈ newOrd S id) : w ∈ sOrd S ∨ w = (sWarn S).length := by
  unfold newOrd at h
  rcases List.mem_append.mp h with h | h
  · exact Or.inl (List.mem_of_mem_take h)
  · rcases List.mem_cons.mp h with h | h
    · exact Or.inr h
    · exact Or.inl (List.mem_of_mem_drop h)
section G7
variable {u : Ux} {d : Nat} {A : AH} {F : Nat → Option AC} {S : SS} {ad : Nat → Nat → Nat}
theorem Inv.addW {id : Int32} {a : Nat} {A' : AH} (I : Inv F S ad A) (hl : ad 20 (sWarn S).length = a) (hne : ∀ κ i, LV S κ i → a ≠ ad κ i) (hFa : F a = none)
    (hs : ∀ q, q ≠ ad 0 0 → q ≠ ad 2 0 → A'.1 q = A.1 q) (h2 : A'.2 = A.2)
    (c0 : A'.1 (ad 0 0) = some (0, [.int (sClock S), .ref (ad 1 0), .int (nI (sCells S).length), .ref (ad 2 0), .int (nI ((sWarn S).length + 1)), .int (nI (sVers S).length), .ref (ad 3 0), .int (nI (sHs S).length), .ref (ad 4 99)]))
    (c2 : ∃ x, A'.1 (ad 2 0) = some x ∧ ArG 105 12 ((newOrd S id).map fun w => .ref (ad 20 w)) x) (ca : A.1 a = some (8, [.int id, .int (nI (sWarn S).length), .null])) : Inv F (addWa S id) ad A' := by
  have L0 : LV S 0 0 := Or.inl ⟨by omega, rfl⟩
  have L2 : LV S 2 0 := Or.inl ⟨by omega, rfl⟩
  have hlw : (sWarn (addWa S id)).length = (sWarn S).length + 1 := by show (sWarn S ++ [(id, none)]).length = _; simp
  refine I.adopt (fun κ i => κ = 20 ∧ i = (sWarn S).length) (fun κ i h => ?_) (fun κ i h => ?_) (fun κ i κ' i' h h' e => ?_) (fun κ i h => ?_) (fun q y hq => ?_) (fun q y hq => ?_)
  · rcases h with h | h | h | ⟨h1, h3⟩ | h
    · exact Or.inl (Or.inl h)
    · exact Or.inl (Or.inr (Or.inl h))
    · exact Or.inl (Or.inr (Or.inr (Or.inl h)))
    · rw [hlw] at h3
      by_cases e : i = (sWarn S).length
      · exact Or.inr ⟨h1, e⟩
      · exact Or.inl (Or.inr (Or.inr (Or.inr (Or.inl ⟨h1, by omega⟩))))
    · exact Or.inl (Or.inr (Or.inr (Or.inr (Or.inr h))))
  · obtain ⟨rfl, rfl⟩ := h
    rw [hl]
    exact ⟨hne, hFa⟩
  · exact ⟨h.1.trans h'.1.symm, h.2.trans h'.2.symm⟩
  · by_cases hN : κ = 20 ∧ i = (sWarn S).length
    · obtain ⟨rfl, rfl⟩ := hN
      refine ⟨_, by rw [hl, hs a (hne 0 0 L0) (hne 2 0 L2)]; exact ca, fun h => by omega, fun _ h => by omega, fun _ h => by omega, fun _ x hx => ?_, fun h => by omega, fun h => by omega⟩
      have hx : (sWarn S ++ [(id, none)])[(sWarn S).length]? = some x := hx
      rw [List.getElem?_append_right (Nat.le_refl _), Nat.sub_self] at hx
      cases hx
      rfl
    · have hl2 : LV S κ i := by
        rcases h with h | h | h | ⟨h1, h3⟩ | h
        · exact Or.inl h
        · exact Or.inr (Or.inl h)
        · exact Or.inr (Or.inr (Or.inl h))
        · rw [hlw] at h3
          exact Or.inr (Or.inr (Or.inr (Or.inl ⟨h1, by omega⟩)))
        · exact Or.inr (Or.inr (Or.inr (Or.inr h)))
      by_cases k0 : κ = 0
      · subst k0
        have hi : i = 0 := by rcases hl2 with h | h | h | h | h | h | h <;> omega
        subst hi
        refine ⟨_, c0, fun _ => ?_, fun h => by omega, fun h => by omega, fun h => by omega, fun h => by omega, fun h => by omega⟩
        show _ = _
        rw [hlw]
        rfl
      by_cases k2 : κ = 2
      · subst k2
        have hi : i = 0 := by rcases hl2 with h | h | h | h | h | h | h <;> omega
        subst hi
        obtain ⟨x, e1, e2⟩ := c2
        exact ⟨x, e1, fun _ => e2, fun h => by omega, fun h => by omega, fun h => by omega, fun h => by omega, fun h => by omega⟩
      obtain ⟨y, b1, b2, b3, b4, b5, b6, b7⟩ := I.2.1 κ i hl2
      refine ⟨y, (hs _ (I.ne hl2 L0 (Or.inl k0)) (I.ne hl2 L2 (Or.inl k2))).trans b1, fun q => ?_, b3, b4, fun q x hx => b5 q x ?_, b6, b7⟩
      · have hk : κ = 1 ∨ κ = 3 := by omega
        rcases hk with rfl | rfl
        · exact b2 (by omega)
        · exact b2 (by omega)
      · have hx : (sWarn S ++ [(id, none)])[i]? = some x := hx
        have hlt : i < (sWarn S).length := by rcases hl2 with h | h | h | h | h | h | h <;> omega
        rw [List.getElem?_append_left hlt] at hx
        exact hx
  · obtain ⟨e, h⟩ := I.2.2.1 q y hq
    rw [hs q (fun e2 => h 0 0 L0 e2.symm) (fun e2 => h 2 0 L2 e2.symm)]
    exact e
  · rw [h2]
    by_cases e0 : q = ad 0 0
    · rw [e0]; exact I.old L0
    · by_cases e2 : q = ad 2 0
      · rw [e2]; exact I.old L2
      · rw [hs q e0 e2] at hq
        exact I.2.2.2 q y hq
set_option maxRecDepth 100000 in
set_option maxHeartbeats 4000000 in
theorem AW_insertById_47 {id : Int32} {a q : Nat} {jk : Value} {vs gb : List Value} (I : Inv F S ad A) (Wf : Wf S) (hl : ad 20 (sWarn S).length = a) (hne : ∀ κ i, LV S κ i → a ≠ ad κ i) (hFa : F a = none) (ca : A.1 a = some (8, [.int id, .int (nI (sWarn S).length), .null])) (hq : q ≤ (sOrd S).length) (hvl : vs = (((sOrd S).take q).map fun w => Value.ref (ad 20 w)) ++ jk :: ((((sOrd S).drop q).map fun w => Value.ref (ad 20 w)) ++ gb)) (hvs : vs.length = 12) (hp : insP S id (sOrd S).length = q) : V (gg u) d mm_AW_insertById 47 [some (.ref (ad 0 0)), some (.ref a), some (.int (nI q))] [] (aset A (ad 2 0) (105, vs)) (Ps none F (addWa S id) ad A) := by
  have w1 := Wf.1
  have w12 := Wf.2.1
  have h0 := I.aw
  have n02 := I.ne (κ := 0) (i := 0) (κ' := 2) (i' := 0) (Or.inl ⟨by omega, rfl⟩) (Or.inl ⟨by omega, rfl⟩) (Or.inl (by omega))
  have na2 := hne 2 0 (Or.inl ⟨by omega, rfl⟩)
  have hl2 : (sOrd S).length = (sWarn S).length := w1
  have hb12 : (sOrd S).length + 1 ≤ 12 := by rw [hvl] at hvs; simp at hvs; omega
  refine v_aload_n (dk cd_AW_insertById 27 rfl) rfl ?_
  refine v_getf (dk cd_AW_insertById 28 rfl) fg_AW_24_AW (by repeat first | assumption | exact aset_same _ _ _ | refine (aset_ne _ _ (by first | assumption | exact Ne.symm (by assumption))).trans ?_) (by rfl) ?_
  refine v_iload_n (dk cd_AW_insertById 29 rfl) rfl ?_
  refine v_aload_n (dk cd_AW_insertById 30 rfl) rfl ?_
  refine v_aastN (dk cd_AW_insertById 31 rfl) as_5_Wa (by repeat first | assumption | exact aset_same _ _ _ | refine (aset_ne _ _ (by first | assumption | exact Ne.symm (by assumption))).trans ?_) (by repeat first | assumption | exact aset_same _ _ _ | refine (aset_ne _ _ (by first | assumption | exact Ne.symm (by assumption))).trans ?_) (by omega) (by omega) ?_
  refine v_aload_n (dk cd_AW_insertById 32 rfl) rfl ?_
  refine v_dup (dk cd_AW_insertById 33 rfl) rfl ?_
  refine v_getf (dk cd_AW_insertById 34 rfl) fg_AW_28_AW (by repeat first | assumption | exact aset_same _ _ _ | refine (aset_ne _ _ (by first | assumption | exact Ne.symm (by assumption))).trans ?_) (by rfl) ?_
  refine v_iconst (v := nI 1) (dk cd_AW_insertById 35 rfl) (by decide) ?_
  refine v_iaddN (dk cd_AW_insertById 36 rfl) ?_
  refine v_putf (dk cd_AW_insertById 37 rfl) fp_AW_28_AW (fun h => by cases h) (by repeat first | assumption | exact aset_same _ _ _ | refine (aset_ne _ _ (by first | assumption | exact Ne.symm (by assumption))).trans ?_) rfl rfl ?_
  refine v_vret (dk cd_AW_insertById 38 rfl) rfl (ps_of (I.addW hl hne hFa (fun q0 q1 q2 => (aset_ne _ _ q1).trans ((aset_ne _ _ q2).trans (aset_ne _ _ q2))) rfl (aset_same _ _ _) ⟨_, (aset_ne _ _ n02.symm).trans (aset_same _ _ _), ?_⟩ ca) rfl rfl)
  unfold newOrd
  rw [hp]
  subst hvl
  refine ⟨gb, ?_, ?_⟩
  · rw [List.set_append_right _ _ (by rw [List.length_map, List.length_take]; omega), List.length_map, List.length_take, Nat.min_eq_left (by omega), Nat.sub_self]
    simp [hl]
  · simp only [List.length_append, List.length_map, List.length_take, List.length_drop, List.length_cons] at hvs ⊢
    omega
set_option maxRecDepth 100000 in
set_option maxHeartbeats 4000000 in
theorem AW_insertById_lp {id : Int32} {a : Nat} {gb : List Value} (I : Inv F S ad A) (Wf : Wf S) (hl : ad 20 (sWarn S).length = a) (hne : ∀ κ i, LV S κ i → a ≠ ad κ i) (hFa : F a = none) (ca : A.1 a = some (8, [.int id, .int (nI (sWarn S).length), .null])) : ∀ (q : Nat) (jk : Value) (vs : List Value), q ≤ (sOrd S).length → vs = (((sOrd S).take q).map fun w => Value.ref (ad 20 w)) ++ jk :: ((((sOrd S).drop q).map fun w => Value.ref (ad 20 w)) ++ gb) → vs.length = 12 → insP S id q = insP S id (sOrd S).length → V (gg u) d mm_AW_insertById 5 [some (.ref (ad 0 0)), some (.ref a), some (.int (nI q))] [] (aset A (ad 2 0) (105, vs)) (Ps none F (addWa S id) ad A) := by
  have w1 := Wf.1
  have w12 := Wf.2.1
  have h0 := I.aw
  have n02 := I.ne (κ := 0) (i := 0) (κ' := 2) (i' := 0) (Or.inl ⟨by omega, rfl⟩) (Or.inl ⟨by omega, rfl⟩) (Or.inl (by omega))
  have na2 := hne 2 0 (Or.inl ⟨by omega, rfl⟩)
  intro q
  induction q with
  | zero =>
    intro jk vs hq hvl hvs hp
    refine v_iload_n (dk cd_AW_insertById 3 rfl) rfl ?_
    refine v_if_le (tgt := 47) (dk cd_AW_insertById 4 rfl) rfl (fun q6 => ?_) (fun q6 => ?_)
    · exact AW_insertById_47 I Wf hl hne hFa ca hq hvl hvs hp.symm
    · exact absurd (by decide) q6
  | succ q ih =>
    intro jk vs hq hvl hvs hp
    refine v_iload_n (dk cd_AW_insertById 3 rfl) rfl ?_
    refine v_if_le (tgt := 47) (dk cd_AW_insertById 4 rfl) rfl (fun q6 => ?_) (fun q6 => ?_)
    · exact absurd q6 (by rw [nI_le0 (by omega)]; omega)
    · have hb12 : (sOrd S).length + 1 ≤ 12 := by rw [hvl] at hvs; simp at hvs; omega
      have hqq : q < (sOrd S).length := by omega
      have hon := Wf.2.2.2.2.2.1 _ (List.getElem_mem hqq)
      have hwr := I.warn (List.getElem?_eq_getElem hon)
      have hwi : wId S ((sOrd S).getD q 0) = (sWarn S)[(sOrd S)[q]].1 := by rw [List.getD_eq_getElem?_getD, List.getElem?_eq_getElem hqq]; exact wId_of (List.getElem?_eq_getElem hon)
      have nw2 := I.ne (κ := 20) (i := (sOrd S)[q]) (κ' := 2) (i' := 0) (Or.inr (Or.inr (Or.inr (Or.inl ⟨rfl, hon⟩)))) (Or.inl ⟨by omega, rfl⟩) (Or.inl (by omega))
      have htk : (sOrd S).take (q + 1) = (sOrd S).take q ++ [(sOrd S)[q]] := take_snoc hqq
      have hdr : (sOrd S).drop q = (sOrd S)[q] :: (sOrd S).drop (q + 1) := List.drop_eq_getElem_cons hqq
      have hat : vs[q]? = some (.ref (ad 20 (sOrd S)[q])) := by
        rw [hvl, htk, List.map_append, List.append_assoc, List.getElem?_append_right (by simp; omega)]
        simp [Nat.min_eq_left (Nat.le_of_lt hqq)]
      refine v_aload_n (dk cd_AW_insertById 5 rfl) rfl ?_
      refine v_getf (dk cd_AW_insertById 6 rfl) fg_AW_24_AW (by repeat first | assumption | exact aset_same _ _ _ | refine (aset_ne _ _ (by first | assumption | exact Ne.symm (by assumption))).trans ?_) (by rfl) ?_
      refine v_iload_n (dk cd_AW_insertById 7 rfl) rfl ?_
      refine v_iconst (v := nI 1) (dk cd_AW_insertById 8 rfl) (by decide) ?_
      refine v_isubN (dk cd_AW_insertById 9 rfl) (by omega) ?_
      refine v_aaldN (j := 5) (dk cd_AW_insertById 10 rfl) (by repeat first | assumption | exact aset_same _ _ _ | refine (aset_ne _ _ (by first | assumption | exact Ne.symm (by assumption))).trans ?_) (by decide) rfl rfl (by omega) hat ?_
      refine v_getf (dk cd_AW_insertById 11 rfl) fg_AW_226_Wa (by repeat first | assumption | exact aset_same _ _ _ | refine (aset_ne _ _ (by first | assumption | exact Ne.symm (by assumption))).trans ?_) (by rfl) ?_
      refine v_aload_n (dk cd_AW_insertById 12 rfl) rfl ?_
      refine v_getf (dk cd_AW_insertById 13 rfl) fg_AW_226_Wa (by repeat first | assumption | exact aset_same _ _ _ | refine (aset_ne _ _ (by first | assumption | exact Ne.symm (by assumption))).trans ?_) (by rfl) ?_
      refine v_icmp_le (tgt := 47) (dk cd_AW_insertById 14 rfl) rfl (fun q24 => ?_) (fun q24 => ?_)
      · exact AW_insertById_47 I Wf hl hne hFa ca hq hvl hvs (by rw [← hp]; unfold insP; rw [if_pos (by rw [hwi]; exact q24)])
      · refine v_aload_n (dk cd_AW_insertById 15 rfl) rfl ?_
        refine v_getf (dk cd_AW_insertById 16 rfl) fg_AW_24_AW (by repeat first | assumption | exact aset_same _ _ _ | refine (aset_ne _ _ (by first | assumption | exact Ne.symm (by assumption))).trans ?_) (by rfl) ?_
        refine v_iload_n (dk cd_AW_insertById 17 rfl) rfl ?_
        refine v_aload_n (dk cd_AW_insertById 18 rfl) rfl ?_
        refine v_getf (dk cd_AW_insertById 19 rfl) fg_AW_24_AW (by repeat first | assumption | exact aset_same _ _ _ | refine (aset_ne _ _ (by first | assumption | exact Ne.symm (by assumption))).trans ?_) (by rfl) ?_
        refine v_iload_n (dk cd_AW_insertById 20 rfl) rfl ?_
        refine v_iconst (v := nI 1) (dk cd_AW_insertById 21 rfl) (by decide) ?_
        refine v_isubN (dk cd_AW_insertById 22 rfl) (by omega) ?_
        refine v_aaldN (j := 5) (dk cd_AW_insertById 23 rfl) (by repeat first | assumption | exact aset_same _ _ _ | refine (aset_ne _ _ (by first | assumption | exact Ne.symm (by assumption))).trans ?_) (by decide) rfl rfl (by omega) hat ?_
        refine v_aastN (dk cd_AW_insertById 24 rfl) as_5_Wa (by repeat first | assumption | exact aset_same _ _ _ | refine (aset_ne _ _ (by first | assumption | exact Ne.symm (by assumption))).trans ?_) (by repeat first | assumption | exact aset_same _ _ _ | refine (aset_ne _ _ (by first | assumption | exact Ne.symm (by assumption))).trans ?_) (by omega) (by omega) ?_
        refine v_iincM (dk cd_AW_insertById 25 rfl) rfl (by decide) rfl ?_
        refine v_goto (tgt := 5) (dk cd_AW_insertById 26 rfl) rfl ?_
        have hset : vs.set (q + 1) (.ref (ad 20 (sOrd S)[q])) = (((sOrd S).take q).map fun w => Value.ref (ad 20 w)) ++ Value.ref (ad 20 (sOrd S)[q]) :: ((((sOrd S).drop q).map fun w => Value.ref (ad 20 w)) ++ gb) := by
          rw [hvl, List.set_append_right _ _ (by simp; omega)]
          rw [show q + 1 - (((sOrd S).take (q + 1)).map fun w => Value.ref (ad 20 w)).length = 0 by simp; omega]
          rw [htk, hdr, List.map_append, List.append_assoc]
          rfl
        rw [aset_aset]
        exact ih _ _ (by omega) hset (by rw [List.length_set]; exact hvs) (by rw [← hp]; conv => rhs; unfold insP; rw [if_neg (by rw [hwi]; exact q24)])
set_option maxRecDepth 100000 in
set_option maxHeartbeats 4000000 in
theorem AW_insertById_ok {id : Int32} {a : Nat} (I : Inv F S ad A) (Wf : Wf S) (h12 : (sWarn S).length < 12) (hl : ad 20 (sWarn S).length = a) (hne : ∀ κ i, LV S κ i → a ≠ ad κ i) (hFa : F a = none) (ca : A.1 a = some (8, [.int id, .int (nI (sWarn S).length), .null])) : V (gg u) d mm_AW_insertById 0 [some (.ref (ad 0 0)), some (.ref a), none] [] A (Ps none F (addWa S id) ad A) := by
  have w1 := Wf.1
  have h0 := I.aw
  obtain ⟨x2, h2, g2, e2, l2⟩ := I.top (κ := 2) (by omega)
  subst e2
  obtain ⟨jk, gb, rfl⟩ : ∃ jk gb, g2 = jk :: gb := by
    cases g2 with
    | nil => simp at l2; omega
    | cons jk gb => exact ⟨jk, gb, rfl⟩
  refine v_aload_n (dk cd_AW_insertById 0 rfl) rfl ?_
  refine v_getf (dk cd_AW_insertById 1 rfl) fg_AW_28_AW (by assumption) (by rfl) ?_
  refine v_istore_n (dk cd_AW_insertById 2 rfl) (by decide) rfl ?_
  have h9 := AW_insertById_lp (u := u) (d := d) (gb := gb) I Wf hl hne hFa ca (sOrd S).length jk (((sOrd S).map fun w => Value.ref (ad 20 w)) ++ jk :: gb) (Nat.le_refl _) (by rw [List.take_length, List.drop_eq_nil_of_le (Nat.le_refl _)]; rfl) (by simpa using l2) rfl
  rw [aset_id h2, w1] at h9
  exact h9
end G7
