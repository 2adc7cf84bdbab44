/-! a handset is made -/
def hNew (x : Int32) : HaS := ((x, -1, 0, 0), [], (List.replicate 12 none, List.replicate 12 0, List.replicate 12 false), [])
def addHs (S : SS) (h : HaS) : SS := (S.1, S.2.1, S.2.2.1, S.2.2.2.1, S.2.2.2.2.1, sHs S ++ [h])
def spHandset (S : SS) (x : Int32) : SS × (Value ⊕ Nat) := if ¬ x < 0 ∧ x ≤ 5 then (if (sHs S).length = 3 then (S, .inr 1) else (addHs S (hNew x), .inl (.int (nI (sHs S).length)))) else (S, .inr 0)
def adH (ad : Nat → Nat → Nat) (n a : Nat) : Nat → Nat → Nat := fun κ i => if 23 ≤ κ ∧ κ ≤ 30 ∧ i = n then a + (κ - 23) else ad κ i
section G3
variable {u : Ux} {d : Nat} {A : AH} {F : Nat → Option AC} {S : SS} {ad : Nat → Nat → Nat}
theorem Inv.old (I : Inv F S ad A) {κ i : Nat} (h : LV S κ i) : ad κ i < A.2.1 := by
  obtain ⟨x, h1, -⟩ := I.2.1 κ i h
  exact I.2.2.2 _ x h1
theorem Inv.Fold (I : Inv F S ad A) {q : Nat} (h : A.2.1 ≤ q) : F q = none := by
  cases hq : F q with
  | none => rfl
  | some x =>
    have := I.2.2.2 q x (I.2.2.1 q x hq).1
    omega
theorem Inv.F0 (I : Inv F S ad A) {κ i : Nat} (h : LV S κ i) : F (ad κ i) = none := by
  cases hq : F (ad κ i) with
  | none => rfl
  | some x => exact absurd rfl ((I.2.2.1 _ x hq).2 κ i h)
theorem LV_hs_i {κ i : Nat} (h : LV S κ i) (h1 : 23 ≤ κ) : i < (sHs S).length := by
  rcases h with h | h | h | h | h | h | h <;> omega
theorem repl_map {α : Type} (n : Nat) (x : α) (f : α → Value) : (List.replicate n x).map f = List.replicate n (f x) := List.map_replicate
theorem adH_old {n a κ i : Nat} (h : LV S κ i) (hn : n = (sHs S).length) : adH ad n a κ i = ad κ i := by
  unfold adH
  rw [if_neg]
  rintro ⟨h1, h2, h3⟩
  have := LV_hs_i h h1
  omega
theorem adH_new {n a κ : Nat} (h1 : 23 ≤ κ) (h2 : κ ≤ 30) : adH ad n a κ n = a + (κ - 23) := if_pos ⟨h1, h2, rfl⟩
theorem Inv.addH {x : Int32} {A' : AH} {vs : List Value} (I : Inv F S ad A) (R : RfS S) (hn : (sHs S).length < 3) (h3 : A.1 (ad 3 0) = some (106, ((List.range (sHs S).length).map fun h => .ref (ad 23 h)) ++ vs)) (hvl : (sHs S).length + vs.length = 3)
    (e1 : A'.2.1 = A.2.1 + 8) (hz : ∀ q, A.2.1 + 8 ≤ q → A'.1 q = A.1 q) (hs : ∀ q, q < A.2.1 → q ≠ ad 0 0 → q ≠ ad 3 0 → A'.1 q = A.1 q)
    (c0 : A'.1 (ad 0 0) = some (0, [.int (sClock S), .ref (ad 1 0), .int (nI (sCells S).length), .ref (ad 2 0), .int (nI (sWarn S).length), .int (nI (sVers S).length), .ref (ad 3 0), .int (nI ((sHs S).length + 1)), .ref (ad 4 99)]))
    (c3 : A'.1 (ad 3 0) = some (106, (((List.range (sHs S).length).map fun h => Value.ref (ad 23 h)) ++ vs).set (sHs S).length (.ref A.2.1)))
    (d0 : A'.1 A.2.1 = some (4, [.int x, .ref (A.2.1 + 1), .int 0, .int (-1), .int 0, .int 0, .ref (A.2.1 + 2), .ref (A.2.1 + 3), .ref (A.2.1 + 4), .ref (A.2.1 + 5), .ref (A.2.1 + 6), .ref (A.2.1 + 7), .int 0]))
    (d1 : A'.1 (A.2.1 + 1) = some (100, List.replicate 3 (.int 0))) (d2 : A'.1 (A.2.1 + 2) = some (107, List.replicate 12 .null)) (d3 : A'.1 (A.2.1 + 3) = some (100, List.replicate 12 (.int 0))) (d4 : A'.1 (A.2.1 + 4) = some (101, List.replicate 12 (.int 0))) (d5 : A'.1 (A.2.1 + 5) = some (108, List.replicate 40 .null)) (d6 : A'.1 (A.2.1 + 6) = some (100, List.replicate 40 (.int 0))) (d7 : A'.1 (A.2.1 + 7) = some (100, List.replicate 40 (.int 0))) :
    Inv F (addHs S (hNew x)) (adH ad (sHs S).length A.2.1) A' := by
  have I1 : Inv F S (adH ad (sHs S).length A.2.1) A := I.relab R (fun κ i h => adH_old h rfl)
  have L0 : LV S 0 0 := Or.inl ⟨by omega, rfl⟩
  have L3 : LV S 3 0 := Or.inl ⟨by omega, rfl⟩
  have hlen : (sHs (addHs S (hNew x))).length = (sHs S).length + 1 := by show (sHs S ++ [hNew x]).length = _; simp
  have hmo : ∀ i, msgOf (addHs S (hNew x)) i = msgOf S i := fun i => rfl
  have had : ∀ κ, κ < 23 → ∀ i, adH ad (sHs S).length A.2.1 κ i = ad κ i := fun κ h i => if_neg (by omega)
  refine I1.adopt (fun κ i => 23 ≤ κ ∧ κ ≤ 30 ∧ i = (sHs S).length) (fun κ i h => ?_) (fun κ i h => ?_) (fun κ i κ' i' h h' e => ?_) (fun κ i h => ?_) (fun q y hq => ?_) (fun q y hq => ?_)
  · rcases h with h | h | h | h | h | h | ⟨h1, h2, h3⟩
    · exact Or.inl (Or.inl h)
    · exact Or.inl (Or.inr (Or.inl h))
    · exact Or.inl (Or.inr (Or.inr (Or.inl h)))
    · exact Or.inl (Or.inr (Or.inr (Or.inr (Or.inl h))))
    · exact Or.inl (Or.inr (Or.inr (Or.inr (Or.inr (Or.inl h)))))
    · exact Or.inl (Or.inr (Or.inr (Or.inr (Or.inr (Or.inr (Or.inl h))))))
    · rw [hlen] at h3
      by_cases e : i = (sHs S).length
      · exact Or.inr ⟨h1, h2, e⟩
      · exact Or.inl (LV_hs h1 h2 (by omega))
  · obtain ⟨h1, h2, rfl⟩ := h
    rw [adH_new h1 h2]
    exact ⟨fun κ' i' h' e => by have := I1.old h'; omega, I.Fold (by omega)⟩
  · obtain ⟨h1, h2, rfl⟩ := h
    obtain ⟨h3, h4, rfl⟩ := h'
    rw [adH_new h1 h2, adH_new h3 h4] at e
    exact ⟨by omega, rfl⟩
  · by_cases hN : 23 ≤ κ ∧ κ ≤ 30 ∧ i = (sHs S).length
    · obtain ⟨h1, h2, rfl⟩ := hN
      have hx : ∀ y, CHs (hNew x) (adH ad (sHs S).length A.2.1) (sHs S).length κ y → CT (addHs S (hNew x)) (adH ad (sHs S).length A.2.1) κ (sHs S).length y := fun y hy => ⟨fun q => by omega, fun _ q => by omega, fun _ q => by omega, fun q => by omega, fun _ q => by omega, fun _ _ c hc => by
        have hc : (sHs S ++ [hNew x])[(sHs S).length]? = some c := hc
        rw [List.getElem?_append_right (Nat.le_refl _), Nat.sub_self] at hc
        cases hc
        exact hy⟩
      rw [adH_new h1 h2]
      rcases k23 h1 h2 with rfl | rfl | rfl | rfl | rfl | rfl | rfl | rfl
      · refine ⟨_, d0, hx _ ?_⟩
        show _ = _
        rw [adH_new (by omega) (by omega), adH_new (by omega) (by omega), adH_new (by omega) (by omega), adH_new (by omega) (by omega), adH_new (by omega) (by omega), adH_new (by omega) (by omega), adH_new (by omega) (by omega)]
        rfl
      · exact ⟨_, d1, hx _ ⟨List.replicate 3 (.int 0), rfl, rfl⟩⟩
      · exact ⟨_, d2, hx _ (by show _ = _; rw [show (hNew x).2.2.1.1 = List.replicate 12 none from rfl, repl_map]; rfl)⟩
      · exact ⟨_, d3, hx _ (by show _ = _; rw [show (hNew x).2.2.1.2.1 = List.replicate 12 0 from rfl, repl_map])⟩
      · exact ⟨_, d4, hx _ (by show _ = _; rw [show (hNew x).2.2.1.2.2 = List.replicate 12 false from rfl, repl_map]; rfl)⟩
      · exact ⟨_, d5, hx _ ⟨List.replicate 40 .null, rfl, rfl⟩⟩
      · exact ⟨_, d6, hx _ ⟨List.replicate 40 (.int 0), rfl, rfl⟩⟩
      · exact ⟨_, d7, hx _ ⟨List.replicate 40 (.int 0), rfl, rfl⟩⟩
    · have hl : LV S κ i := by
        rcases h with h | h | h | h | h | h | ⟨h1, h2, h3⟩
        · exact Or.inl h
        · exact Or.inr (Or.inl h)
        · exact Or.inr (Or.inr (Or.inl h))
        · exact Or.inr (Or.inr (Or.inr (Or.inl h)))
        · exact Or.inr (Or.inr (Or.inr (Or.inr (Or.inl h))))
        · exact Or.inr (Or.inr (Or.inr (Or.inr (Or.inr (Or.inl h)))))
        · rw [hlen] at h3
          exact LV_hs h1 h2 (by omega)
      by_cases k0 : κ = 0
      · subst k0
        have hi : i = 0 := by rcases hl with h | h | h | h | h | h | h <;> omega
        subst hi
        refine ⟨_, by rw [had 0 (by omega)]; exact c0, fun _ => ?_, fun h => by omega, fun h => by omega, fun h => by omega, fun h => by omega, fun h => by omega⟩
        show _ = _
        rw [had 1 (by omega), had 2 (by omega), had 3 (by omega), had 4 (by omega), hlen]
        rfl
      by_cases k3 : κ = 3
      · subst k3
        have hi : i = 0 := by rcases hl with h | h | h | h | h | h | h <;> omega
        subst hi
        refine ⟨_, by rw [had 3 (by omega)]; exact c3, fun _ => ?_, fun h => by omega, fun h => by omega, fun h => by omega, fun h => by omega, fun h => by omega⟩
        have h9 := ArG.app (k := 106) (n := 3) (v := .ref A.2.1) (l := (List.range (sHs S).length).map fun h => Value.ref (ad 23 h)) (gb := vs) (by simpa using hvl) (by simpa using hn)
        simp only [List.length_map, List.length_range] at h9
        show ArG 106 3 ((List.range (sHs (addHs S (hNew x))).length).map fun h => Value.ref (adH ad (sHs S).length A.2.1 23 h)) _
        have e2 : ((List.range (sHs (addHs S (hNew x))).length).map fun h => Value.ref (adH ad (sHs S).length A.2.1 23 h)) = ((List.range (sHs S).length).map fun h => Value.ref (ad 23 h)) ++ [.ref A.2.1] := by
          rw [hlen, List.range_succ, List.map_append]
          congr 1
          · exact List.map_congr_left (fun i hi => by rw [adH_old (LV_hs (S := S) (by omega) (by omega) (List.mem_range.mp hi)) rfl])
          · simp [adH_new]
        rw [e2]
        exact h9
      obtain ⟨y, b1, b2, b3, b4, b5, b6, b7⟩ := I1.2.1 κ i hl
      have hne0 : adH ad (sHs S).length A.2.1 κ i ≠ ad 0 0 := by rw [← had 0 (by omega)]; exact I1.ne hl L0 (Or.inl k0)
      have hne3 : adH ad (sHs S).length A.2.1 κ i ≠ ad 3 0 := by rw [← had 3 (by omega)]; exact I1.ne hl L3 (Or.inl k3)
      refine ⟨y, (hs _ (I1.old hl) hne0 hne3).trans b1, fun q => ?_, b3, b4, b5, b6, fun q1 q2 c hc => b7 q1 q2 c ?_⟩
      · have hk : κ = 1 ∨ κ = 2 := by omega
        rcases hk with rfl | rfl
        · exact b2 (by omega)
        · exact b2 (by omega)
      · have hc : (sHs S ++ [hNew x])[i]? = some c := hc
        rw [List.getElem?_append_left (LV_hs_i hl q1)] at hc
        exact hc
  · obtain ⟨e, h⟩ := I.2.2.1 q y hq
    rw [hs q (I.2.2.2 q y e) (fun e2 => h 0 0 L0 e2.symm) (fun e2 => h 3 0 L3 e2.symm)]
    exact e
  · rw [e1]
    by_cases hq2 : q < A.2.1 + 8
    · exact hq2
    · rw [hz q (by omega)] at hq
      have := I.2.2.2 q y hq
      omega
set_option maxRecDepth 100000 in
set_option maxHeartbeats 4000000 in
theorem AW_handset_ok {x : Int32} (I : Inv F S ad A) (Wf : Wf S) (hgl : A.2.1 + 16 ≤ gL (gg u)) (hgs : A.2.2 + 400 ≤ gS (gg u)) (R : RfS S) : V (gg u) (d + 6) mm_AW_handset 0 [some (.ref (ad 0 0)), some (.int x)] [] A (PubR F ad A (spHandset S x)) := by
  have h0 := I.aw
  obtain ⟨x3, h3, g3, e3, l3⟩ := I.top (κ := 3) (by omega)
  subst e3
  simp only [List.length_map, List.length_range] at l3
  have w3 := Wf.2.2.2.2.1
  have o0 := I.old (κ := 0) (i := 0) (Or.inl ⟨by omega, rfl⟩)
  have o3 := I.old (κ := 3) (i := 0) (Or.inl ⟨by omega, rfl⟩)
  have n03 := I.ne (κ := 0) (i := 0) (κ' := 3) (i' := 0) (Or.inl ⟨by omega, rfl⟩) (Or.inl ⟨by omega, rfl⟩) (Or.inl (by omega))
  refine v_iload_n (dk cd_AW_handset 0 rfl) rfl ?_
  refine v_if_lt (tgt := 9) (dk cd_AW_handset 1 rfl) rfl (fun q1 => ?_) (fun q1 => ?_)
  · exact v_throw (ex := 0) (dk cd_AW_handset 5 rfl) (dk cd_AW_handset 6 rfl) (dk cd_AW_handset 7 rfl) (dk cd_AW_handset 8 rfl) rfl tw_54 rfl (by omega) (by omega) (by omega) (by simp) (pub_thr I (by unfold spHandset; exact if_neg (fun q => q.1 q1)))
  · refine v_iload_n (dk cd_AW_handset 2 rfl) rfl ?_
    refine v_iconst (v := 5) (dk cd_AW_handset 3 rfl) (by decide) ?_
    refine v_icmp_le (tgt := 17) (dk cd_AW_handset 4 rfl) rfl (fun q6 => ?_) (fun q6 => ?_)
    · refine v_aload_n (dk cd_AW_handset 9 rfl) rfl ?_
      refine v_getf (dk cd_AW_handset 10 rfl) fg_AW_40_AW (by repeat first | assumption | exact aset_same _ _ _ | exact anew_same _ _ _ | refine (aset_ne _ _ (by first | assumption | exact Ne.symm (by assumption) | omega | (simp only [aset, anew, amna, List.length_cons, List.length_nil]; omega))).trans ?_ | refine (anew_ne _ _ _ (by first | assumption | exact Ne.symm (by assumption) | omega | (simp only [aset, anew, amna, List.length_cons, List.length_nil]; omega))).trans ?_ | refine (amna_ne _ _ _ _ _ _ (by first | omega | (simp only [aset, anew, amna, List.length_cons, List.length_nil]; omega))).trans ?_) (by rfl) ?_
      refine v_iconst (v := nI 3) (dk cd_AW_handset 11 rfl) (by decide) ?_
      refine v_icmp_neN (tgt := 33) (dk cd_AW_handset 12 rfl) rfl (by omega) (by omega) (fun q22 => ?_) (fun q22 => ?_)
      · have hsp : spHandset S x = (addHs S (hNew x), .inl (.int (nI (sHs S).length))) := by unfold spHandset; rw [if_pos ⟨q1, q6⟩, if_neg q22]
        refine v_aload_n (dk cd_AW_handset 17 rfl) rfl ?_
        refine v_getf (dk cd_AW_handset 18 rfl) fg_AW_36_AW (by repeat first | assumption | exact aset_same _ _ _ | exact anew_same _ _ _ | refine (aset_ne _ _ (by first | assumption | exact Ne.symm (by assumption) | omega | (simp only [aset, anew, amna, List.length_cons, List.length_nil]; omega))).trans ?_ | refine (anew_ne _ _ _ (by first | assumption | exact Ne.symm (by assumption) | omega | (simp only [aset, anew, amna, List.length_cons, List.length_nil]; omega))).trans ?_ | refine (amna_ne _ _ _ _ _ _ (by first | omega | (simp only [aset, anew, amna, List.length_cons, List.length_nil]; omega))).trans ?_) (by rfl) ?_
        refine v_aload_n (dk cd_AW_handset 19 rfl) rfl ?_
        refine v_getf (dk cd_AW_handset 20 rfl) fg_AW_40_AW (by repeat first | assumption | exact aset_same _ _ _ | exact anew_same _ _ _ | refine (aset_ne _ _ (by first | assumption | exact Ne.symm (by assumption) | omega | (simp only [aset, anew, amna, List.length_cons, List.length_nil]; omega))).trans ?_ | refine (anew_ne _ _ _ (by first | assumption | exact Ne.symm (by assumption) | omega | (simp only [aset, anew, amna, List.length_cons, List.length_nil]; omega))).trans ?_ | refine (amna_ne _ _ _ _ _ _ (by first | omega | (simp only [aset, anew, amna, List.length_cons, List.length_nil]; omega))).trans ?_) (by rfl) ?_
        refine v_new (dk cd_AW_handset 21 rfl) nw_AW_34 (by first | omega | (simp only [aset, anew, amna, List.length_cons, List.length_nil]; omega)) (by first | omega | (simp only [aset, anew, amna, List.length_cons, List.length_nil]; omega)) ?_
        refine v_dup (dk cd_AW_handset 22 rfl) rfl ?_
        refine v_iload_n (dk cd_AW_handset 23 rfl) rfl ?_
        refine v_calli (dk cd_AW_handset 24 rfl) ci_AW_196 (as := [_]) rfl rfl (Nat.le_of_ble_eq_true rfl) (by simp [Value.category]) (Ha_init_ok (o := A.2.1) (by repeat first | assumption | exact aset_same _ _ _ | exact anew_same _ _ _ | refine (aset_ne _ _ (by first | assumption | exact Ne.symm (by assumption) | omega | (simp only [aset, anew, amna, List.length_cons, List.length_nil]; omega))).trans ?_ | refine (anew_ne _ _ _ (by first | assumption | exact Ne.symm (by assumption) | omega | (simp only [aset, anew, amna, List.length_cons, List.length_nil]; omega))).trans ?_ | refine (amna_ne _ _ _ _ _ _ (by first | omega | (simp only [aset, anew, amna, List.length_cons, List.length_nil]; omega))).trans ?_) (by first | omega | (simp only [aset, anew, amna, List.length_cons, List.length_nil]; omega)) (by first | omega | (simp only [aset, anew, amna, List.length_cons, List.length_nil]; omega)) (by first | omega | (simp only [aset, anew, amna, List.length_cons, List.length_nil]; omega))) mk_no (fun v9 A9 hq => ?_)
        obtain ⟨e9, a1, a2, a3, a4, a5, a6⟩ := hq
        cases e9
        have a1 : A9.2.1 = A.2.1 + 8 := a1
        have a2 : A9.2.2 = A.2.2 + 172 := a2
        have ak : ∀ q, q < A.2.1 → A9.1 q = A.1 q := fun q hq => (a5 q (by omega) (by simp only [anew]; omega)).trans (anew_ne _ _ _ (by omega))
        have az : ∀ q, A.2.1 + 8 ≤ q → A9.1 q = A.1 q := fun q hq => (a6 q hq).trans (anew_ne _ _ _ (by omega))
        have h09 := (ak _ o0).trans h0
        have h39 := (ak _ o3).trans h3
        refine v_aastN (dk cd_AW_handset 25 rfl) as_6_Ha (by repeat first | assumption | exact aset_same _ _ _ | exact anew_same _ _ _ | refine (aset_ne _ _ (by first | assumption | exact Ne.symm (by assumption) | omega | (simp only [aset, anew, amna, List.length_cons, List.length_nil]; omega))).trans ?_ | refine (anew_ne _ _ _ (by first | assumption | exact Ne.symm (by assumption) | omega | (simp only [aset, anew, amna, List.length_cons, List.length_nil]; omega))).trans ?_ | refine (amna_ne _ _ _ _ _ _ (by first | omega | (simp only [aset, anew, amna, List.length_cons, List.length_nil]; omega))).trans ?_) (by repeat first | assumption | exact aset_same _ _ _ | exact anew_same _ _ _ | refine (aset_ne _ _ (by first | assumption | exact Ne.symm (by assumption) | omega | (simp only [aset, anew, amna, List.length_cons, List.length_nil]; omega))).trans ?_ | refine (anew_ne _ _ _ (by first | assumption | exact Ne.symm (by assumption) | omega | (simp only [aset, anew, amna, List.length_cons, List.length_nil]; omega))).trans ?_ | refine (amna_ne _ _ _ _ _ _ (by first | omega | (simp only [aset, anew, amna, List.length_cons, List.length_nil]; omega))).trans ?_) (by omega) (by rw [List.length_append, List.length_map, List.length_range]; omega) ?_
        refine v_aload_n (dk cd_AW_handset 26 rfl) rfl ?_
        refine v_dup (dk cd_AW_handset 27 rfl) rfl ?_
        refine v_getf (dk cd_AW_handset 28 rfl) fg_AW_40_AW (by repeat first | assumption | exact aset_same _ _ _ | exact anew_same _ _ _ | refine (aset_ne _ _ (by first | assumption | exact Ne.symm (by assumption) | omega | (simp only [aset, anew, amna, List.length_cons, List.length_nil]; omega))).trans ?_ | refine (anew_ne _ _ _ (by first | assumption | exact Ne.symm (by assumption) | omega | (simp only [aset, anew, amna, List.length_cons, List.length_nil]; omega))).trans ?_ | refine (amna_ne _ _ _ _ _ _ (by first | omega | (simp only [aset, anew, amna, List.length_cons, List.length_nil]; omega))).trans ?_) (by rfl) ?_
        refine v_iconst (v := nI 1) (dk cd_AW_handset 29 rfl) (by decide) ?_
        refine v_iaddN (dk cd_AW_handset 30 rfl) ?_
        refine v_putf (dk cd_AW_handset 31 rfl) fp_AW_40_AW (fun h => by cases h) (by repeat first | assumption | exact aset_same _ _ _ | exact anew_same _ _ _ | refine (aset_ne _ _ (by first | assumption | exact Ne.symm (by assumption) | omega | (simp only [aset, anew, amna, List.length_cons, List.length_nil]; omega))).trans ?_ | refine (anew_ne _ _ _ (by first | assumption | exact Ne.symm (by assumption) | omega | (simp only [aset, anew, amna, List.length_cons, List.length_nil]; omega))).trans ?_ | refine (amna_ne _ _ _ _ _ _ (by first | omega | (simp only [aset, anew, amna, List.length_cons, List.length_nil]; omega))).trans ?_) rfl rfl ?_
        refine v_aload_n (dk cd_AW_handset 32 rfl) rfl ?_
        refine v_getf (dk cd_AW_handset 33 rfl) fg_AW_40_AW (by repeat first | assumption | exact aset_same _ _ _ | exact anew_same _ _ _ | refine (aset_ne _ _ (by first | assumption | exact Ne.symm (by assumption) | omega | (simp only [aset, anew, amna, List.length_cons, List.length_nil]; omega))).trans ?_ | refine (anew_ne _ _ _ (by first | assumption | exact Ne.symm (by assumption) | omega | (simp only [aset, anew, amna, List.length_cons, List.length_nil]; omega))).trans ?_ | refine (amna_ne _ _ _ _ _ _ (by first | omega | (simp only [aset, anew, amna, List.length_cons, List.length_nil]; omega))).trans ?_) (by rfl) ?_
        refine v_iconst (v := nI 1) (dk cd_AW_handset 34 rfl) (by decide) ?_
        refine v_isubN (dk cd_AW_handset 35 rfl) (by omega) ?_
        refine v_iret (dk cd_AW_handset 36 rfl) rfl ⟨adH ad (sHs S).length A.2.1, if_neg (by omega), ?_⟩
        rw [hsp]
        refine ⟨I.addH R (by omega) h3 l3 a1 (fun q hq => (aset_ne _ _ (by omega)).trans ((aset_ne _ _ (by omega)).trans (az q hq))) (fun q q1 q2 q3 => (aset_ne _ _ q2).trans ((aset_ne _ _ q3).trans (ak q q1))) (aset_same _ _ _) ((aset_ne _ _ n03.symm).trans (aset_same _ _ _)) ?_ ?_ ?_ ?_ ?_ ?_ ?_ ?_, ?_, ?_, ?_⟩
        · exact (aset_ne _ _ (by omega)).trans ((aset_ne _ _ (by omega)).trans a3)
        · exact (aset_ne _ _ (by omega)).trans ((aset_ne _ _ (by omega)).trans (a4 0 _ rfl))
        · exact (aset_ne _ _ (by omega)).trans ((aset_ne _ _ (by omega)).trans (a4 1 _ rfl))
        · exact (aset_ne _ _ (by omega)).trans ((aset_ne _ _ (by omega)).trans (a4 2 _ rfl))
        · exact (aset_ne _ _ (by omega)).trans ((aset_ne _ _ (by omega)).trans (a4 3 _ rfl))
        · exact (aset_ne _ _ (by omega)).trans ((aset_ne _ _ (by omega)).trans (a4 4 _ rfl))
        · exact (aset_ne _ _ (by omega)).trans ((aset_ne _ _ (by omega)).trans (a4 5 _ rfl))
        · exact (aset_ne _ _ (by omega)).trans ((aset_ne _ _ (by omega)).trans (a4 6 _ rfl))
        · show A9.2.1 ≤ _
          omega
        · show A9.2.2 ≤ _
          omega
        · rfl
      · exact v_throw (ex := 1) (dk cd_AW_handset 13 rfl) (dk cd_AW_handset 14 rfl) (dk cd_AW_handset 15 rfl) (dk cd_AW_handset 16 rfl) rfl tw_57 rfl (by omega) (by omega) (by omega) (by simp) (pub_thr I (by unfold spHandset; rw [if_pos ⟨q1, q6⟩, if_pos q22]))
    · exact v_throw (ex := 0) (dk cd_AW_handset 5 rfl) (dk cd_AW_handset 6 rfl) (dk cd_AW_handset 7 rfl) (dk cd_AW_handset 8 rfl) rfl tw_54 rfl (by omega) (by omega) (by omega) (by simp) (pub_thr I (by unfold spHandset; exact if_neg (fun q => q6 q.2)))
end G3
