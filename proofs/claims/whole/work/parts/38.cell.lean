/-! a cell is made; areas are measured -/
def cNew (x y r : Int32) : CeS := ((x, y, r), (true, false), [], [])
def addCe (S : SS) (c : CeS) : SS := (S.1, sCells S ++ [c], S.2.2)
def adC (ad : Nat → Nat → Nat) (n a : Nat) : Nat → Nat → Nat := fun κ i => if 14 ≤ κ ∧ κ < 20 ∧ i = n then a + (κ - 14) else ad κ i
def setVs (S : SS) (vs : List VeS) : SS := (S.1, S.2.1, S.2.2.1, S.2.2.2.1, vs, S.2.2.2.2.2)
def covV (v : VeS) (s : SpS) (j : Nat) (b : Bool) : VeS := (v.1, v.2.1, some (s.1, s.2.1, s.2.2.set j b))
section G4
variable {u : Ux} {d : Nat} {A : AH} {F : Nat → Option AC} {S : SS} {ad : Nat → Nat → Nat}
theorem LV_ce_i {κ i : Nat} (h : LV S κ i) (h1 : 14 ≤ κ) (h2 : κ < 20) : i < (sCells S).length := by
  rcases h with h | h | h | h | h | h | h <;> omega
theorem adC_old {n a κ i : Nat} (h : LV S κ i) (hn : n = (sCells S).length) : adC ad n a κ i = ad κ i := by
  unfold adC
  rw [if_neg]
  rintro ⟨h1, h2, h3⟩
  have := LV_ce_i h h1 h2
  omega
theorem adC_new {n a κ : Nat} (h1 : 14 ≤ κ) (h2 : κ < 20) : adC ad n a κ n = a + (κ - 14) := if_pos ⟨h1, h2, rfl⟩
theorem Inv.addC {x y r : Int32} {A' : AH} {vs : List Value} (I : Inv F S ad A) (R : RfS S) (hn : (sCells S).length < 8) (h3 : A.1 (ad 1 0) = some (104, ((List.range (sCells S).length).map fun h => .ref (ad 14 h)) ++ vs)) (hvl : (sCells S).length + vs.length = 8)
    (e1 : A'.2.1 = A.2.1 + 6) (hz : ∀ q, A.2.1 + 6 ≤ q → A'.1 q = A.1 q) (hs : ∀ q, q < A.2.1 → q ≠ ad 0 0 → q ≠ ad 1 0 → A'.1 q = A.1 q)
    (c0 : A'.1 (ad 0 0) = some (0, [.int (sClock S), .ref (ad 1 0), .int (nI ((sCells S).length + 1)), .ref (ad 2 0), .int (nI (sWarn S).length), .int (nI (sVers S).length), .ref (ad 3 0), .int (nI (sHs S).length), .ref (ad 4 99)]))
    (c3 : A'.1 (ad 1 0) = some (104, (((List.range (sCells S).length).map fun h => Value.ref (ad 14 h)) ++ vs).set (sCells S).length (.ref A.2.1)))
    (d0 : A'.1 A.2.1 = some (3, [.int (nI (sCells S).length), .int x, .int y, .int r, .int 1, .ref (A.2.1 + 1), .int 0, .ref (A.2.1 + 2), .ref (A.2.1 + 3), .ref (A.2.1 + 4), .ref (A.2.1 + 5), .int 0]))
    (d1 : A'.1 (A.2.1 + 1) = some (107, List.replicate 12 .null)) (d2 : A'.1 (A.2.1 + 2) = some (107, List.replicate 12 .null)) (d3 : A'.1 (A.2.1 + 3) = some (107, List.replicate 108 .null)) (d4 : A'.1 (A.2.1 + 4) = some (100, List.replicate 108 (.int 0))) (d5 : A'.1 (A.2.1 + 5) = some (100, List.replicate 108 (.int 0))) :
    Inv F (addCe S (cNew x y r)) (adC ad (sCells S).length A.2.1) A' := by
  have I1 : Inv F S (adC ad (sCells S).length A.2.1) A := I.relab R (fun κ i h => adC_old h rfl)
  have L0 : LV S 0 0 := Or.inl ⟨by omega, rfl⟩
  have L3 : LV S 1 0 := Or.inl ⟨by omega, rfl⟩
  have hlen : (sCells (addCe S (cNew x y r))).length = (sCells S).length + 1 := by show (sCells S ++ [cNew x y r]).length = _; simp
  have had : ∀ κ, κ < 14 → ∀ i, adC ad (sCells S).length A.2.1 κ i = ad κ i := fun κ h i => if_neg (by omega)
  have had2 : ∀ κ, 20 ≤ κ → ∀ i, adC ad (sCells S).length A.2.1 κ i = ad κ i := fun κ h i => if_neg (by omega)
  refine I1.adopt (fun κ i => 14 ≤ κ ∧ κ < 20 ∧ i = (sCells S).length) (fun κ i h => ?_) (fun κ i h => ?_) (fun κ i κ' i' h h' e => ?_) (fun κ i h => ?_) (fun q y hq => ?_) (fun q y hq => ?_)
  · rcases h with h | h | ⟨h1, h2, h3⟩ | h
    · exact Or.inl (Or.inl h)
    · exact Or.inl (Or.inr (Or.inl h))
    · rw [hlen] at h3
      by_cases e : i = (sCells S).length
      · exact Or.inr ⟨h1, h2, e⟩
      · exact Or.inl (LV_cell h1 h2 (by omega))
    · exact Or.inl (Or.inr (Or.inr (Or.inr h)))
  · obtain ⟨h1, h2, rfl⟩ := h
    rw [adC_new h1 h2]
    exact ⟨fun κ' i' h' e => by have := I1.old h'; omega, I.Fold (by omega)⟩
  · obtain ⟨h1, h2, rfl⟩ := h
    obtain ⟨h3, h4, rfl⟩ := h'
    rw [adC_new h1 h2, adC_new h3 h4] at e
    exact ⟨by omega, rfl⟩
  · by_cases hN : 14 ≤ κ ∧ κ < 20 ∧ i = (sCells S).length
    · obtain ⟨h1, h2, rfl⟩ := hN
      have hx : ∀ z, CCell (cNew x y r) (adC ad (sCells S).length A.2.1) (sCells S).length κ z → CT (addCe S (cNew x y r)) (adC ad (sCells S).length A.2.1) κ (sCells S).length z := fun z hy => ⟨fun q => by omega, fun _ q => by omega, fun _ _ c hc => by
        have hc : (sCells S ++ [cNew x y r])[(sCells S).length]? = some c := hc
        rw [List.getElem?_append_right (Nat.le_refl _), Nat.sub_self] at hc
        cases hc
        exact hy, fun q => by omega, fun q _ => by omega, fun q _ => by omega⟩
      rw [adC_new h1 h2]
      have hk3 : κ = 14 ∨ κ = 15 ∨ κ = 16 ∨ κ = 17 ∨ κ = 18 ∨ κ = 19 := by omega
      rcases hk3 with rfl | rfl | rfl | rfl | rfl | rfl
      · refine ⟨_, d0, hx _ ?_⟩
        show _ = ((3, [.int (nI (sCells S).length), .int x, .int y, .int r, .int (b2i true), .ref (adC ad (sCells S).length A.2.1 15 (sCells S).length), .int (nI 0), .ref (adC ad (sCells S).length A.2.1 16 (sCells S).length), .ref (adC ad (sCells S).length A.2.1 17 (sCells S).length), .ref (adC ad (sCells S).length A.2.1 18 (sCells S).length), .ref (adC ad (sCells S).length A.2.1 19 (sCells S).length), .int (nI 0)]) : AC)
        rw [adC_new (by omega) (by omega), adC_new (by omega) (by omega), adC_new (by omega) (by omega), adC_new (by omega) (by omega), adC_new (by omega) (by omega)]
        rfl
      · exact ⟨_, d1, hx _ ⟨List.replicate 12 .null, rfl, rfl⟩⟩
      · exact ⟨_, d2, hx _ ⟨List.replicate 12 .null, rfl, rfl⟩⟩
      · exact ⟨_, d3, hx _ ⟨List.replicate 108 .null, rfl, rfl⟩⟩
      · exact ⟨_, d4, hx _ ⟨List.replicate 108 (.int 0), rfl, rfl⟩⟩
      · exact ⟨_, d5, hx _ ⟨List.replicate 108 (.int 0), rfl, rfl⟩⟩
    · have hl : LV S κ i := by
        rcases h with h | h | ⟨h1, h2, h3⟩ | h
        · exact Or.inl h
        · exact Or.inr (Or.inl h)
        · rw [hlen] at h3
          exact LV_cell h1 h2 (by omega)
        · exact Or.inr (Or.inr (Or.inr h))
      by_cases k0 : κ = 0
      · subst k0
        have hi : i = 0 := by rcases hl with h | h | h | h | h | h | h <;> omega
        subst hi
        refine ⟨_, by rw [had 0 (by omega)]; exact c0, fun _ => ?_, fun h => by omega, fun h => by omega, fun h => by omega, fun h => by omega, fun h => by omega⟩
        show _ = _
        rw [had 1 (by omega), had 2 (by omega), had 3 (by omega), had 4 (by omega), hlen]
        rfl
      by_cases k3 : κ = 1
      · subst k3
        have hi : i = 0 := by rcases hl with h | h | h | h | h | h | h <;> omega
        subst hi
        refine ⟨_, by rw [had 1 (by omega)]; exact c3, fun _ => ?_, fun h => by omega, fun h => by omega, fun h => by omega, fun h => by omega, fun h => by omega⟩
        have h9 := ArG.app (k := 104) (n := 8) (v := .ref A.2.1) (l := (List.range (sCells S).length).map fun h => Value.ref (ad 14 h)) (gb := vs) (by simpa using hvl) (by simpa using hn)
        simp only [List.length_map, List.length_range] at h9
        show ArG 104 8 ((List.range (sCells (addCe S (cNew x y r))).length).map fun h => Value.ref (adC ad (sCells S).length A.2.1 14 h)) _
        have e2 : ((List.range (sCells (addCe S (cNew x y r))).length).map fun h => Value.ref (adC ad (sCells S).length A.2.1 14 h)) = ((List.range (sCells S).length).map fun h => Value.ref (ad 14 h)) ++ [.ref A.2.1] := by
          rw [hlen, List.range_succ, List.map_append]
          congr 1
          · exact List.map_congr_left (fun i hi => by rw [adC_old (LV_cell (S := S) (by omega) (by omega) (List.mem_range.mp hi)) rfl])
          · simp [adC_new]
        rw [e2]
        exact h9
      obtain ⟨y, b1, b2, b3, b4, b5, b6, b7⟩ := I1.2.1 κ i hl
      have hne0 : adC ad (sCells S).length A.2.1 κ i ≠ ad 0 0 := by rw [← had 0 (by omega)]; exact I1.ne hl L0 (Or.inl k0)
      have hne3 : adC ad (sCells S).length A.2.1 κ i ≠ ad 1 0 := by rw [← had 1 (by omega)]; exact I1.ne hl L3 (Or.inl k3)
      refine ⟨y, (hs _ (I1.old hl) hne0 hne3).trans b1, fun q => ?_, b3, fun q1 q2 c hc => b4 q1 q2 c ?_, b5, b6, b7⟩
      · have hk : κ = 2 ∨ κ = 3 := by omega
        rcases hk with rfl | rfl
        · exact b2 (by omega)
        · exact b2 (by omega)
      · have hc : (sCells S ++ [cNew x _ r])[i]? = some c := hc
        rw [List.getElem?_append_left (LV_ce_i hl q1 q2)] at hc
        exact hc
  · obtain ⟨e, h⟩ := I.2.2.1 q y hq
    rw [hs q (I.2.2.2 q y e) (fun e2 => h 0 0 L0 e2.symm) (fun e2 => h 1 0 L3 e2.symm)]
    exact e
  · rw [e1]
    by_cases hq2 : q < A.2.1 + 6
    · exact hq2
    · rw [hz q (by omega)] at hq
      have := I.2.2.2 q y hq
      omega
/-- one place of a version's cover -/
theorem Inv.updCov {i j : Nat} {v : VeS} {s : SpS} {b : Bool} {x : AC} (I : Inv F S ad A) (hve : (sVers S)[i]? = some v) (hs : v.2.2 = some s) (hx : x = (101, (s.2.2.set j b).map fun b => .int (b2i b))) : Inv F (setVs S ((sVers S).set i (covV v s j b))) ad (aset A (ad 22 i) x) := by
  have hi := (List.getElem?_eq_some_iff.mp hve).1
  have hL : LV S 22 i := Or.inr (Or.inr (Or.inr (Or.inr (Or.inr (Or.inl ⟨rfl, v, hve, by rw [hs]; rfl⟩)))))
  have hg : ∀ k, k ≠ i → ((sVers S).set i (covV v s j b))[k]? = (sVers S)[k]? := fun k hk => List.getElem?_set_ne (fun e => hk e.symm)
  have hgi : ((sVers S).set i (covV v s j b))[i]? = some (covV v s j b) := List.getElem?_set_self hi
  have hmo : ∀ k, msgOf (setVs S ((sVers S).set i (covV v s j b))) k = msgOf S k := by
    intro k
    show (if k = 99 then some (sTyped S) else ((((sVers S).set i (covV v s j b))[k]?).bind fun v => v.2.2.map fun s => s.2.1)) = _
    unfold msgOf
    by_cases hk : k = i
    · rw [hk, hgi, hve]
      simp [covV, hs]
    · rw [hg k hk]
  have hLV : ∀ κ k, LV (setVs S ((sVers S).set i (covV v s j b))) κ k ↔ LV S κ k := by
    intro κ k
    unfold LV
    rw [hmo k, show (sVers (setVs S ((sVers S).set i (covV v s j b)))).length = (sVers S).length from List.length_set]
    have h9 : (∃ v', (sVers (setVs S ((sVers S).set i (covV v s j b))))[k]? = some v' ∧ v'.2.2.isSome = true) ↔ ∃ v', (sVers S)[k]? = some v' ∧ v'.2.2.isSome = true := by
      show (∃ v', ((sVers S).set i (covV v s j b))[k]? = some v' ∧ v'.2.2.isSome = true) ↔ _
      by_cases hk : k = i
      · rw [hk, hgi, hve]
        exact ⟨fun _ => ⟨v, rfl, by rw [hs]; rfl⟩, fun _ => ⟨_, rfl, rfl⟩⟩
      · rw [hg k hk]
    rw [h9]
    exact Iff.rfl
  refine I.upd (aset_two A _ x) hLV (fun κ k => κ = 22 ∧ k = i) (fun q hq => aset_ne A x (hq 22 i hL ⟨rfl, rfl⟩)) ?_ ?_
  · rintro κ k - ⟨rfl, rfl⟩
    refine ⟨x, aset_same A _ x, fun h => by omega, fun _ h => by omega, fun _ h => by omega, fun h => by omega, fun _ _ v' hv' s' hs' => ?_, fun h => by omega⟩
    have e : ((sVers S).set k (covV v s j b))[k]? = some v' := hv'
    rw [hgi] at e
    cases e
    cases hs'
    exact hx
  · intro κ k y _ hd hy
    obtain ⟨x1, x2, x3, x4, x5, x6⟩ := hy
    refine ⟨fun h => CTop_len (S := S) rfl rfl rfl List.length_set rfl rfl (x1 h), fun h3 h4 m hm => x2 h3 h4 m (by rw [← hmo k]; exact hm), x3, x4, fun h3 h4 v' hv' => ?_, x6⟩
    have e : ((sVers S).set i (covV v s j b))[k]? = some v' := hv'
    by_cases hk : k = i
    · subst hk
      rw [hgi] at e
      cases e
      have hκ : κ = 21 := by
        have : κ ≠ 22 := fun e => hd ⟨e, rfl⟩
        omega
      subst hκ
      have h9 : y = _ := x5 (by omega) (by omega) v hve
      show y = _
      rw [h9]
      simp [covV, vKind, hs]
    · rw [hg k hk] at e
      exact x5 h3 h4 v' e
set_option maxRecDepth 100000 in
set_option maxHeartbeats 4000000 in
theorem Sp_measure_ok {i j : Nat} {c : CeS} {v : VeS} {s : SpS} (I : Inv F S ad A) (h40 : (sVers S).length ≤ 40) (h8 : (sCells S).length ≤ 8) (hc : (sCells S)[j]? = some c) (hve : (sVers S)[i]? = some v) (hs : v.2.2 = some s) (hl8 : s.2.2.length = 8) (ha8 : s.2.1.1.length ≤ 8) : V (gg u) (d + 4) mm_Sp_measure 0 [some (.ref (ad 21 i)), some (.ref (ad 14 j))] [] A (Ps (some (.int (b2i (cReach s.2.1.1 c.1.1 c.1.2.1 c.1.2.2)))) F (setVs S ((sVers S).set i (covV v s j (cReach s.2.1.1 c.1.1 c.1.2.1 c.1.2.2)))) ad A) := by
  have hj := (List.getElem?_eq_some_iff.mp hc).1
  have hi := (List.getElem?_eq_some_iff.mp hve).1
  have h14 := I.cob hc
  have hv := I.verS hve hs
  have hcv := I.cov hve hs
  have HA1 := I.arAt (msg_ver h40 hve hs) ha8
  have HA0 := HA1
  obtain ⟨-, xa, ya, vx, vy, k5, -⟩ := HA1
  have hL : LV S 22 i := Or.inr (Or.inr (Or.inr (Or.inr (Or.inr (Or.inl ⟨rfl, v, hve, by rw [hs]; rfl⟩)))))
  have n1 := I.ne (LV_ver hi) hL (Or.inl (by omega))
  have n2 := I.ne (LV_cell (κ := 14) (by omega) (by omega) hj) hL (Or.inl (by omega))
  refine v_aload_n (dk cd_Sp_measure 0 rfl) rfl ?_
  refine v_getf (dk cd_Sp_measure 1 rfl) fg_Sp_30_Sp (by repeat first | assumption | exact aset_same _ _ _ | refine (aset_ne _ _ (by first | assumption | exact Ne.symm (by assumption))).trans ?_) (by rfl) ?_
  refine v_aload_n (dk cd_Sp_measure 2 rfl) rfl ?_
  refine v_getf (dk cd_Sp_measure 3 rfl) fg_Sp_34_Ce (by repeat first | assumption | exact aset_same _ _ _ | refine (aset_ne _ _ (by first | assumption | exact Ne.symm (by assumption))).trans ?_) (by rfl) ?_
  refine v_aload_n (dk cd_Sp_measure 4 rfl) rfl ?_
  refine v_getf (dk cd_Sp_measure 5 rfl) fg_Sp_24_Sp (by repeat first | assumption | exact aset_same _ _ _ | refine (aset_ne _ _ (by first | assumption | exact Ne.symm (by assumption))).trans ?_) (by rfl) ?_
  refine v_aload_n (dk cd_Sp_measure 6 rfl) rfl ?_
  refine v_getf (dk cd_Sp_measure 7 rfl) fg_Sp_39_Ce (by repeat first | assumption | exact aset_same _ _ _ | refine (aset_ne _ _ (by first | assumption | exact Ne.symm (by assumption))).trans ?_) (by rfl) ?_
  refine v_aload_n (dk cd_Sp_measure 8 rfl) rfl ?_
  refine v_getf (dk cd_Sp_measure 9 rfl) fg_Sp_42_Ce (by repeat first | assumption | exact aset_same _ _ _ | refine (aset_ne _ _ (by first | assumption | exact Ne.symm (by assumption))).trans ?_) (by rfl) ?_
  refine v_aload_n (dk cd_Sp_measure 10 rfl) rfl ?_
  refine v_getf (dk cd_Sp_measure 11 rfl) fg_Sp_45_Ce (by repeat first | assumption | exact aset_same _ _ _ | refine (aset_ne _ _ (by first | assumption | exact Ne.symm (by assumption))).trans ?_) (by rfl) ?_
  refine v_rv (r := ("AreaWarnings$Area", TT_Ar, 3)) (dk cd_Sp_measure 12 rfl) cv_Sp_48 rfl (by repeat first | assumption | exact aset_same _ _ _ | refine (aset_ne _ _ (by first | assumption | exact Ne.symm (by assumption))).trans ?_) (as := [_, _, _]) rfl rfl (Nat.le_of_ble_eq_true rfl) (by simp [Value.category]) (Ar_reaches_ok HA0) ?_
  refine v_zastN (j := 1) (dk cd_Sp_measure 13 rfl) (by repeat first | assumption | exact aset_same _ _ _ | refine (aset_ne _ _ (by first | assumption | exact Ne.symm (by assumption))).trans ?_) (by decide) rfl (by omega) (by simp; omega) (b2i_narrow _) ?_
  refine v_aload_n (dk cd_Sp_measure 14 rfl) rfl ?_
  refine v_getf (dk cd_Sp_measure 15 rfl) fg_Sp_30_Sp (by repeat first | assumption | exact aset_same _ _ _ | refine (aset_ne _ _ (by first | assumption | exact Ne.symm (by assumption))).trans ?_) (by rfl) ?_
  refine v_aload_n (dk cd_Sp_measure 16 rfl) rfl ?_
  refine v_getf (dk cd_Sp_measure 17 rfl) fg_Sp_34_Ce (by repeat first | assumption | exact aset_same _ _ _ | refine (aset_ne _ _ (by first | assumption | exact Ne.symm (by assumption))).trans ?_) (by rfl) ?_
  refine v_zaldN (j := 1) (dk cd_Sp_measure 18 rfl) (by repeat first | assumption | exact aset_same _ _ _ | refine (aset_ne _ _ (by first | assumption | exact Ne.symm (by assumption))).trans ?_) (by decide) rfl (by omega) (by rw [List.getElem?_set_self (by simp; omega)]) ?_
  exact v_zretB (dk cd_Sp_measure 19 rfl) rfl (ps_of (I.updCov hve hs (by simp [List.map_set])) rfl rfl)
end G4
