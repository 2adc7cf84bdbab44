/-! line, camp, miss, likes -/
def cD : CeS := ((0, 0, 0), (false, false), [], [])
def hD : HaS := ((0, 0, 0, 0), [], ([], [], []), [])
def cAt (S : SS) (x : Int32) : CeS := (sCells S).getD x.toNatClampNeg cD
def hAt (S : SS) (x : Int32) : HaS := (sHs S).getD x.toNatClampNeg hD
theorem pIx_nat {x : Int32} {n : Nat} (h : pIx x n = true) (hn : n < 2 ^ 31) : ∃ k, k < n ∧ x = nI k := by
  simp only [pIx, Bool.and_eq_true, Bool.not_eq_true', decide_eq_false_iff_not] at h
  obtain ⟨j, hj, e⟩ := nI_of h.1
  refine ⟨j, ?_, e⟩
  have h2 := h.2
  rw [e, nI_leI hn hj] at h2
  omega
theorem rng_at {n k : Nat} {f : Nat → Value} {gb : List Value} (h : k < n) : ((List.range n).map f ++ gb)[k]? = some (f k) := by
  rw [map_app (by simpa using h)]; simp
section W3
variable {u : Ux} {d : Nat} {A : AH} {F : Nat → Option AC} {S : SS} {ad : Nat → Nat → Nat}
theorem cAt_nI {i : Nat} {c : CeS} (hc : (sCells S)[i]? = some c) (hi : i < 2 ^ 31) : cAt S (nI i) = c := by
  unfold cAt; rw [nI_clamp hi]; simp [hc]
theorem hAt_nI {i : Nat} {c : HaS} (hc : (sHs S)[i]? = some c) (hi : i < 2 ^ 31) : hAt S (nI i) = c := by
  unfold hAt; rw [nI_clamp hi]; simp [hc]
theorem LV_cell {κ i : Nat} (h1 : 14 ≤ κ) (h2 : κ < 20) (hi : i < (sCells S).length) : LV S κ i := Or.inr (Or.inr (Or.inl ⟨h1, h2, hi⟩))
theorem LV_hs {κ i : Nat} (h1 : 23 ≤ κ) (h2 : κ ≤ 30) (hi : i < (sHs S).length) : LV S κ i := Or.inr (Or.inr (Or.inr (Or.inr (Or.inr (Or.inr ⟨h1, h2, hi⟩)))))
theorem LV_ver {i : Nat} (hi : i < (sVers S).length) : LV S 21 i := Or.inr (Or.inr (Or.inr (Or.inr (Or.inl ⟨rfl, hi⟩))))
theorem LV_warn {i : Nat} (hi : i < (sWarn S).length) : LV S 20 i := Or.inr (Or.inr (Or.inr (Or.inl ⟨rfl, hi⟩)))
theorem LV_top {κ : Nat} (h : κ < 4) : LV S κ 0 := Or.inl ⟨h, rfl⟩
/-- a cell's object alone changes -/
theorem Inv.updCob {i : Nat} {c c' : CeS} {x : AC} (I : Inv F S ad A) (hc : (sCells S)[i]? = some c) (h1 : c'.2.1.2 = c.2.1.2) (h2 : c'.2.2 = c.2.2) (hx : CCell c' ad i 14 x) : Inv F (setCe S i c') ad (aset A (ad 14 i) x) := by
  have hi := (List.getElem?_eq_some_iff.mp hc).1
  refine I.updCell hi rfl (fun q hq => aset_ne _ _ (hq 14 (by omega) (by omega))) (fun κ h3 h4 => ?_)
  by_cases k : κ = 14
  · subst k
    exact ⟨x, aset_same _ _ _, hx⟩
  obtain ⟨y, h5, h6⟩ := I.cell h3 h4 hc
  refine ⟨y, ?_, ?_⟩
  · rw [aset_ne _ _ (I.ne (LV_cell h3 h4 hi) (LV_cell (by omega) (by omega) hi) (Or.inl k))]
    exact h5
  · unfold CCell at h6 ⊢
    rw [h1, h2]
    have hk : κ = 15 ∨ κ = 16 ∨ κ = 17 ∨ κ = 18 ∨ κ = 19 := by omega
    rcases hk with rfl | rfl | rfl | rfl | rfl <;> exact h6
/-- a handset's object alone changes -/
theorem Inv.updHob {i : Nat} {c c' : HaS} {x : AC} (I : Inv F S ad A) (hc : (sHs S)[i]? = some c) (h2 : c'.2 = c.2) (hx : CHs c' ad i 23 x) : Inv F (setHs S i c') ad (aset A (ad 23 i) x) := by
  have hi := (List.getElem?_eq_some_iff.mp hc).1
  refine I.updHs hi rfl (fun q hq => aset_ne _ _ (hq 23 (by omega) (by omega))) (fun κ h3 h4 => ?_)
  by_cases k : κ = 23
  · subst k
    exact ⟨x, aset_same _ _ _, hx⟩
  obtain ⟨y, h5, h6⟩ := I.hs h3 h4 hc
  refine ⟨y, ?_, ?_⟩
  · rw [aset_ne _ _ (I.ne (LV_hs h3 h4 hi) (LV_hs (by omega) (by omega) hi) (Or.inl k))]
    exact h5
  · unfold CHs at h6 ⊢
    rw [h2]
    have hk : κ = 24 ∨ κ = 25 ∨ κ = 26 ∨ κ = 27 ∨ κ = 28 ∨ κ = 29 ∨ κ = 30 := by omega
    rcases hk with rfl | rfl | rfl | rfl | rfl | rfl | rfl <;> exact h6
def spLine (S : SS) (x : Int32) (w : Bool) : SS × (Value ⊕ Nat) := if pIx x (sCells S).length = true then (setCe S x.toNatClampNeg ((cAt S x).1, (w, (cAt S x).2.1.2), (cAt S x).2.2), .inl (.int (b2i (cAt S x).2.1.1))) else (S, .inr 3)
def spCamp (S : SS) (x c : Int32) : SS × (Value ⊕ Nat) := if pIx x (sHs S).length = true ∧ (c = -1 ∨ pIx c (sCells S).length = true) then (setHs S x.toNatClampNeg (((hAt S x).1.1, c, (hAt S x).1.2.2), (hAt S x).2), .inl (.int (hAt S x).1.2.1)) else (S, .inr 3)
def spMiss (S : SS) (x n : Int32) : SS × (Value ⊕ Nat) := if pIx x (sHs S).length = true then (if ¬ n < 0 ∧ n ≤ 1000 then (setHs S x.toNatClampNeg (((hAt S x).1.1, (hAt S x).1.2.1, (hAt S x).1.2.2.1 + n, (hAt S x).1.2.2.2), (hAt S x).2), .inl (.int ((hAt S x).1.2.2.1 + n))) else (S, .inr 0)) else (S, .inr 3)
def spLikes (S : SS) (x l : Int32) : SS × (Value ⊕ Nat) := if pIx x (sHs S).length = true then (if pLa l = true then (if (hAt S x).2.1.length = 3 then (S, .inr 1) else (setHs S x.toNatClampNeg ((hAt S x).1, (hAt S x).2.1 ++ [l], (hAt S x).2.2), .inl (.int (nI ((hAt S x).2.1.length + 1))))) else (S, .inr 0)) else (S, .inr 3)
set_option maxRecDepth 100000 in
set_option maxHeartbeats 4000000 in
theorem AW_line_ok {x : Int32} {w : Bool} (I : Inv F S ad A) (Wf : Wf S) (hgl : A.2.1 + 16 ≤ gL (gg u)) (hgs : A.2.2 + 400 ≤ gS (gg u)) : V (gg u) (d + 6) mm_AW_line 0 [some (.ref (ad 0 0)), some (.int x), some (.int (b2i w)), none] [] A (PubR F ad A (spLine S x w)) := by
  have h0 := I.aw
  obtain ⟨x1, h1, g1, e1, l1⟩ := I.top (κ := 1) (by omega)
  obtain ⟨x3, h3, g3, e3, l3⟩ := I.top (κ := 3) (by omega)
  subst e1 e3
  have w8 := Wf.2.2.1
  have w3 := Wf.2.2.2.2.1
  refine v_aload_n (dk cd_AW_line 0 rfl) rfl ?_
  refine v_iload_n (dk cd_AW_line 1 rfl) rfl ?_
  refine v_rv (r := ("AreaWarnings", TT_AW, 9)) (dk cd_AW_line 2 rfl) cv_AW_186 rfl (by repeat first | assumption | exact aset_same _ _ _ | refine (aset_ne _ _ (by first | assumption | exact Ne.symm (by assumption))).trans ?_) (as := [_]) rfl rfl (Nat.le_of_ble_eq_true rfl) (by simp [Value.category]) (AW_isCell_ok I) ?_
  refine v_ifneB (tgt := 16) (dk cd_AW_line 3 rfl) rfl (fun q5 => ?_) (fun q5 => ?_)
  · obtain ⟨i, hi, rfl⟩ := pIx_nat q5 (by omega)
    have hix : (nI i).toNatClampNeg = i := nI_clamp (by omega)
    obtain ⟨c, hc⟩ : ∃ c, (sCells S)[i]? = some c := ⟨_, List.getElem?_eq_getElem hi⟩
    have hca := cAt_nI hc (by omega)
    have h14 := I.cob hc
    have nn := I.ne (LV_top (S := S) (κ := 0) (by omega)) (LV_cell (κ := 14) (by omega) (by omega) hi) (Or.inl (by omega))
    have nn3 := I.ne (LV_top (S := S) (κ := 1) (by omega)) (LV_cell (κ := 14) (by omega) (by omega) hi) (Or.inl (by omega))
    refine v_aload_n (dk cd_AW_line 8 rfl) rfl ?_
    refine v_getf (dk cd_AW_line 9 rfl) fg_AW_15_AW (by repeat first | assumption | exact aset_same _ _ _ | refine (aset_ne _ _ (by first | assumption | exact Ne.symm (by assumption))).trans ?_) (by rfl) ?_
    refine v_iload_n (dk cd_AW_line 10 rfl) rfl ?_
    refine v_aaldN (j := 4) (dk cd_AW_line 11 rfl) (by repeat first | assumption | exact aset_same _ _ _ | refine (aset_ne _ _ (by first | assumption | exact Ne.symm (by assumption))).trans ?_) (by decide) rfl rfl (by omega) (rng_at hi) ?_
    refine v_getf (dk cd_AW_line 12 rfl) fg_AW_165_Ce (by repeat first | assumption | exact aset_same _ _ _ | refine (aset_ne _ _ (by first | assumption | exact Ne.symm (by assumption))).trans ?_) (by rfl) ?_
    refine v_istore_n (dk cd_AW_line 13 rfl) (by decide) rfl ?_
    refine v_aload_n (dk cd_AW_line 14 rfl) rfl ?_
    refine v_getf (dk cd_AW_line 15 rfl) fg_AW_15_AW (by repeat first | assumption | exact aset_same _ _ _ | refine (aset_ne _ _ (by first | assumption | exact Ne.symm (by assumption))).trans ?_) (by rfl) ?_
    refine v_iload_n (dk cd_AW_line 16 rfl) rfl ?_
    refine v_aaldN (j := 4) (dk cd_AW_line 17 rfl) (by repeat first | assumption | exact aset_same _ _ _ | refine (aset_ne _ _ (by first | assumption | exact Ne.symm (by assumption))).trans ?_) (by decide) rfl rfl (by omega) (rng_at hi) ?_
    refine v_iload_n (dk cd_AW_line 18 rfl) rfl ?_
    refine v_putf (dk cd_AW_line 19 rfl) fp_AW_165_Ce (fun h => by cases h) (by repeat first | assumption | exact aset_same _ _ _ | refine (aset_ne _ _ (by first | assumption | exact Ne.symm (by assumption))).trans ?_) (b2i_narrow _) (b2i_fits _) ?_
    refine v_iload_n (dk cd_AW_line 20 rfl) rfl ?_
    exact v_zretB (dk cd_AW_line 21 rfl) rfl (pub_ret (I.updCob (c' := (c.1, (w, c.2.1.2), c.2.2)) hc rfl rfl rfl) rfl (by simp [spLine, *]))
  · exact v_throw (ex := 3) (dk cd_AW_line 4 rfl) (dk cd_AW_line 5 rfl) (dk cd_AW_line 6 rfl) (dk cd_AW_line 7 rfl) rfl tw_193 rfl (by omega) (by omega) (by omega) (by simp) (pub_thr I (by simp [spLine, *]))
set_option maxRecDepth 100000 in
set_option maxHeartbeats 4000000 in
theorem AW_camp_ok {x c9 : Int32} (I : Inv F S ad A) (Wf : Wf S) (hgl : A.2.1 + 16 ≤ gL (gg u)) (hgs : A.2.2 + 400 ≤ gS (gg u)) : V (gg u) (d + 6) mm_AW_camp 0 [some (.ref (ad 0 0)), some (.int x), some (.int c9), none] [] A (PubR F ad A (spCamp S x c9)) := by
  have h0 := I.aw
  obtain ⟨x1, h1, g1, e1, l1⟩ := I.top (κ := 1) (by omega)
  obtain ⟨x3, h3, g3, e3, l3⟩ := I.top (κ := 3) (by omega)
  subst e1 e3
  have w8 := Wf.2.2.1
  have w3 := Wf.2.2.2.2.1
  refine v_aload_n (dk cd_AW_camp 0 rfl) rfl ?_
  refine v_iload_n (dk cd_AW_camp 1 rfl) rfl ?_
  refine v_rv (r := ("AreaWarnings", TT_AW, 9)) (dk cd_AW_camp 2 rfl) cv_AW_198 rfl (by repeat first | assumption | exact aset_same _ _ _ | refine (aset_ne _ _ (by first | assumption | exact Ne.symm (by assumption))).trans ?_) (as := [_]) rfl rfl (Nat.le_of_ble_eq_true rfl) (by simp [Value.category]) (AW_isHandset_ok I) ?_
  refine v_ifeqB (tgt := 21) (dk cd_AW_camp 3 rfl) rfl (fun q5 => ?_) (fun q5 => ?_)
  · exact v_throw (ex := 3) (dk cd_AW_camp 11 rfl) (dk cd_AW_camp 12 rfl) (dk cd_AW_camp 13 rfl) (dk cd_AW_camp 14 rfl) rfl tw_193 rfl (by omega) (by omega) (by omega) (by simp) (pub_thr I (by simp [spCamp, *]))
  · refine v_iload_n (dk cd_AW_camp 4 rfl) rfl ?_
    refine v_iconst (v := -1) (dk cd_AW_camp 5 rfl) (by decide) ?_
    refine v_icmp_eq (tgt := 29) (dk cd_AW_camp 6 rfl) rfl (fun q10 => ?_) (fun q10 => ?_)
    · obtain ⟨i, hi, rfl⟩ := pIx_nat q5 (by omega)
      have hix : (nI i).toNatClampNeg = i := nI_clamp (by omega)
      obtain ⟨c, hc⟩ : ∃ c, (sHs S)[i]? = some c := ⟨_, List.getElem?_eq_getElem hi⟩
      have hha := hAt_nI hc (by omega)
      have h23 := I.hob hc
      have nn := I.ne (LV_top (S := S) (κ := 0) (by omega)) (LV_hs (κ := 23) (by omega) (by omega) hi) (Or.inl (by omega))
      have nn3 := I.ne (LV_top (S := S) (κ := 3) (by omega)) (LV_hs (κ := 23) (by omega) (by omega) hi) (Or.inl (by omega))
      refine v_aload_n (dk cd_AW_camp 15 rfl) rfl ?_
      refine v_getf (dk cd_AW_camp 16 rfl) fg_AW_36_AW (by repeat first | assumption | exact aset_same _ _ _ | refine (aset_ne _ _ (by first | assumption | exact Ne.symm (by assumption))).trans ?_) (by rfl) ?_
      refine v_iload_n (dk cd_AW_camp 17 rfl) rfl ?_
      refine v_aaldN (j := 6) (dk cd_AW_camp 18 rfl) (by repeat first | assumption | exact aset_same _ _ _ | refine (aset_ne _ _ (by first | assumption | exact Ne.symm (by assumption))).trans ?_) (by decide) rfl rfl (by omega) (rng_at hi) ?_
      refine v_getf (dk cd_AW_camp 19 rfl) fg_AW_183_Ha (by repeat first | assumption | exact aset_same _ _ _ | refine (aset_ne _ _ (by first | assumption | exact Ne.symm (by assumption))).trans ?_) (by rfl) ?_
      refine v_istore_n (dk cd_AW_camp 20 rfl) (by decide) rfl ?_
      refine v_aload_n (dk cd_AW_camp 21 rfl) rfl ?_
      refine v_getf (dk cd_AW_camp 22 rfl) fg_AW_36_AW (by repeat first | assumption | exact aset_same _ _ _ | refine (aset_ne _ _ (by first | assumption | exact Ne.symm (by assumption))).trans ?_) (by rfl) ?_
      refine v_iload_n (dk cd_AW_camp 23 rfl) rfl ?_
      refine v_aaldN (j := 6) (dk cd_AW_camp 24 rfl) (by repeat first | assumption | exact aset_same _ _ _ | refine (aset_ne _ _ (by first | assumption | exact Ne.symm (by assumption))).trans ?_) (by decide) rfl rfl (by omega) (rng_at hi) ?_
      refine v_iload_n (dk cd_AW_camp 25 rfl) rfl ?_
      refine v_putf (dk cd_AW_camp 26 rfl) fp_AW_183_Ha (fun h => by cases h) (by repeat first | assumption | exact aset_same _ _ _ | refine (aset_ne _ _ (by first | assumption | exact Ne.symm (by assumption))).trans ?_) rfl rfl ?_
      refine v_iload_n (dk cd_AW_camp 27 rfl) rfl ?_
      exact v_iret (dk cd_AW_camp 28 rfl) rfl (pub_ret (I.updHob (c' := ((c.1.1, c9, c.1.2.2), c.2)) hc rfl rfl) rfl (by simp [spCamp, *]))
    · refine v_aload_n (dk cd_AW_camp 7 rfl) rfl ?_
      refine v_iload_n (dk cd_AW_camp 8 rfl) rfl ?_
      refine v_rv (r := ("AreaWarnings", TT_AW, 9)) (dk cd_AW_camp 9 rfl) cv_AW_186 rfl (by repeat first | assumption | exact aset_same _ _ _ | refine (aset_ne _ _ (by first | assumption | exact Ne.symm (by assumption))).trans ?_) (as := [_]) rfl rfl (Nat.le_of_ble_eq_true rfl) (by simp [Value.category]) (AW_isCell_ok I) ?_
      refine v_ifneB (tgt := 29) (dk cd_AW_camp 10 rfl) rfl (fun q18 => ?_) (fun q18 => ?_)
      · obtain ⟨i, hi, rfl⟩ := pIx_nat q5 (by omega)
        have hix : (nI i).toNatClampNeg = i := nI_clamp (by omega)
        obtain ⟨c, hc⟩ : ∃ c, (sHs S)[i]? = some c := ⟨_, List.getElem?_eq_getElem hi⟩
        have hha := hAt_nI hc (by omega)
        have h23 := I.hob hc
        have nn := I.ne (LV_top (S := S) (κ := 0) (by omega)) (LV_hs (κ := 23) (by omega) (by omega) hi) (Or.inl (by omega))
        have nn3 := I.ne (LV_top (S := S) (κ := 3) (by omega)) (LV_hs (κ := 23) (by omega) (by omega) hi) (Or.inl (by omega))
        refine v_aload_n (dk cd_AW_camp 15 rfl) rfl ?_
        refine v_getf (dk cd_AW_camp 16 rfl) fg_AW_36_AW (by repeat first | assumption | exact aset_same _ _ _ | refine (aset_ne _ _ (by first | assumption | exact Ne.symm (by assumption))).trans ?_) (by rfl) ?_
        refine v_iload_n (dk cd_AW_camp 17 rfl) rfl ?_
        refine v_aaldN (j := 6) (dk cd_AW_camp 18 rfl) (by repeat first | assumption | exact aset_same _ _ _ | refine (aset_ne _ _ (by first | assumption | exact Ne.symm (by assumption))).trans ?_) (by decide) rfl rfl (by omega) (rng_at hi) ?_
        refine v_getf (dk cd_AW_camp 19 rfl) fg_AW_183_Ha (by repeat first | assumption | exact aset_same _ _ _ | refine (aset_ne _ _ (by first | assumption | exact Ne.symm (by assumption))).trans ?_) (by rfl) ?_
        refine v_istore_n (dk cd_AW_camp 20 rfl) (by decide) rfl ?_
        refine v_aload_n (dk cd_AW_camp 21 rfl) rfl ?_
        refine v_getf (dk cd_AW_camp 22 rfl) fg_AW_36_AW (by repeat first | assumption | exact aset_same _ _ _ | refine (aset_ne _ _ (by first | assumption | exact Ne.symm (by assumption))).trans ?_) (by rfl) ?_
        refine v_iload_n (dk cd_AW_camp 23 rfl) rfl ?_
        refine v_aaldN (j := 6) (dk cd_AW_camp 24 rfl) (by repeat first | assumption | exact aset_same _ _ _ | refine (aset_ne _ _ (by first | assumption | exact Ne.symm (by assumption))).trans ?_) (by decide) rfl rfl (by omega) (rng_at hi) ?_
        refine v_iload_n (dk cd_AW_camp 25 rfl) rfl ?_
        refine v_putf (dk cd_AW_camp 26 rfl) fp_AW_183_Ha (fun h => by cases h) (by repeat first | assumption | exact aset_same _ _ _ | refine (aset_ne _ _ (by first | assumption | exact Ne.symm (by assumption))).trans ?_) rfl rfl ?_
        refine v_iload_n (dk cd_AW_camp 27 rfl) rfl ?_
        exact v_iret (dk cd_AW_camp 28 rfl) rfl (pub_ret (I.updHob (c' := ((c.1.1, c9, c.1.2.2), c.2)) hc rfl rfl) rfl (by simp [spCamp, *]))
      · exact v_throw (ex := 3) (dk cd_AW_camp 11 rfl) (dk cd_AW_camp 12 rfl) (dk cd_AW_camp 13 rfl) (dk cd_AW_camp 14 rfl) rfl tw_193 rfl (by omega) (by omega) (by omega) (by simp) (pub_thr I (by simp [spCamp, *]))
set_option maxRecDepth 100000 in
set_option maxHeartbeats 4000000 in
theorem AW_miss_ok {x n : Int32} (I : Inv F S ad A) (Wf : Wf S) (hgl : A.2.1 + 16 ≤ gL (gg u)) (hgs : A.2.2 + 400 ≤ gS (gg u)) : V (gg u) (d + 6) mm_AW_miss 0 [some (.ref (ad 0 0)), some (.int x), some (.int n)] [] A (PubR F ad A (spMiss S x n)) := by
  have h0 := I.aw
  obtain ⟨x1, h1, g1, e1, l1⟩ := I.top (κ := 1) (by omega)
  obtain ⟨x3, h3, g3, e3, l3⟩ := I.top (κ := 3) (by omega)
  subst e1 e3
  have w8 := Wf.2.2.1
  have w3 := Wf.2.2.2.2.1
  refine v_aload_n (dk cd_AW_miss 0 rfl) rfl ?_
  refine v_iload_n (dk cd_AW_miss 1 rfl) rfl ?_
  refine v_rv (r := ("AreaWarnings", TT_AW, 9)) (dk cd_AW_miss 2 rfl) cv_AW_198 rfl (by repeat first | assumption | exact aset_same _ _ _ | refine (aset_ne _ _ (by first | assumption | exact Ne.symm (by assumption))).trans ?_) (as := [_]) rfl rfl (Nat.le_of_ble_eq_true rfl) (by simp [Value.category]) (AW_isHandset_ok I) ?_
  refine v_ifneB (tgt := 16) (dk cd_AW_miss 3 rfl) rfl (fun q5 => ?_) (fun q5 => ?_)
  · refine v_iload_n (dk cd_AW_miss 8 rfl) rfl ?_
    refine v_if_lt (tgt := 27) (dk cd_AW_miss 9 rfl) rfl (fun q17 => ?_) (fun q17 => ?_)
    · exact v_throw (ex := 0) (dk cd_AW_miss 13 rfl) (dk cd_AW_miss 14 rfl) (dk cd_AW_miss 15 rfl) (dk cd_AW_miss 16 rfl) rfl tw_54 rfl (by omega) (by omega) (by omega) (by simp) (pub_thr I (by simp [spMiss, *]))
    · refine v_iload_n (dk cd_AW_miss 10 rfl) rfl ?_
      refine v_sipush (v := 1000) (dk cd_AW_miss 11 rfl) (by decide) ?_
      refine v_icmp_le (tgt := 35) (dk cd_AW_miss 12 rfl) rfl (fun q24 => ?_) (fun q24 => ?_)
      · obtain ⟨i, hi, rfl⟩ := pIx_nat q5 (by omega)
        have hix : (nI i).toNatClampNeg = i := nI_clamp (by omega)
        obtain ⟨c, hc⟩ : ∃ c, (sHs S)[i]? = some c := ⟨_, List.getElem?_eq_getElem hi⟩
        have hha := hAt_nI hc (by omega)
        have h23 := I.hob hc
        have nn := I.ne (LV_top (S := S) (κ := 0) (by omega)) (LV_hs (κ := 23) (by omega) (by omega) hi) (Or.inl (by omega))
        have nn3 := I.ne (LV_top (S := S) (κ := 3) (by omega)) (LV_hs (κ := 23) (by omega) (by omega) hi) (Or.inl (by omega))
        refine v_aload_n (dk cd_AW_miss 17 rfl) rfl ?_
        refine v_getf (dk cd_AW_miss 18 rfl) fg_AW_36_AW (by repeat first | assumption | exact aset_same _ _ _ | refine (aset_ne _ _ (by first | assumption | exact Ne.symm (by assumption))).trans ?_) (by rfl) ?_
        refine v_iload_n (dk cd_AW_miss 19 rfl) rfl ?_
        refine v_aaldN (j := 6) (dk cd_AW_miss 20 rfl) (by repeat first | assumption | exact aset_same _ _ _ | refine (aset_ne _ _ (by first | assumption | exact Ne.symm (by assumption))).trans ?_) (by decide) rfl rfl (by omega) (rng_at hi) ?_
        refine v_dup (dk cd_AW_miss 21 rfl) rfl ?_
        refine v_getf (dk cd_AW_miss 22 rfl) fg_AW_208_Ha (by repeat first | assumption | exact aset_same _ _ _ | refine (aset_ne _ _ (by first | assumption | exact Ne.symm (by assumption))).trans ?_) (by rfl) ?_
        refine v_iload_n (dk cd_AW_miss 23 rfl) rfl ?_
        refine v_iadd (dk cd_AW_miss 24 rfl) ?_
        refine v_putf (dk cd_AW_miss 25 rfl) fp_AW_208_Ha (fun h => by cases h) (by repeat first | assumption | exact aset_same _ _ _ | refine (aset_ne _ _ (by first | assumption | exact Ne.symm (by assumption))).trans ?_) rfl rfl ?_
        refine v_aload_n (dk cd_AW_miss 26 rfl) rfl ?_
        refine v_getf (dk cd_AW_miss 27 rfl) fg_AW_36_AW (by repeat first | assumption | exact aset_same _ _ _ | refine (aset_ne _ _ (by first | assumption | exact Ne.symm (by assumption))).trans ?_) (by rfl) ?_
        refine v_iload_n (dk cd_AW_miss 28 rfl) rfl ?_
        refine v_aaldN (j := 6) (dk cd_AW_miss 29 rfl) (by repeat first | assumption | exact aset_same _ _ _ | refine (aset_ne _ _ (by first | assumption | exact Ne.symm (by assumption))).trans ?_) (by decide) rfl rfl (by omega) (rng_at hi) ?_
        refine v_getf (dk cd_AW_miss 30 rfl) fg_AW_208_Ha (by repeat first | assumption | exact aset_same _ _ _ | refine (aset_ne _ _ (by first | assumption | exact Ne.symm (by assumption))).trans ?_) (by rfl) ?_
        exact v_iret (dk cd_AW_miss 31 rfl) rfl (pub_ret (I.updHob (c' := ((c.1.1, c.1.2.1, c.1.2.2.1 + n, c.1.2.2.2), c.2)) hc rfl rfl) rfl (by simp [spMiss, *]))
      · exact v_throw (ex := 0) (dk cd_AW_miss 13 rfl) (dk cd_AW_miss 14 rfl) (dk cd_AW_miss 15 rfl) (dk cd_AW_miss 16 rfl) rfl tw_54 rfl (by omega) (by omega) (by omega) (by simp) (pub_thr I (by simp [spMiss, *]))
  · exact v_throw (ex := 3) (dk cd_AW_miss 4 rfl) (dk cd_AW_miss 5 rfl) (dk cd_AW_miss 6 rfl) (dk cd_AW_miss 7 rfl) rfl tw_193 rfl (by omega) (by omega) (by omega) (by simp) (pub_thr I (by simp [spMiss, *]))
set_option maxRecDepth 100000 in
set_option maxHeartbeats 4000000 in
theorem Ha_addLiked_ok {i : Nat} {c : HaS} {l : Int32} (I : Inv F S ad A) (hc : (sHs S)[i]? = some c) (h3 : c.2.1.length < 3) : V (gg u) d mm_Ha_addLiked 0 [some (.ref (ad 23 i)), some (.int l)] [] A (Ps (some (.int (nI (c.2.1.length + 1)))) F (setHs S i (c.1, c.2.1 ++ [l], c.2.2)) ad A) := by
  have hi := (List.getElem?_eq_some_iff.mp hc).1
  have h23 := I.hob hc
  obtain ⟨x24, h24, g24, e24, l24⟩ := I.hs (κ := 24) (by omega) (by omega) hc
  subst e24
  have nn := I.ne (LV_hs (S := S) (κ := 23) (by omega) (by omega) hi) (LV_hs (κ := 24) (by omega) (by omega) hi) (Or.inl (by omega))
  simp only [List.length_map] at l24
  refine v_aload_n (dk cd_Ha_addLiked 0 rfl) rfl ?_
  refine v_getf (dk cd_Ha_addLiked 1 rfl) fg_Ha_15_Ha (by repeat first | assumption | exact aset_same _ _ _ | refine (aset_ne _ _ (by first | assumption | exact Ne.symm (by assumption))).trans ?_) (by rfl) ?_
  refine v_aload_n (dk cd_Ha_addLiked 2 rfl) rfl ?_
  refine v_getf (dk cd_Ha_addLiked 3 rfl) fg_Ha_19_Ha (by repeat first | assumption | exact aset_same _ _ _ | refine (aset_ne _ _ (by first | assumption | exact Ne.symm (by assumption))).trans ?_) (by rfl) ?_
  refine v_iload_n (dk cd_Ha_addLiked 4 rfl) rfl ?_
  refine v_iastN (j := 0) (dk cd_Ha_addLiked 5 rfl) (by repeat first | assumption | exact aset_same _ _ _ | refine (aset_ne _ _ (by first | assumption | exact Ne.symm (by assumption))).trans ?_) (by decide) rfl (by omega) (by rw [List.length_append, List.length_map]; omega) ?_
  refine v_aload_n (dk cd_Ha_addLiked 6 rfl) rfl ?_
  refine v_dup (dk cd_Ha_addLiked 7 rfl) rfl ?_
  refine v_getf (dk cd_Ha_addLiked 8 rfl) fg_Ha_19_Ha (by repeat first | assumption | exact aset_same _ _ _ | refine (aset_ne _ _ (by first | assumption | exact Ne.symm (by assumption))).trans ?_) (by rfl) ?_
  refine v_iconst (v := nI 1) (dk cd_Ha_addLiked 9 rfl) (by decide) ?_
  refine v_iaddN (dk cd_Ha_addLiked 10 rfl) ?_
  refine v_putf (dk cd_Ha_addLiked 11 rfl) fp_Ha_19_Ha (fun h => by cases h) (by repeat first | assumption | exact aset_same _ _ _ | refine (aset_ne _ _ (by first | assumption | exact Ne.symm (by assumption))).trans ?_) rfl rfl ?_
  refine v_aload_n (dk cd_Ha_addLiked 12 rfl) rfl ?_
  refine v_getf (dk cd_Ha_addLiked 13 rfl) fg_Ha_19_Ha (by repeat first | assumption | exact aset_same _ _ _ | refine (aset_ne _ _ (by first | assumption | exact Ne.symm (by assumption))).trans ?_) (by rfl) ?_
  refine v_iret (dk cd_Ha_addLiked 14 rfl) rfl (ps_of (I.updHs hi rfl (fun q hq => ?_) (fun κ h1 h2 => ?_)) rfl rfl)
  · rw [aset_ne _ _ (hq 23 (by omega) (by omega)), aset_ne _ _ (hq 24 (by omega) (by omega))]
  · by_cases k3 : κ = 23
    · subst k3
      exact ⟨_, aset_same _ _ _, by simp [CHs]⟩
    by_cases k4 : κ = 24
    · subst k4
      refine ⟨_, (aset_ne _ _ (Ne.symm nn)).trans (aset_same _ _ _), ?_⟩
      have h9 := ArG.app (k := 100) (v := .int l) (show (c.2.1.map fun b => Value.int b).length + g24.length = 3 by simpa using l24) (by simpa using h3)
      simpa [CHs] using h9
    · obtain ⟨xx, hh1, hh2⟩ := I.hs (κ := κ) h1 h2 hc
      refine ⟨xx, ?_, ?_⟩
      · rw [aset_ne _ _ (I.ne (LV_hs h1 h2 hi) (LV_hs (κ := 23) (by omega) (by omega) hi) (Or.inl k3)), aset_ne _ _ (I.ne (LV_hs h1 h2 hi) (LV_hs (κ := 24) (by omega) (by omega) hi) (Or.inl k4))]
        exact hh1
      · unfold CHs at hh2 ⊢
        have hk : κ = 25 ∨ κ = 26 ∨ κ = 27 ∨ κ = 28 ∨ κ = 29 ∨ κ = 30 := by omega
        rcases hk with rfl | rfl | rfl | rfl | rfl | rfl <;> exact hh2
set_option maxRecDepth 100000 in
set_option maxHeartbeats 4000000 in
theorem AW_likes_ok {x l : Int32} (I : Inv F S ad A) (Wf : Wf S) (hgl : A.2.1 + 16 ≤ gL (gg u)) (hgs : A.2.2 + 400 ≤ gS (gg u)) (hl3 : ∀ (i : Nat) (h : HaS), (sHs S)[i]? = some h → h.2.1.length ≤ 3) : V (gg u) (d + 6) mm_AW_likes 0 [some (.ref (ad 0 0)), some (.int x), some (.int l)] [] A (PubR F ad A (spLikes S x l)) := by
  have h0 := I.aw
  obtain ⟨x1, h1, g1, e1, l1⟩ := I.top (κ := 1) (by omega)
  obtain ⟨x3, h3, g3, e3, l3⟩ := I.top (κ := 3) (by omega)
  subst e1 e3
  have w8 := Wf.2.2.1
  have w3 := Wf.2.2.2.2.1
  refine v_aload_n (dk cd_AW_likes 0 rfl) rfl ?_
  refine v_iload_n (dk cd_AW_likes 1 rfl) rfl ?_
  refine v_rv (r := ("AreaWarnings", TT_AW, 9)) (dk cd_AW_likes 2 rfl) cv_AW_198 rfl (by repeat first | assumption | exact aset_same _ _ _ | refine (aset_ne _ _ (by first | assumption | exact Ne.symm (by assumption))).trans ?_) (as := [_]) rfl rfl (Nat.le_of_ble_eq_true rfl) (by simp [Value.category]) (AW_isHandset_ok I) ?_
  refine v_ifneB (tgt := 16) (dk cd_AW_likes 3 rfl) rfl (fun q5 => ?_) (fun q5 => ?_)
  · refine v_iload_n (dk cd_AW_likes 8 rfl) rfl ?_
    refine v_rs (dk cd_AW_likes 9 rfl) cs_AW_89 (as := [_]) rfl rfl (Nat.le_of_ble_eq_true rfl) (by simp [Value.category]) AW_isLanguage_ok ?_
    refine v_ifneB (tgt := 31) (dk cd_AW_likes 10 rfl) rfl (fun q20 => ?_) (fun q20 => ?_)
    · obtain ⟨i, hi, rfl⟩ := pIx_nat q5 (by omega)
      have hix : (nI i).toNatClampNeg = i := nI_clamp (by omega)
      obtain ⟨c, hc⟩ : ∃ c, (sHs S)[i]? = some c := ⟨_, List.getElem?_eq_getElem hi⟩
      have hha := hAt_nI hc (by omega)
      have h23 := I.hob hc
      have hl9 := hl3 _ _ hc
      refine v_aload_n (dk cd_AW_likes 15 rfl) rfl ?_
      refine v_getf (dk cd_AW_likes 16 rfl) fg_AW_36_AW (by repeat first | assumption | exact aset_same _ _ _ | refine (aset_ne _ _ (by first | assumption | exact Ne.symm (by assumption))).trans ?_) (by rfl) ?_
      refine v_iload_n (dk cd_AW_likes 17 rfl) rfl ?_
      refine v_aaldN (j := 6) (dk cd_AW_likes 18 rfl) (by repeat first | assumption | exact aset_same _ _ _ | refine (aset_ne _ _ (by first | assumption | exact Ne.symm (by assumption))).trans ?_) (by decide) rfl rfl (by omega) (rng_at hi) ?_
      refine v_getf (dk cd_AW_likes 19 rfl) fg_AW_201_Ha (by repeat first | assumption | exact aset_same _ _ _ | refine (aset_ne _ _ (by first | assumption | exact Ne.symm (by assumption))).trans ?_) (by rfl) ?_
      refine v_iconst (v := nI 3) (dk cd_AW_likes 20 rfl) (by decide) ?_
      refine v_icmp_neN (tgt := 52) (dk cd_AW_likes 21 rfl) rfl (by omega) (by omega) (fun q41 => ?_) (fun q41 => ?_)
      · refine v_aload_n (dk cd_AW_likes 26 rfl) rfl ?_
        refine v_getf (dk cd_AW_likes 27 rfl) fg_AW_36_AW (by repeat first | assumption | exact aset_same _ _ _ | refine (aset_ne _ _ (by first | assumption | exact Ne.symm (by assumption))).trans ?_) (by rfl) ?_
        refine v_iload_n (dk cd_AW_likes 28 rfl) rfl ?_
        refine v_aaldN (j := 6) (dk cd_AW_likes 29 rfl) (by repeat first | assumption | exact aset_same _ _ _ | refine (aset_ne _ _ (by first | assumption | exact Ne.symm (by assumption))).trans ?_) (by decide) rfl rfl (by omega) (rng_at hi) ?_
        refine v_iload_n (dk cd_AW_likes 30 rfl) rfl ?_
        refine v_callv (r := ("AreaWarnings$Handset", TT_Ha, 13)) (dk cd_AW_likes 31 rfl) cv_AW_204 rfl (by repeat first | assumption | exact aset_same _ _ _ | refine (aset_ne _ _ (by first | assumption | exact Ne.symm (by assumption))).trans ?_) (as := [_]) rfl rfl (Nat.le_of_ble_eq_true rfl) (by simp [Value.category]) (Ha_addLiked_ok I hc (by omega)) ps_no (fun v9 A9 hq => ?_)
        obtain ⟨e9, I, hA2⟩ := hq
        cases e9
        exact v_iret (dk cd_AW_likes 32 rfl) rfl (pub_ret I hA2 (by simp [spLikes, *]))
      · exact v_throw (ex := 1) (dk cd_AW_likes 22 rfl) (dk cd_AW_likes 23 rfl) (dk cd_AW_likes 24 rfl) (dk cd_AW_likes 25 rfl) rfl tw_57 rfl (by omega) (by omega) (by omega) (by simp) (pub_thr I (by simp [spLikes, *]))
    · exact v_throw (ex := 0) (dk cd_AW_likes 11 rfl) (dk cd_AW_likes 12 rfl) (dk cd_AW_likes 13 rfl) (dk cd_AW_likes 14 rfl) rfl tw_54 rfl (by omega) (by omega) (by omega) (by simp) (pub_thr I (by simp [spLikes, *]))
  · exact v_throw (ex := 3) (dk cd_AW_likes 4 rfl) (dk cd_AW_likes 5 rfl) (dk cd_AW_likes 6 rfl) (dk cd_AW_likes 7 rfl) rfl tw_193 rfl (by omega) (by omega) (by omega) (by simp) (pub_thr I (by simp [spLikes, *]))
end W3
