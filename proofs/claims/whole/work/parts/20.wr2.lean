/-! the rest of what is typed; corner, text, clear -/
section W2
variable {u : Ux} {d : Nat} {A : AH} {F : Nat → Option AC} {S : SS} {ad : Nat → Nat → Nat}
theorem ArG.less {k n : Nat} {l : List Value} {x : AC} (h : ArG k n l x) : ArG k n [] x := by
  obtain ⟨gb, h1, h2⟩ := h
  exact ⟨l ++ gb, by simpa using h1, by simpa using h2⟩
theorem CMsg_row {m : Pts × Tx} {i l : Nat} {x : AC} (hl : l < 3) : CMsg m ad i (10 + l) x ↔ ArG 100 30 ((m.2.getD l []).map fun b => .int b) x := by
  have h3 : l = 0 ∨ l = 1 ∨ l = 2 := by omega
  rcases h3 with rfl | rfl | rfl <;> exact Iff.rfl
theorem row3 {i l : Nat} (hl : l < 3) : ([.ref (ad 10 i), .ref (ad 11 i), .ref (ad 12 i)] : List Value)[l]? = some (.ref (ad (10 + l) i)) := by
  have h3 : l = 0 ∨ l = 1 ∨ l = 2 := by omega
  rcases h3 with rfl | rfl | rfl <;> rfl
theorem CMsg_ar {a : Pts} {t t' : Tx} {i κ : Nat} {x : AC} (h : CMsg (a, t) ad i κ x) (h4 : 4 ≤ κ) (h5 : κ < 10) : CMsg (a, t') ad i κ x := by
  unfold CMsg at h ⊢
  split <;> simp_all
  omega
set_option maxRecDepth 100000 in
set_option maxHeartbeats 4000000 in
theorem Ar_dropCorners_ok {a : Pts} {t : Tx} (I : Inv F S ad A) (hm : sTyped S = (a, t)) : V (gg u) d mm_Ar_dropCorners 0 [some (.ref (ad 5 99))] [] A (Ps none F (setTy S ([], t)) ad A) := by
  have hty := msg_ty (S := S)
  rw [hm] at hty
  obtain ⟨x5, h5, e5⟩ := I.msg (κ := 5) (by omega) (by omega) (by omega) hty
  have e5 : x5 = _ := e5
  subst e5
  refine v_aload_n (dk cd_Ar_dropCorners 0 rfl) rfl ?_
  refine v_iconst (v := nI 0) (dk cd_Ar_dropCorners 1 rfl) (by decide) ?_
  refine v_putf (dk cd_Ar_dropCorners 2 rfl) fp_Ar_18_Ar (fun h => by cases h) (by repeat first | assumption | exact aset_same _ _ _ | refine (aset_ne _ _ (by first | assumption | exact Ne.symm (by assumption))).trans ?_) rfl rfl ?_
  refine v_vret (dk cd_Ar_dropCorners 3 rfl) rfl (ps_of (I.updTy rfl (fun q hq => ?_) (fun κ h1 h2 => ?_)) rfl rfl)
  · rw [aset_ne _ _ (hq 5 (by omega) (by omega))]
  · by_cases k5 : κ = 5
    · subst k5
      exact ⟨_, aset_same _ _ _, by simp [CMsg]⟩
    obtain ⟨xx, hh1, hh2⟩ := I.msg (κ := κ) h1 h2 (fun _ => rfl) hty
    refine ⟨xx, ?_, ?_⟩
    · rw [aset_ne _ _ (I.ne (LV_msg h1 h2) (LV_msg (κ := 5) (by omega) (by omega)) (Or.inl k5))]
      exact hh1
    · by_cases k6 : κ = 6
      · subst k6
        exact ArG.less hh2
      by_cases k7 : κ = 7
      · subst k7
        exact ArG.less hh2
      exact CMsg_tx hh2 k5 k6 k7
set_option maxRecDepth 100000 in
set_option maxHeartbeats 4000000 in
theorem Te_addByte_ok {l : Nat} {v : Int32} {a : Pts} {t : Tx} (I : Inv F S ad A) (hm : sTyped S = (a, t)) (h3 : t.length = 3) (hl : l < 3) (h30 : tl t l < 30) : V (gg u) d mm_Te_addByte 0 [some (.ref (ad 8 99)), some (.int (nI l)), some (.int v)] [] A (Ps (some (.int (nI (tl t l + 1)))) F (setTy S (a, t.set l (t.getD l [] ++ [v]))) ad A) := by
  have hty := msg_ty (S := S)
  rw [hm] at hty
  obtain ⟨x8, h8, e8⟩ := I.msg (κ := 8) (by omega) (by omega) (by omega) hty
  obtain ⟨x9, h9, e9⟩ := I.msg (κ := 9) (by omega) (by omega) (by omega) hty
  obtain ⟨x13, h13, e13⟩ := I.msg (κ := 13) (by omega) (by omega) (by omega) hty
  obtain ⟨xr, hr, er⟩ := I.msg (κ := 10 + l) (by omega) (by omega) (by omega) hty
  obtain ⟨gr, er, lr⟩ := (CMsg_row hl).mp er
  have e8 : x8 = _ := e8
  have e9 : x9 = _ := e9
  have e13 : x13 = _ := e13
  subst e8 e9 e13 er
  simp only at h8 h9 h13 hr lr
  have n1 := I.ne (LV_msg (S := S) (κ := 8) (by omega) (by omega)) (LV_msg (κ := 10 + l) (by omega) (by omega)) (Or.inl (by omega))
  have n2 := I.ne (LV_msg (S := S) (κ := 8) (by omega) (by omega)) (LV_msg (κ := 13) (by omega) (by omega)) (Or.inl (by omega))
  have n3 := I.ne (LV_msg (S := S) (κ := 13) (by omega) (by omega)) (LV_msg (κ := 10 + l) (by omega) (by omega)) (Or.inl (by omega))
  have ht := tl_at h3 hl
  have hlen : tl t l = (t.getD l []).length := rfl
  have hgr : (t.getD l []).length + gr.length = 30 := by simpa using lr
  refine v_aload_n (dk cd_Te_addByte 0 rfl) rfl ?_
  refine v_getf (dk cd_Te_addByte 1 rfl) fg_Te_11_Te (by repeat first | assumption | exact aset_same _ _ _ | refine (aset_ne _ _ (by first | assumption | exact Ne.symm (by assumption))).trans ?_) (by rfl) ?_
  refine v_iload_n (dk cd_Te_addByte 2 rfl) rfl ?_
  refine v_aaldN (j := 3) (dk cd_Te_addByte 3 rfl) (by repeat first | assumption | exact aset_same _ _ _ | refine (aset_ne _ _ (by first | assumption | exact Ne.symm (by assumption))).trans ?_) (by decide) rfl rfl (by omega) (by first | exact ht | exact row3 hl | (rw [List.length_append, List.length_map]; omega) | (rw [List.length_map]; omega) | (simp; omega) | (rw [List.getElem?_set_self (by simp; omega)])) ?_
  refine v_aload_n (dk cd_Te_addByte 4 rfl) rfl ?_
  refine v_getf (dk cd_Te_addByte 5 rfl) fg_Te_16_Te (by repeat first | assumption | exact aset_same _ _ _ | refine (aset_ne _ _ (by first | assumption | exact Ne.symm (by assumption))).trans ?_) (by rfl) ?_
  refine v_iload_n (dk cd_Te_addByte 6 rfl) rfl ?_
  refine v_ialdN (j := 0) (dk cd_Te_addByte 7 rfl) (by repeat first | assumption | exact aset_same _ _ _ | refine (aset_ne _ _ (by first | assumption | exact Ne.symm (by assumption))).trans ?_) (by decide) rfl (by omega) (by first | exact ht | exact row3 hl | (rw [List.length_append, List.length_map]; omega) | (rw [List.length_map]; omega) | (simp; omega) | (rw [List.getElem?_set_self (by simp; omega)])) ?_
  refine v_iload_n (dk cd_Te_addByte 8 rfl) rfl ?_
  refine v_iastN (j := 0) (dk cd_Te_addByte 9 rfl) (by repeat first | assumption | exact aset_same _ _ _ | refine (aset_ne _ _ (by first | assumption | exact Ne.symm (by assumption))).trans ?_) (by decide) rfl (by omega) (by first | exact ht | exact row3 hl | (rw [List.length_append, List.length_map]; omega) | (rw [List.length_map]; omega) | (simp; omega) | (rw [List.getElem?_set_self (by simp; omega)])) ?_
  refine v_aload_n (dk cd_Te_addByte 10 rfl) rfl ?_
  refine v_getf (dk cd_Te_addByte 11 rfl) fg_Te_16_Te (by repeat first | assumption | exact aset_same _ _ _ | refine (aset_ne _ _ (by first | assumption | exact Ne.symm (by assumption))).trans ?_) (by rfl) ?_
  refine v_iload_n (dk cd_Te_addByte 12 rfl) rfl ?_
  refine v_dup2 (dk cd_Te_addByte 13 rfl) rfl rfl ?_
  refine v_ialdN (j := 0) (dk cd_Te_addByte 14 rfl) (by repeat first | assumption | exact aset_same _ _ _ | refine (aset_ne _ _ (by first | assumption | exact Ne.symm (by assumption))).trans ?_) (by decide) rfl (by omega) (by first | exact ht | exact row3 hl | (rw [List.length_append, List.length_map]; omega) | (rw [List.length_map]; omega) | (simp; omega) | (rw [List.getElem?_set_self (by simp; omega)])) ?_
  refine v_iconst (v := nI 1) (dk cd_Te_addByte 15 rfl) (by decide) ?_
  refine v_iaddN (dk cd_Te_addByte 16 rfl) ?_
  refine v_iastN (j := 0) (dk cd_Te_addByte 17 rfl) (by repeat first | assumption | exact aset_same _ _ _ | refine (aset_ne _ _ (by first | assumption | exact Ne.symm (by assumption))).trans ?_) (by decide) rfl (by omega) (by first | exact ht | exact row3 hl | (rw [List.length_append, List.length_map]; omega) | (rw [List.length_map]; omega) | (simp; omega) | (rw [List.getElem?_set_self (by simp; omega)])) ?_
  refine v_aload_n (dk cd_Te_addByte 18 rfl) rfl ?_
  refine v_getf (dk cd_Te_addByte 19 rfl) fg_Te_16_Te (by repeat first | assumption | exact aset_same _ _ _ | refine (aset_ne _ _ (by first | assumption | exact Ne.symm (by assumption))).trans ?_) (by rfl) ?_
  refine v_iload_n (dk cd_Te_addByte 20 rfl) rfl ?_
  refine v_ialdN (j := 0) (dk cd_Te_addByte 21 rfl) (by repeat first | assumption | exact aset_same _ _ _ | refine (aset_ne _ _ (by first | assumption | exact Ne.symm (by assumption))).trans ?_) (by decide) rfl (by omega) (by first | exact ht | exact row3 hl | (rw [List.length_append, List.length_map]; omega) | (rw [List.length_map]; omega) | (simp; omega) | (rw [List.getElem?_set_self (by simp; omega)])) ?_
  refine v_iret (dk cd_Te_addByte 22 rfl) rfl (ps_of (I.updTy rfl (fun q hq => ?_) (fun κ h1 h2 => ?_)) rfl rfl)
  · rw [aset_ne _ _ (hq 13 (by omega) (by omega)), aset_ne _ _ (hq (10 + l) (by omega) (by omega))]
  · by_cases k13 : κ = 13
    · subst k13
      refine ⟨_, aset_same _ _ _, ?_⟩
      show _ = (100, (t.set l (t.getD l [] ++ [v])).map fun t => Value.int (nI t.length))
      rw [List.map_set]
      simp [hlen]
    by_cases kr : κ = 10 + l
    · subst kr
      refine ⟨_, (aset_ne _ _ (Ne.symm n3)).trans (aset_same _ _ _), (CMsg_row hl).mpr ?_⟩
      have h9 := ArG.app (k := 100) (v := .int v) (show ((t.getD l []).map fun b => Value.int b).length + gr.length = 30 by simpa using hgr) (by simpa [hlen] using h30)
      have e9 : (t.set l (t.getD l [] ++ [v])).getD l [] = t.getD l [] ++ [v] := by simp [List.getD, h3, hl]
      simp only [e9, List.map_append, List.map_cons, List.map_nil]
      simpa [hlen] using h9
    · obtain ⟨xx, hh1, hh2⟩ := I.msg (κ := κ) h1 h2 (fun _ => rfl) hty
      refine ⟨xx, ?_, ?_⟩
      · rw [aset_ne _ _ (I.ne (LV_msg h1 h2) (LV_msg (κ := 13) (by omega) (by omega)) (Or.inl k13)), aset_ne _ _ (I.ne (LV_msg h1 h2) (LV_msg (κ := 10 + l) (by omega) (by omega)) (Or.inl kr))]
        exact hh1
      · by_cases k10 : κ < 10
        · exact CMsg_ar hh2 h1 k10
        · obtain ⟨j, rfl⟩ : ∃ j, κ = 10 + j := ⟨κ - 10, by omega⟩
          have hj : j < 3 := by omega
          have hne : l ≠ j := by omega
          have e9 : (t.set l (t.getD l [] ++ [v])).getD j [] = t.getD j [] := by simp [List.getD, hne]
          refine (CMsg_row hj).mpr ?_
          simp only [e9]
          exact (CMsg_row hj).mp hh2
def dropK (t : Tx) (k : Nat) : Tx := List.replicate k [] ++ t.drop k
theorem dropK_set {t : Tx} {k : Nat} (h : k < t.length) : (dropK t k).set k [] = dropK t (k + 1) := by
  unfold dropK
  rw [List.set_append_right _ _ (by simp)]
  simp only [List.length_replicate, Nat.sub_self]
  rw [List.drop_eq_getElem_cons h, List.set_cons_zero, List.replicate_succ', List.append_assoc]
  rfl
theorem dropK_len {t : Tx} {k : Nat} (h : k ≤ t.length) : (dropK t k).length = t.length := by simp [dropK]; omega
theorem setTy_setTy (S : SS) (m m' : Pts × Tx) : setTy (setTy S m) m' = setTy S m' := rfl
set_option maxRecDepth 100000 in
set_option maxHeartbeats 4000000 in
theorem Te_dropBytes_lp {a : Pts} {t : Tx} {A0 : AH} (h3 : t.length = 3) : ∀ k, ∀ A : AH, k ≤ 3 ∧ Inv F (setTy S (a, dropK t k)) ad A ∧ A.2 = A0.2 → V (gg u) d mm_Te_dropBytes 2 [some (.ref (ad 8 99)), some (.int (nI k))] [] A (Ps none F (setTy S (a, dropK t 3)) ad A0) := by
  refine up_ind 3 ?_
  intro k ih A ⟨hk, I, h2⟩
  have hty := msg_ty (S := setTy S (a, dropK t k))
  obtain ⟨x8, h8, e8⟩ := I.msg (κ := 8) (by omega) (by omega) (by omega) hty
  obtain ⟨x13, h13, e13⟩ := I.msg (κ := 13) (by omega) (by omega) (by omega) hty
  have e8 : x8 = _ := e8
  have e13 : x13 = _ := e13
  subst e8 e13
  have hdl := dropK_len (t := t) (k := k) (by omega)
  refine v_iload_n (dk cd_Te_dropBytes 2 rfl) rfl ?_
  refine v_iconst (v := nI 3) (dk cd_Te_dropBytes 3 rfl) (by decide) ?_
  refine v_icmp_geN (tgt := 20) (dk cd_Te_dropBytes 4 rfl) rfl (by omega) (by omega) (fun q4 => ?_) (fun q4 => ?_)
  · exact v_vret (dk cd_Te_dropBytes 12 rfl) rfl (ps_of (by rw [show (3 : Nat) = k by omega]; exact I) h2 rfl)
  · refine v_aload_n (dk cd_Te_dropBytes 5 rfl) rfl ?_
    refine v_getf (dk cd_Te_dropBytes 6 rfl) fg_Te_16_Te (by repeat first | assumption | exact aset_same _ _ _ | refine (aset_ne _ _ (by first | assumption | exact Ne.symm (by assumption))).trans ?_) (by rfl) ?_
    refine v_iload_n (dk cd_Te_dropBytes 7 rfl) rfl ?_
    refine v_iconst (v := nI 0) (dk cd_Te_dropBytes 8 rfl) (by decide) ?_
    refine v_iastN (j := 0) (dk cd_Te_dropBytes 9 rfl) (by repeat first | assumption | exact aset_same _ _ _ | refine (aset_ne _ _ (by first | assumption | exact Ne.symm (by assumption))).trans ?_) (by decide) rfl (by omega) (by simp [setTy, hdl]; omega) ?_
    refine v_iincN (dk cd_Te_dropBytes 10 rfl) rfl (by decide) rfl ?_
    refine v_goto (tgt := 2) (dk cd_Te_dropBytes 11 rfl) rfl ?_
    refine ih q4 _ ⟨by omega, ?_, h2⟩
    rw [← dropK_set (by omega), ← setTy_setTy S (a, dropK t k)]
    refine I.updTy rfl (fun q hq => aset_ne _ _ (hq 13 (by omega) (by omega))) (fun κ h1 h2 => ?_)
    by_cases k13 : κ = 13
    · subst k13
      refine ⟨_, aset_same _ _ _, ?_⟩
      show _ = (100, ((dropK t k).set k []).map fun t => Value.int (nI t.length))
      rw [List.map_set]
      rfl
    obtain ⟨xx, hh1, hh2⟩ := I.msg (κ := κ) h1 h2 (fun _ => rfl) hty
    refine ⟨xx, ?_, ?_⟩
    · rw [aset_ne _ _ (I.ne (LV_msg h1 h2) (LV_msg (κ := 13) (by omega) (by omega)) (Or.inl k13))]
      exact hh1
    · by_cases k10 : κ < 10
      · exact CMsg_ar hh2 h1 k10
      · obtain ⟨j, rfl⟩ : ∃ j, κ = 10 + j := ⟨κ - 10, by omega⟩
        have hj : j < 3 := by omega
        refine (CMsg_row hj).mpr ?_
        by_cases hjk : k = j
        · subst hjk
          have e9 : ((dropK t k).set k []).getD k [] = [] := by simp [List.getD, hdl, h3, hj]
          simp only [e9]
          exact ArG.less ((CMsg_row hj).mp hh2)
        · have e9 : ((dropK t k).set k []).getD j [] = (dropK t k).getD j [] := by simp [List.getD, hjk]
          simp only [e9]
          exact (CMsg_row hj).mp hh2
set_option maxRecDepth 100000 in
set_option maxHeartbeats 4000000 in
theorem Te_dropBytes_ok {a : Pts} {t : Tx} (I : Inv F S ad A) (hm : sTyped S = (a, t)) (h3 : t.length = 3) : V (gg u) d mm_Te_dropBytes 0 [some (.ref (ad 8 99)), none] [] A (Ps none F (setTy S (a, [[], [], []])) ad A) := by
  have e : dropK t 3 = [[], [], []] := by simp [dropK, h3]
  rw [← e]
  refine v_iconst (v := nI 0) (dk cd_Te_dropBytes 0 rfl) (by decide) ?_
  refine v_istore_n (dk cd_Te_dropBytes 1 rfl) (by decide) rfl ?_
  exact Te_dropBytes_lp h3 0 A ⟨by omega, by rw [show setTy S (a, dropK t 0) = S by rw [show dropK t 0 = t by simp [dropK], ← hm]; rfl]; exact I, rfl⟩
def spCorner (S : SS) (x y : Int32) : SS × (Value ⊕ Nat) := if pCo x = true ∧ pCo y = true then (if (sTyped S).1.length = 8 then (S, .inr 1) else (setTy S ((sTyped S).1 ++ [(x, y)], (sTyped S).2), .inl (.int (nI ((sTyped S).1.length + 1))))) else (S, .inr 0)
def spText (S : SS) (x v : Int32) : SS × (Value ⊕ Nat) := if pLa x = true ∧ ¬ v < 0 ∧ v ≤ 255 then (if tl (sTyped S).2 x.toNatClampNeg = 30 then (S, .inr 1) else (setTy S ((sTyped S).1, (sTyped S).2.set x.toNatClampNeg ((sTyped S).2.getD x.toNatClampNeg [] ++ [v])), .inl (.int (nI (tl (sTyped S).2 x.toNatClampNeg + 1))))) else (S, .inr 0)
def spClear (S : SS) : SS × (Value ⊕ Nat) := (setTy S ([], [[], [], []]), .inl (.int (nI ((sTyped S).1.length + tsum (sTyped S).2 3))))
/-- what is typed is in its bounds -/
def WfT (S : SS) : Prop := (sTyped S).1.length ≤ 8 ∧ (sTyped S).2.length = 3 ∧ ∀ l, tl (sTyped S).2 l ≤ 30
theorem pLa_nat {x : Int32} (h : pLa x = true) : ∃ l, l < 3 ∧ x = nI l := by
  simp only [pLa, Bool.and_eq_true, Bool.not_eq_true', decide_eq_false_iff_not] at h
  obtain ⟨j, hj, e⟩ := nI_of h.1
  refine ⟨j, ?_, e⟩
  have h2 := h.2
  rw [e, show (3 : Int32) = nI 3 by decide, nI_leI (by omega) hj] at h2
  omega
set_option maxRecDepth 100000 in
set_option maxHeartbeats 4000000 in
theorem AW_corner_ok {x y : Int32} (I : Inv F S ad A) (Wt : WfT S) (hgl : A.2.1 + 16 ≤ gL (gg u)) (hgs : A.2.2 + 400 ≤ gS (gg u)) : V (gg u) (d + 6) mm_AW_corner 0 [some (.ref (ad 0 0)), some (.int x), some (.int y)] [] A (PubR F ad A (spCorner S x y)) := by
  have h0 := I.aw
  have hty := msg_ty (S := S)
  obtain ⟨x4, h4, e4⟩ := I.msg (κ := 4) (by omega) (by omega) (fun _ => rfl) hty
  obtain ⟨x5, h5, e5⟩ := I.msg (κ := 5) (by omega) (by omega) (by omega) hty
  obtain ⟨x8, h8, e8⟩ := I.msg (κ := 8) (by omega) (by omega) (by omega) hty
  obtain ⟨x13, h13, e13⟩ := I.msg (κ := 13) (by omega) (by omega) (by omega) hty
  have e4 : x4 = _ := e4
  have e5 : x5 = _ := e5
  have e8 : x8 = _ := e8
  have e13 : x13 = _ := e13
  subst e4 e5 e8 e13
  obtain ⟨wt1, wt2, wt3⟩ := Wt
  refine v_iload_n (dk cd_AW_corner 0 rfl) rfl ?_
  refine v_rs (dk cd_AW_corner 1 rfl) cs_AW_50 (as := [_]) rfl rfl (Nat.le_of_ble_eq_true rfl) (by simp [Value.category]) AW_isCoordinate_ok ?_
  refine v_ifeqB (tgt := 14) (dk cd_AW_corner 2 rfl) rfl (fun q4 => ?_) (fun q4 => ?_)
  · exact v_throw (ex := 0) (dk cd_AW_corner 6 rfl) (dk cd_AW_corner 7 rfl) (dk cd_AW_corner 8 rfl) (dk cd_AW_corner 9 rfl) rfl tw_54 rfl (by omega) (by omega) (by omega) (by simp) (pub_thr I (by simp [spCorner, *]))
  · refine v_iload_n (dk cd_AW_corner 3 rfl) rfl ?_
    refine v_rs (dk cd_AW_corner 4 rfl) cs_AW_50 (as := [_]) rfl rfl (Nat.le_of_ble_eq_true rfl) (by simp [Value.category]) AW_isCoordinate_ok ?_
    refine v_ifneB (tgt := 22) (dk cd_AW_corner 5 rfl) rfl (fun q11 => ?_) (fun q11 => ?_)
    · refine v_aload_n (dk cd_AW_corner 10 rfl) rfl ?_
      refine v_getf (dk cd_AW_corner 11 rfl) fg_AW_46_AW (by assumption) (by rfl) ?_
      refine v_getf (dk cd_AW_corner 12 rfl) fg_AW_76_Me (by assumption) (by rfl) ?_
      refine v_getf (dk cd_AW_corner 13 rfl) fg_AW_80_Ar (by assumption) (by rfl) ?_
      refine v_bipush (v := nI 8) (dk cd_AW_corner 14 rfl) (by decide) ?_
      refine v_icmp_neN (tgt := 45) (dk cd_AW_corner 15 rfl) rfl (by omega) (by omega) (fun q34 => ?_) (fun q34 => ?_)
      · refine v_aload_n (dk cd_AW_corner 20 rfl) rfl ?_
        refine v_getf (dk cd_AW_corner 21 rfl) fg_AW_46_AW (by assumption) (by rfl) ?_
        refine v_getf (dk cd_AW_corner 22 rfl) fg_AW_76_Me (by assumption) (by rfl) ?_
        refine v_iload_n (dk cd_AW_corner 23 rfl) rfl ?_
        refine v_iload_n (dk cd_AW_corner 24 rfl) rfl ?_
        refine v_callv (r := ("AreaWarnings$Area", TT_Ar, 3)) (dk cd_AW_corner 25 rfl) cv_AW_85 rfl (by assumption) (as := [_, _]) rfl rfl (Nat.le_of_ble_eq_true rfl) (by simp [Value.category]) (Ar_addCorner_ok (a := (sTyped S).1) (t := (sTyped S).2) I rfl (by omega)) ps_no (fun v9 A9 hq => ?_)
        obtain ⟨e9, I, hA2⟩ := hq
        cases e9
        clear h0
        have h0 := I.aw
        exact v_iret (dk cd_AW_corner 26 rfl) rfl (pub_ret I hA2 (by simp [spCorner, *]))
      · exact v_throw (ex := 1) (dk cd_AW_corner 16 rfl) (dk cd_AW_corner 17 rfl) (dk cd_AW_corner 18 rfl) (dk cd_AW_corner 19 rfl) rfl tw_57 rfl (by omega) (by omega) (by omega) (by simp) (pub_thr I (by simp [spCorner, *]))
    · exact v_throw (ex := 0) (dk cd_AW_corner 6 rfl) (dk cd_AW_corner 7 rfl) (dk cd_AW_corner 8 rfl) (dk cd_AW_corner 9 rfl) rfl tw_54 rfl (by omega) (by omega) (by omega) (by simp) (pub_thr I (by simp [spCorner, *]))
set_option maxRecDepth 100000 in
set_option maxHeartbeats 4000000 in
theorem AW_text_ok {x v : Int32} (I : Inv F S ad A) (Wt : WfT S) (hgl : A.2.1 + 16 ≤ gL (gg u)) (hgs : A.2.2 + 400 ≤ gS (gg u)) : V (gg u) (d + 6) mm_AW_text 0 [some (.ref (ad 0 0)), some (.int x), some (.int v)] [] A (PubR F ad A (spText S x v)) := by
  have h0 := I.aw
  have hty := msg_ty (S := S)
  obtain ⟨x4, h4, e4⟩ := I.msg (κ := 4) (by omega) (by omega) (fun _ => rfl) hty
  obtain ⟨x5, h5, e5⟩ := I.msg (κ := 5) (by omega) (by omega) (by omega) hty
  obtain ⟨x8, h8, e8⟩ := I.msg (κ := 8) (by omega) (by omega) (by omega) hty
  obtain ⟨x13, h13, e13⟩ := I.msg (κ := 13) (by omega) (by omega) (by omega) hty
  have e4 : x4 = _ := e4
  have e5 : x5 = _ := e5
  have e8 : x8 = _ := e8
  have e13 : x13 = _ := e13
  subst e4 e5 e8 e13
  obtain ⟨wt1, wt2, wt3⟩ := Wt
  refine v_iload_n (dk cd_AW_text 0 rfl) rfl ?_
  refine v_rs (dk cd_AW_text 1 rfl) cs_AW_89 (as := [_]) rfl rfl (Nat.le_of_ble_eq_true rfl) (by simp [Value.category]) AW_isLanguage_ok ?_
  refine v_ifeqB (tgt := 18) (dk cd_AW_text 2 rfl) rfl (fun q4 => ?_) (fun q4 => ?_)
  · exact v_throw (ex := 0) (dk cd_AW_text 8 rfl) (dk cd_AW_text 9 rfl) (dk cd_AW_text 10 rfl) (dk cd_AW_text 11 rfl) rfl tw_54 rfl (by omega) (by omega) (by omega) (by simp) (pub_thr I (by simp [spText, *]))
  · refine v_iload_n (dk cd_AW_text 3 rfl) rfl ?_
    refine v_if_lt (tgt := 18) (dk cd_AW_text 4 rfl) rfl (fun q8 => ?_) (fun q8 => ?_)
    · exact v_throw (ex := 0) (dk cd_AW_text 8 rfl) (dk cd_AW_text 9 rfl) (dk cd_AW_text 10 rfl) (dk cd_AW_text 11 rfl) rfl tw_54 rfl (by omega) (by omega) (by omega) (by simp) (pub_thr I (by simp [spText, *]))
    · refine v_iload_n (dk cd_AW_text 5 rfl) rfl ?_
      refine v_sipush (v := 255) (dk cd_AW_text 6 rfl) (by decide) ?_
      refine v_icmp_le (tgt := 26) (dk cd_AW_text 7 rfl) rfl (fun q15 => ?_) (fun q15 => ?_)
      · obtain ⟨l, hl3, rfl⟩ := pLa_nat q4
        have hlc : (nI l).toNatClampNeg = l := nI_clamp (by omega)
        have w30 := wt3 l
        refine v_aload_n (dk cd_AW_text 12 rfl) rfl ?_
        refine v_getf (dk cd_AW_text 13 rfl) fg_AW_46_AW (by assumption) (by rfl) ?_
        refine v_getf (dk cd_AW_text 14 rfl) fg_AW_92_Me (by assumption) (by rfl) ?_
        refine v_getf (dk cd_AW_text 15 rfl) fg_AW_96_Te (by assumption) (by rfl) ?_
        refine v_iload_n (dk cd_AW_text 16 rfl) rfl ?_
        refine v_ialdN (j := 0) (dk cd_AW_text 17 rfl) (by assumption) (by decide) rfl (by omega) (tl_at wt2 hl3) ?_
        refine v_bipush (v := nI 30) (dk cd_AW_text 18 rfl) (by decide) ?_
        refine v_icmp_neN (tgt := 51) (dk cd_AW_text 19 rfl) rfl (by omega) (by omega) (fun q40 => ?_) (fun q40 => ?_)
        · refine v_aload_n (dk cd_AW_text 24 rfl) rfl ?_
          refine v_getf (dk cd_AW_text 25 rfl) fg_AW_46_AW (by assumption) (by rfl) ?_
          refine v_getf (dk cd_AW_text 26 rfl) fg_AW_92_Me (by assumption) (by rfl) ?_
          refine v_iload_n (dk cd_AW_text 27 rfl) rfl ?_
          refine v_iload_n (dk cd_AW_text 28 rfl) rfl ?_
          refine v_callv (r := ("AreaWarnings$Texts", TT_Te, 2)) (dk cd_AW_text 29 rfl) cv_AW_102 rfl (by assumption) (as := [_, _]) rfl rfl (Nat.le_of_ble_eq_true rfl) (by simp [Value.category]) (Te_addByte_ok (a := (sTyped S).1) (t := (sTyped S).2) I rfl wt2 hl3 (by omega)) ps_no (fun v9 A9 hq => ?_)
          obtain ⟨e9, I, hA2⟩ := hq
          cases e9
          clear h0
          have h0 := I.aw
          exact v_iret (dk cd_AW_text 30 rfl) rfl (pub_ret I hA2 (by simp [spText, *]))
        · exact v_throw (ex := 1) (dk cd_AW_text 20 rfl) (dk cd_AW_text 21 rfl) (dk cd_AW_text 22 rfl) (dk cd_AW_text 23 rfl) rfl tw_57 rfl (by omega) (by omega) (by omega) (by simp) (pub_thr I (by simp [spText, *]))
      · exact v_throw (ex := 0) (dk cd_AW_text 8 rfl) (dk cd_AW_text 9 rfl) (dk cd_AW_text 10 rfl) (dk cd_AW_text 11 rfl) rfl tw_54 rfl (by omega) (by omega) (by omega) (by simp) (pub_thr I (by simp [spText, *]))
set_option maxRecDepth 100000 in
set_option maxHeartbeats 4000000 in
theorem AW_clear_ok (I : Inv F S ad A) (Wt : WfT S) (hgl : A.2.1 + 16 ≤ gL (gg u)) (hgs : A.2.2 + 400 ≤ gS (gg u)) : V (gg u) (d + 6) mm_AW_clear 0 [some (.ref (ad 0 0)), none] [] A (PubR F ad A (spClear S)) := by
  have h0 := I.aw
  have hty := msg_ty (S := S)
  obtain ⟨x4, h4, e4⟩ := I.msg (κ := 4) (by omega) (by omega) (fun _ => rfl) hty
  obtain ⟨x5, h5, e5⟩ := I.msg (κ := 5) (by omega) (by omega) (by omega) hty
  obtain ⟨x8, h8, e8⟩ := I.msg (κ := 8) (by omega) (by omega) (by omega) hty
  obtain ⟨x13, h13, e13⟩ := I.msg (κ := 13) (by omega) (by omega) (by omega) hty
  have e4 : x4 = _ := e4
  have e5 : x5 = _ := e5
  have e8 : x8 = _ := e8
  have e13 : x13 = _ := e13
  subst e4 e5 e8 e13
  obtain ⟨wt1, wt2, wt3⟩ := Wt
  have HT : TeAt A (ad 8 99) (sTyped S).2 := ⟨wt2, wt3, _, _, h8, h13⟩
  have hA0 : A.2 = A.2 := rfl
  refine v_aload_n (dk cd_AW_clear 0 rfl) rfl ?_
  refine v_getf (dk cd_AW_clear 1 rfl) fg_AW_46_AW (by assumption) (by rfl) ?_
  refine v_getf (dk cd_AW_clear 2 rfl) fg_AW_76_Me (by assumption) (by rfl) ?_
  refine v_getf (dk cd_AW_clear 3 rfl) fg_AW_80_Ar (by assumption) (by rfl) ?_
  refine v_aload_n (dk cd_AW_clear 4 rfl) rfl ?_
  refine v_getf (dk cd_AW_clear 5 rfl) fg_AW_46_AW (by assumption) (by rfl) ?_
  refine v_getf (dk cd_AW_clear 6 rfl) fg_AW_92_Me (by assumption) (by rfl) ?_
  refine v_rv (r := ("AreaWarnings$Texts", TT_Te, 2)) (dk cd_AW_clear 7 rfl) cv_AW_105 rfl (by assumption) (as := []) rfl rfl (Nat.le_of_ble_eq_true rfl) (by simp [Value.category]) (Te_byteCount_ok HT) ?_
  refine v_iaddN (dk cd_AW_clear 8 rfl) ?_
  refine v_istore_n (dk cd_AW_clear 9 rfl) (by decide) rfl ?_
  refine v_aload_n (dk cd_AW_clear 10 rfl) rfl ?_
  refine v_getf (dk cd_AW_clear 11 rfl) fg_AW_46_AW (by assumption) (by rfl) ?_
  refine v_getf (dk cd_AW_clear 12 rfl) fg_AW_76_Me (by assumption) (by rfl) ?_
  refine v_callv (r := ("AreaWarnings$Area", TT_Ar, 3)) (dk cd_AW_clear 13 rfl) cv_AW_109 rfl (by assumption) (as := []) rfl rfl (Nat.le_of_ble_eq_true rfl) (by simp [Value.category]) (Ar_dropCorners_ok I rfl) ps_no (fun v9 A9 hq => ?_)
  obtain ⟨e9, I, hA1⟩ := hq
  cases e9
  have h0 := I.aw
  obtain ⟨y4, k4, f4⟩ := I.msg (κ := 4) (by omega) (by omega) (fun _ => rfl) (msg_ty (S := setTy S ([], (sTyped S).2)))
  obtain ⟨y8, k8, f8⟩ := I.msg (κ := 8) (by omega) (by omega) (by omega) (msg_ty (S := setTy S ([], (sTyped S).2)))
  have f4 : y4 = _ := f4
  have f8 : y8 = _ := f8
  subst f4 f8
  refine v_aload_n (dk cd_AW_clear 14 rfl) rfl ?_
  refine v_getf (dk cd_AW_clear 15 rfl) fg_AW_46_AW (by assumption) (by rfl) ?_
  refine v_getf (dk cd_AW_clear 16 rfl) fg_AW_92_Me (by assumption) (by rfl) ?_
  refine v_callv (r := ("AreaWarnings$Texts", TT_Te, 2)) (dk cd_AW_clear 17 rfl) cv_AW_112 rfl (by assumption) (as := []) rfl rfl (Nat.le_of_ble_eq_true rfl) (by simp [Value.category]) (Te_dropBytes_ok I rfl wt2) ps_no (fun v9 A9 hq => ?_)
  obtain ⟨e9, I, hA2⟩ := hq
  cases e9
  refine v_iload_n (dk cd_AW_clear 18 rfl) rfl ?_
  exact v_iret (dk cd_AW_clear 19 rfl) rfl (pub_ret I (hA2.trans hA1) rfl)
end W2
