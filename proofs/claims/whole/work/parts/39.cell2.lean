/-! cell -/
def wNew (ws : List WaS) (w : Nat) : Nat := ((ws.getD w (0, none)).2).getD 0
def mea1 (ws : List WaS) (n : Nat) (c : CeS) (vs : List VeS) (w : Nat) : List VeS := match (vs.getD (wNew ws w) vD).2.2 with
  | some s => vs.set (wNew ws w) (covV (vs.getD (wNew ws w) vD) s n (cReach s.2.1.1 c.1.1 c.1.2.1 c.1.2.2))
  | none => vs
/-- versions that differ in what they cover alone -/
def VsR (vs0 vs : List VeS) : Prop := vs.length = vs0.length ∧ ∀ (i : Nat) (v0 : VeS), vs0[i]? = some v0 → ∃ v, vs[i]? = some v ∧ v.1 = v0.1 ∧ v.2.1 = v0.2.1 ∧ ((v0.2.2 = none ∧ v.2.2 = none) ∨ ∃ (s0 : SpS) (b : List Bool), v0.2.2 = some s0 ∧ v.2.2 = some (s0.1, s0.2.1, b) ∧ b.length = s0.2.2.length)
theorem VsR.refl (vs : List VeS) : VsR vs vs := ⟨rfl, fun i v h => ⟨v, h, rfl, rfl, by
  cases hs : v.2.2 with
  | none => exact Or.inl ⟨rfl, rfl⟩
  | some s => exact Or.inr ⟨s, s.2.2, rfl, rfl, rfl⟩⟩⟩
theorem VsR.cov {vs0 vs : List VeS} (h : VsR vs0 vs) {i j : Nat} {v : VeS} {s : SpS} {b : Bool} (hv : vs[i]? = some v) (hs : v.2.2 = some s) : VsR vs0 (vs.set i (covV v s j b)) := by
  refine ⟨by rw [List.length_set]; exact h.1, fun k v0 hk => ?_⟩
  obtain ⟨v', a1, a2, a3, a4⟩ := h.2 k v0 hk
  by_cases e : k = i
  · subst e
    rw [hv] at a1
    cases a1
    refine ⟨_, List.getElem?_set_self (List.getElem?_eq_some_iff.mp hv).1, a2, a3, ?_⟩
    rcases a4 with a4 | ⟨s0, b0, a5, a6, a7⟩
    · rw [hs] at a4; cases a4.2
    · rw [hs] at a6
      cases a6
      exact Or.inr ⟨s0, b0.set j b, a5, rfl, by rw [List.length_set]; exact a7⟩
  · exact ⟨v', by rw [List.getElem?_set_ne (fun q => e q.symm)]; exact a1, a2, a3, a4⟩
theorem VsR.mea {vs0 vs : List VeS} (h : VsR vs0 vs) (ws : List WaS) (n : Nat) (c : CeS) (w : Nat) : VsR vs0 (mea1 ws n c vs w) := by
  unfold mea1
  split
  · rename_i s hs
    cases hv : vs[wNew ws w]? with
    | none => rw [List.getD_eq_getElem?_getD, hv] at hs; cases hs
    | some v =>
      rw [List.getD_eq_getElem?_getD, hv, Option.getD_some] at hs
      simp only [List.getD_eq_getElem?_getD, hv, Option.getD_some]
      exact h.cov hv hs
  · exact h
theorem VsR.fold {vs0 : List VeS} (ws : List WaS) (n : Nat) (c : CeS) (l : List Nat) : ∀ vs, VsR vs0 vs → VsR vs0 (l.foldl (mea1 ws n c) vs) := by
  induction l with
  | nil => exact fun vs h => h
  | cons w r ih => exact fun vs h => ih _ (h.mea ws n c w)
theorem VsR.back {vs0 vs : List VeS} (h : VsR vs0 vs) {i : Nat} {v : VeS} (hv : vs[i]? = some v) : ∃ v0, vs0[i]? = some v0 ∧ v.1 = v0.1 ∧ v.2.1 = v0.2.1 ∧ ((v0.2.2 = none ∧ v.2.2 = none) ∨ ∃ (s0 : SpS) (b : List Bool), v0.2.2 = some s0 ∧ v.2.2 = some (s0.1, s0.2.1, b) ∧ b.length = s0.2.2.length) := by
  have hi := (List.getElem?_eq_some_iff.mp hv).1
  rw [h.1] at hi
  obtain ⟨v', a1, a2⟩ := h.2 i _ (List.getElem?_eq_getElem hi)
  rw [hv] at a1
  cases a1
  exact ⟨_, List.getElem?_eq_getElem hi, a2⟩
theorem Wf_setVs {S : SS} {vs : List VeS} (W : Wf S) (h : VsR (sVers S) vs) : Wf (setVs S vs) := by
  obtain ⟨w1, w2, w3, w4, w5, w6, w7, w8⟩ := W
  refine ⟨w1, w2, w3, by show vs.length ≤ 40; rw [h.1]; exact w4, w5, w6, fun w x hx => ?_, fun i v hv => ?_⟩
  · obtain ⟨v, a1, a2⟩ := w7 w x hx
    exact ⟨v, a1, by show v < vs.length; rw [h.1]; exact a2⟩
  · obtain ⟨v0, a1, a2, -⟩ := h.back hv
    rw [a2]
    exact w8 i v0 a1
theorem WfV_setVs {S : SS} {vs : List VeS} (W : WfV S) (h : VsR (sVers S) vs) : WfV (setVs S vs) := by
  intro i v s hv hs
  obtain ⟨v0, a1, a2, a3, a4⟩ := h.back hv
  rcases a4 with a4 | ⟨s0, b, a5, a6, a7⟩
  · rw [hs] at a4; cases a4.2
  · rw [hs] at a6
    cases a6
    obtain ⟨c1, c2, c3, c4, c5⟩ := W i v0 s0 a1 a5
    exact ⟨c1, c2, c3, by rw [← c4]; exact a7, c5⟩
def pRa (r : Int32) : Bool := !decide (r < 1) && decide (r ≤ 2000)
def meaAll (S : SS) (c : CeS) : SS := setVs S ((sOrd S).foldl (mea1 (sWarn S) ((sCells S).length - 1) c) (sVers S))
def spCell (S : SS) (x y r : Int32) : SS × (Value ⊕ Nat) := if pCo x = true ∧ pCo y = true ∧ ¬ r < 1 ∧ r ≤ 2000 then (if (sCells S).length = 8 then (S, .inr 1) else (meaAll (addCe S (cNew x y r)) (cNew x y r), .inl (.int (nI (sCells S).length)))) else (S, .inr 0)
theorem Wf_addCe {S : SS} {c : CeS} (W : Wf S) (h : (sCells S).length < 8) : Wf (addCe S c) := by
  obtain ⟨z1, z2, z3, z4, z5, z6, z7, z8⟩ := W
  exact ⟨z1, z2, by show (sCells S ++ [c]).length ≤ 8; simp; omega, z4, z5, z6, z7, z8⟩
section G5
variable {u : Ux} {d : Nat} {A : AH} {F : Nat → Option AC} {S : SS} {ad : Nat → Nat → Nat}
set_option maxRecDepth 100000 in
set_option maxHeartbeats 4000000 in
theorem AW_cell_lp {n : Nat} {c : CeS} {x y r : Int32} {A0 : AH} (Wf : Wf S) (WV : WfV S) (hc : (sCells S)[n]? = some c) : ∀ k, ∀ A : AH, k ≤ (sOrd S).length ∧ Inv F (setVs S (((sOrd S).take k).foldl (mea1 (sWarn S) n c) (sVers S))) ad A ∧ A.2 = A0.2 → V (gg u) (d + 6) mm_AW_cell 91 [some (.ref (ad 0 0)), some (.int x), some (.int y), some (.int r), some (.ref (ad 14 n)), some (.int (nI k)), none, none] [] A (fun r A' => r = .inl (some (.int (nI n))) ∧ Inv F (setVs S ((sOrd S).foldl (mea1 (sWarn S) n c) (sVers S))) ad A' ∧ A'.2 = A0.2) := by
  refine up_ind (sOrd S).length ?_
  intro k ih A ⟨hk, I, hA⟩
  have hR : VsR (sVers S) (((sOrd S).take k).foldl (mea1 (sWarn S) n c) (sVers S)) := VsR.fold _ _ _ _ _ (VsR.refl _)
  generalize hg : ((sOrd S).take k).foldl (mea1 (sWarn S) n c) (sVers S) = VS9 at I hR
  have hWf := Wf_setVs Wf hR
  have hWV := WfV_setVs WV hR
  have h0 := I.aw
  have h14 := I.cob (S := setVs S VS9) hc
  obtain ⟨x2, h2, g2, e2, l2⟩ := I.top (κ := 2) (by omega)
  subst e2
  have w1 := Wf.1
  have w12 := Wf.2.1
  have h0 : A.1 (ad 0 0) = some (0, [.int (sClock S), .ref (ad 1 0), .int (nI (sCells S).length), .ref (ad 2 0), .int (nI (sOrd S).length), .int (nI VS9.length), .ref (ad 3 0), .int (nI (sHs S).length), .ref (ad 4 99)]) := by rw [w1]; exact h0
  refine v_iload (dk cd_AW_cell 47 rfl) rfl ?_
  refine v_aload_n (dk cd_AW_cell 48 rfl) rfl ?_
  refine v_getf (dk cd_AW_cell 49 rfl) fg_AW_28_AW (by assumption) (by rfl) ?_
  refine v_icmp_geN (tgt := 141) (dk cd_AW_cell 50 rfl) rfl (by omega) (by omega) (fun q97 => ?_) (fun q97 => ?_)
  · have hke : k = (sOrd S).length := by omega
    subst hke
    rw [List.take_length] at hg
    refine v_aload (dk cd_AW_cell 69 rfl) rfl ?_
    refine v_getf (dk cd_AW_cell 70 rfl) fg_AW_73_Ce (by assumption) (by rfl) ?_
    exact v_iret (dk cd_AW_cell 71 rfl) rfl ⟨rfl, by rw [hg]; exact I, hA⟩
  · have hon := Wf.2.2.2.2.2.1 _ (List.getElem_mem q97)
    obtain ⟨wa, hwa⟩ : ∃ wa, (sWarn S)[(sOrd S)[k]]? = some wa := ⟨_, List.getElem?_eq_getElem hon⟩
    obtain ⟨v, hwv, hvn⟩ := Wf.2.2.2.2.2.2.1 _ wa hwa
    have hwr := I.warn (S := setVs S VS9) hwa
    rw [hwv] at hwr
    have hvn2 : v < VS9.length := by rw [hR.1]; exact hvn
    obtain ⟨ve, hve⟩ : ∃ ve, VS9[v]? = some ve := ⟨_, List.getElem?_eq_getElem hvn2⟩
    have hnw : wNew (sWarn S) (sOrd S)[k] = v := by simp [wNew, hwa, hwv]
    have hts : ((sOrd S).take (k + 1)).foldl (mea1 (sWarn S) n c) (sVers S) = mea1 (sWarn S) n c VS9 (sOrd S)[k] := by rw [take_snoc q97, List.foldl_append, hg]; rfl
    have hgd : VS9.getD v vD = ve := by simp [hve]
    refine v_aload_n (dk cd_AW_cell 51 rfl) rfl ?_
    refine v_getf (dk cd_AW_cell 52 rfl) fg_AW_24_AW (by assumption) (by rfl) ?_
    refine v_iload (dk cd_AW_cell 53 rfl) rfl ?_
    refine v_aaldN (j := 5) (dk cd_AW_cell 54 rfl) (by assumption) (by decide) rfl rfl (by omega) (map_app q97) ?_
    refine v_getf (dk cd_AW_cell 55 rfl) fg_AW_63_Wa (by assumption) (by rfl) ?_
    cases hs : ve.2.2 with
    | none =>
      have hv := I.verC (S := setVs S VS9) hve hs
      refine v_astore (dk cd_AW_cell 56 rfl) (by decide) rfl ?_
      refine v_aload (dk cd_AW_cell 57 rfl) rfl ?_
      refine v_instNo (dk cd_AW_cell 58 rfl) in_AW_67_Ca (by assumption) ?_
      refine v_if_eq (tgt := 135) (dk cd_AW_cell 59 rfl) rfl (fun _ => ?_) (fun q => absurd rfl q)
      refine v_iincN (dk cd_AW_cell 67 rfl) rfl (by decide) rfl ?_
      refine v_goto (tgt := 91) (dk cd_AW_cell 68 rfl) rfl ?_
      exact V.drop 7 (ih q97 _ ⟨by omega, by rw [hts]; unfold mea1; rw [hnw, hgd, hs]; exact I, hA⟩)
    | some s =>
      have hv := I.verS (S := setVs S VS9) hve hs
      obtain ⟨w1, -, -, w2, -⟩ := hWV _ _ _ hve hs
      refine v_astore (dk cd_AW_cell 56 rfl) (by decide) rfl ?_
      refine v_aload (dk cd_AW_cell 57 rfl) rfl ?_
      refine v_instY (dk cd_AW_cell 58 rfl) iy_AW_67_Sp (by assumption) ?_
      refine v_if_eq (tgt := 135) (dk cd_AW_cell 59 rfl) rfl (fun q => absurd q (by decide)) (fun _ => ?_)
      refine v_aload (dk cd_AW_cell 60 rfl) rfl ?_
      refine v_castY (dk cd_AW_cell 61 rfl) iy_AW_67_Sp (by assumption) ?_
      refine v_astore (dk cd_AW_cell 62 rfl) (by decide) rfl ?_
      refine v_aload (dk cd_AW_cell 63 rfl) rfl ?_
      refine v_aload (dk cd_AW_cell 64 rfl) rfl ?_
      refine v_callv (r := ("AreaWarnings$Spoken", TT_Sp, 9)) (dk cd_AW_cell 65 rfl) cv_AW_69 rfl (by assumption) (as := [_]) rfl rfl (Nat.le_of_ble_eq_true rfl) (by simp [Value.category]) (Sp_measure_ok (S := setVs S VS9) I hWf.2.2.2.1 hWf.2.2.1 hc hve hs w2 w1) ps_no (fun v9 A9 hq => ?_)
      obtain ⟨e9, I3, hA2⟩ := hq
      cases e9
      refine v_pop (dk cd_AW_cell 66 rfl) rfl ?_
      refine v_iincN (dk cd_AW_cell 67 rfl) rfl (by decide) rfl ?_
      refine v_goto (tgt := 91) (dk cd_AW_cell 68 rfl) rfl ?_
      exact V.drop 6 (V.drop 7 (ih q97 _ ⟨by omega, by rw [hts]; unfold mea1; rw [hnw, hgd, hs]; exact I3, hA2.trans hA⟩))
set_option maxRecDepth 100000 in
set_option maxHeartbeats 4000000 in
theorem AW_cell_ok {x y r : Int32} (I : Inv F S ad A) (Wf : Wf S) (hgl : A.2.1 + 16 ≤ gL (gg u)) (hgs : A.2.2 + 400 ≤ gS (gg u)) (R : RfS S) (WV : WfV S) : V (gg u) (d + 6) mm_AW_cell 0 [some (.ref (ad 0 0)), some (.int x), some (.int y), some (.int r), none, none, none, none] [] A (PubR F ad A (spCell S x y r)) := by
  have h0 := I.aw
  obtain ⟨x1, h1, g1, e1, l1⟩ := I.top (κ := 1) (by omega)
  subst e1
  simp only [List.length_map, List.length_range] at l1
  have w8 := Wf.2.2.1
  have o0 := I.old (κ := 0) (i := 0) (Or.inl ⟨by omega, rfl⟩)
  have o1 := I.old (κ := 1) (i := 0) (Or.inl ⟨by omega, rfl⟩)
  have n01 := I.ne (κ := 0) (i := 0) (κ' := 1) (i' := 0) (Or.inl ⟨by omega, rfl⟩) (Or.inl ⟨by omega, rfl⟩) (Or.inl (by omega))
  refine v_iload_n (dk cd_AW_cell 0 rfl) rfl ?_
  refine v_rs (dk cd_AW_cell 1 rfl) cs_AW_50 (as := [_]) rfl rfl (Nat.le_of_ble_eq_true rfl) (by simp [Value.category]) AW_isCoordinate_ok ?_
  refine v_ifeqB (tgt := 26) (dk cd_AW_cell 2 rfl) rfl (fun q4 => ?_) (fun q4 => ?_)
  · exact v_throw (ex := 0) (dk cd_AW_cell 12 rfl) (dk cd_AW_cell 13 rfl) (dk cd_AW_cell 14 rfl) (dk cd_AW_cell 15 rfl) rfl tw_54 rfl (by omega) (by omega) (by omega) (by simp) (pub_thr I (by unfold spCell; exact if_neg (fun q => Bool.false_ne_true (q4.symm.trans q.1))))
  · refine v_iload_n (dk cd_AW_cell 3 rfl) rfl ?_
    refine v_rs (dk cd_AW_cell 4 rfl) cs_AW_50 (as := [_]) rfl rfl (Nat.le_of_ble_eq_true rfl) (by simp [Value.category]) AW_isCoordinate_ok ?_
    refine v_ifeqB (tgt := 26) (dk cd_AW_cell 5 rfl) rfl (fun q11 => ?_) (fun q11 => ?_)
    · exact v_throw (ex := 0) (dk cd_AW_cell 12 rfl) (dk cd_AW_cell 13 rfl) (dk cd_AW_cell 14 rfl) (dk cd_AW_cell 15 rfl) rfl tw_54 rfl (by omega) (by omega) (by omega) (by simp) (pub_thr I (by unfold spCell; exact if_neg (fun q => Bool.false_ne_true (q11.symm.trans q.2.1))))
    · refine v_iload_n (dk cd_AW_cell 6 rfl) rfl ?_
      refine v_iconst (v := 1) (dk cd_AW_cell 7 rfl) (by decide) ?_
      refine v_icmp_lt (tgt := 26) (dk cd_AW_cell 8 rfl) rfl (fun q16 => ?_) (fun q16 => ?_)
      · exact v_throw (ex := 0) (dk cd_AW_cell 12 rfl) (dk cd_AW_cell 13 rfl) (dk cd_AW_cell 14 rfl) (dk cd_AW_cell 15 rfl) rfl tw_54 rfl (by omega) (by omega) (by omega) (by simp) (pub_thr I (by unfold spCell; exact if_neg (fun q => q.2.2.1 q16)))
      · refine v_iload_n (dk cd_AW_cell 9 rfl) rfl ?_
        refine v_sipush (v := 2000) (dk cd_AW_cell 10 rfl) (by decide) ?_
        refine v_icmp_le (tgt := 34) (dk cd_AW_cell 11 rfl) rfl (fun q23 => ?_) (fun q23 => ?_)
        · refine v_aload_n (dk cd_AW_cell 16 rfl) rfl ?_
          refine v_getf (dk cd_AW_cell 17 rfl) fg_AW_19_AW (by repeat first | assumption | exact aset_same _ _ _ | exact anew_same _ _ _ | refine (aset_ne _ _ (by first | assumption | exact Ne.symm (by assumption) | omega | (simp only [aset, anew, amna, List.length_cons, List.length_nil]; omega))).trans ?_ | refine (anew_ne _ _ _ (by first | assumption | exact Ne.symm (by assumption) | omega | (simp only [aset, anew, amna, List.length_cons, List.length_nil]; omega))).trans ?_ | refine (amna_ne _ _ _ _ _ _ (by first | omega | (simp only [aset, anew, amna, List.length_cons, List.length_nil]; omega))).trans ?_) (by rfl) ?_
          refine v_bipush (v := nI 8) (dk cd_AW_cell 18 rfl) (by decide) ?_
          refine v_icmp_neN (tgt := 51) (dk cd_AW_cell 19 rfl) rfl (by omega) (by omega) (fun q40 => ?_) (fun q40 => ?_)
          · have hsp : spCell S x y r = (meaAll (addCe S (cNew x y r)) (cNew x y r), .inl (.int (nI (sCells S).length))) := by unfold spCell; rw [if_pos ⟨q4, q11, q16, q23⟩, if_neg q40]
            refine v_new (dk cd_AW_cell 24 rfl) nw_AW_13 (by first | omega | (simp only [aset, anew, amna, List.length_cons, List.length_nil]; omega)) (by first | omega | (simp only [aset, anew, amna, List.length_cons, List.length_nil]; omega)) ?_
            refine v_dup (dk cd_AW_cell 25 rfl) rfl ?_
            refine v_aload_n (dk cd_AW_cell 26 rfl) rfl ?_
            refine v_getf (dk cd_AW_cell 27 rfl) fg_AW_19_AW (by repeat first | assumption | exact aset_same _ _ _ | exact anew_same _ _ _ | refine (aset_ne _ _ (by first | assumption | exact Ne.symm (by assumption) | omega | (simp only [aset, anew, amna, List.length_cons, List.length_nil]; omega))).trans ?_ | refine (anew_ne _ _ _ (by first | assumption | exact Ne.symm (by assumption) | omega | (simp only [aset, anew, amna, List.length_cons, List.length_nil]; omega))).trans ?_ | refine (amna_ne _ _ _ _ _ _ (by first | omega | (simp only [aset, anew, amna, List.length_cons, List.length_nil]; omega))).trans ?_) (by rfl) ?_
            refine v_iload_n (dk cd_AW_cell 28 rfl) rfl ?_
            refine v_iload_n (dk cd_AW_cell 29 rfl) rfl ?_
            refine v_iload_n (dk cd_AW_cell 30 rfl) rfl ?_
            refine v_calli (dk cd_AW_cell 31 rfl) ci_AW_60 (as := [_, _, _, _]) rfl rfl (Nat.le_of_ble_eq_true rfl) (by simp [Value.category]) (Ce_init_ok (o := A.2.1) (by repeat first | assumption | exact aset_same _ _ _ | exact anew_same _ _ _ | refine (aset_ne _ _ (by first | assumption | exact Ne.symm (by assumption) | omega | (simp only [aset, anew, amna, List.length_cons, List.length_nil]; omega))).trans ?_ | refine (anew_ne _ _ _ (by first | assumption | exact Ne.symm (by assumption) | omega | (simp only [aset, anew, amna, List.length_cons, List.length_nil]; omega))).trans ?_ | refine (amna_ne _ _ _ _ _ _ (by first | omega | (simp only [aset, anew, amna, List.length_cons, List.length_nil]; omega))).trans ?_) (by first | omega | (simp only [aset, anew, amna, List.length_cons, List.length_nil]; omega)) (by first | omega | (simp only [aset, anew, amna, List.length_cons, List.length_nil]; omega)) (by first | omega | (simp only [aset, anew, amna, List.length_cons, List.length_nil]; omega))) mk_no (fun v9 A9 hq => ?_)
            obtain ⟨e9, a1, a2, a3, a4, a5, a6⟩ := hq
            cases e9
            have a1 : A9.2.1 = A.2.1 + 6 := a1
            have a2 : A9.2.2 = A.2.2 + 360 := a2
            have ak : ∀ q, q < A.2.1 → A9.1 q = A.1 q := fun q hq => (a5 q (by omega) (by simp only [anew]; omega)).trans (anew_ne _ _ _ (by omega))
            have az : ∀ q, A.2.1 + 6 ≤ q → A9.1 q = A.1 q := fun q hq => (a6 q hq).trans (anew_ne _ _ _ (by omega))
            have h09 := (ak _ o0).trans h0
            have h19 := (ak _ o1).trans h1
            refine v_astore (dk cd_AW_cell 32 rfl) (by decide) rfl ?_
            refine v_aload_n (dk cd_AW_cell 33 rfl) rfl ?_
            refine v_getf (dk cd_AW_cell 34 rfl) fg_AW_15_AW (by repeat first | assumption | exact aset_same _ _ _ | exact anew_same _ _ _ | refine (aset_ne _ _ (by first | assumption | exact Ne.symm (by assumption) | omega | (simp only [aset, anew, amna, List.length_cons, List.length_nil]; omega))).trans ?_ | refine (anew_ne _ _ _ (by first | assumption | exact Ne.symm (by assumption) | omega | (simp only [aset, anew, amna, List.length_cons, List.length_nil]; omega))).trans ?_ | refine (amna_ne _ _ _ _ _ _ (by first | omega | (simp only [aset, anew, amna, List.length_cons, List.length_nil]; omega))).trans ?_) (by rfl) ?_
            refine v_aload_n (dk cd_AW_cell 35 rfl) rfl ?_
            refine v_getf (dk cd_AW_cell 36 rfl) fg_AW_19_AW (by repeat first | assumption | exact aset_same _ _ _ | exact anew_same _ _ _ | refine (aset_ne _ _ (by first | assumption | exact Ne.symm (by assumption) | omega | (simp only [aset, anew, amna, List.length_cons, List.length_nil]; omega))).trans ?_ | refine (anew_ne _ _ _ (by first | assumption | exact Ne.symm (by assumption) | omega | (simp only [aset, anew, amna, List.length_cons, List.length_nil]; omega))).trans ?_ | refine (amna_ne _ _ _ _ _ _ (by first | omega | (simp only [aset, anew, amna, List.length_cons, List.length_nil]; omega))).trans ?_) (by rfl) ?_
            refine v_aload (dk cd_AW_cell 37 rfl) rfl ?_
            refine v_aastN (dk cd_AW_cell 38 rfl) as_4_Ce (by repeat first | assumption | exact aset_same _ _ _ | exact anew_same _ _ _ | refine (aset_ne _ _ (by first | assumption | exact Ne.symm (by assumption) | omega | (simp only [aset, anew, amna, List.length_cons, List.length_nil]; omega))).trans ?_ | refine (anew_ne _ _ _ (by first | assumption | exact Ne.symm (by assumption) | omega | (simp only [aset, anew, amna, List.length_cons, List.length_nil]; omega))).trans ?_ | refine (amna_ne _ _ _ _ _ _ (by first | omega | (simp only [aset, anew, amna, List.length_cons, List.length_nil]; omega))).trans ?_) (by repeat first | assumption | exact aset_same _ _ _ | exact anew_same _ _ _ | refine (aset_ne _ _ (by first | assumption | exact Ne.symm (by assumption) | omega | (simp only [aset, anew, amna, List.length_cons, List.length_nil]; omega))).trans ?_ | refine (anew_ne _ _ _ (by first | assumption | exact Ne.symm (by assumption) | omega | (simp only [aset, anew, amna, List.length_cons, List.length_nil]; omega))).trans ?_ | refine (amna_ne _ _ _ _ _ _ (by first | omega | (simp only [aset, anew, amna, List.length_cons, List.length_nil]; omega))).trans ?_) (by omega) (by rw [List.length_append, List.length_map, List.length_range]; omega) ?_
            refine v_aload_n (dk cd_AW_cell 39 rfl) rfl ?_
            refine v_dup (dk cd_AW_cell 40 rfl) rfl ?_
            refine v_getf (dk cd_AW_cell 41 rfl) fg_AW_19_AW (by repeat first | assumption | exact aset_same _ _ _ | exact anew_same _ _ _ | refine (aset_ne _ _ (by first | assumption | exact Ne.symm (by assumption) | omega | (simp only [aset, anew, amna, List.length_cons, List.length_nil]; omega))).trans ?_ | refine (anew_ne _ _ _ (by first | assumption | exact Ne.symm (by assumption) | omega | (simp only [aset, anew, amna, List.length_cons, List.length_nil]; omega))).trans ?_ | refine (amna_ne _ _ _ _ _ _ (by first | omega | (simp only [aset, anew, amna, List.length_cons, List.length_nil]; omega))).trans ?_) (by rfl) ?_
            refine v_iconst (v := nI 1) (dk cd_AW_cell 42 rfl) (by decide) ?_
            refine v_iaddN (dk cd_AW_cell 43 rfl) ?_
            refine v_putf (dk cd_AW_cell 44 rfl) fp_AW_19_AW (fun h => by cases h) (by repeat first | assumption | exact aset_same _ _ _ | exact anew_same _ _ _ | refine (aset_ne _ _ (by first | assumption | exact Ne.symm (by assumption) | omega | (simp only [aset, anew, amna, List.length_cons, List.length_nil]; omega))).trans ?_ | refine (anew_ne _ _ _ (by first | assumption | exact Ne.symm (by assumption) | omega | (simp only [aset, anew, amna, List.length_cons, List.length_nil]; omega))).trans ?_ | refine (amna_ne _ _ _ _ _ _ (by first | omega | (simp only [aset, anew, amna, List.length_cons, List.length_nil]; omega))).trans ?_) rfl rfl ?_
            refine v_iconst (v := nI 0) (dk cd_AW_cell 45 rfl) (by decide) ?_
            refine v_istore (dk cd_AW_cell 46 rfl) (by decide) rfl ?_
            have I2 : Inv F (addCe S (cNew x y r)) (adC ad (sCells S).length A.2.1) (aset (aset A9 (ad 1 0) (104, (((List.range (sCells S).length).map fun i => Value.ref (ad 14 i)) ++ g1).set (sCells S).length (.ref A.2.1))) (ad 0 0) (0, [.int (sClock S), .ref (ad 1 0), .int (nI ((sCells S).length + 1)), .ref (ad 2 0), .int (nI (sWarn S).length), .int (nI (sVers S).length), .ref (ad 3 0), .int (nI (sHs S).length), .ref (ad 4 99)])) := I.addC R (by omega) h1 l1 a1 (fun q hq => (aset_ne _ _ (by omega)).trans ((aset_ne _ _ (by omega)).trans (az q hq))) (fun q q1 q2 q3 => (aset_ne _ _ q2).trans ((aset_ne _ _ q3).trans (ak q q1))) (aset_same _ _ _) ((aset_ne _ _ n01.symm).trans (aset_same _ _ _)) ((aset_ne _ _ (by omega)).trans ((aset_ne _ _ (by omega)).trans a3)) ((aset_ne _ _ (by omega)).trans ((aset_ne _ _ (by omega)).trans (a4 0 _ rfl))) ((aset_ne _ _ (by omega)).trans ((aset_ne _ _ (by omega)).trans (a4 1 _ rfl))) ((aset_ne _ _ (by omega)).trans ((aset_ne _ _ (by omega)).trans (a4 2 _ rfl))) ((aset_ne _ _ (by omega)).trans ((aset_ne _ _ (by omega)).trans (a4 3 _ rfl))) ((aset_ne _ _ (by omega)).trans ((aset_ne _ _ (by omega)).trans (a4 4 _ rfl)))
            have hcn : (sCells (addCe S (cNew x y r)))[(sCells S).length]? = some (cNew x y r) := by show (sCells S ++ [cNew x y r])[(sCells S).length]? = _; rw [List.getElem?_append_right (Nat.le_refl _), Nat.sub_self]; rfl
            have e0 : adC ad (sCells S).length A.2.1 0 0 = ad 0 0 := if_neg (by omega)
            have e14 : adC ad (sCells S).length A.2.1 14 (sCells S).length = A.2.1 := adC_new (by omega) (by omega)
            have hW2 := Wf_addCe (c := cNew x y r) Wf (by omega)
            have h9 := AW_cell_lp (u := u) (d := d) (S := addCe S (cNew x y r)) (x := x) (y := y) (r := r) (c := cNew x y r) hW2 WV hcn 0 _ ⟨by omega, I2, rfl⟩
            rw [e0, e14] at h9
            refine h9.mono (fun r9 A9' hr9 => ?_)
            obtain ⟨rfl, I3, hA3⟩ := hr9
            refine ⟨adC ad (sCells S).length A.2.1, e0, ?_⟩
            rw [hsp]
            refine ⟨?_, ?_, ?_, rfl⟩
            · unfold meaAll
              rw [show (sCells (addCe S (cNew x y r))).length - 1 = (sCells S).length by show (sCells S ++ [cNew x y r]).length - 1 = _; simp]
              exact I3
            · rw [hA3]
              show A9.2.1 ≤ _
              omega
            · rw [hA3]
              show A9.2.2 ≤ _
              omega
          · exact v_throw (ex := 1) (dk cd_AW_cell 20 rfl) (dk cd_AW_cell 21 rfl) (dk cd_AW_cell 22 rfl) (dk cd_AW_cell 23 rfl) rfl tw_57 rfl (by omega) (by omega) (by omega) (by simp) (pub_thr I (by unfold spCell; rw [if_pos ⟨q4, q11, q16, q23⟩, if_pos q40]))
        · exact v_throw (ex := 0) (dk cd_AW_cell 12 rfl) (dk cd_AW_cell 13 rfl) (dk cd_AW_cell 14 rfl) (dk cd_AW_cell 15 rfl) rfl tw_54 rfl (by omega) (by omega) (by omega) (by simp) (pub_thr I (by unfold spCell; exact if_neg (fun q => q23 q.2.2.2)))
end G5
