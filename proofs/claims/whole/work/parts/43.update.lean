/-! issue, update -/
def canSp (S : SS) : Bool := decide (0 < tsum (sTyped S).2 3) && cSimple (sTyped S).1
def adS (ad : Nat → Nat → Nat) (m a : Nat) : Nat → Nat → Nat := fun κ i => if i = m ∧ κ = 21 then a else if i = m ∧ κ = 22 then a + 1 else if i = m ∧ 5 ≤ κ ∧ κ < 14 then ad κ 99 else ad κ i
def adI (ad : Nat → Nat → Nat) (n m a : Nat) : Nat → Nat → Nat := fun κ i => if i = n ∧ κ = 20 then a else adS ad m (a + 1) κ i
def spk (S : SS) (w : Nat) (z sev en bg sp : Int32) : SS × (Value ⊕ Nat) := (tsS S w (spV S w z sev en bg sp (sCells S).length), .inl (.int (nI (cvN S (sTyped S).1 (sCells S).length))))
def spUpdate (S : SS) (id sev en sp : Int32) : SS × (Value ⊕ Nat) := if pSe sev = true ∧ pSn sp = true ∧ sClock S + 1 < en then (if canSp S = true then (match live S id with | none => (S, .inr 1) | some w => if (sVers S).length = 40 then (S, .inr 1) else spk S w ((nwV S w).2.1.1 + 1) sev en (sClock S + 1) sp) else (S, .inr 2)) else (S, .inr 0)
def spIssue (S : SS) (id sev bg en sp : Int32) : SS × (Value ⊕ Nat) := if ¬ id < 1 ∧ ¬ 1000 < id ∧ pSe sev = true ∧ pSn sp = true ∧ ¬ bg ≤ sClock S ∧ bg < en then (if canSp S = true then (match fnd S id with | some _ => (S, .inr 1) | none => if (sWarn S).length = 12 then (S, .inr 1) else if (sVers S).length = 40 then (S, .inr 1) else spk (addWa S id) (sWarn S).length 1 sev en bg sp) else (S, .inr 2)) else (S, .inr 0)
section G9
variable {u : Ux} {d : Nat} {A : AH} {F : Nat → Option AC} {S : SS} {ad : Nat → Nat → Nat}
theorem LV_dead {κ : Nat} (hm : (sVers S).length < 40) (h : LV S κ (sVers S).length) : ¬ (κ = 21 ∨ κ = 22 ∨ (5 ≤ κ ∧ κ < 14)) := by
  rcases h with h | ⟨h1, h2, h3, h4⟩ | h | h | h | ⟨h, v, h1, -⟩ | h
  · omega
  · exfalso
    unfold msgOf at h4
    rw [if_neg (by omega), List.getElem?_eq_none (Nat.le_refl _)] at h4
    cases h4
  · omega
  · omega
  · omega
  · have := (List.getElem?_eq_some_iff.mp h1).1
    omega
  · omega
theorem adS_live {a κ i : Nat} (hm : (sVers S).length < 40) (h : LV S κ i) : adS ad (sVers S).length a κ i = ad κ i := by
  by_cases hi : i = (sVers S).length
  · subst hi
    have := LV_dead hm h
    unfold adS
    rw [if_neg (by omega), if_neg (by omega), if_neg (by omega)]
  · unfold adS
    rw [if_neg (by omega), if_neg (by omega), if_neg (by omega)]
theorem adI_live {a κ i : Nat} (hm : (sVers S).length < 40) (h : LV S κ i) : adI ad (sWarn S).length (sVers S).length a κ i = ad κ i := by
  unfold adI
  rw [if_neg]
  · exact adS_live hm h
  · rintro ⟨rfl, rfl⟩
    rcases h with h | h | h | h | h | h | h <;> omega
theorem mayN (W : WfT S) (I : Inv F S ad A) : V (gg u) (d + 5) mm_Me_canBeSpoken 0 [some (.ref (ad 4 99))] [] A (Rt (some (.int (b2i (canSp S)))) A) := by
  obtain ⟨x4, h4, e4⟩ := I.msg (κ := 4) (i := 99) (by omega) (by omega) (fun _ => rfl) msg_ty
  have e4 : x4 = _ := e4
  subst e4
  exact Me_canBeSpoken_ok h4 (I.arAt msg_ty W.1) (I.teAt msg_ty W.2.1 W.2.2)
set_option maxRecDepth 100000 in
set_option maxHeartbeats 4000000 in
theorem AW_update_ok {id sev en sp : Int32} (I : Inv F S ad A) (Wf : Wf S) (hgl : A.2.1 + 16 ≤ gL (gg u)) (hgs : A.2.2 + 400 ≤ gS (gg u)) (R : RfS S) (WT : WfT S) : V (gg u) (d + 6) mm_AW_update 0 [some (.ref (ad 0 0)), some (.int id), some (.int sev), some (.int en), some (.int sp), none, none] [] A (PubR F ad A (spUpdate S id sev en sp)) := by
  have h0 := I.aw
  have L0 : LV S 0 0 := Or.inl ⟨by omega, rfl⟩
  have o0 := I.old L0
  have w40 := Wf.2.2.2.1
  obtain ⟨x4, h4, e4⟩ := I.msg (κ := 4) (i := 99) (by omega) (by omega) (fun _ => rfl) msg_ty
  have e4 : x4 = _ := e4
  subst e4
  have o4 := I.old (LV_msg (S := S) (κ := 4) (by omega) (by omega))
  have HF := AW_findLive_ok (u := u) (d := d + 4) (id := id) I Wf
  refine v_aload_n (dk cd_AW_update 0 rfl) rfl ?_
  refine v_getf (dk cd_AW_update 1 rfl) fg_AW_9_AW (by assumption) (by rfl) ?_
  refine v_iconst (v := 1) (dk cd_AW_update 2 rfl) (by decide) ?_
  refine v_iadd (dk cd_AW_update 3 rfl) ?_
  refine v_istore (dk cd_AW_update 4 rfl) (by decide) rfl ?_
  refine v_iload_n (dk cd_AW_update 5 rfl) rfl ?_
  refine v_rs (dk cd_AW_update 6 rfl) cs_AW_115 (as := [_]) rfl rfl (Nat.le_of_ble_eq_true rfl) (by simp [Value.category]) AW_isSeverity_ok ?_
  refine v_ifeqB (tgt := 29) (dk cd_AW_update 7 rfl) rfl (fun q12 => ?_) (fun q12 => ?_)
  · exact v_throw (ex := 0) (dk cd_AW_update 14 rfl) (dk cd_AW_update 15 rfl) (dk cd_AW_update 16 rfl) (dk cd_AW_update 17 rfl) rfl tw_54 rfl (by omega) (by omega) (by omega) (by simp) (pub_thr I (by unfold spUpdate; exact if_neg (fun q => Bool.false_ne_true (q12.symm.trans q.1))))
  · refine v_iload (dk cd_AW_update 8 rfl) rfl ?_
    refine v_rs (dk cd_AW_update 9 rfl) cs_AW_118 (as := [_]) rfl rfl (Nat.le_of_ble_eq_true rfl) (by simp [Value.category]) AW_isSpan_ok ?_
    refine v_ifeqB (tgt := 29) (dk cd_AW_update 10 rfl) rfl (fun q20 => ?_) (fun q20 => ?_)
    · exact v_throw (ex := 0) (dk cd_AW_update 14 rfl) (dk cd_AW_update 15 rfl) (dk cd_AW_update 16 rfl) (dk cd_AW_update 17 rfl) rfl tw_54 rfl (by omega) (by omega) (by omega) (by simp) (pub_thr I (by unfold spUpdate; exact if_neg (fun q => Bool.false_ne_true (q20.symm.trans q.2.1))))
    · refine v_iload_n (dk cd_AW_update 11 rfl) rfl ?_
      refine v_iload (dk cd_AW_update 12 rfl) rfl ?_
      refine v_icmp_gt (tgt := 37) (dk cd_AW_update 13 rfl) rfl (fun q26 => ?_) (fun q26 => ?_)
      · refine v_aload_n (dk cd_AW_update 18 rfl) rfl ?_
        refine v_getf (dk cd_AW_update 19 rfl) fg_AW_46_AW (by assumption) (by rfl) ?_
        refine v_rv (r := ("AreaWarnings$Message", TT_Me, 2)) (dk cd_AW_update 20 rfl) cv_AW_121 rfl (by assumption) (as := []) rfl rfl (Nat.le_of_ble_eq_true rfl) (by simp [Value.category]) (mayN WT I) ?_
        refine v_ifneB (tgt := 55) (dk cd_AW_update 21 rfl) rfl (fun q44 => ?_) (fun q44 => ?_)
        · cases hf : live S id with
          | none =>
            rw [hf] at HF
            refine v_aload_n (dk cd_AW_update 26 rfl) rfl ?_
            refine v_iload_n (dk cd_AW_update 27 rfl) rfl ?_
            refine v_rv (r := ("AreaWarnings", TT_AW, 9)) (dk cd_AW_update 28 rfl) cv_AW_146 rfl (by assumption) (as := [_]) rfl rfl (Nat.le_of_ble_eq_true rfl) (by simp [Value.category]) HF ?_
            refine v_astoreN (dk cd_AW_update 29 rfl) (by decide) rfl ?_
            refine v_aloadN (dk cd_AW_update 30 rfl) rfl ?_
            refine v_ifnullN (tgt := 76) (dk cd_AW_update 31 rfl) rfl ?_
            exact v_throw (ex := 1) (dk cd_AW_update 36 rfl) (dk cd_AW_update 37 rfl) (dk cd_AW_update 38 rfl) (dk cd_AW_update 39 rfl) rfl tw_57 rfl (by omega) (by omega) (by omega) (by simp) (pub_thr I (by unfold spUpdate; rw [if_pos ⟨q12, q20, q26⟩, if_pos q44, hf]))
          | some w =>
            rw [hf] at HF
            have hwl := live_lt Wf hf
            obtain ⟨h1, hv⟩ := I.wn Wf hwl
            obtain ⟨vl, h2⟩ := I.verV hv
            have Lw : LV S 20 w := Or.inr (Or.inr (Or.inr (Or.inl ⟨rfl, hwl⟩)))
            have ow := I.old Lw
            have ov := I.old (LV_ver (List.getElem?_eq_some_iff.mp hv).1)
            refine v_aload_n (dk cd_AW_update 26 rfl) rfl ?_
            refine v_iload_n (dk cd_AW_update 27 rfl) rfl ?_
            refine v_rv (r := ("AreaWarnings", TT_AW, 9)) (dk cd_AW_update 28 rfl) cv_AW_146 rfl (by repeat first | assumption | exact aset_same _ _ _ | exact anew_same _ _ _ | refine (aset_ne _ _ (by first | assumption | exact Ne.symm (by assumption) | omega | (simp only [aset, anew, amna, List.length_cons, List.length_nil]; omega))).trans ?_ | refine (anew_ne _ _ _ (by first | assumption | exact Ne.symm (by assumption) | omega | (simp only [aset, anew, amna, List.length_cons, List.length_nil]; omega))).trans ?_ | refine (amna_ne _ _ _ _ _ _ (by first | omega | (simp only [aset, anew, amna, List.length_cons, List.length_nil]; omega))).trans ?_) (as := [_]) rfl rfl (Nat.le_of_ble_eq_true rfl) (by simp [Value.category]) HF ?_
            refine v_astore (dk cd_AW_update 29 rfl) (by decide) rfl ?_
            refine v_aload (dk cd_AW_update 30 rfl) rfl ?_
            refine v_ifnull (dk cd_AW_update 31 rfl) ?_
            refine v_aload_n (dk cd_AW_update 32 rfl) rfl ?_
            refine v_getf (dk cd_AW_update 33 rfl) fg_AW_31_AW (by repeat first | assumption | exact aset_same _ _ _ | exact anew_same _ _ _ | refine (aset_ne _ _ (by first | assumption | exact Ne.symm (by assumption) | omega | (simp only [aset, anew, amna, List.length_cons, List.length_nil]; omega))).trans ?_ | refine (anew_ne _ _ _ (by first | assumption | exact Ne.symm (by assumption) | omega | (simp only [aset, anew, amna, List.length_cons, List.length_nil]; omega))).trans ?_ | refine (amna_ne _ _ _ _ _ _ (by first | omega | (simp only [aset, anew, amna, List.length_cons, List.length_nil]; omega))).trans ?_) (by rfl) ?_
            refine v_bipush (v := nI 40) (dk cd_AW_update 34 rfl) (by decide) ?_
            refine v_icmp_neN (tgt := 84) (dk cd_AW_update 35 rfl) rfl (by omega) (by omega) (fun q73 => ?_) (fun q73 => ?_)
            · have hsp : spUpdate S id sev en sp = spk S w ((nwV S w).2.1.1 + 1) sev en (sClock S + 1) sp := by unfold spUpdate; rw [if_pos ⟨q12, q20, q26⟩, if_pos q44, hf]; exact if_neg q73
              have hm : (sVers S).length < 40 := by omega
              refine v_aload_n (dk cd_AW_update 40 rfl) rfl ?_
              refine v_aload (dk cd_AW_update 41 rfl) rfl ?_
              refine v_new (dk cd_AW_update 42 rfl) nw_AW_67 (by first | omega | (simp only [aset, anew, amna, List.length_cons, List.length_nil]; omega)) (by first | omega | (simp only [aset, anew, amna, List.length_cons, List.length_nil]; omega)) ?_
              refine v_dup (dk cd_AW_update 43 rfl) rfl ?_
              refine v_aload (dk cd_AW_update 44 rfl) rfl ?_
              refine v_iload_n (dk cd_AW_update 45 rfl) rfl ?_
              refine v_iload (dk cd_AW_update 46 rfl) rfl ?_
              refine v_iload_n (dk cd_AW_update 47 rfl) rfl ?_
              refine v_iload (dk cd_AW_update 48 rfl) rfl ?_
              refine v_aload_n (dk cd_AW_update 49 rfl) rfl ?_
              refine v_getf (dk cd_AW_update 50 rfl) fg_AW_46_AW (by repeat first | assumption | exact aset_same _ _ _ | exact anew_same _ _ _ | refine (aset_ne _ _ (by first | assumption | exact Ne.symm (by assumption) | omega | (simp only [aset, anew, amna, List.length_cons, List.length_nil]; omega))).trans ?_ | refine (anew_ne _ _ _ (by first | assumption | exact Ne.symm (by assumption) | omega | (simp only [aset, anew, amna, List.length_cons, List.length_nil]; omega))).trans ?_ | refine (amna_ne _ _ _ _ _ _ (by first | omega | (simp only [aset, anew, amna, List.length_cons, List.length_nil]; omega))).trans ?_) (by rfl) ?_
              refine v_calli (dk cd_AW_update 51 rfl) ci_AW_139 (as := [_, _, _, _, _, _]) rfl rfl (Nat.le_of_ble_eq_true rfl) (by simp [Value.category]) (Sp_init_ok (o := A.2.1) (z := (nwV S w).2.1.1 + 1) (by repeat first | assumption | exact aset_same _ _ _ | exact anew_same _ _ _ | refine (aset_ne _ _ (by first | assumption | exact Ne.symm (by assumption) | omega | (simp only [aset, anew, amna, List.length_cons, List.length_nil]; omega))).trans ?_ | refine (anew_ne _ _ _ (by first | assumption | exact Ne.symm (by assumption) | omega | (simp only [aset, anew, amna, List.length_cons, List.length_nil]; omega))).trans ?_ | refine (amna_ne _ _ _ _ _ _ (by first | omega | (simp only [aset, anew, amna, List.length_cons, List.length_nil]; omega))).trans ?_) (by first | omega | (simp only [aset, anew, amna, List.length_cons, List.length_nil]; omega)) (Or.inr ⟨_, _, (nwV S w).2.1.1, _, nwV S w, _, _, (anew_ne _ _ _ (by omega)).trans h1, (anew_ne _ _ _ (by omega)).trans h2, by omega, rfl⟩) (by omega) ((anew_ne _ _ _ (by omega)).trans h4) (by omega) (by first | omega | (simp only [aset, anew, amna, List.length_cons, List.length_nil]; omega)) (by first | omega | (simp only [aset, anew, amna, List.length_cons, List.length_nil]; omega)) (by first | omega | (simp only [aset, anew, amna, List.length_cons, List.length_nil]; omega))) mk_no (fun v9 A9 hq => ?_)
              obtain ⟨e9, a1, a2, a3, a4, a5, a6⟩ := hq
              cases e9
              have a1 : A9.2.1 = A.2.1 + 2 := a1
              have a2 : A9.2.2 = A.2.2 + 17 := a2
              have ak : ∀ q, q < A.2.1 → A9.1 q = A.1 q := fun q hq => (a5 q (by omega) (by simp only [anew]; omega)).trans (anew_ne _ _ _ (by omega))
              have az : ∀ q, A.2.1 + 2 ≤ q → A9.1 q = A.1 q := fun q hq => (a6 q hq).trans (anew_ne _ _ _ (by omega))
              have ac : A9.1 (A.2.1 + 1) = some (101, List.replicate 8 (.int 0)) := a4 0 _ rfl
              have h0z := (ak _ o0).trans h0
              have I1 : Inv F S (adS ad (sVers S).length A.2.1) A := I.relab R (fun κ i h => adS_live hm h)
              have I9 : Inv F S (adS ad (sVers S).length A.2.1) A9 := I1.same (fun κ i hl => ak _ (I1.old hl)) (fun q x hq => (ak q (I.2.2.2 q x (I.2.2.1 q x hq).1)).trans (I.2.2.1 q x hq).1) (fun q x hq => by
                rw [a1]
                by_cases h : q < A.2.1 + 2
                · exact h
                · rw [az q (by omega)] at hq
                  have := I.2.2.2 q x hq
                  omega)
              have f0 : adS ad (sVers S).length A.2.1 0 0 = ad 0 0 := adS_live hm L0
              have fw : adS ad (sVers S).length A.2.1 20 w = ad 20 w := adS_live hm Lw
              have ft : ∀ κ, 4 ≤ κ → κ < 14 → adS ad (sVers S).length A.2.1 κ 99 = ad κ 99 := fun κ h1 h2 => adS_live hm (LV_msg h1 h2)
              have f21 : adS ad (sVers S).length A.2.1 21 (sVers S).length = A.2.1 := if_pos ⟨rfl, rfl⟩
              have f22 : adS ad (sVers S).length A.2.1 22 (sVers S).length = A.2.1 + 1 := (if_neg (by omega)).trans (if_pos ⟨rfl, rfl⟩)
              have HS := AW_speak_ok (u := u) (d := d) (z := (nwV S w).2.1.1 + 1) (sev := sev) (en := en) (bg := sClock S + 1) (sp := sp) I9 hm Wf.2.2.1 WT.1 hwl (by rw [fw]; exact (ak _ ow).trans h1) f21 f22 (fun κ k1 k2 => by rw [ft κ (by omega) k2]; exact (if_neg (by omega)).trans ((if_neg (by omega)).trans (if_pos ⟨rfl, k1, k2⟩))) (by rw [fw, ft 5 (by omega) (by omega), ft 8 (by omega) (by omega)]; exact a3) ac (fun κ i hl e => by have := I1.old hl; omega) (fun κ i hl e => by have := I1.old hl; omega) (I.Fold (by omega)) (I.Fold (by omega)) (by omega) (by omega) (by omega)
              rw [f0, fw] at HS
              refine v_callv (r := ("AreaWarnings", TT_AW, 9)) (dk cd_AW_update 52 rfl) cv_AW_142 rfl h0z (as := [_, _]) rfl rfl (Nat.le_of_ble_eq_true rfl) (by simp [Value.category]) HS (fun a A8 h => by obtain ⟨_, _, _, _, _, h⟩ := h; cases h) (fun v9 A8 hq => ?_)
              obtain ⟨ad', g0, I8, b1, b2, e8⟩ := hq
              cases e8
              refine v_iret (dk cd_AW_update 53 rfl) rfl ⟨ad', g0, ?_⟩
              rw [hsp]
              exact ⟨I8, by omega, by omega, rfl⟩
            · exact v_throw (ex := 1) (dk cd_AW_update 36 rfl) (dk cd_AW_update 37 rfl) (dk cd_AW_update 38 rfl) (dk cd_AW_update 39 rfl) rfl tw_57 rfl (by omega) (by omega) (by omega) (by simp) (pub_thr I (by unfold spUpdate; rw [if_pos ⟨q12, q20, q26⟩, if_pos q44, hf]; exact if_pos q73))
        · exact v_throw (ex := 2) (dk cd_AW_update 22 rfl) (dk cd_AW_update 23 rfl) (dk cd_AW_update 24 rfl) (dk cd_AW_update 25 rfl) rfl tw_125 rfl (by omega) (by omega) (by omega) (by simp) (pub_thr I (by unfold spUpdate; rw [if_pos ⟨q12, q20, q26⟩]; exact if_neg (fun e => Bool.false_ne_true (q44.symm.trans e))))
      · exact v_throw (ex := 0) (dk cd_AW_update 14 rfl) (dk cd_AW_update 15 rfl) (dk cd_AW_update 16 rfl) (dk cd_AW_update 17 rfl) rfl tw_54 rfl (by omega) (by omega) (by omega) (by simp) (pub_thr I (by unfold spUpdate; exact if_neg (fun q => q26 q.2.2)))
set_option maxRecDepth 100000 in
set_option maxHeartbeats 4000000 in
theorem AW_issue_ok {id sev bg en sp : Int32} (I : Inv F S ad A) (Wf : Wf S) (hgl : A.2.1 + 16 ≤ gL (gg u)) (hgs : A.2.2 + 400 ≤ gS (gg u)) (R : RfS S) (WT : WfT S) : V (gg u) (d + 6) mm_AW_issue 0 [some (.ref (ad 0 0)), some (.int id), some (.int sev), some (.int bg), some (.int en), some (.int sp), none] [] A (PubR F ad A (spIssue S id sev bg en sp)) := by
  have h0 := I.aw
  have L0 : LV S 0 0 := Or.inl ⟨by omega, rfl⟩
  have o0 := I.old L0
  have w40 := Wf.2.2.2.1
  obtain ⟨x4, h4, e4⟩ := I.msg (κ := 4) (i := 99) (by omega) (by omega) (fun _ => rfl) msg_ty
  have e4 : x4 = _ := e4
  subst e4
  have o4 := I.old (LV_msg (S := S) (κ := 4) (by omega) (by omega))
  have w12 := Wf.2.1
  have HF := AW_findWarning_ok (u := u) (d := d + 5) (id := id) I Wf
  refine v_iload_n (dk cd_AW_issue 0 rfl) rfl ?_
  refine v_iconst (v := 1) (dk cd_AW_issue 1 rfl) (by decide) ?_
  refine v_icmp_lt (tgt := 41) (dk cd_AW_issue 2 rfl) rfl (fun q2 => ?_) (fun q2 => ?_)
  · exact v_throw (ex := 0) (dk cd_AW_issue 19 rfl) (dk cd_AW_issue 20 rfl) (dk cd_AW_issue 21 rfl) (dk cd_AW_issue 22 rfl) rfl tw_54 rfl (by omega) (by omega) (by omega) (by simp) (pub_thr I (by unfold spIssue; exact if_neg (fun q => q.1 q2)))
  · refine v_iload_n (dk cd_AW_issue 3 rfl) rfl ?_
    refine v_sipush (v := 1000) (dk cd_AW_issue 4 rfl) (by decide) ?_
    refine v_icmp_gt (tgt := 41) (dk cd_AW_issue 5 rfl) rfl (fun q9 => ?_) (fun q9 => ?_)
    · exact v_throw (ex := 0) (dk cd_AW_issue 19 rfl) (dk cd_AW_issue 20 rfl) (dk cd_AW_issue 21 rfl) (dk cd_AW_issue 22 rfl) rfl tw_54 rfl (by omega) (by omega) (by omega) (by simp) (pub_thr I (by unfold spIssue; exact if_neg (fun q => q.2.1 q9)))
    · refine v_iload_n (dk cd_AW_issue 6 rfl) rfl ?_
      refine v_rs (dk cd_AW_issue 7 rfl) cs_AW_115 (as := [_]) rfl rfl (Nat.le_of_ble_eq_true rfl) (by simp [Value.category]) AW_isSeverity_ok ?_
      refine v_ifeqB (tgt := 41) (dk cd_AW_issue 8 rfl) rfl (fun q16 => ?_) (fun q16 => ?_)
      · exact v_throw (ex := 0) (dk cd_AW_issue 19 rfl) (dk cd_AW_issue 20 rfl) (dk cd_AW_issue 21 rfl) (dk cd_AW_issue 22 rfl) rfl tw_54 rfl (by omega) (by omega) (by omega) (by simp) (pub_thr I (by unfold spIssue; exact if_neg (fun q => Bool.false_ne_true (q16.symm.trans q.2.2.1))))
      · refine v_iload (dk cd_AW_issue 9 rfl) rfl ?_
        refine v_rs (dk cd_AW_issue 10 rfl) cs_AW_118 (as := [_]) rfl rfl (Nat.le_of_ble_eq_true rfl) (by simp [Value.category]) AW_isSpan_ok ?_
        refine v_ifeqB (tgt := 41) (dk cd_AW_issue 11 rfl) rfl (fun q24 => ?_) (fun q24 => ?_)
        · exact v_throw (ex := 0) (dk cd_AW_issue 19 rfl) (dk cd_AW_issue 20 rfl) (dk cd_AW_issue 21 rfl) (dk cd_AW_issue 22 rfl) rfl tw_54 rfl (by omega) (by omega) (by omega) (by simp) (pub_thr I (by unfold spIssue; exact if_neg (fun q => Bool.false_ne_true (q24.symm.trans q.2.2.2.1))))
        · refine v_iload_n (dk cd_AW_issue 12 rfl) rfl ?_
          refine v_aload_n (dk cd_AW_issue 13 rfl) rfl ?_
          refine v_getf (dk cd_AW_issue 14 rfl) fg_AW_9_AW (by assumption) (by rfl) ?_
          refine v_icmp_le (tgt := 41) (dk cd_AW_issue 15 rfl) rfl (fun q32 => ?_) (fun q32 => ?_)
          · exact v_throw (ex := 0) (dk cd_AW_issue 19 rfl) (dk cd_AW_issue 20 rfl) (dk cd_AW_issue 21 rfl) (dk cd_AW_issue 22 rfl) rfl tw_54 rfl (by omega) (by omega) (by omega) (by simp) (pub_thr I (by unfold spIssue; exact if_neg (fun q => q.2.2.2.2.1 q32)))
          · refine v_iload (dk cd_AW_issue 16 rfl) rfl ?_
            refine v_iload_n (dk cd_AW_issue 17 rfl) rfl ?_
            refine v_icmp_gt (tgt := 49) (dk cd_AW_issue 18 rfl) rfl (fun q38 => ?_) (fun q38 => ?_)
            · refine v_aload_n (dk cd_AW_issue 23 rfl) rfl ?_
              refine v_getf (dk cd_AW_issue 24 rfl) fg_AW_46_AW (by assumption) (by rfl) ?_
              refine v_rv (r := ("AreaWarnings$Message", TT_Me, 2)) (dk cd_AW_issue 25 rfl) cv_AW_121 rfl (by assumption) (as := []) rfl rfl (Nat.le_of_ble_eq_true rfl) (by simp [Value.category]) (mayN WT I) ?_
              refine v_ifneB (tgt := 67) (dk cd_AW_issue 26 rfl) rfl (fun q56 => ?_) (fun q56 => ?_)
              · cases hf : fnd S id with
                | none =>
                  rw [hf] at HF
                  refine v_aload_n (dk cd_AW_issue 31 rfl) rfl ?_
                  refine v_iload_n (dk cd_AW_issue 32 rfl) rfl ?_
                  refine v_rv (r := ("AreaWarnings", TT_AW, 9)) (dk cd_AW_issue 33 rfl) cv_AW_128 rfl (by repeat first | assumption | exact aset_same _ _ _ | exact anew_same _ _ _ | refine (aset_ne _ _ (by first | assumption | exact Ne.symm (by assumption) | omega | (simp only [aset, anew, amna, List.length_cons, List.length_nil]; omega))).trans ?_ | refine (anew_ne _ _ _ (by first | assumption | exact Ne.symm (by assumption) | omega | (simp only [aset, anew, amna, List.length_cons, List.length_nil]; omega))).trans ?_ | refine (amna_ne _ _ _ _ _ _ (by first | omega | (simp only [aset, anew, amna, List.length_cons, List.length_nil]; omega))).trans ?_) (as := [_]) rfl rfl (Nat.le_of_ble_eq_true rfl) (by simp [Value.category]) HF ?_
                  refine v_ifnonnullN (dk cd_AW_issue 34 rfl) ?_
                  refine v_aload_n (dk cd_AW_issue 35 rfl) rfl ?_
                  refine v_getf (dk cd_AW_issue 36 rfl) fg_AW_28_AW (by repeat first | assumption | exact aset_same _ _ _ | exact anew_same _ _ _ | refine (aset_ne _ _ (by first | assumption | exact Ne.symm (by assumption) | omega | (simp only [aset, anew, amna, List.length_cons, List.length_nil]; omega))).trans ?_ | refine (anew_ne _ _ _ (by first | assumption | exact Ne.symm (by assumption) | omega | (simp only [aset, anew, amna, List.length_cons, List.length_nil]; omega))).trans ?_ | refine (amna_ne _ _ _ _ _ _ (by first | omega | (simp only [aset, anew, amna, List.length_cons, List.length_nil]; omega))).trans ?_) (by rfl) ?_
                  refine v_bipush (v := nI 12) (dk cd_AW_issue 37 rfl) (by decide) ?_
                  refine v_icmp_eqN (tgt := 93) (dk cd_AW_issue 38 rfl) rfl (by omega) (by omega) (fun q81 => ?_) (fun q81 => ?_)
                  · exact v_throw (ex := 1) (dk cd_AW_issue 43 rfl) (dk cd_AW_issue 44 rfl) (dk cd_AW_issue 45 rfl) (dk cd_AW_issue 46 rfl) rfl tw_57 rfl (by omega) (by omega) (by omega) (by simp) (pub_thr I (by unfold spIssue; rw [if_pos ⟨q2, q9, q16, q24, q32, q38⟩, if_pos q56, hf]; exact if_pos q81))
                  · refine v_aload_n (dk cd_AW_issue 39 rfl) rfl ?_
                    refine v_getf (dk cd_AW_issue 40 rfl) fg_AW_31_AW (by repeat first | assumption | exact aset_same _ _ _ | exact anew_same _ _ _ | refine (aset_ne _ _ (by first | assumption | exact Ne.symm (by assumption) | omega | (simp only [aset, anew, amna, List.length_cons, List.length_nil]; omega))).trans ?_ | refine (anew_ne _ _ _ (by first | assumption | exact Ne.symm (by assumption) | omega | (simp only [aset, anew, amna, List.length_cons, List.length_nil]; omega))).trans ?_ | refine (amna_ne _ _ _ _ _ _ (by first | omega | (simp only [aset, anew, amna, List.length_cons, List.length_nil]; omega))).trans ?_) (by rfl) ?_
                    refine v_bipush (v := nI 40) (dk cd_AW_issue 41 rfl) (by decide) ?_
                    refine v_icmp_neN (tgt := 101) (dk cd_AW_issue 42 rfl) rfl (by omega) (by omega) (fun q90 => ?_) (fun q90 => ?_)
                    · have hsp : spIssue S id sev bg en sp = spk (addWa S id) (sWarn S).length 1 sev en bg sp := by unfold spIssue; rw [if_pos ⟨q2, q9, q16, q24, q32, q38⟩, if_pos q56, hf]; exact (if_neg q81).trans (if_neg q90)
                      have hm : (sVers S).length < 40 := by omega
                      refine v_new (dk cd_AW_issue 47 rfl) nw_AW_22 (by first | omega | (simp only [aset, anew, amna, List.length_cons, List.length_nil]; omega)) (by first | omega | (simp only [aset, anew, amna, List.length_cons, List.length_nil]; omega)) ?_
                      refine v_dup (dk cd_AW_issue 48 rfl) rfl ?_
                      refine v_iload_n (dk cd_AW_issue 49 rfl) rfl ?_
                      refine v_aload_n (dk cd_AW_issue 50 rfl) rfl ?_
                      refine v_getf (dk cd_AW_issue 51 rfl) fg_AW_28_AW (by repeat first | assumption | exact aset_same _ _ _ | exact anew_same _ _ _ | refine (aset_ne _ _ (by first | assumption | exact Ne.symm (by assumption) | omega | (simp only [aset, anew, amna, List.length_cons, List.length_nil]; omega))).trans ?_ | refine (anew_ne _ _ _ (by first | assumption | exact Ne.symm (by assumption) | omega | (simp only [aset, anew, amna, List.length_cons, List.length_nil]; omega))).trans ?_ | refine (amna_ne _ _ _ _ _ _ (by first | omega | (simp only [aset, anew, amna, List.length_cons, List.length_nil]; omega))).trans ?_) (by rfl) ?_
                      refine v_calli (dk cd_AW_issue 52 rfl) ci_AW_132 (as := [_, _]) rfl rfl (Nat.le_of_ble_eq_true rfl) (by simp [Value.category]) (Wa_init_ok (o := A.2.1) (by repeat first | assumption | exact aset_same _ _ _ | exact anew_same _ _ _ | refine (aset_ne _ _ (by first | assumption | exact Ne.symm (by assumption) | omega | (simp only [aset, anew, amna, List.length_cons, List.length_nil]; omega))).trans ?_ | refine (anew_ne _ _ _ (by first | assumption | exact Ne.symm (by assumption) | omega | (simp only [aset, anew, amna, List.length_cons, List.length_nil]; omega))).trans ?_ | refine (amna_ne _ _ _ _ _ _ (by first | omega | (simp only [aset, anew, amna, List.length_cons, List.length_nil]; omega))).trans ?_) (by first | omega | (simp only [aset, anew, amna, List.length_cons, List.length_nil]; omega)) (by first | omega | (simp only [aset, anew, amna, List.length_cons, List.length_nil]; omega)) (by first | omega | (simp only [aset, anew, amna, List.length_cons, List.length_nil]; omega))) mk_no (fun v9 A9 hq => ?_)
                      obtain ⟨e9, a1, a2, a3, a4, a5, a6⟩ := hq
                      cases e9
                      have a1 : A9.2.1 = A.2.1 + 1 := a1
                      have a2 : A9.2.2 = A.2.2 + 3 := a2
                      have ak : ∀ q, q < A.2.1 → A9.1 q = A.1 q := fun q hq => (a5 q (by omega) (by simp only [anew]; omega)).trans (anew_ne _ _ _ (by omega))
                      have az : ∀ q, A.2.1 + 1 ≤ q → A9.1 q = A.1 q := fun q hq => (a6 q hq).trans (anew_ne _ _ _ (by omega))
                      have h0z := (ak _ o0).trans h0
                      have I1 : Inv F S (adI ad (sWarn S).length (sVers S).length A.2.1) A := I.relab R (fun κ i h => adI_live hm h)
                      have I9 : Inv F S (adI ad (sWarn S).length (sVers S).length A.2.1) A9 := I1.same (fun κ i hl => ak _ (I1.old hl)) (fun q x hq => (ak q (I.2.2.2 q x (I.2.2.1 q x hq).1)).trans (I.2.2.1 q x hq).1) (fun q x hq => by
                        rw [a1]
                        by_cases h : q < A.2.1 + 1
                        · exact h
                        · rw [az q (by omega)] at hq
                          have := I.2.2.2 q x hq
                          omega)
                      have f0 : adI ad (sWarn S).length (sVers S).length A.2.1 0 0 = ad 0 0 := adI_live hm L0
                      have fn : adI ad (sWarn S).length (sVers S).length A.2.1 20 (sWarn S).length = A.2.1 := if_pos ⟨rfl, rfl⟩
                      have ft : ∀ κ, 4 ≤ κ → κ < 14 → adI ad (sWarn S).length (sVers S).length A.2.1 κ 99 = ad κ 99 := fun κ h1 h2 => adI_live hm (LV_msg h1 h2)
                      have f21 : adI ad (sWarn S).length (sVers S).length A.2.1 21 (sVers S).length = A.2.1 + 1 := (if_neg (by omega)).trans (if_pos ⟨rfl, rfl⟩)
                      have f22 : adI ad (sWarn S).length (sVers S).length A.2.1 22 (sVers S).length = A.2.1 + 2 := (if_neg (by omega)).trans ((if_neg (by omega)).trans (if_pos ⟨rfl, rfl⟩))
                      have HI := AW_insertById_ok (u := u) (d := d + 5) (id := id) I9 Wf (by omega) fn (fun κ i hl e => by have := I1.old hl; omega) (I.Fold (Nat.le_refl _)) a3
                      rw [f0] at HI
                      refine v_astore (dk cd_AW_issue 53 rfl) (by decide) rfl ?_
                      refine v_aload_n (dk cd_AW_issue 54 rfl) rfl ?_
                      refine v_aload (dk cd_AW_issue 55 rfl) rfl ?_
                      refine v_callv (r := ("AreaWarnings", TT_AW, 9)) (dk cd_AW_issue 56 rfl) cv_AW_135 rfl h0z (as := [_]) rfl rfl (Nat.le_of_ble_eq_true rfl) (by simp [Value.category]) HI ps_no (fun v9 A10 hq => ?_)
                      obtain ⟨e9, I10, hA2⟩ := hq
                      cases e9
                      have z1 : A10.2.1 = A.2.1 + 1 := by rw [hA2]; exact a1
                      have z2 : A10.2.2 = A.2.2 + 3 := by rw [hA2]; exact a2
                      have hlw : (sWarn (addWa S id)).length = (sWarn S).length + 1 := by show (sWarn S ++ [(id, none)]).length = _; simp
                      have Lw : LV (addWa S id) 20 (sWarn S).length := Or.inr (Or.inr (Or.inr (Or.inl ⟨rfl, by rw [hlw]; omega⟩)))
                      have hwa : (sWarn (addWa S id))[(sWarn S).length]? = some (id, none) := by show (sWarn S ++ [(id, none)])[(sWarn S).length]? = _; rw [List.getElem?_append_right (Nat.le_refl _), Nat.sub_self]; rfl
                      have hwi : wId (addWa S id) (sWarn S).length = id := wId_of hwa
                      have h1 := I10.warn hwa
                      rw [fn] at h1
                      have h1 : A10.1 A.2.1 = some (8, [.int id, .int (nI (sWarn S).length), .null]) := h1
                      obtain ⟨x5, h5, e5⟩ := I10.msg (κ := 4) (i := 99) (by omega) (by omega) (fun _ => rfl) msg_ty
                      have e5 : x5 = _ := e5
                      subst e5
                      rw [ft 4 (by omega) (by omega), ft 5 (by omega) (by omega), ft 8 (by omega) (by omega)] at h5
                      have h0y := I10.aw
                      rw [f0, ft 4 (by omega) (by omega)] at h0y
                      refine v_aload_n (dk cd_AW_issue 57 rfl) rfl ?_
                      refine v_aload (dk cd_AW_issue 58 rfl) rfl ?_
                      refine v_new (dk cd_AW_issue 59 rfl) nw_AW_67 (by first | omega | (simp only [aset, anew, amna, List.length_cons, List.length_nil]; omega)) (by first | omega | (simp only [aset, anew, amna, List.length_cons, List.length_nil]; omega)) ?_
                      refine v_dup (dk cd_AW_issue 60 rfl) rfl ?_
                      refine v_aload (dk cd_AW_issue 61 rfl) rfl ?_
                      refine v_iload_n (dk cd_AW_issue 62 rfl) rfl ?_
                      refine v_iload_n (dk cd_AW_issue 63 rfl) rfl ?_
                      refine v_iload (dk cd_AW_issue 64 rfl) rfl ?_
                      refine v_iload (dk cd_AW_issue 65 rfl) rfl ?_
                      refine v_aload_n (dk cd_AW_issue 66 rfl) rfl ?_
                      refine v_getf (dk cd_AW_issue 67 rfl) fg_AW_46_AW (by repeat first | assumption | exact aset_same _ _ _ | exact anew_same _ _ _ | refine (aset_ne _ _ (by first | assumption | exact Ne.symm (by assumption) | omega | (simp only [aset, anew, amna, List.length_cons, List.length_nil]; omega))).trans ?_ | refine (anew_ne _ _ _ (by first | assumption | exact Ne.symm (by assumption) | omega | (simp only [aset, anew, amna, List.length_cons, List.length_nil]; omega))).trans ?_ | refine (amna_ne _ _ _ _ _ _ (by first | omega | (simp only [aset, anew, amna, List.length_cons, List.length_nil]; omega))).trans ?_) (by rfl) ?_
                      refine v_calli (dk cd_AW_issue 68 rfl) ci_AW_139 (as := [_, _, _, _, _, _]) rfl rfl (Nat.le_of_ble_eq_true rfl) (by simp [Value.category]) (Sp_init_ok (o := A10.2.1) (z := 1) (by repeat first | assumption | exact aset_same _ _ _ | exact anew_same _ _ _ | refine (aset_ne _ _ (by first | assumption | exact Ne.symm (by assumption) | omega | (simp only [aset, anew, amna, List.length_cons, List.length_nil]; omega))).trans ?_ | refine (anew_ne _ _ _ (by first | assumption | exact Ne.symm (by assumption) | omega | (simp only [aset, anew, amna, List.length_cons, List.length_nil]; omega))).trans ?_ | refine (amna_ne _ _ _ _ _ _ (by first | omega | (simp only [aset, anew, amna, List.length_cons, List.length_nil]; omega))).trans ?_) (by first | omega | (simp only [aset, anew, amna, List.length_cons, List.length_nil]; omega)) (Or.inl ⟨_, _, (anew_ne _ _ _ (by omega)).trans h1, rfl⟩) (by omega) ((anew_ne _ _ _ (by omega)).trans h5) (by omega) (by first | omega | (simp only [aset, anew, amna, List.length_cons, List.length_nil]; omega)) (by first | omega | (simp only [aset, anew, amna, List.length_cons, List.length_nil]; omega)) (by first | omega | (simp only [aset, anew, amna, List.length_cons, List.length_nil]; omega))) mk_no (fun v9 A11 hq => ?_)
                      obtain ⟨e9, y1, y2, y3, y4, y5, y6⟩ := hq
                      cases e9
                      have y1 : A11.2.1 = A10.2.1 + 2 := y1
                      have y2 : A11.2.2 = A10.2.2 + 17 := y2
                      have yk : ∀ q, q < A10.2.1 → A11.1 q = A10.1 q := fun q hq => (y5 q (by omega) (by simp only [anew]; omega)).trans (anew_ne _ _ _ (by omega))
                      have yz : ∀ q, A10.2.1 + 2 ≤ q → A11.1 q = A10.1 q := fun q hq => (y6 q hq).trans (anew_ne _ _ _ (by omega))
                      have yc : A11.1 (A10.2.1 + 1) = some (101, List.replicate 8 (.int 0)) := y4 0 _ rfl
                      have yo : A11.1 A10.2.1 = some (6, [.ref A.2.1, .int 1, .int sev, .int en, .int bg, .int sp, .ref (ad 5 99), .ref (ad 8 99), .ref (A10.2.1 + 1)]) := y3
                      have h0w := (yk _ (by omega)).trans h0y
                      have I11 : Inv F (addWa S id) (adI ad (sWarn S).length (sVers S).length A.2.1) A11 := I10.same (fun κ i hl => yk _ (I10.old hl)) (fun q x hq => (yk q (I10.2.2.2 q x (I10.2.2.1 q x hq).1)).trans (I10.2.2.1 q x hq).1) (fun q x hq => by
                        rw [y1]
                        by_cases h : q < A10.2.1 + 2
                        · exact h
                        · rw [yz q (by omega)] at hq
                          have := I10.2.2.2 q x hq
                          omega)
                      have HS := AW_speak_ok (u := u) (d := d) (S := addWa S id) (w := (sWarn S).length) (z := 1) (sev := sev) (en := en) (bg := bg) (sp := sp) (o := A10.2.1) (cv := A10.2.1 + 1) I11 hm Wf.2.2.1 WT.1 (by rw [hlw]; omega) (by rw [fn, hwi]; exact (yk _ (by omega)).trans h1) (f21.trans z1.symm) (f22.trans (by omega)) (fun κ k1 k2 => by rw [ft κ (by omega) k2]; exact (if_neg (by omega)).trans ((if_neg (by omega)).trans ((if_neg (by omega)).trans (if_pos ⟨rfl, k1, k2⟩)))) (by rw [fn, ft 5 (by omega) (by omega), ft 8 (by omega) (by omega)]; exact yo) yc (fun κ i hl e => by have := I10.old hl; omega) (fun κ i hl e => by have := I10.old hl; omega) (I10.Fold (Nat.le_refl _)) (I10.Fold (by omega)) (by omega) (by omega) (by omega)
                      rw [f0, fn] at HS
                      refine v_callv (r := ("AreaWarnings", TT_AW, 9)) (dk cd_AW_issue 69 rfl) cv_AW_142 rfl h0w (as := [_, _]) rfl rfl (Nat.le_of_ble_eq_true rfl) (by simp [Value.category]) HS (fun a A8 h => by obtain ⟨_, _, _, _, _, h⟩ := h; cases h) (fun v9 A8 hq => ?_)
                      obtain ⟨ad', g0, I8, b1, b2, e8⟩ := hq
                      cases e8
                      refine v_iret (dk cd_AW_issue 70 rfl) rfl ⟨ad', g0, ?_⟩
                      rw [hsp]
                      exact ⟨I8, by omega, by omega, rfl⟩
                    · exact v_throw (ex := 1) (dk cd_AW_issue 43 rfl) (dk cd_AW_issue 44 rfl) (dk cd_AW_issue 45 rfl) (dk cd_AW_issue 46 rfl) rfl tw_57 rfl (by omega) (by omega) (by omega) (by simp) (pub_thr I (by unfold spIssue; rw [if_pos ⟨q2, q9, q16, q24, q32, q38⟩, if_pos q56, hf]; exact (if_neg q81).trans (if_pos q90)))
                | some w =>
                  rw [hf] at HF
                  refine v_aload_n (dk cd_AW_issue 31 rfl) rfl ?_
                  refine v_iload_n (dk cd_AW_issue 32 rfl) rfl ?_
                  refine v_rv (r := ("AreaWarnings", TT_AW, 9)) (dk cd_AW_issue 33 rfl) cv_AW_128 rfl (by assumption) (as := [_]) rfl rfl (Nat.le_of_ble_eq_true rfl) (by simp [Value.category]) HF ?_
                  refine v_ifnonnull (tgt := 93) (dk cd_AW_issue 34 rfl) rfl ?_
                  exact v_throw (ex := 1) (dk cd_AW_issue 43 rfl) (dk cd_AW_issue 44 rfl) (dk cd_AW_issue 45 rfl) (dk cd_AW_issue 46 rfl) rfl tw_57 rfl (by omega) (by omega) (by omega) (by simp) (pub_thr I (by unfold spIssue; rw [if_pos ⟨q2, q9, q16, q24, q32, q38⟩, if_pos q56, hf]))
              · exact v_throw (ex := 2) (dk cd_AW_issue 27 rfl) (dk cd_AW_issue 28 rfl) (dk cd_AW_issue 29 rfl) (dk cd_AW_issue 30 rfl) rfl tw_125 rfl (by omega) (by omega) (by omega) (by simp) (pub_thr I (by unfold spIssue; rw [if_pos ⟨q2, q9, q16, q24, q32, q38⟩]; exact if_neg (fun e => Bool.false_ne_true (q56.symm.trans e))))
            · exact v_throw (ex := 0) (dk cd_AW_issue 19 rfl) (dk cd_AW_issue 20 rfl) (dk cd_AW_issue 21 rfl) (dk cd_AW_issue 22 rfl) rfl tw_54 rfl (by omega) (by omega) (by omega) (by simp) (pub_thr I (by unfold spIssue; exact if_neg (fun q => q38 q.2.2.2.2.2)))
end G9
