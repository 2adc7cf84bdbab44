/-! reads: the newest version, live warnings, what belongs to a cell, pages, what is shown -/
def vD : VeS := (0, (0, 0, 0), none)
def vAt (S : SS) (v : Nat) : VeS := (sVers S).getD v vD
def nwI (S : SS) (w : Nat) : Nat := (((sWarn S).getD w (0, none)).2).getD 0
def nwV (S : SS) (w : Nat) : VeS := vAt S (nwI S w)
def verOf (S : SS) (id : Int32) : Int32 := match fnd S id with
  | none => 0
  | some w => (nwV S w).2.1.1
def live (S : SS) (id : Int32) : Option Nat := match fnd S id with
  | none => none
  | some w => if (nwV S w).2.1.2.2 ≤ sClock S then none else if (nwV S w).2.2.isSome then some w else none
theorem fnd_lt {S : SS} {id : Int32} {w : Nat} (Wf : Wf S) (h : fnd S id = some w) : w < (sWarn S).length := Wf.2.2.2.2.2.1 w (List.mem_of_find?_eq_some h)
section R3
variable {u : Ux} {d : Nat} {A : AH} {o : Nat} {t : Tx} {F : Nat → Option AC} {S : SS} {ad : Nat → Nat → Nat}
/-- a warning's cell and its newest version's cell -/
theorem Inv.wn (I : Inv F S ad A) (Wf : Wf S) {w : Nat} (h : w < (sWarn S).length) : A.1 (ad 20 w) = some (8, [.int (wId S w), .int (nI w), .ref (ad 21 (nwI S w))]) ∧ (sVers S)[nwI S w]? = some (nwV S w) := by
  have h1 := List.getElem?_eq_getElem h
  obtain ⟨v, h2, h3⟩ := Wf.2.2.2.2.2.2.1 _ _ h1
  have h4 := I.warn h1
  have e1 : nwI S w = v := by simp [nwI, h1, h2]
  refine ⟨by rw [h4, wId_of h1, h2, e1]; rfl, ?_⟩
  unfold nwV vAt
  rw [e1, List.getElem?_eq_getElem h3]
  simp [h3]
set_option maxRecDepth 100000 in
set_option maxHeartbeats 4000000 in
theorem AW_version_ok {id : Int32} (I : Inv F S ad A) (Wf : Wf S) : V (gg u) (d + 1) mm_AW_version 0 [some (.ref (ad 0 0)), some (.int id), none] [] A (Rt (some (.int (verOf S id))) A) := by
  have h0 := I.aw
  have HF := AW_findWarning_ok (u := u) (d := d) (id := id) I Wf
  cases hf : fnd S id with
  | none =>
    rw [hf] at HF
    refine v_aload_n (dk cd_AW_version 0 rfl) rfl ?_
    refine v_iload_n (dk cd_AW_version 1 rfl) rfl ?_
    refine v_rv (r := ("AreaWarnings", TT_AW, 9)) (dk cd_AW_version 2 rfl) cv_AW_128 rfl (by assumption) (as := [_]) rfl rfl (Nat.le_of_ble_eq_true rfl) (by simp [Value.category]) HF ?_
    refine v_astoreN_n (dk cd_AW_version 3 rfl) (by decide) rfl ?_
    refine v_aloadN_n (dk cd_AW_version 4 rfl) rfl ?_
    refine v_ifnonnullN (dk cd_AW_version 5 rfl) ?_
    refine v_iconst (v := 0) (dk cd_AW_version 6 rfl) (by decide) ?_
    refine v_goto (tgt := 21) (dk cd_AW_version 7 rfl) rfl ?_
    exact v_iret (dk cd_AW_version 11 rfl) rfl (rt_of (by simp [verOf, hf]))
  | some w =>
    rw [hf] at HF
    obtain ⟨h1, hv⟩ := I.wn Wf (fnd_lt Wf hf)
    obtain ⟨vl, h2⟩ := I.verV hv
    refine v_aload_n (dk cd_AW_version 0 rfl) rfl ?_
    refine v_iload_n (dk cd_AW_version 1 rfl) rfl ?_
    refine v_rv (r := ("AreaWarnings", TT_AW, 9)) (dk cd_AW_version 2 rfl) cv_AW_128 rfl (by assumption) (as := [_]) rfl rfl (Nat.le_of_ble_eq_true rfl) (by simp [Value.category]) HF ?_
    refine v_astore_n (dk cd_AW_version 3 rfl) (by decide) rfl ?_
    refine v_aload_n (dk cd_AW_version 4 rfl) rfl ?_
    refine v_ifnonnull (tgt := 14) (dk cd_AW_version 5 rfl) rfl ?_
    refine v_aload_n (dk cd_AW_version 8 rfl) rfl ?_
    refine v_getf (dk cd_AW_version 9 rfl) fg_AW_63_Wa (by assumption) (by rfl) ?_
    refine v_getf (dk cd_AW_version 10 rfl) (fgV fg_AW_162_Sp fg_AW_162_Ca _) (by assumption) (by rfl) ?_
    exact v_iret (dk cd_AW_version 11 rfl) rfl (rt_of (by simp [verOf, hf]))
set_option maxRecDepth 100000 in
set_option maxHeartbeats 4000000 in
theorem AW_findLive_ok {id : Int32} (I : Inv F S ad A) (Wf : Wf S) : V (gg u) (d + 1) mm_AW_findLive 0 [some (.ref (ad 0 0)), some (.int id), none] [] A (Rt (some (rfN ad 20 (live S id))) A) := by
  have h0 := I.aw
  have HF := AW_findWarning_ok (u := u) (d := d) (id := id) I Wf
  cases hf : fnd S id with
  | none =>
    rw [hf] at HF
    refine v_aload_n (dk cd_AW_findLive 0 rfl) rfl ?_
    refine v_iload_n (dk cd_AW_findLive 1 rfl) rfl ?_
    refine v_rv (r := ("AreaWarnings", TT_AW, 9)) (dk cd_AW_findLive 2 rfl) cv_AW_128 rfl (by assumption) (as := [_]) rfl rfl (Nat.le_of_ble_eq_true rfl) (by simp [Value.category]) HF ?_
    refine v_astoreN_n (dk cd_AW_findLive 3 rfl) (by decide) rfl ?_
    refine v_aloadN_n (dk cd_AW_findLive 4 rfl) rfl ?_
    refine v_ifnullN (tgt := 34) (dk cd_AW_findLive 5 rfl) rfl ?_
    refine v_null (dk cd_AW_findLive 16 rfl) ?_
    exact v_aret (dk cd_AW_findLive 17 rfl) rfl (Or.inl ⟨_, rfl⟩) (Or.inl rfl) (rt_of (by simp [live, hf, rfN, *]))
  | some w =>
    rw [hf] at HF
    obtain ⟨h1, hv⟩ := I.wn Wf (fnd_lt Wf hf)
    obtain ⟨vl, h2⟩ := I.verV hv
    cases hsp : (nwV S w).2.2 with
    | none =>
      have hkd : vKind (nwV S w) = 2 := by simp [vKind, hsp]
      have h2' := h2
      rw [hkd] at h2'
      refine v_aload_n (dk cd_AW_findLive 0 rfl) rfl ?_
      refine v_iload_n (dk cd_AW_findLive 1 rfl) rfl ?_
      refine v_rv (r := ("AreaWarnings", TT_AW, 9)) (dk cd_AW_findLive 2 rfl) cv_AW_128 rfl (by assumption) (as := [_]) rfl rfl (Nat.le_of_ble_eq_true rfl) (by simp [Value.category]) HF ?_
      refine v_astore_n (dk cd_AW_findLive 3 rfl) (by decide) rfl ?_
      refine v_aload_n (dk cd_AW_findLive 4 rfl) rfl ?_
      refine v_ifnull (dk cd_AW_findLive 5 rfl) ?_
      refine v_aload_n (dk cd_AW_findLive 6 rfl) rfl ?_
      refine v_getf (dk cd_AW_findLive 7 rfl) fg_AW_63_Wa (by assumption) (by rfl) ?_
      refine v_getf (dk cd_AW_findLive 8 rfl) (fgV fg_AW_156_Sp fg_AW_156_Ca _) (by assumption) (by rfl) ?_
      refine v_aload_n (dk cd_AW_findLive 9 rfl) rfl ?_
      refine v_getf (dk cd_AW_findLive 10 rfl) fg_AW_9_AW (by assumption) (by rfl) ?_
      refine v_icmp_le (tgt := 34) (dk cd_AW_findLive 11 rfl) rfl (fun q21 => ?_) (fun q21 => ?_)
      · refine v_null (dk cd_AW_findLive 16 rfl) ?_
        exact v_aret (dk cd_AW_findLive 17 rfl) rfl (Or.inl ⟨_, rfl⟩) (Or.inl rfl) (rt_of (by simp [live, hf, rfN, *]))
      · refine v_aload_n (dk cd_AW_findLive 12 rfl) rfl ?_
        refine v_getf (dk cd_AW_findLive 13 rfl) fg_AW_63_Wa (by assumption) (by rfl) ?_
        refine v_instY (dk cd_AW_findLive 14 rfl) iy_AW_149_Ca (by assumption) ?_
        refine v_if_eq (tgt := 36) (dk cd_AW_findLive 15 rfl) rfl (fun q => absurd q (by decide)) (fun _ => ?_)
        refine v_null (dk cd_AW_findLive 16 rfl) ?_
        exact v_aret (dk cd_AW_findLive 17 rfl) rfl (Or.inl ⟨_, rfl⟩) (Or.inl rfl) (rt_of (by simp [live, hf, rfN, *]))
    | some sp =>
      have hkd : vKind (nwV S w) = 6 := by simp [vKind, hsp]
      have h2' := h2
      rw [hkd] at h2'
      refine v_aload_n (dk cd_AW_findLive 0 rfl) rfl ?_
      refine v_iload_n (dk cd_AW_findLive 1 rfl) rfl ?_
      refine v_rv (r := ("AreaWarnings", TT_AW, 9)) (dk cd_AW_findLive 2 rfl) cv_AW_128 rfl (by assumption) (as := [_]) rfl rfl (Nat.le_of_ble_eq_true rfl) (by simp [Value.category]) HF ?_
      refine v_astore_n (dk cd_AW_findLive 3 rfl) (by decide) rfl ?_
      refine v_aload_n (dk cd_AW_findLive 4 rfl) rfl ?_
      refine v_ifnull (dk cd_AW_findLive 5 rfl) ?_
      refine v_aload_n (dk cd_AW_findLive 6 rfl) rfl ?_
      refine v_getf (dk cd_AW_findLive 7 rfl) fg_AW_63_Wa (by assumption) (by rfl) ?_
      refine v_getf (dk cd_AW_findLive 8 rfl) (fgV fg_AW_156_Sp fg_AW_156_Ca _) (by assumption) (by rfl) ?_
      refine v_aload_n (dk cd_AW_findLive 9 rfl) rfl ?_
      refine v_getf (dk cd_AW_findLive 10 rfl) fg_AW_9_AW (by assumption) (by rfl) ?_
      refine v_icmp_le (tgt := 34) (dk cd_AW_findLive 11 rfl) rfl (fun q21 => ?_) (fun q21 => ?_)
      · refine v_null (dk cd_AW_findLive 16 rfl) ?_
        exact v_aret (dk cd_AW_findLive 17 rfl) rfl (Or.inl ⟨_, rfl⟩) (Or.inl rfl) (rt_of (by simp [live, hf, rfN, *]))
      · refine v_aload_n (dk cd_AW_findLive 12 rfl) rfl ?_
        refine v_getf (dk cd_AW_findLive 13 rfl) fg_AW_63_Wa (by assumption) (by rfl) ?_
        refine v_instNo (dk cd_AW_findLive 14 rfl) in_AW_149_Sp (by assumption) ?_
        refine v_if_eq (tgt := 36) (dk cd_AW_findLive 15 rfl) rfl (fun _ => ?_) (fun q => absurd rfl q)
        refine v_aload_n (dk cd_AW_findLive 18 rfl) rfl ?_
        exact v_aret (dk cd_AW_findLive 19 rfl) rfl (Or.inl ⟨_, rfl⟩) (Or.inr ⟨_, rfl⟩) (rt_of (by simp [live, hf, rfN, *]))
end R3
