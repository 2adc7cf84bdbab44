/-! a version is made; cancel -/
def addVe (S : SS) (w : Nat) (v : VeS) : SS := (S.1, S.2.1, S.2.2.1, ((sWarn S).set w (wId S w, some (sVers S).length), sOrd S), sVers S ++ [v], S.2.2.2.2.2)
def adV (ad : Nat → Nat → Nat) (m a : Nat) : Nat → Nat → Nat := fun κ i => if κ = 21 ∧ i = m then a else ad κ i
def spCancel (S : SS) (id : Int32) : SS × (Value ⊕ Nat) := match live S id with
  | none => (S, .inr 1)
  | some w => if (sVers S).length = 40 then (S, .inr 1) else (addVe S w (w, ((nwV S w).2.1.1 + 1, (nwV S w).2.1.2.1, (nwV S w).2.1.2.2), none), .inl (.int ((nwV S w).2.1.1 + 1)))
section G6
variable {u : Ux} {d : Nat} {A : AH} {F : Nat → Option AC} {S : SS} {ad : Nat → Nat → Nat}
theorem LV_ve_i {κ i : Nat} (h : LV S κ i) (h1 : κ = 21) : i < (sVers S).length := by
  rcases h with h | h | h | h | h | h | h <;> omega
theorem live_lt {id : Int32} {w : Nat} (W : Wf S) (h : live S id = some w) : w < (sWarn S).length := by
  unfold live at h
  cases hf : fnd S id with
  | none => rw [hf] at h; cases h
  | some w' =>
    rw [hf] at h
    simp only at h
    split at h
    · cases h
    · split at h
      · cases h; exact fnd_lt W hf
      · cases h
theorem Inv.addV {v : VeS} {w : Nat} {A' : AH} (I : Inv F S ad A) (hw : w < (sWarn S).length) (hm : (sVers S).length < 40)
    (hne : ∀ κ, κ = 21 ∨ (v.2.2.isSome = true ∧ (κ = 22 ∨ (5 ≤ κ ∧ κ < 14))) → (∀ κ' i', LV S κ' i' → ad κ (sVers S).length ≠ ad κ' i') ∧ F (ad κ (sVers S).length) = none)
    (hnn : ∀ κ κ', κ = 21 ∨ (v.2.2.isSome = true ∧ (κ = 22 ∨ (5 ≤ κ ∧ κ < 14))) → κ' = 21 ∨ (v.2.2.isSome = true ∧ (κ' = 22 ∨ (5 ≤ κ' ∧ κ' < 14))) → ad κ (sVers S).length = ad κ' (sVers S).length → κ = κ')
    (hs : ∀ κ i, LV S κ i → κ ≠ 0 → ¬ (κ = 20 ∧ i = w) → A'.1 (ad κ i) = A.1 (ad κ i))
    (c0 : A'.1 (ad 0 0) = some (0, [.int (sClock S), .ref (ad 1 0), .int (nI (sCells S).length), .ref (ad 2 0), .int (nI (sWarn S).length), .int (nI ((sVers S).length + 1)), .ref (ad 3 0), .int (nI (sHs S).length), .ref (ad 4 99)]))
    (cw : A'.1 (ad 20 w) = some (8, [.int (wId S w), .int (nI w), .ref (ad 21 (sVers S).length)]))
    (cv : ∃ x, A'.1 (ad 21 (sVers S).length) = some x ∧ CVer v ad (sVers S).length 21 x) (c22 : ∀ s, v.2.2 = some s → A'.1 (ad 22 (sVers S).length) = some (101, s.2.2.map fun b => .int (b2i b)))
    (cm : ∀ s, v.2.2 = some s → ∀ κ, 5 ≤ κ → κ < 14 → ∃ x, A'.1 (ad κ (sVers S).length) = some x ∧ CMsg s.2.1 ad (sVers S).length κ x)
    (hF : ∀ q x, F q = some x → A'.1 q = some x) (hb : ∀ q x, A'.1 q = some x → q < A'.2.1) : Inv F (addVe S w v) ad A' := by
  have hlw : (sWarn (addVe S w v)).length = (sWarn S).length := List.length_set
  have hlv : (sVers (addVe S w v)).length = (sVers S).length + 1 := by show (sVers S ++ [v]).length = _; simp
  have hvi : ∀ i, i < (sVers S).length → (sVers (addVe S w v))[i]? = (sVers S)[i]? := fun i hi => List.getElem?_append_left hi
  have hvm : (sVers (addVe S w v))[(sVers S).length]? = some v := by show (sVers S ++ [v])[(sVers S).length]? = _; rw [List.getElem?_append_right (Nat.le_refl _), Nat.sub_self]; rfl
  have hvo : ∀ i, (sVers S).length < i → (sVers (addVe S w v))[i]? = none := fun i hi => List.getElem?_eq_none (by rw [hlv]; omega)
  have hmo : ∀ i, i ≠ (sVers S).length → msgOf (addVe S w v) i = msgOf S i := by
    intro i hi
    unfold msgOf
    by_cases h99 : i = 99
    · rw [if_pos h99, if_pos h99]; rfl
    · rw [if_neg h99, if_neg h99]
      by_cases hlt : i < (sVers S).length
      · rw [hvi i hlt]
      · rw [hvo i (by omega), List.getElem?_eq_none (by omega)]
  have hmm : msgOf (addVe S w v) (sVers S).length = v.2.2.map fun s => s.2.1 := by
    unfold msgOf
    rw [if_neg (by omega), hvm]
    rfl
  have hsp : ∀ κ i, LV (addVe S w v) κ i → LV S κ i ∨ (i = (sVers S).length ∧ (κ = 21 ∨ (v.2.2.isSome = true ∧ (κ = 22 ∨ (5 ≤ κ ∧ κ < 14))))) := by
    intro κ i h
    rcases h with h | ⟨h1, h2, h3, h4⟩ | h | ⟨h1, h2⟩ | ⟨h1, h2⟩ | ⟨h1, v', h2, h3⟩ | h
    · exact Or.inl (Or.inl h)
    · by_cases hi : i = (sVers S).length
      · subst hi
        rw [hmm] at h4
        have h5 : κ ≠ 4 := fun e => by have := h3 e; omega
        exact Or.inr ⟨rfl, Or.inr ⟨by simpa using h4, Or.inr ⟨by omega, h2⟩⟩⟩
      · rw [hmo i hi] at h4
        exact Or.inl (Or.inr (Or.inl ⟨h1, h2, h3, h4⟩))
    · exact Or.inl (Or.inr (Or.inr (Or.inl h)))
    · rw [hlw] at h2
      exact Or.inl (Or.inr (Or.inr (Or.inr (Or.inl ⟨h1, h2⟩))))
    · rw [hlv] at h2
      by_cases hi : i = (sVers S).length
      · exact Or.inr ⟨hi, Or.inl h1⟩
      · exact Or.inl (h1 ▸ LV_ver (by omega))
    · by_cases hi : i = (sVers S).length
      · subst hi
        rw [hvm] at h2
        cases h2
        exact Or.inr ⟨rfl, Or.inr ⟨h3, Or.inl h1⟩⟩
      · by_cases hlt : i < (sVers S).length
        · rw [hvi i hlt] at h2
          exact Or.inl (Or.inr (Or.inr (Or.inr (Or.inr (Or.inr (Or.inl ⟨h1, v', h2, h3⟩))))))
        · rw [hvo i (by omega)] at h2; cases h2
    · exact Or.inl (Or.inr (Or.inr (Or.inr (Or.inr (Or.inr (Or.inr h))))))
  refine I.adopt (fun κ i => i = (sVers S).length ∧ (κ = 21 ∨ (v.2.2.isSome = true ∧ (κ = 22 ∨ (5 ≤ κ ∧ κ < 14))))) hsp (fun κ i h => by obtain ⟨rfl, h⟩ := h; exact hne κ h) (fun κ i κ' i' h h' e => by obtain ⟨rfl, h⟩ := h; obtain ⟨rfl, h'⟩ := h'; exact ⟨hnn κ κ' h h' e, rfl⟩) (fun κ i h => ?_) hF hb
  rcases hsp κ i h with hl | ⟨rfl, hN⟩
  · by_cases k0 : κ = 0
    · subst k0
      have hi : i = 0 := by rcases hl with h | h | h | h | h | h | h <;> omega
      subst hi
      refine ⟨_, c0, fun _ => ?_, fun h => by omega, fun h => by omega, fun h => by omega, fun h => by omega, fun h => by omega⟩
      show _ = _
      rw [hlw, hlv]
      rfl
    by_cases k20 : κ = 20 ∧ i = w
    · obtain ⟨rfl, rfl⟩ := k20
      refine ⟨_, cw, fun h => by omega, fun _ h => by omega, fun _ h => by omega, fun _ x hx => ?_, fun h => by omega, fun h => by omega⟩
      have hx : ((sWarn S).set i (wId S i, some (sVers S).length))[i]? = some x := hx
      rw [List.getElem?_set_self hw] at hx
      cases hx
      rfl
    obtain ⟨y, b1, b2, b3, b4, b5, b6, b7⟩ := I.2.1 κ i hl
    refine ⟨y, (hs κ i hl k0 k20).trans b1, fun q => ?_, fun q1 q2 m hm => b3 q1 q2 m ?_, b4, fun q x hx => b5 q x ?_, fun q1 q2 v' hv' => b6 q1 q2 v' ?_, b7⟩
    · have hk : κ = 1 ∨ κ = 2 ∨ κ = 3 := by omega
      rcases hk with rfl | rfl | rfl
      · exact b2 (by omega)
      · exact b2 (by omega)
      · exact b2 (by omega)
    · by_cases hi : i = (sVers S).length
      · exfalso
        subst hi
        have hl2 : (msgOf S (sVers S).length).isSome = true := by
          rcases hl with h | ⟨-, -, -, h⟩ | h | h | h | h | h
          · omega
          · exact h
          · omega
          · omega
          · omega
          · omega
          · omega
        unfold msgOf at hl2
        rw [if_neg (by omega), List.getElem?_eq_none (Nat.le_refl _)] at hl2
        cases hl2
      · rw [← hmo i hi]; exact hm
    · have hx : ((sWarn S).set w (wId S w, some (sVers S).length))[i]? = some x := hx
      rw [List.getElem?_set_ne (fun e => k20 ⟨q, e.symm⟩)] at hx
      exact hx
    · have hlt : i < (sVers S).length := by
        rcases hl with h | h | h | h | h | ⟨-, v'', h, -⟩ | h
        · omega
        · omega
        · omega
        · omega
        · exact h.2
        · exact (List.getElem?_eq_some_iff.mp h).1
        · omega
      rw [← hvi i hlt]; exact hv'
  · rcases hN with rfl | ⟨hsm, rfl | ⟨h1, h2⟩⟩
    · obtain ⟨x, e1, e2⟩ := cv
      refine ⟨x, e1, fun h => by omega, fun _ h => by omega, fun _ h => by omega, fun h => by omega, fun _ _ v' hv' => ?_, fun h => by omega⟩
      rw [hvm] at hv'
      cases hv'
      exact e2
    · obtain ⟨s, hs9⟩ := Option.isSome_iff_exists.mp hsm
      refine ⟨_, c22 s hs9, fun h => by omega, fun _ h => by omega, fun _ h => by omega, fun h => by omega, fun _ _ v' hv' s' hs' => ?_, fun h => by omega⟩
      rw [hvm] at hv'
      cases hv'
      rw [hs9] at hs'
      cases hs'
      rfl
    · obtain ⟨s, hs9⟩ := Option.isSome_iff_exists.mp hsm
      obtain ⟨x, e1, e2⟩ := cm s hs9 κ h1 h2
      refine ⟨x, e1, fun h => by omega, fun _ _ m hm => ?_, fun h => by omega, fun h => by omega, fun h => by omega, fun h => by omega⟩
      rw [hmm, hs9] at hm
      cases hm
      exact e2
set_option maxRecDepth 100000 in
set_option maxHeartbeats 4000000 in
theorem AW_cancel_ok {id : Int32} (I : Inv F S ad A) (Wf : Wf S) (hgl : A.2.1 + 16 ≤ gL (gg u)) (hgs : A.2.2 + 400 ≤ gS (gg u)) (R : RfS S) : V (gg u) (d + 6) mm_AW_cancel 0 [some (.ref (ad 0 0)), some (.int id), none] [] A (PubR F ad A (spCancel S id)) := by
  have h0 := I.aw
  have HF := AW_findLive_ok (u := u) (d := d + 4) (id := id) I Wf
  have w40 := Wf.2.2.2.1
  have o0 := I.old (κ := 0) (i := 0) (Or.inl ⟨by omega, rfl⟩)
  cases hf : live S id with
  | none =>
    rw [hf] at HF
    refine v_aload_n (dk cd_AW_cancel 0 rfl) rfl ?_
    refine v_iload_n (dk cd_AW_cancel 1 rfl) rfl ?_
    refine v_rv (r := ("AreaWarnings", TT_AW, 9)) (dk cd_AW_cancel 2 rfl) cv_AW_146 rfl (by assumption) (as := [_]) rfl rfl (Nat.le_of_ble_eq_true rfl) (by simp [Value.category]) HF ?_
    refine v_astoreN_n (dk cd_AW_cancel 3 rfl) (by decide) rfl ?_
    refine v_aloadN_n (dk cd_AW_cancel 4 rfl) rfl ?_
    refine v_ifnullN (tgt := 19) (dk cd_AW_cancel 5 rfl) rfl ?_
    exact v_throw (ex := 1) (dk cd_AW_cancel 10 rfl) (dk cd_AW_cancel 11 rfl) (dk cd_AW_cancel 12 rfl) (dk cd_AW_cancel 13 rfl) rfl tw_57 rfl (by omega) (by omega) (by omega) (by simp) (pub_thr I (by unfold spCancel; rw [hf]))
  | some w =>
    rw [hf] at HF
    have hwl := live_lt Wf hf
    obtain ⟨h1, hv⟩ := I.wn Wf hwl
    obtain ⟨vl, h2⟩ := I.verV hv
    have ow := I.old (κ := 20) (i := w) (Or.inr (Or.inr (Or.inr (Or.inl ⟨rfl, hwl⟩))))
    have ov := I.old (LV_ver (List.getElem?_eq_some_iff.mp hv).1)
    have nw0 := I.ne (κ := 20) (i := w) (κ' := 0) (i' := 0) (Or.inr (Or.inr (Or.inr (Or.inl ⟨rfl, hwl⟩)))) (Or.inl ⟨by omega, rfl⟩) (Or.inl (by omega))
    refine v_aload_n (dk cd_AW_cancel 0 rfl) rfl ?_
    refine v_iload_n (dk cd_AW_cancel 1 rfl) rfl ?_
    refine v_rv (r := ("AreaWarnings", TT_AW, 9)) (dk cd_AW_cancel 2 rfl) cv_AW_146 rfl (by repeat first | assumption | exact aset_same _ _ _ | exact anew_same _ _ _ | refine (aset_ne _ _ (by first | assumption | exact Ne.symm (by assumption) | omega | (simp only [aset, anew, amna, List.length_cons, List.length_nil]; omega))).trans ?_ | refine (anew_ne _ _ _ (by first | assumption | exact Ne.symm (by assumption) | omega | (simp only [aset, anew, amna, List.length_cons, List.length_nil]; omega))).trans ?_ | refine (amna_ne _ _ _ _ _ _ (by first | omega | (simp only [aset, anew, amna, List.length_cons, List.length_nil]; omega))).trans ?_) (as := [_]) rfl rfl (Nat.le_of_ble_eq_true rfl) (by simp [Value.category]) HF ?_
    refine v_astore_n (dk cd_AW_cancel 3 rfl) (by decide) rfl ?_
    refine v_aload_n (dk cd_AW_cancel 4 rfl) rfl ?_
    refine v_ifnull (dk cd_AW_cancel 5 rfl) ?_
    refine v_aload_n (dk cd_AW_cancel 6 rfl) rfl ?_
    refine v_getf (dk cd_AW_cancel 7 rfl) fg_AW_31_AW (by repeat first | assumption | exact aset_same _ _ _ | exact anew_same _ _ _ | refine (aset_ne _ _ (by first | assumption | exact Ne.symm (by assumption) | omega | (simp only [aset, anew, amna, List.length_cons, List.length_nil]; omega))).trans ?_ | refine (anew_ne _ _ _ (by first | assumption | exact Ne.symm (by assumption) | omega | (simp only [aset, anew, amna, List.length_cons, List.length_nil]; omega))).trans ?_ | refine (amna_ne _ _ _ _ _ _ (by first | omega | (simp only [aset, anew, amna, List.length_cons, List.length_nil]; omega))).trans ?_) (by rfl) ?_
    refine v_bipush (v := nI 40) (dk cd_AW_cancel 8 rfl) (by decide) ?_
    refine v_icmp_neN (tgt := 27) (dk cd_AW_cancel 9 rfl) rfl (by omega) (by omega) (fun q16 => ?_) (fun q16 => ?_)
    · have hsp : spCancel S id = (addVe S w (w, ((nwV S w).2.1.1 + 1, (nwV S w).2.1.2.1, (nwV S w).2.1.2.2), none), .inl (.int ((nwV S w).2.1.1 + 1))) := by unfold spCancel; rw [hf]; exact if_neg q16
      refine v_aload_n (dk cd_AW_cancel 14 rfl) rfl ?_
      refine v_new (dk cd_AW_cancel 15 rfl) nw_AW_149 (by first | omega | (simp only [aset, anew, amna, List.length_cons, List.length_nil]; omega)) (by first | omega | (simp only [aset, anew, amna, List.length_cons, List.length_nil]; omega)) ?_
      refine v_dup (dk cd_AW_cancel 16 rfl) rfl ?_
      refine v_aload_n (dk cd_AW_cancel 17 rfl) rfl ?_
      refine v_aload_n (dk cd_AW_cancel 18 rfl) rfl ?_
      refine v_getf (dk cd_AW_cancel 19 rfl) fg_AW_63_Wa (by repeat first | assumption | exact aset_same _ _ _ | exact anew_same _ _ _ | refine (aset_ne _ _ (by first | assumption | exact Ne.symm (by assumption) | omega | (simp only [aset, anew, amna, List.length_cons, List.length_nil]; omega))).trans ?_ | refine (anew_ne _ _ _ (by first | assumption | exact Ne.symm (by assumption) | omega | (simp only [aset, anew, amna, List.length_cons, List.length_nil]; omega))).trans ?_ | refine (amna_ne _ _ _ _ _ _ (by first | omega | (simp only [aset, anew, amna, List.length_cons, List.length_nil]; omega))).trans ?_) (by rfl) ?_
      refine v_getf (dk cd_AW_cancel 20 rfl) (fgV fg_AW_151_Sp fg_AW_151_Ca _) (by repeat first | assumption | exact aset_same _ _ _ | exact anew_same _ _ _ | refine (aset_ne _ _ (by first | assumption | exact Ne.symm (by assumption) | omega | (simp only [aset, anew, amna, List.length_cons, List.length_nil]; omega))).trans ?_ | refine (anew_ne _ _ _ (by first | assumption | exact Ne.symm (by assumption) | omega | (simp only [aset, anew, amna, List.length_cons, List.length_nil]; omega))).trans ?_ | refine (amna_ne _ _ _ _ _ _ (by first | omega | (simp only [aset, anew, amna, List.length_cons, List.length_nil]; omega))).trans ?_) (by rfl) ?_
      refine v_aload_n (dk cd_AW_cancel 21 rfl) rfl ?_
      refine v_getf (dk cd_AW_cancel 22 rfl) fg_AW_63_Wa (by repeat first | assumption | exact aset_same _ _ _ | exact anew_same _ _ _ | refine (aset_ne _ _ (by first | assumption | exact Ne.symm (by assumption) | omega | (simp only [aset, anew, amna, List.length_cons, List.length_nil]; omega))).trans ?_ | refine (anew_ne _ _ _ (by first | assumption | exact Ne.symm (by assumption) | omega | (simp only [aset, anew, amna, List.length_cons, List.length_nil]; omega))).trans ?_ | refine (amna_ne _ _ _ _ _ _ (by first | omega | (simp only [aset, anew, amna, List.length_cons, List.length_nil]; omega))).trans ?_) (by rfl) ?_
      refine v_getf (dk cd_AW_cancel 23 rfl) (fgV fg_AW_156_Sp fg_AW_156_Ca _) (by repeat first | assumption | exact aset_same _ _ _ | exact anew_same _ _ _ | refine (aset_ne _ _ (by first | assumption | exact Ne.symm (by assumption) | omega | (simp only [aset, anew, amna, List.length_cons, List.length_nil]; omega))).trans ?_ | refine (anew_ne _ _ _ (by first | assumption | exact Ne.symm (by assumption) | omega | (simp only [aset, anew, amna, List.length_cons, List.length_nil]; omega))).trans ?_ | refine (amna_ne _ _ _ _ _ _ (by first | omega | (simp only [aset, anew, amna, List.length_cons, List.length_nil]; omega))).trans ?_) (by rfl) ?_
      refine v_calli (dk cd_AW_cancel 24 rfl) ci_AW_159 (as := [_, _, _]) rfl rfl (Nat.le_of_ble_eq_true rfl) (by simp [Value.category]) (Ca_init_ok (o := A.2.1) (z := (nwV S w).2.1.1 + 1) (by repeat first | assumption | exact aset_same _ _ _ | exact anew_same _ _ _ | refine (aset_ne _ _ (by first | assumption | exact Ne.symm (by assumption) | omega | (simp only [aset, anew, amna, List.length_cons, List.length_nil]; omega))).trans ?_ | refine (anew_ne _ _ _ (by first | assumption | exact Ne.symm (by assumption) | omega | (simp only [aset, anew, amna, List.length_cons, List.length_nil]; omega))).trans ?_ | refine (amna_ne _ _ _ _ _ _ (by first | omega | (simp only [aset, anew, amna, List.length_cons, List.length_nil]; omega))).trans ?_) (by first | omega | (simp only [aset, anew, amna, List.length_cons, List.length_nil]; omega)) (Or.inr ⟨_, _, (nwV S w).2.1.1, _, nwV S w, _, _, (anew_ne _ _ _ (by omega)).trans h1, (anew_ne _ _ _ (by omega)).trans h2, by omega, rfl⟩) (by omega)) mk_no (fun v9 A9 hq => ?_)
      obtain ⟨e9, a1, a2, a3, a4, a5, a6⟩ := hq
      cases e9
      have a1 : A9.2.1 = A.2.1 + 1 := a1
      have a2 : A9.2.2 = A.2.2 + 4 := a2
      have ak : ∀ q, q < A.2.1 → A9.1 q = A.1 q := fun q hq => (a5 q (by omega) (by simp only [anew]; omega)).trans (anew_ne _ _ _ (by omega))
      have az : ∀ q, A.2.1 + 1 ≤ q → A9.1 q = A.1 q := fun q hq => (a6 q hq).trans (anew_ne _ _ _ (by omega))
      have h09 := (ak _ o0).trans h0
      have hw9 := (ak _ ow).trans h1
      refine v_putf (dk cd_AW_cancel 25 rfl) fp_AW_63_Wa (fun h => by cases h) (by repeat first | assumption | exact aset_same _ _ _ | exact anew_same _ _ _ | refine (aset_ne _ _ (by first | assumption | exact Ne.symm (by assumption) | omega | (simp only [aset, anew, amna, List.length_cons, List.length_nil]; omega))).trans ?_ | refine (anew_ne _ _ _ (by first | assumption | exact Ne.symm (by assumption) | omega | (simp only [aset, anew, amna, List.length_cons, List.length_nil]; omega))).trans ?_ | refine (amna_ne _ _ _ _ _ _ (by first | omega | (simp only [aset, anew, amna, List.length_cons, List.length_nil]; omega))).trans ?_) rfl rfl ?_
      refine v_aload_n (dk cd_AW_cancel 26 rfl) rfl ?_
      refine v_dup (dk cd_AW_cancel 27 rfl) rfl ?_
      refine v_getf (dk cd_AW_cancel 28 rfl) fg_AW_31_AW (by repeat first | assumption | exact aset_same _ _ _ | exact anew_same _ _ _ | refine (aset_ne _ _ (by first | assumption | exact Ne.symm (by assumption) | omega | (simp only [aset, anew, amna, List.length_cons, List.length_nil]; omega))).trans ?_ | refine (anew_ne _ _ _ (by first | assumption | exact Ne.symm (by assumption) | omega | (simp only [aset, anew, amna, List.length_cons, List.length_nil]; omega))).trans ?_ | refine (amna_ne _ _ _ _ _ _ (by first | omega | (simp only [aset, anew, amna, List.length_cons, List.length_nil]; omega))).trans ?_) (by rfl) ?_
      refine v_iconst (v := nI 1) (dk cd_AW_cancel 29 rfl) (by decide) ?_
      refine v_iaddN (dk cd_AW_cancel 30 rfl) ?_
      refine v_putf (dk cd_AW_cancel 31 rfl) fp_AW_31_AW (fun h => by cases h) (by repeat first | assumption | exact aset_same _ _ _ | exact anew_same _ _ _ | refine (aset_ne _ _ (by first | assumption | exact Ne.symm (by assumption) | omega | (simp only [aset, anew, amna, List.length_cons, List.length_nil]; omega))).trans ?_ | refine (anew_ne _ _ _ (by first | assumption | exact Ne.symm (by assumption) | omega | (simp only [aset, anew, amna, List.length_cons, List.length_nil]; omega))).trans ?_ | refine (amna_ne _ _ _ _ _ _ (by first | omega | (simp only [aset, anew, amna, List.length_cons, List.length_nil]; omega))).trans ?_) rfl rfl ?_
      refine v_aload_n (dk cd_AW_cancel 32 rfl) rfl ?_
      refine v_getf (dk cd_AW_cancel 33 rfl) fg_AW_63_Wa (by repeat first | assumption | exact aset_same _ _ _ | exact anew_same _ _ _ | refine (aset_ne _ _ (by first | assumption | exact Ne.symm (by assumption) | omega | (simp only [aset, anew, amna, List.length_cons, List.length_nil]; omega))).trans ?_ | refine (anew_ne _ _ _ (by first | assumption | exact Ne.symm (by assumption) | omega | (simp only [aset, anew, amna, List.length_cons, List.length_nil]; omega))).trans ?_ | refine (amna_ne _ _ _ _ _ _ (by first | omega | (simp only [aset, anew, amna, List.length_cons, List.length_nil]; omega))).trans ?_) (by rfl) ?_
      refine v_getf (dk cd_AW_cancel 34 rfl) fg_AW_162_Ca (by repeat first | assumption | exact aset_same _ _ _ | exact anew_same _ _ _ | refine (aset_ne _ _ (by first | assumption | exact Ne.symm (by assumption) | omega | (simp only [aset, anew, amna, List.length_cons, List.length_nil]; omega))).trans ?_ | refine (anew_ne _ _ _ (by first | assumption | exact Ne.symm (by assumption) | omega | (simp only [aset, anew, amna, List.length_cons, List.length_nil]; omega))).trans ?_ | refine (amna_ne _ _ _ _ _ _ (by first | omega | (simp only [aset, anew, amna, List.length_cons, List.length_nil]; omega))).trans ?_) (by rfl) ?_
      refine v_iret (dk cd_AW_cancel 35 rfl) rfl ⟨adV ad (sVers S).length A.2.1, if_neg (by omega), ?_⟩
      rw [hsp]
      have I1 : Inv F S (adV ad (sVers S).length A.2.1) A := I.relab R (fun κ i h => if_neg (fun q => by have := LV_ve_i h q.1; omega))
      have em : adV ad (sVers S).length A.2.1 21 (sVers S).length = A.2.1 := if_pos ⟨rfl, rfl⟩
      have eo : ∀ κ, κ ≠ 21 → ∀ i, adV ad (sVers S).length A.2.1 κ i = ad κ i := fun κ hκ i => if_neg (fun q => hκ q.1)
      have L0 : LV S 0 0 := Or.inl ⟨by omega, rfl⟩
      have Lw : LV S 20 w := Or.inr (Or.inr (Or.inr (Or.inl ⟨rfl, hwl⟩)))
      have hid : ∀ κ i, LV S κ i → κ ≠ 0 → ¬ (κ = 20 ∧ i = w) → adV ad (sVers S).length A.2.1 κ i ≠ ad 0 0 ∧ adV ad (sVers S).length A.2.1 κ i ≠ ad 20 w := fun κ i hl k0 k20 => ⟨by rw [← eo 0 (by omega) 0]; exact I1.ne hl L0 (Or.inl k0), by rw [← eo 20 (by omega) w]; exact I1.ne hl Lw (by omega)⟩
      have I2 := I1.addV (v := (w, ((nwV S w).2.1.1 + 1, (nwV S w).2.1.2.1, (nwV S w).2.1.2.2), none)) (w := w) (A' := aset (aset A9 (ad 20 w) (8, [.int (wId S w), .int (nI w), .ref A.2.1])) (ad 0 0) (0, [.int (sClock S), .ref (ad 1 0), .int (nI (sCells S).length), .ref (ad 2 0), .int (nI (sWarn S).length), .int (nI ((sVers S).length + 1)), .ref (ad 3 0), .int (nI (sHs S).length), .ref (ad 4 99)])) hwl (by omega) ?_ ?_ ?_ ?_ ?_ ?_ ?_ ?_ ?_ ?_
      rotate_left
      · rintro κ (rfl | ⟨h, -⟩)
        · rw [em]
          exact ⟨fun κ' i' h' e => by have := I1.old h'; omega, I.Fold (by omega)⟩
        · cases h
      · rintro κ κ' (rfl | ⟨h, -⟩) (rfl | ⟨h', -⟩) _
        · rfl
        · cases h'
        · cases h
        · cases h
      · exact fun κ i hl k0 k20 => (aset_ne _ _ (hid κ i hl k0 k20).1).trans ((aset_ne _ _ (hid κ i hl k0 k20).2).trans (ak _ (I1.old hl)))
      · rw [eo 0 (by omega), eo 1 (by omega), eo 2 (by omega), eo 3 (by omega), eo 4 (by omega)]
        exact aset_same _ _ _
      · rw [eo 20 (by omega), em]
        exact (aset_ne _ _ nw0).trans (aset_same _ _ _)
      · rw [em]
        refine ⟨_, (aset_ne _ _ (by omega)).trans ((aset_ne _ _ (by omega)).trans a3), ?_⟩
        show _ = _
        simp only [vKind, eo 20 (by omega)]
        rfl
      · exact fun s h => by cases h
      · exact fun s h => by cases h
      · intro q x hq
        obtain ⟨e, h⟩ := I.2.2.1 q x hq
        exact (aset_ne _ _ (fun e2 => h 0 0 L0 e2.symm)).trans ((aset_ne _ _ (fun e2 => h 20 w Lw e2.symm)).trans ((ak q (I.2.2.2 q x e)).trans e))
      · intro q x hq
        show q < A9.2.1
        rw [a1]
        by_cases hq2 : q < A.2.1 + 1
        · exact hq2
        · rw [aset_ne _ _ (by omega), aset_ne _ _ (by omega), az q (by omega)] at hq
          have := I.2.2.2 q x hq
          omega
      refine ⟨I2, ?_, ?_, rfl⟩
      · show A9.2.1 ≤ _
        omega
      · show A9.2.2 ≤ _
        omega
    · exact v_throw (ex := 1) (dk cd_AW_cancel 10 rfl) (dk cd_AW_cancel 11 rfl) (dk cd_AW_cancel 12 rfl) (dk cd_AW_cancel 13 rfl) rfl tw_57 rfl (by omega) (by omega) (by omega) (by simp) (pub_thr I (by unfold spCancel; rw [hf]; exact if_pos q16))
end G6
