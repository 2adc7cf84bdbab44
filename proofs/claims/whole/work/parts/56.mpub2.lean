/-! the model: cancel, update, issue, version, covers, total -/
theorem sub10 {x : Int32} {n : Nat} (h : ¬ x < 10) (hn : n ≤ 3) : nI n ≤ x - 10 ↔ 10 + nI n ≤ x := by
  have e : (10 : Int32).toInt = 10 := rfl
  have h1 : 10 ≤ x.toInt := by rw [Int32.lt_iff_toInt_lt, e] at h; omega
  have h2 : (10 + nI n).toInt = 10 + n := by
    rw [show (10 : Int32) = nI 10 by decide, nI_add, nI_toInt (by omega)]; omega
  have h3 := Int32.toInt_le x
  rw [Int32.le_iff_toInt_le, Int32.le_iff_toInt_le, h2, nI_toInt (by omega), Int32.toInt_sub, e, bm32 (by omega) (by have : x.toInt ≤ 2147483647 := h3; omega)]
  omega
theorem cvTo_wa (S : SS) (id : Int32) (a : Pts) : ∀ k, cvTo (addWa S id) a k = cvTo S a k
  | 0 => rfl
  | k + 1 => by
    unfold cvTo
    rw [cvTo_wa S id a k]
    rfl
theorem cvN_wa (S : SS) (id : Int32) (a : Pts) : ∀ k, cvN (addWa S id) a k = cvN S a k
  | 0 => rfl
  | k + 1 => by
    unfold cvN
    rw [cvN_wa S id a k]
    rfl
theorem spk_wa (S : SS) (id : Int32) (w : Nat) (z sev en bg sp : Int32) : spk (addWa S id) w z sev en bg sp = (addVe (setTy (addWa S id) eT) w (w, (z, sev, en), some ((bg, sp), sTyped S, cvTo S (sTyped S).1 (sCells S).length)), .inl (.int (nI (cvN S (sTyped S).1 (sCells S).length)))) := by
  unfold spk tsS spV
  rw [cvTo_wa, cvN_wa]
  rfl
section MR
variable {u : Ux} {d : Nat} {A B : AH} {a : Nat} {i : Nat → Int32} {f : Nat → Nat → Int32} {S S' : SS} {t x : Int32}
theorem fndI_none {id : Int32} (h : fnd S id = none) : fndI S id = -1 := by simp [fndI, h]
theorem fndI_some {id : Int32} {w : Nat} (h : fnd S id = some w) : fndI S id = nI w := by simp [fndI, h]
theorem vNum_nw {w : Nat} : vNum S (nwI S w) = (nwV S w).2.1.1 := rfl
theorem tot_sub {h : Nat} : nI (10 + h) - 10 = nI h := by
  rw [← nI_add, show (nI 10 : Int32) = 10 by decide, Int32.add_comm, Int32.add_sub_cancel]
theorem tot_hi {S : SS} {h : Nat} {y : HaS} (hy : (sHs S)[h]? = some y) (h3 : (sHs S).length ≤ 3) : spTotal S (nI (10 + h)) = (S, .inl (.int y.1.2.2.2)) := by
  have hh := (List.getElem?_eq_some_iff.mp hy).1
  have hcl : hAt S (nI h) = y := by unfold hAt; rw [nI_clamp (by omega), List.getD_eq_getElem?_getD, hy]; rfl
  have e : ∀ k, k < 5 → ¬ nI (10 + h) = nI k := fun k hk => by rw [nI_eq (by omega) (by omega)]; omega
  have e1 : ¬ nI (10 + h) < 10 := by rw [show (10 : Int32) = nI 10 by decide, nI_ltI (by omega) (by omega)]; omega
  have e2 : ¬ 10 + nI (sHs S).length ≤ nI (10 + h) := by rw [show (10 : Int32) = nI 10 by decide, nI_add, nI_leI (by omega) (by omega)]; omega
  unfold spTotal
  rw [if_neg (show ¬ nI (10 + h) = 0 from e 0 (by omega)), if_neg (show ¬ nI (10 + h) = 1 from e 1 (by omega)), if_neg (show ¬ nI (10 + h) = 2 from e 2 (by omega)), if_neg (show ¬ nI (10 + h) = 3 from e 3 (by omega)), if_neg (show ¬ nI (10 + h) = 4 from e 4 (by omega)), if_pos ⟨e1, e2⟩, tot_sub, hcl]
set_option maxRecDepth 100000 in
set_option maxHeartbeats 4000000 in
theorem Mo_cancel_ok {id : Int32} (hM : MH B a i f A) (R : Rel S t i f) (K : SOK S) : V (gg u) (d + 1) mm_Mo_cancel 0 [some (.ref a), some (.int id), none, none] [] A (PM (xc [0, 1, 0, 0]) B a (spCancel S id)) := by
  have w1 := K.wf.2.1
  have w2 := K.wf.2.2.1
  have w3 := K.wf.2.2.2.1
  have w4 := K.wf.2.2.2.2.1
  rcases hf : fnd S id with _ | w
  · have hfi := fndI_none hf
    refine v_aload_n (dk cd_Mo_cancel 0 rfl) rfl ?_
    refine v_iload_n (dk cd_Mo_cancel 1 rfl) rfl ?_
    refine v_rv (r := ("AreaWarningsModel", TT_Mo, 49)) (dk cd_Mo_cancel 2 rfl) cv_Mo_210 rfl hM.2.2.1 (as := [_]) rfl rfl (Nat.le_of_ble_eq_true rfl) (by simp [Value.category]) (Mo_find_ok hM R K hfi) ?_
    refine v_istore_n (dk cd_Mo_cancel 3 rfl) (by decide) rfl ?_
    refine v_aload_n (dk cd_Mo_cancel 4 rfl) rfl ?_
    refine v_aload_n (dk cd_Mo_cancel 5 rfl) rfl ?_
    refine v_iload_n (dk cd_Mo_cancel 6 rfl) rfl ?_
    refine v_rv (r := ("AreaWarningsModel", TT_Mo, 49)) (dk cd_Mo_cancel 7 rfl) cv_Mo_220 rfl hM.2.2.1 (as := [_]) rfl rfl (Nat.le_of_ble_eq_true rfl) (by simp [Value.category]) (Mo_isLive_no hM (by decide)) ?_
    refine v_ifeqB (tgt := 24) (dk cd_Mo_cancel 8 rfl) rfl (fun q12 => ?_) (fun q12 => ?_)
    · refine v_iconst (v := nI 1) (dk cd_Mo_cancel 13 rfl) (by decide) ?_
      refine v_goto (tgt := 29) (dk cd_Mo_cancel 14 rfl) rfl ?_
      refine v_mput (k := 0) (n := 0) (dk cd_Mo_cancel 16 rfl) fp_Mo_137_Mo (fun h => by cases h) hM (by decide) (fun A hM => ?_)
      refine v_aload_n (dk cd_Mo_cancel 17 rfl) rfl ?_
      refine v_mgi (n := 0) (dk cd_Mo_cancel 18 rfl) fg_Mo_137_Mo hM rfl (up1_same _ _ _) ?_
      refine v_if_le (tgt := 41) (dk cd_Mo_cancel 19 rfl) rfl (fun q => absurd q (by decide)) (fun _ => ?_)
      refine v_iconst (v := nI 0) (dk cd_Mo_cancel 20 rfl) (by decide) ?_
      exact v_iret (dk cd_Mo_cancel 21 rfl) rfl (pmX (S' := S) (k := 1) hM (R.thr _) (by simp only [spCancel, live_none hf]) rfl)
    · exact absurd q12 (by decide)
  · have hfi := fndI_some hf
    have hw := fnd_lt K.wf hf
    have hv := nwI_lt' K.wf hw
    refine v_aload_n (dk cd_Mo_cancel 0 rfl) rfl ?_
    refine v_iload_n (dk cd_Mo_cancel 1 rfl) rfl ?_
    refine v_rv (r := ("AreaWarningsModel", TT_Mo, 49)) (dk cd_Mo_cancel 2 rfl) cv_Mo_210 rfl hM.2.2.1 (as := [_]) rfl rfl (Nat.le_of_ble_eq_true rfl) (by simp [Value.category]) (Mo_find_ok hM R K hfi) ?_
    refine v_istore_n (dk cd_Mo_cancel 3 rfl) (by decide) rfl ?_
    refine v_aload_n (dk cd_Mo_cancel 4 rfl) rfl ?_
    refine v_aload_n (dk cd_Mo_cancel 5 rfl) rfl ?_
    refine v_iload_n (dk cd_Mo_cancel 6 rfl) rfl ?_
    refine v_rv (r := ("AreaWarningsModel", TT_Mo, 49)) (dk cd_Mo_cancel 7 rfl) cv_Mo_220 rfl hM.2.2.1 (as := [_]) rfl rfl (Nat.le_of_ble_eq_true rfl) (by simp [Value.category]) (Mo_isLive_ok hM R K hw) ?_
    refine v_ifeqB (tgt := 24) (dk cd_Mo_cancel 8 rfl) rfl (fun q12 => ?_) (fun q12 => ?_)
    · refine v_iconst (v := nI 1) (dk cd_Mo_cancel 13 rfl) (by decide) ?_
      refine v_goto (tgt := 29) (dk cd_Mo_cancel 14 rfl) rfl ?_
      refine v_mput (k := 0) (n := 0) (dk cd_Mo_cancel 16 rfl) fp_Mo_137_Mo (fun h => by cases h) hM (by decide) (fun A hM => ?_)
      refine v_aload_n (dk cd_Mo_cancel 17 rfl) rfl ?_
      refine v_mgi (n := 0) (dk cd_Mo_cancel 18 rfl) fg_Mo_137_Mo hM rfl (up1_same _ _ _) ?_
      refine v_if_le (tgt := 41) (dk cd_Mo_cancel 19 rfl) rfl (fun q => absurd q (by decide)) (fun _ => ?_)
      refine v_iconst (v := nI 0) (dk cd_Mo_cancel 20 rfl) (by decide) ?_
      exact v_iret (dk cd_Mo_cancel 21 rfl) rfl (pmX (S' := S) (k := 1) hM (R.thr _) (by simp [spCancel, live_some hf, q12]) rfl)
    · refine v_aload_n (dk cd_Mo_cancel 9 rfl) rfl ?_
      refine v_mgi (n := 5) (dk cd_Mo_cancel 10 rfl) fg_Mo_194_Mo hM rfl R.nv ?_
      refine v_bipush (v := nI 40) (dk cd_Mo_cancel 11 rfl) (by decide) ?_
      refine v_icmp_neN (tgt := 28) (dk cd_Mo_cancel 12 rfl) rfl (by omega) (by omega) (fun q21 => ?_) (fun q21 => ?_)
      · refine v_iconst (v := nI 0) (dk cd_Mo_cancel 15 rfl) (by decide) ?_
        refine v_mput (k := 0) (n := 0) (dk cd_Mo_cancel 16 rfl) fp_Mo_137_Mo (fun h => by cases h) hM (by decide) (fun A hM => ?_)
        refine v_aload_n (dk cd_Mo_cancel 17 rfl) rfl ?_
        refine v_mgi (n := 0) (dk cd_Mo_cancel 18 rfl) fg_Mo_137_Mo hM rfl (up1_same _ _ _) ?_
        refine v_if_le (tgt := 41) (dk cd_Mo_cancel 19 rfl) rfl (fun _ => ?_) (fun q => absurd (by decide) q)
        refine v_aload_n (dk cd_Mo_cancel 22 rfl) rfl ?_
        refine v_getf (dk cd_Mo_cancel 23 rfl) fg_Mo_59_Mo hM.2.2.1 (by rfl) ?_
        refine v_iload_n (dk cd_Mo_cancel 24 rfl) rfl ?_
        refine v_mldE (j := 16) (dk cd_Mo_cancel 25 rfl) hM (by decide) (by decide) (show _ < 12 by omega) (by decide) (R.wa w hw).2 ?_
        refine v_istore_n (dk cd_Mo_cancel 26 rfl) (by decide) rfl ?_
        refine v_aload_n (dk cd_Mo_cancel 27 rfl) rfl ?_
        refine v_getf (dk cd_Mo_cancel 28 rfl) fg_Mo_65_Mo hM.2.2.1 (by rfl) ?_
        refine v_aload_n (dk cd_Mo_cancel 29 rfl) rfl ?_
        refine v_iload_n (dk cd_Mo_cancel 30 rfl) rfl ?_
        refine v_aload_n (dk cd_Mo_cancel 31 rfl) rfl ?_
        refine v_getf (dk cd_Mo_cancel 32 rfl) fg_Mo_65_Mo hM.2.2.1 (by rfl) ?_
        refine v_iload_n (dk cd_Mo_cancel 33 rfl) rfl ?_
        refine v_mldE (j := 18) (dk cd_Mo_cancel 34 rfl) hM (by decide) (by decide) (show _ < 40 by omega) (by decide) (R.ve _ hv).2.1 ?_
        refine v_iconst (v := 1) (dk cd_Mo_cancel 35 rfl) (by decide) ?_
        refine v_iadd (dk cd_Mo_cancel 36 rfl) ?_
        refine v_aload_n (dk cd_Mo_cancel 37 rfl) rfl ?_
        refine v_getf (dk cd_Mo_cancel 38 rfl) fg_Mo_68_Mo hM.2.2.1 (by rfl) ?_
        refine v_iload_n (dk cd_Mo_cancel 39 rfl) rfl ?_
        refine v_mldE (j := 19) (dk cd_Mo_cancel 40 rfl) hM (by decide) (by decide) (show _ < 40 by omega) (by decide) (R.ve _ hv).2.2.1 ?_
        refine v_aload_n (dk cd_Mo_cancel 41 rfl) rfl ?_
        refine v_getf (dk cd_Mo_cancel 42 rfl) fg_Mo_71_Mo hM.2.2.1 (by rfl) ?_
        refine v_iload_n (dk cd_Mo_cancel 43 rfl) rfl ?_
        refine v_mldE (j := 20) (dk cd_Mo_cancel 44 rfl) hM (by decide) (by decide) (show _ < 40 by omega) (by decide) (R.ve _ hv).2.2.2.1 ?_
        refine v_iconst (v := 0) (dk cd_Mo_cancel 45 rfl) (by decide) ?_
        refine v_callv (r := ("AreaWarningsModel", TT_Mo, 49)) (dk cd_Mo_cancel 46 rfl) cv_Mo_213 rfl hM.2.2.1 (as := [_, _, _, _, _]) rfl rfl (Nat.le_of_ble_eq_true rfl) (by simp [Value.category]) (Mo_make_ok (b := false) hM R.nv (by omega) (by omega)) pm_no (fun v9 A9 hq => ?_)
        obtain ⟨e9, hM⟩ := hq
        cases e9
        refine v_mldE (j := 18) (dk cd_Mo_cancel 47 rfl) hM (by decide) (by decide) (show _ < 40 by omega) (by decide) mkF_at.2.1 ?_
        exact v_iret (dk cd_Mo_cancel 48 rfl) rfl (pmV hM ((R.thr _).cancel K hw) rfl (by simp only [spCancel, live_some hf, q12, if_true, if_neg q21]; rfl))
      · refine v_iconst (v := nI 1) (dk cd_Mo_cancel 13 rfl) (by decide) ?_
        refine v_goto (tgt := 29) (dk cd_Mo_cancel 14 rfl) rfl ?_
        refine v_mput (k := 0) (n := 0) (dk cd_Mo_cancel 16 rfl) fp_Mo_137_Mo (fun h => by cases h) hM (by decide) (fun A hM => ?_)
        refine v_aload_n (dk cd_Mo_cancel 17 rfl) rfl ?_
        refine v_mgi (n := 0) (dk cd_Mo_cancel 18 rfl) fg_Mo_137_Mo hM rfl (up1_same _ _ _) ?_
        refine v_if_le (tgt := 41) (dk cd_Mo_cancel 19 rfl) rfl (fun q => absurd q (by decide)) (fun _ => ?_)
        refine v_iconst (v := nI 0) (dk cd_Mo_cancel 20 rfl) (by decide) ?_
        exact v_iret (dk cd_Mo_cancel 21 rfl) rfl (pmX (S' := S) (k := 1) hM (R.thr _) (by simp [spCancel, live_some hf, q12, q21]) rfl)
set_option maxRecDepth 100000 in
set_option maxHeartbeats 4000000 in
theorem Mo_update_ok {id sev en sp : Int32} (hM : MH B a i f A) (R : Rel S t i f) (K : SOK S) : V (gg u) (d + 6) mm_Mo_update 0 [some (.ref a), some (.int id), some (.int sev), some (.int en), some (.int sp), none, none] [] A (PM (xc [1, 3, 2, 0]) B a (spUpdate S id sev en sp)) := by
  have w1 := K.wf.2.1
  have w2 := K.wf.2.2.1
  have w3 := K.wf.2.2.2.1
  have w4 := K.wf.2.2.2.2.1
  rcases hf : fnd S id with _ | w
  · have hfi := fndI_none hf
    refine v_iload_n (dk cd_Mo_update 0 rfl) rfl ?_
    refine v_iload (dk cd_Mo_update 1 rfl) rfl ?_
    refine v_rs (dk cd_Mo_update 2 rfl) cs_Mo_204 (as := [_, _]) rfl rfl (Nat.le_of_ble_eq_true rfl) (by simp [Value.category]) Mo_isSpan_ok ?_
    refine v_ifeqB (tgt := 23) (dk cd_Mo_update 3 rfl) rfl (fun q6 => ?_) (fun q6 => ?_)
    · refine v_iconst (v := nI 0) (dk cd_Mo_update 12 rfl) (by decide) ?_
      refine v_istore (dk cd_Mo_update 13 rfl) (by decide) rfl ?_
      refine v_aload_n (dk cd_Mo_update 14 rfl) rfl ?_
      refine v_iload_n (dk cd_Mo_update 15 rfl) rfl ?_
      refine v_rv (r := ("AreaWarningsModel", TT_Mo, 49)) (dk cd_Mo_update 16 rfl) cv_Mo_210 rfl hM.2.2.1 (as := [_]) rfl rfl (Nat.le_of_ble_eq_true rfl) (by simp [Value.category]) (Mo_find_ok hM R K hfi) ?_
      refine v_istore (dk cd_Mo_update 17 rfl) (by decide) rfl ?_
      refine v_aload_n (dk cd_Mo_update 18 rfl) rfl ?_
      refine v_iload (dk cd_Mo_update 19 rfl) rfl ?_
      refine v_if_ne (tgt := 43) (dk cd_Mo_update 20 rfl) rfl (fun q => absurd rfl q) (fun _ => ?_)
      refine v_iconst (v := nI 1) (dk cd_Mo_update 21 rfl) (by decide) ?_
      refine v_goto (tgt := 77) (dk cd_Mo_update 22 rfl) rfl ?_
      refine v_mput (k := 0) (n := 0) (dk cd_Mo_update 39 rfl) fp_Mo_137_Mo (fun h => by cases h) hM (by decide) (fun A hM => ?_)
      refine v_aload_n (dk cd_Mo_update 40 rfl) rfl ?_
      refine v_mgi (n := 0) (dk cd_Mo_update 41 rfl) fg_Mo_137_Mo hM rfl (up1_same _ _ _) ?_
      refine v_if_le (tgt := 89) (dk cd_Mo_update 42 rfl) rfl (fun q => absurd q (by decide)) (fun _ => ?_)
      refine v_iconst (v := nI 0) (dk cd_Mo_update 43 rfl) (by decide) ?_
      exact v_iret (dk cd_Mo_update 44 rfl) rfl (pmX (S' := S) (k := 0) hM (R.thr _) (by unfold spUpdate; rw [if_neg (fun h => by simp [h.1, h.2.1] at q6)]) rfl)
    · refine v_iload_n (dk cd_Mo_update 4 rfl) rfl ?_
      refine v_aload_n (dk cd_Mo_update 5 rfl) rfl ?_
      refine v_mgi (n := 1) (dk cd_Mo_update 6 rfl) fg_Mo_187_Mo hM rfl R.ck ?_
      refine v_iconst (v := 1) (dk cd_Mo_update 7 rfl) (by decide) ?_
      refine v_iadd (dk cd_Mo_update 8 rfl) ?_
      refine v_icmp_le (tgt := 23) (dk cd_Mo_update 9 rfl) rfl (fun q16 => ?_) (fun q16 => ?_)
      · refine v_iconst (v := nI 0) (dk cd_Mo_update 12 rfl) (by decide) ?_
        refine v_istore (dk cd_Mo_update 13 rfl) (by decide) rfl ?_
        refine v_aload_n (dk cd_Mo_update 14 rfl) rfl ?_
        refine v_iload_n (dk cd_Mo_update 15 rfl) rfl ?_
        refine v_rv (r := ("AreaWarningsModel", TT_Mo, 49)) (dk cd_Mo_update 16 rfl) cv_Mo_210 rfl hM.2.2.1 (as := [_]) rfl rfl (Nat.le_of_ble_eq_true rfl) (by simp [Value.category]) (Mo_find_ok hM R K hfi) ?_
        refine v_istore (dk cd_Mo_update 17 rfl) (by decide) rfl ?_
        refine v_aload_n (dk cd_Mo_update 18 rfl) rfl ?_
        refine v_iload (dk cd_Mo_update 19 rfl) rfl ?_
        refine v_if_ne (tgt := 43) (dk cd_Mo_update 20 rfl) rfl (fun q => absurd rfl q) (fun _ => ?_)
        refine v_iconst (v := nI 1) (dk cd_Mo_update 21 rfl) (by decide) ?_
        refine v_goto (tgt := 77) (dk cd_Mo_update 22 rfl) rfl ?_
        refine v_mput (k := 0) (n := 0) (dk cd_Mo_update 39 rfl) fp_Mo_137_Mo (fun h => by cases h) hM (by decide) (fun A hM => ?_)
        refine v_aload_n (dk cd_Mo_update 40 rfl) rfl ?_
        refine v_mgi (n := 0) (dk cd_Mo_update 41 rfl) fg_Mo_137_Mo hM rfl (up1_same _ _ _) ?_
        refine v_if_le (tgt := 89) (dk cd_Mo_update 42 rfl) rfl (fun q => absurd q (by decide)) (fun _ => ?_)
        refine v_iconst (v := nI 0) (dk cd_Mo_update 43 rfl) (by decide) ?_
        exact v_iret (dk cd_Mo_update 44 rfl) rfl (pmX (S' := S) (k := 0) hM (R.thr _) (by unfold spUpdate; rw [if_neg (fun h => absurd h.2.2 (Int32.not_lt.mpr q16))]) rfl)
      · have h6 := Bool.and_eq_true_iff.mp q6
        refine v_iconst (v := nI 1) (dk cd_Mo_update 10 rfl) (by decide) ?_
        refine v_goto (tgt := 24) (dk cd_Mo_update 11 rfl) rfl ?_
        refine v_istore (dk cd_Mo_update 13 rfl) (by decide) rfl ?_
        refine v_aload_n (dk cd_Mo_update 14 rfl) rfl ?_
        refine v_iload_n (dk cd_Mo_update 15 rfl) rfl ?_
        refine v_rv (r := ("AreaWarningsModel", TT_Mo, 49)) (dk cd_Mo_update 16 rfl) cv_Mo_210 rfl hM.2.2.1 (as := [_]) rfl rfl (Nat.le_of_ble_eq_true rfl) (by simp [Value.category]) (Mo_find_ok hM R K hfi) ?_
        refine v_istore (dk cd_Mo_update 17 rfl) (by decide) rfl ?_
        refine v_aload_n (dk cd_Mo_update 18 rfl) rfl ?_
        refine v_iload (dk cd_Mo_update 19 rfl) rfl ?_
        refine v_if_ne (tgt := 43) (dk cd_Mo_update 20 rfl) rfl (fun _ => ?_) (fun q => absurd q (by decide))
        refine v_aload_n (dk cd_Mo_update 23 rfl) rfl ?_
        refine v_rv (r := ("AreaWarningsModel", TT_Mo, 49)) (dk cd_Mo_update 24 rfl) cv_Mo_207 rfl hM.2.2.1 (as := []) rfl rfl (Nat.le_of_ble_eq_true rfl) (by simp [Value.category]) (Mo_isSaid_ok hM R K) ?_
        refine v_ifneB (tgt := 54) (dk cd_Mo_update 25 rfl) rfl (fun q47 => ?_) (fun q47 => ?_)
        · refine v_aload_n (dk cd_Mo_update 28 rfl) rfl ?_
          refine v_iload (dk cd_Mo_update 29 rfl) rfl ?_
          refine v_rv (r := ("AreaWarningsModel", TT_Mo, 49)) (dk cd_Mo_update 30 rfl) cv_Mo_220 rfl hM.2.2.1 (as := [_]) rfl rfl (Nat.le_of_ble_eq_true rfl) (by simp [Value.category]) (Mo_isLive_no hM (by decide)) ?_
          refine v_ifeqB (tgt := 72) (dk cd_Mo_update 31 rfl) rfl (fun q60 => ?_) (fun q60 => ?_)
          · refine v_iconst (v := nI 3) (dk cd_Mo_update 36 rfl) (by decide) ?_
            refine v_goto (tgt := 77) (dk cd_Mo_update 37 rfl) rfl ?_
            refine v_mput (k := 0) (n := 0) (dk cd_Mo_update 39 rfl) fp_Mo_137_Mo (fun h => by cases h) hM (by decide) (fun A hM => ?_)
            refine v_aload_n (dk cd_Mo_update 40 rfl) rfl ?_
            refine v_mgi (n := 0) (dk cd_Mo_update 41 rfl) fg_Mo_137_Mo hM rfl (up1_same _ _ _) ?_
            refine v_if_le (tgt := 89) (dk cd_Mo_update 42 rfl) rfl (fun q => absurd q (by decide)) (fun _ => ?_)
            refine v_iconst (v := nI 0) (dk cd_Mo_update 43 rfl) (by decide) ?_
            exact v_iret (dk cd_Mo_update 44 rfl) rfl (pmX (S' := S) (k := 1) hM (R.thr _) (by unfold spUpdate; rw [if_pos ⟨h6.1, h6.2, Int32.not_le.mp q16⟩, if_pos q47, live_none hf]) rfl)
          · exact absurd q60 (by decide)
        · refine v_iconst (v := nI 2) (dk cd_Mo_update 26 rfl) (by decide) ?_
          refine v_goto (tgt := 77) (dk cd_Mo_update 27 rfl) rfl ?_
          refine v_mput (k := 0) (n := 0) (dk cd_Mo_update 39 rfl) fp_Mo_137_Mo (fun h => by cases h) hM (by decide) (fun A hM => ?_)
          refine v_aload_n (dk cd_Mo_update 40 rfl) rfl ?_
          refine v_mgi (n := 0) (dk cd_Mo_update 41 rfl) fg_Mo_137_Mo hM rfl (up1_same _ _ _) ?_
          refine v_if_le (tgt := 89) (dk cd_Mo_update 42 rfl) rfl (fun q => absurd q (by decide)) (fun _ => ?_)
          refine v_iconst (v := nI 0) (dk cd_Mo_update 43 rfl) (by decide) ?_
          exact v_iret (dk cd_Mo_update 44 rfl) rfl (pmX (S' := S) (k := 2) hM (R.thr _) (by unfold spUpdate; rw [if_pos ⟨h6.1, h6.2, Int32.not_le.mp q16⟩, if_neg (by simp [q47])]) rfl)
  · have hfi := fndI_some hf
    have hw := fnd_lt K.wf hf
    have hv := nwI_lt' K.wf hw
    refine v_iload_n (dk cd_Mo_update 0 rfl) rfl ?_
    refine v_iload (dk cd_Mo_update 1 rfl) rfl ?_
    refine v_rs (dk cd_Mo_update 2 rfl) cs_Mo_204 (as := [_, _]) rfl rfl (Nat.le_of_ble_eq_true rfl) (by simp [Value.category]) Mo_isSpan_ok ?_
    refine v_ifeqB (tgt := 23) (dk cd_Mo_update 3 rfl) rfl (fun q6 => ?_) (fun q6 => ?_)
    · refine v_iconst (v := nI 0) (dk cd_Mo_update 12 rfl) (by decide) ?_
      refine v_istore (dk cd_Mo_update 13 rfl) (by decide) rfl ?_
      refine v_aload_n (dk cd_Mo_update 14 rfl) rfl ?_
      refine v_iload_n (dk cd_Mo_update 15 rfl) rfl ?_
      refine v_rv (r := ("AreaWarningsModel", TT_Mo, 49)) (dk cd_Mo_update 16 rfl) cv_Mo_210 rfl hM.2.2.1 (as := [_]) rfl rfl (Nat.le_of_ble_eq_true rfl) (by simp [Value.category]) (Mo_find_ok hM R K hfi) ?_
      refine v_istore (dk cd_Mo_update 17 rfl) (by decide) rfl ?_
      refine v_aload_n (dk cd_Mo_update 18 rfl) rfl ?_
      refine v_iload (dk cd_Mo_update 19 rfl) rfl ?_
      refine v_if_ne (tgt := 43) (dk cd_Mo_update 20 rfl) rfl (fun q => absurd rfl q) (fun _ => ?_)
      refine v_iconst (v := nI 1) (dk cd_Mo_update 21 rfl) (by decide) ?_
      refine v_goto (tgt := 77) (dk cd_Mo_update 22 rfl) rfl ?_
      refine v_mput (k := 0) (n := 0) (dk cd_Mo_update 39 rfl) fp_Mo_137_Mo (fun h => by cases h) hM (by decide) (fun A hM => ?_)
      refine v_aload_n (dk cd_Mo_update 40 rfl) rfl ?_
      refine v_mgi (n := 0) (dk cd_Mo_update 41 rfl) fg_Mo_137_Mo hM rfl (up1_same _ _ _) ?_
      refine v_if_le (tgt := 89) (dk cd_Mo_update 42 rfl) rfl (fun q => absurd q (by decide)) (fun _ => ?_)
      refine v_iconst (v := nI 0) (dk cd_Mo_update 43 rfl) (by decide) ?_
      exact v_iret (dk cd_Mo_update 44 rfl) rfl (pmX (S' := S) (k := 0) hM (R.thr _) (by unfold spUpdate; rw [if_neg (fun h => by simp [h.1, h.2.1] at q6)]) rfl)
    · refine v_iload_n (dk cd_Mo_update 4 rfl) rfl ?_
      refine v_aload_n (dk cd_Mo_update 5 rfl) rfl ?_
      refine v_mgi (n := 1) (dk cd_Mo_update 6 rfl) fg_Mo_187_Mo hM rfl R.ck ?_
      refine v_iconst (v := 1) (dk cd_Mo_update 7 rfl) (by decide) ?_
      refine v_iadd (dk cd_Mo_update 8 rfl) ?_
      refine v_icmp_le (tgt := 23) (dk cd_Mo_update 9 rfl) rfl (fun q16 => ?_) (fun q16 => ?_)
      · refine v_iconst (v := nI 0) (dk cd_Mo_update 12 rfl) (by decide) ?_
        refine v_istore (dk cd_Mo_update 13 rfl) (by decide) rfl ?_
        refine v_aload_n (dk cd_Mo_update 14 rfl) rfl ?_
        refine v_iload_n (dk cd_Mo_update 15 rfl) rfl ?_
        refine v_rv (r := ("AreaWarningsModel", TT_Mo, 49)) (dk cd_Mo_update 16 rfl) cv_Mo_210 rfl hM.2.2.1 (as := [_]) rfl rfl (Nat.le_of_ble_eq_true rfl) (by simp [Value.category]) (Mo_find_ok hM R K hfi) ?_
        refine v_istore (dk cd_Mo_update 17 rfl) (by decide) rfl ?_
        refine v_aload_n (dk cd_Mo_update 18 rfl) rfl ?_
        refine v_iload (dk cd_Mo_update 19 rfl) rfl ?_
        refine v_if_ne (tgt := 43) (dk cd_Mo_update 20 rfl) rfl (fun q => absurd rfl q) (fun _ => ?_)
        refine v_iconst (v := nI 1) (dk cd_Mo_update 21 rfl) (by decide) ?_
        refine v_goto (tgt := 77) (dk cd_Mo_update 22 rfl) rfl ?_
        refine v_mput (k := 0) (n := 0) (dk cd_Mo_update 39 rfl) fp_Mo_137_Mo (fun h => by cases h) hM (by decide) (fun A hM => ?_)
        refine v_aload_n (dk cd_Mo_update 40 rfl) rfl ?_
        refine v_mgi (n := 0) (dk cd_Mo_update 41 rfl) fg_Mo_137_Mo hM rfl (up1_same _ _ _) ?_
        refine v_if_le (tgt := 89) (dk cd_Mo_update 42 rfl) rfl (fun q => absurd q (by decide)) (fun _ => ?_)
        refine v_iconst (v := nI 0) (dk cd_Mo_update 43 rfl) (by decide) ?_
        exact v_iret (dk cd_Mo_update 44 rfl) rfl (pmX (S' := S) (k := 0) hM (R.thr _) (by unfold spUpdate; rw [if_neg (fun h => absurd h.2.2 (Int32.not_lt.mpr q16))]) rfl)
      · have h6 := Bool.and_eq_true_iff.mp q6
        refine v_iconst (v := nI 1) (dk cd_Mo_update 10 rfl) (by decide) ?_
        refine v_goto (tgt := 24) (dk cd_Mo_update 11 rfl) rfl ?_
        refine v_istore (dk cd_Mo_update 13 rfl) (by decide) rfl ?_
        refine v_aload_n (dk cd_Mo_update 14 rfl) rfl ?_
        refine v_iload_n (dk cd_Mo_update 15 rfl) rfl ?_
        refine v_rv (r := ("AreaWarningsModel", TT_Mo, 49)) (dk cd_Mo_update 16 rfl) cv_Mo_210 rfl hM.2.2.1 (as := [_]) rfl rfl (Nat.le_of_ble_eq_true rfl) (by simp [Value.category]) (Mo_find_ok hM R K hfi) ?_
        refine v_istore (dk cd_Mo_update 17 rfl) (by decide) rfl ?_
        refine v_aload_n (dk cd_Mo_update 18 rfl) rfl ?_
        refine v_iload (dk cd_Mo_update 19 rfl) rfl ?_
        refine v_if_ne (tgt := 43) (dk cd_Mo_update 20 rfl) rfl (fun _ => ?_) (fun q => absurd q (by decide))
        refine v_aload_n (dk cd_Mo_update 23 rfl) rfl ?_
        refine v_rv (r := ("AreaWarningsModel", TT_Mo, 49)) (dk cd_Mo_update 24 rfl) cv_Mo_207 rfl hM.2.2.1 (as := []) rfl rfl (Nat.le_of_ble_eq_true rfl) (by simp [Value.category]) (Mo_isSaid_ok hM R K) ?_
        refine v_ifneB (tgt := 54) (dk cd_Mo_update 25 rfl) rfl (fun q47 => ?_) (fun q47 => ?_)
        · refine v_aload_n (dk cd_Mo_update 28 rfl) rfl ?_
          refine v_iload (dk cd_Mo_update 29 rfl) rfl ?_
          refine v_rv (r := ("AreaWarningsModel", TT_Mo, 49)) (dk cd_Mo_update 30 rfl) cv_Mo_220 rfl hM.2.2.1 (as := [_]) rfl rfl (Nat.le_of_ble_eq_true rfl) (by simp [Value.category]) (Mo_isLive_ok hM R K hw) ?_
          refine v_ifeqB (tgt := 72) (dk cd_Mo_update 31 rfl) rfl (fun q60 => ?_) (fun q60 => ?_)
          · refine v_iconst (v := nI 3) (dk cd_Mo_update 36 rfl) (by decide) ?_
            refine v_goto (tgt := 77) (dk cd_Mo_update 37 rfl) rfl ?_
            refine v_mput (k := 0) (n := 0) (dk cd_Mo_update 39 rfl) fp_Mo_137_Mo (fun h => by cases h) hM (by decide) (fun A hM => ?_)
            refine v_aload_n (dk cd_Mo_update 40 rfl) rfl ?_
            refine v_mgi (n := 0) (dk cd_Mo_update 41 rfl) fg_Mo_137_Mo hM rfl (up1_same _ _ _) ?_
            refine v_if_le (tgt := 89) (dk cd_Mo_update 42 rfl) rfl (fun q => absurd q (by decide)) (fun _ => ?_)
            refine v_iconst (v := nI 0) (dk cd_Mo_update 43 rfl) (by decide) ?_
            exact v_iret (dk cd_Mo_update 44 rfl) rfl (pmX (S' := S) (k := 1) hM (R.thr _) (by unfold spUpdate; rw [if_pos ⟨h6.1, h6.2, Int32.not_le.mp q16⟩, if_pos q47, live_some hf, if_neg (by simp [q60])]) rfl)
          · refine v_aload_n (dk cd_Mo_update 32 rfl) rfl ?_
            refine v_mgi (n := 5) (dk cd_Mo_update 33 rfl) fg_Mo_194_Mo hM rfl R.nv ?_
            refine v_bipush (v := nI 40) (dk cd_Mo_update 34 rfl) (by decide) ?_
            refine v_icmp_neN (tgt := 76) (dk cd_Mo_update 35 rfl) rfl (by omega) (by omega) (fun q69 => ?_) (fun q69 => ?_)
            · refine v_iconst (v := nI 0) (dk cd_Mo_update 38 rfl) (by decide) ?_
              refine v_mput (k := 0) (n := 0) (dk cd_Mo_update 39 rfl) fp_Mo_137_Mo (fun h => by cases h) hM (by decide) (fun A hM => ?_)
              refine v_aload_n (dk cd_Mo_update 40 rfl) rfl ?_
              refine v_mgi (n := 0) (dk cd_Mo_update 41 rfl) fg_Mo_137_Mo hM rfl (up1_same _ _ _) ?_
              refine v_if_le (tgt := 89) (dk cd_Mo_update 42 rfl) rfl (fun _ => ?_) (fun q => absurd (by decide) q)
              refine v_aload_n (dk cd_Mo_update 45 rfl) rfl ?_
              refine v_aload_n (dk cd_Mo_update 46 rfl) rfl ?_
              refine v_iload (dk cd_Mo_update 47 rfl) rfl ?_
              refine v_aload_n (dk cd_Mo_update 48 rfl) rfl ?_
              refine v_getf (dk cd_Mo_update 49 rfl) fg_Mo_65_Mo hM.2.2.1 (by rfl) ?_
              refine v_aload_n (dk cd_Mo_update 50 rfl) rfl ?_
              refine v_getf (dk cd_Mo_update 51 rfl) fg_Mo_59_Mo hM.2.2.1 (by rfl) ?_
              refine v_iload (dk cd_Mo_update 52 rfl) rfl ?_
              refine v_mldE (j := 16) (dk cd_Mo_update 53 rfl) hM (by decide) (by decide) (show _ < 12 by omega) (by decide) (R.wa w hw).2 ?_
              refine v_mldE (j := 18) (dk cd_Mo_update 54 rfl) hM (by decide) (by decide) (show _ < 40 by omega) (by decide) (R.ve _ hv).2.1 ?_
              refine v_iconst (v := 1) (dk cd_Mo_update 55 rfl) (by decide) ?_
              refine v_iadd (dk cd_Mo_update 56 rfl) ?_
              refine v_iload_n (dk cd_Mo_update 57 rfl) rfl ?_
              refine v_iload_n (dk cd_Mo_update 58 rfl) rfl ?_
              refine v_iconst (v := 1) (dk cd_Mo_update 59 rfl) (by decide) ?_
              refine v_callv (r := ("AreaWarningsModel", TT_Mo, 49)) (dk cd_Mo_update 60 rfl) cv_Mo_213 rfl hM.2.2.1 (as := [_, _, _, _, _]) rfl rfl (Nat.le_of_ble_eq_true rfl) (by simp [Value.category]) (Mo_make_ok (b := true) hM R.nv (by omega) (by omega)) pm_no (fun v9 A9 hq => ?_)
              obtain ⟨e9, hM⟩ := hq
              cases e9
              refine v_aload_n (dk cd_Mo_update 61 rfl) rfl ?_
              refine v_mgi (n := 1) (dk cd_Mo_update 62 rfl) fg_Mo_187_Mo hM rfl R.ck ?_
              refine v_iconst (v := 1) (dk cd_Mo_update 63 rfl) (by decide) ?_
              refine v_iadd (dk cd_Mo_update 64 rfl) ?_
              refine v_iload (dk cd_Mo_update 65 rfl) rfl ?_
              refine v_callv (r := ("AreaWarningsModel", TT_Mo, 49)) (dk cd_Mo_update 66 rfl) cv_Mo_217 rfl hM.2.2.1 (as := [_, _, _]) rfl rfl (Nat.le_of_ble_eq_true rfl) (by simp [Value.category]) (Mo_fill_ok (n := (sTyped S).1.length) (m := (sCells S).length) hM R.ty.1 K.wt.1 (by omega) R.nc w2) pf_no (fun v9 A9 hq => ?_)
              obtain ⟨i1, f1, e9, hM, rfl, hF⟩ := hq
              cases e9
              have hval : mCv f1 (sVers S).length (sTyped S).1.length (sCells S).length = cvN S (sTyped S).1 (sCells S).length := mCv_eq K K.gt (fun k hk => by rw [(hF.2.2.2.2.2.1 k hk).1, (hF.2.2.2.2.2.1 k hk).2, mkF_off (by omega), mkF_off (by omega)]; exact R.ty.2.1 k hk) (fun k c hc => by rw [hF.1 0 (by omega), hF.1 1 (by omega), hF.1 2 (by omega), mkF_off (by omega), mkF_off (by omega), mkF_off (by omega)]; exact (R.ce k c hc).1) _ (Nat.le_refl _)
              exact v_iret (dk cd_Mo_update 67 rfl) rfl (pmV hM (Rel.update (cv := cvTo S (sTyped S).1 (sCells S).length) (R.thr (nI 0)) K hw hF) rfl (by
  rw [hval]
  unfold spUpdate
  rw [if_pos ⟨h6.1, h6.2, Int32.not_le.mp q16⟩, if_pos q47, live_some hf, if_pos q60]
  simp only [if_neg q69]
  rfl))
            · refine v_iconst (v := nI 3) (dk cd_Mo_update 36 rfl) (by decide) ?_
              refine v_goto (tgt := 77) (dk cd_Mo_update 37 rfl) rfl ?_
              refine v_mput (k := 0) (n := 0) (dk cd_Mo_update 39 rfl) fp_Mo_137_Mo (fun h => by cases h) hM (by decide) (fun A hM => ?_)
              refine v_aload_n (dk cd_Mo_update 40 rfl) rfl ?_
              refine v_mgi (n := 0) (dk cd_Mo_update 41 rfl) fg_Mo_137_Mo hM rfl (up1_same _ _ _) ?_
              refine v_if_le (tgt := 89) (dk cd_Mo_update 42 rfl) rfl (fun q => absurd q (by decide)) (fun _ => ?_)
              refine v_iconst (v := nI 0) (dk cd_Mo_update 43 rfl) (by decide) ?_
              exact v_iret (dk cd_Mo_update 44 rfl) rfl (pmX (S' := S) (k := 1) hM (R.thr _) (by unfold spUpdate; rw [if_pos ⟨h6.1, h6.2, Int32.not_le.mp q16⟩, if_pos q47, live_some hf, if_pos q60]; simp only [if_pos q69]) rfl)
        · refine v_iconst (v := nI 2) (dk cd_Mo_update 26 rfl) (by decide) ?_
          refine v_goto (tgt := 77) (dk cd_Mo_update 27 rfl) rfl ?_
          refine v_mput (k := 0) (n := 0) (dk cd_Mo_update 39 rfl) fp_Mo_137_Mo (fun h => by cases h) hM (by decide) (fun A hM => ?_)
          refine v_aload_n (dk cd_Mo_update 40 rfl) rfl ?_
          refine v_mgi (n := 0) (dk cd_Mo_update 41 rfl) fg_Mo_137_Mo hM rfl (up1_same _ _ _) ?_
          refine v_if_le (tgt := 89) (dk cd_Mo_update 42 rfl) rfl (fun q => absurd q (by decide)) (fun _ => ?_)
          refine v_iconst (v := nI 0) (dk cd_Mo_update 43 rfl) (by decide) ?_
          exact v_iret (dk cd_Mo_update 44 rfl) rfl (pmX (S' := S) (k := 2) hM (R.thr _) (by unfold spUpdate; rw [if_pos ⟨h6.1, h6.2, Int32.not_le.mp q16⟩, if_neg (by simp [q47])]) rfl)
set_option maxRecDepth 100000 in
set_option maxHeartbeats 4000000 in
theorem Mo_issue_ok {id sev bg en sp : Int32} (hM : MH B a i f A) (R : Rel S t i f) (K : SOK S) : V (gg u) (d + 6) mm_Mo_issue 0 [some (.ref a), some (.int id), some (.int sev), some (.int bg), some (.int en), some (.int sp), none] [] A (PM (xc [1, 3, 2, 0]) B a (spIssue S id sev bg en sp)) := by
  have w1 := K.wf.2.1
  have w2 := K.wf.2.2.1
  have w3 := K.wf.2.2.2.1
  have w4 := K.wf.2.2.2.2.1
  rcases hf : fnd S id with _ | w
  · have hfi := fndI_none hf
    refine v_iload_n (dk cd_Mo_issue 0 rfl) rfl ?_
    refine v_iconst (v := 1) (dk cd_Mo_issue 1 rfl) (by decide) ?_
    refine v_icmp_lt (tgt := 39) (dk cd_Mo_issue 2 rfl) rfl (fun q2 => ?_) (fun q2 => ?_)
    · refine v_iconst (v := nI 0) (dk cd_Mo_issue 19 rfl) (by decide) ?_
      refine v_istore (dk cd_Mo_issue 20 rfl) (by decide) rfl ?_
      refine v_aload_n (dk cd_Mo_issue 21 rfl) rfl ?_
      refine v_iload (dk cd_Mo_issue 22 rfl) rfl ?_
      refine v_if_ne (tgt := 52) (dk cd_Mo_issue 23 rfl) rfl (fun q => absurd rfl q) (fun _ => ?_)
      refine v_iconst (v := nI 1) (dk cd_Mo_issue 24 rfl) (by decide) ?_
      refine v_goto (tgt := 94) (dk cd_Mo_issue 25 rfl) rfl ?_
      refine v_mput (k := 0) (n := 0) (dk cd_Mo_issue 46 rfl) fp_Mo_137_Mo (fun h => by cases h) hM (by decide) (fun A hM => ?_)
      refine v_aload_n (dk cd_Mo_issue 47 rfl) rfl ?_
      refine v_mgi (n := 0) (dk cd_Mo_issue 48 rfl) fg_Mo_137_Mo hM rfl (up1_same _ _ _) ?_
      refine v_if_le (tgt := 106) (dk cd_Mo_issue 49 rfl) rfl (fun q => absurd q (by decide)) (fun _ => ?_)
      refine v_iconst (v := nI 0) (dk cd_Mo_issue 50 rfl) (by decide) ?_
      exact v_iret (dk cd_Mo_issue 51 rfl) rfl (pmX (S' := S) (k := 0) hM (R.thr _) (by unfold spIssue; rw [if_neg (fun h => absurd q2 h.1)]) rfl)
    · refine v_iload_n (dk cd_Mo_issue 3 rfl) rfl ?_
      refine v_sipush (v := 1000) (dk cd_Mo_issue 4 rfl) (by decide) ?_
      refine v_icmp_gt (tgt := 39) (dk cd_Mo_issue 5 rfl) rfl (fun q9 => ?_) (fun q9 => ?_)
      · refine v_iconst (v := nI 0) (dk cd_Mo_issue 19 rfl) (by decide) ?_
        refine v_istore (dk cd_Mo_issue 20 rfl) (by decide) rfl ?_
        refine v_aload_n (dk cd_Mo_issue 21 rfl) rfl ?_
        refine v_iload (dk cd_Mo_issue 22 rfl) rfl ?_
        refine v_if_ne (tgt := 52) (dk cd_Mo_issue 23 rfl) rfl (fun q => absurd rfl q) (fun _ => ?_)
        refine v_iconst (v := nI 1) (dk cd_Mo_issue 24 rfl) (by decide) ?_
        refine v_goto (tgt := 94) (dk cd_Mo_issue 25 rfl) rfl ?_
        refine v_mput (k := 0) (n := 0) (dk cd_Mo_issue 46 rfl) fp_Mo_137_Mo (fun h => by cases h) hM (by decide) (fun A hM => ?_)
        refine v_aload_n (dk cd_Mo_issue 47 rfl) rfl ?_
        refine v_mgi (n := 0) (dk cd_Mo_issue 48 rfl) fg_Mo_137_Mo hM rfl (up1_same _ _ _) ?_
        refine v_if_le (tgt := 106) (dk cd_Mo_issue 49 rfl) rfl (fun q => absurd q (by decide)) (fun _ => ?_)
        refine v_iconst (v := nI 0) (dk cd_Mo_issue 50 rfl) (by decide) ?_
        exact v_iret (dk cd_Mo_issue 51 rfl) rfl (pmX (S' := S) (k := 0) hM (R.thr _) (by unfold spIssue; rw [if_neg (fun h => absurd q9 h.2.1)]) rfl)
      · refine v_iload_n (dk cd_Mo_issue 6 rfl) rfl ?_
        refine v_iload (dk cd_Mo_issue 7 rfl) rfl ?_
        refine v_rs (dk cd_Mo_issue 8 rfl) cs_Mo_204 (as := [_, _]) rfl rfl (Nat.le_of_ble_eq_true rfl) (by simp [Value.category]) Mo_isSpan_ok ?_
        refine v_ifeqB (tgt := 39) (dk cd_Mo_issue 9 rfl) rfl (fun q18 => ?_) (fun q18 => ?_)
        · refine v_iconst (v := nI 0) (dk cd_Mo_issue 19 rfl) (by decide) ?_
          refine v_istore (dk cd_Mo_issue 20 rfl) (by decide) rfl ?_
          refine v_aload_n (dk cd_Mo_issue 21 rfl) rfl ?_
          refine v_iload (dk cd_Mo_issue 22 rfl) rfl ?_
          refine v_if_ne (tgt := 52) (dk cd_Mo_issue 23 rfl) rfl (fun q => absurd rfl q) (fun _ => ?_)
          refine v_iconst (v := nI 1) (dk cd_Mo_issue 24 rfl) (by decide) ?_
          refine v_goto (tgt := 94) (dk cd_Mo_issue 25 rfl) rfl ?_
          refine v_mput (k := 0) (n := 0) (dk cd_Mo_issue 46 rfl) fp_Mo_137_Mo (fun h => by cases h) hM (by decide) (fun A hM => ?_)
          refine v_aload_n (dk cd_Mo_issue 47 rfl) rfl ?_
          refine v_mgi (n := 0) (dk cd_Mo_issue 48 rfl) fg_Mo_137_Mo hM rfl (up1_same _ _ _) ?_
          refine v_if_le (tgt := 106) (dk cd_Mo_issue 49 rfl) rfl (fun q => absurd q (by decide)) (fun _ => ?_)
          refine v_iconst (v := nI 0) (dk cd_Mo_issue 50 rfl) (by decide) ?_
          exact v_iret (dk cd_Mo_issue 51 rfl) rfl (pmX (S' := S) (k := 0) hM (R.thr _) (by unfold spIssue; rw [if_neg (fun h => by simp [h.2.2.1, h.2.2.2.1] at q18)]) rfl)
        · refine v_iload_n (dk cd_Mo_issue 10 rfl) rfl ?_
          refine v_aload_n (dk cd_Mo_issue 11 rfl) rfl ?_
          refine v_mgi (n := 1) (dk cd_Mo_issue 12 rfl) fg_Mo_187_Mo hM rfl R.ck ?_
          refine v_icmp_le (tgt := 39) (dk cd_Mo_issue 13 rfl) rfl (fun q26 => ?_) (fun q26 => ?_)
          · refine v_iconst (v := nI 0) (dk cd_Mo_issue 19 rfl) (by decide) ?_
            refine v_istore (dk cd_Mo_issue 20 rfl) (by decide) rfl ?_
            refine v_aload_n (dk cd_Mo_issue 21 rfl) rfl ?_
            refine v_iload (dk cd_Mo_issue 22 rfl) rfl ?_
            refine v_if_ne (tgt := 52) (dk cd_Mo_issue 23 rfl) rfl (fun q => absurd rfl q) (fun _ => ?_)
            refine v_iconst (v := nI 1) (dk cd_Mo_issue 24 rfl) (by decide) ?_
            refine v_goto (tgt := 94) (dk cd_Mo_issue 25 rfl) rfl ?_
            refine v_mput (k := 0) (n := 0) (dk cd_Mo_issue 46 rfl) fp_Mo_137_Mo (fun h => by cases h) hM (by decide) (fun A hM => ?_)
            refine v_aload_n (dk cd_Mo_issue 47 rfl) rfl ?_
            refine v_mgi (n := 0) (dk cd_Mo_issue 48 rfl) fg_Mo_137_Mo hM rfl (up1_same _ _ _) ?_
            refine v_if_le (tgt := 106) (dk cd_Mo_issue 49 rfl) rfl (fun q => absurd q (by decide)) (fun _ => ?_)
            refine v_iconst (v := nI 0) (dk cd_Mo_issue 50 rfl) (by decide) ?_
            exact v_iret (dk cd_Mo_issue 51 rfl) rfl (pmX (S' := S) (k := 0) hM (R.thr _) (by unfold spIssue; rw [if_neg (fun h => absurd q26 h.2.2.2.2.1)]) rfl)
          · refine v_iload (dk cd_Mo_issue 14 rfl) rfl ?_
            refine v_iload_n (dk cd_Mo_issue 15 rfl) rfl ?_
            refine v_icmp_le (tgt := 39) (dk cd_Mo_issue 16 rfl) rfl (fun q32 => ?_) (fun q32 => ?_)
            · refine v_iconst (v := nI 0) (dk cd_Mo_issue 19 rfl) (by decide) ?_
              refine v_istore (dk cd_Mo_issue 20 rfl) (by decide) rfl ?_
              refine v_aload_n (dk cd_Mo_issue 21 rfl) rfl ?_
              refine v_iload (dk cd_Mo_issue 22 rfl) rfl ?_
              refine v_if_ne (tgt := 52) (dk cd_Mo_issue 23 rfl) rfl (fun q => absurd rfl q) (fun _ => ?_)
              refine v_iconst (v := nI 1) (dk cd_Mo_issue 24 rfl) (by decide) ?_
              refine v_goto (tgt := 94) (dk cd_Mo_issue 25 rfl) rfl ?_
              refine v_mput (k := 0) (n := 0) (dk cd_Mo_issue 46 rfl) fp_Mo_137_Mo (fun h => by cases h) hM (by decide) (fun A hM => ?_)
              refine v_aload_n (dk cd_Mo_issue 47 rfl) rfl ?_
              refine v_mgi (n := 0) (dk cd_Mo_issue 48 rfl) fg_Mo_137_Mo hM rfl (up1_same _ _ _) ?_
              refine v_if_le (tgt := 106) (dk cd_Mo_issue 49 rfl) rfl (fun q => absurd q (by decide)) (fun _ => ?_)
              refine v_iconst (v := nI 0) (dk cd_Mo_issue 50 rfl) (by decide) ?_
              exact v_iret (dk cd_Mo_issue 51 rfl) rfl (pmX (S' := S) (k := 0) hM (R.thr _) (by unfold spIssue; rw [if_neg (fun h => absurd h.2.2.2.2.2 (Int32.not_lt.mpr q32))]) rfl)
            · have h6 := Bool.and_eq_true_iff.mp q18
              refine v_iconst (v := nI 1) (dk cd_Mo_issue 17 rfl) (by decide) ?_
              refine v_goto (tgt := 40) (dk cd_Mo_issue 18 rfl) rfl ?_
              refine v_istore (dk cd_Mo_issue 20 rfl) (by decide) rfl ?_
              refine v_aload_n (dk cd_Mo_issue 21 rfl) rfl ?_
              refine v_iload (dk cd_Mo_issue 22 rfl) rfl ?_
              refine v_if_ne (tgt := 52) (dk cd_Mo_issue 23 rfl) rfl (fun _ => ?_) (fun q => absurd q (by decide))
              refine v_aload_n (dk cd_Mo_issue 26 rfl) rfl ?_
              refine v_rv (r := ("AreaWarningsModel", TT_Mo, 49)) (dk cd_Mo_issue 27 rfl) cv_Mo_207 rfl hM.2.2.1 (as := []) rfl rfl (Nat.le_of_ble_eq_true rfl) (by simp [Value.category]) (Mo_isSaid_ok hM R K) ?_
              refine v_ifneB (tgt := 63) (dk cd_Mo_issue 28 rfl) rfl (fun q56 => ?_) (fun q56 => ?_)
              · refine v_aload_n (dk cd_Mo_issue 31 rfl) rfl ?_
                refine v_iload_n (dk cd_Mo_issue 32 rfl) rfl ?_
                refine v_rv (r := ("AreaWarningsModel", TT_Mo, 49)) (dk cd_Mo_issue 33 rfl) cv_Mo_210 rfl hM.2.2.1 (as := [_]) rfl rfl (Nat.le_of_ble_eq_true rfl) (by simp [Value.category]) (Mo_find_ok hM R K hfi) ?_
                refine v_if_ge (tgt := 89) (dk cd_Mo_issue 34 rfl) rfl (fun q68 => ?_) (fun q68 => ?_)
                · exact absurd q68 (by decide)
                · refine v_aload_n (dk cd_Mo_issue 35 rfl) rfl ?_
                  refine v_mgi (n := 4) (dk cd_Mo_issue 36 rfl) fg_Mo_184_Mo hM rfl R.nw ?_
                  refine v_bipush (v := nI 12) (dk cd_Mo_issue 37 rfl) (by decide) ?_
                  refine v_icmp_eqN (tgt := 89) (dk cd_Mo_issue 38 rfl) rfl (by omega) (by omega) (fun q77 => ?_) (fun q77 => ?_)
                  · refine v_iconst (v := nI 3) (dk cd_Mo_issue 43 rfl) (by decide) ?_
                    refine v_goto (tgt := 94) (dk cd_Mo_issue 44 rfl) rfl ?_
                    refine v_mput (k := 0) (n := 0) (dk cd_Mo_issue 46 rfl) fp_Mo_137_Mo (fun h => by cases h) hM (by decide) (fun A hM => ?_)
                    refine v_aload_n (dk cd_Mo_issue 47 rfl) rfl ?_
                    refine v_mgi (n := 0) (dk cd_Mo_issue 48 rfl) fg_Mo_137_Mo hM rfl (up1_same _ _ _) ?_
                    refine v_if_le (tgt := 106) (dk cd_Mo_issue 49 rfl) rfl (fun q => absurd q (by decide)) (fun _ => ?_)
                    refine v_iconst (v := nI 0) (dk cd_Mo_issue 50 rfl) (by decide) ?_
                    exact v_iret (dk cd_Mo_issue 51 rfl) rfl (pmX (S' := S) (k := 1) hM (R.thr _) (by unfold spIssue; rw [if_pos ⟨q2, q9, h6.1, h6.2, q26, Int32.not_le.mp q32⟩, if_pos q56, hf]; simp only [if_pos q77]) rfl)
                  · refine v_aload_n (dk cd_Mo_issue 39 rfl) rfl ?_
                    refine v_mgi (n := 5) (dk cd_Mo_issue 40 rfl) fg_Mo_194_Mo hM rfl R.nv ?_
                    refine v_bipush (v := nI 40) (dk cd_Mo_issue 41 rfl) (by decide) ?_
                    refine v_icmp_neN (tgt := 93) (dk cd_Mo_issue 42 rfl) rfl (by omega) (by omega) (fun q86 => ?_) (fun q86 => ?_)
                    · refine v_iconst (v := nI 0) (dk cd_Mo_issue 45 rfl) (by decide) ?_
                      refine v_mput (k := 0) (n := 0) (dk cd_Mo_issue 46 rfl) fp_Mo_137_Mo (fun h => by cases h) hM (by decide) (fun A hM => ?_)
                      refine v_aload_n (dk cd_Mo_issue 47 rfl) rfl ?_
                      refine v_mgi (n := 0) (dk cd_Mo_issue 48 rfl) fg_Mo_137_Mo hM rfl (up1_same _ _ _) ?_
                      refine v_if_le (tgt := 106) (dk cd_Mo_issue 49 rfl) rfl (fun _ => ?_) (fun q => absurd (by decide) q)
                      refine v_aload_n (dk cd_Mo_issue 52 rfl) rfl ?_
                      refine v_getf (dk cd_Mo_issue 53 rfl) fg_Mo_56_Mo hM.2.2.1 (by rfl) ?_
                      refine v_aload_n (dk cd_Mo_issue 54 rfl) rfl ?_
                      refine v_mgi (n := 4) (dk cd_Mo_issue 55 rfl) fg_Mo_184_Mo hM rfl R.nw ?_
                      refine v_iload_n (dk cd_Mo_issue 56 rfl) rfl ?_
                      refine v_mst (j := 15) (dk cd_Mo_issue 57 rfl) hM (by decide) (by decide) (show _ < 12 by omega) (by decide) (fun A hM => ?_)
                      refine v_aload_n (dk cd_Mo_issue 58 rfl) rfl ?_
                      refine v_dup (dk cd_Mo_issue 59 rfl) rfl ?_
                      refine v_mgi (n := 4) (dk cd_Mo_issue 60 rfl) fg_Mo_184_Mo hM rfl R.nw ?_
                      refine v_iconst (v := nI 1) (dk cd_Mo_issue 61 rfl) (by decide) ?_
                      refine v_iaddN (dk cd_Mo_issue 62 rfl) ?_
                      refine v_mput (k := 19) (n := 4) (dk cd_Mo_issue 63 rfl) fp_Mo_184_Mo (fun h => by cases h) hM (by decide) (fun A hM => ?_)
                      refine v_aload_n (dk cd_Mo_issue 64 rfl) rfl ?_
                      refine v_aload_n (dk cd_Mo_issue 65 rfl) rfl ?_
                      refine v_aload_n (dk cd_Mo_issue 66 rfl) rfl ?_
                      refine v_mgi (n := 4) (dk cd_Mo_issue 67 rfl) fg_Mo_184_Mo hM rfl (up1_same _ _ _) ?_
                      refine v_iconst (v := nI 1) (dk cd_Mo_issue 68 rfl) (by decide) ?_
                      refine v_isubN (dk cd_Mo_issue 69 rfl) (by omega) ?_
                      refine v_iconst (v := 1) (dk cd_Mo_issue 70 rfl) (by decide) ?_
                      refine v_iload_n (dk cd_Mo_issue 71 rfl) rfl ?_
                      refine v_iload (dk cd_Mo_issue 72 rfl) rfl ?_
                      refine v_iconst (v := 1) (dk cd_Mo_issue 73 rfl) (by decide) ?_
                      refine v_callv (r := ("AreaWarningsModel", TT_Mo, 49)) (dk cd_Mo_issue 74 rfl) cv_Mo_213 rfl hM.2.2.1 (as := [_, _, _, _, _]) rfl rfl (Nat.le_of_ble_eq_true rfl) (by simp [Value.category]) (Mo_make_ok (b := true) (w := (sWarn S).length) hM R.nv (by omega) (by omega)) pm_no (fun v9 A9 hq => ?_)
                      obtain ⟨e9, hM⟩ := hq
                      cases e9
                      refine v_iload_n (dk cd_Mo_issue 75 rfl) rfl ?_
                      refine v_iload (dk cd_Mo_issue 76 rfl) rfl ?_
                      refine v_callv (r := ("AreaWarningsModel", TT_Mo, 49)) (dk cd_Mo_issue 77 rfl) cv_Mo_217 rfl hM.2.2.1 (as := [_, _, _]) rfl rfl (Nat.le_of_ble_eq_true rfl) (by simp [Value.category]) (Mo_fill_ok (n := (sTyped S).1.length) (m := (sCells S).length) hM R.ty.1 K.wt.1 (by omega) R.nc w2) pf_no (fun v9 A9 hq => ?_)
                      obtain ⟨i1, f1, e9, hM, rfl, hF⟩ := hq
                      cases e9
                      have hval : mCv f1 (sVers S).length (sTyped S).1.length (sCells S).length = cvN S (sTyped S).1 (sCells S).length := mCv_eq K K.gt (fun k hk => by rw [(hF.2.2.2.2.2.1 k hk).1, (hF.2.2.2.2.2.1 k hk).2, mkF_off (by omega), mkF_off (by omega), up2_ne (by omega), up2_ne (by omega)]; exact R.ty.2.1 k hk) (fun k c hc => by rw [hF.1 0 (by omega), hF.1 1 (by omega), hF.1 2 (by omega), mkF_off (by omega), mkF_off (by omega), mkF_off (by omega), up2_ne (by omega), up2_ne (by omega), up2_ne (by omega)]; exact (R.ce k c hc).1) _ (Nat.le_refl _)
                      exact v_iret (dk cd_Mo_issue 78 rfl) rfl (pmV hM (Rel.issue (cv := cvTo S (sTyped S).1 (sCells S).length) (R.thr (nI 0)) K hF) rfl (by
  rw [hval]
  unfold spIssue
  rw [if_pos ⟨q2, q9, h6.1, h6.2, q26, Int32.not_le.mp q32⟩, if_pos q56, hf]
  simp only [if_neg q77, if_neg q86]
  exact spk_wa _ _ _ _ _ _ _ _))
                    · refine v_iconst (v := nI 3) (dk cd_Mo_issue 43 rfl) (by decide) ?_
                      refine v_goto (tgt := 94) (dk cd_Mo_issue 44 rfl) rfl ?_
                      refine v_mput (k := 0) (n := 0) (dk cd_Mo_issue 46 rfl) fp_Mo_137_Mo (fun h => by cases h) hM (by decide) (fun A hM => ?_)
                      refine v_aload_n (dk cd_Mo_issue 47 rfl) rfl ?_
                      refine v_mgi (n := 0) (dk cd_Mo_issue 48 rfl) fg_Mo_137_Mo hM rfl (up1_same _ _ _) ?_
                      refine v_if_le (tgt := 106) (dk cd_Mo_issue 49 rfl) rfl (fun q => absurd q (by decide)) (fun _ => ?_)
                      refine v_iconst (v := nI 0) (dk cd_Mo_issue 50 rfl) (by decide) ?_
                      exact v_iret (dk cd_Mo_issue 51 rfl) rfl (pmX (S' := S) (k := 1) hM (R.thr _) (by unfold spIssue; rw [if_pos ⟨q2, q9, h6.1, h6.2, q26, Int32.not_le.mp q32⟩, if_pos q56, hf]; simp only [if_neg q77, if_pos q86]) rfl)
              · refine v_iconst (v := nI 2) (dk cd_Mo_issue 29 rfl) (by decide) ?_
                refine v_goto (tgt := 94) (dk cd_Mo_issue 30 rfl) rfl ?_
                refine v_mput (k := 0) (n := 0) (dk cd_Mo_issue 46 rfl) fp_Mo_137_Mo (fun h => by cases h) hM (by decide) (fun A hM => ?_)
                refine v_aload_n (dk cd_Mo_issue 47 rfl) rfl ?_
                refine v_mgi (n := 0) (dk cd_Mo_issue 48 rfl) fg_Mo_137_Mo hM rfl (up1_same _ _ _) ?_
                refine v_if_le (tgt := 106) (dk cd_Mo_issue 49 rfl) rfl (fun q => absurd q (by decide)) (fun _ => ?_)
                refine v_iconst (v := nI 0) (dk cd_Mo_issue 50 rfl) (by decide) ?_
                exact v_iret (dk cd_Mo_issue 51 rfl) rfl (pmX (S' := S) (k := 2) hM (R.thr _) (by unfold spIssue; rw [if_pos ⟨q2, q9, h6.1, h6.2, q26, Int32.not_le.mp q32⟩, if_neg (by simp [q56])]) rfl)
  · have hfi := fndI_some hf
    have hw := fnd_lt K.wf hf
    have hv := nwI_lt' K.wf hw
    refine v_iload_n (dk cd_Mo_issue 0 rfl) rfl ?_
    refine v_iconst (v := 1) (dk cd_Mo_issue 1 rfl) (by decide) ?_
    refine v_icmp_lt (tgt := 39) (dk cd_Mo_issue 2 rfl) rfl (fun q2 => ?_) (fun q2 => ?_)
    · refine v_iconst (v := nI 0) (dk cd_Mo_issue 19 rfl) (by decide) ?_
      refine v_istore (dk cd_Mo_issue 20 rfl) (by decide) rfl ?_
      refine v_aload_n (dk cd_Mo_issue 21 rfl) rfl ?_
      refine v_iload (dk cd_Mo_issue 22 rfl) rfl ?_
      refine v_if_ne (tgt := 52) (dk cd_Mo_issue 23 rfl) rfl (fun q => absurd rfl q) (fun _ => ?_)
      refine v_iconst (v := nI 1) (dk cd_Mo_issue 24 rfl) (by decide) ?_
      refine v_goto (tgt := 94) (dk cd_Mo_issue 25 rfl) rfl ?_
      refine v_mput (k := 0) (n := 0) (dk cd_Mo_issue 46 rfl) fp_Mo_137_Mo (fun h => by cases h) hM (by decide) (fun A hM => ?_)
      refine v_aload_n (dk cd_Mo_issue 47 rfl) rfl ?_
      refine v_mgi (n := 0) (dk cd_Mo_issue 48 rfl) fg_Mo_137_Mo hM rfl (up1_same _ _ _) ?_
      refine v_if_le (tgt := 106) (dk cd_Mo_issue 49 rfl) rfl (fun q => absurd q (by decide)) (fun _ => ?_)
      refine v_iconst (v := nI 0) (dk cd_Mo_issue 50 rfl) (by decide) ?_
      exact v_iret (dk cd_Mo_issue 51 rfl) rfl (pmX (S' := S) (k := 0) hM (R.thr _) (by unfold spIssue; rw [if_neg (fun h => absurd q2 h.1)]) rfl)
    · refine v_iload_n (dk cd_Mo_issue 3 rfl) rfl ?_
      refine v_sipush (v := 1000) (dk cd_Mo_issue 4 rfl) (by decide) ?_
      refine v_icmp_gt (tgt := 39) (dk cd_Mo_issue 5 rfl) rfl (fun q9 => ?_) (fun q9 => ?_)
      · refine v_iconst (v := nI 0) (dk cd_Mo_issue 19 rfl) (by decide) ?_
        refine v_istore (dk cd_Mo_issue 20 rfl) (by decide) rfl ?_
        refine v_aload_n (dk cd_Mo_issue 21 rfl) rfl ?_
        refine v_iload (dk cd_Mo_issue 22 rfl) rfl ?_
        refine v_if_ne (tgt := 52) (dk cd_Mo_issue 23 rfl) rfl (fun q => absurd rfl q) (fun _ => ?_)
        refine v_iconst (v := nI 1) (dk cd_Mo_issue 24 rfl) (by decide) ?_
        refine v_goto (tgt := 94) (dk cd_Mo_issue 25 rfl) rfl ?_
        refine v_mput (k := 0) (n := 0) (dk cd_Mo_issue 46 rfl) fp_Mo_137_Mo (fun h => by cases h) hM (by decide) (fun A hM => ?_)
        refine v_aload_n (dk cd_Mo_issue 47 rfl) rfl ?_
        refine v_mgi (n := 0) (dk cd_Mo_issue 48 rfl) fg_Mo_137_Mo hM rfl (up1_same _ _ _) ?_
        refine v_if_le (tgt := 106) (dk cd_Mo_issue 49 rfl) rfl (fun q => absurd q (by decide)) (fun _ => ?_)
        refine v_iconst (v := nI 0) (dk cd_Mo_issue 50 rfl) (by decide) ?_
        exact v_iret (dk cd_Mo_issue 51 rfl) rfl (pmX (S' := S) (k := 0) hM (R.thr _) (by unfold spIssue; rw [if_neg (fun h => absurd q9 h.2.1)]) rfl)
      · refine v_iload_n (dk cd_Mo_issue 6 rfl) rfl ?_
        refine v_iload (dk cd_Mo_issue 7 rfl) rfl ?_
        refine v_rs (dk cd_Mo_issue 8 rfl) cs_Mo_204 (as := [_, _]) rfl rfl (Nat.le_of_ble_eq_true rfl) (by simp [Value.category]) Mo_isSpan_ok ?_
        refine v_ifeqB (tgt := 39) (dk cd_Mo_issue 9 rfl) rfl (fun q18 => ?_) (fun q18 => ?_)
        · refine v_iconst (v := nI 0) (dk cd_Mo_issue 19 rfl) (by decide) ?_
          refine v_istore (dk cd_Mo_issue 20 rfl) (by decide) rfl ?_
          refine v_aload_n (dk cd_Mo_issue 21 rfl) rfl ?_
          refine v_iload (dk cd_Mo_issue 22 rfl) rfl ?_
          refine v_if_ne (tgt := 52) (dk cd_Mo_issue 23 rfl) rfl (fun q => absurd rfl q) (fun _ => ?_)
          refine v_iconst (v := nI 1) (dk cd_Mo_issue 24 rfl) (by decide) ?_
          refine v_goto (tgt := 94) (dk cd_Mo_issue 25 rfl) rfl ?_
          refine v_mput (k := 0) (n := 0) (dk cd_Mo_issue 46 rfl) fp_Mo_137_Mo (fun h => by cases h) hM (by decide) (fun A hM => ?_)
          refine v_aload_n (dk cd_Mo_issue 47 rfl) rfl ?_
          refine v_mgi (n := 0) (dk cd_Mo_issue 48 rfl) fg_Mo_137_Mo hM rfl (up1_same _ _ _) ?_
          refine v_if_le (tgt := 106) (dk cd_Mo_issue 49 rfl) rfl (fun q => absurd q (by decide)) (fun _ => ?_)
          refine v_iconst (v := nI 0) (dk cd_Mo_issue 50 rfl) (by decide) ?_
          exact v_iret (dk cd_Mo_issue 51 rfl) rfl (pmX (S' := S) (k := 0) hM (R.thr _) (by unfold spIssue; rw [if_neg (fun h => by simp [h.2.2.1, h.2.2.2.1] at q18)]) rfl)
        · refine v_iload_n (dk cd_Mo_issue 10 rfl) rfl ?_
          refine v_aload_n (dk cd_Mo_issue 11 rfl) rfl ?_
          refine v_mgi (n := 1) (dk cd_Mo_issue 12 rfl) fg_Mo_187_Mo hM rfl R.ck ?_
          refine v_icmp_le (tgt := 39) (dk cd_Mo_issue 13 rfl) rfl (fun q26 => ?_) (fun q26 => ?_)
          · refine v_iconst (v := nI 0) (dk cd_Mo_issue 19 rfl) (by decide) ?_
            refine v_istore (dk cd_Mo_issue 20 rfl) (by decide) rfl ?_
            refine v_aload_n (dk cd_Mo_issue 21 rfl) rfl ?_
            refine v_iload (dk cd_Mo_issue 22 rfl) rfl ?_
            refine v_if_ne (tgt := 52) (dk cd_Mo_issue 23 rfl) rfl (fun q => absurd rfl q) (fun _ => ?_)
            refine v_iconst (v := nI 1) (dk cd_Mo_issue 24 rfl) (by decide) ?_
            refine v_goto (tgt := 94) (dk cd_Mo_issue 25 rfl) rfl ?_
            refine v_mput (k := 0) (n := 0) (dk cd_Mo_issue 46 rfl) fp_Mo_137_Mo (fun h => by cases h) hM (by decide) (fun A hM => ?_)
            refine v_aload_n (dk cd_Mo_issue 47 rfl) rfl ?_
            refine v_mgi (n := 0) (dk cd_Mo_issue 48 rfl) fg_Mo_137_Mo hM rfl (up1_same _ _ _) ?_
            refine v_if_le (tgt := 106) (dk cd_Mo_issue 49 rfl) rfl (fun q => absurd q (by decide)) (fun _ => ?_)
            refine v_iconst (v := nI 0) (dk cd_Mo_issue 50 rfl) (by decide) ?_
            exact v_iret (dk cd_Mo_issue 51 rfl) rfl (pmX (S' := S) (k := 0) hM (R.thr _) (by unfold spIssue; rw [if_neg (fun h => absurd q26 h.2.2.2.2.1)]) rfl)
          · refine v_iload (dk cd_Mo_issue 14 rfl) rfl ?_
            refine v_iload_n (dk cd_Mo_issue 15 rfl) rfl ?_
            refine v_icmp_le (tgt := 39) (dk cd_Mo_issue 16 rfl) rfl (fun q32 => ?_) (fun q32 => ?_)
            · refine v_iconst (v := nI 0) (dk cd_Mo_issue 19 rfl) (by decide) ?_
              refine v_istore (dk cd_Mo_issue 20 rfl) (by decide) rfl ?_
              refine v_aload_n (dk cd_Mo_issue 21 rfl) rfl ?_
              refine v_iload (dk cd_Mo_issue 22 rfl) rfl ?_
              refine v_if_ne (tgt := 52) (dk cd_Mo_issue 23 rfl) rfl (fun q => absurd rfl q) (fun _ => ?_)
              refine v_iconst (v := nI 1) (dk cd_Mo_issue 24 rfl) (by decide) ?_
              refine v_goto (tgt := 94) (dk cd_Mo_issue 25 rfl) rfl ?_
              refine v_mput (k := 0) (n := 0) (dk cd_Mo_issue 46 rfl) fp_Mo_137_Mo (fun h => by cases h) hM (by decide) (fun A hM => ?_)
              refine v_aload_n (dk cd_Mo_issue 47 rfl) rfl ?_
              refine v_mgi (n := 0) (dk cd_Mo_issue 48 rfl) fg_Mo_137_Mo hM rfl (up1_same _ _ _) ?_
              refine v_if_le (tgt := 106) (dk cd_Mo_issue 49 rfl) rfl (fun q => absurd q (by decide)) (fun _ => ?_)
              refine v_iconst (v := nI 0) (dk cd_Mo_issue 50 rfl) (by decide) ?_
              exact v_iret (dk cd_Mo_issue 51 rfl) rfl (pmX (S' := S) (k := 0) hM (R.thr _) (by unfold spIssue; rw [if_neg (fun h => absurd h.2.2.2.2.2 (Int32.not_lt.mpr q32))]) rfl)
            · have h6 := Bool.and_eq_true_iff.mp q18
              refine v_iconst (v := nI 1) (dk cd_Mo_issue 17 rfl) (by decide) ?_
              refine v_goto (tgt := 40) (dk cd_Mo_issue 18 rfl) rfl ?_
              refine v_istore (dk cd_Mo_issue 20 rfl) (by decide) rfl ?_
              refine v_aload_n (dk cd_Mo_issue 21 rfl) rfl ?_
              refine v_iload (dk cd_Mo_issue 22 rfl) rfl ?_
              refine v_if_ne (tgt := 52) (dk cd_Mo_issue 23 rfl) rfl (fun _ => ?_) (fun q => absurd q (by decide))
              refine v_aload_n (dk cd_Mo_issue 26 rfl) rfl ?_
              refine v_rv (r := ("AreaWarningsModel", TT_Mo, 49)) (dk cd_Mo_issue 27 rfl) cv_Mo_207 rfl hM.2.2.1 (as := []) rfl rfl (Nat.le_of_ble_eq_true rfl) (by simp [Value.category]) (Mo_isSaid_ok hM R K) ?_
              refine v_ifneB (tgt := 63) (dk cd_Mo_issue 28 rfl) rfl (fun q56 => ?_) (fun q56 => ?_)
              · refine v_aload_n (dk cd_Mo_issue 31 rfl) rfl ?_
                refine v_iload_n (dk cd_Mo_issue 32 rfl) rfl ?_
                refine v_rv (r := ("AreaWarningsModel", TT_Mo, 49)) (dk cd_Mo_issue 33 rfl) cv_Mo_210 rfl hM.2.2.1 (as := [_]) rfl rfl (Nat.le_of_ble_eq_true rfl) (by simp [Value.category]) (Mo_find_ok hM R K hfi) ?_
                refine v_if_ge (tgt := 89) (dk cd_Mo_issue 34 rfl) rfl (fun q68 => ?_) (fun q68 => ?_)
                · refine v_iconst (v := nI 3) (dk cd_Mo_issue 43 rfl) (by decide) ?_
                  refine v_goto (tgt := 94) (dk cd_Mo_issue 44 rfl) rfl ?_
                  refine v_mput (k := 0) (n := 0) (dk cd_Mo_issue 46 rfl) fp_Mo_137_Mo (fun h => by cases h) hM (by decide) (fun A hM => ?_)
                  refine v_aload_n (dk cd_Mo_issue 47 rfl) rfl ?_
                  refine v_mgi (n := 0) (dk cd_Mo_issue 48 rfl) fg_Mo_137_Mo hM rfl (up1_same _ _ _) ?_
                  refine v_if_le (tgt := 106) (dk cd_Mo_issue 49 rfl) rfl (fun q => absurd q (by decide)) (fun _ => ?_)
                  refine v_iconst (v := nI 0) (dk cd_Mo_issue 50 rfl) (by decide) ?_
                  exact v_iret (dk cd_Mo_issue 51 rfl) rfl (pmX (S' := S) (k := 1) hM (R.thr _) (by unfold spIssue; rw [if_pos ⟨q2, q9, h6.1, h6.2, q26, Int32.not_le.mp q32⟩, if_pos q56, hf]) rfl)
                · exact absurd (nI_pos' (show w < 2 ^ 31 by omega)) q68
              · refine v_iconst (v := nI 2) (dk cd_Mo_issue 29 rfl) (by decide) ?_
                refine v_goto (tgt := 94) (dk cd_Mo_issue 30 rfl) rfl ?_
                refine v_mput (k := 0) (n := 0) (dk cd_Mo_issue 46 rfl) fp_Mo_137_Mo (fun h => by cases h) hM (by decide) (fun A hM => ?_)
                refine v_aload_n (dk cd_Mo_issue 47 rfl) rfl ?_
                refine v_mgi (n := 0) (dk cd_Mo_issue 48 rfl) fg_Mo_137_Mo hM rfl (up1_same _ _ _) ?_
                refine v_if_le (tgt := 106) (dk cd_Mo_issue 49 rfl) rfl (fun q => absurd q (by decide)) (fun _ => ?_)
                refine v_iconst (v := nI 0) (dk cd_Mo_issue 50 rfl) (by decide) ?_
                exact v_iret (dk cd_Mo_issue 51 rfl) rfl (pmX (S' := S) (k := 2) hM (R.thr _) (by unfold spIssue; rw [if_pos ⟨q2, q9, h6.1, h6.2, q26, Int32.not_le.mp q32⟩, if_neg (by simp [q56])]) rfl)
set_option maxRecDepth 100000 in
set_option maxHeartbeats 4000000 in
theorem Mo_version_ok {id : Int32} (hM : MH B a i f A) (R : Rel S t i f) (K : SOK S) : V (gg u) (d + 1) mm_Mo_version 0 [some (.ref a), some (.int id), none] [] A (PM (xc []) B a (spVersion S id)) := by
  have w1 := K.wf.2.1
  have w2 := K.wf.2.2.1
  have w3 := K.wf.2.2.2.1
  have w4 := K.wf.2.2.2.2.1
  rcases hf : fnd S id with _ | w
  · have hfi := fndI_none hf
    refine v_aload_n (dk cd_Mo_version 0 rfl) rfl ?_
    refine v_iconst (v := nI 0) (dk cd_Mo_version 1 rfl) (by decide) ?_
    refine v_mput (k := 0) (n := 0) (dk cd_Mo_version 2 rfl) fp_Mo_137_Mo (fun h => by cases h) hM (by decide) (fun A hM => ?_)
    refine v_aload_n (dk cd_Mo_version 3 rfl) rfl ?_
    refine v_iload_n (dk cd_Mo_version 4 rfl) rfl ?_
    refine v_rv (r := ("AreaWarningsModel", TT_Mo, 49)) (dk cd_Mo_version 5 rfl) cv_Mo_210 rfl hM.2.2.1 (as := [_]) rfl rfl (Nat.le_of_ble_eq_true rfl) (by simp [Value.category]) (Mo_find_ok hM (R.thr _) K hfi) ?_
    refine v_istore_n (dk cd_Mo_version 6 rfl) (by decide) rfl ?_
    refine v_iload_n (dk cd_Mo_version 7 rfl) rfl ?_
    refine v_if_ge (tgt := 19) (dk cd_Mo_version 8 rfl) rfl (fun q12 => ?_) (fun q12 => ?_)
    · exact absurd q12 (by decide)
    · refine v_iconst (v := nI 0) (dk cd_Mo_version 9 rfl) (by decide) ?_
      refine v_goto (tgt := 30) (dk cd_Mo_version 10 rfl) rfl ?_
      exact v_iret (dk cd_Mo_version 18 rfl) rfl (pmV hM (R.thr _) rfl (by simp [spVersion, verOf, hf]; rfl))
  · have hfi := fndI_some hf
    have hw := fnd_lt K.wf hf
    have hv := nwI_lt' K.wf hw
    refine v_aload_n (dk cd_Mo_version 0 rfl) rfl ?_
    refine v_iconst (v := nI 0) (dk cd_Mo_version 1 rfl) (by decide) ?_
    refine v_mput (k := 0) (n := 0) (dk cd_Mo_version 2 rfl) fp_Mo_137_Mo (fun h => by cases h) hM (by decide) (fun A hM => ?_)
    refine v_aload_n (dk cd_Mo_version 3 rfl) rfl ?_
    refine v_iload_n (dk cd_Mo_version 4 rfl) rfl ?_
    refine v_rv (r := ("AreaWarningsModel", TT_Mo, 49)) (dk cd_Mo_version 5 rfl) cv_Mo_210 rfl hM.2.2.1 (as := [_]) rfl rfl (Nat.le_of_ble_eq_true rfl) (by simp [Value.category]) (Mo_find_ok hM (R.thr _) K hfi) ?_
    refine v_istore_n (dk cd_Mo_version 6 rfl) (by decide) rfl ?_
    refine v_iload_n (dk cd_Mo_version 7 rfl) rfl ?_
    refine v_if_ge (tgt := 19) (dk cd_Mo_version 8 rfl) rfl (fun q12 => ?_) (fun q12 => ?_)
    · refine v_aload_n (dk cd_Mo_version 11 rfl) rfl ?_
      refine v_getf (dk cd_Mo_version 12 rfl) fg_Mo_65_Mo hM.2.2.1 (by rfl) ?_
      refine v_aload_n (dk cd_Mo_version 13 rfl) rfl ?_
      refine v_getf (dk cd_Mo_version 14 rfl) fg_Mo_59_Mo hM.2.2.1 (by rfl) ?_
      refine v_iload_n (dk cd_Mo_version 15 rfl) rfl ?_
      refine v_mldE (j := 16) (dk cd_Mo_version 16 rfl) hM (by decide) (by decide) (show _ < 12 by omega) (by decide) (R.wa w hw).2 ?_
      refine v_mldE (j := 18) (dk cd_Mo_version 17 rfl) hM (by decide) (by decide) (show _ < 40 by omega) (by decide) (R.ve _ hv).2.1 ?_
      exact v_iret (dk cd_Mo_version 18 rfl) rfl (pmV hM (R.thr _) rfl (by simp [spVersion, verOf, hf, nwV]))
    · exact absurd (nI_pos' (show w < 2 ^ 31 by omega)) q12
set_option maxRecDepth 100000 in
set_option maxHeartbeats 4000000 in
theorem Mo_covers_ok {id : Int32} (hM : MH B a i f A) (R : Rel S t i f) (K : SOK S) : V (gg u) (d + 3) mm_Mo_covers 0 [some (.ref a), some (.int id), some (.int x), none] [] A (PM (xc [0, 2, 0, 1]) B a (spCovers S id x)) := by
  have w1 := K.wf.2.1
  have w2 := K.wf.2.2.1
  have w3 := K.wf.2.2.2.1
  have w4 := K.wf.2.2.2.2.1
  rcases hf : fnd S id with _ | w
  · have hfi := fndI_none hf
    refine v_aload_n (dk cd_Mo_covers 0 rfl) rfl ?_
    refine v_iload_n (dk cd_Mo_covers 1 rfl) rfl ?_
    refine v_rv (r := ("AreaWarningsModel", TT_Mo, 49)) (dk cd_Mo_covers 2 rfl) cv_Mo_210 rfl hM.2.2.1 (as := [_]) rfl rfl (Nat.le_of_ble_eq_true rfl) (by simp [Value.category]) (Mo_find_ok hM R K hfi) ?_
    refine v_istore_n (dk cd_Mo_covers 3 rfl) (by decide) rfl ?_
    refine v_aload_n (dk cd_Mo_covers 4 rfl) rfl ?_
    refine v_aload_n (dk cd_Mo_covers 5 rfl) rfl ?_
    refine v_iload_n (dk cd_Mo_covers 6 rfl) rfl ?_
    refine v_rv (r := ("AreaWarningsModel", TT_Mo, 49)) (dk cd_Mo_covers 7 rfl) cv_Mo_254 rfl hM.2.2.1 (as := [_]) rfl rfl (Nat.le_of_ble_eq_true rfl) (by simp [Value.category]) (Mo_isCell_ok hM R.nc) ?_
    refine v_ifneB (tgt := 19) (dk cd_Mo_covers 8 rfl) rfl (fun q12 => ?_) (fun q12 => ?_)
    · refine v_iload_n (dk cd_Mo_covers 11 rfl) rfl ?_
      refine v_if_lt (tgt := 37) (dk cd_Mo_covers 12 rfl) rfl (fun q20 => ?_) (fun q20 => ?_)
      · refine v_iconst (v := nI 2) (dk cd_Mo_covers 21 rfl) (by decide) ?_
        refine v_goto (tgt := 42) (dk cd_Mo_covers 22 rfl) rfl ?_
        refine v_mput (k := 0) (n := 0) (dk cd_Mo_covers 24 rfl) fp_Mo_137_Mo (fun h => by cases h) hM (by decide) (fun A hM => ?_)
        refine v_aload_n (dk cd_Mo_covers 25 rfl) rfl ?_
        refine v_mgi (n := 0) (dk cd_Mo_covers 26 rfl) fg_Mo_137_Mo hM rfl (up1_same _ _ _) ?_
        refine v_if_ne (tgt := 70) (dk cd_Mo_covers 27 rfl) rfl (fun _ => ?_) (fun q => absurd q (by decide))
        refine v_iconst (v := 0) (dk cd_Mo_covers 38 rfl) (by decide) ?_
        exact v_zret (dk cd_Mo_covers 39 rfl) rfl rfl (pmX (S' := S) (k := 1) hM (R.thr _) (by simp [spCovers, q12, hf]) rfl)
      · exact absurd (by decide) q20
    · refine v_iconst (v := 1) (dk cd_Mo_covers 9 rfl) (by decide) ?_
      refine v_goto (tgt := 42) (dk cd_Mo_covers 10 rfl) rfl ?_
      refine v_mput (k := 0) (n := 0) (dk cd_Mo_covers 24 rfl) fp_Mo_137_Mo (fun h => by cases h) hM (by decide) (fun A hM => ?_)
      refine v_aload_n (dk cd_Mo_covers 25 rfl) rfl ?_
      refine v_mgi (n := 0) (dk cd_Mo_covers 26 rfl) fg_Mo_137_Mo hM rfl (up1_same _ _ _) ?_
      refine v_if_ne (tgt := 70) (dk cd_Mo_covers 27 rfl) rfl (fun _ => ?_) (fun q => absurd q (by decide))
      refine v_iconst (v := 0) (dk cd_Mo_covers 38 rfl) (by decide) ?_
      exact v_zret (dk cd_Mo_covers 39 rfl) rfl rfl (pmX (S' := S) (k := 3) hM (R.thr _) (by simp [spCovers, q12]) rfl)
  · have hfi := fndI_some hf
    have hw := fnd_lt K.wf hf
    have hv := nwI_lt' K.wf hw
    refine v_aload_n (dk cd_Mo_covers 0 rfl) rfl ?_
    refine v_iload_n (dk cd_Mo_covers 1 rfl) rfl ?_
    refine v_rv (r := ("AreaWarningsModel", TT_Mo, 49)) (dk cd_Mo_covers 2 rfl) cv_Mo_210 rfl hM.2.2.1 (as := [_]) rfl rfl (Nat.le_of_ble_eq_true rfl) (by simp [Value.category]) (Mo_find_ok hM R K hfi) ?_
    refine v_istore_n (dk cd_Mo_covers 3 rfl) (by decide) rfl ?_
    refine v_aload_n (dk cd_Mo_covers 4 rfl) rfl ?_
    refine v_aload_n (dk cd_Mo_covers 5 rfl) rfl ?_
    refine v_iload_n (dk cd_Mo_covers 6 rfl) rfl ?_
    refine v_rv (r := ("AreaWarningsModel", TT_Mo, 49)) (dk cd_Mo_covers 7 rfl) cv_Mo_254 rfl hM.2.2.1 (as := [_]) rfl rfl (Nat.le_of_ble_eq_true rfl) (by simp [Value.category]) (Mo_isCell_ok hM R.nc) ?_
    refine v_ifneB (tgt := 19) (dk cd_Mo_covers 8 rfl) rfl (fun q12 => ?_) (fun q12 => ?_)
    · refine v_iload_n (dk cd_Mo_covers 11 rfl) rfl ?_
      refine v_if_lt (tgt := 37) (dk cd_Mo_covers 12 rfl) rfl (fun q20 => ?_) (fun q20 => ?_)
      · refine v_iconst (v := nI 2) (dk cd_Mo_covers 21 rfl) (by decide) ?_
        refine v_goto (tgt := 42) (dk cd_Mo_covers 22 rfl) rfl ?_
        refine v_mput (k := 0) (n := 0) (dk cd_Mo_covers 24 rfl) fp_Mo_137_Mo (fun h => by cases h) hM (by decide) (fun A hM => ?_)
        refine v_aload_n (dk cd_Mo_covers 25 rfl) rfl ?_
        refine v_mgi (n := 0) (dk cd_Mo_covers 26 rfl) fg_Mo_137_Mo hM rfl (up1_same _ _ _) ?_
        refine v_if_ne (tgt := 70) (dk cd_Mo_covers 27 rfl) rfl (fun _ => ?_) (fun q => absurd q (by decide))
        refine v_iconst (v := 0) (dk cd_Mo_covers 38 rfl) (by decide) ?_
        exact v_zret (dk cd_Mo_covers 39 rfl) rfl rfl (absurd q20 (nI_pos (by omega)))
      · refine v_aload_n (dk cd_Mo_covers 13 rfl) rfl ?_
        refine v_getf (dk cd_Mo_covers 14 rfl) fg_Mo_74_Mo hM.2.2.1 (by rfl) ?_
        refine v_aload_n (dk cd_Mo_covers 15 rfl) rfl ?_
        refine v_getf (dk cd_Mo_covers 16 rfl) fg_Mo_59_Mo hM.2.2.1 (by rfl) ?_
        refine v_iload_n (dk cd_Mo_covers 17 rfl) rfl ?_
        refine v_mldE (j := 16) (dk cd_Mo_covers 18 rfl) hM (by decide) (by decide) (show _ < 12 by omega) (by decide) (R.wa w hw).2 ?_
        refine v_mldzE (j := 21) (dk cd_Mo_covers 19 rfl) hM (by decide) (by decide) (show _ < 40 by omega) (by decide) (R.ve _ hv).2.2.2.2.1 ?_
        refine v_ifneB (tgt := 41) (dk cd_Mo_covers 20 rfl) rfl (fun q34 => ?_) (fun q34 => ?_)
        · refine v_iconst (v := nI 0) (dk cd_Mo_covers 23 rfl) (by decide) ?_
          refine v_mput (k := 0) (n := 0) (dk cd_Mo_covers 24 rfl) fp_Mo_137_Mo (fun h => by cases h) hM (by decide) (fun A hM => ?_)
          refine v_aload_n (dk cd_Mo_covers 25 rfl) rfl ?_
          refine v_mgi (n := 0) (dk cd_Mo_covers 26 rfl) fg_Mo_137_Mo hM rfl (up1_same _ _ _) ?_
          refine v_if_ne (tgt := 70) (dk cd_Mo_covers 27 rfl) rfl (fun q => absurd rfl q) (fun _ => ?_)
          obtain ⟨k, hk, rfl, hc⟩ := cAt_get K q12
          have hcl : (nI k).toNatClampNeg = k := nI_clamp (by omega)
          obtain ⟨s, hs⟩ := Option.isSome_iff_exists.mp q34
          obtain ⟨_, _, hs3, hs4, _⟩ := (R.ve _ hv).2.2.2.2.2 s hs
          have hwv := K.wv _ _ s (vAt_get hv) hs
          have hmn := mNr_eq (K.gv _ _ s (vAt_get hv) hs) (K.cx k _ hc).1 hs4 (R.ce k _ hc).1
          have hcv := K.cv w hw s hs k hk
          refine v_aload_n (dk cd_Mo_covers 28 rfl) rfl ?_
          refine v_aload_n (dk cd_Mo_covers 29 rfl) rfl ?_
          refine v_getf (dk cd_Mo_covers 30 rfl) fg_Mo_59_Mo hM.2.2.1 (by rfl) ?_
          refine v_iload_n (dk cd_Mo_covers 31 rfl) rfl ?_
          refine v_mldE (j := 16) (dk cd_Mo_covers 32 rfl) hM (by decide) (by decide) (show _ < 12 by omega) (by decide) (R.wa w hw).2 ?_
          refine v_iload_n (dk cd_Mo_covers 33 rfl) rfl ?_
          refine v_rv (r := ("AreaWarningsModel", TT_Mo, 49)) (dk cd_Mo_covers 34 rfl) cv_Mo_181 rfl hM.2.2.1 (as := [_, _]) rfl rfl (Nat.le_of_ble_eq_true rfl) (by simp [Value.category]) (Mo_isCovered_ok hM (by omega) (by omega) hs3 hwv.1) ?_
          refine v_ifeqB (tgt := 70) (dk cd_Mo_covers 35 rfl) rfl (fun q63 => ?_) (fun q63 => ?_)
          · refine v_iconst (v := 0) (dk cd_Mo_covers 38 rfl) (by decide) ?_
            exact v_zret (dk cd_Mo_covers 39 rfl) rfl rfl (pmV hM (R.thr _) rfl (by
  have hz : cAtN S k = cAt S (nI k) := by unfold cAtN cAt; rw [hcl]
  unfold spCovers
  rw [if_pos q12, hf]
  simp only [nwV, hs, hcl, hcv, rch, hz, ← hmn, q63]
  rfl))
          · refine v_iconst (v := 1) (dk cd_Mo_covers 36 rfl) (by decide) ?_
            refine v_goto (tgt := 71) (dk cd_Mo_covers 37 rfl) rfl ?_
            exact v_zret (dk cd_Mo_covers 39 rfl) rfl rfl (pmV hM (R.thr _) rfl (by
  have hz : cAtN S k = cAt S (nI k) := by unfold cAtN cAt; rw [hcl]
  unfold spCovers
  rw [if_pos q12, hf]
  simp only [nwV, hs, hcl, hcv, rch, hz, ← hmn, q63]
  rfl))
        · refine v_iconst (v := nI 2) (dk cd_Mo_covers 21 rfl) (by decide) ?_
          refine v_goto (tgt := 42) (dk cd_Mo_covers 22 rfl) rfl ?_
          refine v_mput (k := 0) (n := 0) (dk cd_Mo_covers 24 rfl) fp_Mo_137_Mo (fun h => by cases h) hM (by decide) (fun A hM => ?_)
          refine v_aload_n (dk cd_Mo_covers 25 rfl) rfl ?_
          refine v_mgi (n := 0) (dk cd_Mo_covers 26 rfl) fg_Mo_137_Mo hM rfl (up1_same _ _ _) ?_
          refine v_if_ne (tgt := 70) (dk cd_Mo_covers 27 rfl) rfl (fun _ => ?_) (fun q => absurd q (by decide))
          refine v_iconst (v := 0) (dk cd_Mo_covers 38 rfl) (by decide) ?_
          exact v_zret (dk cd_Mo_covers 39 rfl) rfl rfl (pmX (S' := S) (k := 1) hM (R.thr _) (by have hno := Option.isSome_eq_false_iff.mp q34; rw [Option.isNone_iff_eq_none] at hno; simp [spCovers, q12, hf, nwV, hno]) rfl)
    · refine v_iconst (v := 1) (dk cd_Mo_covers 9 rfl) (by decide) ?_
      refine v_goto (tgt := 42) (dk cd_Mo_covers 10 rfl) rfl ?_
      refine v_mput (k := 0) (n := 0) (dk cd_Mo_covers 24 rfl) fp_Mo_137_Mo (fun h => by cases h) hM (by decide) (fun A hM => ?_)
      refine v_aload_n (dk cd_Mo_covers 25 rfl) rfl ?_
      refine v_mgi (n := 0) (dk cd_Mo_covers 26 rfl) fg_Mo_137_Mo hM rfl (up1_same _ _ _) ?_
      refine v_if_ne (tgt := 70) (dk cd_Mo_covers 27 rfl) rfl (fun _ => ?_) (fun q => absurd q (by decide))
      refine v_iconst (v := 0) (dk cd_Mo_covers 38 rfl) (by decide) ?_
      exact v_zret (dk cd_Mo_covers 39 rfl) rfl rfl (pmX (S' := S) (k := 3) hM (R.thr _) (by simp [spCovers, q12]) rfl)
set_option maxRecDepth 100000 in
set_option maxHeartbeats 4000000 in
theorem Mo_total_ok (hM : MH B a i f A) (R : Rel S t i f) (K : SOK S) : V (gg u) d mm_Mo_total 0 [some (.ref a), some (.int x)] [] A (PM (xc []) B a (spTotal S x)) := by
  have w1 := K.wf.2.1
  have w2 := K.wf.2.2.1
  have w3 := K.wf.2.2.2.1
  have w4 := K.wf.2.2.2.2.1
  refine v_aload_n (dk cd_Mo_total 0 rfl) rfl ?_
  refine v_iconst (v := nI 0) (dk cd_Mo_total 1 rfl) (by decide) ?_
  refine v_mput (k := 0) (n := 0) (dk cd_Mo_total 2 rfl) fp_Mo_137_Mo (fun h => by cases h) hM (by decide) (fun A hM => ?_)
  refine v_iload_n (dk cd_Mo_total 3 rfl) rfl ?_
  refine v_bipush (v := 10) (dk cd_Mo_total 4 rfl) (by decide) ?_
  refine v_icmp_lt (tgt := 32) (dk cd_Mo_total 5 rfl) rfl (fun q8 => ?_) (fun q8 => ?_)
  · refine v_iload_n (dk cd_Mo_total 19 rfl) rfl ?_
    refine v_if_ne (tgt := 43) (dk cd_Mo_total 20 rfl) rfl (fun q33 => ?_) (fun q33 => ?_)
    · refine v_iload_n (dk cd_Mo_total 24 rfl) rfl ?_
      refine v_iconst (v := 1) (dk cd_Mo_total 25 rfl) (by decide) ?_
      refine v_icmp_ne (tgt := 55) (dk cd_Mo_total 26 rfl) rfl (fun q45 => ?_) (fun q45 => ?_)
      · refine v_iload_n (dk cd_Mo_total 30 rfl) rfl ?_
        refine v_iconst (v := 2) (dk cd_Mo_total 31 rfl) (by decide) ?_
        refine v_icmp_ne (tgt := 67) (dk cd_Mo_total 32 rfl) rfl (fun q57 => ?_) (fun q57 => ?_)
        · refine v_iload_n (dk cd_Mo_total 36 rfl) rfl ?_
          refine v_iconst (v := 3) (dk cd_Mo_total 37 rfl) (by decide) ?_
          refine v_icmp_ne (tgt := 79) (dk cd_Mo_total 38 rfl) rfl (fun q69 => ?_) (fun q69 => ?_)
          · refine v_iload_n (dk cd_Mo_total 42 rfl) rfl ?_
            refine v_iconst (v := 4) (dk cd_Mo_total 43 rfl) (by decide) ?_
            refine v_icmp_ne (tgt := 91) (dk cd_Mo_total 44 rfl) rfl (fun q81 => ?_) (fun q81 => ?_)
            · refine v_iconst (v := -1) (dk cd_Mo_total 48 rfl) (by decide) ?_
              exact v_iret (dk cd_Mo_total 49 rfl) rfl (pmV hM (R.thr _) rfl (by first | (simp [spTotal, q8, q33, q45, q57, q69, q81]; done) | (have q19' := (sub10 q8 w4).mp q19; simp [spTotal, q19', q8, q33, q45, q57, q69, q81])))
            · refine v_aload_n (dk cd_Mo_total 45 rfl) rfl ?_
              refine v_mgi (n := 6) (dk cd_Mo_total 46 rfl) fg_Mo_248_Mo hM rfl R.nh ?_
              refine v_goto (tgt := 92) (dk cd_Mo_total 47 rfl) rfl ?_
              exact v_iret (dk cd_Mo_total 49 rfl) rfl (pmV hM (R.thr _) rfl (by first | (simp [spTotal, q8, q33, q45, q57, q69, q81]; done) | (have q19' := (sub10 q8 w4).mp q19; simp [spTotal, q19', q8, q33, q45, q57, q69, q81])))
          · refine v_aload_n (dk cd_Mo_total 39 rfl) rfl ?_
            refine v_mgi (n := 5) (dk cd_Mo_total 40 rfl) fg_Mo_194_Mo hM rfl R.nv ?_
            refine v_goto (tgt := 92) (dk cd_Mo_total 41 rfl) rfl ?_
            exact v_iret (dk cd_Mo_total 49 rfl) rfl (pmV hM (R.thr _) rfl (by first | (simp [spTotal, q8, q33, q45, q57, q69]; done) | (have q19' := (sub10 q8 w4).mp q19; simp [spTotal, q19', q8, q33, q45, q57, q69])))
        · refine v_aload_n (dk cd_Mo_total 33 rfl) rfl ?_
          refine v_mgi (n := 4) (dk cd_Mo_total 34 rfl) fg_Mo_184_Mo hM rfl R.nw ?_
          refine v_goto (tgt := 92) (dk cd_Mo_total 35 rfl) rfl ?_
          exact v_iret (dk cd_Mo_total 49 rfl) rfl (pmV hM (R.thr _) rfl (by first | (simp [spTotal, q8, q33, q45, q57]; done) | (have q19' := (sub10 q8 w4).mp q19; simp [spTotal, q19', q8, q33, q45, q57])))
      · refine v_aload_n (dk cd_Mo_total 27 rfl) rfl ?_
        refine v_mgi (n := 2) (dk cd_Mo_total 28 rfl) fg_Mo_145_Mo hM rfl R.nc ?_
        refine v_goto (tgt := 92) (dk cd_Mo_total 29 rfl) rfl ?_
        exact v_iret (dk cd_Mo_total 49 rfl) rfl (pmV hM (R.thr _) rfl (by first | (simp [spTotal, q8, q33, q45]; done) | (have q19' := (sub10 q8 w4).mp q19; simp [spTotal, q19', q8, q33, q45])))
    · refine v_aload_n (dk cd_Mo_total 21 rfl) rfl ?_
      refine v_mgi (n := 1) (dk cd_Mo_total 22 rfl) fg_Mo_187_Mo hM rfl R.ck ?_
      refine v_goto (tgt := 92) (dk cd_Mo_total 23 rfl) rfl ?_
      exact v_iret (dk cd_Mo_total 49 rfl) rfl (pmV hM (R.thr _) rfl (by first | (simp [spTotal, q8, q33]; done) | (have q19' := (sub10 q8 w4).mp q19; simp [spTotal, q19', q8, q33])))
  · refine v_iload_n (dk cd_Mo_total 6 rfl) rfl ?_
    refine v_bipush (v := 10) (dk cd_Mo_total 7 rfl) (by decide) ?_
    refine v_isub (dk cd_Mo_total 8 rfl) ?_
    refine v_aload_n (dk cd_Mo_total 9 rfl) rfl ?_
    refine v_mgi (n := 6) (dk cd_Mo_total 10 rfl) fg_Mo_248_Mo hM rfl R.nh ?_
    refine v_icmp_ge (tgt := 32) (dk cd_Mo_total 11 rfl) rfl (fun q19 => ?_) (fun q19 => ?_)
    · refine v_iload_n (dk cd_Mo_total 19 rfl) rfl ?_
      refine v_if_ne (tgt := 43) (dk cd_Mo_total 20 rfl) rfl (fun q33 => ?_) (fun q33 => ?_)
      · refine v_iload_n (dk cd_Mo_total 24 rfl) rfl ?_
        refine v_iconst (v := 1) (dk cd_Mo_total 25 rfl) (by decide) ?_
        refine v_icmp_ne (tgt := 55) (dk cd_Mo_total 26 rfl) rfl (fun q45 => ?_) (fun q45 => ?_)
        · refine v_iload_n (dk cd_Mo_total 30 rfl) rfl ?_
          refine v_iconst (v := 2) (dk cd_Mo_total 31 rfl) (by decide) ?_
          refine v_icmp_ne (tgt := 67) (dk cd_Mo_total 32 rfl) rfl (fun q57 => ?_) (fun q57 => ?_)
          · refine v_iload_n (dk cd_Mo_total 36 rfl) rfl ?_
            refine v_iconst (v := 3) (dk cd_Mo_total 37 rfl) (by decide) ?_
            refine v_icmp_ne (tgt := 79) (dk cd_Mo_total 38 rfl) rfl (fun q69 => ?_) (fun q69 => ?_)
            · refine v_iload_n (dk cd_Mo_total 42 rfl) rfl ?_
              refine v_iconst (v := 4) (dk cd_Mo_total 43 rfl) (by decide) ?_
              refine v_icmp_ne (tgt := 91) (dk cd_Mo_total 44 rfl) rfl (fun q81 => ?_) (fun q81 => ?_)
              · refine v_iconst (v := -1) (dk cd_Mo_total 48 rfl) (by decide) ?_
                exact v_iret (dk cd_Mo_total 49 rfl) rfl (pmV hM (R.thr _) rfl (by first | (simp [spTotal, q8, q19, q33, q45, q57, q69, q81]; done) | (have q19' := (sub10 q8 w4).mp q19; simp [spTotal, q19', q8, q19, q33, q45, q57, q69, q81])))
              · refine v_aload_n (dk cd_Mo_total 45 rfl) rfl ?_
                refine v_mgi (n := 6) (dk cd_Mo_total 46 rfl) fg_Mo_248_Mo hM rfl R.nh ?_
                refine v_goto (tgt := 92) (dk cd_Mo_total 47 rfl) rfl ?_
                exact v_iret (dk cd_Mo_total 49 rfl) rfl (pmV hM (R.thr _) rfl (by first | (simp [spTotal, q8, q19, q33, q45, q57, q69, q81]; done) | (have q19' := (sub10 q8 w4).mp q19; simp [spTotal, q19', q8, q19, q33, q45, q57, q69, q81])))
            · refine v_aload_n (dk cd_Mo_total 39 rfl) rfl ?_
              refine v_mgi (n := 5) (dk cd_Mo_total 40 rfl) fg_Mo_194_Mo hM rfl R.nv ?_
              refine v_goto (tgt := 92) (dk cd_Mo_total 41 rfl) rfl ?_
              exact v_iret (dk cd_Mo_total 49 rfl) rfl (pmV hM (R.thr _) rfl (by first | (simp [spTotal, q8, q19, q33, q45, q57, q69]; done) | (have q19' := (sub10 q8 w4).mp q19; simp [spTotal, q19', q8, q19, q33, q45, q57, q69])))
          · refine v_aload_n (dk cd_Mo_total 33 rfl) rfl ?_
            refine v_mgi (n := 4) (dk cd_Mo_total 34 rfl) fg_Mo_184_Mo hM rfl R.nw ?_
            refine v_goto (tgt := 92) (dk cd_Mo_total 35 rfl) rfl ?_
            exact v_iret (dk cd_Mo_total 49 rfl) rfl (pmV hM (R.thr _) rfl (by first | (simp [spTotal, q8, q19, q33, q45, q57]; done) | (have q19' := (sub10 q8 w4).mp q19; simp [spTotal, q19', q8, q19, q33, q45, q57])))
        · refine v_aload_n (dk cd_Mo_total 27 rfl) rfl ?_
          refine v_mgi (n := 2) (dk cd_Mo_total 28 rfl) fg_Mo_145_Mo hM rfl R.nc ?_
          refine v_goto (tgt := 92) (dk cd_Mo_total 29 rfl) rfl ?_
          exact v_iret (dk cd_Mo_total 49 rfl) rfl (pmV hM (R.thr _) rfl (by first | (simp [spTotal, q8, q19, q33, q45]; done) | (have q19' := (sub10 q8 w4).mp q19; simp [spTotal, q19', q8, q19, q33, q45])))
      · refine v_aload_n (dk cd_Mo_total 21 rfl) rfl ?_
        refine v_mgi (n := 1) (dk cd_Mo_total 22 rfl) fg_Mo_187_Mo hM rfl R.ck ?_
        refine v_goto (tgt := 92) (dk cd_Mo_total 23 rfl) rfl ?_
        exact v_iret (dk cd_Mo_total 49 rfl) rfl (pmV hM (R.thr _) rfl (by first | (simp [spTotal, q8, q19, q33]; done) | (have q19' := (sub10 q8 w4).mp q19; simp [spTotal, q19', q8, q19, q33])))
    · obtain ⟨h, hh, rfl⟩ := tot_nat q8 (fun z => q19 ((sub10 q8 w4).mpr z)) w4
      have hcl : nI (10 + h) - 10 = nI h := tot_sub
      obtain ⟨y, hy⟩ : ∃ y, (sHs S)[h]? = some y := ⟨_, List.getElem?_eq_getElem hh⟩
      refine v_aload_n (dk cd_Mo_total 12 rfl) rfl ?_
      refine v_getf (dk cd_Mo_total 13 rfl) fg_Mo_113_Mo hM.2.2.1 (by rfl) ?_
      refine v_iload_n (dk cd_Mo_total 14 rfl) rfl ?_
      refine v_bipush (v := 10) (dk cd_Mo_total 15 rfl) (by decide) ?_
      refine v_isub (dk cd_Mo_total 16 rfl) ?_
      rw [hcl]
      refine v_mldE (j := 34) (dk cd_Mo_total 17 rfl) hM (by decide) (by decide) (show _ < 3 by omega) (by decide) (R.hs _ _ hy).2.2.2.2.2.1 ?_
      exact v_iret (dk cd_Mo_total 18 rfl) rfl (pmV hM (R.thr _) rfl (tot_hi hy w4))
end MR
