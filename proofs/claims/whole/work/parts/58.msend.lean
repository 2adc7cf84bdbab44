/-! the model: a cell's list made anew, its pages -/
theorem insL_len (g : Nat → Int32) (L : List Nat) (x : Nat) : (insL g L x).length = L.length + 1 := by
  have := insQ_le g L x L.length
  unfold insL
  rw [List.length_append, List.length_cons, List.length_take, List.length_drop]
  omega
section MS
variable {u : Ux} {d : Nat} {A B : AH} {a : Nat} {i : Nat → Int32} {f : Nat → Nat → Int32} {S : SS} {t x : Int32} {c : Nat} {cc : CeS}
set_option maxRecDepth 100000 in
set_option maxHeartbeats 4000000 in
theorem Mo_relist_cp {L : List Nat} {fl : Bool} (R : Rel S t i f) (K : SOK S) (hc : (sCells S)[c]? = some cc) (h12 : L.length ≤ 12) (h6 : ∀ j, j < L.length → f 6 j = nI (L.getD j 0)) : ∀ k, ∀ {g : Nat → Nat → Int32} {A : AH}, (∀ j, j ≠ 5 → g j = f j) → (∀ q, ¬ (12 * c ≤ q ∧ q < 12 * c + 12) → g 5 q = f 5 q) → (∀ j, j < k → g 5 (12 * c + j) = nI (L.getD j 0)) → MH B a i g A → k ≤ L.length → V (gg u) d mm_Mo_relist 152 [some (.ref a), some (.int (nI c)), some (.int (nI L.length)), some (.int (nI k)), none] [] A (PR none B a (setCe S c (cLs cc L fl)) t) := by
  have w1 := K.wf.2.1
  have w2 := K.wf.2.2.1
  have w3 := K.wf.2.2.2.1
  have w4 := K.wf.2.2.2.2.1
  have hcl := (List.getElem?_eq_some_iff.mp hc).1
  refine up_ind L.length ?_
  intro k ih g A h1 h2 h3 hM hk
  refine v_iload_n (dk cd_Mo_relist 83 rfl) rfl ?_
  refine v_iload_n (dk cd_Mo_relist 84 rfl) rfl ?_
  refine v_icmp_geN (tgt := 180) (dk cd_Mo_relist 85 rfl) rfl (by omega) (by omega) (fun q154 => ?_) (fun q154 => ?_)
  · refine v_aload_n (dk cd_Mo_relist 100 rfl) rfl ?_
    refine v_getf (dk cd_Mo_relist 101 rfl) fg_Mo_23_Mo hM.2.2.1 (by rfl) ?_
    refine v_iload_n (dk cd_Mo_relist 102 rfl) rfl ?_
    refine v_iload_n (dk cd_Mo_relist 103 rfl) rfl ?_
    refine v_mst (j := 4) (dk cd_Mo_relist 104 rfl) hM (by decide) (by decide) (show _ < 8 by omega) (by decide) (fun A hM => ?_)
    exact v_vret (dk cd_Mo_relist 105 rfl) rfl ⟨rfl, _, _, hM, R.list K.lok hc (fun j a b e => by rw [up2_ne a]; exact h1 j b) (fun q hq => by rw [up2_off (fun _ => hq), h1 4 (by omega)]) up2_on (fun q hq => by rw [up2_ne (by omega)]; exact h2 q hq) (fun j hj => by rw [up2_ne (by omega)]; exact h3 j (by omega))⟩
  · refine v_aload_n (dk cd_Mo_relist 86 rfl) rfl ?_
    refine v_getf (dk cd_Mo_relist 87 rfl) fg_Mo_26_Mo hM.2.2.1 (by rfl) ?_
    refine v_bipush (v := nI 12) (dk cd_Mo_relist 88 rfl) (by decide) ?_
    refine v_iload_n (dk cd_Mo_relist 89 rfl) rfl ?_
    refine v_imulN (dk cd_Mo_relist 90 rfl) ?_
    refine v_iload_n (dk cd_Mo_relist 91 rfl) rfl ?_
    refine v_iaddN (dk cd_Mo_relist 92 rfl) ?_
    refine v_aload_n (dk cd_Mo_relist 93 rfl) rfl ?_
    refine v_getf (dk cd_Mo_relist 94 rfl) fg_Mo_29_Mo hM.2.2.1 (by rfl) ?_
    refine v_iload_n (dk cd_Mo_relist 95 rfl) rfl ?_
    refine v_mldE (j := 6) (dk cd_Mo_relist 96 rfl) hM (by decide) (by decide) (show _ < 12 by omega) (by decide) ((congrFun (h1 6 (by omega)) k).trans (h6 k q154)) ?_
    refine v_mst (j := 5) (dk cd_Mo_relist 97 rfl) hM (by decide) (by decide) (show _ < 96 by omega) (by decide) (fun A hM => ?_)
    refine v_iincN (dk cd_Mo_relist 98 rfl) rfl (by decide) rfl ?_
    refine v_goto (tgt := 152) (dk cd_Mo_relist 99 rfl) rfl ?_
    refine ih q154 (fun j hj => by rw [up2_ne hj]; exact h1 j hj) (fun q hq => by rw [up2_off (by omega)]; exact h2 q hq) (fun j hj => ?_) hM (by omega)
    by_cases e : j = k
    · subst e; exact up2_on
    · rw [up2_off (by omega)]; exact h3 j (by omega)
set_option maxRecDepth 100000 in
set_option maxHeartbeats 4000000 in
theorem Mo_relist_ct (K : SOK S) (hc : (sCells S)[c]? = some cc) : ∀ k, ∀ {i : Nat → Int32} {f : Nat → Nat → Int32} {A : AH}, MH B a i f A → Rel S t i f → (∀ j, j < ((cc.2.2.1.take k).filter (goesOn S (sClock S))).length → f 6 j = nI (((cc.2.2.1.take k).filter (goesOn S (sClock S))).getD j 0)) → k ≤ cc.2.2.1.length → V (gg u) d mm_Mo_relist 13 [some (.ref a), some (.int (nI c)), some (.int (nI ((cc.2.2.1.take k).filter (goesOn S (sClock S))).length)), some (.int (nI k)), none] [] A (PR none B a (setCe S c (cLs cc (cc.2.2.1.filter (goesOn S (sClock S))) cc.2.1.2)) t) := by
  have w1 := K.wf.2.1
  have w2 := K.wf.2.2.1
  have w3 := K.wf.2.2.2.1
  have w4 := K.wf.2.2.2.2.1
  have hcl := (List.getElem?_eq_some_iff.mp hc).1
  have h12 := (K.wc c cc hc).1
  have hb := (K.wc c cc hc).2.1
  refine up_ind cc.2.2.1.length ?_
  intro k ih i f A hM R h6 hk
  refine v_iload_n (dk cd_Mo_relist 9 rfl) rfl ?_
  refine v_aload_n (dk cd_Mo_relist 10 rfl) rfl ?_
  refine v_getf (dk cd_Mo_relist 11 rfl) fg_Mo_23_Mo hM.2.2.1 (by rfl) ?_
  refine v_iload_n (dk cd_Mo_relist 12 rfl) rfl ?_
  refine v_mldE (j := 4) (dk cd_Mo_relist 13 rfl) hM (by decide) (by decide) (show _ < 8 by omega) (by decide) (R.ce c cc hc).2.2.1 ?_
  refine v_icmp_geN (tgt := 67) (dk cd_Mo_relist 14 rfl) rfl (by omega) (by omega) (fun q20 => ?_) (fun q20 => ?_)
  · refine v_goto (tgt := 150) (dk cd_Mo_relist 39 rfl) rfl ?_
    have hke : k = cc.2.2.1.length := by omega
    subst hke
    rw [List.take_length] at h6 ⊢
    refine v_iconst (v := nI 0) (dk cd_Mo_relist 81 rfl) (by decide) ?_
    refine v_istore_n (dk cd_Mo_relist 82 rfl) (by decide) rfl ?_
    exact V.drop 4 (Mo_relist_cp (fl := cc.2.1.2) R K hc (Nat.le_trans (List.length_filter_le _ _) h12) h6 0 (fun _ _ => rfl) (fun _ _ => rfl) (fun j hj => absurd hj (Nat.not_lt_zero j)) hM (by omega))
  · have hvk := hb _ (getD_in q20)
    have hfl : ((cc.2.2.1.take k).filter (goesOn S (sClock S))).length ≤ k := Nat.le_trans (List.length_filter_le _ _) (by rw [List.length_take]; omega)
    refine v_aload_n (dk cd_Mo_relist 15 rfl) rfl ?_
    refine v_getf (dk cd_Mo_relist 16 rfl) fg_Mo_26_Mo hM.2.2.1 (by rfl) ?_
    refine v_bipush (v := nI 12) (dk cd_Mo_relist 17 rfl) (by decide) ?_
    refine v_iload_n (dk cd_Mo_relist 18 rfl) rfl ?_
    refine v_imulN (dk cd_Mo_relist 19 rfl) ?_
    refine v_iload_n (dk cd_Mo_relist 20 rfl) rfl ?_
    refine v_iaddN (dk cd_Mo_relist 21 rfl) ?_
    refine v_mldE (j := 5) (dk cd_Mo_relist 22 rfl) hM (by decide) (by decide) (show _ < 96 by omega) (by decide) ((R.ce c cc hc).2.2.2.1 k q20) ?_
    refine v_istore (dk cd_Mo_relist 23 rfl) (by decide) rfl ?_
    refine v_aload_n (dk cd_Mo_relist 24 rfl) rfl ?_
    refine v_getf (dk cd_Mo_relist 25 rfl) fg_Mo_71_Mo hM.2.2.1 (by rfl) ?_
    refine v_iload (dk cd_Mo_relist 26 rfl) rfl ?_
    refine v_mldE (j := 20) (dk cd_Mo_relist 27 rfl) hM (by decide) (by decide) (show _ < 40 by omega) (by decide) (R.ve _ hvk).2.2.2.1 ?_
    refine v_aload_n (dk cd_Mo_relist 28 rfl) rfl ?_
    refine v_mgi (n := 1) (dk cd_Mo_relist 29 rfl) fg_Mo_187_Mo hM rfl R.ck ?_
    refine v_icmp_le (tgt := 61) (dk cd_Mo_relist 30 rfl) rfl (fun q47 => ?_) (fun q47 => ?_)
    · refine v_iincN (dk cd_Mo_relist 37 rfl) rfl (by decide) rfl ?_
      refine v_goto (tgt := 13) (dk cd_Mo_relist 38 rfl) rfl ?_
      have hst : (cc.2.2.1.take (k + 1)).filter (goesOn S (sClock S)) = ((cc.2.2.1.take k).filter (goesOn S (sClock S))) := by rw [filter_snoc q20, if_neg (by unfold goesOn; rw [decide_eq_true q47]; decide), List.append_nil]
      have h9 := ih q20 hM R (by rw [hst]; exact h6) (by omega)
      rw [hst] at h9
      exact V.drop 4 h9
    · refine v_aload_n (dk cd_Mo_relist 31 rfl) rfl ?_
      refine v_getf (dk cd_Mo_relist 32 rfl) fg_Mo_29_Mo hM.2.2.1 (by rfl) ?_
      refine v_iload_n (dk cd_Mo_relist 33 rfl) rfl ?_
      refine v_iload (dk cd_Mo_relist 34 rfl) rfl ?_
      refine v_mst (j := 6) (dk cd_Mo_relist 35 rfl) hM (by decide) (by decide) (show _ < 12 by omega) (by decide) (fun A hM => ?_)
      refine v_iincN (dk cd_Mo_relist 36 rfl) rfl (by decide) rfl ?_
      refine v_iincN (dk cd_Mo_relist 37 rfl) rfl (by decide) rfl ?_
      refine v_goto (tgt := 13) (dk cd_Mo_relist 38 rfl) rfl ?_
      have hst : (cc.2.2.1.take (k + 1)).filter (goesOn S (sClock S)) = ((cc.2.2.1.take k).filter (goesOn S (sClock S))) ++ [cc.2.2.1.getD k 0] := by rw [filter_snoc q20, if_pos (by unfold goesOn; rw [decide_eq_false q47]; rfl)]
      have h9 := ih q20 hM (R.six (fun j hj => up2_ne hj)) (by
        rw [hst]
        intro j hj
        rw [List.length_append, List.length_singleton] at hj
        by_cases e : j = ((cc.2.2.1.take k).filter (goesOn S (sClock S))).length
        · subst e; rw [up2_on, getD_snoc_new]
        · rw [up2_off (by omega), getD_snoc_old (by omega)]; exact h6 j (by omega)) (by omega)
      rw [hst, List.length_append, List.length_singleton] at h9
      exact V.drop 4 h9
set_option maxRecDepth 100000 in
set_option maxHeartbeats 4000000 in
theorem Mo_relist_an (K : SOK S) (hc : (sCells S)[c]? = some cc) : ∀ k, ∀ {i : Nat → Int32} {f : Nat → Nat → Int32} {A : AH}, MH B a i f A → Rel S t i f → (∀ j, j < (lsTo S (keepL S c cc (sClock S)) k).length → f 6 j = nI ((lsTo S (keepL S c cc (sClock S)) k).getD j 0)) → k ≤ (sWarn S).length → V (gg u) (d + 3) mm_Mo_relist 72 [some (.ref a), some (.int (nI c)), some (.int (nI (lsTo S (keepL S c cc (sClock S)) k).length)), some (.int (nI k)), none] [] A (PR none B a (setCe S c (cLs cc (mkList S c cc (sClock S)) (!cc.2.1.2))) t) := by
  have w1 := K.wf.2.1
  have w2 := K.wf.2.2.1
  have w3 := K.wf.2.2.2.1
  have w4 := K.wf.2.2.2.2.1
  have hcl := (List.getElem?_eq_some_iff.mp hc).1
  have h12 := (K.wc c cc hc).1
  refine up_ind (sWarn S).length ?_
  intro k ih i f A hM R h6 hk
  refine v_iload_n (dk cd_Mo_relist 42 rfl) rfl ?_
  refine v_aload_n (dk cd_Mo_relist 43 rfl) rfl ?_
  refine v_mgi (n := 4) (dk cd_Mo_relist 44 rfl) fg_Mo_184_Mo hM rfl R.nw ?_
  refine v_icmp_geN (tgt := 150) (dk cd_Mo_relist 45 rfl) rfl (by omega) (by omega) (fun q77 => ?_) (fun q77 => ?_)
  · have hke : k = (sWarn S).length := by omega
    have hm : lsTo S (keepL S c cc (sClock S)) k = mkList S c cc (sClock S) := by rw [hke]; exact lsTo_all K _
    have hl12 : (mkList S c cc (sClock S)).length ≤ 12 := by rw [← hm]; have := lsTo_len K (keepL S c cc (sClock S)) k; omega
    rw [hm] at h6 ⊢
    refine v_iconst (v := nI 0) (dk cd_Mo_relist 81 rfl) (by decide) ?_
    refine v_istore_n (dk cd_Mo_relist 82 rfl) (by decide) rfl ?_
    exact V.drop 4 (Mo_relist_cp (fl := (!cc.2.1.2)) R K hc hl12 h6 0 (fun _ _ => rfl) (fun _ _ => rfl) (fun j hj => absurd hj (Nat.not_lt_zero j)) hM (by omega))
  · have hv := nwI_lt' K.wf q77
    have hnw : (vAt S (nwI S k)).1 = k := (K.nw k q77).1
    have hln := lsTo_len K (keepL S c cc (sClock S)) k
    have hLv : ∀ y ∈ (lsTo S (keepL S c cc (sClock S)) k), y < (sVers S).length := fun y hy => by obtain ⟨_, w, w1, w2, w3⟩ := lsTo_mem.mp hy; rw [← w3]; exact nwI_lt' K.wf (by omega)
    refine v_aload_n (dk cd_Mo_relist 46 rfl) rfl ?_
    refine v_getf (dk cd_Mo_relist 47 rfl) fg_Mo_59_Mo hM.2.2.1 (by rfl) ?_
    refine v_iload_n (dk cd_Mo_relist 48 rfl) rfl ?_
    refine v_mldE (j := 16) (dk cd_Mo_relist 49 rfl) hM (by decide) (by decide) (show _ < 12 by omega) (by decide) (R.wa k q77).2 ?_
    refine v_istore (dk cd_Mo_relist 50 rfl) (by decide) rfl ?_
    refine v_aload_n (dk cd_Mo_relist 51 rfl) rfl ?_
    refine v_getf (dk cd_Mo_relist 52 rfl) fg_Mo_71_Mo hM.2.2.1 (by rfl) ?_
    refine v_iload (dk cd_Mo_relist 53 rfl) rfl ?_
    refine v_mldE (j := 20) (dk cd_Mo_relist 54 rfl) hM (by decide) (by decide) (show _ < 40 by omega) (by decide) (R.ve _ hv).2.2.2.1 ?_
    refine v_aload_n (dk cd_Mo_relist 55 rfl) rfl ?_
    refine v_mgi (n := 1) (dk cd_Mo_relist 56 rfl) fg_Mo_187_Mo hM rfl R.ck ?_
    refine v_icmp_le (tgt := 144) (dk cd_Mo_relist 57 rfl) rfl (fun q99 => ?_) (fun q99 => ?_)
    · refine v_iincN (dk cd_Mo_relist 79 rfl) rfl (by decide) rfl ?_
      refine v_goto (tgt := 72) (dk cd_Mo_relist 80 rfl) rfl ?_
      have hst : lsTo S (keepL S c cc (sClock S)) (k + 1) = (lsTo S (keepL S c cc (sClock S)) k) := by rw [lsTo_step K q77, if_neg (by unfold keepL; rw [decide_eq_true q99]; simp)]
      have h9 := ih q77 hM R (by rw [hst]; exact h6) (by omega)
      rw [hst] at h9
      exact V.drop 4 h9
    · refine v_aload_n (dk cd_Mo_relist 58 rfl) rfl ?_
      refine v_getf (dk cd_Mo_relist 59 rfl) fg_Mo_74_Mo hM.2.2.1 (by rfl) ?_
      refine v_iload (dk cd_Mo_relist 60 rfl) rfl ?_
      refine v_mldzE (j := 21) (dk cd_Mo_relist 61 rfl) hM (by decide) (by decide) (show _ < 40 by omega) (by decide) (R.ve _ hv).2.2.2.2.1 ?_
      refine v_ifeqB (tgt := 125) (dk cd_Mo_relist 62 rfl) rfl (fun q109 => ?_) (fun q109 => ?_)
      · have hno := Option.isSome_eq_false_iff.mp q109
        rw [Option.isNone_iff_eq_none] at hno
        refine v_aload_n (dk cd_Mo_relist 69 rfl) rfl ?_
        refine v_iload_n (dk cd_Mo_relist 70 rfl) rfl ?_
        refine v_iload_n (dk cd_Mo_relist 71 rfl) rfl ?_
        refine v_rv (r := ("AreaWarningsModel", TT_Mo, 49)) (dk cd_Mo_relist 72 rfl) cv_Mo_223 rfl hM.2.2.1 (as := [_, _]) rfl rfl (Nat.le_of_ble_eq_true rfl) (by simp [Value.category]) (Mo_isListed_ok hM R K hc (by omega)) ?_
        refine v_ifeqB (tgt := 144) (dk cd_Mo_relist 73 rfl) rfl (fun q131 => ?_) (fun q131 => ?_)
        · refine v_iincN (dk cd_Mo_relist 79 rfl) rfl (by decide) rfl ?_
          refine v_goto (tgt := 72) (dk cd_Mo_relist 80 rfl) rfl ?_
          have hst : lsTo S (keepL S c cc (sClock S)) (k + 1) = (lsTo S (keepL S c cc (sClock S)) k) := by rw [lsTo_step K q77, if_neg (by unfold keepL; rw [show belongs S c cc (nwI S k) = false by unfold belongs; rw [hno]; show lsts S cc (vAt S (nwI S k)).1 = _; rw [hnw]; exact q131, Bool.and_false]; decide)]
          have h9 := ih q77 hM R (by rw [hst]; exact h6) (by omega)
          rw [hst] at h9
          exact V.drop 4 h9
        · refine v_aload_n (dk cd_Mo_relist 74 rfl) rfl ?_
          refine v_iload_n (dk cd_Mo_relist 75 rfl) rfl ?_
          refine v_iload (dk cd_Mo_relist 76 rfl) rfl ?_
          refine v_callv (r := ("AreaWarningsModel", TT_Mo, 49)) (dk cd_Mo_relist 77 rfl) cv_Mo_226 rfl hM.2.2.1 (as := [_, _]) rfl rfl (Nat.le_of_ble_eq_true rfl) (by simp [Value.category]) (Mo_insert_ok hM R K hLv (by omega) hv h6) pi_no (fun v9 A9 hq => ?_)
          obtain ⟨e9, i1, f1, hM, R, h6⟩ := hq
          cases e9
          refine v_iincN (dk cd_Mo_relist 78 rfl) rfl (by decide) rfl ?_
          refine v_iincN (dk cd_Mo_relist 79 rfl) rfl (by decide) rfl ?_
          refine v_goto (tgt := 72) (dk cd_Mo_relist 80 rfl) rfl ?_
          have hst : lsTo S (keepL S c cc (sClock S)) (k + 1) = insL (vKey S) (lsTo S (keepL S c cc (sClock S)) k) (nwI S k) := by rw [lsTo_step K q77, if_pos (by unfold keepL; rw [show belongs S c cc (nwI S k) = true by unfold belongs; rw [hno]; show lsts S cc (vAt S (nwI S k)).1 = _; rw [hnw]; exact q131, decide_eq_false q99]; rfl)]
          have h9 := ih q77 hM R (by rw [hst]; exact h6) (by omega)
          rw [hst, insL_len] at h9
          exact V.drop 4 h9
      · obtain ⟨s, hs⟩ := Option.isSome_iff_exists.mp q109
        obtain ⟨_, _, hs3, hs4, _⟩ := (R.ve _ hv).2.2.2.2.2 s hs
        have hwv := K.wv _ _ s (vAt_get hv) hs
        have hmn := mNr_eq (K.gv _ _ s (vAt_get hv) hs) (K.cx c _ hc).1 hs4 (R.ce c _ hc).1
        have hcv := K.cv k q77 s hs c hcl
        have hz : cAtN S c = cc := by unfold cAtN; rw [List.getD_eq_getElem?_getD, hc]; rfl
        have hcv2 : s.2.2.getD c false = mNr f (nwI S k) c s.2.1.1.length s.2.1.1.length := by rw [hcv, hmn]; unfold rch; rw [hz]
        refine v_aload_n (dk cd_Mo_relist 63 rfl) rfl ?_
        refine v_iload (dk cd_Mo_relist 64 rfl) rfl ?_
        refine v_iload_n (dk cd_Mo_relist 65 rfl) rfl ?_
        refine v_rv (r := ("AreaWarningsModel", TT_Mo, 49)) (dk cd_Mo_relist 66 rfl) cv_Mo_181 rfl hM.2.2.1 (as := [_, _]) rfl rfl (Nat.le_of_ble_eq_true rfl) (by simp [Value.category]) (Mo_isCovered_ok hM (by omega) (by omega) hs3 hwv.1) ?_
        refine v_ifeqB (tgt := 144) (dk cd_Mo_relist 67 rfl) rfl (fun q119 => ?_) (fun q119 => ?_)
        · refine v_iincN (dk cd_Mo_relist 79 rfl) rfl (by decide) rfl ?_
          refine v_goto (tgt := 72) (dk cd_Mo_relist 80 rfl) rfl ?_
          have hst : lsTo S (keepL S c cc (sClock S)) (k + 1) = (lsTo S (keepL S c cc (sClock S)) k) := by rw [lsTo_step K q77, if_neg (by unfold keepL; rw [show belongs S c cc (nwI S k) = false by unfold belongs; rw [hs]; exact hcv2.trans q119, Bool.and_false]; decide)]
          have h9 := ih q77 hM R (by rw [hst]; exact h6) (by omega)
          rw [hst] at h9
          exact V.drop 4 h9
        · refine v_goto (tgt := 134) (dk cd_Mo_relist 68 rfl) rfl ?_
          refine v_aload_n (dk cd_Mo_relist 74 rfl) rfl ?_
          refine v_iload_n (dk cd_Mo_relist 75 rfl) rfl ?_
          refine v_iload (dk cd_Mo_relist 76 rfl) rfl ?_
          refine v_callv (r := ("AreaWarningsModel", TT_Mo, 49)) (dk cd_Mo_relist 77 rfl) cv_Mo_226 rfl hM.2.2.1 (as := [_, _]) rfl rfl (Nat.le_of_ble_eq_true rfl) (by simp [Value.category]) (Mo_insert_ok hM R K hLv (by omega) hv h6) pi_no (fun v9 A9 hq => ?_)
          obtain ⟨e9, i1, f1, hM, R, h6⟩ := hq
          cases e9
          refine v_iincN (dk cd_Mo_relist 78 rfl) rfl (by decide) rfl ?_
          refine v_iincN (dk cd_Mo_relist 79 rfl) rfl (by decide) rfl ?_
          refine v_goto (tgt := 72) (dk cd_Mo_relist 80 rfl) rfl ?_
          have hst : lsTo S (keepL S c cc (sClock S)) (k + 1) = insL (vKey S) (lsTo S (keepL S c cc (sClock S)) k) (nwI S k) := by rw [lsTo_step K q77, if_pos (by unfold keepL; rw [show belongs S c cc (nwI S k) = true by unfold belongs; rw [hs]; exact hcv2.trans q119, decide_eq_false q99]; rfl)]
          have h9 := ih q77 hM R (by rw [hst]; exact h6) (by omega)
          rw [hst, insL_len] at h9
          exact V.drop 4 h9
set_option maxRecDepth 100000 in
set_option maxHeartbeats 4000000 in
theorem Mo_relist_ok (hM : MH B a i f A) (R : Rel S t i f) (K : SOK S) (hc : (sCells S)[c]? = some cc) : V (gg u) (d + 3) mm_Mo_relist 0 [some (.ref a), some (.int (nI c)), none, none, none] [] A (PR none B a (setCe S c (cMid S c cc)) t) := by
  have w1 := K.wf.2.1
  have w2 := K.wf.2.2.1
  have w3 := K.wf.2.2.2.1
  have w4 := K.wf.2.2.2.2.1
  have hcl := (List.getElem?_eq_some_iff.mp hc).1
  refine v_iconst (v := nI 0) (dk cd_Mo_relist 0 rfl) (by decide) ?_
  refine v_istore_n (dk cd_Mo_relist 1 rfl) (by decide) rfl ?_
  refine v_aload_n (dk cd_Mo_relist 2 rfl) rfl ?_
  refine v_getf (dk cd_Mo_relist 3 rfl) fg_Mo_19_Mo hM.2.2.1 (by rfl) ?_
  refine v_iload_n (dk cd_Mo_relist 4 rfl) rfl ?_
  refine v_mldzE (j := 3) (dk cd_Mo_relist 5 rfl) hM (by decide) (by decide) (show _ < 8 by omega) (by decide) (R.ce c cc hc).2.1 ?_
  refine v_ifeqB (tgt := 70) (dk cd_Mo_relist 6 rfl) rfl (fun q8 => ?_) (fun q8 => ?_)
  · refine v_iconst (v := nI 0) (dk cd_Mo_relist 40 rfl) (by decide) ?_
    refine v_istore_n (dk cd_Mo_relist 41 rfl) (by decide) rfl ?_
    have hon : cc.2.1.1 = true := by simpa using q8
    have h9 := Mo_relist_an (u := u) (d := d) (B := B) (a := a) (t := t) K hc 0 hM R (fun j hj => by have := lsTo_len K (keepL S c cc (sClock S)) 0; omega) (by omega)
    rw [show (lsTo S (keepL S c cc (sClock S)) 0).length = 0 by have := lsTo_len K (keepL S c cc (sClock S)) 0; omega] at h9
    unfold cMid
    rw [if_pos hon]
    exact h9
  · refine v_iconst (v := nI 0) (dk cd_Mo_relist 7 rfl) (by decide) ?_
    refine v_istore_n (dk cd_Mo_relist 8 rfl) (by decide) rfl ?_
    have hoff : ¬ cc.2.1.1 = true := by simpa using q8
    unfold cMid
    rw [if_neg hoff]
    exact Mo_relist_ct K hc 0 hM R (fun j hj => absurd hj (Nat.not_lt_zero j)) (by omega)
set_option maxRecDepth 100000 in
set_option maxHeartbeats 4000000 in
theorem Mo_sendAll_150 {v s l k : Nat} {sp : SpS} {P : List (Nat × Int32 × Int32)} (K : SOK S) (hc : (sCells S)[c]? = some cc) (hv : v < (sVers S).length) (hs : (vAt S v).2.2 = some sp) (hp : P.length + 9 ≤ 108) (hl : l < 3) (kont : ∀ {i : Nat → Int32} {f : Nat → Nat → Int32} {A : AH}, MH B a i f A → Rel (setCe S c (cPg cc (P ++ txTo v sp.2.1.2 (l + 1)))) t i f → V (gg u) (d + 1) mm_Mo_sendAll 136 [some (.ref a), some (.int (nI c)), some (.int (nI s)), some (.int (nI k)), some (.int (nI v)), some (.int (b2i true)), some (.int (nI (l + 1))), none] [] A (PR none B a (setCe S c (cPg cc (pSev S (sClock S) cc.2.2.1 5))) t)) : ∀ q, ∀ {i : Nat → Int32} {f : Nat → Nat → Int32} {A : AH}, MH B a i f A → Rel (setCe S c (cPg cc (P ++ (txTo v sp.2.1.2 l ++ pgTo v l q)))) t i f → q ≤ pgs (tl sp.2.1.2 l) → V (gg u) (d + 1) mm_Mo_sendAll 150 [some (.ref a), some (.int (nI c)), some (.int (nI s)), some (.int (nI k)), some (.int (nI v)), some (.int (b2i true)), some (.int (nI l)), some (.int (nI q))] [] A (PR none B a (setCe S c (cPg cc (pSev S (sClock S) cc.2.2.1 5))) t) := by
  have w1 := K.wf.2.1
  have w2 := K.wf.2.2.1
  have w3 := K.wf.2.2.2.1
  have w4 := K.wf.2.2.2.2.1
  have hcl := (List.getElem?_eq_some_iff.mp hc).1
  have h12 := (K.wc c cc hc).1
  have h30 := pgs_le3 ((K.vw hv sp hs).2 l)
  refine up_ind (pgs (tl sp.2.1.2 l)) ?_
  intro q ih i f A hM R hq9
  have hcc := getCe (c := cPg cc (P ++ (txTo v sp.2.1.2 l ++ pgTo v l q))) hcl
  have hlk : LOK (setCe S c (cPg cc (P ++ (txTo v sp.2.1.2 l ++ pgTo v l q)))) := K.lok.ce h12 (by have htl := pgTo_len v l q; have htx := txTo_len (v := v) (t := sp.2.1.2) (K.vw hv sp hs).2 l; show (P ++ (txTo v sp.2.1.2 l ++ pgTo v l q)).length ≤ 108; rw [List.length_append, List.length_append]; omega)
  refine v_iload (dk cd_Mo_sendAll 87 rfl) rfl ?_
  refine v_aload_n (dk cd_Mo_sendAll 88 rfl) rfl ?_
  refine v_iload (dk cd_Mo_sendAll 89 rfl) rfl ?_
  refine v_iload (dk cd_Mo_sendAll 90 rfl) rfl ?_
  refine v_rv (r := ("AreaWarningsModel", TT_Mo, 49)) (dk cd_Mo_sendAll 91 rfl) cv_Mo_234 rfl hM.2.2.1 (as := [_, _]) rfl rfl (Nat.le_of_ble_eq_true rfl) (by simp [Value.category]) (Mo_pagesOf_ok hM R hlk w3 hv hs hl) ?_
  refine v_icmp_geN (tgt := 180) (dk cd_Mo_sendAll 92 rfl) rfl (by omega) (by omega) (fun q160 => ?_) (fun q160 => ?_)
  · refine v_iincN (dk cd_Mo_sendAll 101 rfl) rfl (by decide) rfl ?_
    refine v_goto (tgt := 136) (dk cd_Mo_sendAll 102 rfl) rfl ?_
    have hke : q = pgs (tl sp.2.1.2 l) := by omega
    subst hke
    exact V.drop 7 (kont hM R)
  · have htl := pgTo_len v l q
    have htx := txTo_len (v := v) (t := sp.2.1.2) (K.vw hv sp hs).2 l
    refine v_aload_n (dk cd_Mo_sendAll 93 rfl) rfl ?_
    refine v_iload_n (dk cd_Mo_sendAll 94 rfl) rfl ?_
    refine v_iload (dk cd_Mo_sendAll 95 rfl) rfl ?_
    refine v_iload (dk cd_Mo_sendAll 96 rfl) rfl ?_
    refine v_iload (dk cd_Mo_sendAll 97 rfl) rfl ?_
    refine v_callv (r := ("AreaWarningsModel", TT_Mo, 49)) (dk cd_Mo_sendAll 98 rfl) cv_Mo_230 rfl hM.2.2.1 (as := [_, _, _, _]) rfl rfl (Nat.le_of_ble_eq_true rfl) (by simp [Value.category]) (Mo_page_ok hM R hlk hcc (by show (P ++ (txTo v sp.2.1.2 l ++ pgTo v l q)).length < 108; rw [List.length_append, List.length_append]; omega)) pR_no (fun v9 A9 hq => ?_)
    obtain ⟨e9, i1, f1, hM, R⟩ := hq
    cases e9
    rw [setCe2] at R
    refine v_iincN (dk cd_Mo_sendAll 99 rfl) rfl (by decide) rfl ?_
    refine v_goto (tgt := 150) (dk cd_Mo_sendAll 100 rfl) rfl ?_
    refine ih q160 hM ?_ (by omega)
    have hst : P ++ (txTo v sp.2.1.2 l ++ pgTo v l (q + 1)) = P ++ (txTo v sp.2.1.2 l ++ pgTo v l q) ++ [(v, nI l, nI q)] := by simp only [pgTo, List.append_assoc]
    rw [hst]
    exact R
set_option maxRecDepth 100000 in
set_option maxHeartbeats 4000000 in
theorem Mo_sendAll_136 {v s k : Nat} {sp : SpS} {P : List (Nat × Int32 × Int32)} (K : SOK S) (hc : (sCells S)[c]? = some cc) (hv : v < (sVers S).length) (hs : (vAt S v).2.2 = some sp) (hp : P.length + 9 ≤ 108) (kont : ∀ {i : Nat → Int32} {f : Nat → Nat → Int32} {A : AH}, MH B a i f A → Rel (setCe S c (cPg cc (P ++ txTo v sp.2.1.2 3))) t i f → V (gg u) (d + 1) mm_Mo_sendAll 186 [some (.ref a), some (.int (nI c)), some (.int (nI s)), some (.int (nI k)), none, none, none, none] [] A (PR none B a (setCe S c (cPg cc (pSev S (sClock S) cc.2.2.1 5))) t)) : ∀ l, ∀ {i : Nat → Int32} {f : Nat → Nat → Int32} {A : AH}, MH B a i f A → Rel (setCe S c (cPg cc (P ++ txTo v sp.2.1.2 l))) t i f → l ≤ 3 → V (gg u) (d + 1) mm_Mo_sendAll 136 [some (.ref a), some (.int (nI c)), some (.int (nI s)), some (.int (nI k)), some (.int (nI v)), some (.int (b2i true)), some (.int (nI l)), none] [] A (PR none B a (setCe S c (cPg cc (pSev S (sClock S) cc.2.2.1 5))) t) := by
  have w1 := K.wf.2.1
  have w2 := K.wf.2.2.1
  have w3 := K.wf.2.2.2.1
  have w4 := K.wf.2.2.2.2.1
  have hcl := (List.getElem?_eq_some_iff.mp hc).1
  have h12 := (K.wc c cc hc).1
  refine up_ind 3 ?_
  intro l ih i f A hM R hl9
  refine v_iload (dk cd_Mo_sendAll 80 rfl) rfl ?_
  refine v_iconst (v := nI 3) (dk cd_Mo_sendAll 81 rfl) (by decide) ?_
  refine v_icmp_geN (tgt := 186) (dk cd_Mo_sendAll 82 rfl) rfl (by omega) (by omega) (fun q139 => ?_) (fun q139 => ?_)
  · have hke : l = 3 := by omega
    subst hke
    exact V.drop 4 (V.drop 5 (V.drop 6 (kont hM R)))
  · refine v_iload (dk cd_Mo_sendAll 83 rfl) rfl ?_
    refine v_ifeqB (tgt := 186) (dk cd_Mo_sendAll 84 rfl) rfl (fun q144 => ?_) (fun q144 => ?_)
    · exact absurd q144 (by decide)
    · refine v_iconst (v := nI 0) (dk cd_Mo_sendAll 85 rfl) (by decide) ?_
      refine v_istore (dk cd_Mo_sendAll 86 rfl) (by decide) rfl ?_
      exact Mo_sendAll_150 K hc hv hs hp q139 (fun hM R => ih q139 hM R (by omega)) 0 hM (by simpa [pgTo] using R) (by omega)
def extP (S : SS) (v s : Nat) : List (Nat × Int32 × Int32) := (match (vAt S v).2.2 with | none => [] | some z => if vSev S v = nI s ∧ due (sClock S) z.1.1 z.1.2 = true then txTo v z.2.1.2 3 else [])
set_option maxRecDepth 100000 in
set_option maxHeartbeats 4000000 in
theorem Mo_sendAll_68 {v s k : Nat} {P : List (Nat × Int32 × Int32)} (K : SOK S) (hc : (sCells S)[c]? = some cc) (hv : v < (sVers S).length) (hp : vSev S v = nI s → (vAt S v).2.2.isSome = true → P.length + 9 ≤ 108) (kont : ∀ {i : Nat → Int32} {f : Nat → Nat → Int32} {A : AH}, MH B a i f A → Rel (setCe S c (cPg cc (P ++ extP S v s))) t i f → V (gg u) (d + 1) mm_Mo_sendAll 186 [some (.ref a), some (.int (nI c)), some (.int (nI s)), some (.int (nI k)), none, none, none, none] [] A (PR none B a (setCe S c (cPg cc (pSev S (sClock S) cc.2.2.1 5))) t)) {i : Nat → Int32} {f : Nat → Nat → Int32} {A : AH} (hM : MH B a i f A) (R : Rel (setCe S c (cPg cc (P))) t i f) : V (gg u) (d + 1) mm_Mo_sendAll 68 [some (.ref a), some (.int (nI c)), some (.int (nI s)), some (.int (nI k)), some (.int (nI v)), none, none, none] [] A (PR none B a (setCe S c (cPg cc (pSev S (sClock S) cc.2.2.1 5))) t) := by
  have w1 := K.wf.2.1
  have w2 := K.wf.2.2.1
  have w3 := K.wf.2.2.2.1
  have w4 := K.wf.2.2.2.2.1
  have hcl := (List.getElem?_eq_some_iff.mp hc).1
  have h12 := (K.wc c cc hc).1
  have RV : VeR f v (vAt S v) := R.ve v hv
  have RC : i 1 = sClock S := R.ck
  refine v_aload_n (dk cd_Mo_sendAll 43 rfl) rfl ?_
  refine v_getf (dk cd_Mo_sendAll 44 rfl) fg_Mo_68_Mo hM.2.2.1 (by rfl) ?_
  refine v_iload (dk cd_Mo_sendAll 45 rfl) rfl ?_
  refine v_mldE (j := 19) (dk cd_Mo_sendAll 46 rfl) hM (by decide) (by decide) (show _ < 40 by omega) (by decide) RV.2.2.1 ?_
  refine v_iload_n (dk cd_Mo_sendAll 47 rfl) rfl ?_
  refine v_icmp_ne (tgt := 130) (dk cd_Mo_sendAll 48 rfl) rfl (fun q76 => ?_) (fun q76 => ?_)
  · refine v_iconst (v := 0) (dk cd_Mo_sendAll 76 rfl) (by decide) ?_
    refine v_istore (dk cd_Mo_sendAll 77 rfl) (by decide) rfl ?_
    refine v_iconst (v := nI 0) (dk cd_Mo_sendAll 78 rfl) (by decide) ?_
    refine v_istore (dk cd_Mo_sendAll 79 rfl) (by decide) rfl ?_
    have hex : extP S v s = [] := by unfold extP; split <;> first | rfl | exact if_neg (fun h => q76 h.1)
    refine v_iload (dk cd_Mo_sendAll 80 rfl) rfl ?_
    refine v_iconst (v := nI 3) (dk cd_Mo_sendAll 81 rfl) (by decide) ?_
    refine v_icmp_geN (tgt := 186) (dk cd_Mo_sendAll 82 rfl) rfl (by omega) (by omega) (fun q139 => ?_) (fun q139 => ?_)
    · exact absurd q139 (by omega)
    · refine v_iload (dk cd_Mo_sendAll 83 rfl) rfl ?_
      refine v_if_eq (tgt := 186) (dk cd_Mo_sendAll 84 rfl) rfl (fun _ => ?_) (fun q => absurd rfl q)
      exact V.drop 4 (V.drop 5 (V.drop 6 (kont hM (by rw [hex, List.append_nil]; exact R))))
  · refine v_aload_n (dk cd_Mo_sendAll 49 rfl) rfl ?_
    refine v_getf (dk cd_Mo_sendAll 50 rfl) fg_Mo_74_Mo hM.2.2.1 (by rfl) ?_
    refine v_iload (dk cd_Mo_sendAll 51 rfl) rfl ?_
    refine v_mldzE (j := 21) (dk cd_Mo_sendAll 52 rfl) hM (by decide) (by decide) (show _ < 40 by omega) (by decide) RV.2.2.2.2.1 ?_
    refine v_ifeqB (tgt := 130) (dk cd_Mo_sendAll 53 rfl) rfl (fun q86 => ?_) (fun q86 => ?_)
    · refine v_iconst (v := 0) (dk cd_Mo_sendAll 76 rfl) (by decide) ?_
      refine v_istore (dk cd_Mo_sendAll 77 rfl) (by decide) rfl ?_
      refine v_iconst (v := nI 0) (dk cd_Mo_sendAll 78 rfl) (by decide) ?_
      refine v_istore (dk cd_Mo_sendAll 79 rfl) (by decide) rfl ?_
      have hex : extP S v s = [] := by unfold extP; rw [Option.isNone_iff_eq_none.mp (Option.isSome_eq_false_iff.mp q86)]
      refine v_iload (dk cd_Mo_sendAll 80 rfl) rfl ?_
      refine v_iconst (v := nI 3) (dk cd_Mo_sendAll 81 rfl) (by decide) ?_
      refine v_icmp_geN (tgt := 186) (dk cd_Mo_sendAll 82 rfl) rfl (by omega) (by omega) (fun q139 => ?_) (fun q139 => ?_)
      · exact absurd q139 (by omega)
      · refine v_iload (dk cd_Mo_sendAll 83 rfl) rfl ?_
        refine v_if_eq (tgt := 186) (dk cd_Mo_sendAll 84 rfl) rfl (fun _ => ?_) (fun q => absurd rfl q)
        exact V.drop 4 (V.drop 5 (V.drop 6 (kont hM (by rw [hex, List.append_nil]; exact R))))
    · obtain ⟨sp, hsp⟩ := Option.isSome_iff_exists.mp q86
      obtain ⟨hs1, hs2, _⟩ := RV.2.2.2.2.2 sp hsp
      have hne := (K.wv _ _ sp (vAt_get hv) hsp).2.2.2.2
      refine v_aload_n (dk cd_Mo_sendAll 54 rfl) rfl ?_
      refine v_mgi (n := 1) (dk cd_Mo_sendAll 55 rfl) fg_Mo_187_Mo hM rfl RC ?_
      refine v_aload_n (dk cd_Mo_sendAll 56 rfl) rfl ?_
      refine v_getf (dk cd_Mo_sendAll 57 rfl) fg_Mo_77_Mo hM.2.2.1 (by rfl) ?_
      refine v_iload (dk cd_Mo_sendAll 58 rfl) rfl ?_
      refine v_mldE (j := 22) (dk cd_Mo_sendAll 59 rfl) hM (by decide) (by decide) (show _ < 40 by omega) (by decide) hs1 ?_
      refine v_icmp_lt (tgt := 130) (dk cd_Mo_sendAll 60 rfl) rfl (fun q100 => ?_) (fun q100 => ?_)
      · refine v_iconst (v := 0) (dk cd_Mo_sendAll 76 rfl) (by decide) ?_
        refine v_istore (dk cd_Mo_sendAll 77 rfl) (by decide) rfl ?_
        refine v_iconst (v := nI 0) (dk cd_Mo_sendAll 78 rfl) (by decide) ?_
        refine v_istore (dk cd_Mo_sendAll 79 rfl) (by decide) rfl ?_
        have hex : extP S v s = [] := by unfold extP; rw [hsp]; exact if_neg (fun h => by have := h.2; unfold due at this; simp [q100] at this)
        refine v_iload (dk cd_Mo_sendAll 80 rfl) rfl ?_
        refine v_iconst (v := nI 3) (dk cd_Mo_sendAll 81 rfl) (by decide) ?_
        refine v_icmp_geN (tgt := 186) (dk cd_Mo_sendAll 82 rfl) rfl (by omega) (by omega) (fun q139 => ?_) (fun q139 => ?_)
        · exact absurd q139 (by omega)
        · refine v_iload (dk cd_Mo_sendAll 83 rfl) rfl ?_
          refine v_if_eq (tgt := 186) (dk cd_Mo_sendAll 84 rfl) rfl (fun _ => ?_) (fun q => absurd rfl q)
          exact V.drop 4 (V.drop 5 (V.drop 6 (kont hM (by rw [hex, List.append_nil]; exact R))))
      · refine v_aload_n (dk cd_Mo_sendAll 61 rfl) rfl ?_
        refine v_mgi (n := 1) (dk cd_Mo_sendAll 62 rfl) fg_Mo_187_Mo hM rfl RC ?_
        refine v_aload_n (dk cd_Mo_sendAll 63 rfl) rfl ?_
        refine v_getf (dk cd_Mo_sendAll 64 rfl) fg_Mo_77_Mo hM.2.2.1 (by rfl) ?_
        refine v_iload (dk cd_Mo_sendAll 65 rfl) rfl ?_
        refine v_mldE (j := 22) (dk cd_Mo_sendAll 66 rfl) hM (by decide) (by decide) (show _ < 40 by omega) (by decide) hs1 ?_
        refine v_isub (dk cd_Mo_sendAll 67 rfl) ?_
        refine v_aload_n (dk cd_Mo_sendAll 68 rfl) rfl ?_
        refine v_getf (dk cd_Mo_sendAll 69 rfl) fg_Mo_80_Mo hM.2.2.1 (by rfl) ?_
        refine v_iload (dk cd_Mo_sendAll 70 rfl) rfl ?_
        refine v_mldE (j := 23) (dk cd_Mo_sendAll 71 rfl) hM (by decide) (by decide) (show _ < 40 by omega) (by decide) hs2 ?_
        refine v_irem (dk cd_Mo_sendAll 72 rfl) hne ?_
        refine v_if_ne (tgt := 130) (dk cd_Mo_sendAll 73 rfl) rfl (fun q123 => ?_) (fun q123 => ?_)
        · refine v_iconst (v := 0) (dk cd_Mo_sendAll 76 rfl) (by decide) ?_
          refine v_istore (dk cd_Mo_sendAll 77 rfl) (by decide) rfl ?_
          refine v_iconst (v := nI 0) (dk cd_Mo_sendAll 78 rfl) (by decide) ?_
          refine v_istore (dk cd_Mo_sendAll 79 rfl) (by decide) rfl ?_
          have hex : extP S v s = [] := by unfold extP; rw [hsp]; exact if_neg (fun h => by have := h.2; unfold due at this; simp [q123] at this)
          refine v_iload (dk cd_Mo_sendAll 80 rfl) rfl ?_
          refine v_iconst (v := nI 3) (dk cd_Mo_sendAll 81 rfl) (by decide) ?_
          refine v_icmp_geN (tgt := 186) (dk cd_Mo_sendAll 82 rfl) rfl (by omega) (by omega) (fun q139 => ?_) (fun q139 => ?_)
          · exact absurd q139 (by omega)
          · refine v_iload (dk cd_Mo_sendAll 83 rfl) rfl ?_
            refine v_if_eq (tgt := 186) (dk cd_Mo_sendAll 84 rfl) rfl (fun _ => ?_) (fun q => absurd rfl q)
            exact V.drop 4 (V.drop 5 (V.drop 6 (kont hM (by rw [hex, List.append_nil]; exact R))))
        · refine v_iconst (v := 1) (dk cd_Mo_sendAll 74 rfl) (by decide) ?_
          refine v_goto (tgt := 131) (dk cd_Mo_sendAll 75 rfl) rfl ?_
          refine v_istore (dk cd_Mo_sendAll 77 rfl) (by decide) rfl ?_
          refine v_iconst (v := nI 0) (dk cd_Mo_sendAll 78 rfl) (by decide) ?_
          refine v_istore (dk cd_Mo_sendAll 79 rfl) (by decide) rfl ?_
          have hex : extP S v s = txTo v sp.2.1.2 3 := by unfold extP; rw [hsp]; exact if_pos ⟨q76, by unfold due; simp [q100, q123]⟩
          exact Mo_sendAll_136 K hc hv hsp (hp q76 q86) (fun hM R => kont hM (by rw [hex]; exact R)) 0 hM (by simpa [txTo] using R) (by omega)
set_option maxRecDepth 100000 in
set_option maxHeartbeats 4000000 in
theorem Mo_sendAll_15 {s : Nat} (K : SOK S) (hc : (sCells S)[c]? = some cc) (hs : 1 ≤ s ∧ s ≤ 5) (kont : ∀ {i : Nat → Int32} {f : Nat → Nat → Int32} {A : AH}, MH B a i f A → Rel (setCe S c (cPg cc (pSev S (sClock S) cc.2.2.1 (5 - s) ++ sPg S (sClock S) s cc.2.2.1))) t i f → V (gg u) (d + 1) mm_Mo_sendAll 192 [some (.ref a), some (.int (nI c)), some (.int (nI s)), none, none, none, none, none] [] A (PR none B a (setCe S c (cPg cc (pSev S (sClock S) cc.2.2.1 5))) t)) : ∀ k, ∀ {i : Nat → Int32} {f : Nat → Nat → Int32} {A : AH}, MH B a i f A → Rel (setCe S c (cPg cc (pSev S (sClock S) cc.2.2.1 (5 - s) ++ sPg S (sClock S) s (cc.2.2.1.take k)))) t i f → k ≤ cc.2.2.1.length → V (gg u) (d + 1) mm_Mo_sendAll 15 [some (.ref a), some (.int (nI c)), some (.int (nI s)), some (.int (nI k)), none, none, none, none] [] A (PR none B a (setCe S c (cPg cc (pSev S (sClock S) cc.2.2.1 5))) t) := by
  have w1 := K.wf.2.1
  have w2 := K.wf.2.2.1
  have w3 := K.wf.2.2.2.1
  have w4 := K.wf.2.2.2.2.1
  have hcl := (List.getElem?_eq_some_iff.mp hc).1
  have h12 := (K.wc c cc hc).1
  have hb := (K.wc c cc hc).2.1
  refine up_ind cc.2.2.1.length ?_
  intro k ih i f A hM R hk
  have hcc := getCe (c := cPg cc (pSev S (sClock S) cc.2.2.1 (5 - s) ++ sPg S (sClock S) s (cc.2.2.1.take k))) hcl
  have hlk : LOK (setCe S c (cPg cc (pSev S (sClock S) cc.2.2.1 (5 - s) ++ sPg S (sClock S) s (cc.2.2.1.take k)))) := K.lok.ce h12 (by
    have b1 := pSev_len (clk := sClock S) K.wv hb (5 - s)
    have b2 := sPg_len (clk := sClock S) (s := s) (l := cc.2.2.1.take k) K.wv (fun v hv => hb v (List.mem_of_mem_take hv))
    have b3 : (cc.2.2.1.take k).countP (fun v => decide (vSev S v = nI s)) ≤ cc.2.2.1.countP (fun v => decide (vSev S v = nI s)) := List.Sublist.countP_le (List.take_sublist _ _)
    have b4 := cS_le (S := S) (n := 5 - s + 1) cc.2.2.1 (by omega)
    simp only [cS] at b4
    rw [show 5 - (5 - s) = s by omega] at b4
    show (pSev S (sClock S) cc.2.2.1 (5 - s) ++ sPg S (sClock S) s (cc.2.2.1.take k)).length ≤ 108
    rw [List.length_append]
    omega)
  refine v_iload_n (dk cd_Mo_sendAll 11 rfl) rfl ?_
  refine v_aload_n (dk cd_Mo_sendAll 12 rfl) rfl ?_
  refine v_getf (dk cd_Mo_sendAll 13 rfl) fg_Mo_23_Mo hM.2.2.1 (by rfl) ?_
  refine v_iload_n (dk cd_Mo_sendAll 14 rfl) rfl ?_
  refine v_mldE (j := 4) (dk cd_Mo_sendAll 15 rfl) hM (by decide) (by decide) (show _ < 8 by omega) (by decide) (show f 4 c = nI cc.2.2.1.length from (R.ce c _ hcc).2.2.1) ?_
  refine v_icmp_geN (tgt := 192) (dk cd_Mo_sendAll 16 rfl) rfl (by omega) (by omega) (fun q22 => ?_) (fun q22 => ?_)
  · have hke : k = cc.2.2.1.length := by have q22 : cc.2.2.1.length ≤ k := q22; omega
    subst hke
    rw [List.take_length] at R
    exact V.drop 3 (kont hM R)
  · have q22 : k < cc.2.2.1.length := q22
    have hv := hb _ (getD_in q22)
    have htk := take_snocD q22
    have hbd : vSev S (cc.2.2.1.getD k 0) = nI s → (pSev S (sClock S) cc.2.2.1 (5 - s) ++ sPg S (sClock S) s (cc.2.2.1.take k)).length + 9 ≤ 108 := by
      intro hq
      have b1 := pSev_len (clk := sClock S) K.wv hb (5 - s)
      have b2 := sPg_len (clk := sClock S) (s := s) (l := cc.2.2.1.take k) K.wv (fun v hv => hb v (List.mem_of_mem_take hv))
      have b3 := cnt_take (f := fun v => decide (vSev S v = nI s)) q22 (by rw [List.getD_eq_getElem?_getD, List.getElem?_eq_getElem q22] at hq; simpa using hq)
      have b4 := cS_le (S := S) (n := 5 - s + 1) cc.2.2.1 (by omega)
      simp only [cS] at b4
      rw [show 5 - (5 - s) = s by omega] at b4
      rw [List.length_append]
      omega
    refine v_aload_n (dk cd_Mo_sendAll 17 rfl) rfl ?_
    refine v_getf (dk cd_Mo_sendAll 18 rfl) fg_Mo_26_Mo hM.2.2.1 (by rfl) ?_
    refine v_bipush (v := nI 12) (dk cd_Mo_sendAll 19 rfl) (by decide) ?_
    refine v_iload_n (dk cd_Mo_sendAll 20 rfl) rfl ?_
    refine v_imulN (dk cd_Mo_sendAll 21 rfl) ?_
    refine v_iload_n (dk cd_Mo_sendAll 22 rfl) rfl ?_
    refine v_iaddN (dk cd_Mo_sendAll 23 rfl) ?_
    refine v_mldE (j := 5) (dk cd_Mo_sendAll 24 rfl) hM (by decide) (by decide) (show _ < 96 by omega) (by decide) (show f 5 (12 * c + k) = nI (cc.2.2.1.getD k 0) from (R.ce c _ hcc).2.2.2.1 k q22) ?_
    refine v_istore (dk cd_Mo_sendAll 25 rfl) (by decide) rfl ?_
    refine v_aload_n (dk cd_Mo_sendAll 26 rfl) rfl ?_
    refine v_getf (dk cd_Mo_sendAll 27 rfl) fg_Mo_68_Mo hM.2.2.1 (by rfl) ?_
    refine v_iload (dk cd_Mo_sendAll 28 rfl) rfl ?_
    refine v_mldE (j := 19) (dk cd_Mo_sendAll 29 rfl) hM (by decide) (by decide) (show _ < 40 by omega) (by decide) (show VeR f (cc.2.2.1.getD k 0) (vAt S (cc.2.2.1.getD k 0)) from R.ve _ hv).2.2.1 ?_
    refine v_iload_n (dk cd_Mo_sendAll 30 rfl) rfl ?_
    refine v_icmp_ne (tgt := 68) (dk cd_Mo_sendAll 31 rfl) rfl (fun q46 => ?_) (fun q46 => ?_)
    · refine Mo_sendAll_68 K hc hv (fun h => absurd h q46) (fun {i f A} hM R => ?_) hM R
      refine v_iincN (dk cd_Mo_sendAll 103 rfl) rfl (by decide) rfl ?_
      refine v_goto (tgt := 15) (dk cd_Mo_sendAll 104 rfl) rfl ?_
      exact ih q22 hM (by rw [htk, sPg_snoc]; rw [if_neg (show ¬ vSev S (cc.2.2.1.getD k 0) = nI s from q46), ← List.append_assoc]; have e : extP S (cc.2.2.1.getD k 0) s = [] := (by unfold extP; split; rfl; exact if_neg (fun h => q46 h.1)); rw [e] at R; exact R) (by omega)
    · refine v_aload_n (dk cd_Mo_sendAll 32 rfl) rfl ?_
      refine v_getf (dk cd_Mo_sendAll 33 rfl) fg_Mo_74_Mo hM.2.2.1 (by rfl) ?_
      refine v_iload (dk cd_Mo_sendAll 34 rfl) rfl ?_
      refine v_mldzE (j := 21) (dk cd_Mo_sendAll 35 rfl) hM (by decide) (by decide) (show _ < 40 by omega) (by decide) (show VeR f (cc.2.2.1.getD k 0) (vAt S (cc.2.2.1.getD k 0)) from R.ve _ hv).2.2.2.2.1 ?_
      refine v_ifneB (tgt := 68) (dk cd_Mo_sendAll 36 rfl) rfl (fun q56 => ?_) (fun q56 => ?_)
      · refine Mo_sendAll_68 K hc hv (fun h _ => hbd h) (fun {i f A} hM R => ?_) hM R
        refine v_iincN (dk cd_Mo_sendAll 103 rfl) rfl (by decide) rfl ?_
        refine v_goto (tgt := 15) (dk cd_Mo_sendAll 104 rfl) rfl ?_
        exact ih q22 hM (by rw [htk, sPg_snoc]; rw [if_pos (show vSev S (cc.2.2.1.getD k 0) = nI s from q46), ← List.append_assoc]; have e : vPages S (cc.2.2.1.getD k 0) (sClock S) = extP S (cc.2.2.1.getD k 0) s := (by obtain ⟨z, hz⟩ := Option.isSome_iff_exists.mp q56; unfold extP vPages; rw [hz]; simp only [show vSev S (cc.2.2.1.getD k 0) = nI s from q46, true_and]); rw [e]; exact R) (by omega)
      · refine v_aload_n (dk cd_Mo_sendAll 37 rfl) rfl ?_
        refine v_iload_n (dk cd_Mo_sendAll 38 rfl) rfl ?_
        refine v_iload (dk cd_Mo_sendAll 39 rfl) rfl ?_
        refine v_iconst (v := 3) (dk cd_Mo_sendAll 40 rfl) (by decide) ?_
        refine v_iconst (v := 0) (dk cd_Mo_sendAll 41 rfl) (by decide) ?_
        refine v_callv (r := ("AreaWarningsModel", TT_Mo, 49)) (dk cd_Mo_sendAll 42 rfl) cv_Mo_230 rfl hM.2.2.1 (as := [_, _, _, _]) rfl rfl (Nat.le_of_ble_eq_true rfl) (by simp [Value.category]) (Mo_page_ok hM R hlk hcc (by have := hbd q46; show (pSev S (sClock S) cc.2.2.1 (5 - s) ++ sPg S (sClock S) s (cc.2.2.1.take k)).length < 108; omega)) pR_no (fun v9 A9 hq => ?_)
        obtain ⟨e9, i1, f1, hM, R⟩ := hq
        cases e9
        rw [setCe2] at R
        refine Mo_sendAll_68 K hc hv (fun _ h => by rw [q56] at h; cases h) (fun {i f A} hM R => ?_) hM R
        refine v_iincN (dk cd_Mo_sendAll 103 rfl) rfl (by decide) rfl ?_
        refine v_goto (tgt := 15) (dk cd_Mo_sendAll 104 rfl) rfl ?_
        exact ih q22 hM (by rw [htk, sPg_snoc]; rw [if_pos (show vSev S (cc.2.2.1.getD k 0) = nI s from q46), ← List.append_assoc]; have hz := Option.isNone_iff_eq_none.mp (Option.isSome_eq_false_iff.mp q56); have e : extP S (cc.2.2.1.getD k 0) s = [] := (by unfold extP; rw [hz]); have e2 : vPages S (cc.2.2.1.getD k 0) (sClock S) = [((cc.2.2.1.getD k 0), 3, 0)] := (by unfold vPages; rw [hz]); rw [e, List.append_nil] at R; rw [e2]; exact R) (by omega)
set_option maxRecDepth 100000 in
set_option maxHeartbeats 4000000 in
theorem Mo_sendAll_9 (K : SOK S) (hc : (sCells S)[c]? = some cc) : ∀ s, ∀ {i : Nat → Int32} {f : Nat → Nat → Int32} {A : AH}, MH B a i f A → Rel (setCe S c (cPg cc (pSev S (sClock S) cc.2.2.1 (5 - s)))) t i f → s ≤ 5 → V (gg u) (d + 1) mm_Mo_sendAll 9 [some (.ref a), some (.int (nI c)), some (.int (nI s)), none, none, none, none, none] [] A (PR none B a (setCe S c (cPg cc (pSev S (sClock S) cc.2.2.1 5))) t) := by
  intro s
  induction s with
  | zero =>
    intro i f A hM R _
    refine v_iload_n (dk cd_Mo_sendAll 7 rfl) rfl ?_
    refine v_if_le (tgt := 198) (dk cd_Mo_sendAll 8 rfl) rfl (fun _ => ?_) (fun q => absurd (by decide) q)
    exact v_vret (dk cd_Mo_sendAll 107 rfl) rfl ⟨rfl, _, _, hM, R⟩
  | succ s ih =>
    intro i f A hM R h5
    refine v_iload_n (dk cd_Mo_sendAll 7 rfl) rfl ?_
    refine v_if_le (tgt := 198) (dk cd_Mo_sendAll 8 rfl) rfl (fun q => absurd ((nI_le0 (by omega)).mp q) (by omega)) (fun _ => ?_)
    refine v_iconst (v := nI 0) (dk cd_Mo_sendAll 9 rfl) (by decide) ?_
    refine v_istore_n (dk cd_Mo_sendAll 10 rfl) (by decide) rfl ?_
    refine Mo_sendAll_15 K hc ⟨by omega, h5⟩ (fun {i f A} hM R => ?_) 0 hM (by simpa [sPg] using R) (by omega)
    refine v_iincM (dk cd_Mo_sendAll 105 rfl) rfl (by decide) rfl ?_
    refine v_goto (tgt := 9) (dk cd_Mo_sendAll 106 rfl) rfl ?_
    refine ih hM ?_ (by omega)
    rw [show 5 - s = 5 - (s + 1) + 1 by omega]
    simp only [pSev]
    rw [show 5 - (5 - (s + 1)) = s + 1 by omega]
    exact R
set_option maxRecDepth 100000 in
set_option maxHeartbeats 4000000 in
theorem Mo_sendAll_ok (hM : MH B a i f A) (R : Rel S t i f) (K : SOK S) (hc : (sCells S)[c]? = some cc) : V (gg u) (d + 1) mm_Mo_sendAll 0 [some (.ref a), some (.int (nI c)), none, none, none, none, none, none] [] A (PR none B a (setCe S c (cPg cc (pSev S (sClock S) cc.2.2.1 5))) t) := by
  have w1 := K.wf.2.1
  have w2 := K.wf.2.2.1
  have w3 := K.wf.2.2.2.1
  have w4 := K.wf.2.2.2.2.1
  have hcl := (List.getElem?_eq_some_iff.mp hc).1
  refine v_aload_n (dk cd_Mo_sendAll 0 rfl) rfl ?_
  refine v_getf (dk cd_Mo_sendAll 1 rfl) fg_Mo_32_Mo hM.2.2.1 (by rfl) ?_
  refine v_iload_n (dk cd_Mo_sendAll 2 rfl) rfl ?_
  refine v_iconst (v := nI 0) (dk cd_Mo_sendAll 3 rfl) (by decide) ?_
  refine v_mst (j := 7) (dk cd_Mo_sendAll 4 rfl) hM (by decide) (by decide) (show _ < 8 by omega) (by decide) (fun A hM => ?_)
  refine v_iconst (v := nI 5) (dk cd_Mo_sendAll 5 rfl) (by decide) ?_
  refine v_istore_n (dk cd_Mo_sendAll 6 rfl) (by decide) rfl ?_
  exact Mo_sendAll_9 K hc 5 hM (R.empty K.lok hc) (by omega)
end MS
