/-! the model: find, live, covered, make, fill -/
def liveB (S : SS) (w : Nat) : Bool := !decide ((nwV S w).2.1.2.2 ≤ sClock S) && (nwV S w).2.2.isSome
theorem live_none {S : SS} {id : Int32} (h : fnd S id = none) : live S id = none := by simp [live, h]
theorem live_some {S : SS} {id : Int32} {w : Nat} (h : fnd S id = some w) : live S id = if liveB S w = true then some w else none := by
  unfold live liveB
  rw [h]
  simp only []
  by_cases h1 : (nwV S w).2.1.2.2 ≤ sClock S
  · simp [h1]
  · by_cases h2 : (nwV S w).2.2.isSome = true
    · simp [h1, h2]
    · simp [h1, h2]
section MQ
variable {u : Ux} {d : Nat} {A B : AH} {a : Nat} {i : Nat → Int32} {f : Nat → Nat → Int32} {S S' : SS} {t x : Int32}
set_option maxRecDepth 100000 in
set_option maxHeartbeats 4000000 in
theorem Mo_find_lp {id : Int32} (hM : MH B a i f A) (R : Rel S t i f) (K : SOK S) (hx : fndI S id = x) : ∀ k, k ≤ (sWarn S).length → V (gg u) d mm_Mo_find 4 [some (.ref a), some (.int id), some (.int (mfnd f id k)), some (.int (nI k))] [] A (Rt (some (.int x)) A) := by
  have w1 := K.wf.2.1
  have w2 := K.wf.2.2.1
  have w3 := K.wf.2.2.2.1
  have w4 := K.wf.2.2.2.2.1
  refine up_ind (sWarn S).length ?_
  intro k ih hk
  refine v_iload_n (dk cd_Mo_find 4 rfl) rfl ?_
  refine v_aload_n (dk cd_Mo_find 5 rfl) rfl ?_
  refine v_mgi (n := 4) (dk cd_Mo_find 6 rfl) fg_Mo_184_Mo hM rfl R.nw ?_
  refine v_icmp_geN (tgt := 34) (dk cd_Mo_find 7 rfl) rfl (by omega) (by omega) (fun q9 => ?_) (fun q9 => ?_)
  · have hke : k = (sWarn S).length := by omega
    refine v_iload_n (dk cd_Mo_find 20 rfl) rfl ?_
    exact v_iret (dk cd_Mo_find 21 rfl) rfl (rt_of (by rw [hke, mfnd_eq R K, hx]))
  · refine v_aload_n (dk cd_Mo_find 8 rfl) rfl ?_
    refine v_getf (dk cd_Mo_find 9 rfl) fg_Mo_56_Mo hM.2.2.1 (by rfl) ?_
    refine v_iload_n (dk cd_Mo_find 10 rfl) rfl ?_
    refine v_mld (j := 15) (dk cd_Mo_find 11 rfl) hM (by decide) (by decide) (show _ < 12 by omega) (by decide) ?_
    refine v_iload_n (dk cd_Mo_find 12 rfl) rfl ?_
    refine v_icmp_ne (tgt := 26) (dk cd_Mo_find 13 rfl) rfl (fun q19 => ?_) (fun q19 => ?_)
    · refine v_iload_n (dk cd_Mo_find 16 rfl) rfl ?_
      refine v_istore_n (dk cd_Mo_find 17 rfl) (by decide) rfl ?_
      refine v_iincN (dk cd_Mo_find 18 rfl) rfl (by decide) rfl ?_
      refine v_goto (tgt := 4) (dk cd_Mo_find 19 rfl) rfl ?_
      have h9 := ih q9 (by omega)
      rw [show mfnd f id (k + 1) = mfnd f id k by simp [mfnd, q19]] at h9
      exact h9
    · refine v_iload_n (dk cd_Mo_find 14 rfl) rfl ?_
      refine v_goto (tgt := 27) (dk cd_Mo_find 15 rfl) rfl ?_
      refine v_istore_n (dk cd_Mo_find 17 rfl) (by decide) rfl ?_
      refine v_iincN (dk cd_Mo_find 18 rfl) rfl (by decide) rfl ?_
      refine v_goto (tgt := 4) (dk cd_Mo_find 19 rfl) rfl ?_
      have h9 := ih q9 (by omega)
      rw [show mfnd f id (k + 1) = nI k by simp [mfnd, q19]] at h9
      exact h9
set_option maxRecDepth 100000 in
set_option maxHeartbeats 4000000 in
theorem Mo_find_ok {id : Int32} (hM : MH B a i f A) (R : Rel S t i f) (K : SOK S) (hx : fndI S id = x) : V (gg u) d mm_Mo_find 0 [some (.ref a), some (.int id), none, none] [] A (Rt (some (.int x)) A) := by
  refine v_iconst (v := -1) (dk cd_Mo_find 0 rfl) (by decide) ?_
  refine v_istore_n (dk cd_Mo_find 1 rfl) (by decide) rfl ?_
  refine v_iconst (v := nI 0) (dk cd_Mo_find 2 rfl) (by decide) ?_
  refine v_istore_n (dk cd_Mo_find 3 rfl) (by decide) rfl ?_
  exact Mo_find_lp hM R K hx 0 (by omega)
set_option maxRecDepth 100000 in
set_option maxHeartbeats 4000000 in
theorem Mo_isLive_no (hM : MH B a i f A) (hx : x < 0) : V (gg u) d mm_Mo_isLive 0 [some (.ref a), some (.int x)] [] A (Rt (some (.int (b2i false))) A) := by
  refine v_iload_n (dk cd_Mo_isLive 0 rfl) rfl ?_
  refine v_if_lt (tgt := 40) (dk cd_Mo_isLive 1 rfl) rfl (fun q1 => ?_) (fun q1 => ?_)
  · refine v_iconst (v := 0) (dk cd_Mo_isLive 22 rfl) (by decide) ?_
    exact v_zret (dk cd_Mo_isLive 23 rfl) rfl rfl (rt_f rfl)
  · exact absurd hx q1
set_option maxRecDepth 100000 in
set_option maxHeartbeats 4000000 in
theorem Mo_isLive_ok {w : Nat} (hM : MH B a i f A) (R : Rel S t i f) (K : SOK S) (hw : w < (sWarn S).length) : V (gg u) d mm_Mo_isLive 0 [some (.ref a), some (.int (nI w))] [] A (Rt (some (.int (b2i (liveB S w)))) A) := by
  have w1 := K.wf.2.1
  have w2 := K.wf.2.2.1
  have w3 := K.wf.2.2.2.1
  have w4 := K.wf.2.2.2.2.1
  have hv := nwI_lt' K.wf hw
  refine v_iload_n (dk cd_Mo_isLive 0 rfl) rfl ?_
  refine v_if_lt (tgt := 40) (dk cd_Mo_isLive 1 rfl) rfl (fun q1 => ?_) (fun q1 => ?_)
  · exact absurd q1 (nI_pos (by omega))
  · refine v_aload_n (dk cd_Mo_isLive 2 rfl) rfl ?_
    refine v_getf (dk cd_Mo_isLive 3 rfl) fg_Mo_71_Mo hM.2.2.1 (by rfl) ?_
    refine v_aload_n (dk cd_Mo_isLive 4 rfl) rfl ?_
    refine v_getf (dk cd_Mo_isLive 5 rfl) fg_Mo_59_Mo hM.2.2.1 (by rfl) ?_
    refine v_iload_n (dk cd_Mo_isLive 6 rfl) rfl ?_
    refine v_mldE (j := 16) (dk cd_Mo_isLive 7 rfl) hM (by decide) (by decide) (show _ < 12 by omega) (by decide) (R.wa w hw).2 ?_
    refine v_mldE (j := 20) (dk cd_Mo_isLive 8 rfl) hM (by decide) (by decide) (show _ < 40 by omega) (by decide) (R.ve _ hv).2.2.2.1 ?_
    refine v_aload_n (dk cd_Mo_isLive 9 rfl) rfl ?_
    refine v_mgi (n := 1) (dk cd_Mo_isLive 10 rfl) fg_Mo_187_Mo hM rfl R.ck ?_
    refine v_icmp_le (tgt := 40) (dk cd_Mo_isLive 11 rfl) rfl (fun q19 => ?_) (fun q19 => ?_)
    · refine v_iconst (v := 0) (dk cd_Mo_isLive 22 rfl) (by decide) ?_
      exact v_zret (dk cd_Mo_isLive 23 rfl) rfl rfl (rt_f (by simp [liveB, nwV, q19]))
    · refine v_aload_n (dk cd_Mo_isLive 12 rfl) rfl ?_
      refine v_getf (dk cd_Mo_isLive 13 rfl) fg_Mo_74_Mo hM.2.2.1 (by rfl) ?_
      refine v_aload_n (dk cd_Mo_isLive 14 rfl) rfl ?_
      refine v_getf (dk cd_Mo_isLive 15 rfl) fg_Mo_59_Mo hM.2.2.1 (by rfl) ?_
      refine v_iload_n (dk cd_Mo_isLive 16 rfl) rfl ?_
      refine v_mldE (j := 16) (dk cd_Mo_isLive 17 rfl) hM (by decide) (by decide) (show _ < 12 by omega) (by decide) (R.wa w hw).2 ?_
      refine v_mldzE (j := 21) (dk cd_Mo_isLive 18 rfl) hM (by decide) (by decide) (show _ < 40 by omega) (by decide) (R.ve _ hv).2.2.2.2.1 ?_
      refine v_ifeqB (tgt := 40) (dk cd_Mo_isLive 19 rfl) rfl (fun q33 => ?_) (fun q33 => ?_)
      · refine v_iconst (v := 0) (dk cd_Mo_isLive 22 rfl) (by decide) ?_
        exact v_zret (dk cd_Mo_isLive 23 rfl) rfl rfl (rt_f (by simp [liveB, nwV, q33]))
      · refine v_iconst (v := 1) (dk cd_Mo_isLive 20 rfl) (by decide) ?_
        refine v_goto (tgt := 41) (dk cd_Mo_isLive 21 rfl) rfl ?_
        exact v_zret (dk cd_Mo_isLive 23 rfl) rfl rfl (rt_t (by simp [liveB, nwV, q19, q33]))
set_option maxRecDepth 100000 in
set_option maxHeartbeats 4000000 in
theorem Mo_isSpan_ok {s z : Int32} : V (gg u) d mm_Mo_isSpan 0 [some (.int s), some (.int z)] [] A (Rt (some (.int (b2i (pSe s && pSn z)))) A) := by
  refine v_iload_n (dk cd_Mo_isSpan 0 rfl) rfl ?_
  refine v_iconst (v := 1) (dk cd_Mo_isSpan 1 rfl) (by decide) ?_
  refine v_icmp_lt (tgt := 26) (dk cd_Mo_isSpan 2 rfl) rfl (fun q2 => ?_) (fun q2 => ?_)
  · refine v_iconst (v := 0) (dk cd_Mo_isSpan 14 rfl) (by decide) ?_
    exact v_zret (dk cd_Mo_isSpan 15 rfl) rfl rfl (rt_f (by simp [pSe, pSn, *]))
  · refine v_iload_n (dk cd_Mo_isSpan 3 rfl) rfl ?_
    refine v_iconst (v := 5) (dk cd_Mo_isSpan 4 rfl) (by decide) ?_
    refine v_icmp_gt (tgt := 26) (dk cd_Mo_isSpan 5 rfl) rfl (fun q7 => ?_) (fun q7 => ?_)
    · refine v_iconst (v := 0) (dk cd_Mo_isSpan 14 rfl) (by decide) ?_
      exact v_zret (dk cd_Mo_isSpan 15 rfl) rfl rfl (rt_f (by simp [pSe, pSn, *]))
    · refine v_iload_n (dk cd_Mo_isSpan 6 rfl) rfl ?_
      refine v_iconst (v := 1) (dk cd_Mo_isSpan 7 rfl) (by decide) ?_
      refine v_icmp_lt (tgt := 26) (dk cd_Mo_isSpan 8 rfl) rfl (fun q12 => ?_) (fun q12 => ?_)
      · refine v_iconst (v := 0) (dk cd_Mo_isSpan 14 rfl) (by decide) ?_
        exact v_zret (dk cd_Mo_isSpan 15 rfl) rfl rfl (rt_f (by simp [pSe, pSn, *]))
      · refine v_iload_n (dk cd_Mo_isSpan 9 rfl) rfl ?_
        refine v_sipush (v := 1000) (dk cd_Mo_isSpan 10 rfl) (by decide) ?_
        refine v_icmp_gt (tgt := 26) (dk cd_Mo_isSpan 11 rfl) rfl (fun q19 => ?_) (fun q19 => ?_)
        · refine v_iconst (v := 0) (dk cd_Mo_isSpan 14 rfl) (by decide) ?_
          exact v_zret (dk cd_Mo_isSpan 15 rfl) rfl rfl (rt_f (by simp [pSe, pSn, *]))
        · refine v_iconst (v := 1) (dk cd_Mo_isSpan 12 rfl) (by decide) ?_
          refine v_goto (tgt := 27) (dk cd_Mo_isSpan 13 rfl) rfl ?_
          exact v_zret (dk cd_Mo_isSpan 15 rfl) rfl rfl (rt_t (by simp [pSe, pSn, *]))
set_option maxRecDepth 100000 in
set_option maxHeartbeats 4000000 in
theorem Mo_isSaid_ok (hM : MH B a i f A) (R : Rel S t i f) (K : SOK S) : V (gg u) (d + 5) mm_Mo_isSaid 0 [some (.ref a)] [] A (Rt (some (.int (b2i (canSp S)))) A) := by
  have w1 := K.wf.2.1
  have w2 := K.wf.2.2.1
  have w3 := K.wf.2.2.2.1
  have w4 := K.wf.2.2.2.2.1
  have hm := mSimple_eq R K
  have w5 := K.wt.2.2 0
  have w6 := K.wt.2.2 1
  have w7 := K.wt.2.2 2
  refine v_aload_n (dk cd_Mo_isSaid 0 rfl) rfl ?_
  refine v_rv (r := ("AreaWarningsModel", TT_Mo, 49)) (dk cd_Mo_isSaid 1 rfl) cv_Mo_190 rfl hM.2.2.1 (as := []) rfl rfl (Nat.le_of_ble_eq_true rfl) (by simp [Value.category]) (Mo_isSimple_ok hM R.ty.1 K.wt.1) ?_
  refine v_ifeqB (tgt := 34) (dk cd_Mo_isSaid 2 rfl) rfl (fun q4 => ?_) (fun q4 => ?_)
  · refine v_iconst (v := 0) (dk cd_Mo_isSaid 20 rfl) (by decide) ?_
    exact v_zret (dk cd_Mo_isSaid 21 rfl) rfl rfl (rt_f (by first | (rw [hm] at q4; simp [canSp, q4]; done) | (rw [nI_le0 (by omega)] at q27; simp [canSp, tsum3]; omega)))
  · refine v_aload_n (dk cd_Mo_isSaid 3 rfl) rfl ?_
    refine v_getf (dk cd_Mo_isSaid 4 rfl) fg_Mo_50_Mo hM.2.2.1 (by rfl) ?_
    refine v_iconst (v := nI 0) (dk cd_Mo_isSaid 5 rfl) (by decide) ?_
    refine v_mldE (j := 13) (dk cd_Mo_isSaid 6 rfl) hM (by decide) (by decide) (show _ < 3 by omega) (by decide) (R.ty.2.2 0 (by omega)).1 ?_
    refine v_aload_n (dk cd_Mo_isSaid 7 rfl) rfl ?_
    refine v_getf (dk cd_Mo_isSaid 8 rfl) fg_Mo_50_Mo hM.2.2.1 (by rfl) ?_
    refine v_iconst (v := nI 1) (dk cd_Mo_isSaid 9 rfl) (by decide) ?_
    refine v_mldE (j := 13) (dk cd_Mo_isSaid 10 rfl) hM (by decide) (by decide) (show _ < 3 by omega) (by decide) (R.ty.2.2 1 (by omega)).1 ?_
    refine v_iaddN (dk cd_Mo_isSaid 11 rfl) ?_
    refine v_aload_n (dk cd_Mo_isSaid 12 rfl) rfl ?_
    refine v_getf (dk cd_Mo_isSaid 13 rfl) fg_Mo_50_Mo hM.2.2.1 (by rfl) ?_
    refine v_iconst (v := nI 2) (dk cd_Mo_isSaid 14 rfl) (by decide) ?_
    refine v_mldE (j := 13) (dk cd_Mo_isSaid 15 rfl) hM (by decide) (by decide) (show _ < 3 by omega) (by decide) (R.ty.2.2 2 (by omega)).1 ?_
    refine v_iaddN (dk cd_Mo_isSaid 16 rfl) ?_
    refine v_if_le (tgt := 34) (dk cd_Mo_isSaid 17 rfl) rfl (fun q27 => ?_) (fun q27 => ?_)
    · refine v_iconst (v := 0) (dk cd_Mo_isSaid 20 rfl) (by decide) ?_
      exact v_zret (dk cd_Mo_isSaid 21 rfl) rfl rfl (rt_f (by first | (rw [hm] at q4; simp [canSp, q4]; done) | (rw [nI_le0 (by omega)] at q27; simp [canSp, tsum3]; omega)))
    · refine v_iconst (v := 1) (dk cd_Mo_isSaid 18 rfl) (by decide) ?_
      refine v_goto (tgt := 35) (dk cd_Mo_isSaid 19 rfl) rfl ?_
      exact v_zret (dk cd_Mo_isSaid 21 rfl) rfl rfl (rt_t (by rw [hm] at q4; rw [nI_le0 (by omega)] at q27; simp [canSp, tsum3, q4]; omega))
set_option maxRecDepth 100000 in
set_option maxHeartbeats 4000000 in
theorem Mo_covered_lp {v n m : Nat} (hM : MH B a i f A) (hv : v < 40) (hn : f 24 v = nI n) (h8 : n ≤ 8) (hm : i 2 = nI m) (hm8 : m ≤ 8) : ∀ k, k ≤ m → V (gg u) (d + 3) mm_Mo_covered 4 [some (.ref a), some (.int (nI v)), some (.int (nI (mCv f v n k))), some (.int (nI k))] [] A (Rt (some (.int (nI (mCv f v n m)))) A) := by
  refine up_ind m ?_
  intro k ih hk
  refine v_iload_n (dk cd_Mo_covered 4 rfl) rfl ?_
  refine v_aload_n (dk cd_Mo_covered 5 rfl) rfl ?_
  refine v_mgi (n := 2) (dk cd_Mo_covered 6 rfl) fg_Mo_145_Mo hM rfl hm ?_
  refine v_icmp_geN (tgt := 35) (dk cd_Mo_covered 7 rfl) rfl (by omega) (by omega) (fun q9 => ?_) (fun q9 => ?_)
  · have hke : k = m := by omega
    refine v_iload_n (dk cd_Mo_covered 21 rfl) rfl ?_
    exact v_iret (dk cd_Mo_covered 22 rfl) rfl (rt_of (by rw [hke]))
  · refine v_aload_n (dk cd_Mo_covered 8 rfl) rfl ?_
    refine v_iload_n (dk cd_Mo_covered 9 rfl) rfl ?_
    refine v_iload_n (dk cd_Mo_covered 10 rfl) rfl ?_
    refine v_rv (r := ("AreaWarningsModel", TT_Mo, 49)) (dk cd_Mo_covered 11 rfl) cv_Mo_181 rfl hM.2.2.1 (as := [_, _]) rfl rfl (Nat.le_of_ble_eq_true rfl) (by simp [Value.category]) (Mo_isCovered_ok hM hv (by omega) hn h8) ?_
    refine v_ifeqB (tgt := 27) (dk cd_Mo_covered 12 rfl) rfl (fun q18 => ?_) (fun q18 => ?_)
    · refine v_iload_n (dk cd_Mo_covered 17 rfl) rfl ?_
      refine v_istore_n (dk cd_Mo_covered 18 rfl) (by decide) rfl ?_
      refine v_iincN (dk cd_Mo_covered 19 rfl) rfl (by decide) rfl ?_
      refine v_goto (tgt := 4) (dk cd_Mo_covered 20 rfl) rfl ?_
      have h9 := ih q9 (by omega)
      rw [show mCv f v n (k + 1) = mCv f v n k by simp [mCv, q18]] at h9
      exact h9
    · refine v_iload_n (dk cd_Mo_covered 13 rfl) rfl ?_
      refine v_iconst (v := nI 1) (dk cd_Mo_covered 14 rfl) (by decide) ?_
      refine v_iaddN (dk cd_Mo_covered 15 rfl) ?_
      refine v_goto (tgt := 28) (dk cd_Mo_covered 16 rfl) rfl ?_
      refine v_istore_n (dk cd_Mo_covered 18 rfl) (by decide) rfl ?_
      refine v_iincN (dk cd_Mo_covered 19 rfl) rfl (by decide) rfl ?_
      refine v_goto (tgt := 4) (dk cd_Mo_covered 20 rfl) rfl ?_
      have h9 := ih q9 (by omega)
      rw [show mCv f v n (k + 1) = mCv f v n k + 1 by simp [mCv, q18]] at h9
      exact h9
set_option maxRecDepth 100000 in
set_option maxHeartbeats 4000000 in
theorem Mo_covered_ok {v n m : Nat} (hM : MH B a i f A) (hv : v < 40) (hn : f 24 v = nI n) (h8 : n ≤ 8) (hm : i 2 = nI m) (hm8 : m ≤ 8) : V (gg u) (d + 3) mm_Mo_covered 0 [some (.ref a), some (.int (nI v)), none, none] [] A (Rt (some (.int (nI (mCv f v n m)))) A) := by
  refine v_iconst (v := nI 0) (dk cd_Mo_covered 0 rfl) (by decide) ?_
  refine v_istore_n (dk cd_Mo_covered 1 rfl) (by decide) rfl ?_
  refine v_iconst (v := nI 0) (dk cd_Mo_covered 2 rfl) (by decide) ?_
  refine v_istore_n (dk cd_Mo_covered 3 rfl) (by decide) rfl ?_
  exact Mo_covered_lp hM hv hn h8 hm hm8 0 (by omega)
set_option maxRecDepth 100000 in
set_option maxHeartbeats 4000000 in
theorem Mo_make_ok {w n : Nat} {num sev en : Int32} {b : Bool} (hM : MH B a i f A) (hn : i 5 = nI n) (h40 : n < 40) (hw : w < 12) : V (gg u) d mm_Mo_make 0 [some (.ref a), some (.int (nI w)), some (.int num), some (.int sev), some (.int en), some (.int (b2i b)), none] [] A (Pm (some (.int (nI n))) B a (up1 i 5 (nI (n + 1))) (mkF f n w num sev en b)) := by
  refine v_aload_n (dk cd_Mo_make 0 rfl) rfl ?_
  refine v_mgi (n := 5) (dk cd_Mo_make 1 rfl) fg_Mo_194_Mo hM rfl hn ?_
  refine v_istore (dk cd_Mo_make 2 rfl) (by decide) rfl ?_
  refine v_aload_n (dk cd_Mo_make 3 rfl) rfl ?_
  refine v_getf (dk cd_Mo_make 4 rfl) fg_Mo_62_Mo hM.2.2.1 (by rfl) ?_
  refine v_iload (dk cd_Mo_make 5 rfl) rfl ?_
  refine v_iload_n (dk cd_Mo_make 6 rfl) rfl ?_
  refine v_mst (j := 17) (dk cd_Mo_make 7 rfl) hM (by decide) (by decide) (show _ < 40 by omega) (by decide) (fun A hM => ?_)
  refine v_aload_n (dk cd_Mo_make 8 rfl) rfl ?_
  refine v_getf (dk cd_Mo_make 9 rfl) fg_Mo_65_Mo hM.2.2.1 (by rfl) ?_
  refine v_iload (dk cd_Mo_make 10 rfl) rfl ?_
  refine v_iload_n (dk cd_Mo_make 11 rfl) rfl ?_
  refine v_mst (j := 18) (dk cd_Mo_make 12 rfl) hM (by decide) (by decide) (show _ < 40 by omega) (by decide) (fun A hM => ?_)
  refine v_aload_n (dk cd_Mo_make 13 rfl) rfl ?_
  refine v_getf (dk cd_Mo_make 14 rfl) fg_Mo_68_Mo hM.2.2.1 (by rfl) ?_
  refine v_iload (dk cd_Mo_make 15 rfl) rfl ?_
  refine v_iload_n (dk cd_Mo_make 16 rfl) rfl ?_
  refine v_mst (j := 19) (dk cd_Mo_make 17 rfl) hM (by decide) (by decide) (show _ < 40 by omega) (by decide) (fun A hM => ?_)
  refine v_aload_n (dk cd_Mo_make 18 rfl) rfl ?_
  refine v_getf (dk cd_Mo_make 19 rfl) fg_Mo_71_Mo hM.2.2.1 (by rfl) ?_
  refine v_iload (dk cd_Mo_make 20 rfl) rfl ?_
  refine v_iload (dk cd_Mo_make 21 rfl) rfl ?_
  refine v_mst (j := 20) (dk cd_Mo_make 22 rfl) hM (by decide) (by decide) (show _ < 40 by omega) (by decide) (fun A hM => ?_)
  refine v_aload_n (dk cd_Mo_make 23 rfl) rfl ?_
  refine v_getf (dk cd_Mo_make 24 rfl) fg_Mo_74_Mo hM.2.2.1 (by rfl) ?_
  refine v_iload (dk cd_Mo_make 25 rfl) rfl ?_
  refine v_iload (dk cd_Mo_make 26 rfl) rfl ?_
  refine v_mstz (j := 21) (dk cd_Mo_make 27 rfl) hM (by decide) (by decide) (show _ < 40 by omega) (by decide) (fun A hM => ?_)
  refine v_aload_n (dk cd_Mo_make 28 rfl) rfl ?_
  refine v_getf (dk cd_Mo_make 29 rfl) fg_Mo_59_Mo hM.2.2.1 (by rfl) ?_
  refine v_iload_n (dk cd_Mo_make 30 rfl) rfl ?_
  refine v_iload (dk cd_Mo_make 31 rfl) rfl ?_
  refine v_mst (j := 16) (dk cd_Mo_make 32 rfl) hM (by decide) (by decide) (show _ < 12 by omega) (by decide) (fun A hM => ?_)
  refine v_aload_n (dk cd_Mo_make 33 rfl) rfl ?_
  refine v_dup (dk cd_Mo_make 34 rfl) rfl ?_
  refine v_mgi (n := 5) (dk cd_Mo_make 35 rfl) fg_Mo_194_Mo hM rfl hn ?_
  refine v_iconst (v := nI 1) (dk cd_Mo_make 36 rfl) (by decide) ?_
  refine v_iaddN (dk cd_Mo_make 37 rfl) ?_
  refine v_mput (k := 22) (n := 5) (dk cd_Mo_make 38 rfl) fp_Mo_194_Mo (fun h => by cases h) hM (by decide) (fun A hM => ?_)
  refine v_iload (dk cd_Mo_make 39 rfl) rfl ?_
  exact v_iret (dk cd_Mo_make 40 rfl) rfl ⟨rfl, hM⟩
def FI (f g : Nat → Nat → Int32) (v n : Nat) (bg sp : Int32) (k1 k2 k3 : Nat) : Prop := (∀ j, j < 22 ∨ 29 ≤ j → g j = f j) ∧ g 22 v = bg ∧ g 23 v = sp ∧ g 24 v = nI n ∧ (∀ k, k < k1 → g 25 (8 * v + k) = f 11 k ∧ g 26 (8 * v + k) = f 12 k) ∧ (∀ l, l < k2 → g 27 (3 * v + l) = f 13 l) ∧ (∀ k, k < k3 → g 28 (90 * v + k) = f 14 k) ∧ ∀ v', v' ≠ v → VA f g v'
theorem FI.s0 {f : Nat → Nat → Int32} {v n : Nat} {bg sp : Int32} : FI f (up2 (up2 (up2 f 22 v bg) 23 v sp) 24 v (nI n)) v n bg sp 0 0 0 := by
  refine ⟨fun j hj => by rw [up2_ne (by omega), up2_ne (by omega), up2_ne (by omega)], ?_, ?_, up2_on, fun k hk => absurd hk (Nat.not_lt_zero k), fun k hk => absurd hk (Nat.not_lt_zero k), fun k hk => absurd hk (Nat.not_lt_zero k), fun v' hv' => ((VA.up (by omega)).trans (VA.up (by omega))).trans (VA.up (by omega))⟩
  · rw [up2_ne (by omega), up2_ne (by omega), up2_on]
  · rw [up2_ne (by omega), up2_on]
theorem FI.s1 {f g : Nat → Nat → Int32} {v n k1 k2 k3 : Nat} {bg sp : Int32} (F : FI f g v n bg sp k1 k2 k3) (hk : k1 < 8) : FI f (up2 (up2 g 25 (8 * v + k1) (f 11 k1)) 26 (8 * v + k1) (f 12 k1)) v n bg sp (k1 + 1) k2 k3 := by
  obtain ⟨a1, a2, a3, a4, a5, a6, a7, a8⟩ := F
  refine ⟨fun j hj => by rw [up2_ne (by omega), up2_ne (by omega)]; exact a1 j hj, ?_, ?_, ?_, fun k h => ?_, fun l hl => ?_, fun k h => ?_, fun v' hv' => (a8 v' hv').trans ((VA.up (by omega)).trans (VA.up (by omega)))⟩
  · rw [up2_ne (by omega), up2_ne (by omega)]; exact a2
  · rw [up2_ne (by omega), up2_ne (by omega)]; exact a3
  · rw [up2_ne (by omega), up2_ne (by omega)]; exact a4
  · by_cases e : k = k1
    · subst e; rw [up2_ne (by omega), up2_on, up2_on]; exact ⟨rfl, rfl⟩
    · rw [up2_off (by omega), up2_off (by omega), up2_off (by omega), up2_off (by omega)]; exact a5 k (by omega)
  · rw [up2_ne (by omega), up2_ne (by omega)]; exact a6 l hl
  · rw [up2_ne (by omega), up2_ne (by omega)]; exact a7 k h
theorem FI.s2 {f g : Nat → Nat → Int32} {v n k1 k2 k3 : Nat} {bg sp : Int32} (F : FI f g v n bg sp k1 k2 k3) (hk : k2 < 3) : FI f (up2 g 27 (3 * v + k2) (f 13 k2)) v n bg sp k1 (k2 + 1) k3 := by
  obtain ⟨a1, a2, a3, a4, a5, a6, a7, a8⟩ := F
  refine ⟨fun j hj => by rw [up2_ne (by omega)]; exact a1 j hj, ?_, ?_, ?_, fun k h => ?_, fun l hl => ?_, fun k h => ?_, fun v' hv' => (a8 v' hv').trans (VA.up (by omega))⟩
  · rw [up2_ne (by omega)]; exact a2
  · rw [up2_ne (by omega)]; exact a3
  · rw [up2_ne (by omega)]; exact a4
  · rw [up2_ne (by omega), up2_ne (by omega)]; exact a5 k h
  · by_cases e : l = k2
    · subst e; rw [up2_on]
    · rw [up2_off (by omega)]; exact a6 l (by omega)
  · rw [up2_ne (by omega)]; exact a7 k h
theorem FI.s3 {f g : Nat → Nat → Int32} {v n k1 k2 k3 : Nat} {bg sp : Int32} (F : FI f g v n bg sp k1 k2 k3) (hk : k3 < 90) : FI f (up2 g 28 (90 * v + k3) (f 14 k3)) v n bg sp k1 k2 (k3 + 1) := by
  obtain ⟨a1, a2, a3, a4, a5, a6, a7, a8⟩ := F
  refine ⟨fun j hj => by rw [up2_ne (by omega)]; exact a1 j hj, ?_, ?_, ?_, fun k h => ?_, fun l hl => ?_, fun k h => ?_, fun v' hv' => (a8 v' hv').trans (VA.up (by omega))⟩
  · rw [up2_ne (by omega)]; exact a2
  · rw [up2_ne (by omega)]; exact a3
  · rw [up2_ne (by omega)]; exact a4
  · rw [up2_ne (by omega), up2_ne (by omega)]; exact a5 k h
  · rw [up2_ne (by omega)]; exact a6 l hl
  · by_cases e : k = k3
    · subst e; rw [up2_on]
    · rw [up2_off (by omega)]; exact a7 k (by omega)
theorem FI.fin {f g h : Nat → Nat → Int32} {v n : Nat} {bg sp : Int32} (F : FI f g v n bg sp n 3 90) (h1 : ∀ j, j ≠ 13 → h j = g j) (h2 : ∀ l, l < 3 → h 13 l = 0) : FillR f h v n bg sp := by
  obtain ⟨a1, a2, a3, a4, a5, a6, a7, a8⟩ := F
  refine ⟨fun j hj => by rw [h1 j (by omega)]; exact a1 j (by omega), h2, by rw [h1 22 (by omega)]; exact a2, by rw [h1 23 (by omega)]; exact a3, by rw [h1 24 (by omega)]; exact a4, fun k hk => by rw [h1 25 (by omega), h1 26 (by omega)]; exact a5 k hk, fun l hl => by rw [h1 27 (by omega)]; exact a6 l hl, fun k hk => by rw [h1 28 (by omega)]; exact a7 k hk, fun v' hv' => (a8 v' hv').trans (VA.of fun j _ _ => h1 j (by omega))⟩
def PF (B : AH) (a : Nat) (i : Nat → Int32) (f : Nat → Nat → Int32) (v n m : Nat) (bg sp : Int32) : Out → AH → Prop := fun r A' => ∃ i1 f1, r = .inl (some (.int (nI (mCv f1 v n m)))) ∧ MH B a i1 f1 A' ∧ i1 = up1 (up1 i 0 (nI 0)) 3 (nI 0) ∧ FillR f f1 v n bg sp
theorem pf_no {B : AH} {a : Nat} {i : Nat → Int32} {f : Nat → Nat → Int32} {v n m : Nat} {bg sp : Int32} : ∀ z A', ¬ PF B a i f v n m bg sp (.inr z) A' := fun z A' h => by obtain ⟨i1, f1, h, _⟩ := h; cases h
set_option maxRecDepth 100000 in
set_option maxHeartbeats 4000000 in
theorem Mo_fill_l3 {v n m : Nat} {bg sp : Int32} (hc : i 3 = nI n) (h8 : n ≤ 8) (hv : v < 40) (hm : i 2 = nI m) (hm8 : m ≤ 8) : ∀ k, ∀ {g : Nat → Nat → Int32} {A : AH}, FI f g v n bg sp n 3 k → MH B a i g A → k ≤ 90 → V (gg u) (d + 4) mm_Mo_fill 116 [some (.ref a), some (.int (nI v)), some (.int bg), some (.int sp), some (.int (nI k))] [] A (PF B a i f v n m bg sp) := by
  refine up_ind 90 ?_
  intro k ih g A F hM hk
  refine v_iload (dk cd_Mo_fill 69 rfl) rfl ?_
  refine v_bipush (v := nI 90) (dk cd_Mo_fill 70 rfl) (by decide) ?_
  refine v_icmp_geN (tgt := 148) (dk cd_Mo_fill 71 rfl) rfl (by omega) (by omega) (fun q120 => ?_) (fun q120 => ?_)
  · refine v_aload_n (dk cd_Mo_fill 86 rfl) rfl ?_
    refine v_callv (r := ("AreaWarningsModel", TT_Mo, 49)) (dk cd_Mo_fill 87 rfl) cv_Mo_197 rfl hM.2.2.1 (as := []) rfl rfl (Nat.le_of_ble_eq_true rfl) (by simp [Value.category]) (Mo_clear_raw hM) pr_no (fun v9 A9 hq => ?_)
    obtain ⟨e9, i1, f1, hM, rfl, h1, h2⟩ := hq
    cases e9
    have hke : k = 90 := by omega
    subst hke
    have hF := F.fin h1 h2
    refine v_istore (dk cd_Mo_fill 88 rfl) (by decide) rfl ?_
    refine v_aload_n (dk cd_Mo_fill 89 rfl) rfl ?_
    refine v_iload_n (dk cd_Mo_fill 90 rfl) rfl ?_
    refine v_rv (r := ("AreaWarningsModel", TT_Mo, 49)) (dk cd_Mo_fill 91 rfl) cv_Mo_201 rfl hM.2.2.1 (as := [_]) rfl rfl (Nat.le_of_ble_eq_true rfl) (by simp [Value.category]) (Mo_covered_ok hM hv hF.2.2.2.2.1 h8 hm hm8) ?_
    exact v_iret (dk cd_Mo_fill 92 rfl) rfl ⟨_, f1, rfl, hM, rfl, hF⟩
  · refine v_aload_n (dk cd_Mo_fill 72 rfl) rfl ?_
    refine v_getf (dk cd_Mo_fill 73 rfl) fg_Mo_95_Mo hM.2.2.1 (by rfl) ?_
    refine v_bipush (v := nI 90) (dk cd_Mo_fill 74 rfl) (by decide) ?_
    refine v_iload_n (dk cd_Mo_fill 75 rfl) rfl ?_
    refine v_imulN (dk cd_Mo_fill 76 rfl) ?_
    refine v_iload (dk cd_Mo_fill 77 rfl) rfl ?_
    refine v_iaddN (dk cd_Mo_fill 78 rfl) ?_
    refine v_aload_n (dk cd_Mo_fill 79 rfl) rfl ?_
    refine v_getf (dk cd_Mo_fill 80 rfl) fg_Mo_53_Mo hM.2.2.1 (by rfl) ?_
    refine v_iload (dk cd_Mo_fill 81 rfl) rfl ?_
    refine v_mldE (j := 14) (dk cd_Mo_fill 82 rfl) hM (by decide) (by decide) (show _ < 90 by omega) (by decide) (congrFun (F.1 14 (by omega)) k) ?_
    refine v_mst (j := 28) (dk cd_Mo_fill 83 rfl) hM (by decide) (by decide) (show _ < 3600 by omega) (by decide) (fun A hM => ?_)
    refine v_iincN (dk cd_Mo_fill 84 rfl) rfl (by decide) rfl ?_
    refine v_goto (tgt := 116) (dk cd_Mo_fill 85 rfl) rfl ?_
    exact ih (by omega) (F.s3 (by omega)) hM (by omega)
set_option maxRecDepth 100000 in
set_option maxHeartbeats 4000000 in
theorem Mo_fill_l2 {v n m : Nat} {bg sp : Int32} (hc : i 3 = nI n) (h8 : n ≤ 8) (hv : v < 40) (hm : i 2 = nI m) (hm8 : m ≤ 8) : ∀ k, ∀ {g : Nat → Nat → Int32} {A : AH}, FI f g v n bg sp n k 0 → MH B a i g A → k ≤ 3 → V (gg u) (d + 4) mm_Mo_fill 83 [some (.ref a), some (.int (nI v)), some (.int bg), some (.int sp), some (.int (nI k))] [] A (PF B a i f v n m bg sp) := by
  refine up_ind 3 ?_
  intro k ih g A F hM hk
  refine v_iload (dk cd_Mo_fill 50 rfl) rfl ?_
  refine v_iconst (v := nI 3) (dk cd_Mo_fill 51 rfl) (by decide) ?_
  refine v_icmp_geN (tgt := 113) (dk cd_Mo_fill 52 rfl) rfl (by omega) (by omega) (fun q86 => ?_) (fun q86 => ?_)
  · refine v_iconst (v := nI 0) (dk cd_Mo_fill 67 rfl) (by decide) ?_
    refine v_istore (dk cd_Mo_fill 68 rfl) (by decide) rfl ?_
    have hke : k = 3 := by omega
    subst hke
    exact Mo_fill_l3 hc h8 hv hm hm8 0 F hM (by omega)
  · refine v_aload_n (dk cd_Mo_fill 53 rfl) rfl ?_
    refine v_getf (dk cd_Mo_fill 54 rfl) fg_Mo_92_Mo hM.2.2.1 (by rfl) ?_
    refine v_iconst (v := nI 3) (dk cd_Mo_fill 55 rfl) (by decide) ?_
    refine v_iload_n (dk cd_Mo_fill 56 rfl) rfl ?_
    refine v_imulN (dk cd_Mo_fill 57 rfl) ?_
    refine v_iload (dk cd_Mo_fill 58 rfl) rfl ?_
    refine v_iaddN (dk cd_Mo_fill 59 rfl) ?_
    refine v_aload_n (dk cd_Mo_fill 60 rfl) rfl ?_
    refine v_getf (dk cd_Mo_fill 61 rfl) fg_Mo_50_Mo hM.2.2.1 (by rfl) ?_
    refine v_iload (dk cd_Mo_fill 62 rfl) rfl ?_
    refine v_mldE (j := 13) (dk cd_Mo_fill 63 rfl) hM (by decide) (by decide) (show _ < 3 by omega) (by decide) (congrFun (F.1 13 (by omega)) k) ?_
    refine v_mst (j := 27) (dk cd_Mo_fill 64 rfl) hM (by decide) (by decide) (show _ < 120 by omega) (by decide) (fun A hM => ?_)
    refine v_iincN (dk cd_Mo_fill 65 rfl) rfl (by decide) rfl ?_
    refine v_goto (tgt := 83) (dk cd_Mo_fill 66 rfl) rfl ?_
    exact ih (by omega) (F.s2 (by omega)) hM (by omega)
set_option maxRecDepth 100000 in
set_option maxHeartbeats 4000000 in
theorem Mo_fill_l1 {v n m : Nat} {bg sp : Int32} (hc : i 3 = nI n) (h8 : n ≤ 8) (hv : v < 40) (hm : i 2 = nI m) (hm8 : m ≤ 8) : ∀ k, ∀ {g : Nat → Nat → Int32} {A : AH}, FI f g v n bg sp k 0 0 → MH B a i g A → k ≤ n → V (gg u) (d + 4) mm_Mo_fill 27 [some (.ref a), some (.int (nI v)), some (.int bg), some (.int sp), some (.int (nI k))] [] A (PF B a i f v n m bg sp) := by
  refine up_ind n ?_
  intro k ih g A F hM hk
  refine v_iload (dk cd_Mo_fill 18 rfl) rfl ?_
  refine v_aload_n (dk cd_Mo_fill 19 rfl) rfl ?_
  refine v_mgi (n := 3) (dk cd_Mo_fill 20 rfl) fg_Mo_148_Mo hM rfl hc ?_
  refine v_icmp_geN (tgt := 80) (dk cd_Mo_fill 21 rfl) rfl (by omega) (by omega) (fun q33 => ?_) (fun q33 => ?_)
  · refine v_iconst (v := nI 0) (dk cd_Mo_fill 48 rfl) (by decide) ?_
    refine v_istore (dk cd_Mo_fill 49 rfl) (by decide) rfl ?_
    have hke : k = n := by omega
    subst hke
    exact Mo_fill_l2 hc h8 hv hm hm8 0 F hM (by omega)
  · refine v_aload_n (dk cd_Mo_fill 22 rfl) rfl ?_
    refine v_getf (dk cd_Mo_fill 23 rfl) fg_Mo_86_Mo hM.2.2.1 (by rfl) ?_
    refine v_bipush (v := nI 8) (dk cd_Mo_fill 24 rfl) (by decide) ?_
    refine v_iload_n (dk cd_Mo_fill 25 rfl) rfl ?_
    refine v_imulN (dk cd_Mo_fill 26 rfl) ?_
    refine v_iload (dk cd_Mo_fill 27 rfl) rfl ?_
    refine v_iaddN (dk cd_Mo_fill 28 rfl) ?_
    refine v_aload_n (dk cd_Mo_fill 29 rfl) rfl ?_
    refine v_getf (dk cd_Mo_fill 30 rfl) fg_Mo_44_Mo hM.2.2.1 (by rfl) ?_
    refine v_iload (dk cd_Mo_fill 31 rfl) rfl ?_
    refine v_mldE (j := 11) (dk cd_Mo_fill 32 rfl) hM (by decide) (by decide) (show _ < 8 by omega) (by decide) (congrFun (F.1 11 (by omega)) k) ?_
    refine v_mst (j := 25) (dk cd_Mo_fill 33 rfl) hM (by decide) (by decide) (show _ < 320 by omega) (by decide) (fun A hM => ?_)
    refine v_aload_n (dk cd_Mo_fill 34 rfl) rfl ?_
    refine v_getf (dk cd_Mo_fill 35 rfl) fg_Mo_89_Mo hM.2.2.1 (by rfl) ?_
    refine v_bipush (v := nI 8) (dk cd_Mo_fill 36 rfl) (by decide) ?_
    refine v_iload_n (dk cd_Mo_fill 37 rfl) rfl ?_
    refine v_imulN (dk cd_Mo_fill 38 rfl) ?_
    refine v_iload (dk cd_Mo_fill 39 rfl) rfl ?_
    refine v_iaddN (dk cd_Mo_fill 40 rfl) ?_
    refine v_aload_n (dk cd_Mo_fill 41 rfl) rfl ?_
    refine v_getf (dk cd_Mo_fill 42 rfl) fg_Mo_47_Mo hM.2.2.1 (by rfl) ?_
    refine v_iload (dk cd_Mo_fill 43 rfl) rfl ?_
    refine v_mldE (j := 12) (dk cd_Mo_fill 44 rfl) hM (by decide) (by decide) (show _ < 8 by omega) (by decide) ((congrFun (up2_ne (by omega)) k).trans (congrFun (F.1 12 (by omega)) k)) ?_
    refine v_mst (j := 26) (dk cd_Mo_fill 45 rfl) hM (by decide) (by decide) (show _ < 320 by omega) (by decide) (fun A hM => ?_)
    refine v_iincN (dk cd_Mo_fill 46 rfl) rfl (by decide) rfl ?_
    refine v_goto (tgt := 27) (dk cd_Mo_fill 47 rfl) rfl ?_
    exact ih (by omega) (F.s1 (by omega)) hM (by omega)
set_option maxRecDepth 100000 in
set_option maxHeartbeats 4000000 in
theorem Mo_fill_ok {v n m : Nat} {bg sp : Int32} (hM : MH B a i f A) (hc : i 3 = nI n) (h8 : n ≤ 8) (hv : v < 40) (hm : i 2 = nI m) (hm8 : m ≤ 8) : V (gg u) (d + 4) mm_Mo_fill 0 [some (.ref a), some (.int (nI v)), some (.int bg), some (.int sp), none] [] A (PF B a i f v n m bg sp) := by
  refine v_aload_n (dk cd_Mo_fill 0 rfl) rfl ?_
  refine v_getf (dk cd_Mo_fill 1 rfl) fg_Mo_77_Mo hM.2.2.1 (by rfl) ?_
  refine v_iload_n (dk cd_Mo_fill 2 rfl) rfl ?_
  refine v_iload_n (dk cd_Mo_fill 3 rfl) rfl ?_
  refine v_mst (j := 22) (dk cd_Mo_fill 4 rfl) hM (by decide) (by decide) (show _ < 40 by omega) (by decide) (fun A hM => ?_)
  refine v_aload_n (dk cd_Mo_fill 5 rfl) rfl ?_
  refine v_getf (dk cd_Mo_fill 6 rfl) fg_Mo_80_Mo hM.2.2.1 (by rfl) ?_
  refine v_iload_n (dk cd_Mo_fill 7 rfl) rfl ?_
  refine v_iload_n (dk cd_Mo_fill 8 rfl) rfl ?_
  refine v_mst (j := 23) (dk cd_Mo_fill 9 rfl) hM (by decide) (by decide) (show _ < 40 by omega) (by decide) (fun A hM => ?_)
  refine v_aload_n (dk cd_Mo_fill 10 rfl) rfl ?_
  refine v_getf (dk cd_Mo_fill 11 rfl) fg_Mo_83_Mo hM.2.2.1 (by rfl) ?_
  refine v_iload_n (dk cd_Mo_fill 12 rfl) rfl ?_
  refine v_aload_n (dk cd_Mo_fill 13 rfl) rfl ?_
  refine v_mgi (n := 3) (dk cd_Mo_fill 14 rfl) fg_Mo_148_Mo hM rfl hc ?_
  refine v_mst (j := 24) (dk cd_Mo_fill 15 rfl) hM (by decide) (by decide) (show _ < 40 by omega) (by decide) (fun A hM => ?_)
  refine v_iconst (v := nI 0) (dk cd_Mo_fill 16 rfl) (by decide) ?_
  refine v_istore (dk cd_Mo_fill 17 rfl) (by decide) rfl ?_
  exact Mo_fill_l1 hc h8 hv hm hm8 0 FI.s0 hM (by omega)
end MQ
