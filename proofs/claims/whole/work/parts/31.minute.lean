/-! the minute -/
def cMid (S : SS) (i : Nat) (c : CeS) : CeS := if c.2.1.1 = true then cLs c (mkList S i c (sClock S)) (!c.2.1.2) else cLs c (c.2.2.1.filter (goesOn S (sClock S))) c.2.1.2
def cMin (S : SS) (i : Nat) (c : CeS) : CeS := cPg (cMid S i c) (pSev S (sClock S) (cMid S i c).2.2.1 5)
def cellsTo (S : SS) : Nat → List CeS
  | 0 => sCells S
  | k + 1 => (cellsTo S k).set k (cMin S k ((sCells S).getD k cD))
def minTo (S : SS) (k : Nat) : SS := (S.1, cellsTo S k, S.2.2)
def pgSum (S : SS) : Nat → Nat
  | 0 => 0
  | k + 1 => pgSum S k + (cMin S k ((sCells S).getD k cD)).2.2.2.length
def hMin (S : SS) (h : HaS) : HaS := if pIx h.1.2.1 (sCells S).length = true then (cAt S h.1.2.1).2.2.2.foldl (lisS S (sClock S)) h else h
def hsTo (S : SS) : Nat → List HaS
  | 0 => sHs S
  | k + 1 => (hsTo S k).set k (hMin S ((sHs S).getD k hD))
def minH (S : SS) (k : Nat) : SS := (S.1, S.2.1, S.2.2.1, S.2.2.2.1, S.2.2.2.2.1, hsTo S k)
def minC (S : SS) : SS := minTo (setCk S (sClock S + 1)) (sCells S).length
def spMinute (S : SS) : SS × (Value ⊕ Nat) := (minH (minC S) (sHs S).length, .inl (.int (nI (pgSum (setCk S (sClock S + 1)) (sCells S).length))))
theorem cellsTo_len (S : SS) (k : Nat) : (cellsTo S k).length = (sCells S).length := by
  induction k with
  | zero => rfl
  | succ k ih => simp [cellsTo, ih]
theorem cellsTo_ge (S : SS) (k : Nat) : ∀ j, k ≤ j → (cellsTo S k)[j]? = (sCells S)[j]? := by
  induction k with
  | zero => exact fun j _ => rfl
  | succ k ih =>
    intro j hj
    simp only [cellsTo]
    rw [List.getElem?_set_ne (by omega), ih j (by omega)]
theorem cellsTo_lt (S : SS) (k : Nat) : ∀ j c, j < k → (sCells S)[j]? = some c → (cellsTo S k)[j]? = some (cMin S j c) := by
  induction k with
  | zero => exact fun j c h => absurd h (Nat.not_lt_zero j)
  | succ k ih =>
    intro j c hj hc
    simp only [cellsTo]
    by_cases e : j = k
    · subst e
      rw [List.getElem?_set_self (by rw [cellsTo_len]; exact (List.getElem?_eq_some_iff.mp hc).1)]
      simp [hc]
    · rw [List.getElem?_set_ne (fun q => e q.symm), ih j c (by omega) hc]
theorem hsTo_len (S : SS) (k : Nat) : (hsTo S k).length = (sHs S).length := by
  induction k with
  | zero => rfl
  | succ k ih => simp [hsTo, ih]
theorem hsTo_ge (S : SS) (k : Nat) : ∀ j, k ≤ j → (hsTo S k)[j]? = (sHs S)[j]? := by
  induction k with
  | zero => exact fun j _ => rfl
  | succ k ih =>
    intro j hj
    simp only [hsTo]
    rw [List.getElem?_set_ne (by omega), ih j (by omega)]
theorem hsTo_lt (S : SS) (k : Nat) : ∀ j c, j < k → (sHs S)[j]? = some c → (hsTo S k)[j]? = some (hMin S c) := by
  induction k with
  | zero => exact fun j c h => absurd h (Nat.not_lt_zero j)
  | succ k ih =>
    intro j c hj hc
    simp only [hsTo]
    by_cases e : j = k
    · subst e
      rw [List.getElem?_set_self (by rw [hsTo_len]; exact (List.getElem?_eq_some_iff.mp hc).1)]
      simp [hc]
    · rw [List.getElem?_set_ne (fun q => e q.symm), ih j c (by omega) hc]
/-- what holds of one cell -/
def CO (S : SS) (c : CeS) : Prop := c.2.2.1.length ≤ 12 ∧ (∀ v ∈ c.2.2.1, v < (sVers S).length) ∧ c.2.2.2.length ≤ 108 ∧ ∀ p ∈ c.2.2.2, p.1 < (sVers S).length ∧ ((vAt S p.1).2.2.isSome = true → ∃ l, l < 3 ∧ p.2.1 = nI l)
theorem nwI_lt {S : SS} {w : Nat} (W : Wf S) (h : w ∈ sOrd S) : nwI S w < (sVers S).length := by
  have h1 := W.2.2.2.2.2.1 w h
  obtain ⟨v, h2, h3⟩ := W.2.2.2.2.2.2.1 w _ (List.getElem?_eq_getElem h1)
  unfold nwI
  rw [List.getD_eq_getElem?_getD, List.getElem?_eq_getElem h1]
  simp [h2, h3]
theorem cMid_ok {S : SS} {i : Nat} {c : CeS} (W : Wf S) (C : CO S c) : (cMid S i c).2.2.1.length ≤ 12 ∧ ∀ v ∈ (cMid S i c).2.2.1, v < (sVers S).length := by
  unfold cMid
  split
  · refine ⟨?_, ?_⟩
    · have h1 := List.length_filter_le (keepL S i c (sClock S)) ((sOrd S).map (nwI S))
      have h2 := W.1
      have h3 := W.2.1
      simp only [cLs, mkList]
      simp only [List.length_map] at h1
      omega
    · intro v hv
      obtain ⟨w, hw, rfl⟩ := List.mem_map.mp (List.mem_filter.mp hv).1
      exact nwI_lt W hw
  · exact ⟨Nat.le_trans (List.length_filter_le _ _) C.1, fun v hv => C.2.1 v (List.mem_filter.mp hv).1⟩
theorem pgTo_mem {v l n : Nat} {q : Nat × Int32 × Int32} (h : q ∈ pgTo v l n) : q.1 = v ∧ q.2.1 = nI l ∧ ∃ k, k < n ∧ q.2.2 = nI k := by
  induction n with
  | zero => cases h
  | succ n ih =>
    rcases List.mem_append.mp h with h | h
    · obtain ⟨a, b, k, c, e⟩ := ih h
      exact ⟨a, b, k, by omega, e⟩
    · rw [List.mem_singleton.mp h]; exact ⟨rfl, rfl, n, by omega, rfl⟩
theorem txTo_mem {v n : Nat} {t : Tx} {q : Nat × Int32 × Int32} (h : q ∈ txTo v t n) : q.1 = v ∧ ∃ l, l < n ∧ q.2.1 = nI l ∧ ∃ k, k < pgs (tl t l) ∧ q.2.2 = nI k := by
  induction n with
  | zero => cases h
  | succ n ih =>
    rcases List.mem_append.mp h with h | h
    · obtain ⟨a, l, b, c⟩ := ih h
      exact ⟨a, l, by omega, c⟩
    · obtain ⟨a, b, c⟩ := pgTo_mem h
      exact ⟨a, n, by omega, b, c⟩
theorem vPages_mem {S : SS} {v : Nat} {clk : Int32} {q : Nat × Int32 × Int32} (h : q ∈ vPages S v clk) : q.1 = v ∧ ((vAt S v).2.2.isSome = true → ∃ l, l < 3 ∧ q.2.1 = nI l) := by
  unfold vPages at h
  cases hs : (vAt S v).2.2 with
  | none =>
    rw [hs] at h
    rw [List.mem_singleton.mp h]
    exact ⟨rfl, fun e => by cases e⟩
  | some s =>
    rw [hs] at h
    simp only at h
    split at h
    · obtain ⟨a, l, b, c, -⟩ := txTo_mem h
      exact ⟨a, fun _ => ⟨l, b, c⟩⟩
    · cases h
theorem pSev_mem {S : SS} {clk : Int32} {l : List Nat} {n : Nat} {q : Nat × Int32 × Int32} (h : q ∈ pSev S clk l n) : ∃ v, v ∈ l ∧ q ∈ vPages S v clk := by
  induction n with
  | zero => cases h
  | succ n ih =>
    rcases List.mem_append.mp h with h | h
    · exact ih h
    · obtain ⟨v, hv, h⟩ := List.mem_flatMap.mp h
      split at h
      · exact ⟨v, hv, h⟩
      · cases h
theorem cMin_ok {S : SS} {i : Nat} {c : CeS} (W : Wf S) (WV : WfV S) (C : CO S c) : CO S (cMin S i c) := by
  obtain ⟨h1, h2⟩ := cMid_ok (i := i) W C
  refine ⟨h1, h2, ?_, ?_⟩
  · have h3 := pSev_len (clk := sClock S) WV h2 5
    have h4 := cS_le (S := S) (n := 5) (cMid S i c).2.2.1 (by omega)
    simp only [cMin, cPg]
    omega
  · intro q hq
    obtain ⟨v, hv, hq⟩ := pSev_mem hq
    obtain ⟨e, h5⟩ := vPages_mem hq
    rw [e]
    exact ⟨h2 v hv, h5⟩
theorem pgSum_le {S : SS} (W : Wf S) (WV : WfV S) (WC : WfC S) : ∀ k, k ≤ (sCells S).length → pgSum S k ≤ 108 * k := by
  intro k
  induction k with
  | zero => simp [pgSum]
  | succ k ih =>
    intro hk
    have h1 := ih (by omega)
    have hc := List.getElem?_eq_getElem (show k < (sCells S).length by omega)
    have h2 := (cMin_ok (i := k) W WV (WC k _ hc)).2.2.1
    simp only [pgSum, List.getD_eq_getElem?_getD, hc, Option.getD_some]
    omega
theorem WfC_minTo {S : SS} (W : Wf S) (WV : WfV S) (WC : WfC S) : WfC (minTo S (sCells S).length) := by
  intro i c hc
  have hc : (cellsTo S (sCells S).length)[i]? = some c := hc
  have hi := (List.getElem?_eq_some_iff.mp hc).1
  rw [cellsTo_len] at hi
  rw [cellsTo_lt S _ i _ hi (List.getElem?_eq_getElem hi)] at hc
  cases hc
  exact cMin_ok W WV (WC i _ (List.getElem?_eq_getElem hi))
theorem Wf_minTo {S : SS} {k : Nat} (W : Wf S) : Wf (minTo S k) := by
  obtain ⟨w1, w2, w3, w4, w5, w6, w7, w8⟩ := W
  exact ⟨w1, w2, by show (cellsTo S k).length ≤ 8; rw [cellsTo_len]; exact w3, w4, w5, w6, w7, w8⟩
theorem Wf_minH {S : SS} {k : Nat} (W : Wf S) : Wf (minH S k) := by
  obtain ⟨w1, w2, w3, w4, w5, w6, w7, w8⟩ := W
  exact ⟨w1, w2, w3, w4, by show (hsTo S k).length ≤ 3; rw [hsTo_len]; exact w5, w6, w7, w8⟩
section MI
variable {u : Ux} {d : Nat} {A : AH} {F : Nat → Option AC} {S : SS} {ad : Nat → Nat → Nat}
set_option maxRecDepth 100000 in
set_option maxHeartbeats 4000000 in
theorem AW_minute_63 {A0 : AH} {Φ : Out → AH → Prop} (Wf : Wf S) (WV : WfV S) (WC : WfC S) {k : Nat} {c : CeS} (hc : (sCells S)[k]? = some c) (kont : ∀ A : AH, Inv F (minTo S (k + 1)) ad A ∧ A.2 = A0.2 → V (gg u) (d + 6) mm_AW_minute 14 [some (.ref (ad 0 0)), some (.int (nI (pgSum S (k + 1)))), some (.int (nI (k + 1))), none] [] A Φ) (I : Inv F (setCe (minTo S k) k (cMid S k c)) ad A) (hA : A.2 = A0.2) : V (gg u) (d + 6) mm_AW_minute 63 [some (.ref (ad 0 0)), some (.int (nI (pgSum S k))), some (.int (nI k)), some (.ref (ad 14 k))] [] A Φ := by
  have hi := (List.getElem?_eq_some_iff.mp hc).1
  have hi2 : k < (sCells (minTo S k)).length := by show k < (cellsTo S k).length; rw [cellsTo_len]; exact hi
  have hcc := getCe (c := cMid S k c) hi2
  have h0 := I.aw
  have h14 := I.cob hcc
  obtain ⟨m1, m2⟩ := cMid_ok (i := k) Wf (WC k c hc)
  have hgd : (sCells S).getD k cD = c := by simp [hc]
  have hbd := (cMin_ok (i := k) Wf WV (WC k c hc)).2.2.1
  have hsl := pgSum_le Wf WV WC k (by omega)
  have hk8 := Wf.2.2.1
  refine v_aload_n (dk cd_AW_minute 35 rfl) rfl ?_
  refine v_aload_n (dk cd_AW_minute 36 rfl) rfl ?_
  refine v_getf (dk cd_AW_minute 37 rfl) fg_AW_9_AW (by assumption) (by rfl) ?_
  refine v_callv (r := ("AreaWarnings$Cell", TT_Ce, 12)) (dk cd_AW_minute 38 rfl) cv_AW_177 rfl (by assumption) (as := [_]) rfl rfl (Nat.le_of_ble_eq_true rfl) (by simp [Value.category]) (Ce_sendPages_ok (S := setCe (minTo S k) k (cMid S k c)) Wf.2.2.2.1 WV m2 m1 I hcc) ps_no (fun v9 A9 hq => ?_)
  obtain ⟨e9, I3, hA2⟩ := hq
  cases e9
  rw [setCe2] at I3
  have I3 : Inv F (setCe (minTo S k) k (cMin S k c)) ad A9 := I3
  have h14 := I3.cob (getCe (c := cMin S k c) hi2)
  refine v_iload_n (dk cd_AW_minute 39 rfl) rfl ?_
  refine v_aload_n (dk cd_AW_minute 40 rfl) rfl ?_
  refine v_getf (dk cd_AW_minute 41 rfl) fg_AW_180_Ce (by assumption) (by rfl) ?_
  refine v_iaddN (dk cd_AW_minute 42 rfl) ?_
  refine v_istore_n (dk cd_AW_minute 43 rfl) (by decide) rfl ?_
  refine v_iincN (dk cd_AW_minute 44 rfl) rfl (by decide) rfl ?_
  refine v_goto (tgt := 14) (dk cd_AW_minute 45 rfl) rfl ?_
  refine V.drop 3 ?_
  have h9 := kont A9 ⟨by show Inv F (S.1, (cellsTo S k).set k (cMin S k ((sCells S).getD k cD)), S.2.2) ad A9; rw [hgd]; exact I3, hA2.trans hA⟩
  simp only [pgSum, hgd] at h9
  exact h9
set_option maxRecDepth 100000 in
set_option maxHeartbeats 4000000 in
theorem AW_minute_c {A0 : AH} {Φ : Out → AH → Prop} (Wf : Wf S) (WV : WfV S) (WC : WfC S) (kont : ∀ A : AH, Inv F (minTo S (sCells S).length) ad A ∧ A.2 = A0.2 → V (gg u) (d + 6) mm_AW_minute 84 [some (.ref (ad 0 0)), some (.int (nI (pgSum S (sCells S).length))), none, none] [] A Φ) : ∀ k, ∀ A : AH, k ≤ (sCells S).length ∧ Inv F (minTo S k) ad A ∧ A.2 = A0.2 → V (gg u) (d + 6) mm_AW_minute 14 [some (.ref (ad 0 0)), some (.int (nI (pgSum S k))), some (.int (nI k)), none] [] A Φ := by
  refine up_ind (sCells S).length ?_
  intro k ih A ⟨hk, I, hA⟩
  have h0 := I.aw
  have hcl : (sCells (minTo S k)).length = (sCells S).length := cellsTo_len S k
  rw [hcl] at h0
  obtain ⟨x1, h1, g1, e1, l1⟩ := I.top (κ := 1) (by omega)
  subst e1
  have hk8 := Wf.2.2.1
  refine v_iload_n (dk cd_AW_minute 10 rfl) rfl ?_
  refine v_aload_n (dk cd_AW_minute 11 rfl) rfl ?_
  refine v_getf (dk cd_AW_minute 12 rfl) fg_AW_19_AW (by assumption) (by rfl) ?_
  refine v_icmp_geN (tgt := 84) (dk cd_AW_minute 13 rfl) rfl (by omega) (by omega) (fun q19 => ?_) (fun q19 => ?_)
  · have hke : k = (sCells S).length := by omega
    subst hke
    exact V.drop 2 (kont A ⟨I, hA⟩)
  · obtain ⟨c, hc⟩ : ∃ c, (sCells S)[k]? = some c := ⟨_, List.getElem?_eq_getElem q19⟩
    have hcc : (sCells (minTo S k))[k]? = some c := (cellsTo_ge S k k (Nat.le_refl k)).trans hc
    have h14 := I.cob hcc
    have hgd : (sCells S).getD k cD = c := by simp [hc]
    refine v_aload_n (dk cd_AW_minute 14 rfl) rfl ?_
    refine v_getf (dk cd_AW_minute 15 rfl) fg_AW_15_AW (by assumption) (by rfl) ?_
    refine v_iload_n (dk cd_AW_minute 16 rfl) rfl ?_
    refine v_aaldN (j := 4) (dk cd_AW_minute 17 rfl) (by assumption) (by decide) rfl rfl (by omega) (rng_at (by rw [hcl]; exact q19)) ?_
    refine v_astore_n (dk cd_AW_minute 18 rfl) (by decide) rfl ?_
    refine v_aload_n (dk cd_AW_minute 19 rfl) rfl ?_
    refine v_getf (dk cd_AW_minute 20 rfl) fg_AW_165_Ce (by assumption) (by rfl) ?_
    refine v_ifeqB (tgt := 55) (dk cd_AW_minute 21 rfl) rfl (fun q33 => ?_) (fun q33 => ?_)
    · refine v_aload_n (dk cd_AW_minute 31 rfl) rfl ?_
      refine v_aload_n (dk cd_AW_minute 32 rfl) rfl ?_
      refine v_getf (dk cd_AW_minute 33 rfl) fg_AW_9_AW (by assumption) (by rfl) ?_
      refine v_callv (r := ("AreaWarnings$Cell", TT_Ce, 12)) (dk cd_AW_minute 34 rfl) cv_AW_173 rfl (by assumption) (as := [_]) rfl rfl (Nat.le_of_ble_eq_true rfl) (by simp [Value.category]) (Ce_dropEnded_ok (S := minTo S k) I hcc (WC k c hc).2.1 (WC k c hc).1) ps_no (fun v9 A9 hq => ?_)
      obtain ⟨e9, I3, hA2⟩ := hq
      cases e9
      have I3 : Inv F (setCe (minTo S k) k (cMid S k c)) ad A9 := by rw [show cMid S k c = cLs c (c.2.2.1.filter (goesOn S (sClock S))) c.2.1.2 from if_neg (by rw [q33]; exact Bool.false_ne_true)]; exact I3
      exact AW_minute_63 Wf WV WC hc (fun A1 ⟨I1, hA1⟩ => ih q19 A1 ⟨by omega, I1, hA1⟩) I3 (hA2.trans hA)
    · refine v_aload_n (dk cd_AW_minute 22 rfl) rfl ?_
      refine v_aload_n (dk cd_AW_minute 23 rfl) rfl ?_
      refine v_getf (dk cd_AW_minute 24 rfl) fg_AW_24_AW (by assumption) (by rfl) ?_
      refine v_aload_n (dk cd_AW_minute 25 rfl) rfl ?_
      refine v_getf (dk cd_AW_minute 26 rfl) fg_AW_28_AW (by assumption) (by rfl) ?_
      refine v_aload_n (dk cd_AW_minute 27 rfl) rfl ?_
      refine v_getf (dk cd_AW_minute 28 rfl) fg_AW_9_AW (by assumption) (by rfl) ?_
      refine v_callv (r := ("AreaWarnings$Cell", TT_Ce, 12)) (dk cd_AW_minute 29 rfl) cv_AW_169 rfl (by assumption) (as := [_, _, _]) rfl rfl (Nat.le_of_ble_eq_true rfl) (by simp [Value.category]) (Ce_makeListAnew_ok (S := minTo S k) I (Wf_minTo Wf) WV hcc (WC k c hc).2.1) ps_no (fun v9 A9 hq => ?_)
      obtain ⟨e9, I3, hA2⟩ := hq
      cases e9
      have I3 : Inv F (setCe (minTo S k) k (cMid S k c)) ad A9 := by rw [show cMid S k c = cLs c (mkList S k c (sClock S)) (!c.2.1.2) from if_pos q33]; exact I3
      refine v_goto (tgt := 63) (dk cd_AW_minute 30 rfl) rfl ?_
      exact AW_minute_63 Wf WV WC hc (fun A1 ⟨I1, hA1⟩ => ih q19 A1 ⟨by omega, I1, hA1⟩) I3 (hA2.trans hA)
theorem setHs_to {S : SS} {k : Nat} {h : HaS} (hh : (sHs S)[k]? = some h) : setHs (minH S k) k (hMin S h) = minH S (k + 1) := by
  show _ = (S.1, S.2.1, S.2.2.1, S.2.2.2.1, S.2.2.2.2.1, (hsTo S k).set k (hMin S ((sHs S).getD k hD)))
  rw [show (sHs S).getD k hD = h by simp [hh]]
  rfl
set_option maxRecDepth 100000 in
set_option maxHeartbeats 4000000 in
theorem AW_minute_h {A0 : AH} {z : Int32} (Wf : Wf S) (WV : WfV S) (WC : WfC S) (N : NumOK S) (WH : ∀ (i : Nat) (h : HaS), (sHs S)[i]? = some h → HOK S h) : ∀ k, ∀ A : AH, k ≤ (sHs S).length ∧ Inv F (minH S k) ad A ∧ A.2 = A0.2 → V (gg u) (d + 6) mm_AW_minute 86 [some (.ref (ad 0 0)), some (.int z), some (.int (nI k)), none] [] A (Ps (some (.int z)) F (minH S (sHs S).length) ad A0) := by
  refine up_ind (sHs S).length ?_
  intro k ih A ⟨hk, I, hA⟩
  have h0 := I.aw
  have hcl : (sHs (minH S k)).length = (sHs S).length := hsTo_len S k
  rw [hcl] at h0
  obtain ⟨x1, h1, g1, e1, l1⟩ := I.top (κ := 1) (by omega)
  obtain ⟨x3, h3, g3, e3, l3⟩ := I.top (κ := 3) (by omega)
  subst e1 e3
  have hk3 := Wf.2.2.2.2.1
  have hk8 := Wf.2.2.1
  refine v_iload_n (dk cd_AW_minute 48 rfl) rfl ?_
  refine v_aload_n (dk cd_AW_minute 49 rfl) rfl ?_
  refine v_getf (dk cd_AW_minute 50 rfl) fg_AW_40_AW (by assumption) (by rfl) ?_
  refine v_icmp_geN (tgt := 135) (dk cd_AW_minute 51 rfl) rfl (by omega) (by omega) (fun q91 => ?_) (fun q91 => ?_)
  · have hke : k = (sHs S).length := by omega
    subst hke
    refine v_iload_n (dk cd_AW_minute 73 rfl) rfl ?_
    exact v_iret (dk cd_AW_minute 74 rfl) rfl (ps_of I hA rfl)
  · obtain ⟨h, hh⟩ : ∃ h, (sHs S)[k]? = some h := ⟨_, List.getElem?_eq_getElem q91⟩
    have hhh : (sHs (minH S k))[k]? = some h := (hsTo_ge S k k (Nat.le_refl k)).trans hh
    have h23 := I.hob hhh
    refine v_aload_n (dk cd_AW_minute 52 rfl) rfl ?_
    refine v_getf (dk cd_AW_minute 53 rfl) fg_AW_36_AW (by assumption) (by rfl) ?_
    refine v_iload_n (dk cd_AW_minute 54 rfl) rfl ?_
    refine v_aaldN (j := 6) (dk cd_AW_minute 55 rfl) (by assumption) (by decide) rfl rfl (by omega) (rng_at (by rw [hcl]; exact q91)) ?_
    refine v_astore_n (dk cd_AW_minute 56 rfl) (by decide) rfl ?_
    refine v_aload_n (dk cd_AW_minute 57 rfl) rfl ?_
    refine v_aload_n (dk cd_AW_minute 58 rfl) rfl ?_
    refine v_getf (dk cd_AW_minute 59 rfl) fg_AW_183_Ha (by assumption) (by rfl) ?_
    refine v_rv (r := ("AreaWarnings", TT_AW, 9)) (dk cd_AW_minute 60 rfl) cv_AW_186 rfl (by assumption) (as := [_]) rfl rfl (Nat.le_of_ble_eq_true rfl) (by simp [Value.category]) (AW_isCell_ok I) ?_
    refine v_ifeqB (tgt := 129) (dk cd_AW_minute 61 rfl) rfl (fun q109 => ?_) (fun q109 => ?_)
    · refine v_iincN (dk cd_AW_minute 71 rfl) rfl (by decide) rfl ?_
      refine v_goto (tgt := 86) (dk cd_AW_minute 72 rfl) rfl ?_
      have hmi : hMin S h = h := if_neg (fun e => Bool.false_ne_true (q109.symm.trans e))
      have I3 : Inv F (setHs (minH S k) k (hMin S h)) ad A := by rw [hmi, setHs_id hhh]; exact I
      rw [setHs_to hh] at I3
      exact V.drop 3 (ih q91 A ⟨by omega, I3, hA⟩)
    · have q109 : pIx h.1.2.1 (sCells S).length = true := q109
      obtain ⟨j, hj, hpl⟩ := pIx_nat q109 (by omega)
      rw [hpl] at h23
      obtain ⟨c, hc⟩ : ∃ c, (sCells S)[j]? = some c := ⟨_, List.getElem?_eq_getElem hj⟩
      have h14 := I.cob (S := minH S k) hc
      have hca : cAt S h.1.2.1 = c := by unfold cAt; rw [hpl, nI_clamp (by omega)]; simp [hc]
      refine v_aload_n (dk cd_AW_minute 62 rfl) rfl ?_
      refine v_aload_n (dk cd_AW_minute 63 rfl) rfl ?_
      refine v_getf (dk cd_AW_minute 64 rfl) fg_AW_15_AW (by assumption) (by rfl) ?_
      refine v_aload_n (dk cd_AW_minute 65 rfl) rfl ?_
      refine v_getf (dk cd_AW_minute 66 rfl) fg_AW_183_Ha (by assumption) (by rfl) ?_
      refine v_aaldN (j := 4) (dk cd_AW_minute 67 rfl) (by assumption) (by decide) rfl rfl (by omega) (rng_at hj) ?_
      refine v_aload_n (dk cd_AW_minute 68 rfl) rfl ?_
      refine v_getf (dk cd_AW_minute 69 rfl) fg_AW_9_AW (by assumption) (by rfl) ?_
      refine v_callv (r := ("AreaWarnings$Handset", TT_Ha, 13)) (dk cd_AW_minute 70 rfl) cv_AW_189 rfl (by assumption) (as := [_, _]) rfl rfl (Nat.le_of_ble_eq_true rfl) (by simp [Value.category]) (Ha_listen_ok (S := minH S k) I (Wf_minH Wf) WV N (WH k h hh) hhh hc (fun q hq => ((WC j c hc).2.2.2 q hq).1) (WC j c hc).2.2.1) ps_no (fun v9 A9 hq => ?_)
      obtain ⟨e9, I3, hA2⟩ := hq
      cases e9
      have hmi : hMin S h = c.2.2.2.foldl (lisS S (sClock S)) h := by unfold hMin; rw [hca]; exact if_pos q109
      have I3 : Inv F (setHs (minH S k) k (hMin S h)) ad A9 := by rw [hmi]; exact I3
      rw [setHs_to hh] at I3
      refine v_iincN (dk cd_AW_minute 71 rfl) rfl (by decide) rfl ?_
      refine v_goto (tgt := 86) (dk cd_AW_minute 72 rfl) rfl ?_
      exact V.drop 3 (ih q91 _ ⟨by omega, I3, hA2.trans hA⟩)
set_option maxRecDepth 100000 in
set_option maxHeartbeats 4000000 in
theorem AW_minute_ok (I : Inv F S ad A) (Wf : Wf S) (hgl : A.2.1 + 16 ≤ gL (gg u)) (hgs : A.2.2 + 400 ≤ gS (gg u)) (WV : WfV S) (WC : WfC S) (N : NumOK S) (WH : ∀ (i : Nat) (h : HaS), (sHs S)[i]? = some h → HOK S h) : V (gg u) (d + 6) mm_AW_minute 0 [some (.ref (ad 0 0)), none, none, none] [] A (PubR F ad A (spMinute S)) := by
  have h0 := I.aw
  refine v_aload_n (dk cd_AW_minute 0 rfl) rfl ?_
  refine v_dup (dk cd_AW_minute 1 rfl) rfl ?_
  refine v_getf (dk cd_AW_minute 2 rfl) fg_AW_9_AW (by assumption) (by rfl) ?_
  refine v_iconst (v := 1) (dk cd_AW_minute 3 rfl) (by decide) ?_
  refine v_iadd (dk cd_AW_minute 4 rfl) ?_
  refine v_putf (dk cd_AW_minute 5 rfl) fp_AW_9_AW (fun h => by cases h) (by assumption) rfl rfl ?_
  refine v_iconst (v := nI 0) (dk cd_AW_minute 6 rfl) (by decide) ?_
  refine v_istore_n (dk cd_AW_minute 7 rfl) (by decide) rfl ?_
  refine v_iconst (v := nI 0) (dk cd_AW_minute 8 rfl) (by decide) ?_
  refine v_istore_n (dk cd_AW_minute 9 rfl) (by decide) rfl ?_
  refine AW_minute_c (S := setCk S (sClock S + 1)) (A0 := A) Wf WV WC (fun A1 ⟨I1, hA1⟩ => ?_) 0 _ ⟨by omega, I.updCk rfl, rfl⟩
  refine v_iconst (v := nI 0) (dk cd_AW_minute 46 rfl) (by decide) ?_
  refine v_istore_n (dk cd_AW_minute 47 rfl) (by decide) rfl ?_
  refine (AW_minute_h (S := minC S) (A0 := A1) (Wf_minTo (S := setCk S (sClock S + 1)) Wf) WV (WfC_minTo (S := setCk S (sClock S + 1)) Wf WV WC) N WH 0 A1 ⟨by omega, I1, rfl⟩).mono (fun r A' hr => ?_)
  obtain ⟨rfl, I2, h2⟩ := hr
  exact pub_ret I2 (h2.trans hA1) rfl
end MI
