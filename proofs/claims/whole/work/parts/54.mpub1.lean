/-! the model's public calls: the ends -/
def xc (l : List Int32) (k : Nat) : Int32 := l.getD k 0
def PM (cd : Nat → Int32) (B : AH) (a : Nat) (q : SS × (Value ⊕ Nat)) : Out → AH → Prop := fun r A' => ∃ (x : Int32) (i : Nat → Int32) (f : Nat → Nat → Int32), r = .inl (some (.int x)) ∧ MH B a i f A' ∧ (match q.2 with | .inl v => Rel q.1 0 i f ∧ v = .int x | .inr k => Rel q.1 (cd k) i f)
theorem i32_gt2 {x : Int32} : 2 < x ↔ 3 ≤ x := by
  rw [Int32.lt_iff_toInt_lt, Int32.le_iff_toInt_le]
  have e1 : (2 : Int32).toInt = 2 := rfl
  have e2 : (3 : Int32).toInt = 3 := rfl
  omega
theorem i32_le2 {x : Int32} : x ≤ 2 ↔ ¬ 3 ≤ x := by rw [← i32_gt2, Int32.not_lt]
theorem i32_lt3 {x : Int32} : x < 3 ↔ x ≤ 2 := by rw [i32_le2, Int32.not_le]
theorem tsum3 (t : Tx) : tsum t 3 = tl t 0 + tl t 1 + tl t 2 := by simp [tsum]
section MP
variable {u : Ux} {d : Nat} {A B : AH} {a : Nat} {i : Nat → Int32} {f : Nat → Nat → Int32} {S S' : SS} {t x : Int32} {cd : Nat → Int32} {q : SS × (Value ⊕ Nat)}
theorem pmV (hM : MH B a i f A) (R : Rel S' t i f) (ht : t = 0) (hq : q = (S', .inl (.int x))) : PM cd B a q (.inl (some (.int x))) A := by
  subst hq; subst ht
  exact ⟨x, i, f, rfl, hM, R, rfl⟩
theorem pmX {k : Nat} (hM : MH B a i f A) (R : Rel S' t i f) (hq : q = (S', .inr k)) (hc : cd k = t) : PM cd B a q (.inl (some (.int x))) A := by
  subst hq; subst hc
  exact ⟨x, i, f, rfl, hM, R⟩
theorem pm_no' : ∀ z A', ¬ PM cd B a q (.inr z) A' := fun z A' h => by obtain ⟨x, i, f, h, _⟩ := h; cases h
set_option maxRecDepth 100000 in
set_option maxHeartbeats 4000000 in
theorem Mo_isPlace_ok {x : Int32} : V (gg u) d mm_Mo_isPlace 0 [some (.int x)] [] A (Rt (some (.int (b2i (pCo x)))) A) := by
  refine v_iload_n (dk cd_Mo_isPlace 0 rfl) rfl ?_
  refine v_sipush (v := -1000) (dk cd_Mo_isPlace 1 rfl) (by decide) ?_
  refine v_icmp_lt (tgt := 18) (dk cd_Mo_isPlace 2 rfl) rfl (fun q4 => ?_) (fun q4 => ?_)
  · refine v_iconst (v := 0) (dk cd_Mo_isPlace 8 rfl) (by decide) ?_
    exact v_zret (dk cd_Mo_isPlace 9 rfl) rfl rfl (rt_f (by simp [pCo, *]))
  · refine v_iload_n (dk cd_Mo_isPlace 3 rfl) rfl ?_
    refine v_sipush (v := 1000) (dk cd_Mo_isPlace 4 rfl) (by decide) ?_
    refine v_icmp_gt (tgt := 18) (dk cd_Mo_isPlace 5 rfl) rfl (fun q11 => ?_) (fun q11 => ?_)
    · refine v_iconst (v := 0) (dk cd_Mo_isPlace 8 rfl) (by decide) ?_
      exact v_zret (dk cd_Mo_isPlace 9 rfl) rfl rfl (rt_f (by simp [pCo, *]))
    · refine v_iconst (v := 1) (dk cd_Mo_isPlace 6 rfl) (by decide) ?_
      refine v_goto (tgt := 19) (dk cd_Mo_isPlace 7 rfl) rfl ?_
      exact v_zret (dk cd_Mo_isPlace 9 rfl) rfl rfl (rt_t (by simp [pCo, *]))
set_option maxRecDepth 100000 in
set_option maxHeartbeats 4000000 in
theorem Mo_isCell_ok {n : Nat} {x : Int32} (hM : MH B a i f A) (hn : i 2 = nI n) : V (gg u) d mm_Mo_isCell 0 [some (.ref a), some (.int x)] [] A (Rt (some (.int (b2i (pIx x n)))) A) := by
  refine v_iload_n (dk cd_Mo_isCell 0 rfl) rfl ?_
  refine v_if_lt (tgt := 16) (dk cd_Mo_isCell 1 rfl) rfl (fun q1 => ?_) (fun q1 => ?_)
  · refine v_iconst (v := 0) (dk cd_Mo_isCell 8 rfl) (by decide) ?_
    exact v_zret (dk cd_Mo_isCell 9 rfl) rfl rfl (rt_f (by simp [pIx, *]))
  · refine v_iload_n (dk cd_Mo_isCell 2 rfl) rfl ?_
    refine v_aload_n (dk cd_Mo_isCell 3 rfl) rfl ?_
    refine v_mgi (n := 2) (dk cd_Mo_isCell 4 rfl) fg_Mo_145_Mo hM rfl hn ?_
    refine v_icmp_ge (tgt := 16) (dk cd_Mo_isCell 5 rfl) rfl (fun q9 => ?_) (fun q9 => ?_)
    · refine v_iconst (v := 0) (dk cd_Mo_isCell 8 rfl) (by decide) ?_
      exact v_zret (dk cd_Mo_isCell 9 rfl) rfl rfl (rt_f (by simp [pIx, *]))
    · refine v_iconst (v := 1) (dk cd_Mo_isCell 6 rfl) (by decide) ?_
      refine v_goto (tgt := 17) (dk cd_Mo_isCell 7 rfl) rfl ?_
      exact v_zret (dk cd_Mo_isCell 9 rfl) rfl rfl (rt_t (by simp [pIx, *]))
set_option maxRecDepth 100000 in
set_option maxHeartbeats 4000000 in
theorem Mo_isHandset_ok {n : Nat} {x : Int32} (hM : MH B a i f A) (hn : i 6 = nI n) : V (gg u) d mm_Mo_isHandset 0 [some (.ref a), some (.int x)] [] A (Rt (some (.int (b2i (pIx x n)))) A) := by
  refine v_iload_n (dk cd_Mo_isHandset 0 rfl) rfl ?_
  refine v_if_lt (tgt := 16) (dk cd_Mo_isHandset 1 rfl) rfl (fun q1 => ?_) (fun q1 => ?_)
  · refine v_iconst (v := 0) (dk cd_Mo_isHandset 8 rfl) (by decide) ?_
    exact v_zret (dk cd_Mo_isHandset 9 rfl) rfl rfl (rt_f (by simp [pIx, *]))
  · refine v_iload_n (dk cd_Mo_isHandset 2 rfl) rfl ?_
    refine v_aload_n (dk cd_Mo_isHandset 3 rfl) rfl ?_
    refine v_mgi (n := 6) (dk cd_Mo_isHandset 4 rfl) fg_Mo_248_Mo hM rfl hn ?_
    refine v_icmp_ge (tgt := 16) (dk cd_Mo_isHandset 5 rfl) rfl (fun q9 => ?_) (fun q9 => ?_)
    · refine v_iconst (v := 0) (dk cd_Mo_isHandset 8 rfl) (by decide) ?_
      exact v_zret (dk cd_Mo_isHandset 9 rfl) rfl rfl (rt_f (by simp [pIx, *]))
    · refine v_iconst (v := 1) (dk cd_Mo_isHandset 6 rfl) (by decide) ?_
      refine v_goto (tgt := 17) (dk cd_Mo_isHandset 7 rfl) rfl ?_
      exact v_zret (dk cd_Mo_isHandset 9 rfl) rfl rfl (rt_t (by simp [pIx, *]))
set_option maxRecDepth 100000 in
set_option maxHeartbeats 4000000 in
theorem Mo_thrown_ok (hM : MH B a i f A) : V (gg u) d mm_Mo_thrown 0 [some (.ref a)] [] A (Rt (some (.int (i 0))) A) := by
  refine v_aload_n (dk cd_Mo_thrown 0 rfl) rfl ?_
  refine v_getf (dk cd_Mo_thrown 1 rfl) fg_Mo_137_Mo hM.2.2.1 (by rfl) ?_
  exact v_iret (dk cd_Mo_thrown 2 rfl) rfl rt_ret
set_option maxRecDepth 100000 in
set_option maxHeartbeats 4000000 in
theorem Mo_cell_ok {x y r : Int32} (hM : MH B a i f A) (R : Rel S t i f) (K : SOK S) : V (gg u) (d + 1) mm_Mo_cell 0 [some (.ref a), some (.int x), some (.int y), some (.int r)] [] A (PM (xc [1, 2, 0, 0]) B a (spCell S x y r)) := by
  have w1 := K.wf.2.1
  have w2 := K.wf.2.2.1
  have w3 := K.wf.2.2.2.1
  have w4 := K.wf.2.2.2.2.1
  refine v_aload_n (dk cd_Mo_cell 0 rfl) rfl ?_
  refine v_iload_n (dk cd_Mo_cell 1 rfl) rfl ?_
  refine v_rs (dk cd_Mo_cell 2 rfl) cs_Mo_141 (as := [_]) rfl rfl (Nat.le_of_ble_eq_true rfl) (by simp [Value.category]) Mo_isPlace_ok ?_
  refine v_ifeqB (tgt := 27) (dk cd_Mo_cell 3 rfl) rfl (fun q5 => ?_) (fun q5 => ?_)
  · refine v_iconst (v := nI 1) (dk cd_Mo_cell 13 rfl) (by decide) ?_
    refine v_goto (tgt := 45) (dk cd_Mo_cell 14 rfl) rfl ?_
    refine v_mput (k := 0) (n := 0) (dk cd_Mo_cell 22 rfl) fp_Mo_137_Mo (fun h => by cases h) hM (by decide) (fun A hM => ?_)
    refine v_aload_n (dk cd_Mo_cell 23 rfl) rfl ?_
    refine v_mgi (n := 0) (dk cd_Mo_cell 24 rfl) fg_Mo_137_Mo hM rfl (up1_same _ _ _) ?_
    refine v_if_le (tgt := 57) (dk cd_Mo_cell 25 rfl) rfl (fun q => absurd q (by decide)) (fun _ => ?_)
    refine v_iconst (v := nI 0) (dk cd_Mo_cell 26 rfl) (by decide) ?_
    exact v_iret (dk cd_Mo_cell 27 rfl) rfl (pmX hM (R.thr _) (by simp [spCell, q5] : _ = (S, Sum.inr 0)) rfl)
  · refine v_iload_n (dk cd_Mo_cell 4 rfl) rfl ?_
    refine v_rs (dk cd_Mo_cell 5 rfl) cs_Mo_141 (as := [_]) rfl rfl (Nat.le_of_ble_eq_true rfl) (by simp [Value.category]) Mo_isPlace_ok ?_
    refine v_ifeqB (tgt := 27) (dk cd_Mo_cell 6 rfl) rfl (fun q12 => ?_) (fun q12 => ?_)
    · refine v_iconst (v := nI 1) (dk cd_Mo_cell 13 rfl) (by decide) ?_
      refine v_goto (tgt := 45) (dk cd_Mo_cell 14 rfl) rfl ?_
      refine v_mput (k := 0) (n := 0) (dk cd_Mo_cell 22 rfl) fp_Mo_137_Mo (fun h => by cases h) hM (by decide) (fun A hM => ?_)
      refine v_aload_n (dk cd_Mo_cell 23 rfl) rfl ?_
      refine v_mgi (n := 0) (dk cd_Mo_cell 24 rfl) fg_Mo_137_Mo hM rfl (up1_same _ _ _) ?_
      refine v_if_le (tgt := 57) (dk cd_Mo_cell 25 rfl) rfl (fun q => absurd q (by decide)) (fun _ => ?_)
      refine v_iconst (v := nI 0) (dk cd_Mo_cell 26 rfl) (by decide) ?_
      exact v_iret (dk cd_Mo_cell 27 rfl) rfl (pmX hM (R.thr _) (by simp [spCell, q5, q12] : _ = (S, Sum.inr 0)) rfl)
    · refine v_iload_n (dk cd_Mo_cell 7 rfl) rfl ?_
      refine v_iconst (v := 1) (dk cd_Mo_cell 8 rfl) (by decide) ?_
      refine v_icmp_lt (tgt := 27) (dk cd_Mo_cell 9 rfl) rfl (fun q17 => ?_) (fun q17 => ?_)
      · refine v_iconst (v := nI 1) (dk cd_Mo_cell 13 rfl) (by decide) ?_
        refine v_goto (tgt := 45) (dk cd_Mo_cell 14 rfl) rfl ?_
        refine v_mput (k := 0) (n := 0) (dk cd_Mo_cell 22 rfl) fp_Mo_137_Mo (fun h => by cases h) hM (by decide) (fun A hM => ?_)
        refine v_aload_n (dk cd_Mo_cell 23 rfl) rfl ?_
        refine v_mgi (n := 0) (dk cd_Mo_cell 24 rfl) fg_Mo_137_Mo hM rfl (up1_same _ _ _) ?_
        refine v_if_le (tgt := 57) (dk cd_Mo_cell 25 rfl) rfl (fun q => absurd q (by decide)) (fun _ => ?_)
        refine v_iconst (v := nI 0) (dk cd_Mo_cell 26 rfl) (by decide) ?_
        exact v_iret (dk cd_Mo_cell 27 rfl) rfl (pmX hM (R.thr _) (by simp [spCell, q5, q12, q17] : _ = (S, Sum.inr 0)) rfl)
      · refine v_iload_n (dk cd_Mo_cell 10 rfl) rfl ?_
        refine v_sipush (v := 2000) (dk cd_Mo_cell 11 rfl) (by decide) ?_
        refine v_icmp_le (tgt := 31) (dk cd_Mo_cell 12 rfl) rfl (fun q24 => ?_) (fun q24 => ?_)
        · refine v_aload_n (dk cd_Mo_cell 15 rfl) rfl ?_
          refine v_mgi (n := 2) (dk cd_Mo_cell 16 rfl) fg_Mo_145_Mo hM rfl R.nc ?_
          refine v_bipush (v := nI 8) (dk cd_Mo_cell 17 rfl) (by decide) ?_
          refine v_icmp_neN (tgt := 44) (dk cd_Mo_cell 18 rfl) rfl (by omega) (by omega) (fun q37 => ?_) (fun q37 => ?_)
          · refine v_iconst (v := nI 0) (dk cd_Mo_cell 21 rfl) (by decide) ?_
            refine v_mput (k := 0) (n := 0) (dk cd_Mo_cell 22 rfl) fp_Mo_137_Mo (fun h => by cases h) hM (by decide) (fun A hM => ?_)
            refine v_aload_n (dk cd_Mo_cell 23 rfl) rfl ?_
            refine v_mgi (n := 0) (dk cd_Mo_cell 24 rfl) fg_Mo_137_Mo hM rfl (up1_same _ _ _) ?_
            refine v_if_le (tgt := 57) (dk cd_Mo_cell 25 rfl) rfl (fun _ => ?_) (fun q => absurd (by decide) q)
            refine v_aload_n (dk cd_Mo_cell 28 rfl) rfl ?_
            refine v_getf (dk cd_Mo_cell 29 rfl) fg_Mo_7_Mo hM.2.2.1 (by rfl) ?_
            refine v_aload_n (dk cd_Mo_cell 30 rfl) rfl ?_
            refine v_mgi (n := 2) (dk cd_Mo_cell 31 rfl) fg_Mo_145_Mo hM rfl R.nc ?_
            refine v_iload_n (dk cd_Mo_cell 32 rfl) rfl ?_
            refine v_mst (j := 0) (dk cd_Mo_cell 33 rfl) hM (by decide) (by decide) (show _ < 8 by omega) (by decide) (fun A hM => ?_)
            refine v_aload_n (dk cd_Mo_cell 34 rfl) rfl ?_
            refine v_getf (dk cd_Mo_cell 35 rfl) fg_Mo_13_Mo hM.2.2.1 (by rfl) ?_
            refine v_aload_n (dk cd_Mo_cell 36 rfl) rfl ?_
            refine v_mgi (n := 2) (dk cd_Mo_cell 37 rfl) fg_Mo_145_Mo hM rfl R.nc ?_
            refine v_iload_n (dk cd_Mo_cell 38 rfl) rfl ?_
            refine v_mst (j := 1) (dk cd_Mo_cell 39 rfl) hM (by decide) (by decide) (show _ < 8 by omega) (by decide) (fun A hM => ?_)
            refine v_aload_n (dk cd_Mo_cell 40 rfl) rfl ?_
            refine v_getf (dk cd_Mo_cell 41 rfl) fg_Mo_16_Mo hM.2.2.1 (by rfl) ?_
            refine v_aload_n (dk cd_Mo_cell 42 rfl) rfl ?_
            refine v_mgi (n := 2) (dk cd_Mo_cell 43 rfl) fg_Mo_145_Mo hM rfl R.nc ?_
            refine v_iload_n (dk cd_Mo_cell 44 rfl) rfl ?_
            refine v_mst (j := 2) (dk cd_Mo_cell 45 rfl) hM (by decide) (by decide) (show _ < 8 by omega) (by decide) (fun A hM => ?_)
            refine v_aload_n (dk cd_Mo_cell 46 rfl) rfl ?_
            refine v_dup (dk cd_Mo_cell 47 rfl) rfl ?_
            refine v_mgi (n := 2) (dk cd_Mo_cell 48 rfl) fg_Mo_145_Mo hM rfl R.nc ?_
            refine v_iconst (v := nI 1) (dk cd_Mo_cell 49 rfl) (by decide) ?_
            refine v_iaddN (dk cd_Mo_cell 50 rfl) ?_
            refine v_mput (k := 2) (n := 2) (dk cd_Mo_cell 51 rfl) fp_Mo_145_Mo (fun h => by cases h) hM (by decide) (fun A hM => ?_)
            refine v_aload_n (dk cd_Mo_cell 52 rfl) rfl ?_
            refine v_mgi (n := 2) (dk cd_Mo_cell 53 rfl) fg_Mo_145_Mo hM rfl (up1_same _ _ _) ?_
            refine v_iconst (v := nI 1) (dk cd_Mo_cell 54 rfl) (by decide) ?_
            refine v_isubN (dk cd_Mo_cell 55 rfl) (by omega) ?_
            exact v_iret (dk cd_Mo_cell 56 rfl) rfl (pmV hM ((R.thr _).cell K (by omega)) rfl (by simp [spCell, q5, q12, q17, q24, q37]))
          · refine v_iconst (v := nI 2) (dk cd_Mo_cell 19 rfl) (by decide) ?_
            refine v_goto (tgt := 45) (dk cd_Mo_cell 20 rfl) rfl ?_
            refine v_mput (k := 0) (n := 0) (dk cd_Mo_cell 22 rfl) fp_Mo_137_Mo (fun h => by cases h) hM (by decide) (fun A hM => ?_)
            refine v_aload_n (dk cd_Mo_cell 23 rfl) rfl ?_
            refine v_mgi (n := 0) (dk cd_Mo_cell 24 rfl) fg_Mo_137_Mo hM rfl (up1_same _ _ _) ?_
            refine v_if_le (tgt := 57) (dk cd_Mo_cell 25 rfl) rfl (fun q => absurd q (by decide)) (fun _ => ?_)
            refine v_iconst (v := nI 0) (dk cd_Mo_cell 26 rfl) (by decide) ?_
            exact v_iret (dk cd_Mo_cell 27 rfl) rfl (pmX hM (R.thr _) (by simp [spCell, q5, q12, q17, q24, q37] : _ = (S, Sum.inr 1)) rfl)
        · refine v_iconst (v := nI 1) (dk cd_Mo_cell 13 rfl) (by decide) ?_
          refine v_goto (tgt := 45) (dk cd_Mo_cell 14 rfl) rfl ?_
          refine v_mput (k := 0) (n := 0) (dk cd_Mo_cell 22 rfl) fp_Mo_137_Mo (fun h => by cases h) hM (by decide) (fun A hM => ?_)
          refine v_aload_n (dk cd_Mo_cell 23 rfl) rfl ?_
          refine v_mgi (n := 0) (dk cd_Mo_cell 24 rfl) fg_Mo_137_Mo hM rfl (up1_same _ _ _) ?_
          refine v_if_le (tgt := 57) (dk cd_Mo_cell 25 rfl) rfl (fun q => absurd q (by decide)) (fun _ => ?_)
          refine v_iconst (v := nI 0) (dk cd_Mo_cell 26 rfl) (by decide) ?_
          exact v_iret (dk cd_Mo_cell 27 rfl) rfl (pmX hM (R.thr _) (by simp [spCell, q5, q12, q17, q24] : _ = (S, Sum.inr 0)) rfl)
set_option maxRecDepth 100000 in
set_option maxHeartbeats 4000000 in
theorem Mo_corner_ok {x y : Int32} (hM : MH B a i f A) (R : Rel S t i f) (K : SOK S) : V (gg u) (d + 1) mm_Mo_corner 0 [some (.ref a), some (.int x), some (.int y)] [] A (PM (xc [1, 2, 0, 0]) B a (spCorner S x y)) := by
  have w1 := K.wf.2.1
  have w2 := K.wf.2.2.1
  have w3 := K.wf.2.2.2.1
  have w4 := K.wf.2.2.2.2.1
  have w5 := K.wt.1
  refine v_aload_n (dk cd_Mo_corner 0 rfl) rfl ?_
  refine v_iload_n (dk cd_Mo_corner 1 rfl) rfl ?_
  refine v_rs (dk cd_Mo_corner 2 rfl) cs_Mo_141 (as := [_]) rfl rfl (Nat.le_of_ble_eq_true rfl) (by simp [Value.category]) Mo_isPlace_ok ?_
  refine v_ifeqB (tgt := 15) (dk cd_Mo_corner 3 rfl) rfl (fun q5 => ?_) (fun q5 => ?_)
  · refine v_iconst (v := nI 1) (dk cd_Mo_corner 7 rfl) (by decide) ?_
    refine v_goto (tgt := 33) (dk cd_Mo_corner 8 rfl) rfl ?_
    refine v_mput (k := 0) (n := 0) (dk cd_Mo_corner 16 rfl) fp_Mo_137_Mo (fun h => by cases h) hM (by decide) (fun A hM => ?_)
    refine v_aload_n (dk cd_Mo_corner 17 rfl) rfl ?_
    refine v_mgi (n := 0) (dk cd_Mo_corner 18 rfl) fg_Mo_137_Mo hM rfl (up1_same _ _ _) ?_
    refine v_if_le (tgt := 45) (dk cd_Mo_corner 19 rfl) rfl (fun q => absurd q (by decide)) (fun _ => ?_)
    refine v_iconst (v := nI 0) (dk cd_Mo_corner 20 rfl) (by decide) ?_
    exact v_iret (dk cd_Mo_corner 21 rfl) rfl (pmX hM (R.thr _) (by simp [spCorner, q5] : _ = (S, Sum.inr 0)) rfl)
  · refine v_iload_n (dk cd_Mo_corner 4 rfl) rfl ?_
    refine v_rs (dk cd_Mo_corner 5 rfl) cs_Mo_141 (as := [_]) rfl rfl (Nat.le_of_ble_eq_true rfl) (by simp [Value.category]) Mo_isPlace_ok ?_
    refine v_ifneB (tgt := 19) (dk cd_Mo_corner 6 rfl) rfl (fun q12 => ?_) (fun q12 => ?_)
    · refine v_aload_n (dk cd_Mo_corner 9 rfl) rfl ?_
      refine v_mgi (n := 3) (dk cd_Mo_corner 10 rfl) fg_Mo_148_Mo hM rfl R.ty.1 ?_
      refine v_bipush (v := nI 8) (dk cd_Mo_corner 11 rfl) (by decide) ?_
      refine v_icmp_neN (tgt := 32) (dk cd_Mo_corner 12 rfl) rfl (by omega) (by omega) (fun q25 => ?_) (fun q25 => ?_)
      · refine v_iconst (v := nI 0) (dk cd_Mo_corner 15 rfl) (by decide) ?_
        refine v_mput (k := 0) (n := 0) (dk cd_Mo_corner 16 rfl) fp_Mo_137_Mo (fun h => by cases h) hM (by decide) (fun A hM => ?_)
        refine v_aload_n (dk cd_Mo_corner 17 rfl) rfl ?_
        refine v_mgi (n := 0) (dk cd_Mo_corner 18 rfl) fg_Mo_137_Mo hM rfl (up1_same _ _ _) ?_
        refine v_if_le (tgt := 45) (dk cd_Mo_corner 19 rfl) rfl (fun _ => ?_) (fun q => absurd (by decide) q)
        refine v_aload_n (dk cd_Mo_corner 22 rfl) rfl ?_
        refine v_getf (dk cd_Mo_corner 23 rfl) fg_Mo_44_Mo hM.2.2.1 (by rfl) ?_
        refine v_aload_n (dk cd_Mo_corner 24 rfl) rfl ?_
        refine v_mgi (n := 3) (dk cd_Mo_corner 25 rfl) fg_Mo_148_Mo hM rfl R.ty.1 ?_
        refine v_iload_n (dk cd_Mo_corner 26 rfl) rfl ?_
        refine v_mst (j := 11) (dk cd_Mo_corner 27 rfl) hM (by decide) (by decide) (show _ < 8 by omega) (by decide) (fun A hM => ?_)
        refine v_aload_n (dk cd_Mo_corner 28 rfl) rfl ?_
        refine v_getf (dk cd_Mo_corner 29 rfl) fg_Mo_47_Mo hM.2.2.1 (by rfl) ?_
        refine v_aload_n (dk cd_Mo_corner 30 rfl) rfl ?_
        refine v_mgi (n := 3) (dk cd_Mo_corner 31 rfl) fg_Mo_148_Mo hM rfl R.ty.1 ?_
        refine v_iload_n (dk cd_Mo_corner 32 rfl) rfl ?_
        refine v_mst (j := 12) (dk cd_Mo_corner 33 rfl) hM (by decide) (by decide) (show _ < 8 by omega) (by decide) (fun A hM => ?_)
        refine v_aload_n (dk cd_Mo_corner 34 rfl) rfl ?_
        refine v_dup (dk cd_Mo_corner 35 rfl) rfl ?_
        refine v_mgi (n := 3) (dk cd_Mo_corner 36 rfl) fg_Mo_148_Mo hM rfl R.ty.1 ?_
        refine v_iconst (v := nI 1) (dk cd_Mo_corner 37 rfl) (by decide) ?_
        refine v_iaddN (dk cd_Mo_corner 38 rfl) ?_
        refine v_mput (k := 14) (n := 3) (dk cd_Mo_corner 39 rfl) fp_Mo_148_Mo (fun h => by cases h) hM (by decide) (fun A hM => ?_)
        refine v_aload_n (dk cd_Mo_corner 40 rfl) rfl ?_
        refine v_mgi (n := 3) (dk cd_Mo_corner 41 rfl) fg_Mo_148_Mo hM rfl (up1_same _ _ _) ?_
        exact v_iret (dk cd_Mo_corner 42 rfl) rfl (pmV hM ((R.thr _).corner K) rfl (by simp [spCorner, q5, q12, q25]))
      · refine v_iconst (v := nI 2) (dk cd_Mo_corner 13 rfl) (by decide) ?_
        refine v_goto (tgt := 33) (dk cd_Mo_corner 14 rfl) rfl ?_
        refine v_mput (k := 0) (n := 0) (dk cd_Mo_corner 16 rfl) fp_Mo_137_Mo (fun h => by cases h) hM (by decide) (fun A hM => ?_)
        refine v_aload_n (dk cd_Mo_corner 17 rfl) rfl ?_
        refine v_mgi (n := 0) (dk cd_Mo_corner 18 rfl) fg_Mo_137_Mo hM rfl (up1_same _ _ _) ?_
        refine v_if_le (tgt := 45) (dk cd_Mo_corner 19 rfl) rfl (fun q => absurd q (by decide)) (fun _ => ?_)
        refine v_iconst (v := nI 0) (dk cd_Mo_corner 20 rfl) (by decide) ?_
        exact v_iret (dk cd_Mo_corner 21 rfl) rfl (pmX hM (R.thr _) (by simp [spCorner, q5, q12, q25] : _ = (S, Sum.inr 1)) rfl)
    · refine v_iconst (v := nI 1) (dk cd_Mo_corner 7 rfl) (by decide) ?_
      refine v_goto (tgt := 33) (dk cd_Mo_corner 8 rfl) rfl ?_
      refine v_mput (k := 0) (n := 0) (dk cd_Mo_corner 16 rfl) fp_Mo_137_Mo (fun h => by cases h) hM (by decide) (fun A hM => ?_)
      refine v_aload_n (dk cd_Mo_corner 17 rfl) rfl ?_
      refine v_mgi (n := 0) (dk cd_Mo_corner 18 rfl) fg_Mo_137_Mo hM rfl (up1_same _ _ _) ?_
      refine v_if_le (tgt := 45) (dk cd_Mo_corner 19 rfl) rfl (fun q => absurd q (by decide)) (fun _ => ?_)
      refine v_iconst (v := nI 0) (dk cd_Mo_corner 20 rfl) (by decide) ?_
      exact v_iret (dk cd_Mo_corner 21 rfl) rfl (pmX hM (R.thr _) (by simp [spCorner, q5, q12] : _ = (S, Sum.inr 0)) rfl)
set_option maxRecDepth 100000 in
set_option maxHeartbeats 4000000 in
theorem Mo_text_ok {x v : Int32} (hM : MH B a i f A) (R : Rel S t i f) (K : SOK S) : V (gg u) d mm_Mo_text 0 [some (.ref a), some (.int x), some (.int v)] [] A (PM (xc [1, 2, 0, 0]) B a (spText S x v)) := by
  have w1 := K.wf.2.1
  have w2 := K.wf.2.2.1
  have w3 := K.wf.2.2.2.1
  have w4 := K.wf.2.2.2.2.1
  refine v_aload_n (dk cd_Mo_text 0 rfl) rfl ?_
  refine v_iload_n (dk cd_Mo_text 1 rfl) rfl ?_
  refine v_if_lt (tgt := 21) (dk cd_Mo_text 2 rfl) rfl (fun q2 => ?_) (fun q2 => ?_)
  · refine v_iconst (v := nI 1) (dk cd_Mo_text 11 rfl) (by decide) ?_
    refine v_goto (tgt := 41) (dk cd_Mo_text 12 rfl) rfl ?_
    refine v_mput (k := 0) (n := 0) (dk cd_Mo_text 22 rfl) fp_Mo_137_Mo (fun h => by cases h) hM (by decide) (fun A hM => ?_)
    refine v_aload_n (dk cd_Mo_text 23 rfl) rfl ?_
    refine v_mgi (n := 0) (dk cd_Mo_text 24 rfl) fg_Mo_137_Mo hM rfl (up1_same _ _ _) ?_
    refine v_if_le (tgt := 53) (dk cd_Mo_text 25 rfl) rfl (fun q => absurd q (by decide)) (fun _ => ?_)
    refine v_iconst (v := nI 0) (dk cd_Mo_text 26 rfl) (by decide) ?_
    exact v_iret (dk cd_Mo_text 27 rfl) rfl (pmX hM (R.thr _) (by simp [spText, pLa, ← i32_gt2, q2] : _ = (S, Sum.inr 0)) rfl)
  · refine v_iload_n (dk cd_Mo_text 3 rfl) rfl ?_
    refine v_iconst (v := 2) (dk cd_Mo_text 4 rfl) (by decide) ?_
    refine v_icmp_gt (tgt := 21) (dk cd_Mo_text 5 rfl) rfl (fun q7 => ?_) (fun q7 => ?_)
    · refine v_iconst (v := nI 1) (dk cd_Mo_text 11 rfl) (by decide) ?_
      refine v_goto (tgt := 41) (dk cd_Mo_text 12 rfl) rfl ?_
      refine v_mput (k := 0) (n := 0) (dk cd_Mo_text 22 rfl) fp_Mo_137_Mo (fun h => by cases h) hM (by decide) (fun A hM => ?_)
      refine v_aload_n (dk cd_Mo_text 23 rfl) rfl ?_
      refine v_mgi (n := 0) (dk cd_Mo_text 24 rfl) fg_Mo_137_Mo hM rfl (up1_same _ _ _) ?_
      refine v_if_le (tgt := 53) (dk cd_Mo_text 25 rfl) rfl (fun q => absurd q (by decide)) (fun _ => ?_)
      refine v_iconst (v := nI 0) (dk cd_Mo_text 26 rfl) (by decide) ?_
      exact v_iret (dk cd_Mo_text 27 rfl) rfl (pmX hM (R.thr _) (by simp [spText, pLa, ← i32_gt2, q2, q7] : _ = (S, Sum.inr 0)) rfl)
    · refine v_iload_n (dk cd_Mo_text 6 rfl) rfl ?_
      refine v_if_lt (tgt := 21) (dk cd_Mo_text 7 rfl) rfl (fun q11 => ?_) (fun q11 => ?_)
      · refine v_iconst (v := nI 1) (dk cd_Mo_text 11 rfl) (by decide) ?_
        refine v_goto (tgt := 41) (dk cd_Mo_text 12 rfl) rfl ?_
        refine v_mput (k := 0) (n := 0) (dk cd_Mo_text 22 rfl) fp_Mo_137_Mo (fun h => by cases h) hM (by decide) (fun A hM => ?_)
        refine v_aload_n (dk cd_Mo_text 23 rfl) rfl ?_
        refine v_mgi (n := 0) (dk cd_Mo_text 24 rfl) fg_Mo_137_Mo hM rfl (up1_same _ _ _) ?_
        refine v_if_le (tgt := 53) (dk cd_Mo_text 25 rfl) rfl (fun q => absurd q (by decide)) (fun _ => ?_)
        refine v_iconst (v := nI 0) (dk cd_Mo_text 26 rfl) (by decide) ?_
        exact v_iret (dk cd_Mo_text 27 rfl) rfl (pmX hM (R.thr _) (by simp [spText, pLa, ← i32_gt2, q2, q7, q11] : _ = (S, Sum.inr 0)) rfl)
      · refine v_iload_n (dk cd_Mo_text 8 rfl) rfl ?_
        refine v_sipush (v := 255) (dk cd_Mo_text 9 rfl) (by decide) ?_
        refine v_icmp_le (tgt := 25) (dk cd_Mo_text 10 rfl) rfl (fun q18 => ?_) (fun q18 => ?_)
        · have hp : pLa x = true := by simp [pLa, ← i32_gt2, q2, q7]
          obtain ⟨l, hl, rfl⟩ := pLa_nat hp
          have hcl : (nI l).toNatClampNeg = l := nI_clamp (by omega)
          have w5 := K.wt.2.2 l
          refine v_aload_n (dk cd_Mo_text 13 rfl) rfl ?_
          refine v_getf (dk cd_Mo_text 14 rfl) fg_Mo_50_Mo hM.2.2.1 (by rfl) ?_
          refine v_iload_n (dk cd_Mo_text 15 rfl) rfl ?_
          refine v_mldE (j := 13) (dk cd_Mo_text 16 rfl) hM (by decide) (by decide) (show _ < 3 by omega) (by decide) (R.ty.2.2 l hl).1 ?_
          refine v_bipush (v := nI 30) (dk cd_Mo_text 17 rfl) (by decide) ?_
          refine v_icmp_neN (tgt := 40) (dk cd_Mo_text 18 rfl) rfl (by omega) (by omega) (fun q33 => ?_) (fun q33 => ?_)
          · refine v_iconst (v := nI 0) (dk cd_Mo_text 21 rfl) (by decide) ?_
            refine v_mput (k := 0) (n := 0) (dk cd_Mo_text 22 rfl) fp_Mo_137_Mo (fun h => by cases h) hM (by decide) (fun A hM => ?_)
            refine v_aload_n (dk cd_Mo_text 23 rfl) rfl ?_
            refine v_mgi (n := 0) (dk cd_Mo_text 24 rfl) fg_Mo_137_Mo hM rfl (up1_same _ _ _) ?_
            refine v_if_le (tgt := 53) (dk cd_Mo_text 25 rfl) rfl (fun _ => ?_) (fun q => absurd (by decide) q)
            refine v_aload_n (dk cd_Mo_text 28 rfl) rfl ?_
            refine v_getf (dk cd_Mo_text 29 rfl) fg_Mo_53_Mo hM.2.2.1 (by rfl) ?_
            refine v_bipush (v := nI 30) (dk cd_Mo_text 30 rfl) (by decide) ?_
            refine v_iload_n (dk cd_Mo_text 31 rfl) rfl ?_
            refine v_imulN (dk cd_Mo_text 32 rfl) ?_
            refine v_aload_n (dk cd_Mo_text 33 rfl) rfl ?_
            refine v_getf (dk cd_Mo_text 34 rfl) fg_Mo_50_Mo hM.2.2.1 (by rfl) ?_
            refine v_iload_n (dk cd_Mo_text 35 rfl) rfl ?_
            refine v_mldE (j := 13) (dk cd_Mo_text 36 rfl) hM (by decide) (by decide) (show _ < 3 by omega) (by decide) (R.ty.2.2 l hl).1 ?_
            refine v_iaddN (dk cd_Mo_text 37 rfl) ?_
            refine v_iload_n (dk cd_Mo_text 38 rfl) rfl ?_
            refine v_mst (j := 14) (dk cd_Mo_text 39 rfl) hM (by decide) (by decide) (show _ < 90 by omega) (by decide) (fun A hM => ?_)
            refine v_aload_n (dk cd_Mo_text 40 rfl) rfl ?_
            refine v_getf (dk cd_Mo_text 41 rfl) fg_Mo_50_Mo hM.2.2.1 (by rfl) ?_
            refine v_iload_n (dk cd_Mo_text 42 rfl) rfl ?_
            refine v_dup2 (dk cd_Mo_text 43 rfl) rfl rfl ?_
            refine v_mldE (j := 13) (dk cd_Mo_text 44 rfl) hM (by decide) (by decide) (show _ < 3 by omega) (by decide) (up2_thru (by omega) (R.ty.2.2 l hl).1) ?_
            refine v_iconst (v := nI 1) (dk cd_Mo_text 45 rfl) (by decide) ?_
            refine v_iaddN (dk cd_Mo_text 46 rfl) ?_
            refine v_mst (j := 13) (dk cd_Mo_text 47 rfl) hM (by decide) (by decide) (show _ < 3 by omega) (by decide) (fun A hM => ?_)
            refine v_aload_n (dk cd_Mo_text 48 rfl) rfl ?_
            refine v_getf (dk cd_Mo_text 49 rfl) fg_Mo_50_Mo hM.2.2.1 (by rfl) ?_
            refine v_iload_n (dk cd_Mo_text 50 rfl) rfl ?_
            refine v_mldE (j := 13) (dk cd_Mo_text 51 rfl) hM (by decide) (by decide) (show _ < 3 by omega) (by decide) up2_on ?_
            exact v_iret (dk cd_Mo_text 52 rfl) rfl (pmV hM ((R.thr _).text K hl (by omega)) rfl (by simp [spText, hp, hcl, q2, q7, q11, q18, q33]))
          · refine v_iconst (v := nI 2) (dk cd_Mo_text 19 rfl) (by decide) ?_
            refine v_goto (tgt := 41) (dk cd_Mo_text 20 rfl) rfl ?_
            refine v_mput (k := 0) (n := 0) (dk cd_Mo_text 22 rfl) fp_Mo_137_Mo (fun h => by cases h) hM (by decide) (fun A hM => ?_)
            refine v_aload_n (dk cd_Mo_text 23 rfl) rfl ?_
            refine v_mgi (n := 0) (dk cd_Mo_text 24 rfl) fg_Mo_137_Mo hM rfl (up1_same _ _ _) ?_
            refine v_if_le (tgt := 53) (dk cd_Mo_text 25 rfl) rfl (fun q => absurd q (by decide)) (fun _ => ?_)
            refine v_iconst (v := nI 0) (dk cd_Mo_text 26 rfl) (by decide) ?_
            exact v_iret (dk cd_Mo_text 27 rfl) rfl (pmX hM (R.thr _) (by simp [spText, hp, hcl, q2, q7, q11, q18, q33] : _ = (S, Sum.inr 1)) rfl)
        · refine v_iconst (v := nI 1) (dk cd_Mo_text 11 rfl) (by decide) ?_
          refine v_goto (tgt := 41) (dk cd_Mo_text 12 rfl) rfl ?_
          refine v_mput (k := 0) (n := 0) (dk cd_Mo_text 22 rfl) fp_Mo_137_Mo (fun h => by cases h) hM (by decide) (fun A hM => ?_)
          refine v_aload_n (dk cd_Mo_text 23 rfl) rfl ?_
          refine v_mgi (n := 0) (dk cd_Mo_text 24 rfl) fg_Mo_137_Mo hM rfl (up1_same _ _ _) ?_
          refine v_if_le (tgt := 53) (dk cd_Mo_text 25 rfl) rfl (fun q => absurd q (by decide)) (fun _ => ?_)
          refine v_iconst (v := nI 0) (dk cd_Mo_text 26 rfl) (by decide) ?_
          exact v_iret (dk cd_Mo_text 27 rfl) rfl (pmX hM (R.thr _) (by simp [spText, pLa, ← i32_gt2, q2, q7, q11, q18] : _ = (S, Sum.inr 0)) rfl)
set_option maxRecDepth 100000 in
set_option maxHeartbeats 4000000 in
theorem Mo_clear_lp {i0 : Nat → Int32} {f0 : Nat → Nat → Int32} (hi : i = up1 (up1 i0 0 (nI 0)) 3 (nI 0)) : ∀ k, ∀ {f : Nat → Nat → Int32} {A : AH}, MH B a i f A → (∀ j, j ≠ 13 → f j = f0 j) → (∀ l, l < k → f 13 l = 0) → k ≤ 3 → V (gg u) d mm_Mo_clear 38 [some (.ref a), some (.int (i0 3 + f0 13 0 + f0 13 1 + f0 13 2)), some (.int (nI k))] [] A (Pr (some (.int (i0 3 + f0 13 0 + f0 13 1 + f0 13 2))) B a (fun i1 f1 => i1 = up1 (up1 i0 0 (nI 0)) 3 (nI 0) ∧ (∀ j, j ≠ 13 → f1 j = f0 j) ∧ ∀ l, l < 3 → f1 13 l = 0)) := by
  refine up_ind 3 ?_
  intro k ih f A hM h1 h2 hk
  refine v_iload_n (dk cd_Mo_clear 26 rfl) rfl ?_
  refine v_iconst (v := nI 3) (dk cd_Mo_clear 27 rfl) (by decide) ?_
  refine v_icmp_geN (tgt := 56) (dk cd_Mo_clear 28 rfl) rfl (by omega) (by omega) (fun q40 => ?_) (fun q40 => ?_)
  · refine v_iload_n (dk cd_Mo_clear 36 rfl) rfl ?_
    exact v_iret (dk cd_Mo_clear 37 rfl) rfl ⟨rfl, i, f, hM, hi, h1, fun l hl => h2 l (by omega)⟩
  · refine v_aload_n (dk cd_Mo_clear 29 rfl) rfl ?_
    refine v_getf (dk cd_Mo_clear 30 rfl) fg_Mo_50_Mo hM.2.2.1 (by rfl) ?_
    refine v_iload_n (dk cd_Mo_clear 31 rfl) rfl ?_
    refine v_iconst (v := nI 0) (dk cd_Mo_clear 32 rfl) (by decide) ?_
    refine v_mst (j := 13) (dk cd_Mo_clear 33 rfl) hM (by decide) (by decide) (show _ < 3 by omega) (by decide) (fun A hM => ?_)
    refine v_iincN (dk cd_Mo_clear 34 rfl) rfl (by decide) rfl ?_
    refine v_goto (tgt := 38) (dk cd_Mo_clear 35 rfl) rfl ?_
    refine ih (by omega) hM (fun j hj => by rw [up2_ne hj]; exact h1 j hj) (fun l hl => ?_) (by omega)
    by_cases e : l = k
    · subst e; rw [up2_on]; rfl
    · rw [up2_off (by omega)]; exact h2 l (by omega)
set_option maxRecDepth 100000 in
set_option maxHeartbeats 4000000 in
theorem Mo_clear_raw (hM : MH B a i f A) : V (gg u) d mm_Mo_clear 0 [some (.ref a), none, none] [] A (Pr (some (.int (i 3 + f 13 0 + f 13 1 + f 13 2))) B a (fun i1 f1 => i1 = up1 (up1 i 0 (nI 0)) 3 (nI 0) ∧ (∀ j, j ≠ 13 → f1 j = f j) ∧ ∀ l, l < 3 → f1 13 l = 0)) := by
  refine v_aload_n (dk cd_Mo_clear 0 rfl) rfl ?_
  refine v_iconst (v := nI 0) (dk cd_Mo_clear 1 rfl) (by decide) ?_
  refine v_mput (k := 0) (n := 0) (dk cd_Mo_clear 2 rfl) fp_Mo_137_Mo (fun h => by cases h) hM (by decide) (fun A hM => ?_)
  refine v_aload_n (dk cd_Mo_clear 3 rfl) rfl ?_
  refine v_getf (dk cd_Mo_clear 4 rfl) fg_Mo_148_Mo hM.2.2.1 (by rfl) ?_
  refine v_aload_n (dk cd_Mo_clear 5 rfl) rfl ?_
  refine v_getf (dk cd_Mo_clear 6 rfl) fg_Mo_50_Mo hM.2.2.1 (by rfl) ?_
  refine v_iconst (v := nI 0) (dk cd_Mo_clear 7 rfl) (by decide) ?_
  refine v_mld (j := 13) (dk cd_Mo_clear 8 rfl) hM (by decide) (by decide) (show _ < 3 by omega) (by decide) ?_
  refine v_iadd (dk cd_Mo_clear 9 rfl) ?_
  refine v_aload_n (dk cd_Mo_clear 10 rfl) rfl ?_
  refine v_getf (dk cd_Mo_clear 11 rfl) fg_Mo_50_Mo hM.2.2.1 (by rfl) ?_
  refine v_iconst (v := nI 1) (dk cd_Mo_clear 12 rfl) (by decide) ?_
  refine v_mld (j := 13) (dk cd_Mo_clear 13 rfl) hM (by decide) (by decide) (show _ < 3 by omega) (by decide) ?_
  refine v_iadd (dk cd_Mo_clear 14 rfl) ?_
  refine v_aload_n (dk cd_Mo_clear 15 rfl) rfl ?_
  refine v_getf (dk cd_Mo_clear 16 rfl) fg_Mo_50_Mo hM.2.2.1 (by rfl) ?_
  refine v_iconst (v := nI 2) (dk cd_Mo_clear 17 rfl) (by decide) ?_
  refine v_mld (j := 13) (dk cd_Mo_clear 18 rfl) hM (by decide) (by decide) (show _ < 3 by omega) (by decide) ?_
  refine v_iadd (dk cd_Mo_clear 19 rfl) ?_
  refine v_istore_n (dk cd_Mo_clear 20 rfl) (by decide) rfl ?_
  refine v_aload_n (dk cd_Mo_clear 21 rfl) rfl ?_
  refine v_iconst (v := nI 0) (dk cd_Mo_clear 22 rfl) (by decide) ?_
  refine v_mput (k := 14) (n := 3) (dk cd_Mo_clear 23 rfl) fp_Mo_148_Mo (fun h => by cases h) hM (by decide) (fun A hM => ?_)
  refine v_iconst (v := nI 0) (dk cd_Mo_clear 24 rfl) (by decide) ?_
  refine v_istore_n (dk cd_Mo_clear 25 rfl) (by decide) rfl ?_
  exact Mo_clear_lp rfl 0 hM (fun _ _ => rfl) (fun l hl => absurd hl (Nat.not_lt_zero l)) (by omega)
set_option maxRecDepth 100000 in
set_option maxHeartbeats 4000000 in
theorem Mo_clear_ok (hM : MH B a i f A) (R : Rel S t i f) (K : SOK S) : V (gg u) d mm_Mo_clear 0 [some (.ref a), none, none] [] A (PM (xc []) B a (spClear S)) := by
  refine (Mo_clear_raw hM).mono ?_
  rintro r A' ⟨rfl, i1, f1, hM1, rfl, h1, h2⟩
  refine pmV hM1 ((R.thr (nI 0)).clear K h1 h2) rfl ?_
  obtain ⟨a1, a2, a3⟩ := R.ty
  rw [a1, (a3 0 (by omega)).1, (a3 1 (by omega)).1, (a3 2 (by omega)).1, nI_add, nI_add, nI_add]
  unfold spClear
  rw [tsum3]
  simp only [Nat.add_assoc]
  rfl
set_option maxRecDepth 100000 in
set_option maxHeartbeats 4000000 in
theorem Mo_line_ok {x : Int32} {w : Bool} (hM : MH B a i f A) (R : Rel S t i f) (K : SOK S) : V (gg u) (d + 1) mm_Mo_line 0 [some (.ref a), some (.int x), some (.int (b2i w)), none] [] A (PM (xc [0, 0, 0, 1]) B a (spLine S x w)) := by
  have w1 := K.wf.2.1
  have w2 := K.wf.2.2.1
  have w3 := K.wf.2.2.2.1
  have w4 := K.wf.2.2.2.2.1
  refine v_aload_n (dk cd_Mo_line 0 rfl) rfl ?_
  refine v_aload_n (dk cd_Mo_line 1 rfl) rfl ?_
  refine v_iload_n (dk cd_Mo_line 2 rfl) rfl ?_
  refine v_rv (r := ("AreaWarningsModel", TT_Mo, 49)) (dk cd_Mo_line 3 rfl) cv_Mo_254 rfl hM.2.2.1 (as := [_]) rfl rfl (Nat.le_of_ble_eq_true rfl) (by simp [Value.category]) (Mo_isCell_ok hM R.nc) ?_
  refine v_ifeqB (tgt := 13) (dk cd_Mo_line 4 rfl) rfl (fun q6 => ?_) (fun q6 => ?_)
  · refine v_iconst (v := 1) (dk cd_Mo_line 7 rfl) (by decide) ?_
    refine v_mput (k := 0) (n := 0) (dk cd_Mo_line 8 rfl) fp_Mo_137_Mo (fun h => by cases h) hM (by decide) (fun A hM => ?_)
    refine v_aload_n (dk cd_Mo_line 9 rfl) rfl ?_
    refine v_mgi (n := 0) (dk cd_Mo_line 10 rfl) fg_Mo_137_Mo hM rfl (up1_same _ _ _) ?_
    refine v_if_le (tgt := 26) (dk cd_Mo_line 11 rfl) rfl (fun q => absurd q (by decide)) (fun _ => ?_)
    refine v_iconst (v := 0) (dk cd_Mo_line 12 rfl) (by decide) ?_
    exact v_zret (dk cd_Mo_line 13 rfl) rfl rfl (pmX hM (R.thr _) (by simp [spLine, q6] : _ = (S, Sum.inr 3)) rfl)
  · refine v_iconst (v := 0) (dk cd_Mo_line 5 rfl) (by decide) ?_
    refine v_goto (tgt := 14) (dk cd_Mo_line 6 rfl) rfl ?_
    refine v_mput (k := 0) (n := 0) (dk cd_Mo_line 8 rfl) fp_Mo_137_Mo (fun h => by cases h) hM (by decide) (fun A hM => ?_)
    refine v_aload_n (dk cd_Mo_line 9 rfl) rfl ?_
    refine v_mgi (n := 0) (dk cd_Mo_line 10 rfl) fg_Mo_137_Mo hM rfl (up1_same _ _ _) ?_
    refine v_if_le (tgt := 26) (dk cd_Mo_line 11 rfl) rfl (fun _ => ?_) (fun q => absurd (by decide) q)
    obtain ⟨k, hk, rfl, hc⟩ := cAt_get K q6
    have hcl : (nI k).toNatClampNeg = k := nI_clamp (by omega)
    refine v_aload_n (dk cd_Mo_line 14 rfl) rfl ?_
    refine v_getf (dk cd_Mo_line 15 rfl) fg_Mo_19_Mo hM.2.2.1 (by rfl) ?_
    refine v_iload_n (dk cd_Mo_line 16 rfl) rfl ?_
    refine v_mldzE (j := 3) (dk cd_Mo_line 17 rfl) hM (by decide) (by decide) (show _ < 8 by omega) (by decide) (R.ce _ _ hc).2.1 ?_
    refine v_mat_not (dk cd_Mo_line 18 rfl) (dk cd_Mo_line 19 rfl) (dk cd_Mo_line 20 rfl) (dk cd_Mo_line 21 rfl) rfl rfl ?_
    refine v_istore_n (dk cd_Mo_line 22 rfl) (by decide) rfl ?_
    refine v_aload_n (dk cd_Mo_line 23 rfl) rfl ?_
    refine v_getf (dk cd_Mo_line 24 rfl) fg_Mo_19_Mo hM.2.2.1 (by rfl) ?_
    refine v_iload_n (dk cd_Mo_line 25 rfl) rfl ?_
    refine v_iload_n (dk cd_Mo_line 26 rfl) rfl ?_
    refine v_mat_not (dk cd_Mo_line 27 rfl) (dk cd_Mo_line 28 rfl) (dk cd_Mo_line 29 rfl) (dk cd_Mo_line 30 rfl) rfl rfl ?_
    refine v_mstz (j := 3) (dk cd_Mo_line 31 rfl) hM (by decide) (by decide) (show _ < 8 by omega) (by decide) (fun A hM => ?_)
    refine v_iload_n (dk cd_Mo_line 32 rfl) rfl ?_
    exact v_zretB (dk cd_Mo_line 33 rfl) rfl (pmV hM ((R.thr _).line K.lok hc) rfl (by simp [spLine, hcl, q6]))
set_option maxRecDepth 100000 in
set_option maxHeartbeats 4000000 in
theorem Mo_handset_ok {x : Int32} (hM : MH B a i f A) (R : Rel S t i f) (K : SOK S) : V (gg u) d mm_Mo_handset 0 [some (.ref a), some (.int x)] [] A (PM (xc [1, 2, 0, 0]) B a (spHandset S x)) := by
  have w1 := K.wf.2.1
  have w2 := K.wf.2.2.1
  have w3 := K.wf.2.2.2.1
  have w4 := K.wf.2.2.2.2.1
  refine v_aload_n (dk cd_Mo_handset 0 rfl) rfl ?_
  refine v_iload_n (dk cd_Mo_handset 1 rfl) rfl ?_
  refine v_if_lt (tgt := 10) (dk cd_Mo_handset 2 rfl) rfl (fun q2 => ?_) (fun q2 => ?_)
  · refine v_iconst (v := nI 1) (dk cd_Mo_handset 6 rfl) (by decide) ?_
    refine v_goto (tgt := 27) (dk cd_Mo_handset 7 rfl) rfl ?_
    refine v_mput (k := 0) (n := 0) (dk cd_Mo_handset 15 rfl) fp_Mo_137_Mo (fun h => by cases h) hM (by decide) (fun A hM => ?_)
    refine v_aload_n (dk cd_Mo_handset 16 rfl) rfl ?_
    refine v_mgi (n := 0) (dk cd_Mo_handset 17 rfl) fg_Mo_137_Mo hM rfl (up1_same _ _ _) ?_
    refine v_if_le (tgt := 39) (dk cd_Mo_handset 18 rfl) rfl (fun q => absurd q (by decide)) (fun _ => ?_)
    refine v_iconst (v := nI 0) (dk cd_Mo_handset 19 rfl) (by decide) ?_
    exact v_iret (dk cd_Mo_handset 20 rfl) rfl (pmX hM (R.thr _) (by simp [spHandset, q2] : _ = (S, Sum.inr 0)) rfl)
  · refine v_iload_n (dk cd_Mo_handset 3 rfl) rfl ?_
    refine v_iconst (v := 5) (dk cd_Mo_handset 4 rfl) (by decide) ?_
    refine v_icmp_le (tgt := 14) (dk cd_Mo_handset 5 rfl) rfl (fun q7 => ?_) (fun q7 => ?_)
    · refine v_aload_n (dk cd_Mo_handset 8 rfl) rfl ?_
      refine v_mgi (n := 6) (dk cd_Mo_handset 9 rfl) fg_Mo_248_Mo hM rfl R.nh ?_
      refine v_iconst (v := nI 3) (dk cd_Mo_handset 10 rfl) (by decide) ?_
      refine v_icmp_neN (tgt := 26) (dk cd_Mo_handset 11 rfl) rfl (by omega) (by omega) (fun q19 => ?_) (fun q19 => ?_)
      · refine v_iconst (v := nI 0) (dk cd_Mo_handset 14 rfl) (by decide) ?_
        refine v_mput (k := 0) (n := 0) (dk cd_Mo_handset 15 rfl) fp_Mo_137_Mo (fun h => by cases h) hM (by decide) (fun A hM => ?_)
        refine v_aload_n (dk cd_Mo_handset 16 rfl) rfl ?_
        refine v_mgi (n := 0) (dk cd_Mo_handset 17 rfl) fg_Mo_137_Mo hM rfl (up1_same _ _ _) ?_
        refine v_if_le (tgt := 39) (dk cd_Mo_handset 18 rfl) rfl (fun _ => ?_) (fun q => absurd (by decide) q)
        refine v_aload_n (dk cd_Mo_handset 21 rfl) rfl ?_
        refine v_getf (dk cd_Mo_handset 22 rfl) fg_Mo_98_Mo hM.2.2.1 (by rfl) ?_
        refine v_aload_n (dk cd_Mo_handset 23 rfl) rfl ?_
        refine v_mgi (n := 6) (dk cd_Mo_handset 24 rfl) fg_Mo_248_Mo hM rfl R.nh ?_
        refine v_iload_n (dk cd_Mo_handset 25 rfl) rfl ?_
        refine v_mst (j := 29) (dk cd_Mo_handset 26 rfl) hM (by decide) (by decide) (show _ < 3 by omega) (by decide) (fun A hM => ?_)
        refine v_aload_n (dk cd_Mo_handset 27 rfl) rfl ?_
        refine v_getf (dk cd_Mo_handset 28 rfl) fg_Mo_107_Mo hM.2.2.1 (by rfl) ?_
        refine v_aload_n (dk cd_Mo_handset 29 rfl) rfl ?_
        refine v_mgi (n := 6) (dk cd_Mo_handset 30 rfl) fg_Mo_248_Mo hM rfl R.nh ?_
        refine v_iconst (v := -1) (dk cd_Mo_handset 31 rfl) (by decide) ?_
        refine v_mst (j := 32) (dk cd_Mo_handset 32 rfl) hM (by decide) (by decide) (show _ < 3 by omega) (by decide) (fun A hM => ?_)
        refine v_aload_n (dk cd_Mo_handset 33 rfl) rfl ?_
        refine v_dup (dk cd_Mo_handset 34 rfl) rfl ?_
        refine v_mgi (n := 6) (dk cd_Mo_handset 35 rfl) fg_Mo_248_Mo hM rfl R.nh ?_
        refine v_iconst (v := nI 1) (dk cd_Mo_handset 36 rfl) (by decide) ?_
        refine v_iaddN (dk cd_Mo_handset 37 rfl) ?_
        refine v_mput (k := 35) (n := 6) (dk cd_Mo_handset 38 rfl) fp_Mo_248_Mo (fun h => by cases h) hM (by decide) (fun A hM => ?_)
        refine v_aload_n (dk cd_Mo_handset 39 rfl) rfl ?_
        refine v_mgi (n := 6) (dk cd_Mo_handset 40 rfl) fg_Mo_248_Mo hM rfl (up1_same _ _ _) ?_
        refine v_iconst (v := nI 1) (dk cd_Mo_handset 41 rfl) (by decide) ?_
        refine v_isubN (dk cd_Mo_handset 42 rfl) (by omega) ?_
        exact v_iret (dk cd_Mo_handset 43 rfl) rfl (pmV hM ((R.thr _).handset K (by omega)) rfl (by simp [spHandset, q2, q7, q19]))
      · refine v_iconst (v := nI 2) (dk cd_Mo_handset 12 rfl) (by decide) ?_
        refine v_goto (tgt := 27) (dk cd_Mo_handset 13 rfl) rfl ?_
        refine v_mput (k := 0) (n := 0) (dk cd_Mo_handset 15 rfl) fp_Mo_137_Mo (fun h => by cases h) hM (by decide) (fun A hM => ?_)
        refine v_aload_n (dk cd_Mo_handset 16 rfl) rfl ?_
        refine v_mgi (n := 0) (dk cd_Mo_handset 17 rfl) fg_Mo_137_Mo hM rfl (up1_same _ _ _) ?_
        refine v_if_le (tgt := 39) (dk cd_Mo_handset 18 rfl) rfl (fun q => absurd q (by decide)) (fun _ => ?_)
        refine v_iconst (v := nI 0) (dk cd_Mo_handset 19 rfl) (by decide) ?_
        exact v_iret (dk cd_Mo_handset 20 rfl) rfl (pmX hM (R.thr _) (by simp [spHandset, q2, q7, q19] : _ = (S, Sum.inr 1)) rfl)
    · refine v_iconst (v := nI 1) (dk cd_Mo_handset 6 rfl) (by decide) ?_
      refine v_goto (tgt := 27) (dk cd_Mo_handset 7 rfl) rfl ?_
      refine v_mput (k := 0) (n := 0) (dk cd_Mo_handset 15 rfl) fp_Mo_137_Mo (fun h => by cases h) hM (by decide) (fun A hM => ?_)
      refine v_aload_n (dk cd_Mo_handset 16 rfl) rfl ?_
      refine v_mgi (n := 0) (dk cd_Mo_handset 17 rfl) fg_Mo_137_Mo hM rfl (up1_same _ _ _) ?_
      refine v_if_le (tgt := 39) (dk cd_Mo_handset 18 rfl) rfl (fun q => absurd q (by decide)) (fun _ => ?_)
      refine v_iconst (v := nI 0) (dk cd_Mo_handset 19 rfl) (by decide) ?_
      exact v_iret (dk cd_Mo_handset 20 rfl) rfl (pmX hM (R.thr _) (by simp [spHandset, q2, q7] : _ = (S, Sum.inr 0)) rfl)
set_option maxRecDepth 100000 in
set_option maxHeartbeats 4000000 in
theorem Mo_likes_ok {x y : Int32} (hM : MH B a i f A) (R : Rel S t i f) (K : SOK S) : V (gg u) (d + 1) mm_Mo_likes 0 [some (.ref a), some (.int x), some (.int y)] [] A (PM (xc [2, 3, 0, 1]) B a (spLikes S x y)) := by
  have w1 := K.wf.2.1
  have w2 := K.wf.2.2.1
  have w3 := K.wf.2.2.2.1
  have w4 := K.wf.2.2.2.2.1
  refine v_aload_n (dk cd_Mo_likes 0 rfl) rfl ?_
  refine v_aload_n (dk cd_Mo_likes 1 rfl) rfl ?_
  refine v_iload_n (dk cd_Mo_likes 2 rfl) rfl ?_
  refine v_rv (r := ("AreaWarningsModel", TT_Mo, 49)) (dk cd_Mo_likes 3 rfl) cv_Mo_257 rfl hM.2.2.1 (as := [_]) rfl rfl (Nat.le_of_ble_eq_true rfl) (by simp [Value.category]) (Mo_isHandset_ok hM R.nh) ?_
  refine v_ifneB (tgt := 13) (dk cd_Mo_likes 4 rfl) rfl (fun q6 => ?_) (fun q6 => ?_)
  · refine v_iload_n (dk cd_Mo_likes 7 rfl) rfl ?_
    refine v_if_lt (tgt := 22) (dk cd_Mo_likes 8 rfl) rfl (fun q14 => ?_) (fun q14 => ?_)
    · refine v_iconst (v := nI 2) (dk cd_Mo_likes 12 rfl) (by decide) ?_
      refine v_goto (tgt := 41) (dk cd_Mo_likes 13 rfl) rfl ?_
      refine v_mput (k := 0) (n := 0) (dk cd_Mo_likes 23 rfl) fp_Mo_137_Mo (fun h => by cases h) hM (by decide) (fun A hM => ?_)
      refine v_aload_n (dk cd_Mo_likes 24 rfl) rfl ?_
      refine v_mgi (n := 0) (dk cd_Mo_likes 25 rfl) fg_Mo_137_Mo hM rfl (up1_same _ _ _) ?_
      refine v_if_le (tgt := 53) (dk cd_Mo_likes 26 rfl) rfl (fun q => absurd q (by decide)) (fun _ => ?_)
      refine v_iconst (v := nI 0) (dk cd_Mo_likes 27 rfl) (by decide) ?_
      exact v_iret (dk cd_Mo_likes 28 rfl) rfl (pmX hM (R.thr _) (by simp [spLikes, pLa, ← i32_gt2, ← i32_le2, q6, q14] : _ = (S, Sum.inr 0)) rfl)
    · refine v_iload_n (dk cd_Mo_likes 9 rfl) rfl ?_
      refine v_iconst (v := 2) (dk cd_Mo_likes 10 rfl) (by decide) ?_
      refine v_icmp_le (tgt := 26) (dk cd_Mo_likes 11 rfl) rfl (fun q19 => ?_) (fun q19 => ?_)
      · obtain ⟨k, hk, rfl, hc⟩ := hAt_get K q6
        have hcl : (nI k).toNatClampNeg = k := nI_clamp (by omega)
        have hl3 := (K.hk _ _ hc).1.1
        refine v_aload_n (dk cd_Mo_likes 14 rfl) rfl ?_
        refine v_getf (dk cd_Mo_likes 15 rfl) fg_Mo_101_Mo hM.2.2.1 (by rfl) ?_
        refine v_iload_n (dk cd_Mo_likes 16 rfl) rfl ?_
        refine v_mldE (j := 30) (dk cd_Mo_likes 17 rfl) hM (by decide) (by decide) (show _ < 3 by omega) (by decide) (R.hs _ _ hc).2.1 ?_
        refine v_iconst (v := nI 3) (dk cd_Mo_likes 18 rfl) (by decide) ?_
        refine v_icmp_neN (tgt := 40) (dk cd_Mo_likes 19 rfl) rfl (by omega) (by omega) (fun q33 => ?_) (fun q33 => ?_)
        · refine v_iconst (v := nI 0) (dk cd_Mo_likes 22 rfl) (by decide) ?_
          refine v_mput (k := 0) (n := 0) (dk cd_Mo_likes 23 rfl) fp_Mo_137_Mo (fun h => by cases h) hM (by decide) (fun A hM => ?_)
          refine v_aload_n (dk cd_Mo_likes 24 rfl) rfl ?_
          refine v_mgi (n := 0) (dk cd_Mo_likes 25 rfl) fg_Mo_137_Mo hM rfl (up1_same _ _ _) ?_
          refine v_if_le (tgt := 53) (dk cd_Mo_likes 26 rfl) rfl (fun _ => ?_) (fun q => absurd (by decide) q)
          refine v_aload_n (dk cd_Mo_likes 29 rfl) rfl ?_
          refine v_getf (dk cd_Mo_likes 30 rfl) fg_Mo_104_Mo hM.2.2.1 (by rfl) ?_
          refine v_iconst (v := nI 3) (dk cd_Mo_likes 31 rfl) (by decide) ?_
          refine v_iload_n (dk cd_Mo_likes 32 rfl) rfl ?_
          refine v_imulN (dk cd_Mo_likes 33 rfl) ?_
          refine v_aload_n (dk cd_Mo_likes 34 rfl) rfl ?_
          refine v_getf (dk cd_Mo_likes 35 rfl) fg_Mo_101_Mo hM.2.2.1 (by rfl) ?_
          refine v_iload_n (dk cd_Mo_likes 36 rfl) rfl ?_
          refine v_mldE (j := 30) (dk cd_Mo_likes 37 rfl) hM (by decide) (by decide) (show _ < 3 by omega) (by decide) (R.hs _ _ hc).2.1 ?_
          refine v_iaddN (dk cd_Mo_likes 38 rfl) ?_
          refine v_iload_n (dk cd_Mo_likes 39 rfl) rfl ?_
          refine v_mst (j := 31) (dk cd_Mo_likes 40 rfl) hM (by decide) (by decide) (show _ < 9 by omega) (by decide) (fun A hM => ?_)
          refine v_aload_n (dk cd_Mo_likes 41 rfl) rfl ?_
          refine v_getf (dk cd_Mo_likes 42 rfl) fg_Mo_101_Mo hM.2.2.1 (by rfl) ?_
          refine v_iload_n (dk cd_Mo_likes 43 rfl) rfl ?_
          refine v_dup2 (dk cd_Mo_likes 44 rfl) rfl rfl ?_
          refine v_mldE (j := 30) (dk cd_Mo_likes 45 rfl) hM (by decide) (by decide) (show _ < 3 by omega) (by decide) (up2_thru (by omega) (R.hs _ _ hc).2.1) ?_
          refine v_iconst (v := nI 1) (dk cd_Mo_likes 46 rfl) (by decide) ?_
          refine v_iaddN (dk cd_Mo_likes 47 rfl) ?_
          refine v_mst (j := 30) (dk cd_Mo_likes 48 rfl) hM (by decide) (by decide) (show _ < 3 by omega) (by decide) (fun A hM => ?_)
          refine v_aload_n (dk cd_Mo_likes 49 rfl) rfl ?_
          refine v_getf (dk cd_Mo_likes 50 rfl) fg_Mo_101_Mo hM.2.2.1 (by rfl) ?_
          refine v_iload_n (dk cd_Mo_likes 51 rfl) rfl ?_
          refine v_mldE (j := 30) (dk cd_Mo_likes 52 rfl) hM (by decide) (by decide) (show _ < 3 by omega) (by decide) up2_on ?_
          exact v_iret (dk cd_Mo_likes 53 rfl) rfl (pmV hM ((R.thr _).likes K.lok hc (by omega)) rfl (by simp [spLikes, hcl, pLa, i32_lt3, q6, q14, q19, q33]))
        · refine v_iconst (v := nI 3) (dk cd_Mo_likes 20 rfl) (by decide) ?_
          refine v_goto (tgt := 41) (dk cd_Mo_likes 21 rfl) rfl ?_
          refine v_mput (k := 0) (n := 0) (dk cd_Mo_likes 23 rfl) fp_Mo_137_Mo (fun h => by cases h) hM (by decide) (fun A hM => ?_)
          refine v_aload_n (dk cd_Mo_likes 24 rfl) rfl ?_
          refine v_mgi (n := 0) (dk cd_Mo_likes 25 rfl) fg_Mo_137_Mo hM rfl (up1_same _ _ _) ?_
          refine v_if_le (tgt := 53) (dk cd_Mo_likes 26 rfl) rfl (fun q => absurd q (by decide)) (fun _ => ?_)
          refine v_iconst (v := nI 0) (dk cd_Mo_likes 27 rfl) (by decide) ?_
          exact v_iret (dk cd_Mo_likes 28 rfl) rfl (pmX hM (R.thr _) (by simp [spLikes, pLa, i32_lt3, q6, q14, q19, q33] : _ = (S, Sum.inr 1)) rfl)
      · refine v_iconst (v := nI 2) (dk cd_Mo_likes 12 rfl) (by decide) ?_
        refine v_goto (tgt := 41) (dk cd_Mo_likes 13 rfl) rfl ?_
        refine v_mput (k := 0) (n := 0) (dk cd_Mo_likes 23 rfl) fp_Mo_137_Mo (fun h => by cases h) hM (by decide) (fun A hM => ?_)
        refine v_aload_n (dk cd_Mo_likes 24 rfl) rfl ?_
        refine v_mgi (n := 0) (dk cd_Mo_likes 25 rfl) fg_Mo_137_Mo hM rfl (up1_same _ _ _) ?_
        refine v_if_le (tgt := 53) (dk cd_Mo_likes 26 rfl) rfl (fun q => absurd q (by decide)) (fun _ => ?_)
        refine v_iconst (v := nI 0) (dk cd_Mo_likes 27 rfl) (by decide) ?_
        exact v_iret (dk cd_Mo_likes 28 rfl) rfl (pmX hM (R.thr _) (by simp [spLikes, pLa, ← i32_gt2, ← i32_le2, q6, q14, q19] : _ = (S, Sum.inr 0)) rfl)
  · refine v_iconst (v := nI 1) (dk cd_Mo_likes 5 rfl) (by decide) ?_
    refine v_goto (tgt := 41) (dk cd_Mo_likes 6 rfl) rfl ?_
    refine v_mput (k := 0) (n := 0) (dk cd_Mo_likes 23 rfl) fp_Mo_137_Mo (fun h => by cases h) hM (by decide) (fun A hM => ?_)
    refine v_aload_n (dk cd_Mo_likes 24 rfl) rfl ?_
    refine v_mgi (n := 0) (dk cd_Mo_likes 25 rfl) fg_Mo_137_Mo hM rfl (up1_same _ _ _) ?_
    refine v_if_le (tgt := 53) (dk cd_Mo_likes 26 rfl) rfl (fun q => absurd q (by decide)) (fun _ => ?_)
    refine v_iconst (v := nI 0) (dk cd_Mo_likes 27 rfl) (by decide) ?_
    exact v_iret (dk cd_Mo_likes 28 rfl) rfl (pmX hM (R.thr _) (by simp [spLikes, q6] : _ = (S, Sum.inr 3)) rfl)
set_option maxRecDepth 100000 in
set_option maxHeartbeats 4000000 in
theorem Mo_camp_ok {x y : Int32} (hM : MH B a i f A) (R : Rel S t i f) (K : SOK S) : V (gg u) (d + 1) mm_Mo_camp 0 [some (.ref a), some (.int x), some (.int y), none] [] A (PM (xc [0, 0, 0, 1]) B a (spCamp S x y)) := by
  have w1 := K.wf.2.1
  have w2 := K.wf.2.2.1
  have w3 := K.wf.2.2.2.1
  have w4 := K.wf.2.2.2.2.1
  refine v_aload_n (dk cd_Mo_camp 0 rfl) rfl ?_
  refine v_aload_n (dk cd_Mo_camp 1 rfl) rfl ?_
  refine v_iload_n (dk cd_Mo_camp 2 rfl) rfl ?_
  refine v_rv (r := ("AreaWarningsModel", TT_Mo, 49)) (dk cd_Mo_camp 3 rfl) cv_Mo_257 rfl hM.2.2.1 (as := [_]) rfl rfl (Nat.le_of_ble_eq_true rfl) (by simp [Value.category]) (Mo_isHandset_ok hM R.nh) ?_
  refine v_ifeqB (tgt := 22) (dk cd_Mo_camp 4 rfl) rfl (fun q6 => ?_) (fun q6 => ?_)
  · refine v_iconst (v := nI 1) (dk cd_Mo_camp 12 rfl) (by decide) ?_
    refine v_goto (tgt := 27) (dk cd_Mo_camp 13 rfl) rfl ?_
    refine v_mput (k := 0) (n := 0) (dk cd_Mo_camp 15 rfl) fp_Mo_137_Mo (fun h => by cases h) hM (by decide) (fun A hM => ?_)
    refine v_aload_n (dk cd_Mo_camp 16 rfl) rfl ?_
    refine v_mgi (n := 0) (dk cd_Mo_camp 17 rfl) fg_Mo_137_Mo hM rfl (up1_same _ _ _) ?_
    refine v_if_le (tgt := 39) (dk cd_Mo_camp 18 rfl) rfl (fun q => absurd q (by decide)) (fun _ => ?_)
    refine v_iconst (v := nI 0) (dk cd_Mo_camp 19 rfl) (by decide) ?_
    exact v_iret (dk cd_Mo_camp 20 rfl) rfl (pmX hM (R.thr _) (by simp [spCamp, q6] : _ = (S, Sum.inr 3)) rfl)
  · refine v_iload_n (dk cd_Mo_camp 5 rfl) rfl ?_
    refine v_iconst (v := -1) (dk cd_Mo_camp 6 rfl) (by decide) ?_
    refine v_icmp_eq (tgt := 26) (dk cd_Mo_camp 7 rfl) rfl (fun q11 => ?_) (fun q11 => ?_)
    · refine v_iconst (v := nI 0) (dk cd_Mo_camp 14 rfl) (by decide) ?_
      refine v_mput (k := 0) (n := 0) (dk cd_Mo_camp 15 rfl) fp_Mo_137_Mo (fun h => by cases h) hM (by decide) (fun A hM => ?_)
      refine v_aload_n (dk cd_Mo_camp 16 rfl) rfl ?_
      refine v_mgi (n := 0) (dk cd_Mo_camp 17 rfl) fg_Mo_137_Mo hM rfl (up1_same _ _ _) ?_
      refine v_if_le (tgt := 39) (dk cd_Mo_camp 18 rfl) rfl (fun _ => ?_) (fun q => absurd (by decide) q)
      obtain ⟨k, hk, rfl, hc⟩ := hAt_get K q6
      have hcl : (nI k).toNatClampNeg = k := nI_clamp (by omega)
      have hl3 := (K.hk _ _ hc).1.1
      refine v_aload_n (dk cd_Mo_camp 21 rfl) rfl ?_
      refine v_getf (dk cd_Mo_camp 22 rfl) fg_Mo_107_Mo hM.2.2.1 (by rfl) ?_
      refine v_iload_n (dk cd_Mo_camp 23 rfl) rfl ?_
      refine v_mldE (j := 32) (dk cd_Mo_camp 24 rfl) hM (by decide) (by decide) (show _ < 3 by omega) (by decide) (R.hs _ _ hc).2.2.2.1 ?_
      refine v_istore_n (dk cd_Mo_camp 25 rfl) (by decide) rfl ?_
      refine v_aload_n (dk cd_Mo_camp 26 rfl) rfl ?_
      refine v_getf (dk cd_Mo_camp 27 rfl) fg_Mo_107_Mo hM.2.2.1 (by rfl) ?_
      refine v_iload_n (dk cd_Mo_camp 28 rfl) rfl ?_
      refine v_iload_n (dk cd_Mo_camp 29 rfl) rfl ?_
      refine v_mst (j := 32) (dk cd_Mo_camp 30 rfl) hM (by decide) (by decide) (show _ < 3 by omega) (by decide) (fun A hM => ?_)
      refine v_iload_n (dk cd_Mo_camp 31 rfl) rfl ?_
      exact v_iret (dk cd_Mo_camp 32 rfl) rfl (pmV hM ((R.thr _).camp K.lok hc) rfl (by simp [spCamp, hcl, q6, q11]))
    · refine v_aload_n (dk cd_Mo_camp 8 rfl) rfl ?_
      refine v_iload_n (dk cd_Mo_camp 9 rfl) rfl ?_
      refine v_rv (r := ("AreaWarningsModel", TT_Mo, 49)) (dk cd_Mo_camp 10 rfl) cv_Mo_254 rfl hM.2.2.1 (as := [_]) rfl rfl (Nat.le_of_ble_eq_true rfl) (by simp [Value.category]) (Mo_isCell_ok hM R.nc) ?_
      refine v_ifneB (tgt := 26) (dk cd_Mo_camp 11 rfl) rfl (fun q19 => ?_) (fun q19 => ?_)
      · refine v_iconst (v := nI 0) (dk cd_Mo_camp 14 rfl) (by decide) ?_
        refine v_mput (k := 0) (n := 0) (dk cd_Mo_camp 15 rfl) fp_Mo_137_Mo (fun h => by cases h) hM (by decide) (fun A hM => ?_)
        refine v_aload_n (dk cd_Mo_camp 16 rfl) rfl ?_
        refine v_mgi (n := 0) (dk cd_Mo_camp 17 rfl) fg_Mo_137_Mo hM rfl (up1_same _ _ _) ?_
        refine v_if_le (tgt := 39) (dk cd_Mo_camp 18 rfl) rfl (fun _ => ?_) (fun q => absurd (by decide) q)
        obtain ⟨k, hk, rfl, hc⟩ := hAt_get K q6
        have hcl : (nI k).toNatClampNeg = k := nI_clamp (by omega)
        have hl3 := (K.hk _ _ hc).1.1
        refine v_aload_n (dk cd_Mo_camp 21 rfl) rfl ?_
        refine v_getf (dk cd_Mo_camp 22 rfl) fg_Mo_107_Mo hM.2.2.1 (by rfl) ?_
        refine v_iload_n (dk cd_Mo_camp 23 rfl) rfl ?_
        refine v_mldE (j := 32) (dk cd_Mo_camp 24 rfl) hM (by decide) (by decide) (show _ < 3 by omega) (by decide) (R.hs _ _ hc).2.2.2.1 ?_
        refine v_istore_n (dk cd_Mo_camp 25 rfl) (by decide) rfl ?_
        refine v_aload_n (dk cd_Mo_camp 26 rfl) rfl ?_
        refine v_getf (dk cd_Mo_camp 27 rfl) fg_Mo_107_Mo hM.2.2.1 (by rfl) ?_
        refine v_iload_n (dk cd_Mo_camp 28 rfl) rfl ?_
        refine v_iload_n (dk cd_Mo_camp 29 rfl) rfl ?_
        refine v_mst (j := 32) (dk cd_Mo_camp 30 rfl) hM (by decide) (by decide) (show _ < 3 by omega) (by decide) (fun A hM => ?_)
        refine v_iload_n (dk cd_Mo_camp 31 rfl) rfl ?_
        exact v_iret (dk cd_Mo_camp 32 rfl) rfl (pmV hM ((R.thr _).camp K.lok hc) rfl (by simp [spCamp, hcl, q6, q11, q19]))
      · refine v_iconst (v := nI 1) (dk cd_Mo_camp 12 rfl) (by decide) ?_
        refine v_goto (tgt := 27) (dk cd_Mo_camp 13 rfl) rfl ?_
        refine v_mput (k := 0) (n := 0) (dk cd_Mo_camp 15 rfl) fp_Mo_137_Mo (fun h => by cases h) hM (by decide) (fun A hM => ?_)
        refine v_aload_n (dk cd_Mo_camp 16 rfl) rfl ?_
        refine v_mgi (n := 0) (dk cd_Mo_camp 17 rfl) fg_Mo_137_Mo hM rfl (up1_same _ _ _) ?_
        refine v_if_le (tgt := 39) (dk cd_Mo_camp 18 rfl) rfl (fun q => absurd q (by decide)) (fun _ => ?_)
        refine v_iconst (v := nI 0) (dk cd_Mo_camp 19 rfl) (by decide) ?_
        exact v_iret (dk cd_Mo_camp 20 rfl) rfl (pmX hM (R.thr _) (by simp [spCamp, q6, q11, q19] : _ = (S, Sum.inr 3)) rfl)
set_option maxRecDepth 100000 in
set_option maxHeartbeats 4000000 in
theorem Mo_miss_ok {x y : Int32} (hM : MH B a i f A) (R : Rel S t i f) (K : SOK S) : V (gg u) (d + 1) mm_Mo_miss 0 [some (.ref a), some (.int x), some (.int y)] [] A (PM (xc [2, 0, 0, 1]) B a (spMiss S x y)) := by
  have w1 := K.wf.2.1
  have w2 := K.wf.2.2.1
  have w3 := K.wf.2.2.2.1
  have w4 := K.wf.2.2.2.2.1
  refine v_aload_n (dk cd_Mo_miss 0 rfl) rfl ?_
  refine v_aload_n (dk cd_Mo_miss 1 rfl) rfl ?_
  refine v_iload_n (dk cd_Mo_miss 2 rfl) rfl ?_
  refine v_rv (r := ("AreaWarningsModel", TT_Mo, 49)) (dk cd_Mo_miss 3 rfl) cv_Mo_257 rfl hM.2.2.1 (as := [_]) rfl rfl (Nat.le_of_ble_eq_true rfl) (by simp [Value.category]) (Mo_isHandset_ok hM R.nh) ?_
  refine v_ifneB (tgt := 13) (dk cd_Mo_miss 4 rfl) rfl (fun q6 => ?_) (fun q6 => ?_)
  · refine v_iload_n (dk cd_Mo_miss 7 rfl) rfl ?_
    refine v_if_lt (tgt := 24) (dk cd_Mo_miss 8 rfl) rfl (fun q14 => ?_) (fun q14 => ?_)
    · refine v_iconst (v := nI 2) (dk cd_Mo_miss 12 rfl) (by decide) ?_
      refine v_goto (tgt := 29) (dk cd_Mo_miss 13 rfl) rfl ?_
      refine v_mput (k := 0) (n := 0) (dk cd_Mo_miss 15 rfl) fp_Mo_137_Mo (fun h => by cases h) hM (by decide) (fun A hM => ?_)
      refine v_aload_n (dk cd_Mo_miss 16 rfl) rfl ?_
      refine v_mgi (n := 0) (dk cd_Mo_miss 17 rfl) fg_Mo_137_Mo hM rfl (up1_same _ _ _) ?_
      refine v_if_le (tgt := 41) (dk cd_Mo_miss 18 rfl) rfl (fun q => absurd q (by decide)) (fun _ => ?_)
      refine v_iconst (v := nI 0) (dk cd_Mo_miss 19 rfl) (by decide) ?_
      exact v_iret (dk cd_Mo_miss 20 rfl) rfl (pmX hM (R.thr _) (by simp [spMiss, q6, q14] : _ = (S, Sum.inr 0)) rfl)
    · refine v_iload_n (dk cd_Mo_miss 9 rfl) rfl ?_
      refine v_sipush (v := 1000) (dk cd_Mo_miss 10 rfl) (by decide) ?_
      refine v_icmp_le (tgt := 28) (dk cd_Mo_miss 11 rfl) rfl (fun q21 => ?_) (fun q21 => ?_)
      · refine v_iconst (v := nI 0) (dk cd_Mo_miss 14 rfl) (by decide) ?_
        refine v_mput (k := 0) (n := 0) (dk cd_Mo_miss 15 rfl) fp_Mo_137_Mo (fun h => by cases h) hM (by decide) (fun A hM => ?_)
        refine v_aload_n (dk cd_Mo_miss 16 rfl) rfl ?_
        refine v_mgi (n := 0) (dk cd_Mo_miss 17 rfl) fg_Mo_137_Mo hM rfl (up1_same _ _ _) ?_
        refine v_if_le (tgt := 41) (dk cd_Mo_miss 18 rfl) rfl (fun _ => ?_) (fun q => absurd (by decide) q)
        obtain ⟨k, hk, rfl, hc⟩ := hAt_get K q6
        have hcl : (nI k).toNatClampNeg = k := nI_clamp (by omega)
        have hl3 := (K.hk _ _ hc).1.1
        refine v_aload_n (dk cd_Mo_miss 21 rfl) rfl ?_
        refine v_getf (dk cd_Mo_miss 22 rfl) fg_Mo_110_Mo hM.2.2.1 (by rfl) ?_
        refine v_iload_n (dk cd_Mo_miss 23 rfl) rfl ?_
        refine v_aload_n (dk cd_Mo_miss 24 rfl) rfl ?_
        refine v_getf (dk cd_Mo_miss 25 rfl) fg_Mo_110_Mo hM.2.2.1 (by rfl) ?_
        refine v_iload_n (dk cd_Mo_miss 26 rfl) rfl ?_
        refine v_mldE (j := 33) (dk cd_Mo_miss 27 rfl) hM (by decide) (by decide) (show _ < 3 by omega) (by decide) (R.hs _ _ hc).2.2.2.2.1 ?_
        refine v_iload_n (dk cd_Mo_miss 28 rfl) rfl ?_
        refine v_iadd (dk cd_Mo_miss 29 rfl) ?_
        refine v_mst (j := 33) (dk cd_Mo_miss 30 rfl) hM (by decide) (by decide) (show _ < 3 by omega) (by decide) (fun A hM => ?_)
        refine v_aload_n (dk cd_Mo_miss 31 rfl) rfl ?_
        refine v_getf (dk cd_Mo_miss 32 rfl) fg_Mo_110_Mo hM.2.2.1 (by rfl) ?_
        refine v_iload_n (dk cd_Mo_miss 33 rfl) rfl ?_
        refine v_mldE (j := 33) (dk cd_Mo_miss 34 rfl) hM (by decide) (by decide) (show _ < 3 by omega) (by decide) up2_on ?_
        exact v_iret (dk cd_Mo_miss 35 rfl) rfl (pmV hM ((R.thr _).miss K.lok hc) rfl (by simp [spMiss, hcl, hMs, q6, q14, q21]))
      · refine v_iconst (v := nI 2) (dk cd_Mo_miss 12 rfl) (by decide) ?_
        refine v_goto (tgt := 29) (dk cd_Mo_miss 13 rfl) rfl ?_
        refine v_mput (k := 0) (n := 0) (dk cd_Mo_miss 15 rfl) fp_Mo_137_Mo (fun h => by cases h) hM (by decide) (fun A hM => ?_)
        refine v_aload_n (dk cd_Mo_miss 16 rfl) rfl ?_
        refine v_mgi (n := 0) (dk cd_Mo_miss 17 rfl) fg_Mo_137_Mo hM rfl (up1_same _ _ _) ?_
        refine v_if_le (tgt := 41) (dk cd_Mo_miss 18 rfl) rfl (fun q => absurd q (by decide)) (fun _ => ?_)
        refine v_iconst (v := nI 0) (dk cd_Mo_miss 19 rfl) (by decide) ?_
        exact v_iret (dk cd_Mo_miss 20 rfl) rfl (pmX hM (R.thr _) (by simp [spMiss, q6, q14, q21] : _ = (S, Sum.inr 0)) rfl)
  · refine v_iconst (v := nI 1) (dk cd_Mo_miss 5 rfl) (by decide) ?_
    refine v_goto (tgt := 29) (dk cd_Mo_miss 6 rfl) rfl ?_
    refine v_mput (k := 0) (n := 0) (dk cd_Mo_miss 15 rfl) fp_Mo_137_Mo (fun h => by cases h) hM (by decide) (fun A hM => ?_)
    refine v_aload_n (dk cd_Mo_miss 16 rfl) rfl ?_
    refine v_mgi (n := 0) (dk cd_Mo_miss 17 rfl) fg_Mo_137_Mo hM rfl (up1_same _ _ _) ?_
    refine v_if_le (tgt := 41) (dk cd_Mo_miss 18 rfl) rfl (fun q => absurd q (by decide)) (fun _ => ?_)
    refine v_iconst (v := nI 0) (dk cd_Mo_miss 19 rfl) (by decide) ?_
    exact v_iret (dk cd_Mo_miss 20 rfl) rfl (pmX hM (R.thr _) (by simp [spMiss, q6] : _ = (S, Sum.inr 3)) rfl)
end MP
