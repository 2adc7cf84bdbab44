/-! reads of Texts, Message, Spoken; small tests of AreaWarnings -/
def pCo (x : Int32) : Bool := !decide (x < -1000) && !decide (1000 < x)
def pLa (x : Int32) : Bool := !decide (x < 0) && !decide (3 ≤ x)
def pSe (x : Int32) : Bool := !decide (x < 1) && !decide (5 < x)
def pSn (x : Int32) : Bool := !decide (x < 1) && !decide (1000 < x)
def pIx (x : Int32) (n : Nat) : Bool := !decide (x < 0) && !decide (nI n ≤ x)
theorem nI_gt0 {n : Nat} (q : ¬ nI n ≤ 0) : 0 < n := Nat.pos_of_ne_zero fun e => q (by rw [e]; decide)
section R1
variable {u : Ux} {d : Nat} {A : AH} {o : Nat} {t : Tx} {F : Nat → Option AC} {S : SS} {ad : Nat → Nat → Nat}
set_option maxRecDepth 100000 in
set_option maxHeartbeats 4000000 in
theorem AW_isCoordinate_ok {x : Int32} : V (gg u) d mm_AW_isCoordinate 0 [some (.int x)] [] A (Rt (some (.int (b2i (pCo x)))) A) := by
  refine v_iload_n (dk cd_AW_isCoordinate 0 rfl) rfl ?_
  refine v_sipush (v := -1000) (dk cd_AW_isCoordinate 1 rfl) (by decide) ?_
  refine v_icmp_lt (tgt := 18) (dk cd_AW_isCoordinate 2 rfl) rfl (fun q4 => ?_) (fun q4 => ?_)
  · refine v_iconst (v := 0) (dk cd_AW_isCoordinate 8 rfl) (by decide) ?_
    exact v_zret (dk cd_AW_isCoordinate 9 rfl) rfl rfl (rt_f (by simp [pCo, *]))
  · refine v_iload_n (dk cd_AW_isCoordinate 3 rfl) rfl ?_
    refine v_sipush (v := 1000) (dk cd_AW_isCoordinate 4 rfl) (by decide) ?_
    refine v_icmp_gt (tgt := 18) (dk cd_AW_isCoordinate 5 rfl) rfl (fun q11 => ?_) (fun q11 => ?_)
    · refine v_iconst (v := 0) (dk cd_AW_isCoordinate 8 rfl) (by decide) ?_
      exact v_zret (dk cd_AW_isCoordinate 9 rfl) rfl rfl (rt_f (by simp [pCo, *]))
    · refine v_iconst (v := 1) (dk cd_AW_isCoordinate 6 rfl) (by decide) ?_
      refine v_goto (tgt := 19) (dk cd_AW_isCoordinate 7 rfl) rfl ?_
      exact v_zret (dk cd_AW_isCoordinate 9 rfl) rfl rfl (rt_t (by simp_all [pCo]))
set_option maxRecDepth 100000 in
set_option maxHeartbeats 4000000 in
theorem AW_isLanguage_ok {x : Int32} : V (gg u) d mm_AW_isLanguage 0 [some (.int x)] [] A (Rt (some (.int (b2i (pLa x)))) A) := by
  refine v_iload_n (dk cd_AW_isLanguage 0 rfl) rfl ?_
  refine v_if_lt (tgt := 13) (dk cd_AW_isLanguage 1 rfl) rfl (fun q1 => ?_) (fun q1 => ?_)
  · refine v_iconst (v := 0) (dk cd_AW_isLanguage 7 rfl) (by decide) ?_
    exact v_zret (dk cd_AW_isLanguage 8 rfl) rfl rfl (rt_f (by simp [pLa, *]))
  · refine v_iload_n (dk cd_AW_isLanguage 2 rfl) rfl ?_
    refine v_iconst (v := 3) (dk cd_AW_isLanguage 3 rfl) (by decide) ?_
    refine v_icmp_ge (tgt := 13) (dk cd_AW_isLanguage 4 rfl) rfl (fun q6 => ?_) (fun q6 => ?_)
    · refine v_iconst (v := 0) (dk cd_AW_isLanguage 7 rfl) (by decide) ?_
      exact v_zret (dk cd_AW_isLanguage 8 rfl) rfl rfl (rt_f (by simp [pLa, *]))
    · refine v_iconst (v := 1) (dk cd_AW_isLanguage 5 rfl) (by decide) ?_
      refine v_goto (tgt := 14) (dk cd_AW_isLanguage 6 rfl) rfl ?_
      exact v_zret (dk cd_AW_isLanguage 8 rfl) rfl rfl (rt_t (by simp_all [pLa]))
set_option maxRecDepth 100000 in
set_option maxHeartbeats 4000000 in
theorem AW_isSeverity_ok {x : Int32} : V (gg u) d mm_AW_isSeverity 0 [some (.int x)] [] A (Rt (some (.int (b2i (pSe x)))) A) := by
  refine v_iload_n (dk cd_AW_isSeverity 0 rfl) rfl ?_
  refine v_iconst (v := 1) (dk cd_AW_isSeverity 1 rfl) (by decide) ?_
  refine v_icmp_lt (tgt := 14) (dk cd_AW_isSeverity 2 rfl) rfl (fun q2 => ?_) (fun q2 => ?_)
  · refine v_iconst (v := 0) (dk cd_AW_isSeverity 8 rfl) (by decide) ?_
    exact v_zret (dk cd_AW_isSeverity 9 rfl) rfl rfl (rt_f (by simp [pSe, *]))
  · refine v_iload_n (dk cd_AW_isSeverity 3 rfl) rfl ?_
    refine v_iconst (v := 5) (dk cd_AW_isSeverity 4 rfl) (by decide) ?_
    refine v_icmp_gt (tgt := 14) (dk cd_AW_isSeverity 5 rfl) rfl (fun q7 => ?_) (fun q7 => ?_)
    · refine v_iconst (v := 0) (dk cd_AW_isSeverity 8 rfl) (by decide) ?_
      exact v_zret (dk cd_AW_isSeverity 9 rfl) rfl rfl (rt_f (by simp [pSe, *]))
    · refine v_iconst (v := 1) (dk cd_AW_isSeverity 6 rfl) (by decide) ?_
      refine v_goto (tgt := 15) (dk cd_AW_isSeverity 7 rfl) rfl ?_
      exact v_zret (dk cd_AW_isSeverity 9 rfl) rfl rfl (rt_t (by simp_all [pSe]))
set_option maxRecDepth 100000 in
set_option maxHeartbeats 4000000 in
theorem AW_isSpan_ok {x : Int32} : V (gg u) d mm_AW_isSpan 0 [some (.int x)] [] A (Rt (some (.int (b2i (pSn x)))) A) := by
  refine v_iload_n (dk cd_AW_isSpan 0 rfl) rfl ?_
  refine v_iconst (v := 1) (dk cd_AW_isSpan 1 rfl) (by decide) ?_
  refine v_icmp_lt (tgt := 16) (dk cd_AW_isSpan 2 rfl) rfl (fun q2 => ?_) (fun q2 => ?_)
  · refine v_iconst (v := 0) (dk cd_AW_isSpan 8 rfl) (by decide) ?_
    exact v_zret (dk cd_AW_isSpan 9 rfl) rfl rfl (rt_f (by simp [pSn, *]))
  · refine v_iload_n (dk cd_AW_isSpan 3 rfl) rfl ?_
    refine v_sipush (v := 1000) (dk cd_AW_isSpan 4 rfl) (by decide) ?_
    refine v_icmp_gt (tgt := 16) (dk cd_AW_isSpan 5 rfl) rfl (fun q9 => ?_) (fun q9 => ?_)
    · refine v_iconst (v := 0) (dk cd_AW_isSpan 8 rfl) (by decide) ?_
      exact v_zret (dk cd_AW_isSpan 9 rfl) rfl rfl (rt_f (by simp [pSn, *]))
    · refine v_iconst (v := 1) (dk cd_AW_isSpan 6 rfl) (by decide) ?_
      refine v_goto (tgt := 17) (dk cd_AW_isSpan 7 rfl) rfl ?_
      exact v_zret (dk cd_AW_isSpan 9 rfl) rfl rfl (rt_t (by simp_all [pSn]))
set_option maxRecDepth 100000 in
set_option maxHeartbeats 4000000 in
theorem AW_isCell_ok {x : Int32} (I : Inv F S ad A) : V (gg u) d mm_AW_isCell 0 [some (.ref (ad 0 0)), some (.int x)] [] A (Rt (some (.int (b2i (pIx x (sCells S).length)))) A) := by
  have h0 := I.aw
  refine v_iload_n (dk cd_AW_isCell 0 rfl) rfl ?_
  refine v_if_lt (tgt := 16) (dk cd_AW_isCell 1 rfl) rfl (fun q1 => ?_) (fun q1 => ?_)
  · refine v_iconst (v := 0) (dk cd_AW_isCell 8 rfl) (by decide) ?_
    exact v_zret (dk cd_AW_isCell 9 rfl) rfl rfl (rt_f (by simp [pIx, *]))
  · refine v_iload_n (dk cd_AW_isCell 2 rfl) rfl ?_
    refine v_aload_n (dk cd_AW_isCell 3 rfl) rfl ?_
    refine v_getf (dk cd_AW_isCell 4 rfl) fg_AW_19_AW (by assumption) (by rfl) ?_
    refine v_icmp_ge (tgt := 16) (dk cd_AW_isCell 5 rfl) rfl (fun q9 => ?_) (fun q9 => ?_)
    · refine v_iconst (v := 0) (dk cd_AW_isCell 8 rfl) (by decide) ?_
      exact v_zret (dk cd_AW_isCell 9 rfl) rfl rfl (rt_f (by simp [pIx, *]))
    · refine v_iconst (v := 1) (dk cd_AW_isCell 6 rfl) (by decide) ?_
      refine v_goto (tgt := 17) (dk cd_AW_isCell 7 rfl) rfl ?_
      exact v_zret (dk cd_AW_isCell 9 rfl) rfl rfl (rt_t (by simp_all [pIx]))
set_option maxRecDepth 100000 in
set_option maxHeartbeats 4000000 in
theorem AW_isHandset_ok {x : Int32} (I : Inv F S ad A) : V (gg u) d mm_AW_isHandset 0 [some (.ref (ad 0 0)), some (.int x)] [] A (Rt (some (.int (b2i (pIx x (sHs S).length)))) A) := by
  have h0 := I.aw
  refine v_iload_n (dk cd_AW_isHandset 0 rfl) rfl ?_
  refine v_if_lt (tgt := 16) (dk cd_AW_isHandset 1 rfl) rfl (fun q1 => ?_) (fun q1 => ?_)
  · refine v_iconst (v := 0) (dk cd_AW_isHandset 8 rfl) (by decide) ?_
    exact v_zret (dk cd_AW_isHandset 9 rfl) rfl rfl (rt_f (by simp [pIx, *]))
  · refine v_iload_n (dk cd_AW_isHandset 2 rfl) rfl ?_
    refine v_aload_n (dk cd_AW_isHandset 3 rfl) rfl ?_
    refine v_getf (dk cd_AW_isHandset 4 rfl) fg_AW_40_AW (by assumption) (by rfl) ?_
    refine v_icmp_ge (tgt := 16) (dk cd_AW_isHandset 5 rfl) rfl (fun q9 => ?_) (fun q9 => ?_)
    · refine v_iconst (v := 0) (dk cd_AW_isHandset 8 rfl) (by decide) ?_
      exact v_zret (dk cd_AW_isHandset 9 rfl) rfl rfl (rt_f (by simp [pIx, *]))
    · refine v_iconst (v := 1) (dk cd_AW_isHandset 6 rfl) (by decide) ?_
      refine v_goto (tgt := 17) (dk cd_AW_isHandset 7 rfl) rfl ?_
      exact v_zret (dk cd_AW_isHandset 9 rfl) rfl rfl (rt_t (by simp_all [pIx]))
set_option maxRecDepth 100000 in
set_option maxHeartbeats 4000000 in
theorem Te_byteCount_lp (H : TeAt A o t) : ∀ k, k ≤ 3 → V (gg u) d mm_Te_byteCount 4 [some (.ref o), some (.int (nI (tsum t k))), some (.int (nI k))] [] A (Rt (some (.int (nI (tsum t 3)))) A) := by
  refine up_ind 3 ?_
  intro k ih hk
  obtain ⟨h3, h30, ba, la, h1, h2⟩ := H
  refine v_iload_n (dk cd_Te_byteCount 4 rfl) rfl ?_
  refine v_iconst (v := nI 3) (dk cd_Te_byteCount 5 rfl) (by decide) ?_
  refine v_icmp_geN (tgt := 24) (dk cd_Te_byteCount 6 rfl) rfl (by omega) (by omega) (fun q6 => ?_) (fun q6 => ?_)
  · refine v_iload_n (dk cd_Te_byteCount 16 rfl) rfl ?_
    exact v_iret (dk cd_Te_byteCount 17 rfl) rfl (rt_of (by rw [show k = 3 by omega]))
  · refine v_iload_n (dk cd_Te_byteCount 7 rfl) rfl ?_
    refine v_aload_n (dk cd_Te_byteCount 8 rfl) rfl ?_
    refine v_getf (dk cd_Te_byteCount 9 rfl) fg_Te_16_Te (by assumption) (by rfl) ?_
    refine v_iload_n (dk cd_Te_byteCount 10 rfl) rfl ?_
    refine v_ialdN (j := 0) (dk cd_Te_byteCount 11 rfl) (by assumption) (by decide) rfl (by omega) (tl_at h3 (by omega)) ?_
    refine v_iaddN (dk cd_Te_byteCount 12 rfl) ?_
    refine v_istore_n (dk cd_Te_byteCount 13 rfl) (by decide) rfl ?_
    refine v_iincN (dk cd_Te_byteCount 14 rfl) rfl (by decide) rfl ?_
    refine v_goto (tgt := 4) (dk cd_Te_byteCount 15 rfl) rfl ?_
    exact ih q6 (by omega)
set_option maxRecDepth 100000 in
set_option maxHeartbeats 4000000 in
theorem Te_byteCount_ok (H : TeAt A o t) : V (gg u) d mm_Te_byteCount 0 [some (.ref o), none, none] [] A (Rt (some (.int (nI (tsum t 3)))) A) := by
  refine v_iconst (v := nI 0) (dk cd_Te_byteCount 0 rfl) (by decide) ?_
  refine v_istore_n (dk cd_Te_byteCount 1 rfl) (by decide) rfl ?_
  refine v_iconst (v := nI 0) (dk cd_Te_byteCount 2 rfl) (by decide) ?_
  refine v_istore_n (dk cd_Te_byteCount 3 rfl) (by decide) rfl ?_
  exact Te_byteCount_lp H 0 (by omega)
set_option maxRecDepth 100000 in
set_option maxHeartbeats 4000000 in
theorem Te_offers_ok {l : Nat} (H : TeAt A o t) (hl : l < 3) : V (gg u) d mm_Te_offers 0 [some (.ref o), some (.int (nI l))] [] A (Rt (some (.int (b2i (decide (0 < tl t l))))) A) := by
  obtain ⟨h3, h30, ba, la, h1, h2⟩ := H
  have hb := h30 l
  refine v_aload_n (dk cd_Te_offers 0 rfl) rfl ?_
  refine v_getf (dk cd_Te_offers 1 rfl) fg_Te_16_Te (by assumption) (by rfl) ?_
  refine v_iload_n (dk cd_Te_offers 2 rfl) rfl ?_
  refine v_ialdN (j := 0) (dk cd_Te_offers 3 rfl) (by assumption) (by decide) rfl (by omega) (tl_at h3 (by omega)) ?_
  refine v_if_le (tgt := 13) (dk cd_Te_offers 4 rfl) rfl (fun q6 => ?_) (fun q6 => ?_)
  · refine v_iconst (v := 0) (dk cd_Te_offers 7 rfl) (by decide) ?_
    exact v_zret (dk cd_Te_offers 8 rfl) rfl rfl (rt_f (decide_eq_false (by have := (nI_le0 (by omega)).mp q6; omega)))
  · refine v_iconst (v := 1) (dk cd_Te_offers 5 rfl) (by decide) ?_
    refine v_goto (tgt := 14) (dk cd_Te_offers 6 rfl) rfl ?_
    exact v_zret (dk cd_Te_offers 8 rfl) rfl rfl (rt_t (decide_eq_true (nI_gt0 q6)))
set_option maxRecDepth 100000 in
set_option maxHeartbeats 4000000 in
theorem Te_pagesOf_ok {l : Nat} (H : TeAt A o t) (hl : l < 3) : V (gg u) d mm_Te_pagesOf 0 [some (.ref o), some (.int (nI l))] [] A (Rt (some (.int (nI (pgs (tl t l))))) A) := by
  obtain ⟨h3, h30, ba, la, h1, h2⟩ := H
  have hb := h30 l
  refine v_aload_n (dk cd_Te_pagesOf 0 rfl) rfl ?_
  refine v_getf (dk cd_Te_pagesOf 1 rfl) fg_Te_16_Te (by assumption) (by rfl) ?_
  refine v_iload_n (dk cd_Te_pagesOf 2 rfl) rfl ?_
  refine v_ialdN (j := 0) (dk cd_Te_pagesOf 3 rfl) (by assumption) (by decide) rfl (by omega) (tl_at h3 (by omega)) ?_
  refine v_bipush (v := nI 10) (dk cd_Te_pagesOf 4 rfl) (by decide) ?_
  refine v_iaddN (dk cd_Te_pagesOf 5 rfl) ?_
  refine v_iconst (v := nI 1) (dk cd_Te_pagesOf 6 rfl) (by decide) ?_
  refine v_isubN (dk cd_Te_pagesOf 7 rfl) (by omega) ?_
  refine v_bipush (v := nI 10) (dk cd_Te_pagesOf 8 rfl) (by decide) ?_
  refine v_idivN (dk cd_Te_pagesOf 9 rfl) (by omega) (by omega) ?_
  exact v_iret (dk cd_Te_pagesOf 10 rfl) rfl rt_ret
set_option maxRecDepth 100000 in
set_option maxHeartbeats 4000000 in
theorem Te_bytesOfPage_ok {l : Nat} {n : Int32} (H : TeAt A o t) (hl : l < 3) : V (gg u) d mm_Te_bytesOfPage 0 [some (.ref o), some (.int (nI l)), some (.int n)] [] A (Rt (some (.int (mn 10 (nI (tl t l) - n * 10)))) A) := by
  obtain ⟨h3, h30, ba, la, h1, h2⟩ := H
  refine v_bipush (v := 10) (dk cd_Te_bytesOfPage 0 rfl) (by decide) ?_
  refine v_aload_n (dk cd_Te_bytesOfPage 1 rfl) rfl ?_
  refine v_getf (dk cd_Te_bytesOfPage 2 rfl) fg_Te_16_Te (by assumption) (by rfl) ?_
  refine v_iload_n (dk cd_Te_bytesOfPage 3 rfl) rfl ?_
  refine v_ialdN (j := 0) (dk cd_Te_bytesOfPage 4 rfl) (by assumption) (by decide) rfl (by omega) (tl_at h3 (by omega)) ?_
  refine v_iload_n (dk cd_Te_bytesOfPage 5 rfl) rfl ?_
  refine v_bipush (v := 10) (dk cd_Te_bytesOfPage 6 rfl) (by decide) ?_
  refine v_imul (dk cd_Te_bytesOfPage 7 rfl) ?_
  refine v_isub (dk cd_Te_bytesOfPage 8 rfl) ?_
  refine v_mmin (dk cd_Te_bytesOfPage 9 rfl) ma_Te_20 (by simp [Value.category]) ?_
  exact v_iret (dk cd_Te_bytesOfPage 10 rfl) rfl rt_ret
set_option maxRecDepth 100000 in
set_option maxHeartbeats 4000000 in
theorem Me_canBeSpoken_ok {ar te : Nat} {a : Pts} (h0 : A.1 o = some (5, [.ref ar, .ref te])) (HA : ArAt A ar a) (HT : TeAt A te t) : V (gg u) (d + 5) mm_Me_canBeSpoken 0 [some (.ref o)] [] A (Rt (some (.int (b2i (decide (0 < tsum t 3) && cSimple a)))) A) := by
  have HA0 := HA
  have HT0 := HT
  obtain ⟨h8, xa, ya, vx, vy, k1, -⟩ := HA
  obtain ⟨h3, h30, ba, la, k2, -⟩ := HT
  have hb := tsum_le h30 3
  refine v_aload_n (dk cd_Me_canBeSpoken 0 rfl) rfl ?_
  refine v_getf (dk cd_Me_canBeSpoken 1 rfl) fg_Me_19_Me (by assumption) (by rfl) ?_
  refine v_rv (r := ("AreaWarnings$Texts", TT_Te, 2)) (dk cd_Me_canBeSpoken 2 rfl) cv_Me_23 rfl (by assumption) (as := []) rfl rfl (Nat.le_of_ble_eq_true rfl) (by simp [Value.category]) (Te_byteCount_ok HT0) ?_
  refine v_if_le (tgt := 24) (dk cd_Me_canBeSpoken 3 rfl) rfl (fun q7 => ?_) (fun q7 => ?_)
  · refine v_iconst (v := 0) (dk cd_Me_canBeSpoken 10 rfl) (by decide) ?_
    exact v_zret (dk cd_Me_canBeSpoken 11 rfl) rfl rfl (rt_f (by first | rw [decide_eq_false (by have := (nI_le0 (by omega)).mp q7; omega), Bool.false_and] | rw [q17, Bool.and_false]))
  · refine v_aload_n (dk cd_Me_canBeSpoken 4 rfl) rfl ?_
    refine v_getf (dk cd_Me_canBeSpoken 5 rfl) fg_Me_10_Me (by assumption) (by rfl) ?_
    refine v_rv (r := ("AreaWarnings$Area", TT_Ar, 3)) (dk cd_Me_canBeSpoken 6 rfl) cv_Me_27 rfl (by assumption) (as := []) rfl rfl (Nat.le_of_ble_eq_true rfl) (by simp [Value.category]) (Ar_isSimple_ok HA0) ?_
    refine v_ifeqB (tgt := 24) (dk cd_Me_canBeSpoken 7 rfl) rfl (fun q17 => ?_) (fun q17 => ?_)
    · refine v_iconst (v := 0) (dk cd_Me_canBeSpoken 10 rfl) (by decide) ?_
      exact v_zret (dk cd_Me_canBeSpoken 11 rfl) rfl rfl (rt_f (by first | rw [decide_eq_false (by have := (nI_le0 (by omega)).mp q7; omega), Bool.false_and] | rw [q17, Bool.and_false]))
    · refine v_iconst (v := 1) (dk cd_Me_canBeSpoken 8 rfl) (by decide) ?_
      refine v_goto (tgt := 25) (dk cd_Me_canBeSpoken 9 rfl) rfl ?_
      exact v_zret (dk cd_Me_canBeSpoken 11 rfl) rfl rfl (rt_t (by rw [q17, decide_eq_true (nI_gt0 q7)]; rfl))
set_option maxRecDepth 100000 in
set_option maxHeartbeats 4000000 in
theorem Sp_isDue_ok {c b n : Int32} {x0 x1 x2 x3 x6 x7 x8 : Value} (h0 : A.1 o = some (6, [x0, x1, x2, x3, .int b, .int n, x6, x7, x8])) (hn : ¬ n = 0) : V (gg u) d mm_Sp_isDue 0 [some (.ref o), some (.int c)] [] A (Rt (some (.int (b2i (due c b n)))) A) := by
  refine v_iload_n (dk cd_Sp_isDue 0 rfl) rfl ?_
  refine v_aload_n (dk cd_Sp_isDue 1 rfl) rfl ?_
  refine v_getf (dk cd_Sp_isDue 2 rfl) fg_Sp_9_Sp (by assumption) (by rfl) ?_
  refine v_icmp_lt (tgt := 26) (dk cd_Sp_isDue 3 rfl) rfl (fun q5 => ?_) (fun q5 => ?_)
  · refine v_iconst (v := 0) (dk cd_Sp_isDue 14 rfl) (by decide) ?_
    exact v_zret (dk cd_Sp_isDue 15 rfl) rfl rfl (rt_f (by simp [due, *]))
  · refine v_iload_n (dk cd_Sp_isDue 4 rfl) rfl ?_
    refine v_aload_n (dk cd_Sp_isDue 5 rfl) rfl ?_
    refine v_getf (dk cd_Sp_isDue 6 rfl) fg_Sp_9_Sp (by assumption) (by rfl) ?_
    refine v_isub (dk cd_Sp_isDue 7 rfl) ?_
    refine v_aload_n (dk cd_Sp_isDue 8 rfl) rfl ?_
    refine v_getf (dk cd_Sp_isDue 9 rfl) fg_Sp_15_Sp (by assumption) (by rfl) ?_
    refine v_irem (dk cd_Sp_isDue 10 rfl) hn ?_
    refine v_if_ne (tgt := 26) (dk cd_Sp_isDue 11 rfl) rfl (fun q19 => ?_) (fun q19 => ?_)
    · refine v_iconst (v := 0) (dk cd_Sp_isDue 14 rfl) (by decide) ?_
      exact v_zret (dk cd_Sp_isDue 15 rfl) rfl rfl (rt_f (by simp [due, *]))
    · refine v_iconst (v := 1) (dk cd_Sp_isDue 12 rfl) (by decide) ?_
      refine v_goto (tgt := 27) (dk cd_Sp_isDue 13 rfl) rfl ?_
      exact v_zret (dk cd_Sp_isDue 15 rfl) rfl rfl (rt_t (by simp_all [due]))
end R1
