section AR2
variable {u : Ux} {d : Nat} {A : AH} {o : Nat} {a : Pts}
set_option maxRecDepth 100000 in
set_option maxHeartbeats 4000000 in
theorem Ar_surrounds_lp {x y : Int32} (H : ArAt A o a) : ∀ k, k ≤ a.length → V (gg u) (d + 2) mm_Ar_surrounds 5 [some (.ref o), some (.int x), some (.int y), some (.int (b2i (cInTo a x y k))), some (.int (nI k)), none, none] [] A (Rt (some (.int (b2i (cInTo a x y a.length)))) A) := by
  refine up_ind a.length ?_
  intro k ih hk
  have H0 := H
  obtain ⟨h8, xa, ya, vx, vy, h1, h2, h3, h4, h5, hX, hY⟩ := H
  refine v_iload (dk cd_Ar_surrounds 4 rfl) rfl ?_
  refine v_aload_n (dk cd_Ar_surrounds 5 rfl) rfl ?_
  refine v_getf (dk cd_Ar_surrounds 6 rfl) fg_Ar_18_Ar (by assumption) (by rfl) ?_
  refine v_icmp_geN (tgt := 120) (dk cd_Ar_surrounds 7 rfl) rfl (by omega) (by omega) (fun q11 => ?_) (fun q11 => ?_)
  · refine v_iload_n (dk cd_Ar_surrounds 65 rfl) rfl ?_
    exact v_zretB (dk cd_Ar_surrounds 66 rfl) rfl (rt_of (by rw [show k = a.length by omega]))
  · have hn := nx_lt q11
    refine v_aload_n (dk cd_Ar_surrounds 8 rfl) rfl ?_
    refine v_iload (dk cd_Ar_surrounds 9 rfl) rfl ?_
    refine v_rv (r := ("AreaWarnings$Area", TT_Ar, 3)) (dk cd_Ar_surrounds 10 rfl) cv_Ar_33 rfl (by assumption) (as := [_]) rfl rfl (Nat.le_of_ble_eq_true rfl) (by simp [Value.category]) (Ar_next_ok H0 q11) ?_
    refine v_istore (dk cd_Ar_surrounds 11 rfl) (by decide) rfl ?_
    refine v_aload_n (dk cd_Ar_surrounds 12 rfl) rfl ?_
    refine v_getf (dk cd_Ar_surrounds 13 rfl) fg_Ar_15_Ar (by assumption) (by rfl) ?_
    refine v_iload (dk cd_Ar_surrounds 14 rfl) rfl ?_
    refine v_ialdN (j := 0) (dk cd_Ar_surrounds 15 rfl) (by assumption) (by decide) rfl (by omega) (by first | exact hX _ (by omega) | exact hY _ (by omega)) ?_
    refine v_aload_n (dk cd_Ar_surrounds 16 rfl) rfl ?_
    refine v_getf (dk cd_Ar_surrounds 17 rfl) fg_Ar_15_Ar (by assumption) (by rfl) ?_
    refine v_iload (dk cd_Ar_surrounds 18 rfl) rfl ?_
    refine v_ialdN (j := 0) (dk cd_Ar_surrounds 19 rfl) (by assumption) (by decide) rfl (by omega) (by first | exact hX _ (by omega) | exact hY _ (by omega)) ?_
    refine v_mat_ile (dk cd_Ar_surrounds 20 rfl) (dk cd_Ar_surrounds 21 rfl) (dk cd_Ar_surrounds 22 rfl) (dk cd_Ar_surrounds 23 rfl) rfl rfl ?_
    refine v_istore (dk cd_Ar_surrounds 24 rfl) (by decide) rfl ?_
    refine v_aload_n (dk cd_Ar_surrounds 25 rfl) rfl ?_
    refine v_getf (dk cd_Ar_surrounds 26 rfl) fg_Ar_15_Ar (by assumption) (by rfl) ?_
    refine v_iload (dk cd_Ar_surrounds 27 rfl) rfl ?_
    refine v_ialdN (j := 0) (dk cd_Ar_surrounds 28 rfl) (by assumption) (by decide) rfl (by omega) (by first | exact hX _ (by omega) | exact hY _ (by omega)) ?_
    refine v_iload_n (dk cd_Ar_surrounds 29 rfl) rfl ?_
    refine v_mat_ile (dk cd_Ar_surrounds 30 rfl) (dk cd_Ar_surrounds 31 rfl) (dk cd_Ar_surrounds 32 rfl) (dk cd_Ar_surrounds 33 rfl) rfl rfl ?_
    refine v_aload_n (dk cd_Ar_surrounds 34 rfl) rfl ?_
    refine v_getf (dk cd_Ar_surrounds 35 rfl) fg_Ar_15_Ar (by assumption) (by rfl) ?_
    refine v_iload (dk cd_Ar_surrounds 36 rfl) rfl ?_
    refine v_ialdN (j := 0) (dk cd_Ar_surrounds 37 rfl) (by assumption) (by decide) rfl (by omega) (by first | exact hX _ (by omega) | exact hY _ (by omega)) ?_
    refine v_iload_n (dk cd_Ar_surrounds 38 rfl) rfl ?_
    refine v_mat_ile (dk cd_Ar_surrounds 39 rfl) (dk cd_Ar_surrounds 40 rfl) (dk cd_Ar_surrounds 41 rfl) (dk cd_Ar_surrounds 42 rfl) rfl rfl ?_
    refine v_icmp_eqB (tgt := 114) (dk cd_Ar_surrounds 43 rfl) rfl (fun q78 => ?_) (fun q78 => ?_)
    · refine v_iincN (dk cd_Ar_surrounds 63 rfl) rfl (by decide) rfl ?_
      refine v_goto (tgt := 5) (dk cd_Ar_surrounds 64 rfl) rfl ?_
      refine V.drop 5 (V.drop 6 ?_)
      exact (ih q11 (by omega)).eq rfl (by simp only [cInTo, cCross]; simp [*]; try rfl) rfl rfl
    · refine v_iload (dk cd_Ar_surrounds 44 rfl) rfl ?_
      refine v_aload_n (dk cd_Ar_surrounds 45 rfl) rfl ?_
      refine v_iload (dk cd_Ar_surrounds 46 rfl) rfl ?_
      refine v_iload_n (dk cd_Ar_surrounds 47 rfl) rfl ?_
      refine v_iload_n (dk cd_Ar_surrounds 48 rfl) rfl ?_
      refine v_rv (r := ("AreaWarnings$Area", TT_Ar, 3)) (dk cd_Ar_surrounds 49 rfl) cv_Ar_47 rfl (by assumption) (as := [_, _, _]) rfl rfl (Nat.le_of_ble_eq_true rfl) (by simp [Value.category]) (Ar_turn_ok H0 q11) ?_
      refine v_lconst (v := 0) (dk cd_Ar_surrounds 50 rfl) (by decide) ?_
      refine v_mat_lle (dk cd_Ar_surrounds 51 rfl) (dk cd_Ar_surrounds 52 rfl) (dk cd_Ar_surrounds 53 rfl) (dk cd_Ar_surrounds 54 rfl) (dk cd_Ar_surrounds 55 rfl) rfl rfl ?_
      refine v_icmp_neB (tgt := 114) (dk cd_Ar_surrounds 56 rfl) rfl (fun q101 => ?_) (fun q101 => ?_)
      · refine v_iincN (dk cd_Ar_surrounds 63 rfl) rfl (by decide) rfl ?_
        refine v_goto (tgt := 5) (dk cd_Ar_surrounds 64 rfl) rfl ?_
        refine V.drop 5 (V.drop 6 ?_)
        exact (ih q11 (by omega)).eq rfl (by simp only [cInTo, cCross]; simp [*]; try rfl) rfl rfl
      · refine v_iload_n (dk cd_Ar_surrounds 57 rfl) rfl ?_
        refine v_mat_not (dk cd_Ar_surrounds 58 rfl) (dk cd_Ar_surrounds 59 rfl) (dk cd_Ar_surrounds 60 rfl) (dk cd_Ar_surrounds 61 rfl) rfl rfl ?_
        refine v_istore_n (dk cd_Ar_surrounds 62 rfl) (by decide) rfl ?_
        refine v_iincN (dk cd_Ar_surrounds 63 rfl) rfl (by decide) rfl ?_
        refine v_goto (tgt := 5) (dk cd_Ar_surrounds 64 rfl) rfl ?_
        refine V.drop 5 (V.drop 6 ?_)
        exact (ih q11 (by omega)).eq rfl (by simp only [cInTo, cCross]; simp [*]; try rfl) rfl rfl
set_option maxRecDepth 100000 in
set_option maxHeartbeats 4000000 in
theorem Ar_surrounds_ok {x y : Int32} (H : ArAt A o a) : V (gg u) (d + 2) mm_Ar_surrounds 0 [some (.ref o), some (.int x), some (.int y), none, none, none, none] [] A (Rt (some (.int (b2i (cInTo a x y a.length)))) A) := by
  refine v_iconst (v := 0) (dk cd_Ar_surrounds 0 rfl) (by decide) ?_
  refine v_istore_n (dk cd_Ar_surrounds 1 rfl) (by decide) rfl ?_
  refine v_iconst (v := nI 0) (dk cd_Ar_surrounds 2 rfl) (by decide) ?_
  refine v_istore (dk cd_Ar_surrounds 3 rfl) (by decide) rfl ?_
  exact Ar_surrounds_lp H 0 (by omega)
set_option maxRecDepth 100000 in
set_option maxHeartbeats 4000000 in
theorem Ar_reaches_lp {x y r : Int32} (H : ArAt A o a) : ∀ k, k ≤ a.length ∧ (∀ i, i < k → cSide a i x y r = false) → V (gg u) (d + 3) mm_Ar_reaches 3 [some (.ref o), some (.int x), some (.int y), some (.int r), some (.int (nI k))] [] A (Rt (some (.int (b2i (cReach a x y r)))) A) := by
  refine up_ind a.length ?_
  intro k ih ⟨hk, hp⟩
  have H0 := H
  obtain ⟨h8, xa, ya, vx, vy, h1, h2, h3, h4, h5, hX, hY⟩ := H
  refine v_iload (dk cd_Ar_reaches 2 rfl) rfl ?_
  refine v_aload_n (dk cd_Ar_reaches 3 rfl) rfl ?_
  refine v_getf (dk cd_Ar_reaches 4 rfl) fg_Ar_18_Ar (by assumption) (by rfl) ?_
  refine v_icmp_geN (tgt := 32) (dk cd_Ar_reaches 5 rfl) rfl (by omega) (by omega) (fun q9 => ?_) (fun q9 => ?_)
  · refine v_aload_n (dk cd_Ar_reaches 17 rfl) rfl ?_
    refine v_iload_n (dk cd_Ar_reaches 18 rfl) rfl ?_
    refine v_iload_n (dk cd_Ar_reaches 19 rfl) rfl ?_
    refine v_rv (r := ("AreaWarnings$Area", TT_Ar, 3)) (dk cd_Ar_reaches 20 rfl) cv_Ar_30 rfl (by assumption) (as := [_, _]) rfl rfl (Nat.le_of_ble_eq_true rfl) (by simp [Value.category]) (Ar_surrounds_ok H0) ?_
    exact v_zretB (dk cd_Ar_reaches 21 rfl) rfl (rt_of (by unfold cReach; rw [show (List.range a.length).any (fun i => cSide a i x y r) = false from List.any_eq_false.mpr (fun i hi => by rw [hp i (by rw [List.mem_range] at hi; omega)]; exact Bool.false_ne_true)]; rfl))
  · refine v_aload_n (dk cd_Ar_reaches 6 rfl) rfl ?_
    refine v_iload (dk cd_Ar_reaches 7 rfl) rfl ?_
    refine v_iload_n (dk cd_Ar_reaches 8 rfl) rfl ?_
    refine v_iload_n (dk cd_Ar_reaches 9 rfl) rfl ?_
    refine v_iload_n (dk cd_Ar_reaches 10 rfl) rfl ?_
    refine v_rv (r := ("AreaWarnings$Area", TT_Ar, 3)) (dk cd_Ar_reaches 11 rfl) cv_Ar_26 rfl (by assumption) (as := [_, _, _, _]) rfl rfl (Nat.le_of_ble_eq_true rfl) (by simp [Value.category]) (Ar_sideReaches_ok H0 q9) ?_
    refine v_ifeqB (tgt := 26) (dk cd_Ar_reaches 12 rfl) rfl (fun q21 => ?_) (fun q21 => ?_)
    · refine v_iincN (dk cd_Ar_reaches 15 rfl) rfl (by decide) rfl ?_
      refine v_goto (tgt := 3) (dk cd_Ar_reaches 16 rfl) rfl ?_
      exact ih q9 ⟨by omega, fun i hi => (Nat.lt_succ_iff_lt_or_eq.mp hi).elim (hp i) (fun e => by rw [e]; exact q21)⟩
    · refine v_iconst (v := 1) (dk cd_Ar_reaches 13 rfl) (by decide) ?_
      exact v_zret (dk cd_Ar_reaches 14 rfl) rfl rfl (rt_t (by unfold cReach; rw [Bool.or_eq_true]; exact Or.inl (List.any_eq_true.mpr ⟨k, List.mem_range.mpr q9, q21⟩)))
set_option maxRecDepth 100000 in
set_option maxHeartbeats 4000000 in
theorem Ar_reaches_ok {x y r : Int32} (H : ArAt A o a) : V (gg u) (d + 3) mm_Ar_reaches 0 [some (.ref o), some (.int x), some (.int y), some (.int r), none] [] A (Rt (some (.int (b2i (cReach a x y r)))) A) := by
  refine v_iconst (v := nI 0) (dk cd_Ar_reaches 0 rfl) (by decide) ?_
  refine v_istore (dk cd_Ar_reaches 1 rfl) (by decide) rfl ?_
  exact Ar_reaches_lp H 0 ⟨by omega, fun i hi => absurd hi (Nat.not_lt_zero i)⟩
set_option maxRecDepth 100000 in
set_option maxHeartbeats 4000000 in
theorem Ar_simp_i2 {i : Nat} (H : ArAt A o a) (hi : i < a.length) (kont : (∀ j, i < j → j < a.length → cClash a i j = false) → V (gg u) (d + 4) mm_Ar_isSimple 115 [some (.ref o), some (.int (nI i)), none] [] A (Rt (some (.int (b2i (cSimple a)))) A)) : ∀ j, i < j ∧ j ≤ a.length ∧ (∀ j2, i < j2 → j2 < j → cClash a i j2 = false) → V (gg u) (d + 4) mm_Ar_isSimple 90 [some (.ref o), some (.int (nI i)), some (.int (nI j))] [] A (Rt (some (.int (b2i (cSimple a)))) A) := by
  refine up_ind a.length ?_
  intro j ih ⟨hij, hj, hp⟩
  have H0 := H
  obtain ⟨h8, xa, ya, vx, vy, h1, h2, h3, h4, h5, hX, hY⟩ := H
  refine v_iload_n (dk cd_Ar_isSimple 54 rfl) rfl ?_
  refine v_aload_n (dk cd_Ar_isSimple 55 rfl) rfl ?_
  refine v_getf (dk cd_Ar_isSimple 56 rfl) fg_Ar_18_Ar (by assumption) (by rfl) ?_
  refine v_icmp_geN (tgt := 115) (dk cd_Ar_isSimple 57 rfl) rfl (by omega) (by omega) (fun q95 => ?_) (fun q95 => ?_)
  · exact V.drop 2 (kont (fun j2 h6 h7 => hp j2 h6 (by omega)))
  · refine v_aload_n (dk cd_Ar_isSimple 58 rfl) rfl ?_
    refine v_iload_n (dk cd_Ar_isSimple 59 rfl) rfl ?_
    refine v_iload_n (dk cd_Ar_isSimple 60 rfl) rfl ?_
    refine v_rv (r := ("AreaWarnings$Area", TT_Ar, 3)) (dk cd_Ar_isSimple 61 rfl) cv_Ar_22 rfl (by assumption) (as := [_, _]) rfl rfl (Nat.le_of_ble_eq_true rfl) (by simp [Value.category]) (Ar_sidesClash_ok H0 hi q95) ?_
    refine v_ifeqB (tgt := 109) (dk cd_Ar_isSimple 62 rfl) rfl (fun q104 => ?_) (fun q104 => ?_)
    · refine v_iincN (dk cd_Ar_isSimple 65 rfl) rfl (by decide) rfl ?_
      refine v_goto (tgt := 90) (dk cd_Ar_isSimple 66 rfl) rfl ?_
      exact ih q95 ⟨by omega, by omega, fun j2 h6 h7 => (Nat.lt_succ_iff_lt_or_eq.mp h7).elim (hp j2 h6) (fun e => by rw [e]; exact q104)⟩
    · refine v_iconst (v := 0) (dk cd_Ar_isSimple 63 rfl) (by decide) ?_
      exact v_zret (dk cd_Ar_isSimple 64 rfl) rfl rfl (rt_f (by unfold cSimple; rw [cPair_yes (f := cClash a) hij q95 q104]; simp))
set_option maxRecDepth 100000 in
set_option maxHeartbeats 4000000 in
theorem Ar_simp_o2 (H : ArAt A o a) (h3n : 3 ≤ a.length) (hs : cPair a.length (cSame a) = false) : ∀ i, i ≤ a.length ∧ (∀ i2, i2 < i → ∀ j, i2 < j → j < a.length → cClash a i2 j = false) → V (gg u) (d + 4) mm_Ar_isSimple 78 [some (.ref o), some (.int (nI i)), none] [] A (Rt (some (.int (b2i (cSimple a)))) A) := by
  refine up_ind a.length ?_
  intro i ih ⟨hi, hp⟩
  have H0 := H
  obtain ⟨h8, xa, ya, vx, vy, h1, h2, h3, h4, h5, hX, hY⟩ := H
  refine v_iload_n (dk cd_Ar_isSimple 46 rfl) rfl ?_
  refine v_aload_n (dk cd_Ar_isSimple 47 rfl) rfl ?_
  refine v_getf (dk cd_Ar_isSimple 48 rfl) fg_Ar_18_Ar (by assumption) (by rfl) ?_
  refine v_icmp_geN (tgt := 121) (dk cd_Ar_isSimple 49 rfl) rfl (by omega) (by omega) (fun q83 => ?_) (fun q83 => ?_)
  · refine v_iconst (v := 1) (dk cd_Ar_isSimple 69 rfl) (by decide) ?_
    exact v_zret (dk cd_Ar_isSimple 70 rfl) rfl rfl (rt_t (by unfold cSimple; rw [hs, cPair_no (f := cClash a) (fun i2 h6 j h7 h9 => hp i2 (by omega) j h7 h9)]; simp [h3n]))
  · refine v_iload_n (dk cd_Ar_isSimple 50 rfl) rfl ?_
    refine v_iconst (v := nI 1) (dk cd_Ar_isSimple 51 rfl) (by decide) ?_
    refine v_iaddN (dk cd_Ar_isSimple 52 rfl) ?_
    refine v_istore_n (dk cd_Ar_isSimple 53 rfl) (by decide) rfl ?_
    refine Ar_simp_i2 H0 q83 (fun hc => ?_) (i + 1) ⟨by omega, by omega, fun j2 h6 h7 => by omega⟩
    refine v_iincN (dk cd_Ar_isSimple 67 rfl) rfl (by decide) rfl ?_
    refine v_goto (tgt := 78) (dk cd_Ar_isSimple 68 rfl) rfl ?_
    exact ih q83 ⟨by omega, fun i2 h6 => (Nat.lt_succ_iff_lt_or_eq.mp h6).elim (hp i2) (fun e => by rw [e]; exact hc)⟩
set_option maxRecDepth 100000 in
set_option maxHeartbeats 4000000 in
theorem Ar_simp_i1 {i : Nat} (H : ArAt A o a) (hi : i < a.length) (kont : (∀ j, i < j → j < a.length → cSame a i j = false) → V (gg u) (d + 4) mm_Ar_isSimple 70 [some (.ref o), some (.int (nI i)), none] [] A (Rt (some (.int (b2i (cSimple a)))) A)) : ∀ j, i < j ∧ j ≤ a.length ∧ (∀ j2, i < j2 → j2 < j → cSame a i j2 = false) → V (gg u) (d + 4) mm_Ar_isSimple 24 [some (.ref o), some (.int (nI i)), some (.int (nI j))] [] A (Rt (some (.int (b2i (cSimple a)))) A) := by
  refine up_ind a.length ?_
  intro j ih ⟨hij, hj, hp⟩
  have H0 := H
  obtain ⟨h8, xa, ya, vx, vy, h1, h2, h3, h4, h5, hX, hY⟩ := H
  refine v_iload_n (dk cd_Ar_isSimple 16 rfl) rfl ?_
  refine v_aload_n (dk cd_Ar_isSimple 17 rfl) rfl ?_
  refine v_getf (dk cd_Ar_isSimple 18 rfl) fg_Ar_18_Ar (by assumption) (by rfl) ?_
  refine v_icmp_geN (tgt := 70) (dk cd_Ar_isSimple 19 rfl) rfl (by omega) (by omega) (fun q29 => ?_) (fun q29 => ?_)
  · exact V.drop 2 (kont (fun j2 h6 h7 => hp j2 h6 (by omega)))
  · refine v_aload_n (dk cd_Ar_isSimple 20 rfl) rfl ?_
    refine v_getf (dk cd_Ar_isSimple 21 rfl) fg_Ar_9_Ar (by assumption) (by rfl) ?_
    refine v_iload_n (dk cd_Ar_isSimple 22 rfl) rfl ?_
    refine v_ialdN (j := 0) (dk cd_Ar_isSimple 23 rfl) (by assumption) (by decide) rfl (by omega) (by first | exact hX _ (by omega) | exact hY _ (by omega)) ?_
    refine v_aload_n (dk cd_Ar_isSimple 24 rfl) rfl ?_
    refine v_getf (dk cd_Ar_isSimple 25 rfl) fg_Ar_9_Ar (by assumption) (by rfl) ?_
    refine v_iload_n (dk cd_Ar_isSimple 26 rfl) rfl ?_
    refine v_ialdN (j := 0) (dk cd_Ar_isSimple 27 rfl) (by assumption) (by decide) rfl (by omega) (by first | exact hX _ (by omega) | exact hY _ (by omega)) ?_
    refine v_icmp_ne (tgt := 64) (dk cd_Ar_isSimple 28 rfl) rfl (fun q44 => ?_) (fun q44 => ?_)
    · refine v_iincN (dk cd_Ar_isSimple 40 rfl) rfl (by decide) rfl ?_
      refine v_goto (tgt := 24) (dk cd_Ar_isSimple 41 rfl) rfl ?_
      exact ih q29 ⟨by omega, by omega, fun j2 h6 h7 => (Nat.lt_succ_iff_lt_or_eq.mp h7).elim (hp j2 h6) (fun e => by rw [e]; simp [cSame, *])⟩
    · refine v_aload_n (dk cd_Ar_isSimple 29 rfl) rfl ?_
      refine v_getf (dk cd_Ar_isSimple 30 rfl) fg_Ar_15_Ar (by assumption) (by rfl) ?_
      refine v_iload_n (dk cd_Ar_isSimple 31 rfl) rfl ?_
      refine v_ialdN (j := 0) (dk cd_Ar_isSimple 32 rfl) (by assumption) (by decide) rfl (by omega) (by first | exact hX _ (by omega) | exact hY _ (by omega)) ?_
      refine v_aload_n (dk cd_Ar_isSimple 33 rfl) rfl ?_
      refine v_getf (dk cd_Ar_isSimple 34 rfl) fg_Ar_15_Ar (by assumption) (by rfl) ?_
      refine v_iload_n (dk cd_Ar_isSimple 35 rfl) rfl ?_
      refine v_ialdN (j := 0) (dk cd_Ar_isSimple 36 rfl) (by assumption) (by decide) rfl (by omega) (by first | exact hX _ (by omega) | exact hY _ (by omega)) ?_
      refine v_icmp_ne (tgt := 64) (dk cd_Ar_isSimple 37 rfl) rfl (fun q59 => ?_) (fun q59 => ?_)
      · refine v_iincN (dk cd_Ar_isSimple 40 rfl) rfl (by decide) rfl ?_
        refine v_goto (tgt := 24) (dk cd_Ar_isSimple 41 rfl) rfl ?_
        exact ih q29 ⟨by omega, by omega, fun j2 h6 h7 => (Nat.lt_succ_iff_lt_or_eq.mp h7).elim (hp j2 h6) (fun e => by rw [e]; simp [cSame, *])⟩
      · refine v_iconst (v := 0) (dk cd_Ar_isSimple 38 rfl) (by decide) ?_
        exact v_zret (dk cd_Ar_isSimple 39 rfl) rfl rfl (rt_f (by unfold cSimple; rw [cPair_yes (f := cSame a) hij q29 (by simp [cSame, q44, q59])]; simp))
set_option maxRecDepth 100000 in
set_option maxHeartbeats 4000000 in
theorem Ar_simp_o1 (H : ArAt A o a) (h3n : 3 ≤ a.length) : ∀ i, i ≤ a.length ∧ (∀ i2, i2 < i → ∀ j, i2 < j → j < a.length → cSame a i2 j = false) → V (gg u) (d + 4) mm_Ar_isSimple 12 [some (.ref o), some (.int (nI i)), none] [] A (Rt (some (.int (b2i (cSimple a)))) A) := by
  refine up_ind a.length ?_
  intro i ih ⟨hi, hp⟩
  have H0 := H
  obtain ⟨h8, xa, ya, vx, vy, h1, h2, h3, h4, h5, hX, hY⟩ := H
  refine v_iload_n (dk cd_Ar_isSimple 8 rfl) rfl ?_
  refine v_aload_n (dk cd_Ar_isSimple 9 rfl) rfl ?_
  refine v_getf (dk cd_Ar_isSimple 10 rfl) fg_Ar_18_Ar (by assumption) (by rfl) ?_
  refine v_icmp_geN (tgt := 76) (dk cd_Ar_isSimple 11 rfl) rfl (by omega) (by omega) (fun q17 => ?_) (fun q17 => ?_)
  · refine v_iconst (v := nI 0) (dk cd_Ar_isSimple 44 rfl) (by decide) ?_
    refine v_istore_n (dk cd_Ar_isSimple 45 rfl) (by decide) rfl ?_
    exact Ar_simp_o2 H0 h3n (cPair_no (f := cSame a) (fun i2 h6 j h7 h9 => hp i2 (by omega) j h7 h9)) 0 ⟨by omega, fun i2 h6 => absurd h6 (Nat.not_lt_zero i2)⟩
  · refine v_iload_n (dk cd_Ar_isSimple 12 rfl) rfl ?_
    refine v_iconst (v := nI 1) (dk cd_Ar_isSimple 13 rfl) (by decide) ?_
    refine v_iaddN (dk cd_Ar_isSimple 14 rfl) ?_
    refine v_istore_n (dk cd_Ar_isSimple 15 rfl) (by decide) rfl ?_
    refine Ar_simp_i1 H0 q17 (fun hc => ?_) (i + 1) ⟨by omega, by omega, fun j2 h6 h7 => by omega⟩
    refine v_iincN (dk cd_Ar_isSimple 42 rfl) rfl (by decide) rfl ?_
    refine v_goto (tgt := 12) (dk cd_Ar_isSimple 43 rfl) rfl ?_
    exact ih q17 ⟨by omega, fun i2 h6 => (Nat.lt_succ_iff_lt_or_eq.mp h6).elim (hp i2) (fun e => by rw [e]; exact hc)⟩
set_option maxRecDepth 100000 in
set_option maxHeartbeats 4000000 in
theorem Ar_isSimple_ok (H : ArAt A o a) : V (gg u) (d + 4) mm_Ar_isSimple 0 [some (.ref o), none, none] [] A (Rt (some (.int (b2i (cSimple a)))) A) := by
  have H0 := H
  obtain ⟨h8, xa, ya, vx, vy, h1, h2, h3, h4, h5, hX, hY⟩ := H
  refine v_aload_n (dk cd_Ar_isSimple 0 rfl) rfl ?_
  refine v_getf (dk cd_Ar_isSimple 1 rfl) fg_Ar_18_Ar (by assumption) (by rfl) ?_
  refine v_iconst (v := nI 3) (dk cd_Ar_isSimple 2 rfl) (by decide) ?_
  refine v_icmp_geN (tgt := 10) (dk cd_Ar_isSimple 3 rfl) rfl (by omega) (by omega) (fun q5 => ?_) (fun q5 => ?_)
  · refine v_iconst (v := nI 0) (dk cd_Ar_isSimple 6 rfl) (by decide) ?_
    refine v_istore_n (dk cd_Ar_isSimple 7 rfl) (by decide) rfl ?_
    exact Ar_simp_o1 H0 q5 0 ⟨by omega, fun i2 h6 => absurd h6 (Nat.not_lt_zero i2)⟩
  · refine v_iconst (v := 0) (dk cd_Ar_isSimple 4 rfl) (by decide) ?_
    exact v_zret (dk cd_Ar_isSimple 5 rfl) rfl rfl (rt_f (by unfold cSimple; rw [decide_eq_false (by omega)]; rfl))
end AR2
