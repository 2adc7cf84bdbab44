/-! the model: what is asked -/
theorem i32_vals {q : Int32} {n : Nat} (hn : n < 10) (h0 : ¬ q < 0) (h1 : q ≤ nI n) : ∃ k, k ≤ n ∧ q = nI k := by
  have hp : pIx q (n + 1) = true := by
    unfold pIx
    rw [decide_eq_false h0, decide_eq_false (fun h => ?_)]
    · rfl
    · rw [Int32.le_iff_toInt_le, nI_toInt (by omega)] at h
      rw [Int32.le_iff_toInt_le, nI_toInt (by omega)] at h1
      omega
  obtain ⟨k, k1, k2⟩ := pIx_nat hp (by omega)
  exact ⟨k, by omega, k2⟩
theorem i32_out {q : Int32} {n k : Nat} (hn : n < 10) (h : q < 0 ∨ ¬ q ≤ nI n) (hk : k ≤ n) : ¬ q = nI k := by
  intro e
  subst e
  rcases h with h | h
  · exact nI_pos (by omega) h
  · exact h (nI_le hk (by omega))
theorem lsVal_out {S : SS} {v : VeS} {q : Int32} (h : q < 0 ∨ ¬ q ≤ 4) : lsVal S v q = .inr 0 := by
  have e : ∀ k, k ≤ 4 → ¬ q = nI k := fun k hk => i32_out (n := 4) (by omega) h hk
  unfold lsVal
  rw [if_neg (show ¬ q = 0 from e 0 (by omega)), if_neg (show ¬ q = 1 from e 1 (by omega)), if_neg (show ¬ q = 2 from e 2 (by omega)), if_neg (show ¬ q = 3 from e 3 (by omega)), if_neg (show ¬ q = 4 from e 4 (by omega))]
theorem stVal_out {S : SS} {v : Nat × Int32 × Int32} {q : Int32} (h : q < 0 ∨ ¬ q ≤ 4) : stVal S v q = .inr 0 := by
  have e : ∀ k, k ≤ 4 → ¬ q = nI k := fun k hk => i32_out (n := 4) (by omega) h hk
  unfold stVal
  rw [if_neg (show ¬ q = 0 from e 0 (by omega)), if_neg (show ¬ q = 1 from e 1 (by omega)), if_neg (show ¬ q = 2 from e 2 (by omega)), if_neg (show ¬ q = 3 from e 3 (by omega)), if_neg (show ¬ q = 4 from e 4 (by omega))]
theorem shVal_out {S : SS} {x : HaS} {v : Nat × Int32 × Int32} {q : Int32} (h : q < 0 ∨ ¬ q ≤ 5) : shVal S x v q = .inr 0 := by
  have e : ∀ k, k ≤ 5 → ¬ q = nI k := fun k hk => i32_out (n := 5) (by omega) h hk
  unfold shVal
  rw [if_neg (show ¬ q = 0 from e 0 (by omega)), if_neg (show ¬ q = 1 from e 1 (by omega)), if_neg (show ¬ q = 2 from e 2 (by omega)), if_neg (show ¬ q = 3 from e 3 (by omega)), if_neg (show ¬ q = 4 from e 4 (by omega)), if_neg (show ¬ q = 5 from e 5 (by omega))]
theorem is4 {q : Int32} (h0 : ¬ q < 0) (h1 : q ≤ 4) (a0 : ¬ q = 0) (a1 : ¬ q = 1) (a2 : ¬ q = 2) (a3 : ¬ q = 3) : q = 4 := by
  obtain ⟨k, k1, rfl⟩ := i32_vals (n := 4) (by omega) h0 h1
  match k, k1 with
  | 0, _ => exact absurd rfl a0
  | 1, _ => exact absurd rfl a1
  | 2, _ => exact absurd rfl a2
  | 3, _ => exact absurd rfl a3
  | 4, _ => rfl
theorem is3 {q : Int32} (h0 : ¬ q < 0) (h1 : q ≤ 3) (a0 : ¬ q = 0) (a1 : ¬ q = 1) (a2 : ¬ q = 2) : q = 3 := by
  obtain ⟨k, k1, rfl⟩ := i32_vals (n := 3) (by omega) h0 h1
  match k, k1 with
  | 0, _ => exact absurd rfl a0
  | 1, _ => exact absurd rfl a1
  | 2, _ => exact absurd rfl a2
  | 3, _ => rfl
theorem is45 {q : Int32} (h0 : ¬ q ≤ 3) (h1 : q ≤ 5) (a : ¬ q = 5) : q = 4 := by
  have hn : ¬ q < 0 := fun h => h0 (by rw [Int32.lt_iff_toInt_lt] at h; rw [Int32.le_iff_toInt_le]; have e0 : (0 : Int32).toInt = 0 := rfl; have e3 : (3 : Int32).toInt = 3 := rfl; omega)
  obtain ⟨k, k1, rfl⟩ := i32_vals (n := 5) (by omega) hn h1
  match k, k1 with
  | 0, _ => exact absurd (by decide) h0
  | 1, _ => exact absurd (by decide) h0
  | 2, _ => exact absurd (by decide) h0
  | 3, _ => exact absurd (by decide) h0
  | 4, _ => rfl
  | 5, _ => exact absurd rfl a
theorem mn10 {x : Int32} : mn 10 x = if x ≤ 10 then x else 10 := by
  unfold mn
  by_cases h : x < 10
  · rw [if_pos h, if_pos (Int32.le_of_lt h)]
  · rw [if_neg h]
    split
    · rename_i h2
      rw [Int32.lt_iff_toInt_lt] at h; rw [Int32.le_iff_toInt_le] at h2
      exact Int32.toInt_inj.mp (by omega)
    · rfl
theorem pIx_of {x : Int32} {n : Nat} (h0 : ¬ x < 0) (h1 : x < nI n) : pIx x n = true := by
  unfold pIx
  rw [decide_eq_false h0, decide_eq_false (Int32.not_le.mpr h1)]; rfl
theorem pIx_no {x : Int32} {n : Nat} (h : x < 0 ∨ ¬ x < nI n) : ¬ pIx x n = true := by
  unfold pIx
  intro hp
  rw [Bool.and_eq_true, Bool.not_eq_true', Bool.not_eq_true', decide_eq_false_iff_not, decide_eq_false_iff_not] at hp
  rcases h with h | h
  · exact hp.1 h
  · exact h (Int32.not_le.mp hp.2)
theorem cur_iff {S : SS} {n : Nat} {x : HaS} {pg : Nat × Int32 × Int32} (K : SOK S) (hn : (sHs S)[n]? = some x) (hp : pg ∈ x.2.2.2) : hdN S (x.2.2.1.1.getD (vAt S pg.1).1 none) ≤ vNum S pg.1 ↔ x.2.2.1.1.getD (vAt S pg.1).1 none = some pg.1 := by
  obtain ⟨H, X⟩ := K.hx n x hn
  obtain ⟨v', b1, b2⟩ := H.2.2.2 pg hp
  rw [b1]
  show vNum S v' ≤ vNum S pg.1 ↔ _
  constructor
  · intro h
    rcases b2 with b2 | b2
    · exact absurd b2 (Int32.not_lt.mpr h)
    · rw [b2.1]
  · intro h
    cases h; exact Int32.le_refl _
section MX
variable {u : Ux} {d : Nat} {A B : AH} {a : Nat} {i : Nat → Int32} {f : Nat → Nat → Int32} {S : SS} {t x z q : Int32}
set_option maxRecDepth 100000 in
set_option maxHeartbeats 4000000 in
theorem Mo_listed_ok (hM : MH B a i f A) (R : Rel S t i f) (K : SOK S) : V (gg u) (d + 1) mm_Mo_listed 0 [some (.ref a), some (.int x), some (.int z), some (.int q), none] [] A (PM (xc [2, 0, 0, 1]) B a (spListed S x z q)) := by
  have w1 := K.wf.2.1
  have w2 := K.wf.2.2.1
  have w3 := K.wf.2.2.2.1
  have w4 := K.wf.2.2.2.2.1
  refine v_aload_n (dk cd_Mo_listed 0 rfl) rfl ?_
  refine v_aload_n (dk cd_Mo_listed 1 rfl) rfl ?_
  refine v_iload_n (dk cd_Mo_listed 2 rfl) rfl ?_
  refine v_rv (r := ("AreaWarningsModel", TT_Mo, 49)) (dk cd_Mo_listed 3 rfl) cv_Mo_254 rfl hM.2.2.1 (as := [_]) rfl rfl (Nat.le_of_ble_eq_true rfl) (by simp [Value.category]) (Mo_isCell_ok hM R.nc) ?_
  refine v_ifeqB (tgt := 23) (dk cd_Mo_listed 4 rfl) rfl (fun q6 => ?_) (fun q6 => ?_)
  · refine v_iconst (v := nI 1) (dk cd_Mo_listed 13 rfl) (by decide) ?_
    refine v_goto (tgt := 41) (dk cd_Mo_listed 14 rfl) rfl ?_
    refine v_mput (k := 0) (n := 0) (dk cd_Mo_listed 23 rfl) fp_Mo_137_Mo (fun h => by cases h) hM (by decide) (fun A hM => ?_)
    refine v_aload_n (dk cd_Mo_listed 24 rfl) rfl ?_
    refine v_mgi (n := 0) (dk cd_Mo_listed 25 rfl) fg_Mo_137_Mo hM rfl (up1_same _ _ _) ?_
    refine v_if_le (tgt := 53) (dk cd_Mo_listed 26 rfl) rfl (fun q => absurd q (by decide)) (fun _ => ?_)
    refine v_iconst (v := nI 0) (dk cd_Mo_listed 27 rfl) (by decide) ?_
    exact v_iret (dk cd_Mo_listed 28 rfl) rfl (pmX (S' := S) (k := 3) hM (R.thr _) (by unfold spListed; rw [if_neg (fun h => by rw [q6] at h; cases h.1)]) rfl)
  · refine v_iload_n (dk cd_Mo_listed 5 rfl) rfl ?_
    refine v_if_lt (tgt := 23) (dk cd_Mo_listed 6 rfl) rfl (fun q10 => ?_) (fun q10 => ?_)
    · refine v_iconst (v := nI 1) (dk cd_Mo_listed 13 rfl) (by decide) ?_
      refine v_goto (tgt := 41) (dk cd_Mo_listed 14 rfl) rfl ?_
      refine v_mput (k := 0) (n := 0) (dk cd_Mo_listed 23 rfl) fp_Mo_137_Mo (fun h => by cases h) hM (by decide) (fun A hM => ?_)
      refine v_aload_n (dk cd_Mo_listed 24 rfl) rfl ?_
      refine v_mgi (n := 0) (dk cd_Mo_listed 25 rfl) fg_Mo_137_Mo hM rfl (up1_same _ _ _) ?_
      refine v_if_le (tgt := 53) (dk cd_Mo_listed 26 rfl) rfl (fun q => absurd q (by decide)) (fun _ => ?_)
      refine v_iconst (v := nI 0) (dk cd_Mo_listed 27 rfl) (by decide) ?_
      exact v_iret (dk cd_Mo_listed 28 rfl) rfl (pmX (S' := S) (k := 3) hM (R.thr _) (by unfold spListed; rw [if_neg (fun h => pIx_no (Or.inl q10) h.2)]) rfl)
    · obtain ⟨c, hcl, rfl, hc⟩ := cAt_get K q6
      have hcb := (K.wc c _ hc).1
      refine v_iload_n (dk cd_Mo_listed 7 rfl) rfl ?_
      refine v_aload_n (dk cd_Mo_listed 8 rfl) rfl ?_
      refine v_getf (dk cd_Mo_listed 9 rfl) fg_Mo_23_Mo hM.2.2.1 (by rfl) ?_
      refine v_iload_n (dk cd_Mo_listed 10 rfl) rfl ?_
      refine v_mldE (j := 4) (dk cd_Mo_listed 11 rfl) hM (by decide) (by decide) (show _ < 8 by omega) (by decide) (R.ce c _ hc).2.2.1 ?_
      refine v_icmp_lt (tgt := 27) (dk cd_Mo_listed 12 rfl) rfl (fun q20 => ?_) (fun q20 => ?_)
      · have hp := pIx_of q10 q20
        obtain ⟨k, hk, rfl⟩ := pIx_nat hp (by omega)
        have hkc : (nI k).toNatClampNeg = k := nI_clamp (by omega)
        have hv := (K.wc c _ hc).2.1 _ (getD_in hk)
        have hw := K.w12 hv
        have hsp : spListed S (nI c) (nI k) q = (S, lsVal S (vAt S ((cAt S (nI c)).2.2.1.getD k 0)) q) := by unfold spListed; rw [if_pos ⟨q6, hp⟩, hkc]
        refine v_iload_n (dk cd_Mo_listed 15 rfl) rfl ?_
        refine v_if_lt (tgt := 36) (dk cd_Mo_listed 16 rfl) rfl (fun q28 => ?_) (fun q28 => ?_)
        · refine v_iconst (v := nI 2) (dk cd_Mo_listed 20 rfl) (by decide) ?_
          refine v_goto (tgt := 41) (dk cd_Mo_listed 21 rfl) rfl ?_
          refine v_mput (k := 0) (n := 0) (dk cd_Mo_listed 23 rfl) fp_Mo_137_Mo (fun h => by cases h) hM (by decide) (fun A hM => ?_)
          refine v_aload_n (dk cd_Mo_listed 24 rfl) rfl ?_
          refine v_mgi (n := 0) (dk cd_Mo_listed 25 rfl) fg_Mo_137_Mo hM rfl (up1_same _ _ _) ?_
          refine v_if_le (tgt := 53) (dk cd_Mo_listed 26 rfl) rfl (fun q => absurd q (by decide)) (fun _ => ?_)
          refine v_iconst (v := nI 0) (dk cd_Mo_listed 27 rfl) (by decide) ?_
          exact v_iret (dk cd_Mo_listed 28 rfl) rfl (pmX (S' := S) (k := 0) hM (R.thr _) (by rw [hsp, lsVal_out (Or.inl q28)]) rfl)
        · refine v_iload_n (dk cd_Mo_listed 17 rfl) rfl ?_
          refine v_iconst (v := 4) (dk cd_Mo_listed 18 rfl) (by decide) ?_
          refine v_icmp_le (tgt := 40) (dk cd_Mo_listed 19 rfl) rfl (fun q33 => ?_) (fun q33 => ?_)
          · refine v_iconst (v := nI 0) (dk cd_Mo_listed 22 rfl) (by decide) ?_
            refine v_mput (k := 0) (n := 0) (dk cd_Mo_listed 23 rfl) fp_Mo_137_Mo (fun h => by cases h) hM (by decide) (fun A hM => ?_)
            refine v_aload_n (dk cd_Mo_listed 24 rfl) rfl ?_
            refine v_mgi (n := 0) (dk cd_Mo_listed 25 rfl) fg_Mo_137_Mo hM rfl (up1_same _ _ _) ?_
            refine v_if_le (tgt := 53) (dk cd_Mo_listed 26 rfl) rfl (fun _ => ?_) (fun q => absurd (by decide) q)
            refine v_aload_n (dk cd_Mo_listed 29 rfl) rfl ?_
            refine v_getf (dk cd_Mo_listed 30 rfl) fg_Mo_26_Mo hM.2.2.1 (by rfl) ?_
            refine v_bipush (v := nI 12) (dk cd_Mo_listed 31 rfl) (by decide) ?_
            refine v_iload_n (dk cd_Mo_listed 32 rfl) rfl ?_
            refine v_imulN (dk cd_Mo_listed 33 rfl) ?_
            refine v_iload_n (dk cd_Mo_listed 34 rfl) rfl ?_
            refine v_iaddN (dk cd_Mo_listed 35 rfl) ?_
            refine v_mldE (j := 5) (dk cd_Mo_listed 36 rfl) hM (by decide) (by decide) (show _ < 96 by omega) (by decide) ((R.ce c _ hc).2.2.2.1 k hk) ?_
            refine v_istore (dk cd_Mo_listed 37 rfl) (by decide) rfl ?_
            refine v_iload_n (dk cd_Mo_listed 38 rfl) rfl ?_
            refine v_if_ne (tgt := 85) (dk cd_Mo_listed 39 rfl) rfl (fun q67 => ?_) (fun q67 => ?_)
            · refine v_iload_n (dk cd_Mo_listed 48 rfl) rfl ?_
              refine v_iconst (v := 1) (dk cd_Mo_listed 49 rfl) (by decide) ?_
              refine v_icmp_ne (tgt := 100) (dk cd_Mo_listed 50 rfl) rfl (fun q87 => ?_) (fun q87 => ?_)
              · refine v_iload_n (dk cd_Mo_listed 56 rfl) rfl ?_
                refine v_iconst (v := 2) (dk cd_Mo_listed 57 rfl) (by decide) ?_
                refine v_icmp_ne (tgt := 115) (dk cd_Mo_listed 58 rfl) rfl (fun q102 => ?_) (fun q102 => ?_)
                · refine v_iload_n (dk cd_Mo_listed 64 rfl) rfl ?_
                  refine v_iconst (v := 3) (dk cd_Mo_listed 65 rfl) (by decide) ?_
                  refine v_icmp_ne (tgt := 130) (dk cd_Mo_listed 66 rfl) rfl (fun q117 => ?_) (fun q117 => ?_)
                  · have h4 := is4 q28 q33 q67 q87 q102 q117
                    refine v_aload_n (dk cd_Mo_listed 72 rfl) rfl ?_
                    refine v_getf (dk cd_Mo_listed 73 rfl) fg_Mo_74_Mo hM.2.2.1 (by rfl) ?_
                    refine v_iload (dk cd_Mo_listed 74 rfl) rfl ?_
                    refine v_mldzE (j := 21) (dk cd_Mo_listed 75 rfl) hM (by decide) (by decide) (show _ < 40 by omega) (by decide) (R.ve _ hv).2.2.2.2.1 ?_
                    refine v_ifeqB (tgt := 144) (dk cd_Mo_listed 76 rfl) rfl (fun q137 => ?_) (fun q137 => ?_)
                    · refine v_iconst (v := 0) (dk cd_Mo_listed 79 rfl) (by decide) ?_
                      exact v_iret (dk cd_Mo_listed 80 rfl) rfl (pmV hM (R.thr _) rfl (by rw [hsp]; unfold lsVal; rw [if_neg q67, if_neg q87, if_neg q102, if_neg q117, if_pos h4, q137]; rfl))
                    · refine v_iconst (v := 1) (dk cd_Mo_listed 77 rfl) (by decide) ?_
                      refine v_goto (tgt := 145) (dk cd_Mo_listed 78 rfl) rfl ?_
                      exact v_iret (dk cd_Mo_listed 80 rfl) rfl (pmV hM (R.thr _) rfl (by rw [hsp]; unfold lsVal; rw [if_neg q67, if_neg q87, if_neg q102, if_neg q117, if_pos h4, q137]; rfl))
                  · refine v_aload_n (dk cd_Mo_listed 67 rfl) rfl ?_
                    refine v_getf (dk cd_Mo_listed 68 rfl) fg_Mo_71_Mo hM.2.2.1 (by rfl) ?_
                    refine v_iload (dk cd_Mo_listed 69 rfl) rfl ?_
                    refine v_mldE (j := 20) (dk cd_Mo_listed 70 rfl) hM (by decide) (by decide) (show _ < 40 by omega) (by decide) (R.ve _ hv).2.2.2.1 ?_
                    refine v_goto (tgt := 145) (dk cd_Mo_listed 71 rfl) rfl ?_
                    exact v_iret (dk cd_Mo_listed 80 rfl) rfl (pmV hM (R.thr _) rfl (by rw [hsp]; unfold lsVal; rw [if_neg q67, if_neg q87, if_neg q102, if_pos q117]))
                · refine v_aload_n (dk cd_Mo_listed 59 rfl) rfl ?_
                  refine v_getf (dk cd_Mo_listed 60 rfl) fg_Mo_68_Mo hM.2.2.1 (by rfl) ?_
                  refine v_iload (dk cd_Mo_listed 61 rfl) rfl ?_
                  refine v_mldE (j := 19) (dk cd_Mo_listed 62 rfl) hM (by decide) (by decide) (show _ < 40 by omega) (by decide) (R.ve _ hv).2.2.1 ?_
                  refine v_goto (tgt := 145) (dk cd_Mo_listed 63 rfl) rfl ?_
                  exact v_iret (dk cd_Mo_listed 80 rfl) rfl (pmV hM (R.thr _) rfl (by rw [hsp]; unfold lsVal; rw [if_neg q67, if_neg q87, if_pos q102]))
              · refine v_aload_n (dk cd_Mo_listed 51 rfl) rfl ?_
                refine v_getf (dk cd_Mo_listed 52 rfl) fg_Mo_65_Mo hM.2.2.1 (by rfl) ?_
                refine v_iload (dk cd_Mo_listed 53 rfl) rfl ?_
                refine v_mldE (j := 18) (dk cd_Mo_listed 54 rfl) hM (by decide) (by decide) (show _ < 40 by omega) (by decide) (R.ve _ hv).2.1 ?_
                refine v_goto (tgt := 145) (dk cd_Mo_listed 55 rfl) rfl ?_
                exact v_iret (dk cd_Mo_listed 80 rfl) rfl (pmV hM (R.thr _) rfl (by rw [hsp]; unfold lsVal; rw [if_neg q67, if_pos q87]))
            · refine v_aload_n (dk cd_Mo_listed 40 rfl) rfl ?_
              refine v_getf (dk cd_Mo_listed 41 rfl) fg_Mo_56_Mo hM.2.2.1 (by rfl) ?_
              refine v_aload_n (dk cd_Mo_listed 42 rfl) rfl ?_
              refine v_getf (dk cd_Mo_listed 43 rfl) fg_Mo_62_Mo hM.2.2.1 (by rfl) ?_
              refine v_iload (dk cd_Mo_listed 44 rfl) rfl ?_
              refine v_mldE (j := 17) (dk cd_Mo_listed 45 rfl) hM (by decide) (by decide) (show _ < 40 by omega) (by decide) (R.ve _ hv).1 ?_
              refine v_mldE (j := 15) (dk cd_Mo_listed 46 rfl) hM (by decide) (by decide) (show _ < 12 by omega) (by decide) (R.wa _ hw).1 ?_
              refine v_goto (tgt := 145) (dk cd_Mo_listed 47 rfl) rfl ?_
              exact v_iret (dk cd_Mo_listed 80 rfl) rfl (pmV hM (R.thr _) rfl (by rw [hsp]; unfold lsVal; rw [if_pos q67]))
          · refine v_iconst (v := nI 2) (dk cd_Mo_listed 20 rfl) (by decide) ?_
            refine v_goto (tgt := 41) (dk cd_Mo_listed 21 rfl) rfl ?_
            refine v_mput (k := 0) (n := 0) (dk cd_Mo_listed 23 rfl) fp_Mo_137_Mo (fun h => by cases h) hM (by decide) (fun A hM => ?_)
            refine v_aload_n (dk cd_Mo_listed 24 rfl) rfl ?_
            refine v_mgi (n := 0) (dk cd_Mo_listed 25 rfl) fg_Mo_137_Mo hM rfl (up1_same _ _ _) ?_
            refine v_if_le (tgt := 53) (dk cd_Mo_listed 26 rfl) rfl (fun q => absurd q (by decide)) (fun _ => ?_)
            refine v_iconst (v := nI 0) (dk cd_Mo_listed 27 rfl) (by decide) ?_
            exact v_iret (dk cd_Mo_listed 28 rfl) rfl (pmX (S' := S) (k := 0) hM (R.thr _) (by rw [hsp, lsVal_out (Or.inr q33)]) rfl)
      · refine v_iconst (v := nI 1) (dk cd_Mo_listed 13 rfl) (by decide) ?_
        refine v_goto (tgt := 41) (dk cd_Mo_listed 14 rfl) rfl ?_
        refine v_mput (k := 0) (n := 0) (dk cd_Mo_listed 23 rfl) fp_Mo_137_Mo (fun h => by cases h) hM (by decide) (fun A hM => ?_)
        refine v_aload_n (dk cd_Mo_listed 24 rfl) rfl ?_
        refine v_mgi (n := 0) (dk cd_Mo_listed 25 rfl) fg_Mo_137_Mo hM rfl (up1_same _ _ _) ?_
        refine v_if_le (tgt := 53) (dk cd_Mo_listed 26 rfl) rfl (fun q => absurd q (by decide)) (fun _ => ?_)
        refine v_iconst (v := nI 0) (dk cd_Mo_listed 27 rfl) (by decide) ?_
        exact v_iret (dk cd_Mo_listed 28 rfl) rfl (pmX (S' := S) (k := 3) hM (R.thr _) (by unfold spListed; rw [if_neg (fun h => pIx_no (Or.inr q20) h.2)]) rfl)
set_option maxRecDepth 100000 in
set_option maxHeartbeats 4000000 in
theorem Mo_sent_ok (hM : MH B a i f A) (R : Rel S t i f) (K : SOK S) : V (gg u) (d + 1) mm_Mo_sent 0 [some (.ref a), some (.int x), some (.int z), some (.int q), none, none, none, none] [] A (PM (xc [2, 0, 0, 1]) B a (spSent S x z q)) := by
  have w1 := K.wf.2.1
  have w2 := K.wf.2.2.1
  have w3 := K.wf.2.2.2.1
  have w4 := K.wf.2.2.2.2.1
  refine v_aload_n (dk cd_Mo_sent 0 rfl) rfl ?_
  refine v_aload_n (dk cd_Mo_sent 1 rfl) rfl ?_
  refine v_iload_n (dk cd_Mo_sent 2 rfl) rfl ?_
  refine v_rv (r := ("AreaWarningsModel", TT_Mo, 49)) (dk cd_Mo_sent 3 rfl) cv_Mo_254 rfl hM.2.2.1 (as := [_]) rfl rfl (Nat.le_of_ble_eq_true rfl) (by simp [Value.category]) (Mo_isCell_ok hM R.nc) ?_
  refine v_ifeqB (tgt := 23) (dk cd_Mo_sent 4 rfl) rfl (fun q6 => ?_) (fun q6 => ?_)
  · refine v_iconst (v := nI 1) (dk cd_Mo_sent 13 rfl) (by decide) ?_
    refine v_goto (tgt := 41) (dk cd_Mo_sent 14 rfl) rfl ?_
    refine v_mput (k := 0) (n := 0) (dk cd_Mo_sent 23 rfl) fp_Mo_137_Mo (fun h => by cases h) hM (by decide) (fun A hM => ?_)
    refine v_aload_n (dk cd_Mo_sent 24 rfl) rfl ?_
    refine v_mgi (n := 0) (dk cd_Mo_sent 25 rfl) fg_Mo_137_Mo hM rfl (up1_same _ _ _) ?_
    refine v_if_le (tgt := 53) (dk cd_Mo_sent 26 rfl) rfl (fun q => absurd q (by decide)) (fun _ => ?_)
    refine v_iconst (v := nI 0) (dk cd_Mo_sent 27 rfl) (by decide) ?_
    exact v_iret (dk cd_Mo_sent 28 rfl) rfl (pmX (S' := S) (k := 3) hM (R.thr _) (by unfold spSent; rw [if_neg (fun h => by rw [q6] at h; cases h.1)]) rfl)
  · refine v_iload_n (dk cd_Mo_sent 5 rfl) rfl ?_
    refine v_if_lt (tgt := 23) (dk cd_Mo_sent 6 rfl) rfl (fun q10 => ?_) (fun q10 => ?_)
    · refine v_iconst (v := nI 1) (dk cd_Mo_sent 13 rfl) (by decide) ?_
      refine v_goto (tgt := 41) (dk cd_Mo_sent 14 rfl) rfl ?_
      refine v_mput (k := 0) (n := 0) (dk cd_Mo_sent 23 rfl) fp_Mo_137_Mo (fun h => by cases h) hM (by decide) (fun A hM => ?_)
      refine v_aload_n (dk cd_Mo_sent 24 rfl) rfl ?_
      refine v_mgi (n := 0) (dk cd_Mo_sent 25 rfl) fg_Mo_137_Mo hM rfl (up1_same _ _ _) ?_
      refine v_if_le (tgt := 53) (dk cd_Mo_sent 26 rfl) rfl (fun q => absurd q (by decide)) (fun _ => ?_)
      refine v_iconst (v := nI 0) (dk cd_Mo_sent 27 rfl) (by decide) ?_
      exact v_iret (dk cd_Mo_sent 28 rfl) rfl (pmX (S' := S) (k := 3) hM (R.thr _) (by unfold spSent; rw [if_neg (fun h => pIx_no (Or.inl q10) h.2)]) rfl)
    · obtain ⟨c, hcl, rfl, hc⟩ := cAt_get K q6
      have hcb := (K.wc c _ hc).2.2.1
      refine v_iload_n (dk cd_Mo_sent 7 rfl) rfl ?_
      refine v_aload_n (dk cd_Mo_sent 8 rfl) rfl ?_
      refine v_getf (dk cd_Mo_sent 9 rfl) fg_Mo_32_Mo hM.2.2.1 (by rfl) ?_
      refine v_iload_n (dk cd_Mo_sent 10 rfl) rfl ?_
      refine v_mldE (j := 7) (dk cd_Mo_sent 11 rfl) hM (by decide) (by decide) (show _ < 8 by omega) (by decide) (R.ce c _ hc).2.2.2.2.1 ?_
      refine v_icmp_lt (tgt := 27) (dk cd_Mo_sent 12 rfl) rfl (fun q20 => ?_) (fun q20 => ?_)
      · have hp := pIx_of q10 q20
        obtain ⟨k, hk, rfl⟩ := pIx_nat hp (by omega)
        have hkc : (nI k).toNatClampNeg = k := nI_clamp (by omega)
        obtain ⟨hv, hvl⟩ := (K.wc c _ hc).2.2.2 _ (getD_inP hk)
        have hw := K.w12 hv
        have hpx := (K.cx c _ hc).2 _ (getD_inP hk)
        have hsp : spSent S (nI c) (nI k) q = (S, stVal S ((cAt S (nI c)).2.2.2.getD k (0, 0, 0)) q) := by unfold spSent; rw [if_pos ⟨q6, hp⟩, hkc]
        obtain ⟨e8, e9, e10⟩ := (R.ce c _ hc).2.2.2.2.2 k hk
        refine v_iload_n (dk cd_Mo_sent 15 rfl) rfl ?_
        refine v_if_lt (tgt := 36) (dk cd_Mo_sent 16 rfl) rfl (fun q28 => ?_) (fun q28 => ?_)
        · refine v_iconst (v := nI 2) (dk cd_Mo_sent 20 rfl) (by decide) ?_
          refine v_goto (tgt := 41) (dk cd_Mo_sent 21 rfl) rfl ?_
          refine v_mput (k := 0) (n := 0) (dk cd_Mo_sent 23 rfl) fp_Mo_137_Mo (fun h => by cases h) hM (by decide) (fun A hM => ?_)
          refine v_aload_n (dk cd_Mo_sent 24 rfl) rfl ?_
          refine v_mgi (n := 0) (dk cd_Mo_sent 25 rfl) fg_Mo_137_Mo hM rfl (up1_same _ _ _) ?_
          refine v_if_le (tgt := 53) (dk cd_Mo_sent 26 rfl) rfl (fun q => absurd q (by decide)) (fun _ => ?_)
          refine v_iconst (v := nI 0) (dk cd_Mo_sent 27 rfl) (by decide) ?_
          exact v_iret (dk cd_Mo_sent 28 rfl) rfl (pmX (S' := S) (k := 0) hM (R.thr _) (by rw [hsp, stVal_out (Or.inl q28)]) rfl)
        · refine v_iload_n (dk cd_Mo_sent 17 rfl) rfl ?_
          refine v_iconst (v := 4) (dk cd_Mo_sent 18 rfl) (by decide) ?_
          refine v_icmp_le (tgt := 40) (dk cd_Mo_sent 19 rfl) rfl (fun q33 => ?_) (fun q33 => ?_)
          · refine v_iconst (v := nI 0) (dk cd_Mo_sent 22 rfl) (by decide) ?_
            refine v_mput (k := 0) (n := 0) (dk cd_Mo_sent 23 rfl) fp_Mo_137_Mo (fun h => by cases h) hM (by decide) (fun A hM => ?_)
            refine v_aload_n (dk cd_Mo_sent 24 rfl) rfl ?_
            refine v_mgi (n := 0) (dk cd_Mo_sent 25 rfl) fg_Mo_137_Mo hM rfl (up1_same _ _ _) ?_
            refine v_if_le (tgt := 53) (dk cd_Mo_sent 26 rfl) rfl (fun _ => ?_) (fun q => absurd (by decide) q)
            refine v_bipush (v := nI 108) (dk cd_Mo_sent 29 rfl) (by decide) ?_
            refine v_iload_n (dk cd_Mo_sent 30 rfl) rfl ?_
            refine v_imulN (dk cd_Mo_sent 31 rfl) ?_
            refine v_iload_n (dk cd_Mo_sent 32 rfl) rfl ?_
            refine v_iaddN (dk cd_Mo_sent 33 rfl) ?_
            refine v_istore (dk cd_Mo_sent 34 rfl) (by decide) rfl ?_
            refine v_aload_n (dk cd_Mo_sent 35 rfl) rfl ?_
            refine v_getf (dk cd_Mo_sent 36 rfl) fg_Mo_35_Mo hM.2.2.1 (by rfl) ?_
            refine v_iload (dk cd_Mo_sent 37 rfl) rfl ?_
            refine v_mldE (j := 8) (dk cd_Mo_sent 38 rfl) hM (by decide) (by decide) (show _ < 864 by omega) (by decide) e8 ?_
            refine v_istore (dk cd_Mo_sent 39 rfl) (by decide) rfl ?_
            refine v_aload_n (dk cd_Mo_sent 40 rfl) rfl ?_
            refine v_getf (dk cd_Mo_sent 41 rfl) fg_Mo_38_Mo hM.2.2.1 (by rfl) ?_
            refine v_iload (dk cd_Mo_sent 42 rfl) rfl ?_
            refine v_mldE (j := 9) (dk cd_Mo_sent 43 rfl) hM (by decide) (by decide) (show _ < 864 by omega) (by decide) e9 ?_
            refine v_istore (dk cd_Mo_sent 44 rfl) (by decide) rfl ?_
            rcases hsv : (vAt S ((cAt S (nI c)).2.2.2.getD k (0, 0, 0)).1).2.2 with _ | s
            · have e3 : ((cAt S (nI c)).2.2.2.getD k (0, 0, 0)).2 = (3, 0) := hpx.1 hsv
              have e31 : ((cAt S (nI c)).2.2.2.getD k (0, 0, 0)).2.1 = 3 := by rw [e3]
              have hst4 : stVal S ((cAt S (nI c)).2.2.2.getD k (0, 0, 0)) 4 = .inl (.int 0) := by unfold stVal; rw [hsv]; rfl
              rw [e31]
              refine v_iload (dk cd_Mo_sent 45 rfl) rfl ?_
              refine v_iconst (v := 3) (dk cd_Mo_sent 46 rfl) (by decide) ?_
              refine v_icmp_ne (tgt := 89) (dk cd_Mo_sent 47 rfl) rfl (fun q82 => absurd rfl q82) (fun q82 => ?_)
              refine v_iconst (v := 0) (dk cd_Mo_sent 48 rfl) (by decide) ?_
              refine v_goto (tgt := 112) (dk cd_Mo_sent 49 rfl) rfl ?_
              refine v_istore (dk cd_Mo_sent 65 rfl) (by decide) rfl ?_
              refine v_iload_n (dk cd_Mo_sent 66 rfl) rfl ?_
              refine v_if_ne (tgt := 133) (dk cd_Mo_sent 67 rfl) rfl (fun q115 => ?_) (fun q115 => ?_)
              · refine v_iload_n (dk cd_Mo_sent 76 rfl) rfl ?_
                refine v_iconst (v := 1) (dk cd_Mo_sent 77 rfl) (by decide) ?_
                refine v_icmp_ne (tgt := 148) (dk cd_Mo_sent 78 rfl) rfl (fun q135 => ?_) (fun q135 => ?_)
                · refine v_iload_n (dk cd_Mo_sent 84 rfl) rfl ?_
                  refine v_iconst (v := 2) (dk cd_Mo_sent 85 rfl) (by decide) ?_
                  refine v_icmp_ne (tgt := 158) (dk cd_Mo_sent 86 rfl) rfl (fun q150 => ?_) (fun q150 => ?_)
                  · refine v_iload_n (dk cd_Mo_sent 89 rfl) rfl ?_
                    refine v_iconst (v := 3) (dk cd_Mo_sent 90 rfl) (by decide) ?_
                    refine v_icmp_ne (tgt := 173) (dk cd_Mo_sent 91 rfl) rfl (fun q160 => ?_) (fun q160 => ?_)
                    · have h4 := is4 q28 q33 q115 q135 q150 q160
                      refine v_iload (dk cd_Mo_sent 97 rfl) rfl ?_
                      refine v_bipush (v := 10) (dk cd_Mo_sent 98 rfl) (by decide) ?_
                      refine v_icmp_le (tgt := 185) (dk cd_Mo_sent 99 rfl) rfl (fun q177 => ?_) (fun q177 => ?_)
                      · refine v_iload (dk cd_Mo_sent 102 rfl) rfl ?_
                        exact v_iret (dk cd_Mo_sent 103 rfl) rfl (pmV hM (R.thr _) rfl (by rw [hsp, h4, hst4]))
                      · refine v_bipush (v := 10) (dk cd_Mo_sent 100 rfl) (by decide) ?_
                        refine v_goto (tgt := 187) (dk cd_Mo_sent 101 rfl) rfl ?_
                        exact v_iret (dk cd_Mo_sent 103 rfl) rfl (absurd (by decide) q177)
                    · refine v_aload_n (dk cd_Mo_sent 92 rfl) rfl ?_
                      refine v_getf (dk cd_Mo_sent 93 rfl) fg_Mo_41_Mo hM.2.2.1 (by rfl) ?_
                      refine v_iload (dk cd_Mo_sent 94 rfl) rfl ?_
                      refine v_mldE (j := 10) (dk cd_Mo_sent 95 rfl) hM (by decide) (by decide) (show _ < 864 by omega) (by decide) e10 ?_
                      refine v_goto (tgt := 187) (dk cd_Mo_sent 96 rfl) rfl ?_
                      exact v_iret (dk cd_Mo_sent 103 rfl) rfl (pmV hM (R.thr _) rfl (by rw [hsp]; unfold stVal; rw [if_neg q115, if_neg q135, if_neg q150, if_pos q160]))
                  · refine v_iload (dk cd_Mo_sent 87 rfl) rfl ?_
                    refine v_goto (tgt := 187) (dk cd_Mo_sent 88 rfl) rfl ?_
                    exact v_iret (dk cd_Mo_sent 103 rfl) rfl (pmV hM (R.thr _) rfl (by rw [hsp]; unfold stVal; rw [if_neg q115, if_neg q135, if_pos q150, e31]))
                · refine v_aload_n (dk cd_Mo_sent 79 rfl) rfl ?_
                  refine v_getf (dk cd_Mo_sent 80 rfl) fg_Mo_65_Mo hM.2.2.1 (by rfl) ?_
                  refine v_iload (dk cd_Mo_sent 81 rfl) rfl ?_
                  refine v_mldE (j := 18) (dk cd_Mo_sent 82 rfl) hM (by decide) (by decide) (show _ < 40 by omega) (by decide) (R.ve _ hv).2.1 ?_
                  refine v_goto (tgt := 187) (dk cd_Mo_sent 83 rfl) rfl ?_
                  exact v_iret (dk cd_Mo_sent 103 rfl) rfl (pmV hM (R.thr _) rfl (by rw [hsp]; unfold stVal; rw [if_neg q115, if_pos q135]))
              · refine v_aload_n (dk cd_Mo_sent 68 rfl) rfl ?_
                refine v_getf (dk cd_Mo_sent 69 rfl) fg_Mo_56_Mo hM.2.2.1 (by rfl) ?_
                refine v_aload_n (dk cd_Mo_sent 70 rfl) rfl ?_
                refine v_getf (dk cd_Mo_sent 71 rfl) fg_Mo_62_Mo hM.2.2.1 (by rfl) ?_
                refine v_iload (dk cd_Mo_sent 72 rfl) rfl ?_
                refine v_mldE (j := 17) (dk cd_Mo_sent 73 rfl) hM (by decide) (by decide) (show _ < 40 by omega) (by decide) (R.ve _ hv).1 ?_
                refine v_mldE (j := 15) (dk cd_Mo_sent 74 rfl) hM (by decide) (by decide) (show _ < 12 by omega) (by decide) (R.wa _ hw).1 ?_
                refine v_goto (tgt := 187) (dk cd_Mo_sent 75 rfl) rfl ?_
                exact v_iret (dk cd_Mo_sent 103 rfl) rfl (pmV hM (R.thr _) rfl (by rw [hsp]; unfold stVal; rw [if_pos q115]))
            · obtain ⟨lk, hl3, hle⟩ := hvl (by rw [hsv]; rfl)
              have h30 := (K.vw hv s hsv).2 lk
              have hst4 : stVal S ((cAt S (nI c)).2.2.2.getD k (0, 0, 0)) 4 = .inl (.int (mn 10 (nI (tl s.2.1.2 lk) - 10 * ((cAt S (nI c)).2.2.2.getD k (0, 0, 0)).2.2))) := by
                unfold stVal
                rw [hsv, hle, nI_clamp (by omega), Int32.mul_comm]
                rfl
              have hs := hsv
              rw [hle]
              refine v_iload (dk cd_Mo_sent 45 rfl) rfl ?_
              refine v_iconst (v := 3) (dk cd_Mo_sent 46 rfl) (by decide) ?_
              refine v_icmp_ne (tgt := 89) (dk cd_Mo_sent 47 rfl) rfl (fun q82 => ?_) (fun q82 => absurd ((nI_eq (by omega) (by omega)).mp (show nI lk = nI 3 from q82)) (by omega))
              refine v_aload_n (dk cd_Mo_sent 50 rfl) rfl ?_
              refine v_getf (dk cd_Mo_sent 51 rfl) fg_Mo_92_Mo hM.2.2.1 (by rfl) ?_
              refine v_iconst (v := nI 3) (dk cd_Mo_sent 52 rfl) (by decide) ?_
              refine v_iload (dk cd_Mo_sent 53 rfl) rfl ?_
              refine v_imulN (dk cd_Mo_sent 54 rfl) ?_
              refine v_iload (dk cd_Mo_sent 55 rfl) rfl ?_
              refine v_iaddN (dk cd_Mo_sent 56 rfl) ?_
              refine v_mldE (j := 27) (dk cd_Mo_sent 57 rfl) hM (by decide) (by decide) (show _ < 120 by omega) (by decide) (((R.ve _ hv).2.2.2.2.2 s hs).2.2.2.2 lk hl3).1 ?_
              refine v_bipush (v := 10) (dk cd_Mo_sent 58 rfl) (by decide) ?_
              refine v_aload_n (dk cd_Mo_sent 59 rfl) rfl ?_
              refine v_getf (dk cd_Mo_sent 60 rfl) fg_Mo_41_Mo hM.2.2.1 (by rfl) ?_
              refine v_iload (dk cd_Mo_sent 61 rfl) rfl ?_
              refine v_mldE (j := 10) (dk cd_Mo_sent 62 rfl) hM (by decide) (by decide) (show _ < 864 by omega) (by decide) e10 ?_
              refine v_imul (dk cd_Mo_sent 63 rfl) ?_
              refine v_isub (dk cd_Mo_sent 64 rfl) ?_
              refine v_istore (dk cd_Mo_sent 65 rfl) (by decide) rfl ?_
              refine v_iload_n (dk cd_Mo_sent 66 rfl) rfl ?_
              refine v_if_ne (tgt := 133) (dk cd_Mo_sent 67 rfl) rfl (fun q115 => ?_) (fun q115 => ?_)
              · refine v_iload_n (dk cd_Mo_sent 76 rfl) rfl ?_
                refine v_iconst (v := 1) (dk cd_Mo_sent 77 rfl) (by decide) ?_
                refine v_icmp_ne (tgt := 148) (dk cd_Mo_sent 78 rfl) rfl (fun q135 => ?_) (fun q135 => ?_)
                · refine v_iload_n (dk cd_Mo_sent 84 rfl) rfl ?_
                  refine v_iconst (v := 2) (dk cd_Mo_sent 85 rfl) (by decide) ?_
                  refine v_icmp_ne (tgt := 158) (dk cd_Mo_sent 86 rfl) rfl (fun q150 => ?_) (fun q150 => ?_)
                  · refine v_iload_n (dk cd_Mo_sent 89 rfl) rfl ?_
                    refine v_iconst (v := 3) (dk cd_Mo_sent 90 rfl) (by decide) ?_
                    refine v_icmp_ne (tgt := 173) (dk cd_Mo_sent 91 rfl) rfl (fun q160 => ?_) (fun q160 => ?_)
                    · have h4 := is4 q28 q33 q115 q135 q150 q160
                      refine v_iload (dk cd_Mo_sent 97 rfl) rfl ?_
                      refine v_bipush (v := 10) (dk cd_Mo_sent 98 rfl) (by decide) ?_
                      refine v_icmp_le (tgt := 185) (dk cd_Mo_sent 99 rfl) rfl (fun q177 => ?_) (fun q177 => ?_)
                      · refine v_iload (dk cd_Mo_sent 102 rfl) rfl ?_
                        exact v_iret (dk cd_Mo_sent 103 rfl) rfl (pmV hM (R.thr _) rfl (by rw [hsp, h4, hst4, mn10, if_pos q177]))
                      · refine v_bipush (v := 10) (dk cd_Mo_sent 100 rfl) (by decide) ?_
                        refine v_goto (tgt := 187) (dk cd_Mo_sent 101 rfl) rfl ?_
                        exact v_iret (dk cd_Mo_sent 103 rfl) rfl (pmV hM (R.thr _) rfl (by rw [hsp, h4, hst4, mn10, if_neg q177]))
                    · refine v_aload_n (dk cd_Mo_sent 92 rfl) rfl ?_
                      refine v_getf (dk cd_Mo_sent 93 rfl) fg_Mo_41_Mo hM.2.2.1 (by rfl) ?_
                      refine v_iload (dk cd_Mo_sent 94 rfl) rfl ?_
                      refine v_mldE (j := 10) (dk cd_Mo_sent 95 rfl) hM (by decide) (by decide) (show _ < 864 by omega) (by decide) e10 ?_
                      refine v_goto (tgt := 187) (dk cd_Mo_sent 96 rfl) rfl ?_
                      exact v_iret (dk cd_Mo_sent 103 rfl) rfl (pmV hM (R.thr _) rfl (by rw [hsp]; unfold stVal; rw [if_neg q115, if_neg q135, if_neg q150, if_pos q160]))
                  · refine v_iload (dk cd_Mo_sent 87 rfl) rfl ?_
                    refine v_goto (tgt := 187) (dk cd_Mo_sent 88 rfl) rfl ?_
                    exact v_iret (dk cd_Mo_sent 103 rfl) rfl (pmV hM (R.thr _) rfl (by rw [hsp]; unfold stVal; rw [if_neg q115, if_neg q135, if_pos q150, hle]))
                · refine v_aload_n (dk cd_Mo_sent 79 rfl) rfl ?_
                  refine v_getf (dk cd_Mo_sent 80 rfl) fg_Mo_65_Mo hM.2.2.1 (by rfl) ?_
                  refine v_iload (dk cd_Mo_sent 81 rfl) rfl ?_
                  refine v_mldE (j := 18) (dk cd_Mo_sent 82 rfl) hM (by decide) (by decide) (show _ < 40 by omega) (by decide) (R.ve _ hv).2.1 ?_
                  refine v_goto (tgt := 187) (dk cd_Mo_sent 83 rfl) rfl ?_
                  exact v_iret (dk cd_Mo_sent 103 rfl) rfl (pmV hM (R.thr _) rfl (by rw [hsp]; unfold stVal; rw [if_neg q115, if_pos q135]))
              · refine v_aload_n (dk cd_Mo_sent 68 rfl) rfl ?_
                refine v_getf (dk cd_Mo_sent 69 rfl) fg_Mo_56_Mo hM.2.2.1 (by rfl) ?_
                refine v_aload_n (dk cd_Mo_sent 70 rfl) rfl ?_
                refine v_getf (dk cd_Mo_sent 71 rfl) fg_Mo_62_Mo hM.2.2.1 (by rfl) ?_
                refine v_iload (dk cd_Mo_sent 72 rfl) rfl ?_
                refine v_mldE (j := 17) (dk cd_Mo_sent 73 rfl) hM (by decide) (by decide) (show _ < 40 by omega) (by decide) (R.ve _ hv).1 ?_
                refine v_mldE (j := 15) (dk cd_Mo_sent 74 rfl) hM (by decide) (by decide) (show _ < 12 by omega) (by decide) (R.wa _ hw).1 ?_
                refine v_goto (tgt := 187) (dk cd_Mo_sent 75 rfl) rfl ?_
                exact v_iret (dk cd_Mo_sent 103 rfl) rfl (pmV hM (R.thr _) rfl (by rw [hsp]; unfold stVal; rw [if_pos q115]))
          · refine v_iconst (v := nI 2) (dk cd_Mo_sent 20 rfl) (by decide) ?_
            refine v_goto (tgt := 41) (dk cd_Mo_sent 21 rfl) rfl ?_
            refine v_mput (k := 0) (n := 0) (dk cd_Mo_sent 23 rfl) fp_Mo_137_Mo (fun h => by cases h) hM (by decide) (fun A hM => ?_)
            refine v_aload_n (dk cd_Mo_sent 24 rfl) rfl ?_
            refine v_mgi (n := 0) (dk cd_Mo_sent 25 rfl) fg_Mo_137_Mo hM rfl (up1_same _ _ _) ?_
            refine v_if_le (tgt := 53) (dk cd_Mo_sent 26 rfl) rfl (fun q => absurd q (by decide)) (fun _ => ?_)
            refine v_iconst (v := nI 0) (dk cd_Mo_sent 27 rfl) (by decide) ?_
            exact v_iret (dk cd_Mo_sent 28 rfl) rfl (pmX (S' := S) (k := 0) hM (R.thr _) (by rw [hsp, stVal_out (Or.inr q33)]) rfl)
      · refine v_iconst (v := nI 1) (dk cd_Mo_sent 13 rfl) (by decide) ?_
        refine v_goto (tgt := 41) (dk cd_Mo_sent 14 rfl) rfl ?_
        refine v_mput (k := 0) (n := 0) (dk cd_Mo_sent 23 rfl) fp_Mo_137_Mo (fun h => by cases h) hM (by decide) (fun A hM => ?_)
        refine v_aload_n (dk cd_Mo_sent 24 rfl) rfl ?_
        refine v_mgi (n := 0) (dk cd_Mo_sent 25 rfl) fg_Mo_137_Mo hM rfl (up1_same _ _ _) ?_
        refine v_if_le (tgt := 53) (dk cd_Mo_sent 26 rfl) rfl (fun q => absurd q (by decide)) (fun _ => ?_)
        refine v_iconst (v := nI 0) (dk cd_Mo_sent 27 rfl) (by decide) ?_
        exact v_iret (dk cd_Mo_sent 28 rfl) rfl (pmX (S' := S) (k := 3) hM (R.thr _) (by unfold spSent; rw [if_neg (fun h => pIx_no (Or.inr q20) h.2)]) rfl)
set_option maxRecDepth 100000 in
set_option maxHeartbeats 4000000 in
theorem Mo_isCurrent_ok {h : Nat} {y : HaS} {pg : Nat × Int32 × Int32} (hM : MH B a i f A) (R : Rel S t i f) (K : SOK S) (hn : (sHs S)[h]? = some y) (hp : pg ∈ y.2.2.2) : V (gg u) d mm_Mo_isCurrent 0 [some (.ref a), some (.int (nI h)), some (.int (nI pg.1))] [] A (Rt (some (.int (b2i (isCur S y pg (sClock S))))) A) := by
  have w1 := K.wf.2.1
  have w2 := K.wf.2.2.1
  have w3 := K.wf.2.2.2.1
  have w4 := K.wf.2.2.2.2.1
  have hhl := (List.getElem?_eq_some_iff.mp hn).1
  have hv := ((K.hk h y hn).1.2.2.2.2.2.2.2 pg hp).1
  have hw : (vAt S pg.1).1 < 12 := Nat.lt_of_lt_of_le (K.w12 hv) w1
  have hcu := cur_iff K hn hp
  refine v_aload_n (dk cd_Mo_isCurrent 0 rfl) rfl ?_
  refine v_getf (dk cd_Mo_isCurrent 1 rfl) fg_Mo_71_Mo hM.2.2.1 (by rfl) ?_
  refine v_iload_n (dk cd_Mo_isCurrent 2 rfl) rfl ?_
  refine v_mldE (j := 20) (dk cd_Mo_isCurrent 3 rfl) hM (by decide) (by decide) (show _ < 40 by omega) (by decide) (R.ve _ hv).2.2.2.1 ?_
  refine v_aload_n (dk cd_Mo_isCurrent 4 rfl) rfl ?_
  refine v_mgi (n := 1) (dk cd_Mo_isCurrent 5 rfl) fg_Mo_187_Mo hM rfl R.ck ?_
  refine v_icmp_le (tgt := 42) (dk cd_Mo_isCurrent 6 rfl) rfl (fun q10 => ?_) (fun q10 => ?_)
  · refine v_iconst (v := 0) (dk cd_Mo_isCurrent 25 rfl) (by decide) ?_
    exact v_zret (dk cd_Mo_isCurrent 26 rfl) rfl rfl (rt_f (by first | (simp [isCur, q10]; done) | (have hz : ¬ y.2.2.1.1.getD (vAt S pg.1).1 none = some pg.1 := fun e => absurd q35 (Int32.not_lt.mpr (hcu.mpr e)); unfold isCur; rw [decide_eq_false hz, Bool.and_false])))
  · refine v_aload_n (dk cd_Mo_isCurrent 7 rfl) rfl ?_
    refine v_getf (dk cd_Mo_isCurrent 8 rfl) fg_Mo_116_Mo hM.2.2.1 (by rfl) ?_
    refine v_bipush (v := nI 12) (dk cd_Mo_isCurrent 9 rfl) (by decide) ?_
    refine v_iload_n (dk cd_Mo_isCurrent 10 rfl) rfl ?_
    refine v_imulN (dk cd_Mo_isCurrent 11 rfl) ?_
    refine v_aload_n (dk cd_Mo_isCurrent 12 rfl) rfl ?_
    refine v_getf (dk cd_Mo_isCurrent 13 rfl) fg_Mo_62_Mo hM.2.2.1 (by rfl) ?_
    refine v_iload_n (dk cd_Mo_isCurrent 14 rfl) rfl ?_
    refine v_mldE (j := 17) (dk cd_Mo_isCurrent 15 rfl) hM (by decide) (by decide) (show _ < 40 by omega) (by decide) (R.ve _ hv).1 ?_
    refine v_iaddN (dk cd_Mo_isCurrent 16 rfl) ?_
    refine v_mldE (j := 35) (dk cd_Mo_isCurrent 17 rfl) hM (by decide) (by decide) (show _ < 36 by omega) (by decide) ((R.hs h _ hn).2.2.2.2.2.2.1 _ hw).1 ?_
    refine v_aload_n (dk cd_Mo_isCurrent 18 rfl) rfl ?_
    refine v_getf (dk cd_Mo_isCurrent 19 rfl) fg_Mo_65_Mo hM.2.2.1 (by rfl) ?_
    refine v_iload_n (dk cd_Mo_isCurrent 20 rfl) rfl ?_
    refine v_mldE (j := 18) (dk cd_Mo_isCurrent 21 rfl) hM (by decide) (by decide) (show _ < 40 by omega) (by decide) (R.ve _ hv).2.1 ?_
    refine v_icmp_gt (tgt := 42) (dk cd_Mo_isCurrent 22 rfl) rfl (fun q35 => ?_) (fun q35 => ?_)
    · refine v_iconst (v := 0) (dk cd_Mo_isCurrent 25 rfl) (by decide) ?_
      exact v_zret (dk cd_Mo_isCurrent 26 rfl) rfl rfl (rt_f (by first | (simp [isCur, q10]; done) | (have hz : ¬ y.2.2.1.1.getD (vAt S pg.1).1 none = some pg.1 := fun e => absurd q35 (Int32.not_lt.mpr (hcu.mpr e)); unfold isCur; rw [decide_eq_false hz, Bool.and_false])))
    · refine v_iconst (v := 1) (dk cd_Mo_isCurrent 23 rfl) (by decide) ?_
      refine v_goto (tgt := 43) (dk cd_Mo_isCurrent 24 rfl) rfl ?_
      exact v_zret (dk cd_Mo_isCurrent 26 rfl) rfl rfl (rt_t (by have hz := hcu.mp (Int32.not_lt.mp q35); unfold isCur; rw [decide_eq_true hz, decide_eq_false q10]; rfl))
set_option maxRecDepth 100000 in
set_option maxHeartbeats 4000000 in
theorem Mo_shown_ok (hM : MH B a i f A) (R : Rel S t i f) (K : SOK S) : V (gg u) (d + 1) mm_Mo_shown 0 [some (.ref a), some (.int x), some (.int z), some (.int q), none, none, none] [] A (PM (xc [2, 0, 0, 1]) B a (spShown S x z q)) := by
  have w1 := K.wf.2.1
  have w2 := K.wf.2.2.1
  have w3 := K.wf.2.2.2.1
  have w4 := K.wf.2.2.2.2.1
  refine v_aload_n (dk cd_Mo_shown 0 rfl) rfl ?_
  refine v_aload_n (dk cd_Mo_shown 1 rfl) rfl ?_
  refine v_iload_n (dk cd_Mo_shown 2 rfl) rfl ?_
  refine v_rv (r := ("AreaWarningsModel", TT_Mo, 49)) (dk cd_Mo_shown 3 rfl) cv_Mo_257 rfl hM.2.2.1 (as := [_]) rfl rfl (Nat.le_of_ble_eq_true rfl) (by simp [Value.category]) (Mo_isHandset_ok hM R.nh) ?_
  refine v_ifeqB (tgt := 23) (dk cd_Mo_shown 4 rfl) rfl (fun q6 => ?_) (fun q6 => ?_)
  · refine v_iconst (v := nI 1) (dk cd_Mo_shown 13 rfl) (by decide) ?_
    refine v_goto (tgt := 41) (dk cd_Mo_shown 14 rfl) rfl ?_
    refine v_mput (k := 0) (n := 0) (dk cd_Mo_shown 23 rfl) fp_Mo_137_Mo (fun h => by cases h) hM (by decide) (fun A hM => ?_)
    refine v_aload_n (dk cd_Mo_shown 24 rfl) rfl ?_
    refine v_mgi (n := 0) (dk cd_Mo_shown 25 rfl) fg_Mo_137_Mo hM rfl (up1_same _ _ _) ?_
    refine v_if_le (tgt := 53) (dk cd_Mo_shown 26 rfl) rfl (fun q => absurd q (by decide)) (fun _ => ?_)
    refine v_iconst (v := nI 0) (dk cd_Mo_shown 27 rfl) (by decide) ?_
    exact v_iret (dk cd_Mo_shown 28 rfl) rfl (pmX (S' := S) (k := 3) hM (R.thr _) (by unfold spShown; rw [if_neg (fun h => by rw [q6] at h; cases h.1)]) rfl)
  · refine v_iload_n (dk cd_Mo_shown 5 rfl) rfl ?_
    refine v_if_lt (tgt := 23) (dk cd_Mo_shown 6 rfl) rfl (fun q10 => ?_) (fun q10 => ?_)
    · refine v_iconst (v := nI 1) (dk cd_Mo_shown 13 rfl) (by decide) ?_
      refine v_goto (tgt := 41) (dk cd_Mo_shown 14 rfl) rfl ?_
      refine v_mput (k := 0) (n := 0) (dk cd_Mo_shown 23 rfl) fp_Mo_137_Mo (fun h => by cases h) hM (by decide) (fun A hM => ?_)
      refine v_aload_n (dk cd_Mo_shown 24 rfl) rfl ?_
      refine v_mgi (n := 0) (dk cd_Mo_shown 25 rfl) fg_Mo_137_Mo hM rfl (up1_same _ _ _) ?_
      refine v_if_le (tgt := 53) (dk cd_Mo_shown 26 rfl) rfl (fun q => absurd q (by decide)) (fun _ => ?_)
      refine v_iconst (v := nI 0) (dk cd_Mo_shown 27 rfl) (by decide) ?_
      exact v_iret (dk cd_Mo_shown 28 rfl) rfl (pmX (S' := S) (k := 3) hM (R.thr _) (by unfold spShown; rw [if_neg (fun h => pIx_no (Or.inl q10) h.2)]) rfl)
    · obtain ⟨c, hcl, rfl, hc⟩ := hAt_get K q6
      have hok := (K.hk c _ hc).1
      have hcb := hok.2.2.2.2.2.2.1
      refine v_iload_n (dk cd_Mo_shown 7 rfl) rfl ?_
      refine v_aload_n (dk cd_Mo_shown 8 rfl) rfl ?_
      refine v_getf (dk cd_Mo_shown 9 rfl) fg_Mo_125_Mo hM.2.2.1 (by rfl) ?_
      refine v_iload_n (dk cd_Mo_shown 10 rfl) rfl ?_
      refine v_mldE (j := 38) (dk cd_Mo_shown 11 rfl) hM (by decide) (by decide) (show _ < 3 by omega) (by decide) (R.hs c _ hc).2.2.2.2.2.2.2.2.1 ?_
      refine v_icmp_lt (tgt := 27) (dk cd_Mo_shown 12 rfl) rfl (fun q20 => ?_) (fun q20 => ?_)
      · have hp := pIx_of q10 q20
        obtain ⟨k, hk, rfl⟩ := pIx_nat hp (by omega)
        have hkc : (nI k).toNatClampNeg = k := nI_clamp (by omega)
        have hin := getD_inP hk
        obtain ⟨hv, hvs, lk, hl3, hle⟩ := hok.2.2.2.2.2.2.2 _ hin
        have hw := K.w12 hv
        obtain ⟨s, hs⟩ := Option.isSome_iff_exists.mp hvs
        obtain ⟨e8, e9, e10⟩ := (R.hs c _ hc).2.2.2.2.2.2.2.2.2 k hk
        have e9 := e9.trans hle
        have hln : shLen S ((hAt S (nI c)).2.2.2.getD k (0, 0, 0)) = tl s.2.1.2 lk := by unfold shLen; rw [hs, hle, nI_clamp (by omega)]
        have h30 := (K.vw hv s hs).2 lk
        have hsp : spShown S (nI c) (nI k) q = (S, shVal S (hAt S (nI c)) ((hAt S (nI c)).2.2.2.getD k (0, 0, 0)) q) := by unfold spShown; rw [if_pos ⟨q6, hp⟩, hkc]
        refine v_iload_n (dk cd_Mo_shown 15 rfl) rfl ?_
        refine v_if_lt (tgt := 36) (dk cd_Mo_shown 16 rfl) rfl (fun q28 => ?_) (fun q28 => ?_)
        · refine v_iconst (v := nI 2) (dk cd_Mo_shown 20 rfl) (by decide) ?_
          refine v_goto (tgt := 41) (dk cd_Mo_shown 21 rfl) rfl ?_
          refine v_mput (k := 0) (n := 0) (dk cd_Mo_shown 23 rfl) fp_Mo_137_Mo (fun h => by cases h) hM (by decide) (fun A hM => ?_)
          refine v_aload_n (dk cd_Mo_shown 24 rfl) rfl ?_
          refine v_mgi (n := 0) (dk cd_Mo_shown 25 rfl) fg_Mo_137_Mo hM rfl (up1_same _ _ _) ?_
          refine v_if_le (tgt := 53) (dk cd_Mo_shown 26 rfl) rfl (fun q => absurd q (by decide)) (fun _ => ?_)
          refine v_iconst (v := nI 0) (dk cd_Mo_shown 27 rfl) (by decide) ?_
          exact v_iret (dk cd_Mo_shown 28 rfl) rfl (pmX (S' := S) (k := 0) hM (R.thr _) (by rw [hsp, shVal_out (Or.inl q28)]) rfl)
        · refine v_iload_n (dk cd_Mo_shown 17 rfl) rfl ?_
          refine v_iconst (v := 5) (dk cd_Mo_shown 18 rfl) (by decide) ?_
          refine v_icmp_le (tgt := 40) (dk cd_Mo_shown 19 rfl) rfl (fun q33 => ?_) (fun q33 => ?_)
          · refine v_iconst (v := nI 0) (dk cd_Mo_shown 22 rfl) (by decide) ?_
            refine v_mput (k := 0) (n := 0) (dk cd_Mo_shown 23 rfl) fp_Mo_137_Mo (fun h => by cases h) hM (by decide) (fun A hM => ?_)
            refine v_aload_n (dk cd_Mo_shown 24 rfl) rfl ?_
            refine v_mgi (n := 0) (dk cd_Mo_shown 25 rfl) fg_Mo_137_Mo hM rfl (up1_same _ _ _) ?_
            refine v_if_le (tgt := 53) (dk cd_Mo_shown 26 rfl) rfl (fun _ => ?_) (fun q => absurd (by decide) q)
            refine v_bipush (v := nI 40) (dk cd_Mo_shown 29 rfl) (by decide) ?_
            refine v_iload_n (dk cd_Mo_shown 30 rfl) rfl ?_
            refine v_imulN (dk cd_Mo_shown 31 rfl) ?_
            refine v_iload_n (dk cd_Mo_shown 32 rfl) rfl ?_
            refine v_iaddN (dk cd_Mo_shown 33 rfl) ?_
            refine v_istore (dk cd_Mo_shown 34 rfl) (by decide) rfl ?_
            refine v_aload_n (dk cd_Mo_shown 35 rfl) rfl ?_
            refine v_getf (dk cd_Mo_shown 36 rfl) fg_Mo_128_Mo hM.2.2.1 (by rfl) ?_
            refine v_iload (dk cd_Mo_shown 37 rfl) rfl ?_
            refine v_mldE (j := 39) (dk cd_Mo_shown 38 rfl) hM (by decide) (by decide) (show _ < 120 by omega) (by decide) e8 ?_
            refine v_istore (dk cd_Mo_shown 39 rfl) (by decide) rfl ?_
            refine v_aload_n (dk cd_Mo_shown 40 rfl) rfl ?_
            refine v_getf (dk cd_Mo_shown 41 rfl) fg_Mo_131_Mo hM.2.2.1 (by rfl) ?_
            refine v_iload (dk cd_Mo_shown 42 rfl) rfl ?_
            refine v_mldE (j := 40) (dk cd_Mo_shown 43 rfl) hM (by decide) (by decide) (show _ < 120 by omega) (by decide) e9 ?_
            refine v_istore (dk cd_Mo_shown 44 rfl) (by decide) rfl ?_
            refine v_iload_n (dk cd_Mo_shown 45 rfl) rfl ?_
            refine v_iconst (v := 3) (dk cd_Mo_shown 46 rfl) (by decide) ?_
            refine v_icmp_le (tgt := 120) (dk cd_Mo_shown 47 rfl) rfl (fun q81 => ?_) (fun q81 => ?_)
            · refine v_iload_n (dk cd_Mo_shown 69 rfl) rfl ?_
              refine v_if_ne (tgt := 139) (dk cd_Mo_shown 70 rfl) rfl (fun q121 => ?_) (fun q121 => ?_)
              · refine v_iload_n (dk cd_Mo_shown 79 rfl) rfl ?_
                refine v_iconst (v := 1) (dk cd_Mo_shown 80 rfl) (by decide) ?_
                refine v_icmp_ne (tgt := 154) (dk cd_Mo_shown 81 rfl) rfl (fun q141 => ?_) (fun q141 => ?_)
                · refine v_iload_n (dk cd_Mo_shown 87 rfl) rfl ?_
                  refine v_iconst (v := 2) (dk cd_Mo_shown 88 rfl) (by decide) ?_
                  refine v_icmp_ne (tgt := 164) (dk cd_Mo_shown 89 rfl) rfl (fun q156 => ?_) (fun q156 => ?_)
                  · have h3 := is3 q28 q81 q121 q141 q156
                    refine v_aload_n (dk cd_Mo_shown 92 rfl) rfl ?_
                    refine v_getf (dk cd_Mo_shown 93 rfl) fg_Mo_134_Mo hM.2.2.1 (by rfl) ?_
                    refine v_iload (dk cd_Mo_shown 94 rfl) rfl ?_
                    refine v_mldE (j := 41) (dk cd_Mo_shown 95 rfl) hM (by decide) (by decide) (show _ < 120 by omega) (by decide) e10 ?_
                    exact v_iret (dk cd_Mo_shown 96 rfl) rfl (pmV hM (R.thr _) rfl (by rw [hsp]; unfold shVal; rw [if_neg q121, if_neg q141, if_neg q156, if_pos h3]))
                  · refine v_iload (dk cd_Mo_shown 90 rfl) rfl ?_
                    refine v_goto (tgt := 171) (dk cd_Mo_shown 91 rfl) rfl ?_
                    exact v_iret (dk cd_Mo_shown 96 rfl) rfl (pmV hM (R.thr _) rfl (by rw [hsp]; unfold shVal; rw [if_neg q121, if_neg q141, if_pos q156, hle]))
                · refine v_aload_n (dk cd_Mo_shown 82 rfl) rfl ?_
                  refine v_getf (dk cd_Mo_shown 83 rfl) fg_Mo_65_Mo hM.2.2.1 (by rfl) ?_
                  refine v_iload (dk cd_Mo_shown 84 rfl) rfl ?_
                  refine v_mldE (j := 18) (dk cd_Mo_shown 85 rfl) hM (by decide) (by decide) (show _ < 40 by omega) (by decide) (R.ve _ hv).2.1 ?_
                  refine v_goto (tgt := 171) (dk cd_Mo_shown 86 rfl) rfl ?_
                  exact v_iret (dk cd_Mo_shown 96 rfl) rfl (pmV hM (R.thr _) rfl (by rw [hsp]; unfold shVal; rw [if_neg q121, if_pos q141]))
              · refine v_aload_n (dk cd_Mo_shown 71 rfl) rfl ?_
                refine v_getf (dk cd_Mo_shown 72 rfl) fg_Mo_56_Mo hM.2.2.1 (by rfl) ?_
                refine v_aload_n (dk cd_Mo_shown 73 rfl) rfl ?_
                refine v_getf (dk cd_Mo_shown 74 rfl) fg_Mo_62_Mo hM.2.2.1 (by rfl) ?_
                refine v_iload (dk cd_Mo_shown 75 rfl) rfl ?_
                refine v_mldE (j := 17) (dk cd_Mo_shown 76 rfl) hM (by decide) (by decide) (show _ < 40 by omega) (by decide) (R.ve _ hv).1 ?_
                refine v_mldE (j := 15) (dk cd_Mo_shown 77 rfl) hM (by decide) (by decide) (show _ < 12 by omega) (by decide) (R.wa _ hw).1 ?_
                refine v_goto (tgt := 171) (dk cd_Mo_shown 78 rfl) rfl ?_
                exact v_iret (dk cd_Mo_shown 96 rfl) rfl (pmV hM (R.thr _) rfl (by rw [hsp]; unfold shVal; rw [if_pos q121]))
            · refine v_iload_n (dk cd_Mo_shown 48 rfl) rfl ?_
              refine v_iconst (v := 5) (dk cd_Mo_shown 49 rfl) (by decide) ?_
              refine v_icmp_ne (tgt := 104) (dk cd_Mo_shown 50 rfl) rfl (fun q86 => ?_) (fun q86 => ?_)
              · have h4 := is45 q81 q33 q86
                refine v_aload_n (dk cd_Mo_shown 60 rfl) rfl ?_
                refine v_iload_n (dk cd_Mo_shown 61 rfl) rfl ?_
                refine v_iload (dk cd_Mo_shown 62 rfl) rfl ?_
                refine v_rv (r := ("AreaWarningsModel", TT_Mo, 49)) (dk cd_Mo_shown 63 rfl) cv_Mo_260 rfl hM.2.2.1 (as := [_, _]) rfl rfl (Nat.le_of_ble_eq_true rfl) (by simp [Value.category]) (Mo_isCurrent_ok hM (R.thr _) K hc hin) ?_
                refine v_ifeqB (tgt := 118) (dk cd_Mo_shown 64 rfl) rfl (fun q111 => ?_) (fun q111 => ?_)
                · refine v_iconst (v := 0) (dk cd_Mo_shown 67 rfl) (by decide) ?_
                  exact v_iret (dk cd_Mo_shown 68 rfl) rfl (pmV hM (R.thr _) rfl (by rw [hsp]; subst h4; unfold shVal; rw [if_neg (by decide), if_neg (by decide), if_neg (by decide), if_neg (by decide), if_pos rfl, q111]; rfl))
                · refine v_iconst (v := 1) (dk cd_Mo_shown 65 rfl) (by decide) ?_
                  refine v_goto (tgt := 119) (dk cd_Mo_shown 66 rfl) rfl ?_
                  exact v_iret (dk cd_Mo_shown 68 rfl) rfl (pmV hM (R.thr _) rfl (by rw [hsp]; subst h4; unfold shVal; rw [if_neg (by decide), if_neg (by decide), if_neg (by decide), if_neg (by decide), if_pos rfl, q111]; rfl))
              · refine v_aload_n (dk cd_Mo_shown 51 rfl) rfl ?_
                refine v_getf (dk cd_Mo_shown 52 rfl) fg_Mo_92_Mo hM.2.2.1 (by rfl) ?_
                refine v_iconst (v := nI 3) (dk cd_Mo_shown 53 rfl) (by decide) ?_
                refine v_iload (dk cd_Mo_shown 54 rfl) rfl ?_
                refine v_imulN (dk cd_Mo_shown 55 rfl) ?_
                refine v_iload (dk cd_Mo_shown 56 rfl) rfl ?_
                refine v_iaddN (dk cd_Mo_shown 57 rfl) ?_
                refine v_mldE (j := 27) (dk cd_Mo_shown 58 rfl) hM (by decide) (by decide) (show _ < 120 by omega) (by decide) (((R.ve _ hv).2.2.2.2.2 s hs).2.2.2.2 lk hl3).1 ?_
                refine v_goto (tgt := 119) (dk cd_Mo_shown 59 rfl) rfl ?_
                exact v_iret (dk cd_Mo_shown 68 rfl) rfl (pmV hM (R.thr _) rfl (by rw [hsp]; subst q86; unfold shVal; rw [if_neg (by decide), if_neg (by decide), if_neg (by decide), if_neg (by decide), if_neg (by decide), if_pos rfl, hln]))
          · refine v_iconst (v := nI 2) (dk cd_Mo_shown 20 rfl) (by decide) ?_
            refine v_goto (tgt := 41) (dk cd_Mo_shown 21 rfl) rfl ?_
            refine v_mput (k := 0) (n := 0) (dk cd_Mo_shown 23 rfl) fp_Mo_137_Mo (fun h => by cases h) hM (by decide) (fun A hM => ?_)
            refine v_aload_n (dk cd_Mo_shown 24 rfl) rfl ?_
            refine v_mgi (n := 0) (dk cd_Mo_shown 25 rfl) fg_Mo_137_Mo hM rfl (up1_same _ _ _) ?_
            refine v_if_le (tgt := 53) (dk cd_Mo_shown 26 rfl) rfl (fun q => absurd q (by decide)) (fun _ => ?_)
            refine v_iconst (v := nI 0) (dk cd_Mo_shown 27 rfl) (by decide) ?_
            exact v_iret (dk cd_Mo_shown 28 rfl) rfl (pmX (S' := S) (k := 0) hM (R.thr _) (by rw [hsp, shVal_out (Or.inr q33)]) rfl)
      · refine v_iconst (v := nI 1) (dk cd_Mo_shown 13 rfl) (by decide) ?_
        refine v_goto (tgt := 41) (dk cd_Mo_shown 14 rfl) rfl ?_
        refine v_mput (k := 0) (n := 0) (dk cd_Mo_shown 23 rfl) fp_Mo_137_Mo (fun h => by cases h) hM (by decide) (fun A hM => ?_)
        refine v_aload_n (dk cd_Mo_shown 24 rfl) rfl ?_
        refine v_mgi (n := 0) (dk cd_Mo_shown 25 rfl) fg_Mo_137_Mo hM rfl (up1_same _ _ _) ?_
        refine v_if_le (tgt := 53) (dk cd_Mo_shown 26 rfl) rfl (fun q => absurd q (by decide)) (fun _ => ?_)
        refine v_iconst (v := nI 0) (dk cd_Mo_shown 27 rfl) (by decide) ?_
        exact v_iret (dk cd_Mo_shown 28 rfl) rfl (pmX (S' := S) (k := 3) hM (R.thr _) (by unfold spShown; rw [if_neg (fun h => pIx_no (Or.inr q20) h.2)]) rfl)
set_option maxRecDepth 100000 in
set_option maxHeartbeats 4000000 in
theorem Mo_shownByte_ok (hM : MH B a i f A) (R : Rel S t i f) (K : SOK S) : V (gg u) (d + 1) mm_Mo_shownByte 0 [some (.ref a), some (.int x), some (.int z), some (.int q), none, none] [] A (PM (xc [0, 0, 0, 1]) B a (spShownByte S x z q)) := by
  have w1 := K.wf.2.1
  have w2 := K.wf.2.2.1
  have w3 := K.wf.2.2.2.1
  have w4 := K.wf.2.2.2.2.1
  refine v_aload_n (dk cd_Mo_shownByte 0 rfl) rfl ?_
  refine v_aload_n (dk cd_Mo_shownByte 1 rfl) rfl ?_
  refine v_iload_n (dk cd_Mo_shownByte 2 rfl) rfl ?_
  refine v_rv (r := ("AreaWarningsModel", TT_Mo, 49)) (dk cd_Mo_shownByte 3 rfl) cv_Mo_257 rfl hM.2.2.1 (as := [_]) rfl rfl (Nat.le_of_ble_eq_true rfl) (by simp [Value.category]) (Mo_isHandset_ok hM R.nh) ?_
  refine v_ifeqB (tgt := 23) (dk cd_Mo_shownByte 4 rfl) rfl (fun q6 => ?_) (fun q6 => ?_)
  · refine v_iconst (v := nI 1) (dk cd_Mo_shownByte 13 rfl) (by decide) ?_
    refine v_goto (tgt := 28) (dk cd_Mo_shownByte 14 rfl) rfl ?_
    refine v_mput (k := 0) (n := 0) (dk cd_Mo_shownByte 16 rfl) fp_Mo_137_Mo (fun h => by cases h) hM (by decide) (fun A hM => ?_)
    refine v_aload_n (dk cd_Mo_shownByte 17 rfl) rfl ?_
    refine v_mgi (n := 0) (dk cd_Mo_shownByte 18 rfl) fg_Mo_137_Mo hM rfl (up1_same _ _ _) ?_
    refine v_if_le (tgt := 40) (dk cd_Mo_shownByte 19 rfl) rfl (fun q => absurd q (by decide)) (fun _ => ?_)
    refine v_iconst (v := nI 0) (dk cd_Mo_shownByte 20 rfl) (by decide) ?_
    exact v_iret (dk cd_Mo_shownByte 21 rfl) rfl (pmX (S' := S) (k := 3) hM (R.thr _) (by unfold spShownByte; rw [if_neg (fun h => by rw [q6] at h; cases h.1)]) rfl)
  · refine v_iload_n (dk cd_Mo_shownByte 5 rfl) rfl ?_
    refine v_if_lt (tgt := 23) (dk cd_Mo_shownByte 6 rfl) rfl (fun q10 => ?_) (fun q10 => ?_)
    · refine v_iconst (v := nI 1) (dk cd_Mo_shownByte 13 rfl) (by decide) ?_
      refine v_goto (tgt := 28) (dk cd_Mo_shownByte 14 rfl) rfl ?_
      refine v_mput (k := 0) (n := 0) (dk cd_Mo_shownByte 16 rfl) fp_Mo_137_Mo (fun h => by cases h) hM (by decide) (fun A hM => ?_)
      refine v_aload_n (dk cd_Mo_shownByte 17 rfl) rfl ?_
      refine v_mgi (n := 0) (dk cd_Mo_shownByte 18 rfl) fg_Mo_137_Mo hM rfl (up1_same _ _ _) ?_
      refine v_if_le (tgt := 40) (dk cd_Mo_shownByte 19 rfl) rfl (fun q => absurd q (by decide)) (fun _ => ?_)
      refine v_iconst (v := nI 0) (dk cd_Mo_shownByte 20 rfl) (by decide) ?_
      exact v_iret (dk cd_Mo_shownByte 21 rfl) rfl (pmX (S' := S) (k := 3) hM (R.thr _) (by unfold spShownByte; rw [if_neg (fun h => pIx_no (Or.inl q10) h.2.1)]) rfl)
    · obtain ⟨c, hcl, rfl, hc⟩ := hAt_get K q6
      have hok := (K.hk c _ hc).1
      have hcb := hok.2.2.2.2.2.2.1
      refine v_iload_n (dk cd_Mo_shownByte 7 rfl) rfl ?_
      refine v_aload_n (dk cd_Mo_shownByte 8 rfl) rfl ?_
      refine v_getf (dk cd_Mo_shownByte 9 rfl) fg_Mo_125_Mo hM.2.2.1 (by rfl) ?_
      refine v_iload_n (dk cd_Mo_shownByte 10 rfl) rfl ?_
      refine v_mldE (j := 38) (dk cd_Mo_shownByte 11 rfl) hM (by decide) (by decide) (show _ < 3 by omega) (by decide) (R.hs c _ hc).2.2.2.2.2.2.2.2.1 ?_
      refine v_icmp_lt (tgt := 27) (dk cd_Mo_shownByte 12 rfl) rfl (fun q20 => ?_) (fun q20 => ?_)
      · refine v_iconst (v := nI 0) (dk cd_Mo_shownByte 15 rfl) (by decide) ?_
        refine v_mput (k := 0) (n := 0) (dk cd_Mo_shownByte 16 rfl) fp_Mo_137_Mo (fun h => by cases h) hM (by decide) (fun A hM => ?_)
        refine v_aload_n (dk cd_Mo_shownByte 17 rfl) rfl ?_
        refine v_mgi (n := 0) (dk cd_Mo_shownByte 18 rfl) fg_Mo_137_Mo hM rfl (up1_same _ _ _) ?_
        refine v_if_le (tgt := 40) (dk cd_Mo_shownByte 19 rfl) rfl (fun _ => ?_) (fun q => absurd (by decide) q)
        have hp := pIx_of q10 q20
        obtain ⟨k, hk, rfl⟩ := pIx_nat hp (by omega)
        have hkc : (nI k).toNatClampNeg = k := nI_clamp (by omega)
        have hin := getD_inP hk
        obtain ⟨hv, hvs, lk, hl3, hle⟩ := hok.2.2.2.2.2.2.2 _ hin
        have hw := K.w12 hv
        obtain ⟨s, hs⟩ := Option.isSome_iff_exists.mp hvs
        obtain ⟨e8, e9, e10⟩ := (R.hs c _ hc).2.2.2.2.2.2.2.2.2 k hk
        have e9 := e9.trans hle
        have hln : shLen S ((hAt S (nI c)).2.2.2.getD k (0, 0, 0)) = tl s.2.1.2 lk := by unfold shLen; rw [hs, hle, nI_clamp (by omega)]
        have h30 := (K.vw hv s hs).2 lk
        refine v_aload_n (dk cd_Mo_shownByte 22 rfl) rfl ?_
        refine v_getf (dk cd_Mo_shownByte 23 rfl) fg_Mo_128_Mo hM.2.2.1 (by rfl) ?_
        refine v_bipush (v := nI 40) (dk cd_Mo_shownByte 24 rfl) (by decide) ?_
        refine v_iload_n (dk cd_Mo_shownByte 25 rfl) rfl ?_
        refine v_imulN (dk cd_Mo_shownByte 26 rfl) ?_
        refine v_iload_n (dk cd_Mo_shownByte 27 rfl) rfl ?_
        refine v_iaddN (dk cd_Mo_shownByte 28 rfl) ?_
        refine v_mldE (j := 39) (dk cd_Mo_shownByte 29 rfl) hM (by decide) (by decide) (show _ < 120 by omega) (by decide) e8 ?_
        refine v_istore (dk cd_Mo_shownByte 30 rfl) (by decide) rfl ?_
        refine v_aload_n (dk cd_Mo_shownByte 31 rfl) rfl ?_
        refine v_getf (dk cd_Mo_shownByte 32 rfl) fg_Mo_131_Mo hM.2.2.1 (by rfl) ?_
        refine v_bipush (v := nI 40) (dk cd_Mo_shownByte 33 rfl) (by decide) ?_
        refine v_iload_n (dk cd_Mo_shownByte 34 rfl) rfl ?_
        refine v_imulN (dk cd_Mo_shownByte 35 rfl) ?_
        refine v_iload_n (dk cd_Mo_shownByte 36 rfl) rfl ?_
        refine v_iaddN (dk cd_Mo_shownByte 37 rfl) ?_
        refine v_mldE (j := 40) (dk cd_Mo_shownByte 38 rfl) hM (by decide) (by decide) (show _ < 120 by omega) (by decide) e9 ?_
        refine v_istore (dk cd_Mo_shownByte 39 rfl) (by decide) rfl ?_
        refine v_aload_n (dk cd_Mo_shownByte 40 rfl) rfl ?_
        refine v_iload_n (dk cd_Mo_shownByte 41 rfl) rfl ?_
        refine v_if_lt (tgt := 87) (dk cd_Mo_shownByte 42 rfl) rfl (fun q68 => ?_) (fun q68 => ?_)
        · refine v_iconst (v := nI 1) (dk cd_Mo_shownByte 53 rfl) (by decide) ?_
          refine v_goto (tgt := 92) (dk cd_Mo_shownByte 54 rfl) rfl ?_
          refine v_mput (k := 0) (n := 0) (dk cd_Mo_shownByte 56 rfl) fp_Mo_137_Mo (fun h => by cases h) hM (by decide) (fun A hM => ?_)
          refine v_aload_n (dk cd_Mo_shownByte 57 rfl) rfl ?_
          refine v_mgi (n := 0) (dk cd_Mo_shownByte 58 rfl) fg_Mo_137_Mo hM rfl (up1_same _ _ _) ?_
          refine v_if_le (tgt := 106) (dk cd_Mo_shownByte 59 rfl) rfl (fun q => absurd q (by decide)) (fun _ => ?_)
          refine v_iconst (v := nI 0) (dk cd_Mo_shownByte 60 rfl) (by decide) ?_
          refine v_goto (tgt := 124) (dk cd_Mo_shownByte 61 rfl) rfl ?_
          exact v_iret (dk cd_Mo_shownByte 74 rfl) rfl (pmX (S' := S) (k := 3) hM ((R.thr _).thr _) (by unfold spShownByte; rw [if_neg (fun h => pIx_no (Or.inl q68) (by have := h.2.2; exact this))]) rfl)
        · refine v_iload_n (dk cd_Mo_shownByte 43 rfl) rfl ?_
          refine v_aload_n (dk cd_Mo_shownByte 44 rfl) rfl ?_
          refine v_getf (dk cd_Mo_shownByte 45 rfl) fg_Mo_92_Mo hM.2.2.1 (by rfl) ?_
          refine v_iconst (v := nI 3) (dk cd_Mo_shownByte 46 rfl) (by decide) ?_
          refine v_iload (dk cd_Mo_shownByte 47 rfl) rfl ?_
          refine v_imulN (dk cd_Mo_shownByte 48 rfl) ?_
          refine v_iload (dk cd_Mo_shownByte 49 rfl) rfl ?_
          refine v_iaddN (dk cd_Mo_shownByte 50 rfl) ?_
          refine v_mldE (j := 27) (dk cd_Mo_shownByte 51 rfl) hM (by decide) (by decide) (show _ < 120 by omega) (by decide) (((R.ve _ hv).2.2.2.2.2 s hs).2.2.2.2 lk hl3).1 ?_
          refine v_icmp_lt (tgt := 91) (dk cd_Mo_shownByte 52 rfl) rfl (fun q84 => ?_) (fun q84 => ?_)
          · refine v_iconst (v := nI 0) (dk cd_Mo_shownByte 55 rfl) (by decide) ?_
            refine v_mput (k := 0) (n := 0) (dk cd_Mo_shownByte 56 rfl) fp_Mo_137_Mo (fun h => by cases h) hM (by decide) (fun A hM => ?_)
            refine v_aload_n (dk cd_Mo_shownByte 57 rfl) rfl ?_
            refine v_mgi (n := 0) (dk cd_Mo_shownByte 58 rfl) fg_Mo_137_Mo hM rfl (up1_same _ _ _) ?_
            refine v_if_le (tgt := 106) (dk cd_Mo_shownByte 59 rfl) rfl (fun _ => ?_) (fun q => absurd (by decide) q)
            have hq := pIx_of q68 q84
            obtain ⟨m, hm, rfl⟩ := pIx_nat hq (by omega)
            have hmc : (nI m).toNatClampNeg = m := nI_clamp (by omega)
            refine v_aload_n (dk cd_Mo_shownByte 62 rfl) rfl ?_
            refine v_getf (dk cd_Mo_shownByte 63 rfl) fg_Mo_95_Mo hM.2.2.1 (by rfl) ?_
            refine v_bipush (v := nI 90) (dk cd_Mo_shownByte 64 rfl) (by decide) ?_
            refine v_iload (dk cd_Mo_shownByte 65 rfl) rfl ?_
            refine v_imulN (dk cd_Mo_shownByte 66 rfl) ?_
            refine v_bipush (v := nI 30) (dk cd_Mo_shownByte 67 rfl) (by decide) ?_
            refine v_iload (dk cd_Mo_shownByte 68 rfl) rfl ?_
            refine v_imulN (dk cd_Mo_shownByte 69 rfl) ?_
            refine v_iaddN (dk cd_Mo_shownByte 70 rfl) ?_
            refine v_iload_n (dk cd_Mo_shownByte 71 rfl) rfl ?_
            refine v_iaddN (dk cd_Mo_shownByte 72 rfl) ?_
            refine v_mldE (j := 28) (dk cd_Mo_shownByte 73 rfl) hM (by decide) (by decide) (show _ < 3600 by omega) (by decide) ((((R.ve _ hv).2.2.2.2.2 s hs).2.2.2.2 lk hl3).2 m hm) ?_
            exact v_iret (dk cd_Mo_shownByte 74 rfl) rfl (pmV hM ((R.thr _).thr _) rfl (by unfold spShownByte; rw [if_pos ⟨q6, hp, by rw [hkc, hln]; exact hq⟩, hkc, hmc, hs, hle, nI_clamp (by omega)]))
          · refine v_iconst (v := nI 1) (dk cd_Mo_shownByte 53 rfl) (by decide) ?_
            refine v_goto (tgt := 92) (dk cd_Mo_shownByte 54 rfl) rfl ?_
            refine v_mput (k := 0) (n := 0) (dk cd_Mo_shownByte 56 rfl) fp_Mo_137_Mo (fun h => by cases h) hM (by decide) (fun A hM => ?_)
            refine v_aload_n (dk cd_Mo_shownByte 57 rfl) rfl ?_
            refine v_mgi (n := 0) (dk cd_Mo_shownByte 58 rfl) fg_Mo_137_Mo hM rfl (up1_same _ _ _) ?_
            refine v_if_le (tgt := 106) (dk cd_Mo_shownByte 59 rfl) rfl (fun q => absurd q (by decide)) (fun _ => ?_)
            refine v_iconst (v := nI 0) (dk cd_Mo_shownByte 60 rfl) (by decide) ?_
            refine v_goto (tgt := 124) (dk cd_Mo_shownByte 61 rfl) rfl ?_
            exact v_iret (dk cd_Mo_shownByte 74 rfl) rfl (pmX (S' := S) (k := 3) hM ((R.thr _).thr _) (by unfold spShownByte; rw [if_neg (fun h => pIx_no (Or.inr q84) (by have := h.2.2; rw [hkc, hln] at this; exact this))]) rfl)
      · refine v_iconst (v := nI 1) (dk cd_Mo_shownByte 13 rfl) (by decide) ?_
        refine v_goto (tgt := 28) (dk cd_Mo_shownByte 14 rfl) rfl ?_
        refine v_mput (k := 0) (n := 0) (dk cd_Mo_shownByte 16 rfl) fp_Mo_137_Mo (fun h => by cases h) hM (by decide) (fun A hM => ?_)
        refine v_aload_n (dk cd_Mo_shownByte 17 rfl) rfl ?_
        refine v_mgi (n := 0) (dk cd_Mo_shownByte 18 rfl) fg_Mo_137_Mo hM rfl (up1_same _ _ _) ?_
        refine v_if_le (tgt := 40) (dk cd_Mo_shownByte 19 rfl) rfl (fun q => absurd q (by decide)) (fun _ => ?_)
        refine v_iconst (v := nI 0) (dk cd_Mo_shownByte 20 rfl) (by decide) ?_
        exact v_iret (dk cd_Mo_shownByte 21 rfl) rfl (pmX (S' := S) (k := 3) hM (R.thr _) (by unfold spShownByte; rw [if_neg (fun h => pIx_no (Or.inr q20) h.2.1)]) rfl)
end MX
