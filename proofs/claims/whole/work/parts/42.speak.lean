/-! speak -/
def eT : Pts × Tx := ([], [[], [], []])
def adM (ad : Nat → Nat → Nat) (n : Nat) : Nat → Nat → Nat := fun κ i => if 4 ≤ κ ∧ κ < 14 ∧ i = 99 then n + (κ - 4) else ad κ i
def tsS (S : SS) (w : Nat) (v : VeS) : SS := addVe (setTy S eT) w v
def cAtN (S : SS) (j : Nat) : CeS := (sCells S).getD j cD
def rch (S : SS) (a : Pts) (j : Nat) : Bool := cReach a (cAtN S j).1.1 (cAtN S j).1.2.1 (cAtN S j).1.2.2
def cvTo (S : SS) (a : Pts) : Nat → List Bool
  | 0 => List.replicate 8 false
  | k + 1 => (cvTo S a k).set k (rch S a k)
def cvN (S : SS) (a : Pts) : Nat → Nat
  | 0 => 0
  | k + 1 => cvN S a k + if rch S a k = true then 1 else 0
theorem cvTo_len (S : SS) (a : Pts) (k : Nat) : (cvTo S a k).length = 8 := by
  induction k with
  | zero => simp [cvTo]
  | succ k ih => simp [cvTo, ih]
theorem cvN_le (S : SS) (a : Pts) (k : Nat) : cvN S a k ≤ k := by
  induction k with
  | zero => simp [cvN]
  | succ k ih => simp only [cvN]; split <;> omega
/-- the version that is spoken -/
def spV (S : SS) (w : Nat) (z sev en bg sp : Int32) (k : Nat) : VeS := (w, (z, sev, en), some ((bg, sp), sTyped S, cvTo S (sTyped S).1 k))
section G8
variable {u : Ux} {d : Nat} {A : AH} {F : Nat → Option AC} {S : SS} {ad : Nat → Nat → Nat}
theorem CMsg_new {B : AH} {n : Nat} (had : ∀ κ, 4 ≤ κ → κ < 14 → ad κ 99 = n + (κ - 4)) (d0 : B.1 n = some (5, [.ref (n + 1), .ref (n + 4)])) (hl : ∀ k x, (meL (n + 1))[k]? = some x → B.1 (n + 1 + k) = some x) : ∀ κ, 4 ≤ κ → κ < 14 → ∃ x, B.1 (ad κ 99) = some x ∧ CMsg eT ad 99 κ x := by
  intro κ h1 h2
  rw [had κ h1 h2]
  have g : ∀ κ, 4 ≤ κ → κ < 14 → ad κ 99 = n + (κ - 4) := had
  rcases k4 h1 h2 with rfl | rfl | rfl | rfl | rfl | rfl | rfl | rfl | rfl | rfl
  · refine ⟨_, d0, ?_⟩
    show _ = _
    rw [g 5 (by omega) (by omega), g 8 (by omega) (by omega)]
  · refine ⟨_, hl 0 _ rfl, ?_⟩
    show _ = _
    rw [g 6 (by omega) (by omega), g 7 (by omega) (by omega)]
    rfl
  · exact ⟨_, hl 1 _ rfl, List.replicate 8 (.int 0), rfl, rfl⟩
  · exact ⟨_, hl 2 _ rfl, List.replicate 8 (.int 0), rfl, rfl⟩
  · refine ⟨_, hl 3 _ rfl, ?_⟩
    show _ = _
    rw [g 9 (by omega) (by omega), g 13 (by omega) (by omega)]
  · refine ⟨_, hl 4 _ rfl, ?_⟩
    show _ = _
    rw [g 10 (by omega) (by omega), g 11 (by omega) (by omega), g 12 (by omega) (by omega)]
  · exact ⟨_, hl 5 _ rfl, List.replicate 30 (.int 0), rfl, rfl⟩
  · exact ⟨_, hl 6 _ rfl, List.replicate 30 (.int 0), rfl, rfl⟩
  · exact ⟨_, hl 7 _ rfl, List.replicate 30 (.int 0), rfl, rfl⟩
  · exact ⟨_, hl 8 _ rfl, rfl⟩
theorem tsS_set {S : SS} {w : Nat} {v v' : VeS} : setVs (tsS S w v) ((sVers (tsS S w v)).set (sVers S).length v') = tsS S w v' := by
  show setVs (tsS S w v) ((sVers S ++ [v]).set (sVers S).length v') = _
  rw [List.set_append_right _ _ (Nat.le_refl _), Nat.sub_self]
  rfl
/-- the version takes the typed message, another one is typed -/
theorem Inv.speak {w o cv : Nat} {z sev en bg sp : Int32} {B : AH} {x0 : Value} (I : Inv F S ad A) (h40 : (sVers S).length < 40) (hw : w < (sWarn S).length) (hwc : A.1 (ad 20 w) = some (8, [.int (wId S w), .int (nI w), x0]))
    (l21 : ad 21 (sVers S).length = o) (l22 : ad 22 (sVers S).length = cv) (lm : ∀ κ, 5 ≤ κ → κ < 14 → ad κ (sVers S).length = ad κ 99)
    (ho : A.1 o = some (6, [.ref (ad 20 w), .int z, .int sev, .int en, .int bg, .int sp, .ref (ad 5 99), .ref (ad 8 99), .ref cv])) (hcv : A.1 cv = some (101, List.replicate 8 (.int 0)))
    (no : ∀ κ i, LV S κ i → o ≠ ad κ i) (nc : ∀ κ i, LV S κ i → cv ≠ ad κ i) (Fo : F o = none) (Fc : F cv = none) (noc : o ≠ cv)
    (hs : ∀ q, q < A.2.1 → q ≠ ad 0 0 → q ≠ ad 20 w → B.1 q = A.1 q) (hz : ∀ q, A.2.1 + 10 ≤ q → B.1 q = A.1 q) (e1 : B.2.1 = A.2.1 + 10)
    (c0 : B.1 (ad 0 0) = some (0, [.int (sClock S), .ref (ad 1 0), .int (nI (sCells S).length), .ref (ad 2 0), .int (nI (sWarn S).length), .int (nI ((sVers S).length + 1)), .ref (ad 3 0), .int (nI (sHs S).length), .ref A.2.1]))
    (cw : B.1 (ad 20 w) = some (8, [.int (wId S w), .int (nI w), .ref o])) (d0 : B.1 A.2.1 = some (5, [.ref (A.2.1 + 1), .ref (A.2.1 + 4)])) (hl : ∀ k x, (meL (A.2.1 + 1))[k]? = some x → B.1 (A.2.1 + 1 + k) = some x) :
    Inv F (tsS S w (spV S w z sev en bg sp 0)) (adM ad A.2.1) B := by
  have L0 : LV S 0 0 := Or.inl ⟨by omega, rfl⟩
  have Lw : LV S 20 w := Or.inr (Or.inr (Or.inr (Or.inl ⟨rfl, hw⟩)))
  have n0w := I.ne L0 Lw (Or.inl (by omega))
  have hoA := I.2.2.2 _ _ ho
  have hcA := I.2.2.2 _ _ hcv
  have hwA := I.old Lw
  have h0A := I.old L0
  have had : ∀ κ i, ¬ (4 ≤ κ ∧ κ < 14 ∧ i = 99) → adM ad A.2.1 κ i = ad κ i := fun κ i h => if_neg h
  have hnw : ∀ κ, 4 ≤ κ → κ < 14 → adM ad A.2.1 κ 99 = A.2.1 + (κ - 4) := fun κ h1 h2 => if_pos ⟨h1, h2, rfl⟩
  have hbB : ∀ q x, B.1 q = some x → q < B.2.1 := fun q x hq => by
    rw [e1]
    by_cases h : q < A.2.1 + 10
    · exact h
    · rw [hz q (by omega)] at hq
      have := I.2.2.2 q x hq
      omega
  have I2 : Inv F (setTy S eT) (adM ad A.2.1) (aset (aset B (ad 20 w) (8, [.int (wId S w), .int (nI w), x0])) (ad 0 0) (0, [.int (sClock S), .ref (ad 1 0), .int (nI (sCells S).length), .ref (ad 2 0), .int (nI (sWarn S).length), .int (nI (sVers S).length), .ref (ad 3 0), .int (nI (sHs S).length), .ref A.2.1])) := by
    refine I.retype (by omega) had (fun κ h1 h2 => by rw [hnw κ h1 h2]; omega) (fun κ κ' h1 h2 h3 h4 e => by rw [hnw κ h1 h2, hnw κ' h3 h4] at e; omega) ?_ ?_ ?_ (I.F0 L0) ?_
    · refine CMsg_new hnw ((aset_ne _ _ (by omega)).trans ((aset_ne _ _ (by omega)).trans d0)) (fun k x hk => (aset_ne _ _ (by omega)).trans ((aset_ne _ _ (by omega)).trans (hl k x hk)))
    · rw [hnw 4 (by omega) (by omega)]
      exact aset_same _ _ _
    · intro q h1 h2
      refine (aset_ne _ _ h2).trans ?_
      by_cases hq : q = ad 20 w
      · rw [hq, aset_same]; exact hwc.symm
      · exact (aset_ne _ _ hq).trans (hs q h1 h2 hq)
    · intro q x hq
      show q < B.2.1
      by_cases e0 : q = ad 0 0
      · rw [e0, e1]; omega
      · rw [aset_ne _ _ e0] at hq
        by_cases e2 : q = ad 20 w
        · rw [e2, e1]; omega
        · rw [aset_ne _ _ e2] at hq
          exact hbB q x hq
  have hLt : ∀ κ i, LV (setTy S eT) κ i ↔ LV S κ i := fun κ i => LV_setTy S eT κ i
  have g0 : adM ad A.2.1 0 0 = ad 0 0 := had 0 0 (by omega)
  have gw : adM ad A.2.1 20 w = ad 20 w := had 20 w (by omega)
  have g21 : adM ad A.2.1 21 (sVers S).length = o := (had 21 _ (by omega)).trans l21
  have g22 : adM ad A.2.1 22 (sVers S).length = cv := (had 22 _ (by omega)).trans l22
  have gm : ∀ κ, 5 ≤ κ → κ < 14 → adM ad A.2.1 κ (sVers S).length = ad κ 99 := fun κ h1 h2 => (had κ _ (by omega)).trans (lm κ h1 h2)
  have hnl : ∀ q, q < A.2.1 → (∀ κ i, LV S κ i → ¬ (4 ≤ κ ∧ κ < 14 ∧ i = 99) → q ≠ ad κ i) → ∀ κ i, LV (setTy S eT) κ i → q ≠ adM ad A.2.1 κ i := by
    intro q hq hn κ i hl e
    by_cases c : 4 ≤ κ ∧ κ < 14 ∧ i = 99
    · obtain ⟨c1, c2, rfl⟩ := c
      rw [hnw κ c1 c2] at e
      omega
    · rw [had κ i c] at e
      exact hn κ i ((hLt κ i).mp hl) c e
  refine I2.addV (A' := B) hw h40 ?_ ?_ ?_ ?_ ?_ ?_ ?_ ?_ ?_ hbB
  · rintro κ (rfl | ⟨-, rfl | ⟨h1, h2⟩⟩)
    · rw [show adM ad A.2.1 21 (sVers (setTy S eT)).length = o from g21]
      exact ⟨hnl o hoA (fun κ i h _ => no κ i h), Fo⟩
    · rw [show adM ad A.2.1 22 (sVers (setTy S eT)).length = cv from g22]
      exact ⟨hnl cv hcA (fun κ i h _ => nc κ i h), Fc⟩
    · rw [show adM ad A.2.1 κ (sVers (setTy S eT)).length = ad κ 99 from gm κ h1 h2]
      have hL : LV S κ 99 := LV_msg (by omega) h2
      exact ⟨hnl _ (I.old hL) (fun κ' i' h hc e => by obtain ⟨a1, a2⟩ := I.1 κ 99 κ' i' hL h e; exact hc ⟨by omega, by omega, a2.symm⟩), I.F0 hL⟩
  · have e21 : adM ad A.2.1 21 (sVers (setTy S eT)).length = o := g21
    have e22 : adM ad A.2.1 22 (sVers (setTy S eT)).length = cv := g22
    have em : ∀ κ, 5 ≤ κ → κ < 14 → adM ad A.2.1 κ (sVers (setTy S eT)).length = ad κ 99 := gm
    rintro κ κ' (rfl | ⟨-, rfl | ⟨h1, h2⟩⟩) (rfl | ⟨-, rfl | ⟨h3, h4⟩⟩) e
    · rfl
    · rw [e21, e22] at e; exact absurd e noc
    · rw [e21, em κ' h3 h4] at e; exact absurd e (no _ _ (LV_msg (by omega) h4))
    · rw [e21, e22] at e; exact absurd e.symm noc
    · rfl
    · rw [e22, em κ' h3 h4] at e; exact absurd e (nc _ _ (LV_msg (by omega) h4))
    · rw [e21, em κ h1 h2] at e; exact absurd e.symm (no _ _ (LV_msg (by omega) h2))
    · rw [e22, em κ h1 h2] at e; exact absurd e.symm (nc _ _ (LV_msg (by omega) h2))
    · rw [em κ h1 h2, em κ' h3 h4] at e
      exact (I.1 κ 99 κ' 99 (LV_msg (by omega) h2) (LV_msg (by omega) h4) e).1
  · intro κ i hl k0 k20
    have a1 : adM ad A.2.1 κ i ≠ ad 0 0 := by rw [← g0]; exact I2.ne hl ((hLt 0 0).mpr L0) (Or.inl k0)
    have a2 : adM ad A.2.1 κ i ≠ ad 20 w := by rw [← gw]; exact I2.ne hl ((hLt 20 w).mpr Lw) (by omega)
    exact ((aset_ne _ _ a1).trans (aset_ne _ _ a2)).symm
  · rw [had 0 0 (by omega), had 1 0 (by omega), had 2 0 (by omega), had 3 0 (by omega), hnw 4 (by omega) (by omega)]
    exact c0
  · rw [had 20 w (by omega), show adM ad A.2.1 21 (sVers (setTy S eT)).length = o from g21]
    exact cw
  · refine ⟨_, by rw [show adM ad A.2.1 21 (sVers (setTy S eT)).length = o from g21, hs o hoA (no 0 0 L0) (no 20 w Lw)]; exact ho, ?_⟩
    show _ = ((6, [.ref (adM ad A.2.1 20 w), .int z, .int sev, .int en, .int bg, .int sp, .ref (adM ad A.2.1 5 (sVers S).length), .ref (adM ad A.2.1 8 (sVers S).length), .ref (adM ad A.2.1 22 (sVers S).length)]) : AC)
    rw [gw, gm 5 (by omega) (by omega), gm 8 (by omega) (by omega), g22]
  · intro s hs9
    have hs9 : some ((bg, sp), sTyped S, cvTo S (sTyped S).1 0) = some s := hs9
    cases hs9
    rw [show adM ad A.2.1 22 (sVers (setTy S eT)).length = cv from g22, hs cv hcA (nc 0 0 L0) (nc 20 w Lw), hcv]
    simp only [cvTo, repl_map]
    rfl
  · intro s hs9 κ h1 h2
    have hs9 : some ((bg, sp), sTyped S, cvTo S (sTyped S).1 0) = some s := hs9
    cases hs9
    have hL : LV S κ 99 := LV_msg (by omega) h2
    obtain ⟨x, b1, b2⟩ := I.msg (κ := κ) (i := 99) (by omega) h2 (fun e => rfl) msg_ty
    refine ⟨x, ?_, CMsg_ad b2 (by omega) h2 (fun k k1 k2 => gm k k1 k2)⟩
    rw [show adM ad A.2.1 κ (sVers (setTy S eT)).length = ad κ 99 from gm κ h1 h2, hs _ (I.old hL) (I.ne hL L0 (Or.inl (by omega))) (I.ne hL Lw (Or.inl (by omega)))]
    exact b1
  · intro q x hq
    obtain ⟨e, h⟩ := I.2.2.1 q x hq
    rw [hs q (I.2.2.2 q x e) (fun e2 => h 0 0 L0 e2.symm) (fun e2 => h 20 w Lw e2.symm)]
    exact e
set_option maxRecDepth 100000 in
set_option maxHeartbeats 4000000 in
theorem AW_speak_lp {w a : Nat} {z sev en bg sp : Int32} {A0 : AH} (h40 : (sVers S).length < 40) (h8 : (sCells S).length ≤ 8) (ha8 : (sTyped S).1.length ≤ 8) : ∀ k, ∀ A : AH, k ≤ (sCells S).length ∧ Inv F (tsS S w (spV S w z sev en bg sp k)) ad A ∧ A.2 = A0.2 → V (gg u) (d + 5) mm_AW_speak 31 [some (.ref (ad 0 0)), some (.ref a), some (.ref (ad 21 (sVers S).length)), some (.int (nI (cvN S (sTyped S).1 k))), some (.int (nI k))] [] A (Ps (some (.int (nI (cvN S (sTyped S).1 (sCells S).length)))) F (tsS S w (spV S w z sev en bg sp (sCells S).length)) ad A0) := by
  refine up_ind (sCells S).length ?_
  intro k ih A ⟨hk, I, hA⟩
  have h0 := I.aw
  have hve : (sVers (tsS S w (spV S w z sev en bg sp k)))[(sVers S).length]? = some (spV S w z sev en bg sp k) := by show (sVers S ++ [_])[(sVers S).length]? = _; rw [List.getElem?_append_right (Nat.le_refl _), Nat.sub_self]; rfl
  have hv := I.verS hve rfl
  have h401 : (sVers (tsS S w (spV S w z sev en bg sp k))).length ≤ 40 := by show (sVers S ++ [_]).length ≤ 40; simp; omega
  obtain ⟨x1, h1, g1, e1, l1⟩ := I.top (κ := 1) (by omega)
  subst e1
  have hcn := cvN_le S (sTyped S).1 k
  have h8b : (sCells (tsS S w (spV S w z sev en bg sp k))).length ≤ 8 := h8
  refine v_iload (dk cd_AW_speak 18 rfl) rfl ?_
  refine v_aload_n (dk cd_AW_speak 19 rfl) rfl ?_
  refine v_getf (dk cd_AW_speak 20 rfl) fg_AW_19_AW (by assumption) (by rfl) ?_
  refine v_icmp_geN (tgt := 63) (dk cd_AW_speak 21 rfl) rfl (by omega) (by omega) (fun q37 => ?_) (fun q37 => ?_)
  · have q37 : (sCells S).length ≤ k := q37
    have hke : k = (sCells S).length := by omega
    subst hke
    refine v_iload_n (dk cd_AW_speak 32 rfl) rfl ?_
    exact v_iret (dk cd_AW_speak 33 rfl) rfl (ps_of I hA rfl)
  · have q37 : k < (sCells S).length := q37
    obtain ⟨c, hc⟩ : ∃ c, (sCells S)[k]? = some c := ⟨_, List.getElem?_eq_getElem q37⟩
    have hcc : cAtN S k = c := by simp [cAtN, hc]
    have hrc : rch S (sTyped S).1 k = cReach (sTyped S).1 c.1.1 c.1.2.1 c.1.2.2 := by unfold rch; rw [hcc]
    refine v_aload_n (dk cd_AW_speak 22 rfl) rfl ?_
    refine v_aload_n (dk cd_AW_speak 23 rfl) rfl ?_
    refine v_getf (dk cd_AW_speak 24 rfl) fg_AW_15_AW (by assumption) (by rfl) ?_
    refine v_iload (dk cd_AW_speak 25 rfl) rfl ?_
    refine v_aaldN (j := 4) (dk cd_AW_speak 26 rfl) (by assumption) (by decide) rfl rfl (by omega) (rng_at q37) ?_
    refine v_callv (r := ("AreaWarnings$Spoken", TT_Sp, 9)) (dk cd_AW_speak 27 rfl) cv_AW_69 rfl (by assumption) (as := [_]) rfl rfl (Nat.le_of_ble_eq_true rfl) (by simp [Value.category]) (Sp_measure_ok (S := tsS S w (spV S w z sev en bg sp k)) (j := k) (c := c) I h401 h8 hc hve rfl (cvTo_len S _ k) ha8) ps_no (fun v9 A9 hq => ?_)
    obtain ⟨e9, I3, hA2⟩ := hq
    cases e9
    rw [tsS_set] at I3
    have I3 : Inv F (tsS S w (spV S w z sev en bg sp (k + 1))) ad A9 := by
      have e9 : (spV S w z sev en bg sp (k + 1)) = covV (spV S w z sev en bg sp k) ((bg, sp), sTyped S, cvTo S (sTyped S).1 k) k (cReach (sTyped S).1 c.1.1 c.1.2.1 c.1.2.2) := by
        show (w, (z, sev, en), some ((bg, sp), sTyped S, (cvTo S (sTyped S).1 k).set k (rch S (sTyped S).1 k))) = _
        rw [hrc]
        rfl
      rw [e9]; exact I3
    refine v_ifeqB (tgt := 57) (dk cd_AW_speak 28 rfl) rfl (fun q51 => ?_) (fun q51 => ?_)
    · refine v_iincN (dk cd_AW_speak 30 rfl) rfl (by decide) rfl ?_
      refine v_goto (tgt := 31) (dk cd_AW_speak 31 rfl) rfl ?_
      have h9 := ih q37 A9 ⟨by omega, I3, hA2.trans hA⟩
      rw [show cvN S (sTyped S).1 (k + 1) = cvN S (sTyped S).1 k by simp only [cvN]; rw [hrc, q51]; rfl] at h9
      exact h9
    · refine v_iincN (dk cd_AW_speak 29 rfl) rfl (by decide) rfl ?_
      refine v_iincN (dk cd_AW_speak 30 rfl) rfl (by decide) rfl ?_
      refine v_goto (tgt := 31) (dk cd_AW_speak 31 rfl) rfl ?_
      have h9 := ih q37 A9 ⟨by omega, I3, hA2.trans hA⟩
      rw [show cvN S (sTyped S).1 (k + 1) = cvN S (sTyped S).1 k + 1 by simp only [cvN]; rw [hrc, q51]; rfl] at h9
      exact h9
set_option maxRecDepth 100000 in
set_option maxHeartbeats 4000000 in
theorem AW_speak_ok {w o cv : Nat} {z sev en bg sp : Int32} {x0 : Value} (I : Inv F S ad A) (h40 : (sVers S).length < 40) (h8 : (sCells S).length ≤ 8) (ha8 : (sTyped S).1.length ≤ 8) (hw : w < (sWarn S).length) (hwc : A.1 (ad 20 w) = some (8, [.int (wId S w), .int (nI w), x0]))
    (l21 : ad 21 (sVers S).length = o) (l22 : ad 22 (sVers S).length = cv) (lm : ∀ κ, 5 ≤ κ → κ < 14 → ad κ (sVers S).length = ad κ 99)
    (ho : A.1 o = some (6, [.ref (ad 20 w), .int z, .int sev, .int en, .int bg, .int sp, .ref (ad 5 99), .ref (ad 8 99), .ref cv])) (hcv : A.1 cv = some (101, List.replicate 8 (.int 0)))
    (no : ∀ κ i, LV S κ i → o ≠ ad κ i) (nc : ∀ κ i, LV S κ i → cv ≠ ad κ i) (Fo : F o = none) (Fc : F cv = none) (noc : o ≠ cv) (hgl : A.2.1 + 10 ≤ gL (gg u)) (hgs : A.2.2 + 119 ≤ gS (gg u)) :
    V (gg u) (d + 5) mm_AW_speak 0 [some (.ref (ad 0 0)), some (.ref (ad 20 w)), some (.ref o), none, none] [] A (fun r A' => ∃ ad', ad' 0 0 = ad 0 0 ∧ Inv F (tsS S w (spV S w z sev en bg sp (sCells S).length)) ad' A' ∧ A'.2.1 = A.2.1 + 10 ∧ A'.2.2 = A.2.2 + 119 ∧ r = .inl (some (.int (nI (cvN S (sTyped S).1 (sCells S).length))))) := by
  have h0 := I.aw
  have L0 : LV S 0 0 := Or.inl ⟨by omega, rfl⟩
  have Lw : LV S 20 w := Or.inr (Or.inr (Or.inr (Or.inl ⟨rfl, hw⟩)))
  have o0 := I.old L0
  have ow := I.old Lw
  have nw0 := I.ne Lw L0 (Or.inl (by omega))
  have no0 := no 0 0 L0
  refine v_aload_n (dk cd_AW_speak 0 rfl) rfl ?_
  refine v_aload_n (dk cd_AW_speak 1 rfl) rfl ?_
  refine v_putf (dk cd_AW_speak 2 rfl) fp_AW_63_Wa (fun h => by cases h) (by repeat first | assumption | exact aset_same _ _ _ | exact anew_same _ _ _ | refine (aset_ne _ _ (by first | assumption | exact Ne.symm (by assumption) | omega | (simp only [aset, anew, amna, List.length_cons, List.length_nil]; omega))).trans ?_ | refine (anew_ne _ _ _ (by first | assumption | exact Ne.symm (by assumption) | omega | (simp only [aset, anew, amna, List.length_cons, List.length_nil]; omega))).trans ?_ | refine (amna_ne _ _ _ _ _ _ (by first | omega | (simp only [aset, anew, amna, List.length_cons, List.length_nil]; omega))).trans ?_) rfl rfl ?_
  refine v_aload_n (dk cd_AW_speak 3 rfl) rfl ?_
  refine v_dup (dk cd_AW_speak 4 rfl) rfl ?_
  refine v_getf (dk cd_AW_speak 5 rfl) fg_AW_31_AW (by repeat first | assumption | exact aset_same _ _ _ | exact anew_same _ _ _ | refine (aset_ne _ _ (by first | assumption | exact Ne.symm (by assumption) | omega | (simp only [aset, anew, amna, List.length_cons, List.length_nil]; omega))).trans ?_ | refine (anew_ne _ _ _ (by first | assumption | exact Ne.symm (by assumption) | omega | (simp only [aset, anew, amna, List.length_cons, List.length_nil]; omega))).trans ?_ | refine (amna_ne _ _ _ _ _ _ (by first | omega | (simp only [aset, anew, amna, List.length_cons, List.length_nil]; omega))).trans ?_) (by rfl) ?_
  refine v_iconst (v := nI 1) (dk cd_AW_speak 6 rfl) (by decide) ?_
  refine v_iaddN (dk cd_AW_speak 7 rfl) ?_
  refine v_putf (dk cd_AW_speak 8 rfl) fp_AW_31_AW (fun h => by cases h) (by repeat first | assumption | exact aset_same _ _ _ | exact anew_same _ _ _ | refine (aset_ne _ _ (by first | assumption | exact Ne.symm (by assumption) | omega | (simp only [aset, anew, amna, List.length_cons, List.length_nil]; omega))).trans ?_ | refine (anew_ne _ _ _ (by first | assumption | exact Ne.symm (by assumption) | omega | (simp only [aset, anew, amna, List.length_cons, List.length_nil]; omega))).trans ?_ | refine (amna_ne _ _ _ _ _ _ (by first | omega | (simp only [aset, anew, amna, List.length_cons, List.length_nil]; omega))).trans ?_) rfl rfl ?_
  refine v_aload_n (dk cd_AW_speak 9 rfl) rfl ?_
  refine v_new (dk cd_AW_speak 10 rfl) nw_AW_43 (by first | omega | (simp only [aset, anew, amna, List.length_cons, List.length_nil]; omega)) (by first | omega | (simp only [aset, anew, amna, List.length_cons, List.length_nil]; omega)) ?_
  refine v_dup (dk cd_AW_speak 11 rfl) rfl ?_
  refine v_calli (dk cd_AW_speak 12 rfl) ci_AW_45 (as := []) rfl rfl (Nat.le_of_ble_eq_true rfl) (by simp [Value.category]) (Me_init_ok (o := A.2.1) (by repeat first | assumption | exact aset_same _ _ _ | exact anew_same _ _ _ | refine (aset_ne _ _ (by first | assumption | exact Ne.symm (by assumption) | omega | (simp only [aset, anew, amna, List.length_cons, List.length_nil]; omega))).trans ?_ | refine (anew_ne _ _ _ (by first | assumption | exact Ne.symm (by assumption) | omega | (simp only [aset, anew, amna, List.length_cons, List.length_nil]; omega))).trans ?_ | refine (amna_ne _ _ _ _ _ _ (by first | omega | (simp only [aset, anew, amna, List.length_cons, List.length_nil]; omega))).trans ?_) (by first | omega | (simp only [aset, anew, amna, List.length_cons, List.length_nil]; omega)) (by first | omega | (simp only [aset, anew, amna, List.length_cons, List.length_nil]; omega)) (by first | omega | (simp only [aset, anew, amna, List.length_cons, List.length_nil]; omega))) mk_no (fun v9 A9 hq => ?_)
  obtain ⟨e9, a1, a2, a3, a4, a5, a6⟩ := hq
  cases e9
  have a1 : A9.2.1 = A.2.1 + 10 := a1
  have a2 : A9.2.2 = A.2.2 + 119 := a2
  have a3 : A9.1 A.2.1 = some (5, [.ref (A.2.1 + 1), .ref (A.2.1 + 4)]) := a3
  have a4 : ∀ k x, (meL (A.2.1 + 1))[k]? = some x → A9.1 (A.2.1 + 1 + k) = some x := a4
  have ak : ∀ q, q < A.2.1 → A9.1 q = (aset (aset A (ad 20 w) (8, [.int (wId S w), .int (nI w), .ref o])) (ad 0 0) (0, [.int (sClock S), .ref (ad 1 0), .int (nI (sCells S).length), .ref (ad 2 0), .int (nI (sWarn S).length), .int (nI ((sVers S).length + 1)), .ref (ad 3 0), .int (nI (sHs S).length), .ref (ad 4 99)])).1 q := fun q hq => (a5 q (by show q ≠ A.2.1; omega) (by show q < A.2.1 + 1; omega)).trans (anew_ne _ _ _ (by show q ≠ A.2.1; omega))
  have az : ∀ q, A.2.1 + 10 ≤ q → A9.1 q = A.1 q := fun q hq => (a6 q (by show A.2.1 + 1 + 9 ≤ q; omega)).trans ((anew_ne _ _ _ (by show q ≠ A.2.1; omega)).trans ((aset_ne _ _ (by omega)).trans (aset_ne _ _ (by omega))))
  have h09 := (ak _ o0).trans (aset_same _ _ _)
  refine v_putf (dk cd_AW_speak 13 rfl) fp_AW_46_AW (fun h => by cases h) (by repeat first | assumption | exact aset_same _ _ _ | exact anew_same _ _ _ | refine (aset_ne _ _ (by first | assumption | exact Ne.symm (by assumption) | omega | (simp only [aset, anew, amna, List.length_cons, List.length_nil]; omega))).trans ?_ | refine (anew_ne _ _ _ (by first | assumption | exact Ne.symm (by assumption) | omega | (simp only [aset, anew, amna, List.length_cons, List.length_nil]; omega))).trans ?_ | refine (amna_ne _ _ _ _ _ _ (by first | omega | (simp only [aset, anew, amna, List.length_cons, List.length_nil]; omega))).trans ?_) rfl rfl ?_
  refine v_iconst (v := nI 0) (dk cd_AW_speak 14 rfl) (by decide) ?_
  refine v_istore_n (dk cd_AW_speak 15 rfl) (by decide) rfl ?_
  refine v_iconst (v := nI 0) (dk cd_AW_speak 16 rfl) (by decide) ?_
  refine v_istore (dk cd_AW_speak 17 rfl) (by decide) rfl ?_
  have I2 := I.speak (z := z) (sev := sev) (en := en) (bg := bg) (sp := sp) (B := aset A9 (ad 0 0) (0, [.int (sClock S), .ref (ad 1 0), .int (nI (sCells S).length), .ref (ad 2 0), .int (nI (sWarn S).length), .int (nI ((sVers S).length + 1)), .ref (ad 3 0), .int (nI (sHs S).length), .ref A.2.1])) h40 hw hwc l21 l22 lm ho hcv no nc Fo Fc noc (fun q h1 h2 h3 => (aset_ne _ _ h2).trans ((ak q h1).trans ((aset_ne _ _ h2).trans (aset_ne _ _ h3)))) (fun q hq => (aset_ne _ _ (by omega)).trans (az q hq)) a1 (aset_same _ _ _) ((aset_ne _ _ nw0).trans ((ak _ ow).trans ((aset_ne _ _ nw0).trans (aset_same _ _ _)))) ((aset_ne _ _ (by omega)).trans a3) (fun k x hk => (aset_ne _ _ (by omega)).trans (a4 k x hk))
  have h9 := AW_speak_lp (u := u) (d := d) (a := ad 20 w) h40 h8 ha8 0 _ ⟨by omega, I2, rfl⟩
  rw [show adM ad A.2.1 0 0 = ad 0 0 from if_neg (by omega), show adM ad A.2.1 21 (sVers S).length = o from (if_neg (by omega)).trans l21] at h9
  refine h9.mono (fun r9 A8 hr9 => ?_)
  obtain ⟨rfl, I3, hA3⟩ := hr9
  refine ⟨adM ad A.2.1, if_neg (by omega), I3, ?_, ?_, rfl⟩
  · rw [hA3]; exact a1
  · rw [hA3]; exact a2
end G8
