/-! the model: choosing, hearing, the minute -/
/-- the first of the likes from k on that has a text, else l0 -/
def chF (t : Tx) (l0 : Nat) (k : List Int32) : Nat := match k.find? (fun l => decide (0 < tl t l.toNatClampNeg)) with
  | some l => l.toNatClampNeg
  | none => l0
theorem chF_cons (t : Tx) (l0 : Nat) (y : Int32) (r : List Int32) : chF t l0 (y :: r) = if 0 < tl t y.toNatClampNeg then y.toNatClampNeg else chF t l0 r := by
  unfold chF
  rw [List.find?_cons]
  by_cases e : 0 < tl t y.toNatClampNeg
  · rw [decide_eq_true e, if_pos e]
  · rw [decide_eq_false e, if_neg e]
theorem chs_chF (k : List Int32) (t : Tx) : chs k t = chF t (if 0 < tl t 0 then 0 else if 0 < tl t 1 then 1 else 2) k := rfl
theorem drop_cons {l : List Int32} {k : Nat} (h : k < l.length) : l.drop k = l.getD k 0 :: l.drop (k + 1) := by
  rw [List.getD_eq_getElem?_getD, List.getElem?_eq_getElem h, Option.getD_some, List.drop_eq_getElem_cons h]
section MT
variable {u : Ux} {d : Nat} {A B : AH} {a : Nat} {i : Nat → Int32} {f : Nat → Nat → Int32} {S : SS} {t x : Int32} {h v : Nat} {hh : HaS} {sp : SpS}
/-! counters that run down: the place holds k - 1 -/
theorem v_iincD {y : MT} {pc k0 k : Nat} {L : Lo} {st : List Value} {Φ : Out → AH → Prop} (hd : decode y.2.1 pc = .ok (.iinc k0 (-1), 3)) (hl : L[k0]? = some (some (.int (nI k)))) (hi : k0 < y.2.2.1) (hnl : noL L k0 = true) (hq : V (gg u) d y (pc + 3) (L.set k0 (some (.int (nI k - 1)))) st A Φ) : V (gg u) d y pc L st A Φ := v_iinc hd hl hi hnl (by
  have e : nI k + Int32.ofInt (-1) = nI k - 1 := by rw [Int32.sub_eq_add_neg]; rfl
  rw [e]; exact hq)
theorem nI_pred1 {k : Nat} : nI (k + 1) - 1 = nI k := by rw [nI_succ, Int32.add_sub_cancel]
set_option maxRecDepth 100000 in
set_option maxHeartbeats 4000000 in
theorem Mo_chosen_47 (hM : MH B a i f A) (R : Rel S t i f) (K : LOK S) (h40 : (sVers S).length ≤ 40) (hn : (sHs S)[h]? = some hh) (hlk : ∀ l ∈ hh.2.1, ∃ n, n < 3 ∧ l = nI n) (hv : v < (sVers S).length) (hs : (vAt S v).2.2 = some sp) : ∀ k, k ≤ hh.2.1.length → V (gg u) d mm_Mo_chosen 47 [some (.ref a), some (.int (nI h)), some (.int (nI v)), some (.int (nI (chF sp.2.1.2 (if 0 < tl sp.2.1.2 0 then 0 else if 0 < tl sp.2.1.2 1 then 1 else 2) (hh.2.1.drop (k))))), some (.int (nI k - 1)), none] [] A (Rt (some (.int (nI (chs hh.2.1 sp.2.1.2)))) A) := by
  have w2 := K.n8
  have w4 := K.n3
  have hhl := (List.getElem?_eq_some_iff.mp hn).1
  have hl3 := (K.hl h hh hn).1
  intro k
  induction k with
  | zero =>
    intro _
    refine v_iload (dk cd_Mo_chosen 28 rfl) rfl ?_
    refine v_if_lt (tgt := 92) (dk cd_Mo_chosen 29 rfl) rfl (fun _ => ?_) (fun q => absurd (by decide) q)
    refine v_iload_n (dk cd_Mo_chosen 54 rfl) rfl ?_
    exact v_iret (dk cd_Mo_chosen 55 rfl) rfl (rt_of (by rw [List.drop_zero, chs_chF]))
  | succ k ih =>
    intro hk
    rw [nI_pred1]
    refine v_iload (dk cd_Mo_chosen 28 rfl) rfl ?_
    refine v_if_lt (tgt := 92) (dk cd_Mo_chosen 29 rfl) rfl (fun q49 => ?_) (fun q49 => ?_)
    · exact absurd q49 (nI_pos (by omega))
    · have hkl : k < hh.2.1.length := by omega
      obtain ⟨n, hn3, hne⟩ := hlk _ (show hh.2.1.getD k 0 ∈ hh.2.1 by rw [List.getD_eq_getElem?_getD, List.getElem?_eq_getElem hkl]; exact List.getElem_mem hkl)
      have hst := chF_cons sp.2.1.2 (if 0 < tl sp.2.1.2 0 then 0 else if 0 < tl sp.2.1.2 1 then 1 else 2) (hh.2.1.getD k 0) (hh.2.1.drop (k + 1))
      rw [← drop_cons hkl, hne, nI_clamp (by omega)] at hst
      have h30 := (K.vw hv sp hs).2 n
      refine v_aload_n (dk cd_Mo_chosen 30 rfl) rfl ?_
      refine v_getf (dk cd_Mo_chosen 31 rfl) fg_Mo_104_Mo hM.2.2.1 (by rfl) ?_
      refine v_iconst (v := nI 3) (dk cd_Mo_chosen 32 rfl) (by decide) ?_
      refine v_iload_n (dk cd_Mo_chosen 33 rfl) rfl ?_
      refine v_imulN (dk cd_Mo_chosen 34 rfl) ?_
      refine v_iload (dk cd_Mo_chosen 35 rfl) rfl ?_
      refine v_iaddN (dk cd_Mo_chosen 36 rfl) ?_
      refine v_mldE (j := 31) (dk cd_Mo_chosen 37 rfl) hM (by decide) (by decide) (show _ < 9 by omega) (by decide) (((R.hs h hh hn).2.2.1 k hkl).trans hne) ?_
      refine v_istore (dk cd_Mo_chosen 38 rfl) (by decide) rfl ?_
      refine v_aload_n (dk cd_Mo_chosen 39 rfl) rfl ?_
      refine v_getf (dk cd_Mo_chosen 40 rfl) fg_Mo_92_Mo hM.2.2.1 (by rfl) ?_
      refine v_iconst (v := nI 3) (dk cd_Mo_chosen 41 rfl) (by decide) ?_
      refine v_iload_n (dk cd_Mo_chosen 42 rfl) rfl ?_
      refine v_imulN (dk cd_Mo_chosen 43 rfl) ?_
      refine v_iload (dk cd_Mo_chosen 44 rfl) rfl ?_
      refine v_iaddN (dk cd_Mo_chosen 45 rfl) ?_
      refine v_mldE (j := 27) (dk cd_Mo_chosen 46 rfl) hM (by decide) (by decide) (show _ < 120 by omega) (by decide) (((R.ve v hv).2.2.2.2.2 sp hs).2.2.2.2 n hn3).1 ?_
      refine v_if_le (tgt := 84) (dk cd_Mo_chosen 47 rfl) rfl (fun q76 => ?_) (fun q76 => ?_)
      · refine v_iload_n (dk cd_Mo_chosen 50 rfl) rfl ?_
        refine v_istore_n (dk cd_Mo_chosen 51 rfl) (by decide) rfl ?_
        refine v_iincD (dk cd_Mo_chosen 52 rfl) rfl (by decide) rfl ?_
        refine v_goto (tgt := 47) (dk cd_Mo_chosen 53 rfl) rfl ?_
        have hv9 : (chF sp.2.1.2 (if 0 < tl sp.2.1.2 0 then 0 else if 0 < tl sp.2.1.2 1 then 1 else 2) (hh.2.1.drop (k))) = (chF sp.2.1.2 (if 0 < tl sp.2.1.2 0 then 0 else if 0 < tl sp.2.1.2 1 then 1 else 2) (hh.2.1.drop (k + 1))) := by rw [hst, if_neg (by have := (nI_le0 (by omega)).mp q76; omega)]
        have h9 := ih (by omega)
        rw [hv9] at h9
        exact V.drop 5 h9
      · refine v_iload (dk cd_Mo_chosen 48 rfl) rfl ?_
        refine v_goto (tgt := 85) (dk cd_Mo_chosen 49 rfl) rfl ?_
        refine v_istore_n (dk cd_Mo_chosen 51 rfl) (by decide) rfl ?_
        refine v_iincD (dk cd_Mo_chosen 52 rfl) rfl (by decide) rfl ?_
        refine v_goto (tgt := 47) (dk cd_Mo_chosen 53 rfl) rfl ?_
        have hv9 : (chF sp.2.1.2 (if 0 < tl sp.2.1.2 0 then 0 else if 0 < tl sp.2.1.2 1 then 1 else 2) (hh.2.1.drop (k))) = n := by rw [hst, if_pos (by have := mt (nI_le0 (by omega)).mpr q76; omega)]
        have h9 := ih (by omega)
        rw [hv9] at h9
        exact V.drop 5 h9
set_option maxRecDepth 100000 in
set_option maxHeartbeats 4000000 in
theorem Mo_chosen_ok (hM : MH B a i f A) (R : Rel S t i f) (K : LOK S) (h40 : (sVers S).length ≤ 40) (hn : (sHs S)[h]? = some hh) (hlk : ∀ l ∈ hh.2.1, ∃ n, n < 3 ∧ l = nI n) (hv : v < (sVers S).length) (hs : (vAt S v).2.2 = some sp) : V (gg u) d mm_Mo_chosen 0 [some (.ref a), some (.int (nI h)), some (.int (nI v)), none, none, none] [] A (Rt (some (.int (nI (chs hh.2.1 sp.2.1.2)))) A) := by
  have w2 := K.n8
  have w4 := K.n3
  have hhl := (List.getElem?_eq_some_iff.mp hn).1
  have hl3 := (K.hl h hh hn).1
  have h30 := (K.vw hv sp hs).2 0
  have h31 := (K.vw hv sp hs).2 1
  refine v_iconst (v := nI 2) (dk cd_Mo_chosen 0 rfl) (by decide) ?_
  refine v_istore_n (dk cd_Mo_chosen 1 rfl) (by decide) rfl ?_
  refine v_iconst (v := nI 1) (dk cd_Mo_chosen 2 rfl) (by decide) ?_
  refine v_istore (dk cd_Mo_chosen 3 rfl) (by decide) rfl ?_
  refine v_iload (dk cd_Mo_chosen 4 rfl) rfl ?_
  refine v_if_lt (tgt := 37) (dk cd_Mo_chosen 5 rfl) rfl (fun q7 => ?_) (fun q7 => ?_)
  · exact absurd q7 (nI_pos (by omega))
  · refine v_aload_n (dk cd_Mo_chosen 6 rfl) rfl ?_
    refine v_getf (dk cd_Mo_chosen 7 rfl) fg_Mo_92_Mo hM.2.2.1 (by rfl) ?_
    refine v_iconst (v := nI 3) (dk cd_Mo_chosen 8 rfl) (by decide) ?_
    refine v_iload_n (dk cd_Mo_chosen 9 rfl) rfl ?_
    refine v_imulN (dk cd_Mo_chosen 10 rfl) ?_
    refine v_iload (dk cd_Mo_chosen 11 rfl) rfl ?_
    refine v_iaddN (dk cd_Mo_chosen 12 rfl) ?_
    refine v_mldE (j := 27) (dk cd_Mo_chosen 13 rfl) hM (by decide) (by decide) (show _ < 120 by omega) (by decide) (((R.ve v hv).2.2.2.2.2 sp hs).2.2.2.2 1 (by omega)).1 ?_
    refine v_if_le (tgt := 29) (dk cd_Mo_chosen 14 rfl) rfl (fun q21 => ?_) (fun q21 => ?_)
    · refine v_iload_n (dk cd_Mo_chosen 17 rfl) rfl ?_
      refine v_istore_n (dk cd_Mo_chosen 18 rfl) (by decide) rfl ?_
      have hz1 : ¬ 0 < tl sp.2.1.2 1 := by have := (nI_le0 (by omega)).mp q21; omega
      refine v_iincD (dk cd_Mo_chosen 19 rfl) rfl (by decide) rfl ?_
      refine v_goto (tgt := 5) (dk cd_Mo_chosen 20 rfl) rfl ?_
      rw [show nI 1 - 1 = nI 0 by decide]
      refine v_iload (dk cd_Mo_chosen 4 rfl) rfl ?_
      refine v_if_lt (tgt := 37) (dk cd_Mo_chosen 5 rfl) rfl (fun q7 => ?_) (fun q7 => ?_)
      · exact absurd q7 (nI_pos (by omega))
      · refine v_aload_n (dk cd_Mo_chosen 6 rfl) rfl ?_
        refine v_getf (dk cd_Mo_chosen 7 rfl) fg_Mo_92_Mo hM.2.2.1 (by rfl) ?_
        refine v_iconst (v := nI 3) (dk cd_Mo_chosen 8 rfl) (by decide) ?_
        refine v_iload_n (dk cd_Mo_chosen 9 rfl) rfl ?_
        refine v_imulN (dk cd_Mo_chosen 10 rfl) ?_
        refine v_iload (dk cd_Mo_chosen 11 rfl) rfl ?_
        refine v_iaddN (dk cd_Mo_chosen 12 rfl) ?_
        refine v_mldE (j := 27) (dk cd_Mo_chosen 13 rfl) hM (by decide) (by decide) (show _ < 120 by omega) (by decide) (((R.ve v hv).2.2.2.2.2 sp hs).2.2.2.2 0 (by omega)).1 ?_
        refine v_if_le (tgt := 29) (dk cd_Mo_chosen 14 rfl) rfl (fun q21 => ?_) (fun q21 => ?_)
        · refine v_iload_n (dk cd_Mo_chosen 17 rfl) rfl ?_
          refine v_istore_n (dk cd_Mo_chosen 18 rfl) (by decide) rfl ?_
          have hz0 : ¬ 0 < tl sp.2.1.2 0 := by have := (nI_le0 (by omega)).mp q21; omega
          refine v_iincD (dk cd_Mo_chosen 19 rfl) rfl (by decide) rfl ?_
          refine v_goto (tgt := 5) (dk cd_Mo_chosen 20 rfl) rfl ?_
          refine v_iload (dk cd_Mo_chosen 4 rfl) rfl ?_
          refine v_if_lt (tgt := 37) (dk cd_Mo_chosen 5 rfl) rfl (fun _ => ?_) (fun q => absurd (by decide) q)
          refine v_aload_n (dk cd_Mo_chosen 21 rfl) rfl ?_
          refine v_getf (dk cd_Mo_chosen 22 rfl) fg_Mo_101_Mo hM.2.2.1 (by rfl) ?_
          refine v_iload_n (dk cd_Mo_chosen 23 rfl) rfl ?_
          refine v_mldE (j := 30) (dk cd_Mo_chosen 24 rfl) hM (by decide) (by decide) (show _ < 3 by omega) (by decide) (R.hs h hh hn).2.1 ?_
          refine v_iconst (v := 1) (dk cd_Mo_chosen 25 rfl) (by decide) ?_
          refine v_isub (dk cd_Mo_chosen 26 rfl) ?_
          refine v_istore (dk cd_Mo_chosen 27 rfl) (by decide) rfl ?_
          have h9 := Mo_chosen_47 (u := u) (d := d) hM R K h40 hn hlk hv hs hh.2.1.length (Nat.le_refl _)
          rw [List.drop_length, show chF sp.2.1.2 (if 0 < tl sp.2.1.2 0 then 0 else if 0 < tl sp.2.1.2 1 then 1 else 2) [] = 2 by simp only [chF, List.find?_nil]; rw [if_neg hz0, if_neg hz1]] at h9
          exact h9
        · refine v_iload (dk cd_Mo_chosen 15 rfl) rfl ?_
          refine v_goto (tgt := 30) (dk cd_Mo_chosen 16 rfl) rfl ?_
          refine v_istore_n (dk cd_Mo_chosen 18 rfl) (by decide) rfl ?_
          have hz0 : 0 < tl sp.2.1.2 0 := by have := mt (nI_le0 (by omega)).mpr q21; omega
          refine v_iincD (dk cd_Mo_chosen 19 rfl) rfl (by decide) rfl ?_
          refine v_goto (tgt := 5) (dk cd_Mo_chosen 20 rfl) rfl ?_
          refine v_iload (dk cd_Mo_chosen 4 rfl) rfl ?_
          refine v_if_lt (tgt := 37) (dk cd_Mo_chosen 5 rfl) rfl (fun _ => ?_) (fun q => absurd (by decide) q)
          refine v_aload_n (dk cd_Mo_chosen 21 rfl) rfl ?_
          refine v_getf (dk cd_Mo_chosen 22 rfl) fg_Mo_101_Mo hM.2.2.1 (by rfl) ?_
          refine v_iload_n (dk cd_Mo_chosen 23 rfl) rfl ?_
          refine v_mldE (j := 30) (dk cd_Mo_chosen 24 rfl) hM (by decide) (by decide) (show _ < 3 by omega) (by decide) (R.hs h hh hn).2.1 ?_
          refine v_iconst (v := 1) (dk cd_Mo_chosen 25 rfl) (by decide) ?_
          refine v_isub (dk cd_Mo_chosen 26 rfl) ?_
          refine v_istore (dk cd_Mo_chosen 27 rfl) (by decide) rfl ?_
          have h9 := Mo_chosen_47 (u := u) (d := d) hM R K h40 hn hlk hv hs hh.2.1.length (Nat.le_refl _)
          rw [List.drop_length, show chF sp.2.1.2 (if 0 < tl sp.2.1.2 0 then 0 else if 0 < tl sp.2.1.2 1 then 1 else 2) [] = 0 by simp only [chF, List.find?_nil]; rw [if_pos hz0]] at h9
          exact h9
    · refine v_iload (dk cd_Mo_chosen 15 rfl) rfl ?_
      refine v_goto (tgt := 30) (dk cd_Mo_chosen 16 rfl) rfl ?_
      refine v_istore_n (dk cd_Mo_chosen 18 rfl) (by decide) rfl ?_
      have hz1 : 0 < tl sp.2.1.2 1 := by have := mt (nI_le0 (by omega)).mpr q21; omega
      refine v_iincD (dk cd_Mo_chosen 19 rfl) rfl (by decide) rfl ?_
      refine v_goto (tgt := 5) (dk cd_Mo_chosen 20 rfl) rfl ?_
      rw [show nI 1 - 1 = nI 0 by decide]
      refine v_iload (dk cd_Mo_chosen 4 rfl) rfl ?_
      refine v_if_lt (tgt := 37) (dk cd_Mo_chosen 5 rfl) rfl (fun q7 => ?_) (fun q7 => ?_)
      · exact absurd q7 (nI_pos (by omega))
      · refine v_aload_n (dk cd_Mo_chosen 6 rfl) rfl ?_
        refine v_getf (dk cd_Mo_chosen 7 rfl) fg_Mo_92_Mo hM.2.2.1 (by rfl) ?_
        refine v_iconst (v := nI 3) (dk cd_Mo_chosen 8 rfl) (by decide) ?_
        refine v_iload_n (dk cd_Mo_chosen 9 rfl) rfl ?_
        refine v_imulN (dk cd_Mo_chosen 10 rfl) ?_
        refine v_iload (dk cd_Mo_chosen 11 rfl) rfl ?_
        refine v_iaddN (dk cd_Mo_chosen 12 rfl) ?_
        refine v_mldE (j := 27) (dk cd_Mo_chosen 13 rfl) hM (by decide) (by decide) (show _ < 120 by omega) (by decide) (((R.ve v hv).2.2.2.2.2 sp hs).2.2.2.2 0 (by omega)).1 ?_
        refine v_if_le (tgt := 29) (dk cd_Mo_chosen 14 rfl) rfl (fun q21 => ?_) (fun q21 => ?_)
        · refine v_iload_n (dk cd_Mo_chosen 17 rfl) rfl ?_
          refine v_istore_n (dk cd_Mo_chosen 18 rfl) (by decide) rfl ?_
          have hz0 : ¬ 0 < tl sp.2.1.2 0 := by have := (nI_le0 (by omega)).mp q21; omega
          refine v_iincD (dk cd_Mo_chosen 19 rfl) rfl (by decide) rfl ?_
          refine v_goto (tgt := 5) (dk cd_Mo_chosen 20 rfl) rfl ?_
          refine v_iload (dk cd_Mo_chosen 4 rfl) rfl ?_
          refine v_if_lt (tgt := 37) (dk cd_Mo_chosen 5 rfl) rfl (fun _ => ?_) (fun q => absurd (by decide) q)
          refine v_aload_n (dk cd_Mo_chosen 21 rfl) rfl ?_
          refine v_getf (dk cd_Mo_chosen 22 rfl) fg_Mo_101_Mo hM.2.2.1 (by rfl) ?_
          refine v_iload_n (dk cd_Mo_chosen 23 rfl) rfl ?_
          refine v_mldE (j := 30) (dk cd_Mo_chosen 24 rfl) hM (by decide) (by decide) (show _ < 3 by omega) (by decide) (R.hs h hh hn).2.1 ?_
          refine v_iconst (v := 1) (dk cd_Mo_chosen 25 rfl) (by decide) ?_
          refine v_isub (dk cd_Mo_chosen 26 rfl) ?_
          refine v_istore (dk cd_Mo_chosen 27 rfl) (by decide) rfl ?_
          have h9 := Mo_chosen_47 (u := u) (d := d) hM R K h40 hn hlk hv hs hh.2.1.length (Nat.le_refl _)
          rw [List.drop_length, show chF sp.2.1.2 (if 0 < tl sp.2.1.2 0 then 0 else if 0 < tl sp.2.1.2 1 then 1 else 2) [] = 1 by simp only [chF, List.find?_nil]; rw [if_neg hz0, if_pos hz1]] at h9
          exact h9
        · refine v_iload (dk cd_Mo_chosen 15 rfl) rfl ?_
          refine v_goto (tgt := 30) (dk cd_Mo_chosen 16 rfl) rfl ?_
          refine v_istore_n (dk cd_Mo_chosen 18 rfl) (by decide) rfl ?_
          have hz0 : 0 < tl sp.2.1.2 0 := by have := mt (nI_le0 (by omega)).mpr q21; omega
          refine v_iincD (dk cd_Mo_chosen 19 rfl) rfl (by decide) rfl ?_
          refine v_goto (tgt := 5) (dk cd_Mo_chosen 20 rfl) rfl ?_
          refine v_iload (dk cd_Mo_chosen 4 rfl) rfl ?_
          refine v_if_lt (tgt := 37) (dk cd_Mo_chosen 5 rfl) rfl (fun _ => ?_) (fun q => absurd (by decide) q)
          refine v_aload_n (dk cd_Mo_chosen 21 rfl) rfl ?_
          refine v_getf (dk cd_Mo_chosen 22 rfl) fg_Mo_101_Mo hM.2.2.1 (by rfl) ?_
          refine v_iload_n (dk cd_Mo_chosen 23 rfl) rfl ?_
          refine v_mldE (j := 30) (dk cd_Mo_chosen 24 rfl) hM (by decide) (by decide) (show _ < 3 by omega) (by decide) (R.hs h hh hn).2.1 ?_
          refine v_iconst (v := 1) (dk cd_Mo_chosen 25 rfl) (by decide) ?_
          refine v_isub (dk cd_Mo_chosen 26 rfl) ?_
          refine v_istore (dk cd_Mo_chosen 27 rfl) (by decide) rfl ?_
          have h9 := Mo_chosen_47 (u := u) (d := d) hM R K h40 hn hlk hv hs hh.2.1.length (Nat.le_refl _)
          rw [List.drop_length, show chF sp.2.1.2 (if 0 < tl sp.2.1.2 0 then 0 else if 0 < tl sp.2.1.2 1 then 1 else 2) [] = 0 by simp only [chF, List.find?_nil]; rw [if_pos hz0]] at h9
          exact h9
end MT
