/-! a handset hears and shows -/
theorem map_getD {α : Type} {l : List α} {f : α → Value} {k : Nat} {e : α} (h : k < l.length) : (l.map f)[k]? = some (f (l.getD k e)) := by
  rw [List.getElem?_map, List.getD_eq_getElem?_getD, List.getElem?_eq_getElem h]
  rfl
theorem ArG.set {k n : Nat} {l gb : List Value} {v : Value} (h : l.length + gb.length = n) : ArG k n l (k, (l ++ gb).set l.length v) := by
  refine ⟨gb.set 0 v, ?_, by simpa using h⟩
  rw [List.set_append_right _ _ (Nat.le_refl _), Nat.sub_self]
section H3
variable {u : Ux} {d : Nat} {A : AH} {F : Nat → Option AC} {S : SS} {ad : Nat → Nat → Nat}
theorem Inv.hne (I : Inv F S ad A) {i : Nat} (hi : i < (sHs S).length) (a b : Nat) (h1 : 23 ≤ a) (h2 : a ≤ 30) (h3 : 23 ≤ b) (h4 : b ≤ 30) (h : a ≠ b) : ad a i ≠ ad b i := I.ne (LV_hs h1 h2 hi) (LV_hs h3 h4 hi) (Or.inl h)
set_option maxRecDepth 100000 in
set_option maxHeartbeats 4000000 in
theorem Ha_showIfWhole_ok {i v : Nat} {h : HaS} {ve : VeS} {s : SpS} {clk : Int32} (I : Inv F S ad A) (Wf : Wf S) (WV : WfV S) (W : HOK S h) (hh : (sHs S)[i]? = some h) (hve : (sVers S)[v]? = some ve) (hs : ve.2.2 = some s) (hsl : h.2.2.2.length < 40) : V (gg u) (d + 2) mm_Ha_showIfWhole 0 [some (.ref (ad 23 i)), some (.ref (ad 21 v)), some (.int clk), none, none, none] [] A (Ps none F (setHs S i (shw S h v ve.1 s clk)) ad A) := by
  have hi := (List.getElem?_eq_some_iff.mp hh).1
  have h23 := I.hob hh
  have hv := I.verS hve hs
  have hva := vAt_of hve
  have hsv : vSev S v = ve.2.1.2.1 := by unfold vSev; rw [hva]
  have hw9 := Wf.2.2.2.2.2.2.2 _ _ hve
  have h12 := Wf.2.1
  have hwr := I.warn (List.getElem?_eq_getElem hw9)
  obtain ⟨-, w3, w30, -, w0⟩ := WV _ _ _ hve hs
  have HT := I.teAt (msg_ver Wf.2.2.2.1 hve hs) w3 w30
  have HT0 := HT
  obtain ⟨-, -, ba, la, k8, k13⟩ := HT
  have e26 := W.1.2.2.2.1
  have e27 := W.1.2.2.2.2.1
  obtain ⟨x26, h26, q26⟩ := I.hs (κ := 26) (by omega) (by omega) hh
  obtain ⟨x27, h27, q27⟩ := I.hs (κ := 27) (by omega) (by omega) hh
  have q26 : x26 = _ := q26
  have q27 : x27 = _ := q27
  obtain ⟨x28, h28, g28, q28, l28⟩ := I.hs (κ := 28) (by omega) (by omega) hh
  obtain ⟨x29, h29, g29, q29, l29⟩ := I.hs (κ := 29) (by omega) (by omega) hh
  obtain ⟨x30, h30, g30, q30, l30⟩ := I.hs (κ := 30) (by omega) (by omega) hh
  subst q26 q27 q28 q29 q30
  simp only [List.length_map] at l28 l29 l30
  have n23_27 := I.hne hi 23 27 (by omega) (by omega) (by omega) (by omega) (by omega)
  have n23_28 := I.hne hi 23 28 (by omega) (by omega) (by omega) (by omega) (by omega)
  have n23_29 := I.hne hi 23 29 (by omega) (by omega) (by omega) (by omega) (by omega)
  have n23_30 := I.hne hi 23 30 (by omega) (by omega) (by omega) (by omega) (by omega)
  have n27_28 := I.hne hi 27 28 (by omega) (by omega) (by omega) (by omega) (by omega)
  have n27_29 := I.hne hi 27 29 (by omega) (by omega) (by omega) (by omega) (by omega)
  have n27_30 := I.hne hi 27 30 (by omega) (by omega) (by omega) (by omega) (by omega)
  have n28_29 := I.hne hi 28 29 (by omega) (by omega) (by omega) (by omega) (by omega)
  have n28_30 := I.hne hi 28 30 (by omega) (by omega) (by omega) (by omega) (by omega)
  have n29_30 := I.hne hi 29 30 (by omega) (by omega) (by omega) (by omega) (by omega)
  have m23 := I.ne (LV_ver (List.getElem?_eq_some_iff.mp hve).1) (LV_hs (κ := 23) (by omega) (by omega) hi) (Or.inl (by omega))
  have m27 := I.ne (LV_ver (List.getElem?_eq_some_iff.mp hve).1) (LV_hs (κ := 27) (by omega) (by omega) hi) (Or.inl (by omega))
  have m28 := I.ne (LV_ver (List.getElem?_eq_some_iff.mp hve).1) (LV_hs (κ := 28) (by omega) (by omega) hi) (Or.inl (by omega))
  have m29 := I.ne (LV_ver (List.getElem?_eq_some_iff.mp hve).1) (LV_hs (κ := 29) (by omega) (by omega) hi) (Or.inl (by omega))
  have m30 := I.ne (LV_ver (List.getElem?_eq_some_iff.mp hve).1) (LV_hs (κ := 30) (by omega) (by omega) hi) (Or.inl (by omega))
  refine v_aload_n (dk cd_Ha_showIfWhole 0 rfl) rfl ?_
  refine v_getf (dk cd_Ha_showIfWhole 1 rfl) fg_Ha_97_Sp (by repeat first | assumption | exact aset_same _ _ _ | refine (aset_ne _ _ (by first | assumption | exact Ne.symm (by assumption))).trans ?_) (by rfl) ?_
  refine v_getf (dk cd_Ha_showIfWhole 2 rfl) fg_Ha_81_Wa (by repeat first | assumption | exact aset_same _ _ _ | refine (aset_ne _ _ (by first | assumption | exact Ne.symm (by assumption))).trans ?_) (by rfl) ?_
  refine v_istore_n (dk cd_Ha_showIfWhole 3 rfl) (by decide) rfl ?_
  refine v_aload_n (dk cd_Ha_showIfWhole 4 rfl) rfl ?_
  refine v_aload_n (dk cd_Ha_showIfWhole 5 rfl) rfl ?_
  refine v_getf (dk cd_Ha_showIfWhole 6 rfl) fg_Ha_98_Sp (by repeat first | assumption | exact aset_same _ _ _ | refine (aset_ne _ _ (by first | assumption | exact Ne.symm (by assumption))).trans ?_) (by rfl) ?_
  refine v_rv (r := ("AreaWarnings$Handset", TT_Ha, 13)) (dk cd_Ha_showIfWhole 7 rfl) cv_Ha_102 rfl (by repeat first | assumption | exact aset_same _ _ _ | refine (aset_ne _ _ (by first | assumption | exact Ne.symm (by assumption))).trans ?_) (as := [_]) rfl rfl (Nat.le_of_ble_eq_true rfl) (by simp [Value.category]) (Ha_choose_ok I hh HT0 W.1.1 W.1.2.1) ?_
  refine v_istore (dk cd_Ha_showIfWhole 8 rfl) (by decide) rfl ?_
  refine v_iload (dk cd_Ha_showIfWhole 9 rfl) rfl ?_
  refine v_aload_n (dk cd_Ha_showIfWhole 10 rfl) rfl ?_
  refine v_getf (dk cd_Ha_showIfWhole 11 rfl) fg_Ha_98_Sp (by repeat first | assumption | exact aset_same _ _ _ | refine (aset_ne _ _ (by first | assumption | exact Ne.symm (by assumption))).trans ?_) (by rfl) ?_
  refine v_iload (dk cd_Ha_showIfWhole 12 rfl) rfl ?_
  refine v_rv (r := ("AreaWarnings$Texts", TT_Te, 2)) (dk cd_Ha_showIfWhole 13 rfl) cv_Ha_106 rfl (by repeat first | assumption | exact aset_same _ _ _ | refine (aset_ne _ _ (by first | assumption | exact Ne.symm (by assumption))).trans ?_) (as := [_]) rfl rfl (Nat.le_of_ble_eq_true rfl) (by simp [Value.category]) (Te_pagesOf_ok HT0 (chs_lt W.1.2.1)) ?_
  refine v_rs (dk cd_Ha_showIfWhole 14 rfl) cs_Ha_89 (as := [_, _]) rfl rfl (Nat.le_of_ble_eq_true rfl) (by simp [Value.category]) Ha_pageBits_ok ?_
  refine v_istore (dk cd_Ha_showIfWhole 15 rfl) (by decide) rfl ?_
  refine v_aload_n (dk cd_Ha_showIfWhole 16 rfl) rfl ?_
  refine v_getf (dk cd_Ha_showIfWhole 17 rfl) fg_Ha_37_Ha (by repeat first | assumption | exact aset_same _ _ _ | refine (aset_ne _ _ (by first | assumption | exact Ne.symm (by assumption))).trans ?_) (by rfl) ?_
  refine v_iload_n (dk cd_Ha_showIfWhole 18 rfl) rfl ?_
  refine v_ialdN (j := 0) (dk cd_Ha_showIfWhole 19 rfl) (by repeat first | assumption | exact aset_same _ _ _ | refine (aset_ne _ _ (by first | assumption | exact Ne.symm (by assumption))).trans ?_) (by decide) rfl (by omega) (map_getD (e := (0 : Int32)) (by omega)) ?_
  refine v_iload (dk cd_Ha_showIfWhole 20 rfl) rfl ?_
  refine v_iand (dk cd_Ha_showIfWhole 21 rfl) ?_
  refine v_iload (dk cd_Ha_showIfWhole 22 rfl) rfl ?_
  refine v_icmp_eq (tgt := 49) (dk cd_Ha_showIfWhole 23 rfl) rfl (fun q45 => ?_) (fun q45 => ?_)
  · have hsw : shw S h v ve.1 s clk = hAlm S (hPut h v ve.1 s clk) v := by exact if_pos q45
    refine v_aload_n (dk cd_Ha_showIfWhole 25 rfl) rfl ?_
    refine v_getf (dk cd_Ha_showIfWhole 26 rfl) fg_Ha_40_Ha (by repeat first | assumption | exact aset_same _ _ _ | refine (aset_ne _ _ (by first | assumption | exact Ne.symm (by assumption))).trans ?_) (by rfl) ?_
    refine v_iload_n (dk cd_Ha_showIfWhole 27 rfl) rfl ?_
    refine v_iconst (v := 1) (dk cd_Ha_showIfWhole 28 rfl) (by decide) ?_
    refine v_zastN (j := 1) (dk cd_Ha_showIfWhole 29 rfl) (by repeat first | assumption | exact aset_same _ _ _ | refine (aset_ne _ _ (by first | assumption | exact Ne.symm (by assumption))).trans ?_) (by decide) rfl (by omega) (by simp; omega) rfl ?_
    refine v_aload_n (dk cd_Ha_showIfWhole 30 rfl) rfl ?_
    refine v_getf (dk cd_Ha_showIfWhole 31 rfl) fg_Ha_46_Ha (by repeat first | assumption | exact aset_same _ _ _ | refine (aset_ne _ _ (by first | assumption | exact Ne.symm (by assumption))).trans ?_) (by rfl) ?_
    refine v_aload_n (dk cd_Ha_showIfWhole 32 rfl) rfl ?_
    refine v_getf (dk cd_Ha_showIfWhole 33 rfl) fg_Ha_56_Ha (by repeat first | assumption | exact aset_same _ _ _ | refine (aset_ne _ _ (by first | assumption | exact Ne.symm (by assumption))).trans ?_) (by rfl) ?_
    refine v_aload_n (dk cd_Ha_showIfWhole 34 rfl) rfl ?_
    refine v_aastN (dk cd_Ha_showIfWhole 35 rfl) as_8_Sp (by repeat first | assumption | exact aset_same _ _ _ | refine (aset_ne _ _ (by first | assumption | exact Ne.symm (by assumption))).trans ?_) (by repeat first | assumption | exact aset_same _ _ _ | refine (aset_ne _ _ (by first | assumption | exact Ne.symm (by assumption))).trans ?_) (by omega) (by rw [List.length_append, List.length_map]; omega) ?_
    refine v_aload_n (dk cd_Ha_showIfWhole 36 rfl) rfl ?_
    refine v_getf (dk cd_Ha_showIfWhole 37 rfl) fg_Ha_50_Ha (by repeat first | assumption | exact aset_same _ _ _ | refine (aset_ne _ _ (by first | assumption | exact Ne.symm (by assumption))).trans ?_) (by rfl) ?_
    refine v_aload_n (dk cd_Ha_showIfWhole 38 rfl) rfl ?_
    refine v_getf (dk cd_Ha_showIfWhole 39 rfl) fg_Ha_56_Ha (by repeat first | assumption | exact aset_same _ _ _ | refine (aset_ne _ _ (by first | assumption | exact Ne.symm (by assumption))).trans ?_) (by rfl) ?_
    refine v_iload (dk cd_Ha_showIfWhole 40 rfl) rfl ?_
    refine v_iastN (j := 0) (dk cd_Ha_showIfWhole 41 rfl) (by repeat first | assumption | exact aset_same _ _ _ | refine (aset_ne _ _ (by first | assumption | exact Ne.symm (by assumption))).trans ?_) (by decide) rfl (by omega) (by rw [List.length_append, List.length_map]; omega) ?_
    refine v_aload_n (dk cd_Ha_showIfWhole 42 rfl) rfl ?_
    refine v_getf (dk cd_Ha_showIfWhole 43 rfl) fg_Ha_53_Ha (by repeat first | assumption | exact aset_same _ _ _ | refine (aset_ne _ _ (by first | assumption | exact Ne.symm (by assumption))).trans ?_) (by rfl) ?_
    refine v_aload_n (dk cd_Ha_showIfWhole 44 rfl) rfl ?_
    refine v_getf (dk cd_Ha_showIfWhole 45 rfl) fg_Ha_56_Ha (by repeat first | assumption | exact aset_same _ _ _ | refine (aset_ne _ _ (by first | assumption | exact Ne.symm (by assumption))).trans ?_) (by rfl) ?_
    refine v_iload_n (dk cd_Ha_showIfWhole 46 rfl) rfl ?_
    refine v_iastN (j := 0) (dk cd_Ha_showIfWhole 47 rfl) (by repeat first | assumption | exact aset_same _ _ _ | refine (aset_ne _ _ (by first | assumption | exact Ne.symm (by assumption))).trans ?_) (by decide) rfl (by omega) (by rw [List.length_append, List.length_map]; omega) ?_
    refine v_aload_n (dk cd_Ha_showIfWhole 48 rfl) rfl ?_
    refine v_dup (dk cd_Ha_showIfWhole 49 rfl) rfl ?_
    refine v_getf (dk cd_Ha_showIfWhole 50 rfl) fg_Ha_56_Ha (by repeat first | assumption | exact aset_same _ _ _ | refine (aset_ne _ _ (by first | assumption | exact Ne.symm (by assumption))).trans ?_) (by rfl) ?_
    refine v_iconst (v := nI 1) (dk cd_Ha_showIfWhole 51 rfl) (by decide) ?_
    refine v_iaddN (dk cd_Ha_showIfWhole 52 rfl) ?_
    refine v_putf (dk cd_Ha_showIfWhole 53 rfl) fp_Ha_56_Ha (fun h => by cases h) (by repeat first | assumption | exact aset_same _ _ _ | refine (aset_ne _ _ (by first | assumption | exact Ne.symm (by assumption))).trans ?_) rfl rfl ?_
    refine v_aload_n (dk cd_Ha_showIfWhole 54 rfl) rfl ?_
    refine v_getf (dk cd_Ha_showIfWhole 55 rfl) fg_Ha_112_Sp (by repeat first | assumption | exact aset_same _ _ _ | refine (aset_ne _ _ (by first | assumption | exact Ne.symm (by assumption))).trans ?_) (by rfl) ?_
    refine v_aload_n (dk cd_Ha_showIfWhole 56 rfl) rfl ?_
    refine v_getf (dk cd_Ha_showIfWhole 57 rfl) fg_Ha_9_Ha (by repeat first | assumption | exact aset_same _ _ _ | refine (aset_ne _ _ (by first | assumption | exact Ne.symm (by assumption))).trans ?_) (by rfl) ?_
    refine v_icmp_lt (tgt := 118) (dk cd_Ha_showIfWhole 58 rfl) rfl (fun q105 => ?_) (fun q105 => ?_)
    · have hal : hAlm S (hPut h v ve.1 s clk) v = hPut h v ve.1 s clk := by unfold hAlm; rw [if_pos (by rw [hsv]; exact q105)]
      refine v_vret (dk cd_Ha_showIfWhole 65 rfl) rfl (ps_of ?_ rfl rfl)
      rw [hsw, hal]
      refine I.updHs hi rfl (fun q hq => ?_) (fun κ h1 h2 => ?_)
      · exact (aset_ne _ _ (hq 23 (by omega) (by omega))).trans ((aset_ne _ _ (hq 30 (by omega) (by omega))).trans ((aset_ne _ _ (hq 29 (by omega) (by omega))).trans ((aset_ne _ _ (hq 28 (by omega) (by omega))).trans (aset_ne _ _ (hq 27 (by omega) (by omega))))))
      · rcases k23 h1 h2 with rfl | rfl | rfl | rfl | rfl | rfl | rfl | rfl
        · refine ⟨_, aset_same _ _ _, ?_⟩
          simp [CHs, hPut, hWs, hSh, hAl]
        · obtain ⟨xx, hh1, hh2⟩ := I.hs (κ := 24) (by omega) (by omega) hh
          exact ⟨xx, (aset_ne _ _ (I.hne hi 24 23 (by omega) (by omega) (by omega) (by omega) (by omega))).trans ((aset_ne _ _ (I.hne hi 24 30 (by omega) (by omega) (by omega) (by omega) (by omega))).trans ((aset_ne _ _ (I.hne hi 24 29 (by omega) (by omega) (by omega) (by omega) (by omega))).trans ((aset_ne _ _ (I.hne hi 24 28 (by omega) (by omega) (by omega) (by omega) (by omega))).trans ((aset_ne _ _ (I.hne hi 24 27 (by omega) (by omega) (by omega) (by omega) (by omega))).trans (hh1))))), hh2⟩
        · obtain ⟨xx, hh1, hh2⟩ := I.hs (κ := 25) (by omega) (by omega) hh
          exact ⟨xx, (aset_ne _ _ (I.hne hi 25 23 (by omega) (by omega) (by omega) (by omega) (by omega))).trans ((aset_ne _ _ (I.hne hi 25 30 (by omega) (by omega) (by omega) (by omega) (by omega))).trans ((aset_ne _ _ (I.hne hi 25 29 (by omega) (by omega) (by omega) (by omega) (by omega))).trans ((aset_ne _ _ (I.hne hi 25 28 (by omega) (by omega) (by omega) (by omega) (by omega))).trans ((aset_ne _ _ (I.hne hi 25 27 (by omega) (by omega) (by omega) (by omega) (by omega))).trans (hh1))))), hh2⟩
        · obtain ⟨xx, hh1, hh2⟩ := I.hs (κ := 26) (by omega) (by omega) hh
          exact ⟨xx, (aset_ne _ _ (I.hne hi 26 23 (by omega) (by omega) (by omega) (by omega) (by omega))).trans ((aset_ne _ _ (I.hne hi 26 30 (by omega) (by omega) (by omega) (by omega) (by omega))).trans ((aset_ne _ _ (I.hne hi 26 29 (by omega) (by omega) (by omega) (by omega) (by omega))).trans ((aset_ne _ _ (I.hne hi 26 28 (by omega) (by omega) (by omega) (by omega) (by omega))).trans ((aset_ne _ _ (I.hne hi 26 27 (by omega) (by omega) (by omega) (by omega) (by omega))).trans (hh1))))), hh2⟩
        · refine ⟨_, (aset_ne _ _ (I.hne hi 27 23 (by omega) (by omega) (by omega) (by omega) (by omega))).trans ((aset_ne _ _ (I.hne hi 27 30 (by omega) (by omega) (by omega) (by omega) (by omega))).trans ((aset_ne _ _ (I.hne hi 27 29 (by omega) (by omega) (by omega) (by omega) (by omega))).trans ((aset_ne _ _ (I.hne hi 27 28 (by omega) (by omega) (by omega) (by omega) (by omega))).trans (aset_same _ _ _)))), ?_⟩
          simp [CHs, hPut, hWs, hSh, hAl, List.map_set, b2i]
        · refine ⟨_, (aset_ne _ _ (I.hne hi 28 23 (by omega) (by omega) (by omega) (by omega) (by omega))).trans ((aset_ne _ _ (I.hne hi 28 30 (by omega) (by omega) (by omega) (by omega) (by omega))).trans ((aset_ne _ _ (I.hne hi 28 29 (by omega) (by omega) (by omega) (by omega) (by omega))).trans (aset_same _ _ _))), ?_⟩
          have h9 := ArG.app (k := 108) (v := .ref (ad 21 v)) (show (h.2.2.2.map fun q => Value.ref (ad 21 q.1)).length + g28.length = 40 by simpa using l28) (by simpa using hsl)
          simpa [CHs, hPut, hWs, hSh, hAl] using h9
        · refine ⟨_, (aset_ne _ _ (I.hne hi 29 23 (by omega) (by omega) (by omega) (by omega) (by omega))).trans ((aset_ne _ _ (I.hne hi 29 30 (by omega) (by omega) (by omega) (by omega) (by omega))).trans (aset_same _ _ _)), ?_⟩
          have h9 := ArG.app (k := 100) (v := .int (nI (chs h.2.1 s.2.1.2))) (show (h.2.2.2.map fun q => Value.int q.2.1).length + g29.length = 40 by simpa using l29) (by simpa using hsl)
          simpa [CHs, hPut, hWs, hSh, hAl] using h9
        · refine ⟨_, (aset_ne _ _ (I.hne hi 30 23 (by omega) (by omega) (by omega) (by omega) (by omega))).trans (aset_same _ _ _), ?_⟩
          have h9 := ArG.app (k := 100) (v := .int clk) (show (h.2.2.2.map fun q => Value.int q.2.2).length + g30.length = 40 by simpa using l30) (by simpa using hsl)
          simpa [CHs, hPut, hWs, hSh, hAl] using h9
    · refine v_aload_n (dk cd_Ha_showIfWhole 59 rfl) rfl ?_
      refine v_dup (dk cd_Ha_showIfWhole 60 rfl) rfl ?_
      refine v_getf (dk cd_Ha_showIfWhole 61 rfl) fg_Ha_28_Ha (by repeat first | assumption | exact aset_same _ _ _ | refine (aset_ne _ _ (by first | assumption | exact Ne.symm (by assumption))).trans ?_) (by rfl) ?_
      refine v_iconst (v := 1) (dk cd_Ha_showIfWhole 62 rfl) (by decide) ?_
      refine v_iadd (dk cd_Ha_showIfWhole 63 rfl) ?_
      refine v_putf (dk cd_Ha_showIfWhole 64 rfl) fp_Ha_28_Ha (fun h => by cases h) (by repeat first | assumption | exact aset_same _ _ _ | refine (aset_ne _ _ (by first | assumption | exact Ne.symm (by assumption))).trans ?_) rfl rfl ?_
      have hal : hAlm S (hPut h v ve.1 s clk) v = hAl (hPut h v ve.1 s clk) (h.1.2.2.2 + 1) := by unfold hAlm; rw [if_neg (by rw [hsv]; exact q105)]; rfl
      refine v_vret (dk cd_Ha_showIfWhole 65 rfl) rfl (ps_of ?_ rfl rfl)
      rw [hsw, hal, aset_aset]
      refine I.updHs hi rfl (fun q hq => ?_) (fun κ h1 h2 => ?_)
      · exact (aset_ne _ _ (hq 23 (by omega) (by omega))).trans ((aset_ne _ _ (hq 30 (by omega) (by omega))).trans ((aset_ne _ _ (hq 29 (by omega) (by omega))).trans ((aset_ne _ _ (hq 28 (by omega) (by omega))).trans (aset_ne _ _ (hq 27 (by omega) (by omega))))))
      · rcases k23 h1 h2 with rfl | rfl | rfl | rfl | rfl | rfl | rfl | rfl
        · refine ⟨_, aset_same _ _ _, ?_⟩
          simp [CHs, hPut, hWs, hSh, hAl]
        · obtain ⟨xx, hh1, hh2⟩ := I.hs (κ := 24) (by omega) (by omega) hh
          exact ⟨xx, (aset_ne _ _ (I.hne hi 24 23 (by omega) (by omega) (by omega) (by omega) (by omega))).trans ((aset_ne _ _ (I.hne hi 24 30 (by omega) (by omega) (by omega) (by omega) (by omega))).trans ((aset_ne _ _ (I.hne hi 24 29 (by omega) (by omega) (by omega) (by omega) (by omega))).trans ((aset_ne _ _ (I.hne hi 24 28 (by omega) (by omega) (by omega) (by omega) (by omega))).trans ((aset_ne _ _ (I.hne hi 24 27 (by omega) (by omega) (by omega) (by omega) (by omega))).trans (hh1))))), hh2⟩
        · obtain ⟨xx, hh1, hh2⟩ := I.hs (κ := 25) (by omega) (by omega) hh
          exact ⟨xx, (aset_ne _ _ (I.hne hi 25 23 (by omega) (by omega) (by omega) (by omega) (by omega))).trans ((aset_ne _ _ (I.hne hi 25 30 (by omega) (by omega) (by omega) (by omega) (by omega))).trans ((aset_ne _ _ (I.hne hi 25 29 (by omega) (by omega) (by omega) (by omega) (by omega))).trans ((aset_ne _ _ (I.hne hi 25 28 (by omega) (by omega) (by omega) (by omega) (by omega))).trans ((aset_ne _ _ (I.hne hi 25 27 (by omega) (by omega) (by omega) (by omega) (by omega))).trans (hh1))))), hh2⟩
        · obtain ⟨xx, hh1, hh2⟩ := I.hs (κ := 26) (by omega) (by omega) hh
          exact ⟨xx, (aset_ne _ _ (I.hne hi 26 23 (by omega) (by omega) (by omega) (by omega) (by omega))).trans ((aset_ne _ _ (I.hne hi 26 30 (by omega) (by omega) (by omega) (by omega) (by omega))).trans ((aset_ne _ _ (I.hne hi 26 29 (by omega) (by omega) (by omega) (by omega) (by omega))).trans ((aset_ne _ _ (I.hne hi 26 28 (by omega) (by omega) (by omega) (by omega) (by omega))).trans ((aset_ne _ _ (I.hne hi 26 27 (by omega) (by omega) (by omega) (by omega) (by omega))).trans (hh1))))), hh2⟩
        · refine ⟨_, (aset_ne _ _ (I.hne hi 27 23 (by omega) (by omega) (by omega) (by omega) (by omega))).trans ((aset_ne _ _ (I.hne hi 27 30 (by omega) (by omega) (by omega) (by omega) (by omega))).trans ((aset_ne _ _ (I.hne hi 27 29 (by omega) (by omega) (by omega) (by omega) (by omega))).trans ((aset_ne _ _ (I.hne hi 27 28 (by omega) (by omega) (by omega) (by omega) (by omega))).trans (aset_same _ _ _)))), ?_⟩
          simp [CHs, hPut, hWs, hSh, hAl, List.map_set, b2i]
        · refine ⟨_, (aset_ne _ _ (I.hne hi 28 23 (by omega) (by omega) (by omega) (by omega) (by omega))).trans ((aset_ne _ _ (I.hne hi 28 30 (by omega) (by omega) (by omega) (by omega) (by omega))).trans ((aset_ne _ _ (I.hne hi 28 29 (by omega) (by omega) (by omega) (by omega) (by omega))).trans (aset_same _ _ _))), ?_⟩
          have h9 := ArG.app (k := 108) (v := .ref (ad 21 v)) (show (h.2.2.2.map fun q => Value.ref (ad 21 q.1)).length + g28.length = 40 by simpa using l28) (by simpa using hsl)
          simpa [CHs, hPut, hWs, hSh, hAl] using h9
        · refine ⟨_, (aset_ne _ _ (I.hne hi 29 23 (by omega) (by omega) (by omega) (by omega) (by omega))).trans ((aset_ne _ _ (I.hne hi 29 30 (by omega) (by omega) (by omega) (by omega) (by omega))).trans (aset_same _ _ _)), ?_⟩
          have h9 := ArG.app (k := 100) (v := .int (nI (chs h.2.1 s.2.1.2))) (show (h.2.2.2.map fun q => Value.int q.2.1).length + g29.length = 40 by simpa using l29) (by simpa using hsl)
          simpa [CHs, hPut, hWs, hSh, hAl] using h9
        · refine ⟨_, (aset_ne _ _ (I.hne hi 30 23 (by omega) (by omega) (by omega) (by omega) (by omega))).trans (aset_same _ _ _), ?_⟩
          have h9 := ArG.app (k := 100) (v := .int clk) (show (h.2.2.2.map fun q => Value.int q.2.2).length + g30.length = 40 by simpa using l30) (by simpa using hsl)
          simpa [CHs, hPut, hWs, hSh, hAl] using h9
  · have hsw : shw S h v ve.1 s clk = h := by exact if_neg q45
    rw [hsw, setHs_id hh]
    exact v_vret (dk cd_Ha_showIfWhole 24 rfl) rfl (ps_of I rfl rfl)
theorem Wf_setHs {S : SS} {i : Nat} {h : HaS} (W : Wf S) : Wf (setHs S i h) := by
  obtain ⟨w1, w2, w3, w4, w5, w6, w7, w8⟩ := W
  exact ⟨w1, w2, w3, w4, by rw [show (sHs (setHs S i h)).length = (sHs S).length from List.length_set]; exact w5, w6, w7, w8⟩
set_option maxRecDepth 100000 in
set_option maxHeartbeats 4000000 in
theorem Ha_hear_72 {i v : Nat} {h : HaS} {ve : VeS} {l n clk : Int32} (I : Inv F S ad A) (Wf : Wf S) (WV : WfV S) (W : HOK S h) (hh : (sHs S)[i]? = some h) (hve : (sVers S)[v]? = some ve) (hsl : h.2.2.1.2.2.getD ve.1 false = false → h.2.2.2.length < 40) : V (gg u) (d + 3) mm_Ha_hear 72 [some (.ref (ad 23 i)), some (.ref (ad 21 v)), some (.int l), some (.int n), some (.int clk), some (.int (nI ve.1)), none] [] A (Ps none F (setHs S i (hr2 S h v l n clk)) ad A) := by
  have hi := (List.getElem?_eq_some_iff.mp hh).1
  have h23 := I.hob hh
  have hva := vAt_of hve
  have hw9 := Wf.2.2.2.2.2.2.2 _ _ hve
  have h12 := Wf.2.1
  cases hs : ve.2.2 with
  | none =>
    have hv := I.verC hve hs
    have h2e : hr2 S h v l n clk = h := by simp [hr2, hva, hs]
    rw [h2e, setHs_id hh]
    refine v_aload_n (dk cd_Ha_hear 39 rfl) rfl ?_
    refine v_instNo (dk cd_Ha_hear 40 rfl) in_Ha_44_Ca (by assumption) ?_
    refine v_if_eq (tgt := 120) (dk cd_Ha_hear 41 rfl) rfl (fun _ => ?_) (fun q => absurd rfl q)
    exact v_vret (dk cd_Ha_hear 66 rfl) rfl (ps_of I rfl rfl)
  | some s =>
    have hv := I.verS hve hs
    have e26 := W.1.2.2.2.1
    have e27 := W.1.2.2.2.2.1
    obtain ⟨x26, h26, q26⟩ := I.hs (κ := 26) (by omega) (by omega) hh
    have q26 : x26 = _ := q26
    subst q26
    refine v_aload_n (dk cd_Ha_hear 39 rfl) rfl ?_
    refine v_instY (dk cd_Ha_hear 40 rfl) iy_Ha_44_Sp (by assumption) ?_
    refine v_if_eq (tgt := 120) (dk cd_Ha_hear 41 rfl) rfl (fun q => absurd q (by decide)) (fun _ => ?_)
    refine v_aload_n (dk cd_Ha_hear 42 rfl) rfl ?_
    refine v_castY (dk cd_Ha_hear 43 rfl) iy_Ha_44_Sp (by assumption) ?_
    refine v_astore (dk cd_Ha_hear 44 rfl) (by decide) rfl ?_
    refine v_aload_n (dk cd_Ha_hear 45 rfl) rfl ?_
    refine v_getf (dk cd_Ha_hear 46 rfl) fg_Ha_37_Ha (by assumption) (by rfl) ?_
    refine v_iload (dk cd_Ha_hear 47 rfl) rfl ?_
    refine v_dup2 (dk cd_Ha_hear 48 rfl) rfl rfl ?_
    refine v_ialdN (j := 0) (dk cd_Ha_hear 49 rfl) (by assumption) (by decide) rfl (by omega) (map_getD (e := (0 : Int32)) (by omega)) ?_
    refine v_iload_n (dk cd_Ha_hear 50 rfl) rfl ?_
    refine v_iconst (v := 1) (dk cd_Ha_hear 51 rfl) (by decide) ?_
    refine v_rs (dk cd_Ha_hear 52 rfl) cs_Ha_89 (as := [_, _]) rfl rfl (Nat.le_of_ble_eq_true rfl) (by simp [Value.category]) Ha_pageBits_ok ?_
    refine v_iload_n (dk cd_Ha_hear 53 rfl) rfl ?_
    refine v_ishl (dk cd_Ha_hear 54 rfl) ?_
    refine v_ior (dk cd_Ha_hear 55 rfl) ?_
    refine v_iastN (j := 0) (dk cd_Ha_hear 56 rfl) (by assumption) (by decide) rfl (by omega) (by simp; omega) ?_
    have I2 : Inv F (setHs S i (hAdd h ve.1 l n)) ad (aset A (ad 26 i) (100, (h.2.2.1.2.1.map fun b => Value.int b).set ve.1 (.int (h.2.2.1.2.1.getD ve.1 0 ||| pBits l 1 <<< (n &&& 31))))) := I.updH1 hh (κ0 := 26) (by omega) (by omega) (by simp [CHs, hAdd, hHl, List.map_set]) (fun κ y k1 k2 k3 hy => by rcases k23 k1 k2 with rfl | rfl | rfl | rfl | rfl | rfl | rfl | rfl; exact hy; exact hy; exact hy; exact absurd rfl k3; exact hy; exact hy; exact hy; exact hy)
    have hh2 := getHs (S := S) (c := hAdd h ve.1 l n) hi
    have e27b : (hAdd h ve.1 l n).2.2.1.2.2.length = 12 := e27
    have h23b := I2.hob hh2
    obtain ⟨x27, h27, q27⟩ := I2.hs (κ := 27) (by omega) (by omega) hh2
    have q27 : x27 = _ := q27
    subst q27
    refine v_aload_n (dk cd_Ha_hear 57 rfl) rfl ?_
    refine v_getf (dk cd_Ha_hear 58 rfl) fg_Ha_40_Ha (by assumption) (by rfl) ?_
    refine v_iload (dk cd_Ha_hear 59 rfl) rfl ?_
    refine v_zaldN (j := 1) (dk cd_Ha_hear 60 rfl) (by assumption) (by decide) rfl (by omega) (map_getD (e := false) (by omega)) ?_
    refine v_ifneB (tgt := 120) (dk cd_Ha_hear 61 rfl) rfl (fun q109 => ?_) (fun q109 => ?_)
    · have h2e : hr2 S h v l n clk = hAdd h ve.1 l n := by unfold hr2; rw [hva, hs]; exact if_pos q109
      rw [h2e]
      exact v_vret (dk cd_Ha_hear 66 rfl) rfl (ps_of I2 rfl rfl)
    · refine v_aload_n (dk cd_Ha_hear 62 rfl) rfl ?_
      refine v_aload (dk cd_Ha_hear 63 rfl) rfl ?_
      refine v_iload (dk cd_Ha_hear 64 rfl) rfl ?_
      refine v_callv (r := ("AreaWarnings$Handset", TT_Ha, 13)) (dk cd_Ha_hear 65 rfl) cv_Ha_93 rfl (by assumption) (as := [_, _]) rfl rfl (Nat.le_of_ble_eq_true rfl) (by simp [Value.category]) (Ha_showIfWhole_ok (S := setHs S i (hAdd h ve.1 l n)) I2 (Wf_setHs Wf) WV (W.held (l := h.2.2.1.2.1.set ve.1 _) (by simpa using e26)) hh2 hve hs (hsl q109)) ps_no (fun v9 A9 hq => ?_)
      obtain ⟨e9, I, hA2⟩ := hq
      cases e9
      rw [setHs2] at I
      have q109 : h.2.2.1.2.2.getD ve.1 false = false := q109
      have h2e : hr2 S h v l n clk = shw S (hAdd h ve.1 l n) v ve.1 s clk := by unfold hr2; rw [hva, hs]; exact if_neg (by rw [q109]; exact Bool.false_ne_true)
      rw [h2e]
      exact v_vret (dk cd_Ha_hear 66 rfl) rfl (ps_of I hA2 rfl)
set_option maxRecDepth 100000 in
set_option maxHeartbeats 4000000 in
theorem Ha_hear_48 {i v : Nat} {h : HaS} {ve : VeS} {l n clk : Int32} (I : Inv F S ad A) (Wf : Wf S) (WV : WfV S) (W : HOK S h) (W2 : HOK S (hRes h v ve.1)) (hh : (sHs S)[i]? = some h) (hve : (sVers S)[v]? = some ve) : V (gg u) (d + 3) mm_Ha_hear 48 [some (.ref (ad 23 i)), some (.ref (ad 21 v)), some (.int l), some (.int n), some (.int clk), some (.int (nI ve.1)), none] [] A (Ps none F (setHs S i (hr2 S (hRes h v ve.1) v l n clk)) ad A) := by
  have hi := (List.getElem?_eq_some_iff.mp hh).1
  have hvi := (List.getElem?_eq_some_iff.mp hve).1
  have h23 := I.hob hh
  have hva := vAt_of hve
  have hw9 := Wf.2.2.2.2.2.2.2 _ _ hve
  have h12 := Wf.2.1
  obtain ⟨vl, hv⟩ := I.verV hve
  have e25 := W.1.2.2.1
  have e26 := W.1.2.2.2.1
  have e27 := W.1.2.2.2.2.1
  obtain ⟨x25, h25, q25⟩ := I.hs (κ := 25) (by omega) (by omega) hh
  obtain ⟨x26, h26, q26⟩ := I.hs (κ := 26) (by omega) (by omega) hh
  obtain ⟨x27, h27, q27⟩ := I.hs (κ := 27) (by omega) (by omega) hh
  have q25 : x25 = _ := q25
  have q26 : x26 = _ := q26
  have q27 : x27 = _ := q27
  subst q25 q26 q27
  have n23_25 := I.hne hi 23 25 (by omega) (by omega) (by omega) (by omega) (by omega)
  have n23_26 := I.hne hi 23 26 (by omega) (by omega) (by omega) (by omega) (by omega)
  have n23_27 := I.hne hi 23 27 (by omega) (by omega) (by omega) (by omega) (by omega)
  have n25_26 := I.hne hi 25 26 (by omega) (by omega) (by omega) (by omega) (by omega)
  have n25_27 := I.hne hi 25 27 (by omega) (by omega) (by omega) (by omega) (by omega)
  have n26_27 := I.hne hi 26 27 (by omega) (by omega) (by omega) (by omega) (by omega)
  refine v_aload_n (dk cd_Ha_hear 24 rfl) rfl ?_
  refine v_getf (dk cd_Ha_hear 25 rfl) fg_Ha_33_Ha (by repeat first | assumption | exact aset_same _ _ _ | refine (aset_ne _ _ (by first | assumption | exact Ne.symm (by assumption))).trans ?_) (by rfl) ?_
  refine v_iload (dk cd_Ha_hear 26 rfl) rfl ?_
  refine v_aload_n (dk cd_Ha_hear 27 rfl) rfl ?_
  refine v_aastN (dk cd_Ha_hear 28 rfl) asV (by repeat first | assumption | exact aset_same _ _ _ | refine (aset_ne _ _ (by first | assumption | exact Ne.symm (by assumption))).trans ?_) (by repeat first | assumption | exact aset_same _ _ _ | refine (aset_ne _ _ (by first | assumption | exact Ne.symm (by assumption))).trans ?_) (by omega) (by simp; omega) ?_
  refine v_aload_n (dk cd_Ha_hear 29 rfl) rfl ?_
  refine v_getf (dk cd_Ha_hear 30 rfl) fg_Ha_37_Ha (by repeat first | assumption | exact aset_same _ _ _ | refine (aset_ne _ _ (by first | assumption | exact Ne.symm (by assumption))).trans ?_) (by rfl) ?_
  refine v_iload (dk cd_Ha_hear 31 rfl) rfl ?_
  refine v_iconst (v := 0) (dk cd_Ha_hear 32 rfl) (by decide) ?_
  refine v_iastN (j := 0) (dk cd_Ha_hear 33 rfl) (by repeat first | assumption | exact aset_same _ _ _ | refine (aset_ne _ _ (by first | assumption | exact Ne.symm (by assumption))).trans ?_) (by decide) rfl (by omega) (by simp; omega) ?_
  refine v_aload_n (dk cd_Ha_hear 34 rfl) rfl ?_
  refine v_getf (dk cd_Ha_hear 35 rfl) fg_Ha_40_Ha (by repeat first | assumption | exact aset_same _ _ _ | refine (aset_ne _ _ (by first | assumption | exact Ne.symm (by assumption))).trans ?_) (by rfl) ?_
  refine v_iload (dk cd_Ha_hear 36 rfl) rfl ?_
  refine v_iconst (v := 0) (dk cd_Ha_hear 37 rfl) (by decide) ?_
  refine v_zastN (j := 1) (dk cd_Ha_hear 38 rfl) (by repeat first | assumption | exact aset_same _ _ _ | refine (aset_ne _ _ (by first | assumption | exact Ne.symm (by assumption))).trans ?_) (by decide) rfl (by omega) (by simp; omega) rfl ?_
  have I2 : Inv F (setHs S i (hRes h v ve.1)) ad (aset (aset (aset A (ad 25 i) (107, (h.2.2.1.1.map (rfN ad 21)).set ve.1 (.ref (ad 21 v)))) (ad 26 i) (100, (h.2.2.1.2.1.map fun b => Value.int b).set ve.1 (.int 0))) (ad 27 i) (101, (h.2.2.1.2.2.map fun b => Value.int (b2i b)).set ve.1 (.int 0))) := by
    refine I.updHs hi rfl (fun q hq => ?_) (fun κ h1 h2 => ?_)
    · exact (aset_ne _ _ (hq 27 (by omega) (by omega))).trans ((aset_ne _ _ (hq 26 (by omega) (by omega))).trans (aset_ne _ _ (hq 25 (by omega) (by omega))))
    · rcases k23 h1 h2 with rfl | rfl | rfl | rfl | rfl | rfl | rfl | rfl
      · obtain ⟨xx, hh1, hh2⟩ := I.hs (κ := 23) (by omega) (by omega) hh
        exact ⟨xx, (aset_ne _ _ (I.hne hi 23 27 (by omega) (by omega) (by omega) (by omega) (by omega))).trans ((aset_ne _ _ (I.hne hi 23 26 (by omega) (by omega) (by omega) (by omega) (by omega))).trans ((aset_ne _ _ (I.hne hi 23 25 (by omega) (by omega) (by omega) (by omega) (by omega))).trans (hh1))), hh2⟩
      · obtain ⟨xx, hh1, hh2⟩ := I.hs (κ := 24) (by omega) (by omega) hh
        exact ⟨xx, (aset_ne _ _ (I.hne hi 24 27 (by omega) (by omega) (by omega) (by omega) (by omega))).trans ((aset_ne _ _ (I.hne hi 24 26 (by omega) (by omega) (by omega) (by omega) (by omega))).trans ((aset_ne _ _ (I.hne hi 24 25 (by omega) (by omega) (by omega) (by omega) (by omega))).trans (hh1))), hh2⟩
      · refine ⟨_, (aset_ne _ _ (I.hne hi 25 27 (by omega) (by omega) (by omega) (by omega) (by omega))).trans ((aset_ne _ _ (I.hne hi 25 26 (by omega) (by omega) (by omega) (by omega) (by omega))).trans (aset_same _ _ _)), ?_⟩
        simp [CHs, hRes, hWs, hHl, hHd, List.map_set, rfN]
      · refine ⟨_, (aset_ne _ _ (I.hne hi 26 27 (by omega) (by omega) (by omega) (by omega) (by omega))).trans (aset_same _ _ _), ?_⟩
        simp [CHs, hRes, hWs, hHl, hHd, List.map_set]
      · refine ⟨_, aset_same _ _ _, ?_⟩
        simp [CHs, hRes, hWs, hHl, hHd, List.map_set, b2i]
      · obtain ⟨xx, hh1, hh2⟩ := I.hs (κ := 28) (by omega) (by omega) hh
        exact ⟨xx, (aset_ne _ _ (I.hne hi 28 27 (by omega) (by omega) (by omega) (by omega) (by omega))).trans ((aset_ne _ _ (I.hne hi 28 26 (by omega) (by omega) (by omega) (by omega) (by omega))).trans ((aset_ne _ _ (I.hne hi 28 25 (by omega) (by omega) (by omega) (by omega) (by omega))).trans (hh1))), hh2⟩
      · obtain ⟨xx, hh1, hh2⟩ := I.hs (κ := 29) (by omega) (by omega) hh
        exact ⟨xx, (aset_ne _ _ (I.hne hi 29 27 (by omega) (by omega) (by omega) (by omega) (by omega))).trans ((aset_ne _ _ (I.hne hi 29 26 (by omega) (by omega) (by omega) (by omega) (by omega))).trans ((aset_ne _ _ (I.hne hi 29 25 (by omega) (by omega) (by omega) (by omega) (by omega))).trans (hh1))), hh2⟩
      · obtain ⟨xx, hh1, hh2⟩ := I.hs (κ := 30) (by omega) (by omega) hh
        exact ⟨xx, (aset_ne _ _ (I.hne hi 30 27 (by omega) (by omega) (by omega) (by omega) (by omega))).trans ((aset_ne _ _ (I.hne hi 30 26 (by omega) (by omega) (by omega) (by omega) (by omega))).trans ((aset_ne _ _ (I.hne hi 30 25 (by omega) (by omega) (by omega) (by omega) (by omega))).trans (hh1))), hh2⟩
  have h9 := Ha_hear_72 (u := u) (d := d) (S := setHs S i (hRes h v ve.1)) (v := v) (l := l) (n := n) (clk := clk) I2 (Wf_setHs Wf) WV W2 (getHs hi) hve (fun hq => (W2.room Wf.2.2.2.1 hvi (by rw [hva]; exact getD_set_self (by omega)) (by rw [hva]; exact hq)).2)
  rw [setHs2] at h9
  exact h9
set_option maxRecDepth 100000 in
set_option maxHeartbeats 4000000 in
theorem Ha_hear_ok {i v : Nat} {h : HaS} {ve : VeS} {l n clk : Int32} (I : Inv F S ad A) (Wf : Wf S) (WV : WfV S) (N : NumOK S) (W : HOK S h) (hh : (sHs S)[i]? = some h) (hve : (sVers S)[v]? = some ve) : V (gg u) (d + 3) mm_Ha_hear 0 [some (.ref (ad 23 i)), some (.ref (ad 21 v)), some (.int l), some (.int n), some (.int clk), none, none] [] A (Ps none F (setHs S i (hearS S h v l n clk)) ad A) := by
  have hi := (List.getElem?_eq_some_iff.mp hh).1
  have hvi := (List.getElem?_eq_some_iff.mp hve).1
  have h23 := I.hob hh
  have hva := vAt_of hve
  have hw9 := Wf.2.2.2.2.2.2.2 _ _ hve
  have h12 := Wf.2.1
  have hwr := I.warn (List.getElem?_eq_getElem hw9)
  obtain ⟨vl, hv⟩ := I.verV hve
  have e25 := W.1.2.2.1
  obtain ⟨x25, h25, q25⟩ := I.hs (κ := 25) (by omega) (by omega) hh
  have q25 : x25 = _ := q25
  subst q25
  have hwv : (vAt S v).1 < 12 := by rw [hva]; omega
  cases hd : h.2.2.1.1.getD ve.1 none with
  | none =>
    have hx : (h.2.2.1.1.map (rfN ad 21))[ve.1]? = some .null := by rw [map_getD (e := none) (by omega), hd]; rfl
    have hsk : hSkip S h v = false := by unfold hSkip; rw [hva, hd]
    have hrr : hr1 S h v = hRes h v ve.1 := by unfold hr1; rw [hva, hd]; rfl
    have W2 := W.hone N hvi hwv hsk
    have hee : hearS S h v l n clk = hr2 S (hRes h v ve.1) v l n clk := by unfold hearS; rw [hsk, hrr]; rfl
    rw [hrr] at W2
    rw [hee]
    refine v_aload_n (dk cd_Ha_hear 0 rfl) rfl ?_
    refine v_getf (dk cd_Ha_hear 1 rfl) (fgV fg_Ha_77_Sp fg_Ha_77_Ca _) (by assumption) (by rfl) ?_
    refine v_getf (dk cd_Ha_hear 2 rfl) fg_Ha_81_Wa (by assumption) (by rfl) ?_
    refine v_istore (dk cd_Ha_hear 3 rfl) (by decide) rfl ?_
    refine v_aload_n (dk cd_Ha_hear 4 rfl) rfl ?_
    refine v_getf (dk cd_Ha_hear 5 rfl) fg_Ha_33_Ha (by assumption) (by rfl) ?_
    refine v_iload (dk cd_Ha_hear 6 rfl) rfl ?_
    refine v_aaldN (j := 7) (dk cd_Ha_hear 7 rfl) (by assumption) (by decide) rfl rfl (by omega) hx ?_
    refine v_ifnullN (tgt := 37) (dk cd_Ha_hear 8 rfl) rfl ?_
    refine v_aload_n (dk cd_Ha_hear 18 rfl) rfl ?_
    refine v_getf (dk cd_Ha_hear 19 rfl) fg_Ha_33_Ha (by assumption) (by rfl) ?_
    refine v_iload (dk cd_Ha_hear 20 rfl) rfl ?_
    refine v_aaldN (j := 7) (dk cd_Ha_hear 21 rfl) (by assumption) (by decide) rfl rfl (by omega) hx ?_
    refine v_aload_n (dk cd_Ha_hear 22 rfl) rfl ?_
    refine v_acmp_eqNull (tgt := 72) (dk cd_Ha_hear 23 rfl) rfl ?_
    exact Ha_hear_48 I Wf WV W W2 hh hve
  | some v' =>
    have hx : (h.2.2.1.1.map (rfN ad 21))[ve.1]? = some (.ref (ad 21 v')) := by rw [map_getD (e := none) (by omega), hd]; rfl
    have hv2 := W.1.2.2.2.2.2.1 v' (getD_mem hd)
    have hve2 := List.getElem?_eq_getElem hv2
    have hva2 := vAt_of hve2
    obtain ⟨vl2, hvx⟩ := I.verV hve2
    refine v_aload_n (dk cd_Ha_hear 0 rfl) rfl ?_
    refine v_getf (dk cd_Ha_hear 1 rfl) (fgV fg_Ha_77_Sp fg_Ha_77_Ca _) (by assumption) (by rfl) ?_
    refine v_getf (dk cd_Ha_hear 2 rfl) fg_Ha_81_Wa (by assumption) (by rfl) ?_
    refine v_istore (dk cd_Ha_hear 3 rfl) (by decide) rfl ?_
    refine v_aload_n (dk cd_Ha_hear 4 rfl) rfl ?_
    refine v_getf (dk cd_Ha_hear 5 rfl) fg_Ha_33_Ha (by assumption) (by rfl) ?_
    refine v_iload (dk cd_Ha_hear 6 rfl) rfl ?_
    refine v_aaldN (j := 7) (dk cd_Ha_hear 7 rfl) (by assumption) (by decide) rfl rfl (by omega) hx ?_
    refine v_ifnull (dk cd_Ha_hear 8 rfl) ?_
    refine v_aload_n (dk cd_Ha_hear 9 rfl) rfl ?_
    refine v_getf (dk cd_Ha_hear 10 rfl) fg_Ha_33_Ha (by assumption) (by rfl) ?_
    refine v_iload (dk cd_Ha_hear 11 rfl) rfl ?_
    refine v_aaldN (j := 7) (dk cd_Ha_hear 12 rfl) (by assumption) (by decide) rfl rfl (by omega) hx ?_
    refine v_getf (dk cd_Ha_hear 13 rfl) (fgV fg_Ha_86_Sp fg_Ha_86_Ca _) (by assumption) (by rfl) ?_
    refine v_aload_n (dk cd_Ha_hear 14 rfl) rfl ?_
    refine v_getf (dk cd_Ha_hear 15 rfl) (fgV fg_Ha_86_Sp fg_Ha_86_Ca _) (by assumption) (by rfl) ?_
    refine v_icmp_le (tgt := 37) (dk cd_Ha_hear 16 rfl) rfl (fun q33 => ?_) (fun q33 => ?_)
    · have hsk : hSkip S h v = false := by unfold hSkip; rw [hva, hd]; simp only [vNum, hva, hva2]; rw [decide_eq_true q33]; rfl
      have hee : hearS S h v l n clk = hr2 S (hr1 S h v) v l n clk := by unfold hearS; rw [hsk]; rfl
      have W2 := W.hone N hvi hwv hsk
      rw [hee]
      refine v_aload_n (dk cd_Ha_hear 18 rfl) rfl ?_
      refine v_getf (dk cd_Ha_hear 19 rfl) fg_Ha_33_Ha (by assumption) (by rfl) ?_
      refine v_iload (dk cd_Ha_hear 20 rfl) rfl ?_
      refine v_aaldN (j := 7) (dk cd_Ha_hear 21 rfl) (by assumption) (by decide) rfl rfl (by omega) hx ?_
      refine v_aload_n (dk cd_Ha_hear 22 rfl) rfl ?_
      refine v_acmp_eqR (tgt := 72) (dk cd_Ha_hear 23 rfl) rfl (fun q45 => ?_) (fun q45 => ?_)
      · have hvv : v' = v := (I.1 21 v' 21 v (LV_ver hv2) (LV_ver hvi) q45).2
        have hrr : hr1 S h v = h := by unfold hr1; rw [hva, hd, hvv]; exact if_pos rfl
        rw [hrr]
        exact Ha_hear_72 I Wf WV W hh hve (fun hq => (W.room Wf.2.2.2.1 hvi (by rw [hva, hd, hvv]) (by rw [hva]; exact hq)).2)
      · have hrr : hr1 S h v = hRes h v ve.1 := by unfold hr1; rw [hva, hd]; exact if_neg (fun e => q45 (by cases e; rfl))
        rw [hrr] at W2 ⊢
        exact Ha_hear_48 I Wf WV W W2 hh hve
    · have hsk : hSkip S h v = true := by unfold hSkip; rw [hva, hd]; simp only [vNum, hva, hva2]; rw [decide_eq_false q33]; rfl
      have hee : hearS S h v l n clk = h := by unfold hearS; rw [hsk]; rfl
      rw [hee, setHs_id hh]
      exact v_vret (dk cd_Ha_hear 17 rfl) rfl (ps_of I rfl rfl)
theorem HOK.fold {S : SS} {clk : Int32} (N : NumOK S) (h40 : (sVers S).length ≤ 40) (hw : ∀ v, v < (sVers S).length → (vAt S v).1 < 12) (l : List (Nat × Int32 × Int32)) (hl : ∀ q ∈ l, q.1 < (sVers S).length) : ∀ h, HOK S h → HOK S (l.foldl (lisS S clk) h) := by
  induction l with
  | nil => exact fun h H => H
  | cons q r ih => exact fun h H => ih (fun x hx => hl x (List.mem_cons_of_mem _ hx)) _ (H.lis N h40 (hl q List.mem_cons_self) (hw _ (hl q List.mem_cons_self)))
theorem Wf.w12 {S : SS} (W : Wf S) {v : Nat} (hv : v < (sVers S).length) : (vAt S v).1 < 12 := by
  have h1 := List.getElem?_eq_getElem hv
  rw [vAt_of h1]
  have := W.2.2.2.2.2.2.2 _ _ h1
  have := W.2.1
  omega
theorem take_snoc {α : Type} {l : List α} {k : Nat} (h : k < l.length) : l.take (k + 1) = l.take k ++ [l[k]] := by rw [List.take_add_one, List.getElem?_eq_getElem h]; rfl
set_option maxRecDepth 100000 in
set_option maxHeartbeats 4000000 in
theorem Ha_listen_lp {i j : Nat} {h : HaS} {c : CeS} {clk : Int32} {A0 : AH} (Wf : Wf S) (WV : WfV S) (N : NumOK S) (W : HOK S h) (hi : i < (sHs S).length) (hc : (sCells S)[j]? = some c) (hp : ∀ q ∈ c.2.2.2, q.1 < (sVers S).length) (h108 : c.2.2.2.length ≤ 108) : ∀ k, ∀ A : AH, k ≤ c.2.2.2.length ∧ Inv F (setHs S i ((c.2.2.2.take k).foldl (lisS S clk) h)) ad A ∧ A.2 = A0.2 → V (gg u) (d + 4) mm_Ha_listen 2 [some (.ref (ad 23 i)), some (.ref (ad 14 j)), some (.int clk), some (.int (nI k))] [] A (Ps none F (setHs S i (c.2.2.2.foldl (lisS S clk) h)) ad A0) := by
  refine up_ind c.2.2.2.length ?_
  intro k ih A ⟨hk, I, hA⟩
  have h14 := I.cob (S := setHs S i ((c.2.2.2.take k).foldl (lisS S clk) h)) hc
  have W2 : HOK S ((c.2.2.2.take k).foldl (lisS S clk) h) := W.fold N Wf.2.2.2.1 (fun v hv => Wf.w12 hv) _ (fun q hq => hp q (List.mem_of_mem_take hq))
  have hh2 := getHs (S := S) (c := ((c.2.2.2.take k).foldl (lisS S clk) h)) hi
  generalize hg : ((c.2.2.2.take k).foldl (lisS S clk) h) = hk9 at I W2 hh2
  have h23 := I.hob hh2
  obtain ⟨x17, h17, g17, e17, l17⟩ := I.cell (S := setHs S i hk9) (κ := 17) (by omega) (by omega) hc
  obtain ⟨x18, h18, g18, e18, l18⟩ := I.cell (S := setHs S i hk9) (κ := 18) (by omega) (by omega) hc
  obtain ⟨x19, h19, g19, e19, l19⟩ := I.cell (S := setHs S i hk9) (κ := 19) (by omega) (by omega) hc
  subst e17 e18 e19
  refine v_iload_n (dk cd_Ha_listen 2 rfl) rfl ?_
  refine v_aload_n (dk cd_Ha_listen 3 rfl) rfl ?_
  refine v_getf (dk cd_Ha_listen 4 rfl) fg_Ha_59_Ce (by assumption) (by rfl) ?_
  refine v_icmp_geN (tgt := 59) (dk cd_Ha_listen 5 rfl) rfl (by omega) (by omega) (fun q7 => ?_) (fun q7 => ?_)
  · have hke : k = c.2.2.2.length := by omega
    subst hke
    rw [List.take_length] at hg
    rw [hg]
    exact v_vret (dk cd_Ha_listen 33 rfl) rfl (ps_of I hA rfl)
  · have hts : (c.2.2.2.take (k + 1)).foldl (lisS S clk) h = lisS S clk hk9 c.2.2.2[k] := by rw [take_snoc q7, List.foldl_append, hg]; rfl
    refine v_aload_n (dk cd_Ha_listen 6 rfl) rfl ?_
    refine v_getf (dk cd_Ha_listen 7 rfl) fg_Ha_25_Ha (by assumption) (by rfl) ?_
    refine v_if_le (tgt := 30) (dk cd_Ha_listen 8 rfl) rfl (fun q14 => ?_) (fun q14 => ?_)
    · have hvn := hp _ (List.getElem_mem q7)
      have hve := List.getElem?_eq_getElem hvn
      obtain ⟨vl, hv⟩ := I.verV (S := setHs S i hk9) hve
      refine v_aload_n (dk cd_Ha_listen 16 rfl) rfl ?_
      refine v_aload_n (dk cd_Ha_listen 17 rfl) rfl ?_
      refine v_getf (dk cd_Ha_listen 18 rfl) fg_Ha_64_Ce (by assumption) (by rfl) ?_
      refine v_iload_n (dk cd_Ha_listen 19 rfl) rfl ?_
      refine v_aaldN (j := 7) (dk cd_Ha_listen 20 rfl) (by assumption) (by decide) rfl rfl (by omega) (map_app q7) ?_
      refine v_aload_n (dk cd_Ha_listen 21 rfl) rfl ?_
      refine v_getf (dk cd_Ha_listen 22 rfl) fg_Ha_67_Ce (by assumption) (by rfl) ?_
      refine v_iload_n (dk cd_Ha_listen 23 rfl) rfl ?_
      refine v_ialdN (j := 0) (dk cd_Ha_listen 24 rfl) (by assumption) (by decide) rfl (by omega) (map_app q7) ?_
      refine v_aload_n (dk cd_Ha_listen 25 rfl) rfl ?_
      refine v_getf (dk cd_Ha_listen 26 rfl) fg_Ha_70_Ce (by assumption) (by rfl) ?_
      refine v_iload_n (dk cd_Ha_listen 27 rfl) rfl ?_
      refine v_ialdN (j := 0) (dk cd_Ha_listen 28 rfl) (by assumption) (by decide) rfl (by omega) (map_app q7) ?_
      refine v_iload_n (dk cd_Ha_listen 29 rfl) rfl ?_
      refine v_callv (r := ("AreaWarnings$Handset", TT_Ha, 13)) (dk cd_Ha_listen 30 rfl) cv_Ha_73 rfl (by assumption) (as := [_, _, _, _]) rfl rfl (Nat.le_of_ble_eq_true rfl) (by simp [Value.category]) (Ha_hear_ok (S := setHs S i hk9) I (Wf_setHs Wf) WV N W2 hh2 hve) ps_no (fun v9 A9 hq => ?_)
      obtain ⟨e9, I3, hA2⟩ := hq
      cases e9
      rw [setHs2] at I3
      refine v_iincN (dk cd_Ha_listen 31 rfl) rfl (by decide) rfl ?_
      refine v_goto (tgt := 2) (dk cd_Ha_listen 32 rfl) rfl ?_
      exact ih q7 _ ⟨by omega, by rw [hts, show lisS S clk hk9 c.2.2.2[k] = hearS S hk9 c.2.2.2[k].1 c.2.2.2[k].2.1 c.2.2.2[k].2.2 clk from if_pos q14]; exact I3, hA2.trans hA⟩
    · refine v_aload_n (dk cd_Ha_listen 9 rfl) rfl ?_
      refine v_dup (dk cd_Ha_listen 10 rfl) rfl ?_
      refine v_getf (dk cd_Ha_listen 11 rfl) fg_Ha_25_Ha (by assumption) (by rfl) ?_
      refine v_iconst (v := 1) (dk cd_Ha_listen 12 rfl) (by decide) ?_
      refine v_isub (dk cd_Ha_listen 13 rfl) ?_
      have I2 := I.updH1 hh2 (h' := hMs hk9 (hk9.1.2.2.1 - 1)) (κ0 := 23) (by omega) (by omega) (x := _) rfl (fun κ y k1 k2 k3 hy => by rcases k23 k1 k2 with rfl | rfl | rfl | rfl | rfl | rfl | rfl | rfl; exact absurd rfl k3; exact hy; exact hy; exact hy; exact hy; exact hy; exact hy; exact hy)
      rw [setHs2] at I2
      refine v_putf (dk cd_Ha_listen 14 rfl) fp_Ha_25_Ha (fun h => by cases h) (by assumption) rfl rfl ?_
      refine v_goto (tgt := 53) (dk cd_Ha_listen 15 rfl) rfl ?_
      refine v_iincN (dk cd_Ha_listen 31 rfl) rfl (by decide) rfl ?_
      refine v_goto (tgt := 2) (dk cd_Ha_listen 32 rfl) rfl ?_
      exact ih q7 _ ⟨by omega, by rw [hts, show lisS S clk hk9 c.2.2.2[k] = hMs hk9 (hk9.1.2.2.1 - 1) from if_neg q14]; exact I2, hA⟩
set_option maxRecDepth 100000 in
set_option maxHeartbeats 4000000 in
theorem Ha_listen_ok {i j : Nat} {h : HaS} {c : CeS} {clk : Int32} (I : Inv F S ad A) (Wf : Wf S) (WV : WfV S) (N : NumOK S) (W : HOK S h) (hh : (sHs S)[i]? = some h) (hc : (sCells S)[j]? = some c) (hp : ∀ q ∈ c.2.2.2, q.1 < (sVers S).length) (h108 : c.2.2.2.length ≤ 108) : V (gg u) (d + 4) mm_Ha_listen 0 [some (.ref (ad 23 i)), some (.ref (ad 14 j)), some (.int clk), none] [] A (Ps none F (setHs S i (c.2.2.2.foldl (lisS S clk) h)) ad A) := by
  refine v_iconst (v := nI 0) (dk cd_Ha_listen 0 rfl) (by decide) ?_
  refine v_istore_n (dk cd_Ha_listen 1 rfl) (by decide) rfl ?_
  exact Ha_listen_lp Wf WV N W (List.getElem?_eq_some_iff.mp hh).1 hc hp h108 0 A ⟨by omega, by rw [List.take_zero, List.foldl_nil, setHs_id hh]; exact I, rfl⟩
end H3
