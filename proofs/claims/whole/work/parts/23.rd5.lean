/-! shown, shownByte, covers, version, total -/
def isCur (S : SS) (h : HaS) (pg : Nat × Int32 × Int32) (clk : Int32) : Bool := !decide ((vAt S pg.1).2.1.2.2 ≤ clk) && decide (h.2.2.1.1.getD (vAt S pg.1).1 none = some pg.1)
def shLen (S : SS) (pg : Nat × Int32 × Int32) : Nat := match (vAt S pg.1).2.2 with
  | none => 0
  | some s => tl s.2.1.2 pg.2.1.toNatClampNeg
def shVal (S : SS) (h : HaS) (pg : Nat × Int32 × Int32) (q : Int32) : Value ⊕ Nat := if q = 0 then .inl (.int (wId S (vAt S pg.1).1)) else if q = 1 then .inl (.int (vAt S pg.1).2.1.1) else if q = 2 then .inl (.int pg.2.1) else if q = 3 then .inl (.int pg.2.2) else if q = 4 then .inl (.int (b2i (isCur S h pg (sClock S)))) else if q = 5 then .inl (.int (nI (shLen S pg))) else .inr 0
def spShown (S : SS) (x k q : Int32) : SS × (Value ⊕ Nat) := if pIx x (sHs S).length = true ∧ pIx k (hAt S x).2.2.2.length = true then (S, shVal S (hAt S x) ((hAt S x).2.2.2.getD k.toNatClampNeg (0, 0, 0)) q) else (S, .inr 3)
section R5
variable {u : Ux} {d : Nat} {A : AH} {F : Nat → Option AC} {S : SS} {ad : Nat → Nat → Nat}
set_option maxRecDepth 100000 in
set_option maxHeartbeats 4000000 in
theorem Ha_bytesOfShown_ok {i j : Nat} {c : HaS} (I : Inv F S ad A) (Wf : Wf S) (WH : WfH S) (WV : WfV S) (hc : (sHs S)[i]? = some c) (hj : j < c.2.2.2.length) : V (gg u) d mm_Ha_bytesOfShown 0 [some (.ref (ad 23 i)), some (.int (nI j))] [] A (Rt (some (.int (nI (shLen S c.2.2.2[j])))) A) := by
  obtain ⟨-, -, hh1, -, -, hhv, hsc, hsg⟩ := WH _ _ hc
  obtain ⟨hvn, hpsp, l, hl, hle⟩ := hsg _ (List.getElem_mem hj)
  have h23 := I.hob hc
  obtain ⟨x28, h28, g28, e28, l28⟩ := I.hs (κ := 28) (by omega) (by omega) hc
  obtain ⟨x29, h29, g29, e29, l29⟩ := I.hs (κ := 29) (by omega) (by omega) hc
  obtain ⟨x30, h30, g30, e30, l30⟩ := I.hs (κ := 30) (by omega) (by omega) hc
  subst e28 e29 e30
  have hve := List.getElem?_eq_getElem hvn
  have hva := vAt_of hve
  generalize (sVers S)[c.2.2.2[j].1] = v at hve hva
  rw [hva] at hpsp
  obtain ⟨s, hsp⟩ := Option.isSome_iff_exists.mp hpsp
  have hv := I.verS hve hsp
  have hwn := Wf.2.2.2.2.2.2.2 _ _ hve
  have hwe := List.getElem?_eq_getElem hwn
  have hwo := I.warn hwe
  have hwi := wId_of hwe
  obtain ⟨-, w3, w30, -, -⟩ := WV _ _ _ hve hsp
  have hms := msg_ver Wf.2.2.2.1 hve hsp
  have HT := I.teAt hms w3 w30
  have HT0 := HT
  obtain ⟨-, -, ba, la, k8, k13⟩ := HT
  have hlx : (c.2.2.2[j].2.1).toNatClampNeg = l := by rw [hle]; exact nI_clamp (by omega)
  have w12 := Wf.2.1
  refine v_aload_n (dk cd_Ha_bytesOfShown 0 rfl) rfl ?_
  refine v_getf (dk cd_Ha_bytesOfShown 1 rfl) fg_Ha_46_Ha (by assumption) (by rfl) ?_
  refine v_iload_n (dk cd_Ha_bytesOfShown 2 rfl) rfl ?_
  refine v_aaldN (j := 8) (dk cd_Ha_bytesOfShown 3 rfl) (by assumption) (by decide) rfl rfl (by omega) (map_app hj) ?_
  refine v_getf (dk cd_Ha_bytesOfShown 4 rfl) fg_Ha_98_Sp (by assumption) (by rfl) ?_
  refine v_getf (dk cd_Ha_bytesOfShown 5 rfl) fg_Ha_122_Te (by assumption) (by rfl) ?_
  refine v_aload_n (dk cd_Ha_bytesOfShown 6 rfl) rfl ?_
  refine v_getf (dk cd_Ha_bytesOfShown 7 rfl) fg_Ha_50_Ha (by assumption) (by rfl) ?_
  refine v_iload_n (dk cd_Ha_bytesOfShown 8 rfl) rfl ?_
  refine v_ialdN (j := 0) (dk cd_Ha_bytesOfShown 9 rfl) (by assumption) (by decide) rfl (by omega) (map_app hj) ?_
  rw [hle]
  refine v_ialdN (j := 0) (dk cd_Ha_bytesOfShown 10 rfl) (by assumption) (by decide) rfl (by omega) (tl_at w3 hl) ?_
  exact v_iret (dk cd_Ha_bytesOfShown 11 rfl) rfl (rt_of (by simp [shLen, hva, hsp, hlx]))
set_option maxRecDepth 100000 in
set_option maxHeartbeats 4000000 in
theorem Ha_isCurrent_ok {i j : Nat} {c : HaS} (I : Inv F S ad A) (Wf : Wf S) (WH : WfH S) (WV : WfV S) (hc : (sHs S)[i]? = some c) (hj : j < c.2.2.2.length) {clk : Int32} : V (gg u) d mm_Ha_isCurrent 0 [some (.ref (ad 23 i)), some (.int (nI j)), some (.int clk), none] [] A (Rt (some (.int (b2i (isCur S c c.2.2.2[j] clk)))) A) := by
  obtain ⟨-, -, hh1, -, -, hhv, hsc, hsg⟩ := WH _ _ hc
  obtain ⟨hvn, hpsp, l, hl, hle⟩ := hsg _ (List.getElem_mem hj)
  have h23 := I.hob hc
  obtain ⟨x28, h28, g28, e28, l28⟩ := I.hs (κ := 28) (by omega) (by omega) hc
  obtain ⟨x29, h29, g29, e29, l29⟩ := I.hs (κ := 29) (by omega) (by omega) hc
  obtain ⟨x30, h30, g30, e30, l30⟩ := I.hs (κ := 30) (by omega) (by omega) hc
  subst e28 e29 e30
  have hve := List.getElem?_eq_getElem hvn
  have hva := vAt_of hve
  generalize (sVers S)[c.2.2.2[j].1] = v at hve hva
  rw [hva] at hpsp
  obtain ⟨s, hsp⟩ := Option.isSome_iff_exists.mp hpsp
  have hv := I.verS hve hsp
  have hwn := Wf.2.2.2.2.2.2.2 _ _ hve
  have hwe := List.getElem?_eq_getElem hwn
  have hwo := I.warn hwe
  have hwi := wId_of hwe
  obtain ⟨-, w3, w30, -, -⟩ := WV _ _ _ hve hsp
  have hms := msg_ver Wf.2.2.2.1 hve hsp
  have HT := I.teAt hms w3 w30
  have HT0 := HT
  obtain ⟨-, -, ba, la, k8, k13⟩ := HT
  have hlx : (c.2.2.2[j].2.1).toNatClampNeg = l := by rw [hle]; exact nI_clamp (by omega)
  have w12 := Wf.2.1
  obtain ⟨x25, h25, e25⟩ := I.hs (κ := 25) (by omega) (by omega) hc
  have e25 : x25 = _ := e25
  subst e25
  have hwl : v.1 < c.2.2.1.1.length := by omega
  have hrd : (c.2.2.1.1.map (rfN ad 21))[v.1]? = some (rfN ad 21 (c.2.2.1.1[v.1])) := by rw [List.getElem?_map, List.getElem?_eq_getElem hwl]; rfl
  have hgd : c.2.2.1.1.getD v.1 none = c.2.2.1.1[v.1] := by simp [hwl]
  cases ho : c.2.2.1.1[v.1] with
  | none =>
    rw [ho] at hrd
    have hrd : _ = some Value.null := hrd
    refine v_aload_n (dk cd_Ha_isCurrent 0 rfl) rfl ?_
    refine v_getf (dk cd_Ha_isCurrent 1 rfl) fg_Ha_46_Ha (by assumption) (by rfl) ?_
    refine v_iload_n (dk cd_Ha_isCurrent 2 rfl) rfl ?_
    refine v_aaldN (j := 8) (dk cd_Ha_isCurrent 3 rfl) (by assumption) (by decide) rfl rfl (by omega) (map_app hj) ?_
    refine v_astore_n (dk cd_Ha_isCurrent 4 rfl) (by decide) rfl ?_
    refine v_aload_n (dk cd_Ha_isCurrent 5 rfl) rfl ?_
    refine v_getf (dk cd_Ha_isCurrent 6 rfl) fg_Ha_119_Sp (by assumption) (by rfl) ?_
    refine v_iload_n (dk cd_Ha_isCurrent 7 rfl) rfl ?_
    refine v_icmp_le (tgt := 35) (dk cd_Ha_isCurrent 8 rfl) rfl (fun q12 => ?_) (fun q12 => ?_)
    · refine v_iconst (v := 0) (dk cd_Ha_isCurrent 19 rfl) (by decide) ?_
      exact v_zret (dk cd_Ha_isCurrent 20 rfl) rfl rfl (rt_f (by simp [isCur, hva, q12]))
    · refine v_aload_n (dk cd_Ha_isCurrent 9 rfl) rfl ?_
      refine v_getf (dk cd_Ha_isCurrent 10 rfl) fg_Ha_33_Ha (by assumption) (by rfl) ?_
      refine v_aload_n (dk cd_Ha_isCurrent 11 rfl) rfl ?_
      refine v_getf (dk cd_Ha_isCurrent 12 rfl) fg_Ha_97_Sp (by assumption) (by rfl) ?_
      refine v_getf (dk cd_Ha_isCurrent 13 rfl) fg_Ha_81_Wa (by assumption) (by rfl) ?_
      refine v_aaldN (j := 7) (dk cd_Ha_isCurrent 14 rfl) (by assumption) (by decide) rfl rfl (by omega) hrd ?_
      refine v_aload_n (dk cd_Ha_isCurrent 15 rfl) rfl ?_
      exact v_acmp_neNull (tgt := 35) (dk cd_Ha_isCurrent 16 rfl) rfl (v_iconst (v := 0) (dk cd_Ha_isCurrent 19 rfl) (by decide) (v_zret (dk cd_Ha_isCurrent 20 rfl) rfl rfl (rt_f (by simp [isCur, hva, hwl, ho]))))
  | some v9 =>
    rw [ho] at hrd
    have hrd : _ = some (Value.ref (ad 21 v9)) := hrd
    have hv9 : v9 < (sVers S).length := hhv v9 (by rw [← ho]; exact List.getElem_mem hwl)
    refine v_aload_n (dk cd_Ha_isCurrent 0 rfl) rfl ?_
    refine v_getf (dk cd_Ha_isCurrent 1 rfl) fg_Ha_46_Ha (by assumption) (by rfl) ?_
    refine v_iload_n (dk cd_Ha_isCurrent 2 rfl) rfl ?_
    refine v_aaldN (j := 8) (dk cd_Ha_isCurrent 3 rfl) (by assumption) (by decide) rfl rfl (by omega) (map_app hj) ?_
    refine v_astore_n (dk cd_Ha_isCurrent 4 rfl) (by decide) rfl ?_
    refine v_aload_n (dk cd_Ha_isCurrent 5 rfl) rfl ?_
    refine v_getf (dk cd_Ha_isCurrent 6 rfl) fg_Ha_119_Sp (by assumption) (by rfl) ?_
    refine v_iload_n (dk cd_Ha_isCurrent 7 rfl) rfl ?_
    refine v_icmp_le (tgt := 35) (dk cd_Ha_isCurrent 8 rfl) rfl (fun q12 => ?_) (fun q12 => ?_)
    · refine v_iconst (v := 0) (dk cd_Ha_isCurrent 19 rfl) (by decide) ?_
      exact v_zret (dk cd_Ha_isCurrent 20 rfl) rfl rfl (rt_f (by first | (simp [isCur, hva, q12]; done) | (have hne : ¬ v9 = c.2.2.2[j].1 := fun e => q28 (by rw [e]); simp [isCur, hva, hwl, ho, hne]; done)))
    · refine v_aload_n (dk cd_Ha_isCurrent 9 rfl) rfl ?_
      refine v_getf (dk cd_Ha_isCurrent 10 rfl) fg_Ha_33_Ha (by assumption) (by rfl) ?_
      refine v_aload_n (dk cd_Ha_isCurrent 11 rfl) rfl ?_
      refine v_getf (dk cd_Ha_isCurrent 12 rfl) fg_Ha_97_Sp (by assumption) (by rfl) ?_
      refine v_getf (dk cd_Ha_isCurrent 13 rfl) fg_Ha_81_Wa (by assumption) (by rfl) ?_
      refine v_aaldN (j := 7) (dk cd_Ha_isCurrent 14 rfl) (by assumption) (by decide) rfl rfl (by omega) hrd ?_
      refine v_aload_n (dk cd_Ha_isCurrent 15 rfl) rfl ?_
      refine v_acmp_neR (tgt := 35) (dk cd_Ha_isCurrent 16 rfl) rfl (fun q28 => ?_) (fun q28 => ?_)
      · refine v_iconst (v := 0) (dk cd_Ha_isCurrent 19 rfl) (by decide) ?_
        exact v_zret (dk cd_Ha_isCurrent 20 rfl) rfl rfl (rt_f (by first | (simp [isCur, hva, q12]; done) | (have hne : ¬ v9 = c.2.2.2[j].1 := fun e => q28 (by rw [e]); simp [isCur, hva, hwl, ho, hne]; done)))
      · refine v_iconst (v := 1) (dk cd_Ha_isCurrent 17 rfl) (by decide) ?_
        refine v_goto (tgt := 36) (dk cd_Ha_isCurrent 18 rfl) rfl ?_
        exact v_zret (dk cd_Ha_isCurrent 20 rfl) rfl rfl (rt_t (by have he := I.vne hv9 hvn q28; have hnle := Int32.not_le.mp q12; simp [isCur, hva, hwl, ho, he, q12, hnle]))
set_option maxRecDepth 100000 in
set_option maxHeartbeats 4000000 in
theorem AW_shown_ok {x k q : Int32} (I : Inv F S ad A) (Wf : Wf S) (hgl : A.2.1 + 16 ≤ gL (gg u)) (hgs : A.2.2 + 400 ≤ gS (gg u)) (WH : WfH S) (WV : WfV S) : V (gg u) (d + 6) mm_AW_shown 0 [some (.ref (ad 0 0)), some (.int x), some (.int k), some (.int q), none] [] A (PubR F ad A (spShown S x k q)) := by
  have h0 := I.aw
  obtain ⟨x1, h1, g1, e1, l1⟩ := I.top (κ := 1) (by omega)
  obtain ⟨x3, h3, g3, e3, l3⟩ := I.top (κ := 3) (by omega)
  subst e1 e3
  have w8 := Wf.2.2.1
  have w3 := Wf.2.2.2.2.1
  refine v_aload_n (dk cd_AW_shown 0 rfl) rfl ?_
  refine v_iload_n (dk cd_AW_shown 1 rfl) rfl ?_
  refine v_rv (r := ("AreaWarnings", TT_AW, 9)) (dk cd_AW_shown 2 rfl) cv_AW_198 rfl (by repeat first | assumption | exact aset_same _ _ _ | refine (aset_ne _ _ (by first | assumption | exact Ne.symm (by assumption))).trans ?_) (as := [_]) rfl rfl (Nat.le_of_ble_eq_true rfl) (by simp [Value.category]) (AW_isHandset_ok I) ?_
  refine v_ifeqB (tgt := 25) (dk cd_AW_shown 3 rfl) rfl (fun q5 => ?_) (fun q5 => ?_)
  · exact v_throw (ex := 3) (dk cd_AW_shown 13 rfl) (dk cd_AW_shown 14 rfl) (dk cd_AW_shown 15 rfl) (dk cd_AW_shown 16 rfl) rfl tw_193 rfl (by omega) (by omega) (by omega) (by simp) (pub_thr I (by first | (simp [spShown, q5]; done) | (have hk0 : pIx k c.2.2.2.length = false := (by first | (simp [pIx, q9]; done) | (simp [pIx, Int32.not_lt.mp q22]; done)); simp [spShown, hha, hk0]; done)))
  · obtain ⟨i, hi, rfl⟩ := pIx_nat q5 (by omega)
    have hix : (nI i).toNatClampNeg = i := nI_clamp (by omega)
    obtain ⟨c, hc⟩ : ∃ c, (sHs S)[i]? = some c := ⟨_, List.getElem?_eq_getElem hi⟩
    have hha := hAt_nI hc (by omega)
    have h23 := I.hob hc
    obtain ⟨-, -, hh1, -, -, hhv, hsc, hsg⟩ := WH _ _ hc
    refine v_iload_n (dk cd_AW_shown 4 rfl) rfl ?_
    refine v_if_lt (tgt := 25) (dk cd_AW_shown 5 rfl) rfl (fun q9 => ?_) (fun q9 => ?_)
    · exact v_throw (ex := 3) (dk cd_AW_shown 13 rfl) (dk cd_AW_shown 14 rfl) (dk cd_AW_shown 15 rfl) (dk cd_AW_shown 16 rfl) rfl tw_193 rfl (by omega) (by omega) (by omega) (by simp) (pub_thr I (by first | (simp [spShown, q5]; done) | (have hk0 : pIx k c.2.2.2.length = false := (by first | (simp [pIx, q9]; done) | (simp [pIx, Int32.not_lt.mp q22]; done)); simp [spShown, hha, hk0]; done)))
    · refine v_iload_n (dk cd_AW_shown 6 rfl) rfl ?_
      refine v_aload_n (dk cd_AW_shown 7 rfl) rfl ?_
      refine v_getf (dk cd_AW_shown 8 rfl) fg_AW_36_AW (by repeat first | assumption | exact aset_same _ _ _ | refine (aset_ne _ _ (by first | assumption | exact Ne.symm (by assumption))).trans ?_) (by rfl) ?_
      refine v_iload_n (dk cd_AW_shown 9 rfl) rfl ?_
      refine v_aaldN (j := 6) (dk cd_AW_shown 10 rfl) (by repeat first | assumption | exact aset_same _ _ _ | refine (aset_ne _ _ (by first | assumption | exact Ne.symm (by assumption))).trans ?_) (by decide) rfl rfl (by omega) (rng_at hi) ?_
      refine v_getf (dk cd_AW_shown 11 rfl) fg_AW_241_Ha (by repeat first | assumption | exact aset_same _ _ _ | refine (aset_ne _ _ (by first | assumption | exact Ne.symm (by assumption))).trans ?_) (by rfl) ?_
      refine v_icmp_lt (tgt := 33) (dk cd_AW_shown 12 rfl) rfl (fun q22 => ?_) (fun q22 => ?_)
      · have hkp : pIx k c.2.2.2.length = true := by simp [pIx, Int32.not_le, *]
        obtain ⟨j, hj, rfl⟩ := pIx_nat hkp (by omega)
        have hjx : (nI j).toNatClampNeg = j := nI_clamp (by omega)
        obtain ⟨hvn, hpsp, l, hl, hle⟩ := hsg _ (List.getElem_mem hj)
        obtain ⟨x28, h28, g28, e28, l28⟩ := I.hs (κ := 28) (by omega) (by omega) hc
        obtain ⟨x29, h29, g29, e29, l29⟩ := I.hs (κ := 29) (by omega) (by omega) hc
        obtain ⟨x30, h30, g30, e30, l30⟩ := I.hs (κ := 30) (by omega) (by omega) hc
        subst e28 e29 e30
        have hve := List.getElem?_eq_getElem hvn
        have hva := vAt_of hve
        generalize (sVers S)[c.2.2.2[j].1] = v at hve hva
        rw [hva] at hpsp
        obtain ⟨s, hsp⟩ := Option.isSome_iff_exists.mp hpsp
        have hv := I.verS hve hsp
        have hwn := Wf.2.2.2.2.2.2.2 _ _ hve
        have hwe := List.getElem?_eq_getElem hwn
        have hwo := I.warn hwe
        have hwi := wId_of hwe
        obtain ⟨-, w3, w30, -, -⟩ := WV _ _ _ hve hsp
        have hms := msg_ver Wf.2.2.2.1 hve hsp
        have HT := I.teAt hms w3 w30
        have HT0 := HT
        obtain ⟨-, -, ba, la, k8, k13⟩ := HT
        have hlx : (c.2.2.2[j].2.1).toNatClampNeg = l := by rw [hle]; exact nI_clamp (by omega)
        have w12 := Wf.2.1
        refine v_aload_n (dk cd_AW_shown 17 rfl) rfl ?_
        refine v_getf (dk cd_AW_shown 18 rfl) fg_AW_36_AW (by repeat first | assumption | exact aset_same _ _ _ | refine (aset_ne _ _ (by first | assumption | exact Ne.symm (by assumption))).trans ?_) (by rfl) ?_
        refine v_iload_n (dk cd_AW_shown 19 rfl) rfl ?_
        refine v_aaldN (j := 6) (dk cd_AW_shown 20 rfl) (by repeat first | assumption | exact aset_same _ _ _ | refine (aset_ne _ _ (by first | assumption | exact Ne.symm (by assumption))).trans ?_) (by decide) rfl rfl (by omega) (rng_at hi) ?_
        refine v_astore (dk cd_AW_shown 21 rfl) (by decide) rfl ?_
        refine v_iload_n (dk cd_AW_shown 22 rfl) rfl ?_
        rcases sw6 q with rfl | rfl | rfl | rfl | rfl | rfl | hx
        · refine v_tableIn (tgt := 80) (dk cd_AW_shown 23 rfl) (by decide) (by decide) (by rfl) rfl ?_
          refine v_aload (dk cd_AW_shown 24 rfl) rfl ?_
          refine v_getf (dk cd_AW_shown 25 rfl) fg_AW_244_Ha (by repeat first | assumption | exact aset_same _ _ _ | refine (aset_ne _ _ (by first | assumption | exact Ne.symm (by assumption))).trans ?_) (by rfl) ?_
          refine v_iload_n (dk cd_AW_shown 26 rfl) rfl ?_
          refine v_aaldN (j := 8) (dk cd_AW_shown 27 rfl) (by repeat first | assumption | exact aset_same _ _ _ | refine (aset_ne _ _ (by first | assumption | exact Ne.symm (by assumption))).trans ?_) (by decide) rfl rfl (by omega) (map_app hj) ?_
          refine v_getf (dk cd_AW_shown 28 rfl) fg_AW_248_Sp (by repeat first | assumption | exact aset_same _ _ _ | refine (aset_ne _ _ (by first | assumption | exact Ne.symm (by assumption))).trans ?_) (by rfl) ?_
          refine v_getf (dk cd_AW_shown 29 rfl) fg_AW_226_Wa (by repeat first | assumption | exact aset_same _ _ _ | refine (aset_ne _ _ (by first | assumption | exact Ne.symm (by assumption))).trans ?_) (by rfl) ?_
          exact v_iret (dk cd_AW_shown 30 rfl) rfl (pub_ret I rfl (by first | (simp [spShown, shVal, *]; done) | (simp [spShown, shVal, hha, hjx, hj, hkp, q5, q131, b2i]; done)))
        · refine v_tableIn (tgt := 94) (dk cd_AW_shown 23 rfl) (by decide) (by decide) (by rfl) rfl ?_
          refine v_aload (dk cd_AW_shown 31 rfl) rfl ?_
          refine v_getf (dk cd_AW_shown 32 rfl) fg_AW_244_Ha (by repeat first | assumption | exact aset_same _ _ _ | refine (aset_ne _ _ (by first | assumption | exact Ne.symm (by assumption))).trans ?_) (by rfl) ?_
          refine v_iload_n (dk cd_AW_shown 33 rfl) rfl ?_
          refine v_aaldN (j := 8) (dk cd_AW_shown 34 rfl) (by repeat first | assumption | exact aset_same _ _ _ | refine (aset_ne _ _ (by first | assumption | exact Ne.symm (by assumption))).trans ?_) (by decide) rfl rfl (by omega) (map_app hj) ?_
          refine v_getf (dk cd_AW_shown 35 rfl) fg_AW_249_Sp (by repeat first | assumption | exact aset_same _ _ _ | refine (aset_ne _ _ (by first | assumption | exact Ne.symm (by assumption))).trans ?_) (by rfl) ?_
          exact v_iret (dk cd_AW_shown 36 rfl) rfl (pub_ret I rfl (by first | (simp [spShown, shVal, *]; done) | (simp [spShown, shVal, hha, hjx, hj, hkp, q5, q131, b2i]; done)))
        · refine v_tableIn (tgt := 105) (dk cd_AW_shown 23 rfl) (by decide) (by decide) (by rfl) rfl ?_
          refine v_aload (dk cd_AW_shown 37 rfl) rfl ?_
          refine v_getf (dk cd_AW_shown 38 rfl) fg_AW_250_Ha (by repeat first | assumption | exact aset_same _ _ _ | refine (aset_ne _ _ (by first | assumption | exact Ne.symm (by assumption))).trans ?_) (by rfl) ?_
          refine v_iload_n (dk cd_AW_shown 39 rfl) rfl ?_
          refine v_ialdN (j := 0) (dk cd_AW_shown 40 rfl) (by repeat first | assumption | exact aset_same _ _ _ | refine (aset_ne _ _ (by first | assumption | exact Ne.symm (by assumption))).trans ?_) (by decide) rfl (by omega) (map_app hj) ?_
          exact v_iret (dk cd_AW_shown 41 rfl) rfl (pub_ret I rfl (by first | (simp [spShown, shVal, *]; done) | (simp [spShown, shVal, hha, hjx, hj, hkp, q5, q131, b2i]; done)))
        · refine v_tableIn (tgt := 113) (dk cd_AW_shown 23 rfl) (by decide) (by decide) (by rfl) rfl ?_
          refine v_aload (dk cd_AW_shown 42 rfl) rfl ?_
          refine v_getf (dk cd_AW_shown 43 rfl) fg_AW_253_Ha (by repeat first | assumption | exact aset_same _ _ _ | refine (aset_ne _ _ (by first | assumption | exact Ne.symm (by assumption))).trans ?_) (by rfl) ?_
          refine v_iload_n (dk cd_AW_shown 44 rfl) rfl ?_
          refine v_ialdN (j := 0) (dk cd_AW_shown 45 rfl) (by repeat first | assumption | exact aset_same _ _ _ | refine (aset_ne _ _ (by first | assumption | exact Ne.symm (by assumption))).trans ?_) (by decide) rfl (by omega) (map_app hj) ?_
          exact v_iret (dk cd_AW_shown 46 rfl) rfl (pub_ret I rfl (by first | (simp [spShown, shVal, *]; done) | (simp [spShown, shVal, hha, hjx, hj, hkp, q5, q131, b2i]; done)))
        · refine v_tableIn (tgt := 121) (dk cd_AW_shown 23 rfl) (by decide) (by decide) (by rfl) rfl ?_
          refine v_aload (dk cd_AW_shown 47 rfl) rfl ?_
          refine v_iload_n (dk cd_AW_shown 48 rfl) rfl ?_
          refine v_aload_n (dk cd_AW_shown 49 rfl) rfl ?_
          refine v_getf (dk cd_AW_shown 50 rfl) fg_AW_9_AW (by repeat first | assumption | exact aset_same _ _ _ | refine (aset_ne _ _ (by first | assumption | exact Ne.symm (by assumption))).trans ?_) (by rfl) ?_
          refine v_rv (r := ("AreaWarnings$Handset", TT_Ha, 13)) (dk cd_AW_shown 51 rfl) cv_AW_256 rfl (by repeat first | assumption | exact aset_same _ _ _ | refine (aset_ne _ _ (by first | assumption | exact Ne.symm (by assumption))).trans ?_) (as := [_, _]) rfl rfl (Nat.le_of_ble_eq_true rfl) (by simp [Value.category]) (Ha_isCurrent_ok I Wf WH WV hc hj) ?_
          refine v_ifeqB (tgt := 138) (dk cd_AW_shown 52 rfl) rfl (fun q131 => ?_) (fun q131 => ?_)
          · refine v_iconst (v := 0) (dk cd_AW_shown 55 rfl) (by decide) ?_
            exact v_iret (dk cd_AW_shown 56 rfl) rfl (pub_ret I rfl (by first | (simp [spShown, shVal, *]; done) | (simp [spShown, shVal, hha, hjx, hj, hkp, q5, q131, b2i]; done)))
          · refine v_iconst (v := 1) (dk cd_AW_shown 53 rfl) (by decide) ?_
            refine v_goto (tgt := 139) (dk cd_AW_shown 54 rfl) rfl ?_
            exact v_iret (dk cd_AW_shown 56 rfl) rfl (pub_ret I rfl (by first | (simp [spShown, shVal, *]; done) | (simp [spShown, shVal, hha, hjx, hj, hkp, q5, q131, b2i]; done)))
        · refine v_tableIn (tgt := 140) (dk cd_AW_shown 23 rfl) (by decide) (by decide) (by rfl) rfl ?_
          refine v_aload (dk cd_AW_shown 57 rfl) rfl ?_
          refine v_iload_n (dk cd_AW_shown 58 rfl) rfl ?_
          refine v_rv (r := ("AreaWarnings$Handset", TT_Ha, 13)) (dk cd_AW_shown 59 rfl) cv_AW_260 rfl (by repeat first | assumption | exact aset_same _ _ _ | refine (aset_ne _ _ (by first | assumption | exact Ne.symm (by assumption))).trans ?_) (as := [_]) rfl rfl (Nat.le_of_ble_eq_true rfl) (by simp [Value.category]) (Ha_bytesOfShown_ok I Wf WH WV hc hj) ?_
          exact v_iret (dk cd_AW_shown 60 rfl) rfl (pub_ret I rfl (by first | (simp [spShown, shVal, *]; done) | (simp [spShown, shVal, hha, hjx, hj, hkp, q5, q131, b2i]; done)))
        · refine v_tableOut (tgt := 147) (dk cd_AW_shown 23 rfl) hx rfl ?_
          exact v_throw (ex := 0) (dk cd_AW_shown 61 rfl) (dk cd_AW_shown 62 rfl) (dk cd_AW_shown 63 rfl) (dk cd_AW_shown 64 rfl) rfl tw_54 rfl (by omega) (by omega) (by omega) (by simp) (pub_thr I (by have o0 := sw_out hx (k := 0) (by decide); have o1 := sw_out hx (k := 1) (by decide); have o2 := sw_out hx (k := 2) (by decide); have o3 := sw_out hx (k := 3) (by decide); have o4 := sw_out hx (k := 4) (by decide); have o5 := sw_out hx (k := 5) (by decide); simp [spShown, shVal, *]))
      · exact v_throw (ex := 3) (dk cd_AW_shown 13 rfl) (dk cd_AW_shown 14 rfl) (dk cd_AW_shown 15 rfl) (dk cd_AW_shown 16 rfl) rfl tw_193 rfl (by omega) (by omega) (by omega) (by simp) (pub_thr I (by first | (simp [spShown, q5]; done) | (have hk0 : pIx k c.2.2.2.length = false := (by first | (simp [pIx, q9]; done) | (simp [pIx, Int32.not_lt.mp q22]; done)); simp [spShown, hha, hk0]; done)))
def spShownByte (S : SS) (x k q : Int32) : SS × (Value ⊕ Nat) := if pIx x (sHs S).length = true ∧ pIx k (hAt S x).2.2.2.length = true ∧ pIx q (shLen S ((hAt S x).2.2.2.getD k.toNatClampNeg (0, 0, 0))) = true then (S, .inl (.int (match (vAt S ((hAt S x).2.2.2.getD k.toNatClampNeg (0, 0, 0)).1).2.2 with | none => 0 | some s => (s.2.1.2.getD ((hAt S x).2.2.2.getD k.toNatClampNeg (0, 0, 0)).2.1.toNatClampNeg []).getD q.toNatClampNeg 0))) else (S, .inr 3)
def spCovers (S : SS) (id c : Int32) : SS × (Value ⊕ Nat) := if pIx c (sCells S).length = true then (match fnd S id with | none => (S, .inr 1) | some w => match (nwV S w).2.2 with | none => (S, .inr 1) | some s => (S, .inl (.int (b2i (s.2.2.getD c.toNatClampNeg false))))) else (S, .inr 3)
def spVersion (S : SS) (id : Int32) : SS × (Value ⊕ Nat) := (S, .inl (.int (verOf S id)))
def spTotal (S : SS) (x : Int32) : SS × (Value ⊕ Nat) := (S, .inl (.int (if x = 0 then sClock S else if x = 1 then nI (sCells S).length else if x = 2 then nI (sWarn S).length else if x = 3 then nI (sVers S).length else if x = 4 then nI (sHs S).length else if ¬ x < 10 ∧ ¬ 10 + nI (sHs S).length ≤ x then (hAt S (x - 10)).1.2.2.2 else -1)))
set_option maxRecDepth 100000 in
set_option maxHeartbeats 4000000 in
theorem AW_version_pub {id : Int32} (I : Inv F S ad A) (Wf : Wf S) (hgl : A.2.1 + 16 ≤ gL (gg u)) (hgs : A.2.2 + 400 ≤ gS (gg u)) : V (gg u) (d + 6) mm_AW_version 0 [some (.ref (ad 0 0)), some (.int id), none] [] A (PubR F ad A (spVersion S id)) := (AW_version_ok I Wf).rt (pub_ret I rfl rfl)
set_option maxRecDepth 100000 in
set_option maxHeartbeats 4000000 in
theorem AW_covers_ok {id x : Int32} (I : Inv F S ad A) (Wf : Wf S) (hgl : A.2.1 + 16 ≤ gL (gg u)) (hgs : A.2.2 + 400 ≤ gS (gg u)) (WV : WfV S) : V (gg u) (d + 6) mm_AW_covers 0 [some (.ref (ad 0 0)), some (.int id), some (.int x), none, none, none] [] A (PubR F ad A (spCovers S id x)) := by
  have h0 := I.aw
  obtain ⟨x1, h1, g1, e1, l1⟩ := I.top (κ := 1) (by omega)
  obtain ⟨x3, h3, g3, e3, l3⟩ := I.top (κ := 3) (by omega)
  subst e1 e3
  have w8 := Wf.2.2.1
  have w3 := Wf.2.2.2.2.1
  have HF := AW_findWarning_ok (u := u) (d := d + 5) (id := id) I Wf
  cases hf : fnd S id with
  | none =>
    rw [hf] at HF
    refine v_aload_n (dk cd_AW_covers 0 rfl) rfl ?_
    refine v_iload_n (dk cd_AW_covers 1 rfl) rfl ?_
    refine v_rv (r := ("AreaWarnings", TT_AW, 9)) (dk cd_AW_covers 2 rfl) cv_AW_186 rfl (by assumption) (as := [_]) rfl rfl (Nat.le_of_ble_eq_true rfl) (by simp [Value.category]) (AW_isCell_ok I) ?_
    refine v_ifneB (tgt := 16) (dk cd_AW_covers 3 rfl) rfl (fun q5 => ?_) (fun q5 => ?_)
    · refine v_aload_n (dk cd_AW_covers 8 rfl) rfl ?_
      refine v_iload_n (dk cd_AW_covers 9 rfl) rfl ?_
      refine v_rv (r := ("AreaWarnings", TT_AW, 9)) (dk cd_AW_covers 10 rfl) cv_AW_128 rfl (by assumption) (as := [_]) rfl rfl (Nat.le_of_ble_eq_true rfl) (by simp [Value.category]) HF ?_
      refine v_astoreN_n (dk cd_AW_covers 11 rfl) (by decide) rfl ?_
      refine v_aloadN_n (dk cd_AW_covers 12 rfl) rfl ?_
      refine v_ifnullN (tgt := 55) (dk cd_AW_covers 13 rfl) rfl ?_
      exact v_throw (ex := 1) (dk cd_AW_covers 28 rfl) (dk cd_AW_covers 29 rfl) (dk cd_AW_covers 30 rfl) (dk cd_AW_covers 31 rfl) rfl tw_57 rfl (by omega) (by omega) (by omega) (by simp) (pub_thr I (by simp [spCovers, *]))
    · exact v_throw (ex := 3) (dk cd_AW_covers 4 rfl) (dk cd_AW_covers 5 rfl) (dk cd_AW_covers 6 rfl) (dk cd_AW_covers 7 rfl) rfl tw_193 rfl (by omega) (by omega) (by omega) (by simp) (pub_thr I (by simp [spCovers, *]))
  | some w =>
    rw [hf] at HF
    obtain ⟨hwo, hve⟩ := I.wn Wf (fnd_lt Wf hf)
    cases hsp : (nwV S w).2.2 with
    | none =>
      have hv := I.verC hve hsp
      refine v_aload_n (dk cd_AW_covers 0 rfl) rfl ?_
      refine v_iload_n (dk cd_AW_covers 1 rfl) rfl ?_
      refine v_rv (r := ("AreaWarnings", TT_AW, 9)) (dk cd_AW_covers 2 rfl) cv_AW_186 rfl (by assumption) (as := [_]) rfl rfl (Nat.le_of_ble_eq_true rfl) (by simp [Value.category]) (AW_isCell_ok I) ?_
      refine v_ifneB (tgt := 16) (dk cd_AW_covers 3 rfl) rfl (fun q5 => ?_) (fun q5 => ?_)
      · refine v_aload_n (dk cd_AW_covers 8 rfl) rfl ?_
        refine v_iload_n (dk cd_AW_covers 9 rfl) rfl ?_
        refine v_rv (r := ("AreaWarnings", TT_AW, 9)) (dk cd_AW_covers 10 rfl) cv_AW_128 rfl (by assumption) (as := [_]) rfl rfl (Nat.le_of_ble_eq_true rfl) (by simp [Value.category]) HF ?_
        refine v_astore_n (dk cd_AW_covers 11 rfl) (by decide) rfl ?_
        refine v_aload_n (dk cd_AW_covers 12 rfl) rfl ?_
        refine v_ifnull (dk cd_AW_covers 13 rfl) ?_
        refine v_aload_n (dk cd_AW_covers 14 rfl) rfl ?_
        refine v_getf (dk cd_AW_covers 15 rfl) fg_AW_63_Wa (by assumption) (by rfl) ?_
        refine v_astore (dk cd_AW_covers 16 rfl) (by decide) rfl ?_
        refine v_aload (dk cd_AW_covers 17 rfl) rfl ?_
        refine v_instNo (dk cd_AW_covers 18 rfl) in_AW_67_Ca (by assumption) ?_
        refine v_if_eq (tgt := 55) (dk cd_AW_covers 19 rfl) rfl (fun _ => ?_) (fun q => absurd rfl q)
        exact v_throw (ex := 1) (dk cd_AW_covers 28 rfl) (dk cd_AW_covers 29 rfl) (dk cd_AW_covers 30 rfl) (dk cd_AW_covers 31 rfl) rfl tw_57 rfl (by omega) (by omega) (by omega) (by simp) (pub_thr I (by simp [spCovers, *]))
      · exact v_throw (ex := 3) (dk cd_AW_covers 4 rfl) (dk cd_AW_covers 5 rfl) (dk cd_AW_covers 6 rfl) (dk cd_AW_covers 7 rfl) rfl tw_193 rfl (by omega) (by omega) (by omega) (by simp) (pub_thr I (by simp [spCovers, *]))
    | some s =>
      have hv := I.verS hve hsp
      have hcv := I.cov hve hsp
      obtain ⟨-, -, -, w8c, -⟩ := WV _ _ _ hve hsp
      refine v_aload_n (dk cd_AW_covers 0 rfl) rfl ?_
      refine v_iload_n (dk cd_AW_covers 1 rfl) rfl ?_
      refine v_rv (r := ("AreaWarnings", TT_AW, 9)) (dk cd_AW_covers 2 rfl) cv_AW_186 rfl (by assumption) (as := [_]) rfl rfl (Nat.le_of_ble_eq_true rfl) (by simp [Value.category]) (AW_isCell_ok I) ?_
      refine v_ifneB (tgt := 16) (dk cd_AW_covers 3 rfl) rfl (fun q5 => ?_) (fun q5 => ?_)
      · obtain ⟨i, hi, rfl⟩ := pIx_nat q5 (by omega)
        have hix : (nI i).toNatClampNeg = i := nI_clamp (by omega)
        have hil : i < s.2.2.length := by omega
        have hrd : (s.2.2.map fun b => Value.int (b2i b))[i]? = some (.int (b2i s.2.2[i])) := by rw [List.getElem?_map, List.getElem?_eq_getElem hil]; rfl
        refine v_aload_n (dk cd_AW_covers 8 rfl) rfl ?_
        refine v_iload_n (dk cd_AW_covers 9 rfl) rfl ?_
        refine v_rv (r := ("AreaWarnings", TT_AW, 9)) (dk cd_AW_covers 10 rfl) cv_AW_128 rfl (by assumption) (as := [_]) rfl rfl (Nat.le_of_ble_eq_true rfl) (by simp [Value.category]) HF ?_
        refine v_astore_n (dk cd_AW_covers 11 rfl) (by decide) rfl ?_
        refine v_aload_n (dk cd_AW_covers 12 rfl) rfl ?_
        refine v_ifnull (dk cd_AW_covers 13 rfl) ?_
        refine v_aload_n (dk cd_AW_covers 14 rfl) rfl ?_
        refine v_getf (dk cd_AW_covers 15 rfl) fg_AW_63_Wa (by assumption) (by rfl) ?_
        refine v_astore (dk cd_AW_covers 16 rfl) (by decide) rfl ?_
        refine v_aload (dk cd_AW_covers 17 rfl) rfl ?_
        refine v_instY (dk cd_AW_covers 18 rfl) iy_AW_67_Sp (by assumption) ?_
        refine v_if_eq (tgt := 55) (dk cd_AW_covers 19 rfl) rfl (fun q => absurd q (by decide)) (fun _ => ?_)
        refine v_aload (dk cd_AW_covers 20 rfl) rfl ?_
        refine v_castY (dk cd_AW_covers 21 rfl) iy_AW_67_Sp (by assumption) ?_
        refine v_astore (dk cd_AW_covers 22 rfl) (by decide) rfl ?_
        refine v_aload (dk cd_AW_covers 23 rfl) rfl ?_
        refine v_getf (dk cd_AW_covers 24 rfl) fg_AW_211_Sp (by assumption) (by rfl) ?_
        refine v_iload_n (dk cd_AW_covers 25 rfl) rfl ?_
        refine v_zaldN (j := 1) (dk cd_AW_covers 26 rfl) (by assumption) (by decide) rfl (by omega) hrd ?_
        exact v_zretB (dk cd_AW_covers 27 rfl) rfl (pub_ret I rfl (by simp [spCovers, List.getElem?_eq_getElem hil, *]))
      · exact v_throw (ex := 3) (dk cd_AW_covers 4 rfl) (dk cd_AW_covers 5 rfl) (dk cd_AW_covers 6 rfl) (dk cd_AW_covers 7 rfl) rfl tw_193 rfl (by omega) (by omega) (by omega) (by simp) (pub_thr I (by simp [spCovers, *]))
set_option maxRecDepth 100000 in
set_option maxHeartbeats 4000000 in
theorem AW_shownByte_ok {x k q : Int32} (I : Inv F S ad A) (Wf : Wf S) (hgl : A.2.1 + 16 ≤ gL (gg u)) (hgs : A.2.2 + 400 ≤ gS (gg u)) (WH : WfH S) (WV : WfV S) : V (gg u) (d + 6) mm_AW_shownByte 0 [some (.ref (ad 0 0)), some (.int x), some (.int k), some (.int q), none] [] A (PubR F ad A (spShownByte S x k q)) := by
  have h0 := I.aw
  obtain ⟨x1, h1, g1, e1, l1⟩ := I.top (κ := 1) (by omega)
  obtain ⟨x3, h3, g3, e3, l3⟩ := I.top (κ := 3) (by omega)
  subst e1 e3
  have w8 := Wf.2.2.1
  have w3 := Wf.2.2.2.2.1
  refine v_aload_n (dk cd_AW_shownByte 0 rfl) rfl ?_
  refine v_iload_n (dk cd_AW_shownByte 1 rfl) rfl ?_
  refine v_rv (r := ("AreaWarnings", TT_AW, 9)) (dk cd_AW_shownByte 2 rfl) cv_AW_198 rfl (by repeat first | assumption | exact aset_same _ _ _ | refine (aset_ne _ _ (by first | assumption | exact Ne.symm (by assumption))).trans ?_) (as := [_]) rfl rfl (Nat.le_of_ble_eq_true rfl) (by simp [Value.category]) (AW_isHandset_ok I) ?_
  refine v_ifeqB (tgt := 43) (dk cd_AW_shownByte 3 rfl) rfl (fun q5 => ?_) (fun q5 => ?_)
  · exact v_throw (ex := 3) (dk cd_AW_shownByte 23 rfl) (dk cd_AW_shownByte 24 rfl) (dk cd_AW_shownByte 25 rfl) (dk cd_AW_shownByte 26 rfl) rfl tw_193 rfl (by omega) (by omega) (by omega) (by simp) (pub_thr I (by first | (simp [spShownByte, q5]; done) | (have hk0 : pIx k c.2.2.2.length = false := (by first | (simp [pIx, q9]; done) | (simp [pIx, q22]; done)); simp [spShownByte, hha, hk0]; done) | (have hq0 : pIx q (shLen S c.2.2.2[j]) = false := (by first | (simp [pIx, q26]; done) | (simp [pIx, Int32.not_lt.mp q40]; done)); simp [spShownByte, hha, hjx, hj, hq0]; done)))
  · obtain ⟨i, hi, rfl⟩ := pIx_nat q5 (by omega)
    have hix : (nI i).toNatClampNeg = i := nI_clamp (by omega)
    obtain ⟨c, hc⟩ : ∃ c, (sHs S)[i]? = some c := ⟨_, List.getElem?_eq_getElem hi⟩
    have hha := hAt_nI hc (by omega)
    have h23 := I.hob hc
    obtain ⟨-, -, hh1, -, -, hhv, hsc, hsg⟩ := WH _ _ hc
    refine v_iload_n (dk cd_AW_shownByte 4 rfl) rfl ?_
    refine v_if_lt (tgt := 43) (dk cd_AW_shownByte 5 rfl) rfl (fun q9 => ?_) (fun q9 => ?_)
    · exact v_throw (ex := 3) (dk cd_AW_shownByte 23 rfl) (dk cd_AW_shownByte 24 rfl) (dk cd_AW_shownByte 25 rfl) (dk cd_AW_shownByte 26 rfl) rfl tw_193 rfl (by omega) (by omega) (by omega) (by simp) (pub_thr I (by first | (simp [spShownByte, q5]; done) | (have hk0 : pIx k c.2.2.2.length = false := (by first | (simp [pIx, q9]; done) | (simp [pIx, q22]; done)); simp [spShownByte, hha, hk0]; done) | (have hq0 : pIx q (shLen S c.2.2.2[j]) = false := (by first | (simp [pIx, q26]; done) | (simp [pIx, Int32.not_lt.mp q40]; done)); simp [spShownByte, hha, hjx, hj, hq0]; done)))
    · refine v_iload_n (dk cd_AW_shownByte 6 rfl) rfl ?_
      refine v_aload_n (dk cd_AW_shownByte 7 rfl) rfl ?_
      refine v_getf (dk cd_AW_shownByte 8 rfl) fg_AW_36_AW (by repeat first | assumption | exact aset_same _ _ _ | refine (aset_ne _ _ (by first | assumption | exact Ne.symm (by assumption))).trans ?_) (by rfl) ?_
      refine v_iload_n (dk cd_AW_shownByte 9 rfl) rfl ?_
      refine v_aaldN (j := 6) (dk cd_AW_shownByte 10 rfl) (by repeat first | assumption | exact aset_same _ _ _ | refine (aset_ne _ _ (by first | assumption | exact Ne.symm (by assumption))).trans ?_) (by decide) rfl rfl (by omega) (rng_at hi) ?_
      refine v_getf (dk cd_AW_shownByte 11 rfl) fg_AW_241_Ha (by repeat first | assumption | exact aset_same _ _ _ | refine (aset_ne _ _ (by first | assumption | exact Ne.symm (by assumption))).trans ?_) (by rfl) ?_
      refine v_icmp_ge (tgt := 43) (dk cd_AW_shownByte 12 rfl) rfl (fun q22 => ?_) (fun q22 => ?_)
      · exact v_throw (ex := 3) (dk cd_AW_shownByte 23 rfl) (dk cd_AW_shownByte 24 rfl) (dk cd_AW_shownByte 25 rfl) (dk cd_AW_shownByte 26 rfl) rfl tw_193 rfl (by omega) (by omega) (by omega) (by simp) (pub_thr I (by first | (simp [spShownByte, q5]; done) | (have hk0 : pIx k c.2.2.2.length = false := (by first | (simp [pIx, q9]; done) | (simp [pIx, q22]; done)); simp [spShownByte, hha, hk0]; done) | (have hq0 : pIx q (shLen S c.2.2.2[j]) = false := (by first | (simp [pIx, q26]; done) | (simp [pIx, Int32.not_lt.mp q40]; done)); simp [spShownByte, hha, hjx, hj, hq0]; done)))
      · have hkp : pIx k c.2.2.2.length = true := by simp [pIx, Int32.not_le, *]
        obtain ⟨j, hj, rfl⟩ := pIx_nat hkp (by omega)
        have hjx : (nI j).toNatClampNeg = j := nI_clamp (by omega)
        obtain ⟨hvn, hpsp, l, hl, hle⟩ := hsg _ (List.getElem_mem hj)
        obtain ⟨x28, h28, g28, e28, l28⟩ := I.hs (κ := 28) (by omega) (by omega) hc
        obtain ⟨x29, h29, g29, e29, l29⟩ := I.hs (κ := 29) (by omega) (by omega) hc
        obtain ⟨x30, h30, g30, e30, l30⟩ := I.hs (κ := 30) (by omega) (by omega) hc
        subst e28 e29 e30
        have hve := List.getElem?_eq_getElem hvn
        have hva := vAt_of hve
        generalize (sVers S)[c.2.2.2[j].1] = v at hve hva
        rw [hva] at hpsp
        obtain ⟨s, hsp⟩ := Option.isSome_iff_exists.mp hpsp
        have hv := I.verS hve hsp
        have hwn := Wf.2.2.2.2.2.2.2 _ _ hve
        have hwe := List.getElem?_eq_getElem hwn
        have hwo := I.warn hwe
        have hwi := wId_of hwe
        obtain ⟨-, w3, w30, -, -⟩ := WV _ _ _ hve hsp
        have hms := msg_ver Wf.2.2.2.1 hve hsp
        have HT := I.teAt hms w3 w30
        have HT0 := HT
        obtain ⟨-, -, ba, la, k8, k13⟩ := HT
        have hlx : (c.2.2.2[j].2.1).toNatClampNeg = l := by rw [hle]; exact nI_clamp (by omega)
        have w12 := Wf.2.1
        obtain ⟨x8, m8, f8⟩ := I.msg (κ := 8) (by omega) (by omega) (by omega) hms
        obtain ⟨x9, m9, f9⟩ := I.msg (κ := 9) (by omega) (by omega) (by omega) hms
        have f8 : x8 = _ := f8
        have f9 : x9 = _ := f9
        subst f8 f9
        obtain ⟨xr, mr, fr⟩ := I.msg (κ := 10 + l) (by omega) (by omega) (by omega) hms
        obtain ⟨gr, er, lr⟩ := (CMsg_row hl).mp fr
        subst er
        have hsl : shLen S c.2.2.2[j] = tl s.2.1.2 l := by simp [shLen, hva, hsp, hlx]
        have w30l := w30 l
        refine v_iload_n (dk cd_AW_shownByte 13 rfl) rfl ?_
        refine v_if_lt (tgt := 43) (dk cd_AW_shownByte 14 rfl) rfl (fun q26 => ?_) (fun q26 => ?_)
        · exact v_throw (ex := 3) (dk cd_AW_shownByte 23 rfl) (dk cd_AW_shownByte 24 rfl) (dk cd_AW_shownByte 25 rfl) (dk cd_AW_shownByte 26 rfl) rfl tw_193 rfl (by omega) (by omega) (by omega) (by simp) (pub_thr I (by first | (simp [spShownByte, q5]; done) | (have hk0 : pIx k c.2.2.2.length = false := (by first | (simp [pIx, q9]; done) | (simp [pIx, q22]; done)); simp [spShownByte, hha, hk0]; done) | (have hq0 : pIx q (shLen S c.2.2.2[j]) = false := (by first | (simp [pIx, q26]; done) | (simp [pIx, Int32.not_lt.mp q40]; done)); simp [spShownByte, hha, hjx, hj, hq0]; done)))
        · refine v_iload_n (dk cd_AW_shownByte 15 rfl) rfl ?_
          refine v_aload_n (dk cd_AW_shownByte 16 rfl) rfl ?_
          refine v_getf (dk cd_AW_shownByte 17 rfl) fg_AW_36_AW (by repeat first | assumption | exact aset_same _ _ _ | refine (aset_ne _ _ (by first | assumption | exact Ne.symm (by assumption))).trans ?_) (by rfl) ?_
          refine v_iload_n (dk cd_AW_shownByte 18 rfl) rfl ?_
          refine v_aaldN (j := 6) (dk cd_AW_shownByte 19 rfl) (by repeat first | assumption | exact aset_same _ _ _ | refine (aset_ne _ _ (by first | assumption | exact Ne.symm (by assumption))).trans ?_) (by decide) rfl rfl (by omega) (rng_at hi) ?_
          refine v_iload_n (dk cd_AW_shownByte 20 rfl) rfl ?_
          refine v_rv (r := ("AreaWarnings$Handset", TT_Ha, 13)) (dk cd_AW_shownByte 21 rfl) cv_AW_260 rfl (by repeat first | assumption | exact aset_same _ _ _ | refine (aset_ne _ _ (by first | assumption | exact Ne.symm (by assumption))).trans ?_) (as := [_]) rfl rfl (Nat.le_of_ble_eq_true rfl) (by simp [Value.category]) (Ha_bytesOfShown_ok I Wf WH WV hc hj) ?_
          refine v_icmp_lt (tgt := 51) (dk cd_AW_shownByte 22 rfl) rfl (fun q40 => ?_) (fun q40 => ?_)
          · have hqp : pIx q (shLen S c.2.2.2[j]) = true := by simp [pIx, Int32.not_le, q26, q40]
            obtain ⟨b, hb, rfl⟩ := pIx_nat hqp (by omega)
            have hbx : (nI b).toNatClampNeg = b := nI_clamp (by omega)
            have hbl : b < (s.2.1.2.getD l []).length := by have : tl s.2.1.2 l = (s.2.1.2.getD l []).length := rfl; omega
            refine v_aload_n (dk cd_AW_shownByte 27 rfl) rfl ?_
            refine v_getf (dk cd_AW_shownByte 28 rfl) fg_AW_36_AW (by repeat first | assumption | exact aset_same _ _ _ | refine (aset_ne _ _ (by first | assumption | exact Ne.symm (by assumption))).trans ?_) (by rfl) ?_
            refine v_iload_n (dk cd_AW_shownByte 29 rfl) rfl ?_
            refine v_aaldN (j := 6) (dk cd_AW_shownByte 30 rfl) (by repeat first | assumption | exact aset_same _ _ _ | refine (aset_ne _ _ (by first | assumption | exact Ne.symm (by assumption))).trans ?_) (by decide) rfl rfl (by omega) (rng_at hi) ?_
            refine v_astore (dk cd_AW_shownByte 31 rfl) (by decide) rfl ?_
            refine v_aload (dk cd_AW_shownByte 32 rfl) rfl ?_
            refine v_getf (dk cd_AW_shownByte 33 rfl) fg_AW_244_Ha (by repeat first | assumption | exact aset_same _ _ _ | refine (aset_ne _ _ (by first | assumption | exact Ne.symm (by assumption))).trans ?_) (by rfl) ?_
            refine v_iload_n (dk cd_AW_shownByte 34 rfl) rfl ?_
            refine v_aaldN (j := 8) (dk cd_AW_shownByte 35 rfl) (by repeat first | assumption | exact aset_same _ _ _ | refine (aset_ne _ _ (by first | assumption | exact Ne.symm (by assumption))).trans ?_) (by decide) rfl rfl (by omega) (map_app hj) ?_
            refine v_getf (dk cd_AW_shownByte 36 rfl) fg_AW_263_Sp (by repeat first | assumption | exact aset_same _ _ _ | refine (aset_ne _ _ (by first | assumption | exact Ne.symm (by assumption))).trans ?_) (by rfl) ?_
            refine v_getf (dk cd_AW_shownByte 37 rfl) fg_AW_264_Te (by repeat first | assumption | exact aset_same _ _ _ | refine (aset_ne _ _ (by first | assumption | exact Ne.symm (by assumption))).trans ?_) (by rfl) ?_
            refine v_aload (dk cd_AW_shownByte 38 rfl) rfl ?_
            refine v_getf (dk cd_AW_shownByte 39 rfl) fg_AW_250_Ha (by repeat first | assumption | exact aset_same _ _ _ | refine (aset_ne _ _ (by first | assumption | exact Ne.symm (by assumption))).trans ?_) (by rfl) ?_
            refine v_iload_n (dk cd_AW_shownByte 40 rfl) rfl ?_
            refine v_ialdN (j := 0) (dk cd_AW_shownByte 41 rfl) (by repeat first | assumption | exact aset_same _ _ _ | refine (aset_ne _ _ (by first | assumption | exact Ne.symm (by assumption))).trans ?_) (by decide) rfl (by omega) (map_app hj) ?_
            rw [hle]
            refine v_aaldN (j := 3) (dk cd_AW_shownByte 42 rfl) (by assumption) (by decide) rfl rfl (by omega) (row3 hl) ?_
            refine v_iload_n (dk cd_AW_shownByte 43 rfl) rfl ?_
            refine v_ialdN (j := 0) (dk cd_AW_shownByte 44 rfl) (by repeat first | assumption | exact aset_same _ _ _ | refine (aset_ne _ _ (by first | assumption | exact Ne.symm (by assumption))).trans ?_) (by decide) rfl (by omega) (map_app hbl) ?_
            exact v_iret (dk cd_AW_shownByte 45 rfl) rfl (pub_ret I rfl (by simp only [spShownByte, hha, hjx, hbx]; rw [show c.2.2.2.getD j (0, 0, 0) = c.2.2.2[j] by simp [hj], hva, hsp, hlx]; have e5 : (s.2.1.2.getD l []).getD b 0 = (s.2.1.2.getD l [])[b] := (by rw [List.getD_eq_getElem?_getD, List.getElem?_eq_getElem hbl]; rfl); simp only [q5, hkp, hqp, and_self, if_true, e5]))
          · exact v_throw (ex := 3) (dk cd_AW_shownByte 23 rfl) (dk cd_AW_shownByte 24 rfl) (dk cd_AW_shownByte 25 rfl) (dk cd_AW_shownByte 26 rfl) rfl tw_193 rfl (by omega) (by omega) (by omega) (by simp) (pub_thr I (by first | (simp [spShownByte, q5]; done) | (have hk0 : pIx k c.2.2.2.length = false := (by first | (simp [pIx, q9]; done) | (simp [pIx, q22]; done)); simp [spShownByte, hha, hk0]; done) | (have hq0 : pIx q (shLen S c.2.2.2[j]) = false := (by first | (simp [pIx, q26]; done) | (simp [pIx, Int32.not_lt.mp q40]; done)); simp [spShownByte, hha, hjx, hj, hq0]; done)))
theorem tot_nat {x : Int32} {n : Nat} (h1 : ¬ x < 10) (h2 : ¬ 10 + nI n ≤ x) (hn : n ≤ 3) : ∃ h, h < n ∧ x = nI (10 + h) := by
  have h0 : ¬ x < 0 := fun q => h1 (by rw [Int32.lt_iff_toInt_lt] at q ⊢; simp at q ⊢; omega)
  obtain ⟨j, hj, e⟩ := nI_of h0
  subst e
  rw [show (10 : Int32) = nI 10 by decide, nI_ltI hj (by omega)] at h1
  rw [show (10 : Int32) = nI 10 by decide, nI_add, nI_leI (by omega) hj] at h2
  exact ⟨j - 10, by omega, by congr 1; omega⟩
set_option maxRecDepth 100000 in
set_option maxHeartbeats 4000000 in
theorem AW_total_ok {x : Int32} (I : Inv F S ad A) (Wf : Wf S) (hgl : A.2.1 + 16 ≤ gL (gg u)) (hgs : A.2.2 + 400 ≤ gS (gg u)) : V (gg u) (d + 6) mm_AW_total 0 [some (.ref (ad 0 0)), some (.int x)] [] A (PubR F ad A (spTotal S x)) := by
  have h0 := I.aw
  obtain ⟨x1, h1, g1, e1, l1⟩ := I.top (κ := 1) (by omega)
  obtain ⟨x3, h3, g3, e3, l3⟩ := I.top (κ := 3) (by omega)
  subst e1 e3
  have w8 := Wf.2.2.1
  have w3 := Wf.2.2.2.2.1
  refine v_iload_n (dk cd_AW_total 0 rfl) rfl ?_
  rcases sw5 x with rfl | rfl | rfl | rfl | rfl | hx
  · refine v_tableIn (tgt := 36) (dk cd_AW_total 1 rfl) (by decide) (by decide) (by rfl) rfl ?_
    refine v_aload_n (dk cd_AW_total 2 rfl) rfl ?_
    refine v_getf (dk cd_AW_total 3 rfl) fg_AW_9_AW (by repeat first | assumption | exact aset_same _ _ _ | refine (aset_ne _ _ (by first | assumption | exact Ne.symm (by assumption))).trans ?_) (by rfl) ?_
    exact v_iret (dk cd_AW_total 4 rfl) rfl (pub_ret I rfl (by first | rfl | (have o0 := sw_out hx (k := 0) (by decide); have o1 := sw_out hx (k := 1) (by decide); have o2 := sw_out hx (k := 2) (by decide); have o3 := sw_out hx (k := 3) (by decide); have o4 := sw_out hx (k := 4) (by decide); unfold spTotal; rw [if_neg o0, if_neg o1, if_neg o2, if_neg o3, if_neg o4]; first | (rw [if_neg (fun z => z.1 q64)]; done) | (rw [if_neg (fun z => z.2 q75)]; done) | (rw [if_pos ⟨q64, q75⟩, hx10, hha]; done))))
  · refine v_tableIn (tgt := 41) (dk cd_AW_total 1 rfl) (by decide) (by decide) (by rfl) rfl ?_
    refine v_aload_n (dk cd_AW_total 5 rfl) rfl ?_
    refine v_getf (dk cd_AW_total 6 rfl) fg_AW_19_AW (by repeat first | assumption | exact aset_same _ _ _ | refine (aset_ne _ _ (by first | assumption | exact Ne.symm (by assumption))).trans ?_) (by rfl) ?_
    exact v_iret (dk cd_AW_total 7 rfl) rfl (pub_ret I rfl (by first | rfl | (have o0 := sw_out hx (k := 0) (by decide); have o1 := sw_out hx (k := 1) (by decide); have o2 := sw_out hx (k := 2) (by decide); have o3 := sw_out hx (k := 3) (by decide); have o4 := sw_out hx (k := 4) (by decide); unfold spTotal; rw [if_neg o0, if_neg o1, if_neg o2, if_neg o3, if_neg o4]; first | (rw [if_neg (fun z => z.1 q64)]; done) | (rw [if_neg (fun z => z.2 q75)]; done) | (rw [if_pos ⟨q64, q75⟩, hx10, hha]; done))))
  · refine v_tableIn (tgt := 46) (dk cd_AW_total 1 rfl) (by decide) (by decide) (by rfl) rfl ?_
    refine v_aload_n (dk cd_AW_total 8 rfl) rfl ?_
    refine v_getf (dk cd_AW_total 9 rfl) fg_AW_28_AW (by repeat first | assumption | exact aset_same _ _ _ | refine (aset_ne _ _ (by first | assumption | exact Ne.symm (by assumption))).trans ?_) (by rfl) ?_
    exact v_iret (dk cd_AW_total 10 rfl) rfl (pub_ret I rfl (by first | rfl | (have o0 := sw_out hx (k := 0) (by decide); have o1 := sw_out hx (k := 1) (by decide); have o2 := sw_out hx (k := 2) (by decide); have o3 := sw_out hx (k := 3) (by decide); have o4 := sw_out hx (k := 4) (by decide); unfold spTotal; rw [if_neg o0, if_neg o1, if_neg o2, if_neg o3, if_neg o4]; first | (rw [if_neg (fun z => z.1 q64)]; done) | (rw [if_neg (fun z => z.2 q75)]; done) | (rw [if_pos ⟨q64, q75⟩, hx10, hha]; done))))
  · refine v_tableIn (tgt := 51) (dk cd_AW_total 1 rfl) (by decide) (by decide) (by rfl) rfl ?_
    refine v_aload_n (dk cd_AW_total 11 rfl) rfl ?_
    refine v_getf (dk cd_AW_total 12 rfl) fg_AW_31_AW (by repeat first | assumption | exact aset_same _ _ _ | refine (aset_ne _ _ (by first | assumption | exact Ne.symm (by assumption))).trans ?_) (by rfl) ?_
    exact v_iret (dk cd_AW_total 13 rfl) rfl (pub_ret I rfl (by first | rfl | (have o0 := sw_out hx (k := 0) (by decide); have o1 := sw_out hx (k := 1) (by decide); have o2 := sw_out hx (k := 2) (by decide); have o3 := sw_out hx (k := 3) (by decide); have o4 := sw_out hx (k := 4) (by decide); unfold spTotal; rw [if_neg o0, if_neg o1, if_neg o2, if_neg o3, if_neg o4]; first | (rw [if_neg (fun z => z.1 q64)]; done) | (rw [if_neg (fun z => z.2 q75)]; done) | (rw [if_pos ⟨q64, q75⟩, hx10, hha]; done))))
  · refine v_tableIn (tgt := 56) (dk cd_AW_total 1 rfl) (by decide) (by decide) (by rfl) rfl ?_
    refine v_aload_n (dk cd_AW_total 14 rfl) rfl ?_
    refine v_getf (dk cd_AW_total 15 rfl) fg_AW_40_AW (by repeat first | assumption | exact aset_same _ _ _ | refine (aset_ne _ _ (by first | assumption | exact Ne.symm (by assumption))).trans ?_) (by rfl) ?_
    exact v_iret (dk cd_AW_total 16 rfl) rfl (pub_ret I rfl (by first | rfl | (have o0 := sw_out hx (k := 0) (by decide); have o1 := sw_out hx (k := 1) (by decide); have o2 := sw_out hx (k := 2) (by decide); have o3 := sw_out hx (k := 3) (by decide); have o4 := sw_out hx (k := 4) (by decide); unfold spTotal; rw [if_neg o0, if_neg o1, if_neg o2, if_neg o3, if_neg o4]; first | (rw [if_neg (fun z => z.1 q64)]; done) | (rw [if_neg (fun z => z.2 q75)]; done) | (rw [if_pos ⟨q64, q75⟩, hx10, hha]; done))))
  · refine v_tableOut (tgt := 61) (dk cd_AW_total 1 rfl) hx rfl ?_
    refine v_iload_n (dk cd_AW_total 17 rfl) rfl ?_
    refine v_bipush (v := 10) (dk cd_AW_total 18 rfl) (by decide) ?_
    refine v_icmp_lt (tgt := 91) (dk cd_AW_total 19 rfl) rfl (fun q64 => ?_) (fun q64 => ?_)
    · refine v_iconst (v := -1) (dk cd_AW_total 34 rfl) (by decide) ?_
      exact v_iret (dk cd_AW_total 35 rfl) rfl (pub_ret I rfl (by first | rfl | (have o0 := sw_out hx (k := 0) (by decide); have o1 := sw_out hx (k := 1) (by decide); have o2 := sw_out hx (k := 2) (by decide); have o3 := sw_out hx (k := 3) (by decide); have o4 := sw_out hx (k := 4) (by decide); unfold spTotal; rw [if_neg o0, if_neg o1, if_neg o2, if_neg o3, if_neg o4]; first | (rw [if_neg (fun z => z.1 q64)]; done) | (rw [if_neg (fun z => z.2 q75)]; done) | (rw [if_pos ⟨q64, q75⟩, hx10, hha]; done))))
    · refine v_iload_n (dk cd_AW_total 20 rfl) rfl ?_
      refine v_bipush (v := 10) (dk cd_AW_total 21 rfl) (by decide) ?_
      refine v_aload_n (dk cd_AW_total 22 rfl) rfl ?_
      refine v_getf (dk cd_AW_total 23 rfl) fg_AW_40_AW (by repeat first | assumption | exact aset_same _ _ _ | refine (aset_ne _ _ (by first | assumption | exact Ne.symm (by assumption))).trans ?_) (by rfl) ?_
      refine v_iadd (dk cd_AW_total 24 rfl) ?_
      refine v_icmp_ge (tgt := 91) (dk cd_AW_total 25 rfl) rfl (fun q75 => ?_) (fun q75 => ?_)
      · refine v_iconst (v := -1) (dk cd_AW_total 34 rfl) (by decide) ?_
        exact v_iret (dk cd_AW_total 35 rfl) rfl (pub_ret I rfl (by first | rfl | (have o0 := sw_out hx (k := 0) (by decide); have o1 := sw_out hx (k := 1) (by decide); have o2 := sw_out hx (k := 2) (by decide); have o3 := sw_out hx (k := 3) (by decide); have o4 := sw_out hx (k := 4) (by decide); unfold spTotal; rw [if_neg o0, if_neg o1, if_neg o2, if_neg o3, if_neg o4]; first | (rw [if_neg (fun z => z.1 q64)]; done) | (rw [if_neg (fun z => z.2 q75)]; done) | (rw [if_pos ⟨q64, q75⟩, hx10, hha]; done))))
      · obtain ⟨h, hh, rfl⟩ := tot_nat q64 q75 w3
        have hx10 : nI (10 + h) - 10 = nI h := by rw [show (10 : Int32) = nI 10 by decide, pk_sub (by omega)]; congr 1; omega
        obtain ⟨c, hc⟩ : ∃ c, (sHs S)[h]? = some c := ⟨_, List.getElem?_eq_getElem hh⟩
        have hha := hAt_nI hc (by omega)
        have h23 := I.hob hc
        refine v_aload_n (dk cd_AW_total 26 rfl) rfl ?_
        refine v_getf (dk cd_AW_total 27 rfl) fg_AW_36_AW (by repeat first | assumption | exact aset_same _ _ _ | refine (aset_ne _ _ (by first | assumption | exact Ne.symm (by assumption))).trans ?_) (by rfl) ?_
        refine v_iload_n (dk cd_AW_total 28 rfl) rfl ?_
        refine v_bipush (v := 10) (dk cd_AW_total 29 rfl) (by decide) ?_
        refine v_isub (dk cd_AW_total 30 rfl) ?_
        rw [hx10]
        refine v_aaldN (j := 6) (dk cd_AW_total 31 rfl) (by assumption) (by decide) rfl rfl (by omega) (rng_at hh) ?_
        refine v_getf (dk cd_AW_total 32 rfl) fg_AW_268_Ha (by repeat first | assumption | exact aset_same _ _ _ | refine (aset_ne _ _ (by first | assumption | exact Ne.symm (by assumption))).trans ?_) (by rfl) ?_
        exact v_iret (dk cd_AW_total 33 rfl) rfl (pub_ret I rfl (by first | rfl | (have o0 := sw_out hx (k := 0) (by decide); have o1 := sw_out hx (k := 1) (by decide); have o2 := sw_out hx (k := 2) (by decide); have o3 := sw_out hx (k := 3) (by decide); have o4 := sw_out hx (k := 4) (by decide); unfold spTotal; rw [if_neg o0, if_neg o1, if_neg o2, if_neg o3, if_neg o4]; first | (rw [if_neg (fun z => z.1 q64)]; done) | (rw [if_neg (fun z => z.2 q75)]; done) | (rw [if_pos ⟨q64, q75⟩, hx10, hha]; done))))
end R5
