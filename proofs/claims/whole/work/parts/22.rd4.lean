/-! the public reads: listed, sent, shown, shownByte, covers, version, total -/
theorem sw5 (x : Int32) : x = 0 ∨ x = 1 ∨ x = 2 ∨ x = 3 ∨ x = 4 ∨ (x.toInt < 0 ∨ 4 < x.toInt) := by
  by_cases h : x.toInt < 0 ∨ 4 < x.toInt
  · exact Or.inr (Or.inr (Or.inr (Or.inr (Or.inr h))))
  · have h1 : x.toInt = 0 ∨ x.toInt = 1 ∨ x.toInt = 2 ∨ x.toInt = 3 ∨ x.toInt = 4 := by omega
    rcases h1 with h1 | h1 | h1 | h1 | h1
    · exact Or.inl (Int32.toInt_inj.mp h1)
    · exact Or.inr (Or.inl (Int32.toInt_inj.mp h1))
    · exact Or.inr (Or.inr (Or.inl (Int32.toInt_inj.mp h1)))
    · exact Or.inr (Or.inr (Or.inr (Or.inl (Int32.toInt_inj.mp h1))))
    · exact Or.inr (Or.inr (Or.inr (Or.inr (Or.inl (Int32.toInt_inj.mp h1)))))
theorem sw6 (x : Int32) : x = 0 ∨ x = 1 ∨ x = 2 ∨ x = 3 ∨ x = 4 ∨ x = 5 ∨ (x.toInt < 0 ∨ 5 < x.toInt) := by
  rcases sw5 x with h | h | h | h | h | h
  · exact Or.inl h
  · exact Or.inr (Or.inl h)
  · exact Or.inr (Or.inr (Or.inl h))
  · exact Or.inr (Or.inr (Or.inr (Or.inl h)))
  · exact Or.inr (Or.inr (Or.inr (Or.inr (Or.inl h))))
  · by_cases h5 : x.toInt = 5
    · exact Or.inr (Or.inr (Or.inr (Or.inr (Or.inr (Or.inl (Int32.toInt_inj.mp h5))))))
    · exact Or.inr (Or.inr (Or.inr (Or.inr (Or.inr (Or.inr (by omega))))))
theorem sw_out {x : Int32} {n : Int} (h : x.toInt < 0 ∨ n < x.toInt) {k : Int32} (hk : 0 ≤ k.toInt ∧ k.toInt ≤ n) : ¬ x = k := fun e => by subst e; omega
/-- versions, lists and what is shown, in their bounds -/
def WfV (S : SS) : Prop := ∀ (i : Nat) (v : VeS) (s : SpS), (sVers S)[i]? = some v → v.2.2 = some s → s.2.1.1.length ≤ 8 ∧ s.2.1.2.length = 3 ∧ (∀ l, tl s.2.1.2 l ≤ 30) ∧ s.2.2.length = 8 ∧ ¬ s.1.2 = 0
def WfC (S : SS) : Prop := ∀ (i : Nat) (c : CeS), (sCells S)[i]? = some c → c.2.2.1.length ≤ 12 ∧ (∀ v ∈ c.2.2.1, v < (sVers S).length) ∧ c.2.2.2.length ≤ 108 ∧ ∀ p ∈ c.2.2.2, p.1 < (sVers S).length ∧ ((vAt S p.1).2.2.isSome = true → ∃ l, l < 3 ∧ p.2.1 = nI l)
def WfH (S : SS) : Prop := ∀ (i : Nat) (h : HaS), (sHs S)[i]? = some h → h.2.1.length ≤ 3 ∧ (∀ l ∈ h.2.1, ∃ n, n < 3 ∧ l = nI n) ∧ h.2.2.1.1.length = 12 ∧ h.2.2.1.2.1.length = 12 ∧ h.2.2.1.2.2.length = 12 ∧ (∀ v, some v ∈ h.2.2.1.1 → v < (sVers S).length) ∧ h.2.2.2.length ≤ 40 ∧
  ∀ p ∈ h.2.2.2, p.1 < (sVers S).length ∧ (vAt S p.1).2.2.isSome = true ∧ ∃ l, l < 3 ∧ p.2.1 = nI l
def lsVal (S : SS) (v : VeS) (q : Int32) : Value ⊕ Nat := if q = 0 then .inl (.int (wId S v.1)) else if q = 1 then .inl (.int v.2.1.1) else if q = 2 then .inl (.int v.2.1.2.1) else if q = 3 then .inl (.int v.2.1.2.2) else if q = 4 then .inl (.int (b2i v.2.2.isSome)) else .inr 0
def spListed (S : SS) (x k q : Int32) : SS × (Value ⊕ Nat) := if pIx x (sCells S).length = true ∧ pIx k (cAt S x).2.2.1.length = true then (S, lsVal S (vAt S ((cAt S x).2.2.1.getD k.toNatClampNeg 0)) q) else (S, .inr 3)
section R4
variable {u : Ux} {d : Nat} {A : AH} {F : Nat → Option AC} {S : SS} {ad : Nat → Nat → Nat}
theorem vAt_of {i : Nat} {v : VeS} (h : (sVers S)[i]? = some v) : vAt S i = v := by simp [vAt, h]
set_option maxRecDepth 100000 in
set_option maxHeartbeats 4000000 in
theorem AW_listed_ok {x k q : Int32} (I : Inv F S ad A) (Wf : Wf S) (hgl : A.2.1 + 16 ≤ gL (gg u)) (hgs : A.2.2 + 400 ≤ gS (gg u)) (WC : WfC S) : V (gg u) (d + 6) mm_AW_listed 0 [some (.ref (ad 0 0)), some (.int x), some (.int k), some (.int q), none] [] A (PubR F ad A (spListed S x k q)) := by
  have h0 := I.aw
  obtain ⟨x1, h1, g1, e1, l1⟩ := I.top (κ := 1) (by omega)
  obtain ⟨x3, h3, g3, e3, l3⟩ := I.top (κ := 3) (by omega)
  subst e1 e3
  have w8 := Wf.2.2.1
  have w3 := Wf.2.2.2.2.1
  refine v_aload_n (dk cd_AW_listed 0 rfl) rfl ?_
  refine v_iload_n (dk cd_AW_listed 1 rfl) rfl ?_
  refine v_rv (r := ("AreaWarnings", TT_AW, 9)) (dk cd_AW_listed 2 rfl) cv_AW_186 rfl (by repeat first | assumption | exact aset_same _ _ _ | refine (aset_ne _ _ (by first | assumption | exact Ne.symm (by assumption))).trans ?_) (as := [_]) rfl rfl (Nat.le_of_ble_eq_true rfl) (by simp [Value.category]) (AW_isCell_ok I) ?_
  refine v_ifeqB (tgt := 25) (dk cd_AW_listed 3 rfl) rfl (fun q5 => ?_) (fun q5 => ?_)
  · exact v_throw (ex := 3) (dk cd_AW_listed 13 rfl) (dk cd_AW_listed 14 rfl) (dk cd_AW_listed 15 rfl) (dk cd_AW_listed 16 rfl) rfl tw_193 rfl (by omega) (by omega) (by omega) (by simp) (pub_thr I (by first | (simp [spListed, q5]; done) | (have hk0 : pIx k c.2.2.1.length = false := (by first | (simp [pIx, q9]; done) | (simp [pIx, Int32.not_lt.mp q22]; done)); simp [spListed, hca, hk0]; done)))
  · obtain ⟨i, hi, rfl⟩ := pIx_nat q5 (by omega)
    have hix : (nI i).toNatClampNeg = i := nI_clamp (by omega)
    obtain ⟨c, hc⟩ : ∃ c, (sCells S)[i]? = some c := ⟨_, List.getElem?_eq_getElem hi⟩
    have hca := cAt_nI hc (by omega)
    have h14 := I.cob hc
    obtain ⟨hlc, hlv, -⟩ := WC _ _ hc
    refine v_iload_n (dk cd_AW_listed 4 rfl) rfl ?_
    refine v_if_lt (tgt := 25) (dk cd_AW_listed 5 rfl) rfl (fun q9 => ?_) (fun q9 => ?_)
    · exact v_throw (ex := 3) (dk cd_AW_listed 13 rfl) (dk cd_AW_listed 14 rfl) (dk cd_AW_listed 15 rfl) (dk cd_AW_listed 16 rfl) rfl tw_193 rfl (by omega) (by omega) (by omega) (by simp) (pub_thr I (by first | (simp [spListed, q5]; done) | (have hk0 : pIx k c.2.2.1.length = false := (by first | (simp [pIx, q9]; done) | (simp [pIx, Int32.not_lt.mp q22]; done)); simp [spListed, hca, hk0]; done)))
    · refine v_iload_n (dk cd_AW_listed 6 rfl) rfl ?_
      refine v_aload_n (dk cd_AW_listed 7 rfl) rfl ?_
      refine v_getf (dk cd_AW_listed 8 rfl) fg_AW_15_AW (by repeat first | assumption | exact aset_same _ _ _ | refine (aset_ne _ _ (by first | assumption | exact Ne.symm (by assumption))).trans ?_) (by rfl) ?_
      refine v_iload_n (dk cd_AW_listed 9 rfl) rfl ?_
      refine v_aaldN (j := 4) (dk cd_AW_listed 10 rfl) (by repeat first | assumption | exact aset_same _ _ _ | refine (aset_ne _ _ (by first | assumption | exact Ne.symm (by assumption))).trans ?_) (by decide) rfl rfl (by omega) (rng_at hi) ?_
      refine v_getf (dk cd_AW_listed 11 rfl) fg_AW_215_Ce (by repeat first | assumption | exact aset_same _ _ _ | refine (aset_ne _ _ (by first | assumption | exact Ne.symm (by assumption))).trans ?_) (by rfl) ?_
      refine v_icmp_lt (tgt := 33) (dk cd_AW_listed 12 rfl) rfl (fun q22 => ?_) (fun q22 => ?_)
      · have hkp : pIx k c.2.2.1.length = true := by simp [pIx, Int32.not_le, *]
        obtain ⟨j, hj, rfl⟩ := pIx_nat hkp (by omega)
        have hjx : (nI j).toNatClampNeg = j := nI_clamp (by omega)
        obtain ⟨gl, hgl2, hll⟩ := I.lst hc
        have hvn : c.2.2.1[j] < (sVers S).length := hlv _ (List.getElem_mem hj)
        have hve := List.getElem?_eq_getElem hvn
        have hva := vAt_of hve
        generalize (sVers S)[c.2.2.1[j]] = v at hve hva
        obtain ⟨vl, hv⟩ := I.verV hve
        have hwn := Wf.2.2.2.2.2.2.2 _ _ hve
        have hwe := List.getElem?_eq_getElem hwn
        have hwo := I.warn hwe
        have hwi := wId_of hwe
        refine v_aload_n (dk cd_AW_listed 17 rfl) rfl ?_
        refine v_getf (dk cd_AW_listed 18 rfl) fg_AW_15_AW (by repeat first | assumption | exact aset_same _ _ _ | refine (aset_ne _ _ (by first | assumption | exact Ne.symm (by assumption))).trans ?_) (by rfl) ?_
        refine v_iload_n (dk cd_AW_listed 19 rfl) rfl ?_
        refine v_aaldN (j := 4) (dk cd_AW_listed 20 rfl) (by repeat first | assumption | exact aset_same _ _ _ | refine (aset_ne _ _ (by first | assumption | exact Ne.symm (by assumption))).trans ?_) (by decide) rfl rfl (by omega) (rng_at hi) ?_
        refine v_getf (dk cd_AW_listed 21 rfl) fg_AW_218_Ce (by repeat first | assumption | exact aset_same _ _ _ | refine (aset_ne _ _ (by first | assumption | exact Ne.symm (by assumption))).trans ?_) (by rfl) ?_
        refine v_iload_n (dk cd_AW_listed 22 rfl) rfl ?_
        refine v_aaldN (j := 7) (dk cd_AW_listed 23 rfl) (by repeat first | assumption | exact aset_same _ _ _ | refine (aset_ne _ _ (by first | assumption | exact Ne.symm (by assumption))).trans ?_) (by decide) rfl rfl (by omega) (map_app hj) ?_
        refine v_astore (dk cd_AW_listed 24 rfl) (by decide) rfl ?_
        refine v_iload_n (dk cd_AW_listed 25 rfl) rfl ?_
        rcases sw5 q with rfl | rfl | rfl | rfl | rfl | hx
        · refine v_tableIn (tgt := 80) (dk cd_AW_listed 26 rfl) (by decide) (by decide) (by rfl) rfl ?_
          refine v_aload (dk cd_AW_listed 27 rfl) rfl ?_
          refine v_getf (dk cd_AW_listed 28 rfl) (fgV fg_AW_222_Sp fg_AW_222_Ca _) (by repeat first | assumption | exact aset_same _ _ _ | refine (aset_ne _ _ (by first | assumption | exact Ne.symm (by assumption))).trans ?_) (by rfl) ?_
          refine v_getf (dk cd_AW_listed 29 rfl) fg_AW_226_Wa (by repeat first | assumption | exact aset_same _ _ _ | refine (aset_ne _ _ (by first | assumption | exact Ne.symm (by assumption))).trans ?_) (by rfl) ?_
          exact v_iret (dk cd_AW_listed 30 rfl) rfl (pub_ret I rfl (by simp [spListed, lsVal, b2i, *]))
        · refine v_tableIn (tgt := 89) (dk cd_AW_listed 26 rfl) (by decide) (by decide) (by rfl) rfl ?_
          refine v_aload (dk cd_AW_listed 31 rfl) rfl ?_
          refine v_getf (dk cd_AW_listed 32 rfl) (fgV fg_AW_162_Sp fg_AW_162_Ca _) (by repeat first | assumption | exact aset_same _ _ _ | refine (aset_ne _ _ (by first | assumption | exact Ne.symm (by assumption))).trans ?_) (by rfl) ?_
          exact v_iret (dk cd_AW_listed 33 rfl) rfl (pub_ret I rfl (by simp [spListed, lsVal, b2i, *]))
        · refine v_tableIn (tgt := 95) (dk cd_AW_listed 26 rfl) (by decide) (by decide) (by rfl) rfl ?_
          refine v_aload (dk cd_AW_listed 34 rfl) rfl ?_
          refine v_getf (dk cd_AW_listed 35 rfl) (fgV fg_AW_151_Sp fg_AW_151_Ca _) (by repeat first | assumption | exact aset_same _ _ _ | refine (aset_ne _ _ (by first | assumption | exact Ne.symm (by assumption))).trans ?_) (by rfl) ?_
          exact v_iret (dk cd_AW_listed 36 rfl) rfl (pub_ret I rfl (by simp [spListed, lsVal, b2i, *]))
        · refine v_tableIn (tgt := 101) (dk cd_AW_listed 26 rfl) (by decide) (by decide) (by rfl) rfl ?_
          refine v_aload (dk cd_AW_listed 37 rfl) rfl ?_
          refine v_getf (dk cd_AW_listed 38 rfl) (fgV fg_AW_156_Sp fg_AW_156_Ca _) (by repeat first | assumption | exact aset_same _ _ _ | refine (aset_ne _ _ (by first | assumption | exact Ne.symm (by assumption))).trans ?_) (by rfl) ?_
          exact v_iret (dk cd_AW_listed 39 rfl) rfl (pub_ret I rfl (by simp [spListed, lsVal, b2i, *]))
        · refine v_tableIn (tgt := 107) (dk cd_AW_listed 26 rfl) (by decide) (by decide) (by rfl) rfl ?_
          refine v_aload (dk cd_AW_listed 40 rfl) rfl ?_
          rcases hsp : v.2.2 with _ | sp
          · have hk9 : vKind v = 2 := by simp [vKind, hsp]
            have hv9 := hv
            rw [hk9] at hv9
            refine v_instNo (dk cd_AW_listed 41 rfl) in_AW_67_Ca (by assumption) ?_
            refine v_if_eq (tgt := 119) (dk cd_AW_listed 42 rfl) rfl (fun _ => ?_) (fun q => absurd rfl q)
            refine v_iconst (v := 0) (dk cd_AW_listed 45 rfl) (by decide) ?_
            exact v_iret (dk cd_AW_listed 46 rfl) rfl (pub_ret I rfl (by simp [spListed, lsVal, b2i, *]))
          · have hk9 : vKind v = 6 := by simp [vKind, hsp]
            have hv9 := hv
            rw [hk9] at hv9
            refine v_instY (dk cd_AW_listed 41 rfl) iy_AW_67_Sp (by assumption) ?_
            refine v_if_eq (tgt := 119) (dk cd_AW_listed 42 rfl) rfl (fun q => absurd q (by decide)) (fun _ => ?_)
            refine v_iconst (v := 1) (dk cd_AW_listed 43 rfl) (by decide) ?_
            refine v_goto (tgt := 120) (dk cd_AW_listed 44 rfl) rfl ?_
            exact v_iret (dk cd_AW_listed 46 rfl) rfl (pub_ret I rfl (by simp [spListed, lsVal, b2i, *]))
        · refine v_tableOut (tgt := 121) (dk cd_AW_listed 26 rfl) hx rfl ?_
          exact v_throw (ex := 0) (dk cd_AW_listed 47 rfl) (dk cd_AW_listed 48 rfl) (dk cd_AW_listed 49 rfl) (dk cd_AW_listed 50 rfl) rfl tw_54 rfl (by omega) (by omega) (by omega) (by simp) (pub_thr I (by have o0 := sw_out hx (k := 0) (by decide); have o1 := sw_out hx (k := 1) (by decide); have o2 := sw_out hx (k := 2) (by decide); have o3 := sw_out hx (k := 3) (by decide); have o4 := sw_out hx (k := 4) (by decide); simp [spListed, lsVal, *]))
      · exact v_throw (ex := 3) (dk cd_AW_listed 13 rfl) (dk cd_AW_listed 14 rfl) (dk cd_AW_listed 15 rfl) (dk cd_AW_listed 16 rfl) rfl tw_193 rfl (by omega) (by omega) (by omega) (by simp) (pub_thr I (by first | (simp [spListed, q5]; done) | (have hk0 : pIx k c.2.2.1.length = false := (by first | (simp [pIx, q9]; done) | (simp [pIx, Int32.not_lt.mp q22]; done)); simp [spListed, hca, hk0]; done)))
def stVal (S : SS) (pg : Nat × Int32 × Int32) (q : Int32) : Value ⊕ Nat := if q = 0 then .inl (.int (wId S (vAt S pg.1).1)) else if q = 1 then .inl (.int (vAt S pg.1).2.1.1) else if q = 2 then .inl (.int pg.2.1) else if q = 3 then .inl (.int pg.2.2) else if q = 4 then .inl (.int (match (vAt S pg.1).2.2 with | none => 0 | some s => mn 10 (nI (tl s.2.1.2 pg.2.1.toNatClampNeg) - pg.2.2 * 10))) else .inr 0
def spSent (S : SS) (x k q : Int32) : SS × (Value ⊕ Nat) := if pIx x (sCells S).length = true ∧ pIx k (cAt S x).2.2.2.length = true then (S, stVal S ((cAt S x).2.2.2.getD k.toNatClampNeg (0, 0, 0)) q) else (S, .inr 3)
theorem msg_ver {i : Nat} {v : VeS} {s : SpS} (hl : (sVers S).length ≤ 40) (hve : (sVers S)[i]? = some v) (hs : v.2.2 = some s) : msgOf S i = some s.2.1 := by
  have hi := (List.getElem?_eq_some_iff.mp hve).1
  unfold msgOf
  rw [if_neg (by omega), hve]
  simp [hs]
set_option maxRecDepth 100000 in
set_option maxHeartbeats 4000000 in
theorem Ce_bytesOfPage_ok {i j : Nat} {c : CeS} (I : Inv F S ad A) (Wf : Wf S) (WC : WfC S) (WV : WfV S) (hc : (sCells S)[i]? = some c) (hj : j < c.2.2.2.length) : V (gg u) (d + 1) mm_Ce_bytesOfPage 0 [some (.ref (ad 14 i)), some (.int (nI j)), none, none] [] A (Rt (some (.int (match (vAt S c.2.2.2[j].1).2.2 with | none => 0 | some s => mn 10 (nI (tl s.2.1.2 c.2.2.2[j].2.1.toNatClampNeg) - c.2.2.2[j].2.2 * 10)))) A) := by
  obtain ⟨-, -, hpc, hpg⟩ := WC _ _ hc
  obtain ⟨hvn, hpl⟩ := hpg _ (List.getElem_mem hj)
  have h14 := I.cob hc
  obtain ⟨x17, h17, g17, e17, l17⟩ := I.cell (κ := 17) (by omega) (by omega) hc
  obtain ⟨x18, h18, g18, e18, l18⟩ := I.cell (κ := 18) (by omega) (by omega) hc
  obtain ⟨x19, h19, g19, e19, l19⟩ := I.cell (κ := 19) (by omega) (by omega) hc
  subst e17 e18 e19
  have hve := List.getElem?_eq_getElem hvn
  have hva := vAt_of hve
  generalize (sVers S)[c.2.2.2[j].1] = v at hve hva
  rw [hva] at hpl ⊢
  cases hsp : v.2.2 with
  | none =>
    have hv := I.verC hve hsp
    refine v_aload_n (dk cd_Ce_bytesOfPage 0 rfl) rfl ?_
    refine v_getf (dk cd_Ce_bytesOfPage 1 rfl) fg_Ce_40_Ce (by assumption) (by rfl) ?_
    refine v_iload_n (dk cd_Ce_bytesOfPage 2 rfl) rfl ?_
    refine v_aaldN (j := 7) (dk cd_Ce_bytesOfPage 3 rfl) (by assumption) (by decide) rfl rfl (by omega) (map_app hj) ?_
    refine v_astore_n (dk cd_Ce_bytesOfPage 4 rfl) (by decide) rfl ?_
    refine v_aload_n (dk cd_Ce_bytesOfPage 5 rfl) rfl ?_
    refine v_instNo (dk cd_Ce_bytesOfPage 6 rfl) in_Ce_66_Ca (by assumption) ?_
    refine v_if_eq (tgt := 39) (dk cd_Ce_bytesOfPage 7 rfl) rfl (fun _ => ?_) (fun q => absurd rfl q)
    refine v_iconst (v := 0) (dk cd_Ce_bytesOfPage 23 rfl) (by decide) ?_
    exact v_iret (dk cd_Ce_bytesOfPage 24 rfl) rfl rt_ret
  | some s =>
    have hv := I.verS hve hsp
    obtain ⟨l, hl, hle⟩ := hpl (by rw [hsp]; rfl)
    have hlx : (c.2.2.2[j].2.1).toNatClampNeg = l := by rw [hle]; exact nI_clamp (by omega)
    rw [hlx]
    obtain ⟨-, w3, w30, -, -⟩ := WV _ _ _ hve hsp
    have HT := I.teAt (msg_ver Wf.2.2.2.1 hve hsp) w3 w30
    have HT0 := HT
    obtain ⟨-, -, ba, la, k8, -⟩ := HT
    refine v_aload_n (dk cd_Ce_bytesOfPage 0 rfl) rfl ?_
    refine v_getf (dk cd_Ce_bytesOfPage 1 rfl) fg_Ce_40_Ce (by assumption) (by rfl) ?_
    refine v_iload_n (dk cd_Ce_bytesOfPage 2 rfl) rfl ?_
    refine v_aaldN (j := 7) (dk cd_Ce_bytesOfPage 3 rfl) (by assumption) (by decide) rfl rfl (by omega) (map_app hj) ?_
    refine v_astore_n (dk cd_Ce_bytesOfPage 4 rfl) (by decide) rfl ?_
    refine v_aload_n (dk cd_Ce_bytesOfPage 5 rfl) rfl ?_
    refine v_instY (dk cd_Ce_bytesOfPage 6 rfl) iy_Ce_66_Sp (by assumption) ?_
    refine v_if_eq (tgt := 39) (dk cd_Ce_bytesOfPage 7 rfl) rfl (fun q => absurd q (by decide)) (fun _ => ?_)
    refine v_aload_n (dk cd_Ce_bytesOfPage 8 rfl) rfl ?_
    refine v_castY (dk cd_Ce_bytesOfPage 9 rfl) iy_Ce_66_Sp (by assumption) ?_
    refine v_astore_n (dk cd_Ce_bytesOfPage 10 rfl) (by decide) rfl ?_
    refine v_aload_n (dk cd_Ce_bytesOfPage 11 rfl) rfl ?_
    refine v_getf (dk cd_Ce_bytesOfPage 12 rfl) fg_Ce_99_Sp (by assumption) (by rfl) ?_
    refine v_aload_n (dk cd_Ce_bytesOfPage 13 rfl) rfl ?_
    refine v_getf (dk cd_Ce_bytesOfPage 14 rfl) fg_Ce_43_Ce (by assumption) (by rfl) ?_
    refine v_iload_n (dk cd_Ce_bytesOfPage 15 rfl) rfl ?_
    refine v_ialdN (j := 0) (dk cd_Ce_bytesOfPage 16 rfl) (by assumption) (by decide) rfl (by omega) (map_app hj) ?_
    rw [hle]
    refine v_aload_n (dk cd_Ce_bytesOfPage 17 rfl) rfl ?_
    refine v_getf (dk cd_Ce_bytesOfPage 18 rfl) fg_Ce_47_Ce (by assumption) (by rfl) ?_
    refine v_iload_n (dk cd_Ce_bytesOfPage 19 rfl) rfl ?_
    refine v_ialdN (j := 0) (dk cd_Ce_bytesOfPage 20 rfl) (by assumption) (by decide) rfl (by omega) (map_app hj) ?_
    refine v_rv (r := ("AreaWarnings$Texts", TT_Te, 2)) (dk cd_Ce_bytesOfPage 21 rfl) cv_Ce_109 rfl (by assumption) (as := [_, _]) rfl rfl (Nat.le_of_ble_eq_true rfl) (by simp [Value.category]) (Te_bytesOfPage_ok HT0 hl) ?_
    exact v_iret (dk cd_Ce_bytesOfPage 22 rfl) rfl rt_ret
set_option maxRecDepth 100000 in
set_option maxHeartbeats 4000000 in
theorem AW_sent_ok {x k q : Int32} (I : Inv F S ad A) (Wf : Wf S) (hgl : A.2.1 + 16 ≤ gL (gg u)) (hgs : A.2.2 + 400 ≤ gS (gg u)) (WC : WfC S) (WV : WfV S) : V (gg u) (d + 6) mm_AW_sent 0 [some (.ref (ad 0 0)), some (.int x), some (.int k), some (.int q), none] [] A (PubR F ad A (spSent S x k q)) := by
  have h0 := I.aw
  obtain ⟨x1, h1, g1, e1, l1⟩ := I.top (κ := 1) (by omega)
  obtain ⟨x3, h3, g3, e3, l3⟩ := I.top (κ := 3) (by omega)
  subst e1 e3
  have w8 := Wf.2.2.1
  have w3 := Wf.2.2.2.2.1
  refine v_aload_n (dk cd_AW_sent 0 rfl) rfl ?_
  refine v_iload_n (dk cd_AW_sent 1 rfl) rfl ?_
  refine v_rv (r := ("AreaWarnings", TT_AW, 9)) (dk cd_AW_sent 2 rfl) cv_AW_186 rfl (by repeat first | assumption | exact aset_same _ _ _ | refine (aset_ne _ _ (by first | assumption | exact Ne.symm (by assumption))).trans ?_) (as := [_]) rfl rfl (Nat.le_of_ble_eq_true rfl) (by simp [Value.category]) (AW_isCell_ok I) ?_
  refine v_ifeqB (tgt := 25) (dk cd_AW_sent 3 rfl) rfl (fun q5 => ?_) (fun q5 => ?_)
  · exact v_throw (ex := 3) (dk cd_AW_sent 13 rfl) (dk cd_AW_sent 14 rfl) (dk cd_AW_sent 15 rfl) (dk cd_AW_sent 16 rfl) rfl tw_193 rfl (by omega) (by omega) (by omega) (by simp) (pub_thr I (by first | (simp [spSent, q5]; done) | (have hk0 : pIx k c.2.2.2.length = false := (by first | (simp [pIx, q9]; done) | (simp [pIx, Int32.not_lt.mp q22]; done)); simp [spSent, hca, hk0]; done)))
  · obtain ⟨i, hi, rfl⟩ := pIx_nat q5 (by omega)
    have hix : (nI i).toNatClampNeg = i := nI_clamp (by omega)
    obtain ⟨c, hc⟩ : ∃ c, (sCells S)[i]? = some c := ⟨_, List.getElem?_eq_getElem hi⟩
    have hca := cAt_nI hc (by omega)
    have h14 := I.cob hc
    obtain ⟨-, -, hpc, hpg⟩ := WC _ _ hc
    refine v_iload_n (dk cd_AW_sent 4 rfl) rfl ?_
    refine v_if_lt (tgt := 25) (dk cd_AW_sent 5 rfl) rfl (fun q9 => ?_) (fun q9 => ?_)
    · exact v_throw (ex := 3) (dk cd_AW_sent 13 rfl) (dk cd_AW_sent 14 rfl) (dk cd_AW_sent 15 rfl) (dk cd_AW_sent 16 rfl) rfl tw_193 rfl (by omega) (by omega) (by omega) (by simp) (pub_thr I (by first | (simp [spSent, q5]; done) | (have hk0 : pIx k c.2.2.2.length = false := (by first | (simp [pIx, q9]; done) | (simp [pIx, Int32.not_lt.mp q22]; done)); simp [spSent, hca, hk0]; done)))
    · refine v_iload_n (dk cd_AW_sent 6 rfl) rfl ?_
      refine v_aload_n (dk cd_AW_sent 7 rfl) rfl ?_
      refine v_getf (dk cd_AW_sent 8 rfl) fg_AW_15_AW (by repeat first | assumption | exact aset_same _ _ _ | refine (aset_ne _ _ (by first | assumption | exact Ne.symm (by assumption))).trans ?_) (by rfl) ?_
      refine v_iload_n (dk cd_AW_sent 9 rfl) rfl ?_
      refine v_aaldN (j := 4) (dk cd_AW_sent 10 rfl) (by repeat first | assumption | exact aset_same _ _ _ | refine (aset_ne _ _ (by first | assumption | exact Ne.symm (by assumption))).trans ?_) (by decide) rfl rfl (by omega) (rng_at hi) ?_
      refine v_getf (dk cd_AW_sent 11 rfl) fg_AW_180_Ce (by repeat first | assumption | exact aset_same _ _ _ | refine (aset_ne _ _ (by first | assumption | exact Ne.symm (by assumption))).trans ?_) (by rfl) ?_
      refine v_icmp_lt (tgt := 33) (dk cd_AW_sent 12 rfl) rfl (fun q22 => ?_) (fun q22 => ?_)
      · have hkp : pIx k c.2.2.2.length = true := by simp [pIx, Int32.not_le, *]
        obtain ⟨j, hj, rfl⟩ := pIx_nat hkp (by omega)
        have hjx : (nI j).toNatClampNeg = j := nI_clamp (by omega)
        obtain ⟨x17, h17, g17, e17, l17⟩ := I.cell (κ := 17) (by omega) (by omega) hc
        obtain ⟨x18, h18, g18, e18, l18⟩ := I.cell (κ := 18) (by omega) (by omega) hc
        obtain ⟨x19, h19, g19, e19, l19⟩ := I.cell (κ := 19) (by omega) (by omega) hc
        subst e17 e18 e19
        have hvn : c.2.2.2[j].1 < (sVers S).length := (hpg _ (List.getElem_mem hj)).1
        have hve := List.getElem?_eq_getElem hvn
        have hva := vAt_of hve
        generalize (sVers S)[c.2.2.2[j].1] = v at hve hva
        obtain ⟨vl, hv⟩ := I.verV hve
        have hwn := Wf.2.2.2.2.2.2.2 _ _ hve
        have hwe := List.getElem?_eq_getElem hwn
        have hwo := I.warn hwe
        have hwi := wId_of hwe
        refine v_aload_n (dk cd_AW_sent 17 rfl) rfl ?_
        refine v_getf (dk cd_AW_sent 18 rfl) fg_AW_15_AW (by repeat first | assumption | exact aset_same _ _ _ | refine (aset_ne _ _ (by first | assumption | exact Ne.symm (by assumption))).trans ?_) (by rfl) ?_
        refine v_iload_n (dk cd_AW_sent 19 rfl) rfl ?_
        refine v_aaldN (j := 4) (dk cd_AW_sent 20 rfl) (by repeat first | assumption | exact aset_same _ _ _ | refine (aset_ne _ _ (by first | assumption | exact Ne.symm (by assumption))).trans ?_) (by decide) rfl rfl (by omega) (rng_at hi) ?_
        refine v_astore (dk cd_AW_sent 21 rfl) (by decide) rfl ?_
        refine v_iload_n (dk cd_AW_sent 22 rfl) rfl ?_
        rcases sw5 q with rfl | rfl | rfl | rfl | rfl | hx
        · refine v_tableIn (tgt := 76) (dk cd_AW_sent 23 rfl) (by decide) (by decide) (by rfl) rfl ?_
          refine v_aload (dk cd_AW_sent 24 rfl) rfl ?_
          refine v_getf (dk cd_AW_sent 25 rfl) fg_AW_229_Ce (by repeat first | assumption | exact aset_same _ _ _ | refine (aset_ne _ _ (by first | assumption | exact Ne.symm (by assumption))).trans ?_) (by rfl) ?_
          refine v_iload_n (dk cd_AW_sent 26 rfl) rfl ?_
          refine v_aaldN (j := 7) (dk cd_AW_sent 27 rfl) (by repeat first | assumption | exact aset_same _ _ _ | refine (aset_ne _ _ (by first | assumption | exact Ne.symm (by assumption))).trans ?_) (by decide) rfl rfl (by omega) (map_app hj) ?_
          refine v_getf (dk cd_AW_sent 28 rfl) (fgV fg_AW_222_Sp fg_AW_222_Ca _) (by repeat first | assumption | exact aset_same _ _ _ | refine (aset_ne _ _ (by first | assumption | exact Ne.symm (by assumption))).trans ?_) (by rfl) ?_
          refine v_getf (dk cd_AW_sent 29 rfl) fg_AW_226_Wa (by repeat first | assumption | exact aset_same _ _ _ | refine (aset_ne _ _ (by first | assumption | exact Ne.symm (by assumption))).trans ?_) (by rfl) ?_
          exact v_iret (dk cd_AW_sent 30 rfl) rfl (pub_ret I rfl (by simp [spSent, stVal, *]))
        · refine v_tableIn (tgt := 90) (dk cd_AW_sent 23 rfl) (by decide) (by decide) (by rfl) rfl ?_
          refine v_aload (dk cd_AW_sent 31 rfl) rfl ?_
          refine v_getf (dk cd_AW_sent 32 rfl) fg_AW_229_Ce (by repeat first | assumption | exact aset_same _ _ _ | refine (aset_ne _ _ (by first | assumption | exact Ne.symm (by assumption))).trans ?_) (by rfl) ?_
          refine v_iload_n (dk cd_AW_sent 33 rfl) rfl ?_
          refine v_aaldN (j := 7) (dk cd_AW_sent 34 rfl) (by repeat first | assumption | exact aset_same _ _ _ | refine (aset_ne _ _ (by first | assumption | exact Ne.symm (by assumption))).trans ?_) (by decide) rfl rfl (by omega) (map_app hj) ?_
          refine v_getf (dk cd_AW_sent 35 rfl) (fgV fg_AW_162_Sp fg_AW_162_Ca _) (by repeat first | assumption | exact aset_same _ _ _ | refine (aset_ne _ _ (by first | assumption | exact Ne.symm (by assumption))).trans ?_) (by rfl) ?_
          exact v_iret (dk cd_AW_sent 36 rfl) rfl (pub_ret I rfl (by simp [spSent, stVal, *]))
        · refine v_tableIn (tgt := 101) (dk cd_AW_sent 23 rfl) (by decide) (by decide) (by rfl) rfl ?_
          refine v_aload (dk cd_AW_sent 37 rfl) rfl ?_
          refine v_getf (dk cd_AW_sent 38 rfl) fg_AW_232_Ce (by repeat first | assumption | exact aset_same _ _ _ | refine (aset_ne _ _ (by first | assumption | exact Ne.symm (by assumption))).trans ?_) (by rfl) ?_
          refine v_iload_n (dk cd_AW_sent 39 rfl) rfl ?_
          refine v_ialdN (j := 0) (dk cd_AW_sent 40 rfl) (by repeat first | assumption | exact aset_same _ _ _ | refine (aset_ne _ _ (by first | assumption | exact Ne.symm (by assumption))).trans ?_) (by decide) rfl (by omega) (map_app hj) ?_
          exact v_iret (dk cd_AW_sent 41 rfl) rfl (pub_ret I rfl (by simp [spSent, stVal, *]))
        · refine v_tableIn (tgt := 109) (dk cd_AW_sent 23 rfl) (by decide) (by decide) (by rfl) rfl ?_
          refine v_aload (dk cd_AW_sent 42 rfl) rfl ?_
          refine v_getf (dk cd_AW_sent 43 rfl) fg_AW_235_Ce (by repeat first | assumption | exact aset_same _ _ _ | refine (aset_ne _ _ (by first | assumption | exact Ne.symm (by assumption))).trans ?_) (by rfl) ?_
          refine v_iload_n (dk cd_AW_sent 44 rfl) rfl ?_
          refine v_ialdN (j := 0) (dk cd_AW_sent 45 rfl) (by repeat first | assumption | exact aset_same _ _ _ | refine (aset_ne _ _ (by first | assumption | exact Ne.symm (by assumption))).trans ?_) (by decide) rfl (by omega) (map_app hj) ?_
          exact v_iret (dk cd_AW_sent 46 rfl) rfl (pub_ret I rfl (by simp [spSent, stVal, *]))
        · refine v_tableIn (tgt := 117) (dk cd_AW_sent 23 rfl) (by decide) (by decide) (by rfl) rfl ?_
          refine v_aload (dk cd_AW_sent 47 rfl) rfl ?_
          refine v_iload_n (dk cd_AW_sent 48 rfl) rfl ?_
          refine v_rv (r := ("AreaWarnings$Cell", TT_Ce, 12)) (dk cd_AW_sent 49 rfl) cv_AW_238 rfl (by repeat first | assumption | exact aset_same _ _ _ | refine (aset_ne _ _ (by first | assumption | exact Ne.symm (by assumption))).trans ?_) (as := [_]) rfl rfl (Nat.le_of_ble_eq_true rfl) (by simp [Value.category]) (Ce_bytesOfPage_ok I Wf WC WV hc hj) ?_
          exact v_iret (dk cd_AW_sent 50 rfl) rfl (pub_ret I rfl (by simp [spSent, stVal, *]))
        · refine v_tableOut (tgt := 124) (dk cd_AW_sent 23 rfl) hx rfl ?_
          exact v_throw (ex := 0) (dk cd_AW_sent 51 rfl) (dk cd_AW_sent 52 rfl) (dk cd_AW_sent 53 rfl) (dk cd_AW_sent 54 rfl) rfl tw_54 rfl (by omega) (by omega) (by omega) (by simp) (pub_thr I (by have o0 := sw_out hx (k := 0) (by decide); have o1 := sw_out hx (k := 1) (by decide); have o2 := sw_out hx (k := 2) (by decide); have o3 := sw_out hx (k := 3) (by decide); have o4 := sw_out hx (k := 4) (by decide); simp [spSent, stVal, *]))
      · exact v_throw (ex := 3) (dk cd_AW_sent 13 rfl) (dk cd_AW_sent 14 rfl) (dk cd_AW_sent 15 rfl) (dk cd_AW_sent 16 rfl) rfl tw_193 rfl (by omega) (by omega) (by omega) (by simp) (pub_thr I (by first | (simp [spSent, q5]; done) | (have hk0 : pIx k c.2.2.2.length = false := (by first | (simp [pIx, q9]; done) | (simp [pIx, Int32.not_lt.mp q22]; done)); simp [spSent, hca, hk0]; done)))
end R4
