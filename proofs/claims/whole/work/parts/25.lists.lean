/-! a cell's list: made anew, or the ended dropped; all its pages -/
def belongs (S : SS) (i : Nat) (c : CeS) (v : Nat) : Bool := match (vAt S v).2.2 with
  | some s => s.2.2.getD i false
  | none => lsts S c (vAt S v).1
def keepL (S : SS) (i : Nat) (c : CeS) (clk : Int32) (v : Nat) : Bool := !decide ((vAt S v).2.1.2.2 ≤ clk) && belongs S i c v
def mkList (S : SS) (i : Nat) (c : CeS) (clk : Int32) : List Nat := ((sOrd S).map (nwI S)).filter (keepL S i c clk)
def cLs (c : CeS) (l : List Nat) (fl : Bool) : CeS := (c.1, (c.2.1.1, fl), l, c.2.2.2)
theorem aset_aset (A : AH) (a : Nat) (x y : AC) : aset (aset A a x) a y = aset A a y := by
  unfold aset
  simp only [Prod.mk.injEq, and_true]
  funext q
  split <;> rfl
theorem aset_id {A : AH} {a : Nat} {x : AC} (h : A.1 a = some x) : aset A a x = A := by
  unfold aset
  have e : (fun q => if q = a then some x else A.1 q) = A.1 := by
    funext q
    split
    · rename_i hq; rw [hq, h]
    · rfl
  rw [e]
section LI
variable {u : Ux} {d : Nat} {A : AH} {F : Nat → Option AC} {S : SS} {ad : Nat → Nat → Nat}
set_option maxRecDepth 100000 in
set_option maxHeartbeats 4000000 in
theorem Ce_belongsHere_ok {i v : Nat} {c : CeS} {ve : VeS} (I : Inv F S ad A) (Wf : Wf S) (WV : WfV S) (hc : (sCells S)[i]? = some c) (hb : ∀ v ∈ c.2.2.1, v < (sVers S).length) (hve : (sVers S)[v]? = some ve) : V (gg u) (d + 1) mm_Ce_belongsHere 0 [some (.ref (ad 14 i)), some (.ref (ad 21 v)), none] [] A (Rt (some (.int (b2i (belongs S i c v)))) A) := by
  have hi := (List.getElem?_eq_some_iff.mp hc).1
  have w8 := Wf.2.2.1
  have h14 := I.cob hc
  have hva := vAt_of hve
  have hwn := Wf.2.2.2.2.2.2.2 _ _ hve
  cases hs : ve.2.2 with
  | none =>
    have hv := I.verC hve hs
    refine v_aload_n (dk cd_Ce_belongsHere 0 rfl) rfl ?_
    refine v_instNo (dk cd_Ce_belongsHere 1 rfl) in_Ce_66_Ca (by assumption) ?_
    refine v_if_eq (tgt := 22) (dk cd_Ce_belongsHere 2 rfl) rfl (fun _ => ?_) (fun q => absurd rfl q)
    refine v_aload_n (dk cd_Ce_belongsHere 12 rfl) rfl ?_
    refine v_aload_n (dk cd_Ce_belongsHere 13 rfl) rfl ?_
    refine v_getf (dk cd_Ce_belongsHere 14 rfl) fg_Ce_72_Ca (by assumption) (by rfl) ?_
    refine v_rv (r := ("AreaWarnings$Cell", TT_Ce, 12)) (dk cd_Ce_belongsHere 15 rfl) cv_Ce_76 rfl (by assumption) (as := [_]) rfl rfl (Nat.le_of_ble_eq_true rfl) (by simp [Value.category]) (Ce_listsWarning_ok I Wf hc hb hwn) ?_
    exact v_zretB (dk cd_Ce_belongsHere 16 rfl) rfl (rt_of (by simp [belongs, hva, hs]))
  | some s =>
    have hv := I.verS hve hs
    have hcv := I.cov hve hs
    obtain ⟨-, -, -, w8c, -⟩ := WV _ _ _ hve hs
    have hil : i < s.2.2.length := by omega
    have hrd : (s.2.2.map fun b => Value.int (b2i b))[i]? = some (.int (b2i s.2.2[i])) := by rw [List.getElem?_map, List.getElem?_eq_getElem hil]; rfl
    refine v_aload_n (dk cd_Ce_belongsHere 0 rfl) rfl ?_
    refine v_instY (dk cd_Ce_belongsHere 1 rfl) iy_Ce_66_Sp (by assumption) ?_
    refine v_if_eq (tgt := 22) (dk cd_Ce_belongsHere 2 rfl) rfl (fun q => absurd q (by decide)) (fun _ => ?_)
    refine v_aload_n (dk cd_Ce_belongsHere 3 rfl) rfl ?_
    refine v_castY (dk cd_Ce_belongsHere 4 rfl) iy_Ce_66_Sp (by assumption) ?_
    refine v_astore_n (dk cd_Ce_belongsHere 5 rfl) (by decide) rfl ?_
    refine v_aload_n (dk cd_Ce_belongsHere 6 rfl) rfl ?_
    refine v_getf (dk cd_Ce_belongsHere 7 rfl) fg_Ce_68_Sp (by assumption) (by rfl) ?_
    refine v_aload_n (dk cd_Ce_belongsHere 8 rfl) rfl ?_
    refine v_getf (dk cd_Ce_belongsHere 9 rfl) fg_Ce_9_Ce (by assumption) (by rfl) ?_
    refine v_zaldN (j := 1) (dk cd_Ce_belongsHere 10 rfl) (by assumption) (by decide) rfl (by omega) hrd ?_
    exact v_zretB (dk cd_Ce_belongsHere 11 rfl) rfl (rt_of (by simp [belongs, hva, hs, hil]))
theorem Inv.spare (I : Inv F S ad A) {i : Nat} {c : CeS} (hc : (sCells S)[i]? = some c) : ∃ gb, A.1 (ad (if c.2.1.2 then 15 else 16) i) = some (107, gb) ∧ gb.length = 12 := by
  cases hf : c.2.1.2 with
  | true =>
    obtain ⟨x, h1, gb, h2, h3⟩ := I.cell (κ := 15) (by omega) (by omega) hc
    rw [hf] at h2 h3
    exact ⟨gb, by simpa [h2] using h1, by simpa using h3⟩
  | false =>
    obtain ⟨x, h1, gb, h2, h3⟩ := I.cell (κ := 16) (by omega) (by omega) hc
    rw [hf] at h2 h3
    exact ⟨gb, by simpa [h2] using h1, by simpa using h3⟩
/-- writing the spare row changes no state -/
theorem Inv.wrSpare (I : Inv F S ad A) {i : Nat} {c : CeS} (hc : (sCells S)[i]? = some c) {gb : List Value} (hl : gb.length = 12) : Inv F S ad (aset A (ad (if c.2.1.2 then 15 else 16) i) (107, gb)) := by
  have hi := (List.getElem?_eq_some_iff.mp hc).1
  have hk : ∃ k0, k0 = (if c.2.1.2 then 15 else 16) := ⟨_, rfl⟩
  obtain ⟨k0, hk0⟩ := hk
  rw [← hk0]
  have hk1 : k0 = 15 ∨ k0 = 16 := by rw [hk0]; split <;> simp
  have h9 := Inv.updCell (c' := c) I hi (A' := aset A (ad k0 i) (107, gb)) rfl (fun q hq => aset_ne _ _ (hq k0 (by omega) (by omega))) (fun κ h1 h2 => ?_)
  · rw [setCe_id hc] at h9; exact h9
  by_cases hk : κ = k0
  · subst hk
    refine ⟨_, aset_same _ _ _, ?_⟩
    unfold CCell
    cases hf : c.2.1.2 with
    | true => rw [hf] at hk0; simp at hk0; subst hk0; exact ⟨gb, by simp [hf], by simpa [hf] using hl⟩
    | false => rw [hf] at hk0; simp at hk0; subst hk0; exact ⟨gb, by simp [hf], by simpa [hf] using hl⟩
  · obtain ⟨x, h3, h4⟩ := I.cell h1 h2 hc
    refine ⟨x, ?_, h4⟩
    rw [aset_ne _ _ (I.ne (LV_cell h1 h2 hi) (LV_cell (by omega) (by omega) hi) (Or.inl hk))]
    exact h3
theorem spNe (I : Inv F S ad A) {i : Nat} {c : CeS} (hi : i < (sCells S).length) : ad 14 i ≠ (ad (if c.2.1.2 then 15 else 16) i) := by
  split
  · exact I.ne (LV_cell (by omega) (by omega) hi) (LV_cell (by omega) (by omega) hi) (Or.inl (by omega))
  · exact I.ne (LV_cell (by omega) (by omega) hi) (LV_cell (by omega) (by omega) hi) (Or.inl (by omega))
set_option maxRecDepth 100000 in
set_option maxHeartbeats 4000000 in
theorem Ce_makeListAnew_lp {i : Nat} {c : CeS} {clk : Int32} {A0 : AH} (Wf : Wf S) (WV : WfV S) (hc : (sCells S)[i]? = some c) (hb : ∀ v ∈ c.2.2.1, v < (sVers S).length) : ∀ w, ∀ (A : AH) (gb : List Value), w ≤ (sOrd S).length ∧ Inv F S ad A ∧ A.2 = A0.2 ∧ A.1 (ad (if c.2.1.2 then 15 else 16) i) = some (107, (((((sOrd S).take w).map (nwI S)).filter (keepL S i c clk)).map fun v => Value.ref (ad 21 v)) ++ gb) ∧ ((((sOrd S).take w).map (nwI S)).filter (keepL S i c clk)).length + gb.length = 12 →
    V (gg u) (d + 2) mm_Ce_makeListAnew 6 [some (.ref (ad 14 i)), some (.ref (ad 2 0)), some (.int (nI (sWarn S).length)), some (.int clk), some (.int (nI ((((sOrd S).take w).map (nwI S)).filter (keepL S i c clk)).length)), some (.int (nI w)), none] [] A (Ps none F (setCe S i (cLs c (mkList S i c clk) (!c.2.1.2))) ad A0) := by
  refine up_ind (sWarn S).length ?_
  intro w ih A gb ⟨hw, I, hA, hsp, hln⟩
  have hi := (List.getElem?_eq_some_iff.mp hc).1
  have h14 := I.cob hc
  obtain ⟨x2, h2, g2, e2, l2⟩ := I.top (κ := 2) (by omega)
  subst e2
  have w1 := Wf.1
  have w12 := Wf.2.1
  have hcl : ((((sOrd S).take w).map (nwI S)).filter (keepL S i c clk)).length ≤ w := Nat.le_trans (List.length_filter_le _ _) (by simp; omega)
  have nn := spNe (c := c) I hi
  refine v_iload (dk cd_Ce_makeListAnew 4 rfl) rfl ?_
  refine v_iload_n (dk cd_Ce_makeListAnew 5 rfl) rfl ?_
  refine v_icmp_geN (tgt := 57) (dk cd_Ce_makeListAnew 6 rfl) rfl (by omega) (by omega) (fun q9 => ?_) (fun q9 => ?_)
  · have hwe : w = (sOrd S).length := by omega
    subst hwe
    rw [List.take_length] at hsp hln hcl ⊢
    refine v_aload_n (dk cd_Ce_makeListAnew 28 rfl) rfl ?_
    refine v_getf (dk cd_Ce_makeListAnew 29 rfl) fg_Ce_30_Ce (by repeat first | assumption | exact aset_same _ _ _ | refine (aset_ne _ _ (by first | assumption | exact Ne.symm (by assumption))).trans ?_) (by rfl) ?_
    refine v_astore (dk cd_Ce_makeListAnew 30 rfl) (by decide) rfl ?_
    refine v_aload_n (dk cd_Ce_makeListAnew 31 rfl) rfl ?_
    refine v_aload_n (dk cd_Ce_makeListAnew 32 rfl) rfl ?_
    refine v_getf (dk cd_Ce_makeListAnew 33 rfl) fg_Ce_37_Ce (by repeat first | assumption | exact aset_same _ _ _ | refine (aset_ne _ _ (by first | assumption | exact Ne.symm (by assumption))).trans ?_) (by rfl) ?_
    refine v_putf (dk cd_Ce_makeListAnew 34 rfl) fp_Ce_30_Ce (fun h => by cases h) (by repeat first | assumption | exact aset_same _ _ _ | refine (aset_ne _ _ (by first | assumption | exact Ne.symm (by assumption))).trans ?_) rfl rfl ?_
    refine v_aload_n (dk cd_Ce_makeListAnew 35 rfl) rfl ?_
    refine v_aload (dk cd_Ce_makeListAnew 36 rfl) rfl ?_
    refine v_putf (dk cd_Ce_makeListAnew 37 rfl) fp_Ce_37_Ce (fun h => by cases h) (by repeat first | assumption | exact aset_same _ _ _ | refine (aset_ne _ _ (by first | assumption | exact Ne.symm (by assumption))).trans ?_) rfl rfl ?_
    refine v_aload_n (dk cd_Ce_makeListAnew 38 rfl) rfl ?_
    refine v_iload (dk cd_Ce_makeListAnew 39 rfl) rfl ?_
    refine v_putf (dk cd_Ce_makeListAnew 40 rfl) fp_Ce_34_Ce (fun h => by cases h) (by repeat first | assumption | exact aset_same _ _ _ | refine (aset_ne _ _ (by first | assumption | exact Ne.symm (by assumption))).trans ?_) rfl rfl ?_
    refine v_vret (dk cd_Ce_makeListAnew 41 rfl) rfl (ps_of ?_ hA rfl)
    rw [aset_aset, aset_aset]
    have hx : ∀ κ x9, 14 ≤ κ → κ < 20 → κ ≠ 14 → (aset A (ad 14 i) x9).1 (ad κ i) = A.1 (ad κ i) := fun κ x9 h1 h2 h3 => aset_ne _ _ (I.ne (LV_cell h1 h2 hi) (LV_cell (by omega) (by omega) hi) (Or.inl h3))
    refine I.updCell hi rfl (fun q hq => aset_ne _ _ (hq 14 (by omega) (by omega))) (fun κ h1 h2 => ?_)
    by_cases k14 : κ = 14
    · subst k14
      refine ⟨_, aset_same _ _ _, ?_⟩
      cases hf : c.2.1.2 <;> simp [CCell, cLs, mkList, hf]
    obtain ⟨x, h3, h4⟩ := I.cell h1 h2 hc
    cases hf : c.2.1.2 with
    | true =>
      simp only [hf, if_true] at hsp
      have hk : κ = 15 ∨ κ = 16 ∨ κ = 17 ∨ κ = 18 ∨ κ = 19 := by omega
      rcases hk with rfl | rfl | rfl | rfl | rfl
      · exact ⟨_, (hx 15 _ (by omega) (by omega) (by omega)).trans hsp, gb, by simp [cLs, mkList], by simpa [cLs, mkList] using hln⟩
      · exact ⟨x, (hx 16 _ (by omega) (by omega) (by omega)).trans h3, by simpa [CCell, cLs] using ArG.less h4⟩
      · exact ⟨x, (hx 17 _ (by omega) (by omega) (by omega)).trans h3, h4⟩
      · exact ⟨x, (hx 18 _ (by omega) (by omega) (by omega)).trans h3, h4⟩
      · exact ⟨x, (hx 19 _ (by omega) (by omega) (by omega)).trans h3, h4⟩
    | false =>
      simp only [hf] at hsp
      have hk : κ = 15 ∨ κ = 16 ∨ κ = 17 ∨ κ = 18 ∨ κ = 19 := by omega
      rcases hk with rfl | rfl | rfl | rfl | rfl
      · exact ⟨x, (hx 15 _ (by omega) (by omega) (by omega)).trans h3, by simpa [CCell, cLs] using ArG.less h4⟩
      · exact ⟨_, (hx 16 _ (by omega) (by omega) (by omega)).trans hsp, gb, by simp [cLs, mkList], by simpa [cLs, mkList] using hln⟩
      · exact ⟨x, (hx 17 _ (by omega) (by omega) (by omega)).trans h3, h4⟩
      · exact ⟨x, (hx 18 _ (by omega) (by omega) (by omega)).trans h3, h4⟩
      · exact ⟨x, (hx 19 _ (by omega) (by omega) (by omega)).trans h3, h4⟩
  · have hwo : w < (sOrd S).length := by omega
    have hwn : (sOrd S)[w] < (sWarn S).length := Wf.2.2.2.2.2.1 _ (List.getElem_mem hwo)
    obtain ⟨hwob, hve⟩ := I.wn Wf hwn
    obtain ⟨vl, hv⟩ := I.verV hve
    have htk : (sOrd S).take (w + 1) = (sOrd S).take w ++ [(sOrd S)[w]] := by rw [List.take_add_one, List.getElem?_eq_getElem hwo]; rfl
    have hkp : keepL S i c clk (nwI S (sOrd S)[w]) = (!decide ((nwV S (sOrd S)[w]).2.1.2.2 ≤ clk) && belongs S i c (nwI S (sOrd S)[w])) := rfl
    refine v_aload_n (dk cd_Ce_makeListAnew 7 rfl) rfl ?_
    refine v_iload (dk cd_Ce_makeListAnew 8 rfl) rfl ?_
    refine v_aaldN (j := 5) (dk cd_Ce_makeListAnew 9 rfl) (by repeat first | assumption | exact aset_same _ _ _ | refine (aset_ne _ _ (by first | assumption | exact Ne.symm (by assumption))).trans ?_) (by decide) rfl rfl (by omega) (map_app hwo) ?_
    refine v_getf (dk cd_Ce_makeListAnew 10 rfl) fg_Ce_53_Wa (by repeat first | assumption | exact aset_same _ _ _ | refine (aset_ne _ _ (by first | assumption | exact Ne.symm (by assumption))).trans ?_) (by rfl) ?_
    refine v_astore (dk cd_Ce_makeListAnew 11 rfl) (by decide) rfl ?_
    refine v_aload (dk cd_Ce_makeListAnew 12 rfl) rfl ?_
    refine v_getf (dk cd_Ce_makeListAnew 13 rfl) (fgV fg_Ce_59_Sp fg_Ce_59_Ca _) (by repeat first | assumption | exact aset_same _ _ _ | refine (aset_ne _ _ (by first | assumption | exact Ne.symm (by assumption))).trans ?_) (by rfl) ?_
    refine v_iload_n (dk cd_Ce_makeListAnew 14 rfl) rfl ?_
    refine v_icmp_le (tgt := 51) (dk cd_Ce_makeListAnew 15 rfl) rfl (fun q27 => ?_) (fun q27 => ?_)
    · refine v_iincN (dk cd_Ce_makeListAnew 26 rfl) rfl (by decide) rfl ?_
      refine v_goto (tgt := 6) (dk cd_Ce_makeListAnew 27 rfl) rfl ?_
      have hkf : keepL S i c clk (nwI S (sOrd S)[w]) = false := by rw [hkp]; first | (rw [decide_eq_true q27]; rfl) | (rw [q36, Bool.and_false])
      have hfe : ((((sOrd S).take (w + 1)).map (nwI S)).filter (keepL S i c clk)) = ((((sOrd S).take w).map (nwI S)).filter (keepL S i c clk)) := by rw [htk, List.map_append, List.filter_append]; simp [hkf]
      refine V.drop 6 ?_
      have h9 := ih q9 A gb ⟨by omega, I, hA, by rw [hfe]; exact hsp, by rw [hfe]; exact hln⟩
      rw [hfe] at h9
      exact h9
    · refine v_aload_n (dk cd_Ce_makeListAnew 16 rfl) rfl ?_
      refine v_aload (dk cd_Ce_makeListAnew 17 rfl) rfl ?_
      refine v_rv (r := ("AreaWarnings$Cell", TT_Ce, 12)) (dk cd_Ce_makeListAnew 18 rfl) cv_Ce_62 rfl (by repeat first | assumption | exact aset_same _ _ _ | refine (aset_ne _ _ (by first | assumption | exact Ne.symm (by assumption))).trans ?_) (as := [_]) rfl rfl (Nat.le_of_ble_eq_true rfl) (by simp [Value.category]) (Ce_belongsHere_ok I Wf WV hc hb hve) ?_
      refine v_ifeqB (tgt := 51) (dk cd_Ce_makeListAnew 19 rfl) rfl (fun q36 => ?_) (fun q36 => ?_)
      · refine v_iincN (dk cd_Ce_makeListAnew 26 rfl) rfl (by decide) rfl ?_
        refine v_goto (tgt := 6) (dk cd_Ce_makeListAnew 27 rfl) rfl ?_
        have hkf : keepL S i c clk (nwI S (sOrd S)[w]) = false := by rw [hkp]; first | (rw [decide_eq_true q27]; rfl) | (rw [q36, Bool.and_false])
        have hfe : ((((sOrd S).take (w + 1)).map (nwI S)).filter (keepL S i c clk)) = ((((sOrd S).take w).map (nwI S)).filter (keepL S i c clk)) := by rw [htk, List.map_append, List.filter_append]; simp [hkf]
        refine V.drop 6 ?_
        have h9 := ih q9 A gb ⟨by omega, I, hA, by rw [hfe]; exact hsp, by rw [hfe]; exact hln⟩
        rw [hfe] at h9
        exact h9
      · refine v_aload_n (dk cd_Ce_makeListAnew 20 rfl) rfl ?_
        refine v_getf (dk cd_Ce_makeListAnew 21 rfl) fg_Ce_37_Ce (by repeat first | assumption | exact aset_same _ _ _ | refine (aset_ne _ _ (by first | assumption | exact Ne.symm (by assumption))).trans ?_) (by rfl) ?_
        refine v_iload (dk cd_Ce_makeListAnew 22 rfl) rfl ?_
        refine v_aload (dk cd_Ce_makeListAnew 23 rfl) rfl ?_
        refine v_aastN (dk cd_Ce_makeListAnew 24 rfl) asV (by repeat first | assumption | exact aset_same _ _ _ | refine (aset_ne _ _ (by first | assumption | exact Ne.symm (by assumption))).trans ?_) (by repeat first | assumption | exact aset_same _ _ _ | refine (aset_ne _ _ (by first | assumption | exact Ne.symm (by assumption))).trans ?_) (by omega) (by rw [List.length_append, List.length_map]; omega) ?_
        refine v_iincN (dk cd_Ce_makeListAnew 25 rfl) rfl (by decide) rfl ?_
        refine v_iincN (dk cd_Ce_makeListAnew 26 rfl) rfl (by decide) rfl ?_
        refine v_goto (tgt := 6) (dk cd_Ce_makeListAnew 27 rfl) rfl ?_
        have hkt : keepL S i c clk (nwI S (sOrd S)[w]) = true := by rw [hkp, q36, decide_eq_false q27]; rfl
        have hfe : ((((sOrd S).take (w + 1)).map (nwI S)).filter (keepL S i c clk)) = ((((sOrd S).take w).map (nwI S)).filter (keepL S i c clk)) ++ [nwI S (sOrd S)[w]] := by rw [htk, List.map_append, List.filter_append]; simp [hkt]
        obtain ⟨g0, gr, rfl⟩ : ∃ g0 gr, gb = g0 :: gr := by
          cases gb with
          | nil => rw [List.length_nil] at hln; omega
          | cons a b => exact ⟨a, b, rfl⟩
        have hln2 : ((((sOrd S).take w).map (nwI S)).filter (keepL S i c clk)).length + (gr.length + 1) = 12 := hln
        have hset : ((((((sOrd S).take w).map (nwI S)).filter (keepL S i c clk)).map fun v => Value.ref (ad 21 v)) ++ g0 :: gr).set ((((sOrd S).take w).map (nwI S)).filter (keepL S i c clk)).length (.ref (ad 21 (nwI S (sOrd S)[w]))) = ((((((sOrd S).take w).map (nwI S)).filter (keepL S i c clk)) ++ [nwI S (sOrd S)[w]]).map fun v => Value.ref (ad 21 v)) ++ gr := by rw [List.set_append_right _ _ (by simp)]; simp
        have I9 := I.wrSpare hc (gb := ((((((sOrd S).take w).map (nwI S)).filter (keepL S i c clk)) ++ [nwI S (sOrd S)[w]]).map fun v => Value.ref (ad 21 v)) ++ gr) (by rw [List.length_append, List.length_map, List.length_append, List.length_singleton]; omega)
        refine V.drop 6 ?_
        have h9 := ih q9 _ gr ⟨by omega, I9, hA, by rw [hfe, aset_same], by rw [hfe, List.length_append, List.length_singleton]; omega⟩
        rw [hfe, List.length_append, ← hset] at h9
        exact h9
set_option maxRecDepth 100000 in
set_option maxHeartbeats 4000000 in
theorem Ce_makeListAnew_ok {i : Nat} {c : CeS} {clk : Int32} (I : Inv F S ad A) (Wf : Wf S) (WV : WfV S) (hc : (sCells S)[i]? = some c) (hb : ∀ v ∈ c.2.2.1, v < (sVers S).length) : V (gg u) (d + 2) mm_Ce_makeListAnew 0 [some (.ref (ad 14 i)), some (.ref (ad 2 0)), some (.int (nI (sWarn S).length)), some (.int clk), none, none, none] [] A (Ps none F (setCe S i (cLs c (mkList S i c clk) (!c.2.1.2))) ad A) := by
  obtain ⟨gb, hsp, hl⟩ := I.spare hc
  refine v_iconst (v := nI 0) (dk cd_Ce_makeListAnew 0 rfl) (by decide) ?_
  refine v_istore (dk cd_Ce_makeListAnew 1 rfl) (by decide) rfl ?_
  refine v_iconst (v := nI 0) (dk cd_Ce_makeListAnew 2 rfl) (by decide) ?_
  refine v_istore (dk cd_Ce_makeListAnew 3 rfl) (by decide) rfl ?_
  exact Ce_makeListAnew_lp Wf WV hc hb 0 A gb ⟨by omega, I, rfl, by simpa using hsp, by simpa using hl⟩
end LI
