/-! a cell sends: pages of a version, of a list -/
def cPg (c : CeS) (l : List (Nat × Int32 × Int32)) : CeS := (c.1, c.2.1, c.2.2.1, l)
def pgTo (v l : Nat) : Nat → List (Nat × Int32 × Int32)
  | 0 => []
  | q + 1 => pgTo v l q ++ [(v, nI l, nI q)]
def txTo (v : Nat) (t : Tx) : Nat → List (Nat × Int32 × Int32)
  | 0 => []
  | l + 1 => txTo v t l ++ pgTo v l (pgs (tl t l))
theorem pgTo_len (v l q : Nat) : (pgTo v l q).length = q := by
  induction q with
  | zero => rfl
  | succ q ih => simp [pgTo, ih]
theorem pgs_le {n : Nat} (h : n ≤ 30) : pgs n ≤ 3 := by unfold pgs; omega
theorem txTo_len {v : Nat} {t : Tx} (h : ∀ l, tl t l ≤ 30) (k : Nat) : (txTo v t k).length ≤ 3 * k := by
  induction k with
  | zero => simp [txTo]
  | succ k ih =>
    have := pgs_le (h k)
    simp only [txTo, List.length_append, pgTo_len]
    omega
def vPages (S : SS) (v : Nat) (clk : Int32) : List (Nat × Int32 × Int32) := match (vAt S v).2.2 with
  | none => [(v, 3, 0)]
  | some s => if due clk s.1.1 s.1.2 then txTo v s.2.1.2 3 else []
theorem getCe {S : SS} {i : Nat} {c : CeS} (hi : i < (sCells S).length) : (sCells (setCe S i c))[i]? = some c := List.getElem?_set_self hi
theorem setCe2 (S : SS) (i : Nat) (c c' : CeS) : setCe (setCe S i c) i c' = setCe S i c' := by simp [setCe, sCells]
theorem setCe_id {S : SS} {i : Nat} {c : CeS} (hc : (sCells S)[i]? = some c) : setCe S i c = S := by
  have hi := (List.getElem?_eq_some_iff.mp hc)
  unfold setCe
  rw [← hi.2, List.set_getElem_self]
theorem lenCe (S : SS) (i : Nat) (c : CeS) : (sCells (setCe S i c)).length = (sCells S).length := List.length_set
theorem asV {v : VeS} : AS WS clS taS 7 (vKind v) := by unfold vKind; split; exact as_7_Sp; exact as_7_Ca
section SE
variable {u : Ux} {d : Nat} {A : AH} {F : Nat → Option AC} {S : SS} {ad : Nat → Nat → Nat}
set_option maxRecDepth 100000 in
set_option maxHeartbeats 4000000 in
theorem Ce_sendPage_ok {i v : Nat} {c : CeS} {l n : Int32} {ve : VeS} (I : Inv F S ad A) (hc : (sCells S)[i]? = some c) (hve : (sVers S)[v]? = some ve) (hp : c.2.2.2.length < 108) : V (gg u) d mm_Ce_sendPage 0 [some (.ref (ad 14 i)), some (.ref (ad 21 v)), some (.int l), some (.int n)] [] A (Ps none F (setCe S i (cPg c (c.2.2.2 ++ [(v, l, n)]))) ad A) := by
  have hi := (List.getElem?_eq_some_iff.mp hc).1
  have h14 := I.cob hc
  obtain ⟨vl, hv⟩ := I.verV hve
  obtain ⟨x17, h17, g17, e17, l17⟩ := I.cell (κ := 17) (by omega) (by omega) hc
  obtain ⟨x18, h18, g18, e18, l18⟩ := I.cell (κ := 18) (by omega) (by omega) hc
  obtain ⟨x19, h19, g19, e19, l19⟩ := I.cell (κ := 19) (by omega) (by omega) hc
  subst e17 e18 e19
  simp only [List.length_map] at l17 l18 l19
  have n1 := I.ne (LV_cell (S := S) (κ := 14) (by omega) (by omega) hi) (LV_cell (κ := 17) (by omega) (by omega) hi) (Or.inl (by omega))
  have n2 := I.ne (LV_cell (S := S) (κ := 14) (by omega) (by omega) hi) (LV_cell (κ := 18) (by omega) (by omega) hi) (Or.inl (by omega))
  have n3 := I.ne (LV_cell (S := S) (κ := 14) (by omega) (by omega) hi) (LV_cell (κ := 19) (by omega) (by omega) hi) (Or.inl (by omega))
  have n4 := I.ne (LV_cell (S := S) (κ := 17) (by omega) (by omega) hi) (LV_cell (κ := 18) (by omega) (by omega) hi) (Or.inl (by omega))
  have n5 := I.ne (LV_cell (S := S) (κ := 17) (by omega) (by omega) hi) (LV_cell (κ := 19) (by omega) (by omega) hi) (Or.inl (by omega))
  have n6 := I.ne (LV_cell (S := S) (κ := 18) (by omega) (by omega) hi) (LV_cell (κ := 19) (by omega) (by omega) hi) (Or.inl (by omega))
  refine v_aload_n (dk cd_Ce_sendPage 0 rfl) rfl ?_
  refine v_getf (dk cd_Ce_sendPage 1 rfl) fg_Ce_40_Ce (by repeat first | assumption | exact aset_same _ _ _ | refine (aset_ne _ _ (by first | assumption | exact Ne.symm (by assumption))).trans ?_) (by rfl) ?_
  refine v_aload_n (dk cd_Ce_sendPage 2 rfl) rfl ?_
  refine v_getf (dk cd_Ce_sendPage 3 rfl) fg_Ce_50_Ce (by repeat first | assumption | exact aset_same _ _ _ | refine (aset_ne _ _ (by first | assumption | exact Ne.symm (by assumption))).trans ?_) (by rfl) ?_
  refine v_aload_n (dk cd_Ce_sendPage 4 rfl) rfl ?_
  refine v_aastN (dk cd_Ce_sendPage 5 rfl) asV (by repeat first | assumption | exact aset_same _ _ _ | refine (aset_ne _ _ (by first | assumption | exact Ne.symm (by assumption))).trans ?_) (by repeat first | assumption | exact aset_same _ _ _ | refine (aset_ne _ _ (by first | assumption | exact Ne.symm (by assumption))).trans ?_) (by omega) (by rw [List.length_append, List.length_map]; omega) ?_
  refine v_aload_n (dk cd_Ce_sendPage 6 rfl) rfl ?_
  refine v_getf (dk cd_Ce_sendPage 7 rfl) fg_Ce_43_Ce (by repeat first | assumption | exact aset_same _ _ _ | refine (aset_ne _ _ (by first | assumption | exact Ne.symm (by assumption))).trans ?_) (by rfl) ?_
  refine v_aload_n (dk cd_Ce_sendPage 8 rfl) rfl ?_
  refine v_getf (dk cd_Ce_sendPage 9 rfl) fg_Ce_50_Ce (by repeat first | assumption | exact aset_same _ _ _ | refine (aset_ne _ _ (by first | assumption | exact Ne.symm (by assumption))).trans ?_) (by rfl) ?_
  refine v_iload_n (dk cd_Ce_sendPage 10 rfl) rfl ?_
  refine v_iastN (j := 0) (dk cd_Ce_sendPage 11 rfl) (by repeat first | assumption | exact aset_same _ _ _ | refine (aset_ne _ _ (by first | assumption | exact Ne.symm (by assumption))).trans ?_) (by decide) rfl (by omega) (by rw [List.length_append, List.length_map]; omega) ?_
  refine v_aload_n (dk cd_Ce_sendPage 12 rfl) rfl ?_
  refine v_getf (dk cd_Ce_sendPage 13 rfl) fg_Ce_47_Ce (by repeat first | assumption | exact aset_same _ _ _ | refine (aset_ne _ _ (by first | assumption | exact Ne.symm (by assumption))).trans ?_) (by rfl) ?_
  refine v_aload_n (dk cd_Ce_sendPage 14 rfl) rfl ?_
  refine v_getf (dk cd_Ce_sendPage 15 rfl) fg_Ce_50_Ce (by repeat first | assumption | exact aset_same _ _ _ | refine (aset_ne _ _ (by first | assumption | exact Ne.symm (by assumption))).trans ?_) (by rfl) ?_
  refine v_iload_n (dk cd_Ce_sendPage 16 rfl) rfl ?_
  refine v_iastN (j := 0) (dk cd_Ce_sendPage 17 rfl) (by repeat first | assumption | exact aset_same _ _ _ | refine (aset_ne _ _ (by first | assumption | exact Ne.symm (by assumption))).trans ?_) (by decide) rfl (by omega) (by rw [List.length_append, List.length_map]; omega) ?_
  refine v_aload_n (dk cd_Ce_sendPage 18 rfl) rfl ?_
  refine v_dup (dk cd_Ce_sendPage 19 rfl) rfl ?_
  refine v_getf (dk cd_Ce_sendPage 20 rfl) fg_Ce_50_Ce (by repeat first | assumption | exact aset_same _ _ _ | refine (aset_ne _ _ (by first | assumption | exact Ne.symm (by assumption))).trans ?_) (by rfl) ?_
  refine v_iconst (v := nI 1) (dk cd_Ce_sendPage 21 rfl) (by decide) ?_
  refine v_iaddN (dk cd_Ce_sendPage 22 rfl) ?_
  refine v_putf (dk cd_Ce_sendPage 23 rfl) fp_Ce_50_Ce (fun h => by cases h) (by repeat first | assumption | exact aset_same _ _ _ | refine (aset_ne _ _ (by first | assumption | exact Ne.symm (by assumption))).trans ?_) rfl rfl ?_
  refine v_vret (dk cd_Ce_sendPage 24 rfl) rfl (ps_of (I.updCell hi rfl (fun q hq => ?_) (fun κ h1 h2 => ?_)) rfl rfl)
  · rw [aset_ne _ _ (hq 14 (by omega) (by omega)), aset_ne _ _ (hq 19 (by omega) (by omega)), aset_ne _ _ (hq 18 (by omega) (by omega)), aset_ne _ _ (hq 17 (by omega) (by omega))]
  · have hk : κ = 14 ∨ κ = 15 ∨ κ = 16 ∨ κ = 17 ∨ κ = 18 ∨ κ = 19 := by omega
    rcases hk with rfl | rfl | rfl | rfl | rfl | rfl
    · exact ⟨_, aset_same _ _ _, by simp [CCell, cPg]; exact ⟨rfl, rfl⟩⟩
    · obtain ⟨xx, hh1, hh2⟩ := I.cell (κ := 15) (by omega) (by omega) hc
      refine ⟨xx, ?_, hh2⟩
      rw [aset_ne _ _ (I.ne (LV_cell (S := S) (κ := 15) (by omega) (by omega) hi) (LV_cell (κ := 14) (by omega) (by omega) hi) (Or.inl (by omega))), aset_ne _ _ (I.ne (LV_cell (S := S) (κ := 15) (by omega) (by omega) hi) (LV_cell (κ := 19) (by omega) (by omega) hi) (Or.inl (by omega))), aset_ne _ _ (I.ne (LV_cell (S := S) (κ := 15) (by omega) (by omega) hi) (LV_cell (κ := 18) (by omega) (by omega) hi) (Or.inl (by omega))), aset_ne _ _ (I.ne (LV_cell (S := S) (κ := 15) (by omega) (by omega) hi) (LV_cell (κ := 17) (by omega) (by omega) hi) (Or.inl (by omega)))]
      exact hh1
    · obtain ⟨xx, hh1, hh2⟩ := I.cell (κ := 16) (by omega) (by omega) hc
      refine ⟨xx, ?_, hh2⟩
      rw [aset_ne _ _ (I.ne (LV_cell (S := S) (κ := 16) (by omega) (by omega) hi) (LV_cell (κ := 14) (by omega) (by omega) hi) (Or.inl (by omega))), aset_ne _ _ (I.ne (LV_cell (S := S) (κ := 16) (by omega) (by omega) hi) (LV_cell (κ := 19) (by omega) (by omega) hi) (Or.inl (by omega))), aset_ne _ _ (I.ne (LV_cell (S := S) (κ := 16) (by omega) (by omega) hi) (LV_cell (κ := 18) (by omega) (by omega) hi) (Or.inl (by omega))), aset_ne _ _ (I.ne (LV_cell (S := S) (κ := 16) (by omega) (by omega) hi) (LV_cell (κ := 17) (by omega) (by omega) hi) (Or.inl (by omega)))]
      exact hh1
    · refine ⟨_, (aset_ne _ _ (Ne.symm n1)).trans ((aset_ne _ _ n5).trans ((aset_ne _ _ n4).trans (aset_same _ _ _))), ?_⟩
      have h9 := ArG.app (k := 107) (v := .ref (ad 21 v)) (show (c.2.2.2.map fun q => Value.ref (ad 21 q.1)).length + g17.length = 108 by simpa using l17) (by simpa using hp)
      simpa [CCell, cPg] using h9
    · refine ⟨_, (aset_ne _ _ (Ne.symm n2)).trans ((aset_ne _ _ n6).trans (aset_same _ _ _)), ?_⟩
      have h9 := ArG.app (k := 100) (v := .int l) (show (c.2.2.2.map fun q => Value.int q.2.1).length + g18.length = 108 by simpa using l18) (by simpa using hp)
      simpa [CCell, cPg] using h9
    · refine ⟨_, (aset_ne _ _ (Ne.symm n3)).trans (aset_same _ _ _), ?_⟩
      have h9 := ArG.app (k := 100) (v := .int n) (show (c.2.2.2.map fun q => Value.int q.2.2).length + g19.length = 108 by simpa using l19) (by simpa using hp)
      simpa [CCell, cPg] using h9
set_option maxRecDepth 100000 in
set_option maxHeartbeats 4000000 in
theorem Ce_sendTexts_in {i v : Nat} {c : CeS} {ve : VeS} {s : SpS} {A0 : AH} (hi : i < (sCells S).length) (h40 : (sVers S).length ≤ 40) (hve : (sVers S)[v]? = some ve) (hs : ve.2.2 = some s) (w3 : s.2.1.2.length = 3) (w30 : ∀ l, tl s.2.1.2 l ≤ 30) (hp : c.2.2.2.length + 9 ≤ 108) {l : Nat} (hl : l < 3) (kont : ∀ A : AH, Inv F (setCe S i (cPg c (c.2.2.2 ++ txTo v s.2.1.2 (l + 1)))) ad A ∧ A.2 = A0.2 → V (gg u) (d + 1) mm_Ce_sendTexts 39 [some (.ref (ad 14 i)), some (.ref (ad 21 v)), some (.int (nI l)), none, none] [] A (Ps none F (setCe S i (cPg c (c.2.2.2 ++ txTo v s.2.1.2 3))) ad A0)) : ∀ q, ∀ A : AH, q ≤ pgs (tl s.2.1.2 l) ∧ Inv F (setCe S i (cPg c (c.2.2.2 ++ (txTo v s.2.1.2 l ++ pgTo v l q)))) ad A ∧ A.2 = A0.2 → V (gg u) (d + 1) mm_Ce_sendTexts 19 [some (.ref (ad 14 i)), some (.ref (ad 21 v)), some (.int (nI l)), some (.int (nI (pgs (tl s.2.1.2 l)))), some (.int (nI q))] [] A (Ps none F (setCe S i (cPg c (c.2.2.2 ++ txTo v s.2.1.2 3))) ad A0) := by
  refine up_ind (pgs (tl s.2.1.2 l)) ?_
  intro q ih A ⟨hq, I, hA⟩
  have hb := pgs_le (w30 l)
  have ht := txTo_len (v := v) w30 l
  have hcc := getCe (c := cPg c (c.2.2.2 ++ (txTo v s.2.1.2 l ++ pgTo v l q))) hi
  have h14 := I.cob hcc
  refine v_iload (dk cd_Ce_sendTexts 12 rfl) rfl ?_
  refine v_iload_n (dk cd_Ce_sendTexts 13 rfl) rfl ?_
  refine v_icmp_geN (tgt := 39) (dk cd_Ce_sendTexts 14 rfl) rfl (by omega) (by omega) (fun q22 => ?_) (fun q22 => ?_)
  · have hqe : q = pgs (tl s.2.1.2 l) := by omega
    subst hqe
    exact V.drop 3 (V.drop 4 (kont A ⟨I, hA⟩))
  · refine v_aload_n (dk cd_Ce_sendTexts 15 rfl) rfl ?_
    refine v_aload_n (dk cd_Ce_sendTexts 16 rfl) rfl ?_
    refine v_iload_n (dk cd_Ce_sendTexts 17 rfl) rfl ?_
    refine v_iload (dk cd_Ce_sendTexts 18 rfl) rfl ?_
    refine v_callv (r := ("AreaWarnings$Cell", TT_Ce, 12)) (dk cd_Ce_sendTexts 19 rfl) cv_Ce_95 rfl (by assumption) (as := [_, _, _]) rfl rfl (Nat.le_of_ble_eq_true rfl) (by simp [Value.category]) (Ce_sendPage_ok (v := v) (ve := ve) I hcc hve (by simp only [cPg, List.length_append, pgTo_len]; omega)) ps_no (fun v9 A9 hq => ?_)
    obtain ⟨e9, I, hA2⟩ := hq
    cases e9
    rw [setCe2] at I
    refine v_iincN (dk cd_Ce_sendTexts 20 rfl) rfl (by decide) rfl ?_
    refine v_goto (tgt := 19) (dk cd_Ce_sendTexts 21 rfl) rfl ?_
    exact ih q22 _ ⟨by omega, by simpa [cPg, pgTo] using I, hA2.trans hA⟩
set_option maxRecDepth 100000 in
set_option maxHeartbeats 4000000 in
theorem Ce_sendTexts_lp {i v : Nat} {c : CeS} {ve : VeS} {s : SpS} {A0 : AH} (hi : i < (sCells S).length) (h40 : (sVers S).length ≤ 40) (hve : (sVers S)[v]? = some ve) (hs : ve.2.2 = some s) (w3 : s.2.1.2.length = 3) (w30 : ∀ l, tl s.2.1.2 l ≤ 30) (hp : c.2.2.2.length + 9 ≤ 108) : ∀ l, ∀ A : AH, l ≤ 3 ∧ Inv F (setCe S i (cPg c (c.2.2.2 ++ txTo v s.2.1.2 l))) ad A ∧ A.2 = A0.2 → V (gg u) (d + 1) mm_Ce_sendTexts 2 [some (.ref (ad 14 i)), some (.ref (ad 21 v)), some (.int (nI l)), none, none] [] A (Ps none F (setCe S i (cPg c (c.2.2.2 ++ txTo v s.2.1.2 3))) ad A0) := by
  refine up_ind 3 ?_
  intro l ih A ⟨hl, I, hA⟩
  have hv := I.verS (S := setCe S i (cPg c (c.2.2.2 ++ txTo v s.2.1.2 l))) hve hs
  have HT := I.teAt (S := setCe S i (cPg c (c.2.2.2 ++ txTo v s.2.1.2 l))) (msg_ver (S := setCe S i (cPg c (c.2.2.2 ++ txTo v s.2.1.2 l))) h40 hve hs) w3 w30
  have HT0 := HT
  obtain ⟨-, -, ba, la, k8, k13⟩ := HT
  refine v_iload_n (dk cd_Ce_sendTexts 2 rfl) rfl ?_
  refine v_iconst (v := nI 3) (dk cd_Ce_sendTexts 3 rfl) (by decide) ?_
  refine v_icmp_geN (tgt := 45) (dk cd_Ce_sendTexts 4 rfl) rfl (by omega) (by omega) (fun q4 => ?_) (fun q4 => ?_)
  · have hle : l = 3 := by omega
    subst hle
    exact v_vret (dk cd_Ce_sendTexts 24 rfl) rfl (ps_of I hA rfl)
  · refine v_aload_n (dk cd_Ce_sendTexts 5 rfl) rfl ?_
    refine v_getf (dk cd_Ce_sendTexts 6 rfl) fg_Ce_99_Sp (by assumption) (by rfl) ?_
    refine v_iload_n (dk cd_Ce_sendTexts 7 rfl) rfl ?_
    refine v_rv (r := ("AreaWarnings$Texts", TT_Te, 2)) (dk cd_Ce_sendTexts 8 rfl) cv_Ce_103 rfl (by assumption) (as := [_]) rfl rfl (Nat.le_of_ble_eq_true rfl) (by simp [Value.category]) (Te_pagesOf_ok HT0 (by omega)) ?_
    refine v_istore_n (dk cd_Ce_sendTexts 9 rfl) (by decide) rfl ?_
    refine v_iconst (v := nI 0) (dk cd_Ce_sendTexts 10 rfl) (by decide) ?_
    refine v_istore (dk cd_Ce_sendTexts 11 rfl) (by decide) rfl ?_
    refine Ce_sendTexts_in hi h40 hve hs w3 w30 hp q4 (fun A1 ⟨I1, hA1⟩ => ?_) 0 A ⟨by omega, by simpa [pgTo] using I, hA⟩
    refine v_iincN (dk cd_Ce_sendTexts 22 rfl) rfl (by decide) rfl ?_
    refine v_goto (tgt := 2) (dk cd_Ce_sendTexts 23 rfl) rfl ?_
    exact ih q4 A1 ⟨by omega, I1, hA1⟩
set_option maxRecDepth 100000 in
set_option maxHeartbeats 4000000 in
theorem Ce_sendTexts_ok {i v : Nat} {c : CeS} {ve : VeS} {s : SpS} (hi : i < (sCells S).length) (h40 : (sVers S).length ≤ 40) (hve : (sVers S)[v]? = some ve) (hs : ve.2.2 = some s) (w3 : s.2.1.2.length = 3) (w30 : ∀ l, tl s.2.1.2 l ≤ 30) (hp : c.2.2.2.length + 9 ≤ 108) (I : Inv F S ad A) (hc : (sCells S)[i]? = some c) : V (gg u) (d + 1) mm_Ce_sendTexts 0 [some (.ref (ad 14 i)), some (.ref (ad 21 v)), none, none, none] [] A (Ps none F (setCe S i (cPg c (c.2.2.2 ++ txTo v s.2.1.2 3))) ad A) := by
  refine v_iconst (v := nI 0) (dk cd_Ce_sendTexts 0 rfl) (by decide) ?_
  refine v_istore_n (dk cd_Ce_sendTexts 1 rfl) (by decide) rfl ?_
  exact Ce_sendTexts_lp hi h40 hve hs w3 w30 hp 0 A ⟨by omega, by rw [show setCe S i (cPg c (c.2.2.2 ++ txTo v s.2.1.2 0)) = S by rw [txTo, List.append_nil]; exact setCe_id hc]; exact I, rfl⟩
set_option maxRecDepth 100000 in
set_option maxHeartbeats 4000000 in
theorem Ce_sendVersion_ok {i v : Nat} {c : CeS} {ve : VeS} {clk : Int32} (I : Inv F S ad A) (hc : (sCells S)[i]? = some c) (h40 : (sVers S).length ≤ 40) (WV : WfV S) (hve : (sVers S)[v]? = some ve) (hp : c.2.2.2.length + 9 ≤ 108) : V (gg u) (d + 2) mm_Ce_sendVersion 0 [some (.ref (ad 14 i)), some (.ref (ad 21 v)), some (.int clk), none] [] A (Ps none F (setCe S i (cPg c (c.2.2.2 ++ vPages S v clk))) ad A) := by
  have hi := (List.getElem?_eq_some_iff.mp hc).1
  have h14 := I.cob hc
  have hva := vAt_of hve
  cases hs : ve.2.2 with
  | none =>
    have hv := I.verC hve hs
    refine v_aload_n (dk cd_Ce_sendVersion 0 rfl) rfl ?_
    refine v_instNo (dk cd_Ce_sendVersion 1 rfl) in_Ce_66_Ca (by assumption) ?_
    refine v_if_eq (tgt := 28) (dk cd_Ce_sendVersion 2 rfl) rfl (fun _ => ?_) (fun q => absurd rfl q)
    refine v_aload_n (dk cd_Ce_sendVersion 14 rfl) rfl ?_
    refine v_aload_n (dk cd_Ce_sendVersion 15 rfl) rfl ?_
    refine v_iconst (v := 3) (dk cd_Ce_sendVersion 16 rfl) (by decide) ?_
    refine v_iconst (v := 0) (dk cd_Ce_sendVersion 17 rfl) (by decide) ?_
    refine v_callv (r := ("AreaWarnings$Cell", TT_Ce, 12)) (dk cd_Ce_sendVersion 18 rfl) cv_Ce_95 rfl (by assumption) (as := [_, _, _]) rfl rfl (Nat.le_of_ble_eq_true rfl) (by simp [Value.category]) (Ce_sendPage_ok (v := v) (ve := ve) I hc hve (by omega)) ps_no (fun v9 A9 hq => ?_)
    obtain ⟨e9, I, hA2⟩ := hq
    cases e9
    exact v_vret (dk cd_Ce_sendVersion 19 rfl) rfl (ps_of (by simpa [vPages, hva, hs] using I) hA2 rfl)
  | some s =>
    have hv := I.verS hve hs
    obtain ⟨-, w3, w30, -, w0⟩ := WV _ _ _ hve hs
    refine v_aload_n (dk cd_Ce_sendVersion 0 rfl) rfl ?_
    refine v_instY (dk cd_Ce_sendVersion 1 rfl) iy_Ce_66_Sp (by assumption) ?_
    refine v_if_eq (tgt := 28) (dk cd_Ce_sendVersion 2 rfl) rfl (fun q => absurd q (by decide)) (fun _ => ?_)
    refine v_aload_n (dk cd_Ce_sendVersion 3 rfl) rfl ?_
    refine v_castY (dk cd_Ce_sendVersion 4 rfl) iy_Ce_66_Sp (by assumption) ?_
    refine v_astore_n (dk cd_Ce_sendVersion 5 rfl) (by decide) rfl ?_
    refine v_aload_n (dk cd_Ce_sendVersion 6 rfl) rfl ?_
    refine v_iload_n (dk cd_Ce_sendVersion 7 rfl) rfl ?_
    refine v_rv (r := ("AreaWarnings$Spoken", TT_Sp, 9)) (dk cd_Ce_sendVersion 8 rfl) cv_Ce_87 rfl (by assumption) (as := [_]) rfl rfl (Nat.le_of_ble_eq_true rfl) (by simp [Value.category]) (Sp_isDue_ok hv w0) ?_
    refine v_ifeqB (tgt := 35) (dk cd_Ce_sendVersion 9 rfl) rfl (fun q17 => ?_) (fun q17 => ?_)
    · exact v_vret (dk cd_Ce_sendVersion 19 rfl) rfl (ps_of (by rw [show setCe S i (cPg c (c.2.2.2 ++ vPages S v clk)) = S by rw [show vPages S v clk = [] by simp [vPages, hva, hs, q17], List.append_nil]; exact setCe_id hc]; exact I) rfl rfl)
    · refine v_aload_n (dk cd_Ce_sendVersion 10 rfl) rfl ?_
      refine v_aload_n (dk cd_Ce_sendVersion 11 rfl) rfl ?_
      refine v_callv (r := ("AreaWarnings$Cell", TT_Ce, 12)) (dk cd_Ce_sendVersion 12 rfl) cv_Ce_91 rfl (by assumption) (as := [_]) rfl rfl (Nat.le_of_ble_eq_true rfl) (by simp [Value.category]) (Ce_sendTexts_ok hi h40 hve hs w3 w30 hp I hc) ps_no (fun v9 A9 hq => ?_)
      obtain ⟨e9, I, hA2⟩ := hq
      cases e9
      refine v_goto (tgt := 35) (dk cd_Ce_sendVersion 13 rfl) rfl ?_
      exact v_vret (dk cd_Ce_sendVersion 19 rfl) rfl (ps_of (by simpa [vPages, hva, hs, q17] using I) hA2 rfl)
end SE
