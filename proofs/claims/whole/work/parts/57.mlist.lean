/-! the model: lists and pages -/
def PR (v : Option Value) (B : AH) (a : Nat) (S' : SS) (t : Int32) : Out → AH → Prop := fun r A' => r = .inl v ∧ ∃ i f, MH B a i f A' ∧ Rel S' t i f
theorem pR_no {v : Option Value} {B : AH} {a : Nat} {S' : SS} {t : Int32} : ∀ z A', ¬ PR v B a S' t (.inr z) A' := fun z A' h => by cases h.1
theorem any_snoc {l : List Nat} {p : Nat → Bool} {k : Nat} (hk : k < l.length) : (l.take (k + 1)).any p = ((l.take k).any p || p (l.getD k 0)) := by
  rw [List.take_add_one, List.any_append, List.getElem?_eq_getElem hk, List.getD_eq_getElem?_getD, List.getElem?_eq_getElem hk]
  simp
theorem filter_snoc {l : List Nat} {p : Nat → Bool} {k : Nat} (hk : k < l.length) : (l.take (k + 1)).filter p = (l.take k).filter p ++ (if p (l.getD k 0) = true then [l.getD k 0] else []) := by
  rw [List.take_add_one, List.filter_append, List.getElem?_eq_getElem hk, List.getD_eq_getElem?_getD, List.getElem?_eq_getElem hk]
  simp [List.filter_cons]
theorem take_snocD {l : List Nat} {k : Nat} (hk : k < l.length) : l.take (k + 1) = l.take k ++ [l.getD k 0] := by
  rw [List.take_add_one, List.getElem?_eq_getElem hk, List.getD_eq_getElem?_getD, List.getElem?_eq_getElem hk]; rfl
theorem getD_in {l : List Nat} {k : Nat} (hk : k < l.length) : l.getD k 0 ∈ l := by
  rw [List.getD_eq_getElem?_getD, List.getElem?_eq_getElem hk]; exact List.getElem_mem hk
section ML
variable {u : Ux} {d : Nat} {A B : AH} {a : Nat} {i : Nat → Int32} {f : Nat → Nat → Int32} {S : SS} {t x : Int32} {c : Nat} {cc : CeS}
set_option maxRecDepth 100000 in
set_option maxHeartbeats 4000000 in
theorem Mo_isListed_lp {w : Nat} (hM : MH B a i f A) (R : Rel S t i f) (K : SOK S) (hc : (sCells S)[c]? = some cc) (hw : w < 12) : ∀ k, k ≤ cc.2.2.1.length → V (gg u) d mm_Mo_isListed 5 [some (.ref a), some (.int (nI c)), some (.int (nI w)), some (.int (b2i ((cc.2.2.1.take k).any (fun v => decide ((vAt S v).1 = w))))), some (.int (nI k))] [] A (Rt (some (.int (b2i (lsts S cc w)))) A) := by
  have w1 := K.wf.2.1
  have w2 := K.wf.2.2.1
  have w3 := K.wf.2.2.2.1
  have w4 := K.wf.2.2.2.2.1
  have hcl := (List.getElem?_eq_some_iff.mp hc).1
  have h12 := (K.wc c cc hc).1
  have hb := (K.wc c cc hc).2.1
  refine up_ind cc.2.2.1.length ?_
  intro k ih hk
  refine v_iload (dk cd_Mo_isListed 4 rfl) rfl ?_
  refine v_aload_n (dk cd_Mo_isListed 5 rfl) rfl ?_
  refine v_getf (dk cd_Mo_isListed 6 rfl) fg_Mo_23_Mo hM.2.2.1 (by rfl) ?_
  refine v_iload_n (dk cd_Mo_isListed 7 rfl) rfl ?_
  refine v_mldE (j := 4) (dk cd_Mo_isListed 8 rfl) hM (by decide) (by decide) (show _ < 8 by omega) (by decide) (R.ce c cc hc).2.2.1 ?_
  refine v_icmp_geN (tgt := 53) (dk cd_Mo_isListed 9 rfl) rfl (by omega) (by omega) (fun q13 => ?_) (fun q13 => ?_)
  · have hke : k = cc.2.2.1.length := by omega
    refine v_iload_n (dk cd_Mo_isListed 31 rfl) rfl ?_
    exact v_zretB (dk cd_Mo_isListed 32 rfl) rfl (rt_of (by rw [hke, List.take_length]; rfl))
  · refine v_iload_n (dk cd_Mo_isListed 10 rfl) rfl ?_
    refine v_ifneB (tgt := 41) (dk cd_Mo_isListed 11 rfl) rfl (fun q17 => ?_) (fun q17 => ?_)
    · refine v_iconst (v := 1) (dk cd_Mo_isListed 25 rfl) (by decide) ?_
      refine v_goto (tgt := 46) (dk cd_Mo_isListed 26 rfl) rfl ?_
      refine v_istore_n (dk cd_Mo_isListed 28 rfl) (by decide) rfl ?_
      refine v_iincN (dk cd_Mo_isListed 29 rfl) rfl (by decide) rfl ?_
      refine v_goto (tgt := 5) (dk cd_Mo_isListed 30 rfl) rfl ?_
      have h9 := ih q13 (by omega)
      rw [any_snoc q13, show ((cc.2.2.1.take k).any (fun v => decide ((vAt S v).1 = w)) || (fun v => decide ((vAt S v).1 = w)) (cc.2.2.1.getD k 0)) = true by rw [q17, Bool.true_or]] at h9
      exact h9
    · have hvk := hb _ (getD_in q13)
      have hwk := K.w12 hvk
      refine v_aload_n (dk cd_Mo_isListed 12 rfl) rfl ?_
      refine v_getf (dk cd_Mo_isListed 13 rfl) fg_Mo_62_Mo hM.2.2.1 (by rfl) ?_
      refine v_aload_n (dk cd_Mo_isListed 14 rfl) rfl ?_
      refine v_getf (dk cd_Mo_isListed 15 rfl) fg_Mo_26_Mo hM.2.2.1 (by rfl) ?_
      refine v_bipush (v := nI 12) (dk cd_Mo_isListed 16 rfl) (by decide) ?_
      refine v_iload_n (dk cd_Mo_isListed 17 rfl) rfl ?_
      refine v_imulN (dk cd_Mo_isListed 18 rfl) ?_
      refine v_iload (dk cd_Mo_isListed 19 rfl) rfl ?_
      refine v_iaddN (dk cd_Mo_isListed 20 rfl) ?_
      refine v_mldE (j := 5) (dk cd_Mo_isListed 21 rfl) hM (by decide) (by decide) (show _ < 96 by omega) (by decide) ((R.ce c cc hc).2.2.2.1 k q13) ?_
      refine v_mldE (j := 17) (dk cd_Mo_isListed 22 rfl) hM (by decide) (by decide) (show _ < 40 by omega) (by decide) (R.ve _ (hb _ (getD_in q13))).1 ?_
      refine v_iload_n (dk cd_Mo_isListed 23 rfl) rfl ?_
      refine v_icmp_neN (tgt := 45) (dk cd_Mo_isListed 24 rfl) rfl (by omega) (by omega) (fun q38 => ?_) (fun q38 => ?_)
      · refine v_iconst (v := 0) (dk cd_Mo_isListed 27 rfl) (by decide) ?_
        refine v_istore_n (dk cd_Mo_isListed 28 rfl) (by decide) rfl ?_
        refine v_iincN (dk cd_Mo_isListed 29 rfl) rfl (by decide) rfl ?_
        refine v_goto (tgt := 5) (dk cd_Mo_isListed 30 rfl) rfl ?_
        have h9 := ih q13 (by omega)
        rw [any_snoc q13, show ((cc.2.2.1.take k).any (fun v => decide ((vAt S v).1 = w)) || (fun v => decide ((vAt S v).1 = w)) (cc.2.2.1.getD k 0)) = false by simp only [q17, q38, decide_false, Bool.or_false]] at h9
        exact h9
      · refine v_iconst (v := 1) (dk cd_Mo_isListed 25 rfl) (by decide) ?_
        refine v_goto (tgt := 46) (dk cd_Mo_isListed 26 rfl) rfl ?_
        refine v_istore_n (dk cd_Mo_isListed 28 rfl) (by decide) rfl ?_
        refine v_iincN (dk cd_Mo_isListed 29 rfl) rfl (by decide) rfl ?_
        refine v_goto (tgt := 5) (dk cd_Mo_isListed 30 rfl) rfl ?_
        have h9 := ih q13 (by omega)
        rw [any_snoc q13, show ((cc.2.2.1.take k).any (fun v => decide ((vAt S v).1 = w)) || (fun v => decide ((vAt S v).1 = w)) (cc.2.2.1.getD k 0)) = true by simp only [q38, decide_true, Bool.or_true]] at h9
        exact h9
set_option maxRecDepth 100000 in
set_option maxHeartbeats 4000000 in
theorem Mo_isListed_ok {w : Nat} (hM : MH B a i f A) (R : Rel S t i f) (K : SOK S) (hc : (sCells S)[c]? = some cc) (hw : w < 12) : V (gg u) d mm_Mo_isListed 0 [some (.ref a), some (.int (nI c)), some (.int (nI w)), none, none] [] A (Rt (some (.int (b2i (lsts S cc w)))) A) := by
  refine v_iconst (v := 0) (dk cd_Mo_isListed 0 rfl) (by decide) ?_
  refine v_istore_n (dk cd_Mo_isListed 1 rfl) (by decide) rfl ?_
  refine v_iconst (v := nI 0) (dk cd_Mo_isListed 2 rfl) (by decide) ?_
  refine v_istore (dk cd_Mo_isListed 3 rfl) (by decide) rfl ?_
  exact Mo_isListed_lp hM R K hc hw 0 (by omega)
set_option maxRecDepth 100000 in
set_option maxHeartbeats 4000000 in
theorem Mo_pagesOf_ok {v l : Nat} {s : SpS} (hM : MH B a i f A) (R : Rel S t i f) (K : LOK S) (h40 : (sVers S).length ≤ 40) (hv : v < (sVers S).length) (hs : (vAt S v).2.2 = some s) (hl : l < 3) : V (gg u) d mm_Mo_pagesOf 0 [some (.ref a), some (.int (nI v)), some (.int (nI l))] [] A (Rt (some (.int (nI (pgs (tl s.2.1.2 l))))) A) := by
  have h30 := (K.vw hv s hs).2 l
  refine v_aload_n (dk cd_Mo_pagesOf 0 rfl) rfl ?_
  refine v_getf (dk cd_Mo_pagesOf 1 rfl) fg_Mo_92_Mo hM.2.2.1 (by rfl) ?_
  refine v_iconst (v := nI 3) (dk cd_Mo_pagesOf 2 rfl) (by decide) ?_
  refine v_iload_n (dk cd_Mo_pagesOf 3 rfl) rfl ?_
  refine v_imulN (dk cd_Mo_pagesOf 4 rfl) ?_
  refine v_iload_n (dk cd_Mo_pagesOf 5 rfl) rfl ?_
  refine v_iaddN (dk cd_Mo_pagesOf 6 rfl) ?_
  refine v_mldE (j := 27) (dk cd_Mo_pagesOf 7 rfl) hM (by decide) (by decide) (show _ < 120 by omega) (by decide) (((R.ve v hv).2.2.2.2.2 s hs).2.2.2.2 l hl).1 ?_
  refine v_bipush (v := nI 9) (dk cd_Mo_pagesOf 8 rfl) (by decide) ?_
  refine v_iaddN (dk cd_Mo_pagesOf 9 rfl) ?_
  refine v_bipush (v := nI 10) (dk cd_Mo_pagesOf 10 rfl) (by decide) ?_
  refine v_idivN (dk cd_Mo_pagesOf 11 rfl) (by omega) (by omega) ?_
  exact v_iret (dk cd_Mo_pagesOf 12 rfl) rfl (rt_of (by unfold pgs; rfl))
set_option maxRecDepth 100000 in
set_option maxHeartbeats 4000000 in
theorem Mo_page_ok {v : Nat} {l z : Int32} (hM : MH B a i f A) (R : Rel S t i f) (K : LOK S) (hc : (sCells S)[c]? = some cc) (hr : cc.2.2.2.length < 108) : V (gg u) d mm_Mo_page 0 [some (.ref a), some (.int (nI c)), some (.int (nI v)), some (.int l), some (.int z), none] [] A (PR none B a (setCe S c (cPg cc (cc.2.2.2 ++ [(v, l, z)]))) t) := by
  have w2 := K.n8
  have hcl := (List.getElem?_eq_some_iff.mp hc).1
  refine v_bipush (v := nI 108) (dk cd_Mo_page 0 rfl) (by decide) ?_
  refine v_iload_n (dk cd_Mo_page 1 rfl) rfl ?_
  refine v_imulN (dk cd_Mo_page 2 rfl) ?_
  refine v_aload_n (dk cd_Mo_page 3 rfl) rfl ?_
  refine v_getf (dk cd_Mo_page 4 rfl) fg_Mo_32_Mo hM.2.2.1 (by rfl) ?_
  refine v_iload_n (dk cd_Mo_page 5 rfl) rfl ?_
  refine v_mldE (j := 7) (dk cd_Mo_page 6 rfl) hM (by decide) (by decide) (show _ < 8 by omega) (by decide) (R.ce c cc hc).2.2.2.2.1 ?_
  refine v_iaddN (dk cd_Mo_page 7 rfl) ?_
  refine v_istore (dk cd_Mo_page 8 rfl) (by decide) rfl ?_
  refine v_aload_n (dk cd_Mo_page 9 rfl) rfl ?_
  refine v_getf (dk cd_Mo_page 10 rfl) fg_Mo_35_Mo hM.2.2.1 (by rfl) ?_
  refine v_iload (dk cd_Mo_page 11 rfl) rfl ?_
  refine v_iload_n (dk cd_Mo_page 12 rfl) rfl ?_
  refine v_mst (j := 8) (dk cd_Mo_page 13 rfl) hM (by decide) (by decide) (show _ < 864 by omega) (by decide) (fun A hM => ?_)
  refine v_aload_n (dk cd_Mo_page 14 rfl) rfl ?_
  refine v_getf (dk cd_Mo_page 15 rfl) fg_Mo_38_Mo hM.2.2.1 (by rfl) ?_
  refine v_iload (dk cd_Mo_page 16 rfl) rfl ?_
  refine v_iload_n (dk cd_Mo_page 17 rfl) rfl ?_
  refine v_mst (j := 9) (dk cd_Mo_page 18 rfl) hM (by decide) (by decide) (show _ < 864 by omega) (by decide) (fun A hM => ?_)
  refine v_aload_n (dk cd_Mo_page 19 rfl) rfl ?_
  refine v_getf (dk cd_Mo_page 20 rfl) fg_Mo_41_Mo hM.2.2.1 (by rfl) ?_
  refine v_iload (dk cd_Mo_page 21 rfl) rfl ?_
  refine v_iload (dk cd_Mo_page 22 rfl) rfl ?_
  refine v_mst (j := 10) (dk cd_Mo_page 23 rfl) hM (by decide) (by decide) (show _ < 864 by omega) (by decide) (fun A hM => ?_)
  refine v_aload_n (dk cd_Mo_page 24 rfl) rfl ?_
  refine v_getf (dk cd_Mo_page 25 rfl) fg_Mo_32_Mo hM.2.2.1 (by rfl) ?_
  refine v_iload_n (dk cd_Mo_page 26 rfl) rfl ?_
  refine v_dup2 (dk cd_Mo_page 27 rfl) rfl rfl ?_
  refine v_mldE (j := 7) (dk cd_Mo_page 28 rfl) hM (by decide) (by decide) (show _ < 8 by omega) (by decide) (up2_thru (by omega) (up2_thru (by omega) (up2_thru (by omega) (R.ce c cc hc).2.2.2.2.1))) ?_
  refine v_iconst (v := nI 1) (dk cd_Mo_page 29 rfl) (by decide) ?_
  refine v_iaddN (dk cd_Mo_page 30 rfl) ?_
  refine v_mst (j := 7) (dk cd_Mo_page 31 rfl) hM (by decide) (by decide) (show _ < 8 by omega) (by decide) (fun A hM => ?_)
  exact v_vret (dk cd_Mo_page 32 rfl) rfl ⟨rfl, _, _, hM, R.page K hc hr⟩
/-- the scratch row while a version finds its place -/
def InsI (S : SS) (f : Nat → Nat → Int32) (L : List Nat) (x q : Nat) : Prop := q ≤ L.length ∧ (∀ j, j < q → f 6 j = nI (L.getD j 0)) ∧ (∀ j, q ≤ j → j < L.length → f 6 (j + 1) = nI (L.getD j 0)) ∧ insQ (vKey S) L x L.length = insQ (vKey S) L x q
theorem InsI.step {S : SS} {f : Nat → Nat → Int32} {L : List Nat} {x q : Nat} (H : InsI S f L x (q + 1)) (h : ¬ vKey S (L.getD q 0) ≤ vKey S x) : InsI S (up2 f 6 (q + 1) (nI (L.getD q 0))) L x q := by
  obtain ⟨h1, h2, h3, h4⟩ := H
  refine ⟨by omega, fun j hj => by rw [up2_off (by omega)]; exact h2 j (by omega), fun j a b => ?_, ?_⟩
  · by_cases e : j = q
    · subst e; exact up2_on
    · rw [up2_off (by omega)]; exact h3 j (by omega) b
  · rw [h4]; conv => lhs; unfold insQ
    rw [if_neg h]
theorem InsI.fin {S : SS} {f : Nat → Nat → Int32} {L : List Nat} {x q : Nat} (H : InsI S f L x q) (h : insQ (vKey S) L x q = q) : ∀ j, j < (insL (vKey S) L x).length → up2 f 6 q (nI x) 6 j = nI ((insL (vKey S) L x).getD j 0) := by
  obtain ⟨h1, h2, h3, h4⟩ := H
  intro j hj
  unfold insL at hj ⊢
  rw [h4, h] at hj ⊢
  rw [List.length_append, List.length_cons, List.length_take, List.length_drop] at hj
  rw [List.getD_eq_getElem?_getD]
  rcases Nat.lt_trichotomy j q with e | e | e
  · rw [List.getElem?_append_left (by rw [List.length_take]; omega), List.getElem?_take_of_lt e, ← List.getD_eq_getElem?_getD, up2_off (by omega)]
    exact h2 j e
  · subst e
    rw [List.getElem?_append_right (by rw [List.length_take]; omega), List.length_take, Nat.min_eq_left h1, Nat.sub_self, up2_on]
    rfl
  · rw [List.getElem?_append_right (by rw [List.length_take]; omega), List.length_take, Nat.min_eq_left h1]
    obtain ⟨m, rfl⟩ : ∃ m, j = q + m + 1 := ⟨j - q - 1, by omega⟩
    rw [show q + m + 1 - q = m + 1 by omega, List.getElem?_cons_succ, List.getElem?_drop, ← List.getD_eq_getElem?_getD, up2_off (by omega)]
    exact h3 (q + m) (by omega) (by omega)
def PI (B : AH) (a : Nat) (S : SS) (t : Int32) (L : List Nat) : Out → AH → Prop := fun r A' => r = .inl none ∧ ∃ i f, MH B a i f A' ∧ Rel S t i f ∧ ∀ j, j < L.length → f 6 j = nI (L.getD j 0)
theorem pi_no {B : AH} {a : Nat} {S : SS} {t : Int32} {L : List Nat} : ∀ z A', ¬ PI B a S t L (.inr z) A' := fun z A' h => by cases h.1
set_option maxRecDepth 100000 in
set_option maxHeartbeats 4000000 in
theorem Mo_insert_lp {v n : Nat} {L : List Nat} (K : SOK S) (hL : ∀ y ∈ L, y < (sVers S).length) (h12 : L.length < 12) (hv : v < (sVers S).length) : ∀ q, ∀ {i : Nat → Int32} {f : Nat → Nat → Int32} {A : AH}, InsI S f L v q → MH B a i f A → Rel S t i f → V (gg u) d mm_Mo_insert 2 [some (.ref a), some (.int (nI n)), some (.int (nI v)), some (.int (nI q))] [] A (PI B a S t (insL (vKey S) L v)) := by
  have w1 := K.wf.2.1
  have w2 := K.wf.2.2.1
  have w3 := K.wf.2.2.2.1
  have w4 := K.wf.2.2.2.2.1
  intro q
  induction q with
  | zero =>
    intro i f A hI hM R
    refine v_iload_n (dk cd_Mo_insert 2 rfl) rfl ?_
    refine v_if_le (tgt := 58) (dk cd_Mo_insert 3 rfl) rfl (fun _ => ?_) (fun q => absurd (by decide) q)
    refine v_aload_n (dk cd_Mo_insert 36 rfl) rfl ?_
    refine v_getf (dk cd_Mo_insert 37 rfl) fg_Mo_29_Mo hM.2.2.1 (by rfl) ?_
    refine v_iload_n (dk cd_Mo_insert 38 rfl) rfl ?_
    refine v_iload_n (dk cd_Mo_insert 39 rfl) rfl ?_
    refine v_mst (j := 6) (dk cd_Mo_insert 40 rfl) hM (by decide) (by decide) (show _ < 12 by omega) (by decide) (fun A hM => ?_)
    exact v_vret (dk cd_Mo_insert 41 rfl) rfl ⟨rfl, _, _, hM, R.six (fun j hj => up2_ne hj), hI.fin (rfl)⟩
  | succ r ih =>
    intro i f A hI hM R
    have hrl : r < L.length := by have := hI.1; omega
    have hvr := hL _ (getD_in hrl)
    have hwr := K.w12 hvr
    have hwv := K.w12 hv
    refine v_iload_n (dk cd_Mo_insert 2 rfl) rfl ?_
    refine v_if_le (tgt := 58) (dk cd_Mo_insert 3 rfl) rfl (fun q3 => ?_) (fun q3 => ?_)
    · exact absurd ((nI_le0 (by omega)).mp q3) (by omega)
    · refine v_aload_n (dk cd_Mo_insert 4 rfl) rfl ?_
      refine v_getf (dk cd_Mo_insert 5 rfl) fg_Mo_56_Mo hM.2.2.1 (by rfl) ?_
      refine v_aload_n (dk cd_Mo_insert 6 rfl) rfl ?_
      refine v_getf (dk cd_Mo_insert 7 rfl) fg_Mo_62_Mo hM.2.2.1 (by rfl) ?_
      refine v_aload_n (dk cd_Mo_insert 8 rfl) rfl ?_
      refine v_getf (dk cd_Mo_insert 9 rfl) fg_Mo_29_Mo hM.2.2.1 (by rfl) ?_
      refine v_iload_n (dk cd_Mo_insert 10 rfl) rfl ?_
      refine v_iconst (v := nI 1) (dk cd_Mo_insert 11 rfl) (by decide) ?_
      refine v_isubN (dk cd_Mo_insert 12 rfl) (by omega) ?_
      refine v_mldE (j := 6) (dk cd_Mo_insert 13 rfl) hM (by decide) (by decide) (show _ < 12 by omega) (by decide) (hI.2.1 r (by omega)) ?_
      refine v_mldE (j := 17) (dk cd_Mo_insert 14 rfl) hM (by decide) (by decide) (show _ < 40 by omega) (by decide) (R.ve _ hvr).1 ?_
      refine v_mldE (j := 15) (dk cd_Mo_insert 15 rfl) hM (by decide) (by decide) (show _ < 12 by omega) (by decide) (R.wa _ hwr).1 ?_
      refine v_aload_n (dk cd_Mo_insert 16 rfl) rfl ?_
      refine v_getf (dk cd_Mo_insert 17 rfl) fg_Mo_56_Mo hM.2.2.1 (by rfl) ?_
      refine v_aload_n (dk cd_Mo_insert 18 rfl) rfl ?_
      refine v_getf (dk cd_Mo_insert 19 rfl) fg_Mo_62_Mo hM.2.2.1 (by rfl) ?_
      refine v_iload_n (dk cd_Mo_insert 20 rfl) rfl ?_
      refine v_mldE (j := 17) (dk cd_Mo_insert 21 rfl) hM (by decide) (by decide) (show _ < 40 by omega) (by decide) (R.ve _ hv).1 ?_
      refine v_mldE (j := 15) (dk cd_Mo_insert 22 rfl) hM (by decide) (by decide) (show _ < 12 by omega) (by decide) (R.wa _ hwv).1 ?_
      refine v_icmp_le (tgt := 58) (dk cd_Mo_insert 23 rfl) rfl (fun q35 => ?_) (fun q35 => ?_)
      · have hk9 : insQ (vKey S) L v (r + 1) = r + 1 := by unfold insQ; rw [if_pos (show vKey S (L.getD r 0) ≤ vKey S v from q35)]
        refine v_aload_n (dk cd_Mo_insert 36 rfl) rfl ?_
        refine v_getf (dk cd_Mo_insert 37 rfl) fg_Mo_29_Mo hM.2.2.1 (by rfl) ?_
        refine v_iload_n (dk cd_Mo_insert 38 rfl) rfl ?_
        refine v_iload_n (dk cd_Mo_insert 39 rfl) rfl ?_
        refine v_mst (j := 6) (dk cd_Mo_insert 40 rfl) hM (by decide) (by decide) (show _ < 12 by omega) (by decide) (fun A hM => ?_)
        exact v_vret (dk cd_Mo_insert 41 rfl) rfl ⟨rfl, _, _, hM, R.six (fun j hj => up2_ne hj), hI.fin (hk9)⟩
      · have hkey : ¬ vKey S (L.getD r 0) ≤ vKey S v := q35
        refine v_aload_n (dk cd_Mo_insert 24 rfl) rfl ?_
        refine v_getf (dk cd_Mo_insert 25 rfl) fg_Mo_29_Mo hM.2.2.1 (by rfl) ?_
        refine v_iload_n (dk cd_Mo_insert 26 rfl) rfl ?_
        refine v_aload_n (dk cd_Mo_insert 27 rfl) rfl ?_
        refine v_getf (dk cd_Mo_insert 28 rfl) fg_Mo_29_Mo hM.2.2.1 (by rfl) ?_
        refine v_iload_n (dk cd_Mo_insert 29 rfl) rfl ?_
        refine v_iconst (v := nI 1) (dk cd_Mo_insert 30 rfl) (by decide) ?_
        refine v_isubN (dk cd_Mo_insert 31 rfl) (by omega) ?_
        refine v_mldE (j := 6) (dk cd_Mo_insert 32 rfl) hM (by decide) (by decide) (show _ < 12 by omega) (by decide) (hI.2.1 r (by omega)) ?_
        refine v_mst (j := 6) (dk cd_Mo_insert 33 rfl) hM (by decide) (by decide) (show _ < 12 by omega) (by decide) (fun A hM => ?_)
        refine v_iincM (dk cd_Mo_insert 34 rfl) rfl (by decide) rfl ?_
        refine v_goto (tgt := 2) (dk cd_Mo_insert 35 rfl) rfl ?_
        exact ih (hI.step hkey) hM (R.six (fun j hj => up2_ne hj))
set_option maxRecDepth 100000 in
set_option maxHeartbeats 4000000 in
theorem Mo_insert_ok {v : Nat} {L : List Nat} (hM : MH B a i f A) (R : Rel S t i f) (K : SOK S) (hL : ∀ y ∈ L, y < (sVers S).length) (h12 : L.length < 12) (hv : v < (sVers S).length) (h6 : ∀ j, j < L.length → f 6 j = nI (L.getD j 0)) : V (gg u) d mm_Mo_insert 0 [some (.ref a), some (.int (nI L.length)), some (.int (nI v)), none] [] A (PI B a S t (insL (vKey S) L v)) := by
  refine v_iload_n (dk cd_Mo_insert 0 rfl) rfl ?_
  refine v_istore_n (dk cd_Mo_insert 1 rfl) (by decide) rfl ?_
  exact Mo_insert_lp K hL h12 hv L.length ⟨Nat.le_refl _, h6, fun j h1 h2 => absurd h2 (by omega), rfl⟩ hM R
end ML
