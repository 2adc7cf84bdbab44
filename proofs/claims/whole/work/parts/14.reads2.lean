/-! reads over the state: find, lists, languages, pages -/
def wId (S : SS) (w : Nat) : Int32 := ((sWarn S).getD w (0, none)).1
def fnd (S : SS) (id : Int32) : Option Nat := (sOrd S).find? fun w => decide (wId S w = id)
/-- numbers in their bounds -/
def Wf (S : SS) : Prop := (sOrd S).length = (sWarn S).length ∧ (sWarn S).length ≤ 12 ∧ (sCells S).length ≤ 8 ∧ (sVers S).length ≤ 40 ∧ (sHs S).length ≤ 3 ∧ (∀ w ∈ sOrd S, w < (sWarn S).length) ∧
  (∀ (w : Nat) (x : WaS), (sWarn S)[w]? = some x → ∃ v, x.2 = some v ∧ v < (sVers S).length) ∧ (∀ (i : Nat) (v : VeS), (sVers S)[i]? = some v → v.1 < (sWarn S).length)
theorem wId_of {S : SS} {w : Nat} {x : WaS} (h : (sWarn S)[w]? = some x) : wId S w = x.1 := by simp [wId, h]
section R2
variable {u : Ux} {d : Nat} {A : AH} {o : Nat} {t : Tx} {F : Nat → Option AC} {S : SS} {ad : Nat → Nat → Nat}
set_option maxRecDepth 100000 in
set_option maxHeartbeats 4000000 in
theorem AW_findWarning_lp {id : Int32} (I : Inv F S ad A) (Wf : Wf S) : ∀ k, k ≤ (sOrd S).length ∧ ((sOrd S).drop k).find? (fun w => decide (wId S w = id)) = fnd S id → V (gg u) d mm_AW_findWarning 2 [some (.ref (ad 0 0)), some (.int id), some (.int (nI k))] [] A (Rt (some (rfN ad 20 (fnd S id))) A) := by
  refine up_ind (sWarn S).length ?_
  intro k ih ⟨hk, hf⟩
  have h0 := I.aw
  obtain ⟨x2, h1, gb, h2, h2l⟩ := I.top (κ := 2) (by omega)
  subst h2
  have w1 := Wf.1
  have w2 := Wf.2.1
  refine v_iload_n (dk cd_AW_findWarning 2 rfl) rfl ?_
  refine v_aload_n (dk cd_AW_findWarning 3 rfl) rfl ?_
  refine v_getf (dk cd_AW_findWarning 4 rfl) fg_AW_28_AW (by assumption) (by rfl) ?_
  refine v_icmp_geN (tgt := 36) (dk cd_AW_findWarning 5 rfl) rfl (by omega) (by omega) (fun q7 => ?_) (fun q7 => ?_)
  · refine v_null (dk cd_AW_findWarning 20 rfl) ?_
    exact v_aret (dk cd_AW_findWarning 21 rfl) rfl (Or.inl ⟨_, rfl⟩) (Or.inl rfl) (rt_of (by rw [← hf, List.drop_eq_nil_of_le (by omega)]; rfl))
  · have hko : k < (sOrd S).length := by omega
    have hdr : (sOrd S).drop k = (sOrd S)[k] :: (sOrd S).drop (k + 1) := List.drop_eq_getElem_cons hko
    have hwn : (sOrd S)[k] < (sWarn S).length := Wf.2.2.2.2.2.1 _ (List.getElem_mem hko)
    have hw := I.warn (List.getElem?_eq_getElem hwn)
    have hid := wId_of (List.getElem?_eq_getElem hwn)
    refine v_aload_n (dk cd_AW_findWarning 6 rfl) rfl ?_
    refine v_getf (dk cd_AW_findWarning 7 rfl) fg_AW_24_AW (by assumption) (by rfl) ?_
    refine v_iload_n (dk cd_AW_findWarning 8 rfl) rfl ?_
    refine v_aaldN (j := 5) (dk cd_AW_findWarning 9 rfl) (by assumption) (by decide) rfl rfl (by omega) (by rw [List.getElem?_append_left (by simp; omega), List.getElem?_map, List.getElem?_eq_getElem hko]; rfl) ?_
    refine v_getf (dk cd_AW_findWarning 10 rfl) fg_AW_226_Wa (by assumption) (by rfl) ?_
    refine v_iload_n (dk cd_AW_findWarning 11 rfl) rfl ?_
    refine v_icmp_ne (tgt := 30) (dk cd_AW_findWarning 12 rfl) rfl (fun q20 => ?_) (fun q20 => ?_)
    · refine v_iincN (dk cd_AW_findWarning 18 rfl) rfl (by decide) rfl ?_
      refine v_goto (tgt := 2) (dk cd_AW_findWarning 19 rfl) rfl ?_
      exact ih q7 ⟨by omega, by rw [← hf, hdr, List.find?_cons_of_neg (by simpa [hid] using q20)]⟩
    · refine v_aload_n (dk cd_AW_findWarning 13 rfl) rfl ?_
      refine v_getf (dk cd_AW_findWarning 14 rfl) fg_AW_24_AW (by assumption) (by rfl) ?_
      refine v_iload_n (dk cd_AW_findWarning 15 rfl) rfl ?_
      refine v_aaldN (j := 5) (dk cd_AW_findWarning 16 rfl) (by assumption) (by decide) rfl rfl (by omega) (by rw [List.getElem?_append_left (by simp; omega), List.getElem?_map, List.getElem?_eq_getElem hko]; rfl) ?_
      exact v_aret (dk cd_AW_findWarning 17 rfl) rfl (Or.inl ⟨_, rfl⟩) (Or.inr ⟨_, rfl⟩) (rt_of (by rw [← hf, hdr, List.find?_cons_of_pos (by simpa [hid] using q20)]; rfl))
set_option maxRecDepth 100000 in
set_option maxHeartbeats 4000000 in
theorem AW_findWarning_ok {id : Int32} (I : Inv F S ad A) (Wf : Wf S) : V (gg u) d mm_AW_findWarning 0 [some (.ref (ad 0 0)), some (.int id), none] [] A (Rt (some (rfN ad 20 (fnd S id))) A) := by
  refine v_iconst (v := nI 0) (dk cd_AW_findWarning 0 rfl) (by decide) ?_
  refine v_istore_n (dk cd_AW_findWarning 1 rfl) (by decide) rfl ?_
  exact AW_findWarning_lp I Wf 0 ⟨by omega, by rw [List.drop_zero]; rfl⟩
def lsts (S : SS) (c : CeS) (w : Nat) : Bool := c.2.2.1.any fun v => decide (((sVers S).getD v (0, (0, 0, 0), none)).1 = w)
theorem Inv.lst (I : Inv F S ad A) {i : Nat} {c : CeS} (hc : (sCells S)[i]? = some c) : ∃ gb, A.1 (ad (if c.2.1.2 then 16 else 15) i) = some (107, (c.2.2.1.map fun v => Value.ref (ad 21 v)) ++ gb) ∧ c.2.2.1.length + gb.length = 12 := by
  cases hf : c.2.1.2 with
  | true =>
    obtain ⟨x, h1, gb, h2, h3⟩ := I.cell (κ := 16) (by omega) (by omega) hc
    rw [hf] at h2 h3
    exact ⟨gb, by simpa [h2] using h1, by simpa using h3⟩
  | false =>
    obtain ⟨x, h1, gb, h2, h3⟩ := I.cell (κ := 15) (by omega) (by omega) hc
    rw [hf] at h2 h3
    exact ⟨gb, by simpa [h2] using h1, by simpa using h3⟩
theorem Inv.cob (I : Inv F S ad A) {i : Nat} {c : CeS} (hc : (sCells S)[i]? = some c) : A.1 (ad 14 i) = some (3, [.int (nI i), .int c.1.1, .int c.1.2.1, .int c.1.2.2, .int (b2i c.2.1.1), .ref (ad (if c.2.1.2 then 16 else 15) i), .int (nI c.2.2.1.length), .ref (ad (if c.2.1.2 then 15 else 16) i), .ref (ad 17 i), .ref (ad 18 i), .ref (ad 19 i), .int (nI c.2.2.2.length)]) := by
  obtain ⟨x, h1, h2⟩ := I.cell (κ := 14) (by omega) (by omega) hc
  have h3 : x = _ := h2
  rw [h1, h3]
theorem Inv.hob (I : Inv F S ad A) {i : Nat} {h : HaS} (hh : (sHs S)[i]? = some h) : A.1 (ad 23 i) = some (4, [.int h.1.1, .ref (ad 24 i), .int (nI h.2.1.length), .int h.1.2.1, .int h.1.2.2.1, .int h.1.2.2.2, .ref (ad 25 i), .ref (ad 26 i), .ref (ad 27 i), .ref (ad 28 i), .ref (ad 29 i), .ref (ad 30 i), .int (nI h.2.2.2.length)]) := by
  obtain ⟨x, h1, h2⟩ := I.hs (κ := 23) (by omega) (by omega) hh
  have h3 : x = _ := h2
  rw [h1, h3]
theorem Inv.wne (I : Inv F S ad A) {w w' : Nat} (h1 : w < (sWarn S).length) (h2 : w' < (sWarn S).length) (h : ad 20 w = ad 20 w') : w = w' :=
  (I.1 20 w 20 w' (Or.inr (Or.inr (Or.inr (Or.inl ⟨rfl, h1⟩)))) (Or.inr (Or.inr (Or.inr (Or.inl ⟨rfl, h2⟩)))) h).2
theorem Inv.vne (I : Inv F S ad A) {w w' : Nat} (h1 : w < (sVers S).length) (h2 : w' < (sVers S).length) (h : ad 21 w = ad 21 w') : w = w' :=
  (I.1 21 w 21 w' (Or.inr (Or.inr (Or.inr (Or.inr (Or.inl ⟨rfl, h1⟩))))) (Or.inr (Or.inr (Or.inr (Or.inr (Or.inl ⟨rfl, h2⟩))))) h).2
theorem map_app {α : Type} {l : List α} {f : α → Value} {gb : List Value} {k : Nat} (h : k < l.length) : (l.map f ++ gb)[k]? = some (f l[k]) := by
  rw [List.getElem?_append_left (by simpa using h), List.getElem?_map, List.getElem?_eq_getElem h]; rfl
set_option maxRecDepth 100000 in
set_option maxHeartbeats 4000000 in
theorem Ce_listsWarning_lp {i w : Nat} {c : CeS} (I : Inv F S ad A) (Wf : Wf S) (hc : (sCells S)[i]? = some c) (hb : ∀ v ∈ c.2.2.1, v < (sVers S).length) (hw : w < (sWarn S).length) : ∀ k, k ≤ c.2.2.1.length ∧ (c.2.2.1.drop k).any (fun v => decide (((sVers S).getD v (0, (0, 0, 0), none)).1 = w)) = lsts S c w → V (gg u) d mm_Ce_listsWarning 2 [some (.ref (ad 14 i)), some (.ref (ad 20 w)), some (.int (nI k))] [] A (Rt (some (.int (b2i (lsts S c w)))) A) := by
  refine up_ind c.2.2.1.length ?_
  intro k ih ⟨hk, hf⟩
  have h0 := I.cob hc
  obtain ⟨gb, h1, h2l⟩ := I.lst hc
  refine v_iload_n (dk cd_Ce_listsWarning 2 rfl) rfl ?_
  refine v_aload_n (dk cd_Ce_listsWarning 3 rfl) rfl ?_
  refine v_getf (dk cd_Ce_listsWarning 4 rfl) fg_Ce_34_Ce (by assumption) (by rfl) ?_
  refine v_icmp_geN (tgt := 31) (dk cd_Ce_listsWarning 5 rfl) rfl (by omega) (by omega) (fun q7 => ?_) (fun q7 => ?_)
  · refine v_iconst (v := 0) (dk cd_Ce_listsWarning 17 rfl) (by decide) ?_
    exact v_zret (dk cd_Ce_listsWarning 18 rfl) rfl rfl (rt_f (by rw [← hf, List.drop_eq_nil_of_le (by omega)]; rfl))
  · have hdr : c.2.2.1.drop k = c.2.2.1[k] :: c.2.2.1.drop (k + 1) := List.drop_eq_getElem_cons q7
    have hvn := hb _ (List.getElem_mem q7)
    have hve := List.getElem?_eq_getElem hvn
    obtain ⟨vl, hv⟩ := I.verV hve
    have hvw := Wf.2.2.2.2.2.2.2 _ _ hve
    refine v_aload_n (dk cd_Ce_listsWarning 6 rfl) rfl ?_
    refine v_getf (dk cd_Ce_listsWarning 7 rfl) fg_Ce_30_Ce (by assumption) (by rfl) ?_
    refine v_iload_n (dk cd_Ce_listsWarning 8 rfl) rfl ?_
    refine v_aaldN (j := 7) (dk cd_Ce_listsWarning 9 rfl) (by assumption) (by decide) rfl rfl (by omega) (map_app q7) ?_
    refine v_getf (dk cd_Ce_listsWarning 10 rfl) (fgV fg_Ce_72_Sp fg_Ce_72_Ca _) (by assumption) (by rfl) ?_
    refine v_aload_n (dk cd_Ce_listsWarning 11 rfl) rfl ?_
    refine v_acmp_neR (tgt := 25) (dk cd_Ce_listsWarning 12 rfl) rfl (fun q20 => ?_) (fun q20 => ?_)
    · refine v_iincN (dk cd_Ce_listsWarning 15 rfl) rfl (by decide) rfl ?_
      refine v_goto (tgt := 2) (dk cd_Ce_listsWarning 16 rfl) rfl ?_
      exact ih q7 ⟨by omega, by rw [← hf, hdr, List.any_cons, decide_eq_false (by simpa [hve] using fun e => q20 (by rw [e])), Bool.false_or]⟩
    · refine v_iconst (v := 1) (dk cd_Ce_listsWarning 13 rfl) (by decide) ?_
      exact v_zret (dk cd_Ce_listsWarning 14 rfl) rfl rfl (rt_t (by rw [← hf, hdr, List.any_cons, decide_eq_true (by simpa [hve] using I.wne hvw hw q20)]; rfl))
set_option maxRecDepth 100000 in
set_option maxHeartbeats 4000000 in
theorem Ce_listsWarning_ok {i w : Nat} {c : CeS} (I : Inv F S ad A) (Wf : Wf S) (hc : (sCells S)[i]? = some c) (hb : ∀ v ∈ c.2.2.1, v < (sVers S).length) (hw : w < (sWarn S).length) : V (gg u) d mm_Ce_listsWarning 0 [some (.ref (ad 14 i)), some (.ref (ad 20 w)), none] [] A (Rt (some (.int (b2i (lsts S c w)))) A) := by
  refine v_iconst (v := nI 0) (dk cd_Ce_listsWarning 0 rfl) (by decide) ?_
  refine v_istore_n (dk cd_Ce_listsWarning 1 rfl) (by decide) rfl ?_
  exact Ce_listsWarning_lp I Wf hc hb hw 0 ⟨by omega, by rw [List.drop_zero]; rfl⟩
end R2
