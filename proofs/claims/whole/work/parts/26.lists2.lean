/-! the ended are dropped; all pages of a cell -/
def goesOn (S : SS) (clk : Int32) (v : Nat) : Bool := !decide ((vAt S v).2.1.2.2 ≤ clk)
section L2
variable {u : Ux} {d : Nat} {A : AH} {F : Nat → Option AC} {S : SS} {ad : Nat → Nat → Nat}
theorem lsNe (I : Inv F S ad A) {i κ j : Nat} {c : CeS} (hi : i < (sCells S).length) (hl : LV S κ j) (h1 : κ ≠ 15) (h2 : κ ≠ 16) : ad κ j ≠ (ad (if c.2.1.2 then 16 else 15) i) := by
  split
  · exact I.ne hl (LV_cell (by omega) (by omega) hi) (Or.inl h2)
  · exact I.ne hl (LV_cell (by omega) (by omega) hi) (Or.inl h1)
set_option maxRecDepth 100000 in
set_option maxHeartbeats 4000000 in
theorem Ce_dropEnded_lp {i : Nat} {c : CeS} {clk : Int32} (I : Inv F S ad A) (hc : (sCells S)[i]? = some c) (hb : ∀ v ∈ c.2.2.1, v < (sVers S).length) (h12 : c.2.2.1.length ≤ 12) : ∀ k, ∀ vs : List Value, k ≤ c.2.2.1.length ∧ vs.length = 12 ∧ (∃ r, vs = (((c.2.2.1.take k).filter (goesOn S clk)).map fun v => Value.ref (ad 21 v)) ++ r ∧ ∃ gb, vs.drop k = ((c.2.2.1.drop k).map fun v => Value.ref (ad 21 v)) ++ gb) →
    V (gg u) d mm_Ce_dropEnded 4 [some (.ref (ad 14 i)), some (.int clk), some (.int (nI ((c.2.2.1.take k).filter (goesOn S clk)).length)), some (.int (nI k))] [] (aset A (ad (if c.2.1.2 then 16 else 15) i) (107, vs)) (Ps none F (setCe S i (cLs c (c.2.2.1.filter (goesOn S clk)) c.2.1.2)) ad A) := by
  refine up_ind c.2.2.1.length ?_
  intro k ih vs ⟨hk, hl, r, hr, gb, hd⟩
  have hi := (List.getElem?_eq_some_iff.mp hc).1
  have h14 := I.cob hc
  have n14 := lsNe (c := c) I hi (LV_cell (κ := 14) (by omega) (by omega) hi) (by omega) (by omega)
  have hcl : ((c.2.2.1.take k).filter (goesOn S clk)).length ≤ k := Nat.le_trans (List.length_filter_le _ _) (by simp; omega)
  refine v_iload_n (dk cd_Ce_dropEnded 4 rfl) rfl ?_
  refine v_aload_n (dk cd_Ce_dropEnded 5 rfl) rfl ?_
  refine v_getf (dk cd_Ce_dropEnded 6 rfl) fg_Ce_34_Ce (by repeat first | assumption | exact aset_same _ _ _ | refine (aset_ne _ _ (by first | assumption | exact Ne.symm (by assumption))).trans ?_) (by rfl) ?_
  refine v_icmp_geN (tgt := 46) (dk cd_Ce_dropEnded 7 rfl) rfl (by omega) (by omega) (fun q9 => ?_) (fun q9 => ?_)
  · have hke : k = c.2.2.1.length := by omega
    subst hke
    rw [List.take_length] at hr hcl ⊢
    refine v_aload_n (dk cd_Ce_dropEnded 26 rfl) rfl ?_
    refine v_iload_n (dk cd_Ce_dropEnded 27 rfl) rfl ?_
    refine v_putf (dk cd_Ce_dropEnded 28 rfl) fp_Ce_34_Ce (fun h => by cases h) (by repeat first | assumption | exact aset_same _ _ _ | refine (aset_ne _ _ (by first | assumption | exact Ne.symm (by assumption))).trans ?_) rfl rfl ?_
    refine v_vret (dk cd_Ce_dropEnded 29 rfl) rfl (ps_of ?_ rfl rfl)
    have hx : ∀ κ x9, 14 ≤ κ → κ < 20 → κ ≠ 14 → (aset (aset A (ad (if c.2.1.2 then 16 else 15) i) (107, vs)) (ad 14 i) x9).1 (ad κ i) = (aset A (ad (if c.2.1.2 then 16 else 15) i) (107, vs)).1 (ad κ i) := fun κ x9 h1 h2 h3 => aset_ne _ _ (I.ne (LV_cell h1 h2 hi) (LV_cell (by omega) (by omega) hi) (Or.inl h3))
    refine I.updCell hi rfl (fun q hq => ?_) (fun κ h1 h2 => ?_)
    · rw [aset_ne _ _ (hq 14 (by omega) (by omega)), aset_ne]
      split
      · exact hq 16 (by omega) (by omega)
      · exact hq 15 (by omega) (by omega)
    by_cases k14 : κ = 14
    · subst k14
      refine ⟨_, aset_same _ _ _, ?_⟩
      cases hf : c.2.1.2 <;> simp [CCell, cLs, hf]
    obtain ⟨x, h3, h4⟩ := I.cell h1 h2 hc
    have hla : (c.2.2.1.filter (goesOn S clk)).length + r.length = 12 := by rw [← hl, hr]; simp
    cases hf : c.2.1.2 with
    | true =>
      simp only [hf, if_true] at hx ⊢
      have hk : κ = 15 ∨ κ = 16 ∨ κ = 17 ∨ κ = 18 ∨ κ = 19 := by omega
      rcases hk with rfl | rfl | rfl | rfl | rfl
      · exact ⟨x, (hx 15 _ (by omega) (by omega) (by omega)).trans ((aset_ne _ _ (I.ne (LV_cell (by omega) (by omega) hi) (LV_cell (by omega) (by omega) hi) (Or.inl (by omega)))).trans h3), by simpa [CCell, cLs] using ArG.less h4⟩
      · exact ⟨_, (hx 16 _ (by omega) (by omega) (by omega)).trans (aset_same _ _ _), r, by simp [cLs, hr], by simpa [cLs] using hla⟩
      · exact ⟨x, (hx 17 _ (by omega) (by omega) (by omega)).trans ((aset_ne _ _ (I.ne (LV_cell (by omega) (by omega) hi) (LV_cell (by omega) (by omega) hi) (Or.inl (by omega)))).trans h3), h4⟩
      · exact ⟨x, (hx 18 _ (by omega) (by omega) (by omega)).trans ((aset_ne _ _ (I.ne (LV_cell (by omega) (by omega) hi) (LV_cell (by omega) (by omega) hi) (Or.inl (by omega)))).trans h3), h4⟩
      · exact ⟨x, (hx 19 _ (by omega) (by omega) (by omega)).trans ((aset_ne _ _ (I.ne (LV_cell (by omega) (by omega) hi) (LV_cell (by omega) (by omega) hi) (Or.inl (by omega)))).trans h3), h4⟩
    | false =>
      simp only [hf, Bool.false_eq_true, if_false] at hx ⊢
      have hk : κ = 15 ∨ κ = 16 ∨ κ = 17 ∨ κ = 18 ∨ κ = 19 := by omega
      rcases hk with rfl | rfl | rfl | rfl | rfl
      · exact ⟨_, (hx 15 _ (by omega) (by omega) (by omega)).trans (aset_same _ _ _), r, by simp [cLs, hr], by simpa [cLs] using hla⟩
      · exact ⟨x, (hx 16 _ (by omega) (by omega) (by omega)).trans ((aset_ne _ _ (I.ne (LV_cell (by omega) (by omega) hi) (LV_cell (by omega) (by omega) hi) (Or.inl (by omega)))).trans h3), by simpa [CCell, cLs] using ArG.less h4⟩
      · exact ⟨x, (hx 17 _ (by omega) (by omega) (by omega)).trans ((aset_ne _ _ (I.ne (LV_cell (by omega) (by omega) hi) (LV_cell (by omega) (by omega) hi) (Or.inl (by omega)))).trans h3), h4⟩
      · exact ⟨x, (hx 18 _ (by omega) (by omega) (by omega)).trans ((aset_ne _ _ (I.ne (LV_cell (by omega) (by omega) hi) (LV_cell (by omega) (by omega) hi) (Or.inl (by omega)))).trans h3), h4⟩
      · exact ⟨x, (hx 19 _ (by omega) (by omega) (by omega)).trans ((aset_ne _ _ (I.ne (LV_cell (by omega) (by omega) hi) (LV_cell (by omega) (by omega) hi) (Or.inl (by omega)))).trans h3), h4⟩
  · have hdr : c.2.2.1.drop k = c.2.2.1[k] :: c.2.2.1.drop (k + 1) := List.drop_eq_getElem_cons q9
    have hvn := hb _ (List.getElem_mem q9)
    have hve := List.getElem?_eq_getElem hvn
    have hva := vAt_of hve
    obtain ⟨vl, hv⟩ := I.verV hve
    have nv := lsNe (c := c) I hi (LV_ver hvn) (by omega) (by omega)
    have htk : c.2.2.1.take (k + 1) = c.2.2.1.take k ++ [c.2.2.1[k]] := by rw [List.take_add_one, List.getElem?_eq_getElem q9]; rfl
    have hrd : vs[k]? = some (.ref (ad 21 c.2.2.1[k])) := by
      have e1 : (vs.drop k)[0]? = vs[k]? := by rw [List.getElem?_drop]; rfl
      rw [← e1, hd, hdr]; rfl
    have hd1 : vs.drop (k + 1) = ((c.2.2.1.drop (k + 1)).map fun v => Value.ref (ad 21 v)) ++ gb := by
      rw [← List.drop_drop, hd, hdr]; rfl
    refine v_aload_n (dk cd_Ce_dropEnded 8 rfl) rfl ?_
    refine v_getf (dk cd_Ce_dropEnded 9 rfl) fg_Ce_30_Ce (by repeat first | assumption | exact aset_same _ _ _ | refine (aset_ne _ _ (by first | assumption | exact Ne.symm (by assumption))).trans ?_) (by rfl) ?_
    refine v_iload_n (dk cd_Ce_dropEnded 10 rfl) rfl ?_
    refine v_aaldN (j := 7) (dk cd_Ce_dropEnded 11 rfl) (by repeat first | assumption | exact aset_same _ _ _ | refine (aset_ne _ _ (by first | assumption | exact Ne.symm (by assumption))).trans ?_) (by decide) rfl rfl (by omega) hrd ?_
    refine v_getf (dk cd_Ce_dropEnded 12 rfl) (fgV fg_Ce_59_Sp fg_Ce_59_Ca _) (by repeat first | assumption | exact aset_same _ _ _ | refine (aset_ne _ _ (by first | assumption | exact Ne.symm (by assumption))).trans ?_) (by rfl) ?_
    refine v_iload_n (dk cd_Ce_dropEnded 13 rfl) rfl ?_
    refine v_icmp_le (tgt := 40) (dk cd_Ce_dropEnded 14 rfl) rfl (fun q22 => ?_) (fun q22 => ?_)
    · refine v_iincN (dk cd_Ce_dropEnded 24 rfl) rfl (by decide) rfl ?_
      refine v_goto (tgt := 4) (dk cd_Ce_dropEnded 25 rfl) rfl ?_
      have hkf : goesOn S clk c.2.2.1[k] = false := by unfold goesOn; rw [hva, decide_eq_true q22]; rfl
      have hfe : ((c.2.2.1.take (k + 1)).filter (goesOn S clk)) = ((c.2.2.1.take k).filter (goesOn S clk)) := by rw [htk, List.filter_append]; simp [hkf]
      have h9 := ih q9 vs ⟨by omega, hl, r, by rw [hfe]; exact hr, gb, hd1⟩
      rw [hfe] at h9
      exact h9
    · refine v_aload_n (dk cd_Ce_dropEnded 15 rfl) rfl ?_
      refine v_getf (dk cd_Ce_dropEnded 16 rfl) fg_Ce_30_Ce (by repeat first | assumption | exact aset_same _ _ _ | refine (aset_ne _ _ (by first | assumption | exact Ne.symm (by assumption))).trans ?_) (by rfl) ?_
      refine v_iload_n (dk cd_Ce_dropEnded 17 rfl) rfl ?_
      refine v_aload_n (dk cd_Ce_dropEnded 18 rfl) rfl ?_
      refine v_getf (dk cd_Ce_dropEnded 19 rfl) fg_Ce_30_Ce (by repeat first | assumption | exact aset_same _ _ _ | refine (aset_ne _ _ (by first | assumption | exact Ne.symm (by assumption))).trans ?_) (by rfl) ?_
      refine v_iload_n (dk cd_Ce_dropEnded 20 rfl) rfl ?_
      refine v_aaldN (j := 7) (dk cd_Ce_dropEnded 21 rfl) (by repeat first | assumption | exact aset_same _ _ _ | refine (aset_ne _ _ (by first | assumption | exact Ne.symm (by assumption))).trans ?_) (by decide) rfl rfl (by omega) hrd ?_
      refine v_aastN (dk cd_Ce_dropEnded 22 rfl) asV (by repeat first | assumption | exact aset_same _ _ _ | refine (aset_ne _ _ (by first | assumption | exact Ne.symm (by assumption))).trans ?_) (by repeat first | assumption | exact aset_same _ _ _ | refine (aset_ne _ _ (by first | assumption | exact Ne.symm (by assumption))).trans ?_) (by omega) (by omega) ?_
      refine v_iincN (dk cd_Ce_dropEnded 23 rfl) rfl (by decide) rfl ?_
      refine v_iincN (dk cd_Ce_dropEnded 24 rfl) rfl (by decide) rfl ?_
      refine v_goto (tgt := 4) (dk cd_Ce_dropEnded 25 rfl) rfl ?_
      have hkt : goesOn S clk c.2.2.1[k] = true := by unfold goesOn; rw [hva, decide_eq_false q22]; rfl
      have hfe : ((c.2.2.1.take (k + 1)).filter (goesOn S clk)) = ((c.2.2.1.take k).filter (goesOn S clk)) ++ [c.2.2.1[k]] := by rw [htk, List.filter_append]; simp [hkt]
      obtain ⟨r0, rr, rfl⟩ : ∃ r0 rr, r = r0 :: rr := by
        cases r with
        | nil => rw [hr, List.append_nil, List.length_map] at hl; omega
        | cons a b => exact ⟨a, b, rfl⟩
      have hset : vs.set ((c.2.2.1.take k).filter (goesOn S clk)).length (.ref (ad 21 c.2.2.1[k])) = ((((c.2.2.1.take k).filter (goesOn S clk)) ++ [c.2.2.1[k]]).map fun v => Value.ref (ad 21 v)) ++ rr := by rw [hr, List.set_append_right _ _ (by simp)]; simp
      have h9 := ih q9 (vs.set ((c.2.2.1.take k).filter (goesOn S clk)).length (.ref (ad 21 c.2.2.1[k]))) ⟨by omega, by rw [List.length_set]; exact hl, rr, by rw [hfe]; exact hset, gb, by rw [List.drop_set_of_lt (by omega)]; exact hd1⟩
      rw [hfe, List.length_append] at h9
      rw [aset_aset]
      exact h9
set_option maxRecDepth 100000 in
set_option maxHeartbeats 4000000 in
theorem Ce_dropEnded_ok {i : Nat} {c : CeS} {clk : Int32} (I : Inv F S ad A) (hc : (sCells S)[i]? = some c) (hb : ∀ v ∈ c.2.2.1, v < (sVers S).length) (h12 : c.2.2.1.length ≤ 12) : V (gg u) d mm_Ce_dropEnded 0 [some (.ref (ad 14 i)), some (.int clk), none, none] [] A (Ps none F (setCe S i (cLs c (c.2.2.1.filter (goesOn S clk)) c.2.1.2)) ad A) := by
  obtain ⟨gb, h1, hl⟩ := I.lst hc
  refine v_iconst (v := nI 0) (dk cd_Ce_dropEnded 0 rfl) (by decide) ?_
  refine v_istore_n (dk cd_Ce_dropEnded 1 rfl) (by decide) rfl ?_
  refine v_iconst (v := nI 0) (dk cd_Ce_dropEnded 2 rfl) (by decide) ?_
  refine v_istore_n (dk cd_Ce_dropEnded 3 rfl) (by decide) rfl ?_
  have h9 := Ce_dropEnded_lp (u := u) (d := d) (clk := clk) I hc hb h12 0 ((c.2.2.1.map fun v => Value.ref (ad 21 v)) ++ gb) ⟨by omega, by rw [List.length_append, List.length_map]; exact hl, _, rfl, gb, rfl⟩
  rw [aset_id h1] at h9
  exact h9
end L2
