/-! a handset hears pages -/
def pBits (l n : Int32) : Int32 := (((1 : Int32) <<< (n &&& 31)) - 1) <<< ((l * 3) &&& 31)
def chs (k : List Int32) (t : Tx) : Nat := match k.find? (fun l => decide (0 < tl t l.toNatClampNeg)) with
  | some l => l.toNatClampNeg
  | none => if 0 < tl t 0 then 0 else if 0 < tl t 1 then 1 else 2
theorem chs_lt {k : List Int32} {t : Tx} (h : ∀ l ∈ k, ∃ n, n < 3 ∧ l = nI n) : chs k t < 3 := by
  unfold chs
  split
  · rename_i l hl
    obtain ⟨n, hn, e⟩ := h l (List.mem_of_find?_eq_some hl)
    rw [e, nI_clamp (by omega)]
    exact hn
  · split
    · omega
    · split <;> omega
def hAl (h : HaS) (x : Int32) : HaS := ((h.1.1, h.1.2.1, h.1.2.2.1, x), h.2)
def hSh (h : HaS) (l : List (Nat × Int32 × Int32)) : HaS := (h.1, h.2.1, h.2.2.1, l)
def hHd (h : HaS) (l : List (Option Nat)) : HaS := (h.1, h.2.1, (l, h.2.2.1.2), h.2.2.2)
def hHl (h : HaS) (l : List Int32) : HaS := (h.1, h.2.1, (h.2.2.1.1, l, h.2.2.1.2.2), h.2.2.2)
def hWs (h : HaS) (l : List Bool) : HaS := (h.1, h.2.1, (h.2.2.1.1, h.2.2.1.2.1, l), h.2.2.2)
section HE
variable {u : Ux} {d : Nat} {A : AH} {F : Nat → Option AC} {S : SS} {ad : Nat → Nat → Nat}
theorem getHs {S : SS} {i : Nat} {c : HaS} (hi : i < (sHs S).length) : (sHs (setHs S i c))[i]? = some c := List.getElem?_set_self hi
theorem setHs2 (S : SS) (i : Nat) (c c' : HaS) : setHs (setHs S i c) i c' = setHs S i c' := by simp [setHs, sHs]
theorem setHs_id {S : SS} {i : Nat} {c : HaS} (hc : (sHs S)[i]? = some c) : setHs S i c = S := by
  have hi := (List.getElem?_eq_some_iff.mp hc)
  unfold setHs
  rw [← hi.2, List.set_getElem_self]
/-- one row of a handset changes -/
theorem Inv.updH1 {i κ0 : Nat} {h h' : HaS} {x : AC} (I : Inv F S ad A) (hh : (sHs S)[i]? = some h) (h1 : 23 ≤ κ0) (h2 : κ0 ≤ 30) (hx : CHs h' ad i κ0 x) (hs : ∀ κ y, 23 ≤ κ → κ ≤ 30 → κ ≠ κ0 → CHs h ad i κ y → CHs h' ad i κ y) : Inv F (setHs S i h') ad (aset A (ad κ0 i) x) := by
  have hi := (List.getElem?_eq_some_iff.mp hh).1
  refine I.updHs hi rfl (fun q hq => aset_ne _ _ (hq κ0 h1 h2)) (fun κ h3 h4 => ?_)
  by_cases k : κ = κ0
  · subst k
    exact ⟨x, aset_same _ _ _, hx⟩
  · obtain ⟨y, h5, h6⟩ := I.hs h3 h4 hh
    exact ⟨y, (aset_ne _ _ (I.ne (LV_hs h3 h4 hi) (LV_hs h1 h2 hi) (Or.inl k))).trans h5, hs κ y h3 h4 k h6⟩
theorem k23 {κ : Nat} (h1 : 23 ≤ κ) (h2 : κ ≤ 30) : κ = 23 ∨ κ = 24 ∨ κ = 25 ∨ κ = 26 ∨ κ = 27 ∨ κ = 28 ∨ κ = 29 ∨ κ = 30 := by omega
set_option maxRecDepth 100000 in
set_option maxHeartbeats 4000000 in
theorem Ha_pageBits_ok {l n : Int32} : V (gg u) d mm_Ha_pageBits 0 [some (.int l), some (.int n)] [] A (Rt (some (.int (pBits l n))) A) := by
  refine v_iconst (v := 1) (dk cd_Ha_pageBits 0 rfl) (by decide) ?_
  refine v_iload_n (dk cd_Ha_pageBits 1 rfl) rfl ?_
  refine v_ishl (dk cd_Ha_pageBits 2 rfl) ?_
  refine v_iconst (v := 1) (dk cd_Ha_pageBits 3 rfl) (by decide) ?_
  refine v_isub (dk cd_Ha_pageBits 4 rfl) ?_
  refine v_iload_n (dk cd_Ha_pageBits 5 rfl) rfl ?_
  refine v_iconst (v := 3) (dk cd_Ha_pageBits 6 rfl) (by decide) ?_
  refine v_imul (dk cd_Ha_pageBits 7 rfl) ?_
  refine v_ishl (dk cd_Ha_pageBits 8 rfl) ?_
  exact v_iret (dk cd_Ha_pageBits 9 rfl) rfl rt_ret
set_option maxRecDepth 100000 in
set_option maxHeartbeats 4000000 in
theorem Ha_choose_l2 {i te : Nat} {h : HaS} {t : Tx} (I : Inv F S ad A) (hh : (sHs S)[i]? = some h) (HT : TeAt A te t) (hf : h.2.1.find? (fun l => decide (0 < tl t l.toNatClampNeg)) = none) : ∀ k, k ≤ 2 ∧ (∀ j, j < k → tl t j = 0) → V (gg u) (d + 1) mm_Ha_choose 38 [some (.ref (ad 23 i)), some (.ref te), some (.int (nI k))] [] A (Rt (some (.int (nI (chs h.2.1 t)))) A) := by
  refine up_ind 2 ?_
  intro k ih ⟨hk, hz⟩
  have HT0 := HT
  obtain ⟨h3, h30, ba, la, k1, k2⟩ := HT
  refine v_iload_n (dk cd_Ha_choose 22 rfl) rfl ?_
  refine v_iconst (v := nI 2) (dk cd_Ha_choose 23 rfl) (by decide) ?_
  refine v_icmp_geN (tgt := 57) (dk cd_Ha_choose 24 rfl) rfl (by omega) (by omega) (fun q40 => ?_) (fun q40 => ?_)
  · refine v_iload_n (dk cd_Ha_choose 31 rfl) rfl ?_
    exact v_iret (dk cd_Ha_choose 32 rfl) rfl (rt_of (by rw [show k = 2 by omega] at hz ⊢; simp [chs, hf, hz 0 (by omega), hz 1 (by omega)]))
  · refine v_aload_n (dk cd_Ha_choose 25 rfl) rfl ?_
    refine v_iload_n (dk cd_Ha_choose 26 rfl) rfl ?_
    refine v_rv (r := ("AreaWarnings$Texts", TT_Te, 2)) (dk cd_Ha_choose 27 rfl) cv_Ha_115 rfl (by assumption) (as := [_]) rfl rfl (Nat.le_of_ble_eq_true rfl) (by simp [Value.category]) (Te_offers_ok HT0 (by omega)) ?_
    refine v_ifneB (tgt := 57) (dk cd_Ha_choose 28 rfl) rfl (fun q48 => ?_) (fun q48 => ?_)
    · have hp := of_decide_eq_true q48
      have hke : chs h.2.1 t = k := by
        have hk2 : k = 0 ∨ k = 1 := by omega
        rcases hk2 with rfl | rfl
        · simp [chs, hf, hp]
        · simp [chs, hf, hz 0 (by omega), hp]
      refine v_iload_n (dk cd_Ha_choose 31 rfl) rfl ?_
      exact v_iret (dk cd_Ha_choose 32 rfl) rfl (rt_of (by rw [hke]))
    · refine v_iincN (dk cd_Ha_choose 29 rfl) rfl (by decide) rfl ?_
      refine v_goto (tgt := 38) (dk cd_Ha_choose 30 rfl) rfl ?_
      exact ih q40 ⟨by omega, fun j hj => (Nat.lt_succ_iff_lt_or_eq.mp hj).elim (hz j) (fun e => by rw [e]; have := of_decide_eq_false q48; omega)⟩
set_option maxRecDepth 100000 in
set_option maxHeartbeats 4000000 in
theorem Ha_choose_l1 {i te : Nat} {h : HaS} {t : Tx} (I : Inv F S ad A) (hh : (sHs S)[i]? = some h) (HT : TeAt A te t) (h3k : h.2.1.length ≤ 3) (hlk : ∀ l ∈ h.2.1, ∃ n, n < 3 ∧ l = nI n) : ∀ k, k ≤ h.2.1.length ∧ (h.2.1.drop k).find? (fun l => decide (0 < tl t l.toNatClampNeg)) = h.2.1.find? (fun l => decide (0 < tl t l.toNatClampNeg)) → V (gg u) (d + 1) mm_Ha_choose 2 [some (.ref (ad 23 i)), some (.ref te), some (.int (nI k))] [] A (Rt (some (.int (nI (chs h.2.1 t)))) A) := by
  refine up_ind h.2.1.length ?_
  intro k ih ⟨hk, hf⟩
  have h23 := I.hob hh
  obtain ⟨x24, h24, g24, e24, l24⟩ := I.hs (κ := 24) (by omega) (by omega) hh
  subst e24
  have HT0 := HT
  obtain ⟨h3, h30, ba, la, k1, k2⟩ := HT
  refine v_iload_n (dk cd_Ha_choose 2 rfl) rfl ?_
  refine v_aload_n (dk cd_Ha_choose 3 rfl) rfl ?_
  refine v_getf (dk cd_Ha_choose 4 rfl) fg_Ha_19_Ha (by assumption) (by rfl) ?_
  refine v_icmp_geN (tgt := 36) (dk cd_Ha_choose 5 rfl) rfl (by omega) (by omega) (fun q7 => ?_) (fun q7 => ?_)
  · refine v_iconst (v := nI 0) (dk cd_Ha_choose 20 rfl) (by decide) ?_
    refine v_istore_n (dk cd_Ha_choose 21 rfl) (by decide) rfl ?_
    exact Ha_choose_l2 I hh HT0 (by rw [← hf, List.drop_eq_nil_of_le (by omega)]; rfl) 0 ⟨by omega, fun j hj => absurd hj (Nat.not_lt_zero j)⟩
  · have hdr : h.2.1.drop k = h.2.1[k] :: h.2.1.drop (k + 1) := List.drop_eq_getElem_cons q7
    obtain ⟨m, hm, he⟩ := hlk _ (List.getElem_mem q7)
    have hmc : (h.2.1[k]).toNatClampNeg = m := by rw [he]; exact nI_clamp (by omega)
    refine v_aload_n (dk cd_Ha_choose 6 rfl) rfl ?_
    refine v_aload_n (dk cd_Ha_choose 7 rfl) rfl ?_
    refine v_getf (dk cd_Ha_choose 8 rfl) fg_Ha_15_Ha (by assumption) (by rfl) ?_
    refine v_iload_n (dk cd_Ha_choose 9 rfl) rfl ?_
    refine v_ialdN (j := 0) (dk cd_Ha_choose 10 rfl) (by assumption) (by decide) rfl (by omega) (map_app q7) ?_
    rw [he]
    refine v_rv (r := ("AreaWarnings$Texts", TT_Te, 2)) (dk cd_Ha_choose 11 rfl) cv_Ha_115 rfl (by assumption) (as := [_]) rfl rfl (Nat.le_of_ble_eq_true rfl) (by simp [Value.category]) (Te_offers_ok HT0 hm) ?_
    refine v_ifeqB (tgt := 30) (dk cd_Ha_choose 12 rfl) rfl (fun q20 => ?_) (fun q20 => ?_)
    · refine v_iincN (dk cd_Ha_choose 18 rfl) rfl (by decide) rfl ?_
      refine v_goto (tgt := 2) (dk cd_Ha_choose 19 rfl) rfl ?_
      exact ih q7 ⟨by omega, by rw [← hf, hdr, List.find?_cons_of_neg (by rw [hmc]; have := of_decide_eq_false q20; simpa using this)]⟩
    · refine v_aload_n (dk cd_Ha_choose 13 rfl) rfl ?_
      refine v_getf (dk cd_Ha_choose 14 rfl) fg_Ha_15_Ha (by assumption) (by rfl) ?_
      refine v_iload_n (dk cd_Ha_choose 15 rfl) rfl ?_
      refine v_ialdN (j := 0) (dk cd_Ha_choose 16 rfl) (by assumption) (by decide) rfl (by omega) (map_app q7) ?_
      exact v_iret (dk cd_Ha_choose 17 rfl) rfl (rt_of (by have hc9 : chs h.2.1 t = m := (by unfold chs; rw [← hf, hdr, List.find?_cons_of_pos (by rw [hmc]; simpa using of_decide_eq_true q20)]; exact hmc); rw [hc9, he]))
set_option maxRecDepth 100000 in
set_option maxHeartbeats 4000000 in
theorem Ha_choose_ok {i te : Nat} {h : HaS} {t : Tx} (I : Inv F S ad A) (hh : (sHs S)[i]? = some h) (HT : TeAt A te t) (h3k : h.2.1.length ≤ 3) (hlk : ∀ l ∈ h.2.1, ∃ n, n < 3 ∧ l = nI n) : V (gg u) (d + 1) mm_Ha_choose 0 [some (.ref (ad 23 i)), some (.ref te), none] [] A (Rt (some (.int (nI (chs h.2.1 t)))) A) := by
  refine v_iconst (v := nI 0) (dk cd_Ha_choose 0 rfl) (by decide) ?_
  refine v_istore_n (dk cd_Ha_choose 1 rfl) (by decide) rfl ?_
  exact Ha_choose_l1 I hh HT h3k hlk 0 ⟨by omega, by rw [List.drop_zero]⟩
end HE
