def mkF (f : Nat → Nat → Int32) (n w : Nat) (num sev en : Int32) (b : Bool) : Nat → Nat → Int32 := up2 (up2 (up2 (up2 (up2 (up2 f 17 n (nI w)) 18 n num) 19 n sev) 20 n en) 21 n (b2i b)) 16 w (nI n)
theorem mkF_off {f : Nat → Nat → Int32} {n w j : Nat} {num sev en : Int32} {b : Bool} (h : j < 16 ∨ 22 ≤ j) : mkF f n w num sev en b j = f j := by
  unfold mkF; rw [up2_ne (by omega), up2_ne (by omega), up2_ne (by omega), up2_ne (by omega), up2_ne (by omega), up2_ne (by omega)]
theorem mkF_16 {f : Nat → Nat → Int32} {n w k : Nat} {num sev en : Int32} {b : Bool} : mkF f n w num sev en b 16 k = if k = w then nI n else f 16 k := by
  unfold mkF
  rw [up2_at]
  by_cases e : k = w
  · rw [if_pos ⟨rfl, e⟩, if_pos e]
  · rw [if_neg (fun h => e h.2), if_neg e, up2_ne (by omega), up2_ne (by omega), up2_ne (by omega), up2_ne (by omega), up2_ne (by omega)]
theorem mkF_VA {f : Nat → Nat → Int32} {n w v : Nat} {num sev en : Int32} {b : Bool} (h : v ≠ n) : VA f (mkF f n w num sev en b) v :=
  (((((VA.up (by omega)).trans (VA.up (by omega))).trans (VA.up (by omega))).trans (VA.up (by omega))).trans (VA.up (by omega))).trans (VA.up (by omega))
theorem mkF_at {f : Nat → Nat → Int32} {n w : Nat} {num sev en : Int32} {b : Bool} : mkF f n w num sev en b 17 n = nI w ∧ mkF f n w num sev en b 18 n = num ∧ mkF f n w num sev en b 19 n = sev ∧ mkF f n w num sev en b 20 n = en ∧ mkF f n w num sev en b 21 n = b2i b := by
  unfold mkF
  refine ⟨?_, ?_, ?_, ?_, ?_⟩
  · rw [up2_ne (by omega), up2_ne (by omega), up2_ne (by omega), up2_ne (by omega), up2_ne (by omega), up2_on]
  · rw [up2_ne (by omega), up2_ne (by omega), up2_ne (by omega), up2_ne (by omega), up2_on]
  · rw [up2_ne (by omega), up2_ne (by omega), up2_ne (by omega), up2_on]
  · rw [up2_ne (by omega), up2_ne (by omega), up2_on]
  · rw [up2_ne (by omega), up2_on]
/-- what fill leaves behind -/
def FillR (f g : Nat → Nat → Int32) (v n : Nat) (bg sp : Int32) : Prop := (∀ j, j < 13 ∨ (14 ≤ j ∧ j < 22) ∨ 29 ≤ j → g j = f j) ∧ (∀ l, l < 3 → g 13 l = 0) ∧ g 22 v = bg ∧ g 23 v = sp ∧ g 24 v = nI n ∧ (∀ k, k < n → g 25 (8 * v + k) = f 11 k ∧ g 26 (8 * v + k) = f 12 k) ∧ (∀ l, l < 3 → g 27 (3 * v + l) = f 13 l) ∧ (∀ k, k < 90 → g 28 (90 * v + k) = f 14 k) ∧ ∀ v', v' ≠ v → VA f g v'
section RG
variable {S S' : SS} {t t' : Int32} {i i' : Nat → Int32} {f f' : Nat → Nat → Int32} {v : VeS} {w : Nat}
theorem Rel.grow (R : Rel S t i f) (K : SOK S) (hC : sCells S' = sCells S) (hH : sHs S' = sHs S) (hV : sVers S' = sVers S ++ [v]) (hck : sClock S' = sClock S) (h0 : i' 0 = t') (h1 : i' 1 = i 1) (h2 : i' 2 = i 2) (h4 : i' 4 = nI (sWarn S').length) (h5 : i' 5 = nI ((sVers S).length + 1)) (h6 : i' 6 = i 6)
    (hT : TyR (sTyped S') (i' 3) f') (hW : ∀ w, w < (sWarn S').length → f' 15 w = wId S' w ∧ f' 16 w = nI (nwI S' w)) (hc : ∀ j, j ≤ 10 → f' j = f j) (hh : ∀ j, 29 ≤ j → f' j = f j) (hv : ∀ x, x < (sVers S).length → VA f f' x) (hn : VeR f' (sVers S).length v) : Rel S' t' i' f' := by
  have hold : ∀ i, i < (sVers S).length → vAt S' i = vAt S i := by
    intro i hi
    unfold vAt; rw [hV, List.getD_eq_getElem?_getD, List.getElem?_append_left hi, ← List.getD_eq_getElem?_getD]
  have hnew : vAt S' (sVers S).length = v := by
    unfold vAt; rw [hV]; exact getD_snoc_new
  have hlen : (sVers S').length = (sVers S).length + 1 := by rw [hV]; simp
  refine ⟨h0, by rw [h1, hck]; exact R.ck, by rw [h2, hC]; exact R.nc, h4, by rw [hlen]; exact h5, by rw [h6, hH]; exact R.nh, hT, ?_, ?_, hW, ?_, ?_, ?_⟩
  · intro k c hk
    rw [hC] at hk
    have hw := K.wc k c hk
    exact (R.ce k c hk).cg hw.1 hw.2.2.1 (CA.of fun j a _ => hc j (by omega))
  · intro k a b
    rw [hC] at a
    rw [hc 3 (by omega), hc 4 (by omega), hc 7 (by omega)]; exact R.cz k a b
  · intro x hx
    by_cases e : x < (sVers S).length
    · rw [hold x e]; exact (R.ve x e).cg (K.vw e) (hv x e)
    · have e2 : x = (sVers S).length := by omega
      rw [e2, hnew]; exact hn
  · intro k y hy
    rw [hH] at hy
    have hk := (K.hk k y hy).1
    refine ((R.hs k y hy).cg hk.1 hk.2.2.2.2.2.2.1 (HA.of fun j a _ => hh j (by omega))).ext hk.2.2.2.2.2.1 (fun x hx => ?_)
    unfold vNum; rw [hold x hx]
  · intro k a b
    rw [hH] at a
    exact (R.hz k a b).cg (HA.of fun j a _ => hh j (by omega))
theorem nwI_addVe {x : Nat} (hw : w < (sWarn S).length) : nwI (addVe S w v) x = if x = w then (sVers S).length else nwI S x := by
  show (((sWarn S).set w (wId S w, some (sVers S).length)).getD x (0, none)).2.getD 0 = _
  by_cases e : x = w
  · rw [if_pos e, e, getD_set_self hw]; rfl
  · rw [if_neg e, getD_set_ne e]; rfl
theorem wId_addVe {x : Nat} : wId (addVe S w v) x = wId S x := wId_set
theorem len_addVe : (sWarn (addVe S w v)).length = (sWarn S).length := List.length_set
theorem wId_addWa {id : Int32} {x : Nat} : wId (addWa S id) x = if x = (sWarn S).length then id else wId S x := by
  show ((sWarn S ++ [(id, none)]).getD x (0, none)).1 = _
  by_cases e : x = (sWarn S).length
  · rw [if_pos e, e, getD_snoc_new]
  · rw [if_neg e]
    by_cases e2 : x < (sWarn S).length
    · rw [getD_snoc_old e2]; rfl
    · unfold wId
      rw [List.getD_eq_getElem?_getD, List.getD_eq_getElem?_getD, List.getElem?_eq_none (by simp; omega), List.getElem?_eq_none (by omega)]
theorem nwI_addWa {id : Int32} {x : Nat} (h : x < (sWarn S).length) : nwI (addWa S id) x = nwI S x := by
  show ((sWarn S ++ [(id, none)]).getD x (0, none)).2.getD 0 = _
  rw [getD_snoc_old h]; rfl
theorem Rel.cancel {num sev en : Int32} (R : Rel S t i f) (K : SOK S) (hw : w < (sWarn S).length) : Rel (addVe S w (w, (num, sev, en), none)) t (up1 i 5 (nI ((sVers S).length + 1))) (mkF f (sVers S).length w num sev en false) := by
  refine R.grow K (v := (w, (num, sev, en), none)) rfl rfl rfl rfl R.th rfl rfl (by rw [len_addVe]; exact R.nw) rfl rfl (R.ty.cg (fun j _ _ => mkF_off (by omega))) ?_ (fun j hj => mkF_off (by omega)) (fun j hj => mkF_off (by omega)) (fun x hx => mkF_VA (by omega)) ?_
  · intro x hx
    rw [len_addVe] at hx
    rw [wId_addVe, nwI_addVe hw, mkF_16, mkF_off (by omega)]
    obtain ⟨a1, a2⟩ := R.wa x hx
    refine ⟨a1, ?_⟩
    split
    · rfl
    · exact a2
  · obtain ⟨a1, a2, a3, a4, a5⟩ := mkF_at (f := f) (n := (sVers S).length) (w := w) (num := num) (sev := sev) (en := en) (b := false)
    exact ⟨a1, a2, a3, a4, a5, fun s hs => by cases hs⟩
theorem FillR.ve {g : Nat → Nat → Int32} {n : Nat} {num sev en bg sp : Int32} {m : Pts × Tx} {z : Int32} {cv : List Bool} (T : TyR m z f) (h3 : ∀ l, tl m.2 l ≤ 30) (F : FillR (mkF f n w num sev en true) g n m.1.length bg sp) : VeR g n (w, (num, sev, en), some ((bg, sp), m, cv)) := by
  obtain ⟨a1, a2, a3⟩ := T
  obtain ⟨b0, b1, b2, b3, b4, b5, b6, b7, b8⟩ := F
  obtain ⟨c1, c2, c3, c4, c5⟩ := mkF_at (f := f) (n := n) (w := w) (num := num) (sev := sev) (en := en) (b := true)
  refine ⟨by rw [b0 17 (by omega)]; exact c1, by rw [b0 18 (by omega)]; exact c2, by rw [b0 19 (by omega)]; exact c3, by rw [b0 20 (by omega)]; exact c4, by rw [b0 21 (by omega)]; exact c5, fun s hs => ?_⟩
  cases hs
  refine ⟨b2, b3, b4, fun k hk => ?_, fun l hl => ⟨?_, fun k hk => ?_⟩⟩
  · obtain ⟨d1, d2⟩ := b5 k hk
    rw [d1, d2, mkF_off (by omega), mkF_off (by omega)]; exact a2 k hk
  · rw [b6 l hl, mkF_off (by omega)]; exact (a3 l hl).1
  · have := h3 l
    have hk : k < tl m.2 l := hk
    rw [show 90 * n + 30 * l + k = 90 * n + (30 * l + k) by omega, b7 (30 * l + k) (by omega), mkF_off (by omega)]
    exact (a3 l hl).2 k hk
theorem tyR_eT {g : Nat → Nat → Int32} (h : ∀ l, l < 3 → g 13 l = 0) : TyR eT 0 g := by
  refine ⟨rfl, fun k hk => absurd hk (Nat.not_lt_zero k), fun l hl => ?_⟩
  have : tl eT.2 l = 0 := by
    match l, hl with
    | 0, _ => rfl
    | 1, _ => rfl
    | 2, _ => rfl
  exact ⟨by rw [h l hl, this]; rfl, fun k hk => by rw [this] at hk; exact absurd hk (Nat.not_lt_zero k)⟩
theorem Rel.update {g : Nat → Nat → Int32} {num sev en bg sp : Int32} {cv : List Bool} (R : Rel S t i f) (K : SOK S) (hw : w < (sWarn S).length) (F : FillR (mkF f (sVers S).length w num sev en true) g (sVers S).length (sTyped S).1.length bg sp) : Rel (addVe (setTy S eT) w (w, (num, sev, en), some ((bg, sp), sTyped S, cv))) 0 (up1 (up1 (up1 i 5 (nI ((sVers S).length + 1))) 0 0) 3 0) g := by
  have hF := F
  obtain ⟨b0, b1, b2, b3, b4, b5, b6, b7, b8⟩ := F
  refine R.grow K (v := (w, (num, sev, en), some ((bg, sp), sTyped S, cv))) rfl rfl rfl rfl rfl rfl rfl (by rw [len_addVe]; exact R.nw) rfl rfl (tyR_eT b1) ?_ (fun j hj => by rw [b0 j (by omega), mkF_off (by omega)]) (fun j hj => by rw [b0 j (by omega), mkF_off (by omega)]) (fun x hx => (mkF_VA (by omega)).trans (b8 x (by omega))) (hF.ve R.ty K.wt.2.2)
  intro x hx
  rw [len_addVe] at hx
  rw [wId_addVe, nwI_addVe (S := setTy S eT) hw, b0 15 (by omega), b0 16 (by omega), mkF_16, mkF_off (by omega)]
  obtain ⟨a1, a2⟩ := R.wa x hx
  refine ⟨a1, ?_⟩
  split
  · rfl
  · exact a2
theorem Rel.issue {g : Nat → Nat → Int32} {id num sev en bg sp : Int32} {cv : List Bool} (R : Rel S t i f) (K : SOK S) (F : FillR (mkF (up2 f 15 (sWarn S).length id) (sVers S).length (sWarn S).length num sev en true) g (sVers S).length (sTyped S).1.length bg sp) : Rel (addVe (setTy (addWa S id) eT) (sWarn S).length ((sWarn S).length, (num, sev, en), some ((bg, sp), sTyped S, cv))) 0 (up1 (up1 (up1 (up1 i 4 (nI ((sWarn S).length + 1))) 5 (nI ((sVers S).length + 1))) 0 0) 3 0) g := by
  have hF := F
  obtain ⟨b0, b1, b2, b3, b4, b5, b6, b7, b8⟩ := F
  have hwl : (sWarn (setTy (addWa S id) eT)).length = (sWarn S).length + 1 := by show (sWarn S ++ [_]).length = _; simp
  have T2 : TyR (sTyped S) (i 3) (up2 f 15 (sWarn S).length id) := R.ty.cg (fun j _ _ => up2_ne (by omega))
  refine R.grow K (v := ((sWarn S).length, (num, sev, en), some ((bg, sp), sTyped S, cv))) rfl rfl rfl rfl rfl rfl rfl (by rw [len_addVe, hwl]; rfl) rfl rfl (tyR_eT b1) ?_ (fun j hj => by rw [b0 j (by omega), mkF_off (by omega), up2_ne (by omega)]) (fun j hj => by rw [b0 j (by omega), mkF_off (by omega), up2_ne (by omega)]) (fun x hx => ((VA.up (by omega)).trans (mkF_VA (by omega))).trans (b8 x (by omega))) (hF.ve T2 K.wt.2.2)
  intro x hx
  rw [len_addVe, hwl] at hx
  rw [wId_addVe, nwI_addVe (S := setTy (addWa S id) eT) (by rw [hwl]; omega), b0 15 (by omega), b0 16 (by omega), mkF_16, mkF_off (by omega)]
  show up2 f 15 (sWarn S).length id 15 x = wId (addWa S id) x ∧ _ = nI (if x = (sWarn S).length then (sVers S).length else nwI (addWa S id) x)
  rw [wId_addWa, up2_at, up2_ne (by omega)]
  by_cases e : x = (sWarn S).length
  · rw [if_pos ⟨rfl, e⟩, if_pos e, if_pos e, if_pos e]; exact ⟨rfl, rfl⟩
  · rw [if_neg (fun h => e h.2), if_neg e, if_neg e, if_neg e, nwI_addWa (by omega)]
    exact R.wa x (by omega)
end RG
section RH
variable {S : SS} {t : Int32} {i : Nat → Int32} {f : Nat → Nat → Int32} {n v : Nat} {x : HaS}
theorem getD_set {α : Type} {l : List α} {k j : Nat} {y d : α} (h : k < l.length) : (l.set k y).getD j d = if j = k then y else l.getD j d := by
  by_cases e : j = k
  · rw [if_pos e, e, getD_set_self h]
  · rw [if_neg e, getD_set_ne e]
theorem Rel.hres {w : Nat} (R : Rel S t i f) (K : LOK S) (hn : (sHs S)[n]? = some x) (hw : w < 12) : Rel (setHs S n (hRes x v w)) t i (up2 (up2 f 35 (12 * n + w) (vNum S v)) 36 (12 * n + w) 0) := by
  obtain ⟨a1, a2, a3, a4, a5, a6, a7, a8, a9, a10⟩ := R.hs n x hn
  have H := K.hl n x hn
  refine R.kHs K (List.getElem?_eq_some_iff.mp hn).1 (fun k hk _ => (HA.up (by omega)).trans (HA.up (by omega))) (fun j hj => by rw [up2_ne (by omega), up2_ne (by omega)]) ⟨?_, ?_, ?_, ?_, ?_, ?_, ?_, ?_, ?_, ?_⟩
  · rw [up2_ne (by omega), up2_ne (by omega)]; exact a1
  · rw [up2_ne (by omega), up2_ne (by omega)]; exact a2
  · rw [up2_ne (by omega), up2_ne (by omega)]; exact a3
  · rw [up2_ne (by omega), up2_ne (by omega)]; exact a4
  · rw [up2_ne (by omega), up2_ne (by omega)]; exact a5
  · rw [up2_ne (by omega), up2_ne (by omega)]; exact a6
  · intro y hy
    show up2 _ _ _ _ 35 (12 * n + y) = hdN S ((x.2.2.1.1.set w (some v)).getD y none) ∧ _ = (x.2.2.1.2.1.set w 0).getD y 0
    rw [getD_set (by rw [H.2.2.1]; exact hw), getD_set (by rw [H.2.2.2]; exact hw)]
    by_cases e : y = w
    · subst e
      rw [if_pos rfl, if_pos rfl, up2_ne (by omega), up2_on, up2_on]; exact ⟨rfl, rfl⟩
    · rw [if_neg e, if_neg e, up2_off (by omega), up2_off (by omega), up2_off (by omega), up2_off (by omega)]; exact a7 y hy
  · rw [up2_ne (by omega), up2_ne (by omega)]; exact a8
  · rw [up2_ne (by omega), up2_ne (by omega)]; exact a9
  · rw [up2_ne (by omega), up2_ne (by omega), up2_ne (by omega), up2_ne (by omega), up2_ne (by omega), up2_ne (by omega)]; exact a10
theorem Rel.hadd {w : Nat} {l m : Int32} (R : Rel S t i f) (K : LOK S) (hn : (sHs S)[n]? = some x) (hw : w < 12) : Rel (setHs S n (hAdd x w l m)) t i (up2 f 36 (12 * n + w) (x.2.2.1.2.1.getD w 0 ||| pBits l 1 <<< (m &&& 31))) := by
  obtain ⟨a1, a2, a3, a4, a5, a6, a7, a8, a9, a10⟩ := R.hs n x hn
  have H := K.hl n x hn
  refine R.kHs K (List.getElem?_eq_some_iff.mp hn).1 (fun k hk _ => HA.up (by omega)) (fun j hj => up2_ne (by omega)) ⟨?_, ?_, ?_, ?_, ?_, ?_, ?_, ?_, ?_, ?_⟩
  · rw [up2_ne (by omega)]; exact a1
  · rw [up2_ne (by omega)]; exact a2
  · rw [up2_ne (by omega)]; exact a3
  · rw [up2_ne (by omega)]; exact a4
  · rw [up2_ne (by omega)]; exact a5
  · rw [up2_ne (by omega)]; exact a6
  · intro y hy
    show up2 _ _ _ _ 35 (12 * n + y) = hdN S (x.2.2.1.1.getD y none) ∧ _ = (x.2.2.1.2.1.set w _).getD y 0
    rw [getD_set (by rw [H.2.2.2]; exact hw), up2_ne (by omega)]
    refine ⟨(a7 y hy).1, ?_⟩
    by_cases e : y = w
    · subst e
      rw [if_pos rfl, up2_on]
    · rw [if_neg e, up2_off (by omega)]; exact (a7 y hy).2
  · rw [up2_ne (by omega)]; exact a8
  · rw [up2_ne (by omega)]; exact a9
  · rw [up2_ne (by omega), up2_ne (by omega), up2_ne (by omega)]; exact a10
theorem Rel.hput {w : Nat} {s : SpS} {clk : Int32} (R : Rel S t i f) (K : LOK S) (hn : (sHs S)[n]? = some x) (hv : v < 40) (hr : x.2.2.2.length < 40) : Rel (setHs S n (hPut x v w s clk)) t i (up2 (up2 (up2 (up2 (up2 f 37 (40 * n + v) 1) 39 (40 * n + x.2.2.2.length) (nI v)) 40 (40 * n + x.2.2.2.length) (nI (chs x.2.1 s.2.1.2))) 41 (40 * n + x.2.2.2.length) clk) 38 n (nI (x.2.2.2.length + 1))) := by
  obtain ⟨a1, a2, a3, a4, a5, a6, a7, a8, a9, a10⟩ := R.hs n x hn
  have H := K.hl n x hn
  have hne : ∀ j, j < 37 → up2 (up2 (up2 (up2 (up2 f 37 (40 * n + v) 1) 39 (40 * n + x.2.2.2.length) (nI v)) 40 (40 * n + x.2.2.2.length) (nI (chs x.2.1 s.2.1.2))) 41 (40 * n + x.2.2.2.length) clk) 38 n (nI (x.2.2.2.length + 1)) j = f j := fun j hj => by rw [up2_ne (by omega), up2_ne (by omega), up2_ne (by omega), up2_ne (by omega), up2_ne (by omega)]
  refine R.kHs K (List.getElem?_eq_some_iff.mp hn).1 (fun k hk _ => ((((HA.up (by omega)).trans (HA.up (by omega))).trans (HA.up (by omega))).trans (HA.up (by omega))).trans (HA.up (by omega))) (fun j hj => hne j (by omega)) ⟨?_, ?_, ?_, ?_, ?_, ?_, ?_, ?_, ?_, ?_⟩
  · rw [hne 29 (by omega)]; exact a1
  · rw [hne 30 (by omega)]; exact a2
  · rw [hne 31 (by omega)]; exact a3
  · rw [hne 32 (by omega)]; exact a4
  · rw [hne 33 (by omega)]; exact a5
  · rw [hne 34 (by omega)]; exact a6
  · rw [hne 35 (by omega), hne 36 (by omega)]; exact a7
  · intro y hy
    show _ = b2i (decide (y ∈ (x.2.2.2 ++ [(v, nI (chs x.2.1 s.2.1.2), clk)]).map (·.1)))
    rw [up2_ne (by omega), up2_ne (by omega), up2_ne (by omega), up2_ne (by omega), List.map_append]
    by_cases e : y = v
    · subst e; rw [up2_on, decide_eq_true (by simp)]; rfl
    · rw [up2_off (by omega), a8 y hy]
      congr 1
      rw [decide_eq_decide]
      simp [e]
  · rw [up2_on]; show _ = nI (x.2.2.2 ++ [_]).length; simp
  · intro k hk
    have hk : k < (x.2.2.2 ++ [(v, nI (chs x.2.1 s.2.1.2), clk)]).length := hk
    rw [List.length_append, List.length_singleton] at hk
    show _ = nI ((x.2.2.2 ++ [(v, nI (chs x.2.1 s.2.1.2), clk)]).getD k (0, 0, 0)).1 ∧ _ = ((x.2.2.2 ++ [(v, nI (chs x.2.1 s.2.1.2), clk)]).getD k (0, 0, 0)).2.1 ∧ _ = ((x.2.2.2 ++ [(v, nI (chs x.2.1 s.2.1.2), clk)]).getD k (0, 0, 0)).2.2
    by_cases e : k = x.2.2.2.length
    · rw [e, getD_snoc_new]
      refine ⟨?_, ?_, ?_⟩
      · rw [up2_ne (by omega), up2_ne (by omega), up2_ne (by omega), up2_on]
      · rw [up2_ne (by omega), up2_ne (by omega), up2_on]
      · rw [up2_ne (by omega), up2_on]
    · rw [getD_snoc_old (by omega)]
      obtain ⟨b1, b2, b3⟩ := a10 k (by omega)
      refine ⟨?_, ?_, ?_⟩
      · rw [up2_ne (by omega), up2_ne (by omega), up2_ne (by omega), up2_off (by omega), up2_ne (by omega)]; exact b1
      · rw [up2_ne (by omega), up2_ne (by omega), up2_off (by omega), up2_ne (by omega), up2_ne (by omega)]; exact b2
      · rw [up2_ne (by omega), up2_off (by omega), up2_ne (by omega), up2_ne (by omega), up2_ne (by omega)]; exact b3
theorem Rel.halm {c : Int32} (R : Rel S t i f) (K : LOK S) (hn : (sHs S)[n]? = some x) : Rel (setHs S n (hAl x c)) t i (up2 f 34 n c) := by
  obtain ⟨a1, a2, a3, a4, a5, a6, a7, a8, a9, a10⟩ := R.hs n x hn
  refine R.kHs K (List.getElem?_eq_some_iff.mp hn).1 (fun k hk _ => HA.up (by omega)) (fun j hj => up2_ne (by omega)) ⟨?_, ?_, ?_, ?_, ?_, up2_on, ?_, ?_, ?_, ?_⟩
  · rw [up2_ne (by omega)]; exact a1
  · rw [up2_ne (by omega)]; exact a2
  · rw [up2_ne (by omega)]; exact a3
  · rw [up2_ne (by omega)]; exact a4
  · rw [up2_ne (by omega)]; exact a5
  · rw [up2_ne (by omega), up2_ne (by omega)]; exact a7
  · rw [up2_ne (by omega)]; exact a8
  · rw [up2_ne (by omega)]; exact a9
  · rw [up2_ne (by omega), up2_ne (by omega), up2_ne (by omega)]; exact a10
/-- what the heard number says -/
theorem skip_iff (K : SOK S) (hv : v < (sVers S).length) : hSkip S x v = true ↔ vNum S v < hdN S (x.2.2.1.1.getD (vAt S v).1 none) := by
  obtain ⟨k, k1, k2, k3⟩ := K.nm v hv
  have h40 := K.wf.2.2.2.1
  unfold hSkip
  cases ho : x.2.2.1.1.getD (vAt S v).1 none with
  | none =>
    refine ⟨fun h => (by cases h), fun h => ?_⟩
    have h : vNum S v < 0 := h
    rw [k1] at h
    exact absurd h (nI_pos (by omega))
  | some v' =>
    show (!decide (vNum S v' ≤ vNum S v)) = true ↔ vNum S v < vNum S v'
    rw [Bool.not_eq_true', decide_eq_false_iff_not, Int32.not_le]
theorem more_iff (K : SOK S) (hn : (sHs S)[n]? = some x) (hv : v < (sVers S).length) (h : ¬ vNum S v < hdN S (x.2.2.1.1.getD (vAt S v).1 none)) : x.2.2.1.1.getD (vAt S v).1 none = some v ↔ vNum S v ≤ hdN S (x.2.2.1.1.getD (vAt S v).1 none) := by
  obtain ⟨k, k1, k2, k3⟩ := K.nm v hv
  have h40 := K.wf.2.2.2.1
  have H := K.hk n x hn
  cases ho : x.2.2.1.1.getD (vAt S v).1 none with
  | none =>
    refine ⟨fun h => (by cases h), fun h => ?_⟩
    have h : vNum S v ≤ 0 := h
    rw [k1] at h
    exact absurd h (by rw [nI_le0 (by omega)]; omega)
  | some v' =>
    show some v' = some v ↔ vNum S v ≤ vNum S v'
    rw [ho] at h
    have h : ¬ vNum S v < vNum S v' := h
    have hv' := H.1.2.2.2.2.2.1 v' (getD_mem ho)
    refine ⟨fun e => by cases e; exact Int32.le_refl _, fun e => ?_⟩
    have e2 : vNum S v' = vNum S v := by
      rw [Int32.lt_iff_toInt_lt] at h; rw [Int32.le_iff_toInt_le] at e
      exact Int32.toInt_inj.mp (by omega)
    rw [K.nk v' v hv' hv (H.2.2.1 _ _ ho) e2]
theorem was_iff (K : SOK S) (hn : (sHs S)[n]? = some x) (hh : x.2.2.1.1.getD (vAt S v).1 none = some v) : x.2.2.1.2.2.getD (vAt S v).1 false = decide (v ∈ x.2.2.2.map (·.1)) := by
  obtain ⟨H, X⟩ := K.hx n x hn
  rw [Bool.eq_iff_iff, decide_eq_true_iff]
  constructor
  · intro h
    obtain ⟨v', a1, a2⟩ := X.1 _ h
    rw [hh] at a1; cases a1; exact a2
  · intro h
    obtain ⟨p, p1, p2⟩ := List.mem_map.mp h
    obtain ⟨v', b1, b2⟩ := H.2.2.2 p p1
    have p2 : p.1 = v := p2
    rw [p2] at b1 b2
    rw [hh] at b1; cases b1
    rcases b2 with b2 | b2
    · exact (i32_irr b2).elim
    · exact b2.2
end RH
