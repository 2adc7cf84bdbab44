/-! what else holds of every state of the class -/
def BdX (x : Int32) (b : Int) : Prop := -b ≤ x.toInt ∧ x.toInt ≤ b
def PtX (a : Pts) : Prop := ∀ p ∈ a, BdX p.1 1000 ∧ BdX p.2 1000
def CelX (c : CeS) : Prop := BdX c.1.1 1000 ∧ BdX c.1.2.1 1000 ∧ BdX c.1.2.2 2000 ∧ 0 ≤ c.1.2.2.toInt
def PgX (S : SS) (c : CeS) : Prop := ∀ p ∈ c.2.2.2, ((vAt S p.1).2.2 = none → p.2 = (3, 0)) ∧ ((vAt S p.1).2.2.isSome = true → ∃ n, n < 3 ∧ p.2.2 = nI n)
def HsX (S : SS) (h : HaS) : Prop := (∀ w, h.2.2.1.2.2.getD w false = true → ∃ v, h.2.2.1.1.getD w none = some v ∧ v ∈ h.2.2.2.map (·.1)) ∧ (∀ w, ∃ k, k < 512 ∧ h.2.2.1.2.1.getD w 0 = nI k) ∧ (h.1.2.1 = -1 ∨ pIx h.1.2.1 (sCells S).length = true)
def NmX (S : SS) : Prop := ∀ i, i < (sVers S).length → ∃ k, vNum S i = nI k ∧ 1 ≤ k ∧ k ≤ i + 1
def NwX (S : SS) : Prop := ∀ w, w < (sWarn S).length → (nwV S w).1 = w ∧ ∀ j, j < (sVers S).length → (vAt S j).1 = w → vNum S j ≤ vNum S (nwI S w)
def OdX (S : SS) : Prop := (sOrd S).Pairwise (fun a b => wId S a < wId S b) ∧ ∀ w, w < (sWarn S).length → w ∈ sOrd S
def GvX (S : SS) : Prop := ∀ (i : Nat) (v : VeS) (s : SpS), (sVers S)[i]? = some v → v.2.2 = some s → PtX s.2.1.1
def CvX (S : SS) : Prop := ∀ w, w < (sWarn S).length → ∀ s, (nwV S w).2.2 = some s → ∀ j, j < (sCells S).length → s.2.2.getD j false = rch S s.2.1.1 j
def SOK (S : SS) : Prop := (Wf S) ∧
  (WfT S) ∧
  (WfV S) ∧
  (WfC S) ∧
  (NumOK S) ∧
  (NmX S) ∧
  (NwX S) ∧
  (OdX S) ∧
  (PtX (sTyped S).1) ∧
  (GvX S) ∧
  (CvX S) ∧
  (∀ (i : Nat) (c : CeS), (sCells S)[i]? = some c → CelX c ∧ PgX S c) ∧
  (∀ (i : Nat) (h : HaS), (sHs S)[i]? = some h → HOK S h ∧ HsX S h)
theorem SOK.wf {S : SS} (K : SOK S) : Wf S := K.1
theorem SOK.wt {S : SS} (K : SOK S) : WfT S := K.2.1
theorem SOK.wv {S : SS} (K : SOK S) : WfV S := K.2.2.1
theorem SOK.wc {S : SS} (K : SOK S) : WfC S := K.2.2.2.1
theorem SOK.nk {S : SS} (K : SOK S) : NumOK S := K.2.2.2.2.1
theorem SOK.nm {S : SS} (K : SOK S) : NmX S := K.2.2.2.2.2.1
theorem SOK.nw {S : SS} (K : SOK S) : NwX S := K.2.2.2.2.2.2.1
theorem SOK.od {S : SS} (K : SOK S) : OdX S := K.2.2.2.2.2.2.2.1
theorem SOK.gt {S : SS} (K : SOK S) : PtX (sTyped S).1 := K.2.2.2.2.2.2.2.2.1
theorem SOK.gv {S : SS} (K : SOK S) : GvX S := K.2.2.2.2.2.2.2.2.2.1
theorem SOK.cv {S : SS} (K : SOK S) : CvX S := K.2.2.2.2.2.2.2.2.2.2.1
theorem SOK.cx {S : SS} (K : SOK S) : ∀ (i : Nat) (c : CeS), (sCells S)[i]? = some c → CelX c ∧ PgX S c := K.2.2.2.2.2.2.2.2.2.2.2.1
theorem SOK.hx {S : SS} (K : SOK S) : ∀ (i : Nat) (h : HaS), (sHs S)[i]? = some h → HOK S h ∧ HsX S h := K.2.2.2.2.2.2.2.2.2.2.2.2
theorem SOK.rf {S : SS} (K : SOK S) : RfS S := by
  obtain ⟨w1, w2, w3, w4, w5, w6, w7, w8⟩ := K.wf
  refine ⟨fun i c hc => ⟨(K.wc i c hc).2.1, fun q hq => ((K.wc i c hc).2.2.2 q hq).1⟩, w6, fun w x v hx hv => ?_, w8, fun i h hh => ⟨(K.hx i h hh).1.1.2.2.2.2.2.1, fun q hq => ((K.hx i h hh).1.1.2.2.2.2.2.2.2 q hq).1⟩⟩
  obtain ⟨v', a1, a2⟩ := w7 w x hx
  rw [a1] at hv; cases hv; exact a2
theorem SOK.hk {S : SS} (K : SOK S) (i : Nat) (h : HaS) (hh : (sHs S)[i]? = some h) : HOK S h := (K.hx i h hh).1
theorem SOK.wh {S : SS} (K : SOK S) : WfH S := fun i h hh => (K.hk i h hh).1
theorem nwI_lt' {S : SS} {w : Nat} (W : Wf S) (h1 : w < (sWarn S).length) : nwI S w < (sVers S).length := by
  obtain ⟨v, h2, h3⟩ := W.2.2.2.2.2.2.1 w _ (List.getElem?_eq_getElem h1)
  unfold nwI
  rw [List.getD_eq_getElem?_getD, List.getElem?_eq_getElem h1, Option.getD_some, h2]
  exact h3
theorem SOK.w12 {S : SS} (K : SOK S) {v : Nat} (h : v < (sVers S).length) : (vAt S v).1 < (sWarn S).length := by
  have := K.wf.2.2.2.2.2.2.2 v _ (List.getElem?_eq_getElem h)
  unfold vAt
  rw [List.getD_eq_getElem?_getD, List.getElem?_eq_getElem h, Option.getD_some]
  exact this
theorem vAt_get {S : SS} {v : Nat} (h : v < (sVers S).length) : (sVers S)[v]? = some (vAt S v) := by
  unfold vAt
  rw [List.getD_eq_getElem?_getD, List.getElem?_eq_getElem h, Option.getD_some]
/-- typed things, clock -/
theorem SOK.ty {S : SS} {m : Pts × Tx} (K : SOK S) (h1 : m.1.length ≤ 8) (h2 : m.2.length = 3) (h3 : ∀ l, tl m.2 l ≤ 30) (h4 : PtX m.1) : SOK (setTy S m) :=
  ⟨K.wf, ⟨h1, h2, h3⟩, K.wv, K.wc, K.nk, K.nm, K.nw, K.od, h4, K.gv, K.cv, K.cx, K.hx⟩
theorem SOK.ck {S : SS} {k : Int32} (K : SOK S) : SOK (setCk S k) :=
  ⟨K.wf, K.wt, K.wv, K.wc, K.nk, K.nm, K.nw, K.od, K.gt, K.gv, K.cv, K.cx, K.hx⟩
/-- one cell, one handset -/
theorem SOK.ce {S : SS} {i : Nat} {c c' : CeS} (K : SOK S) (hc : (sCells S)[i]? = some c) (h1 : c'.1 = c.1) (h2 : CO S c') (h3 : PgX S c') : SOK (setCe S i c') := by
  have hi := (List.getElem?_eq_some_iff.mp hc).1
  have hl : (sCells (setCe S i c')).length = (sCells S).length := List.length_set
  have hg : ∀ (j : Nat) (x : CeS), (sCells (setCe S i c'))[j]? = some x → (j = i ∧ x = c') ∨ (sCells S)[j]? = some x := by
    intro j x hx
    have hx : ((sCells S).set i c')[j]? = some x := hx
    rw [List.getElem?_set] at hx
    by_cases e : i = j
    · rw [if_pos e, if_pos hi] at hx
      exact Or.inl ⟨e.symm, (Option.some.inj hx).symm⟩
    · rw [if_neg e] at hx; exact Or.inr hx
  have hr : ∀ a j, rch (setCe S i c') a j = rch S a j := by
    intro a j
    unfold rch
    have : (cAtN (setCe S i c') j).1 = (cAtN S j).1 := by
      show (((sCells S).set i c').getD j cD).1 = ((sCells S).getD j cD).1
      rw [List.getD_eq_getElem?_getD, List.getD_eq_getElem?_getD, List.getElem?_set]
      by_cases e : i = j
      · subst e
        rw [if_pos rfl, if_pos hi, hc]; exact h1
      · rw [if_neg e]
    rw [this]
  obtain ⟨w1, w2, w3, w4, w5, w6, w7, w8⟩ := K.wf
  refine ⟨⟨w1, w2, by rw [hl]; exact w3, w4, w5, w6, w7, w8⟩, K.wt, K.wv, ?_, K.nk, K.nm, K.nw, K.od, K.gt, K.gv, ?_, ?_, ?_⟩
  · intro j x hx
    rcases hg j x hx with ⟨_, e⟩ | e
    · rw [e]; exact h2
    · exact K.wc j x e
  · intro w hw s hs j hj
    rw [hr]
    rw [hl] at hj
    exact K.cv w hw s hs j hj
  · intro j x hx
    rcases hg j x hx with ⟨_, e⟩ | e
    · rw [e]; exact ⟨by have := (K.cx i c hc).1; unfold CelX at *; rw [h1]; exact this, h3⟩
    · exact K.cx j x e
  · intro j x hx
    obtain ⟨a, b1, b2, b3⟩ := K.hx j x hx
    exact ⟨a, b1, b2, by rw [hl]; exact b3⟩
theorem SOK.hs {S : SS} {i : Nat} {h' : HaS} (K : SOK S) (h1 : HOK S h') (h2 : HsX S h') : SOK (setHs S i h') := by
  obtain ⟨w1, w2, w3, w4, w5, w6, w7, w8⟩ := K.wf
  refine ⟨⟨w1, w2, w3, w4, by show ((sHs S).set i h').length ≤ 3; rw [List.length_set]; exact w5, w6, w7, w8⟩, K.wt, K.wv, K.wc, K.nk, K.nm, K.nw, K.od, K.gt, K.gv, K.cv, K.cx, ?_⟩
  intro j x hx
  have hx : ((sHs S).set i h')[j]? = some x := hx
  rw [List.getElem?_set] at hx
  by_cases e : i = j
  · rw [if_pos e] at hx
    split at hx
    · cases hx; exact ⟨h1, h2⟩
    · cases hx
  · rw [if_neg e] at hx; exact K.hx j x hx
/-- versions come, or their cover changes -/
def VEx (S S' : SS) : Prop := (sVers S).length ≤ (sVers S').length ∧ ∀ v, v < (sVers S).length → (vAt S' v).1 = (vAt S v).1 ∧ (vAt S' v).2.1 = (vAt S v).2.1 ∧ (vAt S' v).2.2.isSome = (vAt S v).2.2.isSome
theorem VEx.num {S S' : SS} (X : VEx S S') {v : Nat} (h : v < (sVers S).length) : vNum S' v = vNum S v := by
  unfold vNum; rw [(X.2 v h).2.1]
theorem VEx.hok {S S' : SS} {h : HaS} (X : VEx S S') (H : HOK S h) : HOK S' h := by
  obtain ⟨⟨a1, a2, a3, a4, a5, a6, a7, a8⟩, b1, b2, b3⟩ := H
  refine ⟨⟨a1, a2, a3, a4, a5, fun v hv => Nat.lt_of_lt_of_le (a6 v hv) X.1, a7, fun p hp => ?_⟩, b1, fun w v hv => ?_, fun p hp => ?_⟩
  · obtain ⟨c1, c2, c3⟩ := a8 p hp
    exact ⟨Nat.lt_of_lt_of_le c1 X.1, by rw [(X.2 _ c1).2.2]; exact c2, c3⟩
  · rw [(X.2 v (a6 v (getD_mem hv))).1]; exact b2 w v hv
  · obtain ⟨c1, c2, c3⟩ := a8 p hp
    obtain ⟨v', d1, d2⟩ := b3 p hp
    rw [(X.2 _ c1).1, X.num c1]
    exact ⟨v', d1, by rw [X.num (a6 v' (getD_mem d1))]; exact d2⟩
theorem VEx.co {S S' : SS} {c : CeS} (X : VEx S S') (H : CO S c) : CO S' c := by
  obtain ⟨a1, a2, a3, a4⟩ := H
  refine ⟨a1, fun v hv => Nat.lt_of_lt_of_le (a2 v hv) X.1, a3, fun p hp => ?_⟩
  obtain ⟨b1, b2⟩ := a4 p hp
  exact ⟨Nat.lt_of_lt_of_le b1 X.1, by rw [(X.2 _ b1).2.2]; exact b2⟩
theorem VEx.pg {S S' : SS} {c : CeS} (X : VEx S S') (C : CO S c) (H : PgX S c) : PgX S' c := by
  intro p hp
  obtain ⟨b1, b2⟩ := C.2.2.2 p hp
  have e := (X.2 _ b1).2.2
  rw [e]
  refine ⟨fun h => (H p hp).1 ?_, (H p hp).2⟩
  rw [h] at e
  cases hs : (vAt S p.1).2.2 with
  | none => rfl
  | some s => rw [hs] at e; cases e
theorem pIx_mono {x : Int32} {n m : Nat} (h : pIx x n = true) (hn : n ≤ m) (hm : m < 2 ^ 31) : pIx x m = true := by
  obtain ⟨k, h1, h2⟩ := pIx_nat h (by omega)
  subst h2
  unfold pIx
  rw [decide_eq_false (nI_pos (by omega)), decide_eq_false (nI_ge (by omega) (by omega))]
  rfl
theorem SOK.grow {S S' : SS} {w : Nat} {v : VeS} (K : SOK S) (hC : sCells S' = sCells S) (hH : sHs S' = sHs S) (hV : sVers S' = sVers S ++ [v]) (W : Wf S') (T : WfT S') (G : PtX (sTyped S').1) (O : OdX S')
    (_h40 : (sVers S).length < 40) (hw : w < (sWarn S').length) (hn : nwI S' w = (sVers S).length) (ho : ∀ w', w' < (sWarn S').length → w' ≠ w → w' < (sWarn S).length ∧ nwI S' w' = nwI S w') (hv1 : v.1 = w)
    (hlt : ∀ j, j < (sVers S).length → (vAt S j).1 = w → vNum S j < v.2.1.1) (hk : ∃ k, v.2.1.1 = nI k ∧ 1 ≤ k ∧ k ≤ (sVers S).length + 1)
    (hs : ∀ s, v.2.2 = some s → (s.2.1.1.length ≤ 8 ∧ s.2.1.2.length = 3 ∧ (∀ l, tl s.2.1.2 l ≤ 30) ∧ s.2.2.length = 8 ∧ ¬ s.1.2 = 0) ∧ PtX s.2.1.1 ∧ ∀ j, j < (sCells S).length → s.2.2.getD j false = rch S s.2.1.1 j) : SOK S' := by
  have hold : ∀ i, i < (sVers S).length → vAt S' i = vAt S i := by
    intro i hi
    unfold vAt; rw [hV, List.getD_eq_getElem?_getD, List.getElem?_append_left hi, ← List.getD_eq_getElem?_getD]
  have hnew : vAt S' (sVers S).length = v := by
    unfold vAt; rw [hV, List.getD_eq_getElem?_getD, List.getElem?_append_right (Nat.le_refl _)]; simp
  have hlen : (sVers S').length = (sVers S).length + 1 := by rw [hV]; simp
  have X : VEx S S' := ⟨by omega, fun i hi => by rw [hold i hi]; exact ⟨rfl, rfl, rfl⟩⟩
  have hnum : vNum S' (sVers S).length = v.2.1.1 := by unfold vNum; rw [hnew]
  have hget : ∀ (i : Nat) (x : VeS), (sVers S')[i]? = some x → (sVers S)[i]? = some x ∨ (i = (sVers S).length ∧ x = v) := by
    intro i x hx
    have hi := (List.getElem?_eq_some_iff.mp hx).1
    by_cases e : i < (sVers S).length
    · left; rw [hV, List.getElem?_append_left e] at hx; exact hx
    · right
      have e2 : i = (sVers S).length := by omega
      subst e2
      rw [hV, List.getElem?_append_right (Nat.le_refl _)] at hx
      simp at hx
      exact ⟨rfl, hx.symm⟩
  have hr : ∀ a j, rch S' a j = rch S a j := by intro a j; unfold rch cAtN; rw [hC]
  refine ⟨W, T, ?_, ?_, ?_, ?_, ?_, O, G, ?_, ?_, ?_, ?_⟩
  · intro i x s hx hxs
    rcases hget i x hx with h | ⟨_, h⟩
    · exact K.wv i x s h hxs
    · rw [h] at hxs; exact (hs s hxs).1
  · intro i c hc
    rw [hC] at hc
    exact X.co (K.wc i c hc)
  · intro i j hi hj h1 h2
    by_cases ei : i < (sVers S).length
    · by_cases ej : j < (sVers S).length
      · rw [hold i ei, hold j ej] at h1
        rw [X.num ei, X.num ej] at h2
        exact K.nk i j ei ej h1 h2
      · have ej2 : j = (sVers S).length := by omega
        subst ej2
        rw [hold i ei, hnew, hv1] at h1
        rw [X.num ei, hnum] at h2
        have := hlt i ei h1
        rw [h2] at this; exact (i32_irr this).elim
    · have ei2 : i = (sVers S).length := by omega
      subst ei2
      by_cases ej : j < (sVers S).length
      · rw [hold j ej, hnew, hv1] at h1
        rw [X.num ej, hnum] at h2
        have := hlt j ej h1.symm
        rw [← h2] at this; exact (i32_irr this).elim
      · omega
  · intro i hi
    by_cases ei : i < (sVers S).length
    · rw [X.num ei]; exact K.nm i ei
    · have ei2 : i = (sVers S).length := by omega
      subst ei2
      rw [hnum]; exact hk
  · intro w' hw'
    by_cases e : w' = w
    · subst e
      unfold nwV
      rw [hn, hnew, hnum]
      refine ⟨hv1, fun j hj hj2 => ?_⟩
      by_cases ej : j < (sVers S).length
      · rw [hold j ej] at hj2
        rw [X.num ej]
        exact Int32.le_of_lt (hlt j ej hj2)
      · have ej2 : j = (sVers S).length := by omega
        subst ej2
        rw [hnum]; exact Int32.le_refl _
    · obtain ⟨h1, h2⟩ := ho w' hw' e
      obtain ⟨h3, h4⟩ := K.nw w' h1
      have h5 := nwI_lt' K.wf h1
      unfold nwV at *
      rw [h2, hold _ h5, X.num h5]
      refine ⟨h3, fun j hj hj2 => ?_⟩
      by_cases ej : j < (sVers S).length
      · rw [hold j ej] at hj2
        rw [X.num ej]
        exact h4 j ej hj2
      · have ej2 : j = (sVers S).length := by omega
        subst ej2
        rw [hnew, hv1] at hj2
        exact absurd hj2.symm e
  · intro i x s hx hxs
    rcases hget i x hx with h | ⟨_, h⟩
    · exact K.gv i x s h hxs
    · rw [h] at hxs; exact (hs s hxs).2.1
  · intro w' hw' s hsp j hj
    rw [hr]
    rw [hC] at hj
    by_cases e : w' = w
    · subst e
      unfold nwV at hsp
      rw [hn, hnew] at hsp
      exact (hs s hsp).2.2 j hj
    · obtain ⟨h1, h2⟩ := ho w' hw' e
      unfold nwV at hsp
      rw [h2, hold _ (nwI_lt' K.wf h1)] at hsp
      exact K.cv w' h1 s hsp j hj
  · intro i c hc
    rw [hC] at hc
    exact ⟨(K.cx i c hc).1, X.pg (K.wc i c hc) (K.cx i c hc).2⟩
  · intro i h hh
    rw [hH] at hh
    obtain ⟨a, b1, b2, b3⟩ := K.hx i h hh
    exact ⟨X.hok a, b1, b2, by rw [hC]; exact b3⟩
theorem cvTo_at (S : SS) (a : Pts) {k : Nat} (hk : k ≤ 8) : ∀ j, j < k → (cvTo S a k).getD j false = rch S a j := by
  induction k with
  | zero => exact fun j h => absurd h (Nat.not_lt_zero j)
  | succ k ih =>
    intro j hj
    unfold cvTo
    by_cases e : j = k
    · subst e; exact getD_set_self (by rw [cvTo_len]; omega)
    · rw [getD_set_ne e]; exact ih (by omega) j (by omega)
theorem i32_lt_succ {k : Nat} (h : k < 100) {x : Int32} (hx : x ≤ nI k) : x < nI k + 1 := by
  rw [← nI_succ]
  rw [Int32.le_iff_toInt_le, nI_toInt (by omega)] at hx
  rw [Int32.lt_iff_toInt_lt, nI_toInt (by omega)]
  omega
theorem wId_set {S : SS} {w x : Nat} {o : Option Nat} : (((sWarn S).set w (wId S w, o)).getD x (0, none)).1 = wId S x := by
  rw [List.getD_eq_getElem?_getD, List.getElem?_set]
  by_cases e : w = x
  · subst e
    rw [if_pos rfl]
    split
    · rfl
    · rename_i h; unfold wId; rw [List.getD_eq_getElem?_getD, List.getElem?_eq_none (by omega)]
  · rw [if_neg e]; unfold wId; rw [List.getD_eq_getElem?_getD]
/-- a version more of an old warning -/
theorem SOK.ve {S : SS} {w : Nat} {v : VeS} (K : SOK S) (hw : w < (sWarn S).length) (h40 : (sVers S).length < 40) (hv1 : v.1 = w) (hv2 : v.2.1.1 = vNum S (nwI S w) + 1)
    (hs : ∀ s, v.2.2 = some s → (s.2.1.1.length ≤ 8 ∧ s.2.1.2.length = 3 ∧ (∀ l, tl s.2.1.2 l ≤ 30) ∧ s.2.2.length = 8 ∧ ¬ s.1.2 = 0) ∧ PtX s.2.1.1 ∧ ∀ j, j < (sCells S).length → s.2.2.getD j false = rch S s.2.1.1 j) : SOK (addVe S w v) := by
  obtain ⟨w1, w2, w3, w4, w5, w6, w7, w8⟩ := K.wf
  have hwl : (sWarn (addVe S w v)).length = (sWarn S).length := List.length_set
  have hid : ∀ x, wId (addVe S w v) x = wId S x := fun x => wId_set
  have hvl : (sVers (addVe S w v)).length = (sVers S).length + 1 := by show (sVers S ++ [v]).length = _; simp
  obtain ⟨k, k1, k2, k3⟩ := K.nm _ (nwI_lt' K.wf hw)
  have hnl := nwI_lt' K.wf hw
  refine K.grow (w := w) (v := v) rfl rfl rfl ?_ K.wt K.gt ?_ h40 (by rw [hwl]; exact hw) ?_ ?_ hv1 ?_ ?_ hs
  · refine ⟨by rw [hwl]; exact w1, by rw [hwl]; exact w2, w3, by rw [hvl]; omega, w5, by rw [hwl]; exact w6, fun x y hy => ?_, fun i y hy => ?_⟩
    · have hy : ((sWarn S).set w (wId S w, some (sVers S).length))[x]? = some y := hy
      rw [List.getElem?_set] at hy
      by_cases e : w = x
      · rw [if_pos e, if_pos hw] at hy
        cases hy
        exact ⟨_, rfl, by rw [hvl]; omega⟩
      · rw [if_neg e] at hy
        obtain ⟨z, z1, z2⟩ := w7 x y hy
        exact ⟨z, z1, by rw [hvl]; omega⟩
    · have hy : (sVers S ++ [v])[i]? = some y := hy
      rw [hwl]
      by_cases e : i < (sVers S).length
      · rw [List.getElem?_append_left e] at hy; exact w8 i y hy
      · rw [List.getElem?_append_right (by omega)] at hy
        have := (List.getElem?_eq_some_iff.mp hy).1
        have e2 : i - (sVers S).length = 0 := by simp at this; omega
        rw [e2] at hy; simp at hy
        rw [← hy, hv1]; exact hw
  · refine ⟨?_, by rw [hwl]; exact K.od.2⟩
    have := K.od.1
    show (sOrd S).Pairwise _
    exact this.imp (fun {a b} h => by rw [hid, hid]; exact h)
  · show (((sWarn S).set w (wId S w, some (sVers S).length)).getD w (0, none)).2.getD 0 = _
    rw [getD_set_self hw]; rfl
  · intro w' h1 h2
    rw [hwl] at h1
    refine ⟨h1, ?_⟩
    show (((sWarn S).set w (wId S w, some (sVers S).length)).getD w' (0, none)).2.getD 0 = _
    rw [getD_set_ne h2]; rfl
  · intro j hj hj2
    rw [hv2]
    have := (K.nw w hw).2 j hj hj2
    rw [k1] at this ⊢
    exact i32_lt_succ (by omega) this
  · exact ⟨k + 1, by rw [hv2, k1, nI_succ], by omega, by omega⟩
theorem insP_ge (S : SS) (id : Int32) : ∀ q j, insP S id q ≤ j → j < q → ¬ wId S ((sOrd S).getD j 0) ≤ id
  | 0, j, _, h => absurd h (Nat.not_lt_zero j)
  | q + 1, j, h1, h2 => by
    unfold insP at h1
    split at h1
    · omega
    · rename_i h3
      by_cases e : j = q
      · subst e; exact h3
      · exact insP_ge S id q j h1 (by omega)
theorem insP_lt (S : SS) (id : Int32) : ∀ q, 0 < insP S id q → wId S ((sOrd S).getD (insP S id q - 1) 0) ≤ id
  | 0, h => absurd h (Nat.not_lt_zero _)
  | q + 1, h => by
    unfold insP at h ⊢
    split
    · rename_i h3; exact h3
    · rename_i h3
      rw [if_neg h3] at h
      exact insP_lt S id q h
theorem fnd_none {S : SS} {id : Int32} (h : fnd S id = none) {w : Nat} (hw : w ∈ sOrd S) : wId S w ≠ id := by
  have := List.find?_eq_none.mp h w hw
  simpa using this
theorem i32_lt_of_le_ne {x y : Int32} (h : x ≤ y) (hn : x ≠ y) : x < y := by
  rw [Int32.lt_iff_toInt_lt]; rw [Int32.le_iff_toInt_le] at h
  have : x.toInt ≠ y.toInt := fun e => hn (Int32.toInt_inj.mp e)
  omega
theorem getD_mem' {l : List Nat} {j : Nat} (h : j < l.length) : l.getD j 0 ∈ l := by
  rw [List.getD_eq_getElem?_getD, List.getElem?_eq_getElem h]; exact List.getElem_mem h
theorem newOrd_pw {S : SS} {id : Int32} (hp : (sOrd S).Pairwise (fun a b => wId S a < wId S b)) (hf : fnd S id = none) {g : Nat → Int32} (g1 : ∀ w ∈ sOrd S, g w = wId S w) (g2 : g (sWarn S).length = id) : (newOrd S id).Pairwise (fun a b => g a < g b) := by
  have hp0 := hp
  have hpl := insP_le S id (sOrd S).length
  have hge := insP_ge S id (sOrd S).length
  have hlt := insP_lt S id (sOrd S).length
  unfold newOrd
  generalize insP S id (sOrd S).length = p at *
  rw [← List.take_append_drop p (sOrd S), List.pairwise_append] at hp
  obtain ⟨t1, t2, t3⟩ := hp
  have hT : ∀ x ∈ (sOrd S).take p, wId S x < id := by
    intro x hx
    obtain ⟨j, hj, e⟩ := List.getElem_of_mem hx
    rw [List.length_take] at hj
    rw [List.getElem_take] at e
    have hjl : j < (sOrd S).length := by omega
    have h1 := hlt (by omega)
    have hq : p - 1 < (sOrd S).length := by omega
    have h2 := i32_lt_of_le_ne h1 (fnd_none hf (getD_mem' hq))
    by_cases ej : j = p - 1
    · rw [← e]
      rw [List.getD_eq_getElem?_getD, List.getElem?_eq_getElem hq] at h2
      subst ej; exact h2
    · have h3 := List.pairwise_iff_getElem.mp hp0 j (p - 1) hjl hq (by omega)
      rw [e] at h3
      rw [List.getD_eq_getElem?_getD, List.getElem?_eq_getElem hq] at h2
      exact i32_lt_tr h3 h2
  have hD : ∀ x ∈ (sOrd S).drop p, id < wId S x := by
    intro x hx
    obtain ⟨j, hj, e⟩ := List.getElem_of_mem hx
    rw [List.length_drop] at hj
    rw [List.getElem_drop] at e
    have h1 := hge (p + j) (by omega) (by omega)
    rw [List.getD_eq_getElem?_getD, List.getElem?_eq_getElem (by omega), Option.getD_some, e] at h1
    exact i32_pos h1
  have m1 : ∀ x ∈ (sOrd S).take p, g x = wId S x := fun x hx => g1 x (List.mem_of_mem_take hx)
  have m2 : ∀ x ∈ (sOrd S).drop p, g x = wId S x := fun x hx => g1 x (List.mem_of_mem_drop hx)
  rw [List.pairwise_append]
  refine ⟨t1.imp_of_mem (fun {a b} ha hb h => by rw [m1 a ha, m1 b hb]; exact h), ?_, ?_⟩
  · rw [List.pairwise_cons]
    refine ⟨fun x hx => by rw [g2, m2 x hx]; exact hD x hx, t2.imp_of_mem (fun {a b} ha hb h => by rw [m2 a ha, m2 b hb]; exact h)⟩
  · intro x hx y hy
    rw [m1 x hx]
    rcases List.mem_cons.mp hy with h | h
    · subst h; rw [g2]; exact hT x hx
    · rw [m2 y h]; exact t3 x hx y h
theorem newOrd_in {S : SS} {id : Int32} {w : Nat} (h : w ∈ sOrd S ∨ w = (sWarn S).length) : w ∈ newOrd S id := by
  unfold newOrd
  rcases h with h | h
  · rw [← List.take_append_drop (insP S id (sOrd S).length) (sOrd S)] at h
    rcases List.mem_append.mp h with h | h
    · exact List.mem_append.mpr (Or.inl h)
    · exact List.mem_append.mpr (Or.inr (List.mem_cons_of_mem _ h))
  · subst h; exact List.mem_append.mpr (Or.inr List.mem_cons_self)
/-- a new warning and its first version -/
theorem SOK.wa {S : SS} {id : Int32} {v : VeS} (K : SOK S) (hf : fnd S id = none) (h12 : (sWarn S).length < 12) (h40 : (sVers S).length < 40) (hv1 : v.1 = (sWarn S).length) (hv2 : v.2.1.1 = 1)
    (hs : ∀ s, v.2.2 = some s → (s.2.1.1.length ≤ 8 ∧ s.2.1.2.length = 3 ∧ (∀ l, tl s.2.1.2 l ≤ 30) ∧ s.2.2.length = 8 ∧ ¬ s.1.2 = 0) ∧ PtX s.2.1.1 ∧ ∀ j, j < (sCells S).length → s.2.2.getD j false = rch S s.2.1.1 j) : SOK (addVe (addWa S id) (sWarn S).length v) := by
  obtain ⟨w1, w2, w3, w4, w5, w6, w7, w8⟩ := K.wf
  have hw0 : wId (addWa S id) (sWarn S).length = id := by
    show ((sWarn S ++ [(id, none)]).getD (sWarn S).length (0, none)).1 = id
    rw [List.getD_eq_getElem?_getD, List.getElem?_append_right (Nat.le_refl _)]; simp
  have hwo : ∀ x, x < (sWarn S).length → wId (addWa S id) x = wId S x := by
    intro x hx
    show ((sWarn S ++ [(id, none)]).getD x (0, none)).1 = _
    rw [List.getD_eq_getElem?_getD, List.getElem?_append_left hx, ← List.getD_eq_getElem?_getD]; rfl
  have hwl : (sWarn (addVe (addWa S id) (sWarn S).length v)).length = (sWarn S).length + 1 := by
    show ((sWarn S ++ [(id, none)]).set _ _).length = _
    rw [List.length_set]; simp
  have hid : ∀ x, wId (addVe (addWa S id) (sWarn S).length v) x = wId (addWa S id) x := fun x => wId_set
  have hvl : (sVers (addVe (addWa S id) (sWarn S).length v)).length = (sVers S).length + 1 := by show (sVers S ++ [v]).length = _; simp
  have hol : ∀ w ∈ sOrd S, w < (sWarn S).length := w6
  refine K.grow (w := (sWarn S).length) (v := v) rfl rfl rfl ?_ K.wt K.gt ?_ h40 (by rw [hwl]; omega) ?_ ?_ hv1 ?_ ?_ hs
  · refine ⟨?_, by rw [hwl]; omega, w3, by rw [hvl]; omega, w5, fun x hx => ?_, fun x y hy => ?_, fun i y hy => ?_⟩
    · rw [hwl]; show (newOrd S id).length = _; rw [newOrd_len, w1]
    · rw [hwl]
      rcases newOrd_mem (S := S) (id := id) hx with h | h
      · have := w6 x h; omega
      · omega
    · have hy : ((sWarn S ++ [(id, none)]).set (sWarn S).length (wId (addWa S id) (sWarn S).length, some (sVers S).length))[x]? = some y := hy
      rw [List.getElem?_set] at hy
      by_cases e : (sWarn S).length = x
      · rw [if_pos e, if_pos (by simp)] at hy
        cases hy
        exact ⟨_, rfl, by rw [hvl]; omega⟩
      · rw [if_neg e] at hy
        have hx := (List.getElem?_eq_some_iff.mp hy).1
        rw [List.length_append, List.length_singleton] at hx
        rw [List.getElem?_append_left (by omega)] at hy
        obtain ⟨z, z1, z2⟩ := w7 x y hy
        exact ⟨z, z1, by rw [hvl]; omega⟩
    · have hy : (sVers S ++ [v])[i]? = some y := hy
      rw [hwl]
      by_cases e : i < (sVers S).length
      · rw [List.getElem?_append_left e] at hy; have := w8 i y hy; omega
      · rw [List.getElem?_append_right (by omega)] at hy
        have := (List.getElem?_eq_some_iff.mp hy).1
        have e2 : i - (sVers S).length = 0 := by simp at this; omega
        rw [e2] at hy; simp at hy
        rw [← hy, hv1]; omega
  · refine ⟨?_, fun w hw => ?_⟩
    · show (newOrd S id).Pairwise _
      exact newOrd_pw K.od.1 hf (fun w hw => by rw [hid, hwo w (hol w hw)]) (by rw [hid, hw0])
    · rw [hwl] at hw
      show w ∈ newOrd S id
      by_cases e : w = (sWarn S).length
      · exact newOrd_in (Or.inr e)
      · exact newOrd_in (Or.inl (K.od.2 w (by omega)))
  · show (((sWarn S ++ [(id, none)]).set (sWarn S).length (wId (addWa S id) (sWarn S).length, some (sVers S).length)).getD (sWarn S).length (0, none)).2.getD 0 = _
    rw [getD_set_self (by simp)]; rfl
  · intro w' h1 h2
    rw [hwl] at h1
    refine ⟨by omega, ?_⟩
    show (((sWarn S ++ [(id, none)]).set (sWarn S).length (wId (addWa S id) (sWarn S).length, some (sVers S).length)).getD w' (0, none)).2.getD 0 = _
    rw [getD_set_ne h2, List.getD_eq_getElem?_getD, List.getElem?_append_left (by omega), ← List.getD_eq_getElem?_getD]; rfl
  · intro j hj hj2
    exfalso
    have := K.w12 hj
    omega
  · exact ⟨1, hv2, by omega, by omega⟩
/-- a handset more -/
theorem SOK.ha {S : SS} {x : Int32} (K : SOK S) (h3 : (sHs S).length < 3) : SOK (addHs S (hNew x)) := by
  obtain ⟨w1, w2, w3, w4, w5, w6, w7, w8⟩ := K.wf
  refine ⟨⟨w1, w2, w3, w4, by show (sHs S ++ [hNew x]).length ≤ 3; simp; omega, w6, w7, w8⟩, K.wt, K.wv, K.wc, K.nk, K.nm, K.nw, K.od, K.gt, K.gv, K.cv, K.cx, ?_⟩
  intro i h hh
  have hh : (sHs S ++ [hNew x])[i]? = some h := hh
  by_cases e : i < (sHs S).length
  · rw [List.getElem?_append_left e] at hh; exact K.hx i h hh
  · rw [List.getElem?_append_right (by omega)] at hh
    have := (List.getElem?_eq_some_iff.mp hh).1
    have e2 : i - (sHs S).length = 0 := by simp at this; omega
    rw [e2] at hh; simp at hh
    rw [← hh]
    have hz : ∀ w, (List.replicate 12 (none : Option Nat)).getD w none = none := by
      intro w; rw [List.getD_eq_getElem?_getD, List.getElem?_replicate]; split <;> rfl
    have hy : ∀ w, (List.replicate 12 false).getD w false = false := by
      intro w; rw [List.getD_eq_getElem?_getD, List.getElem?_replicate]; split <;> rfl
    have hq : ∀ w, (List.replicate 12 (0 : Int32)).getD w 0 = 0 := by
      intro w; rw [List.getD_eq_getElem?_getD, List.getElem?_replicate]; split <;> rfl
    refine ⟨⟨⟨by simp [hNew], by simp [hNew], by simp [hNew], by simp [hNew], by simp [hNew], ?_, by simp [hNew], by simp [hNew]⟩, by simp [hNew], ?_, by simp [hNew]⟩, ?_, ?_, Or.inl rfl⟩
    · intro v hv
      have hv : some v ∈ List.replicate 12 (none : Option Nat) := hv
      rw [List.mem_replicate] at hv
      cases hv.2
    · intro w v hv
      have hv : (List.replicate 12 (none : Option Nat)).getD w none = some v := hv
      rw [hz] at hv; cases hv
    · intro w hw
      have hw : (List.replicate 12 false).getD w false = true := hw
      rw [hy] at hw; cases hw
    · intro w
      exact ⟨0, by omega, hq w⟩
/-- a cell more, and the newest versions' covers -/
theorem mea_at (ws : List WaS) (n : Nat) (c : CeS) (l : List Nat) : ∀ (vs : List VeS) (i : Nat) (v0 : VeS) (s0 : SpS), vs[i]? = some v0 → v0.2.2 = some s0 → ∃ b, (l.foldl (mea1 ws n c) vs)[i]? = some (v0.1, v0.2.1, some (s0.1, s0.2.1, b)) ∧ (b = s0.2.2 ∨ b = s0.2.2.set n (cReach s0.2.1.1 c.1.1 c.1.2.1 c.1.2.2)) ∧ ((∃ w ∈ l, wNew ws w = i) → b = s0.2.2.set n (cReach s0.2.1.1 c.1.1 c.1.2.1 c.1.2.2)) := by
  induction l with
  | nil =>
    intro vs i v0 s0 h1 h2
    refine ⟨s0.2.2, ?_, Or.inl rfl, fun h => by obtain ⟨w, hw, _⟩ := h; cases hw⟩
    show vs[i]? = _
    rw [h1, ← h2]
  | cons w r ih =>
    intro vs i v0 s0 h1 h2
    by_cases e : wNew ws w = i
    · have hv : vs.getD (wNew ws w) vD = v0 := by rw [e]; simp [h1]
      have hm : mea1 ws n c vs w = vs.set i (covV v0 s0 n (cReach s0.2.1.1 c.1.1 c.1.2.1 c.1.2.2)) := by
        unfold mea1; rw [hv, h2]; simp only []; rw [e]
      have hi := (List.getElem?_eq_some_iff.mp h1).1
      obtain ⟨b, b1, b2, b3⟩ := ih (mea1 ws n c vs w) i (covV v0 s0 n (cReach s0.2.1.1 c.1.1 c.1.2.1 c.1.2.2)) (s0.1, s0.2.1, s0.2.2.set n (cReach s0.2.1.1 c.1.1 c.1.2.1 c.1.2.2)) (by rw [hm, List.getElem?_set, if_pos rfl, if_pos hi]) rfl
      have hb : b = s0.2.2.set n (cReach s0.2.1.1 c.1.1 c.1.2.1 c.1.2.2) := by
        rcases b2 with h | h
        · exact h
        · rw [h]; simp
      exact ⟨b, b1, Or.inr hb, fun _ => hb⟩
    · have hm : (mea1 ws n c vs w)[i]? = some v0 := by
        unfold mea1
        split
        · rw [List.getElem?_set, if_neg e]; exact h1
        · exact h1
      obtain ⟨b, b1, b2, b3⟩ := ih (mea1 ws n c vs w) i v0 s0 hm h2
      refine ⟨b, b1, b2, fun h => ?_⟩
      obtain ⟨x, x1, x2⟩ := h
      rcases List.mem_cons.mp x1 with h | h
      · subst h; exact absurd x2 e
      · exact b3 ⟨x, h, x2⟩
theorem SOK.cel {S : SS} {x y r : Int32} (K : SOK S) (h8 : (sCells S).length < 8) (hc : CelX (cNew x y r)) : SOK (meaAll (addCe S (cNew x y r)) (cNew x y r)) := by
  have hn : (sCells (addCe S (cNew x y r))).length - 1 = (sCells S).length := by show (sCells S ++ [_]).length - 1 = _; simp
  have hcl : (sCells (meaAll (addCe S (cNew x y r)) (cNew x y r))).length = (sCells S).length + 1 := by show (sCells S ++ [_]).length = _; simp
  have R : VsR (sVers S) (sVers (meaAll (addCe S (cNew x y r)) (cNew x y r))) := VsR.fold _ _ _ _ _ (VsR.refl _)
  have W0 : Wf (addCe S (cNew x y r)) := Wf_addCe K.wf h8
  have hlen : (sVers (meaAll (addCe S (cNew x y r)) (cNew x y r))).length = (sVers S).length := R.1
  have hat : ∀ v, v < (sVers S).length → (vAt (meaAll (addCe S (cNew x y r)) (cNew x y r)) v).1 = (vAt S v).1 ∧ (vAt (meaAll (addCe S (cNew x y r)) (cNew x y r)) v).2.1 = (vAt S v).2.1 ∧ (vAt (meaAll (addCe S (cNew x y r)) (cNew x y r)) v).2.2.isSome = (vAt S v).2.2.isSome := by
    intro v hv
    obtain ⟨v', a1, a2, a3, a4⟩ := R.2 v _ (vAt_get hv)
    rw [vAt_of (S := meaAll (addCe S (cNew x y r)) (cNew x y r)) a1]
    refine ⟨a2, a3, ?_⟩
    rcases a4 with ⟨b1, b2⟩ | ⟨s0, b, b1, b2, _⟩
    · rw [b1, b2]
    · rw [b1, b2]; rfl
  have X : VEx S (meaAll (addCe S (cNew x y r)) (cNew x y r)) := ⟨by rw [hlen]; exact Nat.le_refl _, hat⟩
  have hsp : ∀ v s0, v < (sVers S).length → (vAt S v).2.2 = some s0 → ∃ b, (vAt (meaAll (addCe S (cNew x y r)) (cNew x y r)) v).2.2 = some (s0.1, s0.2.1, b) ∧ ((∃ w ∈ sOrd S, nwI S w = v) → b = s0.2.2.set (sCells S).length (cReach s0.2.1.1 x y r)) := by
    intro v s0 hv hs
    obtain ⟨b, b1, b2, b3⟩ := mea_at (sWarn S) ((sCells (addCe S (cNew x y r))).length - 1) (cNew x y r) (sOrd S) (sVers S) v _ s0 (vAt_get hv) hs
    rw [hn] at b3
    exact ⟨b, by rw [vAt_of (S := meaAll (addCe S (cNew x y r)) (cNew x y r)) b1], b3⟩
  have hget : ∀ (i : Nat) (c : CeS), (sCells (meaAll (addCe S (cNew x y r)) (cNew x y r)))[i]? = some c → (sCells S)[i]? = some c ∨ (i = (sCells S).length ∧ c = cNew x y r) := by
    intro i c hh
    have hh : (sCells S ++ [cNew x y r])[i]? = some c := hh
    by_cases e : i < (sCells S).length
    · rw [List.getElem?_append_left e] at hh; exact Or.inl hh
    · rw [List.getElem?_append_right (by omega)] at hh
      have := (List.getElem?_eq_some_iff.mp hh).1
      have e2 : i - (sCells S).length = 0 := by simp at this; omega
      rw [e2] at hh; simp at hh
      exact Or.inr ⟨by omega, hh.symm⟩
  refine ⟨Wf_setVs W0 R, K.wt, WfV_setVs (S := addCe S (cNew x y r)) K.wv R, ?_, ?_, ?_, ?_, K.od, K.gt, ?_, ?_, ?_, ?_⟩
  · intro i c hh
    rcases hget i c hh with h | ⟨_, h⟩
    · exact X.co (K.wc i c h)
    · rw [h]; exact ⟨by simp [cNew], by simp [cNew], by simp [cNew], by simp [cNew]⟩
  · intro i j hi hj h1 h2
    rw [hlen] at hi hj
    rw [(hat i hi).1, (hat j hj).1] at h1
    rw [X.num hi, X.num hj] at h2
    exact K.nk i j hi hj h1 h2
  · intro i hi
    rw [hlen] at hi
    rw [X.num hi]; exact K.nm i hi
  · intro w hw
    have hw : w < (sWarn S).length := hw
    have h5 := nwI_lt' K.wf hw
    obtain ⟨h1, h2⟩ := K.nw w hw
    refine ⟨?_, fun j hj hj2 => ?_⟩
    · show (vAt _ (nwI S w)).1 = w
      rw [(hat _ h5).1]; exact h1
    · rw [hlen] at hj
      rw [(hat j hj).1] at hj2
      rw [X.num hj]
      show _ ≤ vNum _ (nwI S w)
      rw [X.num h5]
      exact h2 j hj hj2
  · intro i v s hv hs
    obtain ⟨v0, a1, a2, a3, a4⟩ := R.back hv
    rcases a4 with a4 | ⟨s0, b, a5, a6, a7⟩
    · rw [a4.2] at hs; cases hs
    · rw [a6] at hs; cases hs
      exact K.gv i v0 s0 a1 a5
  · intro w hw s hs j hj
    have hw : w < (sWarn S).length := hw
    have h5 := nwI_lt' K.wf hw
    have hs : (vAt (meaAll (addCe S (cNew x y r)) (cNew x y r)) (nwI S w)).2.2 = some s := hs
    rw [hcl] at hj
    have hcase := (hat _ h5).2.2
    rw [hs] at hcase
    cases hs0 : (vAt S (nwI S w)).2.2 with
    | none => rw [hs0] at hcase; cases hcase
    | some s0 =>
      obtain ⟨b, b1, b2⟩ := hsp _ s0 h5 hs0
      rw [b1] at hs
      cases hs
      have hb := b2 ⟨w, K.od.2 w hw, rfl⟩
      subst hb
      have hl8 := (K.wv _ _ s0 (vAt_get h5) hs0).2.2.2.1
      show (s0.2.2.set (sCells S).length (cReach s0.2.1.1 x y r)).getD j false = _
      by_cases e : j = (sCells S).length
      · subst e
        rw [getD_set_self (by omega)]
        unfold rch
        have : cAtN (meaAll (addCe S (cNew x y r)) (cNew x y r)) (sCells S).length = cNew x y r := by
          show (sCells S ++ [cNew x y r]).getD (sCells S).length cD = _
          rw [List.getD_eq_getElem?_getD, List.getElem?_append_right (Nat.le_refl _)]; simp
        rw [this]; rfl
      · rw [getD_set_ne e]
        have : cAtN (meaAll (addCe S (cNew x y r)) (cNew x y r)) j = cAtN S j := by
          show (sCells S ++ [cNew x y r]).getD j cD = _
          rw [List.getD_eq_getElem?_getD, List.getElem?_append_left (by omega), ← List.getD_eq_getElem?_getD]; rfl
        unfold rch
        rw [this]
        exact K.cv w hw s0 hs0 j (by omega)
  · intro i c hh
    rcases hget i c hh with h | ⟨_, h⟩
    · exact ⟨(K.cx i c h).1, X.pg (K.wc i c h) (K.cx i c h).2⟩
    · rw [h]; exact ⟨hc, by intro p hp; simp [cNew] at hp⟩
  · intro i h hh
    obtain ⟨a, b1, b2, b3⟩ := K.hx i h hh
    refine ⟨X.hok a, b1, b2, ?_⟩
    rcases b3 with b3 | b3
    · exact Or.inl b3
    · exact Or.inr (pIx_mono b3 (by rw [hcl]; omega) (by rw [hcl]; omega))
/-- bits of pages -/
theorem pBits_or {k l n : Nat} (hk : k < 512) (hl : l < 3) (hn : n < 3) : ∃ j, j < 512 ∧ nI k ||| pBits (nI l) 1 <<< (nI n &&& 31) = nI j := by
  have h : ∀ l, l < 3 → ∀ n, n < 3 → pBits (nI l) 1 <<< (nI n &&& 31) = nI (2 ^ (3 * l + n)) := by decide
  rw [h l hl n hn]
  refine ⟨k ||| 2 ^ (3 * l + n), ?_, ?_⟩
  · exact Nat.or_lt_two_pow (n := 9) hk (Nat.pow_lt_pow_right (by omega) (by omega))
  · unfold nI
    apply Int32.toBitVec_inj.mp
    rw [Int32.toBitVec_or]
    simp only [Int32.toBitVec_ofNat']
    apply BitVec.eq_of_toNat_eq
    rw [BitVec.toNat_or]
    have h1 : 2 ^ (3 * l + n) < 2 ^ 32 := Nat.pow_lt_pow_right (by omega) (by omega)
    have h2 : k ||| 2 ^ (3 * l + n) < 2 ^ 32 := Nat.or_lt_two_pow (by omega) h1
    simp only [BitVec.toNat_ofNat, Nat.mod_eq_of_lt h1, Nat.mod_eq_of_lt h2, Nat.mod_eq_of_lt (show k < 2 ^ 32 by omega)]
theorem HsX.add {S : SS} {h : HaS} {w l n : Nat} (X : HsX S h) (hl : l < 3) (hn : n < 3) : HsX S (hAdd h w (nI l) (nI n)) := by
  obtain ⟨a, b, c⟩ := X
  refine ⟨a, fun x => ?_, c⟩
  show ∃ k, k < 512 ∧ (h.2.2.1.2.1.set w _).getD x 0 = nI k
  by_cases e : x = w
  · subst e
    by_cases hx : x < h.2.2.1.2.1.length
    · rw [getD_set_self hx]
      obtain ⟨k, k1, k2⟩ := b x
      rw [k2]
      exact pBits_or k1 hl hn
    · rw [List.set_eq_of_length_le (by omega)]; exact b x
  · rw [getD_set_ne e]; exact b x
theorem HsX.res {S : SS} {h : HaS} {v w : Nat} (X : HsX S h) (h2 : h.2.2.1.2.2.length = 12) (hw : w < 12) : HsX S (hRes h v w) := by
  obtain ⟨a, b, c⟩ := X
  refine ⟨fun x hx => ?_, fun x => ?_, c⟩
  · have hx : (h.2.2.1.2.2.set w false).getD x false = true := hx
    by_cases e : x = w
    · subst e; rw [getD_set_self (by omega)] at hx; cases hx
    · rw [getD_set_ne e] at hx
      obtain ⟨v', c1, c2⟩ := a x hx
      exact ⟨v', by show (h.2.2.1.1.set w (some v)).getD x none = _; rw [getD_set_ne e]; exact c1, c2⟩
  · show ∃ k, k < 512 ∧ (h.2.2.1.2.1.set w 0).getD x 0 = nI k
    by_cases e : x = w
    · subst e
      by_cases hx : x < h.2.2.1.2.1.length
      · rw [getD_set_self hx]; exact ⟨0, by omega, rfl⟩
      · rw [List.set_eq_of_length_le (by omega)]; exact b x
    · rw [getD_set_ne e]; exact b x
theorem HsX.put {S : SS} {h : HaS} {v w : Nat} {s : SpS} {clk : Int32} (X : HsX S h) (h1 : h.2.2.1.1.getD w none = some v) : HsX S (hPut h v w s clk) := by
  obtain ⟨a, b, c⟩ := X
  refine ⟨fun x hx => ?_, b, c⟩
  have hx : (h.2.2.1.2.2.set w true).getD x false = true := hx
  by_cases e : x = w
  · subst e
    exact ⟨v, h1, by simp [hPut, hSh]⟩
  · rw [getD_set_ne e] at hx
    obtain ⟨v', c1, c2⟩ := a x hx
    exact ⟨v', c1, by simp only [hPut, hSh, List.map_append]; exact List.mem_append.mpr (Or.inl c2)⟩
theorem HsX.alm {S : SS} {h : HaS} {v : Nat} (X : HsX S h) : HsX S (hAlm S h v) := by
  unfold hAlm; split
  · exact X
  · exact X
theorem HsX.hear {S : SS} {h : HaS} {v : Nat} {l n clk : Int32} (H : HOK S h) (X : HsX S h) (hw : (vAt S v).1 < 12) (hp : (vAt S v).2.2.isSome = true → (∃ k, k < 3 ∧ l = nI k) ∧ ∃ k, k < 3 ∧ n = nI k) : HsX S (hearS S h v l n clk) := by
  obtain ⟨⟨a1, a2, a3, a4, a5, a6, a7, a8⟩, _⟩ := H
  have hh := hr1_heard (S := S) (h := h) (v := v) a3 hw
  have X1 : HsX S (hr1 S h v) := by
    unfold hr1; split
    · exact X
    · exact X.res a5 hw
  unfold hearS
  split
  · exact X
  · unfold hr2
    split
    · exact X1
    · rename_i s hs
      obtain ⟨⟨lk, l1, l2⟩, nk, n1, n2⟩ := hp (by rw [hs]; rfl)
      subst l2; subst n2
      split
      · exact X1.add l1 n1
      · unfold shw
        split
        · exact HsX.alm (HsX.put (X1.add l1 n1) hh)
        · exact X1.add l1 n1
theorem HsX.lis {S : SS} {h : HaS} {q : Nat × Int32 × Int32} {clk : Int32} (H : HOK S h) (X : HsX S h) (hw : (vAt S q.1).1 < 12) (hp : (vAt S q.1).2.2.isSome = true → (∃ k, k < 3 ∧ q.2.1 = nI k) ∧ ∃ k, k < 3 ∧ q.2.2 = nI k) : HsX S (lisS S clk h q) := by
  unfold lisS; split
  · exact HsX.hear H X hw hp
  · exact X
theorem HsX.fold {S : SS} {clk : Int32} (N : NumOK S) (h40 : (sVers S).length ≤ 40) (hw : ∀ v, v < (sVers S).length → (vAt S v).1 < 12) (l : List (Nat × Int32 × Int32)) (hl : ∀ q ∈ l, q.1 < (sVers S).length ∧ ((vAt S q.1).2.2.isSome = true → (∃ k, k < 3 ∧ q.2.1 = nI k) ∧ ∃ k, k < 3 ∧ q.2.2 = nI k)) : ∀ h, HOK S h → HsX S h → HsX S (l.foldl (lisS S clk) h) := by
  induction l with
  | nil => exact fun h _ X => X
  | cons q r ih =>
    intro h H X
    have hq := hl q List.mem_cons_self
    exact ih (fun x hx => hl x (List.mem_cons_of_mem _ hx)) _ (H.lis N h40 hq.1 (hw _ hq.1)) (HsX.lis H X (hw _ hq.1) hq.2)
theorem pgs_le3 {n : Nat} (h : n ≤ 30) : pgs n ≤ 3 := by unfold pgs; omega
theorem vPages_pg {S : SS} {v : Nat} {clk : Int32} {q : Nat × Int32 × Int32} (WV : WfV S) (hv : v < (sVers S).length) (h : q ∈ vPages S v clk) : ((vAt S q.1).2.2 = none → q.2 = (3, 0)) ∧ ((vAt S q.1).2.2.isSome = true → ∃ n, n < 3 ∧ q.2.2 = nI n) := by
  unfold vPages at h
  cases hs : (vAt S v).2.2 with
  | none =>
    rw [hs] at h
    simp only [List.mem_singleton] at h
    subst h
    exact ⟨fun _ => rfl, fun h => by rw [hs] at h; cases h⟩
  | some s =>
    rw [hs] at h
    simp only [] at h
    split at h
    · obtain ⟨h1, l, h2, h3, k, h4, h5⟩ := txTo_mem h
      rw [h1, hs]
      refine ⟨fun h => (by cases h), fun _ => ⟨k, ?_, h5⟩⟩
      have := (WV v _ s (vAt_get hv) hs).2.2.1 l
      have := pgs_le3 this
      omega
    · cases h
theorem cMin_pg {S : SS} {i : Nat} {c : CeS} (K : SOK S) (C : CO S c) : PgX S (cMin S i c) := by
  intro q hq
  obtain ⟨h1, h2⟩ := cMid_ok (i := i) K.wf C
  obtain ⟨v, v1, v2⟩ := pSev_mem hq
  exact vPages_pg K.wv (h2 v v1) v2
theorem SOK.kminTo {S : SS} (K : SOK S) (k : Nat) : SOK (minTo S k) := by
  have hl : (sCells (minTo S k)).length = (sCells S).length := cellsTo_len S _
  have hget : ∀ (j : Nat) (c : CeS), (sCells (minTo S k))[j]? = some c → ∃ c0, (sCells S)[j]? = some c0 ∧ (c = cMin S j c0 ∨ c = c0) := by
    intro j c hc
    have hj := (List.getElem?_eq_some_iff.mp hc).1
    rw [hl] at hj
    have h0 := List.getElem?_eq_getElem hj
    have hc : (cellsTo S k)[j]? = some c := hc
    by_cases e : j < k
    · rw [cellsTo_lt S k j _ e h0] at hc
      exact ⟨_, h0, Or.inl (Option.some.inj hc).symm⟩
    · rw [cellsTo_ge S k j (by omega), h0] at hc
      exact ⟨_, h0, Or.inr (Option.some.inj hc).symm⟩
  have h1 : ∀ j (c : CeS), (cMin S j c).1 = c.1 := by
    intro j c
    unfold cMin cPg cMid; split <;> rfl
  have hr : ∀ a j, rch (minTo S k) a j = rch S a j := by
    intro a j
    unfold rch
    have : (cAtN (minTo S k) j).1 = (cAtN S j).1 := by
      show ((cellsTo S k).getD j cD).1 = ((sCells S).getD j cD).1
      rw [List.getD_eq_getElem?_getD, List.getD_eq_getElem?_getD]
      by_cases e : j < (sCells S).length
      · by_cases e2 : j < k
        · rw [cellsTo_lt S _ j _ e2 (List.getElem?_eq_getElem e), List.getElem?_eq_getElem e]
          exact h1 j _
        · rw [cellsTo_ge S k j (by omega)]
      · rw [List.getElem?_eq_none (by rw [cellsTo_len]; omega), List.getElem?_eq_none (by omega)]
    rw [this]
  refine ⟨Wf_minTo K.wf, K.wt, K.wv, ?_, K.nk, K.nm, K.nw, K.od, K.gt, K.gv, ?_, ?_, ?_⟩
  · intro j c hc
    obtain ⟨c0, a1, a2⟩ := hget j c hc
    rcases a2 with a2 | a2
    · subst a2; exact cMin_ok K.wf K.wv (K.wc j c0 a1)
    · subst a2; exact K.wc j c a1
  · intro w hw s hs j hj
    rw [hr]
    rw [hl] at hj
    exact K.cv w hw s hs j hj
  · intro j c hc
    obtain ⟨c0, a1, a2⟩ := hget j c hc
    have h0 := K.cx j c0 a1
    rcases a2 with a2 | a2
    · subst a2
      have hq := cMin_pg (i := j) K (K.wc j c0 a1)
      refine ⟨?_, hq⟩
      have := h0.1
      unfold CelX at *
      rw [h1]; exact this
    · subst a2; exact h0
  · intro j x hx
    obtain ⟨a, b1, b2, b3⟩ := K.hx j x hx
    exact ⟨a, b1, b2, by rw [hl]; exact b3⟩
theorem hMin_ok {S : SS} {h : HaS} (K : SOK S) (H : HOK S h) (X : HsX S h) : HOK S (hMin S h) ∧ HsX S (hMin S h) := by
  unfold hMin
  split
  · rename_i hp
    have w12 : ∀ v, v < (sVers S).length → (vAt S v).1 < 12 := fun v hv => Nat.lt_of_lt_of_le (K.w12 hv) K.wf.2.1
    have hl : ∀ q ∈ (cAt S h.1.2.1).2.2.2, q.1 < (sVers S).length ∧ ((vAt S q.1).2.2.isSome = true → (∃ k, k < 3 ∧ q.2.1 = nI k) ∧ ∃ k, k < 3 ∧ q.2.2 = nI k) := by
      obtain ⟨k, k1, k2⟩ := pIx_nat hp (by have := K.wf.2.2.1; omega)
      intro q hq
      have hc : (sCells S)[k]? = some (cAt S h.1.2.1) := by
        unfold cAt
        rw [k2, nI_clamp (by have := K.wf.2.2.1; omega), List.getD_eq_getElem?_getD, List.getElem?_eq_getElem k1, Option.getD_some]
      obtain ⟨a1, a2⟩ := (K.wc k _ hc).2.2.2 q hq
      exact ⟨a1, fun hs => ⟨a2 hs, ((K.cx k _ hc).2 q hq).2 hs⟩⟩
    exact ⟨HOK.fold K.nk K.wf.2.2.2.1 w12 _ (fun q hq => (hl q hq).1) _ H, HsX.fold K.nk K.wf.2.2.2.1 w12 _ hl _ H X⟩
  · exact ⟨H, X⟩
theorem SOK.kminH {S : SS} (K : SOK S) (k : Nat) : SOK (minH S k) := by
  refine ⟨Wf_minH K.wf, K.wt, K.wv, K.wc, K.nk, K.nm, K.nw, K.od, K.gt, K.gv, K.cv, K.cx, ?_⟩
  intro j h hh
  have hj := (List.getElem?_eq_some_iff.mp hh).1
  have hj : j < (hsTo S k).length := hj
  rw [hsTo_len] at hj
  have h0 := List.getElem?_eq_getElem hj
  have hh : (hsTo S k)[j]? = some h := hh
  obtain ⟨a, b⟩ := K.hx j _ h0
  by_cases e : j < k
  · rw [hsTo_lt S k j _ e h0] at hh
    cases hh
    have hq := hMin_ok K a b
    exact hq
  · rw [hsTo_ge S k j (by omega), h0] at hh
    cases hh
    exact ⟨a, b⟩
theorem SOK.kspMinute {S : SS} (K : SOK S) : SOK (spMinute S).1 := by
  have K2 : SOK (minC S) := (K.ck (k := sClock S + 1)).kminTo _
  exact K2.kminH _
/-- every public call keeps it -/
theorem pCo_bd {x : Int32} (h : pCo x = true) : BdX x 1000 := by
  unfold pCo at h
  rw [Bool.and_eq_true, Bool.not_eq_true', Bool.not_eq_true', decide_eq_false_iff_not, decide_eq_false_iff_not, Int32.lt_iff_toInt_lt, Int32.lt_iff_toInt_lt] at h
  have e1 : (-1000 : Int32).toInt = -1000 := rfl
  have e2 : (1000 : Int32).toInt = 1000 := rfl
  rw [e1, e2] at h
  exact ⟨by omega, by omega⟩
theorem eT_ok : (eT.1.length ≤ 8 ∧ eT.2.length = 3 ∧ (∀ l, tl eT.2 l ≤ 30)) ∧ PtX eT.1 := by
  refine ⟨⟨by decide, by decide, fun l => ?_⟩, by intro p hp; cases hp⟩
  match l with
  | 0 => decide
  | 1 => decide
  | 2 => decide
  | n + 3 => exact Nat.zero_le _
theorem SOK.init : SOK sS0 := by
  refine ⟨⟨rfl, (by decide), (by decide), (by decide), (by decide), (fun w hw => by cases hw), (fun w x hx => by cases hx), (fun w x hx => by cases hx)⟩, eT_ok.1, (fun i v s hv => by cases hv), (fun i c hc => by cases hc), ?_, ?_, ?_, ⟨List.Pairwise.nil, ?_⟩, eT_ok.2, (fun i v s hv => by cases hv), ?_, (fun i c hc => by cases hc), (fun i c hc => by cases hc)⟩
  · intro i j hi; exact absurd hi (Nat.not_lt_zero i)
  · intro i hi; exact absurd hi (Nat.not_lt_zero i)
  · intro i hi; exact absurd hi (Nat.not_lt_zero i)
  · intro i hi; exact absurd hi (Nat.not_lt_zero i)
  · intro i hi; exact absurd hi (Nat.not_lt_zero i)
theorem SOK.kspCorner {S : SS} {x y : Int32} (K : SOK S) : SOK (spCorner S x y).1 := by
  unfold spCorner
  split
  · rename_i h
    split
    · exact K
    · rename_i h8
      obtain ⟨t1, t2, t3⟩ := K.wt
      refine K.ty (by simp; omega) t2 t3 (fun p hp => ?_)
      rcases List.mem_append.mp hp with hp | hp
      · exact K.gt p hp
      · rw [List.mem_singleton] at hp; subst hp
        exact ⟨pCo_bd h.1, pCo_bd h.2⟩
  · exact K
theorem SOK.kspText {S : SS} {x v : Int32} (K : SOK S) : SOK (spText S x v).1 := by
  unfold spText
  split
  · split
    · exact K
    · rename_i h30
      obtain ⟨t1, t2, t3⟩ := K.wt
      refine K.ty t1 (by simp; exact t2) (fun l => ?_) K.gt
      unfold tl
      simp only [List.getD_eq_getElem?_getD]
      rw [List.getElem?_set]
      split
      · split
        · have := t3 x.toNatClampNeg
          unfold tl at this h30
          simp only [List.getD_eq_getElem?_getD] at this h30
          simp only [Option.getD_some, List.length_append, List.length_singleton]
          omega
        · simp
      · have := t3 l; unfold tl at this; simp only [List.getD_eq_getElem?_getD] at this; exact this
  · exact K
theorem SOK.kspClear {S : SS} (K : SOK S) : SOK (spClear S).1 := K.ty eT_ok.1.1 eT_ok.1.2.1 eT_ok.1.2.2 eT_ok.2
theorem cAt_get {S : SS} {x : Int32} (K : SOK S) (h : pIx x (sCells S).length = true) : ∃ k, k < (sCells S).length ∧ x = nI k ∧ (sCells S)[k]? = some (cAt S x) := by
  have h8 := K.wf.2.2.1
  obtain ⟨k, k1, k2⟩ := pIx_nat h (by omega)
  refine ⟨k, k1, k2, ?_⟩
  unfold cAt
  rw [k2, nI_clamp (by omega), List.getD_eq_getElem?_getD, List.getElem?_eq_getElem k1, Option.getD_some]
theorem hAt_get {S : SS} {x : Int32} (K : SOK S) (h : pIx x (sHs S).length = true) : ∃ k, k < (sHs S).length ∧ x = nI k ∧ (sHs S)[k]? = some (hAt S x) := by
  have h8 := K.wf.2.2.2.2.1
  obtain ⟨k, k1, k2⟩ := pIx_nat h (by omega)
  refine ⟨k, k1, k2, ?_⟩
  unfold hAt
  rw [k2, nI_clamp (by omega), List.getD_eq_getElem?_getD, List.getElem?_eq_getElem k1, Option.getD_some]
theorem SOK.kspLine {S : SS} {x : Int32} {w : Bool} (K : SOK S) : SOK (spLine S x w).1 := by
  unfold spLine
  split
  · rename_i h
    obtain ⟨k, k1, k2, k3⟩ := cAt_get K h
    have e : x.toNatClampNeg = k := by rw [k2]; exact nI_clamp (by have := K.wf.2.2.1; omega)
    rw [e]
    have h1 := K.wc k _ k3
    have h2 := (K.cx k _ k3).2
    exact K.ce k3 rfl h1 h2
  · exact K
theorem SOK.kspCamp {S : SS} {x c : Int32} (K : SOK S) : SOK (spCamp S x c).1 := by
  unfold spCamp
  split
  · rename_i h
    obtain ⟨k, k1, k2, k3⟩ := hAt_get K h.1
    obtain ⟨a, b1, b2, b3⟩ := K.hx k _ k3
    exact K.hs a ⟨b1, b2, h.2⟩
  · exact K
theorem SOK.kspMiss {S : SS} {x n : Int32} (K : SOK S) : SOK (spMiss S x n).1 := by
  unfold spMiss
  split
  · rename_i h
    split
    · obtain ⟨k, k1, k2, k3⟩ := hAt_get K h
      obtain ⟨a, b⟩ := K.hx k _ k3
      exact K.hs a b
    · exact K
  · exact K
theorem SOK.kspLikes {S : SS} {x l : Int32} (K : SOK S) : SOK (spLikes S x l).1 := by
  unfold spLikes
  split
  · rename_i h
    split
    · rename_i hl
      split
      · exact K
      · rename_i h3
        obtain ⟨k, k1, k2, k3⟩ := hAt_get K h
        obtain ⟨⟨⟨a1, a2, a3⟩, a4⟩, b⟩ := K.hx k _ k3
        refine K.hs ⟨⟨by simp; omega, fun y hy => ?_, a3⟩, a4⟩ b
        rcases List.mem_append.mp hy with hy | hy
        · exact a2 y hy
        · rw [List.mem_singleton] at hy; subst hy; exact pLa_nat hl
    · exact K
  · exact K
theorem SOK.kspHandset {S : SS} {x : Int32} (K : SOK S) : SOK (spHandset S x).1 := by
  unfold spHandset
  split
  · split
    · exact K
    · exact K.ha (by have := K.wf.2.2.2.2.1; omega)
  · exact K
theorem SOK.kspCell {S : SS} {x y r : Int32} (K : SOK S) : SOK (spCell S x y r).1 := by
  unfold spCell
  split
  · rename_i h
    split
    · exact K
    · refine K.cel (by have := K.wf.2.2.1; omega) ⟨pCo_bd h.1, pCo_bd h.2.1, ?_⟩
      obtain ⟨_, _, h3, h4⟩ := h
      rw [Int32.lt_iff_toInt_lt] at h3
      rw [Int32.le_iff_toInt_le] at h4
      have e1 : (1 : Int32).toInt = 1 := rfl
      have e2 : (2000 : Int32).toInt = 2000 := rfl
      rw [e1] at h3; rw [e2] at h4
      show BdX r 2000 ∧ 0 ≤ r.toInt
      exact ⟨⟨by omega, h4⟩, by omega⟩
  · exact K
theorem SOK.kspCancel {S : SS} {id : Int32} (K : SOK S) : SOK (spCancel S id).1 := by
  unfold spCancel
  split
  · exact K
  · rename_i w hw
    split
    · exact K
    · exact K.ve (live_lt K.wf hw) (by have := K.wf.2.2.2.1; omega) rfl rfl (fun s hs => by cases hs)
theorem sn_ne {sp : Int32} (h : pSn sp = true) : ¬ sp = 0 := by
  intro e; subst e; revert h; decide
theorem SOK.kspUpdate {S : SS} {id sev en sp : Int32} (K : SOK S) : SOK (spUpdate S id sev en sp).1 := by
  unfold spUpdate
  split
  · rename_i h
    split
    · split
      · exact K
      · rename_i w hw
        split
        · exact K
        · have KT : SOK (setTy S eT) := K.ty eT_ok.1.1 eT_ok.1.2.1 eT_ok.1.2.2 eT_ok.2
          refine KT.ve (live_lt K.wf hw) (by have := K.wf.2.2.2.1; show (sVers S).length < 40; omega) rfl rfl (fun s hs => ?_)
          cases hs
          exact ⟨⟨K.wt.1, K.wt.2.1, K.wt.2.2, cvTo_len _ _ _, sn_ne h.2.1⟩, K.gt, fun j hj => cvTo_at S _ K.wf.2.2.1 j hj⟩
    · exact K
  · exact K
theorem insP_ty (S : SS) (m : Pts × Tx) (id : Int32) : ∀ q, insP (setTy S m) id q = insP S id q
  | 0 => rfl
  | q + 1 => by
    unfold insP
    rw [insP_ty S m id q]
    rfl
theorem addWa_ty (S : SS) (m : Pts × Tx) (id : Int32) : addWa (setTy S m) id = setTy (addWa S id) m := by
  unfold addWa newOrd
  rw [insP_ty]
  rfl
theorem SOK.kspIssue {S : SS} {id sev bg en sp : Int32} (K : SOK S) : SOK (spIssue S id sev bg en sp).1 := by
  unfold spIssue
  split
  · rename_i h
    split
    · split
      · exact K
      · rename_i hf
        split
        · exact K
        · split
          · exact K
          · have KT : SOK (setTy S eT) := K.ty eT_ok.1.1 eT_ok.1.2.1 eT_ok.1.2.2 eT_ok.2
            show SOK (addVe (setTy (addWa S id) eT) (sWarn S).length (spV (addWa S id) (sWarn S).length 1 sev en bg sp (sCells S).length))
            rw [← addWa_ty]
            refine KT.wa (id := id) hf (by have := K.wf.2.1; show (sWarn S).length < 12; omega) (by have := K.wf.2.2.2.1; show (sVers S).length < 40; omega) rfl rfl (fun s hs => ?_)
            cases hs
            exact ⟨⟨K.wt.1, K.wt.2.1, K.wt.2.2, cvTo_len _ _ _, sn_ne h.2.2.2.1⟩, K.gt, fun j hj => cvTo_at (addWa S id) _ K.wf.2.2.1 j hj⟩
    · exact K
  · exact K
