/-! the model's arrays hold the class's state -/
def CelR (f : Nat → Nat → Int32) (i : Nat) (c : CeS) : Prop := (f 0 i = c.1.1 ∧ f 1 i = c.1.2.1 ∧ f 2 i = c.1.2.2) ∧ f 3 i = b2i (!c.2.1.1) ∧ f 4 i = nI c.2.2.1.length ∧ (∀ k, k < c.2.2.1.length → f 5 (12 * i + k) = nI (c.2.2.1.getD k 0)) ∧ f 7 i = nI c.2.2.2.length ∧
  ∀ k, k < c.2.2.2.length → f 8 (108 * i + k) = nI (c.2.2.2.getD k (0, 0, 0)).1 ∧ f 9 (108 * i + k) = (c.2.2.2.getD k (0, 0, 0)).2.1 ∧ f 10 (108 * i + k) = (c.2.2.2.getD k (0, 0, 0)).2.2
def TyR (t : Pts × Tx) (n : Int32) (f : Nat → Nat → Int32) : Prop := n = nI t.1.length ∧ (∀ k, k < t.1.length → f 11 k = pX t.1 k ∧ f 12 k = pY t.1 k) ∧ ∀ l, l < 3 → f 13 l = nI (tl t.2 l) ∧ ∀ k, k < tl t.2 l → f 14 (30 * l + k) = (t.2.getD l []).getD k 0
def VeR (f : Nat → Nat → Int32) (v : Nat) (x : VeS) : Prop := f 17 v = nI x.1 ∧ f 18 v = x.2.1.1 ∧ f 19 v = x.2.1.2.1 ∧ f 20 v = x.2.1.2.2 ∧ f 21 v = b2i x.2.2.isSome ∧ ∀ s, x.2.2 = some s → f 22 v = s.1.1 ∧ f 23 v = s.1.2 ∧ f 24 v = nI s.2.1.1.length ∧
  (∀ k, k < s.2.1.1.length → f 25 (8 * v + k) = pX s.2.1.1 k ∧ f 26 (8 * v + k) = pY s.2.1.1 k) ∧ ∀ l, l < 3 → f 27 (3 * v + l) = nI (tl s.2.1.2 l) ∧ ∀ k, k < tl s.2.1.2 l → f 28 (90 * v + 30 * l + k) = (s.2.1.2.getD l []).getD k 0
def hdN (S : SS) (o : Option Nat) : Int32 := match o with
  | none => 0
  | some v => vNum S v
def HsR (S : SS) (f : Nat → Nat → Int32) (h : Nat) (x : HaS) : Prop := f 29 h = x.1.1 ∧ f 30 h = nI x.2.1.length ∧ (∀ k, k < x.2.1.length → f 31 (3 * h + k) = x.2.1.getD k 0) ∧ f 32 h = x.1.2.1 ∧ f 33 h = x.1.2.2.1 ∧ f 34 h = x.1.2.2.2 ∧
  (∀ w, w < 12 → f 35 (12 * h + w) = hdN S (x.2.2.1.1.getD w none) ∧ f 36 (12 * h + w) = x.2.2.1.2.1.getD w 0) ∧ (∀ v, v < 40 → f 37 (40 * h + v) = b2i (decide (v ∈ x.2.2.2.map (·.1)))) ∧ f 38 h = nI x.2.2.2.length ∧
  ∀ k, k < x.2.2.2.length → f 39 (40 * h + k) = nI (x.2.2.2.getD k (0, 0, 0)).1 ∧ f 40 (40 * h + k) = (x.2.2.2.getD k (0, 0, 0)).2.1 ∧ f 41 (40 * h + k) = (x.2.2.2.getD k (0, 0, 0)).2.2
def HsZ (f : Nat → Nat → Int32) (h : Nat) : Prop := f 30 h = 0 ∧ f 33 h = 0 ∧ f 34 h = 0 ∧ (∀ w, w < 12 → f 35 (12 * h + w) = 0 ∧ f 36 (12 * h + w) = 0) ∧ (∀ v, v < 40 → f 37 (40 * h + v) = 0) ∧ f 38 h = 0
def Rel (S : SS) (t : Int32) (i : Nat → Int32) (f : Nat → Nat → Int32) : Prop := (i 0 = t) ∧
  (i 1 = sClock S) ∧
  (i 2 = nI (sCells S).length) ∧
  (i 4 = nI (sWarn S).length) ∧
  (i 5 = nI (sVers S).length) ∧
  (i 6 = nI (sHs S).length) ∧
  (TyR (sTyped S) (i 3) f) ∧
  (∀ k c, (sCells S)[k]? = some c → CelR f k c) ∧
  (∀ k, (sCells S).length ≤ k → k < 8 → f 3 k = 0 ∧ f 4 k = 0 ∧ f 7 k = 0) ∧
  (∀ w, w < (sWarn S).length → f 15 w = wId S w ∧ f 16 w = nI (nwI S w)) ∧
  (∀ v, v < (sVers S).length → VeR f v (vAt S v)) ∧
  (∀ k h, (sHs S)[k]? = some h → HsR S f k h) ∧
  (∀ k, (sHs S).length ≤ k → k < 3 → HsZ f k)
theorem Rel.th {S : SS} {t : Int32} {i : Nat → Int32} {f : Nat → Nat → Int32} (K : Rel S t i f) : i 0 = t := K.1
theorem Rel.ck {S : SS} {t : Int32} {i : Nat → Int32} {f : Nat → Nat → Int32} (K : Rel S t i f) : i 1 = sClock S := K.2.1
theorem Rel.nc {S : SS} {t : Int32} {i : Nat → Int32} {f : Nat → Nat → Int32} (K : Rel S t i f) : i 2 = nI (sCells S).length := K.2.2.1
theorem Rel.nw {S : SS} {t : Int32} {i : Nat → Int32} {f : Nat → Nat → Int32} (K : Rel S t i f) : i 4 = nI (sWarn S).length := K.2.2.2.1
theorem Rel.nv {S : SS} {t : Int32} {i : Nat → Int32} {f : Nat → Nat → Int32} (K : Rel S t i f) : i 5 = nI (sVers S).length := K.2.2.2.2.1
theorem Rel.nh {S : SS} {t : Int32} {i : Nat → Int32} {f : Nat → Nat → Int32} (K : Rel S t i f) : i 6 = nI (sHs S).length := K.2.2.2.2.2.1
theorem Rel.ty {S : SS} {t : Int32} {i : Nat → Int32} {f : Nat → Nat → Int32} (K : Rel S t i f) : TyR (sTyped S) (i 3) f := K.2.2.2.2.2.2.1
theorem Rel.ce {S : SS} {t : Int32} {i : Nat → Int32} {f : Nat → Nat → Int32} (K : Rel S t i f) : ∀ k c, (sCells S)[k]? = some c → CelR f k c := K.2.2.2.2.2.2.2.1
theorem Rel.cz {S : SS} {t : Int32} {i : Nat → Int32} {f : Nat → Nat → Int32} (K : Rel S t i f) : ∀ k, (sCells S).length ≤ k → k < 8 → f 3 k = 0 ∧ f 4 k = 0 ∧ f 7 k = 0 := K.2.2.2.2.2.2.2.2.1
theorem Rel.wa {S : SS} {t : Int32} {i : Nat → Int32} {f : Nat → Nat → Int32} (K : Rel S t i f) : ∀ w, w < (sWarn S).length → f 15 w = wId S w ∧ f 16 w = nI (nwI S w) := K.2.2.2.2.2.2.2.2.2.1
theorem Rel.ve {S : SS} {t : Int32} {i : Nat → Int32} {f : Nat → Nat → Int32} (K : Rel S t i f) : ∀ v, v < (sVers S).length → VeR f v (vAt S v) := K.2.2.2.2.2.2.2.2.2.2.1
theorem Rel.hs {S : SS} {t : Int32} {i : Nat → Int32} {f : Nat → Nat → Int32} (K : Rel S t i f) : ∀ k h, (sHs S)[k]? = some h → HsR S f k h := K.2.2.2.2.2.2.2.2.2.2.2.1
theorem Rel.hz {S : SS} {t : Int32} {i : Nat → Int32} {f : Nat → Nat → Int32} (K : Rel S t i f) : ∀ k, (sHs S).length ≤ k → k < 3 → HsZ f k := K.2.2.2.2.2.2.2.2.2.2.2.2
def CA (f f' : Nat → Nat → Int32) (k : Nat) : Prop := (∀ j, j ≤ 4 → f' j k = f j k) ∧ (∀ q, q < 12 → f' 5 (12 * k + q) = f 5 (12 * k + q)) ∧ f' 7 k = f 7 k ∧ ∀ j, 8 ≤ j → j ≤ 10 → ∀ q, q < 108 → f' j (108 * k + q) = f j (108 * k + q)
def VA (f f' : Nat → Nat → Int32) (v : Nat) : Prop := (∀ j, 17 ≤ j → j ≤ 24 → f' j v = f j v) ∧ (∀ j, 25 ≤ j → j ≤ 26 → ∀ q, q < 8 → f' j (8 * v + q) = f j (8 * v + q)) ∧ (∀ q, q < 3 → f' 27 (3 * v + q) = f 27 (3 * v + q)) ∧ ∀ q, q < 90 → f' 28 (90 * v + q) = f 28 (90 * v + q)
def HA (f f' : Nat → Nat → Int32) (h : Nat) : Prop := (∀ j, (29 ≤ j ∧ j ≤ 30) ∨ (32 ≤ j ∧ j ≤ 34) ∨ j = 38 → f' j h = f j h) ∧ (∀ q, q < 3 → f' 31 (3 * h + q) = f 31 (3 * h + q)) ∧ (∀ j, 35 ≤ j → j ≤ 36 → ∀ q, q < 12 → f' j (12 * h + q) = f j (12 * h + q)) ∧ ∀ j, j = 37 ∨ (39 ≤ j ∧ j ≤ 41) → ∀ q, q < 40 → f' j (40 * h + q) = f j (40 * h + q)
section RE
variable {S : SS} {t : Int32} {i : Nat → Int32} {f f' : Nat → Nat → Int32}
theorem CA.of {k : Nat} (h : ∀ j, j ≤ 10 → j ≠ 6 → f' j = f j) : CA f f' k := by
  refine ⟨fun j hj => by rw [h j (by omega) (by omega)], fun q _ => by rw [h 5 (by omega) (by omega)], by rw [h 7 (by omega) (by omega)], fun j h1 h2 q _ => by rw [h j (by omega) (by omega)]⟩
theorem VA.of {k : Nat} (h : ∀ j, 17 ≤ j → j ≤ 28 → f' j = f j) : VA f f' k := by
  refine ⟨fun j h1 h2 => by rw [h j (by omega) (by omega)], fun j h1 h2 q _ => by rw [h j (by omega) (by omega)], fun q _ => by rw [h 27 (by omega) (by omega)], fun q _ => by rw [h 28 (by omega) (by omega)]⟩
theorem HA.of {k : Nat} (h : ∀ j, 29 ≤ j → j ≤ 41 → f' j = f j) : HA f f' k := by
  refine ⟨fun j h1 => by rw [h j (by omega) (by omega)], fun q _ => by rw [h 31 (by omega) (by omega)], fun j h1 h2 q _ => by rw [h j (by omega) (by omega)], fun j h1 q _ => by rw [h j (by omega) (by omega)]⟩
theorem CelR.cg {k : Nat} {c : CeS} (R : CelR f k c) (h1 : c.2.2.1.length ≤ 12) (h2 : c.2.2.2.length ≤ 108) (h : CA f f' k) : CelR f' k c := by
  obtain ⟨⟨a1, a2, a3⟩, b, c1, d, e, g⟩ := R
  obtain ⟨p1, p2, p3, p4⟩ := h
  refine ⟨⟨by rw [p1 0 (by omega)]; exact a1, by rw [p1 1 (by omega)]; exact a2, by rw [p1 2 (by omega)]; exact a3⟩, by rw [p1 3 (by omega)]; exact b, by rw [p1 4 (by omega)]; exact c1, fun q hq => by rw [p2 q (by omega)]; exact d q hq, by rw [p3]; exact e, fun q hq => ?_⟩
  rw [p4 8 (by omega) (by omega) q (by omega), p4 9 (by omega) (by omega) q (by omega), p4 10 (by omega) (by omega) q (by omega)]
  exact g q hq
theorem VeR.cg {v : Nat} {x : VeS} (R : VeR f v x) (hw : ∀ s, x.2.2 = some s → s.2.1.1.length ≤ 8 ∧ ∀ l, tl s.2.1.2 l ≤ 30) (h : VA f f' v) : VeR f' v x := by
  obtain ⟨a1, a2, a3, a4, a5, a6⟩ := R
  obtain ⟨p1, p2, p3, p4⟩ := h
  refine ⟨by rw [p1 17 (by omega) (by omega)]; exact a1, by rw [p1 18 (by omega) (by omega)]; exact a2, by rw [p1 19 (by omega) (by omega)]; exact a3, by rw [p1 20 (by omega) (by omega)]; exact a4, by rw [p1 21 (by omega) (by omega)]; exact a5, fun s hs => ?_⟩
  obtain ⟨b1, b2, b3, b4, b5⟩ := a6 s hs
  obtain ⟨w1, w2⟩ := hw s hs
  refine ⟨by rw [p1 22 (by omega) (by omega)]; exact b1, by rw [p1 23 (by omega) (by omega)]; exact b2, by rw [p1 24 (by omega) (by omega)]; exact b3, fun q hq => ?_, fun l hl => ?_⟩
  · rw [p2 25 (by omega) (by omega) q (by omega), p2 26 (by omega) (by omega) q (by omega)]; exact b4 q hq
  · obtain ⟨c1, c2⟩ := b5 l hl
    refine ⟨by rw [p3 l hl]; exact c1, fun q hq => ?_⟩
    have := w2 l
    rw [show 90 * v + 30 * l + q = 90 * v + (30 * l + q) by omega, p4 (30 * l + q) (by omega), ← show 90 * v + 30 * l + q = 90 * v + (30 * l + q) by omega]
    exact c2 q hq
theorem HsR.cg {k : Nat} {x : HaS} (R : HsR S f k x) (h1 : x.2.1.length ≤ 3) (h2 : x.2.2.2.length ≤ 40) (h : HA f f' k) : HsR S f' k x := by
  obtain ⟨a1, a2, a3, a4, a5, a6, a7, a8, a9, a10⟩ := R
  obtain ⟨p1, p2, p3, p4⟩ := h
  refine ⟨by rw [p1 29 (by omega)]; exact a1, by rw [p1 30 (by omega)]; exact a2, fun q hq => by rw [p2 q (by omega)]; exact a3 q hq, by rw [p1 32 (by omega)]; exact a4, by rw [p1 33 (by omega)]; exact a5, by rw [p1 34 (by omega)]; exact a6, fun w hw => ?_, fun v hv => by rw [p4 37 (by omega) v hv]; exact a8 v hv, by rw [p1 38 (by omega)]; exact a9, fun q hq => ?_⟩
  · rw [p3 35 (by omega) (by omega) w hw, p3 36 (by omega) (by omega) w hw]; exact a7 w hw
  · rw [p4 39 (by omega) q (by omega), p4 40 (by omega) q (by omega), p4 41 (by omega) q (by omega)]; exact a10 q hq
theorem HsZ.cg {k : Nat} (R : HsZ f k) (h : HA f f' k) : HsZ f' k := by
  obtain ⟨a1, a2, a3, a4, a5, a6⟩ := R
  obtain ⟨p1, p2, p3, p4⟩ := h
  refine ⟨by rw [p1 30 (by omega)]; exact a1, by rw [p1 33 (by omega)]; exact a2, by rw [p1 34 (by omega)]; exact a3, fun w hw => ?_, fun v hv => by rw [p4 37 (by omega) v hv]; exact a5 v hv, by rw [p1 38 (by omega)]; exact a6⟩
  rw [p3 35 (by omega) (by omega) w hw, p3 36 (by omega) (by omega) w hw]; exact a4 w hw
theorem TyR.cg {m : Pts × Tx} {n : Int32} (R : TyR m n f) (h : ∀ j, 11 ≤ j → j ≤ 14 → f' j = f j) : TyR m n f' := by
  obtain ⟨a1, a2, a3⟩ := R
  refine ⟨a1, fun k hk => by rw [h 11 (by omega) (by omega), h 12 (by omega) (by omega)]; exact a2 k hk, fun l hl => by rw [h 13 (by omega) (by omega), h 14 (by omega) (by omega)]; exact a3 l hl⟩
theorem HsR.ext {S' : SS} {k : Nat} {x : HaS} (R : HsR S f k x) (h6 : ∀ v, some v ∈ x.2.2.1.1 → v < (sVers S).length) (h : ∀ v, v < (sVers S).length → vNum S' v = vNum S v) : HsR S' f k x := by
  obtain ⟨a1, a2, a3, a4, a5, a6, a7, a8⟩ := R
  refine ⟨a1, a2, a3, a4, a5, a6, fun w hw => ⟨?_, (a7 w hw).2⟩, a8⟩
  rw [(a7 w hw).1]
  cases ho : x.2.2.1.1.getD w none with
  | none => rfl
  | some v => show vNum S v = vNum S' v; rw [h v (h6 v (getD_mem ho))]
theorem Rel.thr (R : Rel S t i f) (x : Int32) : Rel S x (up1 i 0 x) f :=
  ⟨rfl, R.ck, R.nc, R.nw, R.nv, R.nh, R.ty, R.ce, R.cz, R.wa, R.ve, R.hs, R.hz⟩
theorem SOK.vw (K : SOK S) {v : Nat} (hv : v < (sVers S).length) : ∀ s, (vAt S v).2.2 = some s → s.2.1.1.length ≤ 8 ∧ ∀ l, tl s.2.1.2 l ≤ 30 := fun s hs =>
  ⟨(K.wv v _ s (vAt_get hv) hs).1, (K.wv v _ s (vAt_get hv) hs).2.2.1⟩
/-- lengths alone -/
def LOK (S : SS) : Prop := ((sCells S).length ≤ 8) ∧
  ((sHs S).length ≤ 3) ∧
  (∀ (i : Nat) (c : CeS), (sCells S)[i]? = some c → c.2.2.1.length ≤ 12 ∧ c.2.2.2.length ≤ 108) ∧
  (∀ v : Nat, v < (sVers S).length → ∀ s, (vAt S v).2.2 = some s → s.2.1.1.length ≤ 8 ∧ ∀ l, tl s.2.1.2 l ≤ 30) ∧
  (∀ (k : Nat) (h : HaS), (sHs S)[k]? = some h → h.2.1.length ≤ 3 ∧ h.2.2.2.length ≤ 40 ∧ h.2.2.1.1.length = 12 ∧ h.2.2.1.2.1.length = 12)
theorem LOK.n8 {S : SS} (K : LOK S) : (sCells S).length ≤ 8 := K.1
theorem LOK.n3 {S : SS} (K : LOK S) : (sHs S).length ≤ 3 := K.2.1
theorem LOK.cl {S : SS} (K : LOK S) : ∀ (i : Nat) (c : CeS), (sCells S)[i]? = some c → c.2.2.1.length ≤ 12 ∧ c.2.2.2.length ≤ 108 := K.2.2.1
theorem LOK.vw {S : SS} (K : LOK S) : ∀ {v : Nat}, v < (sVers S).length → ∀ s, (vAt S v).2.2 = some s → s.2.1.1.length ≤ 8 ∧ ∀ l, tl s.2.1.2 l ≤ 30 := fun {v} => K.2.2.2.1 v
theorem LOK.hl {S : SS} (K : LOK S) : ∀ (k : Nat) (h : HaS), (sHs S)[k]? = some h → h.2.1.length ≤ 3 ∧ h.2.2.2.length ≤ 40 ∧ h.2.2.1.1.length = 12 ∧ h.2.2.1.2.1.length = 12 := K.2.2.2.2
theorem SOK.lok (K : SOK S) : LOK S :=
  ⟨K.wf.2.2.1, K.wf.2.2.2.2.1, fun i c hc => ⟨(K.wc i c hc).1, (K.wc i c hc).2.2.1⟩, fun _ hv => K.vw hv, fun k h hh => ⟨(K.hk k h hh).1.1, (K.hk k h hh).1.2.2.2.2.2.2.1, (K.hk k h hh).1.2.2.1, (K.hk k h hh).1.2.2.2.1⟩⟩
theorem LOK.ce {n : Nat} {c : CeS} (K : LOK S) (h1 : c.2.2.1.length ≤ 12) (h2 : c.2.2.2.length ≤ 108) : LOK (setCe S n c) := by
  refine ⟨by show ((sCells S).set n c).length ≤ 8; rw [List.length_set]; exact K.n8, K.n3, fun i x hx => ?_, fun _ hv => K.vw hv, K.hl⟩
  have hx : ((sCells S).set n c)[i]? = some x := hx
  rw [List.getElem?_set] at hx
  by_cases e : n = i
  · rw [if_pos e] at hx
    split at hx
    · cases hx; exact ⟨h1, h2⟩
    · cases hx
  · rw [if_neg e] at hx; exact K.cl i x hx
theorem LOK.hs {n : Nat} {c : HaS} (K : LOK S) (h : c.2.1.length ≤ 3 ∧ c.2.2.2.length ≤ 40 ∧ c.2.2.1.1.length = 12 ∧ c.2.2.1.2.1.length = 12) : LOK (setHs S n c) := by
  refine ⟨K.n8, by show ((sHs S).set n c).length ≤ 3; rw [List.length_set]; exact K.n3, K.cl, fun _ hv => K.vw hv, fun i x hx => ?_⟩
  have hx : ((sHs S).set n c)[i]? = some x := hx
  rw [List.getElem?_set] at hx
  by_cases e : n = i
  · rw [if_pos e] at hx
    split at hx
    · cases hx; exact h
    · cases hx
  · rw [if_neg e] at hx; exact K.hl i x hx
/-- the scratch row is nobody's -/
theorem Rel.six (R : Rel S t i f) (h : ∀ j, j ≠ 6 → f' j = f j) : Rel S t i f' := by
  have e : ∀ k, CA f f' k := fun k => CA.of fun j _ h6 => h j h6
  refine ⟨R.th, R.ck, R.nc, R.nw, R.nv, R.nh, R.ty.cg (fun j _ _ => h j (by omega)), ?_, ?_, ?_, ?_, ?_, ?_⟩
  · intro k c hc
    have := R.ce k c hc
    unfold CelR at *
    rw [h 0 (by omega), h 1 (by omega), h 2 (by omega), h 3 (by omega), h 4 (by omega), h 5 (by omega), h 7 (by omega), h 8 (by omega), h 9 (by omega), h 10 (by omega)]; exact this
  · intro k h1 h2; rw [h 3 (by omega), h 4 (by omega), h 7 (by omega)]; exact R.cz k h1 h2
  · intro w hw; rw [h 15 (by omega), h 16 (by omega)]; exact R.wa w hw
  · intro v hv
    have := R.ve v hv
    unfold VeR at *
    rw [h 17 (by omega), h 18 (by omega), h 19 (by omega), h 20 (by omega), h 21 (by omega), h 22 (by omega), h 23 (by omega), h 24 (by omega), h 25 (by omega), h 26 (by omega), h 27 (by omega), h 28 (by omega)]; exact this
  · intro k x hx
    have := R.hs k x hx
    unfold HsR at *
    rw [h 29 (by omega), h 30 (by omega), h 31 (by omega), h 32 (by omega), h 33 (by omega), h 34 (by omega), h 35 (by omega), h 36 (by omega), h 37 (by omega), h 38 (by omega), h 39 (by omega), h 40 (by omega), h 41 (by omega)]; exact this
  · intro k h1 h2; exact (R.hz k h1 h2).cg (HA.of fun j _ _ => h j (by omega))
theorem Rel.kCe {n : Nat} {c c' : CeS} (R : Rel S t i f) (K : LOK S) (hn : (sCells S)[n]? = some c) (h1 : ∀ k, k ≠ n → k < 8 → CA f f' k) (h2 : ∀ j, 11 ≤ j → f' j = f j) (h3 : CelR f' n c') : Rel (setCe S n c') t i f' := by
  have hi := (List.getElem?_eq_some_iff.mp hn).1
  have h8 := K.n8
  have hl : (sCells (setCe S n c')).length = (sCells S).length := List.length_set
  refine ⟨R.th, R.ck, by rw [hl]; exact R.nc, R.nw, R.nv, R.nh, R.ty.cg (fun j a _ => h2 j a), ?_, ?_, ?_, ?_, ?_, ?_⟩
  · intro k x hx
    have hx : ((sCells S).set n c')[k]? = some x := hx
    rw [List.getElem?_set] at hx
    by_cases e : n = k
    · subst e
      rw [if_pos rfl, if_pos hi] at hx
      cases hx; exact h3
    · rw [if_neg e] at hx
      have hk := (List.getElem?_eq_some_iff.mp hx).1
      have hw := K.cl k x hx
      exact (R.ce k x hx).cg hw.1 hw.2 (h1 k (fun q => e q.symm) (by omega))
  · intro k a b
    rw [hl] at a
    obtain ⟨p1, p2, p3, p4⟩ := h1 k (by omega) b
    rw [p1 3 (by omega), p1 4 (by omega), p3]; exact R.cz k a b
  · intro w hw; rw [h2 15 (by omega), h2 16 (by omega)]; exact R.wa w hw
  · intro v hv; exact (R.ve v hv).cg (K.vw hv) (VA.of fun j a _ => h2 j (by omega))
  · intro k x hx
    have hk := K.hl k x hx
    exact (R.hs k x hx).cg hk.1 hk.2.1 (HA.of fun j a _ => h2 j (by omega))
  · intro k a b; exact (R.hz k a b).cg (HA.of fun j a _ => h2 j (by omega))
theorem Rel.kHs {n : Nat} {x : HaS} (R : Rel S t i f) (K : LOK S) (hn : n < (sHs S).length) (h1 : ∀ k, k ≠ n → k < 3 → HA f f' k) (h2 : ∀ j, j < 29 → f' j = f j) (h3 : HsR S f' n x) : Rel (setHs S n x) t i f' := by
  have hl : (sHs (setHs S n x)).length = (sHs S).length := List.length_set
  have h5 := K.n3
  refine ⟨R.th, R.ck, R.nc, R.nw, R.nv, by rw [hl]; exact R.nh, R.ty.cg (fun j _ _ => h2 j (by omega)), ?_, ?_, ?_, ?_, ?_, ?_⟩
  · intro k c hc
    have hw := K.cl k c hc
    exact (R.ce k c hc).cg hw.1 hw.2 (CA.of fun j _ _ => h2 j (by omega))
  · intro k a b; rw [h2 3 (by omega), h2 4 (by omega), h2 7 (by omega)]; exact R.cz k a b
  · intro w hw; rw [h2 15 (by omega), h2 16 (by omega)]; exact R.wa w hw
  · intro v hv; exact (R.ve v hv).cg (K.vw hv) (VA.of fun j a _ => h2 j (by omega))
  · intro k y hy
    have hy : ((sHs S).set n x)[k]? = some y := hy
    rw [List.getElem?_set] at hy
    by_cases e : n = k
    · subst e
      rw [if_pos rfl, if_pos hn] at hy
      cases hy; exact h3
    · rw [if_neg e] at hy
      have hk := K.hl k y hy
      have hkl := (List.getElem?_eq_some_iff.mp hy).1
      exact (R.hs k y hy).cg hk.1 hk.2.1 (h1 k (fun q => e q.symm) (by omega))
  · intro k a b
    rw [hl] at a
    exact (R.hz k a b).cg (h1 k (by omega) b)
/-- typed things -/
theorem Rel.kTy {m : Pts × Tx} {z : Int32} (R : Rel S t i f) (K : SOK S) (h : ∀ j, j < 11 ∨ 15 ≤ j → f' j = f j) (hm : TyR m z f') : Rel (setTy S m) t (up1 i 3 z) f' := by
  refine ⟨R.th, R.ck, R.nc, R.nw, R.nv, R.nh, hm, ?_, ?_, ?_, ?_, ?_, ?_⟩
  · intro k c hc
    have hw := K.wc k c hc
    exact (R.ce k c hc).cg hw.1 hw.2.2.1 (CA.of fun j _ _ => h j (by omega))
  · intro k a b; rw [h 3 (by omega), h 4 (by omega), h 7 (by omega)]; exact R.cz k a b
  · intro w hw; rw [h 15 (by omega), h 16 (by omega)]; exact R.wa w hw
  · intro v hv; exact (R.ve v hv).cg (K.vw hv) (VA.of fun j a _ => h j (by omega))
  · intro k x hx
    have hk := (K.hk k x hx).1
    exact (R.hs k x hx).cg hk.1 hk.2.2.2.2.2.2.1 (HA.of fun j a _ => h j (by omega))
  · intro k a b; exact (R.hz k a b).cg (HA.of fun j a _ => h j (by omega))
theorem Rel.ii {i' : Nat → Int32} (R : Rel S t i f) (h : i' = i) : Rel S t i' f := h ▸ R
end RE
theorem up2_off {f : Nat → Nat → Int32} {j k n m : Nat} {x : Int32} (h : n = j → m ≠ k) : up2 f j k x n m = f n m := by
  rw [up2_at, if_neg (fun e => h e.1 e.2)]
theorem up2_on {f : Nat → Nat → Int32} {j k : Nat} {x : Int32} : up2 f j k x j k = x := by rw [up2_at, if_pos ⟨rfl, rfl⟩]
theorem up2_thru {f : Nat → Nat → Int32} {j k n m : Nat} {x y : Int32} (h : n ≠ j) (e : f n m = x) : up2 f j k y n m = x := by rw [up2_ne h]; exact e
theorem up2_past {f : Nat → Nat → Int32} {j k n m : Nat} {x y : Int32} (h : n = j → m ≠ k) (e : f n m = x) : up2 f j k y n m = x := by rw [up2_off h]; exact e
theorem up1_id (i : Nat → Int32) (k : Nat) : up1 i k (i k) = i := by
  funext n; unfold up1; split
  · rename_i h; rw [h]
  · rfl
theorem CA.trans {f g h : Nat → Nat → Int32} {k : Nat} (p : CA f g k) (q : CA g h k) : CA f h k := by
  obtain ⟨a1, a2, a3, a4⟩ := p; obtain ⟨b1, b2, b3, b4⟩ := q
  exact ⟨fun j hj => by rw [b1 j hj, a1 j hj], fun j hj => by rw [b2 j hj, a2 j hj], by rw [b3, a3], fun j x y q hq => by rw [b4 j x y q hq, a4 j x y q hq]⟩
theorem CA.up {f : Nat → Nat → Int32} {j0 q0 k : Nat} {x : Int32} (h : ¬ (j0 ≤ 4 ∧ q0 = k) ∧ ¬ (j0 = 7 ∧ q0 = k) ∧ ¬ (j0 = 5 ∧ 12 * k ≤ q0 ∧ q0 < 12 * k + 12) ∧ ¬ (8 ≤ j0 ∧ j0 ≤ 10 ∧ 108 * k ≤ q0 ∧ q0 < 108 * k + 108)) : CA f (up2 f j0 q0 x) k :=
  ⟨fun j hj => up2_off (by omega), fun q hq => up2_off (by omega), up2_off (by omega), fun j a b q hq => up2_off (by omega)⟩
theorem HA.trans {f g h : Nat → Nat → Int32} {k : Nat} (p : HA f g k) (q : HA g h k) : HA f h k := by
  obtain ⟨a1, a2, a3, a4⟩ := p; obtain ⟨b1, b2, b3, b4⟩ := q
  exact ⟨fun j hj => by rw [b1 j hj, a1 j hj], fun j hj => by rw [b2 j hj, a2 j hj], fun j x y q hq => by rw [b3 j x y q hq, a3 j x y q hq], fun j x q hq => by rw [b4 j x q hq, a4 j x q hq]⟩
theorem HA.rfl' {f : Nat → Nat → Int32} {k : Nat} : HA f f k := ⟨fun _ _ => rfl, fun _ _ => rfl, fun _ _ _ _ _ => rfl, fun _ _ _ _ => rfl⟩
theorem HA.up {f : Nat → Nat → Int32} {j0 q0 k : Nat} {x : Int32} (h : ¬ (j0 ≠ 31 ∧ (j0 ≤ 34 ∨ j0 = 38) ∧ q0 = k) ∧ ¬ (j0 = 31 ∧ 3 * k ≤ q0 ∧ q0 < 3 * k + 3) ∧ ¬ (35 ≤ j0 ∧ j0 ≤ 36 ∧ 12 * k ≤ q0 ∧ q0 < 12 * k + 12) ∧ ¬ (37 ≤ j0 ∧ j0 ≠ 38 ∧ 40 * k ≤ q0 ∧ q0 < 40 * k + 40)) : HA f (up2 f j0 q0 x) k :=
  ⟨fun j hj => up2_off (by omega), fun q hq => up2_off (by omega), fun j a b q hq => up2_off (by omega), fun j a q hq => up2_off (by omega)⟩
theorem VA.trans {f g h : Nat → Nat → Int32} {k : Nat} (p : VA f g k) (q : VA g h k) : VA f h k := by
  obtain ⟨a1, a2, a3, a4⟩ := p; obtain ⟨b1, b2, b3, b4⟩ := q
  exact ⟨fun j x y => by rw [b1 j x y, a1 j x y], fun j x y q hq => by rw [b2 j x y q hq, a2 j x y q hq], fun q hq => by rw [b3 q hq, a3 q hq], fun q hq => by rw [b4 q hq, a4 q hq]⟩
theorem VA.up {f : Nat → Nat → Int32} {j0 q0 k : Nat} {x : Int32} (h : ¬ (17 ≤ j0 ∧ j0 ≤ 24 ∧ q0 = k) ∧ ¬ (25 ≤ j0 ∧ j0 ≤ 26 ∧ 8 * k ≤ q0 ∧ q0 < 8 * k + 8) ∧ ¬ (j0 = 27 ∧ 3 * k ≤ q0 ∧ q0 < 3 * k + 3) ∧ ¬ (j0 = 28 ∧ 90 * k ≤ q0 ∧ q0 < 90 * k + 90)) : VA f (up2 f j0 q0 x) k :=
  ⟨fun j a b => up2_off (by omega), fun j a b q hq => up2_off (by omega), fun q hq => up2_off (by omega), fun q hq => up2_off (by omega)⟩
theorem getD_snoc_old {α : Type} {l : List α} {x d : α} {k : Nat} (h : k < l.length) : (l ++ [x]).getD k d = l.getD k d := by
  rw [List.getD_eq_getElem?_getD, List.getElem?_append_left h, ← List.getD_eq_getElem?_getD]
theorem getD_snoc_new {α : Type} {l : List α} {x d : α} : (l ++ [x]).getD l.length d = x := by
  rw [List.getD_eq_getElem?_getD, List.getElem?_append_right (Nat.le_refl _)]; simp
section RW
variable {S : SS} {t : Int32} {i : Nat → Int32} {f : Nat → Nat → Int32}
theorem Rel.corner {x y : Int32} (R : Rel S t i f) (K : SOK S) : Rel (setTy S ((sTyped S).1 ++ [(x, y)], (sTyped S).2)) t (up1 i 3 (nI ((sTyped S).1.length + 1))) (up2 (up2 f 11 (sTyped S).1.length x) 12 (sTyped S).1.length y) := by
  obtain ⟨a1, a2, a3⟩ := R.ty
  refine R.kTy K (fun j hj => by rw [up2_ne (by omega), up2_ne (by omega)]) ⟨by simp, fun k hk => ?_, fun l hl => ?_⟩
  · have hk : k < ((sTyped S).1 ++ [(x, y)]).length := hk
    rw [List.length_append, List.length_singleton] at hk
    unfold pX pY
    by_cases e : k = (sTyped S).1.length
    · subst e
      rw [getD_snoc_new, up2_off (by omega), up2_on, up2_on]; exact ⟨rfl, rfl⟩
    · rw [getD_snoc_old (by omega), up2_off (by omega), up2_off (by omega), up2_off (by omega), up2_off (by omega)]
      exact a2 k (by omega)
  · rw [up2_ne (by omega), up2_ne (by omega), up2_ne (by omega), up2_ne (by omega)]; exact a3 l hl
theorem Rel.text {l : Nat} {v : Int32} (R : Rel S t i f) (K : SOK S) (hl : l < 3) (h30 : tl (sTyped S).2 l < 30) : Rel (setTy S ((sTyped S).1, (sTyped S).2.set l ((sTyped S).2.getD l [] ++ [v]))) t i (up2 (up2 f 14 (30 * l + tl (sTyped S).2 l) v) 13 l (nI (tl (sTyped S).2 l + 1))) := by
  obtain ⟨a1, a2, a3⟩ := R.ty
  obtain ⟨t1, t2, t3⟩ := K.wt
  have key := R.kTy (z := i 3) (m := ((sTyped S).1, (sTyped S).2.set l ((sTyped S).2.getD l [] ++ [v]))) (f' := up2 (up2 f 14 (30 * l + tl (sTyped S).2 l) v) 13 l (nI (tl (sTyped S).2 l + 1))) K (fun j hj => by rw [up2_ne (by omega), up2_ne (by omega)]) ⟨a1, fun k hk => ?_, fun l' hl' => ?_⟩
  · rw [up1_id] at key; exact key
  · rw [up2_ne (by omega), up2_ne (by omega), up2_ne (by omega), up2_ne (by omega)]; exact a2 k hk
  · by_cases e : l' = l
    · subst e
      have hg : ((sTyped S).2.set l' ((sTyped S).2.getD l' [] ++ [v])).getD l' [] = (sTyped S).2.getD l' [] ++ [v] := getD_set_self (by omega)
      have htl : tl ((sTyped S).2.set l' ((sTyped S).2.getD l' [] ++ [v])) l' = tl (sTyped S).2 l' + 1 := by
        unfold tl; rw [hg]; simp
      refine ⟨by rw [up2_on]; show _ = nI (tl _ _); rw [htl], fun k hk => ?_⟩
      have hk : k < tl ((sTyped S).2.set l' ((sTyped S).2.getD l' [] ++ [v])) l' := hk
      rw [htl] at hk
      show _ = (List.getD ((sTyped S).2.set l' ((sTyped S).2.getD l' [] ++ [v])) l' []).getD k 0
      rw [hg, up2_off (by omega)]
      by_cases e2 : k = tl (sTyped S).2 l'
      · subst e2
        rw [up2_on]; unfold tl; rw [getD_snoc_new]
      · rw [up2_off (by omega), getD_snoc_old (by unfold tl at *; omega)]
        exact (a3 l' hl').2 k (by omega)
    · have hg : ((sTyped S).2.set l ((sTyped S).2.getD l [] ++ [v])).getD l' [] = (sTyped S).2.getD l' [] := getD_set_ne e
      have htl : tl ((sTyped S).2.set l ((sTyped S).2.getD l [] ++ [v])) l' = tl (sTyped S).2 l' := by unfold tl; rw [hg]
      refine ⟨by rw [up2_off (by omega), up2_ne (by omega)]; show _ = nI (tl _ _); rw [htl]; exact (a3 l' hl').1, fun k hk => ?_⟩
      have hk : k < tl ((sTyped S).2.set l ((sTyped S).2.getD l [] ++ [v])) l' := hk
      rw [htl] at hk
      show _ = (List.getD ((sTyped S).2.set l ((sTyped S).2.getD l [] ++ [v])) l' []).getD k 0
      have := t3 l
      have := t3 l'
      rw [hg, up2_off (by omega), up2_off (by omega)]
      exact (a3 l' hl').2 k hk
theorem Rel.clear {f' : Nat → Nat → Int32} (R : Rel S t i f) (K : SOK S) (h1 : ∀ j, j ≠ 13 → f' j = f j) (h2 : ∀ l, l < 3 → f' 13 l = 0) : Rel (setTy S eT) t (up1 i 3 0) f' := by
  refine R.kTy K (fun j hj => h1 j (by omega)) ⟨rfl, fun k hk => absurd hk (Nat.not_lt_zero k), fun l hl => ?_⟩
  have : tl eT.2 l = 0 := by
    match l, hl with
    | 0, _ => rfl
    | 1, _ => rfl
    | 2, _ => rfl
  refine ⟨by rw [h2 l hl, this]; rfl, fun k hk => by rw [this] at hk; exact absurd hk (Nat.not_lt_zero k)⟩
theorem Rel.line {n : Nat} {c : CeS} {w : Bool} (R : Rel S t i f) (K : LOK S) (hn : (sCells S)[n]? = some c) : Rel (setCe S n (c.1, (w, c.2.1.2), c.2.2)) t i (up2 f 3 n (b2i (!w))) := by
  obtain ⟨a, b, d, e, g, h⟩ := R.ce n c hn
  refine R.kCe K hn (fun k hk _ => CA.up (by omega)) (fun j hj => up2_ne (by omega)) ⟨?_, up2_on, ?_, ?_, ?_, ?_⟩
  · rw [up2_ne (by omega), up2_ne (by omega), up2_ne (by omega)]; exact a
  · rw [up2_ne (by omega)]; exact d
  · rw [up2_ne (by omega)]; exact e
  · rw [up2_ne (by omega)]; exact g
  · rw [up2_ne (by omega), up2_ne (by omega), up2_ne (by omega)]; exact h
theorem Rel.page {n v : Nat} {c : CeS} {l x : Int32} (R : Rel S t i f) (K : LOK S) (hn : (sCells S)[n]? = some c) (hr : c.2.2.2.length < 108) : Rel (setCe S n (cPg c (c.2.2.2 ++ [(v, l, x)]))) t i (up2 (up2 (up2 (up2 f 8 (108 * n + c.2.2.2.length) (nI v)) 9 (108 * n + c.2.2.2.length) l) 10 (108 * n + c.2.2.2.length) x) 7 n (nI (c.2.2.2.length + 1))) := by
  obtain ⟨a, b, d, e, g, h⟩ := R.ce n c hn
  refine R.kCe K hn (fun k hk _ => (((CA.up (by omega)).trans (CA.up (by omega))).trans (CA.up (by omega))).trans (CA.up (by omega))) (fun j hj => by rw [up2_ne (by omega), up2_ne (by omega), up2_ne (by omega), up2_ne (by omega)]) ⟨?_, ?_, ?_, ?_, ?_, ?_⟩
  · simp only [up2_ne (show (0 : Nat) ≠ 7 by omega), up2_ne (show (0 : Nat) ≠ 10 by omega), up2_ne (show (0 : Nat) ≠ 9 by omega), up2_ne (show (0 : Nat) ≠ 8 by omega), up2_ne (show (1 : Nat) ≠ 7 by omega), up2_ne (show (1 : Nat) ≠ 10 by omega), up2_ne (show (1 : Nat) ≠ 9 by omega), up2_ne (show (1 : Nat) ≠ 8 by omega), up2_ne (show (2 : Nat) ≠ 7 by omega), up2_ne (show (2 : Nat) ≠ 10 by omega), up2_ne (show (2 : Nat) ≠ 9 by omega), up2_ne (show (2 : Nat) ≠ 8 by omega)]; exact a
  · rw [up2_ne (by omega), up2_ne (by omega), up2_ne (by omega), up2_ne (by omega)]; exact b
  · rw [up2_ne (by omega), up2_ne (by omega), up2_ne (by omega), up2_ne (by omega)]; exact d
  · rw [up2_ne (by omega), up2_ne (by omega), up2_ne (by omega), up2_ne (by omega)]; exact e
  · rw [up2_on]; show _ = nI (c.2.2.2 ++ [(v, l, x)]).length; simp
  · intro k hk
    have hk : k < (c.2.2.2 ++ [(v, l, x)]).length := hk
    show _ = nI ((c.2.2.2 ++ [(v, l, x)]).getD k (0, 0, 0)).1 ∧ _ = ((c.2.2.2 ++ [(v, l, x)]).getD k (0, 0, 0)).2.1 ∧ _ = ((c.2.2.2 ++ [(v, l, x)]).getD k (0, 0, 0)).2.2
    rw [List.length_append, List.length_singleton] at hk
    by_cases e2 : k = c.2.2.2.length
    · subst e2
      rw [getD_snoc_new]
      refine ⟨?_, ?_, ?_⟩
      · rw [up2_off (by omega), up2_off (by omega), up2_off (by omega), up2_on]
      · rw [up2_off (by omega), up2_off (by omega), up2_on]
      · rw [up2_off (by omega), up2_on]
    · rw [getD_snoc_old (by omega)]
      have := h k (by omega)
      simp only [up2_off (show (8 : Nat) = 7 → 108 * n + k ≠ n by omega), up2_off (show (9 : Nat) = 7 → 108 * n + k ≠ n by omega), up2_off (show (10 : Nat) = 7 → 108 * n + k ≠ n by omega)]
      rw [up2_off (by omega), up2_off (by omega), up2_off (by omega), up2_off (by omega), up2_off (by omega), up2_off (by omega), up2_off (by omega), up2_off (by omega), up2_off (by omega)]
      exact this
theorem Rel.list {n : Nat} {c : CeS} {l : List Nat} {fl : Bool} {f' : Nat → Nat → Int32} (R : Rel S t i f) (K : LOK S) (hn : (sCells S)[n]? = some c) (h1 : ∀ j, j ≠ 4 → j ≠ 5 → j ≠ 6 → f' j = f j) (h2 : ∀ k, k ≠ n → f' 4 k = f 4 k) (h3 : f' 4 n = nI l.length) (h4 : ∀ q, ¬ (12 * n ≤ q ∧ q < 12 * n + 12) → f' 5 q = f 5 q) (h5 : ∀ k, k < l.length → f' 5 (12 * n + k) = nI (l.getD k 0)) : Rel (setCe S n (cLs c l fl)) t i f' := by
  obtain ⟨a, b, d, e, g, h⟩ := R.ce n c hn
  refine R.kCe K hn (fun k hk _ => ⟨fun j hj => ?_, fun q hq => h4 _ (by omega), by rw [h1 7 (by omega) (by omega) (by omega)], fun j p q r s => by rw [h1 j (by omega) (by omega) (by omega)]⟩) (fun j hj => h1 j (by omega) (by omega) (by omega)) ⟨?_, ?_, h3, h5, ?_, ?_⟩
  · by_cases e4 : j = 4
    · subst e4; exact h2 k hk
    · rw [h1 j e4 (by omega) (by omega)]
  · rw [h1 0 (by omega) (by omega) (by omega), h1 1 (by omega) (by omega) (by omega), h1 2 (by omega) (by omega) (by omega)]; exact a
  · rw [h1 3 (by omega) (by omega) (by omega)]; exact b
  · rw [h1 7 (by omega) (by omega) (by omega)]; exact g
  · rw [h1 8 (by omega) (by omega) (by omega), h1 9 (by omega) (by omega) (by omega), h1 10 (by omega) (by omega) (by omega)]; exact h
theorem Rel.empty {n : Nat} {c : CeS} (R : Rel S t i f) (K : LOK S) (hn : (sCells S)[n]? = some c) : Rel (setCe S n (cPg c [])) t i (up2 f 7 n 0) := by
  obtain ⟨a, b, d, e, g, h⟩ := R.ce n c hn
  refine R.kCe K hn (fun k hk _ => CA.up (by omega)) (fun j hj => up2_ne (by omega)) ⟨?_, ?_, ?_, ?_, up2_on, fun k hk => absurd hk (Nat.not_lt_zero k)⟩
  · rw [up2_ne (by omega), up2_ne (by omega), up2_ne (by omega)]; exact a
  · rw [up2_ne (by omega)]; exact b
  · rw [up2_ne (by omega)]; exact d
  · rw [up2_ne (by omega)]; exact e
theorem Rel.camp {n : Nat} {x : HaS} {c : Int32} (R : Rel S t i f) (K : LOK S) (hn : (sHs S)[n]? = some x) : Rel (setHs S n ((x.1.1, c, x.1.2.2), x.2)) t i (up2 f 32 n c) := by
  obtain ⟨a1, a2, a3, a4, a5, a6, a7, a8, a9, a10⟩ := R.hs n x hn
  refine R.kHs K (List.getElem?_eq_some_iff.mp hn).1 (fun k hk _ => HA.up (by omega)) (fun j hj => up2_ne (by omega)) ⟨?_, ?_, ?_, up2_on, ?_, ?_, ?_, ?_, ?_, ?_⟩
  · rw [up2_ne (by omega)]; exact a1
  · rw [up2_ne (by omega)]; exact a2
  · rw [up2_ne (by omega)]; exact a3
  · rw [up2_ne (by omega)]; exact a5
  · rw [up2_ne (by omega)]; exact a6
  · rw [up2_ne (by omega), up2_ne (by omega)]; exact a7
  · rw [up2_ne (by omega)]; exact a8
  · rw [up2_ne (by omega)]; exact a9
  · rw [up2_ne (by omega), up2_ne (by omega), up2_ne (by omega)]; exact a10
theorem Rel.miss {n : Nat} {x : HaS} {c : Int32} (R : Rel S t i f) (K : LOK S) (hn : (sHs S)[n]? = some x) : Rel (setHs S n (hMs x c)) t i (up2 f 33 n c) := by
  obtain ⟨a1, a2, a3, a4, a5, a6, a7, a8, a9, a10⟩ := R.hs n x hn
  refine R.kHs K (List.getElem?_eq_some_iff.mp hn).1 (fun k hk _ => HA.up (by omega)) (fun j hj => up2_ne (by omega)) ⟨?_, ?_, ?_, ?_, up2_on, ?_, ?_, ?_, ?_, ?_⟩
  · rw [up2_ne (by omega)]; exact a1
  · rw [up2_ne (by omega)]; exact a2
  · rw [up2_ne (by omega)]; exact a3
  · rw [up2_ne (by omega)]; exact a4
  · rw [up2_ne (by omega)]; exact a6
  · rw [up2_ne (by omega), up2_ne (by omega)]; exact a7
  · rw [up2_ne (by omega)]; exact a8
  · rw [up2_ne (by omega)]; exact a9
  · rw [up2_ne (by omega), up2_ne (by omega), up2_ne (by omega)]; exact a10
theorem Rel.likes {n : Nat} {x : HaS} {l : Int32} (R : Rel S t i f) (K : LOK S) (hn : (sHs S)[n]? = some x) (h3 : x.2.1.length < 3) : Rel (setHs S n (x.1, x.2.1 ++ [l], x.2.2)) t i (up2 (up2 f 31 (3 * n + x.2.1.length) l) 30 n (nI (x.2.1.length + 1))) := by
  obtain ⟨a1, a2, a3, a4, a5, a6, a7, a8, a9, a10⟩ := R.hs n x hn
  refine R.kHs K (List.getElem?_eq_some_iff.mp hn).1 (fun k hk _ => (HA.up (by omega)).trans (HA.up (by omega))) (fun j hj => by rw [up2_ne (by omega), up2_ne (by omega)]) ⟨?_, ?_, ?_, ?_, ?_, ?_, ?_, ?_, ?_, ?_⟩
  · rw [up2_ne (by omega), up2_ne (by omega)]; exact a1
  · rw [up2_on]; show _ = nI (x.2.1 ++ [l]).length; simp
  · intro k hk
    have hk : k < (x.2.1 ++ [l]).length := hk
    show _ = (x.2.1 ++ [l]).getD k 0
    rw [List.length_append, List.length_singleton] at hk
    rw [up2_ne (by omega)]
    by_cases e : k = x.2.1.length
    · subst e; rw [up2_on, getD_snoc_new]
    · rw [up2_off (by omega), getD_snoc_old (by omega)]; exact a3 k (by omega)
  · rw [up2_ne (by omega), up2_ne (by omega)]; exact a4
  · rw [up2_ne (by omega), up2_ne (by omega)]; exact a5
  · rw [up2_ne (by omega), up2_ne (by omega)]; exact a6
  · rw [up2_ne (by omega), up2_ne (by omega), up2_ne (by omega), up2_ne (by omega)]; exact a7
  · rw [up2_ne (by omega), up2_ne (by omega)]; exact a8
  · rw [up2_ne (by omega), up2_ne (by omega)]; exact a9
  · rw [up2_ne (by omega), up2_ne (by omega), up2_ne (by omega), up2_ne (by omega), up2_ne (by omega), up2_ne (by omega)]; exact a10
theorem Rel.handset {x : Int32} (R : Rel S t i f) (K : SOK S) (h3 : (sHs S).length < 3) : Rel (addHs S (hNew x)) t (up1 i 6 (nI ((sHs S).length + 1))) (up2 (up2 f 29 (sHs S).length x) 32 (sHs S).length (-1)) := by
  have hl : (sHs (addHs S (hNew x))).length = (sHs S).length + 1 := by show (sHs S ++ [_]).length = _; simp
  have e2 : ∀ j, j < 29 → up2 (up2 f 29 (sHs S).length x) 32 (sHs S).length (-1) j = f j := fun j hj => by rw [up2_ne (by omega), up2_ne (by omega)]
  have eH : ∀ k, k ≠ (sHs S).length → HA f (up2 (up2 f 29 (sHs S).length x) 32 (sHs S).length (-1)) k := fun k hk => (HA.up (by omega)).trans (HA.up (by omega))
  refine ⟨R.th, R.ck, R.nc, R.nw, R.nv, by rw [hl]; rfl, R.ty.cg (fun j _ _ => e2 j (by omega)), ?_, ?_, ?_, ?_, ?_, ?_⟩
  · intro k c hc
    have hw := K.wc k c hc
    exact (R.ce k c hc).cg hw.1 hw.2.2.1 (CA.of fun j _ _ => e2 j (by omega))
  · intro k a b; rw [e2 3 (by omega), e2 4 (by omega), e2 7 (by omega)]; exact R.cz k a b
  · intro w hw; rw [e2 15 (by omega), e2 16 (by omega)]; exact R.wa w hw
  · intro v hv; exact (R.ve v hv).cg (K.vw hv) (VA.of fun j a _ => e2 j (by omega))
  · intro k y hy
    have hy : (sHs S ++ [hNew x])[k]? = some y := hy
    by_cases e : k < (sHs S).length
    · rw [List.getElem?_append_left e] at hy
      have hk := (K.hk k y hy).1
      exact (R.hs k y hy).cg hk.1 hk.2.2.2.2.2.2.1 (eH k (by omega))
    · rw [List.getElem?_append_right (by omega)] at hy
      have := (List.getElem?_eq_some_iff.mp hy).1
      have e3 : k - (sHs S).length = 0 := by simp at this; omega
      rw [e3] at hy
      have hq : y = hNew x := by simpa using hy.symm
      have e4 : k = (sHs S).length := by omega
      rw [e4, hq]
      obtain ⟨z1, z2, z3, z4, z5, z6⟩ := R.hz _ (Nat.le_refl _) h3
      refine ⟨?_, ?_, fun k hk => absurd hk (Nat.not_lt_zero k), up2_on, ?_, ?_, fun w hw => ?_, fun v hv => ?_, ?_, fun k hk => absurd hk (Nat.not_lt_zero k)⟩
      · rw [up2_ne (by omega), up2_on]; rfl
      · rw [up2_ne (by omega), up2_ne (by omega)]; exact z1
      · rw [up2_ne (by omega), up2_ne (by omega)]; exact z2
      · rw [up2_ne (by omega), up2_ne (by omega)]; exact z3
      · rw [up2_ne (by omega), up2_ne (by omega), up2_ne (by omega), up2_ne (by omega), (z4 w hw).1, (z4 w hw).2]
        show 0 = hdN S ((List.replicate 12 none).getD w none) ∧ 0 = (List.replicate 12 (0 : Int32)).getD w 0
        rw [List.getD_eq_getElem?_getD, List.getD_eq_getElem?_getD, List.getElem?_replicate, List.getElem?_replicate, if_pos hw, if_pos hw]
        exact ⟨rfl, rfl⟩
      · rw [up2_ne (by omega), up2_ne (by omega), z5 v hv]; rfl
      · rw [up2_ne (by omega), up2_ne (by omega)]; exact z6
  · intro k a b
    rw [hl] at a
    exact (R.hz k (by omega) b).cg (eH k (by omega))
theorem Rel.cell {x y r : Int32} (R : Rel S t i f) (K : SOK S) (h8 : (sCells S).length < 8) : Rel (meaAll (addCe S (cNew x y r)) (cNew x y r)) t (up1 i 2 (nI ((sCells S).length + 1))) (up2 (up2 (up2 f 0 (sCells S).length x) 1 (sCells S).length y) 2 (sCells S).length r) := by
  have hl : (sCells (meaAll (addCe S (cNew x y r)) (cNew x y r))).length = (sCells S).length + 1 := by show (sCells S ++ [_]).length = _; simp
  have RR : VsR (sVers S) (sVers (meaAll (addCe S (cNew x y r)) (cNew x y r))) := VsR.fold _ _ _ _ _ (VsR.refl _)
  have e2 : ∀ j, 3 ≤ j → up2 (up2 (up2 f 0 (sCells S).length x) 1 (sCells S).length y) 2 (sCells S).length r j = f j := fun j hj => by rw [up2_ne (by omega), up2_ne (by omega), up2_ne (by omega)]
  have hv : ∀ v, v < (sVers S).length → (vAt (meaAll (addCe S (cNew x y r)) (cNew x y r)) v).1 = (vAt S v).1 ∧ (vAt (meaAll (addCe S (cNew x y r)) (cNew x y r)) v).2.1 = (vAt S v).2.1 ∧ (((vAt S v).2.2 = none ∧ (vAt (meaAll (addCe S (cNew x y r)) (cNew x y r)) v).2.2 = none) ∨ ∃ (s0 : SpS) (b : List Bool), (vAt S v).2.2 = some s0 ∧ (vAt (meaAll (addCe S (cNew x y r)) (cNew x y r)) v).2.2 = some (s0.1, s0.2.1, b)) := by
    intro v hv
    obtain ⟨v', a1, a2, a3, a4⟩ := RR.2 v _ (vAt_get hv)
    rw [vAt_of (S := meaAll (addCe S (cNew x y r)) (cNew x y r)) a1]
    refine ⟨a2, a3, ?_⟩
    rcases a4 with ⟨b1, b2⟩ | ⟨s0, b, b1, b2, _⟩
    · exact Or.inl ⟨b1, b2⟩
    · exact Or.inr ⟨s0, b, b1, b2⟩
  refine ⟨R.th, R.ck, by rw [hl]; rfl, R.nw, by rw [RR.1]; exact R.nv, R.nh, R.ty.cg (fun j _ _ => e2 j (by omega)), ?_, ?_, ?_, ?_, ?_, ?_⟩
  · intro k c hc
    have hc : (sCells S ++ [cNew x y r])[k]? = some c := hc
    by_cases e : k < (sCells S).length
    · rw [List.getElem?_append_left e] at hc
      have hw := K.wc k c hc
      exact (R.ce k c hc).cg hw.1 hw.2.2.1 (((CA.up (by omega)).trans (CA.up (by omega))).trans (CA.up (by omega)))
    · rw [List.getElem?_append_right (by omega)] at hc
      have := (List.getElem?_eq_some_iff.mp hc).1
      have e3 : k - (sCells S).length = 0 := by simp at this; omega
      rw [e3] at hc
      have hq : c = cNew x y r := by simpa using hc.symm
      have e4 : k = (sCells S).length := by omega
      rw [e4, hq]
      obtain ⟨z1, z2, z3⟩ := R.cz _ (Nat.le_refl _) h8
      refine ⟨⟨?_, ?_, up2_on⟩, ?_, ?_, fun k hk => absurd hk (Nat.not_lt_zero k), ?_, fun k hk => absurd hk (Nat.not_lt_zero k)⟩
      · rw [up2_ne (by omega), up2_ne (by omega), up2_on]; rfl
      · rw [up2_ne (by omega), up2_on]; rfl
      · rw [e2 3 (by omega)]; exact z1
      · rw [e2 4 (by omega)]; exact z2
      · rw [e2 7 (by omega)]; exact z3
  · intro k a b
    rw [hl] at a
    rw [e2 3 (by omega), e2 4 (by omega), e2 7 (by omega)]; exact R.cz k (by omega) b
  · intro w hw; rw [e2 15 (by omega), e2 16 (by omega)]; exact R.wa w hw
  · intro v hvl
    rw [RR.1] at hvl
    have R0 := (R.ve v hvl).cg (f' := up2 (up2 (up2 f 0 (sCells S).length x) 1 (sCells S).length y) 2 (sCells S).length r) (K.vw hvl) (VA.of fun j a _ => e2 j (by omega))
    obtain ⟨b1, b2, b3⟩ := hv v hvl
    unfold VeR at *
    rw [b1, b2]
    rcases b3 with ⟨c1, c2⟩ | ⟨s0, b, c1, c2⟩
    · rw [c2]; rw [c1] at R0; exact R0
    · rw [c2]; rw [c1] at R0
      obtain ⟨d1, d2, d3, d4, d5, d6⟩ := R0
      exact ⟨d1, d2, d3, d4, d5, fun s hs => by cases hs; exact d6 s0 rfl⟩
  · intro k h hh
    have hk := (K.hk k h hh).1
    refine ((R.hs k h hh).cg hk.1 hk.2.2.2.2.2.2.1 (HA.of fun j a _ => e2 j (by omega))).ext hk.2.2.2.2.2.1 (fun v hvl => ?_)
    unfold vNum; rw [(hv v hvl).2.1]
  · intro k a b; exact (R.hz k a b).cg (HA.of fun j a _ => e2 j (by omega))
end RW
