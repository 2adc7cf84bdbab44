/-! the class's state, and how the heap holds it: roles (kind, index) to addresses -/
abbrev Tx : Type := List (List Int32)
abbrev CeS : Type := (Int32 × Int32 × Int32) × (Bool × Bool) × List Nat × List (Nat × Int32 × Int32)
abbrev SpS : Type := (Int32 × Int32) × (Pts × Tx) × List Bool
abbrev VeS : Type := Nat × (Int32 × Int32 × Int32) × Option SpS
abbrev WaS : Type := Int32 × Option Nat
abbrev HaS : Type := (Int32 × Int32 × Int32 × Int32) × List Int32 × (List (Option Nat) × List Int32 × List Bool) × List (Nat × Int32 × Int32)
abbrev SS : Type := Int32 × List CeS × (Pts × Tx) × (List WaS × List Nat) × List VeS × List HaS
abbrev sClock (S : SS) : Int32 := S.1
abbrev sCells (S : SS) : List CeS := S.2.1
abbrev sTyped (S : SS) : Pts × Tx := S.2.2.1
abbrev sWarn (S : SS) : List WaS := S.2.2.2.1.1
abbrev sOrd (S : SS) : List Nat := S.2.2.2.1.2
abbrev sVers (S : SS) : List VeS := S.2.2.2.2.1
abbrev sHs (S : SS) : List HaS := S.2.2.2.2.2
def msgOf (S : SS) (i : Nat) : Option (Pts × Tx) := if i = 99 then some (sTyped S) else ((sVers S)[i]?).bind fun v => v.2.2.map fun s => s.2.1
/-- a row of an array whose first values are known -/
def ArG (k n : Nat) (l : List Value) (x : AC) : Prop := ∃ gb : List Value, x = (k, l ++ gb) ∧ l.length + gb.length = n
def rfN (ad : Nat → Nat → Nat) (κ : Nat) (o : Option Nat) : Value := match o with
  | none => .null
  | some v => .ref (ad κ v)
def CTop (S : SS) (ad : Nat → Nat → Nat) (κ : Nat) (x : AC) : Prop := match κ with
  | 0 => x = (0, [.int (sClock S), .ref (ad 1 0), .int (nI (sCells S).length), .ref (ad 2 0), .int (nI (sWarn S).length), .int (nI (sVers S).length), .ref (ad 3 0), .int (nI (sHs S).length), .ref (ad 4 99)])
  | 1 => ArG 104 8 ((List.range (sCells S).length).map fun i => .ref (ad 14 i)) x
  | 2 => ArG 105 12 ((sOrd S).map fun w => .ref (ad 20 w)) x
  | _ => ArG 106 3 ((List.range (sHs S).length).map fun h => .ref (ad 23 h)) x
def CMsg (m : Pts × Tx) (ad : Nat → Nat → Nat) (i κ : Nat) (x : AC) : Prop := match κ with
  | 4 => x = (5, [.ref (ad 5 i), .ref (ad 8 i)])
  | 5 => x = (1, [.ref (ad 6 i), .ref (ad 7 i), .int (nI m.1.length)])
  | 6 => ArG 100 8 (m.1.map fun p => .int p.1) x
  | 7 => ArG 100 8 (m.1.map fun p => .int p.2) x
  | 8 => x = (7, [.ref (ad 9 i), .ref (ad 13 i)])
  | 9 => x = (103, [.ref (ad 10 i), .ref (ad 11 i), .ref (ad 12 i)])
  | 13 => x = (100, m.2.map fun t => .int (nI t.length))
  | k => ArG 100 30 ((m.2.getD (k - 10) []).map fun b => .int b) x
def CCell (c : CeS) (ad : Nat → Nat → Nat) (i κ : Nat) (x : AC) : Prop := match κ with
  | 14 => x = (3, [.int (nI i), .int c.1.1, .int c.1.2.1, .int c.1.2.2, .int (b2i c.2.1.1), .ref (ad (if c.2.1.2 then 16 else 15) i), .int (nI c.2.2.1.length), .ref (ad (if c.2.1.2 then 15 else 16) i), .ref (ad 17 i), .ref (ad 18 i), .ref (ad 19 i), .int (nI c.2.2.2.length)])
  | 15 => ArG 107 12 (if c.2.1.2 then [] else c.2.2.1.map fun v => .ref (ad 21 v)) x
  | 16 => ArG 107 12 (if c.2.1.2 then c.2.2.1.map fun v => .ref (ad 21 v) else []) x
  | 17 => ArG 107 108 (c.2.2.2.map fun p => .ref (ad 21 p.1)) x
  | 18 => ArG 100 108 (c.2.2.2.map fun p => .int p.2.1) x
  | _ => ArG 100 108 (c.2.2.2.map fun p => .int p.2.2) x
def CWarn (w : WaS) (ad : Nat → Nat → Nat) (i : Nat) (x : AC) : Prop := x = (8, [.int w.1, .int (nI i), rfN ad 21 w.2])
def vKind (v : VeS) : Nat := if v.2.2.isSome then 6 else 2
def CVer (v : VeS) (ad : Nat → Nat → Nat) (i κ : Nat) (x : AC) : Prop := match κ with
  | 21 => x = (vKind v, [.ref (ad 20 v.1), .int v.2.1.1, .int v.2.1.2.1, .int v.2.1.2.2] ++ (match v.2.2 with | none => [] | some s => [.int s.1.1, .int s.1.2, .ref (ad 5 i), .ref (ad 8 i), .ref (ad 22 i)]))
  | _ => ∀ s, v.2.2 = some s → x = (101, s.2.2.map fun b => .int (b2i b))
def CHs (h : HaS) (ad : Nat → Nat → Nat) (i κ : Nat) (x : AC) : Prop := match κ with
  | 23 => x = (4, [.int h.1.1, .ref (ad 24 i), .int (nI h.2.1.length), .int h.1.2.1, .int h.1.2.2.1, .int h.1.2.2.2, .ref (ad 25 i), .ref (ad 26 i), .ref (ad 27 i), .ref (ad 28 i), .ref (ad 29 i), .ref (ad 30 i), .int (nI h.2.2.2.length)])
  | 24 => ArG 100 3 (h.2.1.map fun l => .int l) x
  | 25 => x = (107, h.2.2.1.1.map (rfN ad 21))
  | 26 => x = (100, h.2.2.1.2.1.map fun b => .int b)
  | 27 => x = (101, h.2.2.1.2.2.map fun b => .int (b2i b))
  | 28 => ArG 108 40 (h.2.2.2.map fun p => .ref (ad 21 p.1)) x
  | 29 => ArG 100 40 (h.2.2.2.map fun p => .int p.2.1) x
  | _ => ArG 100 40 (h.2.2.2.map fun p => .int p.2.2) x
def LV (S : SS) (κ i : Nat) : Prop := (κ < 4 ∧ i = 0) ∨ (4 ≤ κ ∧ κ < 14 ∧ (κ = 4 → i = 99) ∧ (msgOf S i).isSome = true) ∨ (14 ≤ κ ∧ κ < 20 ∧ i < (sCells S).length) ∨ (κ = 20 ∧ i < (sWarn S).length) ∨
  (κ = 21 ∧ i < (sVers S).length) ∨ (κ = 22 ∧ ∃ v, (sVers S)[i]? = some v ∧ v.2.2.isSome = true) ∨ (23 ≤ κ ∧ κ ≤ 30 ∧ i < (sHs S).length)
def CT (S : SS) (ad : Nat → Nat → Nat) (κ i : Nat) (x : AC) : Prop := (κ < 4 → CTop S ad κ x) ∧ (4 ≤ κ → κ < 14 → ∀ m, msgOf S i = some m → CMsg m ad i κ x) ∧ (14 ≤ κ → κ < 20 → ∀ c, (sCells S)[i]? = some c → CCell c ad i κ x) ∧
  (κ = 20 → ∀ w, (sWarn S)[i]? = some w → CWarn w ad i x) ∧ (21 ≤ κ → κ ≤ 22 → ∀ v, (sVers S)[i]? = some v → CVer v ad i κ x) ∧ (23 ≤ κ → κ ≤ 30 → ∀ h, (sHs S)[i]? = some h → CHs h ad i κ x)
/-- the heap A holds the state S at the addresses ad, and beside it the cells of F -/
def Inv (F : Nat → Option AC) (S : SS) (ad : Nat → Nat → Nat) (A : AH) : Prop :=
  (∀ κ i κ' i', LV S κ i → LV S κ' i' → ad κ i = ad κ' i' → κ = κ' ∧ i = i') ∧ (∀ κ i, LV S κ i → ∃ x, A.1 (ad κ i) = some x ∧ CT S ad κ i x) ∧
  (∀ q x, F q = some x → A.1 q = some x ∧ ∀ κ i, LV S κ i → ad κ i ≠ q) ∧ ∀ q x, A.1 q = some x → q < A.2.1
theorem aset_same (A : AH) (a : Nat) (x : AC) : (aset A a x).1 a = some x := by simp [aset]
theorem aset_ne (A : AH) {a q : Nat} (x : AC) (h : q ≠ a) : (aset A a x).1 q = A.1 q := by simp [aset, h]
theorem aset_two (A : AH) (a : Nat) (x : AC) : (aset A a x).2 = A.2 := rfl
section IG
variable {F : Nat → Option AC} {S : SS} {ad : Nat → Nat → Nat} {A : AH}
theorem Inv.get (I : Inv F S ad A) {κ i : Nat} (h : LV S κ i) : ∃ x, A.1 (ad κ i) = some x ∧ CT S ad κ i x := I.2.1 κ i h
theorem Inv.aw (I : Inv F S ad A) : A.1 (ad 0 0) = some (0, [.int (sClock S), .ref (ad 1 0), .int (nI (sCells S).length), .ref (ad 2 0), .int (nI (sWarn S).length), .int (nI (sVers S).length), .ref (ad 3 0), .int (nI (sHs S).length), .ref (ad 4 99)]) := by
  obtain ⟨x, h1, h2⟩ := I.get (κ := 0) (i := 0) (Or.inl ⟨by omega, rfl⟩)
  have h3 : x = _ := h2.1 (by omega)
  rw [h1, h3]
theorem Inv.top (I : Inv F S ad A) {κ : Nat} (h : κ < 4) : ∃ x, A.1 (ad κ 0) = some x ∧ CTop S ad κ x := by
  obtain ⟨x, h1, h2⟩ := I.get (κ := κ) (i := 0) (Or.inl ⟨h, rfl⟩)
  exact ⟨x, h1, h2.1 h⟩
theorem Inv.msg (I : Inv F S ad A) {κ i : Nat} {m : Pts × Tx} (h1 : 4 ≤ κ) (h2 : κ < 14) (h3 : κ = 4 → i = 99) (hm : msgOf S i = some m) : ∃ x, A.1 (ad κ i) = some x ∧ CMsg m ad i κ x := by
  obtain ⟨x, h5, h6⟩ := I.get (κ := κ) (i := i) (Or.inr (Or.inl ⟨h1, h2, h3, by rw [hm]; rfl⟩))
  exact ⟨x, h5, h6.2.1 h1 h2 m hm⟩
theorem Inv.cell (I : Inv F S ad A) {κ i : Nat} {c : CeS} (h1 : 14 ≤ κ) (h2 : κ < 20) (hc : (sCells S)[i]? = some c) : ∃ x, A.1 (ad κ i) = some x ∧ CCell c ad i κ x := by
  obtain ⟨x, h5, h6⟩ := I.get (κ := κ) (i := i) (Or.inr (Or.inr (Or.inl ⟨h1, h2, (List.getElem?_eq_some_iff.mp hc).1⟩)))
  exact ⟨x, h5, h6.2.2.1 h1 h2 c hc⟩
theorem Inv.warn (I : Inv F S ad A) {i : Nat} {w : WaS} (hw : (sWarn S)[i]? = some w) : A.1 (ad 20 i) = some (8, [.int w.1, .int (nI i), rfN ad 21 w.2]) := by
  obtain ⟨x, h5, h6⟩ := I.get (κ := 20) (i := i) (Or.inr (Or.inr (Or.inr (Or.inl ⟨rfl, (List.getElem?_eq_some_iff.mp hw).1⟩))))
  have h7 : x = _ := h6.2.2.2.1 rfl w hw
  rw [h5, h7]
theorem Inv.ver (I : Inv F S ad A) {i : Nat} {v : VeS} (hv : (sVers S)[i]? = some v) : ∃ x, A.1 (ad 21 i) = some x ∧ CVer v ad i 21 x := by
  obtain ⟨x, h5, h6⟩ := I.get (κ := 21) (i := i) (Or.inr (Or.inr (Or.inr (Or.inr (Or.inl ⟨rfl, (List.getElem?_eq_some_iff.mp hv).1⟩)))))
  exact ⟨x, h5, h6.2.2.2.2.1 (by omega) (by omega) v hv⟩
theorem Inv.cov (I : Inv F S ad A) {i : Nat} {v : VeS} {s : SpS} (hv : (sVers S)[i]? = some v) (hs : v.2.2 = some s) : A.1 (ad 22 i) = some (101, s.2.2.map fun b => .int (b2i b)) := by
  obtain ⟨x, h5, h6⟩ := I.get (κ := 22) (i := i) (Or.inr (Or.inr (Or.inr (Or.inr (Or.inr (Or.inl ⟨rfl, v, hv, by rw [hs]; rfl⟩))))))
  have h7 : x = _ := h6.2.2.2.2.1 (by omega) (by omega) v hv s hs
  rw [h5, h7]
theorem Inv.hs (I : Inv F S ad A) {κ i : Nat} {h : HaS} (h1 : 23 ≤ κ) (h2 : κ ≤ 30) (hh : (sHs S)[i]? = some h) : ∃ x, A.1 (ad κ i) = some x ∧ CHs h ad i κ x := by
  obtain ⟨x, h5, h6⟩ := I.get (κ := κ) (i := i) (Or.inr (Or.inr (Or.inr (Or.inr (Or.inr (Or.inr ⟨h1, h2, (List.getElem?_eq_some_iff.mp hh).1⟩))))))
  exact ⟨x, h5, h6.2.2.2.2.2 h1 h2 h hh⟩
/-- a version's kind and first fields -/
theorem Inv.verC (I : Inv F S ad A) {i : Nat} {v : VeS} (hv : (sVers S)[i]? = some v) (hs : v.2.2 = none) : A.1 (ad 21 i) = some (2, [.ref (ad 20 v.1), .int v.2.1.1, .int v.2.1.2.1, .int v.2.1.2.2]) := by
  obtain ⟨x, h1, h2⟩ := I.ver hv
  have h3 : x = _ := h2
  rw [h1, h3, hs]; simp [vKind, hs]
theorem Inv.verS (I : Inv F S ad A) {i : Nat} {v : VeS} {s : SpS} (hv : (sVers S)[i]? = some v) (hs : v.2.2 = some s) : A.1 (ad 21 i) = some (6, [.ref (ad 20 v.1), .int v.2.1.1, .int v.2.1.2.1, .int v.2.1.2.2, .int s.1.1, .int s.1.2, .ref (ad 5 i), .ref (ad 8 i), .ref (ad 22 i)]) := by
  obtain ⟨x, h1, h2⟩ := I.ver hv
  have h3 : x = _ := h2
  rw [h1, h3, hs]; simp [vKind, hs]
theorem Inv.arAt (I : Inv F S ad A) {i : Nat} {m : Pts × Tx} (hm : msgOf S i = some m) (h8 : m.1.length ≤ 8) : ArAt A (ad 5 i) m.1 := by
  obtain ⟨x5, a5, b5⟩ := I.msg (κ := 5) (by omega) (by omega) (by omega) hm
  obtain ⟨x6, a6, g6, b6, c6⟩ := I.msg (κ := 6) (by omega) (by omega) (by omega) hm
  obtain ⟨x7, a7, g7, b7, c7⟩ := I.msg (κ := 7) (by omega) (by omega) (by omega) hm
  have e5 : x5 = _ := b5
  refine ⟨h8, ad 6 i, ad 7 i, _, _, by rw [a5, e5], by rw [a6, b6], by rw [a7, b7], by simpa using c6, by simpa using c7, fun k hk => ?_, fun k hk => ?_⟩
  · rw [List.getElem?_append_left (by simpa using hk), List.getElem?_map]
    simp [pX, hk]
  · rw [List.getElem?_append_left (by simpa using hk), List.getElem?_map]
    simp [pY, hk]
end IG
