/-! rules of V for fields, arrays, new cells and returns -/
def aset (A : AH) (a : Nat) (x : AC) : AH := (fun q => if q = a then some x else A.1 q, A.2.1, A.2.2)
def anew (A : AH) (x : AC) (n : Nat) : AH := (fun q => if q = A.2.1 then some x else A.1 q, A.2.1 + 1, A.2.2 + n)
theorem HR.set {g : Gx} {A : AH} {H H' : Heap} {a : Nat} {x x' : AC} {cell : Cell} (h : HR g A H) (ha : A.1 a = some x) (e1 : H'[a]? = some cell) (hok : okC g x' cell) (e2 : H'.size = H.size) (e3 : ∀ q, q ≠ a → H'[q]? = H[q]?) : HR g (aset A a x') H' := by
  obtain ⟨h1, h2, h3, hl, hs, h4⟩ := h
  refine ⟨e2.trans h1, by rw [e2]; exact h2, fun q hq => ?_, hl, hs, fun b w hb => ?_⟩
  · rw [e3 q (Nat.ne_of_lt (Nat.lt_of_lt_of_le hq (h4 a x ha).1))]; exact h3 q hq
  · simp only [aset] at hb
    split at hb
    · rename_i hba
      cases hb; subst hba
      exact ⟨(h4 _ x ha).1, cell, e1, hok⟩
    · rename_i hba
      obtain ⟨p1, cb, p2, p3⟩ := h4 b w hb
      exact ⟨p1, cb, by rw [e3 b hba]; exact p2, p3⟩
theorem HR.new {g : Gx} {A : AH} {H H' : Heap} {x : AC} {cell : Cell} {n : Nat} (h : HR g A H) (e1 : H'[A.2.1]? = some cell) (hok : okC g x cell) (e2 : H'.size = A.2.1 + 1) (e3 : ∀ q, q < A.2.1 → H'[q]? = H[q]?) (hl : A.2.1 + 1 ≤ gL g) (hs : A.2.2 + n ≤ gS g) : HR g (anew A x n) H' := by
  obtain ⟨h1, h2, h3, -, -, h4⟩ := h
  rw [h1] at h2
  refine ⟨e2, by rw [e2]; omega, fun q hq => ?_, hl, hs, fun b w hb => ?_⟩
  · rw [e3 q (Nat.lt_of_lt_of_le hq h2)]; exact h3 q hq
  · simp only [anew] at hb
    split at hb
    · rename_i hba
      cases hb; subst hba
      exact ⟨h2, cell, e1, hok⟩
    · obtain ⟨p1, cb, p2, p3⟩ := h4 b w hb
      have hlt := (Array.getElem?_eq_some_iff.mp p2).1
      rw [h1] at hlt
      exact ⟨p1, cb, by rw [e3 b hlt]; exact p2, p3⟩
theorem okC.obj {g : Gx} {ci : Nat} {fs : List Value} {cell : Cell} (h : okC g (ci, fs) cell) (hci : ci < 100) : ∃ r, (gC g)[ci]? = some r ∧ cell.cls = (gD g).1 ci ∧ cell.vm = .none ∧ fs.length = r.2.2 ∧ ∀ k, k < r.2.2 → cell.slots[(gD g).2 ci k]? = fs[k]? := by
  rcases h with ⟨-, h⟩ | ⟨h, -⟩ | ⟨h, -⟩
  · exact h
  · exact absurd hci (Nat.not_lt.mpr h)
  · exact absurd hci (by simp only at h; omega)
theorem okC.arr {g : Gx} {j : Nat} {fs : List Value} {cell : Cell} (h : okC g (100 + j, fs) cell) (hj : j < 100) : cell = { cls := gA g j, slots := fs.toArray, vm := .none } := by
  rcases h with ⟨h, -⟩ | ⟨-, -, h⟩ | ⟨h, -⟩
  · simp only at h; omega
  · rw [h]; simp
  · simp only at h; omega
/-- a field's row: the words that link it, the class that holds it, its place -/
def FR (WS : List Cond) (cl : List vw_C) (own : String) (idx ci k : Nat) : Prop := ci < 100 ∧ ∃ (C : String) (T : u_T) (N : Nat) (ref : String), cl[ci]? = some (C, T, N) ∧ k < N ∧ (∀ w ∈ u_ws C T N, w ∈ WS) ∧
  (Cond.fieldLink own idx ref (T k).2.1 (T k).2.2.1 ∈ WS ∨ ∃ host, Cond.fieldLinkNest own idx ref (T k).2.1 (T k).2.2.1 host ∈ WS) ∧ (ref = (T k).1 ∨ Cond.sameField ref (T k).1 (T k).2.1 (T k).2.2.1 ∈ WS)
def FP (WS : List Cond) (cl : List vw_C) (own : String) (idx ci k : Nat) (ty : FieldType) (fin : Bool) : Prop := ci < 100 ∧ ∃ (C : String) (T : u_T) (N : Nat) (ref : String) (ty0 : Nat → FieldType), cl[ci]? = some (C, T, N) ∧ k < N ∧ (∀ w ∈ u_ws C T N, w ∈ WS) ∧
  (Cond.fieldLink own idx ref (T k).2.1 (T k).2.2.1 ∈ WS ∨ (fin = false ∧ ∃ host, Cond.fieldLinkNest own idx ref (T k).2.1 (T k).2.2.1 host ∈ WS)) ∧ (ref = (T k).1 ∨ Cond.sameField ref (T k).1 (T k).2.1 (T k).2.2.1 ∈ WS) ∧
  (∀ j, j < N → parseFieldDescriptor (T j).2.2.1 = some (ty0 j)) ∧ (∀ a, a < N → ∀ b, b < N → a ≠ b → (T a).2.1 ≠ (T b).2.1) ∧ parseFieldDescriptor (T k).2.2.1 = some ty ∧ (T k).2.2.2 = fin ∧ (fin = true → (T k).1 = own)
section VH
variable {g : Gx} {d : Nat} {y : MT} {pc : Nat} {L : Lo} {st : List Value} {A : AH} {Φ : Out → AH → Prop}
theorem v_getf {idx ci k a : Nat} {fs : List Value} {v : Value} (hd : decode y.2.1 pc = .ok (.getfield idx, 3)) (hf : FR (gW g) (gC g) y.1.cls idx ci k) (hA : A.1 a = some (ci, fs)) (hv : fs[k]? = some v) (h : V g d y (pc + 3) L (v :: st) A Φ) : V g d y pc L (.ref a :: st) A Φ := by
  intro p l e R s m args below meth c z C H locs cells slots ls X
  have kk := h p l e R s m args below meth c z C H locs cells slots ls X
  obtain ⟨hx, hb, -, -, -, hown, -, -, hT, -⟩ := C
  obtain ⟨hci, Cn, T, N, ref, hc, hk, hin, hlink, hsame⟩ := hf
  obtain ⟨-, cell, hcell, hok⟩ := X.2.1.2.2.2.2.2 a _ hA
  obtain ⟨r, hr', hcls, hvm, hlen, hsl⟩ := hok.obj hci
  cases hr'.symm.trans hc
  obtain ⟨hS, hfc, kC, hkC, hkind⟩ := hT.2.2.1.1 ci _ hc
  obtain ⟨cf, kf, fi, f, hi, hsl2⟩ := hS k hk
  have hi' : s.fieldFound? ref (T k).2.1 (T k).2.2.1 = some (cf, kf, fi, f) := by
    rcases hsame with rfl | hw
    · exact hi
    · exact u_same (hT.1 _ hw) _ hi
  have hst := (u_facts hfc hkC (u_lays hT.1 hin hk) hi).1
  have hslot : cell.slots[f.slot]? = some v := by rw [hsl2, hsl k hk]; exact hv
  have hkn : cell.vm ≠ .unknown := by rw [hvm]; exact fun q => by cases q
  rcases hlink with hw | ⟨host, hw⟩
  · exact W.getf hx hb hown (hT.1 _ hw) hi' hst hcell hkn hslot rfl rfl hd kk
  · exact va_Wgetf hx hb hown (hT.1 _ hw) hi' hst hcell hkn hslot rfl rfl hd kk
theorem okC.setf {g : Gx} {ci k : Nat} {fs : List Value} {cell : Cell} {r : vw_C} {v : Value} (hci : ci < 100) (hr : (gC g)[ci]? = some r) (hcls : cell.cls = (gD g).1 ci) (hvm : cell.vm = .none) (hlen : fs.length = r.2.2) (hsl : ∀ k, k < r.2.2 → cell.slots[(gD g).2 ci k]? = fs[k]?)
    (hap : ∀ x y, x < r.2.2 → y < r.2.2 → x ≠ y → (gD g).2 ci x ≠ (gD g).2 ci y) (hk : k < r.2.2) : okC g (ci, fs.set k v) (cell.setSlot ((gD g).2 ci k) v) := by
  refine Or.inl ⟨hci, r, hr, hcls, hvm, by rw [List.length_set]; exact hlen, fun j hj => ?_⟩
  by_cases hjk : j = k
  · subst hjk
    have h1 := hsl j hj
    rw [List.getElem?_eq_getElem (by omega)] at h1
    have h2 := k2_hasslot h1
    simp [Cell.setSlot, Array.getElem?_setIfInBounds, h2, hlen, hj]
  · have h3 : (gD g).2 ci k ≠ (gD g).2 ci j := hap k j hk hj (fun q => hjk q.symm)
    rw [slot_ne cell v h3, hsl j hj, List.getElem?_set]
    simp [Ne.symm hjk]
theorem v_putf {idx ci k a : Nat} {fs : List Value} {v : Value} {ty : FieldType} {fin : Bool} (hd : decode y.2.1 pc = .ok (.putfield idx, 3)) (hf : FP (gW g) (gC g) y.1.cls idx ci k ty fin) (hfin : fin = true → y.1.name = "<init>") (hA : A.1 a = some (ci, fs)) (hn : narrow ty v = v) (hfit : fits ty v = true)
    (h : V g d y (pc + 3) L st (aset A a (ci, fs.set k v)) Φ) : V g d y pc L (v :: .ref a :: st) A Φ := by
  intro p l e R s m args below meth c z C H locs cells slots ls X
  have kk := h p l e R s m args below meth c z C
  obtain ⟨hx, hb, -, -, -, hown, hnm, -, hT, -⟩ := C
  obtain ⟨hci, Cn, T, N, ref, ty0, hc, hk, hin, hlink, hsame, hty, hnms, hdt, hfb, hdecl⟩ := hf
  obtain ⟨hba, cell, hcell, hok⟩ := X.2.1.2.2.2.2.2 a _ hA
  obtain ⟨r, hr', hcls, hvm, hlen, hsl⟩ := hok.obj hci
  cases hr'.symm.trans hc
  have hap := va_apart (own := y.1.cls) hT.1 hin ty0 hty hnms hT.2.2.1 hc
  obtain ⟨hS, hfc, kC, hkC, hkind⟩ := hT.2.2.1.1 ci _ hc
  obtain ⟨cf, kf, fi, f, hi, hsl2⟩ := hS k hk
  have hi' : s.fieldFound? ref (T k).2.1 (T k).2.2.1 = some (cf, kf, fi, f) := by
    rcases hsame with rfl | hw
    · exact hi
    · exact u_same (hT.1 _ hw) _ hi
  have hst := (u_facts hfc hkC (u_lays hT.1 hin hk) hi).1
  have hlt : f.slot < cell.slots.size := by
    have h1 := hsl k hk
    rw [List.getElem?_eq_getElem (by rw [hlen]; exact hk)] at h1
    rw [hsl2]; exact k2_hasslot h1
  have fin' : ∀ H' : Heap, H'[a]? = some (cell.setSlot f.slot v) → H'.size = H.size → (∀ q, q ≠ a → H'[q]? = H[q]?) →
      W p l e R s m args below meth c H' (locs ++ [⟨a, f.slot⟩]) cells slots (Ex g below s z Φ) (F0 m (pc + 3) ls st) := by
    intro H' e1 e2 e3
    rw [hsl2] at e1
    exact kk H' _ cells slots ls ⟨X.1, X.2.1.set hA e1 (okC.setf hci hc hcls hvm hlen hsl hap hk) e2 e3, X.2.2.1, X.2.2.2.1, t_lc X.2.2.2.2 hba⟩
  have hlay := hT.1 _ (hin _ (u_in_lay hk))
  unfold u_lay at hlay
  cases fin with
  | false =>
    rw [if_neg (by rw [hfb]; decide)] at hlay
    have h6 := u_store hfc hkC hkind hlay hi hdt hn hfit
    rcases hlink with hw | ⟨-, host, hw⟩
    · exact W.putK hx hb (f := f) ⟨hown, hT.1 _ hw, ⟨_, _, _, hi'⟩, hst⟩ (by rw [hcls]; exact h6) hcell hvm hlt rfl rfl hd fin'
    · exact va_WputK hx hb (f := f) hown (hT.1 _ hw) hi' hst (by rw [hcls]; exact h6) hcell hvm hlt rfl rfl hd fin'
  | true =>
    rw [if_pos hfb] at hlay
    have hcf : m.cls = cf := by
      obtain ⟨_, _, c', _, _, _, -, -, hf', -, -, -, hown2, -⟩ := Cond.laysFinal_spec hlay
      have e1 : c' = cf := by have := hi.symm.trans hf'; simp at this; exact this.1.symm
      rw [hdecl rfl] at hown2
      rw [← e1]; exact Option.some.inj (hown.symm.trans hown2)
    have h6 := u_fits hfc hkC hkind (Or.inr hlay) hi hdt hn hfit
    rcases hlink with hw | ⟨hff, -⟩
    · exact W.putFinK hx hb hown (hT.1 _ hw) hi' hst hcf (hnm.trans (hfin rfl)) (by rw [hcls]; exact h6) hcell hvm hlt rfl rfl hd fin'
    · cases hff
theorem arr_setSlot (cA : ClassId) (vs : List Value) (n : Nat) (v : Value) : ({ cls := cA, slots := vs.toArray, vm := .none } : Cell).setSlot n v = { cls := cA, slots := (vs.set n v).toArray, vm := .none } := by
  show ({ cls := cA, slots := vs.toArray.setIfInBounds n v, vm := .none } : Cell) = _
  simp
theorem arr_is {s : State} {cA : ClassId} {ty : FieldType} (h : ArrOfT s cA ty) (vs : List Value) : s.isArrayOf ({ cls := cA, slots := vs.toArray, vm := .none } : Cell) ty := by
  have h1 := h vs.length (fun j => vs.getD j .null)
  have h2 : arrV cA vs.length (fun j => vs.getD j .null) = { cls := cA, slots := vs.toArray, vm := .none } := by
    unfold arrV
    congr 1
    apply Array.ext
    · simp
    · intro i h3 h4
      simp at h3
      simp [h3]
  rw [h2] at h1
  exact h1
theorem HR.arr {H : Heap} {j a : Nat} {vs : List Value} {ty : FieldType} {s : State} {args : Array Value} (h : HR g A H) (hT : TF g s args) (hA : A.1 a = some (100 + j, vs)) (hj : j < 100) (ht : (gT g)[j]? = some ty) :
    ∃ cell : Cell, H[a]? = some cell ∧ (gH g).size ≤ a ∧ cell = { cls := gA g j, slots := vs.toArray, vm := .none } ∧ s.isArrayOf cell ty ∧ cell.vm ≠ .unknown := by
  obtain ⟨hba, cell, hcell, hok⟩ := h.2.2.2.2.2 a _ hA
  have e := hok.arr hj
  refine ⟨cell, hcell, hba, e, ?_, by rw [e]; exact fun q => by cases q⟩
  rw [e]
  exact arr_is (hT.2.2.2.1 j ty ht).1 vs
theorem v_iald {j a : Nat} {vs : List Value} {i : Int32} {v : Value} (hd : decode y.2.1 pc = .ok (.iaload, 1)) (hA : A.1 a = some (100 + j, vs)) (hj : j < 100) (ht : (gT g)[j]? = some .int) (hi : ¬ i < 0) (hv : vs[i.toNatClampNeg]? = some v) (h : V g d y (pc + 1) L (v :: st) A Φ) : V g d y pc L (.int i :: .ref a :: st) A Φ := by
  intro p l e R s m args below meth c z C H locs cells slots ls X
  have kk := h p l e R s m args below meth c z C H locs cells slots ls X
  obtain ⟨hx, hb, -, -, -, hown, -, -, hT, -⟩ := C
  obtain ⟨cell, hcell, hba, e0, harr, hkn⟩ := X.2.1.arr hT hA hj ht
  have hlt := (List.getElem?_eq_some_iff.mp hv).1
  exact W.iald hx hb hcell harr hkn (by rw [e0]; simp only [List.size_toArray]; exact fun q => q.elim hi (fun q => absurd q (Nat.not_le.mpr hlt))) (by rw [e0]; simp only [List.getElem?_toArray]; exact hv) rfl rfl hd kk
theorem v_zald {j a : Nat} {vs : List Value} {i : Int32} {v : Value} (hd : decode y.2.1 pc = .ok (.baload, 1)) (hA : A.1 a = some (100 + j, vs)) (hj : j < 100) (ht : (gT g)[j]? = some .boolean) (hi : ¬ i < 0) (hv : vs[i.toNatClampNeg]? = some v) (h : V g d y (pc + 1) L (v :: st) A Φ) : V g d y pc L (.int i :: .ref a :: st) A Φ := by
  intro p l e R s m args below meth c z C H locs cells slots ls X
  have kk := h p l e R s m args below meth c z C H locs cells slots ls X
  obtain ⟨hx, hb, -, -, -, hown, -, -, hT, -⟩ := C
  obtain ⟨cell, hcell, hba, e0, harr, hkn⟩ := X.2.1.arr hT hA hj ht
  have hlt := (List.getElem?_eq_some_iff.mp hv).1
  exact W.zald hx hb hcell harr hkn (by rw [e0]; simp only [List.size_toArray]; exact fun q => q.elim hi (fun q => absurd q (Nat.not_le.mpr hlt))) (by rw [e0]; simp only [List.getElem?_toArray]; exact hv) rfl rfl hd kk
theorem v_lald {j a : Nat} {vs : List Value} {i : Int32} {v : Value} (hd : decode y.2.1 pc = .ok (.laload, 1)) (hA : A.1 a = some (100 + j, vs)) (hj : j < 100) (ht : (gT g)[j]? = some .long) (hi : ¬ i < 0) (hv : vs[i.toNatClampNeg]? = some v) (h : V g d y (pc + 1) L (v :: st) A Φ) : V g d y pc L (.int i :: .ref a :: st) A Φ := by
  intro p l e R s m args below meth c z C H locs cells slots ls X
  have kk := h p l e R s m args below meth c z C H locs cells slots ls X
  obtain ⟨hx, hb, -, -, -, hown, -, -, hT, -⟩ := C
  obtain ⟨cell, hcell, hba, e0, harr, hkn⟩ := X.2.1.arr hT hA hj ht
  have hlt := (List.getElem?_eq_some_iff.mp hv).1
  exact W.lald hx hb hcell harr hkn (by rw [e0]; simp only [List.size_toArray]; exact fun q => q.elim hi (fun q => absurd q (Nat.not_le.mpr hlt))) (by rw [e0]; simp only [List.getElem?_toArray]; exact hv) rfl rfl hd kk
theorem v_aald {j a : Nat} {vs : List Value} {i : Int32} {v : Value} {ty : FieldType} (hd : decode y.2.1 pc = .ok (.aaload, 1)) (hA : A.1 a = some (100 + j, vs)) (hj : j < 100) (ht : (gT g)[j]? = some ty) (href : ty.isReference = true) (hi : ¬ i < 0) (hv : vs[i.toNatClampNeg]? = some v) (h : V g d y (pc + 1) L (v :: st) A Φ) : V g d y pc L (.int i :: .ref a :: st) A Φ := by
  intro p l e R s m args below meth c z C H locs cells slots ls X
  have kk := h p l e R s m args below meth c z C H locs cells slots ls X
  obtain ⟨hx, hb, -, -, -, hown, -, -, hT, -⟩ := C
  obtain ⟨cell, hcell, hba, e0, harr, hkn⟩ := X.2.1.arr hT hA hj ht
  have hlt := (List.getElem?_eq_some_iff.mp hv).1
  exact W.aald hx hb hcell harr href hkn (by rw [e0]; simp only [List.size_toArray]; exact fun q => q.elim hi (fun q => absurd q (Nat.not_le.mpr hlt))) (by rw [e0]; simp only [List.getElem?_toArray]; exact hv) rfl rfl hd kk
theorem v_iast {j a : Nat} {vs : List Value} {i : Int32} {x : Int32} (hd : decode y.2.1 pc = .ok (.iastore, 1)) (hA : A.1 a = some (100 + j, vs)) (hj : j < 100) (ht : (gT g)[j]? = some .int) (hi : ¬ i < 0) (hlt : i.toNatClampNeg < vs.length) (h : V g d y (pc + 1) L st (aset A a (100 + j, vs.set i.toNatClampNeg (.int x))) Φ) : V g d y pc L (.int x :: .int i :: .ref a :: st) A Φ := by
  intro p l e R s m args below meth c z C H locs cells slots ls X
  have kk := h p l e R s m args below meth c z C
  obtain ⟨hx, hb, -, -, -, hown, -, -, hT, -⟩ := C
  obtain ⟨cell, hcell, hba, e0, harr, hkn⟩ := X.2.1.arr hT hA hj ht
  refine W.iast hx hb hcell harr hkn (by rw [e0]; simp only [List.size_toArray]; exact fun q => q.elim hi (fun q => absurd q (Nat.not_le.mpr hlt))) rfl rfl hd fun H' e1 e2 e3 => ?_
  refine kk H' _ cells slots ls ⟨X.1, X.2.1.set hA e1 ?_ e2 e3, X.2.2.1, X.2.2.2.1, t_lc X.2.2.2.2 hba⟩
  skip
  rw [e0, arr_setSlot]
  exact Or.inr (Or.inl ⟨by simp, by simp only; omega, by simp⟩)
theorem v_last {j a : Nat} {vs : List Value} {i : Int32} {x : Int64} (hd : decode y.2.1 pc = .ok (.lastore, 1)) (hA : A.1 a = some (100 + j, vs)) (hj : j < 100) (ht : (gT g)[j]? = some .long) (hi : ¬ i < 0) (hlt : i.toNatClampNeg < vs.length) (h : V g d y (pc + 1) L st (aset A a (100 + j, vs.set i.toNatClampNeg (.long x))) Φ) : V g d y pc L (.long x :: .int i :: .ref a :: st) A Φ := by
  intro p l e R s m args below meth c z C H locs cells slots ls X
  have kk := h p l e R s m args below meth c z C
  obtain ⟨hx, hb, -, -, -, hown, -, -, hT, -⟩ := C
  obtain ⟨cell, hcell, hba, e0, harr, hkn⟩ := X.2.1.arr hT hA hj ht
  refine W.last hx hb hcell harr hkn (by rw [e0]; simp only [List.size_toArray]; exact fun q => q.elim hi (fun q => absurd q (Nat.not_le.mpr hlt))) rfl rfl hd fun H' e1 e2 e3 => ?_
  refine kk H' _ cells slots ls ⟨X.1, X.2.1.set hA e1 ?_ e2 e3, X.2.2.1, X.2.2.2.1, t_lc X.2.2.2.2 hba⟩
  skip
  rw [e0, arr_setSlot]
  exact Or.inr (Or.inl ⟨by simp, by simp only; omega, by simp⟩)
theorem v_zast {j a : Nat} {vs : List Value} {i : Int32} {x : Int32} (hd : decode y.2.1 pc = .ok (.bastore, 1)) (hA : A.1 a = some (100 + j, vs)) (hj : j < 100) (ht : (gT g)[j]? = some .boolean) (hi : ¬ i < 0) (hlt : i.toNatClampNeg < vs.length) (hx2 : narrow .boolean (.int x) = .int x) (h : V g d y (pc + 1) L st (aset A a (100 + j, vs.set i.toNatClampNeg (.int x))) Φ) : V g d y pc L (.int x :: .int i :: .ref a :: st) A Φ := by
  intro p l e R s m args below meth c z C H locs cells slots ls X
  have kk := h p l e R s m args below meth c z C
  obtain ⟨hx, hb, -, -, -, hown, -, -, hT, -⟩ := C
  obtain ⟨cell, hcell, hba, e0, harr, hkn⟩ := X.2.1.arr hT hA hj ht
  refine W.zast hx hb hcell harr hkn (by rw [e0]; simp only [List.size_toArray]; exact fun q => q.elim hi (fun q => absurd q (Nat.not_le.mpr hlt))) rfl rfl hd fun H' e1 e2 e3 => ?_
  refine kk H' _ cells slots ls ⟨X.1, X.2.1.set hA e1 ?_ e2 e3, X.2.2.1, X.2.2.2.1, t_lc X.2.2.2.2 hba⟩
  rw [hx2]
  rw [e0, arr_setSlot]
  exact Or.inr (Or.inl ⟨by simp, by simp only; omega, by simp⟩)
theorem v_alen {j a : Nat} {vs : List Value} {ty : FieldType} (hd : decode y.2.1 pc = .ok (.arraylength, 1)) (hA : A.1 a = some (100 + j, vs)) (hj : j < 100) (ht : (gT g)[j]? = some ty) (h : V g d y (pc + 1) L (.int vs.length.toInt32 :: st) A Φ) : V g d y pc L (.ref a :: st) A Φ := by
  intro p l e R s m args below meth c z C H locs cells slots ls X
  have kk := h p l e R s m args below meth c z C H locs cells slots ls X
  obtain ⟨hx, hb, -, -, -, hown, -, -, hT, -⟩ := C
  obtain ⟨cell, hcell, hba, e0, harr, hkn⟩ := X.2.1.arr hT hA hj ht
  exact W.alen hx hb hcell harr (by rw [e0]; simp only [List.size_toArray]) rfl rfl hd kk
/-- what an array of references takes: an object of its own class, or of one below it -/
def AS (WS : List Cond) (cl : List vw_C) (ta : List FieldType) (j kv : Nat) : Prop := j < 100 ∧ kv < 100 ∧ ∃ (C : String) (r : vw_C), ta[j]? = some (.object C) ∧ cl[kv]? = some r ∧ (r.1 = C ∨ Cond.castable r.1 C ∈ WS)
theorem v_aast {j kv a b : Nat} {vs fv : List Value} {i : Int32} (hd : decode y.2.1 pc = .ok (.aastore, 1)) (hs : AS (gW g) (gC g) (gT g) j kv) (hA : A.1 a = some (100 + j, vs)) (hB : A.1 b = some (kv, fv)) (hi : ¬ i < 0) (hlt : i.toNatClampNeg < vs.length)
    (h : V g d y (pc + 1) L st (aset A a (100 + j, vs.set i.toNatClampNeg (.ref b))) Φ) : V g d y pc L (.ref b :: .int i :: .ref a :: st) A Φ := by
  intro p l e R s m args below meth c z C H locs cells slots ls X
  have kk := h p l e R s m args below meth c z C
  obtain ⟨hx, hb, -, -, -, hown, -, -, hT, -⟩ := C
  obtain ⟨hj, hkv, Cn, r, ht, hr, hor⟩ := hs
  obtain ⟨cell, hcell, hba, e0, harr, hkn⟩ := X.2.1.arr hT hA hj ht
  obtain ⟨-, cellB, hcB, hokB⟩ := X.2.1.2.2.2.2.2 b _ hB
  obtain ⟨r', hr', hcls, hvm, -, -⟩ := hokB.obj hkv
  cases hr.symm.trans hr'
  obtain ⟨-, hCA⟩ := hT.2.2.1.1 kv _ hr
  obtain ⟨kA, comp, k1, k2, k3, -⟩ := (hT.2.2.2.1 j _ ht).2
  obtain ⟨kB, hkB, hkindB⟩ := hCA.2
  have hasg : s.vm.assignable cellB.cls comp = true := by
    rw [hcls]
    rcases hor with hq | hw
    · rw [← hq] at k3
      cases k3.symm.trans hCA.1
      exact va_assign hCA
    · obtain ⟨c0, t0, f1, f2, f3⟩ := Cond.castable_spec (hT.1 _ hw)
      cases f1.symm.trans hCA.1
      cases f2.symm.trans k3
      exact f3
  obtain ⟨kcomp, hkcomp⟩ := Vm.classAt_of_findClass k3
  refine W.aast hx hb hcell (fun q hq => by rw [e0] at hq; cases hq) hkn (by rw [e0]; exact k1) k2 rfl hkcomp ⟨hi, by rw [e0]; simpa using hlt⟩ hcB (fun q hq => by rw [hvm] at hq; cases hq) (by rw [hcls]; exact hkB) hasg rfl rfl hd fun H' e1 e2 e3 => ?_
  refine kk H' _ cells slots ls ⟨X.1, X.2.1.set hA e1 ?_ e2 e3, X.2.2.1, X.2.2.2.1, t_lc X.2.2.2.2 hba⟩
  rw [e0, arr_setSlot]
  exact Or.inr (Or.inl ⟨by simp, by simp only; omega, by simp⟩)
/-- a class's row for 'new' -/
def NW (WS : List Cond) (cl : List vw_C) (own : String) (idx ci : Nat) (fs : List Value) : Prop := ci < 100 ∧ ∃ (C : String) (T : u_T) (N : Nat) (ty : Nat → FieldType), cl[ci]? = some (C, T, N) ∧ (∀ w ∈ u_ws C T N, w ∈ WS) ∧ (∀ j, j < N → parseFieldDescriptor (T j).2.2.1 = some (ty j)) ∧
  Cond.classLink own idx C ∈ WS ∧ Cond.instantiable C N ∈ WS ∧ Cond.initialized C ∈ WS ∧ fs.length = N ∧ ∀ j, j < N → fs[j]? = some (defaultValue (ty j))
theorem v_new {idx ci : Nat} {fs : List Value} (hd : decode y.2.1 pc = .ok (.new idx, 3)) (hw : NW (gW g) (gC g) y.1.cls idx ci fs) (hl : A.2.1 + 1 ≤ gL g) (hs : A.2.2 + fs.length ≤ gS g)
    (h : V g d y (pc + 3) L (.ref A.2.1 :: st) (anew A (ci, fs) fs.length) Φ) : V g d y pc L st A Φ := by
  intro p l e R s m args below meth c z C H locs cells slots ls X
  have kk := h p l e R s m args below meth c z C
  obtain ⟨hx, hb, -, -, -, hown, -, -, hT, -, -, hgl, hgs, -⟩ := C
  obtain ⟨hci, Cn, T, N, ty, hc, hin, hty, w1, w2, w3, hlen, hfs⟩ := hw
  subst hlen
  have hKn := hT.2.2.1.1 ci _ hc
  have hc1 := X.2.2.1
  have hz1 := X.2.2.2.1
  refine W.newcK hx hb hown (hT.1 _ w1) (hT.1 _ w2) (hT.1 _ w3) rfl hd (by omega) (by omega) hKn.2.1 X.2.1.1 fun H1 kC hkC e1 z1 o1 => ?_
  obtain ⟨cell, q1, q2, q3, q4⟩ := u_born ty hT.1 hin hKn hkC e1 hty
  refine kk H1 locs (cells + 1) (slots + fs.length) ls ⟨X.1, X.2.1.new q1 (Or.inl ⟨hci, _, hc, q2, q3, rfl, fun k hk => ?_⟩) z1 o1 hl hs, by simp only [anew]; omega, by simp only [anew]; omega, X.2.2.2.2⟩
  rw [q4 k hk, hfs k hk]
/-- an array kind's row for 'newarray' -/
theorem v_newa {j N : Nat} {at_ : ArrayType} {n : Int32} (hd : decode y.2.1 pc = .ok (.newarray at_, 2)) (hj : j < 100) (ht : (gT g)[j]? = some (newarray.typeOf at_)) (hprim : (newarray.typeOf at_).isReference = false) (hw : Cond.arrayClass (newarray.typeOf at_) ∈ gW g) (hn : ¬ n < 0) (hN : n.toNatClampNeg = N) (hb8 : N * componentBytes (newarray.typeOf at_) ≤ 536870912)
    (hl : A.2.1 + 1 ≤ gL g) (hs : A.2.2 + N ≤ gS g) (h : V g d y (pc + 2) L (.ref A.2.1 :: st) (anew A (100 + j, List.replicate N (defaultValue (newarray.typeOf at_))) N) Φ) : V g d y pc L (.int n :: st) A Φ := by
  intro p l e R s m args below meth c z C H locs cells slots ls X
  have kk := h p l e R s m args below meth c z C
  obtain ⟨hx, hb, -, -, -, hown, -, -, hT, -, -, hgl, hgs, -⟩ := C
  have hc1 := X.2.2.1
  have hz1 := X.2.2.2.1
  have hsz := X.2.1.1
  subst hN
  refine W.newa hx hb (hT.1 _ hw) rfl hd rfl hn hb8 (by omega) (by omega) fun cA kA comp f1 f2 f3 => ?_
  have e0 : cA = gA g j := by
    have h1 := (hT.2.2.2.1 j _ ht).2
    have h2 : s.vm.findClass ("[" ++ (newarray.typeOf at_).toString) = some (gA g j) := by
      cases at_ <;> exact h1
    exact Option.some.inj (f1.symm.trans h2)
  refine W.eq (g2 := F0 m (pc + 2) ls (.ref A.2.1 :: st)) (by rw [← hsz]) ?_
  refine kk _ locs (cells + 1) (slots + n.toNatClampNeg) ls ⟨X.1, X.2.1.new (cell := { cls := cA, slots := Array.replicate n.toNatClampNeg (defaultValue (newarray.typeOf at_)), vm := .none }) ?_ (Or.inr (Or.inl ⟨by simp, by simp only; omega, ?_⟩)) ?_ (fun q hq => ?_) hl hs, by simp only [anew]; omega, by simp only [anew]; omega, X.2.2.2.2⟩
  · rw [← hsz]; simp
  · rw [e0]; simp
  · rw [← hsz]; simp
  · rw [← hsz] at hq
    rw [Array.getElem?_push, if_neg (Nat.ne_of_lt hq)]
theorem v_newq {j N idx : Nat} {Cn : String} {n : Int32} (hd : decode y.2.1 pc = .ok (.anewarray idx, 3)) (hj : j < 100) (ht : (gT g)[j]? = some (.object Cn)) (hw1 : Cond.classLink y.1.cls idx Cn ∈ gW g) (hw2 : Cond.arrayOver (.object Cn) ∈ gW g) (hn : ¬ n < 0) (hN : n.toNatClampNeg = N) (hb8 : N * 4 ≤ 536870912)
    (hl : A.2.1 + 1 ≤ gL g) (hs : A.2.2 + N ≤ gS g) (h : V g d y (pc + 3) L (.ref A.2.1 :: st) (anew A (100 + j, List.replicate N .null) N) Φ) : V g d y pc L (.int n :: st) A Φ := by
  intro p l e R s m args below meth c z C H locs cells slots ls X
  have kk := h p l e R s m args below meth c z C
  obtain ⟨hx, hb, -, -, -, hown, -, -, hT, -, -, hgl, hgs, -⟩ := C
  have hc1 := X.2.2.1
  have hz1 := X.2.2.2.1
  have hsz := X.2.1.1
  subst hN
  refine W.anew hx hb hown (hT.1 _ hw1) (hT.1 _ hw2) rfl hd rfl hn hb8 (by omega) (by omega) fun cA kA comp f1 f2 f3 f4 => ?_
  have e0 : cA = gA g j := by
    obtain ⟨_, _, -, -, -, h4⟩ := (hT.2.2.2.1 j _ ht).2
    exact Option.some.inj (f1.symm.trans h4)
  refine W.eq (g2 := F0 m (pc + 3) ls (.ref A.2.1 :: st)) (by rw [← hsz]) ?_
  refine kk _ locs (cells + 1) (slots + n.toNatClampNeg) ls ⟨X.1, X.2.1.new (cell := { cls := cA, slots := Array.replicate n.toNatClampNeg .null, vm := .none }) ?_ (Or.inr (Or.inl ⟨by simp, by simp only; omega, ?_⟩)) ?_ (fun q hq => ?_) hl hs, by simp only [anew]; omega, by simp only [anew]; omega, X.2.2.2.2⟩
  · rw [← hsz]; simp
  · rw [e0]; simp
  · rw [← hsz]; simp
  · rw [← hsz] at hq
    rw [Array.getElem?_push, if_neg (Nat.ne_of_lt hq)]
/-- ends -/
theorem ex_ret {g : Gx} {below : List Frame} {s : State} {z : Nat} {Φ : Out → AH → Prop} {args : Array Value} {v : Option Value} {A : AH} {H : Heap} {cells slots : Nat} (hΦ : Φ (.inl v) A) (hH : HR g A H) (hc : s.heap.size + cells = A.2.1) (hz : z + slots = A.2.2) (t : State)
    (h : MQ below (fun _ _ o t => o = .returned v ∧ t.heap = H) args s cells slots (fun q => (gH g).size ≤ q) t) : Ex g below s z Φ t := by
  obtain ⟨o, h1, h2, ⟨rfl, h3⟩, K, ⟨-, h4, h5⟩, h6⟩ := h
  exact ⟨_, K, cells, slots, .inl v, A, h1, h2, h4, h5, h6, hΦ, by rw [h3]; exact hH, hc, hz, rfl⟩
theorem v_iret {x : Int32} (hd : decode y.2.1 pc = .ok (.ireturn, 1)) (hr : y.2.2.2.1 = some .int) (h : Φ (.inl (some (.int x))) A) : V g d y pc L [.int x] A Φ := by
  intro p l e R s m args below meth c z C H locs cells slots ls X
  obtain ⟨hx, hb, -, hrt, hlk, -⟩ := C
  exact W.mono (W.iret (Qc := fun _ _ o t => o = .returned (some (.int x)) ∧ t.heap = H) (free := fun q => (gH g).size ≤ q) hx hb (hrt.trans hr) (fun t ht _ => ⟨rfl, ht⟩) X.2.2.2.2 hd hlk) (fun t ht => ex_ret h X.2.1 X.2.2.1 X.2.2.2.1 t ht)
theorem v_zret {x : Int32} {ty : FieldType} (hd : decode y.2.1 pc = .ok (.ireturn, 1)) (hr : y.2.2.2.1 = some ty) (hn : narrow ty (.int x) = .int x) (h : Φ (.inl (some (.int x))) A) : V g d y pc L [.int x] A Φ := by
  intro p l e R s m args below meth c z C H locs cells slots ls X
  obtain ⟨hx, hb, -, hrt, hlk, -⟩ := C
  exact W.mono (W.zret (Qc := fun _ _ o t => o = .returned (some (.int x)) ∧ t.heap = H) (free := fun q => (gH g).size ≤ q) hx hb (hrt.trans hr) hn (fun t ht _ => ⟨rfl, ht⟩) X.2.2.2.2 hd hlk) (fun t ht => ex_ret h X.2.1 X.2.2.1 X.2.2.2.1 t ht)
theorem v_lret {x : Int64} (hd : decode y.2.1 pc = .ok (.lreturn, 1)) (hr : y.2.2.2.1 = some .long) (h : Φ (.inl (some (.long x))) A) : V g d y pc L [.long x] A Φ := by
  intro p l e R s m args below meth c z C H locs cells slots ls X
  obtain ⟨hx, hb, -, hrt, hlk, -⟩ := C
  exact W.mono (W.lret (Qc := fun _ _ o t => o = .returned (some (.long x)) ∧ t.heap = H) (free := fun q => (gH g).size ≤ q) hx hb (hrt.trans hr) (fun t ht _ => ⟨rfl, ht⟩) X.2.2.2.2 hd hlk) (fun t ht => ex_ret h X.2.1 X.2.2.1 X.2.2.2.1 t ht)
theorem v_aret {v : Value} {rt : FieldType} (hd : decode y.2.1 pc = .ok (.areturn, 1)) (hr : y.2.2.2.1 = some rt) (hrt : (∃ n, rt = .object n) ∨ ∃ t, rt = .array t) (hv : v = .null ∨ ∃ a, v = .ref a) (h : Φ (.inl (some v)) A) : V g d y pc L [v] A Φ := by
  intro p l e R s m args below meth c z C H locs cells slots ls X
  obtain ⟨hx, hb, -, hrt', hlk, -⟩ := C
  exact W.mono (W.aret (Qc := fun _ _ o t => o = .returned (some v) ∧ t.heap = H) (free := fun q => (gH g).size ≤ q) hx hb (hrt'.trans hr) hrt hv (fun t ht _ => ⟨rfl, ht⟩) X.2.2.2.2 hd hlk) (fun t ht => ex_ret h X.2.1 X.2.2.1 X.2.2.2.1 t ht)
theorem v_vret (hd : decode y.2.1 pc = .ok (.return_, 1)) (hr : y.2.2.2.1 = none) (h : Φ (.inl none) A) : V g d y pc L [] A Φ := by
  intro p l e R s m args below meth c z C H locs cells slots ls X
  obtain ⟨hx, hb, -, hrt, hlk, -⟩ := C
  exact W.mono (W.vret (Qc := fun _ _ o t => o = .returned none ∧ t.heap = H) (free := fun q => (gH g).size ≤ q) hx hb (hrt.trans hr) (fun t ht _ => ⟨rfl, ht⟩) X.2.2.2.2 hd hlk) (fun t ht => ex_ret h X.2.1 X.2.2.1 X.2.2.2.1 t ht)
end VH
