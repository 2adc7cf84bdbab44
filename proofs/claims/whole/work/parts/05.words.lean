/-! words that stay; instanceof, checkcast -/
theorem kp_setVm (U : State) : U.setVm U.vm = U := rfl
theorem Kp.keeps {w : Cond} (h : (w.onTables && w.keeps) = true) : Kp w := fun _ _ _ _ hW hb => word_at hW (Or.inl h) hb
theorem Kp.face {w : Cond} (h1 : w.onTables = true) (h2 : w.keepsFace = true) : Kp w := by
  intro s U a a' hW hb
  have h3 := Cond.before_shiftedFace (args := a) (State.Shifted.of_warmed hW) w h2 hb
  rw [Cond.onTables_vm (A' := a') (U' := U) U.vm w h1] at h3
  exact h3
theorem Kp.arrayClass (ty : FieldType) : Kp (.arrayClass ty) := fun _ _ _ _ hW hb => word_at hW (Or.inr ⟨ty, rfl⟩) hb
theorem Kp.fieldNest (a : String) (i : Nat) (b n d h : String) : Kp (.fieldLinkNest a i b n d h) := fun _ _ _ _ hW hb => va_Nw.use rfl (va_Nw.warmF hW (va_Nw.of rfl hb))
theorem Kp.methNest (a : String) (i : Nat) (x : MethodName) (h : String) : Kp (.methodLinkNest a i x h) := fun _ _ _ _ hW hb => va_Nw.use rfl (va_Nw.warmM hW (va_Nw.of rfl hb))
theorem Kp.over (C : String) : Kp (.arrayOver (.object C)) := fun _ _ _ _ hW hb => va_AO.use (va_AO.moved hW.alike (va_AO.of hb))
theorem Kp.notCast (C T : String) : Kp (.not (.castable C T)) := by
  intro s U a a' hW hb
  obtain ⟨c, t, h1, h2, h3⟩ := (va_Nc.of hb).moved hW.alike
  simp [Cond.before, Cond.holds, Cond.value, h1, h2, h3]
def kpB (w : Cond) : Bool := match w with
  | .arrayClass _ => true
  | .fieldLinkNest .. => true
  | .methodLinkNest .. => true
  | .arrayOver (.object _) => true
  | .not (.castable _ _) => true
  | w => w.onTables && (w.keeps || w.keepsFace)
theorem kpB_ok {w : Cond} (h : kpB w = true) : Kp w := by
  unfold kpB at h
  split at h
  · exact Kp.arrayClass _
  · exact Kp.fieldNest _ _ _ _ _ _
  · exact Kp.methNest _ _ _ _
  · exact Kp.over _
  · exact Kp.notCast _ _
  · simp only [Bool.and_eq_true, Bool.or_eq_true] at h
    rcases h.2 with h2 | h2
    · exact Kp.keeps (by rw [h.1, h2]; rfl)
    · exact Kp.face h.1 h2
section VI
variable {g : Gx} {d : Nat} {y : MT} {pc : Nat} {L : Lo} {st : List Value} {A : AH} {Φ : Out → AH → Prop}
theorem HR.recv {H : Heap} {ci a : Nat} {fs : List Value} {r : vw_C} {s : State} {args : Array Value} (h : HR g A H) (hT : TF g s args) (hA : A.1 a = some (ci, fs)) (hci : ci < 100) (hr : (gC g)[ci]? = some r) :
    (∃ cell : Cell, H[a]? = some cell ∧ cell.vm.isStatics = false ∧ s.vm.findClass r.1 = some cell.cls) ∧ ClassAt s r.1 ((gD g).1 ci) := by
  obtain ⟨-, cell, hcell, hok⟩ := h.2.2.2.2.2 a _ hA
  obtain ⟨r', hr', hcls, hvm, -, -⟩ := hok.obj hci
  cases hr.symm.trans hr'
  have hC := (hT.2.2.1.1 ci _ hr).2
  exact ⟨⟨cell, hcell, by rw [hvm]; rfl, by rw [hcls]; exact hC.1⟩, hC⟩
/-- words for a test that says yes -/
def IW (WS : List Cond) (cl : List vw_C) (own : String) (idx ci : Nat) : Prop := ci < 100 ∧ ∃ (r : vw_C) (nm : String), cl[ci]? = some r ∧ Cond.classLink own idx nm ∈ WS ∧ (r.1 = nm ∨ Cond.castable r.1 nm ∈ WS)
def IN (WS : List Cond) (cl : List vw_C) (own : String) (idx ci : Nat) : Prop := ci < 100 ∧ ∃ (r : vw_C) (nm : String), cl[ci]? = some r ∧ Cond.classLink own idx nm ∈ WS ∧ Cond.not (.castable r.1 nm) ∈ WS
theorem v_instY {idx ci a : Nat} {fs : List Value} (hd : decode y.2.1 pc = .ok (.instanceof idx, 3)) (hw : IW (gW g) (gC g) y.1.cls idx ci) (hA : A.1 a = some (ci, fs)) (h : V g d y (pc + 3) L (.int 1 :: st) A Φ) : V g d y pc L (.ref a :: st) A Φ := by
  intro p l e R s m args below meth c z C H locs cells slots ls X
  have kk := h p l e R s m args below meth c z C H locs cells slots ls X
  obtain ⟨hx, hb, -, -, -, hown, -, -, hT, -⟩ := C
  obtain ⟨hci, r, nm, hr, hl, hor⟩ := hw
  obtain ⟨h1, h2⟩ := X.2.1.recv hT hA hci hr
  rcases hor with rfl | hc
  · exact va_instS hx hb hown (hT.1 _ hl) h2 h1 hd kk
  · exact va_instY hx hb hown (hT.1 _ hl) (va_Nw.of rfl (hT.1 _ hc)) h1 hd kk
theorem v_castY {idx ci a : Nat} {fs : List Value} (hd : decode y.2.1 pc = .ok (.checkcast idx, 3)) (hw : IW (gW g) (gC g) y.1.cls idx ci) (hA : A.1 a = some (ci, fs)) (h : V g d y (pc + 3) L (.ref a :: st) A Φ) : V g d y pc L (.ref a :: st) A Φ := by
  intro p l e R s m args below meth c z C H locs cells slots ls X
  have kk := h p l e R s m args below meth c z C H locs cells slots ls X
  obtain ⟨hx, hb, -, -, -, hown, -, -, hT, -⟩ := C
  obtain ⟨hci, r, nm, hr, hl, hor⟩ := hw
  obtain ⟨h1, h2⟩ := X.2.1.recv hT hA hci hr
  rcases hor with rfl | hc
  · exact va_castS hx hb hown (hT.1 _ hl) h2 h1 hd kk
  · exact va_castY hx hb hown (hT.1 _ hl) (va_Nw.of rfl (hT.1 _ hc)) h1 hd kk
theorem v_instNo {idx ci a : Nat} {fs : List Value} (hd : decode y.2.1 pc = .ok (.instanceof idx, 3)) (hw : IN (gW g) (gC g) y.1.cls idx ci) (hA : A.1 a = some (ci, fs)) (h : V g d y (pc + 3) L (.int 0 :: st) A Φ) : V g d y pc L (.ref a :: st) A Φ := by
  intro p l e R s m args below meth c z C H locs cells slots ls X
  have kk := h p l e R s m args below meth c z C H locs cells slots ls X
  obtain ⟨hx, hb, -, -, -, hown, -, -, hT, -⟩ := C
  obtain ⟨hci, r, nm, hr, hl, hc⟩ := hw
  obtain ⟨h1, h2⟩ := X.2.1.recv hT hA hci hr
  exact va_instNo hx hb hown (hT.1 _ hl) (va_Nc.of (hT.1 _ hc)) h1 hd kk
/-- Math.max and Math.min -/
def MX (WS : List Cond) (own : String) (idx : Nat) : Prop := Cond.methodLink own idx Lib.Math.max.name ∈ WS ∧ Cond.static Lib.Math.max.name ∈ WS ∧ Cond.initialized "java/lang/Math" ∈ WS ∧ Cond.code Lib.Math.max.name Lib.Math.max.code 2 (some .int) ∈ WS
def MN (WS : List Cond) (own : String) (idx : Nat) : Prop := Cond.methodLink own idx Lib.Math.min.name ∈ WS ∧ Cond.static Lib.Math.min.name ∈ WS ∧ Cond.initialized "java/lang/Math" ∈ WS ∧ Cond.code Lib.Math.min.name Lib.Math.min.code 2 (some .int) ∈ WS
theorem v_mmax {idx : Nat} {a b : Int32} (hd : decode y.2.1 pc = .ok (.invokestatic idx, 3)) (hw : MX (gW g) y.1.cls idx) (hst : (st.map fun v => v.category).sum ≤ 9) (h : V g d y (pc + 3) L (.int (if a < b then b else a) :: st) A Φ) : V g d y pc L (.int b :: .int a :: st) A Φ := by
  intro p l e R s m args below meth c z C H locs cells slots ls X
  have kk := h p l e R s m args below meth c z C H locs cells slots ls X
  obtain ⟨hx, hb, hml, -, -, hown, -, -, hT, hfr, hlo, hgl, hgs, -⟩ := C
  obtain ⟨w1, w2, w3, w4⟩ := hw
  have h1 := X.2.2.1
  have h2 := X.2.2.2.1
  have h3 := X.2.1.2.2.2.1
  have h4 := X.2.1.2.2.2.2.1
  exact va_mmax hx hb (by rw [hml]; exact X.1.1.symm) hown (hT.1 _ w1) (hT.1 _ w2) (hT.1 _ w3) (hT.1 _ w4) (by omega) (by omega) (by omega) (by omega) hd kk
theorem v_mmin {idx : Nat} {a b : Int32} (hd : decode y.2.1 pc = .ok (.invokestatic idx, 3)) (hw : MN (gW g) y.1.cls idx) (hst : (st.map fun v => v.category).sum ≤ 9) (h : V g d y (pc + 3) L (.int (if b < a then b else a) :: st) A Φ) : V g d y pc L (.int b :: .int a :: st) A Φ := by
  intro p l e R s m args below meth c z C H locs cells slots ls X
  have kk := h p l e R s m args below meth c z C H locs cells slots ls X
  obtain ⟨hx, hb, hml, -, -, hown, -, -, hT, hfr, hlo, hgl, hgs, -⟩ := C
  obtain ⟨w1, w2, w3, w4⟩ := hw
  have h1 := X.2.2.1
  have h2 := X.2.2.2.1
  have h3 := X.2.1.2.2.2.1
  have h4 := X.2.1.2.2.2.2.1
  exact va_mmin hx hb (by rw [hml]; exact X.1.1.symm) hown (hT.1 _ w1) (hT.1 _ w2) (hT.1 _ w3) (hT.1 _ w4) (by omega) (by omega) (by omega) (by omega) hd kk
end VI
