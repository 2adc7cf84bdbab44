def exN : List String := ["java/lang/RuntimeException", "java/lang/Exception"]
/-- the words for 'throw new E()' -/
def TW (WS YS : List Cond) (own : String) (i1 i2 : Nat) (cls : String) : Prop := Cond.classLink own i1 cls ∈ WS ∧ Cond.instantiable cls 6 ∈ WS ∧ Cond.initialized cls ∈ WS ∧ Bundle.fit cls = true ∧ ∀ a ∈ Bundle.ownAtoms0 own i2 cls exN, a ∈ WS ∨ a ∈ YS
section VT
variable {g : Gx} {d : Nat} {y : MT} {pc : Nat} {L : Lo} {st : List Value} {A : AH} {Φ : Out → AH → Prop}
set_option maxHeartbeats 2000000 in
theorem v_throw {i1 i2 ex : Nat} {cls : String} {cX : ClassId} (hd0 : decode y.2.1 pc = .ok (.new i1, 3)) (hd3 : decode y.2.1 (pc + 3) = .ok (.dup, 1)) (hd4 : decode y.2.1 (pc + 4) = .ok (.invokespecial i2, 3)) (hd7 : decode y.2.1 (pc + 7) = .ok (.athrow, 1))
    (hex : (gE g)[ex]? = some (cls, cX)) (hw : TW (gW g) (gY g) y.1.cls i1 i2 cls) (hh : y.2.2.2.2 = []) (hd : 4 ≤ d) (hl : A.2.1 + 1 ≤ gL g) (hs : A.2.2 + 6 ≤ gS g) (hst : (st.map fun v => v.category).sum ≤ 9) (h : Φ (.inr A.2.1) (anew A (200 + ex, []) 6)) : V g d y pc L st A Φ := by
  intro p l e R s m args below meth c z C H locs cells slots ls X T hTh Y
  obtain ⟨hx, hb, hml, -, hlk, hown, -, hexc, hT, hfr, hlo, hgl, hgs, htr⟩ := C
  have hHR : HR g A T.heap := by rw [hTh]; exact X.2.1
  have hc1 := X.2.2.1
  have hz1 := X.2.2.2.1
  have hle := hHR.2.2.2.1
  have hls := hHR.2.2.2.2.1
  have hsz := hHR.1
  have Y2 := stand_rebase Y (by omega) (by omega)
  have hT2 : TF g (T.setFrames (.invoking m args :: below)) args := hT.moved (U := T.setFrames (.invoking m args :: below)) Y.warmed
  have hown2 : (T.setFrames (.invoking m args :: below)).vm.findClass y.1.cls = some m.cls := by
    show T.vm.findClass _ = _
    rw [Y.warmed.alike.findClass]; exact hown
  have hfX : (T.setFrames (.invoking m args :: below)).vm.findClass cls = some cX := hT2.2.2.2.2.1 ex _ hex
  obtain ⟨w1, w2, w3, hfit, hat⟩ := hw
  have hat2 : ∀ a ∈ Bundle.ownAtoms0 y.1.cls i2 cls exN, a.before args (T.setFrames (.invoking m args :: below)) = true := fun a ha => by
    rcases hat a ha with h1 | h1
    · exact hT2.1 a h1
    · exact (hT2.2.2.2.2.2.2.1 a h1).2 _ (gH g) args hHR.2.2.1 (hT2.2.2.2.2.2.1 a h1)
  have hout : ∀ x ∈ c.exceptionTable.toList, covers x (pc + 4 + 3) = false := by
    rw [hexc, hh]
    intro x hx
    cases hx
  have K : W p l e { frames := R.frames, cells := R.cells - cells, slots := R.slots - slots, locals := R.locals } (T.setFrames (.invoking m args :: below)) m args below meth c T.heap [] 0 0
      (fun U => U.status = .running ∧ Ended U below (.threw T.heap.size) ∧ (T.setFrames (.invoking m args :: below)).WarmedH U.vm ∧ (T.setFrames (.invoking m args :: below)).sameButNew ({ U with vm := (T.setFrames (.invoking m args :: below)).vm } : State) [] 1 6 ∧
        ∃ ce, U.heap[T.heap.size]? = some ce ∧ (T.setFrames (.invoking m args :: below)).vm.findClass cls = some ce.cls ∧ ce.vm = .none) (F0 m pc ls st) := by
    refine W.newcK hx hb hown2 (hT2.1 _ w1) (hT2.1 _ w2) (hT2.1 _ w3) rfl hd0 (by show 0 + 1 ≤ R.cells - cells; omega) (by show 0 + 6 ≤ R.slots - slots; omega) hfX rfl fun H1 kC hkC e1 z1 o1 => ?_
    refine lv_dup hx hb hd3 rfl ?_
    have hsum : ((Value.ref T.heap.size :: st).map fun v => v.category).sum = 1 + (st.map fun v => v.category).sum := by rw [List.map_cons, List.sum_cons]; rfl
    intro W1 hW1 XW
    obtain ⟨U, u1, u2, u3, u4, u5, ce, u6, u7⟩ := XW.ctorThrow0 hx htr (own := y.1.cls) (cls := cls) (names := exN) (ic := i2) hown2 hfit (by decide +kernel) hat2 (fun x hx => by cases hx) hfX hkC (by rw [hW1]; exact e1) (Nat.le_refl _)
      (g := F0 m (pc + 4) ls (.ref T.heap.size :: .ref T.heap.size :: st)) rfl (by rw [hml]; exact X.1.1) rfl rfl rfl (by rw [hb]; exact hd4) (by rw [hb]; exact hd7) hout (by show 2 + 3 < R.frames; omega)
      (by show 2 * 0 + ((Value.ref T.heap.size :: st).map fun v => v.category).sum + (13 * (2 + 1) + 41) ≤ R.locals; rw [hsum]; omega) hlk
    exact ⟨U, u1, u2, u3, u4, u5, ce, u6, u7.cls, u7.vm⟩
  obtain ⟨U, hsteps, hrun, hend, hW2, hsame, ce, hce, hcls, hvm⟩ := K T rfl Y2
  obtain ⟨q1, q2, q3, q4, q5, q6⟩ := hsame
  have q2' : T.heap.size ≤ U.heap.size := q2
  have q3' : U.heap.size ≤ T.heap.size + 1 := q3
  have hlt := (Array.getElem?_eq_some_iff.mp hce).1
  have hB : T.sameButNew ({ U with vm := T.vm } : State) [] 1 6 := by
    refine ⟨?_, q2, q3, q4, q5, q6⟩
    refine q1.trans ?_
    rw [State.setFrames_setFrames]
    rfl
  have hold : ∀ q, q < T.heap.size → U.heap[q]? = T.heap[q]? := by
    intro q hq
    obtain ⟨c', r1, r2, r3, r4⟩ := q6 q _ (Array.getElem?_eq_getElem hq)
    have r1' : U.heap[q]? = some c' := r1
    have e1 : c'.slots = (T.heap[q]).slots := Array.ext_getElem? (fun i => r4 i (by simp))
    rw [r1', Array.getElem?_eq_getElem hq, r2, e1]
  refine ⟨U, hsteps, .threw T.heap.size, locs ++ [], cells + 1, slots + 6, .inr A.2.1, anew A (200 + ex, []) 6, hrun, hend, State.WarmedH.trans Y.warmed hW2, Y.same.trans (hB.setVm s.vm), by simpa using X.2.2.2.2, h, ?_, by simp only [anew]; omega, by simp only [anew]; omega, by rw [hsz], ex, by simp [anew]⟩
  refine hHR.new (cell := ce) (by rw [← hsz]; exact hce) (Or.inr (Or.inr ⟨by simp, hvm, (cls, cX), by simpa using hex, ?_⟩)) (by omega) (fun q hq => hold q (by omega)) hl hs
  exact Option.some.inj (hcls.symm.trans hfX)
end VT
