/-! a call whose throw is caught in the caller's own table -/
theorem asg_refl (vm : Vm) (c : ClassId) : vm.assignable c c = true := by
  show vm.assignableAux (255 + 1) c c = true
  rw [Vm.assignableAux]
  simp
/-- a row of the table that this exception passes -/
def RwP (g : Gx) (own : String) (pc : Nat) (cn : String) (z : ExceptionTableEntry) : Prop := covers z pc = false ∨ (z.catchType ≠ 0 ∧ ∃ nm, Cond.classLink own z.catchType nm ∈ gW g ∧ Cond.not (.castable cn nm) ∈ gW g)
def RwC (g : Gx) (own : String) (pc : Nat) (cn : String) (z : ExceptionTableEntry) : Prop := covers z pc = true ∧ z.catchType ≠ 0 ∧ Cond.classLink own z.catchType cn ∈ gW g
section VK
variable {g : Gx} {d : Nat} {y : MT} {pc : Nat} {L : Lo} {st : List Value} {A : AH} {Φ Ψ : Out → AH → Prop}
set_option maxHeartbeats 4000000 in
theorem v_callvC {y' : MT} {idx np ci b : Nat} {fs as st0 : List Value} {r : vw_C} (hd : decode y.2.1 pc = .ok (.invokevirtual idx, 3)) (hw : CW (gW g) y.1.cls idx y' np ∧ Cond.instanceMethod y'.1 ∈ gW g ∧ Cond.selects r.1 y'.1 y'.1 ∈ gW g ∧ ci < 100) (hlk : Cond.methodLink y.1.cls idx y'.1 ∈ gW g) (hr : (gC g)[ci]? = some r) (hB : A.1 b = some (ci, fs)) (hs : st0 = as.reverse ++ .ref b :: st) (hnp : as.length = np) (has : (lg_sl (.ref b :: as)).length ≤ y'.2.2.1) (hst : (st.map fun v => v.category).sum ≤ 9)
    (hv : V g d y' 0 (lo0 (.ref b :: as) y'.2.2.1) [] A Ψ) (kk : ∀ v A', Ψ (.inl v) A' → V g (d + 1) y (pc + 3) L (v.toList ++ st) A' Φ)
    (kc : ∀ a A' k, Ψ (.inr a) A' → A'.1 a = some (200 + k, []) → ∃ (q : String × ClassId) (pre : List ExceptionTableEntry) (z : ExceptionTableEntry) (rest : List ExceptionTableEntry), (gE g)[k]? = some q ∧ tableOf y.2.2.2.2 = pre ++ z :: rest ∧ (∀ w ∈ pre, RwP g y.1.cls pc q.1 w) ∧ RwC g y.1.cls pc q.1 z ∧ V g (d + 1) y z.handlerPc L [.ref a] A' Φ) : V g (d + 1) y pc L st0 A Φ := by
  intro p l e R s m args below meth c z C H locs cells slots ls X T hTh Y
  have C0 := C
  obtain ⟨hx, hb, hml, -, -, hown, -, htab, hT, hfr, hlo, hgl, hgs, htr⟩ := C
  obtain ⟨hcw, w1, w2, hci⟩ := hw
  have hsz : (F0 m pc ls st0).locals.size = c.maxLocals := by rw [hml]; exact X.1.1
  obtain ⟨-, cellB, hcB, hokB⟩ := X.2.1.2.2.2.2.2 b _ hB
  obtain ⟨r', hr', hcls, hvm, -, -⟩ := hokB.obj hci
  cases hr.symm.trans hr'
  obtain ⟨-, hCA⟩ := hT.2.2.1.1 ci _ hr
  have hcB' : T.heap[b]? = some cellB := by rw [hTh]; exact hcB
  have hob : cellB.vm.isStatics = false := by rw [hvm]; rfl
  have hclB : s.vm.findClass r.1 = some cellB.cls := by rw [hcls]; exact hCA.1
  obtain ⟨mk, methM, hnamed, hmethM, hstM, habM⟩ := Cond.instanceMethod_spec (hT.1 _ w1)
  obtain ⟨methM', cM, hmethM', -, -, -, -, -, -, hsigM⟩ := Cond.code_spec hnamed (hT.1 _ hcw.2.1)
  cases hmethM.symm.trans hmethM'
  obtain ⟨c2, r2, m2, q1, q2, q3, q4, kP, hkP, hkPi⟩ := Cond.selects_spec (hT.1 _ w2)
  cases hclB.symm.trans q1
  have hy := hcw.2.2.2.2.2.1
  cases (State.methodFound?_of_named hnamed hy).symm.trans q2
  cases hnamed.symm.trans q3
  have hselP : selectMethod e.platform s.vm cellB.cls mk = .method mk := by rw [Launch.admits_selectMethod Y.admits]; exact q4
  obtain ⟨vm₁, X₁, hstep₁⟩ := Y.invokevirtual hx hown (hT.1 _ hlk) hnamed hmethM hstM hkP hkPi hy (a := b) (cell := cellB) hcB'
    (fun z h => by rw [h] at hob; cases hob) hselP hmethM habM hkP hkPi (g := F0 m pc ls st0) rfl (argsL := as) (rest := st) (hcw.len hnp _ hsigM) hs (by rw [hb]; exact hd)
  have hHR : HR g A (T.setVm vm₁).heap := by show HR g A T.heap; rw [hTh]; exact X.2.1
  obtain ⟨t, o, K, k, n, ro, A', hsteps, hend, hW, hsame, hK, hΨ, hH', hk, hn', ho⟩ := v_into (f := { F0 m pc ls st0 with stack := st }) hx hT hfr hlo hgl hgs htr X₁ hHR X.2.2.1 X.2.2.2.1 hcw.mw (X₁.named hnamed) rfl hsz (by rw [hb]; exact hd) (by
    show 2 * 0 + (st.map fun v => v.category).sum + y'.2.2.1 ≤ 29
    have := hcw.2.2.2.2.1
    omega) has hv
  have hcA := X.2.2.1
  have hsA := X.2.2.2.1
  cases ro with
  | inl v =>
    cases ho
    obtain ⟨T', X', -, -, ht⟩ := X₁.outOf (g := { F0 m pc ls st0 with stack := st }) rfl (by rw [hb]; exact hd) hend hW hsame
    have e1 : t.heap = T'.heap := by rw [ht]; rfl
    obtain ⟨t2, a2, b2⟩ := kk v A' hΨ p l e R s m args below meth c z C0 T'.heap (locs ++ K) (cells + k) (slots + n) ls ⟨X.1, by rw [← e1]; exact hH', by omega, by omega, t_lL X.2.2.2.2 hK⟩ T' rfl X'
    refine ⟨t2, hstep₁ _ fun acts => ?_, b2⟩
    rw [doInvoke_state]
    refine (hsteps []).trans ?_
    rw [ht]; exact a2
  | inr a =>
    obtain ⟨rfl, kx, hax⟩ := ho
    obtain ⟨T', X', -, -, ht⟩ := X₁.outOfThrown (g := { F0 m pc ls st0 with stack := st }) rfl hend hW hsame
    have e1 : t.heap = T'.heap := by rw [ht, Stand.throwing_heap]
    obtain ⟨q, pre, zz, rest, hq, htb, hpre, ⟨hz1, hz2, hz3⟩, hcont⟩ := kc a A' kx hΨ hax
    have hHT : HR g A' T'.heap := by rw [← e1]; exact hH'
    obtain ⟨-, cell, hcell, hok⟩ := hHT.2.2.2.2.2 a _ hax
    obtain ⟨hcvm, hccls⟩ : cell.vm = .none ∧ cell.cls = q.2 := by
      rcases hok with h | h | h
      · have := h.1; simp only [] at this; omega
      · have := h.2.1; simp only [] at this; omega
      · obtain ⟨-, h2, q', h3, h4⟩ := h
        have e9 : (gE g)[200 + kx - 200]? = some q' := h3
        rw [Nat.add_sub_cancel_left, hq] at e9
        cases e9
        exact ⟨h2, h4⟩
    have hfc : s.vm.findClass q.1 = some cell.cls := by rw [hccls]; exact hT.2.2.2.2.1 kx q hq
    have hpl : e.platform.magicAccessors = ({} : Platform).magicAccessors := by rw [Y.admits.platform]
    have hpass : ∀ w ∈ pre, KoP e.platform s m.cls pc cell.cls w := by
      intro w hw
      rcases hpre w hw with h | ⟨h0, nm, h1, h2⟩
      · exact Or.inl h
      · obtain ⟨c', hc', hcl⟩ := Cond.classLink_spec hown (hT.1 _ h1) e.platform hpl
        have hv := Cond.holds_not_iff.mp (hT.1 _ h2)
        simp only [Cond.value, hfc, hc'] at hv
        exact Or.inr ⟨h0, c', hcl, Option.some.inj hv⟩
    have hends : KoC e.platform s m.cls pc cell.cls zz := by
      obtain ⟨c', hc', hcl⟩ := Cond.classLink_spec hown (hT.1 _ hz3) e.platform hpl
      cases hfc.symm.trans hc'
      exact ⟨hz1, hz2, _, hcl, asg_refl _ _⟩
    obtain ⟨vm', XV, hst'⟩ := ko_caught X' (f := { F0 m pc ls st0 with stack := st }) rfl hcell (by rw [hcvm]; rfl) (Vm.classAt_of_findClass hfc) (by rw [htab]; exact htb) hpass hends
    obtain ⟨t2, a2, b2⟩ := hcont p l e R s m args below meth c z C0 T'.heap (locs ++ K) (cells + k) (slots + n) ls ⟨X.1, hHT, by omega, by omega, t_lL X.2.2.2.2 hK⟩ (T'.setVm vm') rfl XV
    refine ⟨t2, hstep₁ _ fun acts => ?_, b2⟩
    rw [doInvoke_state]
    refine (hsteps []).trans ?_
    rw [ht]
    exact hst' _ a2
end VK
