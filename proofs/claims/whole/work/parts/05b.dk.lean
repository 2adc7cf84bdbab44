/-- a row of a method's table of instructions -/
theorem dk {t : List (Nat × Instr × Nat)} {bs : ByteArray} (h : ∀ r ∈ t, decode bs r.1 = .ok (r.2.1, r.2.2)) (i : Nat) {pc : Nat} {ins : Instr} {len : Nat} (hi : t[i]? = some (pc, ins, len)) : decode bs pc = .ok (ins, len) := h (pc, ins, len) (List.mem_of_getElem? hi)
/-- an end that gives a value and leaves the heap -/
def Rt (v : Option Value) (A : AH) : Out → AH → Prop := fun r A' => r = .inl v ∧ A' = A
theorem rt_ret {v : Option Value} {A : AH} : Rt v A (.inl v) A := ⟨rfl, rfl⟩
theorem rt_no {v : Option Value} {A : AH} : ∀ a A', ¬ Rt v A (.inr a) A' := fun a A' h => by cases h.1
section RO
variable {g : Gx} {d : Nat} {y : MT} {pc : Nat} {L : Lo} {st : List Value} {A : AH} {Φ : Out → AH → Prop}
theorem V.rt {v : Option Value} (h : V g d y pc L st A (Rt v A)) (hΦ : Φ (.inl v) A) : V g d y pc L st A Φ := h.mono fun r A' hr => by obtain ⟨rfl, rfl⟩ := hr; exact hΦ
/-- calls that leave the heap as it is -/
theorem v_rs {y' : MT} {idx np : Nat} {as st0 : List Value} {v : Option Value} (hd : decode y.2.1 pc = .ok (.invokestatic idx, 3)) (hw : CW (gW g) y.1.cls idx y' np ∧ Cond.static y'.1 ∈ gW g ∧ Cond.initialized y'.1.cls ∈ gW g) (hs : st0 = as.reverse ++ st) (hnp : as.length = np) (has : (lg_sl as).length ≤ y'.2.2.1) (hst : (st.map fun v => v.category).sum ≤ 9)
    (hv : V g d y' 0 (lo0 as y'.2.2.1) [] A (Rt v A)) (kk : V g (d + 1) y (pc + 3) L (v.toList ++ st) A Φ) : V g (d + 1) y pc L st0 A Φ :=
  v_calls hd hw hs hnp has hst hv rt_no (fun v' A' h => by obtain ⟨h1, rfl⟩ := h; cases h1; exact kk)
theorem v_rv {y' : MT} {idx np ci b : Nat} {fs as st0 : List Value} {r : vw_C} {v : Option Value} (hd : decode y.2.1 pc = .ok (.invokevirtual idx, 3)) (hw : CW (gW g) y.1.cls idx y' np ∧ Cond.instanceMethod y'.1 ∈ gW g ∧ Cond.selects r.1 y'.1 y'.1 ∈ gW g ∧ ci < 100) (hr : (gC g)[ci]? = some r) (hB : A.1 b = some (ci, fs)) (hs : st0 = as.reverse ++ .ref b :: st) (hnp : as.length = np) (has : (lg_sl (.ref b :: as)).length ≤ y'.2.2.1) (hst : (st.map fun v => v.category).sum ≤ 9)
    (hv : V g d y' 0 (lo0 (.ref b :: as) y'.2.2.1) [] A (Rt v A)) (kk : V g (d + 1) y (pc + 3) L (v.toList ++ st) A Φ) : V g (d + 1) y pc L st0 A Φ :=
  v_callv hd hw hr hB hs hnp has hst hv rt_no (fun v' A' h => by obtain ⟨h1, rfl⟩ := h; cases h1; exact kk)
end RO
