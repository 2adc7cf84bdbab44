/-! an array of arrays; what a constructor makes -/
def amna (A : AH) (j0 j : Nat) (N K : Nat) (v : Value) : AH := (fun q => if q = A.2.1 then some (100 + j0, (List.range N).map fun i => .ref (A.2.1 + 1 + i)) else if A.2.1 < q ∧ q < A.2.1 + 1 + N then some (100 + j, List.replicate K v) else A.1 q, A.2.1 + 1 + N, A.2.2 + (N + N * K))
theorem outer_cell (c : ClassId) (N h0 : Nat) : ∀ i, i ≤ N → Jvm.Free.Multi.outerC c N h0 i = { cls := c, slots := ((List.range N).map fun k => if k < i then Value.ref (h0 + 1 + k) else .null).toArray, vm := .none } := by
  intro i
  induction i with
  | zero =>
    intro _
    simp only [Jvm.Free.Multi.outerC]
    congr 1
    apply Array.ext'
    simp only [Array.toList_replicate]
    apply List.ext_getElem
    · simp
    · intro n h1 h2; simp
  | succ i ih =>
    intro h
    show (Jvm.Free.Multi.outerC c N h0 i).setSlot i (.ref (h0 + 1 + i)) = _
    rw [ih (by omega)]
    simp only [Cell.setSlot]
    congr 1
    apply Array.ext'
    simp only [Array.toList_setIfInBounds]
    apply List.ext_getElem
    · simp
    · intro n h2 h3
      simp only [List.getElem_set, List.getElem_map, List.getElem_range]
      by_cases e : i = n
      · subst e; simp
      · rw [if_neg e]
        by_cases h4 : n < i
        · rw [if_pos h4, if_pos (by omega)]
        · rw [if_neg h4, if_neg (by omega)]
section MN
variable {g : Gx} {d : Nat} {y : MT} {pc : Nat} {L : Lo} {st : List Value} {A : AH} {Φ : Out → AH → Prop}
theorem v_mna {j0 j N K idx : Nat} {n k : Int32} (hd : decode y.2.1 pc = .ok (.multianewarray idx 2, 4)) (hj0 : j0 < 100) (hj : j < 100) (ht0 : (gT g)[j0]? = some (.array .int)) (ht : (gT g)[j]? = some .int) (hw1 : Cond.classLink y.1.cls idx "[[I" ∈ gW g) (hw2 : Cond.arrayOver (.array .int) ∈ gW g) (hw3 : Cond.arrayClass .int ∈ gW g) (hn : ¬ n < 0) (hk : ¬ k < 0) (hN : n.toNatClampNeg = N) (hK : k.toNatClampNeg = K) (hb1 : N * 4 ≤ 536870912) (hb2 : K * 4 ≤ 536870912)
    (hl : A.2.1 + 1 + N ≤ gL g) (hs : A.2.2 + (N + N * K) ≤ gS g) (h : V g d y (pc + 4) L (.ref A.2.1 :: st) (amna A j0 j N K (.int 0)) Φ) : V g d y pc L (.int k :: .int n :: st) A Φ := by
  intro p l e R s m args below meth c z C H locs cells slots ls X
  have kk := h p l e R s m args below meth c z C
  obtain ⟨hx, hb, -, -, -, hown, -, -, hT, -, -, hgl, hgs, -⟩ := C
  have hc1 := X.2.2.1
  have hz1 := X.2.2.2.1
  have hsz := X.2.1.1
  subst hN hK
  intro T hTh Xs
  obtain ⟨vm₁, cA, comp, -, fA, fC, -, -, X', step⟩ := Xs.multianewarray2F (ty := .int) hx hown (hT.1 _ hw1) (hT.1 _ hw2) (hT.1 _ hw3) (g := F0 m pc ls (.int k :: .int n :: st)) rfl (by rw [hb]; exact hd) rfl hn hk hb1 hb2 (by omega) rfl rfl (by omega) (by omega)
  have e0 : cA = gA g j0 := by
    have h1 := (hT.2.2.2.1 j0 _ ht0).2
    exact Option.some.inj (fA.symm.trans h1)
  have e1 : comp = gA g j := by
    have h1 := (hT.2.2.2.1 j _ ht).2
    exact Option.some.inj (fC.symm.trans h1)
  subst e0 e1
  generalize hF : Jvm.Free.Multi.fill (T.setVm vm₁) (gA g j0) (gA g j) n.toNatClampNeg k.toNatClampNeg (defaultValue .int) n.toNatClampNeg = F at X' step
  have hTh2 : (T.setVm vm₁).heap = H := hTh
  obtain ⟨f1, f2, -, -⟩ := Jvm.Free.Multi.fill_facts (T.setVm vm₁) (gA g j0) (gA g j) n.toNatClampNeg k.toNatClampNeg (defaultValue .int) n.toNatClampNeg
  rw [hF, hTh2, hsz] at f1 f2
  have hold : ∀ x : Nat, x < A.2.1 → F.heap[x]? = H[x]? := fun x hx => by
    have := Jvm.Free.Multi.fill_old (T.setVm vm₁) (gA g j0) (gA g j) n.toNatClampNeg k.toNatClampNeg (defaultValue .int) (a := x) (by rw [hTh2, hsz]; exact hx) n.toNatClampNeg
    rw [hF, hTh2] at this
    exact this
  have hrow : ∀ i : Nat, i < n.toNatClampNeg → F.heap[A.2.1 + 1 + i]? = some (Jvm.Free.Multi.innerC (gA g j) k.toNatClampNeg (defaultValue .int)) := fun i hi => by
    have := Jvm.Free.Multi.fill_inner (T.setVm vm₁) (gA g j0) (gA g j) n.toNatClampNeg k.toNatClampNeg (defaultValue .int) n.toNatClampNeg i hi
    rw [hF, hTh2, hsz] at this
    exact this
  rw [outer_cell (gA g j0) n.toNatClampNeg A.2.1 n.toNatClampNeg (Nat.le_refl _)] at f2
  have hHR : HR g (amna A j0 j n.toNatClampNeg k.toNatClampNeg (.int 0)) F.heap := by
    obtain ⟨r1, r2, r3, r4, r5, r6⟩ := X.2.1
    refine ⟨f1, by rw [f1]; omega, fun q hq => ?_, hl, hs, fun a x hax => ?_⟩
    · rw [hold q (by omega)]; exact r3 q hq
    · simp only [amna] at hax
      split at hax
      · rename_i ha
        cases hax
        refine ⟨by omega, _, by rw [ha]; exact f2, Or.inr (Or.inl ⟨by simp, by simp only; omega, ?_⟩)⟩
        congr 2
        · simp
        · refine List.map_congr_left (fun i hi => ?_)
          rw [if_pos (List.mem_range.mp hi)]
      · split at hax
        · rename_i ha0 ha
          cases hax
          have h9 := hrow (a - (A.2.1 + 1)) (by omega)
          rw [show A.2.1 + 1 + (a - (A.2.1 + 1)) = a by omega] at h9
          refine ⟨by omega, _, h9, Or.inr (Or.inl ⟨by simp, by simp only; omega, ?_⟩)⟩
          simp [Jvm.Free.Multi.innerC, defaultValue]
        · obtain ⟨p1, cb, p2, p3⟩ := r6 a x hax
          have hlt := (Array.getElem?_eq_some_iff.mp p2).1
          exact ⟨p1, cb, by rw [hold a (by omega)]; exact p2, p3⟩
  obtain ⟨t, a1, b1⟩ := kk F.heap locs (cells + 1 + n.toNatClampNeg) (slots + n.toNatClampNeg + n.toNatClampNeg * k.toNatClampNeg) ls ⟨X.1, hHR, by simp only [amna]; omega, by simp only [amna]; omega, X.2.2.2.2⟩ F rfl X'
  refine ⟨t, step t ?_, b1⟩
  have e : T.heap.size = A.2.1 := by rw [hTh]; exact hsz
  rw [e]
  exact a1
end MN
