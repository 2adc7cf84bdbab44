/-! an array of arrays; what a constructor makes -/
def amna (A : AH) (j0 j : Nat) (N K : Nat) (v : Value) : AH := (fun q => if q = A.2.1 then some (100 + j0, (List.range N).map fun i => .ref (A.2.1 + 1 + i)) else if A.2.1 < q ∧ q < A.2.1 + 1 + N then some (100 + j, List.replicate K v) else A.1 q, A.2.1 + 1 + N, A.2.2 + (N + N * K))
section MN
variable {g : Gx} {d : Nat} {y : MT} {pc : Nat} {L : Lo} {st : List Value} {A : AH} {Φ : Out → AH → Prop}
theorem v_mna {j0 j N K idx : Nat} {n k : Int32} (hd : decode y.2.1 pc = .ok (.multianewarray idx 2, 4)) (hj0 : j0 < 100) (hj : j < 100) (ht0 : (gT g)[j0]? = some (.array .int)) (ht : (gT g)[j]? = some .int) (hw1 : Cond.classLink y.1.cls idx "[[I" ∈ gW g) (hw2 : Cond.arrayOver (.array .int) ∈ gW g) (hw3 : Cond.arrayClass .int ∈ gW g) (hn : ¬ n < 0) (hk : ¬ k < 0) (hN : n.toNatClampNeg = N) (hK : k.toNatClampNeg = K) (hb1 : N * 4 ≤ 536870912) (hb2 : K * 4 ≤ 536870912)
    (hl : A.2.1 + 1 + N ≤ gL g) (hs : A.2.2 + (N + N * K) ≤ gS g) (h : V g d y (pc + 4) L (.ref A.2.1 :: st) (amna A j0 j N K (.int 0)) Φ) : V g d y pc L (.int k :: .int n :: st) A Φ := by
  intro p l e R s m args below meth c z C H locs cells slots ls X
  have kk := h p l e R s m args below meth c z C
  obtain ⟨hx, hb, -, -, -, hown, -, -, hT, -, -, hgl, hgs, -⟩ := C
  have hc1 := X.2.2.1
  have hz1 := X.2.2.2.1
  have hsz := X.2.1.1
  subst hN hK
  intro T hTh Xs
  obtain ⟨vm₁, cA, comp, fA, fC, X', step⟩ := mn_law Xs hx hown (hT.1 _ hw1) (hT.1 _ hw2) (hT.1 _ hw3) (f := F0 m pc ls (.int k :: .int n :: st)) rfl (by rw [hb]; exact hd) rfl hn hk hb1 hb2 (by omega) (by omega)
  have e0 : cA = gA g j0 := by
    have h1 := (hT.2.2.2.1 j0 _ ht0).2
    exact Option.some.inj (fA.symm.trans h1)
  have e1 : comp = gA g j := by
    have h1 := (hT.2.2.2.1 j _ ht).2
    exact Option.some.inj (fC.symm.trans h1)
  subst e0 e1
  have hTh2 : (T.setVm vm₁).heap = H := hTh
  obtain ⟨f1, -, -, f4⟩ := mnS_all (T.setVm vm₁) (gA g j0) (gA g j) n.toNatClampNeg k.toNatClampNeg n.toNatClampNeg
  generalize mnS (T.setVm vm₁) (gA g j0) (gA g j) n.toNatClampNeg k.toNatClampNeg n.toNatClampNeg = F at X' step f1 f4
  rw [hTh2, hsz] at f1
  simp only [hTh2, hsz] at f4
  have hHR : HR g (amna A j0 j n.toNatClampNeg k.toNatClampNeg (.int 0)) F.heap := by
    obtain ⟨r1, r2, r3, r4, r5, r6⟩ := X.2.1
    refine ⟨f1, by rw [f1]; omega, fun q hq => ?_, hl, hs, fun a x hax => ?_⟩
    · rw [f4, if_neg (by omega), if_neg (by omega)]; exact r3 q hq
    · simp only [amna] at hax
      split at hax
      · rename_i ha
        cases hax
        refine ⟨by omega, _, by rw [f4, if_pos ha], Or.inr (Or.inl ⟨by simp, by simp only; omega, ?_⟩)⟩
        simp only [mnO]
        congr 2
        · simp
        · refine List.map_congr_left (fun i hi => ?_)
          rw [if_pos (List.mem_range.mp hi)]
      · split at hax
        · rename_i ha0 ha
          cases hax
          refine ⟨by omega, _, by rw [f4, if_neg ha0, if_pos ha], Or.inr (Or.inl ⟨by simp, by simp only; omega, ?_⟩)⟩
          simp [mnI]
        · rename_i ha0 ha
          obtain ⟨p1, cb, p2, p3⟩ := r6 a x hax
          exact ⟨p1, cb, by rw [f4, if_neg ha0, if_neg ha]; exact p2, p3⟩
  obtain ⟨t, a1, b1⟩ := kk F.heap locs (cells + 1 + n.toNatClampNeg) (slots + n.toNatClampNeg + n.toNatClampNeg * k.toNatClampNeg) ls ⟨X.1, hHR, by simp only [amna]; omega, by simp only [amna]; omega, X.2.2.2.2⟩ F rfl X'
  refine ⟨t, step t ?_, b1⟩
  have e : T.heap.size = A.2.1 := by rw [hTh]; exact hsz
  rw [e]
  exact a1
end MN
