/-! the model's cells -/
def arr (N : Nat) (f : Nat → Int32) : List Value := (List.range N).map fun k => .int (f k)
def up1 (f : Nat → Int32) (k : Nat) (x : Int32) : Nat → Int32 := fun i => if i = k then x else f i
def up2 (f : Nat → Nat → Int32) (j k : Nat) (x : Int32) : Nat → Nat → Int32 := fun n => if n = j then up1 (f n) k x else f n
theorem arr_at {N k : Nat} {f : Nat → Int32} (h : k < N) : (arr N f)[k]? = some (.int (f k)) := by
  unfold arr
  rw [List.getElem?_map, List.getElem?_range h]
  rfl
theorem arr_len (N : Nat) (f : Nat → Int32) : (arr N f).length = N := by simp [arr]
theorem marr_set {N k : Nat} {f : Nat → Int32} {x : Int32} : (arr N f).set k (.int x) = arr N (up1 f k x) := by
  apply List.ext_getElem
  · simp [arr]
  · intro n h1 h2
    simp only [arr, List.getElem_set, List.getElem_map, List.getElem_range, up1]
    by_cases e : k = n
    · rw [if_pos e, if_pos e.symm]
    · rw [if_neg e, if_neg (fun q => e q.symm)]
theorem up1_same (f : Nat → Int32) (k : Nat) (x : Int32) : up1 f k x k = x := if_pos rfl
theorem up1_ne {f : Nat → Int32} {k n : Nat} {x : Int32} (h : n ≠ k) : up1 f k x n = f n := if_neg h
theorem up2_same (f : Nat → Nat → Int32) (j k : Nat) (x : Int32) : up2 f j k x j = up1 (f j) k x := if_pos rfl
theorem up2_ne {f : Nat → Nat → Int32} {j n k : Nat} {x : Int32} (h : n ≠ j) : up2 f j k x n = f n := if_neg h
theorem up2_at (f : Nat → Nat → Int32) (j k : Nat) (x : Int32) (n m : Nat) : up2 f j k x n m = if n = j ∧ m = k then x else f n m := by
  unfold up2 up1
  by_cases h1 : n = j
  · by_cases h2 : m = k
    · simp [h1, h2]
    · simp [h1, h2]
  · simp [h1]
def msz (j : Nat) : Nat := [8, 8, 8, 8, 8, 96, 12, 8, 864, 864, 864, 8, 8, 3, 90, 12, 12, 40, 40, 40, 40, 40, 40, 40, 40, 320, 320, 120, 3600, 3, 3, 9, 3, 3, 3, 36, 36, 120, 3, 120, 120, 120].getD j 0
def mkd (j : Nat) : Nat := if j = 3 ∨ j = 21 ∨ j = 37 then 1 else 0
def mFl (a : Nat) (i : Nat → Int32) : List Value := [.int (i 0), .int (i 1), .int (i 2), .ref (a + 1 + 0), .ref (a + 1 + 1), .ref (a + 1 + 2), .ref (a + 1 + 3), .ref (a + 1 + 4), .ref (a + 1 + 5), .ref (a + 1 + 6), .ref (a + 1 + 7), .ref (a + 1 + 8), .ref (a + 1 + 9), .ref (a + 1 + 10), .int (i 3), .ref (a + 1 + 11), .ref (a + 1 + 12), .ref (a + 1 + 13), .ref (a + 1 + 14), .int (i 4), .ref (a + 1 + 15), .ref (a + 1 + 16), .int (i 5), .ref (a + 1 + 17), .ref (a + 1 + 18), .ref (a + 1 + 19), .ref (a + 1 + 20), .ref (a + 1 + 21), .ref (a + 1 + 22), .ref (a + 1 + 23), .ref (a + 1 + 24), .ref (a + 1 + 25), .ref (a + 1 + 26), .ref (a + 1 + 27), .ref (a + 1 + 28), .int (i 6), .ref (a + 1 + 29), .ref (a + 1 + 30), .ref (a + 1 + 31), .ref (a + 1 + 32), .ref (a + 1 + 33), .ref (a + 1 + 34), .ref (a + 1 + 35), .ref (a + 1 + 36), .ref (a + 1 + 37), .ref (a + 1 + 38), .ref (a + 1 + 39), .ref (a + 1 + 40), .ref (a + 1 + 41)]
/-- the model at a: its ints, its arrays; all else is as in B -/
def MH (B : AH) (a : Nat) (i : Nat → Int32) (f : Nat → Nat → Int32) (A : AH) : Prop := A.2 = B.2 ∧ (∀ q, ¬ (a ≤ q ∧ q < a + 43) → A.1 q = B.1 q) ∧ A.1 a = some (9, mFl a i) ∧ ∀ j, j < 42 → A.1 (a + 1 + j) = some (100 + mkd j, arr (msz j) (f j))
def Pm (v : Option Value) (B : AH) (a : Nat) (i : Nat → Int32) (f : Nat → Nat → Int32) : Out → AH → Prop := fun r A' => r = .inl v ∧ MH B a i f A'
theorem pm_no {v : Option Value} {B : AH} {a : Nat} {i : Nat → Int32} {f : Nat → Nat → Int32} : ∀ q A', ¬ Pm v B a i f (.inr q) A' := fun q A' h => by cases h.1
/-- an end that gives v and some state of the model of which P holds -/
def Pr (v : Option Value) (B : AH) (a : Nat) (P : (Nat → Int32) → (Nat → Nat → Int32) → Prop) : Out → AH → Prop := fun r A' => r = .inl v ∧ ∃ i f, MH B a i f A' ∧ P i f
theorem pr_no {v : Option Value} {B : AH} {a : Nat} {P : (Nat → Int32) → (Nat → Nat → Int32) → Prop} : ∀ q A', ¬ Pr v B a P (.inr q) A' := fun q A' h => by cases h.1
section MHs
variable {B A : AH} {a : Nat} {i : Nat → Int32} {f : Nat → Nat → Int32}
theorem MH.st {j k : Nat} {x : Int32} (h : MH B a i f A) (hj : j < 42) : MH B a i (up2 f j k x) (aset A (a + 1 + j) (100 + mkd j, (arr (msz j) (f j)).set k (.int x))) := by
  obtain ⟨h1, h2, h3, h4⟩ := h
  refine ⟨h1, fun q hq => (aset_ne _ _ (by omega)).trans (h2 q hq), (aset_ne _ _ (by omega)).trans h3, fun n hn => ?_⟩
  by_cases e : n = j
  · subst e
    rw [aset_same, marr_set, up2_same]
  · rw [aset_ne _ _ (by omega), up2_ne e]
    exact h4 n hn
theorem MH.put {k n : Nat} {x : Int32} (h : MH B a i f A) (hk : (k, n) ∈ [(0, 0), (1, 1), (2, 2), (14, 3), (19, 4), (22, 5), (35, 6)]) : MH B a (up1 i n x) f (aset A a (9, (mFl a i).set k (.int x))) := by
  obtain ⟨h1, h2, h3, h4⟩ := h
  have e : (mFl a i).set k (.int x) = mFl a (up1 i n x) := by
    simp only [List.mem_cons, Prod.mk.injEq, List.not_mem_nil, or_false] at hk
    rcases hk with ⟨rfl, rfl⟩ | ⟨rfl, rfl⟩ | ⟨rfl, rfl⟩ | ⟨rfl, rfl⟩ | ⟨rfl, rfl⟩ | ⟨rfl, rfl⟩ | ⟨rfl, rfl⟩ <;> rfl
  refine ⟨h1, fun q hq => (aset_ne _ _ (by omega)).trans (h2 q hq), by rw [aset_same, e], fun n hn => (aset_ne _ _ (by omega)).trans (h4 n hn)⟩
end MHs
section VM
variable {u : Ux} {d : Nat} {y : MT} {pc : Nat} {L : Lo} {st : List Value} {A B : AH} {Φ : Out → AH → Prop} {a : Nat} {i : Nat → Int32} {f : Nat → Nat → Int32}
theorem v_mld {j k : Nat} (hd : decode y.2.1 pc = .ok (.iaload, 1)) (hM : MH B a i f A) (hj : j < 42) (h0 : mkd j = 0) (hk : k < msz j) (hb : msz j < 2 ^ 31) (h : V (gg u) d y (pc + 1) L (.int (f j k) :: st) A Φ) : V (gg u) d y pc L (.int (nI k) :: .ref (a + 1 + j) :: st) A Φ :=
  v_ialdN (j := 0) hd (by have := hM.2.2.2 j hj; rw [h0] at this; exact this) (by decide) rfl (by omega) (arr_at hk) h
theorem v_mldz {j k : Nat} (hd : decode y.2.1 pc = .ok (.baload, 1)) (hM : MH B a i f A) (hj : j < 42) (h0 : mkd j = 1) (hk : k < msz j) (hb : msz j < 2 ^ 31) (h : V (gg u) d y (pc + 1) L (.int (f j k) :: st) A Φ) : V (gg u) d y pc L (.int (nI k) :: .ref (a + 1 + j) :: st) A Φ :=
  v_zaldN (j := 1) hd (by have := hM.2.2.2 j hj; rw [h0] at this; exact this) (by decide) rfl (by omega) (arr_at hk) h
theorem v_mst {j k : Nat} {x : Int32} (hd : decode y.2.1 pc = .ok (.iastore, 1)) (hM : MH B a i f A) (hj : j < 42) (h0 : mkd j = 0) (hk : k < msz j) (hb : msz j < 2 ^ 31) (h : ∀ A', MH B a i (up2 f j k x) A' → V (gg u) d y (pc + 1) L st A' Φ) : V (gg u) d y pc L (.int x :: .int (nI k) :: .ref (a + 1 + j) :: st) A Φ := by
  have h9 := h _ (hM.st (k := k) (x := x) hj)
  rw [h0] at h9
  exact v_iastN (j := 0) hd (by have := hM.2.2.2 j hj; rw [h0] at this; exact this) (by decide) rfl (by omega) (by rw [arr_len]; exact hk) h9
theorem v_mstz {j k : Nat} {b : Bool} (hd : decode y.2.1 pc = .ok (.bastore, 1)) (hM : MH B a i f A) (hj : j < 42) (h0 : mkd j = 1) (hk : k < msz j) (hb : msz j < 2 ^ 31) (h : ∀ A', MH B a i (up2 f j k (b2i b)) A' → V (gg u) d y (pc + 1) L st A' Φ) : V (gg u) d y pc L (.int (b2i b) :: .int (nI k) :: .ref (a + 1 + j) :: st) A Φ := by
  have h9 := h _ (hM.st (k := k) (x := b2i b) hj)
  rw [h0] at h9
  exact v_zastN (j := 1) hd (by have := hM.2.2.2 j hj; rw [h0] at this; exact this) (by decide) rfl (by omega) (by rw [arr_len]; exact hk) (b2i_narrow b) h9
theorem v_mput {idx k n : Nat} {x : Int32} {fin : Bool} (hd : decode y.2.1 pc = .ok (.putfield idx, 3)) (hf : FP (gW (gg u)) (gC (gg u)) y.1.cls idx 9 k .int fin) (hfin : fin = true → y.1.name = "<init>") (hM : MH B a i f A) (hk : (k, n) ∈ [(0, 0), (1, 1), (2, 2), (14, 3), (19, 4), (22, 5), (35, 6)]) (h : ∀ A', MH B a (up1 i n x) f A' → V (gg u) d y (pc + 3) L st A' Φ) : V (gg u) d y pc L (.int x :: .ref a :: st) A Φ :=
  v_putf hd hf hfin hM.2.2.1 rfl rfl (h _ (hM.put hk))
theorem v_iremN {m n : Nat} (hd : decode y.2.1 pc = .ok (.irem, 1)) (ha : m < 2 ^ 31) (hb : 0 < n ∧ n < 2 ^ 31) (h : V (gg u) d y (pc + 1) L (.int (nI (m % n)) :: st) A Φ) : V (gg u) d y pc L (.int (nI n) :: .int (nI m) :: st) A Φ := by
  have hne : ¬ nI n = 0 := fun e => by
    have := (nI_eq (a := n) (b := 0) (by omega) (by omega)).mp e
    omega
  refine v_irem hd hne ?_
  have e : nI m - nI m / nI n * nI n = nI (m % n) := by
    rw [pk_div ha hb.1 hb.2, pk_mul, pk_sub (by rw [Nat.mul_comm]; exact Nat.mul_div_le m n)]
    congr 1
    have := Nat.div_add_mod m n
    rw [Nat.mul_comm] at this
    omega
  rw [e]
  exact h
end VM
