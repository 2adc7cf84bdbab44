theorem bits_fit0 : ∀ k : Fin 512, ∀ l : Fin 3, ∀ n : Fin 4, ((nI k.1 >>> (nI (3 * l.1) &&& 31)) &&& (((1 : Int32) <<< (nI n.1 &&& 31)) - 1) = (((1 : Int32) <<< (nI n.1 &&& 31)) - 1)) ↔ (nI k.1 &&& pBits (nI l.1) (nI n.1) = pBits (nI l.1) (nI n.1)) := by decide +kernel
theorem bits_fit {k l n : Nat} (hk : k < 512) (hl : l < 3) (hn : n ≤ 3) : ((nI k >>> (nI (3 * l) &&& 31)) &&& (((1 : Int32) <<< (nI n &&& 31)) - 1) = (((1 : Int32) <<< (nI n &&& 31)) - 1)) ↔ (nI k &&& pBits (nI l) (nI n) = pBits (nI l) (nI n)) := bits_fit0 ⟨k, hk⟩ ⟨l, hl⟩ ⟨n, by omega⟩
theorem bit_one0 : ∀ l : Fin 3, ∀ n : Fin 3, pBits (nI l.1) 1 <<< (nI n.1 &&& 31) = (1 : Int32) <<< (nI (3 * l.1 + n.1) &&& 31) := by decide +kernel
theorem bit_one {l n : Nat} (hl : l < 3) (hn : n < 3) : pBits (nI l) 1 <<< (nI n &&& 31) = (1 : Int32) <<< (nI (3 * l + n) &&& 31) := bit_one0 ⟨l, hl⟩ ⟨n, hn⟩
/-! find -/
def mfnd (f : Nat → Nat → Int32) (id : Int32) : Nat → Int32
  | 0 => -1
  | k + 1 => if f 15 k = id then nI k else mfnd f id k
def fndI (S : SS) (id : Int32) : Int32 := match fnd S id with
  | none => -1
  | some w => nI w
theorem ids_inj {S : SS} (K : SOK S) {a b : Nat} (ha : a < (sWarn S).length) (hb : b < (sWarn S).length) (h : wId S a = wId S b) : a = b := by
  have h1 := K.od.2 a ha
  have h2 := K.od.2 b hb
  obtain ⟨p, p1, p2⟩ := List.getElem_of_mem h1
  obtain ⟨q, q1, q2⟩ := List.getElem_of_mem h2
  rcases Nat.lt_trichotomy p q with e | e | e
  · have := List.pairwise_iff_getElem.mp K.od.1 p q p1 q1 e
    rw [p2, q2, h] at this; exact (i32_irr this).elim
  · subst e; rw [← p2, ← q2]
  · have := List.pairwise_iff_getElem.mp K.od.1 q p q1 p1 e
    rw [p2, q2, h] at this; exact (i32_irr this).elim
theorem fnd_some {S : SS} {id : Int32} {w : Nat} (h : fnd S id = some w) : wId S w = id := by
  have := List.find?_some h
  simpa using this
theorem mfnd_eq {S : SS} {t : Int32} {i : Nat → Int32} {f : Nat → Nat → Int32} (R : Rel S t i f) (K : SOK S) (id : Int32) : mfnd f id (sWarn S).length = fndI S id := by
  unfold fndI
  cases hf : fnd S id with
  | none =>
    have : ∀ k, k ≤ (sWarn S).length → mfnd f id k = -1 := by
      intro k
      induction k with
      | zero => exact fun _ => rfl
      | succ k ih =>
        intro hk
        unfold mfnd
        rw [if_neg, ih (by omega)]
        rw [(R.wa k (by omega)).1]
        exact fnd_none hf (K.od.2 k (by omega))
    exact this _ (Nat.le_refl _)
  | some w =>
    have hw := fnd_lt K.wf hf
    have hid := fnd_some hf
    have : ∀ k, w < k → k ≤ (sWarn S).length → mfnd f id k = nI w := by
      intro k
      induction k with
      | zero => exact fun h _ => absurd h (Nat.not_lt_zero _)
      | succ k ih =>
        intro h1 h2
        unfold mfnd
        rw [(R.wa k (by omega)).1]
        by_cases e : k = w
        · subst e; rw [if_pos hid]
        · rw [if_neg (fun h => e (ids_inj K (by omega) hw (by rw [h, hid]))), ih (by omega) (by omega)]
    exact this _ hw (Nat.le_refl _)
/-! order by id -/
theorem sorted_ext {g : Nat → Int32} : ∀ {a b : List Nat}, a.Pairwise (fun x y => g x < g y) → b.Pairwise (fun x y => g x < g y) → (∀ x, x ∈ a ↔ x ∈ b) → a = b
  | [], [], _, _, _ => rfl
  | [], y :: b, _, _, h => absurd ((h y).mpr List.mem_cons_self) (by simp)
  | x :: a, [], _, _, h => absurd ((h x).mp List.mem_cons_self) (by simp)
  | x :: a, y :: b, ha, hb, h => by
    rw [List.pairwise_cons] at ha hb
    have hxy : x = y := by
      rcases List.mem_cons.mp ((h x).mp List.mem_cons_self) with e | e
      · exact e
      · rcases List.mem_cons.mp ((h y).mpr List.mem_cons_self) with e2 | e2
        · exact e2.symm
        · exact (i32_irr (i32_lt_tr (hb.1 x e) (ha.1 y e2))).elim
    subst hxy
    rw [sorted_ext ha.2 hb.2 (fun z => ?_)]
    constructor
    · intro hz
      rcases List.mem_cons.mp ((h z).mp (List.mem_cons_of_mem _ hz)) with e | e
      · subst e; exact (i32_irr (ha.1 z hz)).elim
      · exact e
    · intro hz
      rcases List.mem_cons.mp ((h z).mpr (List.mem_cons_of_mem _ hz)) with e | e
      · subst e; exact (i32_irr (hb.1 z hz)).elim
      · exact e
def insQ (g : Nat → Int32) (L : List Nat) (x : Nat) : Nat → Nat
  | 0 => 0
  | q + 1 => if g (L.getD q 0) ≤ g x then q + 1 else insQ g L x q
theorem insQ_le (g : Nat → Int32) (L : List Nat) (x : Nat) : ∀ q, insQ g L x q ≤ q
  | 0 => Nat.le_refl 0
  | q + 1 => by
    unfold insQ
    split
    · exact Nat.le_refl _
    · have := insQ_le g L x q; omega
theorem insQ_ge (g : Nat → Int32) (L : List Nat) (x : Nat) : ∀ q j, insQ g L x q ≤ j → j < q → ¬ g (L.getD j 0) ≤ g x
  | 0, j, _, h => absurd h (Nat.not_lt_zero j)
  | q + 1, j, h1, h2 => by
    unfold insQ at h1
    split at h1
    · omega
    · rename_i h3
      by_cases e : j = q
      · subst e; exact h3
      · exact insQ_ge g L x q j h1 (by omega)
theorem insQ_lt (g : Nat → Int32) (L : List Nat) (x : Nat) : ∀ q, 0 < insQ g L x q → g (L.getD (insQ g L x q - 1) 0) ≤ g x
  | 0, h => absurd h (Nat.not_lt_zero _)
  | q + 1, h => by
    unfold insQ at h ⊢
    split
    · rename_i h3; exact h3
    · rename_i h3
      rw [if_neg h3] at h
      exact insQ_lt g L x q h
def insL (g : Nat → Int32) (L : List Nat) (x : Nat) : List Nat := L.take (insQ g L x L.length) ++ x :: L.drop (insQ g L x L.length)
theorem insL_pw {g : Nat → Int32} {L : List Nat} {x : Nat} (hp : L.Pairwise (fun a b => g a < g b)) (hf : ∀ y ∈ L, g y ≠ g x) : (insL g L x).Pairwise (fun a b => g a < g b) := by
  have hp0 := hp
  have hpl := insQ_le g L x L.length
  have hge := insQ_ge g L x L.length
  have hlt := insQ_lt g L x L.length
  unfold insL
  generalize insQ g L x L.length = p at *
  rw [← List.take_append_drop p L, List.pairwise_append] at hp
  obtain ⟨t1, t2, t3⟩ := hp
  have hT : ∀ y ∈ L.take p, g y < g x := by
    intro y hy
    obtain ⟨j, hj, e⟩ := List.getElem_of_mem hy
    rw [List.length_take] at hj
    rw [List.getElem_take] at e
    have hjl : j < L.length := by omega
    have h1 := hlt (by omega)
    have hq : p - 1 < L.length := by omega
    have h2 := i32_lt_of_le_ne h1 (hf _ (getD_mem' hq))
    rw [List.getD_eq_getElem?_getD, List.getElem?_eq_getElem hq, Option.getD_some] at h2
    by_cases ej : j = p - 1
    · rw [← e]; subst ej; exact h2
    · have h3 := List.pairwise_iff_getElem.mp hp0 j (p - 1) hjl hq (by omega)
      rw [e] at h3
      exact i32_lt_tr h3 h2
  have hD : ∀ y ∈ L.drop p, g x < g y := by
    intro y hy
    obtain ⟨j, hj, e⟩ := List.getElem_of_mem hy
    rw [List.length_drop] at hj
    rw [List.getElem_drop] at e
    have h1 := hge (p + j) (by omega) (by omega)
    rw [List.getD_eq_getElem?_getD, List.getElem?_eq_getElem (by omega), Option.getD_some, e] at h1
    exact i32_pos h1
  rw [List.pairwise_append]
  refine ⟨t1, List.pairwise_cons.mpr ⟨hD, t2⟩, fun y hy z hz => ?_⟩
  rcases List.mem_cons.mp hz with h | h
  · subst h; exact hT y hy
  · exact t3 y hy z h
theorem insL_mem {g : Nat → Int32} {L : List Nat} {x y : Nat} : y ∈ insL g L x ↔ y ∈ L ∨ y = x := by
  unfold insL
  rw [List.mem_append, List.mem_cons]
  have : y ∈ L ↔ y ∈ L.take (insQ g L x L.length) ∨ y ∈ L.drop (insQ g L x L.length) := by
    rw [← List.mem_append, List.take_append_drop]
  rw [this]
  constructor
  · rintro (h | h | h)
    · exact Or.inl (Or.inl h)
    · exact Or.inr h
    · exact Or.inl (Or.inr h)
  · rintro ((h | h) | h)
    · exact Or.inl h
    · exact Or.inr (Or.inr h)
    · exact Or.inr (Or.inl h)
/-- the list of the first k warnings -/
def lsTo (S : SS) (keep : Nat → Bool) (k : Nat) : List Nat := (((sOrd S).filter fun w => decide (w < k)).map (nwI S)).filter keep
def vKey (S : SS) (v : Nat) : Int32 := wId S (vAt S v).1
theorem lsTo_pw {S : SS} (K : SOK S) (keep : Nat → Bool) (k : Nat) : (lsTo S keep k).Pairwise (fun a b => vKey S a < vKey S b) := by
  unfold lsTo
  refine List.Pairwise.filter _ ?_
  rw [List.pairwise_map]
  have h := (K.od.1).filter (fun w => decide (w < k))
  refine h.imp_of_mem (fun {a b} ha hb hab => ?_)
  have ha := K.wf.2.2.2.2.2.1 a (List.mem_filter.mp ha).1
  have hb := K.wf.2.2.2.2.2.1 b (List.mem_filter.mp hb).1
  have e1 : (vAt S (nwI S a)).1 = a := (K.nw a ha).1
  have e2 : (vAt S (nwI S b)).1 = b := (K.nw b hb).1
  unfold vKey
  rw [e1, e2]; exact hab
theorem lsTo_mem {S : SS} {keep : Nat → Bool} {k v : Nat} : v ∈ lsTo S keep k ↔ keep v = true ∧ ∃ w, w ∈ sOrd S ∧ w < k ∧ nwI S w = v := by
  unfold lsTo
  rw [List.mem_filter, List.mem_map]
  constructor
  · rintro ⟨⟨w, h1, h2⟩, h3⟩
    rw [List.mem_filter, decide_eq_true_iff] at h1
    exact ⟨h3, w, h1.1, h1.2, h2⟩
  · rintro ⟨h3, w, h1, h2, h4⟩
    exact ⟨⟨w, List.mem_filter.mpr ⟨h1, decide_eq_true h2⟩, h4⟩, h3⟩
theorem lsTo_step {S : SS} (K : SOK S) {keep : Nat → Bool} {k : Nat} (hk : k < (sWarn S).length) : lsTo S keep (k + 1) = if keep (nwI S k) = true then insL (vKey S) (lsTo S keep k) (nwI S k) else lsTo S keep k := by
  have hm := K.od.2 k hk
  have e1 : (vAt S (nwI S k)).1 = k := (K.nw k hk).1
  split
  · rename_i h
    refine sorted_ext (g := vKey S) (lsTo_pw K keep (k + 1)) (insL_pw (lsTo_pw K keep k) (fun y hy => ?_)) (fun y => ?_)
    · obtain ⟨_, w, w1, w2, w3⟩ := lsTo_mem.mp hy
      have hw := K.wf.2.2.2.2.2.1 w w1
      have e2 : (vAt S (nwI S w)).1 = w := (K.nw w hw).1
      intro e
      unfold vKey at e
      rw [← w3, e2, e1] at e
      have := ids_inj K hw hk e
      omega
    · rw [insL_mem, lsTo_mem, lsTo_mem]
      constructor
      · rintro ⟨h1, w, w1, w2, w3⟩
        by_cases e : w = k
        · subst e; exact Or.inr w3.symm
        · exact Or.inl ⟨h1, w, w1, by omega, w3⟩
      · rintro (⟨h1, w, w1, w2, w3⟩ | e)
        · exact ⟨h1, w, w1, by omega, w3⟩
        · subst e; exact ⟨h, k, hm, by omega, rfl⟩
  · rename_i h
    refine sorted_ext (g := vKey S) (lsTo_pw K keep (k + 1)) (lsTo_pw K keep k) (fun y => ?_)
    rw [lsTo_mem, lsTo_mem]
    constructor
    · rintro ⟨h1, w, w1, w2, w3⟩
      refine ⟨h1, w, w1, ?_, w3⟩
      have : w ≠ k := by intro e; subst e; rw [w3] at h; exact h h1
      omega
    · rintro ⟨h1, w, w1, w2, w3⟩
      exact ⟨h1, w, w1, by omega, w3⟩
theorem lsTo_all {S : SS} (K : SOK S) (keep : Nat → Bool) : lsTo S keep (sWarn S).length = ((sOrd S).map (nwI S)).filter keep := by
  unfold lsTo
  rw [List.filter_eq_self.mpr (fun w hw => decide_eq_true (K.wf.2.2.2.2.2.1 w hw))]
theorem lsTo_len {S : SS} (K : SOK S) (keep : Nat → Bool) (k : Nat) : (lsTo S keep k).length ≤ k := by
  have key : ∀ k, k ≤ (sWarn S).length → (lsTo S keep k).length ≤ k := by
    intro k
    induction k with
    | zero =>
      intro _
      have : lsTo S keep 0 = [] := by
        apply List.eq_nil_iff_forall_not_mem.mpr
        intro v hv
        obtain ⟨_, w, _, h, _⟩ := lsTo_mem.mp hv
        exact absurd h (Nat.not_lt_zero w)
      rw [this]; exact Nat.le_refl _
    | succ k ih =>
      intro hk
      rw [lsTo_step K (by omega)]
      have := ih (by omega)
      split
      · have h2 := insQ_le (vKey S) (lsTo S keep k) (nwI S k) (lsTo S keep k).length
        unfold insL
        rw [List.length_append, List.length_cons, List.length_take, List.length_drop]
        omega
      · omega
  by_cases h : k ≤ (sWarn S).length
  · exact key k h
  · have e : lsTo S keep k = lsTo S keep (sWarn S).length := by
      refine sorted_ext (g := vKey S) (lsTo_pw K keep k) (lsTo_pw K keep _) (fun y => ?_)
      rw [lsTo_mem, lsTo_mem]
      constructor
      · rintro ⟨h1, w, w1, w2, w3⟩
        exact ⟨h1, w, w1, K.wf.2.2.2.2.2.1 w w1, w3⟩
      · rintro ⟨h1, w, w1, w2, w3⟩
        exact ⟨h1, w, w1, by omega, w3⟩
    rw [e]
    have := key _ (Nat.le_refl _)
    omega
/-! covers, simple -/
theorem pt_at {a : Pts} (h : PtX a) (k : Nat) : I3 (pX a k) (pX a k).toInt 1000 ∧ I3 (pY a k) (pY a k).toInt 1000 := by
  unfold pX pY
  by_cases hk : k < a.length
  · rw [List.getD_eq_getElem?_getD, List.getElem?_eq_getElem hk, Option.getD_some]
    obtain ⟨h1, h2⟩ := h _ (List.getElem_mem hk)
    exact ⟨i3_self h1, i3_self h2⟩
  · rw [List.getD_eq_getElem?_getD, List.getElem?_eq_none (by omega), Option.getD_none]
    exact ⟨⟨rfl, by decide, by decide⟩, ⟨rfl, by decide, by decide⟩⟩
theorem mSimple_eq {S : SS} {t : Int32} {i : Nat → Int32} {f : Nat → Nat → Int32} (R : Rel S t i f) (K : SOK S) : mSimple (f 11) (f 12) (sTyped S).1.length = cSimple (sTyped S).1 := by
  obtain ⟨_, a2, _⟩ := R.ty
  refine simple_eq (x := fun k => (pX (sTyped S).1 k).toInt) (y := fun k => (pY (sTyped S).1 k).toInt) rfl (fun k hk => ?_) (fun k hk => ?_) (fun k => (pt_at K.gt k).1) (fun k => (pt_at K.gt k).2)
  · rw [(a2 k hk).1]; exact (pt_at K.gt k).1
  · rw [(a2 k hk).2]; exact (pt_at K.gt k).2
theorem mNr_eq {f : Nat → Nat → Int32} {a : Pts} {c : CeS} {v k : Nat} (hp : PtX a) (hc : CelX c) (h1 : ∀ k, k < a.length → f 25 (8 * v + k) = pX a k ∧ f 26 (8 * v + k) = pY a k) (h2 : f 0 k = c.1.1 ∧ f 1 k = c.1.2.1 ∧ f 2 k = c.1.2.2) : mNr f v k a.length a.length = cReach a c.1.1 c.1.2.1 c.1.2.2 := by
  obtain ⟨c1, c2, c3, c4⟩ := hc
  rw [← h2.1, ← h2.2.1, ← h2.2.2]
  refine reach_eq (x := fun k => (pX a k).toInt) (y := fun k => (pY a k).toInt) (cx := c.1.1.toInt) (cy := c.1.2.1.toInt) (r := c.1.2.2.toInt) rfl (fun q hq => ?_) (fun q hq => ?_) (fun q => (pt_at hp q).1) (fun q => (pt_at hp q).2) ?_ ?_ ?_ c4
  · rw [(h1 q hq).1]; exact (pt_at hp q).1
  · rw [(h1 q hq).2]; exact (pt_at hp q).2
  · rw [h2.1]; exact i3_self c1
  · rw [h2.2.1]; exact i3_self c2
  · rw [h2.2.2]; exact i3_self c3
def mCv (f : Nat → Nat → Int32) (v n : Nat) : Nat → Nat
  | 0 => 0
  | c + 1 => if mNr f v c n n = true then mCv f v n c + 1 else mCv f v n c
theorem mCv_le (f : Nat → Nat → Int32) (v n : Nat) : ∀ c, mCv f v n c ≤ c
  | 0 => Nat.le_refl 0
  | c + 1 => by
    have := mCv_le f v n c
    unfold mCv; split <;> omega
theorem mCv_eq {S : SS} {f : Nat → Nat → Int32} {a : Pts} {v : Nat} (K : SOK S) (hp : PtX a) (h1 : ∀ k, k < a.length → f 25 (8 * v + k) = pX a k ∧ f 26 (8 * v + k) = pY a k) (h2 : ∀ k c, (sCells S)[k]? = some c → f 0 k = c.1.1 ∧ f 1 k = c.1.2.1 ∧ f 2 k = c.1.2.2) : ∀ k, k ≤ (sCells S).length → mCv f v a.length k = cvN S a k := by
  intro k
  induction k with
  | zero => exact fun _ => rfl
  | succ k ih =>
    intro hk
    have hg := List.getElem?_eq_getElem (show k < (sCells S).length by omega)
    unfold mCv cvN
    rw [ih (by omega), mNr_eq hp (K.cx k _ hg).1 h1 (h2 k _ hg)]
    have : rch S a k = cReach a (sCells S)[k].1.1 (sCells S)[k].1.2.1 (sCells S)[k].1.2.2 := by
      unfold rch cAtN
      rw [List.getD_eq_getElem?_getD, hg, Option.getD_some]
    rw [this]
    split <;> rfl
