/-! more rules: references compared, quotients, a version's row by its kind -/
section VX
variable {g : Gx} {d : Nat} {y : MT} {pc : Nat} {L : Lo} {st : List Value} {A : AH} {Φ : Out → AH → Prop}
theorem v_acmp_neR {x w : Nat} {off : Int} {tgt : Nat} (hd : decode y.2.1 pc = .ok (.if_acmp .ne off, 3)) (ht : (pc : Int) + off = (tgt : Int)) (kt : ¬ x = w → V g d y tgt L st A Φ) (kf : x = w → V g d y (pc + 3) L st A Φ) : V g d y pc L (.ref w :: .ref x :: st) A Φ :=
  v_acmp_ne (rx := some x) (ry := some w) hd ht (fun q => kt (fun e => q (by rw [e]))) (fun q => kf (Option.some.inj q))
theorem v_acmp_eqR {x w : Nat} {off : Int} {tgt : Nat} (hd : decode y.2.1 pc = .ok (.if_acmp .eq off, 3)) (ht : (pc : Int) + off = (tgt : Int)) (kt : x = w → V g d y tgt L st A Φ) (kf : ¬ x = w → V g d y (pc + 3) L st A Φ) : V g d y pc L (.ref w :: .ref x :: st) A Φ :=
  v_acmp_eq (rx := some x) (ry := some w) hd ht (fun q => kt (Option.some.inj q)) (fun q => kf (fun e => q (by rw [e])))
theorem v_acmp_neNull {w : Nat} {off : Int} {tgt : Nat} (hd : decode y.2.1 pc = .ok (.if_acmp .ne off, 3)) (ht : (pc : Int) + off = (tgt : Int)) (kt : V g d y tgt L st A Φ) : V g d y pc L (.ref w :: .null :: st) A Φ :=
  v_acmp_ne (rx := none) (ry := some w) hd ht (fun _ => kt) (fun q => by cases q)
theorem v_acmp_eqNull {w : Nat} {off : Int} {tgt : Nat} (hd : decode y.2.1 pc = .ok (.if_acmp .eq off, 3)) (ht : (pc : Int) + off = (tgt : Int)) (kf : V g d y (pc + 3) L st A Φ) : V g d y pc L (.ref w :: .null :: st) A Φ :=
  v_acmp_eq (rx := none) (ry := some w) hd ht (fun q => by cases q) (fun _ => kf)
theorem v_idivN {a b : Nat} (hd : decode y.2.1 pc = .ok (.idiv, 1)) (ha : a < 2 ^ 31) (hb : 0 < b ∧ b < 2 ^ 31) (h : V g d y (pc + 1) L (.int (nI (a / b)) :: st) A Φ) : V g d y pc L (.int (nI b) :: .int (nI a) :: st) A Φ :=
  v_idiv hd (nI_ne0 hb.1 hb.2) (by rw [pk_div ha hb.1 hb.2]; exact h)
end VX
theorem nI_le0 {n : Nat} (h : n < 2 ^ 31) : nI n ≤ 0 ↔ n = 0 := ⟨fun q => by
  by_cases h0 : n = 0
  · exact h0
  · exact absurd q (nI_nle (by omega) h), fun q => by subst q; decide⟩
theorem fgV {WS : List Cond} {cl : List vw_C} {own : String} {idx k : Nat} (h1 : FR WS cl own idx 6 k) (h2 : FR WS cl own idx 2 k) (v : VeS) : FR WS cl own idx (vKind v) k := by
  unfold vKind; split
  · exact h1
  · exact h2
theorem Inv.verV {F : Nat → Option AC} {S : SS} {ad : Nat → Nat → Nat} {A : AH} (I : Inv F S ad A) {i : Nat} {v : VeS} (hv : (sVers S)[i]? = some v) : ∃ l, A.1 (ad 21 i) = some (vKind v, .ref (ad 20 v.1) :: .int v.2.1.1 :: .int v.2.1.2.1 :: .int v.2.1.2.2 :: l) := by
  obtain ⟨x, h1, h2⟩ := I.ver hv
  have h3 : x = _ := h2
  rw [h1, h3]
  exact ⟨_, rfl⟩
/-- Texts -/
def tl (t : Tx) (l : Nat) : Nat := (t.getD l []).length
def TeAt (A : AH) (o : Nat) (t : Tx) : Prop := t.length = 3 ∧ (∀ l, tl t l ≤ 30) ∧ ∃ (ba la : Nat), A.1 o = some (7, [.ref ba, .ref la]) ∧ A.1 la = some (100, t.map fun x => .int (nI x.length))
theorem tl_at {t : Tx} {l : Nat} (h3 : t.length = 3) (h : l < 3) : (t.map fun x => Value.int (nI x.length))[l]? = some (.int (nI (tl t l))) := by
  rw [List.getElem?_map]
  simp [tl, h3, h]
def tsum (t : Tx) : Nat → Nat
  | 0 => 0
  | k + 1 => tsum t k + tl t k
theorem tsum_le {t : Tx} (h : ∀ l, tl t l ≤ 30) (k : Nat) : tsum t k ≤ 30 * k := by
  induction k with
  | zero => simp [tsum]
  | succ k ih => have := h k; simp only [tsum]; omega
def pgs (n : Nat) : Nat := (n + 10 - 1) / 10
def due (clk b sp : Int32) : Bool := !decide (clk < b) && decide ((clk - b) - (clk - b) / sp * sp = 0)
theorem Inv.teAt {F : Nat → Option AC} {S : SS} {ad : Nat → Nat → Nat} {A : AH} (I : Inv F S ad A) {i : Nat} {m : Pts × Tx} (hm : msgOf S i = some m) (h3 : m.2.length = 3) (h30 : ∀ l, tl m.2 l ≤ 30) : TeAt A (ad 8 i) m.2 := by
  obtain ⟨x8, a8, b8⟩ := I.msg (κ := 8) (by omega) (by omega) (by omega) hm
  obtain ⟨x13, a13, b13⟩ := I.msg (κ := 13) (by omega) (by omega) (by omega) hm
  have e8 : x8 = _ := b8
  have e13 : x13 = _ := b13
  exact ⟨h3, h30, _, _, by rw [a8, e8], by rw [a13, e13]⟩
