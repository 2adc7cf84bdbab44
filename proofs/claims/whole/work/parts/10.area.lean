/-! Area: pure words and the reads -/
abbrev Pts : Type := List (Int32 × Int32)
def pX (a : Pts) (k : Nat) : Int32 := (a.getD k (0, 0)).1
def pY (a : Pts) (k : Nat) : Int32 := (a.getD k (0, 0)).2
def nx (n i : Nat) : Nat := if i + 1 < n then i + 1 else 0
theorem nx_lt {n i : Nat} (h : i < n) : nx n i < n := by unfold nx; split <;> omega
def ArAt (A : AH) (o : Nat) (a : Pts) : Prop := a.length ≤ 8 ∧ ∃ (xa ya : Nat) (vx vy : List Value), A.1 o = some (1, [.ref xa, .ref ya, .int (nI a.length)]) ∧ A.1 xa = some (100, vx) ∧ A.1 ya = some (100, vy) ∧ vx.length = 8 ∧ vy.length = 8 ∧ (∀ k, k < a.length → vx[k]? = some (.int (pX a k))) ∧ ∀ k, k < a.length → vy[k]? = some (.int (pY a k))
def cTurn (a : Pts) (i : Nat) (x y : Int32) : Int64 := (pX a (nx a.length i) - pX a i).toInt64 * (y - pY a i).toInt64 - (pY a (nx a.length i) - pY a i).toInt64 * (x - pX a i).toInt64
def cSq (a : Pts) (i : Nat) (x y : Int32) : Int64 := (x - pX a i).toInt64 * (x - pX a i).toInt64 + (y - pY a i).toInt64 * (y - pY a i).toInt64
def cFold (a : Pts) (b s h : Nat) : Bool :=
  decide ((pX a b - pX a s).toInt64 * (pY a h - pY a s).toInt64 = (pY a b - pY a s).toInt64 * (pX a h - pX a s).toInt64) &&
  decide (0 < (pX a b - pX a s).toInt64 * (pX a h - pX a s).toInt64 + (pY a b - pY a s).toInt64 * (pY a h - pY a s).toInt64)
def mx (a b : Int32) : Int32 := if a < b then b else a
def mn (a b : Int32) : Int32 := if b < a then b else a
def cRange (a b c d : Int32) : Bool := decide (mn c d ≤ mx a b) && decide (mn a b ≤ mx c d)
def cMeet (a : Pts) (i j : Nat) : Bool :=
  cRange (pX a i) (pX a (nx a.length i)) (pX a j) (pX a (nx a.length j)) && (cRange (pY a i) (pY a (nx a.length i)) (pY a j) (pY a (nx a.length j)) &&
  (decide (cTurn a i (pX a j) (pY a j) * cTurn a i (pX a (nx a.length j)) (pY a (nx a.length j)) ≤ 0) && decide (cTurn a j (pX a i) (pY a i) * cTurn a j (pX a (nx a.length i)) (pY a (nx a.length i)) ≤ 0)))
def cClash (a : Pts) (i j : Nat) : Bool := if nx a.length i = j then cFold a i j (nx a.length j) else if nx a.length j = i then cFold a j i (nx a.length i) else cMeet a i j
def cSide (a : Pts) (i : Nat) (x y r : Int32) : Bool :=
  let ax := (pX a (nx a.length i) - pX a i).toInt64
  let ay := (pY a (nx a.length i) - pY a i).toInt64
  let foot := ax * (x - pX a i).toInt64 + ay * (y - pY a i).toInt64
  if 0 < foot then (if foot < ax * ax + ay * ay then !decide (r.toInt64 * r.toInt64 * (ax * ax + ay * ay) < cTurn a i x y * cTurn a i x y) else !decide (r.toInt64 * r.toInt64 < cSq a (nx a.length i) x y)) else !decide (r.toInt64 * r.toInt64 < cSq a i x y)
def cCross (a : Pts) (i : Nat) (x y : Int32) : Bool := !((!decide (pY a i ≤ y)) == (!decide (pY a (nx a.length i) ≤ y))) && ((!decide (pY a (nx a.length i) ≤ pY a i)) == (!decide (cTurn a i x y ≤ 0)))
def cInTo (a : Pts) (x y : Int32) : Nat → Bool
  | 0 => false
  | k + 1 => if cCross a k x y then !cInTo a x y k else cInTo a x y k
def cReach (a : Pts) (x y r : Int32) : Bool := (List.range a.length).any (fun i => cSide a i x y r) || cInTo a x y a.length
def cPair (n : Nat) (f : Nat → Nat → Bool) : Bool := (List.range n).any fun i => (List.range n).any fun j => decide (i < j) && f i j
def cSame (a : Pts) (i j : Nat) : Bool := decide (pX a i = pX a j) && decide (pY a i = pY a j)
def cSimple (a : Pts) : Bool := decide (3 ≤ a.length) && (!cPair a.length (cSame a) && !cPair a.length (cClash a))
theorem cPair_no {n : Nat} {f : Nat → Nat → Bool} (h : ∀ i, i < n → ∀ j, i < j → j < n → f i j = false) : cPair n f = false := by
  unfold cPair
  rw [List.any_eq_false]
  intro i hi
  rw [List.mem_range] at hi
  rw [Bool.not_eq_true, List.any_eq_false]
  intro j hj
  rw [List.mem_range] at hj
  by_cases hij : i < j
  · simp [hij, h i hi j hij hj]
  · simp [hij]
theorem cPair_yes {n i j : Nat} {f : Nat → Nat → Bool} (hij : i < j) (hj : j < n) (h : f i j = true) : cPair n f = true := by
  unfold cPair
  rw [List.any_eq_true]
  refine ⟨i, List.mem_range.mpr (by omega), ?_⟩
  rw [List.any_eq_true]
  exact ⟨j, List.mem_range.mpr hj, by simp [hij, h]⟩
theorem up_ind {P : Nat → Prop} (N : Nat) (h : ∀ k, (k < N → P (k + 1)) → P k) : ∀ k, P k := by
  intro k
  induction hn : N - k generalizing k with
  | zero => exact h k (fun hk => by omega)
  | succ n ih => exact h k (fun hk => ih (k + 1) (by omega))
section AR
variable {u : Ux} {d : Nat} {A : AH} {o : Nat} {a : Pts}
set_option maxRecDepth 100000 in
set_option maxHeartbeats 4000000 in
theorem Ar_next_ok {i : Nat} (H : ArAt A o a) (hi : i < a.length) : V (gg u) d mm_Ar_next 0 [some (.ref o), some (.int (nI i))] [] A (Rt (some (.int (nI (nx a.length i)))) A) := by
  obtain ⟨h8, xa, ya, vx, vy, h1, h2, h3, h4, h5, hX, hY⟩ := H
  refine v_iload_n (dk cd_Ar_next 0 rfl) rfl ?_
  refine v_iconst (v := nI 1) (dk cd_Ar_next 1 rfl) (by decide) ?_
  refine v_iaddN (dk cd_Ar_next 2 rfl) ?_
  refine v_aload_n (dk cd_Ar_next 3 rfl) rfl ?_
  refine v_getf (dk cd_Ar_next 4 rfl) fg_Ar_18_Ar (by assumption) (by rfl) ?_
  refine v_icmp_geN (tgt := 16) (dk cd_Ar_next 5 rfl) rfl (by omega) (by omega) (fun q7 => ?_) (fun q7 => ?_)
  · refine v_iconst (v := nI 0) (dk cd_Ar_next 10 rfl) (by decide) ?_
    exact v_iret (dk cd_Ar_next 11 rfl) rfl (rt_of (by unfold nx; first | rw [if_pos (by omega)] | rw [if_neg (by omega)]))
  · refine v_iload_n (dk cd_Ar_next 6 rfl) rfl ?_
    refine v_iconst (v := nI 1) (dk cd_Ar_next 7 rfl) (by decide) ?_
    refine v_iaddN (dk cd_Ar_next 8 rfl) ?_
    refine v_goto (tgt := 17) (dk cd_Ar_next 9 rfl) rfl ?_
    exact v_iret (dk cd_Ar_next 11 rfl) rfl (rt_of (by unfold nx; first | rw [if_pos (by omega)] | rw [if_neg (by omega)]))
set_option maxRecDepth 100000 in
set_option maxHeartbeats 4000000 in
theorem Ar_turn_ok {i : Nat} {x y : Int32} (H : ArAt A o a) (hi : i < a.length) : V (gg u) (d + 1) mm_Ar_turn 0 [some (.ref o), some (.int (nI i)), some (.int x), some (.int y), none, none, none, none, none] [] A (Rt (some (.long (cTurn a i x y))) A) := by
  have hn := nx_lt hi
  have H0 := H
  obtain ⟨h8, xa, ya, vx, vy, h1, h2, h3, h4, h5, hX, hY⟩ := H
  refine v_aload_n (dk cd_Ar_turn 0 rfl) rfl ?_
  refine v_iload_n (dk cd_Ar_turn 1 rfl) rfl ?_
  refine v_rv (r := ("AreaWarnings$Area", TT_Ar, 3)) (dk cd_Ar_turn 2 rfl) cv_Ar_33 rfl (by assumption) (as := [_]) rfl rfl (Nat.le_of_ble_eq_true rfl) (by simp [Value.category]) (Ar_next_ok H0 hi) ?_
  refine v_istore (dk cd_Ar_turn 3 rfl) (by decide) rfl ?_
  refine v_aload_n (dk cd_Ar_turn 4 rfl) rfl ?_
  refine v_getf (dk cd_Ar_turn 5 rfl) fg_Ar_9_Ar (by assumption) (by rfl) ?_
  refine v_iload (dk cd_Ar_turn 6 rfl) rfl ?_
  refine v_ialdN (j := 0) (dk cd_Ar_turn 7 rfl) (by assumption) (by decide) rfl (by omega) (by first | exact hX _ (by omega) | exact hY _ (by omega)) ?_
  refine v_aload_n (dk cd_Ar_turn 8 rfl) rfl ?_
  refine v_getf (dk cd_Ar_turn 9 rfl) fg_Ar_9_Ar (by assumption) (by rfl) ?_
  refine v_iload_n (dk cd_Ar_turn 10 rfl) rfl ?_
  refine v_ialdN (j := 0) (dk cd_Ar_turn 11 rfl) (by assumption) (by decide) rfl (by omega) (by first | exact hX _ (by omega) | exact hY _ (by omega)) ?_
  refine v_isub (dk cd_Ar_turn 12 rfl) ?_
  refine v_i2l (dk cd_Ar_turn 13 rfl) ?_
  refine v_lstore (dk cd_Ar_turn 14 rfl) (by decide) rfl ?_
  refine v_aload_n (dk cd_Ar_turn 15 rfl) rfl ?_
  refine v_getf (dk cd_Ar_turn 16 rfl) fg_Ar_15_Ar (by assumption) (by rfl) ?_
  refine v_iload (dk cd_Ar_turn 17 rfl) rfl ?_
  refine v_ialdN (j := 0) (dk cd_Ar_turn 18 rfl) (by assumption) (by decide) rfl (by omega) (by first | exact hX _ (by omega) | exact hY _ (by omega)) ?_
  refine v_aload_n (dk cd_Ar_turn 19 rfl) rfl ?_
  refine v_getf (dk cd_Ar_turn 20 rfl) fg_Ar_15_Ar (by assumption) (by rfl) ?_
  refine v_iload_n (dk cd_Ar_turn 21 rfl) rfl ?_
  refine v_ialdN (j := 0) (dk cd_Ar_turn 22 rfl) (by assumption) (by decide) rfl (by omega) (by first | exact hX _ (by omega) | exact hY _ (by omega)) ?_
  refine v_isub (dk cd_Ar_turn 23 rfl) ?_
  refine v_i2l (dk cd_Ar_turn 24 rfl) ?_
  refine v_lstore (dk cd_Ar_turn 25 rfl) (by decide) rfl ?_
  refine v_lload (dk cd_Ar_turn 26 rfl) rfl ?_
  refine v_iload_n (dk cd_Ar_turn 27 rfl) rfl ?_
  refine v_aload_n (dk cd_Ar_turn 28 rfl) rfl ?_
  refine v_getf (dk cd_Ar_turn 29 rfl) fg_Ar_15_Ar (by assumption) (by rfl) ?_
  refine v_iload_n (dk cd_Ar_turn 30 rfl) rfl ?_
  refine v_ialdN (j := 0) (dk cd_Ar_turn 31 rfl) (by assumption) (by decide) rfl (by omega) (by first | exact hX _ (by omega) | exact hY _ (by omega)) ?_
  refine v_isub (dk cd_Ar_turn 32 rfl) ?_
  refine v_i2l (dk cd_Ar_turn 33 rfl) ?_
  refine v_lmul (dk cd_Ar_turn 34 rfl) ?_
  refine v_lload (dk cd_Ar_turn 35 rfl) rfl ?_
  refine v_iload_n (dk cd_Ar_turn 36 rfl) rfl ?_
  refine v_aload_n (dk cd_Ar_turn 37 rfl) rfl ?_
  refine v_getf (dk cd_Ar_turn 38 rfl) fg_Ar_9_Ar (by assumption) (by rfl) ?_
  refine v_iload_n (dk cd_Ar_turn 39 rfl) rfl ?_
  refine v_ialdN (j := 0) (dk cd_Ar_turn 40 rfl) (by assumption) (by decide) rfl (by omega) (by first | exact hX _ (by omega) | exact hY _ (by omega)) ?_
  refine v_isub (dk cd_Ar_turn 41 rfl) ?_
  refine v_i2l (dk cd_Ar_turn 42 rfl) ?_
  refine v_lmul (dk cd_Ar_turn 43 rfl) ?_
  refine v_lsub (dk cd_Ar_turn 44 rfl) ?_
  exact v_lret (dk cd_Ar_turn 45 rfl) rfl rt_ret
set_option maxRecDepth 100000 in
set_option maxHeartbeats 4000000 in
theorem Ar_squareToCorner_ok {i : Nat} {x y : Int32} (H : ArAt A o a) (hi : i < a.length) : V (gg u) d mm_Ar_squareToCorner 0 [some (.ref o), some (.int (nI i)), some (.int x), some (.int y), none, none, none, none] [] A (Rt (some (.long (cSq a i x y))) A) := by
  obtain ⟨h8, xa, ya, vx, vy, h1, h2, h3, h4, h5, hX, hY⟩ := H
  refine v_iload_n (dk cd_Ar_squareToCorner 0 rfl) rfl ?_
  refine v_aload_n (dk cd_Ar_squareToCorner 1 rfl) rfl ?_
  refine v_getf (dk cd_Ar_squareToCorner 2 rfl) fg_Ar_9_Ar (by assumption) (by rfl) ?_
  refine v_iload_n (dk cd_Ar_squareToCorner 3 rfl) rfl ?_
  refine v_ialdN (j := 0) (dk cd_Ar_squareToCorner 4 rfl) (by assumption) (by decide) rfl (by omega) (by first | exact hX _ (by omega) | exact hY _ (by omega)) ?_
  refine v_isub (dk cd_Ar_squareToCorner 5 rfl) ?_
  refine v_i2l (dk cd_Ar_squareToCorner 6 rfl) ?_
  refine v_lstore (dk cd_Ar_squareToCorner 7 rfl) (by decide) rfl ?_
  refine v_iload_n (dk cd_Ar_squareToCorner 8 rfl) rfl ?_
  refine v_aload_n (dk cd_Ar_squareToCorner 9 rfl) rfl ?_
  refine v_getf (dk cd_Ar_squareToCorner 10 rfl) fg_Ar_15_Ar (by assumption) (by rfl) ?_
  refine v_iload_n (dk cd_Ar_squareToCorner 11 rfl) rfl ?_
  refine v_ialdN (j := 0) (dk cd_Ar_squareToCorner 12 rfl) (by assumption) (by decide) rfl (by omega) (by first | exact hX _ (by omega) | exact hY _ (by omega)) ?_
  refine v_isub (dk cd_Ar_squareToCorner 13 rfl) ?_
  refine v_i2l (dk cd_Ar_squareToCorner 14 rfl) ?_
  refine v_lstore (dk cd_Ar_squareToCorner 15 rfl) (by decide) rfl ?_
  refine v_lload (dk cd_Ar_squareToCorner 16 rfl) rfl ?_
  refine v_lload (dk cd_Ar_squareToCorner 17 rfl) rfl ?_
  refine v_lmul (dk cd_Ar_squareToCorner 18 rfl) ?_
  refine v_lload (dk cd_Ar_squareToCorner 19 rfl) rfl ?_
  refine v_lload (dk cd_Ar_squareToCorner 20 rfl) rfl ?_
  refine v_lmul (dk cd_Ar_squareToCorner 21 rfl) ?_
  refine v_ladd (dk cd_Ar_squareToCorner 22 rfl) ?_
  exact v_lret (dk cd_Ar_squareToCorner 23 rfl) rfl rt_ret
set_option maxRecDepth 100000 in
set_option maxHeartbeats 4000000 in
theorem Ar_foldsBack_ok {b s h : Nat} (H : ArAt A o a) (hb : b < a.length) (hs : s < a.length) (hh : h < a.length) : V (gg u) d mm_Ar_foldsBack 0 [some (.ref o), some (.int (nI b)), some (.int (nI s)), some (.int (nI h)), none, none, none, none, none, none, none, none] [] A (Rt (some (.int (b2i (cFold a b s h)))) A) := by
  obtain ⟨h8, xa, ya, vx, vy, h1, h2, h3, h4, h5, hX, hY⟩ := H
  refine v_aload_n (dk cd_Ar_foldsBack 0 rfl) rfl ?_
  refine v_getf (dk cd_Ar_foldsBack 1 rfl) fg_Ar_9_Ar (by assumption) (by rfl) ?_
  refine v_iload_n (dk cd_Ar_foldsBack 2 rfl) rfl ?_
  refine v_ialdN (j := 0) (dk cd_Ar_foldsBack 3 rfl) (by assumption) (by decide) rfl (by omega) (by first | exact hX _ (by omega) | exact hY _ (by omega)) ?_
  refine v_aload_n (dk cd_Ar_foldsBack 4 rfl) rfl ?_
  refine v_getf (dk cd_Ar_foldsBack 5 rfl) fg_Ar_9_Ar (by assumption) (by rfl) ?_
  refine v_iload_n (dk cd_Ar_foldsBack 6 rfl) rfl ?_
  refine v_ialdN (j := 0) (dk cd_Ar_foldsBack 7 rfl) (by assumption) (by decide) rfl (by omega) (by first | exact hX _ (by omega) | exact hY _ (by omega)) ?_
  refine v_isub (dk cd_Ar_foldsBack 8 rfl) ?_
  refine v_i2l (dk cd_Ar_foldsBack 9 rfl) ?_
  refine v_lstore (dk cd_Ar_foldsBack 10 rfl) (by decide) rfl ?_
  refine v_aload_n (dk cd_Ar_foldsBack 11 rfl) rfl ?_
  refine v_getf (dk cd_Ar_foldsBack 12 rfl) fg_Ar_15_Ar (by assumption) (by rfl) ?_
  refine v_iload_n (dk cd_Ar_foldsBack 13 rfl) rfl ?_
  refine v_ialdN (j := 0) (dk cd_Ar_foldsBack 14 rfl) (by assumption) (by decide) rfl (by omega) (by first | exact hX _ (by omega) | exact hY _ (by omega)) ?_
  refine v_aload_n (dk cd_Ar_foldsBack 15 rfl) rfl ?_
  refine v_getf (dk cd_Ar_foldsBack 16 rfl) fg_Ar_15_Ar (by assumption) (by rfl) ?_
  refine v_iload_n (dk cd_Ar_foldsBack 17 rfl) rfl ?_
  refine v_ialdN (j := 0) (dk cd_Ar_foldsBack 18 rfl) (by assumption) (by decide) rfl (by omega) (by first | exact hX _ (by omega) | exact hY _ (by omega)) ?_
  refine v_isub (dk cd_Ar_foldsBack 19 rfl) ?_
  refine v_i2l (dk cd_Ar_foldsBack 20 rfl) ?_
  refine v_lstore (dk cd_Ar_foldsBack 21 rfl) (by decide) rfl ?_
  refine v_aload_n (dk cd_Ar_foldsBack 22 rfl) rfl ?_
  refine v_getf (dk cd_Ar_foldsBack 23 rfl) fg_Ar_9_Ar (by assumption) (by rfl) ?_
  refine v_iload_n (dk cd_Ar_foldsBack 24 rfl) rfl ?_
  refine v_ialdN (j := 0) (dk cd_Ar_foldsBack 25 rfl) (by assumption) (by decide) rfl (by omega) (by first | exact hX _ (by omega) | exact hY _ (by omega)) ?_
  refine v_aload_n (dk cd_Ar_foldsBack 26 rfl) rfl ?_
  refine v_getf (dk cd_Ar_foldsBack 27 rfl) fg_Ar_9_Ar (by assumption) (by rfl) ?_
  refine v_iload_n (dk cd_Ar_foldsBack 28 rfl) rfl ?_
  refine v_ialdN (j := 0) (dk cd_Ar_foldsBack 29 rfl) (by assumption) (by decide) rfl (by omega) (by first | exact hX _ (by omega) | exact hY _ (by omega)) ?_
  refine v_isub (dk cd_Ar_foldsBack 30 rfl) ?_
  refine v_i2l (dk cd_Ar_foldsBack 31 rfl) ?_
  refine v_lstore (dk cd_Ar_foldsBack 32 rfl) (by decide) rfl ?_
  refine v_aload_n (dk cd_Ar_foldsBack 33 rfl) rfl ?_
  refine v_getf (dk cd_Ar_foldsBack 34 rfl) fg_Ar_15_Ar (by assumption) (by rfl) ?_
  refine v_iload_n (dk cd_Ar_foldsBack 35 rfl) rfl ?_
  refine v_ialdN (j := 0) (dk cd_Ar_foldsBack 36 rfl) (by assumption) (by decide) rfl (by omega) (by first | exact hX _ (by omega) | exact hY _ (by omega)) ?_
  refine v_aload_n (dk cd_Ar_foldsBack 37 rfl) rfl ?_
  refine v_getf (dk cd_Ar_foldsBack 38 rfl) fg_Ar_15_Ar (by assumption) (by rfl) ?_
  refine v_iload_n (dk cd_Ar_foldsBack 39 rfl) rfl ?_
  refine v_ialdN (j := 0) (dk cd_Ar_foldsBack 40 rfl) (by assumption) (by decide) rfl (by omega) (by first | exact hX _ (by omega) | exact hY _ (by omega)) ?_
  refine v_isub (dk cd_Ar_foldsBack 41 rfl) ?_
  refine v_i2l (dk cd_Ar_foldsBack 42 rfl) ?_
  refine v_lstore (dk cd_Ar_foldsBack 43 rfl) (by decide) rfl ?_
  refine v_lload (dk cd_Ar_foldsBack 44 rfl) rfl ?_
  refine v_lload (dk cd_Ar_foldsBack 45 rfl) rfl ?_
  refine v_lmul (dk cd_Ar_foldsBack 46 rfl) ?_
  refine v_lload (dk cd_Ar_foldsBack 47 rfl) rfl ?_
  refine v_lload (dk cd_Ar_foldsBack 48 rfl) rfl ?_
  refine v_lmul (dk cd_Ar_foldsBack 49 rfl) ?_
  refine v_lcmp_ne (tgt := 98) (dk cd_Ar_foldsBack 50 rfl) (dk cd_Ar_foldsBack 51 rfl) rfl (fun q75 => ?_) (fun q75 => ?_)
  · refine v_iconst (v := 0) (dk cd_Ar_foldsBack 64 rfl) (by decide) ?_
    exact v_zret (dk cd_Ar_foldsBack 65 rfl) rfl rfl (rt_f (by simp [cFold]; simp_all))
  · refine v_lload (dk cd_Ar_foldsBack 52 rfl) rfl ?_
    refine v_lload (dk cd_Ar_foldsBack 53 rfl) rfl ?_
    refine v_lmul (dk cd_Ar_foldsBack 54 rfl) ?_
    refine v_lload (dk cd_Ar_foldsBack 55 rfl) rfl ?_
    refine v_lload (dk cd_Ar_foldsBack 56 rfl) rfl ?_
    refine v_lmul (dk cd_Ar_foldsBack 57 rfl) ?_
    refine v_ladd (dk cd_Ar_foldsBack 58 rfl) ?_
    refine v_lconst (v := 0) (dk cd_Ar_foldsBack 59 rfl) (by decide) ?_
    refine v_lcmp_le (tgt := 98) (dk cd_Ar_foldsBack 60 rfl) (dk cd_Ar_foldsBack 61 rfl) rfl (fun q91 => ?_) (fun q91 => ?_)
    · refine v_iconst (v := 0) (dk cd_Ar_foldsBack 64 rfl) (by decide) ?_
      exact v_zret (dk cd_Ar_foldsBack 65 rfl) rfl rfl (rt_f (by simp [cFold]; simp_all))
    · refine v_iconst (v := 1) (dk cd_Ar_foldsBack 62 rfl) (by decide) ?_
      refine v_goto (tgt := 99) (dk cd_Ar_foldsBack 63 rfl) rfl ?_
      exact v_zret (dk cd_Ar_foldsBack 65 rfl) rfl rfl (rt_t (by simp [cFold]; simp_all))
set_option maxRecDepth 100000 in
set_option maxHeartbeats 4000000 in
theorem Ar_rangesMeet_ok {x y z w : Int32} : V (gg u) d mm_Ar_rangesMeet 0 [some (.int x), some (.int y), some (.int z), some (.int w)] [] A (Rt (some (.int (b2i (cRange x y z w)))) A) := by
  refine v_iload_n (dk cd_Ar_rangesMeet 0 rfl) rfl ?_
  refine v_iload_n (dk cd_Ar_rangesMeet 1 rfl) rfl ?_
  refine v_mmax (dk cd_Ar_rangesMeet 2 rfl) ma_Ar_51 (by simp [Value.category]) ?_
  refine v_iload_n (dk cd_Ar_rangesMeet 3 rfl) rfl ?_
  refine v_iload_n (dk cd_Ar_rangesMeet 4 rfl) rfl ?_
  refine v_mmin (dk cd_Ar_rangesMeet 5 rfl) ma_Ar_57 (by simp [Value.category]) ?_
  refine v_icmp_lt (tgt := 30) (dk cd_Ar_rangesMeet 6 rfl) rfl (fun q10 => ?_) (fun q10 => ?_)
  · refine v_iconst (v := 0) (dk cd_Ar_rangesMeet 16 rfl) (by decide) ?_
    exact v_zret (dk cd_Ar_rangesMeet 17 rfl) rfl rfl (rt_f (by unfold cRange mx mn; first | rw [decide_eq_false (Int32.not_le.mpr q10), Bool.false_and] | rw [decide_eq_false (Int32.not_le.mpr q23), Bool.and_false]))
  · refine v_iload_n (dk cd_Ar_rangesMeet 7 rfl) rfl ?_
    refine v_iload_n (dk cd_Ar_rangesMeet 8 rfl) rfl ?_
    refine v_mmax (dk cd_Ar_rangesMeet 9 rfl) ma_Ar_51 (by simp [Value.category]) ?_
    refine v_iload_n (dk cd_Ar_rangesMeet 10 rfl) rfl ?_
    refine v_iload_n (dk cd_Ar_rangesMeet 11 rfl) rfl ?_
    refine v_mmin (dk cd_Ar_rangesMeet 12 rfl) ma_Ar_57 (by simp [Value.category]) ?_
    refine v_icmp_lt (tgt := 30) (dk cd_Ar_rangesMeet 13 rfl) rfl (fun q23 => ?_) (fun q23 => ?_)
    · refine v_iconst (v := 0) (dk cd_Ar_rangesMeet 16 rfl) (by decide) ?_
      exact v_zret (dk cd_Ar_rangesMeet 17 rfl) rfl rfl (rt_f (by unfold cRange mx mn; first | rw [decide_eq_false (Int32.not_le.mpr q10), Bool.false_and] | rw [decide_eq_false (Int32.not_le.mpr q23), Bool.and_false]))
    · refine v_iconst (v := 1) (dk cd_Ar_rangesMeet 14 rfl) (by decide) ?_
      refine v_goto (tgt := 31) (dk cd_Ar_rangesMeet 15 rfl) rfl ?_
      exact v_zret (dk cd_Ar_rangesMeet 17 rfl) rfl rfl (rt_t (by simp_all [cRange, mx, mn]))
set_option maxRecDepth 100000 in
set_option maxHeartbeats 4000000 in
theorem Ar_sidesMeet_ok {i j : Nat} (H : ArAt A o a) (hi : i < a.length) (hj : j < a.length) : V (gg u) (d + 2) mm_Ar_sidesMeet 0 [some (.ref o), some (.int (nI i)), some (.int (nI j)), none, none] [] A (Rt (some (.int (b2i (cMeet a i j)))) A) := by
  have hn := nx_lt hi
  have hn2 := nx_lt hj
  have H0 := H
  obtain ⟨h8, xa, ya, vx, vy, h1, h2, h3, h4, h5, hX, hY⟩ := H
  refine v_aload_n (dk cd_Ar_sidesMeet 0 rfl) rfl ?_
  refine v_iload_n (dk cd_Ar_sidesMeet 1 rfl) rfl ?_
  refine v_rv (r := ("AreaWarnings$Area", TT_Ar, 3)) (dk cd_Ar_sidesMeet 2 rfl) cv_Ar_33 rfl (by assumption) (as := [_]) rfl rfl (Nat.le_of_ble_eq_true rfl) (by simp [Value.category]) (Ar_next_ok H0 (by assumption)) ?_
  refine v_istore_n (dk cd_Ar_sidesMeet 3 rfl) (by decide) rfl ?_
  refine v_aload_n (dk cd_Ar_sidesMeet 4 rfl) rfl ?_
  refine v_iload_n (dk cd_Ar_sidesMeet 5 rfl) rfl ?_
  refine v_rv (r := ("AreaWarnings$Area", TT_Ar, 3)) (dk cd_Ar_sidesMeet 6 rfl) cv_Ar_33 rfl (by assumption) (as := [_]) rfl rfl (Nat.le_of_ble_eq_true rfl) (by simp [Value.category]) (Ar_next_ok H0 (by assumption)) ?_
  refine v_istore (dk cd_Ar_sidesMeet 7 rfl) (by decide) rfl ?_
  refine v_aload_n (dk cd_Ar_sidesMeet 8 rfl) rfl ?_
  refine v_getf (dk cd_Ar_sidesMeet 9 rfl) fg_Ar_9_Ar (by assumption) (by rfl) ?_
  refine v_iload_n (dk cd_Ar_sidesMeet 10 rfl) rfl ?_
  refine v_ialdN (j := 0) (dk cd_Ar_sidesMeet 11 rfl) (by assumption) (by decide) rfl (by omega) (by first | exact hX _ (by omega) | exact hY _ (by omega)) ?_
  refine v_aload_n (dk cd_Ar_sidesMeet 12 rfl) rfl ?_
  refine v_getf (dk cd_Ar_sidesMeet 13 rfl) fg_Ar_9_Ar (by assumption) (by rfl) ?_
  refine v_iload_n (dk cd_Ar_sidesMeet 14 rfl) rfl ?_
  refine v_ialdN (j := 0) (dk cd_Ar_sidesMeet 15 rfl) (by assumption) (by decide) rfl (by omega) (by first | exact hX _ (by omega) | exact hY _ (by omega)) ?_
  refine v_aload_n (dk cd_Ar_sidesMeet 16 rfl) rfl ?_
  refine v_getf (dk cd_Ar_sidesMeet 17 rfl) fg_Ar_9_Ar (by assumption) (by rfl) ?_
  refine v_iload_n (dk cd_Ar_sidesMeet 18 rfl) rfl ?_
  refine v_ialdN (j := 0) (dk cd_Ar_sidesMeet 19 rfl) (by assumption) (by decide) rfl (by omega) (by first | exact hX _ (by omega) | exact hY _ (by omega)) ?_
  refine v_aload_n (dk cd_Ar_sidesMeet 20 rfl) rfl ?_
  refine v_getf (dk cd_Ar_sidesMeet 21 rfl) fg_Ar_9_Ar (by assumption) (by rfl) ?_
  refine v_iload (dk cd_Ar_sidesMeet 22 rfl) rfl ?_
  refine v_ialdN (j := 0) (dk cd_Ar_sidesMeet 23 rfl) (by assumption) (by decide) rfl (by omega) (by first | exact hX _ (by omega) | exact hY _ (by omega)) ?_
  refine v_rs (dk cd_Ar_sidesMeet 24 rfl) cs_Ar_44 (as := [_, _, _, _]) rfl rfl (Nat.le_of_ble_eq_true rfl) (by simp [Value.category]) Ar_rangesMeet_ok ?_
  refine v_ifeqB (tgt := 161) (dk cd_Ar_sidesMeet 25 rfl) rfl (fun q41 => ?_) (fun q41 => ?_)
  · refine v_iconst (v := 0) (dk cd_Ar_sidesMeet 98 rfl) (by decide) ?_
    exact v_zret (dk cd_Ar_sidesMeet 99 rfl) rfl rfl (rt_f (by simp only [cMeet]; simp [*]; try exact fun z => absurd q114 (Int64.not_lt.mpr z)))
  · refine v_aload_n (dk cd_Ar_sidesMeet 26 rfl) rfl ?_
    refine v_getf (dk cd_Ar_sidesMeet 27 rfl) fg_Ar_15_Ar (by assumption) (by rfl) ?_
    refine v_iload_n (dk cd_Ar_sidesMeet 28 rfl) rfl ?_
    refine v_ialdN (j := 0) (dk cd_Ar_sidesMeet 29 rfl) (by assumption) (by decide) rfl (by omega) (by first | exact hX _ (by omega) | exact hY _ (by omega)) ?_
    refine v_aload_n (dk cd_Ar_sidesMeet 30 rfl) rfl ?_
    refine v_getf (dk cd_Ar_sidesMeet 31 rfl) fg_Ar_15_Ar (by assumption) (by rfl) ?_
    refine v_iload_n (dk cd_Ar_sidesMeet 32 rfl) rfl ?_
    refine v_ialdN (j := 0) (dk cd_Ar_sidesMeet 33 rfl) (by assumption) (by decide) rfl (by omega) (by first | exact hX _ (by omega) | exact hY _ (by omega)) ?_
    refine v_aload_n (dk cd_Ar_sidesMeet 34 rfl) rfl ?_
    refine v_getf (dk cd_Ar_sidesMeet 35 rfl) fg_Ar_15_Ar (by assumption) (by rfl) ?_
    refine v_iload_n (dk cd_Ar_sidesMeet 36 rfl) rfl ?_
    refine v_ialdN (j := 0) (dk cd_Ar_sidesMeet 37 rfl) (by assumption) (by decide) rfl (by omega) (by first | exact hX _ (by omega) | exact hY _ (by omega)) ?_
    refine v_aload_n (dk cd_Ar_sidesMeet 38 rfl) rfl ?_
    refine v_getf (dk cd_Ar_sidesMeet 39 rfl) fg_Ar_15_Ar (by assumption) (by rfl) ?_
    refine v_iload (dk cd_Ar_sidesMeet 40 rfl) rfl ?_
    refine v_ialdN (j := 0) (dk cd_Ar_sidesMeet 41 rfl) (by assumption) (by decide) rfl (by omega) (by first | exact hX _ (by omega) | exact hY _ (by omega)) ?_
    refine v_rs (dk cd_Ar_sidesMeet 42 rfl) cs_Ar_44 (as := [_, _, _, _]) rfl rfl (Nat.le_of_ble_eq_true rfl) (by simp [Value.category]) Ar_rangesMeet_ok ?_
    refine v_ifeqB (tgt := 161) (dk cd_Ar_sidesMeet 43 rfl) rfl (fun q72 => ?_) (fun q72 => ?_)
    · refine v_iconst (v := 0) (dk cd_Ar_sidesMeet 98 rfl) (by decide) ?_
      exact v_zret (dk cd_Ar_sidesMeet 99 rfl) rfl rfl (rt_f (by simp only [cMeet]; simp [*]; try exact fun z => absurd q114 (Int64.not_lt.mpr z)))
    · refine v_aload_n (dk cd_Ar_sidesMeet 44 rfl) rfl ?_
      refine v_iload_n (dk cd_Ar_sidesMeet 45 rfl) rfl ?_
      refine v_aload_n (dk cd_Ar_sidesMeet 46 rfl) rfl ?_
      refine v_getf (dk cd_Ar_sidesMeet 47 rfl) fg_Ar_9_Ar (by assumption) (by rfl) ?_
      refine v_iload_n (dk cd_Ar_sidesMeet 48 rfl) rfl ?_
      refine v_ialdN (j := 0) (dk cd_Ar_sidesMeet 49 rfl) (by assumption) (by decide) rfl (by omega) (by first | exact hX _ (by omega) | exact hY _ (by omega)) ?_
      refine v_aload_n (dk cd_Ar_sidesMeet 50 rfl) rfl ?_
      refine v_getf (dk cd_Ar_sidesMeet 51 rfl) fg_Ar_15_Ar (by assumption) (by rfl) ?_
      refine v_iload_n (dk cd_Ar_sidesMeet 52 rfl) rfl ?_
      refine v_ialdN (j := 0) (dk cd_Ar_sidesMeet 53 rfl) (by assumption) (by decide) rfl (by omega) (by first | exact hX _ (by omega) | exact hY _ (by omega)) ?_
      refine v_rv (r := ("AreaWarnings$Area", TT_Ar, 3)) (dk cd_Ar_sidesMeet 54 rfl) cv_Ar_47 rfl (by assumption) (as := [_, _, _]) rfl rfl (Nat.le_of_ble_eq_true rfl) (by simp [Value.category]) (Ar_turn_ok H0 (by assumption)) ?_
      refine v_aload_n (dk cd_Ar_sidesMeet 55 rfl) rfl ?_
      refine v_iload_n (dk cd_Ar_sidesMeet 56 rfl) rfl ?_
      refine v_aload_n (dk cd_Ar_sidesMeet 57 rfl) rfl ?_
      refine v_getf (dk cd_Ar_sidesMeet 58 rfl) fg_Ar_9_Ar (by assumption) (by rfl) ?_
      refine v_iload (dk cd_Ar_sidesMeet 59 rfl) rfl ?_
      refine v_ialdN (j := 0) (dk cd_Ar_sidesMeet 60 rfl) (by assumption) (by decide) rfl (by omega) (by first | exact hX _ (by omega) | exact hY _ (by omega)) ?_
      refine v_aload_n (dk cd_Ar_sidesMeet 61 rfl) rfl ?_
      refine v_getf (dk cd_Ar_sidesMeet 62 rfl) fg_Ar_15_Ar (by assumption) (by rfl) ?_
      refine v_iload (dk cd_Ar_sidesMeet 63 rfl) rfl ?_
      refine v_ialdN (j := 0) (dk cd_Ar_sidesMeet 64 rfl) (by assumption) (by decide) rfl (by omega) (by first | exact hX _ (by omega) | exact hY _ (by omega)) ?_
      refine v_rv (r := ("AreaWarnings$Area", TT_Ar, 3)) (dk cd_Ar_sidesMeet 65 rfl) cv_Ar_47 rfl (by assumption) (as := [_, _, _]) rfl rfl (Nat.le_of_ble_eq_true rfl) (by simp [Value.category]) (Ar_turn_ok H0 (by assumption)) ?_
      refine v_lmul (dk cd_Ar_sidesMeet 66 rfl) ?_
      refine v_lconst (v := 0) (dk cd_Ar_sidesMeet 67 rfl) (by decide) ?_
      refine v_lcmp_gt (tgt := 161) (dk cd_Ar_sidesMeet 68 rfl) (dk cd_Ar_sidesMeet 69 rfl) rfl (fun q114 => ?_) (fun q114 => ?_)
      · refine v_iconst (v := 0) (dk cd_Ar_sidesMeet 98 rfl) (by decide) ?_
        exact v_zret (dk cd_Ar_sidesMeet 99 rfl) rfl rfl (rt_f (by simp only [cMeet]; simp [*]; try exact fun z => absurd q114 (Int64.not_lt.mpr z)))
      · refine v_aload_n (dk cd_Ar_sidesMeet 70 rfl) rfl ?_
        refine v_iload_n (dk cd_Ar_sidesMeet 71 rfl) rfl ?_
        refine v_aload_n (dk cd_Ar_sidesMeet 72 rfl) rfl ?_
        refine v_getf (dk cd_Ar_sidesMeet 73 rfl) fg_Ar_9_Ar (by assumption) (by rfl) ?_
        refine v_iload_n (dk cd_Ar_sidesMeet 74 rfl) rfl ?_
        refine v_ialdN (j := 0) (dk cd_Ar_sidesMeet 75 rfl) (by assumption) (by decide) rfl (by omega) (by first | exact hX _ (by omega) | exact hY _ (by omega)) ?_
        refine v_aload_n (dk cd_Ar_sidesMeet 76 rfl) rfl ?_
        refine v_getf (dk cd_Ar_sidesMeet 77 rfl) fg_Ar_15_Ar (by assumption) (by rfl) ?_
        refine v_iload_n (dk cd_Ar_sidesMeet 78 rfl) rfl ?_
        refine v_ialdN (j := 0) (dk cd_Ar_sidesMeet 79 rfl) (by assumption) (by decide) rfl (by omega) (by first | exact hX _ (by omega) | exact hY _ (by omega)) ?_
        refine v_rv (r := ("AreaWarnings$Area", TT_Ar, 3)) (dk cd_Ar_sidesMeet 80 rfl) cv_Ar_47 rfl (by assumption) (as := [_, _, _]) rfl rfl (Nat.le_of_ble_eq_true rfl) (by simp [Value.category]) (Ar_turn_ok H0 (by assumption)) ?_
        refine v_aload_n (dk cd_Ar_sidesMeet 81 rfl) rfl ?_
        refine v_iload_n (dk cd_Ar_sidesMeet 82 rfl) rfl ?_
        refine v_aload_n (dk cd_Ar_sidesMeet 83 rfl) rfl ?_
        refine v_getf (dk cd_Ar_sidesMeet 84 rfl) fg_Ar_9_Ar (by assumption) (by rfl) ?_
        refine v_iload_n (dk cd_Ar_sidesMeet 85 rfl) rfl ?_
        refine v_ialdN (j := 0) (dk cd_Ar_sidesMeet 86 rfl) (by assumption) (by decide) rfl (by omega) (by first | exact hX _ (by omega) | exact hY _ (by omega)) ?_
        refine v_aload_n (dk cd_Ar_sidesMeet 87 rfl) rfl ?_
        refine v_getf (dk cd_Ar_sidesMeet 88 rfl) fg_Ar_15_Ar (by assumption) (by rfl) ?_
        refine v_iload_n (dk cd_Ar_sidesMeet 89 rfl) rfl ?_
        refine v_ialdN (j := 0) (dk cd_Ar_sidesMeet 90 rfl) (by assumption) (by decide) rfl (by omega) (by first | exact hX _ (by omega) | exact hY _ (by omega)) ?_
        refine v_rv (r := ("AreaWarnings$Area", TT_Ar, 3)) (dk cd_Ar_sidesMeet 91 rfl) cv_Ar_47 rfl (by assumption) (as := [_, _, _]) rfl rfl (Nat.le_of_ble_eq_true rfl) (by simp [Value.category]) (Ar_turn_ok H0 (by assumption)) ?_
        refine v_lmul (dk cd_Ar_sidesMeet 92 rfl) ?_
        refine v_lconst (v := 0) (dk cd_Ar_sidesMeet 93 rfl) (by decide) ?_
        refine v_lcmp_gt (tgt := 161) (dk cd_Ar_sidesMeet 94 rfl) (dk cd_Ar_sidesMeet 95 rfl) rfl (fun q154 => ?_) (fun q154 => ?_)
        · refine v_iconst (v := 0) (dk cd_Ar_sidesMeet 98 rfl) (by decide) ?_
          exact v_zret (dk cd_Ar_sidesMeet 99 rfl) rfl rfl (rt_f (by simp only [cMeet]; simp [*]; try exact fun z => absurd q114 (Int64.not_lt.mpr z)))
        · refine v_iconst (v := 1) (dk cd_Ar_sidesMeet 96 rfl) (by decide) ?_
          refine v_goto (tgt := 162) (dk cd_Ar_sidesMeet 97 rfl) rfl ?_
          exact v_zret (dk cd_Ar_sidesMeet 99 rfl) rfl rfl (rt_t (by simp only [cMeet]; simp [*]; first | done | (constructor <;> exact Int64.not_lt.mp (by assumption))))
set_option maxRecDepth 100000 in
set_option maxHeartbeats 4000000 in
theorem Ar_sidesClash_ok {i j : Nat} (H : ArAt A o a) (hi : i < a.length) (hj : j < a.length) : V (gg u) (d + 3) mm_Ar_sidesClash 0 [some (.ref o), some (.int (nI i)), some (.int (nI j))] [] A (Rt (some (.int (b2i (cClash a i j)))) A) := by
  have hn := nx_lt hi
  have hn2 := nx_lt hj
  have H0 := H
  obtain ⟨h8, xa, ya, vx, vy, h1, h2, h3, h4, h5, hX, hY⟩ := H
  refine v_aload_n (dk cd_Ar_sidesClash 0 rfl) rfl ?_
  refine v_iload_n (dk cd_Ar_sidesClash 1 rfl) rfl ?_
  refine v_rv (r := ("AreaWarnings$Area", TT_Ar, 3)) (dk cd_Ar_sidesClash 2 rfl) cv_Ar_33 rfl (by assumption) (as := [_]) rfl rfl (Nat.le_of_ble_eq_true rfl) (by simp [Value.category]) (Ar_next_ok H0 (by assumption)) ?_
  refine v_iload_n (dk cd_Ar_sidesClash 3 rfl) rfl ?_
  refine v_icmp_neN (tgt := 21) (dk cd_Ar_sidesClash 4 rfl) rfl (by omega) (by omega) (fun q6 => ?_) (fun q6 => ?_)
  · refine v_aload_n (dk cd_Ar_sidesClash 13 rfl) rfl ?_
    refine v_iload_n (dk cd_Ar_sidesClash 14 rfl) rfl ?_
    refine v_rv (r := ("AreaWarnings$Area", TT_Ar, 3)) (dk cd_Ar_sidesClash 15 rfl) cv_Ar_33 rfl (by assumption) (as := [_]) rfl rfl (Nat.le_of_ble_eq_true rfl) (by simp [Value.category]) (Ar_next_ok H0 (by assumption)) ?_
    refine v_iload_n (dk cd_Ar_sidesClash 16 rfl) rfl ?_
    refine v_icmp_neN (tgt := 42) (dk cd_Ar_sidesClash 17 rfl) rfl (by omega) (by omega) (fun q27 => ?_) (fun q27 => ?_)
    · refine v_aload_n (dk cd_Ar_sidesClash 26 rfl) rfl ?_
      refine v_iload_n (dk cd_Ar_sidesClash 27 rfl) rfl ?_
      refine v_iload_n (dk cd_Ar_sidesClash 28 rfl) rfl ?_
      refine v_rv (r := ("AreaWarnings$Area", TT_Ar, 3)) (dk cd_Ar_sidesClash 29 rfl) cv_Ar_41 rfl (by assumption) (as := [_, _]) rfl rfl (Nat.le_of_ble_eq_true rfl) (by simp [Value.category]) (Ar_sidesMeet_ok H0 hi hj) ?_
      exact v_zretB (dk cd_Ar_sidesClash 30 rfl) rfl (rt_of (by simp [cClash, q6, q27]))
    · refine v_aload_n (dk cd_Ar_sidesClash 18 rfl) rfl ?_
      refine v_iload_n (dk cd_Ar_sidesClash 19 rfl) rfl ?_
      refine v_iload_n (dk cd_Ar_sidesClash 20 rfl) rfl ?_
      refine v_aload_n (dk cd_Ar_sidesClash 21 rfl) rfl ?_
      refine v_iload_n (dk cd_Ar_sidesClash 22 rfl) rfl ?_
      refine v_rv (r := ("AreaWarnings$Area", TT_Ar, 3)) (dk cd_Ar_sidesClash 23 rfl) cv_Ar_33 rfl (by assumption) (as := [_]) rfl rfl (Nat.le_of_ble_eq_true rfl) (by simp [Value.category]) (Ar_next_ok H0 (by assumption)) ?_
      refine v_rv (r := ("AreaWarnings$Area", TT_Ar, 3)) (dk cd_Ar_sidesClash 24 rfl) cv_Ar_37 rfl (by assumption) (as := [_, _, _]) rfl rfl (Nat.le_of_ble_eq_true rfl) (by simp [Value.category]) (Ar_foldsBack_ok H0 (by omega) (by omega) (by omega)) ?_
      exact v_zretB (dk cd_Ar_sidesClash 25 rfl) rfl (rt_of (by simp [cClash, q6, q27]))
  · refine v_aload_n (dk cd_Ar_sidesClash 5 rfl) rfl ?_
    refine v_iload_n (dk cd_Ar_sidesClash 6 rfl) rfl ?_
    refine v_iload_n (dk cd_Ar_sidesClash 7 rfl) rfl ?_
    refine v_aload_n (dk cd_Ar_sidesClash 8 rfl) rfl ?_
    refine v_iload_n (dk cd_Ar_sidesClash 9 rfl) rfl ?_
    refine v_rv (r := ("AreaWarnings$Area", TT_Ar, 3)) (dk cd_Ar_sidesClash 10 rfl) cv_Ar_33 rfl (by assumption) (as := [_]) rfl rfl (Nat.le_of_ble_eq_true rfl) (by simp [Value.category]) (Ar_next_ok H0 (by assumption)) ?_
    refine v_rv (r := ("AreaWarnings$Area", TT_Ar, 3)) (dk cd_Ar_sidesClash 11 rfl) cv_Ar_37 rfl (by assumption) (as := [_, _, _]) rfl rfl (Nat.le_of_ble_eq_true rfl) (by simp [Value.category]) (Ar_foldsBack_ok H0 (by omega) (by omega) (by omega)) ?_
    exact v_zretB (dk cd_Ar_sidesClash 12 rfl) rfl (rt_of (by subst q6; simp [cClash]))
set_option maxRecDepth 100000 in
set_option maxHeartbeats 4000000 in
theorem Ar_sideReaches_ok {i : Nat} {x y r : Int32} (H : ArAt A o a) (hi : i < a.length) : V (gg u) (d + 2) mm_Ar_sideReaches 0 [some (.ref o), some (.int (nI i)), some (.int x), some (.int y), some (.int r), none, none, none, none, none, none, none, none, none, none, none, none, none] [] A (Rt (some (.int (b2i (cSide a i x y r)))) A) := by
  have hn := nx_lt hi
  have H0 := H
  obtain ⟨h8, xa, ya, vx, vy, h1, h2, h3, h4, h5, hX, hY⟩ := H
  refine v_aload_n (dk cd_Ar_sideReaches 0 rfl) rfl ?_
  refine v_iload_n (dk cd_Ar_sideReaches 1 rfl) rfl ?_
  refine v_rv (r := ("AreaWarnings$Area", TT_Ar, 3)) (dk cd_Ar_sideReaches 2 rfl) cv_Ar_33 rfl (by assumption) (as := [_]) rfl rfl (Nat.le_of_ble_eq_true rfl) (by simp [Value.category]) (Ar_next_ok H0 (by assumption)) ?_
  refine v_istore (dk cd_Ar_sideReaches 3 rfl) (by decide) rfl ?_
  refine v_iload (dk cd_Ar_sideReaches 4 rfl) rfl ?_
  refine v_i2l (dk cd_Ar_sideReaches 5 rfl) ?_
  refine v_iload (dk cd_Ar_sideReaches 6 rfl) rfl ?_
  refine v_i2l (dk cd_Ar_sideReaches 7 rfl) ?_
  refine v_lmul (dk cd_Ar_sideReaches 8 rfl) ?_
  refine v_lstore (dk cd_Ar_sideReaches 9 rfl) (by decide) rfl ?_
  refine v_aload_n (dk cd_Ar_sideReaches 10 rfl) rfl ?_
  refine v_getf (dk cd_Ar_sideReaches 11 rfl) fg_Ar_9_Ar (by assumption) (by rfl) ?_
  refine v_iload (dk cd_Ar_sideReaches 12 rfl) rfl ?_
  refine v_ialdN (j := 0) (dk cd_Ar_sideReaches 13 rfl) (by assumption) (by decide) rfl (by omega) (by first | exact hX _ (by omega) | exact hY _ (by omega)) ?_
  refine v_aload_n (dk cd_Ar_sideReaches 14 rfl) rfl ?_
  refine v_getf (dk cd_Ar_sideReaches 15 rfl) fg_Ar_9_Ar (by assumption) (by rfl) ?_
  refine v_iload_n (dk cd_Ar_sideReaches 16 rfl) rfl ?_
  refine v_ialdN (j := 0) (dk cd_Ar_sideReaches 17 rfl) (by assumption) (by decide) rfl (by omega) (by first | exact hX _ (by omega) | exact hY _ (by omega)) ?_
  refine v_isub (dk cd_Ar_sideReaches 18 rfl) ?_
  refine v_i2l (dk cd_Ar_sideReaches 19 rfl) ?_
  refine v_lstore (dk cd_Ar_sideReaches 20 rfl) (by decide) rfl ?_
  refine v_aload_n (dk cd_Ar_sideReaches 21 rfl) rfl ?_
  refine v_getf (dk cd_Ar_sideReaches 22 rfl) fg_Ar_15_Ar (by assumption) (by rfl) ?_
  refine v_iload (dk cd_Ar_sideReaches 23 rfl) rfl ?_
  refine v_ialdN (j := 0) (dk cd_Ar_sideReaches 24 rfl) (by assumption) (by decide) rfl (by omega) (by first | exact hX _ (by omega) | exact hY _ (by omega)) ?_
  refine v_aload_n (dk cd_Ar_sideReaches 25 rfl) rfl ?_
  refine v_getf (dk cd_Ar_sideReaches 26 rfl) fg_Ar_15_Ar (by assumption) (by rfl) ?_
  refine v_iload_n (dk cd_Ar_sideReaches 27 rfl) rfl ?_
  refine v_ialdN (j := 0) (dk cd_Ar_sideReaches 28 rfl) (by assumption) (by decide) rfl (by omega) (by first | exact hX _ (by omega) | exact hY _ (by omega)) ?_
  refine v_isub (dk cd_Ar_sideReaches 29 rfl) ?_
  refine v_i2l (dk cd_Ar_sideReaches 30 rfl) ?_
  refine v_lstore (dk cd_Ar_sideReaches 31 rfl) (by decide) rfl ?_
  refine v_lload (dk cd_Ar_sideReaches 32 rfl) rfl ?_
  refine v_lload (dk cd_Ar_sideReaches 33 rfl) rfl ?_
  refine v_lmul (dk cd_Ar_sideReaches 34 rfl) ?_
  refine v_lload (dk cd_Ar_sideReaches 35 rfl) rfl ?_
  refine v_lload (dk cd_Ar_sideReaches 36 rfl) rfl ?_
  refine v_lmul (dk cd_Ar_sideReaches 37 rfl) ?_
  refine v_ladd (dk cd_Ar_sideReaches 38 rfl) ?_
  refine v_lstore (dk cd_Ar_sideReaches 39 rfl) (by decide) rfl ?_
  refine v_lload (dk cd_Ar_sideReaches 40 rfl) rfl ?_
  refine v_iload_n (dk cd_Ar_sideReaches 41 rfl) rfl ?_
  refine v_aload_n (dk cd_Ar_sideReaches 42 rfl) rfl ?_
  refine v_getf (dk cd_Ar_sideReaches 43 rfl) fg_Ar_9_Ar (by assumption) (by rfl) ?_
  refine v_iload_n (dk cd_Ar_sideReaches 44 rfl) rfl ?_
  refine v_ialdN (j := 0) (dk cd_Ar_sideReaches 45 rfl) (by assumption) (by decide) rfl (by omega) (by first | exact hX _ (by omega) | exact hY _ (by omega)) ?_
  refine v_isub (dk cd_Ar_sideReaches 46 rfl) ?_
  refine v_i2l (dk cd_Ar_sideReaches 47 rfl) ?_
  refine v_lmul (dk cd_Ar_sideReaches 48 rfl) ?_
  refine v_lload (dk cd_Ar_sideReaches 49 rfl) rfl ?_
  refine v_iload_n (dk cd_Ar_sideReaches 50 rfl) rfl ?_
  refine v_aload_n (dk cd_Ar_sideReaches 51 rfl) rfl ?_
  refine v_getf (dk cd_Ar_sideReaches 52 rfl) fg_Ar_15_Ar (by assumption) (by rfl) ?_
  refine v_iload_n (dk cd_Ar_sideReaches 53 rfl) rfl ?_
  refine v_ialdN (j := 0) (dk cd_Ar_sideReaches 54 rfl) (by assumption) (by decide) rfl (by omega) (by first | exact hX _ (by omega) | exact hY _ (by omega)) ?_
  refine v_isub (dk cd_Ar_sideReaches 55 rfl) ?_
  refine v_i2l (dk cd_Ar_sideReaches 56 rfl) ?_
  refine v_lmul (dk cd_Ar_sideReaches 57 rfl) ?_
  refine v_ladd (dk cd_Ar_sideReaches 58 rfl) ?_
  refine v_lstore (dk cd_Ar_sideReaches 59 rfl) (by decide) rfl ?_
  refine v_lload (dk cd_Ar_sideReaches 60 rfl) rfl ?_
  refine v_lconst (v := 0) (dk cd_Ar_sideReaches 61 rfl) (by decide) ?_
  refine v_lcmp_gt (tgt := 116) (dk cd_Ar_sideReaches 62 rfl) (dk cd_Ar_sideReaches 63 rfl) rfl (fun q94 => ?_) (fun q94 => ?_)
  · refine v_lload (dk cd_Ar_sideReaches 76 rfl) rfl ?_
    refine v_lload (dk cd_Ar_sideReaches 77 rfl) rfl ?_
    refine v_lcmp_lt (tgt := 144) (dk cd_Ar_sideReaches 78 rfl) (dk cd_Ar_sideReaches 79 rfl) rfl (fun q121 => ?_) (fun q121 => ?_)
    · refine v_aload_n (dk cd_Ar_sideReaches 92 rfl) rfl ?_
      refine v_iload_n (dk cd_Ar_sideReaches 93 rfl) rfl ?_
      refine v_iload_n (dk cd_Ar_sideReaches 94 rfl) rfl ?_
      refine v_iload_n (dk cd_Ar_sideReaches 95 rfl) rfl ?_
      refine v_rv (r := ("AreaWarnings$Area", TT_Ar, 3)) (dk cd_Ar_sideReaches 96 rfl) cv_Ar_47 rfl (by assumption) (as := [_, _, _]) rfl rfl (Nat.le_of_ble_eq_true rfl) (by simp [Value.category]) (Ar_turn_ok H0 (by assumption)) ?_
      refine v_lstore (dk cd_Ar_sideReaches 97 rfl) (by decide) rfl ?_
      refine v_lload (dk cd_Ar_sideReaches 98 rfl) rfl ?_
      refine v_lload (dk cd_Ar_sideReaches 99 rfl) rfl ?_
      refine v_lmul (dk cd_Ar_sideReaches 100 rfl) ?_
      refine v_lload (dk cd_Ar_sideReaches 101 rfl) rfl ?_
      refine v_lload (dk cd_Ar_sideReaches 102 rfl) rfl ?_
      refine v_lmul (dk cd_Ar_sideReaches 103 rfl) ?_
      refine v_mat_lgt (dk cd_Ar_sideReaches 104 rfl) (dk cd_Ar_sideReaches 105 rfl) (dk cd_Ar_sideReaches 106 rfl) (dk cd_Ar_sideReaches 107 rfl) (dk cd_Ar_sideReaches 108 rfl) rfl rfl ?_
      exact v_zretB (dk cd_Ar_sideReaches 109 rfl) rfl (rt_of (by simp only [cSide]; simp only [*, if_true, if_false, ite_true, ite_false]))
    · refine v_aload_n (dk cd_Ar_sideReaches 80 rfl) rfl ?_
      refine v_iload (dk cd_Ar_sideReaches 81 rfl) rfl ?_
      refine v_iload_n (dk cd_Ar_sideReaches 82 rfl) rfl ?_
      refine v_iload_n (dk cd_Ar_sideReaches 83 rfl) rfl ?_
      refine v_rv (r := ("AreaWarnings$Area", TT_Ar, 3)) (dk cd_Ar_sideReaches 84 rfl) cv_Ar_60 rfl (by assumption) (as := [_, _, _]) rfl rfl (Nat.le_of_ble_eq_true rfl) (by simp [Value.category]) (Ar_squareToCorner_ok H0 (by assumption)) ?_
      refine v_lload (dk cd_Ar_sideReaches 85 rfl) rfl ?_
      refine v_mat_lgt (dk cd_Ar_sideReaches 86 rfl) (dk cd_Ar_sideReaches 87 rfl) (dk cd_Ar_sideReaches 88 rfl) (dk cd_Ar_sideReaches 89 rfl) (dk cd_Ar_sideReaches 90 rfl) rfl rfl ?_
      exact v_zretB (dk cd_Ar_sideReaches 91 rfl) rfl (rt_of (by simp only [cSide]; simp only [*, if_true, if_false, ite_true, ite_false]))
  · refine v_aload_n (dk cd_Ar_sideReaches 64 rfl) rfl ?_
    refine v_iload_n (dk cd_Ar_sideReaches 65 rfl) rfl ?_
    refine v_iload_n (dk cd_Ar_sideReaches 66 rfl) rfl ?_
    refine v_iload_n (dk cd_Ar_sideReaches 67 rfl) rfl ?_
    refine v_rv (r := ("AreaWarnings$Area", TT_Ar, 3)) (dk cd_Ar_sideReaches 68 rfl) cv_Ar_60 rfl (by assumption) (as := [_, _, _]) rfl rfl (Nat.le_of_ble_eq_true rfl) (by simp [Value.category]) (Ar_squareToCorner_ok H0 (by assumption)) ?_
    refine v_lload (dk cd_Ar_sideReaches 69 rfl) rfl ?_
    refine v_mat_lgt (dk cd_Ar_sideReaches 70 rfl) (dk cd_Ar_sideReaches 71 rfl) (dk cd_Ar_sideReaches 72 rfl) (dk cd_Ar_sideReaches 73 rfl) (dk cd_Ar_sideReaches 74 rfl) rfl rfl ?_
    exact v_zretB (dk cd_Ar_sideReaches 75 rfl) rfl (rt_of (by simp only [cSide]; simp only [*, if_true, if_false, ite_true, ite_false]))
end AR
