/-! the model's geometry: typed corners -/
def sgn (x : Int32) : Int32 := if x ≤ 0 then (if 0 ≤ x then 0 else -1) else 1
def mCr (X Y : Nat → Int32) (a b c : Nat) : Int32 := (X b - X a) * (Y c - Y a) - (Y b - Y a) * (X c - X a)
def mTurn (X Y : Nat → Int32) (a b c : Nat) : Int32 := sgn (mCr X Y a b c)
def mDot (X Y : Nat → Int32) (a b c : Nat) : Int32 := (X a - X c) * (X b - X c) + (Y a - Y c) * (Y b - Y c)
def mBetw (X Y : Nat → Int32) (a b c : Nat) : Bool := decide (mTurn X Y a b c = 0) && !decide (0 < mDot X Y a b c)
def mAcr (X Y : Nat → Int32) (a b c d : Nat) : Bool := !decide (0 ≤ mTurn X Y a b c * mTurn X Y a b d) && !decide (0 ≤ mTurn X Y c d a * mTurn X Y c d b)
def mMeet (X Y : Nat → Int32) (a b c d : Nat) : Bool := mAcr X Y a b c d || (mBetw X Y a b c || (mBetw X Y a b d || (mBetw X Y c d a || mBetw X Y c d b)))
def mFold (X Y : Nat → Int32) (a b c : Nat) : Bool := decide (mTurn X Y a b c = 0) && decide (0 < mDot X Y a c b)
def al (n : Nat) (f : Nat → Bool) : Bool := (List.range n).all f
theorem al_succ (n : Nat) (f : Nat → Bool) : al (n + 1) f = (al n f && f n) := by simp [al, List.range_succ, List.all_append]
theorem al_zero (f : Nat → Bool) : al 0 f = true := rfl
theorem al_false {n k : Nat} {f : Nat → Bool} (h : al k f = false) (hk : k ≤ n) : al n f = false := by
  unfold al at *
  rw [List.all_eq_false] at *
  obtain ⟨x, h1, h2⟩ := h
  exact ⟨x, List.mem_range.mpr (Nat.lt_of_lt_of_le (List.mem_range.mp h1) hk), h2⟩
theorem al_iff {n : Nat} {f : Nat → Bool} : al n f = true ↔ ∀ k, k < n → f k = true := by
  unfold al
  rw [List.all_eq_true]
  exact ⟨fun h k hk => h k (List.mem_range.mpr hk), fun h k hk => h k (List.mem_range.mp hk)⟩
theorem i32_nlt {x y : Int32} (h : x ≤ y) : ¬ y < x := by
  rw [Int32.lt_iff_toInt_lt]
  rw [Int32.le_iff_toInt_le] at h
  omega
theorem i32_pos {x y : Int32} (h : ¬ x ≤ y) : y < x := by
  rw [Int32.lt_iff_toInt_lt]
  rw [Int32.le_iff_toInt_le] at h
  omega
def mDst (X Y : Nat → Int32) (a b : Nat) : Bool := !decide (X a = X b) || !decide (Y a = Y b)
def mPair (X Y : Nat → Int32) (n i k : Nat) : Bool := !(!decide ((k + 1) % n = i) && !decide ((i + 1) % n = k)) || !mMeet X Y i ((i + 1) % n) k ((k + 1) % n)
def mGood (X Y : Nat → Int32) (n i : Nat) : Bool := !mFold X Y i ((i + 1) % n) (((i + 1) % n + 1) % n) && al i (mPair X Y n i)
def mSimple (X Y : Nat → Int32) (n : Nat) : Bool := decide (3 ≤ n) && al n (fun a => al a (mDst X Y a)) && al n (mGood X Y n)
section MG
variable {u : Ux} {d : Nat} {A B : AH} {a : Nat} {i : Nat → Int32} {f : Nat → Nat → Int32}
set_option maxRecDepth 100000 in
set_option maxHeartbeats 4000000 in
theorem Mo_sign_ok {x : Int32} : V (gg u) d mm_Mo_sign 0 [some (.int x)] [] A (Rt (some (.int (sgn x))) A) := by
  refine v_iload_n (dk cd_Mo_sign 0 rfl) rfl ?_
  refine v_if_le (tgt := 8) (dk cd_Mo_sign 1 rfl) rfl (fun q1 => ?_) (fun q1 => ?_)
  · refine v_iload_n (dk cd_Mo_sign 4 rfl) rfl ?_
    refine v_if_ge (tgt := 16) (dk cd_Mo_sign 5 rfl) rfl (fun q9 => ?_) (fun q9 => ?_)
    · refine v_iconst (v := 0) (dk cd_Mo_sign 8 rfl) (by decide) ?_
      exact v_iret (dk cd_Mo_sign 9 rfl) rfl (rt_of (by simp [sgn, *]))
    · refine v_iconst (v := -1) (dk cd_Mo_sign 6 rfl) (by decide) ?_
      refine v_goto (tgt := 17) (dk cd_Mo_sign 7 rfl) rfl ?_
      exact v_iret (dk cd_Mo_sign 9 rfl) rfl (rt_of (by simp [sgn, *]))
  · refine v_iconst (v := 1) (dk cd_Mo_sign 2 rfl) (by decide) ?_
    refine v_goto (tgt := 17) (dk cd_Mo_sign 3 rfl) rfl ?_
    exact v_iret (dk cd_Mo_sign 9 rfl) rfl (rt_of (by simp [sgn, *]))
set_option maxRecDepth 100000 in
set_option maxHeartbeats 4000000 in
theorem Mo_turn_ok {x y z : Nat} (hM : MH B a i f A) (hx : x < 8) (hy : y < 8) (hz : z < 8) : V (gg u) (d + 1) mm_Mo_turn 0 [some (.ref a), some (.int (nI x)), some (.int (nI y)), some (.int (nI z))] [] A (Rt (some (.int (mTurn (f 11) (f 12) x y z))) A) := by
  refine v_aload_n (dk cd_Mo_turn 0 rfl) rfl ?_
  refine v_getf (dk cd_Mo_turn 1 rfl) fg_Mo_44_Mo hM.2.2.1 (by rfl) ?_
  refine v_iload_n (dk cd_Mo_turn 2 rfl) rfl ?_
  refine v_mld (j := 11) (dk cd_Mo_turn 3 rfl) hM (by decide) (by decide) (show _ < 8 by omega) (by decide) ?_
  refine v_aload_n (dk cd_Mo_turn 4 rfl) rfl ?_
  refine v_getf (dk cd_Mo_turn 5 rfl) fg_Mo_44_Mo hM.2.2.1 (by rfl) ?_
  refine v_iload_n (dk cd_Mo_turn 6 rfl) rfl ?_
  refine v_mld (j := 11) (dk cd_Mo_turn 7 rfl) hM (by decide) (by decide) (show _ < 8 by omega) (by decide) ?_
  refine v_isub (dk cd_Mo_turn 8 rfl) ?_
  refine v_aload_n (dk cd_Mo_turn 9 rfl) rfl ?_
  refine v_getf (dk cd_Mo_turn 10 rfl) fg_Mo_47_Mo hM.2.2.1 (by rfl) ?_
  refine v_iload_n (dk cd_Mo_turn 11 rfl) rfl ?_
  refine v_mld (j := 12) (dk cd_Mo_turn 12 rfl) hM (by decide) (by decide) (show _ < 8 by omega) (by decide) ?_
  refine v_aload_n (dk cd_Mo_turn 13 rfl) rfl ?_
  refine v_getf (dk cd_Mo_turn 14 rfl) fg_Mo_47_Mo hM.2.2.1 (by rfl) ?_
  refine v_iload_n (dk cd_Mo_turn 15 rfl) rfl ?_
  refine v_mld (j := 12) (dk cd_Mo_turn 16 rfl) hM (by decide) (by decide) (show _ < 8 by omega) (by decide) ?_
  refine v_isub (dk cd_Mo_turn 17 rfl) ?_
  refine v_imul (dk cd_Mo_turn 18 rfl) ?_
  refine v_aload_n (dk cd_Mo_turn 19 rfl) rfl ?_
  refine v_getf (dk cd_Mo_turn 20 rfl) fg_Mo_47_Mo hM.2.2.1 (by rfl) ?_
  refine v_iload_n (dk cd_Mo_turn 21 rfl) rfl ?_
  refine v_mld (j := 12) (dk cd_Mo_turn 22 rfl) hM (by decide) (by decide) (show _ < 8 by omega) (by decide) ?_
  refine v_aload_n (dk cd_Mo_turn 23 rfl) rfl ?_
  refine v_getf (dk cd_Mo_turn 24 rfl) fg_Mo_47_Mo hM.2.2.1 (by rfl) ?_
  refine v_iload_n (dk cd_Mo_turn 25 rfl) rfl ?_
  refine v_mld (j := 12) (dk cd_Mo_turn 26 rfl) hM (by decide) (by decide) (show _ < 8 by omega) (by decide) ?_
  refine v_isub (dk cd_Mo_turn 27 rfl) ?_
  refine v_aload_n (dk cd_Mo_turn 28 rfl) rfl ?_
  refine v_getf (dk cd_Mo_turn 29 rfl) fg_Mo_44_Mo hM.2.2.1 (by rfl) ?_
  refine v_iload_n (dk cd_Mo_turn 30 rfl) rfl ?_
  refine v_mld (j := 11) (dk cd_Mo_turn 31 rfl) hM (by decide) (by decide) (show _ < 8 by omega) (by decide) ?_
  refine v_aload_n (dk cd_Mo_turn 32 rfl) rfl ?_
  refine v_getf (dk cd_Mo_turn 33 rfl) fg_Mo_44_Mo hM.2.2.1 (by rfl) ?_
  refine v_iload_n (dk cd_Mo_turn 34 rfl) rfl ?_
  refine v_mld (j := 11) (dk cd_Mo_turn 35 rfl) hM (by decide) (by decide) (show _ < 8 by omega) (by decide) ?_
  refine v_isub (dk cd_Mo_turn 36 rfl) ?_
  refine v_imul (dk cd_Mo_turn 37 rfl) ?_
  refine v_isub (dk cd_Mo_turn 38 rfl) ?_
  refine v_rs (dk cd_Mo_turn 39 rfl) cs_Mo_151 (as := [_]) rfl rfl (Nat.le_of_ble_eq_true rfl) (by simp [Value.category]) Mo_sign_ok ?_
  exact v_iret (dk cd_Mo_turn 40 rfl) rfl rt_ret
set_option maxRecDepth 100000 in
set_option maxHeartbeats 4000000 in
theorem Mo_isBetween_ok {x y z : Nat} (hM : MH B a i f A) (hx : x < 8) (hy : y < 8) (hz : z < 8) : V (gg u) (d + 2) mm_Mo_isBetween 0 [some (.ref a), some (.int (nI x)), some (.int (nI y)), some (.int (nI z)), none] [] A (Rt (some (.int (b2i (mBetw (f 11) (f 12) x y z)))) A) := by
  refine v_aload_n (dk cd_Mo_isBetween 0 rfl) rfl ?_
  refine v_getf (dk cd_Mo_isBetween 1 rfl) fg_Mo_44_Mo hM.2.2.1 (by rfl) ?_
  refine v_iload_n (dk cd_Mo_isBetween 2 rfl) rfl ?_
  refine v_mld (j := 11) (dk cd_Mo_isBetween 3 rfl) hM (by decide) (by decide) (show _ < 8 by omega) (by decide) ?_
  refine v_aload_n (dk cd_Mo_isBetween 4 rfl) rfl ?_
  refine v_getf (dk cd_Mo_isBetween 5 rfl) fg_Mo_44_Mo hM.2.2.1 (by rfl) ?_
  refine v_iload_n (dk cd_Mo_isBetween 6 rfl) rfl ?_
  refine v_mld (j := 11) (dk cd_Mo_isBetween 7 rfl) hM (by decide) (by decide) (show _ < 8 by omega) (by decide) ?_
  refine v_isub (dk cd_Mo_isBetween 8 rfl) ?_
  refine v_aload_n (dk cd_Mo_isBetween 9 rfl) rfl ?_
  refine v_getf (dk cd_Mo_isBetween 10 rfl) fg_Mo_44_Mo hM.2.2.1 (by rfl) ?_
  refine v_iload_n (dk cd_Mo_isBetween 11 rfl) rfl ?_
  refine v_mld (j := 11) (dk cd_Mo_isBetween 12 rfl) hM (by decide) (by decide) (show _ < 8 by omega) (by decide) ?_
  refine v_aload_n (dk cd_Mo_isBetween 13 rfl) rfl ?_
  refine v_getf (dk cd_Mo_isBetween 14 rfl) fg_Mo_44_Mo hM.2.2.1 (by rfl) ?_
  refine v_iload_n (dk cd_Mo_isBetween 15 rfl) rfl ?_
  refine v_mld (j := 11) (dk cd_Mo_isBetween 16 rfl) hM (by decide) (by decide) (show _ < 8 by omega) (by decide) ?_
  refine v_isub (dk cd_Mo_isBetween 17 rfl) ?_
  refine v_imul (dk cd_Mo_isBetween 18 rfl) ?_
  refine v_aload_n (dk cd_Mo_isBetween 19 rfl) rfl ?_
  refine v_getf (dk cd_Mo_isBetween 20 rfl) fg_Mo_47_Mo hM.2.2.1 (by rfl) ?_
  refine v_iload_n (dk cd_Mo_isBetween 21 rfl) rfl ?_
  refine v_mld (j := 12) (dk cd_Mo_isBetween 22 rfl) hM (by decide) (by decide) (show _ < 8 by omega) (by decide) ?_
  refine v_aload_n (dk cd_Mo_isBetween 23 rfl) rfl ?_
  refine v_getf (dk cd_Mo_isBetween 24 rfl) fg_Mo_47_Mo hM.2.2.1 (by rfl) ?_
  refine v_iload_n (dk cd_Mo_isBetween 25 rfl) rfl ?_
  refine v_mld (j := 12) (dk cd_Mo_isBetween 26 rfl) hM (by decide) (by decide) (show _ < 8 by omega) (by decide) ?_
  refine v_isub (dk cd_Mo_isBetween 27 rfl) ?_
  refine v_aload_n (dk cd_Mo_isBetween 28 rfl) rfl ?_
  refine v_getf (dk cd_Mo_isBetween 29 rfl) fg_Mo_47_Mo hM.2.2.1 (by rfl) ?_
  refine v_iload_n (dk cd_Mo_isBetween 30 rfl) rfl ?_
  refine v_mld (j := 12) (dk cd_Mo_isBetween 31 rfl) hM (by decide) (by decide) (show _ < 8 by omega) (by decide) ?_
  refine v_aload_n (dk cd_Mo_isBetween 32 rfl) rfl ?_
  refine v_getf (dk cd_Mo_isBetween 33 rfl) fg_Mo_47_Mo hM.2.2.1 (by rfl) ?_
  refine v_iload_n (dk cd_Mo_isBetween 34 rfl) rfl ?_
  refine v_mld (j := 12) (dk cd_Mo_isBetween 35 rfl) hM (by decide) (by decide) (show _ < 8 by omega) (by decide) ?_
  refine v_isub (dk cd_Mo_isBetween 36 rfl) ?_
  refine v_imul (dk cd_Mo_isBetween 37 rfl) ?_
  refine v_iadd (dk cd_Mo_isBetween 38 rfl) ?_
  refine v_istore (dk cd_Mo_isBetween 39 rfl) (by decide) rfl ?_
  refine v_aload_n (dk cd_Mo_isBetween 40 rfl) rfl ?_
  refine v_iload_n (dk cd_Mo_isBetween 41 rfl) rfl ?_
  refine v_iload_n (dk cd_Mo_isBetween 42 rfl) rfl ?_
  refine v_iload_n (dk cd_Mo_isBetween 43 rfl) rfl ?_
  refine v_rv (r := ("AreaWarningsModel", TT_Mo, 49)) (dk cd_Mo_isBetween 44 rfl) cv_Mo_155 rfl hM.2.2.1 (as := [_, _, _]) rfl rfl (Nat.le_of_ble_eq_true rfl) (by simp [Value.category]) (Mo_turn_ok hM hx hy hz) ?_
  refine v_if_ne (tgt := 76) (dk cd_Mo_isBetween 45 rfl) rfl (fun q64 => ?_) (fun q64 => ?_)
  · refine v_iconst (v := 0) (dk cd_Mo_isBetween 50 rfl) (by decide) ?_
    exact v_zret (dk cd_Mo_isBetween 51 rfl) rfl rfl (rt_f (by first | (unfold mBetw; rw [decide_eq_false q64]; rfl) | (unfold mBetw; rw [show decide (0 < mDot (f 11) (f 12) x y z) = true from decide_eq_true q69]; simp)))
  · refine v_iload (dk cd_Mo_isBetween 46 rfl) rfl ?_
    refine v_if_gt (tgt := 76) (dk cd_Mo_isBetween 47 rfl) rfl (fun q69 => ?_) (fun q69 => ?_)
    · refine v_iconst (v := 0) (dk cd_Mo_isBetween 50 rfl) (by decide) ?_
      exact v_zret (dk cd_Mo_isBetween 51 rfl) rfl rfl (rt_f (by first | (unfold mBetw; rw [decide_eq_false q64]; rfl) | (unfold mBetw; rw [show decide (0 < mDot (f 11) (f 12) x y z) = true from decide_eq_true q69]; simp)))
    · refine v_iconst (v := 1) (dk cd_Mo_isBetween 48 rfl) (by decide) ?_
      refine v_goto (tgt := 77) (dk cd_Mo_isBetween 49 rfl) rfl ?_
      exact v_zret (dk cd_Mo_isBetween 51 rfl) rfl rfl (rt_t (by unfold mBetw; rw [decide_eq_true q64, show decide (0 < mDot (f 11) (f 12) x y z) = false from decide_eq_false q69]; rfl))
set_option maxRecDepth 100000 in
set_option maxHeartbeats 4000000 in
theorem Mo_fold_ok {x y z : Nat} (hM : MH B a i f A) (hx : x < 8) (hy : y < 8) (hz : z < 8) : V (gg u) (d + 2) mm_Mo_fold 0 [some (.ref a), some (.int (nI x)), some (.int (nI y)), some (.int (nI z)), none] [] A (Rt (some (.int (b2i (mFold (f 11) (f 12) x y z)))) A) := by
  refine v_aload_n (dk cd_Mo_fold 0 rfl) rfl ?_
  refine v_getf (dk cd_Mo_fold 1 rfl) fg_Mo_44_Mo hM.2.2.1 (by rfl) ?_
  refine v_iload_n (dk cd_Mo_fold 2 rfl) rfl ?_
  refine v_mld (j := 11) (dk cd_Mo_fold 3 rfl) hM (by decide) (by decide) (show _ < 8 by omega) (by decide) ?_
  refine v_aload_n (dk cd_Mo_fold 4 rfl) rfl ?_
  refine v_getf (dk cd_Mo_fold 5 rfl) fg_Mo_44_Mo hM.2.2.1 (by rfl) ?_
  refine v_iload_n (dk cd_Mo_fold 6 rfl) rfl ?_
  refine v_mld (j := 11) (dk cd_Mo_fold 7 rfl) hM (by decide) (by decide) (show _ < 8 by omega) (by decide) ?_
  refine v_isub (dk cd_Mo_fold 8 rfl) ?_
  refine v_aload_n (dk cd_Mo_fold 9 rfl) rfl ?_
  refine v_getf (dk cd_Mo_fold 10 rfl) fg_Mo_44_Mo hM.2.2.1 (by rfl) ?_
  refine v_iload_n (dk cd_Mo_fold 11 rfl) rfl ?_
  refine v_mld (j := 11) (dk cd_Mo_fold 12 rfl) hM (by decide) (by decide) (show _ < 8 by omega) (by decide) ?_
  refine v_aload_n (dk cd_Mo_fold 13 rfl) rfl ?_
  refine v_getf (dk cd_Mo_fold 14 rfl) fg_Mo_44_Mo hM.2.2.1 (by rfl) ?_
  refine v_iload_n (dk cd_Mo_fold 15 rfl) rfl ?_
  refine v_mld (j := 11) (dk cd_Mo_fold 16 rfl) hM (by decide) (by decide) (show _ < 8 by omega) (by decide) ?_
  refine v_isub (dk cd_Mo_fold 17 rfl) ?_
  refine v_imul (dk cd_Mo_fold 18 rfl) ?_
  refine v_aload_n (dk cd_Mo_fold 19 rfl) rfl ?_
  refine v_getf (dk cd_Mo_fold 20 rfl) fg_Mo_47_Mo hM.2.2.1 (by rfl) ?_
  refine v_iload_n (dk cd_Mo_fold 21 rfl) rfl ?_
  refine v_mld (j := 12) (dk cd_Mo_fold 22 rfl) hM (by decide) (by decide) (show _ < 8 by omega) (by decide) ?_
  refine v_aload_n (dk cd_Mo_fold 23 rfl) rfl ?_
  refine v_getf (dk cd_Mo_fold 24 rfl) fg_Mo_47_Mo hM.2.2.1 (by rfl) ?_
  refine v_iload_n (dk cd_Mo_fold 25 rfl) rfl ?_
  refine v_mld (j := 12) (dk cd_Mo_fold 26 rfl) hM (by decide) (by decide) (show _ < 8 by omega) (by decide) ?_
  refine v_isub (dk cd_Mo_fold 27 rfl) ?_
  refine v_aload_n (dk cd_Mo_fold 28 rfl) rfl ?_
  refine v_getf (dk cd_Mo_fold 29 rfl) fg_Mo_47_Mo hM.2.2.1 (by rfl) ?_
  refine v_iload_n (dk cd_Mo_fold 30 rfl) rfl ?_
  refine v_mld (j := 12) (dk cd_Mo_fold 31 rfl) hM (by decide) (by decide) (show _ < 8 by omega) (by decide) ?_
  refine v_aload_n (dk cd_Mo_fold 32 rfl) rfl ?_
  refine v_getf (dk cd_Mo_fold 33 rfl) fg_Mo_47_Mo hM.2.2.1 (by rfl) ?_
  refine v_iload_n (dk cd_Mo_fold 34 rfl) rfl ?_
  refine v_mld (j := 12) (dk cd_Mo_fold 35 rfl) hM (by decide) (by decide) (show _ < 8 by omega) (by decide) ?_
  refine v_isub (dk cd_Mo_fold 36 rfl) ?_
  refine v_imul (dk cd_Mo_fold 37 rfl) ?_
  refine v_iadd (dk cd_Mo_fold 38 rfl) ?_
  refine v_istore (dk cd_Mo_fold 39 rfl) (by decide) rfl ?_
  refine v_aload_n (dk cd_Mo_fold 40 rfl) rfl ?_
  refine v_iload_n (dk cd_Mo_fold 41 rfl) rfl ?_
  refine v_iload_n (dk cd_Mo_fold 42 rfl) rfl ?_
  refine v_iload_n (dk cd_Mo_fold 43 rfl) rfl ?_
  refine v_rv (r := ("AreaWarningsModel", TT_Mo, 49)) (dk cd_Mo_fold 44 rfl) cv_Mo_155 rfl hM.2.2.1 (as := [_, _, _]) rfl rfl (Nat.le_of_ble_eq_true rfl) (by simp [Value.category]) (Mo_turn_ok hM hx hy hz) ?_
  refine v_if_ne (tgt := 76) (dk cd_Mo_fold 45 rfl) rfl (fun q64 => ?_) (fun q64 => ?_)
  · refine v_iconst (v := 0) (dk cd_Mo_fold 50 rfl) (by decide) ?_
    exact v_zret (dk cd_Mo_fold 51 rfl) rfl rfl (rt_f (by first | (unfold mFold; rw [decide_eq_false q64]; rfl) | (unfold mFold; rw [show decide (0 < mDot (f 11) (f 12) x z y) = false from decide_eq_false (i32_nlt q69)]; simp)))
  · refine v_iload (dk cd_Mo_fold 46 rfl) rfl ?_
    refine v_if_le (tgt := 76) (dk cd_Mo_fold 47 rfl) rfl (fun q69 => ?_) (fun q69 => ?_)
    · refine v_iconst (v := 0) (dk cd_Mo_fold 50 rfl) (by decide) ?_
      exact v_zret (dk cd_Mo_fold 51 rfl) rfl rfl (rt_f (by first | (unfold mFold; rw [decide_eq_false q64]; rfl) | (unfold mFold; rw [show decide (0 < mDot (f 11) (f 12) x z y) = false from decide_eq_false (i32_nlt q69)]; simp)))
    · refine v_iconst (v := 1) (dk cd_Mo_fold 48 rfl) (by decide) ?_
      refine v_goto (tgt := 77) (dk cd_Mo_fold 49 rfl) rfl ?_
      exact v_zret (dk cd_Mo_fold 51 rfl) rfl rfl (rt_t (by unfold mFold; rw [decide_eq_true q64, show decide (0 < mDot (f 11) (f 12) x z y) = true from decide_eq_true (i32_pos q69)]; rfl))
set_option maxRecDepth 100000 in
set_option maxHeartbeats 4000000 in
theorem Mo_meet_46 {x y z w : Nat} {b : Bool} (hM : MH B a i f A) (hx : x < 8) (hy : y < 8) (hz : z < 8) (hw : w < 8) : V (gg u) (d + 3) mm_Mo_meet 46 [some (.ref a), some (.int (nI x)), some (.int (nI y)), some (.int (nI z)), some (.int (nI w)), some (.int (b2i b))] [] A (Rt (some (.int (b2i (b || (mBetw (f 11) (f 12) x y z || (mBetw (f 11) (f 12) x y w || (mBetw (f 11) (f 12) z w x || mBetw (f 11) (f 12) z w y))))))) A) := by
  refine v_iload (dk cd_Mo_meet 28 rfl) rfl ?_
  refine v_ifneB (tgt := 94) (dk cd_Mo_meet 29 rfl) rfl (fun q48 => ?_) (fun q48 => ?_)
  · refine v_iconst (v := 1) (dk cd_Mo_meet 54 rfl) (by decide) ?_
    refine v_goto (tgt := 99) (dk cd_Mo_meet 55 rfl) rfl ?_
    exact v_zret (dk cd_Mo_meet 57 rfl) rfl rfl (rt_t (by simp [*]))
  · refine v_aload_n (dk cd_Mo_meet 30 rfl) rfl ?_
    refine v_iload_n (dk cd_Mo_meet 31 rfl) rfl ?_
    refine v_iload_n (dk cd_Mo_meet 32 rfl) rfl ?_
    refine v_iload_n (dk cd_Mo_meet 33 rfl) rfl ?_
    refine v_rv (r := ("AreaWarningsModel", TT_Mo, 49)) (dk cd_Mo_meet 34 rfl) cv_Mo_159 rfl hM.2.2.1 (as := [_, _, _]) rfl rfl (Nat.le_of_ble_eq_true rfl) (by simp [Value.category]) (Mo_isBetween_ok hM hx hy hz) ?_
    refine v_ifneB (tgt := 94) (dk cd_Mo_meet 35 rfl) rfl (fun q58 => ?_) (fun q58 => ?_)
    · refine v_iconst (v := 1) (dk cd_Mo_meet 54 rfl) (by decide) ?_
      refine v_goto (tgt := 99) (dk cd_Mo_meet 55 rfl) rfl ?_
      exact v_zret (dk cd_Mo_meet 57 rfl) rfl rfl (rt_t (by simp [*]))
    · refine v_aload_n (dk cd_Mo_meet 36 rfl) rfl ?_
      refine v_iload_n (dk cd_Mo_meet 37 rfl) rfl ?_
      refine v_iload_n (dk cd_Mo_meet 38 rfl) rfl ?_
      refine v_iload (dk cd_Mo_meet 39 rfl) rfl ?_
      refine v_rv (r := ("AreaWarningsModel", TT_Mo, 49)) (dk cd_Mo_meet 40 rfl) cv_Mo_159 rfl hM.2.2.1 (as := [_, _, _]) rfl rfl (Nat.le_of_ble_eq_true rfl) (by simp [Value.category]) (Mo_isBetween_ok hM hx hy hw) ?_
      refine v_ifneB (tgt := 94) (dk cd_Mo_meet 41 rfl) rfl (fun q69 => ?_) (fun q69 => ?_)
      · refine v_iconst (v := 1) (dk cd_Mo_meet 54 rfl) (by decide) ?_
        refine v_goto (tgt := 99) (dk cd_Mo_meet 55 rfl) rfl ?_
        exact v_zret (dk cd_Mo_meet 57 rfl) rfl rfl (rt_t (by simp [*]))
      · refine v_aload_n (dk cd_Mo_meet 42 rfl) rfl ?_
        refine v_iload_n (dk cd_Mo_meet 43 rfl) rfl ?_
        refine v_iload (dk cd_Mo_meet 44 rfl) rfl ?_
        refine v_iload_n (dk cd_Mo_meet 45 rfl) rfl ?_
        refine v_rv (r := ("AreaWarningsModel", TT_Mo, 49)) (dk cd_Mo_meet 46 rfl) cv_Mo_159 rfl hM.2.2.1 (as := [_, _, _]) rfl rfl (Nat.le_of_ble_eq_true rfl) (by simp [Value.category]) (Mo_isBetween_ok hM hz hw hx) ?_
        refine v_ifneB (tgt := 94) (dk cd_Mo_meet 47 rfl) rfl (fun q80 => ?_) (fun q80 => ?_)
        · refine v_iconst (v := 1) (dk cd_Mo_meet 54 rfl) (by decide) ?_
          refine v_goto (tgt := 99) (dk cd_Mo_meet 55 rfl) rfl ?_
          exact v_zret (dk cd_Mo_meet 57 rfl) rfl rfl (rt_t (by simp [*]))
        · refine v_aload_n (dk cd_Mo_meet 48 rfl) rfl ?_
          refine v_iload_n (dk cd_Mo_meet 49 rfl) rfl ?_
          refine v_iload (dk cd_Mo_meet 50 rfl) rfl ?_
          refine v_iload_n (dk cd_Mo_meet 51 rfl) rfl ?_
          refine v_rv (r := ("AreaWarningsModel", TT_Mo, 49)) (dk cd_Mo_meet 52 rfl) cv_Mo_159 rfl hM.2.2.1 (as := [_, _, _]) rfl rfl (Nat.le_of_ble_eq_true rfl) (by simp [Value.category]) (Mo_isBetween_ok hM hz hw hy) ?_
          refine v_ifeqB (tgt := 98) (dk cd_Mo_meet 53 rfl) rfl (fun q91 => ?_) (fun q91 => ?_)
          · refine v_iconst (v := 0) (dk cd_Mo_meet 56 rfl) (by decide) ?_
            exact v_zret (dk cd_Mo_meet 57 rfl) rfl rfl (rt_f (by simp [*]))
          · refine v_iconst (v := 1) (dk cd_Mo_meet 54 rfl) (by decide) ?_
            refine v_goto (tgt := 99) (dk cd_Mo_meet 55 rfl) rfl ?_
            exact v_zret (dk cd_Mo_meet 57 rfl) rfl rfl (rt_t (by simp [*]))
set_option maxRecDepth 100000 in
set_option maxHeartbeats 4000000 in
theorem Mo_meet_ok {x y z w : Nat} (hM : MH B a i f A) (hx : x < 8) (hy : y < 8) (hz : z < 8) (hw : w < 8) : V (gg u) (d + 3) mm_Mo_meet 0 [some (.ref a), some (.int (nI x)), some (.int (nI y)), some (.int (nI z)), some (.int (nI w)), none] [] A (Rt (some (.int (b2i (mMeet (f 11) (f 12) x y z w)))) A) := by
  refine v_aload_n (dk cd_Mo_meet 0 rfl) rfl ?_
  refine v_iload_n (dk cd_Mo_meet 1 rfl) rfl ?_
  refine v_iload_n (dk cd_Mo_meet 2 rfl) rfl ?_
  refine v_iload_n (dk cd_Mo_meet 3 rfl) rfl ?_
  refine v_rv (r := ("AreaWarningsModel", TT_Mo, 49)) (dk cd_Mo_meet 4 rfl) cv_Mo_155 rfl hM.2.2.1 (as := [_, _, _]) rfl rfl (Nat.le_of_ble_eq_true rfl) (by simp [Value.category]) (Mo_turn_ok hM hx hy hz) ?_
  refine v_aload_n (dk cd_Mo_meet 5 rfl) rfl ?_
  refine v_iload_n (dk cd_Mo_meet 6 rfl) rfl ?_
  refine v_iload_n (dk cd_Mo_meet 7 rfl) rfl ?_
  refine v_iload (dk cd_Mo_meet 8 rfl) rfl ?_
  refine v_rv (r := ("AreaWarningsModel", TT_Mo, 49)) (dk cd_Mo_meet 9 rfl) cv_Mo_155 rfl hM.2.2.1 (as := [_, _, _]) rfl rfl (Nat.le_of_ble_eq_true rfl) (by simp [Value.category]) (Mo_turn_ok hM hx hy hw) ?_
  refine v_imul (dk cd_Mo_meet 10 rfl) ?_
  refine v_if_ge (tgt := 43) (dk cd_Mo_meet 11 rfl) rfl (fun q16 => ?_) (fun q16 => ?_)
  · refine v_iconst (v := nI 0) (dk cd_Mo_meet 26 rfl) (by decide) ?_
    refine v_istore (dk cd_Mo_meet 27 rfl) (by decide) rfl ?_
    have h9 := Mo_meet_46 (u := u) (d := d) (b := false) hM hx hy hz hw
    rw [show mMeet (f 11) (f 12) x y z w = (false || (mBetw (f 11) (f 12) x y z || (mBetw (f 11) (f 12) x y w || (mBetw (f 11) (f 12) z w x || mBetw (f 11) (f 12) z w y)))) by unfold mMeet; rw [show mAcr (f 11) (f 12) x y z w = false by simp [mAcr, *]]]
    exact h9
  · refine v_aload_n (dk cd_Mo_meet 12 rfl) rfl ?_
    refine v_iload_n (dk cd_Mo_meet 13 rfl) rfl ?_
    refine v_iload (dk cd_Mo_meet 14 rfl) rfl ?_
    refine v_iload_n (dk cd_Mo_meet 15 rfl) rfl ?_
    refine v_rv (r := ("AreaWarningsModel", TT_Mo, 49)) (dk cd_Mo_meet 16 rfl) cv_Mo_155 rfl hM.2.2.1 (as := [_, _, _]) rfl rfl (Nat.le_of_ble_eq_true rfl) (by simp [Value.category]) (Mo_turn_ok hM hz hw hx) ?_
    refine v_aload_n (dk cd_Mo_meet 17 rfl) rfl ?_
    refine v_iload_n (dk cd_Mo_meet 18 rfl) rfl ?_
    refine v_iload (dk cd_Mo_meet 19 rfl) rfl ?_
    refine v_iload_n (dk cd_Mo_meet 20 rfl) rfl ?_
    refine v_rv (r := ("AreaWarningsModel", TT_Mo, 49)) (dk cd_Mo_meet 21 rfl) cv_Mo_155 rfl hM.2.2.1 (as := [_, _, _]) rfl rfl (Nat.le_of_ble_eq_true rfl) (by simp [Value.category]) (Mo_turn_ok hM hz hw hy) ?_
    refine v_imul (dk cd_Mo_meet 22 rfl) ?_
    refine v_if_ge (tgt := 43) (dk cd_Mo_meet 23 rfl) rfl (fun q36 => ?_) (fun q36 => ?_)
    · refine v_iconst (v := nI 0) (dk cd_Mo_meet 26 rfl) (by decide) ?_
      refine v_istore (dk cd_Mo_meet 27 rfl) (by decide) rfl ?_
      have h9 := Mo_meet_46 (u := u) (d := d) (b := false) hM hx hy hz hw
      rw [show mMeet (f 11) (f 12) x y z w = (false || (mBetw (f 11) (f 12) x y z || (mBetw (f 11) (f 12) x y w || (mBetw (f 11) (f 12) z w x || mBetw (f 11) (f 12) z w y)))) by unfold mMeet; rw [show mAcr (f 11) (f 12) x y z w = false by simp [mAcr, *]]]
      exact h9
    · refine v_iconst (v := 1) (dk cd_Mo_meet 24 rfl) (by decide) ?_
      refine v_goto (tgt := 44) (dk cd_Mo_meet 25 rfl) rfl ?_
      refine v_istore (dk cd_Mo_meet 27 rfl) (by decide) rfl ?_
      have h9 := Mo_meet_46 (u := u) (d := d) (b := true) hM hx hy hz hw
      rw [show mMeet (f 11) (f 12) x y z w = (true || (mBetw (f 11) (f 12) x y z || (mBetw (f 11) (f 12) x y w || (mBetw (f 11) (f 12) z w x || mBetw (f 11) (f 12) z w y)))) by unfold mMeet; rw [show mAcr (f 11) (f 12) x y z w = true by simp [mAcr, *]]]
      exact h9
end MG
