/-! the model: isSimple -/
def mG (X Y : Nat → Int32) (n x : Nat) : Bool := decide (3 ≤ n) && al x (fun a => al a (mDst X Y a))
theorem and_al_false {g : Bool} {x n : Nat} {f : Nat → Bool} (h : (g && al x f) = false) (hx : x ≤ n) : (g && al n f) = false := by
  cases g with
  | false => rfl
  | true => exact al_false h hx
section VM2
variable {u : Ux} {d : Nat} {y : MT} {pc : Nat} {L : Lo} {st : List Value} {A B : AH} {Φ : Out → AH → Prop} {a : Nat} {i : Nat → Int32} {f : Nat → Nat → Int32}
theorem v_mgi {idx k n : Nat} {x : Int32} (hd : decode y.2.1 pc = .ok (.getfield idx, 3)) (hf : FR (gW (gg u)) (gC (gg u)) y.1.cls idx 9 k) (hM : MH B a i f A) (hk : (mFl a i)[k]? = some (.int (i n))) (hx : i n = x) (h : V (gg u) d y (pc + 3) L (.int x :: st) A Φ) : V (gg u) d y pc L (.ref a :: st) A Φ :=
  v_getf hd hf hM.2.2.1 hk (by rw [hx]; exact h)
theorem v_mldE {j k : Nat} {x : Int32} (hd : decode y.2.1 pc = .ok (.iaload, 1)) (hM : MH B a i f A) (hj : j < 42) (h0 : mkd j = 0) (hk : k < msz j) (hb : msz j < 2 ^ 31) (hx : f j k = x) (h : V (gg u) d y (pc + 1) L (.int x :: st) A Φ) : V (gg u) d y pc L (.int (nI k) :: .ref (a + 1 + j) :: st) A Φ :=
  v_mld hd hM hj h0 hk hb (by rw [hx]; exact h)
theorem v_mldzE {j k : Nat} {x : Int32} (hd : decode y.2.1 pc = .ok (.baload, 1)) (hM : MH B a i f A) (hj : j < 42) (h0 : mkd j = 1) (hk : k < msz j) (hb : msz j < 2 ^ 31) (hx : f j k = x) (h : V (gg u) d y (pc + 1) L (.int x :: st) A Φ) : V (gg u) d y pc L (.int (nI k) :: .ref (a + 1 + j) :: st) A Φ :=
  v_mldz hd hM hj h0 hk hb (by rw [hx]; exact h)
end VM2
section MS
variable {u : Ux} {d : Nat} {A B : AH} {a : Nat} {i : Nat → Int32} {f : Nat → Nat → Int32}
set_option maxRecDepth 100000 in
set_option maxHeartbeats 4000000 in
theorem Mo_isSimple_k {n x : Nat} {Φ : Out → AH → Prop} (hM : MH B a i f A) (hn : i 3 = nI n) (h8 : n ≤ 8) (hx : x < n) (kont : ∀ c, c = mGood (f 11) (f 12) n x → V (gg u) (d + 4) mm_Mo_isSimple 202 [some (.ref a), some (.int (b2i c)), some (.int (nI x)), none, none, none, none] [] A Φ) : ∀ y, y ≤ x → V (gg u) (d + 4) mm_Mo_isSimple 132 [some (.ref a), some (.int (b2i ((!mFold (f 11) (f 12) x ((x + 1) % n) (((x + 1) % n + 1) % n)) && al y (mPair (f 11) (f 12) n x)))), some (.int (nI x)), some (.int (nI ((x + 1) % n))), some (.int (nI y)), none, none] [] A Φ := by
  refine up_ind x ?_
  intro y ih hy
  have hG : mGood (f 11) (f 12) n x = ((!mFold (f 11) (f 12) x ((x + 1) % n) (((x + 1) % n + 1) % n)) && al x (mPair (f 11) (f 12) n x)) := rfl
  refine v_iload (dk cd_Mo_isSimple 79 rfl) rfl ?_
  refine v_iload_n (dk cd_Mo_isSimple 80 rfl) rfl ?_
  refine v_icmp_geN (tgt := 202) (dk cd_Mo_isSimple 81 rfl) rfl (by omega) (by omega) (fun q135 => ?_) (fun q135 => ?_)
  · have hye : y = x := by omega
    subst hye
    exact V.drop 4 (V.drop 3 (kont _ hG.symm))
  · refine v_iload_n (dk cd_Mo_isSimple 82 rfl) rfl ?_
    refine v_ifeqB (tgt := 202) (dk cd_Mo_isSimple 83 rfl) rfl (fun q139 => ?_) (fun q139 => ?_)
    · have hfe : mGood (f 11) (f 12) n x = false := and_al_false q139 (Nat.le_of_lt q135)
      exact V.drop 4 (V.drop 3 (kont _ (by rw [hfe]; exact q139)))
    · have hjl : (x + 1) % n < n := Nat.mod_lt _ (by omega)
      have hll : (y + 1) % n < n := Nat.mod_lt _ (by omega)
      refine v_iload (dk cd_Mo_isSimple 84 rfl) rfl ?_
      refine v_iconst (v := nI 1) (dk cd_Mo_isSimple 85 rfl) (by decide) ?_
      refine v_iaddN (dk cd_Mo_isSimple 86 rfl) ?_
      refine v_aload_n (dk cd_Mo_isSimple 87 rfl) rfl ?_
      refine v_mgi (n := 3) (dk cd_Mo_isSimple 88 rfl) fg_Mo_148_Mo hM rfl hn ?_
      refine v_iremN (dk cd_Mo_isSimple 89 rfl) (by omega) (by omega) ?_
      refine v_istore (dk cd_Mo_isSimple 90 rfl) (by decide) rfl ?_
      refine v_iload (dk cd_Mo_isSimple 91 rfl) rfl ?_
      refine v_iload_n (dk cd_Mo_isSimple 92 rfl) rfl ?_
      refine v_icmp_eqN (tgt := 169) (dk cd_Mo_isSimple 93 rfl) rfl (by omega) (by omega) (fun q156 => ?_) (fun q156 => ?_)
      · refine v_iconst (v := 0) (dk cd_Mo_isSimple 99 rfl) (by decide) ?_
        refine v_istore (dk cd_Mo_isSimple 100 rfl) (by decide) rfl ?_
        refine v_iload (dk cd_Mo_isSimple 101 rfl) rfl ?_
        refine v_if_eq (tgt := 190) (dk cd_Mo_isSimple 102 rfl) rfl (fun _ => ?_) (fun q => absurd rfl q)
        refine v_iconst (v := 1) (dk cd_Mo_isSimple 110 rfl) (by decide) ?_
        refine v_goto (tgt := 195) (dk cd_Mo_isSimple 111 rfl) rfl ?_
        refine v_istore_n (dk cd_Mo_isSimple 113 rfl) (by decide) rfl ?_
        refine v_iincN (dk cd_Mo_isSimple 114 rfl) rfl (by decide) rfl ?_
        refine v_goto (tgt := 132) (dk cd_Mo_isSimple 115 rfl) rfl ?_
        have h9 := ih q135 (by omega)
        rw [show ((!mFold (f 11) (f 12) x ((x + 1) % n) (((x + 1) % n + 1) % n)) && al (y + 1) (mPair (f 11) (f 12) n x)) = true by rw [al_succ, ← Bool.and_assoc, q139]; simp [mPair, q156]] at h9
        exact V.drop 5 (V.drop 6 h9)
      · refine v_iload_n (dk cd_Mo_isSimple 94 rfl) rfl ?_
        refine v_iload (dk cd_Mo_isSimple 95 rfl) rfl ?_
        refine v_icmp_eqN (tgt := 169) (dk cd_Mo_isSimple 96 rfl) rfl (by omega) (by omega) (fun q162 => ?_) (fun q162 => ?_)
        · refine v_iconst (v := 0) (dk cd_Mo_isSimple 99 rfl) (by decide) ?_
          refine v_istore (dk cd_Mo_isSimple 100 rfl) (by decide) rfl ?_
          refine v_iload (dk cd_Mo_isSimple 101 rfl) rfl ?_
          refine v_if_eq (tgt := 190) (dk cd_Mo_isSimple 102 rfl) rfl (fun _ => ?_) (fun q => absurd rfl q)
          refine v_iconst (v := 1) (dk cd_Mo_isSimple 110 rfl) (by decide) ?_
          refine v_goto (tgt := 195) (dk cd_Mo_isSimple 111 rfl) rfl ?_
          refine v_istore_n (dk cd_Mo_isSimple 113 rfl) (by decide) rfl ?_
          refine v_iincN (dk cd_Mo_isSimple 114 rfl) rfl (by decide) rfl ?_
          refine v_goto (tgt := 132) (dk cd_Mo_isSimple 115 rfl) rfl ?_
          have h9 := ih q135 (by omega)
          rw [show ((!mFold (f 11) (f 12) x ((x + 1) % n) (((x + 1) % n + 1) % n)) && al (y + 1) (mPair (f 11) (f 12) n x)) = true by rw [al_succ, ← Bool.and_assoc, q139]; simp [mPair, q162]] at h9
          exact V.drop 5 (V.drop 6 h9)
        · refine v_iconst (v := 1) (dk cd_Mo_isSimple 97 rfl) (by decide) ?_
          refine v_goto (tgt := 170) (dk cd_Mo_isSimple 98 rfl) rfl ?_
          refine v_istore (dk cd_Mo_isSimple 100 rfl) (by decide) rfl ?_
          refine v_iload (dk cd_Mo_isSimple 101 rfl) rfl ?_
          refine v_if_eq (tgt := 190) (dk cd_Mo_isSimple 102 rfl) rfl (fun q => absurd q (by decide)) (fun _ => ?_)
          refine v_aload_n (dk cd_Mo_isSimple 103 rfl) rfl ?_
          refine v_iload_n (dk cd_Mo_isSimple 104 rfl) rfl ?_
          refine v_iload_n (dk cd_Mo_isSimple 105 rfl) rfl ?_
          refine v_iload (dk cd_Mo_isSimple 106 rfl) rfl ?_
          refine v_iload (dk cd_Mo_isSimple 107 rfl) rfl ?_
          refine v_rv (r := ("AreaWarningsModel", TT_Mo, 49)) (dk cd_Mo_isSimple 108 rfl) cv_Mo_166 rfl hM.2.2.1 (as := [_, _, _, _]) rfl rfl (Nat.le_of_ble_eq_true rfl) (by simp [Value.category]) (Mo_meet_ok hM (by omega) (by omega) (by omega) (by omega)) ?_
          refine v_ifneB (tgt := 194) (dk cd_Mo_isSimple 109 rfl) rfl (fun q187 => ?_) (fun q187 => ?_)
          · refine v_iconst (v := 0) (dk cd_Mo_isSimple 112 rfl) (by decide) ?_
            refine v_istore_n (dk cd_Mo_isSimple 113 rfl) (by decide) rfl ?_
            refine v_iincN (dk cd_Mo_isSimple 114 rfl) rfl (by decide) rfl ?_
            refine v_goto (tgt := 132) (dk cd_Mo_isSimple 115 rfl) rfl ?_
            have h9 := ih q135 (by omega)
            rw [show ((!mFold (f 11) (f 12) x ((x + 1) % n) (((x + 1) % n + 1) % n)) && al (y + 1) (mPair (f 11) (f 12) n x)) = false by rw [al_succ, ← Bool.and_assoc, q139]; simp [mPair, q156, q162, q187]] at h9
            exact V.drop 5 (V.drop 6 h9)
          · refine v_iconst (v := 1) (dk cd_Mo_isSimple 110 rfl) (by decide) ?_
            refine v_goto (tgt := 195) (dk cd_Mo_isSimple 111 rfl) rfl ?_
            refine v_istore_n (dk cd_Mo_isSimple 113 rfl) (by decide) rfl ?_
            refine v_iincN (dk cd_Mo_isSimple 114 rfl) rfl (by decide) rfl ?_
            refine v_goto (tgt := 132) (dk cd_Mo_isSimple 115 rfl) rfl ?_
            have h9 := ih q135 (by omega)
            rw [show ((!mFold (f 11) (f 12) x ((x + 1) % n) (((x + 1) % n + 1) % n)) && al (y + 1) (mPair (f 11) (f 12) n x)) = true by rw [al_succ, ← Bool.and_assoc, q139]; simp [mPair, q187]] at h9
            exact V.drop 5 (V.drop 6 h9)
set_option maxRecDepth 100000 in
set_option maxHeartbeats 4000000 in
theorem Mo_isSimple_2 {n : Nat} (hM : MH B a i f A) (hn : i 3 = nI n) (h8 : n ≤ 8) : ∀ x, x ≤ n → V (gg u) (d + 4) mm_Mo_isSimple 85 [some (.ref a), some (.int (b2i (mG (f 11) (f 12) n n && al x (mGood (f 11) (f 12) n)))), some (.int (nI x)), none, none, none, none] [] A (Rt (some (.int (b2i (mSimple (f 11) (f 12) n)))) A) := by
  refine up_ind n ?_
  intro x ih hx
  refine v_iload_n (dk cd_Mo_isSimple 49 rfl) rfl ?_
  refine v_aload_n (dk cd_Mo_isSimple 50 rfl) rfl ?_
  refine v_mgi (n := 3) (dk cd_Mo_isSimple 51 rfl) fg_Mo_148_Mo hM rfl hn ?_
  refine v_icmp_geN (tgt := 208) (dk cd_Mo_isSimple 52 rfl) rfl (by omega) (by omega) (fun q90 => ?_) (fun q90 => ?_)
  · have hxe : x = n := by omega
    subst hxe
    refine v_iload_n (dk cd_Mo_isSimple 118 rfl) rfl ?_
    exact v_zretB (dk cd_Mo_isSimple 119 rfl) rfl rt_ret
  · refine v_iload_n (dk cd_Mo_isSimple 53 rfl) rfl ?_
    refine v_ifeqB (tgt := 208) (dk cd_Mo_isSimple 54 rfl) rfl (fun q94 => ?_) (fun q94 => ?_)
    · have hfe : mSimple (f 11) (f 12) n = false := and_al_false q94 (Nat.le_of_lt q90)
      refine v_iload_n (dk cd_Mo_isSimple 118 rfl) rfl ?_
      exact v_zretB (dk cd_Mo_isSimple 119 rfl) rfl (rt_of (by rw [q94, hfe]))
    · have hjl : (x + 1) % n < n := Nat.mod_lt _ (by omega)
      have hll : ((x + 1) % n + 1) % n < n := Nat.mod_lt _ (by omega)
      refine v_iload_n (dk cd_Mo_isSimple 55 rfl) rfl ?_
      refine v_iconst (v := nI 1) (dk cd_Mo_isSimple 56 rfl) (by decide) ?_
      refine v_iaddN (dk cd_Mo_isSimple 57 rfl) ?_
      refine v_aload_n (dk cd_Mo_isSimple 58 rfl) rfl ?_
      refine v_mgi (n := 3) (dk cd_Mo_isSimple 59 rfl) fg_Mo_148_Mo hM rfl hn ?_
      refine v_iremN (dk cd_Mo_isSimple 60 rfl) (by omega) (by omega) ?_
      refine v_istore_n (dk cd_Mo_isSimple 61 rfl) (by decide) rfl ?_
      refine v_aload_n (dk cd_Mo_isSimple 62 rfl) rfl ?_
      refine v_iload_n (dk cd_Mo_isSimple 63 rfl) rfl ?_
      refine v_iload_n (dk cd_Mo_isSimple 64 rfl) rfl ?_
      refine v_iload_n (dk cd_Mo_isSimple 65 rfl) rfl ?_
      refine v_iconst (v := nI 1) (dk cd_Mo_isSimple 66 rfl) (by decide) ?_
      refine v_iaddN (dk cd_Mo_isSimple 67 rfl) ?_
      refine v_aload_n (dk cd_Mo_isSimple 68 rfl) rfl ?_
      refine v_mgi (n := 3) (dk cd_Mo_isSimple 69 rfl) fg_Mo_148_Mo hM rfl hn ?_
      refine v_iremN (dk cd_Mo_isSimple 70 rfl) (by omega) (by omega) ?_
      refine v_rv (r := ("AreaWarningsModel", TT_Mo, 49)) (dk cd_Mo_isSimple 71 rfl) cv_Mo_163 rfl hM.2.2.1 (as := [_, _, _]) rfl rfl (Nat.le_of_ble_eq_true rfl) (by simp [Value.category]) (Mo_fold_ok hM (by omega) (by omega) (by omega)) ?_
      refine v_mat_not (dk cd_Mo_isSimple 72 rfl) (dk cd_Mo_isSimple 73 rfl) (dk cd_Mo_isSimple 74 rfl) (dk cd_Mo_isSimple 75 rfl) rfl rfl ?_
      refine v_istore_n (dk cd_Mo_isSimple 76 rfl) (by decide) rfl ?_
      refine v_iconst (v := nI 0) (dk cd_Mo_isSimple 77 rfl) (by decide) ?_
      refine v_istore (dk cd_Mo_isSimple 78 rfl) (by decide) rfl ?_
      have h9 := Mo_isSimple_k (u := u) (d := d) hM hn h8 q90 (fun c hc => ?_) 0 (by omega) (Φ := (Rt (some (.int (b2i (mSimple (f 11) (f 12) n)))) A))
      · rw [al_zero, Bool.and_true] at h9
        exact h9
      · refine v_iincN (dk cd_Mo_isSimple 116 rfl) rfl (by decide) rfl ?_
        refine v_goto (tgt := 85) (dk cd_Mo_isSimple 117 rfl) rfl ?_
        have h8 := ih q90 (by omega)
        rw [al_succ, ← Bool.and_assoc, q94, Bool.true_and, ← hc] at h8
        exact h8
set_option maxRecDepth 100000 in
set_option maxHeartbeats 4000000 in
theorem Mo_isSimple_1 {n x : Nat} {Φ : Out → AH → Prop} (hM : MH B a i f A) (hn : i 3 = nI n) (h8 : n ≤ 8) (hx : x < n) (kont : ∀ c, c = (mG (f 11) (f 12) n x && al x (mDst (f 11) (f 12) x)) → V (gg u) (d + 4) mm_Mo_isSimple 77 [some (.ref a), some (.int (b2i c)), some (.int (nI x)), none, none, none, none] [] A Φ) : ∀ y, y ≤ x → V (gg u) (d + 4) mm_Mo_isSimple 26 [some (.ref a), some (.int (b2i (mG (f 11) (f 12) n x && al y (mDst (f 11) (f 12) x)))), some (.int (nI x)), some (.int (nI y)), none, none, none] [] A Φ := by
  refine up_ind x ?_
  intro y ih hy
  refine v_iload_n (dk cd_Mo_isSimple 16 rfl) rfl ?_
  refine v_iload_n (dk cd_Mo_isSimple 17 rfl) rfl ?_
  refine v_icmp_geN (tgt := 77) (dk cd_Mo_isSimple 18 rfl) rfl (by omega) (by omega) (fun q28 => ?_) (fun q28 => ?_)
  · have hye : y = x := by omega
    subst hye
    exact V.drop 3 (kont _ rfl)
  · refine v_iload_n (dk cd_Mo_isSimple 19 rfl) rfl ?_
    refine v_ifeqB (tgt := 69) (dk cd_Mo_isSimple 20 rfl) rfl (fun q32 => ?_) (fun q32 => ?_)
    · refine v_iconst (v := 0) (dk cd_Mo_isSimple 41 rfl) (by decide) ?_
      refine v_istore_n (dk cd_Mo_isSimple 42 rfl) (by decide) rfl ?_
      refine v_iincN (dk cd_Mo_isSimple 43 rfl) rfl (by decide) rfl ?_
      refine v_goto (tgt := 26) (dk cd_Mo_isSimple 44 rfl) rfl ?_
      have h9 := ih q28 (by omega)
      rw [show (mG (f 11) (f 12) n x && al (y + 1) (mDst (f 11) (f 12) x)) = false by rw [al_succ, ← Bool.and_assoc, q32]; rfl] at h9
      exact h9
    · refine v_aload_n (dk cd_Mo_isSimple 21 rfl) rfl ?_
      refine v_getf (dk cd_Mo_isSimple 22 rfl) fg_Mo_44_Mo hM.2.2.1 (by rfl) ?_
      refine v_iload_n (dk cd_Mo_isSimple 23 rfl) rfl ?_
      refine v_mld (j := 11) (dk cd_Mo_isSimple 24 rfl) hM (by decide) (by decide) (show _ < 8 by omega) (by decide) ?_
      refine v_aload_n (dk cd_Mo_isSimple 25 rfl) rfl ?_
      refine v_getf (dk cd_Mo_isSimple 26 rfl) fg_Mo_44_Mo hM.2.2.1 (by rfl) ?_
      refine v_iload_n (dk cd_Mo_isSimple 27 rfl) rfl ?_
      refine v_mld (j := 11) (dk cd_Mo_isSimple 28 rfl) hM (by decide) (by decide) (show _ < 8 by omega) (by decide) ?_
      refine v_icmp_ne (tgt := 65) (dk cd_Mo_isSimple 29 rfl) rfl (fun q47 => ?_) (fun q47 => ?_)
      · refine v_iconst (v := 1) (dk cd_Mo_isSimple 39 rfl) (by decide) ?_
        refine v_goto (tgt := 70) (dk cd_Mo_isSimple 40 rfl) rfl ?_
        refine v_istore_n (dk cd_Mo_isSimple 42 rfl) (by decide) rfl ?_
        refine v_iincN (dk cd_Mo_isSimple 43 rfl) rfl (by decide) rfl ?_
        refine v_goto (tgt := 26) (dk cd_Mo_isSimple 44 rfl) rfl ?_
        have h9 := ih q28 (by omega)
        rw [show (mG (f 11) (f 12) n x && al (y + 1) (mDst (f 11) (f 12) x)) = true by rw [al_succ, ← Bool.and_assoc, q32]; simp [mDst, q47]] at h9
        exact h9
      · refine v_aload_n (dk cd_Mo_isSimple 30 rfl) rfl ?_
        refine v_getf (dk cd_Mo_isSimple 31 rfl) fg_Mo_47_Mo hM.2.2.1 (by rfl) ?_
        refine v_iload_n (dk cd_Mo_isSimple 32 rfl) rfl ?_
        refine v_mld (j := 12) (dk cd_Mo_isSimple 33 rfl) hM (by decide) (by decide) (show _ < 8 by omega) (by decide) ?_
        refine v_aload_n (dk cd_Mo_isSimple 34 rfl) rfl ?_
        refine v_getf (dk cd_Mo_isSimple 35 rfl) fg_Mo_47_Mo hM.2.2.1 (by rfl) ?_
        refine v_iload_n (dk cd_Mo_isSimple 36 rfl) rfl ?_
        refine v_mld (j := 12) (dk cd_Mo_isSimple 37 rfl) hM (by decide) (by decide) (show _ < 8 by omega) (by decide) ?_
        refine v_icmp_eq (tgt := 69) (dk cd_Mo_isSimple 38 rfl) rfl (fun q62 => ?_) (fun q62 => ?_)
        · refine v_iconst (v := 0) (dk cd_Mo_isSimple 41 rfl) (by decide) ?_
          refine v_istore_n (dk cd_Mo_isSimple 42 rfl) (by decide) rfl ?_
          refine v_iincN (dk cd_Mo_isSimple 43 rfl) rfl (by decide) rfl ?_
          refine v_goto (tgt := 26) (dk cd_Mo_isSimple 44 rfl) rfl ?_
          have h9 := ih q28 (by omega)
          rw [show (mG (f 11) (f 12) n x && al (y + 1) (mDst (f 11) (f 12) x)) = false by rw [al_succ, ← Bool.and_assoc, q32]; simp [mDst, q47, q62]] at h9
          exact h9
        · refine v_iconst (v := 1) (dk cd_Mo_isSimple 39 rfl) (by decide) ?_
          refine v_goto (tgt := 70) (dk cd_Mo_isSimple 40 rfl) rfl ?_
          refine v_istore_n (dk cd_Mo_isSimple 42 rfl) (by decide) rfl ?_
          refine v_iincN (dk cd_Mo_isSimple 43 rfl) rfl (by decide) rfl ?_
          refine v_goto (tgt := 26) (dk cd_Mo_isSimple 44 rfl) rfl ?_
          have h9 := ih q28 (by omega)
          rw [show (mG (f 11) (f 12) n x && al (y + 1) (mDst (f 11) (f 12) x)) = true by rw [al_succ, ← Bool.and_assoc, q32]; simp [mDst, q62]] at h9
          exact h9
set_option maxRecDepth 100000 in
set_option maxHeartbeats 4000000 in
theorem Mo_isSimple_0 {n : Nat} (hM : MH B a i f A) (hn : i 3 = nI n) (h8 : n ≤ 8) : ∀ x, x ≤ n → V (gg u) (d + 4) mm_Mo_isSimple 16 [some (.ref a), some (.int (b2i (mG (f 11) (f 12) n x))), some (.int (nI x)), none, none, none, none] [] A (Rt (some (.int (b2i (mSimple (f 11) (f 12) n)))) A) := by
  refine up_ind n ?_
  intro x ih hx
  refine v_iload_n (dk cd_Mo_isSimple 10 rfl) rfl ?_
  refine v_aload_n (dk cd_Mo_isSimple 11 rfl) rfl ?_
  refine v_mgi (n := 3) (dk cd_Mo_isSimple 12 rfl) fg_Mo_148_Mo hM rfl hn ?_
  refine v_icmp_geN (tgt := 83) (dk cd_Mo_isSimple 13 rfl) rfl (by omega) (by omega) (fun q21 => ?_) (fun q21 => ?_)
  · refine v_iconst (v := nI 0) (dk cd_Mo_isSimple 47 rfl) (by decide) ?_
    refine v_istore_n (dk cd_Mo_isSimple 48 rfl) (by decide) rfl ?_
    have hxe : x = n := by omega
    subst hxe
    have h9 := Mo_isSimple_2 (u := u) (d := d) hM hn h8 0 (by omega)
    rw [al_zero, Bool.and_true] at h9
    exact h9
  · refine v_iconst (v := nI 0) (dk cd_Mo_isSimple 14 rfl) (by decide) ?_
    refine v_istore_n (dk cd_Mo_isSimple 15 rfl) (by decide) rfl ?_
    have h9 := Mo_isSimple_1 (u := u) (d := d) hM hn h8 q21 (fun c hc => ?_) 0 (by omega) (Φ := (Rt (some (.int (b2i (mSimple (f 11) (f 12) n)))) A))
    · rw [al_zero, Bool.and_true] at h9
      exact h9
    · refine v_iincN (dk cd_Mo_isSimple 45 rfl) rfl (by decide) rfl ?_
      refine v_goto (tgt := 16) (dk cd_Mo_isSimple 46 rfl) rfl ?_
      have h8 := ih q21 (by omega)
      rw [show mG (f 11) (f 12) n (x + 1) = c by rw [hc]; unfold mG; rw [al_succ, Bool.and_assoc]] at h8
      exact h8
set_option maxRecDepth 100000 in
set_option maxHeartbeats 4000000 in
theorem Mo_isSimple_ok {n : Nat} (hM : MH B a i f A) (hn : i 3 = nI n) (h8 : n ≤ 8) : V (gg u) (d + 4) mm_Mo_isSimple 0 [some (.ref a), none, none, none, none, none, none] [] A (Rt (some (.int (b2i (mSimple (f 11) (f 12) n)))) A) := by
  refine v_aload_n (dk cd_Mo_isSimple 0 rfl) rfl ?_
  refine v_mgi (n := 3) (dk cd_Mo_isSimple 1 rfl) fg_Mo_148_Mo hM rfl hn ?_
  refine v_iconst (v := nI 3) (dk cd_Mo_isSimple 2 rfl) (by decide) ?_
  refine v_icmp_ltN (tgt := 12) (dk cd_Mo_isSimple 3 rfl) rfl (by omega) (by omega) (fun q5 => ?_) (fun q5 => ?_)
  · refine v_iconst (v := 0) (dk cd_Mo_isSimple 6 rfl) (by decide) ?_
    refine v_istore_n (dk cd_Mo_isSimple 7 rfl) (by decide) rfl ?_
    refine v_iconst (v := nI 0) (dk cd_Mo_isSimple 8 rfl) (by decide) ?_
    refine v_istore_n (dk cd_Mo_isSimple 9 rfl) (by decide) rfl ?_
    have h9 := Mo_isSimple_0 (u := u) (d := d) hM hn h8 0 (by omega)
    rw [show mG (f 11) (f 12) n 0 = false by unfold mG; rw [al_zero, show decide (3 ≤ n) = false from decide_eq_false (by omega)]; rfl] at h9
    exact h9
  · refine v_iconst (v := 1) (dk cd_Mo_isSimple 4 rfl) (by decide) ?_
    refine v_goto (tgt := 13) (dk cd_Mo_isSimple 5 rfl) rfl ?_
    refine v_istore_n (dk cd_Mo_isSimple 7 rfl) (by decide) rfl ?_
    refine v_iconst (v := nI 0) (dk cd_Mo_isSimple 8 rfl) (by decide) ?_
    refine v_istore_n (dk cd_Mo_isSimple 9 rfl) (by decide) rfl ?_
    have h9 := Mo_isSimple_0 (u := u) (d := d) hM hn h8 0 (by omega)
    rw [show mG (f 11) (f 12) n 0 = true by unfold mG; rw [al_zero, show decide (3 ≤ n) = true from decide_eq_true (by omega)]; rfl] at h9
    exact h9
end MS
