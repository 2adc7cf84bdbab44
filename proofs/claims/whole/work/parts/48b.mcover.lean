/-! the model: what a version covers -/
section MC
variable {u : Ux} {d : Nat} {A B : AH} {a : Nat} {i : Nat → Int32} {f : Nat → Nat → Int32}
set_option maxRecDepth 100000 in
set_option maxHeartbeats 4000000 in
theorem Mo_square_ok {x : Int64} : V (gg u) d mm_Mo_square 0 [some (.long x), none] [] A (Rt (some (.long (x * x))) A) := by
  refine v_lload_n (dk cd_Mo_square 0 rfl) rfl ?_
  refine v_lload_n (dk cd_Mo_square 1 rfl) rfl ?_
  refine v_lmul (dk cd_Mo_square 2 rfl) ?_
  exact v_lret (dk cd_Mo_square 3 rfl) rfl rt_ret
set_option maxRecDepth 100000 in
set_option maxHeartbeats 4000000 in
theorem Mo_isNear_ok {v c n k : Nat} (hM : MH B a i f A) (hv : v < 40) (hc : c < 8) (hn : f 24 v = nI n) (h8 : n ≤ 8) (hk : k < n) : V (gg u) (d + 1) mm_Mo_isNear 0 [some (.ref a), some (.int (nI v)), some (.int (nI k)), some (.int (nI c)), none, none, none, none, none, none, none, none, none, none, none, none, none, none, none, none] [] A (Rt (some (.int (b2i (mNear f v c n k)))) A) := by
  have hm : (k + 1) % n < n := Nat.mod_lt _ (by omega)
  refine v_bipush (v := nI 8) (dk cd_Mo_isNear 0 rfl) (by decide) ?_
  refine v_iload_n (dk cd_Mo_isNear 1 rfl) rfl ?_
  refine v_imulN (dk cd_Mo_isNear 2 rfl) ?_
  refine v_iload_n (dk cd_Mo_isNear 3 rfl) rfl ?_
  refine v_iaddN (dk cd_Mo_isNear 4 rfl) ?_
  refine v_istore (dk cd_Mo_isNear 5 rfl) (by decide) rfl ?_
  refine v_bipush (v := nI 8) (dk cd_Mo_isNear 6 rfl) (by decide) ?_
  refine v_iload_n (dk cd_Mo_isNear 7 rfl) rfl ?_
  refine v_imulN (dk cd_Mo_isNear 8 rfl) ?_
  refine v_iload_n (dk cd_Mo_isNear 9 rfl) rfl ?_
  refine v_iconst (v := nI 1) (dk cd_Mo_isNear 10 rfl) (by decide) ?_
  refine v_iaddN (dk cd_Mo_isNear 11 rfl) ?_
  refine v_aload_n (dk cd_Mo_isNear 12 rfl) rfl ?_
  refine v_getf (dk cd_Mo_isNear 13 rfl) fg_Mo_83_Mo hM.2.2.1 (by rfl) ?_
  refine v_iload_n (dk cd_Mo_isNear 14 rfl) rfl ?_
  refine v_mldE (j := 24) (dk cd_Mo_isNear 15 rfl) hM (by decide) (by decide) (show _ < 40 by omega) (by decide) hn ?_
  refine v_iremN (dk cd_Mo_isNear 16 rfl) (by omega) (by omega) ?_
  refine v_iaddN (dk cd_Mo_isNear 17 rfl) ?_
  refine v_istore (dk cd_Mo_isNear 18 rfl) (by decide) rfl ?_
  refine v_aload_n (dk cd_Mo_isNear 19 rfl) rfl ?_
  refine v_getf (dk cd_Mo_isNear 20 rfl) fg_Mo_86_Mo hM.2.2.1 (by rfl) ?_
  refine v_iload (dk cd_Mo_isNear 21 rfl) rfl ?_
  refine v_mld (j := 25) (dk cd_Mo_isNear 22 rfl) hM (by decide) (by decide) (show _ < 320 by omega) (by decide) ?_
  refine v_aload_n (dk cd_Mo_isNear 23 rfl) rfl ?_
  refine v_getf (dk cd_Mo_isNear 24 rfl) fg_Mo_86_Mo hM.2.2.1 (by rfl) ?_
  refine v_iload (dk cd_Mo_isNear 25 rfl) rfl ?_
  refine v_mld (j := 25) (dk cd_Mo_isNear 26 rfl) hM (by decide) (by decide) (show _ < 320 by omega) (by decide) ?_
  refine v_isub (dk cd_Mo_isNear 27 rfl) ?_
  refine v_i2l (dk cd_Mo_isNear 28 rfl) ?_
  generalize e6 : (f 25 (8 * v + (k + 1) % n) - f 25 (8 * v + k)).toInt64 = g6
  refine v_lstore (dk cd_Mo_isNear 29 rfl) (by decide) rfl ?_
  simp only [List.set_cons_succ, List.set_cons_zero]
  refine v_aload_n (dk cd_Mo_isNear 30 rfl) rfl ?_
  refine v_getf (dk cd_Mo_isNear 31 rfl) fg_Mo_89_Mo hM.2.2.1 (by rfl) ?_
  refine v_iload (dk cd_Mo_isNear 32 rfl) rfl ?_
  refine v_mld (j := 26) (dk cd_Mo_isNear 33 rfl) hM (by decide) (by decide) (show _ < 320 by omega) (by decide) ?_
  refine v_aload_n (dk cd_Mo_isNear 34 rfl) rfl ?_
  refine v_getf (dk cd_Mo_isNear 35 rfl) fg_Mo_89_Mo hM.2.2.1 (by rfl) ?_
  refine v_iload (dk cd_Mo_isNear 36 rfl) rfl ?_
  refine v_mld (j := 26) (dk cd_Mo_isNear 37 rfl) hM (by decide) (by decide) (show _ < 320 by omega) (by decide) ?_
  refine v_isub (dk cd_Mo_isNear 38 rfl) ?_
  refine v_i2l (dk cd_Mo_isNear 39 rfl) ?_
  generalize e8 : (f 26 (8 * v + (k + 1) % n) - f 26 (8 * v + k)).toInt64 = g8
  refine v_lstore (dk cd_Mo_isNear 40 rfl) (by decide) rfl ?_
  simp only [List.set_cons_succ, List.set_cons_zero]
  refine v_aload_n (dk cd_Mo_isNear 41 rfl) rfl ?_
  refine v_getf (dk cd_Mo_isNear 42 rfl) fg_Mo_7_Mo hM.2.2.1 (by rfl) ?_
  refine v_iload_n (dk cd_Mo_isNear 43 rfl) rfl ?_
  refine v_mld (j := 0) (dk cd_Mo_isNear 44 rfl) hM (by decide) (by decide) (show _ < 8 by omega) (by decide) ?_
  refine v_aload_n (dk cd_Mo_isNear 45 rfl) rfl ?_
  refine v_getf (dk cd_Mo_isNear 46 rfl) fg_Mo_86_Mo hM.2.2.1 (by rfl) ?_
  refine v_iload (dk cd_Mo_isNear 47 rfl) rfl ?_
  refine v_mld (j := 25) (dk cd_Mo_isNear 48 rfl) hM (by decide) (by decide) (show _ < 320 by omega) (by decide) ?_
  refine v_isub (dk cd_Mo_isNear 49 rfl) ?_
  refine v_i2l (dk cd_Mo_isNear 50 rfl) ?_
  generalize e10 : (f 0 c - f 25 (8 * v + k)).toInt64 = g10
  refine v_lstore (dk cd_Mo_isNear 51 rfl) (by decide) rfl ?_
  simp only [List.set_cons_succ, List.set_cons_zero]
  refine v_aload_n (dk cd_Mo_isNear 52 rfl) rfl ?_
  refine v_getf (dk cd_Mo_isNear 53 rfl) fg_Mo_13_Mo hM.2.2.1 (by rfl) ?_
  refine v_iload_n (dk cd_Mo_isNear 54 rfl) rfl ?_
  refine v_mld (j := 1) (dk cd_Mo_isNear 55 rfl) hM (by decide) (by decide) (show _ < 8 by omega) (by decide) ?_
  refine v_aload_n (dk cd_Mo_isNear 56 rfl) rfl ?_
  refine v_getf (dk cd_Mo_isNear 57 rfl) fg_Mo_89_Mo hM.2.2.1 (by rfl) ?_
  refine v_iload (dk cd_Mo_isNear 58 rfl) rfl ?_
  refine v_mld (j := 26) (dk cd_Mo_isNear 59 rfl) hM (by decide) (by decide) (show _ < 320 by omega) (by decide) ?_
  refine v_isub (dk cd_Mo_isNear 60 rfl) ?_
  refine v_i2l (dk cd_Mo_isNear 61 rfl) ?_
  generalize e12 : (f 1 c - f 26 (8 * v + k)).toInt64 = g12
  refine v_lstore (dk cd_Mo_isNear 62 rfl) (by decide) rfl ?_
  simp only [List.set_cons_succ, List.set_cons_zero]
  refine v_lload (dk cd_Mo_isNear 63 rfl) rfl ?_
  refine v_lload (dk cd_Mo_isNear 64 rfl) rfl ?_
  refine v_lmul (dk cd_Mo_isNear 65 rfl) ?_
  refine v_lload (dk cd_Mo_isNear 66 rfl) rfl ?_
  refine v_lload (dk cd_Mo_isNear 67 rfl) rfl ?_
  refine v_lmul (dk cd_Mo_isNear 68 rfl) ?_
  refine v_ladd (dk cd_Mo_isNear 69 rfl) ?_
  generalize e14 : g6 * g6 + g8 * g8 = g14
  refine v_lstore (dk cd_Mo_isNear 70 rfl) (by decide) rfl ?_
  simp only [List.set_cons_succ, List.set_cons_zero]
  refine v_lload (dk cd_Mo_isNear 71 rfl) rfl ?_
  refine v_lload (dk cd_Mo_isNear 72 rfl) rfl ?_
  refine v_lmul (dk cd_Mo_isNear 73 rfl) ?_
  refine v_lload (dk cd_Mo_isNear 74 rfl) rfl ?_
  refine v_lload (dk cd_Mo_isNear 75 rfl) rfl ?_
  refine v_lmul (dk cd_Mo_isNear 76 rfl) ?_
  refine v_ladd (dk cd_Mo_isNear 77 rfl) ?_
  generalize e16 : g10 * g6 + g12 * g8 = g16
  refine v_lstore (dk cd_Mo_isNear 78 rfl) (by decide) rfl ?_
  simp only [List.set_cons_succ, List.set_cons_zero]
  refine v_aload_n (dk cd_Mo_isNear 79 rfl) rfl ?_
  refine v_getf (dk cd_Mo_isNear 80 rfl) fg_Mo_16_Mo hM.2.2.1 (by rfl) ?_
  refine v_iload_n (dk cd_Mo_isNear 81 rfl) rfl ?_
  refine v_mld (j := 2) (dk cd_Mo_isNear 82 rfl) hM (by decide) (by decide) (show _ < 8 by omega) (by decide) ?_
  refine v_i2l (dk cd_Mo_isNear 83 rfl) ?_
  refine v_rs (dk cd_Mo_isNear 84 rfl) cs_Mo_170 (as := [_]) rfl rfl (Nat.le_of_ble_eq_true rfl) (by simp [Value.category]) Mo_square_ok ?_
  generalize e18 : (f 2 c).toInt64 * (f 2 c).toInt64 = g18
  refine v_lstore (dk cd_Mo_isNear 85 rfl) (by decide) rfl ?_
  simp only [List.set_cons_succ, List.set_cons_zero]
  refine v_lload (dk cd_Mo_isNear 86 rfl) rfl ?_
  refine v_lconst (v := 0) (dk cd_Mo_isNear 87 rfl) (by decide) ?_
  refine v_lcmp_gt (tgt := 163) (dk cd_Mo_isNear 88 rfl) (dk cd_Mo_isNear 89 rfl) rfl (fun q137 => ?_) (fun q137 => ?_)
  · refine v_lload (dk cd_Mo_isNear 104 rfl) rfl ?_
    refine v_lload (dk cd_Mo_isNear 105 rfl) rfl ?_
    refine v_lcmp_lt (tgt := 200) (dk cd_Mo_isNear 106 rfl) (dk cd_Mo_isNear 107 rfl) rfl (fun q168 => ?_) (fun q168 => ?_)
    · refine v_lload (dk cd_Mo_isNear 124 rfl) rfl ?_
      refine v_lload (dk cd_Mo_isNear 125 rfl) rfl ?_
      refine v_lmul (dk cd_Mo_isNear 126 rfl) ?_
      refine v_lload (dk cd_Mo_isNear 127 rfl) rfl ?_
      refine v_lload (dk cd_Mo_isNear 128 rfl) rfl ?_
      refine v_lmul (dk cd_Mo_isNear 129 rfl) ?_
      refine v_lsub (dk cd_Mo_isNear 130 rfl) ?_
      refine v_rs (dk cd_Mo_isNear 131 rfl) cs_Mo_170 (as := [_]) rfl rfl (Nat.le_of_ble_eq_true rfl) (by simp [Value.category]) Mo_square_ok ?_
      refine v_lload (dk cd_Mo_isNear 132 rfl) rfl ?_
      refine v_lload (dk cd_Mo_isNear 133 rfl) rfl ?_
      refine v_lmul (dk cd_Mo_isNear 134 rfl) ?_
      refine v_mat_lgt (dk cd_Mo_isNear 135 rfl) (dk cd_Mo_isNear 136 rfl) (dk cd_Mo_isNear 137 rfl) (dk cd_Mo_isNear 138 rfl) (dk cd_Mo_isNear 139 rfl) rfl rfl ?_
      exact v_zretB (dk cd_Mo_isNear 140 rfl) rfl (rt_of (by subst e18 e16 e14 e12 e10 e8 e6; simp only [mNear]; simp only [q137, q168, if_true, if_false]))
    · refine v_lload (dk cd_Mo_isNear 108 rfl) rfl ?_
      refine v_lload (dk cd_Mo_isNear 109 rfl) rfl ?_
      refine v_lsub (dk cd_Mo_isNear 110 rfl) ?_
      refine v_rs (dk cd_Mo_isNear 111 rfl) cs_Mo_170 (as := [_]) rfl rfl (Nat.le_of_ble_eq_true rfl) (by simp [Value.category]) Mo_square_ok ?_
      refine v_lload (dk cd_Mo_isNear 112 rfl) rfl ?_
      refine v_lload (dk cd_Mo_isNear 113 rfl) rfl ?_
      refine v_lsub (dk cd_Mo_isNear 114 rfl) ?_
      refine v_rs (dk cd_Mo_isNear 115 rfl) cs_Mo_170 (as := [_]) rfl rfl (Nat.le_of_ble_eq_true rfl) (by simp [Value.category]) Mo_square_ok ?_
      refine v_ladd (dk cd_Mo_isNear 116 rfl) ?_
      refine v_lload (dk cd_Mo_isNear 117 rfl) rfl ?_
      refine v_mat_lgt (dk cd_Mo_isNear 118 rfl) (dk cd_Mo_isNear 119 rfl) (dk cd_Mo_isNear 120 rfl) (dk cd_Mo_isNear 121 rfl) (dk cd_Mo_isNear 122 rfl) rfl rfl ?_
      exact v_zretB (dk cd_Mo_isNear 123 rfl) rfl (rt_of (by subst e18 e16 e14 e12 e10 e8 e6; simp only [mNear]; simp only [q137, q168, if_true, if_false]))
  · refine v_lload (dk cd_Mo_isNear 90 rfl) rfl ?_
    refine v_lload (dk cd_Mo_isNear 91 rfl) rfl ?_
    refine v_lmul (dk cd_Mo_isNear 92 rfl) ?_
    refine v_lload (dk cd_Mo_isNear 93 rfl) rfl ?_
    refine v_lload (dk cd_Mo_isNear 94 rfl) rfl ?_
    refine v_lmul (dk cd_Mo_isNear 95 rfl) ?_
    refine v_ladd (dk cd_Mo_isNear 96 rfl) ?_
    refine v_lload (dk cd_Mo_isNear 97 rfl) rfl ?_
    refine v_mat_lgt (dk cd_Mo_isNear 98 rfl) (dk cd_Mo_isNear 99 rfl) (dk cd_Mo_isNear 100 rfl) (dk cd_Mo_isNear 101 rfl) (dk cd_Mo_isNear 102 rfl) rfl rfl ?_
    exact v_zretB (dk cd_Mo_isNear 103 rfl) rfl (rt_of (by subst e18 e16 e14 e12 e10 e8 e6; simp only [mNear]; simp only [q137, if_true, if_false]))
set_option maxRecDepth 100000 in
set_option maxHeartbeats 4000000 in
theorem Mo_isIn_121 {v c n k : Nat} {b p q : Bool} {Φ : Out → AH → Prop} (hM : MH B a i f A) (hv : v < 40) (hc : c < 8) (hn : f 24 v = nI n) (h8 : n ≤ 8) (hk : k < n) (kont : ∀ b', b' = (if (p && decide (0 < mSd f v c n k)) || (q && !decide (0 ≤ mSd f v c n k)) then !b else b) → V (gg u) d mm_Mo_isIn 5 [some (.ref a), some (.int (nI v)), some (.int (nI c)), some (.int (b2i b')), some (.int (nI (k + 1))), none, none, none, none, none] [] A Φ) : V (gg u) d mm_Mo_isIn 121 [some (.ref a), some (.int (nI v)), some (.int (nI c)), some (.int (b2i b)), some (.int (nI k)), some (.int (nI (8 * v + k))), some (.int (nI (8 * v + (k + 1) % n))), some (.int (b2i p)), some (.int (b2i q)), none] [] A Φ := by
  have hm : (k + 1) % n < n := Nat.mod_lt _ (by omega)
  refine v_aload_n (dk cd_Mo_isIn 73 rfl) rfl ?_
  refine v_getf (dk cd_Mo_isIn 74 rfl) fg_Mo_86_Mo hM.2.2.1 (by rfl) ?_
  refine v_iload (dk cd_Mo_isIn 75 rfl) rfl ?_
  refine v_mld (j := 25) (dk cd_Mo_isIn 76 rfl) hM (by decide) (by decide) (show _ < 320 by omega) (by decide) ?_
  refine v_aload_n (dk cd_Mo_isIn 77 rfl) rfl ?_
  refine v_getf (dk cd_Mo_isIn 78 rfl) fg_Mo_86_Mo hM.2.2.1 (by rfl) ?_
  refine v_iload (dk cd_Mo_isIn 79 rfl) rfl ?_
  refine v_mld (j := 25) (dk cd_Mo_isIn 80 rfl) hM (by decide) (by decide) (show _ < 320 by omega) (by decide) ?_
  refine v_isub (dk cd_Mo_isIn 81 rfl) ?_
  refine v_aload_n (dk cd_Mo_isIn 82 rfl) rfl ?_
  refine v_getf (dk cd_Mo_isIn 83 rfl) fg_Mo_13_Mo hM.2.2.1 (by rfl) ?_
  refine v_iload_n (dk cd_Mo_isIn 84 rfl) rfl ?_
  refine v_mld (j := 1) (dk cd_Mo_isIn 85 rfl) hM (by decide) (by decide) (show _ < 8 by omega) (by decide) ?_
  refine v_aload_n (dk cd_Mo_isIn 86 rfl) rfl ?_
  refine v_getf (dk cd_Mo_isIn 87 rfl) fg_Mo_89_Mo hM.2.2.1 (by rfl) ?_
  refine v_iload (dk cd_Mo_isIn 88 rfl) rfl ?_
  refine v_mld (j := 26) (dk cd_Mo_isIn 89 rfl) hM (by decide) (by decide) (show _ < 320 by omega) (by decide) ?_
  refine v_isub (dk cd_Mo_isIn 90 rfl) ?_
  refine v_imul (dk cd_Mo_isIn 91 rfl) ?_
  refine v_aload_n (dk cd_Mo_isIn 92 rfl) rfl ?_
  refine v_getf (dk cd_Mo_isIn 93 rfl) fg_Mo_89_Mo hM.2.2.1 (by rfl) ?_
  refine v_iload (dk cd_Mo_isIn 94 rfl) rfl ?_
  refine v_mld (j := 26) (dk cd_Mo_isIn 95 rfl) hM (by decide) (by decide) (show _ < 320 by omega) (by decide) ?_
  refine v_aload_n (dk cd_Mo_isIn 96 rfl) rfl ?_
  refine v_getf (dk cd_Mo_isIn 97 rfl) fg_Mo_89_Mo hM.2.2.1 (by rfl) ?_
  refine v_iload (dk cd_Mo_isIn 98 rfl) rfl ?_
  refine v_mld (j := 26) (dk cd_Mo_isIn 99 rfl) hM (by decide) (by decide) (show _ < 320 by omega) (by decide) ?_
  refine v_isub (dk cd_Mo_isIn 100 rfl) ?_
  refine v_aload_n (dk cd_Mo_isIn 101 rfl) rfl ?_
  refine v_getf (dk cd_Mo_isIn 102 rfl) fg_Mo_7_Mo hM.2.2.1 (by rfl) ?_
  refine v_iload_n (dk cd_Mo_isIn 103 rfl) rfl ?_
  refine v_mld (j := 0) (dk cd_Mo_isIn 104 rfl) hM (by decide) (by decide) (show _ < 8 by omega) (by decide) ?_
  refine v_aload_n (dk cd_Mo_isIn 105 rfl) rfl ?_
  refine v_getf (dk cd_Mo_isIn 106 rfl) fg_Mo_86_Mo hM.2.2.1 (by rfl) ?_
  refine v_iload (dk cd_Mo_isIn 107 rfl) rfl ?_
  refine v_mld (j := 25) (dk cd_Mo_isIn 108 rfl) hM (by decide) (by decide) (show _ < 320 by omega) (by decide) ?_
  refine v_isub (dk cd_Mo_isIn 109 rfl) ?_
  refine v_imul (dk cd_Mo_isIn 110 rfl) ?_
  refine v_isub (dk cd_Mo_isIn 111 rfl) ?_
  refine v_istore (dk cd_Mo_isIn 112 rfl) (by decide) rfl ?_
  refine v_iload (dk cd_Mo_isIn 113 rfl) rfl ?_
  refine v_ifeqB (tgt := 194) (dk cd_Mo_isIn 114 rfl) rfl (fun q186 => ?_) (fun q186 => ?_)
  · refine v_iload (dk cd_Mo_isIn 117 rfl) rfl ?_
    refine v_ifeqB (tgt := 216) (dk cd_Mo_isIn 118 rfl) rfl (fun q196 => ?_) (fun q196 => ?_)
    · refine v_iload_n (dk cd_Mo_isIn 127 rfl) rfl ?_
      refine v_istore_n (dk cd_Mo_isIn 128 rfl) (by decide) rfl ?_
      refine v_iincN (dk cd_Mo_isIn 129 rfl) rfl (by decide) rfl ?_
      refine v_goto (tgt := 5) (dk cd_Mo_isIn 130 rfl) rfl ?_
      exact V.drop 5 (V.drop 6 (V.drop 7 (V.drop 8 (V.drop 9 (kont b (by simp [q186, q196]))))))
    · refine v_iload (dk cd_Mo_isIn 119 rfl) rfl ?_
      try rw [← show mSd f v c n k = (f 25 (8 * v + (k + 1) % n) - f 25 (8 * v + k)) * (f 1 c - f 26 (8 * v + k)) - (f 26 (8 * v + (k + 1) % n) - f 26 (8 * v + k)) * (f 0 c - f 25 (8 * v + k)) from rfl]
      refine v_if_ge (tgt := 216) (dk cd_Mo_isIn 120 rfl) rfl (fun q201 => ?_) (fun q201 => ?_)
      · refine v_iload_n (dk cd_Mo_isIn 127 rfl) rfl ?_
        refine v_istore_n (dk cd_Mo_isIn 128 rfl) (by decide) rfl ?_
        refine v_iincN (dk cd_Mo_isIn 129 rfl) rfl (by decide) rfl ?_
        refine v_goto (tgt := 5) (dk cd_Mo_isIn 130 rfl) rfl ?_
        exact V.drop 5 (V.drop 6 (V.drop 7 (V.drop 8 (V.drop 9 (kont b (by simp [q186, q196, q201]))))))
      · refine v_iload_n (dk cd_Mo_isIn 121 rfl) rfl ?_
        refine v_ifneB (tgt := 212) (dk cd_Mo_isIn 122 rfl) rfl (fun q205 => ?_) (fun q205 => ?_)
        · refine v_iconst (v := 0) (dk cd_Mo_isIn 125 rfl) (by decide) ?_
          refine v_goto (tgt := 217) (dk cd_Mo_isIn 126 rfl) rfl ?_
          refine v_istore_n (dk cd_Mo_isIn 128 rfl) (by decide) rfl ?_
          refine v_iincN (dk cd_Mo_isIn 129 rfl) rfl (by decide) rfl ?_
          refine v_goto (tgt := 5) (dk cd_Mo_isIn 130 rfl) rfl ?_
          exact V.drop 5 (V.drop 6 (V.drop 7 (V.drop 8 (V.drop 9 (kont false (by simp [q186, q196, q201, q205]))))))
        · refine v_iconst (v := 1) (dk cd_Mo_isIn 123 rfl) (by decide) ?_
          refine v_goto (tgt := 217) (dk cd_Mo_isIn 124 rfl) rfl ?_
          refine v_istore_n (dk cd_Mo_isIn 128 rfl) (by decide) rfl ?_
          refine v_iincN (dk cd_Mo_isIn 129 rfl) rfl (by decide) rfl ?_
          refine v_goto (tgt := 5) (dk cd_Mo_isIn 130 rfl) rfl ?_
          exact V.drop 5 (V.drop 6 (V.drop 7 (V.drop 8 (V.drop 9 (kont true (by simp [q186, q196, q201, q205]))))))
  · refine v_iload (dk cd_Mo_isIn 115 rfl) rfl ?_
    have hsd : mSd f v c n k = (f 25 (8 * v + (k + 1) % n) - f 25 (8 * v + k)) * (f 1 c - f 26 (8 * v + k)) - (f 26 (8 * v + (k + 1) % n) - f 26 (8 * v + k)) * (f 0 c - f 25 (8 * v + k)) := rfl
    rw [← hsd]
    refine v_if_gt (tgt := 204) (dk cd_Mo_isIn 116 rfl) rfl (fun q191 => ?_) (fun q191 => ?_)
    · refine v_iload_n (dk cd_Mo_isIn 121 rfl) rfl ?_
      refine v_ifneB (tgt := 212) (dk cd_Mo_isIn 122 rfl) rfl (fun q205 => ?_) (fun q205 => ?_)
      · refine v_iconst (v := 0) (dk cd_Mo_isIn 125 rfl) (by decide) ?_
        refine v_goto (tgt := 217) (dk cd_Mo_isIn 126 rfl) rfl ?_
        refine v_istore_n (dk cd_Mo_isIn 128 rfl) (by decide) rfl ?_
        refine v_iincN (dk cd_Mo_isIn 129 rfl) rfl (by decide) rfl ?_
        refine v_goto (tgt := 5) (dk cd_Mo_isIn 130 rfl) rfl ?_
        exact V.drop 5 (V.drop 6 (V.drop 7 (V.drop 8 (V.drop 9 (kont false (by simp [q186, q191, q205]))))))
      · refine v_iconst (v := 1) (dk cd_Mo_isIn 123 rfl) (by decide) ?_
        refine v_goto (tgt := 217) (dk cd_Mo_isIn 124 rfl) rfl ?_
        refine v_istore_n (dk cd_Mo_isIn 128 rfl) (by decide) rfl ?_
        refine v_iincN (dk cd_Mo_isIn 129 rfl) rfl (by decide) rfl ?_
        refine v_goto (tgt := 5) (dk cd_Mo_isIn 130 rfl) rfl ?_
        exact V.drop 5 (V.drop 6 (V.drop 7 (V.drop 8 (V.drop 9 (kont true (by simp [q186, q191, q205]))))))
    · refine v_iload (dk cd_Mo_isIn 117 rfl) rfl ?_
      refine v_ifeqB (tgt := 216) (dk cd_Mo_isIn 118 rfl) rfl (fun q196 => ?_) (fun q196 => ?_)
      · refine v_iload_n (dk cd_Mo_isIn 127 rfl) rfl ?_
        refine v_istore_n (dk cd_Mo_isIn 128 rfl) (by decide) rfl ?_
        refine v_iincN (dk cd_Mo_isIn 129 rfl) rfl (by decide) rfl ?_
        refine v_goto (tgt := 5) (dk cd_Mo_isIn 130 rfl) rfl ?_
        exact V.drop 5 (V.drop 6 (V.drop 7 (V.drop 8 (V.drop 9 (kont b (by simp [q186, q191, q196]))))))
      · refine v_iload (dk cd_Mo_isIn 119 rfl) rfl ?_
        try rw [← show mSd f v c n k = (f 25 (8 * v + (k + 1) % n) - f 25 (8 * v + k)) * (f 1 c - f 26 (8 * v + k)) - (f 26 (8 * v + (k + 1) % n) - f 26 (8 * v + k)) * (f 0 c - f 25 (8 * v + k)) from rfl]
        refine v_if_ge (tgt := 216) (dk cd_Mo_isIn 120 rfl) rfl (fun q201 => ?_) (fun q201 => ?_)
        · refine v_iload_n (dk cd_Mo_isIn 127 rfl) rfl ?_
          refine v_istore_n (dk cd_Mo_isIn 128 rfl) (by decide) rfl ?_
          refine v_iincN (dk cd_Mo_isIn 129 rfl) rfl (by decide) rfl ?_
          refine v_goto (tgt := 5) (dk cd_Mo_isIn 130 rfl) rfl ?_
          exact V.drop 5 (V.drop 6 (V.drop 7 (V.drop 8 (V.drop 9 (kont b (by simp [q186, q191, q196, q201]))))))
        · refine v_iload_n (dk cd_Mo_isIn 121 rfl) rfl ?_
          refine v_ifneB (tgt := 212) (dk cd_Mo_isIn 122 rfl) rfl (fun q205 => ?_) (fun q205 => ?_)
          · refine v_iconst (v := 0) (dk cd_Mo_isIn 125 rfl) (by decide) ?_
            refine v_goto (tgt := 217) (dk cd_Mo_isIn 126 rfl) rfl ?_
            refine v_istore_n (dk cd_Mo_isIn 128 rfl) (by decide) rfl ?_
            refine v_iincN (dk cd_Mo_isIn 129 rfl) rfl (by decide) rfl ?_
            refine v_goto (tgt := 5) (dk cd_Mo_isIn 130 rfl) rfl ?_
            exact V.drop 5 (V.drop 6 (V.drop 7 (V.drop 8 (V.drop 9 (kont false (by simp [q186, q191, q196, q201, q205]))))))
          · refine v_iconst (v := 1) (dk cd_Mo_isIn 123 rfl) (by decide) ?_
            refine v_goto (tgt := 217) (dk cd_Mo_isIn 124 rfl) rfl ?_
            refine v_istore_n (dk cd_Mo_isIn 128 rfl) (by decide) rfl ?_
            refine v_iincN (dk cd_Mo_isIn 129 rfl) rfl (by decide) rfl ?_
            refine v_goto (tgt := 5) (dk cd_Mo_isIn 130 rfl) rfl ?_
            exact V.drop 5 (V.drop 6 (V.drop 7 (V.drop 8 (V.drop 9 (kont true (by simp [q186, q191, q196, q201, q205]))))))
set_option maxRecDepth 100000 in
set_option maxHeartbeats 4000000 in
theorem Mo_isIn_82 {v c n k : Nat} {b p : Bool} {Φ : Out → AH → Prop} (hM : MH B a i f A) (hv : v < 40) (hc : c < 8) (hn : f 24 v = nI n) (h8 : n ≤ 8) (hk : k < n) (kont : ∀ b', b' = (if (p && decide (0 < mSd f v c n k)) || (mDn f v c n k && !decide (0 ≤ mSd f v c n k)) then !b else b) → V (gg u) d mm_Mo_isIn 5 [some (.ref a), some (.int (nI v)), some (.int (nI c)), some (.int (b2i b')), some (.int (nI (k + 1))), none, none, none, none, none] [] A Φ) : V (gg u) d mm_Mo_isIn 82 [some (.ref a), some (.int (nI v)), some (.int (nI c)), some (.int (b2i b)), some (.int (nI k)), some (.int (nI (8 * v + k))), some (.int (nI (8 * v + (k + 1) % n))), some (.int (b2i p)), none, none] [] A Φ := by
  have hm : (k + 1) % n < n := Nat.mod_lt _ (by omega)
  refine v_aload_n (dk cd_Mo_isIn 51 rfl) rfl ?_
  refine v_getf (dk cd_Mo_isIn 52 rfl) fg_Mo_89_Mo hM.2.2.1 (by rfl) ?_
  refine v_iload (dk cd_Mo_isIn 53 rfl) rfl ?_
  refine v_mld (j := 26) (dk cd_Mo_isIn 54 rfl) hM (by decide) (by decide) (show _ < 320 by omega) (by decide) ?_
  refine v_aload_n (dk cd_Mo_isIn 55 rfl) rfl ?_
  refine v_getf (dk cd_Mo_isIn 56 rfl) fg_Mo_13_Mo hM.2.2.1 (by rfl) ?_
  refine v_iload_n (dk cd_Mo_isIn 57 rfl) rfl ?_
  refine v_mld (j := 1) (dk cd_Mo_isIn 58 rfl) hM (by decide) (by decide) (show _ < 8 by omega) (by decide) ?_
  refine v_icmp_gt (tgt := 118) (dk cd_Mo_isIn 59 rfl) rfl (fun q95 => ?_) (fun q95 => ?_)
  · refine v_iconst (v := 0) (dk cd_Mo_isIn 71 rfl) (by decide) ?_
    refine v_istore (dk cd_Mo_isIn 72 rfl) (by decide) rfl ?_
    exact Mo_isIn_121 (p := p) (q := false) hM hv hc hn h8 hk (fun b' hb => kont b' (by rw [hb, show mDn f v c n k = false by simp [mDn, q95]]))
  · refine v_aload_n (dk cd_Mo_isIn 60 rfl) rfl ?_
    refine v_getf (dk cd_Mo_isIn 61 rfl) fg_Mo_89_Mo hM.2.2.1 (by rfl) ?_
    refine v_iload (dk cd_Mo_isIn 62 rfl) rfl ?_
    refine v_mld (j := 26) (dk cd_Mo_isIn 63 rfl) hM (by decide) (by decide) (show _ < 320 by omega) (by decide) ?_
    refine v_aload_n (dk cd_Mo_isIn 64 rfl) rfl ?_
    refine v_getf (dk cd_Mo_isIn 65 rfl) fg_Mo_13_Mo hM.2.2.1 (by rfl) ?_
    refine v_iload_n (dk cd_Mo_isIn 66 rfl) rfl ?_
    refine v_mld (j := 1) (dk cd_Mo_isIn 67 rfl) hM (by decide) (by decide) (show _ < 8 by omega) (by decide) ?_
    refine v_icmp_le (tgt := 118) (dk cd_Mo_isIn 68 rfl) rfl (fun q111 => ?_) (fun q111 => ?_)
    · refine v_iconst (v := 0) (dk cd_Mo_isIn 71 rfl) (by decide) ?_
      refine v_istore (dk cd_Mo_isIn 72 rfl) (by decide) rfl ?_
      exact Mo_isIn_121 (p := p) (q := false) hM hv hc hn h8 hk (fun b' hb => kont b' (by rw [hb, show mDn f v c n k = false by simp [mDn, q95, q111]]))
    · refine v_iconst (v := 1) (dk cd_Mo_isIn 69 rfl) (by decide) ?_
      refine v_goto (tgt := 119) (dk cd_Mo_isIn 70 rfl) rfl ?_
      refine v_istore (dk cd_Mo_isIn 72 rfl) (by decide) rfl ?_
      exact Mo_isIn_121 (p := p) (q := true) hM hv hc hn h8 hk (fun b' hb => kont b' (by rw [hb, show mDn f v c n k = true by simp [mDn, q95, q111]]))
set_option maxRecDepth 100000 in
set_option maxHeartbeats 4000000 in
theorem Mo_isIn_lp {v c n : Nat} (hM : MH B a i f A) (hv : v < 40) (hc : c < 8) (hn : f 24 v = nI n) (h8 : n ≤ 8) : ∀ k, k ≤ n → V (gg u) d mm_Mo_isIn 5 [some (.ref a), some (.int (nI v)), some (.int (nI c)), some (.int (b2i (mIn f v c n k))), some (.int (nI k)), none, none, none, none, none] [] A (Rt (some (.int (b2i (mIn f v c n n)))) A) := by
  refine up_ind n ?_
  intro k ih hk
  refine v_iload (dk cd_Mo_isIn 4 rfl) rfl ?_
  refine v_aload_n (dk cd_Mo_isIn 5 rfl) rfl ?_
  refine v_getf (dk cd_Mo_isIn 6 rfl) fg_Mo_83_Mo hM.2.2.1 (by rfl) ?_
  refine v_iload_n (dk cd_Mo_isIn 7 rfl) rfl ?_
  refine v_mldE (j := 24) (dk cd_Mo_isIn 8 rfl) hM (by decide) (by decide) (show _ < 40 by omega) (by decide) hn ?_
  refine v_icmp_geN (tgt := 224) (dk cd_Mo_isIn 9 rfl) rfl (by omega) (by omega) (fun q13 => ?_) (fun q13 => ?_)
  · have hke : k = n := by omega
    subst hke
    refine v_iload_n (dk cd_Mo_isIn 131 rfl) rfl ?_
    exact v_zretB (dk cd_Mo_isIn 132 rfl) rfl rt_ret
  · have hm : (k + 1) % n < n := Nat.mod_lt _ (by omega)
    refine v_bipush (v := nI 8) (dk cd_Mo_isIn 10 rfl) (by decide) ?_
    refine v_iload_n (dk cd_Mo_isIn 11 rfl) rfl ?_
    refine v_imulN (dk cd_Mo_isIn 12 rfl) ?_
    refine v_iload (dk cd_Mo_isIn 13 rfl) rfl ?_
    refine v_iaddN (dk cd_Mo_isIn 14 rfl) ?_
    refine v_istore (dk cd_Mo_isIn 15 rfl) (by decide) rfl ?_
    refine v_bipush (v := nI 8) (dk cd_Mo_isIn 16 rfl) (by decide) ?_
    refine v_iload_n (dk cd_Mo_isIn 17 rfl) rfl ?_
    refine v_imulN (dk cd_Mo_isIn 18 rfl) ?_
    refine v_iload (dk cd_Mo_isIn 19 rfl) rfl ?_
    refine v_iconst (v := nI 1) (dk cd_Mo_isIn 20 rfl) (by decide) ?_
    refine v_iaddN (dk cd_Mo_isIn 21 rfl) ?_
    refine v_aload_n (dk cd_Mo_isIn 22 rfl) rfl ?_
    refine v_getf (dk cd_Mo_isIn 23 rfl) fg_Mo_83_Mo hM.2.2.1 (by rfl) ?_
    refine v_iload_n (dk cd_Mo_isIn 24 rfl) rfl ?_
    refine v_mldE (j := 24) (dk cd_Mo_isIn 25 rfl) hM (by decide) (by decide) (show _ < 40 by omega) (by decide) hn ?_
    refine v_iremN (dk cd_Mo_isIn 26 rfl) (by omega) (by omega) ?_
    refine v_iaddN (dk cd_Mo_isIn 27 rfl) ?_
    refine v_istore (dk cd_Mo_isIn 28 rfl) (by decide) rfl ?_
    refine v_aload_n (dk cd_Mo_isIn 29 rfl) rfl ?_
    refine v_getf (dk cd_Mo_isIn 30 rfl) fg_Mo_89_Mo hM.2.2.1 (by rfl) ?_
    refine v_iload (dk cd_Mo_isIn 31 rfl) rfl ?_
    refine v_mld (j := 26) (dk cd_Mo_isIn 32 rfl) hM (by decide) (by decide) (show _ < 320 by omega) (by decide) ?_
    refine v_aload_n (dk cd_Mo_isIn 33 rfl) rfl ?_
    refine v_getf (dk cd_Mo_isIn 34 rfl) fg_Mo_13_Mo hM.2.2.1 (by rfl) ?_
    refine v_iload_n (dk cd_Mo_isIn 35 rfl) rfl ?_
    refine v_mld (j := 1) (dk cd_Mo_isIn 36 rfl) hM (by decide) (by decide) (show _ < 8 by omega) (by decide) ?_
    refine v_icmp_gt (tgt := 79) (dk cd_Mo_isIn 37 rfl) rfl (fun q56 => ?_) (fun q56 => ?_)
    · refine v_iconst (v := 0) (dk cd_Mo_isIn 49 rfl) (by decide) ?_
      refine v_istore (dk cd_Mo_isIn 50 rfl) (by decide) rfl ?_
      exact Mo_isIn_82 (p := false) hM hv hc hn h8 q13 (fun b' hb => by
        have h9 := ih q13 (by omega)
        have hu : mUp f v c n k = false := by simp [mUp, q13, q56]
        rw [show mIn f v c n (k + 1) = b' by rw [hb]; simp only [mIn, mCrs, hu]] at h9
        exact h9)
    · refine v_aload_n (dk cd_Mo_isIn 38 rfl) rfl ?_
      refine v_getf (dk cd_Mo_isIn 39 rfl) fg_Mo_89_Mo hM.2.2.1 (by rfl) ?_
      refine v_iload (dk cd_Mo_isIn 40 rfl) rfl ?_
      refine v_mld (j := 26) (dk cd_Mo_isIn 41 rfl) hM (by decide) (by decide) (show _ < 320 by omega) (by decide) ?_
      refine v_aload_n (dk cd_Mo_isIn 42 rfl) rfl ?_
      refine v_getf (dk cd_Mo_isIn 43 rfl) fg_Mo_13_Mo hM.2.2.1 (by rfl) ?_
      refine v_iload_n (dk cd_Mo_isIn 44 rfl) rfl ?_
      refine v_mld (j := 1) (dk cd_Mo_isIn 45 rfl) hM (by decide) (by decide) (show _ < 8 by omega) (by decide) ?_
      refine v_icmp_le (tgt := 79) (dk cd_Mo_isIn 46 rfl) rfl (fun q72 => ?_) (fun q72 => ?_)
      · refine v_iconst (v := 0) (dk cd_Mo_isIn 49 rfl) (by decide) ?_
        refine v_istore (dk cd_Mo_isIn 50 rfl) (by decide) rfl ?_
        exact Mo_isIn_82 (p := false) hM hv hc hn h8 q13 (fun b' hb => by
          have h9 := ih q13 (by omega)
          have hu : mUp f v c n k = false := by simp [mUp, q13, q56, q72]
          rw [show mIn f v c n (k + 1) = b' by rw [hb]; simp only [mIn, mCrs, hu]] at h9
          exact h9)
      · refine v_iconst (v := 1) (dk cd_Mo_isIn 47 rfl) (by decide) ?_
        refine v_goto (tgt := 80) (dk cd_Mo_isIn 48 rfl) rfl ?_
        refine v_istore (dk cd_Mo_isIn 50 rfl) (by decide) rfl ?_
        exact Mo_isIn_82 (p := true) hM hv hc hn h8 q13 (fun b' hb => by
          have h9 := ih q13 (by omega)
          have hu : mUp f v c n k = true := by simp [mUp, q13, q56, q72]
          rw [show mIn f v c n (k + 1) = b' by rw [hb]; simp only [mIn, mCrs, hu]] at h9
          exact h9)
set_option maxRecDepth 100000 in
set_option maxHeartbeats 4000000 in
theorem Mo_isIn_ok {v c n : Nat} (hM : MH B a i f A) (hv : v < 40) (hc : c < 8) (hn : f 24 v = nI n) (h8 : n ≤ 8) : V (gg u) d mm_Mo_isIn 0 [some (.ref a), some (.int (nI v)), some (.int (nI c)), none, none, none, none, none, none, none] [] A (Rt (some (.int (b2i (mIn f v c n n)))) A) := by
  refine v_iconst (v := 0) (dk cd_Mo_isIn 0 rfl) (by decide) ?_
  refine v_istore_n (dk cd_Mo_isIn 1 rfl) (by decide) rfl ?_
  refine v_iconst (v := nI 0) (dk cd_Mo_isIn 2 rfl) (by decide) ?_
  refine v_istore (dk cd_Mo_isIn 3 rfl) (by decide) rfl ?_
  exact Mo_isIn_lp hM hv hc hn h8 0 (by omega)
set_option maxRecDepth 100000 in
set_option maxHeartbeats 4000000 in
theorem Mo_isCovered_lp {v c n : Nat} (hM : MH B a i f A) (hv : v < 40) (hc : c < 8) (hn : f 24 v = nI n) (h8 : n ≤ 8) : ∀ k, k ≤ n → V (gg u) (d + 2) mm_Mo_isCovered 10 [some (.ref a), some (.int (nI v)), some (.int (nI c)), some (.int (b2i (mNr f v c n k))), some (.int (nI k))] [] A (Rt (some (.int (b2i (mNr f v c n n)))) A) := by
  refine up_ind n ?_
  intro k ih hk
  refine v_iload (dk cd_Mo_isCovered 7 rfl) rfl ?_
  refine v_aload_n (dk cd_Mo_isCovered 8 rfl) rfl ?_
  refine v_getf (dk cd_Mo_isCovered 9 rfl) fg_Mo_83_Mo hM.2.2.1 (by rfl) ?_
  refine v_iload_n (dk cd_Mo_isCovered 10 rfl) rfl ?_
  refine v_mldE (j := 24) (dk cd_Mo_isCovered 11 rfl) hM (by decide) (by decide) (show _ < 40 by omega) (by decide) hn ?_
  refine v_icmp_geN (tgt := 48) (dk cd_Mo_isCovered 12 rfl) rfl (by omega) (by omega) (fun q18 => ?_) (fun q18 => ?_)
  · have hke : k = n := by omega
    subst hke
    refine v_iload_n (dk cd_Mo_isCovered 27 rfl) rfl ?_
    exact v_zretB (dk cd_Mo_isCovered 28 rfl) rfl rt_ret
  · refine v_iload_n (dk cd_Mo_isCovered 13 rfl) rfl ?_
    refine v_ifneB (tgt := 36) (dk cd_Mo_isCovered 14 rfl) rfl (fun q22 => ?_) (fun q22 => ?_)
    · refine v_iconst (v := 1) (dk cd_Mo_isCovered 21 rfl) (by decide) ?_
      refine v_goto (tgt := 41) (dk cd_Mo_isCovered 22 rfl) rfl ?_
      refine v_istore_n (dk cd_Mo_isCovered 24 rfl) (by decide) rfl ?_
      refine v_iincN (dk cd_Mo_isCovered 25 rfl) rfl (by decide) rfl ?_
      refine v_goto (tgt := 10) (dk cd_Mo_isCovered 26 rfl) rfl ?_
      have h9 := ih q18 (by omega)
      rw [show mNr f v c n (k + 1) = true by simp [mNr, q18, q22]] at h9
      exact h9
    · refine v_aload_n (dk cd_Mo_isCovered 15 rfl) rfl ?_
      refine v_iload_n (dk cd_Mo_isCovered 16 rfl) rfl ?_
      refine v_iload (dk cd_Mo_isCovered 17 rfl) rfl ?_
      refine v_iload_n (dk cd_Mo_isCovered 18 rfl) rfl ?_
      refine v_rv (r := ("AreaWarningsModel", TT_Mo, 49)) (dk cd_Mo_isCovered 19 rfl) cv_Mo_178 rfl hM.2.2.1 (as := [_, _, _]) rfl rfl (Nat.le_of_ble_eq_true rfl) (by simp [Value.category]) (Mo_isNear_ok hM hv hc hn h8 q18) ?_
      refine v_ifeqB (tgt := 40) (dk cd_Mo_isCovered 20 rfl) rfl (fun q33 => ?_) (fun q33 => ?_)
      · refine v_iconst (v := 0) (dk cd_Mo_isCovered 23 rfl) (by decide) ?_
        refine v_istore_n (dk cd_Mo_isCovered 24 rfl) (by decide) rfl ?_
        refine v_iincN (dk cd_Mo_isCovered 25 rfl) rfl (by decide) rfl ?_
        refine v_goto (tgt := 10) (dk cd_Mo_isCovered 26 rfl) rfl ?_
        have h9 := ih q18 (by omega)
        rw [show mNr f v c n (k + 1) = false by simp [mNr, q18, q22, q33]] at h9
        exact h9
      · refine v_iconst (v := 1) (dk cd_Mo_isCovered 21 rfl) (by decide) ?_
        refine v_goto (tgt := 41) (dk cd_Mo_isCovered 22 rfl) rfl ?_
        refine v_istore_n (dk cd_Mo_isCovered 24 rfl) (by decide) rfl ?_
        refine v_iincN (dk cd_Mo_isCovered 25 rfl) rfl (by decide) rfl ?_
        refine v_goto (tgt := 10) (dk cd_Mo_isCovered 26 rfl) rfl ?_
        have h9 := ih q18 (by omega)
        rw [show mNr f v c n (k + 1) = true by simp [mNr, q18, q22, q33]] at h9
        exact h9
set_option maxRecDepth 100000 in
set_option maxHeartbeats 4000000 in
theorem Mo_isCovered_ok {v c n : Nat} (hM : MH B a i f A) (hv : v < 40) (hc : c < 8) (hn : f 24 v = nI n) (h8 : n ≤ 8) : V (gg u) (d + 2) mm_Mo_isCovered 0 [some (.ref a), some (.int (nI v)), some (.int (nI c)), none, none] [] A (Rt (some (.int (b2i (mNr f v c n n)))) A) := by
  refine v_aload_n (dk cd_Mo_isCovered 0 rfl) rfl ?_
  refine v_iload_n (dk cd_Mo_isCovered 1 rfl) rfl ?_
  refine v_iload_n (dk cd_Mo_isCovered 2 rfl) rfl ?_
  refine v_rv (r := ("AreaWarningsModel", TT_Mo, 49)) (dk cd_Mo_isCovered 3 rfl) cv_Mo_174 rfl hM.2.2.1 (as := [_, _]) rfl rfl (Nat.le_of_ble_eq_true rfl) (by simp [Value.category]) (Mo_isIn_ok hM hv hc hn h8) ?_
  refine v_istore_n (dk cd_Mo_isCovered 4 rfl) (by decide) rfl ?_
  refine v_iconst (v := nI 0) (dk cd_Mo_isCovered 5 rfl) (by decide) ?_
  refine v_istore (dk cd_Mo_isCovered 6 rfl) (by decide) rfl ?_
  exact Mo_isCovered_lp hM hv hc hn h8 0 (by omega)
end MC
