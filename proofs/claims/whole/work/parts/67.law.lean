/-! the law: its cases -/
theorem v_mat_zeq {g : Gx} {d : Nat} {y : MT} {pc : Nat} {L : Lo} {st : List Value} {A : AH} {Φ : Out → AH → Prop} {x : Int32} {o1 o2 : Int} (hd : decode y.2.1 pc = .ok (.ifCond .eq o1, 3)) (h1 : decode y.2.1 (pc + 3) = .ok (.iconst 1, 1)) (h2 : decode y.2.1 (pc + 4) = .ok (.goto o2, 3)) (h3 : decode y.2.1 (pc + 7) = .ok (.iconst 0, 1)) (e1 : o1 = 7) (e2 : o2 = 4)
    (h : V g d y (pc + 8) L (.int (b2i (!decide (x = 0))) :: st) A Φ) : V g d y pc L (.int x :: st) A Φ := by
  subst e1 e2
  refine v_if_eq (tgt := pc + 7) hd (by omega) (fun q => ?_) (fun q => ?_)
  · refine v_iconst (v := 0) h3 (by decide) ?_
    rw [show b2i (!decide (x = 0)) = 0 by simp [q, b2i]] at h; exact h
  · refine v_iconst (v := 1) h1 (by decide) (v_goto (tgt := pc + 8) h2 (by omega) ?_)
    rw [show b2i (!decide (x = 0)) = 1 by simp [q, b2i]] at h; exact h
/-- what a call leaves: both sides still tied -/
def LJ (o m oa : Nat) (A A' : AH) : Prop := ∃ (S : SS) (ad : Nat → Nat → Nat) (t : Int32) (i : Nat → Int32) (f : Nat → Nat → Int32) (z : Int64), ad 0 0 = o ∧ Inv (FQ m i f oa z) S ad A' ∧ Rel S t i f ∧ SOK S ∧ A'.2.1 ≤ A.2.1 + 16 ∧ A'.2.2 ≤ A.2.2 + 400
theorem both {q : SS × (Value ⊕ Nat)} {cd : Nat → Int32} {k : Int32} {z : Int64} {x : Int32} {i : Nat → Int32} {f : Nat → Nat → Int32} (h1 : match q.2 with | .inl v => k = 0 ∧ ∃ w : Int32, v = .int w ∧ z = w.toInt64 | .inr kd => k = cd kd) (h2 : match q.2 with | .inl v => Rel q.1 0 i f ∧ v = .int x | .inr kd => Rel q.1 (cd kd) i f) (hc : ∀ kd, q.2 = .inr kd → ¬ cd kd = 0) : i 0 = k ∧ (k = 0 → z = x.toInt64) ∧ Rel q.1 k i f := by
  rcases hq : q.2 with v | kd
  · rw [hq] at h1 h2
    obtain ⟨rfl, w, e1, e2⟩ := h1
    obtain ⟨R, e3⟩ := h2
    rw [e1] at e3
    cases e3
    exact ⟨R.th, fun _ => e2, R⟩
  · rw [hq] at h1 h2
    have h1 : k = cd kd := h1
    subst h1
    have h2 : Rel q.1 (cd kd) i f := h2
    exact ⟨h2.th, fun h => absurd h (hc kd hq), h2⟩
theorem pub_no {F : Nat → Option AC} {ad : Nat → Nat → Nat} {A : AH} {q : SS × (Value ⊕ Nat)} {v : Value} (h : q.2 = .inl v) : ∀ a A', ¬ PubR F ad A q (.inr a) A' := by
  intro a A' hq
  obtain ⟨ad', h1, h2, h3, h4, h5⟩ := hq
  rw [h] at h5
  cases h5
theorem cov_same {S : SS} {x c : Int32} : (spCovers S x c).1 = S := by
  unfold spCovers
  split
  · split
    · rfl
    · split <;> rfl
  · rfl
section LW
variable {u : Ux} {S : SS} {ad : Nat → Nat → Nat} {A : AH} {m oa b n k : Nat} {i : Nat → Int32} {f : Nat → Nat → Int32} {z : Int64} {t : Int32} {xs : Nat → Int32} {Φ : Out → AH → Prop}
set_option maxRecDepth 100000 in
set_option maxHeartbeats 4000000 in
theorem lw_c0 (hscr : Scr (gg u) b n xs) (h6 : 6 * k + 6 ≤ n) (hn : n ≤ 3072) (hoa : ¬ (m ≤ oa ∧ oa < m + 43)) (I : Inv (FQ m i f oa z) S ad A) (R : Rel S t i f) (K : SOK S) (hgl : A.2.1 + 16 ≤ gL (gg u)) (hgs : A.2.2 + 400 ≤ gS (gg u)) (kont : ∀ A', LJ (ad 0 0) m oa A A' → V (gg u) 8 mm_La_law 1426 [some (.ref b), some (.ref (ad 0 0)), some (.ref m), some (.ref oa), some (.int (nI (6 * k))), none, none] [] A' Φ) : V (gg u) 8 mm_La_law 136 [some (.ref b), some (.ref (ad 0 0)), some (.ref m), some (.ref oa), some (.int (nI (6 * k))), none, none] [] A Φ := by
  refine v_aload_n (dk cd_La_law0 25 rfl) rfl ?_
  refine v_aload_n (dk cd_La_law0 26 rfl) rfl ?_
  refine v_iload (dk cd_La_law0 27 rfl) rfl ?_
  refine v_iconst (v := nI 1) (dk cd_La_law0 28 rfl) (by decide) ?_
  refine v_iaddN (dk cd_La_law0 29 rfl) ?_
  refine v_ialdO (dk cd_La_law0 30 rfl) hscr (by omega) ?_
  refine v_aload_n (dk cd_La_law0 31 rfl) rfl ?_
  refine v_iload (dk cd_La_law0 32 rfl) rfl ?_
  refine v_iconst (v := nI 2) (dk cd_La_law0 33 rfl) (by decide) ?_
  refine v_iaddN (dk cd_La_law0 34 rfl) ?_
  refine v_ialdO (dk cd_La_law0 35 rfl) hscr (by omega) ?_
  refine v_aload_n (dk cd_La_law0 36 rfl) rfl ?_
  refine v_iload (dk cd_La_law0 37 rfl) rfl ?_
  refine v_iconst (v := nI 3) (dk cd_La_law0 38 rfl) (by decide) ?_
  refine v_iaddN (dk cd_La_law0 39 rfl) ?_
  refine v_ialdO (dk cd_La_law1 0 rfl) hscr (by omega) ?_
  refine v_aload_n (dk cd_La_law1 1 rfl) rfl ?_
  refine v_callsW (dk cd_La_law1 2 rfl) cs_La_76 (as := [_, _, _, _, _]) rfl rfl (Nat.le_of_ble_eq_true rfl) (by simp [Value.category]) (La_cell_ok I K hoa hgl hgs) wp_no (fun v9 A9 hq => ?_)
  obtain ⟨k9, ad', z', e9, had, I2, hb1, hb2, hres⟩ := hq
  cases e9
  refine v_istore (dk cd_La_law1 3 rfl) (by decide) rfl ?_
  refine v_aload_n (dk cd_La_law1 4 rfl) rfl ?_
  refine v_aload_n (dk cd_La_law1 5 rfl) rfl ?_
  refine v_iload (dk cd_La_law1 6 rfl) rfl ?_
  refine v_iconst (v := nI 1) (dk cd_La_law1 7 rfl) (by decide) ?_
  refine v_iaddN (dk cd_La_law1 8 rfl) ?_
  refine v_ialdO (dk cd_La_law1 9 rfl) hscr (by omega) ?_
  refine v_aload_n (dk cd_La_law1 10 rfl) rfl ?_
  refine v_iload (dk cd_La_law1 11 rfl) rfl ?_
  refine v_iconst (v := nI 2) (dk cd_La_law1 12 rfl) (by decide) ?_
  refine v_iaddN (dk cd_La_law1 13 rfl) ?_
  refine v_ialdO (dk cd_La_law1 14 rfl) hscr (by omega) ?_
  refine v_aload_n (dk cd_La_law1 15 rfl) rfl ?_
  refine v_iload (dk cd_La_law1 16 rfl) rfl ?_
  refine v_iconst (v := nI 3) (dk cd_La_law1 17 rfl) (by decide) ?_
  refine v_iaddN (dk cd_La_law1 18 rfl) ?_
  refine v_ialdO (dk cd_La_law1 19 rfl) hscr (by omega) ?_
  refine v_callv (r := ("AreaWarningsModel", TT_Mo, 49)) (dk cd_La_law1 20 rfl) cv_La_81 rfl (FQ.mh I2 hoa).2.2.1 (as := [_, _, _]) rfl rfl (Nat.le_of_ble_eq_true rfl) (by simp [Value.category]) (Mo_cell_ok (FQ.mh I2 hoa) R K) pm_no' (fun v8 A8 hq => ?_)
  obtain ⟨x8, i8, f8, e8, hM, hres2⟩ := hq
  cases e8
  have I3 := FQ.back I2 hoa hM
  obtain ⟨h0, hz, R8⟩ := both hres hres2 (fun kd hkd => by rcases spCell_kd.2 _ hkd with rfl | rfl <;> decide)
  refine v_istore (dk cd_La_law1 21 rfl) (by decide) rfl ?_
  refine v_aload_n (dk cd_La_law1 22 rfl) rfl ?_
  refine v_rv (r := ("AreaWarningsModel", TT_Mo, 49)) (dk cd_La_law1 23 rfl) cv_La_82 rfl hM.2.2.1 (as := []) rfl rfl (Nat.le_of_ble_eq_true rfl) (by simp [Value.category]) (Mo_thrown_ok hM) ?_
  refine v_iload (dk cd_La_law1 24 rfl) rfl ?_
  refine v_icmp_eq (tgt := 196) (dk cd_La_law1 25 rfl) rfl (fun _ => ?_) (fun q9 => absurd h0 q9)
  refine v_iload (dk cd_La_law1 28 rfl) rfl ?_
  refine v_if_ne (tgt := 213) (dk cd_La_law1 29 rfl) rfl (fun q9 => ?_) (fun q9 => ?_)
  · refine v_goto (tgt := 1426) (dk cd_La_law1 39 rfl) rfl ?_
    exact V.drop 5 (V.drop 6 (kont A8 ⟨_, ad', _, i8, f8, z', had, I3, R8, K.kspCell, by rw [hM.1]; exact hb1, by rw [hM.1]; exact hb2⟩))
  · have hz := hz q9
    refine v_aload_n (dk cd_La_law1 30 rfl) rfl ?_
    refine v_iconst (v := 0) (dk cd_La_law1 31 rfl) (by decide) ?_
    refine v_lald (j := 2) (dk cd_La_law1 32 rfl) (I3.2.2.1 oa _ FQ.oa).1 (by decide) rfl (by decide) rfl ?_
    refine v_iload (dk cd_La_law1 33 rfl) rfl ?_
    refine v_i2l (dk cd_La_law1 34 rfl) ?_
    refine v_lcmp_eq (tgt := 213) (dk cd_La_law1 35 rfl) (dk cd_La_law1 36 rfl) rfl (fun _ => ?_) (fun q8 => absurd hz q8)
    refine v_goto (tgt := 1426) (dk cd_La_law1 39 rfl) rfl ?_
    exact V.drop 5 (V.drop 6 (kont A8 ⟨_, ad', _, i8, f8, z', had, I3, R8, K.kspCell, by rw [hM.1]; exact hb1, by rw [hM.1]; exact hb2⟩))
set_option maxRecDepth 100000 in
set_option maxHeartbeats 4000000 in
theorem lw_c1 (hscr : Scr (gg u) b n xs) (h6 : 6 * k + 6 ≤ n) (hn : n ≤ 3072) (hoa : ¬ (m ≤ oa ∧ oa < m + 43)) (I : Inv (FQ m i f oa z) S ad A) (R : Rel S t i f) (K : SOK S) (hgl : A.2.1 + 16 ≤ gL (gg u)) (hgs : A.2.2 + 400 ≤ gS (gg u)) (kont : ∀ A', LJ (ad 0 0) m oa A A' → V (gg u) 8 mm_La_law 1426 [some (.ref b), some (.ref (ad 0 0)), some (.ref m), some (.ref oa), some (.int (nI (6 * k))), none, none] [] A' Φ) : V (gg u) 8 mm_La_law 216 [some (.ref b), some (.ref (ad 0 0)), some (.ref m), some (.ref oa), some (.int (nI (6 * k))), none, none] [] A Φ := by
  refine v_aload_n (dk cd_La_law2 0 rfl) rfl ?_
  refine v_aload_n (dk cd_La_law2 1 rfl) rfl ?_
  refine v_iload (dk cd_La_law2 2 rfl) rfl ?_
  refine v_iconst (v := nI 1) (dk cd_La_law2 3 rfl) (by decide) ?_
  refine v_iaddN (dk cd_La_law2 4 rfl) ?_
  refine v_ialdO (dk cd_La_law2 5 rfl) hscr (by omega) ?_
  refine v_aload_n (dk cd_La_law2 6 rfl) rfl ?_
  refine v_iload (dk cd_La_law2 7 rfl) rfl ?_
  refine v_iconst (v := nI 2) (dk cd_La_law2 8 rfl) (by decide) ?_
  refine v_iaddN (dk cd_La_law2 9 rfl) ?_
  refine v_ialdO (dk cd_La_law2 10 rfl) hscr (by omega) ?_
  refine v_aload_n (dk cd_La_law2 11 rfl) rfl ?_
  refine v_callsW (dk cd_La_law2 12 rfl) cs_La_86 (as := [_, _, _, _]) rfl rfl (Nat.le_of_ble_eq_true rfl) (by simp [Value.category]) (La_corner_ok I K hoa hgl hgs) wp_no (fun v9 A9 hq => ?_)
  obtain ⟨k9, ad', z', e9, had, I2, hb1, hb2, hres⟩ := hq
  cases e9
  refine v_istore (dk cd_La_law2 13 rfl) (by decide) rfl ?_
  refine v_aload_n (dk cd_La_law2 14 rfl) rfl ?_
  refine v_aload_n (dk cd_La_law2 15 rfl) rfl ?_
  refine v_iload (dk cd_La_law2 16 rfl) rfl ?_
  refine v_iconst (v := nI 1) (dk cd_La_law2 17 rfl) (by decide) ?_
  refine v_iaddN (dk cd_La_law2 18 rfl) ?_
  refine v_ialdO (dk cd_La_law2 19 rfl) hscr (by omega) ?_
  refine v_aload_n (dk cd_La_law2 20 rfl) rfl ?_
  refine v_iload (dk cd_La_law2 21 rfl) rfl ?_
  refine v_iconst (v := nI 2) (dk cd_La_law2 22 rfl) (by decide) ?_
  refine v_iaddN (dk cd_La_law2 23 rfl) ?_
  refine v_ialdO (dk cd_La_law2 24 rfl) hscr (by omega) ?_
  refine v_callv (r := ("AreaWarningsModel", TT_Mo, 49)) (dk cd_La_law2 25 rfl) cv_La_89 rfl (FQ.mh I2 hoa).2.2.1 (as := [_, _]) rfl rfl (Nat.le_of_ble_eq_true rfl) (by simp [Value.category]) (Mo_corner_ok (FQ.mh I2 hoa) R K) pm_no' (fun v8 A8 hq => ?_)
  obtain ⟨x8, i8, f8, e8, hM, hres2⟩ := hq
  cases e8
  have I3 := FQ.back I2 hoa hM
  obtain ⟨h0, hz, R8⟩ := both hres hres2 (fun kd hkd => by rcases spCorner_kd.2 _ hkd with rfl | rfl <;> decide)
  refine v_istore (dk cd_La_law2 26 rfl) (by decide) rfl ?_
  refine v_aload_n (dk cd_La_law2 27 rfl) rfl ?_
  refine v_rv (r := ("AreaWarningsModel", TT_Mo, 49)) (dk cd_La_law2 28 rfl) cv_La_82 rfl hM.2.2.1 (as := []) rfl rfl (Nat.le_of_ble_eq_true rfl) (by simp [Value.category]) (Mo_thrown_ok hM) ?_
  refine v_iload (dk cd_La_law2 29 rfl) rfl ?_
  refine v_icmp_eq (tgt := 264) (dk cd_La_law2 30 rfl) rfl (fun _ => ?_) (fun q9 => absurd h0 q9)
  refine v_iload (dk cd_La_law2 33 rfl) rfl ?_
  refine v_if_ne (tgt := 281) (dk cd_La_law2 34 rfl) rfl (fun q9 => ?_) (fun q9 => ?_)
  · refine v_goto (tgt := 1426) (dk cd_La_law3 4 rfl) rfl ?_
    exact V.drop 5 (V.drop 6 (kont A8 ⟨_, ad', _, i8, f8, z', had, I3, R8, K.kspCorner, by rw [hM.1]; exact hb1, by rw [hM.1]; exact hb2⟩))
  · have hz := hz q9
    refine v_aload_n (dk cd_La_law2 35 rfl) rfl ?_
    refine v_iconst (v := 0) (dk cd_La_law2 36 rfl) (by decide) ?_
    refine v_lald (j := 2) (dk cd_La_law2 37 rfl) (I3.2.2.1 oa _ FQ.oa).1 (by decide) rfl (by decide) rfl ?_
    refine v_iload (dk cd_La_law2 38 rfl) rfl ?_
    refine v_i2l (dk cd_La_law2 39 rfl) ?_
    refine v_lcmp_eq (tgt := 281) (dk cd_La_law3 0 rfl) (dk cd_La_law3 1 rfl) rfl (fun _ => ?_) (fun q8 => absurd hz q8)
    refine v_goto (tgt := 1426) (dk cd_La_law3 4 rfl) rfl ?_
    exact V.drop 5 (V.drop 6 (kont A8 ⟨_, ad', _, i8, f8, z', had, I3, R8, K.kspCorner, by rw [hM.1]; exact hb1, by rw [hM.1]; exact hb2⟩))
set_option maxRecDepth 100000 in
set_option maxHeartbeats 4000000 in
theorem lw_c2 (hscr : Scr (gg u) b n xs) (h6 : 6 * k + 6 ≤ n) (hn : n ≤ 3072) (hoa : ¬ (m ≤ oa ∧ oa < m + 43)) (I : Inv (FQ m i f oa z) S ad A) (R : Rel S t i f) (K : SOK S) (hgl : A.2.1 + 16 ≤ gL (gg u)) (hgs : A.2.2 + 400 ≤ gS (gg u)) (kont : ∀ A', LJ (ad 0 0) m oa A A' → V (gg u) 8 mm_La_law 1426 [some (.ref b), some (.ref (ad 0 0)), some (.ref m), some (.ref oa), some (.int (nI (6 * k))), none, none] [] A' Φ) : V (gg u) 8 mm_La_law 284 [some (.ref b), some (.ref (ad 0 0)), some (.ref m), some (.ref oa), some (.int (nI (6 * k))), none, none] [] A Φ := by
  refine v_aload_n (dk cd_La_law3 5 rfl) rfl ?_
  refine v_aload_n (dk cd_La_law3 6 rfl) rfl ?_
  refine v_iload (dk cd_La_law3 7 rfl) rfl ?_
  refine v_iconst (v := nI 1) (dk cd_La_law3 8 rfl) (by decide) ?_
  refine v_iaddN (dk cd_La_law3 9 rfl) ?_
  refine v_ialdO (dk cd_La_law3 10 rfl) hscr (by omega) ?_
  refine v_aload_n (dk cd_La_law3 11 rfl) rfl ?_
  refine v_iload (dk cd_La_law3 12 rfl) rfl ?_
  refine v_iconst (v := nI 2) (dk cd_La_law3 13 rfl) (by decide) ?_
  refine v_iaddN (dk cd_La_law3 14 rfl) ?_
  refine v_ialdO (dk cd_La_law3 15 rfl) hscr (by omega) ?_
  refine v_aload_n (dk cd_La_law3 16 rfl) rfl ?_
  refine v_callsW (dk cd_La_law3 17 rfl) cs_La_90 (as := [_, _, _, _]) rfl rfl (Nat.le_of_ble_eq_true rfl) (by simp [Value.category]) (La_text_ok I K hoa hgl hgs) wp_no (fun v9 A9 hq => ?_)
  obtain ⟨k9, ad', z', e9, had, I2, hb1, hb2, hres⟩ := hq
  cases e9
  refine v_istore (dk cd_La_law3 18 rfl) (by decide) rfl ?_
  refine v_aload_n (dk cd_La_law3 19 rfl) rfl ?_
  refine v_aload_n (dk cd_La_law3 20 rfl) rfl ?_
  refine v_iload (dk cd_La_law3 21 rfl) rfl ?_
  refine v_iconst (v := nI 1) (dk cd_La_law3 22 rfl) (by decide) ?_
  refine v_iaddN (dk cd_La_law3 23 rfl) ?_
  refine v_ialdO (dk cd_La_law3 24 rfl) hscr (by omega) ?_
  refine v_aload_n (dk cd_La_law3 25 rfl) rfl ?_
  refine v_iload (dk cd_La_law3 26 rfl) rfl ?_
  refine v_iconst (v := nI 2) (dk cd_La_law3 27 rfl) (by decide) ?_
  refine v_iaddN (dk cd_La_law3 28 rfl) ?_
  refine v_ialdO (dk cd_La_law3 29 rfl) hscr (by omega) ?_
  refine v_callv (r := ("AreaWarningsModel", TT_Mo, 49)) (dk cd_La_law3 30 rfl) cv_La_92 rfl (FQ.mh I2 hoa).2.2.1 (as := [_, _]) rfl rfl (Nat.le_of_ble_eq_true rfl) (by simp [Value.category]) (Mo_text_ok (FQ.mh I2 hoa) R K) pm_no' (fun v8 A8 hq => ?_)
  obtain ⟨x8, i8, f8, e8, hM, hres2⟩ := hq
  cases e8
  have I3 := FQ.back I2 hoa hM
  obtain ⟨h0, hz, R8⟩ := both hres hres2 (fun kd hkd => by rcases spText_kd.2 _ hkd with rfl | rfl <;> decide)
  refine v_istore (dk cd_La_law3 31 rfl) (by decide) rfl ?_
  refine v_aload_n (dk cd_La_law3 32 rfl) rfl ?_
  refine v_rv (r := ("AreaWarningsModel", TT_Mo, 49)) (dk cd_La_law3 33 rfl) cv_La_82 rfl hM.2.2.1 (as := []) rfl rfl (Nat.le_of_ble_eq_true rfl) (by simp [Value.category]) (Mo_thrown_ok hM) ?_
  refine v_iload (dk cd_La_law3 34 rfl) rfl ?_
  refine v_icmp_eq (tgt := 332) (dk cd_La_law3 35 rfl) rfl (fun _ => ?_) (fun q9 => absurd h0 q9)
  refine v_iload (dk cd_La_law3 38 rfl) rfl ?_
  refine v_if_ne (tgt := 349) (dk cd_La_law3 39 rfl) rfl (fun q9 => ?_) (fun q9 => ?_)
  · refine v_goto (tgt := 1426) (dk cd_La_law4 9 rfl) rfl ?_
    exact V.drop 5 (V.drop 6 (kont A8 ⟨_, ad', _, i8, f8, z', had, I3, R8, K.kspText, by rw [hM.1]; exact hb1, by rw [hM.1]; exact hb2⟩))
  · have hz := hz q9
    refine v_aload_n (dk cd_La_law4 0 rfl) rfl ?_
    refine v_iconst (v := 0) (dk cd_La_law4 1 rfl) (by decide) ?_
    refine v_lald (j := 2) (dk cd_La_law4 2 rfl) (I3.2.2.1 oa _ FQ.oa).1 (by decide) rfl (by decide) rfl ?_
    refine v_iload (dk cd_La_law4 3 rfl) rfl ?_
    refine v_i2l (dk cd_La_law4 4 rfl) ?_
    refine v_lcmp_eq (tgt := 349) (dk cd_La_law4 5 rfl) (dk cd_La_law4 6 rfl) rfl (fun _ => ?_) (fun q8 => absurd hz q8)
    refine v_goto (tgt := 1426) (dk cd_La_law4 9 rfl) rfl ?_
    exact V.drop 5 (V.drop 6 (kont A8 ⟨_, ad', _, i8, f8, z', had, I3, R8, K.kspText, by rw [hM.1]; exact hb1, by rw [hM.1]; exact hb2⟩))
set_option maxRecDepth 100000 in
set_option maxHeartbeats 4000000 in
theorem lw_c4 (hscr : Scr (gg u) b n xs) (h6 : 6 * k + 6 ≤ n) (hn : n ≤ 3072) (hoa : ¬ (m ≤ oa ∧ oa < m + 43)) (I : Inv (FQ m i f oa z) S ad A) (R : Rel S t i f) (K : SOK S) (hgl : A.2.1 + 16 ≤ gL (gg u)) (hgs : A.2.2 + 400 ≤ gS (gg u)) (kont : ∀ A', LJ (ad 0 0) m oa A A' → V (gg u) 8 mm_La_law 1426 [some (.ref b), some (.ref (ad 0 0)), some (.ref m), some (.ref oa), some (.int (nI (6 * k))), none, none] [] A' Φ) : V (gg u) 8 mm_La_law 365 [some (.ref b), some (.ref (ad 0 0)), some (.ref m), some (.ref oa), some (.int (nI (6 * k))), none, none] [] A Φ := by
  refine v_aload_n (dk cd_La_law4 17 rfl) rfl ?_
  refine v_aload_n (dk cd_La_law4 18 rfl) rfl ?_
  refine v_iload (dk cd_La_law4 19 rfl) rfl ?_
  refine v_iconst (v := nI 1) (dk cd_La_law4 20 rfl) (by decide) ?_
  refine v_iaddN (dk cd_La_law4 21 rfl) ?_
  refine v_ialdO (dk cd_La_law4 22 rfl) hscr (by omega) ?_
  refine v_aload_n (dk cd_La_law4 23 rfl) rfl ?_
  refine v_iload (dk cd_La_law4 24 rfl) rfl ?_
  refine v_iconst (v := nI 2) (dk cd_La_law4 25 rfl) (by decide) ?_
  refine v_iaddN (dk cd_La_law4 26 rfl) ?_
  refine v_ialdO (dk cd_La_law4 27 rfl) hscr (by omega) ?_
  refine v_aload_n (dk cd_La_law4 28 rfl) rfl ?_
  refine v_iload (dk cd_La_law4 29 rfl) rfl ?_
  refine v_iconst (v := nI 3) (dk cd_La_law4 30 rfl) (by decide) ?_
  refine v_iaddN (dk cd_La_law4 31 rfl) ?_
  refine v_ialdO (dk cd_La_law4 32 rfl) hscr (by omega) ?_
  refine v_aload_n (dk cd_La_law4 33 rfl) rfl ?_
  refine v_iload (dk cd_La_law4 34 rfl) rfl ?_
  refine v_iconst (v := nI 4) (dk cd_La_law4 35 rfl) (by decide) ?_
  refine v_iaddN (dk cd_La_law4 36 rfl) ?_
  refine v_ialdO (dk cd_La_law4 37 rfl) hscr (by omega) ?_
  refine v_aload_n (dk cd_La_law4 38 rfl) rfl ?_
  refine v_iload (dk cd_La_law4 39 rfl) rfl ?_
  refine v_iconst (v := nI 5) (dk cd_La_law5 0 rfl) (by decide) ?_
  refine v_iaddN (dk cd_La_law5 1 rfl) ?_
  refine v_ialdO (dk cd_La_law5 2 rfl) hscr (by omega) ?_
  refine v_aload_n (dk cd_La_law5 3 rfl) rfl ?_
  refine v_callsW (dk cd_La_law5 4 rfl) cs_La_97 (as := [_, _, _, _, _, _, _]) rfl rfl (Nat.le_of_ble_eq_true rfl) (by simp [Value.category]) (La_issue_ok I K hoa hgl hgs) wp_no (fun v9 A9 hq => ?_)
  obtain ⟨k9, ad', z', e9, had, I2, hb1, hb2, hres⟩ := hq
  cases e9
  refine v_istore (dk cd_La_law5 5 rfl) (by decide) rfl ?_
  refine v_aload_n (dk cd_La_law5 6 rfl) rfl ?_
  refine v_aload_n (dk cd_La_law5 7 rfl) rfl ?_
  refine v_iload (dk cd_La_law5 8 rfl) rfl ?_
  refine v_iconst (v := nI 1) (dk cd_La_law5 9 rfl) (by decide) ?_
  refine v_iaddN (dk cd_La_law5 10 rfl) ?_
  refine v_ialdO (dk cd_La_law5 11 rfl) hscr (by omega) ?_
  refine v_aload_n (dk cd_La_law5 12 rfl) rfl ?_
  refine v_iload (dk cd_La_law5 13 rfl) rfl ?_
  refine v_iconst (v := nI 2) (dk cd_La_law5 14 rfl) (by decide) ?_
  refine v_iaddN (dk cd_La_law5 15 rfl) ?_
  refine v_ialdO (dk cd_La_law5 16 rfl) hscr (by omega) ?_
  refine v_aload_n (dk cd_La_law5 17 rfl) rfl ?_
  refine v_iload (dk cd_La_law5 18 rfl) rfl ?_
  refine v_iconst (v := nI 3) (dk cd_La_law5 19 rfl) (by decide) ?_
  refine v_iaddN (dk cd_La_law5 20 rfl) ?_
  refine v_ialdO (dk cd_La_law5 21 rfl) hscr (by omega) ?_
  refine v_aload_n (dk cd_La_law5 22 rfl) rfl ?_
  refine v_iload (dk cd_La_law5 23 rfl) rfl ?_
  refine v_iconst (v := nI 4) (dk cd_La_law5 24 rfl) (by decide) ?_
  refine v_iaddN (dk cd_La_law5 25 rfl) ?_
  refine v_ialdO (dk cd_La_law5 26 rfl) hscr (by omega) ?_
  refine v_aload_n (dk cd_La_law5 27 rfl) rfl ?_
  refine v_iload (dk cd_La_law5 28 rfl) rfl ?_
  refine v_iconst (v := nI 5) (dk cd_La_law5 29 rfl) (by decide) ?_
  refine v_iaddN (dk cd_La_law5 30 rfl) ?_
  refine v_ialdO (dk cd_La_law5 31 rfl) hscr (by omega) ?_
  refine v_callv (r := ("AreaWarningsModel", TT_Mo, 49)) (dk cd_La_law5 32 rfl) cv_La_100 rfl (FQ.mh I2 hoa).2.2.1 (as := [_, _, _, _, _]) rfl rfl (Nat.le_of_ble_eq_true rfl) (by simp [Value.category]) (Mo_issue_ok (FQ.mh I2 hoa) R K) pm_no' (fun v8 A8 hq => ?_)
  obtain ⟨x8, i8, f8, e8, hM, hres2⟩ := hq
  cases e8
  have I3 := FQ.back I2 hoa hM
  obtain ⟨h0, hz, R8⟩ := both hres hres2 (fun kd hkd => by rcases spIssue_kd.2 _ hkd with rfl | rfl | rfl <;> decide)
  refine v_istore (dk cd_La_law5 33 rfl) (by decide) rfl ?_
  refine v_aload_n (dk cd_La_law5 34 rfl) rfl ?_
  refine v_rv (r := ("AreaWarningsModel", TT_Mo, 49)) (dk cd_La_law5 35 rfl) cv_La_82 rfl hM.2.2.1 (as := []) rfl rfl (Nat.le_of_ble_eq_true rfl) (by simp [Value.category]) (Mo_thrown_ok hM) ?_
  refine v_iload (dk cd_La_law5 36 rfl) rfl ?_
  refine v_icmp_eq (tgt := 449) (dk cd_La_law5 37 rfl) rfl (fun _ => ?_) (fun q9 => absurd h0 q9)
  refine v_iload (dk cd_La_law6 0 rfl) rfl ?_
  refine v_if_ne (tgt := 466) (dk cd_La_law6 1 rfl) rfl (fun q9 => ?_) (fun q9 => ?_)
  · refine v_goto (tgt := 1426) (dk cd_La_law6 11 rfl) rfl ?_
    exact V.drop 5 (V.drop 6 (kont A8 ⟨_, ad', _, i8, f8, z', had, I3, R8, K.kspIssue, by rw [hM.1]; exact hb1, by rw [hM.1]; exact hb2⟩))
  · have hz := hz q9
    refine v_aload_n (dk cd_La_law6 2 rfl) rfl ?_
    refine v_iconst (v := 0) (dk cd_La_law6 3 rfl) (by decide) ?_
    refine v_lald (j := 2) (dk cd_La_law6 4 rfl) (I3.2.2.1 oa _ FQ.oa).1 (by decide) rfl (by decide) rfl ?_
    refine v_iload (dk cd_La_law6 5 rfl) rfl ?_
    refine v_i2l (dk cd_La_law6 6 rfl) ?_
    refine v_lcmp_eq (tgt := 466) (dk cd_La_law6 7 rfl) (dk cd_La_law6 8 rfl) rfl (fun _ => ?_) (fun q8 => absurd hz q8)
    refine v_goto (tgt := 1426) (dk cd_La_law6 11 rfl) rfl ?_
    exact V.drop 5 (V.drop 6 (kont A8 ⟨_, ad', _, i8, f8, z', had, I3, R8, K.kspIssue, by rw [hM.1]; exact hb1, by rw [hM.1]; exact hb2⟩))
set_option maxRecDepth 100000 in
set_option maxHeartbeats 4000000 in
theorem lw_c5 (hscr : Scr (gg u) b n xs) (h6 : 6 * k + 6 ≤ n) (hn : n ≤ 3072) (hoa : ¬ (m ≤ oa ∧ oa < m + 43)) (I : Inv (FQ m i f oa z) S ad A) (R : Rel S t i f) (K : SOK S) (hgl : A.2.1 + 16 ≤ gL (gg u)) (hgs : A.2.2 + 400 ≤ gS (gg u)) (kont : ∀ A', LJ (ad 0 0) m oa A A' → V (gg u) 8 mm_La_law 1426 [some (.ref b), some (.ref (ad 0 0)), some (.ref m), some (.ref oa), some (.int (nI (6 * k))), none, none] [] A' Φ) : V (gg u) 8 mm_La_law 469 [some (.ref b), some (.ref (ad 0 0)), some (.ref m), some (.ref oa), some (.int (nI (6 * k))), none, none] [] A Φ := by
  refine v_aload_n (dk cd_La_law6 12 rfl) rfl ?_
  refine v_aload_n (dk cd_La_law6 13 rfl) rfl ?_
  refine v_iload (dk cd_La_law6 14 rfl) rfl ?_
  refine v_iconst (v := nI 1) (dk cd_La_law6 15 rfl) (by decide) ?_
  refine v_iaddN (dk cd_La_law6 16 rfl) ?_
  refine v_ialdO (dk cd_La_law6 17 rfl) hscr (by omega) ?_
  refine v_aload_n (dk cd_La_law6 18 rfl) rfl ?_
  refine v_iload (dk cd_La_law6 19 rfl) rfl ?_
  refine v_iconst (v := nI 2) (dk cd_La_law6 20 rfl) (by decide) ?_
  refine v_iaddN (dk cd_La_law6 21 rfl) ?_
  refine v_ialdO (dk cd_La_law6 22 rfl) hscr (by omega) ?_
  refine v_aload_n (dk cd_La_law6 23 rfl) rfl ?_
  refine v_iload (dk cd_La_law6 24 rfl) rfl ?_
  refine v_iconst (v := nI 3) (dk cd_La_law6 25 rfl) (by decide) ?_
  refine v_iaddN (dk cd_La_law6 26 rfl) ?_
  refine v_ialdO (dk cd_La_law6 27 rfl) hscr (by omega) ?_
  refine v_aload_n (dk cd_La_law6 28 rfl) rfl ?_
  refine v_iload (dk cd_La_law6 29 rfl) rfl ?_
  refine v_iconst (v := nI 4) (dk cd_La_law6 30 rfl) (by decide) ?_
  refine v_iaddN (dk cd_La_law6 31 rfl) ?_
  refine v_ialdO (dk cd_La_law6 32 rfl) hscr (by omega) ?_
  refine v_aload_n (dk cd_La_law6 33 rfl) rfl ?_
  refine v_callsW (dk cd_La_law6 34 rfl) cs_La_101 (as := [_, _, _, _, _, _]) rfl rfl (Nat.le_of_ble_eq_true rfl) (by simp [Value.category]) (La_update_ok I K hoa hgl hgs) wp_no (fun v9 A9 hq => ?_)
  obtain ⟨k9, ad', z', e9, had, I2, hb1, hb2, hres⟩ := hq
  cases e9
  refine v_istore (dk cd_La_law6 35 rfl) (by decide) rfl ?_
  refine v_aload_n (dk cd_La_law6 36 rfl) rfl ?_
  refine v_aload_n (dk cd_La_law6 37 rfl) rfl ?_
  refine v_iload (dk cd_La_law6 38 rfl) rfl ?_
  refine v_iconst (v := nI 1) (dk cd_La_law6 39 rfl) (by decide) ?_
  refine v_iaddN (dk cd_La_law7 0 rfl) ?_
  refine v_ialdO (dk cd_La_law7 1 rfl) hscr (by omega) ?_
  refine v_aload_n (dk cd_La_law7 2 rfl) rfl ?_
  refine v_iload (dk cd_La_law7 3 rfl) rfl ?_
  refine v_iconst (v := nI 2) (dk cd_La_law7 4 rfl) (by decide) ?_
  refine v_iaddN (dk cd_La_law7 5 rfl) ?_
  refine v_ialdO (dk cd_La_law7 6 rfl) hscr (by omega) ?_
  refine v_aload_n (dk cd_La_law7 7 rfl) rfl ?_
  refine v_iload (dk cd_La_law7 8 rfl) rfl ?_
  refine v_iconst (v := nI 3) (dk cd_La_law7 9 rfl) (by decide) ?_
  refine v_iaddN (dk cd_La_law7 10 rfl) ?_
  refine v_ialdO (dk cd_La_law7 11 rfl) hscr (by omega) ?_
  refine v_aload_n (dk cd_La_law7 12 rfl) rfl ?_
  refine v_iload (dk cd_La_law7 13 rfl) rfl ?_
  refine v_iconst (v := nI 4) (dk cd_La_law7 14 rfl) (by decide) ?_
  refine v_iaddN (dk cd_La_law7 15 rfl) ?_
  refine v_ialdO (dk cd_La_law7 16 rfl) hscr (by omega) ?_
  refine v_callv (r := ("AreaWarningsModel", TT_Mo, 49)) (dk cd_La_law7 17 rfl) cv_La_104 rfl (FQ.mh I2 hoa).2.2.1 (as := [_, _, _, _]) rfl rfl (Nat.le_of_ble_eq_true rfl) (by simp [Value.category]) (Mo_update_ok (FQ.mh I2 hoa) R K) pm_no' (fun v8 A8 hq => ?_)
  obtain ⟨x8, i8, f8, e8, hM, hres2⟩ := hq
  cases e8
  have I3 := FQ.back I2 hoa hM
  obtain ⟨h0, hz, R8⟩ := both hres hres2 (fun kd hkd => by rcases spUpdate_kd.2 _ hkd with rfl | rfl | rfl <;> decide)
  refine v_istore (dk cd_La_law7 18 rfl) (by decide) rfl ?_
  refine v_aload_n (dk cd_La_law7 19 rfl) rfl ?_
  refine v_rv (r := ("AreaWarningsModel", TT_Mo, 49)) (dk cd_La_law7 20 rfl) cv_La_82 rfl hM.2.2.1 (as := []) rfl rfl (Nat.le_of_ble_eq_true rfl) (by simp [Value.category]) (Mo_thrown_ok hM) ?_
  refine v_iload (dk cd_La_law7 21 rfl) rfl ?_
  refine v_icmp_eq (tgt := 541) (dk cd_La_law7 22 rfl) rfl (fun _ => ?_) (fun q9 => absurd h0 q9)
  refine v_iload (dk cd_La_law7 25 rfl) rfl ?_
  refine v_if_ne (tgt := 558) (dk cd_La_law7 26 rfl) rfl (fun q9 => ?_) (fun q9 => ?_)
  · refine v_goto (tgt := 1426) (dk cd_La_law7 36 rfl) rfl ?_
    exact V.drop 5 (V.drop 6 (kont A8 ⟨_, ad', _, i8, f8, z', had, I3, R8, K.kspUpdate, by rw [hM.1]; exact hb1, by rw [hM.1]; exact hb2⟩))
  · have hz := hz q9
    refine v_aload_n (dk cd_La_law7 27 rfl) rfl ?_
    refine v_iconst (v := 0) (dk cd_La_law7 28 rfl) (by decide) ?_
    refine v_lald (j := 2) (dk cd_La_law7 29 rfl) (I3.2.2.1 oa _ FQ.oa).1 (by decide) rfl (by decide) rfl ?_
    refine v_iload (dk cd_La_law7 30 rfl) rfl ?_
    refine v_i2l (dk cd_La_law7 31 rfl) ?_
    refine v_lcmp_eq (tgt := 558) (dk cd_La_law7 32 rfl) (dk cd_La_law7 33 rfl) rfl (fun _ => ?_) (fun q8 => absurd hz q8)
    refine v_goto (tgt := 1426) (dk cd_La_law7 36 rfl) rfl ?_
    exact V.drop 5 (V.drop 6 (kont A8 ⟨_, ad', _, i8, f8, z', had, I3, R8, K.kspUpdate, by rw [hM.1]; exact hb1, by rw [hM.1]; exact hb2⟩))
set_option maxRecDepth 100000 in
set_option maxHeartbeats 4000000 in
theorem lw_c6 (hscr : Scr (gg u) b n xs) (h6 : 6 * k + 6 ≤ n) (hn : n ≤ 3072) (hoa : ¬ (m ≤ oa ∧ oa < m + 43)) (I : Inv (FQ m i f oa z) S ad A) (R : Rel S t i f) (K : SOK S) (hgl : A.2.1 + 16 ≤ gL (gg u)) (hgs : A.2.2 + 400 ≤ gS (gg u)) (kont : ∀ A', LJ (ad 0 0) m oa A A' → V (gg u) 8 mm_La_law 1426 [some (.ref b), some (.ref (ad 0 0)), some (.ref m), some (.ref oa), some (.int (nI (6 * k))), none, none] [] A' Φ) : V (gg u) 8 mm_La_law 561 [some (.ref b), some (.ref (ad 0 0)), some (.ref m), some (.ref oa), some (.int (nI (6 * k))), none, none] [] A Φ := by
  refine v_aload_n (dk cd_La_law7 37 rfl) rfl ?_
  refine v_aload_n (dk cd_La_law7 38 rfl) rfl ?_
  refine v_iload (dk cd_La_law7 39 rfl) rfl ?_
  refine v_iconst (v := nI 1) (dk cd_La_law8 0 rfl) (by decide) ?_
  refine v_iaddN (dk cd_La_law8 1 rfl) ?_
  refine v_ialdO (dk cd_La_law8 2 rfl) hscr (by omega) ?_
  refine v_aload_n (dk cd_La_law8 3 rfl) rfl ?_
  refine v_callsW (dk cd_La_law8 4 rfl) cs_La_105 (as := [_, _, _]) rfl rfl (Nat.le_of_ble_eq_true rfl) (by simp [Value.category]) (La_cancel_ok I K hoa hgl hgs) wp_no (fun v9 A9 hq => ?_)
  obtain ⟨k9, ad', z', e9, had, I2, hb1, hb2, hres⟩ := hq
  cases e9
  refine v_istore (dk cd_La_law8 5 rfl) (by decide) rfl ?_
  refine v_aload_n (dk cd_La_law8 6 rfl) rfl ?_
  refine v_aload_n (dk cd_La_law8 7 rfl) rfl ?_
  refine v_iload (dk cd_La_law8 8 rfl) rfl ?_
  refine v_iconst (v := nI 1) (dk cd_La_law8 9 rfl) (by decide) ?_
  refine v_iaddN (dk cd_La_law8 10 rfl) ?_
  refine v_ialdO (dk cd_La_law8 11 rfl) hscr (by omega) ?_
  refine v_callv (r := ("AreaWarningsModel", TT_Mo, 49)) (dk cd_La_law8 12 rfl) cv_La_108 rfl (FQ.mh I2 hoa).2.2.1 (as := [_]) rfl rfl (Nat.le_of_ble_eq_true rfl) (by simp [Value.category]) (Mo_cancel_ok (FQ.mh I2 hoa) R K) pm_no' (fun v8 A8 hq => ?_)
  obtain ⟨x8, i8, f8, e8, hM, hres2⟩ := hq
  cases e8
  have I3 := FQ.back I2 hoa hM
  obtain ⟨h0, hz, R8⟩ := both hres hres2 (fun kd hkd => by have hkd := spCancel_kd.2 _ hkd; subst hkd; decide)
  refine v_istore (dk cd_La_law8 13 rfl) (by decide) rfl ?_
  refine v_aload_n (dk cd_La_law8 14 rfl) rfl ?_
  refine v_rv (r := ("AreaWarningsModel", TT_Mo, 49)) (dk cd_La_law8 15 rfl) cv_La_82 rfl hM.2.2.1 (as := []) rfl rfl (Nat.le_of_ble_eq_true rfl) (by simp [Value.category]) (Mo_thrown_ok hM) ?_
  refine v_iload (dk cd_La_law8 16 rfl) rfl ?_
  refine v_icmp_eq (tgt := 597) (dk cd_La_law8 17 rfl) rfl (fun _ => ?_) (fun q9 => absurd h0 q9)
  refine v_iload (dk cd_La_law8 20 rfl) rfl ?_
  refine v_if_ne (tgt := 614) (dk cd_La_law8 21 rfl) rfl (fun q9 => ?_) (fun q9 => ?_)
  · refine v_goto (tgt := 1426) (dk cd_La_law8 31 rfl) rfl ?_
    exact V.drop 5 (V.drop 6 (kont A8 ⟨_, ad', _, i8, f8, z', had, I3, R8, K.kspCancel, by rw [hM.1]; exact hb1, by rw [hM.1]; exact hb2⟩))
  · have hz := hz q9
    refine v_aload_n (dk cd_La_law8 22 rfl) rfl ?_
    refine v_iconst (v := 0) (dk cd_La_law8 23 rfl) (by decide) ?_
    refine v_lald (j := 2) (dk cd_La_law8 24 rfl) (I3.2.2.1 oa _ FQ.oa).1 (by decide) rfl (by decide) rfl ?_
    refine v_iload (dk cd_La_law8 25 rfl) rfl ?_
    refine v_i2l (dk cd_La_law8 26 rfl) ?_
    refine v_lcmp_eq (tgt := 614) (dk cd_La_law8 27 rfl) (dk cd_La_law8 28 rfl) rfl (fun _ => ?_) (fun q8 => absurd hz q8)
    refine v_goto (tgt := 1426) (dk cd_La_law8 31 rfl) rfl ?_
    exact V.drop 5 (V.drop 6 (kont A8 ⟨_, ad', _, i8, f8, z', had, I3, R8, K.kspCancel, by rw [hM.1]; exact hb1, by rw [hM.1]; exact hb2⟩))
set_option maxRecDepth 100000 in
set_option maxHeartbeats 4000000 in
theorem lw_c8 (hscr : Scr (gg u) b n xs) (h6 : 6 * k + 6 ≤ n) (hn : n ≤ 3072) (hoa : ¬ (m ≤ oa ∧ oa < m + 43)) (I : Inv (FQ m i f oa z) S ad A) (R : Rel S t i f) (K : SOK S) (hgl : A.2.1 + 16 ≤ gL (gg u)) (hgs : A.2.2 + 400 ≤ gS (gg u)) (kont : ∀ A', LJ (ad 0 0) m oa A A' → V (gg u) 8 mm_La_law 1426 [some (.ref b), some (.ref (ad 0 0)), some (.ref m), some (.ref oa), some (.int (nI (6 * k))), none, none] [] A' Φ) : V (gg u) 8 mm_La_law 630 [some (.ref b), some (.ref (ad 0 0)), some (.ref m), some (.ref oa), some (.int (nI (6 * k))), none, none] [] A Φ := by
  refine v_aload_n (dk cd_La_law8 39 rfl) rfl ?_
  refine v_aload_n (dk cd_La_law9 0 rfl) rfl ?_
  refine v_iload (dk cd_La_law9 1 rfl) rfl ?_
  refine v_iconst (v := nI 1) (dk cd_La_law9 2 rfl) (by decide) ?_
  refine v_iaddN (dk cd_La_law9 3 rfl) ?_
  refine v_ialdO (dk cd_La_law9 4 rfl) hscr (by omega) ?_
  refine v_aload_n (dk cd_La_law9 5 rfl) rfl ?_
  refine v_iload (dk cd_La_law9 6 rfl) rfl ?_
  refine v_iconst (v := nI 2) (dk cd_La_law9 7 rfl) (by decide) ?_
  refine v_iaddN (dk cd_La_law9 8 rfl) ?_
  refine v_ialdO (dk cd_La_law9 9 rfl) hscr (by omega) ?_
  refine v_mat_zeq (dk cd_La_law9 10 rfl) (dk cd_La_law9 11 rfl) (dk cd_La_law9 12 rfl) (dk cd_La_law9 13 rfl) rfl rfl ?_
  refine v_aload_n (dk cd_La_law9 14 rfl) rfl ?_
  refine v_callsW (dk cd_La_law9 15 rfl) cs_La_113 (as := [_, _, _, _]) rfl rfl (Nat.le_of_ble_eq_true rfl) (by simp [Value.category]) (La_line_ok I K hoa hgl hgs) wp_no (fun v9 A9 hq => ?_)
  obtain ⟨k9, ad', z', e9, had, I2, hb1, hb2, hres⟩ := hq
  cases e9
  refine v_istore (dk cd_La_law9 16 rfl) (by decide) rfl ?_
  refine v_aload_n (dk cd_La_law9 17 rfl) rfl ?_
  refine v_aload_n (dk cd_La_law9 18 rfl) rfl ?_
  refine v_iload (dk cd_La_law9 19 rfl) rfl ?_
  refine v_iconst (v := nI 1) (dk cd_La_law9 20 rfl) (by decide) ?_
  refine v_iaddN (dk cd_La_law9 21 rfl) ?_
  refine v_ialdO (dk cd_La_law9 22 rfl) hscr (by omega) ?_
  refine v_aload_n (dk cd_La_law9 23 rfl) rfl ?_
  refine v_iload (dk cd_La_law9 24 rfl) rfl ?_
  refine v_iconst (v := nI 2) (dk cd_La_law9 25 rfl) (by decide) ?_
  refine v_iaddN (dk cd_La_law9 26 rfl) ?_
  refine v_ialdO (dk cd_La_law9 27 rfl) hscr (by omega) ?_
  refine v_mat_zeq (dk cd_La_law9 28 rfl) (dk cd_La_law9 29 rfl) (dk cd_La_law9 30 rfl) (dk cd_La_law9 31 rfl) rfl rfl ?_
  refine v_callv (r := ("AreaWarningsModel", TT_Mo, 49)) (dk cd_La_law9 32 rfl) cv_La_116 rfl (FQ.mh I2 hoa).2.2.1 (as := [_, _]) rfl rfl (Nat.le_of_ble_eq_true rfl) (by simp [Value.category]) (Mo_line_ok (FQ.mh I2 hoa) R K) pm_no' (fun v8 A8 hq => ?_)
  obtain ⟨x8, i8, f8, e8, hM, hres2⟩ := hq
  cases e8
  have I3 := FQ.back I2 hoa hM
  obtain ⟨h0, hz, R8⟩ := both hres hres2 (fun kd hkd => by have hkd := spLine_kd.2 _ hkd; subst hkd; decide)
  have hx8 : k9 = 0 → x8 = 0 ∨ x8 = 1 := by
    intro hk0
    rcases hqq : (spLine S (xs (6 * k + 1)) (!decide (xs (6 * k + 2) = 0))).2 with v | kd
    · rw [hqq] at hres2
      obtain ⟨bb, hbb⟩ := spLine_kd.1 _ hqq
      have e := hres2.2
      rw [hbb] at e
      cases e
      cases bb
      · exact Or.inl rfl
      · exact Or.inr rfl
    · rw [hqq] at hres
      have hres : k9 = (xc [0, 0, 0, 1]) kd := hres
      rw [hk0] at hres
      have hkd := spLine_kd.2 _ hqq
      subst hkd
      exact absurd hres (by decide)
  refine v_istore (dk cd_La_law9 33 rfl) (by decide) rfl ?_
  refine v_aload_n (dk cd_La_law9 34 rfl) rfl ?_
  refine v_rv (r := ("AreaWarningsModel", TT_Mo, 49)) (dk cd_La_law9 35 rfl) cv_La_82 rfl hM.2.2.1 (as := []) rfl rfl (Nat.le_of_ble_eq_true rfl) (by simp [Value.category]) (Mo_thrown_ok hM) ?_
  refine v_iload (dk cd_La_law9 36 rfl) rfl ?_
  refine v_icmp_eq (tgt := 694) (dk cd_La_law9 37 rfl) rfl (fun _ => ?_) (fun q9 => absurd h0 q9)
  refine v_iload (dk cd_La_law10 0 rfl) rfl ?_
  refine v_if_ne (tgt := 718) (dk cd_La_law10 1 rfl) rfl (fun q9 => ?_) (fun q9 => ?_)
  · refine v_goto (tgt := 1426) (dk cd_La_law10 14 rfl) rfl ?_
    exact V.drop 5 (V.drop 6 (kont A8 ⟨_, ad', _, i8, f8, z', had, I3, R8, K.kspLine, by rw [hM.1]; exact hb1, by rw [hM.1]; exact hb2⟩))
  · have hz := hz q9
    have hx8 := hx8 q9
    refine v_aload_n (dk cd_La_law10 2 rfl) rfl ?_
    refine v_iconst (v := 0) (dk cd_La_law10 3 rfl) (by decide) ?_
    refine v_lald (j := 2) (dk cd_La_law10 4 rfl) (I3.2.2.1 oa _ FQ.oa).1 (by decide) rfl (by decide) rfl ?_
    refine v_iload (dk cd_La_law10 5 rfl) rfl ?_
    refine v_if_eq (tgt := 711) (dk cd_La_law10 6 rfl) rfl (fun q7 => ?_) (fun q7 => ?_)
    · refine v_lconst (v := 0) (dk cd_La_law10 9 rfl) (by decide) ?_
      refine v_lcmp_eq (tgt := 718) (dk cd_La_law10 10 rfl) (dk cd_La_law10 11 rfl) rfl (fun _ => ?_) (fun q8 => absurd (by rw [hz, q7]; rfl) q8)
      refine v_goto (tgt := 1426) (dk cd_La_law10 14 rfl) rfl ?_
      exact V.drop 5 (V.drop 6 (kont A8 ⟨_, ad', _, i8, f8, z', had, I3, R8, K.kspLine, by rw [hM.1]; exact hb1, by rw [hM.1]; exact hb2⟩))
    · refine v_lconst (v := 1) (dk cd_La_law10 7 rfl) (by decide) ?_
      refine v_goto (tgt := 712) (dk cd_La_law10 8 rfl) rfl ?_
      refine v_lcmp_eq (tgt := 718) (dk cd_La_law10 10 rfl) (dk cd_La_law10 11 rfl) rfl (fun _ => ?_) (fun q8 => absurd (by rw [hz, hx8.resolve_left q7]; rfl) q8)
      refine v_goto (tgt := 1426) (dk cd_La_law10 14 rfl) rfl ?_
      exact V.drop 5 (V.drop 6 (kont A8 ⟨_, ad', _, i8, f8, z', had, I3, R8, K.kspLine, by rw [hM.1]; exact hb1, by rw [hM.1]; exact hb2⟩))
set_option maxRecDepth 100000 in
set_option maxHeartbeats 4000000 in
theorem lw_c9 (hscr : Scr (gg u) b n xs) (h6 : 6 * k + 6 ≤ n) (hn : n ≤ 3072) (hoa : ¬ (m ≤ oa ∧ oa < m + 43)) (I : Inv (FQ m i f oa z) S ad A) (R : Rel S t i f) (K : SOK S) (hgl : A.2.1 + 16 ≤ gL (gg u)) (hgs : A.2.2 + 400 ≤ gS (gg u)) (kont : ∀ A', LJ (ad 0 0) m oa A A' → V (gg u) 8 mm_La_law 1426 [some (.ref b), some (.ref (ad 0 0)), some (.ref m), some (.ref oa), some (.int (nI (6 * k))), none, none] [] A' Φ) : V (gg u) 8 mm_La_law 721 [some (.ref b), some (.ref (ad 0 0)), some (.ref m), some (.ref oa), some (.int (nI (6 * k))), none, none] [] A Φ := by
  refine v_aload_n (dk cd_La_law10 15 rfl) rfl ?_
  refine v_aload_n (dk cd_La_law10 16 rfl) rfl ?_
  refine v_iload (dk cd_La_law10 17 rfl) rfl ?_
  refine v_iconst (v := nI 1) (dk cd_La_law10 18 rfl) (by decide) ?_
  refine v_iaddN (dk cd_La_law10 19 rfl) ?_
  refine v_ialdO (dk cd_La_law10 20 rfl) hscr (by omega) ?_
  refine v_aload_n (dk cd_La_law10 21 rfl) rfl ?_
  refine v_callsW (dk cd_La_law10 22 rfl) cs_La_117 (as := [_, _, _]) rfl rfl (Nat.le_of_ble_eq_true rfl) (by simp [Value.category]) (La_handset_ok I K hoa hgl hgs) wp_no (fun v9 A9 hq => ?_)
  obtain ⟨k9, ad', z', e9, had, I2, hb1, hb2, hres⟩ := hq
  cases e9
  refine v_istore (dk cd_La_law10 23 rfl) (by decide) rfl ?_
  refine v_aload_n (dk cd_La_law10 24 rfl) rfl ?_
  refine v_aload_n (dk cd_La_law10 25 rfl) rfl ?_
  refine v_iload (dk cd_La_law10 26 rfl) rfl ?_
  refine v_iconst (v := nI 1) (dk cd_La_law10 27 rfl) (by decide) ?_
  refine v_iaddN (dk cd_La_law10 28 rfl) ?_
  refine v_ialdO (dk cd_La_law10 29 rfl) hscr (by omega) ?_
  refine v_callv (r := ("AreaWarningsModel", TT_Mo, 49)) (dk cd_La_law10 30 rfl) cv_La_119 rfl (FQ.mh I2 hoa).2.2.1 (as := [_]) rfl rfl (Nat.le_of_ble_eq_true rfl) (by simp [Value.category]) (Mo_handset_ok (FQ.mh I2 hoa) R K) pm_no' (fun v8 A8 hq => ?_)
  obtain ⟨x8, i8, f8, e8, hM, hres2⟩ := hq
  cases e8
  have I3 := FQ.back I2 hoa hM
  obtain ⟨h0, hz, R8⟩ := both hres hres2 (fun kd hkd => by rcases spHandset_kd.2 _ hkd with rfl | rfl <;> decide)
  refine v_istore (dk cd_La_law10 31 rfl) (by decide) rfl ?_
  refine v_aload_n (dk cd_La_law10 32 rfl) rfl ?_
  refine v_rv (r := ("AreaWarningsModel", TT_Mo, 49)) (dk cd_La_law10 33 rfl) cv_La_82 rfl hM.2.2.1 (as := []) rfl rfl (Nat.le_of_ble_eq_true rfl) (by simp [Value.category]) (Mo_thrown_ok hM) ?_
  refine v_iload (dk cd_La_law10 34 rfl) rfl ?_
  refine v_icmp_eq (tgt := 757) (dk cd_La_law10 35 rfl) rfl (fun _ => ?_) (fun q9 => absurd h0 q9)
  refine v_iload (dk cd_La_law10 38 rfl) rfl ?_
  refine v_if_ne (tgt := 774) (dk cd_La_law10 39 rfl) rfl (fun q9 => ?_) (fun q9 => ?_)
  · refine v_goto (tgt := 1426) (dk cd_La_law11 9 rfl) rfl ?_
    exact V.drop 5 (V.drop 6 (kont A8 ⟨_, ad', _, i8, f8, z', had, I3, R8, K.kspHandset, by rw [hM.1]; exact hb1, by rw [hM.1]; exact hb2⟩))
  · have hz := hz q9
    refine v_aload_n (dk cd_La_law11 0 rfl) rfl ?_
    refine v_iconst (v := 0) (dk cd_La_law11 1 rfl) (by decide) ?_
    refine v_lald (j := 2) (dk cd_La_law11 2 rfl) (I3.2.2.1 oa _ FQ.oa).1 (by decide) rfl (by decide) rfl ?_
    refine v_iload (dk cd_La_law11 3 rfl) rfl ?_
    refine v_i2l (dk cd_La_law11 4 rfl) ?_
    refine v_lcmp_eq (tgt := 774) (dk cd_La_law11 5 rfl) (dk cd_La_law11 6 rfl) rfl (fun _ => ?_) (fun q8 => absurd hz q8)
    refine v_goto (tgt := 1426) (dk cd_La_law11 9 rfl) rfl ?_
    exact V.drop 5 (V.drop 6 (kont A8 ⟨_, ad', _, i8, f8, z', had, I3, R8, K.kspHandset, by rw [hM.1]; exact hb1, by rw [hM.1]; exact hb2⟩))
set_option maxRecDepth 100000 in
set_option maxHeartbeats 4000000 in
theorem lw_c10 (hscr : Scr (gg u) b n xs) (h6 : 6 * k + 6 ≤ n) (hn : n ≤ 3072) (hoa : ¬ (m ≤ oa ∧ oa < m + 43)) (I : Inv (FQ m i f oa z) S ad A) (R : Rel S t i f) (K : SOK S) (hgl : A.2.1 + 16 ≤ gL (gg u)) (hgs : A.2.2 + 400 ≤ gS (gg u)) (kont : ∀ A', LJ (ad 0 0) m oa A A' → V (gg u) 8 mm_La_law 1426 [some (.ref b), some (.ref (ad 0 0)), some (.ref m), some (.ref oa), some (.int (nI (6 * k))), none, none] [] A' Φ) : V (gg u) 8 mm_La_law 777 [some (.ref b), some (.ref (ad 0 0)), some (.ref m), some (.ref oa), some (.int (nI (6 * k))), none, none] [] A Φ := by
  refine v_aload_n (dk cd_La_law11 10 rfl) rfl ?_
  refine v_aload_n (dk cd_La_law11 11 rfl) rfl ?_
  refine v_iload (dk cd_La_law11 12 rfl) rfl ?_
  refine v_iconst (v := nI 1) (dk cd_La_law11 13 rfl) (by decide) ?_
  refine v_iaddN (dk cd_La_law11 14 rfl) ?_
  refine v_ialdO (dk cd_La_law11 15 rfl) hscr (by omega) ?_
  refine v_aload_n (dk cd_La_law11 16 rfl) rfl ?_
  refine v_iload (dk cd_La_law11 17 rfl) rfl ?_
  refine v_iconst (v := nI 2) (dk cd_La_law11 18 rfl) (by decide) ?_
  refine v_iaddN (dk cd_La_law11 19 rfl) ?_
  refine v_ialdO (dk cd_La_law11 20 rfl) hscr (by omega) ?_
  refine v_aload_n (dk cd_La_law11 21 rfl) rfl ?_
  refine v_callsW (dk cd_La_law11 22 rfl) cs_La_120 (as := [_, _, _, _]) rfl rfl (Nat.le_of_ble_eq_true rfl) (by simp [Value.category]) (La_likes_ok I K hoa hgl hgs) wp_no (fun v9 A9 hq => ?_)
  obtain ⟨k9, ad', z', e9, had, I2, hb1, hb2, hres⟩ := hq
  cases e9
  refine v_istore (dk cd_La_law11 23 rfl) (by decide) rfl ?_
  refine v_aload_n (dk cd_La_law11 24 rfl) rfl ?_
  refine v_aload_n (dk cd_La_law11 25 rfl) rfl ?_
  refine v_iload (dk cd_La_law11 26 rfl) rfl ?_
  refine v_iconst (v := nI 1) (dk cd_La_law11 27 rfl) (by decide) ?_
  refine v_iaddN (dk cd_La_law11 28 rfl) ?_
  refine v_ialdO (dk cd_La_law11 29 rfl) hscr (by omega) ?_
  refine v_aload_n (dk cd_La_law11 30 rfl) rfl ?_
  refine v_iload (dk cd_La_law11 31 rfl) rfl ?_
  refine v_iconst (v := nI 2) (dk cd_La_law11 32 rfl) (by decide) ?_
  refine v_iaddN (dk cd_La_law11 33 rfl) ?_
  refine v_ialdO (dk cd_La_law11 34 rfl) hscr (by omega) ?_
  refine v_callv (r := ("AreaWarningsModel", TT_Mo, 49)) (dk cd_La_law11 35 rfl) cv_La_122 rfl (FQ.mh I2 hoa).2.2.1 (as := [_, _]) rfl rfl (Nat.le_of_ble_eq_true rfl) (by simp [Value.category]) (Mo_likes_ok (FQ.mh I2 hoa) R K) pm_no' (fun v8 A8 hq => ?_)
  obtain ⟨x8, i8, f8, e8, hM, hres2⟩ := hq
  cases e8
  have I3 := FQ.back I2 hoa hM
  obtain ⟨h0, hz, R8⟩ := both hres hres2 (fun kd hkd => by rcases spLikes_kd.2 _ hkd with rfl | rfl | rfl <;> decide)
  refine v_istore (dk cd_La_law11 36 rfl) (by decide) rfl ?_
  refine v_aload_n (dk cd_La_law11 37 rfl) rfl ?_
  refine v_rv (r := ("AreaWarningsModel", TT_Mo, 49)) (dk cd_La_law11 38 rfl) cv_La_82 rfl hM.2.2.1 (as := []) rfl rfl (Nat.le_of_ble_eq_true rfl) (by simp [Value.category]) (Mo_thrown_ok hM) ?_
  refine v_iload (dk cd_La_law11 39 rfl) rfl ?_
  refine v_icmp_eq (tgt := 825) (dk cd_La_law12 0 rfl) rfl (fun _ => ?_) (fun q9 => absurd h0 q9)
  refine v_iload (dk cd_La_law12 3 rfl) rfl ?_
  refine v_if_ne (tgt := 842) (dk cd_La_law12 4 rfl) rfl (fun q9 => ?_) (fun q9 => ?_)
  · refine v_goto (tgt := 1426) (dk cd_La_law12 14 rfl) rfl ?_
    exact V.drop 5 (V.drop 6 (kont A8 ⟨_, ad', _, i8, f8, z', had, I3, R8, K.kspLikes, by rw [hM.1]; exact hb1, by rw [hM.1]; exact hb2⟩))
  · have hz := hz q9
    refine v_aload_n (dk cd_La_law12 5 rfl) rfl ?_
    refine v_iconst (v := 0) (dk cd_La_law12 6 rfl) (by decide) ?_
    refine v_lald (j := 2) (dk cd_La_law12 7 rfl) (I3.2.2.1 oa _ FQ.oa).1 (by decide) rfl (by decide) rfl ?_
    refine v_iload (dk cd_La_law12 8 rfl) rfl ?_
    refine v_i2l (dk cd_La_law12 9 rfl) ?_
    refine v_lcmp_eq (tgt := 842) (dk cd_La_law12 10 rfl) (dk cd_La_law12 11 rfl) rfl (fun _ => ?_) (fun q8 => absurd hz q8)
    refine v_goto (tgt := 1426) (dk cd_La_law12 14 rfl) rfl ?_
    exact V.drop 5 (V.drop 6 (kont A8 ⟨_, ad', _, i8, f8, z', had, I3, R8, K.kspLikes, by rw [hM.1]; exact hb1, by rw [hM.1]; exact hb2⟩))
set_option maxRecDepth 100000 in
set_option maxHeartbeats 4000000 in
theorem lw_c11 (hscr : Scr (gg u) b n xs) (h6 : 6 * k + 6 ≤ n) (hn : n ≤ 3072) (hoa : ¬ (m ≤ oa ∧ oa < m + 43)) (I : Inv (FQ m i f oa z) S ad A) (R : Rel S t i f) (K : SOK S) (hgl : A.2.1 + 16 ≤ gL (gg u)) (hgs : A.2.2 + 400 ≤ gS (gg u)) (kont : ∀ A', LJ (ad 0 0) m oa A A' → V (gg u) 8 mm_La_law 1426 [some (.ref b), some (.ref (ad 0 0)), some (.ref m), some (.ref oa), some (.int (nI (6 * k))), none, none] [] A' Φ) : V (gg u) 8 mm_La_law 845 [some (.ref b), some (.ref (ad 0 0)), some (.ref m), some (.ref oa), some (.int (nI (6 * k))), none, none] [] A Φ := by
  refine v_aload_n (dk cd_La_law12 15 rfl) rfl ?_
  refine v_aload_n (dk cd_La_law12 16 rfl) rfl ?_
  refine v_iload (dk cd_La_law12 17 rfl) rfl ?_
  refine v_iconst (v := nI 1) (dk cd_La_law12 18 rfl) (by decide) ?_
  refine v_iaddN (dk cd_La_law12 19 rfl) ?_
  refine v_ialdO (dk cd_La_law12 20 rfl) hscr (by omega) ?_
  refine v_aload_n (dk cd_La_law12 21 rfl) rfl ?_
  refine v_iload (dk cd_La_law12 22 rfl) rfl ?_
  refine v_iconst (v := nI 2) (dk cd_La_law12 23 rfl) (by decide) ?_
  refine v_iaddN (dk cd_La_law12 24 rfl) ?_
  refine v_ialdO (dk cd_La_law12 25 rfl) hscr (by omega) ?_
  refine v_aload_n (dk cd_La_law12 26 rfl) rfl ?_
  refine v_callsW (dk cd_La_law12 27 rfl) cs_La_123 (as := [_, _, _, _]) rfl rfl (Nat.le_of_ble_eq_true rfl) (by simp [Value.category]) (La_camp_ok I K hoa hgl hgs) wp_no (fun v9 A9 hq => ?_)
  obtain ⟨k9, ad', z', e9, had, I2, hb1, hb2, hres⟩ := hq
  cases e9
  refine v_istore (dk cd_La_law12 28 rfl) (by decide) rfl ?_
  refine v_aload_n (dk cd_La_law12 29 rfl) rfl ?_
  refine v_aload_n (dk cd_La_law12 30 rfl) rfl ?_
  refine v_iload (dk cd_La_law12 31 rfl) rfl ?_
  refine v_iconst (v := nI 1) (dk cd_La_law12 32 rfl) (by decide) ?_
  refine v_iaddN (dk cd_La_law12 33 rfl) ?_
  refine v_ialdO (dk cd_La_law12 34 rfl) hscr (by omega) ?_
  refine v_aload_n (dk cd_La_law12 35 rfl) rfl ?_
  refine v_iload (dk cd_La_law12 36 rfl) rfl ?_
  refine v_iconst (v := nI 2) (dk cd_La_law12 37 rfl) (by decide) ?_
  refine v_iaddN (dk cd_La_law12 38 rfl) ?_
  refine v_ialdO (dk cd_La_law12 39 rfl) hscr (by omega) ?_
  refine v_callv (r := ("AreaWarningsModel", TT_Mo, 49)) (dk cd_La_law13 0 rfl) cv_La_125 rfl (FQ.mh I2 hoa).2.2.1 (as := [_, _]) rfl rfl (Nat.le_of_ble_eq_true rfl) (by simp [Value.category]) (Mo_camp_ok (FQ.mh I2 hoa) R K) pm_no' (fun v8 A8 hq => ?_)
  obtain ⟨x8, i8, f8, e8, hM, hres2⟩ := hq
  cases e8
  have I3 := FQ.back I2 hoa hM
  obtain ⟨h0, hz, R8⟩ := both hres hres2 (fun kd hkd => by have hkd := spCamp_kd.2 _ hkd; subst hkd; decide)
  refine v_istore (dk cd_La_law13 1 rfl) (by decide) rfl ?_
  refine v_aload_n (dk cd_La_law13 2 rfl) rfl ?_
  refine v_rv (r := ("AreaWarningsModel", TT_Mo, 49)) (dk cd_La_law13 3 rfl) cv_La_82 rfl hM.2.2.1 (as := []) rfl rfl (Nat.le_of_ble_eq_true rfl) (by simp [Value.category]) (Mo_thrown_ok hM) ?_
  refine v_iload (dk cd_La_law13 4 rfl) rfl ?_
  refine v_icmp_eq (tgt := 893) (dk cd_La_law13 5 rfl) rfl (fun _ => ?_) (fun q9 => absurd h0 q9)
  refine v_iload (dk cd_La_law13 8 rfl) rfl ?_
  refine v_if_ne (tgt := 910) (dk cd_La_law13 9 rfl) rfl (fun q9 => ?_) (fun q9 => ?_)
  · refine v_goto (tgt := 1426) (dk cd_La_law13 19 rfl) rfl ?_
    exact V.drop 5 (V.drop 6 (kont A8 ⟨_, ad', _, i8, f8, z', had, I3, R8, K.kspCamp, by rw [hM.1]; exact hb1, by rw [hM.1]; exact hb2⟩))
  · have hz := hz q9
    refine v_aload_n (dk cd_La_law13 10 rfl) rfl ?_
    refine v_iconst (v := 0) (dk cd_La_law13 11 rfl) (by decide) ?_
    refine v_lald (j := 2) (dk cd_La_law13 12 rfl) (I3.2.2.1 oa _ FQ.oa).1 (by decide) rfl (by decide) rfl ?_
    refine v_iload (dk cd_La_law13 13 rfl) rfl ?_
    refine v_i2l (dk cd_La_law13 14 rfl) ?_
    refine v_lcmp_eq (tgt := 910) (dk cd_La_law13 15 rfl) (dk cd_La_law13 16 rfl) rfl (fun _ => ?_) (fun q8 => absurd hz q8)
    refine v_goto (tgt := 1426) (dk cd_La_law13 19 rfl) rfl ?_
    exact V.drop 5 (V.drop 6 (kont A8 ⟨_, ad', _, i8, f8, z', had, I3, R8, K.kspCamp, by rw [hM.1]; exact hb1, by rw [hM.1]; exact hb2⟩))
set_option maxRecDepth 100000 in
set_option maxHeartbeats 4000000 in
theorem lw_c12 (hscr : Scr (gg u) b n xs) (h6 : 6 * k + 6 ≤ n) (hn : n ≤ 3072) (hoa : ¬ (m ≤ oa ∧ oa < m + 43)) (I : Inv (FQ m i f oa z) S ad A) (R : Rel S t i f) (K : SOK S) (hgl : A.2.1 + 16 ≤ gL (gg u)) (hgs : A.2.2 + 400 ≤ gS (gg u)) (kont : ∀ A', LJ (ad 0 0) m oa A A' → V (gg u) 8 mm_La_law 1426 [some (.ref b), some (.ref (ad 0 0)), some (.ref m), some (.ref oa), some (.int (nI (6 * k))), none, none] [] A' Φ) : V (gg u) 8 mm_La_law 913 [some (.ref b), some (.ref (ad 0 0)), some (.ref m), some (.ref oa), some (.int (nI (6 * k))), none, none] [] A Φ := by
  refine v_aload_n (dk cd_La_law13 20 rfl) rfl ?_
  refine v_aload_n (dk cd_La_law13 21 rfl) rfl ?_
  refine v_iload (dk cd_La_law13 22 rfl) rfl ?_
  refine v_iconst (v := nI 1) (dk cd_La_law13 23 rfl) (by decide) ?_
  refine v_iaddN (dk cd_La_law13 24 rfl) ?_
  refine v_ialdO (dk cd_La_law13 25 rfl) hscr (by omega) ?_
  refine v_aload_n (dk cd_La_law13 26 rfl) rfl ?_
  refine v_iload (dk cd_La_law13 27 rfl) rfl ?_
  refine v_iconst (v := nI 2) (dk cd_La_law13 28 rfl) (by decide) ?_
  refine v_iaddN (dk cd_La_law13 29 rfl) ?_
  refine v_ialdO (dk cd_La_law13 30 rfl) hscr (by omega) ?_
  refine v_aload_n (dk cd_La_law13 31 rfl) rfl ?_
  refine v_callsW (dk cd_La_law13 32 rfl) cs_La_126 (as := [_, _, _, _]) rfl rfl (Nat.le_of_ble_eq_true rfl) (by simp [Value.category]) (La_miss_ok I K hoa hgl hgs) wp_no (fun v9 A9 hq => ?_)
  obtain ⟨k9, ad', z', e9, had, I2, hb1, hb2, hres⟩ := hq
  cases e9
  refine v_istore (dk cd_La_law13 33 rfl) (by decide) rfl ?_
  refine v_aload_n (dk cd_La_law13 34 rfl) rfl ?_
  refine v_aload_n (dk cd_La_law13 35 rfl) rfl ?_
  refine v_iload (dk cd_La_law13 36 rfl) rfl ?_
  refine v_iconst (v := nI 1) (dk cd_La_law13 37 rfl) (by decide) ?_
  refine v_iaddN (dk cd_La_law13 38 rfl) ?_
  refine v_ialdO (dk cd_La_law13 39 rfl) hscr (by omega) ?_
  refine v_aload_n (dk cd_La_law14 0 rfl) rfl ?_
  refine v_iload (dk cd_La_law14 1 rfl) rfl ?_
  refine v_iconst (v := nI 2) (dk cd_La_law14 2 rfl) (by decide) ?_
  refine v_iaddN (dk cd_La_law14 3 rfl) ?_
  refine v_ialdO (dk cd_La_law14 4 rfl) hscr (by omega) ?_
  refine v_callv (r := ("AreaWarningsModel", TT_Mo, 49)) (dk cd_La_law14 5 rfl) cv_La_128 rfl (FQ.mh I2 hoa).2.2.1 (as := [_, _]) rfl rfl (Nat.le_of_ble_eq_true rfl) (by simp [Value.category]) (Mo_miss_ok (FQ.mh I2 hoa) R K) pm_no' (fun v8 A8 hq => ?_)
  obtain ⟨x8, i8, f8, e8, hM, hres2⟩ := hq
  cases e8
  have I3 := FQ.back I2 hoa hM
  obtain ⟨h0, hz, R8⟩ := both hres hres2 (fun kd hkd => by rcases spMiss_kd.2 _ hkd with rfl | rfl <;> decide)
  refine v_istore (dk cd_La_law14 6 rfl) (by decide) rfl ?_
  refine v_aload_n (dk cd_La_law14 7 rfl) rfl ?_
  refine v_rv (r := ("AreaWarningsModel", TT_Mo, 49)) (dk cd_La_law14 8 rfl) cv_La_82 rfl hM.2.2.1 (as := []) rfl rfl (Nat.le_of_ble_eq_true rfl) (by simp [Value.category]) (Mo_thrown_ok hM) ?_
  refine v_iload (dk cd_La_law14 9 rfl) rfl ?_
  refine v_icmp_eq (tgt := 961) (dk cd_La_law14 10 rfl) rfl (fun _ => ?_) (fun q9 => absurd h0 q9)
  refine v_iload (dk cd_La_law14 13 rfl) rfl ?_
  refine v_if_ne (tgt := 978) (dk cd_La_law14 14 rfl) rfl (fun q9 => ?_) (fun q9 => ?_)
  · refine v_goto (tgt := 1426) (dk cd_La_law14 24 rfl) rfl ?_
    exact V.drop 5 (V.drop 6 (kont A8 ⟨_, ad', _, i8, f8, z', had, I3, R8, K.kspMiss, by rw [hM.1]; exact hb1, by rw [hM.1]; exact hb2⟩))
  · have hz := hz q9
    refine v_aload_n (dk cd_La_law14 15 rfl) rfl ?_
    refine v_iconst (v := 0) (dk cd_La_law14 16 rfl) (by decide) ?_
    refine v_lald (j := 2) (dk cd_La_law14 17 rfl) (I3.2.2.1 oa _ FQ.oa).1 (by decide) rfl (by decide) rfl ?_
    refine v_iload (dk cd_La_law14 18 rfl) rfl ?_
    refine v_i2l (dk cd_La_law14 19 rfl) ?_
    refine v_lcmp_eq (tgt := 978) (dk cd_La_law14 20 rfl) (dk cd_La_law14 21 rfl) rfl (fun _ => ?_) (fun q8 => absurd hz q8)
    refine v_goto (tgt := 1426) (dk cd_La_law14 24 rfl) rfl ?_
    exact V.drop 5 (V.drop 6 (kont A8 ⟨_, ad', _, i8, f8, z', had, I3, R8, K.kspMiss, by rw [hM.1]; exact hb1, by rw [hM.1]; exact hb2⟩))
set_option maxRecDepth 100000 in
set_option maxHeartbeats 4000000 in
theorem lw_c13 (hscr : Scr (gg u) b n xs) (h6 : 6 * k + 6 ≤ n) (hn : n ≤ 3072) (hoa : ¬ (m ≤ oa ∧ oa < m + 43)) (I : Inv (FQ m i f oa z) S ad A) (R : Rel S t i f) (K : SOK S) (hgl : A.2.1 + 16 ≤ gL (gg u)) (hgs : A.2.2 + 400 ≤ gS (gg u)) (kont : ∀ A', LJ (ad 0 0) m oa A A' → V (gg u) 8 mm_La_law 1426 [some (.ref b), some (.ref (ad 0 0)), some (.ref m), some (.ref oa), some (.int (nI (6 * k))), none, none] [] A' Φ) : V (gg u) 8 mm_La_law 981 [some (.ref b), some (.ref (ad 0 0)), some (.ref m), some (.ref oa), some (.int (nI (6 * k))), none, none] [] A Φ := by
  refine v_aload_n (dk cd_La_law14 25 rfl) rfl ?_
  refine v_aload_n (dk cd_La_law14 26 rfl) rfl ?_
  refine v_iload (dk cd_La_law14 27 rfl) rfl ?_
  refine v_iconst (v := nI 1) (dk cd_La_law14 28 rfl) (by decide) ?_
  refine v_iaddN (dk cd_La_law14 29 rfl) ?_
  refine v_ialdO (dk cd_La_law14 30 rfl) hscr (by omega) ?_
  refine v_aload_n (dk cd_La_law14 31 rfl) rfl ?_
  refine v_iload (dk cd_La_law14 32 rfl) rfl ?_
  refine v_iconst (v := nI 2) (dk cd_La_law14 33 rfl) (by decide) ?_
  refine v_iaddN (dk cd_La_law14 34 rfl) ?_
  refine v_ialdO (dk cd_La_law14 35 rfl) hscr (by omega) ?_
  refine v_aload_n (dk cd_La_law14 36 rfl) rfl ?_
  refine v_callsW (dk cd_La_law14 37 rfl) cs_La_129 (as := [_, _, _, _]) rfl rfl (Nat.le_of_ble_eq_true rfl) (by simp [Value.category]) (La_covers_ok I K hoa hgl hgs) wp_no (fun v9 A9 hq => ?_)
  obtain ⟨k9, ad', z', e9, had, I2, hb1, hb2, hres⟩ := hq
  cases e9
  refine v_istore (dk cd_La_law14 38 rfl) (by decide) rfl ?_
  refine v_aload_n (dk cd_La_law14 39 rfl) rfl ?_
  refine v_aload_n (dk cd_La_law15 0 rfl) rfl ?_
  refine v_iload (dk cd_La_law15 1 rfl) rfl ?_
  refine v_iconst (v := nI 1) (dk cd_La_law15 2 rfl) (by decide) ?_
  refine v_iaddN (dk cd_La_law15 3 rfl) ?_
  refine v_ialdO (dk cd_La_law15 4 rfl) hscr (by omega) ?_
  refine v_aload_n (dk cd_La_law15 5 rfl) rfl ?_
  refine v_iload (dk cd_La_law15 6 rfl) rfl ?_
  refine v_iconst (v := nI 2) (dk cd_La_law15 7 rfl) (by decide) ?_
  refine v_iaddN (dk cd_La_law15 8 rfl) ?_
  refine v_ialdO (dk cd_La_law15 9 rfl) hscr (by omega) ?_
  refine v_callv (r := ("AreaWarningsModel", TT_Mo, 49)) (dk cd_La_law15 10 rfl) cv_La_131 rfl (FQ.mh I2 hoa).2.2.1 (as := [_, _]) rfl rfl (Nat.le_of_ble_eq_true rfl) (by simp [Value.category]) (Mo_covers_ok (FQ.mh I2 hoa) R K) pm_no' (fun v8 A8 hq => ?_)
  obtain ⟨x8, i8, f8, e8, hM, hres2⟩ := hq
  cases e8
  have I3 := FQ.back I2 hoa hM
  obtain ⟨h0, hz, R8⟩ := both hres hres2 (fun kd hkd => by rcases spCovers_kd.2 _ hkd with rfl | rfl <;> decide)
  have hx8 : k9 = 0 → x8 = 0 ∨ x8 = 1 := by
    intro hk0
    rcases hqq : (spCovers S (xs (6 * k + 1)) (xs (6 * k + 2))).2 with v | kd
    · rw [hqq] at hres2
      obtain ⟨bb, hbb⟩ := spCovers_kd.1 _ hqq
      have e := hres2.2
      rw [hbb] at e
      cases e
      cases bb
      · exact Or.inl rfl
      · exact Or.inr rfl
    · rw [hqq] at hres
      have hres : k9 = (xc [0, 2, 0, 1]) kd := hres
      rw [hk0] at hres
      rcases spCovers_kd.2 _ hqq with rfl | rfl <;> exact absurd hres (by decide)
  refine v_istore (dk cd_La_law15 11 rfl) (by decide) rfl ?_
  refine v_aload_n (dk cd_La_law15 12 rfl) rfl ?_
  refine v_rv (r := ("AreaWarningsModel", TT_Mo, 49)) (dk cd_La_law15 13 rfl) cv_La_82 rfl hM.2.2.1 (as := []) rfl rfl (Nat.le_of_ble_eq_true rfl) (by simp [Value.category]) (Mo_thrown_ok hM) ?_
  refine v_iload (dk cd_La_law15 14 rfl) rfl ?_
  refine v_icmp_eq (tgt := 1029) (dk cd_La_law15 15 rfl) rfl (fun _ => ?_) (fun q9 => absurd h0 q9)
  refine v_iload (dk cd_La_law15 18 rfl) rfl ?_
  refine v_if_ne (tgt := 1053) (dk cd_La_law15 19 rfl) rfl (fun q9 => ?_) (fun q9 => ?_)
  · refine v_goto (tgt := 1426) (dk cd_La_law15 32 rfl) rfl ?_
    exact V.drop 5 (V.drop 6 (kont A8 ⟨_, ad', _, i8, f8, z', had, I3, R8, (show SOK (spCovers S (xs (6 * k + 1)) (xs (6 * k + 2))).1 by rw [cov_same]; exact K), by rw [hM.1]; exact hb1, by rw [hM.1]; exact hb2⟩))
  · have hz := hz q9
    have hx8 := hx8 q9
    refine v_aload_n (dk cd_La_law15 20 rfl) rfl ?_
    refine v_iconst (v := 0) (dk cd_La_law15 21 rfl) (by decide) ?_
    refine v_lald (j := 2) (dk cd_La_law15 22 rfl) (I3.2.2.1 oa _ FQ.oa).1 (by decide) rfl (by decide) rfl ?_
    refine v_iload (dk cd_La_law15 23 rfl) rfl ?_
    refine v_if_eq (tgt := 1046) (dk cd_La_law15 24 rfl) rfl (fun q7 => ?_) (fun q7 => ?_)
    · refine v_lconst (v := 0) (dk cd_La_law15 27 rfl) (by decide) ?_
      refine v_lcmp_eq (tgt := 1053) (dk cd_La_law15 28 rfl) (dk cd_La_law15 29 rfl) rfl (fun _ => ?_) (fun q8 => absurd (by rw [hz, q7]; rfl) q8)
      refine v_goto (tgt := 1426) (dk cd_La_law15 32 rfl) rfl ?_
      exact V.drop 5 (V.drop 6 (kont A8 ⟨_, ad', _, i8, f8, z', had, I3, R8, (show SOK (spCovers S (xs (6 * k + 1)) (xs (6 * k + 2))).1 by rw [cov_same]; exact K), by rw [hM.1]; exact hb1, by rw [hM.1]; exact hb2⟩))
    · refine v_lconst (v := 1) (dk cd_La_law15 25 rfl) (by decide) ?_
      refine v_goto (tgt := 1047) (dk cd_La_law15 26 rfl) rfl ?_
      refine v_lcmp_eq (tgt := 1053) (dk cd_La_law15 28 rfl) (dk cd_La_law15 29 rfl) rfl (fun _ => ?_) (fun q8 => absurd (by rw [hz, hx8.resolve_left q7]; rfl) q8)
      refine v_goto (tgt := 1426) (dk cd_La_law15 32 rfl) rfl ?_
      exact V.drop 5 (V.drop 6 (kont A8 ⟨_, ad', _, i8, f8, z', had, I3, R8, (show SOK (spCovers S (xs (6 * k + 1)) (xs (6 * k + 2))).1 by rw [cov_same]; exact K), by rw [hM.1]; exact hb1, by rw [hM.1]; exact hb2⟩))
set_option maxRecDepth 100000 in
set_option maxHeartbeats 4000000 in
theorem lw_c15 (hscr : Scr (gg u) b n xs) (h6 : 6 * k + 6 ≤ n) (hn : n ≤ 3072) (hoa : ¬ (m ≤ oa ∧ oa < m + 43)) (I : Inv (FQ m i f oa z) S ad A) (R : Rel S t i f) (K : SOK S) (hgl : A.2.1 + 16 ≤ gL (gg u)) (hgs : A.2.2 + 400 ≤ gS (gg u)) (kont : ∀ A', LJ (ad 0 0) m oa A A' → V (gg u) 8 mm_La_law 1426 [some (.ref b), some (.ref (ad 0 0)), some (.ref m), some (.ref oa), some (.int (nI (6 * k))), none, none] [] A' Φ) : V (gg u) 8 mm_La_law 1081 [some (.ref b), some (.ref (ad 0 0)), some (.ref m), some (.ref oa), some (.int (nI (6 * k))), none, none] [] A Φ := by
  refine v_aload_n (dk cd_La_law16 10 rfl) rfl ?_
  refine v_aload_n (dk cd_La_law16 11 rfl) rfl ?_
  refine v_iload (dk cd_La_law16 12 rfl) rfl ?_
  refine v_iconst (v := nI 1) (dk cd_La_law16 13 rfl) (by decide) ?_
  refine v_iaddN (dk cd_La_law16 14 rfl) ?_
  refine v_ialdO (dk cd_La_law16 15 rfl) hscr (by omega) ?_
  refine v_aload_n (dk cd_La_law16 16 rfl) rfl ?_
  refine v_iload (dk cd_La_law16 17 rfl) rfl ?_
  refine v_iconst (v := nI 2) (dk cd_La_law16 18 rfl) (by decide) ?_
  refine v_iaddN (dk cd_La_law16 19 rfl) ?_
  refine v_ialdO (dk cd_La_law16 20 rfl) hscr (by omega) ?_
  refine v_aload_n (dk cd_La_law16 21 rfl) rfl ?_
  refine v_iload (dk cd_La_law16 22 rfl) rfl ?_
  refine v_iconst (v := nI 3) (dk cd_La_law16 23 rfl) (by decide) ?_
  refine v_iaddN (dk cd_La_law16 24 rfl) ?_
  refine v_ialdO (dk cd_La_law16 25 rfl) hscr (by omega) ?_
  refine v_aload_n (dk cd_La_law16 26 rfl) rfl ?_
  refine v_callsW (dk cd_La_law16 27 rfl) cs_La_136 (as := [_, _, _, _, _]) rfl rfl (Nat.le_of_ble_eq_true rfl) (by simp [Value.category]) (La_listed_ok I K hoa hgl hgs) wp_no (fun v9 A9 hq => ?_)
  obtain ⟨k9, ad', z', e9, had, I2, hb1, hb2, hres⟩ := hq
  cases e9
  refine v_istore (dk cd_La_law16 28 rfl) (by decide) rfl ?_
  refine v_aload_n (dk cd_La_law16 29 rfl) rfl ?_
  refine v_aload_n (dk cd_La_law16 30 rfl) rfl ?_
  refine v_iload (dk cd_La_law16 31 rfl) rfl ?_
  refine v_iconst (v := nI 1) (dk cd_La_law16 32 rfl) (by decide) ?_
  refine v_iaddN (dk cd_La_law16 33 rfl) ?_
  refine v_ialdO (dk cd_La_law16 34 rfl) hscr (by omega) ?_
  refine v_aload_n (dk cd_La_law16 35 rfl) rfl ?_
  refine v_iload (dk cd_La_law16 36 rfl) rfl ?_
  refine v_iconst (v := nI 2) (dk cd_La_law16 37 rfl) (by decide) ?_
  refine v_iaddN (dk cd_La_law16 38 rfl) ?_
  refine v_ialdO (dk cd_La_law16 39 rfl) hscr (by omega) ?_
  refine v_aload_n (dk cd_La_law17 0 rfl) rfl ?_
  refine v_iload (dk cd_La_law17 1 rfl) rfl ?_
  refine v_iconst (v := nI 3) (dk cd_La_law17 2 rfl) (by decide) ?_
  refine v_iaddN (dk cd_La_law17 3 rfl) ?_
  refine v_ialdO (dk cd_La_law17 4 rfl) hscr (by omega) ?_
  refine v_callv (r := ("AreaWarningsModel", TT_Mo, 49)) (dk cd_La_law17 5 rfl) cv_La_138 rfl (FQ.mh I2 hoa).2.2.1 (as := [_, _, _]) rfl rfl (Nat.le_of_ble_eq_true rfl) (by simp [Value.category]) (Mo_listed_ok (FQ.mh I2 hoa) R K) pm_no' (fun v8 A8 hq => ?_)
  obtain ⟨x8, i8, f8, e8, hM, hres2⟩ := hq
  cases e8
  have I3 := FQ.back I2 hoa hM
  obtain ⟨h0, hz, R8⟩ := both hres hres2 (fun kd hkd => by rcases spListed_kd.2 _ hkd with rfl | rfl <;> decide)
  refine v_istore (dk cd_La_law17 6 rfl) (by decide) rfl ?_
  refine v_aload_n (dk cd_La_law17 7 rfl) rfl ?_
  refine v_rv (r := ("AreaWarningsModel", TT_Mo, 49)) (dk cd_La_law17 8 rfl) cv_La_82 rfl hM.2.2.1 (as := []) rfl rfl (Nat.le_of_ble_eq_true rfl) (by simp [Value.category]) (Mo_thrown_ok hM) ?_
  refine v_iload (dk cd_La_law17 9 rfl) rfl ?_
  refine v_icmp_eq (tgt := 1141) (dk cd_La_law17 10 rfl) rfl (fun _ => ?_) (fun q9 => absurd h0 q9)
  refine v_iload (dk cd_La_law17 13 rfl) rfl ?_
  refine v_if_ne (tgt := 1158) (dk cd_La_law17 14 rfl) rfl (fun q9 => ?_) (fun q9 => ?_)
  · refine v_goto (tgt := 1426) (dk cd_La_law17 24 rfl) rfl ?_
    exact V.drop 5 (V.drop 6 (kont A8 ⟨_, ad', _, i8, f8, z', had, I3, R8, (show SOK (spListed S (xs (6 * k + 1)) (xs (6 * k + 2)) (xs (6 * k + 3))).1 by unfold spListed; repeat' split; all_goals exact K), by rw [hM.1]; exact hb1, by rw [hM.1]; exact hb2⟩))
  · have hz := hz q9
    refine v_aload_n (dk cd_La_law17 15 rfl) rfl ?_
    refine v_iconst (v := 0) (dk cd_La_law17 16 rfl) (by decide) ?_
    refine v_lald (j := 2) (dk cd_La_law17 17 rfl) (I3.2.2.1 oa _ FQ.oa).1 (by decide) rfl (by decide) rfl ?_
    refine v_iload (dk cd_La_law17 18 rfl) rfl ?_
    refine v_i2l (dk cd_La_law17 19 rfl) ?_
    refine v_lcmp_eq (tgt := 1158) (dk cd_La_law17 20 rfl) (dk cd_La_law17 21 rfl) rfl (fun _ => ?_) (fun q8 => absurd hz q8)
    refine v_goto (tgt := 1426) (dk cd_La_law17 24 rfl) rfl ?_
    exact V.drop 5 (V.drop 6 (kont A8 ⟨_, ad', _, i8, f8, z', had, I3, R8, (show SOK (spListed S (xs (6 * k + 1)) (xs (6 * k + 2)) (xs (6 * k + 3))).1 by unfold spListed; repeat' split; all_goals exact K), by rw [hM.1]; exact hb1, by rw [hM.1]; exact hb2⟩))
set_option maxRecDepth 100000 in
set_option maxHeartbeats 4000000 in
theorem lw_c16 (hscr : Scr (gg u) b n xs) (h6 : 6 * k + 6 ≤ n) (hn : n ≤ 3072) (hoa : ¬ (m ≤ oa ∧ oa < m + 43)) (I : Inv (FQ m i f oa z) S ad A) (R : Rel S t i f) (K : SOK S) (hgl : A.2.1 + 16 ≤ gL (gg u)) (hgs : A.2.2 + 400 ≤ gS (gg u)) (kont : ∀ A', LJ (ad 0 0) m oa A A' → V (gg u) 8 mm_La_law 1426 [some (.ref b), some (.ref (ad 0 0)), some (.ref m), some (.ref oa), some (.int (nI (6 * k))), none, none] [] A' Φ) : V (gg u) 8 mm_La_law 1161 [some (.ref b), some (.ref (ad 0 0)), some (.ref m), some (.ref oa), some (.int (nI (6 * k))), none, none] [] A Φ := by
  refine v_aload_n (dk cd_La_law17 25 rfl) rfl ?_
  refine v_aload_n (dk cd_La_law17 26 rfl) rfl ?_
  refine v_iload (dk cd_La_law17 27 rfl) rfl ?_
  refine v_iconst (v := nI 1) (dk cd_La_law17 28 rfl) (by decide) ?_
  refine v_iaddN (dk cd_La_law17 29 rfl) ?_
  refine v_ialdO (dk cd_La_law17 30 rfl) hscr (by omega) ?_
  refine v_aload_n (dk cd_La_law17 31 rfl) rfl ?_
  refine v_iload (dk cd_La_law17 32 rfl) rfl ?_
  refine v_iconst (v := nI 2) (dk cd_La_law17 33 rfl) (by decide) ?_
  refine v_iaddN (dk cd_La_law17 34 rfl) ?_
  refine v_ialdO (dk cd_La_law17 35 rfl) hscr (by omega) ?_
  refine v_aload_n (dk cd_La_law17 36 rfl) rfl ?_
  refine v_iload (dk cd_La_law17 37 rfl) rfl ?_
  refine v_iconst (v := nI 3) (dk cd_La_law17 38 rfl) (by decide) ?_
  refine v_iaddN (dk cd_La_law17 39 rfl) ?_
  refine v_ialdO (dk cd_La_law18 0 rfl) hscr (by omega) ?_
  refine v_aload_n (dk cd_La_law18 1 rfl) rfl ?_
  refine v_callsW (dk cd_La_law18 2 rfl) cs_La_139 (as := [_, _, _, _, _]) rfl rfl (Nat.le_of_ble_eq_true rfl) (by simp [Value.category]) (La_sent_ok I K hoa hgl hgs) wp_no (fun v9 A9 hq => ?_)
  obtain ⟨k9, ad', z', e9, had, I2, hb1, hb2, hres⟩ := hq
  cases e9
  refine v_istore (dk cd_La_law18 3 rfl) (by decide) rfl ?_
  refine v_aload_n (dk cd_La_law18 4 rfl) rfl ?_
  refine v_aload_n (dk cd_La_law18 5 rfl) rfl ?_
  refine v_iload (dk cd_La_law18 6 rfl) rfl ?_
  refine v_iconst (v := nI 1) (dk cd_La_law18 7 rfl) (by decide) ?_
  refine v_iaddN (dk cd_La_law18 8 rfl) ?_
  refine v_ialdO (dk cd_La_law18 9 rfl) hscr (by omega) ?_
  refine v_aload_n (dk cd_La_law18 10 rfl) rfl ?_
  refine v_iload (dk cd_La_law18 11 rfl) rfl ?_
  refine v_iconst (v := nI 2) (dk cd_La_law18 12 rfl) (by decide) ?_
  refine v_iaddN (dk cd_La_law18 13 rfl) ?_
  refine v_ialdO (dk cd_La_law18 14 rfl) hscr (by omega) ?_
  refine v_aload_n (dk cd_La_law18 15 rfl) rfl ?_
  refine v_iload (dk cd_La_law18 16 rfl) rfl ?_
  refine v_iconst (v := nI 3) (dk cd_La_law18 17 rfl) (by decide) ?_
  refine v_iaddN (dk cd_La_law18 18 rfl) ?_
  refine v_ialdO (dk cd_La_law18 19 rfl) hscr (by omega) ?_
  refine v_callv (r := ("AreaWarningsModel", TT_Mo, 49)) (dk cd_La_law18 20 rfl) cv_La_141 rfl (FQ.mh I2 hoa).2.2.1 (as := [_, _, _]) rfl rfl (Nat.le_of_ble_eq_true rfl) (by simp [Value.category]) (Mo_sent_ok (FQ.mh I2 hoa) R K) pm_no' (fun v8 A8 hq => ?_)
  obtain ⟨x8, i8, f8, e8, hM, hres2⟩ := hq
  cases e8
  have I3 := FQ.back I2 hoa hM
  obtain ⟨h0, hz, R8⟩ := both hres hres2 (fun kd hkd => by rcases spSent_kd.2 _ hkd with rfl | rfl <;> decide)
  refine v_istore (dk cd_La_law18 21 rfl) (by decide) rfl ?_
  refine v_aload_n (dk cd_La_law18 22 rfl) rfl ?_
  refine v_rv (r := ("AreaWarningsModel", TT_Mo, 49)) (dk cd_La_law18 23 rfl) cv_La_82 rfl hM.2.2.1 (as := []) rfl rfl (Nat.le_of_ble_eq_true rfl) (by simp [Value.category]) (Mo_thrown_ok hM) ?_
  refine v_iload (dk cd_La_law18 24 rfl) rfl ?_
  refine v_icmp_eq (tgt := 1221) (dk cd_La_law18 25 rfl) rfl (fun _ => ?_) (fun q9 => absurd h0 q9)
  refine v_iload (dk cd_La_law18 28 rfl) rfl ?_
  refine v_if_ne (tgt := 1238) (dk cd_La_law18 29 rfl) rfl (fun q9 => ?_) (fun q9 => ?_)
  · refine v_goto (tgt := 1426) (dk cd_La_law18 39 rfl) rfl ?_
    exact V.drop 5 (V.drop 6 (kont A8 ⟨_, ad', _, i8, f8, z', had, I3, R8, (show SOK (spSent S (xs (6 * k + 1)) (xs (6 * k + 2)) (xs (6 * k + 3))).1 by unfold spSent; repeat' split; all_goals exact K), by rw [hM.1]; exact hb1, by rw [hM.1]; exact hb2⟩))
  · have hz := hz q9
    refine v_aload_n (dk cd_La_law18 30 rfl) rfl ?_
    refine v_iconst (v := 0) (dk cd_La_law18 31 rfl) (by decide) ?_
    refine v_lald (j := 2) (dk cd_La_law18 32 rfl) (I3.2.2.1 oa _ FQ.oa).1 (by decide) rfl (by decide) rfl ?_
    refine v_iload (dk cd_La_law18 33 rfl) rfl ?_
    refine v_i2l (dk cd_La_law18 34 rfl) ?_
    refine v_lcmp_eq (tgt := 1238) (dk cd_La_law18 35 rfl) (dk cd_La_law18 36 rfl) rfl (fun _ => ?_) (fun q8 => absurd hz q8)
    refine v_goto (tgt := 1426) (dk cd_La_law18 39 rfl) rfl ?_
    exact V.drop 5 (V.drop 6 (kont A8 ⟨_, ad', _, i8, f8, z', had, I3, R8, (show SOK (spSent S (xs (6 * k + 1)) (xs (6 * k + 2)) (xs (6 * k + 3))).1 by unfold spSent; repeat' split; all_goals exact K), by rw [hM.1]; exact hb1, by rw [hM.1]; exact hb2⟩))
set_option maxRecDepth 100000 in
set_option maxHeartbeats 4000000 in
theorem lw_c17 (hscr : Scr (gg u) b n xs) (h6 : 6 * k + 6 ≤ n) (hn : n ≤ 3072) (hoa : ¬ (m ≤ oa ∧ oa < m + 43)) (I : Inv (FQ m i f oa z) S ad A) (R : Rel S t i f) (K : SOK S) (hgl : A.2.1 + 16 ≤ gL (gg u)) (hgs : A.2.2 + 400 ≤ gS (gg u)) (kont : ∀ A', LJ (ad 0 0) m oa A A' → V (gg u) 8 mm_La_law 1426 [some (.ref b), some (.ref (ad 0 0)), some (.ref m), some (.ref oa), some (.int (nI (6 * k))), none, none] [] A' Φ) : V (gg u) 8 mm_La_law 1241 [some (.ref b), some (.ref (ad 0 0)), some (.ref m), some (.ref oa), some (.int (nI (6 * k))), none, none] [] A Φ := by
  refine v_aload_n (dk cd_La_law19 0 rfl) rfl ?_
  refine v_aload_n (dk cd_La_law19 1 rfl) rfl ?_
  refine v_iload (dk cd_La_law19 2 rfl) rfl ?_
  refine v_iconst (v := nI 1) (dk cd_La_law19 3 rfl) (by decide) ?_
  refine v_iaddN (dk cd_La_law19 4 rfl) ?_
  refine v_ialdO (dk cd_La_law19 5 rfl) hscr (by omega) ?_
  refine v_aload_n (dk cd_La_law19 6 rfl) rfl ?_
  refine v_iload (dk cd_La_law19 7 rfl) rfl ?_
  refine v_iconst (v := nI 2) (dk cd_La_law19 8 rfl) (by decide) ?_
  refine v_iaddN (dk cd_La_law19 9 rfl) ?_
  refine v_ialdO (dk cd_La_law19 10 rfl) hscr (by omega) ?_
  refine v_aload_n (dk cd_La_law19 11 rfl) rfl ?_
  refine v_iload (dk cd_La_law19 12 rfl) rfl ?_
  refine v_iconst (v := nI 3) (dk cd_La_law19 13 rfl) (by decide) ?_
  refine v_iaddN (dk cd_La_law19 14 rfl) ?_
  refine v_ialdO (dk cd_La_law19 15 rfl) hscr (by omega) ?_
  refine v_aload_n (dk cd_La_law19 16 rfl) rfl ?_
  refine v_callsW (dk cd_La_law19 17 rfl) cs_La_142 (as := [_, _, _, _, _]) rfl rfl (Nat.le_of_ble_eq_true rfl) (by simp [Value.category]) (La_shown_ok I K hoa hgl hgs) wp_no (fun v9 A9 hq => ?_)
  obtain ⟨k9, ad', z', e9, had, I2, hb1, hb2, hres⟩ := hq
  cases e9
  refine v_istore (dk cd_La_law19 18 rfl) (by decide) rfl ?_
  refine v_aload_n (dk cd_La_law19 19 rfl) rfl ?_
  refine v_aload_n (dk cd_La_law19 20 rfl) rfl ?_
  refine v_iload (dk cd_La_law19 21 rfl) rfl ?_
  refine v_iconst (v := nI 1) (dk cd_La_law19 22 rfl) (by decide) ?_
  refine v_iaddN (dk cd_La_law19 23 rfl) ?_
  refine v_ialdO (dk cd_La_law19 24 rfl) hscr (by omega) ?_
  refine v_aload_n (dk cd_La_law19 25 rfl) rfl ?_
  refine v_iload (dk cd_La_law19 26 rfl) rfl ?_
  refine v_iconst (v := nI 2) (dk cd_La_law19 27 rfl) (by decide) ?_
  refine v_iaddN (dk cd_La_law19 28 rfl) ?_
  refine v_ialdO (dk cd_La_law19 29 rfl) hscr (by omega) ?_
  refine v_aload_n (dk cd_La_law19 30 rfl) rfl ?_
  refine v_iload (dk cd_La_law19 31 rfl) rfl ?_
  refine v_iconst (v := nI 3) (dk cd_La_law19 32 rfl) (by decide) ?_
  refine v_iaddN (dk cd_La_law19 33 rfl) ?_
  refine v_ialdO (dk cd_La_law19 34 rfl) hscr (by omega) ?_
  refine v_callv (r := ("AreaWarningsModel", TT_Mo, 49)) (dk cd_La_law19 35 rfl) cv_La_144 rfl (FQ.mh I2 hoa).2.2.1 (as := [_, _, _]) rfl rfl (Nat.le_of_ble_eq_true rfl) (by simp [Value.category]) (Mo_shown_ok (FQ.mh I2 hoa) R K) pm_no' (fun v8 A8 hq => ?_)
  obtain ⟨x8, i8, f8, e8, hM, hres2⟩ := hq
  cases e8
  have I3 := FQ.back I2 hoa hM
  obtain ⟨h0, hz, R8⟩ := both hres hres2 (fun kd hkd => by rcases spShown_kd.2 _ hkd with rfl | rfl <;> decide)
  refine v_istore (dk cd_La_law19 36 rfl) (by decide) rfl ?_
  refine v_aload_n (dk cd_La_law19 37 rfl) rfl ?_
  refine v_rv (r := ("AreaWarningsModel", TT_Mo, 49)) (dk cd_La_law19 38 rfl) cv_La_82 rfl hM.2.2.1 (as := []) rfl rfl (Nat.le_of_ble_eq_true rfl) (by simp [Value.category]) (Mo_thrown_ok hM) ?_
  refine v_iload (dk cd_La_law19 39 rfl) rfl ?_
  refine v_icmp_eq (tgt := 1301) (dk cd_La_law20 0 rfl) rfl (fun _ => ?_) (fun q9 => absurd h0 q9)
  refine v_iload (dk cd_La_law20 3 rfl) rfl ?_
  refine v_if_ne (tgt := 1318) (dk cd_La_law20 4 rfl) rfl (fun q9 => ?_) (fun q9 => ?_)
  · refine v_goto (tgt := 1426) (dk cd_La_law20 14 rfl) rfl ?_
    exact V.drop 5 (V.drop 6 (kont A8 ⟨_, ad', _, i8, f8, z', had, I3, R8, (show SOK (spShown S (xs (6 * k + 1)) (xs (6 * k + 2)) (xs (6 * k + 3))).1 by unfold spShown; repeat' split; all_goals exact K), by rw [hM.1]; exact hb1, by rw [hM.1]; exact hb2⟩))
  · have hz := hz q9
    refine v_aload_n (dk cd_La_law20 5 rfl) rfl ?_
    refine v_iconst (v := 0) (dk cd_La_law20 6 rfl) (by decide) ?_
    refine v_lald (j := 2) (dk cd_La_law20 7 rfl) (I3.2.2.1 oa _ FQ.oa).1 (by decide) rfl (by decide) rfl ?_
    refine v_iload (dk cd_La_law20 8 rfl) rfl ?_
    refine v_i2l (dk cd_La_law20 9 rfl) ?_
    refine v_lcmp_eq (tgt := 1318) (dk cd_La_law20 10 rfl) (dk cd_La_law20 11 rfl) rfl (fun _ => ?_) (fun q8 => absurd hz q8)
    refine v_goto (tgt := 1426) (dk cd_La_law20 14 rfl) rfl ?_
    exact V.drop 5 (V.drop 6 (kont A8 ⟨_, ad', _, i8, f8, z', had, I3, R8, (show SOK (spShown S (xs (6 * k + 1)) (xs (6 * k + 2)) (xs (6 * k + 3))).1 by unfold spShown; repeat' split; all_goals exact K), by rw [hM.1]; exact hb1, by rw [hM.1]; exact hb2⟩))
set_option maxRecDepth 100000 in
set_option maxHeartbeats 4000000 in
theorem lw_c18 (hscr : Scr (gg u) b n xs) (h6 : 6 * k + 6 ≤ n) (hn : n ≤ 3072) (hoa : ¬ (m ≤ oa ∧ oa < m + 43)) (I : Inv (FQ m i f oa z) S ad A) (R : Rel S t i f) (K : SOK S) (hgl : A.2.1 + 16 ≤ gL (gg u)) (hgs : A.2.2 + 400 ≤ gS (gg u)) (kont : ∀ A', LJ (ad 0 0) m oa A A' → V (gg u) 8 mm_La_law 1426 [some (.ref b), some (.ref (ad 0 0)), some (.ref m), some (.ref oa), some (.int (nI (6 * k))), none, none] [] A' Φ) : V (gg u) 8 mm_La_law 1321 [some (.ref b), some (.ref (ad 0 0)), some (.ref m), some (.ref oa), some (.int (nI (6 * k))), none, none] [] A Φ := by
  refine v_aload_n (dk cd_La_law20 15 rfl) rfl ?_
  refine v_aload_n (dk cd_La_law20 16 rfl) rfl ?_
  refine v_iload (dk cd_La_law20 17 rfl) rfl ?_
  refine v_iconst (v := nI 1) (dk cd_La_law20 18 rfl) (by decide) ?_
  refine v_iaddN (dk cd_La_law20 19 rfl) ?_
  refine v_ialdO (dk cd_La_law20 20 rfl) hscr (by omega) ?_
  refine v_aload_n (dk cd_La_law20 21 rfl) rfl ?_
  refine v_iload (dk cd_La_law20 22 rfl) rfl ?_
  refine v_iconst (v := nI 2) (dk cd_La_law20 23 rfl) (by decide) ?_
  refine v_iaddN (dk cd_La_law20 24 rfl) ?_
  refine v_ialdO (dk cd_La_law20 25 rfl) hscr (by omega) ?_
  refine v_aload_n (dk cd_La_law20 26 rfl) rfl ?_
  refine v_iload (dk cd_La_law20 27 rfl) rfl ?_
  refine v_iconst (v := nI 3) (dk cd_La_law20 28 rfl) (by decide) ?_
  refine v_iaddN (dk cd_La_law20 29 rfl) ?_
  refine v_ialdO (dk cd_La_law20 30 rfl) hscr (by omega) ?_
  refine v_aload_n (dk cd_La_law20 31 rfl) rfl ?_
  refine v_callsW (dk cd_La_law20 32 rfl) cs_La_145 (as := [_, _, _, _, _]) rfl rfl (Nat.le_of_ble_eq_true rfl) (by simp [Value.category]) (La_shownByte_ok I K hoa hgl hgs) wp_no (fun v9 A9 hq => ?_)
  obtain ⟨k9, ad', z', e9, had, I2, hb1, hb2, hres⟩ := hq
  cases e9
  refine v_istore (dk cd_La_law20 33 rfl) (by decide) rfl ?_
  refine v_aload_n (dk cd_La_law20 34 rfl) rfl ?_
  refine v_aload_n (dk cd_La_law20 35 rfl) rfl ?_
  refine v_iload (dk cd_La_law20 36 rfl) rfl ?_
  refine v_iconst (v := nI 1) (dk cd_La_law20 37 rfl) (by decide) ?_
  refine v_iaddN (dk cd_La_law20 38 rfl) ?_
  refine v_ialdO (dk cd_La_law20 39 rfl) hscr (by omega) ?_
  refine v_aload_n (dk cd_La_law21 0 rfl) rfl ?_
  refine v_iload (dk cd_La_law21 1 rfl) rfl ?_
  refine v_iconst (v := nI 2) (dk cd_La_law21 2 rfl) (by decide) ?_
  refine v_iaddN (dk cd_La_law21 3 rfl) ?_
  refine v_ialdO (dk cd_La_law21 4 rfl) hscr (by omega) ?_
  refine v_aload_n (dk cd_La_law21 5 rfl) rfl ?_
  refine v_iload (dk cd_La_law21 6 rfl) rfl ?_
  refine v_iconst (v := nI 3) (dk cd_La_law21 7 rfl) (by decide) ?_
  refine v_iaddN (dk cd_La_law21 8 rfl) ?_
  refine v_ialdO (dk cd_La_law21 9 rfl) hscr (by omega) ?_
  refine v_callv (r := ("AreaWarningsModel", TT_Mo, 49)) (dk cd_La_law21 10 rfl) cv_La_147 rfl (FQ.mh I2 hoa).2.2.1 (as := [_, _, _]) rfl rfl (Nat.le_of_ble_eq_true rfl) (by simp [Value.category]) (Mo_shownByte_ok (FQ.mh I2 hoa) R K) pm_no' (fun v8 A8 hq => ?_)
  obtain ⟨x8, i8, f8, e8, hM, hres2⟩ := hq
  cases e8
  have I3 := FQ.back I2 hoa hM
  obtain ⟨h0, hz, R8⟩ := both hres hres2 (fun kd hkd => by have hkd := spShownByte_kd.2 _ hkd; subst hkd; decide)
  refine v_istore (dk cd_La_law21 11 rfl) (by decide) rfl ?_
  refine v_aload_n (dk cd_La_law21 12 rfl) rfl ?_
  refine v_rv (r := ("AreaWarningsModel", TT_Mo, 49)) (dk cd_La_law21 13 rfl) cv_La_82 rfl hM.2.2.1 (as := []) rfl rfl (Nat.le_of_ble_eq_true rfl) (by simp [Value.category]) (Mo_thrown_ok hM) ?_
  refine v_iload (dk cd_La_law21 14 rfl) rfl ?_
  refine v_icmp_eq (tgt := 1381) (dk cd_La_law21 15 rfl) rfl (fun _ => ?_) (fun q9 => absurd h0 q9)
  refine v_iload (dk cd_La_law21 18 rfl) rfl ?_
  refine v_if_ne (tgt := 1398) (dk cd_La_law21 19 rfl) rfl (fun q9 => ?_) (fun q9 => ?_)
  · refine v_goto (tgt := 1426) (dk cd_La_law21 29 rfl) rfl ?_
    exact V.drop 5 (V.drop 6 (kont A8 ⟨_, ad', _, i8, f8, z', had, I3, R8, (show SOK (spShownByte S (xs (6 * k + 1)) (xs (6 * k + 2)) (xs (6 * k + 3))).1 by unfold spShownByte; repeat' split; all_goals exact K), by rw [hM.1]; exact hb1, by rw [hM.1]; exact hb2⟩))
  · have hz := hz q9
    refine v_aload_n (dk cd_La_law21 20 rfl) rfl ?_
    refine v_iconst (v := 0) (dk cd_La_law21 21 rfl) (by decide) ?_
    refine v_lald (j := 2) (dk cd_La_law21 22 rfl) (I3.2.2.1 oa _ FQ.oa).1 (by decide) rfl (by decide) rfl ?_
    refine v_iload (dk cd_La_law21 23 rfl) rfl ?_
    refine v_i2l (dk cd_La_law21 24 rfl) ?_
    refine v_lcmp_eq (tgt := 1398) (dk cd_La_law21 25 rfl) (dk cd_La_law21 26 rfl) rfl (fun _ => ?_) (fun q8 => absurd hz q8)
    refine v_goto (tgt := 1426) (dk cd_La_law21 29 rfl) rfl ?_
    exact V.drop 5 (V.drop 6 (kont A8 ⟨_, ad', _, i8, f8, z', had, I3, R8, (show SOK (spShownByte S (xs (6 * k + 1)) (xs (6 * k + 2)) (xs (6 * k + 3))).1 by unfold spShownByte; repeat' split; all_goals exact K), by rw [hM.1]; exact hb1, by rw [hM.1]; exact hb2⟩))
set_option maxRecDepth 100000 in
set_option maxHeartbeats 4000000 in
theorem lw_c3 (hscr : Scr (gg u) b n xs) (h6 : 6 * k + 6 ≤ n) (hn : n ≤ 3072) (hoa : ¬ (m ≤ oa ∧ oa < m + 43)) (I : Inv (FQ m i f oa z) S ad A) (R : Rel S t i f) (K : SOK S) (hgl : A.2.1 + 16 ≤ gL (gg u)) (hgs : A.2.2 + 400 ≤ gS (gg u)) (kont : ∀ A', LJ (ad 0 0) m oa A A' → V (gg u) 8 mm_La_law 1426 [some (.ref b), some (.ref (ad 0 0)), some (.ref m), some (.ref oa), some (.int (nI (6 * k))), none, none] [] A' Φ) : V (gg u) 8 mm_La_law 352 [some (.ref b), some (.ref (ad 0 0)), some (.ref m), some (.ref oa), some (.int (nI (6 * k))), none, none] [] A Φ := by
  refine v_aload_n (dk cd_La_law4 10 rfl) rfl ?_
  refine v_callv (r := ("AreaWarnings", TT_AW, 9)) (dk cd_La_law4 11 rfl) cv_La_93 rfl I.aw (as := []) rfl rfl (Nat.le_of_ble_eq_true rfl) (by simp [Value.category]) (AW_clear_ok I K.wt hgl hgs) (pub_no rfl) (fun v9 A9 hq => ?_)
  obtain ⟨ad', had, I2, hb1, hb2, e9⟩ := hq
  cases e9
  refine v_aload_n (dk cd_La_law4 12 rfl) rfl ?_
  refine v_callv (r := ("AreaWarningsModel", TT_Mo, 49)) (dk cd_La_law4 13 rfl) cv_La_96 rfl (FQ.mh I2 hoa).2.2.1 (as := []) rfl rfl (Nat.le_of_ble_eq_true rfl) (by simp [Value.category]) (Mo_clear_ok (FQ.mh I2 hoa) R K) pm_no' (fun v8 A8 hq => ?_)
  obtain ⟨x8, i8, f8, e8, hM, R8, hv⟩ := hq
  cases e8
  cases hv
  have I3 := FQ.back I2 hoa hM
  refine v_icmp_eq (tgt := 1426) (dk cd_La_law4 14 rfl) rfl (fun _ => ?_) (fun q9 => absurd rfl q9)
  exact kont A8 ⟨_, ad', _, i8, f8, z, had, I3, R8, K.kspClear, by rw [hM.1]; exact hb1, by rw [hM.1]; exact hb2⟩
set_option maxRecDepth 100000 in
set_option maxHeartbeats 4000000 in
theorem lw_c7 (hscr : Scr (gg u) b n xs) (h6 : 6 * k + 6 ≤ n) (hn : n ≤ 3072) (hoa : ¬ (m ≤ oa ∧ oa < m + 43)) (I : Inv (FQ m i f oa z) S ad A) (R : Rel S t i f) (K : SOK S) (hgl : A.2.1 + 16 ≤ gL (gg u)) (hgs : A.2.2 + 400 ≤ gS (gg u)) (kont : ∀ A', LJ (ad 0 0) m oa A A' → V (gg u) 8 mm_La_law 1426 [some (.ref b), some (.ref (ad 0 0)), some (.ref m), some (.ref oa), some (.int (nI (6 * k))), none, none] [] A' Φ) : V (gg u) 8 mm_La_law 617 [some (.ref b), some (.ref (ad 0 0)), some (.ref m), some (.ref oa), some (.int (nI (6 * k))), none, none] [] A Φ := by
  refine v_aload_n (dk cd_La_law8 32 rfl) rfl ?_
  refine v_callv (r := ("AreaWarnings", TT_AW, 9)) (dk cd_La_law8 33 rfl) cv_La_109 rfl I.aw (as := []) rfl rfl (Nat.le_of_ble_eq_true rfl) (by simp [Value.category]) (AW_minute_ok I K.wf hgl hgs K.wv K.wc K.nk K.hk) (pub_no rfl) (fun v9 A9 hq => ?_)
  obtain ⟨ad', had, I2, hb1, hb2, e9⟩ := hq
  cases e9
  refine v_aload_n (dk cd_La_law8 34 rfl) rfl ?_
  refine v_callv (r := ("AreaWarningsModel", TT_Mo, 49)) (dk cd_La_law8 35 rfl) cv_La_112 rfl (FQ.mh I2 hoa).2.2.1 (as := []) rfl rfl (Nat.le_of_ble_eq_true rfl) (by simp [Value.category]) (Mo_minute_ok (FQ.mh I2 hoa) R K) pm_no' (fun v8 A8 hq => ?_)
  obtain ⟨x8, i8, f8, e8, hM, R8, hv⟩ := hq
  cases e8
  cases hv
  have I3 := FQ.back I2 hoa hM
  refine v_icmp_eq (tgt := 1426) (dk cd_La_law8 36 rfl) rfl (fun _ => ?_) (fun q9 => absurd rfl q9)
  exact kont A8 ⟨_, ad', _, i8, f8, z, had, I3, R8, K.kspMinute, by rw [hM.1]; exact hb1, by rw [hM.1]; exact hb2⟩
set_option maxRecDepth 100000 in
set_option maxHeartbeats 4000000 in
theorem lw_c19 (hscr : Scr (gg u) b n xs) (h6 : 6 * k + 6 ≤ n) (hn : n ≤ 3072) (hoa : ¬ (m ≤ oa ∧ oa < m + 43)) (I : Inv (FQ m i f oa z) S ad A) (R : Rel S t i f) (K : SOK S) (hgl : A.2.1 + 16 ≤ gL (gg u)) (hgs : A.2.2 + 400 ≤ gS (gg u)) (kont : ∀ A', LJ (ad 0 0) m oa A A' → V (gg u) 8 mm_La_law 1426 [some (.ref b), some (.ref (ad 0 0)), some (.ref m), some (.ref oa), some (.int (nI (6 * k))), none, none] [] A' Φ) : V (gg u) 8 mm_La_law 1401 [some (.ref b), some (.ref (ad 0 0)), some (.ref m), some (.ref oa), some (.int (nI (6 * k))), none, none] [] A Φ := by
  refine v_aload_n (dk cd_La_law21 30 rfl) rfl ?_
  refine v_aload_n (dk cd_La_law21 31 rfl) rfl ?_
  refine v_iload (dk cd_La_law21 32 rfl) rfl ?_
  refine v_iconst (v := nI 1) (dk cd_La_law21 33 rfl) (by decide) ?_
  refine v_iaddN (dk cd_La_law21 34 rfl) ?_
  refine v_ialdO (dk cd_La_law21 35 rfl) hscr (by omega) ?_
  refine v_callv (r := ("AreaWarnings", TT_AW, 9)) (dk cd_La_law21 36 rfl) cv_La_148 rfl I.aw (as := [_]) rfl rfl (Nat.le_of_ble_eq_true rfl) (by simp [Value.category]) (AW_total_ok I K.wf hgl hgs) (pub_no rfl) (fun v9 A9 hq => ?_)
  obtain ⟨ad', had, I2, hb1, hb2, e9⟩ := hq
  cases e9
  refine v_aload_n (dk cd_La_law21 37 rfl) rfl ?_
  refine v_aload_n (dk cd_La_law21 38 rfl) rfl ?_
  refine v_iload (dk cd_La_law21 39 rfl) rfl ?_
  refine v_iconst (v := nI 1) (dk cd_La_law22 0 rfl) (by decide) ?_
  refine v_iaddN (dk cd_La_law22 1 rfl) ?_
  refine v_ialdO (dk cd_La_law22 2 rfl) hscr (by omega) ?_
  refine v_callv (r := ("AreaWarningsModel", TT_Mo, 49)) (dk cd_La_law22 3 rfl) cv_La_151 rfl (FQ.mh I2 hoa).2.2.1 (as := [_]) rfl rfl (Nat.le_of_ble_eq_true rfl) (by simp [Value.category]) (Mo_total_ok (FQ.mh I2 hoa) R K) pm_no' (fun v8 A8 hq => ?_)
  obtain ⟨x8, i8, f8, e8, hM, R8, hv⟩ := hq
  cases e8
  cases hv
  have I3 := FQ.back I2 hoa hM
  refine v_icmp_eq (tgt := 1426) (dk cd_La_law22 4 rfl) rfl (fun _ => ?_) (fun q9 => absurd rfl q9)
  exact kont A8 ⟨_, ad', _, i8, f8, z, had, I3, R8, K, by rw [hM.1]; exact hb1, by rw [hM.1]; exact hb2⟩
set_option maxRecDepth 100000 in
set_option maxHeartbeats 4000000 in
theorem lw_c14 (hscr : Scr (gg u) b n xs) (h6 : 6 * k + 6 ≤ n) (hn : n ≤ 3072) (hoa : ¬ (m ≤ oa ∧ oa < m + 43)) (I : Inv (FQ m i f oa z) S ad A) (R : Rel S t i f) (K : SOK S) (hgl : A.2.1 + 16 ≤ gL (gg u)) (hgs : A.2.2 + 400 ≤ gS (gg u)) (kont : ∀ A', LJ (ad 0 0) m oa A A' → V (gg u) 8 mm_La_law 1426 [some (.ref b), some (.ref (ad 0 0)), some (.ref m), some (.ref oa), some (.int (nI (6 * k))), none, none] [] A' Φ) : V (gg u) 8 mm_La_law 1056 [some (.ref b), some (.ref (ad 0 0)), some (.ref m), some (.ref oa), some (.int (nI (6 * k))), none, none] [] A Φ := by
  refine v_aload_n (dk cd_La_law15 33 rfl) rfl ?_
  refine v_aload_n (dk cd_La_law15 34 rfl) rfl ?_
  refine v_iload (dk cd_La_law15 35 rfl) rfl ?_
  refine v_iconst (v := nI 1) (dk cd_La_law15 36 rfl) (by decide) ?_
  refine v_iaddN (dk cd_La_law15 37 rfl) ?_
  refine v_ialdO (dk cd_La_law15 38 rfl) hscr (by omega) ?_
  refine v_rv (r := ("AreaWarnings", TT_AW, 9)) (dk cd_La_law15 39 rfl) cv_La_132 rfl I.aw (as := [_]) rfl rfl (Nat.le_of_ble_eq_true rfl) (by simp [Value.category]) (AW_version_ok I K.wf) ?_
  refine v_aload_n (dk cd_La_law16 0 rfl) rfl ?_
  refine v_aload_n (dk cd_La_law16 1 rfl) rfl ?_
  refine v_iload (dk cd_La_law16 2 rfl) rfl ?_
  refine v_iconst (v := nI 1) (dk cd_La_law16 3 rfl) (by decide) ?_
  refine v_iaddN (dk cd_La_law16 4 rfl) ?_
  refine v_ialdO (dk cd_La_law16 5 rfl) hscr (by omega) ?_
  refine v_callv (r := ("AreaWarningsModel", TT_Mo, 49)) (dk cd_La_law16 6 rfl) cv_La_135 rfl (FQ.mh I hoa).2.2.1 (as := [_]) rfl rfl (Nat.le_of_ble_eq_true rfl) (by simp [Value.category]) (Mo_version_ok (FQ.mh I hoa) R K) pm_no' (fun v8 A8 hq => ?_)
  obtain ⟨x8, i8, f8, e8, hM, R8, hv⟩ := hq
  cases e8
  cases hv
  have I3 := FQ.back I hoa hM
  refine v_icmp_eq (tgt := 1426) (dk cd_La_law16 7 rfl) rfl (fun _ => ?_) (fun q9 => absurd rfl q9)
  exact kont A8 ⟨_, ad, _, i8, f8, z, rfl, I3, R8, K, by rw [hM.1]; omega, by rw [hM.1]; omega⟩
end LW
