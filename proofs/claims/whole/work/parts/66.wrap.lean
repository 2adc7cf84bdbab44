/-! the law's wrappers -/
def WP (m : Nat) (i : Nat → Int32) (f : Nat → Nat → Int32) (oa : Nat) (cd : Nat → Int32) (o : Nat) (A : AH) (q : SS × (Value ⊕ Nat)) : Out → AH → Prop := fun r A' => ∃ (k : Int32) (ad' : Nat → Nat → Nat) (z' : Int64), r = .inl (some (.int k)) ∧ ad' 0 0 = o ∧ Inv (FQ m i f oa z') q.1 ad' A' ∧ A'.2.1 ≤ A.2.1 + 16 ∧ A'.2.2 ≤ A.2.2 + 400 ∧ (match q.2 with | .inl v => k = 0 ∧ ∃ w : Int32, v = .int w ∧ z' = w.toInt64 | .inr kd => k = cd kd)
theorem wp_no {m : Nat} {i : Nat → Int32} {f : Nat → Nat → Int32} {oa : Nat} {cd : Nat → Int32} {o : Nat} {A : AH} {q : SS × (Value ⊕ Nat)} : ∀ a A', ¬ WP m i f oa cd o A q (.inr a) A' := fun a A' h => by obtain ⟨k, ad', z', h, _⟩ := h; cases h
theorem b2i_long (b : Bool) : (b2i b).toInt64 = if b = true then 1 else 0 := by cases b <;> rfl
section WR
variable {u : Ux} {S : SS} {ad : Nat → Nat → Nat} {A : AH} {m oa : Nat} {i : Nat → Int32} {f : Nat → Nat → Int32} {z : Int64}
theorem lastF {z' : Int64} (I : Inv (FQ m i f oa z) S ad A) (h : ¬ (m ≤ oa ∧ oa < m + 43)) : Inv (FQ m i f oa z') S ad (aset A oa (100 + 2, ([.long z] : List Value).set (0 : Int32).toNatClampNeg (.long z'))) := FQ.out I h
theorem spCell_kd {x y r : Int32} : (∀ v, (spCell S x y r).2 = .inl v → ∃ n : Int32, v = .int n) ∧ ∀ kd, (spCell S x y r).2 = .inr kd → kd = 0 ∨ kd = 1 := by
  unfold spCell
  refine ⟨fun v h => ?_, fun kd h => ?_⟩
  · repeat' split at h
    all_goals first | (cases h; done) | (cases h; exact ⟨_, rfl⟩)
  · repeat' split at h
    all_goals first | (cases h; done) | (cases h; simp; done)
set_option maxRecDepth 100000 in
set_option maxHeartbeats 4000000 in
theorem La_cell_ok {x y r : Int32} (I : Inv (FQ m i f oa z) S ad A) (K : SOK S) (hoa : ¬ (m ≤ oa ∧ oa < m + 43)) (hgl : A.2.1 + 16 ≤ gL (gg u)) (hgs : A.2.2 + 400 ≤ gS (gg u)) : V (gg u) 7 mm_La_cell 0 [some (.ref (ad 0 0)), some (.int x), some (.int y), some (.int r), some (.ref oa), none] [] A (WP m i f oa (xc [1, 2, 0, 0]) (ad 0 0) A (spCell S x y r)) := by
  refine v_aload (dk cd_La_cell 0 rfl) rfl ?_
  refine v_iconst (v := 0) (dk cd_La_cell 1 rfl) (by decide) ?_
  refine v_aload_n (dk cd_La_cell 2 rfl) rfl ?_
  refine v_iload_n (dk cd_La_cell 3 rfl) rfl ?_
  refine v_iload_n (dk cd_La_cell 4 rfl) rfl ?_
  refine v_iload_n (dk cd_La_cell 5 rfl) rfl ?_
  refine v_callvC (r := ("AreaWarnings", TT_AW, 9)) (dk cd_La_cell 6 rfl) cv_La_7 lk_La_7 rfl I.aw (as := [_, _, _]) rfl rfl (Nat.le_of_ble_eq_true rfl) (by simp [Value.category]) (AW_cell_ok I K.wf hgl hgs K.rf K.wv) (fun v9 A9 hq => ?_) (fun a9 A9 k9 hq hk9 => ?_)
  · obtain ⟨ad', h1, I2, h3, h4, h5⟩ := hq
    rcases hqq : (spCell S x y r).2 with v | kd
    · rw [hqq] at h5
      cases h5
      obtain ⟨w9, rfl⟩ := spCell_kd.1 _ hqq
      refine v_i2l (dk cd_La_cell 7 rfl) ?_
      refine v_last (j := 2) (dk cd_La_cell 8 rfl) (I2.2.2.1 oa _ FQ.oa).1 (by decide) rfl (by decide) (Nat.zero_lt_succ _) ?_
      refine v_goto (tgt := 23) (dk cd_La_cell 9 rfl) rfl ?_
      refine v_iconst (v := 0) (dk cd_La_cell 16 rfl) (by decide) ?_
      exact v_iret (dk cd_La_cell 17 rfl) rfl ⟨0, ad', _, rfl, h1, lastF I2 hoa, h3, h4, by rw [hqq]; exact ⟨rfl, w9, rfl, rfl⟩⟩
    · rw [hqq] at h5
      obtain ⟨a, e, _⟩ := h5
      cases e
  · obtain ⟨ad', h1, I2, h3, h4, h5⟩ := hq
    rcases hqq : (spCell S x y r).2 with v | kd
    · rw [hqq] at h5
      cases h5
    · rw [hqq] at h5
      obtain ⟨a, e, ha⟩ := h5
      cases e
      rw [ha] at hk9
      have hkk : kd = k9 := by have := Option.some.inj hk9; have := congrArg Prod.fst this; simp only [] at this; omega
      subst hkk
      rcases spCell_kd.2 _ hqq with rfl | rfl
      · refine ⟨("java/lang/IllegalArgumentException", u.2.2.1 0), [], { startPc := 0, endPc := 12, handlerPc := 15, catchType := 13 }, [{ startPc := 0, endPc := 12, handlerPc := 19, catchType := 15 }], rfl, rfl, ?_, ⟨by decide, by decide, kl_La_13⟩, ?_⟩
        · exact fun w hw => by cases hw
        · refine v_astore (dk cd_La_cell 10 rfl) (by decide) rfl ?_
          refine v_iconst (v := 1) (dk cd_La_cell 11 rfl) (by decide) ?_
          exact v_iret (dk cd_La_cell 12 rfl) rfl ⟨_, ad', z, rfl, h1, I2, h3, h4, by rw [hqq]; rfl⟩
      · refine ⟨("java/lang/IllegalStateException", u.2.2.1 1), [{ startPc := 0, endPc := 12, handlerPc := 15, catchType := 13 }], { startPc := 0, endPc := 12, handlerPc := 19, catchType := 15 }, [], rfl, rfl, ?_, ⟨by decide, by decide, kl_La_15⟩, ?_⟩
        · intro w hw
          simp only [List.mem_cons, List.not_mem_nil, or_false] at hw
          subst hw
          exact Or.inr ⟨by decide, _, kl_La_13, nc_1_0⟩
        · refine v_astore (dk cd_La_cell 13 rfl) (by decide) rfl ?_
          refine v_iconst (v := 2) (dk cd_La_cell 14 rfl) (by decide) ?_
          exact v_iret (dk cd_La_cell 15 rfl) rfl ⟨_, ad', z, rfl, h1, I2, h3, h4, by rw [hqq]; rfl⟩
theorem spCorner_kd {x y : Int32} : (∀ v, (spCorner S x y).2 = .inl v → ∃ n : Int32, v = .int n) ∧ ∀ kd, (spCorner S x y).2 = .inr kd → kd = 0 ∨ kd = 1 := by
  unfold spCorner
  refine ⟨fun v h => ?_, fun kd h => ?_⟩
  · repeat' split at h
    all_goals first | (cases h; done) | (cases h; exact ⟨_, rfl⟩)
  · repeat' split at h
    all_goals first | (cases h; done) | (cases h; simp; done)
set_option maxRecDepth 100000 in
set_option maxHeartbeats 4000000 in
theorem La_corner_ok {x y : Int32} (I : Inv (FQ m i f oa z) S ad A) (K : SOK S) (hoa : ¬ (m ≤ oa ∧ oa < m + 43)) (hgl : A.2.1 + 16 ≤ gL (gg u)) (hgs : A.2.2 + 400 ≤ gS (gg u)) : V (gg u) 7 mm_La_corner 0 [some (.ref (ad 0 0)), some (.int x), some (.int y), some (.ref oa), none] [] A (WP m i f oa (xc [1, 2, 0, 0]) (ad 0 0) A (spCorner S x y)) := by
  refine v_aload_n (dk cd_La_corner 0 rfl) rfl ?_
  refine v_iconst (v := 0) (dk cd_La_corner 1 rfl) (by decide) ?_
  refine v_aload_n (dk cd_La_corner 2 rfl) rfl ?_
  refine v_iload_n (dk cd_La_corner 3 rfl) rfl ?_
  refine v_iload_n (dk cd_La_corner 4 rfl) rfl ?_
  refine v_callvC (r := ("AreaWarnings", TT_AW, 9)) (dk cd_La_corner 5 rfl) cv_La_17 lk_La_17 rfl I.aw (as := [_, _]) rfl rfl (Nat.le_of_ble_eq_true rfl) (by simp [Value.category]) (AW_corner_ok I K.wt hgl hgs) (fun v9 A9 hq => ?_) (fun a9 A9 k9 hq hk9 => ?_)
  · obtain ⟨ad', h1, I2, h3, h4, h5⟩ := hq
    rcases hqq : (spCorner S x y).2 with v | kd
    · rw [hqq] at h5
      cases h5
      obtain ⟨w9, rfl⟩ := spCorner_kd.1 _ hqq
      refine v_i2l (dk cd_La_corner 6 rfl) ?_
      refine v_last (j := 2) (dk cd_La_corner 7 rfl) (I2.2.2.1 oa _ FQ.oa).1 (by decide) rfl (by decide) (Nat.zero_lt_succ _) ?_
      refine v_goto (tgt := 21) (dk cd_La_corner 8 rfl) rfl ?_
      refine v_iconst (v := 0) (dk cd_La_corner 15 rfl) (by decide) ?_
      exact v_iret (dk cd_La_corner 16 rfl) rfl ⟨0, ad', _, rfl, h1, lastF I2 hoa, h3, h4, by rw [hqq]; exact ⟨rfl, w9, rfl, rfl⟩⟩
    · rw [hqq] at h5
      obtain ⟨a, e, _⟩ := h5
      cases e
  · obtain ⟨ad', h1, I2, h3, h4, h5⟩ := hq
    rcases hqq : (spCorner S x y).2 with v | kd
    · rw [hqq] at h5
      cases h5
    · rw [hqq] at h5
      obtain ⟨a, e, ha⟩ := h5
      cases e
      rw [ha] at hk9
      have hkk : kd = k9 := by have := Option.some.inj hk9; have := congrArg Prod.fst this; simp only [] at this; omega
      subst hkk
      rcases spCorner_kd.2 _ hqq with rfl | rfl
      · refine ⟨("java/lang/IllegalArgumentException", u.2.2.1 0), [], { startPc := 0, endPc := 10, handlerPc := 13, catchType := 13 }, [{ startPc := 0, endPc := 10, handlerPc := 17, catchType := 15 }], rfl, rfl, ?_, ⟨by decide, by decide, kl_La_13⟩, ?_⟩
        · exact fun w hw => by cases hw
        · refine v_astore (dk cd_La_corner 9 rfl) (by decide) rfl ?_
          refine v_iconst (v := 1) (dk cd_La_corner 10 rfl) (by decide) ?_
          exact v_iret (dk cd_La_corner 11 rfl) rfl ⟨_, ad', z, rfl, h1, I2, h3, h4, by rw [hqq]; rfl⟩
      · refine ⟨("java/lang/IllegalStateException", u.2.2.1 1), [{ startPc := 0, endPc := 10, handlerPc := 13, catchType := 13 }], { startPc := 0, endPc := 10, handlerPc := 17, catchType := 15 }, [], rfl, rfl, ?_, ⟨by decide, by decide, kl_La_15⟩, ?_⟩
        · intro w hw
          simp only [List.mem_cons, List.not_mem_nil, or_false] at hw
          subst hw
          exact Or.inr ⟨by decide, _, kl_La_13, nc_1_0⟩
        · refine v_astore (dk cd_La_corner 12 rfl) (by decide) rfl ?_
          refine v_iconst (v := 2) (dk cd_La_corner 13 rfl) (by decide) ?_
          exact v_iret (dk cd_La_corner 14 rfl) rfl ⟨_, ad', z, rfl, h1, I2, h3, h4, by rw [hqq]; rfl⟩
theorem spText_kd {x y : Int32} : (∀ v, (spText S x y).2 = .inl v → ∃ n : Int32, v = .int n) ∧ ∀ kd, (spText S x y).2 = .inr kd → kd = 0 ∨ kd = 1 := by
  unfold spText
  refine ⟨fun v h => ?_, fun kd h => ?_⟩
  · repeat' split at h
    all_goals first | (cases h; done) | (cases h; exact ⟨_, rfl⟩)
  · repeat' split at h
    all_goals first | (cases h; done) | (cases h; simp; done)
set_option maxRecDepth 100000 in
set_option maxHeartbeats 4000000 in
theorem La_text_ok {x y : Int32} (I : Inv (FQ m i f oa z) S ad A) (K : SOK S) (hoa : ¬ (m ≤ oa ∧ oa < m + 43)) (hgl : A.2.1 + 16 ≤ gL (gg u)) (hgs : A.2.2 + 400 ≤ gS (gg u)) : V (gg u) 7 mm_La_text 0 [some (.ref (ad 0 0)), some (.int x), some (.int y), some (.ref oa), none] [] A (WP m i f oa (xc [1, 2, 0, 0]) (ad 0 0) A (spText S x y)) := by
  refine v_aload_n (dk cd_La_text 0 rfl) rfl ?_
  refine v_iconst (v := 0) (dk cd_La_text 1 rfl) (by decide) ?_
  refine v_aload_n (dk cd_La_text 2 rfl) rfl ?_
  refine v_iload_n (dk cd_La_text 3 rfl) rfl ?_
  refine v_iload_n (dk cd_La_text 4 rfl) rfl ?_
  refine v_callvC (r := ("AreaWarnings", TT_AW, 9)) (dk cd_La_text 5 rfl) cv_La_21 lk_La_21 rfl I.aw (as := [_, _]) rfl rfl (Nat.le_of_ble_eq_true rfl) (by simp [Value.category]) (AW_text_ok I K.wt hgl hgs) (fun v9 A9 hq => ?_) (fun a9 A9 k9 hq hk9 => ?_)
  · obtain ⟨ad', h1, I2, h3, h4, h5⟩ := hq
    rcases hqq : (spText S x y).2 with v | kd
    · rw [hqq] at h5
      cases h5
      obtain ⟨w9, rfl⟩ := spText_kd.1 _ hqq
      refine v_i2l (dk cd_La_text 6 rfl) ?_
      refine v_last (j := 2) (dk cd_La_text 7 rfl) (I2.2.2.1 oa _ FQ.oa).1 (by decide) rfl (by decide) (Nat.zero_lt_succ _) ?_
      refine v_goto (tgt := 21) (dk cd_La_text 8 rfl) rfl ?_
      refine v_iconst (v := 0) (dk cd_La_text 15 rfl) (by decide) ?_
      exact v_iret (dk cd_La_text 16 rfl) rfl ⟨0, ad', _, rfl, h1, lastF I2 hoa, h3, h4, by rw [hqq]; exact ⟨rfl, w9, rfl, rfl⟩⟩
    · rw [hqq] at h5
      obtain ⟨a, e, _⟩ := h5
      cases e
  · obtain ⟨ad', h1, I2, h3, h4, h5⟩ := hq
    rcases hqq : (spText S x y).2 with v | kd
    · rw [hqq] at h5
      cases h5
    · rw [hqq] at h5
      obtain ⟨a, e, ha⟩ := h5
      cases e
      rw [ha] at hk9
      have hkk : kd = k9 := by have := Option.some.inj hk9; have := congrArg Prod.fst this; simp only [] at this; omega
      subst hkk
      rcases spText_kd.2 _ hqq with rfl | rfl
      · refine ⟨("java/lang/IllegalArgumentException", u.2.2.1 0), [], { startPc := 0, endPc := 10, handlerPc := 13, catchType := 13 }, [{ startPc := 0, endPc := 10, handlerPc := 17, catchType := 15 }], rfl, rfl, ?_, ⟨by decide, by decide, kl_La_13⟩, ?_⟩
        · exact fun w hw => by cases hw
        · refine v_astore (dk cd_La_text 9 rfl) (by decide) rfl ?_
          refine v_iconst (v := 1) (dk cd_La_text 10 rfl) (by decide) ?_
          exact v_iret (dk cd_La_text 11 rfl) rfl ⟨_, ad', z, rfl, h1, I2, h3, h4, by rw [hqq]; rfl⟩
      · refine ⟨("java/lang/IllegalStateException", u.2.2.1 1), [{ startPc := 0, endPc := 10, handlerPc := 13, catchType := 13 }], { startPc := 0, endPc := 10, handlerPc := 17, catchType := 15 }, [], rfl, rfl, ?_, ⟨by decide, by decide, kl_La_15⟩, ?_⟩
        · intro w hw
          simp only [List.mem_cons, List.not_mem_nil, or_false] at hw
          subst hw
          exact Or.inr ⟨by decide, _, kl_La_13, nc_1_0⟩
        · refine v_astore (dk cd_La_text 12 rfl) (by decide) rfl ?_
          refine v_iconst (v := 2) (dk cd_La_text 13 rfl) (by decide) ?_
          exact v_iret (dk cd_La_text 14 rfl) rfl ⟨_, ad', z, rfl, h1, I2, h3, h4, by rw [hqq]; rfl⟩
theorem spIssue_kd {x sev bg en sp : Int32} : (∀ v, (spIssue S x sev bg en sp).2 = .inl v → ∃ n : Int32, v = .int n) ∧ ∀ kd, (spIssue S x sev bg en sp).2 = .inr kd → kd = 0 ∨ kd = 2 ∨ kd = 1 := by
  unfold spIssue spk
  refine ⟨fun v h => ?_, fun kd h => ?_⟩
  · repeat' split at h
    all_goals first | (cases h; done) | (cases h; exact ⟨_, rfl⟩)
  · repeat' split at h
    all_goals first | (cases h; done) | (cases h; simp; done)
set_option maxRecDepth 100000 in
set_option maxHeartbeats 4000000 in
theorem La_issue_ok {x sev bg en sp : Int32} (I : Inv (FQ m i f oa z) S ad A) (K : SOK S) (hoa : ¬ (m ≤ oa ∧ oa < m + 43)) (hgl : A.2.1 + 16 ≤ gL (gg u)) (hgs : A.2.2 + 400 ≤ gS (gg u)) : V (gg u) 7 mm_La_issue 0 [some (.ref (ad 0 0)), some (.int x), some (.int sev), some (.int bg), some (.int en), some (.int sp), some (.ref oa), none] [] A (WP m i f oa (xc [1, 3, 2, 0]) (ad 0 0) A (spIssue S x sev bg en sp)) := by
  refine v_aload (dk cd_La_issue 0 rfl) rfl ?_
  refine v_iconst (v := 0) (dk cd_La_issue 1 rfl) (by decide) ?_
  refine v_aload_n (dk cd_La_issue 2 rfl) rfl ?_
  refine v_iload_n (dk cd_La_issue 3 rfl) rfl ?_
  refine v_iload_n (dk cd_La_issue 4 rfl) rfl ?_
  refine v_iload_n (dk cd_La_issue 5 rfl) rfl ?_
  refine v_iload (dk cd_La_issue 6 rfl) rfl ?_
  refine v_iload (dk cd_La_issue 7 rfl) rfl ?_
  refine v_callvC (r := ("AreaWarnings", TT_AW, 9)) (dk cd_La_issue 8 rfl) cv_La_24 lk_La_24 rfl I.aw (as := [_, _, _, _, _]) rfl rfl (Nat.le_of_ble_eq_true rfl) (by simp [Value.category]) (AW_issue_ok I K.wf hgl hgs K.rf K.wt) (fun v9 A9 hq => ?_) (fun a9 A9 k9 hq hk9 => ?_)
  · obtain ⟨ad', h1, I2, h3, h4, h5⟩ := hq
    rcases hqq : (spIssue S x sev bg en sp).2 with v | kd
    · rw [hqq] at h5
      cases h5
      obtain ⟨w9, rfl⟩ := spIssue_kd.1 _ hqq
      refine v_i2l (dk cd_La_issue 9 rfl) ?_
      refine v_last (j := 2) (dk cd_La_issue 10 rfl) (I2.2.2.1 oa _ FQ.oa).1 (by decide) rfl (by decide) (Nat.zero_lt_succ _) ?_
      refine v_goto (tgt := 31) (dk cd_La_issue 11 rfl) rfl ?_
      refine v_iconst (v := 0) (dk cd_La_issue 21 rfl) (by decide) ?_
      exact v_iret (dk cd_La_issue 22 rfl) rfl ⟨0, ad', _, rfl, h1, lastF I2 hoa, h3, h4, by rw [hqq]; exact ⟨rfl, w9, rfl, rfl⟩⟩
    · rw [hqq] at h5
      obtain ⟨a, e, _⟩ := h5
      cases e
  · obtain ⟨ad', h1, I2, h3, h4, h5⟩ := hq
    rcases hqq : (spIssue S x sev bg en sp).2 with v | kd
    · rw [hqq] at h5
      cases h5
    · rw [hqq] at h5
      obtain ⟨a, e, ha⟩ := h5
      cases e
      rw [ha] at hk9
      have hkk : kd = k9 := by have := Option.some.inj hk9; have := congrArg Prod.fst this; simp only [] at this; omega
      subst hkk
      rcases spIssue_kd.2 _ hqq with rfl | rfl | rfl
      · refine ⟨("java/lang/IllegalArgumentException", u.2.2.1 0), [], { startPc := 0, endPc := 16, handlerPc := 19, catchType := 13 }, [{ startPc := 0, endPc := 16, handlerPc := 23, catchType := 28 }, { startPc := 0, endPc := 16, handlerPc := 27, catchType := 15 }], rfl, rfl, ?_, ⟨by decide, by decide, kl_La_13⟩, ?_⟩
        · exact fun w hw => by cases hw
        · refine v_astore (dk cd_La_issue 12 rfl) (by decide) rfl ?_
          refine v_iconst (v := 1) (dk cd_La_issue 13 rfl) (by decide) ?_
          exact v_iret (dk cd_La_issue 14 rfl) rfl ⟨_, ad', z, rfl, h1, I2, h3, h4, by rw [hqq]; rfl⟩
      · refine ⟨("java/lang/UnsupportedOperationException", u.2.2.1 2), [{ startPc := 0, endPc := 16, handlerPc := 19, catchType := 13 }], { startPc := 0, endPc := 16, handlerPc := 23, catchType := 28 }, [{ startPc := 0, endPc := 16, handlerPc := 27, catchType := 15 }], rfl, rfl, ?_, ⟨by decide, by decide, kl_La_28⟩, ?_⟩
        · intro w hw
          simp only [List.mem_cons, List.not_mem_nil, or_false] at hw
          subst hw
          exact Or.inr ⟨by decide, _, kl_La_13, nc_2_0⟩
        · refine v_astore (dk cd_La_issue 15 rfl) (by decide) rfl ?_
          refine v_iconst (v := 2) (dk cd_La_issue 16 rfl) (by decide) ?_
          exact v_iret (dk cd_La_issue 17 rfl) rfl ⟨_, ad', z, rfl, h1, I2, h3, h4, by rw [hqq]; rfl⟩
      · refine ⟨("java/lang/IllegalStateException", u.2.2.1 1), [{ startPc := 0, endPc := 16, handlerPc := 19, catchType := 13 }, { startPc := 0, endPc := 16, handlerPc := 23, catchType := 28 }], { startPc := 0, endPc := 16, handlerPc := 27, catchType := 15 }, [], rfl, rfl, ?_, ⟨by decide, by decide, kl_La_15⟩, ?_⟩
        · intro w hw
          simp only [List.mem_cons, List.not_mem_nil, or_false] at hw
          rcases hw with rfl | rfl
          · exact Or.inr ⟨by decide, _, kl_La_13, nc_1_0⟩
          · exact Or.inr ⟨by decide, _, kl_La_28, nc_1_2⟩
        · refine v_astore (dk cd_La_issue 18 rfl) (by decide) rfl ?_
          refine v_iconst (v := 3) (dk cd_La_issue 19 rfl) (by decide) ?_
          exact v_iret (dk cd_La_issue 20 rfl) rfl ⟨_, ad', z, rfl, h1, I2, h3, h4, by rw [hqq]; rfl⟩
theorem spUpdate_kd {x sev en sp : Int32} : (∀ v, (spUpdate S x sev en sp).2 = .inl v → ∃ n : Int32, v = .int n) ∧ ∀ kd, (spUpdate S x sev en sp).2 = .inr kd → kd = 0 ∨ kd = 2 ∨ kd = 1 := by
  unfold spUpdate spk
  refine ⟨fun v h => ?_, fun kd h => ?_⟩
  · repeat' split at h
    all_goals first | (cases h; done) | (cases h; exact ⟨_, rfl⟩)
  · repeat' split at h
    all_goals first | (cases h; done) | (cases h; simp; done)
set_option maxRecDepth 100000 in
set_option maxHeartbeats 4000000 in
theorem La_update_ok {x sev en sp : Int32} (I : Inv (FQ m i f oa z) S ad A) (K : SOK S) (hoa : ¬ (m ≤ oa ∧ oa < m + 43)) (hgl : A.2.1 + 16 ≤ gL (gg u)) (hgs : A.2.2 + 400 ≤ gS (gg u)) : V (gg u) 7 mm_La_update 0 [some (.ref (ad 0 0)), some (.int x), some (.int sev), some (.int en), some (.int sp), some (.ref oa), none] [] A (WP m i f oa (xc [1, 3, 2, 0]) (ad 0 0) A (spUpdate S x sev en sp)) := by
  refine v_aload (dk cd_La_update 0 rfl) rfl ?_
  refine v_iconst (v := 0) (dk cd_La_update 1 rfl) (by decide) ?_
  refine v_aload_n (dk cd_La_update 2 rfl) rfl ?_
  refine v_iload_n (dk cd_La_update 3 rfl) rfl ?_
  refine v_iload_n (dk cd_La_update 4 rfl) rfl ?_
  refine v_iload_n (dk cd_La_update 5 rfl) rfl ?_
  refine v_iload (dk cd_La_update 6 rfl) rfl ?_
  refine v_callvC (r := ("AreaWarnings", TT_AW, 9)) (dk cd_La_update 7 rfl) cv_La_30 lk_La_30 rfl I.aw (as := [_, _, _, _]) rfl rfl (Nat.le_of_ble_eq_true rfl) (by simp [Value.category]) (AW_update_ok I K.wf hgl hgs K.rf K.wt) (fun v9 A9 hq => ?_) (fun a9 A9 k9 hq hk9 => ?_)
  · obtain ⟨ad', h1, I2, h3, h4, h5⟩ := hq
    rcases hqq : (spUpdate S x sev en sp).2 with v | kd
    · rw [hqq] at h5
      cases h5
      obtain ⟨w9, rfl⟩ := spUpdate_kd.1 _ hqq
      refine v_i2l (dk cd_La_update 8 rfl) ?_
      refine v_last (j := 2) (dk cd_La_update 9 rfl) (I2.2.2.1 oa _ FQ.oa).1 (by decide) rfl (by decide) (Nat.zero_lt_succ _) ?_
      refine v_goto (tgt := 29) (dk cd_La_update 10 rfl) rfl ?_
      refine v_iconst (v := 0) (dk cd_La_update 20 rfl) (by decide) ?_
      exact v_iret (dk cd_La_update 21 rfl) rfl ⟨0, ad', _, rfl, h1, lastF I2 hoa, h3, h4, by rw [hqq]; exact ⟨rfl, w9, rfl, rfl⟩⟩
    · rw [hqq] at h5
      obtain ⟨a, e, _⟩ := h5
      cases e
  · obtain ⟨ad', h1, I2, h3, h4, h5⟩ := hq
    rcases hqq : (spUpdate S x sev en sp).2 with v | kd
    · rw [hqq] at h5
      cases h5
    · rw [hqq] at h5
      obtain ⟨a, e, ha⟩ := h5
      cases e
      rw [ha] at hk9
      have hkk : kd = k9 := by have := Option.some.inj hk9; have := congrArg Prod.fst this; simp only [] at this; omega
      subst hkk
      rcases spUpdate_kd.2 _ hqq with rfl | rfl | rfl
      · refine ⟨("java/lang/IllegalArgumentException", u.2.2.1 0), [], { startPc := 0, endPc := 14, handlerPc := 17, catchType := 13 }, [{ startPc := 0, endPc := 14, handlerPc := 21, catchType := 28 }, { startPc := 0, endPc := 14, handlerPc := 25, catchType := 15 }], rfl, rfl, ?_, ⟨by decide, by decide, kl_La_13⟩, ?_⟩
        · exact fun w hw => by cases hw
        · refine v_astore (dk cd_La_update 11 rfl) (by decide) rfl ?_
          refine v_iconst (v := 1) (dk cd_La_update 12 rfl) (by decide) ?_
          exact v_iret (dk cd_La_update 13 rfl) rfl ⟨_, ad', z, rfl, h1, I2, h3, h4, by rw [hqq]; rfl⟩
      · refine ⟨("java/lang/UnsupportedOperationException", u.2.2.1 2), [{ startPc := 0, endPc := 14, handlerPc := 17, catchType := 13 }], { startPc := 0, endPc := 14, handlerPc := 21, catchType := 28 }, [{ startPc := 0, endPc := 14, handlerPc := 25, catchType := 15 }], rfl, rfl, ?_, ⟨by decide, by decide, kl_La_28⟩, ?_⟩
        · intro w hw
          simp only [List.mem_cons, List.not_mem_nil, or_false] at hw
          subst hw
          exact Or.inr ⟨by decide, _, kl_La_13, nc_2_0⟩
        · refine v_astore (dk cd_La_update 14 rfl) (by decide) rfl ?_
          refine v_iconst (v := 2) (dk cd_La_update 15 rfl) (by decide) ?_
          exact v_iret (dk cd_La_update 16 rfl) rfl ⟨_, ad', z, rfl, h1, I2, h3, h4, by rw [hqq]; rfl⟩
      · refine ⟨("java/lang/IllegalStateException", u.2.2.1 1), [{ startPc := 0, endPc := 14, handlerPc := 17, catchType := 13 }, { startPc := 0, endPc := 14, handlerPc := 21, catchType := 28 }], { startPc := 0, endPc := 14, handlerPc := 25, catchType := 15 }, [], rfl, rfl, ?_, ⟨by decide, by decide, kl_La_15⟩, ?_⟩
        · intro w hw
          simp only [List.mem_cons, List.not_mem_nil, or_false] at hw
          rcases hw with rfl | rfl
          · exact Or.inr ⟨by decide, _, kl_La_13, nc_1_0⟩
          · exact Or.inr ⟨by decide, _, kl_La_28, nc_1_2⟩
        · refine v_astore (dk cd_La_update 17 rfl) (by decide) rfl ?_
          refine v_iconst (v := 3) (dk cd_La_update 18 rfl) (by decide) ?_
          exact v_iret (dk cd_La_update 19 rfl) rfl ⟨_, ad', z, rfl, h1, I2, h3, h4, by rw [hqq]; rfl⟩
theorem spCancel_kd {x : Int32} : (∀ v, (spCancel S x).2 = .inl v → ∃ n : Int32, v = .int n) ∧ ∀ kd, (spCancel S x).2 = .inr kd → kd = 1 := by
  unfold spCancel
  refine ⟨fun v h => ?_, fun kd h => ?_⟩
  · repeat' split at h
    all_goals first | (cases h; done) | (cases h; exact ⟨_, rfl⟩)
  · repeat' split at h
    all_goals first | (cases h; done) | (cases h; simp; done)
set_option maxRecDepth 100000 in
set_option maxHeartbeats 4000000 in
theorem La_cancel_ok {x : Int32} (I : Inv (FQ m i f oa z) S ad A) (K : SOK S) (hoa : ¬ (m ≤ oa ∧ oa < m + 43)) (hgl : A.2.1 + 16 ≤ gL (gg u)) (hgs : A.2.2 + 400 ≤ gS (gg u)) : V (gg u) 7 mm_La_cancel 0 [some (.ref (ad 0 0)), some (.int x), some (.ref oa), none] [] A (WP m i f oa (xc [0, 1, 0, 0]) (ad 0 0) A (spCancel S x)) := by
  refine v_aload_n (dk cd_La_cancel 0 rfl) rfl ?_
  refine v_iconst (v := 0) (dk cd_La_cancel 1 rfl) (by decide) ?_
  refine v_aload_n (dk cd_La_cancel 2 rfl) rfl ?_
  refine v_iload_n (dk cd_La_cancel 3 rfl) rfl ?_
  refine v_callvC (r := ("AreaWarnings", TT_AW, 9)) (dk cd_La_cancel 4 rfl) cv_La_34 lk_La_34 rfl I.aw (as := [_]) rfl rfl (Nat.le_of_ble_eq_true rfl) (by simp [Value.category]) (AW_cancel_ok I K.wf hgl hgs K.rf) (fun v9 A9 hq => ?_) (fun a9 A9 k9 hq hk9 => ?_)
  · obtain ⟨ad', h1, I2, h3, h4, h5⟩ := hq
    rcases hqq : (spCancel S x).2 with v | kd
    · rw [hqq] at h5
      cases h5
      obtain ⟨w9, rfl⟩ := spCancel_kd.1 _ hqq
      refine v_i2l (dk cd_La_cancel 5 rfl) ?_
      refine v_last (j := 2) (dk cd_La_cancel 6 rfl) (I2.2.2.1 oa _ FQ.oa).1 (by decide) rfl (by decide) (Nat.zero_lt_succ _) ?_
      refine v_goto (tgt := 15) (dk cd_La_cancel 7 rfl) rfl ?_
      refine v_iconst (v := 0) (dk cd_La_cancel 11 rfl) (by decide) ?_
      exact v_iret (dk cd_La_cancel 12 rfl) rfl ⟨0, ad', _, rfl, h1, lastF I2 hoa, h3, h4, by rw [hqq]; exact ⟨rfl, w9, rfl, rfl⟩⟩
    · rw [hqq] at h5
      obtain ⟨a, e, _⟩ := h5
      cases e
  · obtain ⟨ad', h1, I2, h3, h4, h5⟩ := hq
    rcases hqq : (spCancel S x).2 with v | kd
    · rw [hqq] at h5
      cases h5
    · rw [hqq] at h5
      obtain ⟨a, e, ha⟩ := h5
      cases e
      rw [ha] at hk9
      have hkk : kd = k9 := by have := Option.some.inj hk9; have := congrArg Prod.fst this; simp only [] at this; omega
      subst hkk
      have hkd := spCancel_kd.2 _ hqq
      subst hkd
      refine ⟨("java/lang/IllegalStateException", u.2.2.1 1), [], { startPc := 0, endPc := 9, handlerPc := 12, catchType := 15 }, [], rfl, rfl, ?_, ⟨by decide, by decide, kl_La_15⟩, ?_⟩
      · exact fun w hw => by cases hw
      · refine v_astore_n (dk cd_La_cancel 8 rfl) (by decide) rfl ?_
        refine v_iconst (v := 1) (dk cd_La_cancel 9 rfl) (by decide) ?_
        exact v_iret (dk cd_La_cancel 10 rfl) rfl ⟨_, ad', z, rfl, h1, I2, h3, h4, by rw [hqq]; rfl⟩
theorem spLine_kd {x : Int32} {w : Bool} : (∀ v, (spLine S x w).2 = .inl v → ∃ b : Bool, v = .int (b2i b)) ∧ ∀ kd, (spLine S x w).2 = .inr kd → kd = 3 := by
  unfold spLine
  refine ⟨fun v h => ?_, fun kd h => ?_⟩
  · repeat' split at h
    all_goals first | (cases h; done) | (cases h; exact ⟨_, rfl⟩)
  · repeat' split at h
    all_goals first | (cases h; done) | (cases h; simp; done)
set_option maxRecDepth 100000 in
set_option maxHeartbeats 4000000 in
theorem La_line_ok {x : Int32} {w : Bool} (I : Inv (FQ m i f oa z) S ad A) (K : SOK S) (hoa : ¬ (m ≤ oa ∧ oa < m + 43)) (hgl : A.2.1 + 16 ≤ gL (gg u)) (hgs : A.2.2 + 400 ≤ gS (gg u)) : V (gg u) 7 mm_La_line 0 [some (.ref (ad 0 0)), some (.int x), some (.int (b2i w)), some (.ref oa), none] [] A (WP m i f oa (xc [0, 0, 0, 1]) (ad 0 0) A (spLine S x w)) := by
  refine v_aload_n (dk cd_La_line 0 rfl) rfl ?_
  refine v_iconst (v := 0) (dk cd_La_line 1 rfl) (by decide) ?_
  refine v_aload_n (dk cd_La_line 2 rfl) rfl ?_
  refine v_iload_n (dk cd_La_line 3 rfl) rfl ?_
  refine v_iload_n (dk cd_La_line 4 rfl) rfl ?_
  refine v_callvC (r := ("AreaWarnings", TT_AW, 9)) (dk cd_La_line 5 rfl) cv_La_38 lk_La_38 rfl I.aw (as := [_, _]) rfl rfl (Nat.le_of_ble_eq_true rfl) (by simp [Value.category]) (AW_line_ok I K.wf hgl hgs) (fun v9 A9 hq => ?_) (fun a9 A9 k9 hq hk9 => ?_)
  · obtain ⟨ad', h1, I2, h3, h4, h5⟩ := hq
    rcases hqq : (spLine S x w).2 with v | kd
    · rw [hqq] at h5
      cases h5
      obtain ⟨w9, rfl⟩ := spLine_kd.1 _ hqq
      refine v_ifeqB (tgt := 15) (dk cd_La_line 6 rfl) rfl (fun q8 => ?_) (fun q8 => ?_)
      · refine v_lconst (v := 0) (dk cd_La_line 9 rfl) (by decide) ?_
        refine v_last (j := 2) (dk cd_La_line 10 rfl) (I2.2.2.1 oa _ FQ.oa).1 (by decide) rfl (by decide) (Nat.zero_lt_succ _) ?_
        refine v_goto (tgt := 24) (dk cd_La_line 11 rfl) rfl ?_
        refine v_iconst (v := 0) (dk cd_La_line 15 rfl) (by decide) ?_
        exact v_iret (dk cd_La_line 16 rfl) rfl ⟨0, ad', _, rfl, h1, lastF I2 hoa, h3, h4, by rw [hqq]; exact ⟨rfl, _, rfl, by rw [b2i_long, q8]; rfl⟩⟩
      · refine v_lconst (v := 1) (dk cd_La_line 7 rfl) (by decide) ?_
        refine v_goto (tgt := 16) (dk cd_La_line 8 rfl) rfl ?_
        refine v_last (j := 2) (dk cd_La_line 10 rfl) (I2.2.2.1 oa _ FQ.oa).1 (by decide) rfl (by decide) (Nat.zero_lt_succ _) ?_
        refine v_goto (tgt := 24) (dk cd_La_line 11 rfl) rfl ?_
        refine v_iconst (v := 0) (dk cd_La_line 15 rfl) (by decide) ?_
        exact v_iret (dk cd_La_line 16 rfl) rfl ⟨0, ad', _, rfl, h1, lastF I2 hoa, h3, h4, by rw [hqq]; exact ⟨rfl, _, rfl, by rw [b2i_long, q8]; rfl⟩⟩
    · rw [hqq] at h5
      obtain ⟨a, e, _⟩ := h5
      cases e
  · obtain ⟨ad', h1, I2, h3, h4, h5⟩ := hq
    rcases hqq : (spLine S x w).2 with v | kd
    · rw [hqq] at h5
      cases h5
    · rw [hqq] at h5
      obtain ⟨a, e, ha⟩ := h5
      cases e
      rw [ha] at hk9
      have hkk : kd = k9 := by have := Option.some.inj hk9; have := congrArg Prod.fst this; simp only [] at this; omega
      subst hkk
      have hkd := spLine_kd.2 _ hqq
      subst hkd
      refine ⟨("java/lang/IndexOutOfBoundsException", u.2.2.1 3), [], { startPc := 0, endPc := 17, handlerPc := 20, catchType := 42 }, [], rfl, rfl, ?_, ⟨by decide, by decide, kl_La_42⟩, ?_⟩
      · exact fun w hw => by cases hw
      · refine v_astore (dk cd_La_line 12 rfl) (by decide) rfl ?_
        refine v_iconst (v := 1) (dk cd_La_line 13 rfl) (by decide) ?_
        exact v_iret (dk cd_La_line 14 rfl) rfl ⟨_, ad', z, rfl, h1, I2, h3, h4, by rw [hqq]; rfl⟩
theorem spHandset_kd {x : Int32} : (∀ v, (spHandset S x).2 = .inl v → ∃ n : Int32, v = .int n) ∧ ∀ kd, (spHandset S x).2 = .inr kd → kd = 0 ∨ kd = 1 := by
  unfold spHandset
  refine ⟨fun v h => ?_, fun kd h => ?_⟩
  · repeat' split at h
    all_goals first | (cases h; done) | (cases h; exact ⟨_, rfl⟩)
  · repeat' split at h
    all_goals first | (cases h; done) | (cases h; simp; done)
set_option maxRecDepth 100000 in
set_option maxHeartbeats 4000000 in
theorem La_handset_ok {x : Int32} (I : Inv (FQ m i f oa z) S ad A) (K : SOK S) (hoa : ¬ (m ≤ oa ∧ oa < m + 43)) (hgl : A.2.1 + 16 ≤ gL (gg u)) (hgs : A.2.2 + 400 ≤ gS (gg u)) : V (gg u) 7 mm_La_handset 0 [some (.ref (ad 0 0)), some (.int x), some (.ref oa), none] [] A (WP m i f oa (xc [1, 2, 0, 0]) (ad 0 0) A (spHandset S x)) := by
  refine v_aload_n (dk cd_La_handset 0 rfl) rfl ?_
  refine v_iconst (v := 0) (dk cd_La_handset 1 rfl) (by decide) ?_
  refine v_aload_n (dk cd_La_handset 2 rfl) rfl ?_
  refine v_iload_n (dk cd_La_handset 3 rfl) rfl ?_
  refine v_callvC (r := ("AreaWarnings", TT_AW, 9)) (dk cd_La_handset 4 rfl) cv_La_44 lk_La_44 rfl I.aw (as := [_]) rfl rfl (Nat.le_of_ble_eq_true rfl) (by simp [Value.category]) (AW_handset_ok I K.wf hgl hgs K.rf) (fun v9 A9 hq => ?_) (fun a9 A9 k9 hq hk9 => ?_)
  · obtain ⟨ad', h1, I2, h3, h4, h5⟩ := hq
    rcases hqq : (spHandset S x).2 with v | kd
    · rw [hqq] at h5
      cases h5
      obtain ⟨w9, rfl⟩ := spHandset_kd.1 _ hqq
      refine v_i2l (dk cd_La_handset 5 rfl) ?_
      refine v_last (j := 2) (dk cd_La_handset 6 rfl) (I2.2.2.1 oa _ FQ.oa).1 (by decide) rfl (by decide) (Nat.zero_lt_succ _) ?_
      refine v_goto (tgt := 18) (dk cd_La_handset 7 rfl) rfl ?_
      refine v_iconst (v := 0) (dk cd_La_handset 14 rfl) (by decide) ?_
      exact v_iret (dk cd_La_handset 15 rfl) rfl ⟨0, ad', _, rfl, h1, lastF I2 hoa, h3, h4, by rw [hqq]; exact ⟨rfl, w9, rfl, rfl⟩⟩
    · rw [hqq] at h5
      obtain ⟨a, e, _⟩ := h5
      cases e
  · obtain ⟨ad', h1, I2, h3, h4, h5⟩ := hq
    rcases hqq : (spHandset S x).2 with v | kd
    · rw [hqq] at h5
      cases h5
    · rw [hqq] at h5
      obtain ⟨a, e, ha⟩ := h5
      cases e
      rw [ha] at hk9
      have hkk : kd = k9 := by have := Option.some.inj hk9; have := congrArg Prod.fst this; simp only [] at this; omega
      subst hkk
      rcases spHandset_kd.2 _ hqq with rfl | rfl
      · refine ⟨("java/lang/IllegalArgumentException", u.2.2.1 0), [], { startPc := 0, endPc := 9, handlerPc := 12, catchType := 13 }, [{ startPc := 0, endPc := 9, handlerPc := 15, catchType := 15 }], rfl, rfl, ?_, ⟨by decide, by decide, kl_La_13⟩, ?_⟩
        · exact fun w hw => by cases hw
        · refine v_astore_n (dk cd_La_handset 8 rfl) (by decide) rfl ?_
          refine v_iconst (v := 1) (dk cd_La_handset 9 rfl) (by decide) ?_
          exact v_iret (dk cd_La_handset 10 rfl) rfl ⟨_, ad', z, rfl, h1, I2, h3, h4, by rw [hqq]; rfl⟩
      · refine ⟨("java/lang/IllegalStateException", u.2.2.1 1), [{ startPc := 0, endPc := 9, handlerPc := 12, catchType := 13 }], { startPc := 0, endPc := 9, handlerPc := 15, catchType := 15 }, [], rfl, rfl, ?_, ⟨by decide, by decide, kl_La_15⟩, ?_⟩
        · intro w hw
          simp only [List.mem_cons, List.not_mem_nil, or_false] at hw
          subst hw
          exact Or.inr ⟨by decide, _, kl_La_13, nc_1_0⟩
        · refine v_astore_n (dk cd_La_handset 11 rfl) (by decide) rfl ?_
          refine v_iconst (v := 2) (dk cd_La_handset 12 rfl) (by decide) ?_
          exact v_iret (dk cd_La_handset 13 rfl) rfl ⟨_, ad', z, rfl, h1, I2, h3, h4, by rw [hqq]; rfl⟩
theorem spLikes_kd {x y : Int32} : (∀ v, (spLikes S x y).2 = .inl v → ∃ n : Int32, v = .int n) ∧ ∀ kd, (spLikes S x y).2 = .inr kd → kd = 3 ∨ kd = 0 ∨ kd = 1 := by
  unfold spLikes
  refine ⟨fun v h => ?_, fun kd h => ?_⟩
  · repeat' split at h
    all_goals first | (cases h; done) | (cases h; exact ⟨_, rfl⟩)
  · repeat' split at h
    all_goals first | (cases h; done) | (cases h; simp; done)
set_option maxRecDepth 100000 in
set_option maxHeartbeats 4000000 in
theorem La_likes_ok {x y : Int32} (I : Inv (FQ m i f oa z) S ad A) (K : SOK S) (hoa : ¬ (m ≤ oa ∧ oa < m + 43)) (hgl : A.2.1 + 16 ≤ gL (gg u)) (hgs : A.2.2 + 400 ≤ gS (gg u)) : V (gg u) 7 mm_La_likes 0 [some (.ref (ad 0 0)), some (.int x), some (.int y), some (.ref oa), none] [] A (WP m i f oa (xc [2, 3, 0, 1]) (ad 0 0) A (spLikes S x y)) := by
  refine v_aload_n (dk cd_La_likes 0 rfl) rfl ?_
  refine v_iconst (v := 0) (dk cd_La_likes 1 rfl) (by decide) ?_
  refine v_aload_n (dk cd_La_likes 2 rfl) rfl ?_
  refine v_iload_n (dk cd_La_likes 3 rfl) rfl ?_
  refine v_iload_n (dk cd_La_likes 4 rfl) rfl ?_
  refine v_callvC (r := ("AreaWarnings", TT_AW, 9)) (dk cd_La_likes 5 rfl) cv_La_47 lk_La_47 rfl I.aw (as := [_, _]) rfl rfl (Nat.le_of_ble_eq_true rfl) (by simp [Value.category]) (AW_likes_ok I K.wf hgl hgs (fun n h hh => (K.hk n h hh).1.1)) (fun v9 A9 hq => ?_) (fun a9 A9 k9 hq hk9 => ?_)
  · obtain ⟨ad', h1, I2, h3, h4, h5⟩ := hq
    rcases hqq : (spLikes S x y).2 with v | kd
    · rw [hqq] at h5
      cases h5
      obtain ⟨w9, rfl⟩ := spLikes_kd.1 _ hqq
      refine v_i2l (dk cd_La_likes 6 rfl) ?_
      refine v_last (j := 2) (dk cd_La_likes 7 rfl) (I2.2.2.1 oa _ FQ.oa).1 (by decide) rfl (by decide) (Nat.zero_lt_succ _) ?_
      refine v_goto (tgt := 25) (dk cd_La_likes 8 rfl) rfl ?_
      refine v_iconst (v := 0) (dk cd_La_likes 18 rfl) (by decide) ?_
      exact v_iret (dk cd_La_likes 19 rfl) rfl ⟨0, ad', _, rfl, h1, lastF I2 hoa, h3, h4, by rw [hqq]; exact ⟨rfl, w9, rfl, rfl⟩⟩
    · rw [hqq] at h5
      obtain ⟨a, e, _⟩ := h5
      cases e
  · obtain ⟨ad', h1, I2, h3, h4, h5⟩ := hq
    rcases hqq : (spLikes S x y).2 with v | kd
    · rw [hqq] at h5
      cases h5
    · rw [hqq] at h5
      obtain ⟨a, e, ha⟩ := h5
      cases e
      rw [ha] at hk9
      have hkk : kd = k9 := by have := Option.some.inj hk9; have := congrArg Prod.fst this; simp only [] at this; omega
      subst hkk
      rcases spLikes_kd.2 _ hqq with rfl | rfl | rfl
      · refine ⟨("java/lang/IndexOutOfBoundsException", u.2.2.1 3), [], { startPc := 0, endPc := 10, handlerPc := 13, catchType := 42 }, [{ startPc := 0, endPc := 10, handlerPc := 17, catchType := 13 }, { startPc := 0, endPc := 10, handlerPc := 21, catchType := 15 }], rfl, rfl, ?_, ⟨by decide, by decide, kl_La_42⟩, ?_⟩
        · exact fun w hw => by cases hw
        · refine v_astore (dk cd_La_likes 9 rfl) (by decide) rfl ?_
          refine v_iconst (v := 1) (dk cd_La_likes 10 rfl) (by decide) ?_
          exact v_iret (dk cd_La_likes 11 rfl) rfl ⟨_, ad', z, rfl, h1, I2, h3, h4, by rw [hqq]; rfl⟩
      · refine ⟨("java/lang/IllegalArgumentException", u.2.2.1 0), [{ startPc := 0, endPc := 10, handlerPc := 13, catchType := 42 }], { startPc := 0, endPc := 10, handlerPc := 17, catchType := 13 }, [{ startPc := 0, endPc := 10, handlerPc := 21, catchType := 15 }], rfl, rfl, ?_, ⟨by decide, by decide, kl_La_13⟩, ?_⟩
        · intro w hw
          simp only [List.mem_cons, List.not_mem_nil, or_false] at hw
          subst hw
          exact Or.inr ⟨by decide, _, kl_La_42, nc_0_3⟩
        · refine v_astore (dk cd_La_likes 12 rfl) (by decide) rfl ?_
          refine v_iconst (v := 2) (dk cd_La_likes 13 rfl) (by decide) ?_
          exact v_iret (dk cd_La_likes 14 rfl) rfl ⟨_, ad', z, rfl, h1, I2, h3, h4, by rw [hqq]; rfl⟩
      · refine ⟨("java/lang/IllegalStateException", u.2.2.1 1), [{ startPc := 0, endPc := 10, handlerPc := 13, catchType := 42 }, { startPc := 0, endPc := 10, handlerPc := 17, catchType := 13 }], { startPc := 0, endPc := 10, handlerPc := 21, catchType := 15 }, [], rfl, rfl, ?_, ⟨by decide, by decide, kl_La_15⟩, ?_⟩
        · intro w hw
          simp only [List.mem_cons, List.not_mem_nil, or_false] at hw
          rcases hw with rfl | rfl
          · exact Or.inr ⟨by decide, _, kl_La_42, nc_1_3⟩
          · exact Or.inr ⟨by decide, _, kl_La_13, nc_1_0⟩
        · refine v_astore (dk cd_La_likes 15 rfl) (by decide) rfl ?_
          refine v_iconst (v := 3) (dk cd_La_likes 16 rfl) (by decide) ?_
          exact v_iret (dk cd_La_likes 17 rfl) rfl ⟨_, ad', z, rfl, h1, I2, h3, h4, by rw [hqq]; rfl⟩
theorem spCamp_kd {x y : Int32} : (∀ v, (spCamp S x y).2 = .inl v → ∃ n : Int32, v = .int n) ∧ ∀ kd, (spCamp S x y).2 = .inr kd → kd = 3 := by
  unfold spCamp
  refine ⟨fun v h => ?_, fun kd h => ?_⟩
  · repeat' split at h
    all_goals first | (cases h; done) | (cases h; exact ⟨_, rfl⟩)
  · repeat' split at h
    all_goals first | (cases h; done) | (cases h; simp; done)
set_option maxRecDepth 100000 in
set_option maxHeartbeats 4000000 in
theorem La_camp_ok {x y : Int32} (I : Inv (FQ m i f oa z) S ad A) (K : SOK S) (hoa : ¬ (m ≤ oa ∧ oa < m + 43)) (hgl : A.2.1 + 16 ≤ gL (gg u)) (hgs : A.2.2 + 400 ≤ gS (gg u)) : V (gg u) 7 mm_La_camp 0 [some (.ref (ad 0 0)), some (.int x), some (.int y), some (.ref oa), none] [] A (WP m i f oa (xc [0, 0, 0, 1]) (ad 0 0) A (spCamp S x y)) := by
  refine v_aload_n (dk cd_La_camp 0 rfl) rfl ?_
  refine v_iconst (v := 0) (dk cd_La_camp 1 rfl) (by decide) ?_
  refine v_aload_n (dk cd_La_camp 2 rfl) rfl ?_
  refine v_iload_n (dk cd_La_camp 3 rfl) rfl ?_
  refine v_iload_n (dk cd_La_camp 4 rfl) rfl ?_
  refine v_callvC (r := ("AreaWarnings", TT_AW, 9)) (dk cd_La_camp 5 rfl) cv_La_50 lk_La_50 rfl I.aw (as := [_, _]) rfl rfl (Nat.le_of_ble_eq_true rfl) (by simp [Value.category]) (AW_camp_ok I K.wf hgl hgs) (fun v9 A9 hq => ?_) (fun a9 A9 k9 hq hk9 => ?_)
  · obtain ⟨ad', h1, I2, h3, h4, h5⟩ := hq
    rcases hqq : (spCamp S x y).2 with v | kd
    · rw [hqq] at h5
      cases h5
      obtain ⟨w9, rfl⟩ := spCamp_kd.1 _ hqq
      refine v_i2l (dk cd_La_camp 6 rfl) ?_
      refine v_last (j := 2) (dk cd_La_camp 7 rfl) (I2.2.2.1 oa _ FQ.oa).1 (by decide) rfl (by decide) (Nat.zero_lt_succ _) ?_
      refine v_goto (tgt := 17) (dk cd_La_camp 8 rfl) rfl ?_
      refine v_iconst (v := 0) (dk cd_La_camp 12 rfl) (by decide) ?_
      exact v_iret (dk cd_La_camp 13 rfl) rfl ⟨0, ad', _, rfl, h1, lastF I2 hoa, h3, h4, by rw [hqq]; exact ⟨rfl, w9, rfl, rfl⟩⟩
    · rw [hqq] at h5
      obtain ⟨a, e, _⟩ := h5
      cases e
  · obtain ⟨ad', h1, I2, h3, h4, h5⟩ := hq
    rcases hqq : (spCamp S x y).2 with v | kd
    · rw [hqq] at h5
      cases h5
    · rw [hqq] at h5
      obtain ⟨a, e, ha⟩ := h5
      cases e
      rw [ha] at hk9
      have hkk : kd = k9 := by have := Option.some.inj hk9; have := congrArg Prod.fst this; simp only [] at this; omega
      subst hkk
      have hkd := spCamp_kd.2 _ hqq
      subst hkd
      refine ⟨("java/lang/IndexOutOfBoundsException", u.2.2.1 3), [], { startPc := 0, endPc := 10, handlerPc := 13, catchType := 42 }, [], rfl, rfl, ?_, ⟨by decide, by decide, kl_La_42⟩, ?_⟩
      · exact fun w hw => by cases hw
      · refine v_astore (dk cd_La_camp 9 rfl) (by decide) rfl ?_
        refine v_iconst (v := 1) (dk cd_La_camp 10 rfl) (by decide) ?_
        exact v_iret (dk cd_La_camp 11 rfl) rfl ⟨_, ad', z, rfl, h1, I2, h3, h4, by rw [hqq]; rfl⟩
theorem spMiss_kd {x y : Int32} : (∀ v, (spMiss S x y).2 = .inl v → ∃ n : Int32, v = .int n) ∧ ∀ kd, (spMiss S x y).2 = .inr kd → kd = 3 ∨ kd = 0 := by
  unfold spMiss
  refine ⟨fun v h => ?_, fun kd h => ?_⟩
  · repeat' split at h
    all_goals first | (cases h; done) | (cases h; exact ⟨_, rfl⟩)
  · repeat' split at h
    all_goals first | (cases h; done) | (cases h; simp; done)
set_option maxRecDepth 100000 in
set_option maxHeartbeats 4000000 in
theorem La_miss_ok {x y : Int32} (I : Inv (FQ m i f oa z) S ad A) (K : SOK S) (hoa : ¬ (m ≤ oa ∧ oa < m + 43)) (hgl : A.2.1 + 16 ≤ gL (gg u)) (hgs : A.2.2 + 400 ≤ gS (gg u)) : V (gg u) 7 mm_La_miss 0 [some (.ref (ad 0 0)), some (.int x), some (.int y), some (.ref oa), none] [] A (WP m i f oa (xc [2, 0, 0, 1]) (ad 0 0) A (spMiss S x y)) := by
  refine v_aload_n (dk cd_La_miss 0 rfl) rfl ?_
  refine v_iconst (v := 0) (dk cd_La_miss 1 rfl) (by decide) ?_
  refine v_aload_n (dk cd_La_miss 2 rfl) rfl ?_
  refine v_iload_n (dk cd_La_miss 3 rfl) rfl ?_
  refine v_iload_n (dk cd_La_miss 4 rfl) rfl ?_
  refine v_callvC (r := ("AreaWarnings", TT_AW, 9)) (dk cd_La_miss 5 rfl) cv_La_53 lk_La_53 rfl I.aw (as := [_, _]) rfl rfl (Nat.le_of_ble_eq_true rfl) (by simp [Value.category]) (AW_miss_ok I K.wf hgl hgs) (fun v9 A9 hq => ?_) (fun a9 A9 k9 hq hk9 => ?_)
  · obtain ⟨ad', h1, I2, h3, h4, h5⟩ := hq
    rcases hqq : (spMiss S x y).2 with v | kd
    · rw [hqq] at h5
      cases h5
      obtain ⟨w9, rfl⟩ := spMiss_kd.1 _ hqq
      refine v_i2l (dk cd_La_miss 6 rfl) ?_
      refine v_last (j := 2) (dk cd_La_miss 7 rfl) (I2.2.2.1 oa _ FQ.oa).1 (by decide) rfl (by decide) (Nat.zero_lt_succ _) ?_
      refine v_goto (tgt := 21) (dk cd_La_miss 8 rfl) rfl ?_
      refine v_iconst (v := 0) (dk cd_La_miss 15 rfl) (by decide) ?_
      exact v_iret (dk cd_La_miss 16 rfl) rfl ⟨0, ad', _, rfl, h1, lastF I2 hoa, h3, h4, by rw [hqq]; exact ⟨rfl, w9, rfl, rfl⟩⟩
    · rw [hqq] at h5
      obtain ⟨a, e, _⟩ := h5
      cases e
  · obtain ⟨ad', h1, I2, h3, h4, h5⟩ := hq
    rcases hqq : (spMiss S x y).2 with v | kd
    · rw [hqq] at h5
      cases h5
    · rw [hqq] at h5
      obtain ⟨a, e, ha⟩ := h5
      cases e
      rw [ha] at hk9
      have hkk : kd = k9 := by have := Option.some.inj hk9; have := congrArg Prod.fst this; simp only [] at this; omega
      subst hkk
      rcases spMiss_kd.2 _ hqq with rfl | rfl
      · refine ⟨("java/lang/IndexOutOfBoundsException", u.2.2.1 3), [], { startPc := 0, endPc := 10, handlerPc := 13, catchType := 42 }, [{ startPc := 0, endPc := 10, handlerPc := 17, catchType := 13 }], rfl, rfl, ?_, ⟨by decide, by decide, kl_La_42⟩, ?_⟩
        · exact fun w hw => by cases hw
        · refine v_astore (dk cd_La_miss 9 rfl) (by decide) rfl ?_
          refine v_iconst (v := 1) (dk cd_La_miss 10 rfl) (by decide) ?_
          exact v_iret (dk cd_La_miss 11 rfl) rfl ⟨_, ad', z, rfl, h1, I2, h3, h4, by rw [hqq]; rfl⟩
      · refine ⟨("java/lang/IllegalArgumentException", u.2.2.1 0), [{ startPc := 0, endPc := 10, handlerPc := 13, catchType := 42 }], { startPc := 0, endPc := 10, handlerPc := 17, catchType := 13 }, [], rfl, rfl, ?_, ⟨by decide, by decide, kl_La_13⟩, ?_⟩
        · intro w hw
          simp only [List.mem_cons, List.not_mem_nil, or_false] at hw
          subst hw
          exact Or.inr ⟨by decide, _, kl_La_42, nc_0_3⟩
        · refine v_astore (dk cd_La_miss 12 rfl) (by decide) rfl ?_
          refine v_iconst (v := 2) (dk cd_La_miss 13 rfl) (by decide) ?_
          exact v_iret (dk cd_La_miss 14 rfl) rfl ⟨_, ad', z, rfl, h1, I2, h3, h4, by rw [hqq]; rfl⟩
theorem spCovers_kd {x y : Int32} : (∀ v, (spCovers S x y).2 = .inl v → ∃ b : Bool, v = .int (b2i b)) ∧ ∀ kd, (spCovers S x y).2 = .inr kd → kd = 3 ∨ kd = 1 := by
  unfold spCovers
  refine ⟨fun v h => ?_, fun kd h => ?_⟩
  · repeat' split at h
    all_goals first | (cases h; done) | (cases h; exact ⟨_, rfl⟩)
  · repeat' split at h
    all_goals first | (cases h; done) | (cases h; simp; done)
set_option maxRecDepth 100000 in
set_option maxHeartbeats 4000000 in
theorem La_covers_ok {x y : Int32} (I : Inv (FQ m i f oa z) S ad A) (K : SOK S) (hoa : ¬ (m ≤ oa ∧ oa < m + 43)) (hgl : A.2.1 + 16 ≤ gL (gg u)) (hgs : A.2.2 + 400 ≤ gS (gg u)) : V (gg u) 7 mm_La_covers 0 [some (.ref (ad 0 0)), some (.int x), some (.int y), some (.ref oa), none] [] A (WP m i f oa (xc [0, 2, 0, 1]) (ad 0 0) A (spCovers S x y)) := by
  refine v_aload_n (dk cd_La_covers 0 rfl) rfl ?_
  refine v_iconst (v := 0) (dk cd_La_covers 1 rfl) (by decide) ?_
  refine v_aload_n (dk cd_La_covers 2 rfl) rfl ?_
  refine v_iload_n (dk cd_La_covers 3 rfl) rfl ?_
  refine v_iload_n (dk cd_La_covers 4 rfl) rfl ?_
  refine v_callvC (r := ("AreaWarnings", TT_AW, 9)) (dk cd_La_covers 5 rfl) cv_La_56 lk_La_56 rfl I.aw (as := [_, _]) rfl rfl (Nat.le_of_ble_eq_true rfl) (by simp [Value.category]) (AW_covers_ok I K.wf hgl hgs K.wv) (fun v9 A9 hq => ?_) (fun a9 A9 k9 hq hk9 => ?_)
  · obtain ⟨ad', h1, I2, h3, h4, h5⟩ := hq
    rcases hqq : (spCovers S x y).2 with v | kd
    · rw [hqq] at h5
      cases h5
      obtain ⟨w9, rfl⟩ := spCovers_kd.1 _ hqq
      refine v_ifeqB (tgt := 15) (dk cd_La_covers 6 rfl) rfl (fun q8 => ?_) (fun q8 => ?_)
      · refine v_lconst (v := 0) (dk cd_La_covers 9 rfl) (by decide) ?_
        refine v_last (j := 2) (dk cd_La_covers 10 rfl) (I2.2.2.1 oa _ FQ.oa).1 (by decide) rfl (by decide) (Nat.zero_lt_succ _) ?_
        refine v_goto (tgt := 28) (dk cd_La_covers 11 rfl) rfl ?_
        refine v_iconst (v := 0) (dk cd_La_covers 18 rfl) (by decide) ?_
        exact v_iret (dk cd_La_covers 19 rfl) rfl ⟨0, ad', _, rfl, h1, lastF I2 hoa, h3, h4, by rw [hqq]; exact ⟨rfl, _, rfl, by rw [b2i_long, q8]; rfl⟩⟩
      · refine v_lconst (v := 1) (dk cd_La_covers 7 rfl) (by decide) ?_
        refine v_goto (tgt := 16) (dk cd_La_covers 8 rfl) rfl ?_
        refine v_last (j := 2) (dk cd_La_covers 10 rfl) (I2.2.2.1 oa _ FQ.oa).1 (by decide) rfl (by decide) (Nat.zero_lt_succ _) ?_
        refine v_goto (tgt := 28) (dk cd_La_covers 11 rfl) rfl ?_
        refine v_iconst (v := 0) (dk cd_La_covers 18 rfl) (by decide) ?_
        exact v_iret (dk cd_La_covers 19 rfl) rfl ⟨0, ad', _, rfl, h1, lastF I2 hoa, h3, h4, by rw [hqq]; exact ⟨rfl, _, rfl, by rw [b2i_long, q8]; rfl⟩⟩
    · rw [hqq] at h5
      obtain ⟨a, e, _⟩ := h5
      cases e
  · obtain ⟨ad', h1, I2, h3, h4, h5⟩ := hq
    rcases hqq : (spCovers S x y).2 with v | kd
    · rw [hqq] at h5
      cases h5
    · rw [hqq] at h5
      obtain ⟨a, e, ha⟩ := h5
      cases e
      rw [ha] at hk9
      have hkk : kd = k9 := by have := Option.some.inj hk9; have := congrArg Prod.fst this; simp only [] at this; omega
      subst hkk
      rcases spCovers_kd.2 _ hqq with rfl | rfl
      · refine ⟨("java/lang/IndexOutOfBoundsException", u.2.2.1 3), [], { startPc := 0, endPc := 17, handlerPc := 20, catchType := 42 }, [{ startPc := 0, endPc := 17, handlerPc := 24, catchType := 15 }], rfl, rfl, ?_, ⟨by decide, by decide, kl_La_42⟩, ?_⟩
        · exact fun w hw => by cases hw
        · refine v_astore (dk cd_La_covers 12 rfl) (by decide) rfl ?_
          refine v_iconst (v := 1) (dk cd_La_covers 13 rfl) (by decide) ?_
          exact v_iret (dk cd_La_covers 14 rfl) rfl ⟨_, ad', z, rfl, h1, I2, h3, h4, by rw [hqq]; rfl⟩
      · refine ⟨("java/lang/IllegalStateException", u.2.2.1 1), [{ startPc := 0, endPc := 17, handlerPc := 20, catchType := 42 }], { startPc := 0, endPc := 17, handlerPc := 24, catchType := 15 }, [], rfl, rfl, ?_, ⟨by decide, by decide, kl_La_15⟩, ?_⟩
        · intro w hw
          simp only [List.mem_cons, List.not_mem_nil, or_false] at hw
          subst hw
          exact Or.inr ⟨by decide, _, kl_La_42, nc_1_3⟩
        · refine v_astore (dk cd_La_covers 15 rfl) (by decide) rfl ?_
          refine v_iconst (v := 2) (dk cd_La_covers 16 rfl) (by decide) ?_
          exact v_iret (dk cd_La_covers 17 rfl) rfl ⟨_, ad', z, rfl, h1, I2, h3, h4, by rw [hqq]; rfl⟩
theorem spListed_kd {x y r : Int32} : (∀ v, (spListed S x y r).2 = .inl v → ∃ n : Int32, v = .int n) ∧ ∀ kd, (spListed S x y r).2 = .inr kd → kd = 3 ∨ kd = 0 := by
  unfold spListed lsVal
  refine ⟨fun v h => ?_, fun kd h => ?_⟩
  · repeat' split at h
    all_goals first | (cases h; done) | (cases h; exact ⟨_, rfl⟩)
  · repeat' split at h
    all_goals first | (cases h; done) | (cases h; simp; done)
set_option maxRecDepth 100000 in
set_option maxHeartbeats 4000000 in
theorem La_listed_ok {x y r : Int32} (I : Inv (FQ m i f oa z) S ad A) (K : SOK S) (hoa : ¬ (m ≤ oa ∧ oa < m + 43)) (hgl : A.2.1 + 16 ≤ gL (gg u)) (hgs : A.2.2 + 400 ≤ gS (gg u)) : V (gg u) 7 mm_La_listed 0 [some (.ref (ad 0 0)), some (.int x), some (.int y), some (.int r), some (.ref oa), none] [] A (WP m i f oa (xc [2, 0, 0, 1]) (ad 0 0) A (spListed S x y r)) := by
  refine v_aload (dk cd_La_listed 0 rfl) rfl ?_
  refine v_iconst (v := 0) (dk cd_La_listed 1 rfl) (by decide) ?_
  refine v_aload_n (dk cd_La_listed 2 rfl) rfl ?_
  refine v_iload_n (dk cd_La_listed 3 rfl) rfl ?_
  refine v_iload_n (dk cd_La_listed 4 rfl) rfl ?_
  refine v_iload_n (dk cd_La_listed 5 rfl) rfl ?_
  refine v_callvC (r := ("AreaWarnings", TT_AW, 9)) (dk cd_La_listed 6 rfl) cv_La_60 lk_La_60 rfl I.aw (as := [_, _, _]) rfl rfl (Nat.le_of_ble_eq_true rfl) (by simp [Value.category]) (AW_listed_ok I K.wf hgl hgs K.wc) (fun v9 A9 hq => ?_) (fun a9 A9 k9 hq hk9 => ?_)
  · obtain ⟨ad', h1, I2, h3, h4, h5⟩ := hq
    rcases hqq : (spListed S x y r).2 with v | kd
    · rw [hqq] at h5
      cases h5
      obtain ⟨w9, rfl⟩ := spListed_kd.1 _ hqq
      refine v_i2l (dk cd_La_listed 7 rfl) ?_
      refine v_last (j := 2) (dk cd_La_listed 8 rfl) (I2.2.2.1 oa _ FQ.oa).1 (by decide) rfl (by decide) (Nat.zero_lt_succ _) ?_
      refine v_goto (tgt := 23) (dk cd_La_listed 9 rfl) rfl ?_
      refine v_iconst (v := 0) (dk cd_La_listed 16 rfl) (by decide) ?_
      exact v_iret (dk cd_La_listed 17 rfl) rfl ⟨0, ad', _, rfl, h1, lastF I2 hoa, h3, h4, by rw [hqq]; exact ⟨rfl, w9, rfl, rfl⟩⟩
    · rw [hqq] at h5
      obtain ⟨a, e, _⟩ := h5
      cases e
  · obtain ⟨ad', h1, I2, h3, h4, h5⟩ := hq
    rcases hqq : (spListed S x y r).2 with v | kd
    · rw [hqq] at h5
      cases h5
    · rw [hqq] at h5
      obtain ⟨a, e, ha⟩ := h5
      cases e
      rw [ha] at hk9
      have hkk : kd = k9 := by have := Option.some.inj hk9; have := congrArg Prod.fst this; simp only [] at this; omega
      subst hkk
      rcases spListed_kd.2 _ hqq with rfl | rfl
      · refine ⟨("java/lang/IndexOutOfBoundsException", u.2.2.1 3), [], { startPc := 0, endPc := 12, handlerPc := 15, catchType := 42 }, [{ startPc := 0, endPc := 12, handlerPc := 19, catchType := 13 }], rfl, rfl, ?_, ⟨by decide, by decide, kl_La_42⟩, ?_⟩
        · exact fun w hw => by cases hw
        · refine v_astore (dk cd_La_listed 10 rfl) (by decide) rfl ?_
          refine v_iconst (v := 1) (dk cd_La_listed 11 rfl) (by decide) ?_
          exact v_iret (dk cd_La_listed 12 rfl) rfl ⟨_, ad', z, rfl, h1, I2, h3, h4, by rw [hqq]; rfl⟩
      · refine ⟨("java/lang/IllegalArgumentException", u.2.2.1 0), [{ startPc := 0, endPc := 12, handlerPc := 15, catchType := 42 }], { startPc := 0, endPc := 12, handlerPc := 19, catchType := 13 }, [], rfl, rfl, ?_, ⟨by decide, by decide, kl_La_13⟩, ?_⟩
        · intro w hw
          simp only [List.mem_cons, List.not_mem_nil, or_false] at hw
          subst hw
          exact Or.inr ⟨by decide, _, kl_La_42, nc_0_3⟩
        · refine v_astore (dk cd_La_listed 13 rfl) (by decide) rfl ?_
          refine v_iconst (v := 2) (dk cd_La_listed 14 rfl) (by decide) ?_
          exact v_iret (dk cd_La_listed 15 rfl) rfl ⟨_, ad', z, rfl, h1, I2, h3, h4, by rw [hqq]; rfl⟩
theorem spSent_kd {x y r : Int32} : (∀ v, (spSent S x y r).2 = .inl v → ∃ n : Int32, v = .int n) ∧ ∀ kd, (spSent S x y r).2 = .inr kd → kd = 3 ∨ kd = 0 := by
  unfold spSent stVal
  refine ⟨fun v h => ?_, fun kd h => ?_⟩
  · repeat' split at h
    all_goals first | (cases h; done) | (cases h; exact ⟨_, rfl⟩)
  · repeat' split at h
    all_goals first | (cases h; done) | (cases h; simp; done)
set_option maxRecDepth 100000 in
set_option maxHeartbeats 4000000 in
theorem La_sent_ok {x y r : Int32} (I : Inv (FQ m i f oa z) S ad A) (K : SOK S) (hoa : ¬ (m ≤ oa ∧ oa < m + 43)) (hgl : A.2.1 + 16 ≤ gL (gg u)) (hgs : A.2.2 + 400 ≤ gS (gg u)) : V (gg u) 7 mm_La_sent 0 [some (.ref (ad 0 0)), some (.int x), some (.int y), some (.int r), some (.ref oa), none] [] A (WP m i f oa (xc [2, 0, 0, 1]) (ad 0 0) A (spSent S x y r)) := by
  refine v_aload (dk cd_La_sent 0 rfl) rfl ?_
  refine v_iconst (v := 0) (dk cd_La_sent 1 rfl) (by decide) ?_
  refine v_aload_n (dk cd_La_sent 2 rfl) rfl ?_
  refine v_iload_n (dk cd_La_sent 3 rfl) rfl ?_
  refine v_iload_n (dk cd_La_sent 4 rfl) rfl ?_
  refine v_iload_n (dk cd_La_sent 5 rfl) rfl ?_
  refine v_callvC (r := ("AreaWarnings", TT_AW, 9)) (dk cd_La_sent 6 rfl) cv_La_63 lk_La_63 rfl I.aw (as := [_, _, _]) rfl rfl (Nat.le_of_ble_eq_true rfl) (by simp [Value.category]) (AW_sent_ok I K.wf hgl hgs K.wc K.wv) (fun v9 A9 hq => ?_) (fun a9 A9 k9 hq hk9 => ?_)
  · obtain ⟨ad', h1, I2, h3, h4, h5⟩ := hq
    rcases hqq : (spSent S x y r).2 with v | kd
    · rw [hqq] at h5
      cases h5
      obtain ⟨w9, rfl⟩ := spSent_kd.1 _ hqq
      refine v_i2l (dk cd_La_sent 7 rfl) ?_
      refine v_last (j := 2) (dk cd_La_sent 8 rfl) (I2.2.2.1 oa _ FQ.oa).1 (by decide) rfl (by decide) (Nat.zero_lt_succ _) ?_
      refine v_goto (tgt := 23) (dk cd_La_sent 9 rfl) rfl ?_
      refine v_iconst (v := 0) (dk cd_La_sent 16 rfl) (by decide) ?_
      exact v_iret (dk cd_La_sent 17 rfl) rfl ⟨0, ad', _, rfl, h1, lastF I2 hoa, h3, h4, by rw [hqq]; exact ⟨rfl, w9, rfl, rfl⟩⟩
    · rw [hqq] at h5
      obtain ⟨a, e, _⟩ := h5
      cases e
  · obtain ⟨ad', h1, I2, h3, h4, h5⟩ := hq
    rcases hqq : (spSent S x y r).2 with v | kd
    · rw [hqq] at h5
      cases h5
    · rw [hqq] at h5
      obtain ⟨a, e, ha⟩ := h5
      cases e
      rw [ha] at hk9
      have hkk : kd = k9 := by have := Option.some.inj hk9; have := congrArg Prod.fst this; simp only [] at this; omega
      subst hkk
      rcases spSent_kd.2 _ hqq with rfl | rfl
      · refine ⟨("java/lang/IndexOutOfBoundsException", u.2.2.1 3), [], { startPc := 0, endPc := 12, handlerPc := 15, catchType := 42 }, [{ startPc := 0, endPc := 12, handlerPc := 19, catchType := 13 }], rfl, rfl, ?_, ⟨by decide, by decide, kl_La_42⟩, ?_⟩
        · exact fun w hw => by cases hw
        · refine v_astore (dk cd_La_sent 10 rfl) (by decide) rfl ?_
          refine v_iconst (v := 1) (dk cd_La_sent 11 rfl) (by decide) ?_
          exact v_iret (dk cd_La_sent 12 rfl) rfl ⟨_, ad', z, rfl, h1, I2, h3, h4, by rw [hqq]; rfl⟩
      · refine ⟨("java/lang/IllegalArgumentException", u.2.2.1 0), [{ startPc := 0, endPc := 12, handlerPc := 15, catchType := 42 }], { startPc := 0, endPc := 12, handlerPc := 19, catchType := 13 }, [], rfl, rfl, ?_, ⟨by decide, by decide, kl_La_13⟩, ?_⟩
        · intro w hw
          simp only [List.mem_cons, List.not_mem_nil, or_false] at hw
          subst hw
          exact Or.inr ⟨by decide, _, kl_La_42, nc_0_3⟩
        · refine v_astore (dk cd_La_sent 13 rfl) (by decide) rfl ?_
          refine v_iconst (v := 2) (dk cd_La_sent 14 rfl) (by decide) ?_
          exact v_iret (dk cd_La_sent 15 rfl) rfl ⟨_, ad', z, rfl, h1, I2, h3, h4, by rw [hqq]; rfl⟩
theorem spShown_kd {x y r : Int32} : (∀ v, (spShown S x y r).2 = .inl v → ∃ n : Int32, v = .int n) ∧ ∀ kd, (spShown S x y r).2 = .inr kd → kd = 3 ∨ kd = 0 := by
  unfold spShown shVal
  refine ⟨fun v h => ?_, fun kd h => ?_⟩
  · repeat' split at h
    all_goals first | (cases h; done) | (cases h; exact ⟨_, rfl⟩)
  · repeat' split at h
    all_goals first | (cases h; done) | (cases h; simp; done)
set_option maxRecDepth 100000 in
set_option maxHeartbeats 4000000 in
theorem La_shown_ok {x y r : Int32} (I : Inv (FQ m i f oa z) S ad A) (K : SOK S) (hoa : ¬ (m ≤ oa ∧ oa < m + 43)) (hgl : A.2.1 + 16 ≤ gL (gg u)) (hgs : A.2.2 + 400 ≤ gS (gg u)) : V (gg u) 7 mm_La_shown 0 [some (.ref (ad 0 0)), some (.int x), some (.int y), some (.int r), some (.ref oa), none] [] A (WP m i f oa (xc [2, 0, 0, 1]) (ad 0 0) A (spShown S x y r)) := by
  refine v_aload (dk cd_La_shown 0 rfl) rfl ?_
  refine v_iconst (v := 0) (dk cd_La_shown 1 rfl) (by decide) ?_
  refine v_aload_n (dk cd_La_shown 2 rfl) rfl ?_
  refine v_iload_n (dk cd_La_shown 3 rfl) rfl ?_
  refine v_iload_n (dk cd_La_shown 4 rfl) rfl ?_
  refine v_iload_n (dk cd_La_shown 5 rfl) rfl ?_
  refine v_callvC (r := ("AreaWarnings", TT_AW, 9)) (dk cd_La_shown 6 rfl) cv_La_66 lk_La_66 rfl I.aw (as := [_, _, _]) rfl rfl (Nat.le_of_ble_eq_true rfl) (by simp [Value.category]) (AW_shown_ok I K.wf hgl hgs K.wh K.wv) (fun v9 A9 hq => ?_) (fun a9 A9 k9 hq hk9 => ?_)
  · obtain ⟨ad', h1, I2, h3, h4, h5⟩ := hq
    rcases hqq : (spShown S x y r).2 with v | kd
    · rw [hqq] at h5
      cases h5
      obtain ⟨w9, rfl⟩ := spShown_kd.1 _ hqq
      refine v_i2l (dk cd_La_shown 7 rfl) ?_
      refine v_last (j := 2) (dk cd_La_shown 8 rfl) (I2.2.2.1 oa _ FQ.oa).1 (by decide) rfl (by decide) (Nat.zero_lt_succ _) ?_
      refine v_goto (tgt := 23) (dk cd_La_shown 9 rfl) rfl ?_
      refine v_iconst (v := 0) (dk cd_La_shown 16 rfl) (by decide) ?_
      exact v_iret (dk cd_La_shown 17 rfl) rfl ⟨0, ad', _, rfl, h1, lastF I2 hoa, h3, h4, by rw [hqq]; exact ⟨rfl, w9, rfl, rfl⟩⟩
    · rw [hqq] at h5
      obtain ⟨a, e, _⟩ := h5
      cases e
  · obtain ⟨ad', h1, I2, h3, h4, h5⟩ := hq
    rcases hqq : (spShown S x y r).2 with v | kd
    · rw [hqq] at h5
      cases h5
    · rw [hqq] at h5
      obtain ⟨a, e, ha⟩ := h5
      cases e
      rw [ha] at hk9
      have hkk : kd = k9 := by have := Option.some.inj hk9; have := congrArg Prod.fst this; simp only [] at this; omega
      subst hkk
      rcases spShown_kd.2 _ hqq with rfl | rfl
      · refine ⟨("java/lang/IndexOutOfBoundsException", u.2.2.1 3), [], { startPc := 0, endPc := 12, handlerPc := 15, catchType := 42 }, [{ startPc := 0, endPc := 12, handlerPc := 19, catchType := 13 }], rfl, rfl, ?_, ⟨by decide, by decide, kl_La_42⟩, ?_⟩
        · exact fun w hw => by cases hw
        · refine v_astore (dk cd_La_shown 10 rfl) (by decide) rfl ?_
          refine v_iconst (v := 1) (dk cd_La_shown 11 rfl) (by decide) ?_
          exact v_iret (dk cd_La_shown 12 rfl) rfl ⟨_, ad', z, rfl, h1, I2, h3, h4, by rw [hqq]; rfl⟩
      · refine ⟨("java/lang/IllegalArgumentException", u.2.2.1 0), [{ startPc := 0, endPc := 12, handlerPc := 15, catchType := 42 }], { startPc := 0, endPc := 12, handlerPc := 19, catchType := 13 }, [], rfl, rfl, ?_, ⟨by decide, by decide, kl_La_13⟩, ?_⟩
        · intro w hw
          simp only [List.mem_cons, List.not_mem_nil, or_false] at hw
          subst hw
          exact Or.inr ⟨by decide, _, kl_La_42, nc_0_3⟩
        · refine v_astore (dk cd_La_shown 13 rfl) (by decide) rfl ?_
          refine v_iconst (v := 2) (dk cd_La_shown 14 rfl) (by decide) ?_
          exact v_iret (dk cd_La_shown 15 rfl) rfl ⟨_, ad', z, rfl, h1, I2, h3, h4, by rw [hqq]; rfl⟩
theorem spShownByte_kd {x y r : Int32} : (∀ v, (spShownByte S x y r).2 = .inl v → ∃ n : Int32, v = .int n) ∧ ∀ kd, (spShownByte S x y r).2 = .inr kd → kd = 3 := by
  unfold spShownByte
  refine ⟨fun v h => ?_, fun kd h => ?_⟩
  · repeat' split at h
    all_goals first | (cases h; done) | (cases h; exact ⟨_, rfl⟩)
  · repeat' split at h
    all_goals first | (cases h; done) | (cases h; simp; done)
set_option maxRecDepth 100000 in
set_option maxHeartbeats 4000000 in
theorem La_shownByte_ok {x y r : Int32} (I : Inv (FQ m i f oa z) S ad A) (K : SOK S) (hoa : ¬ (m ≤ oa ∧ oa < m + 43)) (hgl : A.2.1 + 16 ≤ gL (gg u)) (hgs : A.2.2 + 400 ≤ gS (gg u)) : V (gg u) 7 mm_La_shownByte 0 [some (.ref (ad 0 0)), some (.int x), some (.int y), some (.int r), some (.ref oa), none] [] A (WP m i f oa (xc [0, 0, 0, 1]) (ad 0 0) A (spShownByte S x y r)) := by
  refine v_aload (dk cd_La_shownByte 0 rfl) rfl ?_
  refine v_iconst (v := 0) (dk cd_La_shownByte 1 rfl) (by decide) ?_
  refine v_aload_n (dk cd_La_shownByte 2 rfl) rfl ?_
  refine v_iload_n (dk cd_La_shownByte 3 rfl) rfl ?_
  refine v_iload_n (dk cd_La_shownByte 4 rfl) rfl ?_
  refine v_iload_n (dk cd_La_shownByte 5 rfl) rfl ?_
  refine v_callvC (r := ("AreaWarnings", TT_AW, 9)) (dk cd_La_shownByte 6 rfl) cv_La_69 lk_La_69 rfl I.aw (as := [_, _, _]) rfl rfl (Nat.le_of_ble_eq_true rfl) (by simp [Value.category]) (AW_shownByte_ok I K.wf hgl hgs K.wh K.wv) (fun v9 A9 hq => ?_) (fun a9 A9 k9 hq hk9 => ?_)
  · obtain ⟨ad', h1, I2, h3, h4, h5⟩ := hq
    rcases hqq : (spShownByte S x y r).2 with v | kd
    · rw [hqq] at h5
      cases h5
      obtain ⟨w9, rfl⟩ := spShownByte_kd.1 _ hqq
      refine v_i2l (dk cd_La_shownByte 7 rfl) ?_
      refine v_last (j := 2) (dk cd_La_shownByte 8 rfl) (I2.2.2.1 oa _ FQ.oa).1 (by decide) rfl (by decide) (Nat.zero_lt_succ _) ?_
      refine v_goto (tgt := 19) (dk cd_La_shownByte 9 rfl) rfl ?_
      refine v_iconst (v := 0) (dk cd_La_shownByte 13 rfl) (by decide) ?_
      exact v_iret (dk cd_La_shownByte 14 rfl) rfl ⟨0, ad', _, rfl, h1, lastF I2 hoa, h3, h4, by rw [hqq]; exact ⟨rfl, w9, rfl, rfl⟩⟩
    · rw [hqq] at h5
      obtain ⟨a, e, _⟩ := h5
      cases e
  · obtain ⟨ad', h1, I2, h3, h4, h5⟩ := hq
    rcases hqq : (spShownByte S x y r).2 with v | kd
    · rw [hqq] at h5
      cases h5
    · rw [hqq] at h5
      obtain ⟨a, e, ha⟩ := h5
      cases e
      rw [ha] at hk9
      have hkk : kd = k9 := by have := Option.some.inj hk9; have := congrArg Prod.fst this; simp only [] at this; omega
      subst hkk
      have hkd := spShownByte_kd.2 _ hqq
      subst hkd
      refine ⟨("java/lang/IndexOutOfBoundsException", u.2.2.1 3), [], { startPc := 0, endPc := 12, handlerPc := 15, catchType := 42 }, [], rfl, rfl, ?_, ⟨by decide, by decide, kl_La_42⟩, ?_⟩
      · exact fun w hw => by cases hw
      · refine v_astore (dk cd_La_shownByte 10 rfl) (by decide) rfl ?_
        refine v_iconst (v := 1) (dk cd_La_shownByte 11 rfl) (by decide) ?_
        exact v_iret (dk cd_La_shownByte 12 rfl) rfl ⟨_, ad', z, rfl, h1, I2, h3, h4, by rw [hqq]; rfl⟩
end WR
