/-! the law: its loop, its start -/
theorem sw20 (x : Int32) : x = 0 ∨ x = 1 ∨ x = 2 ∨ x = 3 ∨ x = 4 ∨ x = 5 ∨ x = 6 ∨ x = 7 ∨ x = 8 ∨ x = 9 ∨ x = 10 ∨ x = 11 ∨ x = 12 ∨ x = 13 ∨ x = 14 ∨ x = 15 ∨ x = 16 ∨ x = 17 ∨ x = 18 ∨ x = 19 ∨ (x.toInt < 0 ∨ 19 < x.toInt) := by
  by_cases h : x.toInt < 0 ∨ 19 < x.toInt
  · exact Or.inr (Or.inr (Or.inr (Or.inr (Or.inr (Or.inr (Or.inr (Or.inr (Or.inr (Or.inr (Or.inr (Or.inr (Or.inr (Or.inr (Or.inr (Or.inr (Or.inr (Or.inr (Or.inr (Or.inr (h))))))))))))))))))))
  · have h0 : ¬ x < 0 := fun q => h (Or.inl (by rw [Int32.lt_iff_toInt_lt] at q; exact q))
    have h1 : x.toInt = 0 ∨ x.toInt = 1 ∨ x.toInt = 2 ∨ x.toInt = 3 ∨ x.toInt = 4 ∨ x.toInt = 5 ∨ x.toInt = 6 ∨ x.toInt = 7 ∨ x.toInt = 8 ∨ x.toInt = 9 ∨ x.toInt = 10 ∨ x.toInt = 11 ∨ x.toInt = 12 ∨ x.toInt = 13 ∨ x.toInt = 14 ∨ x.toInt = 15 ∨ x.toInt = 16 ∨ x.toInt = 17 ∨ x.toInt = 18 ∨ x.toInt = 19 := by omega
    rcases h1 with h1 | h1 | h1 | h1 | h1 | h1 | h1 | h1 | h1 | h1 | h1 | h1 | h1 | h1 | h1 | h1 | h1 | h1 | h1 | h1
    · exact Or.inl (Int32.toInt_inj.mp h1)
    · exact Or.inr (Or.inl (Int32.toInt_inj.mp h1))
    · exact Or.inr (Or.inr (Or.inl (Int32.toInt_inj.mp h1)))
    · exact Or.inr (Or.inr (Or.inr (Or.inl (Int32.toInt_inj.mp h1))))
    · exact Or.inr (Or.inr (Or.inr (Or.inr (Or.inl (Int32.toInt_inj.mp h1)))))
    · exact Or.inr (Or.inr (Or.inr (Or.inr (Or.inr (Or.inl (Int32.toInt_inj.mp h1))))))
    · exact Or.inr (Or.inr (Or.inr (Or.inr (Or.inr (Or.inr (Or.inl (Int32.toInt_inj.mp h1)))))))
    · exact Or.inr (Or.inr (Or.inr (Or.inr (Or.inr (Or.inr (Or.inr (Or.inl (Int32.toInt_inj.mp h1))))))))
    · exact Or.inr (Or.inr (Or.inr (Or.inr (Or.inr (Or.inr (Or.inr (Or.inr (Or.inl (Int32.toInt_inj.mp h1)))))))))
    · exact Or.inr (Or.inr (Or.inr (Or.inr (Or.inr (Or.inr (Or.inr (Or.inr (Or.inr (Or.inl (Int32.toInt_inj.mp h1))))))))))
    · exact Or.inr (Or.inr (Or.inr (Or.inr (Or.inr (Or.inr (Or.inr (Or.inr (Or.inr (Or.inr (Or.inl (Int32.toInt_inj.mp h1)))))))))))
    · exact Or.inr (Or.inr (Or.inr (Or.inr (Or.inr (Or.inr (Or.inr (Or.inr (Or.inr (Or.inr (Or.inr (Or.inl (Int32.toInt_inj.mp h1))))))))))))
    · exact Or.inr (Or.inr (Or.inr (Or.inr (Or.inr (Or.inr (Or.inr (Or.inr (Or.inr (Or.inr (Or.inr (Or.inr (Or.inl (Int32.toInt_inj.mp h1)))))))))))))
    · exact Or.inr (Or.inr (Or.inr (Or.inr (Or.inr (Or.inr (Or.inr (Or.inr (Or.inr (Or.inr (Or.inr (Or.inr (Or.inr (Or.inl (Int32.toInt_inj.mp h1))))))))))))))
    · exact Or.inr (Or.inr (Or.inr (Or.inr (Or.inr (Or.inr (Or.inr (Or.inr (Or.inr (Or.inr (Or.inr (Or.inr (Or.inr (Or.inr (Or.inl (Int32.toInt_inj.mp h1)))))))))))))))
    · exact Or.inr (Or.inr (Or.inr (Or.inr (Or.inr (Or.inr (Or.inr (Or.inr (Or.inr (Or.inr (Or.inr (Or.inr (Or.inr (Or.inr (Or.inr (Or.inl (Int32.toInt_inj.mp h1))))))))))))))))
    · exact Or.inr (Or.inr (Or.inr (Or.inr (Or.inr (Or.inr (Or.inr (Or.inr (Or.inr (Or.inr (Or.inr (Or.inr (Or.inr (Or.inr (Or.inr (Or.inr (Or.inl (Int32.toInt_inj.mp h1)))))))))))))))))
    · exact Or.inr (Or.inr (Or.inr (Or.inr (Or.inr (Or.inr (Or.inr (Or.inr (Or.inr (Or.inr (Or.inr (Or.inr (Or.inr (Or.inr (Or.inr (Or.inr (Or.inr (Or.inl (Int32.toInt_inj.mp h1))))))))))))))))))
    · exact Or.inr (Or.inr (Or.inr (Or.inr (Or.inr (Or.inr (Or.inr (Or.inr (Or.inr (Or.inr (Or.inr (Or.inr (Or.inr (Or.inr (Or.inr (Or.inr (Or.inr (Or.inr (Or.inl (Int32.toInt_inj.mp h1)))))))))))))))))))
    · exact Or.inr (Or.inr (Or.inr (Or.inr (Or.inr (Or.inr (Or.inr (Or.inr (Or.inr (Or.inr (Or.inr (Or.inr (Or.inr (Or.inr (Or.inr (Or.inr (Or.inr (Or.inr (Or.inr (Or.inl (Int32.toInt_inj.mp h1))))))))))))))))))))
theorem six_le {n k : Nat} (hn : n ≤ 3072) (hk : k ≤ 3072) (h : ¬ nI n - 6 < nI (6 * k)) : 6 * k + 6 ≤ n := by
  have e : (6 : Int32).toInt = 6 := rfl
  rw [Int32.lt_iff_toInt_lt, nI_toInt (by omega), Int32.toInt_sub, nI_toInt (by omega), e, bm32 (by omega) (by omega)] at h
  omega
def LT (o m oa C Z k : Nat) (A : AH) : Prop := ∃ (S : SS) (ad : Nat → Nat → Nat) (t : Int32) (i : Nat → Int32) (f : Nat → Nat → Int32) (z : Int64), ad 0 0 = o ∧ Inv (FQ m i f oa z) S ad A ∧ Rel S t i f ∧ SOK S ∧ A.2.1 ≤ C + 16 * k ∧ A.2.2 ≤ Z + 400 * k
section LP
variable {u : Ux} {A : AH} {m oa b n o C Z : Nat} {xs : Nat → Int32}
def PE : Out → AH → Prop := fun r _ => r = .inl (some (.int 1))
set_option maxRecDepth 100000 in
set_option maxHeartbeats 4000000 in
theorem lw_loop (hscr : Scr (gg u) b n xs) (hn : n ≤ 3072) (hoa : ¬ (m ≤ oa ∧ oa < m + 43)) (hC : C + 8224 ≤ gL (gg u)) (hZ : Z + 205600 ≤ gS (gg u)) : ∀ k, ∀ {A : AH}, LT o m oa C Z k A → 6 * k ≤ n → V (gg u) 8 mm_La_law 23 [some (.ref b), some (.ref o), some (.ref m), some (.ref oa), some (.int (nI (6 * k))), none, none] [] A PE := by
  refine up_ind (n + 1) ?_
  intro k ih A hT hk
  refine v_iload (dk cd_La_law0 13 rfl) rfl ?_
  refine v_aload_n (dk cd_La_law0 14 rfl) rfl ?_
  refine v_alenO (dk cd_La_law0 15 rfl) hscr ?_
  refine v_bipush (v := 6) (dk cd_La_law0 16 rfl) (by decide) ?_
  refine v_isub (dk cd_La_law0 17 rfl) ?_
  refine v_icmp_gt (tgt := 1432) (dk cd_La_law0 18 rfl) rfl (fun q30 => ?_) (fun q30 => ?_)
  · refine v_iconst (v := 1) (dk cd_La_law22 9 rfl) (by decide) ?_
    exact v_zret (dk cd_La_law22 10 rfl) rfl rfl rfl
  · have h6 := six_le hn (by omega) q30
    obtain ⟨S, ad, t, i, f, z, rfl, I, R, K, hb1, hb2⟩ := hT
    have hgl : A.2.1 + 16 ≤ gL (gg u) := by omega
    have hgs : A.2.2 + 400 ≤ gS (gg u) := by omega
    have next : ∀ A', LJ (ad 0 0) m oa A A' → V (gg u) 8 mm_La_law 1426 [some (.ref b), some (.ref (ad 0 0)), some (.ref m), some (.ref oa), some (.int (nI (6 * k))), none, none] [] A' PE := by
      rintro A' ⟨S2, ad2, t2, i2, f2, z2, e2, I2, R2, K2, c1, c2⟩
      refine v_iinc (x := nI (6 * k)) (dk cd_La_law22 7 rfl) rfl (by decide) rfl ?_
      refine v_goto (tgt := 23) (dk cd_La_law22 8 rfl) rfl ?_
      have h9 := ih (by omega) (A := A') ⟨S2, ad2, t2, i2, f2, z2, e2, I2, R2, K2, by omega, by omega⟩ (by omega)
      rw [show nI (6 * (k + 1)) = nI (6 * k) + Int32.ofInt 6 by rw [show 6 * (k + 1) = 6 * k + 6 by omega, ← nI_add]; rfl] at h9
      exact h9
    refine v_aload_n (dk cd_La_law0 19 rfl) rfl ?_
    refine v_iload (dk cd_La_law0 20 rfl) rfl ?_
    refine v_ialdO (dk cd_La_law0 21 rfl) hscr (by omega) ?_
    refine v_bipush (v := 31) (dk cd_La_law0 22 rfl) (by decide) ?_
    refine v_iand (dk cd_La_law0 23 rfl) ?_
    generalize xs (6 * k) &&& 31 = v9
    rcases sw20 v9 with rfl | rfl | rfl | rfl | rfl | rfl | rfl | rfl | rfl | rfl | rfl | rfl | rfl | rfl | rfl | rfl | rfl | rfl | rfl | rfl | hx
    · refine v_tableIn (tgt := 136) (dk cd_La_law0 24 rfl) (by decide) (by decide) (by rfl) rfl ?_
      exact lw_c0 hscr h6 hn hoa I R K hgl hgs next
    · refine v_tableIn (tgt := 216) (dk cd_La_law0 24 rfl) (by decide) (by decide) (by rfl) rfl ?_
      exact lw_c1 hscr h6 hn hoa I R K hgl hgs next
    · refine v_tableIn (tgt := 284) (dk cd_La_law0 24 rfl) (by decide) (by decide) (by rfl) rfl ?_
      exact lw_c2 hscr h6 hn hoa I R K hgl hgs next
    · refine v_tableIn (tgt := 352) (dk cd_La_law0 24 rfl) (by decide) (by decide) (by rfl) rfl ?_
      exact lw_c3 hscr h6 hn hoa I R K hgl hgs next
    · refine v_tableIn (tgt := 365) (dk cd_La_law0 24 rfl) (by decide) (by decide) (by rfl) rfl ?_
      exact lw_c4 hscr h6 hn hoa I R K hgl hgs next
    · refine v_tableIn (tgt := 469) (dk cd_La_law0 24 rfl) (by decide) (by decide) (by rfl) rfl ?_
      exact lw_c5 hscr h6 hn hoa I R K hgl hgs next
    · refine v_tableIn (tgt := 561) (dk cd_La_law0 24 rfl) (by decide) (by decide) (by rfl) rfl ?_
      exact lw_c6 hscr h6 hn hoa I R K hgl hgs next
    · refine v_tableIn (tgt := 617) (dk cd_La_law0 24 rfl) (by decide) (by decide) (by rfl) rfl ?_
      exact lw_c7 hscr h6 hn hoa I R K hgl hgs next
    · refine v_tableIn (tgt := 630) (dk cd_La_law0 24 rfl) (by decide) (by decide) (by rfl) rfl ?_
      exact lw_c8 hscr h6 hn hoa I R K hgl hgs next
    · refine v_tableIn (tgt := 721) (dk cd_La_law0 24 rfl) (by decide) (by decide) (by rfl) rfl ?_
      exact lw_c9 hscr h6 hn hoa I R K hgl hgs next
    · refine v_tableIn (tgt := 777) (dk cd_La_law0 24 rfl) (by decide) (by decide) (by rfl) rfl ?_
      exact lw_c10 hscr h6 hn hoa I R K hgl hgs next
    · refine v_tableIn (tgt := 845) (dk cd_La_law0 24 rfl) (by decide) (by decide) (by rfl) rfl ?_
      exact lw_c11 hscr h6 hn hoa I R K hgl hgs next
    · refine v_tableIn (tgt := 913) (dk cd_La_law0 24 rfl) (by decide) (by decide) (by rfl) rfl ?_
      exact lw_c12 hscr h6 hn hoa I R K hgl hgs next
    · refine v_tableIn (tgt := 981) (dk cd_La_law0 24 rfl) (by decide) (by decide) (by rfl) rfl ?_
      exact lw_c13 hscr h6 hn hoa I R K hgl hgs next
    · refine v_tableIn (tgt := 1056) (dk cd_La_law0 24 rfl) (by decide) (by decide) (by rfl) rfl ?_
      exact lw_c14 hscr h6 hn hoa I R K hgl hgs next
    · refine v_tableIn (tgt := 1081) (dk cd_La_law0 24 rfl) (by decide) (by decide) (by rfl) rfl ?_
      exact lw_c15 hscr h6 hn hoa I R K hgl hgs next
    · refine v_tableIn (tgt := 1161) (dk cd_La_law0 24 rfl) (by decide) (by decide) (by rfl) rfl ?_
      exact lw_c16 hscr h6 hn hoa I R K hgl hgs next
    · refine v_tableIn (tgt := 1241) (dk cd_La_law0 24 rfl) (by decide) (by decide) (by rfl) rfl ?_
      exact lw_c17 hscr h6 hn hoa I R K hgl hgs next
    · refine v_tableIn (tgt := 1321) (dk cd_La_law0 24 rfl) (by decide) (by decide) (by rfl) rfl ?_
      exact lw_c18 hscr h6 hn hoa I R K hgl hgs next
    · refine v_tableIn (tgt := 1401) (dk cd_La_law0 24 rfl) (by decide) (by decide) (by rfl) rfl ?_
      exact lw_c19 hscr h6 hn hoa I R K hgl hgs next
    · refine v_tableOut (tgt := 1426) (dk cd_La_law0 24 rfl) hx rfl ?_
      exact next A ⟨S, ad, t, i, f, z, rfl, I, R, K, by omega, by omega⟩
theorem Rel.init : Rel sS0 0 (fun _ => 0) (fun _ _ => 0) := by
  refine ⟨rfl, rfl, rfl, rfl, rfl, rfl, tyR_eT (fun _ _ => rfl), fun k c h => (by cases h), fun k _ _ => ⟨rfl, rfl, rfl⟩, fun w h => absurd h (Nat.not_lt_zero w), fun v h => absurd h (Nat.not_lt_zero v), fun k c h => (by cases h), fun k _ _ => ⟨rfl, rfl, rfl, fun _ _ => ⟨rfl, rfl⟩, fun _ _ => rfl, rfl⟩⟩
theorem marr_zero (N : Nat) : arr N (fun _ => 0) = List.replicate N (.int 0) := by
  unfold arr
  apply List.ext_getElem
  · simp
  · intro k h1 h2; simp
/-- everything is made -/
theorem LT.init {A1 A9 A2 A8 : AH} {o1 : Nat} (I : Inv (fun _ => none) sS0 (ad0 o1 A1.2.1) A9) (h2 : A2 = anew A9 (9, mFN A9.2.1 0) 49) (hM : MI A2 A9.2.1 42 A8) : LT o1 A9.2.1 A8.2.1 (A8.2.1 + 1) (A8.2.2 + 1) 0 (anew A8 (102, [.long 0]) 1) := by
  have ht := hM.top
  obtain ⟨g0, g1, g2, g3, g4, g5⟩ := hM
  have hA2 : ∀ q, q ≠ A9.2.1 → A2.1 q = A9.1 q := fun q hq => by rw [h2]; exact anew_ne _ _ _ hq
  refine ⟨sS0, ad0 o1 A1.2.1, 0, fun _ => 0, fun _ _ => 0, 0, rfl, ?_, Rel.init, SOK.init, by show A8.2.1 + 1 ≤ _; omega, by show A8.2.2 + 1 ≤ _; omega⟩
  have hlt : ∀ κ n, LV sS0 κ n → ad0 o1 A1.2.1 κ n < A9.2.1 := fun κ n h => by
    obtain ⟨x, a, _⟩ := I.2.1 κ n h
    exact I.2.2.2 _ _ a
  refine I.fr (fun κ n h => ?_) (fun q x hq => ?_) (fun q x hq => ?_)
  · have := hlt κ n h
    rw [anew_ne _ _ _ (by omega), g5 _ (by omega) (by omega), hA2 _ (by omega)]
  · rcases FQ.in hq with e | e | ⟨j, hj, e⟩
    · subst e
      rw [FQ.oa] at hq; cases hq
      exact ⟨anew_same _ _ _, fun κ n h => by have := hlt κ n h; omega⟩
    · subst e
      rw [FQ.ob (by omega)] at hq; cases hq
      refine ⟨?_, fun κ n h => by have := hlt κ n h; omega⟩
      rw [anew_ne _ _ _ (by omega), g3]; rfl
    · subst e
      rw [FQ.ar (by omega) hj] at hq; cases hq
      refine ⟨?_, fun κ n h => by have := hlt κ n h; omega⟩
      rw [anew_ne _ _ _ (by omega), g4 j hj, marr_zero]
  · show q < A8.2.1 + 1
    by_cases e : q = A8.2.1
    · omega
    · rw [anew_ne _ _ _ e] at hq
      by_cases e2 : q = A9.2.1
      · omega
      · by_cases e3 : A9.2.1 + 1 ≤ q ∧ q < A9.2.1 + 1 + 42
        · omega
        · rw [g5 q e2 e3, hA2 q e2] at hq
          have := I.2.2.2 q x hq
          omega
set_option maxRecDepth 100000 in
set_option maxHeartbeats 4000000 in
theorem lw_all (hscr : Scr (gg u) b n xs) (hn : n ≤ 3072) (hbd : ∀ q x, A.1 q = some x → q < A.2.1) (hC : A.2.1 + 9000 ≤ gL (gg u)) (hZ : A.2.2 + 300000 ≤ gS (gg u)) : V (gg u) 8 mm_La_law 0 [some (.ref b), none, none, none, none, none, none] [] A PE := by
  refine v_new (dk cd_La_law0 0 rfl) nw_La_8 (by omega) (by show A.2.2 + 9 ≤ _; omega) ?_
  refine v_dup (dk cd_La_law0 1 rfl) rfl ?_
  refine v_calli (dk cd_La_law0 2 rfl) ci_La_72 (as := []) rfl rfl (Nat.le_of_ble_eq_true rfl) (by simp [Value.category]) (AW_init_ok (F := fun _ => none) (o := A.2.1) (anew_same _ _ _) (fun q x hq => ?_) (fun q x hq => by cases hq) (by show A.2.1 + 1 + 16 ≤ _; omega) (by show A.2.2 + 9 + 400 ≤ _; omega)) (fun a A' h => by cases h.1) (fun v9 A9 hq => ?_)
  · by_cases e : q = A.2.1
    · show q < A.2.1 + 1; omega
    · rw [anew_ne _ _ _ e] at hq
      have := hbd q x hq
      show q < A.2.1 + 1; omega
  obtain ⟨e9, I, hn1, hn2⟩ := hq
  cases e9
  have hn1 : A9.2.1 = A.2.1 + 1 + 13 := hn1
  have hn2 : A9.2.2 = A.2.2 + 9 + 142 := hn2
  refine v_astore_n (dk cd_La_law0 3 rfl) (by decide) rfl ?_
  refine v_new (dk cd_La_law0 4 rfl) nw_La_73 (by omega) (by show A9.2.2 + 49 ≤ _; omega) ?_
  refine v_dup (dk cd_La_law0 5 rfl) rfl ?_
  refine v_calli (dk cd_La_law0 6 rfl) ci_La_75 (as := []) rfl rfl (Nat.le_of_ble_eq_true rfl) (by simp [Value.category]) (Mo_init_ok (a := A9.2.1) rfl (anew_same _ _ _) (by show A9.2.1 + 1 + 43 ≤ _; omega) (by show A9.2.2 + 49 + 8200 ≤ _; omega)) (fun a A' h => by cases h.1) (fun v8 A8 hq => ?_)
  obtain ⟨e8, hM⟩ := hq
  cases e8
  have hm1 := hM.top
  have hm2 : A8.2.2 = A9.2.2 + 49 + 8140 := by have h9 := hM.2.2.1; rw [show slN 42 = 8140 by decide] at h9; exact h9
  refine v_astore_n (dk cd_La_law0 7 rfl) (by decide) rfl ?_
  refine v_iconst (v := 1) (dk cd_La_law0 8 rfl) (by decide) ?_
  refine v_newa (j := 2) (N := 1) (dk cd_La_law0 9 rfl) (by decide) rfl rfl wA2 (by decide) rfl (by decide) (by omega) (by omega) ?_
  refine v_astore_n (dk cd_La_law0 10 rfl) (by decide) rfl ?_
  refine v_iconst (v := nI 0) (dk cd_La_law0 11 rfl) (by decide) ?_
  refine v_istore (dk cd_La_law0 12 rfl) (by decide) rfl ?_
  exact lw_loop (o := A.2.1) (m := A9.2.1) (oa := A8.2.1) (C := A8.2.1 + 1) (Z := A8.2.2 + 1) hscr hn (by omega) (by omega) (by omega) 0 (LT.init (A1 := anew A (0, [.int 0, .null, .int 0, .null, .int 0, .int 0, .null, .int 0, .null]) 9) I rfl hM) (by omega)
end LP
