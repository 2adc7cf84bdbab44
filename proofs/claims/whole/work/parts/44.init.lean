/-! a new AreaWarnings -/
def sS0 : SS := (0, [], eT, ([], []), [], [])
def ad0 (o n : Nat) : Nat → Nat → Nat := fun κ i => if κ = 0 then o else if κ < 4 then n + (κ - 1) else if κ < 14 ∧ i = 99 then n + 3 + (κ - 4) else 0
section G10
variable {u : Ux} {d : Nat} {A : AH} {F : Nat → Option AC} {o : Nat}
theorem LV_S0 {κ i : Nat} (h : LV sS0 κ i) : (κ < 4 ∧ i = 0) ∨ (4 ≤ κ ∧ κ < 14 ∧ i = 99) := by
  rcases h with h | ⟨h1, h2, h3, h4⟩ | ⟨h1, h2, h3⟩ | ⟨h1, h2⟩ | ⟨h1, h2⟩ | ⟨h1, v, h2, h3⟩ | ⟨h1, h2, h3⟩
  · exact Or.inl h
  · by_cases hi : i = 99
    · exact Or.inr ⟨h1, h2, hi⟩
    · unfold msgOf at h4
      rw [if_neg hi] at h4
      have e : (sVers sS0)[i]? = none := rfl
      rw [e] at h4; cases h4
  · exact absurd h3 (Nat.not_lt_zero i)
  · exact absurd h2 (Nat.not_lt_zero i)
  · exact absurd h2 (Nat.not_lt_zero i)
  · have e : (sVers sS0)[i]? = none := rfl
    rw [e] at h2; cases h2
  · exact absurd h3 (Nat.not_lt_zero i)
set_option maxRecDepth 100000 in
set_option maxHeartbeats 4000000 in
theorem AW_init_ok (h0 : A.1 o = some (0, [.int 0, .null, .int 0, .null, .int 0, .int 0, .null, .int 0, .null])) (hbd : ∀ q x, A.1 q = some x → q < A.2.1) (hF : ∀ q x, F q = some x → A.1 q = some x ∧ q ≠ o) (hgl : A.2.1 + 16 ≤ gL (gg u)) (hgs : A.2.2 + 400 ≤ gS (gg u)) : V (gg u) (d + 2) mm_AW_init 0 [some (.ref o)] [] A (fun r A' => r = .inl none ∧ Inv F sS0 (ad0 o A.2.1) A' ∧ A'.2.1 = A.2.1 + 13 ∧ A'.2.2 = A.2.2 + 142) := by
  have hb := hbd _ _ h0
  refine v_aload_n (dk cd_AW_init 0 rfl) rfl ?_
  refine v_objinit (dk cd_AW_init 1 rfl) ob_AW_3 (by simp) ?_
  refine v_aload_n (dk cd_AW_init 2 rfl) rfl ?_
  refine v_iconst (v := 0) (dk cd_AW_init 3 rfl) (by decide) ?_
  refine v_putf (dk cd_AW_init 4 rfl) fp_AW_9_AW (fun _ => rfl) (by repeat first | assumption | exact aset_same _ _ _ | exact anew_same _ _ _ | refine (aset_ne _ _ (by first | assumption | exact Ne.symm (by assumption) | omega | (simp only [aset, anew, amna, List.length_cons, List.length_nil]; omega))).trans ?_ | refine (anew_ne _ _ _ (by first | assumption | exact Ne.symm (by assumption) | omega | (simp only [aset, anew, amna, List.length_cons, List.length_nil]; omega))).trans ?_ | refine (amna_ne _ _ _ _ _ _ (by first | omega | (simp only [aset, anew, amna, List.length_cons, List.length_nil]; omega))).trans ?_) rfl rfl ?_
  refine v_aload_n (dk cd_AW_init 5 rfl) rfl ?_
  refine v_bipush (v := 8) (dk cd_AW_init 6 rfl) (by decide) ?_
  refine v_newq (j := 4) (N := 8) (dk cd_AW_init 7 rfl) (by decide) rfl nq_AW_13.1 nq_AW_13.2 (by decide) rfl (by decide) (by first | omega | (simp only [aset, anew, amna, List.length_cons, List.length_nil]; omega)) (by first | omega | (simp only [aset, anew, amna, List.length_cons, List.length_nil]; omega)) ?_
  refine v_putf (dk cd_AW_init 8 rfl) fp_AW_15_AW (fun _ => rfl) (by repeat first | assumption | exact aset_same _ _ _ | exact anew_same _ _ _ | refine (aset_ne _ _ (by first | assumption | exact Ne.symm (by assumption) | omega | (simp only [aset, anew, amna, List.length_cons, List.length_nil]; omega))).trans ?_ | refine (anew_ne _ _ _ (by first | assumption | exact Ne.symm (by assumption) | omega | (simp only [aset, anew, amna, List.length_cons, List.length_nil]; omega))).trans ?_ | refine (amna_ne _ _ _ _ _ _ (by first | omega | (simp only [aset, anew, amna, List.length_cons, List.length_nil]; omega))).trans ?_) rfl rfl ?_
  refine v_aload_n (dk cd_AW_init 9 rfl) rfl ?_
  refine v_iconst (v := 0) (dk cd_AW_init 10 rfl) (by decide) ?_
  refine v_putf (dk cd_AW_init 11 rfl) fp_AW_19_AW (fun _ => rfl) (by repeat first | assumption | exact aset_same _ _ _ | exact anew_same _ _ _ | refine (aset_ne _ _ (by first | assumption | exact Ne.symm (by assumption) | omega | (simp only [aset, anew, amna, List.length_cons, List.length_nil]; omega))).trans ?_ | refine (anew_ne _ _ _ (by first | assumption | exact Ne.symm (by assumption) | omega | (simp only [aset, anew, amna, List.length_cons, List.length_nil]; omega))).trans ?_ | refine (amna_ne _ _ _ _ _ _ (by first | omega | (simp only [aset, anew, amna, List.length_cons, List.length_nil]; omega))).trans ?_) rfl rfl ?_
  refine v_aload_n (dk cd_AW_init 12 rfl) rfl ?_
  refine v_bipush (v := 12) (dk cd_AW_init 13 rfl) (by decide) ?_
  refine v_newq (j := 5) (N := 12) (dk cd_AW_init 14 rfl) (by decide) rfl nq_AW_22.1 nq_AW_22.2 (by decide) rfl (by decide) (by first | omega | (simp only [aset, anew, amna, List.length_cons, List.length_nil]; omega)) (by first | omega | (simp only [aset, anew, amna, List.length_cons, List.length_nil]; omega)) ?_
  refine v_putf (dk cd_AW_init 15 rfl) fp_AW_24_AW (fun _ => rfl) (by repeat first | assumption | exact aset_same _ _ _ | exact anew_same _ _ _ | refine (aset_ne _ _ (by first | assumption | exact Ne.symm (by assumption) | omega | (simp only [aset, anew, amna, List.length_cons, List.length_nil]; omega))).trans ?_ | refine (anew_ne _ _ _ (by first | assumption | exact Ne.symm (by assumption) | omega | (simp only [aset, anew, amna, List.length_cons, List.length_nil]; omega))).trans ?_ | refine (amna_ne _ _ _ _ _ _ (by first | omega | (simp only [aset, anew, amna, List.length_cons, List.length_nil]; omega))).trans ?_) rfl rfl ?_
  refine v_aload_n (dk cd_AW_init 16 rfl) rfl ?_
  refine v_iconst (v := 0) (dk cd_AW_init 17 rfl) (by decide) ?_
  refine v_putf (dk cd_AW_init 18 rfl) fp_AW_28_AW (fun _ => rfl) (by repeat first | assumption | exact aset_same _ _ _ | exact anew_same _ _ _ | refine (aset_ne _ _ (by first | assumption | exact Ne.symm (by assumption) | omega | (simp only [aset, anew, amna, List.length_cons, List.length_nil]; omega))).trans ?_ | refine (anew_ne _ _ _ (by first | assumption | exact Ne.symm (by assumption) | omega | (simp only [aset, anew, amna, List.length_cons, List.length_nil]; omega))).trans ?_ | refine (amna_ne _ _ _ _ _ _ (by first | omega | (simp only [aset, anew, amna, List.length_cons, List.length_nil]; omega))).trans ?_) rfl rfl ?_
  refine v_aload_n (dk cd_AW_init 19 rfl) rfl ?_
  refine v_iconst (v := 0) (dk cd_AW_init 20 rfl) (by decide) ?_
  refine v_putf (dk cd_AW_init 21 rfl) fp_AW_31_AW (fun _ => rfl) (by repeat first | assumption | exact aset_same _ _ _ | exact anew_same _ _ _ | refine (aset_ne _ _ (by first | assumption | exact Ne.symm (by assumption) | omega | (simp only [aset, anew, amna, List.length_cons, List.length_nil]; omega))).trans ?_ | refine (anew_ne _ _ _ (by first | assumption | exact Ne.symm (by assumption) | omega | (simp only [aset, anew, amna, List.length_cons, List.length_nil]; omega))).trans ?_ | refine (amna_ne _ _ _ _ _ _ (by first | omega | (simp only [aset, anew, amna, List.length_cons, List.length_nil]; omega))).trans ?_) rfl rfl ?_
  refine v_aload_n (dk cd_AW_init 22 rfl) rfl ?_
  refine v_iconst (v := 3) (dk cd_AW_init 23 rfl) (by decide) ?_
  refine v_newq (j := 6) (N := 3) (dk cd_AW_init 24 rfl) (by decide) rfl nq_AW_34.1 nq_AW_34.2 (by decide) rfl (by decide) (by first | omega | (simp only [aset, anew, amna, List.length_cons, List.length_nil]; omega)) (by first | omega | (simp only [aset, anew, amna, List.length_cons, List.length_nil]; omega)) ?_
  refine v_putf (dk cd_AW_init 25 rfl) fp_AW_36_AW (fun _ => rfl) (by repeat first | assumption | exact aset_same _ _ _ | exact anew_same _ _ _ | refine (aset_ne _ _ (by first | assumption | exact Ne.symm (by assumption) | omega | (simp only [aset, anew, amna, List.length_cons, List.length_nil]; omega))).trans ?_ | refine (anew_ne _ _ _ (by first | assumption | exact Ne.symm (by assumption) | omega | (simp only [aset, anew, amna, List.length_cons, List.length_nil]; omega))).trans ?_ | refine (amna_ne _ _ _ _ _ _ (by first | omega | (simp only [aset, anew, amna, List.length_cons, List.length_nil]; omega))).trans ?_) rfl rfl ?_
  refine v_aload_n (dk cd_AW_init 26 rfl) rfl ?_
  refine v_iconst (v := 0) (dk cd_AW_init 27 rfl) (by decide) ?_
  refine v_putf (dk cd_AW_init 28 rfl) fp_AW_40_AW (fun _ => rfl) (by repeat first | assumption | exact aset_same _ _ _ | exact anew_same _ _ _ | refine (aset_ne _ _ (by first | assumption | exact Ne.symm (by assumption) | omega | (simp only [aset, anew, amna, List.length_cons, List.length_nil]; omega))).trans ?_ | refine (anew_ne _ _ _ (by first | assumption | exact Ne.symm (by assumption) | omega | (simp only [aset, anew, amna, List.length_cons, List.length_nil]; omega))).trans ?_ | refine (amna_ne _ _ _ _ _ _ (by first | omega | (simp only [aset, anew, amna, List.length_cons, List.length_nil]; omega))).trans ?_) rfl rfl ?_
  refine v_aload_n (dk cd_AW_init 29 rfl) rfl ?_
  refine v_new (dk cd_AW_init 30 rfl) nw_AW_43 (by first | omega | (simp only [aset, anew, amna, List.length_cons, List.length_nil]; omega)) (by first | omega | (simp only [aset, anew, amna, List.length_cons, List.length_nil]; omega)) ?_
  refine v_dup (dk cd_AW_init 31 rfl) rfl ?_
  refine v_calli (dk cd_AW_init 32 rfl) ci_AW_45 (as := []) rfl rfl (Nat.le_of_ble_eq_true rfl) (by simp [Value.category]) (Me_init_ok (o := A.2.1 + 3) (by repeat first | assumption | exact aset_same _ _ _ | exact anew_same _ _ _ | refine (aset_ne _ _ (by first | assumption | exact Ne.symm (by assumption) | omega | (simp only [aset, anew, amna, List.length_cons, List.length_nil]; omega))).trans ?_ | refine (anew_ne _ _ _ (by first | assumption | exact Ne.symm (by assumption) | omega | (simp only [aset, anew, amna, List.length_cons, List.length_nil]; omega))).trans ?_ | refine (amna_ne _ _ _ _ _ _ (by first | omega | (simp only [aset, anew, amna, List.length_cons, List.length_nil]; omega))).trans ?_) (by first | omega | (simp only [aset, anew, amna, List.length_cons, List.length_nil]; omega)) (by first | omega | (simp only [aset, anew, amna, List.length_cons, List.length_nil]; omega)) (by first | omega | (simp only [aset, anew, amna, List.length_cons, List.length_nil]; omega))) mk_no (fun v9 A9 hq => ?_)
  obtain ⟨e9, a1, a2, a3, a4, a5, a6⟩ := hq
  cases e9
  have a1 : A9.2.1 = A.2.1 + 13 := a1
  have a2 : A9.2.2 = A.2.2 + 142 := a2
  have a3 : A9.1 (A.2.1 + 3) = some (5, [.ref (A.2.1 + 3 + 1), .ref (A.2.1 + 3 + 4)]) := a3
  have a4 : ∀ k x, (meL (A.2.1 + 3 + 1))[k]? = some x → A9.1 (A.2.1 + 3 + 1 + k) = some x := a4
  have aq : ∀ q, q < A.2.1 + 3 → A9.1 q = _ := fun q hq => (a5 q (by show q ≠ A.2.1 + 3; omega) (by show q < A.2.1 + 3 + 1; omega)).trans (anew_ne _ _ _ (by show q ≠ A.2.1 + 3; omega))
  have c0 : A9.1 o = some (0, [.int 0, .ref A.2.1, .int 0, .ref (A.2.1 + 1), .int 0, .int 0, .ref (A.2.1 + 2), .int 0, .null]) := (aq o (by omega)).trans (by repeat first | assumption | exact aset_same _ _ _ | exact anew_same _ _ _ | refine (aset_ne _ _ (by first | assumption | exact Ne.symm (by assumption) | omega | (simp only [aset, anew, amna, List.length_cons, List.length_nil]; omega))).trans ?_ | refine (anew_ne _ _ _ (by first | assumption | exact Ne.symm (by assumption) | omega | (simp only [aset, anew, amna, List.length_cons, List.length_nil]; omega))).trans ?_ | refine (amna_ne _ _ _ _ _ _ (by first | omega | (simp only [aset, anew, amna, List.length_cons, List.length_nil]; omega))).trans ?_)
  have c1 : A9.1 A.2.1 = some (104, List.replicate 8 .null) := (aq _ (by omega)).trans (by repeat first | assumption | exact aset_same _ _ _ | exact anew_same _ _ _ | refine (aset_ne _ _ (by first | assumption | exact Ne.symm (by assumption) | omega | (simp only [aset, anew, amna, List.length_cons, List.length_nil]; omega))).trans ?_ | refine (anew_ne _ _ _ (by first | assumption | exact Ne.symm (by assumption) | omega | (simp only [aset, anew, amna, List.length_cons, List.length_nil]; omega))).trans ?_ | refine (amna_ne _ _ _ _ _ _ (by first | omega | (simp only [aset, anew, amna, List.length_cons, List.length_nil]; omega))).trans ?_)
  have c2 : A9.1 (A.2.1 + 1) = some (105, List.replicate 12 .null) := (aq _ (by omega)).trans (by repeat first | assumption | exact aset_same _ _ _ | exact anew_same _ _ _ | refine (aset_ne _ _ (by first | assumption | exact Ne.symm (by assumption) | omega | (simp only [aset, anew, amna, List.length_cons, List.length_nil]; omega))).trans ?_ | refine (anew_ne _ _ _ (by first | assumption | exact Ne.symm (by assumption) | omega | (simp only [aset, anew, amna, List.length_cons, List.length_nil]; omega))).trans ?_ | refine (amna_ne _ _ _ _ _ _ (by first | omega | (simp only [aset, anew, amna, List.length_cons, List.length_nil]; omega))).trans ?_)
  have c3 : A9.1 (A.2.1 + 2) = some (106, List.replicate 3 .null) := (aq _ (by omega)).trans (by repeat first | assumption | exact aset_same _ _ _ | exact anew_same _ _ _ | refine (aset_ne _ _ (by first | assumption | exact Ne.symm (by assumption) | omega | (simp only [aset, anew, amna, List.length_cons, List.length_nil]; omega))).trans ?_ | refine (anew_ne _ _ _ (by first | assumption | exact Ne.symm (by assumption) | omega | (simp only [aset, anew, amna, List.length_cons, List.length_nil]; omega))).trans ?_ | refine (amna_ne _ _ _ _ _ _ (by first | omega | (simp only [aset, anew, amna, List.length_cons, List.length_nil]; omega))).trans ?_)
  have ak : ∀ q, q < A.2.1 → q ≠ o → A9.1 q = A.1 q := fun q hq hqo => (aq q (by omega)).trans (by repeat first | rfl | refine (aset_ne _ _ hqo).trans ?_ | refine (anew_ne _ _ _ (by first | assumption | exact Ne.symm (by assumption) | omega | (simp only [aset, anew, amna, List.length_cons, List.length_nil]; omega))).trans ?_)
  have az : ∀ q, A.2.1 + 13 ≤ q → A9.1 q = A.1 q := fun q hq => (a6 q (by show A.2.1 + 3 + 1 + 9 ≤ q; omega)).trans ((anew_ne _ _ _ (by show q ≠ A.2.1 + 3; omega)).trans (by repeat first | rfl | refine (aset_ne _ _ (by omega)).trans ?_ | refine (anew_ne _ _ _ (by first | assumption | exact Ne.symm (by assumption) | omega | (simp only [aset, anew, amna, List.length_cons, List.length_nil]; omega))).trans ?_))
  refine v_putf (dk cd_AW_init 33 rfl) fp_AW_46_AW (fun _ => rfl) (by repeat first | assumption | exact aset_same _ _ _ | exact anew_same _ _ _ | refine (aset_ne _ _ (by first | assumption | exact Ne.symm (by assumption) | omega | (simp only [aset, anew, amna, List.length_cons, List.length_nil]; omega))).trans ?_ | refine (anew_ne _ _ _ (by first | assumption | exact Ne.symm (by assumption) | omega | (simp only [aset, anew, amna, List.length_cons, List.length_nil]; omega))).trans ?_ | refine (amna_ne _ _ _ _ _ _ (by first | omega | (simp only [aset, anew, amna, List.length_cons, List.length_nil]; omega))).trans ?_) rfl rfl ?_
  refine v_vret (dk cd_AW_init 34 rfl) rfl ⟨rfl, ⟨fun κ i κ' i' h h' e => ?_, fun κ i h => ?_, fun q x hq => ⟨?_, fun κ i h e => ?_⟩, fun q x hq => ?_⟩, a1, a2⟩
  · have g : ∀ κ i, (κ < 4 ∧ i = 0) ∨ (4 ≤ κ ∧ κ < 14 ∧ i = 99) → ad0 o A.2.1 κ i = if κ = 0 then o else A.2.1 + (κ - 1) := by
      intro κ i h
      unfold ad0
      split
      · rfl
      · split
        · rfl
        · rw [if_pos (by omega)]; omega
    have h1 := LV_S0 h
    have h2 := LV_S0 h'
    rw [g κ i h1, g κ' i' h2] at e
    split at e <;> split at e <;> omega
  · rcases LV_S0 h with ⟨h1, rfl⟩ | ⟨h1, h2, rfl⟩
    · have hk : κ = 0 ∨ κ = 1 ∨ κ = 2 ∨ κ = 3 := by omega
      rcases hk with rfl | rfl | rfl | rfl
      · exact ⟨_, aset_same _ _ _, fun _ => rfl, fun h => by omega, fun h => by omega, fun h => by omega, fun h => by omega, fun h => by omega⟩
      · exact ⟨_, (aset_ne _ _ (show A.2.1 ≠ o by omega)).trans c1, fun _ => ⟨List.replicate 8 .null, rfl, rfl⟩, fun h => by omega, fun h => by omega, fun h => by omega, fun h => by omega, fun h => by omega⟩
      · exact ⟨_, (aset_ne _ _ (show A.2.1 + 1 ≠ o by omega)).trans c2, fun _ => ⟨List.replicate 12 .null, rfl, rfl⟩, fun h => by omega, fun h => by omega, fun h => by omega, fun h => by omega, fun h => by omega⟩
      · exact ⟨_, (aset_ne _ _ (show A.2.1 + 2 ≠ o by omega)).trans c3, fun _ => ⟨List.replicate 3 .null, rfl, rfl⟩, fun h => by omega, fun h => by omega, fun h => by omega, fun h => by omega, fun h => by omega⟩
    · obtain ⟨x, e1, e2⟩ := CMsg_new (ad := ad0 o A.2.1) (n := A.2.1 + 3) (B := aset A9 o (0, [.int 0, .ref A.2.1, .int 0, .ref (A.2.1 + 1), .int 0, .int 0, .ref (A.2.1 + 2), .int 0, .ref (A.2.1 + 3)])) (fun κ h1 h2 => by unfold ad0; rw [if_neg (by omega), if_neg (by omega), if_pos ⟨h2, rfl⟩]) ((aset_ne _ _ (by omega)).trans a3) (fun k x hk => (aset_ne _ _ (by omega)).trans (a4 k x hk)) κ h1 h2
      refine ⟨x, e1, fun h => by omega, fun _ _ m hm => ?_, fun h => by omega, fun h => by omega, fun h => by omega, fun h => by omega⟩
      have e : m = eT := by simpa [msgOf, sS0] using hm.symm
      rw [e]; exact e2
  · obtain ⟨f1, f2⟩ := hF q x hq
    exact (aset_ne _ _ f2).trans ((ak q (hbd q x f1) f2).trans f1)
  · obtain ⟨f1, f2⟩ := hF q x hq
    have f3 := hbd q x f1
    unfold ad0 at e
    have h1 := LV_S0 h
    split at e
    · exact f2 e.symm
    · split at e
      · omega
      · rw [if_pos (by omega)] at e
        omega
  · show q < A9.2.1
    rw [a1]
    by_cases h : q < A.2.1 + 13
    · exact h
    · rw [aset_ne _ _ (by omega), az q (by omega)] at hq
      have := hbd q x hq
      omega
end G10
