/-! Spoken, Cancel -/
def NwN (A : AH) (w o : Nat) (z : Int32) : Prop := (∃ i1 i2 : Int32, A.1 w = some (8, [.int i1, .int i2, .null]) ∧ z = 1) ∨ ∃ (i1 i2 n : Int32) (v : Nat) (ve : VeS) (a0 : Value) (vl : List Value), A.1 w = some (8, [.int i1, .int i2, .ref v]) ∧ A.1 v = some (vKind ve, a0 :: .int n :: vl) ∧ v ≠ o ∧ z = n + 1
section CO3
variable {u : Ux} {d : Nat} {A : AH} {o : Nat}
theorem Ve_init_Sp {w : Nat} {z x y : Int32} (h0 : A.1 o = some (6, [.null, .int 0, .int 0, .int 0, .int 0, .int 0, .null, .null, .null])) (hb : o < A.2.1) (hn : NwN A w o z) (hwo : w ≠ o) : V (gg u) d mm_Ve_init 0 [some (.ref o), some (.ref w), some (.int x), some (.int y)] [] A (Mk A o (6, [.ref w, .int z, .int x, .int y, .int 0, .int 0, .null, .null, .null]) [] 0) := by
  rcases hn with ⟨i1, i2, h1, rfl⟩ | ⟨i1, i2, n, v, ve, a0, vl, h1, h2, h3, rfl⟩
  · exact Ve_init_Sp0 h0 hb h1 hwo
  · exact Ve_init_Sp1 h0 hb h1 hwo h2 h3
theorem Ve_init_Ca {w : Nat} {z x y : Int32} (h0 : A.1 o = some (2, [.null, .int 0, .int 0, .int 0])) (hb : o < A.2.1) (hn : NwN A w o z) (hwo : w ≠ o) : V (gg u) d mm_Ve_init 0 [some (.ref o), some (.ref w), some (.int x), some (.int y)] [] A (Mk A o (2, [.ref w, .int z, .int x, .int y]) [] 0) := by
  rcases hn with ⟨i1, i2, h1, rfl⟩ | ⟨i1, i2, n, v, ve, a0, vl, h1, h2, h3, rfl⟩
  · exact Ve_init_Ca0 h0 hb h1 hwo
  · exact Ve_init_Ca1 h0 hb h1 hwo h2 h3
set_option maxRecDepth 100000 in
set_option maxHeartbeats 4000000 in
theorem Sp_init_ok {w ms ar te : Nat} {z x y b sp : Int32} (h0 : A.1 o = some (6, [.null, .int 0, .int 0, .int 0, .int 0, .int 0, .null, .null, .null])) (hb : o < A.2.1) (hn : NwN A w o z) (hwo : w ≠ o) (hm : A.1 ms = some (5, [.ref ar, .ref te])) (hmo : ms ≠ o) (hmb : ms < A.2.1) (hgl : A.2.1 + 1 ≤ gL (gg u)) (hgs : A.2.2 + 8 ≤ gS (gg u)) : V (gg u) (d + 1) mm_Sp_init 0 [some (.ref o), some (.ref w), some (.int x), some (.int b), some (.int y), some (.int sp), some (.ref ms)] [] A (Mk A o (6, [.ref w, .int z, .int x, .int y, .int b, .int sp, .ref ar, .ref te, .ref A.2.1]) [(101, List.replicate 8 (.int 0))] 8) := by
  refine v_aload_n (dk cd_Sp_init 0 rfl) rfl ?_
  refine v_aload_n (dk cd_Sp_init 1 rfl) rfl ?_
  refine v_iload_n (dk cd_Sp_init 2 rfl) rfl ?_
  refine v_iload (dk cd_Sp_init 3 rfl) rfl ?_
  refine v_calli (dk cd_Sp_init 4 rfl) ci_Sp_3 (as := [_, _, _]) rfl rfl (Nat.le_of_ble_eq_true rfl) (by simp [Value.category]) (Ve_init_Sp h0 hb hn hwo) mk_no (fun v9 A9 hq => ?_)
  obtain ⟨e9, a1, a2, a3, a4, a5, a6⟩ := hq
  cases e9
  have a1 : A9.2.1 = A.2.1 := a1
  have a2 : A9.2.2 = A.2.2 := a2
  have a6 : ∀ q, A.2.1 ≤ q → A9.1 q = A.1 q := a6
  have hm9 := (a5 ms (by assumption) hmb).trans hm
  refine v_aload_n (dk cd_Sp_init 5 rfl) rfl ?_
  refine v_iload_n (dk cd_Sp_init 6 rfl) rfl ?_
  refine v_putf (dk cd_Sp_init 7 rfl) fp_Sp_9_Sp (fun _ => rfl) (by repeat first | assumption | exact aset_same _ _ _ | exact anew_same _ _ _ | refine (aset_ne _ _ (by first | assumption | exact Ne.symm (by assumption) | omega | (simp only [aset, anew, amna, List.length_cons, List.length_nil]; omega))).trans ?_ | refine (anew_ne _ _ _ (by first | assumption | exact Ne.symm (by assumption) | omega | (simp only [aset, anew, amna, List.length_cons, List.length_nil]; omega))).trans ?_ | refine (amna_ne _ _ _ _ _ _ (by first | omega | (simp only [aset, anew, amna, List.length_cons, List.length_nil]; omega))).trans ?_) rfl rfl ?_
  refine v_aload_n (dk cd_Sp_init 8 rfl) rfl ?_
  refine v_iload (dk cd_Sp_init 9 rfl) rfl ?_
  refine v_putf (dk cd_Sp_init 10 rfl) fp_Sp_15_Sp (fun _ => rfl) (by repeat first | assumption | exact aset_same _ _ _ | exact anew_same _ _ _ | refine (aset_ne _ _ (by first | assumption | exact Ne.symm (by assumption) | omega | (simp only [aset, anew, amna, List.length_cons, List.length_nil]; omega))).trans ?_ | refine (anew_ne _ _ _ (by first | assumption | exact Ne.symm (by assumption) | omega | (simp only [aset, anew, amna, List.length_cons, List.length_nil]; omega))).trans ?_ | refine (amna_ne _ _ _ _ _ _ (by first | omega | (simp only [aset, anew, amna, List.length_cons, List.length_nil]; omega))).trans ?_) rfl rfl ?_
  refine v_aload_n (dk cd_Sp_init 11 rfl) rfl ?_
  refine v_aload (dk cd_Sp_init 12 rfl) rfl ?_
  refine v_getf (dk cd_Sp_init 13 rfl) fg_Sp_18_Me (by repeat first | assumption | exact aset_same _ _ _ | exact anew_same _ _ _ | refine (aset_ne _ _ (by first | assumption | exact Ne.symm (by assumption) | omega | (simp only [aset, anew, amna, List.length_cons, List.length_nil]; omega))).trans ?_ | refine (anew_ne _ _ _ (by first | assumption | exact Ne.symm (by assumption) | omega | (simp only [aset, anew, amna, List.length_cons, List.length_nil]; omega))).trans ?_ | refine (amna_ne _ _ _ _ _ _ (by first | omega | (simp only [aset, anew, amna, List.length_cons, List.length_nil]; omega))).trans ?_) (by rfl) ?_
  refine v_putf (dk cd_Sp_init 14 rfl) fp_Sp_24_Sp (fun _ => rfl) (by repeat first | assumption | exact aset_same _ _ _ | exact anew_same _ _ _ | refine (aset_ne _ _ (by first | assumption | exact Ne.symm (by assumption) | omega | (simp only [aset, anew, amna, List.length_cons, List.length_nil]; omega))).trans ?_ | refine (anew_ne _ _ _ (by first | assumption | exact Ne.symm (by assumption) | omega | (simp only [aset, anew, amna, List.length_cons, List.length_nil]; omega))).trans ?_ | refine (amna_ne _ _ _ _ _ _ (by first | omega | (simp only [aset, anew, amna, List.length_cons, List.length_nil]; omega))).trans ?_) rfl rfl ?_
  refine v_aload_n (dk cd_Sp_init 15 rfl) rfl ?_
  refine v_aload (dk cd_Sp_init 16 rfl) rfl ?_
  refine v_getf (dk cd_Sp_init 17 rfl) fg_Sp_25_Me (by repeat first | assumption | exact aset_same _ _ _ | exact anew_same _ _ _ | refine (aset_ne _ _ (by first | assumption | exact Ne.symm (by assumption) | omega | (simp only [aset, anew, amna, List.length_cons, List.length_nil]; omega))).trans ?_ | refine (anew_ne _ _ _ (by first | assumption | exact Ne.symm (by assumption) | omega | (simp only [aset, anew, amna, List.length_cons, List.length_nil]; omega))).trans ?_ | refine (amna_ne _ _ _ _ _ _ (by first | omega | (simp only [aset, anew, amna, List.length_cons, List.length_nil]; omega))).trans ?_) (by rfl) ?_
  refine v_putf (dk cd_Sp_init 18 rfl) fp_Sp_29_Sp (fun _ => rfl) (by repeat first | assumption | exact aset_same _ _ _ | exact anew_same _ _ _ | refine (aset_ne _ _ (by first | assumption | exact Ne.symm (by assumption) | omega | (simp only [aset, anew, amna, List.length_cons, List.length_nil]; omega))).trans ?_ | refine (anew_ne _ _ _ (by first | assumption | exact Ne.symm (by assumption) | omega | (simp only [aset, anew, amna, List.length_cons, List.length_nil]; omega))).trans ?_ | refine (amna_ne _ _ _ _ _ _ (by first | omega | (simp only [aset, anew, amna, List.length_cons, List.length_nil]; omega))).trans ?_) rfl rfl ?_
  refine v_aload_n (dk cd_Sp_init 19 rfl) rfl ?_
  refine v_bipush (v := 8) (dk cd_Sp_init 20 rfl) (by decide) ?_
  refine v_newa (j := 1) (N := 8) (dk cd_Sp_init 21 rfl) (by decide) rfl rfl wA1 (by decide) rfl (by decide) (by first | omega | (simp only [aset, anew, amna, List.length_cons, List.length_nil]; omega)) (by first | omega | (simp only [aset, anew, amna, List.length_cons, List.length_nil]; omega)) ?_
  refine v_putf (dk cd_Sp_init 22 rfl) fp_Sp_30_Sp (fun _ => rfl) (by repeat first | assumption | exact aset_same _ _ _ | exact anew_same _ _ _ | refine (aset_ne _ _ (by first | assumption | exact Ne.symm (by assumption) | omega | (simp only [aset, anew, amna, List.length_cons, List.length_nil]; omega))).trans ?_ | refine (anew_ne _ _ _ (by first | assumption | exact Ne.symm (by assumption) | omega | (simp only [aset, anew, amna, List.length_cons, List.length_nil]; omega))).trans ?_ | refine (amna_ne _ _ _ _ _ _ (by first | omega | (simp only [aset, anew, amna, List.length_cons, List.length_nil]; omega))).trans ?_) rfl rfl ?_
  refine v_vret (dk cd_Sp_init 23 rfl) rfl ⟨rfl, ?_, ?_, ?_, fun k x hk => ?_, fun q hq h1 => ?_, fun q h1 => ?_⟩
  · simp only [aset, anew, List.length_cons, List.length_nil]; omega
  · simp only [aset, anew, List.length_cons, List.length_nil]; omega
  · refine (aset_same _ _ _).trans ?_
    show (some ((6, [.ref w, .int z, .int x, .int y, .int b, .int sp, .ref ar, .ref te, .ref A9.2.1]) : AC)) = _
    rw [a1]
  · have hk2 := (List.getElem?_eq_some_iff.mp hk).1
    simp only [List.length_cons, List.length_nil] at hk2
    have hk3 : k = 0 := by omega
    subst hk3
    cases hk
    refine (aset_ne _ _ (by omega)).trans ?_
    rw [show A.2.1 + 0 = A9.2.1 by omega]
    exact anew_same _ _ _
  · refine (aset_ne _ _ hq).trans ((anew_ne _ _ _ (by simp only [aset]; omega)).trans ?_)
    refine (aset_ne _ _ hq).trans ((aset_ne _ _ hq).trans ((aset_ne _ _ hq).trans ((aset_ne _ _ hq).trans ?_)))
    exact a5 q hq h1
  · simp only [List.length_cons, List.length_nil] at h1
    have hq : q ≠ o := by omega
    refine (aset_ne _ _ hq).trans ((anew_ne _ _ _ (by simp only [aset]; omega)).trans ?_)
    refine (aset_ne _ _ hq).trans ((aset_ne _ _ hq).trans ((aset_ne _ _ hq).trans ((aset_ne _ _ hq).trans ?_)))
    exact a6 q (by omega)
set_option maxRecDepth 100000 in
set_option maxHeartbeats 4000000 in
theorem Ca_init_ok {w : Nat} {z x y : Int32} (h0 : A.1 o = some (2, [.null, .int 0, .int 0, .int 0])) (hb : o < A.2.1) (hn : NwN A w o z) (hwo : w ≠ o) : V (gg u) (d + 1) mm_Ca_init 0 [some (.ref o), some (.ref w), some (.int x), some (.int y)] [] A (Mk A o (2, [.ref w, .int z, .int x, .int y]) [] 0) := by
  refine v_aload_n (dk cd_Ca_init 0 rfl) rfl ?_
  refine v_aload_n (dk cd_Ca_init 1 rfl) rfl ?_
  refine v_iload_n (dk cd_Ca_init 2 rfl) rfl ?_
  refine v_iload_n (dk cd_Ca_init 3 rfl) rfl ?_
  refine v_calli (dk cd_Ca_init 4 rfl) ci_Ca_1 (as := [_, _, _]) rfl rfl (Nat.le_of_ble_eq_true rfl) (by simp [Value.category]) (Ve_init_Ca h0 hb hn hwo) mk_no (fun v9 A9 hq => ?_)
  obtain ⟨e9, a1⟩ := hq
  cases e9
  exact v_vret (dk cd_Ca_init 5 rfl) rfl ⟨rfl, a1⟩
end CO3
