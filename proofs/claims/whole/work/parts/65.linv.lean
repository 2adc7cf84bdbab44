/-! the law's cells: the class's, the model's, the place for answers -/
def FQ (m : Nat) (i : Nat → Int32) (f : Nat → Nat → Int32) (oa : Nat) (z : Int64) : Nat → Option AC := fun q => if q = oa then some (102, [.long z]) else if q = m then some (9, mFl m i) else if m < q ∧ q < m + 43 then some (100 + mkd (q - (m + 1)), arr (msz (q - (m + 1))) (f (q - (m + 1)))) else none
theorem FQ.oa {m oa : Nat} {i : Nat → Int32} {f : Nat → Nat → Int32} {z : Int64} : FQ m i f oa z oa = some (102, [.long z]) := if_pos rfl
theorem FQ.ob {m oa : Nat} {i : Nat → Int32} {f : Nat → Nat → Int32} {z : Int64} (h : m ≠ oa) : FQ m i f oa z m = some (9, mFl m i) := by
  unfold FQ; rw [if_neg h, if_pos rfl]
theorem FQ.ar {m oa j : Nat} {i : Nat → Int32} {f : Nat → Nat → Int32} {z : Int64} (h : m + 1 + j ≠ oa) (hj : j < 42) : FQ m i f oa z (m + 1 + j) = some (100 + mkd j, arr (msz j) (f j)) := by
  unfold FQ; rw [if_neg h, if_neg (by omega), if_pos (by omega), show m + 1 + j - (m + 1) = j by omega]
theorem FQ.in {m oa q : Nat} {i : Nat → Int32} {f : Nat → Nat → Int32} {z : Int64} {x : AC} (h : FQ m i f oa z q = some x) : q = oa ∨ q = m ∨ ∃ j, j < 42 ∧ q = m + 1 + j := by
  unfold FQ at h
  split at h
  · left; assumption
  · split at h
    · right; left; assumption
    · split at h
      · rename_i h3
        exact Or.inr (Or.inr ⟨q - (m + 1), by omega, by omega⟩)
      · cases h
theorem Inv.fr {F F' : Nat → Option AC} {S : SS} {ad : Nat → Nat → Nat} {A A' : AH} (I : Inv F S ad A) (h1 : ∀ κ i, LV S κ i → A'.1 (ad κ i) = A.1 (ad κ i)) (h2 : ∀ q x, F' q = some x → A'.1 q = some x ∧ ∀ κ i, LV S κ i → ad κ i ≠ q) (h3 : ∀ q x, A'.1 q = some x → q < A'.2.1) : Inv F' S ad A' :=
  ⟨I.1, fun κ i h => by obtain ⟨x, a, b⟩ := I.2.1 κ i h; exact ⟨x, by rw [h1 κ i h]; exact a, b⟩, h2, h3⟩
section LQ
variable {S : SS} {ad : Nat → Nat → Nat} {A A' : AH} {m oa : Nat} {i i' : Nat → Int32} {f f' : Nat → Nat → Int32} {z z' : Int64}
theorem FQ.mh (I : Inv (FQ m i f oa z) S ad A) (h : ¬ (m ≤ oa ∧ oa < m + 43)) : MH A m i f A :=
  ⟨rfl, fun _ _ => rfl, (I.2.2.1 m _ (FQ.ob (by omega))).1, fun j hj => (I.2.2.1 _ _ (FQ.ar (by omega) hj)).1⟩
theorem FQ.apart (I : Inv (FQ m i f oa z) S ad A) (h : ¬ (m ≤ oa ∧ oa < m + 43)) {κ n : Nat} (hl : LV S κ n) : ¬ (m ≤ ad κ n ∧ ad κ n < m + 43) ∧ ad κ n ≠ oa := by
  refine ⟨fun hr => ?_, (I.2.2.1 oa _ FQ.oa).2 κ n hl⟩
  by_cases e : ad κ n = m
  · exact (I.2.2.1 m _ (FQ.ob (by omega))).2 κ n hl e
  · exact (I.2.2.1 _ _ (FQ.ar (j := ad κ n - (m + 1)) (by omega) (by omega))).2 κ n hl (by omega)
/-- after a call of the model -/
theorem FQ.back (I : Inv (FQ m i f oa z) S ad A) (h : ¬ (m ≤ oa ∧ oa < m + 43)) (hM : MH A m i' f' A') : Inv (FQ m i' f' oa z) S ad A' := by
  have hM0 := FQ.mh I h
  refine I.fr (fun κ n hl => hM.2.1 _ (FQ.apart I h hl).1) (fun q x hq => ?_) (fun q x hq => ?_)
  · rcases FQ.in hq with e | e | ⟨j, hj, e⟩
    · subst e
      rw [FQ.oa] at hq; cases hq
      exact ⟨(hM.2.1 _ h).trans (I.2.2.1 _ _ FQ.oa).1, fun κ n hl => (FQ.apart I h hl).2⟩
    · subst e
      rw [FQ.ob (by omega)] at hq; cases hq
      exact ⟨hM.2.2.1, fun κ n hl e => (FQ.apart I h hl).1 (by omega)⟩
    · subst e
      rw [FQ.ar (by omega) hj] at hq; cases hq
      exact ⟨hM.2.2.2 j hj, fun κ n hl e => (FQ.apart I h hl).1 (by omega)⟩
  · rw [hM.1]
    by_cases hr : m ≤ q ∧ q < m + 43
    · by_cases e : q = m
      · subst e; exact I.2.2.2 _ _ hM0.2.2.1
      · have := I.2.2.2 _ _ (hM0.2.2.2 (q - (m + 1)) (by omega))
        rw [show m + 1 + (q - (m + 1)) = q by omega] at this
        exact this
    · rw [hM.2.1 q hr] at hq; exact I.2.2.2 q x hq
/-- after a store of the answer -/
theorem FQ.out (I : Inv (FQ m i f oa z) S ad A) (h : ¬ (m ≤ oa ∧ oa < m + 43)) : Inv (FQ m i f oa z') S ad (aset A oa (102, [.long z'])) := by
  have hM0 := FQ.mh I h
  refine I.fr (fun κ n hl => aset_ne _ _ (FQ.apart I h hl).2) (fun q x hq => ?_) (fun q x hq => ?_)
  · rcases FQ.in hq with e | e | ⟨j, hj, e⟩
    · subst e
      rw [FQ.oa] at hq; cases hq
      exact ⟨aset_same _ _ _, fun κ n hl => (FQ.apart I h hl).2⟩
    · subst e
      rw [FQ.ob (by omega)] at hq; cases hq
      exact ⟨(aset_ne _ _ (by omega)).trans hM0.2.2.1, fun κ n hl e => (FQ.apart I h hl).1 (by omega)⟩
    · subst e
      rw [FQ.ar (by omega) hj] at hq; cases hq
      exact ⟨(aset_ne _ _ (by omega)).trans (hM0.2.2.2 j hj), fun κ n hl e => (FQ.apart I h hl).1 (by omega)⟩
  · by_cases e : q = oa
    · subst e; exact I.2.2.2 _ _ (I.2.2.1 _ _ FQ.oa).1
    · rw [aset_ne _ _ e] at hq; exact I.2.2.2 q x hq
end LQ
/-! an old array of ints: the script -/
section VO
variable {g : Gx} {d : Nat} {y : MT} {pc : Nat} {L : Lo} {st : List Value} {A : AH} {Φ : Out → AH → Prop}
def Scr (g : Gx) (b n : Nat) (xs : Nat → Int32) : Prop := gA g 50 = b ∧ n < 2 ^ 31 ∧ ∃ scr : Cell, (gH g)[b]? = some scr ∧ scr.slots.size = n ∧ ∀ j, j < n → scr.slots[j]? = some (.int (xs j))
theorem v_ialdO {b n k : Nat} {xs : Nat → Int32} (hd : decode y.2.1 pc = .ok (.iaload, 1)) (hscr : Scr g b n xs) (hk : k < n) (h : V g d y (pc + 1) L (.int (xs k) :: st) A Φ) : V g d y pc L (.int (nI k) :: .ref b :: st) A Φ := by
  intro p l e R s m args below meth c z C H locs cells slots ls X
  have kk := h p l e R s m args below meth c z C H locs cells slots ls X
  obtain ⟨hx, hb, -, -, -, hown, -, -, hT, -⟩ := C
  obtain ⟨e1, hn, scr, h1, h2, h3⟩ := hscr
  have hlt : b < (gH g).size := (Array.getElem?_eq_some_iff.mp h1).1
  have hcell : H[b]? = some scr := by rw [X.2.1.2.2.1 b hlt]; exact h1
  obtain ⟨harr, hkn⟩ := hT.2.2.2.2.2.2.2 scr (by rw [e1]; exact h1)
  exact W.iald hx hb hcell harr hkn (by rw [nI_clamp (by omega), h2]; exact fun q => q.elim (nI_pos (by omega)) (fun q => by omega)) (by rw [nI_clamp (by omega)]; exact h3 k hk) rfl rfl hd kk
theorem v_alenO {b n : Nat} {xs : Nat → Int32} (hd : decode y.2.1 pc = .ok (.arraylength, 1)) (hscr : Scr g b n xs) (h : V g d y (pc + 1) L (.int (nI n) :: st) A Φ) : V g d y pc L (.ref b :: st) A Φ := by
  intro p l e R s m args below meth c z C H locs cells slots ls X
  have kk := h p l e R s m args below meth c z C H locs cells slots ls X
  obtain ⟨hx, hb, -, -, -, hown, -, -, hT, -⟩ := C
  obtain ⟨e1, hn, scr, h1, h2, h3⟩ := hscr
  have hlt : b < (gH g).size := (Array.getElem?_eq_some_iff.mp h1).1
  have hcell : H[b]? = some scr := by rw [X.2.1.2.2.1 b hlt]; exact h1
  obtain ⟨harr, hkn⟩ := hT.2.2.2.2.2.2.2 scr (by rw [e1]; exact h1)
  exact W.alen hx hb hcell harr (by rw [h2]; rfl) rfl rfl hd kk
end VO
/-! a new model -/
def mFN (a n : Nat) : List Value := (List.range 49).map fun k => if k = 0 ∨ k = 1 ∨ k = 2 ∨ k = 14 ∨ k = 19 ∨ k = 22 ∨ k = 35 then .int 0 else (fun j => if j < n then .ref (a + 1 + j) else .null) (if k < 14 then k - 3 else if k < 19 then k - 4 else if k < 22 then k - 5 else if k < 35 then k - 6 else k - 7)
def slN : Nat → Nat
  | 0 => 0
  | n + 1 => slN n + msz n
def MI (A0 : AH) (a n : Nat) (A : AH) : Prop := A0.2.1 = a + 1 ∧ A.2.1 = A0.2.1 + n ∧ A.2.2 = A0.2.2 + slN n ∧ A.1 a = some (9, mFN a n) ∧ (∀ j, j < n → A.1 (a + 1 + j) = some (100 + mkd j, List.replicate (msz j) (.int 0))) ∧ ∀ q, q ≠ a → ¬ (a + 1 ≤ q ∧ q < a + 1 + n) → A.1 q = A0.1 q
theorem MI.step {A0 A : AH} {a n N : Nat} {x : AC} {fs : List Value} (h : MI A0 a n A) (hN : msz n = N) (hx : x = (100 + mkd n, List.replicate (msz n) (.int 0))) (e : fs = mFN a (n + 1)) : MI A0 a (n + 1) (aset (anew A x N) a (9, fs)) := by
  obtain ⟨h0, h1, h2, h3, h4, h5⟩ := h
  subst hN; subst hx; subst e
  refine ⟨h0, ?_, ?_, aset_same _ _ _, fun j hj => ?_, fun q a1 a2 => ?_⟩
  · show A.2.1 + 1 = _; omega
  · show A.2.2 + msz n = A0.2.2 + (slN n + msz n); omega
  · rw [aset_ne _ _ (by omega)]
    by_cases e : j = n
    · subst e
      rw [show a + 1 + j = A.2.1 by omega, anew_same]
    · rw [anew_ne _ _ _ (by omega)]; exact h4 j (by omega)
  · rw [aset_ne _ _ a1, anew_ne _ _ _ (by omega)]; exact h5 q a1 (by omega)
theorem MI.slot {A0 A : AH} {a n N0 : Nat} {x0 : AC} (h : MI A0 a n A) : (anew A x0 N0).1 a = some (9, mFN a n) := by
  obtain ⟨h0, h1, h2, h3, h4, h5⟩ := h
  rw [anew_ne _ _ _ (by omega)]; exact h3
section MIN
variable {u : Ux} {d : Nat} {A : AH} {a : Nat}
theorem MI.top {A0 A : AH} {a n : Nat} (h : MI A0 a n A) : A.2.1 = a + 1 + n := by
  obtain ⟨h0, h1, _⟩ := h
  omega
theorem v_mstep {y : MT} {pc n N : Nat} {L : Lo} {st : List Value} {Φ : Out → AH → Prop} {A0 : AH} {x : AC} {fs : List Value} (h : MI A0 a n A) (hN : msz n = N) (hx : x = (100 + mkd n, List.replicate (msz n) (.int 0))) (e : fs = mFN a (n + 1)) (k : ∀ A1, MI A0 a (n + 1) A1 → V (gg u) d y pc L st A1 Φ) : V (gg u) d y pc L st (aset (anew A x N) a (9, fs)) Φ := k _ (h.step hN hx e)
set_option maxRecDepth 100000 in
set_option maxHeartbeats 4000000 in
theorem Mo_init_aux {A0 : AH} (h : MI A0 a 0 A) (hgl : A0.2.1 + 43 ≤ gL (gg u)) (hgs : A0.2.2 + 8200 ≤ gS (gg u)) : V (gg u) d mm_Mo_init 0 [some (.ref a)] [] A (fun r A' => r = .inl none ∧ MI A0 a 42 A') := by
  refine v_aload_n (dk cd_Mo_init 0 rfl) rfl ?_
  refine v_objinit (dk cd_Mo_init 1 rfl) ob_Mo_1 (by simp) ?_
  refine v_aload_n (dk cd_Mo_init 2 rfl) rfl ?_
  refine v_bipush (v := 8) (dk cd_Mo_init 3 rfl) (by decide) ?_
  refine v_newa (j := 0) (N := 8) (dk cd_Mo_init 4 rfl) (by decide) rfl rfl wA0 (by decide) rfl (by decide) (by have := h.2.1; have := h.1; omega) (by have h9 := h.2.2.1; have h8 : slN 0 + 8 ≤ 8200 := (by decide); omega) ?_
  refine v_putf (dk cd_Mo_init 5 rfl) fp_Mo_7_Mo (fun _ => rfl) h.slot rfl rfl ?_
  refine v_mstep (n := 0) h rfl rfl (by rw [h.top]; rfl) (fun A h => ?_)
  replace h : MI A0 a 1 A := h
  refine v_aload_n (dk cd_Mo_init 6 rfl) rfl ?_
  refine v_bipush (v := 8) (dk cd_Mo_init 7 rfl) (by decide) ?_
  refine v_newa (j := 0) (N := 8) (dk cd_Mo_init 8 rfl) (by decide) rfl rfl wA0 (by decide) rfl (by decide) (by have := h.2.1; have := h.1; omega) (by have h9 := h.2.2.1; have h8 : slN 1 + 8 ≤ 8200 := (by decide); omega) ?_
  refine v_putf (dk cd_Mo_init 9 rfl) fp_Mo_13_Mo (fun _ => rfl) h.slot rfl rfl ?_
  refine v_mstep (n := 1) h rfl rfl (by rw [h.top]; rfl) (fun A h => ?_)
  replace h : MI A0 a 2 A := h
  refine v_aload_n (dk cd_Mo_init 10 rfl) rfl ?_
  refine v_bipush (v := 8) (dk cd_Mo_init 11 rfl) (by decide) ?_
  refine v_newa (j := 0) (N := 8) (dk cd_Mo_init 12 rfl) (by decide) rfl rfl wA0 (by decide) rfl (by decide) (by have := h.2.1; have := h.1; omega) (by have h9 := h.2.2.1; have h8 : slN 2 + 8 ≤ 8200 := (by decide); omega) ?_
  refine v_putf (dk cd_Mo_init 13 rfl) fp_Mo_16_Mo (fun _ => rfl) h.slot rfl rfl ?_
  refine v_mstep (n := 2) h rfl rfl (by rw [h.top]; rfl) (fun A h => ?_)
  replace h : MI A0 a 3 A := h
  refine v_aload_n (dk cd_Mo_init 14 rfl) rfl ?_
  refine v_bipush (v := 8) (dk cd_Mo_init 15 rfl) (by decide) ?_
  refine v_newa (j := 1) (N := 8) (dk cd_Mo_init 16 rfl) (by decide) rfl rfl wA1 (by decide) rfl (by decide) (by have := h.2.1; have := h.1; omega) (by have h9 := h.2.2.1; have h8 : slN 3 + 8 ≤ 8200 := (by decide); omega) ?_
  refine v_putf (dk cd_Mo_init 17 rfl) fp_Mo_19_Mo (fun _ => rfl) h.slot rfl rfl ?_
  refine v_mstep (n := 3) h rfl rfl (by rw [h.top]; rfl) (fun A h => ?_)
  replace h : MI A0 a 4 A := h
  refine v_aload_n (dk cd_Mo_init 18 rfl) rfl ?_
  refine v_bipush (v := 8) (dk cd_Mo_init 19 rfl) (by decide) ?_
  refine v_newa (j := 0) (N := 8) (dk cd_Mo_init 20 rfl) (by decide) rfl rfl wA0 (by decide) rfl (by decide) (by have := h.2.1; have := h.1; omega) (by have h9 := h.2.2.1; have h8 : slN 4 + 8 ≤ 8200 := (by decide); omega) ?_
  refine v_putf (dk cd_Mo_init 21 rfl) fp_Mo_23_Mo (fun _ => rfl) h.slot rfl rfl ?_
  refine v_mstep (n := 4) h rfl rfl (by rw [h.top]; rfl) (fun A h => ?_)
  replace h : MI A0 a 5 A := h
  refine v_aload_n (dk cd_Mo_init 22 rfl) rfl ?_
  refine v_bipush (v := 96) (dk cd_Mo_init 23 rfl) (by decide) ?_
  refine v_newa (j := 0) (N := 96) (dk cd_Mo_init 24 rfl) (by decide) rfl rfl wA0 (by decide) rfl (by decide) (by have := h.2.1; have := h.1; omega) (by have h9 := h.2.2.1; have h8 : slN 5 + 96 ≤ 8200 := (by decide); omega) ?_
  refine v_putf (dk cd_Mo_init 25 rfl) fp_Mo_26_Mo (fun _ => rfl) h.slot rfl rfl ?_
  refine v_mstep (n := 5) h rfl rfl (by rw [h.top]; rfl) (fun A h => ?_)
  replace h : MI A0 a 6 A := h
  refine v_aload_n (dk cd_Mo_init 26 rfl) rfl ?_
  refine v_bipush (v := 12) (dk cd_Mo_init 27 rfl) (by decide) ?_
  refine v_newa (j := 0) (N := 12) (dk cd_Mo_init 28 rfl) (by decide) rfl rfl wA0 (by decide) rfl (by decide) (by have := h.2.1; have := h.1; omega) (by have h9 := h.2.2.1; have h8 : slN 6 + 12 ≤ 8200 := (by decide); omega) ?_
  refine v_putf (dk cd_Mo_init 29 rfl) fp_Mo_29_Mo (fun _ => rfl) h.slot rfl rfl ?_
  refine v_mstep (n := 6) h rfl rfl (by rw [h.top]; rfl) (fun A h => ?_)
  replace h : MI A0 a 7 A := h
  refine v_aload_n (dk cd_Mo_init 30 rfl) rfl ?_
  refine v_bipush (v := 8) (dk cd_Mo_init 31 rfl) (by decide) ?_
  refine v_newa (j := 0) (N := 8) (dk cd_Mo_init 32 rfl) (by decide) rfl rfl wA0 (by decide) rfl (by decide) (by have := h.2.1; have := h.1; omega) (by have h9 := h.2.2.1; have h8 : slN 7 + 8 ≤ 8200 := (by decide); omega) ?_
  refine v_putf (dk cd_Mo_init 33 rfl) fp_Mo_32_Mo (fun _ => rfl) h.slot rfl rfl ?_
  refine v_mstep (n := 7) h rfl rfl (by rw [h.top]; rfl) (fun A h => ?_)
  replace h : MI A0 a 8 A := h
  refine v_aload_n (dk cd_Mo_init 34 rfl) rfl ?_
  refine v_sipush (v := 864) (dk cd_Mo_init 35 rfl) (by decide) ?_
  refine v_newa (j := 0) (N := 864) (dk cd_Mo_init 36 rfl) (by decide) rfl rfl wA0 (by decide) rfl (by decide) (by have := h.2.1; have := h.1; omega) (by have h9 := h.2.2.1; have h8 : slN 8 + 864 ≤ 8200 := (by decide); omega) ?_
  refine v_putf (dk cd_Mo_init 37 rfl) fp_Mo_35_Mo (fun _ => rfl) h.slot rfl rfl ?_
  refine v_mstep (n := 8) h rfl rfl (by rw [h.top]; rfl) (fun A h => ?_)
  replace h : MI A0 a 9 A := h
  refine v_aload_n (dk cd_Mo_init 38 rfl) rfl ?_
  refine v_sipush (v := 864) (dk cd_Mo_init 39 rfl) (by decide) ?_
  refine v_newa (j := 0) (N := 864) (dk cd_Mo_init 40 rfl) (by decide) rfl rfl wA0 (by decide) rfl (by decide) (by have := h.2.1; have := h.1; omega) (by have h9 := h.2.2.1; have h8 : slN 9 + 864 ≤ 8200 := (by decide); omega) ?_
  refine v_putf (dk cd_Mo_init 41 rfl) fp_Mo_38_Mo (fun _ => rfl) h.slot rfl rfl ?_
  refine v_mstep (n := 9) h rfl rfl (by rw [h.top]; rfl) (fun A h => ?_)
  replace h : MI A0 a 10 A := h
  refine v_aload_n (dk cd_Mo_init 42 rfl) rfl ?_
  refine v_sipush (v := 864) (dk cd_Mo_init 43 rfl) (by decide) ?_
  refine v_newa (j := 0) (N := 864) (dk cd_Mo_init 44 rfl) (by decide) rfl rfl wA0 (by decide) rfl (by decide) (by have := h.2.1; have := h.1; omega) (by have h9 := h.2.2.1; have h8 : slN 10 + 864 ≤ 8200 := (by decide); omega) ?_
  refine v_putf (dk cd_Mo_init 45 rfl) fp_Mo_41_Mo (fun _ => rfl) h.slot rfl rfl ?_
  refine v_mstep (n := 10) h rfl rfl (by rw [h.top]; rfl) (fun A h => ?_)
  replace h : MI A0 a 11 A := h
  refine v_aload_n (dk cd_Mo_init 46 rfl) rfl ?_
  refine v_bipush (v := 8) (dk cd_Mo_init 47 rfl) (by decide) ?_
  refine v_newa (j := 0) (N := 8) (dk cd_Mo_init 48 rfl) (by decide) rfl rfl wA0 (by decide) rfl (by decide) (by have := h.2.1; have := h.1; omega) (by have h9 := h.2.2.1; have h8 : slN 11 + 8 ≤ 8200 := (by decide); omega) ?_
  refine v_putf (dk cd_Mo_init 49 rfl) fp_Mo_44_Mo (fun _ => rfl) h.slot rfl rfl ?_
  refine v_mstep (n := 11) h rfl rfl (by rw [h.top]; rfl) (fun A h => ?_)
  replace h : MI A0 a 12 A := h
  refine v_aload_n (dk cd_Mo_init 50 rfl) rfl ?_
  refine v_bipush (v := 8) (dk cd_Mo_init 51 rfl) (by decide) ?_
  refine v_newa (j := 0) (N := 8) (dk cd_Mo_init 52 rfl) (by decide) rfl rfl wA0 (by decide) rfl (by decide) (by have := h.2.1; have := h.1; omega) (by have h9 := h.2.2.1; have h8 : slN 12 + 8 ≤ 8200 := (by decide); omega) ?_
  refine v_putf (dk cd_Mo_init 53 rfl) fp_Mo_47_Mo (fun _ => rfl) h.slot rfl rfl ?_
  refine v_mstep (n := 12) h rfl rfl (by rw [h.top]; rfl) (fun A h => ?_)
  replace h : MI A0 a 13 A := h
  refine v_aload_n (dk cd_Mo_init 54 rfl) rfl ?_
  refine v_iconst (v := 3) (dk cd_Mo_init 55 rfl) (by decide) ?_
  refine v_newa (j := 0) (N := 3) (dk cd_Mo_init 56 rfl) (by decide) rfl rfl wA0 (by decide) rfl (by decide) (by have := h.2.1; have := h.1; omega) (by have h9 := h.2.2.1; have h8 : slN 13 + 3 ≤ 8200 := (by decide); omega) ?_
  refine v_putf (dk cd_Mo_init 57 rfl) fp_Mo_50_Mo (fun _ => rfl) h.slot rfl rfl ?_
  refine v_mstep (n := 13) h rfl rfl (by rw [h.top]; rfl) (fun A h => ?_)
  replace h : MI A0 a 14 A := h
  refine v_aload_n (dk cd_Mo_init 58 rfl) rfl ?_
  refine v_bipush (v := 90) (dk cd_Mo_init 59 rfl) (by decide) ?_
  refine v_newa (j := 0) (N := 90) (dk cd_Mo_init 60 rfl) (by decide) rfl rfl wA0 (by decide) rfl (by decide) (by have := h.2.1; have := h.1; omega) (by have h9 := h.2.2.1; have h8 : slN 14 + 90 ≤ 8200 := (by decide); omega) ?_
  refine v_putf (dk cd_Mo_init 61 rfl) fp_Mo_53_Mo (fun _ => rfl) h.slot rfl rfl ?_
  refine v_mstep (n := 14) h rfl rfl (by rw [h.top]; rfl) (fun A h => ?_)
  replace h : MI A0 a 15 A := h
  refine v_aload_n (dk cd_Mo_init 62 rfl) rfl ?_
  refine v_bipush (v := 12) (dk cd_Mo_init 63 rfl) (by decide) ?_
  refine v_newa (j := 0) (N := 12) (dk cd_Mo_init 64 rfl) (by decide) rfl rfl wA0 (by decide) rfl (by decide) (by have := h.2.1; have := h.1; omega) (by have h9 := h.2.2.1; have h8 : slN 15 + 12 ≤ 8200 := (by decide); omega) ?_
  refine v_putf (dk cd_Mo_init 65 rfl) fp_Mo_56_Mo (fun _ => rfl) h.slot rfl rfl ?_
  refine v_mstep (n := 15) h rfl rfl (by rw [h.top]; rfl) (fun A h => ?_)
  replace h : MI A0 a 16 A := h
  refine v_aload_n (dk cd_Mo_init 66 rfl) rfl ?_
  refine v_bipush (v := 12) (dk cd_Mo_init 67 rfl) (by decide) ?_
  refine v_newa (j := 0) (N := 12) (dk cd_Mo_init 68 rfl) (by decide) rfl rfl wA0 (by decide) rfl (by decide) (by have := h.2.1; have := h.1; omega) (by have h9 := h.2.2.1; have h8 : slN 16 + 12 ≤ 8200 := (by decide); omega) ?_
  refine v_putf (dk cd_Mo_init 69 rfl) fp_Mo_59_Mo (fun _ => rfl) h.slot rfl rfl ?_
  refine v_mstep (n := 16) h rfl rfl (by rw [h.top]; rfl) (fun A h => ?_)
  replace h : MI A0 a 17 A := h
  refine v_aload_n (dk cd_Mo_init 70 rfl) rfl ?_
  refine v_bipush (v := 40) (dk cd_Mo_init 71 rfl) (by decide) ?_
  refine v_newa (j := 0) (N := 40) (dk cd_Mo_init 72 rfl) (by decide) rfl rfl wA0 (by decide) rfl (by decide) (by have := h.2.1; have := h.1; omega) (by have h9 := h.2.2.1; have h8 : slN 17 + 40 ≤ 8200 := (by decide); omega) ?_
  refine v_putf (dk cd_Mo_init 73 rfl) fp_Mo_62_Mo (fun _ => rfl) h.slot rfl rfl ?_
  refine v_mstep (n := 17) h rfl rfl (by rw [h.top]; rfl) (fun A h => ?_)
  replace h : MI A0 a 18 A := h
  refine v_aload_n (dk cd_Mo_init 74 rfl) rfl ?_
  refine v_bipush (v := 40) (dk cd_Mo_init 75 rfl) (by decide) ?_
  refine v_newa (j := 0) (N := 40) (dk cd_Mo_init 76 rfl) (by decide) rfl rfl wA0 (by decide) rfl (by decide) (by have := h.2.1; have := h.1; omega) (by have h9 := h.2.2.1; have h8 : slN 18 + 40 ≤ 8200 := (by decide); omega) ?_
  refine v_putf (dk cd_Mo_init 77 rfl) fp_Mo_65_Mo (fun _ => rfl) h.slot rfl rfl ?_
  refine v_mstep (n := 18) h rfl rfl (by rw [h.top]; rfl) (fun A h => ?_)
  replace h : MI A0 a 19 A := h
  refine v_aload_n (dk cd_Mo_init 78 rfl) rfl ?_
  refine v_bipush (v := 40) (dk cd_Mo_init 79 rfl) (by decide) ?_
  refine v_newa (j := 0) (N := 40) (dk cd_Mo_init 80 rfl) (by decide) rfl rfl wA0 (by decide) rfl (by decide) (by have := h.2.1; have := h.1; omega) (by have h9 := h.2.2.1; have h8 : slN 19 + 40 ≤ 8200 := (by decide); omega) ?_
  refine v_putf (dk cd_Mo_init 81 rfl) fp_Mo_68_Mo (fun _ => rfl) h.slot rfl rfl ?_
  refine v_mstep (n := 19) h rfl rfl (by rw [h.top]; rfl) (fun A h => ?_)
  replace h : MI A0 a 20 A := h
  refine v_aload_n (dk cd_Mo_init 82 rfl) rfl ?_
  refine v_bipush (v := 40) (dk cd_Mo_init 83 rfl) (by decide) ?_
  refine v_newa (j := 0) (N := 40) (dk cd_Mo_init 84 rfl) (by decide) rfl rfl wA0 (by decide) rfl (by decide) (by have := h.2.1; have := h.1; omega) (by have h9 := h.2.2.1; have h8 : slN 20 + 40 ≤ 8200 := (by decide); omega) ?_
  refine v_putf (dk cd_Mo_init 85 rfl) fp_Mo_71_Mo (fun _ => rfl) h.slot rfl rfl ?_
  refine v_mstep (n := 20) h rfl rfl (by rw [h.top]; rfl) (fun A h => ?_)
  replace h : MI A0 a 21 A := h
  refine v_aload_n (dk cd_Mo_init 86 rfl) rfl ?_
  refine v_bipush (v := 40) (dk cd_Mo_init 87 rfl) (by decide) ?_
  refine v_newa (j := 1) (N := 40) (dk cd_Mo_init 88 rfl) (by decide) rfl rfl wA1 (by decide) rfl (by decide) (by have := h.2.1; have := h.1; omega) (by have h9 := h.2.2.1; have h8 : slN 21 + 40 ≤ 8200 := (by decide); omega) ?_
  refine v_putf (dk cd_Mo_init 89 rfl) fp_Mo_74_Mo (fun _ => rfl) h.slot rfl rfl ?_
  refine v_mstep (n := 21) h rfl rfl (by rw [h.top]; rfl) (fun A h => ?_)
  replace h : MI A0 a 22 A := h
  refine v_aload_n (dk cd_Mo_init 90 rfl) rfl ?_
  refine v_bipush (v := 40) (dk cd_Mo_init 91 rfl) (by decide) ?_
  refine v_newa (j := 0) (N := 40) (dk cd_Mo_init 92 rfl) (by decide) rfl rfl wA0 (by decide) rfl (by decide) (by have := h.2.1; have := h.1; omega) (by have h9 := h.2.2.1; have h8 : slN 22 + 40 ≤ 8200 := (by decide); omega) ?_
  refine v_putf (dk cd_Mo_init 93 rfl) fp_Mo_77_Mo (fun _ => rfl) h.slot rfl rfl ?_
  refine v_mstep (n := 22) h rfl rfl (by rw [h.top]; rfl) (fun A h => ?_)
  replace h : MI A0 a 23 A := h
  refine v_aload_n (dk cd_Mo_init 94 rfl) rfl ?_
  refine v_bipush (v := 40) (dk cd_Mo_init 95 rfl) (by decide) ?_
  refine v_newa (j := 0) (N := 40) (dk cd_Mo_init 96 rfl) (by decide) rfl rfl wA0 (by decide) rfl (by decide) (by have := h.2.1; have := h.1; omega) (by have h9 := h.2.2.1; have h8 : slN 23 + 40 ≤ 8200 := (by decide); omega) ?_
  refine v_putf (dk cd_Mo_init 97 rfl) fp_Mo_80_Mo (fun _ => rfl) h.slot rfl rfl ?_
  refine v_mstep (n := 23) h rfl rfl (by rw [h.top]; rfl) (fun A h => ?_)
  replace h : MI A0 a 24 A := h
  refine v_aload_n (dk cd_Mo_init 98 rfl) rfl ?_
  refine v_bipush (v := 40) (dk cd_Mo_init 99 rfl) (by decide) ?_
  refine v_newa (j := 0) (N := 40) (dk cd_Mo_init 100 rfl) (by decide) rfl rfl wA0 (by decide) rfl (by decide) (by have := h.2.1; have := h.1; omega) (by have h9 := h.2.2.1; have h8 : slN 24 + 40 ≤ 8200 := (by decide); omega) ?_
  refine v_putf (dk cd_Mo_init 101 rfl) fp_Mo_83_Mo (fun _ => rfl) h.slot rfl rfl ?_
  refine v_mstep (n := 24) h rfl rfl (by rw [h.top]; rfl) (fun A h => ?_)
  replace h : MI A0 a 25 A := h
  refine v_aload_n (dk cd_Mo_init 102 rfl) rfl ?_
  refine v_sipush (v := 320) (dk cd_Mo_init 103 rfl) (by decide) ?_
  refine v_newa (j := 0) (N := 320) (dk cd_Mo_init 104 rfl) (by decide) rfl rfl wA0 (by decide) rfl (by decide) (by have := h.2.1; have := h.1; omega) (by have h9 := h.2.2.1; have h8 : slN 25 + 320 ≤ 8200 := (by decide); omega) ?_
  refine v_putf (dk cd_Mo_init 105 rfl) fp_Mo_86_Mo (fun _ => rfl) h.slot rfl rfl ?_
  refine v_mstep (n := 25) h rfl rfl (by rw [h.top]; rfl) (fun A h => ?_)
  replace h : MI A0 a 26 A := h
  refine v_aload_n (dk cd_Mo_init 106 rfl) rfl ?_
  refine v_sipush (v := 320) (dk cd_Mo_init 107 rfl) (by decide) ?_
  refine v_newa (j := 0) (N := 320) (dk cd_Mo_init 108 rfl) (by decide) rfl rfl wA0 (by decide) rfl (by decide) (by have := h.2.1; have := h.1; omega) (by have h9 := h.2.2.1; have h8 : slN 26 + 320 ≤ 8200 := (by decide); omega) ?_
  refine v_putf (dk cd_Mo_init 109 rfl) fp_Mo_89_Mo (fun _ => rfl) h.slot rfl rfl ?_
  refine v_mstep (n := 26) h rfl rfl (by rw [h.top]; rfl) (fun A h => ?_)
  replace h : MI A0 a 27 A := h
  refine v_aload_n (dk cd_Mo_init 110 rfl) rfl ?_
  refine v_bipush (v := 120) (dk cd_Mo_init 111 rfl) (by decide) ?_
  refine v_newa (j := 0) (N := 120) (dk cd_Mo_init 112 rfl) (by decide) rfl rfl wA0 (by decide) rfl (by decide) (by have := h.2.1; have := h.1; omega) (by have h9 := h.2.2.1; have h8 : slN 27 + 120 ≤ 8200 := (by decide); omega) ?_
  refine v_putf (dk cd_Mo_init 113 rfl) fp_Mo_92_Mo (fun _ => rfl) h.slot rfl rfl ?_
  refine v_mstep (n := 27) h rfl rfl (by rw [h.top]; rfl) (fun A h => ?_)
  replace h : MI A0 a 28 A := h
  refine v_aload_n (dk cd_Mo_init 114 rfl) rfl ?_
  refine v_sipush (v := 3600) (dk cd_Mo_init 115 rfl) (by decide) ?_
  refine v_newa (j := 0) (N := 3600) (dk cd_Mo_init 116 rfl) (by decide) rfl rfl wA0 (by decide) rfl (by decide) (by have := h.2.1; have := h.1; omega) (by have h9 := h.2.2.1; have h8 : slN 28 + 3600 ≤ 8200 := (by decide); omega) ?_
  refine v_putf (dk cd_Mo_init 117 rfl) fp_Mo_95_Mo (fun _ => rfl) h.slot rfl rfl ?_
  refine v_mstep (n := 28) h rfl rfl (by rw [h.top]; rfl) (fun A h => ?_)
  replace h : MI A0 a 29 A := h
  refine v_aload_n (dk cd_Mo_init 118 rfl) rfl ?_
  refine v_iconst (v := 3) (dk cd_Mo_init 119 rfl) (by decide) ?_
  refine v_newa (j := 0) (N := 3) (dk cd_Mo_init 120 rfl) (by decide) rfl rfl wA0 (by decide) rfl (by decide) (by have := h.2.1; have := h.1; omega) (by have h9 := h.2.2.1; have h8 : slN 29 + 3 ≤ 8200 := (by decide); omega) ?_
  refine v_putf (dk cd_Mo_init 121 rfl) fp_Mo_98_Mo (fun _ => rfl) h.slot rfl rfl ?_
  refine v_mstep (n := 29) h rfl rfl (by rw [h.top]; rfl) (fun A h => ?_)
  replace h : MI A0 a 30 A := h
  refine v_aload_n (dk cd_Mo_init 122 rfl) rfl ?_
  refine v_iconst (v := 3) (dk cd_Mo_init 123 rfl) (by decide) ?_
  refine v_newa (j := 0) (N := 3) (dk cd_Mo_init 124 rfl) (by decide) rfl rfl wA0 (by decide) rfl (by decide) (by have := h.2.1; have := h.1; omega) (by have h9 := h.2.2.1; have h8 : slN 30 + 3 ≤ 8200 := (by decide); omega) ?_
  refine v_putf (dk cd_Mo_init 125 rfl) fp_Mo_101_Mo (fun _ => rfl) h.slot rfl rfl ?_
  refine v_mstep (n := 30) h rfl rfl (by rw [h.top]; rfl) (fun A h => ?_)
  replace h : MI A0 a 31 A := h
  refine v_aload_n (dk cd_Mo_init 126 rfl) rfl ?_
  refine v_bipush (v := 9) (dk cd_Mo_init 127 rfl) (by decide) ?_
  refine v_newa (j := 0) (N := 9) (dk cd_Mo_init 128 rfl) (by decide) rfl rfl wA0 (by decide) rfl (by decide) (by have := h.2.1; have := h.1; omega) (by have h9 := h.2.2.1; have h8 : slN 31 + 9 ≤ 8200 := (by decide); omega) ?_
  refine v_putf (dk cd_Mo_init 129 rfl) fp_Mo_104_Mo (fun _ => rfl) h.slot rfl rfl ?_
  refine v_mstep (n := 31) h rfl rfl (by rw [h.top]; rfl) (fun A h => ?_)
  replace h : MI A0 a 32 A := h
  refine v_aload_n (dk cd_Mo_init 130 rfl) rfl ?_
  refine v_iconst (v := 3) (dk cd_Mo_init 131 rfl) (by decide) ?_
  refine v_newa (j := 0) (N := 3) (dk cd_Mo_init 132 rfl) (by decide) rfl rfl wA0 (by decide) rfl (by decide) (by have := h.2.1; have := h.1; omega) (by have h9 := h.2.2.1; have h8 : slN 32 + 3 ≤ 8200 := (by decide); omega) ?_
  refine v_putf (dk cd_Mo_init 133 rfl) fp_Mo_107_Mo (fun _ => rfl) h.slot rfl rfl ?_
  refine v_mstep (n := 32) h rfl rfl (by rw [h.top]; rfl) (fun A h => ?_)
  replace h : MI A0 a 33 A := h
  refine v_aload_n (dk cd_Mo_init 134 rfl) rfl ?_
  refine v_iconst (v := 3) (dk cd_Mo_init 135 rfl) (by decide) ?_
  refine v_newa (j := 0) (N := 3) (dk cd_Mo_init 136 rfl) (by decide) rfl rfl wA0 (by decide) rfl (by decide) (by have := h.2.1; have := h.1; omega) (by have h9 := h.2.2.1; have h8 : slN 33 + 3 ≤ 8200 := (by decide); omega) ?_
  refine v_putf (dk cd_Mo_init 137 rfl) fp_Mo_110_Mo (fun _ => rfl) h.slot rfl rfl ?_
  refine v_mstep (n := 33) h rfl rfl (by rw [h.top]; rfl) (fun A h => ?_)
  replace h : MI A0 a 34 A := h
  refine v_aload_n (dk cd_Mo_init 138 rfl) rfl ?_
  refine v_iconst (v := 3) (dk cd_Mo_init 139 rfl) (by decide) ?_
  refine v_newa (j := 0) (N := 3) (dk cd_Mo_init 140 rfl) (by decide) rfl rfl wA0 (by decide) rfl (by decide) (by have := h.2.1; have := h.1; omega) (by have h9 := h.2.2.1; have h8 : slN 34 + 3 ≤ 8200 := (by decide); omega) ?_
  refine v_putf (dk cd_Mo_init 141 rfl) fp_Mo_113_Mo (fun _ => rfl) h.slot rfl rfl ?_
  refine v_mstep (n := 34) h rfl rfl (by rw [h.top]; rfl) (fun A h => ?_)
  replace h : MI A0 a 35 A := h
  refine v_aload_n (dk cd_Mo_init 142 rfl) rfl ?_
  refine v_bipush (v := 36) (dk cd_Mo_init 143 rfl) (by decide) ?_
  refine v_newa (j := 0) (N := 36) (dk cd_Mo_init 144 rfl) (by decide) rfl rfl wA0 (by decide) rfl (by decide) (by have := h.2.1; have := h.1; omega) (by have h9 := h.2.2.1; have h8 : slN 35 + 36 ≤ 8200 := (by decide); omega) ?_
  refine v_putf (dk cd_Mo_init 145 rfl) fp_Mo_116_Mo (fun _ => rfl) h.slot rfl rfl ?_
  refine v_mstep (n := 35) h rfl rfl (by rw [h.top]; rfl) (fun A h => ?_)
  replace h : MI A0 a 36 A := h
  refine v_aload_n (dk cd_Mo_init 146 rfl) rfl ?_
  refine v_bipush (v := 36) (dk cd_Mo_init 147 rfl) (by decide) ?_
  refine v_newa (j := 0) (N := 36) (dk cd_Mo_init 148 rfl) (by decide) rfl rfl wA0 (by decide) rfl (by decide) (by have := h.2.1; have := h.1; omega) (by have h9 := h.2.2.1; have h8 : slN 36 + 36 ≤ 8200 := (by decide); omega) ?_
  refine v_putf (dk cd_Mo_init 149 rfl) fp_Mo_119_Mo (fun _ => rfl) h.slot rfl rfl ?_
  refine v_mstep (n := 36) h rfl rfl (by rw [h.top]; rfl) (fun A h => ?_)
  replace h : MI A0 a 37 A := h
  refine v_aload_n (dk cd_Mo_init 150 rfl) rfl ?_
  refine v_bipush (v := 120) (dk cd_Mo_init 151 rfl) (by decide) ?_
  refine v_newa (j := 1) (N := 120) (dk cd_Mo_init 152 rfl) (by decide) rfl rfl wA1 (by decide) rfl (by decide) (by have := h.2.1; have := h.1; omega) (by have h9 := h.2.2.1; have h8 : slN 37 + 120 ≤ 8200 := (by decide); omega) ?_
  refine v_putf (dk cd_Mo_init 153 rfl) fp_Mo_122_Mo (fun _ => rfl) h.slot rfl rfl ?_
  refine v_mstep (n := 37) h rfl rfl (by rw [h.top]; rfl) (fun A h => ?_)
  replace h : MI A0 a 38 A := h
  refine v_aload_n (dk cd_Mo_init 154 rfl) rfl ?_
  refine v_iconst (v := 3) (dk cd_Mo_init 155 rfl) (by decide) ?_
  refine v_newa (j := 0) (N := 3) (dk cd_Mo_init 156 rfl) (by decide) rfl rfl wA0 (by decide) rfl (by decide) (by have := h.2.1; have := h.1; omega) (by have h9 := h.2.2.1; have h8 : slN 38 + 3 ≤ 8200 := (by decide); omega) ?_
  refine v_putf (dk cd_Mo_init 157 rfl) fp_Mo_125_Mo (fun _ => rfl) h.slot rfl rfl ?_
  refine v_mstep (n := 38) h rfl rfl (by rw [h.top]; rfl) (fun A h => ?_)
  replace h : MI A0 a 39 A := h
  refine v_aload_n (dk cd_Mo_init 158 rfl) rfl ?_
  refine v_bipush (v := 120) (dk cd_Mo_init 159 rfl) (by decide) ?_
  refine v_newa (j := 0) (N := 120) (dk cd_Mo_init 160 rfl) (by decide) rfl rfl wA0 (by decide) rfl (by decide) (by have := h.2.1; have := h.1; omega) (by have h9 := h.2.2.1; have h8 : slN 39 + 120 ≤ 8200 := (by decide); omega) ?_
  refine v_putf (dk cd_Mo_init 161 rfl) fp_Mo_128_Mo (fun _ => rfl) h.slot rfl rfl ?_
  refine v_mstep (n := 39) h rfl rfl (by rw [h.top]; rfl) (fun A h => ?_)
  replace h : MI A0 a 40 A := h
  refine v_aload_n (dk cd_Mo_init 162 rfl) rfl ?_
  refine v_bipush (v := 120) (dk cd_Mo_init 163 rfl) (by decide) ?_
  refine v_newa (j := 0) (N := 120) (dk cd_Mo_init 164 rfl) (by decide) rfl rfl wA0 (by decide) rfl (by decide) (by have := h.2.1; have := h.1; omega) (by have h9 := h.2.2.1; have h8 : slN 40 + 120 ≤ 8200 := (by decide); omega) ?_
  refine v_putf (dk cd_Mo_init 165 rfl) fp_Mo_131_Mo (fun _ => rfl) h.slot rfl rfl ?_
  refine v_mstep (n := 40) h rfl rfl (by rw [h.top]; rfl) (fun A h => ?_)
  replace h : MI A0 a 41 A := h
  refine v_aload_n (dk cd_Mo_init 166 rfl) rfl ?_
  refine v_bipush (v := 120) (dk cd_Mo_init 167 rfl) (by decide) ?_
  refine v_newa (j := 0) (N := 120) (dk cd_Mo_init 168 rfl) (by decide) rfl rfl wA0 (by decide) rfl (by decide) (by have := h.2.1; have := h.1; omega) (by have h9 := h.2.2.1; have h8 : slN 41 + 120 ≤ 8200 := (by decide); omega) ?_
  refine v_putf (dk cd_Mo_init 169 rfl) fp_Mo_134_Mo (fun _ => rfl) h.slot rfl rfl ?_
  refine v_mstep (n := 41) h rfl rfl (by rw [h.top]; rfl) (fun A h => ?_)
  replace h : MI A0 a 42 A := h
  exact v_vret (dk cd_Mo_init 170 rfl) rfl ⟨rfl, h⟩
theorem Mo_init_ok (h0 : A.2.1 = a + 1) (hf : A.1 a = some (9, mFN a 0)) (hgl : A.2.1 + 43 ≤ gL (gg u)) (hgs : A.2.2 + 8200 ≤ gS (gg u)) : V (gg u) d mm_Mo_init 0 [some (.ref a)] [] A (fun r A' => r = .inl none ∧ MI A a 42 A') :=
  Mo_init_aux ⟨h0, rfl, rfl, hf, fun j hj => absurd hj (Nat.not_lt_zero j), fun q _ _ => rfl⟩ hgl hgs
end MIN
