/-! the model: a minute -/
theorem Rel.ck' {S : SS} {t : Int32} {i : Nat → Int32} {f : Nat → Nat → Int32} (R : Rel S t i f) (k : Int32) : Rel (setCk S k) t (up1 i 1 k) f :=
  ⟨R.th, rfl, R.nc, R.nw, R.nv, R.nh, R.ty, R.ce, R.cz, R.wa, R.ve, R.hs, R.hz⟩
theorem foldl_snoc {α β : Type} {l : List α} {g : β → α → β} {b : β} {k : Nat} {z : α} (hk : k < l.length) : (l.take (k + 1)).foldl g b = g ((l.take k).foldl g b) (l.getD k z) := by
  rw [List.take_add_one, List.getElem?_eq_getElem hk, List.foldl_append, List.getD_eq_getElem?_getD, List.getElem?_eq_getElem hk]; rfl
theorem lisS_hear {S : SS} {clk : Int32} {h : HaS} {p : Nat × Int32 × Int32} (hq : h.1.2.2.1 ≤ 0) : lisS S clk h p = hearS S h p.1 p.2.1 p.2.2 clk := if_pos hq
theorem lisS_miss {S : SS} {clk : Int32} {h : HaS} {p : Nat × Int32 × Int32} (hq : ¬ h.1.2.2.1 ≤ 0) : lisS S clk h p = hMs h (h.1.2.2.1 - 1) := if_neg hq
theorem getD_inP {l : List (Nat × Int32 × Int32)} {k : Nat} (hk : k < l.length) : l.getD k (0, 0, 0) ∈ l := by
  rw [List.getD_eq_getElem?_getD, List.getElem?_eq_getElem hk]; exact List.getElem_mem hk
theorem cMid_co {S : SS} {n : Nat} {c : CeS} (K : SOK S) (hc : (sCells S)[n]? = some c) : CO S (cMid S n c) ∧ PgX S (cMid S n c) ∧ (cMid S n c).1 = c.1 := by
  obtain ⟨h1, h2⟩ := cMid_ok (i := n) K.wf (K.wc n c hc)
  have hp : (cMid S n c).2.2.2 = c.2.2.2 := by unfold cMid; split <;> rfl
  have h3 := K.wc n c hc
  refine ⟨⟨h1, h2, by rw [hp]; exact h3.2.2.1, by rw [hp]; exact h3.2.2.2⟩, ?_, by unfold cMid; split <;> rfl⟩
  unfold PgX
  rw [hp]; exact (K.cx n c hc).2
theorem lis_hs {S : SS} (K : SOK S) {n m : Nat} {x : HaS} {c : CeS} (hn : (sHs S)[n]? = some x) (hc : (sCells S)[m]? = some c) (k : Nat) : HOK S ((c.2.2.2.take k).foldl (lisS S (sClock S)) x) ∧ HsX S ((c.2.2.2.take k).foldl (lisS S (sClock S)) x) := by
  have w12 : ∀ v, v < (sVers S).length → (vAt S v).1 < 12 := fun v hv => Nat.lt_of_lt_of_le (K.w12 hv) K.wf.2.1
  have hl : ∀ q ∈ c.2.2.2.take k, q.1 < (sVers S).length ∧ ((vAt S q.1).2.2.isSome = true → (∃ k, k < 3 ∧ q.2.1 = nI k) ∧ ∃ k, k < 3 ∧ q.2.2 = nI k) := by
    intro q hq
    have hq := List.mem_of_mem_take hq
    obtain ⟨a1, a2⟩ := (K.wc m c hc).2.2.2 q hq
    exact ⟨a1, fun hs => ⟨a2 hs, ((K.cx m c hc).2 q hq).2 hs⟩⟩
  exact ⟨HOK.fold K.nk K.wf.2.2.2.1 w12 _ (fun q hq => (hl q hq).1) _ (K.hx n x hn).1, HsX.fold K.nk K.wf.2.2.2.1 w12 _ hl _ (K.hx n x hn).1 (K.hx n x hn).2⟩
section MV
variable {u : Ux} {d : Nat} {A B : AH} {a : Nat} {i : Nat → Int32} {f : Nat → Nat → Int32} {S : SS} {t x : Int32}
set_option maxRecDepth 100000 in
set_option maxHeartbeats 4000000 in
theorem Mo_minute_72 {P k c : Nat} {hh : HaS} {cc : CeS} {Φ : Out → AH → Prop} (K : SOK S) (hn : (sHs S)[k]? = some hh) (hc : (sCells S)[c]? = some cc) (kont : ∀ {i : Nat → Int32} {f : Nat → Nat → Int32} {A : AH}, MH B a i f A → Rel (setHs S k (cc.2.2.2.foldl (lisS S (sClock S)) hh)) t i f → V (gg u) (d + 2) mm_Mo_minute 150 [some (.ref a), some (.int (nI P)), some (.int (nI k)), none, none, none] [] A Φ) : ∀ q, ∀ {i : Nat → Int32} {f : Nat → Nat → Int32} {A : AH}, MH B a i f A → Rel (setHs S k ((cc.2.2.2.take q).foldl (lisS S (sClock S)) hh)) t i f → q ≤ cc.2.2.2.length → V (gg u) (d + 2) mm_Mo_minute 72 [some (.ref a), some (.int (nI P)), some (.int (nI k)), some (.int (nI c)), some (.int (nI q)), none] [] A Φ := by
  have w1 := K.wf.2.1
  have w2 := K.wf.2.2.1
  have w3 := K.wf.2.2.2.1
  have w4 := K.wf.2.2.2.2.1
  have hhl := (List.getElem?_eq_some_iff.mp hn).1
  have hcl := (List.getElem?_eq_some_iff.mp hc).1
  have h108 := (K.wc c cc hc).2.2.1
  refine up_ind cc.2.2.2.length ?_
  intro q ih i f A hM R hq9
  have hfo := lis_hs K hn hc q
  have K2 : SOK (setHs S k ((cc.2.2.2.take q).foldl (lisS S (sClock S)) hh)) := K.hs hfo.1 hfo.2
  have hn2 := getHs (S := S) (c := ((cc.2.2.2.take q).foldl (lisS S (sClock S)) hh)) hhl
  refine v_iload_n (dk cd_Mo_minute 45 rfl) rfl ?_
  refine v_if_lt (tgt := 150) (dk cd_Mo_minute 46 rfl) rfl (fun q73 => ?_) (fun q73 => ?_)
  · exact absurd q73 (nI_pos (by omega))
  · refine v_iload (dk cd_Mo_minute 47 rfl) rfl ?_
    refine v_aload_n (dk cd_Mo_minute 48 rfl) rfl ?_
    refine v_getf (dk cd_Mo_minute 49 rfl) fg_Mo_32_Mo hM.2.2.1 (by rfl) ?_
    refine v_iload_n (dk cd_Mo_minute 50 rfl) rfl ?_
    refine v_mldE (j := 7) (dk cd_Mo_minute 51 rfl) hM (by decide) (by decide) (show _ < 8 by omega) (by decide) (R.ce c cc hc).2.2.2.2.1 ?_
    refine v_icmp_geN (tgt := 150) (dk cd_Mo_minute 52 rfl) rfl (by omega) (by omega) (fun q84 => ?_) (fun q84 => ?_)
    · have q84 : cc.2.2.2.length ≤ q := q84
      have hke : q = cc.2.2.2.length := by omega
      subst hke
      rw [List.take_length] at R
      exact V.drop 3 (V.drop 4 (kont hM R))
    · have q84 : q < cc.2.2.2.length := q84
      have hst := foldl_snoc (g := lisS S (sClock S)) (b := hh) (z := (0, 0, 0)) q84
      have hpg := (R.ce c cc hc).2.2.2.2.2 q q84
      obtain ⟨hv, hvl⟩ := (K.wc c cc hc).2.2.2 _ (getD_inP q84)
      have hvn := (K.cx c cc hc).2 _ (getD_inP q84)
      refine v_aload_n (dk cd_Mo_minute 53 rfl) rfl ?_
      refine v_getf (dk cd_Mo_minute 54 rfl) fg_Mo_110_Mo hM.2.2.1 (by rfl) ?_
      refine v_iload_n (dk cd_Mo_minute 55 rfl) rfl ?_
      refine v_mldE (j := 33) (dk cd_Mo_minute 56 rfl) hM (by decide) (by decide) (show _ < 3 by omega) (by decide) (R.hs k _ hn2).2.2.2.2.1 ?_
      refine v_if_le (tgt := 109) (dk cd_Mo_minute 57 rfl) rfl (fun q93 => ?_) (fun q93 => ?_)
      · refine v_bipush (v := nI 108) (dk cd_Mo_minute 67 rfl) (by decide) ?_
        refine v_iload_n (dk cd_Mo_minute 68 rfl) rfl ?_
        refine v_imulN (dk cd_Mo_minute 69 rfl) ?_
        refine v_iload (dk cd_Mo_minute 70 rfl) rfl ?_
        refine v_iaddN (dk cd_Mo_minute 71 rfl) ?_
        refine v_istore (dk cd_Mo_minute 72 rfl) (by decide) rfl ?_
        refine v_aload_n (dk cd_Mo_minute 73 rfl) rfl ?_
        refine v_iload_n (dk cd_Mo_minute 74 rfl) rfl ?_
        refine v_aload_n (dk cd_Mo_minute 75 rfl) rfl ?_
        refine v_getf (dk cd_Mo_minute 76 rfl) fg_Mo_35_Mo hM.2.2.1 (by rfl) ?_
        refine v_iload (dk cd_Mo_minute 77 rfl) rfl ?_
        refine v_mldE (j := 8) (dk cd_Mo_minute 78 rfl) hM (by decide) (by decide) (show _ < 864 by omega) (by decide) hpg.1 ?_
        refine v_aload_n (dk cd_Mo_minute 79 rfl) rfl ?_
        refine v_getf (dk cd_Mo_minute 80 rfl) fg_Mo_38_Mo hM.2.2.1 (by rfl) ?_
        refine v_iload (dk cd_Mo_minute 81 rfl) rfl ?_
        refine v_mldE (j := 9) (dk cd_Mo_minute 82 rfl) hM (by decide) (by decide) (show _ < 864 by omega) (by decide) hpg.2.1 ?_
        refine v_aload_n (dk cd_Mo_minute 83 rfl) rfl ?_
        refine v_getf (dk cd_Mo_minute 84 rfl) fg_Mo_41_Mo hM.2.2.1 (by rfl) ?_
        refine v_iload (dk cd_Mo_minute 85 rfl) rfl ?_
        refine v_mldE (j := 10) (dk cd_Mo_minute 86 rfl) hM (by decide) (by decide) (show _ < 864 by omega) (by decide) hpg.2.2 ?_
        refine v_callv (r := ("AreaWarningsModel", TT_Mo, 49)) (dk cd_Mo_minute 87 rfl) cv_Mo_251 rfl hM.2.2.1 (as := [_, _, _, _]) rfl rfl (Nat.le_of_ble_eq_true rfl) (by simp [Value.category]) (Mo_hear_ok hM R K2 hn2 hv (fun hq => ⟨hvl hq, hvn.2 hq⟩)) pR_no (fun v9 A9 hq => ?_)
        obtain ⟨e9, i1, f1, hM, R⟩ := hq
        cases e9
        rw [setHs2] at R
        refine v_iincN (dk cd_Mo_minute 88 rfl) rfl (by decide) rfl ?_
        refine v_goto (tgt := 72) (dk cd_Mo_minute 89 rfl) rfl ?_
        refine V.drop 5 (ih q84 hM ?_ (by omega))
        rw [hst]
        rw [lisS_hear q93]
        exact R
      · refine v_aload_n (dk cd_Mo_minute 58 rfl) rfl ?_
        refine v_getf (dk cd_Mo_minute 59 rfl) fg_Mo_110_Mo hM.2.2.1 (by rfl) ?_
        refine v_iload_n (dk cd_Mo_minute 60 rfl) rfl ?_
        refine v_dup2 (dk cd_Mo_minute 61 rfl) rfl rfl ?_
        refine v_mldE (j := 33) (dk cd_Mo_minute 62 rfl) hM (by decide) (by decide) (show _ < 3 by omega) (by decide) (R.hs k _ hn2).2.2.2.2.1 ?_
        refine v_iconst (v := 1) (dk cd_Mo_minute 63 rfl) (by decide) ?_
        refine v_isub (dk cd_Mo_minute 64 rfl) ?_
        refine v_mst (j := 33) (dk cd_Mo_minute 65 rfl) hM (by decide) (by decide) (show _ < 3 by omega) (by decide) (fun A hM => ?_)
        refine v_goto (tgt := 144) (dk cd_Mo_minute 66 rfl) rfl ?_
        refine v_iincN (dk cd_Mo_minute 88 rfl) rfl (by decide) rfl ?_
        refine v_goto (tgt := 72) (dk cd_Mo_minute 89 rfl) rfl ?_
        refine V.drop 5 (ih q84 hM ?_ (by omega))
        rw [hst]
        rw [lisS_miss q93]
        have R2 := R.miss (c := ((cc.2.2.2.take q).foldl (lisS S (sClock S)) hh).1.2.2.1 - 1) K2.lok hn2
        rw [setHs2] at R2
        exact R2
set_option maxRecDepth 100000 in
set_option maxHeartbeats 4000000 in
theorem Mo_minute_54 {P : Nat} (K : SOK S) : ∀ k, ∀ {i : Nat → Int32} {f : Nat → Nat → Int32} {A : AH}, MH B a i f A → Rel (minH S k) t i f → k ≤ (sHs S).length → V (gg u) (d + 2) mm_Mo_minute 54 [some (.ref a), some (.int (nI P)), some (.int (nI k)), none, none, none] [] A (PR (some (.int (nI P))) B a (minH S (sHs S).length) t) := by
  have w1 := K.wf.2.1
  have w2 := K.wf.2.2.1
  have w3 := K.wf.2.2.2.1
  have w4 := K.wf.2.2.2.2.1
  refine up_ind (sHs S).length ?_
  intro k ih i f A hM R hk9
  have hl4 : (sHs (minH S k)).length = (sHs S).length := hsTo_len S k
  refine v_iload_n (dk cd_Mo_minute 34 rfl) rfl ?_
  refine v_aload_n (dk cd_Mo_minute 35 rfl) rfl ?_
  refine v_mgi (n := 6) (dk cd_Mo_minute 36 rfl) fg_Mo_248_Mo hM rfl R.nh ?_
  refine v_icmp_geN (tgt := 156) (dk cd_Mo_minute 37 rfl) rfl (by omega) (by omega) (fun q59 => ?_) (fun q59 => ?_)
  · have q59 : (hsTo S k).length ≤ k := q59
    rw [hsTo_len] at q59
    have hke : k = (sHs S).length := by omega
    refine v_iload_n (dk cd_Mo_minute 92 rfl) rfl ?_
    exact v_iret (dk cd_Mo_minute 93 rfl) rfl ⟨rfl, _, _, hM, by rw [← hke]; exact R⟩
  · have q59 : k < (sHs S).length := by have q59 : k < (hsTo S k).length := q59; rw [hsTo_len] at q59; exact q59
    have hn0 := List.getElem?_eq_getElem q59
    have hn : (sHs (minH S k))[k]? = some (sHs S)[k] := by show (hsTo S k)[k]? = _; rw [hsTo_ge S k k (Nat.le_refl _)]; exact hn0
    have hx := (K.hx k _ hn0).2.2.2
    have hto := setHs_to hn0
    refine v_aload_n (dk cd_Mo_minute 38 rfl) rfl ?_
    refine v_getf (dk cd_Mo_minute 39 rfl) fg_Mo_107_Mo hM.2.2.1 (by rfl) ?_
    refine v_iload_n (dk cd_Mo_minute 40 rfl) rfl ?_
    refine v_mldE (j := 32) (dk cd_Mo_minute 41 rfl) hM (by decide) (by decide) (show _ < 3 by omega) (by decide) (R.hs k _ hn).2.2.2.1 ?_
    refine v_istore_n (dk cd_Mo_minute 42 rfl) (by decide) rfl ?_
    refine v_iconst (v := nI 0) (dk cd_Mo_minute 43 rfl) (by decide) ?_
    refine v_istore (dk cd_Mo_minute 44 rfl) (by decide) rfl ?_
    rcases hx with hx | hx
    · have hno : ¬ pIx (sHs S)[k].1.2.1 (sCells S).length = true := by rw [hx]; unfold pIx; rw [decide_eq_true (by decide)]; simp
      rw [hx]
      refine v_iload_n (dk cd_Mo_minute 45 rfl) rfl ?_
      refine v_if_lt (tgt := 150) (dk cd_Mo_minute 46 rfl) rfl (fun _ => ?_) (fun q => absurd (by decide) q)
      refine V.drop 3 (V.drop 4 ?_)
      have R : Rel (setHs (minH S k) k (sHs S)[k]) t i f := by rw [setHs_id hn]; exact R
      refine v_iincN (dk cd_Mo_minute 90 rfl) rfl (by decide) rfl ?_
      refine v_goto (tgt := 54) (dk cd_Mo_minute 91 rfl) rfl ?_
      exact ih q59 hM (by rw [← hto]; unfold hMin; rw [if_neg hno]; exact R) (by omega)
    · obtain ⟨c, hc1, hc2, hc⟩ := cAt_get K hx
      have h9 := Mo_minute_72 (u := u) (Φ := PR (some (.int (nI P))) B a (minH S (sHs S).length) t) (d := d) (S := minH S k) (P := P) (t := t) (B := B) (a := a) (K.kminH k) hn hc (fun {i f A} hM R => ?_) 0 hM (by rw [List.take_zero, List.foldl_nil, setHs_id hn]; exact R) (Nat.zero_le _)
      · rw [hc2]; exact h9
      · refine v_iincN (dk cd_Mo_minute 90 rfl) rfl (by decide) rfl ?_
        refine v_goto (tgt := 54) (dk cd_Mo_minute 91 rfl) rfl ?_
        exact ih q59 hM (by rw [← hto]; unfold hMin; rw [if_pos hx]; exact R) (by omega)
set_option maxRecDepth 100000 in
set_option maxHeartbeats 4000000 in
theorem Mo_minute_19 (K : SOK S) : ∀ k, ∀ {i : Nat → Int32} {f : Nat → Nat → Int32} {A : AH}, MH B a i f A → Rel (minTo S k) t i f → k ≤ (sCells S).length → V (gg u) (d + 4) mm_Mo_minute 19 [some (.ref a), some (.int (nI (pgSum S k))), some (.int (nI k)), none, none, none] [] A (PR (some (.int (nI (pgSum S (sCells S).length)))) B a (minH (minTo S (sCells S).length) (sHs S).length) t) := by
  have w1 := K.wf.2.1
  have w2 := K.wf.2.2.1
  have w3 := K.wf.2.2.2.1
  have w4 := K.wf.2.2.2.2.1
  refine up_ind (sCells S).length ?_
  intro k ih i f A hM R hk9
  have hl2 : (sCells (minTo S k)).length = (sCells S).length := cellsTo_len S k
  refine v_iload_n (dk cd_Mo_minute 13 rfl) rfl ?_
  refine v_aload_n (dk cd_Mo_minute 14 rfl) rfl ?_
  refine v_mgi (n := 2) (dk cd_Mo_minute 15 rfl) fg_Mo_145_Mo hM rfl R.nc ?_
  refine v_icmp_geN (tgt := 52) (dk cd_Mo_minute 16 rfl) rfl (by omega) (by omega) (fun q24 => ?_) (fun q24 => ?_)
  · refine v_iconst (v := nI 0) (dk cd_Mo_minute 32 rfl) (by decide) ?_
    refine v_istore_n (dk cd_Mo_minute 33 rfl) (by decide) rfl ?_
    have q24 : (cellsTo S k).length ≤ k := q24
    rw [cellsTo_len] at q24
    have hke : k = (sCells S).length := by omega
    subst hke
    have h9 := Mo_minute_54 (u := u) (d := d + 2) (P := pgSum S (sCells S).length) (B := B) (a := a) (t := t) (K.kminTo (sCells S).length) 0 hM R (Nat.zero_le _)
    exact h9
  · have q24 : k < (sCells S).length := by have q24 : k < (cellsTo S k).length := q24; rw [cellsTo_len] at q24; exact q24
    have hc0 := List.getElem?_eq_getElem q24
    have hc : (sCells (minTo S k))[k]? = some (sCells S)[k] := by show (cellsTo S k)[k]? = _; rw [cellsTo_ge S k k (Nat.le_refl _)]; exact hc0
    have hkl : k < (sCells (minTo S k)).length := by show k < (cellsTo S k).length; rw [cellsTo_len]; exact q24
    have hcm := cMid_co (K.kminTo k) hc
    have K2 : SOK (setCe (minTo S k) k (cMid (minTo S k) k (sCells S)[k])) := (K.kminTo k).ce hc hcm.2.2 hcm.1 hcm.2.1
    have hc2 := getCe (c := cMid (minTo S k) k (sCells S)[k]) hkl
    have hc3 := getCe (S := minTo S k) (c := cPg (cMid (minTo S k) k (sCells S)[k]) (pSev (minTo S k) (sClock S) (cMid (minTo S k) k (sCells S)[k]).2.2.1 5)) hkl
    have hto : setCe (minTo S k) k (cPg (cMid (minTo S k) k (sCells S)[k]) (pSev (minTo S k) (sClock S) (cMid (minTo S k) k (sCells S)[k]).2.2.1 5)) = minTo S (k + 1) := by
      show _ = (S.1, (cellsTo S k).set k (cMin S k ((sCells S).getD k cD)), S.2.2)
      rw [show (sCells S).getD k cD = (sCells S)[k] by rw [List.getD_eq_getElem?_getD, hc0]; rfl]
      rfl
    have hsum : pgSum S (k + 1) = pgSum S k + (pSev (minTo S k) (sClock S) (cMid (minTo S k) k (sCells S)[k]).2.2.1 5).length := by
      show pgSum S k + (cMin S k ((sCells S).getD k cD)).2.2.2.length = _
      rw [show (sCells S).getD k cD = (sCells S)[k] by rw [List.getD_eq_getElem?_getD, hc0]; rfl]
      rfl
    refine v_aload_n (dk cd_Mo_minute 17 rfl) rfl ?_
    refine v_iload_n (dk cd_Mo_minute 18 rfl) rfl ?_
    refine v_callv (r := ("AreaWarningsModel", TT_Mo, 49)) (dk cd_Mo_minute 19 rfl) cv_Mo_241 rfl hM.2.2.1 (as := [_]) rfl rfl (Nat.le_of_ble_eq_true rfl) (by simp [Value.category]) (Mo_relist_ok hM R (K.kminTo k) hc) pR_no (fun v9 A9 hq => ?_)
    obtain ⟨e9, i1, f1, hM, R⟩ := hq
    cases e9
    refine v_aload_n (dk cd_Mo_minute 20 rfl) rfl ?_
    refine v_iload_n (dk cd_Mo_minute 21 rfl) rfl ?_
    refine v_callv (r := ("AreaWarningsModel", TT_Mo, 49)) (dk cd_Mo_minute 22 rfl) cv_Mo_245 rfl hM.2.2.1 (as := [_]) rfl rfl (Nat.le_of_ble_eq_true rfl) (by simp [Value.category]) (Mo_sendAll_ok hM R K2 hc2) pR_no (fun v9 A9 hq => ?_)
    obtain ⟨e9, i2, f2, hM, R⟩ := hq
    cases e9
    rw [setCe2] at R
    refine v_iload_n (dk cd_Mo_minute 23 rfl) rfl ?_
    refine v_aload_n (dk cd_Mo_minute 24 rfl) rfl ?_
    refine v_getf (dk cd_Mo_minute 25 rfl) fg_Mo_32_Mo hM.2.2.1 (by rfl) ?_
    refine v_iload_n (dk cd_Mo_minute 26 rfl) rfl ?_
    refine v_mldE (j := 7) (dk cd_Mo_minute 27 rfl) hM (by decide) (by decide) (show _ < 8 by omega) (by decide) (R.ce k _ hc3).2.2.2.2.1 ?_
    refine v_iaddN (dk cd_Mo_minute 28 rfl) ?_
    refine v_istore_n (dk cd_Mo_minute 29 rfl) (by decide) rfl ?_
    refine v_iincN (dk cd_Mo_minute 30 rfl) rfl (by decide) rfl ?_
    refine v_goto (tgt := 19) (dk cd_Mo_minute 31 rfl) rfl ?_
    have R : Rel (minTo S (k + 1)) t i2 f2 := by rw [← hto]; exact R
    have h9 := ih q24 hM R (by omega)
    rw [hsum] at h9
    exact h9
set_option maxRecDepth 100000 in
set_option maxHeartbeats 4000000 in
theorem Mo_minute_ok (hM : MH B a i f A) (R : Rel S t i f) (K : SOK S) : V (gg u) (d + 4) mm_Mo_minute 0 [some (.ref a), none, none, none, none, none] [] A (PM (xc []) B a (spMinute S)) := by
  have w1 := K.wf.2.1
  have w2 := K.wf.2.2.1
  have w3 := K.wf.2.2.2.1
  have w4 := K.wf.2.2.2.2.1
  refine v_aload_n (dk cd_Mo_minute 0 rfl) rfl ?_
  refine v_iconst (v := nI 0) (dk cd_Mo_minute 1 rfl) (by decide) ?_
  refine v_mput (k := 0) (n := 0) (dk cd_Mo_minute 2 rfl) fp_Mo_137_Mo (fun h => by cases h) hM (by decide) (fun A hM => ?_)
  refine v_aload_n (dk cd_Mo_minute 3 rfl) rfl ?_
  refine v_dup (dk cd_Mo_minute 4 rfl) rfl ?_
  refine v_mgi (n := 1) (dk cd_Mo_minute 5 rfl) fg_Mo_187_Mo hM rfl R.ck ?_
  refine v_iconst (v := 1) (dk cd_Mo_minute 6 rfl) (by decide) ?_
  refine v_iadd (dk cd_Mo_minute 7 rfl) ?_
  refine v_mput (k := 1) (n := 1) (dk cd_Mo_minute 8 rfl) fp_Mo_187_Mo (fun h => by cases h) hM (by decide) (fun A hM => ?_)
  refine v_iconst (v := nI 0) (dk cd_Mo_minute 9 rfl) (by decide) ?_
  refine v_istore_n (dk cd_Mo_minute 10 rfl) (by decide) rfl ?_
  refine v_iconst (v := nI 0) (dk cd_Mo_minute 11 rfl) (by decide) ?_
  refine v_istore_n (dk cd_Mo_minute 12 rfl) (by decide) rfl ?_
  refine (Mo_minute_19 (S := setCk S (sClock S + 1)) K.ck 0 hM ((R.thr (nI 0)).ck' (sClock S + 1)) (Nat.zero_le _)).mono ?_
  rintro r A' ⟨rfl, i1, f1, hM1, R1⟩
  exact pmV hM1 R1 rfl rfl
end MV
