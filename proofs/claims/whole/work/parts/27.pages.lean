/-! all pages of a cell, by severity -/
def vSev (S : SS) (v : Nat) : Int32 := (vAt S v).2.1.2.1
def sPg (S : SS) (clk : Int32) (s : Nat) (l : List Nat) : List (Nat × Int32 × Int32) := l.flatMap fun v => if vSev S v = nI s then vPages S v clk else []
def pSev (S : SS) (clk : Int32) (l : List Nat) : Nat → List (Nat × Int32 × Int32)
  | 0 => []
  | n + 1 => pSev S clk l n ++ sPg S clk (5 - n) l
def cS (S : SS) (l : List Nat) : Nat → Nat
  | 0 => 0
  | n + 1 => cS S l n + l.countP fun v => decide (vSev S v = nI (5 - n))
def cOne (x : Int32) : Nat → Nat
  | 0 => 0
  | n + 1 => cOne x n + if x = nI (5 - n) then 1 else 0
theorem cOne_no {x : Int32} {n : Nat} (h : ∀ j, j < n → ¬ x = nI (5 - j)) : cOne x n = 0 := by
  induction n with
  | zero => rfl
  | succ n ih =>
    simp only [cOne]
    rw [ih (fun j hj => h j (by omega)), if_neg (h n (by omega))]
theorem cOne_le {x : Int32} {n : Nat} (hn : n ≤ 5) : cOne x n ≤ 1 := by
  induction n with
  | zero => simp [cOne]
  | succ n ih =>
    simp only [cOne]
    by_cases hx : x = nI (5 - n)
    · rw [if_pos hx, cOne_no]
      · omega
      · intro j hj e
        rw [hx, nI_eq (by omega) (by omega)] at e
        omega
    · rw [if_neg hx]; exact ih (by omega)
theorem cS_cons (S : SS) (v : Nat) (r : List Nat) (n : Nat) : cS S (v :: r) n = cS S r n + cOne (vSev S v) n := by
  induction n with
  | zero => rfl
  | succ n ih =>
    simp only [cS, cOne, ih, List.countP_cons]
    split <;> simp_all <;> omega
theorem cS_le {S : SS} {n : Nat} (l : List Nat) (hn : n ≤ 5) : cS S l n ≤ l.length := by
  induction l with
  | nil =>
    clear hn
    induction n with
    | zero => simp [cS]
    | succ n ih => simpa [cS] using ih
  | cons v r ih =>
    rw [cS_cons, List.length_cons]
    have := cOne_le (x := vSev S v) hn
    omega
theorem cnt_take {l : List Nat} {k : Nat} {f : Nat → Bool} (hk : k < l.length) (h : f l[k] = true) : (l.take k).countP f + 1 ≤ l.countP f := by
  have e : l = l.take k ++ l[k] :: l.drop (k + 1) := by rw [← List.drop_eq_getElem_cons hk, List.take_append_drop]
  have e2 : l.countP f = (l.take k ++ l[k] :: l.drop (k + 1)).countP f := by rw [← e]
  rw [e2, List.countP_append, List.countP_cons_of_pos h]
  omega
theorem vPages_len {S : SS} {v : Nat} {clk : Int32} (WV : WfV S) (hv : v < (sVers S).length) : (vPages S v clk).length ≤ 9 := by
  have hve := List.getElem?_eq_getElem hv
  have hva := vAt_of hve
  unfold vPages
  rw [hva]
  cases hs : (sVers S)[v].2.2 with
  | none => simp
  | some s =>
    simp only
    split
    · have := txTo_len (v := v) (WV _ _ _ hve hs).2.2.1 3
      omega
    · simp
theorem sPg_len {S : SS} {clk : Int32} {s : Nat} {l : List Nat} (WV : WfV S) (hb : ∀ v ∈ l, v < (sVers S).length) : (sPg S clk s l).length ≤ 9 * l.countP fun v => decide (vSev S v = nI s) := by
  induction l with
  | nil => simp [sPg]
  | cons v r ih =>
    have h1 := ih (fun x hx => hb x (List.mem_cons_of_mem _ hx))
    have h2 := vPages_len (clk := clk) WV (hb v List.mem_cons_self)
    unfold sPg at h1 ⊢
    rw [List.flatMap_cons, List.length_append, List.countP_cons]
    split <;> simp_all <;> omega
theorem pSev_len {S : SS} {clk : Int32} {l : List Nat} (WV : WfV S) (hb : ∀ v ∈ l, v < (sVers S).length) (n : Nat) : (pSev S clk l n).length ≤ 9 * cS S l n := by
  induction n with
  | zero => simp [pSev]
  | succ n ih =>
    have h1 := sPg_len (clk := clk) (s := 5 - n) WV hb
    simp only [pSev, cS, List.length_append]
    omega
theorem sPg_snoc (S : SS) (clk : Int32) (s : Nat) (l : List Nat) (v : Nat) : sPg S clk s (l ++ [v]) = sPg S clk s l ++ (if vSev S v = nI s then vPages S v clk else []) := by
  simp [sPg, List.flatMap_append]
section PA
variable {u : Ux} {d : Nat} {A : AH} {F : Nat → Option AC} {S : SS} {ad : Nat → Nat → Nat}
theorem Inv.zeroPg {x : AC} {i : Nat} {c : CeS} (I : Inv F S ad A) (hc : (sCells S)[i]? = some c) (hx : CCell (cPg c []) ad i 14 x) : Inv F (setCe S i (cPg c [])) ad (aset A (ad 14 i) x) := by
  have hi := (List.getElem?_eq_some_iff.mp hc).1
  refine I.updCell hi rfl (fun q hq => aset_ne _ _ (hq 14 (by omega) (by omega))) (fun κ h1 h2 => ?_)
  by_cases k14 : κ = 14
  · subst k14
    exact ⟨x, aset_same _ _ _, hx⟩
  obtain ⟨y, h3, h4⟩ := I.cell h1 h2 hc
  refine ⟨y, (aset_ne _ _ (I.ne (LV_cell h1 h2 hi) (LV_cell (by omega) (by omega) hi) (Or.inl k14))).trans h3, ?_⟩
  have hk : κ = 15 ∨ κ = 16 ∨ κ = 17 ∨ κ = 18 ∨ κ = 19 := by omega
  rcases hk with rfl | rfl | rfl | rfl | rfl
  · exact h4
  · exact h4
  · exact ArG.less h4
  · exact ArG.less h4
  · exact ArG.less h4
set_option maxRecDepth 100000 in
set_option maxHeartbeats 4000000 in
theorem Ce_sendPages_in {i : Nat} {c : CeS} {clk : Int32} {A0 : AH} (hi : i < (sCells S).length) (h40 : (sVers S).length ≤ 40) (WV : WfV S) (hb : ∀ v ∈ c.2.2.1, v < (sVers S).length) (h12 : c.2.2.1.length ≤ 12) {s : Nat} (hs : 1 ≤ s ∧ s ≤ 5) (kont : ∀ A : AH, Inv F (setCe S i (cPg c (pSev S clk c.2.2.1 (5 - s) ++ sPg S clk s c.2.2.1))) ad A ∧ A.2 = A0.2 → V (gg u) (d + 3) mm_Ce_sendPages 52 [some (.ref (ad 14 i)), some (.int clk), some (.int (nI s)), none] [] A (Ps none F (setCe S i (cPg c (pSev S clk c.2.2.1 5))) ad A0)) : ∀ k, ∀ A : AH, k ≤ c.2.2.1.length ∧ Inv F (setCe S i (cPg c (pSev S clk c.2.2.1 (5 - s) ++ sPg S clk s (c.2.2.1.take k)))) ad A ∧ A.2 = A0.2 → V (gg u) (d + 3) mm_Ce_sendPages 14 [some (.ref (ad 14 i)), some (.int clk), some (.int (nI s)), some (.int (nI k))] [] A (Ps none F (setCe S i (cPg c (pSev S clk c.2.2.1 5))) ad A0) := by
  refine up_ind c.2.2.1.length ?_
  intro k ih A ⟨hk, I, hA⟩
  have hcc := getCe (c := cPg c (pSev S clk c.2.2.1 (5 - s) ++ sPg S clk s (c.2.2.1.take k))) hi
  have h14 := I.cob hcc
  obtain ⟨gl, hgl, hll⟩ := I.lst hcc
  refine v_iload_n (dk cd_Ce_sendPages 10 rfl) rfl ?_
  refine v_aload_n (dk cd_Ce_sendPages 11 rfl) rfl ?_
  refine v_getf (dk cd_Ce_sendPages 12 rfl) fg_Ce_34_Ce (by assumption) (by rfl) ?_
  refine v_icmp_geN (tgt := 52) (dk cd_Ce_sendPages 13 rfl) rfl (by omega) (by omega) (fun q19 => ?_) (fun q19 => ?_)
  · have q19 : c.2.2.1.length ≤ k := q19
    have hke : k = c.2.2.1.length := by omega
    subst hke
    rw [List.take_length] at I
    exact V.drop 3 (kont A ⟨I, hA⟩)
  · have q19 : k < c.2.2.1.length := q19
    have hvn := hb _ (List.getElem_mem q19)
    have hve := List.getElem?_eq_getElem hvn
    have hva := vAt_of hve
    obtain ⟨vl, hv⟩ := I.verV (S := setCe S i (cPg c (pSev S clk c.2.2.1 (5 - s) ++ sPg S clk s (c.2.2.1.take k)))) hve
    have hsv : vSev S c.2.2.1[k] = (sVers S)[c.2.2.1[k]].2.1.2.1 := by unfold vSev; rw [hva]
    have htk : c.2.2.1.take (k + 1) = c.2.2.1.take k ++ [c.2.2.1[k]] := by rw [List.take_add_one, List.getElem?_eq_getElem q19]; rfl
    refine v_aload_n (dk cd_Ce_sendPages 14 rfl) rfl ?_
    refine v_getf (dk cd_Ce_sendPages 15 rfl) fg_Ce_30_Ce (by assumption) (by rfl) ?_
    refine v_iload_n (dk cd_Ce_sendPages 16 rfl) rfl ?_
    refine v_aaldN (j := 7) (dk cd_Ce_sendPages 17 rfl) (by assumption) (by decide) rfl rfl (by omega) (map_app q19) ?_
    refine v_getf (dk cd_Ce_sendPages 18 rfl) (fgV fg_Ce_80_Sp fg_Ce_80_Ca _) (by assumption) (by rfl) ?_
    refine v_iload_n (dk cd_Ce_sendPages 19 rfl) rfl ?_
    refine v_icmp_ne (tgt := 46) (dk cd_Ce_sendPages 20 rfl) rfl (fun q32 => ?_) (fun q32 => ?_)
    · refine v_iincN (dk cd_Ce_sendPages 28 rfl) rfl (by decide) rfl ?_
      refine v_goto (tgt := 14) (dk cd_Ce_sendPages 29 rfl) rfl ?_
      exact ih q19 A ⟨by omega, by rw [htk, sPg_snoc, if_neg (by rw [hsv]; exact q32), List.append_nil]; exact I, hA⟩
    · have hbd : (pSev S clk c.2.2.1 (5 - s) ++ sPg S clk s (c.2.2.1.take k)).length + 9 ≤ 108 := by
        have b1 := pSev_len (clk := clk) WV hb (5 - s)
        have b2 := sPg_len (clk := clk) (s := s) (l := c.2.2.1.take k) WV (fun v hv => hb v (List.mem_of_mem_take hv))
        have b3 := cnt_take (f := fun v => decide (vSev S v = nI s)) q19 (by simpa [hsv] using q32)
        have b4 := cS_le (S := S) (n := 5 - s + 1) c.2.2.1 (by omega)
        simp only [cS] at b4
        rw [show 5 - (5 - s) = s by omega] at b4
        rw [List.length_append]
        omega
      refine v_aload_n (dk cd_Ce_sendPages 21 rfl) rfl ?_
      refine v_aload_n (dk cd_Ce_sendPages 22 rfl) rfl ?_
      refine v_getf (dk cd_Ce_sendPages 23 rfl) fg_Ce_30_Ce (by assumption) (by rfl) ?_
      refine v_iload_n (dk cd_Ce_sendPages 24 rfl) rfl ?_
      refine v_aaldN (j := 7) (dk cd_Ce_sendPages 25 rfl) (by assumption) (by decide) rfl rfl (by omega) (map_app q19) ?_
      refine v_iload_n (dk cd_Ce_sendPages 26 rfl) rfl ?_
      refine v_callv (r := ("AreaWarnings$Cell", TT_Ce, 12)) (dk cd_Ce_sendPages 27 rfl) cv_Ce_83 rfl (by assumption) (as := [_, _]) rfl rfl (Nat.le_of_ble_eq_true rfl) (by simp [Value.category]) (Ce_sendVersion_ok (S := setCe S i (cPg c (pSev S clk c.2.2.1 (5 - s) ++ sPg S clk s (c.2.2.1.take k)))) I hcc h40 WV hve hbd) ps_no (fun v9 A9 hq => ?_)
      obtain ⟨e9, I, hA2⟩ := hq
      cases e9
      rw [setCe2] at I
      refine v_iincN (dk cd_Ce_sendPages 28 rfl) rfl (by decide) rfl ?_
      refine v_goto (tgt := 14) (dk cd_Ce_sendPages 29 rfl) rfl ?_
      exact ih q19 _ ⟨by omega, by rw [htk, sPg_snoc, if_pos (by rw [hsv]; exact q32), ← List.append_assoc]; exact I, hA2.trans hA⟩
set_option maxRecDepth 100000 in
set_option maxHeartbeats 4000000 in
theorem Ce_sendPages_lp {i : Nat} {c : CeS} {clk : Int32} {A0 : AH} (hi : i < (sCells S).length) (h40 : (sVers S).length ≤ 40) (WV : WfV S) (hb : ∀ v ∈ c.2.2.1, v < (sVers S).length) (h12 : c.2.2.1.length ≤ 12) : ∀ s, ∀ A : AH, s ≤ 5 ∧ Inv F (setCe S i (cPg c (pSev S clk c.2.2.1 (5 - s)))) ad A ∧ A.2 = A0.2 → V (gg u) (d + 3) mm_Ce_sendPages 7 [some (.ref (ad 14 i)), some (.int clk), some (.int (nI s)), none] [] A (Ps none F (setCe S i (cPg c (pSev S clk c.2.2.1 5))) ad A0) := by
  intro s
  induction s with
  | zero =>
    intro A ⟨hs, I, hA⟩
    refine v_iload_n (dk cd_Ce_sendPages 5 rfl) rfl ?_
    refine v_iconst (v := nI 1) (dk cd_Ce_sendPages 6 rfl) (by decide) ?_
    refine v_icmp_ltN (tgt := 58) (dk cd_Ce_sendPages 7 rfl) rfl (by omega) (by omega) (fun q9 => ?_) (fun q9 => ?_)
    · exact v_vret (dk cd_Ce_sendPages 32 rfl) rfl (ps_of I hA rfl)
    · refine v_iconst (v := nI 0) (dk cd_Ce_sendPages 8 rfl) (by decide) ?_
      refine v_istore_n (dk cd_Ce_sendPages 9 rfl) (by decide) rfl ?_
      omega
  | succ s ih =>
    intro A ⟨hs, I, hA⟩
    refine v_iload_n (dk cd_Ce_sendPages 5 rfl) rfl ?_
    refine v_iconst (v := nI 1) (dk cd_Ce_sendPages 6 rfl) (by decide) ?_
    refine v_icmp_ltN (tgt := 58) (dk cd_Ce_sendPages 7 rfl) rfl (by omega) (by omega) (fun q9 => ?_) (fun q9 => ?_)
    · omega
    · refine v_iconst (v := nI 0) (dk cd_Ce_sendPages 8 rfl) (by decide) ?_
      refine v_istore_n (dk cd_Ce_sendPages 9 rfl) (by decide) rfl ?_
      refine Ce_sendPages_in hi h40 WV hb h12 (s := s + 1) ⟨by omega, hs⟩ (fun A1 ⟨I1, hA1⟩ => ?_) 0 A ⟨by omega, by simpa [sPg] using I, hA⟩
      refine v_iincM (dk cd_Ce_sendPages 30 rfl) rfl (by decide) rfl ?_
      refine v_goto (tgt := 7) (dk cd_Ce_sendPages 31 rfl) rfl ?_
      refine ih A1 ⟨by omega, ?_, hA1⟩
      rw [show 5 - s = 5 - (s + 1) + 1 by omega]
      simp only [pSev]
      rw [show 5 - (5 - (s + 1)) = s + 1 by omega]
      exact I1
set_option maxRecDepth 100000 in
set_option maxHeartbeats 4000000 in
theorem Ce_sendPages_ok {i : Nat} {c : CeS} {clk : Int32} (h40 : (sVers S).length ≤ 40) (WV : WfV S) (hb : ∀ v ∈ c.2.2.1, v < (sVers S).length) (h12 : c.2.2.1.length ≤ 12) (I : Inv F S ad A) (hc : (sCells S)[i]? = some c) : V (gg u) (d + 3) mm_Ce_sendPages 0 [some (.ref (ad 14 i)), some (.int clk), none, none] [] A (Ps none F (setCe S i (cPg c (pSev S clk c.2.2.1 5))) ad A) := by
  have hi := (List.getElem?_eq_some_iff.mp hc).1
  have h14 := I.cob hc
  refine v_aload_n (dk cd_Ce_sendPages 0 rfl) rfl ?_
  refine v_iconst (v := nI 0) (dk cd_Ce_sendPages 1 rfl) (by decide) ?_
  refine v_putf (dk cd_Ce_sendPages 2 rfl) fp_Ce_50_Ce (fun h => by cases h) (by assumption) rfl rfl ?_
  refine v_iconst (v := nI 5) (dk cd_Ce_sendPages 3 rfl) (by decide) ?_
  refine v_istore_n (dk cd_Ce_sendPages 4 rfl) (by decide) rfl ?_
  exact Ce_sendPages_lp hi h40 WV hb h12 5 _ ⟨by omega, I.zeroPg hc rfl, rfl⟩
end PA
