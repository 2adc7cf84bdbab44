/-! the model: hearing a page -/
theorem hr2_none {S : SS} {x : HaS} {v : Nat} {l n clk : Int32} (h : (vAt S v).2.2 = none) : hr2 S x v l n clk = x := by unfold hr2; rw [h]
theorem hr2_was {S : SS} {x : HaS} {v : Nat} {l n clk : Int32} {s : SpS} (h : (vAt S v).2.2 = some s) (hw : x.2.2.1.2.2.getD (vAt S v).1 false = true) : hr2 S x v l n clk = hAdd x (vAt S v).1 l n := by unfold hr2; rw [h]; exact if_pos hw
theorem hr2_new {S : SS} {x : HaS} {v : Nat} {l n clk : Int32} {s : SpS} (h : (vAt S v).2.2 = some s) (hw : ¬ x.2.2.1.2.2.getD (vAt S v).1 false = true) : hr2 S x v l n clk = shw S (hAdd x (vAt S v).1 l n) v (vAt S v).1 s clk := by unfold hr2; rw [h]; exact if_neg hw
section MU
variable {u : Ux} {d : Nat} {A B : AH} {a : Nat} {i : Nat → Int32} {f : Nat → Nat → Int32} {S : SS} {t x : Int32} {h v : Nat} {hh : HaS}
set_option maxRecDepth 100000 in
set_option maxHeartbeats 4000000 in
theorem Mo_hear_67 {l z : Int32} (hM : MH B a i f A) (R : Rel S t i f) (K : SOK S) (hn : (sHs S)[h]? = some hh) (hv : v < (sVers S).length) (hp : (vAt S v).2.2.isSome = true → (∃ k, k < 3 ∧ l = nI k) ∧ ∃ k, k < 3 ∧ z = nI k) (hd : hh.2.2.1.1.getD (vAt S v).1 none = some v) : V (gg u) (d + 1) mm_Mo_hear 67 [some (.ref a), some (.int (nI h)), some (.int (nI v)), some (.int l), some (.int z), some (.int (nI (12 * h + (vAt S v).1))), none, none, none] [] A (PR none B a (setHs S h (hr2 S hh v l z (sClock S))) t) := by
  have w1 := K.wf.2.1
  have w2 := K.wf.2.2.1
  have w3 := K.wf.2.2.2.1
  have w4 := K.wf.2.2.2.2.1
  have hhl := (List.getElem?_eq_some_iff.mp hn).1
  have hw : (vAt S v).1 < 12 := Nat.lt_of_lt_of_le (K.w12 hv) w1
  have hok := K.hk h hh hn
  refine v_aload_n (dk cd_Mo_hear 41 rfl) rfl ?_
  refine v_getf (dk cd_Mo_hear 42 rfl) fg_Mo_74_Mo hM.2.2.1 (by rfl) ?_
  refine v_iload_n (dk cd_Mo_hear 43 rfl) rfl ?_
  refine v_mldzE (j := 21) (dk cd_Mo_hear 44 rfl) hM (by decide) (by decide) (show _ < 40 by omega) (by decide) (R.ve v hv).2.2.2.2.1 ?_
  refine v_ifneB (tgt := 77) (dk cd_Mo_hear 45 rfl) rfl (fun q73 => ?_) (fun q73 => ?_)
  · obtain ⟨sp, hs⟩ := Option.isSome_iff_exists.mp q73
    obtain ⟨⟨lk, hl3, rfl⟩, nk, hn3, rfl⟩ := hp q73
    refine v_aload_n (dk cd_Mo_hear 47 rfl) rfl ?_
    refine v_getf (dk cd_Mo_hear 48 rfl) fg_Mo_119_Mo hM.2.2.1 (by rfl) ?_
    refine v_iload (dk cd_Mo_hear 49 rfl) rfl ?_
    refine v_aload_n (dk cd_Mo_hear 50 rfl) rfl ?_
    refine v_getf (dk cd_Mo_hear 51 rfl) fg_Mo_119_Mo hM.2.2.1 (by rfl) ?_
    refine v_iload (dk cd_Mo_hear 52 rfl) rfl ?_
    refine v_mldE (j := 36) (dk cd_Mo_hear 53 rfl) hM (by decide) (by decide) (show _ < 36 by omega) (by decide) ((R.hs h _ hn).2.2.2.2.2.2.1 _ hw).2 ?_
    refine v_iconst (v := 1) (dk cd_Mo_hear 54 rfl) (by decide) ?_
    refine v_iconst (v := nI 3) (dk cd_Mo_hear 55 rfl) (by decide) ?_
    refine v_iload_n (dk cd_Mo_hear 56 rfl) rfl ?_
    refine v_imulN (dk cd_Mo_hear 57 rfl) ?_
    refine v_iload (dk cd_Mo_hear 58 rfl) rfl ?_
    refine v_iaddN (dk cd_Mo_hear 59 rfl) ?_
    refine v_ishl (dk cd_Mo_hear 60 rfl) ?_
    refine v_ior (dk cd_Mo_hear 61 rfl) ?_
    refine v_mst (j := 36) (dk cd_Mo_hear 62 rfl) hM (by decide) (by decide) (show _ < 36 by omega) (by decide) (fun A hM => ?_)
    have R := R.hadd (l := nI lk) (m := nI nk) K.lok hn hw
    rw [bit_one hl3 hn3] at R
    have hn2 := getHs (S := S) (c := hAdd hh (vAt S v).1 (nI lk) (nI nk)) hhl
    have K2 : LOK (setHs S h (hAdd hh (vAt S v).1 (nI lk) (nI nk))) := K.lok.hs ⟨hok.1.1, hok.1.2.2.2.2.2.2.1, hok.1.2.2.1, by show (hh.2.2.1.2.1.set _ _).length = 12; rw [List.length_set]; exact hok.1.2.2.2.1⟩
    have hch := chs_lt (t := sp.2.1.2) hok.1.2.1
    have hpg := pgs_le3 ((K.vw hv sp hs).2 (chs hh.2.1 sp.2.1.2))
    have hwas := was_iff K hn hd
    obtain ⟨bk, hbk, hbe⟩ := (HsX.add (w := (vAt S v).1) (K.hx h hh hn).2 hl3 hn3).2.1 (vAt S v).1
    refine v_aload_n (dk cd_Mo_hear 63 rfl) rfl ?_
    refine v_iload_n (dk cd_Mo_hear 64 rfl) rfl ?_
    refine v_iload_n (dk cd_Mo_hear 65 rfl) rfl ?_
    refine v_rv (r := ("AreaWarningsModel", TT_Mo, 49)) (dk cd_Mo_hear 66 rfl) cv_Mo_238 rfl hM.2.2.1 (as := [_, _]) rfl rfl (Nat.le_of_ble_eq_true rfl) (by simp [Value.category]) (Mo_chosen_ok hM R K2 w3 hn2 hok.1.2.1 hv hs) ?_
    refine v_istore (dk cd_Mo_hear 67 rfl) (by decide) rfl ?_
    refine v_iconst (v := 1) (dk cd_Mo_hear 68 rfl) (by decide) ?_
    refine v_aload_n (dk cd_Mo_hear 69 rfl) rfl ?_
    refine v_iload_n (dk cd_Mo_hear 70 rfl) rfl ?_
    refine v_iload (dk cd_Mo_hear 71 rfl) rfl ?_
    refine v_rv (r := ("AreaWarningsModel", TT_Mo, 49)) (dk cd_Mo_hear 72 rfl) cv_Mo_234 rfl hM.2.2.1 (as := [_, _]) rfl rfl (Nat.le_of_ble_eq_true rfl) (by simp [Value.category]) (Mo_pagesOf_ok hM R K2 w3 hv hs hch) ?_
    refine v_ishl (dk cd_Mo_hear 73 rfl) ?_
    refine v_iconst (v := 1) (dk cd_Mo_hear 74 rfl) (by decide) ?_
    refine v_isub (dk cd_Mo_hear 75 rfl) ?_
    refine v_istore (dk cd_Mo_hear 76 rfl) (by decide) rfl ?_
    refine v_aload_n (dk cd_Mo_hear 77 rfl) rfl ?_
    refine v_getf (dk cd_Mo_hear 78 rfl) fg_Mo_122_Mo hM.2.2.1 (by rfl) ?_
    refine v_bipush (v := nI 40) (dk cd_Mo_hear 79 rfl) (by decide) ?_
    refine v_iload_n (dk cd_Mo_hear 80 rfl) rfl ?_
    refine v_imulN (dk cd_Mo_hear 81 rfl) ?_
    refine v_iload_n (dk cd_Mo_hear 82 rfl) rfl ?_
    refine v_iaddN (dk cd_Mo_hear 83 rfl) ?_
    refine v_mldzE (j := 37) (dk cd_Mo_hear 84 rfl) hM (by decide) (by decide) (show _ < 120 by omega) (by decide) ((R.hs h _ hn2).2.2.2.2.2.2.2.1 v (by omega)) ?_
    refine v_ifneB (tgt := 155) (dk cd_Mo_hear 85 rfl) rfl (fun q132 => ?_) (fun q132 => ?_)
    · exact v_vret (dk cd_Mo_hear 98 rfl) rfl ⟨rfl, _, _, hM, by rw [hr2_was hs (by rw [hwas]; exact q132)]; exact R⟩
    · refine v_aload_n (dk cd_Mo_hear 86 rfl) rfl ?_
      refine v_getf (dk cd_Mo_hear 87 rfl) fg_Mo_119_Mo hM.2.2.1 (by rfl) ?_
      refine v_iload (dk cd_Mo_hear 88 rfl) rfl ?_
      refine v_mldE (j := 36) (dk cd_Mo_hear 89 rfl) hM (by decide) (by decide) (show _ < 36 by omega) (by decide) ((R.hs h _ hn2).2.2.2.2.2.2.1 _ hw).2 ?_
      refine v_iconst (v := nI 3) (dk cd_Mo_hear 90 rfl) (by decide) ?_
      refine v_iload (dk cd_Mo_hear 91 rfl) rfl ?_
      refine v_imulN (dk cd_Mo_hear 92 rfl) ?_
      refine v_ishr (dk cd_Mo_hear 93 rfl) ?_
      refine v_iload (dk cd_Mo_hear 94 rfl) rfl ?_
      refine v_iand (dk cd_Mo_hear 95 rfl) ?_
      refine v_iload (dk cd_Mo_hear 96 rfl) rfl ?_
      refine v_icmp_eq (tgt := 156) (dk cd_Mo_hear 97 rfl) rfl (fun q152 => ?_) (fun q152 => ?_)
      · have q132 : decide (v ∈ hh.2.2.2.map (·.1)) = false := q132
        have hnew := hr2_new (l := nI lk) (n := nI nk) (clk := sClock S) hs (show ¬ hh.2.2.1.2.2.getD (vAt S v).1 false = true by rw [hwas, q132]; decide)
        have hroom := (hok.room w3 hv hd (by rw [hwas, q132])).2
        have hroom2 : (hAdd hh (vAt S v).1 (nI lk) (nI nk)).2.2.2.length < 40 := hroom
        have hfit : (hAdd hh (vAt S v).1 (nI lk) (nI nk)).2.2.1.2.1.getD (vAt S v).1 0 &&& hNeed (hAdd hh (vAt S v).1 (nI lk) (nI nk)) sp = hNeed (hAdd hh (vAt S v).1 (nI lk) (nI nk)) sp := by
          have q152 := q152
          rw [hbe] at q152 ⊢
          exact (bits_fit hbk hch hpg).mp q152
        refine v_aload_n (dk cd_Mo_hear 99 rfl) rfl ?_
        refine v_getf (dk cd_Mo_hear 100 rfl) fg_Mo_122_Mo hM.2.2.1 (by rfl) ?_
        refine v_bipush (v := nI 40) (dk cd_Mo_hear 101 rfl) (by decide) ?_
        refine v_iload_n (dk cd_Mo_hear 102 rfl) rfl ?_
        refine v_imulN (dk cd_Mo_hear 103 rfl) ?_
        refine v_iload_n (dk cd_Mo_hear 104 rfl) rfl ?_
        refine v_iaddN (dk cd_Mo_hear 105 rfl) ?_
        refine v_iconst (v := 1) (dk cd_Mo_hear 106 rfl) (by decide) ?_
        refine v_mstz (b := true) (j := 37) (dk cd_Mo_hear 107 rfl) hM (by decide) (by decide) (show _ < 120 by omega) (by decide) (fun A hM => ?_)
        refine v_bipush (v := nI 40) (dk cd_Mo_hear 108 rfl) (by decide) ?_
        refine v_iload_n (dk cd_Mo_hear 109 rfl) rfl ?_
        refine v_imulN (dk cd_Mo_hear 110 rfl) ?_
        refine v_aload_n (dk cd_Mo_hear 111 rfl) rfl ?_
        refine v_getf (dk cd_Mo_hear 112 rfl) fg_Mo_125_Mo hM.2.2.1 (by rfl) ?_
        refine v_iload_n (dk cd_Mo_hear 113 rfl) rfl ?_
        refine v_mldE (j := 38) (dk cd_Mo_hear 114 rfl) hM (by decide) (by decide) (show _ < 3 by omega) (by decide) (up2_thru (by omega) (R.hs h _ hn2).2.2.2.2.2.2.2.2.1) ?_
        refine v_iaddN (dk cd_Mo_hear 115 rfl) ?_
        refine v_istore (dk cd_Mo_hear 116 rfl) (by decide) rfl ?_
        refine v_aload_n (dk cd_Mo_hear 117 rfl) rfl ?_
        refine v_getf (dk cd_Mo_hear 118 rfl) fg_Mo_128_Mo hM.2.2.1 (by rfl) ?_
        refine v_iload (dk cd_Mo_hear 119 rfl) rfl ?_
        refine v_iload_n (dk cd_Mo_hear 120 rfl) rfl ?_
        refine v_mst (j := 39) (dk cd_Mo_hear 121 rfl) hM (by decide) (by decide) (show _ < 120 by omega) (by decide) (fun A hM => ?_)
        refine v_aload_n (dk cd_Mo_hear 122 rfl) rfl ?_
        refine v_getf (dk cd_Mo_hear 123 rfl) fg_Mo_131_Mo hM.2.2.1 (by rfl) ?_
        refine v_iload (dk cd_Mo_hear 124 rfl) rfl ?_
        refine v_iload (dk cd_Mo_hear 125 rfl) rfl ?_
        refine v_mst (j := 40) (dk cd_Mo_hear 126 rfl) hM (by decide) (by decide) (show _ < 120 by omega) (by decide) (fun A hM => ?_)
        refine v_aload_n (dk cd_Mo_hear 127 rfl) rfl ?_
        refine v_getf (dk cd_Mo_hear 128 rfl) fg_Mo_134_Mo hM.2.2.1 (by rfl) ?_
        refine v_iload (dk cd_Mo_hear 129 rfl) rfl ?_
        refine v_aload_n (dk cd_Mo_hear 130 rfl) rfl ?_
        refine v_mgi (n := 1) (dk cd_Mo_hear 131 rfl) fg_Mo_187_Mo hM rfl R.ck ?_
        refine v_mst (j := 41) (dk cd_Mo_hear 132 rfl) hM (by decide) (by decide) (show _ < 120 by omega) (by decide) (fun A hM => ?_)
        refine v_aload_n (dk cd_Mo_hear 133 rfl) rfl ?_
        refine v_getf (dk cd_Mo_hear 134 rfl) fg_Mo_125_Mo hM.2.2.1 (by rfl) ?_
        refine v_iload_n (dk cd_Mo_hear 135 rfl) rfl ?_
        refine v_dup2 (dk cd_Mo_hear 136 rfl) rfl rfl ?_
        refine v_mldE (j := 38) (dk cd_Mo_hear 137 rfl) hM (by decide) (by decide) (show _ < 3 by omega) (by decide) (up2_thru (by omega) (up2_thru (by omega) (up2_thru (by omega) (up2_thru (by omega) (R.hs h _ hn2).2.2.2.2.2.2.2.2.1)))) ?_
        refine v_iconst (v := nI 1) (dk cd_Mo_hear 138 rfl) (by decide) ?_
        refine v_iaddN (dk cd_Mo_hear 139 rfl) ?_
        refine v_mst (j := 38) (dk cd_Mo_hear 140 rfl) hM (by decide) (by decide) (show _ < 3 by omega) (by decide) (fun A hM => ?_)
        have R := R.hput (v := v) (w := (vAt S v).1) (s := sp) (clk := sClock S) K2 hn2 (by omega) hroom
        rw [setHs2] at R
        have hn3' := getHs (S := S) (c := hPut (hAdd hh (vAt S v).1 (nI lk) (nI nk)) v (vAt S v).1 sp (sClock S)) hhl
        have K3 : LOK (setHs S h (hPut (hAdd hh (vAt S v).1 (nI lk) (nI nk)) v (vAt S v).1 sp (sClock S))) := K.lok.hs ⟨hok.1.1, by show (hh.2.2.2 ++ [_]).length ≤ 40; rw [List.length_append, List.length_singleton]; omega, hok.1.2.2.1, by show (hh.2.2.1.2.1.set _ _).length = 12; rw [List.length_set]; exact hok.1.2.2.2.1⟩
        have hfin : hr2 S hh v (nI lk) (nI nk) (sClock S) = hAlm S (hPut (hAdd hh (vAt S v).1 (nI lk) (nI nk)) v (vAt S v).1 sp (sClock S)) v := by rw [hnew]; unfold shw; rw [if_pos hfit]
        refine v_aload_n (dk cd_Mo_hear 141 rfl) rfl ?_
        refine v_getf (dk cd_Mo_hear 142 rfl) fg_Mo_113_Mo hM.2.2.1 (by rfl) ?_
        refine v_iload_n (dk cd_Mo_hear 143 rfl) rfl ?_
        refine v_aload_n (dk cd_Mo_hear 144 rfl) rfl ?_
        refine v_getf (dk cd_Mo_hear 145 rfl) fg_Mo_68_Mo hM.2.2.1 (by rfl) ?_
        refine v_iload_n (dk cd_Mo_hear 146 rfl) rfl ?_
        refine v_mldE (j := 19) (dk cd_Mo_hear 147 rfl) hM (by decide) (by decide) (show _ < 40 by omega) (by decide) (R.ve v hv).2.2.1 ?_
        refine v_aload_n (dk cd_Mo_hear 148 rfl) rfl ?_
        refine v_getf (dk cd_Mo_hear 149 rfl) fg_Mo_98_Mo hM.2.2.1 (by rfl) ?_
        refine v_iload_n (dk cd_Mo_hear 150 rfl) rfl ?_
        refine v_mldE (j := 29) (dk cd_Mo_hear 151 rfl) hM (by decide) (by decide) (show _ < 3 by omega) (by decide) (R.hs h _ hn3').1 ?_
        refine v_icmp_lt (tgt := 250) (dk cd_Mo_hear 152 rfl) rfl (fun q236 => ?_) (fun q236 => ?_)
        · refine v_aload_n (dk cd_Mo_hear 160 rfl) rfl ?_
          refine v_getf (dk cd_Mo_hear 161 rfl) fg_Mo_113_Mo hM.2.2.1 (by rfl) ?_
          refine v_iload_n (dk cd_Mo_hear 162 rfl) rfl ?_
          refine v_mldE (j := 34) (dk cd_Mo_hear 163 rfl) hM (by decide) (by decide) (show _ < 3 by omega) (by decide) (R.hs h _ hn3').2.2.2.2.2.1 ?_
          refine v_mst (j := 34) (dk cd_Mo_hear 164 rfl) hM (by decide) (by decide) (show _ < 3 by omega) (by decide) (fun A hM => ?_)
          exact v_vret (dk cd_Mo_hear 165 rfl) rfl ⟨rfl, _, _, hM, by rw [hfin]; unfold hAlm; rw [if_pos (show vSev S v < _ from q236)]; have R4 := R.halm (c := (hPut (hAdd hh (vAt S v).1 (nI lk) (nI nk)) v (vAt S v).1 sp (sClock S)).1.2.2.2) K3 hn3'; rw [setHs2] at R4; exact R4⟩
        · refine v_aload_n (dk cd_Mo_hear 153 rfl) rfl ?_
          refine v_getf (dk cd_Mo_hear 154 rfl) fg_Mo_113_Mo hM.2.2.1 (by rfl) ?_
          refine v_iload_n (dk cd_Mo_hear 155 rfl) rfl ?_
          refine v_mldE (j := 34) (dk cd_Mo_hear 156 rfl) hM (by decide) (by decide) (show _ < 3 by omega) (by decide) (R.hs h _ hn3').2.2.2.2.2.1 ?_
          refine v_iconst (v := 1) (dk cd_Mo_hear 157 rfl) (by decide) ?_
          refine v_iadd (dk cd_Mo_hear 158 rfl) ?_
          refine v_goto (tgt := 256) (dk cd_Mo_hear 159 rfl) rfl ?_
          refine v_mst (j := 34) (dk cd_Mo_hear 164 rfl) hM (by decide) (by decide) (show _ < 3 by omega) (by decide) (fun A hM => ?_)
          exact v_vret (dk cd_Mo_hear 165 rfl) rfl ⟨rfl, _, _, hM, by rw [hfin]; unfold hAlm; rw [if_neg (show ¬ vSev S v < _ from q236)]; have R4 := R.halm (c := (hPut (hAdd hh (vAt S v).1 (nI lk) (nI nk)) v (vAt S v).1 sp (sClock S)).1.2.2.2 + 1) K3 hn3'; rw [setHs2] at R4; exact R4⟩
      · exact v_vret (dk cd_Mo_hear 98 rfl) rfl ⟨rfl, _, _, hM, by
  rw [hr2_new hs (show ¬ hh.2.2.1.2.2.getD (vAt S v).1 false = true by rw [hwas, show decide (v ∈ hh.2.2.2.map (·.1)) = false from q132]; decide)]
  unfold shw
  rw [if_neg (fun hq => q152 (by rw [hbe] at hq ⊢; exact (bits_fit hbk hch hpg).mpr hq))]
  exact R⟩
  · exact v_vret (dk cd_Mo_hear 46 rfl) rfl ⟨rfl, _, _, hM, by rw [hr2_none (Option.isNone_iff_eq_none.mp (Option.isSome_eq_false_iff.mp q73)), setHs_id hn]; exact R⟩
set_option maxRecDepth 100000 in
set_option maxHeartbeats 4000000 in
theorem Mo_hear_ok {l z : Int32} (hM : MH B a i f A) (R : Rel S t i f) (K : SOK S) (hn : (sHs S)[h]? = some hh) (hv : v < (sVers S).length) (hp : (vAt S v).2.2.isSome = true → (∃ k, k < 3 ∧ l = nI k) ∧ ∃ k, k < 3 ∧ z = nI k) : V (gg u) (d + 1) mm_Mo_hear 0 [some (.ref a), some (.int (nI h)), some (.int (nI v)), some (.int l), some (.int z), none, none, none, none] [] A (PR none B a (setHs S h (hearS S hh v l z (sClock S))) t) := by
  have w1 := K.wf.2.1
  have w2 := K.wf.2.2.1
  have w3 := K.wf.2.2.2.1
  have w4 := K.wf.2.2.2.2.1
  have hhl := (List.getElem?_eq_some_iff.mp hn).1
  have hw : (vAt S v).1 < 12 := Nat.lt_of_lt_of_le (K.w12 hv) w1
  have hok := K.hk h hh hn
  refine v_bipush (v := nI 12) (dk cd_Mo_hear 0 rfl) (by decide) ?_
  refine v_iload_n (dk cd_Mo_hear 1 rfl) rfl ?_
  refine v_imulN (dk cd_Mo_hear 2 rfl) ?_
  refine v_aload_n (dk cd_Mo_hear 3 rfl) rfl ?_
  refine v_getf (dk cd_Mo_hear 4 rfl) fg_Mo_62_Mo hM.2.2.1 (by rfl) ?_
  refine v_iload_n (dk cd_Mo_hear 5 rfl) rfl ?_
  refine v_mldE (j := 17) (dk cd_Mo_hear 6 rfl) hM (by decide) (by decide) (show _ < 40 by omega) (by decide) (R.ve v hv).1 ?_
  refine v_iaddN (dk cd_Mo_hear 7 rfl) ?_
  refine v_istore (dk cd_Mo_hear 8 rfl) (by decide) rfl ?_
  refine v_aload_n (dk cd_Mo_hear 9 rfl) rfl ?_
  refine v_getf (dk cd_Mo_hear 10 rfl) fg_Mo_65_Mo hM.2.2.1 (by rfl) ?_
  refine v_iload_n (dk cd_Mo_hear 11 rfl) rfl ?_
  refine v_mldE (j := 18) (dk cd_Mo_hear 12 rfl) hM (by decide) (by decide) (show _ < 40 by omega) (by decide) (R.ve v hv).2.1 ?_
  refine v_aload_n (dk cd_Mo_hear 13 rfl) rfl ?_
  refine v_getf (dk cd_Mo_hear 14 rfl) fg_Mo_116_Mo hM.2.2.1 (by rfl) ?_
  refine v_iload (dk cd_Mo_hear 15 rfl) rfl ?_
  refine v_mldE (j := 35) (dk cd_Mo_hear 16 rfl) hM (by decide) (by decide) (show _ < 36 by omega) (by decide) ((R.hs h _ hn).2.2.2.2.2.2.1 _ hw).1 ?_
  refine v_icmp_ge (tgt := 30) (dk cd_Mo_hear 17 rfl) rfl (fun q26 => ?_) (fun q26 => ?_)
  · have hsk0 : ¬ vNum S v < hdN S (hh.2.2.1.1.getD (vAt S v).1 none) := Int32.not_lt.mpr q26
    have hsk : ¬ hSkip S hh v = true := fun hq => hsk0 ((skip_iff K hv).mp hq)
    refine v_aload_n (dk cd_Mo_hear 19 rfl) rfl ?_
    refine v_getf (dk cd_Mo_hear 20 rfl) fg_Mo_65_Mo hM.2.2.1 (by rfl) ?_
    refine v_iload_n (dk cd_Mo_hear 21 rfl) rfl ?_
    refine v_mldE (j := 18) (dk cd_Mo_hear 22 rfl) hM (by decide) (by decide) (show _ < 40 by omega) (by decide) (R.ve v hv).2.1 ?_
    refine v_aload_n (dk cd_Mo_hear 23 rfl) rfl ?_
    refine v_getf (dk cd_Mo_hear 24 rfl) fg_Mo_116_Mo hM.2.2.1 (by rfl) ?_
    refine v_iload (dk cd_Mo_hear 25 rfl) rfl ?_
    refine v_mldE (j := 35) (dk cd_Mo_hear 26 rfl) hM (by decide) (by decide) (show _ < 36 by omega) (by decide) ((R.hs h _ hn).2.2.2.2.2.2.1 _ hw).1 ?_
    refine v_icmp_le (tgt := 67) (dk cd_Mo_hear 27 rfl) rfl (fun q43 => ?_) (fun q43 => ?_)
    · have he := (more_iff K hn hv hsk0).mpr q43
      have h1 : hr1 S hh v = hh := by unfold hr1; rw [if_pos he]
      unfold hearS
      rw [if_neg hsk, h1]
      exact Mo_hear_67 hM R K hn hv hp he
    · refine v_aload_n (dk cd_Mo_hear 28 rfl) rfl ?_
      refine v_getf (dk cd_Mo_hear 29 rfl) fg_Mo_116_Mo hM.2.2.1 (by rfl) ?_
      refine v_iload (dk cd_Mo_hear 30 rfl) rfl ?_
      refine v_aload_n (dk cd_Mo_hear 31 rfl) rfl ?_
      refine v_getf (dk cd_Mo_hear 32 rfl) fg_Mo_65_Mo hM.2.2.1 (by rfl) ?_
      refine v_iload_n (dk cd_Mo_hear 33 rfl) rfl ?_
      refine v_mldE (j := 18) (dk cd_Mo_hear 34 rfl) hM (by decide) (by decide) (show _ < 40 by omega) (by decide) (R.ve v hv).2.1 ?_
      refine v_mst (j := 35) (dk cd_Mo_hear 35 rfl) hM (by decide) (by decide) (show _ < 36 by omega) (by decide) (fun A hM => ?_)
      refine v_aload_n (dk cd_Mo_hear 36 rfl) rfl ?_
      refine v_getf (dk cd_Mo_hear 37 rfl) fg_Mo_119_Mo hM.2.2.1 (by rfl) ?_
      refine v_iload (dk cd_Mo_hear 38 rfl) rfl ?_
      refine v_iconst (v := 0) (dk cd_Mo_hear 39 rfl) (by decide) ?_
      refine v_mst (j := 36) (dk cd_Mo_hear 40 rfl) hM (by decide) (by decide) (show _ < 36 by omega) (by decide) (fun A hM => ?_)
      have he : ¬ hh.2.2.1.1.getD (vAt S v).1 none = some v := fun hq => q43 ((more_iff K hn hv hsk0).mp hq)
      have h1 : hr1 S hh v = hRes hh v (vAt S v).1 := by unfold hr1; rw [if_neg he]
      have hsf : hSkip S hh v = false := by cases e : hSkip S hh v with | false => rfl | true => exact absurd e hsk
      have hk1 : HOK S (hRes hh v (vAt S v).1) := hok.res K.nk hv hw hsf he
      have R2 := R.hres (v := v) K.lok hn hw
      have K2 : SOK (setHs S h (hRes hh v (vAt S v).1)) := K.hs hk1 ((K.hx h hh hn).2.res hok.1.2.2.2.2.1 hw)
      have hn2 := getHs (S := S) (c := hRes hh v (vAt S v).1) hhl
      unfold hearS
      rw [if_neg hsk, h1]
      have h9 := Mo_hear_67 (u := u) (d := d) (S := setHs S h (hRes hh v (vAt S v).1)) (l := l) (z := z) hM R2 K2 hn2 hv hp (getD_set_self (by rw [hok.1.2.2.1]; exact hw))
      rw [setHs2] at h9
      exact h9
  · exact v_vret (dk cd_Mo_hear 18 rfl) rfl ⟨rfl, _, _, hM, by have hq := (skip_iff (x := hh) K hv).mpr (Int32.not_le.mp q26); unfold hearS; rw [if_pos hq, setHs_id hn]; exact R⟩
end MU
