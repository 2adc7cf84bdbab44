/-! a handset hears and shows: the pure part -/
def vNum (S : SS) (v : Nat) : Int32 := (vAt S v).2.1.1
def hAlm (S : SS) (h : HaS) (v : Nat) : HaS := if vSev S v < h.1.1 then h else hAl h (h.1.2.2.2 + 1)
def hNeed (h : HaS) (s : SpS) : Int32 := pBits (nI (chs h.2.1 s.2.1.2)) (nI (pgs (tl s.2.1.2 (chs h.2.1 s.2.1.2))))
def hPut (h : HaS) (v w : Nat) (s : SpS) (clk : Int32) : HaS := hSh (hWs h (h.2.2.1.2.2.set w true)) (h.2.2.2 ++ [(v, nI (chs h.2.1 s.2.1.2), clk)])
def shw (S : SS) (h : HaS) (v w : Nat) (s : SpS) (clk : Int32) : HaS := if h.2.2.1.2.1.getD w 0 &&& hNeed h s = hNeed h s then hAlm S (hPut h v w s clk) v else h
def hRes (h : HaS) (v w : Nat) : HaS := hWs (hHl (hHd h (h.2.2.1.1.set w (some v))) (h.2.2.1.2.1.set w 0)) (h.2.2.1.2.2.set w false)
def hAdd (h : HaS) (w : Nat) (l n : Int32) : HaS := hHl h (h.2.2.1.2.1.set w (h.2.2.1.2.1.getD w 0 ||| pBits l 1 <<< (n &&& 31)))
def hr2 (S : SS) (h : HaS) (v : Nat) (l n clk : Int32) : HaS := match (vAt S v).2.2 with
  | none => h
  | some s => if h.2.2.1.2.2.getD (vAt S v).1 false = true then hAdd h (vAt S v).1 l n else shw S (hAdd h (vAt S v).1 l n) v (vAt S v).1 s clk
def hSkip (S : SS) (h : HaS) (v : Nat) : Bool := match h.2.2.1.1.getD (vAt S v).1 none with
  | none => false
  | some v' => !decide (vNum S v' ≤ vNum S v)
def hr1 (S : SS) (h : HaS) (v : Nat) : HaS := if h.2.2.1.1.getD (vAt S v).1 none = some v then h else hRes h v (vAt S v).1
def hearS (S : SS) (h : HaS) (v : Nat) (l n clk : Int32) : HaS := if hSkip S h v = true then h else hr2 S (hr1 S h v) v l n clk
def hMs (h : HaS) (x : Int32) : HaS := ((h.1.1, h.1.2.1, x, h.1.2.2.2), h.2)
def lisS (S : SS) (clk : Int32) (h : HaS) (p : Nat × Int32 × Int32) : HaS := if h.1.2.2.1 ≤ 0 then hearS S h p.1 p.2.1 p.2.2 clk else hMs h (h.1.2.2.1 - 1)
/-- what holds of one handset -/
def HO1 (S : SS) (h : HaS) : Prop := h.2.1.length ≤ 3 ∧ (∀ l ∈ h.2.1, ∃ n, n < 3 ∧ l = nI n) ∧ h.2.2.1.1.length = 12 ∧ h.2.2.1.2.1.length = 12 ∧ h.2.2.1.2.2.length = 12 ∧ (∀ v, some v ∈ h.2.2.1.1 → v < (sVers S).length) ∧ h.2.2.2.length ≤ 40 ∧
  ∀ p ∈ h.2.2.2, p.1 < (sVers S).length ∧ (vAt S p.1).2.2.isSome = true ∧ ∃ l, l < 3 ∧ p.2.1 = nI l
def HO2 (S : SS) (h : HaS) : Prop := (h.2.2.2.map (·.1)).Nodup ∧ (∀ w v, h.2.2.1.1.getD w none = some v → (vAt S v).1 = w) ∧
  ∀ p ∈ h.2.2.2, ∃ v', h.2.2.1.1.getD (vAt S p.1).1 none = some v' ∧ (vNum S p.1 < vNum S v' ∨ (p.1 = v' ∧ h.2.2.1.2.2.getD (vAt S p.1).1 false = true))
def HOK (S : SS) (h : HaS) : Prop := HO1 S h ∧ HO2 S h
def NumOK (S : SS) : Prop := ∀ i j, i < (sVers S).length → j < (sVers S).length → (vAt S i).1 = (vAt S j).1 → vNum S i = vNum S j → i = j
theorem nodup_len : ∀ (n : Nat) (l : List Nat), l.Nodup → (∀ x ∈ l, x < n) → l.length ≤ n := by
  intro n
  induction n with
  | zero =>
    intro l _ h
    cases l with
    | nil => simp
    | cons a r => exact absurd (h a List.mem_cons_self) (Nat.not_lt_zero a)
  | succ n ih =>
    intro l hn h
    have h1 := ih (l.erase n) (hn.erase n) (fun x hx => by
      have h2 := h x (List.mem_of_mem_erase hx)
      have h3 : x ≠ n := fun e => by rw [e] at hx; exact hn.not_mem_erase hx
      omega)
    by_cases hm : n ∈ l
    · rw [List.length_erase_of_mem hm] at h1; omega
    · rw [List.erase_of_not_mem hm] at h1; omega
theorem i32_lt_of {a b : Int32} (h : a ≤ b) (hne : ¬ a = b) : a < b := by
  rw [Int32.lt_iff_toInt_lt]
  rw [Int32.le_iff_toInt_le] at h
  have : a.toInt ≠ b.toInt := fun e => hne (Int32.toInt_inj.mp e)
  omega
theorem i32_lt_tr {a b c : Int32} (h : a < b) (h2 : b < c) : a < c := by
  rw [Int32.lt_iff_toInt_lt] at *
  omega
theorem i32_irr {a : Int32} (h : a < a) : False := by
  rw [Int32.lt_iff_toInt_lt] at h
  omega
theorem getD_set_self {α : Type} {l : List α} {k : Nat} {x d : α} (h : k < l.length) : (l.set k x).getD k d = x := by simp [h]
theorem getD_set_ne {α : Type} {l : List α} {k j : Nat} {x d : α} (h : j ≠ k) : (l.set k x).getD j d = l.getD j d := by
  simp only [List.getD_eq_getElem?_getD]
  rw [List.getElem?_set_ne (fun e => h e.symm)]
theorem getD_mem {l : List (Option Nat)} {k v : Nat} (h : l.getD k none = some v) : some v ∈ l := by
  rw [List.getD_eq_getElem?_getD] at h
  cases hk : l[k]? with
  | none => rw [hk] at h; cases h
  | some y => rw [hk] at h; simp at h; subst h; exact List.mem_of_getElem? hk
theorem HOK.held {S : SS} {h : HaS} (H : HOK S h) {l : List Int32} (hl : l.length = 12) : HOK S (hHl h l) := by
  obtain ⟨⟨a1, a2, a3, a4, a5, a6, a7, a8⟩, b⟩ := H
  exact ⟨⟨a1, a2, a3, hl, a5, a6, a7, a8⟩, b⟩
theorem HOK.alm {S : SS} {h : HaS} (H : HOK S h) (x : Int32) : HOK S (hAl h x) := H
theorem HOK.mis {S : SS} {h : HaS} (H : HOK S h) (x : Int32) : HOK S (hMs h x) := H
theorem HOK.room {S : SS} {h : HaS} {v : Nat} (H : HOK S h) (h40 : (sVers S).length ≤ 40) (hv : v < (sVers S).length) (h1 : h.2.2.1.1.getD (vAt S v).1 none = some v) (h2 : h.2.2.1.2.2.getD (vAt S v).1 false = false) : (∀ q ∈ h.2.2.2, q.1 ≠ v) ∧ h.2.2.2.length < 40 := by
  obtain ⟨⟨a1, a2, a3, a4, a5, a6, a7, a8⟩, b1, b2, b3⟩ := H
  have hn : ∀ q ∈ h.2.2.2, q.1 ≠ v := by
    intro q hq e
    obtain ⟨v', c1, c2⟩ := b3 q hq
    rw [e] at c1 c2
    rw [h1] at c1
    cases c1
    rcases c2 with c2 | c2
    · exact i32_irr c2
    · rw [h2] at c2; cases c2.2
  refine ⟨hn, ?_⟩
  have h9 := nodup_len (sVers S).length (v :: h.2.2.2.map (·.1)) (List.nodup_cons.mpr ⟨fun hm => by
    obtain ⟨q, hq, e⟩ := List.mem_map.mp hm
    exact hn q hq e, b1⟩) (fun x hx => by
    rcases List.mem_cons.mp hx with rfl | hx
    · exact hv
    · obtain ⟨q, hq, rfl⟩ := List.mem_map.mp hx
      exact (a8 q hq).1)
  simp only [List.length_cons, List.length_map] at h9
  omega
theorem HOK.put {S : SS} {h : HaS} {v : Nat} {s : SpS} {clk : Int32} (H : HOK S h) (h40 : (sVers S).length ≤ 40) (hv : v < (sVers S).length) (hw : (vAt S v).1 < 12) (hs : (vAt S v).2.2.isSome = true) (h1 : h.2.2.1.1.getD (vAt S v).1 none = some v) (h2 : h.2.2.1.2.2.getD (vAt S v).1 false = false) : HOK S (hPut h v (vAt S v).1 s clk) := by
  obtain ⟨hn, hr⟩ := H.room h40 hv h1 h2
  obtain ⟨⟨a1, a2, a3, a4, a5, a6, a7, a8⟩, b1, b2, b3⟩ := H
  refine ⟨⟨a1, a2, a3, a4, by simpa [hPut, hSh, hWs] using a5, a6, by simp [hPut, hSh]; omega, ?_⟩, ?_, b2, ?_⟩
  · intro q hq
    rcases List.mem_append.mp hq with hq | hq
    · exact a8 q hq
    · rw [List.mem_singleton.mp hq]
      exact ⟨hv, hs, _, chs_lt a2, rfl⟩
  · show (((h.2.2.2 ++ [(v, nI (chs h.2.1 s.2.1.2), clk)])).map (·.1)).Nodup
    rw [List.map_append, List.nodup_append]
    refine ⟨b1, by simp, fun x hx y hy => ?_⟩
    obtain ⟨q, hq, rfl⟩ := List.mem_map.mp hx
    simp at hy
    subst hy
    exact hn q hq
  · intro q hq
    show ∃ v', h.2.2.1.1.getD (vAt S q.1).1 none = some v' ∧ (_ ∨ (_ ∧ (h.2.2.1.2.2.set (vAt S v).1 true).getD (vAt S q.1).1 false = true))
    rcases List.mem_append.mp hq with hq | hq
    · obtain ⟨v', c1, c2⟩ := b3 q hq
      refine ⟨v', c1, c2.imp id fun ⟨c3, c4⟩ => ⟨c3, ?_⟩⟩
      by_cases hwq : (vAt S q.1).1 = (vAt S v).1
      · rw [hwq, getD_set_self (by omega)]
      · rw [getD_set_ne hwq, c4]
    · rw [List.mem_singleton.mp hq]
      exact ⟨v, h1, Or.inr ⟨rfl, getD_set_self (by omega)⟩⟩
theorem HOK.res {S : SS} {h : HaS} {v : Nat} (H : HOK S h) (N : NumOK S) (hv : v < (sVers S).length) (hw : (vAt S v).1 < 12) (hsk : hSkip S h v = false) (h1 : ¬ h.2.2.1.1.getD (vAt S v).1 none = some v) : HOK S (hRes h v (vAt S v).1) := by
  obtain ⟨⟨a1, a2, a3, a4, a5, a6, a7, a8⟩, b1, b2, b3⟩ := H
  refine ⟨⟨a1, a2, by simpa [hRes, hWs, hHl, hHd] using a3, by simpa [hRes, hWs, hHl, hHd] using a4, by simpa [hRes, hWs, hHl, hHd] using a5, ?_, a7, a8⟩, b1, ?_, ?_⟩
  · intro x hx
    rcases List.mem_or_eq_of_mem_set hx with hx | hx
    · exact a6 x hx
    · cases hx; exact hv
  · intro w x hx
    have hx : (h.2.2.1.1.set (vAt S v).1 (some v)).getD w none = some x := hx
    by_cases e : w = (vAt S v).1
    · subst e
      rw [getD_set_self (by omega)] at hx
      cases hx; rfl
    · rw [getD_set_ne e] at hx
      exact b2 w x hx
  · intro q hq
    show ∃ v', (h.2.2.1.1.set (vAt S v).1 (some v)).getD (vAt S q.1).1 none = some v' ∧ (_ ∨ (_ ∧ (h.2.2.1.2.2.set (vAt S v).1 false).getD (vAt S q.1).1 false = true))
    obtain ⟨v', c1, c2⟩ := b3 q hq
    by_cases e : (vAt S q.1).1 = (vAt S v).1
    · rw [e] at c1 c2
      rw [e, getD_set_self (by omega)]
      refine ⟨v, rfl, Or.inl ?_⟩
      have hle : vNum S v' ≤ vNum S v := by
        unfold hSkip at hsk
        rw [c1] at hsk
        simpa using hsk
      have hlt : vNum S v' < vNum S v := i32_lt_of hle (fun e2 => h1 (by
        rw [c1, N v' v (a6 v' (getD_mem c1)) hv (b2 _ _ c1) e2]))
      rcases c2 with c2 | c2
      · exact i32_lt_tr c2 hlt
      · rw [c2.1]; exact hlt
    · rw [getD_set_ne e, getD_set_ne e]
      exact ⟨v', c1, c2⟩
theorem hr1_heard {S : SS} {h : HaS} {v : Nat} (hl : h.2.2.1.1.length = 12) (hw : (vAt S v).1 < 12) : (hr1 S h v).2.2.1.1.getD (vAt S v).1 none = some v := by
  unfold hr1
  split
  · assumption
  · exact getD_set_self (by omega)
theorem HOK.hone {S : SS} {h : HaS} {v : Nat} (H : HOK S h) (N : NumOK S) (hv : v < (sVers S).length) (hw : (vAt S v).1 < 12) (hsk : hSkip S h v = false) : HOK S (hr1 S h v) := by
  unfold hr1
  split
  · exact H
  · exact H.res N hv hw hsk (by assumption)
theorem HOK.hear {S : SS} {h : HaS} {v : Nat} {l n clk : Int32} (H : HOK S h) (N : NumOK S) (h40 : (sVers S).length ≤ 40) (hv : v < (sVers S).length) (hw : (vAt S v).1 < 12) : HOK S (hearS S h v l n clk) := by
  unfold hearS
  cases hsk : hSkip S h v with
  | true => exact H
  | false =>
    simp only [Bool.false_eq_true, if_false]
    have H1 := H.hone N hv hw hsk
    have hh := hr1_heard (S := S) (v := v) H.1.2.2.1 hw
    unfold hr2
    cases hs : (vAt S v).2.2 with
    | none => exact H1
    | some s =>
      simp only
      have H2 : HOK S (hAdd (hr1 S h v) (vAt S v).1 l n) := H1.held (by simpa using H1.1.2.2.2.1)
      split
      · exact H2
      · rename_i hws
        unfold shw
        split
        · unfold hAlm
          have H3 := H2.put (s := s) (clk := clk) h40 hv hw (by rw [hs]; rfl) hh (by simpa [hAdd, hHl] using hws)
          split
          · exact H3
          · exact H3.alm _
        · exact H2
theorem HOK.lis {S : SS} {h : HaS} {q : Nat × Int32 × Int32} {clk : Int32} (H : HOK S h) (N : NumOK S) (h40 : (sVers S).length ≤ 40) (hv : q.1 < (sVers S).length) (hw : (vAt S q.1).1 < 12) : HOK S (lisS S clk h q) := by
  unfold lisS
  split
  · exact H.hear N h40 hv hw
  · exact H.mis _
