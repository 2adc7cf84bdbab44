/-! the law's start: the tables' words, the room -/
theorem ky_static (c n d : String) : Ky (.isRef (.static c n d)) := by
  refine ⟨fun s U H a a' hW hb => ?_, fun s H a hq hb => ?_⟩
  · have h3 := Cond.before_shiftedFace (s := ({ s with heap := H } : State)) (args := a) (vm' := U.vm) (State.Shifted.of_warmed (s := ({ s with heap := H } : State)) hW) (.isRef (.static c n d)) (by rfl) hb
    exact h3
  · simp only [Cond.before, Cond.holds, Cond.value, Term.eval] at hb ⊢
    have e : ({ s with heap := H } : State).fieldNamed? c n d true = s.fieldNamed? c n d true := rfl
    rw [e] at hb
    cases hf : s.fieldNamed? c n d true with
    | none => rw [hf] at hb; exact hb
    | some q =>
      obtain ⟨c1, k1, sl⟩ := q
      rw [hf] at hb
      cases hs : k1.statics with
      | none => simp [hs] at hb
      | some ad =>
        cases hh : H[ad]? with
        | none => simp [hs, hh] at hb
        | some cell =>
          have hlt : ad < H.size := (Array.getElem?_eq_some_iff.mp hh).1
          have h2 : s.heap[ad]? = some cell := by rw [hq ad hlt]; exact hh
          simp [hs, hh] at hb
          simp [hs, h2]
          exact hb
theorem ky_lays (c n d : String) : Ky (.laysStatic c n d) := by
  refine ⟨fun s U H a a' hW hb => ?_, fun s H a hq hb => ?_⟩
  · have h3 := Cond.before_shiftedFace (s := ({ s with heap := H } : State)) (args := a) (vm' := U.vm) (State.Shifted.of_warmed (s := ({ s with heap := H } : State)) hW) (.laysStatic c n d) (by rfl) hb
    exact h3
  · simp only [Cond.before, Cond.holds, Cond.value] at hb ⊢
    have e : ({ s with heap := H } : State).fieldFound? c n d = s.fieldFound? c n d := rfl
    rw [e] at hb
    cases hc : s.vm.findClass c with
    | none => simp [hc] at hb
    | some ci =>
      cases hf : s.fieldFound? c n d with
      | none => simp [hc, hf] at hb
      | some q =>
        obtain ⟨c1, k1, i1, f1⟩ := q
        cases hs : k1.statics with
        | none => simp [hc, hf, hs] at hb
        | some ad =>
          cases hh : H[ad]? with
          | none => simp [hc, hf, hs, hh] at hb
          | some cell =>
            have hlt : ad < H.size := (Array.getElem?_eq_some_iff.mp hh).1
            have h2 : s.heap[ad]? = some cell := by rw [hq ad hlt]; exact hh
            simp [hc, hf, hs, hh] at hb
            simp [hc, hf, hs, h2]
            exact hb
theorem Kp.overA (t : FieldType) : Kp (.arrayOver (.array t)) := by
  intro s U a a' hW hb
  have hvm := hW.alike
  have key : ∀ comp, (U.vm.classes.findIdx? fun (x : Class) => match x.kind with | .array component _ => component == comp | _ => false) = (s.vm.classes.findIdx? fun (x : Class) => match x.kind with | .array component _ => component == comp | _ => false) := by
    intro comp
    have h1 := va_idx_bare U.vm comp
    have h2 := va_idx_bare s.vm comp
    have h3 : U.vm.bare = s.vm.bare := by first | exact hvm.bare_eq | exact hvm.bare_eq.symm
    rw [h3] at h1
    exact h1.symm.trans h2
  unfold Cond.before Cond.holds at hb ⊢
  simp only [Cond.value] at hb ⊢
  cases hc : s.vm.findClass (FieldType.array t).toString with
  | none => rw [hc] at hb; simp at hb
  | some comp =>
    have f1 : U.vm.findClass (FieldType.array t).toString = some comp := by rw [hvm.findClass]; exact hc
    rw [hc, Option.bind_some] at hb
    rw [f1, Option.bind_some]
    refine (congrArg (fun o : Option Nat => (o.bind (fun c => (U.vm.classes[c]?).map fun (k : Class) => match k.kind with | .array _ ty => decide (ty = FieldType.array t) && decide (U.vm.findClass ("[" ++ (FieldType.array t).toString) = some c) | _ => false) == some true)) (key comp)).trans ?_
    cases hx : (s.vm.classes.findIdx? fun (x : Class) => match x.kind with | .array component _ => component == comp | _ => false) with
    | none =>
      have hb' := (congrArg (fun o : Option Nat => (o.bind (fun c => (s.vm.classes[c]?).map fun (k : Class) => match k.kind with | .array _ ty => decide (ty = FieldType.array t) && decide (s.vm.findClass ("[" ++ (FieldType.array t).toString) = some c) | _ => false) == some true)) hx).symm.trans hb
      simp at hb'
    | some c =>
      have hb' := (congrArg (fun o : Option Nat => (o.bind (fun c => (s.vm.classes[c]?).map fun (k : Class) => match k.kind with | .array _ ty => decide (ty = FieldType.array t) && decide (s.vm.findClass ("[" ++ (FieldType.array t).toString) = some c) | _ => false) == some true)) hx).symm.trans hb
      simp only [Option.bind_some] at hb' ⊢
      cases hk : s.vm.classes[c]? with
      | none => rw [hk] at hb'; simp at hb'
      | some k =>
        obtain ⟨k', hk', he⟩ := hvm.2.2 _ _ hk
        have hkind : k'.kind = k.kind := by rw [he]
        rw [hk] at hb'
        rw [hk']
        simp only [Option.map_some, hkind, hvm.findClass] at hb' ⊢
        exact hb'
theorem ws_kp : ∀ w ∈ WS, kpB w = true ∨ w = .arrayOver (.array .int) := by decide +kernel
theorem ncs_src : ∀ w ∈ ncs, w ∈ flatC (Jvm.Cond.and given_1 narrow_1) := by decide +kernel
theorem tb57 : Cond.arrayClass .int ∈ tables_1 := List.mem_of_getElem? (i := 57) (by decide +kernel)
theorem tb258 : Cond.laysStatic "java/lang/Throwable" "UNASSIGNED_STACK" "[Ljava/lang/StackTraceElement;" ∈ tables_1 := List.mem_of_getElem? (i := 258) (by decide +kernel)
theorem tb260 : Cond.laysStatic "java/lang/Throwable" "SUPPRESSED_SENTINEL" "Ljava/util/List;" ∈ tables_1 := List.mem_of_getElem? (i := 260) (by decide +kernel)
theorem st_un : Cond.isRef (.static "java/lang/Throwable" "UNASSIGNED_STACK" "[Ljava/lang/StackTraceElement;") ∈ flatC (Jvm.Cond.and given_1 narrow_1) := by decide +kernel
theorem st_su : Cond.isRef (.static "java/lang/Throwable" "SUPPRESSED_SENTINEL" "Ljava/util/List;") ∈ flatC (Jvm.Cond.and given_1 narrow_1) := by decide +kernel
theorem tbl_in {w : Cond} (h : w ∈ tables_1) : w ∈ lw_tbl := List.mem_append.mpr (Or.inr h)
theorem ws_src {w : Cond} (h : w ∈ WS) : w ∈ lw_tbl ∨ w ∈ flatC (Jvm.Cond.and given_1 narrow_1) := by
  unfold WS at h
  rcases List.mem_append.mp h with h | h
  · rcases List.mem_or_eq_of_mem_set h with h | h
    · rcases List.mem_or_eq_of_mem_set h with h | h
      · exact Or.inl (tbl_in h)
      · rw [h]; exact Or.inl (tbl_in tb57)
    · rw [h]; exact Or.inl (tbl_in tb57)
  · rcases List.mem_append.mp h with h | h
    · exact Or.inl (List.mem_append.mpr (Or.inl h))
    · exact Or.inr (ncs_src w h)
theorem cl_inst : ∀ (c : Nat) (q : vw_C), clS[c]? = some q → (∀ w ∈ u_ws q.1 q.2.1 q.2.2, w ∈ WS) ∧ ∃ n, Cond.instantiable q.1 n ∈ WS := by
  intro c q h
  match c, h with
  | 0, h => cases h; exact ⟨in_AW, 9, in_at 21 (by decide +kernel)⟩
  | 1, h => cases h; exact ⟨in_Ar, 3, in_at 41 (by decide +kernel)⟩
  | 2, h => cases h; exact ⟨in_Ca, 4, in_at 589 (by decide +kernel)⟩
  | 3, h => cases h; exact ⟨in_Ce, 12, in_at 142 (by decide +kernel)⟩
  | 4, h => cases h; exact ⟨in_Ha, 13, in_at 188 (by decide +kernel)⟩
  | 5, h => cases h; exact ⟨in_Me, 2, in_at 35 (by decide +kernel)⟩
  | 6, h => cases h; exact ⟨in_Sp, 9, in_at 506 (by decide +kernel)⟩
  | 7, h => cases h; exact ⟨in_Te, 2, in_at 59 (by decide +kernel)⟩
  | 8, h => cases h; exact ⟨in_Wa, 3, in_at 482 (by decide +kernel)⟩
  | 9, h => cases h; exact ⟨in_Mo, 49, in_at 765 (by decide +kernel)⟩
  | n + 10, h => cases h
theorem arr_of {s : State} {c comp : ClassId} {k : Class} {ty : FieldType} (h1 : s.vm.classes[c]? = some k) (h2 : k.kind = .array comp ty) : ArrOfT s c ty := fun n z => ⟨fun q hq => (by cases hq), k, h1, comp, h2⟩
theorem ta_prim {s : State} {args : Array Value} {ty : FieldType} (h : (Cond.arrayClass ty).before args s = true) (hp : ∀ cA, s.vm.findClass ("[" ++ ty.toString) = some cA → va_RA s cA ty) : ∃ cA, ArrOfT s cA ty ∧ va_RA s cA ty := by
  obtain ⟨c, k, comp, h1, h2, h3⟩ := Cond.arrayClass_spec h
  exact ⟨c, arr_of h2 h3, hp c h1⟩
theorem ta_obj {s : State} {args : Array Value} {C : String} (h : (Cond.arrayOver (.object C)).before args s = true) : ∃ cA, ArrOfT s cA (.object C) ∧ va_RA s cA (.object C) := by
  obtain ⟨comp, c, k, h1, h2, h3, h4, h5⟩ := Cond.arrayOver_spec h
  exact ⟨c, arr_of h3 h4, k, comp, h3, h4, h1, h5⟩
theorem ta_arr {s : State} {args : Array Value} {t : FieldType} (h : (Cond.arrayOver (.array t)).before args s = true) : ∃ cA, ArrOfT s cA (.array t) ∧ va_RA s cA (.array t) := by
  obtain ⟨comp, c, k, h1, h2, h3, h4⟩ := ov_arr h
  exact ⟨c, arr_of h2 h3, h4⟩
theorem ta_all {s : State} {args : Array Value} (hW : ∀ w ∈ WS, w.before args s = true) : ∀ (j : Nat), ∃ cA, ∀ ty, taS[j]? = some ty → ArrOfT s cA ty ∧ va_RA s cA ty := by
  have key : ∀ (j : Nat) (ty : FieldType), taS[j]? = some ty → ∃ cA, ArrOfT s cA ty ∧ va_RA s cA ty := by
    intro j ty h
    match j, h with
    | 0, h => cases h; exact ta_prim (hW _ wA0) (fun cA h => h)
    | 1, h => cases h; exact ta_prim (hW _ wA1) (fun cA h => h)
    | 2, h => cases h; exact ta_prim (hW _ wA2) (fun cA h => h)
    | 3, h => cases h; exact ta_arr (hW _ wA65)
    | 4, h => cases h; exact ta_obj (hW _ nq_AW_13.2)
    | 5, h => cases h; exact ta_obj (hW _ nq_AW_22.2)
    | 6, h => cases h; exact ta_obj (hW _ nq_AW_34.2)
    | 7, h => cases h; exact ta_obj (hW _ nq_Ce_28.2)
    | 8, h => cases h; exact ta_obj (hW _ nq_Ha_44.2)
    | n + 9, h => cases h
  intro j
  cases h : taS[j]? with
  | none => exact ⟨0, fun ty h2 => by cases h2⟩
  | some ty =>
    obtain ⟨cA, h2⟩ := key j ty h
    exact ⟨cA, fun ty' h3 => by cases h3; exact h2⟩
theorem ex_found {s : State} {args : Array Value} (hW : ∀ w ∈ WS, w.before args s = true) {cls : String} (h : Cond.instantiable cls 6 ∈ WS) : ∃ c, s.vm.findClass cls = some c := by
  obtain ⟨c, k, h1, _⟩ := Cond.instantiable_spec (hW _ h)
  exact ⟨c, h1⟩
theorem tf_start {s : State} {b L : Nat} {xs : Nat → Int32} (hts : ∀ w ∈ lw_tbl, w.before #[Value.ref b] s = true) (hX : va_X b L xs s s.heap) (hgv : (Jvm.Cond.and given_1 narrow_1).before #[Value.ref b] s = true) :
    ∃ u : Ux, TF (gg u) s #[Value.ref b] ∧ u.2.1 50 = b ∧ u.2.2.2.1 = s.heap ∧ u.2.2.2.2.1 = s.heap.size + 601024 ∧ u.2.2.2.2.2 = 7293034 := by
  have hfl := flat_of_before _ hgv
  have hW : ∀ w ∈ WS, w.before #[Value.ref b] s = true := fun w hw => (ws_src hw).elim (hts w) (hfl w)
  have hC : ∀ c : Nat, ∃ (cC : ClassId) (iS : Nat → Nat), ∀ q, clS[c]? = some q → u_Kn s q.1 q.2.1 q.2.2 cC iS := by
    intro c
    cases h : clS[c]? with
    | none => exact ⟨0, fun _ => 0, fun q hq => by cases hq⟩
    | some q =>
      obtain ⟨h1, n, h2⟩ := cl_inst c q h
      obtain ⟨cC, iS, h3⟩ := u_known hW h1 (hW _ h2)
      exact ⟨cC, iS, fun q' hq => by cases hq; exact h3⟩
  have hA := ta_all hW
  obtain ⟨e0, he0⟩ := ex_found hW tw_54.2.1
  obtain ⟨e1, he1⟩ := ex_found hW tw_57.2.1
  obtain ⟨e2, he2⟩ := ex_found hW tw_125.2.1
  obtain ⟨e3, he3⟩ := ex_found hW tw_193.2.1
  obtain ⟨scr, s1, s2, s3, s4, s5⟩ := hX
  refine ⟨((fun c => (hC c).choose, fun c => (hC c).choose_spec.choose), (fun j => if j = 50 then b else (hA j).choose), (fun k => if k = 0 then e0 else if k = 1 then e1 else if k = 2 then e2 else e3), s.heap, s.heap.size + 601024, 7293034), ⟨hW, ?_, ⟨fun c q hq => (hC c).choose_spec.choose_spec q hq, fun k q hq => by cases hq⟩, ?_, ?_, ?_, ?_, ?_⟩, rfl, rfl, rfl, rfl⟩
  · intro w hw
    rcases ws_kp w hw with h | h
    · exact kpB_ok h
    · rw [h]; exact Kp.overA _
  · intro j ty hj
    have hj : taS[j]? = some ty := hj
    have hlt : j < 9 := (List.getElem?_eq_some_iff.mp hj).1
    show ArrOfT s (if j = 50 then b else (hA j).choose) ty ∧ va_RA s (if j = 50 then b else (hA j).choose) ty
    rw [if_neg (by omega)]
    exact (hA j).choose_spec ty hj
  · intro k q hq
    match k, hq with
    | 0, hq => cases hq; exact he0
    | 1, hq => cases hq; exact he1
    | 2, hq => cases hq; exact he2
    | 3, hq => cases hq; exact he3
    | n + 4, hq => cases hq
  · intro w hw
    have hw : w ∈ YS := hw
    show w.before #[Value.ref b] s = true
    simp only [YS, List.mem_cons, List.not_mem_nil, or_false] at hw
    rcases hw with rfl | rfl | rfl | rfl
    · exact hfl _ st_un
    · exact hfl _ st_su
    · exact hts _ (tbl_in tb258)
    · exact hts _ (tbl_in tb260)
  · intro w hw
    have hw : w ∈ YS := hw
    simp only [YS, List.mem_cons, List.not_mem_nil, or_false] at hw
    rcases hw with rfl | rfl | rfl | rfl
    · exact ky_static _ _ _
    · exact ky_static _ _ _
    · exact ky_lays _ _ _
    · exact ky_lays _ _ _
  · intro c hc
    have hc : s.heap[b]? = some c := hc
    rw [s1] at hc
    cases hc
    exact ⟨s2, s3⟩
theorem same_forget {s t : State} {K : List Loc} {k n k' n' : Nat} (h : s.sameButNew t K k n) (hK : ∀ q ∈ K, s.heap.size ≤ q.base) (hk : k ≤ k') (hn : n ≤ n') : s.sameButNew t [] k' n' := by
  obtain ⟨h1, h2, h3, h4, h5, h6⟩ := h
  refine ⟨h1, h2, by omega, h4, by omega, fun a c hc => ?_⟩
  obtain ⟨c', g1, g2, g3, g4⟩ := h6 a c hc
  have hlt : a < s.heap.size := (Array.getElem?_eq_some_iff.mp hc).1
  exact ⟨c', g1, g2, g3, fun i _ => g4 i (fun hin => absurd (show s.heap.size ≤ a from hK _ hin) (Nat.not_le.mpr hlt))⟩
