/-! calls: the callee's walk stands inside the caller's -/
theorem steps_weak {tb : Tables} {e : Env} {mid below : List Frame} {a b : State} (h : Steps tb e (mid ++ below) a b) : Steps tb e below a b := by
  obtain ⟨n, hn, w⟩ := h
  exact ⟨n, hn, fun k hk => (w k hk).weaken⟩
def slV (x : Slot) : Option Value := match x with
  | .val v => some v
  | _ => none
def lo0 (as : List Value) (n : Nat) : Lo := (lg_sl as).map slV ++ List.replicate (n - (lg_sl as).length) none
theorem lo0_ok (as : List Value) (n : Nat) (h : (lg_sl as).length ≤ n) : LR (lo0 as n) ((lg_sl as ++ List.replicate (n - (lg_sl as).length) Slot.unset).toArray) n := by
  have hl := lv_entry as (n := n) h
  refine ⟨hl.1, hl.2.1, by simp [lo0]; omega, fun i v hi => ?_⟩
  simp only [lo0] at hi
  simp only [List.getElem?_toArray]
  by_cases hlt : i < (lg_sl as).length
  · rw [List.getElem?_append_left (by simpa using hlt)] at hi
    rw [List.getElem?_append_left hlt]
    rw [List.getElem?_map, List.getElem?_eq_getElem hlt] at hi
    rw [List.getElem?_eq_getElem hlt]
    simp only [Option.map_some, Option.some.injEq] at hi
    cases hs : (lg_sl as)[i] with
    | val w => rw [hs] at hi; simp only [slV, Option.some.injEq] at hi; rw [hi]
    | _ => rw [hs] at hi; simp [slV] at hi
  · rw [List.getElem?_append_right (by simpa using hlt)] at hi
    rw [List.getElem?_replicate] at hi
    split at hi <;> simp at hi
def MW (WS : List Cond) (y : MT) : Prop := plainName y.1.cls = true ∧ ((y.2.2.2.2 = [] ∧ Cond.code y.1 y.2.1 y.2.2.1 y.2.2.2.1 ∈ WS) ∨ Cond.codeWith y.1 y.2.1 y.2.2.1 y.2.2.2.1 y.2.2.2.2 ∈ WS)
theorem MW.facts {g : Gx} {y : MT} {s : State} {args : Array Value} (h : MW (gW g) y) (hT : TF g s args) {mk : MethodId} (hn : s.methodNamed? y.1 = some mk) :
    ∃ (methk : Method) (ck : Code), s.vm.method? mk = some methk ∧ methk.code = some ck ∧ ck.code = y.2.1 ∧ ck.maxLocals = y.2.2.1 ∧ methk.sig.returnType = y.2.2.2.1 ∧ methk.locks = false ∧ ck.exceptionTable.toList = tableOf y.2.2.2.2 := by
  rcases h.2 with ⟨h0, hw⟩ | hw
  · obtain ⟨methk, ck, h1, h2, h3, h4, h5, h6, h7, -⟩ := Cond.code_spec hn (hT.1 _ hw)
    refine ⟨methk, ck, h1, h2, h3, h4, h5, h6, ?_⟩
    have e0 : ck.exceptionTable.size = 0 := by simpa [Array.isEmpty] using h7
    have e1 : ck.exceptionTable.toList = [] := List.eq_nil_of_length_eq_zero (by simpa using e0)
    rw [h0, e1]; rfl
  · obtain ⟨m9, methk, ck, hn9, h1, h2, h3, h4, h7, h5, h6, -⟩ := Cond.codeWith_spec (hT.1 _ hw)
    cases hn.symm.trans hn9
    exact ⟨methk, ck, h1, h2, h3, h4, h5, h6, by rw [← h7, table_eq]⟩
section VC
variable {g : Gx} {d : Nat} {Ψ : Out → AH → Prop}
set_option maxHeartbeats 1000000 in
theorem v_into {p : Program} {l : Launch} {e : Env} {R : Room} {s : State} {m : MethodId} {args : Array Value} {below : List Frame} {meth : Method} {c : Code} {T : State} {locs : List Loc} {cells slots z : Nat} (hx : p.tables.exec = Jvm.exec) (hT : TF g s args) (hfr : d + 1 + 2 ≤ R.frames) (hlo : 40 * (d + 1) + 100 ≤ R.locals)
    (hgl : gL g ≤ s.heap.size + R.cells) (hgs : gS g ≤ z + R.slots) (htr : e.platform.stackTraces = false) (X : Stand p l e R s m args below meth c T locs cells slots) {A : AH} (hH : HR g A T.heap) (hc : s.heap.size + cells = A.2.1) (hz : z + slots = A.2.2)
    {y : MT} (hy : MW (gW g) y) {mk : MethodId} (hn : T.methodNamed? y.1 = some mk) {f : JFrame} (hg : f.method = m) (hsize : f.locals.size = c.maxLocals) {ig : Instr} {len : Nat} (hdg : decode c.code f.pc = .ok (ig, len)) (hw : 2 * f.monitorRoom + (f.stack.map fun v => v.category).sum + y.2.2.1 ≤ 29)
    {as : List Value} (has : (lg_sl as).length ≤ y.2.2.1) (hv : V g d y 0 (lo0 as y.2.2.1) [] A Ψ) :
    ∃ (t : State) (o : Outcome) (K : List Loc) (k n : Nat) (r : Out) (A' : AH), (∀ acts, Steps p.tables e below (doInvoke e (T.setTop f) acts mk as.toArray).1 t) ∧ Ended t (.java f :: below) o ∧ (T.calling f mk as.toArray).WarmedH t.vm ∧
      (T.calling f mk as.toArray).sameButNew ({ t with vm := (T.calling f mk as.toArray).vm } : State) K k n ∧ (∀ q ∈ K, (gH g).size ≤ q.base) ∧ Ψ r A' ∧ HR g A' t.heap ∧ A.2.1 + k = A'.2.1 ∧ A.2.2 + n = A'.2.2 ∧ oR r A' o := by
  have hTT : TF g T as.toArray := hT.moved X.warmed
  obtain ⟨methk, ck, hmk, hck, hbk, hmlk, hrk, hlk, hek⟩ := hy.facts hTT hn
  have hpk : T.plainMethod mk := by
    refine State.plainMethod.of_name ?_
    intro k hk
    obtain ⟨k', hk', hn'⟩ := className_of_methodNamed hn
    cases hk.symm.trans hk'
    rw [hn']; exact hy.1
  have hle := hH.2.2.2.1
  have hls := hH.2.2.2.2.1
  have hsz := hH.1
  obtain ⟨Y₀, hin⟩ := X.into hg hsize hdg as.toArray (R' := { frames := R.frames - 1, cells := R.cells - cells, slots := R.slots - slots, locals := R.locals - 40 }) hmk hck hlk hpk
    (by show R.frames - 1 + 1 ≤ R.frames; omega) (by rw [hmlk]; show _ + (y.2.2.1 + 11) + (R.locals - 40) ≤ R.locals; omega) (by show cells + (R.cells - cells) ≤ R.cells; omega) (by show slots + (R.slots - slots) ≤ R.slots; omega)
  have hCx : Cx g d y p e { frames := R.frames - 1, cells := R.cells - cells, slots := R.slots - slots, locals := R.locals - 40 } (T.calling f mk as.toArray) mk as.toArray methk ck A.2.2 := by
    refine ⟨hx, hbk, hmlk, hrk, hlk, findClass_of_methodNamed hn, (name_of_methodNamed hn hmk).1, hek, hT.moved (U := T.calling f mk as.toArray) X.warmed, ?_, ?_, ?_, ?_, htr⟩
    · show d + 2 ≤ R.frames - 1; omega
    · show 40 * d + 100 ≤ R.locals - 40; omega
    · show gL g ≤ T.heap.size + (R.cells - cells); omega
    · show gS g ≤ A.2.2 + (R.slots - slots); omega
  obtain ⟨t, hst, o, K, k, n, r, A', h1, h2, h3, h4, h5, h6, h7, h8, h9, h10⟩ := hv p l e _ (T.calling f mk as.toArray) mk as.toArray (.java f :: below) methk ck A.2.2 hCx T.heap [] 0 0 _ ⟨lo0_ok as y.2.2.1 has, hH, by show T.heap.size + 0 = A.2.1; omega, by omega, fun q hq => by cases hq⟩
    ((T.setTop f).pushFrame (.java (entryFrame mk as.toArray ck.maxLocals))) rfl Y₀
  refine ⟨t, o, K, k, n, r, A', fun acts => ?_, h2, h3, h4, h5, h6, h7, by rw [← h8]; show A.2.1 + k = T.heap.size + k; rw [hsz], h9, h10⟩
  rw [hin acts]
  refine steps_weak (mid := [.java f]) ?_
  rw [hmlk] at hst ⊢
  rw [lg_entry_eq] at hst ⊢
  exact hst
theorem v_back {p : Program} {l : Launch} {e : Env} {R : Room} {s : State} {args : Array Value} {below : List Frame} {z : Nat} (hx : p.tables.exec = Jvm.exec) (hT : TF g s args) (hfr : d + 1 + 2 ≤ R.frames) (hlo : 40 * (d + 1) + 100 ≤ R.locals)
    (hgl : gL g ≤ s.heap.size + R.cells) (hgs : gS g ≤ z + R.slots) (htr : e.platform.stackTraces = false) {A : AH} {y : MT} (hy : MW (gW g) y) (hmx : y.2.2.1 ≤ 20) {as : List Value} (has : (lg_sl as).length ≤ y.2.2.1) (hv : V g d y 0 (lo0 as y.2.2.1) [] A Ψ) (hret : ∀ a A', ¬ Ψ (.inr a) A') :
    Back l R p e below s args y.1 3 9 (fun P a => a = as.toArray ∧ HR g A P.U.heap ∧ s.heap.size + P.cells = A.2.1 ∧ z + P.slots = A.2.2)
      (fun P _ v B => ∃ (K : List Loc) (A' : AH), Ψ (.inl v) A' ∧ HR g A' B.U.heap ∧ B.locs = P.locs ++ K ∧ (∀ q ∈ K, (gH g).size ≤ q.base) ∧ s.heap.size + B.cells = A'.2.1 ∧ z + B.slots = A'.2.2) := by
  intro m meth c P f ig mk a X hg hsize hdg hw hn ⟨ha, hH, hc, hz⟩
  subst ha
  obtain ⟨t, o, K, k, n, r, A', hst, hend, hW, hsame, hK, hΦ, hH', hk, hn', ho⟩ := v_into hx hT hfr hlo hgl hgs htr X hH hc hz hy hn hg hsize hdg (by omega) has hv
  cases r with
  | inr a => exact absurd hΦ (hret a A')
  | inl v =>
    cases ho
    obtain ⟨T', X', -, -, ht⟩ := X.outOf hg hdg hend hW hsame
    refine ⟨v, ⟨T', P.locs ++ K, P.cells + k, P.slots + n⟩, X', ⟨K, A', hΦ, ?_, rfl, hK, ?_, ?_⟩, ?_⟩
    · have e1 : t.heap = T'.heap := by rw [ht]; rfl
      show HR g A' T'.heap
      rw [← e1]; exact hH'
    · show s.heap.size + (P.cells + k) = _
      omega
    · show z + (P.slots + n) = _
      omega
    · rw [← ht]; exact hst []
theorem cat_sum (st : List Value) : (st.map fun v => v.category).sum ≤ 2 * st.length := by
  induction st with
  | nil => simp
  | cons v t ih =>
    simp only [List.map_cons, List.sum_cons, List.length_cons]
    have : v.category ≤ 2 := by cases v <;> simp [Value.category]
    omega
def okName (y : MethodName) : Prop := y.cls ≠ "java/lang/invoke/MethodHandle" ∧ y.cls ≠ "java/lang/invoke/VarHandle"
/-- rows of words for a call -/
def CW (WS : List Cond) (own : String) (idx : Nat) (y : MT) (np : Nat) : Prop := (Cond.methodLink own idx y.1 ∈ WS ∨ ∃ host, Cond.methodLinkNest own idx y.1 host ∈ WS) ∧ Cond.code y.1 y.2.1 y.2.2.1 y.2.2.2.1 ∈ WS ∧ y.2.2.2.2 = [] ∧ plainName y.1.cls = true ∧ y.2.2.1 ≤ 20 ∧ okName y.1 ∧ (parseMethodDescriptor y.1.desc).map (fun d => d.parameters.length) = some np
theorem CW.mw {WS : List Cond} {own : String} {idx np : Nat} {y : MT} (h : CW WS own idx y np) : MW WS y := ⟨h.2.2.2.1, Or.inl ⟨h.2.2.1, h.2.1⟩⟩
theorem CW.len {WS : List Cond} {own : String} {idx np : Nat} {y : MT} (h : CW WS own idx y np) {as : List Value} (ha : as.length = np) : ∀ sig, parseMethodDescriptor y.1.desc = some sig → as.length = sig.parameters.length := by
  intro sig hs
  have h2 := h.2.2.2.2.2.2
  rw [hs] at h2
  rw [ha]; exact (Option.some.inj h2).symm
variable {y : MT} {pc : Nat} {L : Lo} {st : List Value} {A : AH} {Φ : Out → AH → Prop}
set_option maxHeartbeats 1000000 in
theorem v_calls {y' : MT} {idx np : Nat} {as st0 : List Value} (hd : decode y.2.1 pc = .ok (.invokestatic idx, 3)) (hw : CW (gW g) y.1.cls idx y' np ∧ Cond.static y'.1 ∈ gW g ∧ Cond.initialized y'.1.cls ∈ gW g) (hs : st0 = as.reverse ++ st) (hnp : as.length = np) (has : (lg_sl as).length ≤ y'.2.2.1) (hst : (st.map fun v => v.category).sum ≤ 9)
    (hv : V g d y' 0 (lo0 as y'.2.2.1) [] A Ψ) (hret : ∀ a A', ¬ Ψ (.inr a) A') (kk : ∀ v A', Ψ (.inl v) A' → V g (d + 1) y (pc + 3) L (v.toList ++ st) A' Φ) : V g (d + 1) y pc L st0 A Φ := by
  intro p l e R s m args below meth c z C H locs cells slots ls X T hTh Y
  have C0 := C
  obtain ⟨hx, hb, hml, -, -, hown, -, -, hT, hfr, hlo, hgl, hgs, htr⟩ := C
  obtain ⟨hcw, w1, w2⟩ := hw
  have hK := v_back (l := l) (R := R) (below := below) (z := z) hx hT hfr hlo hgl hgs htr hcw.mw hcw.2.2.2.2.1 has hv hret
  have hsz : (F0 m pc ls st0).locals.size = c.maxLocals := by rw [hml]; exact X.1.1
  have hwt : 2 * (F0 m pc ls st0).monitorRoom + (st.map fun v => v.category).sum ≤ 9 := by
    show 2 * 0 + _ ≤ 9
    omega
  have hpre : ∀ vm₁, s.WarmedH vm₁ → as.toArray = as.toArray ∧ HR g A (T.setVm vm₁).heap ∧ s.heap.size + cells = A.2.1 ∧ z + slots = A.2.2 := fun vm₁ _ => ⟨rfl, by show HR g A T.heap; rw [hTh]; exact X.2.1, X.2.2.1, X.2.2.2.1⟩
  have fin : ∀ (v : Option Value) (vm₁ : Vm) (B : Pt), Stand p l e R s m args below meth c B.U B.locs B.cells B.slots → (∃ (K : List Loc) (A' : AH), Ψ (.inl v) A' ∧ HR g A' B.U.heap ∧ B.locs = locs ++ K ∧ (∀ q ∈ K, (gH g).size ≤ q.base) ∧ s.heap.size + B.cells = A'.2.1 ∧ z + B.slots = A'.2.2) →
      (∀ target, Steps p.tables e below (B.U.setTop { F0 m pc ls st0 with pc := pc + 3, stack := v.toList ++ st }) target → Steps p.tables e below (T.setTop (F0 m pc ls st0)) target) → ∃ t, Steps p.tables e below (T.setTop (F0 m pc ls st0)) t ∧ Ex g below s z Φ t := by
    intro v vm₁ B Y' ⟨K, A', hΨ, hH', hl', hK', hc', hz'⟩ hsteps
    obtain ⟨t, a, b⟩ := kk v A' hΨ p l e R s m args below meth c z C0 B.U.heap B.locs B.cells B.slots ls ⟨X.1, hH', hc', hz', by rw [hl']; exact t_lL X.2.2.2.2 hK'⟩ B.U rfl Y'
    exact ⟨t, hsteps t a, b⟩
  rcases hcw.1 with hl | ⟨host, hl⟩
  · obtain ⟨v, vm₁, B, -, Y', hpost, hsteps⟩ := callS Y hx hown (hT.1 _ hl) (hT.1 _ w1) (hT.1 _ w2) (hT.1 _ hcw.2.1) hcw.2.2.2.2.2.1 hK (g := F0 m pc ls st0) rfl hsz (hcw.len hnp) hs hwt (by rw [hb]; exact hd) hpre
    exact fin v vm₁ B Y' hpost hsteps
  · obtain ⟨v, vm₁, B, -, Y', hpost, hsteps⟩ := va_callSN Y hx hown (hT.1 _ hl) (hT.1 _ w1) (hT.1 _ w2) (hT.1 _ hcw.2.1) hcw.2.2.2.2.2.1 hK (g := F0 m pc ls st0) rfl hsz (hcw.len hnp) hs hwt (by rw [hb]; exact hd) hpre
    exact fin v vm₁ B Y' hpost hsteps
set_option maxHeartbeats 1000000 in
theorem v_callv {y' : MT} {idx np ci b : Nat} {fs as st0 : List Value} {r : vw_C} (hd : decode y.2.1 pc = .ok (.invokevirtual idx, 3)) (hw : CW (gW g) y.1.cls idx y' np ∧ Cond.instanceMethod y'.1 ∈ gW g ∧ Cond.selects r.1 y'.1 y'.1 ∈ gW g ∧ ci < 100) (hr : (gC g)[ci]? = some r) (hB : A.1 b = some (ci, fs)) (hs : st0 = as.reverse ++ .ref b :: st) (hnp : as.length = np) (has : (lg_sl (.ref b :: as)).length ≤ y'.2.2.1) (hst : (st.map fun v => v.category).sum ≤ 9)
    (hv : V g d y' 0 (lo0 (.ref b :: as) y'.2.2.1) [] A Ψ) (hret : ∀ a A', ¬ Ψ (.inr a) A') (kk : ∀ v A', Ψ (.inl v) A' → V g (d + 1) y (pc + 3) L (v.toList ++ st) A' Φ) : V g (d + 1) y pc L st0 A Φ := by
  intro p l e R s m args below meth c z C H locs cells slots ls X T hTh Y
  have C0 := C
  obtain ⟨hx, hb, hml, -, -, hown, -, -, hT, hfr, hlo, hgl, hgs, htr⟩ := C
  obtain ⟨hcw, w1, w2, hci⟩ := hw
  have hK := v_back (l := l) (R := R) (below := below) (z := z) hx hT hfr hlo hgl hgs htr hcw.mw hcw.2.2.2.2.1 has hv hret
  have hsz : (F0 m pc ls st0).locals.size = c.maxLocals := by rw [hml]; exact X.1.1
  have hwt : 2 * (F0 m pc ls st0).monitorRoom + (st.map fun v => v.category).sum ≤ 9 := by
    show 2 * 0 + _ ≤ 9
    omega
  have hpre : ∀ vm₁, s.WarmedH vm₁ → (Value.ref b :: as).toArray = (Value.ref b :: as).toArray ∧ HR g A (T.setVm vm₁).heap ∧ s.heap.size + cells = A.2.1 ∧ z + slots = A.2.2 := fun vm₁ _ => ⟨rfl, by show HR g A T.heap; rw [hTh]; exact X.2.1, X.2.2.1, X.2.2.2.1⟩
  obtain ⟨-, cellB, hcB, hokB⟩ := X.2.1.2.2.2.2.2 b _ hB
  obtain ⟨r', hr', hcls, hvm, -, -⟩ := hokB.obj hci
  cases hr.symm.trans hr'
  obtain ⟨-, hCA⟩ := hT.2.2.1.1 ci _ hr
  have hcB' : T.heap[b]? = some cellB := by rw [hTh]; exact hcB
  have hob : cellB.vm.isStatics = false := by rw [hvm]; rfl
  have hclB : s.vm.findClass r.1 = some cellB.cls := by rw [hcls]; exact hCA.1
  have fin : ∀ (v : Option Value) (vm₁ : Vm) (B : Pt), Stand p l e R s m args below meth c B.U B.locs B.cells B.slots → (∃ (K : List Loc) (A' : AH), Ψ (.inl v) A' ∧ HR g A' B.U.heap ∧ B.locs = locs ++ K ∧ (∀ q ∈ K, (gH g).size ≤ q.base) ∧ s.heap.size + B.cells = A'.2.1 ∧ z + B.slots = A'.2.2) →
      (∀ target, Steps p.tables e below (B.U.setTop { F0 m pc ls st0 with pc := pc + 3, stack := v.toList ++ st }) target → Steps p.tables e below (T.setTop (F0 m pc ls st0)) target) → ∃ t, Steps p.tables e below (T.setTop (F0 m pc ls st0)) t ∧ Ex g below s z Φ t := by
    intro v vm₁ B Y' ⟨K, A', hΨ, hH', hl', hK', hc', hz'⟩ hsteps
    obtain ⟨t, a, b⟩ := kk v A' hΨ p l e R s m args below meth c z C0 B.U.heap B.locs B.cells B.slots ls ⟨X.1, hH', hc', hz', by rw [hl']; exact t_lL X.2.2.2.2 hK'⟩ B.U rfl Y'
    exact ⟨t, hsteps t a, b⟩
  rcases hcw.1 with hl | ⟨host, hl⟩
  · obtain ⟨v, vm₁, B, -, Y', hpost, hsteps⟩ := callV Y hx hown (hT.1 _ hl) (hT.1 _ w1) (hT.1 _ w2) (hT.1 _ hcw.2.1) hcw.2.2.2.2.2.1 hK hcB' hob hclB (g := F0 m pc ls st0) rfl hsz (hcw.len hnp) hs hwt (by rw [hb]; exact hd) hpre
    exact fin v vm₁ B Y' hpost hsteps
  · obtain ⟨v, vm₁, B, -, Y', hpost, hsteps⟩ := va_callVN Y hx hown (hT.1 _ hl) (hT.1 _ w1) (hT.1 _ w2) (hT.1 _ hcw.2.1) hcw.2.2.2.2.2.1 hK hcB' hob hclB (g := F0 m pc ls st0) rfl hsz (hcw.len hnp) hs hwt (by rw [hb]; exact hd) hpre
    exact fin v vm₁ B Y' hpost hsteps
set_option maxHeartbeats 1000000 in
theorem v_calli {y' : MT} {idx np b : Nat} {as st0 : List Value} (hd : decode y.2.1 pc = .ok (.invokespecial idx, 3)) (hw : CW (gW g) y.1.cls idx y' np ∧ Cond.instanceMethod y'.1 ∈ gW g ∧ y'.1.name = "<init>" ∧ y'.2.2.2.1 = none) (hs : st0 = as.reverse ++ .ref b :: st) (hnp : as.length = np) (has : (lg_sl (.ref b :: as)).length ≤ y'.2.2.1) (hst : (st.map fun v => v.category).sum ≤ 9)
    (hv : V g d y' 0 (lo0 (.ref b :: as) y'.2.2.1) [] A Ψ) (hret : ∀ a A', ¬ Ψ (.inr a) A') (kk : ∀ v A', Ψ (.inl v) A' → V g (d + 1) y (pc + 3) L (v.toList ++ st) A' Φ) : V g (d + 1) y pc L st0 A Φ := by
  intro p l e R s m args below meth c z C H locs cells slots ls X T hTh Y
  have C0 := C
  obtain ⟨hx, hb, hml, -, -, hown, -, -, hT, hfr, hlo, hgl, hgs, htr⟩ := C
  obtain ⟨hcw, w1, w2, w3⟩ := hw
  have hK := v_back (l := l) (R := R) (below := below) (z := z) hx hT hfr hlo hgl hgs htr hcw.mw hcw.2.2.2.2.1 has hv hret
  have hsz : (F0 m pc ls st0).locals.size = c.maxLocals := by rw [hml]; exact X.1.1
  have hwt : 2 * (F0 m pc ls st0).monitorRoom + (st.map fun v => v.category).sum ≤ 9 := by
    show 2 * 0 + _ ≤ 9
    omega
  have hpre : ∀ vm₁, s.WarmedH vm₁ → (Value.ref b :: as).toArray = (Value.ref b :: as).toArray ∧ HR g A (T.setVm vm₁).heap ∧ s.heap.size + cells = A.2.1 ∧ z + slots = A.2.2 := fun vm₁ _ => ⟨rfl, by show HR g A T.heap; rw [hTh]; exact X.2.1, X.2.2.1, X.2.2.2.1⟩
  have hcode := hT.1 _ hcw.2.1
  rw [w3] at hcode
  have fin : ∀ (v : Option Value) (vm₁ : Vm) (B : Pt), Stand p l e R s m args below meth c B.U B.locs B.cells B.slots → (∃ (K : List Loc) (A' : AH), Ψ (.inl v) A' ∧ HR g A' B.U.heap ∧ B.locs = locs ++ K ∧ (∀ q ∈ K, (gH g).size ≤ q.base) ∧ s.heap.size + B.cells = A'.2.1 ∧ z + B.slots = A'.2.2) →
      (∀ target, Steps p.tables e below (B.U.setTop { F0 m pc ls st0 with pc := pc + 3, stack := v.toList ++ st }) target → Steps p.tables e below (T.setTop (F0 m pc ls st0)) target) → ∃ t, Steps p.tables e below (T.setTop (F0 m pc ls st0)) t ∧ Ex g below s z Φ t := by
    intro v vm₁ B Y' ⟨K, A', hΨ, hH', hl', hK', hc', hz'⟩ hsteps
    obtain ⟨t, a, b⟩ := kk v A' hΨ p l e R s m args below meth c z C0 B.U.heap B.locs B.cells B.slots ls ⟨X.1, hH', hc', hz', by rw [hl']; exact t_lL X.2.2.2.2 hK'⟩ B.U rfl Y'
    exact ⟨t, hsteps t a, b⟩
  rcases hcw.1 with hl | ⟨host, hl⟩
  · obtain ⟨v, vm₁, B, -, Y', hpost, hsteps⟩ := callI Y hx hown w2 (hT.1 _ hl) (hT.1 _ w1) hcode hcw.2.2.2.2.2.1 hK (g := F0 m pc ls st0) rfl hsz (hcw.len hnp) hs hwt (by rw [hb]; exact hd) hpre
    exact fin v vm₁ B Y' hpost hsteps
  · obtain ⟨v, vm₁, B, -, Y', hpost, hsteps⟩ := va_callIN Y hx hown w2 (hT.1 _ hl) (hT.1 _ w1) hcode hcw.2.2.2.2.2.1 hK (g := F0 m pc ls st0) rfl hsz (hcw.len hnp) hs hwt (by rw [hb]; exact hd) hpre
    exact fin v vm₁ B Y' hpost hsteps
theorem v_objinit {idx b : Nat} (hd : decode y.2.1 pc = .ok (.invokespecial idx, 3)) (hw : Cond.methodLink y.1.cls idx Lib.objectInit ∈ gW g ∧ Cond.instanceMethod Lib.objectInit ∈ gW g ∧ Cond.code Lib.objectInit ⟨#[0xb1]⟩ 1 none ∈ gW g) (hst : (st.map fun v => v.category).sum ≤ 9) (h : V g d y (pc + 3) L st A Φ) : V g d y pc L (.ref b :: st) A Φ := by
  intro p l e R s m args below meth c z C H locs cells slots ls X
  have kk := h p l e R s m args below meth c z C H locs cells slots ls X
  obtain ⟨hx, hb, hml, -, -, hown, -, -, hT, hfr, hlo, -⟩ := C
  refine W.objInit hx hb hown (hT.1 _ hw.1) (hT.1 _ hw.2.1) (hT.1 _ hw.2.2) rfl (by rw [hml]; exact X.1.1) rfl hd (by omega) ?_ kk
  show 2 * 0 + _ + 12 ≤ R.locals
  omega
end VC
