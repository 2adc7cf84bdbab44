/-! laws of the machine that these rows need: the word on an array of arrays; what 'multianewarray' makes; a throw that is caught behind rows that it passes -/
theorem ov_arr {s : State} {args : Array Value} {t : FieldType} (h : (Cond.arrayOver (.array t)).before args s = true) :
    ∃ cI cA kA, s.vm.findClass (FieldType.array t).toString = some cI ∧ s.vm.classes[cA]? = some kA ∧ kA.kind = .array cI (.array t) ∧ s.vm.findClass ("[" ++ (FieldType.array t).toString) = some cA := by
  have h1 : (Cond.arrayOver (.array t)).holds args s none s [] = true := h
  rw [Cond.holds] at h1
  have h2 := eq_of_beq h1
  simp only [Cond.value] at h2
  obtain ⟨cI, e1, h2⟩ := Option.bind_eq_some_iff.mp h2
  obtain ⟨cA, e2, h2⟩ := Option.bind_eq_some_iff.mp h2
  obtain ⟨kA, e3, h2⟩ := Option.map_eq_some_iff.mp h2
  have e4 := (Array.findIdx?_eq_some_iff_getElem.mp e2).2.1
  rw [(Array.getElem?_eq_some_iff.mp e3).2] at e4
  rcases hq : kA.kind with _ | _ | ⟨co, ty⟩ <;> rw [hq] at e4 h2 <;> simp only [Bool.and_eq_true, decide_eq_true_eq, beq_iff_eq] at e4 h2 <;> try exact absurd h2 (by decide)
  exact ⟨cI, cA, kA, e1, e3, by rw [hq, e4, h2.1], h2.2⟩
/-- the outer array when i of its N places are laid; an inner array; the state then -/
def mnO (cA : ClassId) (N h i : Nat) : Cell := { cls := cA, slots := ((List.range N).map fun k => if k < i then Value.ref (h + 1 + k) else .null).toArray, vm := .none }
def mnI (cI : ClassId) (K : Nat) : Cell := { cls := cI, slots := Array.replicate K (.int 0), vm := .none }
def mnS (S : State) (cA cI : ClassId) (N K : Nat) : Nat → State
  | 0 => S.pushCell (mnO cA N S.heap.size 0)
  | i + 1 => ((mnS S cA cI N K i).pushCell (mnI cI K)).setCell S.heap.size (mnO cA N S.heap.size (i + 1))
theorem mnO_nil (cA : ClassId) (N h : Nat) : mnO cA N h 0 = { cls := cA, slots := Array.replicate N .null, vm := .none } := by
  unfold mnO
  congr 1
  apply Array.ext'
  rw [Array.toList_replicate]
  exact List.ext_getElem (by simp) (fun q _ _ => by simp)
theorem mnO_put (cA : ClassId) (N h i : Nat) : (mnO cA N h i).setSlot i (.ref (h + 1 + i)) = mnO cA N h (i + 1) := by
  unfold mnO
  simp only [Cell.setSlot]
  congr 1
  apply Array.ext'
  simp only [Array.toList_setIfInBounds]
  refine List.ext_getElem (by simp) (fun q q1 q2 => ?_)
  simp only [List.getElem_set, List.getElem_map, List.getElem_range]
  rcases Nat.lt_trichotomy i q with hq | hq | hq
  · rw [if_neg (by omega), if_neg (by omega), if_neg (by omega)]
  · subst hq; rw [if_pos rfl, if_pos (by omega)]
  · rw [if_neg (by omega), if_pos hq, if_pos (by omega)]
theorem mn_get (U : State) (x z : Cell) (h q : Nat) (hh : h < U.heap.size) : ((U.pushCell x).setCell h z).heap[q]? = if q = h then some z else if q = U.heap.size then some x else U.heap[q]? := by
  show ((U.heap.push x).setIfInBounds h z)[q]? = _
  rw [Array.getElem?_setIfInBounds, Array.getElem?_push, Array.size_push]
  by_cases e : h = q
  · rw [if_pos e, if_pos e.symm, if_pos (by omega)]
  · rw [if_neg e, if_neg (show ¬ q = h from fun h9 => e h9.symm)]
theorem mnS_all (S : State) (cA cI : ClassId) (N K : Nat) : ∀ i, (mnS S cA cI N K i).heap.size = S.heap.size + 1 + i ∧ (mnS S cA cI N K i).vm = S.vm ∧ (mnS S cA cI N K i).slotsUsed = S.slotsUsed + N + i * K ∧
    ∀ q : Nat, (mnS S cA cI N K i).heap[q]? = if q = S.heap.size then some (mnO cA N S.heap.size i) else if S.heap.size < q ∧ q < S.heap.size + 1 + i then some (mnI cI K) else S.heap[q]? := by
  intro i
  induction i with
  | zero =>
    refine ⟨by simp [mnS], rfl, by simp [mnS, mnO], fun q => ?_⟩
    show (S.heap.push _)[q]? = _
    rw [Array.getElem?_push]
    by_cases e : q = S.heap.size
    · rw [if_pos e, if_pos e]
    · rw [if_neg e, if_neg e, if_neg (by omega)]
  | succ i ih =>
    obtain ⟨h1, h2, h3, h4⟩ := ih
    refine ⟨?_, h2, ?_, fun q => ?_⟩
    · show ((mnS S cA cI N K i).heap.push _ |>.setIfInBounds _ _).size = _
      rw [Array.size_setIfInBounds, Array.size_push, h1]; omega
    · show (mnS S cA cI N K i).slotsUsed + (mnI cI K).slots.size = _
      rw [h3, Nat.add_mul]; simp [mnI]; omega
    · have h5 := mn_get (mnS S cA cI N K i) (mnI cI K) (mnO cA N S.heap.size (i + 1)) S.heap.size q (by omega)
      rw [h4 q, h1] at h5
      refine h5.trans ?_
      by_cases e : q = S.heap.size
      · rw [if_pos e, if_pos e]
      · rw [if_neg e, if_neg e, if_neg e]
        by_cases e2 : q = S.heap.size + 1 + i
        · rw [if_pos e2, if_pos (by omega)]
        · rw [if_neg e2]
          by_cases e3 : S.heap.size < q ∧ q < S.heap.size + 1 + i
          · rw [if_pos e3, if_pos (by omega)]
          · rw [if_neg e3, if_neg (by omega)]
theorem mnS_top (S : State) (f : JFrame) (cA cI : ClassId) (N K : Nat) : ∀ i, mnS (S.setTop f) cA cI N K i = (mnS S cA cI N K i).setTop f := by
  intro i
  induction i with
  | zero => show (S.setTop f).pushCell _ = (S.pushCell _).setTop f; rw [State.pushCell_setTop, State.heap_setTop]
  | succ i ih =>
    show ((mnS (S.setTop f) cA cI N K i).pushCell _).setCell _ _ = (((mnS S cA cI N K i).pushCell _).setCell _ _).setTop f
    rw [ih, State.pushCell_setTop, State.setCell_setTop, State.heap_setTop]
section MW
variable {E : CtlPost} {e : Env} {b : Bool} {acts : List Action} {S : State} {cA cI cc : ClassId} {kA kI : Class} {n k : Int32}
theorem mn_one {Q : Addr → Pre} (hI : S.vm.classes[cI]? = some kI) (hIk : kI.kind = .array cc .int) (hk : ¬ k < 0) (l1 : k.toNatClampNeg ≤ e.platform.arrayLengthLimit) (l2 : k.toNatClampNeg * 4 ≤ e.platform.maxHeapBytes)
    (r1 : S.heap.size < e.platform.maxCells) (r2 : S.slotsUsed + k.toNatClampNeg ≤ e.platform.maxSlots) (q : ∀ acts', Q S.heap.size b acts' (S.pushCell (mnI cI k.toNatClampNeg))) : wp (Jvm.Op.multianewarray.make cI [k]) Q E e b acts S := by
  rw [Jvm.Op.multianewarray.make]
  simp only [wp_bind', W.ite, hk, if_false, wp_pure', W.theClass, hI, hIk, Option.some.injEq, exists_eq_left']
  exact Jvm.W.newArray_of hI hIk (by omega) (by show ¬ k.toNatClampNeg * 4 > _; omega) r1 r2 rfl q
theorem mn_two {Q : Addr → Pre} (hA : S.vm.classes[cA]? = some kA) (hAk : kA.kind = .array cI (.array .int)) (hI : S.vm.classes[cI]? = some kI) (hIk : kI.kind = .array cc .int) (hn : ¬ n < 0) (hk : ¬ k < 0)
    (l1 : n.toNatClampNeg ≤ e.platform.arrayLengthLimit) (l2 : n.toNatClampNeg * 4 ≤ e.platform.maxHeapBytes) (l3 : k.toNatClampNeg ≤ e.platform.arrayLengthLimit) (l4 : k.toNatClampNeg * 4 ≤ e.platform.maxHeapBytes)
    (r1 : S.heap.size + (1 + n.toNatClampNeg) ≤ e.platform.maxCells) (r2 : S.slotsUsed + (n.toNatClampNeg + n.toNatClampNeg * k.toNatClampNeg) ≤ e.platform.maxSlots)
    (q : ∀ b' acts', Q S.heap.size b' acts' (mnS S cA cI n.toNatClampNeg k.toNatClampNeg n.toNatClampNeg)) : wp (Jvm.Op.multianewarray.make cA [n, k]) Q E e b acts S := by
  have hno : ([k].find? fun z => decide (z < 0)) = none := by simp [hk]
  rw [Jvm.Op.multianewarray.make]
  simp only [wp_bind', W.ite, hn, if_false, wp_pure', W.theClass, hA, hAk, Option.some.injEq, exists_eq_left']
  refine Jvm.W.newArray_of hA hAk (by omega) (by show ¬ n.toNatClampNeg * 4 > _; omega) (by omega) (by omega) rfl (fun acts1 => ?_)
  have e0 : S.pushCell { cls := cA, slots := Array.replicate n.toNatClampNeg .null } = mnS S cA cI n.toNatClampNeg k.toNatClampNeg 0 := by
    show _ = S.pushCell (mnO cA n.toNatClampNeg S.heap.size 0)
    rw [mnO_nil]
  rw [e0]
  simp only [hno]
  rw [ite_self, wp_bind', Std.Legacy.Range.forIn_eq_forIn_range']
  refine wp_forIn_inv (fun rest U => ∃ i, i + rest.length = n.toNatClampNeg ∧ rest = List.range' i rest.length ∧ U = mnS S cA cI n.toNatClampNeg k.toNatClampNeg i) _ _ ⟨0, by simp [Std.Legacy.Range.size], by simp [Std.Legacy.Range.size], rfl⟩ ?_ ?_
  · rintro x rest U b1 acts2 Q1 ⟨i, hi, hr, rfl⟩ hgo
    rw [List.length_cons] at hi hr
    rw [List.range'_succ] at hr
    obtain ⟨rfl, hr⟩ := List.cons.inj hr
    obtain ⟨f1, f2, f3, f4⟩ := mnS_all S cA cI n.toNatClampNeg k.toNatClampNeg x
    have hm : (x + 1) * k.toNatClampNeg ≤ n.toNatClampNeg * k.toNatClampNeg := Nat.mul_le_mul_right _ (by omega)
    rw [Nat.add_mul, Nat.one_mul] at hm
    simp only [wp_bind']
    refine mn_one (by rw [f2]; exact hI) hIk hk l3 l4 (by omega) (by omega) (fun acts3 => ?_)
    simp only [wp_bind', W.writeLoc, wp_pure']
    refine ⟨mnO cA n.toNatClampNeg S.heap.size x, ?_, by simp [mnO], by simp [mnO]; omega, ?_, hgo _ _ _ ⟨x + 1, by omega, hr, ?_⟩⟩
    · rw [State.heap_pushCell_of_lt (h := show S.heap.size < (mnS S cA cI n.toNatClampNeg k.toNatClampNeg x).heap.size by omega), f4, if_pos rfl]
    · simp [State.fitsSlot, State.slotType?, mnO, f2, hA, hAk, fits]
    · rw [f1, mnO_put]; rfl
  · rintro U b1 acts2 ⟨i, hi, -, rfl⟩
    have hi : i = n.toNatClampNeg := by simpa using hi
    subst hi
    simp only [wp_pure']
    exact q _ _
end MW
section MX
variable {p : Program} {l : Launch} {e : Env} {R : Room} {s : State} {m : MethodId} {args : Array Value} {below : List Frame} {meth : Method} {c : Code} {T : State} {locs : List Loc} {cells slots : Nat}
theorem mn_stand (X : Stand p l e R s m args below meth c T locs cells slots) (cA cI : ClassId) (N K : Nat) : ∀ i, Stand p l e R s m args below meth c (mnS T cA cI N K i) locs (cells + 1 + i) (slots + N + i * K) := by
  intro i
  induction i with
  | zero =>
    have h := X.pushed (mnO cA N T.heap.size 0)
    have e1 : (mnO cA N T.heap.size 0).slots.size = N := by simp [mnO]
    rw [e1] at h
    rw [Nat.zero_mul]
    exact h
  | succ i ih =>
    obtain ⟨f1, -, -, f4⟩ := mnS_all T cA cI N K i
    have hc : ((mnS T cA cI N K i).pushCell (mnI cI K)).heap[T.heap.size]? = some (mnO cA N T.heap.size i) := by rw [State.heap_pushCell_of_lt (h := show T.heap.size < (mnS T cA cI N K i).heap.size by omega), f4, if_pos rfl]
    have h := ((ih.pushed (mnI cI K)).stored hc i (.ref (T.heap.size + 1 + i))).dropFresh (fun x hx => by rw [List.mem_singleton.mp hx]; exact X.heapGrown)
    rw [mnO_put, show (mnI cI K).slots.size = K by simp [mnI]] at h
    rw [show slots + N + (i + 1) * K = slots + N + i * K + K by rw [Nat.add_mul, Nat.one_mul]; omega]
    exact h
theorem mn_law (X : Stand p l e R s m args below meth c T locs cells slots) (hexec : p.tables.exec = Jvm.exec) {own : String} {idx : Nat} (hown : s.vm.findClass own = some m.cls) (w1 : (Cond.classLink own idx "[[I").before args s = true)
    (w2 : (Cond.arrayOver (.array .int)).before args s = true) (w3 : (Cond.arrayClass .int).before args s = true) {f : JFrame} (hf : f.method = m) (hd : decode c.code f.pc = .ok (.multianewarray idx 2, 4)) {n k : Int32} {st : List Value}
    (hst : f.stack = .int k :: .int n :: st) (hn : ¬ n < 0) (hk : ¬ k < 0) (b1 : n.toNatClampNeg * 4 ≤ 536870912) (b2 : k.toNatClampNeg * 4 ≤ 536870912) (hc : cells + (1 + n.toNatClampNeg) ≤ R.cells)
    (hs : slots + (n.toNatClampNeg + n.toNatClampNeg * k.toNatClampNeg) ≤ R.slots) :
    ∃ (vm : Vm) (cA cI : ClassId), s.vm.findClass "[[I" = some cA ∧ s.vm.findClass "[I" = some cI ∧
      Stand p l e R s m args below meth c (mnS (T.setVm vm) cA cI n.toNatClampNeg k.toNatClampNeg n.toNatClampNeg) locs (cells + 1 + n.toNatClampNeg) (slots + n.toNatClampNeg + n.toNatClampNeg * k.toNatClampNeg) ∧
      ∀ t, Steps p.tables e below ((mnS (T.setVm vm) cA cI n.toNatClampNeg k.toNatClampNeg n.toNatClampNeg).setTop { f with pc := f.pc + 4, stack := .ref T.heap.size :: st }) t → Steps p.tables e below (T.setTop f) t := by
  subst hf
  obtain ⟨cI, cA, kA, o1, o2, o3, o4⟩ := ov_arr w2
  obtain ⟨cI', kI, cc, a1, a2, a3⟩ := Cond.arrayClass_spec w3
  cases (show some cI' = some cI from a1.symm.trans o1)
  obtain ⟨cA', k1, k2⟩ := Cond.classLink_spec hown w1 e.platform (by rw [X.admits.platform])
  cases (show some cA' = some cA from k1.symm.trans o4)
  obtain ⟨g1, g2, -⟩ := State.classEntry (e := e) X.warmed k2
  generalize T.vm.noted f.method.cls idx (.cls cA) = vm at g1 g2
  obtain ⟨jA, jA1, jA2⟩ := g2.alike.2.2 _ _ o2
  obtain ⟨jI, jI1, jI2⟩ := g2.alike.2.2 _ _ a2
  have X1 := X.noted g2
  have X2 := mn_stand X1 cA cI n.toNatClampNeg k.toNatClampNeg n.toNatClampNeg
  obtain ⟨q1, q2⟩ := X.roomAbove hc hs
  have p1 := Launch.admits_arrayLengthLimit X.admits
  have p2 := Launch.admits_maxHeapBytes X.admits
  refine ⟨vm, cA, cI, o4, o1, X2, fun t ht => ?_⟩
  jvm_step X.here [hexec, hd]
  simp only [Jvm.Op.multianewarray.sem, wp_bind', W.resolveClassAt_links (State.method?_setTop f X.here.top) g1]
  rw [W.popN, if_neg (by decide)]
  refine ⟨f, State.topJava?_setTop' (s := T.setVm vm) f X.here.top, [.int n, .int k], st, rfl, hst, ?_⟩
  simp only [List.mapM_cons, List.mapM_nil, wp_bind', wp_pure']
  have e1 : ((T.setTop f).setVm vm).setTop { f with stack := st } = (T.setVm vm).setTop { f with stack := st } := by
    show ((T.setVm vm).setTop f).setTop _ = _
    rw [State.setTop_setTop]
  rw [e1]
  refine mn_two (kA := jA) (kI := jI) (cI := cI) (cc := cc) (by rw [State.vm_setTop]; exact jA1) (by rw [jA2]; exact o3) (by rw [State.vm_setTop]; exact jI1) (by rw [jI2]; exact a3) hn hk (by rw [p1]; omega) (by rw [p2]; omega) (by rw [p1]; omega) (by rw [p2]; omega)
    (by rw [State.heap_setTop]; exact q1) (by show T.slotsUsed + _ ≤ _; exact q2) (fun b' acts' => ?_)
  rw [mnS_top]
  simp only [wp_bind', W.mark, W.pushRef, State.topJava?_setTop' _ X2.here.top, Option.some.injEq, exists_eq_left', State.setTop_setTop, State.heap_setTop]
  intro acts2
  simp [jvm, X2.here.top]
  exact ht
end MX
/-- a row that covers the place and names a class that links: the search notes the class, and takes the object or goes on -/
theorem ko_row {e : Env} {S : State} {f : JFrame} {a : Addr} {w : ExceptionTableEntry} {t : List ExceptionTableEntry} {cw : ClassId} {cell : Cell} (r : Bool) (hc : covers w f.pc = true) (h0 : w.catchType ≠ 0)
    (hl : S.vm.ClassLinks e.platform f.method.cls w.catchType cw) (hcell : S.heap[a]? = some cell) (hob : ∀ k, cell.vm ≠ .statics k) (k1 : ∃ k, S.vm.classes[cell.cls]? = some k) (k2 : ∃ k, S.vm.classes[cw]? = some k)
    (hr : S.vm.assignable cell.cls cw = r) (Q : Handler → Pre) (E : CtlPost) (b : Bool) (acts : List Action) :
    wp (findHandler.go f a (w :: t)) Q E e b acts S ↔ (if r = true then Q (.found w.handlerPc) b acts (S.setVm (S.vm.noted f.method.cls w.catchType (.cls cw))) else wp (findHandler.go f a t) Q E e b acts (S.setVm (S.vm.noted f.method.cls w.catchType (.cls cw)))) := by
  have al : S.vm.Alike (S.vm.noted f.method.cls w.catchType (.cls cw)) := (Vm.Alike.refl S.vm).noted _ _ _
  obtain ⟨x1, hx1⟩ := k1
  obtain ⟨x2, hx2⟩ := k2
  obtain ⟨z1, hz1, -⟩ := al.2.2 _ _ hx1
  obtain ⟨z2, hz2, -⟩ := al.2.2 _ _ hx2
  obtain ⟨r1, r2⟩ := (resolveClass_links e.toSetting hl).op (op := VmOp.resolveClass f.method.cls w.catchType) rfl
  rw [← al.assignable] at hr
  simp only [covers] at hc
  cases r <;> simp [findHandler.go, hc, h0, r1, r2, hcell, hob, hz1, hz2, hr, VmOp.dirties, VmOp.acts]
/-- a row that an object of class cx passes; one that takes it -/
def KoP (pl : Platform) (s : State) (cm : ClassId) (pc : Nat) (cx : ClassId) (w : ExceptionTableEntry) : Prop := covers w pc = false ∨ (w.catchType ≠ 0 ∧ ∃ cw, s.vm.ClassLinks pl cm w.catchType cw ∧ s.vm.assignable cx cw = false)
def KoC (pl : Platform) (s : State) (cm : ClassId) (pc : Nat) (cx : ClassId) (w : ExceptionTableEntry) : Prop := covers w pc = true ∧ w.catchType ≠ 0 ∧ ∃ cw, s.vm.ClassLinks pl cm w.catchType cw ∧ s.vm.assignable cx cw = true
theorem ko_search {e : Env} {s : State} {f : JFrame} {a : Addr} {cell : Cell} {z : ExceptionTableEntry} {rest : List ExceptionTableEntry} (hob : ∀ k, cell.vm ≠ .statics k) (hk : ∃ k, s.vm.classes[cell.cls]? = some k)
    (hz : KoC e.platform s f.method.cls f.pc cell.cls z) (pre : List ExceptionTableEntry) : ∀ S : State, s.WarmedH S.vm → S.heap[a]? = some cell → (∀ w ∈ pre, KoP e.platform s f.method.cls f.pc cell.cls w) →
      ∃ vm, s.WarmedH vm ∧ ∀ (Q : Handler → Pre) (E : CtlPost) (b : Bool) (acts : List Action), wp (findHandler.go f a (pre ++ z :: rest)) Q E e b acts S ↔ Q (.found z.handlerPc) b acts (S.setVm vm) := by
  have key : ∀ (w : ExceptionTableEntry) (t : List ExceptionTableEntry) (cw : ClassId) (r : Bool) (S : State), s.WarmedH S.vm → S.heap[a]? = some cell → covers w f.pc = true → w.catchType ≠ 0 → s.vm.ClassLinks e.platform f.method.cls w.catchType cw → s.vm.assignable cell.cls cw = r →
      ∃ vm, s.WarmedH vm ∧ ∀ (Q : Handler → Pre) (E : CtlPost) (b : Bool) (acts : List Action), wp (findHandler.go f a (w :: t)) Q E e b acts S ↔ (if r = true then Q (.found w.handlerPc) b acts (S.setVm vm) else wp (findHandler.go f a t) Q E e b acts (S.setVm vm)) := by
    intro w t cw r S hW hcell hcov h0 hl hr
    obtain ⟨x0, h0k⟩ := hk
    obtain ⟨y0, h0y, -⟩ := hW.alike.2.2 _ _ h0k
    obtain ⟨dk, _, _, kt, hd, _, _, _, _, hkt, _, hopen⟩ := hl.here
    obtain ⟨y1, h1y, -⟩ := hW.alike.2.2 _ _ hkt
    exact ⟨_, hW.noted hd hopen (State.rightAt_cls hl), ko_row r hcov h0 (hW.classLinks hl) hcell hob ⟨y0, h0y⟩ ⟨y1, h1y⟩ (by rw [hW.alike.assignable]; exact hr)⟩
  induction pre with
  | nil =>
    intro S hW hcell _
    obtain ⟨z1, z2, cw, z3, z4⟩ := hz
    obtain ⟨vm, v1, v2⟩ := key z rest cw true S hW hcell z1 z2 z3 z4
    exact ⟨vm, v1, fun Q E b acts => (v2 Q E b acts).trans (by rw [if_pos rfl])⟩
  | cons w t ih =>
    intro S hW hcell hp
    have hp' : ∀ w ∈ t, KoP e.platform s f.method.cls f.pc cell.cls w := fun x hx => hp x (List.mem_cons_of_mem _ hx)
    cases hc : covers w f.pc with
    | false =>
      obtain ⟨vm, v1, v2⟩ := ih S hW hcell hp'
      exact ⟨vm, v1, fun Q E b acts => (W.findHandler_go_skip hc).trans (v2 Q E b acts)⟩
    | true =>
      rcases hp w (List.mem_cons_self ..) with h | ⟨h0, cw, hl, hr⟩
      · rw [hc] at h; cases h
      · obtain ⟨vm, v1, v2⟩ := key w (t ++ z :: rest) cw false S hW hcell hc h0 hl hr
        obtain ⟨vm2, u1, u2⟩ := ih (S.setVm vm) v1 hcell hp'
        exact ⟨vm2, u1, fun Q E b acts => (v2 Q E b acts).trans (by rw [if_neg (by decide)]; exact u2 Q E b acts)⟩
theorem ko_step {e : Env} {S : State} {a : Addr} {f : JFrame} {r : List Frame} {pc : Nat} {vm : Vm} (h : ∀ (Q : Handler → Pre) (E : CtlPost) (b : Bool) (acts : List Action), wp (findHandler f a) Q E e b acts S ↔ Q (.found pc) b acts (S.setVm vm)) :
    (stepThrowing e S a (.java f :: r)).1 = (S.setVm vm).setFrames (.java { f with pc := pc, stack := [.ref a] } :: r) := by
  simp only [stepThrowing, searchFrame, vmDo]
  generalize hr : Sem.go _ e false [] S = res
  obtain ⟨as, rfl, -⟩ := Sem.eq_ok_of hr (a := Handler.found pc) (s' := S.setVm vm) (acts' := []) (by simp [h])
  rfl
section KX
variable {p : Program} {l : Launch} {e : Env} {R : Room} {s : State} {m : MethodId} {args : Array Value} {below : List Frame} {meth : Method} {c : Code} {T : State} {locs : List Loc} {cells slots : Nat}
theorem ko_caught (X : Stand p l e R s m args below meth c T locs cells slots) {f : JFrame} (hf : f.method = m) {a : Addr} {cell : Cell} (hcell : T.heap[a]? = some cell) (hob : cell.vm.isStatics = false) (hk : ∃ k, s.vm.classes[cell.cls]? = some k)
    {pre rest : List ExceptionTableEntry} {z : ExceptionTableEntry} (htab : c.exceptionTable.toList = pre ++ z :: rest) (hpre : ∀ w ∈ pre, KoP e.platform s m.cls f.pc cell.cls w) (hz : KoC e.platform s m.cls f.pc cell.cls z) :
    ∃ vm, Stand p l e R s m args below meth c (T.setVm vm) locs cells slots ∧ ∀ t, Steps p.tables e below ((T.setVm vm).setTop { f with pc := z.handlerPc, stack := [.ref a] }) t → Steps p.tables e below ((T.setTop f).pushFrame (.throwing a)) t := by
  subst hf
  have hv : ((T.setTop f).pushFrame (.throwing a)).vm = T.vm := Stand.throwing_vm T f a
  obtain ⟨vm, w1, w2⟩ := ko_search (e := e) (a := a) (rest := rest) (VmData.ne_statics_of hob) hk hz pre ((T.setTop f).pushFrame (.throwing a)) (by rw [hv]; exact X.warmed) (by rw [Stand.throwing_heap]; exact hcell) hpre
  refine ⟨vm, X.noted w1, fun t ht => ?_⟩
  obtain ⟨go, wi⟩ := X.here.throwing a
  refine Steps.head go wi ?_
  obtain ⟨g0, hfr⟩ := X.frames_eq
  have hfr' : (T.setVm vm).frames = .java g0 :: below := hfr
  rw [stepThread_throwing (frames_entered X.here.top _), ko_step (fun Q E b acts => (W.findHandler_eq (by rw [hv]; exact X.method') X.code).trans (by rw [htab]; exact w2 Q E b acts)), X.tail]
  rw [State.setTop_of_frames _ hfr'] at ht
  rw [State.pushFrame, State.setTop_of_frames _ hfr, State.setFrames_setFrames]
  show Steps p.tables e below (((T.setVm vm).setFrames _).setFrames _) t
  rw [State.setFrames_setFrames]
  exact ht
end KX
