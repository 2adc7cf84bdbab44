section
/-! V: a method's walk, said over a heap of my own words (addresses to kinds and values). -/
abbrev MT : Type := MethodName × ByteArray × Nat × Option FieldType × List (Nat × Nat × Nat × Nat)
abbrev AC : Type := Nat × List Value
abbrev AH : Type := (Nat → Option AC) × Nat × Nat
abbrev Lo : Type := List (Option Value)
abbrev Out : Type := Option Value ⊕ Nat
abbrev Gx : Type := List Cond × List Cond × List vw_C × va_G × List FieldType × (Nat → ClassId) × List (String × ClassId) × Heap × Nat × Nat
abbrev gW (g : Gx) : List Cond := g.1
abbrev gY (g : Gx) : List Cond := g.2.1
abbrev gC (g : Gx) : List vw_C := g.2.2.1
abbrev gD (g : Gx) : va_G := g.2.2.2.1
abbrev gT (g : Gx) : List FieldType := g.2.2.2.2.1
abbrev gA (g : Gx) : Nat → ClassId := g.2.2.2.2.2.1
abbrev gE (g : Gx) : List (String × ClassId) := g.2.2.2.2.2.2.1
abbrev gH (g : Gx) : Heap := g.2.2.2.2.2.2.2.1
abbrev gL (g : Gx) : Nat := g.2.2.2.2.2.2.2.2.1
abbrev gS (g : Gx) : Nat := g.2.2.2.2.2.2.2.2.2
/-- a word that stays true as the tables grow warmer -/
def Kp (w : Cond) : Prop := ∀ (s U : State) (a a' : Array Value), s.WarmedH U.vm → w.before a s = true → w.before a' U = true
/-- a word on statics of old cells -/
def Ky (w : Cond) : Prop := (∀ (s U : State) (H : Heap) (a a' : Array Value), s.WarmedH U.vm → w.before a ({ s with heap := H } : State) = true → w.before a' ({ U with heap := H } : State) = true) ∧
  ∀ (s : State) (H : Heap) (a : Array Value), (∀ q, q < H.size → s.heap[q]? = H[q]?) → w.before a ({ s with heap := H } : State) = true → w.before a s = true
def okC (g : Gx) (x : AC) (cell : Cell) : Prop :=
  (x.1 < 100 ∧ ∃ r, (gC g)[x.1]? = some r ∧ cell.cls = (gD g).1 x.1 ∧ cell.vm = .none ∧ x.2.length = r.2.2 ∧ ∀ k, k < r.2.2 → cell.slots[(gD g).2 x.1 k]? = x.2[k]?) ∨
  (100 ≤ x.1 ∧ x.1 < 200 ∧ cell = { cls := gA g (x.1 - 100), slots := x.2.toArray, vm := .none }) ∨
  (200 ≤ x.1 ∧ cell.vm = .none ∧ ∃ q, (gE g)[x.1 - 200]? = some q ∧ cell.cls = q.2)
def HR (g : Gx) (A : AH) (H : Heap) : Prop := H.size = A.2.1 ∧ (gH g).size ≤ H.size ∧ (∀ q, q < (gH g).size → H[q]? = (gH g)[q]?) ∧ A.2.1 ≤ gL g ∧ A.2.2 ≤ gS g ∧
  ∀ (a : Nat) (x : AC), A.1 a = some x → (gH g).size ≤ a ∧ ∃ cell, H[a]? = some cell ∧ okC g x cell
def TF (g : Gx) (s : State) (args : Array Value) : Prop :=
  (∀ w ∈ gW g, w.before args s = true) ∧ (∀ w ∈ gW g, Kp w) ∧ va_K (gD g) (gC g) [] s ∧
  (∀ (j : Nat) (ty : FieldType), (gT g)[j]? = some ty → ArrOfT s (gA g j) ty ∧ va_RA s (gA g j) ty) ∧
  (∀ (k : Nat) (q : String × ClassId), (gE g)[k]? = some q → s.vm.findClass q.1 = some q.2) ∧
  (∀ w ∈ gY g, w.before args ({ s with heap := gH g } : State) = true) ∧ ∀ w ∈ gY g, Ky w
theorem TF.moved {g : Gx} {s U : State} {a a' : Array Value} (h : TF g s a) (hW : s.WarmedH U.vm) : TF g U a' := by
  obtain ⟨h1, h2, h3, h4, h5, h6, h7⟩ := h
  refine ⟨fun w hw => h2 w hw s U a a' hW (h1 w hw), h2, va_K.moved hW.alike h3, fun j ty hj => ⟨arrOfT_moved hW.alike (h4 j ty hj).1, (h4 j ty hj).2.moved hW.alike⟩, fun k q hq => ?_, fun w hw => (h7 w hw).1 s U _ a a' hW (h6 w hw), h7⟩
  rw [hW.alike.findClass]
  exact h5 k q hq
/-- the locals: a list by place; a long's second place holds nothing -/
def LR (L : Lo) (ls : Array Slot) (n : Nat) : Prop := ls.size = n ∧ lv_wf ls ∧ L.length = n ∧ ∀ (i : Nat) (v : Value), L[i]? = some (some v) → ls[i]? = some (.val v)
def Cx (g : Gx) (d : Nat) (y : MT) (p : Program) (e : Env) (R : Room) (s : State) (m : MethodId) (args : Array Value) (meth : Method) (c : Code) (z : Nat) : Prop :=
  p.tables.exec = Jvm.exec ∧ c.code = y.2.1 ∧ c.maxLocals = y.2.2.1 ∧ meth.sig.returnType = y.2.2.2.1 ∧ meth.locks = false ∧ s.vm.findClass y.1.cls = some m.cls ∧ meth.name = y.1.name ∧
  c.exceptionTable.toList = tableOf y.2.2.2.2 ∧ TF g s args ∧ d + 2 ≤ R.frames ∧ 40 * d + 100 ≤ R.locals ∧ gL g ≤ s.heap.size + R.cells ∧ gS g ≤ z + R.slots ∧ e.platform.stackTraces = false
def Rx (g : Gx) (y : MT) (A : AH) (L : Lo) (s : State) (z : Nat) (H : Heap) (locs : List Loc) (cells slots : Nat) (ls : Array Slot) : Prop :=
  LR L ls y.2.2.1 ∧ HR g A H ∧ s.heap.size + cells = A.2.1 ∧ z + slots = A.2.2 ∧ ∀ q ∈ locs, (gH g).size ≤ q.base
def oR (r : Out) (A : AH) (o : Outcome) : Prop := match r with
  | .inl v => o = .returned v
  | .inr a => o = .threw a ∧ ∃ k, A.1 a = some (200 + k, [])
def Ex (g : Gx) (below : List Frame) (s : State) (z : Nat) (Φ : Out → AH → Prop) (t : State) : Prop :=
  ∃ (o : Outcome) (K : List Loc) (k n : Nat) (r : Out) (A : AH), t.status = .running ∧ Ended t below o ∧ s.WarmedH t.vm ∧ s.sameButNew ({ t with vm := s.vm } : State) K k n ∧ (∀ q ∈ K, (gH g).size ≤ q.base) ∧
    Φ r A ∧ HR g A t.heap ∧ s.heap.size + k = A.2.1 ∧ z + n = A.2.2 ∧ oR r A o
def V (g : Gx) (d : Nat) (y : MT) (pc : Nat) (L : Lo) (st : List Value) (A : AH) (Φ : Out → AH → Prop) : Prop :=
  ∀ (p : Program) (l : Launch) (e : Env) (R : Room) (s : State) (m : MethodId) (args : Array Value) (below : List Frame) (meth : Method) (c : Code) (z : Nat), Cx g d y p e R s m args meth c z →
    ∀ (H : Heap) (locs : List Loc) (cells slots : Nat) (ls : Array Slot), Rx g y A L s z H locs cells slots ls →
      W p l e R s m args below meth c H locs cells slots (Ex g below s z Φ) (F0 m pc ls st)
theorem W.mono {p : Program} {l : Launch} {e : Env} {R : Room} {s : State} {m : MethodId} {args : Array Value} {below : List Frame} {meth : Method} {c : Code} {H : Heap} {locs : List Loc} {cells slots : Nat} {Q Q' : State → Prop} {f : JFrame} (h : W p l e R s m args below meth c H locs cells slots Q f) (hq : ∀ t, Q t → Q' t) : W p l e R s m args below meth c H locs cells slots Q' f := by
  intro T hT X
  obtain ⟨t, a, b⟩ := h T hT X
  exact ⟨t, a, hq t b⟩
section VR
variable {g : Gx} {d : Nat} {y : MT} {pc : Nat} {L : Lo} {st : List Value} {A : AH} {Φ : Out → AH → Prop}
theorem V.mono {Φ' : Out → AH → Prop} (h : V g d y pc L st A Φ) (hq : ∀ r A', Φ r A' → Φ' r A') : V g d y pc L st A Φ' :=
  fun p l e R s m args below meth c z C H locs cells slots ls X => W.mono (h p l e R s m args below meth c z C H locs cells slots ls X) (fun t ⟨o, K, k, n, r, A', h1, h2, h3, h4, h5, h6, h7⟩ => ⟨o, K, k, n, r, A', h1, h2, h3, h4, h5, hq r A' h6, h7⟩)
/-- what a walk knows of its heap: every named cell is old -/
theorem V.old (h : (∀ a x, A.1 a = some x → a < A.2.1) → V g d y pc L st A Φ) : V g d y pc L st A Φ :=
  fun p l e R s m args below meth c z C H locs cells slots ls X => h (fun a x ha => by
    obtain ⟨-, cell, hc, -⟩ := X.2.1.2.2.2.2.2 a x ha
    have := (Array.getElem?_eq_some_iff.mp hc).1
    rw [← X.2.1.1]; exact this) p l e R s m args below meth c z C H locs cells slots ls X
theorem V.eq {pc' : Nat} {L' : Lo} {st' : List Value} {A' : AH} (h : V g d y pc' L' st' A' Φ) (h1 : pc' = pc) (h2 : L' = L) (h3 : st' = st) (h4 : A' = A) : V g d y pc L st A Φ := by subst h1 h2 h3 h4; exact h
theorem LR.drop {ls : Array Slot} {n : Nat} (h : LR L ls n) (i : Nat) : LR (L.set i none) ls n := by
  refine ⟨h.1, h.2.1, by rw [List.length_set]; exact h.2.2.1, fun j v hj => ?_⟩
  rw [List.getElem?_set] at hj
  split at hj
  · split at hj
    · cases hj
    · cases hj
  · exact h.2.2.2 j v hj
/-- a local that is no longer wanted -/
theorem V.drop (i : Nat) (h : V g d y pc (L.set i none) st A Φ) : V g d y pc L st A Φ :=
  fun p l e R s m args below meth c z C H locs cells slots ls X => h p l e R s m args below meth c z C H locs cells slots ls ⟨X.1.drop i, X.2⟩

theorem v_iconst {n : Int} {v : Int32} (hd : decode y.2.1 pc = .ok (.iconst n, 1)) (hv : Int32.ofInt n = v) (h : V g d y (pc + 1) L (.int v :: st) A Φ) : V g d y pc L (st) A Φ :=
  fun p l e R s m args below meth c z C H locs cells slots ls X => lv_iconst C.1 C.2.1 hd hv (h p l e R s m args below meth c z C H locs cells slots ls X)
theorem v_bipush {n : Int} {v : Int32} (hd : decode y.2.1 pc = .ok (.bipush n, 2)) (hv : (Int8.ofInt n).toInt32 = v) (h : V g d y (pc + 2) L (.int v :: st) A Φ) : V g d y pc L (st) A Φ :=
  fun p l e R s m args below meth c z C H locs cells slots ls X => lv_bipush C.1 C.2.1 hd hv (h p l e R s m args below meth c z C H locs cells slots ls X)
theorem v_sipush {n : Int} {v : Int32} (hd : decode y.2.1 pc = .ok (.sipush n, 3)) (hv : (Int16.ofInt n).toInt32 = v) (h : V g d y (pc + 3) L (.int v :: st) A Φ) : V g d y pc L (st) A Φ :=
  fun p l e R s m args below meth c z C H locs cells slots ls X => lv_sipush C.1 C.2.1 hd hv (h p l e R s m args below meth c z C H locs cells slots ls X)
theorem v_lconst {n : Fin 2} {v : Int64} (hd : decode y.2.1 pc = .ok (.lconst n, 1)) (hv : Int64.ofNat (n : Nat) = v) (h : V g d y (pc + 1) L (.long v :: st) A Φ) : V g d y pc L (st) A Φ :=
  fun p l e R s m args below meth c z C H locs cells slots ls X => lv_lconst C.1 C.2.1 hd hv (h p l e R s m args below meth c z C H locs cells slots ls X)
theorem v_null  (hd : decode y.2.1 pc = .ok (.aconst_null, 1))  (h : V g d y (pc + 1) L (.null :: st) A Φ) : V g d y pc L (st) A Φ :=
  fun p l e R s m args below meth c z C H locs cells slots ls X => lv_null C.1 C.2.1 hd  (h p l e R s m args below meth c z C H locs cells slots ls X)
theorem v_iload_n {k : Fin 4} {x : Int32} (hd : decode y.2.1 pc = .ok (.iload_n k, 1)) (hl : L[(k : Nat)]? = some (some (.int x))) (h : V g d y (pc + 1) L (.int x :: st) A Φ) : V g d y pc L (st) A Φ :=
  fun p l e R s m args below meth c z C H locs cells slots ls X => lv_iload_n C.1 C.2.1 hd rfl (X.1.2.2.2 _ _ hl) (h p l e R s m args below meth c z C H locs cells slots ls X)
theorem v_iload {k : Nat} {x : Int32} (hd : decode y.2.1 pc = .ok (.iload k, 2)) (hl : L[k]? = some (some (.int x))) (h : V g d y (pc + 2) L (.int x :: st) A Φ) : V g d y pc L (st) A Φ :=
  fun p l e R s m args below meth c z C H locs cells slots ls X => lv_iload C.1 C.2.1 hd (X.1.2.2.2 _ _ hl) (h p l e R s m args below meth c z C H locs cells slots ls X)
theorem v_lload_n {k : Fin 4} {x : Int64} (hd : decode y.2.1 pc = .ok (.lload_n k, 1)) (hl : L[(k : Nat)]? = some (some (.long x))) (h : V g d y (pc + 1) L (.long x :: st) A Φ) : V g d y pc L (st) A Φ :=
  fun p l e R s m args below meth c z C H locs cells slots ls X => lv_lload_n C.1 C.2.1 hd rfl (X.1.2.2.2 _ _ hl) (h p l e R s m args below meth c z C H locs cells slots ls X)
theorem v_lload {k : Nat} {x : Int64} (hd : decode y.2.1 pc = .ok (.lload k, 2)) (hl : L[k]? = some (some (.long x))) (h : V g d y (pc + 2) L (.long x :: st) A Φ) : V g d y pc L (st) A Φ :=
  fun p l e R s m args below meth c z C H locs cells slots ls X => lv_lload C.1 C.2.1 hd (X.1.2.2.2 _ _ hl) (h p l e R s m args below meth c z C H locs cells slots ls X)
theorem v_aload_n {k : Fin 4} {x : Nat} (hd : decode y.2.1 pc = .ok (.aload_n k, 1)) (hl : L[(k : Nat)]? = some (some (.ref x))) (h : V g d y (pc + 1) L (.ref x :: st) A Φ) : V g d y pc L (st) A Φ :=
  fun p l e R s m args below meth c z C H locs cells slots ls X => lv_aload_n C.1 C.2.1 hd rfl (X.1.2.2.2 _ _ hl) (h p l e R s m args below meth c z C H locs cells slots ls X)
theorem v_aload {k : Nat} {x : Nat} (hd : decode y.2.1 pc = .ok (.aload k, 2)) (hl : L[k]? = some (some (.ref x))) (h : V g d y (pc + 2) L (.ref x :: st) A Φ) : V g d y pc L (st) A Φ :=
  fun p l e R s m args below meth c z C H locs cells slots ls X => lv_aload C.1 C.2.1 hd (X.1.2.2.2 _ _ hl) (h p l e R s m args below meth c z C H locs cells slots ls X)
theorem v_aloadN_n {k : Fin 4} (hd : decode y.2.1 pc = .ok (.aload_n k, 1)) (hl : L[(k : Nat)]? = some (some .null)) (h : V g d y (pc + 1) L (.null :: st) A Φ) : V g d y pc L (st) A Φ :=
  fun p l e R s m args below meth c z C H locs cells slots ls X => lv_aload_nN C.1 C.2.1 hd rfl (X.1.2.2.2 _ _ hl) (h p l e R s m args below meth c z C H locs cells slots ls X)
theorem v_aloadN {k : Nat} (hd : decode y.2.1 pc = .ok (.aload k, 2)) (hl : L[k]? = some (some .null)) (h : V g d y (pc + 2) L (.null :: st) A Φ) : V g d y pc L (st) A Φ :=
  fun p l e R s m args below meth c z C H locs cells slots ls X => lv_aloadN C.1 C.2.1 hd (X.1.2.2.2 _ _ hl) (h p l e R s m args below meth c z C H locs cells slots ls X)
theorem v_iadd {a b : Int32} (hd : decode y.2.1 pc = .ok (.iadd, 1))  (h : V g d y (pc + 1) L (.int (a + b) :: st) A Φ) : V g d y pc L (.int b :: .int a :: st) A Φ :=
  fun p l e R s m args below meth c z C H locs cells slots ls X => lv_iadd C.1 C.2.1 hd  (h p l e R s m args below meth c z C H locs cells slots ls X)
theorem v_isub {a b : Int32} (hd : decode y.2.1 pc = .ok (.isub, 1))  (h : V g d y (pc + 1) L (.int (a - b) :: st) A Φ) : V g d y pc L (.int b :: .int a :: st) A Φ :=
  fun p l e R s m args below meth c z C H locs cells slots ls X => lv_isub C.1 C.2.1 hd  (h p l e R s m args below meth c z C H locs cells slots ls X)
theorem v_imul {a b : Int32} (hd : decode y.2.1 pc = .ok (.imul, 1))  (h : V g d y (pc + 1) L (.int (a * b) :: st) A Φ) : V g d y pc L (.int b :: .int a :: st) A Φ :=
  fun p l e R s m args below meth c z C H locs cells slots ls X => lv_imul C.1 C.2.1 hd  (h p l e R s m args below meth c z C H locs cells slots ls X)
theorem v_iand {a b : Int32} (hd : decode y.2.1 pc = .ok (.iand, 1))  (h : V g d y (pc + 1) L (.int (a &&& b) :: st) A Φ) : V g d y pc L (.int b :: .int a :: st) A Φ :=
  fun p l e R s m args below meth c z C H locs cells slots ls X => lv_iand C.1 C.2.1 hd  (h p l e R s m args below meth c z C H locs cells slots ls X)
theorem v_ior {a b : Int32} (hd : decode y.2.1 pc = .ok (.ior, 1))  (h : V g d y (pc + 1) L (.int (a ||| b) :: st) A Φ) : V g d y pc L (.int b :: .int a :: st) A Φ :=
  fun p l e R s m args below meth c z C H locs cells slots ls X => lv_ior C.1 C.2.1 hd  (h p l e R s m args below meth c z C H locs cells slots ls X)
theorem v_ixor {a b : Int32} (hd : decode y.2.1 pc = .ok (.ixor, 1))  (h : V g d y (pc + 1) L (.int (a ^^^ b) :: st) A Φ) : V g d y pc L (.int b :: .int a :: st) A Φ :=
  fun p l e R s m args below meth c z C H locs cells slots ls X => lv_ixor C.1 C.2.1 hd  (h p l e R s m args below meth c z C H locs cells slots ls X)
theorem v_ishl {a b : Int32} (hd : decode y.2.1 pc = .ok (.ishl, 1))  (h : V g d y (pc + 1) L (.int (a <<< (b &&& 31)) :: st) A Φ) : V g d y pc L (.int b :: .int a :: st) A Φ :=
  fun p l e R s m args below meth c z C H locs cells slots ls X => lv_ishl C.1 C.2.1 hd  (h p l e R s m args below meth c z C H locs cells slots ls X)
theorem v_ishr {a b : Int32} (hd : decode y.2.1 pc = .ok (.ishr, 1))  (h : V g d y (pc + 1) L (.int (a >>> (b &&& 31)) :: st) A Φ) : V g d y pc L (.int b :: .int a :: st) A Φ :=
  fun p l e R s m args below meth c z C H locs cells slots ls X => lv_ishr C.1 C.2.1 hd  (h p l e R s m args below meth c z C H locs cells slots ls X)
theorem v_idiv {a b : Int32} (hd : decode y.2.1 pc = .ok (.idiv, 1)) (hne : ¬ b = 0) (h : V g d y (pc + 1) L (.int (a / b) :: st) A Φ) : V g d y pc L (.int b :: .int a :: st) A Φ :=
  fun p l e R s m args below meth c z C H locs cells slots ls X => lv_idiv C.1 C.2.1 hd hne (h p l e R s m args below meth c z C H locs cells slots ls X)
theorem v_irem {a b : Int32} (hd : decode y.2.1 pc = .ok (.irem, 1)) (hne : ¬ b = 0) (h : V g d y (pc + 1) L (.int (a - a / b * b) :: st) A Φ) : V g d y pc L (.int b :: .int a :: st) A Φ :=
  fun p l e R s m args below meth c z C H locs cells slots ls X => lv_irem C.1 C.2.1 hd hne (h p l e R s m args below meth c z C H locs cells slots ls X)
theorem v_ineg {a : Int32} (hd : decode y.2.1 pc = .ok (.ineg, 1))  (h : V g d y (pc + 1) L (.int (-a) :: st) A Φ) : V g d y pc L (.int a :: st) A Φ :=
  fun p l e R s m args below meth c z C H locs cells slots ls X => lv_ineg C.1 C.2.1 hd  (h p l e R s m args below meth c z C H locs cells slots ls X)
theorem v_ladd {a b : Int64} (hd : decode y.2.1 pc = .ok (.ladd, 1))  (h : V g d y (pc + 1) L (.long (a + b) :: st) A Φ) : V g d y pc L (.long b :: .long a :: st) A Φ :=
  fun p l e R s m args below meth c z C H locs cells slots ls X => lv_ladd C.1 C.2.1 hd  (h p l e R s m args below meth c z C H locs cells slots ls X)
theorem v_lsub {a b : Int64} (hd : decode y.2.1 pc = .ok (.lsub, 1))  (h : V g d y (pc + 1) L (.long (a - b) :: st) A Φ) : V g d y pc L (.long b :: .long a :: st) A Φ :=
  fun p l e R s m args below meth c z C H locs cells slots ls X => lv_lsub C.1 C.2.1 hd  (h p l e R s m args below meth c z C H locs cells slots ls X)
theorem v_lmul {a b : Int64} (hd : decode y.2.1 pc = .ok (.lmul, 1))  (h : V g d y (pc + 1) L (.long (a * b) :: st) A Φ) : V g d y pc L (.long b :: .long a :: st) A Φ :=
  fun p l e R s m args below meth c z C H locs cells slots ls X => lv_lmul C.1 C.2.1 hd  (h p l e R s m args below meth c z C H locs cells slots ls X)
theorem v_lcmp {a b : Int64} (hd : decode y.2.1 pc = .ok (.lcmp, 1))  (h : V g d y (pc + 1) L (.int (lg_cmp a b) :: st) A Φ) : V g d y pc L (.long b :: .long a :: st) A Φ :=
  fun p l e R s m args below meth c z C H locs cells slots ls X => W.lcmp C.1 C.2.1 hd  (h p l e R s m args below meth c z C H locs cells slots ls X)
theorem v_i2l {a : Int32} (hd : decode y.2.1 pc = .ok (.i2l, 1))  (h : V g d y (pc + 1) L (.long a.toInt64 :: st) A Φ) : V g d y pc L (.int a :: st) A Φ :=
  fun p l e R s m args below meth c z C H locs cells slots ls X => lv_i2l C.1 C.2.1 hd rfl (h p l e R s m args below meth c z C H locs cells slots ls X)
theorem v_l2i {a : Int64} (hd : decode y.2.1 pc = .ok (.l2i, 1))  (h : V g d y (pc + 1) L (.int a.toInt32 :: st) A Φ) : V g d y pc L (.long a :: st) A Φ :=
  fun p l e R s m args below meth c z C H locs cells slots ls X => lv_l2i C.1 C.2.1 hd rfl (h p l e R s m args below meth c z C H locs cells slots ls X)
theorem v_dup {a : Value} (hd : decode y.2.1 pc = .ok (.dup, 1)) (h1 : a.category = 1) (h : V g d y (pc + 1) L (a :: a :: st) A Φ) : V g d y pc L (a :: st) A Φ :=
  fun p l e R s m args below meth c z C H locs cells slots ls X => lv_dup C.1 C.2.1 hd h1 (h p l e R s m args below meth c z C H locs cells slots ls X)
theorem v_pop {a : Value} (hd : decode y.2.1 pc = .ok (.pop, 1)) (h1 : a.category = 1) (h : V g d y (pc + 1) L (st) A Φ) : V g d y pc L (a :: st) A Φ :=
  fun p l e R s m args below meth c z C H locs cells slots ls X => lv_pop C.1 C.2.1 hd h1 (h p l e R s m args below meth c z C H locs cells slots ls X)
theorem v_dup_x1 {a b : Value} (hd : decode y.2.1 pc = .ok (.dup_x1, 1)) (h1 : a.category = 1) (h2 : b.category = 1) (h : V g d y (pc + 1) L (a :: b :: a :: st) A Φ) : V g d y pc L (a :: b :: st) A Φ :=
  fun p l e R s m args below meth c z C H locs cells slots ls X => lv_dup_x1 C.1 C.2.1 hd h1 h2 (h p l e R s m args below meth c z C H locs cells slots ls X)
theorem v_dup_x2 {a b c : Value} (hd : decode y.2.1 pc = .ok (.dup_x2, 1)) (h1 : a.category = 1) (h2 : b.category = 1) (h3 : c.category = 1) (h : V g d y (pc + 1) L (a :: b :: c :: a :: st) A Φ) : V g d y pc L (a :: b :: c :: st) A Φ :=
  fun p l e R s m args below meth c z C H locs cells slots ls X => lv_dup_x2 C.1 C.2.1 hd h1 h2 h3 (h p l e R s m args below meth c z C H locs cells slots ls X)
theorem v_dup2 {a b : Value} (hd : decode y.2.1 pc = .ok (.dup2, 1)) (h1 : a.category = 1) (h2 : b.category = 1) (h : V g d y (pc + 1) L (a :: b :: a :: b :: st) A Φ) : V g d y pc L (a :: b :: st) A Φ :=
  fun p l e R s m args below meth c z C H locs cells slots ls X => lv_dup2_11 C.1 C.2.1 hd h1 h2 (h p l e R s m args below meth c z C H locs cells slots ls X)
theorem v_if_eq {x : Int32} {off : Int} {tgt : Nat} (hd : decode y.2.1 pc = .ok (.ifCond .eq off, 3)) (ht : (pc : Int) + off = (tgt : Int)) (kt : x = 0 → V g d y tgt L st A Φ) (kf : ¬ (x = 0) → V g d y (pc + 3) L st A Φ) : V g d y pc L (.int x :: st) A Φ :=
  fun p l e R s m args below meth c z C H locs cells slots ls X => lv_if_eq C.1 C.2.1 hd ht (fun q => kt q p l e R s m args below meth c z C H locs cells slots ls X) (fun q => kf q p l e R s m args below meth c z C H locs cells slots ls X)
theorem v_icmp_eq {x w : Int32} {off : Int} {tgt : Nat} (hd : decode y.2.1 pc = .ok (.if_icmp .eq off, 3)) (ht : (pc : Int) + off = (tgt : Int)) (kt : x = w → V g d y tgt L st A Φ) (kf : ¬ (x = w) → V g d y (pc + 3) L st A Φ) : V g d y pc L (.int w :: .int x :: st) A Φ :=
  fun p l e R s m args below meth c z C H locs cells slots ls X => lv_icmp_eq C.1 C.2.1 hd ht (fun q => kt q p l e R s m args below meth c z C H locs cells slots ls X) (fun q => kf q p l e R s m args below meth c z C H locs cells slots ls X)
theorem v_if_ne {x : Int32} {off : Int} {tgt : Nat} (hd : decode y.2.1 pc = .ok (.ifCond .ne off, 3)) (ht : (pc : Int) + off = (tgt : Int)) (kt : ¬ x = 0 → V g d y tgt L st A Φ) (kf : x = 0 → V g d y (pc + 3) L st A Φ) : V g d y pc L (.int x :: st) A Φ :=
  fun p l e R s m args below meth c z C H locs cells slots ls X => lv_if_ne C.1 C.2.1 hd ht (fun q => kt q p l e R s m args below meth c z C H locs cells slots ls X) (fun q => kf q p l e R s m args below meth c z C H locs cells slots ls X)
theorem v_icmp_ne {x w : Int32} {off : Int} {tgt : Nat} (hd : decode y.2.1 pc = .ok (.if_icmp .ne off, 3)) (ht : (pc : Int) + off = (tgt : Int)) (kt : ¬ x = w → V g d y tgt L st A Φ) (kf : x = w → V g d y (pc + 3) L st A Φ) : V g d y pc L (.int w :: .int x :: st) A Φ :=
  fun p l e R s m args below meth c z C H locs cells slots ls X => lv_icmp_ne C.1 C.2.1 hd ht (fun q => kt q p l e R s m args below meth c z C H locs cells slots ls X) (fun q => kf q p l e R s m args below meth c z C H locs cells slots ls X)
theorem v_if_lt {x : Int32} {off : Int} {tgt : Nat} (hd : decode y.2.1 pc = .ok (.ifCond .lt off, 3)) (ht : (pc : Int) + off = (tgt : Int)) (kt : x < 0 → V g d y tgt L st A Φ) (kf : ¬ (x < 0) → V g d y (pc + 3) L st A Φ) : V g d y pc L (.int x :: st) A Φ :=
  fun p l e R s m args below meth c z C H locs cells slots ls X => lv_if_lt C.1 C.2.1 hd ht (fun q => kt q p l e R s m args below meth c z C H locs cells slots ls X) (fun q => kf q p l e R s m args below meth c z C H locs cells slots ls X)
theorem v_icmp_lt {x w : Int32} {off : Int} {tgt : Nat} (hd : decode y.2.1 pc = .ok (.if_icmp .lt off, 3)) (ht : (pc : Int) + off = (tgt : Int)) (kt : x < w → V g d y tgt L st A Φ) (kf : ¬ (x < w) → V g d y (pc + 3) L st A Φ) : V g d y pc L (.int w :: .int x :: st) A Φ :=
  fun p l e R s m args below meth c z C H locs cells slots ls X => lv_icmp_lt C.1 C.2.1 hd ht (fun q => kt q p l e R s m args below meth c z C H locs cells slots ls X) (fun q => kf q p l e R s m args below meth c z C H locs cells slots ls X)
theorem v_if_ge {x : Int32} {off : Int} {tgt : Nat} (hd : decode y.2.1 pc = .ok (.ifCond .ge off, 3)) (ht : (pc : Int) + off = (tgt : Int)) (kt : 0 ≤ x → V g d y tgt L st A Φ) (kf : ¬ (0 ≤ x) → V g d y (pc + 3) L st A Φ) : V g d y pc L (.int x :: st) A Φ :=
  fun p l e R s m args below meth c z C H locs cells slots ls X => lv_if_ge C.1 C.2.1 hd ht (fun q => kt q p l e R s m args below meth c z C H locs cells slots ls X) (fun q => kf q p l e R s m args below meth c z C H locs cells slots ls X)
theorem v_icmp_ge {x w : Int32} {off : Int} {tgt : Nat} (hd : decode y.2.1 pc = .ok (.if_icmp .ge off, 3)) (ht : (pc : Int) + off = (tgt : Int)) (kt : w ≤ x → V g d y tgt L st A Φ) (kf : ¬ (w ≤ x) → V g d y (pc + 3) L st A Φ) : V g d y pc L (.int w :: .int x :: st) A Φ :=
  fun p l e R s m args below meth c z C H locs cells slots ls X => lv_icmp_ge C.1 C.2.1 hd ht (fun q => kt q p l e R s m args below meth c z C H locs cells slots ls X) (fun q => kf q p l e R s m args below meth c z C H locs cells slots ls X)
theorem v_if_gt {x : Int32} {off : Int} {tgt : Nat} (hd : decode y.2.1 pc = .ok (.ifCond .gt off, 3)) (ht : (pc : Int) + off = (tgt : Int)) (kt : 0 < x → V g d y tgt L st A Φ) (kf : ¬ (0 < x) → V g d y (pc + 3) L st A Φ) : V g d y pc L (.int x :: st) A Φ :=
  fun p l e R s m args below meth c z C H locs cells slots ls X => lv_if_gt C.1 C.2.1 hd ht (fun q => kt q p l e R s m args below meth c z C H locs cells slots ls X) (fun q => kf q p l e R s m args below meth c z C H locs cells slots ls X)
theorem v_icmp_gt {x w : Int32} {off : Int} {tgt : Nat} (hd : decode y.2.1 pc = .ok (.if_icmp .gt off, 3)) (ht : (pc : Int) + off = (tgt : Int)) (kt : w < x → V g d y tgt L st A Φ) (kf : ¬ (w < x) → V g d y (pc + 3) L st A Φ) : V g d y pc L (.int w :: .int x :: st) A Φ :=
  fun p l e R s m args below meth c z C H locs cells slots ls X => lv_icmp_gt C.1 C.2.1 hd ht (fun q => kt q p l e R s m args below meth c z C H locs cells slots ls X) (fun q => kf q p l e R s m args below meth c z C H locs cells slots ls X)
theorem v_if_le {x : Int32} {off : Int} {tgt : Nat} (hd : decode y.2.1 pc = .ok (.ifCond .le off, 3)) (ht : (pc : Int) + off = (tgt : Int)) (kt : x ≤ 0 → V g d y tgt L st A Φ) (kf : ¬ (x ≤ 0) → V g d y (pc + 3) L st A Φ) : V g d y pc L (.int x :: st) A Φ :=
  fun p l e R s m args below meth c z C H locs cells slots ls X => lv_if_le C.1 C.2.1 hd ht (fun q => kt q p l e R s m args below meth c z C H locs cells slots ls X) (fun q => kf q p l e R s m args below meth c z C H locs cells slots ls X)
theorem v_icmp_le {x w : Int32} {off : Int} {tgt : Nat} (hd : decode y.2.1 pc = .ok (.if_icmp .le off, 3)) (ht : (pc : Int) + off = (tgt : Int)) (kt : x ≤ w → V g d y tgt L st A Φ) (kf : ¬ (x ≤ w) → V g d y (pc + 3) L st A Φ) : V g d y pc L (.int w :: .int x :: st) A Φ :=
  fun p l e R s m args below meth c z C H locs cells slots ls X => lv_icmp_le C.1 C.2.1 hd ht (fun q => kt q p l e R s m args below meth c z C H locs cells slots ls X) (fun q => kf q p l e R s m args below meth c z C H locs cells slots ls X)
theorem v_goto {off : Int} {tgt : Nat} (hd : decode y.2.1 pc = .ok (.goto off, 3)) (ht : (pc : Int) + off = (tgt : Int)) (h : V g d y tgt L st A Φ) : V g d y pc L st A Φ :=
  fun p l e R s m args below meth c z C H locs cells slots ls X => lv_goto C.1 C.2.1 hd ht (h p l e R s m args below meth c z C H locs cells slots ls X)
theorem v_ifnonnull {x : Nat} {off : Int} {tgt : Nat} (hd : decode y.2.1 pc = .ok (.ifnonnull off, 3)) (ht : (pc : Int) + off = (tgt : Int)) (h : V g d y tgt L st A Φ) : V g d y pc L (.ref x :: st) A Φ :=
  fun p l e R s m args below meth c z C H locs cells slots ls X => lv_ifnonnull C.1 C.2.1 hd ht (h p l e R s m args below meth c z C H locs cells slots ls X)
theorem v_ifnull {x : Nat} {off : Int} (hd : decode y.2.1 pc = .ok (.ifnull off, 3)) (h : V g d y (pc + 3) L st A Φ) : V g d y pc L (.ref x :: st) A Φ :=
  fun p l e R s m args below meth c z C H locs cells slots ls X => lv_ifnull C.1 C.2.1 hd (h p l e R s m args below meth c z C H locs cells slots ls X)
theorem v_ifnullN {off : Int} {tgt : Nat} (hd : decode y.2.1 pc = .ok (.ifnull off, 3)) (ht : (pc : Int) + off = (tgt : Int)) (h : V g d y tgt L st A Φ) : V g d y pc L (.null :: st) A Φ :=
  fun p l e R s m args below meth c z C H locs cells slots ls X => lv_ifnullN C.1 C.2.1 hd ht (h p l e R s m args below meth c z C H locs cells slots ls X)
theorem v_ifnonnullN {off : Int} (hd : decode y.2.1 pc = .ok (.ifnonnull off, 3)) (h : V g d y (pc + 3) L st A Φ) : V g d y pc L (.null :: st) A Φ :=
  fun p l e R s m args below meth c z C H locs cells slots ls X => lv_ifnonnullN C.1 C.2.1 hd (h p l e R s m args below meth c z C H locs cells slots ls X)
theorem v_acmp_ne {rx ry : Option Nat} {off : Int} {tgt : Nat} (hd : decode y.2.1 pc = .ok (.if_acmp .ne off, 3)) (ht : (pc : Int) + off = (tgt : Int)) (kt : ¬ rx = ry → V g d y tgt L st A Φ) (kf : rx = ry → V g d y (pc + 3) L st A Φ) : V g d y pc L (va_rf ry :: va_rf rx :: st) A Φ :=
  fun p l e R s m args below meth c z C H locs cells slots ls X => lv_acmp_ne C.1 C.2.1 hd ht (fun q => kt q p l e R s m args below meth c z C H locs cells slots ls X) (fun q => kf q p l e R s m args below meth c z C H locs cells slots ls X)
theorem v_acmp_eq {rx ry : Option Nat} {off : Int} {tgt : Nat} (hd : decode y.2.1 pc = .ok (.if_acmp .eq off, 3)) (ht : (pc : Int) + off = (tgt : Int)) (kt : rx = ry → V g d y tgt L st A Φ) (kf : ¬ rx = ry → V g d y (pc + 3) L st A Φ) : V g d y pc L (va_rf ry :: va_rf rx :: st) A Φ :=
  fun p l e R s m args below meth c z C H locs cells slots ls X => lv_acmp_eq C.1 C.2.1 hd ht (fun q => kt q p l e R s m args below meth c z C H locs cells slots ls X) (fun q => kf q p l e R s m args below meth c z C H locs cells slots ls X)
theorem v_instN {index : Nat} (hd : decode y.2.1 pc = .ok (.instanceof index, 3)) (h : V g d y (pc + 3) L (.int 0 :: st) A Φ) : V g d y pc L (.null :: st) A Φ :=
  fun p l e R s m args below meth c z C H locs cells slots ls X => lv_instN C.1 C.2.1 hd (h p l e R s m args below meth c z C H locs cells slots ls X)
theorem v_tableOut {dflt lo hi : Int} {offs : Array Int} {len : Nat} {x : Int32} {tgt : Nat} (hd : decode y.2.1 pc = .ok (.tableswitch dflt lo hi offs, len)) (h1 : x.toInt < lo ∨ hi < x.toInt) (ht : (pc : Int) + dflt = (tgt : Int)) (h : V g d y tgt L st A Φ) : V g d y pc L (.int x :: st) A Φ :=
  fun p l e R s m args below meth c z C H locs cells slots ls X => lv_tableOut C.1 C.2.1 hd h1 ht (h p l e R s m args below meth c z C H locs cells slots ls X)
theorem v_tableIn {dflt lo hi : Int} {offs : Array Int} {len : Nat} {x : Int32} {off : Int} {tgt : Nat} (hd : decode y.2.1 pc = .ok (.tableswitch dflt lo hi offs, len)) (h1 : ¬ x.toInt < lo) (h2 : ¬ hi < x.toInt) (ho : offs[(x.toInt - lo).toNat]? = some off) (ht : (pc : Int) + off = (tgt : Int)) (h : V g d y tgt L st A Φ) : V g d y pc L (.int x :: st) A Φ :=
  fun p l e R s m args below meth c z C H locs cells slots ls X => lv_tableIn C.1 C.2.1 hd h1 h2 ho ht (h p l e R s m args below meth c z C H locs cells slots ls X)

def noL (L : Lo) (i : Nat) : Bool := match i with
  | 0 => true
  | j + 1 => match L[j]? with
    | some (some v) => v.category == 1
    | _ => true
theorem LR.st1 {ls : Array Slot} {n i : Nat} {v : Value} (h : LR L ls n) (hi : i < n) (hc : v.category = 1) (hn : noL L i = true) : ∃ ls', storeLocals ls i v = some ls' ∧ LR (L.set i (some v)) ls' n := by
  obtain ⟨hs, hw, hlen, hl⟩ := h
  obtain ⟨ls', e', h'⟩ := lv_store1 (v := v) (l := []) ⟨hs, hw, fun q hq => by cases hq⟩ hi hc
  refine ⟨ls', e', h'.1, h'.2.1, by rw [List.length_set]; exact hlen, fun j w hj => ?_⟩
  rw [List.getElem?_set] at hj
  split at hj
  · rename_i hji
    subst hji
    split at hj
    · cases hj
      exact h'.2.2 (_, v) List.mem_cons_self
    · cases hj
  · rename_i hji
    obtain ⟨ls2, e2, h2⟩ := lv_store1 (v := v) (l := [(j, w)]) ⟨hs, hw, fun q hq => by
      have : q = (j, w) := by simpa using hq
      subst this; exact hl j w hj⟩ hi hc
    cases e'.symm.trans e2
    refine h2.2.2 (j, w) (List.mem_cons_of_mem _ ?_)
    rw [List.mem_filter]
    refine ⟨List.mem_cons_self, ?_⟩
    have h3 : ¬ (j + 1 = i ∧ w.category = 2) := by
      rintro ⟨rfl, hw2⟩
      simp only [noL, hj] at hn
      rw [hw2] at hn
      exact absurd hn (by decide)
    simp only [Bool.and_eq_true, Bool.not_eq_true', beq_eq_false_iff_ne, ne_eq, Bool.and_eq_false_iff]
    refine ⟨fun q => hji q.symm, ?_⟩
    by_cases hq : j + 1 = i
    · exact Or.inr fun q => h3 ⟨hq, q⟩
    · exact Or.inl hq
theorem LR.st2 {ls : Array Slot} {n i : Nat} {v : Value} (h : LR L ls n) (hi : i + 1 < n) (hc : v.category = 2) (hn : noL L i = true) : ∃ ls', storeLocals ls i v = some ls' ∧ LR ((L.set (i + 1) none).set i (some v)) ls' n := by
  obtain ⟨hs, hw, hlen, hl⟩ := h
  obtain ⟨ls', e', h'⟩ := lv_store2 (v := v) (l := []) ⟨hs, hw, fun q hq => by cases hq⟩ hi hc
  refine ⟨ls', e', h'.1, h'.2.1, by rw [List.length_set, List.length_set]; exact hlen, fun j w hj => ?_⟩
  rw [List.getElem?_set, List.getElem?_set] at hj
  split at hj
  · rename_i hji
    subst hji
    split at hj
    · cases hj
      exact h'.2.2 (_, v) List.mem_cons_self
    · cases hj
  · rename_i hji
    split at hj
    · split at hj <;> cases hj
    · rename_i hji2
      obtain ⟨ls2, e2, h2⟩ := lv_store2 (v := v) (l := [(j, w)]) ⟨hs, hw, fun q hq => by
        have : q = (j, w) := by simpa using hq
        subst this; exact hl j w hj⟩ hi hc
      cases e'.symm.trans e2
      refine h2.2.2 (j, w) (List.mem_cons_of_mem _ ?_)
      rw [List.mem_filter]
      refine ⟨List.mem_cons_self, ?_⟩
      have h3 : ¬ (j + 1 = i ∧ w.category = 2) := by
        rintro ⟨rfl, hw2⟩
        simp only [noL, hj] at hn
        rw [hw2] at hn
        exact absurd hn (by decide)
      simp only [Bool.and_eq_true, Bool.not_eq_true', beq_eq_false_iff_ne, ne_eq, Bool.and_eq_false_iff]
      refine ⟨fun q => hji q.symm, fun q => hji2 q.symm, ?_⟩
      by_cases hq : j + 1 = i
      · exact Or.inr fun q => h3 ⟨hq, q⟩
      · exact Or.inl hq
theorem v_istore_n {k : Fin 4} {x : Int32} (hd : decode y.2.1 pc = .ok (.istore_n k, 1)) (hi : (k : Nat) < y.2.2.1) (hn : noL L (k : Nat) = true) (h : V g d y (pc + 1) (L.set (k : Nat) (some (.int x))) st A Φ) : V g d y pc L (.int x :: st) A Φ := by
  intro p l e R s m args below meth c z C H locs cells slots ls X
  have hexec := C.1
  have hb := C.2.1
  obtain ⟨ls', e', h'⟩ := X.1.st1 (v := .int x) hi rfl hn
  intro T hT Y
  obtain ⟨t, a, b⟩ := h p l e R s m args below meth c z C H locs cells slots ls' ⟨h', X.2⟩ T hT Y
  refine ⟨t, ?_, b⟩
  jvm_step Y.here [Y.here.top, ↓top_set Y.here.top, hexec, hb, hd, e', Value.isRef]
  exact a
theorem v_istore {k : Nat} {x : Int32} (hd : decode y.2.1 pc = .ok (.istore k, 2)) (hi : k < y.2.2.1) (hn : noL L k = true) (h : V g d y (pc + 2) (L.set k (some (.int x))) st A Φ) : V g d y pc L (.int x :: st) A Φ := by
  intro p l e R s m args below meth c z C H locs cells slots ls X
  have hexec := C.1
  have hb := C.2.1
  obtain ⟨ls', e', h'⟩ := X.1.st1 (v := .int x) hi rfl hn
  intro T hT Y
  obtain ⟨t, a, b⟩ := h p l e R s m args below meth c z C H locs cells slots ls' ⟨h', X.2⟩ T hT Y
  refine ⟨t, ?_, b⟩
  jvm_step Y.here [Y.here.top, ↓top_set Y.here.top, hexec, hb, hd, e', Value.isRef]
  exact a
theorem v_lstore_n {k : Fin 4} {x : Int64} (hd : decode y.2.1 pc = .ok (.lstore_n k, 1)) (hi : (k : Nat) + 1 < y.2.2.1) (hn : noL L (k : Nat) = true) (h : V g d y (pc + 1) ((L.set ((k : Nat) + 1) none).set (k : Nat) (some (.long x))) st A Φ) : V g d y pc L (.long x :: st) A Φ := by
  intro p l e R s m args below meth c z C H locs cells slots ls X
  have hexec := C.1
  have hb := C.2.1
  obtain ⟨ls', e', h'⟩ := X.1.st2 (v := .long x) hi rfl hn
  intro T hT Y
  obtain ⟨t, a, b⟩ := h p l e R s m args below meth c z C H locs cells slots ls' ⟨h', X.2⟩ T hT Y
  refine ⟨t, ?_, b⟩
  jvm_step Y.here [Y.here.top, ↓top_set Y.here.top, hexec, hb, hd, e', Value.isRef]
  exact a
theorem v_lstore {k : Nat} {x : Int64} (hd : decode y.2.1 pc = .ok (.lstore k, 2)) (hi : k + 1 < y.2.2.1) (hn : noL L k = true) (h : V g d y (pc + 2) ((L.set (k + 1) none).set k (some (.long x))) st A Φ) : V g d y pc L (.long x :: st) A Φ := by
  intro p l e R s m args below meth c z C H locs cells slots ls X
  have hexec := C.1
  have hb := C.2.1
  obtain ⟨ls', e', h'⟩ := X.1.st2 (v := .long x) hi rfl hn
  intro T hT Y
  obtain ⟨t, a, b⟩ := h p l e R s m args below meth c z C H locs cells slots ls' ⟨h', X.2⟩ T hT Y
  refine ⟨t, ?_, b⟩
  jvm_step Y.here [Y.here.top, ↓top_set Y.here.top, hexec, hb, hd, e', Value.isRef]
  exact a
theorem v_astore_n {k : Fin 4} {x : Nat} (hd : decode y.2.1 pc = .ok (.astore_n k, 1)) (hi : (k : Nat) < y.2.2.1) (hn : noL L (k : Nat) = true) (h : V g d y (pc + 1) (L.set (k : Nat) (some (.ref x))) st A Φ) : V g d y pc L (.ref x :: st) A Φ := by
  intro p l e R s m args below meth c z C H locs cells slots ls X
  have hexec := C.1
  have hb := C.2.1
  obtain ⟨ls', e', h'⟩ := X.1.st1 (v := .ref x) hi rfl hn
  intro T hT Y
  obtain ⟨t, a, b⟩ := h p l e R s m args below meth c z C H locs cells slots ls' ⟨h', X.2⟩ T hT Y
  refine ⟨t, ?_, b⟩
  jvm_step Y.here [Y.here.top, ↓top_set Y.here.top, hexec, hb, hd, e', Value.isRef]
  exact a
theorem v_astore {k : Nat} {x : Nat} (hd : decode y.2.1 pc = .ok (.astore k, 2)) (hi : k < y.2.2.1) (hn : noL L k = true) (h : V g d y (pc + 2) (L.set k (some (.ref x))) st A Φ) : V g d y pc L (.ref x :: st) A Φ := by
  intro p l e R s m args below meth c z C H locs cells slots ls X
  have hexec := C.1
  have hb := C.2.1
  obtain ⟨ls', e', h'⟩ := X.1.st1 (v := .ref x) hi rfl hn
  intro T hT Y
  obtain ⟨t, a, b⟩ := h p l e R s m args below meth c z C H locs cells slots ls' ⟨h', X.2⟩ T hT Y
  refine ⟨t, ?_, b⟩
  jvm_step Y.here [Y.here.top, ↓top_set Y.here.top, hexec, hb, hd, e', Value.isRef]
  exact a
theorem v_astoreN_n {k : Fin 4} (hd : decode y.2.1 pc = .ok (.astore_n k, 1)) (hi : (k : Nat) < y.2.2.1) (hn : noL L (k : Nat) = true) (h : V g d y (pc + 1) (L.set (k : Nat) (some (.null))) st A Φ) : V g d y pc L (.null :: st) A Φ := by
  intro p l e R s m args below meth c z C H locs cells slots ls X
  have hexec := C.1
  have hb := C.2.1
  obtain ⟨ls', e', h'⟩ := X.1.st1 (v := .null) hi rfl hn
  intro T hT Y
  obtain ⟨t, a, b⟩ := h p l e R s m args below meth c z C H locs cells slots ls' ⟨h', X.2⟩ T hT Y
  refine ⟨t, ?_, b⟩
  jvm_step Y.here [Y.here.top, ↓top_set Y.here.top, hexec, hb, hd, e', Value.isRef]
  exact a
theorem v_astoreN {k : Nat} (hd : decode y.2.1 pc = .ok (.astore k, 2)) (hi : k < y.2.2.1) (hn : noL L k = true) (h : V g d y (pc + 2) (L.set k (some (.null))) st A Φ) : V g d y pc L (.null :: st) A Φ := by
  intro p l e R s m args below meth c z C H locs cells slots ls X
  have hexec := C.1
  have hb := C.2.1
  obtain ⟨ls', e', h'⟩ := X.1.st1 (v := .null) hi rfl hn
  intro T hT Y
  obtain ⟨t, a, b⟩ := h p l e R s m args below meth c z C H locs cells slots ls' ⟨h', X.2⟩ T hT Y
  refine ⟨t, ?_, b⟩
  jvm_step Y.here [Y.here.top, ↓top_set Y.here.top, hexec, hb, hd, e', Value.isRef]
  exact a
theorem v_iinc {k : Nat} {n : Int} {x : Int32} (hd : decode y.2.1 pc = .ok (.iinc k n, 3)) (hl : L[k]? = some (some (.int x))) (hi : k < y.2.2.1) (hn : noL L k = true) (h : V g d y (pc + 3) (L.set k (some (.int (x + Int32.ofInt n)))) st A Φ) : V g d y pc L st A Φ := by
  intro p l e R s m args below meth c z C H locs cells slots ls X
  have hexec := C.1
  have hb := C.2.1
  have hg := X.1.2.2.2 _ _ hl
  obtain ⟨ls', e', h'⟩ := X.1.st1 (v := .int (x + Int32.ofInt n)) hi rfl hn
  intro T hT Y
  obtain ⟨t, a, b⟩ := h p l e R s m args below meth c z C H locs cells slots ls' ⟨h', X.2⟩ T hT Y
  refine ⟨t, ?_, b⟩
  jvm_step Y.here [Y.here.top, ↓top_set Y.here.top, hexec, hb, hd, hg, e']
  exact a
end VR
end
section
/-! rules of V for fields, arrays, new cells and returns -/
def aset (A : AH) (a : Nat) (x : AC) : AH := (fun q => if q = a then some x else A.1 q, A.2.1, A.2.2)
def anew (A : AH) (x : AC) (n : Nat) : AH := (fun q => if q = A.2.1 then some x else A.1 q, A.2.1 + 1, A.2.2 + n)
theorem HR.set {g : Gx} {A : AH} {H H' : Heap} {a : Nat} {x x' : AC} {cell : Cell} (h : HR g A H) (ha : A.1 a = some x) (e1 : H'[a]? = some cell) (hok : okC g x' cell) (e2 : H'.size = H.size) (e3 : ∀ q, q ≠ a → H'[q]? = H[q]?) : HR g (aset A a x') H' := by
  obtain ⟨h1, h2, h3, hl, hs, h4⟩ := h
  refine ⟨e2.trans h1, by rw [e2]; exact h2, fun q hq => ?_, hl, hs, fun b w hb => ?_⟩
  · rw [e3 q (Nat.ne_of_lt (Nat.lt_of_lt_of_le hq (h4 a x ha).1))]; exact h3 q hq
  · simp only [aset] at hb
    split at hb
    · rename_i hba
      cases hb; subst hba
      exact ⟨(h4 _ x ha).1, cell, e1, hok⟩
    · rename_i hba
      obtain ⟨p1, cb, p2, p3⟩ := h4 b w hb
      exact ⟨p1, cb, by rw [e3 b hba]; exact p2, p3⟩
theorem HR.new {g : Gx} {A : AH} {H H' : Heap} {x : AC} {cell : Cell} {n : Nat} (h : HR g A H) (e1 : H'[A.2.1]? = some cell) (hok : okC g x cell) (e2 : H'.size = A.2.1 + 1) (e3 : ∀ q, q < A.2.1 → H'[q]? = H[q]?) (hl : A.2.1 + 1 ≤ gL g) (hs : A.2.2 + n ≤ gS g) : HR g (anew A x n) H' := by
  obtain ⟨h1, h2, h3, -, -, h4⟩ := h
  rw [h1] at h2
  refine ⟨e2, by rw [e2]; omega, fun q hq => ?_, hl, hs, fun b w hb => ?_⟩
  · rw [e3 q (Nat.lt_of_lt_of_le hq h2)]; exact h3 q hq
  · simp only [anew] at hb
    split at hb
    · rename_i hba
      cases hb; subst hba
      exact ⟨h2, cell, e1, hok⟩
    · obtain ⟨p1, cb, p2, p3⟩ := h4 b w hb
      have hlt := (Array.getElem?_eq_some_iff.mp p2).1
      rw [h1] at hlt
      exact ⟨p1, cb, by rw [e3 b hlt]; exact p2, p3⟩
theorem okC.obj {g : Gx} {ci : Nat} {fs : List Value} {cell : Cell} (h : okC g (ci, fs) cell) (hci : ci < 100) : ∃ r, (gC g)[ci]? = some r ∧ cell.cls = (gD g).1 ci ∧ cell.vm = .none ∧ fs.length = r.2.2 ∧ ∀ k, k < r.2.2 → cell.slots[(gD g).2 ci k]? = fs[k]? := by
  rcases h with ⟨-, h⟩ | ⟨h, -⟩ | ⟨h, -⟩
  · exact h
  · exact absurd hci (Nat.not_lt.mpr h)
  · exact absurd hci (by simp only at h; omega)
theorem okC.arr {g : Gx} {j : Nat} {fs : List Value} {cell : Cell} (h : okC g (100 + j, fs) cell) (hj : j < 100) : cell = { cls := gA g j, slots := fs.toArray, vm := .none } := by
  rcases h with ⟨h, -⟩ | ⟨-, -, h⟩ | ⟨h, -⟩
  · simp only at h; omega
  · rw [h]; simp
  · simp only at h; omega
/-- a field's row: the words that link it, the class that holds it, its place -/
def FR (WS : List Cond) (cl : List vw_C) (own : String) (idx ci k : Nat) : Prop := ci < 100 ∧ ∃ (C : String) (T : u_T) (N : Nat) (ref : String), cl[ci]? = some (C, T, N) ∧ k < N ∧ (∀ w ∈ u_ws C T N, w ∈ WS) ∧
  (Cond.fieldLink own idx ref (T k).2.1 (T k).2.2.1 ∈ WS ∨ ∃ host, Cond.fieldLinkNest own idx ref (T k).2.1 (T k).2.2.1 host ∈ WS) ∧ (ref = (T k).1 ∨ Cond.sameField ref (T k).1 (T k).2.1 (T k).2.2.1 ∈ WS)
def FP (WS : List Cond) (cl : List vw_C) (own : String) (idx ci k : Nat) (ty : FieldType) (fin : Bool) : Prop := ci < 100 ∧ ∃ (C : String) (T : u_T) (N : Nat) (ref : String) (ty0 : Nat → FieldType), cl[ci]? = some (C, T, N) ∧ k < N ∧ (∀ w ∈ u_ws C T N, w ∈ WS) ∧
  (Cond.fieldLink own idx ref (T k).2.1 (T k).2.2.1 ∈ WS ∨ (fin = false ∧ ∃ host, Cond.fieldLinkNest own idx ref (T k).2.1 (T k).2.2.1 host ∈ WS)) ∧ (ref = (T k).1 ∨ Cond.sameField ref (T k).1 (T k).2.1 (T k).2.2.1 ∈ WS) ∧
  (∀ j, j < N → parseFieldDescriptor (T j).2.2.1 = some (ty0 j)) ∧ (∀ a, a < N → ∀ b, b < N → a ≠ b → (T a).2.1 ≠ (T b).2.1) ∧ parseFieldDescriptor (T k).2.2.1 = some ty ∧ (T k).2.2.2 = fin ∧ (fin = true → (T k).1 = own)
section VH
variable {g : Gx} {d : Nat} {y : MT} {pc : Nat} {L : Lo} {st : List Value} {A : AH} {Φ : Out → AH → Prop}
theorem v_getf {idx ci k a : Nat} {fs : List Value} {v : Value} (hd : decode y.2.1 pc = .ok (.getfield idx, 3)) (hf : FR (gW g) (gC g) y.1.cls idx ci k) (hA : A.1 a = some (ci, fs)) (hv : fs[k]? = some v) (h : V g d y (pc + 3) L (v :: st) A Φ) : V g d y pc L (.ref a :: st) A Φ := by
  intro p l e R s m args below meth c z C H locs cells slots ls X
  have kk := h p l e R s m args below meth c z C H locs cells slots ls X
  obtain ⟨hx, hb, -, -, -, hown, -, -, hT, -⟩ := C
  obtain ⟨hci, Cn, T, N, ref, hc, hk, hin, hlink, hsame⟩ := hf
  obtain ⟨-, cell, hcell, hok⟩ := X.2.1.2.2.2.2.2 a _ hA
  obtain ⟨r, hr', hcls, hvm, hlen, hsl⟩ := hok.obj hci
  cases hr'.symm.trans hc
  obtain ⟨hS, hfc, kC, hkC, hkind⟩ := hT.2.2.1.1 ci _ hc
  obtain ⟨cf, kf, fi, f, hi, hsl2⟩ := hS k hk
  have hi' : s.fieldFound? ref (T k).2.1 (T k).2.2.1 = some (cf, kf, fi, f) := by
    rcases hsame with rfl | hw
    · exact hi
    · exact u_same (hT.1 _ hw) _ hi
  have hst := (u_facts hfc hkC (u_lays hT.1 hin hk) hi).1
  have hslot : cell.slots[f.slot]? = some v := by rw [hsl2, hsl k hk]; exact hv
  have hkn : cell.vm ≠ .unknown := by rw [hvm]; exact fun q => by cases q
  rcases hlink with hw | ⟨host, hw⟩
  · exact W.getf hx hb hown (hT.1 _ hw) hi' hst hcell hkn hslot rfl rfl hd kk
  · exact va_Wgetf hx hb hown (hT.1 _ hw) hi' hst hcell hkn hslot rfl rfl hd kk
theorem okC.setf {g : Gx} {ci k : Nat} {fs : List Value} {cell : Cell} {r : vw_C} {v : Value} (hci : ci < 100) (hr : (gC g)[ci]? = some r) (hcls : cell.cls = (gD g).1 ci) (hvm : cell.vm = .none) (hlen : fs.length = r.2.2) (hsl : ∀ k, k < r.2.2 → cell.slots[(gD g).2 ci k]? = fs[k]?)
    (hap : ∀ x y, x < r.2.2 → y < r.2.2 → x ≠ y → (gD g).2 ci x ≠ (gD g).2 ci y) (hk : k < r.2.2) : okC g (ci, fs.set k v) (cell.setSlot ((gD g).2 ci k) v) := by
  refine Or.inl ⟨hci, r, hr, hcls, hvm, by rw [List.length_set]; exact hlen, fun j hj => ?_⟩
  by_cases hjk : j = k
  · subst hjk
    have h1 := hsl j hj
    rw [List.getElem?_eq_getElem (by omega)] at h1
    have h2 := k2_hasslot h1
    simp [Cell.setSlot, Array.getElem?_setIfInBounds, h2, hlen, hj]
  · have h3 : (gD g).2 ci k ≠ (gD g).2 ci j := hap k j hk hj (fun q => hjk q.symm)
    rw [slot_ne cell v h3, hsl j hj, List.getElem?_set]
    simp [Ne.symm hjk]
theorem v_putf {idx ci k a : Nat} {fs : List Value} {v : Value} {ty : FieldType} {fin : Bool} (hd : decode y.2.1 pc = .ok (.putfield idx, 3)) (hf : FP (gW g) (gC g) y.1.cls idx ci k ty fin) (hfin : fin = true → y.1.name = "<init>") (hA : A.1 a = some (ci, fs)) (hn : narrow ty v = v) (hfit : fits ty v = true)
    (h : V g d y (pc + 3) L st (aset A a (ci, fs.set k v)) Φ) : V g d y pc L (v :: .ref a :: st) A Φ := by
  intro p l e R s m args below meth c z C H locs cells slots ls X
  have kk := h p l e R s m args below meth c z C
  obtain ⟨hx, hb, -, -, -, hown, hnm, -, hT, -⟩ := C
  obtain ⟨hci, Cn, T, N, ref, ty0, hc, hk, hin, hlink, hsame, hty, hnms, hdt, hfb, hdecl⟩ := hf
  obtain ⟨hba, cell, hcell, hok⟩ := X.2.1.2.2.2.2.2 a _ hA
  obtain ⟨r, hr', hcls, hvm, hlen, hsl⟩ := hok.obj hci
  cases hr'.symm.trans hc
  have hap := va_apart (own := y.1.cls) hT.1 hin ty0 hty hnms hT.2.2.1 hc
  obtain ⟨hS, hfc, kC, hkC, hkind⟩ := hT.2.2.1.1 ci _ hc
  obtain ⟨cf, kf, fi, f, hi, hsl2⟩ := hS k hk
  have hi' : s.fieldFound? ref (T k).2.1 (T k).2.2.1 = some (cf, kf, fi, f) := by
    rcases hsame with rfl | hw
    · exact hi
    · exact u_same (hT.1 _ hw) _ hi
  have hst := (u_facts hfc hkC (u_lays hT.1 hin hk) hi).1
  have hlt : f.slot < cell.slots.size := by
    have h1 := hsl k hk
    rw [List.getElem?_eq_getElem (by rw [hlen]; exact hk)] at h1
    rw [hsl2]; exact k2_hasslot h1
  have fin' : ∀ H' : Heap, H'[a]? = some (cell.setSlot f.slot v) → H'.size = H.size → (∀ q, q ≠ a → H'[q]? = H[q]?) →
      W p l e R s m args below meth c H' (locs ++ [⟨a, f.slot⟩]) cells slots (Ex g below s z Φ) (F0 m (pc + 3) ls st) := by
    intro H' e1 e2 e3
    rw [hsl2] at e1
    exact kk H' _ cells slots ls ⟨X.1, X.2.1.set hA e1 (okC.setf hci hc hcls hvm hlen hsl hap hk) e2 e3, X.2.2.1, X.2.2.2.1, t_lc X.2.2.2.2 hba⟩
  have hlay := hT.1 _ (hin _ (u_in_lay hk))
  unfold u_lay at hlay
  cases fin with
  | false =>
    rw [if_neg (by rw [hfb]; decide)] at hlay
    have h6 := u_store hfc hkC hkind hlay hi hdt hn hfit
    rcases hlink with hw | ⟨-, host, hw⟩
    · exact W.putK hx hb (f := f) ⟨hown, hT.1 _ hw, ⟨_, _, _, hi'⟩, hst⟩ (by rw [hcls]; exact h6) hcell hvm hlt rfl rfl hd fin'
    · exact va_WputK hx hb (f := f) hown (hT.1 _ hw) hi' hst (by rw [hcls]; exact h6) hcell hvm hlt rfl rfl hd fin'
  | true =>
    rw [if_pos hfb] at hlay
    have hcf : m.cls = cf := by
      obtain ⟨_, _, c', _, _, _, -, -, hf', -, -, -, hown2, -⟩ := Cond.laysFinal_spec hlay
      have e1 : c' = cf := by have := hi.symm.trans hf'; simp at this; exact this.1.symm
      rw [hdecl rfl] at hown2
      rw [← e1]; exact Option.some.inj (hown.symm.trans hown2)
    have h6 := u_fits hfc hkC hkind (Or.inr hlay) hi hdt hn hfit
    rcases hlink with hw | ⟨hff, -⟩
    · exact W.putFinK hx hb hown (hT.1 _ hw) hi' hst hcf (hnm.trans (hfin rfl)) (by rw [hcls]; exact h6) hcell hvm hlt rfl rfl hd fin'
    · cases hff
theorem arr_setSlot (cA : ClassId) (vs : List Value) (n : Nat) (v : Value) : ({ cls := cA, slots := vs.toArray, vm := .none } : Cell).setSlot n v = { cls := cA, slots := (vs.set n v).toArray, vm := .none } := by
  show ({ cls := cA, slots := vs.toArray.setIfInBounds n v, vm := .none } : Cell) = _
  simp
theorem arr_is {s : State} {cA : ClassId} {ty : FieldType} (h : ArrOfT s cA ty) (vs : List Value) : s.isArrayOf ({ cls := cA, slots := vs.toArray, vm := .none } : Cell) ty := by
  have h1 := h vs.length (fun j => vs.getD j .null)
  have h2 : arrV cA vs.length (fun j => vs.getD j .null) = { cls := cA, slots := vs.toArray, vm := .none } := by
    unfold arrV
    congr 1
    apply Array.ext
    · simp
    · intro i h3 h4
      simp at h3
      simp [h3]
  rw [h2] at h1
  exact h1
theorem HR.arr {H : Heap} {j a : Nat} {vs : List Value} {ty : FieldType} {s : State} {args : Array Value} (h : HR g A H) (hT : TF g s args) (hA : A.1 a = some (100 + j, vs)) (hj : j < 100) (ht : (gT g)[j]? = some ty) :
    ∃ cell : Cell, H[a]? = some cell ∧ (gH g).size ≤ a ∧ cell = { cls := gA g j, slots := vs.toArray, vm := .none } ∧ s.isArrayOf cell ty ∧ cell.vm ≠ .unknown := by
  obtain ⟨hba, cell, hcell, hok⟩ := h.2.2.2.2.2 a _ hA
  have e := hok.arr hj
  refine ⟨cell, hcell, hba, e, ?_, by rw [e]; exact fun q => by cases q⟩
  rw [e]
  exact arr_is (hT.2.2.2.1 j ty ht).1 vs
theorem v_iald {j a : Nat} {vs : List Value} {i : Int32} {v : Value} (hd : decode y.2.1 pc = .ok (.iaload, 1)) (hA : A.1 a = some (100 + j, vs)) (hj : j < 100) (ht : (gT g)[j]? = some .int) (hi : ¬ i < 0) (hv : vs[i.toNatClampNeg]? = some v) (h : V g d y (pc + 1) L (v :: st) A Φ) : V g d y pc L (.int i :: .ref a :: st) A Φ := by
  intro p l e R s m args below meth c z C H locs cells slots ls X
  have kk := h p l e R s m args below meth c z C H locs cells slots ls X
  obtain ⟨hx, hb, -, -, -, hown, -, -, hT, -⟩ := C
  obtain ⟨cell, hcell, hba, e0, harr, hkn⟩ := X.2.1.arr hT hA hj ht
  have hlt := (List.getElem?_eq_some_iff.mp hv).1
  exact W.iald hx hb hcell harr hkn (by rw [e0]; simp only [List.size_toArray]; exact fun q => q.elim hi (fun q => absurd q (Nat.not_le.mpr hlt))) (by rw [e0]; simp only [List.getElem?_toArray]; exact hv) rfl rfl hd kk
theorem v_zald {j a : Nat} {vs : List Value} {i : Int32} {v : Value} (hd : decode y.2.1 pc = .ok (.baload, 1)) (hA : A.1 a = some (100 + j, vs)) (hj : j < 100) (ht : (gT g)[j]? = some .boolean) (hi : ¬ i < 0) (hv : vs[i.toNatClampNeg]? = some v) (h : V g d y (pc + 1) L (v :: st) A Φ) : V g d y pc L (.int i :: .ref a :: st) A Φ := by
  intro p l e R s m args below meth c z C H locs cells slots ls X
  have kk := h p l e R s m args below meth c z C H locs cells slots ls X
  obtain ⟨hx, hb, -, -, -, hown, -, -, hT, -⟩ := C
  obtain ⟨cell, hcell, hba, e0, harr, hkn⟩ := X.2.1.arr hT hA hj ht
  have hlt := (List.getElem?_eq_some_iff.mp hv).1
  exact W.zald hx hb hcell harr hkn (by rw [e0]; simp only [List.size_toArray]; exact fun q => q.elim hi (fun q => absurd q (Nat.not_le.mpr hlt))) (by rw [e0]; simp only [List.getElem?_toArray]; exact hv) rfl rfl hd kk
theorem v_lald {j a : Nat} {vs : List Value} {i : Int32} {v : Value} (hd : decode y.2.1 pc = .ok (.laload, 1)) (hA : A.1 a = some (100 + j, vs)) (hj : j < 100) (ht : (gT g)[j]? = some .long) (hi : ¬ i < 0) (hv : vs[i.toNatClampNeg]? = some v) (h : V g d y (pc + 1) L (v :: st) A Φ) : V g d y pc L (.int i :: .ref a :: st) A Φ := by
  intro p l e R s m args below meth c z C H locs cells slots ls X
  have kk := h p l e R s m args below meth c z C H locs cells slots ls X
  obtain ⟨hx, hb, -, -, -, hown, -, -, hT, -⟩ := C
  obtain ⟨cell, hcell, hba, e0, harr, hkn⟩ := X.2.1.arr hT hA hj ht
  have hlt := (List.getElem?_eq_some_iff.mp hv).1
  exact W.lald hx hb hcell harr hkn (by rw [e0]; simp only [List.size_toArray]; exact fun q => q.elim hi (fun q => absurd q (Nat.not_le.mpr hlt))) (by rw [e0]; simp only [List.getElem?_toArray]; exact hv) rfl rfl hd kk
theorem v_aald {j a : Nat} {vs : List Value} {i : Int32} {v : Value} {ty : FieldType} (hd : decode y.2.1 pc = .ok (.aaload, 1)) (hA : A.1 a = some (100 + j, vs)) (hj : j < 100) (ht : (gT g)[j]? = some ty) (href : ty.isReference = true) (hi : ¬ i < 0) (hv : vs[i.toNatClampNeg]? = some v) (h : V g d y (pc + 1) L (v :: st) A Φ) : V g d y pc L (.int i :: .ref a :: st) A Φ := by
  intro p l e R s m args below meth c z C H locs cells slots ls X
  have kk := h p l e R s m args below meth c z C H locs cells slots ls X
  obtain ⟨hx, hb, -, -, -, hown, -, -, hT, -⟩ := C
  obtain ⟨cell, hcell, hba, e0, harr, hkn⟩ := X.2.1.arr hT hA hj ht
  have hlt := (List.getElem?_eq_some_iff.mp hv).1
  exact W.aald hx hb hcell harr href hkn (by rw [e0]; simp only [List.size_toArray]; exact fun q => q.elim hi (fun q => absurd q (Nat.not_le.mpr hlt))) (by rw [e0]; simp only [List.getElem?_toArray]; exact hv) rfl rfl hd kk
theorem v_iast {j a : Nat} {vs : List Value} {i : Int32} {x : Int32} (hd : decode y.2.1 pc = .ok (.iastore, 1)) (hA : A.1 a = some (100 + j, vs)) (hj : j < 100) (ht : (gT g)[j]? = some .int) (hi : ¬ i < 0) (hlt : i.toNatClampNeg < vs.length) (h : V g d y (pc + 1) L st (aset A a (100 + j, vs.set i.toNatClampNeg (.int x))) Φ) : V g d y pc L (.int x :: .int i :: .ref a :: st) A Φ := by
  intro p l e R s m args below meth c z C H locs cells slots ls X
  have kk := h p l e R s m args below meth c z C
  obtain ⟨hx, hb, -, -, -, hown, -, -, hT, -⟩ := C
  obtain ⟨cell, hcell, hba, e0, harr, hkn⟩ := X.2.1.arr hT hA hj ht
  refine W.iast hx hb hcell harr hkn (by rw [e0]; simp only [List.size_toArray]; exact fun q => q.elim hi (fun q => absurd q (Nat.not_le.mpr hlt))) rfl rfl hd fun H' e1 e2 e3 => ?_
  refine kk H' _ cells slots ls ⟨X.1, X.2.1.set hA e1 ?_ e2 e3, X.2.2.1, X.2.2.2.1, t_lc X.2.2.2.2 hba⟩
  skip
  rw [e0, arr_setSlot]
  exact Or.inr (Or.inl ⟨by simp, by simp only; omega, by simp⟩)
theorem v_last {j a : Nat} {vs : List Value} {i : Int32} {x : Int64} (hd : decode y.2.1 pc = .ok (.lastore, 1)) (hA : A.1 a = some (100 + j, vs)) (hj : j < 100) (ht : (gT g)[j]? = some .long) (hi : ¬ i < 0) (hlt : i.toNatClampNeg < vs.length) (h : V g d y (pc + 1) L st (aset A a (100 + j, vs.set i.toNatClampNeg (.long x))) Φ) : V g d y pc L (.long x :: .int i :: .ref a :: st) A Φ := by
  intro p l e R s m args below meth c z C H locs cells slots ls X
  have kk := h p l e R s m args below meth c z C
  obtain ⟨hx, hb, -, -, -, hown, -, -, hT, -⟩ := C
  obtain ⟨cell, hcell, hba, e0, harr, hkn⟩ := X.2.1.arr hT hA hj ht
  refine W.last hx hb hcell harr hkn (by rw [e0]; simp only [List.size_toArray]; exact fun q => q.elim hi (fun q => absurd q (Nat.not_le.mpr hlt))) rfl rfl hd fun H' e1 e2 e3 => ?_
  refine kk H' _ cells slots ls ⟨X.1, X.2.1.set hA e1 ?_ e2 e3, X.2.2.1, X.2.2.2.1, t_lc X.2.2.2.2 hba⟩
  skip
  rw [e0, arr_setSlot]
  exact Or.inr (Or.inl ⟨by simp, by simp only; omega, by simp⟩)
theorem v_zast {j a : Nat} {vs : List Value} {i : Int32} {x : Int32} (hd : decode y.2.1 pc = .ok (.bastore, 1)) (hA : A.1 a = some (100 + j, vs)) (hj : j < 100) (ht : (gT g)[j]? = some .boolean) (hi : ¬ i < 0) (hlt : i.toNatClampNeg < vs.length) (hx2 : narrow .boolean (.int x) = .int x) (h : V g d y (pc + 1) L st (aset A a (100 + j, vs.set i.toNatClampNeg (.int x))) Φ) : V g d y pc L (.int x :: .int i :: .ref a :: st) A Φ := by
  intro p l e R s m args below meth c z C H locs cells slots ls X
  have kk := h p l e R s m args below meth c z C
  obtain ⟨hx, hb, -, -, -, hown, -, -, hT, -⟩ := C
  obtain ⟨cell, hcell, hba, e0, harr, hkn⟩ := X.2.1.arr hT hA hj ht
  refine W.zast hx hb hcell harr hkn (by rw [e0]; simp only [List.size_toArray]; exact fun q => q.elim hi (fun q => absurd q (Nat.not_le.mpr hlt))) rfl rfl hd fun H' e1 e2 e3 => ?_
  refine kk H' _ cells slots ls ⟨X.1, X.2.1.set hA e1 ?_ e2 e3, X.2.2.1, X.2.2.2.1, t_lc X.2.2.2.2 hba⟩
  rw [hx2]
  rw [e0, arr_setSlot]
  exact Or.inr (Or.inl ⟨by simp, by simp only; omega, by simp⟩)
theorem v_alen {j a : Nat} {vs : List Value} {ty : FieldType} (hd : decode y.2.1 pc = .ok (.arraylength, 1)) (hA : A.1 a = some (100 + j, vs)) (hj : j < 100) (ht : (gT g)[j]? = some ty) (h : V g d y (pc + 1) L (.int vs.length.toInt32 :: st) A Φ) : V g d y pc L (.ref a :: st) A Φ := by
  intro p l e R s m args below meth c z C H locs cells slots ls X
  have kk := h p l e R s m args below meth c z C H locs cells slots ls X
  obtain ⟨hx, hb, -, -, -, hown, -, -, hT, -⟩ := C
  obtain ⟨cell, hcell, hba, e0, harr, hkn⟩ := X.2.1.arr hT hA hj ht
  exact W.alen hx hb hcell harr (by rw [e0]; simp only [List.size_toArray]) rfl rfl hd kk
/-- what an array of references takes: an object of its own class, or of one below it -/
def AS (WS : List Cond) (cl : List vw_C) (ta : List FieldType) (j kv : Nat) : Prop := j < 100 ∧ kv < 100 ∧ ∃ (C : String) (r : vw_C), ta[j]? = some (.object C) ∧ cl[kv]? = some r ∧ (r.1 = C ∨ Cond.castable r.1 C ∈ WS)
theorem v_aast {j kv a b : Nat} {vs fv : List Value} {i : Int32} (hd : decode y.2.1 pc = .ok (.aastore, 1)) (hs : AS (gW g) (gC g) (gT g) j kv) (hA : A.1 a = some (100 + j, vs)) (hB : A.1 b = some (kv, fv)) (hi : ¬ i < 0) (hlt : i.toNatClampNeg < vs.length)
    (h : V g d y (pc + 1) L st (aset A a (100 + j, vs.set i.toNatClampNeg (.ref b))) Φ) : V g d y pc L (.ref b :: .int i :: .ref a :: st) A Φ := by
  intro p l e R s m args below meth c z C H locs cells slots ls X
  have kk := h p l e R s m args below meth c z C
  obtain ⟨hx, hb, -, -, -, hown, -, -, hT, -⟩ := C
  obtain ⟨hj, hkv, Cn, r, ht, hr, hor⟩ := hs
  obtain ⟨cell, hcell, hba, e0, harr, hkn⟩ := X.2.1.arr hT hA hj ht
  obtain ⟨-, cellB, hcB, hokB⟩ := X.2.1.2.2.2.2.2 b _ hB
  obtain ⟨r', hr', hcls, hvm, -, -⟩ := hokB.obj hkv
  cases hr.symm.trans hr'
  obtain ⟨-, hCA⟩ := hT.2.2.1.1 kv _ hr
  obtain ⟨kA, comp, k1, k2, k3, -⟩ := (hT.2.2.2.1 j _ ht).2
  obtain ⟨kB, hkB, hkindB⟩ := hCA.2
  have hasg : s.vm.assignable cellB.cls comp = true := by
    rw [hcls]
    rcases hor with hq | hw
    · rw [← hq] at k3
      cases k3.symm.trans hCA.1
      exact va_assign hCA
    · obtain ⟨c0, t0, f1, f2, f3⟩ := Cond.castable_spec (hT.1 _ hw)
      cases f1.symm.trans hCA.1
      cases f2.symm.trans k3
      exact f3
  obtain ⟨kcomp, hkcomp⟩ := Vm.classAt_of_findClass k3
  refine W.aast hx hb hcell (fun q hq => by rw [e0] at hq; cases hq) hkn (by rw [e0]; exact k1) k2 rfl hkcomp ⟨hi, by rw [e0]; simpa using hlt⟩ hcB (fun q hq => by rw [hvm] at hq; cases hq) (by rw [hcls]; exact hkB) hasg rfl rfl hd fun H' e1 e2 e3 => ?_
  refine kk H' _ cells slots ls ⟨X.1, X.2.1.set hA e1 ?_ e2 e3, X.2.2.1, X.2.2.2.1, t_lc X.2.2.2.2 hba⟩
  rw [e0, arr_setSlot]
  exact Or.inr (Or.inl ⟨by simp, by simp only; omega, by simp⟩)
/-- a class's row for 'new' -/
def NW (WS : List Cond) (cl : List vw_C) (own : String) (idx ci : Nat) (fs : List Value) : Prop := ci < 100 ∧ ∃ (C : String) (T : u_T) (N : Nat) (ty : Nat → FieldType), cl[ci]? = some (C, T, N) ∧ (∀ w ∈ u_ws C T N, w ∈ WS) ∧ (∀ j, j < N → parseFieldDescriptor (T j).2.2.1 = some (ty j)) ∧
  Cond.classLink own idx C ∈ WS ∧ Cond.instantiable C N ∈ WS ∧ Cond.initialized C ∈ WS ∧ fs.length = N ∧ ∀ j, j < N → fs[j]? = some (defaultValue (ty j))
theorem v_new {idx ci : Nat} {fs : List Value} (hd : decode y.2.1 pc = .ok (.new idx, 3)) (hw : NW (gW g) (gC g) y.1.cls idx ci fs) (hl : A.2.1 + 1 ≤ gL g) (hs : A.2.2 + fs.length ≤ gS g)
    (h : V g d y (pc + 3) L (.ref A.2.1 :: st) (anew A (ci, fs) fs.length) Φ) : V g d y pc L st A Φ := by
  intro p l e R s m args below meth c z C H locs cells slots ls X
  have kk := h p l e R s m args below meth c z C
  obtain ⟨hx, hb, -, -, -, hown, -, -, hT, -, -, hgl, hgs, -⟩ := C
  obtain ⟨hci, Cn, T, N, ty, hc, hin, hty, w1, w2, w3, hlen, hfs⟩ := hw
  subst hlen
  have hKn := hT.2.2.1.1 ci _ hc
  have hc1 := X.2.2.1
  have hz1 := X.2.2.2.1
  refine W.newcK hx hb hown (hT.1 _ w1) (hT.1 _ w2) (hT.1 _ w3) rfl hd (by omega) (by omega) hKn.2.1 X.2.1.1 fun H1 kC hkC e1 z1 o1 => ?_
  obtain ⟨cell, q1, q2, q3, q4⟩ := u_born ty hT.1 hin hKn hkC e1 hty
  refine kk H1 locs (cells + 1) (slots + fs.length) ls ⟨X.1, X.2.1.new q1 (Or.inl ⟨hci, _, hc, q2, q3, rfl, fun k hk => ?_⟩) z1 o1 hl hs, by simp only [anew]; omega, by simp only [anew]; omega, X.2.2.2.2⟩
  rw [q4 k hk, hfs k hk]
/-- an array kind's row for 'newarray' -/
theorem v_newa {j N : Nat} {at_ : ArrayType} {n : Int32} (hd : decode y.2.1 pc = .ok (.newarray at_, 2)) (hj : j < 100) (ht : (gT g)[j]? = some (newarray.typeOf at_)) (hprim : (newarray.typeOf at_).isReference = false) (hw : Cond.arrayClass (newarray.typeOf at_) ∈ gW g) (hn : ¬ n < 0) (hN : n.toNatClampNeg = N) (hb8 : N * componentBytes (newarray.typeOf at_) ≤ 536870912)
    (hl : A.2.1 + 1 ≤ gL g) (hs : A.2.2 + N ≤ gS g) (h : V g d y (pc + 2) L (.ref A.2.1 :: st) (anew A (100 + j, List.replicate N (defaultValue (newarray.typeOf at_))) N) Φ) : V g d y pc L (.int n :: st) A Φ := by
  intro p l e R s m args below meth c z C H locs cells slots ls X
  have kk := h p l e R s m args below meth c z C
  obtain ⟨hx, hb, -, -, -, hown, -, -, hT, -, -, hgl, hgs, -⟩ := C
  have hc1 := X.2.2.1
  have hz1 := X.2.2.2.1
  have hsz := X.2.1.1
  subst hN
  refine W.newa hx hb (hT.1 _ hw) rfl hd rfl hn hb8 (by omega) (by omega) fun cA kA comp f1 f2 f3 => ?_
  have e0 : cA = gA g j := by
    have h1 := (hT.2.2.2.1 j _ ht).2
    have h2 : s.vm.findClass ("[" ++ (newarray.typeOf at_).toString) = some (gA g j) := by
      cases at_ <;> exact h1
    exact Option.some.inj (f1.symm.trans h2)
  refine W.eq (g2 := F0 m (pc + 2) ls (.ref A.2.1 :: st)) (by rw [← hsz]) ?_
  refine kk _ locs (cells + 1) (slots + n.toNatClampNeg) ls ⟨X.1, X.2.1.new (cell := { cls := cA, slots := Array.replicate n.toNatClampNeg (defaultValue (newarray.typeOf at_)), vm := .none }) ?_ (Or.inr (Or.inl ⟨by simp, by simp only; omega, ?_⟩)) ?_ (fun q hq => ?_) hl hs, by simp only [anew]; omega, by simp only [anew]; omega, X.2.2.2.2⟩
  · rw [← hsz]; simp
  · rw [e0]; simp
  · rw [← hsz]; simp
  · rw [← hsz] at hq
    rw [Array.getElem?_push, if_neg (Nat.ne_of_lt hq)]
theorem v_newq {j N idx : Nat} {Cn : String} {n : Int32} (hd : decode y.2.1 pc = .ok (.anewarray idx, 3)) (hj : j < 100) (ht : (gT g)[j]? = some (.object Cn)) (hw1 : Cond.classLink y.1.cls idx Cn ∈ gW g) (hw2 : Cond.arrayOver (.object Cn) ∈ gW g) (hn : ¬ n < 0) (hN : n.toNatClampNeg = N) (hb8 : N * 4 ≤ 536870912)
    (hl : A.2.1 + 1 ≤ gL g) (hs : A.2.2 + N ≤ gS g) (h : V g d y (pc + 3) L (.ref A.2.1 :: st) (anew A (100 + j, List.replicate N .null) N) Φ) : V g d y pc L (.int n :: st) A Φ := by
  intro p l e R s m args below meth c z C H locs cells slots ls X
  have kk := h p l e R s m args below meth c z C
  obtain ⟨hx, hb, -, -, -, hown, -, -, hT, -, -, hgl, hgs, -⟩ := C
  have hc1 := X.2.2.1
  have hz1 := X.2.2.2.1
  have hsz := X.2.1.1
  subst hN
  refine W.anew hx hb hown (hT.1 _ hw1) (hT.1 _ hw2) rfl hd rfl hn hb8 (by omega) (by omega) fun cA kA comp f1 f2 f3 f4 => ?_
  have e0 : cA = gA g j := by
    obtain ⟨_, _, -, -, -, h4⟩ := (hT.2.2.2.1 j _ ht).2
    exact Option.some.inj (f1.symm.trans h4)
  refine W.eq (g2 := F0 m (pc + 3) ls (.ref A.2.1 :: st)) (by rw [← hsz]) ?_
  refine kk _ locs (cells + 1) (slots + n.toNatClampNeg) ls ⟨X.1, X.2.1.new (cell := { cls := cA, slots := Array.replicate n.toNatClampNeg .null, vm := .none }) ?_ (Or.inr (Or.inl ⟨by simp, by simp only; omega, ?_⟩)) ?_ (fun q hq => ?_) hl hs, by simp only [anew]; omega, by simp only [anew]; omega, X.2.2.2.2⟩
  · rw [← hsz]; simp
  · rw [e0]; simp
  · rw [← hsz]; simp
  · rw [← hsz] at hq
    rw [Array.getElem?_push, if_neg (Nat.ne_of_lt hq)]
/-- ends -/
theorem ex_ret {g : Gx} {below : List Frame} {s : State} {z : Nat} {Φ : Out → AH → Prop} {args : Array Value} {v : Option Value} {A : AH} {H : Heap} {cells slots : Nat} (hΦ : Φ (.inl v) A) (hH : HR g A H) (hc : s.heap.size + cells = A.2.1) (hz : z + slots = A.2.2) (t : State)
    (h : MQ below (fun _ _ o t => o = .returned v ∧ t.heap = H) args s cells slots (fun q => (gH g).size ≤ q) t) : Ex g below s z Φ t := by
  obtain ⟨o, h1, h2, ⟨rfl, h3⟩, K, ⟨-, h4, h5⟩, h6⟩ := h
  exact ⟨_, K, cells, slots, .inl v, A, h1, h2, h4, h5, h6, hΦ, by rw [h3]; exact hH, hc, hz, rfl⟩
theorem v_iret {x : Int32} (hd : decode y.2.1 pc = .ok (.ireturn, 1)) (hr : y.2.2.2.1 = some .int) (h : Φ (.inl (some (.int x))) A) : V g d y pc L [.int x] A Φ := by
  intro p l e R s m args below meth c z C H locs cells slots ls X
  obtain ⟨hx, hb, -, hrt, hlk, -⟩ := C
  exact W.mono (W.iret (Qc := fun _ _ o t => o = .returned (some (.int x)) ∧ t.heap = H) (free := fun q => (gH g).size ≤ q) hx hb (hrt.trans hr) (fun t ht _ => ⟨rfl, ht⟩) X.2.2.2.2 hd hlk) (fun t ht => ex_ret h X.2.1 X.2.2.1 X.2.2.2.1 t ht)
theorem v_zret {x : Int32} {ty : FieldType} (hd : decode y.2.1 pc = .ok (.ireturn, 1)) (hr : y.2.2.2.1 = some ty) (hn : narrow ty (.int x) = .int x) (h : Φ (.inl (some (.int x))) A) : V g d y pc L [.int x] A Φ := by
  intro p l e R s m args below meth c z C H locs cells slots ls X
  obtain ⟨hx, hb, -, hrt, hlk, -⟩ := C
  exact W.mono (W.zret (Qc := fun _ _ o t => o = .returned (some (.int x)) ∧ t.heap = H) (free := fun q => (gH g).size ≤ q) hx hb (hrt.trans hr) hn (fun t ht _ => ⟨rfl, ht⟩) X.2.2.2.2 hd hlk) (fun t ht => ex_ret h X.2.1 X.2.2.1 X.2.2.2.1 t ht)
theorem v_lret {x : Int64} (hd : decode y.2.1 pc = .ok (.lreturn, 1)) (hr : y.2.2.2.1 = some .long) (h : Φ (.inl (some (.long x))) A) : V g d y pc L [.long x] A Φ := by
  intro p l e R s m args below meth c z C H locs cells slots ls X
  obtain ⟨hx, hb, -, hrt, hlk, -⟩ := C
  exact W.mono (W.lret (Qc := fun _ _ o t => o = .returned (some (.long x)) ∧ t.heap = H) (free := fun q => (gH g).size ≤ q) hx hb (hrt.trans hr) (fun t ht _ => ⟨rfl, ht⟩) X.2.2.2.2 hd hlk) (fun t ht => ex_ret h X.2.1 X.2.2.1 X.2.2.2.1 t ht)
theorem v_aret {v : Value} {rt : FieldType} (hd : decode y.2.1 pc = .ok (.areturn, 1)) (hr : y.2.2.2.1 = some rt) (hrt : (∃ n, rt = .object n) ∨ ∃ t, rt = .array t) (hv : v = .null ∨ ∃ a, v = .ref a) (h : Φ (.inl (some v)) A) : V g d y pc L [v] A Φ := by
  intro p l e R s m args below meth c z C H locs cells slots ls X
  obtain ⟨hx, hb, -, hrt', hlk, -⟩ := C
  exact W.mono (W.aret (Qc := fun _ _ o t => o = .returned (some v) ∧ t.heap = H) (free := fun q => (gH g).size ≤ q) hx hb (hrt'.trans hr) hrt hv (fun t ht _ => ⟨rfl, ht⟩) X.2.2.2.2 hd hlk) (fun t ht => ex_ret h X.2.1 X.2.2.1 X.2.2.2.1 t ht)
theorem v_vret (hd : decode y.2.1 pc = .ok (.return_, 1)) (hr : y.2.2.2.1 = none) (h : Φ (.inl none) A) : V g d y pc L [] A Φ := by
  intro p l e R s m args below meth c z C H locs cells slots ls X
  obtain ⟨hx, hb, -, hrt, hlk, -⟩ := C
  exact W.mono (W.vret (Qc := fun _ _ o t => o = .returned none ∧ t.heap = H) (free := fun q => (gH g).size ≤ q) hx hb (hrt.trans hr) (fun t ht _ => ⟨rfl, ht⟩) X.2.2.2.2 hd hlk) (fun t ht => ex_ret h X.2.1 X.2.2.1 X.2.2.2.1 t ht)
end VH
end
section
/-! calls: the callee's walk stands inside the caller's -/
theorem steps_weak {tb : Tables} {e : Env} {mid below : List Frame} {a b : State} (h : Steps tb e (mid ++ below) a b) : Steps tb e below a b := by
  obtain ⟨n, hn, w⟩ := h
  exact ⟨n, hn, fun k hk => (w k hk).weaken⟩
def slV (x : Slot) : Option Value := match x with
  | .val v => some v
  | _ => none
def lo0 (as : List Value) (n : Nat) : Lo := (lg_sl as).map slV ++ List.replicate (n - (lg_sl as).length) none
theorem lo0_ok (as : List Value) (n : Nat) (h : (lg_sl as).length ≤ n) : LR (lo0 as n) ((lg_sl as ++ List.replicate (n - (lg_sl as).length) Slot.unset).toArray) n := by
  have hl := lv_entry as (n := n) h
  refine ⟨hl.1, hl.2.1, by simp [lo0]; omega, fun i v hi => ?_⟩
  simp only [lo0] at hi
  simp only [List.getElem?_toArray]
  by_cases hlt : i < (lg_sl as).length
  · rw [List.getElem?_append_left (by simpa using hlt)] at hi
    rw [List.getElem?_append_left hlt]
    rw [List.getElem?_map, List.getElem?_eq_getElem hlt] at hi
    rw [List.getElem?_eq_getElem hlt]
    simp only [Option.map_some, Option.some.injEq] at hi
    cases hs : (lg_sl as)[i] with
    | val w => rw [hs] at hi; simp only [slV, Option.some.injEq] at hi; rw [hi]
    | _ => rw [hs] at hi; simp [slV] at hi
  · rw [List.getElem?_append_right (by simpa using hlt)] at hi
    rw [List.getElem?_replicate] at hi
    split at hi <;> simp at hi
def MW (WS : List Cond) (y : MT) : Prop := plainName y.1.cls = true ∧ ((y.2.2.2.2 = [] ∧ Cond.code y.1 y.2.1 y.2.2.1 y.2.2.2.1 ∈ WS) ∨ Cond.codeWith y.1 y.2.1 y.2.2.1 y.2.2.2.1 y.2.2.2.2 ∈ WS)
theorem MW.facts {g : Gx} {y : MT} {s : State} {args : Array Value} (h : MW (gW g) y) (hT : TF g s args) {mk : MethodId} (hn : s.methodNamed? y.1 = some mk) :
    ∃ (methk : Method) (ck : Code), s.vm.method? mk = some methk ∧ methk.code = some ck ∧ ck.code = y.2.1 ∧ ck.maxLocals = y.2.2.1 ∧ methk.sig.returnType = y.2.2.2.1 ∧ methk.locks = false ∧ ck.exceptionTable.toList = tableOf y.2.2.2.2 := by
  rcases h.2 with ⟨h0, hw⟩ | hw
  · obtain ⟨methk, ck, h1, h2, h3, h4, h5, h6, h7, -⟩ := Cond.code_spec hn (hT.1 _ hw)
    refine ⟨methk, ck, h1, h2, h3, h4, h5, h6, ?_⟩
    have e0 : ck.exceptionTable.size = 0 := by simpa [Array.isEmpty] using h7
    have e1 : ck.exceptionTable.toList = [] := List.eq_nil_of_length_eq_zero (by simpa using e0)
    rw [h0, e1]; rfl
  · obtain ⟨m9, methk, ck, hn9, h1, h2, h3, h4, h7, h5, h6, -⟩ := Cond.codeWith_spec (hT.1 _ hw)
    cases hn.symm.trans hn9
    exact ⟨methk, ck, h1, h2, h3, h4, h5, h6, by rw [← h7, table_eq]⟩
section VC
variable {g : Gx} {d : Nat} {Ψ : Out → AH → Prop}
set_option maxHeartbeats 1000000 in
theorem v_into {p : Program} {l : Launch} {e : Env} {R : Room} {s : State} {m : MethodId} {args : Array Value} {below : List Frame} {meth : Method} {c : Code} {T : State} {locs : List Loc} {cells slots z : Nat} (hx : p.tables.exec = Jvm.exec) (hT : TF g s args) (hfr : d + 1 + 2 ≤ R.frames) (hlo : 40 * (d + 1) + 100 ≤ R.locals)
    (hgl : gL g ≤ s.heap.size + R.cells) (hgs : gS g ≤ z + R.slots) (htr : e.platform.stackTraces = false) (X : Stand p l e R s m args below meth c T locs cells slots) {A : AH} (hH : HR g A T.heap) (hc : s.heap.size + cells = A.2.1) (hz : z + slots = A.2.2)
    {y : MT} (hy : MW (gW g) y) {mk : MethodId} (hn : T.methodNamed? y.1 = some mk) {f : JFrame} (hg : f.method = m) (hsize : f.locals.size = c.maxLocals) {ig : Instr} {len : Nat} (hdg : decode c.code f.pc = .ok (ig, len)) (hw : 2 * f.monitorRoom + (f.stack.map fun v => v.category).sum + y.2.2.1 ≤ 29)
    {as : List Value} (has : (lg_sl as).length ≤ y.2.2.1) (hv : V g d y 0 (lo0 as y.2.2.1) [] A Ψ) :
    ∃ (t : State) (o : Outcome) (K : List Loc) (k n : Nat) (r : Out) (A' : AH), (∀ acts, Steps p.tables e below (doInvoke e (T.setTop f) acts mk as.toArray).1 t) ∧ Ended t (.java f :: below) o ∧ (T.calling f mk as.toArray).WarmedH t.vm ∧
      (T.calling f mk as.toArray).sameButNew ({ t with vm := (T.calling f mk as.toArray).vm } : State) K k n ∧ (∀ q ∈ K, (gH g).size ≤ q.base) ∧ Ψ r A' ∧ HR g A' t.heap ∧ A.2.1 + k = A'.2.1 ∧ A.2.2 + n = A'.2.2 ∧ oR r A' o := by
  have hTT : TF g T as.toArray := hT.moved X.warmed
  obtain ⟨methk, ck, hmk, hck, hbk, hmlk, hrk, hlk, hek⟩ := hy.facts hTT hn
  have hpk : T.plainMethod mk := by
    refine State.plainMethod.of_name ?_
    intro k hk
    obtain ⟨k', hk', hn'⟩ := className_of_methodNamed hn
    cases hk.symm.trans hk'
    rw [hn']; exact hy.1
  have hle := hH.2.2.2.1
  have hls := hH.2.2.2.2.1
  have hsz := hH.1
  obtain ⟨Y₀, hin⟩ := X.into hg hsize hdg as.toArray (R' := { frames := R.frames - 1, cells := R.cells - cells, slots := R.slots - slots, locals := R.locals - 40 }) hmk hck hlk hpk
    (by show R.frames - 1 + 1 ≤ R.frames; omega) (by rw [hmlk]; show _ + (y.2.2.1 + 11) + (R.locals - 40) ≤ R.locals; omega) (by show cells + (R.cells - cells) ≤ R.cells; omega) (by show slots + (R.slots - slots) ≤ R.slots; omega)
  have hCx : Cx g d y p e { frames := R.frames - 1, cells := R.cells - cells, slots := R.slots - slots, locals := R.locals - 40 } (T.calling f mk as.toArray) mk as.toArray methk ck A.2.2 := by
    refine ⟨hx, hbk, hmlk, hrk, hlk, findClass_of_methodNamed hn, (name_of_methodNamed hn hmk).1, hek, hT.moved (U := T.calling f mk as.toArray) X.warmed, ?_, ?_, ?_, ?_, htr⟩
    · show d + 2 ≤ R.frames - 1; omega
    · show 40 * d + 100 ≤ R.locals - 40; omega
    · show gL g ≤ T.heap.size + (R.cells - cells); omega
    · show gS g ≤ A.2.2 + (R.slots - slots); omega
  obtain ⟨t, hst, o, K, k, n, r, A', h1, h2, h3, h4, h5, h6, h7, h8, h9, h10⟩ := hv p l e _ (T.calling f mk as.toArray) mk as.toArray (.java f :: below) methk ck A.2.2 hCx T.heap [] 0 0 _ ⟨lo0_ok as y.2.2.1 has, hH, by show T.heap.size + 0 = A.2.1; omega, by omega, fun q hq => by cases hq⟩
    ((T.setTop f).pushFrame (.java (entryFrame mk as.toArray ck.maxLocals))) rfl Y₀
  refine ⟨t, o, K, k, n, r, A', fun acts => ?_, h2, h3, h4, h5, h6, h7, by rw [← h8]; show A.2.1 + k = T.heap.size + k; rw [hsz], h9, h10⟩
  rw [hin acts]
  refine steps_weak (mid := [.java f]) ?_
  rw [hmlk] at hst ⊢
  rw [lg_entry_eq] at hst ⊢
  exact hst
theorem v_back {p : Program} {l : Launch} {e : Env} {R : Room} {s : State} {args : Array Value} {below : List Frame} {z : Nat} (hx : p.tables.exec = Jvm.exec) (hT : TF g s args) (hfr : d + 1 + 2 ≤ R.frames) (hlo : 40 * (d + 1) + 100 ≤ R.locals)
    (hgl : gL g ≤ s.heap.size + R.cells) (hgs : gS g ≤ z + R.slots) (htr : e.platform.stackTraces = false) {A : AH} {y : MT} (hy : MW (gW g) y) (hmx : y.2.2.1 ≤ 20) {as : List Value} (has : (lg_sl as).length ≤ y.2.2.1) (hv : V g d y 0 (lo0 as y.2.2.1) [] A Ψ) (hret : ∀ a A', ¬ Ψ (.inr a) A') :
    Back l R p e below s args y.1 3 9 (fun P a => a = as.toArray ∧ HR g A P.U.heap ∧ s.heap.size + P.cells = A.2.1 ∧ z + P.slots = A.2.2)
      (fun P _ v B => ∃ (K : List Loc) (A' : AH), Ψ (.inl v) A' ∧ HR g A' B.U.heap ∧ B.locs = P.locs ++ K ∧ (∀ q ∈ K, (gH g).size ≤ q.base) ∧ s.heap.size + B.cells = A'.2.1 ∧ z + B.slots = A'.2.2) := by
  intro m meth c P f ig mk a X hg hsize hdg hw hn ⟨ha, hH, hc, hz⟩
  subst ha
  obtain ⟨t, o, K, k, n, r, A', hst, hend, hW, hsame, hK, hΦ, hH', hk, hn', ho⟩ := v_into hx hT hfr hlo hgl hgs htr X hH hc hz hy hn hg hsize hdg (by omega) has hv
  cases r with
  | inr a => exact absurd hΦ (hret a A')
  | inl v =>
    cases ho
    obtain ⟨T', X', -, -, ht⟩ := X.outOf hg hdg hend hW hsame
    refine ⟨v, ⟨T', P.locs ++ K, P.cells + k, P.slots + n⟩, X', ⟨K, A', hΦ, ?_, rfl, hK, ?_, ?_⟩, ?_⟩
    · have e1 : t.heap = T'.heap := by rw [ht]; rfl
      show HR g A' T'.heap
      rw [← e1]; exact hH'
    · show s.heap.size + (P.cells + k) = _
      omega
    · show z + (P.slots + n) = _
      omega
    · rw [← ht]; exact hst []
theorem cat_sum (st : List Value) : (st.map fun v => v.category).sum ≤ 2 * st.length := by
  induction st with
  | nil => simp
  | cons v t ih =>
    simp only [List.map_cons, List.sum_cons, List.length_cons]
    have : v.category ≤ 2 := by cases v <;> simp [Value.category]
    omega
def okName (y : MethodName) : Prop := y.cls ≠ "java/lang/invoke/MethodHandle" ∧ y.cls ≠ "java/lang/invoke/VarHandle"
/-- rows of words for a call -/
def CW (WS : List Cond) (own : String) (idx : Nat) (y : MT) (np : Nat) : Prop := (Cond.methodLink own idx y.1 ∈ WS ∨ ∃ host, Cond.methodLinkNest own idx y.1 host ∈ WS) ∧ Cond.code y.1 y.2.1 y.2.2.1 y.2.2.2.1 ∈ WS ∧ y.2.2.2.2 = [] ∧ plainName y.1.cls = true ∧ y.2.2.1 ≤ 20 ∧ okName y.1 ∧ (parseMethodDescriptor y.1.desc).map (fun d => d.parameters.length) = some np
theorem CW.mw {WS : List Cond} {own : String} {idx np : Nat} {y : MT} (h : CW WS own idx y np) : MW WS y := ⟨h.2.2.2.1, Or.inl ⟨h.2.2.1, h.2.1⟩⟩
theorem CW.len {WS : List Cond} {own : String} {idx np : Nat} {y : MT} (h : CW WS own idx y np) {as : List Value} (ha : as.length = np) : ∀ sig, parseMethodDescriptor y.1.desc = some sig → as.length = sig.parameters.length := by
  intro sig hs
  have h2 := h.2.2.2.2.2.2
  rw [hs] at h2
  rw [ha]; exact (Option.some.inj h2).symm
variable {y : MT} {pc : Nat} {L : Lo} {st : List Value} {A : AH} {Φ : Out → AH → Prop}
set_option maxHeartbeats 1000000 in
theorem v_calls {y' : MT} {idx np : Nat} {as st0 : List Value} (hd : decode y.2.1 pc = .ok (.invokestatic idx, 3)) (hw : CW (gW g) y.1.cls idx y' np ∧ Cond.static y'.1 ∈ gW g ∧ Cond.initialized y'.1.cls ∈ gW g) (hs : st0 = as.reverse ++ st) (hnp : as.length = np) (has : (lg_sl as).length ≤ y'.2.2.1) (hst : (st.map fun v => v.category).sum ≤ 9)
    (hv : V g d y' 0 (lo0 as y'.2.2.1) [] A Ψ) (hret : ∀ a A', ¬ Ψ (.inr a) A') (kk : ∀ v A', Ψ (.inl v) A' → V g (d + 1) y (pc + 3) L (v.toList ++ st) A' Φ) : V g (d + 1) y pc L st0 A Φ := by
  intro p l e R s m args below meth c z C H locs cells slots ls X T hTh Y
  have C0 := C
  obtain ⟨hx, hb, hml, -, -, hown, -, -, hT, hfr, hlo, hgl, hgs, htr⟩ := C
  obtain ⟨hcw, w1, w2⟩ := hw
  have hK := v_back (l := l) (R := R) (below := below) (z := z) hx hT hfr hlo hgl hgs htr hcw.mw hcw.2.2.2.2.1 has hv hret
  have hsz : (F0 m pc ls st0).locals.size = c.maxLocals := by rw [hml]; exact X.1.1
  have hwt : 2 * (F0 m pc ls st0).monitorRoom + (st.map fun v => v.category).sum ≤ 9 := by
    show 2 * 0 + _ ≤ 9
    omega
  have hpre : ∀ vm₁, s.WarmedH vm₁ → as.toArray = as.toArray ∧ HR g A (T.setVm vm₁).heap ∧ s.heap.size + cells = A.2.1 ∧ z + slots = A.2.2 := fun vm₁ _ => ⟨rfl, by show HR g A T.heap; rw [hTh]; exact X.2.1, X.2.2.1, X.2.2.2.1⟩
  have fin : ∀ (v : Option Value) (vm₁ : Vm) (B : Pt), Stand p l e R s m args below meth c B.U B.locs B.cells B.slots → (∃ (K : List Loc) (A' : AH), Ψ (.inl v) A' ∧ HR g A' B.U.heap ∧ B.locs = locs ++ K ∧ (∀ q ∈ K, (gH g).size ≤ q.base) ∧ s.heap.size + B.cells = A'.2.1 ∧ z + B.slots = A'.2.2) →
      (∀ target, Steps p.tables e below (B.U.setTop { F0 m pc ls st0 with pc := pc + 3, stack := v.toList ++ st }) target → Steps p.tables e below (T.setTop (F0 m pc ls st0)) target) → ∃ t, Steps p.tables e below (T.setTop (F0 m pc ls st0)) t ∧ Ex g below s z Φ t := by
    intro v vm₁ B Y' ⟨K, A', hΨ, hH', hl', hK', hc', hz'⟩ hsteps
    obtain ⟨t, a, b⟩ := kk v A' hΨ p l e R s m args below meth c z C0 B.U.heap B.locs B.cells B.slots ls ⟨X.1, hH', hc', hz', by rw [hl']; exact t_lL X.2.2.2.2 hK'⟩ B.U rfl Y'
    exact ⟨t, hsteps t a, b⟩
  rcases hcw.1 with hl | ⟨host, hl⟩
  · obtain ⟨v, vm₁, B, -, Y', hpost, hsteps⟩ := callS Y hx hown (hT.1 _ hl) (hT.1 _ w1) (hT.1 _ w2) (hT.1 _ hcw.2.1) hcw.2.2.2.2.2.1 hK (g := F0 m pc ls st0) rfl hsz (hcw.len hnp) hs hwt (by rw [hb]; exact hd) hpre
    exact fin v vm₁ B Y' hpost hsteps
  · obtain ⟨v, vm₁, B, -, Y', hpost, hsteps⟩ := va_callSN Y hx hown (hT.1 _ hl) (hT.1 _ w1) (hT.1 _ w2) (hT.1 _ hcw.2.1) hcw.2.2.2.2.2.1 hK (g := F0 m pc ls st0) rfl hsz (hcw.len hnp) hs hwt (by rw [hb]; exact hd) hpre
    exact fin v vm₁ B Y' hpost hsteps
set_option maxHeartbeats 1000000 in
theorem v_callv {y' : MT} {idx np ci b : Nat} {fs as st0 : List Value} {r : vw_C} (hd : decode y.2.1 pc = .ok (.invokevirtual idx, 3)) (hw : CW (gW g) y.1.cls idx y' np ∧ Cond.instanceMethod y'.1 ∈ gW g ∧ Cond.selects r.1 y'.1 y'.1 ∈ gW g ∧ ci < 100) (hr : (gC g)[ci]? = some r) (hB : A.1 b = some (ci, fs)) (hs : st0 = as.reverse ++ .ref b :: st) (hnp : as.length = np) (has : (lg_sl (.ref b :: as)).length ≤ y'.2.2.1) (hst : (st.map fun v => v.category).sum ≤ 9)
    (hv : V g d y' 0 (lo0 (.ref b :: as) y'.2.2.1) [] A Ψ) (hret : ∀ a A', ¬ Ψ (.inr a) A') (kk : ∀ v A', Ψ (.inl v) A' → V g (d + 1) y (pc + 3) L (v.toList ++ st) A' Φ) : V g (d + 1) y pc L st0 A Φ := by
  intro p l e R s m args below meth c z C H locs cells slots ls X T hTh Y
  have C0 := C
  obtain ⟨hx, hb, hml, -, -, hown, -, -, hT, hfr, hlo, hgl, hgs, htr⟩ := C
  obtain ⟨hcw, w1, w2, hci⟩ := hw
  have hK := v_back (l := l) (R := R) (below := below) (z := z) hx hT hfr hlo hgl hgs htr hcw.mw hcw.2.2.2.2.1 has hv hret
  have hsz : (F0 m pc ls st0).locals.size = c.maxLocals := by rw [hml]; exact X.1.1
  have hwt : 2 * (F0 m pc ls st0).monitorRoom + (st.map fun v => v.category).sum ≤ 9 := by
    show 2 * 0 + _ ≤ 9
    omega
  have hpre : ∀ vm₁, s.WarmedH vm₁ → (Value.ref b :: as).toArray = (Value.ref b :: as).toArray ∧ HR g A (T.setVm vm₁).heap ∧ s.heap.size + cells = A.2.1 ∧ z + slots = A.2.2 := fun vm₁ _ => ⟨rfl, by show HR g A T.heap; rw [hTh]; exact X.2.1, X.2.2.1, X.2.2.2.1⟩
  obtain ⟨-, cellB, hcB, hokB⟩ := X.2.1.2.2.2.2.2 b _ hB
  obtain ⟨r', hr', hcls, hvm, -, -⟩ := hokB.obj hci
  cases hr.symm.trans hr'
  obtain ⟨-, hCA⟩ := hT.2.2.1.1 ci _ hr
  have hcB' : T.heap[b]? = some cellB := by rw [hTh]; exact hcB
  have hob : cellB.vm.isStatics = false := by rw [hvm]; rfl
  have hclB : s.vm.findClass r.1 = some cellB.cls := by rw [hcls]; exact hCA.1
  have fin : ∀ (v : Option Value) (vm₁ : Vm) (B : Pt), Stand p l e R s m args below meth c B.U B.locs B.cells B.slots → (∃ (K : List Loc) (A' : AH), Ψ (.inl v) A' ∧ HR g A' B.U.heap ∧ B.locs = locs ++ K ∧ (∀ q ∈ K, (gH g).size ≤ q.base) ∧ s.heap.size + B.cells = A'.2.1 ∧ z + B.slots = A'.2.2) →
      (∀ target, Steps p.tables e below (B.U.setTop { F0 m pc ls st0 with pc := pc + 3, stack := v.toList ++ st }) target → Steps p.tables e below (T.setTop (F0 m pc ls st0)) target) → ∃ t, Steps p.tables e below (T.setTop (F0 m pc ls st0)) t ∧ Ex g below s z Φ t := by
    intro v vm₁ B Y' ⟨K, A', hΨ, hH', hl', hK', hc', hz'⟩ hsteps
    obtain ⟨t, a, b⟩ := kk v A' hΨ p l e R s m args below meth c z C0 B.U.heap B.locs B.cells B.slots ls ⟨X.1, hH', hc', hz', by rw [hl']; exact t_lL X.2.2.2.2 hK'⟩ B.U rfl Y'
    exact ⟨t, hsteps t a, b⟩
  rcases hcw.1 with hl | ⟨host, hl⟩
  · obtain ⟨v, vm₁, B, -, Y', hpost, hsteps⟩ := callV Y hx hown (hT.1 _ hl) (hT.1 _ w1) (hT.1 _ w2) (hT.1 _ hcw.2.1) hcw.2.2.2.2.2.1 hK hcB' hob hclB (g := F0 m pc ls st0) rfl hsz (hcw.len hnp) hs hwt (by rw [hb]; exact hd) hpre
    exact fin v vm₁ B Y' hpost hsteps
  · obtain ⟨v, vm₁, B, -, Y', hpost, hsteps⟩ := va_callVN Y hx hown (hT.1 _ hl) (hT.1 _ w1) (hT.1 _ w2) (hT.1 _ hcw.2.1) hcw.2.2.2.2.2.1 hK hcB' hob hclB (g := F0 m pc ls st0) rfl hsz (hcw.len hnp) hs hwt (by rw [hb]; exact hd) hpre
    exact fin v vm₁ B Y' hpost hsteps
set_option maxHeartbeats 1000000 in
theorem v_calli {y' : MT} {idx np b : Nat} {as st0 : List Value} (hd : decode y.2.1 pc = .ok (.invokespecial idx, 3)) (hw : CW (gW g) y.1.cls idx y' np ∧ Cond.instanceMethod y'.1 ∈ gW g ∧ y'.1.name = "<init>" ∧ y'.2.2.2.1 = none) (hs : st0 = as.reverse ++ .ref b :: st) (hnp : as.length = np) (has : (lg_sl (.ref b :: as)).length ≤ y'.2.2.1) (hst : (st.map fun v => v.category).sum ≤ 9)
    (hv : V g d y' 0 (lo0 (.ref b :: as) y'.2.2.1) [] A Ψ) (hret : ∀ a A', ¬ Ψ (.inr a) A') (kk : ∀ v A', Ψ (.inl v) A' → V g (d + 1) y (pc + 3) L (v.toList ++ st) A' Φ) : V g (d + 1) y pc L st0 A Φ := by
  intro p l e R s m args below meth c z C H locs cells slots ls X T hTh Y
  have C0 := C
  obtain ⟨hx, hb, hml, -, -, hown, -, -, hT, hfr, hlo, hgl, hgs, htr⟩ := C
  obtain ⟨hcw, w1, w2, w3⟩ := hw
  have hK := v_back (l := l) (R := R) (below := below) (z := z) hx hT hfr hlo hgl hgs htr hcw.mw hcw.2.2.2.2.1 has hv hret
  have hsz : (F0 m pc ls st0).locals.size = c.maxLocals := by rw [hml]; exact X.1.1
  have hwt : 2 * (F0 m pc ls st0).monitorRoom + (st.map fun v => v.category).sum ≤ 9 := by
    show 2 * 0 + _ ≤ 9
    omega
  have hpre : ∀ vm₁, s.WarmedH vm₁ → (Value.ref b :: as).toArray = (Value.ref b :: as).toArray ∧ HR g A (T.setVm vm₁).heap ∧ s.heap.size + cells = A.2.1 ∧ z + slots = A.2.2 := fun vm₁ _ => ⟨rfl, by show HR g A T.heap; rw [hTh]; exact X.2.1, X.2.2.1, X.2.2.2.1⟩
  have hcode := hT.1 _ hcw.2.1
  rw [w3] at hcode
  have fin : ∀ (v : Option Value) (vm₁ : Vm) (B : Pt), Stand p l e R s m args below meth c B.U B.locs B.cells B.slots → (∃ (K : List Loc) (A' : AH), Ψ (.inl v) A' ∧ HR g A' B.U.heap ∧ B.locs = locs ++ K ∧ (∀ q ∈ K, (gH g).size ≤ q.base) ∧ s.heap.size + B.cells = A'.2.1 ∧ z + B.slots = A'.2.2) →
      (∀ target, Steps p.tables e below (B.U.setTop { F0 m pc ls st0 with pc := pc + 3, stack := v.toList ++ st }) target → Steps p.tables e below (T.setTop (F0 m pc ls st0)) target) → ∃ t, Steps p.tables e below (T.setTop (F0 m pc ls st0)) t ∧ Ex g below s z Φ t := by
    intro v vm₁ B Y' ⟨K, A', hΨ, hH', hl', hK', hc', hz'⟩ hsteps
    obtain ⟨t, a, b⟩ := kk v A' hΨ p l e R s m args below meth c z C0 B.U.heap B.locs B.cells B.slots ls ⟨X.1, hH', hc', hz', by rw [hl']; exact t_lL X.2.2.2.2 hK'⟩ B.U rfl Y'
    exact ⟨t, hsteps t a, b⟩
  rcases hcw.1 with hl | ⟨host, hl⟩
  · obtain ⟨v, vm₁, B, -, Y', hpost, hsteps⟩ := callI Y hx hown w2 (hT.1 _ hl) (hT.1 _ w1) hcode hcw.2.2.2.2.2.1 hK (g := F0 m pc ls st0) rfl hsz (hcw.len hnp) hs hwt (by rw [hb]; exact hd) hpre
    exact fin v vm₁ B Y' hpost hsteps
  · obtain ⟨v, vm₁, B, -, Y', hpost, hsteps⟩ := va_callIN Y hx hown w2 (hT.1 _ hl) (hT.1 _ w1) hcode hcw.2.2.2.2.2.1 hK (g := F0 m pc ls st0) rfl hsz (hcw.len hnp) hs hwt (by rw [hb]; exact hd) hpre
    exact fin v vm₁ B Y' hpost hsteps
theorem v_objinit {idx b : Nat} (hd : decode y.2.1 pc = .ok (.invokespecial idx, 3)) (hw : Cond.methodLink y.1.cls idx Lib.objectInit ∈ gW g ∧ Cond.instanceMethod Lib.objectInit ∈ gW g ∧ Cond.code Lib.objectInit ⟨#[0xb1]⟩ 1 none ∈ gW g) (hst : (st.map fun v => v.category).sum ≤ 9) (h : V g d y (pc + 3) L st A Φ) : V g d y pc L (.ref b :: st) A Φ := by
  intro p l e R s m args below meth c z C H locs cells slots ls X
  have kk := h p l e R s m args below meth c z C H locs cells slots ls X
  obtain ⟨hx, hb, hml, -, -, hown, -, -, hT, hfr, hlo, -⟩ := C
  refine W.objInit hx hb hown (hT.1 _ hw.1) (hT.1 _ hw.2.1) (hT.1 _ hw.2.2) rfl (by rw [hml]; exact X.1.1) rfl hd (by omega) ?_ kk
  show 2 * 0 + _ + 12 ≤ R.locals
  omega
end VC
end
section
/-! words that stay; instanceof, checkcast -/
theorem kp_setVm (U : State) : U.setVm U.vm = U := rfl
theorem Kp.keeps {w : Cond} (h : (w.onTables && w.keeps) = true) : Kp w := fun _ _ _ _ hW hb => word_at hW (Or.inl h) hb
theorem Kp.face {w : Cond} (h1 : w.onTables = true) (h2 : w.keepsFace = true) : Kp w := by
  intro s U a a' hW hb
  have h3 := Cond.before_shiftedFace (args := a) (State.Shifted.of_warmed hW) w h2 hb
  rw [Cond.onTables_vm (A' := a') (U' := U) U.vm w h1] at h3
  exact h3
theorem Kp.arrayClass (ty : FieldType) : Kp (.arrayClass ty) := fun _ _ _ _ hW hb => word_at hW (Or.inr ⟨ty, rfl⟩) hb
theorem Kp.fieldNest (a : String) (i : Nat) (b n d h : String) : Kp (.fieldLinkNest a i b n d h) := fun _ _ _ _ hW hb => va_Nw.use rfl (va_Nw.warmF hW (va_Nw.of rfl hb))
theorem Kp.methNest (a : String) (i : Nat) (x : MethodName) (h : String) : Kp (.methodLinkNest a i x h) := fun _ _ _ _ hW hb => va_Nw.use rfl (va_Nw.warmM hW (va_Nw.of rfl hb))
theorem Kp.over (C : String) : Kp (.arrayOver (.object C)) := fun _ _ _ _ hW hb => va_AO.use (va_AO.moved hW.alike (va_AO.of hb))
theorem Kp.notCast (C T : String) : Kp (.not (.castable C T)) := by
  intro s U a a' hW hb
  obtain ⟨c, t, h1, h2, h3⟩ := (va_Nc.of hb).moved hW.alike
  simp [Cond.before, Cond.holds, Cond.value, h1, h2, h3]
def kpB (w : Cond) : Bool := match w with
  | .arrayClass _ => true
  | .fieldLinkNest .. => true
  | .methodLinkNest .. => true
  | .arrayOver (.object _) => true
  | .not (.castable _ _) => true
  | w => w.onTables && (w.keeps || w.keepsFace)
theorem kpB_ok {w : Cond} (h : kpB w = true) : Kp w := by
  unfold kpB at h
  split at h
  · exact Kp.arrayClass _
  · exact Kp.fieldNest _ _ _ _ _ _
  · exact Kp.methNest _ _ _ _
  · exact Kp.over _
  · exact Kp.notCast _ _
  · simp only [Bool.and_eq_true, Bool.or_eq_true] at h
    rcases h.2 with h2 | h2
    · exact Kp.keeps (by rw [h.1, h2]; rfl)
    · exact Kp.face h.1 h2
section VI
variable {g : Gx} {d : Nat} {y : MT} {pc : Nat} {L : Lo} {st : List Value} {A : AH} {Φ : Out → AH → Prop}
theorem HR.recv {H : Heap} {ci a : Nat} {fs : List Value} {r : vw_C} {s : State} {args : Array Value} (h : HR g A H) (hT : TF g s args) (hA : A.1 a = some (ci, fs)) (hci : ci < 100) (hr : (gC g)[ci]? = some r) :
    (∃ cell : Cell, H[a]? = some cell ∧ cell.vm.isStatics = false ∧ s.vm.findClass r.1 = some cell.cls) ∧ ClassAt s r.1 ((gD g).1 ci) := by
  obtain ⟨-, cell, hcell, hok⟩ := h.2.2.2.2.2 a _ hA
  obtain ⟨r', hr', hcls, hvm, -, -⟩ := hok.obj hci
  cases hr.symm.trans hr'
  have hC := (hT.2.2.1.1 ci _ hr).2
  exact ⟨⟨cell, hcell, by rw [hvm]; rfl, by rw [hcls]; exact hC.1⟩, hC⟩
/-- words for a test that says yes -/
def IW (WS : List Cond) (cl : List vw_C) (own : String) (idx ci : Nat) : Prop := ci < 100 ∧ ∃ (r : vw_C) (nm : String), cl[ci]? = some r ∧ Cond.classLink own idx nm ∈ WS ∧ (r.1 = nm ∨ Cond.castable r.1 nm ∈ WS)
def IN (WS : List Cond) (cl : List vw_C) (own : String) (idx ci : Nat) : Prop := ci < 100 ∧ ∃ (r : vw_C) (nm : String), cl[ci]? = some r ∧ Cond.classLink own idx nm ∈ WS ∧ Cond.not (.castable r.1 nm) ∈ WS
theorem v_instY {idx ci a : Nat} {fs : List Value} (hd : decode y.2.1 pc = .ok (.instanceof idx, 3)) (hw : IW (gW g) (gC g) y.1.cls idx ci) (hA : A.1 a = some (ci, fs)) (h : V g d y (pc + 3) L (.int 1 :: st) A Φ) : V g d y pc L (.ref a :: st) A Φ := by
  intro p l e R s m args below meth c z C H locs cells slots ls X
  have kk := h p l e R s m args below meth c z C H locs cells slots ls X
  obtain ⟨hx, hb, -, -, -, hown, -, -, hT, -⟩ := C
  obtain ⟨hci, r, nm, hr, hl, hor⟩ := hw
  obtain ⟨h1, h2⟩ := X.2.1.recv hT hA hci hr
  rcases hor with rfl | hc
  · exact va_instS hx hb hown (hT.1 _ hl) h2 h1 hd kk
  · exact va_instY hx hb hown (hT.1 _ hl) (va_Nw.of rfl (hT.1 _ hc)) h1 hd kk
theorem v_castY {idx ci a : Nat} {fs : List Value} (hd : decode y.2.1 pc = .ok (.checkcast idx, 3)) (hw : IW (gW g) (gC g) y.1.cls idx ci) (hA : A.1 a = some (ci, fs)) (h : V g d y (pc + 3) L (.ref a :: st) A Φ) : V g d y pc L (.ref a :: st) A Φ := by
  intro p l e R s m args below meth c z C H locs cells slots ls X
  have kk := h p l e R s m args below meth c z C H locs cells slots ls X
  obtain ⟨hx, hb, -, -, -, hown, -, -, hT, -⟩ := C
  obtain ⟨hci, r, nm, hr, hl, hor⟩ := hw
  obtain ⟨h1, h2⟩ := X.2.1.recv hT hA hci hr
  rcases hor with rfl | hc
  · exact va_castS hx hb hown (hT.1 _ hl) h2 h1 hd kk
  · exact va_castY hx hb hown (hT.1 _ hl) (va_Nw.of rfl (hT.1 _ hc)) h1 hd kk
theorem v_instNo {idx ci a : Nat} {fs : List Value} (hd : decode y.2.1 pc = .ok (.instanceof idx, 3)) (hw : IN (gW g) (gC g) y.1.cls idx ci) (hA : A.1 a = some (ci, fs)) (h : V g d y (pc + 3) L (.int 0 :: st) A Φ) : V g d y pc L (.ref a :: st) A Φ := by
  intro p l e R s m args below meth c z C H locs cells slots ls X
  have kk := h p l e R s m args below meth c z C H locs cells slots ls X
  obtain ⟨hx, hb, -, -, -, hown, -, -, hT, -⟩ := C
  obtain ⟨hci, r, nm, hr, hl, hc⟩ := hw
  obtain ⟨h1, h2⟩ := X.2.1.recv hT hA hci hr
  exact va_instNo hx hb hown (hT.1 _ hl) (va_Nc.of (hT.1 _ hc)) h1 hd kk
/-- Math.max and Math.min -/
def MX (WS : List Cond) (own : String) (idx : Nat) : Prop := Cond.methodLink own idx Lib.Math.max.name ∈ WS ∧ Cond.static Lib.Math.max.name ∈ WS ∧ Cond.initialized "java/lang/Math" ∈ WS ∧ Cond.code Lib.Math.max.name Lib.Math.max.code 2 (some .int) ∈ WS
def MN (WS : List Cond) (own : String) (idx : Nat) : Prop := Cond.methodLink own idx Lib.Math.min.name ∈ WS ∧ Cond.static Lib.Math.min.name ∈ WS ∧ Cond.initialized "java/lang/Math" ∈ WS ∧ Cond.code Lib.Math.min.name Lib.Math.min.code 2 (some .int) ∈ WS
theorem v_mmax {idx : Nat} {a b : Int32} (hd : decode y.2.1 pc = .ok (.invokestatic idx, 3)) (hw : MX (gW g) y.1.cls idx) (hst : (st.map fun v => v.category).sum ≤ 9) (h : V g d y (pc + 3) L (.int (if a < b then b else a) :: st) A Φ) : V g d y pc L (.int b :: .int a :: st) A Φ := by
  intro p l e R s m args below meth c z C H locs cells slots ls X
  have kk := h p l e R s m args below meth c z C H locs cells slots ls X
  obtain ⟨hx, hb, hml, -, -, hown, -, -, hT, hfr, hlo, hgl, hgs, -⟩ := C
  obtain ⟨w1, w2, w3, w4⟩ := hw
  have h1 := X.2.2.1
  have h2 := X.2.2.2.1
  have h3 := X.2.1.2.2.2.1
  have h4 := X.2.1.2.2.2.2.1
  exact va_mmax hx hb (by rw [hml]; exact X.1.1.symm) hown (hT.1 _ w1) (hT.1 _ w2) (hT.1 _ w3) (hT.1 _ w4) (by omega) (by omega) (by omega) (by omega) hd kk
theorem v_mmin {idx : Nat} {a b : Int32} (hd : decode y.2.1 pc = .ok (.invokestatic idx, 3)) (hw : MN (gW g) y.1.cls idx) (hst : (st.map fun v => v.category).sum ≤ 9) (h : V g d y (pc + 3) L (.int (if b < a then b else a) :: st) A Φ) : V g d y pc L (.int b :: .int a :: st) A Φ := by
  intro p l e R s m args below meth c z C H locs cells slots ls X
  have kk := h p l e R s m args below meth c z C H locs cells slots ls X
  obtain ⟨hx, hb, hml, -, -, hown, -, -, hT, hfr, hlo, hgl, hgs, -⟩ := C
  obtain ⟨w1, w2, w3, w4⟩ := hw
  have h1 := X.2.2.1
  have h2 := X.2.2.2.1
  have h3 := X.2.1.2.2.2.1
  have h4 := X.2.1.2.2.2.2.1
  exact va_mmin hx hb (by rw [hml]; exact X.1.1.symm) hown (hT.1 _ w1) (hT.1 _ w2) (hT.1 _ w3) (hT.1 _ w4) (by omega) (by omega) (by omega) (by omega) hd kk
end VI
end
