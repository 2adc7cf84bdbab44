/-! V: a method's walk, said over a heap of my own words (addresses to kinds and values). -/
abbrev MT : Type := MethodName × ByteArray × Nat × Option FieldType × List (Nat × Nat × Nat × Nat)
abbrev AC : Type := Nat × List Value
abbrev AH : Type := (Nat → Option AC) × Nat × Nat
abbrev Lo : Type := List (Option Value)
abbrev Out : Type := Option Value ⊕ Nat
abbrev Gx : Type := List Cond × List Cond × List vw_C × va_G × List FieldType × (Nat → ClassId) × List (String × ClassId) × Heap × Nat × Nat
abbrev gW (g : Gx) : List Cond := g.1
abbrev gY (g : Gx) : List Cond := g.2.1
abbrev gC (g : Gx) : List vw_C := g.2.2.1
abbrev gD (g : Gx) : va_G := g.2.2.2.1
abbrev gT (g : Gx) : List FieldType := g.2.2.2.2.1
abbrev gA (g : Gx) : Nat → ClassId := g.2.2.2.2.2.1
abbrev gE (g : Gx) : List (String × ClassId) := g.2.2.2.2.2.2.1
abbrev gH (g : Gx) : Heap := g.2.2.2.2.2.2.2.1
abbrev gL (g : Gx) : Nat := g.2.2.2.2.2.2.2.2.1
abbrev gS (g : Gx) : Nat := g.2.2.2.2.2.2.2.2.2
/-- a word that stays true as the tables grow warmer -/
def Kp (w : Cond) : Prop := ∀ (s U : State) (a a' : Array Value), s.WarmedH U.vm → w.before a s = true → w.before a' U = true
/-- a word on statics of old cells -/
def Ky (w : Cond) : Prop := (∀ (s U : State) (H : Heap) (a a' : Array Value), s.WarmedH U.vm → w.before a ({ s with heap := H } : State) = true → w.before a' ({ U with heap := H } : State) = true) ∧
  ∀ (s : State) (H : Heap) (a : Array Value), (∀ q, q < H.size → s.heap[q]? = H[q]?) → w.before a ({ s with heap := H } : State) = true → w.before a s = true
def okC (g : Gx) (x : AC) (cell : Cell) : Prop :=
  (x.1 < 100 ∧ ∃ r, (gC g)[x.1]? = some r ∧ cell.cls = (gD g).1 x.1 ∧ cell.vm = .none ∧ x.2.length = r.2.2 ∧ ∀ k, k < r.2.2 → cell.slots[(gD g).2 x.1 k]? = x.2[k]?) ∨
  (100 ≤ x.1 ∧ x.1 < 200 ∧ cell = { cls := gA g (x.1 - 100), slots := x.2.toArray, vm := .none }) ∨
  (200 ≤ x.1 ∧ cell.vm = .none ∧ ∃ q, (gE g)[x.1 - 200]? = some q ∧ cell.cls = q.2)
def HR (g : Gx) (A : AH) (H : Heap) : Prop := H.size = A.2.1 ∧ (gH g).size ≤ H.size ∧ (∀ q, q < (gH g).size → H[q]? = (gH g)[q]?) ∧ A.2.1 ≤ gL g ∧ A.2.2 ≤ gS g ∧
  ∀ (a : Nat) (x : AC), A.1 a = some x → (gH g).size ≤ a ∧ ∃ cell, H[a]? = some cell ∧ okC g x cell
def TF (g : Gx) (s : State) (args : Array Value) : Prop :=
  (∀ w ∈ gW g, w.before args s = true) ∧ (∀ w ∈ gW g, Kp w) ∧ va_K (gD g) (gC g) [] s ∧
  (∀ (j : Nat) (ty : FieldType), (gT g)[j]? = some ty → ArrOfT s (gA g j) ty ∧ va_RA s (gA g j) ty) ∧
  (∀ (k : Nat) (q : String × ClassId), (gE g)[k]? = some q → s.vm.findClass q.1 = some q.2) ∧
  (∀ w ∈ gY g, w.before args ({ s with heap := gH g } : State) = true) ∧ (∀ w ∈ gY g, Ky w) ∧
  ∀ scr : Cell, (gH g)[gA g 50]? = some scr → s.isArrayOf scr .int ∧ scr.vm ≠ .unknown
theorem TF.moved {g : Gx} {s U : State} {a a' : Array Value} (h : TF g s a) (hW : s.WarmedH U.vm) : TF g U a' := by
  obtain ⟨h1, h2, h3, h4, h5, h6, h7, h8⟩ := h
  refine ⟨fun w hw => h2 w hw s U a a' hW (h1 w hw), h2, va_K.moved hW.alike h3, fun j ty hj => ⟨arrOfT_moved hW.alike (h4 j ty hj).1, (h4 j ty hj).2.moved hW.alike⟩, fun k q hq => ?_, fun w hw => (h7 w hw).1 s U _ a a' hW (h6 w hw), h7, fun scr hs => ⟨State.isArrayOf_alike hW.alike (h8 scr hs).1, (h8 scr hs).2⟩⟩
  rw [hW.alike.findClass]
  exact h5 k q hq
/-- the locals: a list by place; a long's second place holds nothing -/
def LR (L : Lo) (ls : Array Slot) (n : Nat) : Prop := ls.size = n ∧ lv_wf ls ∧ L.length = n ∧ ∀ (i : Nat) (v : Value), L[i]? = some (some v) → ls[i]? = some (.val v)
def Cx (g : Gx) (d : Nat) (y : MT) (p : Program) (e : Env) (R : Room) (s : State) (m : MethodId) (args : Array Value) (meth : Method) (c : Code) (z : Nat) : Prop :=
  p.tables.exec = Jvm.exec ∧ c.code = y.2.1 ∧ c.maxLocals = y.2.2.1 ∧ meth.sig.returnType = y.2.2.2.1 ∧ meth.locks = false ∧ s.vm.findClass y.1.cls = some m.cls ∧ meth.name = y.1.name ∧
  c.exceptionTable.toList = tableOf y.2.2.2.2 ∧ TF g s args ∧ d + 2 ≤ R.frames ∧ 40 * d + 100 ≤ R.locals ∧ gL g ≤ s.heap.size + R.cells ∧ gS g ≤ z + R.slots ∧ e.platform.stackTraces = false
def Rx (g : Gx) (y : MT) (A : AH) (L : Lo) (s : State) (z : Nat) (H : Heap) (locs : List Loc) (cells slots : Nat) (ls : Array Slot) : Prop :=
  LR L ls y.2.2.1 ∧ HR g A H ∧ s.heap.size + cells = A.2.1 ∧ z + slots = A.2.2 ∧ ∀ q ∈ locs, (gH g).size ≤ q.base
def oR (r : Out) (A : AH) (o : Outcome) : Prop := match r with
  | .inl v => o = .returned v
  | .inr a => o = .threw a ∧ ∃ k, A.1 a = some (200 + k, [])
def Ex (g : Gx) (below : List Frame) (s : State) (z : Nat) (Φ : Out → AH → Prop) (t : State) : Prop :=
  ∃ (o : Outcome) (K : List Loc) (k n : Nat) (r : Out) (A : AH), t.status = .running ∧ Ended t below o ∧ s.WarmedH t.vm ∧ s.sameButNew ({ t with vm := s.vm } : State) K k n ∧ (∀ q ∈ K, (gH g).size ≤ q.base) ∧
    Φ r A ∧ HR g A t.heap ∧ s.heap.size + k = A.2.1 ∧ z + n = A.2.2 ∧ oR r A o
def V (g : Gx) (d : Nat) (y : MT) (pc : Nat) (L : Lo) (st : List Value) (A : AH) (Φ : Out → AH → Prop) : Prop :=
  ∀ (p : Program) (l : Launch) (e : Env) (R : Room) (s : State) (m : MethodId) (args : Array Value) (below : List Frame) (meth : Method) (c : Code) (z : Nat), Cx g d y p e R s m args meth c z →
    ∀ (H : Heap) (locs : List Loc) (cells slots : Nat) (ls : Array Slot), Rx g y A L s z H locs cells slots ls →
      W p l e R s m args below meth c H locs cells slots (Ex g below s z Φ) (F0 m pc ls st)
theorem W.mono {p : Program} {l : Launch} {e : Env} {R : Room} {s : State} {m : MethodId} {args : Array Value} {below : List Frame} {meth : Method} {c : Code} {H : Heap} {locs : List Loc} {cells slots : Nat} {Q Q' : State → Prop} {f : JFrame} (h : W p l e R s m args below meth c H locs cells slots Q f) (hq : ∀ t, Q t → Q' t) : W p l e R s m args below meth c H locs cells slots Q' f := by
  intro T hT X
  obtain ⟨t, a, b⟩ := h T hT X
  exact ⟨t, a, hq t b⟩
section VR
variable {g : Gx} {d : Nat} {y : MT} {pc : Nat} {L : Lo} {st : List Value} {A : AH} {Φ : Out → AH → Prop}
theorem V.mono {Φ' : Out → AH → Prop} (h : V g d y pc L st A Φ) (hq : ∀ r A', Φ r A' → Φ' r A') : V g d y pc L st A Φ' :=
  fun p l e R s m args below meth c z C H locs cells slots ls X => W.mono (h p l e R s m args below meth c z C H locs cells slots ls X) (fun t ⟨o, K, k, n, r, A', h1, h2, h3, h4, h5, h6, h7⟩ => ⟨o, K, k, n, r, A', h1, h2, h3, h4, h5, hq r A' h6, h7⟩)
/-- what a walk knows of its heap: every named cell is old -/
theorem V.old (h : (∀ a x, A.1 a = some x → a < A.2.1) → V g d y pc L st A Φ) : V g d y pc L st A Φ :=
  fun p l e R s m args below meth c z C H locs cells slots ls X => h (fun a x ha => by
    obtain ⟨-, cell, hc, -⟩ := X.2.1.2.2.2.2.2 a x ha
    have := (Array.getElem?_eq_some_iff.mp hc).1
    rw [← X.2.1.1]; exact this) p l e R s m args below meth c z C H locs cells slots ls X
theorem V.eq {pc' : Nat} {L' : Lo} {st' : List Value} {A' : AH} (h : V g d y pc' L' st' A' Φ) (h1 : pc' = pc) (h2 : L' = L) (h3 : st' = st) (h4 : A' = A) : V g d y pc L st A Φ := by subst h1 h2 h3 h4; exact h
theorem LR.drop {ls : Array Slot} {n : Nat} (h : LR L ls n) (i : Nat) : LR (L.set i none) ls n := by
  refine ⟨h.1, h.2.1, by rw [List.length_set]; exact h.2.2.1, fun j v hj => ?_⟩
  rw [List.getElem?_set] at hj
  split at hj
  · split at hj
    · cases hj
    · cases hj
  · exact h.2.2.2 j v hj
/-- a local that is no longer wanted -/
theorem V.drop (i : Nat) (h : V g d y pc (L.set i none) st A Φ) : V g d y pc L st A Φ :=
  fun p l e R s m args below meth c z C H locs cells slots ls X => h p l e R s m args below meth c z C H locs cells slots ls ⟨X.1.drop i, X.2⟩

theorem v_iconst {n : Int} {v : Int32} (hd : decode y.2.1 pc = .ok (.iconst n, 1)) (hv : Int32.ofInt n = v) (h : V g d y (pc + 1) L (.int v :: st) A Φ) : V g d y pc L (st) A Φ :=
  fun p l e R s m args below meth c z C H locs cells slots ls X => lv_iconst C.1 C.2.1 hd hv (h p l e R s m args below meth c z C H locs cells slots ls X)
theorem v_bipush {n : Int} {v : Int32} (hd : decode y.2.1 pc = .ok (.bipush n, 2)) (hv : (Int8.ofInt n).toInt32 = v) (h : V g d y (pc + 2) L (.int v :: st) A Φ) : V g d y pc L (st) A Φ :=
  fun p l e R s m args below meth c z C H locs cells slots ls X => lv_bipush C.1 C.2.1 hd hv (h p l e R s m args below meth c z C H locs cells slots ls X)
theorem v_sipush {n : Int} {v : Int32} (hd : decode y.2.1 pc = .ok (.sipush n, 3)) (hv : (Int16.ofInt n).toInt32 = v) (h : V g d y (pc + 3) L (.int v :: st) A Φ) : V g d y pc L (st) A Φ :=
  fun p l e R s m args below meth c z C H locs cells slots ls X => lv_sipush C.1 C.2.1 hd hv (h p l e R s m args below meth c z C H locs cells slots ls X)
theorem v_lconst {n : Fin 2} {v : Int64} (hd : decode y.2.1 pc = .ok (.lconst n, 1)) (hv : Int64.ofNat (n : Nat) = v) (h : V g d y (pc + 1) L (.long v :: st) A Φ) : V g d y pc L (st) A Φ :=
  fun p l e R s m args below meth c z C H locs cells slots ls X => lv_lconst C.1 C.2.1 hd hv (h p l e R s m args below meth c z C H locs cells slots ls X)
theorem v_null  (hd : decode y.2.1 pc = .ok (.aconst_null, 1))  (h : V g d y (pc + 1) L (.null :: st) A Φ) : V g d y pc L (st) A Φ :=
  fun p l e R s m args below meth c z C H locs cells slots ls X => lv_null C.1 C.2.1 hd  (h p l e R s m args below meth c z C H locs cells slots ls X)
theorem v_iload_n {k : Fin 4} {x : Int32} (hd : decode y.2.1 pc = .ok (.iload_n k, 1)) (hl : L[(k : Nat)]? = some (some (.int x))) (h : V g d y (pc + 1) L (.int x :: st) A Φ) : V g d y pc L (st) A Φ :=
  fun p l e R s m args below meth c z C H locs cells slots ls X => lv_iload_n C.1 C.2.1 hd rfl (X.1.2.2.2 _ _ hl) (h p l e R s m args below meth c z C H locs cells slots ls X)
theorem v_iload {k : Nat} {x : Int32} (hd : decode y.2.1 pc = .ok (.iload k, 2)) (hl : L[k]? = some (some (.int x))) (h : V g d y (pc + 2) L (.int x :: st) A Φ) : V g d y pc L (st) A Φ :=
  fun p l e R s m args below meth c z C H locs cells slots ls X => lv_iload C.1 C.2.1 hd (X.1.2.2.2 _ _ hl) (h p l e R s m args below meth c z C H locs cells slots ls X)
theorem v_lload_n {k : Fin 4} {x : Int64} (hd : decode y.2.1 pc = .ok (.lload_n k, 1)) (hl : L[(k : Nat)]? = some (some (.long x))) (h : V g d y (pc + 1) L (.long x :: st) A Φ) : V g d y pc L (st) A Φ :=
  fun p l e R s m args below meth c z C H locs cells slots ls X => lv_lload_n C.1 C.2.1 hd rfl (X.1.2.2.2 _ _ hl) (h p l e R s m args below meth c z C H locs cells slots ls X)
theorem v_lload {k : Nat} {x : Int64} (hd : decode y.2.1 pc = .ok (.lload k, 2)) (hl : L[k]? = some (some (.long x))) (h : V g d y (pc + 2) L (.long x :: st) A Φ) : V g d y pc L (st) A Φ :=
  fun p l e R s m args below meth c z C H locs cells slots ls X => lv_lload C.1 C.2.1 hd (X.1.2.2.2 _ _ hl) (h p l e R s m args below meth c z C H locs cells slots ls X)
theorem v_aload_n {k : Fin 4} {x : Nat} (hd : decode y.2.1 pc = .ok (.aload_n k, 1)) (hl : L[(k : Nat)]? = some (some (.ref x))) (h : V g d y (pc + 1) L (.ref x :: st) A Φ) : V g d y pc L (st) A Φ :=
  fun p l e R s m args below meth c z C H locs cells slots ls X => lv_aload_n C.1 C.2.1 hd rfl (X.1.2.2.2 _ _ hl) (h p l e R s m args below meth c z C H locs cells slots ls X)
theorem v_aload {k : Nat} {x : Nat} (hd : decode y.2.1 pc = .ok (.aload k, 2)) (hl : L[k]? = some (some (.ref x))) (h : V g d y (pc + 2) L (.ref x :: st) A Φ) : V g d y pc L (st) A Φ :=
  fun p l e R s m args below meth c z C H locs cells slots ls X => lv_aload C.1 C.2.1 hd (X.1.2.2.2 _ _ hl) (h p l e R s m args below meth c z C H locs cells slots ls X)
theorem v_aloadN_n {k : Fin 4} (hd : decode y.2.1 pc = .ok (.aload_n k, 1)) (hl : L[(k : Nat)]? = some (some .null)) (h : V g d y (pc + 1) L (.null :: st) A Φ) : V g d y pc L (st) A Φ :=
  fun p l e R s m args below meth c z C H locs cells slots ls X => lv_aload_nN C.1 C.2.1 hd rfl (X.1.2.2.2 _ _ hl) (h p l e R s m args below meth c z C H locs cells slots ls X)
theorem v_aloadN {k : Nat} (hd : decode y.2.1 pc = .ok (.aload k, 2)) (hl : L[k]? = some (some .null)) (h : V g d y (pc + 2) L (.null :: st) A Φ) : V g d y pc L (st) A Φ :=
  fun p l e R s m args below meth c z C H locs cells slots ls X => lv_aloadN C.1 C.2.1 hd (X.1.2.2.2 _ _ hl) (h p l e R s m args below meth c z C H locs cells slots ls X)
theorem v_iadd {a b : Int32} (hd : decode y.2.1 pc = .ok (.iadd, 1))  (h : V g d y (pc + 1) L (.int (a + b) :: st) A Φ) : V g d y pc L (.int b :: .int a :: st) A Φ :=
  fun p l e R s m args below meth c z C H locs cells slots ls X => lv_iadd C.1 C.2.1 hd  (h p l e R s m args below meth c z C H locs cells slots ls X)
theorem v_isub {a b : Int32} (hd : decode y.2.1 pc = .ok (.isub, 1))  (h : V g d y (pc + 1) L (.int (a - b) :: st) A Φ) : V g d y pc L (.int b :: .int a :: st) A Φ :=
  fun p l e R s m args below meth c z C H locs cells slots ls X => lv_isub C.1 C.2.1 hd  (h p l e R s m args below meth c z C H locs cells slots ls X)
theorem v_imul {a b : Int32} (hd : decode y.2.1 pc = .ok (.imul, 1))  (h : V g d y (pc + 1) L (.int (a * b) :: st) A Φ) : V g d y pc L (.int b :: .int a :: st) A Φ :=
  fun p l e R s m args below meth c z C H locs cells slots ls X => lv_imul C.1 C.2.1 hd  (h p l e R s m args below meth c z C H locs cells slots ls X)
theorem v_iand {a b : Int32} (hd : decode y.2.1 pc = .ok (.iand, 1))  (h : V g d y (pc + 1) L (.int (a &&& b) :: st) A Φ) : V g d y pc L (.int b :: .int a :: st) A Φ :=
  fun p l e R s m args below meth c z C H locs cells slots ls X => lv_iand C.1 C.2.1 hd  (h p l e R s m args below meth c z C H locs cells slots ls X)
theorem v_ior {a b : Int32} (hd : decode y.2.1 pc = .ok (.ior, 1))  (h : V g d y (pc + 1) L (.int (a ||| b) :: st) A Φ) : V g d y pc L (.int b :: .int a :: st) A Φ :=
  fun p l e R s m args below meth c z C H locs cells slots ls X => lv_ior C.1 C.2.1 hd  (h p l e R s m args below meth c z C H locs cells slots ls X)
theorem v_ixor {a b : Int32} (hd : decode y.2.1 pc = .ok (.ixor, 1))  (h : V g d y (pc + 1) L (.int (a ^^^ b) :: st) A Φ) : V g d y pc L (.int b :: .int a :: st) A Φ :=
  fun p l e R s m args below meth c z C H locs cells slots ls X => lv_ixor C.1 C.2.1 hd  (h p l e R s m args below meth c z C H locs cells slots ls X)
theorem v_ishl {a b : Int32} (hd : decode y.2.1 pc = .ok (.ishl, 1))  (h : V g d y (pc + 1) L (.int (a <<< (b &&& 31)) :: st) A Φ) : V g d y pc L (.int b :: .int a :: st) A Φ :=
  fun p l e R s m args below meth c z C H locs cells slots ls X => lv_ishl C.1 C.2.1 hd  (h p l e R s m args below meth c z C H locs cells slots ls X)
theorem v_ishr {a b : Int32} (hd : decode y.2.1 pc = .ok (.ishr, 1))  (h : V g d y (pc + 1) L (.int (a >>> (b &&& 31)) :: st) A Φ) : V g d y pc L (.int b :: .int a :: st) A Φ :=
  fun p l e R s m args below meth c z C H locs cells slots ls X => lv_ishr C.1 C.2.1 hd  (h p l e R s m args below meth c z C H locs cells slots ls X)
theorem v_idiv {a b : Int32} (hd : decode y.2.1 pc = .ok (.idiv, 1)) (hne : ¬ b = 0) (h : V g d y (pc + 1) L (.int (a / b) :: st) A Φ) : V g d y pc L (.int b :: .int a :: st) A Φ :=
  fun p l e R s m args below meth c z C H locs cells slots ls X => lv_idiv C.1 C.2.1 hd hne (h p l e R s m args below meth c z C H locs cells slots ls X)
theorem v_irem {a b : Int32} (hd : decode y.2.1 pc = .ok (.irem, 1)) (hne : ¬ b = 0) (h : V g d y (pc + 1) L (.int (a - a / b * b) :: st) A Φ) : V g d y pc L (.int b :: .int a :: st) A Φ :=
  fun p l e R s m args below meth c z C H locs cells slots ls X => lv_irem C.1 C.2.1 hd hne (h p l e R s m args below meth c z C H locs cells slots ls X)
theorem v_ineg {a : Int32} (hd : decode y.2.1 pc = .ok (.ineg, 1))  (h : V g d y (pc + 1) L (.int (-a) :: st) A Φ) : V g d y pc L (.int a :: st) A Φ :=
  fun p l e R s m args below meth c z C H locs cells slots ls X => lv_ineg C.1 C.2.1 hd  (h p l e R s m args below meth c z C H locs cells slots ls X)
theorem v_ladd {a b : Int64} (hd : decode y.2.1 pc = .ok (.ladd, 1))  (h : V g d y (pc + 1) L (.long (a + b) :: st) A Φ) : V g d y pc L (.long b :: .long a :: st) A Φ :=
  fun p l e R s m args below meth c z C H locs cells slots ls X => lv_ladd C.1 C.2.1 hd  (h p l e R s m args below meth c z C H locs cells slots ls X)
theorem v_lsub {a b : Int64} (hd : decode y.2.1 pc = .ok (.lsub, 1))  (h : V g d y (pc + 1) L (.long (a - b) :: st) A Φ) : V g d y pc L (.long b :: .long a :: st) A Φ :=
  fun p l e R s m args below meth c z C H locs cells slots ls X => lv_lsub C.1 C.2.1 hd  (h p l e R s m args below meth c z C H locs cells slots ls X)
theorem v_lmul {a b : Int64} (hd : decode y.2.1 pc = .ok (.lmul, 1))  (h : V g d y (pc + 1) L (.long (a * b) :: st) A Φ) : V g d y pc L (.long b :: .long a :: st) A Φ :=
  fun p l e R s m args below meth c z C H locs cells slots ls X => lv_lmul C.1 C.2.1 hd  (h p l e R s m args below meth c z C H locs cells slots ls X)
theorem v_lcmp {a b : Int64} (hd : decode y.2.1 pc = .ok (.lcmp, 1))  (h : V g d y (pc + 1) L (.int (lg_cmp a b) :: st) A Φ) : V g d y pc L (.long b :: .long a :: st) A Φ :=
  fun p l e R s m args below meth c z C H locs cells slots ls X => W.lcmp C.1 C.2.1 hd  (h p l e R s m args below meth c z C H locs cells slots ls X)
theorem v_i2l {a : Int32} (hd : decode y.2.1 pc = .ok (.i2l, 1))  (h : V g d y (pc + 1) L (.long a.toInt64 :: st) A Φ) : V g d y pc L (.int a :: st) A Φ :=
  fun p l e R s m args below meth c z C H locs cells slots ls X => lv_i2l C.1 C.2.1 hd rfl (h p l e R s m args below meth c z C H locs cells slots ls X)
theorem v_l2i {a : Int64} (hd : decode y.2.1 pc = .ok (.l2i, 1))  (h : V g d y (pc + 1) L (.int a.toInt32 :: st) A Φ) : V g d y pc L (.long a :: st) A Φ :=
  fun p l e R s m args below meth c z C H locs cells slots ls X => lv_l2i C.1 C.2.1 hd rfl (h p l e R s m args below meth c z C H locs cells slots ls X)
theorem v_dup {a : Value} (hd : decode y.2.1 pc = .ok (.dup, 1)) (h1 : a.category = 1) (h : V g d y (pc + 1) L (a :: a :: st) A Φ) : V g d y pc L (a :: st) A Φ :=
  fun p l e R s m args below meth c z C H locs cells slots ls X => lv_dup C.1 C.2.1 hd h1 (h p l e R s m args below meth c z C H locs cells slots ls X)
theorem v_pop {a : Value} (hd : decode y.2.1 pc = .ok (.pop, 1)) (h1 : a.category = 1) (h : V g d y (pc + 1) L (st) A Φ) : V g d y pc L (a :: st) A Φ :=
  fun p l e R s m args below meth c z C H locs cells slots ls X => lv_pop C.1 C.2.1 hd h1 (h p l e R s m args below meth c z C H locs cells slots ls X)
theorem v_dup_x1 {a b : Value} (hd : decode y.2.1 pc = .ok (.dup_x1, 1)) (h1 : a.category = 1) (h2 : b.category = 1) (h : V g d y (pc + 1) L (a :: b :: a :: st) A Φ) : V g d y pc L (a :: b :: st) A Φ :=
  fun p l e R s m args below meth c z C H locs cells slots ls X => lv_dup_x1 C.1 C.2.1 hd h1 h2 (h p l e R s m args below meth c z C H locs cells slots ls X)
theorem v_dup_x2 {a b c : Value} (hd : decode y.2.1 pc = .ok (.dup_x2, 1)) (h1 : a.category = 1) (h2 : b.category = 1) (h3 : c.category = 1) (h : V g d y (pc + 1) L (a :: b :: c :: a :: st) A Φ) : V g d y pc L (a :: b :: c :: st) A Φ :=
  fun p l e R s m args below meth c z C H locs cells slots ls X => lv_dup_x2 C.1 C.2.1 hd h1 h2 h3 (h p l e R s m args below meth c z C H locs cells slots ls X)
theorem v_dup2 {a b : Value} (hd : decode y.2.1 pc = .ok (.dup2, 1)) (h1 : a.category = 1) (h2 : b.category = 1) (h : V g d y (pc + 1) L (a :: b :: a :: b :: st) A Φ) : V g d y pc L (a :: b :: st) A Φ :=
  fun p l e R s m args below meth c z C H locs cells slots ls X => lv_dup2_11 C.1 C.2.1 hd h1 h2 (h p l e R s m args below meth c z C H locs cells slots ls X)
theorem v_if_eq {x : Int32} {off : Int} {tgt : Nat} (hd : decode y.2.1 pc = .ok (.ifCond .eq off, 3)) (ht : (pc : Int) + off = (tgt : Int)) (kt : x = 0 → V g d y tgt L st A Φ) (kf : ¬ (x = 0) → V g d y (pc + 3) L st A Φ) : V g d y pc L (.int x :: st) A Φ :=
  fun p l e R s m args below meth c z C H locs cells slots ls X => lv_if_eq C.1 C.2.1 hd ht (fun q => kt q p l e R s m args below meth c z C H locs cells slots ls X) (fun q => kf q p l e R s m args below meth c z C H locs cells slots ls X)
theorem v_icmp_eq {x w : Int32} {off : Int} {tgt : Nat} (hd : decode y.2.1 pc = .ok (.if_icmp .eq off, 3)) (ht : (pc : Int) + off = (tgt : Int)) (kt : x = w → V g d y tgt L st A Φ) (kf : ¬ (x = w) → V g d y (pc + 3) L st A Φ) : V g d y pc L (.int w :: .int x :: st) A Φ :=
  fun p l e R s m args below meth c z C H locs cells slots ls X => lv_icmp_eq C.1 C.2.1 hd ht (fun q => kt q p l e R s m args below meth c z C H locs cells slots ls X) (fun q => kf q p l e R s m args below meth c z C H locs cells slots ls X)
theorem v_if_ne {x : Int32} {off : Int} {tgt : Nat} (hd : decode y.2.1 pc = .ok (.ifCond .ne off, 3)) (ht : (pc : Int) + off = (tgt : Int)) (kt : ¬ x = 0 → V g d y tgt L st A Φ) (kf : x = 0 → V g d y (pc + 3) L st A Φ) : V g d y pc L (.int x :: st) A Φ :=
  fun p l e R s m args below meth c z C H locs cells slots ls X => lv_if_ne C.1 C.2.1 hd ht (fun q => kt q p l e R s m args below meth c z C H locs cells slots ls X) (fun q => kf q p l e R s m args below meth c z C H locs cells slots ls X)
theorem v_icmp_ne {x w : Int32} {off : Int} {tgt : Nat} (hd : decode y.2.1 pc = .ok (.if_icmp .ne off, 3)) (ht : (pc : Int) + off = (tgt : Int)) (kt : ¬ x = w → V g d y tgt L st A Φ) (kf : x = w → V g d y (pc + 3) L st A Φ) : V g d y pc L (.int w :: .int x :: st) A Φ :=
  fun p l e R s m args below meth c z C H locs cells slots ls X => lv_icmp_ne C.1 C.2.1 hd ht (fun q => kt q p l e R s m args below meth c z C H locs cells slots ls X) (fun q => kf q p l e R s m args below meth c z C H locs cells slots ls X)
theorem v_if_lt {x : Int32} {off : Int} {tgt : Nat} (hd : decode y.2.1 pc = .ok (.ifCond .lt off, 3)) (ht : (pc : Int) + off = (tgt : Int)) (kt : x < 0 → V g d y tgt L st A Φ) (kf : ¬ (x < 0) → V g d y (pc + 3) L st A Φ) : V g d y pc L (.int x :: st) A Φ :=
  fun p l e R s m args below meth c z C H locs cells slots ls X => lv_if_lt C.1 C.2.1 hd ht (fun q => kt q p l e R s m args below meth c z C H locs cells slots ls X) (fun q => kf q p l e R s m args below meth c z C H locs cells slots ls X)
theorem v_icmp_lt {x w : Int32} {off : Int} {tgt : Nat} (hd : decode y.2.1 pc = .ok (.if_icmp .lt off, 3)) (ht : (pc : Int) + off = (tgt : Int)) (kt : x < w → V g d y tgt L st A Φ) (kf : ¬ (x < w) → V g d y (pc + 3) L st A Φ) : V g d y pc L (.int w :: .int x :: st) A Φ :=
  fun p l e R s m args below meth c z C H locs cells slots ls X => lv_icmp_lt C.1 C.2.1 hd ht (fun q => kt q p l e R s m args below meth c z C H locs cells slots ls X) (fun q => kf q p l e R s m args below meth c z C H locs cells slots ls X)
theorem v_if_ge {x : Int32} {off : Int} {tgt : Nat} (hd : decode y.2.1 pc = .ok (.ifCond .ge off, 3)) (ht : (pc : Int) + off = (tgt : Int)) (kt : 0 ≤ x → V g d y tgt L st A Φ) (kf : ¬ (0 ≤ x) → V g d y (pc + 3) L st A Φ) : V g d y pc L (.int x :: st) A Φ :=
  fun p l e R s m args below meth c z C H locs cells slots ls X => lv_if_ge C.1 C.2.1 hd ht (fun q => kt q p l e R s m args below meth c z C H locs cells slots ls X) (fun q => kf q p l e R s m args below meth c z C H locs cells slots ls X)
theorem v_icmp_ge {x w : Int32} {off : Int} {tgt : Nat} (hd : decode y.2.1 pc = .ok (.if_icmp .ge off, 3)) (ht : (pc : Int) + off = (tgt : Int)) (kt : w ≤ x → V g d y tgt L st A Φ) (kf : ¬ (w ≤ x) → V g d y (pc + 3) L st A Φ) : V g d y pc L (.int w :: .int x :: st) A Φ :=
  fun p l e R s m args below meth c z C H locs cells slots ls X => lv_icmp_ge C.1 C.2.1 hd ht (fun q => kt q p l e R s m args below meth c z C H locs cells slots ls X) (fun q => kf q p l e R s m args below meth c z C H locs cells slots ls X)
theorem v_if_gt {x : Int32} {off : Int} {tgt : Nat} (hd : decode y.2.1 pc = .ok (.ifCond .gt off, 3)) (ht : (pc : Int) + off = (tgt : Int)) (kt : 0 < x → V g d y tgt L st A Φ) (kf : ¬ (0 < x) → V g d y (pc + 3) L st A Φ) : V g d y pc L (.int x :: st) A Φ :=
  fun p l e R s m args below meth c z C H locs cells slots ls X => lv_if_gt C.1 C.2.1 hd ht (fun q => kt q p l e R s m args below meth c z C H locs cells slots ls X) (fun q => kf q p l e R s m args below meth c z C H locs cells slots ls X)
theorem v_icmp_gt {x w : Int32} {off : Int} {tgt : Nat} (hd : decode y.2.1 pc = .ok (.if_icmp .gt off, 3)) (ht : (pc : Int) + off = (tgt : Int)) (kt : w < x → V g d y tgt L st A Φ) (kf : ¬ (w < x) → V g d y (pc + 3) L st A Φ) : V g d y pc L (.int w :: .int x :: st) A Φ :=
  fun p l e R s m args below meth c z C H locs cells slots ls X => lv_icmp_gt C.1 C.2.1 hd ht (fun q => kt q p l e R s m args below meth c z C H locs cells slots ls X) (fun q => kf q p l e R s m args below meth c z C H locs cells slots ls X)
theorem v_if_le {x : Int32} {off : Int} {tgt : Nat} (hd : decode y.2.1 pc = .ok (.ifCond .le off, 3)) (ht : (pc : Int) + off = (tgt : Int)) (kt : x ≤ 0 → V g d y tgt L st A Φ) (kf : ¬ (x ≤ 0) → V g d y (pc + 3) L st A Φ) : V g d y pc L (.int x :: st) A Φ :=
  fun p l e R s m args below meth c z C H locs cells slots ls X => lv_if_le C.1 C.2.1 hd ht (fun q => kt q p l e R s m args below meth c z C H locs cells slots ls X) (fun q => kf q p l e R s m args below meth c z C H locs cells slots ls X)
theorem v_icmp_le {x w : Int32} {off : Int} {tgt : Nat} (hd : decode y.2.1 pc = .ok (.if_icmp .le off, 3)) (ht : (pc : Int) + off = (tgt : Int)) (kt : x ≤ w → V g d y tgt L st A Φ) (kf : ¬ (x ≤ w) → V g d y (pc + 3) L st A Φ) : V g d y pc L (.int w :: .int x :: st) A Φ :=
  fun p l e R s m args below meth c z C H locs cells slots ls X => lv_icmp_le C.1 C.2.1 hd ht (fun q => kt q p l e R s m args below meth c z C H locs cells slots ls X) (fun q => kf q p l e R s m args below meth c z C H locs cells slots ls X)
theorem v_goto {off : Int} {tgt : Nat} (hd : decode y.2.1 pc = .ok (.goto off, 3)) (ht : (pc : Int) + off = (tgt : Int)) (h : V g d y tgt L st A Φ) : V g d y pc L st A Φ :=
  fun p l e R s m args below meth c z C H locs cells slots ls X => lv_goto C.1 C.2.1 hd ht (h p l e R s m args below meth c z C H locs cells slots ls X)
theorem v_ifnonnull {x : Nat} {off : Int} {tgt : Nat} (hd : decode y.2.1 pc = .ok (.ifnonnull off, 3)) (ht : (pc : Int) + off = (tgt : Int)) (h : V g d y tgt L st A Φ) : V g d y pc L (.ref x :: st) A Φ :=
  fun p l e R s m args below meth c z C H locs cells slots ls X => lv_ifnonnull C.1 C.2.1 hd ht (h p l e R s m args below meth c z C H locs cells slots ls X)
theorem v_ifnull {x : Nat} {off : Int} (hd : decode y.2.1 pc = .ok (.ifnull off, 3)) (h : V g d y (pc + 3) L st A Φ) : V g d y pc L (.ref x :: st) A Φ :=
  fun p l e R s m args below meth c z C H locs cells slots ls X => lv_ifnull C.1 C.2.1 hd (h p l e R s m args below meth c z C H locs cells slots ls X)
theorem v_ifnullN {off : Int} {tgt : Nat} (hd : decode y.2.1 pc = .ok (.ifnull off, 3)) (ht : (pc : Int) + off = (tgt : Int)) (h : V g d y tgt L st A Φ) : V g d y pc L (.null :: st) A Φ :=
  fun p l e R s m args below meth c z C H locs cells slots ls X => lv_ifnullN C.1 C.2.1 hd ht (h p l e R s m args below meth c z C H locs cells slots ls X)
theorem v_ifnonnullN {off : Int} (hd : decode y.2.1 pc = .ok (.ifnonnull off, 3)) (h : V g d y (pc + 3) L st A Φ) : V g d y pc L (.null :: st) A Φ :=
  fun p l e R s m args below meth c z C H locs cells slots ls X => lv_ifnonnullN C.1 C.2.1 hd (h p l e R s m args below meth c z C H locs cells slots ls X)
theorem v_acmp_ne {rx ry : Option Nat} {off : Int} {tgt : Nat} (hd : decode y.2.1 pc = .ok (.if_acmp .ne off, 3)) (ht : (pc : Int) + off = (tgt : Int)) (kt : ¬ rx = ry → V g d y tgt L st A Φ) (kf : rx = ry → V g d y (pc + 3) L st A Φ) : V g d y pc L (va_rf ry :: va_rf rx :: st) A Φ :=
  fun p l e R s m args below meth c z C H locs cells slots ls X => lv_acmp_ne C.1 C.2.1 hd ht (fun q => kt q p l e R s m args below meth c z C H locs cells slots ls X) (fun q => kf q p l e R s m args below meth c z C H locs cells slots ls X)
theorem v_acmp_eq {rx ry : Option Nat} {off : Int} {tgt : Nat} (hd : decode y.2.1 pc = .ok (.if_acmp .eq off, 3)) (ht : (pc : Int) + off = (tgt : Int)) (kt : rx = ry → V g d y tgt L st A Φ) (kf : ¬ rx = ry → V g d y (pc + 3) L st A Φ) : V g d y pc L (va_rf ry :: va_rf rx :: st) A Φ :=
  fun p l e R s m args below meth c z C H locs cells slots ls X => lv_acmp_eq C.1 C.2.1 hd ht (fun q => kt q p l e R s m args below meth c z C H locs cells slots ls X) (fun q => kf q p l e R s m args below meth c z C H locs cells slots ls X)
theorem v_instN {index : Nat} (hd : decode y.2.1 pc = .ok (.instanceof index, 3)) (h : V g d y (pc + 3) L (.int 0 :: st) A Φ) : V g d y pc L (.null :: st) A Φ :=
  fun p l e R s m args below meth c z C H locs cells slots ls X => lv_instN C.1 C.2.1 hd (h p l e R s m args below meth c z C H locs cells slots ls X)
theorem v_tableOut {dflt lo hi : Int} {offs : Array Int} {len : Nat} {x : Int32} {tgt : Nat} (hd : decode y.2.1 pc = .ok (.tableswitch dflt lo hi offs, len)) (h1 : x.toInt < lo ∨ hi < x.toInt) (ht : (pc : Int) + dflt = (tgt : Int)) (h : V g d y tgt L st A Φ) : V g d y pc L (.int x :: st) A Φ :=
  fun p l e R s m args below meth c z C H locs cells slots ls X => lv_tableOut C.1 C.2.1 hd h1 ht (h p l e R s m args below meth c z C H locs cells slots ls X)
theorem v_tableIn {dflt lo hi : Int} {offs : Array Int} {len : Nat} {x : Int32} {off : Int} {tgt : Nat} (hd : decode y.2.1 pc = .ok (.tableswitch dflt lo hi offs, len)) (h1 : ¬ x.toInt < lo) (h2 : ¬ hi < x.toInt) (ho : offs[(x.toInt - lo).toNat]? = some off) (ht : (pc : Int) + off = (tgt : Int)) (h : V g d y tgt L st A Φ) : V g d y pc L (.int x :: st) A Φ :=
  fun p l e R s m args below meth c z C H locs cells slots ls X => lv_tableIn C.1 C.2.1 hd h1 h2 ho ht (h p l e R s m args below meth c z C H locs cells slots ls X)

def noL (L : Lo) (i : Nat) : Bool := match i with
  | 0 => true
  | j + 1 => match L[j]? with
    | some (some v) => v.category == 1
    | _ => true
theorem LR.st1 {ls : Array Slot} {n i : Nat} {v : Value} (h : LR L ls n) (hi : i < n) (hc : v.category = 1) (hn : noL L i = true) : ∃ ls', storeLocals ls i v = some ls' ∧ LR (L.set i (some v)) ls' n := by
  obtain ⟨hs, hw, hlen, hl⟩ := h
  obtain ⟨ls', e', h'⟩ := lv_store1 (v := v) (l := []) ⟨hs, hw, fun q hq => by cases hq⟩ hi hc
  refine ⟨ls', e', h'.1, h'.2.1, by rw [List.length_set]; exact hlen, fun j w hj => ?_⟩
  rw [List.getElem?_set] at hj
  split at hj
  · rename_i hji
    subst hji
    split at hj
    · cases hj
      exact h'.2.2 (_, v) List.mem_cons_self
    · cases hj
  · rename_i hji
    obtain ⟨ls2, e2, h2⟩ := lv_store1 (v := v) (l := [(j, w)]) ⟨hs, hw, fun q hq => by
      have : q = (j, w) := by simpa using hq
      subst this; exact hl j w hj⟩ hi hc
    cases e'.symm.trans e2
    refine h2.2.2 (j, w) (List.mem_cons_of_mem _ ?_)
    rw [List.mem_filter]
    refine ⟨List.mem_cons_self, ?_⟩
    have h3 : ¬ (j + 1 = i ∧ w.category = 2) := by
      rintro ⟨rfl, hw2⟩
      simp only [noL, hj] at hn
      rw [hw2] at hn
      exact absurd hn (by decide)
    simp only [Bool.and_eq_true, Bool.not_eq_true', beq_eq_false_iff_ne, ne_eq, Bool.and_eq_false_iff]
    refine ⟨fun q => hji q.symm, ?_⟩
    by_cases hq : j + 1 = i
    · exact Or.inr fun q => h3 ⟨hq, q⟩
    · exact Or.inl hq
theorem LR.st2 {ls : Array Slot} {n i : Nat} {v : Value} (h : LR L ls n) (hi : i + 1 < n) (hc : v.category = 2) (hn : noL L i = true) : ∃ ls', storeLocals ls i v = some ls' ∧ LR ((L.set (i + 1) none).set i (some v)) ls' n := by
  obtain ⟨hs, hw, hlen, hl⟩ := h
  obtain ⟨ls', e', h'⟩ := lv_store2 (v := v) (l := []) ⟨hs, hw, fun q hq => by cases hq⟩ hi hc
  refine ⟨ls', e', h'.1, h'.2.1, by rw [List.length_set, List.length_set]; exact hlen, fun j w hj => ?_⟩
  rw [List.getElem?_set, List.getElem?_set] at hj
  split at hj
  · rename_i hji
    subst hji
    split at hj
    · cases hj
      exact h'.2.2 (_, v) List.mem_cons_self
    · cases hj
  · rename_i hji
    split at hj
    · split at hj <;> cases hj
    · rename_i hji2
      obtain ⟨ls2, e2, h2⟩ := lv_store2 (v := v) (l := [(j, w)]) ⟨hs, hw, fun q hq => by
        have : q = (j, w) := by simpa using hq
        subst this; exact hl j w hj⟩ hi hc
      cases e'.symm.trans e2
      refine h2.2.2 (j, w) (List.mem_cons_of_mem _ ?_)
      rw [List.mem_filter]
      refine ⟨List.mem_cons_self, ?_⟩
      have h3 : ¬ (j + 1 = i ∧ w.category = 2) := by
        rintro ⟨rfl, hw2⟩
        simp only [noL, hj] at hn
        rw [hw2] at hn
        exact absurd hn (by decide)
      simp only [Bool.and_eq_true, Bool.not_eq_true', beq_eq_false_iff_ne, ne_eq, Bool.and_eq_false_iff]
      refine ⟨fun q => hji q.symm, fun q => hji2 q.symm, ?_⟩
      by_cases hq : j + 1 = i
      · exact Or.inr fun q => h3 ⟨hq, q⟩
      · exact Or.inl hq
theorem v_istore_n {k : Fin 4} {x : Int32} (hd : decode y.2.1 pc = .ok (.istore_n k, 1)) (hi : (k : Nat) < y.2.2.1) (hn : noL L (k : Nat) = true) (h : V g d y (pc + 1) (L.set (k : Nat) (some (.int x))) st A Φ) : V g d y pc L (.int x :: st) A Φ := by
  intro p l e R s m args below meth c z C H locs cells slots ls X
  have hexec := C.1
  have hb := C.2.1
  obtain ⟨ls', e', h'⟩ := X.1.st1 (v := .int x) hi rfl hn
  intro T hT Y
  obtain ⟨t, a, b⟩ := h p l e R s m args below meth c z C H locs cells slots ls' ⟨h', X.2⟩ T hT Y
  refine ⟨t, ?_, b⟩
  jvm_step Y.here [Y.here.top, ↓top_set Y.here.top, hexec, hb, hd, e', Value.isRef]
  exact a
theorem v_istore {k : Nat} {x : Int32} (hd : decode y.2.1 pc = .ok (.istore k, 2)) (hi : k < y.2.2.1) (hn : noL L k = true) (h : V g d y (pc + 2) (L.set k (some (.int x))) st A Φ) : V g d y pc L (.int x :: st) A Φ := by
  intro p l e R s m args below meth c z C H locs cells slots ls X
  have hexec := C.1
  have hb := C.2.1
  obtain ⟨ls', e', h'⟩ := X.1.st1 (v := .int x) hi rfl hn
  intro T hT Y
  obtain ⟨t, a, b⟩ := h p l e R s m args below meth c z C H locs cells slots ls' ⟨h', X.2⟩ T hT Y
  refine ⟨t, ?_, b⟩
  jvm_step Y.here [Y.here.top, ↓top_set Y.here.top, hexec, hb, hd, e', Value.isRef]
  exact a
theorem v_lstore_n {k : Fin 4} {x : Int64} (hd : decode y.2.1 pc = .ok (.lstore_n k, 1)) (hi : (k : Nat) + 1 < y.2.2.1) (hn : noL L (k : Nat) = true) (h : V g d y (pc + 1) ((L.set ((k : Nat) + 1) none).set (k : Nat) (some (.long x))) st A Φ) : V g d y pc L (.long x :: st) A Φ := by
  intro p l e R s m args below meth c z C H locs cells slots ls X
  have hexec := C.1
  have hb := C.2.1
  obtain ⟨ls', e', h'⟩ := X.1.st2 (v := .long x) hi rfl hn
  intro T hT Y
  obtain ⟨t, a, b⟩ := h p l e R s m args below meth c z C H locs cells slots ls' ⟨h', X.2⟩ T hT Y
  refine ⟨t, ?_, b⟩
  jvm_step Y.here [Y.here.top, ↓top_set Y.here.top, hexec, hb, hd, e', Value.isRef]
  exact a
theorem v_lstore {k : Nat} {x : Int64} (hd : decode y.2.1 pc = .ok (.lstore k, 2)) (hi : k + 1 < y.2.2.1) (hn : noL L k = true) (h : V g d y (pc + 2) ((L.set (k + 1) none).set k (some (.long x))) st A Φ) : V g d y pc L (.long x :: st) A Φ := by
  intro p l e R s m args below meth c z C H locs cells slots ls X
  have hexec := C.1
  have hb := C.2.1
  obtain ⟨ls', e', h'⟩ := X.1.st2 (v := .long x) hi rfl hn
  intro T hT Y
  obtain ⟨t, a, b⟩ := h p l e R s m args below meth c z C H locs cells slots ls' ⟨h', X.2⟩ T hT Y
  refine ⟨t, ?_, b⟩
  jvm_step Y.here [Y.here.top, ↓top_set Y.here.top, hexec, hb, hd, e', Value.isRef]
  exact a
theorem v_astore_n {k : Fin 4} {x : Nat} (hd : decode y.2.1 pc = .ok (.astore_n k, 1)) (hi : (k : Nat) < y.2.2.1) (hn : noL L (k : Nat) = true) (h : V g d y (pc + 1) (L.set (k : Nat) (some (.ref x))) st A Φ) : V g d y pc L (.ref x :: st) A Φ := by
  intro p l e R s m args below meth c z C H locs cells slots ls X
  have hexec := C.1
  have hb := C.2.1
  obtain ⟨ls', e', h'⟩ := X.1.st1 (v := .ref x) hi rfl hn
  intro T hT Y
  obtain ⟨t, a, b⟩ := h p l e R s m args below meth c z C H locs cells slots ls' ⟨h', X.2⟩ T hT Y
  refine ⟨t, ?_, b⟩
  jvm_step Y.here [Y.here.top, ↓top_set Y.here.top, hexec, hb, hd, e', Value.isRef]
  exact a
theorem v_astore {k : Nat} {x : Nat} (hd : decode y.2.1 pc = .ok (.astore k, 2)) (hi : k < y.2.2.1) (hn : noL L k = true) (h : V g d y (pc + 2) (L.set k (some (.ref x))) st A Φ) : V g d y pc L (.ref x :: st) A Φ := by
  intro p l e R s m args below meth c z C H locs cells slots ls X
  have hexec := C.1
  have hb := C.2.1
  obtain ⟨ls', e', h'⟩ := X.1.st1 (v := .ref x) hi rfl hn
  intro T hT Y
  obtain ⟨t, a, b⟩ := h p l e R s m args below meth c z C H locs cells slots ls' ⟨h', X.2⟩ T hT Y
  refine ⟨t, ?_, b⟩
  jvm_step Y.here [Y.here.top, ↓top_set Y.here.top, hexec, hb, hd, e', Value.isRef]
  exact a
theorem v_astoreN_n {k : Fin 4} (hd : decode y.2.1 pc = .ok (.astore_n k, 1)) (hi : (k : Nat) < y.2.2.1) (hn : noL L (k : Nat) = true) (h : V g d y (pc + 1) (L.set (k : Nat) (some (.null))) st A Φ) : V g d y pc L (.null :: st) A Φ := by
  intro p l e R s m args below meth c z C H locs cells slots ls X
  have hexec := C.1
  have hb := C.2.1
  obtain ⟨ls', e', h'⟩ := X.1.st1 (v := .null) hi rfl hn
  intro T hT Y
  obtain ⟨t, a, b⟩ := h p l e R s m args below meth c z C H locs cells slots ls' ⟨h', X.2⟩ T hT Y
  refine ⟨t, ?_, b⟩
  jvm_step Y.here [Y.here.top, ↓top_set Y.here.top, hexec, hb, hd, e', Value.isRef]
  exact a
theorem v_astoreN {k : Nat} (hd : decode y.2.1 pc = .ok (.astore k, 2)) (hi : k < y.2.2.1) (hn : noL L k = true) (h : V g d y (pc + 2) (L.set k (some (.null))) st A Φ) : V g d y pc L (.null :: st) A Φ := by
  intro p l e R s m args below meth c z C H locs cells slots ls X
  have hexec := C.1
  have hb := C.2.1
  obtain ⟨ls', e', h'⟩ := X.1.st1 (v := .null) hi rfl hn
  intro T hT Y
  obtain ⟨t, a, b⟩ := h p l e R s m args below meth c z C H locs cells slots ls' ⟨h', X.2⟩ T hT Y
  refine ⟨t, ?_, b⟩
  jvm_step Y.here [Y.here.top, ↓top_set Y.here.top, hexec, hb, hd, e', Value.isRef]
  exact a
theorem v_iinc {k : Nat} {n : Int} {x : Int32} (hd : decode y.2.1 pc = .ok (.iinc k n, 3)) (hl : L[k]? = some (some (.int x))) (hi : k < y.2.2.1) (hn : noL L k = true) (h : V g d y (pc + 3) (L.set k (some (.int (x + Int32.ofInt n)))) st A Φ) : V g d y pc L st A Φ := by
  intro p l e R s m args below meth c z C H locs cells slots ls X
  have hexec := C.1
  have hb := C.2.1
  have hg := X.1.2.2.2 _ _ hl
  obtain ⟨ls', e', h'⟩ := X.1.st1 (v := .int (x + Int32.ofInt n)) hi rfl hn
  intro T hT Y
  obtain ⟨t, a, b⟩ := h p l e R s m args below meth c z C H locs cells slots ls' ⟨h', X.2⟩ T hT Y
  refine ⟨t, ?_, b⟩
  jvm_step Y.here [Y.here.top, ↓top_set Y.here.top, hexec, hb, hd, hg, e']
  exact a
end VR
