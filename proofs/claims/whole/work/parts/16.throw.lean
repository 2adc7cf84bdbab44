/-! throwing a new exception: the walk's start is moved to where it stands, so that all that was there before is known to stay -/
theorem stand_rebase {p : Program} {l : Launch} {e : Env} {R : Room} {s : State} {m : MethodId} {args : Array Value} {below : List Frame} {meth : Method} {c : Code} {T : State} {locs : List Loc} {cells slots : Nat} (X : Stand p l e R s m args below meth c T locs cells slots) (hc : cells ≤ R.cells) (hs : slots ≤ R.slots) :
    Stand p l e { frames := R.frames, cells := R.cells - cells, slots := R.slots - slots, locals := R.locals } (T.setFrames (.invoking m args :: below)) m args below meth c T [] 0 0 := by
  obtain ⟨g₀, hg₀⟩ := X.frames_eq
  have hcur : T.cur < T.threads.size := State.cur_lt_of_frames hg₀
  have hfr : (T.setFrames (.invoking m args :: below)).frames = .invoking m args :: below := State.frames_setFrames _ hcur
  have hm : ∀ q, T.vm.method? q = s.vm.method? q := fun q => X.warmed.alike.method? q
  have hroom := X.room
  simp only [State.hasRoom, Bool.and_eq_true, decide_eq_true_eq] at hroom
  have hloc : (T.setFrames (.invoking m args :: below)).localsInUse = s.localsInUse := by
    rw [State.localsInUse_invoking hfr (meth := meth) (c := c) X.method' X.code, State.localsInUse_invoking X.frames X.method X.code]
  have hh := X.heapSize
  have hu := X.used
  have hlen : (T.setFrames (.invoking m args :: below)).frames.length = s.frames.length := by rw [hfr, X.frames]
  have hlim : e.platform.stackLimits (T.setFrames (.invoking m args :: below)).me = e.platform.stackLimits s.me := by rw [State.stackLimits_setFrames, X.limits]
  have hby : (T.setFrames (.invoking m args :: below)).me.stackBytes = s.me.stackBytes := by rw [State.stackBytes_setFrames, X.bytes]
  refine ⟨X.admits, X.cas, X.clock, hfr, ?_, ?_, X.method', X.code, X.here, X.tail, State.WarmedH.refl _, ?_, ?_, ?_⟩
  · simp only [State.hasRoom, Bool.and_eq_true, decide_eq_true_eq, hloc, hlen, hlim, hby]
    refine ⟨⟨⟨hroom.1.1.1, ?_⟩, ?_⟩, X.book⟩
    · show T.heap.size + (R.cells - cells) ≤ _
      have := hroom.1.1.2
      omega
    · show T.slotsUsed + (R.slots - slots) ≤ _
      have := hroom.1.2
      omega
  · have hh := X.hears
    cases below with
    | nil => simpa [State.hears, hm] using hh
    | cons f r => cases f <;> simp_all [State.hears, State.code?_eq]
  · rw [State.stackLimits_setFrames]
  · rw [State.stackBytes_setFrames]
  · obtain ⟨t, ht, -⟩ := State.frames_cons hfr
    have h := (State.sameButNew.refl (T.setFrames (.invoking m args :: below)) ht).setFrames T.frames (State.cur_lt_of_frames hfr)
    rw [State.setFrames_setFrames] at h
    obtain ⟨th, hth, -⟩ := State.frames_cons hg₀
    rw [State.setFrames_self hth] at h
    exact h
