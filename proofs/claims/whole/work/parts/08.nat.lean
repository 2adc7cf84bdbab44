/-! rules where the ints are counted by Nat, and truth values -/
def b2i (b : Bool) : Int32 := if b then 1 else 0
theorem b2i_narrow (b : Bool) : narrow .boolean (.int (b2i b)) = .int (b2i b) := by cases b <;> rfl
theorem b2i_fits (b : Bool) : fits .boolean (.int (b2i b)) = true := by cases b <;> rfl
theorem b2i_zero {b : Bool} : b2i b = 0 ↔ b = false := by cases b <;> decide
section VN
variable {g : Gx} {d : Nat} {y : MT} {pc : Nat} {L : Lo} {st : List Value} {A : AH} {Φ : Out → AH → Prop}
theorem rt_f {b : Bool} (h : b = false) : Rt (some (.int (b2i b))) A (.inl (some (.int 0))) A := by subst h; exact rt_ret
theorem rt_t {b : Bool} (h : b = true) : Rt (some (.int (b2i b))) A (.inl (some (.int 1))) A := by subst h; exact rt_ret
theorem rt_of {v v' : Value} (h : v = v') : Rt (some v') A (.inl (some v)) A := by subst h; exact rt_ret
theorem v_ialdN {j a n : Nat} {vs : List Value} {v : Value} (hd : decode y.2.1 pc = .ok (.iaload, 1)) (hA : A.1 a = some (100 + j, vs)) (hj : j < 100) (ht : (gT g)[j]? = some .int) (hn : n < 2 ^ 31) (hv : vs[n]? = some v) (h : V g d y (pc + 1) L (v :: st) A Φ) : V g d y pc L (.int (nI n) :: .ref a :: st) A Φ :=
  v_iald hd hA hj ht (nI_pos hn) (by rw [nI_clamp hn]; exact hv) h
theorem v_zaldN {j a n : Nat} {vs : List Value} {v : Value} (hd : decode y.2.1 pc = .ok (.baload, 1)) (hA : A.1 a = some (100 + j, vs)) (hj : j < 100) (ht : (gT g)[j]? = some .boolean) (hn : n < 2 ^ 31) (hv : vs[n]? = some v) (h : V g d y (pc + 1) L (v :: st) A Φ) : V g d y pc L (.int (nI n) :: .ref a :: st) A Φ :=
  v_zald hd hA hj ht (nI_pos hn) (by rw [nI_clamp hn]; exact hv) h
theorem v_aaldN {j a n : Nat} {vs : List Value} {v : Value} {ty : FieldType} (hd : decode y.2.1 pc = .ok (.aaload, 1)) (hA : A.1 a = some (100 + j, vs)) (hj : j < 100) (ht : (gT g)[j]? = some ty) (href : ty.isReference = true) (hn : n < 2 ^ 31) (hv : vs[n]? = some v) (h : V g d y (pc + 1) L (v :: st) A Φ) : V g d y pc L (.int (nI n) :: .ref a :: st) A Φ :=
  v_aald hd hA hj ht href (nI_pos hn) (by rw [nI_clamp hn]; exact hv) h
theorem v_iastN {j a n : Nat} {vs : List Value} {x : Int32} (hd : decode y.2.1 pc = .ok (.iastore, 1)) (hA : A.1 a = some (100 + j, vs)) (hj : j < 100) (ht : (gT g)[j]? = some .int) (hn : n < 2 ^ 31) (hlt : n < vs.length) (h : V g d y (pc + 1) L st (aset A a (100 + j, vs.set n (.int x))) Φ) : V g d y pc L (.int x :: .int (nI n) :: .ref a :: st) A Φ :=
  v_iast hd hA hj ht (nI_pos hn) (by rw [nI_clamp hn]; exact hlt) (by rw [nI_clamp hn]; exact h)
theorem v_zastN {j a n : Nat} {vs : List Value} {x : Int32} (hd : decode y.2.1 pc = .ok (.bastore, 1)) (hA : A.1 a = some (100 + j, vs)) (hj : j < 100) (ht : (gT g)[j]? = some .boolean) (hn : n < 2 ^ 31) (hlt : n < vs.length) (hx2 : narrow .boolean (.int x) = .int x) (h : V g d y (pc + 1) L st (aset A a (100 + j, vs.set n (.int x))) Φ) : V g d y pc L (.int x :: .int (nI n) :: .ref a :: st) A Φ :=
  v_zast hd hA hj ht (nI_pos hn) (by rw [nI_clamp hn]; exact hlt) hx2 (by rw [nI_clamp hn]; exact h)
theorem v_aastN {j kv a b n : Nat} {vs fv : List Value} (hd : decode y.2.1 pc = .ok (.aastore, 1)) (hs : AS (gW g) (gC g) (gT g) j kv) (hA : A.1 a = some (100 + j, vs)) (hB : A.1 b = some (kv, fv)) (hn : n < 2 ^ 31) (hlt : n < vs.length) (h : V g d y (pc + 1) L st (aset A a (100 + j, vs.set n (.ref b))) Φ) : V g d y pc L (.ref b :: .int (nI n) :: .ref a :: st) A Φ :=
  v_aast hd hs hA hB (nI_pos hn) (by rw [nI_clamp hn]; exact hlt) (by rw [nI_clamp hn]; exact h)
theorem v_iaddN {a b : Nat} (hd : decode y.2.1 pc = .ok (.iadd, 1)) (h : V g d y (pc + 1) L (.int (nI (a + b)) :: st) A Φ) : V g d y pc L (.int (nI b) :: .int (nI a) :: st) A Φ := v_iadd hd (by rw [nI_add]; exact h)
theorem v_imulN {a b : Nat} (hd : decode y.2.1 pc = .ok (.imul, 1)) (h : V g d y (pc + 1) L (.int (nI (a * b)) :: st) A Φ) : V g d y pc L (.int (nI b) :: .int (nI a) :: st) A Φ := v_imul hd (by rw [pk_mul]; exact h)
theorem v_isubN {a b : Nat} (hd : decode y.2.1 pc = .ok (.isub, 1)) (hab : b ≤ a) (h : V g d y (pc + 1) L (.int (nI (a - b)) :: st) A Φ) : V g d y pc L (.int (nI b) :: .int (nI a) :: st) A Φ := v_isub hd (by rw [pk_sub hab]; exact h)
theorem v_iincN {k x : Nat} (hd : decode y.2.1 pc = .ok (.iinc k 1, 3)) (hl : L[k]? = some (some (.int (nI x)))) (hi : k < y.2.2.1) (hn : noL L k = true) (h : V g d y (pc + 3) (L.set k (some (.int (nI (x + 1))))) st A Φ) : V g d y pc L st A Φ := v_iinc hd hl hi hn (by rw [nI_succ] at h; exact h)
theorem v_iincM {k x : Nat} (hd : decode y.2.1 pc = .ok (.iinc k (-1), 3)) (hl : L[k]? = some (some (.int (nI (x + 1))))) (hi : k < y.2.2.1) (hn : noL L k = true) (h : V g d y (pc + 3) (L.set k (some (.int (nI x)))) st A Φ) : V g d y pc L st A Φ := v_iinc hd hl hi hn (by
  have e : nI (x + 1) + Int32.ofInt (-1) = nI x := pk_m1 x
  rw [e]; exact h)
theorem v_icmp_geN {x w : Nat} {off : Int} {tgt : Nat} (hd : decode y.2.1 pc = .ok (.if_icmp .ge off, 3)) (ht : (pc : Int) + off = (tgt : Int)) (hx : x < 2 ^ 31) (hw : w < 2 ^ 31) (kt : w ≤ x → V g d y tgt L st A Φ) (kf : x < w → V g d y (pc + 3) L st A Φ) : V g d y pc L (.int (nI w) :: .int (nI x) :: st) A Φ :=
  v_icmp_ge hd ht (fun q => kt ((nI_leI hw hx).mp q)) (fun q => kf (Nat.lt_of_not_le (fun z => q ((nI_leI hw hx).mpr z))))
theorem v_icmp_gtN {x w : Nat} {off : Int} {tgt : Nat} (hd : decode y.2.1 pc = .ok (.if_icmp .gt off, 3)) (ht : (pc : Int) + off = (tgt : Int)) (hx : x < 2 ^ 31) (hw : w < 2 ^ 31) (kt : w < x → V g d y tgt L st A Φ) (kf : x ≤ w → V g d y (pc + 3) L st A Φ) : V g d y pc L (.int (nI w) :: .int (nI x) :: st) A Φ :=
  v_icmp_gt hd ht (fun q => kt ((nI_ltI hw hx).mp q)) (fun q => kf (Nat.le_of_not_lt (fun z => q ((nI_ltI hw hx).mpr z))))
theorem v_icmp_ltN {x w : Nat} {off : Int} {tgt : Nat} (hd : decode y.2.1 pc = .ok (.if_icmp .lt off, 3)) (ht : (pc : Int) + off = (tgt : Int)) (hx : x < 2 ^ 31) (hw : w < 2 ^ 31) (kt : x < w → V g d y tgt L st A Φ) (kf : w ≤ x → V g d y (pc + 3) L st A Φ) : V g d y pc L (.int (nI w) :: .int (nI x) :: st) A Φ :=
  v_icmp_lt hd ht (fun q => kt ((nI_ltI hx hw).mp q)) (fun q => kf (Nat.le_of_not_lt (fun z => q ((nI_ltI hx hw).mpr z))))
theorem v_icmp_leN {x w : Nat} {off : Int} {tgt : Nat} (hd : decode y.2.1 pc = .ok (.if_icmp .le off, 3)) (ht : (pc : Int) + off = (tgt : Int)) (hx : x < 2 ^ 31) (hw : w < 2 ^ 31) (kt : x ≤ w → V g d y tgt L st A Φ) (kf : w < x → V g d y (pc + 3) L st A Φ) : V g d y pc L (.int (nI w) :: .int (nI x) :: st) A Φ :=
  v_icmp_le hd ht (fun q => kt ((nI_leI hx hw).mp q)) (fun q => kf (Nat.lt_of_not_le (fun z => q ((nI_leI hx hw).mpr z))))
theorem v_icmp_eqN {x w : Nat} {off : Int} {tgt : Nat} (hd : decode y.2.1 pc = .ok (.if_icmp .eq off, 3)) (ht : (pc : Int) + off = (tgt : Int)) (hx : x < 2 ^ 31) (hw : w < 2 ^ 31) (kt : x = w → V g d y tgt L st A Φ) (kf : ¬ x = w → V g d y (pc + 3) L st A Φ) : V g d y pc L (.int (nI w) :: .int (nI x) :: st) A Φ :=
  v_icmp_eq hd ht (fun q => kt ((nI_eq hx hw).mp q)) (fun q => kf (id (fun z => q ((nI_eq hx hw).mpr z))))
theorem v_icmp_neN {x w : Nat} {off : Int} {tgt : Nat} (hd : decode y.2.1 pc = .ok (.if_icmp .ne off, 3)) (ht : (pc : Int) + off = (tgt : Int)) (hx : x < 2 ^ 31) (hw : w < 2 ^ 31) (kt : ¬ x = w → V g d y tgt L st A Φ) (kf : x = w → V g d y (pc + 3) L st A Φ) : V g d y pc L (.int (nI w) :: .int (nI x) :: st) A Φ :=
  v_icmp_ne hd ht (fun q => kt (fun z => q ((nI_eq hx hw).mpr z))) (fun q => kf ((nI_eq hx hw).mp q))
theorem v_ifeqB {b : Bool} {off : Int} {tgt : Nat} (hd : decode y.2.1 pc = .ok (.ifCond .eq off, 3)) (ht : (pc : Int) + off = (tgt : Int)) (kt : b = false → V g d y tgt L st A Φ) (kf : b = true → V g d y (pc + 3) L st A Φ) : V g d y pc L (.int (b2i b) :: st) A Φ :=
  v_if_eq hd ht (fun q => kt (b2i_zero.mp q)) (fun q => kf (by cases b with | true => rfl | false => exact absurd rfl q))
theorem v_ifneB {b : Bool} {off : Int} {tgt : Nat} (hd : decode y.2.1 pc = .ok (.ifCond .ne off, 3)) (ht : (pc : Int) + off = (tgt : Int)) (kt : b = true → V g d y tgt L st A Φ) (kf : b = false → V g d y (pc + 3) L st A Φ) : V g d y pc L (.int (b2i b) :: st) A Φ :=
  v_if_ne hd ht (fun q => kt (by cases b with | true => rfl | false => exact absurd rfl q)) (fun q => kf (b2i_zero.mp q))
theorem v_zretB {b : Bool} (hd : decode y.2.1 pc = .ok (.ireturn, 1)) (hr : y.2.2.2.1 = some .boolean) (h : Φ (.inl (some (.int (b2i b)))) A) : V g d y pc L [.int (b2i b)] A Φ := v_zret hd hr (b2i_narrow b) h
theorem v_lcmp_eq {a b : Int64} {off : Int} {tgt : Nat} (hd : decode y.2.1 pc = .ok (.lcmp, 1)) (hd2 : decode y.2.1 (pc + 1) = .ok (.ifCond .eq off, 3)) (ht : ((pc + 1 : Nat) : Int) + off = (tgt : Int)) (kt : a = b → V g d y tgt L st A Φ) (kf : ¬ a = b → V g d y (pc + 1 + 3) L st A Φ) : V g d y pc L (.long b :: .long a :: st) A Φ :=
  v_lcmp hd (v_if_eq hd2 ht (fun q => kt ((lg_cmp_eq a b).mp q)) (fun q => kf (fun z => q ((lg_cmp_eq a b).mpr z))))
theorem v_lcmp_lt {a b : Int64} {off : Int} {tgt : Nat} (hd : decode y.2.1 pc = .ok (.lcmp, 1)) (hd2 : decode y.2.1 (pc + 1) = .ok (.ifCond .lt off, 3)) (ht : ((pc + 1 : Nat) : Int) + off = (tgt : Int)) (kt : a < b → V g d y tgt L st A Φ) (kf : ¬ a < b → V g d y (pc + 1 + 3) L st A Φ) : V g d y pc L (.long b :: .long a :: st) A Φ :=
  v_lcmp hd (v_if_lt hd2 ht (fun q => kt ((lg_cmp_lt a b).mp q)) (fun q => kf (fun z => q ((lg_cmp_lt a b).mpr z))))
theorem v_lcmp_ge {a b : Int64} {off : Int} {tgt : Nat} (hd : decode y.2.1 pc = .ok (.lcmp, 1)) (hd2 : decode y.2.1 (pc + 1) = .ok (.ifCond .ge off, 3)) (ht : ((pc + 1 : Nat) : Int) + off = (tgt : Int)) (kt : b ≤ a → V g d y tgt L st A Φ) (kf : ¬ b ≤ a → V g d y (pc + 1 + 3) L st A Φ) : V g d y pc L (.long b :: .long a :: st) A Φ :=
  v_lcmp hd (v_if_ge hd2 ht (fun q => kt ((lg_cmp_ge a b).mp q)) (fun q => kf (fun z => q ((lg_cmp_ge a b).mpr z))))
theorem v_lcmp_gt {a b : Int64} {off : Int} {tgt : Nat} (hd : decode y.2.1 pc = .ok (.lcmp, 1)) (hd2 : decode y.2.1 (pc + 1) = .ok (.ifCond .gt off, 3)) (ht : ((pc + 1 : Nat) : Int) + off = (tgt : Int)) (kt : b < a → V g d y tgt L st A Φ) (kf : ¬ b < a → V g d y (pc + 1 + 3) L st A Φ) : V g d y pc L (.long b :: .long a :: st) A Φ :=
  v_lcmp hd (v_if_gt hd2 ht (fun q => kt ((lg_cmp_gt a b).mp q)) (fun q => kf (fun z => q ((lg_cmp_gt a b).mpr z))))
theorem v_lcmp_le {a b : Int64} {off : Int} {tgt : Nat} (hd : decode y.2.1 pc = .ok (.lcmp, 1)) (hd2 : decode y.2.1 (pc + 1) = .ok (.ifCond .le off, 3)) (ht : ((pc + 1 : Nat) : Int) + off = (tgt : Int)) (kt : a ≤ b → V g d y tgt L st A Φ) (kf : ¬ a ≤ b → V g d y (pc + 1 + 3) L st A Φ) : V g d y pc L (.long b :: .long a :: st) A Φ :=
  v_lcmp hd (v_if_le hd2 ht (fun q => kt ((lg_cmp_le a b).mp q)) (fun q => kf (fun z => q ((lg_cmp_le a b).mpr z))))
theorem v_lcmp_ne {a b : Int64} {off : Int} {tgt : Nat} (hd : decode y.2.1 pc = .ok (.lcmp, 1)) (hd2 : decode y.2.1 (pc + 1) = .ok (.ifCond .ne off, 3)) (ht : ((pc + 1 : Nat) : Int) + off = (tgt : Int)) (kt : ¬ a = b → V g d y tgt L st A Φ) (kf : a = b → V g d y (pc + 1 + 3) L st A Φ) : V g d y pc L (.long b :: .long a :: st) A Φ :=
  v_lcmp hd (v_if_ne hd2 ht (fun q => kt (fun z => q ((lg_cmp_eq a b).mpr z))) (fun q => kf ((lg_cmp_eq a b).mp q)))
end VN
