/-! truth values that javac lays by a branch, 1, a jump and 0 -/
section VM
variable {g : Gx} {d : Nat} {y : MT} {pc : Nat} {L : Lo} {st : List Value} {A : AH} {Φ : Out → AH → Prop}
theorem v_mat_ieq {x w : Int32} {o1 o2 : Int} (hd : decode y.2.1 pc = .ok (.if_icmp .eq o1, 3)) (h1 : decode y.2.1 (pc + 3) = .ok (.iconst 1, 1)) (h2 : decode y.2.1 (pc + 4) = .ok (.goto o2, 3)) (h3 : decode y.2.1 (pc + 7) = .ok (.iconst 0, 1)) (e1 : o1 = 7) (e2 : o2 = 4)
    (h : V g d y (pc + 8) L (.int (b2i (!decide (x = w))) :: st) A Φ) : V g d y pc L (.int w :: .int x :: st) A Φ := by
  subst e1 e2
  refine v_icmp_eq (tgt := pc + 7) hd (by omega) (fun q => ?_) (fun q => ?_)
  · refine v_iconst (v := 0) h3 (by decide) ?_
    rw [show b2i (!decide (x = w)) = 0 by simp [q, b2i]] at h; exact h
  · refine v_iconst (v := 1) h1 (by decide) (v_goto (tgt := pc + 8) h2 (by omega) ?_)
    rw [show b2i (!decide (x = w)) = 1 by simp [q, b2i]] at h; exact h
theorem v_mat_ilt {x w : Int32} {o1 o2 : Int} (hd : decode y.2.1 pc = .ok (.if_icmp .lt o1, 3)) (h1 : decode y.2.1 (pc + 3) = .ok (.iconst 1, 1)) (h2 : decode y.2.1 (pc + 4) = .ok (.goto o2, 3)) (h3 : decode y.2.1 (pc + 7) = .ok (.iconst 0, 1)) (e1 : o1 = 7) (e2 : o2 = 4)
    (h : V g d y (pc + 8) L (.int (b2i (!decide (x < w))) :: st) A Φ) : V g d y pc L (.int w :: .int x :: st) A Φ := by
  subst e1 e2
  refine v_icmp_lt (tgt := pc + 7) hd (by omega) (fun q => ?_) (fun q => ?_)
  · refine v_iconst (v := 0) h3 (by decide) ?_
    rw [show b2i (!decide (x < w)) = 0 by simp [q, b2i]] at h; exact h
  · refine v_iconst (v := 1) h1 (by decide) (v_goto (tgt := pc + 8) h2 (by omega) ?_)
    rw [show b2i (!decide (x < w)) = 1 by simp [q, b2i]] at h; exact h
theorem v_mat_ige {x w : Int32} {o1 o2 : Int} (hd : decode y.2.1 pc = .ok (.if_icmp .ge o1, 3)) (h1 : decode y.2.1 (pc + 3) = .ok (.iconst 1, 1)) (h2 : decode y.2.1 (pc + 4) = .ok (.goto o2, 3)) (h3 : decode y.2.1 (pc + 7) = .ok (.iconst 0, 1)) (e1 : o1 = 7) (e2 : o2 = 4)
    (h : V g d y (pc + 8) L (.int (b2i (!decide (w ≤ x))) :: st) A Φ) : V g d y pc L (.int w :: .int x :: st) A Φ := by
  subst e1 e2
  refine v_icmp_ge (tgt := pc + 7) hd (by omega) (fun q => ?_) (fun q => ?_)
  · refine v_iconst (v := 0) h3 (by decide) ?_
    rw [show b2i (!decide (w ≤ x)) = 0 by simp [q, b2i]] at h; exact h
  · refine v_iconst (v := 1) h1 (by decide) (v_goto (tgt := pc + 8) h2 (by omega) ?_)
    rw [show b2i (!decide (w ≤ x)) = 1 by simp [q, b2i]] at h; exact h
theorem v_mat_igt {x w : Int32} {o1 o2 : Int} (hd : decode y.2.1 pc = .ok (.if_icmp .gt o1, 3)) (h1 : decode y.2.1 (pc + 3) = .ok (.iconst 1, 1)) (h2 : decode y.2.1 (pc + 4) = .ok (.goto o2, 3)) (h3 : decode y.2.1 (pc + 7) = .ok (.iconst 0, 1)) (e1 : o1 = 7) (e2 : o2 = 4)
    (h : V g d y (pc + 8) L (.int (b2i (!decide (w < x))) :: st) A Φ) : V g d y pc L (.int w :: .int x :: st) A Φ := by
  subst e1 e2
  refine v_icmp_gt (tgt := pc + 7) hd (by omega) (fun q => ?_) (fun q => ?_)
  · refine v_iconst (v := 0) h3 (by decide) ?_
    rw [show b2i (!decide (w < x)) = 0 by simp [q, b2i]] at h; exact h
  · refine v_iconst (v := 1) h1 (by decide) (v_goto (tgt := pc + 8) h2 (by omega) ?_)
    rw [show b2i (!decide (w < x)) = 1 by simp [q, b2i]] at h; exact h
theorem v_mat_ile {x w : Int32} {o1 o2 : Int} (hd : decode y.2.1 pc = .ok (.if_icmp .le o1, 3)) (h1 : decode y.2.1 (pc + 3) = .ok (.iconst 1, 1)) (h2 : decode y.2.1 (pc + 4) = .ok (.goto o2, 3)) (h3 : decode y.2.1 (pc + 7) = .ok (.iconst 0, 1)) (e1 : o1 = 7) (e2 : o2 = 4)
    (h : V g d y (pc + 8) L (.int (b2i (!decide (x ≤ w))) :: st) A Φ) : V g d y pc L (.int w :: .int x :: st) A Φ := by
  subst e1 e2
  refine v_icmp_le (tgt := pc + 7) hd (by omega) (fun q => ?_) (fun q => ?_)
  · refine v_iconst (v := 0) h3 (by decide) ?_
    rw [show b2i (!decide (x ≤ w)) = 0 by simp [q, b2i]] at h; exact h
  · refine v_iconst (v := 1) h1 (by decide) (v_goto (tgt := pc + 8) h2 (by omega) ?_)
    rw [show b2i (!decide (x ≤ w)) = 1 by simp [q, b2i]] at h; exact h
theorem v_mat_ine {x w : Int32} {o1 o2 : Int} (hd : decode y.2.1 pc = .ok (.if_icmp .ne o1, 3)) (h1 : decode y.2.1 (pc + 3) = .ok (.iconst 1, 1)) (h2 : decode y.2.1 (pc + 4) = .ok (.goto o2, 3)) (h3 : decode y.2.1 (pc + 7) = .ok (.iconst 0, 1)) (e1 : o1 = 7) (e2 : o2 = 4)
    (h : V g d y (pc + 8) L (.int (b2i (decide (x = w))) :: st) A Φ) : V g d y pc L (.int w :: .int x :: st) A Φ := by
  subst e1 e2
  refine v_icmp_ne (tgt := pc + 7) hd (by omega) (fun q => ?_) (fun q => ?_)
  · refine v_iconst (v := 0) h3 (by decide) ?_
    rw [show b2i (decide (x = w)) = 0 by simp [q, b2i]] at h; exact h
  · refine v_iconst (v := 1) h1 (by decide) (v_goto (tgt := pc + 8) h2 (by omega) ?_)
    rw [show b2i (decide (x = w)) = 1 by simp [q, b2i]] at h; exact h
theorem v_mat_lle {a b : Int64} {o1 o2 : Int} (hd0 : decode y.2.1 pc = .ok (.lcmp, 1)) (hd : decode y.2.1 (pc + 1) = .ok (.ifCond .le o1, 3)) (h1 : decode y.2.1 (pc + 1 + 3) = .ok (.iconst 1, 1)) (h2 : decode y.2.1 (pc + 1 + 4) = .ok (.goto o2, 3)) (h3 : decode y.2.1 (pc + 1 + 7) = .ok (.iconst 0, 1)) (e1 : o1 = 7) (e2 : o2 = 4)
    (h : V g d y (pc + 1 + 8) L (.int (b2i (!decide (a ≤ b))) :: st) A Φ) : V g d y pc L (.long b :: .long a :: st) A Φ := by
  subst e1 e2
  refine v_lcmp_le (tgt := pc + 1 + 7) hd0 hd (by omega) (fun q => ?_) (fun q => ?_)
  · refine v_iconst (v := 0) h3 (by decide) ?_
    rw [show b2i (!decide (a ≤ b)) = 0 by simp [q, b2i]] at h; exact h
  · refine v_iconst (v := 1) h1 (by decide) (v_goto (tgt := pc + 1 + 8) h2 (by omega) ?_)
    rw [show b2i (!decide (a ≤ b)) = 1 by simp [q, b2i]] at h; exact h
theorem v_mat_lgt {a b : Int64} {o1 o2 : Int} (hd0 : decode y.2.1 pc = .ok (.lcmp, 1)) (hd : decode y.2.1 (pc + 1) = .ok (.ifCond .gt o1, 3)) (h1 : decode y.2.1 (pc + 1 + 3) = .ok (.iconst 1, 1)) (h2 : decode y.2.1 (pc + 1 + 4) = .ok (.goto o2, 3)) (h3 : decode y.2.1 (pc + 1 + 7) = .ok (.iconst 0, 1)) (e1 : o1 = 7) (e2 : o2 = 4)
    (h : V g d y (pc + 1 + 8) L (.int (b2i (!decide (b < a))) :: st) A Φ) : V g d y pc L (.long b :: .long a :: st) A Φ := by
  subst e1 e2
  refine v_lcmp_gt (tgt := pc + 1 + 7) hd0 hd (by omega) (fun q => ?_) (fun q => ?_)
  · refine v_iconst (v := 0) h3 (by decide) ?_
    rw [show b2i (!decide (b < a)) = 0 by simp [q, b2i]] at h; exact h
  · refine v_iconst (v := 1) h1 (by decide) (v_goto (tgt := pc + 1 + 8) h2 (by omega) ?_)
    rw [show b2i (!decide (b < a)) = 1 by simp [q, b2i]] at h; exact h
theorem v_mat_llt {a b : Int64} {o1 o2 : Int} (hd0 : decode y.2.1 pc = .ok (.lcmp, 1)) (hd : decode y.2.1 (pc + 1) = .ok (.ifCond .lt o1, 3)) (h1 : decode y.2.1 (pc + 1 + 3) = .ok (.iconst 1, 1)) (h2 : decode y.2.1 (pc + 1 + 4) = .ok (.goto o2, 3)) (h3 : decode y.2.1 (pc + 1 + 7) = .ok (.iconst 0, 1)) (e1 : o1 = 7) (e2 : o2 = 4)
    (h : V g d y (pc + 1 + 8) L (.int (b2i (!decide (a < b))) :: st) A Φ) : V g d y pc L (.long b :: .long a :: st) A Φ := by
  subst e1 e2
  refine v_lcmp_lt (tgt := pc + 1 + 7) hd0 hd (by omega) (fun q => ?_) (fun q => ?_)
  · refine v_iconst (v := 0) h3 (by decide) ?_
    rw [show b2i (!decide (a < b)) = 0 by simp [q, b2i]] at h; exact h
  · refine v_iconst (v := 1) h1 (by decide) (v_goto (tgt := pc + 1 + 8) h2 (by omega) ?_)
    rw [show b2i (!decide (a < b)) = 1 by simp [q, b2i]] at h; exact h
theorem v_mat_lge {a b : Int64} {o1 o2 : Int} (hd0 : decode y.2.1 pc = .ok (.lcmp, 1)) (hd : decode y.2.1 (pc + 1) = .ok (.ifCond .ge o1, 3)) (h1 : decode y.2.1 (pc + 1 + 3) = .ok (.iconst 1, 1)) (h2 : decode y.2.1 (pc + 1 + 4) = .ok (.goto o2, 3)) (h3 : decode y.2.1 (pc + 1 + 7) = .ok (.iconst 0, 1)) (e1 : o1 = 7) (e2 : o2 = 4)
    (h : V g d y (pc + 1 + 8) L (.int (b2i (!decide (b ≤ a))) :: st) A Φ) : V g d y pc L (.long b :: .long a :: st) A Φ := by
  subst e1 e2
  refine v_lcmp_ge (tgt := pc + 1 + 7) hd0 hd (by omega) (fun q => ?_) (fun q => ?_)
  · refine v_iconst (v := 0) h3 (by decide) ?_
    rw [show b2i (!decide (b ≤ a)) = 0 by simp [q, b2i]] at h; exact h
  · refine v_iconst (v := 1) h1 (by decide) (v_goto (tgt := pc + 1 + 8) h2 (by omega) ?_)
    rw [show b2i (!decide (b ≤ a)) = 1 by simp [q, b2i]] at h; exact h
theorem v_mat_not {b : Bool} {o1 o2 : Int} (hd : decode y.2.1 pc = .ok (.ifCond .ne o1, 3)) (h1 : decode y.2.1 (pc + 3) = .ok (.iconst 1, 1)) (h2 : decode y.2.1 (pc + 4) = .ok (.goto o2, 3)) (h3 : decode y.2.1 (pc + 7) = .ok (.iconst 0, 1)) (e1 : o1 = 7) (e2 : o2 = 4)
    (h : V g d y (pc + 8) L (.int (b2i (!b)) :: st) A Φ) : V g d y pc L (.int (b2i b) :: st) A Φ := by
  subst e1 e2
  refine v_ifneB (tgt := pc + 7) hd (by omega) (fun q => ?_) (fun q => ?_)
  · subst q; exact v_iconst (v := 0) h3 (by decide) h
  · subst q; exact v_iconst (v := 1) h1 (by decide) (v_goto (tgt := pc + 8) h2 (by omega) h)
theorem v_icmp_eqB {a b : Bool} {off : Int} {tgt : Nat} (hd : decode y.2.1 pc = .ok (.if_icmp .eq off, 3)) (ht : (pc : Int) + off = (tgt : Int)) (kt : a = b → V g d y tgt L st A Φ) (kf : ¬ a = b → V g d y (pc + 3) L st A Φ) : V g d y pc L (.int (b2i b) :: .int (b2i a) :: st) A Φ :=
  v_icmp_eq hd ht (fun q => kt (by cases a <;> cases b <;> first | rfl | exact absurd q (by decide))) (fun q => kf (fun z => q (by rw [z])))
theorem v_icmp_neB {a b : Bool} {off : Int} {tgt : Nat} (hd : decode y.2.1 pc = .ok (.if_icmp .ne off, 3)) (ht : (pc : Int) + off = (tgt : Int)) (kt : ¬ a = b → V g d y tgt L st A Φ) (kf : a = b → V g d y (pc + 3) L st A Φ) : V g d y pc L (.int (b2i b) :: .int (b2i a) :: st) A Φ :=
  v_icmp_ne hd ht (fun q => kt (fun z => q (by rw [z]))) (fun q => kf (by cases a <;> cases b <;> first | rfl | exact absurd q (by decide)))
end VM
