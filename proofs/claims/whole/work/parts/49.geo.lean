/-! geometry: the class and the model agree where coordinates are at most 1000 -/
theorem sq_nn (x : Int) : 0 ≤ x * x := by
  rcases Int.le_total 0 x with h | h
  · exact Int.mul_nonneg h h
  · exact Int.mul_nonneg_of_nonpos_of_nonpos h h
theorem sq_z {x : Int} (h : x * x ≤ 0) : x = 0 := by
  have := sq_nn x
  have h2 : x * x = 0 := by omega
  rcases Int.mul_eq_zero.mp h2 with h | h <;> exact h
/-- two parallel vectors with dot <= 0: both products <= 0 -/
theorem par_le {px py qx qy : Int} (h : px * qy = py * qx) (hd : px * qx + py * qy ≤ 0) : px * qx ≤ 0 ∧ py * qy ≤ 0 := by
  have h1 : (px * qx) * (py * qy) = (px * qy) * (px * qy) := by grind
  have h2 := sq_nn (px * qy)
  constructor
  · apply Int.not_lt.mp
    intro h3
    have h4 : py * qy < 0 := by omega
    have := Int.mul_neg_of_pos_of_neg h3 h4
    omega
  · apply Int.not_lt.mp
    intro h3
    have h4 : px * qx < 0 := by omega
    have := Int.mul_neg_of_neg_of_pos h4 h3
    omega
theorem par_ge {px py qx qy : Int} (h : px * qy = py * qx) (hd : 0 < px * qx + py * qy) : 0 ≤ px * qx ∧ 0 ≤ py * qy := by
  have h1 : (px * qx) * (py * qy) = (px * qy) * (px * qy) := by grind
  have h2 := sq_nn (px * qy)
  constructor
  · apply Int.not_lt.mp
    intro h3
    have h4 : 0 < py * qy := by omega
    have := Int.mul_neg_of_neg_of_pos h3 h4
    omega
  · apply Int.not_lt.mp
    intro h3
    have h4 : 0 < px * qx := by omega
    have := Int.mul_neg_of_pos_of_neg h4 h3
    omega
/-- a point between two others: they lie on both sides of every line through it -/
theorem par_sides {px py qx qy dx dy : Int} (h : px * qy = py * qx) (hd : px * qx + py * qy ≤ 0) : (dx * py - dy * px) * (dx * qy - dy * qx) ≤ 0 := by
  obtain ⟨h1, h2⟩ := par_le h hd
  have e : (dx * py - dy * px) * (dx * qy - dy * qx) = dx * dx * (py * qy) + dy * dy * (px * qx) - 2 * (dx * dy) * (px * qy) := by grind
  rcases Int.lt_or_eq_of_le h1 with h3 | h3
  · apply Int.not_lt.mp
    intro h4
    have h5 := Int.mul_neg_of_neg_of_pos h3 h4
    have h6 := sq_nn (dx * (px * qy) - dy * (px * qx))
    have h7 : (px * qx) * ((dx * py - dy * px) * (dx * qy - dy * qx)) = (dx * (px * qy) - dy * (px * qx)) * (dx * (px * qy) - dy * (px * qx)) := by grind
    omega
  · have h4 : px * qy = 0 := by
      apply sq_z
      have : (px * qy) * (px * qy) = (px * qx) * (py * qy) := by grind
      rw [this, h3]; simp
    rw [e, h3, h4]
    have := Int.mul_nonpos_of_nonneg_of_nonpos (sq_nn dx) h2
    omega
/-- ... and the other way, unless it is all one line -/
theorem sides_par {px py qx qy dx dy : Int} (h : px * qy = py * qx) (hs : (dx * py - dy * px) * (dx * qy - dy * qx) ≤ 0) (hn : dx * (qy - py) - dy * (qx - px) ≠ 0) : px * qx + py * qy ≤ 0 := by
  apply Int.not_lt.mp
  intro h0
  obtain ⟨h1, h2⟩ := par_ge h h0
  have hE : (dx * py - dy * px) * (dx * qy - dy * qx) = 0 := by
    rcases Int.lt_or_eq_of_le h1 with h3 | h3
    · have h7 : (px * qx) * ((dx * py - dy * px) * (dx * qy - dy * qx)) = (dx * (px * qy) - dy * (px * qx)) * (dx * (px * qy) - dy * (px * qx)) := by grind
      have h6 := sq_nn (dx * (px * qy) - dy * (px * qx))
      rcases Int.lt_or_eq_of_le hs with h8 | h8
      · have := Int.mul_neg_of_pos_of_neg h3 h8
        omega
      · exact h8
    · have h4 : px * qy = 0 := by
        apply sq_z
        have : (px * qy) * (px * qy) = (px * qx) * (py * qy) := by grind
        rw [this, ← h3]; simp
      have e : (dx * py - dy * px) * (dx * qy - dy * qx) = dx * dx * (py * qy) + dy * dy * (px * qx) - 2 * (dx * dy) * (px * qy) := by grind
      have := Int.mul_nonneg (sq_nn dx) h2
      rw [e, ← h3, h4] at hs ⊢
      omega
  rcases Int.mul_eq_zero.mp hE with h3 | h3
  · -- d x p = 0, so p = 0
    have h4 : dx * qy - dy * qx ≠ 0 := by
      intro h5; apply hn; grind
    have h5 : px * (dx * qy - dy * qx) = 0 := by grind
    have h6 : py * (dx * qy - dy * qx) = 0 := by grind
    have h7 : px = 0 := by rcases Int.mul_eq_zero.mp h5 with h | h; exact h; exact absurd h h4
    have h8 : py = 0 := by rcases Int.mul_eq_zero.mp h6 with h | h; exact h; exact absurd h h4
    rw [h7, h8] at h0
    simp at h0
  · have h4 : dx * py - dy * px ≠ 0 := by
      intro h5; apply hn; grind
    have h5 : qx * (dx * py - dy * px) = 0 := by grind
    have h6 : qy * (dx * py - dy * px) = 0 := by grind
    have h7 : qx = 0 := by rcases Int.mul_eq_zero.mp h5 with h | h; exact h; exact absurd h h4
    have h8 : qy = 0 := by rcases Int.mul_eq_zero.mp h6 with h | h; exact h; exact absurd h h4
    rw [h7, h8] at h0
    simp at h0
def tr (ax ay bx by' cx cy : Int) : Int := (bx - ax) * (cy - ay) - (by' - ay) * (cx - ax)
def BtI (ax ay bx by' cx cy : Int) : Prop := tr ax ay bx by' cx cy = 0 ∧ (ax - cx) * (bx - cx) + (ay - cy) * (by' - cy) ≤ 0
def BxI (a b c d : Int) : Prop := (c ≤ a ∨ c ≤ b ∨ d ≤ a ∨ d ≤ b) ∧ (a ≤ c ∨ a ≤ d ∨ b ≤ c ∨ b ≤ d)
theorem BxI.symm {a b c d : Int} (h : BxI a b c d) : BxI c d a b := by unfold BxI at *; omega
theorem BxI.swap {a b c d : Int} (h : BxI a b c d) : BxI b a c d := by unfold BxI at *; omega
theorem BxI.swap2 {a b c d : Int} (h : BxI a b c d) : BxI a b d c := by unfold BxI at *; omega
theorem mul_sign {p q : Int} (h : p * q ≤ 0) : (p ≤ 0 ∧ 0 ≤ q) ∨ (0 ≤ p ∧ q ≤ 0) := by
  rcases Int.lt_trichotomy p 0 with h1 | h1 | h1
  · refine Or.inl ⟨by omega, ?_⟩
    apply Int.not_lt.mp; intro h2
    have := Int.mul_pos_of_neg_of_neg h1 h2; omega
  · omega
  · refine Or.inr ⟨by omega, ?_⟩
    apply Int.not_lt.mp; intro h2
    have := Int.mul_pos h1 h2; omega
theorem BtI.box {ax ay bx by' cx cy : Int} (h : BtI ax ay bx by' cx cy) (dx dy : Int) : BxI ax bx cx dx ∧ BxI ay by' cy dy := by
  obtain ⟨h1, h2⟩ := h
  have h3 : (ax - cx) * (by' - cy) = (ay - cy) * (bx - cx) := by unfold tr at h1; grind
  obtain ⟨h4, h5⟩ := par_le h3 h2
  have h6 := mul_sign h4
  have h7 := mul_sign h5
  unfold BxI; omega
theorem BtI.cls {ax ay bx by' cx cy : Int} (h : BtI ax ay bx by' cx cy) (dx dy : Int) : (BxI ax bx cx dx ∧ BxI ay by' cy dy) ∧ tr ax ay bx by' cx cy * tr ax ay bx by' dx dy ≤ 0 ∧ tr cx cy dx dy ax ay * tr cx cy dx dy bx by' ≤ 0 := by
  refine ⟨h.box dx dy, ?_, ?_⟩
  · rw [h.1]; simp
  · obtain ⟨h1, h2⟩ := h
    have h3 : (ax - cx) * (by' - cy) = (ay - cy) * (bx - cx) := by unfold tr at h1; grind
    exact par_sides (dx := dx - cx) (dy := dy - cy) h3 h2
theorem tr_rot (ax ay bx by' cx cy : Int) : tr bx by' ax ay cx cy = - tr ax ay bx by' cx cy := by unfold tr; grind
theorem conv {P Q R S a b c d : Int} (hP : 0 < P) (hQ : 0 < Q) (hR : 0 < R) (hS : 0 < S) (he : P + Q = R + S) (h : P * d + Q * c = R * b + S * a) : BxI a b c d := by
  have key : ∀ {P Q R S a b c d : Int}, 0 < P → 0 < Q → 0 < R → 0 < S → P + Q = R + S → P * d + Q * c = R * b + S * a → (c ≤ a ∨ c ≤ b ∨ d ≤ a ∨ d ≤ b) := by
    intro P Q R S a b c d hP hQ hR hS he h
    apply Classical.byContradiction
    intro hn
    have h1 : a < c := by omega
    have h2 : b < c := by omega
    have h3 : a < d := by omega
    have h4 : b < d := by omega
    have hm : ∃ m, m ≤ c ∧ m ≤ d ∧ a < m ∧ b < m := by
      rcases Int.le_total c d with h5 | h5
      · exact ⟨c, by omega, h5, h1, h2⟩
      · exact ⟨d, h5, by omega, h3, h4⟩
    obtain ⟨m, m1, m2, m3, m4⟩ := hm
    have e1 : 0 ≤ P * (d - m) := Int.mul_nonneg (by omega) (by omega)
    have e2 : 0 ≤ Q * (c - m) := Int.mul_nonneg (by omega) (by omega)
    have e3 : 0 < R * (m - b) := Int.mul_pos hR (by omega)
    have e4 : 0 < S * (m - a) := Int.mul_pos hS (by omega)
    have : P * (d - m) + Q * (c - m) + R * (m - b) + S * (m - a) = 0 := by grind
    omega
  refine ⟨key hP hQ hR hS he h, ?_⟩
  have := key (P := R) (Q := S) (R := P) (S := Q) (a := c) (b := d) (c := a) (d := b) hR hS hP hQ he.symm h.symm
  omega
theorem acr_box {ax ay bx by' cx cy dx dy : Int} (h1 : tr ax ay bx by' cx cy * tr ax ay bx by' dx dy < 0) (h2 : tr cx cy dx dy ax ay * tr cx cy dx dy bx by' < 0) : BxI ax bx cx dx ∧ BxI ay by' cy dy := by
  have e : tr ax ay bx by' cx cy - tr ax ay bx by' dx dy = tr cx cy dx dy bx by' - tr cx cy dx dy ax ay := by unfold tr; grind
  have ex : tr ax ay bx by' cx cy * dx - tr ax ay bx by' dx dy * cx = tr cx cy dx dy bx by' * ax - tr cx cy dx dy ax ay * bx := by unfold tr; grind
  have ey : tr ax ay bx by' cx cy * dy - tr ax ay bx by' dx dy * cy = tr cx cy dx dy bx by' * ay - tr cx cy dx dy ax ay * by' := by unfold tr; grind
  generalize tr ax ay bx by' cx cy = o1 at *
  generalize tr ax ay bx by' dx dy = o2 at *
  generalize tr cx cy dx dy ax ay = o3 at *
  generalize tr cx cy dx dy bx by' = o4 at *
  have z1 : o1 ≠ 0 := by intro h; rw [h] at h1; simp at h1
  have z2 : o2 ≠ 0 := by intro h; rw [h] at h1; simp at h1
  have z3 : o3 ≠ 0 := by intro h; rw [h] at h2; simp at h2
  have z4 : o4 ≠ 0 := by intro h; rw [h] at h2; simp at h2
  have s1 := mul_sign (Int.le_of_lt h1)
  have s2 := mul_sign (Int.le_of_lt h2)
  rcases s1 with ⟨p1, p2⟩ | ⟨p1, p2⟩
  · have q : 0 < o3 ∧ o4 < 0 := by omega
    exact ⟨conv (P := -o1) (Q := o2) (R := o3) (S := -o4) (by omega) (by omega) (by omega) (by omega) (by omega) (by grind),
      conv (P := -o1) (Q := o2) (R := o3) (S := -o4) (by omega) (by omega) (by omega) (by omega) (by omega) (by grind)⟩
  · have q : o3 < 0 ∧ 0 < o4 := by omega
    exact ⟨conv (P := o1) (Q := -o2) (R := -o3) (S := o4) (by omega) (by omega) (by omega) (by omega) (by omega) (by grind),
      conv (P := o1) (Q := -o2) (R := -o3) (S := o4) (by omega) (by omega) (by omega) (by omega) (by omega) (by grind)⟩
/-- on one line, apart in one coordinate: between there is between -/
theorem line_bt {ax ay bx by' cx cy ex ey : Int} (h1 : (ax - cx) * ey = (ay - cy) * ex) (h2 : (bx - cx) * ey = (by' - cy) * ex) (hn : ex ≠ 0) (hb : (ax - cx) * (bx - cx) ≤ 0) : BtI ax ay bx by' cx cy := by
  have h3 : (ax - cx) * (by' - cy) = (ay - cy) * (bx - cx) := by
    have : ex * ((ax - cx) * (by' - cy)) = ex * ((ay - cy) * (bx - cx)) := by grind
    exact Int.eq_of_mul_eq_mul_left hn this
  refine ⟨by unfold tr; grind, ?_⟩
  have h4 : ex * ex * ((ay - cy) * (by' - cy)) = ey * ey * ((ax - cx) * (bx - cx)) := by grind
  have h5 : (ay - cy) * (by' - cy) ≤ 0 := by
    apply Int.not_lt.mp; intro h6
    have h7 : 0 < ex * ex := by
      rcases Int.lt_or_eq_of_le (sq_nn ex) with h | h
      · exact h
      · exact absurd (sq_z (Int.le_of_eq h.symm)) hn
    have h8 := Int.mul_pos h7 h6
    have h9 := Int.mul_nonpos_of_nonneg_of_nonpos (sq_nn ey) hb
    omega
  omega
theorem btw_mul {a b c : Int} (h : (a ≤ c ∧ c ≤ b) ∨ (b ≤ c ∧ c ≤ a)) : (a - c) * (b - c) ≤ 0 := by
  rcases h with ⟨h1, h2⟩ | ⟨h1, h2⟩
  · exact Int.mul_nonpos_of_nonpos_of_nonneg (by omega) (by omega)
  · exact Int.mul_nonpos_of_nonneg_of_nonpos (by omega) (by omega)
theorem box_one {a b c d : Int} (h : BxI a b c d) : ((a ≤ c ∧ c ≤ b) ∨ (b ≤ c ∧ c ≤ a)) ∨ ((a ≤ d ∧ d ≤ b) ∨ (b ≤ d ∧ d ≤ a)) ∨ ((c ≤ a ∧ a ≤ d) ∨ (d ≤ a ∧ a ≤ c)) ∨ ((c ≤ b ∧ b ≤ d) ∨ (d ≤ b ∧ b ≤ c)) := by
  unfold BxI at h; omega
theorem BtI.flip {ax ay bx by' cx cy : Int} (h : BtI ay ax by' bx cy cx) : BtI ax ay bx by' cx cy := by
  obtain ⟨h1, h2⟩ := h
  exact ⟨by unfold tr at *; grind, by omega⟩
theorem flat1 {ax ay bx by' cx cy dx dy : Int} (hne : bx - ax ≠ 0) (h1 : tr ax ay bx by' cx cy = 0) (h2 : tr ax ay bx by' dx dy = 0) (hx : BxI ax bx cx dx) :
    BtI ax ay bx by' cx cy ∨ BtI ax ay bx by' dx dy ∨ BtI cx cy dx dy ax ay ∨ BtI cx cy dx dy bx by' := by
  unfold tr at h1 h2
  rcases box_one hx with h | h | h | h
  · exact Or.inl (line_bt (ex := bx - ax) (ey := by' - ay) (by grind) (by grind) hne (btw_mul h))
  · exact Or.inr (Or.inl (line_bt (ex := bx - ax) (ey := by' - ay) (by grind) (by grind) hne (btw_mul h)))
  · exact Or.inr (Or.inr (Or.inl (line_bt (ex := bx - ax) (ey := by' - ay) (by grind) (by grind) hne (btw_mul h))))
  · exact Or.inr (Or.inr (Or.inr (line_bt (ex := bx - ax) (ey := by' - ay) (by grind) (by grind) hne (btw_mul h))))
theorem flat2 {ax ay bx by' cx cy dx dy : Int} (hne : bx - ax ≠ 0 ∨ by' - ay ≠ 0) (h1 : tr ax ay bx by' cx cy = 0) (h2 : tr ax ay bx by' dx dy = 0) (hx : BxI ax bx cx dx) (hy : BxI ay by' cy dy) :
    BtI ax ay bx by' cx cy ∨ BtI ax ay bx by' dx dy ∨ BtI cx cy dx dy ax ay ∨ BtI cx cy dx dy bx by' := by
  rcases hne with h | h
  · exact flat1 h h1 h2 hx
  · rcases flat1 (ax := ay) (ay := ax) (bx := by') (by' := bx) (cx := cy) (cy := cx) (dx := dy) (dy := dx) h (by unfold tr at *; grind) (by unfold tr at *; grind) hy with h | h | h | h
    · exact Or.inl h.flip
    · exact Or.inr (Or.inl h.flip)
    · exact Or.inr (Or.inr (Or.inl h.flip))
    · exact Or.inr (Or.inr (Or.inr h.flip))
theorem one_bt {ax ay bx by' cx cy dx dy : Int} (h1 : tr ax ay bx by' cx cy = 0) (h2 : tr ax ay bx by' dx dy ≠ 0) (h3 : tr cx cy dx dy ax ay * tr cx cy dx dy bx by' ≤ 0) : BtI ax ay bx by' cx cy := by
  refine ⟨h1, ?_⟩
  unfold tr at *
  exact sides_par (dx := dx - cx) (dy := dy - cy) (by grind) h3 (by intro h; apply h2; grind)
theorem meetI {ax ay bx by' cx cy dx dy : Int} (hab : bx - ax ≠ 0 ∨ by' - ay ≠ 0) (hcd : dx - cx ≠ 0 ∨ dy - cy ≠ 0) :
    ((BxI ax bx cx dx ∧ BxI ay by' cy dy) ∧ tr ax ay bx by' cx cy * tr ax ay bx by' dx dy ≤ 0 ∧ tr cx cy dx dy ax ay * tr cx cy dx dy bx by' ≤ 0) ↔
    ((tr ax ay bx by' cx cy * tr ax ay bx by' dx dy < 0 ∧ tr cx cy dx dy ax ay * tr cx cy dx dy bx by' < 0) ∨ BtI ax ay bx by' cx cy ∨ BtI ax ay bx by' dx dy ∨ BtI cx cy dx dy ax ay ∨ BtI cx cy dx dy bx by') := by
  constructor
  · rintro ⟨⟨hx, hy⟩, h1, h2⟩
    by_cases z1 : tr ax ay bx by' cx cy = 0
    · by_cases z2 : tr ax ay bx by' dx dy = 0
      · exact Or.inr (flat2 hab z1 z2 hx hy)
      · exact Or.inr (Or.inl (one_bt z1 z2 h2))
    · by_cases z2 : tr ax ay bx by' dx dy = 0
      · refine Or.inr (Or.inr (Or.inl (one_bt (dx := cx) (dy := cy) z2 z1 ?_)))
        rw [tr_rot cx cy dx dy, tr_rot cx cy dx dy]; grind
      · by_cases z3 : tr cx cy dx dy ax ay = 0
        · by_cases z4 : tr cx cy dx dy bx by' = 0
          · rcases flat2 hcd z3 z4 hx.symm hy.symm with h | h | h | h
            · exact Or.inr (Or.inr (Or.inr (Or.inl h)))
            · exact Or.inr (Or.inr (Or.inr (Or.inr h)))
            · exact Or.inr (Or.inl h)
            · exact Or.inr (Or.inr (Or.inl h))
          · exact Or.inr (Or.inr (Or.inr (Or.inl (one_bt z3 z4 h1))))
        · by_cases z4 : tr cx cy dx dy bx by' = 0
          · refine Or.inr (Or.inr (Or.inr (Or.inr (one_bt (dx := ax) (dy := ay) z4 z3 ?_))))
            rw [tr_rot ax ay bx by', tr_rot ax ay bx by']; grind
          · refine Or.inl ⟨?_, ?_⟩
            · rcases Int.lt_or_eq_of_le h1 with h | h
              · exact h
              · rcases Int.mul_eq_zero.mp h with h | h
                · exact absurd h z1
                · exact absurd h z2
            · rcases Int.lt_or_eq_of_le h2 with h | h
              · exact h
              · rcases Int.mul_eq_zero.mp h with h | h
                · exact absurd h z3
                · exact absurd h z4
  · rintro (⟨h1, h2⟩ | h | h | h | h)
    · exact ⟨acr_box h1 h2, by omega, by omega⟩
    · exact h.cls dx dy
    · obtain ⟨⟨b1, b2⟩, b3, b4⟩ := h.cls cx cy
      refine ⟨⟨b1.swap2, b2.swap2⟩, ?_, ?_⟩
      · rw [Int.mul_comm]; exact b3
      · rw [tr_rot dx dy cx cy, tr_rot dx dy cx cy]; grind
    · obtain ⟨⟨b1, b2⟩, b3, b4⟩ := h.cls bx by'
      exact ⟨⟨b1.symm, b2.symm⟩, b4, b3⟩
    · obtain ⟨⟨b1, b2⟩, b3, b4⟩ := h.cls ax ay
      refine ⟨⟨b1.symm.swap, b2.symm.swap⟩, ?_, ?_⟩
      · rw [tr_rot bx by' ax ay, tr_rot bx by' ax ay]; grind
      · rw [Int.mul_comm]; exact b3
/-- a word of 32 bits, its value, and a bound -/
def I3 (x : Int32) (z : Int) (b : Int) : Prop := x.toInt = z ∧ -b ≤ z ∧ z ≤ b
def I6 (x : Int64) (z : Int) (b : Int) : Prop := x.toInt = z ∧ -b ≤ z ∧ z ≤ b
theorem bm32 {z : Int} (h1 : -2147483648 ≤ z) (h2 : z ≤ 2147483647) : z.bmod (2 ^ 32) = z := by
  apply Int.bmod_eq_of_le <;> omega
theorem bm64 {z : Int} (h1 : -9223372036854775808 ≤ z) (h2 : z ≤ 9223372036854775807) : z.bmod (2 ^ 64) = z := by
  apply Int.bmod_eq_of_le <;> omega
theorem abs_mul {z w b c : Int} (h1 : -b ≤ z) (h2 : z ≤ b) (h3 : -c ≤ w) (h4 : w ≤ c) : -(b * c) ≤ z * w ∧ z * w ≤ b * c := by
  have a1 := Int.mul_nonneg (a := b - z) (b := c - w) (by omega) (by omega)
  have a2 := Int.mul_nonneg (a := b + z) (b := c + w) (by omega) (by omega)
  have a3 := Int.mul_nonneg (a := b - z) (b := c + w) (by omega) (by omega)
  have a4 := Int.mul_nonneg (a := b + z) (b := c - w) (by omega) (by omega)
  have e1 : (b - z) * (c - w) = b * c - b * w - z * c + z * w := by grind
  have e2 : (b + z) * (c + w) = b * c + b * w + z * c + z * w := by grind
  have e3 : (b - z) * (c + w) = b * c + b * w - z * c - z * w := by grind
  have e4 : (b + z) * (c - w) = b * c - b * w + z * c - z * w := by grind
  omega
theorem I3.sub {x y : Int32} {z w b c : Int} (h : I3 x z b) (k : I3 y w c) (hb : b + c ≤ 2147483647) : I3 (x - y) (z - w) (b + c) := by
  obtain ⟨h1, h2, h3⟩ := h; obtain ⟨k1, k2, k3⟩ := k
  refine ⟨?_, by omega, by omega⟩
  rw [Int32.toInt_sub, h1, k1, bm32 (by omega) (by omega)]
theorem I3.add {x y : Int32} {z w b c : Int} (h : I3 x z b) (k : I3 y w c) (hb : b + c ≤ 2147483647) : I3 (x + y) (z + w) (b + c) := by
  obtain ⟨h1, h2, h3⟩ := h; obtain ⟨k1, k2, k3⟩ := k
  refine ⟨?_, by omega, by omega⟩
  rw [Int32.toInt_add, h1, k1, bm32 (by omega) (by omega)]
theorem I3.mul {x y : Int32} {z w b c : Int} (h : I3 x z b) (k : I3 y w c) (hb : b * c ≤ 2147483647) : I3 (x * y) (z * w) (b * c) := by
  obtain ⟨h1, h2, h3⟩ := h; obtain ⟨k1, k2, k3⟩ := k
  have := abs_mul h2 h3 k2 k3
  refine ⟨?_, by omega, by omega⟩
  rw [Int32.toInt_mul, h1, k1, bm32 (by omega) (by omega)]
theorem I6.sub {x y : Int64} {z w b c : Int} (h : I6 x z b) (k : I6 y w c) (hb : b + c ≤ 9223372036854775807) : I6 (x - y) (z - w) (b + c) := by
  obtain ⟨h1, h2, h3⟩ := h; obtain ⟨k1, k2, k3⟩ := k
  refine ⟨?_, by omega, by omega⟩
  rw [Int64.toInt_sub, h1, k1, bm64 (by omega) (by omega)]
theorem I6.add {x y : Int64} {z w b c : Int} (h : I6 x z b) (k : I6 y w c) (hb : b + c ≤ 9223372036854775807) : I6 (x + y) (z + w) (b + c) := by
  obtain ⟨h1, h2, h3⟩ := h; obtain ⟨k1, k2, k3⟩ := k
  refine ⟨?_, by omega, by omega⟩
  rw [Int64.toInt_add, h1, k1, bm64 (by omega) (by omega)]
theorem I6.mul {x y : Int64} {z w b c : Int} (h : I6 x z b) (k : I6 y w c) (hb : b * c ≤ 9223372036854775807) : I6 (x * y) (z * w) (b * c) := by
  obtain ⟨h1, h2, h3⟩ := h; obtain ⟨k1, k2, k3⟩ := k
  have := abs_mul h2 h3 k2 k3
  refine ⟨?_, by omega, by omega⟩
  rw [Int64.toInt_mul, h1, k1, bm64 (by omega) (by omega)]
theorem I3.long {x : Int32} {z b : Int} (h : I3 x z b) : I6 x.toInt64 z b := ⟨by rw [Int32.toInt_toInt64]; exact h.1, h.2⟩
theorem I3.lt {x y : Int32} {z w b c : Int} (h : I3 x z b) (k : I3 y w c) : x < y ↔ z < w := by rw [Int32.lt_iff_toInt_lt, h.1, k.1]
theorem I3.le {x y : Int32} {z w b c : Int} (h : I3 x z b) (k : I3 y w c) : x ≤ y ↔ z ≤ w := by rw [Int32.le_iff_toInt_le, h.1, k.1]
theorem I3.eq {x y : Int32} {z w b c : Int} (h : I3 x z b) (k : I3 y w c) : x = y ↔ z = w := by rw [← Int32.toInt_inj, h.1, k.1]
theorem I6.lt {x y : Int64} {z w b c : Int} (h : I6 x z b) (k : I6 y w c) : x < y ↔ z < w := by rw [Int64.lt_iff_toInt_lt, h.1, k.1]
theorem I6.le {x y : Int64} {z w b c : Int} (h : I6 x z b) (k : I6 y w c) : x ≤ y ↔ z ≤ w := by rw [Int64.le_iff_toInt_le, h.1, k.1]
theorem I6.eq {x y : Int64} {z w b c : Int} (h : I6 x z b) (k : I6 y w c) : x = y ↔ z = w := by rw [← Int64.toInt_inj, h.1, k.1]
theorem I3.z : I3 0 0 0 := ⟨rfl, by omega, by omega⟩
theorem I6.z : I6 0 0 0 := ⟨rfl, by omega, by omega⟩
theorem i3_self {x : Int32} {b : Int} (h : -b ≤ x.toInt ∧ x.toInt ≤ b) : I3 x x.toInt b := ⟨rfl, h.1, h.2⟩
theorem i3_cT {X Y U W P Q : Int32} {ax ay bx by' cx cy : Int} (h1 : I3 X ax 1000) (h2 : I3 Y ay 1000) (h3 : I3 U bx 1000) (h4 : I3 W by' 1000) (h5 : I3 P cx 1000) (h6 : I3 Q cy 1000) :
    I6 ((U - X).toInt64 * (Q - Y).toInt64 - (W - Y).toInt64 * (P - X).toInt64) (tr ax ay bx by' cx cy) 8000000 :=
  I6.sub (b := 4000000) (c := 4000000) (I6.mul (b := 2000) (c := 2000) (I3.sub h3 h1 (by decide)).long (I3.sub h6 h2 (by decide)).long (by decide)) (I6.mul (b := 2000) (c := 2000) (I3.sub h4 h2 (by decide)).long (I3.sub h5 h1 (by decide)).long (by decide)) (by decide)
theorem i3_mC {X Y U W P Q : Int32} {ax ay bx by' cx cy : Int} (h1 : I3 X ax 1000) (h2 : I3 Y ay 1000) (h3 : I3 U bx 1000) (h4 : I3 W by' 1000) (h5 : I3 P cx 1000) (h6 : I3 Q cy 1000) :
    I3 ((U - X) * (Q - Y) - (W - Y) * (P - X)) (tr ax ay bx by' cx cy) 8000000 :=
  I3.sub (b := 4000000) (c := 4000000) (I3.mul (b := 2000) (c := 2000) (I3.sub h3 h1 (by decide)) (I3.sub h6 h2 (by decide)) (by decide)) (I3.mul (b := 2000) (c := 2000) (I3.sub h4 h2 (by decide)) (I3.sub h5 h1 (by decide)) (by decide)) (by decide)
theorem i3_dot {X Y U W P Q : Int32} {ax ay bx by' cx cy : Int} (h1 : I3 X ax 1000) (h2 : I3 Y ay 1000) (h3 : I3 U bx 1000) (h4 : I3 W by' 1000) (h5 : I3 P cx 1000) (h6 : I3 Q cy 1000) :
    I3 ((X - P) * (U - P) + (Y - Q) * (W - Q)) ((ax - cx) * (bx - cx) + (ay - cy) * (by' - cy)) 8000000 :=
  I3.add (b := 4000000) (c := 4000000) (I3.mul (b := 2000) (c := 2000) (I3.sub h1 h5 (by decide)) (I3.sub h3 h5 (by decide)) (by decide)) (I3.mul (b := 2000) (c := 2000) (I3.sub h2 h6 (by decide)) (I3.sub h4 h6 (by decide)) (by decide)) (by decide)
theorem i6_dot {X Y U W P Q : Int32} {ax ay bx by' cx cy : Int} (h1 : I3 X ax 1000) (h2 : I3 Y ay 1000) (h3 : I3 U bx 1000) (h4 : I3 W by' 1000) (h5 : I3 P cx 1000) (h6 : I3 Q cy 1000) :
    I6 ((X - P).toInt64 * (U - P).toInt64 + (Y - Q).toInt64 * (W - Q).toInt64) ((ax - cx) * (bx - cx) + (ay - cy) * (by' - cy)) 8000000 :=
  I6.add (b := 4000000) (c := 4000000) (I6.mul (b := 2000) (c := 2000) (I3.sub h1 h5 (by decide)).long (I3.sub h3 h5 (by decide)).long (by decide)) (I6.mul (b := 2000) (c := 2000) (I3.sub h2 h6 (by decide)).long (I3.sub h4 h6 (by decide)).long (by decide)) (by decide)
theorem sgn_cases {v : Int32} {z b : Int} (h : I3 v z b) : (z < 0 ∧ sgn v = -1) ∨ (z = 0 ∧ sgn v = 0) ∨ (0 < z ∧ sgn v = 1) := by
  have h1 : v ≤ 0 ↔ z ≤ 0 := h.le I3.z
  have h2 : 0 ≤ v ↔ 0 ≤ z := I3.z.le h
  unfold sgn
  rcases Int.lt_trichotomy z 0 with h3 | h3 | h3
  · left; rw [if_pos (h1.mpr (by omega)), if_neg (fun h => by have := h2.mp h; omega)]; exact ⟨h3, rfl⟩
  · right; left; rw [if_pos (h1.mpr (by omega)), if_pos (h2.mpr (by omega))]; exact ⟨h3, rfl⟩
  · right; right; rw [if_neg (fun h => by have := h1.mp h; omega)]; exact ⟨h3, rfl⟩
theorem sgn_zero {v : Int32} {z b : Int} (h : I3 v z b) : sgn v = 0 ↔ z = 0 := by
  rcases sgn_cases h with ⟨h1, h2⟩ | ⟨h1, h2⟩ | ⟨h1, h2⟩ <;> rw [h2]
  · exact ⟨fun h => absurd h (by decide), fun h => by omega⟩
  · exact ⟨fun _ => h1, fun _ => rfl⟩
  · exact ⟨fun h => absurd h (by decide), fun h => by omega⟩
theorem sgn_mul {v w : Int32} {z y b c : Int} (h : I3 v z b) (k : I3 w y c) : 0 ≤ sgn v * sgn w ↔ 0 ≤ z * y := by
  rcases sgn_cases h with ⟨h1, h2⟩ | ⟨h1, h2⟩ | ⟨h1, h2⟩ <;> rcases sgn_cases k with ⟨k1, k2⟩ | ⟨k1, k2⟩ | ⟨k1, k2⟩ <;> rw [h2, k2]
  · exact ⟨fun _ => Int.le_of_lt (Int.mul_pos_of_neg_of_neg h1 k1), fun _ => by decide⟩
  · rw [k1]; simp
  · have := Int.mul_neg_of_neg_of_pos h1 k1
    exact ⟨fun h => absurd h (by decide), fun h => by omega⟩
  · rw [h1]; simp
  · rw [h1]; simp
  · rw [h1]; simp
  · have := Int.mul_neg_of_pos_of_neg h1 k1
    exact ⟨fun h => absurd h (by decide), fun h => by omega⟩
  · rw [k1]; simp
  · exact ⟨fun _ => Int.le_of_lt (Int.mul_pos h1 k1), fun _ => by decide⟩
theorem cRange_iff {a b c d : Int32} {x y z w : Int} (ha : I3 a x 1000) (hb : I3 b y 1000) (hc : I3 c z 1000) (hd : I3 d w 1000) : cRange a b c d = true ↔ BxI x y z w := by
  have e1 := ha.lt hb; have e2 := hb.lt ha; have e3 := hc.lt hd; have e4 := hd.lt hc
  have l1 := hc.le ha; have l2 := hc.le hb; have l3 := hd.le ha; have l4 := hd.le hb
  have m1 := ha.le hc; have m2 := ha.le hd; have m3 := hb.le hc; have m4 := hb.le hd
  unfold cRange mx mn BxI
  rw [Bool.and_eq_true, decide_eq_true_iff, decide_eq_true_iff]
  by_cases p1 : a < b <;> by_cases p2 : b < a <;> by_cases p3 : c < d <;> by_cases p4 : d < c <;> simp only [p1, p2, p3, p4, if_true, if_false, l1, l2, l3, l4, m1, m2, m3, m4] <;> simp only [e1, e2, e3, e4] at p1 p2 p3 p4 <;> omega
section GE
variable {a : Pts} {X Y : Nat → Int32} {x y : Nat → Int}
theorem bt_iff {n i j k : Nat} (hX : ∀ k, k < n → I3 (X k) (x k) 1000) (hY : ∀ k, k < n → I3 (Y k) (y k) 1000) (hi : i < n) (hj : j < n) (hk : k < n) : mBetw X Y i j k = true ↔ BtI (x i) (y i) (x j) (y j) (x k) (y k) := by
  have h1 := i3_mC (hX i hi) (hY i hi) (hX j hj) (hY j hj) (hX k hk) (hY k hk)
  have h2 := i3_dot (hX i hi) (hY i hi) (hX j hj) (hY j hj) (hX k hk) (hY k hk)
  have h3 := sgn_zero h1
  have h4 := I3.z.lt h2
  unfold mBetw BtI mTurn mCr mDot
  rw [Bool.and_eq_true, decide_eq_true_iff, Bool.not_eq_true', decide_eq_false_iff_not, h3, h4]
  omega
theorem fold_iff {i j k : Nat} {n : Nat} (hX : ∀ k, k < n → I3 (X k) (x k) 1000) (hY : ∀ k, k < n → I3 (Y k) (y k) 1000) (cX : ∀ k, I3 (pX a k) (x k) 1000) (cY : ∀ k, I3 (pY a k) (y k) 1000) (hi : i < n) (hj : j < n) (hk : k < n) : mFold X Y i j k = cFold a i j k := by
  have h1 := i3_mC (hX i hi) (hY i hi) (hX j hj) (hY j hj) (hX k hk) (hY k hk)
  have h2 := i3_dot (hX i hi) (hY i hi) (hX k hk) (hY k hk) (hX j hj) (hY j hj)
  have h3 := sgn_zero h1
  have h4 := I3.z.lt h2
  have k1 := i6_dot (cX i) (cY i) (cX k) (cY k) (cX j) (cY j)
  have k2 := I6.z.lt k1
  have k3 := I6.mul (I3.sub (cX i) (cX j) (by decide)).long (I3.sub (cY k) (cY j) (by decide)).long (by decide)
  have k4 := I6.mul (I3.sub (cY i) (cY j) (by decide)).long (I3.sub (cX k) (cX j) (by decide)).long (by decide)
  have k5 := k3.eq k4
  rw [Bool.eq_iff_iff]
  unfold mFold cFold mTurn mCr mDot
  rw [Bool.and_eq_true, decide_eq_true_iff, decide_eq_true_iff, Bool.and_eq_true, decide_eq_true_iff, decide_eq_true_iff, h3, h4, k2, k5]
  refine and_congr ?_ Iff.rfl
  unfold tr
  grind
theorem meet_iff {i j : Nat} {n : Nat} (hn : n = a.length) (hX : ∀ k, k < n → I3 (X k) (x k) 1000) (hY : ∀ k, k < n → I3 (Y k) (y k) 1000) (cX : ∀ k, I3 (pX a k) (x k) 1000) (cY : ∀ k, I3 (pY a k) (y k) 1000) (hi : i < n) (hj : j < n)
    (hab : x (nx n i) - x i ≠ 0 ∨ y (nx n i) - y i ≠ 0) (hcd : x (nx n j) - x j ≠ 0 ∨ y (nx n j) - y j ≠ 0) : mMeet X Y i (nx n i) j (nx n j) = cMeet a i j := by
  have hi' := nx_lt hi
  have hj' := nx_lt hj
  have o1 := i3_mC (hX i hi) (hY i hi) (hX _ hi') (hY _ hi') (hX j hj) (hY j hj)
  have o2 := i3_mC (hX i hi) (hY i hi) (hX _ hi') (hY _ hi') (hX _ hj') (hY _ hj')
  have o3 := i3_mC (hX j hj) (hY j hj) (hX _ hj') (hY _ hj') (hX i hi) (hY i hi)
  have o4 := i3_mC (hX j hj) (hY j hj) (hX _ hj') (hY _ hj') (hX _ hi') (hY _ hi')
  have p1 := i3_cT (cX i) (cY i) (cX (nx n i)) (cY (nx n i)) (cX j) (cY j)
  have p2 := i3_cT (cX i) (cY i) (cX (nx n i)) (cY (nx n i)) (cX (nx n j)) (cY (nx n j))
  have p3 := i3_cT (cX j) (cY j) (cX (nx n j)) (cY (nx n j)) (cX i) (cY i)
  have p4 := i3_cT (cX j) (cY j) (cX (nx n j)) (cY (nx n j)) (cX (nx n i)) (cY (nx n i))
  have q1 := (I6.mul p1 p2 (by decide)).le I6.z
  have q2 := (I6.mul p3 p4 (by decide)).le I6.z
  have s1 := sgn_mul o1 o2
  have s2 := sgn_mul o3 o4
  have key := meetI (ax := x i) (ay := y i) (bx := x (nx n i)) (by' := y (nx n i)) (cx := x j) (cy := y j) (dx := x (nx n j)) (dy := y (nx n j)) hab hcd
  rw [Bool.eq_iff_iff]
  unfold mMeet cMeet mAcr
  rw [← hn]
  simp only [Bool.or_eq_true, Bool.and_eq_true]
  rw [bt_iff hX hY hi hi' hj, bt_iff hX hY hi hi' hj', bt_iff hX hY hj hj' hi, bt_iff hX hY hj hj' hi', cRange_iff (cX i) (cX _) (cX j) (cX _), cRange_iff (cY i) (cY _) (cY j) (cY _)]
  unfold cTurn mTurn mCr
  rw [← hn]
  simp only [decide_eq_true_iff, Bool.not_eq_true', decide_eq_false_iff_not]
  rw [q1, q2, s1, s2, Int.not_le, Int.not_le]
  rw [← key]
  exact ⟨fun h => ⟨h.1.1, h.1.2, h.2⟩, fun h => ⟨⟨h.1, h.2.1⟩, h.2.2⟩⟩
theorem mMeet_symm (i j k l : Nat) : mMeet X Y i j k l = mMeet X Y k l i j := by
  unfold mMeet mAcr
  generalize mBetw X Y i j k = b1
  generalize mBetw X Y i j l = b2
  generalize mBetw X Y k l i = b3
  generalize mBetw X Y k l j = b4
  generalize (!decide (0 ≤ mTurn X Y i j k * mTurn X Y i j l)) = b5
  generalize (!decide (0 ≤ mTurn X Y k l i * mTurn X Y k l j)) = b6
  revert b1 b2 b3 b4 b5 b6; decide
theorem nx_mod {n k : Nat} (h : k < n) : (k + 1) % n = nx n k := by
  unfold nx; split
  · exact Nat.mod_eq_of_lt (by assumption)
  · have : k + 1 = n := by omega
    rw [this]; simp
theorem simple_eq {n : Nat} (hn : n = a.length) (hX : ∀ k, k < n → I3 (X k) (x k) 1000) (hY : ∀ k, k < n → I3 (Y k) (y k) 1000) (cX : ∀ k, I3 (pX a k) (x k) 1000) (cY : ∀ k, I3 (pY a k) (y k) 1000) : mSimple X Y n = cSimple a := by
  unfold mSimple cSimple
  rw [← hn]
  refine (Decidable.em (3 ≤ n)).elim (fun h3 => ?_) (fun h3 => by simp [h3])
  rw [decide_eq_true h3, Bool.true_and, Bool.true_and]
  have hd : al n (fun a => al a (mDst X Y a)) = !cPair n (cSame a) := by
    rw [Bool.eq_iff_iff, Bool.not_eq_true']
    constructor
    · intro h
      rw [al_iff] at h
      apply cPair_no
      intro i hi j hij hj
      have h1 := al_iff.mp (h j hj) i hij
      unfold mDst at h1; unfold cSame
      have e1 := (hX j hj).eq (hX i hi); have e2 := (hY j hj).eq (hY i hi)
      have e3 := (cX i).eq (cX j); have e4 := (cY i).eq (cY j)
      simp only [Bool.or_eq_true, Bool.not_eq_true', decide_eq_false_iff_not, e1, e2] at h1
      simp only [e3, e4, Bool.and_eq_false_iff, decide_eq_false_iff_not]
      omega
    · intro h
      rw [al_iff]
      intro j hj
      rw [al_iff]
      intro i hij
      have hi : i < n := by omega
      have h1 : cSame a i j = false := by
        cases hc : cSame a i j with
        | false => rfl
        | true => rw [cPair_yes hij hj hc] at h; exact absurd h (by decide)
      unfold cSame at h1; unfold mDst
      have e1 := (hX j hj).eq (hX i hi); have e2 := (hY j hj).eq (hY i hi)
      have e3 := (cX i).eq (cX j); have e4 := (cY i).eq (cY j)
      simp only [Bool.or_eq_true, Bool.not_eq_true', decide_eq_false_iff_not, e1, e2]
      simp only [e3, e4, Bool.and_eq_false_iff, decide_eq_false_iff_not] at h1
      omega
  rw [hd]
  cases hs : cPair n (cSame a) with
  | true => rfl
  | false =>
    rw [Bool.not_false, Bool.true_and, Bool.true_and]
    have hdis : ∀ i, i < n → x (nx n i) - x i ≠ 0 ∨ y (nx n i) - y i ≠ 0 := by
      intro i hi
      have key : ∀ i j, i < j → j < n → x j - x i ≠ 0 ∨ y j - y i ≠ 0 := by
        intro i j hij hj
        have h1 : cSame a i j = false := by
          cases hc : cSame a i j with
          | false => rfl
          | true => rw [cPair_yes hij hj hc] at hs; exact absurd hs (by decide)
        unfold cSame at h1
        have e3 := (cX i).eq (cX j); have e4 := (cY i).eq (cY j)
        simp only [e3, e4, Bool.and_eq_false_iff, decide_eq_false_iff_not] at h1
        omega
      have h1 := nx_lt hi
      rcases Nat.lt_trichotomy i (nx n i) with h | h | h
      · exact key _ _ h h1
      · exfalso; unfold nx at h; split at h <;> omega
      · have := key _ _ h hi; omega
    rw [Bool.eq_iff_iff, Bool.not_eq_true', al_iff]
    constructor
    · intro h
      apply cPair_no
      intro i hi j hij hj
      unfold cClash
      rw [← hn]
      split
      · rename_i hij2
        have h1 := h i hi
        unfold mGood at h1
        rw [nx_mod hi, hij2, nx_mod hj, fold_iff hX hY cX cY hi hj (nx_lt hj)] at h1
        simp only [Bool.and_eq_true, Bool.not_eq_true'] at h1
        exact h1.1
      · rename_i hij2
        split
        · rename_i hij3
          have h1 := h j hj
          unfold mGood at h1
          rw [nx_mod hj, hij3, nx_mod hi, fold_iff hX hY cX cY hj hi (nx_lt hi)] at h1
          simp only [Bool.and_eq_true, Bool.not_eq_true'] at h1
          exact h1.1
        · rename_i hij3
          have h1 := h j hj
          unfold mGood at h1
          rw [Bool.and_eq_true, al_iff] at h1
          have h2 := h1.2 i hij
          unfold mPair at h2
          rw [nx_mod hi, nx_mod hj, meet_iff hn hX hY cX cY hj hi (hdis j hj) (hdis i hi)] at h2
          simp [hij2, hij3] at h2
          rw [← h2]
          rw [← meet_iff hn hX hY cX cY hi hj (hdis i hi) (hdis j hj), ← meet_iff hn hX hY cX cY hj hi (hdis j hj) (hdis i hi)]
          exact mMeet_symm _ _ _ _
    · intro h k hk
      have hc : ∀ i j, i < j → j < n → cClash a i j = false := by
        intro i j hij hj
        cases hc : cClash a i j with
        | false => rfl
        | true => rw [cPair_yes hij hj hc] at h; exact absurd h (by decide)
      unfold mGood
      rw [Bool.and_eq_true, Bool.not_eq_true']
      have hk1 := nx_lt hk
      constructor
      · rw [nx_mod hk, nx_mod hk1, fold_iff hX hY cX cY hk hk1 (nx_lt hk1)]
        by_cases h5 : k + 1 < n
        · have e : nx n k = k + 1 := by unfold nx; rw [if_pos h5]
          have h6 := hc k (k + 1) (by omega) h5
          unfold cClash at h6
          rw [← hn, if_pos e] at h6
          rw [e]; exact h6
        · have e : nx n k = 0 := by unfold nx; rw [if_neg h5]
          have e2 : nx n 0 = 1 := by unfold nx; rw [if_pos (by omega)]
          have h6 := hc 0 k (by omega) hk
          unfold cClash at h6
          rw [← hn, e2, if_neg (by omega), if_pos e] at h6
          rw [e, e2]; exact h6
      · rw [al_iff]
        intro i hi
        have hin : i < n := by omega
        unfold mPair
        rw [nx_mod hk, nx_mod hin]
        by_cases h5 : nx n i = k
        · simp [h5]
        · by_cases h6 : nx n k = i
          · simp [h6]
          · have h7 := hc i k hi hk
            unfold cClash at h7
            rw [← hn, if_neg h5, if_neg h6] at h7
            rw [← meet_iff hn hX hY cX cY hin hk (hdis i hin) (hdis k hk)] at h7
            simp only [h5, h6, decide_false, Bool.not_false, Bool.and_self, Bool.not_true, Bool.false_or, Bool.not_eq_true']
            rw [← h7]
            exact mMeet_symm _ _ _ _
end GE
/-- what a side is near to -/
theorem near_zero {x' y' dx dy r : Int} (ht : x' * dy = y' * dx) (hy : (0 ≤ y' ∧ y' < dy) ∨ (dy ≤ y' ∧ y' < 0) ∨ (dy < y' ∧ y' ≤ 0)) (_h0 : 0 ≤ r) :
    (if 0 < x' * dx + y' * dy then (if x' * dx + y' * dy < dx * dx + dy * dy then ¬ r * r * (dx * dx + dy * dy) < (x' * dy - y' * dx) * (x' * dy - y' * dx) else ¬ r * r < (x' - dx) * (x' - dx) + (y' - dy) * (y' - dy)) else ¬ r * r < x' * x' + y' * y') := by
  have hn : dy ≠ 0 := by omega
  have hL : 0 < dx * dx + dy * dy := by
    have h1 := sq_nn dx
    have h2 := sq_nn dy
    rcases Int.lt_or_eq_of_le h2 with h | h
    · omega
    · exact absurd (sq_z (Int.le_of_eq h.symm)) hn
  have hf : (x' * dx + y' * dy) * dy = y' * (dx * dx + dy * dy) := by grind
  have hr := sq_nn r
  split
  · rename_i h1
    have hc : x' * dy - y' * dx = 0 := by omega
    split
    · rw [hc]
      have := Int.mul_nonneg hr (Int.le_of_lt hL)
      omega
    · rename_i h2
      -- foot = L, then the point is the far end
      have e : x' * dx + y' * dy - (dx * dx + dy * dy) = 0 ∨ 0 < x' * dx + y' * dy - (dx * dx + dy * dy) := by omega
      have hg : (x' * dx + y' * dy - (dx * dx + dy * dy)) * dy = (y' - dy) * (dx * dx + dy * dy) := by grind
      have e3 : x' * dx + y' * dy - (dx * dx + dy * dy) = 0 := by
        rcases e with e | e
        · exact e
        · exfalso
          rcases hy with ⟨y1, y2⟩ | ⟨y1, y2⟩ | ⟨y1, y2⟩
          · have := Int.mul_pos e (show 0 < dy by omega)
            have := Int.mul_neg_of_neg_of_pos (show y' - dy < 0 by omega) hL
            omega
          · have := Int.mul_neg_of_pos_of_neg e (show dy < 0 by omega)
            have := Int.mul_nonneg (show 0 ≤ y' - dy by omega) (Int.le_of_lt hL)
            omega
          · have := Int.mul_neg_of_pos_of_neg e (show dy < 0 by omega)
            have := Int.mul_nonneg (show 0 ≤ y' - dy by omega) (Int.le_of_lt hL)
            omega
      have e4 : y' - dy = 0 := by
        have : (y' - dy) * (dx * dx + dy * dy) = 0 := by rw [← hg, e3]; simp
        rcases Int.mul_eq_zero.mp this with h | h
        · exact h
        · omega
      have e5 : y' = dy := by omega
      have e6 : x' - dx = 0 := by
        have : (x' - dx) * dy = 0 := by rw [e5] at ht; grind
        rcases Int.mul_eq_zero.mp this with h | h
        · exact h
        · exact absurd h hn
      rw [e4, e6]; simp; omega
  · rename_i h1
    have e3 : x' * dx + y' * dy = 0 := by
      rcases Int.lt_or_eq_of_le (Int.not_lt.mp h1) with e | e
      · exfalso
        rcases hy with ⟨y1, y2⟩ | ⟨y1, y2⟩ | ⟨y1, y2⟩
        · have := Int.mul_neg_of_neg_of_pos e (show 0 < dy by omega)
          have := Int.mul_nonneg y1 (Int.le_of_lt hL)
          omega
        · have := Int.mul_pos_of_neg_of_neg e (show dy < 0 by omega)
          have := Int.mul_neg_of_neg_of_pos y2 hL
          omega
        · have := Int.mul_pos_of_neg_of_neg e (show dy < 0 by omega)
          have := Int.mul_nonpos_of_nonpos_of_nonneg y2 (Int.le_of_lt hL)
          omega
      · exact e
    have e4 : y' = 0 := by
      have : y' * (dx * dx + dy * dy) = 0 := by rw [← hf, e3]; simp
      rcases Int.mul_eq_zero.mp this with h | h
      · exact h
      · omega
    have e6 : x' = 0 := by
      have : x' * dy = 0 := by rw [ht, e4]; simp
      rcases Int.mul_eq_zero.mp this with h | h
      · exact h
      · exact absurd h hn
    rw [e4, e6]; simp; omega
theorem tri {p p' q q' r r' s s' t t' : Prop} [Decidable p] [Decidable p'] [Decidable q] [Decidable q'] [Decidable r] [Decidable s] [Decidable t] (e1 : p ↔ p') (e2 : q ↔ q') (e3 : r ↔ r') (e4 : s ↔ s') (e5 : t ↔ t') :
    (if p then (if q then !decide r else !decide s) else !decide t) = true ↔ (if p' then (if q' then ¬ r' else ¬ s') else ¬ t') := by
  by_cases h1 : p <;> by_cases h2 : q
  · rw [if_pos h1, if_pos h2, if_pos (e1.mp h1), if_pos (e2.mp h2), ← e3]; simp
  · rw [if_pos h1, if_neg h2, if_pos (e1.mp h1), if_neg (fun h => h2 (e2.mpr h)), ← e4]; simp
  · rw [if_neg h1, if_neg (fun h => h1 (e1.mpr h)), ← e5]; simp
  · rw [if_neg h1, if_neg (fun h => h1 (e1.mpr h)), ← e5]; simp
section GR
variable {a : Pts} {f : Nat → Nat → Int32} {x y : Nat → Int} {v c n : Nat} {cx cy r : Int}
theorem near_iff (_hn : n = a.length) (hX : ∀ k, k < n → I3 (f 25 (8 * v + k)) (x k) 1000) (hY : ∀ k, k < n → I3 (f 26 (8 * v + k)) (y k) 1000) (h0 : I3 (f 0 c) cx 1000) (h1 : I3 (f 1 c) cy 1000) (h2 : I3 (f 2 c) r 2000) {k : Nat} (hk : k < n) :
    mNear f v c n k = true ↔ (if 0 < (cx - x k) * (x (nx n k) - x k) + (cy - y k) * (y (nx n k) - y k) then (if (cx - x k) * (x (nx n k) - x k) + (cy - y k) * (y (nx n k) - y k) < (x (nx n k) - x k) * (x (nx n k) - x k) + (y (nx n k) - y k) * (y (nx n k) - y k) then ¬ r * r * ((x (nx n k) - x k) * (x (nx n k) - x k) + (y (nx n k) - y k) * (y (nx n k) - y k)) < ((cx - x k) * (y (nx n k) - y k) - (cy - y k) * (x (nx n k) - x k)) * ((cx - x k) * (y (nx n k) - y k) - (cy - y k) * (x (nx n k) - x k)) else ¬ r * r < ((cx - x k) - (x (nx n k) - x k)) * ((cx - x k) - (x (nx n k) - x k)) + ((cy - y k) - (y (nx n k) - y k)) * ((cy - y k) - (y (nx n k) - y k))) else ¬ r * r < (cx - x k) * (cx - x k) + (cy - y k) * (cy - y k)) := by
  have hk' := nx_lt hk
  have dX := (I3.sub (hX _ hk') (hX k hk) (by decide)).long
  have dY := (I3.sub (hY _ hk') (hY k hk) (by decide)).long
  have qX := (I3.sub h0 (hX k hk) (by decide)).long
  have qY := (I3.sub h1 (hY k hk) (by decide)).long
  have R := I6.mul h2.long h2.long (by decide)
  have foot := I6.add (I6.mul qX dX (by decide)) (I6.mul qY dY (by decide)) (by decide)
  have L := I6.add (I6.mul dX dX (by decide)) (I6.mul dY dY (by decide)) (by decide)
  have C := I6.sub (I6.mul qX dY (by decide)) (I6.mul qY dX (by decide)) (by decide)
  have e1 := I6.z.lt foot
  have e2 := foot.lt L
  have e3 := (I6.mul R L (by decide)).lt (I6.mul C C (by decide))
  have e4 := R.lt (I6.add (I6.mul (I6.sub qX dX (by decide)) (I6.sub qX dX (by decide)) (by decide)) (I6.mul (I6.sub qY dY (by decide)) (I6.sub qY dY (by decide)) (by decide)) (by decide))
  have e5 := R.lt (I6.add (I6.mul qX qX (by decide)) (I6.mul qY qY (by decide)) (by decide))
  simp only [mNear, nx_mod hk]
  exact tri e1 e2 e3 e4 e5
theorem side_iff (hn : n = a.length) (cX : ∀ k, I3 (pX a k) (x k) 1000) (cY : ∀ k, I3 (pY a k) (y k) 1000) {X Y R : Int32} (h0 : I3 X cx 1000) (h1 : I3 Y cy 1000) (h2 : I3 R r 2000) {k : Nat} (_hk : k < n) :
    cSide a k X Y R = true ↔ (if 0 < (cx - x k) * (x (nx n k) - x k) + (cy - y k) * (y (nx n k) - y k) then (if (cx - x k) * (x (nx n k) - x k) + (cy - y k) * (y (nx n k) - y k) < (x (nx n k) - x k) * (x (nx n k) - x k) + (y (nx n k) - y k) * (y (nx n k) - y k) then ¬ r * r * ((x (nx n k) - x k) * (x (nx n k) - x k) + (y (nx n k) - y k) * (y (nx n k) - y k)) < ((cx - x k) * (y (nx n k) - y k) - (cy - y k) * (x (nx n k) - x k)) * ((cx - x k) * (y (nx n k) - y k) - (cy - y k) * (x (nx n k) - x k)) else ¬ r * r < ((cx - x k) - (x (nx n k) - x k)) * ((cx - x k) - (x (nx n k) - x k)) + ((cy - y k) - (y (nx n k) - y k)) * ((cy - y k) - (y (nx n k) - y k))) else ¬ r * r < (cx - x k) * (cx - x k) + (cy - y k) * (cy - y k)) := by
  have dX := (I3.sub (cX (nx n k)) (cX k) (by decide)).long
  have dY := (I3.sub (cY (nx n k)) (cY k) (by decide)).long
  have qX := (I3.sub h0 (cX k) (by decide)).long
  have qY := (I3.sub h1 (cY k) (by decide)).long
  have sX := (I3.sub h0 (cX (nx n k)) (by decide)).long
  have sY := (I3.sub h1 (cY (nx n k)) (by decide)).long
  have rr := I6.mul h2.long h2.long (by decide)
  have foot := I6.add (I6.mul dX qX (by decide)) (I6.mul dY qY (by decide)) (by decide)
  have L := I6.add (I6.mul dX dX (by decide)) (I6.mul dY dY (by decide)) (by decide)
  have C := i3_cT (cX k) (cY k) (cX (nx n k)) (cY (nx n k)) h0 h1
  have e1 := I6.z.lt foot
  have e2 := foot.lt L
  have e3 := (I6.mul rr L (by decide)).lt (I6.mul C C (by decide))
  have e4 := rr.lt (I6.add (I6.mul sX sX (by decide)) (I6.mul sY sY (by decide)) (by decide))
  have e5 := rr.lt (I6.add (I6.mul qX qX (by decide)) (I6.mul qY qY (by decide)) (by decide))
  have g1 : (x (nx n k) - x k) * (cx - x k) + (y (nx n k) - y k) * (cy - y k) = (cx - x k) * (x (nx n k) - x k) + (cy - y k) * (y (nx n k) - y k) := by grind
  have g2 : tr (x k) (y k) (x (nx n k)) (y (nx n k)) cx cy * tr (x k) (y k) (x (nx n k)) (y (nx n k)) cx cy = ((cx - x k) * (y (nx n k) - y k) - (cy - y k) * (x (nx n k) - x k)) * ((cx - x k) * (y (nx n k) - y k) - (cy - y k) * (x (nx n k) - x k)) := by unfold tr; grind
  have g3 : (cx - x k) - (x (nx n k) - x k) = cx - x (nx n k) := by omega
  have g4 : (cy - y k) - (y (nx n k) - y k) = cy - y (nx n k) := by omega
  rw [g1] at e1 e2
  rw [g2] at e3
  rw [g3, g4]
  simp only [cSide, cTurn, cSq, ← hn]
  exact tri e1 e2 e3 e4 e5
theorem cross_eq (hn : n = a.length) (hX : ∀ k, k < n → I3 (f 25 (8 * v + k)) (x k) 1000) (hY : ∀ k, k < n → I3 (f 26 (8 * v + k)) (y k) 1000) (cX : ∀ k, I3 (pX a k) (x k) 1000) (cY : ∀ k, I3 (pY a k) (y k) 1000) (h0 : I3 (f 0 c) cx 1000) (h1 : I3 (f 1 c) cy 1000) (h2 : I3 (f 2 c) r 2000) (hr : 0 ≤ r) {k : Nat} (hk : k < n) (hne : mNear f v c n k = false) :
    mCrs f v c n k = cCross a k (f 0 c) (f 1 c) := by
  have hk' := nx_lt hk
  have hm := near_iff hn hX hY h0 h1 h2 hk
  have C := i3_cT (cX k) (cY k) (cX (nx n k)) (cY (nx n k)) h0 h1
  have M := i3_mC (hX k hk) (hY k hk) (hX _ hk') (hY _ hk') h0 h1
  have a1 := h1.lt (hY k hk)
  have a2 := (hY _ hk').le h1
  have a3 := h1.lt (hY _ hk')
  have a4 := (hY k hk).le h1
  have a5 := I3.z.lt M
  have a6 := I3.z.le M
  have b1 := (cY k).le h1
  have b2 := (cY (nx n k)).le h1
  have b3 := (cY (nx n k)).le (cY k)
  have b4 := C.le I6.z
  have key : ((y k ≤ cy ∧ cy < y (nx n k)) ∨ (y (nx n k) ≤ cy ∧ cy < y k)) → tr (x k) (y k) (x (nx n k)) (y (nx n k)) cx cy ≠ 0 := by
    intro hs ht
    rw [hne] at hm
    refine absurd (hm.mpr (near_zero (by unfold tr at ht; grind) ?_ hr)) (by decide)
    omega
  unfold mCrs cCross mUp mDn mSd cTurn
  rw [nx_mod hk, ← hn]
  simp only [a1, a2, a3, a4, a5, a6, b1, b2, b3, b4]
  generalize tr (x k) (y k) (x (nx n k)) (y (nx n k)) cx cy = t at *
  rw [Bool.eq_iff_iff]
  simp only [Bool.or_eq_true, Bool.and_eq_true, Bool.not_eq_true', decide_eq_false_iff_not, decide_eq_true_iff, beq_eq_false_iff_ne, ne_eq, beq_iff_eq, Bool.not_inj_iff, decide_eq_decide]
  omega
theorem mNr_iff (k : Nat) : mNr f v c n k = true ↔ mIn f v c n n = true ∨ ∃ j, j < k ∧ mNear f v c n j = true := by
  induction k with
  | zero => simp [mNr]
  | succ k ih =>
    rw [mNr, Bool.or_eq_true, ih]
    constructor
    · rintro ((h | ⟨j, h1, h2⟩) | h)
      · exact Or.inl h
      · exact Or.inr ⟨j, by omega, h2⟩
      · exact Or.inr ⟨k, by omega, h⟩
    · rintro (h | ⟨j, h1, h2⟩)
      · exact Or.inl (Or.inl h)
      · by_cases hj : j = k
        · subst hj; exact Or.inr h2
        · exact Or.inl (Or.inr ⟨j, by omega, h2⟩)
theorem reach_eq (hn : n = a.length) (hX : ∀ k, k < n → I3 (f 25 (8 * v + k)) (x k) 1000) (hY : ∀ k, k < n → I3 (f 26 (8 * v + k)) (y k) 1000) (cX : ∀ k, I3 (pX a k) (x k) 1000) (cY : ∀ k, I3 (pY a k) (y k) 1000) (h0 : I3 (f 0 c) cx 1000) (h1 : I3 (f 1 c) cy 1000) (h2 : I3 (f 2 c) r 2000) (hr : 0 ≤ r) :
    mNr f v c n n = cReach a (f 0 c) (f 1 c) (f 2 c) := by
  rw [Bool.eq_iff_iff, mNr_iff]
  unfold cReach
  rw [Bool.or_eq_true, List.any_eq_true, ← hn]
  by_cases hs : ∃ j, j < n ∧ mNear f v c n j = true
  · refine iff_of_true (Or.inr hs) (Or.inl ?_)
    obtain ⟨j, j1, j2⟩ := hs
    exact ⟨j, List.mem_range.mpr j1, (side_iff hn cX cY h0 h1 h2 j1).mpr ((near_iff hn hX hY h0 h1 h2 j1).mp j2)⟩
  · have hno : ∀ j, j < n → mNear f v c n j = false := by
      intro j hj
      cases h : mNear f v c n j with
      | false => rfl
      | true => exact absurd ⟨j, hj, h⟩ hs
    have hno2 : ¬ ∃ j, j ∈ List.range n ∧ cSide a j (f 0 c) (f 1 c) (f 2 c) = true := by
      rintro ⟨j, j1, j2⟩
      have j3 := List.mem_range.mp j1
      exact hs ⟨j, j3, (near_iff hn hX hY h0 h1 h2 j3).mpr ((side_iff hn cX cY h0 h1 h2 j3).mp j2)⟩
    have hin : ∀ k, k ≤ n → mIn f v c n k = cInTo a (f 0 c) (f 1 c) k := by
      intro k
      induction k with
      | zero => intro _; rfl
      | succ k ih =>
        intro hk
        rw [mIn, cInTo, ih (by omega), cross_eq hn hX hY cX cY h0 h1 h2 hr (by omega) (hno k (by omega))]
    rw [hin n (Nat.le_refl n)]
    constructor
    · rintro (h | h)
      · exact Or.inr h
      · exact absurd h hs
    · rintro (h | h)
      · exact absurd h hno2
      · exact Or.inl h
end GR
