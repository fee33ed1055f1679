/-- which cell of the reference's machine mirrors a cell of the class's machine: running on block b, state sg, d calls deep, the reference's block blk -/
def ph (b sg d blk k i j : Nat) : Option (Nat × Nat) :=
  if k = 2011 then (if i = sg ∧ j < 16 then some (2101, j) else if 49 ≤ i ∧ i < 49 + d ∧ j < 16 then some (2102, 120 * (i - 49) + j) else none)
  else if k = 2012 then (if i = sg ∧ j < 16 then some (2101, 16 + j) else if 49 ≤ i ∧ i < 49 + d ∧ j < 16 then some (2102, 120 * (i - 49) + (16 + j)) else none)
  else if k = 2013 then (if i = sg ∧ j < 16 then some (2101, 32 + j) else if 49 ≤ i ∧ i < 49 + d ∧ j < 16 then some (2102, 120 * (i - 49) + (32 + j)) else none)
  else if k = 2014 then (if i = sg ∧ j < 64 then some (2101, 48 + j) else if 49 ≤ i ∧ i < 49 + d ∧ j < 64 then some (2102, 120 * (i - 49) + (48 + j)) else none)
  else if k = 604 then (if i = sg ∧ j = 0 then some (2101, 112) else if 49 ≤ i ∧ i < 49 + d ∧ j = 0 then some (2102, 120 * (i - 49) + 112) else none)
  else if k = 10 then (if i = b ∧ j = 0 then some (2130, blk) else none)
  else if k = 406 then (if i = 0 ∧ j = 0 then some (1154, 0) else none)
  else if k = 301 then (if i < d ∧ j = 0 then some (2148, i) else none)
  else if k = 303 then (if i < d ∧ j = 0 then some (2150, i) else none)
  else if k = 304 then (if i < d ∧ j = 0 then some (2140, i) else none)
  else if k = 305 then (if i < d ∧ j = 0 then some (2141, i) else none)
  else if k = 306 then (if i < d ∧ j = 0 then some (2142, i) else none)
  else if k = 307 then (if i < d ∧ j = 0 then some (2143, i) else none)
  else if k = 308 then (if i < d ∧ j = 0 then some (2145, i) else none)
  else if k = 309 then (if i < d ∧ j = 0 then some (2146, i) else none)
  else if k = 310 then (if i < d ∧ j = 0 then some (2144, i) else none)
  else if k = 312 then (if i < d ∧ j = 0 then some (2152, i) else none)
  else if k = 313 then (if i < d ∧ j = 0 then some (2151, i) else none)
  else if k = 2006 then (if i < d ∧ j < 16 then some (2149, 16 * i + j) else none)
  else if k = 2008 then (if i = 0 ∧ j < 160 then some (2103, j) else none)
  else if k = 2009 then (if i = 0 ∧ j < 160 then some (2104, j) else none)
  else if k = 2010 then (if i = 0 ∧ j < 8 then some (2105, j) else none)
  else none
def qh (b sg k j : Nat) : Nat × Nat × Nat :=
  if k = 2101 then (if j < 16 then (2011, sg, j) else if j < 32 then (2012, sg, j - 16) else if j < 48 then (2013, sg, j - 32) else if j < 112 then (2014, sg, j - 48) else (604, sg, 0))
  else if k = 2102 then (if j % 120 < 16 then (2011, 49 + j / 120, j % 120) else if j % 120 < 32 then (2012, 49 + j / 120, j % 120 - 16) else if j % 120 < 48 then (2013, 49 + j / 120, j % 120 - 32) else if j % 120 < 112 then (2014, 49 + j / 120, j % 120 - 48) else (604, 49 + j / 120, 0))
  else if k = 2130 then (10, b, 0)
  else if k = 1154 then (406, 0, 0)
  else if k = 2148 then (301, j, 0)
  else if k = 2150 then (303, j, 0)
  else if k = 2140 then (304, j, 0)
  else if k = 2141 then (305, j, 0)
  else if k = 2142 then (306, j, 0)
  else if k = 2143 then (307, j, 0)
  else if k = 2145 then (308, j, 0)
  else if k = 2146 then (309, j, 0)
  else if k = 2144 then (310, j, 0)
  else if k = 2152 then (312, j, 0)
  else if k = 2151 then (313, j, 0)
  else if k = 2149 then (2006, j / 16, j % 16)
  else if k = 2103 then (2008, 0, j)
  else if k = 2104 then (2009, 0, j)
  else if k = 2105 then (2010, 0, j)
  else (0, 0, 0)
theorem dm120 {a r : Nat} (h : r < 120) : (120 * a + r) / 120 = a ∧ (120 * a + r) % 120 = r := by omega
theorem qh_ph {b sg d blk k i j : Nat} (hs : sg ≤ 48) {c : Nat × Nat} (h : ph b sg d blk k i j = some c) : qh b sg c.1 c.2 = (k, i, j) := by
  have s1 : ∀ {p : Prop} [Decidable p] {x : Nat × Nat}, (if p then some x else none) = some c → p ∧ x = c := by
    intro p _ x hx
    split at hx
    · cases hx; exact ⟨by assumption, rfl⟩
    · cases hx
  have s2 : ∀ {p q : Prop} [Decidable p] [Decidable q] {x y : Nat × Nat}, (if p then some x else if q then some y else none) = some c → (p ∧ x = c) ∨ (q ∧ y = c) := by
    intro p q _ _ x y hx
    split at hx
    · cases hx; exact Or.inl ⟨by assumption, rfl⟩
    · exact Or.inr (s1 hx)
  unfold ph at h
  by_cases q : k = 2011
  · rw [if_pos q] at h
    subst q
    rcases s2 h with ⟨⟨rfl, q2⟩, rfl⟩ | ⟨⟨q1, q2, q3⟩, rfl⟩
    · simp only [qh, Nat.reduceEqDiff, if_true, if_false]
      (repeat' split) <;> first | (exfalso; omega) | (simp only [Prod.mk.injEq, true_and, and_true] <;> omega)
    · obtain ⟨e1, e2⟩ := dm120 (a := i - 49) (r := j) (by omega)
      simp only [qh, Nat.reduceEqDiff, if_true, if_false, e1, e2]
      (repeat' split) <;> first | (exfalso; omega) | (simp only [Prod.mk.injEq, true_and, and_true] <;> omega)
  rw [if_neg q] at h
  clear q
  by_cases q : k = 2012
  · rw [if_pos q] at h
    subst q
    rcases s2 h with ⟨⟨rfl, q2⟩, rfl⟩ | ⟨⟨q1, q2, q3⟩, rfl⟩
    · simp only [qh, Nat.reduceEqDiff, if_true, if_false]
      (repeat' split) <;> first | (exfalso; omega) | (simp only [Prod.mk.injEq, true_and, and_true] <;> omega)
    · obtain ⟨e1, e2⟩ := dm120 (a := i - 49) (r := 16 + j) (by omega)
      simp only [qh, Nat.reduceEqDiff, if_true, if_false, e1, e2]
      (repeat' split) <;> first | (exfalso; omega) | (simp only [Prod.mk.injEq, true_and, and_true] <;> omega)
  rw [if_neg q] at h
  clear q
  by_cases q : k = 2013
  · rw [if_pos q] at h
    subst q
    rcases s2 h with ⟨⟨rfl, q2⟩, rfl⟩ | ⟨⟨q1, q2, q3⟩, rfl⟩
    · simp only [qh, Nat.reduceEqDiff, if_true, if_false]
      (repeat' split) <;> first | (exfalso; omega) | (simp only [Prod.mk.injEq, true_and, and_true] <;> omega)
    · obtain ⟨e1, e2⟩ := dm120 (a := i - 49) (r := 32 + j) (by omega)
      simp only [qh, Nat.reduceEqDiff, if_true, if_false, e1, e2]
      (repeat' split) <;> first | (exfalso; omega) | (simp only [Prod.mk.injEq, true_and, and_true] <;> omega)
  rw [if_neg q] at h
  clear q
  by_cases q : k = 2014
  · rw [if_pos q] at h
    subst q
    rcases s2 h with ⟨⟨rfl, q2⟩, rfl⟩ | ⟨⟨q1, q2, q3⟩, rfl⟩
    · simp only [qh, Nat.reduceEqDiff, if_true, if_false]
      (repeat' split) <;> first | (exfalso; omega) | (simp only [Prod.mk.injEq, true_and, and_true] <;> omega)
    · obtain ⟨e1, e2⟩ := dm120 (a := i - 49) (r := 48 + j) (by omega)
      simp only [qh, Nat.reduceEqDiff, if_true, if_false, e1, e2]
      (repeat' split) <;> first | (exfalso; omega) | (simp only [Prod.mk.injEq, true_and, and_true] <;> omega)
  rw [if_neg q] at h
  clear q
  by_cases q : k = 604
  · rw [if_pos q] at h
    subst q
    rcases s2 h with ⟨⟨rfl, q2⟩, rfl⟩ | ⟨⟨q1, q2, q3⟩, rfl⟩
    · simp only [qh, Nat.reduceEqDiff, if_true, if_false]
      (repeat' split) <;> first | (exfalso; omega) | (simp only [Prod.mk.injEq, true_and, and_true] <;> omega)
    · obtain ⟨e1, e2⟩ := dm120 (a := i - 49) (r := 112) (by omega)
      simp only [qh, Nat.reduceEqDiff, if_true, if_false, e1, e2]
      (repeat' split) <;> first | (exfalso; omega) | (simp only [Prod.mk.injEq, true_and, and_true] <;> omega)
  rw [if_neg q] at h
  clear q
  by_cases q : k = 10
  · rw [if_pos q] at h
    subst q
    obtain ⟨⟨q1, q2⟩, rfl⟩ := s1 h
    simp only [qh, Nat.reduceEqDiff, if_true, if_false, Prod.mk.injEq, true_and, and_true] <;> omega
  rw [if_neg q] at h
  clear q
  by_cases q : k = 406
  · rw [if_pos q] at h
    subst q
    obtain ⟨⟨q1, q2⟩, rfl⟩ := s1 h
    simp only [qh, Nat.reduceEqDiff, if_true, if_false, Prod.mk.injEq, true_and, and_true] <;> omega
  rw [if_neg q] at h
  clear q
  by_cases q : k = 301
  · rw [if_pos q] at h
    subst q
    obtain ⟨⟨q1, q2⟩, rfl⟩ := s1 h
    simp only [qh, Nat.reduceEqDiff, if_true, if_false, Prod.mk.injEq, true_and, and_true] <;> omega
  rw [if_neg q] at h
  clear q
  by_cases q : k = 303
  · rw [if_pos q] at h
    subst q
    obtain ⟨⟨q1, q2⟩, rfl⟩ := s1 h
    simp only [qh, Nat.reduceEqDiff, if_true, if_false, Prod.mk.injEq, true_and, and_true] <;> omega
  rw [if_neg q] at h
  clear q
  by_cases q : k = 304
  · rw [if_pos q] at h
    subst q
    obtain ⟨⟨q1, q2⟩, rfl⟩ := s1 h
    simp only [qh, Nat.reduceEqDiff, if_true, if_false, Prod.mk.injEq, true_and, and_true] <;> omega
  rw [if_neg q] at h
  clear q
  by_cases q : k = 305
  · rw [if_pos q] at h
    subst q
    obtain ⟨⟨q1, q2⟩, rfl⟩ := s1 h
    simp only [qh, Nat.reduceEqDiff, if_true, if_false, Prod.mk.injEq, true_and, and_true] <;> omega
  rw [if_neg q] at h
  clear q
  by_cases q : k = 306
  · rw [if_pos q] at h
    subst q
    obtain ⟨⟨q1, q2⟩, rfl⟩ := s1 h
    simp only [qh, Nat.reduceEqDiff, if_true, if_false, Prod.mk.injEq, true_and, and_true] <;> omega
  rw [if_neg q] at h
  clear q
  by_cases q : k = 307
  · rw [if_pos q] at h
    subst q
    obtain ⟨⟨q1, q2⟩, rfl⟩ := s1 h
    simp only [qh, Nat.reduceEqDiff, if_true, if_false, Prod.mk.injEq, true_and, and_true] <;> omega
  rw [if_neg q] at h
  clear q
  by_cases q : k = 308
  · rw [if_pos q] at h
    subst q
    obtain ⟨⟨q1, q2⟩, rfl⟩ := s1 h
    simp only [qh, Nat.reduceEqDiff, if_true, if_false, Prod.mk.injEq, true_and, and_true] <;> omega
  rw [if_neg q] at h
  clear q
  by_cases q : k = 309
  · rw [if_pos q] at h
    subst q
    obtain ⟨⟨q1, q2⟩, rfl⟩ := s1 h
    simp only [qh, Nat.reduceEqDiff, if_true, if_false, Prod.mk.injEq, true_and, and_true] <;> omega
  rw [if_neg q] at h
  clear q
  by_cases q : k = 310
  · rw [if_pos q] at h
    subst q
    obtain ⟨⟨q1, q2⟩, rfl⟩ := s1 h
    simp only [qh, Nat.reduceEqDiff, if_true, if_false, Prod.mk.injEq, true_and, and_true] <;> omega
  rw [if_neg q] at h
  clear q
  by_cases q : k = 312
  · rw [if_pos q] at h
    subst q
    obtain ⟨⟨q1, q2⟩, rfl⟩ := s1 h
    simp only [qh, Nat.reduceEqDiff, if_true, if_false, Prod.mk.injEq, true_and, and_true] <;> omega
  rw [if_neg q] at h
  clear q
  by_cases q : k = 313
  · rw [if_pos q] at h
    subst q
    obtain ⟨⟨q1, q2⟩, rfl⟩ := s1 h
    simp only [qh, Nat.reduceEqDiff, if_true, if_false, Prod.mk.injEq, true_and, and_true] <;> omega
  rw [if_neg q] at h
  clear q
  by_cases q : k = 2006
  · rw [if_pos q] at h
    subst q
    obtain ⟨⟨q1, q2⟩, rfl⟩ := s1 h
    simp only [qh, Nat.reduceEqDiff, if_true, if_false, Prod.mk.injEq, true_and, and_true] <;> omega
  rw [if_neg q] at h
  clear q
  by_cases q : k = 2008
  · rw [if_pos q] at h
    subst q
    obtain ⟨⟨q1, q2⟩, rfl⟩ := s1 h
    simp only [qh, Nat.reduceEqDiff, if_true, if_false, Prod.mk.injEq, true_and, and_true] <;> omega
  rw [if_neg q] at h
  clear q
  by_cases q : k = 2009
  · rw [if_pos q] at h
    subst q
    obtain ⟨⟨q1, q2⟩, rfl⟩ := s1 h
    simp only [qh, Nat.reduceEqDiff, if_true, if_false, Prod.mk.injEq, true_and, and_true] <;> omega
  rw [if_neg q] at h
  clear q
  by_cases q : k = 2010
  · rw [if_pos q] at h
    subst q
    obtain ⟨⟨q1, q2⟩, rfl⟩ := s1 h
    simp only [qh, Nat.reduceEqDiff, if_true, if_false, Prod.mk.injEq, true_and, and_true] <;> omega
  rw [if_neg q] at h
  clear q
  cases h
def LK (b sg d blk : Nat) (Ωc Ωm : XO) : Prop := ∀ (k i j : Nat) (c : Nat × Nat), ph b sg d blk k i j = some c → xI Ωc k i j = xI Ωm c.1 0 c.2
theorem LK.up {b sg d blk : Nat} {Ωc Ωm : XO} (h : LK b sg d blk Ωc Ωm) (hs : sg ≤ 48) {k i j k' j' : Nat} (e : ph b sg d blk k i j = some (k', j')) (v : Int32) : LK b sg d blk (uI Ωc k i j v) (uI Ωm k' 0 j' v) := by
  intro k2 i2 j2 c2 h2
  rw [I_uI, I_uI]
  by_cases q : k2 = k ∧ i2 = i ∧ j2 = j
  · obtain ⟨rfl, rfl, rfl⟩ := q
    rw [e] at h2
    cases h2
    rw [if_pos ⟨rfl, rfl, rfl⟩, if_pos ⟨rfl, rfl, rfl⟩]
  · rw [if_neg q, if_neg]
    · exact h _ _ _ _ h2
    · rintro ⟨q1, -, q2⟩
      have e1 := qh_ph hs e
      have e2 := qh_ph hs h2
      rw [q1, q2, e1] at e2
      cases e2
      exact q ⟨rfl, rfl, rfl⟩
theorem LK.upc {b sg d blk : Nat} {Ωc Ωm : XO} (h : LK b sg d blk Ωc Ωm) {k i j : Nat} (e : ph b sg d blk k i j = none) (v : Int32) : LK b sg d blk (uI Ωc k i j v) Ωm := by
  intro k2 i2 j2 c2 h2
  rw [I_uI]
  by_cases q : k2 = k ∧ i2 = i ∧ j2 = j
  · obtain ⟨rfl, rfl, rfl⟩ := q
    rw [e] at h2
    cases h2
  · rw [if_neg q]
    exact h _ _ _ _ h2
theorem LK.upm {b sg d blk : Nat} {Ωc Ωm : XO} (h : LK b sg d blk Ωc Ωm) (hs : sg ≤ 48) {k' j' : Nat} (e : ¬ ph b sg d blk (qh b sg k' j').1 (qh b sg k' j').2.1 (qh b sg k' j').2.2 = some (k', j')) (v : Int32) : LK b sg d blk Ωc (uI Ωm k' 0 j' v) := by
  intro k2 i2 j2 c2 h2
  rw [I_uI]
  by_cases q : c2.1 = k' ∧ (0 : Nat) = 0 ∧ c2.2 = j'
  · obtain ⟨rfl, -, rfl⟩ := q
    have e2 := qh_ph hs h2
    rw [e2] at e
    exact absurd h2 e
  · rw [if_neg q]
    exact h _ _ _ _ h2
