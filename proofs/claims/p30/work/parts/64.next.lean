/-- a link to a block of the next height, from b -/
def hasNext (C : XO) (c b : Nat) : Prop := ∃ t, t < 24 ∧ LCl C c b t ∧ xI C 2 (24 * c + t) 0 = xI C 2 (24 * c + b) 0 + 1
theorem cNext_l {D : XD} {C M : XO} (h : RGD D C M) {c b : Nat} (hc : c < 2) (hb : b < 24) : ∀ (n k : Nat), n = 25 - k → k ≤ 24 → (fX2_justifiesNext_l C c (24 * c + b) n k = 1 ∧ hasNext C c b) ∨ (fX2_justifiesNext_l C c (24 * c + b) n k = 0 ∧ ∀ t, k ≤ t → t < 24 → ¬ (LCl C c b t ∧ xI C 2 (24 * c + t) 0 = xI C 2 (24 * c + b) 0 + 1)) := by
  intro n
  induction n with
  | zero => exact fun k hn hk => absurd hn (by omega)
  | succ n ih =>
    intro k hn hk
    rw [fX2_justifiesNext_l]
    by_cases q : k = 24
    · subst q
      rw [if_pos (show nI (alen 2002) ≤ nI 24 by decide)]
      exact Or.inr ⟨rfl, fun t h1 h2 => absurd h1 (by omega)⟩
    · have hk2 : k < 24 := by omega
      rw [if_neg (show ¬ nI (alen 2002) ≤ nI k from nI_ge (b := 24) hk2 (by decide)), cl_nI (by omega), h.NO _ (show 24 * c + k < 48 by omega), show (24 * c + k) % 24 = k by omega]
      have hne : ¬ (LCl C c b k ∧ xI C 2 (24 * c + k) 0 = xI C 2 (24 * c + b) 0 + 1) → fX2_justifiesNext_l C c (24 * c + b) n (k + 1) = fX2_justifiesNext_l C c (24 * c + b) n (k + 1) → (fX2_justifiesNext_l C c (24 * c + b) n (k + 1) = 1 ∧ hasNext C c b) ∨ (fX2_justifiesNext_l C c (24 * c + b) n (k + 1) = 0 ∧ ∀ t, k ≤ t → t < 24 → ¬ (LCl C c b t ∧ xI C 2 (24 * c + t) 0 = xI C 2 (24 * c + b) 0 + 1)) := by
        intro z _
        rcases ih (k + 1) (by omega) (by omega) with r | ⟨r1, r2⟩
        · exact Or.inl r
        · refine Or.inr ⟨r1, fun t h1 h2 => ?_⟩
          by_cases e : t = k
          · rw [e]
            exact z
          · exact r2 t (by omega) h2
      by_cases q1 : ((xI C 15 (24 * c + b) 0) >>> (nI k &&& 31)) &&& 1 = 1
      · rw [if_pos q1]
        by_cases q2 : xI C 2 (24 * c + k) 0 = xI C 2 (24 * c + b) 0 + 1
        · rw [if_pos q2]
          exact Or.inl ⟨rfl, k, hk2, q1, q2⟩
        · rw [if_neg q2]
          exact hne (fun z => q2 z.2) rfl
      · rw [if_neg q1]
        exact hne (fun z => q1 z.1) rfl
theorem cNext {D : XD} {C M : XO} (h : RGD D C M) {c b : Nat} (hc : c < 2) (hb : b < 24) : (fX2_justifiesNext C c (24 * c + b) = 1 ∧ hasNext C c b) ∨ (fX2_justifiesNext C c (24 * c + b) = 0 ∧ ¬ hasNext C c b) := by
  rcases cNext_l h hc hb 25 0 rfl (by decide) with r | ⟨r1, r2⟩
  · exact Or.inl r
  · exact Or.inr ⟨r1, fun ⟨t, h1, h2⟩ => r2 t (Nat.zero_le _) h1 h2⟩
theorem mNext_l {D : XD} {C M : XO} (h : RGD D C M) {c b : Nat} {y4 : Int32} (hc : c < 2) (hb : b < dnb D c) : ∀ (n k a : Nat), n = dnb D c - k + 1 → k ≤ dnb D c → a ≤ 1 → ∃ z a', a' ≤ 1 ∧ fX11_justify_l280 M (nI b) y4 (nI c) n (nI k) (nI a) = some (z, nI a') ∧ (a' = 1 ↔ a = 1 ∨ ∃ t, k ≤ t ∧ t < dnb D c ∧ LCl C c b t ∧ xI C 2 (24 * c + t) 0 = xI C 2 (24 * c + b) 0 + 1) := by
  obtain ⟨b1, b2, b3, b4⟩ := h.NB c hc
  intro n
  induction n with
  | zero => exact fun k a hn hk ha => absurd hn (by omega)
  | succ n ih =>
    intro k a hn hk ha
    rw [fX11_justify_l280, if_pos (inB_nI hc (by decide)), cl_nI (show c < 2147483648 by omega), b2]
    by_cases q : k = dnb D c
    · rw [if_pos (by rw [q]; exact Int32.le_refl _)]
      refine ⟨nI k, a, ha, rfl, ⟨fun z => Or.inl z, ?_⟩⟩
      rintro (z | ⟨t, h1, h2, -⟩)
      · exact z
      · omega
    · have hkn : k < dnb D c := by omega
      obtain ⟨d1, d2⟩ := idx3 hc (show b < 24 by omega) (show k < 24 by omega)
      obtain ⟨g1, -, g3⟩ := inB_24 hc (show b < 24 by omega)
      obtain ⟨g4, -, g6⟩ := inB_24 hc (show k < 24 by omega)
      rw [if_neg (nI_ge hkn (by omega)), if_pos d1, d2, if_pos g1, if_pos g4, g3, g6, ← (h.B2 _ (show 24 * c + k < 48 by omega)).1, ← (h.B2 _ (show 24 * c + b < 48 by omega)).1]
      have hj : ∃ j, j ≤ 1 ∧ (j = 1 ↔ LCl C c b k ∧ xI C 2 (24 * c + k) 0 = xI C 2 (24 * c + b) 0 + 1) ∧ (if xI M 2134 0 (576 * c + 24 * b + k) = 1 then (if xI C 2 (24 * c + k) 0 = xI C 2 (24 * c + b) 0 + 1 then some (1 : Int32) else some 0) else some 0) = some (nI j) := by
        rcases h.JU c hc b (by omega) k (by omega) with ⟨z1, z2⟩ | ⟨z1, z2⟩
        · rw [z2, if_pos rfl]
          by_cases q2 : xI C 2 (24 * c + k) 0 = xI C 2 (24 * c + b) 0 + 1
          · exact ⟨1, Nat.le_refl _, ⟨fun _ => ⟨z1, q2⟩, fun _ => rfl⟩, if_pos q2⟩
          · exact ⟨0, by decide, ⟨fun z => absurd z (by decide), fun z => absurd z.2 q2⟩, if_neg q2⟩
        · rw [z2, if_neg (by decide)]
          exact ⟨0, by decide, ⟨fun z => absurd z (by decide), fun z => absurd z.1 z1⟩, rfl⟩
      obtain ⟨j, hj1, hj2, hj3⟩ := hj
      rw [hj3, Option.bind_some, or01 a j ha hj1, nI_1]
      obtain ⟨z, a', p1, p2, p3⟩ := ih (k + 1) (if a = 1 ∨ j = 1 then 1 else 0) (by omega) (by omega) if01
      refine ⟨z, a', p1, p2, ?_⟩
      rw [p3]
      constructor
      · rintro (y | ⟨t, h1, h2, h3⟩)
        · by_cases q2 : a = 1
          · exact Or.inl q2
          · by_cases q3 : j = 1
            · exact Or.inr ⟨k, Nat.le_refl _, hkn, hj2.mp q3⟩
            · rw [if_neg (by omega)] at y
              exact absurd y (by decide)
        · exact Or.inr ⟨t, by omega, h2, h3⟩
      · rintro (y | ⟨t, h1, h2, h3⟩)
        · exact Or.inl (if_pos (Or.inl y))
        · by_cases e : t = k
          · subst e
            exact Or.inl (if_pos (Or.inr (hj2.mpr h3)))
          · exact Or.inr ⟨t, by omega, h2, h3⟩
theorem mNext {D : XD} {C M : XO} (h : RGD D C M) {c b : Nat} {y4 : Int32} (hc : c < 2) (hb : b < dnb D c) : ∃ z a, a ≤ 1 ∧ fX11_justify_l280 M (nI b) y4 (nI c) ((xI M 2109 0 (nI c).toNatClampNeg).toNatClampNeg + 1) 0 0 = some (z, nI a) ∧ (a = 1 ↔ hasNext C c b) := by
  obtain ⟨b1, b2, b3, b4⟩ := h.NB c hc
  obtain ⟨z, a, p1, p2, p3⟩ := mNext_l (y4 := y4) h hc hb (dnb D c + 1) 0 0 (by omega) (Nat.zero_le _) (by decide)
  refine ⟨z, a, p1, ?_, ?_⟩
  · rw [cl_nI (show c < 2147483648 by omega), b2, cl_nI (by omega)]
    exact p2
  · rw [p3]
    constructor
    · rintro (y | ⟨t, -, h2, h3⟩)
      · exact absurd y (by decide)
      · exact ⟨t, by omega, h3⟩
    · rintro ⟨t, h2, h3⟩
      exact Or.inr ⟨t, Nat.zero_le _, ((h.JL c hc).2 b (by omega) t h2 h3.1).1, h3⟩
/-- what comes from x is x or higher -/
theorem anc_hi {D : XD} {C M : XO} (h : RGD D C M) {c x : Nat} (hc : c < 2) : ∀ (n b : Nat), b ≤ n → b < dnb D c → Anc (dpa D c) b x → b = x ∨ (xI C 2 (24 * c + x) 0).toInt < (xI C 2 (24 * c + b) 0).toInt := by
  obtain ⟨b1, b2, b3, b4⟩ := h.NB c hc
  intro n
  induction n with
  | zero =>
    intro b hb hb2 ha
    rcases (Anc_iff (h.par hc hb2)).mp ha with z | ⟨z, -⟩
    · exact Or.inl z.symm
    · omega
  | succ n ih =>
    intro b hb hb2 ha
    rcases (Anc_iff (h.par hc hb2)).mp ha with z | ⟨z, hz⟩
    · exact Or.inl z.symm
    · have hp := (h.PA c hc b hb2).2 z
      obtain ⟨⟨q1, q2⟩, q3⟩ := (h.HT c hc).2 b hb2
      obtain ⟨⟨q4, q5⟩, -⟩ := (h.HT c hc).2 (dpa D c b) (by omega)
      have q6 := q3 z
      have e1 : (1 : Int32).toInt = 1 := rfl
      have q7 : (xI C 2 (24 * c + b) 0).toInt = (xI C 2 (24 * c + dpa D c b) 0).toInt + 1 := by
        rw [q6, ti_add (by rw [e1]; omega) (by rw [e1]; omega), e1]
      rcases ih (dpa D c b) (by omega) (by omega) hz with y | y
      · rw [y] at q7
        exact Or.inr (by omega)
      · exact Or.inr (by omega)
