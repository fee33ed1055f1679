/-- a number is one of the first n, or none of them -/
theorem dix (x : Int32) {n : Nat} (hn : n < 2147483648) : (∃ k, k < n ∧ x = nI k) ∨ (x < 0 ∨ nI n ≤ x) := by
  by_cases h : x < 0
  · exact Or.inr (Or.inl h)
  · by_cases h2 : nI n ≤ x
    · exact Or.inr (Or.inr h2)
    · refine Or.inl ?_
      have e0 : (0 : Int32).toInt = 0 := rfl
      rw [ti_lt, e0] at h
      rw [ti_le, ti_nI hn] at h2
      obtain ⟨k, hk, e, e2⟩ := toI_nI (x := x) (by omega)
      exact ⟨k, by omega, e⟩
theorem nI_nlt0 {k : Nat} (h : k < 2147483648) : ¬ nI k < 0 := nI_pos h
theorem eIn (M : XO) (x a b : Int32) : fX11_in M x a b = some (if x < a then 0 else if b < x then 0 else 1) := by
  unfold fX11_in wl
  by_cases h1 : x < a
  · simp [h1]
  · by_cases h2 : b < x
    · simp [h1, h2]
    · simp [h1, h2]
theorem eIn1 {M : XO} {x a b : Int32} (h1 : ¬ x < a) (h2 : ¬ b < x) : fX11_in M x a b = some 1 := by rw [eIn, if_neg h1, if_neg h2]
theorem eIn0 {M : XO} {x a b : Int32} (h : x < a ∨ b < x) : fX11_in M x a b = some 0 := by
  rw [eIn]
  rcases h with h | h
  · rw [if_pos h]
  · by_cases h1 : x < a
    · rw [if_pos h1]
    · rw [if_neg h1, if_pos h]
theorem eHolds (M : XO) (x : Int32) : fX11_holds M x = some ((if x ≤ 0 then 0 else 1), uI M 1160 0 0 x) := by
  unfold fX11_holds wl
  by_cases h : x ≤ 0
  · simp [h]
  · simp [h]
theorem eChain1 {M : XO} {c : Nat} (hc : c < 2) : fX11_isChain M (nI c) = some 1 := by
  unfold fX11_isChain
  rw [ob_s (eIn1 (nI_nlt0 (by omega)) ?_)]
  · rfl
  · rw [show (1 : Int32) = nI 1 from rfl]
    exact nI_nlt (by omega) (by omega)
theorem eChain0 {M : XO} {x : Int32} (h : x < 0 ∨ nI 2 ≤ x) : fX11_isChain M x = some 0 := by
  unfold fX11_isChain
  rw [ob_s (eIn0 ?_)]
  · rfl
  · rcases h with h | h
    · exact Or.inl h
    · refine Or.inr ?_
      have e1 : (1 : Int32).toInt = 1 := rfl
      have e2 : (nI 2).toInt = 2 := rfl
      rw [ti_le, e2] at h
      rw [ti_lt, e1]
      omega
theorem cChain1 {Ω : XO} {c : Nat} (hc : c < 2) : eX10_demandChain Ω 0 (nI c) = none ∧ rX10_demandChain Ω 0 (nI c) = c := by
  have h1 : ¬ nI c < 0 := nI_nlt0 (by omega)
  have h2 : nI c < nI (alen 2016) := nI_lt (show c < 2 by omega) (by decide)
  unfold eX10_demandChain rX10_demandChain
  rw [if_neg h1, if_pos h2, if_neg h1, if_pos h2]
  exact ⟨rfl, nI_clamp (by omega)⟩
theorem cChain0 {Ω : XO} {x : Int32} (h : x < 0 ∨ nI 2 ≤ x) : eX10_demandChain Ω 0 x = some xIO := by
  unfold eX10_demandChain
  rcases h with h | h
  · rw [if_pos h]; rfl
  · by_cases h1 : x < 0
    · rw [if_pos h1]; rfl
    · rw [if_neg h1, if_neg (show ¬ x < nI (alen 2016) from Int32.not_lt.mpr h)]; rfl
theorem cIdx1 {Ω : XO} {k n : Nat} (h : k < n) (hn : n < 2147483648) : eX10_demandIndex Ω (nI k) (nI n) = none := by
  unfold eX10_demandIndex
  rw [if_neg (nI_nlt0 (by omega)), if_pos (nI_lt h hn)]
theorem cIdx0 {Ω : XO} {x y : Int32} (h : x < 0 ∨ y ≤ x) : eX10_demandIndex Ω x y = some xIO := by
  unfold eX10_demandIndex
  rcases h with h | h
  · rw [if_pos h]; rfl
  · by_cases h1 : x < 0
    · rw [if_pos h1]; rfl
    · rw [if_neg h1, if_neg (Int32.not_lt.mpr h)]; rfl
/-- ints and longs of these keys are the same -/
def agI (k : Nat) (Ω Ω' : XO) : Prop := ∀ i j, xI Ω' k i j = xI Ω k i j
def agL (k : Nat) (Ω Ω' : XO) : Prop := ∀ i j, xL Ω' k i j = xL Ω k i j
theorem inB_24 {c b : Nat} (hc : c < 2) (hb : b < 24) : inB ((24 : Int32) * nI c + nI b) 48 ∧ ((24 : Int32) * nI c + nI b) = nI (24 * c + b) ∧ ((24 : Int32) * nI c + nI b).toNatClampNeg = 24 * c + b := by
  have e : ((24 : Int32) * nI c + nI b) = nI (24 * c + b) := by
    rw [show (24 : Int32) = nI 24 from rfl, nI_mul, nI_add]
  exact ⟨by rw [e]; exact inB_nI (by omega) (by omega), e, by rw [e]; exact nI_clamp (by omega)⟩
def qNB (nb : Nat → Nat) (C M : XO) : Prop := ∀ c, c < 2 → xI C 101 c 0 = nI (nb c) ∧ xI M 2109 0 c = nI (nb c) ∧ 1 ≤ nb c ∧ nb c ≤ 24
theorem eBlk1 {nb : Nat → Nat} {C M : XO} (h : qNB nb C M) {c b : Nat} (hc : c < 2) (hb : b < nb c) : fX11_isBlock M (nI c) (nI b) = some 1 := by
  obtain ⟨h1, h2, h3, h4⟩ := h c hc
  unfold fX11_isBlock
  rw [ob_s (eChain1 hc), if_neg (by decide), if_pos (inB_nI hc (by omega)), cl_nI (by omega), h2]
  have e : nI (nb c) - 1 = nI (nb c - 1) := by
    have := nI_pred (nb c - 1)
    rw [show nb c - 1 + 1 = nb c by omega] at this
    exact this
  rw [e, ob_s (eIn1 (nI_nlt0 (by omega)) (nI_nlt (by omega) (by omega)))]
  rfl
theorem eBlk0 {nb : Nat → Nat} {C M : XO} (h : qNB nb C M) {c : Nat} {y : Int32} (hc : c < 2) (hy : y < 0 ∨ nI (nb c) ≤ y) : fX11_isBlock M (nI c) y = some 0 := by
  obtain ⟨h1, h2, h3, h4⟩ := h c hc
  unfold fX11_isBlock
  rw [ob_s (eChain1 hc), if_neg (by decide), if_pos (inB_nI hc (by omega)), cl_nI (by omega), h2]
  have e : nI (nb c) - 1 = nI (nb c - 1) := by
    have := nI_pred (nb c - 1)
    rw [show nb c - 1 + 1 = nb c by omega] at this
    exact this
  have hy2 : y < 0 ∨ nI (nb c - 1) < y := by
    rcases hy with hy | hy
    · exact Or.inl hy
    · refine Or.inr ?_
      rw [ti_le, ti_nI (by omega)] at hy
      rw [ti_lt, ti_nI (by omega)]
      omega
  rw [e, ob_s (eIn0 hy2)]
  rfl
theorem eBlkC {M : XO} {x y : Int32} (h : x < 0 ∨ nI 2 ≤ x) : fX11_isBlock M x y = some 0 := by
  unfold fX11_isBlock
  rw [ob_s (eChain0 h)]
  rfl
theorem cBlk1 {nb : Nat → Nat} {C M : XO} (h : qNB nb C M) {c b : Nat} (hc : c < 2) (hb : b < nb c) : eX10_demandBlock C 0 (nI c) (nI b) = none ∧ rX10_demandBlock C 0 (nI c) (nI b) = 24 * c + b := by
  obtain ⟨h1, h2, h3, h4⟩ := h c hc
  obtain ⟨e1, e2⟩ := cChain1 (Ω := C) hc
  have e3 : eX10_demandIndex C (nI b) (xI C 101 (rX10_demandChain C 0 (nI c)) 0) = none := by
    rw [e2, h1]
    exact cIdx1 hb (by omega)
  unfold eX10_demandBlock rX10_demandBlock
  rw [if_pos e1, if_pos e3, if_pos e1, if_pos e3, e2]
  refine ⟨rfl, ?_⟩
  unfold fX1_numberedBlock
  rw [if_neg (nI_nlt0 (by omega)), if_neg (show ¬ (24 : Int32) ≤ nI b from nI_ge (b := 24) (by omega) (by decide)), cl_nI (by omega)]
theorem cBlk0 {nb : Nat → Nat} {C M : XO} (h : qNB nb C M) {c : Nat} {y : Int32} (hc : c < 2) (hy : y < 0 ∨ nI (nb c) ≤ y) : eX10_demandBlock C 0 (nI c) y = some xIO := by
  obtain ⟨h1, h2, h3, h4⟩ := h c hc
  obtain ⟨e1, e2⟩ := cChain1 (Ω := C) hc
  have e3 : eX10_demandIndex C y (xI C 101 (rX10_demandChain C 0 (nI c)) 0) = some xIO := by
    rw [e2, h1]
    exact cIdx0 hy
  unfold eX10_demandBlock
  rw [if_pos e1, e3, if_neg (by simp)]
theorem cBlkC {C : XO} {x y : Int32} (h : x < 0 ∨ nI 2 ≤ x) : eX10_demandBlock C 0 x y = some xIO := by
  unfold eX10_demandBlock
  rw [cChain0 h, if_neg (by simp)]
/-- a block's number, on both sides -/
theorem dBlk {nb : Nat → Nat} {C M : XO} (h : qNB nb C M) (x y : Int32) : (∃ c b, c < 2 ∧ b < nb c ∧ x = nI c ∧ y = nI b ∧ fX11_isBlock M x y = some 1 ∧ eX10_demandBlock C 0 x y = none ∧ rX10_demandBlock C 0 x y = 24 * c + b) ∨ (fX11_isBlock M x y = some 0 ∧ eX10_demandBlock C 0 x y = some xIO) := by
  rcases dix x (n := 2) (by decide) with ⟨c, hc, rfl⟩ | hx
  · obtain ⟨h1, h2, h3, h4⟩ := h c hc
    rcases dix y (n := nb c) (by omega) with ⟨b, hb, rfl⟩ | hy
    · exact Or.inl ⟨c, b, hc, hb, rfl, rfl, eBlk1 h hc hb, cBlk1 h hc hb⟩
    · exact Or.inr ⟨eBlk0 h hc hy, cBlk0 h hc hy⟩
  · exact Or.inr ⟨eBlkC hx, cBlkC hx⟩
theorem dCh (M C : XO) (x : Int32) : (∃ c, c < 2 ∧ x = nI c ∧ fX11_isChain M x = some 1 ∧ eX10_demandChain C 0 x = none ∧ rX10_demandChain C 0 x = c) ∨ (fX11_isChain M x = some 0 ∧ eX10_demandChain C 0 x = some xIO) := by
  rcases dix x (n := 2) (by decide) with ⟨c, hc, rfl⟩ | hx
  · exact Or.inl ⟨c, hc, rfl, eChain1 hc, cChain1 hc⟩
  · exact Or.inr ⟨eChain0 hx, cChain0 hx⟩
