theorem one_n0 : ¬ (1 : Int32) = 0 := by decide
theorem one_nl0 : ¬ (1 : Int32) ≤ 0 := by decide
theorem eHolds0 (M : XO) : fX11_holds M 0 = some (0, uI M 1160 0 0 0) := by rw [eHolds]; rfl
theorem eHolds1 (M : XO) : fX11_holds M 1 = some (1, uI M 1160 0 0 1) := by rw [eHolds]; rfl
theorem eHolds2 (M : XO) : fX11_holds M 2 = some (1, uI M 1160 0 0 2) := by rw [eHolds]; rfl
theorem eHolds3 (M : XO) : fX11_holds M 3 = some (1, uI M 1160 0 0 3) := by rw [eHolds]; rfl
theorem n10 {p : Prop} (h : (1 : Int32) = 0) : p := absurd h one_n0
theorem n20 {p : Prop} (h : (2 : Int32) = 0) : p := absurd h (by decide)
theorem n30 {p : Prop} (h : (3 : Int32) = 0) : p := absurd h (by decide)
theorem uL_I (Ω : XO) (v : Int64) (k i j : Nat) : xI (uL Ω 2017 0 0 v) k i j = xI Ω k i j := rfl
theorem blk48 {D : XD} {C M : XO} (h : qNB (dnb D) C M) {c b : Nat} (hc : c < 2) (hb : b < dnb D c) : b < 24 ∧ 24 * c + b < 48 := by
  have := h c hc
  omega
theorem inB_40 {c b j : Nat} (hc : c < 2) (hb : b < 24) (hj : j < 40) : inB ((40 : Int32) * ((24 : Int32) * nI c + nI b) + nI j) 1920 ∧ ((40 : Int32) * ((24 : Int32) * nI c + nI b) + nI j).toNatClampNeg = 40 * (24 * c + b) + j := by
  have e : ((40 : Int32) * ((24 : Int32) * nI c + nI b) + nI j) = nI (40 * (24 * c + b) + j) := by
    rw [(inB_24 hc hb).2.1, show (40 : Int32) = nI 40 from rfl, nI_mul, nI_add]
  rw [e]
  exact ⟨inB_nI (by omega) (by omega), nI_clamp (by omega)⟩
/-- a number from 0 to a count less 1 -/
theorem eIdx {M : XO} {x : Int32} {n : Nat} (hn : n < 2147483648) : ((∃ k, k < n ∧ x = nI k) ∧ fX11_in M x 0 (nI n - 1) = some 1) ∨ ((x < 0 ∨ nI n ≤ x) ∧ fX11_in M x 0 (nI n - 1) = some 0) := by
  have e0 : (0 : Int32).toInt = 0 := rfl
  have e1 : (1 : Int32).toInt = 1 := rfl
  have en := ti_nI (n := n) hn
  have em : (nI n - 1).toInt = n - 1 := by rw [ti_sub (by rw [en, e1]; omega) (by rw [en, e1]; omega), en, e1]
  rcases dix x hn with ⟨k, hk, rfl⟩ | hx
  · have ek := ti_nI (n := k) (by omega)
    exact Or.inl ⟨⟨k, hk, rfl⟩, eIn1 (by rw [ti_lt, ek, e0]; omega) (by rw [ti_lt, ek, em]; omega)⟩
  · refine Or.inr ⟨hx, eIn0 ?_⟩
    rcases hx with hx | hx
    · exact Or.inl hx
    · refine Or.inr ?_
      rw [ti_le, en] at hx
      rw [ti_lt, em]
      omega
theorem sAt_nI {Ω : XO} {k i j : Nat} (hj : j < alen k) (hk : alen k < 2147483648) : sAt Ω k i (nI j) = xI Ω k i j := by
  unfold sAt
  rw [if_neg (nI_nlt0 (by omega)), if_neg (nI_ge hj hk), cl_nI (by omega)]
theorem toNN {x : Int32} (h : 0 ≤ x.toInt) : ∃ n : Nat, x = nI n ∧ n < 2147483648 ∧ x.toInt = n := by
  obtain ⟨n, h1, h2, h3⟩ := toI_nI h
  exact ⟨n, h2, h1, h3⟩
theorem nB_I {D : XD} {C M : XO} (h : RGD D C M) {c b : Nat} (hc : c < 2) (hb : b < 24) : fX1_numberedBlock C c (nI b) = 24 * c + b := by
  unfold fX1_numberedBlock
  rw [if_neg (nI_nlt0 (by omega)), if_neg (show ¬ (24 : Int32) ≤ nI b from nI_ge (b := 24) (by omega) (by decide)), cl_nI (by omega)]
theorem lF_I {D : XD} {C M : XO} (h : RGD D C M) {c : Nat} (hc : c < 2) : fX1_lastFinalBlock C c = 24 * c + dfn D c := by
  obtain ⟨h1, h2, h3⟩ := h.FN c hc
  have := (h.NB c hc).2.2.2
  unfold fX1_lastFinalBlock
  rw [h1]
  exact nB_I h hc (by omega)
theorem inB_4 {c v : Nat} (hc : c < 2) (hv : v < 4) : inB ((4 : Int32) * nI c + nI v) 8 ∧ ((4 : Int32) * nI c + nI v) = nI (4 * c + v) ∧ ((4 : Int32) * nI c + nI v).toNatClampNeg = 4 * c + v := by
  have e : ((4 : Int32) * nI c + nI v) = nI (4 * c + v) := by
    rw [show (4 : Int32) = nI 4 from rfl, nI_mul, nI_add]
  exact ⟨by rw [e]; exact inB_nI (by omega) (by omega), e, by rw [e]; exact nI_clamp (by omega)⟩
