/-- the rows of a block, as the reference has them -/
def rowN (M : XO) (g t j : Nat) : Prop := ∃ u e : Nat, u ≤ 600 ∧ e ≤ 1 ∧ xI M 2131 0 (40 * g + j) = nI (100000 * u + 10 * t + e)
def rowsOK (M : XO) (g n : Nat) : Prop := xI M 2129 0 g = nI n ∧ n ≤ 40 ∧ ∀ j, j < n → ∃ u t e : Nat, u ≤ 600 ∧ t < 40 ∧ e ≤ 1 ∧ xI M 2131 0 (40 * g + j) = nI (100000 * u + 10 * t + e)
theorem eRows {M : XO} {c b m t : Nat} (hc : c < 2) (hb : b < 24) (ht : t < 40) (h : rowsOK M (24 * c + b) m) : ∀ (n k a : Nat), a ≤ 1 → k + n = m + 1 → k ≤ m → ∃ a', a' ≤ 1 ∧ (a' = 1 ↔ a = 1 ∨ ∃ j, k ≤ j ∧ j < m ∧ rowN M (24 * c + b) t j) ∧ ∃ y, fX11_isIn_l14 M (nI b) (nI c) (nI t) n (nI k) (nI a) = some (y, nI a') := by
  intro n
  induction n with
  | zero => intro k a _ h1 h2; exact absurd h1 (by omega)
  | succ n ih =>
    intro k a ha hn hk
    obtain ⟨g1, g2, g3⟩ := inB_24 hc hb
    obtain ⟨h1, h2, h3⟩ := h
    by_cases q : k < m
    · obtain ⟨u, t', e, w2, w3, w4, w1⟩ := h3 k q
      obtain ⟨k1, k2⟩ := inB_40 hc hb (show k < 40 by omega)
      have hle : ¬ xI M 2129 0 (24 * c + b) ≤ nI k := by
        rw [h1, ti_le, ti_nI (by omega), ti_nI (by omega)]
        omega
      obtain ⟨a', p1, p2, y, p3⟩ := ih (k + 1) (if a = 1 ∨ (if t' = t then 1 else 0) = 1 then 1 else 0) if01 (by omega) (by omega)
      refine ⟨a', p1, ?_, y, ?_⟩
      · rw [p2]
        have hin : rowN M (24 * c + b) t k ↔ t' = t := by
          constructor
          · rintro ⟨u2, e2, v1, v2, v3⟩
            rw [w1] at v3
            have := (nI_eq (by omega) (by omega)).mp v3
            omega
          · intro z
            subst z
            exact ⟨u, e, w2, w4, w1⟩
        constructor
        · rintro (z | ⟨j, z1, z2, z3⟩)
          · by_cases q2 : t' = t
            · exact Or.inr ⟨k, Nat.le_refl _, q, hin.mpr q2⟩
            · refine Or.inl ?_
              rw [if_neg q2] at z
              by_cases q3 : a = 1
              · exact q3
              · rw [if_neg (by omega)] at z
                exact absurd z (by decide)
          · exact Or.inr ⟨j, by omega, z2, z3⟩
        · rintro (z | ⟨j, z1, z2, z3⟩)
          · exact Or.inl (if_pos (Or.inl z))
          · by_cases q2 : j = k
            · subst q2
              exact Or.inl (if_pos (Or.inr (if_pos (hin.mp z3))))
            · exact Or.inr ⟨j, by omega, z2, z3⟩
      · rw [fX11_isIn_l14, if_pos g1, g3, if_neg hle, if_pos k1, k2, w1, eRow w2 w3 w4, nI_1]
        unfold wl
        dsimp only
        have e5 : (if nI t' = nI t then (1 : Int32) else 0) = nI (if t' = t then 1 else 0) := by
          by_cases q2 : t' = t
          · rw [if_pos (by rw [q2]), if_pos q2]; rfl
          · rw [if_neg (fun z => q2 ((nI_eq (by omega) (by omega)).mp z)), if_neg q2]; rfl
        rw [e5, or01 a _ ha if01, p3]
    · have hle : xI M 2129 0 (24 * c + b) ≤ nI k := by
        rw [h1]
        exact nI_le (by omega) (by omega)
      refine ⟨a, ha, ⟨fun z => Or.inl z, ?_⟩, nI k, ?_⟩
      · rintro (z | ⟨j, z1, z2, z3⟩)
        · exact z
        · omega
      · rw [fX11_isIn_l14, if_pos g1, g3, if_pos hle]
/-- the walk through blocks sees only blocks that stand -/
theorem l14_cg {M M' : XO} {c b t : Nat} (hc : c < 2) (hb : b < 24) (h1 : xI M' 2129 0 (24 * c + b) = xI M 2129 0 (24 * c + b)) (h2 : ∀ j, j < 40 → xI M' 2131 0 (40 * (24 * c + b) + j) = xI M 2131 0 (40 * (24 * c + b) + j)) {m : Nat} (hm : xI M 2129 0 (24 * c + b) = nI m) (hm2 : m ≤ 40) : ∀ (n k : Nat) (a : Int32), k ≤ 40 → fX11_isIn_l14 M' (nI b) (nI c) (nI t) n (nI k) a = fX11_isIn_l14 M (nI b) (nI c) (nI t) n (nI k) a := by
  intro n
  induction n with
  | zero => intro k a _; rfl
  | succ n ih =>
    intro k a hk
    obtain ⟨g1, g2, g3⟩ := inB_24 hc hb
    rw [fX11_isIn_l14, fX11_isIn_l14, if_pos g1, if_pos g1, g3, h1, hm]
    by_cases q : m ≤ k
    · rw [if_pos (nI_le q (by omega)), if_pos (nI_le q (by omega))]
    · obtain ⟨k1, k2⟩ := inB_40 hc hb (show k < 40 by omega)
      rw [if_neg (nI_ge (by omega) (by omega)), if_neg (nI_ge (by omega) (by omega)), if_pos k1, if_pos k1, k2, h2 k (by omega), nI_1]
      unfold wl
      dsimp only
      rw [ih (k + 1) _ (by omega)]
theorem l6_cg {D : XD} {C M M' : XO} (h : RGD D C M) {c t : Nat} (hc : c < 2) (h1 : ∀ b, b < dnb D c → xI M' 2129 0 (24 * c + b) = xI M 2129 0 (24 * c + b) ∧ xI M' 2120 0 (24 * c + b) = xI M 2120 0 (24 * c + b) ∧ ∀ j, j < 40 → xI M' 2131 0 (40 * (24 * c + b) + j) = xI M 2131 0 (40 * (24 * c + b) + j)) : ∀ (n b : Nat) (a : Int32), b < dnb D c → fX11_isIn_l6 M' (nI c) (nI t) n (nI b) a = fX11_isIn_l6 M (nI c) (nI t) n (nI b) a := by
  intro n
  induction n with
  | zero => intro b a _; rfl
  | succ n ih =>
    intro b a hb
    have hnb := (h.NB c hc).2.2.2
    have hb2 : b < 24 := by omega
    have hg : 24 * c + b < 48 := by omega
    obtain ⟨g1, g2, g3⟩ := inB_24 hc hb2
    obtain ⟨⟨r1, r2, r3, r4⟩, -⟩ := h.RC c hc b hb2
    have hbt : xI M 2129 0 (24 * c + b) = xI C 8 (24 * c + b) 0 := (h.B2 _ hg).2.2.2.1.symm
    obtain ⟨m, hm, hm2, hm3⟩ := toNN r1
    obtain ⟨a1, a2, a3⟩ := h1 b hb
    obtain ⟨p1, p2⟩ := h.PA c hc b hb
    have e14 : ∀ (nn k : Nat) (a : Int32), k ≤ 40 → fX11_isIn_l14 M' (nI b) (nI c) (nI t) nn (nI k) a = fX11_isIn_l14 M (nI b) (nI c) (nI t) nn (nI k) a := l14_cg hc hb2 a1 a3 (m := m) (by rw [hbt, hm]) (by omega)
    rw [fX11_isIn_l6, fX11_isIn_l6, if_neg (nI_nlt0 (by omega)), if_neg (nI_nlt0 (by omega)), g3, a1, show (0 : Int32) = nI 0 from rfl, e14 _ _ _ (by omega)]
    congr 1
    funext q
    rw [if_pos g1, if_pos g1, a2, p1]
    by_cases q0 : b = 0
    · rw [if_pos q0]
      cases n with
      | zero => rfl
      | succ n => rw [fX11_isIn_l6, fX11_isIn_l6, if_pos (by decide), if_pos (by decide)]
    · rw [if_neg q0, ih (dpa D c b) _ (by have := p2 (by omega); omega)]
/-- whether a transaction is in the block that grows -/
theorem eIsNew {D : XD} {C M M' : XO} (h : RGD D C M) {c t p m : Nat} (hc : c < 2) (ht : t < 40) (hp : p < dnb D c) (hnb : dnb D c < 24) (h1 : ∀ b, b < dnb D c → xI M' 2129 0 (24 * c + b) = xI M 2129 0 (24 * c + b) ∧ xI M' 2120 0 (24 * c + b) = xI M 2120 0 (24 * c + b) ∧ ∀ j, j < 40 → xI M' 2131 0 (40 * (24 * c + b) + j) = xI M 2131 0 (40 * (24 * c + b) + j)) (hpar : xI M' 2120 0 (24 * c + dnb D c) = nI p) (hr : rowsOK M' (24 * c + dnb D c) m) : ((b64 (xL C 17 (24 * c + p) 0) t ∨ ∃ j, j < m ∧ rowN M' (24 * c + dnb D c) t j) ∧ fX11_isIn M' (nI c) (nI (dnb D c)) (nI t) = some 1) ∨ (¬ (b64 (xL C 17 (24 * c + p) 0) t ∨ ∃ j, j < m ∧ rowN M' (24 * c + dnb D c) t j) ∧ fX11_isIn M' (nI c) (nI (dnb D c)) (nI t) = some 0) := by
  obtain ⟨g1, g2, g3⟩ := inB_24 hc hnb
  obtain ⟨a1, w1, w2, y1, w3⟩ := eRows hc hnb ht hr (m + 1) 0 0 (by decide) (by omega) (by omega)
  obtain ⟨a2, v1, v2, y2, v3⟩ := eIsIn_l h hc ht 24 p a1 w1 hp (by omega)
  have hh : heldP D C c p t ↔ b64 (xL C 17 (24 * c + p) 0) t := by
    rw [h.HD c hc p hp t ht]
    constructor
    · rintro ⟨x, x1, x2, j, x3, x4⟩
      exact ⟨x, x1, x2, j, x3, x4⟩
    · rintro ⟨x, x1, x2, j, x3, x4⟩
      exact ⟨x, x1, x2, j, x3, x4⟩
  have hfuel : (xI M' 2129 0 (24 * c + dnb D c)).toNatClampNeg + 1 = m + 1 := by
    have := hr.2.1
    rw [hr.1, cl_nI (by omega)]
  have hm : fX11_isIn M' (nI c) (nI (dnb D c)) (nI t) = some (nI a2) := by
    unfold fX11_isIn
    rw [show (25 : Nat) = 24 + 1 from rfl, fX11_isIn_l6, if_neg (nI_nlt0 (by omega)), g3, hfuel, show (0 : Int32) = nI 0 from rfl, w3, Option.bind_some, if_pos g1, hpar]
    dsimp only
    rw [l6_cg h hc h1 24 p _ hp, v3, Option.bind_some]
    rcases (show a2 = 0 ∨ a2 = 1 by omega) with rfl | rfl
    · exact if_pos (Or.inl rfl)
    · exact if_pos (Or.inr rfl)
  have hiff : a2 = 1 ↔ (b64 (xL C 17 (24 * c + p) 0) t ∨ ∃ j, j < m ∧ rowN M' (24 * c + dnb D c) t j) := by
    rw [v2, w2, hh]
    constructor
    · rintro ((z | ⟨j, -, z1, z2⟩) | z)
      · exact absurd z (by decide)
      · exact Or.inr ⟨j, z1, z2⟩
      · exact Or.inl z
    · rintro (z | ⟨j, z1, z2⟩)
      · exact Or.inr z
      · exact Or.inl (Or.inr ⟨j, Nat.zero_le _, z1, z2⟩)
  by_cases q : (b64 (xL C 17 (24 * c + p) 0) t ∨ ∃ j, j < m ∧ rowN M' (24 * c + dnb D c) t j)
  · exact Or.inl ⟨q, by rw [hm, hiff.mpr q]; rfl⟩
  · refine Or.inr ⟨q, ?_⟩
    rcases (show a2 = 0 ∨ a2 = 1 by omega) with z | z
    · rw [hm, z]; rfl
    · exact absurd (hiff.mp z) q
