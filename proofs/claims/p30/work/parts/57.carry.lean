/-- a vote that counts: validator v's number p, from s to t -/
def vMat (C : XO) (v p s t : Nat) : Prop := xI C 900 (20 * v + p) 0 = nI s ∧ xI C 901 (20 * v + p) 0 = nI t
def vSup (C : XO) (v s t : Nat) : Prop := xI C 802 v 0 = 0 ∧ ∃ p : Nat, (p : Int) < (xI C 801 v 0).toInt ∧ vMat C v p s t
theorem voteAt_nI (C : XO) {v k : Nat} (hk : k < 20) : fX8_voteAt C v (nI k) = 20 * v + k := by
  unfold fX8_voteAt
  rw [if_neg (nI_nlt0 (by omega)), if_neg (show ¬ (20 : Int32) ≤ nI k from nI_ge (b := 20) hk (by decide)), cl_nI (by omega)]
theorem cSup_l {C : XO} {v q s t m : Nat} (hm : fX8_countingVotes C v = nI m) (hm2 : m ≤ 20) (h1 : xI C 900 q 0 = nI s) (h2 : xI C 901 q 0 = nI t) : ∀ (n k : Nat), n = m - k + 1 → k ≤ m → (fX8_supports_l C v q n k = 1 ∧ ∃ p, k ≤ p ∧ p < m ∧ vMat C v p s t) ∨ (fX8_supports_l C v q n k = 0 ∧ ∀ p, k ≤ p → p < m → ¬ vMat C v p s t)
  | 0, k, hn, hk => absurd hn (by omega)
  | n + 1, k, hn, hk => by
    rw [fX8_supports_l, hm]
    by_cases q0 : k = m
    · rw [if_pos (by rw [q0]; exact Int32.le_refl _)]
      exact Or.inr ⟨rfl, fun p g1 g2 => absurd g1 (by omega)⟩
    · have hlt : k < m := by omega
      rw [if_neg (nI_ge hlt (by omega)), voteAt_nI C (by omega), h1, h2]
      by_cases q1 : xI C 900 (20 * v + k) 0 = nI s
      · by_cases q2 : xI C 901 (20 * v + k) 0 = nI t
        · rw [if_pos q1, if_pos q2]
          exact Or.inl ⟨rfl, k, Nat.le_refl _, hlt, q1, q2⟩
        · rw [if_pos q1, if_neg q2]
          rcases cSup_l hm hm2 h1 h2 n (k + 1) (by omega) (by omega) with ⟨e, p, g1, g2, g3⟩ | ⟨e, g⟩
          · exact Or.inl ⟨e, p, by omega, g2, g3⟩
          · refine Or.inr ⟨e, fun p g1 g2 g3 => ?_⟩
            by_cases z : p = k
            · rw [z] at g3
              exact q2 g3.2
            · exact g p (by omega) g2 g3
      · rw [if_neg q1]
        rcases cSup_l hm hm2 h1 h2 n (k + 1) (by omega) (by omega) with ⟨e, p, g1, g2, g3⟩ | ⟨e, g⟩
        · exact Or.inl ⟨e, p, by omega, g2, g3⟩
        · refine Or.inr ⟨e, fun p g1 g2 g3 => ?_⟩
          by_cases z : p = k
          · rw [z] at g3
            exact q1 g3.1
          · exact g p (by omega) g2 g3
/-- a validator behind a link, in the class -/
theorem cSup {D : XD} {C M : XO} (h : RGD D C M) {v q s t : Nat} (hv : v < 8) (h1 : xI C 900 q 0 = nI s) (h2 : xI C 901 q 0 = nI t) : (fX8_supports C v q = 1 ∧ vSup C v s t) ∨ (fX8_supports C v q = 0 ∧ ¬ vSup C v s t) := by
  obtain ⟨⟨-, a1, a2⟩, a3⟩ := h.VA v hv
  obtain ⟨m, e1, e2, e3⟩ := toNN a1
  unfold fX8_supports
  rcases a3 with ⟨z, -⟩ | ⟨z, -⟩
  · have hm : fX8_countingVotes C v = nI m := by
      unfold fX8_countingVotes
      rw [if_pos z, e1, if_neg (show ¬ (20 : Int32) < nI m from fun y => by
        rw [ti_lt, ti_nI (by omega)] at y
        have t1 : (20 : Int32).toInt = 20 := rfl
        omega)]
    rw [hm, cl_nI (by omega)]
    rcases cSup_l hm (by omega) h1 h2 (m + 1) 0 (by omega) (Nat.zero_le _) with ⟨e, p, -, g2, g3⟩ | ⟨e, g⟩
    · exact Or.inl ⟨e, z, p, by omega, g3⟩
    · refine Or.inr ⟨e, fun y => ?_⟩
      obtain ⟨-, p, y1, y2⟩ := y
      exact g p (Nat.zero_le _) (by omega) y2
  · have hm : fX8_countingVotes C v = nI 0 := by
      unfold fX8_countingVotes
      rw [z, if_neg one_n0]
      rfl
    rw [hm, cl_nI (by decide)]
    rcases cSup_l hm (by decide) h1 h2 1 0 rfl (Nat.le_refl _) with ⟨e, p, -, g2, g3⟩ | ⟨e, g⟩
    · exact absurd g2 (by omega)
    · refine Or.inr ⟨e, fun y => ?_⟩
      rw [y.1] at z
      exact absurd z (by decide)
theorem inB_20 {v p : Nat} (hv : v < 8) (hp : p < 20) : inB ((20 : Int32) * nI v + nI p) 160 ∧ ((20 : Int32) * nI v + nI p).toNatClampNeg = 20 * v + p := by
  have e : ((20 : Int32) * nI v + nI p) = nI (20 * v + p) := by
    rw [show (20 : Int32) = nI 20 from rfl, nI_mul, nI_add]
  exact ⟨by rw [e]; exact inB_nI (by omega) (by decide), by rw [e]; exact cl_nI (by omega)⟩
theorem inB_4v {c k : Nat} (hc : c < 2) (hk : k < 4) : inB ((4 : Int32) * nI c + nI k) 8 ∧ ((4 : Int32) * nI c + nI k) = nI (4 * c + k) ∧ ((4 : Int32) * nI c + nI k).toNatClampNeg = 4 * c + k := by
  have e : ((4 : Int32) * nI c + nI k) = nI (4 * c + k) := by
    rw [show (4 : Int32) = nI 4 from rfl, nI_mul, nI_add]
  exact ⟨by rw [e]; exact inB_nI (by omega) (by decide), e, by rw [e]; exact cl_nI (by omega)⟩
/-- a validator behind a link, in the reference -/
theorem mSup_l {D : XD} {C M : XO} (h : RGD D C M) {y4 : Int32} {c k s t : Nat} (hc : c < 2) (hk : k < 4) (hs : s < 24) (ht : t < 24) : ∀ (n p a : Nat), a ≤ 1 → (p : Int) + n = (xI C 801 (4 * c + k) 0).toInt + 1 → (p : Int) ≤ (xI C 801 (4 * c + k) 0).toInt → ∃ a' y, a' ≤ 1 ∧ fX11_behind_l18 M (nI k) y4 (nI c) (nI s) (nI t) n (nI p) (nI a) = some (y, nI a') ∧ (a' = 1 ↔ a = 1 ∨ (xI C 802 (4 * c + k) 0 = 0 ∧ ∃ p' : Nat, p ≤ p' ∧ (p' : Int) < (xI C 801 (4 * c + k) 0).toInt ∧ vMat C (4 * c + k) p' s t))
  | 0, p, a, ha, hn, hp => absurd hn (by omega)
  | n + 1, p, a, ha, hn, hp => by
    have hv : 4 * c + k < 8 := by omega
    obtain ⟨⟨a0, a1, a2⟩, a3⟩ := h.VA (4 * c + k) hv
    obtain ⟨g1, g2, g3⟩ := inB_4v hc hk
    by_cases q : (p : Int) < (xI C 801 (4 * c + k) 0).toInt
    · have hle : ¬ xI C 801 (4 * c + k) 0 ≤ nI p := by
        rw [ti_le, ti_nI (by omega)]
        omega
      obtain ⟨k1, k2⟩ := inB_20 hv (show p < 20 by omega)
      obtain ⟨s', t', w1, w2, w3, w4, w5, w6, w7, w8, w9, w10, w11, w12⟩ := h.VO (4 * c + k) hv p q
      have hnb := (h.NB ((4 * c + k) / 4) (by omega)).2.2.2
      have hmat : vMat C (4 * c + k) p s t ↔ s' = s ∧ t' = t := by
        unfold vMat
        rw [w3, w5, nI_eq (by omega) (by omega), nI_eq (by omega) (by omega)]
      have hst : ∃ j, j ≤ 1 ∧ (j = 1 ↔ xI C 802 (4 * c + k) 0 = 0 ∧ vMat C (4 * c + k) p s t) ∧ fX11_behind_l18 M (nI k) y4 (nI c) (nI s) (nI t) (n + 1) (nI p) (nI a) = fX11_behind_l18 M (nI k) y4 (nI c) (nI s) (nI t) n (nI (p + 1)) (nI a ||| nI j) := by
        rw [fX11_behind_l18, if_pos g1, g2, cl_nI (by omega), ← a0, if_neg hle, if_pos k1, k2]
        rcases a3 with ⟨z, -⟩ | ⟨z, -⟩
        · rw [w9 z, if_pos rfl, w4, w6]
          by_cases q1 : s' = s
          · rw [if_pos k1, if_pos (show nI s' = nI s by rw [q1])]
            by_cases q2 : t' = t
            · refine ⟨1, Nat.le_refl _, ⟨fun _ => ⟨z, hmat.mpr ⟨q1, q2⟩⟩, fun _ => rfl⟩, ?_⟩
              rw [if_pos k1, if_pos (show nI t' = nI t by rw [q2]), Option.bind_some, nI_1]
              rfl
            · refine ⟨0, by decide, ⟨fun y => absurd y (by decide), fun y => absurd (hmat.mp y.2).2 q2⟩, ?_⟩
              rw [if_pos k1, if_neg (fun y => q2 ((nI_eq (by omega) (by omega)).mp y)), Option.bind_some, nI_1]
              rfl
          · refine ⟨0, by decide, ⟨fun y => absurd y (by decide), fun y => absurd (hmat.mp y.2).1 q1⟩, ?_⟩
            rw [if_pos k1, if_neg (fun y => q1 ((nI_eq (by omega) (by omega)).mp y)), Option.bind_some, nI_1]
            rfl
        · refine ⟨0, by decide, ⟨fun y => absurd y (by decide), fun y => ?_⟩, ?_⟩
          · rw [z] at y
            exact absurd y.1 (by decide)
          · rw [w10 z, if_neg (by decide), Option.bind_some, nI_1]
            rfl
      obtain ⟨j, hj, hj2, hst⟩ := hst
      obtain ⟨a', y, p1, p2, p3⟩ := mSup_l (y4 := y4) h hc hk hs ht n (p + 1) (if a = 1 ∨ j = 1 then 1 else 0) if01 (by omega) (by omega)
      refine ⟨a', y, p1, ?_, ?_⟩
      · rw [hst, or01 a j ha hj, p2]
      · rw [p3]
        constructor
        · rintro (z | ⟨z, p', z1, z2, z3⟩)
          · by_cases q2 : a = 1
            · exact Or.inl q2
            · by_cases q3 : j = 1
              · have := hj2.mp q3
                exact Or.inr ⟨this.1, p, Nat.le_refl _, q, this.2⟩
              · rw [if_neg (by omega)] at z
                exact absurd z (by decide)
          · exact Or.inr ⟨z, p', by omega, z2, z3⟩
        · rintro (z | ⟨z, p', z1, z2, z3⟩)
          · exact Or.inl (if_pos (Or.inl z))
          · by_cases q2 : p' = p
            · subst q2
              exact Or.inl (if_pos (Or.inr (hj2.mpr ⟨z, z3⟩)))
            · exact Or.inr ⟨z, p', by omega, z2, z3⟩
    · have hle : xI C 801 (4 * c + k) 0 ≤ nI p := by
        rw [ti_le, ti_nI (by omega)]
        omega
      refine ⟨a, nI p, ha, ?_, ⟨fun z => Or.inl z, ?_⟩⟩
      · rw [fX11_behind_l18, if_pos g1, g2, cl_nI (by omega), ← a0, if_pos hle]
      · rintro (z | ⟨-, p', z1, z2, -⟩)
        · exact z
        · omega
/-- the same, from the first vote on -/
theorem mSup {D : XD} {C M : XO} (h : RGD D C M) {y4 : Int32} {c k s t : Nat} (hc : c < 2) (hk : k < 4) (hs : s < 24) (ht : t < 24) : ∃ a y, a ≤ 1 ∧ fX11_behind_l18 M (nI k) y4 (nI c) (nI s) (nI t) ((xI M 2138 0 (((4 : Int32) * nI c) + nI k).toNatClampNeg).toNatClampNeg + 1) 0 0 = some (y, nI a) ∧ (a = 1 ↔ vSup C (4 * c + k) s t) := by
  have hv : 4 * c + k < 8 := by omega
  obtain ⟨⟨a0, a1, a2⟩, -⟩ := h.VA (4 * c + k) hv
  obtain ⟨g1, g2, g3⟩ := inB_4v hc hk
  obtain ⟨m, e1, e2, e3⟩ := toNN a1
  obtain ⟨a, y, p1, p2, p3⟩ := mSup_l (y4 := y4) h hc hk hs ht (m + 1) 0 0 (by decide) (by omega) (by omega)
  refine ⟨a, y, p1, ?_, ?_⟩
  · rw [g3, ← a0, e1, cl_nI e2]
    exact p2
  · rw [p3]
    unfold vSup
    constructor
    · rintro (z | ⟨z, p, -, z2⟩)
      · exact absurd z (by decide)
      · exact ⟨z, p, z2⟩
    · rintro ⟨z, p, z2⟩
      exact Or.inr ⟨z, p, Nat.zero_le _, z2⟩
/-- what stands behind a link, on both sides -/
def wSup (M : XO) (v a : Nat) : Int32 := if a = 0 then 0 else xI M 2139 0 v
theorem dCar {D : XD} {C M : XO} (h : RGD D C M) {c s t : Nat} (hc : c < 2) (hs : s < 24) (ht : t < 24) : ∃ r : Int32, fX11_behind M (nI c) (nI s) (nI t) = some r ∧ (r ≤ 0 ↔ ∀ v, v < 4 → ¬ vSup C (4 * c + v) s t) ∧ ∀ q, xI C 900 q 0 = nI s → xI C 901 q 0 = nI t → fX2_carries C c q = (if (3 : Int32) * r < (2 : Int32) * (((xI M 2139 0 (4 * c) + xI M 2139 0 (4 * c + 1)) + xI M 2139 0 (4 * c + 2)) + xI M 2139 0 (4 * c + 3)) then 0 else 1) := by
  have hA : ∀ k, k < 4 → ∃ a, a ≤ 1 ∧ (a = 1 ↔ vSup C (4 * c + k) s t) ∧ ∀ y4, ∃ y, fX11_behind_l18 M (nI k) y4 (nI c) (nI s) (nI t) ((xI M 2138 0 (((4 : Int32) * nI c) + nI k).toNatClampNeg).toNatClampNeg + 1) 0 0 = some (y, nI a) := by
    intro k hk
    obtain ⟨a, y, p1, p2, p3⟩ := mSup (y4 := 0) h hc hk hs ht
    refine ⟨a, p1, p3, fun y4 => ?_⟩
    obtain ⟨a', y', p1', p2', p3'⟩ := mSup (y4 := y4) h hc hk hs ht
    have e : a' = a := by
      have : a' = 1 ↔ a = 1 := p3'.trans p3.symm
      omega
    exact ⟨y', by rw [← e]; exact p2'⟩
  have hstep : ∀ k, k < 4 → ∀ a, a ≤ 1 → (∀ y4, ∃ y, fX11_behind_l18 M (nI k) y4 (nI c) (nI s) (nI t) ((xI M 2138 0 (((4 : Int32) * nI c) + nI k).toNatClampNeg).toNatClampNeg + 1) 0 0 = some (y, nI a)) → ∀ n y4, fX11_behind_l6 M (nI c) (nI s) (nI t) (n + 1) (nI k) y4 = fX11_behind_l6 M (nI c) (nI s) (nI t) n (nI (k + 1)) (y4 + wSup M (4 * c + k) a) := by
    intro k hk a ha hy n y4
    obtain ⟨g1, g2, g3⟩ := inB_4v hc hk
    obtain ⟨y, hy⟩ := hy y4
    rw [fX11_behind_l6, if_neg (show ¬ (4 : Int32) ≤ nI k from nI_ge (b := 4) hk (by decide)), ob_s hy]
    unfold wSup
    by_cases q : a = 0
    · rw [if_pos (show nI a = 0 by rw [q]; rfl), if_pos q, Option.bind_some, nI_1]
    · rw [if_neg (nI_ne0 (by omega) (by omega)), if_neg q, if_pos g1, g3, Option.bind_some, nI_1]
  obtain ⟨a0, l0, i0, m0⟩ := hA 0 (by decide)
  obtain ⟨a1, l1, i1, m1⟩ := hA 1 (by decide)
  obtain ⟨a2, l2, i2, m2⟩ := hA 2 (by decide)
  obtain ⟨a3, l3, i3, m3⟩ := hA 3 (by decide)
  have hw : ∀ k, k < 4 → ∀ a, a ≤ 1 → (a = 1 ↔ vSup C (4 * c + k) s t) → wSup M (4 * c + k) a = if a = 1 then 100 else 0 := by
    intro k hk a ha hi
    unfold wSup
    by_cases q : a = 0
    · rw [if_pos q, if_neg (by omega)]
    · rw [if_neg q, if_pos (by omega)]
      have hs' := hi.mp (by omega)
      rcases (h.VA (4 * c + k) (by omega)).2 with ⟨-, z⟩ | ⟨z, -⟩
      · exact z
      · rw [hs'.1] at z
        exact absurd z (by decide)
  refine ⟨(((0 + wSup M (4 * c + 0) a0) + wSup M (4 * c + 1) a1) + wSup M (4 * c + 2) a2) + wSup M (4 * c + 3) a3, ?_, ?_, fun q h1 h2 => ?_⟩
  · unfold fX11_behind
    have e : fX11_behind_l6 M (nI c) (nI s) (nI t) 5 (0 : Int32) 0 = some (nI 4, (((0 + wSup M (4 * c + 0) a0) + wSup M (4 * c + 1) a1) + wSup M (4 * c + 2) a2) + wSup M (4 * c + 3) a3) := by
      rw [show (fX11_behind_l6 M (nI c) (nI s) (nI t) 5 (0 : Int32) 0) = fX11_behind_l6 M (nI c) (nI s) (nI t) 5 (nI 0) 0 from rfl]
      rw [hstep 0 (by decide) a0 l0 m0, hstep 1 (by decide) a1 l1 m1, hstep 2 (by decide) a2 l2 m2, hstep 3 (by decide) a3 l3 m3]
      rw [fX11_behind_l6, if_pos (show (4 : Int32) ≤ nI (3 + 1) by decide)]
    rw [ob_s e]
  · rw [hw 0 (by decide) a0 l0 i0, hw 1 (by decide) a1 l1 i1, hw 2 (by decide) a2 l2 i2, hw 3 (by decide) a3 l3 i3]
    constructor
    · intro z v hv hsv
      rcases (show v = 0 ∨ v = 1 ∨ v = 2 ∨ v = 3 by omega) with rfl | rfl | rfl | rfl
      · have := i0.mpr hsv
        subst this
        rcases (show a1 = 0 ∨ a1 = 1 by omega) with rfl | rfl <;> rcases (show a2 = 0 ∨ a2 = 1 by omega) with rfl | rfl <;> rcases (show a3 = 0 ∨ a3 = 1 by omega) with rfl | rfl <;> exact absurd z (by decide)
      · have := i1.mpr hsv
        subst this
        rcases (show a0 = 0 ∨ a0 = 1 by omega) with rfl | rfl <;> rcases (show a2 = 0 ∨ a2 = 1 by omega) with rfl | rfl <;> rcases (show a3 = 0 ∨ a3 = 1 by omega) with rfl | rfl <;> exact absurd z (by decide)
      · have := i2.mpr hsv
        subst this
        rcases (show a0 = 0 ∨ a0 = 1 by omega) with rfl | rfl <;> rcases (show a1 = 0 ∨ a1 = 1 by omega) with rfl | rfl <;> rcases (show a3 = 0 ∨ a3 = 1 by omega) with rfl | rfl <;> exact absurd z (by decide)
      · have := i3.mpr hsv
        subst this
        rcases (show a0 = 0 ∨ a0 = 1 by omega) with rfl | rfl <;> rcases (show a1 = 0 ∨ a1 = 1 by omega) with rfl | rfl <;> rcases (show a2 = 0 ∨ a2 = 1 by omega) with rfl | rfl <;> exact absurd z (by decide)
    · intro z
      have z0 : ¬ a0 = 1 := fun y => z 0 (by decide) (i0.mp y)
      have z1 : ¬ a1 = 1 := fun y => z 1 (by decide) (i1.mp y)
      have z2 : ¬ a2 = 1 := fun y => z 2 (by decide) (i2.mp y)
      have z3 : ¬ a3 = 1 := fun y => z 3 (by decide) (i3.mp y)
      rw [if_neg z0, if_neg z1, if_neg z2, if_neg z3]
      decide
  · have hc1 : ∀ k, k < 4 → ∀ a, a ≤ 1 → (a = 1 ↔ vSup C (4 * c + k) s t) → ∀ n y3 y2, fX2_carries_l C c q (n + 1) k y3 y2 = fX2_carries_l C c q n (k + 1) (y3 + wSup M (4 * c + k) a) (y2 + xI M 2139 0 (4 * c + k)) := by
      intro k hk a ha hi n y3 y2
      have hv : 4 * c + k < 8 := by omega
      have hsn : fX8_stakeNow C (4 * c + k) = xI M 2139 0 (4 * c + k) := by
        unfold fX8_stakeNow
        rcases (h.VA (4 * c + k) hv).2 with ⟨z1, z2⟩ | ⟨z1, z2⟩
        · rw [if_pos z1, z2]
        · rw [z1, if_neg one_n0, z2]
      rw [fX2_carries_l, if_neg (show ¬ nI (alen 2004) ≤ nI k from nI_ge (b := 4) hk (by decide)), cl_nI (by omega), hsn]
      unfold wSup
      rcases cSup h hv h1 h2 with ⟨z1, z2⟩ | ⟨z1, z2⟩
      · have := hi.mpr z2
        rw [z1, if_neg one_n0, if_neg (by omega)]
      · have : ¬ a = 1 := fun y => z2 (hi.mp y)
        rw [z1, if_pos rfl, if_pos (by omega)]
    have e : fX2_carries C c q = fX2_carries_l C c q 5 0 0 0 := rfl
    rw [e, hc1 0 (by decide) a0 l0 i0, hc1 1 (by decide) a1 l1 i1, hc1 2 (by decide) a2 l2 i2, hc1 3 (by decide) a3 l3 i3]
    rw [fX2_carries_l, if_pos (show nI (alen 2004) ≤ nI (3 + 1) by decide)]
    rw [Int32.zero_add (xI M 2139 0 (4 * c + 0))]
    rfl
