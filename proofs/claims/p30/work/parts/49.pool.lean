/-- one block's rows, k on: whether a transaction is among them -/
theorem eRow {u t e : Nat} (hu : u ≤ 600) (ht : t < 40) (he : e ≤ 1) : (nI (100000 * u + 10 * t + e) / 10) - (nI (100000 * u + 10 * t + e) / 10) / 10000 * 10000 = nI t := by
  have e0 : (nI (100000 * u + 10 * t + e)).toInt = (100000 * u + 10 * t + e : Nat) := ti_nI (by omega)
  have e10 : (10 : Int32).toInt = 10 := rfl
  have e1 : (nI (100000 * u + 10 * t + e) / 10).toInt = (10000 * u + t : Nat) := by
    rw [ti_div (by rw [e0]; omega) (by rw [e10]; omega), e0, e10]
    omega
  have e4 : (10000 : Int32).toInt = 10000 := rfl
  rw [ti_eq, ti_rem (by rw [e1]; omega) (by rw [e4]; omega), e1, e4, ti_nI (by omega)]
  omega
theorem if01 {p : Prop} [Decidable p] : (if p then 1 else 0 : Nat) ≤ 1 := by
  by_cases q : p
  · rw [if_pos q]
    exact Nat.le_refl _
  · rw [if_neg q]
    exact Nat.zero_le _
theorem or01 (x y : Nat) (hx : x ≤ 1) (hy : y ≤ 1) : nI x ||| nI y = nI (if x = 1 ∨ y = 1 then 1 else 0) := by
  rcases (show x = 0 ∨ x = 1 by omega) with rfl | rfl <;> rcases (show y = 0 ∨ y = 1 by omega) with rfl | rfl <;> decide
def inRow (C : XO) (g t j : Nat) : Prop := (j : Int) < (xI C 8 g 0).toInt ∧ ∃ u e : Nat, u ≤ 600 ∧ e ≤ 1 ∧ xI C 2000 g j = nI (100000 * u + 10 * t + e)
theorem eIsIn_r {D : XD} {C M : XO} (h : RGD D C M) {c b t : Nat} (hc : c < 2) (hb : b < 24) (ht : t < 40) : ∀ (n k a : Nat), a ≤ 1 → (k : Int) + n = (xI C 8 (24 * c + b) 0).toInt + 1 → (k : Int) ≤ (xI C 8 (24 * c + b) 0).toInt → ∃ a', a' ≤ 1 ∧ (a' = 1 ↔ a = 1 ∨ ∃ j, k ≤ j ∧ inRow C (24 * c + b) t j) ∧ ∃ y, fX11_isIn_l14 M (nI b) (nI c) (nI t) n (nI k) (nI a) = some (y, nI a')
  | 0, k, a, ha, hn, hk => absurd hn (by omega)
  | n + 1, k, a, ha, hn, hk => by
    obtain ⟨g1, g2, g3⟩ := inB_24 hc hb
    have hg : 24 * c + b < 48 := by omega
    obtain ⟨⟨r1, r2, r3, r4⟩, -⟩ := h.RC c hc b hb
    have hbt : xI M 2129 0 (24 * c + b) = xI C 8 (24 * c + b) 0 := (h.B2 _ hg).2.2.2.1.symm
    by_cases q : (k : Int) < (xI C 8 (24 * c + b) 0).toInt
    · obtain ⟨u, t', e, w1, w2, w3, w4⟩ := h.RE c hc b hb k q
      have hnt := (h.NT c hc).2.2
      obtain ⟨k1, k2⟩ := inB_40 hc hb (show k < 40 by omega)
      have hrow : xI M 2131 0 (40 * (24 * c + b) + k) = nI (100000 * u + 10 * t' + e) := by
        rw [← h.RW _ hg k (by omega), w1]
      have hle : ¬ xI M 2129 0 (24 * c + b) ≤ nI k := by
        rw [hbt, ti_le, ti_nI (by omega)]
        omega
      obtain ⟨a', p1, p2, y, p3⟩ := eIsIn_r h hc hb ht n (k + 1) (if a = 1 ∨ (if t' = t then 1 else 0) = 1 then 1 else 0) if01 (by omega) (by omega)
      refine ⟨a', p1, ?_, y, ?_⟩
      · rw [p2]
        have hin : inRow C (24 * c + b) t k ↔ t' = t := by
          constructor
          · rintro ⟨-, u2, e2, v1, v2, v3⟩
            rw [w1] at v3
            have := (nI_eq (by omega) (by omega)).mp v3
            omega
          · intro z
            subst z
            exact ⟨q, u, e, w2, w4, w1⟩
        constructor
        · rintro (z | ⟨j, z1, z2⟩)
          · by_cases q2 : t' = t
            · exact Or.inr ⟨k, Nat.le_refl _, hin.mpr q2⟩
            · refine Or.inl ?_
              rw [if_neg q2] at z
              by_cases q3 : a = 1
              · exact q3
              · rw [if_neg (by omega)] at z
                exact absurd z (by decide)
          · exact Or.inr ⟨j, by omega, z2⟩
        · rintro (z | ⟨j, z1, z2⟩)
          · exact Or.inl (if_pos (Or.inl z))
          · by_cases q2 : j = k
            · subst q2
              exact Or.inl (if_pos (Or.inr (if_pos (hin.mp z2))))
            · exact Or.inr ⟨j, by omega, z2⟩
      · rw [fX11_isIn_l14, if_pos g1, g3, if_neg hle, if_pos k1, k2, hrow, eRow w2 (by omega) w4, nI_1]
        unfold wl
        dsimp only
        have e5 : (if nI t' = nI t then (1 : Int32) else 0) = nI (if t' = t then 1 else 0) := by
          by_cases q2 : t' = t
          · rw [if_pos (by rw [q2]), if_pos q2]; rfl
          · rw [if_neg (fun z => q2 ((nI_eq (by omega) (by omega)).mp z)), if_neg q2]; rfl
        rw [e5, or01 a _ ha if01, p3]
    · have hle : xI M 2129 0 (24 * c + b) ≤ nI k := by
        rw [hbt, ti_le, ti_nI (by omega)]
        omega
      refine ⟨a, ha, ⟨fun z => Or.inl z, ?_⟩, nI k, ?_⟩
      · rintro (z | ⟨j, z1, z2⟩)
        · exact z
        · have := z2.1
          omega
      · rw [fX11_isIn_l14, if_pos g1, g3, if_pos hle]
def heldP (D : XD) (C : XO) (c b t : Nat) : Prop := ∃ x, x < 24 ∧ Anc (dpa D c) b x ∧ ∃ j, inRow C (24 * c + x) t j
theorem eIsIn_l {D : XD} {C M : XO} (h : RGD D C M) {c t : Nat} (hc : c < 2) (ht : t < 40) : ∀ (n b a : Nat), a ≤ 1 → b < dnb D c → b + 2 ≤ n → ∃ a', a' ≤ 1 ∧ (a' = 1 ↔ a = 1 ∨ heldP D C c b t) ∧ ∃ y, fX11_isIn_l6 M (nI c) (nI t) n (nI b) (nI a) = some (y, nI a')
  | 0, b, a, ha, hb, hn => absurd hn (by omega)
  | n + 1, b, a, ha, hb, hn => by
    have hnb := (h.NB c hc).2.2.2
    have hb2 : b < 24 := by omega
    have hg : 24 * c + b < 48 := by omega
    obtain ⟨g1, g2, g3⟩ := inB_24 hc hb2
    obtain ⟨⟨r1, r2, r3, r4⟩, -⟩ := h.RC c hc b hb2
    have hbt : xI M 2129 0 (24 * c + b) = xI C 8 (24 * c + b) 0 := (h.B2 _ hg).2.2.2.1.symm
    have hp := h.par hc hb
    obtain ⟨p1, p2⟩ := h.PA c hc b hb
    obtain ⟨m, hm, hm2, hm3⟩ := toNN r1
    obtain ⟨a1, w1, w2, y1, w3⟩ := eIsIn_r h hc hb2 ht (m + 1) 0 a ha (by omega) (by omega)
    have hfuel : (xI M 2129 0 (((24 : Int32) * nI c) + nI b).toNatClampNeg).toNatClampNeg + 1 = m + 1 := by
      rw [g3, hbt, hm, cl_nI hm2]
    have hx : ∀ z, heldP D C c b z ↔ (∃ j, inRow C (24 * c + b) z j) ∨ (0 < b ∧ heldP D C c (dpa D c b) z) := by
      intro z
      constructor
      · rintro ⟨x, x1, x2, x3⟩
        rcases (Anc_iff hp).mp x2 with x4 | ⟨x4, x5⟩
        · subst x4
          exact Or.inl x3
        · exact Or.inr ⟨x4, x, x1, x5, x3⟩
      · rintro (x3 | ⟨x4, x, x1, x5, x3⟩)
        · exact ⟨b, hb2, Anc_self _ _, x3⟩
        · exact ⟨x, x1, (Anc_iff hp).mpr (Or.inr ⟨x4, x5⟩), x3⟩
    have hst : fX11_isIn_l6 M (nI c) (nI t) (n + 1) (nI b) (nI a) = fX11_isIn_l6 M (nI c) (nI t) n (xI M 2120 0 (24 * c + b)) (nI a1) := by
      rw [fX11_isIn_l6, if_neg (nI_nlt0 (by omega)), hfuel, show (0 : Int32) = nI 0 from rfl, ob_s w3, if_pos g1, g3]
    by_cases q0 : b = 0
    · refine ⟨a1, w1, ?_, -1, ?_⟩
      · rw [w2, hx t]
        constructor
        · rintro (z | ⟨j, -, z⟩)
          · exact Or.inl z
          · exact Or.inr (Or.inl ⟨j, z⟩)
        · rintro (z | ⟨j, z⟩ | ⟨z, -⟩)
          · exact Or.inl z
          · exact Or.inr ⟨j, Nat.zero_le _, z⟩
          · exact absurd z (by omega)
      · rw [hst, p1, if_pos q0]
        obtain ⟨n', rfl⟩ : ∃ n', n = n' + 1 := ⟨n - 1, by omega⟩
        rw [fX11_isIn_l6, if_pos (by decide)]
    · have p3 := p2 (by omega)
      obtain ⟨a2, v1, v2, y2, v3⟩ := eIsIn_l h hc ht n (dpa D c b) a1 w1 (by omega) (by omega)
      refine ⟨a2, v1, ?_, y2, ?_⟩
      · rw [v2, w2, hx t]
        constructor
        · rintro ((z | ⟨j, -, z⟩) | z)
          · exact Or.inl z
          · exact Or.inr (Or.inl ⟨j, z⟩)
          · exact Or.inr (Or.inr ⟨by omega, z⟩)
        · rintro (z | ⟨j, z⟩ | ⟨-, z⟩)
          · exact Or.inl (Or.inl z)
          · exact Or.inl (Or.inr ⟨j, Nat.zero_le _, z⟩)
          · exact Or.inr z
      · rw [hst, p1, if_neg q0, v3]
/-- a transaction in a block or what it comes from, on both sides -/
theorem dHolds {D : XD} {C M : XO} (h : RGD D C M) {c b t : Nat} (hc : c < 2) (hb : b < dnb D c) (ht : t < 40) : (heldP D C c b t ∧ fX11_isIn M (nI c) (nI b) (nI t) = some 1 ∧ fX0_holds C (24 * c + b) (nI t) = 1) ∨ (¬ heldP D C c b t ∧ fX11_isIn M (nI c) (nI b) (nI t) = some 0 ∧ fX0_holds C (24 * c + b) (nI t) = 0) := by
  have hnb := (h.NB c hc).2.2.2
  obtain ⟨a, w1, w2, y, w3⟩ := eIsIn_l h hc ht 25 b 0 (by decide) hb (by omega)
  have hd := h.HD c hc b hb t ht
  have hcl1 : b64 (xL C 17 (24 * c + b) 0) t → fX0_holds C (24 * c + b) (nI t) = 1 := fun q => by
    unfold fX0_holds
    exact if_pos (cmp_eq.mpr q)
  have hcl0 : ¬ b64 (xL C 17 (24 * c + b) 0) t → fX0_holds C (24 * c + b) (nI t) = 0 := fun q => by
    unfold fX0_holds
    exact if_neg (fun z => q (cmp_eq.mp z))
  have hh : heldP D C c b t ↔ b64 (xL C 17 (24 * c + b) 0) t := by
    rw [hd]
    constructor
    · rintro ⟨x, x1, x2, j, x3, x4⟩
      exact ⟨x, x1, x2, j, x3, x4⟩
    · rintro ⟨x, x1, x2, j, x3, x4⟩
      exact ⟨x, x1, x2, j, x3, x4⟩
  have hm : fX11_isIn M (nI c) (nI b) (nI t) = some (nI a) := by
    unfold fX11_isIn
    rw [show (0 : Int32) = nI 0 from rfl, ob_s w3]
    rcases (show a = 0 ∨ a = 1 by omega) with rfl | rfl
    · exact if_pos (Or.inl rfl)
    · exact if_pos (Or.inr rfl)
  by_cases q : heldP D C c b t
  · have ha : a = 1 := w2.mpr (Or.inr q)
    exact Or.inl ⟨q, by rw [hm, ha]; rfl, hcl1 (hh.mp q)⟩
  · have ha : a = 0 := by
      rcases (show a = 0 ∨ a = 1 by omega) with z | z
      · exact z
      · rcases w2.mp z with z | z
        · exact absurd z (by decide)
        · exact absurd z q
    exact Or.inr ⟨q, by rw [hm, ha]; rfl, hcl0 (fun z => q (hh.mpr z))⟩
theorem inB_40c {c t : Nat} (hc : c < 2) (ht : t < 40) : inB ((40 : Int32) * nI c + nI t) 80 ∧ ((40 : Int32) * nI c + nI t) = nI (40 * c + t) ∧ ((40 : Int32) * nI c + nI t).toNatClampNeg = 40 * c + t := by
  have e : ((40 : Int32) * nI c + nI t) = nI (40 * c + t) := by
    rw [show (40 : Int32) = nI 40 from rfl, nI_mul, nI_add]
  exact ⟨by rw [e]; exact inB_nI (by omega) (by omega), e, by rw [e]; exact nI_clamp (by omega)⟩
/-- in the pool, on both sides -/
theorem dPooled {D : XD} {C M : XO} (h : RGD D C M) {c b t : Nat} (hc : c < 2) (hb : b < dnb D c) (ht : t < dnt D c) : (fX11_pooled M (nI c) (nI t) (nI b) = some 1 ∧ fX7_waitsBehind C (40 * c + t) (24 * c + b) = 1) ∨ (fX11_pooled M (nI c) (nI t) (nI b) = some 0 ∧ fX7_waitsBehind C (40 * c + t) (24 * c + b) = 0) := by
  have hnt := (h.NT c hc).2.2
  obtain ⟨g1, g2, g3⟩ := inB_40c hc (show t < 40 by omega)
  have htn : xI C 700 (40 * c + t) 0 = nI t := by
    rw [h.TN _ (show 40 * c + t < 80 by omega), show (40 * c + t) % 40 = t by omega]
  rcases (h.LV c hc).1 t ht with ⟨l1, l2⟩ | ⟨l1, l2⟩
  · rcases dHolds h hc hb (show t < 40 by omega) with ⟨-, p2, p3⟩ | ⟨-, p2, p3⟩
    · refine Or.inr ⟨?_, ?_⟩
      · unfold fX11_pooled
        rw [if_pos g1, g3, l2, if_pos rfl, ob_s p2, if_neg one_n0]
        rfl
      · unfold fX7_waitsBehind
        rw [l1, if_neg one_n0, htn, p3, if_neg one_n0]
    · refine Or.inl ⟨?_, ?_⟩
      · unfold fX11_pooled
        rw [if_pos g1, g3, l2, if_pos rfl, ob_s p2, if_pos rfl]
        rfl
      · unfold fX7_waitsBehind
        rw [l1, if_neg one_n0, htn, p3, if_pos rfl]
  · refine Or.inr ⟨?_, ?_⟩
    · unfold fX11_pooled
      rw [if_pos g1, g3, l2, if_neg one_n0]
      rfl
    · unfold fX7_waitsBehind
      rw [l1, if_pos rfl]
theorem cNoWait {D : XD} {C M : XO} (h : RGD D C M) {c t g : Nat} (hc : c < 2) (ht : dnt D c ≤ t) (ht2 : t < 40) : fX7_waitsBehind C (40 * c + t) g = 0 := by
  unfold fX7_waitsBehind
  rw [((h.LV c hc).2 t ht ht2).1, if_pos rfl]
theorem dSize_l {D : XD} {C M : XO} (h : RGD D C M) {c m : Nat} (hc : c < 2) (hm : m < dnb D c) (hh : fX1_headBlock C c = 24 * c + m) : ∀ (n k : Nat) (y : Int32), n = 41 - k → k ≤ 40 → ∃ y', fX1_countWaiting_l C c n k y = y' ∧ (∀ n2, k ≤ dnt D c → n2 = dnt D c - k + 1 → fX11_size_l11 M (nI m) (nI c) n2 (nI k) y = some (nI (dnt D c), y')) ∧ (dnt D c ≤ k → y' = y)
  | 0, k, y, hn, hk => absurd hn (by omega)
  | n + 1, k, y, hn, hk => by
    obtain ⟨t1, t2, t3⟩ := h.NT c hc
    by_cases hk40 : k = 40
    · subst hk40
      refine ⟨y, ?_, fun n2 z1 z2 => ?_, fun _ => rfl⟩
      · rw [fX1_countWaiting_l, if_pos (show nI (alen 2003) ≤ nI 40 by decide)]
      · have e : dnt D c = 40 := by omega
        rw [z2, e, Nat.sub_self, fX11_size_l11, if_pos (inB_nI hc (by decide)), cl_nI (by omega), t2, e, if_pos (Int32.le_refl _)]
    · have hcl : ∀ y2, fX1_countWaiting_l C c (n + 1) k y2 = if fX7_waitsBehind C (40 * c + k) (24 * c + m) = 0 then fX1_countWaiting_l C c n (k + 1) y2 else fX1_countWaiting_l C c n (k + 1) (y2 + 1) := by
        intro y2
        rw [fX1_countWaiting_l, if_neg (show ¬ nI (alen 2003) ≤ nI k from nI_ge (b := 40) (by omega) (by decide)), hh, cl_nI (by omega)]
      by_cases hkn : k < dnt D c
      · have hmo : ∀ n2, fX11_size_l11 M (nI m) (nI c) (n2 + 1) (nI k) y = (fX11_pooled M (nI c) (nI k) (nI m)).bind (fun r_4 => fX11_size_l11 M (nI m) (nI c) n2 (nI (k + 1)) (y + (if r_4 = 0 then (0 : Int32) else (1 : Int32)))) := by
          intro n2
          rw [fX11_size_l11, if_pos (inB_nI hc (by decide)), cl_nI (by omega), t2, if_neg (nI_ge hkn (by omega)), nI_1]
          rfl
        rcases dPooled h hc hm hkn with ⟨p1, p2⟩ | ⟨p1, p2⟩
        · obtain ⟨y', q1, q2, q3⟩ := dSize_l h hc hm hh n (k + 1) (y + 1) (by omega) (by omega)
          refine ⟨y', ?_, fun n2 z1 z2 => ?_, fun z => absurd z (by omega)⟩
          · rw [hcl, p2, if_neg one_n0, q1]
          · obtain ⟨n3, rfl⟩ : ∃ n3, n2 = n3 + 1 := ⟨n2 - 1, by omega⟩
            rw [hmo, ob_s p1, if_neg one_n0]
            exact q2 n3 (by omega) (by omega)
        · obtain ⟨y', q1, q2, q3⟩ := dSize_l h hc hm hh n (k + 1) y (by omega) (by omega)
          refine ⟨y', ?_, fun n2 z1 z2 => ?_, fun z => absurd z (by omega)⟩
          · rw [hcl, p2, if_pos rfl, q1]
          · obtain ⟨n3, rfl⟩ : ∃ n3, n2 = n3 + 1 := ⟨n2 - 1, by omega⟩
            rw [hmo, ob_s p1, if_pos rfl, Int32.add_zero]
            exact q2 n3 (by omega) (by omega)
      · obtain ⟨y', q1, q2, q3⟩ := dSize_l h hc hm hh n (k + 1) y (by omega) (by omega)
        have q4 := q3 (by omega)
        refine ⟨y', ?_, fun n2 z1 z2 => ?_, fun _ => q4⟩
        · rw [hcl, cNoWait h hc (by omega) (by omega), if_pos rfl, q1]
        · have e : dnt D c = k := by omega
          rw [z2, e, Nat.sub_self, q4, fX11_size_l11, if_pos (inB_nI hc (by decide)), cl_nI (by omega), t2, e, if_pos (Int32.le_refl _)]
theorem dSize {D : XD} {C M : XO} (h : RGD D C M) {c : Nat} (hc : c < 2) : fX11_size M (nI c) = some (fX1_countWaiting C c) := by
  obtain ⟨m, p1, p2, p3, p4⟩ := dHead h hc
  obtain ⟨t1, t2, t3⟩ := h.NT c hc
  obtain ⟨y', q1, q2, q3⟩ := dSize_l h hc p1 p3 41 0 0 rfl (by decide)
  unfold fX11_size
  rw [ob_s p4, cl_nI (by omega), t2, cl_nI (by omega)]
  have e := q2 (dnt D c + 1) (Nat.zero_le _) (by rw [Nat.sub_zero])
  have e' : fX11_size_l11 M (nI m) (nI c) (dnt D c + 1) (0 : Int32) 0 = some (nI (dnt D c), y') := e
  rw [ob_s e']
  have q1' : fX1_countWaiting C c = y' := q1
  rw [q1']
