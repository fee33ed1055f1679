/-- class: fits, by its parts -/
theorem cFits {C : XO} {i b sd v ga mo u0 co : Nat} {B nc nn : Int32} (hsd : sd < 16) (c707 : xI C 707 i 0 = nI mo) (c5 : xI C 5 b 0 = B) (c6 : xI C 6 b 0 = nI u0) (hu : u0 ≤ 600) (c706 : xI C 706 i 0 = nI ga) (c701 : xI C 701 i 0 = nI sd) (c702 : xI C 702 i 0 = nc) (c704 : xI C 704 i 0 = nI v) (hnn : xI C 2012 b sd = nn) (hco : xI C 2011 b sd = nI co) (hmo : mo ≤ 100) (hga : ga ≤ 600) (hv : v ≤ 10000) (hco2 : co ≤ 80000) : fX7_fits C i b = (if nI mo < B then (0 : Int32) else if 600 < u0 + ga then 0 else if nn = nc then (if co < v + ga * mo then 0 else 1) else 0) := by
  have hm : ga * mo ≤ 600 * 100 := Nat.mul_le_mul hga hmo
  unfold fX7_fits
  rw [c707, c5, c6, c706, c701, sAt_nI (show sd < alen 2012 from hsd) (by decide), sAt_nI (show sd < alen 2011 from hsd) (by decide), hnn, hco, c702, c704, nI_mul, nI_add, show (600 : Int32) = nI 600 from rfl, nI_subI hu]
  by_cases z1 : nI mo < B
  · rw [if_pos z1, if_pos z1]
  · rw [if_neg z1, if_neg z1]
    by_cases z2 : 600 < u0 + ga
    · rw [if_pos (nI_lt (by omega) (by omega)), if_pos z2]
    · rw [if_neg (nI_nlt (by omega) (by omega)), if_neg z2]
      by_cases z3 : nn = nc
      · rw [if_pos z3, if_pos z3]
        by_cases z4 : co < v + ga * mo
        · rw [if_pos (nI_lt z4 (by omega)), if_pos z4]
        · rw [if_neg (nI_nlt (by omega) (by omega)), if_neg z4]
      · rw [if_neg z3, if_neg z3]
/-- reference: fit, by its parts -/
theorem eFit {M : XO} {kk sd v ga mo co : Nat} {B nc nn : Int32} (hkk : kk < 80) (hsd : sd < 16) (c707 : xI M 2117 0 kk = nI mo) (c706 : xI M 2116 0 kk = nI ga) (c701 : xI M 2111 0 kk = nI sd) (c702 : xI M 2112 0 kk = nc) (c704 : xI M 2114 0 kk = nI v) (hnn : xI M 2101 0 (16 + sd) = nn) (hco : xI M 2101 0 sd = nI co) (hmo : mo ≤ 100) (hga : ga ≤ 600) (hv : v ≤ 10000) (hco2 : co ≤ 80000) : fX11_fit M (nI kk) B = some (if nn = nc then (if co < v + ga * mo then 0 else if nI mo < B then 0 else 1) else 0) := by
  have hm : ga * mo ≤ 600 * 100 := Nat.mul_le_mul hga hmo
  have hin : inB (nI kk) 80 := inB_nI hkk (by decide)
  have hcl : (nI kk).toNatClampNeg = kk := cl_nI (by omega)
  unfold fX11_fit
  rw [if_pos hin, hcl, c701, show (16 : Int32) = nI 16 from rfl, nI_add, if_pos (inB_nI (by omega) (by decide)), if_pos hin, cl_nI (show 16 + sd < 2147483648 by omega), hnn, c702]
  by_cases z3 : nn = nc
  · rw [if_pos z3, if_pos z3, if_pos (inB_nI (by omega) (by decide)), if_pos hin, if_pos hin, if_pos hin, cl_nI (show sd < 2147483648 by omega), hco, c704, c706, c707, nI_mul, nI_add]
    by_cases z4 : co < v + ga * mo
    · rw [if_pos (nI_lt z4 (by omega)), if_pos z4, Option.bind_some, if_pos (Or.inl rfl)]
    · rw [if_neg (nI_nlt (by omega) (by omega)), if_neg z4, if_pos hin]
      by_cases z1 : nI mo < B
      · rw [if_pos z1, if_pos z1, Option.bind_some, if_pos (Or.inl rfl)]
      · rw [if_neg z1, if_neg z1, Option.bind_some, if_pos (Or.inr rfl)]
  · rw [if_neg z3, if_neg z3, Option.bind_some, if_pos (Or.inl rfl)]
theorem cHolds {C : XO} {b t : Nat} : (b64 (xL C 17 b 0) t → fX0_holds C b (nI t) = 1) ∧ (¬ b64 (xL C 17 b 0) t → fX0_holds C b (nI t) = 0) := by
  unfold fX0_holds
  exact ⟨fun q => if_pos (cmp_eq.mpr q), fun q => if_neg (fun z => q (cmp_eq.mp z))⟩
/-- a stage of the making of a block: what each side may take -/
theorem stage {D : XD} {Cb Mb C M : XO} (h : RGD D Cb Mb) {c nb u0 : Nat} {B : Int32} {Hd : Nat → Prop} (hc : c < 2) (hnb : nb < 24) (hu : u0 ≤ 600)
    (tC : ∀ k i, 700 ≤ k → k ≤ 712 → xI C k i 0 = xI Cb k i 0) (tM : ∀ k j, k = 2108 ∨ (2111 ≤ k ∧ k ≤ 2119) → xI M k 0 j = xI Mb k 0 j)
    (c5 : xI C 5 (24 * c + nb) 0 = B) (c6 : xI C 6 (24 * c + nb) 0 = nI u0) (m2125 : xI M 2125 0 (24 * c + nb) = nI u0)
    (hs1 : ∀ a, a < 16 → xI C 2011 (24 * c + nb) a = xI M 2101 0 a) (hs2 : ∀ a, a < 16 → xI C 2012 (24 * c + nb) a = xI M 2101 0 (16 + a)) (hco : ∀ a, a < 16 → ∃ n, xI M 2101 0 a = nI n ∧ n ≤ 80000)
    (hin : ∀ t, t < 40 → (Hd t ∧ fX11_isIn M (nI c) (nI nb) (nI t) = some 1) ∨ (¬ Hd t ∧ fX11_isIn M (nI c) (nI nb) (nI t) = some 0)) (hh : ∀ t, t < 40 → (b64 (xL C 17 (24 * c + nb) 0) t ↔ Hd t)) (hB : 1 ≤ B.toInt) :
    (∀ t, dnt D c ≤ t → t < 40 → ¬ canC C c (24 * c + nb) t) ∧ (∀ t, t < dnt D c → (canC C c (24 * c + nb) t ∧ jM M B (nI c) (nI nb) (nI t) = some 1) ∨ (¬ canC C c (24 * c + nb) t ∧ jM M B (nI c) (nI nb) (nI t) = some 0)) ∧ (∀ t, t < dnt D c → fX11_price M (nI (40 * c + t)) B = some (fX7_priceAt C (40 * c + t) B)) ∧ ∀ t, t < dnt D c → canC C c (24 * c + nb) t → ∃ sd nc v ga mo tp ba co : Nat, (sd < 6 ∧ nc ≤ 9 ∧ v ≤ 10000 ∧ 20 ≤ ga ∧ ga ≤ 600 ∧ 1 ≤ mo ∧ mo ≤ 100 ∧ tp ≤ mo) ∧ xI Cb 701 (40 * c + t) 0 = nI sd ∧ xI Cb 702 (40 * c + t) 0 = nI nc ∧ xI Cb 704 (40 * c + t) 0 = nI v ∧ xI Cb 706 (40 * c + t) 0 = nI ga ∧ xI Cb 707 (40 * c + t) 0 = nI mo ∧ xI Cb 708 (40 * c + t) 0 = nI tp ∧ B = nI ba ∧ 1 ≤ ba ∧ ba ≤ mo ∧ u0 + ga ≤ 600 ∧ xI M 2101 0 sd = nI co ∧ v + ga * mo ≤ co ∧ co ≤ 80000 ∧ ¬ Hd t := by
  obtain ⟨-, -, hn40⟩ := h.NT c hc
  obtain ⟨lv1, lv2⟩ := h.LV c hc
  have i700 : ∀ t, t < 40 → xI C 700 (40 * c + t) 0 = nI t := fun t ht => by
    rw [tC 700 _ (by decide) (by decide), h.TN _ (show 40 * c + t < 80 by omega), show (40 * c + t) % 40 = t by omega]
  have main : ∀ t, t < dnt D c → ∃ sd nc v ga mo tp co : Nat, (sd < 6 ∧ nc ≤ 9 ∧ v ≤ 10000 ∧ 20 ≤ ga ∧ ga ≤ 600 ∧ 1 ≤ mo ∧ mo ≤ 100 ∧ tp ≤ mo) ∧ (xI Cb 701 (40 * c + t) 0 = nI sd ∧ xI Cb 702 (40 * c + t) 0 = nI nc ∧ xI Cb 704 (40 * c + t) 0 = nI v ∧ xI Cb 706 (40 * c + t) 0 = nI ga ∧ xI Cb 707 (40 * c + t) 0 = nI mo ∧ xI Cb 708 (40 * c + t) 0 = nI tp) ∧ xI M 2101 0 sd = nI co ∧ co ≤ 80000 ∧ fX7_fits C (40 * c + t) (24 * c + nb) = (if nI mo < B then (0 : Int32) else if 600 < u0 + ga then 0 else if xI M 2101 0 (16 + sd) = nI nc then (if co < v + ga * mo then 0 else 1) else 0) ∧ fX11_fit M (nI (40 * c + t)) B = some (if xI M 2101 0 (16 + sd) = nI nc then (if co < v + ga * mo then 0 else if nI mo < B then 0 else 1) else 0) ∧ xI M 2116 0 (40 * c + t) = nI ga ∧ fX11_price M (nI (40 * c + t)) B = some (fX7_priceAt C (40 * c + t) B) := by
    intro t ht
    obtain ⟨sd, nc, v, ga, mo, tp, b1, b2, b3, b4, b5, b6, b7, b8, b9, b10, b11, b12, b13, b14⟩ := h.TB c hc t ht
    obtain ⟨t1, t2, t3, t4, t5, t6⟩ := h.TX c hc t ht
    obtain ⟨co, co1, co2⟩ := hco sd (by omega)
    have m1 : xI M 2111 0 (40 * c + t) = nI sd := by rw [tM _ _ (Or.inr ⟨by decide, by decide⟩), ← t1, b1]
    have m2 : xI M 2112 0 (40 * c + t) = nI nc := by rw [tM _ _ (Or.inr ⟨by decide, by decide⟩), ← t2, b3]
    have m4 : xI M 2114 0 (40 * c + t) = nI v := by rw [tM _ _ (Or.inr ⟨by decide, by decide⟩), ← t3, b5]
    have m6 : xI M 2116 0 (40 * c + t) = nI ga := by rw [tM _ _ (Or.inr ⟨by decide, by decide⟩), ← t4, b7]
    have m7 : xI M 2117 0 (40 * c + t) = nI mo := by rw [tM _ _ (Or.inr ⟨by decide, by decide⟩), ← t5, b10]
    have m8 : xI M 2118 0 (40 * c + t) = nI tp := by rw [tM _ _ (Or.inr ⟨by decide, by decide⟩), ← t6, b13]
    have hin' : inB (nI (40 * c + t)) 80 := inB_nI (by omega) (by decide)
    have hcl' : (nI (40 * c + t)).toNatClampNeg = 40 * c + t := cl_nI (by omega)
    refine ⟨sd, nc, v, ga, mo, tp, co, ⟨b2, b4, b6, b8, b9, b11, b12, b14⟩, ⟨b1, b3, b5, b7, b10, b13⟩, co1, co2, ?_, ?_, m6, ?_⟩
    · exact cFits (by omega) (by rw [tC _ _ (by decide) (by decide), b10]) c5 c6 hu (by rw [tC _ _ (by decide) (by decide), b7]) (by rw [tC _ _ (by decide) (by decide), b1]) (by rw [tC _ _ (by decide) (by decide), b3]) (by rw [tC _ _ (by decide) (by decide), b5]) (hs2 sd (by omega)) (by rw [hs1 sd (by omega), co1]) b12 b9 b6 co2
    · exact eFit (by omega) (by omega) m7 m6 m1 m2 m4 rfl co1 b12 b9 b6 co2
    · unfold fX11_price fX7_priceAt
      rw [if_pos hin', if_pos hin', hcl', m7, m8, tC 707 _ (by decide) (by decide), tC 708 _ (by decide) (by decide), b10, b13]
      by_cases z : B + nI tp < nI mo
      · rw [if_pos (Int32.le_of_lt z), if_pos hin', Option.bind_some, if_pos z]
      · rw [if_neg z]
        by_cases z2 : B + nI tp = nI mo
        · rw [if_pos (by rw [z2]; exact Int32.le_refl _), if_pos hin', Option.bind_some, z2]
        · rw [if_neg (fun y => by
            rw [ti_le] at y
            rw [ti_lt] at z
            exact z2 (ti_eq.mpr (by omega))), if_pos hin', Option.bind_some]
  have cw : ∀ t, t < 40 → (xI Cb 712 (40 * c + t) 0 = 1 ∧ ¬ Hd t → fX7_waitsBehind C (40 * c + t) (24 * c + nb) = 1) ∧ (¬ (xI Cb 712 (40 * c + t) 0 = 1 ∧ ¬ Hd t) → (xI Cb 712 (40 * c + t) 0 = 0 ∨ xI Cb 712 (40 * c + t) 0 = 1) → fX7_waitsBehind C (40 * c + t) (24 * c + nb) = 0) := by
    intro t ht
    unfold fX7_waitsBehind
    rw [tC 712 _ (by decide) (by decide), i700 t ht]
    refine ⟨fun y => ?_, fun y y2 => ?_⟩
    · rw [y.1, if_neg one_n0, cHolds.2 (fun w => y.2 ((hh t ht).mp w)), if_pos rfl]
    · rcases y2 with y2 | y2
      · rw [if_pos y2]
      · rw [y2, if_neg one_n0]
        by_cases z : Hd t
        · rw [cHolds.1 ((hh t ht).mpr z), if_neg one_n0]
        · exact absurd ⟨y2, z⟩ y
  refine ⟨fun t ht1 ht2 hcan => ?_, fun t ht => ?_, fun t ht => ?_, fun t ht hcan => ?_⟩
  · obtain ⟨l1, -⟩ := lv2 t ht1 ht2
    exact hcan.1 ((cw t ht2).2 (fun y => by rw [l1] at y; exact absurd y.1 (by decide)) (Or.inl l1))
  · obtain ⟨sd, nc, v, ga, mo, tp, co, hb, hf, co1, co2, e1, e2, e3, -⟩ := main t ht
    have ht40 : t < 40 := by omega
    obtain ⟨g1, g2, g3⟩ := inB_24 hc hnb
    have eI : (40 : Int32) * nI c + nI t = nI (40 * c + t) := by rw [show (40 : Int32) = nI 40 from rfl, nI_mul, nI_add]
    have m2119 := tM 2119 (40 * c + t) (Or.inr ⟨by decide, by decide⟩)
    have e600 : (600 : Int32) - nI u0 = nI (600 - u0) := by rw [show (600 : Int32) = nI 600 from rfl, nI_subI hu]
    have hj : jM M B (nI c) (nI nb) (nI t) = (if xI Mb 2119 0 (40 * c + t) = 0 then (if 600 < u0 + ga then some 0 else (some (if xI M 2101 0 (16 + sd) = nI nc then (if co < v + ga * mo then (0 : Int32) else if nI mo < B then 0 else 1) else 0)).bind (fun r_13 => (if r_13 = 0 then (some (0 : Int32)) else (fX11_isIn M (nI c) (nI nb) (nI t)).bind (fun r_15 => (if r_15 = 0 then (some (1 : Int32)) else (some (0 : Int32))))))) else some 0) := by
      unfold jM
      rw [eI, cl_nI (show 40 * c + t < 2147483648 by omega), m2119, if_pos (inB_nI (show 40 * c + t < 80 by omega) (by decide)), if_pos g1, g3, m2125, e600, e3, e2]
      by_cases z : 600 < u0 + ga
      · rw [if_pos (nI_lt (by omega) (by omega)), if_pos z]
      · rw [if_neg (nI_nlt (by omega) (by omega)), if_neg z]
    have k0 : ∀ {x : Int32}, fX7_fits C (40 * c + t) (24 * c + nb) = x → x = 0 → ¬ canC C c (24 * c + nb) t := fun e y w => w.2 (e.trans y)
    rcases lv1 t ht with ⟨l1, l2⟩ | ⟨l1, l2⟩
    · rw [if_pos l2] at hj
      by_cases z2 : 600 < u0 + ga
      · rw [if_pos z2] at hj
        refine Or.inr ⟨k0 e1 ?_, hj⟩
        by_cases z1 : nI mo < B
        · rw [if_pos z1]
        · rw [if_neg z1, if_pos z2]
      · rw [if_neg z2, Option.bind_some] at hj
        by_cases z3 : xI M 2101 0 (16 + sd) = nI nc
        · rw [if_pos z3] at hj e1
          by_cases z4 : co < v + ga * mo
          · rw [if_pos z4, if_pos rfl] at hj
            rw [if_pos z4] at e1
            refine Or.inr ⟨k0 e1 ?_, hj⟩
            by_cases z1 : nI mo < B
            · rw [if_pos z1]
            · rw [if_neg z1, if_neg z2]
          · rw [if_neg z4] at hj e1
            by_cases z1 : nI mo < B
            · rw [if_pos z1, if_pos rfl] at hj
              rw [if_pos z1] at e1
              exact Or.inr ⟨k0 e1 rfl, hj⟩
            · rw [if_neg z1, if_neg one_n0] at hj
              rw [if_neg z1, if_neg z2] at e1
              rcases hin t ht40 with ⟨hd, hi⟩ | ⟨hd, hi⟩
              · rw [hi, Option.bind_some, if_neg one_n0] at hj
                exact Or.inr ⟨fun y => y.1 ((cw t ht40).2 (fun w => w.2 hd) (Or.inr l1)), hj⟩
              · rw [hi, Option.bind_some, if_pos rfl] at hj
                refine Or.inl ⟨⟨?_, by rw [e1]; exact one_n0⟩, hj⟩
                rw [(cw t ht40).1 ⟨l1, hd⟩]
                exact one_n0
        · rw [if_neg z3, if_pos rfl] at hj
          rw [if_neg z3] at e1
          refine Or.inr ⟨k0 e1 ?_, hj⟩
          by_cases z1 : nI mo < B
          · rw [if_pos z1]
          · rw [if_neg z1, if_neg z2]
    · rw [if_neg (by rw [l2]; exact one_n0)] at hj
      exact Or.inr ⟨fun y => y.1 ((cw t ht40).2 (fun w => by rw [l1] at w; exact absurd w.1 (by decide)) (Or.inl l1)), hj⟩
  · obtain ⟨_, _, _, _, _, _, _, _, _, _, _, _, _, _, e⟩ := main t ht
    exact e
  · obtain ⟨sd, nc, v, ga, mo, tp, co, hb, hf, co1, co2, e1, e2, e3, -⟩ := main t ht
    have ht40 : t < 40 := by omega
    obtain ⟨k1, k2⟩ := hcan
    rw [e1] at k2
    by_cases z1 : nI mo < B
    · rw [if_pos z1] at k2
      exact absurd rfl k2
    · rw [if_neg z1] at k2
      by_cases z2 : 600 < u0 + ga
      · rw [if_pos z2] at k2
        exact absurd rfl k2
      · rw [if_neg z2] at k2
        by_cases z3 : xI M 2101 0 (16 + sd) = nI nc
        · rw [if_pos z3] at k2
          by_cases z4 : co < v + ga * mo
          · rw [if_pos z4] at k2
            exact absurd rfl k2
          · obtain ⟨ba, hba, hba2, hba3⟩ := toNN (x := B) (by omega)
            have hle : ba ≤ mo := by
              rw [ti_lt, ti_nI (by omega)] at z1
              omega
            refine ⟨sd, nc, v, ga, mo, tp, ba, co, hb, hf.1, hf.2.1, hf.2.2.1, hf.2.2.2.1, hf.2.2.2.2.1, hf.2.2.2.2.2, hba, by omega, hle, by omega, co1, by omega, co2, fun hd => ?_⟩
            rcases lv1 t ht with ⟨l1, -⟩ | ⟨l1, -⟩
            · exact k1 ((cw t ht40).2 (fun w => w.2 hd) (Or.inr l1))
            · exact k1 ((cw t ht40).2 (fun w => by rw [l1] at w; exact absurd w.1 (by decide)) (Or.inl l1))
        · rw [if_neg z3] at k2
          exact absurd rfl k2
