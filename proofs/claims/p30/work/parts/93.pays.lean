/-- a lock of the other chain is paid, on both machines -/
theorem MS.bit {P : XP} {d e q s : Nat} {C M : XO} (h : MS P d e q s C M) {lk : Nat} (hlk : lk < 40) : MS P d e q s (uL C 605 (pb P) 0 (xL C 605 (pb P) 0 ||| ((1 : Int64) <<< ((nI lk).toInt64 &&& 63)))) (uI M 2101 0 (113 + lk / 20) (xI M 2101 0 (113 + lk / 20) ||| ((1 : Int32) <<< (nI (lk % 20) &&& 31)))) := by
  have hb := h.1.ZP.1
  have hq : lk / 20 < 2 := by omega
  refine ⟨h.1.stPaid (fun _ _ _ _ => rfl) (fun k hk i j => I_ne (nc_ne hk).1) (fun k i j => by rw [L_uI]) (fun _ _ => rfl) ?_ ⟨fun t ht => ?_, fun i hi t ht => ?_⟩ (OW_w h.1.OW (Or.inr (Or.inl (by omega)))) (sFB_up h.1.FB (C' := C) rfl _) (fun k i j z => ?_), ?_⟩
  · have h1 : sLN (P := P) (d := d) C (uI M 2101 0 (113 + lk / 20) (xI M 2101 0 (113 + lk / 20) ||| ((1 : Int32) <<< (nI (lk % 20) &&& 31)))) := by
      refine h.1.LN.upm2 hb ?_ _
      have e1 : qh (pb P) (pb P) 2101 (113 + lk / 20) = (604, pb P, 0) := by
        unfold qh
        rw [if_pos rfl, if_neg (by omega), if_neg (by omega), if_neg (by omega), if_neg (by omega)]
      rw [e1]
      dsimp only
      rw [ph_604]
      intro y
      have := congrArg (fun o => o.map Prod.snd) y
      have := Option.some.inj this
      dsimp only at this
      omega
    exact h1
  · rw [L_uL, if_pos ⟨rfl, rfl, rfl⟩, b64_set (by omega) (by omega), I_uI]
    by_cases z : 113 + t / 20 = 113 + lk / 20
    · rw [if_pos ⟨rfl, rfl, z⟩, b32_set (by omega) (by omega), h.1.PD.1 t ht, z]
      have : t = lk ↔ t % 20 = lk % 20 := by omega
      rw [this]
    · rw [if_neg (fun y => z y.2.2), h.1.PD.1 t ht]
      have : t ≠ lk := fun y => z (by rw [y])
      exact ⟨fun y => by rcases y with y | y; exact y; exact absurd y this, Or.inl⟩
  · rw [L_uL, if_neg (fun y => by have := y.2.1; omega), I_ne (by decide)]
    exact h.1.PD.2 i hi t ht
  · rw [L_uL, if_neg (fun y => by rcases z with z | z; exact z y.1; exact z.1 y.2.1)]
    exact h.1.FL k i j z
  · obtain ⟨u, u1, u2⟩ := h.2
    refine ⟨u, fun j hj => ?_, u2⟩
    dsimp only
    rw [I_uI, if_neg (fun y => by have := y.2.2; omega)]
    exact u1 j hj
theorem cPaid {C : XO} {b lk : Nat} : (b64 (xL C 605 b 0) lk → fX6_isPaid C b (nI lk) = 1) ∧ (¬ b64 (xL C 605 b 0) lk → fX6_isPaid C b (nI lk) = 0) := by
  unfold fX6_isPaid b64
  refine ⟨fun y => ?_, fun y => ?_⟩
  · rw [y]
    exact if_pos rfl
  · rw [if_neg]
    intro z
    exact y (cmp_eq.mp z)
theorem MS.pays {P : XP} {q s : Nat} {C M : XO} (h : MS P 0 0 q s C M) {i1 c kk lk lv py ii : Nat} (hc : c < 2) (hkk : kk < 80) (hlk : lk < 40) (hlv : lv ≤ 10000) (hii : ii ≤ 9999) (hpy : py = ii % 6) (c709 : xI C 709 i1 0 = nI lk) (c710 : xI C 710 i1 0 = nI lv) (c711 : xI C 711 i1 0 = nI py) (m2115 : xI M 2115 0 kk = nI lk) (m2114 : xI M 2114 0 (40 * (1 - c) + lk) = nI lv) (m2115b : xI M 2115 0 (40 * (1 - c) + lk) = nI ii) : ∃ C' M' w, fX4_payOut C (pb P) (pb P) i1 = some (nI w, C') ∧ fX11_paysLock M (nI c) (nI kk) = some (nI w, M') ∧ w ≤ 1 ∧ MS P 0 0 q s C' M' ∧ (∀ k i j, k ≠ 2011 → xI C' k i j = xI C k i j) ∧ (∀ k i j, k ≠ 2101 → xI M' k i j = xI M k i j) := by
  have hb := h.1.ZP.1
  have hT := h.1.ZP.2.2.2.1
  have hrf := h.1.RF.2
  obtain ⟨x, x1, x2⟩ := h.2.get.1 15 (by decide)
  have x1' : xI M 2101 0 15 = nI x := x1
  have s1 : sAt C 2011 (pb P) (15 : Int32) = nI x := by
    rw [show (15 : Int32) = nI 15 from rfl, sAt_nI (show 15 < alen 2011 from (by decide)) (by decide), h.1.eI (by decide), x1']
  have hq2 : lk / 20 < 2 := by omega
  have e1 : nI lk / (20 : Int32) = nI (lk / 20) := by rw [show (20 : Int32) = nI 20 from rfl, div_nI (by omega) (by decide) (by decide)]
  have e2 : nI lk - nI lk / (20 : Int32) * (20 : Int32) = nI (lk % 20) := by rw [show (20 : Int32) = nI 20 from rfl, rem_nI (by omega) (by decide) (by decide)]
  have e3 : (113 : Int32) + nI (lk / 20) = nI (113 + lk / 20) := by rw [show (113 : Int32) = nI 113 from rfl, nI_add]
  have i3 : inB (nI (113 + lk / 20)) 120 := inB_nI (by omega) (by decide)
  have k3 : (nI (113 + lk / 20)).toNatClampNeg = 113 + lk / 20 := cl_nI (by omega)
  have e4 : (40 : Int32) * ((1 : Int32) - nI c) + nI lk = nI (40 * (1 - c) + lk) := by rw [oth hc, show (40 : Int32) = nI 40 from rfl, nI_mul, nI_add]
  have i4 : inB (nI (40 * (1 - c) + lk)) 80 := inB_nI (by omega) (by decide)
  have k4 : (nI (40 * (1 - c) + lk)).toNatClampNeg = 40 * (1 - c) + lk := cl_nI (by omega)
  have k15 : (15 : Int32).toNatClampNeg = 15 := rfl
  have e5 : nI ii - nI ii / (6 : Int32) * (6 : Int32) = nI py := by rw [hpy, show (6 : Int32) = nI 6 from rfl, rem_nI (by omega) (by decide) (by decide)]
  have hpd := h.1.PD.1 lk hlk
  have hM : fX11_paysLock M (nI c) (nI kk) = (if (xI M 2101 0 (113 + lk / 20) >>> (nI (lk % 20) &&& 31)) &&& (1 : Int32) = 1 then some (0, M) else if nI lv ≤ nI x then (fX11_move (uI M 2101 0 (113 + lk / 20) (xI M 2101 0 (113 + lk / 20) ||| ((1 : Int32) <<< (nI (lk % 20) &&& 31)))) (15 : Int32) (nI py) (nI lv)).bind (fun r_16 => some (1, r_16)) else some (0, M)) := by
    unfold fX11_paysLock wl
    dsimp only
    have w : ∀ v, xI (uI M 2101 0 (113 + lk / 20) v) 2115 0 (40 * (1 - c) + lk) = nI ii := fun v => by rw [I_ne (by decide), m2115b]
    rw [if_pos (inB_nI hkk (by decide)), cl_nI (show kk < 2147483648 by omega), m2115, e4, if_pos i4, e1, e3, if_pos i3, k3]
    rw [show nI lk - nI (lk / 20) * (20 : Int32) = nI (lk % 20) by rw [← e1]; exact e2, k4, m2114, k15, x1']
    simp only [if_pos i3, if_pos i4, w, e5]
  have hC : fX4_payOut C (pb P) (pb P) i1 = (if fX6_isPaid C (pb P) (nI lk) = 0 then (if nI lv ≤ nI x then some (1, uL (fX6_move C (pb P) (15 : Int32) (nI py) (nI lv)) 605 (pb P) 0 ((xL (fX6_move C (pb P) (15 : Int32) (nI py) (nI lv)) 605 (pb P) 0) ||| ((1 : Int64) <<< ((xI (fX6_move C (pb P) (15 : Int32) (nI py) (nI lv)) 709 i1 0).toInt64 &&& 63)))) else some (0, C)) else some (0, C)) := by
    unfold fX4_payOut wl
    dsimp only
    have hr : xR (fX6_move C (pb P) (15 : Int32) (nI py) (nI lv)) 404 0 = pb P := by
      unfold fX6_move
      split
      · exact hrf
      split
      · exact hrf
      split
      · exact hrf
      split
      · exact hrf
      · exact hrf
    rw [c709, c710, c711, s1]
    simp only [if_pos hrf, if_pos hr]
  by_cases hp : b64 (xL C 605 (pb P) 0) lk
  · refine ⟨C, M, 0, ?_, ?_, by omega, h, fun _ _ _ _ => rfl, fun _ _ _ _ => rfl⟩
    · rw [hC, cPaid.1 hp, if_neg one_n0]
      rfl
    · rw [hM, if_pos (show (xI M 2101 0 (113 + lk / 20) >>> (nI (lk % 20) &&& 31)) &&& (1 : Int32) = 1 from hpd.mp hp)]
      rfl
  · rw [cPaid.2 hp, if_pos rfl] at hC
    rw [if_neg (show ¬ (xI M 2101 0 (113 + lk / 20) >>> (nI (lk % 20) &&& 31)) &&& (1 : Int32) = 1 from fun y => hp (hpd.mpr y))] at hM
    by_cases hv : lv ≤ x
    · rw [if_pos (nI_le hv (by omega))] at hC hM
      obtain ⟨C1, M1, q1, q2, q3, q4, q5, q6, q7⟩ := h.move (a := 15) (c := py) (by decide) (by omega) x1' (by omega) hv
      have q1' : fX6_move C (pb P) (15 : Int32) (nI py) (nI lv) = C1 := q1
      have q2' := eMove (M := M) (a := 15) (c := py) (by decide) (by omega) (nI lv)
      rw [q2] at q2'
      have hM1 := Option.some.inj q2'
      have hbit := q3.bit hlk
      refine ⟨_, _, 1, ?_, ?_, Nat.le_refl _, hbit, fun k i j hk => by rw [I_uL]; exact q4 k i j hk, fun k i j hk => by rw [I_ne hk, q6 k i j hk]⟩
      · rw [hC, q1', q4 _ _ _ (by decide), c709]
        rfl
      · rw [hM, show (15 : Int32) = nI 15 from rfl, eMove (by decide) (by omega), Option.bind_some]
        have hpyl : py < 6 := by rw [hpy]; exact Nat.mod_lt _ (by decide)
        obtain ⟨V, hV⟩ : ∃ V, V = xI M 2101 0 (113 + lk / 20) ||| ((1 : Int32) <<< (nI (lk % 20) &&& 31)) := ⟨_, rfl⟩
        have w1 : xI (uI M 2101 0 (113 + lk / 20) V) 2101 0 15 = xI M 2101 0 15 := by rw [I_uI, if_neg (fun y => by have := y.2.2; omega)]
        have w2 : ∀ u, xI (uI (uI M 2101 0 (113 + lk / 20) V) 2101 0 15 u) 2101 0 py = xI (uI M 2101 0 15 u) 2101 0 py := fun u => by
          rw [I_uI, if_neg (fun y => by have := y.2.2; omega), I_uI, if_neg (fun y => by have := y.2.2; omega), I_uI, if_neg (fun y => by have := y.2.2; omega)]
        have w3 : xI M1 2101 0 (113 + lk / 20) = xI M 2101 0 (113 + lk / 20) := q7 _ (by omega)
        rw [← hV, w1, w2, w3, ← hV, hM1, uI_comm (k := 2101) (k' := 2101) (j := 113 + lk / 20) (j' := 15) (fun y => by have := y.2.2; omega), uI_comm (k := 2101) (k' := 2101) (j := 113 + lk / 20) (j' := py) (fun y => by have := y.2.2; omega)]
        rfl
    · rw [if_neg (nI_ge (by omega) (by omega))] at hC hM
      exact ⟨C, M, 0, hC, hM, by omega, h, fun _ _ _ _ => rfl, fun _ _ _ _ => rfl⟩
