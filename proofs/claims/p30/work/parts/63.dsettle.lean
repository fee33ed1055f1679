theorem RGD.bJU {D : XD} {C C' M M' : XO}  (h : RGD D C M) (ki : ∀ k, cky k = true → ([14, 15] : List Nat).contains k = false → agI k C C') (kl : ∀ k, ckl k = true → ([] : List Nat).contains k = false → agL k C C') (mi : ∀ k, mky k = true → ([2133, 2134] : List Nat).contains k = false → agI k M M') (ml : ∀ k, mkl k = true → ([] : List Nat).contains k = false → agL k M M') (hB2 : qB2 D C' M') (hRC : qRC D C' M') (hDR : qDR D C' M') (hJU : qJU D C' M') (hJL : qJL D C' M') : RGD D C' M' := ⟨qNB_cg (D := D) (C := C) (M := M) (C' := C') (M' := M') (ki 101 rfl rfl) (mi 2109 rfl rfl) h.NB, qNT_cg (D := D) (C := C) (M := M) (C' := C') (M' := M') (ki 103 rfl rfl) (mi 2108 rfl rfl) h.NT, qUP_cg (D := D) (C := C) (M := M) (C' := C') (M' := M') (ki 104 rfl rfl) (mi 2107 rfl rfl) h.UP, qFN_cg (D := D) (C := C) (M := M) (C' := C') (M' := M') (ki 201 rfl rfl) (mi 2110 rfl rfl) h.FN, qNO_cg (D := D) (C := C) (M := M) (C' := C') (M' := M') (ki 0 rfl rfl) h.NO, hB2, qRW_cg (D := D) (C := C) (M := M) (C' := C') (M' := M') (ki 2000 rfl rfl) (mi 2131 rfl rfl) h.RW, qEV_cg (D := D) (C := C) (M := M) (C' := C') (M' := M') (ki 2001 rfl rfl) (ki 10 rfl rfl) (mi 2132 rfl rfl) h.EV, qST_cg (D := D) (C := C) (M := M) (C' := C') (M' := M') (ki 2011 rfl rfl) (ki 2012 rfl rfl) (ki 2013 rfl rfl) (ki 2014 rfl rfl) (ki 604 rfl rfl) (mi 2100 rfl rfl) h.ST, qPD_cg (D := D) (C := C) (M := M) (C' := C') (M' := M') (kl 605 rfl rfl) (mi 2100 rfl rfl) h.PD, qBS_cg (D := D) (C := C) (M := M) (C' := C') (M' := M') (ki 5 rfl rfl) (mi 2124 rfl rfl) h.BS, qTO_cg (D := D) (C := C) (M := M) (C' := C') (M' := M') (ki 4 rfl rfl) (ml 2123 rfl rfl) h.TO, qPA_cg (D := D) (C := C) (M := M) (C' := C') (M' := M') (mi 2120 rfl rfl) h.PA, qHT_cg (D := D) (C := C) (M := M) (C' := C') (M' := M') (ki 2 rfl rfl) h.HT, qLN_cg (D := D) (C := C) (M := M) (C' := C') (M' := M') (ki 16 rfl rfl) h.LN, hRC, qRE_cg (D := D) (C := C) (M := M) (C' := C') (M' := M') (ki 8 rfl rfl) (ki 2000 rfl rfl) h.RE, qHD_cg (D := D) (C := C) (M := M) (C' := C') (M' := M') (ki 8 rfl rfl) (ki 2000 rfl rfl) (kl 17 rfl rfl) h.HD, qEE_cg (D := D) (C := C) (M := M) (C' := C') (M' := M') (ki 10 rfl rfl) (ki 2001 rfl rfl) h.EE, qTX_cg (D := D) (C := C) (M := M) (C' := C') (M' := M') (ki 701 rfl rfl) (ki 702 rfl rfl) (ki 704 rfl rfl) (ki 706 rfl rfl) (ki 707 rfl rfl) (ki 708 rfl rfl) (mi 2111 rfl rfl) (mi 2112 rfl rfl) (mi 2114 rfl rfl) (mi 2116 rfl rfl) (mi 2117 rfl rfl) (mi 2118 rfl rfl) h.TX, qTB_cg (D := D) (C := C) (M := M) (C' := C') (M' := M') (ki 701 rfl rfl) (ki 702 rfl rfl) (ki 704 rfl rfl) (ki 706 rfl rfl) (ki 707 rfl rfl) (ki 708 rfl rfl) h.TB, qTK_cg (D := D) (C := C) (M := M) (C' := C') (M' := M') (ki 709 rfl rfl) (ki 703 rfl rfl) (ki 705 rfl rfl) (ki 704 rfl rfl) (ki 710 rfl rfl) (ki 711 rfl rfl) (mi 2113 rfl rfl) (mi 2115 rfl rfl) (mi 2114 rfl rfl) h.TK, qLV_cg (D := D) (C := C) (M := M) (C' := C') (M' := M') (ki 712 rfl rfl) (mi 2119 rfl rfl) h.LV, qTN_cg (D := D) (C := C) (M := M) (C' := C') (M' := M') (ki 700 rfl rfl) h.TN, qPR_cg (D := D) (C := C) (M := M) (C' := C') (M' := M') (ki 2008 rfl rfl) (ki 2009 rfl rfl) (ki 2010 rfl rfl) (mi 2103 rfl rfl) (mi 2104 rfl rfl) (mi 2105 rfl rfl) h.PR, qBG_cg (D := D) (C := C) (M := M) (C' := C') (M' := M') (mi 1106 rfl rfl) h.BG, hDR, qVA_cg (D := D) (C := C) (M := M) (C' := C') (M' := M') (ki 801 rfl rfl) (ki 802 rfl rfl) (mi 2138 rfl rfl) (mi 2139 rfl rfl) h.VA, qVO_cg (D := D) (C := C) (M := M) (C' := C') (M' := M') (ki 801 rfl rfl) (ki 802 rfl rfl) (ki 900 rfl rfl) (ki 901 rfl rfl) (ki 902 rfl rfl) (ki 903 rfl rfl) (mi 2135 rfl rfl) (mi 2136 rfl rfl) (mi 2121 rfl rfl) (mi 2137 rfl rfl) h.VO, hJU, qBL_cg (D := D) (C := C) (M := M) (C' := C') (M' := M') (ki 10 rfl rfl) (ki 2001 rfl rfl) (ki 11 rfl rfl) h.BL, hJL, qSI_cg (D := D) (C := C) (M := M) (C' := C') (M' := M') (mi 2100 rfl rfl) h.SI, qBB_cg (D := D) (C := C) (M := M) (C' := C') (M' := M') (ki 5 rfl rfl) h.BB, qRT_cg (D := D) (C := C) (M := M) (C' := C') (M' := M') (ki 2011 rfl rfl) (ki 2012 rfl rfl) (ki 2013 rfl rfl) (ki 2014 rfl rfl) (ki 12 rfl rfl) h.RT, qF0_cg (D := D) (C := C) (M := M) (C' := C') (M' := M') (ki 8 rfl rfl) (ki 2011 rfl rfl) (ki 2012 rfl rfl) (ki 2013 rfl rfl) (ki 2014 rfl rfl) (ki 604 rfl rfl) (kl 605 rfl rfl) h.F0, qGH_cg (D := D) (C := C) (M := M) (C' := C') (M' := M') (ki 2 rfl rfl) (ki 3 rfl rfl) (ki 5 rfl rfl) (ki 8 rfl rfl) (ki 104 rfl rfl) (ki 2000 rfl rfl) (ki 701 rfl rfl) (ki 702 rfl rfl) (ki 703 rfl rfl) (ki 704 rfl rfl) (ki 705 rfl rfl) (ki 706 rfl rfl) (ki 707 rfl rfl) (ki 708 rfl rfl) (ki 709 rfl rfl) (ki 710 rfl rfl) (ki 711 rfl rfl) (ki 2008 rfl rfl) (ki 2009 rfl rfl) (ki 2010 rfl rfl) (mi 2100 rfl rfl) h.GH⟩
/-- links that carry -/
def Kr (D : XD) (M : XO) (c s t : Nat) : Prop := s < dnb D c ∧ t < dnb D c ∧ ∃ r, fX11_behind M (nI c) (nI s) (nI t) = some r ∧ ¬ r ≤ 0 ∧ ¬ (3 : Int32) * r < (2 : Int32) * (((xI M 2139 0 (4 * c) + xI M 2139 0 (4 * c + 1)) + xI M 2139 0 (4 * c + 2)) + xI M 2139 0 (4 * c + 3))
theorem dSettle {D : XD} {C M : XO} (h : RGD D C M) {c : Nat} (hc : c < 2) : ∃ a b C' z M', fX2_settle_l4 c c 101 (0 : Int32) 1 C = some (a, b, C') ∧ fX11_justify_l44 (((xI M 2139 0 (4 * c) + xI M 2139 0 (4 * c + 1)) + xI M 2139 0 (4 * c + 2)) + xI M 2139 0 (4 * c + 3)) (nI c) 600 (1 : Int32) M = some (z, M') ∧ RGD D C' M' ∧ (∀ f i j, f ≠ 14 → f ≠ 15 → xI C' f i j = xI C f i j) ∧ (∀ f i j, xL C' f i j = xL C f i j) ∧ (∀ f i j, f ≠ 2133 → f ≠ 2134 → xI M' f i j = xI M f i j) ∧ (∀ f i j, xL M' f i j = xL M f i j) := by
  obtain ⟨b1, b2, b3, b4⟩ := h.NB c hc
  obtain ⟨tot, htot⟩ : ∃ tot, tot = (((xI M 2139 0 (4 * c) + xI M 2139 0 (4 * c + 1)) + xI M 2139 0 (4 * c + 2)) + xI M 2139 0 (4 * c + 3)) := ⟨_, rfl⟩
  have hb2 : ∀ s, s < 24 → 24 * c + s < 48 := fun s hs => by omega
  have hJ0 : ∀ s, s < 24 → (JCl C c s ↔ JMl M c s) := fun s hs => by
    unfold JCl JMl
    rw [(h.B2 _ (hb2 s hs)).2.2.2.2.2.2.2.2]
  have hL0 : ∀ s t, s < 24 → t < 24 → (LCl C c s t ↔ LMl M c s t) := fun s t hs ht => by
    unfold LCl LMl
    rcases h.JU c hc s hs t ht with ⟨z1, z2⟩ | ⟨z1, z2⟩
    · exact ⟨fun _ => z2, fun _ => z1⟩
    · refine ⟨fun y => absurd y z1, fun y => ?_⟩
      rw [z2] at y
      exact absurd y.symm one_n0
  have hmm : ∀ k, ∃ m : Nat, k < 4 → vCnt C (4 * c + k) m ∧ (∀ p, p < m → nI p < xI C 801 (4 * c + k) 0) ∧ ∀ p s t : Nat, xI C 802 (4 * c + k) 0 = 0 → (p : Int) < (xI C 801 (4 * c + k) 0).toInt → vMat C (4 * c + k) p s t → p < m := by
    intro k
    by_cases hk : k < 4
    · obtain ⟨⟨-, a1, a2⟩, a3⟩ := h.VA (4 * c + k) (by omega)
      obtain ⟨m, e1, e2, e3⟩ := toNN a1
      rcases a3 with ⟨z, -⟩ | ⟨z, -⟩
      · refine ⟨m, fun _ => ⟨⟨?_, by omega⟩, fun p hp => ?_, fun p s t _ hp _ => by omega⟩⟩
        · unfold fX8_countingVotes
          rw [if_pos z, e1, if_neg (show ¬ (20 : Int32) < nI m from fun y => by
            rw [ti_lt, ti_nI (by omega)] at y
            have t1 : (20 : Int32).toInt = 20 := rfl
            omega)]
        · rw [e1]
          exact nI_lt (by omega) (by omega)
      · refine ⟨0, fun _ => ⟨⟨?_, by decide⟩, fun p hp => absurd hp (by omega), fun p s t y _ _ => ?_⟩⟩
        · unfold fX8_countingVotes
          rw [z, if_neg one_n0]
          rfl
        · rw [z] at y
          exact absurd y one_n0
    · exact ⟨0, fun y => absurd y hk⟩
  obtain ⟨mm, hmm⟩ := Classical.axiomOfChoice hmm
  have hvo : ∀ k, k < 4 → ∀ p, nI p < xI C 801 (4 * c + k) 0 → p < 20 → ∃ s t, s < 24 ∧ t < 24 ∧ vMat C (4 * c + k) p s t := by
    intro k hk p hp hp2
    rw [ti_lt, ti_nI (by omega)] at hp
    obtain ⟨s, t, w1, w2, w3, w4, w5, w6, -⟩ := h.VO (4 * c + k) (by omega) p hp
    rw [show (4 * c + k) / 4 = c by omega] at w1 w2
    exact ⟨s, t, by omega, by omega, w3, w5⟩
  have hcar : ∀ s t, s < 24 → t < 24 → ∃ r : Int32, fX11_behind M (nI c) (nI s) (nI t) = some r ∧ (r ≤ 0 ↔ ∀ v, v < 4 → ¬ vSup C (4 * c + v) s t) ∧ ∀ q, xI C 900 q 0 = nI s → xI C 901 q 0 = nI t → fX2_carries C c q = (if (3 : Int32) * r < (2 : Int32) * tot then 0 else 1) := fun s t hs ht => by
    rw [htot]
    exact dCar h hc hs ht
  have hK1 : ∀ k p s t, k < 4 → p < mm k → s < 24 → t < 24 → vMat C (4 * c + k) p s t → ¬ fX2_carries C c (20 * (4 * c + k) + p) = 0 → Kr D M c s t := by
    intro k p s t hk hp hs ht hm hcr
    obtain ⟨⟨v1, v2⟩, v3, v4⟩ := hmm k hk
    have hp2 := v3 p hp
    have hp3 := hp2
    rw [ti_lt, ti_nI (by omega)] at hp3
    obtain ⟨s', t', w1, w2, w3, w4, w5, w6, -⟩ := h.VO (4 * c + k) (by omega) p hp3
    rw [show (4 * c + k) / 4 = c by omega] at w1 w2
    have e1 : s' = s := (nI_eq (by omega) (by omega)).mp (w3.symm.trans hm.1)
    have e2 : t' = t := (nI_eq (by omega) (by omega)).mp (w5.symm.trans hm.2)
    obtain ⟨r, r1, r2, r3⟩ := hcar s t hs ht
    refine ⟨by omega, by omega, r, r1, fun y => ?_, fun y => ?_⟩
    · refine r2.mp y k hk ⟨?_, p, hp3, hm⟩
      rcases (h.VA (4 * c + k) (by omega)).2 with ⟨z, -⟩ | ⟨z, -⟩
      · exact z
      · exfalso
        unfold fX8_countingVotes at v1
        rw [z, if_neg one_n0] at v1
        have := (nI_eq (a := 0) (by omega) (by omega)).mp (show nI 0 = nI (mm k) from v1)
        omega
    · rw [← htot] at y
      rw [r3 _ hm.1 hm.2, if_pos y] at hcr
      exact hcr rfl
  have hK2 : ∀ s t, s < 24 → t < 24 → Kr D M c s t → ∃ k p, k < 4 ∧ p < mm k ∧ vMat C (4 * c + k) p s t ∧ ¬ fX2_carries C c (20 * (4 * c + k) + p) = 0 := by
    intro s t hs ht hkk
    obtain ⟨-, -, r, r1, r2, r3⟩ := hkk
    obtain ⟨r', q1, q2, q3⟩ := hcar s t hs ht
    have e : r' = r := Option.some.inj (q1.symm.trans r1)
    subst e
    have hex : ∃ v, v < 4 ∧ vSup C (4 * c + v) s t := by
      apply Classical.byContradiction
      intro y
      exact r2 (q2.mpr (fun v hv hsv => y ⟨v, hv, hsv⟩))
    obtain ⟨k, hk, z, p, hp, hm⟩ := hex
    obtain ⟨v1, v3, v4⟩ := hmm k hk
    refine ⟨k, p, hk, v4 p s t z hp hm, hm, ?_⟩
    rw [← htot] at r3
    rw [q3 _ hm.1 hm.2, if_neg r3]
    exact one_n0
  have hJL := h.JL c hc
  have hsI : sInv C C c (Kr D M c) := ⟨fun _ _ _ _ _ => rfl, fun _ _ _ => rfl, ⟨fun _ _ _ _ => rfl, fun _ _ => rfl⟩, fun s hs => (h.DR _ (hb2 s hs)).2, fun s t hs ht z => (hJL.2 s hs t ht z).2, fun _ _ z => z, fun _ _ _ _ z => z, fun L1 J1 _ hj hl => ⟨hj, hl⟩⟩
  have hmI : mInv M M c (Kr D M c) := by
    refine ⟨fun _ _ _ _ _ => rfl, fun _ _ _ => rfl, ⟨fun _ _ => rfl, fun _ _ => rfl⟩, ⟨fun s hs => ?_, fun s t hs ht => ?_⟩, fun s t hs ht z => ?_, fun _ _ z => z, fun _ _ _ _ z => z, fun L1 J1 _ hj hl => ⟨hj, hl⟩⟩
    · rw [← (h.B2 _ (hb2 s hs)).2.2.2.2.2.2.2.2]
      exact (h.DR _ (hb2 s hs)).2
    · rcases h.JU c hc s hs t ht with ⟨-, z2⟩ | ⟨-, z2⟩
      · exact Or.inr z2
      · exact Or.inl z2
    · have := (hJL.2 s hs t ht ((hL0 s t hs ht).mpr z)).2
      exact ⟨(hJ0 s hs).mp this.1, (hJ0 t ht).mp this.2⟩
  obtain ⟨a, b, C', p1, p2, p3⟩ := cSettle mm (fun k hk => (hmm k hk).1) (fun k hk => (hmm k hk).2.1) hvo hK1 hK2 101 0 C rfl (by have := opn_le C C c; omega) hsI
  have hB : ∀ s t, s < dnb D c → t < dnb D c → ∃ r, fX11_behind M (nI c) (nI s) (nI t) = some r ∧ (Kr D M c s t ↔ ¬ r ≤ 0 ∧ ¬ (3 : Int32) * r < (2 : Int32) * tot) := by
    intro s t hs ht
    obtain ⟨r, r1, -⟩ := hcar s t (by omega) (by omega)
    refine ⟨r, r1, ?_⟩
    rw [htot]
    constructor
    · rintro ⟨-, -, r', q1, q2⟩
      rw [Option.some.inj (r1.symm.trans q1)]
      exact q2
    · intro y
      exact ⟨hs, ht, r, r1, y⟩
  obtain ⟨z, M', q1, q2, q3⟩ := mSettle hc b4 b2 hB (fun s t y => ⟨y.1, y.2.1⟩) 600 M (by have := opnM_le M c; omega) hmI
  have hfin1 := p2.2.2.2.2.2.2.2 (LMl M' c) (JMl M' c) q3 (fun s hs y => q2.2.2.2.2.2.1 s hs ((hJ0 s hs).mp y)) (fun s t hs ht y => q2.2.2.2.2.2.2.1 s t hs ht ((hL0 s t hs ht).mp y))
  have hfin2 := q2.2.2.2.2.2.2.2 (LCl C' c) (JCl C' c) p3 (fun s hs y => p2.2.2.2.2.2.1 s hs ((hJ0 s hs).mpr y)) (fun s t hs ht y => p2.2.2.2.2.2.2.1 s t hs ht ((hL0 s t hs ht).mpr y))
  have hnbfin := p2.2.2.2.2.2.2.2 (fun _ t => t < dnb D c) (fun s => s < dnb D c) (fun s t _ _ _ y => ⟨y.2.1, y.2.1⟩) (fun s hs y => by
    apply Classical.byContradiction
    intro x
    have := ((h.RC c hc s hs).2 (by omega)).2.2.2.2.2.1
    unfold JCl at y
    rw [this] at y
    exact absurd y.symm one_n0) (fun s t hs ht y => (hJL.2 s hs t ht y).1)
  refine ⟨a, b, C', z, M', p1, by rw [← htot]; exact q1, ?_, p2.1, p2.2.1, q2.1, q2.2.1⟩
  have oth14 : ∀ c', c' < 2 → c' ≠ c → ∀ f b, b < 24 → xI C' f (24 * c' + b) 0 = xI C f (24 * c' + b) 0 := fun c' hc' hne f b hb => p2.2.2.1.1 f _ _ (fun s hs => by omega)
  have h14 : ∀ s, s < 24 → xI C' 14 (24 * c + s) 0 = xI M' 2133 0 (24 * c + s) := by
    intro s hs
    rcases p2.2.2.2.1 s hs with y | y
    · rcases q2.2.2.2.1.1 s hs with x | x
      · rw [y, x]
      · have := hfin2.1 s hs x
        unfold JCl at this
        rw [y] at this
        exact absurd this.symm one_n0
    · have := hfin1.1 s hs y
      unfold JMl at this
      rw [y, this]
  have h14o : ∀ i, i < 48 → xI C' 14 i 0 = xI M' 2133 0 i := by
    intro i hi
    by_cases q : i / 24 = c
    · have e : i = 24 * c + i % 24 := by omega
      rw [e]
      exact h14 _ (Nat.mod_lt _ (by decide))
    · rw [p2.2.2.1.1 14 i 0 (fun s hs => by omega), q2.2.2.1.1 i (fun s hs => by omega), (h.B2 i hi).2.2.2.2.2.2.2.2]
  refine h.bJU (fun k _ hk i j => ?_) (fun k _ _ i j => p2.2.1 k i j) (fun k _ hk i j => ?_) (fun k _ _ i j => q2.2.1 k i j) (fun i hi => ?_) (fun c' hc' b' hb' => ?_) (fun i hi => ?_) (fun c' hc' b' hb' t ht => ?_) (fun c' hc' => ?_)
  · obtain ⟨x1, hk⟩ := nc_ne hk
    exact p2.1 k i j x1 (nc_ne hk).1
  · obtain ⟨x1, hk⟩ := nc_ne hk
    exact q2.1 k i j x1 (nc_ne hk).1
  · have o := h.B2 i hi
    have cI : ∀ k, k ≠ 14 ∧ k ≠ 15 → xI C' k i 0 = xI C k i 0 := fun k y => p2.1 k i 0 y.1 y.2
    have mI : ∀ k, k ≠ 2133 ∧ k ≠ 2134 → xI M' k 0 i = xI M k 0 i := fun k y => q2.1 k 0 i y.1 y.2
    rw [cI 2 (by decide), cI 3 (by decide), cI 6 (by decide), cI 8 (by decide), cI 10 (by decide), cI 11 (by decide), cI 12 (by decide), cI 13 (by decide), mI 2121 (by decide), mI 2122 (by decide), mI 2125 (by decide), mI 2129 (by decide), mI 2130 (by decide), mI 2128 (by decide), mI 2127 (by decide), mI 2126 (by decide)]
    exact ⟨o.1, o.2.1, o.2.2.1, o.2.2.2.1, o.2.2.2.2.1, o.2.2.2.2.2.1, o.2.2.2.2.2.2.1, o.2.2.2.2.2.2.2.1, h14o i hi⟩
  · have o := h.RC c' hc' b' hb'
    have cI : ∀ k, k ≠ 14 ∧ k ≠ 15 → xI C' k (24 * c' + b') 0 = xI C k (24 * c' + b') 0 := fun k y => p2.1 k _ 0 y.1 y.2
    rw [cI 8 (by decide), cI 10 (by decide), cI 6 (by decide), cI 11 (by decide), cI 13 (by decide), p2.2.1]
    refine ⟨o.1, fun y => ?_⟩
    obtain ⟨o1, o2, o3, o4, o5, o6, o7, o8⟩ := o.2 y
    refine ⟨o1, o2, o3, o4, o5, ?_, ?_, o8⟩
    · by_cases q : c' = c
      · subst q
        rcases p2.2.2.2.1 b' hb' with x | x
        · exact x
        · have := hnbfin.1 b' hb' x
          omega
      · rw [oth14 c' hc' q 14 b' hb', o6]
    · by_cases q : c' = c
      · subst q
        rw [p2.2.2.1.2 b' (fun t y2 => by have := y2.1; omega), o7]
      · rw [oth14 c' hc' q 15 b' hb', o7]
  · rw [p2.1 13 i 0 (by decide) (by decide)]
    refine ⟨(h.DR i hi).1, ?_⟩
    by_cases q : i / 24 = c
    · have e : i = 24 * c + i % 24 := by omega
      rw [e]
      exact p2.2.2.2.1 _ (Nat.mod_lt _ (by decide))
    · rw [p2.2.2.1.1 14 i 0 (fun s hs => by omega)]
      exact (h.DR i hi).2
  · by_cases q : c' = c
    · subst q
      rcases q2.2.2.2.1.2 b' t hb' ht with x | x
      · refine Or.inr ⟨fun y => ?_, x⟩
        have := hfin1.2 b' t hb' ht y
        unfold LMl at this
        rw [x] at this
        exact absurd this.symm one_n0
      · exact Or.inl ⟨hfin2.2 b' t hb' ht x, x⟩
    · rw [oth14 c' hc' q 15 b' hb', q2.2.2.1.2 _ (fun s t' hs ht' => by omega)]
      exact h.JU c' hc' b' hb' t ht
  · by_cases q : c' = c
    · subst q
      refine ⟨?_, fun b' hb' t ht y => ⟨hnbfin.2 b' t hb' ht y, p2.2.2.2.2.1 b' t hb' ht y⟩⟩
      have := p2.2.2.2.2.2.1 0 (by decide) hJL.1
      exact this
    · have o := h.JL c' hc'
      have e0 := oth14 c' hc' q 14 0 (by decide)
      refine ⟨by rw [Nat.add_zero] at e0; rw [e0]; exact o.1, fun b' hb' t ht y => ?_⟩
      rw [oth14 c' hc' q 15 b' hb'] at y
      rw [oth14 c' hc' q 14 b' hb', oth14 c' hc' q 14 t ht]
      exact o.2 b' hb' t ht y
