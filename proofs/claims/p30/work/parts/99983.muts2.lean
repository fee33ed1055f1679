theorem RGD.bPU2 {D : XD} {C C' M M' : XO}  (h : RGD D C M) (ki : ∀ k, cky k = true → ([13] : List Nat).contains k = false → agI k C C') (kl : ∀ k, ckl k = true → ([] : List Nat).contains k = false → agL k C C') (mi : ∀ k, mky k = true → ([2126] : List Nat).contains k = false → agI k M M') (ml : ∀ k, mkl k = true → ([] : List Nat).contains k = false → agL k M M') (hB2 : qB2 D C' M') (hRC : qRC D C' M') (hDR : qDR D C' M') : RGD D C' M' := ⟨qNB_cg (D := D) (C := C) (M := M) (C' := C') (M' := M') (ki 101 rfl rfl) (mi 2109 rfl rfl) h.NB, qNT_cg (D := D) (C := C) (M := M) (C' := C') (M' := M') (ki 103 rfl rfl) (mi 2108 rfl rfl) h.NT, qUP_cg (D := D) (C := C) (M := M) (C' := C') (M' := M') (ki 104 rfl rfl) (mi 2107 rfl rfl) h.UP, qFN_cg (D := D) (C := C) (M := M) (C' := C') (M' := M') (ki 201 rfl rfl) (mi 2110 rfl rfl) h.FN, qNO_cg (D := D) (C := C) (M := M) (C' := C') (M' := M') (ki 0 rfl rfl) h.NO, hB2, qRW_cg (D := D) (C := C) (M := M) (C' := C') (M' := M') (ki 2000 rfl rfl) (mi 2131 rfl rfl) h.RW, qEV_cg (D := D) (C := C) (M := M) (C' := C') (M' := M') (ki 2001 rfl rfl) (ki 10 rfl rfl) (mi 2132 rfl rfl) h.EV, qST_cg (D := D) (C := C) (M := M) (C' := C') (M' := M') (ki 2011 rfl rfl) (ki 2012 rfl rfl) (ki 2013 rfl rfl) (ki 2014 rfl rfl) (ki 604 rfl rfl) (mi 2100 rfl rfl) h.ST, qPD_cg (D := D) (C := C) (M := M) (C' := C') (M' := M') (kl 605 rfl rfl) (mi 2100 rfl rfl) h.PD, qBS_cg (D := D) (C := C) (M := M) (C' := C') (M' := M') (ki 5 rfl rfl) (mi 2124 rfl rfl) h.BS, qTO_cg (D := D) (C := C) (M := M) (C' := C') (M' := M') (ki 4 rfl rfl) (ml 2123 rfl rfl) h.TO, qPA_cg (D := D) (C := C) (M := M) (C' := C') (M' := M') (mi 2120 rfl rfl) h.PA, qHT_cg (D := D) (C := C) (M := M) (C' := C') (M' := M') (ki 2 rfl rfl) h.HT, qLN_cg (D := D) (C := C) (M := M) (C' := C') (M' := M') (ki 16 rfl rfl) h.LN, hRC, qRE_cg (D := D) (C := C) (M := M) (C' := C') (M' := M') (ki 8 rfl rfl) (ki 2000 rfl rfl) h.RE, qHD_cg (D := D) (C := C) (M := M) (C' := C') (M' := M') (ki 8 rfl rfl) (ki 2000 rfl rfl) (kl 17 rfl rfl) h.HD, qEE_cg (D := D) (C := C) (M := M) (C' := C') (M' := M') (ki 10 rfl rfl) (ki 2001 rfl rfl) h.EE, qTX_cg (D := D) (C := C) (M := M) (C' := C') (M' := M') (ki 701 rfl rfl) (ki 702 rfl rfl) (ki 704 rfl rfl) (ki 706 rfl rfl) (ki 707 rfl rfl) (ki 708 rfl rfl) (mi 2111 rfl rfl) (mi 2112 rfl rfl) (mi 2114 rfl rfl) (mi 2116 rfl rfl) (mi 2117 rfl rfl) (mi 2118 rfl rfl) h.TX, qTB_cg (D := D) (C := C) (M := M) (C' := C') (M' := M') (ki 701 rfl rfl) (ki 702 rfl rfl) (ki 704 rfl rfl) (ki 706 rfl rfl) (ki 707 rfl rfl) (ki 708 rfl rfl) h.TB, qTK_cg (D := D) (C := C) (M := M) (C' := C') (M' := M') (ki 709 rfl rfl) (ki 703 rfl rfl) (ki 705 rfl rfl) (ki 704 rfl rfl) (ki 710 rfl rfl) (ki 711 rfl rfl) (mi 2113 rfl rfl) (mi 2115 rfl rfl) (mi 2114 rfl rfl) h.TK, qLV_cg (D := D) (C := C) (M := M) (C' := C') (M' := M') (ki 712 rfl rfl) (mi 2119 rfl rfl) h.LV, qTN_cg (D := D) (C := C) (M := M) (C' := C') (M' := M') (ki 700 rfl rfl) h.TN, qPR_cg (D := D) (C := C) (M := M) (C' := C') (M' := M') (ki 2008 rfl rfl) (ki 2009 rfl rfl) (ki 2010 rfl rfl) (mi 2103 rfl rfl) (mi 2104 rfl rfl) (mi 2105 rfl rfl) h.PR, qBG_cg (D := D) (C := C) (M := M) (C' := C') (M' := M') (mi 1106 rfl rfl) h.BG, hDR, qVA_cg (D := D) (C := C) (M := M) (C' := C') (M' := M') (ki 801 rfl rfl) (ki 802 rfl rfl) (mi 2138 rfl rfl) (mi 2139 rfl rfl) h.VA, qVO_cg (D := D) (C := C) (M := M) (C' := C') (M' := M') (ki 801 rfl rfl) (ki 802 rfl rfl) (ki 900 rfl rfl) (ki 901 rfl rfl) (ki 902 rfl rfl) (ki 903 rfl rfl) (mi 2135 rfl rfl) (mi 2136 rfl rfl) (mi 2121 rfl rfl) (mi 2137 rfl rfl) h.VO, qJU_cg (D := D) (C := C) (M := M) (C' := C') (M' := M') (ki 15 rfl rfl) (mi 2134 rfl rfl) h.JU, qBL_cg (D := D) (C := C) (M := M) (C' := C') (M' := M') (ki 10 rfl rfl) (ki 2001 rfl rfl) (ki 11 rfl rfl) h.BL, qJL_cg (D := D) (C := C) (M := M) (C' := C') (M' := M') (ki 14 rfl rfl) (ki 15 rfl rfl) h.JL, qSI_cg (D := D) (C := C) (M := M) (C' := C') (M' := M') (mi 2100 rfl rfl) h.SI, qBB_cg (D := D) (C := C) (M := M) (C' := C') (M' := M') (ki 5 rfl rfl) h.BB, qRT_cg (D := D) (C := C) (M := M) (C' := C') (M' := M') (ki 2011 rfl rfl) (ki 2012 rfl rfl) (ki 2013 rfl rfl) (ki 2014 rfl rfl) (ki 12 rfl rfl) h.RT, qF0_cg (D := D) (C := C) (M := M) (C' := C') (M' := M') (ki 8 rfl rfl) (ki 2011 rfl rfl) (ki 2012 rfl rfl) (ki 2013 rfl rfl) (ki 2014 rfl rfl) (ki 604 rfl rfl) (kl 605 rfl rfl) h.F0, qGH_cg (D := D) (C := C) (M := M) (C' := C') (M' := M') (ki 2 rfl rfl) (ki 3 rfl rfl) (ki 5 rfl rfl) (ki 8 rfl rfl) (ki 104 rfl rfl) (ki 2000 rfl rfl) (ki 701 rfl rfl) (ki 702 rfl rfl) (ki 703 rfl rfl) (ki 704 rfl rfl) (ki 705 rfl rfl) (ki 706 rfl rfl) (ki 707 rfl rfl) (ki 708 rfl rfl) (ki 709 rfl rfl) (ki 710 rfl rfl) (ki 711 rfl rfl) (ki 2008 rfl rfl) (ki 2009 rfl rfl) (ki 2010 rfl rfl) (mi 2100 rfl rfl) h.GH⟩

theorem RGD.bPR2 {D : XD} {C C' M M' : XO}  (h : RGD D C M) (ki : ∀ k, cky k = true → ([2008, 2009, 2010] : List Nat).contains k = false → agI k C C') (kl : ∀ k, ckl k = true → ([] : List Nat).contains k = false → agL k C C') (mi : ∀ k, mky k = true → ([2103, 2104, 2105] : List Nat).contains k = false → agI k M M') (ml : ∀ k, mkl k = true → ([] : List Nat).contains k = false → agL k M M') (hPR : qPR D C' M') (hGH : qGH D C' M') : RGD D C' M' := ⟨qNB_cg (D := D) (C := C) (M := M) (C' := C') (M' := M') (ki 101 rfl rfl) (mi 2109 rfl rfl) h.NB, qNT_cg (D := D) (C := C) (M := M) (C' := C') (M' := M') (ki 103 rfl rfl) (mi 2108 rfl rfl) h.NT, qUP_cg (D := D) (C := C) (M := M) (C' := C') (M' := M') (ki 104 rfl rfl) (mi 2107 rfl rfl) h.UP, qFN_cg (D := D) (C := C) (M := M) (C' := C') (M' := M') (ki 201 rfl rfl) (mi 2110 rfl rfl) h.FN, qNO_cg (D := D) (C := C) (M := M) (C' := C') (M' := M') (ki 0 rfl rfl) h.NO, qB2_cg (D := D) (C := C) (M := M) (C' := C') (M' := M') (ki 2 rfl rfl) (ki 3 rfl rfl) (ki 6 rfl rfl) (ki 8 rfl rfl) (ki 10 rfl rfl) (ki 11 rfl rfl) (ki 12 rfl rfl) (ki 13 rfl rfl) (ki 14 rfl rfl) (mi 2121 rfl rfl) (mi 2122 rfl rfl) (mi 2125 rfl rfl) (mi 2129 rfl rfl) (mi 2130 rfl rfl) (mi 2128 rfl rfl) (mi 2127 rfl rfl) (mi 2126 rfl rfl) (mi 2133 rfl rfl) h.B2, qRW_cg (D := D) (C := C) (M := M) (C' := C') (M' := M') (ki 2000 rfl rfl) (mi 2131 rfl rfl) h.RW, qEV_cg (D := D) (C := C) (M := M) (C' := C') (M' := M') (ki 2001 rfl rfl) (ki 10 rfl rfl) (mi 2132 rfl rfl) h.EV, qST_cg (D := D) (C := C) (M := M) (C' := C') (M' := M') (ki 2011 rfl rfl) (ki 2012 rfl rfl) (ki 2013 rfl rfl) (ki 2014 rfl rfl) (ki 604 rfl rfl) (mi 2100 rfl rfl) h.ST, qPD_cg (D := D) (C := C) (M := M) (C' := C') (M' := M') (kl 605 rfl rfl) (mi 2100 rfl rfl) h.PD, qBS_cg (D := D) (C := C) (M := M) (C' := C') (M' := M') (ki 5 rfl rfl) (mi 2124 rfl rfl) h.BS, qTO_cg (D := D) (C := C) (M := M) (C' := C') (M' := M') (ki 4 rfl rfl) (ml 2123 rfl rfl) h.TO, qPA_cg (D := D) (C := C) (M := M) (C' := C') (M' := M') (mi 2120 rfl rfl) h.PA, qHT_cg (D := D) (C := C) (M := M) (C' := C') (M' := M') (ki 2 rfl rfl) h.HT, qLN_cg (D := D) (C := C) (M := M) (C' := C') (M' := M') (ki 16 rfl rfl) h.LN, qRC_cg (D := D) (C := C) (M := M) (C' := C') (M' := M') (ki 8 rfl rfl) (ki 10 rfl rfl) (ki 6 rfl rfl) (ki 11 rfl rfl) (ki 13 rfl rfl) (ki 14 rfl rfl) (ki 15 rfl rfl) (kl 17 rfl rfl) h.RC, qRE_cg (D := D) (C := C) (M := M) (C' := C') (M' := M') (ki 8 rfl rfl) (ki 2000 rfl rfl) h.RE, qHD_cg (D := D) (C := C) (M := M) (C' := C') (M' := M') (ki 8 rfl rfl) (ki 2000 rfl rfl) (kl 17 rfl rfl) h.HD, qEE_cg (D := D) (C := C) (M := M) (C' := C') (M' := M') (ki 10 rfl rfl) (ki 2001 rfl rfl) h.EE, qTX_cg (D := D) (C := C) (M := M) (C' := C') (M' := M') (ki 701 rfl rfl) (ki 702 rfl rfl) (ki 704 rfl rfl) (ki 706 rfl rfl) (ki 707 rfl rfl) (ki 708 rfl rfl) (mi 2111 rfl rfl) (mi 2112 rfl rfl) (mi 2114 rfl rfl) (mi 2116 rfl rfl) (mi 2117 rfl rfl) (mi 2118 rfl rfl) h.TX, qTB_cg (D := D) (C := C) (M := M) (C' := C') (M' := M') (ki 701 rfl rfl) (ki 702 rfl rfl) (ki 704 rfl rfl) (ki 706 rfl rfl) (ki 707 rfl rfl) (ki 708 rfl rfl) h.TB, qTK_cg (D := D) (C := C) (M := M) (C' := C') (M' := M') (ki 709 rfl rfl) (ki 703 rfl rfl) (ki 705 rfl rfl) (ki 704 rfl rfl) (ki 710 rfl rfl) (ki 711 rfl rfl) (mi 2113 rfl rfl) (mi 2115 rfl rfl) (mi 2114 rfl rfl) h.TK, qLV_cg (D := D) (C := C) (M := M) (C' := C') (M' := M') (ki 712 rfl rfl) (mi 2119 rfl rfl) h.LV, qTN_cg (D := D) (C := C) (M := M) (C' := C') (M' := M') (ki 700 rfl rfl) h.TN, hPR, qBG_cg (D := D) (C := C) (M := M) (C' := C') (M' := M') (mi 1106 rfl rfl) h.BG, qDR_cg (D := D) (C := C) (M := M) (C' := C') (M' := M') (ki 13 rfl rfl) (ki 14 rfl rfl) h.DR, qVA_cg (D := D) (C := C) (M := M) (C' := C') (M' := M') (ki 801 rfl rfl) (ki 802 rfl rfl) (mi 2138 rfl rfl) (mi 2139 rfl rfl) h.VA, qVO_cg (D := D) (C := C) (M := M) (C' := C') (M' := M') (ki 801 rfl rfl) (ki 802 rfl rfl) (ki 900 rfl rfl) (ki 901 rfl rfl) (ki 902 rfl rfl) (ki 903 rfl rfl) (mi 2135 rfl rfl) (mi 2136 rfl rfl) (mi 2121 rfl rfl) (mi 2137 rfl rfl) h.VO, qJU_cg (D := D) (C := C) (M := M) (C' := C') (M' := M') (ki 15 rfl rfl) (mi 2134 rfl rfl) h.JU, qBL_cg (D := D) (C := C) (M := M) (C' := C') (M' := M') (ki 10 rfl rfl) (ki 2001 rfl rfl) (ki 11 rfl rfl) h.BL, qJL_cg (D := D) (C := C) (M := M) (C' := C') (M' := M') (ki 14 rfl rfl) (ki 15 rfl rfl) h.JL, qSI_cg (D := D) (C := C) (M := M) (C' := C') (M' := M') (mi 2100 rfl rfl) h.SI, qBB_cg (D := D) (C := C) (M := M) (C' := C') (M' := M') (ki 5 rfl rfl) h.BB, qRT_cg (D := D) (C := C) (M := M) (C' := C') (M' := M') (ki 2011 rfl rfl) (ki 2012 rfl rfl) (ki 2013 rfl rfl) (ki 2014 rfl rfl) (ki 12 rfl rfl) h.RT, qF0_cg (D := D) (C := C) (M := M) (C' := C') (M' := M') (ki 8 rfl rfl) (ki 2011 rfl rfl) (ki 2012 rfl rfl) (ki 2013 rfl rfl) (ki 2014 rfl rfl) (ki 604 rfl rfl) (kl 605 rfl rfl) h.F0, hGH⟩

theorem m_vote {D : XD} {C : XO} (hr : RP D C) (x1 x2 x3 x4 : Int32) : ∃ (T : Option Value ⊕ String) (C' : XO) (D' : XD), fX10_vote C x1 x2 x3 x4 = some (T, C') ∧ KL C C' ∧ RP D' C' ∧ ((okT T ∧ C' = C ∧ D' = D) ∨ (∃ (c m : Nat) (a : Int32), c < 2 ∧ x1 = nI c ∧ dfn D c ≤ m ∧ m < dnb D c ∧ (a = 0 ∨ a = 1) ∧ T = .inl (some (.int a)) ∧ D' = dMove D c m)) := by
  obtain ⟨⟨M, h⟩, hx⟩ := hr
  have hno : ∀ T, okT T → fX10_vote C x1 x2 x3 x4 = some (T, C) → ∃ (T : Option Value ⊕ String) (C' : XO) (D' : XD), fX10_vote C x1 x2 x3 x4 = some (T, C') ∧ KL C C' ∧ RP D' C' ∧ ((okT T ∧ C' = C ∧ D' = D) ∨ (∃ (c m : Nat) (a : Int32), c < 2 ∧ x1 = nI c ∧ dfn D c ≤ m ∧ m < dnb D c ∧ (a = 0 ∨ a = 1) ∧ T = .inl (some (.int a)) ∧ D' = dMove D c m)) := fun T hT e => ⟨T, C, D, e, KL.rf C, ⟨⟨M, h⟩, hx⟩, Or.inl ⟨hT, rfl, rfl⟩⟩
  rcases dCh C C x1 with ⟨c, hc, rfl, c1, c2, c3⟩ | ⟨c1, c2⟩
  · rcases eIdx (M := M) (x := x2) (n := 4) (by decide) with ⟨⟨k, hk, rfl⟩, i1⟩ | ⟨hj, i1⟩
    · have i2 : eX10_demandIndex C (nI k) 4 = none := cIdx1 (n := 4) hk (by decide)
      rcases dBlk h.NB (nI c) x3 with ⟨c', s, hc2, hs, z, rfl, s1, s2, s3⟩ | ⟨s1, s2⟩
      · have hcc : c = c' := (nI_eq (by omega) (by omega)).mp z
        subst hcc
        rcases dBlk h.NB (nI c) x4 with ⟨c', t, hc3, ht, z2, rfl, t1, t2, t3⟩ | ⟨t1, t2⟩
        · have hcc : c = c' := (nI_eq (by omega) (by omega)).mp z2
          subst hcc
          have hnb := (h.NB c hc).2.2.2
          have hval : fX2_validator C c (nI k) = 4 * c + k := by
            unfold fX2_validator
            rw [if_neg (nI_nlt0 (by omega)), if_neg (show ¬ (4 : Int32) ≤ nI k from nI_ge (b := 4) hk (by decide)), cl_nI (by omega)]
          obtain ⟨v, hv⟩ : ∃ v, v = 4 * c + k := ⟨_, rfl⟩
          have hv8 : v < 8 := by omega
          have hvc : v / 4 = c := by omega
          have hCl : ∀ X, fX10_vote C (nI c) (nI k) (nI s) (nI t) = X ↔ (if nI s = nI t then (some (.inr ((eX10_demandArgument C (0 : Int32)).getD ""), C)) else (if (fX0_comesFrom C (24 * c + t) (24 * c + s)) = 0 then (some (.inr ((eX10_demandArgument C (0 : Int32)).getD ""), C)) else gVote C c v (24 * c + s) (24 * c + t))) = X := by
            intro X
            unfold fX10_vote
            rw [if_pos c2, if_pos i2, if_pos s2, if_pos t2, c3, s3, t3, hval, ← hv]
            rfl
          by_cases hst : s = t
          · refine hno (.inr xIA) (Or.inr (Or.inl rfl)) ((hCl _).mpr ?_)
            rw [if_pos (by rw [hst])]
            rfl
          · have hstI : ¬ nI s = nI t := fun y => hst ((nI_eq (by omega) (by omega)).mp y)
            rcases cFrom h hc (show t < 24 by omega) (show s < 24 by omega) with ⟨-, hanc, f2⟩ | ⟨f1, f2⟩
            · obtain ⟨⟨va1, va2, va3⟩, va4⟩ := h.VA v hv8
              have hcl0 : ∀ X, gVote C c v (24 * c + s) (24 * c + t) = X → fX10_vote C (nI c) (nI k) (nI s) (nI t) = X := fun X y => (hCl X).mpr (by rw [if_neg hstI, if_neg (by rw [f2]; exact one_n0)]; exact y)
              rcases va4 with ⟨va5, va6⟩ | ⟨va5, va6⟩
              · obtain ⟨n, -, hn, hnI⟩ := rgN (x := xI C 801 v 0) (a := 0) (b := 20) (by decide) (by rw [ti_lt, ti_nI (by decide)]; omega) (by rw [ti_lt, ti_nI (by decide)]; omega) (by decide)
                by_cases hn20 : n < 20
                · obtain ⟨a, C1, z, z2, M2, a1, p1, -, -, p5, g1, g2, -, -⟩ := dGive h hc hv8 hvc hs ht hnI hn20 va5 hanc hst
                  have g1' : ∀ k i j, k = 2 ∨ k = 6 ∨ k = 13 ∨ k = 14 ∨ k = 2017 ∨ k = 2018 → xI C1 k i j = xI C k i j := fun k i j hk => g1 k i j (by omega) (by omega) (by omega) (by omega) (by omega) (by omega)
                  have hj1 : xI C1 14 (24 * c + dfn D c) 0 = 1 := by rw [g1' 14 _ _ (by omega)]; exact hx.2.1 c hc
                  obtain ⟨C', M', m, q1, q2, q3, q4, q5, q6, q7, q8⟩ := dVote2 p5 hc hj1
                  have q7' : ∀ k i j, k = 2 ∨ k = 6 ∨ k = 13 ∨ k = 2017 ∨ k = 2018 → xI C' k i j = xI C k i j := fun k i j hk => by rw [q7 k i j (by omega) (by omega) (by omega), g1' k i j (by omega)]
                  have hcls : fX10_vote C (nI c) (nI k) (nI s) (nI t) = some (.inl (some (.int (if a = 0 then 1 else 0))), C') := by
                    refine hcl0 _ ?_
                    unfold gVote
                    rw [if_pos va5, hnI, if_neg (show ¬ (20 : Int32) ≤ nI n from nI_ge (b := 20) hn20 (by decide)), p1]
                    unfold wl
                    dsimp only
                    rw [q1, Option.bind_some]
                    by_cases y : a = 0
                    · rw [if_pos y, if_pos (Or.inr rfl)]
                    · rw [if_neg y, if_pos (Or.inl rfl)]
                  have hfm : dfn D c ≤ m := Anc_le m m _ (Nat.le_refl _) (h.par hc q3) q4
                  have hhi : (xI C 2 (24 * c + dfn D c) 0).toInt ≤ (xI C 2 (24 * c + m) 0).toInt := by
                    rcases anc_hi h hc m m (Nat.le_refl _) q3 q4 with y | y
                    · rw [y]; exact Int.le_refl _
                    · omega
                  have dm' : ∀ c', dfn (dMove D c m) c' = if c' = c then m else dfn D c' := fun _ => rfl
                  refine ⟨_, C', dMove D c m, hcls, fun k i j hk => q7' k i j (by omega), ⟨⟨M', q2⟩, fun c' hc' b hb => ?_, fun c' hc' => ?_, fun c' hc' b hb h13 => ?_⟩, Or.inr ⟨c, m, if a = 0 then 1 else 0, hc, rfl, hfm, q3, ?_, rfl, rfl⟩⟩
                  · rw [q7' 6 _ _ (by omega)]
                    exact hx.1 c' hc' b hb
                  · rw [dm']
                    by_cases y : c' = c
                    · rw [if_pos y, y]
                      exact q5
                    · rw [if_neg y]
                      exact q6 _ (by rw [g1' 14 _ _ (by omega)]; exact hx.2.1 c' hc')
                  · rw [q7' 13 _ _ (by omega)] at h13
                    rw [q7' 2 _ _ (by omega), q7' 2 _ _ (by omega), dm']
                    have e9 := hx.2.2 c' hc' b hb h13
                    by_cases y : c' = c
                    · rw [if_pos y]
                      rw [y] at e9 ⊢
                      omega
                    · rw [if_neg y]
                      exact e9
                  · by_cases y : a = 0
                    · rw [if_pos y]; exact Or.inr rfl
                    · rw [if_neg y]; exact Or.inl rfl
                · have hn20' : n = 20 := by omega
                  refine hno (.inr xIS) (Or.inr (Or.inr rfl)) (hcl0 _ ?_)
                  unfold gVote
                  rw [if_pos va5, hnI, hn20', if_pos (show (20 : Int32) ≤ nI 20 by decide)]
                  rfl
              · refine hno (.inr xIS) (Or.inr (Or.inr rfl)) (hcl0 _ ?_)
                unfold gVote
                rw [va5, if_neg one_n0]
                rfl
            · refine hno (.inr xIA) (Or.inr (Or.inl rfl)) ((hCl _).mpr ?_)
              rw [if_neg hstI, if_pos f2]
              rfl
        · refine hno (.inr xIO) (Or.inl rfl) ?_
          unfold fX10_vote
          rw [if_pos c2, if_pos i2, if_pos s2, t2, if_neg (by simp)]
          rfl
      · refine hno (.inr xIO) (Or.inl rfl) ?_
        unfold fX10_vote
        rw [if_pos c2, if_pos i2, s2, if_neg (by simp)]
        rfl
    · refine hno (.inr xIO) (Or.inl rfl) ?_
      unfold fX10_vote
      rw [if_pos c2, show eX10_demandIndex C x2 4 = some xIO from cIdx0 (y := nI 4) hj, if_neg (by simp)]
      rfl
  · refine hno (.inr xIO) (Or.inl rfl) ?_
    unfold fX10_vote
    rw [c2, if_neg (by simp)]
    rfl
/-- where a prune stands -/
def dP (D : XD) (c : Nat) (C C1 : XO) : Prop := (∀ f i j, f ≠ 13 → xI C1 f i j = xI C f i j) ∧ (∀ f i j, xL C1 f i j = xL C f i j) ∧ (∀ i, i < 48 → xI C1 13 i 0 = 0 ∨ xI C1 13 i 0 = 1) ∧ ∀ c', c' < 2 → ∀ b, b < 24 → xI C1 13 (24 * c' + b) 0 = 1 → xI C 13 (24 * c' + b) 0 = 1 ∨ (c' = c ∧ b < dnb D c ∧ (xI C 2 (24 * c + b) 0).toInt < (xI C 2 (24 * c + dfn D c) 0).toInt)
theorem drop_l {D : XD} {C M : XO} (h : RGD D C M) {c : Nat} (hc : c < 2) : ∀ (n k : Nat) (y : Int32) (C1 : XO), n = 25 - k → k ≤ 24 → dP D c C C1 → ∃ y' C2, fX1_dropLower_l c n k y (xI C 2 (24 * c + dfn D c) 0) C1 = (y', C2) ∧ dP D c C C2 := by
  intro n
  induction n with
  | zero => exact fun k y C1 hn hk hi => absurd hn (by omega)
  | succ n ih =>
    intro k y C1 hn hk hi
    rw [fX1_dropLower_l]
    by_cases q : k = 24
    · subst q
      rw [if_pos (show nI (alen 2002) ≤ nI 24 by decide)]
      exact ⟨y, C1, rfl, hi⟩
    · have hk2 : k < 24 := by omega
      rw [if_neg (show ¬ nI (alen 2002) ≤ nI k from nI_ge (b := 24) hk2 (by decide)), cl_nI (by omega)]
      by_cases w1 : xI C1 16 (24 * c + k) 0 = 0
      · rw [if_pos w1]
        exact ih (k + 1) y C1 (by omega) (by omega) hi
      · rw [if_neg w1]
        by_cases w2 : xI C 2 (24 * c + dfn D c) 0 ≤ xI C1 2 (24 * c + k) 0
        · rw [if_pos w2]
          exact ih (k + 1) y C1 (by omega) (by omega) hi
        · rw [if_neg w2]
          by_cases w3 : xI C1 13 (24 * c + k) 0 = 0
          · rw [if_pos w3]
            refine ih (k + 1) (y + 1) _ (by omega) (by omega) ⟨fun f i j hf => by rw [I_ne hf]; exact hi.1 f i j hf, fun f i j => by rw [L_uI]; exact hi.2.1 f i j, fun i hi' => ?_, fun c' hc' b hb h13 => ?_⟩
            · rw [I_uI]
              by_cases z : i = 24 * c + k
              · rw [if_pos ⟨rfl, z, rfl⟩]; exact Or.inr rfl
              · rw [if_neg (fun x => z x.2.1)]; exact hi.2.2.1 i hi'
            · rw [I_uI] at h13
              by_cases z : 24 * c' + b = 24 * c + k
              · have z1 : c' = c := by omega
                have z2 : b = k := by omega
                refine Or.inr ⟨z1, ?_, ?_⟩
                · by_cases x : b < dnb D c
                  · exact x
                  · exfalso
                    rw [hi.1 16 _ _ (by decide)] at w1
                    exact w1 (by rw [← z2]; exact (h.LN c hc).2 b (by omega) hb)
                · rw [hi.1 2 _ _ (by decide), ti_le] at w2
                  rw [z2]
                  omega
              · rw [if_neg (fun x => z x.2.1)] at h13
                exact hi.2.2.2 c' hc' b hb h13
          · rw [if_neg w3]
            exact ih (k + 1) y C1 (by omega) (by omega) hi
theorem m_prune {D : XD} {C : XO} (hr : RP D C) {c : Nat} (hc : c < 2) : ∃ (v : Int32) (C' : XO), fX10_prune C 0 (nI c) = (.inl (some (.int v)), C') ∧ KL C C' ∧ RP D C' := by
  obtain ⟨⟨M, h⟩, hx⟩ := hr
  obtain ⟨e2, e3⟩ := cChain1 (Ω := C) hc
  obtain ⟨v, C', p1, p2, p3, p4, p5⟩ := drop_l h hc 25 0 0 C rfl (by decide) ⟨fun _ _ _ _ => rfl, fun _ _ _ => rfl, fun i hi => (h.DR i hi).1, fun _ _ _ _ h13 => Or.inl h13⟩
  have hcl : fX1_dropLower C c = (v, C') := by
    unfold fX1_dropLower
    rw [lF_I h hc]
    exact p1
  obtain ⟨M', hM'⟩ : ∃ M' : XO, M' = (fun k i j => if k = 2126 ∧ i = 0 then xI C' 13 j 0 else M.1 k i j, M.2.1, M.2.2) := ⟨_, rfl⟩
  have m1 : ∀ k i j, k ≠ 2126 → xI M' k i j = xI M k i j := fun k i j hk => by rw [hM']; exact if_neg (fun z => hk z.1)
  have m2 : ∀ j, xI M' 2126 0 j = xI C' 13 j 0 := fun j => by
    rw [hM']
    show (if (2126 : Nat) = 2126 ∧ (0 : Nat) = 0 then xI C' 13 j 0 else M.1 2126 0 j) = _
    exact if_pos ⟨rfl, rfl⟩
  have m3 : ∀ k i j, xL M' k i j = xL M k i j := fun k i j => by rw [hM']; rfl
  have c16 : ∀ c', c' < 2 → ∀ b, dnb D c' ≤ b → b < 24 → xI C' 13 (24 * c' + b) 0 = 0 := fun c' hc' b hb hb2 => by
    rcases p4 (24 * c' + b) (by omega) with y | y
    · exact y
    · exfalso
      rcases p5 c' hc' b hb2 y with z | ⟨rfl, z, -⟩
      · rw [((h.RC c' hc' b hb2).2 hb).2.2.2.2.1] at z
        exact absurd z (by decide)
      · omega
  have hR : RGD D C' M' := by
    refine h.bPU2 (fun k _ hk i j => p2 k i j (nc_ne hk).1) (fun k _ _ i j => p3 k i j) (fun k _ hk i j => m1 k i j (nc_ne hk).1) (fun k _ _ i j => m3 k i j) (fun i hi => ?_) (fun c' hc' b hb => ?_) (fun i hi => ?_)
    · have hb2 := h.B2 i hi
      rw [p2 2 _ _ (by decide), p2 3 _ _ (by decide), p2 6 _ _ (by decide), p2 8 _ _ (by decide), p2 10 _ _ (by decide), p2 11 _ _ (by decide), p2 12 _ _ (by decide), p2 14 _ _ (by decide), m1 2121 _ _ (by decide), m1 2122 _ _ (by decide), m1 2125 _ _ (by decide), m1 2129 _ _ (by decide), m1 2130 _ _ (by decide), m1 2128 _ _ (by decide), m1 2127 _ _ (by decide), m1 2133 _ _ (by decide), m2]
      exact ⟨hb2.1, hb2.2.1, hb2.2.2.1, hb2.2.2.2.1, hb2.2.2.2.2.1, hb2.2.2.2.2.2.1, hb2.2.2.2.2.2.2.1, rfl, hb2.2.2.2.2.2.2.2.2⟩
    · have hb2 := h.RC c' hc' b hb
      rw [p2 8 _ _ (by decide), p2 10 _ _ (by decide), p2 6 _ _ (by decide), p2 11 _ _ (by decide), p2 14 _ _ (by decide), p2 15 _ _ (by decide), p3]
      refine ⟨hb2.1, fun z => ?_⟩
      have hz := hb2.2 z
      exact ⟨hz.1, hz.2.1, hz.2.2.1, hz.2.2.2.1, c16 c' hc' b z hb, hz.2.2.2.2.2⟩
    · rw [p2 14 _ _ (by decide)]
      exact ⟨p4 i hi, (h.DR i hi).2⟩
  refine ⟨v, C', ?_, fun k i j hk => p2 k i j (by omega), ⟨⟨M', hR⟩, fun c' hc' b hb => ?_, fun c' hc' => ?_, fun c' hc' b hb h13 => ?_⟩⟩
  · unfold fX10_prune
    rw [if_pos e2, e3, hcl]
  · rw [p2 6 _ _ (by decide)]
    exact hx.1 c' hc' b hb
  · rw [p2 14 _ _ (by decide)]
    exact hx.2.1 c' hc'
  · rw [p2 2 _ _ (by decide), p2 2 _ _ (by decide)]
    rcases p5 c' hc' b (by have := (h.NB c' hc').2.2.2; omega) h13 with z | ⟨rfl, z, z2⟩
    · exact hx.2.2 c' hc' b hb z
    · exact z2
theorem m_step {D : XD} {C : XO} (hr : RP D C) (x1 x2 x3 : Int32) : ∃ (T : Option Value ⊕ String) (C' : XO), fX10_step C x1 x2 x3 = some (T, C') ∧ KL C C' ∧ RP D C' ∧ (okT T ∨ ∃ v, T = .inl (some (.int v))) := by
  obtain ⟨⟨M, h⟩, hx⟩ := hr
  have hno : ∀ T, okT T → fX10_step C x1 x2 x3 = some (T, C) → ∃ (T : Option Value ⊕ String) (C' : XO), fX10_step C x1 x2 x3 = some (T, C') ∧ KL C C' ∧ RP D C' ∧ (okT T ∨ ∃ v, T = .inl (some (.int v))) := fun T hT e => ⟨T, C, e, KL.rf C, ⟨⟨M, h⟩, hx⟩, Or.inl hT⟩
  rcases eIdx (M := M) (x := x1) (n := 8) (by decide) with ⟨⟨p, hp, rfl⟩, m1⟩ | ⟨hj, m1⟩
  · have c1 : eX10_demandIndex C (nI p) 8 = none := cIdx1 (n := 8) hp (by decide)
    rcases dRng M C x2 0 24 with ⟨m2, c2, r1, r2⟩ | ⟨m2, c2⟩
    · obtain ⟨o, ho, rfl⟩ : ∃ o, o < 25 ∧ x2 = nI o := by
        rcases dix x2 (n := 25) (by decide) with ⟨o, ho, e⟩ | hx
        · exact ⟨o, ho, e⟩
        · exfalso
          have t1 : (24 : Int32).toInt = 24 := rfl
          have t2 : (nI 25).toInt = 25 := rfl
          rcases hx with hx | hx
          · exact r1 hx
          · rw [ti_lt, t1] at r2
            rw [ti_le, t2] at hx
            omega
      rcases dRng M C x3 0 ((sArr 0).getD o 0) with ⟨m3, c3, r3, r4⟩ | ⟨m3, c3⟩
      · have t0 : (0 : Int32).toInt = 0 := rfl
        obtain ⟨a, ha, rfl, ha2⟩ := toI_nI (x := x3) (by rw [ti_lt, t0] at r3; omega)
        have ha3 : (a : Int) ≤ ((sArr 0).getD o 0).toInt := by
          rw [ti_lt, ti_nI ha] at r4
          omega
        have hpr := h.PR
        obtain ⟨l1, n, hn, l2, l3⟩ := hpr.2 p hp
        have hlen : fX5_lengthOf C 0 (nI p) = nI n := by
          unfold fX5_lengthOf
          rw [sAt_nI (show p < 8 from hp) (by decide), l2]
        have c3' : eX10_demandRange C (nI a) 0 (sTb 0 (nI o)) = none := by rw [sTb_nI ho]; exact c3
        by_cases hn20 : n = 20
        · refine hno (.inr xIS) (Or.inr (Or.inr rfl)) ?_
          unfold fX10_step
          rw [if_pos c1, if_pos c2, if_pos c3', hlen, hn20, if_pos (show (20 : Int32) ≤ nI 20 by decide)]
          rfl
        · have hn1 : ¬ (20 : Int32) ≤ nI n := nI_ge (b := 20) (by omega) (by decide)
          obtain ⟨t1, t2, t6⟩ := h.NT 0 (by decide)
          obtain ⟨t3, t4, t5⟩ := h.NT 1 (by decide)
          by_cases hbg : dnt D 0 = 0 ∧ dnt D 1 = 0
          · have hq : 20 * p + n < 160 := by omega
            have ei : nI p * 20 + nI n = nI (20 * p + n) := by
              rw [show (20 : Int32) = nI 20 from rfl, nI_mul, nI_add, Nat.mul_comm]
            have hput : ∀ (W : XO) (k j : Nat) (v : Int32), j < alen k → alen k < 2147483648 → sPut W k 0 (nI j) v = uI W k 0 j v := by
              intro W k j v hj hk
              unfold sPut
              rw [if_neg (nI_nlt0 (by omega)), if_neg (nI_ge hj hk), cl_nI (by omega)]
            obtain ⟨Ωc, hΩc⟩ : ∃ Ωc, Ωc = uI (uI (uI C 2008 0 (20 * p + n) (nI o)) 2009 0 (20 * p + n) (nI a)) 2010 0 p (nI (n + 1)) := ⟨_, rfl⟩
            obtain ⟨Mc, hMc⟩ : ∃ Mc, Mc = uI (uI (uI M 2103 0 (20 * p + n) (nI o)) 2104 0 (20 * p + n) (nI a)) 2105 0 p (nI (n + 1)) := ⟨_, rfl⟩
            have happ : fX5_append C 0 (nI p) (nI o) (nI a) = (nI (n + 1), Ωc) := by
              unfold fX5_append
              rw [hlen, ei, nI_1, hput _ 2008 _ _ (show 20 * p + n < 160 from hq) (by decide), hput _ 2009 _ _ (show 20 * p + n < 160 from hq) (by decide), hput _ 2010 _ _ (show p < 8 from hp) (by decide), hΩc]
            have hag : ∀ k i j, k ≠ 2008 → k ≠ 2009 → k ≠ 2010 → xI Ωc k i j = xI C k i j := fun k i j a2 a3 a4 => by rw [hΩc, I_ne a4, I_ne a3, I_ne a2]
            have hagm : ∀ k i j, k ≠ 2103 → k ≠ 2104 → k ≠ 2105 → xI Mc k i j = xI M k i j := fun k i j a2 a3 a4 => by rw [hMc, I_ne a4, I_ne a3, I_ne a2]
            have hL : ∀ k i j, xL Ωc k i j = xL C k i j := fun k i j => by rw [hΩc, L_uI, L_uI, L_uI]
            have hLm : ∀ k i j, xL Mc k i j = xL M k i j := fun k i j => by rw [hMc, L_uI, L_uI, L_uI]
            have hgh : qGH D Ωc Mc := by
              intro c' hc' b' hb' h0
              refine (h.GH c' hc' b' hb' h0).mv (Nat.le_refl _) (hag _ _ _ (by decide) (by decide) (by decide)) (hag _ _ _ (by decide) (by decide) (by decide)) (hag _ _ _ (by decide) (by decide) (by decide)) (hag _ _ _ (by decide) (by decide) (by decide)) (fun j => hag _ _ _ (by decide) (by decide) (by decide)) (fun x _ => ⟨hagm _ _ _ (by decide) (by decide) (by decide), hagm _ _ _ (by decide) (by decide) (by decide)⟩) (fun _ => hag _ _ _ (by decide) (by decide) (by decide)) (fun z => ?_) (fun k q h1 h2 _ => hag _ _ _ (by omega) (by omega) (by omega))
              rcases (show c' = 0 ∨ c' = 1 by omega) with rfl | rfl
              · rw [hbg.1] at z; exact absurd z (by decide)
              · rw [hbg.2] at z; exact absurd z (by decide)
            have w1 : ∀ j, xI Ωc 2008 0 j = if j = 20 * p + n then nI o else xI C 2008 0 j := by
              intro j
              rw [hΩc, I_ne (by decide), I_ne (by decide), I_uI]
              by_cases q : j = 20 * p + n
              · rw [if_pos ⟨rfl, rfl, q⟩, if_pos q]
              · rw [if_neg (fun z => q z.2.2), if_neg q]
            have w2 : ∀ j, xI Ωc 2009 0 j = if j = 20 * p + n then nI a else xI C 2009 0 j := by
              intro j
              rw [hΩc, I_ne (by decide), I_uI]
              by_cases q : j = 20 * p + n
              · rw [if_pos ⟨rfl, rfl, q⟩, if_pos q]
              · rw [if_neg (fun z => q z.2.2), if_neg q, I_ne (by decide)]
            have w3 : ∀ j, xI Ωc 2010 0 j = if j = p then nI (n + 1) else xI C 2010 0 j := by
              intro j
              rw [hΩc, I_uI]
              by_cases q : j = p
              · rw [if_pos ⟨rfl, rfl, q⟩, if_pos q]
              · rw [if_neg (fun z => q z.2.2), if_neg q, I_ne (by decide), I_ne (by decide)]
            have w4 : ∀ j, xI Mc 2103 0 j = if j = 20 * p + n then nI o else xI M 2103 0 j := by
              intro j
              rw [hMc, I_ne (by decide), I_ne (by decide), I_uI]
              by_cases q : j = 20 * p + n
              · rw [if_pos ⟨rfl, rfl, q⟩, if_pos q]
              · rw [if_neg (fun z => q z.2.2), if_neg q]
            have w5 : ∀ j, xI Mc 2104 0 j = if j = 20 * p + n then nI a else xI M 2104 0 j := by
              intro j
              rw [hMc, I_ne (by decide), I_uI]
              by_cases q : j = 20 * p + n
              · rw [if_pos ⟨rfl, rfl, q⟩, if_pos q]
              · rw [if_neg (fun z => q z.2.2), if_neg q, I_ne (by decide)]
            have w6 : ∀ j, xI Mc 2105 0 j = if j = p then nI (n + 1) else xI M 2105 0 j := by
              intro j
              rw [hMc, I_uI]
              by_cases q : j = p
              · rw [if_pos ⟨rfl, rfl, q⟩, if_pos q]
              · rw [if_neg (fun z => q z.2.2), if_neg q, I_ne (by decide), I_ne (by decide)]
            have hPR : qPR D Ωc Mc := by
              refine ⟨fun j hj => ?_, fun p' hp' => ?_⟩
              · rw [w1, w2, w4, w5]
                by_cases q : j = 20 * p + n
                · simp only [if_pos q, and_self]
                · simp only [if_neg q]
                  exact hpr.1 j hj
              · rw [w3, w6]
                obtain ⟨l1', n', hn', l2', l3'⟩ := hpr.2 p' hp'
                by_cases q : p' = p
                · subst q
                  have e9 : ∀ (x y : Int32), (if p' = p' then x else y) = x := fun x y => if_pos rfl
                  simp only [e9]
                  refine ⟨by first | trivial | rfl, n + 1, by omega, rfl, fun j hj => ?_⟩
                  rw [w1, w2]
                  by_cases q2 : j = n
                  · subst q2
                    rw [if_pos rfl, if_pos rfl]
                    exact ⟨o, a, ho, rfl, rfl, ha3⟩
                  · rw [if_neg (by omega), if_neg (by omega)]
                    exact l3 j (by omega)
                · simp only [if_neg q]
                  refine ⟨l1', n', hn', l2', fun j hj => ?_⟩
                  rw [w1, w2, if_neg (by omega), if_neg (by omega)]
                  exact l3' j hj
            have hR : RGD D Ωc Mc := h.bPR2 (fun k _ hk i j => by
              obtain ⟨a1, hk⟩ := nc_ne hk
              obtain ⟨a2, hk⟩ := nc_ne hk
              exact hag k i j a1 a2 (nc_ne hk).1) (fun k _ _ i j => hL k i j) (fun k _ hk i j => by
              obtain ⟨a1, hk⟩ := nc_ne hk
              obtain ⟨a2, hk⟩ := nc_ne hk
              exact hagm k i j a1 a2 (nc_ne hk).1) (fun k _ _ i j => hLm k i j) hPR hgh
            refine ⟨.inl (some (.int (nI (n + 1)))), Ωc, ?_, fun k i j hk => hag k i j (by omega) (by omega) (by omega), ⟨⟨Mc, hR⟩, hx.mv (fun i j => hag _ _ _ (by decide) (by decide) (by decide)) (fun i j => hag _ _ _ (by decide) (by decide) (by decide)) (fun i j => hag _ _ _ (by decide) (by decide) (by decide)) (fun i j => hag _ _ _ (by decide) (by decide) (by decide))⟩, Or.inr ⟨_, rfl⟩⟩
            rw [hbg.1] at t1
            rw [hbg.2] at t3
            unfold fX10_step wl
            rw [if_pos c1, if_pos c2, if_pos c3', hlen, if_neg hn1, happ]
            rw [show (0 : Int32).toNatClampNeg = 0 from rfl, show ((0 : Int32) + 1).toNatClampNeg = 1 from rfl, t1, t3, if_pos (show nI 0 = 0 from rfl), if_pos (show inB ((0 : Int32) + 1) 2 from inB_nI (k := 1) (by decide) (by decide)), if_pos (show nI 0 = 0 from rfl)]
          · refine hno (.inr xIS) (Or.inr (Or.inr rfl)) ?_
            unfold fX10_step wl
            rw [if_pos c1, if_pos c2, if_pos c3', hlen, if_neg hn1]
            rw [show (0 : Int32).toNatClampNeg = 0 from rfl, show ((0 : Int32) + 1).toNatClampNeg = 1 from rfl, t1, t3]
            by_cases z0 : dnt D 0 = 0
            · have z1 : ¬ nI (dnt D 1) = 0 := nI_ne0 (by omega) (by omega)
              rw [z0, if_pos (show nI 0 = 0 from rfl), if_pos (show inB ((0 : Int32) + 1) 2 from inB_nI (k := 1) (by decide) (by decide)), if_neg z1]
              rfl
            · have z1 : ¬ nI (dnt D 0) = 0 := nI_ne0 (by omega) (by omega)
              rw [if_neg z1]
              rfl
      · refine hno (.inr xIA) (Or.inr (Or.inl rfl)) ?_
        unfold fX10_step
        rw [if_pos c1, if_pos c2, show eX10_demandRange C x3 0 (sTb 0 (nI o)) = some xIA by rw [sTb_nI ho]; exact c3, if_neg (by simp)]
        rfl
    · refine hno (.inr xIA) (Or.inr (Or.inl rfl)) ?_
      unfold fX10_step
      rw [if_pos c1, c2, if_neg (by simp)]
      rfl
  · refine hno (.inr xIO) (Or.inl rfl) ?_
    unfold fX10_step
    rw [show eX10_demandIndex C x1 8 = some xIO from cIdx0 (y := nI 8) hj, if_neg (by simp)]
    rfl
theorem m_anew {D : XD} {C : XO} (hr : RP D C) {c b : Nat} (hc : c < 2) (hb : b < dnb D c) : ∃ C', fX10_rootAnew C (nI c) (nI b) = some (.inl (some (.int (xI C 12 (24 * c + b) 0))), C') ∧ KL C C' ∧ RP D C' ∧ SR D C C' := by
  obtain ⟨⟨M, h⟩, hx⟩ := hr
  obtain ⟨e2, e3⟩ := gBlk h hc hb
  obtain ⟨hb2, hg⟩ := blk48 h.NB hc hb
  obtain ⟨c2, c3⟩ := cChain1 (Ω := C) hc
  have key : ∃ C', fX1_runAnew C c (24 * c + b) = some (xI C 12 (24 * c + b) 0, C') ∧ RIf C C' := by
    obtain ⟨C1, k0, k1, k2, k3, k4, k5, k6⟩ := cFirst C
    have hpar := h.par hc hb
    have hf1 : RIf C C1 := by
      refine ⟨fun k i j h1 h2 => k1 k i j (fun y => ?_), fun k i j hk => k2 k i j (fun y => ?_)⟩
      · obtain ⟨rfl, z⟩ := y
        rcases z with rfl | rfl | rfl | rfl | rfl <;> exact absurd h1 (by simp [cmod])
      · omega
    have hs1 : SBn C1 M (24 * c) := by
      obtain ⟨-, f2, f3, f4, f5⟩ := h.F0 c hc
      have hi : 24 * c < 48 := by omega
      obtain ⟨t1, t2, t3, t4, t5⟩ := h.ST (24 * c) hi
      refine ⟨fun j hj => ?_, fun j hj => ?_, fun j hj => ?_, fun j hj => ?_, ?_, fun t ht => ?_⟩
      · rw [(k3 j hj).1, ← (f2 j hj).1, t1 j hj]
      · exact (k3 j hj).2.1.trans ((f2 j hj).2.1.symm.trans (by rw [t2 j hj, Nat.add_assoc]))
      · exact (k3 j hj).2.2.trans ((f2 j hj).2.2.symm.trans (by rw [t3 j hj, Nat.add_assoc]))
      · exact (k4 j hj).trans ((f3 j hj).symm.trans (by rw [t4 j hj, Nat.add_assoc]))
      · exact k5.trans (f4.symm.trans t5)
      · have e := h.PD (24 * c) hi t ht
        rw [Nat.add_assoc] at e
        rw [k6, ← e]
        exact ⟨fun z => absurd z (b64_0 (by omega)), fun z => absurd z (f5 t ht)⟩
    have han : ∀ (n b' : Nat), b' ≤ n → b' < dnb D c → Anc (dpa D c) b' 0 := by
      intro n
      induction n with
      | zero =>
        intro b' h1 h2
        have e : b' = 0 := by omega
        rw [e]
        exact Anc_self _ _
      | succ n ih =>
        intro b' h1 h2
        by_cases z : b' = 0
        · rw [z]
          exact Anc_self _ _
        · have hpb := h.par hc h2 b' (Nat.le_refl _) (by omega)
          exact (Anc_iff (h.par hc h2)).mpr (Or.inr ⟨by omega, ih (dpa D c b') (by omega) (by omega)⟩)
    obtain ⟨y', C', r1, hf, hs⟩ := rAll h hc hb 24 0 0 C1 (by omega) hf1 hs1 (han b b (Nat.le_refl _) hb) (Or.inr rfl) (fun x _ hx => absurd hx (by omega))
    obtain ⟨v, hv⟩ : ∃ v, v = xI C 12 (24 * c + b) 0 := ⟨_, rfl⟩
    have hrt : fX10_nodeOver C' 48 (4 : Int32) (0 : Int32) = v := by
      obtain ⟨t1, t2, t3, t4, -⟩ := h.ST _ hg
      obtain ⟨s1, s2, s3, s4, -⟩ := hs
      rw [hv]
      exact h.RT c hc b hb C' 48 (fun j hj => by rw [s1 j hj, t1 j hj]) (fun j hj => by rw [s2 j hj, t2 j hj, Nat.add_assoc]) (fun j hj => by rw [s3 j hj, t3 j hj, Nat.add_assoc]) (fun j hj => by rw [s4 j hj, t4 j hj, Nat.add_assoc])
    have hrun : fX1_runAnew C c (24 * c + b) = some (v, C') := by
      unfold fX1_runAnew wl
      dsimp only
      rw [k0, show (nI (alen 2002)).toNatClampNeg + 1 = 24 + 1 by decide, show (0 : Int32) = nI 0 from rfl, r1, Option.bind_some]
      dsimp only
      rw [show nI 0 = (0 : Int32) from rfl, hrt]
    exact ⟨C', by rw [← hv]; exact hrun, hf⟩
  obtain ⟨C', hrun, hf⟩ := key
  have ag : ∀ k i j, cmod 48 k i = false → ¬ (i = 48 ∧ (k = 3 ∨ k = 5)) → xI C' k i j = xI C k i j := hf.1
  have a9 : ∀ k i j, (k = 2 ∨ k = 6 ∨ k = 13 ∨ k = 14 ∨ k = 12 ∨ k = 802 ∨ k = 2017 ∨ k = 2018) → xI C' k i j = xI C k i j := fun k i j hk => ag k i j (by rcases hk with rfl | rfl | rfl | rfl | rfl | rfl | rfl | rfl <;> simp [cmod]) (by omega)
  have hR := h.bn hf
  refine ⟨C', ?_, fun k i j hk => a9 k i j (by omega), ⟨⟨M, hR⟩, hx.mv (fun i j => a9 _ _ _ (by omega)) (fun i j => a9 _ _ _ (by omega)) (fun i j => a9 _ _ _ (by omega)) (fun i j => a9 _ _ _ (by omega))⟩, ⟨M, h, hR⟩, fun k i j hk => a9 k i j (by omega)⟩
  unfold fX10_rootAnew
  rw [if_pos e2, if_pos c2, c3, e3, hrun, Option.bind_some]
