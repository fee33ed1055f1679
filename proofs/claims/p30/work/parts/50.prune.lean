theorem RGD.bPU {D : XD} {Ω Ω' : XO} (h : RGD D Ω Ω) (hi : ∀ k, scr k = false → ([13, 2126] : List Nat).contains k = false → agI k Ω Ω') (hl : ∀ k, ([2017] : List Nat).contains k = false → agL k Ω Ω') (hB2 : qB2 D Ω' Ω') (hRC : qRC D Ω' Ω') (hDR : qDR D Ω' Ω') : RGD D Ω' Ω' := ⟨qNB_cg (hi 101 rfl rfl) (hi 2109 rfl rfl) h.NB, qNT_cg (hi 103 rfl rfl) (hi 2108 rfl rfl) h.NT, qUP_cg (hi 104 rfl rfl) (hi 2107 rfl rfl) h.UP, qFN_cg (hi 201 rfl rfl) (hi 2110 rfl rfl) h.FN, qNO_cg (hi 0 rfl rfl) h.NO, hB2, qRW_cg (hi 2000 rfl rfl) (hi 2131 rfl rfl) h.RW, qEV_cg (hi 2001 rfl rfl) (hi 10 rfl rfl) (hi 2132 rfl rfl) h.EV, qST_cg (hi 2011 rfl rfl) (hi 2012 rfl rfl) (hi 2013 rfl rfl) (hi 2014 rfl rfl) (hi 604 rfl rfl) (hi 2100 rfl rfl) h.ST, qPD_cg (hl 605 rfl) (hi 2100 rfl rfl) h.PD, qBS_cg (hi 5 rfl rfl) (hi 2124 rfl rfl) h.BS, qTO_cg (hi 4 rfl rfl) (hl 2123 rfl) h.TO, qPA_cg (hi 2120 rfl rfl) h.PA, qHT_cg (hi 2 rfl rfl) h.HT, qLN_cg (hi 16 rfl rfl) h.LN, hRC, qRE_cg (hi 8 rfl rfl) (hi 2000 rfl rfl) h.RE, qHD_cg (hi 8 rfl rfl) (hi 2000 rfl rfl) (hl 17 rfl) h.HD, qEE_cg (hi 10 rfl rfl) (hi 2001 rfl rfl) h.EE, qTX_cg (hi 701 rfl rfl) (hi 702 rfl rfl) (hi 704 rfl rfl) (hi 706 rfl rfl) (hi 707 rfl rfl) (hi 708 rfl rfl) (hi 2111 rfl rfl) (hi 2112 rfl rfl) (hi 2114 rfl rfl) (hi 2116 rfl rfl) (hi 2117 rfl rfl) (hi 2118 rfl rfl) h.TX, qTB_cg (hi 701 rfl rfl) (hi 702 rfl rfl) (hi 704 rfl rfl) (hi 706 rfl rfl) (hi 707 rfl rfl) (hi 708 rfl rfl) h.TB, qTK_cg (hi 709 rfl rfl) (hi 703 rfl rfl) (hi 705 rfl rfl) (hi 704 rfl rfl) (hi 710 rfl rfl) (hi 711 rfl rfl) (hi 2113 rfl rfl) (hi 2115 rfl rfl) (hi 2114 rfl rfl) h.TK, qLV_cg (hi 712 rfl rfl) (hi 2119 rfl rfl) h.LV, qTN_cg (hi 700 rfl rfl) h.TN, qPR_cg (hi 2008 rfl rfl) (hi 2009 rfl rfl) (hi 2010 rfl rfl) (hi 2103 rfl rfl) (hi 2104 rfl rfl) (hi 2105 rfl rfl) h.PR, qBG_cg (hi 1106 rfl rfl) h.BG, hDR, qVA_cg (hi 801 rfl rfl) (hi 802 rfl rfl) (hi 2138 rfl rfl) (hi 2139 rfl rfl) h.VA, qVO_cg (hi 801 rfl rfl) (hi 802 rfl rfl) (hi 900 rfl rfl) (hi 901 rfl rfl) (hi 902 rfl rfl) (hi 903 rfl rfl) (hi 2135 rfl rfl) (hi 2136 rfl rfl) (hi 2121 rfl rfl) (hi 2137 rfl rfl) h.VO, qJU_cg (hi 15 rfl rfl) (hi 2134 rfl rfl) h.JU, qBL_cg (hi 10 rfl rfl) (hi 2001 rfl rfl) (hi 11 rfl rfl) h.BL, qJL_cg (hi 14 rfl rfl) (hi 15 rfl rfl) h.JL, qSI_cg (hi 2100 rfl rfl) h.SI, qBB_cg (hi 5 rfl rfl) h.BB, qRT_cg (hi 2011 rfl rfl) (hi 2012 rfl rfl) (hi 2013 rfl rfl) (hi 2014 rfl rfl) (hi 12 rfl rfl) h.RT, qF0_cg (hi 8 rfl rfl) (hi 2011 rfl rfl) (hi 2012 rfl rfl) (hi 2013 rfl rfl) (hi 2014 rfl rfl) (hi 604 rfl rfl) (hl 605 rfl) h.F0, qGH_cg (hi 2 rfl rfl) (hi 3 rfl rfl) (hi 5 rfl rfl) (hi 8 rfl rfl) (hi 104 rfl rfl) (hi 2000 rfl rfl) (hi 701 rfl rfl) (hi 702 rfl rfl) (hi 703 rfl rfl) (hi 704 rfl rfl) (hi 705 rfl rfl) (hi 706 rfl rfl) (hi 707 rfl rfl) (hi 708 rfl rfl) (hi 709 rfl rfl) (hi 710 rfl rfl) (hi 711 rfl rfl) (hi 2008 rfl rfl) (hi 2009 rfl rfl) (hi 2010 rfl rfl) (hi 2100 rfl rfl) h.GH⟩
/-- what dropping leaves of the class's world -/
def prC (D : XD) (Ω C : XO) : Prop := (∀ f i j, f ≠ 13 → xI C f i j = xI Ω f i j) ∧ (∀ f i j, xL C f i j = xL Ω f i j) ∧ (∀ i, i < 48 → xI C 13 i 0 = 0 ∨ xI C 13 i 0 = 1) ∧ ∀ c, c < 2 → ∀ b, dnb D c ≤ b → b < 24 → xI C 13 (24 * c + b) 0 = 0
def prM (D : XD) (c : Nat) (Ω C M : XO) : Prop := xI M 2109 0 c = nI (dnb D c) ∧ xI M 2110 0 c = nI (dfn D c) ∧ (∀ i, i < 48 → xI M 2121 0 i = xI Ω 2 i 0) ∧ ∀ i, i < 48 → xI C 13 i 0 = xI M 2126 0 i
def prS (C M M' : XO) : Prop := (∀ f i j, f ≠ 2126 → xI M' f i j = xI M f i j) ∧ (∀ f i j, xL M' f i j = xL M f i j) ∧ ∀ i, i < 48 → xI C 13 i 0 = xI M' 2126 0 i
theorem dPrune_l {D : XD} {Ω : XO} (h : RGD D Ω Ω) {c : Nat} (hc : c < 2) : ∀ (n k : Nat) (y : Int32) (C : XO), n = 25 - k → k ≤ 24 → prC D Ω C → ∃ y' C', fX1_dropLower_l c n k y (xI Ω 2 (24 * c + dfn D c) 0) C = (y', C') ∧ prC D Ω C' ∧ (dnb D c ≤ k → y' = y ∧ C' = C) ∧ ∀ n2, k ≤ dnb D c → n2 = dnb D c - k + 1 → ∀ M, prM D c Ω C M → ∃ z M', fX11_prune_l26 (nI c) n2 (nI k) y M = some (z, y', M') ∧ prS C' M M'
  | 0, k, y, C, hn, hk, hC => absurd hn (by omega)
  | n + 1, k, y, C, hn, hk, hC => by
    obtain ⟨b1, b2, b3, b4⟩ := h.NB c hc
    obtain ⟨f1, f2, f3⟩ := h.FN c hc
    obtain ⟨c1, c2, c3, c4⟩ := hC
    by_cases hk24 : k = 24
    · subst hk24
      refine ⟨y, C, ?_, ⟨c1, c2, c3, c4⟩, fun _ => ⟨rfl, rfl⟩, fun n2 z1 z2 M hM => ⟨nI 24, M, ?_, fun _ _ _ _ => rfl, fun _ _ _ => rfl, hM.2.2.2⟩⟩
      · rw [fX1_dropLower_l, if_pos (show nI (alen 2002) ≤ nI 24 by decide)]
      · have e : dnb D c = 24 := by omega
        rw [z2, e]
        rw [fX11_prune_l26, if_pos (inB_nI hc (by decide)), cl_nI (by omega), hM.1, e, if_pos (Int32.le_refl _)]
    · have hk2 : k < 24 := by omega
      have hg : 24 * c + k < 48 := by omega
      obtain ⟨g1, g2, g3⟩ := inB_24 hc hk2
      obtain ⟨g4, g5, g6⟩ := inB_24 hc (show dfn D c < 24 by omega)
      have hcl : fX1_dropLower_l c (n + 1) k y (xI Ω 2 (24 * c + dfn D c) 0) C = if xI Ω 16 (24 * c + k) 0 = 0 then fX1_dropLower_l c n (k + 1) y (xI Ω 2 (24 * c + dfn D c) 0) C else if xI Ω 2 (24 * c + dfn D c) 0 ≤ xI Ω 2 (24 * c + k) 0 then fX1_dropLower_l c n (k + 1) y (xI Ω 2 (24 * c + dfn D c) 0) C else if xI C 13 (24 * c + k) 0 = 0 then fX1_dropLower_l c n (k + 1) (y + 1) (xI Ω 2 (24 * c + dfn D c) 0) (uI C 13 (24 * c + k) 0 1) else fX1_dropLower_l c n (k + 1) y (xI Ω 2 (24 * c + dfn D c) 0) C := by
        rw [fX1_dropLower_l, if_neg (show ¬ nI (alen 2002) ≤ nI k from nI_ge (b := 24) hk2 (by decide)), cl_nI (by omega), c1 16 _ _ (by decide), c1 2 _ _ (by decide)]
      by_cases hkn : k < dnb D c
      · have hline : ¬ xI Ω 16 (24 * c + k) 0 = 0 := fun z => by
          have h1 := ((h.LN c hc).1 k hkn k hk2).mpr (Anc_self _ _)
          rw [z] at h1
          exact b32_0 k hk2 h1
        rw [if_neg hline] at hcl
        have hmo : ∀ n2 M, prM D c Ω C M → fX11_prune_l26 (nI c) (n2 + 1) (nI k) y M = if xI C 13 (24 * c + k) 0 = 0 ∧ ¬ xI Ω 2 (24 * c + dfn D c) 0 ≤ xI Ω 2 (24 * c + k) 0 then fX11_prune_l26 (nI c) n2 (nI (k + 1)) (y + 1) (uI M 2126 0 (24 * c + k) 1) else fX11_prune_l26 (nI c) n2 (nI (k + 1)) y (uI M 2126 0 (24 * c + k) (xI M 2126 0 (24 * c + k))) := by
          intro n2 M ⟨m1, m2, m3, m4⟩
          have m5 := m4 _ hg
          rw [fX11_prune_l26, if_pos (inB_nI hc (by decide)), cl_nI (show c < 2147483648 by omega), m1, if_neg (nI_ge hkn (by omega)), if_pos g1, g3, if_pos (inB_nI hc (by decide)), m2]
          simp only [if_pos g1, if_pos g4, g6, m3 _ hg, m3 _ (show 24 * c + dfn D c < 48 by omega), ← m5, nI_1]
          unfold wl
          by_cases q1 : xI C 13 (24 * c + k) 0 = 0
          · by_cases q2 : xI Ω 2 (24 * c + dfn D c) 0 ≤ xI Ω 2 (24 * c + k) 0
            · rw [if_pos q1, if_pos q2, if_neg (fun z => z.2 q2)]
              simp only [Option.bind_some, if_true, Int32.add_zero]
            · rw [if_pos q1, if_neg q2, if_pos ⟨q1, q2⟩]
              simp only [Option.bind_some, one_n0, if_false]
          · rw [if_neg q1, if_neg (fun z => q1 z.1)]
            simp only [Option.bind_some, if_true, Int32.add_zero]
        have hpm1 : ∀ C2 M v, prM D c Ω C M → (∀ i, i < 48 → xI C2 13 i 0 = if i = 24 * c + k then v else xI C 13 i 0) → prM D c Ω C2 (uI M 2126 0 (24 * c + k) v) := by
          intro C2 M v ⟨m1, m2, m3, m4⟩ hv
          refine ⟨by rw [I_ne (by decide), m1], by rw [I_ne (by decide), m2], fun i hi => by rw [I_ne (by decide), m3 i hi], fun i hi => ?_⟩
          rw [hv i hi, I_uI]
          by_cases q : i = 24 * c + k
          · rw [if_pos q, if_pos ⟨rfl, rfl, q⟩]
          · rw [if_neg q, if_neg (fun z => q z.2.2), m4 i hi]
        have hps : ∀ C' M v M', prS C' (uI M 2126 0 (24 * c + k) v) M' → prS C' M M' := by
          intro C' M v M' ⟨s1, s2, s3⟩
          refine ⟨fun f i j hf => by rw [s1 f i j hf, I_ne hf], fun f i j => by rw [s2 f i j, L_uI], s3⟩
        by_cases q : xI C 13 (24 * c + k) 0 = 0 ∧ ¬ xI Ω 2 (24 * c + dfn D c) 0 ≤ xI Ω 2 (24 * c + k) 0
        · have hC2 : prC D Ω (uI C 13 (24 * c + k) 0 1) := by
            refine ⟨fun f i j hf => by rw [I_ne hf, c1 f i j hf], fun f i j => by rw [L_uI, c2], fun i hi => ?_, fun c' hc' b hb hb2 => ?_⟩
            · rw [I_uI]
              by_cases q3 : i = 24 * c + k
              · rw [if_pos ⟨rfl, q3, rfl⟩]
                exact Or.inr rfl
              · rw [if_neg (fun z => q3 z.2.1)]
                exact c3 i hi
            · rw [I_uI, if_neg (fun z => ?_), c4 c' hc' b hb hb2]
              have z2 := z.2.1
              have z3 : c' = c := by omega
              subst z3
              omega
          obtain ⟨y', C', p1, p2, p3, p4⟩ := dPrune_l h hc n (k + 1) (y + 1) (uI C 13 (24 * c + k) 0 1) (by omega) (by omega) hC2
          refine ⟨y', C', ?_, p2, fun z => absurd z (by omega), fun n2 z1 z2 M hM => ?_⟩
          · rw [hcl, if_neg q.2, if_pos q.1, p1]
          · obtain ⟨n3, rfl⟩ : ∃ n3, n2 = n3 + 1 := ⟨n2 - 1, by omega⟩
            rw [hmo n3 M hM, if_pos q]
            obtain ⟨z, M', r1, r2⟩ := p4 n3 (by omega) (by omega) _ (hpm1 _ M 1 hM (fun i hi => by
              rw [I_uI]
              by_cases q3 : i = 24 * c + k
              · rw [if_pos ⟨rfl, q3, rfl⟩, if_pos q3]
              · rw [if_neg (fun z => q3 z.2.1), if_neg q3]))
            exact ⟨z, M', r1, hps _ _ _ _ r2⟩
        · obtain ⟨y', C', p1, p2, p3, p4⟩ := dPrune_l h hc n (k + 1) y C (by omega) (by omega) ⟨c1, c2, c3, c4⟩
          refine ⟨y', C', ?_, p2, fun z => absurd z (by omega), fun n2 z1 z2 M hM => ?_⟩
          · rw [hcl]
            by_cases q2 : xI Ω 2 (24 * c + dfn D c) 0 ≤ xI Ω 2 (24 * c + k) 0
            · rw [if_pos q2, p1]
            · rw [if_neg q2, if_neg (fun z => q ⟨z, q2⟩), p1]
          · obtain ⟨n3, rfl⟩ : ∃ n3, n2 = n3 + 1 := ⟨n2 - 1, by omega⟩
            rw [hmo n3 M hM, if_neg q]
            obtain ⟨z, M', r1, r2⟩ := p4 n3 (by omega) (by omega) _ (hpm1 C M (xI M 2126 0 (24 * c + k)) hM (fun i hi => by
              by_cases q3 : i = 24 * c + k
              · rw [if_pos q3, q3, hM.2.2.2 _ hg]
              · rw [if_neg q3]))
            exact ⟨z, M', r1, hps _ _ _ _ r2⟩
      · have hline : xI Ω 16 (24 * c + k) 0 = 0 := (h.LN c hc).2 k (by omega) hk2
        obtain ⟨y', C', p1, p2, p3, p4⟩ := dPrune_l h hc n (k + 1) y C (by omega) (by omega) ⟨c1, c2, c3, c4⟩
        obtain ⟨p5, p6⟩ := p3 (by omega)
        refine ⟨y', C', ?_, p2, fun _ => ⟨p5, p6⟩, fun n2 z1 z2 M hM => ⟨nI k, M, ?_, fun _ _ _ _ => rfl, fun _ _ _ => rfl, ?_⟩⟩
        · rw [hcl, if_pos hline, p1]
        · have e : dnb D c = k := by omega
          rw [z2, e, Nat.sub_self, p5]
          rw [fX11_prune_l26, if_pos (inB_nI hc (by decide)), cl_nI (by omega), hM.1, e, if_pos (Int32.le_refl _)]
        · rw [p6]
          exact hM.2.2.2
