theorem RGD.bUP {D : XD} {Ω Ω' : XO} (h : RGD D Ω Ω) (hi : ∀ k, scr k = false → ([104, 2107] : List Nat).contains k = false → agI k Ω Ω') (hl : ∀ k, ([2017] : List Nat).contains k = false → agL k Ω Ω') (hUP : qUP D Ω' Ω') (hGH : qGH D Ω' Ω') : RGD D Ω' Ω' := ⟨qNB_cg (hi 101 rfl rfl) (hi 2109 rfl rfl) h.NB, qNT_cg (hi 103 rfl rfl) (hi 2108 rfl rfl) h.NT, hUP, qFN_cg (hi 201 rfl rfl) (hi 2110 rfl rfl) h.FN, qNO_cg (hi 0 rfl rfl) h.NO, qB2_cg (hi 2 rfl rfl) (hi 3 rfl rfl) (hi 6 rfl rfl) (hi 8 rfl rfl) (hi 10 rfl rfl) (hi 11 rfl rfl) (hi 12 rfl rfl) (hi 13 rfl rfl) (hi 14 rfl rfl) (hi 2121 rfl rfl) (hi 2122 rfl rfl) (hi 2125 rfl rfl) (hi 2129 rfl rfl) (hi 2130 rfl rfl) (hi 2128 rfl rfl) (hi 2127 rfl rfl) (hi 2126 rfl rfl) (hi 2133 rfl rfl) h.B2, qRW_cg (hi 2000 rfl rfl) (hi 2131 rfl rfl) h.RW, qEV_cg (hi 2001 rfl rfl) (hi 10 rfl rfl) (hi 2132 rfl rfl) h.EV, qST_cg (hi 2011 rfl rfl) (hi 2012 rfl rfl) (hi 2013 rfl rfl) (hi 2014 rfl rfl) (hi 604 rfl rfl) (hi 2100 rfl rfl) h.ST, qPD_cg (hl 605 rfl) (hi 2100 rfl rfl) h.PD, qBS_cg (hi 5 rfl rfl) (hi 2124 rfl rfl) h.BS, qTO_cg (hi 4 rfl rfl) (hl 2123 rfl) h.TO, qPA_cg (hi 2120 rfl rfl) h.PA, qHT_cg (hi 2 rfl rfl) h.HT, qLN_cg (hi 16 rfl rfl) h.LN, qRC_cg (hi 8 rfl rfl) (hi 10 rfl rfl) (hi 6 rfl rfl) (hi 11 rfl rfl) (hi 13 rfl rfl) (hi 14 rfl rfl) (hi 15 rfl rfl) (hl 17 rfl) h.RC, qRE_cg (hi 8 rfl rfl) (hi 2000 rfl rfl) h.RE, qHD_cg (hi 8 rfl rfl) (hi 2000 rfl rfl) (hl 17 rfl) h.HD, qEE_cg (hi 10 rfl rfl) (hi 2001 rfl rfl) h.EE, qTX_cg (hi 701 rfl rfl) (hi 702 rfl rfl) (hi 704 rfl rfl) (hi 706 rfl rfl) (hi 707 rfl rfl) (hi 708 rfl rfl) (hi 2111 rfl rfl) (hi 2112 rfl rfl) (hi 2114 rfl rfl) (hi 2116 rfl rfl) (hi 2117 rfl rfl) (hi 2118 rfl rfl) h.TX, qTB_cg (hi 701 rfl rfl) (hi 702 rfl rfl) (hi 704 rfl rfl) (hi 706 rfl rfl) (hi 707 rfl rfl) (hi 708 rfl rfl) h.TB, qTK_cg (hi 709 rfl rfl) (hi 703 rfl rfl) (hi 705 rfl rfl) (hi 704 rfl rfl) (hi 710 rfl rfl) (hi 711 rfl rfl) (hi 2113 rfl rfl) (hi 2115 rfl rfl) (hi 2114 rfl rfl) h.TK, qLV_cg (hi 712 rfl rfl) (hi 2119 rfl rfl) h.LV, qTN_cg (hi 700 rfl rfl) h.TN, qPR_cg (hi 2008 rfl rfl) (hi 2009 rfl rfl) (hi 2010 rfl rfl) (hi 2103 rfl rfl) (hi 2104 rfl rfl) (hi 2105 rfl rfl) h.PR, qBG_cg (hi 1106 rfl rfl) h.BG, qDR_cg (hi 13 rfl rfl) (hi 14 rfl rfl) h.DR, qVA_cg (hi 801 rfl rfl) (hi 802 rfl rfl) (hi 2138 rfl rfl) (hi 2139 rfl rfl) h.VA, qVO_cg (hi 801 rfl rfl) (hi 802 rfl rfl) (hi 900 rfl rfl) (hi 901 rfl rfl) (hi 902 rfl rfl) (hi 903 rfl rfl) (hi 2135 rfl rfl) (hi 2136 rfl rfl) (hi 2121 rfl rfl) (hi 2137 rfl rfl) h.VO, qJU_cg (hi 15 rfl rfl) (hi 2134 rfl rfl) h.JU, qBL_cg (hi 10 rfl rfl) (hi 2001 rfl rfl) (hi 11 rfl rfl) h.BL, qJL_cg (hi 14 rfl rfl) (hi 15 rfl rfl) h.JL, qSI_cg (hi 2100 rfl rfl) h.SI, qBB_cg (hi 5 rfl rfl) h.BB, qRT_cg (hi 2011 rfl rfl) (hi 2012 rfl rfl) (hi 2013 rfl rfl) (hi 2014 rfl rfl) (hi 12 rfl rfl) h.RT, qF0_cg (hi 8 rfl rfl) (hi 2011 rfl rfl) (hi 2012 rfl rfl) (hi 2013 rfl rfl) (hi 2014 rfl rfl) (hi 604 rfl rfl) (hl 605 rfl) h.F0, hGH⟩
theorem RGD.bPR {D : XD} {Ω Ω' : XO} (h : RGD D Ω Ω) (hi : ∀ k, scr k = false → ([2008, 2009, 2010, 2103, 2104, 2105] : List Nat).contains k = false → agI k Ω Ω') (hl : ∀ k, ([2017] : List Nat).contains k = false → agL k Ω Ω') (hPR : qPR D Ω' Ω') (hGH : qGH D Ω' Ω') : RGD D Ω' Ω' := ⟨qNB_cg (hi 101 rfl rfl) (hi 2109 rfl rfl) h.NB, qNT_cg (hi 103 rfl rfl) (hi 2108 rfl rfl) h.NT, qUP_cg (hi 104 rfl rfl) (hi 2107 rfl rfl) h.UP, qFN_cg (hi 201 rfl rfl) (hi 2110 rfl rfl) h.FN, qNO_cg (hi 0 rfl rfl) h.NO, qB2_cg (hi 2 rfl rfl) (hi 3 rfl rfl) (hi 6 rfl rfl) (hi 8 rfl rfl) (hi 10 rfl rfl) (hi 11 rfl rfl) (hi 12 rfl rfl) (hi 13 rfl rfl) (hi 14 rfl rfl) (hi 2121 rfl rfl) (hi 2122 rfl rfl) (hi 2125 rfl rfl) (hi 2129 rfl rfl) (hi 2130 rfl rfl) (hi 2128 rfl rfl) (hi 2127 rfl rfl) (hi 2126 rfl rfl) (hi 2133 rfl rfl) h.B2, qRW_cg (hi 2000 rfl rfl) (hi 2131 rfl rfl) h.RW, qEV_cg (hi 2001 rfl rfl) (hi 10 rfl rfl) (hi 2132 rfl rfl) h.EV, qST_cg (hi 2011 rfl rfl) (hi 2012 rfl rfl) (hi 2013 rfl rfl) (hi 2014 rfl rfl) (hi 604 rfl rfl) (hi 2100 rfl rfl) h.ST, qPD_cg (hl 605 rfl) (hi 2100 rfl rfl) h.PD, qBS_cg (hi 5 rfl rfl) (hi 2124 rfl rfl) h.BS, qTO_cg (hi 4 rfl rfl) (hl 2123 rfl) h.TO, qPA_cg (hi 2120 rfl rfl) h.PA, qHT_cg (hi 2 rfl rfl) h.HT, qLN_cg (hi 16 rfl rfl) h.LN, qRC_cg (hi 8 rfl rfl) (hi 10 rfl rfl) (hi 6 rfl rfl) (hi 11 rfl rfl) (hi 13 rfl rfl) (hi 14 rfl rfl) (hi 15 rfl rfl) (hl 17 rfl) h.RC, qRE_cg (hi 8 rfl rfl) (hi 2000 rfl rfl) h.RE, qHD_cg (hi 8 rfl rfl) (hi 2000 rfl rfl) (hl 17 rfl) h.HD, qEE_cg (hi 10 rfl rfl) (hi 2001 rfl rfl) h.EE, qTX_cg (hi 701 rfl rfl) (hi 702 rfl rfl) (hi 704 rfl rfl) (hi 706 rfl rfl) (hi 707 rfl rfl) (hi 708 rfl rfl) (hi 2111 rfl rfl) (hi 2112 rfl rfl) (hi 2114 rfl rfl) (hi 2116 rfl rfl) (hi 2117 rfl rfl) (hi 2118 rfl rfl) h.TX, qTB_cg (hi 701 rfl rfl) (hi 702 rfl rfl) (hi 704 rfl rfl) (hi 706 rfl rfl) (hi 707 rfl rfl) (hi 708 rfl rfl) h.TB, qTK_cg (hi 709 rfl rfl) (hi 703 rfl rfl) (hi 705 rfl rfl) (hi 704 rfl rfl) (hi 710 rfl rfl) (hi 711 rfl rfl) (hi 2113 rfl rfl) (hi 2115 rfl rfl) (hi 2114 rfl rfl) h.TK, qLV_cg (hi 712 rfl rfl) (hi 2119 rfl rfl) h.LV, qTN_cg (hi 700 rfl rfl) h.TN, hPR, qBG_cg (hi 1106 rfl rfl) h.BG, qDR_cg (hi 13 rfl rfl) (hi 14 rfl rfl) h.DR, qVA_cg (hi 801 rfl rfl) (hi 802 rfl rfl) (hi 2138 rfl rfl) (hi 2139 rfl rfl) h.VA, qVO_cg (hi 801 rfl rfl) (hi 802 rfl rfl) (hi 900 rfl rfl) (hi 901 rfl rfl) (hi 902 rfl rfl) (hi 903 rfl rfl) (hi 2135 rfl rfl) (hi 2136 rfl rfl) (hi 2121 rfl rfl) (hi 2137 rfl rfl) h.VO, qJU_cg (hi 15 rfl rfl) (hi 2134 rfl rfl) h.JU, qBL_cg (hi 10 rfl rfl) (hi 2001 rfl rfl) (hi 11 rfl rfl) h.BL, qJL_cg (hi 14 rfl rfl) (hi 15 rfl rfl) h.JL, qSI_cg (hi 2100 rfl rfl) h.SI, qBB_cg (hi 5 rfl rfl) h.BB, qRT_cg (hi 2011 rfl rfl) (hi 2012 rfl rfl) (hi 2013 rfl rfl) (hi 2014 rfl rfl) (hi 12 rfl rfl) h.RT, qF0_cg (hi 8 rfl rfl) (hi 2011 rfl rfl) (hi 2012 rfl rfl) (hi 2013 rfl rfl) (hi 2014 rfl rfl) (hi 604 rfl rfl) (hl 605 rfl) h.F0, hGH⟩
theorem I_ne {Ω : XO} {k i j : Nat} {v : Int32} {f a b : Nat} (h : f ≠ k) : xI (uI Ω k i j v) f a b = xI Ω f a b := by
  rw [I_uI, if_neg (fun z => h z.1)]
theorem L_I' (Ω : XO) (v : Int64) (k i j : Nat) : xI (uL Ω 2017 0 0 v) k i j = xI Ω k i j := rfl
theorem nc_ne {k a : Nat} {l : List Nat} (h : (a :: l).contains k = false) : k ≠ a ∧ l.contains k = false := by
  rw [List.contains_cons] at h
  rw [Bool.or_eq_false_iff] at h
  refine ⟨fun z => ?_, h.2⟩
  rw [z] at h
  exact absurd h.1 (by simp)
theorem scr_ne {k : Nat} (h : scr k = false) : k ≠ 1160 := fun z => absurd (z ▸ h) (by decide)
theorem ok_upgrade : OK_upgrade RG := by
  intro Ω x1 x2 ⟨D, h⟩
  rcases dCh Ω Ω x1 with ⟨c, hc, rfl, e1, e2, e3⟩ | ⟨e1, e2⟩
  · obtain ⟨n1, n2, n3, n4⟩ := h.NB c hc
    obtain ⟨u1, u2, u3⟩ := h.UP c hc
    rcases dRng Ω Ω x2 1 1000 with ⟨m1, c1, r1, r2⟩ | ⟨m1, c1⟩
    · by_cases hb : dnb D c = 1
      · obtain ⟨v, hv⟩ : ∃ v, v = xI Ω 104 c 0 := ⟨_, rfl⟩
        obtain ⟨Ω1, hΩ1⟩ : ∃ Ω1, Ω1 = uL (uI Ω 104 c 0 x2) 2017 0 0 v.toInt64 := ⟨_, rfl⟩
        have q9 : xI Ω1 2109 0 c = 1 := by
          rw [hΩ1, L_I', I_ne (by decide), n2, hb]
          rfl
        have q7 : xI Ω1 2107 0 c = v := by
          rw [hΩ1, L_I', I_ne (by decide), ← u1, hv]
        refine ⟨(.inl (some (.int v)), uI Ω 104 c 0 x2), (0, Ω1), (v, uI (uI Ω1 1160 0 0 0) 2107 0 c x2), ?_, ?_, ?_, ?_, fun _ => ?_, ⟨D, ?_⟩⟩
        · unfold fX10_upgrade
          rw [if_pos e2, if_pos c1, e3, n1, hb, if_pos (show nI 1 = 1 from rfl), ← hv]
        · rw [hΩ1]; rfl
        · unfold fX11_upgrade
          rw [ob_s (eChain1 hc)]
          have m1' : fX11_in Ω1 x2 1 1000 = some 1 := by rw [eIn] at m1 ⊢; exact m1
          simp only [one_n0, if_false, m1', Option.bind_some, if_pos (inB_nI hc (show 2 < 2147483648 by decide)), cl_nI (show c < 2147483648 by omega), q9]
          rw [if_pos (show (1 : Int32) ≤ 1 by decide)]
          simp only [Option.bind_some, eHolds0, if_true]
          unfold wl
          rw [I_uI, if_neg (by rintro ⟨h9, -⟩; exact absurd h9 (by decide)), q7]
        · rw [I_uI, if_neg (by rintro ⟨h9, -⟩; exact absurd h9 (by decide)), thr_t]
        · rw [L_uI, L_uI, hΩ1, L_uL, if_pos ⟨rfl, rfl, rfl⟩]
        · have hgh : qGH D (uI (uI Ω1 1160 0 0 0) 2107 0 c x2) (uI (uI Ω1 1160 0 0 0) 2107 0 c x2) := by
            intro c' hc' b' hb' h0
            have hcc : c' ≠ c := fun z => by rw [z, hb] at hb'; omega
            have h8 : ∀ k i j, k ≠ 1160 ∧ k ≠ 104 ∧ k ≠ 2107 → xI (uI (uI Ω1 1160 0 0 0) 2107 0 c x2) k i j = xI Ω k i j := fun k i j ⟨a1, a2, a3⟩ => by rw [I_ne a3, I_ne a1, hΩ1, L_I', I_ne a2]
            refine (h.GH c' hc' b' hb' h0).mv (Nat.le_refl _) (h8 _ _ _ (by decide)) (h8 _ _ _ (by decide)) (h8 _ _ _ (by decide)) (h8 _ _ _ (by decide)) (fun j => h8 _ _ _ (by decide)) (fun x _ => ⟨h8 _ _ _ (by decide), h8 _ _ _ (by decide)⟩) (fun _ => ?_) (fun _ k j hk => h8 _ _ _ ⟨by omega, by omega, by omega⟩) (fun k q h1 h2 _ => h8 _ _ _ ⟨by omega, by omega, by omega⟩)
            rw [I_ne (by decide), I_ne (by decide), hΩ1, L_I', I_uI, if_neg (fun z => hcc z.2.1)]
          refine h.bUP (fun k hk hk2 i j => ?_) (fun k hk i j => ?_) (fun c' hc' => ?_) hgh
          · obtain ⟨a1, a2⟩ := nc_ne hk2
            obtain ⟨a3, -⟩ := nc_ne a2
            rw [I_uI, if_neg (fun z => a3 z.1), I_uI, if_neg (fun z => scr_ne hk z.1), hΩ1, L_I', I_uI, if_neg (fun z => a1 z.1)]
          · obtain ⟨a1, -⟩ := nc_ne hk
            rw [L_uI, L_uI, hΩ1, L_uL, if_neg (fun z => a1 z.1), L_uI]
          · have w1 : xI (uI (uI Ω1 1160 0 0 0) 2107 0 c x2) 104 c' 0 = if c' = c then x2 else xI Ω 104 c' 0 := by
              rw [I_uI, if_neg (by rintro ⟨h9, -⟩; exact absurd h9 (by decide)), I_uI, if_neg (by rintro ⟨h9, -⟩; exact absurd h9 (by decide)), hΩ1, L_I', I_uI]
              by_cases q : c' = c
              · rw [if_pos ⟨rfl, q, rfl⟩, if_pos q]
              · rw [if_neg (fun z => q z.2.1), if_neg q]
            have w2 : xI (uI (uI Ω1 1160 0 0 0) 2107 0 c x2) 2107 0 c' = if c' = c then x2 else xI Ω 2107 0 c' := by
              rw [I_uI]
              by_cases q : c' = c
              · rw [if_pos ⟨rfl, rfl, q⟩, if_pos q]
              · rw [if_neg (fun z => q z.2.2), if_neg q, I_uI, if_neg (by rintro ⟨h9, -⟩; exact absurd h9 (by decide)), hΩ1, L_I', I_uI, if_neg (by rintro ⟨h9, -⟩; exact absurd h9 (by decide))]
            rw [w1, w2]
            by_cases q : c' = c
            · rw [if_pos q, if_pos q]
              rw [ti_lt] at r1 r2
              have t1 : (1 : Int32).toInt = 1 := rfl
              have t2 : (1000 : Int32).toInt = 1000 := rfl
              exact ⟨rfl, by omega, by omega⟩
            · rw [if_neg q, if_neg q]
              exact h.UP c' hc'
      · have hb1 : ¬ nI (dnb D c) = 1 := fun z => hb ((nI_eq (by omega) (by decide)).mp (show nI (dnb D c) = nI 1 from z))
        have hb2 : ¬ nI (dnb D c) ≤ 1 := nI_ge (b := dnb D c) (a := 1) (by omega) (by omega)
        refine ⟨(.inr xIS, Ω), (3, Ω), (-1, uI Ω 1160 0 0 3), ?_, rfl, ?_, thr_t _ _, n30, ⟨D, h.thr _⟩⟩
        · unfold fX10_upgrade
          rw [if_pos e2, if_pos c1, e3, n1, if_neg hb1]
          rfl
        · unfold fX11_upgrade
          rw [ob_s e1]
          simp only [one_n0, if_false, m1, Option.bind_some, if_pos (inB_nI hc (show 2 < 2147483648 by decide)), cl_nI (show c < 2147483648 by omega), n2, if_neg hb2, eHolds3]
    · refine ⟨(.inr xIA, Ω), (2, Ω), (-1, uI Ω 1160 0 0 2), ?_, rfl, ?_, thr_t _ _, n20, ⟨D, h.thr _⟩⟩
      · unfold fX10_upgrade
        rw [if_pos e2, c1, if_neg (by simp)]
        rfl
      · unfold fX11_upgrade
        rw [ob_s e1]
        simp only [one_n0, if_false, m1, Option.bind_some, if_true, eHolds2]
  · refine ⟨(.inr xIO, Ω), (1, Ω), (-1, uI Ω 1160 0 0 1), ?_, rfl, ?_, thr_t _ _, n10, ⟨D, h.thr _⟩⟩
    · unfold fX10_upgrade
      rw [e2, if_neg (by simp)]
      rfl
    · unfold fX11_upgrade
      rw [ob_s e1]
      simp only [if_true, eHolds1, Option.bind_some, one_n0, if_false]
theorem mostT : ∀ o, o < 25 → ∀ M : XO, fX11_most M (nI o) = some ((sArr 0).getD o 0) := by
  intro o ho M
  unfold fX11_most wl
  have h : ∀ o, o < 25 → (if nI o = 0 then (9999 : Int32) else if nI o = 9 then 3 else if nI o = 10 then 3 else if nI o = 11 then 20 else if nI o = 12 then 20 else if nI o = 17 then 15 else if nI o = 18 then 15 else if nI o = 21 then 7 else 0) = (sArr 0).getD o 0 := by decide +kernel
  exact congrArg some (h o ho)
theorem sTb_nI {q o : Nat} (h : o < 25) : sTb q (nI o) = (sArr q).getD o 0 := by
  unfold sTb
  rw [if_neg (nI_nlt0 (by omega)), if_neg (nI_ge h (by decide)), cl_nI (by omega)]
theorem mostB : ∀ o, o < 25 → 0 ≤ ((sArr 0).getD o 0).toInt ∧ ((sArr 0).getD o 0).toInt ≤ 9999 := by decide +kernel
theorem ok_step : OK_step RG := by
  intro Ω x1 x2 x3 ⟨D, h⟩
  have e7' : (7 : Int32) = nI 8 - 1 := by decide
  have e24 : (24 : Int32) = nI 25 - 1 := by decide
  rcases eIdx (M := Ω) (x := x1) (n := 8) (by decide) with ⟨⟨p, hp, rfl⟩, m1⟩ | ⟨hj, m1⟩
  · have c1 : eX10_demandIndex Ω (nI p) 8 = none := cIdx1 (n := 8) hp (by decide)
    rcases dRng Ω Ω x2 0 24 with ⟨m2, c2, r1, r2⟩ | ⟨m2, c2⟩
    · obtain ⟨o, ho, rfl⟩ : ∃ o, o < 25 ∧ x2 = nI o := by
        rcases dix x2 (n := 25) (by decide) with ⟨o, ho, e⟩ | hx
        · exact ⟨o, ho, e⟩
        · exfalso
          have t1 : (24 : Int32).toInt = 24 := rfl
          have t2 : (nI 25).toInt = 25 := rfl
          rcases hx with hx | hx
          · exact r1 hx
          · rw [ti_lt, t1] at r2
            rw [ti_le, t2] at hx
            omega
      have hm := mostT o ho
      have hb := mostB o ho
      rcases dRng Ω Ω x3 0 ((sArr 0).getD o 0) with ⟨m3, c3, r3, r4⟩ | ⟨m3, c3⟩
      · have t0 : (0 : Int32).toInt = 0 := rfl
        obtain ⟨a, ha, rfl, ha2⟩ := toI_nI (x := x3) (by rw [ti_lt, t0] at r3; omega)
        have ha3 : (a : Int) ≤ ((sArr 0).getD o 0).toInt := by
          rw [ti_lt, ti_nI ha] at r4
          omega
        have hpr := h.PR
        obtain ⟨l1, n, hn, l2, l3⟩ := hpr.2 p hp
        have hlen : fX5_lengthOf Ω 0 (nI p) = nI n := by
          unfold fX5_lengthOf
          rw [sAt_nI (show p < 8 from hp) (by decide), l2]
        have hst : xI Ω 2105 0 p = nI n := by rw [← l1, l2]
        have c3' : eX10_demandRange Ω (nI a) 0 (sTb 0 (nI o)) = none := by rw [sTb_nI ho]; exact c3
        by_cases hn20 : n = 20
        · refine ⟨(.inr xIS, Ω), (3, Ω), (-1, uI Ω 1160 0 0 3), ?_, rfl, ?_, thr_t _ _, n30, ⟨D, h.thr _⟩⟩
          · unfold fX10_step
            rw [if_pos c1, if_pos c2, if_pos c3', hlen, hn20, if_pos (show (20 : Int32) ≤ nI 20 by decide)]
            rfl
          · unfold fX11_step
            rw [ob_s m2]
            simp only [one_n0, if_false, hm, Option.bind_some, m3]
            rw [e7', ob_s m1]
            simp only [one_n0, if_false, if_pos (inB_nI hp (show 8 < 2147483648 by decide)), cl_nI (show p < 2147483648 by omega), hst, hn20]
            rw [if_pos (show nI 20 = 20 from rfl)]
            simp only [Option.bind_some, eHolds3, one_n0, if_false]
        · have hn1 : ¬ (20 : Int32) ≤ nI n := nI_ge (b := 20) (by omega) (by decide)
          have hn2 : ¬ nI n = 20 := fun z => hn20 ((nI_eq (by omega) (by decide)).mp (show nI n = nI 20 from z))
          obtain ⟨t1, t2, -⟩ := h.NT 0 (by decide)
          obtain ⟨t3, t4, t5⟩ := h.NT 1 (by decide)
          have t6 := (h.NT 0 (by decide)).2.2
          by_cases hbg : dnt D 0 = 0 ∧ dnt D 1 = 0
          · have hbm : xI Ω 1106 0 0 = 0 := h.BG.1.mpr hbg
            rw [hbg.1] at t1
            rw [hbg.2] at t3
            have hq : 20 * p + n < 160 := by omega
            have ei : nI p * 20 + nI n = nI (20 * p + n) := by
              rw [show (20 : Int32) = nI 20 from rfl, nI_mul, nI_add, Nat.mul_comm]
            have ei2 : (20 : Int32) * nI p + nI n = nI (20 * p + n) := by
              rw [show (20 : Int32) = nI 20 from rfl, nI_mul, nI_add]
            have hput : ∀ (W : XO) (k j : Nat) (v : Int32), j < alen k → alen k < 2147483648 → sPut W k 0 (nI j) v = uI W k 0 j v := by
              intro W k j v hj hk
              unfold sPut
              rw [if_neg (nI_nlt0 (by omega)), if_neg (nI_ge hj hk), cl_nI (by omega)]
            obtain ⟨Ωc, hΩc⟩ : ∃ Ωc, Ωc = uI (uI (uI Ω 2008 0 (20 * p + n) (nI o)) 2009 0 (20 * p + n) (nI a)) 2010 0 p (nI (n + 1)) := ⟨_, rfl⟩
            have happ : fX5_append Ω 0 (nI p) (nI o) (nI a) = (nI (n + 1), Ωc) := by
              unfold fX5_append
              rw [hlen, ei, nI_1, hput _ 2008 _ _ (show 20 * p + n < 160 from hq) (by decide), hput _ 2009 _ _ (show 20 * p + n < 160 from hq) (by decide), hput _ 2010 _ _ (show p < 8 from hp) (by decide), hΩc]
            obtain ⟨Ω1, hΩ1⟩ : ∃ Ω1, Ω1 = uL Ωc 2017 0 0 (nI (n + 1)).toInt64 := ⟨_, rfl⟩
            obtain ⟨Ω2, hΩ2⟩ : ∃ Ω2, Ω2 = uI (uI (uI (uI Ω1 1160 0 0 0) 2103 0 (20 * p + n) (nI o)) 2104 0 (20 * p + n) (nI a)) 2105 0 p (nI (n + 1)) := ⟨_, rfl⟩
            have k1 : xI Ω1 2105 0 p = nI n := by
              rw [hΩ1, L_I', hΩc, I_ne (by decide), I_ne (by decide), I_ne (by decide), hst]
            have k2 : xI Ω1 1106 0 0 = 0 := by
              rw [hΩ1, L_I', hΩc, I_ne (by decide), I_ne (by decide), I_ne (by decide), hbm]
            refine ⟨(.inl (some (.int (nI (n + 1)))), Ωc), (0, Ω1), (nI (n + 1), Ω2), ?_, ?_, ?_, ?_, fun _ => ?_, ⟨D, ?_⟩⟩
            · unfold fX10_step wl
              rw [if_pos c1, if_pos c2, if_pos c3', hlen, if_neg hn1, happ]
              rw [show (0 : Int32).toNatClampNeg = 0 from rfl, show ((0 : Int32) + 1).toNatClampNeg = 1 from rfl, t1, t3, if_pos (show nI 0 = 0 from rfl), if_pos (show inB ((0 : Int32) + 1) 2 from inB_nI (k := 1) (by decide) (by decide)), if_pos (show nI 0 = 0 from rfl)]
            · rw [hΩ1]; rfl
            · have m1' : fX11_in Ω1 (nI p) 0 7 = some 1 := by rw [e7']; rw [eIn] at m1 ⊢; exact m1
              have m2' : fX11_in Ω1 (nI o) 0 24 = some 1 := by rw [eIn] at m2 ⊢; exact m2
              have m3' : fX11_in Ω1 (nI a) 0 ((sArr 0).getD o 0) = some 1 := by rw [eIn] at m3 ⊢; exact m3
              unfold fX11_step wl
              rw [ob_s m2']
              simp only [one_n0, if_false, hm, Option.bind_some, m3', m1', if_pos (inB_nI hp (show 8 < 2147483648 by decide)), cl_nI (show p < 2147483648 by omega), k1, if_neg hn2, k2, if_true, eHolds0]
              have k3 : xI (uI Ω1 1160 0 0 0) 2105 0 p = nI n := by rw [I_ne (by decide), k1]
              have k4 : ∀ W v q, xI (uI W 2103 0 q v) 2105 0 p = xI W 2105 0 p := fun W v q => I_ne (by decide)
              have k5 : ∀ W v q, xI (uI W 2104 0 q v) 2105 0 p = xI W 2105 0 p := fun W v q => I_ne (by decide)
              simp only [k3, ei2, if_pos (inB_nI hq (show 160 < 2147483648 by decide)), cl_nI (show 20 * p + n < 2147483648 by omega), k4, k5, nI_1]
              rw [← hΩ2]
              have k6 : xI Ω2 2105 0 p = nI (n + 1) := by rw [hΩ2, I_uI, if_pos ⟨rfl, rfl, rfl⟩]
              rw [k6]
            · rw [hΩ2, I_ne (by decide), I_ne (by decide), I_ne (by decide), thr_t]
            · rw [hΩ2, L_uI, L_uI, L_uI, L_uI, hΩ1, L_uL, if_pos ⟨rfl, rfl, rfl⟩]
            · have hag : ∀ k i j, k ≠ 1160 → k ≠ 2008 → k ≠ 2009 → k ≠ 2010 → k ≠ 2103 → k ≠ 2104 → k ≠ 2105 → xI Ω2 k i j = xI Ω k i j := by
                intro k i j a1 a2 a3 a4 a5 a6 a7
                rw [hΩ2, I_ne a7, I_ne a6, I_ne a5, I_ne a1, hΩ1, L_I', hΩc, I_ne a4, I_ne a3, I_ne a2]
              have hgh : qGH D Ω2 Ω2 := by
                intro c' hc' b' hb' h0
                have h8 : ∀ k i j, k ≠ 1160 ∧ k ≠ 2008 ∧ k ≠ 2009 ∧ k ≠ 2010 ∧ k ≠ 2103 ∧ k ≠ 2104 ∧ k ≠ 2105 → xI Ω2 k i j = xI Ω k i j := fun k i j ⟨a1, a2, a3, a4, a5, a6, a7⟩ => hag k i j a1 a2 a3 a4 a5 a6 a7
                refine (h.GH c' hc' b' hb' h0).mv (Nat.le_refl _) (h8 _ _ _ (by decide)) (h8 _ _ _ (by decide)) (h8 _ _ _ (by decide)) (h8 _ _ _ (by decide)) (fun j => h8 _ _ _ (by decide)) (fun x _ => ⟨h8 _ _ _ (by decide), h8 _ _ _ (by decide)⟩) (fun _ => h8 _ _ _ (by decide)) (fun z => ?_) (fun k q h1 h2 _ => h8 _ _ _ ⟨by omega, by omega, by omega, by omega, by omega, by omega, by omega⟩)
                rcases (show c' = 0 ∨ c' = 1 by omega) with rfl | rfl
                · rw [hbg.1] at z; exact absurd z (by decide)
                · rw [hbg.2] at z; exact absurd z (by decide)
              refine h.bPR (fun k hk hk2 i j => ?_) (fun k hk i j => ?_) ?_ hgh
              · obtain ⟨b1, hk2⟩ := nc_ne hk2
                obtain ⟨b2, hk2⟩ := nc_ne hk2
                obtain ⟨b3, hk2⟩ := nc_ne hk2
                obtain ⟨b4, hk2⟩ := nc_ne hk2
                obtain ⟨b5, hk2⟩ := nc_ne hk2
                obtain ⟨b6, hk2⟩ := nc_ne hk2
                exact hag k i j (scr_ne hk) b1 b2 b3 b4 b5 b6
              · obtain ⟨b1, -⟩ := nc_ne hk
                rw [hΩ2, L_uI, L_uI, L_uI, L_uI, hΩ1, L_uL, if_neg (fun z => b1 z.1), hΩc, L_uI, L_uI, L_uI]
              · have w1 : ∀ j, xI Ω2 2008 0 j = if j = 20 * p + n then nI o else xI Ω 2008 0 j := by
                  intro j
                  rw [hΩ2, I_ne (by decide), I_ne (by decide), I_ne (by decide), I_ne (by decide), hΩ1, L_I', hΩc, I_ne (by decide), I_ne (by decide), I_uI]
                  by_cases q : j = 20 * p + n
                  · rw [if_pos ⟨rfl, rfl, q⟩, if_pos q]
                  · rw [if_neg (fun z => q z.2.2), if_neg q]
                have w2 : ∀ j, xI Ω2 2009 0 j = if j = 20 * p + n then nI a else xI Ω 2009 0 j := by
                  intro j
                  rw [hΩ2, I_ne (by decide), I_ne (by decide), I_ne (by decide), I_ne (by decide), hΩ1, L_I', hΩc, I_ne (by decide), I_uI]
                  by_cases q : j = 20 * p + n
                  · rw [if_pos ⟨rfl, rfl, q⟩, if_pos q]
                  · rw [if_neg (fun z => q z.2.2), if_neg q, I_ne (by decide)]
                have w3 : ∀ j, xI Ω2 2010 0 j = if j = p then nI (n + 1) else xI Ω 2010 0 j := by
                  intro j
                  rw [hΩ2, I_ne (by decide), I_ne (by decide), I_ne (by decide), I_ne (by decide), hΩ1, L_I', hΩc, I_uI]
                  by_cases q : j = p
                  · rw [if_pos ⟨rfl, rfl, q⟩, if_pos q]
                  · rw [if_neg (fun z => q z.2.2), if_neg q, I_ne (by decide), I_ne (by decide)]
                have w4 : ∀ j, xI Ω2 2103 0 j = if j = 20 * p + n then nI o else xI Ω 2103 0 j := by
                  intro j
                  rw [hΩ2, I_ne (by decide), I_ne (by decide), I_uI]
                  by_cases q : j = 20 * p + n
                  · rw [if_pos ⟨rfl, rfl, q⟩, if_pos q]
                  · rw [if_neg (fun z => q z.2.2), if_neg q, I_ne (by decide), hΩ1, L_I', hΩc, I_ne (by decide), I_ne (by decide), I_ne (by decide)]
                have w5 : ∀ j, xI Ω2 2104 0 j = if j = 20 * p + n then nI a else xI Ω 2104 0 j := by
                  intro j
                  rw [hΩ2, I_ne (by decide), I_uI]
                  by_cases q : j = 20 * p + n
                  · rw [if_pos ⟨rfl, rfl, q⟩, if_pos q]
                  · rw [if_neg (fun z => q z.2.2), if_neg q, I_ne (by decide), I_ne (by decide), hΩ1, L_I', hΩc, I_ne (by decide), I_ne (by decide), I_ne (by decide)]
                have w6 : ∀ j, xI Ω2 2105 0 j = if j = p then nI (n + 1) else xI Ω 2105 0 j := by
                  intro j
                  rw [hΩ2, I_uI]
                  by_cases q : j = p
                  · rw [if_pos ⟨rfl, rfl, q⟩, if_pos q]
                  · rw [if_neg (fun z => q z.2.2), if_neg q, I_ne (by decide), I_ne (by decide), I_ne (by decide), hΩ1, L_I', hΩc, I_ne (by decide), I_ne (by decide), I_ne (by decide)]
                refine ⟨fun j hj => ?_, fun p' hp' => ?_⟩
                · rw [w1, w2, w4, w5]
                  by_cases q : j = 20 * p + n
                  · simp only [if_pos q, and_self]
                  · simp only [if_neg q]
                    exact hpr.1 j hj
                · rw [w3, w6]
                  obtain ⟨l1', n', hn', l2', l3'⟩ := hpr.2 p' hp'
                  by_cases q : p' = p
                  · subst q
                    have e9 : ∀ (x y : Int32), (if p' = p' then x else y) = x := fun x y => if_pos rfl
                    simp only [e9]
                    refine ⟨by first | trivial | rfl, n + 1, by omega, rfl, fun j hj => ?_⟩
                    rw [w1, w2]
                    by_cases q2 : j = n
                    · subst q2
                      rw [if_pos rfl, if_pos rfl]
                      exact ⟨o, a, ho, rfl, rfl, ha3⟩
                    · rw [if_neg (by omega), if_neg (by omega)]
                      exact l3 j (by omega)
                  · simp only [if_neg q]
                    refine ⟨l1', n', hn', l2', fun j hj => ?_⟩
                    rw [w1, w2, if_neg (by omega), if_neg (by omega)]
                    exact l3' j hj
          · have hbm : xI Ω 1106 0 0 = 1 := by
              rcases h.BG.2 with z | z
              · exact absurd (h.BG.1.mp z) hbg
              · exact z
            refine ⟨(.inr xIS, Ω), (3, Ω), (-1, uI Ω 1160 0 0 3), ?_, rfl, ?_, thr_t _ _, n30, ⟨D, h.thr _⟩⟩
            · unfold fX10_step wl
              rw [if_pos c1, if_pos c2, if_pos c3', hlen, if_neg hn1]
              rw [show (0 : Int32).toNatClampNeg = 0 from rfl, show ((0 : Int32) + 1).toNatClampNeg = 1 from rfl, t1, t3]
              by_cases z0 : dnt D 0 = 0
              · have z1 : ¬ nI (dnt D 1) = 0 := nI_ne0 (by omega) (by omega)
                rw [z0, if_pos (show nI 0 = 0 from rfl), if_pos (show inB ((0 : Int32) + 1) 2 from inB_nI (k := 1) (by decide) (by decide)), if_neg z1]
                rfl
              · have z1 : ¬ nI (dnt D 0) = 0 := nI_ne0 (by omega) (by omega)
                rw [if_neg z1]
                rfl
            · unfold fX11_step
              rw [ob_s m2]
              simp only [one_n0, if_false, hm, Option.bind_some, m3]
              rw [e7', ob_s m1]
              simp only [one_n0, if_false, if_pos (inB_nI hp (show 8 < 2147483648 by decide)), cl_nI (show p < 2147483648 by omega), hst, if_neg hn2, hbm, Option.bind_some, eHolds3]
      · refine ⟨(.inr xIA, Ω), (2, Ω), (-1, uI Ω 1160 0 0 2), ?_, rfl, ?_, thr_t _ _, n20, ⟨D, h.thr _⟩⟩
        · unfold fX10_step
          rw [if_pos c1, if_pos c2, show eX10_demandRange Ω x3 0 (sTb 0 (nI o)) = some xIA by rw [sTb_nI ho]; exact c3, if_neg (by simp)]
          rfl
        · unfold fX11_step
          rw [ob_s m2]
          simp only [one_n0, if_false, hm, Option.bind_some, m3, if_true]
          rw [e7', ob_s m1]
          simp only [one_n0, if_false, if_true, Option.bind_some, eHolds2]
    · refine ⟨(.inr xIA, Ω), (2, Ω), (-1, uI Ω 1160 0 0 2), ?_, rfl, ?_, thr_t _ _, n20, ⟨D, h.thr _⟩⟩
      · unfold fX10_step
        rw [if_pos c1, c2, if_neg (by simp)]
        rfl
      · unfold fX11_step
        rw [ob_s m2]
        simp only [if_true, Option.bind_some]
        rw [e7', ob_s m1]
        simp only [one_n0, if_false, if_true, Option.bind_some, eHolds2]
  · refine ⟨(.inr xIO, Ω), (1, Ω), (-1, uI Ω 1160 0 0 1), ?_, rfl, ?_, thr_t _ _, n10, ⟨D, h.thr _⟩⟩
    · unfold fX10_step
      rw [show eX10_demandIndex Ω x1 8 = some xIO from cIdx0 (y := nI 8) hj, if_neg (by simp)]
      rfl
    · unfold fX11_step
      rw [ob_s (eIn Ω x2 0 24)]
      by_cases q : (if x2 < 0 then (0 : Int32) else if (24 : Int32) < x2 then 0 else 1) = 0
      · simp only [q, if_true, Option.bind_some]
        rw [e7', ob_s m1]
        simp only [if_true, Option.bind_some, eHolds1, one_n0, if_false]
      · simp only [q, if_false]
        obtain ⟨mv, hmv⟩ : ∃ mv, fX11_most Ω x2 = some mv := ⟨_, rfl⟩
        rw [ob_s hmv]
        rw [ob_s (eIn Ω x3 0 mv)]
        by_cases q2 : (if x3 < 0 then (0 : Int32) else if mv < x3 then 0 else 1) = 0
        · simp only [q2, if_true, Option.bind_some]
          rw [e7', ob_s m1]
          simp only [if_true, Option.bind_some, eHolds1, one_n0, if_false]
        · simp only [q2, if_false, Option.bind_some]
          rw [e7', ob_s m1]
          simp only [if_true, Option.bind_some, eHolds1, one_n0, if_false]

