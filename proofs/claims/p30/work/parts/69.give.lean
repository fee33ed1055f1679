theorem RGD.bVO {D : XD} {C C' M M' : XO}  (h : RGD D C M) (ki : ∀ k, cky k = true → ([801, 802, 900, 901, 902, 903] : List Nat).contains k = false → agI k C C') (kl : ∀ k, ckl k = true → ([] : List Nat).contains k = false → agL k C C') (mi : ∀ k, mky k = true → ([2135, 2136, 2137, 2138, 2139] : List Nat).contains k = false → agI k M M') (ml : ∀ k, mkl k = true → ([] : List Nat).contains k = false → agL k M M') (hVA : qVA D C' M') (hVO : qVO D C' M') : RGD D C' M' := ⟨qNB_cg (D := D) (C := C) (M := M) (C' := C') (M' := M') (ki 101 rfl rfl) (mi 2109 rfl rfl) h.NB, qNT_cg (D := D) (C := C) (M := M) (C' := C') (M' := M') (ki 103 rfl rfl) (mi 2108 rfl rfl) h.NT, qUP_cg (D := D) (C := C) (M := M) (C' := C') (M' := M') (ki 104 rfl rfl) (mi 2107 rfl rfl) h.UP, qFN_cg (D := D) (C := C) (M := M) (C' := C') (M' := M') (ki 201 rfl rfl) (mi 2110 rfl rfl) h.FN, qNO_cg (D := D) (C := C) (M := M) (C' := C') (M' := M') (ki 0 rfl rfl) h.NO, qB2_cg (D := D) (C := C) (M := M) (C' := C') (M' := M') (ki 2 rfl rfl) (ki 3 rfl rfl) (ki 6 rfl rfl) (ki 8 rfl rfl) (ki 10 rfl rfl) (ki 11 rfl rfl) (ki 12 rfl rfl) (ki 13 rfl rfl) (ki 14 rfl rfl) (mi 2121 rfl rfl) (mi 2122 rfl rfl) (mi 2125 rfl rfl) (mi 2129 rfl rfl) (mi 2130 rfl rfl) (mi 2128 rfl rfl) (mi 2127 rfl rfl) (mi 2126 rfl rfl) (mi 2133 rfl rfl) h.B2, qRW_cg (D := D) (C := C) (M := M) (C' := C') (M' := M') (ki 2000 rfl rfl) (mi 2131 rfl rfl) h.RW, qEV_cg (D := D) (C := C) (M := M) (C' := C') (M' := M') (ki 2001 rfl rfl) (ki 10 rfl rfl) (mi 2132 rfl rfl) h.EV, qST_cg (D := D) (C := C) (M := M) (C' := C') (M' := M') (ki 2011 rfl rfl) (ki 2012 rfl rfl) (ki 2013 rfl rfl) (ki 2014 rfl rfl) (ki 604 rfl rfl) (mi 2100 rfl rfl) h.ST, qPD_cg (D := D) (C := C) (M := M) (C' := C') (M' := M') (kl 605 rfl rfl) (mi 2100 rfl rfl) h.PD, qBS_cg (D := D) (C := C) (M := M) (C' := C') (M' := M') (ki 5 rfl rfl) (mi 2124 rfl rfl) h.BS, qTO_cg (D := D) (C := C) (M := M) (C' := C') (M' := M') (ki 4 rfl rfl) (ml 2123 rfl rfl) h.TO, qPA_cg (D := D) (C := C) (M := M) (C' := C') (M' := M') (mi 2120 rfl rfl) h.PA, qHT_cg (D := D) (C := C) (M := M) (C' := C') (M' := M') (ki 2 rfl rfl) h.HT, qLN_cg (D := D) (C := C) (M := M) (C' := C') (M' := M') (ki 16 rfl rfl) h.LN, qRC_cg (D := D) (C := C) (M := M) (C' := C') (M' := M') (ki 8 rfl rfl) (ki 10 rfl rfl) (ki 6 rfl rfl) (ki 11 rfl rfl) (ki 13 rfl rfl) (ki 14 rfl rfl) (ki 15 rfl rfl) (kl 17 rfl rfl) h.RC, qRE_cg (D := D) (C := C) (M := M) (C' := C') (M' := M') (ki 8 rfl rfl) (ki 2000 rfl rfl) h.RE, qHD_cg (D := D) (C := C) (M := M) (C' := C') (M' := M') (ki 8 rfl rfl) (ki 2000 rfl rfl) (kl 17 rfl rfl) h.HD, qEE_cg (D := D) (C := C) (M := M) (C' := C') (M' := M') (ki 10 rfl rfl) (ki 2001 rfl rfl) h.EE, qTX_cg (D := D) (C := C) (M := M) (C' := C') (M' := M') (ki 701 rfl rfl) (ki 702 rfl rfl) (ki 704 rfl rfl) (ki 706 rfl rfl) (ki 707 rfl rfl) (ki 708 rfl rfl) (mi 2111 rfl rfl) (mi 2112 rfl rfl) (mi 2114 rfl rfl) (mi 2116 rfl rfl) (mi 2117 rfl rfl) (mi 2118 rfl rfl) h.TX, qTB_cg (D := D) (C := C) (M := M) (C' := C') (M' := M') (ki 701 rfl rfl) (ki 702 rfl rfl) (ki 704 rfl rfl) (ki 706 rfl rfl) (ki 707 rfl rfl) (ki 708 rfl rfl) h.TB, qTK_cg (D := D) (C := C) (M := M) (C' := C') (M' := M') (ki 709 rfl rfl) (ki 703 rfl rfl) (ki 705 rfl rfl) (ki 704 rfl rfl) (ki 710 rfl rfl) (ki 711 rfl rfl) (mi 2113 rfl rfl) (mi 2115 rfl rfl) (mi 2114 rfl rfl) h.TK, qLV_cg (D := D) (C := C) (M := M) (C' := C') (M' := M') (ki 712 rfl rfl) (mi 2119 rfl rfl) h.LV, qTN_cg (D := D) (C := C) (M := M) (C' := C') (M' := M') (ki 700 rfl rfl) h.TN, qPR_cg (D := D) (C := C) (M := M) (C' := C') (M' := M') (ki 2008 rfl rfl) (ki 2009 rfl rfl) (ki 2010 rfl rfl) (mi 2103 rfl rfl) (mi 2104 rfl rfl) (mi 2105 rfl rfl) h.PR, qBG_cg (D := D) (C := C) (M := M) (C' := C') (M' := M') (mi 1106 rfl rfl) h.BG, qDR_cg (D := D) (C := C) (M := M) (C' := C') (M' := M') (ki 13 rfl rfl) (ki 14 rfl rfl) h.DR, hVA, hVO, qJU_cg (D := D) (C := C) (M := M) (C' := C') (M' := M') (ki 15 rfl rfl) (mi 2134 rfl rfl) h.JU, qBL_cg (D := D) (C := C) (M := M) (C' := C') (M' := M') (ki 10 rfl rfl) (ki 2001 rfl rfl) (ki 11 rfl rfl) h.BL, qJL_cg (D := D) (C := C) (M := M) (C' := C') (M' := M') (ki 14 rfl rfl) (ki 15 rfl rfl) h.JL, qSI_cg (D := D) (C := C) (M := M) (C' := C') (M' := M') (mi 2100 rfl rfl) h.SI, qBB_cg (D := D) (C := C) (M := M) (C' := C') (M' := M') (ki 5 rfl rfl) h.BB, qRT_cg (D := D) (C := C) (M := M) (C' := C') (M' := M') (ki 2011 rfl rfl) (ki 2012 rfl rfl) (ki 2013 rfl rfl) (ki 2014 rfl rfl) (ki 12 rfl rfl) h.RT, qF0_cg (D := D) (C := C) (M := M) (C' := C') (M' := M') (ki 8 rfl rfl) (ki 2011 rfl rfl) (ki 2012 rfl rfl) (ki 2013 rfl rfl) (ki 2014 rfl rfl) (ki 604 rfl rfl) (kl 605 rfl rfl) h.F0, qGH_cg (D := D) (C := C) (M := M) (C' := C') (M' := M') (ki 2 rfl rfl) (ki 3 rfl rfl) (ki 5 rfl rfl) (ki 8 rfl rfl) (ki 104 rfl rfl) (ki 2000 rfl rfl) (ki 701 rfl rfl) (ki 702 rfl rfl) (ki 703 rfl rfl) (ki 704 rfl rfl) (ki 705 rfl rfl) (ki 706 rfl rfl) (ki 707 rfl rfl) (ki 708 rfl rfl) (ki 709 rfl rfl) (ki 710 rfl rfl) (ki 711 rfl rfl) (ki 2008 rfl rfl) (ki 2009 rfl rfl) (ki 2010 rfl rfl) (mi 2100 rfl rfl) h.GH⟩
/-- a vote given, on both sides -/
theorem dGive {D : XD} {C M : XO} (h : RGD D C M) {c v s t n : Nat} (hc : c < 2) (hv : v < 8) (hvc : v / 4 = c) (hs : s < dnb D c) (ht : t < dnb D c) (hn : xI C 801 v 0 = nI n) (hn2 : n < 20) (h82 : xI C 802 v 0 = 0) (hanc : Anc (dpa D c) t s) (hst : s ≠ t) : ∃ a C' z z2 M2, a ≤ 1 ∧ fX8_give C v (24 * c + s) (24 * c + t) = (if a = 0 then 1 else 0, C') ∧ fX11_vote_l141 M (nI c) (nI s) (nI t) (nI v) (n + 1) 0 0 = some (z, nI a) ∧ fX11_vote_l336 (nI a) (nI c) (nI v) (n + 1 + 1) 0 (uI (uI (uI M 2135 0 (20 * v + n) (nI s)) 2136 0 (20 * v + n) (nI t)) 2138 0 v (nI (n + 1))) = some (z2, M2) ∧ RGD D C' (uI M2 2139 0 v (if a = 0 then xI M2 2139 0 v else 0)) ∧ (∀ f i j, f ≠ 801 → f ≠ 802 → f ≠ 900 → f ≠ 901 → f ≠ 902 → f ≠ 903 → xI C' f i j = xI C f i j) ∧ (∀ f i j, xL C' f i j = xL C f i j) ∧ (∀ f i j, f ≠ 2135 → f ≠ 2136 → f ≠ 2137 → f ≠ 2138 → f ≠ 2139 → xI (uI M2 2139 0 v (if a = 0 then xI M2 2139 0 v else 0)) f i j = xI M f i j) ∧ (∀ f i j, xL (uI M2 2139 0 v (if a = 0 then xI M2 2139 0 v else 0)) f i j = xL M f i j) := by
  have hnb := (h.NB c hc).2.2.2
  obtain ⟨W, hW⟩ : ∃ W, W = fX9_become C (20 * v + n) (24 * c + s) (24 * c + t) := ⟨_, rfl⟩
  have hbs := h.B2 _ (show 24 * c + s < 48 by omega)
  have hbt := h.B2 _ (show 24 * c + t < 48 by omega)
  have hW2 : W = uI (uI (uI (uI C 900 (20 * v + n) 0 (nI s)) 901 (20 * v + n) 0 (nI t)) 902 (20 * v + n) 0 (xI M 2121 0 (24 * c + s))) 903 (20 * v + n) 0 (xI M 2121 0 (24 * c + t)) := by
    rw [hW]
    unfold fX9_become
    have e0 : xI C 0 (24 * c + s) 0 = nI s := by rw [h.NO _ (show 24 * c + s < 48 by omega), show (24 * c + s) % 24 = s by omega]
    have e1 : ∀ w, xI (uI C 900 (20 * v + n) 0 w) 0 (24 * c + t) 0 = nI t := fun w => by rw [I_ne (by decide), h.NO _ (show 24 * c + t < 48 by omega), show (24 * c + t) % 24 = t by omega]
    have e2 : ∀ w w2, xI (uI (uI C 900 (20 * v + n) 0 w) 901 (20 * v + n) 0 w2) 2 (24 * c + s) 0 = xI M 2121 0 (24 * c + s) := fun w w2 => by rw [I_ne (by decide), I_ne (by decide), hbs.1]
    have e3 : ∀ w w2 w3, xI (uI (uI (uI C 900 (20 * v + n) 0 w) 901 (20 * v + n) 0 w2) 902 (20 * v + n) 0 w3) 2 (24 * c + t) 0 = xI M 2121 0 (24 * c + t) := fun w w2 w3 => by rw [I_ne (by decide), I_ne (by decide), I_ne (by decide), hbt.1]
    rw [e0, e1, e2, e3]
  have wo : ∀ f i j, i ≠ 20 * v + n → xI W f i j = xI C f i j := fun f i j hi => by
    have u : ∀ (X : XO) (k : Nat) (w : Int32), xI (uI X k (20 * v + n) 0 w) f i j = xI X f i j := fun X k w => by rw [I_uI, if_neg (fun z => hi z.2.1)]
    rw [hW2, u, u, u, u]
  have wf : ∀ f i j, f ≠ 900 → f ≠ 901 → f ≠ 902 → f ≠ 903 → xI W f i j = xI C f i j := fun f i j a1 a2 a3 a4 => by rw [hW2, I_ne a4, I_ne a3, I_ne a2, I_ne a1]
  have wl' : ∀ f i j, xL W f i j = xL C f i j := fun f i j => by rw [hW2, L_uI, L_uI, L_uI, L_uI]
  have w900 : xI W 900 (20 * v + n) 0 = nI s := by rw [hW2, I_ne (by decide), I_ne (by decide), I_ne (by decide), I_uI, if_pos ⟨rfl, rfl, rfl⟩]
  have w901 : xI W 901 (20 * v + n) 0 = nI t := by rw [hW2, I_ne (by decide), I_ne (by decide), I_uI, if_pos ⟨rfl, rfl, rfl⟩]
  have w902 : xI W 902 (20 * v + n) 0 = xI M 2121 0 (24 * c + s) := by rw [hW2, I_ne (by decide), I_uI, if_pos ⟨rfl, rfl, rfl⟩]
  have w903 : xI W 903 (20 * v + n) 0 = xI M 2121 0 (24 * c + t) := by rw [hW2, I_uI, if_pos ⟨rfl, rfl, rfl⟩]
  obtain ⟨a, W', p1, p2, p3, p4, p5, p6, z, p7⟩ := dGive_l (q := 20 * v + n) (i1 := 24 * c + s) (i2 := 24 * c + t) h hc hv hvc hs ht hn hn2 (n + 1) 0 0 W (by omega) (Nat.zero_le _) (by decide) (by rw [wf _ _ _ (by decide) (by decide) (by decide) (by decide), hn]) (fun p hp => ⟨wo _ _ _ (by omega), wo _ _ _ (by omega), wo _ _ _ (by omega)⟩) w901 w902 w903 (by rw [wf _ _ _ (by decide) (by decide) (by decide) (by decide), h82]; rfl)
  obtain ⟨M1, hM1⟩ : ∃ M1, M1 = uI (uI (uI M 2135 0 (20 * v + n) (nI s)) 2136 0 (20 * v + n) (nI t)) 2138 0 v (nI (n + 1)) := ⟨_, rfl⟩
  obtain ⟨z2, M2, q1, q2, q3, q4⟩ := m336 (y8 := nI a) (y1 := nI c) hv (show n + 1 ≤ 20 by omega) (n + 1 + 1) 0 M1 (by rw [hM1, I_uI, if_pos ⟨rfl, rfl, rfl⟩]) (by omega) (Nat.zero_le _)
  refine ⟨a, uI W' 801 v 0 (nI (n + 1)), z, z2, M2, p1, ?_, p7, by rw [← hM1]; exact q1, ?_, fun f i j a1 a2 a3 a4 a5 a6 => by rw [I_ne a1, p3 f i j a2, wf f i j a3 a4 a5 a6], fun f i j => by rw [L_uI, p5, wl'], fun f i j a1 a2 a3 a4 a5 => by rw [I_ne a5, q2 f i j a3, hM1, I_ne a4, I_ne a2, I_ne a1], fun f i j => by rw [L_uI, q3, hM1, L_uI, L_uI, L_uI]⟩
  · unfold fX8_give
    rw [hn, voteAt_nI C hn2, ← hW]
    have e801 : xI W 801 v 0 = nI n := by rw [wf _ _ _ (by decide) (by decide) (by decide) (by decide), hn]
    have e2 : fX9_become W (20 * v + n) (24 * c + s) (24 * c + t) = fX9_become W (20 * v + n) (24 * c + s) (24 * c + t) := rfl
    have e3 : xI (fX9_become W (fX8_voteAt W v (xI W 801 v 0)) (24 * c + s) (24 * c + t)) 801 v 0 = nI n := by
      unfold fX9_become
      rw [I_ne (by decide), I_ne (by decide), I_ne (by decide), I_ne (by decide), e801]
    rw [e3, cl_nI (by omega)]
    exact p2
  · have cI : ∀ f i j, f ≠ 801 → f ≠ 802 → f ≠ 900 → f ≠ 901 → f ≠ 902 → f ≠ 903 → xI (uI W' 801 v 0 (nI (n + 1))) f i j = xI C f i j := fun f i j a1 a2 a3 a4 a5 a6 => by rw [I_ne a1, p3 f i j a2, wf f i j a3 a4 a5 a6]
    have m1o : ∀ f i j, f ≠ 2135 → f ≠ 2136 → f ≠ 2138 → xI M1 f i j = xI M f i j := fun f i j a1 a2 a3 => by rw [hM1, I_ne a3, I_ne a2, I_ne a1]
    obtain ⟨M3, hM3⟩ : ∃ M3, M3 = uI M2 2139 0 v (if a = 0 then xI M2 2139 0 v else 0) := ⟨_, rfl⟩
    obtain ⟨C', hC'⟩ : ∃ C', C' = uI W' 801 v 0 (nI (n + 1)) := ⟨_, rfl⟩
    rw [← hM3, ← hC']
    rw [← hC'] at cI
    have mI : ∀ f i j, f ≠ 2135 → f ≠ 2136 → f ≠ 2137 → f ≠ 2138 → f ≠ 2139 → xI M3 f i j = xI M f i j := fun f i j a1 a2 a3 a4 a5 => by rw [hM3, I_ne a5, q2 f i j a3, m1o f i j a1 a2 a4]
    have c801 : ∀ v', xI C' 801 v' 0 = if v' = v then nI (n + 1) else xI C 801 v' 0 := fun v' => by
      rw [hC']
      by_cases x : v' = v
      · rw [I_uI, if_pos ⟨rfl, x, rfl⟩, if_pos x]
      · rw [I_uI, if_neg (fun y => x y.2.1), if_neg x, p3 _ _ _ (by decide), wf _ _ _ (by decide) (by decide) (by decide) (by decide)]
    have c802 : ∀ v', xI C' 802 v' 0 = if v' = v then nI a else xI C 802 v' 0 := fun v' => by
      rw [hC', I_ne (by decide)]
      by_cases x : v' = v
      · rw [if_pos x, x, p6]
      · rw [if_neg x, p4 v' x, wf _ _ _ (by decide) (by decide) (by decide) (by decide)]
    have cW : ∀ f i, f ≠ 801 → f ≠ 802 → xI C' f i 0 = xI W f i 0 := fun f i a1 a2 => by rw [hC', I_ne a1, p3 f i 0 a2]
    have m2138 : ∀ j, xI M3 2138 0 j = if j = v then nI (n + 1) else xI M 2138 0 j := fun j => by
      rw [hM3, I_ne (by decide), q2 _ _ _ (by decide), hM1]
      by_cases x : j = v
      · rw [I_uI, if_pos ⟨rfl, rfl, x⟩, if_pos x]
      · rw [I_uI, if_neg (fun y => x y.2.2), if_neg x, I_ne (by decide), I_ne (by decide)]
    have m2139 : ∀ j, xI M3 2139 0 j = if j = v ∧ a ≠ 0 then 0 else xI M 2139 0 j := fun j => by
      have e9 : ∀ j, xI M2 2139 0 j = xI M 2139 0 j := fun j => by rw [q2 _ _ _ (by decide), m1o _ _ _ (by decide) (by decide) (by decide)]
      rw [hM3]
      by_cases x : j = v
      · rw [I_uI, if_pos ⟨rfl, rfl, x⟩]
        by_cases y : a = 0
        · rw [if_pos y, if_neg (fun w => w.2 y), e9, x]
        · rw [if_neg y, if_pos ⟨x, y⟩]
      · rw [I_uI, if_neg (fun y => x y.2.2), if_neg (fun y => x y.1), e9]
    have m35 : ∀ j, xI M3 2135 0 j = if j = 20 * v + n then nI s else xI M 2135 0 j := fun j => by
      rw [hM3, I_ne (by decide), q2 _ _ _ (by decide), hM1, I_ne (by decide), I_ne (by decide)]
      by_cases x : j = 20 * v + n
      · rw [I_uI, if_pos ⟨rfl, rfl, x⟩, if_pos x]
      · rw [I_uI, if_neg (fun y => x y.2.2), if_neg x]
    have m36 : ∀ j, xI M3 2136 0 j = if j = 20 * v + n then nI t else xI M 2136 0 j := fun j => by
      rw [hM3, I_ne (by decide), q2 _ _ _ (by decide), hM1, I_ne (by decide)]
      by_cases x : j = 20 * v + n
      · rw [I_uI, if_pos ⟨rfl, rfl, x⟩, if_pos x]
      · rw [I_uI, if_neg (fun y => x y.2.2), if_neg x, I_ne (by decide)]
    have m37 : ∀ j, xI M3 2137 0 j = if 20 * v + 0 ≤ j ∧ j < 20 * v + (n + 1) then (if nI a = 0 then (1 : Int32) else 0) else xI M 2137 0 j := fun j => by
      rw [hM3, I_ne (by decide), q4, m1o _ _ _ (by decide) (by decide) (by decide)]
    refine h.bVO (fun k _ hk i j => ?_) (fun k _ _ i j => by rw [hC', L_uI, p5, wl']) (fun k _ hk i j => ?_) (fun k _ _ i j => by rw [hM3, L_uI, q3, hM1, L_uI, L_uI, L_uI]) (fun v' hv' => ?_) (fun v' hv' p hp => ?_)
    · obtain ⟨a1, hk⟩ := nc_ne hk
      obtain ⟨a2, hk⟩ := nc_ne hk
      obtain ⟨a3, hk⟩ := nc_ne hk
      obtain ⟨a4, hk⟩ := nc_ne hk
      obtain ⟨a5, hk⟩ := nc_ne hk
      exact cI k i j a1 a2 a3 a4 a5 (nc_ne hk).1
    · obtain ⟨a1, hk⟩ := nc_ne hk
      obtain ⟨a2, hk⟩ := nc_ne hk
      obtain ⟨a3, hk⟩ := nc_ne hk
      obtain ⟨a4, hk⟩ := nc_ne hk
      exact mI k i j a1 a2 a3 a4 (nc_ne hk).1
    · have o := h.VA v' hv'
      rw [c801, c802, m2138, m2139]
      by_cases x : v' = v
      · rw [if_pos x, if_pos x, if_pos x]
        refine ⟨⟨rfl, by rw [ti_nI (by omega)]; omega, by rw [ti_nI (by omega)]; omega⟩, ?_⟩
        rcases (show a = 0 ∨ a = 1 by omega) with y | y
        · rw [if_neg (fun w => w.2 y), y]
          refine Or.inl ⟨rfl, ?_⟩
          rcases o.2 with ⟨-, w⟩ | ⟨w, -⟩
          · exact w
          · rw [x, h82] at w
            exact absurd w.symm one_n0
        · rw [if_pos ⟨x, by omega⟩, y]
          exact Or.inr ⟨rfl, rfl⟩
      · rw [if_neg x, if_neg x, if_neg x, if_neg (fun w => x w.1)]
        exact o
    · rw [c801] at hp
      have hm21 : ∀ j, xI M3 2121 0 j = xI M 2121 0 j := fun j => mI _ _ _ (by decide) (by decide) (by decide) (by decide) (by decide)
      by_cases x : v' = v
      · rw [if_pos x, ti_nI (by omega)] at hp
        subst x
        have e37 : xI M3 2137 0 (20 * v' + p) = if nI a = 0 then (1 : Int32) else 0 := by rw [m37, if_pos (by omega)]
        have g1 : xI C' 802 v' 0 = 0 → xI M3 2137 0 (20 * v' + p) = 1 := fun y => by
          rw [c802, if_pos rfl] at y
          rw [e37, if_pos y]
        have g2 : xI C' 802 v' 0 = 1 → xI M3 2137 0 (20 * v' + p) = 0 := fun y => by
          rw [c802, if_pos rfl] at y
          rw [e37, y, if_neg one_n0]
        by_cases pn : p = n
        · subst pn
          refine ⟨s, t, by rw [hvc]; exact hs, by rw [hvc]; exact ht, ?_, ?_, ?_, ?_, ?_, ?_, g1, g2, by rw [hvc]; exact hanc, hst⟩
          · rw [cW _ _ (by decide) (by decide), w900]
          · rw [m35, if_pos rfl]
          · rw [cW _ _ (by decide) (by decide), w901]
          · rw [m36, if_pos rfl]
          · rw [cW _ _ (by decide) (by decide), w902, hm21, hvc]
          · rw [cW _ _ (by decide) (by decide), w903, hm21, hvc]
        · obtain ⟨s', t', o1, o2, o3, o4, o5, o6, o7, o8, -, -, o11, o12⟩ := h.VO v' hv' p (by rw [hn, ti_nI (by omega)]; omega)
          have hne : 20 * v' + p ≠ 20 * v' + n := by omega
          refine ⟨s', t', o1, o2, ?_, ?_, ?_, ?_, ?_, ?_, g1, g2, o11, o12⟩
          · rw [cW _ _ (by decide) (by decide), wo _ _ _ hne, o3]
          · rw [m35, if_neg hne, o4]
          · rw [cW _ _ (by decide) (by decide), wo _ _ _ hne, o5]
          · rw [m36, if_neg hne, o6]
          · rw [cW _ _ (by decide) (by decide), wo _ _ _ hne, o7, hm21]
          · rw [cW _ _ (by decide) (by decide), wo _ _ _ hne, o8, hm21]
      · rw [if_neg x] at hp
        have hp20 : p < 20 := by
          have := (h.VA v' hv').1.2.2
          omega
        obtain ⟨s', t', o1, o2, o3, o4, o5, o6, o7, o8, o9, o10, o11, o12⟩ := h.VO v' hv' p hp
        have hne : 20 * v' + p ≠ 20 * v + n := by omega
        have e37 : xI M3 2137 0 (20 * v' + p) = xI M 2137 0 (20 * v' + p) := by rw [m37, if_neg (fun y => by omega)]
        refine ⟨s', t', o1, o2, ?_, ?_, ?_, ?_, ?_, ?_, ?_, ?_, o11, o12⟩
        · rw [cW _ _ (by decide) (by decide), wo _ _ _ hne, o3]
        · rw [m35, if_neg hne, o4]
        · rw [cW _ _ (by decide) (by decide), wo _ _ _ hne, o5]
        · rw [m36, if_neg hne, o6]
        · rw [cW _ _ (by decide) (by decide), wo _ _ _ hne, o7, hm21]
        · rw [cW _ _ (by decide) (by decide), wo _ _ _ hne, o8, hm21]
        · rw [c802, if_neg x, e37]
          exact o9
        · rw [c802, if_neg x, e37]
          exact o10
