abbrev dMove (D : XD) (c m : Nat) : XD := (D.1, D.2.1, (fun x => if x = c then m else dfn D x), D.2.2.2)
theorem RGD.bFN {D : XD} {C C' M M' : XO} {c m : Nat} (h : RGD D C M) (ki : ∀ k, cky k = true → ([201] : List Nat).contains k = false → agI k C C') (kl : ∀ k, ckl k = true → ([] : List Nat).contains k = false → agL k C C') (mi : ∀ k, mky k = true → ([2110] : List Nat).contains k = false → agI k M M') (ml : ∀ k, mkl k = true → ([] : List Nat).contains k = false → agL k M M') (hFN : qFN (dMove D c m) C' M') : RGD (dMove D c m) C' M' := ⟨qNB_cg (D := D) (C := C) (M := M) (C' := C') (M' := M') (ki 101 rfl rfl) (mi 2109 rfl rfl) h.NB, qNT_cg (D := D) (C := C) (M := M) (C' := C') (M' := M') (ki 103 rfl rfl) (mi 2108 rfl rfl) h.NT, qUP_cg (D := D) (C := C) (M := M) (C' := C') (M' := M') (ki 104 rfl rfl) (mi 2107 rfl rfl) h.UP, hFN, qNO_cg (D := D) (C := C) (M := M) (C' := C') (M' := M') (ki 0 rfl rfl) h.NO, qB2_cg (D := D) (C := C) (M := M) (C' := C') (M' := M') (ki 2 rfl rfl) (ki 3 rfl rfl) (ki 6 rfl rfl) (ki 8 rfl rfl) (ki 10 rfl rfl) (ki 11 rfl rfl) (ki 12 rfl rfl) (ki 13 rfl rfl) (ki 14 rfl rfl) (mi 2121 rfl rfl) (mi 2122 rfl rfl) (mi 2125 rfl rfl) (mi 2129 rfl rfl) (mi 2130 rfl rfl) (mi 2128 rfl rfl) (mi 2127 rfl rfl) (mi 2126 rfl rfl) (mi 2133 rfl rfl) h.B2, qRW_cg (D := D) (C := C) (M := M) (C' := C') (M' := M') (ki 2000 rfl rfl) (mi 2131 rfl rfl) h.RW, qEV_cg (D := D) (C := C) (M := M) (C' := C') (M' := M') (ki 2001 rfl rfl) (ki 10 rfl rfl) (mi 2132 rfl rfl) h.EV, qST_cg (D := D) (C := C) (M := M) (C' := C') (M' := M') (ki 2011 rfl rfl) (ki 2012 rfl rfl) (ki 2013 rfl rfl) (ki 2014 rfl rfl) (ki 604 rfl rfl) (mi 2100 rfl rfl) h.ST, qPD_cg (D := D) (C := C) (M := M) (C' := C') (M' := M') (kl 605 rfl rfl) (mi 2100 rfl rfl) h.PD, qBS_cg (D := D) (C := C) (M := M) (C' := C') (M' := M') (ki 5 rfl rfl) (mi 2124 rfl rfl) h.BS, qTO_cg (D := D) (C := C) (M := M) (C' := C') (M' := M') (ki 4 rfl rfl) (ml 2123 rfl rfl) h.TO, qPA_cg (D := D) (C := C) (M := M) (C' := C') (M' := M') (mi 2120 rfl rfl) h.PA, qHT_cg (D := D) (C := C) (M := M) (C' := C') (M' := M') (ki 2 rfl rfl) h.HT, qLN_cg (D := D) (C := C) (M := M) (C' := C') (M' := M') (ki 16 rfl rfl) h.LN, qRC_cg (D := D) (C := C) (M := M) (C' := C') (M' := M') (ki 8 rfl rfl) (ki 10 rfl rfl) (ki 6 rfl rfl) (ki 11 rfl rfl) (ki 13 rfl rfl) (ki 14 rfl rfl) (ki 15 rfl rfl) (kl 17 rfl rfl) h.RC, qRE_cg (D := D) (C := C) (M := M) (C' := C') (M' := M') (ki 8 rfl rfl) (ki 2000 rfl rfl) h.RE, qHD_cg (D := D) (C := C) (M := M) (C' := C') (M' := M') (ki 8 rfl rfl) (ki 2000 rfl rfl) (kl 17 rfl rfl) h.HD, qEE_cg (D := D) (C := C) (M := M) (C' := C') (M' := M') (ki 10 rfl rfl) (ki 2001 rfl rfl) h.EE, qTX_cg (D := D) (C := C) (M := M) (C' := C') (M' := M') (ki 701 rfl rfl) (ki 702 rfl rfl) (ki 704 rfl rfl) (ki 706 rfl rfl) (ki 707 rfl rfl) (ki 708 rfl rfl) (mi 2111 rfl rfl) (mi 2112 rfl rfl) (mi 2114 rfl rfl) (mi 2116 rfl rfl) (mi 2117 rfl rfl) (mi 2118 rfl rfl) h.TX, qTB_cg (D := D) (C := C) (M := M) (C' := C') (M' := M') (ki 701 rfl rfl) (ki 702 rfl rfl) (ki 704 rfl rfl) (ki 706 rfl rfl) (ki 707 rfl rfl) (ki 708 rfl rfl) h.TB, qTK_cg (D := D) (C := C) (M := M) (C' := C') (M' := M') (ki 709 rfl rfl) (ki 703 rfl rfl) (ki 705 rfl rfl) (ki 704 rfl rfl) (ki 710 rfl rfl) (ki 711 rfl rfl) (mi 2113 rfl rfl) (mi 2115 rfl rfl) (mi 2114 rfl rfl) h.TK, qLV_cg (D := D) (C := C) (M := M) (C' := C') (M' := M') (ki 712 rfl rfl) (mi 2119 rfl rfl) h.LV, qTN_cg (D := D) (C := C) (M := M) (C' := C') (M' := M') (ki 700 rfl rfl) h.TN, qPR_cg (D := D) (C := C) (M := M) (C' := C') (M' := M') (ki 2008 rfl rfl) (ki 2009 rfl rfl) (ki 2010 rfl rfl) (mi 2103 rfl rfl) (mi 2104 rfl rfl) (mi 2105 rfl rfl) h.PR, qBG_cg (D := D) (C := C) (M := M) (C' := C') (M' := M') (mi 1106 rfl rfl) h.BG, qDR_cg (D := D) (C := C) (M := M) (C' := C') (M' := M') (ki 13 rfl rfl) (ki 14 rfl rfl) h.DR, qVA_cg (D := D) (C := C) (M := M) (C' := C') (M' := M') (ki 801 rfl rfl) (ki 802 rfl rfl) (mi 2138 rfl rfl) (mi 2139 rfl rfl) h.VA, qVO_cg (D := D) (C := C) (M := M) (C' := C') (M' := M') (ki 801 rfl rfl) (ki 802 rfl rfl) (ki 900 rfl rfl) (ki 901 rfl rfl) (ki 902 rfl rfl) (ki 903 rfl rfl) (mi 2135 rfl rfl) (mi 2136 rfl rfl) (mi 2121 rfl rfl) (mi 2137 rfl rfl) h.VO, qJU_cg (D := D) (C := C) (M := M) (C' := C') (M' := M') (ki 15 rfl rfl) (mi 2134 rfl rfl) h.JU, qBL_cg (D := D) (C := C) (M := M) (C' := C') (M' := M') (ki 10 rfl rfl) (ki 2001 rfl rfl) (ki 11 rfl rfl) h.BL, qJL_cg (D := D) (C := C) (M := M) (C' := C') (M' := M') (ki 14 rfl rfl) (ki 15 rfl rfl) h.JL, qSI_cg (D := D) (C := C) (M := M) (C' := C') (M' := M') (mi 2100 rfl rfl) h.SI, qBB_cg (D := D) (C := C) (M := M) (C' := C') (M' := M') (ki 5 rfl rfl) h.BB, qRT_cg (D := D) (C := C) (M := M) (C' := C') (M' := M') (ki 2011 rfl rfl) (ki 2012 rfl rfl) (ki 2013 rfl rfl) (ki 2014 rfl rfl) (ki 12 rfl rfl) h.RT, qF0_cg (D := D) (C := C) (M := M) (C' := C') (M' := M') (ki 8 rfl rfl) (ki 2011 rfl rfl) (ki 2012 rfl rfl) (ki 2013 rfl rfl) (ki 2014 rfl rfl) (ki 604 rfl rfl) (kl 605 rfl rfl) h.F0, qGH_cg (D := D) (C := C) (M := M) (C' := C') (M' := M') (ki 2 rfl rfl) (ki 3 rfl rfl) (ki 5 rfl rfl) (ki 8 rfl rfl) (ki 104 rfl rfl) (ki 2000 rfl rfl) (ki 701 rfl rfl) (ki 702 rfl rfl) (ki 703 rfl rfl) (ki 704 rfl rfl) (ki 705 rfl rfl) (ki 706 rfl rfl) (ki 707 rfl rfl) (ki 708 rfl rfl) (ki 709 rfl rfl) (ki 710 rfl rfl) (ki 711 rfl rfl) (ki 2008 rfl rfl) (ki 2009 rfl rfl) (ki 2010 rfl rfl) (mi 2100 rfl rfl) h.GH⟩
theorem dVote {D : XD} {C M : XO} (h : RGD D C M) {c : Nat} (hc : c < 2) : ∃ C' M' D', fX2_settle C c c = some C' ∧ fX11_justify M (nI c) = some M' ∧ RGD D' C' M' ∧ (∀ f i j, f ≠ 14 → f ≠ 15 → f ≠ 201 → xI C' f i j = xI C f i j) ∧ (∀ f i j, xL C' f i j = xL C f i j) ∧ (∀ f i j, f ≠ 2133 → f ≠ 2134 → f ≠ 2110 → xI M' f i j = xI M f i j) ∧ (∀ f i j, xL M' f i j = xL M f i j) := by
  obtain ⟨a, b, C1, z, M1, p1, p2, h1, p3, p4, p5, p6⟩ := dSettle h hc
  obtain ⟨b1, b2, b3, b4⟩ := h1.NB c hc
  obtain ⟨f1, f2, f3⟩ := h1.FN c hc
  obtain ⟨m, y4, q1, q2, -, q4⟩ := dFin_l h1 hc 25 0 (dfn D c) (-1) rfl (by decide) ⟨f3, Anc_self _ _, Or.inl ⟨rfl, rfl⟩⟩
  have hm := q2.1
  refine ⟨uI C1 201 c 0 (nI m), uI M1 2110 0 c (nI m), dMove D c m, ?_, ?_, ?_, fun f i j x1 x2 x3 => by rw [I_ne x3, p3 f i j x1 x2], fun f i j => by rw [L_uI, p4], fun f i j x1 x2 x3 => by rw [I_ne x3, p5 f i j x1 x2], fun f i j => by rw [L_uI, p6]⟩
  · unfold fX2_settle
    rw [ob_s p1]
    dsimp only
    unfold fX2_moveFinal
    rw [f1, if_neg (nI_nlt0 (by omega)), if_pos (show nI (dfn D c) < nI (alen 2002) from nI_lt (b := 24) (by omega) (by decide)), cl_nI (show dfn D c < 2147483648 by omega)]
    exact congrArg some q1
  · unfold fX11_justify
    have e0 : (4 : Int32) * nI c = nI (4 * c) := by rw [show (4 : Int32) = nI 4 from rfl, nI_mul]
    have e1 : (4 : Int32) * nI c + 1 = nI (4 * c + 1) := by rw [e0, nI_1]
    have e2 : (4 : Int32) * nI c + 2 = nI (4 * c + 2) := by rw [e0, show (2 : Int32) = nI 2 from rfl, nI_add]
    have e3 : (4 : Int32) * nI c + 3 = nI (4 * c + 3) := by rw [e0, show (3 : Int32) = nI 3 from rfl, nI_add]
    rw [e1, e2, e3, e0, if_pos (inB_nI (by omega) (by decide)), if_pos (inB_nI (by omega) (by decide)), if_pos (inB_nI (by omega) (by decide)), if_pos (inB_nI (by omega) (by decide)), cl_nI (by omega), cl_nI (by omega), cl_nI (by omega), cl_nI (by omega), ob_s p2]
    have q5 : fX11_justify_l263 M1 (nI c) ((xI M1 2109 0 (nI c).toNatClampNeg).toNatClampNeg + 1) (0 : Int32) (-1) = some (nI (dnb D c), y4) := by
      rw [cl_nI (show c < 2147483648 by omega), b2, cl_nI (by omega)]
      exact q4 (dnb D c + 1) (Nat.zero_le _) (by rw [Nat.sub_zero])
    dsimp only
    rw [ob_s q5]
    dsimp only
    have e9 : (if 0 ≤ y4 then some y4 else if inB (nI c) 2 then some (xI M1 2110 0 (nI c).toNatClampNeg) else none) = some (nI m) := by
      rcases q2.2.2 with ⟨x1, x2⟩ | x1
      · rw [x1, if_neg (by decide), if_pos (inB_nI hc (by decide)), cl_nI (by omega), f2, x2]
      · rw [x1, if_pos (show (0 : Int32) ≤ nI m from nI_le (a := 0) (b := m) (by omega) (by omega))]
    rw [e9, Option.bind_some, if_pos (inB_nI hc (by decide)), cl_nI (by omega)]
    rfl
  · refine h1.bFN (c := c) (m := m) (fun k _ hk i j => I_ne (nc_ne hk).1) (fun k _ _ i j => by rw [L_uI]) (fun k _ hk i j => I_ne (nc_ne hk).1) (fun k _ _ i j => by rw [L_uI]) (fun c' hc' => ?_)
    have o := h1.FN c' hc'
    have dn : dfn (dMove D c m) c' = if c' = c then m else dfn D c' := rfl
    have dn2 : dnb (dMove D c m) c' = dnb D c' := rfl
    by_cases x : c' = c
    · have w1 : xI (uI C1 201 c 0 (nI m)) 201 c' 0 = nI m := by rw [I_uI, if_pos ⟨rfl, x, rfl⟩]
      have w2 : xI (uI M1 2110 0 c (nI m)) 2110 0 c' = nI m := by rw [I_uI, if_pos ⟨rfl, rfl, x⟩]
      rw [dn, dn2, w1, w2, if_pos x, x]
      exact ⟨rfl, rfl, hm⟩
    · have w1 : xI (uI C1 201 c 0 (nI m)) 201 c' 0 = xI C1 201 c' 0 := by rw [I_uI, if_neg (fun y => x y.2.1)]
      have w2 : xI (uI M1 2110 0 c (nI m)) 2110 0 c' = xI M1 2110 0 c' := by rw [I_uI, if_neg (fun y => x y.2.2)]
      rw [dn, dn2, w1, w2, if_neg x]
      exact o
