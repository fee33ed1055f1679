def cky (k : Nat) : Bool := ([0, 2, 3, 4, 5, 6, 8, 10, 11, 12, 13, 14, 15, 16, 101, 103, 104, 201, 604, 700, 701, 702, 703, 704, 705, 706, 707, 708, 709, 710, 711, 712, 801, 802, 900, 901, 902, 903, 2000, 2001, 2008, 2009, 2010, 2011, 2012, 2013, 2014] : List Nat).contains k
def ckl (k : Nat) : Bool := ([17, 605] : List Nat).contains k
def mky (k : Nat) : Bool := ([1106, 2100, 2103, 2104, 2105, 2107, 2108, 2109, 2110, 2111, 2112, 2113, 2114, 2115, 2116, 2117, 2118, 2119, 2120, 2121, 2122, 2124, 2125, 2126, 2127, 2128, 2129, 2130, 2131, 2132, 2133, 2134, 2135, 2136, 2137, 2138, 2139] : List Nat).contains k
def mkl (k : Nat) : Bool := ([2123] : List Nat).contains k
theorem RGD.mv {D : XD} {C C' M M' : XO}  (h : RGD D C M) (ki : ∀ k, cky k = true → ([] : List Nat).contains k = false → agI k C C') (kl : ∀ k, ckl k = true → ([] : List Nat).contains k = false → agL k C C') (mi : ∀ k, mky k = true → ([] : List Nat).contains k = false → agI k M M') (ml : ∀ k, mkl k = true → ([] : List Nat).contains k = false → agL k M M')  : RGD D C' M' := ⟨qNB_cg (D := D) (C := C) (M := M) (C' := C') (M' := M') (ki 101 rfl rfl) (mi 2109 rfl rfl) h.NB, qNT_cg (D := D) (C := C) (M := M) (C' := C') (M' := M') (ki 103 rfl rfl) (mi 2108 rfl rfl) h.NT, qUP_cg (D := D) (C := C) (M := M) (C' := C') (M' := M') (ki 104 rfl rfl) (mi 2107 rfl rfl) h.UP, qFN_cg (D := D) (C := C) (M := M) (C' := C') (M' := M') (ki 201 rfl rfl) (mi 2110 rfl rfl) h.FN, qNO_cg (D := D) (C := C) (M := M) (C' := C') (M' := M') (ki 0 rfl rfl) h.NO, qB2_cg (D := D) (C := C) (M := M) (C' := C') (M' := M') (ki 2 rfl rfl) (ki 3 rfl rfl) (ki 6 rfl rfl) (ki 8 rfl rfl) (ki 10 rfl rfl) (ki 11 rfl rfl) (ki 12 rfl rfl) (ki 13 rfl rfl) (ki 14 rfl rfl) (mi 2121 rfl rfl) (mi 2122 rfl rfl) (mi 2125 rfl rfl) (mi 2129 rfl rfl) (mi 2130 rfl rfl) (mi 2128 rfl rfl) (mi 2127 rfl rfl) (mi 2126 rfl rfl) (mi 2133 rfl rfl) h.B2, qRW_cg (D := D) (C := C) (M := M) (C' := C') (M' := M') (ki 2000 rfl rfl) (mi 2131 rfl rfl) h.RW, qEV_cg (D := D) (C := C) (M := M) (C' := C') (M' := M') (ki 2001 rfl rfl) (ki 10 rfl rfl) (mi 2132 rfl rfl) h.EV, qST_cg (D := D) (C := C) (M := M) (C' := C') (M' := M') (ki 2011 rfl rfl) (ki 2012 rfl rfl) (ki 2013 rfl rfl) (ki 2014 rfl rfl) (ki 604 rfl rfl) (mi 2100 rfl rfl) h.ST, qPD_cg (D := D) (C := C) (M := M) (C' := C') (M' := M') (kl 605 rfl rfl) (mi 2100 rfl rfl) h.PD, qBS_cg (D := D) (C := C) (M := M) (C' := C') (M' := M') (ki 5 rfl rfl) (mi 2124 rfl rfl) h.BS, qTO_cg (D := D) (C := C) (M := M) (C' := C') (M' := M') (ki 4 rfl rfl) (ml 2123 rfl rfl) h.TO, qPA_cg (D := D) (C := C) (M := M) (C' := C') (M' := M') (mi 2120 rfl rfl) h.PA, qHT_cg (D := D) (C := C) (M := M) (C' := C') (M' := M') (ki 2 rfl rfl) h.HT, qLN_cg (D := D) (C := C) (M := M) (C' := C') (M' := M') (ki 16 rfl rfl) h.LN, qRC_cg (D := D) (C := C) (M := M) (C' := C') (M' := M') (ki 8 rfl rfl) (ki 10 rfl rfl) (ki 6 rfl rfl) (ki 11 rfl rfl) (ki 13 rfl rfl) (ki 14 rfl rfl) (ki 15 rfl rfl) (kl 17 rfl rfl) h.RC, qRE_cg (D := D) (C := C) (M := M) (C' := C') (M' := M') (ki 8 rfl rfl) (ki 2000 rfl rfl) h.RE, qHD_cg (D := D) (C := C) (M := M) (C' := C') (M' := M') (ki 8 rfl rfl) (ki 2000 rfl rfl) (kl 17 rfl rfl) h.HD, qEE_cg (D := D) (C := C) (M := M) (C' := C') (M' := M') (ki 10 rfl rfl) (ki 2001 rfl rfl) h.EE, qTX_cg (D := D) (C := C) (M := M) (C' := C') (M' := M') (ki 701 rfl rfl) (ki 702 rfl rfl) (ki 704 rfl rfl) (ki 706 rfl rfl) (ki 707 rfl rfl) (ki 708 rfl rfl) (mi 2111 rfl rfl) (mi 2112 rfl rfl) (mi 2114 rfl rfl) (mi 2116 rfl rfl) (mi 2117 rfl rfl) (mi 2118 rfl rfl) h.TX, qTB_cg (D := D) (C := C) (M := M) (C' := C') (M' := M') (ki 701 rfl rfl) (ki 702 rfl rfl) (ki 704 rfl rfl) (ki 706 rfl rfl) (ki 707 rfl rfl) (ki 708 rfl rfl) h.TB, qTK_cg (D := D) (C := C) (M := M) (C' := C') (M' := M') (ki 709 rfl rfl) (ki 703 rfl rfl) (ki 705 rfl rfl) (ki 704 rfl rfl) (ki 710 rfl rfl) (ki 711 rfl rfl) (mi 2113 rfl rfl) (mi 2115 rfl rfl) (mi 2114 rfl rfl) h.TK, qLV_cg (D := D) (C := C) (M := M) (C' := C') (M' := M') (ki 712 rfl rfl) (mi 2119 rfl rfl) h.LV, qTN_cg (D := D) (C := C) (M := M) (C' := C') (M' := M') (ki 700 rfl rfl) h.TN, qPR_cg (D := D) (C := C) (M := M) (C' := C') (M' := M') (ki 2008 rfl rfl) (ki 2009 rfl rfl) (ki 2010 rfl rfl) (mi 2103 rfl rfl) (mi 2104 rfl rfl) (mi 2105 rfl rfl) h.PR, qBG_cg (D := D) (C := C) (M := M) (C' := C') (M' := M') (mi 1106 rfl rfl) h.BG, qDR_cg (D := D) (C := C) (M := M) (C' := C') (M' := M') (ki 13 rfl rfl) (ki 14 rfl rfl) h.DR, qVA_cg (D := D) (C := C) (M := M) (C' := C') (M' := M') (ki 801 rfl rfl) (ki 802 rfl rfl) (mi 2138 rfl rfl) (mi 2139 rfl rfl) h.VA, qVO_cg (D := D) (C := C) (M := M) (C' := C') (M' := M') (ki 801 rfl rfl) (ki 802 rfl rfl) (ki 900 rfl rfl) (ki 901 rfl rfl) (ki 902 rfl rfl) (ki 903 rfl rfl) (mi 2135 rfl rfl) (mi 2136 rfl rfl) (mi 2121 rfl rfl) (mi 2137 rfl rfl) h.VO, qJU_cg (D := D) (C := C) (M := M) (C' := C') (M' := M') (ki 15 rfl rfl) (mi 2134 rfl rfl) h.JU, qBL_cg (D := D) (C := C) (M := M) (C' := C') (M' := M') (ki 10 rfl rfl) (ki 2001 rfl rfl) (ki 11 rfl rfl) h.BL, qJL_cg (D := D) (C := C) (M := M) (C' := C') (M' := M') (ki 14 rfl rfl) (ki 15 rfl rfl) h.JL, qSI_cg (D := D) (C := C) (M := M) (C' := C') (M' := M') (mi 2100 rfl rfl) h.SI, qBB_cg (D := D) (C := C) (M := M) (C' := C') (M' := M') (ki 5 rfl rfl) h.BB, qRT_cg (D := D) (C := C) (M := M) (C' := C') (M' := M') (ki 2011 rfl rfl) (ki 2012 rfl rfl) (ki 2013 rfl rfl) (ki 2014 rfl rfl) (ki 12 rfl rfl) h.RT, qF0_cg (D := D) (C := C) (M := M) (C' := C') (M' := M') (ki 8 rfl rfl) (ki 2011 rfl rfl) (ki 2012 rfl rfl) (ki 2013 rfl rfl) (ki 2014 rfl rfl) (ki 604 rfl rfl) (kl 605 rfl rfl) h.F0, qGH_cg (D := D) (C := C) (M := M) (C' := C') (M' := M') (ki 2 rfl rfl) (ki 3 rfl rfl) (ki 5 rfl rfl) (ki 8 rfl rfl) (ki 104 rfl rfl) (ki 2000 rfl rfl) (ki 701 rfl rfl) (ki 702 rfl rfl) (ki 703 rfl rfl) (ki 704 rfl rfl) (ki 705 rfl rfl) (ki 706 rfl rfl) (ki 707 rfl rfl) (ki 708 rfl rfl) (ki 709 rfl rfl) (ki 710 rfl rfl) (ki 711 rfl rfl) (ki 2008 rfl rfl) (ki 2009 rfl rfl) (ki 2010 rfl rfl) (mi 2100 rfl rfl) h.GH⟩
theorem RGD.bLV {D : XD} {C C' M M' : XO}  (h : RGD D C M) (ki : ∀ k, cky k = true → ([712] : List Nat).contains k = false → agI k C C') (kl : ∀ k, ckl k = true → ([] : List Nat).contains k = false → agL k C C') (mi : ∀ k, mky k = true → ([2119] : List Nat).contains k = false → agI k M M') (ml : ∀ k, mkl k = true → ([] : List Nat).contains k = false → agL k M M') (hLV : qLV D C' M') : RGD D C' M' := ⟨qNB_cg (D := D) (C := C) (M := M) (C' := C') (M' := M') (ki 101 rfl rfl) (mi 2109 rfl rfl) h.NB, qNT_cg (D := D) (C := C) (M := M) (C' := C') (M' := M') (ki 103 rfl rfl) (mi 2108 rfl rfl) h.NT, qUP_cg (D := D) (C := C) (M := M) (C' := C') (M' := M') (ki 104 rfl rfl) (mi 2107 rfl rfl) h.UP, qFN_cg (D := D) (C := C) (M := M) (C' := C') (M' := M') (ki 201 rfl rfl) (mi 2110 rfl rfl) h.FN, qNO_cg (D := D) (C := C) (M := M) (C' := C') (M' := M') (ki 0 rfl rfl) h.NO, qB2_cg (D := D) (C := C) (M := M) (C' := C') (M' := M') (ki 2 rfl rfl) (ki 3 rfl rfl) (ki 6 rfl rfl) (ki 8 rfl rfl) (ki 10 rfl rfl) (ki 11 rfl rfl) (ki 12 rfl rfl) (ki 13 rfl rfl) (ki 14 rfl rfl) (mi 2121 rfl rfl) (mi 2122 rfl rfl) (mi 2125 rfl rfl) (mi 2129 rfl rfl) (mi 2130 rfl rfl) (mi 2128 rfl rfl) (mi 2127 rfl rfl) (mi 2126 rfl rfl) (mi 2133 rfl rfl) h.B2, qRW_cg (D := D) (C := C) (M := M) (C' := C') (M' := M') (ki 2000 rfl rfl) (mi 2131 rfl rfl) h.RW, qEV_cg (D := D) (C := C) (M := M) (C' := C') (M' := M') (ki 2001 rfl rfl) (ki 10 rfl rfl) (mi 2132 rfl rfl) h.EV, qST_cg (D := D) (C := C) (M := M) (C' := C') (M' := M') (ki 2011 rfl rfl) (ki 2012 rfl rfl) (ki 2013 rfl rfl) (ki 2014 rfl rfl) (ki 604 rfl rfl) (mi 2100 rfl rfl) h.ST, qPD_cg (D := D) (C := C) (M := M) (C' := C') (M' := M') (kl 605 rfl rfl) (mi 2100 rfl rfl) h.PD, qBS_cg (D := D) (C := C) (M := M) (C' := C') (M' := M') (ki 5 rfl rfl) (mi 2124 rfl rfl) h.BS, qTO_cg (D := D) (C := C) (M := M) (C' := C') (M' := M') (ki 4 rfl rfl) (ml 2123 rfl rfl) h.TO, qPA_cg (D := D) (C := C) (M := M) (C' := C') (M' := M') (mi 2120 rfl rfl) h.PA, qHT_cg (D := D) (C := C) (M := M) (C' := C') (M' := M') (ki 2 rfl rfl) h.HT, qLN_cg (D := D) (C := C) (M := M) (C' := C') (M' := M') (ki 16 rfl rfl) h.LN, qRC_cg (D := D) (C := C) (M := M) (C' := C') (M' := M') (ki 8 rfl rfl) (ki 10 rfl rfl) (ki 6 rfl rfl) (ki 11 rfl rfl) (ki 13 rfl rfl) (ki 14 rfl rfl) (ki 15 rfl rfl) (kl 17 rfl rfl) h.RC, qRE_cg (D := D) (C := C) (M := M) (C' := C') (M' := M') (ki 8 rfl rfl) (ki 2000 rfl rfl) h.RE, qHD_cg (D := D) (C := C) (M := M) (C' := C') (M' := M') (ki 8 rfl rfl) (ki 2000 rfl rfl) (kl 17 rfl rfl) h.HD, qEE_cg (D := D) (C := C) (M := M) (C' := C') (M' := M') (ki 10 rfl rfl) (ki 2001 rfl rfl) h.EE, qTX_cg (D := D) (C := C) (M := M) (C' := C') (M' := M') (ki 701 rfl rfl) (ki 702 rfl rfl) (ki 704 rfl rfl) (ki 706 rfl rfl) (ki 707 rfl rfl) (ki 708 rfl rfl) (mi 2111 rfl rfl) (mi 2112 rfl rfl) (mi 2114 rfl rfl) (mi 2116 rfl rfl) (mi 2117 rfl rfl) (mi 2118 rfl rfl) h.TX, qTB_cg (D := D) (C := C) (M := M) (C' := C') (M' := M') (ki 701 rfl rfl) (ki 702 rfl rfl) (ki 704 rfl rfl) (ki 706 rfl rfl) (ki 707 rfl rfl) (ki 708 rfl rfl) h.TB, qTK_cg (D := D) (C := C) (M := M) (C' := C') (M' := M') (ki 709 rfl rfl) (ki 703 rfl rfl) (ki 705 rfl rfl) (ki 704 rfl rfl) (ki 710 rfl rfl) (ki 711 rfl rfl) (mi 2113 rfl rfl) (mi 2115 rfl rfl) (mi 2114 rfl rfl) h.TK, hLV, qTN_cg (D := D) (C := C) (M := M) (C' := C') (M' := M') (ki 700 rfl rfl) h.TN, qPR_cg (D := D) (C := C) (M := M) (C' := C') (M' := M') (ki 2008 rfl rfl) (ki 2009 rfl rfl) (ki 2010 rfl rfl) (mi 2103 rfl rfl) (mi 2104 rfl rfl) (mi 2105 rfl rfl) h.PR, qBG_cg (D := D) (C := C) (M := M) (C' := C') (M' := M') (mi 1106 rfl rfl) h.BG, qDR_cg (D := D) (C := C) (M := M) (C' := C') (M' := M') (ki 13 rfl rfl) (ki 14 rfl rfl) h.DR, qVA_cg (D := D) (C := C) (M := M) (C' := C') (M' := M') (ki 801 rfl rfl) (ki 802 rfl rfl) (mi 2138 rfl rfl) (mi 2139 rfl rfl) h.VA, qVO_cg (D := D) (C := C) (M := M) (C' := C') (M' := M') (ki 801 rfl rfl) (ki 802 rfl rfl) (ki 900 rfl rfl) (ki 901 rfl rfl) (ki 902 rfl rfl) (ki 903 rfl rfl) (mi 2135 rfl rfl) (mi 2136 rfl rfl) (mi 2121 rfl rfl) (mi 2137 rfl rfl) h.VO, qJU_cg (D := D) (C := C) (M := M) (C' := C') (M' := M') (ki 15 rfl rfl) (mi 2134 rfl rfl) h.JU, qBL_cg (D := D) (C := C) (M := M) (C' := C') (M' := M') (ki 10 rfl rfl) (ki 2001 rfl rfl) (ki 11 rfl rfl) h.BL, qJL_cg (D := D) (C := C) (M := M) (C' := C') (M' := M') (ki 14 rfl rfl) (ki 15 rfl rfl) h.JL, qSI_cg (D := D) (C := C) (M := M) (C' := C') (M' := M') (mi 2100 rfl rfl) h.SI, qBB_cg (D := D) (C := C) (M := M) (C' := C') (M' := M') (ki 5 rfl rfl) h.BB, qRT_cg (D := D) (C := C) (M := M) (C' := C') (M' := M') (ki 2011 rfl rfl) (ki 2012 rfl rfl) (ki 2013 rfl rfl) (ki 2014 rfl rfl) (ki 12 rfl rfl) h.RT, qF0_cg (D := D) (C := C) (M := M) (C' := C') (M' := M') (ki 8 rfl rfl) (ki 2011 rfl rfl) (ki 2012 rfl rfl) (ki 2013 rfl rfl) (ki 2014 rfl rfl) (ki 604 rfl rfl) (kl 605 rfl rfl) h.F0, qGH_cg (D := D) (C := C) (M := M) (C' := C') (M' := M') (ki 2 rfl rfl) (ki 3 rfl rfl) (ki 5 rfl rfl) (ki 8 rfl rfl) (ki 104 rfl rfl) (ki 2000 rfl rfl) (ki 701 rfl rfl) (ki 702 rfl rfl) (ki 703 rfl rfl) (ki 704 rfl rfl) (ki 705 rfl rfl) (ki 706 rfl rfl) (ki 707 rfl rfl) (ki 708 rfl rfl) (ki 709 rfl rfl) (ki 710 rfl rfl) (ki 711 rfl rfl) (ki 2008 rfl rfl) (ki 2009 rfl rfl) (ki 2010 rfl rfl) (mi 2100 rfl rfl) h.GH⟩
theorem RGD.bDR {D : XD} {C C' M M' : XO}  (h : RGD D C M) (ki : ∀ k, cky k = true → ([701, 702, 703, 704, 705, 706, 707, 708, 709, 710, 711] : List Nat).contains k = false → agI k C C') (kl : ∀ k, ckl k = true → ([] : List Nat).contains k = false → agL k C C') (mi : ∀ k, mky k = true → ([] : List Nat).contains k = false → agI k M M') (ml : ∀ k, mkl k = true → ([] : List Nat).contains k = false → agL k M M') (hTX : qTX D C' M') (hTB : qTB D C' M') (hTK : qTK D C' M') (hGH : qGH D C' M') : RGD D C' M' := ⟨qNB_cg (D := D) (C := C) (M := M) (C' := C') (M' := M') (ki 101 rfl rfl) (mi 2109 rfl rfl) h.NB, qNT_cg (D := D) (C := C) (M := M) (C' := C') (M' := M') (ki 103 rfl rfl) (mi 2108 rfl rfl) h.NT, qUP_cg (D := D) (C := C) (M := M) (C' := C') (M' := M') (ki 104 rfl rfl) (mi 2107 rfl rfl) h.UP, qFN_cg (D := D) (C := C) (M := M) (C' := C') (M' := M') (ki 201 rfl rfl) (mi 2110 rfl rfl) h.FN, qNO_cg (D := D) (C := C) (M := M) (C' := C') (M' := M') (ki 0 rfl rfl) h.NO, qB2_cg (D := D) (C := C) (M := M) (C' := C') (M' := M') (ki 2 rfl rfl) (ki 3 rfl rfl) (ki 6 rfl rfl) (ki 8 rfl rfl) (ki 10 rfl rfl) (ki 11 rfl rfl) (ki 12 rfl rfl) (ki 13 rfl rfl) (ki 14 rfl rfl) (mi 2121 rfl rfl) (mi 2122 rfl rfl) (mi 2125 rfl rfl) (mi 2129 rfl rfl) (mi 2130 rfl rfl) (mi 2128 rfl rfl) (mi 2127 rfl rfl) (mi 2126 rfl rfl) (mi 2133 rfl rfl) h.B2, qRW_cg (D := D) (C := C) (M := M) (C' := C') (M' := M') (ki 2000 rfl rfl) (mi 2131 rfl rfl) h.RW, qEV_cg (D := D) (C := C) (M := M) (C' := C') (M' := M') (ki 2001 rfl rfl) (ki 10 rfl rfl) (mi 2132 rfl rfl) h.EV, qST_cg (D := D) (C := C) (M := M) (C' := C') (M' := M') (ki 2011 rfl rfl) (ki 2012 rfl rfl) (ki 2013 rfl rfl) (ki 2014 rfl rfl) (ki 604 rfl rfl) (mi 2100 rfl rfl) h.ST, qPD_cg (D := D) (C := C) (M := M) (C' := C') (M' := M') (kl 605 rfl rfl) (mi 2100 rfl rfl) h.PD, qBS_cg (D := D) (C := C) (M := M) (C' := C') (M' := M') (ki 5 rfl rfl) (mi 2124 rfl rfl) h.BS, qTO_cg (D := D) (C := C) (M := M) (C' := C') (M' := M') (ki 4 rfl rfl) (ml 2123 rfl rfl) h.TO, qPA_cg (D := D) (C := C) (M := M) (C' := C') (M' := M') (mi 2120 rfl rfl) h.PA, qHT_cg (D := D) (C := C) (M := M) (C' := C') (M' := M') (ki 2 rfl rfl) h.HT, qLN_cg (D := D) (C := C) (M := M) (C' := C') (M' := M') (ki 16 rfl rfl) h.LN, qRC_cg (D := D) (C := C) (M := M) (C' := C') (M' := M') (ki 8 rfl rfl) (ki 10 rfl rfl) (ki 6 rfl rfl) (ki 11 rfl rfl) (ki 13 rfl rfl) (ki 14 rfl rfl) (ki 15 rfl rfl) (kl 17 rfl rfl) h.RC, qRE_cg (D := D) (C := C) (M := M) (C' := C') (M' := M') (ki 8 rfl rfl) (ki 2000 rfl rfl) h.RE, qHD_cg (D := D) (C := C) (M := M) (C' := C') (M' := M') (ki 8 rfl rfl) (ki 2000 rfl rfl) (kl 17 rfl rfl) h.HD, qEE_cg (D := D) (C := C) (M := M) (C' := C') (M' := M') (ki 10 rfl rfl) (ki 2001 rfl rfl) h.EE, hTX, hTB, hTK, qLV_cg (D := D) (C := C) (M := M) (C' := C') (M' := M') (ki 712 rfl rfl) (mi 2119 rfl rfl) h.LV, qTN_cg (D := D) (C := C) (M := M) (C' := C') (M' := M') (ki 700 rfl rfl) h.TN, qPR_cg (D := D) (C := C) (M := M) (C' := C') (M' := M') (ki 2008 rfl rfl) (ki 2009 rfl rfl) (ki 2010 rfl rfl) (mi 2103 rfl rfl) (mi 2104 rfl rfl) (mi 2105 rfl rfl) h.PR, qBG_cg (D := D) (C := C) (M := M) (C' := C') (M' := M') (mi 1106 rfl rfl) h.BG, qDR_cg (D := D) (C := C) (M := M) (C' := C') (M' := M') (ki 13 rfl rfl) (ki 14 rfl rfl) h.DR, qVA_cg (D := D) (C := C) (M := M) (C' := C') (M' := M') (ki 801 rfl rfl) (ki 802 rfl rfl) (mi 2138 rfl rfl) (mi 2139 rfl rfl) h.VA, qVO_cg (D := D) (C := C) (M := M) (C' := C') (M' := M') (ki 801 rfl rfl) (ki 802 rfl rfl) (ki 900 rfl rfl) (ki 901 rfl rfl) (ki 902 rfl rfl) (ki 903 rfl rfl) (mi 2135 rfl rfl) (mi 2136 rfl rfl) (mi 2121 rfl rfl) (mi 2137 rfl rfl) h.VO, qJU_cg (D := D) (C := C) (M := M) (C' := C') (M' := M') (ki 15 rfl rfl) (mi 2134 rfl rfl) h.JU, qBL_cg (D := D) (C := C) (M := M) (C' := C') (M' := M') (ki 10 rfl rfl) (ki 2001 rfl rfl) (ki 11 rfl rfl) h.BL, qJL_cg (D := D) (C := C) (M := M) (C' := C') (M' := M') (ki 14 rfl rfl) (ki 15 rfl rfl) h.JL, qSI_cg (D := D) (C := C) (M := M) (C' := C') (M' := M') (mi 2100 rfl rfl) h.SI, qBB_cg (D := D) (C := C) (M := M) (C' := C') (M' := M') (ki 5 rfl rfl) h.BB, qRT_cg (D := D) (C := C) (M := M) (C' := C') (M' := M') (ki 2011 rfl rfl) (ki 2012 rfl rfl) (ki 2013 rfl rfl) (ki 2014 rfl rfl) (ki 12 rfl rfl) h.RT, qF0_cg (D := D) (C := C) (M := M) (C' := C') (M' := M') (ki 8 rfl rfl) (ki 2011 rfl rfl) (ki 2012 rfl rfl) (ki 2013 rfl rfl) (ki 2014 rfl rfl) (ki 604 rfl rfl) (kl 605 rfl rfl) h.F0, hGH⟩
abbrev dPlus (D : XD) (c : Nat) : XD := (D.1, (fun x => if x = c then dnt D x + 1 else dnt D x), D.2.2.1, D.2.2.2)
theorem RGD.bNT {D : XD} {C C' M M' : XO} {c : Nat} (h : RGD D C M) (ki : ∀ k, cky k = true → ([712, 103] : List Nat).contains k = false → agI k C C') (kl : ∀ k, ckl k = true → ([] : List Nat).contains k = false → agL k C C') (mi : ∀ k, mky k = true → ([2111, 2112, 2113, 2114, 2115, 2116, 2117, 2118, 1106, 2108] : List Nat).contains k = false → agI k M M') (ml : ∀ k, mkl k = true → ([] : List Nat).contains k = false → agL k M M') (hNT : qNT (dPlus D c) C' M') (hRE : qRE (dPlus D c) C' M') (hTX : qTX (dPlus D c) C' M') (hTB : qTB (dPlus D c) C' M') (hTK : qTK (dPlus D c) C' M') (hLV : qLV (dPlus D c) C' M') (hBG : qBG (dPlus D c) C' M') (hGH : qGH (dPlus D c) C' M') : RGD (dPlus D c) C' M' := ⟨qNB_cg (D := D) (C := C) (M := M) (C' := C') (M' := M') (ki 101 rfl rfl) (mi 2109 rfl rfl) h.NB, hNT, qUP_cg (D := D) (C := C) (M := M) (C' := C') (M' := M') (ki 104 rfl rfl) (mi 2107 rfl rfl) h.UP, qFN_cg (D := D) (C := C) (M := M) (C' := C') (M' := M') (ki 201 rfl rfl) (mi 2110 rfl rfl) h.FN, qNO_cg (D := D) (C := C) (M := M) (C' := C') (M' := M') (ki 0 rfl rfl) h.NO, qB2_cg (D := D) (C := C) (M := M) (C' := C') (M' := M') (ki 2 rfl rfl) (ki 3 rfl rfl) (ki 6 rfl rfl) (ki 8 rfl rfl) (ki 10 rfl rfl) (ki 11 rfl rfl) (ki 12 rfl rfl) (ki 13 rfl rfl) (ki 14 rfl rfl) (mi 2121 rfl rfl) (mi 2122 rfl rfl) (mi 2125 rfl rfl) (mi 2129 rfl rfl) (mi 2130 rfl rfl) (mi 2128 rfl rfl) (mi 2127 rfl rfl) (mi 2126 rfl rfl) (mi 2133 rfl rfl) h.B2, qRW_cg (D := D) (C := C) (M := M) (C' := C') (M' := M') (ki 2000 rfl rfl) (mi 2131 rfl rfl) h.RW, qEV_cg (D := D) (C := C) (M := M) (C' := C') (M' := M') (ki 2001 rfl rfl) (ki 10 rfl rfl) (mi 2132 rfl rfl) h.EV, qST_cg (D := D) (C := C) (M := M) (C' := C') (M' := M') (ki 2011 rfl rfl) (ki 2012 rfl rfl) (ki 2013 rfl rfl) (ki 2014 rfl rfl) (ki 604 rfl rfl) (mi 2100 rfl rfl) h.ST, qPD_cg (D := D) (C := C) (M := M) (C' := C') (M' := M') (kl 605 rfl rfl) (mi 2100 rfl rfl) h.PD, qBS_cg (D := D) (C := C) (M := M) (C' := C') (M' := M') (ki 5 rfl rfl) (mi 2124 rfl rfl) h.BS, qTO_cg (D := D) (C := C) (M := M) (C' := C') (M' := M') (ki 4 rfl rfl) (ml 2123 rfl rfl) h.TO, qPA_cg (D := D) (C := C) (M := M) (C' := C') (M' := M') (mi 2120 rfl rfl) h.PA, qHT_cg (D := D) (C := C) (M := M) (C' := C') (M' := M') (ki 2 rfl rfl) h.HT, qLN_cg (D := D) (C := C) (M := M) (C' := C') (M' := M') (ki 16 rfl rfl) h.LN, qRC_cg (D := D) (C := C) (M := M) (C' := C') (M' := M') (ki 8 rfl rfl) (ki 10 rfl rfl) (ki 6 rfl rfl) (ki 11 rfl rfl) (ki 13 rfl rfl) (ki 14 rfl rfl) (ki 15 rfl rfl) (kl 17 rfl rfl) h.RC, hRE, qHD_cg (D := D) (C := C) (M := M) (C' := C') (M' := M') (ki 8 rfl rfl) (ki 2000 rfl rfl) (kl 17 rfl rfl) h.HD, qEE_cg (D := D) (C := C) (M := M) (C' := C') (M' := M') (ki 10 rfl rfl) (ki 2001 rfl rfl) h.EE, hTX, hTB, hTK, hLV, qTN_cg (D := D) (C := C) (M := M) (C' := C') (M' := M') (ki 700 rfl rfl) h.TN, qPR_cg (D := D) (C := C) (M := M) (C' := C') (M' := M') (ki 2008 rfl rfl) (ki 2009 rfl rfl) (ki 2010 rfl rfl) (mi 2103 rfl rfl) (mi 2104 rfl rfl) (mi 2105 rfl rfl) h.PR, hBG, qDR_cg (D := D) (C := C) (M := M) (C' := C') (M' := M') (ki 13 rfl rfl) (ki 14 rfl rfl) h.DR, qVA_cg (D := D) (C := C) (M := M) (C' := C') (M' := M') (ki 801 rfl rfl) (ki 802 rfl rfl) (mi 2138 rfl rfl) (mi 2139 rfl rfl) h.VA, qVO_cg (D := D) (C := C) (M := M) (C' := C') (M' := M') (ki 801 rfl rfl) (ki 802 rfl rfl) (ki 900 rfl rfl) (ki 901 rfl rfl) (ki 902 rfl rfl) (ki 903 rfl rfl) (mi 2135 rfl rfl) (mi 2136 rfl rfl) (mi 2121 rfl rfl) (mi 2137 rfl rfl) h.VO, qJU_cg (D := D) (C := C) (M := M) (C' := C') (M' := M') (ki 15 rfl rfl) (mi 2134 rfl rfl) h.JU, qBL_cg (D := D) (C := C) (M := M) (C' := C') (M' := M') (ki 10 rfl rfl) (ki 2001 rfl rfl) (ki 11 rfl rfl) h.BL, qJL_cg (D := D) (C := C) (M := M) (C' := C') (M' := M') (ki 14 rfl rfl) (ki 15 rfl rfl) h.JL, qSI_cg (D := D) (C := C) (M := M) (C' := C') (M' := M') (mi 2100 rfl rfl) h.SI, qBB_cg (D := D) (C := C) (M := M) (C' := C') (M' := M') (ki 5 rfl rfl) h.BB, qRT_cg (D := D) (C := C) (M := M) (C' := C') (M' := M') (ki 2011 rfl rfl) (ki 2012 rfl rfl) (ki 2013 rfl rfl) (ki 2014 rfl rfl) (ki 12 rfl rfl) h.RT, qF0_cg (D := D) (C := C) (M := M) (C' := C') (M' := M') (ki 8 rfl rfl) (ki 2011 rfl rfl) (ki 2012 rfl rfl) (ki 2013 rfl rfl) (ki 2014 rfl rfl) (ki 604 rfl rfl) (kl 605 rfl rfl) h.F0, hGH⟩
theorem I_same (M : XO) (k q : Nat) (f i j : Nat) : xI (uI M k 0 q (xI M k 0 q)) f i j = xI M f i j := by
  rw [I_uI]
  by_cases z : f = k ∧ i = 0 ∧ j = q
  · rw [if_pos z, z.1, z.2.1, z.2.2]
  · rw [if_neg z]
theorem RGD_same {D : XD} {C M : XO} (h : RGD D C M) (k q : Nat) : RGD D C (uI M k 0 q (xI M k 0 q)) := h.mv (fun _ _ _ _ _ => rfl) (fun _ _ _ _ _ => rfl) (fun f _ _ i j => I_same M k q f i j) (fun f _ _ i j => by rw [L_uI])
theorem idx_ne {c c' t n : Nat} (hc : c < 2) (hc' : c' < 2) (ht : t < 40) (hn : n < 40) (h : ¬ (c' = c ∧ t = n)) : 40 * c' + t ≠ 40 * c + n := by omega
/-- one transaction leaves the pool, on both sides -/
theorem RGD_out {D : XD} {C M : XO} (h : RGD D C M) {c t : Nat} (hc : c < 2) (ht : t < dnt D c) : RGD D (uI C 712 (40 * c + t) 0 0) (uI M 2119 0 (40 * c + t) 1) := by
  have hnt := (h.NT c hc).2.2
  refine h.bLV (fun k _ hk i j => by rw [I_ne (nc_ne hk).1]) (fun k _ _ i j => by rw [L_uI]) (fun k _ hk i j => by rw [I_ne (nc_ne hk).1]) (fun k _ _ i j => by rw [L_uI]) (fun c' hc' => ⟨fun t' ht' => ?_, fun t' h1 h2 => ?_⟩)
  · have hnt' := (h.NT c' hc').2.2
    by_cases q : c' = c ∧ t' = t
    · rw [q.1, q.2, I_uI, if_pos ⟨rfl, rfl, rfl⟩, I_uI, if_pos ⟨rfl, rfl, rfl⟩]
      exact Or.inr ⟨rfl, rfl⟩
    · have e := idx_ne hc hc' (show t' < 40 by omega) (show t < 40 by omega) q
      rw [I_uI, if_neg (fun z => e z.2.1), I_uI, if_neg (fun z => e z.2.2)]
      exact (h.LV c' hc').1 t' ht'
  · have e := idx_ne hc hc' h2 (show t < 40 by omega) (fun z => by rw [z.1] at h1; omega)
    rw [I_uI, if_neg (fun z => e z.2.1), I_uI, if_neg (fun z => e z.2.2)]
    exact (h.LV c' hc').2 t' h1 h2
theorem wait01 (C : XO) (i g : Nat) : fX7_waitsBehind C i g = 0 ∨ fX7_waitsBehind C i g = 1 := by
  unfold fX7_waitsBehind
  split
  · exact Or.inl rfl
  · split
    · exact Or.inr rfl
    · exact Or.inl rfl
theorem riv_iff (C : XO) (i d : Nat) : (fX7_rivals C i d = 1 ∧ xI C 701 i 0 = xI C 701 d 0 ∧ xI C 702 i 0 = xI C 702 d 0) ∨ (fX7_rivals C i d = 0 ∧ ¬ (xI C 701 i 0 = xI C 701 d 0 ∧ xI C 702 i 0 = xI C 702 d 0)) := by
  unfold fX7_rivals
  by_cases q1 : xI C 701 i 0 = xI C 701 d 0
  · by_cases q2 : xI C 702 i 0 = xI C 702 d 0
    · rw [if_pos q1, if_pos q2]
      exact Or.inl ⟨rfl, q1, q2⟩
    · rw [if_pos q1, if_neg q2]
      exact Or.inr ⟨rfl, fun z => q2 z.2⟩
  · rw [if_neg q1]
    exact Or.inr ⟨rfl, fun z => q1 z.1⟩
/-- rivals leave, on both sides -/
theorem dDrop_l {D : XD} {c m d : Nat} {x4 x5 x6 x7 x8 x9 : Int32} (hc : c < 2) (hm : m < dnb D c) : ∀ (n k : Nat) (C M : XO), RGD D C M → n = 41 - k → k ≤ 40 → ∃ C', fX1_dropRivals_l c d (24 * c + m) n k C = C' ∧ (∀ f i j, f ≠ 712 → xI C' f i j = xI C f i j) ∧ (∀ f i j, xL C' f i j = xL C f i j) ∧ ((∀ t, k ≤ t → t < 40 → fX7_waitsBehind C (40 * c + t) (24 * c + m) = 1 → fX7_rivals C (40 * c + t) d = 0) → C' = C) ∧ (dnt D c ≤ k → C' = C) ∧ ∀ n2, k ≤ dnt D c → n2 = dnt D c - k + 1 → ∃ z M', fX11_enter_l197 (nI m) (nI c) (xI C 701 d 0) (xI C 702 d 0) x4 x5 x6 x7 x8 x9 n2 (nI k) M = some (z, M') ∧ RGD D C' M' ∧ (∀ f i j, f ≠ 2119 → xI M' f i j = xI M f i j) ∧ (∀ f i j, xL M' f i j = xL M f i j)
  | 0, k, C, M, h, hn, hk => absurd hn (by omega)
  | n + 1, k, C, M, h, hn, hk => by
    obtain ⟨b1, b2, b3⟩ := h.NT c hc
    have hend : dnt D c = k → ∀ n2, k ≤ dnt D c → n2 = dnt D c - k + 1 → ∃ z M', fX11_enter_l197 (nI m) (nI c) (xI C 701 d 0) (xI C 702 d 0) x4 x5 x6 x7 x8 x9 n2 (nI k) M = some (z, M') ∧ RGD D C M' ∧ (∀ f i j, f ≠ 2119 → xI M' f i j = xI M f i j) ∧ (∀ f i j, xL M' f i j = xL M f i j) := by
      intro e n2 z1 z2
      refine ⟨nI k, M, ?_, h, fun _ _ _ _ => rfl, fun _ _ _ => rfl⟩
      rw [z2, fX11_enter_l197, if_pos (inB_nI hc (by decide)), cl_nI (by omega), b2, e, if_pos (Int32.le_refl _)]
    by_cases hk40 : k = 40
    · subst hk40
      refine ⟨C, ?_, fun _ _ _ _ => rfl, fun _ _ _ => rfl, fun _ => rfl, fun _ => rfl, fun n2 z1 z2 => hend (by omega) n2 z1 z2⟩
      rw [fX1_dropRivals_l, if_pos (show nI (alen 2003) ≤ nI 40 by decide)]
    · have hk2 : k < 40 := by omega
      have hcl : fX1_dropRivals_l c d (24 * c + m) (n + 1) k C = if fX7_waitsBehind C (40 * c + k) (24 * c + m) = 0 then fX1_dropRivals_l c d (24 * c + m) n (k + 1) C else if fX7_rivals C (40 * c + k) d = 0 then fX1_dropRivals_l c d (24 * c + m) n (k + 1) C else fX1_dropRivals_l c d (24 * c + m) n (k + 1) (uI C 712 (40 * c + k) 0 0) := by
        rw [fX1_dropRivals_l, if_neg (show ¬ nI (alen 2003) ≤ nI k from nI_ge (b := 40) hk2 (by decide)), cl_nI (by omega)]
      by_cases hkn : k < dnt D c
      · obtain ⟨g1, g2, g3⟩ := inB_40c hc hk2
        obtain ⟨t1, t2, -⟩ := h.TX c hc k hkn
        have hpo : ∃ r, fX11_pooled M (nI c) (nI k) (nI m) = some r ∧ r = fX7_waitsBehind C (40 * c + k) (24 * c + m) := by
          rcases dPooled h hc hm hkn with ⟨p1, p2⟩ | ⟨p1, p2⟩
          · exact ⟨1, p1, p2.symm⟩
          · exact ⟨0, p1, p2.symm⟩
        obtain ⟨r, hr, hr2⟩ := hpo
        have hmo : ∀ n2, fX11_enter_l197 (nI m) (nI c) (xI C 701 d 0) (xI C 702 d 0) x4 x5 x6 x7 x8 x9 (n2 + 1) (nI k) M = fX11_enter_l197 (nI m) (nI c) (xI C 701 d 0) (xI C 702 d 0) x4 x5 x6 x7 x8 x9 n2 (nI (k + 1)) (uI M 2119 0 (40 * c + k) (if fX7_waitsBehind C (40 * c + k) (24 * c + m) = 1 ∧ fX7_rivals C (40 * c + k) d = 1 then 1 else xI M 2119 0 (40 * c + k))) := by
          intro n2
          rw [fX11_enter_l197, if_pos (inB_nI hc (by decide)), cl_nI (show c < 2147483648 by omega), b2, if_neg (nI_ge hkn (by omega)), ob_s hr]
          simp only [if_pos g1, g3, ← t1, ← t2, nI_1]
          unfold wl
          rw [hr2]
          rcases wait01 C (40 * c + k) (24 * c + m) with w | w
          · rw [w, if_pos rfl, if_neg (fun z => absurd z.1 (by decide))]
            rfl
          · rw [w, if_neg one_n0]
            rcases riv_iff C (40 * c + k) d with ⟨v1, v2, v3⟩ | ⟨v1, v2⟩
            · rw [if_pos v2, if_pos v3, if_pos ⟨rfl, v1⟩]
              rfl
            · rw [v1, if_neg (show ¬ ((1 : Int32) = 1 ∧ (0 : Int32) = 1) by decide)]
              by_cases q1 : xI C 701 (40 * c + k) 0 = xI C 701 d 0
              · rw [if_pos q1, if_neg (fun z => v2 ⟨q1, z⟩)]
                rfl
              · rw [if_neg q1]
                rfl
        by_cases q : fX7_waitsBehind C (40 * c + k) (24 * c + m) = 1 ∧ fX7_rivals C (40 * c + k) d = 1
        · obtain ⟨C', p1, p2, p3, p4, p5, p6⟩ := dDrop_l (d := d) (x4 := x4) (x5 := x5) (x6 := x6) (x7 := x7) (x8 := x8) (x9 := x9) hc hm n (k + 1) (uI C 712 (40 * c + k) 0 0) (uI M 2119 0 (40 * c + k) 1) (RGD_out h hc hkn) (by omega) (by omega)
          refine ⟨C', ?_, fun f i j hf => by rw [p2 f i j hf, I_ne hf], fun f i j => by rw [p3, L_uI], fun z => ?_, fun z => absurd z (by omega), fun n2 z1 z2 => ?_⟩
          · rw [hcl, q.1, q.2, if_neg one_n0, if_neg one_n0, p1]
          · have := z k (Nat.le_refl _) hk2 q.1
            rw [q.2] at this
            exact absurd this (by decide)
          · obtain ⟨n3, rfl⟩ : ∃ n3, n2 = n3 + 1 := ⟨n2 - 1, by omega⟩
            rw [hmo, if_pos q]
            have e1 : ∀ f, f ≠ 712 → xI (uI C 712 (40 * c + k) 0 0) f d 0 = xI C f d 0 := fun f hf => I_ne hf
            obtain ⟨z, M', s1, s2, s3, s4⟩ := p6 n3 (by omega) (by omega)
            rw [e1 701 (by decide), e1 702 (by decide)] at s1
            exact ⟨z, M', s1, s2, fun f i j hf => by rw [s3 f i j hf, I_ne hf], fun f i j => by rw [s4, L_uI]⟩
        · obtain ⟨C', p1, p2, p3, p4, p5, p6⟩ := dDrop_l (d := d) (x4 := x4) (x5 := x5) (x6 := x6) (x7 := x7) (x8 := x8) (x9 := x9) hc hm n (k + 1) C (uI M 2119 0 (40 * c + k) (xI M 2119 0 (40 * c + k))) (RGD_same h _ _) (by omega) (by omega)
          refine ⟨C', ?_, p2, p3, fun z => p4 (fun t h1 h2 => z t (by omega) h2), fun z => absurd z (by omega), fun n2 z1 z2 => ?_⟩
          · rw [hcl]
            rcases wait01 C (40 * c + k) (24 * c + m) with w | w
            · rw [if_pos w, p1]
            · rw [w, if_neg one_n0]
              rcases riv_iff C (40 * c + k) d with ⟨v1, v2, v3⟩ | ⟨v1, v2⟩
              · exact absurd ⟨w, v1⟩ q
              · rw [if_pos v1, p1]
          · obtain ⟨n3, rfl⟩ : ∃ n3, n2 = n3 + 1 := ⟨n2 - 1, by omega⟩
            rw [hmo, if_neg q]
            obtain ⟨z, M', s1, s2, s3, s4⟩ := p6 n3 (by omega) (by omega)
            exact ⟨z, M', s1, s2, fun f i j hf => by rw [s3 f i j hf, I_ne hf], fun f i j => by rw [s4, L_uI]⟩
      · have hw := cNoWait h (g := 24 * c + m) hc (show dnt D c ≤ k by omega) hk2
        obtain ⟨C', p1, p2, p3, p4, p5, p6⟩ := dDrop_l (d := d) (x4 := x4) (x5 := x5) (x6 := x6) (x7 := x7) (x8 := x8) (x9 := x9) hc hm n (k + 1) C M h (by omega) (by omega)
        have p7 := p5 (by omega)
        refine ⟨C', ?_, p2, p3, fun _ => p7, fun _ => p7, fun n2 z1 z2 => ?_⟩
        · rw [hcl, if_pos hw, p1]
        · rw [p7]
          exact hend (by omega) n2 z1 z2
/-- the cheapest so far: y12 the reference's, yt the class's -/
def dInv (D : XD) (C : XO) (c g d yt : Nat) (y12 : Int32) : Prop := (y12 = -1 ∧ yt = d) ∨ ∃ t, t < dnt D c ∧ y12 = nI (40 * c + t) ∧ fX7_waitsBehind C (40 * c + t) g = 1 ∧ ((¬ xI C 708 d 0 < xI C 708 (40 * c + t) 0 ∧ yt = 40 * c + t) ∨ (xI C 708 d 0 < xI C 708 (40 * c + t) 0 ∧ yt = d))
def lowv (M : XO) (c k : Nat) (y12 : Int32) : Int32 := if y12 < 0 then nI (40 * c + k) else if xI M 2118 0 y12.toNatClampNeg < xI M 2118 0 (40 * c + k) then y12 else nI (40 * c + k)
theorem low_ev {D : XD} {C M : XO} (h : RGD D C M) {c g d yt k : Nat} {y12 : Int32} (hc : c < 2) (hk : k < dnt D c) (hi : dInv D C c g d yt y12) : (if y12 < 0 then (some (nI (40 * c + k))) else (if inB y12 80 then (if xI M 2118 0 y12.toNatClampNeg < xI C 708 (40 * c + k) 0 then some y12 else some (nI (40 * c + k))) else none)) = some (lowv M c k y12) := by
  have hnt := (h.NT c hc).2.2
  have tk := (h.TX c hc k hk).2.2.2.2.2
  unfold lowv
  rw [tk]
  rcases hi with ⟨rfl, -⟩ | ⟨t, ht, rfl, -⟩
  · rw [if_pos (show (-1 : Int32) < 0 by decide), if_pos (show (-1 : Int32) < 0 by decide)]
  · have e1 : ¬ nI (40 * c + t) < 0 := nI_nlt0 (by omega)
    rw [if_neg e1, if_neg e1, if_pos (inB_nI (by omega) (by decide)), cl_nI (by omega)]
    split <;> rfl
theorem low_inv {D : XD} {C M : XO} (h : RGD D C M) {c g d yt k : Nat} {y12 : Int32} (hc : c < 2) (hk : k < dnt D c) (hi : dInv D C c g d yt y12) (hw : fX7_waitsBehind C (40 * c + k) g = 1) : dInv D C c g d (if xI C 708 yt 0 < xI C 708 (40 * c + k) 0 then yt else 40 * c + k) (lowv M c k y12) := by
  have hnt := (h.NT c hc).2.2
  have tk := (h.TX c hc k hk).2.2.2.2.2
  have hnew : ∀ yt2, ((¬ xI C 708 d 0 < xI C 708 (40 * c + k) 0 ∧ yt2 = 40 * c + k) ∨ (xI C 708 d 0 < xI C 708 (40 * c + k) 0 ∧ yt2 = d)) → dInv D C c g d yt2 (nI (40 * c + k)) := fun yt2 z => Or.inr ⟨k, hk, rfl, hw, z⟩
  unfold lowv
  rcases hi with ⟨rfl, rfl⟩ | ⟨t, ht, rfl, hw2, hh⟩
  · rw [if_pos (show (-1 : Int32) < 0 by decide)]
    by_cases q : xI C 708 yt 0 < xI C 708 (40 * c + k) 0
    · rw [if_pos q]
      exact hnew _ (Or.inr ⟨q, rfl⟩)
    · rw [if_neg q]
      exact hnew _ (Or.inl ⟨q, rfl⟩)
  · have e1 : ¬ nI (40 * c + t) < 0 := nI_nlt0 (by omega)
    have tt := (h.TX c hc t ht).2.2.2.2.2
    rw [if_neg e1, cl_nI (by omega), ← tk, ← tt]
    rcases hh with ⟨h1, rfl⟩ | ⟨h1, rfl⟩
    · by_cases q : xI C 708 (40 * c + t) 0 < xI C 708 (40 * c + k) 0
      · rw [if_pos q, if_pos q]
        exact Or.inr ⟨t, ht, rfl, hw2, Or.inl ⟨h1, rfl⟩⟩
      · rw [if_neg q, if_neg q]
        refine hnew _ (Or.inl ⟨?_, rfl⟩)
        rw [ti_lt] at h1 q ⊢
        omega
    · by_cases q : xI C 708 (40 * c + t) 0 < xI C 708 (40 * c + k) 0
      · rw [if_pos q]
        rw [if_pos (by rw [ti_lt] at h1 q ⊢; omega)]
        exact Or.inr ⟨t, ht, rfl, hw2, Or.inr ⟨h1, rfl⟩⟩
      · rw [if_neg q]
        by_cases q2 : xI C 708 yt 0 < xI C 708 (40 * c + k) 0
        · rw [if_pos q2]
          exact hnew _ (Or.inr ⟨q2, rfl⟩)
        · rw [if_neg q2]
          exact hnew _ (Or.inl ⟨q2, rfl⟩)
theorem dScan_l {D : XD} {C M : XO} (h : RGD D C M) {c m d : Nat} {x4 x5 x6 x7 : Int32} (hc : c < 2) (hm : m < dnb D c) : ∀ (n k : Nat) (y3 : Int32) (yt a : Nat) (y12 : Int32), n = 41 - k → k ≤ 40 → (y3 = 0 ↔ a = 0) → a ≤ k → dInv D C c (24 * c + m) d yt y12 →
    (fX1_admit_l c d n k y3 (24 * c + m) C = (-1, C) ∧ k < dnt D c ∧ ∀ n2, n2 = dnt D c - k + 1 → fX11_enter_l16 M (nI m) (nI c) (xI C 701 d 0) (xI C 702 d 0) x4 x5 x6 x7 (xI C 707 d 0) (xI C 708 d 0) n2 (nI k) y12 (nI a) = some (.inl (-1, M))) ∨
    ∃ (y3' : Int32) (yt' a' : Nat) (y12' : Int32), fX1_admit_l c d n k y3 (24 * c + m) C = fX1_admit_l c d 1 40 y3' (24 * c + m) C ∧ fX1_throwOutFor_l c d (24 * c + m) n k yt C = fX1_throwOutFor_l c d (24 * c + m) 1 40 yt' C ∧ (y3' = 0 ↔ a' = 0) ∧ a' ≤ 40 ∧ dInv D C c (24 * c + m) d yt' y12' ∧ (a' = 0 → a = 0 ∧ ∀ t, k ≤ t → t < 40 → fX7_waitsBehind C (40 * c + t) (24 * c + m) = 1 → fX7_rivals C (40 * c + t) d = 0) ∧ (y12' = -1 → y12 = -1 ∧ ∀ t, k ≤ t → t < 40 → fX7_waitsBehind C (40 * c + t) (24 * c + m) = 0) ∧ (dnt D c ≤ k → yt' = yt ∧ y12' = y12 ∧ a' = a) ∧ ∀ n2, k ≤ dnt D c → n2 = dnt D c - k + 1 → fX11_enter_l16 M (nI m) (nI c) (xI C 701 d 0) (xI C 702 d 0) x4 x5 x6 x7 (xI C 707 d 0) (xI C 708 d 0) n2 (nI k) y12 (nI a) = some (.inr (nI (dnt D c), y12', nI a'))
  | 0, k, y3, yt, a, y12, hn, hk, h3, ha, hi => absurd hn (by omega)
  | n + 1, k, y3, yt, a, y12, hn, hk, h3, ha, hi => by
    obtain ⟨b1, b2, b3⟩ := h.NT c hc
    have hend : dnt D c = k → ∀ n2, k ≤ dnt D c → n2 = dnt D c - k + 1 → fX11_enter_l16 M (nI m) (nI c) (xI C 701 d 0) (xI C 702 d 0) x4 x5 x6 x7 (xI C 707 d 0) (xI C 708 d 0) n2 (nI k) y12 (nI a) = some (.inr (nI (dnt D c), y12, nI a)) := by
      intro e n2 z1 z2
      rw [z2, fX11_enter_l16, if_pos (inB_nI hc (by decide)), cl_nI (by omega), b2, e, if_pos (Int32.le_refl _)]
    by_cases hk40 : k = 40
    · subst hk40
      obtain rfl : n = 0 := by omega
      exact Or.inr ⟨y3, yt, a, y12, rfl, rfl, h3, ha, hi, fun z => ⟨z, fun t h1 h2 => absurd h1 (by omega)⟩, fun z => ⟨z, fun t h1 h2 => absurd h1 (by omega)⟩, fun _ => ⟨rfl, rfl, rfl⟩, fun n2 z1 z2 => hend (by omega) n2 z1 z2⟩
    · have hk2 : k < 40 := by omega
      have e40 : ¬ nI (alen 2003) ≤ nI k := nI_ge (b := 40) hk2 (by decide)
      have hcl : fX1_admit_l c d (n + 1) k y3 (24 * c + m) C = if fX7_waitsBehind C (40 * c + k) (24 * c + m) = 0 then fX1_admit_l c d n (k + 1) y3 (24 * c + m) C else if fX7_rivals C (40 * c + k) d = 0 then fX1_admit_l c d n (k + 1) y3 (24 * c + m) C else if fX7_outbids C d (40 * c + k) = 0 then (-1, C) else fX1_admit_l c d n (k + 1) 1 (24 * c + m) C := by
        rw [fX1_admit_l, if_neg e40, cl_nI (by omega)]
      have hth : fX1_throwOutFor_l c d (24 * c + m) (n + 1) k yt C = if fX7_waitsBehind C (40 * c + k) (24 * c + m) = 0 then fX1_throwOutFor_l c d (24 * c + m) n (k + 1) yt C else fX1_throwOutFor_l c d (24 * c + m) n (k + 1) (if xI C 708 yt 0 < xI C 708 (40 * c + k) 0 then yt else 40 * c + k) C := by
        rw [fX1_throwOutFor_l, if_neg e40, cl_nI (by omega)]
        by_cases q : xI C 708 yt 0 < xI C 708 (40 * c + k) 0
        · rw [if_pos q, if_pos q]
        · rw [if_neg q, if_neg q]
      by_cases hkn : k < dnt D c
      · obtain ⟨g1, g2, g3⟩ := inB_40c hc hk2
        obtain ⟨t1, t2, -, -, t7, t8⟩ := h.TX c hc k hkn
        have hpo : ∃ r, fX11_pooled M (nI c) (nI k) (nI m) = some r ∧ r = fX7_waitsBehind C (40 * c + k) (24 * c + m) := by
          rcases dPooled h hc hm hkn with ⟨p1, p2⟩ | ⟨p1, p2⟩
          · exact ⟨1, p1, p2.symm⟩
          · exact ⟨0, p1, p2.symm⟩
        obtain ⟨r, hr, hr2⟩ := hpo
        have hlo := low_ev h hc hkn hi
        have hmo : ∀ n2, fX11_enter_l16 M (nI m) (nI c) (xI C 701 d 0) (xI C 702 d 0) x4 x5 x6 x7 (xI C 707 d 0) (xI C 708 d 0) (n2 + 1) (nI k) y12 (nI a) = if fX7_waitsBehind C (40 * c + k) (24 * c + m) = 0 then fX11_enter_l16 M (nI m) (nI c) (xI C 701 d 0) (xI C 702 d 0) x4 x5 x6 x7 (xI C 707 d 0) (xI C 708 d 0) n2 (nI (k + 1)) y12 (nI a) else if fX7_rivals C (40 * c + k) d = 0 then fX11_enter_l16 M (nI m) (nI c) (xI C 701 d 0) (xI C 702 d 0) x4 x5 x6 x7 (xI C 707 d 0) (xI C 708 d 0) n2 (nI (k + 1)) (lowv M c k y12) (nI a) else if fX7_outbids C d (40 * c + k) = 0 then some (.inl (-1, M)) else fX11_enter_l16 M (nI m) (nI c) (xI C 701 d 0) (xI C 702 d 0) x4 x5 x6 x7 (xI C 707 d 0) (xI C 708 d 0) n2 (nI (k + 1)) (lowv M c k y12) (nI (a + 1)) := by
          intro n2
          rw [fX11_enter_l16, if_pos (inB_nI hc (by decide)), cl_nI (show c < 2147483648 by omega), b2, if_neg (nI_ge hkn (by omega)), ob_s hr, hr2]
          rcases wait01 C (40 * c + k) (24 * c + m) with w | w
          · rw [w, if_pos rfl, if_pos rfl, if_pos rfl, Option.bind_some, nI_1]
          · rw [w, if_neg one_n0, if_neg one_n0, if_pos g1, g2]
            simp only [if_neg one_n0, hlo, Option.bind_some, if_pos (inB_nI (show 40 * c + k < 80 by omega) (show 80 < 2147483648 by decide)), cl_nI (show 40 * c + k < 2147483648 by omega), ← t1, ← t2, ← t7, ← t8, nI_1]
            rcases riv_iff C (40 * c + k) d with ⟨v1, v2, v3⟩ | ⟨v1, v2⟩
            · rw [if_pos v2, if_pos v3, v1, if_neg one_n0]
              unfold fX7_outbids
              by_cases q1 : (10 : Int32) * xI C 707 d 0 < 11 * xI C 707 (40 * c + k) 0
              · rw [if_pos q1, if_pos q1, if_pos rfl]
              · rw [if_neg q1, if_neg q1]
                by_cases q2 : (10 : Int32) * xI C 708 d 0 < 11 * xI C 708 (40 * c + k) 0
                · rw [if_pos q2, if_pos rfl, if_neg (Int32.not_le.mpr q2)]
                · rw [if_neg q2, if_neg one_n0, if_pos (Int32.not_lt.mp q2)]
            · rw [v1, if_pos rfl]
              by_cases q1 : xI C 701 (40 * c + k) 0 = xI C 701 d 0
              · rw [if_pos q1, if_neg (fun z => v2 ⟨q1, z⟩)]
              · rw [if_neg q1]
        rcases wait01 C (40 * c + k) (24 * c + m) with w | w
        · rw [if_pos w] at hcl hth
          have hmo' := fun n2 => (hmo n2).trans (if_pos w)
          rcases dScan_l (x4 := x4) (x5 := x5) (x6 := x6) (x7 := x7) (d := d) h hc hm n (k + 1) y3 yt a y12 (by omega) (by omega) h3 (by omega) hi with ⟨p1, p2, p3⟩ | ⟨y3', yt', a', y12', p1, p2, p3, p4, p5, p6, p7, p8, p9⟩
          · refine Or.inl ⟨by rw [hcl, p1], hkn, fun n2 z2 => ?_⟩
            obtain ⟨n3, rfl⟩ : ∃ n3, n2 = n3 + 1 := ⟨n2 - 1, by omega⟩
            rw [hmo', p3 n3 (by omega)]
          · refine Or.inr ⟨y3', yt', a', y12', by rw [hcl, p1], by rw [hth, p2], p3, p4, p5, fun z => ⟨(p6 z).1, fun t h1 h2 hw => ?_⟩, fun z => ⟨(p7 z).1, fun t h1 h2 => ?_⟩, fun z => absurd z (by omega), fun n2 z1 z2 => ?_⟩
            · by_cases q : t = k
              · rw [q, w] at hw
                exact absurd hw (by decide)
              · exact (p6 z).2 t (by omega) h2 hw
            · by_cases q : t = k
              · rw [q, w]
              · exact (p7 z).2 t (by omega) h2
            · obtain ⟨n3, rfl⟩ : ∃ n3, n2 = n3 + 1 := ⟨n2 - 1, by omega⟩
              rw [hmo', p9 n3 (by omega) (by omega)]
        · have w0 : ¬ fX7_waitsBehind C (40 * c + k) (24 * c + m) = 0 := by rw [w]; exact one_n0
          rw [if_neg w0] at hcl hth
          have hmo1 := fun n2 => (hmo n2).trans (if_neg w0)
          have hli := low_inv h hc hkn hi w
          have hlv : lowv M c k y12 ≠ -1 := by
            rcases hli with ⟨-, z⟩ | ⟨t, ht, z, -⟩
            · intro _
              rcases low_inv h (M := M) hc hkn hi w with ⟨z1, -⟩ | ⟨t, ht, z1, -⟩
              · unfold lowv at z1
                rcases hi with ⟨rfl, -⟩ | ⟨t, ht, rfl, -⟩
                · rw [if_pos (show (-1 : Int32) < 0 by decide)] at z1
                  have := congrArg Int32.toInt z1
                  rw [ti_nI (by omega)] at this
                  have e : (-1 : Int32).toInt = -1 := rfl
                  omega
                · have e1 : ¬ nI (40 * c + t) < 0 := nI_nlt0 (by omega)
                  rw [if_neg e1] at z1
                  have e : (-1 : Int32).toInt = -1 := rfl
                  split at z1
                  · have := congrArg Int32.toInt z1
                    rw [ti_nI (by omega)] at this
                    omega
                  · have := congrArg Int32.toInt z1
                    rw [ti_nI (by omega)] at this
                    omega
              · have e : (-1 : Int32).toInt = -1 := rfl
                rw [‹lowv M c k y12 = -1›] at z1
                have := congrArg Int32.toInt z1
                rw [ti_nI (by omega)] at this
                omega
            · intro z1
              rw [z] at z1
              have e : (-1 : Int32).toInt = -1 := rfl
              have := congrArg Int32.toInt z1
              rw [ti_nI (by omega)] at this
              omega
          rcases riv_iff C (40 * c + k) d with ⟨v1, -⟩ | ⟨v1, -⟩
          · have v0 : ¬ fX7_rivals C (40 * c + k) d = 0 := by rw [v1]; exact one_n0
            rw [if_neg v0] at hcl
            have hmo2 := fun n2 => (hmo1 n2).trans (if_neg v0)
            by_cases q : fX7_outbids C d (40 * c + k) = 0
            · refine Or.inl ⟨by rw [hcl, if_pos q], hkn, fun n2 z2 => ?_⟩
              obtain ⟨n3, rfl⟩ : ∃ n3, n2 = n3 + 1 := ⟨n2 - 1, by omega⟩
              rw [hmo2, if_pos q]
            · rw [if_neg q] at hcl
              have hmo3 := fun n2 => (hmo2 n2).trans (if_neg q)
              rcases dScan_l (x4 := x4) (x5 := x5) (x6 := x6) (x7 := x7) (d := d) h hc hm n (k + 1) 1 _ (a + 1) (lowv M c k y12) (by omega) (by omega) ⟨fun z => absurd z one_n0, fun z => absurd z (by omega)⟩ (by omega) hli with ⟨p1, p2, p3⟩ | ⟨y3', yt', a', y12', p1, p2, p3, p4, p5, p6, p7, p8, p9⟩
              · refine Or.inl ⟨by rw [hcl, p1], hkn, fun n2 z2 => ?_⟩
                obtain ⟨n3, rfl⟩ : ∃ n3, n2 = n3 + 1 := ⟨n2 - 1, by omega⟩
                rw [hmo3, p3 n3 (by omega)]
              · refine Or.inr ⟨y3', yt', a', y12', by rw [hcl, p1], by rw [hth, p2], p3, p4, p5, fun z => ?_, fun z => absurd (p7 z).1 hlv, fun z => absurd z (by omega), fun n2 z1 z2 => ?_⟩
                · have := (p6 z).1
                  omega
                · obtain ⟨n3, rfl⟩ : ∃ n3, n2 = n3 + 1 := ⟨n2 - 1, by omega⟩
                  rw [hmo3, p9 n3 (by omega) (by omega)]
          · rw [if_pos v1] at hcl
            have hmo2 := fun n2 => (hmo1 n2).trans (if_pos v1)
            rcases dScan_l (x4 := x4) (x5 := x5) (x6 := x6) (x7 := x7) (d := d) h hc hm n (k + 1) y3 _ a (lowv M c k y12) (by omega) (by omega) h3 (by omega) hli with ⟨p1, p2, p3⟩ | ⟨y3', yt', a', y12', p1, p2, p3, p4, p5, p6, p7, p8, p9⟩
            · refine Or.inl ⟨by rw [hcl, p1], hkn, fun n2 z2 => ?_⟩
              obtain ⟨n3, rfl⟩ : ∃ n3, n2 = n3 + 1 := ⟨n2 - 1, by omega⟩
              rw [hmo2, p3 n3 (by omega)]
            · refine Or.inr ⟨y3', yt', a', y12', by rw [hcl, p1], by rw [hth, p2], p3, p4, p5, fun z => ⟨(p6 z).1, fun t h1 h2 hw => ?_⟩, fun z => absurd (p7 z).1 hlv, fun z => absurd z (by omega), fun n2 z1 z2 => ?_⟩
              · by_cases q : t = k
                · rw [q, v1]
                · exact (p6 z).2 t (by omega) h2 hw
              · obtain ⟨n3, rfl⟩ : ∃ n3, n2 = n3 + 1 := ⟨n2 - 1, by omega⟩
                rw [hmo2, p9 n3 (by omega) (by omega)]
      · have hw := cNoWait h (g := 24 * c + m) hc (show dnt D c ≤ k by omega) hk2
        rw [if_pos hw] at hcl hth
        rcases dScan_l (x4 := x4) (x5 := x5) (x6 := x6) (x7 := x7) (d := d) h hc hm n (k + 1) y3 yt a y12 (by omega) (by omega) h3 (by omega) hi with ⟨p1, p2, p3⟩ | ⟨y3', yt', a', y12', p1, p2, p3, p4, p5, p6, p7, p8, p9⟩
        · exact absurd p2 (by omega)
        · obtain ⟨q1, q2, q3⟩ := p8 (by omega)
          refine Or.inr ⟨y3', yt', a', y12', by rw [hcl, p1], by rw [hth, p2], p3, p4, p5, fun z => ⟨(p6 z).1, fun t h1 h2 hw2 => ?_⟩, fun z => ⟨(p7 z).1, fun t h1 h2 => ?_⟩, fun _ => ⟨q1, q2, q3⟩, fun n2 z1 z2 => ?_⟩
          · by_cases q : t = k
            · rw [q, hw] at hw2
              exact absurd hw2 (by decide)
            · exact (p6 z).2 t (by omega) h2 hw2
          · by_cases q : t = k
            · rw [q, hw]
            · exact (p7 z).2 t (by omega) h2
          · rw [q2, q3]
            exact hend (by omega) n2 z1 z2
