def eVote (W : XO) (x1 x3 x4 x5 : Int32) : Option (Int32 × XO) := (fX11_vote_l141 W x1 x3 x4 x5 ((xI W 2138 0 x5.toNatClampNeg).toNatClampNeg + 1) (0 : Int32) (0 : Int32)).bind (fun q_26 => (if inB x5 8 then (if inB (((20 : Int32) * x5) + (xI W 2138 0 x5.toNatClampNeg)) 160 then (wl (uI W 2135 0 (((20 : Int32) * x5) + (xI W 2138 0 x5.toNatClampNeg)).toNatClampNeg x3) (fun Ω_31 => (if inB x5 8 then (if inB (((20 : Int32) * x5) + (xI Ω_31 2138 0 x5.toNatClampNeg)) 160 then (wl (uI Ω_31 2136 0 (((20 : Int32) * x5) + (xI Ω_31 2138 0 x5.toNatClampNeg)).toNatClampNeg x4) (fun Ω_36 => (if inB x5 8 then (if inB x5 8 then (wl (uI Ω_36 2138 0 x5.toNatClampNeg ((xI Ω_36 2138 0 x5.toNatClampNeg) + (1 : Int32))) (fun Ω_40 => (fX11_vote_l336 q_26.2 x1 x5 ((xI Ω_40 2138 0 x5.toNatClampNeg).toNatClampNeg + 1) (0 : Int32) Ω_40).bind (fun q_41 => (((if q_26.2 = 0 then (if inB x5 8 then (some (xI q_41.2 2139 0 x5.toNatClampNeg)) else none) else (some (0 : Int32))) : Option (Int32))).bind (fun j_43 => (if inB x5 8 then (wl (uI q_41.2 2139 0 x5.toNatClampNeg j_43) (fun Ω_48 => (fX11_justify Ω_48 x1).bind (fun r_49 => (wl ((if q_26.2 = 0 then (1 : Int32) else (0 : Int32))) (fun (j_50 : Int32) => (if j_50 = 0 ∨ j_50 = 1 then (some (j_50, r_49)) else none)))))) else none))))) else none) else none))) else none) else none))) else none) else none))
/-- a vote in full, on both sides -/
theorem dVoteAll {D : XD} {C M : XO} (h : RGD D C M) {c v s t n : Nat} (hc : c < 2) (hv : v < 8) (hvc : v / 4 = c) (hs : s < dnb D c) (ht : t < dnb D c) (hn : xI C 801 v 0 = nI n) (hn2 : n < 20) (h82 : xI C 802 v 0 = 0) (hanc : Anc (dpa D c) t s) (hst : s ≠ t) : ∃ a C1 C' M' D', a ≤ 1 ∧ fX8_give C v (24 * c + s) (24 * c + t) = (if a = 0 then 1 else 0, C1) ∧ fX2_settle C1 c c = some C' ∧ eVote M (nI c) (nI s) (nI t) (nI v) = some (if a = 0 then 1 else 0, M') ∧ RGD D' C' M' ∧ (∀ f i j, f ≠ 14 → f ≠ 15 → f ≠ 201 → f ≠ 801 → f ≠ 802 → f ≠ 900 → f ≠ 901 → f ≠ 902 → f ≠ 903 → xI C' f i j = xI C f i j) ∧ (∀ f i j, xL C' f i j = xL C f i j) ∧ (∀ f i j, f ≠ 2133 → f ≠ 2134 → f ≠ 2110 → f ≠ 2135 → f ≠ 2136 → f ≠ 2137 → f ≠ 2138 → f ≠ 2139 → xI M' f i j = xI M f i j) ∧ (∀ f i j, xL M' f i j = xL M f i j) := by
  obtain ⟨a, C1, z, z2, M2, p1, p2, p3, p4, p5, g1, g2, g3, g4⟩ := dGive h hc hv hvc hs ht hn hn2 h82 hanc hst
  obtain ⟨C', M', D', q1, q2, q3, k1, k2, k3, k4⟩ := dVote p5 hc
  refine ⟨a, C1, C', M', D', p1, p2, q1, ?_, q3, fun f i j a1 a2 a3 a4 a5 a6 a7 a8 a9 => by rw [k1 f i j a1 a2 a3, g1 f i j a4 a5 a6 a7 a8 a9], fun f i j => by rw [k2, g2], fun f i j a1 a2 a3 a4 a5 a6 a7 a8 => by rw [k3 f i j a1 a2 a3, g3 f i j a4 a5 a6 a7 a8], fun f i j => by rw [k4, g4]⟩
  have hnb := (h.NB c hc).2.2.2
  have h38 : xI M 2138 0 v = nI n := by rw [← (h.VA v hv).1.1, hn]
  have hcl : (nI v).toNatClampNeg = v := cl_nI (by omega)
  have hcn : (nI n).toNatClampNeg = n := cl_nI (by omega)
  have hin : inB (nI v) 8 := inB_nI hv (by decide)
  obtain ⟨d1, d2⟩ := inB_20 hv hn2
  unfold eVote
  rw [hcl, h38, hcn, ob_s p3]
  unfold wl
  simp only [if_pos hin]
  have w1 : xI (uI M 2135 0 (20 * v + n) (nI s)) 2138 0 v = nI n := by rw [I_ne (by decide), h38]
  have w2 : xI (uI (uI M 2135 0 (20 * v + n) (nI s)) 2136 0 (20 * v + n) (nI t)) 2138 0 v = nI n := by rw [I_ne (by decide), w1]
  have w3 : xI (uI (uI (uI M 2135 0 (20 * v + n) (nI s)) 2136 0 (20 * v + n) (nI t)) 2138 0 v (nI (n + 1))) 2138 0 v = nI (n + 1) := by rw [I_uI, if_pos ⟨rfl, rfl, rfl⟩]
  simp only [d2, if_pos d1, w1, w2, nI_1, w3, cl_nI (show n + 1 < 2147483648 by omega)]
  have p4' : fX11_vote_l336 (nI a) (nI c) (nI v) (n + 1 + 1) (0 : Int32) (uI (uI (uI M 2135 0 (20 * v + n) (nI s)) 2136 0 (20 * v + n) (nI t)) 2138 0 v (nI (n + 1))) = some (z2, M2) := p4
  rw [p4', Option.bind_some]
  have ha : (if nI a = 0 then some (xI M2 2139 0 v) else some (0 : Int32)) = some (if a = 0 then xI M2 2139 0 v else 0) := by
    by_cases y : a = 0
    · rw [if_pos (show nI a = 0 by rw [y]; rfl), if_pos y]
    · rw [if_neg (nI_ne0 (by omega) (by omega)), if_neg y]
  rw [ha, Option.bind_some, q2, Option.bind_some]
  by_cases y : a = 0
  · rw [if_pos (show nI a = 0 by rw [y]; rfl), if_pos y]
    rfl
  · rw [if_neg (nI_ne0 (by omega) (by omega)), if_neg y]
    rfl
