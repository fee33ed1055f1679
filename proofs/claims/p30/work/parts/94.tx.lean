def prN (ba mo tp : Nat) : Nat := if ba + tp < mo then ba + tp else mo
theorem prN_le {ba mo tp : Nat} (h : ba ≤ mo) : ba ≤ prN ba mo tp ∧ prN ba mo tp ≤ mo := by
  unfold prN
  split <;> omega
theorem cPrice {C : XO} {i1 ba mo tp : Nat} (hmo : mo ≤ 100) (hba : ba ≤ 1000000) (htp : tp ≤ 100) (c7 : xI C 707 i1 0 = nI mo) (c8 : xI C 708 i1 0 = nI tp) : fX7_priceAt C i1 (nI ba) = nI (prN ba mo tp) := by
  unfold fX7_priceAt prN
  rw [c7, c8, nI_add]
  by_cases z : ba + tp < mo
  · rw [if_pos (nI_lt z (by omega)), if_pos z]
  · rw [if_neg (nI_nlt (by omega) (by omega)), if_neg z]
theorem ePrice {M : XO} {kk ba mo tp : Nat} (hkk : kk < 80) (hmo : mo ≤ 100) (hba : ba ≤ 1000000) (htp : tp ≤ 100) (c7 : xI M 2117 0 kk = nI mo) (c8 : xI M 2118 0 kk = nI tp) : fX11_price M (nI kk) (nI ba) = some (nI (prN ba mo tp)) := by
  have hin : inB (nI kk) 80 := inB_nI hkk (by decide)
  have hcl : (nI kk).toNatClampNeg = kk := cl_nI (by omega)
  unfold fX11_price prN
  rw [if_pos hin, if_pos hin, hcl, c7, c8, nI_add]
  by_cases z : ba + tp < mo
  · rw [if_pos (nI_le (by omega) (by omega)), if_pos hin, Option.bind_some, if_pos z]
  · rw [if_neg z]
    by_cases z2 : ba + tp = mo
    · rw [if_pos (nI_le (by omega) (by omega)), if_pos hin, Option.bind_some, z2]
    · rw [if_neg (nI_ge (by omega) (by omega)), if_pos hin, Option.bind_some]
/-- reference: a transaction around its effect -/
theorem eRuns {M R : XO} {c k sd ga p ba pr blk nn co g bk us w x B z n2 u0 mo tp : Nat} (hc : c < 2) (hk : k < 40) (hsd : sd < 16) (hpr : pr < 16) (hga2 : ga ≤ 600) (hp : p = prN ba mo tp) (hmo : mo ≤ 100) (hba : ba ≤ mo) (htp : tp ≤ mo) (hblk : blk < 48)
    (m2111 : xI M 2111 0 (40 * c + k) = nI sd) (m2116 : xI M 2116 0 (40 * c + k) = nI ga) (m2117 : xI M 2117 0 (40 * c + k) = nI mo) (m2118 : xI M 2118 0 (40 * c + k) = nI tp) (hnn : xI M 2101 0 (16 + sd) = nI nn) (hco : xI M 2101 0 sd = nI co) (hpc : ga * p ≤ co) (h1153 : xI M 1153 0 0 = nI 0)
    (hR : fX11_effect (uI (uI (uI M 2101 0 (16 + sd) (nI (nn + 1))) 2101 0 sd (nI (co - ga * p))) 1154 0 0 0) (nI c) (nI (40 * c + k)) = some R)
    (r2116 : xI R 2116 0 (40 * c + k) = nI ga) (r1155 : xI R 1155 0 0 = nI g) (hg : g ≤ ga) (r1154 : xI R 1154 0 0 = nI bk) (hbk : bk ≤ 1800) (hus : us = usedN (ga - g) bk) (rx : xI R 2101 0 sd = nI x) (rB : xI R 2101 0 112 = nI B) (rz : xI (uI R 2101 0 sd (nI (x + (ga - us) * p))) 2101 0 pr = nI z) (r1158 : xI R 1158 0 0 = nI blk) (r2122 : xI R 2122 0 blk = nI pr) (r1156 : xI R 1156 0 0 = nI w) (hw : w ≤ 1) (hn2 : n2 < 40) (r2129 : xI R 2129 0 blk = nI n2) (r2125 : xI R 2125 0 blk = nI u0) : fX11_runs M (nI c) (nI k) (nI ba) = some (uI (uI (uI (uI (uI (uI R 2101 0 sd (nI (x + (ga - us) * p))) 2101 0 112 (nI (B + us * ba))) 2101 0 pr (nI (z + us * (p - ba)))) 2131 0 (40 * blk + n2) (nI (100000 * us + 10 * k + w))) 2129 0 blk (nI (n2 + 1))) 2125 0 blk (nI (u0 + us))) := by
  have e1 : (40 : Int32) * nI c + nI k = nI (40 * c + k) := by rw [show (40 : Int32) = nI 40 from rfl, nI_mul, nI_add]
  have i1 : inB (nI (40 * c + k)) 80 := inB_nI (by omega) (by decide)
  have k1 : (nI (40 * c + k)).toNatClampNeg = 40 * c + k := cl_nI (by omega)
  have e2 : (16 : Int32) + nI sd = nI (16 + sd) := by rw [show (16 : Int32) = nI 16 from rfl, nI_add]
  have i2 : inB (nI (16 + sd)) 120 := inB_nI (by omega) (by decide)
  have k2 : (nI (16 + sd)).toNatClampNeg = 16 + sd := cl_nI (by omega)
  have i3 : inB (nI sd) 120 := inB_nI (by omega) (by decide)
  have k3 : (nI sd).toNatClampNeg = sd := cl_nI (by omega)
  have i4 : inB (nI blk) 48 := inB_nI hblk (by decide)
  have k4 : (nI blk).toNatClampNeg = blk := cl_nI (by omega)
  have i5 : inB (nI pr) 120 := inB_nI (by omega) (by decide)
  have k5 : (nI pr).toNatClampNeg = pr := cl_nI (by omega)
  have k112 : (112 : Int32).toNatClampNeg = 112 := rfl
  have hpr' := ePrice (M := M) (kk := 40 * c + k) (ba := ba) (mo := mo) (tp := tp) (by omega) hmo (by omega) (by omega) m2117 m2118
  rw [← hp] at hpr'
  have w1 : xI (uI M 2101 0 (16 + sd) (nI (nn + 1))) 2101 0 sd = nI co := by rw [I_uI, if_neg (fun y => by have := y.2.2; omega), hco]
  have w2 : xI (uI M 2101 0 (16 + sd) (nI (nn + 1))) 2116 0 (40 * c + k) = nI ga := by rw [I_ne (by decide), m2116]
  have w3 : uI (uI (uI (uI M 2101 0 (16 + sd) (nI (nn + 1))) 2101 0 sd (nI (co - ga * p))) 1154 0 0 0) 1153 0 0 0 = uI (uI (uI M 2101 0 (16 + sd) (nI (nn + 1))) 2101 0 sd (nI (co - ga * p))) 1154 0 0 0 := uI_same (by rw [I_ne (by decide), I_ne (by decide), I_ne (by decide), h1153]; rfl)
  have hb := prN_le (tp := tp) hba
  rw [← hp] at hb
  have hul := (usedN_le (ga - g) bk).1
  rw [← hus] at hul
  have hj := (cUsed (g := ga - g) (bk := bk) (by omega) (by omega)).2
  rw [← hus] at hj
  unfold fX11_runs wl
  dsimp only
  rw [e1, if_pos i1, hpr', Option.bind_some, k1, m2111, e2, if_pos i2, if_pos i2, k2, hnn, nI_1, if_pos i3, if_pos i1, if_pos i3, k3, w1, w2, nI_mul, nI_subI hpc, w3, hR, Option.bind_some, if_pos i1, r2116, r1155, nI_subI hg, r1154, hj, if_pos i3, if_pos i1, if_pos i3, rx, nI_subI (by omega), nI_mul, nI_add, k112]
  have v112 : xI (uI R 2101 0 sd (nI (x + (ga - us) * p))) 2101 0 112 = nI B := by rw [I_uI, if_neg (fun y => by have := y.2.2; omega), rB]
  rw [v112, nI_mul, nI_add]
  have q1158 : ∀ u u', xI (uI (uI R 2101 0 sd u) 2101 0 112 u') 1158 0 0 = nI blk := fun u u' => by rw [I_ne (by decide), I_ne (by decide), r1158]
  have q2122 : ∀ u u', xI (uI (uI R 2101 0 sd u) 2101 0 112 u') 2122 0 blk = nI pr := fun u u' => by rw [I_ne (by decide), I_ne (by decide), r2122]
  have qz : ∀ u', xI (uI (uI R 2101 0 sd (nI (x + (ga - us) * p))) 2101 0 112 u') 2101 0 pr = nI z := fun u' => by rw [I_uI, if_neg (fun y => by have := y.2.2; omega), rz]
  rw [q1158, if_pos i4, k4, q2122, if_pos i5, if_pos i5, k5, qz, nI_subI hb.1, nI_mul, nI_add]
  have t1158 : ∀ u u' u'', xI (uI (uI (uI R 2101 0 sd u) 2101 0 112 u') 2101 0 pr u'') 1158 0 0 = nI blk := fun u u' u'' => by rw [I_ne (by decide), q1158]
  have t1156 : ∀ u u' u'', xI (uI (uI (uI R 2101 0 sd u) 2101 0 112 u') 2101 0 pr u'') 1156 0 0 = nI w := fun u u' u'' => by rw [I_ne (by decide), I_ne (by decide), I_ne (by decide), r1156]
  have t2129 : ∀ u u' u'', xI (uI (uI (uI R 2101 0 sd u) 2101 0 112 u') 2101 0 pr u'') 2129 0 blk = nI n2 := fun u u' u'' => by rw [I_ne (by decide), I_ne (by decide), I_ne (by decide), r2129]
  have ew : (if nI w = 0 then (0 : Int32) else 1) = nI w := by
    rcases (show w = 0 ∨ w = 1 by omega) with rfl | rfl <;> rfl
  have e6 : (40 : Int32) * nI blk + nI n2 = nI (40 * blk + n2) := by rw [show (40 : Int32) = nI 40 from rfl, nI_mul, nI_add]
  have e7 : (100000 : Int32) * nI us + (10 : Int32) * nI k + nI w = nI (100000 * us + 10 * k + w) := by rw [show (100000 : Int32) = nI 100000 from rfl, show (10 : Int32) = nI 10 from rfl, nI_mul, nI_mul, nI_add, nI_add]
  rw [t1158, if_pos i4, t1156, ew, k4, t2129, e6, if_pos (inB_nI (show 40 * blk + n2 < 1920 by omega) (by decide)), cl_nI (show 40 * blk + n2 < 2147483648 by omega), e7]
  have y1158 : ∀ u u' u'' u3 j, xI (uI (uI (uI (uI R 2101 0 sd u) 2101 0 112 u') 2101 0 pr u'') 2131 0 j u3) 1158 0 0 = nI blk := fun u u' u'' u3 j => by rw [I_ne (by decide), t1158]
  have y2129 : ∀ u u' u'' u3 j, xI (uI (uI (uI (uI R 2101 0 sd u) 2101 0 112 u') 2101 0 pr u'') 2131 0 j u3) 2129 0 blk = nI n2 := fun u u' u'' u3 j => by rw [I_ne (by decide), t2129]
  rw [y1158, if_pos i4, if_pos i4, k4, y2129, nI_1]
  have z1158 : ∀ u u' u'' u3 j u4, xI (uI (uI (uI (uI (uI R 2101 0 sd u) 2101 0 112 u') 2101 0 pr u'') 2131 0 j u3) 2129 0 blk u4) 1158 0 0 = nI blk := fun u u' u'' u3 j u4 => by rw [I_ne (by decide), y1158]
  have z2125 : ∀ u u' u'' u3 j u4, xI (uI (uI (uI (uI (uI R 2101 0 sd u) 2101 0 112 u') 2101 0 pr u'') 2131 0 j u3) 2129 0 blk u4) 2125 0 blk = nI u0 := fun u u' u'' u3 j u4 => by rw [I_ne (by decide), I_ne (by decide), I_ne (by decide), I_ne (by decide), I_ne (by decide), r2125]
  rw [z1158, if_pos i4, if_pos i4, k4, z2125, nI_add]
theorem neg_mulI {co ga p : Nat} (h : ga * p ≤ co) : nI co + -(nI ga) * nI p = nI (co - ga * p) := by
  rw [Int32.neg_mul, ← Int32.sub_eq_add_neg, nI_mul, nI_subI h]
