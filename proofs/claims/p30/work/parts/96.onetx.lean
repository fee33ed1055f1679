/-- what the reference notes of a transaction -/
def tlM (Y : XO) (blk n2 us k w u0 : Nat) : XO := uI (uI (uI Y 2131 0 (40 * blk + n2) (nI (100000 * us + 10 * k + w))) 2129 0 blk (nI (n2 + 1))) 2125 0 blk (nI (u0 + us))
theorem uI_pt {A B : XO} {k i j : Nat} {v : Int32} {f a b : Nat} (h : xI A f a b = xI B f a b) : xI (uI A k i j v) f a b = xI (uI B k i j v) f a b := by
  rw [I_uI, I_uI, h]
theorem uL_pt {A B : XO} {k i j : Nat} {v : Int64} {f a b : Nat} (h : xL A f a b = xL B f a b) : xL (uL A k i j v) f a b = xL (uL B k i j v) f a b := by
  rw [L_uL, L_uL, h]
/-- a transaction in full, on both machines -/
theorem MS.tx {P : XP} {C M : XO} (h : MS P 0 0 0 0 C M) {k sd nc v ga mo tp ba pr co ec n2 u0 : Nat} (hx : TXF P k sd nc v ga mo tp) (hb : BKF P ba pr) (hba : ba ≤ mo) (hco : xI M 2101 0 sd = nI co) (hv : v + ga * mo ≤ co) (hco2 : co ≤ 80000) (hec : xI M 2130 0 (pk P) = nI ec) (hec2 : 16 * ec + ga ≤ 600) (hn2 : n2 < 40) (m2129 : xI (pM P) 2129 0 (pk P) = nI n2) (m2125 : xI (pM P) 2125 0 (pk P) = nI u0) (hN : pN P + 601 ≤ 1000000) : ∃ C' M' us w ec', fX4_transact C (pb P) (pb P) (40 * pc P + k) = some C' ∧ fX11_runs M (nI (pc P)) (nI k) (nI ba) = some M' ∧ w ≤ 1 ∧ us ≤ ga ∧ 16 ≤ us ∧ xI C' 407 0 0 = nI us ∧ xI C' 408 0 0 = nI w ∧ xI M' 2130 0 (pk P) = nI ec' ∧ 16 * ec' ≤ 16 * ec + us ∧ MS (sX (rp P (pT P) (pN P + 601) 800) (pC P) (tlM (pM P) (pk P) n2 us k w u0)) 0 0 0 0 C' M' := by
  have hx0 := hx
  obtain ⟨⟨hk, hsd, hnc, hv2, hga, hga2, hmo1, hmo, htp⟩, ⟨x1, y1⟩, ⟨x2, y2⟩, ⟨x4, y4⟩, ⟨x6, y6⟩, ⟨x7, y7⟩, ⟨x8, y8⟩, -⟩ := hx
  obtain ⟨hba1, hpr, b5, b3, y22⟩ := hb
  obtain ⟨z1, z2, z3, z4, z5, z6⟩ := h.1.ZP
  have fC : ∀ f i j, cmod (pb P) f i = false → xI C f i j = xI (pC P) f i j := fun f i j hm => h.1.FA f i j hm
  have fM : ∀ f j, mmod (pk P) f j = false → xI M f 0 j = xI (pM P) f 0 j := fun f j hm => h.1.FB f 0 j hm
  obtain ⟨p, hp⟩ : ∃ p, p = prN ba mo tp := ⟨_, rfl⟩
  obtain ⟨p1, p2⟩ := prN_le (tp := tp) hba
  rw [← hp] at p1 p2
  have hgp : ga * p ≤ ga * mo := Nat.mul_le_mul_left ga p2
  have hpc : ga * p ≤ co := by omega
  obtain ⟨nn, nn1, nn2⟩ := h.2.get.2.1 sd (by omega)
  have nn1' : xI M 2101 0 (16 + sd) = nI nn := nn1
  have hcoT : co ≤ pT P := by
    obtain ⟨n', e1, e2⟩ := h.2.get.1 sd (by omega)
    have e1' : xI M 2101 0 sd = nI n' := e1
    rw [hco] at e1'
    have := nI_inj600 e1' (by omega) (by omega)
    omega
  have hst := h.start (sd := sd) (p := p) (by omega) hga hga2 nn1' (by omega) hco hco2 hpc hec hec2 hN
  obtain ⟨C1, hC1⟩ : ∃ C1, C1 = uI (uI (uI (uI C 2012 (pb P) sd (nI (nn + 1))) 2011 (pb P) sd (nI (co - ga * p))) 406 0 0 0) 310 0 0 (nI (ga - 20)) := ⟨_, rfl⟩
  obtain ⟨M1, hM1⟩ : ∃ M1, M1 = uI (uI (uI M 2101 0 (16 + sd) (nI (nn + 1))) 2101 0 sd (nI (co - ga * p))) 1154 0 0 0 := ⟨_, rfl⟩
  rw [← hC1, ← hM1] at hst
  have q1 : xI M1 2101 0 sd = nI (co - ga * p) := by rw [hM1, I_ne (by decide), I_uI, if_pos ⟨rfl, rfl, rfl⟩]
  have q2 : xI M1 2101 0 (16 + sd) ≠ 0 := by
    rw [hM1, I_ne (by decide), I_uI, if_neg (fun y => by have := y.2.2; omega), I_uI, if_pos ⟨rfl, rfl, rfl⟩]
    exact nI_ne0 (by omega) (by omega)
  have q3 : xI C1 310 0 0 = nI (ga - 20) := by rw [hC1, I_uI, if_pos ⟨rfl, rfl, rfl⟩]
  obtain ⟨C2, R, r, g, sz, hr, e1, e2, e3, e4, e5, e6, e7, e8⟩ := MS.effect (P := rp P (pT P - ga * p) (pN P + 601) (20 * ec + (ga - 19))) (show TXF (rp P (pT P - ga * p) (pN P + 601) (20 * ec + (ga - 19))) k sd nc v ga mo tp from hx0) hst q1 (by omega) (by omega) q2 q3
  have e6c : MS (rp P (pT P - ga * p) (pN P + 601) (20 * ec + (ga - 19))) 0 0 sz sz (uI C2 408 0 0 (nI r)) R := e6.scrC 408 (Or.inr rfl) _
  have gC : ∀ f i j, cmod (pb P) f i = false → xI (uI C2 408 0 0 (nI r)) f i j = xI (pC P) f i j := fun f i j hm => e6c.1.FA f i j hm
  have gM : ∀ f j, mmod (pk P) f j = false → xI R f 0 j = xI (pM P) f 0 j := fun f j hm => e6.1.FB f 0 j hm
  obtain ⟨bk, bk1, bk2⟩ := e6.1.RB.1
  obtain ⟨us, hus⟩ : ∃ us, us = usedN (ga - g) bk := ⟨_, rfl⟩
  obtain ⟨ul1, ul2⟩ := usedN_le (ga - g) bk
  rw [← hus] at ul1 ul2
  have hT1 : pT P - ga * p + ga * p = pT P := by omega
  obtain ⟨C', x, B, z, s1, s2, s3, s4, s5, s6, s7, s8, s9, s10, s11⟩ := MS.settle e6c (i1 := 40 * pc P + k) (sd := sd) (ga := ga) (p := p) (ba := ba) (pr := pr) (g := g) (bk := bk) (us := us) (by omega) (by omega) hga2 (by omega) p1 (by omega) (by omega) (by rw [I_ne (by decide), e3]) bk1 (by omega) hus (by rw [gC _ _ _ (by simp [cmod]), x1]) (by rw [gC _ _ _ (by simp [cmod]), x6]) (by rw [gC _ _ _ (by simp [cmod]), b5]) (by rw [gC _ _ _ (by simp [cmod]), b3])
  rw [hT1] at s11
  have hprice : fX7_priceAt C (40 * pc P + k) (xI C 5 (pb P) 0) = nI p := by
    rw [fC 5 _ _ (by simp [cmod]), b5, hp]
    exact cPrice hmo (by omega) (by omega) (by rw [fC _ _ _ (by simp [cmod]), x7]) (by rw [fC _ _ _ (by simp [cmod]), x8])
  have eT := cTransact (C := C) (i1 := 40 * pc P + k) (nc := nc) (v := v) (ba := ba) h.1.RF.1 h.1.RF.2 (show sd < 16 by omega) hga (by rw [fC _ _ _ (by simp [cmod]), x1]) (by rw [fC _ _ _ (by simp [cmod]), x2]) (by rw [fC _ _ _ (by simp [cmod]), x4]) (by rw [fC _ _ _ (by simp [cmod]), x6]) hprice (by rw [h.1.eII (by omega), nn1']) (by rw [h.1.eI (by omega), hco]) hpc hC1
  have g9 : ∀ f j, f ≠ 310 → f ≠ 406 → f ≠ 2011 → f ≠ 2012 → xI C f (40 * pc P + k) j = xI C1 f (40 * pc P + k) j := fun f j a1 a2 a3 a4 => by rw [hC1, I_ne a1, I_ne a2, I_ne a3, I_ne a4]
  rw [g9 709 0 (by decide) (by decide) (by decide) (by decide), g9 703 0 (by decide) (by decide) (by decide) (by decide), g9 705 0 (by decide) (by decide) (by decide) (by decide)] at eT
  have eS := e1 (fun W w => fX4_settleGas (uI W 408 0 0 w) (pb P) (pb P) (40 * pc P + k) (nI p) (xI (uI W 408 0 0 w) 706 (40 * pc P + k) 0 - xI (uI W 408 0 0 w) 310 0 0))
  have hTr : fX4_transact C (pb P) (pb P) (40 * pc P + k) = some C' := by
    refine eT.trans (eS.trans ?_)
    rw [gC 706 _ _ (by simp [cmod]), x6, I_ne (show 310 ≠ 408 by decide), e3]
    exact s8
  have hRu := eRuns (M := M) (R := R) (c := pc P) (k := k) (sd := sd) (ga := ga) (p := p) (ba := ba) (pr := pr) (blk := pk P) (nn := nn) (co := co) (g := g) (bk := bk) (us := us) (w := r) (x := x) (B := B) (z := z) (n2 := n2) (u0 := u0) (mo := mo) (tp := tp) z3 hk (by omega) (by omega) hga2 hp hmo hba htp z2 (by rw [fM _ _ (by simp [mmod]), y1]) (by rw [fM _ _ (by simp [mmod]), y6]) (by rw [fM _ _ (by simp [mmod]), y7]) (by rw [fM _ _ (by simp [mmod]), y8]) nn1' hco hpc h.1.ST.1 (by rw [← hM1]; exact e2) (by rw [gM _ _ (by simp [mmod]), y6]) e4 (by omega) bk1 (by omega) hus s1 s3 s5 e6.1.ST.2.2.1 (by rw [gM _ _ (by simp [mmod]), y22]) e5 hr hn2 (by rw [gM _ _ (by simp [mmod]), m2129]) (by rw [gM _ _ (by simp [mmod]), m2125])
  obtain ⟨ec', ec1, ec2⟩ := e6.1.EC.1
  have ec2' : 20 * ec' + sz ≤ 20 * ec + (ga - 19) := ec2
  refine ⟨C', _, us, r, ec', hTr, hRu, hr, by omega, by omega, s9, s10 _ (by rw [I_uI, if_pos ⟨rfl, rfl, rfl⟩]), ?_, by omega, ?_⟩
  · rw [I_ne (by decide), I_ne (by decide), I_ne (by decide), I_ne (by decide), I_ne (by decide), I_ne (by decide)]
    exact ec1
  · refine ⟨MS0.base s11.1 (fun _ _ _ _ => rfl) (fun _ _ _ _ => rfl) (fun f hf i j => ?_) (fun _ _ => rfl) s11.1.FA (fun f i j hm => ?_) s11.1.FL (fun f i j => ?_), sCS_cg (fun i j => by rw [I_ne (by decide), I_ne (by decide), I_ne (by decide)]) s11.2⟩
    · have ne : ∀ a, ([1160, 2100, 2108, 2109, 2120, 2122, 2124, 2125, 2126, 2127, 2128, 2129, 2131, 2133] : List Nat).contains a = true → f ≠ a := fun a ha y => by rw [y, ha] at hf; exact absurd hf (by decide)
      rw [I_ne (ne _ rfl), I_ne (ne _ rfl), I_ne (ne _ rfl)]
    · exact uI_pt (uI_pt (uI_pt (s11.1.FB f i j hm)))
    · rw [L_uI, L_uI, L_uI]
      exact s11.1.FM f i j
