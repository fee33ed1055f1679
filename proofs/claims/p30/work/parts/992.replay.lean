/-- the bench's state is that of a block -/
def SBn (C M : XO) (q : Nat) : Prop := (∀ j, j < 16 → xI C 2011 48 j = xI M 2100 0 (120 * q + j)) ∧ (∀ j, j < 16 → xI C 2012 48 j = xI M 2100 0 (120 * q + (16 + j))) ∧ (∀ j, j < 16 → xI C 2013 48 j = xI M 2100 0 (120 * q + (32 + j))) ∧ (∀ j, j < 64 → xI C 2014 48 j = xI M 2100 0 (120 * q + (48 + j))) ∧ xI C 604 48 0 = xI M 2100 0 (120 * q + 112) ∧ ∀ t, t < 40 → (b64 (xL C 605 48 0) t ↔ b32 (xI M 2100 0 (120 * q + (113 + t / 20))) (t % 20))
/-- the machines at the start of a block done anew -/
theorem rStart {D : XD} {Cb Mb C2 W : XO} (h : RGD D Cb Mb) {c p b pr : Nat} (hc : c < 2) (hp : p < dnb D c) (hb : b < 48) (fr : ∀ k i j, cmod 48 k i = false → ¬ (i = 48 ∧ (k = 3 ∨ k = 5)) → xI C2 k i j = xI Cb k i j) (hs : SBn C2 Mb (24 * c + p)) (h10 : xI C2 10 48 0 = 0) (hR : xR C2 403 0 = 48 ∧ xR C2 404 0 = 48) (h405 : xI C2 405 0 0 = if xI Cb 2 b 0 < xI Cb 104 c 0 then 100 else 150) (hw : gW Cb W c b pr) (hst : ∀ x, x < 120 → xI W 2101 0 x = xI Mb 2100 0 (120 * (24 * c + p) + x)) : MS (48, b, c, 80000, 25000 * p, 800, C2, W) 0 0 0 0 (uI C2 406 0 0 0) (uI (uI W 1154 0 0 0) 1153 0 0 0) := by
  have eM : ∀ k i j, k ≠ 1154 → k ≠ 1153 → xI (uI (uI W 1154 0 0 0) 1153 0 0 0) k i j = xI W k i j := fun k i j h1 h2 => by rw [I_ne h2, I_ne h1]
  have eC : ∀ k i j, k ≠ 406 → xI (uI C2 406 0 0 0) k i j = xI C2 k i j := fun k i j h1 => I_ne h1
  obtain ⟨w1, w2, w3, w4, w5, w6, w7, w8, w9, w10⟩ := hw
  obtain ⟨s1, s2, s3, s4, s5, s6⟩ := hs
  have pr2 := h.PR
  have nb := (h.NB c hc).2.2.2
  refine ⟨⟨⟨by show 48 ≤ 48; omega, hb, hc, Nat.le_refl _, by show 25000 * p ≤ 1000000; omega, Nat.le_refl _⟩, ?_, fun i hi => absurd hi (by omega), fun i hi => absurd hi (by omega), fun j hj hj2 => ?_, ⟨fun t ht => ?_, fun i hi => absurd hi (by omega)⟩, ⟨hR.1, hR.2⟩, ⟨by rw [I_uI, if_pos ⟨rfl, rfl, rfl⟩]; rfl, ?_, ?_, ?_, by omega⟩, fun q hq => ?_, fun i hi => absurd hi (by omega), fun i hi => absurd hi (by omega), fun i hi => absurd hi (by omega), fun i hi => absurd hi (by omega), fun i hi => absurd hi (by omega), ⟨fun _ => 0, fun i hi => absurd hi (by omega), Nat.le_refl _, by omega⟩, ⟨⟨0, ?_, by show 20 * 0 + 0 ≤ 800; omega⟩, fun i hi => absurd hi (by omega)⟩, ⟨⟨0, ?_, by omega⟩, fun i hi => absurd hi (by omega)⟩, fun k i j hk => ?_, fun k i j hk => ?_, fun k i j hk => ?_, fun k i j => ?_⟩, ?_⟩
  · show LN 48 0 b (uI C2 406 0 0 0) (uI (uI W 1154 0 0 0) 1153 0 0 0)
    refine LN0 (fun j hj => ?_) (fun j hj => ?_) (fun j hj => ?_) (fun j hj => ?_) ?_ ?_ ?_ (fun j hj => ?_) (fun j hj => ?_) (fun j hj => ?_)
    · rw [eC _ _ _ (by decide), eM _ _ _ (by decide) (by decide), s1 j hj, hst _ (by omega)]
    · rw [eC _ _ _ (by decide), eM _ _ _ (by decide) (by decide), s2 j hj, hst _ (by omega)]
    · rw [eC _ _ _ (by decide), eM _ _ _ (by decide) (by decide), s3 j hj, hst _ (by omega)]
    · rw [eC _ _ _ (by decide), eM _ _ _ (by decide) (by decide), s4 j hj, hst _ (by omega)]
    · rw [eC _ _ _ (by decide), eM _ _ _ (by decide) (by decide), s5, hst _ (by omega)]
    · rw [eC _ _ _ (by decide), eM _ _ _ (by decide) (by decide), h10, w4]
    · rw [I_uI, if_pos ⟨rfl, rfl, rfl⟩, I_ne (by decide), I_uI, if_pos ⟨rfl, rfl, rfl⟩]
    · rw [eC _ _ _ (by decide), eM _ _ _ (by decide) (by decide), fr _ _ _ (by simp [cmod]) (by omega), (w9 j hj).1]
    · rw [eC _ _ _ (by decide), eM _ _ _ (by decide) (by decide), fr _ _ _ (by simp [cmod]) (by omega), (w9 j hj).2]
    · rw [eC _ _ _ (by decide), eM _ _ _ (by decide) (by decide), fr _ _ _ (by simp [cmod]) (by omega), w10 j hj]
  · exfalso
    have e0 : (0 : Int32).toInt = 0 := rfl
    rcases hj2 with hj2 | ⟨i, hi, -⟩
    · have : xI (uI C2 406 0 0 0) 10 48 0 = 0 := by rw [eC _ _ _ (by decide), h10]
      have hj3 : (j : Int) < (xI (uI C2 406 0 0 0) 10 48 0).toInt := hj2
      rw [this, e0] at hj3
      omega
    · omega
  · show b64 (xL (uI C2 406 0 0 0) 605 48 0) t ↔ b32 (xI (uI (uI W 1154 0 0 0) 1153 0 0 0) 2101 0 (113 + t / 20)) (t % 20)
    rw [L_uI, eM _ _ _ (by decide) (by decide), hst _ (by omega)]
    exact s6 t ht
  · rw [eM _ _ _ (by decide) (by decide)]
    exact w1
  · rw [eM _ _ _ (by decide) (by decide)]
    exact w2
  · show xI (uI C2 406 0 0 0) 405 0 0 = if xI (uI (uI W 1154 0 0 0) 1153 0 0 0) 2121 0 b < xI (uI (uI W 1154 0 0 0) 1153 0 0 0) 2107 0 c then 100 else 150
    rw [eC _ _ _ (by decide), eM _ _ _ (by decide) (by decide), eM _ _ _ (by decide) (by decide), w7, w8, h405]
  · obtain ⟨e1, n, n1, n2, n3⟩ := pr2.2 q hq
    refine ⟨n, n1, ?_, fun j hj => ?_⟩
    · rw [eM _ _ _ (by decide) (by decide), ← w10 q hq, n2]
    · obtain ⟨o, a, o1, o2, o3, o4⟩ := n3 j hj
      have ej := w9 (20 * q + j) (by omega)
      exact ⟨o, a, o1, by rw [eM _ _ _ (by decide) (by decide), ← ej.1, o2], by rw [eM _ _ _ (by decide) (by decide), ← ej.2, o3], o4⟩
  · rw [eM _ _ _ (by decide) (by decide)]
    exact w4
  · rw [I_ne (by decide), I_uI, if_pos ⟨rfl, rfl, rfl⟩]
    rfl
  · rw [eC k i j (fun y => by subst y; exact absurd hk (by simp [cmod]))]
    rfl
  · rw [eM k i j (fun y => by subst y; exact absurd hk (by simp [mmod])) (fun y => by subst y; exact absurd hk (by simp [mmod]))]
    rfl
  · rw [L_uI]
    rfl
  · rw [L_uI, L_uI]
    rfl
  · have hsi := h.SI c hc p hp
    obtain ⟨u, u1, u2, u3, u4⟩ := hsi
    refine ⟨u, fun j hj => ?_, u2, fun a ha => ⟨?_, (u3 a ha).2⟩, u4⟩
    · dsimp only
      rw [eM _ _ _ (by decide) (by decide), hst _ (by omega)]
      exact u1 j hj
    · have := (u3 a ha).1
      show u (16 + a) + 0 ≤ 25000 * p
      omega
theorem eRow2 {u t e : Nat} (hu : u ≤ 600) (ht : t < 40) (he : e ≤ 1) : (nI (100000 * u + 10 * t + e) - nI (100000 * u + 10 * t + e) / 100000 * 100000) / 10 = nI t := by
  have e0 : (nI (100000 * u + 10 * t + e)).toInt = (100000 * u + 10 * t + e : Nat) := ti_nI (by omega)
  have e10 : (10 : Int32).toInt = 10 := rfl
  have e4 : (100000 : Int32).toInt = 100000 := rfl
  have e1 : (nI (100000 * u + 10 * t + e) - nI (100000 * u + 10 * t + e) / 100000 * 100000).toInt = (10 * t + e : Nat) := by
    rw [ti_rem (by rw [e0]; omega) (by rw [e4]; omega), e0, e4]
    omega
  rw [ti_eq, ti_div (by rw [e1]; omega) (by rw [e10]; omega), e1, e10, ti_nI (by omega)]
  omega
/-- a block's transactions done anew -/
theorem rLoop {Cb C2 W : XO} {c b p pr ba n nt y2 y4 : Nat} {y5 y6 : Int32} {G : Nat → XO} {ks : Nat → Nat} (hc : c < 2) (hb : b < 48) (hp : p < 24) (hnt : nt ≤ 40) (hn40 : n ≤ 40) (hba1 : 1 ≤ ba) (hpr : pr < 6)
    (fr : ∀ k i j, cmod 48 k i = false → ¬ (i = 48 ∧ (k = 3 ∨ k = 5)) → xI C2 k i j = xI Cb k i j) (h5 : xI C2 5 48 0 = nI ba) (h3 : xI C2 3 48 0 = nI pr) (hw3 : xI W 2122 0 b = nI pr) (h8 : xI Cb 8 b 0 = nI n)
    (st : ∀ j, j < n → ks j < nt ∧ (∃ u e : Nat, u ≤ 600 ∧ e ≤ 1 ∧ xI Cb 2000 b j = nI (100000 * u + 10 * ks j + e)) ∧ (∃ sd nc v ga mo tp co ec : Nat, gTX Cb W c (ks j) sd nc v ga mo tp ∧ ba ≤ mo ∧ v + ga * mo ≤ co ∧ co ≤ 80000 ∧ 16 * ec + ga ≤ 600 ∧ xI (G j) 2101 0 sd = nI co ∧ xI (G j) 2130 0 b = nI ec) ∧ fX11_runs (G j) (nI c) (nI (ks j)) (nI ba) = some (G (j + 1))) :
    ∀ (m j u0 : Nat) (Y C : XO) (v v' w' : Int32), j + m = n → MS (48, b, c, 80000, 25000 * p + 601 * j, 800, C2, Y) 0 0 0 0 (uI C 406 0 0 v) (uI (uI (G j) 1154 0 0 v') 1153 0 0 w') → (∀ k i j, k ≠ 2129 → k ≠ 2125 → k ≠ 2131 → xI Y k i j = xI W k i j) → xI Y 2129 0 b = nI j → xI Y 2125 0 b = nI u0 → ∃ C' y9 v v' w' Y', (∀ x, fX1_runAnew_l69 b y6 y5 y4 48 c y2 (m + 1 + x) (nI j) C = some (y9, C')) ∧ MS (48, b, c, 80000, 25000 * p + 601 * n, 800, C2, Y') 0 0 0 0 (uI C' 406 0 0 v) (uI (uI (G n) 1154 0 0 v') 1153 0 0 w') := by
  intro m
  induction m with
  | zero =>
    intro j u0 Y C v v' w' hj hms hY h29 h25
    have e : j = n := by omega
    subst e
    refine ⟨C, nI j, v, v', w', Y, fun x => ?_, hms⟩
    have e8 : xI C 8 b 0 = nI j := by
      have r1 : xI (uI C 406 0 0 v) 8 b 0 = xI C2 8 b 0 := hms.1.FA 8 _ _ (by simp [cmod])
      rw [I_ne (by decide)] at r1
      rw [r1, fr _ _ _ (by simp [cmod]) (by omega), h8]
    rw [show 0 + 1 + x = x + 1 by omega, fX1_runAnew_l69, e8, if_pos (Int32.le_refl _)]
  | succ m ih =>
    intro j u0 Y C v v' w' hj hms hY h29 h25
    obtain ⟨k1, ⟨u, e, k2, k3, k4⟩, ⟨sd, nc, vv, ga, mo, tp, co, ec, k5, k6, k7, k8, k9, k10, k11⟩, k12⟩ := st j (by omega)
    have fC : ∀ k i j, cmod 48 k i = false → k ≠ 406 → ¬ (i = 48 ∧ (k = 3 ∨ k = 5)) → xI C k i j = xI Cb k i j := fun k i j h1 h2 h3 => by
      have r1 : xI (uI C 406 0 0 v) k i j = xI C2 k i j := hms.1.FA k _ _ h1
      rw [I_ne h2] at r1
      rw [r1, fr _ _ _ h1 h3]
    have e8 : xI C 8 b 0 = nI n := by rw [fC _ _ _ (by simp [cmod]) (by decide) (by omega), h8]
    have hti : fX0_transactionIn C b (nI j) = nI (ks j) := by
      unfold fX0_transactionIn
      rw [sAt_nI (show j < alen 2000 from by show j < 40; omega) (by decide), fC _ _ _ (by simp [cmod]) (by decide) (by omega), k4, eRow2 k2 (by omega) k3]
    have hnum : fX1_numbered C c (nI (ks j)) = 40 * c + ks j := by
      unfold fX1_numbered
      rw [if_neg (nI_nlt0 (by omega)), if_neg (show ¬ (40 : Int32) ≤ nI (ks j) from nI_ge (b := 40) (by omega) (by decide)), cl_nI (by omega)]
    have hTXF : TXF (48, b, c, 80000, 25000 * p + 601 * j, 800, C2, Y) (ks j) sd nc vv ga mo tp := by
      show gTX C2 Y c (ks j) sd nc vv ga mo tp
      have i48 : ∀ k, 701 ≤ k → k ≤ 711 → xI C2 k (40 * c + ks j) 0 = xI Cb k (40 * c + ks j) 0 := fun k h1 h2 => fr _ _ _ (by
        rcases txk h1 h2 with rfl | rfl | rfl | rfl | rfl | rfl | rfl | rfl | rfl | rfl | rfl <;> simp [cmod]) (by omega)
      have y1 : ∀ j, xI Y 2111 0 j = xI W 2111 0 j := fun j => hY _ _ _ (by decide) (by decide) (by decide)
      have y2 : ∀ j, xI Y 2112 0 j = xI W 2112 0 j := fun j => hY _ _ _ (by decide) (by decide) (by decide)
      have y3 : ∀ j, xI Y 2113 0 j = xI W 2113 0 j := fun j => hY _ _ _ (by decide) (by decide) (by decide)
      have y4 : ∀ j, xI Y 2114 0 j = xI W 2114 0 j := fun j => hY _ _ _ (by decide) (by decide) (by decide)
      have y5 : ∀ j, xI Y 2115 0 j = xI W 2115 0 j := fun j => hY _ _ _ (by decide) (by decide) (by decide)
      have y6 : ∀ j, xI Y 2116 0 j = xI W 2116 0 j := fun j => hY _ _ _ (by decide) (by decide) (by decide)
      have y7 : ∀ j, xI Y 2117 0 j = xI W 2117 0 j := fun j => hY _ _ _ (by decide) (by decide) (by decide)
      have y8 : ∀ j, xI Y 2118 0 j = xI W 2118 0 j := fun j => hY _ _ _ (by decide) (by decide) (by decide)
      unfold gTX at k5 ⊢
      simp only [y1, y2, y3, y4, y5, y6, y7, y8]
      rw [i48 701 (by decide) (by decide), i48 702 (by decide) (by decide), i48 703 (by decide) (by decide), i48 704 (by decide) (by decide), i48 705 (by decide) (by decide), i48 706 (by decide) (by decide), i48 707 (by decide) (by decide), i48 708 (by decide) (by decide), i48 709 (by decide) (by decide), i48 710 (by decide) (by decide), i48 711 (by decide) (by decide)]
      exact k5
    have hBKF : BKF (48, b, c, 80000, 25000 * p + 601 * j, 800, C2, Y) ba pr := ⟨hba1, hpr, h5, h3, (hY _ _ _ (by decide) (by decide) (by decide)).trans hw3⟩
    obtain ⟨C1, M', us, w, ec', a1, a2, a3, a4, a16, a5, a6, a7, a8, a9⟩ := MS.tx hms hTXF hBKF k6 (co := co) (ec := ec) (n2 := j) (u0 := u0) (by rw [I_ne (by decide), I_ne (by decide), k10]) k7 k8 (by
      show xI (uI (uI (G j) 1154 0 0 v') 1153 0 0 w') 2130 0 b = nI ec
      rw [I_ne (by decide), I_ne (by decide), k11]) (by omega) (by omega) h29 h25 (by show 25000 * p + 601 * j + 601 ≤ 1000000; omega)
    have a1' : fX4_transact C 48 48 (40 * c + ks j) = some C1 := by
      rw [← transact406 (v := v)]
      exact a1
    have a2' : fX11_runs (G j) (nI c) (nI (ks j)) (nI ba) = some M' := by
      rw [← runs1154 (v := v') (w := w')]
      exact a2
    have hM : M' = G (j + 1) := Option.some.inj (a2'.symm.trans k12)
    have hms2 : MS (48, b, c, 80000, 25000 * p + 601 * (j + 1), 800, C2, tlM Y b j us (ks j) w u0) 0 0 0 0 (uI C1 406 0 0 (xI C1 406 0 0)) (uI (uI (G (j + 1)) 1154 0 0 (xI M' 1154 0 0)) 1153 0 0 (xI M' 1153 0 0)) := by
      rw [← hM, uI_same rfl, uI_same (A := M') rfl, uI_same rfl, show 25000 * p + 601 * (j + 1) = 25000 * p + 601 * j + 601 by omega]
      exact a9
    obtain ⟨C', y9, v2, v3, v4, Y', f1, f2⟩ := ih (j + 1) (u0 + us) (tlM Y b j us (ks j) w u0) C1 _ _ _ (by omega) hms2 (fun k i j h1 h2 h3 => by
      unfold tlM
      rw [I_ne h2, I_ne h1, I_ne h3, hY k i j h1 h2 h3]) (by
      unfold tlM
      rw [I_ne (by decide), I_uI, if_pos ⟨rfl, rfl, rfl⟩]) (by
      unfold tlM
      rw [I_uI, if_pos ⟨rfl, rfl, rfl⟩])
    refine ⟨C', y9, v2, v3, v4, Y', fun x => ?_, f2⟩
    rw [show m + 1 + 1 + x = (m + 1 + x) + 1 by omega, fX1_runAnew_l69, e8, if_neg (nI_ge (by omega) (by omega)), hti, hnum, a1', Option.bind_some, nI_1]
    exact f1 x
