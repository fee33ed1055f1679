theorem inv_step {D : XD} {Cb Mb C2 M1 : XO} (h : RGD D Cb Mb) {c p pr N0 n u0 s : Nat} {B : Int32} (hc : c < 2) (hnb : dnb D c < 24) (hb : BAS D Cb Mb C2 M1 c p pr B) (hN0 : N0 ≤ 600000) {X Y C M : XO} (hi : INV D Cb C2 M1 c p N0 n u0 X Y C M) (hs : s < dnt D c) {sd nc v ga mo tp ba co : Nat} (hbd : sd < 6 ∧ nc ≤ 9 ∧ v ≤ 10000 ∧ 20 ≤ ga ∧ ga ≤ 600 ∧ 1 ≤ mo ∧ mo ≤ 100 ∧ tp ≤ mo) (k1 : xI Cb 701 (40 * c + s) 0 = nI sd) (k2 : xI Cb 702 (40 * c + s) 0 = nI nc) (k4 : xI Cb 704 (40 * c + s) 0 = nI v) (k6 : xI Cb 706 (40 * c + s) 0 = nI ga) (k7 : xI Cb 707 (40 * c + s) 0 = nI mo) (k8 : xI Cb 708 (40 * c + s) 0 = nI tp) (hB : B = nI ba) (hB1 : 1 ≤ ba) (hB2 : ba ≤ mo) (hug : u0 + ga ≤ 600) (hco : xI M 2101 0 sd = nI co) (hvg : v + ga * mo ≤ co) (hco2 : co ≤ 80000) : ∃ us C1 M' X' Y', 16 ≤ us ∧ fX4_transact C (24 * c + dnb D c) (24 * c + dnb D c) (40 * c + s) = some C1 ∧ fX11_runs M (nI c) (nI s) B = some M' ∧ xI C1 700 (40 * c + s) 0 = nI s ∧ (∃ w, w ≤ 1 ∧ us ≤ 600 ∧ ∀ j, xI X' 2000 (24 * c + dnb D c) j = if j = n then nI (100000 * us + 10 * s + w) else xI X 2000 (24 * c + dnb D c) j) ∧ gTX Cb M1 c s sd nc v ga mo tp ∧ INV D Cb C2 M1 c p N0 (n + 1) (u0 + us) X' Y' (fX0_enter C1 (24 * c + dnb D c) (xI C1 700 (40 * c + s) 0) (xI C1 407 0 0) (xI C1 408 0 0)) M' := by
  obtain ⟨⟨q1, q2, q3, hms⟩, ⟨i1, i2, i3, i4, i5, i6⟩, hrow, hrow2, hheld, hX, hXL, hY, hYL, ec, ec1, ec2⟩ := hi
  obtain ⟨b1, b2, b3, b5, b6, b7, b8, b9, b10, b11⟩ := hb
  obtain ⟨-, nt2, nt3⟩ := h.NT c hc
  obtain ⟨t1, t2, t3, t4, t5, t6⟩ := h.TX c hc s hs
  have xT : ∀ k i, 700 ≤ k → k ≤ 712 → xI X k i 0 = xI Cb k i 0 := fun k i h1 h2 => by rw [hX k i 0 (fun y => by omega), b1 k i h1 h2]
  have yT : ∀ k j, 2111 ≤ k → k ≤ 2119 → xI Y k 0 j = xI Mb k 0 j := fun k j h1 h2 => by rw [hY k 0 j (fun y => by omega) (fun y => by omega) (fun y => by omega), b2 k j (Or.inr ⟨h1, h2⟩)]
  have hTXF : TXF (24 * c + dnb D c, 24 * c + dnb D c, c, 80000, N0 + 601 * n, 800, X, Y) s sd nc v ga mo tp := by
    obtain ⟨d1, d2, d3, d4, d5, d6, d7, d8⟩ := hbd
    refine ⟨⟨by omega, d1, d2, d3, d4, d5, d6, d7, d8⟩, ⟨(xT _ _ (by decide) (by decide)).trans k1, ?_⟩, ⟨(xT _ _ (by decide) (by decide)).trans k2, ?_⟩, ⟨(xT _ _ (by decide) (by decide)).trans k4, ?_⟩, ⟨(xT _ _ (by decide) (by decide)).trans k6, ?_⟩, ⟨(xT _ _ (by decide) (by decide)).trans k7, ?_⟩, ⟨(xT _ _ (by decide) (by decide)).trans k8, ?_⟩, ?_⟩
    · exact (yT _ _ (by decide) (by decide)).trans (t1.symm.trans k1)
    · exact (yT _ _ (by decide) (by decide)).trans (t2.symm.trans k2)
    · exact (yT _ _ (by decide) (by decide)).trans (t3.symm.trans k4)
    · exact (yT _ _ (by decide) (by decide)).trans (t4.symm.trans k6)
    · exact (yT _ _ (by decide) (by decide)).trans (t5.symm.trans k7)
    · exact (yT _ _ (by decide) (by decide)).trans (t6.symm.trans k8)
    · rcases h.TK c hc s hs with ⟨e1, g, i, e2, e3, e4, e5, e6, e7⟩ | ⟨lk, e1, e2, e3, e4, e5, e6, e7, e8, e9, ii, e10, e11, e12⟩
      · exact Or.inl ⟨(xT _ _ (by decide) (by decide)).trans e1, g, i, e2, e3, (xT _ _ (by decide) (by decide)).trans e4, (yT _ _ (by decide) (by decide)).trans e5, (xT _ _ (by decide) (by decide)).trans e6, (yT _ _ (by decide) (by decide)).trans e7⟩
      · have hc' : 1 - c < 2 := by omega
        obtain ⟨_, _, lv, _, _, _, -, -, -, -, f5, f6, -⟩ := h.TB (1 - c) hc' lk e1
        have f7 := (h.TX (1 - c) hc' lk e1).2.2.1
        have hlk : lk < 40 := by have := (h.NT (1 - c) hc').2.2; omega
        refine Or.inr ⟨lk, lv, ii, hlk, f6, e11, (xT _ _ (by decide) (by decide)).trans e2, (yT _ _ (by decide) (by decide)).trans e6, (yT _ _ (by decide) (by decide)).trans e7, (xT _ _ (by decide) (by decide)).trans (e8.trans (f7.symm.trans f5)), (yT _ _ (by decide) (by decide)).trans (f7.symm.trans f5), (yT _ _ (by decide) (by decide)).trans e10, (xT _ _ (by decide) (by decide)).trans e12⟩
  have hBKF : BKF (24 * c + dnb D c, 24 * c + dnb D c, c, 80000, N0 + 601 * n, 800, X, Y) ba pr := by
    refine ⟨hB1, b9, ?_, ?_, ?_⟩
    · exact (hX _ _ _ (fun y => by omega)).trans (b5.trans hB)
    · exact (hX _ _ _ (fun y => by omega)).trans b7
    · exact (hY _ _ _ (fun y => by omega) (fun y => by omega) (fun y => by omega)).trans b8
  obtain ⟨C1, M', us, w, ec', a1, a2, a3, a4, a16, a5, a6, a7, a8, a9⟩ := MS.tx hms hTXF hBKF hB2 (co := co) (ec := ec) (n2 := n) (u0 := u0) (by rw [I_ne (by decide), I_ne (by decide), hco]) hvg hco2 (by
    show xI (uI (uI M 1154 0 0 q2) 1153 0 0 q3) 2130 0 (24 * c + dnb D c) = nI ec
    rw [I_ne (by decide), I_ne (by decide), ec1]) (by omega) (by omega) i3 i4 (by show N0 + 601 * n + 601 ≤ 1000000; omega)
  have a1' : fX4_transact C (24 * c + dnb D c) (24 * c + dnb D c) (40 * c + s) = some C1 := by
    rw [← transact406 (v := q1)]
    exact a1
  have a2' : fX11_runs M (nI c) (nI s) B = some M' := by
    rw [← runs1154 (v := q2) (w := q3), hB]
    exact a2
  have e8 : xI C1 8 (24 * c + dnb D c) 0 = nI n := (a9.1.FA 8 _ _ (by simp [cmod])).trans i1
  have e6 : xI C1 6 (24 * c + dnb D c) 0 = nI u0 := (a9.1.FA 6 _ _ (by simp [cmod])).trans i2
  have e700 : xI C1 700 (40 * c + s) 0 = nI s := by
    have r1 : xI C1 700 (40 * c + s) 0 = xI X 700 (40 * c + s) 0 := a9.1.FA 700 _ _ (by simp [cmod])
    rw [r1, xT _ _ (by decide) (by decide), h.TN _ (show 40 * c + s < 80 by omega), show (40 * c + s) % 40 = s by omega]
  have hn40 : n < 40 := by omega
  have hcE := cEnter (C := C1) (b := 24 * c + dnb D c) (n := n) (us := us) (k := s) (w := w) (u0 := u0) hn40 a3 e8 e6
  have hnote := MS.noted a9 (n := n) (us := us) (k := s) (w := w) (u0 := u0)
  have hus : u0 + us ≤ 600 := by omega
  have hgx : gTX Cb M1 c s sd nc v ga mo tp := by
    have e : gTX X Y c s sd nc v ga mo tp := hTXF
    have yM : ∀ k j, 2111 ≤ k → k ≤ 2119 → xI Y k 0 j = xI M1 k 0 j := fun k j h1 h2 => hY k 0 j (fun y => by omega) (fun y => by omega) (fun y => by omega)
    have y1 : ∀ j, xI Y 2111 0 j = xI M1 2111 0 j := fun j => yM _ _ (by decide) (by decide)
    have y2 : ∀ j, xI Y 2112 0 j = xI M1 2112 0 j := fun j => yM _ _ (by decide) (by decide)
    have y3 : ∀ j, xI Y 2113 0 j = xI M1 2113 0 j := fun j => yM _ _ (by decide) (by decide)
    have y4 : ∀ j, xI Y 2114 0 j = xI M1 2114 0 j := fun j => yM _ _ (by decide) (by decide)
    have y5 : ∀ j, xI Y 2115 0 j = xI M1 2115 0 j := fun j => yM _ _ (by decide) (by decide)
    have y6 : ∀ j, xI Y 2116 0 j = xI M1 2116 0 j := fun j => yM _ _ (by decide) (by decide)
    have y7 : ∀ j, xI Y 2117 0 j = xI M1 2117 0 j := fun j => yM _ _ (by decide) (by decide)
    have y8 : ∀ j, xI Y 2118 0 j = xI M1 2118 0 j := fun j => yM _ _ (by decide) (by decide)
    unfold gTX at e ⊢
    simp only [y1, y2, y3, y4, y5, y6, y7, y8] at e
    rw [xT 701 _ (by decide) (by decide), xT 702 _ (by decide) (by decide), xT 703 _ (by decide) (by decide), xT 704 _ (by decide) (by decide), xT 705 _ (by decide) (by decide), xT 706 _ (by decide) (by decide), xT 707 _ (by decide) (by decide), xT 708 _ (by decide) (by decide), xT 709 _ (by decide) (by decide), xT 710 _ (by decide) (by decide), xT 711 _ (by decide) (by decide)] at e
    exact e
  refine ⟨us, C1, M', tlC X (24 * c + dnb D c) n us s w u0, tlM Y (24 * c + dnb D c) n us s w u0, a16, a1', a2', e700, ⟨w, a3, by omega, fun j => ?_⟩, hgx, ?_⟩
  · unfold tlC
    rw [I_uL, I_ne (by decide), I_ne (by decide), I_uI]
    by_cases z : j = n
    · rw [if_pos ⟨rfl, rfl, z⟩, if_pos z]
    · rw [if_neg (fun y => z y.2.2), if_neg z]
  rw [e700, a5, a6, hcE]
  have hb48 : 24 * c + dnb D c < 48 := by omega
  have yrow : ∀ j, j < 40 → xI (tlM Y (24 * c + dnb D c) n us s w u0) 2131 0 (40 * (24 * c + dnb D c) + j) = if j = n then nI (100000 * us + 10 * s + w) else xI Y 2131 0 (40 * (24 * c + dnb D c) + j) := fun j hj => by
    unfold tlM
    rw [I_ne (by decide), I_ne (by decide), I_uI]
    by_cases z : j = n
    · rw [if_pos ⟨rfl, rfl, by omega⟩, if_pos z]
    · rw [if_neg (fun y => by have := y.2.2; omega), if_neg z]
  have xrow : ∀ j, xI (tlC X (24 * c + dnb D c) n us s w u0) 2000 (24 * c + dnb D c) j = if j = n then nI (100000 * us + 10 * s + w) else xI X 2000 (24 * c + dnb D c) j := fun j => by
    unfold tlC
    rw [I_uL, I_ne (by decide), I_ne (by decide), I_uI]
    by_cases z : j = n
    · rw [if_pos ⟨rfl, rfl, z⟩, if_pos z]
    · rw [if_neg (fun y => z y.2.2), if_neg z]
  refine ⟨⟨xI (tlC C1 (24 * c + dnb D c) n us s w u0) 406 0 0, xI M' 1154 0 0, xI M' 1153 0 0, ?_⟩, ⟨?_, ?_, ?_, ?_, by omega, hus⟩, fun j hj => ?_, fun j hj hj2 => ?_, fun t ht => ?_, fun k i j hk => ?_, fun k i j hk => ?_, fun k i j hk1 hk2 hk3 => ?_, fun k i j => ?_, ec', a7, by omega⟩
  · rw [uI_same rfl, uI_same rfl, uI_same rfl]
    have e601 : N0 + 601 * (n + 1) = N0 + 601 * n + 601 := by omega
    rw [e601]
    exact hnote
  · unfold tlC
    rw [I_uL, I_ne (by decide), I_uI, if_pos ⟨rfl, rfl, rfl⟩]
  · unfold tlC
    rw [I_uL, I_uI, if_pos ⟨rfl, rfl, rfl⟩]
  · unfold tlM
    rw [I_ne (by decide), I_uI, if_pos ⟨rfl, rfl, rfl⟩]
  · unfold tlM
    rw [I_uI, if_pos ⟨rfl, rfl, rfl⟩]
  · rw [xrow, yrow j (by omega)]
    by_cases z : j = n
    · rw [if_pos z, if_pos z]
      exact ⟨us, s, w, by omega, hs, a3, rfl, rfl⟩
    · rw [if_neg z, if_neg z]
      exact hrow j (by omega)
  · rw [xrow, yrow j hj2, if_neg (by omega), if_neg (by omega)]
    exact hrow2 j (by omega) hj2
  · have e17 : xL (tlC X (24 * c + dnb D c) n us s w u0) 17 (24 * c + dnb D c) 0 = xL X 17 (24 * c + dnb D c) 0 ||| ((1 : Int64) <<< ((nI s).toInt64 &&& 63)) := by
      unfold tlC
      rw [L_uL, if_pos ⟨rfl, rfl, rfl⟩]
    rw [e17, b64_set (by omega) (by omega), hheld t ht]
    have hne : ∀ j, j < n → (rowN (tlM Y (24 * c + dnb D c) n us s w u0) (24 * c + dnb D c) t j ↔ rowN Y (24 * c + dnb D c) t j) := fun j hj => by
      unfold rowN
      rw [yrow j (by omega), if_neg (by omega)]
    have hnn : rowN (tlM Y (24 * c + dnb D c) n us s w u0) (24 * c + dnb D c) t n ↔ t = s := by
      unfold rowN
      rw [yrow n hn40, if_pos rfl]
      constructor
      · rintro ⟨u, e, r1, r2, r3⟩
        have := nI_inj600 r3 (by omega) (by omega)
        omega
      · intro z
        exact ⟨us, w, by omega, a3, by rw [z]⟩
    constructor
    · rintro ((z | ⟨j, z1, z2⟩) | z)
      · exact Or.inl z
      · exact Or.inr ⟨j, by omega, (hne j z1).mpr z2⟩
      · exact Or.inr ⟨n, by omega, hnn.mpr z⟩
    · rintro (z | ⟨j, z1, z2⟩)
      · exact Or.inl (Or.inl z)
      · by_cases zj : j = n
        · rw [zj] at z2
          exact Or.inr (hnn.mp z2)
        · exact Or.inl (Or.inr ⟨j, by omega, (hne j (by omega)).mp z2⟩)
  · unfold tlC
    rw [I_uL, I_uI, if_neg (fun y => hk ⟨y.2.1, Or.inr (Or.inl y.1)⟩), I_uI, if_neg (fun y => hk ⟨y.2.1, Or.inl y.1⟩), I_uI, if_neg (fun y => hk ⟨y.2.1, Or.inr (Or.inr y.1)⟩)]
    exact hX k i j hk
  · unfold tlC
    rw [L_uL, if_neg (fun y => hk ⟨y.1, y.2.1⟩), L_uI, L_uI, L_uI]
    exact hXL k i j hk
  · unfold tlM
    rw [I_uI, if_neg (fun y => hk2 ⟨y.1, y.2.2⟩), I_uI, if_neg (fun y => hk1 ⟨y.1, y.2.2⟩), I_uI, if_neg (fun y => hk3 ⟨y.1, by have := y.2.2; omega⟩)]
    exact hY k i j hk1 hk2 hk3
  · unfold tlM
    rw [L_uI, L_uI, L_uI]
    exact hYL k i j
/-- the reference's worlds between a block's transactions -/
def GHI (D : XD) (Cb M1 : XO) (c b : Nat) (B : Int32) (n : Nat) (X M : XO) : Prop := ∃ (G : Nat → XO) (ks : Nat → Nat), G 0 = M1 ∧ G n = M ∧ ∀ j, j < n → ks j < dnt D c ∧ (∃ u e : Nat, u ≤ 600 ∧ e ≤ 1 ∧ xI X 2000 b j = nI (100000 * u + 10 * ks j + e)) ∧ (∃ sd nc v ga mo tp co ec : Nat, gTX Cb M1 c (ks j) sd nc v ga mo tp ∧ B.toInt ≤ mo ∧ v + ga * mo ≤ co ∧ co ≤ 80000 ∧ 16 * ec + ga ≤ 600 ∧ xI (G j) 2101 0 sd = nI co ∧ xI (G j) 2130 0 b = nI ec) ∧ fX11_runs (G j) (nI c) (nI (ks j)) B = some (G (j + 1))
theorem GHI.zero {D : XD} {Cb M1 X : XO} {c b : Nat} {B : Int32} : GHI D Cb M1 c b B 0 X M1 := ⟨fun _ => M1, fun _ => 0, rfl, rfl, fun j hj => absurd hj (by omega)⟩
theorem GHI.next {D : XD} {Cb M1 X X' M M' : XO} {c b n s us w sd nc v ga mo tp co ec : Nat} {B : Int32} (h : GHI D Cb M1 c b B n X M) (hs : s < dnt D c) (hus : us ≤ 600) (hw : w ≤ 1) (hX : ∀ j, xI X' 2000 b j = if j = n then nI (100000 * us + 10 * s + w) else xI X 2000 b j) (hg : gTX Cb M1 c s sd nc v ga mo tp) (hB : B.toInt ≤ mo) (hv : v + ga * mo ≤ co) (hco2 : co ≤ 80000) (hec2 : 16 * ec + ga ≤ 600) (hco : xI M 2101 0 sd = nI co) (hec : xI M 2130 0 b = nI ec) (hr : fX11_runs M (nI c) (nI s) B = some M') : GHI D Cb M1 c b B (n + 1) X' M' := by
  obtain ⟨G, ks, g0, gn, gs⟩ := h
  refine ⟨fun j => if j = n + 1 then M' else G j, fun j => if j = n then s else ks j, ?_, if_pos rfl, fun j hj => ?_⟩
  · dsimp only
    rw [if_neg (by omega), g0]
  · dsimp only
    by_cases z : j = n
    · rw [if_pos z, if_neg (show ¬ j = n + 1 by omega), if_pos (show j + 1 = n + 1 by omega), hX, if_pos z, z, gn]
      exact ⟨hs, ⟨us, w, hus, hw, rfl⟩, ⟨sd, nc, v, ga, mo, tp, co, ec, hg, hB, hv, hco2, hec2, hco, hec⟩, hr⟩
    · rw [if_neg z, if_neg (show ¬ j = n + 1 by omega), if_neg (show ¬ j + 1 = n + 1 by omega), hX, if_neg z]
      exact gs j (by omega)
/-- the transactions of a block, one behind the other, on both sides -/
theorem inv_loop {D : XD} {Cb Mb C2 M1 : XO} (h : RGD D Cb Mb) {c p pr N0 : Nat} {B : Int32} (hc : c < 2) (hnb : dnb D c < 24) (hp : p < dnb D c) (hb : BAS D Cb Mb C2 M1 c p pr B) (hN0 : N0 ≤ 600000) : ∀ (m n u0 : Nat) (X Y C M : XO), INV D Cb C2 M1 c p N0 n u0 X Y C M → GHI D Cb M1 c (24 * c + dnb D c) B n X M → n + m = 41 → ∃ n' u' X' Y' C' M' y r y', INV D Cb C2 M1 c p N0 n' u' X' Y' C' M' ∧ GHI D Cb M1 c (24 * c + dnb D c) B n' X' M' ∧ fX1_grow_l35 (24 * c + dnb D c) c m (nI (40 - n)) C = some (y, C') ∧ fX11_pick M (nI c) (nI (dnb D c)) = some r ∧ fX11_make_l270 (nI c) (nI (dnb D c)) (m + 1) r M = some (y', M') := by
  intro m
  induction m with
  | zero =>
    intro n u0 X Y C M hi hgi hm
    have := hi.2.1
    omega
  | succ m ih =>
    intro n u0 X Y C M hi hgi hm
    have hi2 := hi.2.1
    have hn40 : n < 40 := by omega
    obtain ⟨r, r1, r2, r3⟩ := inv_stage h hc hnb hp hb hi
    cases r with
    | none =>
      refine ⟨n, u0, X, Y, C, M, nI (40 - n), enc none, -1, hi, hgi, ?_, r2, ?_⟩
      · rw [fX1_grow_l35, if_neg (nI_nle (by omega) (by omega)), r1, Option.bind_some]
        rfl
      · rw [fX11_make_l270, if_pos (by decide)]
        rfl
    | some s =>
      have nt40 := (h.NT c hc).2.2
      obtain ⟨s1, sd, nc, v, ga, mo, tp, ba, co, a1, a2, a3, a4, a5, a6, a7, a8, a9, a10, a11, a12, a13, a14⟩ := r3 s rfl
      obtain ⟨us, C1, M', X', Y', d16, d1, d2, d3, ⟨dw, dw1, dw2, dw3⟩, dg, d4⟩ := inv_step h hc hnb hb hN0 hi s1 a1 a2 a3 a4 a5 a6 a7 a8 a9 a10 a11 a12 a13 a14
      obtain ⟨ec, ec1, ec2⟩ := hi.2.2.2.2.2.2.2.2.2
      have hBt : B.toInt ≤ mo := by rw [a8, ti_nI (show ba < 2147483648 by omega)]; omega
      have hgi2 := hgi.next s1 dw2 dw1 dw3 dg hBt a13 a14 (ec := ec) (by omega) a12 ec1 d2
      obtain ⟨n', u', X2, Y2, C3, M3, y, r', y', e1, eg, e2, e3, e4⟩ := ih (n + 1) (u0 + us) X' Y' _ M' d4 hgi2 (by omega)
      have hms := hi.1
      obtain ⟨q1, q2, q3, hms⟩ := hms
      have hblk : xI M 1158 0 0 = nI (24 * c + dnb D c) := by
        have := hms.1.ST.2.2.1
        rw [I_ne (by decide), I_ne (by decide)] at this
        exact this
      have hB : xI M 2124 0 (24 * c + dnb D c) = B := by
        have r1 : xI (uI (uI M 1154 0 0 q2) 1153 0 0 q3) 2124 0 (24 * c + dnb D c) = xI Y 2124 0 (24 * c + dnb D c) := hms.1.FB 2124 _ _ (by simp [mmod])
        rw [I_ne (by decide), I_ne (by decide)] at r1
        rw [r1, hi.2.2.2.2.2.2.2.1 _ _ _ (fun y => by omega) (fun y => by omega) (fun y => by omega)]
        exact hb.2.2.2.2.1
      refine ⟨n', u', X2, Y2, C3, M3, y, enc (some s), y', e1, eg, ?_, r2, ?_⟩
      · rw [fX1_grow_l35, if_neg (nI_nle (by omega) (by omega)), r1, Option.bind_some]
        show (fX4_transact C (24 * c + dnb D c) (24 * c + dnb D c) (40 * c + s)).bind _ = _
        rw [d1, Option.bind_some]
        unfold wl
        dsimp only
        rw [nI_dec hn40]
        exact e2
      · rw [show enc (some s) = nI s from rfl, fX11_make_l270, if_neg (nI_nlt0 (by omega)), hblk, if_pos (inB_nI (by omega) (by decide)), cl_nI (show 24 * c + dnb D c < 2147483648 by omega), hB, d2, Option.bind_some, e3, Option.bind_some]
        exact e4
