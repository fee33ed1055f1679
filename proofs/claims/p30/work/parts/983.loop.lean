/-- a block being made, behind n transactions -/
def INV (D : XD) (Cb C2 M1 : XO) (c p N0 n u0 : Nat) (X Y C M : XO) : Prop :=
  (∃ v v' w', MS (24 * c + dnb D c, 24 * c + dnb D c, c, 80000, N0 + 601 * n, 800, X, Y) 0 0 0 0 (uI C 406 0 0 v) (uI (uI M 1154 0 0 v') 1153 0 0 w')) ∧
  (xI X 8 (24 * c + dnb D c) 0 = nI n ∧ xI X 6 (24 * c + dnb D c) 0 = nI u0 ∧ xI Y 2129 0 (24 * c + dnb D c) = nI n ∧ xI Y 2125 0 (24 * c + dnb D c) = nI u0 ∧ 16 * n ≤ u0 ∧ u0 ≤ 600) ∧
  (∀ j, j < n → ∃ u t e : Nat, u ≤ 600 ∧ t < dnt D c ∧ e ≤ 1 ∧ xI X 2000 (24 * c + dnb D c) j = nI (100000 * u + 10 * t + e) ∧ xI Y 2131 0 (40 * (24 * c + dnb D c) + j) = nI (100000 * u + 10 * t + e)) ∧
  (∀ j, n ≤ j → j < 40 → xI X 2000 (24 * c + dnb D c) j = xI Y 2131 0 (40 * (24 * c + dnb D c) + j)) ∧
  (∀ t, t < 40 → (b64 (xL X 17 (24 * c + dnb D c) 0) t ↔ b64 (xL Cb 17 (24 * c + p) 0) t ∨ ∃ j, j < n ∧ rowN Y (24 * c + dnb D c) t j)) ∧
  (∀ k i j, ¬ (i = 24 * c + dnb D c ∧ (k = 8 ∨ k = 6 ∨ k = 2000)) → xI X k i j = xI C2 k i j) ∧ (∀ k i j, ¬ (k = 17 ∧ i = 24 * c + dnb D c) → xL X k i j = xL C2 k i j) ∧
  (∀ k i j, ¬ (k = 2129 ∧ j = 24 * c + dnb D c) → ¬ (k = 2125 ∧ j = 24 * c + dnb D c) → ¬ (k = 2131 ∧ j / 40 = 24 * c + dnb D c) → xI Y k i j = xI M1 k i j) ∧ (∀ k i j, xL Y k i j = xL M1 k i j) ∧
  (∃ ec, xI M 2130 0 (24 * c + dnb D c) = nI ec ∧ 16 * ec ≤ u0)
/-- the worlds ahead of the transactions -/
def BAS (D : XD) (Cb Mb C2 M1 : XO) (c p pr : Nat) (B : Int32) : Prop := (∀ k i, 700 ≤ k → k ≤ 712 → xI C2 k i 0 = xI Cb k i 0) ∧ (∀ k j, k = 2108 ∨ (2111 ≤ k ∧ k ≤ 2119) → xI M1 k 0 j = xI Mb k 0 j) ∧ (∀ b, b < dnb D c → xI M1 2129 0 (24 * c + b) = xI Mb 2129 0 (24 * c + b) ∧ xI M1 2120 0 (24 * c + b) = xI Mb 2120 0 (24 * c + b) ∧ ∀ j, j < 40 → xI M1 2131 0 (40 * (24 * c + b) + j) = xI Mb 2131 0 (40 * (24 * c + b) + j)) ∧ (xI C2 5 (24 * c + dnb D c) 0 = B ∧ xI M1 2124 0 (24 * c + dnb D c) = B ∧ xI C2 3 (24 * c + dnb D c) 0 = nI pr ∧ xI M1 2122 0 (24 * c + dnb D c) = nI pr ∧ pr < 6 ∧ xI M1 2120 0 (24 * c + dnb D c) = nI p ∧ 1 ≤ B.toInt)
theorem nI_dec {n : Nat} (h : n < 40) : nI (40 - n) + (-1 : Int32) = nI (40 - (n + 1)) := by
  obtain ⟨k, hk⟩ : ∃ k, 40 - n = k + 1 := ⟨39 - n, by omega⟩
  rw [hk, show 40 - (n + 1) = k by omega, show (-1 : Int32) = -(1 : Int32) from rfl, ← Int32.sub_eq_add_neg, nI_pred]
theorem inv_stage {D : XD} {Cb Mb C2 M1 : XO} (h : RGD D Cb Mb) {c p pr N0 n u0 : Nat} {B : Int32} (hc : c < 2) (hnb : dnb D c < 24) (hp : p < dnb D c) (hb : BAS D Cb Mb C2 M1 c p pr B) {X Y C M : XO} (hi : INV D Cb C2 M1 c p N0 n u0 X Y C M) : ∃ r, fX1_bestFor C c (24 * c + dnb D c) = some (adr c r) ∧ fX11_pick M (nI c) (nI (dnb D c)) = some (enc r) ∧ ∀ s, r = some s → s < dnt D c ∧ ∃ sd nc v ga mo tp ba co : Nat, (sd < 6 ∧ nc ≤ 9 ∧ v ≤ 10000 ∧ 20 ≤ ga ∧ ga ≤ 600 ∧ 1 ≤ mo ∧ mo ≤ 100 ∧ tp ≤ mo) ∧ xI Cb 701 (40 * c + s) 0 = nI sd ∧ xI Cb 702 (40 * c + s) 0 = nI nc ∧ xI Cb 704 (40 * c + s) 0 = nI v ∧ xI Cb 706 (40 * c + s) 0 = nI ga ∧ xI Cb 707 (40 * c + s) 0 = nI mo ∧ xI Cb 708 (40 * c + s) 0 = nI tp ∧ B = nI ba ∧ 1 ≤ ba ∧ ba ≤ mo ∧ u0 + ga ≤ 600 ∧ xI M 2101 0 sd = nI co ∧ v + ga * mo ≤ co ∧ co ≤ 80000 := by
  obtain ⟨⟨v, v', w', hms⟩, ⟨i1, i2, i3, i4, i5, i6⟩, hrow, hrow2, hheld, hX, hXL, hY, hYL, ec, ec1, ec2⟩ := hi
  obtain ⟨b1, b2, b3, b5, b6, b7, b8, b9, b10, b11⟩ := hb
  have fC : ∀ f i j, cmod (24 * c + dnb D c) f i = false → f ≠ 406 → xI C f i j = xI X f i j := fun f i j hm hf => by
    have := hms.1.FA f i j hm
    rw [I_ne hf] at this
    exact this
  have fM : ∀ f j, mmod (24 * c + dnb D c) f j = false → f ≠ 1154 → f ≠ 1153 → xI M f 0 j = xI Y f 0 j := fun f j hm h1 h2 => by
    have := hms.1.FB f 0 j hm
    rw [I_ne h2, I_ne h1] at this
    exact this
  have fL : xL C 17 (24 * c + dnb D c) 0 = xL X 17 (24 * c + dnb D c) 0 := hms.1.FL 17 _ _ (Or.inl (by decide))
  have hrows : rowsOK M (24 * c + dnb D c) n := by
    refine ⟨by rw [fM _ _ (by simp [mmod]) (by decide) (by decide), i3], by omega, fun j hj => ?_⟩
    obtain ⟨u, t, e, r1, r2, r3, r4, r5⟩ := hrow j hj
    exact ⟨u, t, e, r1, by have := (h.NT c hc).2.2; omega, r3, by rw [fM _ _ (by simp [mmod]) (by decide) (by decide), r5]⟩
  have hrN : ∀ t j, rowN M (24 * c + dnb D c) t j ↔ rowN Y (24 * c + dnb D c) t j := fun t j => by
    unfold rowN
    rw [fM _ _ (by simp [mmod]) (by decide) (by decide)]
  have yM : ∀ k j, k = 2108 ∨ (2111 ≤ k ∧ k ≤ 2119) → xI M k 0 j = xI Mb k 0 j := fun k j hk => by
    rw [fM k j (by rcases hk with rfl | ⟨h1, h2⟩; simp [mmod]; simp [mmod]; omega) (by omega) (by omega), hY k 0 j (fun y => by omega) (fun y => by omega) (fun y => by omega), b2 k j hk]
  have st := stage (Hd := fun t => b64 (xL Cb 17 (24 * c + p) 0) t ∨ ∃ j, j < n ∧ rowN M (24 * c + dnb D c) t j) h (C := C) (M := M) (nb := dnb D c) (u0 := u0) (B := B) hc hnb i6
    (fun k i h1 h2 => by rw [fC k i 0 (by simp [cmod]; omega) (by omega), hX k i 0 (fun y => by omega), b1 k i h1 h2]) yM
    (by rw [fC 5 _ _ (by simp [cmod]) (by decide), hX _ _ _ (fun y => by omega), b5]) (by rw [fC 6 _ _ (by simp [cmod]) (by decide), i2]) (by rw [fM _ _ (by simp [mmod]) (by decide) (by decide), i4])
    (fun a ha => by have := hms.1.eI ha; rw [I_ne (by decide), I_ne (by decide), I_ne (by decide)] at this; exact this)
    (fun a ha => by have := hms.1.eII ha; rw [I_ne (by decide), I_ne (by decide), I_ne (by decide)] at this; exact this)
    (fun a ha => by
      obtain ⟨n', e1, e2⟩ := hms.2.get.1 a ha
      have e1' : xI (uI (uI M 1154 0 0 v') 1153 0 0 w') 2101 0 a = nI n' := e1
      rw [I_ne (by decide), I_ne (by decide)] at e1'
      exact ⟨n', e1', e2⟩)
    (fun t ht => eIsNew h hc ht hp hnb (fun b hb => by
      obtain ⟨a1, a2, a3⟩ := b3 b hb
      refine ⟨?_, ?_, fun j hj => ?_⟩
      · rw [fM _ _ (by simp [mmod]) (by decide) (by decide), hY _ _ _ (fun y => by omega) (fun y => by omega) (fun y => by omega), a1]
      · rw [fM _ _ (by simp [mmod]) (by decide) (by decide), hY _ _ _ (fun y => by omega) (fun y => by omega) (fun y => by omega), a2]
      · rw [fM _ _ (by simp [mmod]) (by decide) (by decide), hY _ _ _ (fun y => by omega) (fun y => by omega) (fun y => by omega), a3 j hj]) (by rw [fM _ _ (by simp [mmod]) (by decide) (by decide), hY _ _ _ (fun y => by omega) (fun y => by omega) (fun y => by omega), b10]) hrows)
    (fun t ht => by
      rw [fL, hheld t ht]
      constructor
      · rintro (z | ⟨j, z1, z2⟩)
        · exact Or.inl z
        · exact Or.inr ⟨j, z1, (hrN t j).mpr z2⟩
      · rintro (z | ⟨j, z1, z2⟩)
        · exact Or.inl z
        · exact Or.inr ⟨j, z1, (hrN t j).mp z2⟩) b11
  obtain ⟨s1, s2, s3, s4⟩ := st
  obtain ⟨-, nt2, nt3⟩ := h.NT c hc
  obtain ⟨r, r1, r2, r3⟩ := dBest hc hnb nt3 (by rw [fC 5 _ _ (by simp [cmod]) (by decide), hX _ _ _ (fun y => by omega), b5]) (by rw [fM _ _ (by simp [mmod]) (by decide) (by decide), hY _ _ _ (fun y => by omega) (fun y => by omega) (fun y => by omega), b6]) (by rw [yM _ _ (Or.inl rfl), nt2]) s1 s2 s3
  refine ⟨r, r1, r2, fun s hs => ?_⟩
  obtain ⟨q1, q2⟩ := r3 s hs
  obtain ⟨sd, nc, v, ga, mo, tp, ba, co, a1, a2, a3, a4, a5, a6, a7, a8, a9, a10, a11, a12, a13, a14, -⟩ := s4 s q1 q2
  exact ⟨q1, sd, nc, v, ga, mo, tp, ba, co, a1, a2, a3, a4, a5, a6, a7, a8, a9, a10, a11, a12, a13, a14⟩
