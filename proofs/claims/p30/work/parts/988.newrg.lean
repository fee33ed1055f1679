def mkD (D : XD) (c p : Nat) : XD := (fun x => if x = c then dnb D c + 1 else dnb D x, dnt D, dfn D, fun x y => if x = c ∧ y = dnb D c then p else dpa D x y)
theorem Anc_cg {p q : Nat → Nat} : ∀ (n b x : Nat), b ≤ n → (∀ z, z ≤ b → 0 < z → p z < z) → (∀ z, z ≤ b → p z = q z) → (Anc p b x ↔ Anc q b x) := by
  intro n
  induction n with
  | zero =>
    intro b x hb hp he
    have e : b = 0 := by omega
    subst e
    rw [Anc_iff (par := p) hp, Anc_iff (par := q) (b := 0) (fun z hz h0 => by rw [← he z hz]; exact hp z hz h0)]
    constructor
    · rintro (z | ⟨z, -⟩)
      · exact Or.inl z
      · exact absurd z (by omega)
    · rintro (z | ⟨z, -⟩)
      · exact Or.inl z
      · exact absurd z (by omega)
  | succ n ih =>
    intro b x hb hp he
    rw [Anc_iff (par := p) hp, Anc_iff (par := q) (b := b) (fun z hz h0 => by rw [← he z hz]; exact hp z hz h0)]
    by_cases h0 : 0 < b
    · have hpb := hp b (Nat.le_refl _) h0
      rw [← he b (Nat.le_refl _), ih (p b) x (by omega) (fun z hz h1 => hp z (by omega) h1) (fun z hz => he z (by omega))]
    · constructor
      · rintro (z | ⟨z, -⟩)
        · exact Or.inl z
        · exact absurd z h0
      · rintro (z | ⟨z, -⟩)
        · exact Or.inl z
        · exact absurd z h0
theorem mkD_nb {D : XD} {c p x : Nat} : dnb (mkD D c p) x = if x = c then dnb D c + 1 else dnb D x := rfl
theorem mkD_pa {D : XD} {c p x y : Nat} : dpa (mkD D c p) x y = if x = c ∧ y = dnb D c then p else dpa D x y := rfl
theorem mkD_old {D : XD} {C M : XO} (h : RGD D C M) {c p c' b x : Nat} (hc' : c' < 2) (hb : b < dnb D c') : Anc (dpa (mkD D c p) c') b x ↔ Anc (dpa D c') b x := by
  refine (Anc_cg b b x (Nat.le_refl _) (h.par hc' hb) (fun z hz => ?_)).symm
  rw [mkD_pa, if_neg]
  rintro ⟨rfl, z2⟩
  omega
theorem mkD_new {D : XD} {C M : XO} (h : RGD D C M) {c p x : Nat} (hc : c < 2) (hp : p < dnb D c) : Anc (dpa (mkD D c p) c) (dnb D c) x ↔ x = dnb D c ∨ Anc (dpa D c) p x := by
  have hpar : ∀ z, z ≤ dnb D c → 0 < z → dpa (mkD D c p) c z < z := fun z hz h0 => by
    rw [mkD_pa]
    by_cases q : z = dnb D c
    · rw [if_pos ⟨rfl, q⟩]
      omega
    · rw [if_neg (fun y => q y.2)]
      exact (h.PA c hc z (by omega)).2 h0
  rw [Anc_iff hpar, show dpa (mkD D c p) c (dnb D c) = p from if_pos ⟨rfl, rfl⟩, mkD_old h hc hp]
  constructor
  · rintro (z | ⟨-, z⟩)
    · exact Or.inl z
    · exact Or.inr z
  · rintro (z | z)
    · exact Or.inl z
    · exact Or.inr ⟨by omega, z⟩
theorem toL_add {x y : Int32} (h1 : -2147483648 ≤ x.toInt + y.toInt) (h2 : x.toInt + y.toInt < 2147483648) : (x + y).toInt64 = x.toInt64 + y.toInt64 := by
  apply Int64.toInt_inj.mp
  rw [Int32.toInt_toInt64, ti_add h1 h2, Int64.toInt_add, Int32.toInt_toInt64, Int32.toInt_toInt64, bm64 (by omega) (by omega)]
/-- keys of the class that the making of a block changes -/
def mkC : List Nat := [2, 3, 4, 5, 6, 8, 10, 11, 12, 16, 2000, 2001, 2011, 2012, 2013, 2014, 604, 101]
def mkM : List Nat := [2120, 2121, 2122, 2124, 2125, 2127, 2128, 2129, 2130, 2131, 2132, 2100, 2109]
theorem make_rg {D : XD} {Cb Mb C M : XO} (h : RGD D Cb Mb) {c p pr n u ec wt : Nat} {B acc : Int32} (hc : c < 2) (hnb : dnb D c < 24) (hp : p < dnb D c)
    (cA : ∀ k, scr k = false → mkC.contains k = false → agI k Cb C) (mA : ∀ k, scr k = false → mkM.contains k = false → agI k Mb M) (lA : ∀ k, k ≠ 605 → k ≠ 17 → agL k Cb C) (nA : ∀ k, k ≠ 2123 → k ≠ 2017 → agL k Mb M)
    (cB : ∀ k i j, i ≠ 24 * c + dnb D c → i < 48 → k ≠ 101 → scr k = false → xI C k i j = xI Cb k i j) (c101 : ∀ i j, i ≠ c → xI C 101 i j = xI Cb 101 i j) (c101n : xI C 101 c 0 = nI (dnb D c + 1))
    (mB : ∀ k j, j ≠ 24 * c + dnb D c → k = 2120 ∨ k = 2121 ∨ k = 2122 ∨ k = 2124 ∨ k = 2125 ∨ k = 2127 ∨ k = 2128 ∨ k = 2129 ∨ k = 2130 → xI M k 0 j = xI Mb k 0 j) (mB4 : ∀ k j, j / 40 ≠ 24 * c + dnb D c → k = 2131 ∨ k = 2132 → xI M k 0 j = xI Mb k 0 j) (mB1 : ∀ j, j / 120 ≠ 24 * c + dnb D c → xI M 2100 0 j = xI Mb 2100 0 j) (m2109 : ∀ j, j ≠ c → xI M 2109 0 j = xI Mb 2109 0 j) (m2109n : xI M 2109 0 c = nI (dnb D c + 1))
    (lB : ∀ k i j, i ≠ 24 * c + dnb D c → i < 48 → xL C k i j = xL Cb k i j) (nB : ∀ j, j ≠ 24 * c + dnb D c → xL M 2123 0 j = xL Mb 2123 0 j)
    (e2 : xI C 2 (24 * c + dnb D c) 0 = xI Cb 2 (24 * c + p) 0 + 1) (e2m : xI M 2121 0 (24 * c + dnb D c) = xI C 2 (24 * c + dnb D c) 0)
    (e3 : xI C 3 (24 * c + dnb D c) 0 = xI M 2122 0 (24 * c + dnb D c)) (e4 : xI C 4 (24 * c + dnb D c) 0 = xI Cb 4 (24 * c + p) 0 + nI wt) (hwt : wt ≤ 9) (e4m : xL M 2123 0 (24 * c + dnb D c) = xL Mb 2123 0 (24 * c + p) + (nI wt).toInt64)
    (e5 : xI C 5 (24 * c + dnb D c) 0 = B) (e5m : xI M 2124 0 (24 * c + dnb D c) = B) (hB : 1 ≤ B.toInt) (e6 : xI C 6 (24 * c + dnb D c) 0 = xI M 2125 0 (24 * c + dnb D c)) (e8 : xI C 8 (24 * c + dnb D c) 0 = nI n) (e8m : xI M 2129 0 (24 * c + dnb D c) = nI n) (hn : n ≤ 40)
    (e10 : xI C 10 (24 * c + dnb D c) 0 = nI ec) (e10m : xI M 2130 0 (24 * c + dnb D c) = nI ec) (hec : ec ≤ 40) (e11 : xI C 11 (24 * c + dnb D c) 0 = acc) (e11m : xI M 2128 0 (24 * c + dnb D c) = acc) (e12 : xI C 12 (24 * c + dnb D c) 0 = xI M 2127 0 (24 * c + dnb D c))
    (e16 : xI C 16 (24 * c + dnb D c) 0 = (xI Cb 16 (24 * c + p) 0 ||| ((1 : Int32) <<< (nI (dnb D c) &&& 31)))) (e20 : xI M 2120 0 (24 * c + dnb D c) = nI p)
    (erow : ∀ j, j < 40 → xI C 2000 (24 * c + dnb D c) j = xI M 2131 0 (40 * (24 * c + dnb D c) + j)) (erow2 : ∀ j, j < n → ∃ u t e : Nat, u ≤ 600 ∧ t < dnt D c ∧ e ≤ 1 ∧ xI C 2000 (24 * c + dnb D c) j = nI (100000 * u + 10 * t + e))
    (eheld : ∀ t, t < 40 → (b64 (xL C 17 (24 * c + dnb D c) 0) t ↔ b64 (xL Cb 17 (24 * c + p) 0) t ∨ ∃ j, j < n ∧ ∃ u e : Nat, u ≤ 600 ∧ e ≤ 1 ∧ xI C 2000 (24 * c + dnb D c) j = nI (100000 * u + 10 * t + e)))
    (eev : ∀ j, j < ec → xI C 2001 (24 * c + dnb D c) j = xI M 2132 0 (40 * (24 * c + dnb D c) + j) ∧ ∃ p a : Nat, xI C 2001 (24 * c + dnb D c) j = nI (100 * p + a) ∧ p < 16 ∧ a < 16) (ebl : ∀ j, j < ec → ∀ p a : Nat, p < 16 → a < 16 → xI C 2001 (24 * c + dnb D c) j = nI (100 * p + a) → acc &&& blm p = blm p)
    (est : qS1 C M (24 * c + dnb D c)) (epd : ∀ t, t < 40 → (b64 (xL C 605 (24 * c + dnb D c) 0) t ↔ b32 (xI M 2100 0 (120 * (24 * c + dnb D c) + 113 + t / 20)) (t % 20))) (esi : stOK (fun j => xI M 2100 0 (120 * (24 * c + dnb D c) + j)) 80000 (25000 * dnb D c) 0)
    (ert : ∀ (W : XO) (i : Nat), (∀ j, j < 16 → xI W 2011 i j = xI C 2011 (24 * c + dnb D c) j) → (∀ j, j < 16 → xI W 2012 i j = xI C 2012 (24 * c + dnb D c) j) → (∀ j, j < 16 → xI W 2013 i j = xI C 2013 (24 * c + dnb D c) j) → (∀ j, j < 64 → xI W 2014 i j = xI C 2014 (24 * c + dnb D c) j) → fX10_nodeOver W i (4 : Int32) (0 : Int32) = xI C 12 (24 * c + dnb D c) 0) (egh : gH C M c (24 * c + dnb D c) (24 * c + p) (dnt D c)) : RGD (mkD D c p) C M := by
  have hnb1 : 1 ≤ dnb D c := by omega
  have hle : ∀ x, dnb D x ≤ dnb (mkD D c p) x := fun x => by
    rw [mkD_nb]
    by_cases z : x = c
    · rw [if_pos z, z]; omega
    · rw [if_neg z]; exact Nat.le_refl _
  have hlt : ∀ c', c' < 2 → dnb D c' ≤ 24 := fun c' hc' => (h.NB c' hc').2.2.2
  have spl : ∀ c' b', c' < 2 → b' < dnb (mkD D c p) c' → (c' = c ∧ b' = dnb D c) ∨ (b' < dnb D c' ∧ 24 * c' + b' ≠ 24 * c + dnb D c ∧ 24 * c' + b' < 48) := fun c' b' hc' hb' => by
    have := hlt c' hc'
    rw [mkD_nb] at hb'
    by_cases z : c' = c
    · rw [if_pos z] at hb'
      by_cases z2 : b' = dnb D c
      · exact Or.inl ⟨z, z2⟩
      · rw [z]
        exact Or.inr ⟨by omega, by omega, by omega⟩
    · rw [if_neg z] at hb'
      exact Or.inr ⟨hb', by omega, by omega⟩
  have spl2 : ∀ c' b', c' < 2 → b' < 24 → (c' = c ∧ b' = dnb D c) ∨ (24 * c' + b' ≠ 24 * c + dnb D c ∧ 24 * c' + b' < 48 ∧ (dnb (mkD D c p) c' ≤ b' → dnb D c' ≤ b')) := fun c' b' hc' hb' => by
    by_cases z : c' = c ∧ b' = dnb D c
    · exact Or.inl z
    · exact Or.inr ⟨by omega, by omega, fun y => Nat.le_trans (hle c') y⟩
  have oM : ∀ k x, x ≠ 24 * c + dnb D c → (k = 2120 ∨ k = 2121 ∨ k = 2122 ∨ k = 2124 ∨ k = 2125 ∨ k = 2127 ∨ k = 2128 ∨ k = 2129 ∨ k = 2130) → xI M k 0 x = xI Mb k 0 x := fun k x => mB k x
  have hb48 : 24 * c + dnb D c < 48 := by omega
  have hgp : 24 * c + p ≠ 24 * c + dnb D c := by omega
  have hgp2 : 24 * c + p < 48 := by omega
  have a13 : ∀ i, xI C 13 i 0 = xI Cb 13 i 0 := fun i => cA 13 rfl rfl i 0
  have a14 : ∀ i, xI C 14 i 0 = xI Cb 14 i 0 := fun i => cA 14 rfl rfl i 0
  have a15 : ∀ i, xI C 15 i 0 = xI Cb 15 i 0 := fun i => cA 15 rfl rfl i 0
  have gNB : qNB (dnb (mkD D c p)) C M := by
    intro c' hc'
    rw [mkD_nb]
    by_cases z : c' = c
    · subst z
      rw [if_pos rfl]
      exact ⟨c101n, m2109n, by omega, by omega⟩
    · rw [if_neg z]
      obtain ⟨h1, h2, h3⟩ := h.NB c' hc'
      exact ⟨by rw [c101 c' 0 z, h1], by rw [m2109 c' z, h2], h3⟩
  have gFN : qFN (mkD D c p) C M := by
    intro c' hc'
    obtain ⟨h1, h2, h3⟩ := h.FN c' hc'
    exact ⟨(cA 201 rfl rfl c' 0).trans h1, (mA 2110 rfl rfl 0 c').trans h2, Nat.lt_of_lt_of_le h3 (hle c')⟩
  have gB2 : qB2 (mkD D c p) C M := by
    intro i hi
    obtain ⟨h1, h2, h3, h4, h5, h6, h7, h8, h9⟩ := h.B2 i hi
    have t8 : xI C 13 i 0 = xI M 2126 0 i := by rw [a13, h8]; exact (mA 2126 rfl rfl 0 i).symm
    have t9 : xI C 14 i 0 = xI M 2133 0 i := by rw [a14, h9]; exact (mA 2133 rfl rfl 0 i).symm
    by_cases z : i = 24 * c + dnb D c
    · rw [z] at t8 t9 ⊢
      exact ⟨e2m.symm, e3, e6, e8.trans e8m.symm, e10.trans e10m.symm, e11.trans e11m.symm, e12, t8, t9⟩
    · refine ⟨?_, ?_, ?_, ?_, ?_, ?_, ?_, t8, t9⟩
      · rw [cB 2 i 0 z hi (by decide) rfl, oM 2121 i z (by decide), h1]
      · rw [cB 3 i 0 z hi (by decide) rfl, oM 2122 i z (by decide), h2]
      · rw [cB 6 i 0 z hi (by decide) rfl, oM 2125 i z (by decide), h3]
      · rw [cB 8 i 0 z hi (by decide) rfl, oM 2129 i z (by decide), h4]
      · rw [cB 10 i 0 z hi (by decide) rfl, oM 2130 i z (by decide), h5]
      · rw [cB 11 i 0 z hi (by decide) rfl, oM 2128 i z (by decide), h6]
      · rw [cB 12 i 0 z hi (by decide) rfl, oM 2127 i z (by decide), h7]
  have gRW : qRW (mkD D c p) C M := by
    intro i hi j hj
    by_cases z : i = 24 * c + dnb D c
    · rw [z]; exact erow j hj
    · rw [cB 2000 i j z hi (by decide) rfl, mB4 2131 _ (by omega) (Or.inl rfl)]
      exact h.RW i hi j hj
  have t10 : (xI C 10 (24 * c + dnb D c) 0).toInt = ec := by rw [e10, ti_nI (by omega)]
  have t8 : (xI C 8 (24 * c + dnb D c) 0).toInt = n := by rw [e8, ti_nI (by omega)]
  have gEV : qEV (mkD D c p) C M := by
    intro i hi j hj hj2
    by_cases z : i = 24 * c + dnb D c
    · rw [z] at hj2 ⊢
      rw [t10] at hj2
      exact (eev j (by omega)).1
    · rw [cB 10 i 0 z hi (by decide) rfl] at hj2
      rw [cB 2001 i j z hi (by decide) rfl, mB4 2132 _ (by omega) (Or.inr rfl)]
      exact h.EV i hi j hj hj2
  have gST : qST (mkD D c p) C M := by
    intro i hi
    by_cases z : i = 24 * c + dnb D c
    · rw [z]; exact est
    · obtain ⟨h1, h2, h3, h4, h5⟩ := h.ST i hi
      refine ⟨fun j hj => ?_, fun j hj => ?_, fun j hj => ?_, fun j hj => ?_, ?_⟩
      · rw [cB 2011 i j z hi (by decide) rfl, mB1 _ (by omega), h1 j hj]
      · rw [cB 2012 i j z hi (by decide) rfl, mB1 _ (by omega), h2 j hj]
      · rw [cB 2013 i j z hi (by decide) rfl, mB1 _ (by omega), h3 j hj]
      · rw [cB 2014 i j z hi (by decide) rfl, mB1 _ (by omega), h4 j hj]
      · rw [cB 604 i 0 z hi (by decide) rfl, mB1 _ (by omega), h5]
  have gPD : qPD (mkD D c p) C M := by
    intro i hi t ht
    by_cases z : i = 24 * c + dnb D c
    · rw [z]; exact epd t ht
    · rw [lB 605 i 0 z hi, mB1 _ (by omega)]
      exact h.PD i hi t ht
  have gBS : qBS (mkD D c p) C M := by
    intro c' hc' b' hb'
    rcases spl c' b' hc' hb' with ⟨rfl, rfl⟩ | ⟨k1, k2, k3⟩
    · rw [e5, e5m]
    · rw [cB 5 _ 0 k2 k3 (by decide) rfl, oM 2124 _ k2 (by decide)]
      exact h.BS c' hc' b' k1
  have gTO : qTO (mkD D c p) C M := by
    intro c' hc' b' hb'
    rcases spl c' b' hc' hb' with ⟨rfl, rfl⟩ | ⟨k1, k2, k3⟩
    · obtain ⟨h1, h2, h3⟩ := h.TO c' hc' p hp
      have hw : (nI wt).toInt = wt := ti_nI (by omega)
      have hs : (xI Cb 4 (24 * c' + p) 0 + nI wt).toInt = (xI Cb 4 (24 * c' + p) 0).toInt + wt := by rw [ti_add (by rw [hw]; omega) (by rw [hw]; omega), hw]
      rw [e4, e4m, h1, hs]
      exact ⟨(toL_add (by rw [hw]; omega) (by rw [hw]; omega)).symm, by omega, by omega⟩
    · rw [cB 4 _ 0 k2 k3 (by decide) rfl, nB _ k2]
      exact h.TO c' hc' b' k1
  have gPA : qPA (mkD D c p) C M := by
    intro c' hc' b' hb'
    rcases spl c' b' hc' hb' with ⟨rfl, rfl⟩ | ⟨k1, k2, k3⟩
    · have e : dpa (mkD D c' p) c' (dnb D c') = p := if_pos ⟨rfl, rfl⟩
      rw [e, if_neg (show ¬ dnb D c' = 0 by omega)]
      exact ⟨e20, fun _ => hp⟩
    · have e : dpa (mkD D c p) c' b' = dpa D c' b' := if_neg (fun y => k2 (by rw [y.1, y.2]))
      rw [e, oM 2120 _ k2 (by decide)]
      exact h.PA c' hc' b' k1
  have gHT : qHT (mkD D c p) C M := by
    intro c' hc'
    obtain ⟨h1, h2⟩ := h.HT c' hc'
    refine ⟨by rw [cB 2 _ 0 (by omega) (by omega) (by decide) rfl, h1], fun b' hb' => ?_⟩
    rw [mkD_pa]
    rcases spl c' b' hc' hb' with ⟨rfl, rfl⟩ | ⟨k1, k2, k3⟩
    · rw [if_pos ⟨rfl, rfl⟩, cB 2 (24 * c' + p) 0 hgp hgp2 (by decide) rfl, e2]
      obtain ⟨⟨q1, q2⟩, -⟩ := h2 p hp
      have e1 : (1 : Int32).toInt = 1 := rfl
      have hs : (xI Cb 2 (24 * c' + p) 0 + 1).toInt = (xI Cb 2 (24 * c' + p) 0).toInt + 1 := by rw [ti_add (by rw [e1]; omega) (by rw [e1]; omega), e1]
      rw [hs]
      exact ⟨⟨by omega, by omega⟩, fun _ => rfl⟩
    · obtain ⟨q1, q2⟩ := h2 b' k1
      have hpa := (h.PA c' hc' b' k1).2
      rw [if_neg (fun y => k2 (by rw [y.1, y.2])), cB 2 _ 0 k2 k3 (by decide) rfl]
      refine ⟨q1, fun h0 => ?_⟩
      have hp' := hpa h0
      have := hlt c' hc'
      rw [cB 2 (24 * c' + dpa D c' b') 0 (by
        by_cases zc : c' = c
        · rw [zc] at hp' k1 ⊢; omega
        · omega) (by omega) (by decide) rfl]
      exact q2 h0
  have gLN : qLN (mkD D c p) C M := by
    intro c' hc'
    obtain ⟨h1, h2⟩ := h.LN c' hc'
    refine ⟨fun b' hb' x hx => ?_, fun b' hb' hb2 => ?_⟩
    · rcases spl c' b' hc' hb' with ⟨rfl, rfl⟩ | ⟨k1, k2, k3⟩
      · rw [e16, b32_set (by omega) (by omega), h1 p hp x hx, mkD_new h hc' hp]
        exact Or.comm
      · rw [cB 16 _ 0 k2 k3 (by decide) rfl, mkD_old h hc' k1]
        exact h1 b' k1 x hx
    · rcases spl2 c' b' hc' hb2 with ⟨rfl, rfl⟩ | ⟨k1, k2, k3⟩
      · rw [mkD_nb, if_pos rfl] at hb'
        exact absurd hb' (by omega)
      · rw [cB 16 _ 0 k1 k2 (by decide) rfl]
        exact h2 b' (k3 hb') hb2
  have gRC : qRC (mkD D c p) C M := by
    intro c' hc' b' hb2
    rcases spl2 c' b' hc' hb2 with ⟨rfl, rfl⟩ | ⟨k1, k2, k3⟩
    · rw [t8, t10]
      refine ⟨⟨by omega, by omega, by omega, by omega⟩, fun y => ?_⟩
      rw [mkD_nb, if_pos rfl] at y
      exact absurd y (by omega)
    · obtain ⟨h1, h2⟩ := h.RC c' hc' b' hb2
      rw [cB 8 _ 0 k1 k2 (by decide) rfl, cB 10 _ 0 k1 k2 (by decide) rfl, cB 6 _ 0 k1 k2 (by decide) rfl, cB 11 _ 0 k1 k2 (by decide) rfl, a13, a14, a15, lB 17 _ 0 k1 k2]
      exact ⟨h1, fun y => h2 (k3 y)⟩
  have gRE : qRE (mkD D c p) C M := by
    intro c' hc' b' hb2 j hj
    rcases spl2 c' b' hc' hb2 with ⟨rfl, rfl⟩ | ⟨k1, k2, k3⟩
    · rw [t8] at hj
      obtain ⟨u', t', e', r1, r2, r3, r4⟩ := erow2 j (by omega)
      exact ⟨u', t', e', r4, r1, r2, r3⟩
    · rw [cB 8 _ 0 k1 k2 (by decide) rfl] at hj
      rw [cB 2000 _ j k1 k2 (by decide) rfl]
      exact h.RE c' hc' b' hb2 j hj
  have gEE : qEE (mkD D c p) C M := by
    intro c' hc' b' hb2 j hj
    rcases spl2 c' b' hc' hb2 with ⟨rfl, rfl⟩ | ⟨k1, k2, k3⟩
    · rw [t10] at hj
      exact (eev j (by omega)).2
    · rw [cB 10 _ 0 k1 k2 (by decide) rfl] at hj
      rw [cB 2001 _ j k1 k2 (by decide) rfl]
      exact h.EE c' hc' b' hb2 j hj
  have gBL : qBL (mkD D c p) C M := by
    intro c' hc' b' hb2 j hj p' a' hp' ha' e
    rcases spl2 c' b' hc' hb2 with ⟨rfl, rfl⟩ | ⟨k1, k2, k3⟩
    · rw [t10] at hj
      rw [e11]
      exact ebl j (by omega) p' a' hp' ha' e
    · rw [cB 10 _ 0 k1 k2 (by decide) rfl] at hj
      rw [cB 2001 _ j k1 k2 (by decide) rfl] at e
      rw [cB 11 _ 0 k1 k2 (by decide) rfl]
      exact h.BL c' hc' b' hb2 j hj p' a' hp' ha' e
  have oldx : ∀ c' b' x, c' < 2 → b' < dnb D c' → Anc (dpa D c') b' x → 24 * c' + x ≠ 24 * c + dnb D c ∧ 24 * c' + x < 48 := fun c' b' x hc' hb' ha => by
    have hx := Anc_le b' b' x (Nat.le_refl _) (h.par hc' hb') ha
    have := hlt c' hc'
    by_cases zc : c' = c
    · rw [zc] at hb' ⊢; omega
    · omega
  have gHD : qHD (mkD D c p) C M := by
    intro c' hc' b' hb' t ht
    rcases spl c' b' hc' hb' with ⟨rfl, rfl⟩ | ⟨k1, k2, k3⟩
    · rw [eheld t ht, h.HD c' hc' p hp t ht]
      constructor
      · rintro (⟨x, x1, x2, j, x3, u', e', x4, x5, x6⟩ | ⟨j, j1, u', e', x4, x5, x6⟩)
        · obtain ⟨o1, o2⟩ := oldx c' p x hc' hp x2
          refine ⟨x, x1, (mkD_new h hc' hp).mpr (Or.inr x2), j, ?_, u', e', x4, x5, ?_⟩
          · rw [cB 8 _ 0 o1 o2 (by decide) rfl]; exact x3
          · rw [cB 2000 _ j o1 o2 (by decide) rfl]; exact x6
        · exact ⟨dnb D c', hnb, (mkD_new h hc' hp).mpr (Or.inl rfl), j, by rw [t8]; omega, u', e', x4, x5, x6⟩
      · rintro ⟨x, x1, x2, j, x3, u', e', x4, x5, x6⟩
        rcases (mkD_new h hc' hp).mp x2 with z | z
        · rw [z] at x3 x6
          rw [t8] at x3
          exact Or.inr ⟨j, by omega, u', e', x4, x5, x6⟩
        · obtain ⟨o1, o2⟩ := oldx c' p x hc' hp z
          rw [cB 8 _ 0 o1 o2 (by decide) rfl] at x3
          rw [cB 2000 _ j o1 o2 (by decide) rfl] at x6
          exact Or.inl ⟨x, x1, z, j, x3, u', e', x4, x5, x6⟩
    · rw [lB 17 _ 0 k2 k3, h.HD c' hc' b' k1 t ht]
      constructor
      · rintro ⟨x, x1, x2, j, x3, u', e', x4, x5, x6⟩
        obtain ⟨o1, o2⟩ := oldx c' b' x hc' k1 x2
        exact ⟨x, x1, (mkD_old h hc' k1).mpr x2, j, by rw [cB 8 _ 0 o1 o2 (by decide) rfl]; exact x3, u', e', x4, x5, by rw [cB 2000 _ j o1 o2 (by decide) rfl]; exact x6⟩
      · rintro ⟨x, x1, x2, j, x3, u', e', x4, x5, x6⟩
        have x2' := (mkD_old h hc' k1).mp x2
        obtain ⟨o1, o2⟩ := oldx c' b' x hc' k1 x2'
        rw [cB 8 _ 0 o1 o2 (by decide) rfl] at x3
        rw [cB 2000 _ j o1 o2 (by decide) rfl] at x6
        exact ⟨x, x1, x2', j, x3, u', e', x4, x5, x6⟩
  have gVO : qVO (mkD D c p) C M := by
    intro v hv q hq
    have v4 : v / 4 < 2 := by omega
    have n24 := hlt (v / 4) v4
    have f801 : xI C 801 v 0 = xI Cb 801 v 0 := cA 801 rfl rfl v 0
    have f802 : xI C 802 v 0 = xI Cb 802 v 0 := cA 802 rfl rfl v 0
    rw [f801] at hq
    obtain ⟨s, t, r1, r2, r3, r4, r5, r6, r7, r8, r9, r10, r11, r12⟩ := h.VO v hv q hq
    have os : ∀ s, s < dnb D (v / 4) → xI M 2121 0 (24 * (v / 4) + s) = xI Mb 2121 0 (24 * (v / 4) + s) := fun s hs => oM 2121 _ (by
      by_cases zc : v / 4 = c
      · rw [zc] at hs ⊢; omega
      · omega) (by decide)
    refine ⟨s, t, Nat.lt_of_lt_of_le r1 (hle _), Nat.lt_of_lt_of_le r2 (hle _), ?_, ?_, ?_, ?_, ?_, ?_, ?_, ?_, (mkD_old h v4 r2).mpr r11, r12⟩
    · exact (cA 900 rfl rfl _ _).trans r3
    · exact (mA 2135 rfl rfl _ _).trans r4
    · exact (cA 901 rfl rfl _ _).trans r5
    · exact (mA 2136 rfl rfl _ _).trans r6
    · rw [os s r1]; exact (cA 902 rfl rfl _ _).trans r7
    · rw [os t r2]; exact (cA 903 rfl rfl _ _).trans r8
    · rw [f802]; intro y; exact (mA 2137 rfl rfl _ _).trans (r9 y)
    · rw [f802]; intro y; exact (mA 2137 rfl rfl _ _).trans (r10 y)
  have gJL : qJL (mkD D c p) C M := by
    intro c' hc'
    obtain ⟨h1, h2⟩ := h.JL c' hc'
    refine ⟨by rw [a14, h1], fun b' hb' t ht hbt => ?_⟩
    rw [a15] at hbt
    obtain ⟨q1, q2, q3⟩ := h2 b' hb' t ht hbt
    exact ⟨Nat.lt_of_lt_of_le q1 (hle _), by rw [a14, q2], by rw [a14, q3]⟩
  have gSI : qSI (mkD D c p) C M := by
    intro c' hc' b' hb'
    rcases spl c' b' hc' hb' with ⟨rfl, rfl⟩ | ⟨k1, k2, k3⟩
    · exact esi
    · obtain ⟨u', u1, u2⟩ := h.SI c' hc' b' k1
      refine ⟨u', fun j hj => ?_, u2⟩
      dsimp only
      rw [mB1 _ (by omega)]
      exact u1 j hj
  have gBB : qBB (mkD D c p) C M := by
    intro c' hc' b' hb'
    rcases spl c' b' hc' hb' with ⟨rfl, rfl⟩ | ⟨k1, k2, k3⟩
    · rw [e5]; exact hB
    · rw [cB 5 _ 0 k2 k3 (by decide) rfl]
      exact h.BB c' hc' b' k1
  have gRT : qRT (mkD D c p) C M := by
    intro c' hc' b' hb' W i w1 w2 w3 w4
    rcases spl c' b' hc' hb' with ⟨rfl, rfl⟩ | ⟨k1, k2, k3⟩
    · exact ert W i w1 w2 w3 w4
    · rw [cB 12 _ 0 k2 k3 (by decide) rfl]
      refine h.RT c' hc' b' k1 W i (fun j hj => ?_) (fun j hj => ?_) (fun j hj => ?_) (fun j hj => ?_)
      · rw [w1 j hj, cB 2011 _ j k2 k3 (by decide) rfl]
      · rw [w2 j hj, cB 2012 _ j k2 k3 (by decide) rfl]
      · rw [w3 j hj, cB 2013 _ j k2 k3 (by decide) rfl]
      · rw [w4 j hj, cB 2014 _ j k2 k3 (by decide) rfl]
  have gF0 : qF0 (mkD D c p) C M := by
    intro c' hc'
    have hz : 24 * c' ≠ 24 * c + dnb D c := by omega
    have hz2 : 24 * c' < 48 := by omega
    obtain ⟨f1, f2, f3, f4, f5⟩ := h.F0 c' hc'
    refine ⟨by rw [cB 8 _ 0 hz hz2 (by decide) rfl]; exact f1, fun j hj => ?_, fun j hj => by rw [cB 2014 _ j hz hz2 (by decide) rfl]; exact f3 j hj, by rw [cB 604 _ 0 hz hz2 (by decide) rfl]; exact f4, fun t ht => by rw [lB 605 _ 0 hz hz2]; exact f5 t ht⟩
    rw [cB 2011 _ j hz hz2 (by decide) rfl, cB 2012 _ j hz hz2 (by decide) rfl, cB 2013 _ j hz hz2 (by decide) rfl]
    exact f2 j hj
  have gGH : qGH (mkD D c p) C M := by
    intro c' hc' b' hb' h0
    rcases spl c' b' hc' hb' with ⟨rfl, rfl⟩ | ⟨k1, k2, k3⟩
    · have e : dpa (mkD D c' p) c' (dnb D c') = p := if_pos ⟨rfl, rfl⟩
      rw [e]
      exact egh
    · have e : dpa (mkD D c p) c' b' = dpa D c' b' := if_neg (fun y => k2 (by rw [y.1, y.2]))
      rw [e]
      have hp' := (h.PA c' hc' b' k1).2 h0
      have o2 : 24 * c' + dpa D c' b' ≠ 24 * c + dnb D c := by
        by_cases zc : c' = c
        · rw [zc] at hp' k1 ⊢; omega
        · have := hlt c' hc'
          omega
      refine (h.GH c' hc' b' k1 h0).mv (Nat.le_refl _) (cB 8 _ 0 k2 k3 (by decide) rfl) (cB 5 _ 0 k2 k3 (by decide) rfl) (cB 3 _ 0 k2 k3 (by decide) rfl) (cB 2 _ 0 k2 k3 (by decide) rfl) (fun j => cB 2000 _ j k2 k3 (by decide) rfl) (fun x hx => ⟨mB1 _ (by omega), mB1 _ (by omega)⟩) (fun _ => cA 104 rfl rfl _ _) (fun _ k j hk => ?_) (fun k q h1 h2 _ => ?_)
      · rcases hk with rfl | rfl | rfl
        · exact cA 2008 rfl rfl _ _
        · exact cA 2009 rfl rfl _ _
        · exact cA 2010 rfl rfl _ _
      · rcases txk h1 h2 with rfl | rfl | rfl | rfl | rfl | rfl | rfl | rfl | rfl | rfl | rfl <;> exact cA _ rfl rfl _ _
  exact ⟨gNB, qNT_cg (C := Cb) (M := Mb) (C' := C) (M' := M) (cA 103 rfl rfl) (mA 2108 rfl rfl) h.NT, qUP_cg (C := Cb) (M := Mb) (C' := C) (M' := M) (cA 104 rfl rfl) (mA 2107 rfl rfl) h.UP, gFN, qNO_cg (C := Cb) (M := Mb) (C' := C) (M' := M) (cA 0 rfl rfl) h.NO, gB2, gRW, gEV, gST, gPD, gBS, gTO, gPA, gHT, gLN, gRC, gRE, gHD, gEE, qTX_cg (C := Cb) (M := Mb) (C' := C) (M' := M) (cA 701 rfl rfl) (cA 702 rfl rfl) (cA 704 rfl rfl) (cA 706 rfl rfl) (cA 707 rfl rfl) (cA 708 rfl rfl) (mA 2111 rfl rfl) (mA 2112 rfl rfl) (mA 2114 rfl rfl) (mA 2116 rfl rfl) (mA 2117 rfl rfl) (mA 2118 rfl rfl) h.TX, qTB_cg (C := Cb) (M := Mb) (C' := C) (M' := M) (cA 701 rfl rfl) (cA 702 rfl rfl) (cA 704 rfl rfl) (cA 706 rfl rfl) (cA 707 rfl rfl) (cA 708 rfl rfl) h.TB, qTK_cg (C := Cb) (M := Mb) (C' := C) (M' := M) (cA 709 rfl rfl) (cA 703 rfl rfl) (cA 705 rfl rfl) (cA 704 rfl rfl) (cA 710 rfl rfl) (cA 711 rfl rfl) (mA 2113 rfl rfl) (mA 2115 rfl rfl) (mA 2114 rfl rfl) h.TK, qLV_cg (C := Cb) (M := Mb) (C' := C) (M' := M) (cA 712 rfl rfl) (mA 2119 rfl rfl) h.LV, qTN_cg (C := Cb) (M := Mb) (C' := C) (M' := M) (cA 700 rfl rfl) h.TN, qPR_cg (C := Cb) (M := Mb) (C' := C) (M' := M) (cA 2008 rfl rfl) (cA 2009 rfl rfl) (cA 2010 rfl rfl) (mA 2103 rfl rfl) (mA 2104 rfl rfl) (mA 2105 rfl rfl) h.PR, qBG_cg (C := Cb) (M := Mb) (C' := C) (M' := M) (mA 1106 rfl rfl) h.BG, qDR_cg (C := Cb) (M := Mb) (C' := C) (M' := M) (cA 13 rfl rfl) (cA 14 rfl rfl) h.DR, qVA_cg (C := Cb) (M := Mb) (C' := C) (M' := M) (cA 801 rfl rfl) (cA 802 rfl rfl) (mA 2138 rfl rfl) (mA 2139 rfl rfl) h.VA, gVO, qJU_cg (C := Cb) (M := Mb) (C' := C) (M' := M) (cA 15 rfl rfl) (mA 2134 rfl rfl) h.JU, gBL, gJL, gSI, gBB, gRT, gF0, gGH⟩
