def D0 : XD := (fun _ => 1, fun _ => 0, fun _ => 0, fun _ _ => 0)
theorem oS_c {f i j : Nat} (h : f < 1100 ∨ (1200 ≤ f ∧ f < 2017)) : xI oS f i j = xI oI f i j ∧ xL oS f i j = xL oI f i j := by
  have h1 : ¬ ((1100 ≤ f ∧ f < 1200) ∨ 2100 ≤ f) := by omega
  have h2 : ¬ f = 2017 := by omega
  constructor
  · show (if (1100 ≤ f ∧ f < 1200) ∨ 2100 ≤ f then oM.1 f i j else if f = 2017 then 0 else oI.1 f i j) = _
    rw [if_neg h1, if_neg h2]
    rfl
  · show (if (1100 ≤ f ∧ f < 1200) ∨ 2100 ≤ f then oM.2.1 f i j else if f = 2017 then 0 else oI.2.1 f i j) = _
    rw [if_neg h1, if_neg h2]
    rfl
theorem oS_m {f i j : Nat} (h : (1100 ≤ f ∧ f < 1200) ∨ 2100 ≤ f) : xI oS f i j = xI oM f i j ∧ xL oS f i j = xL oM f i j := by
  constructor
  · show (if (1100 ≤ f ∧ f < 1200) ∨ 2100 ≤ f then oM.1 f i j else if f = 2017 then 0 else oI.1 f i j) = _
    rw [if_pos h]
    rfl
  · show (if (1100 ≤ f ∧ f < 1200) ∨ 2100 ≤ f then oM.2.1 f i j else if f = 2017 then 0 else oI.2.1 f i j) = _
    rw [if_pos h]
    rfl
theorem lt0 {j : Nat} {x : Int32} (h : x = 0) : ¬ (j : Int) < x.toInt := by
  rw [h, show (0 : Int32).toInt = 0 from rfl]
  omega
theorem b32_00 {x : Nat} (hx : x < 24) : ¬ b32 0 x := b32_0 x hx
theorem b32_01 : ∀ x, x < 24 → (b32 1 x ↔ x = 0) := by
  have h : ∀ x, x < 24 → (((1 : Int32) >>> (nI x &&& 31)) &&& 1 = 1 ↔ x = 0) := by decide +kernel
  exact h
theorem rgd_oS : RGD D0 oS oS := by
  obtain ⟨V, hV, v1, v2, v3⟩ := oM_is
  have cz : ∀ f i j, (f < 1100 ∨ (1200 ≤ f ∧ f < 2017)) → ¬ ((i = 0 ∨ i = 24) ∧ (f = 2011 ∨ f = 2012 ∨ f = 2013 ∨ f = 2014 ∨ f = 604 ∨ f = 16 ∨ f = 14 ∨ f = 12)) → xI oS f i j = xI oA f i j := fun f i j h1 h2 => by rw [(oS_c h1).1, oI_old h2]
  have cL : ∀ f i j, (f < 1100 ∨ (1200 ≤ f ∧ f < 2017)) → ¬ (f = 605 ∧ (i = 0 ∨ i = 24)) → xL oS f i j = 0 := fun f i j h1 h2 => by rw [(oS_c h1).2, oI_oldL h2]
  have cs : ∀ c f j, c < 2 → (f < 1100 ∨ (1200 ≤ f ∧ f < 2017)) → (ik f = 2011 ∨ ik f = 2012 ∨ ik f = 2013 ∨ ik f = 2014 ∨ ik f = 6 ∨ ik f = 0) → xI oS f (24 * c) j = xI (fX0_becomeFirst oA (24 * c)) f (24 * c) j ∧ xL oS f (24 * c) j = xL (fX0_becomeFirst oA (24 * c)) f (24 * c) j := fun c f j hc h1 h2 => by rw [(oS_c h1).1, (oS_c h1).2, (oI_at hc h2).1, (oI_at hc h2).2]; exact ⟨rfl, rfl⟩
  have mz : ∀ f j, ((1100 ≤ f ∧ f < 1200) ∨ 2100 ≤ f) → ¬ omK 0 f j → ¬ omK 1 f j → xI oS f 0 j = xI oA f 0 j := fun f j h1 h2 h3 => by rw [(oS_m h1).1, hV, v1 f 0 j h2 h3]
  have mz2 : ∀ f j, f = 1106 ∨ f = 2103 ∨ f = 2104 ∨ f = 2105 ∨ f = 2108 ∨ f = 2110 ∨ f = 2119 ∨ f = 2121 ∨ f = 2122 ∨ f = 2125 ∨ f = 2126 ∨ f = 2128 ∨ f = 2129 ∨ f = 2130 ∨ f = 2131 ∨ f = 2134 ∨ f = 2138 → xI oS f 0 j = 0 := fun f j h => by
    rw [mz f j (by omega) (by unfold omK; omega) (by unfold omK; omega)]
    rcases h with rfl | rfl | rfl | rfl | rfl | rfl | rfl | rfl | rfl | rfl | rfl | rfl | rfl | rfl | rfl | rfl | rfl <;> rfl
  have mV : ∀ f j, (1100 ≤ f ∧ f < 1200) ∨ 2100 ≤ f → xI oS f 0 j = xI V f 0 j := fun f j h => by rw [(oS_m h).1, hV]
  have cz2 : ∀ f i j, f = 2 ∨ f = 3 ∨ f = 4 ∨ f = 6 ∨ f = 8 ∨ f = 10 ∨ f = 11 ∨ f = 13 ∨ f = 15 ∨ f = 103 ∨ f = 201 ∨ f = 712 ∨ f = 801 ∨ f = 802 ∨ f = 2000 ∨ f = 2008 ∨ f = 2009 ∨ f = 2010 → xI oS f i j = 0 := fun f i j h => by
    rw [cz f i j (by omega) (by omega)]
    rcases h with rfl | rfl | rfl | rfl | rfl | rfl | rfl | rfl | rfl | rfl | rfl | rfl | rfl | rfl | rfl | rfl | rfl | rfl <;> rfl
  have stC : ∀ c, c < 2 → (∀ j, j < 16 → xI oS 2011 (24 * c) j = (if j < 6 then 10000 else if j = 15 then 20000 else 0) ∧ xI oS 2012 (24 * c) j = 0 ∧ xI oS 2013 (24 * c) j = 0) ∧ (∀ j, j < 64 → xI oS 2014 (24 * c) j = 0) ∧ xI oS 604 (24 * c) 0 = 0 ∧ xL oS 605 (24 * c) 0 = 0 ∧ xI oS 16 (24 * c) 0 = 1 ∧ xI oS 14 (24 * c) 0 = 1 ∧ xI oS 12 (24 * c) 0 = fX10_nodeOver oI (24 * c) 4 0 := fun c hc => by
    obtain ⟨-, -, b3, b4, b5, b6, b7, b8, b9⟩ := cBF (24 * c)
    refine ⟨fun j hj => ?_, fun j hj => ?_, ?_, ?_, ?_, ?_, ?_⟩
    · rw [(cs c 2011 j hc (by omega) (by decide)).1, (cs c 2012 j hc (by omega) (by decide)).1, (cs c 2013 j hc (by omega) (by decide)).1]
      exact b3 j hj
    · rw [(cs c 2014 j hc (by omega) (by decide)).1]
      exact b4 j hj
    · rw [(cs c 604 0 hc (by omega) (by decide)).1]
      exact b5
    · rw [(cs c 605 0 hc (by omega) (by decide)).2]
      exact b6
    · rw [(cs c 16 0 hc (by omega) (by decide)).1]
      exact b7
    · rw [(cs c 14 0 hc (by omega) (by decide)).1]
      exact b8
    · rw [(cs c 12 0 hc (by omega) (by decide)).1, b9]
      exact (node_cg (fun j _ => (oI_at hc (f := 2011) (by decide)).1) (fun j _ => (oI_at hc (f := 2012) (by decide)).1) (fun j _ => (oI_at hc (f := 2013) (by decide)).1) (fun j _ => (oI_at hc (f := 2014) (by decide)).1)).symm
  have spl : ∀ i, i < 48 → (∃ c, c < 2 ∧ i = 24 * c) ∨ ¬ (i = 0 ∨ i = 24) := fun i hi => by
    by_cases z : i = 0
    · exact Or.inl ⟨0, by omega, by omega⟩
    · by_cases z2 : i = 24
      · exact Or.inl ⟨1, by omega, by omega⟩
      · exact Or.inr (by omega)
  have m21 : ∀ j, j < 5760 → xI oS 2100 0 j = (if j % 2880 < 6 then 10000 else if j % 2880 = 15 then 20000 else 0) := fun j hj => by
    have := (v3 (j / 2880) (by omega)).2.2.2.2.2.2.1 (j % 2880) (by omega)
    rw [show 2880 * (j / 2880) + j % 2880 = j by omega] at this
    rw [mV _ _ (by omega), this]
  have gNB : qNB (dnb D0) oS oS := fun c hc => ⟨by rw [cz _ _ _ (by omega) (by omega)]; rfl, by rw [mV _ _ (by omega), (v3 c hc).2.1]; rfl, Nat.le_refl _, by show 1 ≤ 24; omega⟩
  have gNT : qNT D0 oS oS := fun c hc => ⟨cz2 _ _ _ (by omega), mz2 _ _ (by omega), Nat.zero_le _⟩
  have gUP : qUP D0 oS oS := fun c hc => by
    have e : xI oS 104 c 0 = 1000 := by rw [cz _ _ _ (by omega) (by omega)]; rfl
    rw [e, mV _ _ (by omega), (v3 c hc).1]
    exact ⟨rfl, by decide, by decide⟩
  have gFN : qFN D0 oS oS := fun c hc => ⟨cz2 _ _ _ (by omega), mz2 _ _ (by omega), Nat.zero_lt_one⟩
  have gNO : qNO D0 oS oS := fun i hi => by
    rw [cz _ _ _ (by omega) (by omega)]
    show (if i = 48 then (-1 : Int32) else nI (i % 24)) = _
    rw [if_neg (by omega)]
  have gB2 : qB2 D0 oS oS := fun i hi => by
    rw [cz2 2 i 0 (by omega), cz2 3 i 0 (by omega), cz2 6 i 0 (by omega), cz2 8 i 0 (by omega), cz2 10 i 0 (by omega), cz2 11 i 0 (by omega), cz2 13 i 0 (by omega), mz2 2121 i (by omega), mz2 2122 i (by omega), mz2 2125 i (by omega), mz2 2129 i (by omega), mz2 2130 i (by omega), mz2 2128 i (by omega), mz2 2126 i (by omega)]
    refine ⟨rfl, rfl, rfl, rfl, rfl, rfl, ?_, rfl, ?_⟩
    · rcases spl i hi with ⟨c, hc, rfl⟩ | z
      · rw [(stC c hc).2.2.2.2.2.2, mV _ _ (by omega), (v3 c hc).2.2.2.2.2.1]
      · rw [cz _ _ _ (by omega) (by omega), mz _ _ (by omega) (by unfold omK; omega) (by unfold omK; omega)]
        rfl
    · rcases spl i hi with ⟨c, hc, rfl⟩ | z
      · rw [(stC c hc).2.2.2.2.2.1, mV _ _ (by omega), (v3 c hc).2.2.2.2.1]
      · rw [cz _ _ _ (by omega) (by omega), mz _ _ (by omega) (by unfold omK; omega) (by unfold omK; omega)]
        rfl
  have gRW : qRW D0 oS oS := fun i hi j hj => by rw [cz2 _ _ _ (by omega), mz2 _ _ (by omega)]
  have gEV : qEV D0 oS oS := fun i hi j hj hj2 => absurd hj2 (lt0 (cz2 _ _ _ (by omega)))
  have gST : qST D0 oS oS := fun i hi => by
    rcases spl i hi with ⟨c, hc, rfl⟩ | z
    · obtain ⟨s1, s2, s3, -⟩ := stC c hc
      refine ⟨fun j hj => ?_, fun j hj => ?_, fun j hj => ?_, fun j hj => ?_, ?_⟩
      · rw [(s1 j hj).1, m21 _ (by omega), show (120 * (24 * c) + j) % 2880 = j by omega]
      · rw [(s1 j hj).2.1, m21 _ (by omega), if_neg (by omega), if_neg (by omega)]
      · rw [(s1 j hj).2.2, m21 _ (by omega), if_neg (by omega), if_neg (by omega)]
      · rw [s2 j hj, m21 _ (by omega), if_neg (by omega), if_neg (by omega)]
      · rw [s3, m21 _ (by omega), if_neg (by omega), if_neg (by omega)]
    · refine ⟨fun j hj => ?_, fun j hj => ?_, fun j hj => ?_, fun j hj => ?_, ?_⟩ <;> rw [cz _ _ _ (by omega) (by omega), m21 _ (by omega), if_neg (by omega), if_neg (by omega)] <;> rfl
  have l605 : ∀ i, i < 48 → xL oS 605 i 0 = 0 := fun i hi => by
    rcases spl i hi with ⟨c, hc, rfl⟩ | z
    · exact (stC c hc).2.2.2.1
    · exact cL _ _ _ (by omega) (by omega)
  have gPD : qPD D0 oS oS := fun i hi t ht => by
    rw [l605 i hi, m21 _ (by omega), if_neg (by omega), if_neg (by omega)]
    exact ⟨fun y => absurd y (b64_0 (by omega)), fun y => absurd y (b32_00 (by omega))⟩
  have one : ∀ {c b : Nat}, b < dnb D0 c → b = 0 := fun {c b} h => by
    have h' : b < 1 := h
    omega
  have i5 : ∀ i, xI oS 5 i 0 = 10 := fun i => by rw [cz _ _ _ (by omega) (by omega)]; rfl
  have gBS : qBS D0 oS oS := fun c hc b hb => by
    have e := one hb
    subst e
    rw [i5, mV _ _ (by omega)]
    exact (v3 c hc).2.2.2.1.symm
  have gTO : qTO D0 oS oS := fun c hc b hb => by
    rw [cz2 4 _ _ (by omega), (oS_m (f := 2123) (by omega)).2, hV, v2]
    exact ⟨rfl, by decide, by rw [show (0 : Int32).toInt = 0 from rfl]; omega⟩
  have gPA : qPA D0 oS oS := fun c hc b hb => by
    have e := one hb
    subst e
    rw [if_pos rfl, mV _ _ (by omega)]
    exact ⟨(v3 c hc).2.2.1, fun y => absurd y (by omega)⟩
  have gHT : qHT D0 oS oS := fun c hc => ⟨cz2 _ _ _ (by omega), fun b hb => by
    have e := one hb
    subst e
    rw [cz2 2 _ _ (by omega)]
    exact ⟨⟨by decide, by decide⟩, fun y => absurd y (by omega)⟩⟩
  have gLN : qLN D0 oS oS := fun c hc => ⟨fun b hb x hx => by
    have e := one hb
    subst e
    rw [Nat.add_zero, (stC c hc).2.2.2.2.1, b32_01 x hx]
    exact Iff.rfl, fun b h1 h2 => by
    have h3 : 1 ≤ b := h1
    rw [cz _ _ _ (by omega) (by omega)]
    rfl⟩
  have l17 : ∀ i, xL oS 17 i 0 = 0 := fun i => cL _ _ _ (by omega) (by omega)
  have gRC : qRC D0 oS oS := fun c hc b hb => by
    rw [cz2 8 _ _ (by omega), cz2 10 _ _ (by omega), cz2 6 _ _ (by omega), cz2 11 _ _ (by omega), cz2 13 _ _ (by omega), cz2 15 _ _ (by omega), l17]
    refine ⟨by decide, fun h1 => ⟨rfl, rfl, rfl, rfl, rfl, ?_, rfl, rfl⟩⟩
    have h3 : 1 ≤ b := h1
    rw [cz _ _ _ (by omega) (by omega)]
    rfl
  have gRE : qRE D0 oS oS := fun c hc b hb j hj => absurd hj (lt0 (cz2 _ _ _ (by omega)))
  have gHD : qHD D0 oS oS := fun c hc b hb t ht => by
    rw [l17]
    constructor
    · exact fun y => absurd y (b64_0 (by omega))
    · rintro ⟨x, -, -, j, hj, -⟩
      exact absurd hj (lt0 (cz2 _ _ _ (by omega)))
  have gEE : qEE D0 oS oS := fun c hc b hb j hj => absurd hj (lt0 (cz2 _ _ _ (by omega)))
  have nt : ∀ {c t : Nat}, ¬ t < dnt D0 c := fun {c t} h => absurd (show t < 0 from h) (by omega)
  have gTX : qTX D0 oS oS := fun c hc t ht => absurd ht nt
  have gTB : qTB D0 oS oS := fun c hc t ht => absurd ht nt
  have gTK : qTK D0 oS oS := fun c hc t ht => absurd ht nt
  have gLV : qLV D0 oS oS := fun c hc => ⟨fun t ht => absurd ht nt, fun t _ _ => ⟨cz2 _ _ _ (by omega), mz2 _ _ (by omega)⟩⟩
  have gTN : qTN D0 oS oS := fun k hk => by
    rw [cz _ _ _ (by omega) (by omega)]
    rfl
  have gPR : qPR D0 oS oS := ⟨fun j hj => ⟨by rw [cz2 _ _ _ (by omega), mz2 _ _ (by omega)], by rw [cz2 _ _ _ (by omega), mz2 _ _ (by omega)]⟩, fun p hp => ⟨by rw [cz2 _ _ _ (by omega), mz2 _ _ (by omega)], 0, by omega, cz2 _ _ _ (by omega), fun j hj => absurd hj (by omega)⟩⟩
  have gBG : qBG D0 oS oS := ⟨⟨fun _ => ⟨rfl, rfl⟩, fun _ => mz2 _ _ (by omega)⟩, Or.inl (mz2 _ _ (by omega))⟩
  have gDR : qDR D0 oS oS := fun i hi => ⟨Or.inl (cz2 _ _ _ (by omega)), by
    rcases spl i hi with ⟨c, hc, rfl⟩ | z
    · exact Or.inr (stC c hc).2.2.2.2.2.1
    · refine Or.inl ?_
      rw [cz _ _ _ (by omega) (by omega)]
      rfl⟩
  have gVA : qVA D0 oS oS := fun v hv => by
    have e := (v3 (v / 4) (by omega)).2.2.2.2.2.2.2 (v % 4) (by omega)
    rw [show 4 * (v / 4) + v % 4 = v by omega] at e
    rw [cz2 801 _ _ (by omega), cz2 802 _ _ (by omega), mz2 2138 _ (by omega), mV 2139 _ (by omega), e]
    exact ⟨⟨rfl, by decide, by decide⟩, Or.inl ⟨rfl, rfl⟩⟩
  have gVO : qVO D0 oS oS := fun v hv p hp => absurd hp (lt0 (cz2 _ _ _ (by omega)))
  have gJU : qJU D0 oS oS := fun c hc b hb t ht => by
    rw [cz2 15 _ _ (by omega), mz2 2134 _ (by omega)]
    exact Or.inr ⟨b32_00 ht, rfl⟩
  have gBL : qBL D0 oS oS := fun c hc b hb j hj => absurd hj (lt0 (cz2 _ _ _ (by omega)))
  have gJL : qJL D0 oS oS := fun c hc => ⟨(stC c hc).2.2.2.2.2.1, fun b hb t ht y => by
    rw [cz2 15 _ _ (by omega)] at y
    exact absurd y (b32_00 ht)⟩
  have gSI : qSI D0 oS oS := fun c hc b hb => by
    have e := one hb
    subst e
    refine ⟨fun j => if j < 6 then 10000 else if j = 15 then 20000 else 0, fun j hj => ?_, by decide, fun a ha => ?_, fun j hj => ?_⟩
    · dsimp only
      rw [m21 _ (by omega), show (120 * (24 * c + 0) + j) % 2880 = j by omega]
      by_cases z : j < 6
      · rw [if_pos z, if_pos z]
        rfl
      · rw [if_neg z, if_neg z]
        by_cases z2 : j = 15
        · rw [if_pos z2, if_pos z2]
          rfl
        · rw [if_neg z2, if_neg z2]
          rfl
    · dsimp only
      rw [if_neg (by omega), if_neg (by omega), if_neg (by omega), if_neg (by omega)]
      exact ⟨by omega, by omega, fun y => absurd rfl y⟩
    · dsimp only
      rw [if_neg (by omega), if_neg (by omega)]
      omega
  have gBB : qBB D0 oS oS := fun c hc b hb => by
    rw [i5]
    decide
  have gRT : qRT D0 oS oS := fun c hc b hb W i w1 w2 w3 w4 => by
    have e := one hb
    subst e
    have o : ∀ f j, f = 2011 ∨ f = 2012 ∨ f = 2013 ∨ f = 2014 → xI oS f (24 * c + 0) j = xI oI (24 * 0 + f) (24 * c) j := fun f j hf => by
      rw [Nat.mul_zero, Nat.zero_add]
      exact (oS_c (by omega)).1
    refine (node_cg (C := oI) (g := 24 * c) (fun j hj => (w1 j hj).trans ((oS_c (by omega)).1)) (fun j hj => (w2 j hj).trans ((oS_c (by omega)).1)) (fun j hj => (w3 j hj).trans ((oS_c (by omega)).1)) (fun j hj => (w4 j hj).trans ((oS_c (by omega)).1))).trans (stC c hc).2.2.2.2.2.2.symm
  have gF0 : qF0 D0 oS oS := fun c hc => by
    obtain ⟨s1, s2, s3, s4, -⟩ := stC c hc
    refine ⟨cz2 _ _ _ (by omega), s1, s2, s3, fun t ht => ?_⟩
    rw [s4]
    exact b64_0 (by omega)
  have gGH : qGH D0 oS oS := fun c hc b hb h0 => absurd (one hb) (by omega)
  exact ⟨gNB, gNT, gUP, gFN, gNO, gB2, gRW, gEV, gST, gPD, gBS, gTO, gPA, gHT, gLN, gRC, gRE, gHD, gEE, gTX, gTB, gTK, gLV, gTN, gPR, gBG, gDR, gVA, gVO, gJU, gBL, gJL, gSI, gBB, gRT, gF0, gGH⟩
