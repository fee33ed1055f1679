theorem LN_junk {b d blk : Nat} {C1 M1 C' M' : XO} (h : LN b d blk C1 M1) (hb : b ≤ 48) (hc : ∀ k i j, (i = d → kfC.contains k = false) → (i = 49 + d → ksC.contains k = false) → xI C' k i j = xI C1 k i j) (hm : ∀ k j, mOld d k j → xI M' k 0 j = xI M1 k 0 j) : LN b d blk C' M' := by
  intro k i j c h3 h2
  unfold ph at h2
  by_cases q : k = 2011
  · subst q
    rw [if_pos rfl] at h2
    split at h2
    · rename_i z
      obtain ⟨rfl, hj⟩ := z
      cases h2
      skip
      rw [hc 2011 i j (fun _ => rfl) (fun y => absurd y (by omega)), hm 2101 _ ⟨fun y => absurd y (by decide +kernel), fun y => absurd y (by decide), fun y => absurd y (by decide), by decide, by decide⟩]
      exact h 2011 i j _ (by decide) (ph_2011 hj)
    · split at h2
      · rename_i z
        obtain ⟨hi1, hi2, hj⟩ := z
        cases h2
        skip
        obtain ⟨t, rfl⟩ : ∃ t, i = 49 + t := ⟨i - 49, by omega⟩
        have e1 : 49 + t - 49 = t := by omega
        rw [e1]
        rw [hc 2011 (49 + t) j (fun _ => rfl) (fun y => absurd y (by omega)), hm 2102 _ ⟨fun y => absurd y (by decide +kernel), fun _ => by omega, fun y => absurd y (by decide), by decide, by decide⟩]
        exact h 2011 (49 + t) j _ (by decide) (phs_2011 hb (by omega) hj)
      · cases h2
  rw [if_neg q] at h2
  clear q
  by_cases q : k = 2012
  · subst q
    rw [if_pos rfl] at h2
    split at h2
    · rename_i z
      obtain ⟨rfl, hj⟩ := z
      cases h2
      skip
      rw [hc 2012 i j (fun _ => rfl) (fun y => absurd y (by omega)), hm 2101 _ ⟨fun y => absurd y (by decide +kernel), fun y => absurd y (by decide), fun y => absurd y (by decide), by decide, by decide⟩]
      exact h 2012 i j _ (by decide) (ph_2012 hj)
    · split at h2
      · rename_i z
        obtain ⟨hi1, hi2, hj⟩ := z
        cases h2
        skip
        obtain ⟨t, rfl⟩ : ∃ t, i = 49 + t := ⟨i - 49, by omega⟩
        have e1 : 49 + t - 49 = t := by omega
        rw [e1]
        rw [hc 2012 (49 + t) j (fun _ => rfl) (fun y => absurd y (by omega)), hm 2102 _ ⟨fun y => absurd y (by decide +kernel), fun _ => by omega, fun y => absurd y (by decide), by decide, by decide⟩]
        exact h 2012 (49 + t) j _ (by decide) (phs_2012 hb (by omega) hj)
      · cases h2
  rw [if_neg q] at h2
  clear q
  by_cases q : k = 2013
  · subst q
    rw [if_pos rfl] at h2
    split at h2
    · rename_i z
      obtain ⟨rfl, hj⟩ := z
      cases h2
      skip
      rw [hc 2013 i j (fun _ => rfl) (fun y => absurd y (by omega)), hm 2101 _ ⟨fun y => absurd y (by decide +kernel), fun y => absurd y (by decide), fun y => absurd y (by decide), by decide, by decide⟩]
      exact h 2013 i j _ (by decide) (ph_2013 hj)
    · split at h2
      · rename_i z
        obtain ⟨hi1, hi2, hj⟩ := z
        cases h2
        skip
        obtain ⟨t, rfl⟩ : ∃ t, i = 49 + t := ⟨i - 49, by omega⟩
        have e1 : 49 + t - 49 = t := by omega
        rw [e1]
        rw [hc 2013 (49 + t) j (fun _ => rfl) (fun y => absurd y (by omega)), hm 2102 _ ⟨fun y => absurd y (by decide +kernel), fun _ => by omega, fun y => absurd y (by decide), by decide, by decide⟩]
        exact h 2013 (49 + t) j _ (by decide) (phs_2013 hb (by omega) hj)
      · cases h2
  rw [if_neg q] at h2
  clear q
  by_cases q : k = 2014
  · subst q
    rw [if_pos rfl] at h2
    split at h2
    · rename_i z
      obtain ⟨rfl, hj⟩ := z
      cases h2
      skip
      rw [hc 2014 i j (fun _ => rfl) (fun y => absurd y (by omega)), hm 2101 _ ⟨fun y => absurd y (by decide +kernel), fun y => absurd y (by decide), fun y => absurd y (by decide), by decide, by decide⟩]
      exact h 2014 i j _ (by decide) (ph_2014 hj)
    · split at h2
      · rename_i z
        obtain ⟨hi1, hi2, hj⟩ := z
        cases h2
        skip
        obtain ⟨t, rfl⟩ : ∃ t, i = 49 + t := ⟨i - 49, by omega⟩
        have e1 : 49 + t - 49 = t := by omega
        rw [e1]
        rw [hc 2014 (49 + t) j (fun _ => rfl) (fun y => absurd y (by omega)), hm 2102 _ ⟨fun y => absurd y (by decide +kernel), fun _ => by omega, fun y => absurd y (by decide), by decide, by decide⟩]
        exact h 2014 (49 + t) j _ (by decide) (phs_2014 hb (by omega) hj)
      · cases h2
  rw [if_neg q] at h2
  clear q
  by_cases q : k = 604
  · subst q
    rw [if_pos rfl] at h2
    split at h2
    · rename_i z
      obtain ⟨rfl, hj⟩ := z
      cases h2
      subst hj
      rw [hc 604 i 0 (fun _ => rfl) (fun y => absurd y (by omega)), hm 2101 _ ⟨fun y => absurd y (by decide +kernel), fun y => absurd y (by decide), fun y => absurd y (by decide), by decide, by decide⟩]
      exact h 604 i 0 _ (by decide) ph_604
    · split at h2
      · rename_i z
        obtain ⟨hi1, hi2, hj⟩ := z
        cases h2
        subst hj
        obtain ⟨t, rfl⟩ : ∃ t, i = 49 + t := ⟨i - 49, by omega⟩
        have e1 : 49 + t - 49 = t := by omega
        rw [e1]
        rw [hc 604 (49 + t) 0 (fun _ => rfl) (fun y => absurd y (by omega)), hm 2102 _ ⟨fun y => absurd y (by decide +kernel), fun _ => by omega, fun y => absurd y (by decide), by decide, by decide⟩]
        exact h 604 (49 + t) 0 _ (by decide) (phs_604 hb (by omega))
      · cases h2
  rw [if_neg q] at h2
  clear q
  by_cases q : k = 10
  · subst q
    rw [if_pos rfl] at h2
    split at h2
    · rename_i z
      obtain ⟨z1, z2⟩ := z
      cases h2
      rw [hc 10 i j (fun _ => rfl) (fun _ => rfl), hm 2130 _ ⟨fun y => absurd y (by decide +kernel), fun y => absurd y (by decide), fun y => absurd y (by decide), by decide, by decide⟩]
      subst z1; subst z2; exact h 10 _ _ _ (by decide) ph_10
    · cases h2
  rw [if_neg q] at h2
  clear q
  by_cases q : k = 406
  · subst q
    rw [if_pos rfl] at h2
    split at h2
    · rename_i z
      obtain ⟨z1, z2⟩ := z
      cases h2
      rw [hc 406 i j (fun _ => rfl) (fun _ => rfl), hm 1154 _ ⟨fun y => absurd y (by decide +kernel), fun y => absurd y (by decide), fun y => absurd y (by decide), by decide, by decide⟩]
      subst z1; subst z2; exact h 406 _ _ _ (by decide) ph_406
    · cases h2
  rw [if_neg q] at h2
  clear q
  by_cases q : k = 301
  · subst q
    rw [if_pos rfl] at h2
    split at h2
    · rename_i z
      obtain ⟨hi, rfl⟩ := z
      cases h2
      rw [hc 301 i 0 (fun y => absurd y (by omega)) (fun _ => rfl), hm 2148 _ ⟨fun _ => by omega, fun y => absurd y (by decide), fun y => absurd y (by decide), by decide, by decide⟩]
      exact h 301 i 0 _ (by decide) (ph_301 (by omega))
    · cases h2
  rw [if_neg q] at h2
  clear q
  by_cases q : k = 303
  · subst q
    rw [if_pos rfl] at h2
    split at h2
    · rename_i z
      obtain ⟨hi, rfl⟩ := z
      cases h2
      rw [hc 303 i 0 (fun y => absurd y (by omega)) (fun _ => rfl), hm 2150 _ ⟨fun _ => by omega, fun y => absurd y (by decide), fun y => absurd y (by decide), by decide, by decide⟩]
      exact h 303 i 0 _ (by decide) (ph_303 (by omega))
    · cases h2
  rw [if_neg q] at h2
  clear q
  by_cases q : k = 304
  · subst q
    rw [if_pos rfl] at h2
    split at h2
    · rename_i z
      obtain ⟨hi, rfl⟩ := z
      cases h2
      rw [hc 304 i 0 (fun y => absurd y (by omega)) (fun _ => rfl), hm 2140 _ ⟨fun _ => by omega, fun y => absurd y (by decide), fun y => absurd y (by decide), by decide, by decide⟩]
      exact h 304 i 0 _ (by decide) (ph_304 (by omega))
    · cases h2
  rw [if_neg q] at h2
  clear q
  by_cases q : k = 305
  · subst q
    rw [if_pos rfl] at h2
    split at h2
    · rename_i z
      obtain ⟨hi, rfl⟩ := z
      cases h2
      rw [hc 305 i 0 (fun y => absurd y (by omega)) (fun _ => rfl), hm 2141 _ ⟨fun _ => by omega, fun y => absurd y (by decide), fun y => absurd y (by decide), by decide, by decide⟩]
      exact h 305 i 0 _ (by decide) (ph_305 (by omega))
    · cases h2
  rw [if_neg q] at h2
  clear q
  by_cases q : k = 306
  · subst q
    rw [if_pos rfl] at h2
    split at h2
    · rename_i z
      obtain ⟨hi, rfl⟩ := z
      cases h2
      rw [hc 306 i 0 (fun y => absurd y (by omega)) (fun _ => rfl), hm 2142 _ ⟨fun _ => by omega, fun y => absurd y (by decide), fun y => absurd y (by decide), by decide, by decide⟩]
      exact h 306 i 0 _ (by decide) (ph_306 (by omega))
    · cases h2
  rw [if_neg q] at h2
  clear q
  by_cases q : k = 307
  · subst q
    rw [if_pos rfl] at h2
    split at h2
    · rename_i z
      obtain ⟨hi, rfl⟩ := z
      cases h2
      rw [hc 307 i 0 (fun y => absurd y (by omega)) (fun _ => rfl), hm 2143 _ ⟨fun _ => by omega, fun y => absurd y (by decide), fun y => absurd y (by decide), by decide, by decide⟩]
      exact h 307 i 0 _ (by decide) (ph_307 (by omega))
    · cases h2
  rw [if_neg q] at h2
  clear q
  by_cases q : k = 308
  · subst q
    rw [if_pos rfl] at h2
    split at h2
    · rename_i z
      obtain ⟨hi, rfl⟩ := z
      cases h2
      rw [hc 308 i 0 (fun y => absurd y (by omega)) (fun _ => rfl), hm 2145 _ ⟨fun _ => by omega, fun y => absurd y (by decide), fun y => absurd y (by decide), by decide, by decide⟩]
      exact h 308 i 0 _ (by decide) (ph_308 (by omega))
    · cases h2
  rw [if_neg q] at h2
  clear q
  by_cases q : k = 309
  · subst q
    rw [if_pos rfl] at h2
    split at h2
    · rename_i z
      obtain ⟨hi, rfl⟩ := z
      cases h2
      rw [hc 309 i 0 (fun y => absurd y (by omega)) (fun _ => rfl), hm 2146 _ ⟨fun _ => by omega, fun y => absurd y (by decide), fun y => absurd y (by decide), by decide, by decide⟩]
      exact h 309 i 0 _ (by decide) (ph_309 (by omega))
    · cases h2
  rw [if_neg q] at h2
  clear q
  by_cases q : k = 310
  · subst q
    rw [if_pos rfl] at h2
    exact absurd rfl h3
  rw [if_neg q] at h2
  clear q
  by_cases q : k = 312
  · subst q
    rw [if_pos rfl] at h2
    split at h2
    · rename_i z
      obtain ⟨hi, rfl⟩ := z
      cases h2
      rw [hc 312 i 0 (fun y => absurd y (by omega)) (fun _ => rfl), hm 2152 _ ⟨fun _ => by omega, fun y => absurd y (by decide), fun y => absurd y (by decide), by decide, by decide⟩]
      exact h 312 i 0 _ (by decide) (ph_312 (by omega))
    · cases h2
  rw [if_neg q] at h2
  clear q
  by_cases q : k = 313
  · subst q
    rw [if_pos rfl] at h2
    split at h2
    · rename_i z
      obtain ⟨hi, rfl⟩ := z
      cases h2
      rw [hc 313 i 0 (fun y => absurd y (by omega)) (fun _ => rfl), hm 2151 _ ⟨fun _ => by omega, fun y => absurd y (by decide), fun y => absurd y (by decide), by decide, by decide⟩]
      exact h 313 i 0 _ (by decide) (ph_313 (by omega))
    · cases h2
  rw [if_neg q] at h2
  clear q
  by_cases q : k = 2006
  · subst q
    rw [if_pos rfl] at h2
    split at h2
    · rename_i z
      obtain ⟨hi, hj⟩ := z
      cases h2
      rw [hc 2006 i j (fun y => absurd y (by omega)) (fun _ => rfl), hm 2149 _ ⟨fun y => absurd y (by decide +kernel), fun y => absurd y (by decide), fun _ => by omega, by decide, by decide⟩]
      exact h 2006 i j _ (by decide) (ph_2006 (by omega) hj)
    · cases h2
  rw [if_neg q] at h2
  clear q
  by_cases q : k = 2008
  · subst q
    rw [if_pos rfl] at h2
    split at h2
    · rename_i z
      obtain ⟨z1, z2⟩ := z
      cases h2
      rw [hc 2008 i j (fun _ => rfl) (fun _ => rfl), hm 2103 _ ⟨fun y => absurd y (by decide +kernel), fun y => absurd y (by decide), fun y => absurd y (by decide), by decide, by decide⟩]
      subst z1; exact h 2008 _ _ _ (by decide) (ph_2008 z2)
    · cases h2
  rw [if_neg q] at h2
  clear q
  by_cases q : k = 2009
  · subst q
    rw [if_pos rfl] at h2
    split at h2
    · rename_i z
      obtain ⟨z1, z2⟩ := z
      cases h2
      rw [hc 2009 i j (fun _ => rfl) (fun _ => rfl), hm 2104 _ ⟨fun y => absurd y (by decide +kernel), fun y => absurd y (by decide), fun y => absurd y (by decide), by decide, by decide⟩]
      subst z1; exact h 2009 _ _ _ (by decide) (ph_2009 z2)
    · cases h2
  rw [if_neg q] at h2
  clear q
  by_cases q : k = 2010
  · subst q
    rw [if_pos rfl] at h2
    split at h2
    · rename_i z
      obtain ⟨z1, z2⟩ := z
      cases h2
      rw [hc 2010 i j (fun _ => rfl) (fun _ => rfl), hm 2105 _ ⟨fun y => absurd y (by decide +kernel), fun y => absurd y (by decide), fun y => absurd y (by decide), by decide, by decide⟩]
      subst z1; exact h 2010 _ _ _ (by decide) (ph_2010 z2)
    · cases h2
  rw [if_neg q] at h2
  clear q
  cases h2
/-- what lies above the calls that are open may be anything -/
theorem MS.junk {P : XP} {d e q s : Nat} {C1 M1 C' M' : XO} (h1 : MS P d e q s C1 M1)
    (hc : ∀ k i j, (i = d → kfC.contains k = false) → (i = 49 + d → ksC.contains k = false) → xI C' k i j = xI C1 k i j)
    (hcl : ∀ k i j, ¬ (k = 605 ∧ i = 49 + d ∧ j = 0) → xL C' k i j = xL C1 k i j) (hcr : ∀ k i, xR C' k i = xR C1 k i)
    (hm : ∀ k i j, mOld d k j → xI M' k i j = xI M1 k i j) (h1153 : xI M' 1153 0 0 = xI M1 1153 0 0) (h2144 : ∀ j, j < d → xI M' 2144 0 j = xI M1 2144 0 j) (hml : ∀ k i j, xL M' k i j = xL M1 k i j) : MS P d e q s C' M' := by
  have hb := h1.1.ZP.1
  have MT : ∀ k j, kfM.contains k = false → k ≠ 2102 → k ≠ 2149 → k ≠ 1153 → k ≠ 2144 → mOld d k j := fun k j a1 a2 a3 a4 a5 => ⟨fun y => by rw [a1] at y; exact absurd y (by decide), fun y => absurd y a2, fun y => absurd y a3, a4, a5⟩
  have m2101 : ∀ j, xI M' 2101 0 j = xI M1 2101 0 j := fun j => hm 2101 0 j (MT 2101 j (by decide +kernel) (by decide) (by decide) (by decide) (by decide))
  have frm : ∀ k j, j < d → k ≠ 2102 → k ≠ 2149 → k ≠ 1153 → k ≠ 2144 → xI M' k 0 j = xI M1 k 0 j := fun k j a1 a2 a3 a4 a5 => hm k 0 j ⟨fun _ => by omega, fun y => absurd y a2, fun y => absurd y a3, a4, a5⟩
  have snm : ∀ i, i < d → ∀ x, x < 120 → xI M' 2102 0 (120 * i + x) = xI M1 2102 0 (120 * i + x) := fun i hi x hx => hm 2102 0 _ ⟨fun y => absurd y (by decide +kernel), fun _ => by omega, fun y => absurd y (by decide), by decide, by decide⟩
  have cb : ∀ k j, kfC.contains k = false → ksC.contains k = false → ∀ i, xI C' k i j = xI C1 k i j := fun k j a1 a2 i => hc k i j (fun _ => a1) (fun _ => a2)
  have fr2 : ∀ k i j, i < d → ksC.contains k = false → xI C' k i j = xI C1 k i j := fun k i j hi a2 => hc k i j (fun y => absurd y (by omega)) (fun _ => a2)
  refine ⟨⟨h1.1.ZP, LN_junk h1.1.LN hb hc (fun k j y => hm k 0 j y), fun i hi => ?_, fun i hi j hj hj2 => ?_, fun j hj hj2 => ?_, ⟨fun t ht => ?_, fun i hi t ht => ?_⟩, ⟨(hcr _ _).trans h1.1.RF.1, (hcr _ _).trans h1.1.RF.2⟩, ?_, fun p' hp' => ?_, fun i hi => ?_, fun i hi a ha e' => ?_, fun i hi => ?_, fun i hi => ?_, fun i hi j hj => ?_, ?_, ⟨?_, fun i hi => ?_⟩, ⟨?_, fun i hi => ?_⟩, fun k i j z => ?_, fun k i j z => ?_, fun k i j z => ?_, fun k i j => ?_⟩, ?_⟩
  · rw [h2144 i hi, fr2 310 i 0 hi (by decide +kernel)]
    exact h1.1.GA i hi
  · rw [fr2 301 i 0 hi (by decide +kernel)] at hj2
    rw [fr2 2005 i j hi (by decide +kernel), hm 2147 0 _ (MT _ _ (by decide +kernel) (by decide) (by decide) (by decide) (by decide))]
    exact h1.1.HP i hi j hj hj2
  · have h10 : ∀ i, xI C' 10 i 0 = xI C1 10 i 0 := fun i => cb 10 0 (by decide +kernel) (by decide +kernel) i
    have h20 : xI C' 2001 (pb P) j = xI C1 2001 (pb P) j := cb 2001 j (by decide +kernel) (by decide +kernel) _
    rw [h20, hm 2132 0 _ (MT _ _ (by decide +kernel) (by decide) (by decide) (by decide) (by decide))]
    refine h1.1.EV j hj ?_
    rcases hj2 with hj2 | ⟨i, i1, i2⟩
    · rw [h10] at hj2
      exact Or.inl hj2
    · rw [fr2 312 i 0 i1 (by decide +kernel)] at i2
      exact Or.inr ⟨i, i1, i2⟩
  · rw [hcl _ _ _ (fun y => by have := y.2.1; omega), m2101]
    exact h1.1.PD.1 t ht
  · rw [hcl _ _ _ (fun y => by have := y.2.1; omega), snm i hi _ (by omega)]
    exact h1.1.PD.2 i hi t ht
  · obtain ⟨s1, s2, s3, s4, s5⟩ := h1.1.ST
    refine ⟨by rw [h1153, s1], ?_, ?_, ?_, s5⟩
    · rw [hm 1157 0 0 (MT _ _ (by decide +kernel) (by decide) (by decide) (by decide) (by decide)), s2]
    · rw [hm 1158 0 0 (MT _ _ (by decide +kernel) (by decide) (by decide) (by decide) (by decide)), s3]
    · rw [cb 405 0 (by decide +kernel) (by decide +kernel), hm 2121 0 _ (MT _ _ (by decide +kernel) (by decide) (by decide) (by decide) (by decide)), hm 2107 0 _ (MT _ _ (by decide +kernel) (by decide) (by decide) (by decide) (by decide)), s4]
  · obtain ⟨n', n1, n2, n3⟩ := h1.1.PR p' hp'
    refine ⟨n', n1, ?_, fun j hj => ?_⟩
    · rw [hm 2105 0 _ (MT _ _ (by decide +kernel) (by decide) (by decide) (by decide) (by decide)), n2]
    · rw [hm 2103 0 _ (MT _ _ (by decide +kernel) (by decide) (by decide) (by decide) (by decide)), hm 2104 0 _ (MT _ _ (by decide +kernel) (by decide) (by decide) (by decide) (by decide))]
      exact n3 j hj
  · obtain ⟨u, u1, u2, u3, u4⟩ := h1.1.SN i hi
    exact ⟨u, fun j hj => by dsimp only; rw [snm i hi j (by omega)]; exact u1 j hj, u2, u3, u4⟩
  · rw [frm 2140 i hi (by decide) (by decide) (by decide) (by decide)] at e'
    obtain ⟨g1, g2⟩ := h1.1.OW i hi a ha e'
    refine ⟨by rw [m2101]; exact g1, fun k hk hik => ?_⟩
    rw [snm k hk _ (by omega)]
    exact g2 k hk hik
  · have f := h1.1.FR i hi
    rw [← frm 2140 i hi (by decide) (by decide) (by decide) (by decide), ← frm 2141 i hi (by decide) (by decide) (by decide) (by decide), ← frm 2142 i hi (by decide) (by decide) (by decide) (by decide), ← frm 2143 i hi (by decide) (by decide) (by decide) (by decide), ← frm 2145 i hi (by decide) (by decide) (by decide) (by decide), ← frm 2146 i hi (by decide) (by decide) (by decide) (by decide), ← frm 2150 i hi (by decide) (by decide) (by decide) (by decide)] at f
    exact f
  · obtain ⟨n', n1, n2, n3⟩ := h1.1.HS i hi
    refine ⟨n', n1, by rw [frm 2148 i hi (by decide) (by decide) (by decide) (by decide), n2], fun j hj => ?_⟩
    rw [hm 2147 0 _ (MT _ _ (by decide +kernel) (by decide) (by decide) (by decide) (by decide))]
    exact n3 j hj
  · rw [hm 2149 0 _ ⟨fun y => absurd y (by decide +kernel), fun y => absurd y (by decide), fun _ => by omega, by decide, by decide⟩]
    exact h1.1.MM i hi j hj
  · obtain ⟨u, u1, u2⟩ := h1.1.GS
    exact ⟨u, fun i hi => by rw [h2144 i hi, u1 i hi], u2⟩
  · rw [hm 2130 0 _ (MT _ _ (by decide +kernel) (by decide) (by decide) (by decide) (by decide))]
    exact h1.1.EC.1
  · rw [frm 2152 i hi (by decide) (by decide) (by decide) (by decide)]
    exact h1.1.EC.2 i hi
  · rw [hm 1154 0 _ (MT _ _ (by decide +kernel) (by decide) (by decide) (by decide) (by decide))]
    exact h1.1.RB.1
  · rw [frm 2151 i hi (by decide) (by decide) (by decide) (by decide)]
    exact h1.1.RB.2 i hi
  · obtain ⟨z1, z2⟩ := cmod_f z
    rw [hc k i j (fun _ => z1) (fun y => z2 (by omega))]
    exact h1.1.FA k i j z
  · rw [hm k i j (mmod_f z)]
    exact h1.1.FB k i j z
  · rw [hcl k i j (fun y => by rcases z with z | z; exact z y.1; have := y.2.1; omega)]
    exact h1.1.FL k i j z
  · rw [hml]
    exact h1.1.FM k i j
  · have e1 : (fun j => xI M' 2101 0 j) = fun j => xI M1 2101 0 j := by funext j; exact m2101 j
    show stOK (fun j => xI M' 2101 0 j) _ _ _
    rw [e1]
    exact h1.2
/-- reference: what may be undone -/
theorem eMark {M : XO} {d blk : Nat} (hd : d < 5) (hk : blk < 48) (h : xI M 1158 0 0 = nI blk) : ∃ M', fX11_mark M (nI d) = some M' ∧ (∀ k i j, ¬ (k = 2102 ∧ i = 0 ∧ 120 * d ≤ j ∧ j < 120 * d + 120) → ¬ (k = 2151 ∧ i = 0 ∧ j = d) → ¬ (k = 2152 ∧ i = 0 ∧ j = d) → xI M' k i j = xI M k i j) ∧ (∀ x, x < 120 → xI M' 2102 0 (120 * d + x) = xI M 2101 0 x) ∧ xI M' 2151 0 d = xI M 1154 0 0 ∧ xI M' 2152 0 d = xI M 2130 0 blk ∧ ∀ k i j, xL M' k i j = xL M k i j := by
  obtain ⟨S, a1, a2, a3, a4, a5⟩ := eSnap (d := d) (by omega) M
  have hin : inB (nI d) 5 := inB_nI (by omega) (by decide)
  have hcl : (nI d).toNatClampNeg = d := cl_nI (by omega)
  have b1 : ∀ k i j, k ≠ 2102 → xI S k i j = xI M k i j := fun k i j hk => a2 k i j (fun y => hk y.1)
  refine ⟨uI (uI S 2151 0 d (xI M 1154 0 0)) 2152 0 d (xI M 2130 0 blk), ?_, fun k i j h1 h2 h3 => ?_, fun x hx => ?_, ?_, ?_, fun k i j => by rw [L_uI, L_uI, a4]⟩
  · unfold fX11_mark wl
    rw [a1, Option.bind_some]
    dsimp only
    have w1 : ∀ v, xI (uI S 2151 0 d v) 1158 0 0 = nI blk := fun v => by rw [I_ne (by decide), b1 _ _ _ (by decide), h]
    have w2 : ∀ v, xI (uI S 2151 0 d v) 2130 0 blk = xI M 2130 0 blk := fun v => by rw [I_ne (by decide), b1 _ _ _ (by decide)]
    rw [if_pos hin, hcl, b1 1154 0 0 (by decide), w1, if_pos (inB_nI hk (by decide)), if_pos hin, cl_nI (show blk < 2147483648 by omega), w2]
  · rw [I_uI, if_neg h3, I_uI, if_neg h2, a2 k i j (fun y => h1 ⟨y.1, y.2.1, by omega, y.2.2.2⟩)]
  · rw [I_ne (by decide), I_ne (by decide)]
    have := a3 x (by omega) hx
    rw [Nat.zero_add] at this
    exact this
  · rw [I_ne (by decide), I_uI, if_pos ⟨rfl, rfl, rfl⟩]
  · rw [I_uI, if_pos ⟨rfl, rfl, rfl⟩]
/-- reference: a call begins -/
theorem eBegin {M : XO} {d o p : Nat} {l v n g : Int32} (hd : d < 5) (h : xI M 1153 0 0 = nI d) (ho : o < 16) (hcode : xI M 2101 0 (32 + o) = nI (p + 1)) : ∃ M', fX11_begin M (nI o) l v n g = some M' ∧ (∀ k i j, mOld d k j → xI M' k i j = xI M k i j) ∧ (∀ k i j, k = 2102 ∨ k = 2151 ∨ k = 2152 → xI M' k i j = xI M k i j) ∧ (∀ j, xI M' 2144 0 j = if j = d then g else xI M 2144 0 j) ∧ xI M' 1153 0 0 = nI (d + 1) ∧ xI M' 2140 0 d = nI o ∧ xI M' 2141 0 d = l ∧ xI M' 2142 0 d = v ∧ xI M' 2143 0 d = n ∧ xI M' 2145 0 d = nI p ∧ xI M' 2146 0 d = 0 ∧ xI M' 2148 0 d = 0 ∧ xI M' 2150 0 d = -1 ∧ (∀ j, j < 16 → xI M' 2149 0 (16 * d + j) = 0) ∧ ∀ k i j, xL M' k i j = xL M k i j := by
  have hin : inB (nI d) 5 := inB_nI (by omega) (by decide)
  have hcl : (nI d).toNatClampNeg = d := cl_nI (by omega)
  obtain ⟨W, hW⟩ : ∃ W, W = uI (uI (uI (uI (uI (uI (uI (uI (uI M 2140 0 d (nI o)) 2141 0 d l) 2142 0 d v) 2143 0 d n) 2144 0 d g) 2145 0 d (nI p)) 2146 0 d 0) 2148 0 d 0) 2150 0 d (-1) := ⟨_, rfl⟩
  obtain ⟨Z, a1, a2, a3, a4, a5⟩ := eZero_l (d := d) (by omega) 17 0 W (by omega) (by omega)
  have Zo : ∀ k i j, k ≠ 2149 → xI Z k i j = xI W k i j := fun k i j hk => a2 k i j (fun y => hk y.1)
  have kne : ∀ {k j x : Nat}, mOld d k j → kfM.contains x = true → k = x → j ≠ d := fun {k j x} hm hx e => hm.1 (by rw [e]; exact hx)
  have hold : ∀ k i j, mOld d k j → xI W k i j = xI M k i j := fun k i j hm => by
    have q : ∀ x, kfM.contains x = true → ¬ (k = x ∧ i = 0 ∧ j = d) := fun x hx y => kne hm hx y.1 y.2.2
    rw [hW, I_uI, if_neg (q 2150 (by decide +kernel)), I_uI, if_neg (q 2148 (by decide +kernel)), I_uI, if_neg (q 2146 (by decide +kernel)), I_uI, if_neg (q 2145 (by decide +kernel)), I_ne hm.2.2.2.2, I_uI, if_neg (q 2143 (by decide +kernel)), I_uI, if_neg (q 2142 (by decide +kernel)), I_uI, if_neg (q 2141 (by decide +kernel)), I_uI, if_neg (q 2140 (by decide +kernel))]
  refine ⟨uI Z 1153 0 0 (nI (d + 1)), ?_, fun k i j hm => ?_, fun k i j hk => ?_, fun j => ?_, by rw [I_uI, if_pos ⟨rfl, rfl, rfl⟩], ?_, ?_, ?_, ?_, ?_, ?_, ?_, ?_, fun j hj => ?_, fun k i j => ?_⟩
  · unfold fX11_begin wl
    dsimp only
    have w1 : xI (uI (uI (uI (uI (uI M 2140 0 d (nI o)) 2141 0 d l) 2142 0 d v) 2143 0 d n) 2144 0 d g) 2101 0 (32 + o) = nI (p + 1) := by
      rw [I_ne (by decide), I_ne (by decide), I_ne (by decide), I_ne (by decide), I_ne (by decide), hcode]
    simp only [h, hcl, if_pos hin]
    rw [show (32 : Int32) = nI 32 from rfl, nI_add, if_pos (inB_nI (show 32 + o < 120 by omega) (by decide)), cl_nI (show 32 + o < 2147483648 by omega), w1, nI_pred, ← hW, show (0 : Int32) = nI 0 from rfl, a1, Option.bind_some]
    have w2 : xI Z 1153 0 0 = nI d := by
      rw [Zo _ _ _ (by decide), hW, I_ne (by decide), I_ne (by decide), I_ne (by decide), I_ne (by decide), I_ne (by decide), I_ne (by decide), I_ne (by decide), I_ne (by decide), I_ne (by decide), h]
    dsimp only
    rw [w2, nI_1]
  · rw [I_ne hm.2.2.2.1]
    by_cases z : k = 2149
    · rw [a2 k i j (fun y => hm.2.2.1 z (by omega)), hold k i j hm]
    · rw [Zo k i j z, hold k i j hm]
  · have q : ∀ x, x ≠ 2102 → x ≠ 2151 → x ≠ 2152 → k ≠ x := fun x h1 h2 h3 y => by rcases hk with z | z | z <;> omega
    rw [I_ne (q _ (by decide) (by decide) (by decide)), Zo k i j (q _ (by decide) (by decide) (by decide)), hW, I_ne (q _ (by decide) (by decide) (by decide)), I_ne (q _ (by decide) (by decide) (by decide)), I_ne (q _ (by decide) (by decide) (by decide)), I_ne (q _ (by decide) (by decide) (by decide)), I_ne (q _ (by decide) (by decide) (by decide)), I_ne (q _ (by decide) (by decide) (by decide)), I_ne (q _ (by decide) (by decide) (by decide)), I_ne (q _ (by decide) (by decide) (by decide)), I_ne (q _ (by decide) (by decide) (by decide))]
  · rw [I_ne (by decide), Zo _ _ _ (by decide), hW, I_ne (by decide), I_ne (by decide), I_ne (by decide), I_ne (by decide), I_uI]
    by_cases z : j = d
    · rw [if_pos ⟨rfl, rfl, z⟩, if_pos z]
    · rw [if_neg (fun y => z y.2.2), if_neg z, I_ne (by decide), I_ne (by decide), I_ne (by decide), I_ne (by decide)]
  · rw [I_ne (by decide), Zo _ _ _ (by decide), hW, I_ne (by decide), I_ne (by decide), I_ne (by decide), I_ne (by decide), I_ne (by decide), I_ne (by decide), I_ne (by decide), I_ne (by decide), I_uI, if_pos ⟨rfl, rfl, rfl⟩]
  · rw [I_ne (by decide), Zo _ _ _ (by decide), hW, I_ne (by decide), I_ne (by decide), I_ne (by decide), I_ne (by decide), I_ne (by decide), I_ne (by decide), I_ne (by decide), I_uI, if_pos ⟨rfl, rfl, rfl⟩]
  · rw [I_ne (by decide), Zo _ _ _ (by decide), hW, I_ne (by decide), I_ne (by decide), I_ne (by decide), I_ne (by decide), I_ne (by decide), I_ne (by decide), I_uI, if_pos ⟨rfl, rfl, rfl⟩]
  · rw [I_ne (by decide), Zo _ _ _ (by decide), hW, I_ne (by decide), I_ne (by decide), I_ne (by decide), I_ne (by decide), I_ne (by decide), I_uI, if_pos ⟨rfl, rfl, rfl⟩]
  · rw [I_ne (by decide), Zo _ _ _ (by decide), hW, I_ne (by decide), I_ne (by decide), I_ne (by decide), I_uI, if_pos ⟨rfl, rfl, rfl⟩]
  · rw [I_ne (by decide), Zo _ _ _ (by decide), hW, I_ne (by decide), I_ne (by decide), I_uI, if_pos ⟨rfl, rfl, rfl⟩]
  · rw [I_ne (by decide), Zo _ _ _ (by decide), hW, I_ne (by decide), I_uI, if_pos ⟨rfl, rfl, rfl⟩]
  · rw [I_ne (by decide), Zo _ _ _ (by decide), hW, I_uI, if_pos ⟨rfl, rfl, rfl⟩]
  · rw [I_ne (by decide)]
    exact a3 j (by omega) hj
  · rw [L_uI, a4, hW]
    rfl
/-- class: a call begins, and saves what to go back to -/
theorem cOpen {C : XO} {d b : Nat} {p l o v n : Int32} : ∃ W, fX3_save (fX3_open C d p l o v n) d b (xI (fX3_open C d p l o v n) 10 b 0) (xI (fX3_open C d p l o v n) 406 0 0) = W ∧ (∀ k i j, (i = d → kfC.contains k = false) → ¬ (i = 49 + d ∧ stk k j) → xI W k i j = xI C k i j) ∧ (∀ k j, stk k j → b ≠ 49 + d → xI W k (49 + d) j = xI C k b j) ∧ (∀ k i j, xL W k i j = if k = 605 ∧ i = 49 + d ∧ j = 0 then xL C 605 b 0 else xL C k i j) ∧ (∀ k i, xR W k i = xR C k i) ∧ xI W 308 d 0 = p ∧ xI W 305 d 0 = l ∧ xI W 304 d 0 = o ∧ xI W 306 d 0 = v ∧ xI W 307 d 0 = n ∧ xI W 309 d 0 = 0 ∧ xI W 301 d 0 = 0 ∧ xI W 303 d 0 = -1 ∧ xI W 312 d 0 = xI C 10 b 0 ∧ xI W 313 d 0 = xI C 406 0 0 ∧ xI W 310 d 0 = xI C 310 d 0 ∧ ∀ j, j < 16 → xI W 2006 d j = 0 := by
  obtain ⟨V, hV⟩ : ∃ V, V = uI (uI (uI (uI (uI (uI (uI (uI C 308 d 0 p) 305 d 0 l) 304 d 0 o) 306 d 0 v) 307 d 0 n) 309 d 0 (0 : Int32)) 301 d 0 (0 : Int32)) 303 d 0 (-1 : Int32) := ⟨_, rfl⟩
  obtain ⟨Z, a1, a2, a3, a4, a5⟩ := cZero_l (f := d) p l o v n 17 0 V (by omega) (by omega)
  have eO : fX3_open C d p l o v n = Z := by
    unfold fX3_open
    rw [← hV]
    exact a1
  rw [eO]
  have Zo : ∀ k i j, k ≠ 2006 → xI Z k i j = xI V k i j := fun k i j hk => a2 k i j (fun y => hk y.1)
  have hVo : ∀ k i j, (i = d → kfC.contains k = false) → xI V k i j = xI C k i j := fun k i j h => by
    have q : ∀ x, kfC.contains x = true → ¬ (k = x ∧ i = d ∧ j = 0) := fun x hx y => by
      have := h y.2.1
      rw [y.1, hx] at this
      exact absurd this (by decide)
    rw [hV, I_uI, if_neg (q _ (by decide +kernel)), I_uI, if_neg (q _ (by decide +kernel)), I_uI, if_neg (q _ (by decide +kernel)), I_uI, if_neg (q _ (by decide +kernel)), I_uI, if_neg (q _ (by decide +kernel)), I_uI, if_neg (q _ (by decide +kernel)), I_uI, if_neg (q _ (by decide +kernel)), I_uI, if_neg (q _ (by decide +kernel))]
  have hZo : ∀ k i j, (i = d → kfC.contains k = false) → xI Z k i j = xI C k i j := fun k i j h => by
    rw [a2 k i j (fun y => by have := h y.2.1; rw [y.1] at this; exact absurd this (by decide +kernel)), hVo k i j h]
  have z10 : xI Z 10 b 0 = xI C 10 b 0 := hZo _ _ _ (fun _ => by decide +kernel)
  have z406 : xI Z 406 0 0 = xI C 406 0 0 := hZo _ _ _ (fun _ => by decide +kernel)
  have nst : ∀ k j, ¬ (k = 2011 ∨ k = 2012 ∨ k = 2013 ∨ k = 2014 ∨ k = 604) → ¬ stk k j := fun k j h y => h (by unfold stk at y; omega)
  refine ⟨uI (uI (fX6_copyFrom Z (49 + d) b) 312 d 0 (xI C 10 b 0)) 313 d 0 (xI C 406 0 0), ?_, fun k i j h1 h2 => ?_, fun k j h1 h2 => ?_, fun k i j => ?_, fun k i => ?_, ?_, ?_, ?_, ?_, ?_, ?_, ?_, ?_, ?_, ?_, ?_, fun j hj => ?_⟩
  · unfold fX3_save
    rw [z10, z406]
  · have q : ∀ x, kfC.contains x = true → ¬ (k = x ∧ i = d ∧ j = 0) := fun x hx y => by
      have := h1 y.2.1
      rw [y.1, hx] at this
      exact absurd this (by decide)
    rw [I_uI, if_neg (q _ (by decide +kernel)), I_uI, if_neg (q _ (by decide +kernel)), (cCopy_I k i j).2 h2, hZo k i j h1]
  · have h1' := h1
    unfold stk at h1'
    rw [I_ne (by omega), I_ne (by omega), (cCopy_I k (49 + d) j).1 rfl h1]
    refine hZo k b j (fun _ => ?_)
    rcases h1' with ⟨h | h | h, -⟩ | ⟨h, -⟩ | ⟨h, -⟩ <;> rw [h] <;> decide +kernel
  · rw [L_uI, L_uI, cCopy_L, a4, a4, hV]
    rfl
  · rw [R_uI, R_uI, cCopy_R, a5, hV]
    rfl
  · rw [I_ne (by decide), I_ne (by decide), (cCopy_I _ _ _).2 (fun y => nst _ _ (by decide) y.2), Zo _ _ _ (by decide), hV, I_ne (by decide), I_ne (by decide), I_ne (by decide), I_ne (by decide), I_ne (by decide), I_ne (by decide), I_ne (by decide), I_uI, if_pos ⟨rfl, rfl, rfl⟩]
  · rw [I_ne (by decide), I_ne (by decide), (cCopy_I _ _ _).2 (fun y => nst _ _ (by decide) y.2), Zo _ _ _ (by decide), hV, I_ne (by decide), I_ne (by decide), I_ne (by decide), I_ne (by decide), I_ne (by decide), I_ne (by decide), I_uI, if_pos ⟨rfl, rfl, rfl⟩]
  · rw [I_ne (by decide), I_ne (by decide), (cCopy_I _ _ _).2 (fun y => nst _ _ (by decide) y.2), Zo _ _ _ (by decide), hV, I_ne (by decide), I_ne (by decide), I_ne (by decide), I_ne (by decide), I_ne (by decide), I_uI, if_pos ⟨rfl, rfl, rfl⟩]
  · rw [I_ne (by decide), I_ne (by decide), (cCopy_I _ _ _).2 (fun y => nst _ _ (by decide) y.2), Zo _ _ _ (by decide), hV, I_ne (by decide), I_ne (by decide), I_ne (by decide), I_ne (by decide), I_uI, if_pos ⟨rfl, rfl, rfl⟩]
  · rw [I_ne (by decide), I_ne (by decide), (cCopy_I _ _ _).2 (fun y => nst _ _ (by decide) y.2), Zo _ _ _ (by decide), hV, I_ne (by decide), I_ne (by decide), I_ne (by decide), I_uI, if_pos ⟨rfl, rfl, rfl⟩]
  · rw [I_ne (by decide), I_ne (by decide), (cCopy_I _ _ _).2 (fun y => nst _ _ (by decide) y.2), Zo _ _ _ (by decide), hV, I_ne (by decide), I_ne (by decide), I_uI, if_pos ⟨rfl, rfl, rfl⟩]
  · rw [I_ne (by decide), I_ne (by decide), (cCopy_I _ _ _).2 (fun y => nst _ _ (by decide) y.2), Zo _ _ _ (by decide), hV, I_ne (by decide), I_uI, if_pos ⟨rfl, rfl, rfl⟩]
  · rw [I_ne (by decide), I_ne (by decide), (cCopy_I _ _ _).2 (fun y => nst _ _ (by decide) y.2), Zo _ _ _ (by decide), hV, I_uI, if_pos ⟨rfl, rfl, rfl⟩]
  · rw [I_ne (by decide), I_uI, if_pos ⟨rfl, rfl, rfl⟩]
  · rw [I_uI, if_pos ⟨rfl, rfl, rfl⟩]
  · rw [I_ne (by decide), I_ne (by decide), (cCopy_I _ _ _).2 (fun y => nst _ _ (by decide) y.2), Zo _ _ _ (by decide), hV, I_ne (by decide), I_ne (by decide), I_ne (by decide), I_ne (by decide), I_ne (by decide), I_ne (by decide), I_ne (by decide), I_ne (by decide)]
  · rw [I_ne (by decide), I_ne (by decide), (cCopy_I _ _ _).2 (fun y => nst _ _ (by decide) y.2)]
    exact a3 j (by omega) hj
