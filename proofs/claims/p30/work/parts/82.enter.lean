def kfC : List Nat := [301, 303, 304, 305, 306, 307, 308, 309, 310, 312, 313, 2006, 2005]
def ksC : List Nat := [2011, 2012, 2013, 2014, 604]
def kfM : List Nat := [2140, 2141, 2142, 2143, 2145, 2146, 2148, 2150, 2151, 2152]
/-- places that a new call of the reference leaves as they were -/
def mOld (d k j : Nat) : Prop := (kfM.contains k = true → j ≠ d) ∧ (k = 2102 → ¬ (120 * d ≤ j ∧ j < 120 * d + 120)) ∧ (k = 2149 → ¬ (16 * d ≤ j ∧ j < 16 * d + 16)) ∧ k ≠ 1153 ∧ k ≠ 2144
theorem lsub (l s : List Nat) {k : Nat} (hk : s.contains k = false) (h : l.all (fun x => s.contains x) = true) : l.contains k = false := by
  cases e : l.contains k with
  | false => rfl
  | true =>
    have h1 := List.contains_iff_mem.mp e
    have h2 := List.all_eq_true.mp h k h1
    rw [hk] at h2
    exact h2.symm
theorem cmod_f {b k i : Nat} (h : cmod b k i = false) : kfC.contains k = false ∧ (49 ≤ i → ksC.contains k = false) := by
  unfold cmod at h
  rw [Bool.or_eq_false_iff, Bool.or_eq_false_iff] at h
  obtain ⟨⟨h1, h2⟩, -⟩ := h
  refine ⟨lsub kfC _ h1 (by decide +kernel), fun h3 => ?_⟩
  rw [Bool.and_eq_false_iff] at h2
  rcases h2 with h2 | h2
  · exact lsub ksC _ h2 (by decide +kernel)
  · rw [Bool.or_eq_false_iff] at h2
    have := Nat.ble_eq_true_of_le h3
    rw [h2.2] at this
    exact absurd this (by decide)
theorem mmod_f {blk k j d : Nat} (h : mmod blk k j = false) : mOld d k j := by
  unfold mmod at h
  rw [Bool.or_eq_false_iff, Bool.or_eq_false_iff] at h
  obtain ⟨⟨h1, -⟩, -⟩ := h
  have h2 := lsub kfM _ h1 (by decide +kernel)
  refine ⟨fun y => ?_, fun y => ?_, fun y => ?_, fun y => ?_, fun y => ?_⟩
  · rw [h2] at y; exact absurd y (by decide)
  · subst y; exact absurd h1 (by decide +kernel)
  · subst y; exact absurd h1 (by decide +kernel)
  · subst y; exact absurd h1 (by decide +kernel)
  · subst y; exact absurd h1 (by decide +kernel)
theorem LN_grow {b d blk : Nat} {C1 M1 C' M' : XO} (h : LN b d blk C1 M1) (hb : b ≤ 48) (hc : ∀ k i j, (i = d → kfC.contains k = false) → (i = 49 + d → ksC.contains k = false) → xI C' k i j = xI C1 k i j) (hm : ∀ k j, mOld d k j → xI M' k 0 j = xI M1 k 0 j) (n301 : xI C' 301 d 0 = xI M' 2148 0 d) (n303 : xI C' 303 d 0 = xI M' 2150 0 d) (n304 : xI C' 304 d 0 = xI M' 2140 0 d) (n305 : xI C' 305 d 0 = xI M' 2141 0 d) (n306 : xI C' 306 d 0 = xI M' 2142 0 d) (n307 : xI C' 307 d 0 = xI M' 2143 0 d) (n308 : xI C' 308 d 0 = xI M' 2145 0 d) (n309 : xI C' 309 d 0 = xI M' 2146 0 d) (n312 : xI C' 312 d 0 = xI M' 2152 0 d) (n313 : xI C' 313 d 0 = xI M' 2151 0 d) (n2006 : ∀ j, j < 16 → xI C' 2006 d j = xI M' 2149 0 (16 * d + j)) (n2011 : ∀ j, j < 16 → xI C' 2011 (49 + d) j = xI M' 2102 0 (120 * d + j)) (n2012 : ∀ j, j < 16 → xI C' 2012 (49 + d) j = xI M' 2102 0 (120 * d + (16 + j))) (n2013 : ∀ j, j < 16 → xI C' 2013 (49 + d) j = xI M' 2102 0 (120 * d + (32 + j))) (n2014 : ∀ j, j < 64 → xI C' 2014 (49 + d) j = xI M' 2102 0 (120 * d + (48 + j))) (n604 : xI C' 604 (49 + d) 0 = xI M' 2102 0 (120 * d + 112)) : LN b (d + 1) blk C' M' := by
  intro k i j c h3 h2
  unfold ph at h2
  by_cases q : k = 2011
  · subst q
    rw [if_pos rfl] at h2
    split at h2
    · rename_i z
      obtain ⟨rfl, hj⟩ := z
      cases h2
      skip
      rw [hc 2011 i j (fun _ => rfl) (fun y => absurd y (by omega)), hm 2101 _ ⟨fun y => absurd y (by decide +kernel), fun y => absurd y (by decide), fun y => absurd y (by decide), by decide, by decide⟩]
      exact h 2011 i j _ (by decide) (ph_2011 hj)
    · split at h2
      · rename_i z
        obtain ⟨hi1, hi2, hj⟩ := z
        cases h2
        skip
        obtain ⟨t, rfl⟩ : ∃ t, i = 49 + t := ⟨i - 49, by omega⟩
        have e1 : 49 + t - 49 = t := by omega
        rw [e1]
        by_cases z : t = d
        · subst z
          exact n2011 j hj
        · rw [hc 2011 (49 + t) j (fun _ => rfl) (fun y => absurd y (by omega)), hm 2102 _ ⟨fun y => absurd y (by decide +kernel), fun _ => by omega, fun y => absurd y (by decide), by decide, by decide⟩]
          exact h 2011 (49 + t) j _ (by decide) (phs_2011 hb (by omega) hj)
      · cases h2
  rw [if_neg q] at h2
  clear q
  by_cases q : k = 2012
  · subst q
    rw [if_pos rfl] at h2
    split at h2
    · rename_i z
      obtain ⟨rfl, hj⟩ := z
      cases h2
      skip
      rw [hc 2012 i j (fun _ => rfl) (fun y => absurd y (by omega)), hm 2101 _ ⟨fun y => absurd y (by decide +kernel), fun y => absurd y (by decide), fun y => absurd y (by decide), by decide, by decide⟩]
      exact h 2012 i j _ (by decide) (ph_2012 hj)
    · split at h2
      · rename_i z
        obtain ⟨hi1, hi2, hj⟩ := z
        cases h2
        skip
        obtain ⟨t, rfl⟩ : ∃ t, i = 49 + t := ⟨i - 49, by omega⟩
        have e1 : 49 + t - 49 = t := by omega
        rw [e1]
        by_cases z : t = d
        · subst z
          exact n2012 j hj
        · rw [hc 2012 (49 + t) j (fun _ => rfl) (fun y => absurd y (by omega)), hm 2102 _ ⟨fun y => absurd y (by decide +kernel), fun _ => by omega, fun y => absurd y (by decide), by decide, by decide⟩]
          exact h 2012 (49 + t) j _ (by decide) (phs_2012 hb (by omega) hj)
      · cases h2
  rw [if_neg q] at h2
  clear q
  by_cases q : k = 2013
  · subst q
    rw [if_pos rfl] at h2
    split at h2
    · rename_i z
      obtain ⟨rfl, hj⟩ := z
      cases h2
      skip
      rw [hc 2013 i j (fun _ => rfl) (fun y => absurd y (by omega)), hm 2101 _ ⟨fun y => absurd y (by decide +kernel), fun y => absurd y (by decide), fun y => absurd y (by decide), by decide, by decide⟩]
      exact h 2013 i j _ (by decide) (ph_2013 hj)
    · split at h2
      · rename_i z
        obtain ⟨hi1, hi2, hj⟩ := z
        cases h2
        skip
        obtain ⟨t, rfl⟩ : ∃ t, i = 49 + t := ⟨i - 49, by omega⟩
        have e1 : 49 + t - 49 = t := by omega
        rw [e1]
        by_cases z : t = d
        · subst z
          exact n2013 j hj
        · rw [hc 2013 (49 + t) j (fun _ => rfl) (fun y => absurd y (by omega)), hm 2102 _ ⟨fun y => absurd y (by decide +kernel), fun _ => by omega, fun y => absurd y (by decide), by decide, by decide⟩]
          exact h 2013 (49 + t) j _ (by decide) (phs_2013 hb (by omega) hj)
      · cases h2
  rw [if_neg q] at h2
  clear q
  by_cases q : k = 2014
  · subst q
    rw [if_pos rfl] at h2
    split at h2
    · rename_i z
      obtain ⟨rfl, hj⟩ := z
      cases h2
      skip
      rw [hc 2014 i j (fun _ => rfl) (fun y => absurd y (by omega)), hm 2101 _ ⟨fun y => absurd y (by decide +kernel), fun y => absurd y (by decide), fun y => absurd y (by decide), by decide, by decide⟩]
      exact h 2014 i j _ (by decide) (ph_2014 hj)
    · split at h2
      · rename_i z
        obtain ⟨hi1, hi2, hj⟩ := z
        cases h2
        skip
        obtain ⟨t, rfl⟩ : ∃ t, i = 49 + t := ⟨i - 49, by omega⟩
        have e1 : 49 + t - 49 = t := by omega
        rw [e1]
        by_cases z : t = d
        · subst z
          exact n2014 j hj
        · rw [hc 2014 (49 + t) j (fun _ => rfl) (fun y => absurd y (by omega)), hm 2102 _ ⟨fun y => absurd y (by decide +kernel), fun _ => by omega, fun y => absurd y (by decide), by decide, by decide⟩]
          exact h 2014 (49 + t) j _ (by decide) (phs_2014 hb (by omega) hj)
      · cases h2
  rw [if_neg q] at h2
  clear q
  by_cases q : k = 604
  · subst q
    rw [if_pos rfl] at h2
    split at h2
    · rename_i z
      obtain ⟨rfl, hj⟩ := z
      cases h2
      subst hj
      rw [hc 604 i 0 (fun _ => rfl) (fun y => absurd y (by omega)), hm 2101 _ ⟨fun y => absurd y (by decide +kernel), fun y => absurd y (by decide), fun y => absurd y (by decide), by decide, by decide⟩]
      exact h 604 i 0 _ (by decide) ph_604
    · split at h2
      · rename_i z
        obtain ⟨hi1, hi2, hj⟩ := z
        cases h2
        subst hj
        obtain ⟨t, rfl⟩ : ∃ t, i = 49 + t := ⟨i - 49, by omega⟩
        have e1 : 49 + t - 49 = t := by omega
        rw [e1]
        by_cases z : t = d
        · subst z
          exact n604
        · rw [hc 604 (49 + t) 0 (fun _ => rfl) (fun y => absurd y (by omega)), hm 2102 _ ⟨fun y => absurd y (by decide +kernel), fun _ => by omega, fun y => absurd y (by decide), by decide, by decide⟩]
          exact h 604 (49 + t) 0 _ (by decide) (phs_604 hb (by omega))
      · cases h2
  rw [if_neg q] at h2
  clear q
  by_cases q : k = 10
  · subst q
    rw [if_pos rfl] at h2
    split at h2
    · rename_i z
      obtain ⟨z1, z2⟩ := z
      cases h2
      rw [hc 10 i j (fun _ => rfl) (fun _ => rfl), hm 2130 _ ⟨fun y => absurd y (by decide +kernel), fun y => absurd y (by decide), fun y => absurd y (by decide), by decide, by decide⟩]
      subst z1; subst z2; exact h 10 _ _ _ (by decide) ph_10
    · cases h2
  rw [if_neg q] at h2
  clear q
  by_cases q : k = 406
  · subst q
    rw [if_pos rfl] at h2
    split at h2
    · rename_i z
      obtain ⟨z1, z2⟩ := z
      cases h2
      rw [hc 406 i j (fun _ => rfl) (fun _ => rfl), hm 1154 _ ⟨fun y => absurd y (by decide +kernel), fun y => absurd y (by decide), fun y => absurd y (by decide), by decide, by decide⟩]
      subst z1; subst z2; exact h 406 _ _ _ (by decide) ph_406
    · cases h2
  rw [if_neg q] at h2
  clear q
  by_cases q : k = 301
  · subst q
    rw [if_pos rfl] at h2
    split at h2
    · rename_i z
      obtain ⟨hi, rfl⟩ := z
      cases h2
      by_cases z : i = d
      · subst z
        exact n301
      · rw [hc 301 i 0 (fun y => absurd y z) (fun _ => rfl), hm 2148 _ ⟨fun _ => z, fun y => absurd y (by decide), fun y => absurd y (by decide), by decide, by decide⟩]
        exact h 301 i 0 _ (by decide) (ph_301 (by omega))
    · cases h2
  rw [if_neg q] at h2
  clear q
  by_cases q : k = 303
  · subst q
    rw [if_pos rfl] at h2
    split at h2
    · rename_i z
      obtain ⟨hi, rfl⟩ := z
      cases h2
      by_cases z : i = d
      · subst z
        exact n303
      · rw [hc 303 i 0 (fun y => absurd y z) (fun _ => rfl), hm 2150 _ ⟨fun _ => z, fun y => absurd y (by decide), fun y => absurd y (by decide), by decide, by decide⟩]
        exact h 303 i 0 _ (by decide) (ph_303 (by omega))
    · cases h2
  rw [if_neg q] at h2
  clear q
  by_cases q : k = 304
  · subst q
    rw [if_pos rfl] at h2
    split at h2
    · rename_i z
      obtain ⟨hi, rfl⟩ := z
      cases h2
      by_cases z : i = d
      · subst z
        exact n304
      · rw [hc 304 i 0 (fun y => absurd y z) (fun _ => rfl), hm 2140 _ ⟨fun _ => z, fun y => absurd y (by decide), fun y => absurd y (by decide), by decide, by decide⟩]
        exact h 304 i 0 _ (by decide) (ph_304 (by omega))
    · cases h2
  rw [if_neg q] at h2
  clear q
  by_cases q : k = 305
  · subst q
    rw [if_pos rfl] at h2
    split at h2
    · rename_i z
      obtain ⟨hi, rfl⟩ := z
      cases h2
      by_cases z : i = d
      · subst z
        exact n305
      · rw [hc 305 i 0 (fun y => absurd y z) (fun _ => rfl), hm 2141 _ ⟨fun _ => z, fun y => absurd y (by decide), fun y => absurd y (by decide), by decide, by decide⟩]
        exact h 305 i 0 _ (by decide) (ph_305 (by omega))
    · cases h2
  rw [if_neg q] at h2
  clear q
  by_cases q : k = 306
  · subst q
    rw [if_pos rfl] at h2
    split at h2
    · rename_i z
      obtain ⟨hi, rfl⟩ := z
      cases h2
      by_cases z : i = d
      · subst z
        exact n306
      · rw [hc 306 i 0 (fun y => absurd y z) (fun _ => rfl), hm 2142 _ ⟨fun _ => z, fun y => absurd y (by decide), fun y => absurd y (by decide), by decide, by decide⟩]
        exact h 306 i 0 _ (by decide) (ph_306 (by omega))
    · cases h2
  rw [if_neg q] at h2
  clear q
  by_cases q : k = 307
  · subst q
    rw [if_pos rfl] at h2
    split at h2
    · rename_i z
      obtain ⟨hi, rfl⟩ := z
      cases h2
      by_cases z : i = d
      · subst z
        exact n307
      · rw [hc 307 i 0 (fun y => absurd y z) (fun _ => rfl), hm 2143 _ ⟨fun _ => z, fun y => absurd y (by decide), fun y => absurd y (by decide), by decide, by decide⟩]
        exact h 307 i 0 _ (by decide) (ph_307 (by omega))
    · cases h2
  rw [if_neg q] at h2
  clear q
  by_cases q : k = 308
  · subst q
    rw [if_pos rfl] at h2
    split at h2
    · rename_i z
      obtain ⟨hi, rfl⟩ := z
      cases h2
      by_cases z : i = d
      · subst z
        exact n308
      · rw [hc 308 i 0 (fun y => absurd y z) (fun _ => rfl), hm 2145 _ ⟨fun _ => z, fun y => absurd y (by decide), fun y => absurd y (by decide), by decide, by decide⟩]
        exact h 308 i 0 _ (by decide) (ph_308 (by omega))
    · cases h2
  rw [if_neg q] at h2
  clear q
  by_cases q : k = 309
  · subst q
    rw [if_pos rfl] at h2
    split at h2
    · rename_i z
      obtain ⟨hi, rfl⟩ := z
      cases h2
      by_cases z : i = d
      · subst z
        exact n309
      · rw [hc 309 i 0 (fun y => absurd y z) (fun _ => rfl), hm 2146 _ ⟨fun _ => z, fun y => absurd y (by decide), fun y => absurd y (by decide), by decide, by decide⟩]
        exact h 309 i 0 _ (by decide) (ph_309 (by omega))
    · cases h2
  rw [if_neg q] at h2
  clear q
  by_cases q : k = 310
  · subst q
    rw [if_pos rfl] at h2
    exact absurd rfl h3
  rw [if_neg q] at h2
  clear q
  by_cases q : k = 312
  · subst q
    rw [if_pos rfl] at h2
    split at h2
    · rename_i z
      obtain ⟨hi, rfl⟩ := z
      cases h2
      by_cases z : i = d
      · subst z
        exact n312
      · rw [hc 312 i 0 (fun y => absurd y z) (fun _ => rfl), hm 2152 _ ⟨fun _ => z, fun y => absurd y (by decide), fun y => absurd y (by decide), by decide, by decide⟩]
        exact h 312 i 0 _ (by decide) (ph_312 (by omega))
    · cases h2
  rw [if_neg q] at h2
  clear q
  by_cases q : k = 313
  · subst q
    rw [if_pos rfl] at h2
    split at h2
    · rename_i z
      obtain ⟨hi, rfl⟩ := z
      cases h2
      by_cases z : i = d
      · subst z
        exact n313
      · rw [hc 313 i 0 (fun y => absurd y z) (fun _ => rfl), hm 2151 _ ⟨fun _ => z, fun y => absurd y (by decide), fun y => absurd y (by decide), by decide, by decide⟩]
        exact h 313 i 0 _ (by decide) (ph_313 (by omega))
    · cases h2
  rw [if_neg q] at h2
  clear q
  by_cases q : k = 2006
  · subst q
    rw [if_pos rfl] at h2
    split at h2
    · rename_i z
      obtain ⟨hi, hj⟩ := z
      cases h2
      by_cases z : i = d
      · subst z
        exact n2006 j hj
      · rw [hc 2006 i j (fun y => absurd y z) (fun _ => rfl), hm 2149 _ ⟨fun y => absurd y (by decide +kernel), fun y => absurd y (by decide), fun _ => by omega, by decide, by decide⟩]
        exact h 2006 i j _ (by decide) (ph_2006 (by omega) hj)
    · cases h2
  rw [if_neg q] at h2
  clear q
  by_cases q : k = 2008
  · subst q
    rw [if_pos rfl] at h2
    split at h2
    · rename_i z
      obtain ⟨z1, z2⟩ := z
      cases h2
      rw [hc 2008 i j (fun _ => rfl) (fun _ => rfl), hm 2103 _ ⟨fun y => absurd y (by decide +kernel), fun y => absurd y (by decide), fun y => absurd y (by decide), by decide, by decide⟩]
      subst z1; exact h 2008 _ _ _ (by decide) (ph_2008 z2)
    · cases h2
  rw [if_neg q] at h2
  clear q
  by_cases q : k = 2009
  · subst q
    rw [if_pos rfl] at h2
    split at h2
    · rename_i z
      obtain ⟨z1, z2⟩ := z
      cases h2
      rw [hc 2009 i j (fun _ => rfl) (fun _ => rfl), hm 2104 _ ⟨fun y => absurd y (by decide +kernel), fun y => absurd y (by decide), fun y => absurd y (by decide), by decide, by decide⟩]
      subst z1; exact h 2009 _ _ _ (by decide) (ph_2009 z2)
    · cases h2
  rw [if_neg q] at h2
  clear q
  by_cases q : k = 2010
  · subst q
    rw [if_pos rfl] at h2
    split at h2
    · rename_i z
      obtain ⟨z1, z2⟩ := z
      cases h2
      rw [hc 2010 i j (fun _ => rfl) (fun _ => rfl), hm 2105 _ ⟨fun y => absurd y (by decide +kernel), fun y => absurd y (by decide), fun y => absurd y (by decide), by decide, by decide⟩]
      subst z1; exact h 2010 _ _ _ (by decide) (ph_2010 z2)
    · cases h2
  rw [if_neg q] at h2
  clear q
  cases h2
theorem LN_undo {b d blk : Nat} {C M C' M' : XO} (h : LN b (d + 1) blk C M) (hb : b ≤ 48) (hc : ∀ k i j, ¬ (i = b ∧ stk k j) → ¬ (k = 10 ∧ i = b ∧ j = 0) → ¬ (k = 406 ∧ i = 0 ∧ j = 0) → xI C' k i j = xI C k i j) (hs : ∀ k j, stk k j → xI C' k b j = xI C k (49 + d) j) (h10 : xI C' 10 b 0 = xI C 312 d 0) (h406 : xI C' 406 0 0 = xI C 313 d 0) (hm : ∀ k j, k ≠ 1153 → k ≠ 2101 → ¬ (k = 1154 ∧ j = 0) → ¬ (k = 2130 ∧ j = blk) → xI M' k 0 j = xI M k 0 j) (hm1 : ∀ j, j < 120 → xI M' 2101 0 j = xI M 2102 0 (120 * d + j)) (hm2 : xI M' 2130 0 blk = xI M 2152 0 d) (hm3 : xI M' 1154 0 0 = xI M 2151 0 d) : LN b d blk C' M' := by
  intro k i j c h3 h2
  unfold ph at h2
  by_cases q : k = 2011
  · subst q
    rw [if_pos rfl] at h2
    split at h2
    · rename_i z
      obtain ⟨rfl, hj⟩ := z
      cases h2
      skip
      rw [hs 2011 j (Or.inl ⟨Or.inl rfl, hj⟩), hm1 _ (by omega)]
      exact h 2011 (49 + d) j _ (by decide) (phs_2011 hb (by omega) hj)
    · split at h2
      · rename_i z
        obtain ⟨hi1, hi2, hj⟩ := z
        cases h2
        skip
        obtain ⟨t, rfl⟩ : ∃ t, i = 49 + t := ⟨i - 49, by omega⟩
        have e1 : 49 + t - 49 = t := by omega
        rw [e1, hc 2011 (49 + t) j (fun y => by have := y.1; omega) (fun y => absurd y.1 (by decide)) (fun y => absurd y.1 (by decide)), hm 2102 _ (by decide) (by decide) (fun y => absurd y.1 (by decide)) (fun y => absurd y.1 (by decide))]
        exact h 2011 (49 + t) j _ (by decide) (phs_2011 hb (by omega) hj)
      · cases h2
  rw [if_neg q] at h2
  clear q
  by_cases q : k = 2012
  · subst q
    rw [if_pos rfl] at h2
    split at h2
    · rename_i z
      obtain ⟨rfl, hj⟩ := z
      cases h2
      skip
      rw [hs 2012 j (Or.inl ⟨Or.inr (Or.inl rfl), hj⟩), hm1 _ (by omega)]
      exact h 2012 (49 + d) j _ (by decide) (phs_2012 hb (by omega) hj)
    · split at h2
      · rename_i z
        obtain ⟨hi1, hi2, hj⟩ := z
        cases h2
        skip
        obtain ⟨t, rfl⟩ : ∃ t, i = 49 + t := ⟨i - 49, by omega⟩
        have e1 : 49 + t - 49 = t := by omega
        rw [e1, hc 2012 (49 + t) j (fun y => by have := y.1; omega) (fun y => absurd y.1 (by decide)) (fun y => absurd y.1 (by decide)), hm 2102 _ (by decide) (by decide) (fun y => absurd y.1 (by decide)) (fun y => absurd y.1 (by decide))]
        exact h 2012 (49 + t) j _ (by decide) (phs_2012 hb (by omega) hj)
      · cases h2
  rw [if_neg q] at h2
  clear q
  by_cases q : k = 2013
  · subst q
    rw [if_pos rfl] at h2
    split at h2
    · rename_i z
      obtain ⟨rfl, hj⟩ := z
      cases h2
      skip
      rw [hs 2013 j (Or.inl ⟨Or.inr (Or.inr rfl), hj⟩), hm1 _ (by omega)]
      exact h 2013 (49 + d) j _ (by decide) (phs_2013 hb (by omega) hj)
    · split at h2
      · rename_i z
        obtain ⟨hi1, hi2, hj⟩ := z
        cases h2
        skip
        obtain ⟨t, rfl⟩ : ∃ t, i = 49 + t := ⟨i - 49, by omega⟩
        have e1 : 49 + t - 49 = t := by omega
        rw [e1, hc 2013 (49 + t) j (fun y => by have := y.1; omega) (fun y => absurd y.1 (by decide)) (fun y => absurd y.1 (by decide)), hm 2102 _ (by decide) (by decide) (fun y => absurd y.1 (by decide)) (fun y => absurd y.1 (by decide))]
        exact h 2013 (49 + t) j _ (by decide) (phs_2013 hb (by omega) hj)
      · cases h2
  rw [if_neg q] at h2
  clear q
  by_cases q : k = 2014
  · subst q
    rw [if_pos rfl] at h2
    split at h2
    · rename_i z
      obtain ⟨rfl, hj⟩ := z
      cases h2
      skip
      rw [hs 2014 j (Or.inr (Or.inl ⟨rfl, hj⟩)), hm1 _ (by omega)]
      exact h 2014 (49 + d) j _ (by decide) (phs_2014 hb (by omega) hj)
    · split at h2
      · rename_i z
        obtain ⟨hi1, hi2, hj⟩ := z
        cases h2
        skip
        obtain ⟨t, rfl⟩ : ∃ t, i = 49 + t := ⟨i - 49, by omega⟩
        have e1 : 49 + t - 49 = t := by omega
        rw [e1, hc 2014 (49 + t) j (fun y => by have := y.1; omega) (fun y => absurd y.1 (by decide)) (fun y => absurd y.1 (by decide)), hm 2102 _ (by decide) (by decide) (fun y => absurd y.1 (by decide)) (fun y => absurd y.1 (by decide))]
        exact h 2014 (49 + t) j _ (by decide) (phs_2014 hb (by omega) hj)
      · cases h2
  rw [if_neg q] at h2
  clear q
  by_cases q : k = 604
  · subst q
    rw [if_pos rfl] at h2
    split at h2
    · rename_i z
      obtain ⟨rfl, hj⟩ := z
      cases h2
      subst hj
      rw [hs 604 0 (Or.inr (Or.inr ⟨rfl, rfl⟩)), hm1 _ (by omega)]
      exact h 604 (49 + d) 0 _ (by decide) (phs_604 hb (by omega))
    · split at h2
      · rename_i z
        obtain ⟨hi1, hi2, hj⟩ := z
        cases h2
        subst hj
        obtain ⟨t, rfl⟩ : ∃ t, i = 49 + t := ⟨i - 49, by omega⟩
        have e1 : 49 + t - 49 = t := by omega
        rw [e1, hc 604 (49 + t) 0 (fun y => by have := y.1; omega) (fun y => absurd y.1 (by decide)) (fun y => absurd y.1 (by decide)), hm 2102 _ (by decide) (by decide) (fun y => absurd y.1 (by decide)) (fun y => absurd y.1 (by decide))]
        exact h 604 (49 + t) 0 _ (by decide) (phs_604 hb (by omega))
      · cases h2
  rw [if_neg q] at h2
  clear q
  by_cases q : k = 10
  · subst q
    rw [if_pos rfl] at h2
    split at h2
    · rename_i z
      obtain ⟨rfl, rfl⟩ := z
      cases h2
      rw [h10, hm2]
      exact h 312 d 0 _ (by decide) (ph_312 (by omega))
    · cases h2
  rw [if_neg q] at h2
  clear q
  by_cases q : k = 406
  · subst q
    rw [if_pos rfl] at h2
    split at h2
    · rename_i z
      obtain ⟨rfl, rfl⟩ := z
      cases h2
      rw [h406, hm3]
      exact h 313 d 0 _ (by decide) (ph_313 (by omega))
    · cases h2
  rw [if_neg q] at h2
  clear q
  by_cases q : k = 301
  · subst q
    rw [if_pos rfl] at h2
    split at h2
    · rename_i z
      obtain ⟨hi, rfl⟩ := z
      cases h2
      rw [hc 301 i 0 (fun y => by unfold stk at y; omega) (fun y => absurd y.1 (by decide)) (fun y => absurd y.1 (by decide)), hm 2148 _ (by decide) (by decide) (fun y => absurd y.1 (by decide)) (fun y => absurd y.1 (by decide))]
      exact h 301 i 0 _ (by decide) (ph_301 (by omega))
    · cases h2
  rw [if_neg q] at h2
  clear q
  by_cases q : k = 303
  · subst q
    rw [if_pos rfl] at h2
    split at h2
    · rename_i z
      obtain ⟨hi, rfl⟩ := z
      cases h2
      rw [hc 303 i 0 (fun y => by unfold stk at y; omega) (fun y => absurd y.1 (by decide)) (fun y => absurd y.1 (by decide)), hm 2150 _ (by decide) (by decide) (fun y => absurd y.1 (by decide)) (fun y => absurd y.1 (by decide))]
      exact h 303 i 0 _ (by decide) (ph_303 (by omega))
    · cases h2
  rw [if_neg q] at h2
  clear q
  by_cases q : k = 304
  · subst q
    rw [if_pos rfl] at h2
    split at h2
    · rename_i z
      obtain ⟨hi, rfl⟩ := z
      cases h2
      rw [hc 304 i 0 (fun y => by unfold stk at y; omega) (fun y => absurd y.1 (by decide)) (fun y => absurd y.1 (by decide)), hm 2140 _ (by decide) (by decide) (fun y => absurd y.1 (by decide)) (fun y => absurd y.1 (by decide))]
      exact h 304 i 0 _ (by decide) (ph_304 (by omega))
    · cases h2
  rw [if_neg q] at h2
  clear q
  by_cases q : k = 305
  · subst q
    rw [if_pos rfl] at h2
    split at h2
    · rename_i z
      obtain ⟨hi, rfl⟩ := z
      cases h2
      rw [hc 305 i 0 (fun y => by unfold stk at y; omega) (fun y => absurd y.1 (by decide)) (fun y => absurd y.1 (by decide)), hm 2141 _ (by decide) (by decide) (fun y => absurd y.1 (by decide)) (fun y => absurd y.1 (by decide))]
      exact h 305 i 0 _ (by decide) (ph_305 (by omega))
    · cases h2
  rw [if_neg q] at h2
  clear q
  by_cases q : k = 306
  · subst q
    rw [if_pos rfl] at h2
    split at h2
    · rename_i z
      obtain ⟨hi, rfl⟩ := z
      cases h2
      rw [hc 306 i 0 (fun y => by unfold stk at y; omega) (fun y => absurd y.1 (by decide)) (fun y => absurd y.1 (by decide)), hm 2142 _ (by decide) (by decide) (fun y => absurd y.1 (by decide)) (fun y => absurd y.1 (by decide))]
      exact h 306 i 0 _ (by decide) (ph_306 (by omega))
    · cases h2
  rw [if_neg q] at h2
  clear q
  by_cases q : k = 307
  · subst q
    rw [if_pos rfl] at h2
    split at h2
    · rename_i z
      obtain ⟨hi, rfl⟩ := z
      cases h2
      rw [hc 307 i 0 (fun y => by unfold stk at y; omega) (fun y => absurd y.1 (by decide)) (fun y => absurd y.1 (by decide)), hm 2143 _ (by decide) (by decide) (fun y => absurd y.1 (by decide)) (fun y => absurd y.1 (by decide))]
      exact h 307 i 0 _ (by decide) (ph_307 (by omega))
    · cases h2
  rw [if_neg q] at h2
  clear q
  by_cases q : k = 308
  · subst q
    rw [if_pos rfl] at h2
    split at h2
    · rename_i z
      obtain ⟨hi, rfl⟩ := z
      cases h2
      rw [hc 308 i 0 (fun y => by unfold stk at y; omega) (fun y => absurd y.1 (by decide)) (fun y => absurd y.1 (by decide)), hm 2145 _ (by decide) (by decide) (fun y => absurd y.1 (by decide)) (fun y => absurd y.1 (by decide))]
      exact h 308 i 0 _ (by decide) (ph_308 (by omega))
    · cases h2
  rw [if_neg q] at h2
  clear q
  by_cases q : k = 309
  · subst q
    rw [if_pos rfl] at h2
    split at h2
    · rename_i z
      obtain ⟨hi, rfl⟩ := z
      cases h2
      rw [hc 309 i 0 (fun y => by unfold stk at y; omega) (fun y => absurd y.1 (by decide)) (fun y => absurd y.1 (by decide)), hm 2146 _ (by decide) (by decide) (fun y => absurd y.1 (by decide)) (fun y => absurd y.1 (by decide))]
      exact h 309 i 0 _ (by decide) (ph_309 (by omega))
    · cases h2
  rw [if_neg q] at h2
  clear q
  by_cases q : k = 310
  · subst q
    rw [if_pos rfl] at h2
    exact absurd rfl h3
  rw [if_neg q] at h2
  clear q
  by_cases q : k = 312
  · subst q
    rw [if_pos rfl] at h2
    split at h2
    · rename_i z
      obtain ⟨hi, rfl⟩ := z
      cases h2
      rw [hc 312 i 0 (fun y => by unfold stk at y; omega) (fun y => absurd y.1 (by decide)) (fun y => absurd y.1 (by decide)), hm 2152 _ (by decide) (by decide) (fun y => absurd y.1 (by decide)) (fun y => absurd y.1 (by decide))]
      exact h 312 i 0 _ (by decide) (ph_312 (by omega))
    · cases h2
  rw [if_neg q] at h2
  clear q
  by_cases q : k = 313
  · subst q
    rw [if_pos rfl] at h2
    split at h2
    · rename_i z
      obtain ⟨hi, rfl⟩ := z
      cases h2
      rw [hc 313 i 0 (fun y => by unfold stk at y; omega) (fun y => absurd y.1 (by decide)) (fun y => absurd y.1 (by decide)), hm 2151 _ (by decide) (by decide) (fun y => absurd y.1 (by decide)) (fun y => absurd y.1 (by decide))]
      exact h 313 i 0 _ (by decide) (ph_313 (by omega))
    · cases h2
  rw [if_neg q] at h2
  clear q
  by_cases q : k = 2006
  · subst q
    rw [if_pos rfl] at h2
    split at h2
    · rename_i z
      obtain ⟨hi, hj⟩ := z
      cases h2
      rw [hc 2006 i j (fun y => by unfold stk at y; omega) (fun y => absurd y.1 (by decide)) (fun y => absurd y.1 (by decide)), hm 2149 _ (by decide) (by decide) (fun y => absurd y.1 (by decide)) (fun y => absurd y.1 (by decide))]
      exact h 2006 i j _ (by decide) (ph_2006 (by omega) hj)
    · cases h2
  rw [if_neg q] at h2
  clear q
  by_cases q : k = 2008
  · subst q
    rw [if_pos rfl] at h2
    split at h2
    · rename_i z
      obtain ⟨rfl, z2⟩ := z
      cases h2
      rw [hc 2008 0 j (fun y => by unfold stk at y; omega) (fun y => absurd y.1 (by decide)) (fun y => absurd y.1 (by decide)), hm 2103 _ (by decide) (by decide) (fun y => absurd y.1 (by decide)) (fun y => absurd y.1 (by decide))]
      exact h 2008 _ _ _ (by decide) (ph_2008 z2)
    · cases h2
  rw [if_neg q] at h2
  clear q
  by_cases q : k = 2009
  · subst q
    rw [if_pos rfl] at h2
    split at h2
    · rename_i z
      obtain ⟨rfl, z2⟩ := z
      cases h2
      rw [hc 2009 0 j (fun y => by unfold stk at y; omega) (fun y => absurd y.1 (by decide)) (fun y => absurd y.1 (by decide)), hm 2104 _ (by decide) (by decide) (fun y => absurd y.1 (by decide)) (fun y => absurd y.1 (by decide))]
      exact h 2009 _ _ _ (by decide) (ph_2009 z2)
    · cases h2
  rw [if_neg q] at h2
  clear q
  by_cases q : k = 2010
  · subst q
    rw [if_pos rfl] at h2
    split at h2
    · rename_i z
      obtain ⟨rfl, z2⟩ := z
      cases h2
      rw [hc 2010 0 j (fun y => by unfold stk at y; omega) (fun y => absurd y.1 (by decide)) (fun y => absurd y.1 (by decide)), hm 2105 _ (by decide) (by decide) (fun y => absurd y.1 (by decide)) (fun y => absurd y.1 (by decide))]
      exact h 2010 _ _ _ (by decide) (ph_2010 z2)
    · cases h2
  rw [if_neg q] at h2
  clear q
  cases h2
/-- a call begins -/
theorem MS.enter {P : XP} {d e q s : Nat} {C C1 M M1 C' M' : XO} (h : MS P d e q s C M) (h1 : MS P d e q s C1 M1) (hd : d < 4)
    (hC1 : ∀ k i j, k ≠ 2011 → xI C1 k i j = xI C k i j) (hL1 : ∀ k i j, xL C1 k i j = xL C k i j) (hM1 : ∀ k i j, k ≠ 2101 → xI M1 k i j = xI M k i j)
    (hc : ∀ k i j, (i = d → kfC.contains k = false) → (i = 49 + d → ksC.contains k = false) → xI C' k i j = xI C1 k i j)
    (hcs : ∀ k j, stk k j → xI C' k (49 + d) j = xI C k (pb P) j)
    (hcl : ∀ k i j, ¬ (k = 605 ∧ i = 49 + d ∧ j = 0) → xL C' k i j = xL C1 k i j) (hcl2 : xL C' 605 (49 + d) 0 = xL C 605 (pb P) 0) (hcr : ∀ k i, xR C' k i = xR C1 k i)
    (hm : ∀ k i j, mOld d k j → xI M' k i j = xI M1 k i j) (hms : ∀ j, j < 120 → xI M' 2102 0 (120 * d + j) = xI M 2101 0 j) (hml : ∀ k i j, xL M' k i j = xL M1 k i j)
    {o l v n p : Nat} (bo : o < 16) (bl : l < 16) (bv : v < 1000000) (bn : n < 1000000) (bp : p < 8) (hcode : xI M1 2101 0 (32 + o) = nI (p + 1))
    (c304 : xI C' 304 d 0 = nI o) (c305 : xI C' 305 d 0 = nI l) (c306 : xI C' 306 d 0 = nI v) (c307 : xI C' 307 d 0 = nI n) (c308 : xI C' 308 d 0 = nI p) (c309 : xI C' 309 d 0 = 0) (c301 : xI C' 301 d 0 = 0) (c303 : xI C' 303 d 0 = -1) (c312 : xI C' 312 d 0 = xI C 10 (pb P) 0) (c313 : xI C' 313 d 0 = xI C 406 0 0) (c2006 : ∀ j, j < 16 → xI C' 2006 d j = 0)
    (m304 : xI M' 2140 0 d = nI o) (m305 : xI M' 2141 0 d = nI l) (m306 : xI M' 2142 0 d = nI v) (m307 : xI M' 2143 0 d = nI n) (m308 : xI M' 2145 0 d = nI p) (m309 : xI M' 2146 0 d = 0) (m301 : xI M' 2148 0 d = 0) (m303 : xI M' 2150 0 d = -1) (m312 : xI M' 2152 0 d = xI M 2130 0 (pk P)) (m313 : xI M' 2151 0 d = xI M 1154 0 0) (m2006 : ∀ j, j < 16 → xI M' 2149 0 (16 * d + j) = 0)
    (m1153 : xI M' 1153 0 0 = nI (d + 1)) (hGA : sGA P (d + 1) d C' M') (hGS : sGS P (d + 1) s C' M') : MS P (d + 1) d q s C' M' := by
  have hb := h.1.ZP.1
  have hN := h.1.ZP.2.2.2.2.1
  have MT : ∀ k j, kfM.contains k = false → k ≠ 2102 → k ≠ 2149 → k ≠ 1153 → k ≠ 2144 → mOld d k j := fun k j a1 a2 a3 a4 a5 => ⟨fun y => by rw [a1] at y; exact absurd y (by decide), fun y => absurd y a2, fun y => absurd y a3, a4, a5⟩
  have m2101 : ∀ j, xI M' 2101 0 j = xI M1 2101 0 j := fun j => hm 2101 0 j (MT 2101 j (by decide +kernel) (by decide) (by decide) (by decide) (by decide))
  have frm : ∀ k j, j ≠ d → k ≠ 2102 → k ≠ 2149 → k ≠ 1153 → k ≠ 2144 → xI M' k 0 j = xI M1 k 0 j := fun k j a1 a2 a3 a4 a5 => hm k 0 j ⟨fun _ => a1, fun y => absurd y a2, fun y => absurd y a3, a4, a5⟩
  have snm : ∀ i, i < d → ∀ x, x < 120 → xI M' 2102 0 (120 * i + x) = xI M1 2102 0 (120 * i + x) := fun i hi x hx => hm 2102 0 _ ⟨fun y => absurd y (by decide +kernel), fun _ => by omega, fun y => absurd y (by decide), by decide, by decide⟩
  have cb : ∀ k j, kfC.contains k = false → ksC.contains k = false → ∀ i, xI C' k i j = xI C1 k i j := fun k j a1 a2 i => hc k i j (fun _ => a1) (fun _ => a2)
  have fr2 : ∀ k i j, i < d → ksC.contains k = false → xI C' k i j = xI C1 k i j := fun k i j hi a2 => hc k i j (fun y => absurd y (by omega)) (fun _ => a2)
  refine ⟨⟨h.1.ZP, ?_, hGA, ?_, ?_, ?_, ?_, ?_, ?_, ?_, ?_, ?_, ?_, ?_, hGS, ?_, ?_, ?_, ?_, ?_, ?_⟩, ?_⟩
  · refine LN_grow h1.1.LN hb hc (fun k j y => hm k 0 j y) ?_ ?_ ?_ ?_ ?_ ?_ ?_ ?_ ?_ ?_ ?_ ?_ ?_ ?_ ?_ ?_
    · rw [c301, m301]
    · rw [c303, m303]
    · rw [c304, m304]
    · rw [c305, m305]
    · rw [c306, m306]
    · rw [c307, m307]
    · rw [c308, m308]
    · rw [c309, m309]
    · rw [c312, m312]
      exact h.1.LN 10 _ _ _ (by decide) ph_10
    · rw [c313, m313]
      exact h.1.LN 406 _ _ _ (by decide) ph_406
    · intro j hj
      rw [c2006 j hj, m2006 j hj]
    · intro j hj
      rw [hcs 2011 j (Or.inl ⟨Or.inl rfl, hj⟩), hms j (by omega)]
      exact h.1.eI hj
    · intro j hj
      rw [hcs 2012 j (Or.inl ⟨Or.inr (Or.inl rfl), hj⟩), hms _ (by omega)]
      exact h.1.eII hj
    · intro j hj
      rw [hcs 2013 j (Or.inl ⟨Or.inr (Or.inr rfl), hj⟩), hms _ (by omega)]
      exact h.1.eIII hj
    · intro j hj
      rw [hcs 2014 j (Or.inr (Or.inl ⟨rfl, hj⟩)), hms _ (by omega)]
      exact h.1.eIV hj
    · rw [hcs 604 0 (Or.inr (Or.inr ⟨rfl, rfl⟩)), hms _ (by omega)]
      exact h.1.eB
  · intro i hi j hj hj2
    by_cases z : i = d
    · rw [z, c301] at hj2
      have e0 : (0 : Int32).toInt = 0 := rfl
      omega
    · rw [fr2 301 i 0 (by omega) (by decide +kernel)] at hj2
      rw [fr2 2005 i j (by omega) (by decide +kernel), hm 2147 0 _ (MT _ _ (by decide +kernel) (by decide) (by decide) (by decide) (by decide))]
      exact h1.1.HP i (by omega) j hj hj2
  · intro j hj hj2
    have h10 : ∀ i, xI C' 10 i 0 = xI C1 10 i 0 := fun i => cb 10 0 (by decide +kernel) (by decide +kernel) i
    have h20 : xI C' 2001 (pb P) j = xI C1 2001 (pb P) j := cb 2001 j (by decide +kernel) (by decide +kernel) _
    rw [h20, hm 2132 0 _ (MT _ _ (by decide +kernel) (by decide) (by decide) (by decide) (by decide))]
    refine h1.1.EV j hj ?_
    rcases hj2 with hj2 | ⟨i, i1, i2⟩
    · rw [h10] at hj2
      exact Or.inl hj2
    · by_cases z : i = d
      · rw [z, c312, ← hC1 10 _ _ (by decide)] at i2
        exact Or.inl i2
      · rw [fr2 312 i 0 (by omega) (by decide +kernel)] at i2
        exact Or.inr ⟨i, by omega, i2⟩
  · refine ⟨fun t ht => ?_, fun i hi t ht => ?_⟩
    · rw [hcl _ _ _ (fun y => by have := y.2.1; omega), m2101]
      exact h1.1.PD.1 t ht
    · have ht2 : t / 20 < 2 := by omega
      by_cases z : i = d
      · rw [z, hcl2, hms _ (by omega)]
        exact h.1.PD.1 t ht
      · rw [hcl _ _ _ (fun y => by have := y.2.1; omega), snm i (by omega) _ (by omega)]
        exact h1.1.PD.2 i (by omega) t ht
  · exact ⟨(hcr _ _).trans h1.1.RF.1, (hcr _ _).trans h1.1.RF.2⟩
  · obtain ⟨-, s2, s3, s4, -⟩ := h1.1.ST
    refine ⟨m1153, ?_, ?_, ?_, by omega⟩
    · rw [hm 1157 0 0 (MT _ _ (by decide +kernel) (by decide) (by decide) (by decide) (by decide)), s2]
    · rw [hm 1158 0 0 (MT _ _ (by decide +kernel) (by decide) (by decide) (by decide) (by decide)), s3]
    · rw [cb 405 0 (by decide +kernel) (by decide +kernel), hm 2121 0 _ (MT _ _ (by decide +kernel) (by decide) (by decide) (by decide) (by decide)), hm 2107 0 _ (MT _ _ (by decide +kernel) (by decide) (by decide) (by decide) (by decide)), s4]
  · intro p' hp'
    obtain ⟨n', n1, n2, n3⟩ := h1.1.PR p' hp'
    refine ⟨n', n1, ?_, fun j hj => ?_⟩
    · rw [hm 2105 0 _ (MT _ _ (by decide +kernel) (by decide) (by decide) (by decide) (by decide)), n2]
    · rw [hm 2103 0 _ (MT _ _ (by decide +kernel) (by decide) (by decide) (by decide) (by decide)), hm 2104 0 _ (MT _ _ (by decide +kernel) (by decide) (by decide) (by decide) (by decide))]
      exact n3 j hj
  · intro i hi
    by_cases z : i = d
    · obtain ⟨u, u1, u2, u3, u4⟩ := h.2
      exact ⟨u, fun j hj => by dsimp only; rw [z, hms j (by omega)]; exact u1 j hj, u2, u3, u4⟩
    · obtain ⟨u, u1, u2, u3, u4⟩ := h1.1.SN i (by omega)
      exact ⟨u, fun j hj => by dsimp only; rw [snm i (by omega) j (by omega)]; exact u1 j hj, u2, u3, u4⟩
  · intro i hi a ha e
    by_cases z : i = d
    · subst z
      rw [m304] at e
      have ea : o = a := (nI_eq (by omega) (by omega)).mp e
      subst ea
      refine ⟨?_, fun k hk hik => absurd hk (by omega)⟩
      rw [m2101]
      obtain ⟨n', n1, n2, n3⟩ := h1.2.get.2.2.1 o bo
      rw [hcode] at n1
      have en : p + 1 = n' := (nI_eq (by omega) (by omega)).mp n1
      rcases n3 (by omega) with n3 | n3
      · exact n3
      · exact absurd n3 (by omega)
    · have e' := e
      rw [frm 2140 i z (by decide) (by decide) (by decide) (by decide)] at e
      obtain ⟨g1, g2⟩ := h1.1.OW i (by omega) a ha e
      refine ⟨by rw [m2101]; exact g1, fun k hk hik => ?_⟩
      by_cases zk : k = d
      · rw [zk, hms _ (by omega)]
        rw [hM1 2140 0 i (by decide)] at e
        exact (h.1.OW i (by omega) a ha e).1
      · rw [snm k (by omega) _ (by omega)]
        exact g2 k (by omega) hik
  · intro i hi
    by_cases z : i = d
    · subst z
      exact ⟨o, l, v, n, p, 0, 0, bo, bl, bv, bn, bp, by omega, by omega, m304, m305, m306, m307, m308, m309, by rw [m303]; rfl⟩
    · have f := h1.1.FR i (by omega)
      rw [← frm 2140 i z (by decide) (by decide) (by decide) (by decide), ← frm 2141 i z (by decide) (by decide) (by decide) (by decide), ← frm 2142 i z (by decide) (by decide) (by decide) (by decide), ← frm 2143 i z (by decide) (by decide) (by decide) (by decide), ← frm 2145 i z (by decide) (by decide) (by decide) (by decide), ← frm 2146 i z (by decide) (by decide) (by decide) (by decide), ← frm 2150 i z (by decide) (by decide) (by decide) (by decide)] at f
      exact f
  · intro i hi
    by_cases z : i = d
    · subst z
      exact ⟨0, by omega, m301, fun j hj => absurd hj (by omega)⟩
    · obtain ⟨n', n1, n2, n3⟩ := h1.1.HS i (by omega)
      refine ⟨n', n1, by rw [frm 2148 i z (by decide) (by decide) (by decide) (by decide), n2], fun j hj => ?_⟩
      rw [hm 2147 0 _ (MT _ _ (by decide +kernel) (by decide) (by decide) (by decide) (by decide))]
      exact n3 j hj
  · intro i hi j hj
    by_cases z : i = d
    · exact ⟨0, by decide, by rw [z, m2006 j hj]; rfl⟩
    · rw [hm 2149 0 _ ⟨fun y => absurd y (by decide +kernel), fun y => absurd y (by decide), fun _ => by omega, by decide, by decide⟩]
      exact h1.1.MM i (by omega) j hj
  · refine ⟨?_, fun i hi => ?_⟩
    · rw [hm 2130 0 _ (MT _ _ (by decide +kernel) (by decide) (by decide) (by decide) (by decide))]
      exact h1.1.EC.1
    · by_cases z : i = d
      · rw [z, m312]
        exact h.1.EC.1
      · rw [frm 2152 i z (by decide) (by decide) (by decide) (by decide)]
        exact h1.1.EC.2 i (by omega)
  · refine ⟨?_, fun i hi => ?_⟩
    · rw [hm 1154 0 _ (MT _ _ (by decide +kernel) (by decide) (by decide) (by decide) (by decide))]
      exact h1.1.RB.1
    · by_cases z : i = d
      · rw [z, m313]
        exact h.1.RB.1
      · rw [frm 2151 i z (by decide) (by decide) (by decide) (by decide)]
        exact h1.1.RB.2 i (by omega)
  · intro k i j z
    obtain ⟨z1, z2⟩ := cmod_f z
    rw [hc k i j (fun _ => z1) (fun y => z2 (by omega))]
    exact h1.1.FA k i j z
  · intro k i j z
    rw [hm k i j (mmod_f z)]
    exact h1.1.FB k i j z
  · intro k i j z
    rw [hcl k i j (fun y => by rcases z with z | z; exact z y.1; have := y.2.1; omega)]
    exact h1.1.FL k i j z
  · intro k i j
    rw [hml]
    exact h1.1.FM k i j
  · have e : (fun j => xI M' 2101 0 j) = fun j => xI M1 2101 0 j := by funext j; exact m2101 j
    show stOK (fun j => xI M' 2101 0 j) _ _ _
    rw [e]
    exact h1.2
