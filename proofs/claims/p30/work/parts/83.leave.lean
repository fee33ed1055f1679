theorem LN_shrink {b d blk : Nat} {C M : XO} (h : LN b (d + 1) blk C M) (hb : b ≤ 48) : LN b d blk C M := by
  intro k i j c h3 h2
  unfold ph at h2
  by_cases q : k = 2011
  · subst q
    rw [if_pos rfl] at h2
    split at h2
    · rename_i z
      obtain ⟨rfl, hj⟩ := z
      cases h2
      skip
      exact h 2011 i j _ (by decide) (ph_2011 hj)
    · split at h2
      · rename_i z
        obtain ⟨hi1, hi2, hj⟩ := z
        cases h2
        skip
        obtain ⟨t, rfl⟩ : ∃ t, i = 49 + t := ⟨i - 49, by omega⟩
        have e1 : 49 + t - 49 = t := by omega
        rw [e1]
        exact h 2011 (49 + t) j _ (by decide) (phs_2011 hb (by omega) hj)
      · cases h2
  rw [if_neg q] at h2
  clear q
  by_cases q : k = 2012
  · subst q
    rw [if_pos rfl] at h2
    split at h2
    · rename_i z
      obtain ⟨rfl, hj⟩ := z
      cases h2
      skip
      exact h 2012 i j _ (by decide) (ph_2012 hj)
    · split at h2
      · rename_i z
        obtain ⟨hi1, hi2, hj⟩ := z
        cases h2
        skip
        obtain ⟨t, rfl⟩ : ∃ t, i = 49 + t := ⟨i - 49, by omega⟩
        have e1 : 49 + t - 49 = t := by omega
        rw [e1]
        exact h 2012 (49 + t) j _ (by decide) (phs_2012 hb (by omega) hj)
      · cases h2
  rw [if_neg q] at h2
  clear q
  by_cases q : k = 2013
  · subst q
    rw [if_pos rfl] at h2
    split at h2
    · rename_i z
      obtain ⟨rfl, hj⟩ := z
      cases h2
      skip
      exact h 2013 i j _ (by decide) (ph_2013 hj)
    · split at h2
      · rename_i z
        obtain ⟨hi1, hi2, hj⟩ := z
        cases h2
        skip
        obtain ⟨t, rfl⟩ : ∃ t, i = 49 + t := ⟨i - 49, by omega⟩
        have e1 : 49 + t - 49 = t := by omega
        rw [e1]
        exact h 2013 (49 + t) j _ (by decide) (phs_2013 hb (by omega) hj)
      · cases h2
  rw [if_neg q] at h2
  clear q
  by_cases q : k = 2014
  · subst q
    rw [if_pos rfl] at h2
    split at h2
    · rename_i z
      obtain ⟨rfl, hj⟩ := z
      cases h2
      skip
      exact h 2014 i j _ (by decide) (ph_2014 hj)
    · split at h2
      · rename_i z
        obtain ⟨hi1, hi2, hj⟩ := z
        cases h2
        skip
        obtain ⟨t, rfl⟩ : ∃ t, i = 49 + t := ⟨i - 49, by omega⟩
        have e1 : 49 + t - 49 = t := by omega
        rw [e1]
        exact h 2014 (49 + t) j _ (by decide) (phs_2014 hb (by omega) hj)
      · cases h2
  rw [if_neg q] at h2
  clear q
  by_cases q : k = 604
  · subst q
    rw [if_pos rfl] at h2
    split at h2
    · rename_i z
      obtain ⟨rfl, hj⟩ := z
      cases h2
      subst hj
      exact h 604 i 0 _ (by decide) ph_604
    · split at h2
      · rename_i z
        obtain ⟨hi1, hi2, hj⟩ := z
        cases h2
        subst hj
        obtain ⟨t, rfl⟩ : ∃ t, i = 49 + t := ⟨i - 49, by omega⟩
        have e1 : 49 + t - 49 = t := by omega
        rw [e1]
        exact h 604 (49 + t) 0 _ (by decide) (phs_604 hb (by omega))
      · cases h2
  rw [if_neg q] at h2
  clear q
  by_cases q : k = 10
  · subst q
    rw [if_pos rfl] at h2
    split at h2
    · rename_i z
      obtain ⟨rfl, rfl⟩ := z
      cases h2
      exact h 10 _ _ _ (by decide) ph_10
    · cases h2
  rw [if_neg q] at h2
  clear q
  by_cases q : k = 406
  · subst q
    rw [if_pos rfl] at h2
    split at h2
    · rename_i z
      obtain ⟨rfl, rfl⟩ := z
      cases h2
      exact h 406 _ _ _ (by decide) ph_406
    · cases h2
  rw [if_neg q] at h2
  clear q
  by_cases q : k = 301
  · subst q
    rw [if_pos rfl] at h2
    split at h2
    · rename_i z
      obtain ⟨hi, rfl⟩ := z
      cases h2
      exact h 301 i 0 _ (by decide) (ph_301 (by omega))
    · cases h2
  rw [if_neg q] at h2
  clear q
  by_cases q : k = 303
  · subst q
    rw [if_pos rfl] at h2
    split at h2
    · rename_i z
      obtain ⟨hi, rfl⟩ := z
      cases h2
      exact h 303 i 0 _ (by decide) (ph_303 (by omega))
    · cases h2
  rw [if_neg q] at h2
  clear q
  by_cases q : k = 304
  · subst q
    rw [if_pos rfl] at h2
    split at h2
    · rename_i z
      obtain ⟨hi, rfl⟩ := z
      cases h2
      exact h 304 i 0 _ (by decide) (ph_304 (by omega))
    · cases h2
  rw [if_neg q] at h2
  clear q
  by_cases q : k = 305
  · subst q
    rw [if_pos rfl] at h2
    split at h2
    · rename_i z
      obtain ⟨hi, rfl⟩ := z
      cases h2
      exact h 305 i 0 _ (by decide) (ph_305 (by omega))
    · cases h2
  rw [if_neg q] at h2
  clear q
  by_cases q : k = 306
  · subst q
    rw [if_pos rfl] at h2
    split at h2
    · rename_i z
      obtain ⟨hi, rfl⟩ := z
      cases h2
      exact h 306 i 0 _ (by decide) (ph_306 (by omega))
    · cases h2
  rw [if_neg q] at h2
  clear q
  by_cases q : k = 307
  · subst q
    rw [if_pos rfl] at h2
    split at h2
    · rename_i z
      obtain ⟨hi, rfl⟩ := z
      cases h2
      exact h 307 i 0 _ (by decide) (ph_307 (by omega))
    · cases h2
  rw [if_neg q] at h2
  clear q
  by_cases q : k = 308
  · subst q
    rw [if_pos rfl] at h2
    split at h2
    · rename_i z
      obtain ⟨hi, rfl⟩ := z
      cases h2
      exact h 308 i 0 _ (by decide) (ph_308 (by omega))
    · cases h2
  rw [if_neg q] at h2
  clear q
  by_cases q : k = 309
  · subst q
    rw [if_pos rfl] at h2
    split at h2
    · rename_i z
      obtain ⟨hi, rfl⟩ := z
      cases h2
      exact h 309 i 0 _ (by decide) (ph_309 (by omega))
    · cases h2
  rw [if_neg q] at h2
  clear q
  by_cases q : k = 310
  · subst q
    rw [if_pos rfl] at h2
    exact absurd rfl h3
  rw [if_neg q] at h2
  clear q
  by_cases q : k = 312
  · subst q
    rw [if_pos rfl] at h2
    split at h2
    · rename_i z
      obtain ⟨hi, rfl⟩ := z
      cases h2
      exact h 312 i 0 _ (by decide) (ph_312 (by omega))
    · cases h2
  rw [if_neg q] at h2
  clear q
  by_cases q : k = 313
  · subst q
    rw [if_pos rfl] at h2
    split at h2
    · rename_i z
      obtain ⟨hi, rfl⟩ := z
      cases h2
      exact h 313 i 0 _ (by decide) (ph_313 (by omega))
    · cases h2
  rw [if_neg q] at h2
  clear q
  by_cases q : k = 2006
  · subst q
    rw [if_pos rfl] at h2
    split at h2
    · rename_i z
      obtain ⟨hi, hj⟩ := z
      cases h2
      exact h 2006 i j _ (by decide) (ph_2006 (by omega) hj)
    · cases h2
  rw [if_neg q] at h2
  clear q
  by_cases q : k = 2008
  · subst q
    rw [if_pos rfl] at h2
    split at h2
    · rename_i z
      obtain ⟨rfl, z2⟩ := z
      cases h2
      exact h 2008 _ _ _ (by decide) (ph_2008 z2)
    · cases h2
  rw [if_neg q] at h2
  clear q
  by_cases q : k = 2009
  · subst q
    rw [if_pos rfl] at h2
    split at h2
    · rename_i z
      obtain ⟨rfl, z2⟩ := z
      cases h2
      exact h 2009 _ _ _ (by decide) (ph_2009 z2)
    · cases h2
  rw [if_neg q] at h2
  clear q
  by_cases q : k = 2010
  · subst q
    rw [if_pos rfl] at h2
    split at h2
    · rename_i z
      obtain ⟨rfl, z2⟩ := z
      cases h2
      exact h 2010 _ _ _ (by decide) (ph_2010 z2)
    · cases h2
  rw [if_neg q] at h2
  clear q
  cases h2
/-- what the end of a call does behind what it undoes -/
def finT (j_2 : XO) (x1 x2 : Int32) : Option XO := (if x1 = 0 ∨ x1 = 1 then (wl (uI j_2 1156 0 0 x1) (fun Ω_6 => (wl (uI Ω_6 1155 0 0 x2) (fun Ω_7 => (if (xI Ω_7 1153 0 0) ≤ 0 then (some Ω_7) else (if inB ((xI Ω_7 1153 0 0) - (1 : Int32)) 5 then (if inB ((xI Ω_7 1153 0 0) - (1 : Int32)) 5 then (wl (uI Ω_7 2144 0 ((xI Ω_7 1153 0 0) - (1 : Int32)).toNatClampNeg ((xI Ω_7 2144 0 ((xI Ω_7 1153 0 0) - (1 : Int32)).toNatClampNeg) + x2)) (fun Ω_12 => (wl ((if x1 = 0 then (0 : Int32) else (1 : Int32))) (fun (j_13 : Int32) => (fX11_push Ω_12 ((xI Ω_12 1153 0 0) - (1 : Int32)) j_13).bind (fun r_15 => (some r_15)))))) else none) else none)))))) else none)
theorem finish_eq {M : XO} {d : Nat} (h : xI M 1153 0 0 = nI (d + 1)) (x1 x2 : Int32) : fX11_finish M x1 x2 = (if x1 = 0 then fX11_undone (uI M 1153 0 0 (nI d)) (nI d) else some (uI M 1153 0 0 (nI d))).bind (fun W => finT W x1 x2) := by
  unfold fX11_finish wl
  dsimp only
  have w1 : xI (uI M 1153 0 0 (nI d)) 1153 0 0 = nI d := by rw [I_uI, if_pos ⟨rfl, rfl, rfl⟩]
  rw [h, nI_pred, w1, bS]
  rfl
/-- the uppermost call is over, and went well -/
theorem MS.shrink {P : XP} {d q s g : Nat} {C M : XO} (h : MS P (d + 1) d q s C M) (hg : xI C 310 d 0 = nI g) (hg2 : g < 2147483648) : g ≤ s ∧ xI M 2144 0 d = nI g ∧ MS P d d q (s - g) C (uI M 1153 0 0 (nI d)) := by
  have hm : xI M 2144 0 d = nI g := by rw [h.1.GA d (by omega), if_pos rfl, hg]
  obtain ⟨u, u1, u2, u3⟩ := h.1.GS
  have hd4 := h.1.ST.2.2.2.2
  have u2' : sumN u d + u d ≤ s := u2
  have hu : u d = g := by
    have e := u1 d (by omega)
    rw [hm] at e
    exact ((nI_eq (by omega) (by omega)).mp e).symm
  have hq : ∀ k i j, k ≠ 1153 → xI (uI M 1153 0 0 (nI d)) k i j = xI M k i j := fun k i j hk => I_ne hk
  refine ⟨by omega, hm, ⟨h.1.ZP, ?_, fun i hi => ?_, fun i hi => ?_, fun j hj hj2 => ?_, ⟨fun t ht => ?_, fun i hi t ht => ?_⟩, h.1.RF, ?_, fun p hp => ?_, fun i hi => ?_, fun i hi a ha e => ?_, fun i hi => ?_, fun i hi => ?_, fun i hi => ?_, ⟨u, fun i hi => ?_, by omega, by omega⟩, ⟨?_, fun i hi => ?_⟩, ⟨?_, fun i hi => ?_⟩, h.1.FA, sFB_up h.1.FB (C' := C) rfl _, h.1.FL, fun k i j => by rw [L_uI]; exact h.1.FM k i j⟩, sCS_cg (fun i j => hq _ _ _ (by decide)) h.2⟩
  · exact (LN_shrink h.1.LN h.1.ZP.1).upm h.1.ZP.1 qhn_1153 _
  · rw [hq _ _ _ (by decide)]
    exact h.1.GA i (by omega)
  · simp only [hq 2147 _ _ (by decide)]
    exact h.1.HP i (by omega)
  · rw [hq _ _ _ (by decide)]
    refine h.1.EV j hj ?_
    rcases hj2 with z | ⟨i, i1, i2⟩
    · exact Or.inl z
    · exact Or.inr ⟨i, by omega, i2⟩
  · rw [hq _ _ _ (by decide)]
    exact h.1.PD.1 t ht
  · rw [hq _ _ _ (by decide)]
    exact h.1.PD.2 i (by omega) t ht
  · obtain ⟨-, s2, s3, s4, s5⟩ := h.1.ST
    refine ⟨by rw [I_uI, if_pos ⟨rfl, rfl, rfl⟩], by rw [hq _ _ _ (by decide), s2], by rw [hq _ _ _ (by decide), s3], by rw [hq _ _ _ (by decide), hq _ _ _ (by decide), s4], by omega⟩
  · simp only [hq 2105 _ _ (by decide), hq 2103 _ _ (by decide), hq 2104 _ _ (by decide)]
    exact h.1.PR p hp
  · simp only [hq 2102 _ _ (by decide)]
    exact h.1.SN i (by omega)
  · rw [hq 2140 _ _ (by decide)] at e
    obtain ⟨g1, g2⟩ := h.1.OW i (by omega) a ha e
    refine ⟨by rw [hq _ _ _ (by decide)]; exact g1, fun k hk hik => ?_⟩
    rw [hq _ _ _ (by decide)]
    exact g2 k (by omega) hik
  · simp only [hq 2140 _ _ (by decide), hq 2141 _ _ (by decide), hq 2142 _ _ (by decide), hq 2143 _ _ (by decide), hq 2145 _ _ (by decide), hq 2146 _ _ (by decide), hq 2150 _ _ (by decide)]
    exact h.1.FR i (by omega)
  · simp only [hq 2148 _ _ (by decide), hq 2147 _ _ (by decide)]
    exact h.1.HS i (by omega)
  · simp only [hq 2149 _ _ (by decide)]
    exact h.1.MM i (by omega)
  · rw [hq _ _ _ (by decide)]
    exact u1 i (by omega)
  · rw [hq _ _ _ (by decide)]
    exact h.1.EC.1
  · rw [hq _ _ _ (by decide)]
    exact h.1.EC.2 i (by omega)
  · rw [hq _ _ _ (by decide)]
    exact h.1.RB.1
  · rw [hq _ _ _ (by decide)]
    exact h.1.RB.2 i (by omega)
theorem stk_cmod {b k j : Nat} (h : stk k j) : cmod b k b = true := by
  rcases h with ⟨h | h | h, -⟩ | ⟨h, -⟩ | ⟨h, -⟩
  · rw [h]; exact cmod_st.1
  · rw [h]; exact cmod_st.2.1
  · rw [h]; exact cmod_st.2.2.1
  · rw [h]; exact cmod_st.2.2.2.1
  · rw [h]; exact cmod_st.2.2.2.2.1
/-- the uppermost call is over, and is undone -/
theorem MS.undo {P : XP} {d q s g : Nat} {C M : XO} (h : MS P (d + 1) d q s C M) (hg : xI C 310 d 0 = nI g) (hg2 : g < 2147483648) : g ≤ s ∧ ∃ C' M', fX4_undo C (pb P) (pb P) d = some C' ∧ fX11_undone (uI M 1153 0 0 (nI d)) (nI d) = some M' ∧ MS P d d q (s - g) C' M' ∧ (∀ k i j, kfC.contains k = true → xI C' k i j = xI C k i j) := by
  have hb := h.1.ZP.1
  have hk48 := h.1.ZP.2.1
  have hm : xI M 2144 0 d = nI g := by rw [h.1.GA d (by omega), if_pos rfl, hg]
  obtain ⟨u, u1, u2, u3⟩ := h.1.GS
  have hd4 := h.1.ST.2.2.2.2
  have u2' : sumN u d + u d ≤ s := u2
  have hu : u d = g := by
    have e := u1 d (by omega)
    rw [hm] at e
    exact ((nI_eq (by omega) (by omega)).mp e).symm
  have hk1 : xI M 1158 0 0 = nI (pk P) := h.1.ST.2.2.1
  obtain ⟨V, hV⟩ : ∃ V, V = fX6_copyFrom C (pb P) (49 + d) := ⟨_, rfl⟩
  have V1 : ∀ k j, stk k j → xI V k (pb P) j = xI C k (49 + d) j := fun k j y => by rw [hV]; exact (cCopy_I k (pb P) j).1 rfl y
  have V2 : ∀ k i j, ¬ (i = pb P ∧ stk k j) → xI V k i j = xI C k i j := fun k i j y => by rw [hV]; exact (cCopy_I k i j).2 y
  have V3 : ∀ k i j, xL V k i j = if k = 605 ∧ i = pb P ∧ j = 0 then xL C 605 (49 + d) 0 else xL C k i j := fun k i j => by rw [hV, cCopy_L]
  have V4 : ∀ k i, xR V k i = xR C k i := fun k i => by rw [hV, cCopy_R]
  have n312 : xI V 312 d 0 = xI C 312 d 0 := V2 _ _ _ (fun y => by have := y.2; unfold stk at this; omega)
  have n313 : xI V 313 d 0 = xI C 313 d 0 := V2 _ _ _ (fun y => by have := y.2; unfold stk at this; omega)
  obtain ⟨C', hC'⟩ : ∃ C', C' = uI (uI V 10 (pb P) 0 (xI C 312 d 0)) 406 0 0 (xI C 313 d 0) := ⟨_, rfl⟩
  obtain ⟨M1, a1, a2, a3, a4, a5⟩ := eUndo (d := d) (by omega) (uI M 1153 0 0 (nI d))
  have N1 : ∀ k i j, k ≠ 2101 → xI M1 k i j = xI (uI M 1153 0 0 (nI d)) k i j := fun k i j hk => a2 k i j (fun y => hk y.1)
  have N2 : ∀ k i j, k ≠ 2101 → k ≠ 1153 → xI M1 k i j = xI M k i j := fun k i j hk hk2 => by rw [N1 k i j hk, I_ne hk2]
  have N3 : ∀ x, x < 120 → xI M1 2101 0 x = xI M 2102 0 (120 * d + x) := fun x hx => by
    have := a3 x (by omega) hx
    rw [Nat.zero_add, I_ne (by decide)] at this
    exact this
  obtain ⟨M', hM'⟩ : ∃ M', M' = uI (uI M1 1154 0 0 (xI M 2151 0 d)) 2130 0 (pk P) (xI M 2152 0 d) := ⟨_, rfl⟩
  have Q1 : ∀ k i j, k ≠ 2101 → k ≠ 1153 → k ≠ 1154 → k ≠ 2130 → xI M' k i j = xI M k i j := fun k i j b1 b2 b3 b4 => by rw [hM', I_ne b4, I_ne b3, N2 k i j b1 b2]
  have Q2 : ∀ x, x < 120 → xI M' 2101 0 x = xI M 2102 0 (120 * d + x) := fun x hx => by rw [hM', I_ne (by decide), I_ne (by decide), N3 x hx]
  have Q3 : xI M' 2130 0 (pk P) = xI M 2152 0 d := by rw [hM', I_uI, if_pos ⟨rfl, rfl, rfl⟩]
  have Q4 : xI M' 1154 0 0 = xI M 2151 0 d := by rw [hM', I_ne (by decide), I_uI, if_pos ⟨rfl, rfl, rfl⟩]
  have Q5 : xI M' 1153 0 0 = nI d := by rw [hM', I_ne (by decide), I_ne (by decide), N1 _ _ _ (by decide), I_uI, if_pos ⟨rfl, rfl, rfl⟩]
  have K1 : ∀ k i j, ¬ (i = pb P ∧ stk k j) → ¬ (k = 10 ∧ i = pb P ∧ j = 0) → ¬ (k = 406 ∧ i = 0 ∧ j = 0) → xI C' k i j = xI C k i j := fun k i j b1 b2 b3 => by rw [hC', I_uI, if_neg b3, I_uI, if_neg b2, V2 k i j b1]
  have K2 : ∀ k j, stk k j → xI C' k (pb P) j = xI C k (49 + d) j := fun k j y => by
    have y' := y
    unfold stk at y'
    rw [hC', I_ne (by omega), I_ne (by omega), V1 k j y]
  have K3 : xI C' 10 (pb P) 0 = xI C 312 d 0 := by rw [hC', I_ne (by decide), I_uI, if_pos ⟨rfl, rfl, rfl⟩]
  have K4 : xI C' 406 0 0 = xI C 313 d 0 := by rw [hC', I_uI, if_pos ⟨rfl, rfl, rfl⟩]
  have K5 : ∀ k i j, xL C' k i j = if k = 605 ∧ i = pb P ∧ j = 0 then xL C 605 (49 + d) 0 else xL C k i j := fun k i j => by rw [hC', L_uI, L_uI, V3]
  have K6 : ∀ k i, xR C' k i = xR C k i := fun k i => by rw [hC']; exact V4 k i
  have K7 : ∀ k i j, kfC.contains k = true → xI C' k i j = xI C k i j := fun k i j hk => by
    have hne : ∀ x, kfC.contains x = false → k ≠ x := fun x hx y => by rw [y, hx] at hk; exact absurd hk (by decide)
    refine K1 k i j (fun y => ?_) (fun y => hne 10 (by decide +kernel) y.1) (fun y => hne 406 (by decide +kernel) y.1)
    have y2 := y.2
    have z1 := hne 2011 (by decide +kernel)
    have z2 := hne 2012 (by decide +kernel)
    have z3 := hne 2013 (by decide +kernel)
    have z4 := hne 2014 (by decide +kernel)
    have z5 := hne 604 (by decide +kernel)
    unfold stk at y2
    omega
  have hin : inB (nI d) 5 := inB_nI (by omega) (by decide)
  have hcl : (nI d).toNatClampNeg = d := cl_nI (by omega)
  have hQ2130 : ∀ i j, j ≠ pk P → xI M' 2130 i j = xI M 2130 i j := fun i j hj => by rw [hM', I_uI, if_neg (fun y => hj y.2.2), I_ne (by decide), N2 _ _ _ (by decide) (by decide)]
  refine ⟨by omega, C', M', ?_, ?_, ⟨⟨h.1.ZP, ?_, fun i hi => ?_, fun i hi j hj hj2 => ?_, fun j hj hj2 => ?_, ⟨fun t ht => ?_, fun i hi t ht => ?_⟩, ⟨(K6 _ _).trans h.1.RF.1, (K6 _ _).trans h.1.RF.2⟩, ?_, fun p hp => ?_, fun i hi => ?_, fun i hi a ha e => ?_, fun i hi => ?_, fun i hi => ?_, fun i hi => ?_, ⟨u, fun i hi => ?_, by omega, by omega⟩, ⟨?_, fun i hi => ?_⟩, ⟨?_, fun i hi => ?_⟩, fun k i j z => ?_, fun k i j z => ?_, fun k i j z => ?_, fun k i j => ?_⟩, ?_⟩, K7⟩
  · unfold fX4_undo wl
    dsimp only
    rw [if_pos h.1.RF.2, ← hV, if_pos ((V4 _ _).trans h.1.RF.1), n312]
    have : xI (uI V 10 (pb P) 0 (xI C 312 d 0)) 313 d 0 = xI C 313 d 0 := by rw [I_ne (by decide), n313]
    rw [this, hC']
  · unfold fX11_undone wl
    rw [a1, Option.bind_some]
    dsimp only
    have e1 : xI M1 2151 0 d = xI M 2151 0 d := N2 _ _ _ (by decide) (by decide)
    have e2 : ∀ v, xI (uI M1 1154 0 0 v) 1158 0 0 = nI (pk P) := fun v => by rw [I_ne (by decide), N2 _ _ _ (by decide) (by decide), hk1]
    have e3 : ∀ v, xI (uI M1 1154 0 0 v) 2152 0 d = xI M 2152 0 d := fun v => by rw [I_ne (by decide), N2 _ _ _ (by decide) (by decide)]
    rw [if_pos hin, if_pos hin, hcl, e1, e2, if_pos (inB_nI hk48 (by decide)), cl_nI (show pk P < 2147483648 by omega), e3, hM']
  · exact LN_undo h.1.LN hb K1 K2 K3 K4 (fun k j b1 b2 b3 b4 => by
      rw [hM', I_uI, if_neg (fun y => b4 ⟨y.1, y.2.2⟩), I_uI, if_neg (fun y => b3 ⟨y.1, y.2.2⟩), N2 k 0 j b2 b1]) Q2 Q3 Q4
  · rw [Q1 _ _ _ (by decide) (by decide) (by decide) (by decide), K7 310 _ _ (by decide +kernel)]
    exact h.1.GA i (by omega)
  · rw [K7 301 _ _ (by decide +kernel)] at hj2
    rw [K7 2005 _ _ (by decide +kernel), Q1 _ _ _ (by decide) (by decide) (by decide) (by decide)]
    exact h.1.HP i (by omega) j hj hj2
  · have e1 : xI C' 2001 (pb P) j = xI C 2001 (pb P) j := K1 _ _ _ (fun y => by have := y.2; unfold stk at this; omega) (fun y => absurd y.1 (by decide)) (fun y => absurd y.1 (by decide))
    rw [e1, Q1 _ _ _ (by decide) (by decide) (by decide) (by decide)]
    refine h.1.EV j hj ?_
    rcases hj2 with z | ⟨i, i1, i2⟩
    · rw [K3] at z
      exact Or.inr ⟨d, by omega, z⟩
    · rw [K7 312 _ _ (by decide +kernel)] at i2
      exact Or.inr ⟨i, by omega, i2⟩
  · rw [K5, if_pos ⟨rfl, rfl, rfl⟩, Q2 _ (by omega)]
    exact h.1.PD.2 d (by omega) t ht
  · rw [K5, if_neg (fun y => by have := y.2.1; omega), Q1 _ _ _ (by decide) (by decide) (by decide) (by decide)]
    exact h.1.PD.2 i (by omega) t ht
  · obtain ⟨-, s2, s3, s4, s5⟩ := h.1.ST
    have e1 : xI C' 405 0 0 = xI C 405 0 0 := K1 _ _ _ (fun y => by have := y.2; unfold stk at this; omega) (fun y => absurd y.1 (by decide)) (fun y => absurd y.1 (by decide))
    refine ⟨Q5, by rw [Q1 _ _ _ (by decide) (by decide) (by decide) (by decide), s2], by rw [Q1 _ _ _ (by decide) (by decide) (by decide) (by decide), s3], by rw [e1, Q1 2121 _ _ (by decide) (by decide) (by decide) (by decide), Q1 2107 _ _ (by decide) (by decide) (by decide) (by decide), s4], by omega⟩
  · simp only [Q1 2105 _ _ (by decide) (by decide) (by decide) (by decide), Q1 2103 _ _ (by decide) (by decide) (by decide) (by decide), Q1 2104 _ _ (by decide) (by decide) (by decide) (by decide)]
    exact h.1.PR p hp
  · simp only [Q1 2102 _ _ (by decide) (by decide) (by decide) (by decide)]
    exact h.1.SN i (by omega)
  · rw [Q1 2140 _ _ (by decide) (by decide) (by decide) (by decide)] at e
    obtain ⟨g1, g2⟩ := h.1.OW i (by omega) a ha e
    refine ⟨by rw [Q2 _ (by omega)]; exact g2 d (by omega) hi, fun k hk hik => ?_⟩
    rw [Q1 _ _ _ (by decide) (by decide) (by decide) (by decide)]
    exact g2 k (by omega) hik
  · simp only [Q1 2140 _ _ (by decide) (by decide) (by decide) (by decide), Q1 2141 _ _ (by decide) (by decide) (by decide) (by decide), Q1 2142 _ _ (by decide) (by decide) (by decide) (by decide), Q1 2143 _ _ (by decide) (by decide) (by decide) (by decide), Q1 2145 _ _ (by decide) (by decide) (by decide) (by decide), Q1 2146 _ _ (by decide) (by decide) (by decide) (by decide), Q1 2150 _ _ (by decide) (by decide) (by decide) (by decide)]
    exact h.1.FR i (by omega)
  · simp only [Q1 2148 _ _ (by decide) (by decide) (by decide) (by decide), Q1 2147 _ _ (by decide) (by decide) (by decide) (by decide)]
    exact h.1.HS i (by omega)
  · simp only [Q1 2149 _ _ (by decide) (by decide) (by decide) (by decide)]
    exact h.1.MM i (by omega)
  · rw [Q1 _ _ _ (by decide) (by decide) (by decide) (by decide)]
    exact u1 i (by omega)
  · rw [Q3]
    exact h.1.EC.2 d (by omega)
  · rw [Q1 _ _ _ (by decide) (by decide) (by decide) (by decide)]
    exact h.1.EC.2 i (by omega)
  · rw [Q4]
    exact h.1.RB.2 d (by omega)
  · rw [Q1 _ _ _ (by decide) (by decide) (by decide) (by decide)]
    exact h.1.RB.2 i (by omega)
  · rw [K1 k i j (fun y => ?_) (fun y => ?_) (fun y => ?_)]
    · exact h.1.FA k i j z
    · rw [y.1, stk_cmod y.2] at z
      exact absurd z (by decide)
    · rw [y.1, y.2.1, cmod_st.2.2.2.2.2.1] at z
      exact absurd z (by decide)
    · rw [y.1] at z
      exact absurd z (by simp [cmod])
  · by_cases z1 : k = 2130
    · subst z1
      rw [hQ2130 i j (fun y => by rw [y] at z; unfold mmod at z; simp at z)]
      exact h.1.FB _ i j z
    · rw [Q1 k i j (fun y => by subst y; exact absurd z (by simp [mmod])) (fun y => by subst y; exact absurd z (by simp [mmod])) (fun y => by subst y; exact absurd z (by simp [mmod])) z1]
      exact h.1.FB k i j z
  · rw [K5, if_neg (fun y => by rcases z with z | z; exact z y.1; exact z.1 y.2.1)]
    exact h.1.FL k i j z
  · rw [hM', L_uI, L_uI, a4, L_uI]
    exact h.1.FM k i j
  · obtain ⟨v, v1, v2, v3, v4⟩ := h.1.SN d (by omega)
    exact ⟨v, fun j hj => by dsimp only; rw [Q2 j (by omega)]; exact v1 j hj, v2, v3, v4⟩
