theorem LN0 {b blk : Nat} {C M : XO} (s11 : ∀ j, j < 16 → xI C 2011 b j = xI M 2101 0 j) (s12 : ∀ j, j < 16 → xI C 2012 b j = xI M 2101 0 (16 + j)) (s13 : ∀ j, j < 16 → xI C 2013 b j = xI M 2101 0 (32 + j)) (s14 : ∀ j, j < 64 → xI C 2014 b j = xI M 2101 0 (48 + j)) (s4 : xI C 604 b 0 = xI M 2101 0 112) (s10 : xI C 10 b 0 = xI M 2130 0 blk) (s406 : xI C 406 0 0 = xI M 1154 0 0) (s8 : ∀ j, j < 160 → xI C 2008 0 j = xI M 2103 0 j) (s9 : ∀ j, j < 160 → xI C 2009 0 j = xI M 2104 0 j) (s20 : ∀ j, j < 8 → xI C 2010 0 j = xI M 2105 0 j) : LN b 0 blk C M := by
  intro k i j c h3 h2
  unfold ph at h2
  by_cases q : k = 2011
  · subst q
    rw [if_pos rfl] at h2
    split at h2
    · rename_i z
      obtain ⟨rfl, hj⟩ := z
      cases h2
      exact s11 j hj
    · split at h2
      · rename_i z
        exact absurd z (by omega)
      · cases h2
  rw [if_neg q] at h2
  clear q
  by_cases q : k = 2012
  · subst q
    rw [if_pos rfl] at h2
    split at h2
    · rename_i z
      obtain ⟨rfl, hj⟩ := z
      cases h2
      exact s12 j hj
    · split at h2
      · rename_i z
        exact absurd z (by omega)
      · cases h2
  rw [if_neg q] at h2
  clear q
  by_cases q : k = 2013
  · subst q
    rw [if_pos rfl] at h2
    split at h2
    · rename_i z
      obtain ⟨rfl, hj⟩ := z
      cases h2
      exact s13 j hj
    · split at h2
      · rename_i z
        exact absurd z (by omega)
      · cases h2
  rw [if_neg q] at h2
  clear q
  by_cases q : k = 2014
  · subst q
    rw [if_pos rfl] at h2
    split at h2
    · rename_i z
      obtain ⟨rfl, hj⟩ := z
      cases h2
      exact s14 j hj
    · split at h2
      · rename_i z
        exact absurd z (by omega)
      · cases h2
  rw [if_neg q] at h2
  clear q
  by_cases q : k = 604
  · subst q
    rw [if_pos rfl] at h2
    split at h2
    · rename_i z
      obtain ⟨rfl, rfl⟩ := z
      cases h2
      exact s4
    · split at h2
      · rename_i z
        exact absurd z (by omega)
      · cases h2
  rw [if_neg q] at h2
  clear q
  by_cases q : k = 10
  · subst q
    rw [if_pos rfl] at h2
    split at h2
    · rename_i z
      obtain ⟨rfl, rfl⟩ := z
      cases h2
      exact s10
    · cases h2
  rw [if_neg q] at h2
  clear q
  by_cases q : k = 406
  · subst q
    rw [if_pos rfl] at h2
    split at h2
    · rename_i z
      obtain ⟨rfl, rfl⟩ := z
      cases h2
      exact s406
    · cases h2
  rw [if_neg q] at h2
  clear q
  by_cases q : k = 301
  · subst q
    rw [if_pos rfl] at h2
    split at h2
    · rename_i z
      exact absurd z.1 (by omega)
    · cases h2
  rw [if_neg q] at h2
  clear q
  by_cases q : k = 303
  · subst q
    rw [if_pos rfl] at h2
    split at h2
    · rename_i z
      exact absurd z.1 (by omega)
    · cases h2
  rw [if_neg q] at h2
  clear q
  by_cases q : k = 304
  · subst q
    rw [if_pos rfl] at h2
    split at h2
    · rename_i z
      exact absurd z.1 (by omega)
    · cases h2
  rw [if_neg q] at h2
  clear q
  by_cases q : k = 305
  · subst q
    rw [if_pos rfl] at h2
    split at h2
    · rename_i z
      exact absurd z.1 (by omega)
    · cases h2
  rw [if_neg q] at h2
  clear q
  by_cases q : k = 306
  · subst q
    rw [if_pos rfl] at h2
    split at h2
    · rename_i z
      exact absurd z.1 (by omega)
    · cases h2
  rw [if_neg q] at h2
  clear q
  by_cases q : k = 307
  · subst q
    rw [if_pos rfl] at h2
    split at h2
    · rename_i z
      exact absurd z.1 (by omega)
    · cases h2
  rw [if_neg q] at h2
  clear q
  by_cases q : k = 308
  · subst q
    rw [if_pos rfl] at h2
    split at h2
    · rename_i z
      exact absurd z.1 (by omega)
    · cases h2
  rw [if_neg q] at h2
  clear q
  by_cases q : k = 309
  · subst q
    rw [if_pos rfl] at h2
    split at h2
    · rename_i z
      exact absurd z.1 (by omega)
    · cases h2
  rw [if_neg q] at h2
  clear q
  by_cases q : k = 310
  · subst q
    rw [if_pos rfl] at h2
    split at h2
    · rename_i z
      exact absurd z.1 (by omega)
    · cases h2
  rw [if_neg q] at h2
  clear q
  by_cases q : k = 312
  · subst q
    rw [if_pos rfl] at h2
    split at h2
    · rename_i z
      exact absurd z.1 (by omega)
    · cases h2
  rw [if_neg q] at h2
  clear q
  by_cases q : k = 313
  · subst q
    rw [if_pos rfl] at h2
    split at h2
    · rename_i z
      exact absurd z.1 (by omega)
    · cases h2
  rw [if_neg q] at h2
  clear q
  by_cases q : k = 2006
  · subst q
    rw [if_pos rfl] at h2
    split at h2
    · rename_i z
      exact absurd z.1 (by omega)
    · cases h2
  rw [if_neg q] at h2
  clear q
  by_cases q : k = 2008
  · subst q
    rw [if_pos rfl] at h2
    split at h2
    · rename_i z
      obtain ⟨rfl, hj⟩ := z
      cases h2
      exact s8 j hj
    · cases h2
  rw [if_neg q] at h2
  clear q
  by_cases q : k = 2009
  · subst q
    rw [if_pos rfl] at h2
    split at h2
    · rename_i z
      obtain ⟨rfl, hj⟩ := z
      cases h2
      exact s9 j hj
    · cases h2
  rw [if_neg q] at h2
  clear q
  by_cases q : k = 2010
  · subst q
    rw [if_pos rfl] at h2
    split at h2
    · rename_i z
      obtain ⟨rfl, hj⟩ := z
      cases h2
      exact s20 j hj
    · cases h2
  rw [if_neg q] at h2
  clear q
  cases h2
def bsN (x u : Int32) : Int32 := if (1 : Int32) < x + (x * (u - (300 : Int32))) / (2400 : Int32) then x + (x * (u - (300 : Int32))) / (2400 : Int32) else (1 : Int32)
theorem bsN_1 (x u : Int32) : 1 ≤ (bsN x u).toInt ∧ (if (1 : Int32) ≤ x + (x * (u - (300 : Int32))) / (2400 : Int32) then x + (x * (u - (300 : Int32))) / (2400 : Int32) else (1 : Int32)) = bsN x u := by
  have e1 : (1 : Int32).toInt = 1 := rfl
  unfold bsN
  by_cases z : (1 : Int32) < x + (x * (u - (300 : Int32))) / (2400 : Int32)
  · rw [if_pos z, if_pos (Int32.le_of_lt z)]
    rw [ti_lt, e1] at z
    exact ⟨by omega, rfl⟩
  · rw [if_neg z]
    refine ⟨by rw [e1]; omega, ?_⟩
    by_cases z2 : (1 : Int32) ≤ x + (x * (u - (300 : Int32))) / (2400 : Int32)
    · rw [if_pos z2]
      rw [ti_lt, e1] at z
      rw [ti_le, e1] at z2
      rw [ti_eq, e1]
      omega
    · rw [if_neg z2]
/-- class: what a child takes over -/
def folC (C : XO) (b gp : Nat) (pr w : Int32) : XO := uL (uI (uI (uI (uI (uI C 2 b 0 (xI C 2 gp 0 + 1)) 3 b 0 pr) 4 b 0 (xI C 4 gp 0 + w)) 5 b 0 (bsN (xI C 5 gp 0) (xI C 6 gp 0))) 16 b 0 (xI C 16 gp 0 ||| ((1 : Int32) <<< (xI C 0 b 0 &&& 31)))) 17 b 0 (xL C 17 gp 0)
theorem cFollow {C : XO} {b gp : Nat} {pr w : Int32} : fX0_follow C b gp pr w = fX6_copyFrom (folC C b gp pr w) b gp := by
  unfold fX0_follow folC bsN
  simp only [I_uI, L_uI, Nat.reduceEqDiff, false_and, if_false]
/-- class: a block begins, and the machine is opened on it -/
theorem cBegin {C : XO} {c b gp : Nat} {pr w : Int32} (hgp : gp ≠ b) : ∃ C2, (fX4_open (fX0_follow C b gp pr w) b (fX1_isUpgraded (fX0_follow C b gp pr w) c b)) = some C2 ∧ (∀ k i j, ¬ (i = b ∧ (k = 2 ∨ k = 3 ∨ k = 4 ∨ k = 5 ∨ k = 16)) → ¬ (i = b ∧ stk k j) → k ≠ 405 → xI C2 k i j = xI C k i j) ∧ (∀ k j, stk k j → xI C2 k b j = xI C k gp j) ∧ xI C2 2 b 0 = xI C 2 gp 0 + 1 ∧ xI C2 3 b 0 = pr ∧ xI C2 4 b 0 = xI C 4 gp 0 + w ∧ xI C2 5 b 0 = bsN (xI C 5 gp 0) (xI C 6 gp 0) ∧ xI C2 16 b 0 = (xI C 16 gp 0 ||| ((1 : Int32) <<< (xI C 0 b 0 &&& 31))) ∧ (∀ k i j, xL C2 k i j = if k = 605 ∧ i = b ∧ j = 0 then xL C 605 gp 0 else if k = 17 ∧ i = b ∧ j = 0 then xL C 17 gp 0 else xL C k i j) ∧ xR C2 403 0 = b ∧ xR C2 404 0 = b ∧ xI C2 405 0 0 = (if xI C 2 gp 0 + 1 < xI C 104 c 0 then 100 else 150) := by
  rw [cFollow]
  obtain ⟨F, hF⟩ : ∃ F, F = folC C b gp pr w := ⟨_, rfl⟩
  obtain ⟨V, hV⟩ : ∃ V, V = fX6_copyFrom F b gp := ⟨_, rfl⟩
  rw [← hF, ← hV]
  have F1 : ∀ k i j, ¬ (i = b ∧ (k = 2 ∨ k = 3 ∨ k = 4 ∨ k = 5 ∨ k = 16)) → xI F k i j = xI C k i j := fun k i j h => by
    rw [hF]
    unfold folC
    rw [I_uL, I_uI, if_neg (fun y => h ⟨y.2.1, by omega⟩), I_uI, if_neg (fun y => h ⟨y.2.1, by omega⟩), I_uI, if_neg (fun y => h ⟨y.2.1, by omega⟩), I_uI, if_neg (fun y => h ⟨y.2.1, by omega⟩), I_uI, if_neg (fun y => h ⟨y.2.1, by omega⟩)]
  have F2 : xI F 2 b 0 = xI C 2 gp 0 + 1 := by rw [hF]; unfold folC; rw [I_uL, I_ne (by decide), I_ne (by decide), I_ne (by decide), I_ne (by decide), I_uI, if_pos ⟨rfl, rfl, rfl⟩]
  have F3 : xI F 3 b 0 = pr := by rw [hF]; unfold folC; rw [I_uL, I_ne (by decide), I_ne (by decide), I_ne (by decide), I_uI, if_pos ⟨rfl, rfl, rfl⟩]
  have F4 : xI F 4 b 0 = xI C 4 gp 0 + w := by rw [hF]; unfold folC; rw [I_uL, I_ne (by decide), I_ne (by decide), I_uI, if_pos ⟨rfl, rfl, rfl⟩]
  have F5 : xI F 5 b 0 = bsN (xI C 5 gp 0) (xI C 6 gp 0) := by rw [hF]; unfold folC; rw [I_uL, I_ne (by decide), I_uI, if_pos ⟨rfl, rfl, rfl⟩]
  have F16 : xI F 16 b 0 = (xI C 16 gp 0 ||| ((1 : Int32) <<< (xI C 0 b 0 &&& 31))) := by rw [hF]; unfold folC; rw [I_uL, I_uI, if_pos ⟨rfl, rfl, rfl⟩]
  have FL : ∀ k i j, xL F k i j = if k = 17 ∧ i = b ∧ j = 0 then xL C 17 gp 0 else xL C k i j := fun k i j => by
    rw [hF]
    unfold folC
    rw [L_uL]
    rfl
  have V1 : ∀ k i j, ¬ (i = b ∧ stk k j) → xI V k i j = xI F k i j := fun k i j h => by rw [hV]; exact (cCopy_I k i j).2 h
  have V2 : ∀ k j, stk k j → xI V k b j = xI F k gp j := fun k j h => by rw [hV]; exact (cCopy_I k b j).1 rfl h
  have V3 : ∀ k i j, xL V k i j = if k = 605 ∧ i = b ∧ j = 0 then xL F 605 gp 0 else xL F k i j := fun k i j => by rw [hV, cCopy_L]
  have ns : ∀ k j, ¬ (k = 2011 ∨ k = 2012 ∨ k = 2013 ∨ k = 2014 ∨ k = 604) → ∀ i, ¬ (i = b ∧ stk k j) := fun k j h i y => h (by have := y.2; unfold stk at this; omega)
  have n2 : xI V 2 b 0 = xI C 2 gp 0 + 1 := by rw [V1 _ _ _ (ns _ _ (by decide) _), F2]
  have n104 : xI V 104 c 0 = xI C 104 c 0 := by rw [V1 _ _ _ (ns _ _ (by decide) _), F1 _ _ _ (fun y => by omega)]
  have hup : fX1_isUpgraded V c b = if xI C 2 gp 0 + 1 < xI C 104 c 0 then 0 else 1 := by
    unfold fX1_isUpgraded
    rw [n2, n104]
  obtain ⟨u, hu⟩ : ∃ u : Int32, u = if xI C 2 gp 0 + 1 < xI C 104 c 0 then 100 else 150 := ⟨_, rfl⟩
  have hop : fX4_open V b (fX1_isUpgraded V c b) = some (uI (uR (uR V 403 0 b) 404 0 b) 405 0 0 u) := by
    rw [hup]
    unfold fX4_open wl
    dsimp only
    by_cases z : xI C 2 gp 0 + 1 < xI C 104 c 0
    · rw [if_pos z, if_pos rfl, hu, if_pos z]
    · rw [if_neg z, if_neg one_n0, hu, if_neg z]
  refine ⟨_, hop, fun k i j h1 h2 h3 => ?_, fun k j h => ?_, ?_, ?_, ?_, ?_, ?_, fun k i j => ?_, ?_, ?_, ?_⟩
  · rw [I_ne h3, I_uR, I_uR, V1 k i j h2, F1 k i j h1]
  · have h' := h
    unfold stk at h'
    rw [I_ne (by omega), I_uR, I_uR, V2 k j h, F1 k gp j (fun y => hgp y.1)]
  · rw [I_ne (by decide), I_uR, I_uR, n2]
  · rw [I_ne (by decide), I_uR, I_uR, V1 _ _ _ (ns _ _ (by decide) _), F3]
  · rw [I_ne (by decide), I_uR, I_uR, V1 _ _ _ (ns _ _ (by decide) _), F4]
  · rw [I_ne (by decide), I_uR, I_uR, V1 _ _ _ (ns _ _ (by decide) _), F5]
  · rw [I_ne (by decide), I_uR, I_uR, V1 _ _ _ (ns _ _ (by decide) _), F16]
  · have e605 : xL F 605 gp 0 = xL C 605 gp 0 := by rw [FL, if_neg (fun y => absurd y.1 (by decide))]
    rw [L_uI, L_uR, L_uR, V3, e605, FL]
  · rw [R_uI, R_uR, R_uR, if_neg (fun y => absurd y.1 (by decide)), if_pos ⟨rfl, rfl⟩]
  · rw [R_uI, R_uR, if_pos ⟨rfl, rfl⟩]
  · rw [I_uI, if_pos ⟨rfl, rfl, rfl⟩, hu]
/-- reference: a block begins -/
def hdM (M : XO) (c b gp p : Nat) (pr w : Int32) : XO := uI (uL (uI (uI (uI (uI (uI M 1157 0 0 (nI c)) 1158 0 0 (nI b)) 2120 0 b (nI p)) 2121 0 b (xI M 2121 0 gp + 1)) 2122 0 b pr) 2123 0 b (xL M 2123 0 gp + w.toInt64)) 2124 0 b (bsN (xI M 2124 0 gp) (xI M 2125 0 gp))
