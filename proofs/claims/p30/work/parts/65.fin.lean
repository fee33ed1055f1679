def fInv (D : XD) (c yb : Nat) (y4 : Int32) : Prop := yb < dnb D c ∧ Anc (dpa D c) yb (dfn D c) ∧ ((y4 = -1 ∧ yb = dfn D c) ∨ y4 = nI yb)
theorem dFin_l {D : XD} {C M : XO} (h : RGD D C M) {c : Nat} (hc : c < 2) : ∀ (n k yb : Nat) (y4 : Int32), n = 25 - k → k ≤ 24 → fInv D c yb y4 → ∃ yb' y4', fX2_moveFinal_l c c n k (24 * c + yb) (24 * c + dfn D c) C = uI C 201 c 0 (nI yb') ∧ fInv D c yb' y4' ∧ (dnb D c ≤ k → yb' = yb ∧ y4' = y4) ∧ ∀ n2, k ≤ dnb D c → n2 = dnb D c - k + 1 → fX11_justify_l263 M (nI c) n2 (nI k) y4 = some (nI (dnb D c), y4') := by
  obtain ⟨b1, b2, b3, b4⟩ := h.NB c hc
  obtain ⟨f1, f2, f3⟩ := h.FN c hc
  intro n
  induction n with
  | zero => exact fun k yb y4 hn hk hi => absurd hn (by omega)
  | succ n ih =>
    intro k yb y4 hn hk hi
    have hyb := hi.1
    have hend : dnb D c = k → ∀ n2, k ≤ dnb D c → n2 = dnb D c - k + 1 → fX11_justify_l263 M (nI c) n2 (nI k) y4 = some (nI (dnb D c), y4) := by
      intro e n2 z1 z2
      rw [z2, fX11_justify_l263, if_pos (inB_nI hc (by decide)), cl_nI (by omega), b2, e, if_pos (Int32.le_refl _)]
    rw [fX2_moveFinal_l]
    by_cases q : k = 24
    · subst q
      rw [if_pos (show nI (alen 2002) ≤ nI 24 by decide), h.NO _ (show 24 * c + yb < 48 by omega), show (24 * c + yb) % 24 = yb by omega]
      exact ⟨yb, y4, rfl, hi, fun _ => ⟨rfl, rfl⟩, fun n2 z1 z2 => hend (by omega) n2 z1 z2⟩
    · have hk2 : k < 24 := by omega
      rw [if_neg (show ¬ nI (alen 2002) ≤ nI k from nI_ge (b := 24) hk2 (by decide)), cl_nI (by omega)]
      by_cases hkn : k < dnb D c
      · obtain ⟨g1, -, g3⟩ := inB_24 hc hk2
        obtain ⟨g4, -, g6⟩ := inB_24 hc (show yb < 24 by omega)
        obtain ⟨z0, a, ha, hl, hnx⟩ := mNext (y4 := y4) h hc hkn
        have hj5 : ∃ j5 : Int32, (if y4 < 0 then (some (1 : Int32)) else (if inB (((24 : Int32) * nI c) + nI k) 48 then (if inB (((24 : Int32) * nI c) + y4) 48 then (if (xI M 2121 0 (((24 : Int32) * nI c) + nI k).toNatClampNeg) ≤ (xI M 2121 0 (((24 : Int32) * nI c) + y4).toNatClampNeg) then (some (0 : Int32)) else (some (1 : Int32))) else none) else none)) = some j5 ∧ (j5 = 0 ↔ y4 ≠ -1 ∧ xI C 2 (24 * c + k) 0 ≤ xI C 2 (24 * c + yb) 0) := by
          rcases hi.2.2 with ⟨z, -⟩ | z
          · rw [z, if_pos (show (-1 : Int32) < 0 by decide)]
            exact ⟨1, rfl, ⟨fun y => absurd y one_n0, fun y => absurd rfl y.1⟩⟩
          · have zn : y4 ≠ -1 := fun y => by
              rw [z] at y
              have e : (-1 : Int32).toInt = -1 := rfl
              have := congrArg Int32.toInt y
              rw [ti_nI (by omega)] at this
              omega
            rw [z, if_neg (nI_nlt0 (by omega)), if_pos g1, if_pos g4, g3, g6, ← (h.B2 _ (show 24 * c + k < 48 by omega)).1, ← (h.B2 _ (show 24 * c + yb < 48 by omega)).1, ← z]
            by_cases y : xI C 2 (24 * c + k) 0 ≤ xI C 2 (24 * c + yb) 0
            · exact ⟨0, if_pos y, ⟨fun _ => ⟨zn, y⟩, fun _ => rfl⟩⟩
            · exact ⟨1, if_neg y, ⟨fun x => absurd x one_n0, fun x => absurd x.2 y⟩⟩
        obtain ⟨j5, hj5, hj6⟩ := hj5
        -- the class takes k exactly where the reference does
        have hcls : ∃ take : Prop, ((take → fX0_comesFrom C (24 * c + k) (24 * c + dfn D c) = 1 ∧ ¬ xI C 2 (24 * c + k) 0 ≤ xI C 2 (24 * c + yb) 0 ∧ fX2_justifiesNext C c (24 * c + k) = 1) ∧ (¬ take → fX0_comesFrom C (24 * c + k) (24 * c + dfn D c) = 0 ∨ xI C 2 (24 * c + k) 0 ≤ xI C 2 (24 * c + yb) 0 ∨ fX2_justifiesNext C c (24 * c + k) = 0)) ∧ (take → Anc (dpa D c) k (dfn D c)) ∧ ∀ n3, (take → fX11_justify_l263 M (nI c) (n3 + 1) (nI k) y4 = fX11_justify_l263 M (nI c) n3 (nI (k + 1)) (nI k)) ∧ (¬ take → fX11_justify_l263 M (nI c) (n3 + 1) (nI k) y4 = fX11_justify_l263 M (nI c) n3 (nI (k + 1)) y4) := by
          have hmo : ∀ n3, fX11_justify_l263 M (nI c) (n3 + 1) (nI k) y4 = ((if nI a = 0 then (some y4) else (if xI M 2133 0 (24 * c + k) = (1 : Int32) then (if nI k = nI (dfn D c) then (some y4) else (fX11_from M (nI c) (nI k) (nI (dfn D c))).bind (fun r_22 => (if r_22 = 0 then (some y4) else (if j5 = 0 then (some y4) else (some (nI k)))))) else (some y4)) : Option (Int32))).bind (fun j_12 => fX11_justify_l263 M (nI c) n3 (nI (k + 1)) j_12) := by
            intro n3
            rw [fX11_justify_l263, if_pos (inB_nI hc (by decide)), cl_nI (show c < 2147483648 by omega), b2, if_neg (nI_ge hkn (by omega))]
            rw [cl_nI (show c < 2147483648 by omega), b2] at hl
            rw [ob_s hl, ob_s hj5, if_pos (inB_nI hc (by decide)), f2, if_pos g1, g3, nI_1]
            simp only [if_pos (inB_nI hc (show 2 < 2147483648 by decide))]
          refine ⟨hasNext C c k ∧ k ≠ dfn D c ∧ Anc (dpa D c) k (dfn D c) ∧ ¬ j5 = 0, ⟨fun ⟨t1, t2, t3, t4⟩ => ⟨?_, fun y => ?_, ?_⟩, fun ht => ?_⟩, fun ht => ht.2.2.1, fun n3 => ⟨fun ⟨t1, t2, t3, t4⟩ => ?_, fun ht => ?_⟩⟩
          · rcases cFrom h hc hk2 (show dfn D c < 24 by omega) with ⟨-, -, y⟩ | ⟨y, -⟩
            · exact y
            · exact absurd ⟨hkn, t3⟩ y
          · rcases hi.2.2 with ⟨z1, z2⟩ | z1
            · rw [z2, ti_le] at y
              rcases anc_hi h hc k k (Nat.le_refl _) hkn t3 with x | x
              · exact t2 x
              · omega
            · refine t4 (hj6.mpr ⟨fun z => ?_, y⟩)
              rw [z1] at z
              have e : (-1 : Int32).toInt = -1 := rfl
              have := congrArg Int32.toInt z
              rw [ti_nI (by omega)] at this
              omega
          · rcases cNext h hc hk2 with ⟨y, -⟩ | ⟨-, y⟩
            · exact y
            · exact absurd t1 y
          · rcases cFrom h hc hk2 (show dfn D c < 24 by omega) with ⟨-, t3, y⟩ | ⟨-, y⟩
            · rcases cNext h hc hk2 with ⟨-, t1⟩ | ⟨y2, -⟩
              · refine Or.inr (Or.inl ?_)
                by_cases t2 : k = dfn D c
                · rw [ti_le]
                  rcases anc_hi h hc yb yb (Nat.le_refl _) hyb hi.2.1 with x | x
                  · rw [t2, x]
                    omega
                  · rw [t2]
                    omega
                · have t4 : j5 = 0 := Classical.byContradiction (fun x => ht ⟨t1, t2, t3, x⟩)
                  exact (hj6.mp t4).2
              · exact Or.inr (Or.inr y2)
            · exact Or.inl y
          · rw [hmo]
            have ha1 : a = 1 := hnx.mpr t1
            have h33 : xI M 2133 0 (24 * c + k) = 1 := by
              obtain ⟨t, w1, w2, -⟩ := t1
              rw [← (h.B2 _ (show 24 * c + k < 48 by omega)).2.2.2.2.2.2.2.2]
              exact ((h.JL c hc).2 k hk2 t w1 w2).2.1
            rcases eFrom h hc hkn (show dfn D c < 24 by omega) with ⟨-, x⟩ | ⟨x, -⟩
            · rw [ha1, if_neg (show ¬ nI 1 = 0 from one_n0), if_pos h33, if_neg (fun z => t2 ((nI_eq (by omega) (by omega)).mp z)), ob_s x, if_neg one_n0, if_neg t4, Option.bind_some]
            · exact absurd t3 x
          · rw [hmo]
            by_cases ha0 : a = 0
            · rw [if_pos (show nI a = 0 by rw [ha0]; rfl), Option.bind_some]
            · rw [if_neg (nI_ne0 (by omega) (by omega))]
              by_cases h33 : xI M 2133 0 (24 * c + k) = 1
              · rw [if_pos h33]
                by_cases t2 : k = dfn D c
                · rw [if_pos (show nI k = nI (dfn D c) by rw [t2]), Option.bind_some]
                · rw [if_neg (fun z => t2 ((nI_eq (by omega) (by omega)).mp z))]
                  rcases eFrom h hc hkn (show dfn D c < 24 by omega) with ⟨t3, x⟩ | ⟨-, x⟩
                  · have t4 : j5 = 0 := Classical.byContradiction (fun y => ht ⟨hnx.mp (by omega), t2, t3, y⟩)
                    rw [ob_s x, if_neg one_n0, if_pos t4, Option.bind_some]
                  · rw [ob_s x, if_pos rfl, Option.bind_some]
              · rw [if_neg h33, Option.bind_some]
        obtain ⟨take, ⟨hc1, hc2⟩, hc3, hc4⟩ := hcls
        by_cases ht : take
        · obtain ⟨w1, w2, w3⟩ := hc1 ht
          rw [w1, if_neg one_n0, if_neg w2, w3, if_neg one_n0]
          obtain ⟨yb', y4', p1, p2, p3, p4⟩ := ih (k + 1) k (nI k) (by omega) (by omega) ⟨hkn, hc3 ht, Or.inr rfl⟩
          refine ⟨yb', y4', p1, p2, fun y => absurd y (by omega), fun n2 z1 z2 => ?_⟩
          obtain ⟨n3, rfl⟩ : ∃ n3, n2 = n3 + 1 := ⟨n2 - 1, by omega⟩
          rw [(hc4 n3).1 ht]
          exact p4 n3 (by omega) (by omega)
        · obtain ⟨yb', y4', p1, p2, p3, p4⟩ := ih (k + 1) yb y4 (by omega) (by omega) hi
          refine ⟨yb', y4', ?_, p2, fun y => absurd y (by omega), fun n2 z1 z2 => ?_⟩
          · by_cases w1 : fX0_comesFrom C (24 * c + k) (24 * c + dfn D c) = 0
            · rw [if_pos w1, p1]
            · rw [if_neg w1]
              by_cases w2 : xI C 2 (24 * c + k) 0 ≤ xI C 2 (24 * c + yb) 0
              · rw [if_pos w2, p1]
              · rw [if_neg w2]
                have w3 : fX2_justifiesNext C c (24 * c + k) = 0 := by
                  rcases hc2 ht with y | y | y
                  · exact absurd y w1
                  · exact absurd y w2
                  · exact y
                rw [if_pos w3, p1]
          · obtain ⟨n3, rfl⟩ : ∃ n3, n2 = n3 + 1 := ⟨n2 - 1, by omega⟩
            rw [(hc4 n3).2 ht]
            exact p4 n3 (by omega) (by omega)
      · have w1 : fX0_comesFrom C (24 * c + k) (24 * c + dfn D c) = 0 := by
          rcases cFrom h hc hk2 (show dfn D c < 24 by omega) with ⟨a1, -⟩ | ⟨-, a3⟩
          · exact absurd a1 hkn
          · exact a3
        rw [w1, if_pos rfl]
        obtain ⟨yb', y4', p1, p2, p3, p4⟩ := ih (k + 1) yb y4 (by omega) (by omega) hi
        obtain ⟨p5, p6⟩ := p3 (by omega)
        refine ⟨yb', y4', p1, p2, fun _ => ⟨p5, p6⟩, fun n2 z1 z2 => ?_⟩
        rw [p6]
        exact hend (by omega) n2 z1 z2
