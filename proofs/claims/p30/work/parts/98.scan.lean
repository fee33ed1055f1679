/-- reference: whether a transaction can be taken -/
def jM (Ω : XO) (y3 y1 y2 y5 : Int32) : Option Int32 := ((if (xI Ω 2119 0 (((40 : Int32) * y1) + y5).toNatClampNeg) = 0 then (if inB (((40 : Int32) * y1) + y5) 80 then (if inB (((24 : Int32) * y1) + y2) 48 then (if ((600 : Int32) - (xI Ω 2125 0 (((24 : Int32) * y1) + y2).toNatClampNeg)) < (xI Ω 2116 0 (((40 : Int32) * y1) + y5).toNatClampNeg) then (some (0 : Int32)) else (fX11_fit Ω (((40 : Int32) * y1) + y5) y3).bind (fun r_13 => (if r_13 = 0 then (some (0 : Int32)) else (fX11_isIn Ω y1 y2 y5).bind (fun r_15 => (if r_15 = 0 then (some (1 : Int32)) else (some (0 : Int32))))))) else none) else none) else (some (0 : Int32))) : Option (Int32))
theorem pick_eq {Ω : XO} {y3 y1 y2 : Int32} {n : Nat} {y5 y4 : Int32} : fX11_pick_l18 Ω y3 y1 y2 (n + 1) y5 y4 = (if inB y1 2 then (if (xI Ω 2108 0 y1.toNatClampNeg) ≤ y5 then (some (y5, y4)) else (if inB (((40 : Int32) * y1) + y5) 80 then (jM Ω y3 y1 y2 y5).bind (fun j_6 => (((if j_6 = 0 then (some y4) else (if y4 < 0 then (some y5) else (fX11_price Ω (((40 : Int32) * y1) + y5) y3).bind (fun r_20 => (fX11_price Ω (((40 : Int32) * y1) + y4) y3).bind (fun r_21 => (if r_20 ≤ r_21 then (some y4) else (some y5)))))) : Option (Int32))).bind (fun j_17 => fX11_pick_l18 Ω y3 y1 y2 n (y5 + 1) j_17)) else none)) else none) := by
  rw [fX11_pick_l18]
  rfl
def canC (C : XO) (c b t : Nat) : Prop := ¬ (fX7_waitsBehind C (40 * c + t) b = 0) ∧ ¬ (fX7_fits C (40 * c + t) b = 0)
def enc : Option Nat → Int32
  | none => -1
  | some s => nI s
def adr (c : Nat) : Option Nat → Option Nat
  | none => none
  | some s => some (40 * c + s)
theorem cSkip {C : XO} {c b n : Nat} (hno : ∀ t, n ≤ t → t < 40 → ¬ canC C c b t) : ∀ k t best, t + k = 40 → n ≤ t → fX1_bestFor_l14 C (nI 40) c b (k + 1) (nI t) best = some (nI 40, best) := by
  intro k
  induction k with
  | zero =>
    intro t best h1 h2
    have e : t = 40 := by omega
    subst e
    rw [fX1_bestFor_l14, if_pos (nI_le (Nat.le_refl _) (by decide))]
  | succ k ih =>
    intro t best h1 h2
    have hn := hno t h2 (by omega)
    rw [fX1_bestFor_l14, if_neg (nI_ge (by omega) (by decide)), if_pos (inB_nI (by omega) (by decide)), cl_nI (by omega), nI_1, ih (t + 1) best (by omega) (by omega)]
    by_cases z1 : fX7_waitsBehind C (40 * c + t) b = 0
    · rw [if_pos z1]
    · rw [if_neg z1, if_pos]
      by_cases z2 : fX7_fits C (40 * c + t) b = 0
      · exact z2
      · exact absurd ⟨z1, z2⟩ hn
/-- both look for the best -/
theorem scan {C M : XO} {c b nb n : Nat} {B : Int32} (hc : c < 2) (hn : n ≤ 40) (hB : xI C 5 b 0 = B) (hnt : xI M 2108 0 c = nI n) (hno : ∀ t, n ≤ t → t < 40 → ¬ canC C c b t) (hcan : ∀ t, t < n → (canC C c b t ∧ jM M B (nI c) (nI nb) (nI t) = some 1) ∨ (¬ canC C c b t ∧ jM M B (nI c) (nI nb) (nI t) = some 0)) (hpr : ∀ t, t < n → fX11_price M (nI (40 * c + t)) B = some (fX7_priceAt C (40 * c + t) B)) : ∀ k t best, t + k = n → (∀ s, best = some s → s < n ∧ canC C c b s) → ∃ r, fX1_bestFor_l14 C (nI 40) c b (40 - t + 1) (nI t) (adr c best) = some (nI 40, adr c r) ∧ fX11_pick_l18 M B (nI c) (nI nb) (k + 1) (nI t) (enc best) = some (nI n, enc r) ∧ (∀ s, r = some s → s < n ∧ canC C c b s) := by
  have hin : inB (nI c) 2 := inB_nI hc (by decide)
  have hcl : (nI c).toNatClampNeg = c := cl_nI (by omega)
  intro k
  induction k with
  | zero =>
    intro t best h1 h2
    have e : t = n := by omega
    subst e
    refine ⟨best, cSkip hno (40 - t) t _ (by omega) (Nat.le_refl _), ?_, h2⟩
    rw [pick_eq, if_pos hin, hcl, hnt, if_pos (nI_le (Nat.le_refl _) (by omega))]
  | succ k ih =>
    intro t best h1 h2
    have ht : t < n := by omega
    have e40 : 40 - t = (40 - (t + 1)) + 1 := by omega
    have eI : (40 : Int32) * nI c + nI t = nI (40 * c + t) := by rw [show (40 : Int32) = nI 40 from rfl, nI_mul, nI_add]
    have hM : ∀ y4, fX11_pick_l18 M B (nI c) (nI nb) (k + 1 + 1) (nI t) y4 = (jM M B (nI c) (nI nb) (nI t)).bind (fun j_6 => (((if j_6 = 0 then (some y4) else (if y4 < 0 then (some (nI t)) else (fX11_price M (nI (40 * c + t)) B).bind (fun r_20 => (fX11_price M (((40 : Int32) * nI c) + y4) B).bind (fun r_21 => (if r_20 ≤ r_21 then (some y4) else (some (nI t))))))) : Option (Int32))).bind (fun j_17 => fX11_pick_l18 M B (nI c) (nI nb) (k + 1) (nI (t + 1)) j_17)) := by
      intro y4
      rw [pick_eq, if_pos hin, hcl, hnt, if_neg (nI_ge ht (by omega)), eI, if_pos (inB_nI (by omega) (by decide)), nI_1]
    have hC : ∀ best', fX1_bestFor_l14 C (nI 40) c b (40 - t + 1) (nI t) best' = (if (fX7_waitsBehind C (40 * c + t) b) = 0 then fX1_bestFor_l14 C (nI 40) c b (40 - (t + 1) + 1) (nI (t + 1)) best' else (if (fX7_fits C (40 * c + t) b) = 0 then fX1_bestFor_l14 C (nI 40) c b (40 - (t + 1) + 1) (nI (t + 1)) best' else (oE best' (fX1_bestFor_l14 C (nI 40) c b (40 - (t + 1) + 1) (nI (t + 1)) (some (40 * c + t))) (fun x_6 => (if (fX7_priceAt C (40 * c + t) B) ≤ (fX7_priceAt C x_6 B) then fX1_bestFor_l14 C (nI 40) c b (40 - (t + 1) + 1) (nI (t + 1)) (some x_6) else fX1_bestFor_l14 C (nI 40) c b (40 - (t + 1) + 1) (nI (t + 1)) (some (40 * c + t))))))) := by
      intro best'
      rw [e40, fX1_bestFor_l14, if_neg (nI_ge (by omega) (by decide)), if_pos (inB_nI (by omega) (by decide)), cl_nI (by omega), nI_1, hB]
    rcases hcan t ht with ⟨hy, hj⟩ | ⟨hy, hj⟩
    · have take := ih (t + 1) (some t) (by omega) (fun s hs => by cases hs; exact ⟨ht, hy⟩)
      cases best with
      | none =>
        obtain ⟨r, r1, r2, r3⟩ := take
        refine ⟨r, ?_, ?_, r3⟩
        · rw [hC, if_neg hy.1, if_neg hy.2]
          exact r1
        · rw [hM, hj, Option.bind_some, if_neg one_n0]
          rw [show (enc none : Int32) = -1 from rfl, if_pos (by decide), Option.bind_some]
          exact r2
      | some s =>
        obtain ⟨s1, s2⟩ := h2 s rfl
        have eS : (40 : Int32) * nI c + nI s = nI (40 * c + s) := by rw [show (40 : Int32) = nI 40 from rfl, nI_mul, nI_add]
        have keep := ih (t + 1) (some s) (by omega) (fun s' hs => by cases hs; exact ⟨s1, s2⟩)
        by_cases z : fX7_priceAt C (40 * c + t) B ≤ fX7_priceAt C (40 * c + s) B
        · obtain ⟨r, r1, r2, r3⟩ := keep
          refine ⟨r, ?_, ?_, r3⟩
          · rw [hC, if_neg hy.1, if_neg hy.2]
            show (if _ ≤ fX7_priceAt C (40 * c + s) B then _ else _) = _
            rw [if_pos z]
            exact r1
          · rw [hM, hj, Option.bind_some, if_neg one_n0]
            rw [show enc (some s) = nI s from rfl, if_neg (nI_nlt0 (by omega)), hpr t ht, Option.bind_some, eS, hpr s s1, Option.bind_some, if_pos z, Option.bind_some]
            exact r2
        · obtain ⟨r, r1, r2, r3⟩ := take
          refine ⟨r, ?_, ?_, r3⟩
          · rw [hC, if_neg hy.1, if_neg hy.2]
            show (if _ ≤ fX7_priceAt C (40 * c + s) B then _ else _) = _
            rw [if_neg z]
            exact r1
          · rw [hM, hj, Option.bind_some, if_neg one_n0]
            rw [show enc (some s) = nI s from rfl, if_neg (nI_nlt0 (by omega)), hpr t ht, Option.bind_some, eS, hpr s s1, Option.bind_some, if_neg z, Option.bind_some]
            exact r2
    · obtain ⟨r, r1, r2, r3⟩ := ih (t + 1) best (by omega) h2
      refine ⟨r, ?_, ?_, r3⟩
      · rw [hC]
        by_cases z1 : fX7_waitsBehind C (40 * c + t) b = 0
        · rw [if_pos z1]
          exact r1
        · rw [if_neg z1, if_pos]
          · exact r1
          · by_cases z2 : fX7_fits C (40 * c + t) b = 0
            · exact z2
            · exact absurd ⟨z1, z2⟩ hy
      · rw [hM, hj, Option.bind_some, if_pos rfl, Option.bind_some]
        exact r2
/-- bestFor and pick -/
theorem dBest {C M : XO} {c b nb n : Nat} {B : Int32} (hc : c < 2) (hnb : nb < 24) (hn : n ≤ 40) (hB : xI C 5 b 0 = B) (hBM : xI M 2124 0 (24 * c + nb) = B) (hnt : xI M 2108 0 c = nI n) (hno : ∀ t, n ≤ t → t < 40 → ¬ canC C c b t) (hcan : ∀ t, t < n → (canC C c b t ∧ jM M B (nI c) (nI nb) (nI t) = some 1) ∨ (¬ canC C c b t ∧ jM M B (nI c) (nI nb) (nI t) = some 0)) (hpr : ∀ t, t < n → fX11_price M (nI (40 * c + t)) B = some (fX7_priceAt C (40 * c + t) B)) : ∃ r, fX1_bestFor C c b = some (adr c r) ∧ fX11_pick M (nI c) (nI nb) = some (enc r) ∧ (∀ s, r = some s → s < n ∧ canC C c b s) := by
  obtain ⟨r, r1, r2, r3⟩ := scan (nb := nb) hc hn hB hnt hno hcan hpr n 0 none (by omega) (fun s hs => by cases hs)
  obtain ⟨g1, g2, g3⟩ := inB_24 hc hnb
  refine ⟨r, ?_, ?_, r3⟩
  · unfold fX1_bestFor
    have e : fX1_bestFor_l14 C (nI (alen 2003)) c b ((nI (alen 2003)).toNatClampNeg + 1) (0 : Int32) none = some (nI 40, adr c r) := r1
    rw [e, Option.bind_some]
  · unfold fX11_pick
    rw [if_pos g1, g3, hBM, cl_nI (show c < 2147483648 by omega), hnt, cl_nI (show n < 2147483648 by omega), show (0 : Int32) = nI 0 from rfl, show (-1 : Int32) = enc none from rfl, r2, Option.bind_some]
