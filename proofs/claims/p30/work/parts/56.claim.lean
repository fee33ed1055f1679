def tClm (Ω : XO) (x1 x2 x4 : Int32) : Option Int32 := (fX11_isChain Ω x1).bind (fun r_1 => (((if r_1 = 0 then (some (0 : Int32)) else (fX11_isTx Ω ((1 : Int32) - x1) x4).bind (fun r_4 => (if r_4 = 0 then (some (0 : Int32)) else (fX11_in Ω x2 (0 : Int32) (5 : Int32)).bind (fun r_6 => (if r_6 = 0 then (some (0 : Int32)) else (some (1 : Int32))))))) : Option (Int32))))
def rClm (Ω : XO) (x3 x5 x6 j_8 : Int32) : Option Int32 := (fX11_in Ω x3 (0 : Int32) (9 : Int32)).bind (fun r_10 => (((if r_10 = 0 then (some (0 : Int32)) else (fX11_in Ω x5 (1 : Int32) (100 : Int32)).bind (fun r_13 => (if r_13 = 0 then (some (0 : Int32)) else (fX11_in Ω x6 (0 : Int32) x5).bind (fun r_15 => (if r_15 = 0 then (some (0 : Int32)) else (if inB j_8 80 then (if (xI Ω 2113 0 j_8.toNatClampNeg) = (15 : Int32) then (if inB j_8 80 then (if (xI Ω 2114 0 j_8.toNatClampNeg) ≤ 0 then (some (0 : Int32)) else (some (1 : Int32))) else none) else (some (0 : Int32))) else none)))))) : Option (Int32))))
def kClm (Ω : XO) (x1 x2 x3 x4 x5 x6 j_2 j_11 : Int32) : Option (Int32 × XO) := (((if j_2 = 0 then (some (0 : Int32)) else (if inB ((1 : Int32) - x1) 2 then (fX11_isIn Ω ((1 : Int32) - x1) (xI Ω 2110 0 ((1 : Int32) - x1).toNatClampNeg) x4).bind (fun r_27 => (if r_27 = 0 then (some (1 : Int32)) else (if inB x1 2 then (if (xI Ω 2108 0 x1.toNatClampNeg) = (40 : Int32) then (some (1 : Int32)) else (some (0 : Int32))) else none))) else none)) : Option (Int32))).bind (fun j_23 => (wl ((if j_2 = 0 then (1 : Int32) else (if j_11 = 0 then (2 : Int32) else (if j_23 = 0 then (0 : Int32) else (3 : Int32))))) (fun (j_32 : Int32) => (fX11_holds Ω j_32).bind (fun r_36 => (if r_36.1 = 0 then (fX11_enter r_36.2 x1 x2 x3 (24 : Int32) (0 : Int32) x4 (60 : Int32) x5 x6).bind (fun r_38 => (some (r_38.1, r_38.2))) else (some ((-1 : Int32), r_36.2)))))))
def nClm (Ω : XO) (x3 x5 x6 : Int32) (X : (Option Value ⊕ String) × XO) : (Option Value ⊕ String) × XO := (if eX10_demandRange Ω x3 (0 : Int32) (9 : Int32) = none then (if eX10_demandRange Ω x5 (1 : Int32) (100 : Int32) = none then (if eX10_demandRange Ω x6 (0 : Int32) x5 = none then X else (.inr ((eX10_demandRange Ω x6 (0 : Int32) x5).getD ""), Ω)) else (.inr ((eX10_demandRange Ω x5 (1 : Int32) (100 : Int32)).getD ""), Ω)) else (.inr ((eX10_demandRange Ω x3 (0 : Int32) (9 : Int32)).getD ""), Ω))
def oClm (Ω : XO) (i : Nat) (x1 x2 x3 x4 x5 x6 : Int32) : (Option Value ⊕ String) × XO := (if eX10_demandArgument Ω (fX7_isLock Ω (fX1_numbered Ω (rX10_demandChain Ω i ((1 : Int32) - x1)) x4)) = none then (if eX10_demandState Ω (fX0_holds Ω (fX1_lastFinalBlock Ω (rX10_demandChain Ω i ((1 : Int32) - x1))) x4) = none then (if (40 : Int32) ≤ (xI Ω 103 (rX10_demandChain Ω i x1) 0) then (.inr ((eX10_demandState Ω (0 : Int32)).getD ""), Ω) else (.inl (some (.int ((fX1_admit (fX7_nameLock (fX7_bid (fX7_order Ω (fX1_draft Ω (rX10_demandChain Ω i x1)) x2 x3 (15 : Int32) (0 : Int32) (0 : Int32) (60 : Int32)) (fX1_draft Ω (rX10_demandChain Ω i x1)) x5 x6) (fX1_draft Ω (rX10_demandChain Ω i x1)) (fX1_numbered Ω (rX10_demandChain Ω i ((1 : Int32) - x1)) x4)) (rX10_demandChain Ω i x1) (fX1_draft Ω (rX10_demandChain Ω i x1))).1))), (fX1_admit (fX7_nameLock (fX7_bid (fX7_order Ω (fX1_draft Ω (rX10_demandChain Ω i x1)) x2 x3 (15 : Int32) (0 : Int32) (0 : Int32) (60 : Int32)) (fX1_draft Ω (rX10_demandChain Ω i x1)) x5 x6) (fX1_draft Ω (rX10_demandChain Ω i x1)) (fX1_numbered Ω (rX10_demandChain Ω i ((1 : Int32) - x1)) x4)) (rX10_demandChain Ω i x1) (fX1_draft Ω (rX10_demandChain Ω i x1))).2)) else (.inr ((eX10_demandState Ω (fX0_holds Ω (fX1_lastFinalBlock Ω (rX10_demandChain Ω i ((1 : Int32) - x1))) x4)).getD ""), Ω)) else (.inr ((eX10_demandArgument Ω (fX7_isLock Ω (fX1_numbered Ω (rX10_demandChain Ω i ((1 : Int32) - x1)) x4))).getD ""), Ω))
theorem mClm_eq (Ω : XO) (x1 x2 x3 x4 x5 x6 : Int32) : fX11_claim Ω x1 x2 x3 x4 x5 x6 = (tClm Ω x1 x2 x4).bind (fun j_2 => (rClm Ω x3 x5 x6 ((if j_2 = 0 then (0 : Int32) else ((40 : Int32) * ((1 : Int32) - x1)) + x4))).bind (fun j_11 => kClm Ω x1 x2 x3 x4 x5 x6 j_2 j_11)) := by
  unfold fX11_claim tClm
  rw [Option.bind_assoc]
  congr 1
  funext r
  congr 1
  funext j
  unfold wl rClm
  rw [Option.bind_assoc]
  rfl
theorem cClm_eq (Ω : XO) (x1 x2 x3 x4 x5 x6 : Int32) : fX10_claim Ω 0 x1 x2 x3 x4 x5 x6 = (if eX10_demandChain Ω 0 x1 = none then (if eX10_demandChain Ω 0 ((1 : Int32) - x1) = none then (if eX10_demandIndex Ω x4 (xI Ω 103 (rX10_demandChain Ω 0 ((1 : Int32) - x1)) 0) = none then (if eX10_demandIndex Ω x2 (6 : Int32) = none then nClm Ω x3 x5 x6 (oClm Ω 0 x1 x2 x3 x4 x5 x6) else (.inr ((eX10_demandIndex Ω x2 (6 : Int32)).getD ""), Ω)) else (.inr ((eX10_demandIndex Ω x4 (xI Ω 103 (rX10_demandChain Ω 0 ((1 : Int32) - x1)) 0)).getD ""), Ω)) else (.inr ((eX10_demandChain Ω 0 ((1 : Int32) - x1)).getD ""), Ω)) else (.inr ((eX10_demandChain Ω 0 x1).getD ""), Ω)) := rfl
theorem sC (x3 x5 x6 : Int32) : ((∀ M q, q < 80 → rClm M x3 x5 x6 (nI q) = some (if xI M 2113 0 q = 15 then (if xI M 2114 0 q ≤ 0 then 0 else 1) else 0)) ∧ (∀ Ω X, nClm Ω x3 x5 x6 X = X) ∧ ¬ x3 < 0 ∧ ¬ (9 : Int32) < x3 ∧ ¬ x5 < 1 ∧ ¬ (100 : Int32) < x5 ∧ ¬ x6 < 0 ∧ ¬ x5 < x6) ∨ ((∀ M q, q < 80 → rClm M x3 x5 x6 (nI q) = some 0) ∧ ∀ Ω X, nClm Ω x3 x5 x6 X = (.inr xIA, Ω)) := by
  rcases dRng2 x3 0 9 with ⟨u3, l3, m3, c3⟩ | ⟨m3, c3⟩
  · rcases dRng2 x5 1 100 with ⟨u5, l5, m5, c5⟩ | ⟨m5, c5⟩
    · rcases dRng2 x6 0 x5 with ⟨u6, l6, m6, c6⟩ | ⟨m6, c6⟩
      · refine Or.inl ⟨fun M q hq => ?_, fun Ω X => ?_, u3, l3, u5, l5, u6, l6⟩
        · unfold rClm
          simp only [m3, m5, m6, Option.bind_some, one_n0, if_false, if_pos (inB_nI hq (show 80 < 2147483648 by decide)), cl_nI (show q < 2147483648 by omega)]
          by_cases q1 : xI M 2113 0 q = 15
          · rw [if_pos q1, if_pos q1]
            by_cases q2 : xI M 2114 0 q ≤ 0
            · rw [if_pos q2, if_pos q2]
            · rw [if_neg q2, if_neg q2]
          · rw [if_neg q1, if_neg q1]
        · unfold nClm
          rw [if_pos (c3 Ω), if_pos (c5 Ω), if_pos (c6 Ω)]
      · refine Or.inr ⟨fun M q hq => ?_, fun Ω X => ?_⟩
        · unfold rClm
          simp only [m3, m5, m6, Option.bind_some, one_n0, if_false, if_true]
        · unfold nClm
          rw [if_pos (c3 Ω), if_pos (c5 Ω), c6 Ω, if_neg (by simp)]
          rfl
    · refine Or.inr ⟨fun M q hq => ?_, fun Ω X => ?_⟩
      · unfold rClm
        simp only [m3, m5, Option.bind_some, one_n0, if_false, if_true]
      · unfold nClm
        rw [if_pos (c3 Ω), c5 Ω, if_neg (by simp)]
        rfl
  · refine Or.inr ⟨fun M q hq => ?_, fun Ω X => ?_⟩
    · unfold rClm
      simp only [m3, Option.bind_some, if_true]
    · unfold nClm
      rw [c3 Ω, if_neg (by simp)]
      rfl
theorem oth {c : Nat} (hc : c < 2) : (1 : Int32) - nI c = nI (1 - c) := by
  rcases (show c = 0 ∨ c = 1 by omega) with rfl | rfl <;> decide
theorem eTx {M : XO} {c n : Nat} (hc : c < 2) (b2 : xI M 2108 0 c = nI n) (hn : n ≤ 40) (x : Int32) : ((∃ k, k < n ∧ x = nI k) ∧ fX11_isTx M (nI c) x = some 1) ∨ ((x < 0 ∨ nI n ≤ x) ∧ fX11_isTx M (nI c) x = some 0) := by
  have e : ∀ r, fX11_in M x 0 (nI n - 1) = some r → (r = 0 ∨ r = 1) → fX11_isTx M (nI c) x = some r := by
    intro r hr h01
    unfold fX11_isTx
    rw [ob_s (eChain1 hc), if_neg one_n0, if_pos (inB_nI hc (by decide)), cl_nI (by omega), b2, ob_s hr]
    rcases h01 with rfl | rfl
    · rfl
    · rfl
  rcases eIdx (M := M) (x := x) (n := n) (by omega) with ⟨h1, h2⟩ | ⟨h1, h2⟩
  · exact Or.inl ⟨h1, e 1 h2 (Or.inr rfl)⟩
  · exact Or.inr ⟨h1, e 0 h2 (Or.inl rfl)⟩
theorem dLock {D : XD} {C M : XO} (h : RGD D C M) {c k : Nat} (hc : c < 2) (hk : k < dnt D c) : fX7_isLock C (40 * c + k) = (if xI M 2113 0 (40 * c + k) = 15 then (if xI M 2114 0 (40 * c + k) ≤ 0 then (0 : Int32) else 1) else 0) := by
  have t4 := (h.TX c hc k hk).2.2.1
  unfold fX7_isLock
  rcases h.TK c hc k hk with ⟨-, g, i, -, -, o1, o2, -⟩ | ⟨k', -, -, o1, -, o2, o3, -⟩
  · rw [o1, o2, t4]
  · rw [o1, o2, o3, if_pos (show nI 15 = 15 from rfl), if_pos (show (0 : Int32) ≤ 0 by decide), if_neg (show ¬ nI 24 = 15 by decide)]
theorem rem6 {i : Nat} (h : i ≤ 9999) : nI i - nI i / 6 * 6 = nI (i % 6) := by
  have e0 : (nI i).toInt = (i : Nat) := ti_nI (by omega)
  have e1 : (6 : Int32).toInt = 6 := rfl
  rw [ti_eq, ti_rem (by rw [e0]; omega) (by rw [e1]; omega), e0, e1, ti_nI (by omega)]
  omega
