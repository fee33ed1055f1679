def tClm (Ω : XO) (x1 x2 x4 : Int32) : Option Int32 := (fX11_isChain Ω x1).bind (fun r_1 => (((if r_1 = 0 then (some (0 : Int32)) else (fX11_isTx Ω ((1 : Int32) - x1) x4).bind (fun r_4 => (if r_4 = 0 then (some (0 : Int32)) else (fX11_in Ω x2 (0 : Int32) (5 : Int32)).bind (fun r_6 => (if r_6 = 0 then (some (0 : Int32)) else (some (1 : Int32))))))) : Option (Int32))))
def rClm (Ω : XO) (x3 x5 x6 j_8 : Int32) : Option Int32 := (fX11_in Ω x3 (0 : Int32) (9 : Int32)).bind (fun r_10 => (((if r_10 = 0 then (some (0 : Int32)) else (fX11_in Ω x5 (1 : Int32) (100 : Int32)).bind (fun r_13 => (if r_13 = 0 then (some (0 : Int32)) else (fX11_in Ω x6 (0 : Int32) x5).bind (fun r_15 => (if r_15 = 0 then (some (0 : Int32)) else (if inB j_8 80 then (if (xI Ω 2113 0 j_8.toNatClampNeg) = (15 : Int32) then (if inB j_8 80 then (if (xI Ω 2114 0 j_8.toNatClampNeg) ≤ 0 then (some (0 : Int32)) else (some (1 : Int32))) else none) else (some (0 : Int32))) else none)))))) : Option (Int32))))
def kClm (Ω : XO) (x1 x2 x3 x4 x5 x6 j_2 j_11 : Int32) : Option (Int32 × XO) := (((if j_2 = 0 then (some (0 : Int32)) else (if inB ((1 : Int32) - x1) 2 then (fX11_isIn Ω ((1 : Int32) - x1) (xI Ω 2110 0 ((1 : Int32) - x1).toNatClampNeg) x4).bind (fun r_27 => (if r_27 = 0 then (some (1 : Int32)) else (if inB x1 2 then (if (xI Ω 2108 0 x1.toNatClampNeg) = (40 : Int32) then (some (1 : Int32)) else (some (0 : Int32))) else none))) else none)) : Option (Int32))).bind (fun j_23 => (wl ((if j_2 = 0 then (1 : Int32) else (if j_11 = 0 then (2 : Int32) else (if j_23 = 0 then (0 : Int32) else (3 : Int32))))) (fun (j_32 : Int32) => (fX11_holds Ω j_32).bind (fun r_36 => (if r_36.1 = 0 then (fX11_enter r_36.2 x1 x2 x3 (24 : Int32) (0 : Int32) x4 (60 : Int32) x5 x6).bind (fun r_38 => (some (r_38.1, r_38.2))) else (some ((-1 : Int32), r_36.2)))))))
def nClm (Ω : XO) (x3 x5 x6 : Int32) (X : (Option Value ⊕ String) × XO) : (Option Value ⊕ String) × XO := (if eX10_demandRange Ω x3 (0 : Int32) (9 : Int32) = none then (if eX10_demandRange Ω x5 (1 : Int32) (100 : Int32) = none then (if eX10_demandRange Ω x6 (0 : Int32) x5 = none then X else (.inr ((eX10_demandRange Ω x6 (0 : Int32) x5).getD ""), Ω)) else (.inr ((eX10_demandRange Ω x5 (1 : Int32) (100 : Int32)).getD ""), Ω)) else (.inr ((eX10_demandRange Ω x3 (0 : Int32) (9 : Int32)).getD ""), Ω))
def oClm (Ω : XO) (i : Nat) (x1 x2 x3 x4 x5 x6 : Int32) : (Option Value ⊕ String) × XO := (if eX10_demandArgument Ω (fX7_isLock Ω (fX1_numbered Ω (rX10_demandChain Ω i ((1 : Int32) - x1)) x4)) = none then (if eX10_demandState Ω (fX0_holds Ω (fX1_lastFinalBlock Ω (rX10_demandChain Ω i ((1 : Int32) - x1))) x4) = none then (if (40 : Int32) ≤ (xI Ω 103 (rX10_demandChain Ω i x1) 0) then (.inr ((eX10_demandState Ω (0 : Int32)).getD ""), Ω) else (.inl (some (.int ((fX1_admit (fX7_nameLock (fX7_bid (fX7_order Ω (fX1_draft Ω (rX10_demandChain Ω i x1)) x2 x3 (15 : Int32) (0 : Int32) (0 : Int32) (60 : Int32)) (fX1_draft Ω (rX10_demandChain Ω i x1)) x5 x6) (fX1_draft Ω (rX10_demandChain Ω i x1)) (fX1_numbered Ω (rX10_demandChain Ω i ((1 : Int32) - x1)) x4)) (rX10_demandChain Ω i x1) (fX1_draft Ω (rX10_demandChain Ω i x1))).1))), (fX1_admit (fX7_nameLock (fX7_bid (fX7_order Ω (fX1_draft Ω (rX10_demandChain Ω i x1)) x2 x3 (15 : Int32) (0 : Int32) (0 : Int32) (60 : Int32)) (fX1_draft Ω (rX10_demandChain Ω i x1)) x5 x6) (fX1_draft Ω (rX10_demandChain Ω i x1)) (fX1_numbered Ω (rX10_demandChain Ω i ((1 : Int32) - x1)) x4)) (rX10_demandChain Ω i x1) (fX1_draft Ω (rX10_demandChain Ω i x1))).2)) else (.inr ((eX10_demandState Ω (fX0_holds Ω (fX1_lastFinalBlock Ω (rX10_demandChain Ω i ((1 : Int32) - x1))) x4)).getD ""), Ω)) else (.inr ((eX10_demandArgument Ω (fX7_isLock Ω (fX1_numbered Ω (rX10_demandChain Ω i ((1 : Int32) - x1)) x4))).getD ""), Ω))
theorem mClm_eq (Ω : XO) (x1 x2 x3 x4 x5 x6 : Int32) : fX11_claim Ω x1 x2 x3 x4 x5 x6 = (tClm Ω x1 x2 x4).bind (fun j_2 => (rClm Ω x3 x5 x6 ((if j_2 = 0 then (0 : Int32) else ((40 : Int32) * ((1 : Int32) - x1)) + x4))).bind (fun j_11 => kClm Ω x1 x2 x3 x4 x5 x6 j_2 j_11)) := by
  unfold fX11_claim tClm
  rw [Option.bind_assoc]
  congr 1
  funext r
  congr 1
  funext j
  unfold wl rClm
  rw [Option.bind_assoc]
  rfl
theorem cClm_eq (Ω : XO) (x1 x2 x3 x4 x5 x6 : Int32) : fX10_claim Ω 0 x1 x2 x3 x4 x5 x6 = (if eX10_demandChain Ω 0 x1 = none then (if eX10_demandChain Ω 0 ((1 : Int32) - x1) = none then (if eX10_demandIndex Ω x4 (xI Ω 103 (rX10_demandChain Ω 0 ((1 : Int32) - x1)) 0) = none then (if eX10_demandIndex Ω x2 (6 : Int32) = none then nClm Ω x3 x5 x6 (oClm Ω 0 x1 x2 x3 x4 x5 x6) else (.inr ((eX10_demandIndex Ω x2 (6 : Int32)).getD ""), Ω)) else (.inr ((eX10_demandIndex Ω x4 (xI Ω 103 (rX10_demandChain Ω 0 ((1 : Int32) - x1)) 0)).getD ""), Ω)) else (.inr ((eX10_demandChain Ω 0 ((1 : Int32) - x1)).getD ""), Ω)) else (.inr ((eX10_demandChain Ω 0 x1).getD ""), Ω)) := rfl
theorem sC (x3 x5 x6 : Int32) : ((∀ M q, q < 80 → rClm M x3 x5 x6 (nI q) = some (if xI M 2113 0 q = 15 then (if xI M 2114 0 q ≤ 0 then 0 else 1) else 0)) ∧ (∀ Ω X, nClm Ω x3 x5 x6 X = X) ∧ ¬ x3 < 0 ∧ ¬ (9 : Int32) < x3 ∧ ¬ x5 < 1 ∧ ¬ (100 : Int32) < x5 ∧ ¬ x6 < 0 ∧ ¬ x5 < x6) ∨ ((∀ M q, q < 80 → rClm M x3 x5 x6 (nI q) = some 0) ∧ ∀ Ω X, nClm Ω x3 x5 x6 X = (.inr xIA, Ω)) := by
  rcases dRng2 x3 0 9 with ⟨u3, l3, m3, c3⟩ | ⟨m3, c3⟩
  · rcases dRng2 x5 1 100 with ⟨u5, l5, m5, c5⟩ | ⟨m5, c5⟩
    · rcases dRng2 x6 0 x5 with ⟨u6, l6, m6, c6⟩ | ⟨m6, c6⟩
      · refine Or.inl ⟨fun M q hq => ?_, fun Ω X => ?_, u3, l3, u5, l5, u6, l6⟩
        · unfold rClm
          simp only [m3, m5, m6, Option.bind_some, one_n0, if_false, if_pos (inB_nI hq (show 80 < 2147483648 by decide)), cl_nI (show q < 2147483648 by omega)]
          by_cases q1 : xI M 2113 0 q = 15
          · rw [if_pos q1, if_pos q1]
            by_cases q2 : xI M 2114 0 q ≤ 0
            · rw [if_pos q2, if_pos q2]
            · rw [if_neg q2, if_neg q2]
          · rw [if_neg q1, if_neg q1]
        · unfold nClm
          rw [if_pos (c3 Ω), if_pos (c5 Ω), if_pos (c6 Ω)]
      · refine Or.inr ⟨fun M q hq => ?_, fun Ω X => ?_⟩
        · unfold rClm
          simp only [m3, m5, m6, Option.bind_some, one_n0, if_false, if_true]
        · unfold nClm
          rw [if_pos (c3 Ω), if_pos (c5 Ω), c6 Ω, if_neg (by simp)]
          rfl
    · refine Or.inr ⟨fun M q hq => ?_, fun Ω X => ?_⟩
      · unfold rClm
        simp only [m3, m5, Option.bind_some, one_n0, if_false, if_true]
      · unfold nClm
        rw [if_pos (c3 Ω), c5 Ω, if_neg (by simp)]
        rfl
  · refine Or.inr ⟨fun M q hq => ?_, fun Ω X => ?_⟩
    · unfold rClm
      simp only [m3, Option.bind_some, if_true]
    · unfold nClm
      rw [c3 Ω, if_neg (by simp)]
      rfl
theorem oth {c : Nat} (hc : c < 2) : (1 : Int32) - nI c = nI (1 - c) := by
  rcases (show c = 0 ∨ c = 1 by omega) with rfl | rfl <;> decide
theorem eTx {M : XO} {c n : Nat} (hc : c < 2) (b2 : xI M 2108 0 c = nI n) (hn : n ≤ 40) (x : Int32) : ((∃ k, k < n ∧ x = nI k) ∧ fX11_isTx M (nI c) x = some 1) ∨ ((x < 0 ∨ nI n ≤ x) ∧ fX11_isTx M (nI c) x = some 0) := by
  have e : ∀ r, fX11_in M x 0 (nI n - 1) = some r → (r = 0 ∨ r = 1) → fX11_isTx M (nI c) x = some r := by
    intro r hr h01
    unfold fX11_isTx
    rw [ob_s (eChain1 hc), if_neg one_n0, if_pos (inB_nI hc (by decide)), cl_nI (by omega), b2, ob_s hr]
    rcases h01 with rfl | rfl
    · rfl
    · rfl
  rcases eIdx (M := M) (x := x) (n := n) (by omega) with ⟨h1, h2⟩ | ⟨h1, h2⟩
  · exact Or.inl ⟨h1, e 1 h2 (Or.inr rfl)⟩
  · exact Or.inr ⟨h1, e 0 h2 (Or.inl rfl)⟩
theorem dLock {D : XD} {C M : XO} (h : RGD D C M) {c k : Nat} (hc : c < 2) (hk : k < dnt D c) : fX7_isLock C (40 * c + k) = (if xI M 2113 0 (40 * c + k) = 15 then (if xI M 2114 0 (40 * c + k) ≤ 0 then (0 : Int32) else 1) else 0) := by
  have t4 := (h.TX c hc k hk).2.2.1
  unfold fX7_isLock
  rcases h.TK c hc k hk with ⟨-, g, i, -, -, o1, o2, -⟩ | ⟨k', -, -, o1, -, o2, o3, -⟩
  · rw [o1, o2, t4]
  · rw [o1, o2, o3, if_pos (show nI 15 = 15 from rfl), if_pos (show (0 : Int32) ≤ 0 by decide), if_neg (show ¬ nI 24 = 15 by decide)]
theorem rem6 {i : Nat} (h : i ≤ 9999) : nI i - nI i / 6 * 6 = nI (i % 6) := by
  have e0 : (nI i).toInt = (i : Nat) := ti_nI (by omega)
  have e1 : (6 : Int32).toInt = 6 := rfl
  rw [ti_eq, ti_rem (by rw [e0]; omega) (by rw [e1]; omega), e0, e1, ti_nI (by omega)]
  omega
theorem ok_claim : OK_claim RG := by
  intro Ω x1 x2 x3 x4 x5 x6 ⟨D, h⟩
  have e5 : (5 : Int32) = nI 6 - 1 := by decide
  have hR : ∀ M, ∃ j, rClm M x3 x5 x6 (nI 0) = some j := fun M => by
    rcases sC x3 x5 x6 with ⟨jm, -⟩ | ⟨jm, -⟩
    · exact ⟨_, jm M 0 (by decide)⟩
    · exact ⟨_, jm M 0 (by decide)⟩
  have hfail : tClm Ω x1 x2 x4 = some 0 → fX11_claim Ω x1 x2 x3 x4 x5 x6 = some (-1, uI Ω 1160 0 0 1) := by
    intro ht
    obtain ⟨j, hj⟩ := hR Ω
    rw [mClm_eq, ht, Option.bind_some, if_pos rfl, show (0 : Int32) = nI 0 from rfl, hj, Option.bind_some]
    unfold kClm wl
    rw [if_pos (show nI 0 = 0 from rfl), Option.bind_some, if_pos (show nI 0 = 0 from rfl)]
    dsimp only
    rw [eHolds1, Option.bind_some]
    exact if_neg one_n0
  rcases dCh Ω Ω x1 with ⟨c, hc, rfl, e1, e2, e3⟩ | ⟨e1, e2⟩
  · obtain ⟨b1, b2, b3⟩ := h.NT c hc
    have hc' : 1 - c < 2 := by omega
    obtain ⟨b1', b2', b3'⟩ := h.NT (1 - c) hc'
    have e2' : eX10_demandChain Ω 0 ((1 : Int32) - nI c) = none := by rw [oth hc]; exact (cChain1 hc').1
    have e3' : rX10_demandChain Ω 0 ((1 : Int32) - nI c) = 1 - c := by
      rcases dCh Ω Ω (nI (1 - c)) with ⟨c2, hc2, z, -, -, z2⟩ | ⟨z, -⟩
      · rw [oth hc, z2]
        exact ((nI_eq (by omega) (by omega)).mp z).symm
      · rw [eChain1 hc'] at z
        exact absurd (Option.some.inj z) one_n0
    have ht : ∀ M r s, fX11_isTx M (nI (1 - c)) x4 = some r → fX11_in M x2 0 5 = some s → tClm M (nI c) x2 x4 = some (if r = 0 then 0 else if s = 0 then 0 else 1) := by
      intro M r s hr hs
      unfold tClm
      rw [ob_s (eChain1 hc), if_neg one_n0, oth hc, ob_s hr]
      by_cases q : r = 0
      · rw [if_pos q, if_pos q]
      · rw [if_neg q, if_neg q, ob_s hs]
        by_cases q2 : s = 0
        · rw [if_pos q2, if_pos q2]
        · rw [if_neg q2, if_neg q2]
    rcases eTx (M := Ω) hc' b2' b3' x4 with ⟨⟨k, hk, rfl⟩, t1⟩ | ⟨hj4, t1⟩
    · have c4 : eX10_demandIndex Ω (nI k) (nI (dnt D (1 - c))) = none := cIdx1 hk (by omega)
      rcases eIdx (M := Ω) (x := x2) (n := 6) (by decide) with ⟨⟨s, hs, rfl⟩, m1⟩ | ⟨hj, m1⟩
      · have c2 : eX10_demandIndex Ω (nI s) 6 = none := cIdx1 (n := 6) hs (by decide)
        have ht1 := ht Ω 1 1 t1 (by rw [e5]; exact m1)
        rw [if_neg one_n0, if_neg one_n0] at ht1
        have hq : 40 * (1 - c) + k < 80 := by omega
        have e8 : (40 : Int32) * ((1 : Int32) - nI c) + nI k = nI (40 * (1 - c) + k) := by
          rw [oth hc, show (40 : Int32) = nI 40 from rfl, nI_mul, nI_add]
        have hnum : fX1_numbered Ω (1 - c) (nI k) = 40 * (1 - c) + k := by
          unfold fX1_numbered
          rw [if_neg (nI_nlt0 (by omega)), if_neg (show ¬ (40 : Int32) ≤ nI k from nI_ge (b := 40) (by omega) (by decide)), cl_nI (by omega)]
        obtain ⟨fn1, fn2, fn3⟩ := h.FN (1 - c) hc'
        have hlock := dLock h hc' hk
        have hcls : fX10_claim Ω 0 (nI c) (nI s) x3 (nI k) x5 x6 = nClm Ω x3 x5 x6 (oClm Ω 0 (nI c) (nI s) x3 (nI k) x5 x6) := by
          rw [cClm_eq, if_pos e2, if_pos e2', e3', b1', if_pos c4, if_pos c2]
        have hin' : inB (nI (1 - c)) 2 := inB_nI hc' (by decide)
        have hcl' : (nI (1 - c)).toNatClampNeg = 1 - c := cl_nI (by omega)
        have hkk : ∀ M r j11, xI M 2110 0 (1 - c) = nI (dfn D (1 - c)) → xI M 2108 0 c = nI (dnt D c) → fX11_isIn M (nI (1 - c)) (nI (dfn D (1 - c))) (nI k) = some r → kClm M (nI c) (nI s) x3 (nI k) x5 x6 1 j11 = (fX11_holds M (if j11 = 0 then 2 else if r = 0 then 3 else if nI (dnt D c) = 40 then 3 else 0)).bind (fun r_36 => (if r_36.1 = 0 then (fX11_enter r_36.2 (nI c) (nI s) x3 (24 : Int32) (0 : Int32) (nI k) (60 : Int32) x5 x6).bind (fun r_38 => (some (r_38.1, r_38.2))) else (some ((-1 : Int32), r_36.2)))) := by
          intro M r j11 h1 h2 h3
          unfold kClm wl
          dsimp only
          rw [if_neg one_n0, oth hc, if_pos hin', hcl', h1, ob_s h3]
          by_cases q : r = 0
          · rw [if_pos q, Option.bind_some, if_neg one_n0, if_neg one_n0, if_pos q]
          · rw [if_neg q, if_pos (inB_nI hc (by decide)), cl_nI (by omega), h2]
            by_cases q2 : nI (dnt D c) = 40
            · rw [if_pos q2, Option.bind_some, if_neg one_n0, if_neg one_n0, if_neg q, if_pos q2]
            · rw [if_neg q2, Option.bind_some, if_neg one_n0, if_pos rfl, if_neg q, if_neg q2]
        have hmod : ∀ M j11, tClm M (nI c) (nI s) (nI k) = some 1 → rClm M x3 x5 x6 (nI (40 * (1 - c) + k)) = some j11 → fX11_claim M (nI c) (nI s) x3 (nI k) x5 x6 = kClm M (nI c) (nI s) x3 (nI k) x5 x6 1 j11 := by
          intro M j11 h1 h2
          rw [mClm_eq, h1, Option.bind_some, if_neg one_n0, e8, h2, Option.bind_some]
        have hho := dHolds h hc' fn3 (show k < 40 by omega)
        have hr : ∃ r, fX11_isIn Ω (nI (1 - c)) (nI (dfn D (1 - c))) (nI k) = some r ∧ fX0_holds Ω (24 * (1 - c) + dfn D (1 - c)) (nI k) = r := by
          rcases hho with ⟨-, z1, z2⟩ | ⟨-, z1, z2⟩
          · exact ⟨1, z1, z2⟩
          · exact ⟨0, z1, z2⟩
        obtain ⟨r, hr1, hr2⟩ := hr
        have hIA : rClm Ω x3 x5 x6 (nI (40 * (1 - c) + k)) = some 0 → fX11_claim Ω (nI c) (nI s) x3 (nI k) x5 x6 = some (-1, uI Ω 1160 0 0 2) := by
          intro hz
          rw [hmod Ω 0 ht1 hz, hkk Ω r 0 fn2 b2 hr1, if_pos rfl, eHolds2, Option.bind_some]
          exact if_neg one_n0
        rcases sC x3 x5 x6 with ⟨jm, jn, l3a, l3b, l5a, l5b, l6a, l6b⟩ | ⟨jm, jn⟩
        · have hj11 := jm Ω _ hq
          rw [← hlock] at hj11
          by_cases hlk : fX7_isLock Ω (40 * (1 - c) + k) = 0
          · refine ⟨(.inr xIA, Ω), (2, Ω), (-1, uI Ω 1160 0 0 2), ?_, rfl, ?_, thr_t _ _, n20, ⟨D, h.thr _⟩⟩
            · rw [hcls, jn]
              unfold oClm eX10_demandArgument
              rw [e3', hnum, if_pos hlk, if_neg (by simp)]
              rfl
            · exact hIA (by rw [hj11, hlk])
          · have hda : eX10_demandArgument Ω (fX7_isLock Ω (fX1_numbered Ω (1 - c) (nI k))) = none := by
              unfold eX10_demandArgument
              rw [hnum, if_neg hlk]
            have hIS : (if r = 0 then (3 : Int32) else if nI (dnt D c) = 40 then 3 else 0) = 3 → fX11_claim Ω (nI c) (nI s) x3 (nI k) x5 x6 = some (-1, uI Ω 1160 0 0 3) := by
              intro hz
              rw [hmod Ω _ ht1 hj11, hkk Ω r _ fn2 b2 hr1, if_neg hlk, hz, eHolds3, Option.bind_some]
              exact if_neg one_n0
            by_cases hr0 : r = 0
            · refine ⟨(.inr xIS, Ω), (3, Ω), (-1, uI Ω 1160 0 0 3), ?_, rfl, ?_, thr_t _ _, n30, ⟨D, h.thr _⟩⟩
              · rw [hcls, jn]
                unfold oClm
                rw [e3', if_pos hda, lF_I h hc', hr2, hr0]
                unfold eX10_demandState
                rw [if_pos rfl, if_neg (by simp)]
                rfl
              · exact hIS (if_pos hr0)
            · have hds : eX10_demandState Ω (fX0_holds Ω (fX1_lastFinalBlock Ω (1 - c)) (nI k)) = none := by
                unfold eX10_demandState
                rw [lF_I h hc', hr2, if_neg hr0]
              by_cases hn : dnt D c < 40
              · obtain ⟨n, -, hn9, rfl⟩ := rgN (a := 0) (b := 9) (by decide) l3a l3b (by decide)
                obtain ⟨mm, hm1, hm2, rfl⟩ := rgN (a := 1) (b := 100) (by decide) l5a l5b (by decide)
                obtain ⟨p, -, hp, rfl⟩ := rgN (a := 0) (b := mm) (by omega) l6a l6b (by decide)
                have hdr : fX1_draft Ω c = 40 * c + dnt D c := by
                  unfold fX1_draft fX1_numbered
                  rw [b1, if_neg (nI_nlt0 (by omega)), if_neg (show ¬ (40 : Int32) ≤ nI (dnt D c) from nI_ge (b := 40) hn (by decide)), cl_nI (by omega)]
                have hqd : 40 * (1 - c) + k ≠ 40 * c + dnt D c := idx_ne hc hc' (by omega) hn (fun z => by omega)
                obtain ⟨B, hB⟩ : ∃ B, B = fX7_bid (fX7_order Ω (40 * c + dnt D c) (nI s) (nI n) 15 0 0 60) (40 * c + dnt D c) (nI mm) (nI p) := ⟨_, rfl⟩
                obtain ⟨C1, hC1⟩ : ∃ C1, C1 = fX7_nameLock B (40 * c + dnt D c) (40 * (1 - c) + k) := ⟨_, rfl⟩
                have hB2 := hB
                unfold fX7_bid fX7_order at hB2
                have Bo : ∀ f i j, i ≠ 40 * c + dnt D c → xI B f i j = xI Ω f i j := by
                  intro f i j hi'
                  have u : ∀ (W : XO) (k' : Nat) (v : Int32), xI (uI W k' (40 * c + dnt D c) 0 v) f i j = xI W f i j := fun W k' v => by rw [I_uI, if_neg (fun z => hi' z.2.1)]
                  rw [hB2, u, u, u, u, u, u, u, u, u]
                have hC2 : C1 = uI (uI (uI B 709 (40 * c + dnt D c) 0 (xI Ω 700 (40 * (1 - c) + k) 0)) 710 (40 * c + dnt D c) 0 (xI Ω 704 (40 * (1 - c) + k) 0)) 711 (40 * c + dnt D c) 0 (xI Ω 705 (40 * (1 - c) + k) 0 - xI Ω 705 (40 * (1 - c) + k) 0 / 6 * 6) := by
                  rw [hC1]
                  unfold fX7_nameLock
                  have u5 : ∀ v w, xI (uI (uI B 709 (40 * c + dnt D c) 0 v) 710 (40 * c + dnt D c) 0 w) 705 (40 * (1 - c) + k) 0 = xI Ω 705 (40 * (1 - c) + k) 0 := fun v w => by rw [I_ne (by decide), I_ne (by decide), Bo _ _ _ hqd]
                  have u4 : ∀ v, xI (uI B 709 (40 * c + dnt D c) 0 v) 704 (40 * (1 - c) + k) 0 = xI Ω 704 (40 * (1 - c) + k) 0 := fun v => by rw [I_ne (by decide), Bo _ _ _ hqd]
                  rw [Bo 700 _ _ hqd, u4, u5]
                have f1 : ∀ f i j, dkL.contains f = false → xI C1 f i j = xI Ω f i j := by
                  intro f i j hf
                  unfold dkL at hf
                  obtain ⟨a1, hf⟩ := nc_ne hf
                  obtain ⟨a2, hf⟩ := nc_ne hf
                  obtain ⟨a3, hf⟩ := nc_ne hf
                  obtain ⟨a4, hf⟩ := nc_ne hf
                  obtain ⟨a5, hf⟩ := nc_ne hf
                  obtain ⟨a6, hf⟩ := nc_ne hf
                  obtain ⟨a7, hf⟩ := nc_ne hf
                  obtain ⟨a8, hf⟩ := nc_ne hf
                  obtain ⟨a9, hf⟩ := nc_ne hf
                  obtain ⟨a10, hf⟩ := nc_ne hf
                  obtain ⟨a11, hf⟩ := nc_ne hf
                  rw [hC2, I_ne a11, I_ne a10, I_ne a9, hB2, I_ne a8, I_ne a7, I_ne a9, I_ne a6, I_ne a5, I_ne a4, I_ne a3, I_ne a2, I_ne a1]
                have f2 : ∀ f i j, i ≠ 40 * c + dnt D c → xI C1 f i j = xI Ω f i j := by
                  intro f i j hi'
                  have u : ∀ (W : XO) (k' : Nat) (v : Int32), xI (uI W k' (40 * c + dnt D c) 0 v) f i j = xI W f i j := fun W k' v => by rw [I_uI, if_neg (fun z => hi' z.2.1)]
                  rw [hC2, u, u, u, Bo f i j hi']
                have f3 : ∀ f i j, xL C1 f i j = xL Ω f i j := fun f i j => by
                  rw [hC2, L_uI, L_uI, L_uI, hB2, L_uI, L_uI, L_uI, L_uI, L_uI, L_uI, L_uI, L_uI, L_uI]
                have k1 : xI C1 701 (40 * c + dnt D c) 0 = nI s := by rw [hC2, I_ne (by decide), I_ne (by decide), I_ne (by decide), hB2, I_ne (by decide), I_ne (by decide), I_ne (by decide), I_ne (by decide), I_ne (by decide), I_ne (by decide), I_ne (by decide), I_ne (by decide), I_uI, if_pos ⟨rfl, rfl, rfl⟩]
                have k2 : xI C1 702 (40 * c + dnt D c) 0 = nI n := by rw [hC2, I_ne (by decide), I_ne (by decide), I_ne (by decide), hB2, I_ne (by decide), I_ne (by decide), I_ne (by decide), I_ne (by decide), I_ne (by decide), I_ne (by decide), I_ne (by decide), I_uI, if_pos ⟨rfl, rfl, rfl⟩]
                have k3 : xI C1 703 (40 * c + dnt D c) 0 = nI 15 := by rw [hC2, I_ne (by decide), I_ne (by decide), I_ne (by decide), hB2, I_ne (by decide), I_ne (by decide), I_ne (by decide), I_ne (by decide), I_ne (by decide), I_ne (by decide), I_uI, if_pos ⟨rfl, rfl, rfl⟩]; rfl
                have k4 : xI C1 704 (40 * c + dnt D c) 0 = 0 := by rw [hC2, I_ne (by decide), I_ne (by decide), I_ne (by decide), hB2, I_ne (by decide), I_ne (by decide), I_ne (by decide), I_ne (by decide), I_ne (by decide), I_uI, if_pos ⟨rfl, rfl, rfl⟩]
                have k5 : xI C1 705 (40 * c + dnt D c) 0 = 0 := by rw [hC2, I_ne (by decide), I_ne (by decide), I_ne (by decide), hB2, I_ne (by decide), I_ne (by decide), I_ne (by decide), I_ne (by decide), I_uI, if_pos ⟨rfl, rfl, rfl⟩]
                have k6 : xI C1 706 (40 * c + dnt D c) 0 = 60 := by rw [hC2, I_ne (by decide), I_ne (by decide), I_ne (by decide), hB2, I_ne (by decide), I_ne (by decide), I_ne (by decide), I_uI, if_pos ⟨rfl, rfl, rfl⟩]
                have k7 : xI C1 707 (40 * c + dnt D c) 0 = nI mm := by rw [hC2, I_ne (by decide), I_ne (by decide), I_ne (by decide), hB2, I_ne (by decide), I_uI, if_pos ⟨rfl, rfl, rfl⟩]
                have k8 : xI C1 708 (40 * c + dnt D c) 0 = nI p := by rw [hC2, I_ne (by decide), I_ne (by decide), I_ne (by decide), hB2, I_uI, if_pos ⟨rfl, rfl, rfl⟩]
                have k9 : xI C1 709 (40 * c + dnt D c) 0 = nI k := by rw [hC2, I_ne (by decide), I_ne (by decide), I_uI, if_pos ⟨rfl, rfl, rfl⟩, h.TN _ hq, show (40 * (1 - c) + k) % 40 = k by omega]
                have k10 : xI C1 710 (40 * c + dnt D c) 0 = xI Ω 704 (40 * (1 - c) + k) 0 := by rw [hC2, I_ne (by decide), I_uI, if_pos ⟨rfl, rfl, rfl⟩]
                have k11 : xI C1 711 (40 * c + dnt D c) 0 = xI Ω 705 (40 * (1 - c) + k) 0 - xI Ω 705 (40 * (1 - c) + k) 0 / 6 * 6 := by rw [hC2, I_uI, if_pos ⟨rfl, rfl, rfl⟩]
                have t4 := (h.TX (1 - c) hc' k hk).2.2.1
                have hTK : hTKx D C1 Ω c (40 * c + dnt D c) 24 (nI k) := by
                  refine Or.inr ⟨k, hk, k9, k3, k5, k4, rfl, rfl, by rw [k10, t4], ?_⟩
                  rcases h.TK (1 - c) hc' k hk with ⟨-, g, i, hg, hi, o1, o2, o3, o4⟩ | ⟨k', -, -, o1, -, o2, o3, -⟩
                  · have hg15 : g = 15 := by
                      unfold fX7_isLock at hlk
                      by_cases z : xI Ω 703 (40 * (1 - c) + k) 0 = 15
                      · rw [o1] at z
                        exact (nI_eq (b := 15) (by omega) (by decide)).mp z
                      · rw [if_neg z] at hlk
                        exact absurd rfl hlk
                    refine ⟨by rw [o2, hg15], i, o4, hi, ?_⟩
                    rw [k11, o3, rem6 hi]
                  · exfalso
                    unfold fX7_isLock at hlk
                    rw [o1, o2, if_pos (show nI 15 = 15 from rfl), if_pos (show (0 : Int32) ≤ 0 by decide)] at hlk
                    exact hlk rfl
                obtain ⟨v, C', M', q1, q2, q3, q4, q5, q6, q7⟩ := dFinish h hc hn f1 f2 f3 (x4 := 24) (x6 := nI k) k1 k2 k4 k6 k7 k8 ⟨s, n, 0, 60, mm, p, k1, hs, k2, hn9, k4, by decide, k6, by decide, by decide, k7, hm1, hm2, k8, hp⟩ hTK
                have hW : ∃ W, W = uL C' 2017 0 0 v.toInt64 := ⟨_, rfl⟩
                refine ⟨(.inl (some (.int v)), C'), (0, uL C' 2017 0 0 v.toInt64), (v, M'), ?_, rfl, ?_, q4, fun _ => q5, q6⟩
                · rw [hcls, jn]
                  unfold oClm
                  rw [e3', if_pos hda, if_pos hds, e3, b1, if_neg (show ¬ (40 : Int32) ≤ nI (dnt D c) from nI_ge (b := 40) hn (by decide)), hdr, hnum, ← hB, ← hC1, q1]
                · obtain ⟨-, w2, -⟩ := q7.NT c hc
                  obtain ⟨-, w2', -⟩ := q7.NT (1 - c) hc'
                  obtain ⟨-, w3, -⟩ := q7.FN (1 - c) hc'
                  have u1 : fX11_isTx (uL C' 2017 0 0 v.toInt64) (nI (1 - c)) (nI k) = some 1 := by
                    rcases eTx (M := uL C' 2017 0 0 v.toInt64) hc' w2' b3' (nI k) with ⟨-, z⟩ | ⟨z, -⟩
                    · exact z
                    · exfalso
                      rcases z with z | z
                      · exact nI_nlt0 (by omega) z
                      · exact nI_ge hk (by omega) z
                  have u2 : fX11_in (uL C' 2017 0 0 v.toInt64) (nI s) 0 5 = some 1 := by rw [e5]; rw [eIn] at m1 ⊢; exact m1
                  have u3 := ht (uL C' 2017 0 0 v.toInt64) 1 1 u1 u2
                  rw [if_neg one_n0, if_neg one_n0] at u3
                  have u4 := jm (uL C' 2017 0 0 v.toInt64) _ hq
                  rw [← dLock q7 hc' hk] at u4
                  have u5 : fX7_isLock C1 (40 * (1 - c) + k) = fX7_isLock Ω (40 * (1 - c) + k) := by
                    unfold fX7_isLock
                    rw [f2 703 _ _ hqd, f2 704 _ _ hqd]
                  rw [u5] at u4
                  have u6 : fX0_holds C1 (24 * (1 - c) + dfn D (1 - c)) (nI k) = r := by
                    rw [← hr2]
                    unfold fX0_holds
                    rw [f3]
                  have u7 : fX11_isIn (uL C' 2017 0 0 v.toInt64) (nI (1 - c)) (nI (dfn D (1 - c))) (nI k) = some r := by
                    rcases dHolds q7 hc' fn3 (show k < 40 by omega) with ⟨-, z1, z2⟩ | ⟨-, z1, z2⟩
                    · rw [z1, ← u6, z2]
                    · rw [z1, ← u6, z2]
                  have n40 : ¬ nI (dnt D c) = 40 := fun z => by
                    have := (nI_eq (b := 40) (show dnt D c < 2147483648 by omega) (by decide)).mp z
                    omega
                  have u8 := hmod (uL C' 2017 0 0 v.toInt64) _ u3 u4
                  rw [hkk (uL C' 2017 0 0 v.toInt64) r _ w3 w2 u7, if_neg hlk, if_neg hr0, if_neg n40, eHolds0, Option.bind_some, if_pos rfl, q2] at u8
                  exact u8
              · have hn40 : dnt D c = 40 := by omega
                refine ⟨(.inr xIS, Ω), (3, Ω), (-1, uI Ω 1160 0 0 3), ?_, rfl, ?_, thr_t _ _, n30, ⟨D, h.thr _⟩⟩
                · rw [hcls, jn]
                  unfold oClm
                  rw [e3', if_pos hda, if_pos hds, e3, b1, hn40, if_pos (show (40 : Int32) ≤ nI 40 by decide)]
                  rfl
                · refine hIS ?_
                  rw [if_neg hr0, hn40, if_pos (show nI 40 = 40 from rfl)]
        · refine ⟨(.inr xIA, Ω), (2, Ω), (-1, uI Ω 1160 0 0 2), ?_, rfl, ?_, thr_t _ _, n20, ⟨D, h.thr _⟩⟩
          · rw [hcls, jn]
          · exact hIA (jm Ω _ hq)
      · refine ⟨(.inr xIO, Ω), (1, Ω), (-1, uI Ω 1160 0 0 1), ?_, rfl, ?_, thr_t _ _, n10, ⟨D, h.thr _⟩⟩
        · rw [cClm_eq, if_pos e2, if_pos e2', e3', b1', if_pos c4, show eX10_demandIndex Ω x2 6 = some xIO from cIdx0 (y := nI 6) hj, if_neg (by simp)]
          rfl
        · have ht1 := ht Ω 1 0 t1 (by rw [e5]; exact m1)
          rw [if_neg one_n0, if_pos rfl] at ht1
          exact hfail ht1
    · refine ⟨(.inr xIO, Ω), (1, Ω), (-1, uI Ω 1160 0 0 1), ?_, rfl, ?_, thr_t _ _, n10, ⟨D, h.thr _⟩⟩
      · rw [cClm_eq, if_pos e2, if_pos e2', e3', b1', cIdx0 hj4, if_neg (by simp)]
        rfl
      · obtain ⟨s, hs⟩ : ∃ s, fX11_in Ω x2 0 5 = some s := ⟨_, eIn Ω x2 0 5⟩
        have ht1 := ht Ω 0 s t1 hs
        rw [if_pos rfl] at ht1
        exact hfail ht1
  · refine ⟨(.inr xIO, Ω), (1, Ω), (-1, uI Ω 1160 0 0 1), ?_, rfl, ?_, thr_t _ _, n10, ⟨D, h.thr _⟩⟩
    · rw [cClm_eq, e2, if_neg (by simp)]
      rfl
    · refine hfail ?_
      unfold tClm
      rw [ob_s e1, if_pos rfl]
