def jSub (Ω : XO) (x3 x4 x5 x6 x7 x8 x9 : Int32) : Option Int32 := (fX11_in Ω x3 (0 : Int32) (9 : Int32)).bind (fun r_1 => ((if r_1 = 0 then (some (0 : Int32)) else (fX11_in Ω x4 (0 : Int32) (23 : Int32)).bind (fun r_4 => (if r_4 = 0 then (some (0 : Int32)) else (fX11_in Ω x5 (0 : Int32) (10000 : Int32)).bind (fun r_6 => (if r_6 = 0 then (some (0 : Int32)) else (fX11_in Ω x6 (0 : Int32) (9999 : Int32)).bind (fun r_8 => (if r_8 = 0 then (some (0 : Int32)) else (fX11_in Ω x7 (20 : Int32) (600 : Int32)).bind (fun r_10 => (if r_10 = 0 then (some (0 : Int32)) else (fX11_in Ω x8 (1 : Int32) (100 : Int32)).bind (fun r_12 => (if r_12 = 0 then (some (0 : Int32)) else (fX11_in Ω x9 (0 : Int32) x8).bind (fun r_14 => (if r_14 = 0 then (some (0 : Int32)) else (some (1 : Int32))))))))))))))) : Option (Int32)))
def nSub (Ω : XO) (x3 x4 x5 x6 x7 x8 x9 : Int32) (X : (Option Value ⊕ String) × XO) : (Option Value ⊕ String) × XO := (if eX10_demandRange Ω x3 (0 : Int32) (9 : Int32) = none then (if eX10_demandRange Ω x4 (0 : Int32) (23 : Int32) = none then (if eX10_demandRange Ω x5 (0 : Int32) (10000 : Int32) = none then (if eX10_demandRange Ω x6 (0 : Int32) (9999 : Int32) = none then (if eX10_demandRange Ω x7 (20 : Int32) (600 : Int32) = none then (if eX10_demandRange Ω x8 (1 : Int32) (100 : Int32) = none then (if eX10_demandRange Ω x9 (0 : Int32) x8 = none then X else (.inr ((eX10_demandRange Ω x9 (0 : Int32) x8).getD ""), Ω)) else (.inr ((eX10_demandRange Ω x8 (1 : Int32) (100 : Int32)).getD ""), Ω)) else (.inr ((eX10_demandRange Ω x7 (20 : Int32) (600 : Int32)).getD ""), Ω)) else (.inr ((eX10_demandRange Ω x6 (0 : Int32) (9999 : Int32)).getD ""), Ω)) else (.inr ((eX10_demandRange Ω x5 (0 : Int32) (10000 : Int32)).getD ""), Ω)) else (.inr ((eX10_demandRange Ω x4 (0 : Int32) (23 : Int32)).getD ""), Ω)) else (.inr ((eX10_demandRange Ω x3 (0 : Int32) (9 : Int32)).getD ""), Ω))
def kSub (Ω : XO) (x1 x2 x3 x4 x5 x6 x7 x8 x9 : Int32) (j_2 : Int32) : Option (Int32 × XO) := (fX11_isChain Ω x1).bind (fun r_16 => (((if r_16 = 0 then (some (1 : Int32)) else (fX11_in Ω x2 (0 : Int32) (5 : Int32)).bind (fun r_19 => (if r_19 = 0 then (some (1 : Int32)) else (if j_2 = 0 then (some (2 : Int32)) else (if inB x1 2 then (if (xI Ω 2108 0 x1.toNatClampNeg) = (40 : Int32) then (some (3 : Int32)) else (some (0 : Int32))) else none))))) : Option (Int32))).bind (fun j_17 => (fX11_holds Ω j_17).bind (fun r_25 => (if r_25.1 = 0 then (fX11_enter r_25.2 x1 x2 x3 x4 x5 x6 x7 x8 x9).bind (fun r_27 => (some (r_27.1, r_27.2))) else (some ((-1 : Int32), r_25.2))))))
def oSub (Ω : XO) (i : Nat) (x1 x2 x3 x4 x5 x6 x7 x8 x9 : Int32) : (Option Value ⊕ String) × XO := (if (40 : Int32) ≤ (xI Ω 103 (rX10_demandChain Ω i x1) 0) then (.inr ((eX10_demandState Ω (0 : Int32)).getD ""), Ω) else (.inl (some (.int ((fX1_admit (fX7_bid (fX7_order Ω (fX1_draft Ω (rX10_demandChain Ω i x1)) x2 x3 x4 x5 x6 x7) (fX1_draft Ω (rX10_demandChain Ω i x1)) x8 x9) (rX10_demandChain Ω i x1) (fX1_draft Ω (rX10_demandChain Ω i x1))).1))), (fX1_admit (fX7_bid (fX7_order Ω (fX1_draft Ω (rX10_demandChain Ω i x1)) x2 x3 x4 x5 x6 x7) (fX1_draft Ω (rX10_demandChain Ω i x1)) x8 x9) (rX10_demandChain Ω i x1) (fX1_draft Ω (rX10_demandChain Ω i x1))).2))
theorem mSub_eq (Ω : XO) (x1 x2 x3 x4 x5 x6 x7 x8 x9 : Int32) : fX11_submit Ω x1 x2 x3 x4 x5 x6 x7 x8 x9 = (jSub Ω x3 x4 x5 x6 x7 x8 x9).bind (kSub Ω x1 x2 x3 x4 x5 x6 x7 x8 x9) := by
  unfold fX11_submit jSub
  rw [Option.bind_assoc]
  rfl
theorem cSub_eq (Ω : XO) (x1 x2 x3 x4 x5 x6 x7 x8 x9 : Int32) : fX10_submit Ω 0 x1 x2 x3 x4 x5 x6 x7 x8 x9 = (if eX10_demandChain Ω 0 x1 = none then (if eX10_demandIndex Ω x2 (6 : Int32) = none then nSub Ω x3 x4 x5 x6 x7 x8 x9 (oSub Ω 0 x1 x2 x3 x4 x5 x6 x7 x8 x9) else (.inr ((eX10_demandIndex Ω x2 (6 : Int32)).getD ""), Ω)) else (.inr ((eX10_demandChain Ω 0 x1).getD ""), Ω)) := rfl
theorem dRng2 (x a b : Int32) : (¬ x < a ∧ ¬ b < x ∧ (∀ M, fX11_in M x a b = some 1) ∧ ∀ Ω, eX10_demandRange Ω x a b = none) ∨ ((∀ M, fX11_in M x a b = some 0) ∧ ∀ Ω, eX10_demandRange Ω x a b = some xIA) := by
  by_cases q : x < a ∨ b < x
  · refine Or.inr ⟨fun M => eIn0 q, fun Ω => ?_⟩
    rcases dRng Ω Ω x a b with ⟨-, -, r1, r2⟩ | ⟨-, r⟩
    · rcases q with q | q
      · exact absurd q r1
      · exact absurd q r2
    · exact r
  · refine Or.inl ⟨fun z => q (Or.inl z), fun z => q (Or.inr z), fun M => eIn1 (fun z => q (Or.inl z)) (fun z => q (Or.inr z)), fun Ω => ?_⟩
    rcases dRng Ω Ω x a b with ⟨-, r, -⟩ | ⟨r1, -⟩
    · exact r
    · rw [eIn1 (fun z => q (Or.inl z)) (fun z => q (Or.inr z))] at r1
      exact absurd (Option.some.inj r1) one_n0
theorem sJ (x3 x4 x5 x6 x7 x8 x9 : Int32) : ((∀ M, jSub M x3 x4 x5 x6 x7 x8 x9 = some 1) ∧ (∀ Ω X, nSub Ω x3 x4 x5 x6 x7 x8 x9 X = X) ∧ ¬ x3 < (0 : Int32) ∧ ¬ (9 : Int32) < x3 ∧ ¬ x4 < (0 : Int32) ∧ ¬ (23 : Int32) < x4 ∧ ¬ x5 < (0 : Int32) ∧ ¬ (10000 : Int32) < x5 ∧ ¬ x6 < (0 : Int32) ∧ ¬ (9999 : Int32) < x6 ∧ ¬ x7 < (20 : Int32) ∧ ¬ (600 : Int32) < x7 ∧ ¬ x8 < (1 : Int32) ∧ ¬ (100 : Int32) < x8 ∧ ¬ x9 < (0 : Int32) ∧ ¬ x8 < x9) ∨ ((∀ M, jSub M x3 x4 x5 x6 x7 x8 x9 = some 0) ∧ ∀ Ω X, nSub Ω x3 x4 x5 x6 x7 x8 x9 X = (.inr xIA, Ω)) := by
  rcases dRng2 x3 (0 : Int32) (9 : Int32) with ⟨ux3, lx3, mx3, cx3⟩ | ⟨mx3, cx3⟩
  · skip
    rcases dRng2 x4 (0 : Int32) (23 : Int32) with ⟨ux4, lx4, mx4, cx4⟩ | ⟨mx4, cx4⟩
    · skip
      rcases dRng2 x5 (0 : Int32) (10000 : Int32) with ⟨ux5, lx5, mx5, cx5⟩ | ⟨mx5, cx5⟩
      · skip
        rcases dRng2 x6 (0 : Int32) (9999 : Int32) with ⟨ux6, lx6, mx6, cx6⟩ | ⟨mx6, cx6⟩
        · skip
          rcases dRng2 x7 (20 : Int32) (600 : Int32) with ⟨ux7, lx7, mx7, cx7⟩ | ⟨mx7, cx7⟩
          · skip
            rcases dRng2 x8 (1 : Int32) (100 : Int32) with ⟨ux8, lx8, mx8, cx8⟩ | ⟨mx8, cx8⟩
            · skip
              rcases dRng2 x9 (0 : Int32) x8 with ⟨ux9, lx9, mx9, cx9⟩ | ⟨mx9, cx9⟩
              · refine Or.inl ⟨fun M => ?_, fun Ω X => ?_, ux3, lx3, ux4, lx4, ux5, lx5, ux6, lx6, ux7, lx7, ux8, lx8, ux9, lx9⟩
                · unfold jSub
                  simp only [mx3, mx4, mx5, mx6, mx7, mx8, mx9, Option.bind_some, one_n0, if_false]
                · unfold nSub
                  rw [if_pos (cx3 Ω), if_pos (cx4 Ω), if_pos (cx5 Ω), if_pos (cx6 Ω), if_pos (cx7 Ω), if_pos (cx8 Ω), if_pos (cx9 Ω)]
              · refine Or.inr ⟨fun M => ?_, fun Ω X => ?_⟩
                · unfold jSub
                  simp only [mx3, mx4, mx5, mx6, mx7, mx8, mx9, Option.bind_some, one_n0, if_false, if_true]
                · unfold nSub
                  rw [if_pos (cx3 Ω), if_pos (cx4 Ω), if_pos (cx5 Ω), if_pos (cx6 Ω), if_pos (cx7 Ω), if_pos (cx8 Ω), cx9 Ω, if_neg (by simp)]
                  rfl
            · refine Or.inr ⟨fun M => ?_, fun Ω X => ?_⟩
              · unfold jSub
                simp only [mx3, mx4, mx5, mx6, mx7, mx8, Option.bind_some, one_n0, if_false, if_true]
              · unfold nSub
                rw [if_pos (cx3 Ω), if_pos (cx4 Ω), if_pos (cx5 Ω), if_pos (cx6 Ω), if_pos (cx7 Ω), cx8 Ω, if_neg (by simp)]
                rfl
          · refine Or.inr ⟨fun M => ?_, fun Ω X => ?_⟩
            · unfold jSub
              simp only [mx3, mx4, mx5, mx6, mx7, Option.bind_some, one_n0, if_false, if_true]
            · unfold nSub
              rw [if_pos (cx3 Ω), if_pos (cx4 Ω), if_pos (cx5 Ω), if_pos (cx6 Ω), cx7 Ω, if_neg (by simp)]
              rfl
        · refine Or.inr ⟨fun M => ?_, fun Ω X => ?_⟩
          · unfold jSub
            simp only [mx3, mx4, mx5, mx6, Option.bind_some, one_n0, if_false, if_true]
          · unfold nSub
            rw [if_pos (cx3 Ω), if_pos (cx4 Ω), if_pos (cx5 Ω), cx6 Ω, if_neg (by simp)]
            rfl
      · refine Or.inr ⟨fun M => ?_, fun Ω X => ?_⟩
        · unfold jSub
          simp only [mx3, mx4, mx5, Option.bind_some, one_n0, if_false, if_true]
        · unfold nSub
          rw [if_pos (cx3 Ω), if_pos (cx4 Ω), cx5 Ω, if_neg (by simp)]
          rfl
    · refine Or.inr ⟨fun M => ?_, fun Ω X => ?_⟩
      · unfold jSub
        simp only [mx3, mx4, Option.bind_some, one_n0, if_false, if_true]
      · unfold nSub
        rw [if_pos (cx3 Ω), cx4 Ω, if_neg (by simp)]
        rfl
  · refine Or.inr ⟨fun M => ?_, fun Ω X => ?_⟩
    · unfold jSub
      simp only [mx3, Option.bind_some, one_n0, if_false, if_true]
    · unfold nSub
      rw [cx3 Ω, if_neg (by simp)]
      rfl

theorem noWait_l {C : XO} {c g : Nat} (hg : fX1_headBlock C c = g) (hw : ∀ t, t < 40 → fX7_waitsBehind C (40 * c + t) g = 0) : ∀ (n k : Nat) (y : Int32), n = 41 - k → k ≤ 40 → fX1_countWaiting_l C c n k y = y
  | 0, k, y, hn, hk => absurd hn (by omega)
  | n + 1, k, y, hn, hk => by
    by_cases q : k = 40
    · subst q
      rw [fX1_countWaiting_l, if_pos (show nI (alen 2003) ≤ nI 40 by decide)]
    · rw [fX1_countWaiting_l, if_neg (show ¬ nI (alen 2003) ≤ nI k from nI_ge (b := 40) (by omega) (by decide)), hg, cl_nI (by omega), if_pos (hw k (by omega)), noWait_l hg hw n (k + 1) y (by omega) (by omega)]
/-- what admitting leaves alone -/
def frC (C C' : XO) : Prop := (∀ f i j, f ≠ 712 → f ≠ 103 → xI C' f i j = xI C f i j) ∧ ∀ f i j, xL C' f i j = xL C f i j
def frM (M M' : XO) : Prop := (∀ f i j, ([2111, 2112, 2113, 2114, 2115, 2116, 2117, 2118, 1106, 2108, 2119] : List Nat).contains f = false → xI M' f i j = xI M f i j) ∧ ∀ f i j, xL M' f i j = xL M f i j
theorem dLink {D : XD} {C M Cx Mx : XO} (hx : RGD D Cx Mx) {c : Nat} (hc : c < 2) (hn : dnt D c < 40) (f1 : ∀ f i j, f ≠ 712 → xI Cx f i j = xI C f i j) (f2 : ∀ f i j, xL Cx f i j = xL C f i j) (f3 : ∀ f i j, f ≠ 2119 → xI Mx f i j = xI M f i j) (f4 : ∀ f i j, xL Mx f i j = xL M f i j) {x4 x5 x6 x7 : Int32} (k4 : xI C 704 (40 * c + dnt D c) 0 = x5) (k6 : xI C 706 (40 * c + dnt D c) 0 = x7) (hb : hTBx C (40 * c + dnt D c)) (hk : hTKx D C M c (40 * c + dnt D c) x4 x6) : xI (uI (uI Cx 712 (40 * c + dnt D c) 0 1) 103 c 0 (xI (uI Cx 712 (40 * c + dnt D c) 0 1) 103 c 0 + 1)) 700 (40 * c + dnt D c) 0 = nI (dnt D c) ∧ uI (uI Cx 712 (40 * c + dnt D c) 0 1) 103 c 0 (xI (uI Cx 712 (40 * c + dnt D c) 0 1) 103 c 0 + 1) = linkC Cx c (dnt D c) ∧ RGD (dPlus D c) (linkC Cx c (dnt D c)) (linkM Mx c (dnt D c) (xI C 701 (40 * c + dnt D c) 0) (xI C 702 (40 * c + dnt D c) 0) x4 x5 x6 x7 (xI C 707 (40 * c + dnt D c) 0) (xI C 708 (40 * c + dnt D c) 0)) ∧ frC C (linkC Cx c (dnt D c)) ∧ frM M (linkM Mx c (dnt D c) (xI C 701 (40 * c + dnt D c) 0) (xI C 702 (40 * c + dnt D c) 0) x4 x5 x6 x7 (xI C 707 (40 * c + dnt D c) 0) (xI C 708 (40 * c + dnt D c) 0)) := by
  obtain ⟨b1, b2, b3⟩ := hx.NT c hc
  refine ⟨?_, ?_, ?_, ⟨fun f i j a1 a2 => ?_, fun f i j => ?_⟩, ⟨fun f i j hf => ?_, fun f i j => ?_⟩⟩
  · rw [I_ne (by decide), I_ne (by decide), hx.TN _ (by omega), show (40 * c + dnt D c) % 40 = dnt D c by omega]
  · unfold linkC
    rw [I_ne (show (103 : Nat) ≠ 712 by decide), b1, nI_1]
  · refine RGD_link hx hc hn (f1 _ _ _ (by decide)) (f1 _ _ _ (by decide)) (by rw [f1 _ _ _ (by decide), k4]) (by rw [f1 _ _ _ (by decide), k6]) (f1 _ _ _ (by decide)) (f1 _ _ _ (by decide)) ?_ ?_
    · unfold hTBx at hb ⊢
      simp only [f1 701 _ _ (by decide), f1 702 _ _ (by decide), f1 704 _ _ (by decide), f1 706 _ _ (by decide), f1 707 _ _ (by decide), f1 708 _ _ (by decide)]
      exact hb
    · unfold hTKx at hk ⊢
      simp only [f1 709 _ _ (by decide), f1 703 _ _ (by decide), f1 704 _ _ (by decide), f1 705 _ _ (by decide), f1 710 _ _ (by decide), f1 711 _ _ (by decide), f3 2113 _ _ (by decide), f3 2114 _ _ (by decide), f3 2115 _ _ (by decide)]
      exact hk
  · unfold linkC
    rw [I_ne a2, I_ne a1, f1 f i j a1]
  · unfold linkC
    rw [L_uI, L_uI, f2]
  · obtain ⟨a1, hf⟩ := nc_ne hf
    obtain ⟨a2, hf⟩ := nc_ne hf
    obtain ⟨a3, hf⟩ := nc_ne hf
    obtain ⟨a4, hf⟩ := nc_ne hf
    obtain ⟨a5, hf⟩ := nc_ne hf
    obtain ⟨a6, hf⟩ := nc_ne hf
    obtain ⟨a7, hf⟩ := nc_ne hf
    obtain ⟨a8, hf⟩ := nc_ne hf
    obtain ⟨a9, hf⟩ := nc_ne hf
    obtain ⟨a10, hf⟩ := nc_ne hf
    obtain ⟨a11, hf⟩ := nc_ne hf
    unfold linkM
    rw [I_ne a10, I_ne a9, I_ne a8, I_ne a7, I_ne a6, I_ne a5, I_ne a4, I_ne a3, I_ne a2, I_ne a1, f3 f i j a11]
  · unfold linkM
    rw [L_uI, L_uI, L_uI, L_uI, L_uI, L_uI, L_uI, L_uI, L_uI, L_uI, f4]
theorem dAdmit {D : XD} {C M : XO} (h : RGD D C M) {c : Nat} (hc : c < 2) (hn : dnt D c < 40) {x4 x5 x6 x7 : Int32} (k4 : xI C 704 (40 * c + dnt D c) 0 = x5) (k6 : xI C 706 (40 * c + dnt D c) 0 = x7) (hb : hTBx C (40 * c + dnt D c)) (hk : hTKx D C M c (40 * c + dnt D c) x4 x6) : ∃ v C' M', fX1_admit C c (40 * c + dnt D c) = (v, C') ∧ fX11_enter M (nI c) (xI C 701 (40 * c + dnt D c) 0) (xI C 702 (40 * c + dnt D c) 0) x4 x5 x6 x7 (xI C 707 (40 * c + dnt D c) 0) (xI C 708 (40 * c + dnt D c) 0) = some (v, M') ∧ frC C C' ∧ frM M M' ∧ ∃ D', RGD D' C' M' := by
  obtain ⟨m, p1, p2, p3, p4⟩ := dHead h hc
  obtain ⟨b1, b2, b3⟩ := h.NT c hc
  have hs := dSize h hc
  have hcl0 : fX1_admit C c (40 * c + dnt D c) = fX1_admit_l c (40 * c + dnt D c) 41 0 0 (24 * c + m) C := by
    unfold fX1_admit
    rw [p3]
    rfl
  have hfu : (xI M 2108 0 (nI c).toNatClampNeg).toNatClampNeg + 1 = dnt D c + 1 := by rw [cl_nI (by omega), b2, cl_nI (by omega)]
  have hlink : ∀ Cx Mx, RGD D Cx Mx → (∀ f i j, f ≠ 712 → xI Cx f i j = xI C f i j) → (∀ f i j, xL Cx f i j = xL C f i j) → (∀ f i j, f ≠ 2119 → xI Mx f i j = xI M f i j) → (∀ f i j, xL Mx f i j = xL M f i j) → _ := fun Cx Mx hx f1 f2 f3 f4 => dLink hx hc hn f1 f2 f3 f4 k4 k6 hb hk
  rcases dScan_l (d := 40 * c + dnt D c) (x4 := x4) (x5 := x5) (x6 := x6) (x7 := x7) h hc p1 41 0 0 (40 * c + dnt D c) 0 (-1) rfl (by decide) ⟨fun _ => rfl, fun _ => rfl⟩ (by decide) (Or.inl ⟨rfl, rfl⟩) with ⟨s1, s2, s3⟩ | ⟨y3, yt, a, y12, s1, s2, s3, s4, s5, s6, s7, s8, s9⟩
  · refine ⟨-1, C, M, by rw [hcl0, s1], ?_, ⟨fun _ _ _ _ _ => rfl, fun _ _ _ => rfl⟩, ⟨fun _ _ _ _ => rfl, fun _ _ _ => rfl⟩, D, h⟩
    have e := s3 (dnt D c + 1) (by rw [Nat.sub_zero])
    unfold fX11_enter
    rw [ob_s p4, hfu]
    have e' : fX11_enter_l16 M (nI m) (nI c) (xI C 701 (40 * c + dnt D c) 0) (xI C 702 (40 * c + dnt D c) 0) x4 x5 x6 x7 (xI C 707 (40 * c + dnt D c) 0) (xI C 708 (40 * c + dnt D c) 0) (dnt D c + 1) (0 : Int32) (-1) (0 : Int32) = some (.inl (-1, M)) := e
    rw [ob_s e']
    rfl
  · have e := s9 (dnt D c + 1) (Nat.zero_le _) (by rw [Nat.sub_zero])
    have e' : fX11_enter_l16 M (nI m) (nI c) (xI C 701 (40 * c + dnt D c) 0) (xI C 702 (40 * c + dnt D c) 0) x4 x5 x6 x7 (xI C 707 (40 * c + dnt D c) 0) (xI C 708 (40 * c + dnt D c) 0) (dnt D c + 1) (0 : Int32) (-1) (0 : Int32) = some (.inr (nI (dnt D c), y12, nI a)) := e
    have hcl1 : fX1_admit C c (40 * c + dnt D c) = fX1_admit_l c (40 * c + dnt D c) 1 40 y3 (24 * c + m) C := by rw [hcl0, s1]
    rw [fX1_admit_l, if_pos (show nI (alen 2003) ≤ nI 40 by decide)] at hcl1
    by_cases ha : a = 0
    · have hy3 := s3.mpr ha
      obtain ⟨-, hnr⟩ := s6 ha
      have hna : nI a = 0 := by rw [ha]; rfl
      rw [if_pos hy3] at hcl1
      by_cases h10 : fX1_countWaiting C c < 10
      · rw [if_pos h10] at hcl1
        obtain ⟨C', r1, r2, r3, r4, -, r6⟩ := dDrop_l (d := 40 * c + dnt D c) (x4 := x4) (x5 := x5) (x6 := x6) (x7 := x7) (x8 := xI C 707 (40 * c + dnt D c) 0) (x9 := xI C 708 (40 * c + dnt D c) 0) hc p1 41 0 C M h rfl (by decide)
        obtain rfl := r4 hnr
        obtain ⟨z, M', t1, t2, t3, t4⟩ := r6 (dnt D c + 1) (Nat.zero_le _) (by rw [Nat.sub_zero])
        obtain ⟨w1, w2, w3, w4, w5⟩ := hlink C' M' t2 (fun _ _ _ _ => rfl) (fun _ _ _ => rfl) t3 t4
        rw [w1, w2] at hcl1
        refine ⟨_, _, _, hcl1, ?_, w4, w5, _, w3⟩
        unfold fX11_enter
        rw [ob_s p4, hfu, ob_s e', Sum.elim_inr]
        dsimp only
        rw [if_pos hna, ob_s hs, if_pos h10]
        have t1' : fX11_enter_l197 (nI m) (nI c) (xI C' 701 (40 * c + dnt D c) 0) (xI C' 702 (40 * c + dnt D c) 0) x4 x5 x6 x7 (xI C' 707 (40 * c + dnt D c) 0) (xI C' 708 (40 * c + dnt D c) 0) (dnt D c + 1) (0 : Int32) M = some (z, M') := t1
        rw [ob_s t1']
        exact eTail hc hn (t2.NT c hc).2.1
      · rw [if_neg h10] at hcl1
        have hth : fX1_throwOutFor C c (40 * c + dnt D c) (24 * c + m) = fX1_throwOutFor_l c (40 * c + dnt D c) (24 * c + m) 1 40 yt C := s2
        rw [fX1_throwOutFor_l, if_pos (show nI (alen 2003) ≤ nI 40 by decide)] at hth
        rcases s5 with ⟨q1, -⟩ | ⟨t, ht, rfl, hw, hp⟩
        · exfalso
          have := noWait_l p3 (fun t ht => (s7 q1).2 t (Nat.zero_le _) ht) 41 0 0 rfl (by decide)
          have e9 : fX1_countWaiting C c = 0 := this
          rw [e9] at h10
          exact h10 (by decide)
        · have tt := (h.TX c hc t ht).2.2.2.2.2
          have hin : inB (nI (40 * c + t)) 80 := inB_nI (by omega) (by decide)
          have hcl : (nI (40 * c + t)).toNatClampNeg = 40 * c + t := cl_nI (by omega)
          by_cases hlow : xI C 708 (40 * c + t) 0 < xI C 708 (40 * c + dnt D c) 0
          · have hyt : yt = 40 * c + t := by
              rcases hp with ⟨-, q⟩ | ⟨q, -⟩
              · exact q
              · rw [ti_lt] at q hlow
                omega
            rw [hyt, if_pos hlow] at hth
            rw [hth, if_neg one_n0] at hcl1
            have hx := RGD_out h hc ht
            obtain ⟨C', r1, r2, r3, r4, -, r6⟩ := dDrop_l (d := 40 * c + dnt D c) (x4 := x4) (x5 := x5) (x6 := x6) (x7 := x7) (x8 := xI C 707 (40 * c + dnt D c) 0) (x9 := xI C 708 (40 * c + dnt D c) 0) hc p1 41 0 _ _ hx rfl (by decide)
            have hC' : C' = uI C 712 (40 * c + t) 0 0 := by
              refine r4 (fun t' g1 g2 g3 => ?_)
              have hw2 : fX7_waitsBehind C (40 * c + t') (24 * c + m) = 1 := by
                unfold fX7_waitsBehind at g3 ⊢
                have e3 : ∀ x, fX0_holds (uI C 712 (40 * c + t) 0 0) (24 * c + m) x = fX0_holds C (24 * c + m) x := fun x => by
                  unfold fX0_holds
                  rw [L_uI]
                rw [e3] at g3
                by_cases q : 40 * c + t' = 40 * c + t
                · have e1 : xI (uI C 712 (40 * c + t) 0 0) 712 (40 * c + t') 0 = 0 := by rw [I_uI, if_pos ⟨rfl, q, rfl⟩]
                  rw [e1, if_pos rfl] at g3
                  exact absurd g3 (by decide)
                · have e1 : xI (uI C 712 (40 * c + t) 0 0) 712 (40 * c + t') 0 = xI C 712 (40 * c + t') 0 := by rw [I_uI, if_neg (fun z => q z.2.1)]
                  rw [e1, I_ne (show (700 : Nat) ≠ 712 by decide)] at g3
                  exact g3
              have hr2 := hnr t' g1 g2 hw2
              unfold fX7_rivals at hr2 ⊢
              rw [I_ne (show (701 : Nat) ≠ 712 by decide), I_ne (show (701 : Nat) ≠ 712 by decide), I_ne (show (702 : Nat) ≠ 712 by decide), I_ne (show (702 : Nat) ≠ 712 by decide)]
              exact hr2
            subst hC'
            obtain ⟨z, M', t1, t2, t3, t4⟩ := r6 (dnt D c + 1) (Nat.zero_le _) (by rw [Nat.sub_zero])
            obtain ⟨w1, w2, w3, w4, w5⟩ := hlink _ M' t2 (fun f i j hf => I_ne hf) (fun _ _ _ => by rw [L_uI]) (fun f i j hf => by rw [t3 f i j hf, I_ne hf]) (fun f i j => by rw [t4, L_uI])
            rw [w1, w2] at hcl1
            refine ⟨_, _, _, hcl1, ?_, w4, w5, _, w3⟩
            unfold fX11_enter
            rw [ob_s p4, hfu, ob_s e', Sum.elim_inr]
            dsimp only
            rw [if_pos hna, ob_s hs, if_neg h10, if_pos hin, hcl, ← tt, if_pos hlow, if_pos hin]
            rw [I_ne (show (701 : Nat) ≠ 712 by decide), I_ne (show (702 : Nat) ≠ 712 by decide)] at t1
            have t1' : fX11_enter_l197 (nI m) (nI c) (xI C 701 (40 * c + dnt D c) 0) (xI C 702 (40 * c + dnt D c) 0) x4 x5 x6 x7 (xI C 707 (40 * c + dnt D c) 0) (xI C 708 (40 * c + dnt D c) 0) (dnt D c + 1) (0 : Int32) (uI M 2119 0 (40 * c + t) 1) = some (z, M') := t1
            have hfu2 : (xI (uI M 2119 0 (40 * c + t) 1) 2108 0 (nI c).toNatClampNeg).toNatClampNeg + 1 = dnt D c + 1 := by rw [I_ne (by decide), hfu]
            rw [wl, hfu2, ob_s t1']
            exact eTail hc hn (t2.NT c hc).2.1
          · have hnl : ¬ xI C 708 yt 0 < xI C 708 (40 * c + dnt D c) 0 := by
              rcases hp with ⟨-, q⟩ | ⟨q, q2⟩
              · rw [q]
                exact hlow
              · rw [q2]
                rw [ti_lt]
                omega
            rw [if_neg hnl] at hth
            rw [hth, if_pos rfl] at hcl1
            refine ⟨_, _, M, hcl1, ?_, ⟨fun _ _ _ _ _ => rfl, fun _ _ _ => rfl⟩, ⟨fun _ _ _ _ => rfl, fun _ _ _ => rfl⟩, D, h⟩
            unfold fX11_enter
            rw [ob_s p4, hfu, ob_s e', Sum.elim_inr]
            dsimp only
            rw [if_pos hna, ob_s hs, if_neg h10, if_pos hin, hcl, ← tt, if_neg hlow]
    · have hy3 : ¬ y3 = 0 := fun z => ha (s3.mp z)
      have hna : ¬ nI a = 0 := nI_ne0 (by omega) (by omega)
      rw [if_neg hy3] at hcl1
      obtain ⟨C', r1, r2, r3, r4, -, r6⟩ := dDrop_l (d := 40 * c + dnt D c) (x4 := x4) (x5 := x5) (x6 := x6) (x7 := x7) (x8 := xI C 707 (40 * c + dnt D c) 0) (x9 := xI C 708 (40 * c + dnt D c) 0) hc p1 41 0 C M h rfl (by decide)
      obtain ⟨z, M', t1, t2, t3, t4⟩ := r6 (dnt D c + 1) (Nat.zero_le _) (by rw [Nat.sub_zero])
      have hdr : fX1_dropRivals C c (40 * c + dnt D c) (24 * c + m) = C' := r1
      obtain ⟨w1, w2, w3, w4, w5⟩ := hlink C' M' t2 r2 r3 t3 t4
      rw [hdr, w1, w2] at hcl1
      refine ⟨_, _, _, hcl1, ?_, w4, w5, _, w3⟩
      unfold fX11_enter
      rw [ob_s p4, hfu, ob_s e', Sum.elim_inr]
      dsimp only
      rw [if_neg hna]
      have t1' : fX11_enter_l197 (nI m) (nI c) (xI C 701 (40 * c + dnt D c) 0) (xI C 702 (40 * c + dnt D c) 0) x4 x5 x6 x7 (xI C 707 (40 * c + dnt D c) 0) (xI C 708 (40 * c + dnt D c) 0) (dnt D c + 1) (0 : Int32) M = some (z, M') := t1
      rw [ob_s t1']
      exact eTail hc hn (t2.NT c hc).2.1
