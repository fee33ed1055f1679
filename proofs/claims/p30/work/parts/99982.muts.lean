/-- one world of a class's and a reference's -/
def jn (C M : XO) : XO := (fun k i j => if cky k = true then xI C k i j else xI M k i j, fun k i j => if ckl k = true then xL C k i j else xL M k i j, C.2.2)
theorem jn_c {C M : XO} {k i j : Nat} (h : cky k = true) : xI (jn C M) k i j = xI C k i j := if_pos h
theorem jn_m {C M : XO} {k i j : Nat} (h : cky k = false) : xI (jn C M) k i j = xI M k i j := if_neg (by rw [h]; decide)
theorem jn_cl {C M : XO} {k i j : Nat} (h : ckl k = true) : xL (jn C M) k i j = xL C k i j := if_pos h
theorem jn_ml {C M : XO} {k i j : Nat} (h : ckl k = false) : xL (jn C M) k i j = xL M k i j := if_neg (by rw [h]; decide)
theorem mk_ck {k : Nat} (h : mky k = true) : cky k = false := by
  have h9 : ([1106, 2100, 2103, 2104, 2105, 2107, 2108, 2109, 2110, 2111, 2112, 2113, 2114, 2115, 2116, 2117, 2118, 2119, 2120, 2121, 2122, 2124, 2125, 2126, 2127, 2128, 2129, 2130, 2131, 2132, 2133, 2134, 2135, 2136, 2137, 2138, 2139] : List Nat).all (fun k => !(cky k)) = true := by decide +kernel
  have h2 := List.all_eq_true.mp h9 k (List.contains_iff_mem.mp h)
  cases e : cky k with
  | false => rfl
  | true => rw [e] at h2; exact absurd h2 (by decide)
theorem ml_cl {k : Nat} (h : mkl k = true) : ckl k = false := by
  have h9 : ([2123] : List Nat).all (fun k => !(ckl k)) = true := by decide +kernel
  have h2 := List.all_eq_true.mp h9 k (List.contains_iff_mem.mp h)
  cases e : ckl k with
  | false => rfl
  | true => rw [e] at h2; exact absurd h2 (by decide)
theorem RGD.jnn {D : XD} {C M : XO} (h : RGD D C M) : RGD D (jn C M) (jn C M) := h.mv (fun k hk _ i j => jn_c hk) (fun k hk _ i j => jn_cl hk) (fun k hk _ i j => jn_m (mk_ck hk)) (fun k hk _ i j => jn_ml (ml_cl hk))
theorem RGD.nj {D : XD} {C M : XO} (h : RGD D (jn C M) (jn C M)) : RGD D C M := h.mv (fun k hk _ i j => (jn_c hk).symm) (fun k hk _ i j => (jn_cl hk).symm) (fun k hk _ i j => (jn_m (mk_ck hk)).symm) (fun k hk _ i j => (jn_ml (ml_cl hk)).symm)
theorem m_admit {D : XD} {C M C1 : XO} (h : RGD D C M) (hx : RX D C) {c : Nat} (hc : c < 2) (hn : dnt D c < 40) (f1 : ∀ f i j, dkL.contains f = false → xI C1 f i j = xI C f i j) (f2 : ∀ f i j, i ≠ 40 * c + dnt D c → xI C1 f i j = xI C f i j) (f3 : ∀ f i j, xL C1 f i j = xL C f i j) {x4 x5 x6 x7 : Int32} (k4 : xI C1 704 (40 * c + dnt D c) 0 = x5) (k6 : xI C1 706 (40 * c + dnt D c) 0 = x7) (hb : hTBx C1 (40 * c + dnt D c)) (hk : hTKx D C1 M c (40 * c + dnt D c) x4 x6) : ∃ v C' D', fX1_admit C1 c (40 * c + dnt D c) = (v, C') ∧ KL C C' ∧ RP D' C' ∧ ((v = -1 ∧ D' = D ∧ SR D C C') ∨ (v = nI (dnt D c) ∧ D' = dPlus D c)) := by
  have h1 := RGD_draft h hc hn f1 f2 f3
  obtain ⟨v, C', M', p1, -, p3, -, p5⟩ := dAdmit2 h1 hc hn k4 k6 hb hk
  have hkl : KL C C' := fun k i j hk => by
    rcases hk with rfl | rfl
    · rw [p3.1 _ _ _ (by decide) (by decide), f1 _ _ _ rfl]
    · rw [p3.1 _ _ _ (by decide) (by decide), f1 _ _ _ rfl]
  rcases p5 with ⟨rfl, rfl⟩ | ⟨rfl, p5⟩
  · exact ⟨_, _, D, p1, hkl, ⟨⟨M, h1⟩, hx.mv (fun i j => f1 _ _ _ rfl) (fun i j => f1 _ _ _ rfl) (fun i j => f1 _ _ _ rfl) (fun i j => f1 _ _ _ rfl)⟩, Or.inl ⟨rfl, rfl, ⟨M, h, h1⟩, fun k i j hk => by rcases hk with rfl | rfl | rfl <;> exact f1 _ _ _ rfl⟩⟩
  · have hx2 : RX D C' := hx.mv (fun i j => by rw [p3.1 _ _ _ (by decide) (by decide), f1 _ _ _ rfl]) (fun i j => by rw [p3.1 _ _ _ (by decide) (by decide), f1 _ _ _ rfl]) (fun i j => by rw [p3.1 _ _ _ (by decide) (by decide), f1 _ _ _ rfl]) (fun i j => by rw [p3.1 _ _ _ (by decide) (by decide), f1 _ _ _ rfl])
    exact ⟨_, _, dPlus D c, p1, hkl, ⟨⟨M', p5⟩, hx2⟩, Or.inr ⟨rfl, rfl⟩⟩
theorem m_submit {D : XD} {C : XO} (hr : RP D C) (x1 x2 x3 x4 x5 x6 x7 x8 x9 : Int32) : ∃ (T : Option Value ⊕ String) (C' : XO) (D' : XD), fX10_submit C 0 x1 x2 x3 x4 x5 x6 x7 x8 x9 = (T, C') ∧ KL C C' ∧ RP D' C' ∧ ((okT T ∧ C' = C ∧ D' = D) ∨ (T = .inl (some (.int (-1))) ∧ D' = D ∧ SR D C C') ∨ (∃ c, c < 2 ∧ x1 = nI c ∧ dnt D c < 40 ∧ T = .inl (some (.int (nI (dnt D c)))) ∧ D' = dPlus D c)) := by
  obtain ⟨⟨M, h⟩, hx⟩ := hr
  rcases dCh C C x1 with ⟨c, hc, rfl, e1, e2, e3⟩ | ⟨e1, e2⟩
  · rcases eIdx (M := M) (x := x2) (n := 6) (by decide) with ⟨⟨s, hs, rfl⟩, m1⟩ | ⟨hj, m1⟩
    · have c1 : eX10_demandIndex C (nI s) 6 = none := cIdx1 (n := 6) hs (by decide)
      obtain ⟨b1, b2, b3⟩ := h.NT c hc
      rcases sJ x3 x4 x5 x6 x7 x8 x9 with ⟨jm, jn, l3a, l3b, l4a, l4b, l5a, l5b, l6a, l6b, l7a, l7b, l8a, l8b, l9a, l9b⟩ | ⟨jm, jn⟩
      · by_cases hn : dnt D c < 40
        · skip
          obtain ⟨n, -, hn9, rfl⟩ := rgN (a := 0) (b := 9) (by decide) l3a l3b (by decide)
          obtain ⟨g, -, hg, rfl⟩ := rgN (a := 0) (b := 23) (by decide) l4a l4b (by decide)
          obtain ⟨vv, -, hvv, rfl⟩ := rgN (a := 0) (b := 10000) (by decide) l5a l5b (by decide)
          obtain ⟨i, -, hi, rfl⟩ := rgN (a := 0) (b := 9999) (by decide) l6a l6b (by decide)
          obtain ⟨gg, hg1, hg2, rfl⟩ := rgN (a := 20) (b := 600) (by decide) l7a l7b (by decide)
          obtain ⟨mm, hm1, hm2, rfl⟩ := rgN (a := 1) (b := 100) (by decide) l8a l8b (by decide)
          obtain ⟨p, -, hp, rfl⟩ := rgN (a := 0) (b := mm) (by omega) l9a l9b (by decide)
          have hdr : fX1_draft C c = 40 * c + dnt D c := by
            unfold fX1_draft fX1_numbered
            rw [b1, if_neg (nI_nlt0 (by omega)), if_neg (show ¬ (40 : Int32) ≤ nI (dnt D c) from nI_ge (b := 40) hn (by decide)), cl_nI (by omega)]
          obtain ⟨C1, hC1⟩ : ∃ C1, C1 = fX7_bid (fX7_order C (40 * c + dnt D c) (nI s) (nI n) (nI g) (nI vv) (nI i) (nI gg)) (40 * c + dnt D c) (nI mm) (nI p) := ⟨_, rfl⟩
          have hC2 := hC1
          unfold fX7_bid fX7_order at hC2
          have f1 : ∀ f i j, dkL.contains f = false → xI C1 f i j = xI C f i j := by
            intro f i j hf
            unfold dkL at hf
            obtain ⟨a1, hf⟩ := nc_ne hf
            obtain ⟨a2, hf⟩ := nc_ne hf
            obtain ⟨a3, hf⟩ := nc_ne hf
            obtain ⟨a4, hf⟩ := nc_ne hf
            obtain ⟨a5, hf⟩ := nc_ne hf
            obtain ⟨a6, hf⟩ := nc_ne hf
            obtain ⟨a7, hf⟩ := nc_ne hf
            obtain ⟨a8, hf⟩ := nc_ne hf
            obtain ⟨a9, hf⟩ := nc_ne hf
            rw [hC2, I_ne a8, I_ne a7, I_ne a9, I_ne a6, I_ne a5, I_ne a4, I_ne a3, I_ne a2, I_ne a1]
          have f2 : ∀ f i j, i ≠ 40 * c + dnt D c → xI C1 f i j = xI C f i j := by
            intro f i j hi'
            have u : ∀ (W : XO) (k : Nat) (v : Int32), xI (uI W k (40 * c + dnt D c) 0 v) f i j = xI W f i j := fun W k v => by rw [I_uI, if_neg (fun z => hi' z.2.1)]
            rw [hC2, u, u, u, u, u, u, u, u, u]
          have f3 : ∀ f i j, xL C1 f i j = xL C f i j := fun f i j => by
            rw [hC2, L_uI, L_uI, L_uI, L_uI, L_uI, L_uI, L_uI, L_uI, L_uI]
          have k1 : xI C1 701 (40 * c + dnt D c) 0 = nI s := by rw [hC2, I_ne (by decide), I_ne (by decide), I_ne (by decide), I_ne (by decide), I_ne (by decide), I_ne (by decide), I_ne (by decide), I_ne (by decide), I_uI, if_pos ⟨rfl, rfl, rfl⟩]
          have k2 : xI C1 702 (40 * c + dnt D c) 0 = nI n := by rw [hC2, I_ne (by decide), I_ne (by decide), I_ne (by decide), I_ne (by decide), I_ne (by decide), I_ne (by decide), I_ne (by decide), I_uI, if_pos ⟨rfl, rfl, rfl⟩]
          have k3 : xI C1 703 (40 * c + dnt D c) 0 = nI g := by rw [hC2, I_ne (by decide), I_ne (by decide), I_ne (by decide), I_ne (by decide), I_ne (by decide), I_ne (by decide), I_uI, if_pos ⟨rfl, rfl, rfl⟩]
          have k4 : xI C1 704 (40 * c + dnt D c) 0 = nI vv := by rw [hC2, I_ne (by decide), I_ne (by decide), I_ne (by decide), I_ne (by decide), I_ne (by decide), I_uI, if_pos ⟨rfl, rfl, rfl⟩]
          have k5 : xI C1 705 (40 * c + dnt D c) 0 = nI i := by rw [hC2, I_ne (by decide), I_ne (by decide), I_ne (by decide), I_ne (by decide), I_uI, if_pos ⟨rfl, rfl, rfl⟩]
          have k6 : xI C1 706 (40 * c + dnt D c) 0 = nI gg := by rw [hC2, I_ne (by decide), I_ne (by decide), I_ne (by decide), I_uI, if_pos ⟨rfl, rfl, rfl⟩]
          have k9 : xI C1 709 (40 * c + dnt D c) 0 = -1 := by rw [hC2, I_ne (by decide), I_ne (by decide), I_uI, if_pos ⟨rfl, rfl, rfl⟩]
          have k7 : xI C1 707 (40 * c + dnt D c) 0 = nI mm := by rw [hC2, I_ne (by decide), I_uI, if_pos ⟨rfl, rfl, rfl⟩]
          have k8 : xI C1 708 (40 * c + dnt D c) 0 = nI p := by rw [hC2, I_uI, if_pos ⟨rfl, rfl, rfl⟩]
          obtain ⟨v, C', D', q1, q2, q3, q4⟩ := m_admit h hx hc hn f1 f2 f3 (x4 := nI g) (x6 := nI i) k4 k6 ⟨s, n, vv, gg, mm, p, k1, hs, k2, hn9, k4, hvv, k6, hg1, hg2, k7, hm1, hm2, k8, hp⟩ (Or.inl ⟨k9, g, i, by omega, hi, k3, rfl, k5, rfl⟩)
          refine ⟨.inl (some (.int v)), C', D', ?_, q2, q3, ?_⟩
          · rw [cSub_eq, if_pos e2, if_pos c1, jn]
            unfold oSub
            rw [e3, b1, if_neg (show ¬ (40 : Int32) ≤ nI (dnt D c) from nI_ge (b := 40) hn (by decide)), hdr, ← hC1, q1]
          · rcases q4 with ⟨rfl, r2, r3⟩ | ⟨rfl, r2⟩
            · exact Or.inr (Or.inl ⟨rfl, r2, r3⟩)
            · exact Or.inr (Or.inr ⟨c, hc, rfl, hn, rfl, r2⟩)
        · have hn40 : dnt D c = 40 := by omega
          refine ⟨.inr xIS, C, D, ?_, KL.rf C, ⟨⟨M, h⟩, hx⟩, Or.inl ⟨Or.inr (Or.inr rfl), rfl, rfl⟩⟩
          rw [cSub_eq, if_pos e2, if_pos c1, jn]
          unfold oSub
          rw [e3, b1, hn40, if_pos (show (40 : Int32) ≤ nI 40 by decide)]
          rfl
      · refine ⟨.inr xIA, C, D, ?_, KL.rf C, ⟨⟨M, h⟩, hx⟩, Or.inl ⟨Or.inr (Or.inl rfl), rfl, rfl⟩⟩
        rw [cSub_eq, if_pos e2, if_pos c1, jn]
    · refine ⟨.inr xIO, C, D, ?_, KL.rf C, ⟨⟨M, h⟩, hx⟩, Or.inl ⟨Or.inl rfl, rfl, rfl⟩⟩
      rw [cSub_eq, if_pos e2, show eX10_demandIndex C x2 6 = some xIO from cIdx0 (y := nI 6) hj, if_neg (by simp)]
      rfl
  · refine ⟨.inr xIO, C, D, ?_, KL.rf C, ⟨⟨M, h⟩, hx⟩, Or.inl ⟨Or.inl rfl, rfl, rfl⟩⟩
    rw [cSub_eq, e2, if_neg (by simp)]
    rfl
theorem m_claim {D : XD} {C : XO} (hr : RP D C) (x1 x2 x3 x4 x5 x6 : Int32) : ∃ (T : Option Value ⊕ String) (C' : XO) (D' : XD), fX10_claim C 0 x1 x2 x3 x4 x5 x6 = (T, C') ∧ KL C C' ∧ RP D' C' ∧ ((okT T ∧ C' = C ∧ D' = D) ∨ (T = .inl (some (.int (-1))) ∧ D' = D ∧ SR D C C') ∨ (∃ c, c < 2 ∧ x1 = nI c ∧ dnt D c < 40 ∧ T = .inl (some (.int (nI (dnt D c)))) ∧ D' = dPlus D c)) := by
  obtain ⟨⟨M, h⟩, hx⟩ := hr
  have hno : ∀ T, okT T → fX10_claim C 0 x1 x2 x3 x4 x5 x6 = (T, C) → ∃ (T : Option Value ⊕ String) (C' : XO) (D' : XD), fX10_claim C 0 x1 x2 x3 x4 x5 x6 = (T, C') ∧ KL C C' ∧ RP D' C' ∧ ((okT T ∧ C' = C ∧ D' = D) ∨ (T = .inl (some (.int (-1))) ∧ D' = D ∧ SR D C C') ∨ (∃ c, c < 2 ∧ x1 = nI c ∧ dnt D c < 40 ∧ T = .inl (some (.int (nI (dnt D c)))) ∧ D' = dPlus D c)) := fun T hT e => ⟨T, C, D, e, KL.rf C, ⟨⟨M, h⟩, hx⟩, Or.inl ⟨hT, rfl, rfl⟩⟩
  rcases dCh C C x1 with ⟨c, hc, rfl, e1, e2, e3⟩ | ⟨e1, e2⟩
  · obtain ⟨b1, b2, b3⟩ := h.NT c hc
    have hc' : 1 - c < 2 := by omega
    obtain ⟨b1', b2', b3'⟩ := h.NT (1 - c) hc'
    have e2' : eX10_demandChain C 0 ((1 : Int32) - nI c) = none := by rw [oth hc]; exact (cChain1 hc').1
    have e3' : rX10_demandChain C 0 ((1 : Int32) - nI c) = 1 - c := by rw [oth hc]; exact (cChain1 hc').2
    rcases eTx (M := M) hc' b2' b3' x4 with ⟨⟨k, hk, rfl⟩, t1⟩ | ⟨hj4, t1⟩
    · have c4 : eX10_demandIndex C (nI k) (nI (dnt D (1 - c))) = none := cIdx1 hk (by omega)
      rcases eIdx (M := M) (x := x2) (n := 6) (by decide) with ⟨⟨s, hs, rfl⟩, m1⟩ | ⟨hj, m1⟩
      · have c2 : eX10_demandIndex C (nI s) 6 = none := cIdx1 (n := 6) hs (by decide)
        have hq : 40 * (1 - c) + k < 80 := by omega
        have hnum : fX1_numbered C (1 - c) (nI k) = 40 * (1 - c) + k := by
          unfold fX1_numbered
          rw [if_neg (nI_nlt0 (by omega)), if_neg (show ¬ (40 : Int32) ≤ nI k from nI_ge (b := 40) (by omega) (by decide)), cl_nI (by omega)]
        obtain ⟨fn1, fn2, fn3⟩ := h.FN (1 - c) hc'
        have hcls : fX10_claim C 0 (nI c) (nI s) x3 (nI k) x5 x6 = nClm C x3 x5 x6 (oClm C 0 (nI c) (nI s) x3 (nI k) x5 x6) := by
          rw [cClm_eq, if_pos e2, if_pos e2', e3', b1', if_pos c4, if_pos c2]
        rcases sC x3 x5 x6 with ⟨jm, jn, l3a, l3b, l5a, l5b, l6a, l6b⟩ | ⟨jm, jn⟩
        · by_cases hlk : fX7_isLock C (40 * (1 - c) + k) = 0
          · refine hno (.inr xIA) (Or.inr (Or.inl rfl)) ?_
            rw [hcls, jn]
            unfold oClm eX10_demandArgument
            rw [e3', hnum, if_pos hlk, if_neg (by simp)]
            rfl
          · have hda : eX10_demandArgument C (fX7_isLock C (fX1_numbered C (1 - c) (nI k))) = none := by
              unfold eX10_demandArgument
              rw [hnum, if_neg hlk]
            by_cases hr0 : fX0_holds C (24 * (1 - c) + dfn D (1 - c)) (nI k) = 0
            · refine hno (.inr xIS) (Or.inr (Or.inr rfl)) ?_
              rw [hcls, jn]
              unfold oClm
              rw [e3', if_pos hda, lF_I h hc', hr0]
              unfold eX10_demandState
              rw [if_pos rfl, if_neg (by simp)]
              rfl
            · have hds : eX10_demandState C (fX0_holds C (fX1_lastFinalBlock C (1 - c)) (nI k)) = none := by
                unfold eX10_demandState
                rw [lF_I h hc', if_neg hr0]
              by_cases hn : dnt D c < 40
              · skip
                obtain ⟨n, -, hn9, rfl⟩ := rgN (a := 0) (b := 9) (by decide) l3a l3b (by decide)
                obtain ⟨mm, hm1, hm2, rfl⟩ := rgN (a := 1) (b := 100) (by decide) l5a l5b (by decide)
                obtain ⟨p, -, hp, rfl⟩ := rgN (a := 0) (b := mm) (by omega) l6a l6b (by decide)
                have hdr : fX1_draft C c = 40 * c + dnt D c := by
                  unfold fX1_draft fX1_numbered
                  rw [b1, if_neg (nI_nlt0 (by omega)), if_neg (show ¬ (40 : Int32) ≤ nI (dnt D c) from nI_ge (b := 40) hn (by decide)), cl_nI (by omega)]
                have hqd : 40 * (1 - c) + k ≠ 40 * c + dnt D c := idx_ne hc hc' (by omega) hn (fun z => by omega)
                obtain ⟨B, hB⟩ : ∃ B, B = fX7_bid (fX7_order C (40 * c + dnt D c) (nI s) (nI n) 15 0 0 60) (40 * c + dnt D c) (nI mm) (nI p) := ⟨_, rfl⟩
                obtain ⟨C1, hC1⟩ : ∃ C1, C1 = fX7_nameLock B (40 * c + dnt D c) (40 * (1 - c) + k) := ⟨_, rfl⟩
                have hB2 := hB
                unfold fX7_bid fX7_order at hB2
                have Bo : ∀ f i j, i ≠ 40 * c + dnt D c → xI B f i j = xI C f i j := by
                  intro f i j hi'
                  have u : ∀ (W : XO) (k' : Nat) (v : Int32), xI (uI W k' (40 * c + dnt D c) 0 v) f i j = xI W f i j := fun W k' v => by rw [I_uI, if_neg (fun z => hi' z.2.1)]
                  rw [hB2, u, u, u, u, u, u, u, u, u]
                have hC2 : C1 = uI (uI (uI B 709 (40 * c + dnt D c) 0 (xI C 700 (40 * (1 - c) + k) 0)) 710 (40 * c + dnt D c) 0 (xI C 704 (40 * (1 - c) + k) 0)) 711 (40 * c + dnt D c) 0 (xI C 705 (40 * (1 - c) + k) 0 - xI C 705 (40 * (1 - c) + k) 0 / 6 * 6) := by
                  rw [hC1]
                  unfold fX7_nameLock
                  have u5 : ∀ v w, xI (uI (uI B 709 (40 * c + dnt D c) 0 v) 710 (40 * c + dnt D c) 0 w) 705 (40 * (1 - c) + k) 0 = xI C 705 (40 * (1 - c) + k) 0 := fun v w => by rw [I_ne (by decide), I_ne (by decide), Bo _ _ _ hqd]
                  have u4 : ∀ v, xI (uI B 709 (40 * c + dnt D c) 0 v) 704 (40 * (1 - c) + k) 0 = xI C 704 (40 * (1 - c) + k) 0 := fun v => by rw [I_ne (by decide), Bo _ _ _ hqd]
                  rw [Bo 700 _ _ hqd, u4, u5]
                have f1 : ∀ f i j, dkL.contains f = false → xI C1 f i j = xI C f i j := by
                  intro f i j hf
                  unfold dkL at hf
                  obtain ⟨a1, hf⟩ := nc_ne hf
                  obtain ⟨a2, hf⟩ := nc_ne hf
                  obtain ⟨a3, hf⟩ := nc_ne hf
                  obtain ⟨a4, hf⟩ := nc_ne hf
                  obtain ⟨a5, hf⟩ := nc_ne hf
                  obtain ⟨a6, hf⟩ := nc_ne hf
                  obtain ⟨a7, hf⟩ := nc_ne hf
                  obtain ⟨a8, hf⟩ := nc_ne hf
                  obtain ⟨a9, hf⟩ := nc_ne hf
                  obtain ⟨a10, hf⟩ := nc_ne hf
                  obtain ⟨a11, hf⟩ := nc_ne hf
                  rw [hC2, I_ne a11, I_ne a10, I_ne a9, hB2, I_ne a8, I_ne a7, I_ne a9, I_ne a6, I_ne a5, I_ne a4, I_ne a3, I_ne a2, I_ne a1]
                have f2 : ∀ f i j, i ≠ 40 * c + dnt D c → xI C1 f i j = xI C f i j := by
                  intro f i j hi'
                  have u : ∀ (W : XO) (k' : Nat) (v : Int32), xI (uI W k' (40 * c + dnt D c) 0 v) f i j = xI W f i j := fun W k' v => by rw [I_uI, if_neg (fun z => hi' z.2.1)]
                  rw [hC2, u, u, u, Bo f i j hi']
                have f3 : ∀ f i j, xL C1 f i j = xL C f i j := fun f i j => by
                  rw [hC2, L_uI, L_uI, L_uI, hB2, L_uI, L_uI, L_uI, L_uI, L_uI, L_uI, L_uI, L_uI, L_uI]
                have k1 : xI C1 701 (40 * c + dnt D c) 0 = nI s := by rw [hC2, I_ne (by decide), I_ne (by decide), I_ne (by decide), hB2, I_ne (by decide), I_ne (by decide), I_ne (by decide), I_ne (by decide), I_ne (by decide), I_ne (by decide), I_ne (by decide), I_ne (by decide), I_uI, if_pos ⟨rfl, rfl, rfl⟩]
                have k2 : xI C1 702 (40 * c + dnt D c) 0 = nI n := by rw [hC2, I_ne (by decide), I_ne (by decide), I_ne (by decide), hB2, I_ne (by decide), I_ne (by decide), I_ne (by decide), I_ne (by decide), I_ne (by decide), I_ne (by decide), I_ne (by decide), I_uI, if_pos ⟨rfl, rfl, rfl⟩]
                have k3 : xI C1 703 (40 * c + dnt D c) 0 = nI 15 := by rw [hC2, I_ne (by decide), I_ne (by decide), I_ne (by decide), hB2, I_ne (by decide), I_ne (by decide), I_ne (by decide), I_ne (by decide), I_ne (by decide), I_ne (by decide), I_uI, if_pos ⟨rfl, rfl, rfl⟩]; rfl
                have k4 : xI C1 704 (40 * c + dnt D c) 0 = 0 := by rw [hC2, I_ne (by decide), I_ne (by decide), I_ne (by decide), hB2, I_ne (by decide), I_ne (by decide), I_ne (by decide), I_ne (by decide), I_ne (by decide), I_uI, if_pos ⟨rfl, rfl, rfl⟩]
                have k5 : xI C1 705 (40 * c + dnt D c) 0 = 0 := by rw [hC2, I_ne (by decide), I_ne (by decide), I_ne (by decide), hB2, I_ne (by decide), I_ne (by decide), I_ne (by decide), I_ne (by decide), I_uI, if_pos ⟨rfl, rfl, rfl⟩]
                have k6 : xI C1 706 (40 * c + dnt D c) 0 = 60 := by rw [hC2, I_ne (by decide), I_ne (by decide), I_ne (by decide), hB2, I_ne (by decide), I_ne (by decide), I_ne (by decide), I_uI, if_pos ⟨rfl, rfl, rfl⟩]
                have k7 : xI C1 707 (40 * c + dnt D c) 0 = nI mm := by rw [hC2, I_ne (by decide), I_ne (by decide), I_ne (by decide), hB2, I_ne (by decide), I_uI, if_pos ⟨rfl, rfl, rfl⟩]
                have k8 : xI C1 708 (40 * c + dnt D c) 0 = nI p := by rw [hC2, I_ne (by decide), I_ne (by decide), I_ne (by decide), hB2, I_uI, if_pos ⟨rfl, rfl, rfl⟩]
                have k9 : xI C1 709 (40 * c + dnt D c) 0 = nI k := by rw [hC2, I_ne (by decide), I_ne (by decide), I_uI, if_pos ⟨rfl, rfl, rfl⟩, h.TN _ hq, show (40 * (1 - c) + k) % 40 = k by omega]
                have k10 : xI C1 710 (40 * c + dnt D c) 0 = xI C 704 (40 * (1 - c) + k) 0 := by rw [hC2, I_ne (by decide), I_uI, if_pos ⟨rfl, rfl, rfl⟩]
                have k11 : xI C1 711 (40 * c + dnt D c) 0 = xI C 705 (40 * (1 - c) + k) 0 - xI C 705 (40 * (1 - c) + k) 0 / 6 * 6 := by rw [hC2, I_uI, if_pos ⟨rfl, rfl, rfl⟩]
                have t4 := (h.TX (1 - c) hc' k hk).2.2.1
                have hTK : hTKx D C1 M c (40 * c + dnt D c) 24 (nI k) := by
                  refine Or.inr ⟨k, hk, k9, k3, k5, k4, rfl, rfl, by rw [k10, t4], ?_⟩
                  rcases h.TK (1 - c) hc' k hk with ⟨-, g, i, hg, hi, o1, o2, o3, o4⟩ | ⟨k', -, -, o1, -, o2, o3, -⟩
                  · have hg15 : g = 15 := by
                      unfold fX7_isLock at hlk
                      by_cases z : xI C 703 (40 * (1 - c) + k) 0 = 15
                      · rw [o1] at z
                        exact (nI_eq (b := 15) (by omega) (by decide)).mp z
                      · rw [if_neg z] at hlk
                        exact absurd rfl hlk
                    refine ⟨by rw [o2, hg15], i, o4, hi, ?_⟩
                    rw [k11, o3, rem6 hi]
                  · exfalso
                    unfold fX7_isLock at hlk
                    rw [o1, o2, if_pos (show nI 15 = 15 from rfl), if_pos (show (0 : Int32) ≤ 0 by decide)] at hlk
                    exact hlk rfl
                obtain ⟨v, C', D', q1, q2, q3, q4⟩ := m_admit h hx hc hn f1 f2 f3 (x4 := 24) (x6 := nI k) k4 k6 ⟨s, n, 0, 60, mm, p, k1, hs, k2, hn9, k4, by decide, k6, by decide, by decide, k7, hm1, hm2, k8, hp⟩ hTK
                refine ⟨.inl (some (.int v)), C', D', ?_, q2, q3, ?_⟩
                · rw [hcls, jn]
                  unfold oClm
                  rw [e3', if_pos hda, if_pos hds, e3, b1, if_neg (show ¬ (40 : Int32) ≤ nI (dnt D c) from nI_ge (b := 40) hn (by decide)), hdr, hnum, ← hB, ← hC1, q1]
                · rcases q4 with ⟨rfl, r2, r3⟩ | ⟨rfl, r2⟩
                  · exact Or.inr (Or.inl ⟨rfl, r2, r3⟩)
                  · exact Or.inr (Or.inr ⟨c, hc, rfl, hn, rfl, r2⟩)
              · have hn40 : dnt D c = 40 := by omega
                refine hno (.inr xIS) (Or.inr (Or.inr rfl)) ?_
                rw [hcls, jn]
                unfold oClm
                rw [e3', if_pos hda, if_pos hds, e3, b1, hn40, if_pos (show (40 : Int32) ≤ nI 40 by decide)]
                rfl
        · refine hno (.inr xIA) (Or.inr (Or.inl rfl)) ?_
          rw [hcls, jn]
      · refine hno (.inr xIO) (Or.inl rfl) ?_
        rw [cClm_eq, if_pos e2, if_pos e2', e3', b1', if_pos c4, show eX10_demandIndex C x2 6 = some xIO from cIdx0 (y := nI 6) hj, if_neg (by simp)]
        rfl
    · refine hno (.inr xIO) (Or.inl rfl) ?_
      rw [cClm_eq, if_pos e2, if_pos e2', e3', b1', cIdx0 hj4, if_neg (by simp)]
      rfl
  · refine hno (.inr xIO) (Or.inl rfl) ?_
    rw [cClm_eq, e2, if_neg (by simp)]
    rfl
theorem m_make {D : XD} {C : XO} (hr : RP D C) (x1 x2 x3 x4 : Int32) : ∃ (T : Option Value ⊕ String) (C' : XO) (D' : XD), fX10_make C x1 x2 x3 x4 = some (T, C') ∧ KL C C' ∧ RP D' C' ∧ ((okT T ∧ C' = C ∧ D' = D) ∨ (∃ c p, c < 2 ∧ x1 = nI c ∧ p < dnb D c ∧ dnb D c < 24 ∧ T = .inl (some (.int (nI (dnb D c)))) ∧ D' = mkD D c p)) := by
  obtain ⟨⟨M, h⟩, hx⟩ := hr
  have hno : ∀ T, okT T → fX10_make C x1 x2 x3 x4 = some (T, C) → ∃ (T : Option Value ⊕ String) (C' : XO) (D' : XD), fX10_make C x1 x2 x3 x4 = some (T, C') ∧ KL C C' ∧ RP D' C' ∧ ((okT T ∧ C' = C ∧ D' = D) ∨ (∃ c p, c < 2 ∧ x1 = nI c ∧ p < dnb D c ∧ dnb D c < 24 ∧ T = .inl (some (.int (nI (dnb D c)))) ∧ D' = mkD D c p)) := fun T hT e => ⟨T, C, D, e, KL.rf C, ⟨⟨M, h⟩, hx⟩, Or.inl ⟨hT, rfl, rfl⟩⟩
  rcases dBlk h.NB x1 x2 with ⟨c, p, hc, hp, rfl, rfl, s1, s2, s3⟩ | ⟨s1, s2⟩
  · obtain ⟨c2, c3⟩ := cChain1 (Ω := C) hc
    obtain ⟨nb1, nb2, nb3, nb4⟩ := h.NB c hc
    rcases eIdx (M := M) (x := x3) (n := 6) (by decide) with ⟨⟨pr, hpr, rfl⟩, m1⟩ | ⟨hj, m1⟩
    · have i2 : eX10_demandIndex C (nI pr) 6 = none := cIdx1 (n := 6) hpr (by decide)
      rcases dRng2 x4 1 9 with ⟨w1, w2, -, w4⟩ | ⟨-, w4⟩
      · obtain ⟨wt, -, hw9, rfl⟩ := rgN (a := 1) (b := 9) (by decide) w1 w2 (by decide)
        by_cases hn : dnb D c < 24
        · by_cases hd : xI C 13 (24 * c + p) 0 = 0
          · obtain ⟨C5, M5, g1, -, g3, cA, -, lA, -, -, ⟨u, u1, u2⟩, cB⟩ := dMakeAll2 h hc hn hp hpr hw9
            have dn : ∀ c', dnb (mkD D c p) c' = if c' = c then dnb D c + 1 else dnb D c' := fun _ => rfl
            have df : ∀ c', dfn (mkD D c p) c' = dfn D c' := fun _ => rfl
            have nb4' : ∀ c', c' < 2 → dnb D c' ≤ 24 := fun c' hc' => (h.NB c' hc').2.2.2
            have fn' : ∀ c', c' < 2 → dfn D c' < dnb D c' := fun c' hc' => (h.FN c' hc').2.2
            have old : ∀ k c' b, c' < 2 → b < dnb D c' → k ≠ 101 → scr k = false → xI C5 k (24 * c' + b) 0 = xI C k (24 * c' + b) 0 := fun k c' b hc' hb hk hs => cB k _ 0 (by have := nb4' c' hc'; omega) (by
              have := nb4' c' hc'
              by_cases z : c' = c
              · rw [z] at hb ⊢; omega
              · omega) hk hs
            refine ⟨.inl (some (.int (nI (dnb D c)))), C5, mkD D c p, ?_, fun k i j hk => ?_, ⟨⟨M5, g3⟩, fun c' hc' b hb => ?_, fun c' hc' => ?_, fun c' hc' b hb h13 => ?_⟩, Or.inr ⟨c, p, hc, rfl, hp, hn, rfl, rfl⟩⟩
            · unfold fX10_make
              rw [if_pos c2, if_pos s2, if_pos i2, if_pos (w4 C), c3, s3, nb1, if_neg (show ¬ (24 : Int32) ≤ nI (dnb D c) from nI_ge (b := 24) hn (by decide)), if_pos hd, g1, Option.bind_some]
            · rcases hk with rfl | rfl
              · exact cA 2017 rfl rfl i j
              · exact cA 2018 rfl rfl i j
            · rw [dn] at hb
              by_cases z : c' = c
              · rw [if_pos z] at hb
                subst z
                by_cases z2 : b = dnb D c'
                · rw [z2]
                  exact ⟨u, u1, u2⟩
                · rw [old 6 c' b hc' (by omega) (by decide) rfl]
                  exact hx.1 c' hc' b (by omega)
              · rw [if_neg z] at hb
                rw [old 6 c' b hc' hb (by decide) rfl]
                exact hx.1 c' hc' b hb
            · rw [df, cA 14 rfl rfl]
              exact hx.2.1 c' hc'
            · rw [dn] at hb
              rw [cA 13 rfl rfl] at h13
              have hb2 : b < dnb D c' := by
                by_cases z : c' = c
                · rw [if_pos z] at hb
                  subst z
                  by_cases z2 : b = dnb D c'
                  · have := ((h.RC c' hc' b (by omega)).2 (by omega)).2.2.2.2.1
                    rw [this] at h13
                    exact absurd h13 (by decide)
                  · omega
                · rw [if_neg z] at hb
                  exact hb
              rw [df, old 2 c' b hc' hb2 (by decide) rfl, old 2 c' (dfn D c') hc' (fn' c' hc') (by decide) rfl]
              exact hx.2.2 c' hc' b hb2 h13
          · refine hno (.inr xIS) (Or.inr (Or.inr rfl)) ?_
            unfold fX10_make
            rw [if_pos c2, if_pos s2, if_pos i2, if_pos (w4 C), c3, s3, nb1, if_neg (show ¬ (24 : Int32) ≤ nI (dnb D c) from nI_ge (b := 24) hn (by decide)), if_neg hd]
            rfl
        · refine hno (.inr xIS) (Or.inr (Or.inr rfl)) ?_
          have hn24 : dnb D c = 24 := by omega
          unfold fX10_make
          rw [if_pos c2, if_pos s2, if_pos i2, if_pos (w4 C), c3, s3, nb1, hn24, if_pos (show (24 : Int32) ≤ nI 24 by decide)]
          rfl
      · refine hno (.inr xIA) (Or.inr (Or.inl rfl)) ?_
        unfold fX10_make
        rw [if_pos c2, if_pos s2, if_pos i2, w4 C, if_neg (by simp)]
        rfl
    · refine hno (.inr xIO) (Or.inl rfl) ?_
      unfold fX10_make
      rw [if_pos c2, if_pos s2, show eX10_demandIndex C x3 6 = some xIO from cIdx0 (y := nI 6) hj, if_neg (by simp)]
      rfl
  · refine hno (.inr xIO) (Or.inl rfl) ?_
    rcases dCh C C x1 with ⟨c, hc, rfl, e1, e2, e3⟩ | ⟨e1, e2⟩
    · unfold fX10_make
      rw [if_pos e2, s2, if_neg (by simp)]
      rfl
    · unfold fX10_make
      rw [e2, if_neg (by simp)]
      rfl
