/-- the same run with other bounds -/
def rp (P : XP) (T N L : Nat) : XP := (pb P, pk P, pc P, T, N, L, pC P, pM P)
theorem MS0.repar {P : XP} {e q s : Nat} {C M : XO} (h : MS0 P 0 e q s C M) {T N L q' s' e' : Nat} (hT : T ≤ 80000) (hN : N ≤ 1000000) (hL : L ≤ 800) (hs : s' ≤ 600) (ec : ∃ n, xI M 2130 0 (pk P) = nI n ∧ 20 * n + q' ≤ L) (rb : ∃ n, xI M 1154 0 0 = nI n ∧ n + 3 * q' ≤ 1800) : MS0 (rp P T N L) 0 e' q' s' C M :=
  ⟨⟨h.ZP.1, h.ZP.2.1, h.ZP.2.2.1, hT, hN, hL⟩, h.LN, fun i hi => absurd hi (by omega), fun i hi => absurd hi (by omega), h.EV, h.PD, h.RF, h.ST, h.PR, fun i hi => absurd hi (by omega), fun i hi => absurd hi (by omega), fun i hi => absurd hi (by omega), fun i hi => absurd hi (by omega), fun i hi => absurd hi (by omega), ⟨fun _ => 0, fun i hi => absurd hi (by omega), Nat.zero_le _, hs⟩, ⟨ec, fun i hi => absurd hi (by omega)⟩, ⟨rb, fun i hi => absurd hi (by omega)⟩, h.FA, h.FB, h.FL, h.FM⟩
theorem MS.scrC {P : XP} {d e q s : Nat} {C M : XO} (h : MS P d e q s C M) (k : Nat) (hk : k = 407 ∨ k = 408) (v : Int32) : MS P d e q s (uI C k 0 0 v) M := by
  have hne : ∀ x, x ≠ 407 → x ≠ 408 → x ≠ k := fun x a1 a2 => by rcases hk with rfl | rfl; exact a1; exact a2
  refine ⟨h.1.stScr (fun x hx i j => ?_) (fun x i j => by rw [L_uI]) (fun _ _ _ _ => rfl) (fun _ _ _ => rfl) (fun _ _ => rfl) (sFA_up h.1.FA (M' := M) (by rcases hk with rfl | rfl <;> rfl) _) h.1.FB, h.2⟩
  obtain ⟨a1, hx⟩ := nc_ne hx
  obtain ⟨a2, -⟩ := nc_ne hx
  exact I_ne (hne _ a1 a2)
/-- a transaction's start: number up, gas paid ahead -/
theorem MS.start {P : XP} {C M : XO} (h : MS P 0 0 0 0 C M) {sd ga p nn co ec : Nat} (hsd : sd < 16) (hga : 20 ≤ ga) (hga2 : ga ≤ 600) (hnn : xI M 2101 0 (16 + sd) = nI nn) (hnn2 : nn ≤ 1000000) (hco : xI M 2101 0 sd = nI co) (hco2 : co ≤ 80000) (hp : ga * p ≤ co) (hec : xI M 2130 0 (pk P) = nI ec) (hec2 : 16 * ec + ga ≤ 600) (hN : pN P + 601 ≤ 1000000) : MS (rp P (pT P - ga * p) (pN P + 601) (20 * ec + (ga - 19))) 0 0 (ga - 19) (ga - 20) (uI (uI (uI (uI C 2012 (pb P) sd (nI (nn + 1))) 2011 (pb P) sd (nI (co - ga * p))) 406 0 0 0) 310 0 0 (nI (ga - 20))) (uI (uI (uI M 2101 0 (16 + sd) (nI (nn + 1))) 2101 0 sd (nI (co - ga * p))) 1154 0 0 0) := by
  have hb := h.1.ZP.1
  have hT := h.1.ZP.2.2.2.1
  have h1 := (h.1.wII hsd (v := nI (nn + 1)) (nI_ne0 (by omega) (by omega))).wI hsd (nI (co - ga * p))
  have h2 : MS0 P 0 0 0 0 (uI (uI (uI C 2012 (pb P) sd (nI (nn + 1))) 2011 (pb P) sd (nI (co - ga * p))) 406 0 0 0) (uI (uI (uI M 2101 0 (16 + sd) (nI (nn + 1))) 2101 0 sd (nI (co - ga * p))) 1154 0 0 0) := by
    refine h1.stBack (fun k hk i j => I_ne (nc_ne hk).1) (fun k i j => by rw [L_uI]) (fun k hk i j => I_ne (nc_ne hk).1) (fun k i j => by rw [L_uI]) (fun _ _ => rfl) (h1.LN.up hb ph_406 _) ⟨⟨0, by rw [I_uI, if_pos ⟨rfl, rfl, rfl⟩]; rfl, by omega⟩, fun i hi => absurd hi (by omega)⟩ (sFA_up h1.FA (M' := M) rfl _) (sFB_up h1.FB (C' := C) rfl _)
  have hnN : nn ≤ pN P := by
    obtain ⟨n', e1, e2⟩ := h.2.get.2.1 sd hsd
    have e1' : xI M 2101 0 (16 + sd) = nI n' := e1
    rw [hnn] at e1'
    have := h.1.ZP.2.2.2.2.1
    have := nI_inj600 e1' (by omega) (by omega)
    omega
  have h3 := h2.repar (T := pT P - ga * p) (N := pN P + 601) (L := 20 * ec + (ga - 19)) (q' := ga - 19) (s' := ga - 20) (e' := 0) (by omega) hN (by omega) (by omega) ⟨ec, by rw [I_ne (by decide), I_ne (by decide), I_ne (by decide), hec], Nat.le_refl _⟩ ⟨0, by rw [I_uI, if_pos ⟨rfl, rfl, rfl⟩]; rfl, by omega⟩
  have h4 : MS (rp P (pT P - ga * p) (pN P + 601) (20 * ec + (ga - 19))) 0 0 (ga - 19) (ga - 20) (uI (uI (uI C 2012 (pb P) sd (nI (nn + 1))) 2011 (pb P) sd (nI (co - ga * p))) 406 0 0 0) (uI (uI (uI M 2101 0 (16 + sd) (nI (nn + 1))) 2101 0 sd (nI (co - ga * p))) 1154 0 0 0) := by
    refine ⟨h3, ?_⟩
    refine sCS_cg (fun i j => I_ne (by decide)) ?_
    unfold sCS
    rw [curF, curF]
    have k0 : stOK (fun j => xI M 2101 0 j) (pT P) (pN P + 601) (ga - 19) := by
      obtain ⟨u, u1, u2, u3, u4⟩ := h.2
      exact ⟨u, u1, u2, fun a ha => ⟨by have := (u3 a ha).1; omega, (u3 a ha).2⟩, u4⟩
    have k1 := k0.nonce (a := sd) (v := nn + 1) (q' := ga - 19) hsd (by omega) (Nat.le_refl _) (by omega)
    obtain ⟨n', e1, e2, k2⟩ := k1.coin hsd (co - ga * p)
    have e3 : upN (fun j => xI M 2101 0 j) (16 + sd) (nI (nn + 1)) sd = xI M 2101 0 sd := if_neg (by omega)
    rw [e3, hco] at e1
    have e4 := nI_inj600 e1 (by omega) (by omega)
    subst e4
    have e5 : pT P - co + (co - ga * p) = pT P - ga * p := by omega
    rw [e5] at k2
    exact k2
  refine h4.junk (fun k i j a1 a2 => ?_) (fun k i j _ => by rw [L_uI]) (fun k i => rfl) (fun _ _ _ _ => rfl) rfl (fun _ _ => rfl) (fun _ _ _ => rfl)
  rw [I_uI, if_neg (fun y => by have := a1 y.2.1; rw [y.1] at this; exact absurd this (by decide +kernel))]
/-- what was used -/
def usedN (gross bk : Nat) : Nat := gross - (if gross / 5 < bk then gross / 5 else bk)
theorem usedN_le (gross bk : Nat) : usedN gross bk ≤ gross ∧ 4 * gross ≤ 5 * usedN gross bk := by
  unfold usedN
  split <;> omega
theorem cUsed {g bk : Nat} (hg : g < 2147483648) (hb : bk < 2147483648) : nI g - (if nI g / (5 : Int32) < nI bk then nI g / (5 : Int32) else nI bk) = nI (usedN g bk) ∧ nI g - (if nI g / (5 : Int32) ≤ nI bk then nI g / (5 : Int32) else nI bk) = nI (usedN g bk) := by
  have e : nI g / (5 : Int32) = nI (g / 5) := by rw [show (5 : Int32) = nI 5 from rfl, div_nI hg (by decide) (by decide)]
  rw [e]
  unfold usedN
  refine ⟨?_, ?_⟩
  · by_cases z : g / 5 < bk
    · rw [if_pos (nI_lt z (by omega)), if_pos z, nI_subI (by omega)]
    · rw [if_neg (nI_nlt (by omega) (by omega)), if_neg z, nI_subI (by omega)]
  · by_cases z : g / 5 < bk
    · rw [if_pos (nI_le (by omega) (by omega)), if_pos z, nI_subI (by omega)]
    · rw [if_neg z]
      by_cases z2 : g / 5 = bk
      · rw [if_pos (nI_le (by omega) (by omega)), z2, nI_subI (by omega)]
      · rw [if_neg (nI_ge (by omega) (by omega)), nI_subI (by omega)]
/-- both settle the gas -/
theorem MS.settle {P : XP} {T1 N1 L1 sz : Nat} {C M : XO} (h : MS (rp P T1 N1 L1) 0 0 sz sz C M) {i1 sd ga p ba pr g bk us : Nat} (hsd : sd < 16) (hpr : pr < 16) (hga : ga ≤ 600) (hp : p ≤ 100) (hba : ba ≤ p) (hT : T1 + ga * p ≤ 80000) (hg : g ≤ ga) (hgC : xI C 310 0 0 = nI g) (hbk : xI M 1154 0 0 = nI bk) (hbk2 : bk ≤ 1800) (hus : us = usedN (ga - g) bk)
    (c701 : xI C 701 i1 0 = nI sd) (c706 : xI C 706 i1 0 = nI ga) (c5 : xI C 5 (pb P) 0 = nI ba) (c3 : xI C 3 (pb P) 0 = nI pr) : ∃ C' x B z, xI M 2101 0 sd = nI x ∧ x ≤ T1 ∧ xI M 2101 0 112 = nI B ∧ B ≤ T1 ∧ xI (uI M 2101 0 sd (nI (x + (ga - us) * p))) 2101 0 pr = nI z ∧ z ≤ T1 + ga * p ∧ us ≤ ga ∧ fX4_settleGas C (pb P) (pb P) i1 (nI p) (nI ga - nI g) = some C' ∧ xI C' 407 0 0 = nI us ∧ (∀ v, xI C 408 0 0 = v → xI C' 408 0 0 = v) ∧ MS (rp P (T1 + ga * p) N1 800) 0 0 0 0 C' (uI (uI (uI M 2101 0 sd (nI (x + (ga - us) * p))) 2101 0 112 (nI (B + us * ba))) 2101 0 pr (nI (z + us * (p - ba)))) := by
  have hb : pb P ≤ 48 := h.1.ZP.1
  have hrf : xR C 403 0 = pb P ∧ xR C 404 0 = pb P := h.1.RF
  obtain ⟨ul1, ul2⟩ := usedN_le (ga - g) bk
  rw [← hus] at ul1 ul2
  have hmul : ∀ a, a ≤ ga → a * p ≤ ga * p := fun a ha => Nat.mul_le_mul_right p ha
  have hm1 := hmul (ga - us) (by omega)
  have hm2 : us * ba ≤ us * p := Nat.mul_le_mul_left us hba
  have hm3 : us * (p - ba) + us * ba = us * p := by rw [← Nat.mul_add, Nat.sub_add_cancel hba]
  have hm4 : (ga - us) * p + us * p = ga * p := by rw [← Nat.add_mul, Nat.sub_add_cancel (by omega)]
  have hs : stOK (fun j => xI M 2101 0 j) T1 N1 sz := h.2
  obtain ⟨x, x1, x2, -⟩ := hs.coin hsd 0
  obtain ⟨x', x1', x2', s1⟩ := hs.coin hsd (x + (ga - us) * p)
  have ex : x' = x := nI_inj600 (x1'.symm.trans x1) (by omega) (by omega)
  subst ex
  obtain ⟨B, B1, B2, -⟩ := hs.burn 0
  obtain ⟨B', B1', B2', s2⟩ := s1.burn (B + us * ba)
  have eB0 : upN (fun j => xI M 2101 0 j) sd (nI (x' + (ga - us) * p)) 112 = xI M 2101 0 112 := if_neg (by omega)
  have eB : B' = B := nI_inj600 (by rw [← B1', eB0]; exact B1) (by omega) (by omega)
  subst eB
  obtain ⟨z, z1, z2, -⟩ := s2.coin hpr 0
  obtain ⟨z', z1', z2', s3⟩ := s2.coin hpr (z + us * (p - ba))
  have ez : z' = z := nI_inj600 (z1'.symm.trans z1) (by omega) (by omega)
  subst ez
  have ez0 : xI (uI M 2101 0 sd (nI (x' + (ga - us) * p))) 2101 0 pr = nI z' := by
    have e2 : upN (upN (fun j => xI M 2101 0 j) sd (nI (x' + (ga - us) * p))) 112 (nI (B' + us * ba)) pr = upN (fun j => xI M 2101 0 j) sd (nI (x' + (ga - us) * p)) pr := if_neg (by omega)
    rw [e2] at z1'
    rw [← z1', ← curF]
  -- the class
  obtain ⟨C1, hC1⟩ : ∃ C1, C1 = uI C 407 0 0 (nI us) := ⟨_, rfl⟩
  have h1 : MS (rp P T1 N1 L1) 0 0 sz sz C1 M := by rw [hC1]; exact h.scrC 407 (Or.inl rfl) _
  have h2 := ((h1.1.wI hsd (nI (x' + (ga - us) * p))).wB (nI (B' + us * ba))).wI hpr (nI (z' + us * (p - ba)))
  have h3 : MS0 (rp P (T1 + ga * p) N1 800) 0 0 0 0 _ _ := h2.repar (T := T1 + ga * p) (N := N1) (L := 800) (q' := 0) (s' := 0) (e' := 0) hT h.1.ZP.2.2.2.2.1 (Nat.le_refl _) (by omega)
    (by obtain ⟨n, n1, n2⟩ := h2.EC.1
        have n2' : 20 * n + sz ≤ L1 := n2
        have : L1 ≤ 800 := h.1.ZP.2.2.2.2.2
        exact ⟨n, n1, by omega⟩)
    (by obtain ⟨n, n1, n2⟩ := h2.RB.1
        exact ⟨n, n1, by omega⟩)
  refine ⟨uI (uI (uI C1 2011 (pb P) sd (nI (x' + (ga - us) * p))) 604 (pb P) 0 (nI (B' + us * ba))) 2011 (pb P) pr (nI (z' + us * (p - ba))), x', B', z', x1, x2, B1, B2, ez0, by omega, by omega, ?_, ?_, ?_, ?_⟩
  · have e406 : xI C 406 0 0 = nI bk := by
      have := h.1.LN 406 0 0 _ (by decide) ph_406
      rw [this, hbk]
    unfold fX4_settleGas wl
    dsimp only
    rw [nI_subI hg, e406, (cUsed (by omega) (by omega)).1, ← hus, ← hC1]
    have w701 : xI C1 701 i1 0 = nI sd := by rw [hC1, I_ne (by decide), c701]
    have w706 : xI C1 706 i1 0 = nI ga := by rw [hC1, I_ne (by decide), c706]
    have w407 : xI C1 407 0 0 = nI us := by rw [hC1, I_uI, if_pos ⟨rfl, rfl, rfl⟩]
    have wx : xI C1 2011 (pb P) sd = nI x' := by rw [hC1, I_ne (by decide)]; exact (h.1.eI hsd).trans x1
    have r1 : ∀ k, xR C1 k 0 = xR C k 0 := fun k => by rw [hC1, R_uI]
    rw [if_pos ((r1 404).trans hrf.2), w701, w706, w407, nI_subI (by omega), nI_mul, cGain hsd, wx, nI_add]
    have q407 : ∀ v, xI (uI C1 2011 (pb P) sd v) 407 0 0 = nI us := fun v => by rw [I_ne (by decide), w407]
    have q5 : ∀ v, xI (uI C1 2011 (pb P) sd v) 5 (pb P) 0 = nI ba := fun v => by rw [I_ne (by decide), hC1, I_ne (by decide), c5]
    have q604 : ∀ v, xI (uI C1 2011 (pb P) sd v) 604 (pb P) 0 = nI B' := fun v => by rw [I_ne (by decide), hC1, I_ne (by decide)]; exact h.1.eB.trans B1
    rw [if_pos (show xR (uI C1 2011 (pb P) sd (nI (x' + (ga - us) * p))) 404 0 = pb P from (r1 404).trans hrf.2), if_pos (show xR (uI C1 2011 (pb P) sd (nI (x' + (ga - us) * p))) 403 0 = pb P from (r1 403).trans hrf.1), q407, q5, q604, nI_mul, nI_add]
    have s407 : ∀ v u, xI (uI (uI C1 2011 (pb P) sd v) 604 (pb P) 0 u) 407 0 0 = nI us := fun v u => by rw [I_ne (by decide), q407]
    have s5 : ∀ v u, xI (uI (uI C1 2011 (pb P) sd v) 604 (pb P) 0 u) 5 (pb P) 0 = nI ba := fun v u => by rw [I_ne (by decide), q5]
    have s3' : ∀ v u, xI (uI (uI C1 2011 (pb P) sd v) 604 (pb P) 0 u) 3 (pb P) 0 = nI pr := fun v u => by rw [I_ne (by decide), I_ne (by decide), hC1, I_ne (by decide), c3]
    rw [if_pos (show xR (uI (uI C1 2011 (pb P) sd (nI (x' + (ga - us) * p))) 604 (pb P) 0 (nI (B' + us * ba))) 404 0 = pb P from (r1 404).trans hrf.2), if_pos (show xR (uI (uI C1 2011 (pb P) sd (nI (x' + (ga - us) * p))) 604 (pb P) 0 (nI (B' + us * ba))) 403 0 = pb P from (r1 403).trans hrf.1), if_pos (show xR (uI (uI C1 2011 (pb P) sd (nI (x' + (ga - us) * p))) 604 (pb P) 0 (nI (B' + us * ba))) 403 0 = pb P from (r1 403).trans hrf.1), s407, s5, s3', nI_subI hba, nI_mul, cGain hpr]
    have wz : xI (uI (uI C1 2011 (pb P) sd (nI (x' + (ga - us) * p))) 604 (pb P) 0 (nI (B' + us * ba))) 2011 (pb P) pr = nI z' := by
      rw [I_ne (by decide), ← ez0, I_uI, I_uI]
      by_cases q : pr = sd
      · rw [if_pos ⟨rfl, rfl, q⟩, if_pos ⟨rfl, rfl, q⟩]
      · rw [if_neg (fun y => q y.2.2), if_neg (fun y => q y.2.2)]
        exact h1.1.eI hpr
    rw [wz, nI_add]
  · rw [I_ne (by decide), I_ne (by decide), I_ne (by decide), hC1, I_uI, if_pos ⟨rfl, rfl, rfl⟩]
  · intro v hv
    rw [I_ne (by decide), I_ne (by decide), I_ne (by decide), hC1, I_ne (by decide), hv]
  · refine ⟨h3, ?_⟩
    unfold sCS
    rw [curF, curF, curF]
    have e5 : T1 - x' + (x' + (ga - us) * p) - B' + (B' + us * ba) - z' + (z' + us * (p - ba)) = T1 + ga * p := by omega
    rw [e5] at s3
    exact s3.low (Nat.zero_le _)
