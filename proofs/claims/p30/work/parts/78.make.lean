theorem xo_ext {A B : XO} (h1 : ∀ k i j, xI A k i j = xI B k i j) (h2 : ∀ k i j, xL A k i j = xL B k i j) (h3 : ∀ k i, xR A k i = xR B k i) : A = B := by
  obtain ⟨a1, a2, a3⟩ := A
  obtain ⟨b1, b2, b3⟩ := B
  have e1 : a1 = b1 := by funext k i j; exact h1 k i j
  have e2 : a2 = b2 := by funext k i j; exact h2 k i j
  have e3 : a3 = b3 := by funext k i; exact h3 k i
  rw [e1, e2, e3]
theorem uI_comm {A : XO} {k i j k' i' j' : Nat} {v w : Int32} (h : ¬ (k = k' ∧ i = i' ∧ j = j')) : uI (uI A k i j v) k' i' j' w = uI (uI A k' i' j' w) k i j v := by
  refine xo_ext (fun a b c => ?_) (fun _ _ _ => rfl) (fun _ _ => rfl)
  rw [I_uI, I_uI, I_uI, I_uI]
  by_cases z1 : a = k ∧ b = i ∧ c = j
  · by_cases z2 : a = k' ∧ b = i' ∧ c = j'
    · exact absurd ⟨z1.1.symm.trans z2.1, z1.2.1.symm.trans z2.2.1, z1.2.2.symm.trans z2.2.2⟩ h
    · rw [if_neg z2, if_pos z1, if_pos z1]
  · rw [if_neg z1, if_neg z1]
theorem uI_idem {A : XO} {k i j : Nat} {v w : Int32} : uI (uI A k i j v) k i j w = uI A k i j w := by
  refine xo_ext (fun a b c => ?_) (fun _ _ _ => rfl) (fun _ _ => rfl)
  rw [I_uI, I_uI, I_uI]
  by_cases z1 : a = k ∧ b = i ∧ c = j
  · rw [if_pos z1, if_pos z1]
  · rw [if_neg z1, if_neg z1, if_neg z1]
theorem uI_same {A : XO} {k i j : Nat} {v : Int32} (h : xI A k i j = v) : uI A k i j v = A := by
  refine xo_ext (fun a b c => ?_) (fun _ _ _ => rfl) (fun _ _ => rfl)
  rw [I_uI]
  by_cases z1 : a = k ∧ b = i ∧ c = j
  · rw [if_pos z1, ← h, z1.1, z1.2.1, z1.2.2]
  · rw [if_neg z1]
/-- a nonce goes up -/
theorem MS.raise {P : XP} {d e q s q' : Nat} {C M : XO} (h : MS P d e q s C M) {a : Nat} (ha : a < 16) (hq : q' + 1 ≤ q) : ∃ n, xI M 2101 0 (16 + a) = nI n ∧ n ≤ 1000000 ∧ xI C 2012 (pb P) a = nI n ∧ fX6_raiseNonce C (pb P) (nI a) = uI C 2012 (pb P) a (nI (n + 1)) ∧ MS P d e q' s (uI C 2012 (pb P) a (nI (n + 1))) (uI M 2101 0 (16 + a) (nI (n + 1))) := by
  have hN := h.1.ZP.2.2.2.2.1
  obtain ⟨n, n1, n2⟩ := h.2.get.2.1 a ha
  try dsimp only at n1
  have e1 : xI C 2012 (pb P) a = nI n := by rw [h.1.eII ha, n1]
  refine ⟨n, n1, by omega, e1, ?_, ?_⟩
  · unfold fX6_raiseNonce
    rw [if_neg (nI_nlt0 (by omega)), if_neg (show ¬ nI (alen 2012) ≤ nI a from nI_ge (b := 16) ha (by decide)), cl_nI (by omega), e1, nI_1]
  · have h2 := h.low (q' := q') (by omega)
    refine ⟨h2.1.wII ha (nI_ne0 (by omega) (by omega)), ?_⟩
    unfold sCS
    rw [curF]
    exact stOK.nonce h2.2 ha (by omega) (Nat.le_refl _) (by omega)
theorem eMade {M : XO} {mk n p v x : Nat} (hmk : mk < 16) (hn : n ≤ 1000001) (hx : xI M 2101 0 mk = nI x) (hx2 : x < 2147483648) (hv : v ≤ x) : fX11_made M (nI mk) (nI n) (nI p) (nI v) = if xI M 2101 0 (32 + (6 + (5 * mk + 3 * n) % 9)) = 0 then (if xI M 2101 0 (16 + (6 + (5 * mk + 3 * n) % 9)) = 0 then (fX11_move M (nI mk) (nI (6 + (5 * mk + 3 * n) % 9)) (nI v)).bind (fun r => some (nI (6 + (5 * mk + 3 * n) % 9), uI (uI r 2101 0 (32 + (6 + (5 * mk + 3 * n) % 9)) (nI (p + 1))) 2101 0 (16 + (6 + (5 * mk + 3 * n) % 9)) 1)) else some (-1, M)) else some (-1, M) := by
  have e0 : fX11_address M (nI mk) (nI n) = some (nI (6 + (5 * mk + 3 * n) % 9)) := by
    unfold fX11_address
    rw [show (5 : Int32) = nI 5 from rfl, show (3 : Int32) = nI 3 from rfl, show (9 : Int32) = nI 9 from rfl, show (6 : Int32) = nI 6 from rfl, nI_mul, nI_mul, nI_add, rem_nI (by omega) (by decide) (by decide), nI_add]
  have hm : (5 * mk + 3 * n) % 9 < 9 := Nat.mod_lt _ (by decide)
  obtain ⟨t, ht⟩ : ∃ t, t = 6 + (5 * mk + 3 * n) % 9 := ⟨_, rfl⟩
  rw [← ht] at e0 ⊢
  have ht2 : t < 15 := by omega
  unfold fX11_made wl
  dsimp only
  rw [e0, Option.bind_some, if_pos (inB_nI (show mk < 120 by omega) (by decide)), cl_nI (show mk < 2147483648 by omega), hx, if_neg (nI_nlt hv (by omega)), show (32 : Int32) = nI 32 from rfl, show (16 : Int32) = nI 16 from rfl, nI_add, nI_add]
  have i1 : inB (nI (32 + t)) 120 := inB_nI (by omega) (by decide)
  have i2 : inB (nI (16 + t)) 120 := inB_nI (by omega) (by decide)
  simp only [if_pos i1, if_pos i2, cl_nI (show 32 + t < 2147483648 by omega), cl_nI (show 16 + t < 2147483648 by omega), nI_1]
/-- a contract is made -/
theorem MS.found {P : XP} {d e q s q' : Nat} {C M : XO} (h : MS P d e q s C M) {mk n p v x : Nat} (hmk : mk < 16) (hn : n ≤ 1000001) (hp : p < 8) (hx : xI M 2101 0 mk = nI x) (hx2 : x < 2147483648) (hv : v ≤ x) (h0 : xI M 2101 0 (16 + mk) ≠ 0) (hq : q' + 1 ≤ q) : (fX4_found C (pb P) (pb P) (nI mk) (nI n) (nI p) (nI v) = some (0, C) ∧ fX11_made M (nI mk) (nI n) (nI p) (nI v) = some (-1, M) ∧ (xI M 2101 0 (32 + (6 + (5 * mk + 3 * n) % 9)) = 0 → xI M 2101 0 (16 + (6 + (5 * mk + 3 * n) % 9)) = 0 → False)) ∨ (∃ t C' M1 M', t = 6 + (5 * mk + 3 * n) % 9 ∧ t < 15 ∧ t ≠ mk ∧ xI M 2101 0 (32 + t) = 0 ∧ xI M 2101 0 (16 + t) = 0 ∧ fX4_found C (pb P) (pb P) (nI mk) (nI n) (nI p) (nI v) = some (nI t, C') ∧ fX11_made M (nI mk) (nI n) (nI p) (nI v) = some (nI t, M') ∧ fX11_move M (nI mk) (nI t) (nI v) = some M1 ∧ M' = uI (uI M1 2101 0 (32 + t) (nI (p + 1))) 2101 0 (16 + t) 1 ∧ MS P d e q' s C' M' ∧ (∀ k i j, k ≠ 2011 → k ≠ 2012 → k ≠ 2013 → xI C' k i j = xI C k i j) ∧ (∀ k i j, k ≠ 2101 → xI M' k i j = xI M k i j)) := by
  have hm : (5 * mk + 3 * n) % 9 < 9 := Nat.mod_lt _ (by decide)
  rw [eMade hmk hn hx hx2 hv]
  obtain ⟨t, ht⟩ : ∃ t, t = 6 + (5 * mk + 3 * n) % 9 := ⟨_, rfl⟩
  have ht2 : t < 15 := by omega
  have e0 : (6 : Int32) + ((((5 : Int32) * nI mk) + ((3 : Int32) * nI n)) - (((5 : Int32) * nI mk) + ((3 : Int32) * nI n)) / (9 : Int32) * (9 : Int32)) = nI t := by
    rw [ht, show (5 : Int32) = nI 5 from rfl, show (3 : Int32) = nI 3 from rfl, show (9 : Int32) = nI 9 from rfl, show (6 : Int32) = nI 6 from rfl, nI_mul, nI_mul, nI_add, rem_nI (by omega) (by decide) (by decide), nI_add]
  rw [← ht]
  have s1 : sAt C 2013 (pb P) (nI t) = xI M 2101 0 (32 + t) := by rw [sAt_nI (show t < alen 2013 from (by show t < 16; omega)) (by decide), h.1.eIII (by omega)]
  have s2 : sAt C 2012 (pb P) (nI t) = xI M 2101 0 (16 + t) := by rw [sAt_nI (show t < alen 2012 from (by show t < 16; omega)) (by decide), h.1.eII (by omega)]
  have hrf := h.1.RF.2
  by_cases z1 : xI M 2101 0 (32 + t) = 0
  · by_cases z2 : xI M 2101 0 (16 + t) = 0
    · have htm : t ≠ mk := fun y => h0 (by rw [← y]; exact z2)
      obtain ⟨C1, M1, a1, a2, a3, a4, a5, a6, a7⟩ := h.move hmk (show t < 16 by omega) hx hx2 hv
      have h1 := a3.1.wIII (a := t) (by omega) (nI (p + 1))
      have h2 := h1.wII (a := t) (v := 1) (by omega) (by decide)
      have hC1 : C1 = uI (uI C 2011 (pb P) mk (nI (x - v))) 2011 (pb P) t (xI C 2011 (pb P) t + nI v) := by
        rw [← a1]
        unfold fX6_move
        rw [if_neg (nI_nlt0 (by omega)), if_neg (show ¬ nI (alen 2011) ≤ nI mk from nI_ge (b := 16) hmk (by decide)), if_neg (nI_nlt0 (by omega)), if_neg (show ¬ nI (alen 2011) ≤ nI t from nI_ge (b := 16) (by omega) (by decide)), cl_nI (show mk < 2147483648 by omega), cl_nI (show t < 2147483648 by omega), h.1.eI hmk, hx, nI_subI hv]
        have : xI (uI C 2011 (pb P) mk (nI (x - v))) 2011 (pb P) t = xI C 2011 (pb P) t := by rw [I_uI, if_neg (fun y => htm y.2.2)]
        rw [this]
      obtain ⟨C', hC'⟩ : ∃ C', C' = uI (uI C1 2013 (pb P) t (nI (p + 1))) 2012 (pb P) t 1 := ⟨_, rfl⟩
      refine Or.inr ⟨t, C', M1, _, rfl, ht2, htm, z1, z2, ?_, ?_, a2, rfl, ?_, fun k i j k1 k2 k3 => by rw [hC', I_ne k2, I_ne k3, a4 k i j k1], fun k i j hk => by rw [I_ne hk, I_ne hk, a6 k i j hk]⟩
      · unfold fX4_found wl
        dsimp only
        rw [e0, if_pos hrf, s1, if_pos z1, if_pos hrf, s2, if_pos z2, if_pos hrf]
        have ep : ∀ W w, sPut W 2013 (pb P) (nI t) w = uI W 2013 (pb P) t w := fun W w => by
          unfold sPut
          rw [if_neg (nI_nlt0 (by omega)), if_neg (show ¬ nI (alen 2013) ≤ nI t from nI_ge (b := 16) (by omega) (by decide)), cl_nI (by omega)]
        have ep2 : ∀ W w, sPut W 2012 (pb P) (nI t) w = uI W 2012 (pb P) t w := fun W w => by
          unfold sPut
          rw [if_neg (nI_nlt0 (by omega)), if_neg (show ¬ nI (alen 2012) ≤ nI t from nI_ge (b := 16) (by omega) (by decide)), cl_nI (by omega)]
        rw [ep, if_pos (show xR (uI C 2013 (pb P) t (nI p + 1)) 404 0 = pb P from hrf), ep2, if_pos (show xR (uI (uI C 2013 (pb P) t (nI p + 1)) 2012 (pb P) t 1) 404 0 = pb P from hrf)]
        unfold fX6_move
        rw [if_neg (nI_nlt0 (by omega)), if_neg (show ¬ nI (alen 2011) ≤ nI mk from nI_ge (b := 16) hmk (by decide)), if_neg (nI_nlt0 (by omega)), if_neg (show ¬ nI (alen 2011) ≤ nI t from nI_ge (b := 16) (by omega) (by decide)), cl_nI (show mk < 2147483648 by omega), cl_nI (show t < 2147483648 by omega)]
        have w1 : xI (uI (uI C 2013 (pb P) t (nI p + 1)) 2012 (pb P) t 1) 2011 (pb P) mk = nI x := by rw [I_ne (by decide), I_ne (by decide), h.1.eI hmk, hx]
        rw [w1, nI_subI hv]
        have w2 : xI (uI (uI (uI C 2013 (pb P) t (nI p + 1)) 2012 (pb P) t 1) 2011 (pb P) mk (nI (x - v))) 2011 (pb P) t = xI C 2011 (pb P) t := by rw [I_uI, if_neg (fun y => htm y.2.2), I_ne (by decide), I_ne (by decide)]
        rw [w2, hC', hC1, nI_1]
        congr 2
        rw [uI_comm (A := C) (k := 2013) (k' := 2012) (fun y => absurd y.1 (by decide))]
        refine xo_ext (fun a b c => ?_) (fun _ _ _ => rfl) (fun _ _ => rfl)
        by_cases k1 : a = 2011
        · subst k1
          rw [I_uI, I_uI, I_ne (by decide), I_ne (by decide), I_ne (by decide), I_ne (by decide), I_uI, I_uI]
        · rw [I_ne k1, I_ne k1]
          by_cases k2 : a = 2012
          · subst k2
            rw [I_ne (by decide), I_uI, I_uI, I_ne (by decide), I_ne (by decide), I_ne (by decide)]
          · rw [I_ne (f := a) (k := 2012) k2]
            by_cases k3 : a = 2013
            · subst k3
              rw [I_uI, I_ne (by decide), I_uI, I_ne (by decide), I_ne (by decide)]
            · rw [I_ne k3, I_ne k2, I_ne k3, I_ne k1, I_ne k1]
      · rw [if_pos z1, if_pos z2, a2, Option.bind_some]
      · refine ⟨?_, ?_⟩
        · rw [hC']
          have h3 : MS P d e q' s C1 M1 := a3.low (by omega)
          exact (h3.1.wIII (a := t) (by omega) (nI (p + 1))).wII (a := t) (v := 1) (by omega) (by decide)
        · have h3 : MS P d e q' s C1 M1 := a3.low (by omega)
          unfold sCS
          rw [uI_comm (by omega), curF, curF]
          have e1 : (1 : Int32) = nI 1 := rfl
          rw [e1]
          have hN : q' + 1 ≤ pN P := by
            obtain ⟨nn, g1, g2⟩ := h.2.get.2.1 0 (by decide)
            omega
          have k1 := stOK.nonce h3.2 (a := t) (v := 1) (by omega) (by omega) (Nat.le_refl _) (by decide)
          refine stOK.code k1 (a := t) (v := p + 1) (by omega) (by omega) (fun _ => ?_)
          show (if 16 + t = 16 + t then nI 1 else _) ≠ 0
          rw [if_pos rfl]
          decide
    · refine Or.inl ⟨?_, by rw [if_pos z1, if_neg z2], fun _ y => z2 y⟩
      unfold fX4_found
      rw [e0, if_pos hrf, s1, if_pos z1, if_pos hrf, s2, if_neg z2]
  · refine Or.inl ⟨?_, by rw [if_neg z1], fun y _ => z1 y⟩
    unfold fX4_found
    rw [e0, if_pos hrf, s1, if_neg z1]
