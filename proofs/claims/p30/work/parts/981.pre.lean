theorem raise406 {C : XO} {b : Nat} {x v : Int32} : fX6_raiseNonce (uI C 406 0 0 v) b x = uI (fX6_raiseNonce C b x) 406 0 0 v := by
  unfold fX6_raiseNonce
  by_cases z1 : x < 0
  · rw [if_pos z1, if_pos z1]
  · rw [if_neg z1, if_neg z1]
    by_cases z2 : nI (alen 2012) ≤ x
    · rw [if_pos z2, if_pos z2]
    · rw [if_neg z2, if_neg z2, I_ne (by decide), uI_comm (fun y => absurd y.1 (by decide))]
theorem gain406 {C : XO} {b : Nat} {x v w : Int32} : fX6_gain (uI C 406 0 0 v) b x w = uI (fX6_gain C b x w) 406 0 0 v := by
  unfold fX6_gain
  by_cases z1 : x < 0
  · rw [if_pos z1, if_pos z1]
  · rw [if_neg z1, if_neg z1]
    by_cases z2 : nI (alen 2011) ≤ x
    · rw [if_pos z2, if_pos z2]
    · rw [if_neg z2, if_neg z2, I_ne (by decide), uI_comm (fun y => absurd y.1 (by decide))]
/-- what was to be given back before a transaction is forgotten -/
theorem transact406 {C : XO} {b i1 : Nat} {v : Int32} : fX4_transact (uI C 406 0 0 v) b b i1 = fX4_transact C b b i1 := by
  have hp : ∀ x, fX7_priceAt (uI C 406 0 0 v) i1 x = fX7_priceAt C i1 x := fun x => by
    unfold fX7_priceAt
    rw [I_ne (by decide), I_ne (by decide)]
  have r1 : ∀ (A : XO) k, xR (uI A 406 0 0 v) k 0 = xR A k 0 := fun _ _ => rfl
  have n1 : ∀ (A : XO) k i j, k ≠ 406 → xI (uI A 406 0 0 v) k i j = xI A k i j := fun A k i j hk => I_ne hk
  have id : ∀ (A : XO), uI (uI A 406 0 0 v) 406 0 0 0 = uI A 406 0 0 0 := fun A => uI_idem
  unfold fX4_transact wl
  dsimp only
  simp only [r1, n1 _ 5 _ _ (by decide), n1 _ 701 _ _ (by decide), hp, raise406, n1 _ 706 _ _ (by decide), gain406, id]
/-- nor does the reference look at it, nor at the depth -/
theorem runs1154 {M : XO} {v w x1 x2 x3 : Int32} : fX11_runs (uI (uI M 1154 0 0 v) 1153 0 0 w) x1 x2 x3 = fX11_runs M x1 x2 x3 := by
  have hx : ∀ k i j, k ≠ 1154 → k ≠ 1153 → xI (uI (uI M 1154 0 0 v) 1153 0 0 w) k i j = xI M k i j := fun k i j h1 h2 => by rw [I_ne h2, I_ne h1]
  have hx2 : ∀ k i j a u, k ≠ 1154 → k ≠ 1153 → xI (uI (uI (uI M 1154 0 0 v) 1153 0 0 w) 2101 0 a u) k i j = xI (uI M 2101 0 a u) k i j := fun k i j a u h1 h2 => uI_pt (hx k i j h1 h2)
  have hp : ∀ x y, fX11_price (uI (uI M 1154 0 0 v) 1153 0 0 w) x y = fX11_price M x y := fun x y => by
    unfold fX11_price
    simp only [hx 2117 _ _ (by decide) (by decide), hx 2118 _ _ (by decide) (by decide)]
  have hw : ∀ a u a2 u2, uI (uI (uI (uI (uI (uI M 1154 0 0 v) 1153 0 0 w) 2101 0 a u) 2101 0 a2 u2) 1154 0 0 0) 1153 0 0 0 = uI (uI (uI (uI M 2101 0 a u) 2101 0 a2 u2) 1154 0 0 0) 1153 0 0 0 := fun a u a2 u2 => by
    rw [uI_comm (k := 1153) (k' := 2101) (fun y => absurd y.1 (by decide)), uI_comm (k := 1154) (k' := 2101) (fun y => absurd y.1 (by decide)), uI_comm (k := 1153) (k' := 2101) (fun y => absurd y.1 (by decide)), uI_comm (k := 1154) (k' := 2101) (fun y => absurd y.1 (by decide)), uI_comm (k := 1153) (k' := 1154) (fun y => absurd y.1 (by decide)), uI_idem, uI_idem]
  unfold fX11_runs wl
  dsimp only
  simp only [hp, hx 2111 _ _ (by decide) (by decide), hx 2101 _ _ (by decide) (by decide), hx2 2101 _ _ _ _ (by decide) (by decide), hx2 2116 _ _ _ _ (by decide) (by decide), hw]
/-- what the class notes of a transaction -/
def tlC (X : XO) (b n us k w u0 : Nat) : XO := uL (uI (uI (uI X 2000 b n (nI (100000 * us + 10 * k + w))) 8 b 0 (nI (n + 1))) 6 b 0 (nI (u0 + us))) 17 b 0 (xL X 17 b 0 ||| ((1 : Int64) <<< ((nI k).toInt64 &&& 63)))
theorem cEnter {C : XO} {b n us k w u0 : Nat} (hn : n < 40) (hw : w ≤ 1) (h8 : xI C 8 b 0 = nI n) (h6 : xI C 6 b 0 = nI u0) : fX0_enter C b (nI k) (nI us) (nI w) = tlC C b n us k w u0 := by
  have e1 : ((100000 : Int32) * nI us) + ((10 : Int32) * nI k) = nI (100000 * us + 10 * k) := by rw [show (100000 : Int32) = nI 100000 from rfl, show (10 : Int32) = nI 10 from rfl, nI_mul, nI_mul, nI_add]
  have ep : ∀ x, sPut C 2000 b (nI n) x = uI C 2000 b n x := fun x => by
    unfold sPut
    rw [if_neg (nI_nlt0 (by omega)), if_neg (show ¬ nI (alen 2000) ≤ nI n from nI_ge (b := 40) hn (by decide)), cl_nI (by omega)]
  have w8 : ∀ x, xI (uI C 2000 b n x) 8 b 0 = nI n := fun x => by rw [I_ne (by decide), h8]
  have w6 : ∀ x y, xI (uI (uI C 2000 b n x) 8 b 0 y) 6 b 0 = nI u0 := fun x y => by rw [I_ne (by decide), I_ne (by decide), h6]
  have w17 : ∀ x y z, xL (uI (uI (uI C 2000 b n x) 8 b 0 y) 6 b 0 z) 17 b 0 = xL C 17 b 0 := fun x y z => by rw [L_uI, L_uI, L_uI]
  unfold fX0_enter tlC
  rw [h8, e1, ep, ep, w8, w8, nI_1, w6, w6, nI_add, w17, w17]
  rcases (show w = 0 ∨ w = 1 by omega) with rfl | rfl
  · rw [if_pos (show nI 0 = 0 from rfl), show (0 : Int32) = nI 0 from rfl, nI_add]
  · rw [if_neg (show ¬ nI 1 = 0 by decide), show (1 : Int32) = nI 1 from rfl, nI_add]
/-- after a transaction, with what both note -/
theorem MS.noted {P : XP} {C M X Y : XO} (h : MS (sX P X Y) 0 0 0 0 C M) {n us k w u0 : Nat} : MS (sX P (tlC X (pb P) n us k w u0) Y) 0 0 0 0 (tlC C (pb P) n us k w u0) M := by
  have e17 : xL C 17 (pb P) 0 = xL X 17 (pb P) 0 := h.1.FL 17 _ _ (Or.inl (by decide))
  refine ⟨MS0.base (P := sX P X Y) h.1 (fun f hf i j => ?_) (fun f hf i j => ?_) (fun _ _ _ _ => rfl) (fun _ _ => rfl) (fun f i j hm => ?_) h.1.FB (fun f i j hm => ?_) h.1.FM, h.2⟩
  · have ne : ∀ a, ([0, 2, 3, 4, 5, 6, 8, 11, 12, 13, 14, 15, 16, 101, 407, 408, 700, 2000] : List Nat).contains a = true → f ≠ a := fun a ha y => by rw [y, ha] at hf; exact absurd hf (by decide)
    unfold tlC
    rw [I_uL, I_ne (ne _ rfl), I_ne (ne _ rfl), I_ne (ne _ rfl)]
  · have ne : f ≠ 17 := fun y => by rw [y] at hf; exact absurd hf (by decide)
    unfold tlC
    rw [L_uL, if_neg (fun y => ne y.1), L_uI, L_uI, L_uI]
  · show xI (tlC C (pb P) n us k w u0) f i j = xI (tlC X (pb P) n us k w u0) f i j
    unfold tlC
    rw [I_uL, I_uL]
    exact uI_pt (uI_pt (uI_pt (h.1.FA f i j hm)))
  · show xL (tlC C (pb P) n us k w u0) f i j = xL (tlC X (pb P) n us k w u0) f i j
    unfold tlC
    rw [e17]
    exact uL_pt (by rw [L_uI, L_uI, L_uI, L_uI, L_uI, L_uI]; exact h.1.FL f i j hm)
