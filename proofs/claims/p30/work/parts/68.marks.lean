/-- reference marks all votes of a validator -/
theorem m336 {v N : Nat} {y8 y1 : Int32} (hv : v < 8) (hN : N ≤ 20) : ∀ (fu k : Nat) (M : XO), xI M 2138 0 v = nI N → fu = N - k + 1 → k ≤ N → ∃ z M', fX11_vote_l336 y8 y1 (nI v) fu (nI k) M = some (z, M') ∧ (∀ f i j, f ≠ 2137 → xI M' f i j = xI M f i j) ∧ (∀ f i j, xL M' f i j = xL M f i j) ∧ ∀ j, xI M' 2137 0 j = if 20 * v + k ≤ j ∧ j < 20 * v + N then (if y8 = 0 then (1 : Int32) else 0) else xI M 2137 0 j := by
  intro fu
  induction fu with
  | zero => exact fun k M _ hfu hk => absurd hfu (by omega)
  | succ fu ih =>
    intro k M hM hfu hk
    rw [fX11_vote_l336, if_pos (inB_nI hv (by decide)), cl_nI (show v < 2147483648 by omega), hM]
    by_cases e : k = N
    · rw [if_pos (by rw [e]; exact Int32.le_refl _)]
      refine ⟨nI k, M, rfl, fun _ _ _ _ => rfl, fun _ _ _ => rfl, fun j => ?_⟩
      rw [if_neg (fun z => by omega)]
    · obtain ⟨d1, d2⟩ := inB_20 hv (show k < 20 by omega)
      rw [if_neg (nI_ge (show k < N by omega) (by omega))]
      unfold wl
      dsimp only
      rw [if_pos d1, d2, nI_1]
      obtain ⟨z, M', r1, r2, r3, r4⟩ := ih (k + 1) (uI M 2137 0 (20 * v + k) (if y8 = 0 then 1 else 0)) (by rw [I_ne (by decide), hM]) (by omega) (by omega)
      refine ⟨z, M', r1, fun f i j hf => by rw [r2 f i j hf, I_ne hf], fun f i j => by rw [r3, L_uI], fun j => ?_⟩
      rw [r4]
      by_cases q : j = 20 * v + k
      · have w : xI (uI M 2137 0 (20 * v + k) (if y8 = 0 then (1 : Int32) else 0)) 2137 0 j = if y8 = 0 then (1 : Int32) else 0 := by rw [I_uI, if_pos ⟨rfl, rfl, q⟩]
        rw [w, if_neg (fun y => by omega)]
        exact (if_pos (show 20 * v + k ≤ j ∧ j < 20 * v + N by omega)).symm
      · have w : xI (uI M 2137 0 (20 * v + k) (if y8 = 0 then (1 : Int32) else 0)) 2137 0 j = xI M 2137 0 j := by rw [I_uI, if_neg (fun y => q y.2.2)]
        rw [w]
        by_cases q2 : 20 * v + (k + 1) ≤ j ∧ j < 20 * v + N
        · rw [if_pos q2, if_pos (show 20 * v + k ≤ j ∧ j < 20 * v + N by omega)]
        · rw [if_neg q2, if_neg (fun y => q2 (by omega))]
