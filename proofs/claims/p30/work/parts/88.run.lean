/-- a call runs to its end on both machines -/
def RUN (P : XP) (D : Nat) : Prop := ∀ (n y q s g : Nat) (C M : XO), MS P D (D - 1) q s C M → s ≤ q → xI C 310 (D - 1) 0 = nI g → g < n → y + g < 1000000 → ∃ (r g' K sz : Nat) (C' C'' Mz : XO), fX4_runProgram_l2 (pb P) (pb P) (fX4_deliver (pb P) (pb P) (4 - D)) (nI D) (D - 1) n (nI y) C = some (.inl (nI r, C')) ∧ r ≤ 1 ∧ (r = 0 → fX4_undo C' (pb P) (pb P) (D - 1) = some C'') ∧ (r = 1 → C'' = C') ∧ (∀ n', fX11_machine_l0 (n' + K) M = (finT Mz (nI r) (nI g')).bind (fun W => fX11_machine_l0 n' W)) ∧ MS P (D - 1) (D - 1) sz (sz - g') C'' Mz ∧ g' ≤ sz ∧ sz ≤ s ∧ xI C'' 310 (D - 1) 0 = nI g' ∧ fl (D - 1) C C'' ∧ K + sz ≤ s + 1 ∧ g' ≤ g
theorem MS.leave {P : XP} {d sz g r : Nat} {C M : XO} (h : MS P (d + 1) d sz sz C M) (hg : xI C 310 d 0 = nI g) (hg2 : g < 2147483648) (hr : r ≤ 1) : ∃ C'' Mz, (r = 0 → fX4_undo C (pb P) (pb P) d = some C'') ∧ (r = 1 → C'' = C) ∧ fX11_finish M (nI r) (nI g) = finT Mz (nI r) (nI g) ∧ MS P d d sz (sz - g) C'' Mz ∧ g ≤ sz ∧ xI C'' 310 d 0 = nI g ∧ fl d C C'' ∧ xI M 2144 0 d = nI g := by
  rcases (show r = 0 ∨ r = 1 by omega) with rfl | rfl
  · obtain ⟨a1, C', M', a2, a3, a4, a5⟩ := h.undo hg hg2
    have hm : xI M 2144 0 d = nI g := by rw [h.1.GA d (by omega), if_pos rfl, hg]
    refine ⟨C', M', fun _ => a2, fun y => absurd y (by decide), ?_, a4, a1, by rw [a5 310 _ _ (by decide +kernel), hg], fun k i j hk _ => a5 k i j hk, hm⟩
    rw [finish_eq h.1.ST.1, if_pos (show nI 0 = 0 from rfl), a3, Option.bind_some]
  · obtain ⟨a1, a2, a3⟩ := h.shrink hg hg2
    refine ⟨C, _, fun y => absurd y (by decide), fun _ => rfl, ?_, a3, a1, hg, fl.refl _ _, a2⟩
    rw [finish_eq h.1.ST.1, if_neg (show ¬ nI 1 = 0 by decide), Option.bind_some]
theorem copy309 {W : XO} {b f : Nat} {v : Int32} : fX6_copyFrom (uI W 309 f 0 v) b (49 + f) = uI (fX6_copyFrom W b (49 + f)) 309 f 0 v := by
  refine xo_ext (fun k i j => ?_) (fun k i j => ?_) (fun k i => ?_)
  · by_cases z : i = b ∧ stk k j
    · have z2 := z.2
      unfold stk at z2
      rw [(cCopy_I k i j).1 z.1 z.2, I_ne (by omega), I_ne (by omega), (cCopy_I k i j).1 z.1 z.2]
    · rw [(cCopy_I k i j).2 z, I_uI, I_uI, (cCopy_I k i j).2 z]
  · rw [cCopy_L, L_uI, L_uI, L_uI, cCopy_L]
  · rw [cCopy_R, R_uI, R_uI, cCopy_R]
theorem undo309 {W X : XO} {b f : Nat} {v : Int32} (h : fX4_undo (uI W 309 f 0 v) b b f = some X) : ∃ Y, fX4_undo W b b f = some Y ∧ X = uI Y 309 f 0 v := by
  unfold fX4_undo wl at h ⊢
  dsimp only at h ⊢
  rw [copy309] at h
  have e1 : ∀ k i, xR (uI W 309 f 0 v) k i = xR W k i := fun _ _ => rfl
  have e2 : ∀ k i, xR (uI (fX6_copyFrom W b (49 + f)) 309 f 0 v) k i = xR (fX6_copyFrom W b (49 + f)) k i := fun _ _ => rfl
  have e3 : xI (uI (fX6_copyFrom W b (49 + f)) 309 f 0 v) 312 f 0 = xI (fX6_copyFrom W b (49 + f)) 312 f 0 := I_ne (by decide)
  have e4 : ∀ u, xI (uI (uI (fX6_copyFrom W b (49 + f)) 309 f 0 v) 10 b 0 u) 313 f 0 = xI (uI (fX6_copyFrom W b (49 + f)) 10 b 0 u) 313 f 0 := fun u => by rw [I_ne (by decide), I_ne (by decide), I_ne (by decide)]
  rw [e1, e2, e3, e4] at h
  by_cases z1 : xR W 404 0 = b
  · rw [if_pos z1] at h ⊢
    by_cases z2 : xR (fX6_copyFrom W b (49 + f)) 403 0 = b
    · rw [if_pos z2] at h ⊢
      refine ⟨_, rfl, ?_⟩
      rw [uI_comm (k := 309) (k' := 10) (fun y => absurd y.1 (by decide)), uI_comm (k := 309) (k' := 406) (fun y => absurd y.1 (by decide))] at h
      exact (Option.some.inj h).symm
    · rw [if_neg z2] at h
      cases h
  · rw [if_neg z1] at h
    cases h
/-- the step past the end of a program, or an operation that ends a call -/
theorem MS.gas {P : XP} {d q s g : Nat} {C M : XO} (h : MS P d (d - 1) q s C M) (hd : 0 < d) (hg : xI C 310 (d - 1) 0 = nI g) : ∃ g', nI g' = nI g ∧ g' ≤ s ∧ g' ≤ 600 := by
  obtain ⟨u, u1, u2, u3⟩ := h.1.GS
  have hm : xI M 2144 0 (d - 1) = nI g := by rw [h.1.GA (d - 1) (by omega), if_pos rfl, hg]
  have hl : u (d - 1) ≤ sumN u d := sumN_mem (by omega)
  exact ⟨u (d - 1), by rw [← u1 (d - 1) (by omega), hm], by omega, by omega⟩
