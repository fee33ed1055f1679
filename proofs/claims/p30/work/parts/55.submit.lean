def dkL : List Nat := [701, 702, 703, 704, 705, 706, 707, 708, 709, 710, 711]
/-- the draft's fields are the class's alone -/
theorem RGD_draft {D : XD} {C C1 M : XO} (h : RGD D C M) {c : Nat} (hc : c < 2) (hn : dnt D c < 40) (f1 : ∀ f i j, dkL.contains f = false → xI C1 f i j = xI C f i j) (f2 : ∀ f i j, i ≠ 40 * c + dnt D c → xI C1 f i j = xI C f i j) (f3 : ∀ f i j, xL C1 f i j = xL C f i j) : RGD D C1 M := by
  have hne : ∀ c' t, c' < 2 → t < dnt D c' → 40 * c' + t ≠ 40 * c + dnt D c := fun c' t h1 h2 => idx_ne hc h1 (by have := (h.NT c' h1).2.2; omega) hn (fun z => by rw [z.1] at h2; omega)
  refine h.bDR (fun k _ hk i j => f1 k i j hk) (fun k _ _ i j => f3 k i j) (fun _ _ _ _ _ => rfl) (fun _ _ _ _ _ => rfl) (fun c' hc' t ht => ?_) (fun c' hc' t ht => ?_) (fun c' hc' t ht => ?_) (fun c' hc' b' hb' h0 => (h.GH c' hc' b' hb' h0).mv (Nat.le_refl _) (f1 8 _ _ rfl) (f1 5 _ _ rfl) (f1 3 _ _ rfl) (f1 2 _ _ rfl) (fun j => f1 2000 _ _ rfl) (fun x _ => ⟨rfl, rfl⟩) (fun _ => f1 104 _ _ rfl) (fun _ k j hk => by rcases hk with rfl | rfl | rfl <;> exact f1 _ _ _ rfl) (fun k q _ _ hq => f2 k _ _ (hne c' q hc' hq)))
  · have hj := hne c' t hc' ht
    rw [f2 701 _ _ hj, f2 702 _ _ hj, f2 704 _ _ hj, f2 706 _ _ hj, f2 707 _ _ hj, f2 708 _ _ hj]
    exact h.TX c' hc' t ht
  · have hj := hne c' t hc' ht
    rw [f2 701 _ _ hj, f2 702 _ _ hj, f2 704 _ _ hj, f2 706 _ _ hj, f2 707 _ _ hj, f2 708 _ _ hj]
    exact h.TB c' hc' t ht
  · have hj := hne c' t hc' ht
    rw [f2 709 _ _ hj, f2 703 _ _ hj, f2 705 _ _ hj, f2 704 _ _ hj, f2 710 _ _ hj, f2 711 _ _ hj]
    exact h.TK c' hc' t ht
theorem mky_all {k : Nat} (h : mky k = true) (p : Nat → Bool) (hp : ∀ k, mky k = true → p k = true) : p k = true := hp k h
theorem mky_no {k : Nat} (h : mky k = true) : k ≠ 712 ∧ k ≠ 103 ∧ k ≠ 1160 ∧ dkL.contains k = false := by
  unfold mky at h
  have h2 := List.contains_iff_mem.mp h
  simp only [List.mem_cons, List.not_mem_nil, or_false] at h2
  rcases h2 with rfl | h2
  · decide
  repeat (rcases h2 with rfl | h2; · decide)
theorem cky_no {k : Nat} (h : cky k = true) : k ≠ 1160 ∧ ([2111, 2112, 2113, 2114, 2115, 2116, 2117, 2118, 1106, 2108, 2119] : List Nat).contains k = false := by
  unfold cky at h
  have h2 := List.contains_iff_mem.mp h
  simp only [List.mem_cons, List.not_mem_nil, or_false] at h2
  rcases h2 with rfl | h2
  · decide
  repeat (rcases h2 with rfl | h2; · decide)
theorem mkl_no {k : Nat} (h : mkl k = true) : k ≠ 2017 := fun z => by subst z; exact absurd h (by decide)
theorem ckl_no {k : Nat} (h : ckl k = true) : k ≠ 2017 := fun z => by subst z; exact absurd h (by decide)
theorem dFinish {D : XD} {Ω C1 : XO} (h : RGD D Ω Ω) {c : Nat} (hc : c < 2) (hn : dnt D c < 40) (f1 : ∀ f i j, dkL.contains f = false → xI C1 f i j = xI Ω f i j) (f2 : ∀ f i j, i ≠ 40 * c + dnt D c → xI C1 f i j = xI Ω f i j) (f3 : ∀ f i j, xL C1 f i j = xL Ω f i j) {x2 x3 x4 x5 x6 x7 x8 x9 : Int32} (k1 : xI C1 701 (40 * c + dnt D c) 0 = x2) (k2 : xI C1 702 (40 * c + dnt D c) 0 = x3) (k4 : xI C1 704 (40 * c + dnt D c) 0 = x5) (k6 : xI C1 706 (40 * c + dnt D c) 0 = x7) (k7 : xI C1 707 (40 * c + dnt D c) 0 = x8) (k8 : xI C1 708 (40 * c + dnt D c) 0 = x9) (hb : hTBx C1 (40 * c + dnt D c)) (hk : hTKx D C1 Ω c (40 * c + dnt D c) x4 x6) : ∃ v C' M', fX1_admit C1 c (40 * c + dnt D c) = (v, C') ∧ fX11_enter (uI (uL C' 2017 0 0 v.toInt64) 1160 0 0 0) (nI c) x2 x3 x4 x5 x6 x7 x8 x9 = some (v, M') ∧ (xI C' 2108 0 c = nI (dnt D c)) ∧ xI M' 1160 0 0 = 0 ∧ xL M' 2017 0 0 = v.toInt64 ∧ RG M' ∧ RGD D C1 (uL C' 2017 0 0 v.toInt64) := by
  have h1 := RGD_draft h hc hn f1 f2 f3
  obtain ⟨v, C', -, p1, -, p3, -, -⟩ := dAdmit h1 hc hn k4 k6 hb hk
  obtain ⟨M0, hM0⟩ : ∃ M0, M0 = uI (uL C' 2017 0 0 v.toInt64) 1160 0 0 0 := ⟨_, rfl⟩
  have m0 : ∀ k i j, k ≠ 712 → k ≠ 103 → k ≠ 1160 → dkL.contains k = false → xI M0 k i j = xI Ω k i j := fun k i j a1 a2 a3 a4 => by rw [hM0, I_ne a3, L_I', p3.1 k i j a1 a2, f1 k i j a4]
  have h2 : RGD D C1 M0 := h1.mv (fun _ _ _ _ _ => rfl) (fun _ _ _ _ _ => rfl) (fun k hk _ i j => by
    obtain ⟨a1, a2, a3, a4⟩ := mky_no hk
    exact m0 k i j a1 a2 a3 a4) (fun k hk _ i j => by rw [hM0, L_uI, L_uL, if_neg (fun z => mkl_no hk z.1), p3.2, f3])
  have hk2 : hTKx D C1 M0 c (40 * c + dnt D c) x4 x6 := by
    unfold hTKx at hk ⊢
    simp only [m0 2114 _ _ (by decide) (by decide) (by decide) rfl, m0 2113 _ _ (by decide) (by decide) (by decide) rfl, m0 2115 _ _ (by decide) (by decide) (by decide) rfl]
    exact hk
  obtain ⟨v', C'', M', q1, q2, q3, q4, D', q5⟩ := dAdmit h2 hc hn k4 k6 hb hk2
  obtain ⟨rfl, rfl⟩ : v' = v ∧ C'' = C' := by
    have e := q1.symm.trans p1
    exact ⟨congrArg Prod.fst e, congrArg Prod.snd e⟩
  refine ⟨v', C'', M', p1, ?_, ?_, ?_, ?_, ⟨D', ?_⟩, ?_⟩
  · rw [k1, k2, k7, k8] at q2
    rw [← hM0]
    exact q2
  · rw [p3.1 _ _ _ (by decide) (by decide), f1 _ _ _ rfl, (h.NT c hc).2.1]
  · rw [q4.1 _ _ _ rfl, hM0, thr_t]
  · rw [q4.2, hM0, L_uI, L_uL, if_pos ⟨rfl, rfl, rfl⟩]
  · refine q5.mv (fun k hk _ i j => ?_) (fun k hk _ i j => ?_) (fun _ _ _ _ _ => rfl) (fun _ _ _ _ _ => rfl)
    · obtain ⟨a1, a2⟩ := cky_no hk
      rw [q4.1 k i j a2, hM0, I_ne a1, L_I']
    · rw [q4.2, hM0, L_uI, L_uL, if_neg (fun z => ckl_no hk z.1)]
  · exact h1.mv (fun _ _ _ _ _ => rfl) (fun _ _ _ _ _ => rfl) (fun k hk _ i j => by
      obtain ⟨a1, a2, a3, a4⟩ := mky_no hk
      rw [L_I', p3.1 k i j a1 a2, f1 k i j a4]) (fun k hk _ i j => by rw [L_uL, if_neg (fun z => mkl_no hk z.1), p3.2, f3])
/-- a number in a range -/
theorem rgN {x : Int32} {a b : Nat} (hb : b < 2147483648) (h1 : ¬ x < nI a) (h2 : ¬ nI b < x) (ha : a < 2147483648) : ∃ k, a ≤ k ∧ k ≤ b ∧ x = nI k := by
  rw [ti_lt, ti_nI ha] at h1
  rw [ti_lt, ti_nI hb] at h2
  obtain ⟨k, hk, e, e2⟩ := toI_nI (x := x) (by omega)
  refine ⟨k, ?_, ?_, e⟩
  · rw [e, ti_nI hk] at h1
    omega
  · rw [e, ti_nI hk] at h2
    omega
