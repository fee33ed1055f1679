theorem mky_no2 {k : Nat} (h : mky k = true) : k ≠ 1160 ∧ k ≠ 14 ∧ k ≠ 15 ∧ k ≠ 201 ∧ k ≠ 801 ∧ k ≠ 802 ∧ k ≠ 900 ∧ k ≠ 901 ∧ k ≠ 902 ∧ k ≠ 903 := by
  unfold mky at h
  have h2 := List.contains_iff_mem.mp h
  simp only [List.mem_cons, List.not_mem_nil, or_false] at h2
  rcases h2 with rfl | h2
  · decide
  repeat (rcases h2 with rfl | h2; · decide)
theorem cky_no2 {k : Nat} (h : cky k = true) : k ≠ 1160 ∧ k ≠ 2133 ∧ k ≠ 2134 ∧ k ≠ 2110 ∧ k ≠ 2135 ∧ k ≠ 2136 ∧ k ≠ 2137 ∧ k ≠ 2138 ∧ k ≠ 2139 := by
  unfold cky at h
  have h2 := List.contains_iff_mem.mp h
  simp only [List.mem_cons, List.not_mem_nil, or_false] at h2
  rcases h2 with rfl | h2
  · decide
  repeat (rcases h2 with rfl | h2; · decide)
/-- a vote over one world: the class first, then the reference -/
theorem vFinish {D : XD} {Ω : XO} (h : RGD D Ω Ω) {c v s t n : Nat} (hc : c < 2) (hv : v < 8) (hvc : v / 4 = c) (hs : s < dnb D c) (ht : t < dnb D c) (hn : xI Ω 801 v 0 = nI n) (hn2 : n < 20) (h82 : xI Ω 802 v 0 = 0) (hanc : Anc (dpa D c) t s) (hst : s ≠ t) : ∃ a C1 C', a ≤ 1 ∧ fX8_give Ω v (24 * c + s) (24 * c + t) = (if a = 0 then 1 else 0, C1) ∧ fX2_settle C1 c c = some C' ∧ ∀ w : Int64, RGD D Ω (uL C' 2017 0 0 w) ∧ ∃ M', eVote (uI (uL C' 2017 0 0 w) 1160 0 0 0) (nI c) (nI s) (nI t) (nI v) = some (if a = 0 then 1 else 0, M') ∧ xI M' 1160 0 0 = 0 ∧ xL M' 2017 0 0 = w ∧ RG M' := by
  obtain ⟨a, C1, C', -, -, p0, p1, p2, -, -, p3, p4, -, -⟩ := dVoteAll h hc hv hvc hs ht hn hn2 h82 hanc hst
  refine ⟨a, C1, C', p0, p1, p2, fun w => ?_⟩
  have hW : RGD D Ω (uL C' 2017 0 0 w) := h.mv (fun _ _ _ _ _ => rfl) (fun _ _ _ _ _ => rfl) (fun k hk _ i j => by
    obtain ⟨-, a2, a3, a4, a5, a6, a7, a8, a9, a10⟩ := mky_no2 hk
    rw [L_I', p3 k i j a2 a3 a4 a5 a6 a7 a8 a9 a10]) (fun k hk _ i j => by rw [L_uL, if_neg (fun z => mkl_no hk z.1), p4])
  obtain ⟨M0, hM0⟩ : ∃ M0, M0 = uI (uL C' 2017 0 0 w) 1160 0 0 0 := ⟨_, rfl⟩
  have hM : RGD D Ω M0 := hW.mv (fun _ _ _ _ _ => rfl) (fun _ _ _ _ _ => rfl) (fun k hk _ i j => by rw [hM0, I_ne (mky_no2 hk).1]) (fun k hk _ i j => by rw [hM0, L_uI])
  obtain ⟨a', C1', C'', M', D', q0, q1, q2, q3, q4, -, -, q5, q6⟩ := dVoteAll hM hc hv hvc hs ht hn hn2 h82 hanc hst
  have e := q1.symm.trans p1
  have e1 : C1' = C1 := congrArg Prod.snd e
  have e2 : a' = a := by
    have : (if a' = 0 then (1 : Int32) else 0) = (if a = 0 then 1 else 0) := congrArg Prod.fst e
    rcases (show a' = 0 ∨ a' = 1 by omega) with rfl | rfl <;> rcases (show a = 0 ∨ a = 1 by omega) with rfl | rfl
    · rfl
    · exact absurd this one_n0
    · exact absurd this.symm one_n0
    · rfl
  subst e1
  subst e2
  have e3 : C'' = C' := Option.some.inj (q2.symm.trans p2)
  subst e3
  refine ⟨hW, M', by rw [← hM0]; exact q3, ?_, ?_, D', ?_⟩
  · rw [q5 _ _ _ (by decide) (by decide) (by decide) (by decide) (by decide) (by decide) (by decide) (by decide), hM0, thr_t]
  · rw [q6, hM0, L_uI, L_uL, if_pos ⟨rfl, rfl, rfl⟩]
  · refine q4.mv (fun k hk _ i j => ?_) (fun k hk _ i j => ?_) (fun _ _ _ _ _ => rfl) (fun _ _ _ _ _ => rfl)
    · obtain ⟨a1, a2, a3, a4, a5, a6, a7, a8, a9⟩ := cky_no2 hk
      rw [q5 k i j a2 a3 a4 a5 a6 a7 a8 a9, hM0, I_ne a1, L_I']
    · rw [q6, hM0, L_uI, L_uL, if_neg (fun z => ckl_no hk z.1)]
