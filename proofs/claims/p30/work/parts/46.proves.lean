theorem dRng (M Ω : XO) (x a b : Int32) : (fX11_in M x a b = some 1 ∧ eX10_demandRange Ω x a b = none ∧ ¬ x < a ∧ ¬ b < x) ∨ (fX11_in M x a b = some 0 ∧ eX10_demandRange Ω x a b = some xIA) := by
  by_cases h1 : x < a
  · refine Or.inr ⟨eIn0 (Or.inl h1), ?_⟩
    unfold eX10_demandRange
    rw [if_pos h1]
    rfl
  · by_cases h2 : b < x
    · refine Or.inr ⟨eIn0 (Or.inr h2), ?_⟩
      unfold eX10_demandRange
      rw [if_neg h1, if_pos h2]
      rfl
    · refine Or.inl ⟨eIn1 h1 h2, ?_, h1, h2⟩
      unfold eX10_demandRange
      rw [if_neg h1, if_neg h2]
theorem upx : ∀ k, k < 16 → ∀ r, r < 4 → ((nI k >>> (nI r &&& 31)) &&& 1 = 0 ↔ (nI k >>> (nI r &&& 31)) - (nI k >>> (nI r &&& 31)) / 2 * 2 = 0) := by decide +kernel
theorem eUp (M : XO) {k r : Nat} (hk : k < 16) (hr : r < 4) (x y : Int32) : fX11_up M x (nI r) (nI k) y = some (sJoin (nI k >>> (nI r &&& 31)) x y) := by
  unfold fX11_up sJoin
  by_cases h : (nI k >>> (nI r &&& 31)) &&& 1 = 0
  · rw [if_pos h, if_pos ((upx k hk r hr).mp h)]
    rfl
  · rw [if_neg h, if_neg (fun z => h ((upx k hk r hr).mpr z))]
    rfl
theorem sh0 : ∀ k, k < 16 → nI k >>> ((nI 0) &&& 31) = nI k := by decide +kernel
theorem pv_no {Ω : XO} {D : XD} (h : RGD D Ω Ω) {x1 x2 x3 x4 x5 x6 x7 x8 : Int32} (hc : fX10_proves Ω 0 x1 x2 x3 x4 x5 x6 x7 x8 = (.inr xIO, Ω)) (hm : fX11_proves Ω x1 x2 x3 x4 x5 x6 x7 x8 = some (0, uI Ω 1160 0 0 1)) : ∃ (r0 : (Option Value ⊕ String) × XO) (r q : Int32 × XO), fX10_proves Ω 0 x1 x2 x3 x4 x5 x6 x7 x8 = r0 ∧ hlp true [xIO, xIA] r0.1 r0.2 = some r ∧ fX11_proves r.2 x1 x2 x3 x4 x5 x6 x7 x8 = some q ∧ xI q.2 1160 0 0 = r.1 ∧ (r.1 = 0 → xL q.2 2017 0 0 = (if q.1 = 0 then 0 else 1)) ∧ RG q.2 :=
  ⟨_, (1, Ω), _, hc, rfl, hm, thr_t _ _, n10, ⟨D, h.thr _⟩⟩
theorem pv_na {Ω : XO} {D : XD} (h : RGD D Ω Ω) {x1 x2 x3 x4 x5 x6 x7 x8 : Int32} (hc : fX10_proves Ω 0 x1 x2 x3 x4 x5 x6 x7 x8 = (.inr xIA, Ω)) (hm : fX11_proves Ω x1 x2 x3 x4 x5 x6 x7 x8 = some (0, uI Ω 1160 0 0 2)) : ∃ (r0 : (Option Value ⊕ String) × XO) (r q : Int32 × XO), fX10_proves Ω 0 x1 x2 x3 x4 x5 x6 x7 x8 = r0 ∧ hlp true [xIO, xIA] r0.1 r0.2 = some r ∧ fX11_proves r.2 x1 x2 x3 x4 x5 x6 x7 x8 = some q ∧ xI q.2 1160 0 0 = r.1 ∧ (r.1 = 0 → xL q.2 2017 0 0 = (if q.1 = 0 then 0 else 1)) ∧ RG q.2 :=
  ⟨_, (2, Ω), _, hc, rfl, hm, thr_t _ _, n20, ⟨D, h.thr _⟩⟩
theorem nest5 {β : Type} (M : XO) (x4 x5 x6 x7 x8 : Int32) (K : Int32 → Option β) (R : Option β) (hK : ∀ j, K j = R) : (fX11_in M x4 (0 : Int32) (1000002 : Int32)).bind (fun r_6 => (((if r_6 = 0 then (some (0 : Int32)) else (fX11_in M x5 (0 : Int32) (1000002 : Int32)).bind (fun r_9 => (if r_9 = 0 then (some (0 : Int32)) else (fX11_in M x6 (0 : Int32) (1000002 : Int32)).bind (fun r_11 => (if r_11 = 0 then (some (0 : Int32)) else (fX11_in M x7 (0 : Int32) (1000002 : Int32)).bind (fun r_13 => (if r_13 = 0 then (some (0 : Int32)) else (fX11_in M x8 (0 : Int32) (1000002 : Int32)).bind (fun r_15 => (if r_15 = 0 then (some (0 : Int32)) else (some (1 : Int32))))))))))) : Option (Int32))).bind K) = R := by
  rcases dRng M M x4 0 1000002 with ⟨m4, -⟩ | ⟨m4, -⟩
  · rcases dRng M M x5 0 1000002 with ⟨m5, -⟩ | ⟨m5, -⟩
    · rcases dRng M M x6 0 1000002 with ⟨m6, -⟩ | ⟨m6, -⟩
      · rcases dRng M M x7 0 1000002 with ⟨m7, -⟩ | ⟨m7, -⟩
        · rcases dRng M M x8 0 1000002 with ⟨m8, -⟩ | ⟨m8, -⟩
          · simp only [m4, m5, m6, m7, m8, Option.bind_some, one_n0, if_false, hK]
          · simp only [m4, m5, m6, m7, m8, Option.bind_some, one_n0, if_false, if_true, hK]
        · simp only [m4, m5, m6, m7, Option.bind_some, one_n0, if_false, if_true, hK]
      · simp only [m4, m5, m6, Option.bind_some, one_n0, if_false, if_true, hK]
    · simp only [m4, m5, Option.bind_some, one_n0, if_false, if_true, hK]
  · simp only [m4, Option.bind_some, if_true, hK]
