def linkM (W : XO) (c nt : Nat) (x2 x3 x4 x5 x6 x7 x8 x9 : Int32) : XO := uI (uI (uI (uI (uI (uI (uI (uI (uI (uI W 2111 0 (40 * c + nt) x2) 2112 0 (40 * c + nt) x3) 2113 0 (40 * c + nt) x4) 2114 0 (40 * c + nt) x5) 2115 0 (40 * c + nt) x6) 2116 0 (40 * c + nt) x7) 2117 0 (40 * c + nt) x8) 2118 0 (40 * c + nt) x9) 1106 0 0 1) 2108 0 c (nI (nt + 1))
def linkC (W : XO) (c nt : Nat) : XO := uI (uI W 712 (40 * c + nt) 0 1) 103 c 0 (nI (nt + 1))
theorem eTail {W : XO} {c nt : Nat} {x2 x3 x4 x5 x6 x7 x8 x9 : Int32} (hc : c < 2) (hn : nt < 40) (e : xI W 2108 0 c = nI nt) : (if inB (nI c) 2 then (if inB (((40 : Int32) * (nI c)) + (xI W 2108 0 (nI c).toNatClampNeg)) 80 then (wl (uI W 2111 0 (((40 : Int32) * (nI c)) + (xI W 2108 0 (nI c).toNatClampNeg)).toNatClampNeg x2) (fun Ω_45 => (if inB (((40 : Int32) * (nI c)) + (xI W 2108 0 (nI c).toNatClampNeg)) 80 then (wl (uI Ω_45 2112 0 (((40 : Int32) * (nI c)) + (xI W 2108 0 (nI c).toNatClampNeg)).toNatClampNeg x3) (fun Ω_48 => (if inB (((40 : Int32) * (nI c)) + (xI W 2108 0 (nI c).toNatClampNeg)) 80 then (wl (uI Ω_48 2113 0 (((40 : Int32) * (nI c)) + (xI W 2108 0 (nI c).toNatClampNeg)).toNatClampNeg x4) (fun Ω_51 => (if inB (((40 : Int32) * (nI c)) + (xI W 2108 0 (nI c).toNatClampNeg)) 80 then (wl (uI Ω_51 2114 0 (((40 : Int32) * (nI c)) + (xI W 2108 0 (nI c).toNatClampNeg)).toNatClampNeg x5) (fun Ω_54 => (if inB (((40 : Int32) * (nI c)) + (xI W 2108 0 (nI c).toNatClampNeg)) 80 then (wl (uI Ω_54 2115 0 (((40 : Int32) * (nI c)) + (xI W 2108 0 (nI c).toNatClampNeg)).toNatClampNeg x6) (fun Ω_57 => (if inB (((40 : Int32) * (nI c)) + (xI W 2108 0 (nI c).toNatClampNeg)) 80 then (wl (uI Ω_57 2116 0 (((40 : Int32) * (nI c)) + (xI W 2108 0 (nI c).toNatClampNeg)).toNatClampNeg x7) (fun Ω_60 => (if inB (((40 : Int32) * (nI c)) + (xI W 2108 0 (nI c).toNatClampNeg)) 80 then (wl (uI Ω_60 2117 0 (((40 : Int32) * (nI c)) + (xI W 2108 0 (nI c).toNatClampNeg)).toNatClampNeg x8) (fun Ω_63 => (if inB (((40 : Int32) * (nI c)) + (xI W 2108 0 (nI c).toNatClampNeg)) 80 then (wl (uI Ω_63 2118 0 (((40 : Int32) * (nI c)) + (xI W 2108 0 (nI c).toNatClampNeg)).toNatClampNeg x9) (fun Ω_66 => (wl (uI Ω_66 1106 0 0 (1 : Int32)) (fun Ω_67 => (if inB (nI c) 2 then (if inB (nI c) 2 then (wl (uI Ω_67 2108 0 (nI c).toNatClampNeg ((xI Ω_67 2108 0 (nI c).toNatClampNeg) + (1 : Int32))) (fun Ω_71 => (if inB (nI c) 2 then (some ((xI Ω_71 2108 0 (nI c).toNatClampNeg) - (1 : Int32), Ω_71)) else none))) else none) else none))))) else none))) else none))) else none))) else none))) else none))) else none))) else none))) else none) else none) = some (nI nt, linkM W c nt x2 x3 x4 x5 x6 x7 x8 x9) := by
  obtain ⟨g1, g2, g3⟩ := inB_40c hc hn
  have hcl : (nI c).toNatClampNeg = c := cl_nI (by omega)
  have hin : inB (nI c) 2 := inB_nI hc (by decide)
  unfold wl
  simp only [hcl, e, if_pos hin, if_pos g1, g3]
  have e2 : xI (uI (uI (uI (uI (uI (uI (uI (uI (uI W 2111 0 (40 * c + nt) x2) 2112 0 (40 * c + nt) x3) 2113 0 (40 * c + nt) x4) 2114 0 (40 * c + nt) x5) 2115 0 (40 * c + nt) x6) 2116 0 (40 * c + nt) x7) 2117 0 (40 * c + nt) x8) 2118 0 (40 * c + nt) x9) 1106 0 0 1) 2108 0 c = nI nt := by
    rw [I_ne (by decide), I_ne (by decide), I_ne (by decide), I_ne (by decide), I_ne (by decide), I_ne (by decide), I_ne (by decide), I_ne (by decide), I_ne (by decide), e]
  rw [e2, nI_1, I_uI, if_pos ⟨rfl, rfl, rfl⟩, ← nI_1, Int32.add_sub_cancel]
  rw [nI_1]
  rfl
def hTBx (C : XO) (d : Nat) : Prop := ∃ s n v g m p : Nat, xI C 701 d 0 = nI s ∧ s < 6 ∧ xI C 702 d 0 = nI n ∧ n ≤ 9 ∧ xI C 704 d 0 = nI v ∧ v ≤ 10000 ∧ xI C 706 d 0 = nI g ∧ 20 ≤ g ∧ g ≤ 600 ∧ xI C 707 d 0 = nI m ∧ 1 ≤ m ∧ m ≤ 100 ∧ xI C 708 d 0 = nI p ∧ p ≤ m
def hTKx (D : XD) (C M : XO) (c d : Nat) (x4 x6 : Int32) : Prop := (xI C 709 d 0 = -1 ∧ ∃ g i : Nat, g < 24 ∧ i ≤ 9999 ∧ xI C 703 d 0 = nI g ∧ x4 = nI g ∧ xI C 705 d 0 = nI i ∧ x6 = nI i) ∨ (∃ k : Nat, k < dnt D (1 - c) ∧ xI C 709 d 0 = nI k ∧ xI C 703 d 0 = nI 15 ∧ xI C 705 d 0 = 0 ∧ xI C 704 d 0 = 0 ∧ x4 = nI 24 ∧ x6 = nI k ∧ xI C 710 d 0 = xI M 2114 0 (40 * (1 - c) + k) ∧ xI M 2113 0 (40 * (1 - c) + k) = nI 15 ∧ ∃ i : Nat, xI M 2115 0 (40 * (1 - c) + k) = nI i ∧ i ≤ 9999 ∧ xI C 711 d 0 = nI (i % 6))
theorem RGD_link {D : XD} {C M : XO} (h : RGD D C M) {c : Nat} (hc : c < 2) (hn : dnt D c < 40) {x2 x3 x4 x5 x6 x7 x8 x9 : Int32} (k1 : xI C 701 (40 * c + dnt D c) 0 = x2) (k2 : xI C 702 (40 * c + dnt D c) 0 = x3) (k4 : xI C 704 (40 * c + dnt D c) 0 = x5) (k6 : xI C 706 (40 * c + dnt D c) 0 = x7) (k7 : xI C 707 (40 * c + dnt D c) 0 = x8) (k8 : xI C 708 (40 * c + dnt D c) 0 = x9) (hb : hTBx C (40 * c + dnt D c)) (hk : hTKx D C M c (40 * c + dnt D c) x4 x6) : RGD (dPlus D c) (linkC C c (dnt D c)) (linkM M c (dnt D c) x2 x3 x4 x5 x6 x7 x8 x9) := by
  obtain ⟨nt, hnt⟩ : ∃ nt, nt = dnt D c := ⟨_, rfl⟩
  obtain ⟨d, hd⟩ : ∃ d, d = 40 * c + nt := ⟨_, rfl⟩
  obtain ⟨C', hC⟩ : ∃ C', C' = linkC C c (dnt D c) := ⟨_, rfl⟩
  obtain ⟨M', hM⟩ : ∃ M', M' = linkM M c (dnt D c) x2 x3 x4 x5 x6 x7 x8 x9 := ⟨_, rfl⟩
  rw [← hC, ← hM]
  rw [← hnt] at hC hM hn k1 k2 k4 k6 k7 k8 hb hk
  rw [← hd] at k1 k2 k4 k6 k7 k8 hb hk
  unfold linkC at hC
  unfold linkM at hM
  rw [← hd] at hC hM
  have cI : ∀ f i j, f ≠ 712 → f ≠ 103 → xI C' f i j = xI C f i j := fun f i j a1 a2 => by rw [hC, I_ne a2, I_ne a1]
  have c712 : ∀ i, xI C' 712 i 0 = if i = d then 1 else xI C 712 i 0 := fun i => by
    rw [hC, I_ne (by decide), I_uI]
    by_cases q : i = d
    · rw [if_pos ⟨rfl, q, rfl⟩, if_pos q]
    · rw [if_neg (fun z => q z.2.1), if_neg q]
  have c103 : ∀ i, xI C' 103 i 0 = if i = c then nI (nt + 1) else xI C 103 i 0 := fun i => by
    rw [hC, I_uI]
    by_cases q : i = c
    · rw [if_pos ⟨rfl, q, rfl⟩, if_pos q]
    · rw [if_neg (fun z => q z.2.1), if_neg q, I_ne (by decide)]
  have mI : ∀ f i j, ([2111, 2112, 2113, 2114, 2115, 2116, 2117, 2118, 1106, 2108] : List Nat).contains f = false → xI M' f i j = xI M f i j := by
    intro f i j hf
    obtain ⟨a1, hf⟩ := nc_ne hf
    obtain ⟨a2, hf⟩ := nc_ne hf
    obtain ⟨a3, hf⟩ := nc_ne hf
    obtain ⟨a4, hf⟩ := nc_ne hf
    obtain ⟨a5, hf⟩ := nc_ne hf
    obtain ⟨a6, hf⟩ := nc_ne hf
    obtain ⟨a7, hf⟩ := nc_ne hf
    obtain ⟨a8, hf⟩ := nc_ne hf
    obtain ⟨a9, hf⟩ := nc_ne hf
    obtain ⟨a10, hf⟩ := nc_ne hf
    rw [hM, I_ne a10, I_ne a9, I_ne a8, I_ne a7, I_ne a6, I_ne a5, I_ne a4, I_ne a3, I_ne a2, I_ne a1]
  have m1106 : xI M' 1106 0 0 = 1 := by rw [hM, I_ne (by decide), I_uI, if_pos ⟨rfl, rfl, rfl⟩]
  have m2108 : ∀ i, xI M' 2108 0 i = if i = c then nI (nt + 1) else xI M 2108 0 i := fun i => by
    rw [hM, I_uI]
    by_cases q : i = c
    · rw [if_pos ⟨rfl, rfl, q⟩, if_pos q]
    · rw [if_neg (fun z => q z.2.2), if_neg q, I_ne (by decide), I_ne (by decide), I_ne (by decide), I_ne (by decide), I_ne (by decide), I_ne (by decide), I_ne (by decide), I_ne (by decide), I_ne (by decide)]
  have mo : ∀ f j, f ≠ 1106 → f ≠ 2108 → j ≠ d → xI M' f 0 j = xI M f 0 j := fun f j a1 a2 hj => by
    have u : ∀ (W : XO) (k : Nat) (v : Int32), xI (uI W k 0 d v) f 0 j = xI W f 0 j := fun W k v => by rw [I_uI, if_neg (fun z => hj z.2.2)]
    rw [hM, I_ne a2, I_ne a1, u, u, u, u, u, u, u, u]
  have at1 : xI M' 2111 0 d = x2 := by rw [hM, I_ne (by decide), I_ne (by decide), I_ne (by decide), I_ne (by decide), I_ne (by decide), I_ne (by decide), I_ne (by decide), I_ne (by decide), I_ne (by decide), I_uI, if_pos ⟨rfl, rfl, rfl⟩]
  have at2 : xI M' 2112 0 d = x3 := by rw [hM, I_ne (by decide), I_ne (by decide), I_ne (by decide), I_ne (by decide), I_ne (by decide), I_ne (by decide), I_ne (by decide), I_ne (by decide), I_uI, if_pos ⟨rfl, rfl, rfl⟩]
  have at3 : xI M' 2113 0 d = x4 := by rw [hM, I_ne (by decide), I_ne (by decide), I_ne (by decide), I_ne (by decide), I_ne (by decide), I_ne (by decide), I_ne (by decide), I_uI, if_pos ⟨rfl, rfl, rfl⟩]
  have at4 : xI M' 2114 0 d = x5 := by rw [hM, I_ne (by decide), I_ne (by decide), I_ne (by decide), I_ne (by decide), I_ne (by decide), I_ne (by decide), I_uI, if_pos ⟨rfl, rfl, rfl⟩]
  have at5 : xI M' 2115 0 d = x6 := by rw [hM, I_ne (by decide), I_ne (by decide), I_ne (by decide), I_ne (by decide), I_ne (by decide), I_uI, if_pos ⟨rfl, rfl, rfl⟩]
  have at6 : xI M' 2116 0 d = x7 := by rw [hM, I_ne (by decide), I_ne (by decide), I_ne (by decide), I_ne (by decide), I_uI, if_pos ⟨rfl, rfl, rfl⟩]
  have at7 : xI M' 2117 0 d = x8 := by rw [hM, I_ne (by decide), I_ne (by decide), I_ne (by decide), I_uI, if_pos ⟨rfl, rfl, rfl⟩]
  have at8 : xI M' 2118 0 d = x9 := by rw [hM, I_ne (by decide), I_ne (by decide), I_uI, if_pos ⟨rfl, rfl, rfl⟩]
  have dn : ∀ c', dnt (dPlus D c) c' = if c' = c then dnt D c' + 1 else dnt D c' := fun c' => rfl
  have dle : ∀ c' t, t < dnt D c' → t < dnt (dPlus D c) c' := fun c' t ht => by
    rw [dn]; split <;> omega
  have dcase : ∀ c' t, t < dnt (dPlus D c) c' → (c' = c ∧ t = nt) ∨ (t < dnt D c' ∧ ¬ (c' = c ∧ t = nt)) := fun c' t ht => by
    rw [dn] at ht
    by_cases q : c' = c
    · rw [if_pos q] at ht
      subst q
      by_cases q2 : t = nt
      · exact Or.inl ⟨rfl, q2⟩
      · exact Or.inr ⟨by omega, fun z => q2 z.2⟩
    · rw [if_neg q] at ht
      exact Or.inr ⟨ht, fun z => q z.1⟩
  have dne : ∀ c' t, c' < 2 → t < 40 → ¬ (c' = c ∧ t = nt) → 40 * c' + t ≠ d := fun c' t h1 h2 h3 => by
    rw [hd]; exact idx_ne hc h1 h2 hn h3
  have h40 : ∀ c', c' < 2 → dnt D c' ≤ 40 := fun c' hc' => (h.NT c' hc').2.2
  refine h.bNT (fun k _ hk i j => ?_) (fun k _ _ i j => ?_) (fun k _ hk i j => mI k i j hk) (fun k _ _ i j => ?_) ?_ ?_ ?_ ?_ ?_ ?_ ?_ (fun c' hc' b' hb' h0 => (h.GH c' hc' b' hb' h0).mv (Nat.le_of_not_lt (fun z => Nat.lt_irrefl _ (dle _ _ z))) (cI 8 _ _ (by decide) (by decide)) (cI 5 _ _ (by decide) (by decide)) (cI 3 _ _ (by decide) (by decide)) (cI 2 _ _ (by decide) (by decide)) (fun j => cI 2000 _ _ (by decide) (by decide)) (fun x _ => ⟨mI 2100 _ _ rfl, mI 2100 _ _ rfl⟩) (fun _ => cI 104 _ _ (by decide) (by decide)) (fun _ k j hk => cI k _ _ (by omega) (by omega)) (fun k q h1 h2 _ => cI k _ _ (by omega) (by omega)))
  · obtain ⟨a1, hk⟩ := nc_ne hk
    exact cI k i j a1 (nc_ne hk).1
  · rw [hC, L_uI, L_uI]
  · rw [hM, L_uI, L_uI, L_uI, L_uI, L_uI, L_uI, L_uI, L_uI, L_uI, L_uI]
  · intro c' hc'
    have o := h.NT c' hc'
    rw [c103, m2108, dn]
    by_cases q : c' = c
    · rw [if_pos q, if_pos q, if_pos q, q, ← hnt]
      exact ⟨rfl, rfl, by omega⟩
    · rw [if_neg q, if_neg q, if_neg q]
      exact o
  · intro c' hc' b hb' j hj
    rw [cI 8 _ _ (by decide) (by decide)] at hj
    rw [cI 2000 _ _ (by decide) (by decide)]
    obtain ⟨u, t, e, w1, w2, w3, w4⟩ := h.RE c' hc' b hb' j hj
    exact ⟨u, t, e, w1, w2, dle _ _ w3, w4⟩
  · intro c' hc' t ht
    rw [cI 701 _ _ (by decide) (by decide), cI 702 _ _ (by decide) (by decide), cI 704 _ _ (by decide) (by decide), cI 706 _ _ (by decide) (by decide), cI 707 _ _ (by decide) (by decide), cI 708 _ _ (by decide) (by decide)]
    rcases dcase c' t ht with ⟨q1, q2⟩ | ⟨q1, q2⟩
    · rw [q1, q2, ← hd, at1, at2, at4, at6, at7, at8]
      exact ⟨k1, k2, k4, k6, k7, k8⟩
    · have hj := dne c' t hc' (by have := h40 c' hc'; omega) q2
      rw [mo 2111 _ (by decide) (by decide) hj, mo 2112 _ (by decide) (by decide) hj, mo 2114 _ (by decide) (by decide) hj, mo 2116 _ (by decide) (by decide) hj, mo 2117 _ (by decide) (by decide) hj, mo 2118 _ (by decide) (by decide) hj]
      exact h.TX c' hc' t q1
  · intro c' hc' t ht
    rw [cI 701 _ _ (by decide) (by decide), cI 702 _ _ (by decide) (by decide), cI 704 _ _ (by decide) (by decide), cI 706 _ _ (by decide) (by decide), cI 707 _ _ (by decide) (by decide), cI 708 _ _ (by decide) (by decide)]
    rcases dcase c' t ht with ⟨q1, q2⟩ | ⟨q1, q2⟩
    · rw [q1, q2, ← hd]
      exact hb
    · exact h.TB c' hc' t q1
  · intro c' hc' t ht
    rw [cI 709 _ _ (by decide) (by decide), cI 703 _ _ (by decide) (by decide), cI 704 _ _ (by decide) (by decide), cI 705 _ _ (by decide) (by decide), cI 710 _ _ (by decide) (by decide), cI 711 _ _ (by decide) (by decide)]
    have hk' : ∀ k, k < dnt D (1 - c') → 40 * (1 - c') + k ≠ d := fun k hk2 => dne (1 - c') k (by omega) (by have := h40 (1 - c') (by omega); omega) (fun z => by rw [z.1, ← hnt] at hk2; omega)
    rcases dcase c' t ht with ⟨q1, q2⟩ | ⟨q1, q2⟩
    · rcases hk with o | ⟨k, o1, o2⟩
      · rw [q1, q2, ← hd, at3, at5]
        exact Or.inl o
      · rw [q1, q2, ← hd, at3, at5]
        rw [q1] at hk'
        refine Or.inr ⟨k, dle _ _ o1, ?_⟩
        rw [mo 2114 _ (by decide) (by decide) (hk' k o1), mo 2113 _ (by decide) (by decide) (hk' k o1), mo 2115 _ (by decide) (by decide) (hk' k o1)]
        exact o2
    · have hj := dne c' t hc' (by have := h40 c' hc'; omega) q2
      rw [mo 2113 _ (by decide) (by decide) hj, mo 2115 _ (by decide) (by decide) hj]
      rcases h.TK c' hc' t q1 with o | ⟨k, o1, o2⟩
      · exact Or.inl o
      · refine Or.inr ⟨k, dle _ _ o1, ?_⟩
        rw [mo 2114 _ (by decide) (by decide) (hk' k o1), mo 2113 _ (by decide) (by decide) (hk' k o1), mo 2115 _ (by decide) (by decide) (hk' k o1)]
        exact o2
  · intro c' hc'
    have o := h.LV c' hc'
    refine ⟨fun t ht => ?_, fun t h1 h2 => ?_⟩
    · rw [c712, mI 2119 _ _ rfl]
      rcases dcase c' t ht with ⟨q1, q2⟩ | ⟨q1, q2⟩
      · rw [if_pos (by rw [q1, q2, hd])]
        exact Or.inl ⟨rfl, (o.2 t (by rw [q1, q2, hnt]; exact Nat.le_refl _) (by omega)).2⟩
      · rw [if_neg (dne c' t hc' (by have := h40 c' hc'; omega) q2)]
        exact o.1 t q1
    · have hge : dnt D c' ≤ t := by
        rw [dn] at h1
        split at h1 <;> omega
      have hq : ¬ (c' = c ∧ t = nt) := fun z => by
        rw [dn, if_pos z.1, z.1, ← hnt] at h1
        omega
      rw [c712, mI 2119 _ _ rfl, if_neg (dne c' t hc' h2 hq)]
      exact o.2 t hge h2
  · refine ⟨⟨fun z => ?_, fun z => ?_⟩, Or.inr m1106⟩
    · rw [m1106] at z
      exact absurd z (by decide)
    · have z0 := z.1
      have z1 := z.2
      rw [dn] at z0 z1
      rcases (show c = 0 ∨ c = 1 by omega) with q | q
      · rw [if_pos q.symm] at z0
        omega
      · rw [if_pos q.symm] at z1
        omega
