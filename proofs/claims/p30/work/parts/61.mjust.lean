theorem beh18_cg {M M' : XO} (hag : ∀ f i j, f ≠ 2133 → f ≠ 2134 → xI M' f i j = xI M f i j) (y5 y4 y1 y2 y3 : Int32) : ∀ n y7 y6, fX11_behind_l18 M' y5 y4 y1 y2 y3 n y7 y6 = fX11_behind_l18 M y5 y4 y1 y2 y3 n y7 y6 := by
  have h5 : ∀ i j, xI M' 2135 i j = xI M 2135 i j := fun i j => hag _ i j (by decide) (by decide)
  have h6 : ∀ i j, xI M' 2136 i j = xI M 2136 i j := fun i j => hag _ i j (by decide) (by decide)
  have h7 : ∀ i j, xI M' 2137 i j = xI M 2137 i j := fun i j => hag _ i j (by decide) (by decide)
  have h8 : ∀ i j, xI M' 2138 i j = xI M 2138 i j := fun i j => hag _ i j (by decide) (by decide)
  intro n
  induction n with
  | zero => exact fun _ _ => rfl
  | succ n ih =>
    intro y7 y6
    rw [fX11_behind_l18, fX11_behind_l18]
    simp only [h5, h6, h7, h8, ih]
theorem beh6_cg {M M' : XO} (hag : ∀ f i j, f ≠ 2133 → f ≠ 2134 → xI M' f i j = xI M f i j) (y1 y2 y3 : Int32) : ∀ n y5 y4, fX11_behind_l6 M' y1 y2 y3 n y5 y4 = fX11_behind_l6 M y1 y2 y3 n y5 y4 := by
  have h8 : ∀ i j, xI M' 2138 i j = xI M 2138 i j := fun i j => hag _ i j (by decide) (by decide)
  have h9 : ∀ i j, xI M' 2139 i j = xI M 2139 i j := fun i j => hag _ i j (by decide) (by decide)
  intro n
  induction n with
  | zero => exact fun _ _ => rfl
  | succ n ih =>
    intro y5 y4
    rw [fX11_behind_l6, fX11_behind_l6]
    simp only [beh18_cg hag, h8, h9, ih]
theorem beh_cg {M M' : XO} (hag : ∀ f i j, f ≠ 2133 → f ≠ 2134 → xI M' f i j = xI M f i j) (y1 y2 y3 : Int32) : fX11_behind M' y1 y2 y3 = fX11_behind M y1 y2 y3 := by
  unfold fX11_behind
  rw [beh6_cg hag]
def JMl (M : XO) (c s : Nat) : Prop := xI M 2133 0 (24 * c + s) = 1
def LMl (M : XO) (c s t : Nat) : Prop := xI M 2134 0 (576 * c + 24 * s + t) = 1
/-- a link written: v1 for itself, v2 for its target -/
def mSet (M : XO) (c s t : Nat) (v1 v2 : Int32) : XO := uI (uI M 2134 0 (576 * c + 24 * s + t) v1) 2133 0 (24 * c + t) v2
theorem mSet_L (M : XO) {c s t s' t' : Nat} {v1 v2 : Int32} (ht : t < 24) (ht' : t' < 24) : xI (mSet M c s t v1 v2) 2134 0 (576 * c + 24 * s' + t') = if s' = s ∧ t' = t then v1 else xI M 2134 0 (576 * c + 24 * s' + t') := by
  unfold mSet
  rw [I_ne (by decide), I_uI]
  by_cases q : s' = s ∧ t' = t
  · rw [if_pos q, if_pos ⟨rfl, rfl, by rw [q.1, q.2]⟩]
  · rw [if_neg q, if_neg (fun z => q (by have := z.2.2; omega))]
theorem mSet_J (M : XO) {c s t t' : Nat} {v1 v2 : Int32} : xI (mSet M c s t v1 v2) 2133 0 (24 * c + t') = if t' = t then v2 else xI M 2133 0 (24 * c + t') := by
  unfold mSet
  rw [I_uI]
  by_cases q : t' = t
  · rw [if_pos q, if_pos ⟨rfl, rfl, by rw [q]⟩]
  · rw [if_neg q, if_neg (fun z => q (by have := z.2.2; omega)), I_ne (by decide)]
def mInv (M M' : XO) (c : Nat) (K : Nat → Nat → Prop) : Prop := (∀ f i j, f ≠ 2133 → f ≠ 2134 → xI M' f i j = xI M f i j) ∧ (∀ f i j, xL M' f i j = xL M f i j) ∧ ((∀ j, (∀ s, s < 24 → j ≠ 24 * c + s) → xI M' 2133 0 j = xI M 2133 0 j) ∧ (∀ j, (∀ s t, s < 24 → t < 24 → j ≠ 576 * c + 24 * s + t) → xI M' 2134 0 j = xI M 2134 0 j)) ∧ ((∀ s, s < 24 → xI M' 2133 0 (24 * c + s) = 0 ∨ xI M' 2133 0 (24 * c + s) = 1) ∧ ∀ s t, s < 24 → t < 24 → xI M' 2134 0 (576 * c + 24 * s + t) = 0 ∨ xI M' 2134 0 (576 * c + 24 * s + t) = 1) ∧ (∀ s t, s < 24 → t < 24 → LMl M' c s t → JMl M' c s ∧ JMl M' c t) ∧ (∀ s, s < 24 → JMl M c s → JMl M' c s) ∧ (∀ s t, s < 24 → t < 24 → LMl M c s t → LMl M' c s t) ∧ ∀ (L1 : Nat → Nat → Prop) (J1 : Nat → Prop), Clo K L1 J1 → (∀ s, s < 24 → JMl M c s → J1 s) → (∀ s t, s < 24 → t < 24 → LMl M c s t → L1 s t) → (∀ s, s < 24 → JMl M' c s → J1 s) ∧ ∀ s t, s < 24 → t < 24 → LMl M' c s t → L1 s t
/-- a write that sets both, or one that changes nothing -/
theorem mInv_step {M M' : XO} {c s t : Nat} {v1 v2 : Int32} {K : Nat → Nat → Prop} (h : mInv M M' c K) (hs : s < 24) (ht : t < 24) (hv : (v1 = 1 ∧ v2 = 1 ∧ JMl M' c s ∧ K s t) ∨ (v1 = xI M' 2134 0 (576 * c + 24 * s + t) ∧ v2 = xI M' 2133 0 (24 * c + t))) : mInv M (mSet M' c s t v1 v2) c K := by
  obtain ⟨i1, i2, i3, i4, i5, i6, i7, i8⟩ := h
  have hJ : ∀ t', JMl (mSet M' c s t v1 v2) c t' → JMl M' c t' ∨ (t' = t ∧ JMl M' c s ∧ K s t) := by
    intro t' z
    unfold JMl at z
    rw [mSet_J] at z
    by_cases q : t' = t
    · rw [if_pos q] at z
      rcases hv with ⟨-, -, h3, h4⟩ | ⟨-, h2⟩
      · exact Or.inr ⟨q, h3, h4⟩
      · rw [h2] at z
        rw [q]
        exact Or.inl z
    · rw [if_neg q] at z
      exact Or.inl z
  have hL : ∀ s' t', t' < 24 → LMl (mSet M' c s t v1 v2) c s' t' → LMl M' c s' t' ∨ (s' = s ∧ t' = t ∧ JMl M' c s ∧ K s t ∧ v2 = 1) := by
    intro s' t' ht' z
    unfold LMl at z
    rw [mSet_L M' ht ht'] at z
    by_cases q : s' = s ∧ t' = t
    · rw [if_pos q] at z
      rcases hv with ⟨-, h2, h3, h4⟩ | ⟨h1, -⟩
      · exact Or.inr ⟨q.1, q.2, h3, h4, h2⟩
      · rw [h1] at z
        rw [q.1, q.2]
        exact Or.inl z
    · rw [if_neg q] at z
      exact Or.inl z
  have hJ2 : ∀ t', JMl M' c t' → JMl (mSet M' c s t v1 v2) c t' := by
    intro t' z
    unfold JMl at z ⊢
    rw [mSet_J]
    by_cases q : t' = t
    · rw [if_pos q]
      rcases hv with ⟨-, h2, -⟩ | ⟨-, h2⟩
      · exact h2
      · rw [h2, ← q]
        exact z
    · rw [if_neg q]
      exact z
  have hL2 : ∀ s' t', t' < 24 → LMl M' c s' t' → LMl (mSet M' c s t v1 v2) c s' t' := by
    intro s' t' ht' z
    unfold LMl at z ⊢
    rw [mSet_L M' ht ht']
    by_cases q : s' = s ∧ t' = t
    · rw [if_pos q]
      rcases hv with ⟨h1, -⟩ | ⟨h1, -⟩
      · exact h1
      · rw [h1, ← q.1, ← q.2]
        exact z
    · rw [if_neg q]
      exact z
  refine ⟨fun f i j a1 a2 => ?_, fun f i j => ?_, ⟨fun j hj => ?_, fun j hj => ?_⟩, ⟨fun s' hs' => ?_, fun s' t' hs' ht' => ?_⟩, fun s' t' hs' ht' z => ?_, fun s' hs' z => hJ2 s' (i6 s' hs' z), fun s' t' hs' ht' z => hL2 s' t' ht' (i7 s' t' hs' ht' z), fun L1 J1 hc hj hl => ?_⟩
  · unfold mSet
    rw [I_ne a1, I_ne a2, i1 f i j a1 a2]
  · unfold mSet
    rw [L_uI, L_uI, i2]
  · unfold mSet
    rw [I_uI, if_neg (fun z => hj t ht z.2.2), I_ne (by decide), i3.1 j hj]
  · unfold mSet
    rw [I_ne (by decide), I_uI, if_neg (fun z => hj s t hs ht z.2.2), i3.2 j hj]
  · rw [mSet_J]
    by_cases q : s' = t
    · rw [if_pos q]
      rcases hv with ⟨-, h2, -⟩ | ⟨-, h2⟩
      · exact Or.inr h2
      · rw [h2]
        exact i4.1 t ht
    · rw [if_neg q]
      exact i4.1 s' hs'
  · rw [mSet_L M' ht ht']
    by_cases q : s' = s ∧ t' = t
    · rw [if_pos q]
      rcases hv with ⟨h1, -⟩ | ⟨h1, -⟩
      · exact Or.inr h1
      · rw [h1]
        exact i4.2 s t hs ht
    · rw [if_neg q]
      exact i4.2 s' t' hs' ht'
  · rcases hL s' t' ht' z with y | ⟨rfl, rfl, y1, y2, y3⟩
    · have := i5 s' t' hs' ht' y
      exact ⟨hJ2 _ this.1, hJ2 _ this.2⟩
    · refine ⟨hJ2 _ y1, ?_⟩
      unfold JMl
      rw [mSet_J, if_pos rfl, y3]
  · obtain ⟨k1, k2⟩ := i8 L1 J1 hc hj hl
    refine ⟨fun s' hs' z => ?_, fun s' t' hs' ht' z => ?_⟩
    · rcases hJ s' z with y | ⟨rfl, y1, y2⟩
      · exact k1 s' hs' y
      · exact (hc s s' hs ht (k1 s hs y1) y2).2
    · rcases hL s' t' ht' z with y | ⟨rfl, rfl, y1, y2, -⟩
      · exact k2 s' t' hs' ht' y
      · exact (hc s' t' hs ht (k1 s' hs y1) y2).1
/-- how many links aren't just -/
def opnM (M : XO) (c : Nat) : Nat := sumN (fun k => if xI M 2134 0 (576 * c + k) = 0 then 1 else 0) 576
theorem opnM_le (M : XO) (c : Nat) : opnM M c ≤ 576 := sumN_le1 576 (fun k _ => by
  split <;> omega)
theorem opnM_idle (M : XO) {c s t : Nat} {v2 : Int32} (hs : s < 24) (ht : t < 24) : opnM (mSet M c s t (xI M 2134 0 (576 * c + 24 * s + t)) v2) c ≤ opnM M c := by
  refine sumN_le 576 (fun k hk => ?_)
  have e : 576 * c + k = 576 * c + 24 * (k / 24) + k % 24 := by omega
  rw [e, mSet_L M ht (Nat.mod_lt _ (by decide))]
  by_cases q : k / 24 = s ∧ k % 24 = t
  · rw [if_pos q, q.1, q.2]
    exact Nat.le_refl _
  · rw [if_neg q]
    exact Nat.le_refl _
theorem opnM_go (M : XO) {c s t : Nat} {v2 : Int32} (hs : s < 24) (ht : t < 24) (h0 : xI M 2134 0 (576 * c + 24 * s + t) = 0) : opnM (mSet M c s t 1 v2) c < opnM M c := by
  refine sumN_lt 576 (24 * s + t) (by omega) ?_ (fun k hk => ?_)
  · have e : 576 * c + (24 * s + t) = 576 * c + 24 * s + t := by omega
    have e1 : xI (mSet M c s t 1 v2) 2134 0 (576 * c + 24 * s + t) = 1 := by rw [mSet_L M ht ht, if_pos ⟨rfl, rfl⟩]
    rw [e, e1, h0, if_neg one_n0, if_pos rfl]
    decide
  · have e : 576 * c + k = 576 * c + 24 * (k / 24) + k % 24 := by omega
    rw [e, mSet_L M ht (Nat.mod_lt _ (by decide))]
    by_cases q : k / 24 = s ∧ k % 24 = t
    · rw [if_pos q, if_neg one_n0]
      exact Nat.zero_le _
    · rw [if_neg q]
      exact Nat.le_refl _
