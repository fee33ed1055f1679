/-- class: a first block -/
theorem cBF (g : Nat) : (∀ f i j, ¬ (i = g ∧ (f = 2011 ∨ f = 2012 ∨ f = 2013 ∨ f = 2014 ∨ f = 604 ∨ f = 16 ∨ f = 14 ∨ f = 12)) → xI (fX0_becomeFirst oA g) f i j = xI oA f i j) ∧ (∀ f i j, ¬ (f = 605 ∧ i = g) → xL (fX0_becomeFirst oA g) f i j = 0) ∧ (∀ j, j < 16 → xI (fX0_becomeFirst oA g) 2011 g j = (if j < 6 then 10000 else if j = 15 then 20000 else 0) ∧ xI (fX0_becomeFirst oA g) 2012 g j = 0 ∧ xI (fX0_becomeFirst oA g) 2013 g j = 0) ∧ (∀ j, j < 64 → xI (fX0_becomeFirst oA g) 2014 g j = 0) ∧ xI (fX0_becomeFirst oA g) 604 g 0 = 0 ∧ xL (fX0_becomeFirst oA g) 605 g 0 = 0 ∧ xI (fX0_becomeFirst oA g) 16 g 0 = 1 ∧ xI (fX0_becomeFirst oA g) 14 g 0 = 1 ∧ xI (fX0_becomeFirst oA g) 12 g 0 = fX10_nodeOver (fX0_becomeFirst oA g) g (4 : Int32) (0 : Int32) := by
  obtain ⟨C', e, k1, k2, k3, k4, k5, k6⟩ := cFirstG (uI (uI oA 16 g 0 (1 : Int32)) 14 g 0 (1 : Int32)) g
  have h10 : xI C' 10 g 0 = 0 := by
    rw [k1 _ _ _ (by omega), I_ne (by decide), I_ne (by decide)]
    rfl
  have hB : fX0_becomeFirst oA g = uI C' 12 g 0 (fX10_nodeOver C' g (4 : Int32) (0 : Int32)) := by
    unfold fX0_becomeFirst fX0_seal
    rw [e, fX0_seal_l, h10, if_pos (show (0 : Int32) ≤ nI 0 by decide)]
  rw [hB]
  refine ⟨fun f i j hf => ?_, fun f i j hf => ?_, fun j hj => ?_, fun j hj => ?_, ?_, ?_, ?_, ?_, ?_⟩
  · rw [I_uI, if_neg (fun y => hf ⟨y.2.1, by omega⟩), k1 _ _ _ (fun y => hf ⟨y.1, by omega⟩), I_uI, if_neg (fun y => hf ⟨y.2.1, by omega⟩), I_uI, if_neg (fun y => hf ⟨y.2.1, by omega⟩)]
  · rw [L_uI, k2 _ _ _ hf, L_uI, L_uI]
    rfl
  · rw [I_ne (by decide), I_ne (by decide), I_ne (by decide)]
    exact k3 j hj
  · rw [I_ne (by decide)]
    exact k4 j hj
  · rw [I_ne (by decide), k5]
  · rw [L_uI, k6]
  · rw [I_ne (by decide), k1 _ _ _ (by omega), I_ne (by decide), I_uI, if_pos ⟨rfl, rfl, rfl⟩]
  · rw [I_ne (by decide), k1 _ _ _ (by omega), I_uI, if_pos ⟨rfl, rfl, rfl⟩]
  · rw [I_uI, if_pos ⟨rfl, rfl, rfl⟩]
    exact (node_cg (fun j _ => I_ne (by decide)) (fun j _ => I_ne (by decide)) (fun j _ => I_ne (by decide)) (fun j _ => I_ne (by decide))).symm
theorem oI_is (f i j : Nat) : xI oI f i j = if (ik f, i) ∈ tCh 1 then xI (fX0_becomeFirst oA 24) f i j else if (ik f, i) ∈ tCh 0 then xI (fX0_becomeFirst oA 0) f i j else xI oA f i j := rfl
theorem oI_isL (f i j : Nat) : xL oI f i j = if (ik f, i) ∈ tCh 1 then xL (fX0_becomeFirst oA 24) f i j else if (ik f, i) ∈ tCh 0 then xL (fX0_becomeFirst oA 0) f i j else xL oA f i j := rfl
theorem oI_old {f i j : Nat} (h : ¬ ((i = 0 ∨ i = 24) ∧ (f = 2011 ∨ f = 2012 ∨ f = 2013 ∨ f = 2014 ∨ f = 604 ∨ f = 16 ∨ f = 14 ∨ f = 12))) : xI oI f i j = xI oA f i j := by
  rw [oI_is, (cBF 24).1 f i j (fun y => h ⟨Or.inr y.1, y.2⟩), (cBF 0).1 f i j (fun y => h ⟨Or.inl y.1, y.2⟩)]
  by_cases z : (ik f, i) ∈ tCh 1
  · rw [if_pos z]
  · rw [if_neg z]
    by_cases z2 : (ik f, i) ∈ tCh 0
    · rw [if_pos z2]
    · rw [if_neg z2]
theorem oI_oldL {f i j : Nat} (h : ¬ (f = 605 ∧ (i = 0 ∨ i = 24))) : xL oI f i j = 0 := by
  rw [oI_isL, (cBF 24).2.1 f i j (fun y => h ⟨y.1, Or.inr y.2⟩), (cBF 0).2.1 f i j (fun y => h ⟨y.1, Or.inl y.2⟩)]
  by_cases z : (ik f, i) ∈ tCh 1
  · rw [if_pos z]
  · rw [if_neg z]
    by_cases z2 : (ik f, i) ∈ tCh 0
    · rw [if_pos z2]
    · rw [if_neg z2]
      rfl
theorem tCh_in : ∀ c, c < 2 → ∀ f, f = 2011 ∨ f = 2012 ∨ f = 2013 ∨ f = 2014 ∨ f = 6 ∨ f = 0 → (f, 24 * c) ∈ tCh c ∧ (c = 0 → (f, 24 * c) ∉ tCh 1) := by
  intro c hc f hf
  rcases (show c = 0 ∨ c = 1 by omega) with rfl | rfl <;> rcases hf with rfl | rfl | rfl | rfl | rfl | rfl <;> decide +kernel
theorem oI_at {c f j : Nat} (hc : c < 2) (hf : ik f = 2011 ∨ ik f = 2012 ∨ ik f = 2013 ∨ ik f = 2014 ∨ ik f = 6 ∨ ik f = 0) : xI oI f (24 * c) j = xI (fX0_becomeFirst oA (24 * c)) f (24 * c) j ∧ xL oI f (24 * c) j = xL (fX0_becomeFirst oA (24 * c)) f (24 * c) j := by
  obtain ⟨h1, h2⟩ := tCh_in c hc (ik f) hf
  rw [oI_is, oI_isL]
  rcases (show c = 0 ∨ c = 1 by omega) with rfl | rfl
  · rw [if_neg (h2 rfl), if_neg (h2 rfl), if_pos h1, if_pos h1]
    exact ⟨rfl, rfl⟩
  · rw [if_pos h1, if_pos h1]
    exact ⟨rfl, rfl⟩
