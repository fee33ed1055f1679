theorem sumN_le {f g : Nat → Nat} : ∀ n, (∀ k, k < n → f k ≤ g k) → sumN f n ≤ sumN g n
  | 0, _ => Nat.le_refl _
  | n + 1, h => Nat.add_le_add (sumN_le n (fun k hk => h k (by omega))) (h n (by omega))
theorem sumN_lt {f g : Nat → Nat} : ∀ n k0, k0 < n → f k0 < g k0 → (∀ k, k < n → f k ≤ g k) → sumN f n < sumN g n
  | 0, k0, h0, _, _ => absurd h0 (by omega)
  | n + 1, k0, h0, h1, h => by
    show sumN f n + f n < sumN g n + g n
    by_cases q : k0 = n
    · subst q
      have := sumN_le k0 (fun k hk => h k (by omega))
      omega
    · have := sumN_lt n k0 (by omega) h1 (fun k hk => h k (by omega))
      have := h n (by omega)
      omega
theorem sumN_le1 {f : Nat → Nat} : ∀ n, (∀ k, k < n → f k ≤ 1) → sumN f n ≤ n
  | 0, _ => Nat.le_refl _
  | n + 1, h => by
    have := sumN_le1 n (fun k hk => h k (by omega))
    have := h n (by omega)
    show sumN f n + f n ≤ n + 1
    omega
/-- votes whose link isn't just yet; k: a place among the chain's 80 -/
def opn (C C' : XO) (c k : Nat) : Nat := if nI (k % 20) < xI C 801 (4 * c + k / 20) 0 then (if ((xI C' 15 (24 * c + (xI C 900 (80 * c + k) 0).toNatClampNeg) 0) >>> ((xI C 901 (80 * c + k) 0) &&& 31)) &&& 1 = 1 then 0 else 1) else 0
def JCl (C : XO) (c s : Nat) : Prop := xI C 14 (24 * c + s) 0 = 1
def LCl (C : XO) (c s t : Nat) : Prop := b32 (xI C 15 (24 * c + s) 0) t
theorem setJ_15 (C : XO) (c s t s' : Nat) : xI (setJ C c s t) 15 (24 * c + s') 0 = if s' = s then xI C 15 (24 * c + s) 0 ||| ((1 : Int32) <<< (nI t &&& 31)) else xI C 15 (24 * c + s') 0 := by
  unfold setJ
  rw [I_ne (by decide), I_uI]
  by_cases q : s' = s
  · rw [if_pos q, if_pos ⟨rfl, by rw [q], rfl⟩]
  · rw [if_neg q, if_neg (fun z => q (by have := z.2.1; omega))]
theorem setJ_14 (C : XO) (c s t t' : Nat) : xI (setJ C c s t) 14 (24 * c + t') 0 = if t' = t then 1 else xI C 14 (24 * c + t') 0 := by
  unfold setJ
  rw [I_uI]
  by_cases q : t' = t
  · rw [if_pos q, if_pos ⟨rfl, by rw [q], rfl⟩]
  · rw [if_neg q, if_neg (fun z => q (by have := z.2.1; omega)), I_ne (by decide)]
theorem setJ_L (C : XO) {c s t s' t' : Nat} (ht : t < 24) (ht' : t' < 24) : LCl (setJ C c s t) c s' t' ↔ LCl C c s' t' ∨ (s' = s ∧ t' = t) := by
  unfold LCl
  rw [setJ_15]
  by_cases q : s' = s
  · rw [if_pos q, b32_set (by omega) (by omega), q]
    exact ⟨fun z => z.imp id (fun y => ⟨rfl, y⟩), fun z => z.imp id (fun y => y.2)⟩
  · rw [if_neg q]
    exact ⟨fun z => Or.inl z, fun z => z.elim id (fun y => absurd y.1 q)⟩
theorem setJ_J (C : XO) {c s t t' : Nat} : JCl (setJ C c s t) c t' ↔ JCl C c t' ∨ t' = t := by
  unfold JCl
  rw [setJ_14]
  by_cases q : t' = t
  · rw [if_pos q]
    exact ⟨fun _ => Or.inr q, fun _ => rfl⟩
  · rw [if_neg q]
    exact ⟨fun z => Or.inl z, fun z => z.elim id (fun y => absurd y q)⟩
/-- closed under a rule K for links -/
def Clo (K J : Nat → Nat → Prop) (J1 : Nat → Prop) : Prop := ∀ s t, s < 24 → t < 24 → J1 s → K s t → J s t ∧ J1 t
/-- what class's settling keeps: K the links that carry -/
def sInv (C C' : XO) (c : Nat) (K : Nat → Nat → Prop) : Prop := (∀ f i j, f ≠ 14 → f ≠ 15 → xI C' f i j = xI C f i j) ∧ (∀ f i j, xL C' f i j = xL C f i j) ∧ ((∀ f i j, (∀ s, s < 24 → i ≠ 24 * c + s) → xI C' f i j = xI C f i j) ∧ ∀ b, (∀ t, ¬ K b t) → xI C' 15 (24 * c + b) 0 = xI C 15 (24 * c + b) 0) ∧ (∀ s, s < 24 → xI C' 14 (24 * c + s) 0 = 0 ∨ xI C' 14 (24 * c + s) 0 = 1) ∧ (∀ s t, s < 24 → t < 24 → LCl C' c s t → JCl C' c s ∧ JCl C' c t) ∧ (∀ s, s < 24 → JCl C c s → JCl C' c s) ∧ (∀ s t, s < 24 → t < 24 → LCl C c s t → LCl C' c s t) ∧ ∀ (L1 : Nat → Nat → Prop) (J1 : Nat → Prop), Clo K L1 J1 → (∀ s, s < 24 → JCl C c s → J1 s) → (∀ s t, s < 24 → t < 24 → LCl C c s t → L1 s t) → (∀ s, s < 24 → JCl C' c s → J1 s) ∧ ∀ s t, s < 24 → t < 24 → LCl C' c s t → L1 s t
theorem sInv_step {C C' : XO} {c s t : Nat} {K : Nat → Nat → Prop} (h : sInv C C' c K) (hs : s < 24) (ht : t < 24) (h1 : ¬ xI C' 14 (24 * c + s) 0 = 0) (hK : K s t) : sInv C (setJ C' c s t) c K := by
  obtain ⟨i1, i2, i3, i4, i5, i6, i7, i8⟩ := h
  have hJs : JCl C' c s := by
    rcases i4 s hs with z | z
    · exact absurd z h1
    · exact z
  refine ⟨fun f i j a1 a2 => ?_, fun f i j => ?_, ⟨fun f i j hi => ?_, fun b hb => ?_⟩, fun s' hs' => ?_, fun s' t' hs' ht' hl => ?_, fun s' hs' hj => ?_, fun s' t' hs' ht' hl => ?_, fun L1 J1 hc hj hl => ?_⟩
  · unfold setJ
    rw [I_ne a1, I_ne a2, i1 f i j a1 a2]
  · unfold setJ
    rw [L_uI, L_uI, i2]
  · unfold setJ
    rw [I_uI, if_neg (fun z => hi t ht z.2.1), I_uI, if_neg (fun z => hi s hs z.2.1), i3.1 f i j hi]
  · rw [setJ_15, if_neg (fun z => hb t (by rw [z]; exact hK)), i3.2 b hb]
  · rw [setJ_14]
    by_cases q : s' = t
    · rw [if_pos q]
      exact Or.inr rfl
    · rw [if_neg q]
      exact i4 s' hs'
  · rw [setJ_J, setJ_J]
    rcases (setJ_L C' ht ht').mp hl with z | ⟨rfl, rfl⟩
    · have := i5 s' t' hs' ht' z
      exact ⟨Or.inl this.1, Or.inl this.2⟩
    · exact ⟨Or.inl hJs, Or.inr rfl⟩
  · exact setJ_J C' |>.mpr (Or.inl (i6 s' hs' hj))
  · exact (setJ_L C' ht ht').mpr (Or.inl (i7 s' t' hs' ht' hl))
  · obtain ⟨k1, k2⟩ := i8 L1 J1 hc hj hl
    have hst := hc s t hs ht (k1 s hs hJs) hK
    refine ⟨fun s' hs' z => ?_, fun s' t' hs' ht' z => ?_⟩
    · rcases (setJ_J C').mp z with y | rfl
      · exact k1 s' hs' y
      · exact hst.2
    · rcases (setJ_L C' ht ht').mp z with y | ⟨rfl, rfl⟩
      · exact k2 s' t' hs' ht' y
      · exact hst.1
def opnS (C C' : XO) (c : Nat) : Nat := sumN (opn C C' c) 80
theorem opn_step {C C' : XO} {c v p s t : Nat} (hv : v < 4) (hp : p < 20) (h801 : nI p < xI C 801 (4 * c + v) 0) (hg : vGoes C C' c (4 * c + v) p s t) (hvo : ∀ k, k < 4 → ∀ p, nI p < xI C 801 (4 * c + k) 0 → p < 20 → ∃ s t, s < 24 ∧ t < 24 ∧ vMat C (4 * c + k) p s t) : opnS C (setJ C' c s t) c < opnS C C' c := by
  show sumN (opn C (setJ C' c s t) c) 80 < sumN (opn C C' c) 80
  obtain ⟨hs, ht, hm, g1, g2, g3⟩ := hg
  have hval : ∀ k, k < 80 → nI (k % 20) < xI C 801 (4 * c + k / 20) 0 → ∃ s' t', s' < 24 ∧ t' < 24 ∧ ∀ W, opn C W c k = if nI (k % 20) < xI C 801 (4 * c + k / 20) 0 then (if ((xI W 15 (24 * c + s') 0) >>> (nI t' &&& 31)) &&& 1 = 1 then 0 else 1) else 0 := by
    intro k hk h1
    obtain ⟨s', t', a1, a2, a3⟩ := hvo (k / 20) (by omega) (k % 20) h1 (Nat.mod_lt _ (by decide))
    refine ⟨s', t', a1, a2, fun W => ?_⟩
    unfold opn
    have e : 80 * c + k = 20 * (4 * c + k / 20) + k % 20 := by omega
    rw [e, a3.1, a3.2, cl_nI (by omega)]
  refine sumN_lt 80 (20 * v + p) (by omega) ?_ (fun k hk => ?_)
  · have e1 : (20 * v + p) % 20 = p := by omega
    have e2 : (20 * v + p) / 20 = v := by omega
    have e3 : 80 * c + (20 * v + p) = 20 * (4 * c + v) + p := by omega
    unfold opn
    rw [e1, e2, e3, hm.1, hm.2, cl_nI (by omega), if_pos h801, if_pos h801]
    have n1 : ¬ ((xI C' 15 (24 * c + s) 0) >>> (nI t &&& 31)) &&& 1 = 1 := g1
    have n2 : ((xI (setJ C' c s t) 15 (24 * c + s) 0) >>> (nI t &&& 31)) &&& 1 = 1 := (setJ_L C' ht ht).mpr (Or.inr ⟨rfl, rfl⟩)
    rw [if_neg n1, if_pos n2]
    decide
  · by_cases h1 : nI (k % 20) < xI C 801 (4 * c + k / 20) 0
    · obtain ⟨s', t', a1, a2, a3⟩ := hval k hk h1
      rw [a3, a3, if_pos h1, if_pos h1]
      by_cases q : ((xI C' 15 (24 * c + s') 0) >>> (nI t' &&& 31)) &&& 1 = 1
      · have q2 : ((xI (setJ C' c s t) 15 (24 * c + s') 0) >>> (nI t' &&& 31)) &&& 1 = 1 := (setJ_L C' ht a2).mpr (Or.inl q)
        rw [if_pos q, if_pos q2]
        exact Nat.le_refl _
      · rw [if_neg q]
        split <;> omega
    · unfold opn
      rw [if_neg h1, if_neg h1]
      exact Nat.le_refl _
theorem opn_le (C C' : XO) (c : Nat) : opnS C C' c ≤ 80 := sumN_le1 80 (fun k _ => by
  unfold opn
  split
  · split <;> omega
  · omega)
/-- class's settling up to the final block: all that follows is just, and nothing else -/
theorem cSettle {C : XO} {c : Nat} {K : Nat → Nat → Prop} (mm : Nat → Nat) (hm : ∀ k, k < 4 → vCnt C (4 * c + k) (mm k)) (hm3 : ∀ k, k < 4 → ∀ p, p < mm k → nI p < xI C 801 (4 * c + k) 0) (hvo : ∀ k, k < 4 → ∀ p, nI p < xI C 801 (4 * c + k) 0 → p < 20 → ∃ s t, s < 24 ∧ t < 24 ∧ vMat C (4 * c + k) p s t) (hK1 : ∀ k p s t, k < 4 → p < mm k → s < 24 → t < 24 → vMat C (4 * c + k) p s t → ¬ fX2_carries C c (20 * (4 * c + k) + p) = 0 → K s t) (hK2 : ∀ s t, s < 24 → t < 24 → K s t → ∃ k p, k < 4 ∧ p < mm k ∧ vMat C (4 * c + k) p s t ∧ ¬ fX2_carries C c (20 * (4 * c + k) + p) = 0) : ∀ (n j : Nat) (C' : XO), n = 101 - j → opnS C C' c + j ≤ 80 → sInv C C' c K → ∃ a b C'', fX2_settle_l4 c c n (nI j) 1 C' = some (a, b, C'') ∧ sInv C C'' c K ∧ Clo K (LCl C'' c) (JCl C'' c) := by
  intro n
  induction n with
  | zero => exact fun j C' hn hj hi => absurd hj (by omega)
  | succ n ih =>
    intro j C' hn hj hi
    have hj2 : j ≤ 80 := by omega
    rw [fX2_settle_l4, if_neg one_n0, if_neg (show ¬ (100 : Int32) ≤ nI j from nI_ge (b := 100) (by omega) (by decide))]
    have hvo2 : ∀ k, k < 4 → ∀ p, p < mm k → ∃ s t, s < 24 ∧ t < 24 ∧ vMat C (4 * c + k) p s t := fun k hk p hp => hvo k hk p (hm3 k hk p hp) (by have := (hm k hk).2; omega)
    rcases cOne hi.1 mm hm hvo2 with ⟨k, p, s, t, w1, w2, w3, w4⟩ | ⟨w1, w2⟩
    · rw [ob_s w4]
      have hlt := opn_step w1 (by have := (hm k w1).2; omega) (hm3 k w1 p w2) w3 hvo
      obtain ⟨hs, ht, hmat, g1, g2, g3⟩ := w3
      have hst := sInv_step hi hs ht g2 (hK1 k p s t w1 w2 hs ht hmat g3)
      rw [nI_1]
      exact ih (j + 1) (setJ C' c s t) (by omega) (by omega) hst
    · rw [ob_s w2]
      obtain ⟨n', rfl⟩ : ∃ n', n = n' + 1 := ⟨n - 1, by omega⟩
      refine ⟨_, _, C', by rw [fX2_settle_l4, if_pos rfl], hi, ?_⟩
      intro s t hs ht hJ hKst
      obtain ⟨k, p, v1, v2, v3, v4⟩ := hK2 s t hs ht hKst
      rcases w1 k v1 p v2 s t hs ht v3 with z | z | z
      · exact ⟨z, (hi.2.2.2.2.1 s t hs ht z).2⟩
      · unfold JCl at hJ
        rw [hJ] at z
        exact absurd z one_n0
      · exact absurd z v4
