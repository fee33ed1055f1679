theorem counting_cg {C C' : XO} (hag : ∀ f i j, f ≠ 14 → f ≠ 15 → xI C' f i j = xI C f i j) (v : Nat) : fX8_countingVotes C' v = fX8_countingVotes C v := by
  unfold fX8_countingVotes
  rw [hag 802 _ _ (by decide) (by decide), hag 801 _ _ (by decide) (by decide)]
theorem sup_cg {C C' : XO} (hag : ∀ f i j, f ≠ 14 → f ≠ 15 → xI C' f i j = xI C f i j) (v q : Nat) : ∀ n k, fX8_supports_l C' v q n k = fX8_supports_l C v q n k
  | 0, k => rfl
  | n + 1, k => by
    have e : ∀ x, fX8_voteAt C' v x = fX8_voteAt C v x := fun x => rfl
    rw [fX8_supports_l, fX8_supports_l, counting_cg hag, e, hag 900 _ _ (by decide) (by decide), hag 900 _ _ (by decide) (by decide), hag 901 _ _ (by decide) (by decide), hag 901 _ _ (by decide) (by decide), sup_cg hag v q n (k + 1)]
theorem car_cg_l {C C' : XO} (hag : ∀ f i j, f ≠ 14 → f ≠ 15 → xI C' f i j = xI C f i j) (c q : Nat) : ∀ n k y3 y2, fX2_carries_l C' c q n k y3 y2 = fX2_carries_l C c q n k y3 y2
  | 0, k, y3, y2 => rfl
  | n + 1, k, y3, y2 => by
    have e1 : ∀ v, fX8_supports C' v q = fX8_supports C v q := fun v => by
      unfold fX8_supports
      rw [counting_cg hag, sup_cg hag]
    have e2 : ∀ v, fX8_stakeNow C' v = fX8_stakeNow C v := fun v => by
      unfold fX8_stakeNow
      rw [hag 802 _ _ (by decide) (by decide)]
    rw [fX2_carries_l, fX2_carries_l, e1, e2, car_cg_l hag c q n (k + 1), car_cg_l hag c q n (k + 1)]
theorem car_cg {C C' : XO} (hag : ∀ f i j, f ≠ 14 → f ≠ 15 → xI C' f i j = xI C f i j) (c q : Nat) : fX2_carries C' c q = fX2_carries C c q := car_cg_l hag c q _ _ _ _
/-- a link made just: its bit, and its target -/
def setJ (C : XO) (c s t : Nat) : XO := uI (uI C 15 (24 * c + s) 0 (xI C 15 (24 * c + s) 0 ||| ((1 : Int32) <<< (nI t &&& 31)))) 14 (24 * c + t) 0 1
theorem cJust {C C' : XO} (hag : ∀ f i j, f ≠ 14 → f ≠ 15 → xI C' f i j = xI C f i j) {c q s t : Nat} (hs : s < 24) (ht : t < 24) (h1 : xI C 900 q 0 = nI s) (h2 : xI C 901 q 0 = nI t) : (fX2_justify C' c c q = (0, C') ∧ (b32 (xI C' 15 (24 * c + s) 0) t ∨ xI C' 14 (24 * c + s) 0 = 0 ∨ fX2_carries C c q = 0)) ∨ (fX2_justify C' c c q = (1, setJ C' c s t) ∧ ¬ b32 (xI C' 15 (24 * c + s) 0) t ∧ ¬ xI C' 14 (24 * c + s) 0 = 0 ∧ ¬ fX2_carries C c q = 0) := by
  unfold fX2_justify
  rw [hag 900 _ _ (by decide) (by decide), hag 901 _ _ (by decide) (by decide), h1, h2, if_neg (nI_nlt0 (by omega)), if_neg (show ¬ nI (alen 2002) ≤ nI s from nI_ge (b := 24) hs (by decide)), if_neg (nI_nlt0 (by omega)), if_pos (show nI t < nI (alen 2002) from nI_lt (b := 24) ht (by decide)), cl_nI (by omega), cl_nI (by omega), car_cg hag]
  by_cases q1 : b32 (xI C' 15 (24 * c + s) 0) t
  · refine Or.inl ⟨?_, Or.inl q1⟩
    rw [if_pos (show ((xI C' 15 (24 * c + s) 0) >>> (nI t &&& 31)) &&& 1 = 1 from q1), if_neg one_n0]
  · have q1' : ¬ ((xI C' 15 (24 * c + s) 0) >>> (nI t &&& 31)) &&& 1 = 1 := q1
    rw [if_neg q1', if_pos rfl]
    by_cases q2 : xI C' 14 (24 * c + s) 0 = 0
    · exact Or.inl ⟨if_pos q2, Or.inr (Or.inl q2)⟩
    · rw [if_neg q2]
      by_cases q3 : fX2_carries C c q = 0
      · exact Or.inl ⟨if_pos q3, Or.inr (Or.inr q3)⟩
      · exact Or.inr ⟨if_neg q3, q1, q2, q3⟩
/-- the votes of a validator that count, p of them -/
def vCnt (C : XO) (v m : Nat) : Prop := fX8_countingVotes C v = nI m ∧ m ≤ 20
/-- a vote that changes nothing -/
def vIdle (C C' : XO) (c v p : Nat) : Prop := ∀ s t, s < 24 → t < 24 → vMat C v p s t → (b32 (xI C' 15 (24 * c + s) 0) t ∨ xI C' 14 (24 * c + s) 0 = 0 ∨ fX2_carries C c (20 * v + p) = 0)
def vGoes (C C' : XO) (c v p s t : Nat) : Prop := s < 24 ∧ t < 24 ∧ vMat C v p s t ∧ ¬ b32 (xI C' 15 (24 * c + s) 0) t ∧ ¬ xI C' 14 (24 * c + s) 0 = 0 ∧ ¬ fX2_carries C c (20 * v + p) = 0
theorem cOne_in {C C' : XO} (hag : ∀ f i j, f ≠ 14 → f ≠ 15 → xI C' f i j = xI C f i j) {c v m : Nat} {y4 y3 : Int32} {y2 : Nat} (hm : vCnt C v m) (hvo : ∀ p, p < m → ∃ s t, s < 24 ∧ t < 24 ∧ vMat C v p s t) : ∀ (n p : Nat), p ≤ m → m + 1 ≤ p + n → (∃ p' s t, p' < m ∧ vGoes C C' c v p' s t ∧ fX2_justifyOne_l26 v y4 y3 y2 c c n (nI p) C' = some (.inl (1, setJ C' c s t))) ∨ ((∀ p', p ≤ p' → p' < m → vIdle C C' c v p') ∧ fX2_justifyOne_l26 v y4 y3 y2 c c n (nI p) C' = some (.inr (nI m, C')))
  | 0, p, hp, hn => absurd hn (by omega)
  | n + 1, p, hp, hn => by
    have hm2 := hm.2
    rw [fX2_justifyOne_l26, counting_cg hag, hm.1]
    by_cases q : p = m
    · refine Or.inr ⟨fun p' g1 g2 => absurd g1 (by omega), ?_⟩
      rw [if_pos (by rw [q]; exact Int32.le_refl _), q]
    · have hlt : p < m := by omega
      obtain ⟨s, t, hs, ht, hmat⟩ := hvo p hlt
      rw [if_neg (nI_ge hlt (by omega)), voteAt_nI C' (by omega)]
      rcases cJust hag (c := c) hs ht hmat.1 hmat.2 with ⟨e, hi⟩ | ⟨e, g1, g2, g3⟩
      · rw [e, if_pos rfl, nI_1]
        have hidle : vIdle C C' c v p := by
          intro s' t' hs' ht' hmat'
          have e1 : s' = s := (nI_eq (by omega) (by omega)).mp (hmat'.1.symm.trans hmat.1)
          have e2 : t' = t := (nI_eq (by omega) (by omega)).mp (hmat'.2.symm.trans hmat.2)
          rw [e1, e2]
          exact hi
        rcases cOne_in hag hm hvo n (p + 1) (by omega) (by omega) with ⟨p', s', t', r1, r2, r3⟩ | ⟨r1, r2⟩
        · exact Or.inl ⟨p', s', t', r1, r2, r3⟩
        · refine Or.inr ⟨fun p' w1 w2 => ?_, r2⟩
          by_cases z : p' = p
          · rw [z]
            exact hidle
          · exact r1 p' (by omega) w2
      · refine Or.inl ⟨p, s, t, hlt, ⟨hs, ht, hmat, g1, g2, g3⟩, ?_⟩
        rw [e, if_neg one_n0]
/-- one look over all votes -/
theorem cOne {C C' : XO} (hag : ∀ f i j, f ≠ 14 → f ≠ 15 → xI C' f i j = xI C f i j) {c : Nat} (mm : Nat → Nat) (hm : ∀ k, k < 4 → vCnt C (4 * c + k) (mm k)) (hvo : ∀ k, k < 4 → ∀ p, p < mm k → ∃ s t, s < 24 ∧ t < 24 ∧ vMat C (4 * c + k) p s t) : (∃ k p s t, k < 4 ∧ p < mm k ∧ vGoes C C' c (4 * c + k) p s t ∧ fX2_justifyOne C' c c = some (1, setJ C' c s t)) ∨ ((∀ k, k < 4 → ∀ p, p < mm k → vIdle C C' c (4 * c + k) p) ∧ fX2_justifyOne C' c c = some (0, C')) := by
  have hl : ∀ (n k : Nat), k ≤ 4 → 5 ≤ k + n → (∃ k' p s t, k' < 4 ∧ p < mm k' ∧ vGoes C C' c (4 * c + k') p s t ∧ fX2_justifyOne_l11 (nI (alen 2004)) c c c n (nI k) C' = some (.inl (1, setJ C' c s t))) ∨ ((∀ k', k ≤ k' → k' < 4 → ∀ p, p < mm k' → vIdle C C' c (4 * c + k') p) ∧ fX2_justifyOne_l11 (nI (alen 2004)) c c c n (nI k) C' = some (.inr (nI 4, C'))) := by
    intro n
    induction n with
    | zero => exact fun k h1 h2 => absurd h2 (by omega)
    | succ n ih =>
      intro k h1 h2
      rw [fX2_justifyOne_l11]
      by_cases q : k = 4
      · subst q
        exact Or.inr ⟨fun k' g1 g2 => absurd g1 (by omega), if_pos (show nI (alen 2004) ≤ nI 4 by decide)⟩
      · have hk : k < 4 := by omega
        rw [if_neg (show ¬ nI (alen 2004) ≤ nI k from nI_ge (b := 4) hk (by decide)), if_pos (inB_nI hk (by decide)), cl_nI (by omega)]
        have hm2 := (hm k hk).2
        rcases cOne_in hag (c := c) (y4 := nI k) (y3 := nI (alen 2004)) (y2 := c) (hm k hk) (hvo k hk) 21 0 (Nat.zero_le _) (by omega) with ⟨p, s, t, r1, r2, r3⟩ | ⟨r1, r2⟩
        · refine Or.inl ⟨k, p, s, t, hk, r1, r2, ?_⟩
          have r3' : fX2_justifyOne_l26 (4 * c + k) (nI k) (nI (alen 2004)) c c c 21 (0 : Int32) C' = some (.inl (1, setJ C' c s t)) := r3
          rw [ob_s r3']
          rfl
        · have r2' : fX2_justifyOne_l26 (4 * c + k) (nI k) (nI (alen 2004)) c c c 21 (0 : Int32) C' = some (.inr (nI (mm k), C')) := r2
          rw [ob_s r2', Sum.elim_inr]
          dsimp only
          rw [nI_1]
          rcases ih (k + 1) (by omega) (by omega) with ⟨k', p, s, t, w1, w2, w3, w4⟩ | ⟨w1, w2⟩
          · exact Or.inl ⟨k', p, s, t, w1, w2, w3, w4⟩
          · refine Or.inr ⟨fun k' g1 g2 p hp => ?_, w2⟩
            by_cases z : k' = k
            · subst z
              exact r1 p (Nat.zero_le _) hp
            · exact w1 k' (by omega) g2 p hp
  unfold fX2_justifyOne
  rcases hl 5 0 (by decide) (by decide) with ⟨k, p, s, t, w1, w2, w3, w4⟩ | ⟨w1, w2⟩
  · refine Or.inl ⟨k, p, s, t, w1, w2, w3, ?_⟩
    have w4' : fX2_justifyOne_l11 (nI (alen 2004)) c c c ((nI (alen 2004)).toNatClampNeg + 1) (0 : Int32) C' = some (.inl (1, setJ C' c s t)) := w4
    rw [ob_s w4']
    rfl
  · refine Or.inr ⟨fun k hk p hp => w1 k (Nat.zero_le _) hk p hp, ?_⟩
    have w2' : fX2_justifyOne_l11 (nI (alen 2004)) c c c ((nI (alen 2004)).toNatClampNeg + 1) (0 : Int32) C' = some (.inr (nI 4, C')) := w2
    rw [ob_s w2']
    rfl
