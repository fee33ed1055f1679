/-- one vote against the new one: heights hs1, ht1, target t1 against hs, ht, t -/
def clB (hs ht hs1 ht1 t t1 : Int32) : Bool := (decide (ht = ht1) && !decide (t = t1)) || (decide (¬ hs1 ≤ hs) && decide (¬ ht ≤ ht1)) || (decide (¬ hs ≤ hs1) && decide (¬ ht1 ≤ ht))
def b01 (b : Bool) : Int32 := if b = true then 1 else 0
theorem cSur (W : XO) (i i1 : Nat) : fX9_surrounds W i i1 = b01 (decide (¬ xI W 902 i1 0 ≤ xI W 902 i 0) && decide (¬ xI W 903 i 0 ≤ xI W 903 i1 0)) := by
  unfold fX9_surrounds b01
  by_cases q1 : xI W 902 i1 0 ≤ xI W 902 i 0
  · rw [if_pos q1]
    simp [q1]
  · rw [if_neg q1]
    by_cases q2 : xI W 903 i 0 ≤ xI W 903 i1 0
    · rw [if_pos q2]
      simp [q2]
    · rw [if_neg q2]
      simp [q1, q2]
theorem b01_0 {b : Bool} : b01 b = 0 ↔ b = false := by
  cases b <;> decide
theorem cClash (W : XO) (i i1 : Nat) : fX9_clashesWith W i i1 = b01 (clB (xI W 902 i 0) (xI W 903 i 0) (xI W 902 i1 0) (xI W 903 i1 0) (xI W 901 i 0) (xI W 901 i1 0)) := by
  unfold fX9_clashesWith
  rw [cSur, cSur]
  unfold clB
  obtain ⟨p, hp⟩ : ∃ p, p = (decide (¬ xI W 902 i1 0 ≤ xI W 902 i 0) && decide (¬ xI W 903 i 0 ≤ xI W 903 i1 0)) := ⟨_, rfl⟩
  obtain ⟨p', hp'⟩ : ∃ p', p' = (decide (¬ xI W 902 i 0 ≤ xI W 902 i1 0) && decide (¬ xI W 903 i1 0 ≤ xI W 903 i 0)) := ⟨_, rfl⟩
  rw [← hp, ← hp']
  by_cases q1 : xI W 903 i 0 = xI W 903 i1 0
  · rw [if_pos q1, decide_eq_true q1]
    by_cases q2 : xI W 901 i 0 = xI W 901 i1 0
    · rw [if_pos q2, decide_eq_true q2]
      cases p <;> cases p' <;> decide
    · rw [if_neg q2, decide_eq_false q2]
      cases p <;> cases p' <;> decide
  · rw [if_neg q1, decide_eq_false q1, Bool.false_and]
    cases p <;> cases p' <;> decide
theorem mSur {M : XO} {c s t s1 t1 : Nat} (hc : c < 2) (hs : s < 24) (ht : t < 24) (hs1 : s1 < 24) (ht1 : t1 < 24) : fX11_surrounds M (nI c) (nI s) (nI t) (nI s1) (nI t1) = some (b01 (decide (¬ xI M 2121 0 (24 * c + s1) ≤ xI M 2121 0 (24 * c + s)) && decide (¬ xI M 2121 0 (24 * c + t) ≤ xI M 2121 0 (24 * c + t1)))) := by
  obtain ⟨g1, -, g2⟩ := inB_24 hc hs
  obtain ⟨g3, -, g4⟩ := inB_24 hc ht
  obtain ⟨g5, -, g6⟩ := inB_24 hc hs1
  obtain ⟨g7, -, g8⟩ := inB_24 hc ht1
  unfold fX11_surrounds b01
  rw [if_pos g1, if_pos g5, g2, g6, if_pos g3, if_pos g7, g4, g8]
  by_cases q1 : xI M 2121 0 (24 * c + s1) ≤ xI M 2121 0 (24 * c + s)
  · rw [if_pos q1]
    simp [q1]
  · rw [if_neg q1]
    by_cases q2 : xI M 2121 0 (24 * c + t) ≤ xI M 2121 0 (24 * c + t1)
    · rw [if_pos q2]
      simp [q2]
    · rw [if_neg q2]
      simp [q1, q2]
/-- the new vote against the old ones, on both sides: class's world W, its vote at slot q -/
theorem dGive_l {D : XD} {C M : XO} (h : RGD D C M) {c v s t n q i1 i2 : Nat} (hc : c < 2) (hv : v < 8) (hvc : v / 4 = c) (hs : s < dnb D c) (ht : t < dnb D c) (hn : xI C 801 v 0 = nI n) (hn2 : n < 20) : ∀ (fu k a : Nat) (W : XO), fu = n - k + 1 → k ≤ n → a ≤ 1 → xI W 801 v 0 = nI n → (∀ p, p < n → xI W 901 (20 * v + p) 0 = xI C 901 (20 * v + p) 0 ∧ xI W 902 (20 * v + p) 0 = xI C 902 (20 * v + p) 0 ∧ xI W 903 (20 * v + p) 0 = xI C 903 (20 * v + p) 0) → xI W 901 q 0 = nI t → xI W 902 q 0 = xI M 2121 0 (24 * c + s) → xI W 903 q 0 = xI M 2121 0 (24 * c + t) → xI W 802 v 0 = nI a → ∃ a' W', a' ≤ 1 ∧ fX8_give_l v i1 i2 fu k q W = (if a' = 0 then 1 else 0, uI W' 801 v 0 (nI (n + 1))) ∧ (∀ f i j, f ≠ 802 → xI W' f i j = xI W f i j) ∧ (∀ i, i ≠ v → xI W' 802 i 0 = xI W 802 i 0) ∧ (∀ f i j, xL W' f i j = xL W f i j) ∧ xI W' 802 v 0 = nI a' ∧ ∃ z, fX11_vote_l141 M (nI c) (nI s) (nI t) (nI v) fu (nI k) (nI a) = some (z, nI a') := by
  have hnb := (h.NB c hc).2.2.2
  obtain ⟨⟨a0, -, -⟩, -⟩ := h.VA v hv
  intro fu
  induction fu with
  | zero => exact fun k a W hfu _ _ _ _ _ _ _ _ => absurd hfu (by omega)
  | succ fu ih =>
    intro k a W hfu hk ha h801 hold h901 h902 h903 h802
    rw [fX8_give_l, h801, fX11_vote_l141, if_pos (inB_nI hv (by decide)), cl_nI (show v < 2147483648 by omega), ← a0, hn]
    by_cases e : k = n
    · rw [if_pos (show nI n ≤ nI k by rw [e]; exact Int32.le_refl _), if_pos (show nI n ≤ nI k by rw [e]; exact Int32.le_refl _)]
      refine ⟨a, W, ha, ?_, fun _ _ _ _ => rfl, fun _ _ => rfl, fun _ _ _ => rfl, h802, nI k, rfl⟩
      rw [I_ne (show (802 : Nat) ≠ 801 by decide), h802, nI_1]
      by_cases y : a = 0
      · rw [if_pos (show nI a = 0 by rw [y]; rfl), if_pos y]
      · rw [if_neg (nI_ne0 (by omega) (by omega)), if_neg y]
    · have hkn : k < n := by omega
      obtain ⟨d1, d2⟩ := inB_20 hv (show k < 20 by omega)
      obtain ⟨s1, t1, w1, w2, w3, w4, w5, w6, w7, w8, -⟩ := h.VO v hv k (by rw [hn, ti_nI (by omega)]; omega)
      rw [hvc] at w1 w2 w7 w8
      obtain ⟨g1, -, g2⟩ := inB_24 hc (show t1 < 24 by omega)
      obtain ⟨g3, -, g4⟩ := inB_24 hc (show t < 24 by omega)
      obtain ⟨o1, o2, o3⟩ := hold k hkn
      rw [if_neg (nI_ge hkn (by omega)), if_neg (nI_ge hkn (by omega)), voteAt_nI W (by omega), cClash, h901, h902, h903, o1, o2, o3, w5, w7, w8]
      rw [if_pos d1, d2, w4, w6, if_pos g1, if_pos g3, g2, g4, mSur hc (by omega) (by omega) (by omega) (by omega), mSur hc (by omega) (by omega) (by omega) (by omega)]
      simp only [if_pos d1]
      obtain ⟨cl, hcl⟩ : ∃ cl, cl = clB (xI M 2121 0 (24 * c + s)) (xI M 2121 0 (24 * c + t)) (xI M 2121 0 (24 * c + s1)) (xI M 2121 0 (24 * c + t1)) (nI t) (nI t1) := ⟨_, rfl⟩
      rw [← hcl]
      have hmod : ∀ F : Int32 → Option (Int32 × Int32), (((if nI t1 = nI t then (some (0 : Int32)) else (if xI M 2121 0 (24 * c + t1) = xI M 2121 0 (24 * c + t) then (some (1 : Int32)) else (some (0 : Int32)))) : Option (Int32))).bind (fun j_6 => (some (b01 (decide (¬ xI M 2121 0 (24 * c + s1) ≤ xI M 2121 0 (24 * c + s)) && decide (¬ xI M 2121 0 (24 * c + t) ≤ xI M 2121 0 (24 * c + t1))))).bind (fun r_19 => (((if r_19 = 0 then (some (b01 (decide (¬ xI M 2121 0 (24 * c + s) ≤ xI M 2121 0 (24 * c + s1)) && decide (¬ xI M 2121 0 (24 * c + t1) ≤ xI M 2121 0 (24 * c + t))))).bind (fun r_26 => (if r_26 = 0 then (some (0 : Int32)) else (some (1 : Int32)))) else (some (1 : Int32))) : Option (Int32))).bind (fun j_20 => F ((nI a ||| j_6) ||| j_20)))) = F (nI (if a = 1 ∨ cl = true then 1 else 0)) := by
        intro F
        rw [hcl]
        unfold clB
        obtain ⟨p, hp⟩ : ∃ p, p = (decide (¬ xI M 2121 0 (24 * c + s1) ≤ xI M 2121 0 (24 * c + s)) && decide (¬ xI M 2121 0 (24 * c + t) ≤ xI M 2121 0 (24 * c + t1))) := ⟨_, rfl⟩
        obtain ⟨p', hp'⟩ : ∃ p', p' = (decide (¬ xI M 2121 0 (24 * c + s) ≤ xI M 2121 0 (24 * c + s1)) && decide (¬ xI M 2121 0 (24 * c + t1) ≤ xI M 2121 0 (24 * c + t))) := ⟨_, rfl⟩
        rw [← hp, ← hp']
        have fin : ∀ (x : Bool) (j : Int32), j = b01 x → F ((nI a ||| j) ||| b01 (p || p')) = F (nI (if a = 1 ∨ (x || p || p') = true then 1 else 0)) := by
          intro x j hj
          rw [hj]
          rcases (show a = 0 ∨ a = 1 by omega) with rfl | rfl <;> cases x <;> cases p <;> cases p' <;> rfl
        have hin : ∀ j : Int32, (some (b01 p)).bind (fun r_19 => (((if r_19 = 0 then (some (b01 p')).bind (fun r_26 => (if r_26 = 0 then (some (0 : Int32)) else (some (1 : Int32)))) else (some (1 : Int32))) : Option (Int32))).bind (fun j_20 => F ((nI a ||| j) ||| j_20))) = F ((nI a ||| j) ||| b01 (p || p')) := by
          intro j
          cases p <;> cases p' <;> rfl
        by_cases y1 : nI t1 = nI t
        · rw [if_pos y1, Option.bind_some, hin, decide_eq_true (show nI t = nI t1 from y1.symm)]
          refine fin _ _ ?_
          cases (decide (xI M 2121 0 (24 * c + t) = xI M 2121 0 (24 * c + t1))) <;> rfl
        · rw [if_neg y1, decide_eq_false (show ¬ nI t = nI t1 from fun x => y1 x.symm)]
          by_cases y2 : xI M 2121 0 (24 * c + t1) = xI M 2121 0 (24 * c + t)
          · rw [if_pos y2, Option.bind_some, hin, decide_eq_true y2.symm]
            exact fin _ _ rfl
          · rw [if_neg y2, Option.bind_some, hin, decide_eq_false (fun x => y2 x.symm)]
            exact fin _ _ rfl
      have hm := hmod (fun x => fX11_vote_l141 M (nI c) (nI s) (nI t) (nI v) fu (nI k + 1) x)
      cases hb : cl with
      | false =>
        rw [hb] at hm
        have ec : b01 false = 0 := rfl
        rw [ec, if_pos rfl]
        obtain ⟨a', W', r1, r2, r3, r4, r5, r6, z, r7⟩ := ih (k + 1) a W (by omega) (by omega) ha h801 hold h901 h902 h903 h802
        refine ⟨a', W', r1, r2, r3, r4, r5, r6, z, ?_⟩
        have ea : (if a = 1 ∨ false = true then 1 else 0) = a := by
          rcases (show a = 0 ∨ a = 1 by omega) with rfl | rfl <;> decide
        rw [ea, nI_1, r7] at hm
        rw [nI_1]
        exact hm
      | true =>
        rw [hb] at hm
        have ec : ¬ b01 true = 0 := one_n0
        rw [if_neg ec]
        obtain ⟨a', W', r1, r2, r3, r4, r5, r6, z, r7⟩ := ih (k + 1) 1 (uI W 802 v 0 1) (by omega) (by omega) (by decide) (by rw [I_ne (by decide), h801]) (fun p hp => by
          rw [I_ne (by decide), I_ne (by decide), I_ne (by decide)]
          exact hold p hp) (by rw [I_ne (by decide), h901]) (by rw [I_ne (by decide), h902]) (by rw [I_ne (by decide), h903]) (by rw [I_uI, if_pos ⟨rfl, rfl, rfl⟩]; rfl)
        refine ⟨a', W', r1, r2, fun f i j hf => by rw [r3 f i j hf, I_ne hf], fun i hi => by rw [r4 i hi, I_uI, if_neg (fun y => hi y.2.1)], fun f i j => by rw [r5, L_uI], r6, z, ?_⟩
        have ea : (if a = 1 ∨ true = true then 1 else 0) = 1 := if_pos (Or.inr rfl)
        rw [ea, nI_1, r7] at hm
        rw [nI_1]
        exact hm
