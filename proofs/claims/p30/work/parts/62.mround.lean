def sameM (M M' : XO) (c : Nat) : Prop := (∀ s, s < 24 → (JMl M' c s ↔ JMl M c s)) ∧ ∀ s t, s < 24 → t < 24 → (LMl M' c s t ↔ LMl M c s t)
theorem sameM_idle (M : XO) {c s t : Nat} {v1 v2 : Int32} (ht : t < 24) (h1 : v1 = xI M 2134 0 (576 * c + 24 * s + t)) (h2 : v2 = xI M 2133 0 (24 * c + t)) : sameM M (mSet M c s t v1 v2) c := by
  refine ⟨fun s' hs' => ?_, fun s' t' hs' ht' => ?_⟩
  · unfold JMl
    rw [mSet_J]
    by_cases q : s' = t
    · rw [if_pos q, h2, q]
    · rw [if_neg q]
  · unfold LMl
    rw [mSet_L M ht ht']
    by_cases q : s' = s ∧ t' = t
    · rw [if_pos q, h1, q.1, q.2]
    · rw [if_neg q]
theorem idx3 {c s t : Nat} (hc : c < 2) (hs : s < 24) (ht : t < 24) : inB (((576 : Int32) * nI c) + ((24 : Int32) * nI s) + nI t) 1152 ∧ ((((576 : Int32) * nI c) + ((24 : Int32) * nI s)) + nI t).toNatClampNeg = 576 * c + 24 * s + t := by
  have e : ((576 : Int32) * nI c) + ((24 : Int32) * nI s) + nI t = nI (576 * c + 24 * s + t) := by
    rw [show (576 : Int32) = nI 576 from rfl, show (24 : Int32) = nI 24 from rfl, nI_mul, nI_mul, nI_add, nI_add]
  exact ⟨by rw [e]; exact inB_nI (by omega) (by decide), by rw [e]; exact cl_nI (by omega)⟩
/-- reference's settling, the links from s -/
theorem mRow {M : XO} {c nb s : Nat} {tot : Int32} {K : Nat → Nat → Prop} (hc : c < 2) (hnb : nb ≤ 24) (h9 : xI M 2109 0 c = nI nb) (hs : s < nb) (hB : ∀ s t, s < nb → t < nb → ∃ r, fX11_behind M (nI c) (nI s) (nI t) = some r ∧ (K s t ↔ ¬ r ≤ 0 ∧ ¬ (3 : Int32) * r < (2 : Int32) * tot)) : ∀ (n t a : Nat) (M' : XO), n = nb - t + 1 → t ≤ nb → a ≤ 1 → mInv M M' c K → ∃ z a' M'', fX11_justify_l67 (nI s) tot (nI c) n (nI t) (nI a) M' = some (z, nI a', M'') ∧ a' ≤ 1 ∧ mInv M M'' c K ∧ opnM M'' c ≤ opnM M' c ∧ (a' = 1 → a = 1 ∨ opnM M'' c < opnM M' c) ∧ (a' = 0 → a = 0 ∧ sameM M' M'' c ∧ ∀ t', t ≤ t' → t' < nb → JMl M' c s → K s t' → LMl M' c s t' ∧ JMl M' c t') := by
  intro n
  induction n with
  | zero => exact fun t a M' hn _ _ _ => absurd hn (by omega)
  | succ n ih =>
    intro t a M' hn ht ha hi
    have hself : sameM M' M' c := ⟨fun _ _ => Iff.rfl, fun _ _ _ _ => Iff.rfl⟩
    obtain ⟨g1, -, g3⟩ := inB_24 hc (show s < 24 by omega)
    rw [fX11_justify_l67, if_pos (inB_nI hc (by decide)), cl_nI (show c < 2147483648 by omega), hi.1 2109 _ _ (by decide) (by decide), h9]
    by_cases q : t = nb
    · rw [if_pos (by rw [q]; exact Int32.le_refl _)]
      exact ⟨nI t, a, M', rfl, ha, hi, Nat.le_refl _, fun z => Or.inl z, fun z => ⟨z, hself, fun t' w1 w2 => absurd w1 (by omega)⟩⟩
    · have htn : t < nb := by omega
      rw [if_neg (nI_ge htn (by omega)), if_pos g1, g3]
      by_cases hJ : xI M' 2133 0 (24 * c + s) = 1
      · obtain ⟨r, hr, hK⟩ := hB s t hs htn
        obtain ⟨g4, -, g6⟩ := inB_24 hc (show t < 24 by omega)
        obtain ⟨d1, d2⟩ := idx3 hc (show s < 24 by omega) (show t < 24 by omega)
        rw [if_pos hJ, beh_cg hi.1, ob_s hr]
        by_cases k : K s t
        · obtain ⟨k1, k2⟩ := hK.mp k
          rw [if_neg k1, if_neg k2]
          unfold wl
          simp only [if_neg one_n0, if_pos d1, d2, if_pos g4, g6, Option.bind_some, nI_1]
          have hst := mInv_step hi (show s < 24 by omega) (show t < 24 by omega) (v1 := 1) (v2 := 1) (Or.inl ⟨rfl, rfl, hJ, k⟩)
          by_cases z : xI M' 2134 0 (576 * c + 24 * s + t) = 0
          · rw [if_pos z, Option.bind_some]
            have eo : nI a ||| 1 = nI 1 := by
              have := or01 a 1 ha (by decide)
              rw [if_pos (Or.inr rfl)] at this
              exact this
            rw [eo]
            obtain ⟨z', a', M'', r1, r2, r3, r4, r5, r6⟩ := ih (t + 1) 1 (mSet M' c s t 1 1) (by omega) (by omega) (by decide) hst
            have hlt := opnM_go M' (v2 := 1) (show s < 24 by omega) (show t < 24 by omega) z
            refine ⟨z', a', M'', r1, r2, r3, by omega, fun _ => Or.inr (by omega), fun y => ?_⟩
            exact absurd (r6 y).1 (by decide)
          · rw [if_neg z, Option.bind_some]
            have hL : xI M' 2134 0 (576 * c + 24 * s + t) = 1 := by
              rcases hi.2.2.2.1.2 s t (by omega) (by omega) with y | y
              · exact absurd y z
              · exact y
            have hJt := (hi.2.2.2.2.1 s t (by omega) (by omega) hL).2
            have eo : nI a ||| 0 = nI a := by
              rcases (show a = 0 ∨ a = 1 by omega) with rfl | rfl <;> decide
            rw [eo]
            have hsm := sameM_idle M' (c := c) (s := s) (t := t) (v1 := 1) (v2 := 1) (by omega) hL.symm hJt.symm
            have hle : opnM (mSet M' c s t 1 1) c ≤ opnM M' c := by
              have := opnM_idle M' (v2 := 1) (show s < 24 by omega) (show t < 24 by omega) (c := c)
              rw [hL] at this
              exact this
            obtain ⟨z', a', M'', r1, r2, r3, r4, r5, r6⟩ := ih (t + 1) a (mSet M' c s t 1 1) (by omega) (by omega) ha hst
            refine ⟨z', a', M'', r1, r2, r3, by omega, fun y => (r5 y).imp id (fun x => by omega), fun y => ?_⟩
            obtain ⟨u1, u2, u3⟩ := r6 y
            refine ⟨u1, ⟨fun s' hs' => (u2.1 s' hs').trans (hsm.1 s' hs'), fun s' t' hs' ht' => (u2.2 s' t' hs' ht').trans (hsm.2 s' t' hs' ht')⟩, fun t' w1 w2 w3 w4 => ?_⟩
            by_cases e : t' = t
            · rw [e]
              exact ⟨hL, hJt⟩
            · have := u3 t' (by omega) w2 ((hsm.1 s (by omega)).mpr w3) w4
              exact ⟨(hsm.2 s t' (by omega) (by omega)).mp this.1, (hsm.1 t' (by omega)).mp this.2⟩
        · have e8 : (if r ≤ 0 then (0 : Int32) else (if (3 : Int32) * r < (2 : Int32) * tot then (0 : Int32) else (1 : Int32))) = 0 := by
            by_cases y1 : r ≤ 0
            · rw [if_pos y1]
            · rw [if_neg y1]
              by_cases y2 : (3 : Int32) * r < (2 : Int32) * tot
              · rw [if_pos y2]
              · exact absurd (hK.mpr ⟨y1, y2⟩) k
          rw [e8]
          unfold wl
          simp only [if_true, if_pos d1, d2, if_pos g4, g6, Option.bind_some, nI_1]
          have eo : nI a ||| 0 = nI a := by
            rcases (show a = 0 ∨ a = 1 by omega) with rfl | rfl <;> decide
          rw [eo, I_ne (show (2133 : Nat) ≠ 2134 by decide)]
          have hst := mInv_step hi (show s < 24 by omega) (show t < 24 by omega) (v1 := xI M' 2134 0 (576 * c + 24 * s + t)) (v2 := xI M' 2133 0 (24 * c + t)) (Or.inr ⟨rfl, rfl⟩)
          have hsm := sameM_idle M' (c := c) (s := s) (t := t) (v1 := xI M' 2134 0 (576 * c + 24 * s + t)) (v2 := xI M' 2133 0 (24 * c + t)) (by omega) rfl rfl
          have hle := opnM_idle M' (v2 := xI M' 2133 0 (24 * c + t)) (show s < 24 by omega) (show t < 24 by omega) (c := c)
          obtain ⟨z', a', M'', r1, r2, r3, r4, r5, r6⟩ := ih (t + 1) a (mSet M' c s t (xI M' 2134 0 (576 * c + 24 * s + t)) (xI M' 2133 0 (24 * c + t))) (by omega) (by omega) ha hst
          refine ⟨z', a', M'', r1, r2, r3, by omega, fun y => (r5 y).imp id (fun x => by omega), fun y => ?_⟩
          obtain ⟨u1, u2, u3⟩ := r6 y
          refine ⟨u1, ⟨fun s' hs' => (u2.1 s' hs').trans (hsm.1 s' hs'), fun s' t' hs' ht' => (u2.2 s' t' hs' ht').trans (hsm.2 s' t' hs' ht')⟩, fun t' w1 w2 w3 w4 => ?_⟩
          by_cases e : t' = t
          · rw [e] at w4
            exact absurd w4 k
          · have := u3 t' (by omega) w2 ((hsm.1 s (by omega)).mpr w3) w4
            exact ⟨(hsm.2 s t' (by omega) (by omega)).mp this.1, (hsm.1 t' (by omega)).mp this.2⟩
      · rw [if_neg hJ]
        exact ⟨nI t, a, M', rfl, ha, hi, Nat.le_refl _, fun z => Or.inl z, fun z => ⟨z, hself, fun t' _ _ w3 => absurd w3 hJ⟩⟩
/-- one round of reference's settling -/
theorem mRound {M : XO} {c nb : Nat} {tot : Int32} {K : Nat → Nat → Prop} (hc : c < 2) (hnb : nb ≤ 24) (h9 : xI M 2109 0 c = nI nb) (hB : ∀ s t, s < nb → t < nb → ∃ r, fX11_behind M (nI c) (nI s) (nI t) = some r ∧ (K s t ↔ ¬ r ≤ 0 ∧ ¬ (3 : Int32) * r < (2 : Int32) * tot)) : ∀ (n s a : Nat) (M' : XO), n = nb - s + 1 → s ≤ nb → a ≤ 1 → mInv M M' c K → ∃ z a' M'', fX11_justify_l53 tot (nI c) n (nI s) (nI a) M' = some (z, nI a', M'') ∧ a' ≤ 1 ∧ mInv M M'' c K ∧ opnM M'' c ≤ opnM M' c ∧ (a' = 1 → a = 1 ∨ opnM M'' c < opnM M' c) ∧ (a' = 0 → a = 0 ∧ sameM M' M'' c ∧ ∀ s', s ≤ s' → s' < nb → ∀ t', t' < nb → JMl M' c s' → K s' t' → LMl M' c s' t' ∧ JMl M' c t') := by
  intro n
  induction n with
  | zero => exact fun s a M' hn _ _ _ => absurd hn (by omega)
  | succ n ih =>
    intro s a M' hn hs ha hi
    rw [fX11_justify_l53, if_pos (inB_nI hc (by decide)), cl_nI (show c < 2147483648 by omega), hi.1 2109 _ _ (by decide) (by decide), h9]
    by_cases q : s = nb
    · rw [if_pos (by rw [q]; exact Int32.le_refl _)]
      exact ⟨nI s, a, M', rfl, ha, hi, Nat.le_refl _, fun z => Or.inl z, fun z => ⟨z, ⟨fun _ _ => Iff.rfl, fun _ _ _ _ => Iff.rfl⟩, fun s' w1 w2 => absurd w1 (by omega)⟩⟩
    · have hsn : s < nb := by omega
      rw [if_neg (nI_ge hsn (by omega)), cl_nI (show nb < 2147483648 by omega)]
      obtain ⟨z1, a1, M1, r1, r2, r3, r4, r5, r6⟩ := mRow hc hnb h9 hsn hB (nb + 1) 0 a M' (by omega) (Nat.zero_le _) ha hi
      have r1' : fX11_justify_l67 (nI s) tot (nI c) (nb + 1) (0 : Int32) (nI a) M' = some (z1, nI a1, M1) := r1
      rw [ob_s r1']
      dsimp only
      rw [nI_1]
      obtain ⟨z2, a2, M2, w1, w2, w3, w4, w5, w6⟩ := ih (s + 1) a1 M1 (by omega) (by omega) r2 r3
      refine ⟨z2, a2, M2, w1, w2, w3, by omega, fun y => ?_, fun y => ?_⟩
      · rcases w5 y with x | x
        · rcases r5 x with v | v
          · exact Or.inl v
          · exact Or.inr (by omega)
        · exact Or.inr (by omega)
      · obtain ⟨u1, u2, u3⟩ := w6 y
        obtain ⟨v1, v2, v3⟩ := r6 u1
        refine ⟨v1, ⟨fun s' hs' => (u2.1 s' hs').trans (v2.1 s' hs'), fun s' t' hs' ht' => (u2.2 s' t' hs' ht').trans (v2.2 s' t' hs' ht')⟩, fun s' x1 x2 t' x3 x4 x5 => ?_⟩
        by_cases e : s' = s
        · rw [e] at x4 x5 ⊢
          exact v3 t' (Nat.zero_le _) x3 x4 x5
        · have := u3 s' (by omega) x2 t' x3 ((v2.1 s' (by omega)).mpr x4) x5
          exact ⟨(v2.2 s' t' (by omega) (by omega)).mp this.1, (v2.1 t' (by omega)).mp this.2⟩
/-- reference's settling up to the final block: all that follows is just, and nothing else -/
theorem mSettle {M : XO} {c nb : Nat} {tot : Int32} {K : Nat → Nat → Prop} (hc : c < 2) (hnb : nb ≤ 24) (h9 : xI M 2109 0 c = nI nb) (hB : ∀ s t, s < nb → t < nb → ∃ r, fX11_behind M (nI c) (nI s) (nI t) = some r ∧ (K s t ↔ ¬ r ≤ 0 ∧ ¬ (3 : Int32) * r < (2 : Int32) * tot)) (hKn : ∀ s t, K s t → s < nb ∧ t < nb) : ∀ (n : Nat) (M' : XO), opnM M' c + 2 ≤ n → mInv M M' c K → ∃ z M'', fX11_justify_l44 tot (nI c) n 1 M' = some (z, M'') ∧ mInv M M'' c K ∧ Clo K (LMl M'' c) (JMl M'' c) := by
  intro n
  induction n with
  | zero => exact fun M' hn _ => absurd hn (by omega)
  | succ n ih =>
    intro M' hn hi
    rw [fX11_justify_l44, if_neg one_n0, cl_nI (show c < 2147483648 by omega), hi.1 2109 _ _ (by decide) (by decide), h9, cl_nI (show nb < 2147483648 by omega)]
    obtain ⟨z1, a1, M1, r1, r2, r3, r4, r5, r6⟩ := mRound hc hnb h9 hB (nb + 1) 0 0 M' (by omega) (Nat.zero_le _) (by decide) hi
    have r1' : fX11_justify_l53 tot (nI c) (nb + 1) (0 : Int32) (0 : Int32) M' = some (z1, nI a1, M1) := r1
    rw [ob_s r1']
    dsimp only
    rcases (show a1 = 0 ∨ a1 = 1 by omega) with rfl | rfl
    · obtain ⟨n', rfl⟩ : ∃ n', n = n' + 1 := ⟨n - 1, by omega⟩
      rw [fX11_justify_l44, if_pos (show nI 0 = 0 from rfl)]
      obtain ⟨-, u2, u3⟩ := r6 rfl
      refine ⟨_, M1, rfl, r3, fun s t hs ht hJ hK => ?_⟩
      obtain ⟨k1, k2⟩ := hKn s t hK
      have := u3 s (Nat.zero_le _) k1 t k2 ((u2.1 s hs).mp hJ) hK
      exact ⟨(u2.2 s t hs ht).mpr this.1, (u2.1 t ht).mpr this.2⟩
    · rcases r5 rfl with y | y
      · exact absurd y (by decide)
      · exact ih M1 (by omega) r3
