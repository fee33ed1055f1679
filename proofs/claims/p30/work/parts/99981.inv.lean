/-- the law's arrays stay -/
def KL (C C' : XO) : Prop := ∀ k i j, k = 2017 ∨ k = 2018 → xI C' k i j = xI C k i j
theorem KL.rf (C : XO) : KL C C := fun _ _ _ _ => rfl
theorem KL.tr {A B C : XO} (h : KL A B) (k : KL B C) : KL A C := fun a b c d => (k a b c d).trans (h a b c d)
/-- what the law rests on besides: gas within 600, the last final block is justified, and no block of its height is dropped -/
def RX (D : XD) (C : XO) : Prop := (∀ c, c < 2 → ∀ b, b < dnb D c → ∃ u : Nat, u ≤ 600 ∧ xI C 6 (24 * c + b) 0 = nI u) ∧ (∀ c, c < 2 → xI C 14 (24 * c + dfn D c) 0 = 1) ∧ ∀ c, c < 2 → ∀ b, b < dnb D c → xI C 13 (24 * c + b) 0 = 1 → (xI C 2 (24 * c + b) 0).toInt < (xI C 2 (24 * c + dfn D c) 0).toInt
def RP (D : XD) (C : XO) : Prop := (∃ M, RGD D C M) ∧ RX D C
theorem RX.mv {D : XD} {C C' : XO} (h : RX D C) (h2 : ∀ i j, xI C' 2 i j = xI C 2 i j) (h6 : ∀ i j, xI C' 6 i j = xI C 6 i j) (h13 : ∀ i j, xI C' 13 i j = xI C 13 i j) (h14 : ∀ i j, xI C' 14 i j = xI C 14 i j) : RX D C' := by
  refine ⟨fun c hc b hb => ?_, fun c hc => ?_, fun c hc b hb => ?_⟩
  · rw [h6]
    exact h.1 c hc b hb
  · rw [h14]
    exact h.2.1 c hc
  · rw [h13, h2, h2]
    exact h.2.2 c hc b hb
theorem RP.mv {D : XD} {C C' : XO} (h : RP D C) (ki : ∀ k i j, cky k = true → xI C' k i j = xI C k i j) (kl : ∀ k i j, xL C' k i j = xL C k i j) : RP D C' := by
  obtain ⟨⟨M, hM⟩, hx⟩ := h
  exact ⟨⟨M, hM.mv (fun k hk _ i j => ki k i j hk) (fun k _ _ i j => kl k i j) (fun _ _ _ _ _ => rfl) (fun _ _ _ _ _ => rfl)⟩, hx.mv (fun i j => ki 2 i j rfl) (fun i j => ki 6 i j rfl) (fun i j => ki 13 i j rfl) (fun i j => ki 14 i j rfl)⟩
/-- an end that the law's helpers take -/
def okT (T : Option Value ⊕ String) : Prop := T = .inr xIO ∨ T = .inr xIA ∨ T = .inr xIS
/-- two worlds that are alike to who asks -/
def SR (D : XD) (C C' : XO) : Prop := (∃ M, RGD D C M ∧ RGD D C' M) ∧ ∀ k i j, k = 12 ∨ k = 14 ∨ k = 802 → xI C' k i j = xI C k i j
theorem SR.rf {D : XD} {C : XO} (h : RP D C) : SR D C C := by
  obtain ⟨⟨M, hM⟩, -⟩ := h
  exact ⟨⟨M, hM, hM⟩, fun _ _ _ _ => rfl⟩
theorem SR.pool {D : XD} {C C' : XO} (h : SR D C C') {c : Nat} (hc : c < 2) : fX1_countWaiting C' c = fX1_countWaiting C c := by
  obtain ⟨⟨M, h1, h2⟩, -⟩ := h
  have e1 := dSize h1 hc
  have e2 := dSize h2 hc
  exact Option.some.inj (e2.symm.trans e1)
theorem SR.head {D : XD} {C C' : XO} (h : SR D C C') {c : Nat} (hc : c < 2) : xI C' 0 (fX1_headBlock C' c) 0 = xI C 0 (fX1_headBlock C c) 0 := by
  obtain ⟨⟨M, h1, h2⟩, -⟩ := h
  obtain ⟨m, p1, p2, p3, p4⟩ := dHead h1 hc
  obtain ⟨m', q1, q2, q3, q4⟩ := dHead h2 hc
  have hnb := (h1.NB c hc).2.2.2
  have e : nI m' = nI m := Option.some.inj (q4.symm.trans p4)
  have e2 : m' = m := (nI_eq (by omega) (by omega)).mp e
  rw [p3, q3, e2, h1.NO _ (show 24 * c + m < 48 by omega), h2.NO _ (show 24 * c + m < 48 by omega)]
theorem SR.stake {D : XD} {C C' : XO} (h : SR D C C') (v : Nat) : fX8_stakeNow C' v = fX8_stakeNow C v := by
  unfold fX8_stakeNow
  rw [h.2 802 _ _ (Or.inr (Or.inr rfl))]
/-! the pool holds no more than were taken -/
theorem cnt_l {D : XD} {C M : XO} (h : RGD D C M) {c m : Nat} (hc : c < 2) (hh : fX1_headBlock C c = 24 * c + m) : ∀ (n k y : Nat), n = 41 - k → k ≤ 40 → y ≤ k → y ≤ dnt D c → ∃ y', fX1_countWaiting_l C c n k (nI y) = nI y' ∧ y' ≤ dnt D c
  | 0, k, y, hn, hk, hy, hy2 => absurd hn (by omega)
  | n + 1, k, y, hn, hk, hy, hy2 => by
    by_cases hk40 : k = 40
    · subst hk40
      refine ⟨y, ?_, hy2⟩
      rw [fX1_countWaiting_l, if_pos (show nI (alen 2003) ≤ nI 40 by decide)]
    · rw [fX1_countWaiting_l, if_neg (show ¬ nI (alen 2003) ≤ nI k from nI_ge (b := 40) (by omega) (by decide)), hh, cl_nI (by omega)]
      by_cases hw : fX7_waitsBehind C (40 * c + k) (24 * c + m) = 0
      · rw [if_pos hw]
        exact cnt_l h hc hh n (k + 1) y (by omega) (by omega) (by omega) hy2
      · rw [if_neg hw, nI_1]
        have hkn : k < dnt D c := by
          by_cases z : k < dnt D c
          · exact z
          · exact absurd (cNoWait h hc (by omega) (by omega)) hw
        exact cnt_l h hc hh n (k + 1) (y + 1) (by omega) (by omega) (by omega) (by omega)
theorem e_cnt {D : XD} {C M : XO} (h : RGD D C M) {c : Nat} (hc : c < 2) : ∃ y, fX1_countWaiting C c = nI y ∧ y ≤ dnt D c := by
  obtain ⟨m, p1, p2, p3, p4⟩ := dHead h hc
  exact cnt_l h hc p3 41 0 0 rfl (by decide) (Nat.le_refl _) (Nat.zero_le _)
/-! what a vote leaves justified -/
def UP (C C' : XO) : Prop := ∀ i, xI C 14 i 0 = 1 → xI C' 14 i 0 = 1
theorem UP.tr {A B C : XO} (h : UP A B) (k : UP B C) : UP A C := fun i hi => k i (h i hi)
theorem up_set (C : XO) (a b : Nat) (v : Int32) : UP C (uI (uI C 15 a 0 v) 14 b 0 1) := by
  intro i hi
  rw [I_uI]
  by_cases z : i = b
  · rw [if_pos ⟨rfl, z, rfl⟩]
  · rw [if_neg (fun y => z y.2.1), I_ne (by decide)]
    exact hi
theorem up_justify (C : XO) (a b v : Nat) : UP C (fX2_justify C a b v).2 := by
  unfold fX2_justify
  (repeat' split) <;> first | exact fun _ h => h | exact up_set C _ _ _
theorem up_26 {y5 : Nat} {y4 y3 : Int32} {y2 y0 y1 : Nat} : ∀ (n : Nat) (y6 : Int32) (C : XO) {r : (Int32 × XO) ⊕ (Int32 × XO)}, fX2_justifyOne_l26 y5 y4 y3 y2 y0 y1 n y6 C = some r → UP C (Sum.elim (fun v => v.2) (fun v => v.2) r) := by
  intro n
  induction n with
  | zero =>
    intro y6 C r h
    cases h
  | succ n ih =>
    intro y6 C r h
    rw [fX2_justifyOne_l26] at h
    split at h
    · cases h
      exact fun _ h => h
    · split at h
      · exact (up_justify C y0 y1 _).tr (ih _ _ h)
      · cases h
        exact up_justify C y0 y1 _
theorem up_11 {y3 : Int32} {y2 y0 y1 : Nat} : ∀ (n : Nat) (y4 : Int32) (C : XO) {r : (Int32 × XO) ⊕ (Int32 × XO)}, fX2_justifyOne_l11 y3 y2 y0 y1 n y4 C = some r → UP C (Sum.elim (fun v => v.2) (fun v => v.2) r) := by
  intro n
  induction n with
  | zero =>
    intro y4 C r h
    cases h
  | succ n ih =>
    intro y4 C r h
    rw [fX2_justifyOne_l11] at h
    split at h
    · cases h
      exact fun _ h => h
    · split at h
      · rcases opt_em2 (fX2_justifyOne_l26 (4 * y2 + y4.toNatClampNeg) y4 y3 y2 y0 y1 21 (0 : Int32) C) with e | ⟨v, e⟩ | ⟨q, e⟩
        · rw [e] at h
          cases h
        · rw [e] at h
          cases h
          exact up_26 _ _ _ e
        · rw [e] at h
          exact (up_26 _ _ _ e).tr (ih _ _ h)
      · cases h
theorem up_one {C : XO} {a b : Nat} {r : Int32 × XO} (h : fX2_justifyOne C a b = some r) : UP C r.2 := by
  unfold fX2_justifyOne at h
  rcases opt_em2 (fX2_justifyOne_l11 (nI (alen 2004)) a a b ((nI (alen 2004)).toNatClampNeg + 1) (0 : Int32) C) with e | ⟨v, e⟩ | ⟨q, e⟩
  · rw [e] at h
    cases h
  · rw [e] at h
    cases h
    exact up_11 _ _ _ e
  · rw [e] at h
    cases h
    exact up_11 _ _ _ e
theorem up_l4 {a b : Nat} : ∀ (n : Nat) (y3 y2 : Int32) (C : XO) {r : Int32 × Int32 × XO}, fX2_settle_l4 a b n y3 y2 C = some r → UP C r.2.2 := by
  intro n
  induction n with
  | zero =>
    intro y3 y2 C r h
    cases h
  | succ n ih =>
    intro y3 y2 C r h
    rw [fX2_settle_l4] at h
    split at h
    · cases h
      exact fun _ h => h
    · split at h
      · cases h
        exact fun _ h => h
      · rcases opt_em (fX2_justifyOne C a b) with e | ⟨q, e⟩
        · rw [e] at h
          cases h
        · rw [e] at h
          exact (up_one e).tr (ih _ _ _ h)
theorem fin_l {D : XD} {C M : XO} (h : RGD D C M) {c : Nat} (hc : c < 2) : ∀ (n k yb : Nat), n = 25 - k → k ≤ 24 → yb < dnb D c ∧ (yb = dfn D c ∨ xI C 14 (24 * c + yb) 0 = 1) → ∃ yb', fX2_moveFinal_l c c n k (24 * c + yb) (24 * c + dfn D c) C = uI C 201 c 0 (nI yb') ∧ yb' < dnb D c ∧ (yb' = dfn D c ∨ xI C 14 (24 * c + yb') 0 = 1) := by
  obtain ⟨b1, b2, b3, b4⟩ := h.NB c hc
  obtain ⟨f1, f2, f3⟩ := h.FN c hc
  intro n
  induction n with
  | zero => exact fun k yb hn hk hi => absurd hn (by omega)
  | succ n ih =>
    intro k yb hn hk hi
    have hyb := hi.1
    rw [fX2_moveFinal_l]
    by_cases q : k = 24
    · subst q
      rw [if_pos (show nI (alen 2002) ≤ nI 24 by decide), h.NO _ (show 24 * c + yb < 48 by omega), show (24 * c + yb) % 24 = yb by omega]
      exact ⟨yb, rfl, hi⟩
    · have hk2 : k < 24 := by omega
      rw [if_neg (show ¬ nI (alen 2002) ≤ nI k from nI_ge (b := 24) hk2 (by decide)), cl_nI (by omega)]
      by_cases w1 : fX0_comesFrom C (24 * c + k) (24 * c + dfn D c) = 0
      · rw [if_pos w1]
        exact ih (k + 1) yb (by omega) (by omega) hi
      · rw [if_neg w1]
        by_cases w2 : xI C 2 (24 * c + k) 0 ≤ xI C 2 (24 * c + yb) 0
        · rw [if_pos w2]
          exact ih (k + 1) yb (by omega) (by omega) hi
        · rw [if_neg w2]
          rcases cNext h hc hk2 with ⟨w3, t, t1, t2, t3⟩ | ⟨w3, -⟩
          · rw [w3, if_neg one_n0]
            have hkn : k < dnb D c := by
              rcases cFrom h hc hk2 (show dfn D c < 24 by omega) with ⟨a1, -⟩ | ⟨-, a3⟩
              · exact a1
              · exact absurd a3 w1
            exact ih (k + 1) k (by omega) (by omega) ⟨hkn, Or.inr ((h.JL c hc).2 k hk2 t t1 t2).2.1⟩
          · rw [w3, if_pos rfl]
            exact ih (k + 1) yb (by omega) (by omega) hi
theorem dVote2 {D : XD} {C M : XO} (h : RGD D C M) {c : Nat} (hc : c < 2) (hj : xI C 14 (24 * c + dfn D c) 0 = 1) : ∃ C' M' m, fX2_settle C c c = some C' ∧ RGD (dMove D c m) C' M' ∧ m < dnb D c ∧ Anc (dpa D c) m (dfn D c) ∧ xI C' 14 (24 * c + m) 0 = 1 ∧ UP C C' ∧ (∀ f i j, f ≠ 14 → f ≠ 15 → f ≠ 201 → xI C' f i j = xI C f i j) ∧ (∀ f i j, xL C' f i j = xL C f i j) := by
  obtain ⟨a, b, C1, z, M1, p1, p2, h1, p3, p4, p5, p6⟩ := dSettle h hc
  have hup := up_l4 _ _ _ _ p1
  obtain ⟨b1, b2, b3, b4⟩ := h1.NB c hc
  obtain ⟨f1, f2, f3⟩ := h1.FN c hc
  obtain ⟨m, y4, q1, q2, -, q4⟩ := dFin_l h1 hc 25 0 (dfn D c) (-1) rfl (by decide) ⟨f3, Anc_self _ _, Or.inl ⟨rfl, rfl⟩⟩
  obtain ⟨m2, r1, r2, r3⟩ := fin_l h1 hc 25 0 (dfn D c) rfl (by decide) ⟨f3, Or.inl rfl⟩
  have hm := q2.1
  have hmm : m2 = m := by
    have e := congrArg (fun w => xI w 201 c 0) (r1.symm.trans q1)
    rw [I_uI, I_uI, if_pos ⟨rfl, rfl, rfl⟩, if_pos ⟨rfl, rfl, rfl⟩] at e
    exact (nI_eq (by omega) (by omega)).mp e
  subst hmm
  have hj1 : xI C1 14 (24 * c + dfn D c) 0 = 1 := hup _ hj
  refine ⟨uI C1 201 c 0 (nI m2), uI M1 2110 0 c (nI m2), m2, ?_, ?_, hm, q2.2.1, ?_, fun i hi => by rw [I_ne (by decide)]; exact hup i hi, fun f i j x1 x2 x3 => by rw [I_ne x3, p3 f i j x1 x2], fun f i j => by rw [L_uI, p4]⟩
  · unfold fX2_settle
    rw [ob_s p1]
    dsimp only
    unfold fX2_moveFinal
    rw [f1, if_neg (nI_nlt0 (by omega)), if_pos (show nI (dfn D c) < nI (alen 2002) from nI_lt (b := 24) (by omega) (by decide)), cl_nI (show dfn D c < 2147483648 by omega)]
    exact congrArg some q1
  · refine h1.bFN (c := c) (m := m2) (fun k _ hk i j => I_ne (nc_ne hk).1) (fun k _ _ i j => by rw [L_uI]) (fun k _ hk i j => I_ne (nc_ne hk).1) (fun k _ _ i j => by rw [L_uI]) (fun c' hc' => ?_)
    have o := h1.FN c' hc'
    have dn : dfn (dMove D c m2) c' = if c' = c then m2 else dfn D c' := rfl
    have dn2 : dnb (dMove D c m2) c' = dnb D c' := rfl
    by_cases x : c' = c
    · have w1 : xI (uI C1 201 c 0 (nI m2)) 201 c' 0 = nI m2 := by rw [I_uI, if_pos ⟨rfl, x, rfl⟩]
      have w2 : xI (uI M1 2110 0 c (nI m2)) 2110 0 c' = nI m2 := by rw [I_uI, if_pos ⟨rfl, rfl, x⟩]
      rw [dn, dn2, w1, w2, if_pos x, x]
      exact ⟨rfl, rfl, hm⟩
    · have w1 : xI (uI C1 201 c 0 (nI m2)) 201 c' 0 = xI C1 201 c' 0 := by rw [I_uI, if_neg (fun y => x y.2.1)]
      have w2 : xI (uI M1 2110 0 c (nI m2)) 2110 0 c' = xI M1 2110 0 c' := by rw [I_uI, if_neg (fun y => x y.2.2)]
      rw [dn, dn2, w1, w2, if_neg x]
      exact o
  · rw [I_ne (by decide)]
    rcases r3 with e | e
    · rw [e]
      exact hj1
    · exact e
