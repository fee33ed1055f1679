theorem blm_c (Ω : XO) (p : Nat) : fX0_bloomOf Ω (nI p) = blm p := rfl
theorem blm_m : ∀ p, p < 16 → (((1 : Int32) <<< ((nI p - nI p / (8 : Int32) * (8 : Int32)) &&& 31)) ||| ((256 : Int32) <<< (((((5 : Int32) * nI p) + (3 : Int32)) - (((5 : Int32) * nI p) + (3 : Int32)) / (8 : Int32) * (8 : Int32)) &&& 31))) = blm p := by decide +kernel
/-- events of one topic in a block, on both sides -/
theorem dEv_l {D : XD} {C M : XO} (h : RGD D C M) {c b p : Nat} {y1 y3 y5 : Int32} (hc : c < 2) (hb : b < 24) (hp : p < 16) : ∀ (n k : Nat) (y z : Int32), (k : Int) + n = (xI C 10 (24 * c + b) 0).toInt + 1 → (k : Int) ≤ (xI C 10 (24 * c + b) 0).toInt → ∃ v w, fX0_countEvents_l C (24 * c + b) (nI p) n k y = y + v ∧ fX11_find_l108 M y1 (nI p) y3 y5 (nI (24 * c + b)) n (nI k) z = some (w, z + v) ∧ (¬ xI C 11 (24 * c + b) 0 &&& blm p = blm p → v = 0)
  | 0, k, y, z, hn, hk => absurd hn (by omega)
  | n + 1, k, y, z, hn, hk => by
    have hg : 24 * c + b < 48 := by omega
    obtain ⟨⟨-, -, r3, r4⟩, -⟩ := h.RC c hc b hb
    have hbt : xI M 2130 0 (24 * c + b) = xI C 10 (24 * c + b) 0 := (h.B2 _ hg).2.2.2.2.1.symm
    have hin : inB (nI (24 * c + b)) 48 := inB_nI hg (by decide)
    by_cases q : (k : Int) < (xI C 10 (24 * c + b) 0).toInt
    · obtain ⟨p', a, w1, w2, w3⟩ := h.EE c hc b hb k q
      have hbl := h.BL c hc b hb k q p' a w2 w3 w1
      have hle : ¬ xI C 10 (24 * c + b) 0 ≤ nI k := by
        rw [ti_le, ti_nI (by omega)]
        omega
      have hdiv : nI (100 * p' + a) / (100 : Int32) = nI p' := by
        have e0 : (nI (100 * p' + a)).toInt = (100 * p' + a : Nat) := ti_nI (by omega)
        have e1 : (100 : Int32).toInt = 100 := rfl
        rw [ti_eq, ti_div (by rw [e0]; omega) (by rw [e1]; omega), e0, e1, ti_nI (by omega)]
        omega
      have htop : fX0_topicIn C (24 * c + b) (nI k) = nI p' := by
        unfold fX0_topicIn
        rw [sAt_nI (show k < 40 by omega) (by decide), w1, hdiv]
      have e40 : ((40 : Int32) * nI (24 * c + b) + nI k) = nI (40 * (24 * c + b) + k) := by
        rw [show (40 : Int32) = nI 40 from rfl, nI_mul, nI_add]
      have hcell : xI M 2132 0 (40 * (24 * c + b) + k) = nI (100 * p' + a) := by rw [← h.EV _ hg k (by omega) (by omega), w1]
      have hmo : ∀ z2, fX11_find_l108 M y1 (nI p) y3 y5 (nI (24 * c + b)) (n + 1) (nI k) z2 = fX11_find_l108 M y1 (nI p) y3 y5 (nI (24 * c + b)) n (nI (k + 1)) (z2 + (if nI p' = nI p then (1 : Int32) else 0)) := by
        intro z2
        rw [fX11_find_l108, if_pos hin, cl_nI (by omega), hbt, if_neg hle, e40, if_pos (inB_nI (by omega) (by decide)), cl_nI (by omega), hcell, hdiv, nI_1]
        rfl
      have hco : ∀ y2, fX0_countEvents_l C (24 * c + b) (nI p) (n + 1) k y2 = if nI p' = nI p then fX0_countEvents_l C (24 * c + b) (nI p) n (k + 1) (y2 + 1) else fX0_countEvents_l C (24 * c + b) (nI p) n (k + 1) y2 := by
        intro y2
        rw [fX0_countEvents_l, if_neg hle, htop]
      by_cases q2 : p' = p
      · subst q2
        obtain ⟨v, w, p1, p2, p3⟩ := dEv_l (y1 := y1) (y3 := y3) (y5 := y5) h hc hb hp n (k + 1) (y + 1) (z + 1) (by omega) (by omega)
        refine ⟨1 + v, w, ?_, ?_, fun x => absurd hbl x⟩
        · rw [hco, if_pos rfl, p1, Int32.add_assoc]
        · rw [hmo, if_pos rfl, p2, Int32.add_assoc]
      · have q3 : ¬ nI p' = nI p := fun x => q2 ((nI_eq (by omega) (by omega)).mp x)
        obtain ⟨v, w, p1, p2, p3⟩ := dEv_l (y1 := y1) (y3 := y3) (y5 := y5) h hc hb hp n (k + 1) y z (by omega) (by omega)
        refine ⟨v, w, ?_, ?_, p3⟩
        · rw [hco, if_neg q3, p1]
        · rw [hmo, if_neg q3, Int32.add_zero, p2]
    · have hle : xI C 10 (24 * c + b) 0 ≤ nI k := by
        rw [ti_le, ti_nI (by omega)]
        omega
      refine ⟨0, nI k, ?_, ?_, fun _ => rfl⟩
      · rw [fX0_countEvents_l, if_pos hle, Int32.add_zero]
      · rw [fX11_find_l108, if_pos hin, cl_nI (by omega), hbt, if_pos hle, Int32.add_zero]
theorem dEv {D : XD} {C M : XO} (h : RGD D C M) {c b p : Nat} {y1 y3 y5 : Int32} (hc : c < 2) (hb : b < 24) (hp : p < 16) : ∃ v, fX0_countEvents C (24 * c + b) (nI p) = v ∧ (∀ z, ∃ w, fX11_find_l108 M y1 (nI p) y3 y5 (nI (24 * c + b)) ((xI M 2130 0 (24 * c + b)).toNatClampNeg + 1) 0 z = some (w, z + v)) ∧ (¬ xI C 11 (24 * c + b) 0 &&& blm p = blm p → v = 0) := by
  have hg : 24 * c + b < 48 := by omega
  obtain ⟨⟨-, -, r3, r4⟩, -⟩ := h.RC c hc b hb
  have hbt : xI M 2130 0 (24 * c + b) = xI C 10 (24 * c + b) 0 := (h.B2 _ hg).2.2.2.2.1.symm
  obtain ⟨m, hm, hm2, hm3⟩ := toNN r3
  obtain ⟨v, w, p1, p2, p3⟩ := dEv_l (y1 := y1) (y3 := y3) (y5 := y5) h hc hb hp (m + 1) 0 0 0 (by omega) (by omega)
  have hv : fX0_countEvents C (24 * c + b) (nI p) = v := by
    unfold fX0_countEvents
    rw [hm, cl_nI hm2]
    exact p1.trans (Int32.zero_add _)
  refine ⟨v, hv, fun z => ?_, p3⟩
  obtain ⟨v2, w2, s1, s2, s3⟩ := dEv_l (y1 := y1) (y3 := y3) (y5 := y5) h hc hb hp (m + 1) 0 0 z (by omega) (by omega)
  have hv2 : v2 = v := by
    have : (0 : Int32) + v2 = 0 + v := s1.symm.trans p1
    rwa [Int32.zero_add, Int32.zero_add] at this
  refine ⟨w2, ?_⟩
  rw [hbt, hm, cl_nI hm2, ← hv2]
  exact s2
/-- a sum over what a test takes -/
def tsum (p : Nat → Bool) (w : Nat → Int32) : Nat → Nat → Int32
  | 0, _ => 0
  | n + 1, k => (if p k = true then w k else 0) + tsum p w n (k + 1)
theorem tsum_cg {p p' : Nat → Bool} {w : Nat → Int32} : ∀ (n k : Nat), (∀ x, k ≤ x → x < k + n → p x = p' x) → tsum p w n k = tsum p' w n k
  | 0, k, h => rfl
  | n + 1, k, h => by
    rw [tsum, tsum, h k (Nat.le_refl _) (by omega), tsum_cg n (k + 1) (fun x h1 h2 => h x (by omega) (by omega))]
theorem tsum_in {p p' : Nat → Bool} {w : Nat → Int32} {b : Nat} (h0 : p' b = false) : ∀ (n k : Nat), k ≤ b → b < k + n → (∀ x, k ≤ x → x < k + n → p x = (decide (x = b) || p' x)) → tsum p w n k = w b + tsum p' w n k
  | 0, k, h1, h2, h => absurd h2 (by omega)
  | n + 1, k, h1, h2, h => by
    rw [tsum, tsum]
    by_cases q : k = b
    · subst q
      have e1 : p k = true := by rw [h k (Nat.le_refl _) (by omega)]; simp
      rw [if_pos e1, if_neg (by rw [h0]; decide), tsum_cg n (k + 1) (fun x g1 g2 => ?_), Int32.zero_add]
      rw [h x (by omega) (by omega), show decide (x = k) = false from decide_eq_false (by omega), Bool.false_or]
    · have e1 : p k = p' k := by rw [h k (Nat.le_refl _) (by omega), decide_eq_false q, Bool.false_or]
      rw [e1, tsum_in h0 n (k + 1) (by omega) (by omega) (fun x g1 g2 => h x (by omega) (by omega))]
      rw [← Int32.add_assoc, ← Int32.add_assoc, Int32.add_comm _ (w b)]
def ancB (D : XD) (c b : Nat) (C : XO) (x : Nat) : Bool := decide (fX0_comesFrom C (24 * c + b) (24 * c + x) = 1)
theorem ancB_iff {D : XD} {C M : XO} (h : RGD D C M) {c b x : Nat} (hc : c < 2) (hb : b < dnb D c) (hx : x < 24) : ancB D c b C x = true ↔ Anc (dpa D c) b x := by
  have hnb := (h.NB c hc).2.2.2
  unfold ancB
  rcases cFrom h hc (show b < 24 by omega) hx with ⟨a1, a2, a3⟩ | ⟨a1, a3⟩
  · rw [a3]
    exact ⟨fun _ => a2, fun _ => rfl⟩
  · rw [a3]
    exact ⟨fun z => absurd z (by decide), fun z => absurd ⟨hb, z⟩ a1⟩
/-- what one block adds -/
def wFind (C : XO) (c p x : Nat) : Int32 := (if xI C 11 (24 * c + x) 0 &&& blm p = blm p then (100 : Int32) else 0) + fX0_countEvents C (24 * c + x) (nI p)
theorem mFind {D : XD} {C M : XO} (h : RGD D C M) {c p : Nat} (hc : c < 2) (hp : p < 16) : ∀ (n b : Nat) (z : Int32), b < dnb D c → b + 2 ≤ n → ∃ u, fX11_find_l67 M (blm p) (nI c) (nI p) n (nI b) z = some (u, z + tsum (ancB D c b C) (wFind C c p) 24 0)
  | 0, b, z, hb, hn => absurd hn (by omega)
  | n + 1, b, z, hb, hn => by
    have hnb := (h.NB c hc).2.2.2
    have hb2 : b < 24 := by omega
    have hg : 24 * c + b < 48 := by omega
    obtain ⟨g1, g2, g3⟩ := inB_24 hc hb2
    obtain ⟨v, v1, v2, v3⟩ := dEv (y1 := nI c) (y3 := blm p) (y5 := nI b) h hc hb2 hp
    have hbl : xI M 2128 0 (24 * c + b) = xI C 11 (24 * c + b) 0 := (h.B2 _ hg).2.2.2.2.2.1.symm
    have hpr := h.par hc hb
    obtain ⟨p1, p2⟩ := h.PA c hc b hb
    obtain ⟨u, hu⟩ := v2 (z + (if xI C 11 (24 * c + b) 0 &&& blm p = blm p then (100 : Int32) else 0))
    have hst : fX11_find_l67 M (blm p) (nI c) (nI p) (n + 1) (nI b) z = fX11_find_l67 M (blm p) (nI c) (nI p) n (xI M 2120 0 (24 * c + b)) (z + wFind C c p b) := by
      rw [fX11_find_l67, if_neg (nI_nlt0 (by omega)), if_pos g1, g3, g2, hbl]
      unfold wl
      dsimp only
      rw [ob_s hu, if_pos (inB_nI hg (by decide))]
      unfold wFind
      rw [v1, Int32.add_assoc]
    rw [hst, p1]
    by_cases q0 : b = 0
    · rw [if_pos q0]
      obtain ⟨n', rfl⟩ : ∃ n', n = n' + 1 := ⟨n - 1, by omega⟩
      refine ⟨-1, ?_⟩
      rw [fX11_find_l67, if_pos (by decide)]
      have e : tsum (ancB D c b C) (wFind C c p) 24 0 = wFind C c p b + tsum (fun _ => false) (wFind C c p) 24 0 := by
        refine tsum_in rfl 24 0 (Nat.zero_le _) (by omega) (fun x g1 g2 => ?_)
        rw [Bool.or_false, Bool.eq_iff_iff, ancB_iff h hc hb (by omega), decide_eq_true_iff, Anc_iff hpr]
        constructor
        · rintro (y | ⟨y, -⟩)
          · exact y
          · omega
        · exact fun y => Or.inl y
      have e0 : ∀ w : Nat → Int32, ∀ n k, tsum (fun _ => false) w n k = 0 := by
        intro w n
        induction n with
        | zero => intro k; rfl
        | succ n ih => intro k; rw [tsum, ih]; rfl
      rw [e, e0, Int32.add_zero]
    · have p3 := p2 (by omega)
      obtain ⟨u2, hu2⟩ := mFind h hc hp n (dpa D c b) (z + wFind C c p b) (by omega) (by omega)
      refine ⟨u2, ?_⟩
      rw [if_neg q0, hu2]
      have e : tsum (ancB D c b C) (wFind C c p) 24 0 = wFind C c p b + tsum (ancB D c (dpa D c b) C) (wFind C c p) 24 0 := by
        refine tsum_in ?_ 24 0 (Nat.zero_le _) (by omega) (fun x g1 g2 => ?_)
        · cases hz : ancB D c (dpa D c b) C b with
          | false => rfl
          | true =>
            have := (ancB_iff h hc (by omega) hb2).mp hz
            have := Anc_le _ _ _ (Nat.le_refl _) (h.par hc (show dpa D c b < dnb D c by omega)) this
            omega
        · rw [Bool.eq_iff_iff, ancB_iff h hc hb (by omega), Bool.or_eq_true, decide_eq_true_iff, ancB_iff h hc (show dpa D c b < dnb D c by omega) (by omega), Anc_iff hpr]
          constructor
          · rintro (y | ⟨-, y⟩)
            · exact Or.inl y
            · exact Or.inr y
          · rintro (y | y)
            · exact Or.inl y
            · exact Or.inr ⟨by omega, y⟩
      rw [e, Int32.add_assoc]
theorem add5 (a b d e t : Int32) : (a + b) + (d + e) + t = (a + d) + ((b + e) + t) := by
  rw [Int32.add_assoc a b, ← Int32.add_assoc b d e, Int32.add_comm b d, Int32.add_assoc d b e, ← Int32.add_assoc a d, Int32.add_assoc (a + d)]
theorem cFind {D : XD} {C M : XO} (h : RGD D C M) {c p m : Nat} (hc : c < 2) (hp : p < 16) (hm : m < dnb D c) (hh : fX1_headBlock C c = 24 * c + m) : ∀ (n k : Nat) (y4 y3 : Int32), n = 25 - k → k ≤ 24 → fX1_search_l C c (nI p) n k y4 y3 = ((100 : Int32) * y3 + y4) + tsum (ancB D c m C) (wFind C c p) (24 - k) k
  | 0, k, y4, y3, hn, hk => absurd hn (by omega)
  | n + 1, k, y4, y3, hn, hk => by
    have hnb := (h.NB c hc).2.2.2
    by_cases hk24 : k = 24
    · subst hk24
      rw [fX1_search_l, if_pos (show nI (alen 2002) ≤ nI 24 by decide)]
      exact (Int32.add_zero _).symm
    · have hk2 : k < 24 := by omega
      rw [fX1_search_l, if_neg (show ¬ nI (alen 2002) ≤ nI k from nI_ge (b := 24) hk2 (by decide)), hh, cl_nI (by omega), show 24 - k = (24 - (k + 1)) + 1 by omega, tsum]
      rcases cFrom h hc (show m < 24 by omega) hk2 with ⟨-, -, a3⟩ | ⟨-, a3⟩
      · have e1 : ancB D c m C k = true := by unfold ancB; rw [a3]; rfl
        rw [a3, if_neg one_n0, if_pos e1]
        obtain ⟨v, v1, -, v3⟩ := dEv (y1 := 0) (y3 := 0) (y5 := 0) h hc hk2 hp
        by_cases q : xI C 11 (24 * c + k) 0 &&& blm p = blm p
        · have e2 : fX0_hasBloomOf C (24 * c + k) (nI p) = 1 := by
            unfold fX0_hasBloomOf
            rw [blm_c, if_pos q]
          rw [e2, if_neg one_n0, cFind h hc hp hm hh n (k + 1) _ _ (by omega) (by omega)]
          have e3 : wFind C c p k = 100 + fX0_countEvents C (24 * c + k) (nI p) := by
            unfold wFind
            rw [if_pos q]
          rw [e3, Int32.mul_add, Int32.mul_one]
          exact add5 _ _ _ _ _
        · have e2 : fX0_hasBloomOf C (24 * c + k) (nI p) = 0 := by
            unfold fX0_hasBloomOf
            rw [blm_c, if_neg q]
          rw [e2, if_pos rfl, cFind h hc hp hm hh n (k + 1) _ _ (by omega) (by omega)]
          have e3 : wFind C c p k = 0 := by
            unfold wFind
            rw [if_neg q, v1, v3 q, Int32.add_zero]
          rw [e3, Int32.zero_add]
      · have e1 : ¬ ancB D c m C k = true := by unfold ancB; rw [a3]; decide
        rw [a3, if_pos rfl, if_neg e1, Int32.zero_add, cFind h hc hp hm hh n (k + 1) _ _ (by omega) (by omega)]
theorem dFind {D : XD} {C M : XO} (h : RGD D C M) {c p : Nat} (hc : c < 2) (hp : p < 16) : ∃ v m u, m < dnb D c ∧ fX11_headOf M (nI c) = some (nI m) ∧ fX1_search C c (nI p) = v ∧ fX11_find_l67 M (blm p) (nI c) (nI p) 25 (nI m) 0 = some (u, v) := by
  obtain ⟨m, p1, p2, p3, p4⟩ := dHead h hc
  have hnb := (h.NB c hc).2.2.2
  obtain ⟨u, hu⟩ := mFind h hc hp 25 m 0 p1 (by omega)
  refine ⟨tsum (ancB D c m C) (wFind C c p) 24 0, m, u, p1, p4, ?_, ?_⟩
  · have e := cFind h hc hp p1 p3 25 0 0 0 rfl (by decide)
    have e0 : (100 : Int32) * 0 + 0 = 0 := by decide
    rw [e0, Int32.zero_add] at e
    exact e
  · rw [hu, Int32.zero_add]
theorem ok_find : OK_find RG := by
  intro Ω x1 x2 ⟨D, h⟩
  rcases dCh Ω Ω x1 with ⟨c, hc, rfl, e1, e2, e3⟩ | ⟨e1, e2⟩
  · rcases dRng Ω Ω x2 0 15 with ⟨m1, c1, r1, r2⟩ | ⟨m1, c1⟩
    · obtain ⟨p, hp, rfl⟩ : ∃ p, p < 16 ∧ x2 = nI p := by
        rcases dix x2 (n := 16) (by decide) with ⟨o, ho, e⟩ | hx
        · exact ⟨o, ho, e⟩
        · exfalso
          have t1 : (15 : Int32).toInt = 15 := rfl
          have t2 : (nI 16).toInt = 16 := rfl
          rcases hx with hx | hx
          · exact r1 hx
          · rw [ti_lt, t1] at r2
            rw [ti_le, t2] at hx
            omega
      obtain ⟨v, hv⟩ : ∃ v, v = fX1_search Ω c (nI p) := ⟨_, rfl⟩
      obtain ⟨v', m, u, p1, p2, p3, p4⟩ := dFind (RGD_ans2 h v.toInt64 0) hc hp
      have hvv : v' = v := by rw [hv, p3]
      subst hvv
      refine ⟨(.inl (some (.int v')), Ω), (0, uL Ω 2017 0 0 v'.toInt64), (v', ans Ω v'.toInt64 0), ?_, rfl, ?_, ans_t _ _ _, fun _ => ans_o _ _ _, ⟨D, h.ans _ _⟩⟩
      · unfold fX10_find
        rw [if_pos e2, if_pos c1, e3, ← hv]
      · unfold fX11_find
        have m1' : fX11_in (uL Ω 2017 0 0 v'.toInt64) (nI p) 0 15 = some 1 := by rw [eIn] at m1 ⊢; exact m1
        rw [ob_s (eChain1 hc)]
        simp only [one_n0, if_false, m1', Option.bind_some, eHolds0, if_true]
        have p2' : fX11_headOf (uI (uL Ω 2017 0 0 v'.toInt64) 1160 0 0 0) (nI c) = some (nI m) := p2
        rw [p2', Option.bind_some, blm_m p hp]
        have p4' : fX11_find_l67 (uI (uL Ω 2017 0 0 v'.toInt64) 1160 0 0 0) (blm p) (nI c) (nI p) 25 (nI m) 0 = some (u, v') := p4
        rw [p4']
        rfl
    · refine ⟨(.inr xIA, Ω), (2, Ω), (-1, uI Ω 1160 0 0 2), ?_, rfl, ?_, thr_t _ _, n20, ⟨D, h.thr _⟩⟩
      · unfold fX10_find
        rw [if_pos e2, c1, if_neg (by simp)]
        rfl
      · unfold fX11_find
        rw [ob_s e1]
        simp only [one_n0, if_false, m1, Option.bind_some, if_true, eHolds2]
  · refine ⟨(.inr xIO, Ω), (1, Ω), (-1, uI Ω 1160 0 0 1), ?_, rfl, ?_, thr_t _ _, n10, ⟨D, h.thr _⟩⟩
    · unfold fX10_find
      rw [e2, if_neg (by simp)]
      rfl
    · unfold fX11_find
      rw [ob_s e1]
      simp only [if_true, eHolds1, Option.bind_some, one_n0, if_false]
