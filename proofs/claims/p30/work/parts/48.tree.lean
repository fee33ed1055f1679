theorem anc_st (par : Nat → Nat) : ∀ (n b x : Nat), b ≤ n → (∀ z, z ≤ b → 0 < z → par z < z) → (anc par n b x ↔ Anc par b x)
  | 0, b, x, h, _ => by
    rw [show b = 0 by omega]
    exact Iff.rfl
  | n + 1, 0, x, h, hp => by
    constructor
    · intro h2
      rcases h2 with h2 | ⟨h2, -⟩
      · exact h2
      · exact absurd h2 (by decide)
    · intro h2
      exact Or.inl h2
  | n + 1, b + 1, x, h, hp => by
    have h1 := hp (b + 1) (Nat.le_refl _) (by omega)
    have e1 := anc_st par n (par (b + 1)) x (by omega) (fun z hz => hp z (by omega))
    have e2 := anc_st par b (par (b + 1)) x (by omega) (fun z hz => hp z (by omega))
    show (x = b + 1 ∨ (0 < b + 1 ∧ anc par n (par (b + 1)) x)) ↔ (x = b + 1 ∨ (0 < b + 1 ∧ anc par b (par (b + 1)) x))
    rw [e1, e2]
theorem Anc_iff {par : Nat → Nat} {b x : Nat} (hp : ∀ z, z ≤ b → 0 < z → par z < z) : Anc par b x ↔ (x = b ∨ (0 < b ∧ Anc par (par b) x)) := by
  cases b with
  | zero =>
    constructor
    · intro h
      exact Or.inl h
    · rintro (h | ⟨h, -⟩)
      · exact h
      · exact absurd h (by decide)
  | succ b =>
    have h1 := hp (b + 1) (Nat.le_refl _) (by omega)
    show (x = b + 1 ∨ (0 < b + 1 ∧ anc par b (par (b + 1)) x)) ↔ _
    rw [anc_st par b (par (b + 1)) x (by omega) (fun z hz => hp z (by omega))]
theorem Anc_self (par : Nat → Nat) (b : Nat) : Anc par b b := by
  cases b with
  | zero => rfl
  | succ b => exact Or.inl rfl
theorem Anc_le {par : Nat → Nat} : ∀ (n b x : Nat), b ≤ n → (∀ z, z ≤ b → 0 < z → par z < z) → Anc par b x → x ≤ b
  | 0, b, x, h, hp, ha => by
    rcases (Anc_iff hp).mp ha with h1 | ⟨h1, -⟩ <;> omega
  | n + 1, b, x, h, hp, ha => by
    rcases (Anc_iff hp).mp ha with h1 | ⟨h1, h2⟩
    · omega
    · have h3 := hp b (Nat.le_refl _) h1
      have := Anc_le n (par b) x (by omega) (fun z hz => hp z (by omega)) h2
      omega
theorem RGD.par {D : XD} {C M : XO} (h : RGD D C M) {c b : Nat} (hc : c < 2) (hb : b < dnb D c) : ∀ z, z ≤ b → 0 < z → dpa D c z < z := fun z hz h0 => (h.PA c hc z (by omega)).2 h0
theorem eFrom_l {D : XD} {C M : XO} (h : RGD D C M) {c o : Nat} (hc : c < 2) (ho : o < 24) : ∀ (n b : Nat), b < dnb D c → b + 2 ≤ n → (Anc (dpa D c) b o ∧ fX11_from_l3 M (nI c) (nI o) n (nI b) = some (nI o)) ∨ (¬ Anc (dpa D c) b o ∧ fX11_from_l3 M (nI c) (nI o) n (nI b) = some (-1))
  | 0, b, hb, hn => absurd hn (by omega)
  | n + 1, b, hb, hn => by
    have hnb := (h.NB c hc).2.2.2
    have hp := h.par hc hb
    have ha := Anc_iff (x := o) hp
    obtain ⟨g1, g2, g3⟩ := inB_24 hc (show b < 24 by omega)
    by_cases q : b = o
    · subst q
      refine Or.inl ⟨Anc_self _ _, ?_⟩
      rw [fX11_from_l3, if_neg (nI_nlt0 (by omega)), if_pos rfl]
    · have q2 : ¬ nI b = nI o := fun z => q ((nI_eq (by omega) (by omega)).mp z)
      obtain ⟨p1, p2⟩ := h.PA c hc b hb
      by_cases q0 : b = 0
      · refine Or.inr ⟨fun z => ?_, ?_⟩
        · rcases ha.mp z with z | ⟨z, -⟩ <;> omega
        · rw [fX11_from_l3, if_neg (nI_nlt0 (by omega)), if_neg q2, if_pos g1, g3, p1, if_pos q0]
          obtain ⟨n', rfl⟩ : ∃ n', n = n' + 1 := ⟨n - 1, by omega⟩
          rw [fX11_from_l3, if_pos (by decide)]
      · have p3 := p2 (by omega)
        have e : fX11_from_l3 M (nI c) (nI o) (n + 1) (nI b) = fX11_from_l3 M (nI c) (nI o) n (nI (dpa D c b)) := by
          rw [fX11_from_l3, if_neg (nI_nlt0 (by omega)), if_neg q2, if_pos g1, g3, p1, if_neg q0]
        rw [e]
        rcases eFrom_l h hc ho n (dpa D c b) (by omega) (by omega) with ⟨r1, r2⟩ | ⟨r1, r2⟩
        · exact Or.inl ⟨ha.mpr (Or.inr ⟨by omega, r1⟩), r2⟩
        · refine Or.inr ⟨fun z => ?_, r2⟩
          rcases ha.mp z with z | ⟨-, z⟩
          · exact q z.symm
          · exact r1 z
theorem eFrom {D : XD} {C M : XO} (h : RGD D C M) {c b o : Nat} (hc : c < 2) (hb : b < dnb D c) (ho : o < 24) : (Anc (dpa D c) b o ∧ fX11_from M (nI c) (nI b) (nI o) = some 1) ∨ (¬ Anc (dpa D c) b o ∧ fX11_from M (nI c) (nI b) (nI o) = some 0) := by
  have hnb := (h.NB c hc).2.2.2
  rcases eFrom_l h hc ho 26 b hb (by omega) with ⟨r1, r2⟩ | ⟨r1, r2⟩
  · refine Or.inl ⟨r1, ?_⟩
    unfold fX11_from wl
    rw [ob_s r2, if_pos rfl]
    rfl
  · refine Or.inr ⟨r1, ?_⟩
    unfold fX11_from wl
    have q : ¬ (-1 : Int32) = nI o := fun z => by
      have h1 : (-1 : Int32).toInt = -1 := rfl
      rw [ti_eq, h1, ti_nI (by omega)] at z
      omega
    rw [ob_s r2, if_neg q]
    rfl
theorem b32_0 : ∀ x, x < 24 → ¬ b32 0 x := by
  have h : ∀ x, x < 24 → ¬ ((0 : Int32) >>> (nI x &&& 31)) &&& 1 = 1 := by decide +kernel
  exact h
/-- the class's comesFrom -/
theorem cFrom {D : XD} {C M : XO} (h : RGD D C M) {c b o : Nat} (hc : c < 2) (hb : b < 24) (ho : o < 24) : (b < dnb D c ∧ Anc (dpa D c) b o ∧ fX0_comesFrom C (24 * c + b) (24 * c + o) = 1) ∨ (¬ (b < dnb D c ∧ Anc (dpa D c) b o) ∧ fX0_comesFrom C (24 * c + b) (24 * c + o) = 0) := by
  have hno : xI C 0 (24 * c + o) 0 = nI o := by
    rw [h.NO _ (show 24 * c + o < 48 by omega), show (24 * c + o) % 24 = o by omega]
  unfold fX0_comesFrom
  rw [hno]
  by_cases q : b < dnb D c
  · have hl := (h.LN c hc).1 b q o ho
    by_cases q2 : b32 (xI C 16 (24 * c + b) 0) o
    · exact Or.inl ⟨q, hl.mp q2, if_pos q2⟩
    · exact Or.inr ⟨fun z => q2 (hl.mpr z.2), if_neg q2⟩
  · refine Or.inr ⟨fun z => q z.1, ?_⟩
    rw [(h.LN c hc).2 b (by omega) hb]
    exact if_neg (b32_0 o ho)
theorem t64_lt {a b : Int32} : a.toInt64 < b.toInt64 ↔ a < b := by
  rw [Int64.lt_iff_toInt_lt, ti_lt, Int32.toInt_toInt64, Int32.toInt_toInt64]
theorem t64_eq {a b : Int32} : a.toInt64 = b.toInt64 ↔ a = b := by
  rw [← Int64.toInt_inj, ti_eq, Int32.toInt_toInt64, Int32.toInt_toInt64]
theorem cmp_gt {x y : Int64} : 0 < lg_cmp x y ↔ y < x := by
  unfold lg_cmp
  by_cases q : x > y
  · rw [if_pos q]
    exact ⟨fun _ => q, fun _ => by decide⟩
  · rw [if_neg q]
    by_cases q2 : x = y
    · rw [if_pos q2]
      exact ⟨fun z => absurd z (by decide), fun z => absurd z q⟩
    · rw [if_neg q2]
      exact ⟨fun z => absurd z (by decide), fun z => absurd z q⟩
theorem cmp_eq {x y : Int64} : lg_cmp x y = 0 ↔ x = y := by
  unfold lg_cmp
  by_cases q : x > y
  · rw [if_pos q]
    refine ⟨fun z => absurd z (by decide), fun z => ?_⟩
    subst z
    have h1 := Int64.lt_iff_toInt_lt.mp q
    omega
  · rw [if_neg q]
    by_cases q2 : x = y
    · rw [if_pos q2]
      exact ⟨fun _ => q2, fun _ => rfl⟩
    · rw [if_neg q2]
      exact ⟨fun z => absurd z (by decide), fun z => absurd z q2⟩
/-- the head, on both sides: class's loop from block k on, best so far m -/
theorem cHead_l {D : XD} {C M : XO} (h : RGD D C M) {c : Nat} (hc : c < 2) : ∀ (n k m : Nat), n = 25 - k → k ≤ 24 → m < dnb D c → (m = dfn D c ∨ m < k) → Anc (dpa D c) m (dfn D c) → ∃ m', m' < dnb D c ∧ Anc (dpa D c) m' (dfn D c) ∧ fX1_headBlock_l C c n k (24 * c + m) = 24 * c + m' ∧ ∀ n2, (k ≤ dnb D c → n2 = dnb D c - k + 1 → fX11_headOf_l9 M (nI c) n2 (nI k) (nI m) = some (nI (dnb D c), nI m')) ∧ (dnb D c ≤ k → m' = m)
  | 0, k, m, hn, hk, hm, hmf, hma => absurd hn (by omega)
  | n + 1, k, m, hn, hk, hm, hmf, hma => by
    obtain ⟨b1, b2, b3, b4⟩ := h.NB c hc
    obtain ⟨f1, f2, f3⟩ := h.FN c hc
    by_cases hk24 : k = 24
    · subst hk24
      refine ⟨m, hm, hma, ?_, fun n2 => ⟨fun z1 z2 => ?_, fun _ => rfl⟩⟩
      · rw [fX1_headBlock_l, if_pos (show nI (alen 2002) ≤ nI 24 by decide)]
      · have e : dnb D c = 24 := by omega
        rw [z2, e]
        rw [fX11_headOf_l9, if_pos (inB_nI hc (by decide)), cl_nI (by omega), b2, e, if_pos (Int32.le_refl _)]
    · have hk2 : k < 24 := by omega
      obtain ⟨g1, g2, g3⟩ := inB_24 hc hk2
      obtain ⟨g4, g5, g6⟩ := inB_24 hc (show m < 24 by omega)
      have hcl : ∀ y2, fX1_headBlock_l C c (n + 1) k y2 = if fX0_comesFrom C (24 * c + k) (24 * c + dfn D c) = 0 then fX1_headBlock_l C c n (k + 1) y2 else if xI C 4 (24 * c + k) 0 ≤ xI C 4 y2 0 then fX1_headBlock_l C c n (k + 1) y2 else fX1_headBlock_l C c n (k + 1) (24 * c + k) := by
        intro y2
        rw [fX1_headBlock_l, if_neg (show ¬ nI (alen 2002) ≤ nI k from nI_ge (b := 24) hk2 (by decide)), lF_I h hc, cl_nI (by omega)]
      by_cases hkn : k < dnb D c
      · obtain ⟨t1, t2, t3⟩ := h.TO c hc k hkn
        obtain ⟨t4, t5, t6⟩ := h.TO c hc m hm
        have hmo : ∀ n2, fX11_headOf_l9 M (nI c) (n2 + 1) (nI k) (nI m) = (fX11_from M (nI c) (nI k) (nI (dfn D c))).bind (fun r_6 => (((if r_6 = 0 then (some (nI m)) else (if 0 < (lg_cmp (xL M 2123 0 (24 * c + k)) (xL M 2123 0 (24 * c + m))) then (some (nI k)) else (if (lg_cmp (xL M 2123 0 (24 * c + k)) (xL M 2123 0 (24 * c + m))) = 0 then (if nI m ≤ nI k then (some (nI m)) else (some (nI k))) else (some (nI m))))) : Option (Int32))).bind (fun j_7 => fX11_headOf_l9 M (nI c) n2 (nI k + 1) j_7)) := by
          intro n2
          rw [fX11_headOf_l9, if_pos (inB_nI hc (by decide)), cl_nI (show c < 2147483648 by omega), b2, if_neg (nI_ge hkn (by omega)), if_pos (inB_nI hc (by decide)), f2]
          simp only [if_pos g1, if_pos g4, g3, g6]
        rcases cFrom h hc hk2 (show dfn D c < 24 by omega) with ⟨a1, a2, a3⟩ | ⟨a1, a3⟩
        · have hfr : fX11_from M (nI c) (nI k) (nI (dfn D c)) = some 1 := by
            rcases eFrom h hc hkn (show dfn D c < 24 by omega) with ⟨-, r⟩ | ⟨r, -⟩
            · exact r
            · exact absurd a2 r
          have hkf : dfn D c ≤ k := Anc_le k k _ (Nat.le_refl _) (h.par hc hkn) a2
          by_cases hle : xI C 4 (24 * c + k) 0 ≤ xI C 4 (24 * c + m) 0
          · obtain ⟨m', p1, p2, p3, p4⟩ := cHead_l h hc n (k + 1) m (by omega) (by omega) hm (by omega) hma
            refine ⟨m', p1, p2, ?_, fun n2 => ⟨fun z1 z2 => ?_, fun z => absurd z (by omega)⟩⟩
            · rw [hcl, a3, if_neg one_n0, if_pos hle, p3]
            · obtain ⟨n3, rfl⟩ : ∃ n3, n2 = n3 + 1 := ⟨n2 - 1, by omega⟩
              rw [hmo, ob_s hfr, if_neg one_n0]
              have c1 : ¬ 0 < lg_cmp (xL M 2123 0 (24 * c + k)) (xL M 2123 0 (24 * c + m)) := by
                rw [cmp_gt, t1, t4, t64_lt]
                rw [ti_lt]
                rw [ti_le] at hle
                omega
              have hmk : nI m ≤ nI k := nI_le (by omega) (by omega)
              rw [if_neg c1, if_pos hmk]
              have e : (if lg_cmp (xL M 2123 0 (24 * c + k)) (xL M 2123 0 (24 * c + m)) = 0 then some (nI m) else some (nI m)) = some (nI m) := by
                split <;> rfl
              rw [e, Option.bind_some, nI_1]
              exact (p4 n3).1 (by omega) (by omega)
          · obtain ⟨m', p1, p2, p3, p4⟩ := cHead_l h hc n (k + 1) k (by omega) (by omega) hkn (by omega) a2
            refine ⟨m', p1, p2, ?_, fun n2 => ⟨fun z1 z2 => ?_, fun z => absurd z (by omega)⟩⟩
            · rw [hcl, a3, if_neg one_n0, if_neg hle, p3]
            · obtain ⟨n3, rfl⟩ : ∃ n3, n2 = n3 + 1 := ⟨n2 - 1, by omega⟩
              rw [hmo, ob_s hfr, if_neg one_n0]
              have c1 : 0 < lg_cmp (xL M 2123 0 (24 * c + k)) (xL M 2123 0 (24 * c + m)) := by
                rw [cmp_gt, t1, t4, t64_lt]
                rw [ti_lt]
                rw [ti_le] at hle
                omega
              rw [if_pos c1, Option.bind_some, nI_1]
              exact (p4 n3).1 (by omega) (by omega)
        · have hfr : fX11_from M (nI c) (nI k) (nI (dfn D c)) = some 0 := by
            rcases eFrom h hc hkn (show dfn D c < 24 by omega) with ⟨r, -⟩ | ⟨-, r⟩
            · exact absurd ⟨hkn, r⟩ a1
            · exact r
          obtain ⟨m', p1, p2, p3, p4⟩ := cHead_l h hc n (k + 1) m (by omega) (by omega) hm (by omega) hma
          refine ⟨m', p1, p2, ?_, fun n2 => ⟨fun z1 z2 => ?_, fun z => absurd z (by omega)⟩⟩
          · rw [hcl, a3, if_pos rfl, p3]
          · obtain ⟨n3, rfl⟩ : ∃ n3, n2 = n3 + 1 := ⟨n2 - 1, by omega⟩
            rw [hmo, ob_s hfr, if_pos rfl, Option.bind_some, nI_1]
            exact (p4 n3).1 (by omega) (by omega)
      · have a3 : fX0_comesFrom C (24 * c + k) (24 * c + dfn D c) = 0 := by
          rcases cFrom h hc hk2 (show dfn D c < 24 by omega) with ⟨a1, -⟩ | ⟨-, a3⟩
          · exact absurd a1 hkn
          · exact a3
        obtain ⟨m', p1, p2, p3, p4⟩ := cHead_l h hc n (k + 1) m (by omega) (by omega) hm (by omega) hma
        have p5 := (p4 0).2 (by omega)
        refine ⟨m', p1, p2, ?_, fun n2 => ⟨fun z1 z2 => ?_, fun _ => p5⟩⟩
        · rw [hcl, a3, if_pos rfl, p3]
        · have e : dnb D c = k := by omega
          rw [z2, e, Nat.sub_self, p5]
          rw [fX11_headOf_l9, if_pos (inB_nI hc (by decide)), cl_nI (by omega), b2, e, if_pos (Int32.le_refl _)]
/-- the head, on both sides -/
theorem dHead {D : XD} {C M : XO} (h : RGD D C M) {c : Nat} (hc : c < 2) : ∃ m, m < dnb D c ∧ Anc (dpa D c) m (dfn D c) ∧ fX1_headBlock C c = 24 * c + m ∧ fX11_headOf M (nI c) = some (nI m) := by
  obtain ⟨b1, b2, b3, b4⟩ := h.NB c hc
  obtain ⟨f1, f2, f3⟩ := h.FN c hc
  obtain ⟨m, p1, p2, p3, p4⟩ := cHead_l h hc 25 0 (dfn D c) rfl (by decide) f3 (Or.inl rfl) (Anc_self _ _)
  refine ⟨m, p1, p2, ?_, ?_⟩
  · unfold fX1_headBlock
    rw [lF_I h hc]
    exact p3
  · unfold fX11_headOf
    rw [if_pos (inB_nI hc (by decide)), cl_nI (by omega), b2, f2, cl_nI (by omega), show (0 : Int32) = nI 0 from rfl, ob_s ((p4 _).1 (Nat.zero_le _) (by rw [Nat.sub_zero]))]
theorem RGD_ans2 {D : XD} {C M : XO} (h : RGD D C M) (v : Int64) (k : Int32) : RGD D C (ans M v k) := h.keep2 (fun _ _ _ _ => rfl) (fun _ _ _ _ => rfl) (fun q hq i j => ans_I M v k (scr_ne hq)) (fun q hq i j => by
  show xL (uI (uL M 2017 0 0 v) 1160 0 0 k) q i j = _
  rw [L_uI, L_uL, if_neg (fun z => hq z.1)])
