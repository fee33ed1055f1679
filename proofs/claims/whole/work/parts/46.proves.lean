theorem dRng (M Ω : XO) (x a b : Int32) : (fX11_in M x a b = some 1 ∧ eX10_demandRange Ω x a b = none ∧ ¬ x < a ∧ ¬ b < x) ∨ (fX11_in M x a b = some 0 ∧ eX10_demandRange Ω x a b = some xIA) := by
  by_cases h1 : x < a
  · refine Or.inr ⟨eIn0 (Or.inl h1), ?_⟩
    unfold eX10_demandRange
    rw [if_pos h1]
    rfl
  · by_cases h2 : b < x
    · refine Or.inr ⟨eIn0 (Or.inr h2), ?_⟩
      unfold eX10_demandRange
      rw [if_neg h1, if_pos h2]
      rfl
    · refine Or.inl ⟨eIn1 h1 h2, ?_, h1, h2⟩
      unfold eX10_demandRange
      rw [if_neg h1, if_neg h2]
theorem upx : ∀ k, k < 16 → ∀ r, r < 4 → ((nI k >>> (nI r &&& 31)) &&& 1 = 0 ↔ (nI k >>> (nI r &&& 31)) - (nI k >>> (nI r &&& 31)) / 2 * 2 = 0) := by decide +kernel
theorem eUp (M : XO) {k r : Nat} (hk : k < 16) (hr : r < 4) (x y : Int32) : fX11_up M x (nI r) (nI k) y = some (sJoin (nI k >>> (nI r &&& 31)) x y) := by
  unfold fX11_up sJoin
  by_cases h : (nI k >>> (nI r &&& 31)) &&& 1 = 0
  · rw [if_pos h, if_pos ((upx k hk r hr).mp h)]
    rfl
  · rw [if_neg h, if_neg (fun z => h ((upx k hk r hr).mpr z))]
    rfl
theorem sh0 : ∀ k, k < 16 → nI k >>> ((nI 0) &&& 31) = nI k := by decide +kernel
theorem pv_no {Ω : XO} {D : XD} (h : RGD D Ω Ω) {x1 x2 x3 x4 x5 x6 x7 x8 : Int32} (hc : fX10_proves Ω 0 x1 x2 x3 x4 x5 x6 x7 x8 = (.inr xIO, Ω)) (hm : fX11_proves Ω x1 x2 x3 x4 x5 x6 x7 x8 = some (0, uI Ω 1160 0 0 1)) : ∃ (r0 : (Option Value ⊕ String) × XO) (r q : Int32 × XO), fX10_proves Ω 0 x1 x2 x3 x4 x5 x6 x7 x8 = r0 ∧ hlp true [xIO, xIA] r0.1 r0.2 = some r ∧ fX11_proves r.2 x1 x2 x3 x4 x5 x6 x7 x8 = some q ∧ xI q.2 1160 0 0 = r.1 ∧ (r.1 = 0 → xL q.2 2017 0 0 = (if q.1 = 0 then 0 else 1)) ∧ RG q.2 :=
  ⟨_, (1, Ω), _, hc, rfl, hm, thr_t _ _, n10, ⟨D, h.thr _⟩⟩
theorem pv_na {Ω : XO} {D : XD} (h : RGD D Ω Ω) {x1 x2 x3 x4 x5 x6 x7 x8 : Int32} (hc : fX10_proves Ω 0 x1 x2 x3 x4 x5 x6 x7 x8 = (.inr xIA, Ω)) (hm : fX11_proves Ω x1 x2 x3 x4 x5 x6 x7 x8 = some (0, uI Ω 1160 0 0 2)) : ∃ (r0 : (Option Value ⊕ String) × XO) (r q : Int32 × XO), fX10_proves Ω 0 x1 x2 x3 x4 x5 x6 x7 x8 = r0 ∧ hlp true [xIO, xIA] r0.1 r0.2 = some r ∧ fX11_proves r.2 x1 x2 x3 x4 x5 x6 x7 x8 = some q ∧ xI q.2 1160 0 0 = r.1 ∧ (r.1 = 0 → xL q.2 2017 0 0 = (if q.1 = 0 then 0 else 1)) ∧ RG q.2 :=
  ⟨_, (2, Ω), _, hc, rfl, hm, thr_t _ _, n20, ⟨D, h.thr _⟩⟩
theorem nest5 {β : Type} (M : XO) (x4 x5 x6 x7 x8 : Int32) (K : Int32 → Option β) (R : Option β) (hK : ∀ j, K j = R) : (fX11_in M x4 (0 : Int32) (1000002 : Int32)).bind (fun r_6 => (((if r_6 = 0 then (some (0 : Int32)) else (fX11_in M x5 (0 : Int32) (1000002 : Int32)).bind (fun r_9 => (if r_9 = 0 then (some (0 : Int32)) else (fX11_in M x6 (0 : Int32) (1000002 : Int32)).bind (fun r_11 => (if r_11 = 0 then (some (0 : Int32)) else (fX11_in M x7 (0 : Int32) (1000002 : Int32)).bind (fun r_13 => (if r_13 = 0 then (some (0 : Int32)) else (fX11_in M x8 (0 : Int32) (1000002 : Int32)).bind (fun r_15 => (if r_15 = 0 then (some (0 : Int32)) else (some (1 : Int32))))))))))) : Option (Int32))).bind K) = R := by
  rcases dRng M M x4 0 1000002 with ⟨m4, -⟩ | ⟨m4, -⟩
  · rcases dRng M M x5 0 1000002 with ⟨m5, -⟩ | ⟨m5, -⟩
    · rcases dRng M M x6 0 1000002 with ⟨m6, -⟩ | ⟨m6, -⟩
      · rcases dRng M M x7 0 1000002 with ⟨m7, -⟩ | ⟨m7, -⟩
        · rcases dRng M M x8 0 1000002 with ⟨m8, -⟩ | ⟨m8, -⟩
          · simp only [m4, m5, m6, m7, m8, Option.bind_some, one_n0, if_false, hK]
          · simp only [m4, m5, m6, m7, m8, Option.bind_some, one_n0, if_false, if_true, hK]
        · simp only [m4, m5, m6, m7, Option.bind_some, one_n0, if_false, if_true, hK]
      · simp only [m4, m5, m6, Option.bind_some, one_n0, if_false, if_true, hK]
    · simp only [m4, m5, Option.bind_some, one_n0, if_false, if_true, hK]
  · simp only [m4, Option.bind_some, if_true, hK]
set_option maxHeartbeats 4000000 in
theorem ok_proves : OK_proves RG := by
  intro Ω x1 x2 x3 x4 x5 x6 x7 x8 ⟨D, h⟩
  have e15 : (15 : Int32) = nI 16 - 1 := by decide
  rcases dBlk h.NB x1 x2 with ⟨c, b, hc, hb, rfl, rfl, e1, e2, e3⟩ | ⟨e1, e2⟩
  · rcases eIdx (M := Ω) (x := x3) (n := 16) (by decide) with ⟨⟨k, hk, rfl⟩, e4⟩ | ⟨hj, e4⟩
    · have e5 : eX10_demandIndex Ω (nI k) 16 = none := cIdx1 (n := 16) hk (by decide)
      rw [← e15] at e4
      rcases dRng Ω Ω x4 0 1000002 with ⟨m4, c4, -, -⟩ | ⟨m4, c4⟩
      · rcases dRng Ω Ω x5 0 1000002 with ⟨m5, c5, -, -⟩ | ⟨m5, c5⟩
        · rcases dRng Ω Ω x6 0 1000002 with ⟨m6, c6, -, -⟩ | ⟨m6, c6⟩
          · rcases dRng Ω Ω x7 0 1000002 with ⟨m7, c7, -, -⟩ | ⟨m7, c7⟩
            · rcases dRng Ω Ω x8 0 1000002 with ⟨m8, c8, -, -⟩ | ⟨m8, c8⟩
              · obtain ⟨hb2, hg⟩ := blk48 h.NB hc hb
                obtain ⟨g1, g2, g3⟩ := inB_24 hc hb2
                obtain ⟨J, hJ⟩ : ∃ J, J = sJoin (nI k >>> ((3 : Int32) &&& 31)) (sJoin (nI k >>> ((2 : Int32) &&& 31)) (sJoin (nI k >>> ((1 : Int32) &&& 31)) (sJoin (nI k) x4 x5) x6) x7) x8 := ⟨_, rfl⟩
                have hcell : xI Ω 2127 0 (24 * c + b) = xI Ω 12 (24 * c + b) 0 := (h.B2 _ hg).2.2.2.2.2.2.1.symm
                have hup : ∀ W : XO, (fX11_up W x4 (0 : Int32) (nI k) x5).bind (fun r22 => (fX11_up W r22 (1 : Int32) (nI k) x6).bind (fun r23 => (fX11_up W r23 (2 : Int32) (nI k) x7).bind (fun r24 => fX11_up W r24 (3 : Int32) (nI k) x8))) = some J := by
                  intro W
                  rw [show (0 : Int32) = nI 0 from rfl, show (1 : Int32) = nI 1 from rfl, show (2 : Int32) = nI 2 from rfl, show (3 : Int32) = nI 3 from rfl, eUp W hk (by decide), Option.bind_some, eUp W hk (by decide), Option.bind_some, eUp W hk (by decide), Option.bind_some, eUp W hk (by decide), hJ, sh0 k hk]
                  rfl
                have u0 : ∀ W : XO, fX11_up W x4 (0 : Int32) (nI k) x5 = some (sJoin (nI k) x4 x5) := fun W => by
                  rw [show (0 : Int32) = nI 0 from rfl, eUp W hk (by decide), sh0 k hk]
                have u1 : ∀ (W : XO) (z : Int32), fX11_up W z (1 : Int32) (nI k) x6 = some (sJoin (nI k >>> ((1 : Int32) &&& 31)) z x6) := fun W z => eUp W hk (r := 1) (by decide) z x6
                have u2 : ∀ (W : XO) (z : Int32), fX11_up W z (2 : Int32) (nI k) x7 = some (sJoin (nI k >>> ((2 : Int32) &&& 31)) z x7) := fun W z => eUp W hk (r := 2) (by decide) z x7
                have u3 : ∀ (W : XO) (z : Int32), fX11_up W z (3 : Int32) (nI k) x8 = some (sJoin (nI k >>> ((3 : Int32) &&& 31)) z x8) := fun W z => eUp W hk (r := 3) (by decide) z x8
                by_cases hq : J = xI Ω 12 (24 * c + b) 0
                · have e1' : fX11_isBlock (uL Ω 2017 0 0 1) (nI c) (nI b) = some 1 := eBlk1 (C := Ω) h.NB hc hb
                  refine ⟨(.inl (some (.int 1)), Ω), (0, uL Ω 2017 0 0 1), (1, ans Ω 1 0), ?_, rfl, ?_, ans_t _ _ _, fun _ => ans_o _ _ _, ⟨D, h.ans _ _⟩⟩
                  · unfold fX10_proves
                    rw [if_pos e2, if_pos e5, if_pos c4, if_pos c5, if_pos c6, if_pos c7, if_pos c8, e3, ← hJ, if_pos hq]
                  · unfold fX11_proves wl
                    rw [ob_s e1']
                    simp only [one_n0, if_false, inU e4, Option.bind_some, inU m4, inU m5, inU m6, inU m7, inU m8, eHolds0, if_true, u0, u1, u2, u3, ← hJ, if_pos g1, g3, I_uI, uL_I, hcell, Nat.reduceEqDiff, false_and, if_pos hq, or_true]
                    rfl
                · have e1' : fX11_isBlock (uL Ω 2017 0 0 0) (nI c) (nI b) = some 1 := eBlk1 (C := Ω) h.NB hc hb
                  refine ⟨(.inl (some (.int 0)), Ω), (0, uL Ω 2017 0 0 0), (0, ans Ω 0 0), ?_, rfl, ?_, ans_t _ _ _, fun _ => ans_o _ _ _, ⟨D, h.ans _ _⟩⟩
                  · unfold fX10_proves
                    rw [if_pos e2, if_pos e5, if_pos c4, if_pos c5, if_pos c6, if_pos c7, if_pos c8, e3, ← hJ, if_neg hq]
                  · unfold fX11_proves wl
                    rw [ob_s e1']
                    simp only [one_n0, if_false, inU e4, Option.bind_some, inU m4, inU m5, inU m6, inU m7, inU m8, eHolds0, if_true, u0, u1, u2, u3, ← hJ, if_pos g1, g3, I_uI, uL_I, hcell, Nat.reduceEqDiff, false_and, if_neg hq, true_or]
                    rfl
              · refine pv_na h ?_ ?_
                · unfold fX10_proves
                  rw [if_pos e2, if_pos e5, if_pos c4, if_pos c5, if_pos c6, if_pos c7, c8, if_neg (by simp)]; rfl
                · unfold fX11_proves wl
                  rw [ob_s e1]
                  simp only [one_n0, if_false, e4, Option.bind_some, m4, m5, m6, m7, m8, if_true, eHolds2]
            · refine pv_na h ?_ ?_
              · unfold fX10_proves
                rw [if_pos e2, if_pos e5, if_pos c4, if_pos c5, if_pos c6, c7, if_neg (by simp)]; rfl
              · unfold fX11_proves wl
                rw [ob_s e1]
                simp only [one_n0, if_false, e4, Option.bind_some, m4, m5, m6, m7, if_true, eHolds2]
          · refine pv_na h ?_ ?_
            · unfold fX10_proves
              rw [if_pos e2, if_pos e5, if_pos c4, if_pos c5, c6, if_neg (by simp)]; rfl
            · unfold fX11_proves wl
              rw [ob_s e1]
              simp only [one_n0, if_false, e4, Option.bind_some, m4, m5, m6, if_true, eHolds2]
        · refine pv_na h ?_ ?_
          · unfold fX10_proves
            rw [if_pos e2, if_pos e5, if_pos c4, c5, if_neg (by simp)]; rfl
          · unfold fX11_proves wl
            rw [ob_s e1]
            simp only [one_n0, if_false, e4, Option.bind_some, m4, m5, if_true, eHolds2]
      · refine pv_na h ?_ ?_
        · unfold fX10_proves
          rw [if_pos e2, if_pos e5, c4, if_neg (by simp)]; rfl
        · unfold fX11_proves wl
          rw [ob_s e1]
          simp only [one_n0, if_false, e4, Option.bind_some, m4, if_true, eHolds2]
    · rw [← e15] at e4
      refine pv_no h ?_ ?_
      · unfold fX10_proves
        rw [if_pos e2, show eX10_demandIndex Ω x3 16 = some xIO from cIdx0 (y := nI 16) hj, if_neg (by simp)]; rfl
      · unfold fX11_proves wl
        rw [ob_s e1]
        simp only [one_n0, if_false, e4, Option.bind_some, if_true]
        refine nest5 _ _ _ _ _ _ _ _ (fun j => ?_)
        simp only [eHolds1, Option.bind_some, one_n0, if_false]
  · refine pv_no h ?_ ?_
    · unfold fX10_proves
      rw [e2, if_neg (by simp)]; rfl
    · unfold fX11_proves wl
      rw [ob_s e1]
      simp only [if_true, Option.bind_some]
      refine nest5 _ _ _ _ _ _ _ _ (fun j => ?_)
      simp only [eHolds1, Option.bind_some, one_n0, if_false]
