def tVote (Ω : XO) (x1 x2 x3 x4 : Int32) : Option Int32 := (fX11_isBlock Ω x1 x3).bind (fun r_1 => (((if r_1 = 0 then (some (0 : Int32)) else (fX11_isBlock Ω x1 x4).bind (fun r_4 => (if r_4 = 0 then (some (0 : Int32)) else (fX11_in Ω x2 (0 : Int32) (3 : Int32)).bind (fun r_6 => (if r_6 = 0 then (some (0 : Int32)) else (some (1 : Int32))))))) : Option (Int32))))
def fVote (Ω : XO) (x1 x3 x4 j_2 : Int32) : Option Int32 := (((if j_2 = 0 then (some (0 : Int32)) else (if x3 = x4 then (some (0 : Int32)) else (fX11_from Ω x1 x4 x3).bind (fun r_11 => (if r_11 = 0 then (some (0 : Int32)) else (some (1 : Int32)))))) : Option (Int32)))
def sVote (Ω : XO) (j_2 j_8 j_13 : Int32) : Option Int32 := (((if j_2 = 0 then (some (1 : Int32)) else (if j_8 = 0 then (some (2 : Int32)) else (if inB j_13 8 then (if (xI Ω 2139 0 j_13.toNatClampNeg) = 0 then (some (3 : Int32)) else (if inB j_13 8 then (if (xI Ω 2138 0 j_13.toNatClampNeg) = (20 : Int32) then (some (3 : Int32)) else (some (0 : Int32))) else none)) else none))) : Option (Int32)))
def kVote (Ω : XO) (x1 x3 x4 j_2 j_8 j_13 : Int32) : Option (Int32 × XO) := (sVote Ω j_2 j_8 j_13).bind (fun j_15 => (fX11_holds Ω j_15).bind (fun r_24 => if r_24.1 = 0 then eVote r_24.2 x1 x3 x4 j_13 else some ((0 : Int32), r_24.2)))
theorem mVote_eq (Ω : XO) (x1 x2 x3 x4 : Int32) : fX11_vote Ω x1 x2 x3 x4 = (tVote Ω x1 x2 x3 x4).bind (fun j_2 => (fVote Ω x1 x3 x4 j_2).bind (fun j_8 => kVote Ω x1 x3 x4 j_2 j_8 (if j_2 = 0 then (0 : Int32) else ((4 : Int32) * x1) + x2))) := by
  unfold fX11_vote tVote
  rw [Option.bind_assoc]
  rfl
def gVote (Ω : XO) (c v S T : Nat) : Option ((Option Value ⊕ String) × XO) := (if (xI Ω 802 v 0) = 0 then (if (20 : Int32) ≤ (xI Ω 801 v 0) then (some (.inr ((eX10_demandState Ω (0 : Int32)).getD ""), Ω)) else (wl ((fX8_give Ω v S T).2) (fun Ω_20 => (fX2_settle Ω_20 c c).bind (fun r_23 => (if ((fX8_give Ω v S T).1) = 0 ∨ ((fX8_give Ω v S T).1) = 1 then (some (.inl (some (.int ((fX8_give Ω v S T).1))), r_23)) else none))))) else (some (.inr ((eX10_demandState Ω (0 : Int32)).getD ""), Ω)))
theorem ok_vote : OK_vote RG := by
  intro Ω x1 x2 x3 x4 ⟨D, h⟩
  have e3 : (3 : Int32) = nI 4 - 1 := by decide
  have hm0 : tVote Ω x1 x2 x3 x4 = some 0 → fX11_vote Ω x1 x2 x3 x4 = some (0, uI Ω 1160 0 0 1) := by
    intro ht
    rw [mVote_eq, ht, Option.bind_some]
    unfold fVote kVote sVote
    rw [if_pos rfl, Option.bind_some, if_pos rfl, if_pos rfl, Option.bind_some, eHolds1, Option.bind_some]
    exact if_neg one_n0
  have hio : fX10_vote Ω x1 x2 x3 x4 = some (.inr xIO, Ω) → tVote Ω x1 x2 x3 x4 = some 0 → ∃ (r0 : (Option Value ⊕ String) × XO) (r q : Int32 × XO), fX10_vote Ω x1 x2 x3 x4 = some r0 ∧ hlp true [xIO, xIA, xIS] r0.1 r0.2 = some r ∧ fX11_vote r.2 x1 x2 x3 x4 = some q ∧ xI q.2 1160 0 0 = r.1 ∧ (r.1 = 0 → xL q.2 2017 0 0 = (if q.1 = 0 then 0 else 1)) ∧ RG q.2 := by
    intro a1 a2
    exact ⟨(.inr xIO, Ω), (1, Ω), (0, uI Ω 1160 0 0 1), a1, rfl, hm0 a2, thr_t _ _, n10, ⟨D, h.thr _⟩⟩
  rcases dCh Ω Ω x1 with ⟨c, hc, rfl, c1, c2, c3⟩ | ⟨c1, c2⟩
  · rcases eIdx (M := Ω) (x := x2) (n := 4) (by decide) with ⟨⟨k, hk, rfl⟩, i1⟩ | ⟨hj, i1⟩
    · have i2 : eX10_demandIndex Ω (nI k) 4 = none := cIdx1 (n := 4) hk (by decide)
      have i3 : ∀ M, fX11_in M (nI k) 0 3 = some 1 := fun M => by rw [e3]; rw [eIn] at i1 ⊢; exact i1
      rcases dBlk h.NB (nI c) x3 with ⟨c', s, hc2, hs, z, rfl, s1, s2, s3⟩ | ⟨s1, s2⟩
      · have hcc : c = c' := (nI_eq (by omega) (by omega)).mp z
        subst hcc
        rcases dBlk h.NB (nI c) x4 with ⟨c', t, hc3, ht, z2, rfl, t1, t2, t3⟩ | ⟨t1, t2⟩
        · have hcc : c = c' := (nI_eq (by omega) (by omega)).mp z2
          subst hcc
          have hnb := (h.NB c hc).2.2.2
          have hT : ∀ M, fX11_isBlock M (nI c) (nI s) = some 1 → fX11_isBlock M (nI c) (nI t) = some 1 → tVote M (nI c) (nI k) (nI s) (nI t) = some 1 := by
            intro M a1 a2
            unfold tVote
            rw [ob_s a1, if_neg one_n0, ob_s a2, if_neg one_n0, ob_s (i3 M), if_neg one_n0]
          have hval : fX2_validator Ω c (nI k) = 4 * c + k := by
            unfold fX2_validator
            rw [if_neg (nI_nlt0 (by omega)), if_neg (show ¬ (4 : Int32) ≤ nI k from nI_ge (b := 4) hk (by decide)), cl_nI (by omega)]
          obtain ⟨v, hv⟩ : ∃ v, v = 4 * c + k := ⟨_, rfl⟩
          have hv8 : v < 8 := by omega
          have hvc : v / 4 = c := by omega
          have hvI : (4 : Int32) * nI c + nI k = nI v := by rw [show (4 : Int32) = nI 4 from rfl, nI_mul, nI_add, hv]
          have hin : inB (nI v) 8 := inB_nI hv8 (by decide)
          have hcl : (nI v).toNatClampNeg = v := cl_nI (by omega)
          have hM : ∀ M j8, tVote M (nI c) (nI k) (nI s) (nI t) = some 1 → fVote M (nI c) (nI s) (nI t) 1 = some j8 → fX11_vote M (nI c) (nI k) (nI s) (nI t) = kVote M (nI c) (nI s) (nI t) 1 j8 (nI v) := by
            intro M j8 a1 a2
            rw [mVote_eq, a1, Option.bind_some, a2, Option.bind_some, if_neg one_n0, hvI]
          have hCl : ∀ X, fX10_vote Ω (nI c) (nI k) (nI s) (nI t) = X ↔ (if nI s = nI t then (some (.inr ((eX10_demandArgument Ω (0 : Int32)).getD ""), Ω)) else (if (fX0_comesFrom Ω (24 * c + t) (24 * c + s)) = 0 then (some (.inr ((eX10_demandArgument Ω (0 : Int32)).getD ""), Ω)) else gVote Ω c v (24 * c + s) (24 * c + t))) = X := by
            intro X
            unfold fX10_vote
            rw [if_pos c2, if_pos i2, if_pos s2, if_pos t2, c3, s3, t3, hval, ← hv]
            rfl
          have hT0 := hT Ω s1 t1
          have hf1 : fVote Ω (nI c) (nI s) (nI t) 1 = some 0 → fX11_vote Ω (nI c) (nI k) (nI s) (nI t) = some (0, uI Ω 1160 0 0 2) := by
            intro a1
            rw [hM Ω 0 hT0 a1]
            unfold kVote sVote
            rw [if_neg one_n0, if_pos rfl, Option.bind_some, eHolds2, Option.bind_some]
            exact if_neg (show ¬ (1 : Int32) = 0 from one_n0)
          by_cases hst : s = t
          · refine ⟨(.inr xIA, Ω), (2, Ω), (0, uI Ω 1160 0 0 2), (hCl _).mpr ?_, rfl, hf1 ?_, thr_t _ _, n20, ⟨D, h.thr _⟩⟩
            · rw [if_pos (by rw [hst])]
              rfl
            · unfold fVote
              rw [if_neg one_n0, if_pos (by rw [hst])]
          · have hstI : ¬ nI s = nI t := fun y => hst ((nI_eq (by omega) (by omega)).mp y)
            have hF : ∀ M r, fX11_from M (nI c) (nI t) (nI s) = some r → (r = 0 ∨ r = 1) → fVote M (nI c) (nI s) (nI t) 1 = some r := by
              intro M r a1 a2
              unfold fVote
              rw [if_neg one_n0, if_neg hstI, ob_s a1]
              rcases a2 with rfl | rfl
              · rw [if_pos rfl]
              · rw [if_neg one_n0]
            rcases cFrom h hc (show t < 24 by omega) (show s < 24 by omega) with ⟨-, hanc, f2⟩ | ⟨f1, f2⟩
            · have hj8 : fVote Ω (nI c) (nI s) (nI t) 1 = some 1 := by
                rcases eFrom h hc ht (show s < 24 by omega) with ⟨-, g⟩ | ⟨g, -⟩
                · exact hF Ω 1 g (Or.inr rfl)
                · exact absurd hanc g
              have hK : ∀ M, kVote M (nI c) (nI s) (nI t) 1 1 (nI v) = (fX11_holds M (if xI M 2139 0 v = 0 then 3 else if xI M 2138 0 v = 20 then 3 else 0)).bind (fun r_24 => if r_24.1 = 0 then eVote r_24.2 (nI c) (nI s) (nI t) (nI v) else some ((0 : Int32), r_24.2)) := by
                intro M
                unfold kVote sVote
                rw [if_neg one_n0, if_neg one_n0, hcl, if_pos hin, if_pos hin]
                by_cases y1 : xI M 2139 0 v = 0
                · rw [if_pos y1, if_pos y1, Option.bind_some]
                · rw [if_neg y1, if_neg y1]
                  by_cases y2 : xI M 2138 0 v = 20
                  · rw [if_pos y2, if_pos y2, Option.bind_some]
                  · rw [if_neg y2, if_neg y2, Option.bind_some]
              obtain ⟨⟨va1, va2, va3⟩, va4⟩ := h.VA v hv8
              have hIS : (if xI Ω 2139 0 v = 0 then (3 : Int32) else if xI Ω 2138 0 v = 20 then 3 else 0) = 3 → fX11_vote Ω (nI c) (nI k) (nI s) (nI t) = some (0, uI Ω 1160 0 0 3) := by
                intro y
                rw [hM Ω 1 hT0 hj8, hK, y, eHolds3, Option.bind_some]
                exact if_neg one_n0
              have hcl0 : ∀ X, gVote Ω c v (24 * c + s) (24 * c + t) = X → fX10_vote Ω (nI c) (nI k) (nI s) (nI t) = X := fun X y => (hCl X).mpr (by rw [if_neg hstI, if_neg (by rw [f2]; exact one_n0)]; exact y)
              rcases va4 with ⟨va5, va6⟩ | ⟨va5, va6⟩
              · obtain ⟨n, -, hn, hnI⟩ := rgN (x := xI Ω 801 v 0) (a := 0) (b := 20) (by decide) (by rw [ti_lt, ti_nI (by decide)]; omega) (by rw [ti_lt, ti_nI (by decide)]; omega) (by decide)
                by_cases hn20 : n < 20
                · obtain ⟨a, C1, C', a1, p1, p2, pW⟩ := vFinish h hc hv8 hvc hs ht hnI hn20 va5 hanc hst
                  have hN20 : ¬ nI n = 20 := fun y => by
                    have := (nI_eq (b := 20) (show n < 2147483648 by omega) (by decide)).mp y
                    omega
                  have hcls : fX10_vote Ω (nI c) (nI k) (nI s) (nI t) = some (.inl (some (.int (if a = 0 then 1 else 0))), C') := by
                    refine hcl0 _ ?_
                    unfold gVote
                    rw [if_pos va5, hnI, if_neg (show ¬ (20 : Int32) ≤ nI n from nI_ge (b := 20) hn20 (by decide)), p1]
                    unfold wl
                    dsimp only
                    rw [p2, Option.bind_some]
                    by_cases y : a = 0
                    · rw [if_pos y, if_pos (Or.inr rfl)]
                    · rw [if_neg y, if_pos (Or.inl rfl)]
                  have hmod : ∀ w : Int64, ∃ M', fX11_vote (uL C' 2017 0 0 w) (nI c) (nI k) (nI s) (nI t) = some (if a = 0 then 1 else 0, M') ∧ xI M' 1160 0 0 = 0 ∧ xL M' 2017 0 0 = w ∧ RG M' := by
                    intro w
                    obtain ⟨hW, M', q1, q2, q3, q4⟩ := pW w
                    refine ⟨M', ?_, q2, q3, q4⟩
                    have u1 := hT (uL C' 2017 0 0 w) (eBlk1 hW.NB hc hs) (eBlk1 hW.NB hc ht)
                    have u2 : fVote (uL C' 2017 0 0 w) (nI c) (nI s) (nI t) 1 = some 1 := by
                      rcases eFrom hW hc ht (show s < 24 by omega) with ⟨-, g⟩ | ⟨g, -⟩
                      · exact hF _ 1 g (Or.inr rfl)
                      · exact absurd hanc g
                    have u3 : ¬ xI (uL C' 2017 0 0 w) 2139 0 v = 0 := by
                      rcases (hW.VA v hv8).2 with ⟨-, y⟩ | ⟨y, -⟩
                      · rw [y]; decide
                      · rw [va5] at y; exact absurd y.symm one_n0
                    have u4 : ¬ xI (uL C' 2017 0 0 w) 2138 0 v = 20 := by rw [← (hW.VA v hv8).1.1, hnI]; exact hN20
                    rw [hM _ 1 u1 u2, hK, if_neg u3, if_neg u4, eHolds0, Option.bind_some, if_pos rfl, q1]
                  by_cases y : a = 0
                  · obtain ⟨M', q1, q2, q3, q4⟩ := hmod 1
                    rw [if_pos y] at hcls q1
                    exact ⟨_, (0, uL C' 2017 0 0 1), (1, M'), hcls, rfl, q1, q2, fun _ => by rw [q3]; exact (if_neg one_n0).symm, q4⟩
                  · obtain ⟨M', q1, q2, q3, q4⟩ := hmod 0
                    rw [if_neg y] at hcls q1
                    exact ⟨_, (0, uL C' 2017 0 0 0), (0, M'), hcls, rfl, q1, q2, fun _ => by rw [q3]; exact (if_pos rfl).symm, q4⟩
                · have hn20' : n = 20 := by omega
                  refine ⟨(.inr xIS, Ω), (3, Ω), (0, uI Ω 1160 0 0 3), hcl0 _ ?_, rfl, hIS ?_, thr_t _ _, n30, ⟨D, h.thr _⟩⟩
                  · unfold gVote
                    rw [if_pos va5, hnI, hn20', if_pos (show (20 : Int32) ≤ nI 20 by decide)]
                    rfl
                  · rw [va6, if_neg (show ¬ (100 : Int32) = 0 by decide), ← va1, hnI, hn20', if_pos (show nI 20 = 20 from rfl)]
              · refine ⟨(.inr xIS, Ω), (3, Ω), (0, uI Ω 1160 0 0 3), hcl0 _ ?_, rfl, hIS ?_, thr_t _ _, n30, ⟨D, h.thr _⟩⟩
                · unfold gVote
                  rw [va5, if_neg one_n0]
                  rfl
                · rw [if_pos va6]
            · refine ⟨(.inr xIA, Ω), (2, Ω), (0, uI Ω 1160 0 0 2), (hCl _).mpr ?_, rfl, hf1 ?_, thr_t _ _, n20, ⟨D, h.thr _⟩⟩
              · rw [if_neg hstI, if_pos f2]
                rfl
              · rcases eFrom h hc ht (show s < 24 by omega) with ⟨g, -⟩ | ⟨-, g⟩
                · exact absurd ⟨ht, g⟩ f1
                · exact hF Ω 0 g (Or.inl rfl)
        · refine hio ?_ ?_
          · unfold fX10_vote
            rw [if_pos c2, if_pos i2, if_pos s2, t2, if_neg (by simp)]
            rfl
          · unfold tVote
            rw [ob_s s1, if_neg one_n0, ob_s t1, if_pos rfl]
      · refine hio ?_ ?_
        · unfold fX10_vote
          rw [if_pos c2, if_pos i2, s2, if_neg (by simp)]
          rfl
        · unfold tVote
          rw [ob_s s1, if_pos rfl]
    · refine hio ?_ ?_
      · unfold fX10_vote
        rw [if_pos c2, show eX10_demandIndex Ω x2 4 = some xIO from cIdx0 (y := nI 4) hj, if_neg (by simp)]
        rfl
      · unfold tVote
        have hb : ∀ y, ∃ r, fX11_isBlock Ω (nI c) y = some r := fun y => by
          rcases dBlk h.NB (nI c) y with ⟨_, _, _, _, _, _, z, _, _⟩ | ⟨z, _⟩
          · exact ⟨1, z⟩
          · exact ⟨0, z⟩
        obtain ⟨r, hr⟩ := hb x3
        obtain ⟨r2, hr2⟩ := hb x4
        rw [ob_s hr]
        by_cases y : r = 0
        · rw [if_pos y]
        · rw [if_neg y, ob_s hr2]
          by_cases y2 : r2 = 0
          · rw [if_pos y2]
          · rw [if_neg y2, e3, ob_s i1, if_pos rfl]
  · refine hio ?_ ?_
    · unfold fX10_vote
      rw [c2, if_neg (by simp)]
      rfl
    · unfold tVote
      rcases dBlk h.NB x1 x3 with ⟨c, _, hc, _, z, _, _, _, _⟩ | ⟨z, _⟩
      · rw [z, eChain1 hc] at c1
        exact absurd (Option.some.inj c1) one_n0
      · rw [ob_s z, if_pos rfl]
