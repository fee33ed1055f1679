def tMake (Ω : XO) (x1 x2 x3 : Int32) : Option Int32 := (fX11_isBlock Ω x1 x2).bind (fun r_1 => (((if r_1 = 0 then (some (0 : Int32)) else (fX11_in Ω x3 (0 : Int32) (5 : Int32)).bind (fun r_4 => (if r_4 = 0 then (some (0 : Int32)) else (some (1 : Int32))))) : Option (Int32))))
def sMake (Ω : XO) (x1 x2 j_2 : Int32) : Option Int32 := (((if j_2 = 0 then (some (0 : Int32)) else (if inB x1 2 then (if (xI Ω 2109 0 x1.toNatClampNeg) = (24 : Int32) then (some (1 : Int32)) else (if inB (((24 : Int32) * x1) + x2) 48 then (if (xI Ω 2126 0 (((24 : Int32) * x1) + x2).toNatClampNeg) = (1 : Int32) then (some (1 : Int32)) else (some (0 : Int32))) else none)) else none)) : Option (Int32)))
def rMake (Ω : XO) (x4 j_2 j_6 : Int32) : Option Int32 := (((if j_2 = 0 then (some (1 : Int32)) else (fX11_in Ω x4 (1 : Int32) (9 : Int32)).bind (fun r_16 => (if r_16 = 0 then (some (2 : Int32)) else (if j_6 = 0 then (some (0 : Int32)) else (some (3 : Int32)))))) : Option (Int32)))
theorem mMake_eq (Ω : XO) (x1 x2 x3 x4 : Int32) : fX11_make Ω x1 x2 x3 x4 = (tMake Ω x1 x2 x3).bind (fun j_2 => (sMake Ω x1 x2 j_2).bind (fun j_6 => (rMake Ω x4 j_2 j_6).bind (fun j_14 => (fX11_holds Ω j_14).bind (fun r_19 => if r_19.1 = 0 then eMake r_19.2 x1 x2 x3 x4 else some ((-1 : Int32), r_19.2))))) := by
  unfold fX11_make tMake
  rw [Option.bind_assoc]
  rfl
theorem mky_mk {k : Nat} (h : mky k = true) : scr k = false ∧ mkC.contains k = false := by
  unfold mky at h
  have h2 := List.contains_iff_mem.mp h
  simp only [List.mem_cons, List.not_mem_nil, or_false] at h2
  rcases h2 with rfl | h2
  · decide
  repeat (rcases h2 with rfl | h2; · decide)
theorem cky_mk {k : Nat} (h : cky k = true) : scr k = false ∧ mkM.contains k = false ∧ k ≠ 1160 := by
  unfold cky at h
  have h2 := List.contains_iff_mem.mp h
  simp only [List.mem_cons, List.not_mem_nil, or_false] at h2
  rcases h2 with rfl | h2
  · decide
  repeat (rcases h2 with rfl | h2; · decide)
theorem mkl_mk {k : Nat} (h : mkl k = true) : k ≠ 605 ∧ k ≠ 17 := ⟨fun z => by subst z; exact absurd h (by decide), fun z => by subst z; exact absurd h (by decide)⟩
theorem ckl_mk {k : Nat} (h : ckl k = true) : k ≠ 2123 := fun z => by subst z; exact absurd h (by decide)
theorem ok_make : OK_make RG := by
  intro Ω x1 x2 x3 x4 ⟨D, h⟩
  have e5 : (5 : Int32) = nI 6 - 1 := by decide
  have hm0 : tMake Ω x1 x2 x3 = some 0 → fX11_make Ω x1 x2 x3 x4 = some (-1, uI Ω 1160 0 0 1) := by
    intro ht
    rw [mMake_eq, ht, Option.bind_some]
    unfold sMake rMake
    rw [if_pos rfl, Option.bind_some, if_pos rfl, Option.bind_some, eHolds1, Option.bind_some]
    exact if_neg one_n0
  have hio : fX10_make Ω x1 x2 x3 x4 = some (.inr xIO, Ω) → tMake Ω x1 x2 x3 = some 0 → ∃ (r0 : (Option Value ⊕ String) × XO) (r q : Int32 × XO), fX10_make Ω x1 x2 x3 x4 = some r0 ∧ hlp false [xIO, xIA, xIS] r0.1 r0.2 = some r ∧ fX11_make r.2 x1 x2 x3 x4 = some q ∧ xI q.2 1160 0 0 = r.1 ∧ (r.1 = 0 → xL q.2 2017 0 0 = q.1.toInt64) ∧ RG q.2 := by
    intro a1 a2
    exact ⟨(.inr xIO, Ω), (1, Ω), (-1, uI Ω 1160 0 0 1), a1, rfl, hm0 a2, thr_t _ _, n10, ⟨D, h.thr _⟩⟩
  rcases dCh Ω Ω x1 with ⟨c, hc, rfl, c1, c2, c3⟩ | ⟨c1, c2⟩
  · rcases dBlk h.NB (nI c) x2 with ⟨c', p, hc2, hp, z, rfl, s1, s2, s3⟩ | ⟨s1, s2⟩
    · have hcc : c = c' := (nI_eq (by omega) (by omega)).mp z
      subst hcc
      rcases eIdx (M := Ω) (x := x3) (n := 6) (by decide) with ⟨⟨pr, hpr, rfl⟩, i1⟩ | ⟨hj, i1⟩
      · have i2 : eX10_demandIndex Ω (nI pr) 6 = none := cIdx1 (n := 6) hpr (by decide)
        have i3 : ∀ M, fX11_in M (nI pr) 0 5 = some 1 := fun M => by rw [e5]; rw [eIn] at i1 ⊢; exact i1
        obtain ⟨nb1, nb2, nb3, nb4⟩ := h.NB c hc
        have hg48 : 24 * c + p < 48 := by omega
        have hT : ∀ M, fX11_isBlock M (nI c) (nI p) = some 1 → tMake M (nI c) (nI p) (nI pr) = some 1 := by
          intro M a1
          unfold tMake
          rw [ob_s a1, if_neg one_n0, ob_s (i3 M), if_neg one_n0]
        have e24 : (24 : Int32) * nI c + nI p = nI (24 * c + p) := by rw [show (24 : Int32) = nI 24 from rfl, nI_mul, nI_add]
        have hS : ∀ M, sMake M (nI c) (nI p) 1 = some (if xI M 2109 0 c = 24 then 1 else if xI M 2126 0 (24 * c + p) = 1 then 1 else 0) := by
          intro M
          unfold sMake
          rw [if_neg one_n0, if_pos (inB_nI hc (by decide)), cl_nI (show c < 2147483648 by omega), e24, if_pos (inB_nI hg48 (by decide)), cl_nI (show 24 * c + p < 2147483648 by omega)]
          by_cases y1 : xI M 2109 0 c = 24
          · rw [if_pos y1, if_pos y1]
          · rw [if_neg y1, if_neg y1]
            by_cases y2 : xI M 2126 0 (24 * c + p) = 1
            · rw [if_pos y2, if_pos y2]
            · rw [if_neg y2, if_neg y2]
        have hT0 := hT Ω s1
        rcases dRng2 x4 1 9 with ⟨u4, l4, m4, c4⟩ | ⟨m4, c4⟩
        · obtain ⟨wt, hw1, hw9, rfl⟩ := rgN (a := 1) (b := 9) (by decide) u4 l4 (by decide)
          have hM : ∀ M j, tMake M (nI c) (nI p) (nI pr) = some 1 → (if xI M 2109 0 c = 24 then (1 : Int32) else if xI M 2126 0 (24 * c + p) = 1 then 1 else 0) = j → fX11_make M (nI c) (nI p) (nI pr) (nI wt) = (fX11_holds M (if j = 0 then 0 else 3)).bind (fun r_19 => if r_19.1 = 0 then eMake r_19.2 (nI c) (nI p) (nI pr) (nI wt) else some ((-1 : Int32), r_19.2)) := by
            intro M j a1 a2
            rw [mMake_eq, a1, Option.bind_some, hS, a2, Option.bind_some]
            unfold rMake
            rw [if_neg one_n0, ob_s (m4 M), if_neg one_n0]
            by_cases y : j = 0
            · rw [if_pos y, if_pos y, Option.bind_some]
            · rw [if_neg y, if_neg y, Option.bind_some]
          have hIS : (if xI Ω 2109 0 c = 24 then (1 : Int32) else if xI Ω 2126 0 (24 * c + p) = 1 then 1 else 0) = 1 → fX11_make Ω (nI c) (nI p) (nI pr) (nI wt) = some (-1, uI Ω 1160 0 0 3) := by
            intro y
            rw [hM Ω 1 hT0 y, if_neg one_n0, eHolds3, Option.bind_some]
            exact if_neg one_n0
          have hCl : fX10_make Ω (nI c) (nI p) (nI pr) (nI wt) = (if (24 : Int32) ≤ nI (dnb D c) then (some (.inr ((eX10_demandState Ω (0 : Int32)).getD ""), Ω)) else (if (xI Ω 13 (24 * c + p) 0) = 0 then (fX1_grow Ω c (24 * c + p) (nI pr) (nI wt)).bind (fun r_13 => (some (.inl (some (.int (r_13.1))), r_13.2))) else (some (.inr ((eX10_demandState Ω (0 : Int32)).getD ""), Ω)))) := by
            unfold fX10_make
            rw [if_pos c2, if_pos s2, if_pos i2, if_pos (c4 Ω), c3, s3, nb1]
          have h13 : xI Ω 13 (24 * c + p) 0 = xI Ω 2126 0 (24 * c + p) := (h.B2 (24 * c + p) hg48).2.2.2.2.2.2.2.1
          by_cases hn : dnb D c < 24
          · by_cases hd : xI Ω 13 (24 * c + p) 0 = 0
            · obtain ⟨C5, M5, g1, -, -, cA, -, lA, -, -⟩ := dMakeAll h hc hn hp hpr hw9
              obtain ⟨w, hw⟩ : ∃ w, w = (nI (dnb D c)).toInt64 := ⟨_, rfl⟩
              have hW : RGD D Ω (uL C5 2017 0 0 w) := h.mv (fun _ _ _ _ _ => rfl) (fun _ _ _ _ _ => rfl) (fun k hk _ i j => by
                obtain ⟨a1, a2⟩ := mky_mk hk
                rw [L_I', cA k a1 a2 i j]) (fun k hk _ i j => by
                obtain ⟨a1, a2⟩ := mkl_mk hk
                rw [L_uL, if_neg (fun z => mkl_no hk z.1), lA k a1 a2 i j])
              obtain ⟨M0, hM0⟩ : ∃ M0, M0 = uI (uL C5 2017 0 0 w) 1160 0 0 0 := ⟨_, rfl⟩
              have hMM : RGD D Ω M0 := hW.mv (fun _ _ _ _ _ => rfl) (fun _ _ _ _ _ => rfl) (fun k hk _ i j => by rw [hM0, I_ne (mky_no2 hk).1]) (fun k hk _ i j => by rw [hM0, L_uI])
              obtain ⟨C6, M', q1, q2, q3, -, q5, -, q7, q8⟩ := dMakeAll hMM hc hn hp hpr hw9
              have hCC : C6 = C5 := congrArg Prod.snd (Option.some.inj (q1.symm.trans g1))
              subst hCC
              have n24 : ¬ nI (dnb D c) = 24 := fun y => by
                have := (nI_eq (b := 24) (show dnb D c < 2147483648 by omega) (by decide)).mp y
                omega
              have hfin : RG M' := ⟨_, q3.mv (fun k hk _ i j => by
                obtain ⟨a1, a2, a3⟩ := cky_mk hk
                rw [q5 k a1 a2 i j, hM0, I_ne a3, L_I']) (fun k hk _ i j => by rw [q7 k (ckl_mk hk) i j, hM0, L_uI, L_uL, if_neg (fun z => ckl_no hk z.1)]) (fun _ _ _ _ _ => rfl) (fun _ _ _ _ _ => rfl)⟩
              refine ⟨(.inl (some (.int (nI (dnb D c)))), C6), (0, uL C6 2017 0 0 w), (nI (dnb D c), M'), ?_, by rw [hw]; rfl, ?_, ?_, fun _ => ?_, hfin⟩
              · rw [hCl, if_neg (show ¬ (24 : Int32) ≤ nI (dnb D c) from nI_ge (b := 24) hn (by decide)), if_pos hd, g1, Option.bind_some]
              · have u1 : xI (uL C6 2017 0 0 w) 2109 0 c = nI (dnb D c) := (hW.NB c hc).2.1
                have u2 : xI (uL C6 2017 0 0 w) 2126 0 (24 * c + p) = 0 := by rw [← (hW.B2 (24 * c + p) hg48).2.2.2.2.2.2.2.1, hd]
                rw [hM (uL C6 2017 0 0 w) 0 (hT _ (eBlk1 hW.NB hc hp)) (by rw [u1, if_neg n24, u2, if_neg (show ¬ (0 : Int32) = 1 by decide)]), if_pos rfl, eHolds0, Option.bind_some, if_pos rfl, ← hM0, q2]
              · rw [q8, hM0, thr_t]
              · rw [q7 2017 (by decide) 0 0, hM0, L_uI, L_uL, if_pos ⟨rfl, rfl, rfl⟩, hw]
            · have hd1 : xI Ω 2126 0 (24 * c + p) = 1 := by
                rcases (h.DR (24 * c + p) hg48).1 with y | y
                · exact absurd y hd
                · rw [← h13, y]
              refine ⟨(.inr xIS, Ω), (3, Ω), (-1, uI Ω 1160 0 0 3), ?_, rfl, hIS ?_, thr_t _ _, n30, ⟨D, h.thr _⟩⟩
              · rw [hCl, if_neg (show ¬ (24 : Int32) ≤ nI (dnb D c) from nI_ge (b := 24) hn (by decide)), if_neg hd]
                rfl
              · by_cases y : xI Ω 2109 0 c = 24
                · rw [if_pos y]
                · rw [if_neg y, if_pos hd1]
          · have hn24 : dnb D c = 24 := by omega
            refine ⟨(.inr xIS, Ω), (3, Ω), (-1, uI Ω 1160 0 0 3), ?_, rfl, hIS ?_, thr_t _ _, n30, ⟨D, h.thr _⟩⟩
            · rw [hCl, hn24, if_pos (show (24 : Int32) ≤ nI 24 by decide)]
              rfl
            · rw [nb2, hn24, if_pos (show nI 24 = 24 from rfl)]
        · refine ⟨(.inr xIA, Ω), (2, Ω), (-1, uI Ω 1160 0 0 2), ?_, rfl, ?_, thr_t _ _, n20, ⟨D, h.thr _⟩⟩
          · unfold fX10_make
            rw [if_pos c2, if_pos s2, if_pos i2, c4 Ω, if_neg (by simp)]
            rfl
          · rw [mMake_eq, hT0, Option.bind_some, hS, Option.bind_some]
            unfold rMake
            rw [if_neg one_n0, ob_s (m4 Ω), if_pos rfl, Option.bind_some, eHolds2, Option.bind_some]
            exact if_neg one_n0
      · refine hio ?_ ?_
        · unfold fX10_make
          rw [if_pos c2, if_pos s2, show eX10_demandIndex Ω x3 6 = some xIO from cIdx0 (y := nI 6) hj, if_neg (by simp)]
          rfl
        · unfold tMake
          rw [ob_s s1, if_neg one_n0, e5, ob_s i1, if_pos rfl]
    · refine hio ?_ ?_
      · unfold fX10_make
        rw [if_pos c2, s2, if_neg (by simp)]
        rfl
      · unfold tMake
        rw [ob_s s1, if_pos rfl]
  · refine hio ?_ ?_
    · unfold fX10_make
      rw [c2, if_neg (by simp)]
      rfl
    · unfold tMake
      rcases dBlk h.NB x1 x2 with ⟨c, _, hc, _, z, _, _, _, _⟩ | ⟨z, _⟩
      · rw [z, eChain1 hc] at c1
        exact absurd (Option.some.inj c1) one_n0
      · rw [ob_s z, if_pos rfl]

