theorem RGD.bn {D : XD} {C C' M : XO} (h : RGD D C M) (hf : RIf C C') : RGD D C' M := by
  have o : ∀ k i j, scr k = false → i < 48 → xI C' k i j = xI C k i j := fun k i j hs hi => hf.1 k i j (cmod_o2 hs (by omega) hi) (by omega)
  have oL : ∀ i j, i < 48 → xL C' 605 i j = xL C 605 i j := fun i j hi => hf.2 605 i j (Or.inr hi)
  have n48 : ∀ c b, c < 2 → b < dnb D c → 24 * c + b < 48 := fun c b hc hb => by have := (h.NB c hc).2.2.2; omega
  have gB2 : qB2 D C' M := by
    intro i hi
    rw [o 2 i 0 rfl hi, o 3 i 0 rfl hi, o 6 i 0 rfl hi, o 8 i 0 rfl hi, o 10 i 0 rfl hi, o 11 i 0 rfl hi, o 12 i 0 rfl hi, o 13 i 0 rfl hi, o 14 i 0 rfl hi]
    exact h.B2 i hi
  have gEV : qEV D C' M := by
    intro i hi j hj hj2
    rw [o 10 i 0 rfl hi] at hj2
    rw [o 2001 i j rfl hi]
    exact h.EV i hi j hj hj2
  have gST : qST D C' M := by
    intro i hi
    obtain ⟨h1, h2, h3, h4, h5⟩ := h.ST i hi
    exact ⟨fun j hj => by rw [o 2011 i j rfl hi, h1 j hj], fun j hj => by rw [o 2012 i j rfl hi, h2 j hj], fun j hj => by rw [o 2013 i j rfl hi, h3 j hj], fun j hj => by rw [o 2014 i j rfl hi, h4 j hj], by rw [o 604 i 0 rfl hi, h5]⟩
  have gPD : qPD D C' M := by
    intro i hi t ht
    rw [oL i 0 hi]
    exact h.PD i hi t ht
  have gBS : qBS D C' M := by
    intro c hc b hb
    rw [o 5 _ 0 rfl (n48 c b hc hb)]
    exact h.BS c hc b hb
  have gRC : qRC D C' M := by
    intro c hc b hb
    have hi : 24 * c + b < 48 := by omega
    rw [o 8 _ 0 rfl hi, o 10 _ 0 rfl hi, o 6 _ 0 rfl hi, o 11 _ 0 rfl hi, o 13 _ 0 rfl hi, o 14 _ 0 rfl hi, o 15 _ 0 rfl hi, hf.2 17 _ _ (Or.inl (by decide))]
    exact h.RC c hc b hb
  have gEE : qEE D C' M := by
    intro c hc b hb j hj
    have hi : 24 * c + b < 48 := by omega
    rw [o 10 _ 0 rfl hi] at hj
    rw [o 2001 _ j rfl hi]
    exact h.EE c hc b hb j hj
  have gBL : qBL D C' M := by
    intro c hc b hb j hj p a hp ha e
    have hi : 24 * c + b < 48 := by omega
    rw [o 10 _ 0 rfl hi] at hj
    rw [o 2001 _ j rfl hi] at e
    rw [o 11 _ 0 rfl hi]
    exact h.BL c hc b hb j hj p a hp ha e
  have gBB : qBB D C' M := by
    intro c hc b hb
    rw [o 5 _ 0 rfl (n48 c b hc hb)]
    exact h.BB c hc b hb
  have gRT : qRT D C' M := by
    intro c hc b hb W i w1 w2 w3 w4
    have hi := n48 c b hc hb
    rw [o 12 _ 0 rfl hi]
    exact h.RT c hc b hb W i (fun j hj => by rw [w1 j hj, o 2011 _ j rfl hi]) (fun j hj => by rw [w2 j hj, o 2012 _ j rfl hi]) (fun j hj => by rw [w3 j hj, o 2013 _ j rfl hi]) (fun j hj => by rw [w4 j hj, o 2014 _ j rfl hi])
  have gF0 : qF0 D C' M := by
    intro c hc
    have hi : 24 * c < 48 := by omega
    obtain ⟨f1, f2, f3, f4, f5⟩ := h.F0 c hc
    refine ⟨by rw [o 8 _ 0 rfl hi]; exact f1, fun j hj => ?_, fun j hj => by rw [o 2014 _ j rfl hi]; exact f3 j hj, by rw [o 604 _ 0 rfl hi]; exact f4, fun t ht => by rw [oL _ 0 hi]; exact f5 t ht⟩
    rw [o 2011 _ j rfl hi, o 2012 _ j rfl hi, o 2013 _ j rfl hi]
    exact f2 j hj
  have gGH : qGH D C' M := by
    intro c hc b hb h0
    have hi := n48 c b hc hb
    refine (h.GH c hc b hb h0).mv (Nat.le_refl _) (o 8 _ 0 rfl hi) (o 5 _ 0 rfl hi) (o 3 _ 0 rfl hi) (o 2 _ 0 rfl hi) (fun j => o 2000 _ j rfl hi) (fun x _ => ⟨rfl, rfl⟩) (fun _ => o 104 _ _ rfl (by omega)) (fun _ k j hk => ?_) (fun k q h1 h2 _ => ?_)
    · rcases hk with rfl | rfl | rfl <;> exact o _ _ _ rfl (by omega)
    · rcases txk h1 h2 with rfl | rfl | rfl | rfl | rfl | rfl | rfl | rfl | rfl | rfl | rfl <;> exact hf.1 _ _ _ rfl (by omega)
  exact ⟨qNB_cg (C := C) (M := M) (C' := C') (M' := M) (fun i j => hf.1 101 i j rfl (by omega)) (fun _ _ => rfl) h.NB, qNT_cg (C := C) (M := M) (C' := C') (M' := M) (fun i j => hf.1 103 i j rfl (by omega)) (fun _ _ => rfl) h.NT, qUP_cg (C := C) (M := M) (C' := C') (M' := M) (fun i j => hf.1 104 i j rfl (by omega)) (fun _ _ => rfl) h.UP, qFN_cg (C := C) (M := M) (C' := C') (M' := M) (fun i j => hf.1 201 i j rfl (by omega)) (fun _ _ => rfl) h.FN, qNO_cg (C := C) (M := M) (C' := C') (M' := M) (fun i j => hf.1 0 i j rfl (by omega)) h.NO, gB2, qRW_cg (C := C) (M := M) (C' := C') (M' := M) (fun i j => hf.1 2000 i j rfl (by omega)) (fun _ _ => rfl) h.RW, gEV, gST, gPD, gBS, qTO_cg (C := C) (M := M) (C' := C') (M' := M) (fun i j => hf.1 4 i j rfl (by omega)) (fun _ _ => rfl) h.TO, qPA_cg (C := C) (M := M) (C' := C') (M' := M) (fun _ _ => rfl) h.PA, qHT_cg (C := C) (M := M) (C' := C') (M' := M) (fun i j => hf.1 2 i j rfl (by omega)) h.HT, qLN_cg (C := C) (M := M) (C' := C') (M' := M) (fun i j => hf.1 16 i j rfl (by omega)) h.LN, gRC, qRE_cg (C := C) (M := M) (C' := C') (M' := M) (fun i j => hf.1 8 i j rfl (by omega)) (fun i j => hf.1 2000 i j rfl (by omega)) h.RE, qHD_cg (C := C) (M := M) (C' := C') (M' := M) (fun i j => hf.1 8 i j rfl (by omega)) (fun i j => hf.1 2000 i j rfl (by omega)) (fun i j => hf.2 17 i j (Or.inl (by decide))) h.HD, gEE, qTX_cg (C := C) (M := M) (C' := C') (M' := M) (fun i j => hf.1 701 i j rfl (by omega)) (fun i j => hf.1 702 i j rfl (by omega)) (fun i j => hf.1 704 i j rfl (by omega)) (fun i j => hf.1 706 i j rfl (by omega)) (fun i j => hf.1 707 i j rfl (by omega)) (fun i j => hf.1 708 i j rfl (by omega)) (fun _ _ => rfl) (fun _ _ => rfl) (fun _ _ => rfl) (fun _ _ => rfl) (fun _ _ => rfl) (fun _ _ => rfl) h.TX, qTB_cg (C := C) (M := M) (C' := C') (M' := M) (fun i j => hf.1 701 i j rfl (by omega)) (fun i j => hf.1 702 i j rfl (by omega)) (fun i j => hf.1 704 i j rfl (by omega)) (fun i j => hf.1 706 i j rfl (by omega)) (fun i j => hf.1 707 i j rfl (by omega)) (fun i j => hf.1 708 i j rfl (by omega)) h.TB, qTK_cg (C := C) (M := M) (C' := C') (M' := M) (fun i j => hf.1 709 i j rfl (by omega)) (fun i j => hf.1 703 i j rfl (by omega)) (fun i j => hf.1 705 i j rfl (by omega)) (fun i j => hf.1 704 i j rfl (by omega)) (fun i j => hf.1 710 i j rfl (by omega)) (fun i j => hf.1 711 i j rfl (by omega)) (fun _ _ => rfl) (fun _ _ => rfl) (fun _ _ => rfl) h.TK, qLV_cg (C := C) (M := M) (C' := C') (M' := M) (fun i j => hf.1 712 i j rfl (by omega)) (fun _ _ => rfl) h.LV, qTN_cg (C := C) (M := M) (C' := C') (M' := M) (fun i j => hf.1 700 i j rfl (by omega)) h.TN, qPR_cg (C := C) (M := M) (C' := C') (M' := M) (fun i j => hf.1 2008 i j rfl (by omega)) (fun i j => hf.1 2009 i j rfl (by omega)) (fun i j => hf.1 2010 i j rfl (by omega)) (fun _ _ => rfl) (fun _ _ => rfl) (fun _ _ => rfl) h.PR, qBG_cg (C := C) (M := M) (C' := C') (M' := M) (fun _ _ => rfl) h.BG, qDR_cg (C := C) (M := M) (C' := C') (M' := M) (fun i j => hf.1 13 i j rfl (by omega)) (fun i j => hf.1 14 i j rfl (by omega)) h.DR, qVA_cg (C := C) (M := M) (C' := C') (M' := M) (fun i j => hf.1 801 i j rfl (by omega)) (fun i j => hf.1 802 i j rfl (by omega)) (fun _ _ => rfl) (fun _ _ => rfl) h.VA, qVO_cg (C := C) (M := M) (C' := C') (M' := M) (fun i j => hf.1 801 i j rfl (by omega)) (fun i j => hf.1 802 i j rfl (by omega)) (fun i j => hf.1 900 i j rfl (by omega)) (fun i j => hf.1 901 i j rfl (by omega)) (fun i j => hf.1 902 i j rfl (by omega)) (fun i j => hf.1 903 i j rfl (by omega)) (fun _ _ => rfl) (fun _ _ => rfl) (fun _ _ => rfl) (fun _ _ => rfl) h.VO, qJU_cg (C := C) (M := M) (C' := C') (M' := M) (fun i j => hf.1 15 i j rfl (by omega)) (fun _ _ => rfl) h.JU, gBL, qJL_cg (C := C) (M := M) (C' := C') (M' := M) (fun i j => hf.1 14 i j rfl (by omega)) (fun i j => hf.1 15 i j rfl (by omega)) h.JL, qSI_cg (C := C) (M := M) (C' := C') (M' := M) (fun _ _ => rfl) h.SI, gBB, gRT, gF0, gGH⟩
theorem ok_rootAnew : OK_rootAnew RG := by
  intro Ω x1 x2 ⟨D, h⟩
  rcases dBlk h.NB x1 x2 with ⟨c, b, hc, hb, rfl, rfl, e1, e2, e3⟩ | ⟨e1, e2⟩
  · obtain ⟨hb2, hg⟩ := blk48 h.NB hc hb
    obtain ⟨g1, g2, g3⟩ := inB_24 hc hb2
    have c2 : eX10_demandChain Ω 0 (nI c) = none := (cChain1 hc).1
    have c3 : rX10_demandChain Ω 0 (nI c) = c := by
      rcases dCh Ω Ω (nI c) with ⟨c', hc', z, -, -, z2⟩ | ⟨z, -⟩
      · rw [z2]
        exact ((nI_eq (by omega) (by omega)).mp z).symm
      · rw [eChain1 hc] at z
        exact absurd (Option.some.inj z) one_n0
    obtain ⟨C1, k0, k1, k2, k3, k4, k5, k6⟩ := cFirst Ω
    have hpar := h.par hc hb
    have hf1 : RIf Ω C1 := by
      refine ⟨fun k i j h1 h2 => k1 k i j (fun y => ?_), fun k i j hk => k2 k i j (fun y => ?_)⟩
      · obtain ⟨rfl, z⟩ := y
        rcases z with rfl | rfl | rfl | rfl | rfl <;> exact absurd h1 (by simp [cmod])
      · omega
    have hs1 : SBn C1 Ω (24 * c) := by
      obtain ⟨-, f2, f3, f4, f5⟩ := h.F0 c hc
      have hi : 24 * c < 48 := by omega
      obtain ⟨t1, t2, t3, t4, t5⟩ := h.ST (24 * c) hi
      refine ⟨fun j hj => ?_, fun j hj => ?_, fun j hj => ?_, fun j hj => ?_, ?_, fun t ht => ?_⟩
      · rw [(k3 j hj).1, ← (f2 j hj).1, t1 j hj]
      · exact (k3 j hj).2.1.trans ((f2 j hj).2.1.symm.trans (by rw [t2 j hj, Nat.add_assoc]))
      · exact (k3 j hj).2.2.trans ((f2 j hj).2.2.symm.trans (by rw [t3 j hj, Nat.add_assoc]))
      · exact (k4 j hj).trans ((f3 j hj).symm.trans (by rw [t4 j hj, Nat.add_assoc]))
      · exact k5.trans (f4.symm.trans t5)
      · have e := h.PD (24 * c) hi t ht
        rw [Nat.add_assoc] at e
        rw [k6, ← e]
        exact ⟨fun z => absurd z (b64_0 (by omega)), fun z => absurd z (f5 t ht)⟩
    have han : ∀ (n b' : Nat), b' ≤ n → b' < dnb D c → Anc (dpa D c) b' 0 := by
      intro n
      induction n with
      | zero =>
        intro b' h1 h2
        have e : b' = 0 := by omega
        rw [e]
        exact Anc_self _ _
      | succ n ih =>
        intro b' h1 h2
        by_cases z : b' = 0
        · rw [z]
          exact Anc_self _ _
        · have hpb := h.par hc h2 b' (Nat.le_refl _) (by omega)
          exact (Anc_iff (h.par hc h2)).mpr (Or.inr ⟨by omega, ih (dpa D c b') (by omega) (by omega)⟩)
    obtain ⟨y', C', r1, hf, hs⟩ := rAll h hc hb 24 0 0 C1 (by omega) hf1 hs1 (han b b (Nat.le_refl _) hb) (Or.inr rfl) (fun x _ hx => absurd hx (by omega))
    obtain ⟨v, hv⟩ : ∃ v, v = xI Ω 12 (24 * c + b) 0 := ⟨_, rfl⟩
    have hrt : fX10_nodeOver C' 48 (4 : Int32) (0 : Int32) = v := by
      obtain ⟨t1, t2, t3, t4, -⟩ := h.ST _ hg
      obtain ⟨s1, s2, s3, s4, -⟩ := hs
      rw [hv]
      exact h.RT c hc b hb C' 48 (fun j hj => by rw [s1 j hj, t1 j hj]) (fun j hj => by rw [s2 j hj, t2 j hj, Nat.add_assoc]) (fun j hj => by rw [s3 j hj, t3 j hj, Nat.add_assoc]) (fun j hj => by rw [s4 j hj, t4 j hj, Nat.add_assoc])
    have hrun : fX1_runAnew Ω c (24 * c + b) = some (v, C') := by
      unfold fX1_runAnew wl
      dsimp only
      rw [k0, show (nI (alen 2002)).toNatClampNeg + 1 = 24 + 1 by decide, show (0 : Int32) = nI 0 from rfl, r1, Option.bind_some]
      dsimp only
      rw [show nI 0 = (0 : Int32) from rfl, hrt]
    have hC : RGD D C' C' := (h.bn hf).mv (fun _ _ _ _ _ => rfl) (fun _ _ _ _ _ => rfl) (fun k hk _ i j => by
      obtain ⟨a1, a2⟩ := mky_mk hk
      exact hf.1 k i j (cmod_o a1 a2) (fun y => by
        rcases y.2 with z | z <;> rw [z] at a2 <;> exact absurd a2 (by decide))) (fun k hk _ i j => hf.2 k i j (Or.inl (mkl_mk hk).1))
    have hcell : xI C' 2127 0 (24 * c + b) = v := by
      rw [hf.1 2127 _ _ rfl (by omega), hv]
      exact (h.B2 _ hg).2.2.2.2.2.2.1.symm
    refine ⟨(.inl (some (.int v)), C'), (0, uL C' 2017 0 0 v.toInt64), (v, ans C' v.toInt64 0), ?_, rfl, ?_, ans_t _ _ _, fun _ => ans_o _ _ _, ⟨D, hC.ans _ _⟩⟩
    · unfold fX10_rootAnew
      rw [if_pos e2, if_pos c2, c3, e3, hrun, Option.bind_some]
    · have e1' : fX11_isBlock (uL C' 2017 0 0 v.toInt64) (nI c) (nI b) = some 1 := eBlk1 (C := C') hC.NB hc hb
      unfold fX11_rootAnew fX11_root wl
      rw [ob_s e1']
      simp only [one_n0, if_false, eHolds0, Option.bind_some, if_true, if_pos g1, g3, I_uI, uL_I, hcell, Nat.reduceEqDiff, false_and]
      rfl
  · refine ⟨(.inr xIO, Ω), (1, Ω), (-1, uI Ω 1160 0 0 1), ?_, rfl, ?_, thr_t _ _, n10, ⟨D, h.thr _⟩⟩
    · unfold fX10_rootAnew
      rw [e2, if_neg (by simp)]
      rfl
    · unfold fX11_rootAnew fX11_root wl
      rw [ob_s e1]
      simp only [if_true, eHolds1, Option.bind_some, one_n0, if_false]
