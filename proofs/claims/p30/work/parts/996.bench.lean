theorem RGD.bn {D : XD} {C C' M : XO} (h : RGD D C M) (hf : RIf C C') : RGD D C' M := by
  have o : ∀ k i j, scr k = false → i < 48 → xI C' k i j = xI C k i j := fun k i j hs hi => hf.1 k i j (cmod_o2 hs (by omega) hi) (by omega)
  have oL : ∀ i j, i < 48 → xL C' 605 i j = xL C 605 i j := fun i j hi => hf.2 605 i j (Or.inr hi)
  have n48 : ∀ c b, c < 2 → b < dnb D c → 24 * c + b < 48 := fun c b hc hb => by have := (h.NB c hc).2.2.2; omega
  have gB2 : qB2 D C' M := by
    intro i hi
    rw [o 2 i 0 rfl hi, o 3 i 0 rfl hi, o 6 i 0 rfl hi, o 8 i 0 rfl hi, o 10 i 0 rfl hi, o 11 i 0 rfl hi, o 12 i 0 rfl hi, o 13 i 0 rfl hi, o 14 i 0 rfl hi]
    exact h.B2 i hi
  have gEV : qEV D C' M := by
    intro i hi j hj hj2
    rw [o 10 i 0 rfl hi] at hj2
    rw [o 2001 i j rfl hi]
    exact h.EV i hi j hj hj2
  have gST : qST D C' M := by
    intro i hi
    obtain ⟨h1, h2, h3, h4, h5⟩ := h.ST i hi
    exact ⟨fun j hj => by rw [o 2011 i j rfl hi, h1 j hj], fun j hj => by rw [o 2012 i j rfl hi, h2 j hj], fun j hj => by rw [o 2013 i j rfl hi, h3 j hj], fun j hj => by rw [o 2014 i j rfl hi, h4 j hj], by rw [o 604 i 0 rfl hi, h5]⟩
  have gPD : qPD D C' M := by
    intro i hi t ht
    rw [oL i 0 hi]
    exact h.PD i hi t ht
  have gBS : qBS D C' M := by
    intro c hc b hb
    rw [o 5 _ 0 rfl (n48 c b hc hb)]
    exact h.BS c hc b hb
  have gRC : qRC D C' M := by
    intro c hc b hb
    have hi : 24 * c + b < 48 := by omega
    rw [o 8 _ 0 rfl hi, o 10 _ 0 rfl hi, o 6 _ 0 rfl hi, o 11 _ 0 rfl hi, o 13 _ 0 rfl hi, o 14 _ 0 rfl hi, o 15 _ 0 rfl hi, hf.2 17 _ _ (Or.inl (by decide))]
    exact h.RC c hc b hb
  have gEE : qEE D C' M := by
    intro c hc b hb j hj
    have hi : 24 * c + b < 48 := by omega
    rw [o 10 _ 0 rfl hi] at hj
    rw [o 2001 _ j rfl hi]
    exact h.EE c hc b hb j hj
  have gBL : qBL D C' M := by
    intro c hc b hb j hj p a hp ha e
    have hi : 24 * c + b < 48 := by omega
    rw [o 10 _ 0 rfl hi] at hj
    rw [o 2001 _ j rfl hi] at e
    rw [o 11 _ 0 rfl hi]
    exact h.BL c hc b hb j hj p a hp ha e
  have gBB : qBB D C' M := by
    intro c hc b hb
    rw [o 5 _ 0 rfl (n48 c b hc hb)]
    exact h.BB c hc b hb
  have gRT : qRT D C' M := by
    intro c hc b hb W i w1 w2 w3 w4
    have hi := n48 c b hc hb
    rw [o 12 _ 0 rfl hi]
    exact h.RT c hc b hb W i (fun j hj => by rw [w1 j hj, o 2011 _ j rfl hi]) (fun j hj => by rw [w2 j hj, o 2012 _ j rfl hi]) (fun j hj => by rw [w3 j hj, o 2013 _ j rfl hi]) (fun j hj => by rw [w4 j hj, o 2014 _ j rfl hi])
  have gF0 : qF0 D C' M := by
    intro c hc
    have hi : 24 * c < 48 := by omega
    obtain ⟨f1, f2, f3, f4, f5⟩ := h.F0 c hc
    refine ⟨by rw [o 8 _ 0 rfl hi]; exact f1, fun j hj => ?_, fun j hj => by rw [o 2014 _ j rfl hi]; exact f3 j hj, by rw [o 604 _ 0 rfl hi]; exact f4, fun t ht => by rw [oL _ 0 hi]; exact f5 t ht⟩
    rw [o 2011 _ j rfl hi, o 2012 _ j rfl hi, o 2013 _ j rfl hi]
    exact f2 j hj
  have gGH : qGH D C' M := by
    intro c hc b hb h0
    have hi := n48 c b hc hb
    refine (h.GH c hc b hb h0).mv (Nat.le_refl _) (o 8 _ 0 rfl hi) (o 5 _ 0 rfl hi) (o 3 _ 0 rfl hi) (o 2 _ 0 rfl hi) (fun j => o 2000 _ j rfl hi) (fun x _ => ⟨rfl, rfl⟩) (fun _ => o 104 _ _ rfl (by omega)) (fun _ k j hk => ?_) (fun k q h1 h2 _ => ?_)
    · rcases hk with rfl | rfl | rfl <;> exact o _ _ _ rfl (by omega)
    · rcases txk h1 h2 with rfl | rfl | rfl | rfl | rfl | rfl | rfl | rfl | rfl | rfl | rfl <;> exact hf.1 _ _ _ rfl (by omega)
  exact ⟨qNB_cg (C := C) (M := M) (C' := C') (M' := M) (fun i j => hf.1 101 i j rfl (by omega)) (fun _ _ => rfl) h.NB, qNT_cg (C := C) (M := M) (C' := C') (M' := M) (fun i j => hf.1 103 i j rfl (by omega)) (fun _ _ => rfl) h.NT, qUP_cg (C := C) (M := M) (C' := C') (M' := M) (fun i j => hf.1 104 i j rfl (by omega)) (fun _ _ => rfl) h.UP, qFN_cg (C := C) (M := M) (C' := C') (M' := M) (fun i j => hf.1 201 i j rfl (by omega)) (fun _ _ => rfl) h.FN, qNO_cg (C := C) (M := M) (C' := C') (M' := M) (fun i j => hf.1 0 i j rfl (by omega)) h.NO, gB2, qRW_cg (C := C) (M := M) (C' := C') (M' := M) (fun i j => hf.1 2000 i j rfl (by omega)) (fun _ _ => rfl) h.RW, gEV, gST, gPD, gBS, qTO_cg (C := C) (M := M) (C' := C') (M' := M) (fun i j => hf.1 4 i j rfl (by omega)) (fun _ _ => rfl) h.TO, qPA_cg (C := C) (M := M) (C' := C') (M' := M) (fun _ _ => rfl) h.PA, qHT_cg (C := C) (M := M) (C' := C') (M' := M) (fun i j => hf.1 2 i j rfl (by omega)) h.HT, qLN_cg (C := C) (M := M) (C' := C') (M' := M) (fun i j => hf.1 16 i j rfl (by omega)) h.LN, gRC, qRE_cg (C := C) (M := M) (C' := C') (M' := M) (fun i j => hf.1 8 i j rfl (by omega)) (fun i j => hf.1 2000 i j rfl (by omega)) h.RE, qHD_cg (C := C) (M := M) (C' := C') (M' := M) (fun i j => hf.1 8 i j rfl (by omega)) (fun i j => hf.1 2000 i j rfl (by omega)) (fun i j => hf.2 17 i j (Or.inl (by decide))) h.HD, gEE, qTX_cg (C := C) (M := M) (C' := C') (M' := M) (fun i j => hf.1 701 i j rfl (by omega)) (fun i j => hf.1 702 i j rfl (by omega)) (fun i j => hf.1 704 i j rfl (by omega)) (fun i j => hf.1 706 i j rfl (by omega)) (fun i j => hf.1 707 i j rfl (by omega)) (fun i j => hf.1 708 i j rfl (by omega)) (fun _ _ => rfl) (fun _ _ => rfl) (fun _ _ => rfl) (fun _ _ => rfl) (fun _ _ => rfl) (fun _ _ => rfl) h.TX, qTB_cg (C := C) (M := M) (C' := C') (M' := M) (fun i j => hf.1 701 i j rfl (by omega)) (fun i j => hf.1 702 i j rfl (by omega)) (fun i j => hf.1 704 i j rfl (by omega)) (fun i j => hf.1 706 i j rfl (by omega)) (fun i j => hf.1 707 i j rfl (by omega)) (fun i j => hf.1 708 i j rfl (by omega)) h.TB, qTK_cg (C := C) (M := M) (C' := C') (M' := M) (fun i j => hf.1 709 i j rfl (by omega)) (fun i j => hf.1 703 i j rfl (by omega)) (fun i j => hf.1 705 i j rfl (by omega)) (fun i j => hf.1 704 i j rfl (by omega)) (fun i j => hf.1 710 i j rfl (by omega)) (fun i j => hf.1 711 i j rfl (by omega)) (fun _ _ => rfl) (fun _ _ => rfl) (fun _ _ => rfl) h.TK, qLV_cg (C := C) (M := M) (C' := C') (M' := M) (fun i j => hf.1 712 i j rfl (by omega)) (fun _ _ => rfl) h.LV, qTN_cg (C := C) (M := M) (C' := C') (M' := M) (fun i j => hf.1 700 i j rfl (by omega)) h.TN, qPR_cg (C := C) (M := M) (C' := C') (M' := M) (fun i j => hf.1 2008 i j rfl (by omega)) (fun i j => hf.1 2009 i j rfl (by omega)) (fun i j => hf.1 2010 i j rfl (by omega)) (fun _ _ => rfl) (fun _ _ => rfl) (fun _ _ => rfl) h.PR, qBG_cg (C := C) (M := M) (C' := C') (M' := M) (fun _ _ => rfl) h.BG, qDR_cg (C := C) (M := M) (C' := C') (M' := M) (fun i j => hf.1 13 i j rfl (by omega)) (fun i j => hf.1 14 i j rfl (by omega)) h.DR, qVA_cg (C := C) (M := M) (C' := C') (M' := M) (fun i j => hf.1 801 i j rfl (by omega)) (fun i j => hf.1 802 i j rfl (by omega)) (fun _ _ => rfl) (fun _ _ => rfl) h.VA, qVO_cg (C := C) (M := M) (C' := C') (M' := M) (fun i j => hf.1 801 i j rfl (by omega)) (fun i j => hf.1 802 i j rfl (by omega)) (fun i j => hf.1 900 i j rfl (by omega)) (fun i j => hf.1 901 i j rfl (by omega)) (fun i j => hf.1 902 i j rfl (by omega)) (fun i j => hf.1 903 i j rfl (by omega)) (fun _ _ => rfl) (fun _ _ => rfl) (fun _ _ => rfl) (fun _ _ => rfl) h.VO, qJU_cg (C := C) (M := M) (C' := C') (M' := M) (fun i j => hf.1 15 i j rfl (by omega)) (fun _ _ => rfl) h.JU, gBL, qJL_cg (C := C) (M := M) (C' := C') (M' := M) (fun i j => hf.1 14 i j rfl (by omega)) (fun i j => hf.1 15 i j rfl (by omega)) h.JL, qSI_cg (C := C) (M := M) (C' := C') (M' := M) (fun _ _ => rfl) h.SI, gBB, gRT, gF0, gGH⟩
