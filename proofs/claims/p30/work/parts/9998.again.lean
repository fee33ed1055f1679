theorem dAdmit2 {D : XD} {C M : XO} (h : RGD D C M) {c : Nat} (hc : c < 2) (hn : dnt D c < 40) {x4 x5 x6 x7 : Int32} (k4 : xI C 704 (40 * c + dnt D c) 0 = x5) (k6 : xI C 706 (40 * c + dnt D c) 0 = x7) (hb : hTBx C (40 * c + dnt D c)) (hk : hTKx D C M c (40 * c + dnt D c) x4 x6) : ∃ v C' M', fX1_admit C c (40 * c + dnt D c) = (v, C') ∧ fX11_enter M (nI c) (xI C 701 (40 * c + dnt D c) 0) (xI C 702 (40 * c + dnt D c) 0) x4 x5 x6 x7 (xI C 707 (40 * c + dnt D c) 0) (xI C 708 (40 * c + dnt D c) 0) = some (v, M') ∧ frC C C' ∧ frM M M' ∧ ((v = -1 ∧ C' = C) ∨ (v = nI (dnt D c) ∧ RGD (dPlus D c) C' M')) := by
  obtain ⟨m, p1, p2, p3, p4⟩ := dHead h hc
  obtain ⟨b1, b2, b3⟩ := h.NT c hc
  have hs := dSize h hc
  have hcl0 : fX1_admit C c (40 * c + dnt D c) = fX1_admit_l c (40 * c + dnt D c) 41 0 0 (24 * c + m) C := by
    unfold fX1_admit
    rw [p3]
    rfl
  have hfu : (xI M 2108 0 (nI c).toNatClampNeg).toNatClampNeg + 1 = dnt D c + 1 := by rw [cl_nI (by omega), b2, cl_nI (by omega)]
  have hlink : ∀ Cx Mx, RGD D Cx Mx → (∀ f i j, f ≠ 712 → xI Cx f i j = xI C f i j) → (∀ f i j, xL Cx f i j = xL C f i j) → (∀ f i j, f ≠ 2119 → xI Mx f i j = xI M f i j) → (∀ f i j, xL Mx f i j = xL M f i j) → _ := fun Cx Mx hx f1 f2 f3 f4 => dLink hx hc hn f1 f2 f3 f4 k4 k6 hb hk
  rcases dScan_l (d := 40 * c + dnt D c) (x4 := x4) (x5 := x5) (x6 := x6) (x7 := x7) h hc p1 41 0 0 (40 * c + dnt D c) 0 (-1) rfl (by decide) ⟨fun _ => rfl, fun _ => rfl⟩ (by decide) (Or.inl ⟨rfl, rfl⟩) with ⟨s1, s2, s3⟩ | ⟨y3, yt, a, y12, s1, s2, s3, s4, s5, s6, s7, s8, s9⟩
  · refine ⟨-1, C, M, by rw [hcl0, s1], ?_, ⟨fun _ _ _ _ _ => rfl, fun _ _ _ => rfl⟩, ⟨fun _ _ _ _ => rfl, fun _ _ _ => rfl⟩, Or.inl ⟨rfl, rfl⟩⟩
    have e := s3 (dnt D c + 1) (by rw [Nat.sub_zero])
    unfold fX11_enter
    rw [ob_s p4, hfu]
    have e' : fX11_enter_l16 M (nI m) (nI c) (xI C 701 (40 * c + dnt D c) 0) (xI C 702 (40 * c + dnt D c) 0) x4 x5 x6 x7 (xI C 707 (40 * c + dnt D c) 0) (xI C 708 (40 * c + dnt D c) 0) (dnt D c + 1) (0 : Int32) (-1) (0 : Int32) = some (.inl (-1, M)) := e
    rw [ob_s e']
    rfl
  · have e := s9 (dnt D c + 1) (Nat.zero_le _) (by rw [Nat.sub_zero])
    have e' : fX11_enter_l16 M (nI m) (nI c) (xI C 701 (40 * c + dnt D c) 0) (xI C 702 (40 * c + dnt D c) 0) x4 x5 x6 x7 (xI C 707 (40 * c + dnt D c) 0) (xI C 708 (40 * c + dnt D c) 0) (dnt D c + 1) (0 : Int32) (-1) (0 : Int32) = some (.inr (nI (dnt D c), y12, nI a)) := e
    have hcl1 : fX1_admit C c (40 * c + dnt D c) = fX1_admit_l c (40 * c + dnt D c) 1 40 y3 (24 * c + m) C := by rw [hcl0, s1]
    rw [fX1_admit_l, if_pos (show nI (alen 2003) ≤ nI 40 by decide)] at hcl1
    by_cases ha : a = 0
    · have hy3 := s3.mpr ha
      obtain ⟨-, hnr⟩ := s6 ha
      have hna : nI a = 0 := by rw [ha]; rfl
      rw [if_pos hy3] at hcl1
      by_cases h10 : fX1_countWaiting C c < 10
      · rw [if_pos h10] at hcl1
        obtain ⟨C', r1, r2, r3, r4, -, r6⟩ := dDrop_l (d := 40 * c + dnt D c) (x4 := x4) (x5 := x5) (x6 := x6) (x7 := x7) (x8 := xI C 707 (40 * c + dnt D c) 0) (x9 := xI C 708 (40 * c + dnt D c) 0) hc p1 41 0 C M h rfl (by decide)
        obtain rfl := r4 hnr
        obtain ⟨z, M', t1, t2, t3, t4⟩ := r6 (dnt D c + 1) (Nat.zero_le _) (by rw [Nat.sub_zero])
        obtain ⟨w1, w2, w3, w4, w5⟩ := hlink C' M' t2 (fun _ _ _ _ => rfl) (fun _ _ _ => rfl) t3 t4
        rw [w1, w2] at hcl1
        refine ⟨_, _, _, hcl1, ?_, w4, w5, Or.inr ⟨rfl, w3⟩⟩
        unfold fX11_enter
        rw [ob_s p4, hfu, ob_s e', Sum.elim_inr]
        dsimp only
        rw [if_pos hna, ob_s hs, if_pos h10]
        have t1' : fX11_enter_l197 (nI m) (nI c) (xI C' 701 (40 * c + dnt D c) 0) (xI C' 702 (40 * c + dnt D c) 0) x4 x5 x6 x7 (xI C' 707 (40 * c + dnt D c) 0) (xI C' 708 (40 * c + dnt D c) 0) (dnt D c + 1) (0 : Int32) M = some (z, M') := t1
        rw [ob_s t1']
        exact eTail hc hn (t2.NT c hc).2.1
      · rw [if_neg h10] at hcl1
        have hth : fX1_throwOutFor C c (40 * c + dnt D c) (24 * c + m) = fX1_throwOutFor_l c (40 * c + dnt D c) (24 * c + m) 1 40 yt C := s2
        rw [fX1_throwOutFor_l, if_pos (show nI (alen 2003) ≤ nI 40 by decide)] at hth
        rcases s5 with ⟨q1, -⟩ | ⟨t, ht, rfl, hw, hp⟩
        · exfalso
          have := noWait_l p3 (fun t ht => (s7 q1).2 t (Nat.zero_le _) ht) 41 0 0 rfl (by decide)
          have e9 : fX1_countWaiting C c = 0 := this
          rw [e9] at h10
          exact h10 (by decide)
        · have tt := (h.TX c hc t ht).2.2.2.2.2
          have hin : inB (nI (40 * c + t)) 80 := inB_nI (by omega) (by decide)
          have hcl : (nI (40 * c + t)).toNatClampNeg = 40 * c + t := cl_nI (by omega)
          by_cases hlow : xI C 708 (40 * c + t) 0 < xI C 708 (40 * c + dnt D c) 0
          · have hyt : yt = 40 * c + t := by
              rcases hp with ⟨-, q⟩ | ⟨q, -⟩
              · exact q
              · rw [ti_lt] at q hlow
                omega
            rw [hyt, if_pos hlow] at hth
            rw [hth, if_neg one_n0] at hcl1
            have hx := RGD_out h hc ht
            obtain ⟨C', r1, r2, r3, r4, -, r6⟩ := dDrop_l (d := 40 * c + dnt D c) (x4 := x4) (x5 := x5) (x6 := x6) (x7 := x7) (x8 := xI C 707 (40 * c + dnt D c) 0) (x9 := xI C 708 (40 * c + dnt D c) 0) hc p1 41 0 _ _ hx rfl (by decide)
            have hC' : C' = uI C 712 (40 * c + t) 0 0 := by
              refine r4 (fun t' g1 g2 g3 => ?_)
              have hw2 : fX7_waitsBehind C (40 * c + t') (24 * c + m) = 1 := by
                unfold fX7_waitsBehind at g3 ⊢
                have e3 : ∀ x, fX0_holds (uI C 712 (40 * c + t) 0 0) (24 * c + m) x = fX0_holds C (24 * c + m) x := fun x => by
                  unfold fX0_holds
                  rw [L_uI]
                rw [e3] at g3
                by_cases q : 40 * c + t' = 40 * c + t
                · have e1 : xI (uI C 712 (40 * c + t) 0 0) 712 (40 * c + t') 0 = 0 := by rw [I_uI, if_pos ⟨rfl, q, rfl⟩]
                  rw [e1, if_pos rfl] at g3
                  exact absurd g3 (by decide)
                · have e1 : xI (uI C 712 (40 * c + t) 0 0) 712 (40 * c + t') 0 = xI C 712 (40 * c + t') 0 := by rw [I_uI, if_neg (fun z => q z.2.1)]
                  rw [e1, I_ne (show (700 : Nat) ≠ 712 by decide)] at g3
                  exact g3
              have hr2 := hnr t' g1 g2 hw2
              unfold fX7_rivals at hr2 ⊢
              rw [I_ne (show (701 : Nat) ≠ 712 by decide), I_ne (show (701 : Nat) ≠ 712 by decide), I_ne (show (702 : Nat) ≠ 712 by decide), I_ne (show (702 : Nat) ≠ 712 by decide)]
              exact hr2
            subst hC'
            obtain ⟨z, M', t1, t2, t3, t4⟩ := r6 (dnt D c + 1) (Nat.zero_le _) (by rw [Nat.sub_zero])
            obtain ⟨w1, w2, w3, w4, w5⟩ := hlink _ M' t2 (fun f i j hf => I_ne hf) (fun _ _ _ => by rw [L_uI]) (fun f i j hf => by rw [t3 f i j hf, I_ne hf]) (fun f i j => by rw [t4, L_uI])
            rw [w1, w2] at hcl1
            refine ⟨_, _, _, hcl1, ?_, w4, w5, Or.inr ⟨rfl, w3⟩⟩
            unfold fX11_enter
            rw [ob_s p4, hfu, ob_s e', Sum.elim_inr]
            dsimp only
            rw [if_pos hna, ob_s hs, if_neg h10, if_pos hin, hcl, ← tt, if_pos hlow, if_pos hin]
            rw [I_ne (show (701 : Nat) ≠ 712 by decide), I_ne (show (702 : Nat) ≠ 712 by decide)] at t1
            have t1' : fX11_enter_l197 (nI m) (nI c) (xI C 701 (40 * c + dnt D c) 0) (xI C 702 (40 * c + dnt D c) 0) x4 x5 x6 x7 (xI C 707 (40 * c + dnt D c) 0) (xI C 708 (40 * c + dnt D c) 0) (dnt D c + 1) (0 : Int32) (uI M 2119 0 (40 * c + t) 1) = some (z, M') := t1
            have hfu2 : (xI (uI M 2119 0 (40 * c + t) 1) 2108 0 (nI c).toNatClampNeg).toNatClampNeg + 1 = dnt D c + 1 := by rw [I_ne (by decide), hfu]
            rw [wl, hfu2, ob_s t1']
            exact eTail hc hn (t2.NT c hc).2.1
          · have hnl : ¬ xI C 708 yt 0 < xI C 708 (40 * c + dnt D c) 0 := by
              rcases hp with ⟨-, q⟩ | ⟨q, q2⟩
              · rw [q]
                exact hlow
              · rw [q2]
                rw [ti_lt]
                omega
            rw [if_neg hnl] at hth
            rw [hth, if_pos rfl] at hcl1
            refine ⟨_, _, M, hcl1, ?_, ⟨fun _ _ _ _ _ => rfl, fun _ _ _ => rfl⟩, ⟨fun _ _ _ _ => rfl, fun _ _ _ => rfl⟩, Or.inl ⟨rfl, rfl⟩⟩
            unfold fX11_enter
            rw [ob_s p4, hfu, ob_s e', Sum.elim_inr]
            dsimp only
            rw [if_pos hna, ob_s hs, if_neg h10, if_pos hin, hcl, ← tt, if_neg hlow]
    · have hy3 : ¬ y3 = 0 := fun z => ha (s3.mp z)
      have hna : ¬ nI a = 0 := nI_ne0 (by omega) (by omega)
      rw [if_neg hy3] at hcl1
      obtain ⟨C', r1, r2, r3, r4, -, r6⟩ := dDrop_l (d := 40 * c + dnt D c) (x4 := x4) (x5 := x5) (x6 := x6) (x7 := x7) (x8 := xI C 707 (40 * c + dnt D c) 0) (x9 := xI C 708 (40 * c + dnt D c) 0) hc p1 41 0 C M h rfl (by decide)
      obtain ⟨z, M', t1, t2, t3, t4⟩ := r6 (dnt D c + 1) (Nat.zero_le _) (by rw [Nat.sub_zero])
      have hdr : fX1_dropRivals C c (40 * c + dnt D c) (24 * c + m) = C' := r1
      obtain ⟨w1, w2, w3, w4, w5⟩ := hlink C' M' t2 r2 r3 t3 t4
      rw [hdr, w1, w2] at hcl1
      refine ⟨_, _, _, hcl1, ?_, w4, w5, Or.inr ⟨rfl, w3⟩⟩
      unfold fX11_enter
      rw [ob_s p4, hfu, ob_s e', Sum.elim_inr]
      dsimp only
      rw [if_neg hna]
      have t1' : fX11_enter_l197 (nI m) (nI c) (xI C 701 (40 * c + dnt D c) 0) (xI C 702 (40 * c + dnt D c) 0) x4 x5 x6 x7 (xI C 707 (40 * c + dnt D c) 0) (xI C 708 (40 * c + dnt D c) 0) (dnt D c + 1) (0 : Int32) M = some (z, M') := t1
      rw [ob_s t1']
      exact eTail hc hn (t2.NT c hc).2.1

/-- a block in full -/
theorem dMakeAll2 {D : XD} {Cb Mb : XO} (h : RGD D Cb Mb) {c p pr wt : Nat} (hc : c < 2) (hnb : dnb D c < 24) (hp : p < dnb D c) (hpr : pr < 6) (hwt : wt ≤ 9) : ∃ C' M', fX1_grow Cb c (24 * c + p) (nI pr) (nI wt) = some (nI (dnb D c), C') ∧ eMake Mb (nI c) (nI p) (nI pr) (nI wt) = some (nI (dnb D c), M') ∧ RGD (mkD D c p) C' M' ∧ (∀ k, scr k = false → mkC.contains k = false → agI k Cb C') ∧ (∀ k, scr k = false → mkM.contains k = false → agI k Mb M') ∧ (∀ k, k ≠ 605 → k ≠ 17 → agL k Cb C') ∧ (∀ k, k ≠ 2123 → agL k Mb M') ∧ xI M' 1160 0 0 = xI Mb 1160 0 0 ∧ (∃ u : Nat, u ≤ 600 ∧ xI C' 6 (24 * c + dnb D c) 0 = nI u) ∧ ∀ k i j, i < 48 → i ≠ 24 * c + dnb D c → k ≠ 101 → scr k = false → xI C' k i j = xI Cb k i j := by
  obtain ⟨b, hb⟩ : ∃ b, b = 24 * c + dnb D c := ⟨_, rfl⟩
  obtain ⟨gp, hgp⟩ : ∃ gp, gp = 24 * c + p := ⟨_, rfl⟩
  have hb48 : b < 48 := by omega
  have hg48 : gp < 48 := by omega
  have hne : gp ≠ b := by omega
  obtain ⟨nb1, nb2, -, -⟩ := h.NB c hc
  have hnum : fX1_numberedBlock Cb c (xI Cb 101 c 0) = b := by rw [nb1, nB_I h hc hnb, hb]
  obtain ⟨C2, o1, c1, c2, c2h, c3, c4, c5, c16, cL, cR1, cR2, c405⟩ := cBegin (C := Cb) (c := c) (pr := nI pr) (w := nI wt) hne
  obtain ⟨M1, m1, m2⟩ := eCopyIn hg48 (hdM Mb c b gp p (nI pr) (nI wt))
  have hst := inv_start h (w := nI wt) hc hnb hp hpr (by rw [← hb]; exact c1) (by rw [← hb, ← hgp]; exact c2) (by rw [← hb]; exact c3) (by rw [← hb, ← hgp]; exact c5) (by rw [← hb, ← hgp]; exact cL) (by rw [← hb]; exact ⟨cR1, cR2⟩) (by rw [← hgp]; exact c405) (M1 := M1) (by rw [← hb, ← hgp]; exact m2)
  obtain ⟨hbas, hinv⟩ := hst
  obtain ⟨n, u, X, Y, Ce, Me, y, r, y', hi, hgi, l1, l2, l3⟩ := inv_loop h hc hnb hp hbas (by omega) 41 0 0 C2 M1 C2 M1 hinv GHI.zero (by omega)
  have hi' := hi
  obtain ⟨⟨v, v', w', hms⟩, ⟨i1, i2, i3, i4, i5, i6⟩, hrow, hrow2, hheld, hX, hXL, hY, hYL, ec, ec1, ec2⟩ := hi'
  rw [← hb] at hms i1 i2 i3 i4 hrow hrow2 hheld hX hXL hY ec1 l1
  have fC : ∀ f i j, cmod b f i = false → f ≠ 406 → xI Ce f i j = xI X f i j := fun f i j hm hf => by
    have := hms.1.FA f i j hm
    rw [I_ne hf] at this
    exact this
  have fM : ∀ f i j, mmod b f j = false → f ≠ 1154 → f ≠ 1153 → xI Me f i j = xI Y f i j := fun f i j hm h1 h2 => by
    have := hms.1.FB f i j hm
    rw [I_ne h2, I_ne h1] at this
    exact this
  have fL : ∀ k i j, k ≠ 605 ∨ (i ≠ b ∧ i < 49) → xL Ce k i j = xL X k i j := fun k i j hk => hms.1.FL k i j hk
  have fN : ∀ k i j, xL Me k i j = xL Y k i j := fun k i j => hms.1.FM k i j
  have eMe : ∀ k i j, k ≠ 1154 → k ≠ 1153 → xI (uI (uI Me 1154 0 0 v') 1153 0 0 w') k i j = xI Me k i j := fun k i j h1 h2 => by rw [I_ne h2, I_ne h1]
  have h1158 : xI Me 1158 0 0 = nI b := by
    have := hms.1.ST.2.2.1
    rw [eMe _ _ _ (by decide) (by decide)] at this
    exact this
  -- the state is stored
  obtain ⟨M2, s1, s2, s3, s4, s5⟩ := eStore_l hb48 (nI c) (nI (dnb D c)) 121 0 Me h1158 (by omega) (by omega)
  have s2' : ∀ k i j, ¬ (k = 2100 ∧ j / 120 = b) → xI M2 k i j = xI Me k i j := fun k i j hk => s2 k i j (fun y => hk ⟨y.1, by omega⟩)
  have s3' : ∀ x, x < 120 → xI M2 2100 0 (120 * b + x) = xI Me 2101 0 x := fun x hx => by
    have := s3 x (by omega) hx
    rw [Nat.zero_add] at this
    exact this
  have sI : ∀ a, a < 16 → xI Ce 2011 b a = xI Me 2101 0 a := fun a ha => by have := hms.1.eI ha; rw [I_ne (by decide), eMe _ _ _ (by decide) (by decide)] at this; exact this
  have sII : ∀ a, a < 16 → xI Ce 2012 b a = xI Me 2101 0 (16 + a) := fun a ha => by have := hms.1.eII ha; rw [I_ne (by decide), eMe _ _ _ (by decide) (by decide)] at this; exact this
  have sIII : ∀ a, a < 16 → xI Ce 2013 b a = xI Me 2101 0 (32 + a) := fun a ha => by have := hms.1.eIII ha; rw [I_ne (by decide), eMe _ _ _ (by decide) (by decide)] at this; exact this
  have sIV : ∀ a, a < 64 → xI Ce 2014 b a = xI Me 2101 0 (48 + a) := fun a ha => by have := hms.1.eIV ha; rw [I_ne (by decide), eMe _ _ _ (by decide) (by decide)] at this; exact this
  have sB : xI Ce 604 b 0 = xI Me 2101 0 112 := by have := hms.1.eB; rw [I_ne (by decide), eMe _ _ _ (by decide) (by decide)] at this; exact this
  have hq : qS1 Ce M2 b := ⟨fun j hj => by rw [s3' j (by omega), sI j hj], fun j hj => by rw [Nat.add_assoc, s3' _ (by omega), sII j hj], fun j hj => by rw [Nat.add_assoc, s3' _ (by omega), sIII j hj], fun j hj => by rw [Nat.add_assoc, s3' _ (by omega), sIV j hj], by rw [s3' _ (by omega), sB]⟩
  have hroot := eRoot2 hq hb48
  obtain ⟨root, hro⟩ : ∃ root, root = fX10_nodeOver Ce b 4 0 := ⟨_, rfl⟩
  obtain ⟨Mr, hMr⟩ : ∃ Mr, Mr = setL M2 (rnd (fun j => if j < 16 then fX6_leafOf Ce b (nI j) else xI M2 2159 0 j) 4) := ⟨_, rfl⟩
  rw [← hro, ← hMr] at hroot
  have rI : ∀ k i j, k ≠ 2159 → xI Mr k i j = xI M2 k i j := fun k i j hk => by rw [hMr, setL_I _ _ hk]
  obtain ⟨M3, hM3⟩ : ∃ M3, M3 = uI Mr 2127 0 b root := ⟨_, rfl⟩
  have t3 : ∀ k i j, k ≠ 2159 → k ≠ 2127 → ¬ (k = 2100 ∧ j / 120 = b) → xI M3 k i j = xI Me k i j := fun k i j h1 h2 h3 => by rw [hM3, I_ne h2, rI k i j h1, s2' k i j h3]
  have cR10 : xI Ce 10 b 0 = nI ec := by
    have this : xI (uI Ce 406 0 0 v) 10 b 0 = xI (uI (uI Me 1154 0 0 v') 1153 0 0 w') 2130 0 b := hms.1.LN 10 _ _ _ (by decide) ph_10
    rw [I_ne (by decide), eMe _ _ _ (by decide) (by decide)] at this
    rw [this]
    exact ec1
  have rcn := (h.RC c hc (dnb D c) hnb).2 (Nat.le_refl _)
  rw [← hb] at rcn
  obtain ⟨rc8, rc10, rc6, rc11, rc13, rc14, rc15, rc17⟩ := rcn
  have B2b := h.B2 b hb48
  have hX' : ∀ k i j, ¬ (i = b ∧ (k = 8 ∨ k = 6 ∨ k = 2000)) → xI X k i j = xI C2 k i j := hX
  have x11 : xI Ce 11 b 0 = 0 := by rw [fC _ _ _ (by simp [cmod]) (by decide), hX _ _ _ (fun y => by omega), c1 _ _ _ (fun y => by omega) (fun y => by have := y.2; unfold stk at this; omega) (by decide), rc11]
  have md : ∀ k i j, k ≠ 2101 → k ≠ 1157 → k ≠ 1158 → ¬ (k = 2120 ∧ j = b) → ¬ (k = 2121 ∧ j = b) → ¬ (k = 2122 ∧ j = b) → ¬ (k = 2124 ∧ j = b) → xI M1 k i j = xI Mb k i j := fun k i j h0 h1 h2 h3 h4 h5 h6 => by
    rw [m2.1 k i j (fun y => h0 y.1)]
    unfold hdM
    rw [I_uI, if_neg (fun y => h6 ⟨y.1, y.2.2⟩), I_uL, I_uI, if_neg (fun y => h5 ⟨y.1, y.2.2⟩), I_uI, if_neg (fun y => h4 ⟨y.1, y.2.2⟩), I_uI, if_neg (fun y => h3 ⟨y.1, y.2.2⟩), I_ne h2, I_ne h1]
  have y2128 : xI M3 2128 0 b = 0 := by
    rw [t3 _ _ _ (by decide) (by decide) (fun y => absurd y.1 (by decide)), fM _ _ _ (by simp [mmod]) (by decide) (by decide), hY _ _ _ (fun y => by omega) (fun y => by omega) (fun y => by omega), md _ _ _ (by decide) (by decide) (by decide) (fun y => absurd y.1 (by decide)) (fun y => absurd y.1 (by decide)) (fun y => absurd y.1 (by decide)) (fun y => absurd y.1 (by decide)), ← B2b.2.2.2.2.2.1, rc11]
  have hev : ∀ j, j < ec → ∃ p a : Nat, xI Ce 2001 b j = nI (100 * p + a) ∧ xI M3 2132 0 (40 * b + j) = nI (100 * p + a) ∧ p < 16 ∧ a < 16 := fun j hj => by
    have e := hms.1.EV j (by omega) (Or.inl (by
      show (j : Int) < (xI (uI Ce 406 0 0 v) 10 b 0).toInt
      rw [I_ne (by decide), cR10, ti_nI (by omega)]
      omega))
    have e' : xI (uI Ce 406 0 0 v) 2001 b j = xI (uI (uI Me 1154 0 0 v') 1153 0 0 w') 2132 0 (40 * b + j) ∧ ∃ p a : Nat, xI (uI Ce 406 0 0 v) 2001 b j = nI (100 * p + a) ∧ p < 16 ∧ a < 16 := e
    rw [I_ne (by decide), eMe _ _ _ (by decide) (by decide)] at e'
    obtain ⟨q1, p', a', q2, q3, q4⟩ := e'
    exact ⟨p', a', q2, by rw [t3 _ _ _ (by decide) (by decide) (fun y => absurd y.1 (by decide)), ← q1, q2], q3, q4⟩
  obtain ⟨acc, ys, d1, d2, d3⟩ := dSeal (c := c) (nb := dnb D c) (b := b) (cnt := ec) (y1 := nI c) (y7 := nI (dnb D c)) hb48 (by omega) ec 0 Ce M3 (by omega) cR10 (by rw [t3 _ _ _ (by decide) (by decide) (fun y => absurd y.1 (by decide))]; exact ec1) (by rw [t3 _ _ _ (by decide) (by decide) (fun y => absurd y.1 (by decide)), h1158]) hev (by rw [x11, y2128]) (fun j hj => absurd hj (by omega))
  have hroot2 : fX10_nodeOver (uI Ce 11 b 0 acc) b (4 : Int32) (0 : Int32) = root := by
    rw [hro]
    exact node_cg (fun j hj => I_ne (by decide)) (fun j hj => I_ne (by decide)) (fun j hj => I_ne (by decide)) (fun j hj => I_ne (by decide))
  rw [hroot2] at d1
  obtain ⟨C5, hC5⟩ : ∃ C5, C5 = uI (uI (uI Ce 11 b 0 acc) 12 b 0 root) 101 c 0 (nI (dnb D c + 1)) := ⟨_, rfl⟩
  obtain ⟨M5, hM5⟩ : ∃ M5, M5 = uI (uI M3 2128 0 b acc) 2109 0 c (nI (dnb D c + 1)) := ⟨_, rfl⟩
  have e2109 : xI M3 2109 0 c = nI (dnb D c) := by
    rw [t3 _ _ _ (by decide) (by decide) (fun y => absurd y.1 (by decide)), fM _ _ _ (by simp [mmod]) (by decide) (by decide), hY _ _ _ (fun y => by omega) (fun y => by omega) (fun y => by omega), md _ _ _ (by decide) (by decide) (by decide) (fun y => absurd y.1 (by decide)) (fun y => absurd y.1 (by decide)) (fun y => absurd y.1 (by decide)) (fun y => absurd y.1 (by decide)), nb2]
  have e101 : xI Ce 101 c 0 = nI (dnb D c) := by
    rw [fC _ _ _ (by simp [cmod]) (by decide), hX _ _ _ (fun y => by omega), c1 _ _ _ (fun y => by omega) (fun y => by have := y.2; unfold stk at this; omega) (by decide), nb1]
  have e0 : xI Ce 0 b 0 = nI (dnb D c) := by
    rw [fC _ _ _ (by simp [cmod]) (by decide), hX _ _ _ (fun y => by omega), c1 _ _ _ (fun y => by omega) (fun y => by have := y.2; unfold stk at this; omega) (by decide), h.NO b hb48]
    congr 1
    omega
  -- the class
  have hgrow : fX1_grow Cb c (24 * c + p) (nI pr) (nI wt) = some (nI (dnb D c), C5) := by
    unfold fX1_grow wl
    dsimp only
    rw [hnum, ← hgp, o1, Option.bind_some]
    have l1' : fX1_grow_l35 b c 41 (40 : Int32) C2 = some (y, Ce) := l1
    rw [l1', Option.bind_some]
    dsimp only
    have hs : fX0_seal Ce b = uI (uI Ce 11 b 0 acc) 12 b 0 root := by
      unfold fX0_seal
      rw [cR10, cl_nI (by omega), d1]
    have w101 : xI (uI (uI Ce 11 b 0 acc) 12 b 0 root) 101 c 0 = nI (dnb D c) := by rw [I_ne (by decide), I_ne (by decide), e101]
    rw [hs, w101, nI_1, ← hC5]
    have w0 : xI C5 0 b 0 = nI (dnb D c) := by rw [hC5, I_ne (by decide), I_ne (by decide), I_ne (by decide), e0]
    rw [w0]
  -- the reference
  have hmake : eMake Mb (nI c) (nI p) (nI pr) (nI wt) = some (nI (dnb D c), M5) := by
    rw [eMake_eq hc hb48 hg48 hb.symm hgp.symm nb2 hne m1, l2, Option.bind_some]
    have l3' : fX11_make_l270 (nI c) (nI (dnb D c)) 42 r M1 = some (y', Me) := l3
    rw [l3', Option.bind_some]
    dsimp only
    rw [show (0 : Int32) = nI 0 from rfl, s1, Option.bind_some]
    dsimp only
    have n1158 : xI M2 1158 0 0 = nI b := by rw [s2' _ _ _ (fun y => absurd y.1 (by decide)), h1158]
    have k1158 : xI M3 1158 0 0 = nI b := by rw [t3 _ _ _ (by decide) (by decide) (fun y => absurd y.1 (by decide)), h1158]
    have k2130 : xI M3 2130 0 b = nI ec := by rw [t3 _ _ _ (by decide) (by decide) (fun y => absurd y.1 (by decide))]; exact ec1
    rw [n1158, show (120 : Int32) * nI b = nI (120 * b) by rw [show (120 : Int32) = nI 120 from rfl, nI_mul], hroot, Option.bind_some, if_pos (inB_nI hb48 (by decide)), cl_nI (show b < 2147483648 by omega)]
    dsimp only
    rw [← hM3, k1158, cl_nI (show b < 2147483648 by omega), k2130, cl_nI (show ec < 2147483648 by omega), d2, Option.bind_some]
    dsimp only
    have w2109 : xI (uI M3 2128 0 b acc) 2109 0 c = nI (dnb D c) := by rw [I_ne (by decide), e2109]
    rw [w2109, nI_1, ← hM5]
  -- cells that stayed
  have g5 : ∀ k i j, k ≠ 11 → k ≠ 12 → k ≠ 101 → xI C5 k i j = xI Ce k i j := fun k i j h1 h2 h3 => by rw [hC5, I_ne h3, I_ne h2, I_ne h1]
  have g5i : ∀ k i j, i ≠ b → k ≠ 101 → xI C5 k i j = xI Ce k i j := fun k i j h1 h3 => by rw [hC5, I_ne h3, I_uI, if_neg (fun y => h1 y.2.1), I_uI, if_neg (fun y => h1 y.2.1)]
  have n5 : ∀ k i j, k ≠ 2128 → k ≠ 2109 → xI M5 k i j = xI M3 k i j := fun k i j h1 h2 => by rw [hM5, I_ne h2, I_ne h1]
  have nst : ∀ k i j, ¬ (k = 2011 ∨ k = 2012 ∨ k = 2013 ∨ k = 2014 ∨ k = 604) → ¬ (i = b ∧ stk k j) := fun k i j hk y => hk (by have := y.2; unfold stk at this; omega)
  have ne1 : ∀ {l : List Nat} {k : Nat}, l.contains k = false → ∀ a, l.contains a = true → k ≠ a := fun hk a ha y => by rw [y, ha] at hk; exact absurd hk (by decide)
  have cOld : ∀ k i j, cmod b k i = false → k ≠ 406 → k ≠ 405 → ¬ (i = b ∧ (k = 2 ∨ k = 3 ∨ k = 4 ∨ k = 5 ∨ k = 16 ∨ k = 8 ∨ k = 6 ∨ k = 2000)) → ¬ (i = b ∧ stk k j) → xI Ce k i j = xI Cb k i j := fun k i j h1 h2 h3 h4 h5 => by
    rw [fC k i j h1 h2, hX k i j (fun y => h4 ⟨y.1, by omega⟩), c1 k i j (fun y => h4 ⟨y.1, by omega⟩) h5 h3]
  have mOld' : ∀ k i j, mmod b k j = false → k ≠ 1154 → k ≠ 1153 → k ≠ 2101 → k ≠ 1157 → k ≠ 1158 → ¬ (j = b ∧ (k = 2129 ∨ k = 2125 ∨ k = 2120 ∨ k = 2121 ∨ k = 2122 ∨ k = 2124)) → ¬ (k = 2131 ∧ j / 40 = b) → xI Me k i j = xI Mb k i j := fun k i j h1 h2 h3 h4 h5 h6 h7 h8 => by
    rw [fM k i j h1 h2 h3, hY k i j (fun y => h7 ⟨y.2, by omega⟩) (fun y => h7 ⟨y.2, by omega⟩) h8, md k i j h4 h5 h6 (fun y => h7 ⟨y.2, by omega⟩) (fun y => h7 ⟨y.2, by omega⟩) (fun y => h7 ⟨y.2, by omega⟩) (fun y => h7 ⟨y.2, by omega⟩)]
  have cA : ∀ k, scr k = false → mkC.contains k = false → agI k Cb C5 := fun k hs hm i j => by
    have e1 := ne1 (l := mkC) hm
    have e2 : ∀ a, scr a = true → k ≠ a := fun a ha y => by rw [y, ha] at hs; exact absurd hs (by decide)
    rw [g5 k i j (e1 11 rfl) (e1 12 rfl) (e1 101 rfl)]
    refine cOld k i j (cmod_o hs hm) (e2 406 rfl) (e2 405 rfl) (fun y => ?_) (nst k i j (fun y => ?_))
    · rcases y.2 with z | z | z | z | z | z | z | z
      · exact e1 2 rfl z
      · exact e1 3 rfl z
      · exact e1 4 rfl z
      · exact e1 5 rfl z
      · exact e1 16 rfl z
      · exact e1 8 rfl z
      · exact e1 6 rfl z
      · exact e1 2000 rfl z
    · rcases y with z | z | z | z | z
      · exact e1 2011 rfl z
      · exact e1 2012 rfl z
      · exact e1 2013 rfl z
      · exact e1 2014 rfl z
      · exact e1 604 rfl z
  have mA : ∀ k, scr k = false → mkM.contains k = false → agI k Mb M5 := fun k hs hm i j => by
    have e1 := ne1 (l := mkM) hm
    have e2 : ∀ a, scr a = true → k ≠ a := fun a ha y => by rw [y, ha] at hs; exact absurd hs (by decide)
    rw [n5 k i j (e1 2128 rfl) (e1 2109 rfl), t3 k i j (e2 2159 rfl) (e1 2127 rfl) (fun y => e1 2100 rfl y.1)]
    refine mOld' k i j (mmod_o hs hm) (e2 1154 rfl) (e2 1153 rfl) (e2 2101 rfl) (e2 1157 rfl) (e2 1158 rfl) (fun y => ?_) (fun y => e1 2131 rfl y.1)
    rcases y.2 with z | z | z | z | z | z
    · exact e1 2129 rfl z
    · exact e1 2125 rfl z
    · exact e1 2120 rfl z
    · exact e1 2121 rfl z
    · exact e1 2122 rfl z
    · exact e1 2124 rfl z
  have L5 : ∀ k i j, xL C5 k i j = xL Ce k i j := fun k i j => by rw [hC5, L_uI, L_uI, L_uI]
  have lA : ∀ k, k ≠ 605 → k ≠ 17 → agL k Cb C5 := fun k h1 h2 i j => by
    rw [L5, fL k i j (Or.inl h1), hXL k i j (fun y => h2 y.1), cL, if_neg (fun y => h1 y.1), if_neg (fun y => h2 y.1)]
  have N5 : ∀ k i j, ¬ (k = 2123 ∧ j = b) → xL M5 k i j = xL Mb k i j := fun k i j hk => by
    have a1 : xL M5 k i j = xL M2 k i j := by rw [hM5, L_uI, L_uI, hM3, L_uI, hMr]; rfl
    rw [a1, s4, fN, hYL, m2.2.2.1]
    unfold hdM
    rw [L_uI, L_uL, if_neg (fun y => hk ⟨y.1, y.2.2⟩), L_uI, L_uI, L_uI, L_uI, L_uI]
  have nA : ∀ k, k ≠ 2123 → agL k Mb M5 := fun k h1 i j => N5 k i j (fun y => h1 y.1)
  have cB : ∀ k i j, i ≠ b → i < 48 → k ≠ 101 → scr k = false → xI C5 k i j = xI Cb k i j := fun k i j h1 h2 h3 hs => by
    have e2 : ∀ a, scr a = true → k ≠ a := fun a ha y => by rw [y, ha] at hs; exact absurd hs (by decide)
    rw [g5i k i j h1 h3]
    exact cOld k i j (cmod_o2 hs h1 h2) (e2 406 rfl) (e2 405 rfl) (fun y => h1 y.1) (fun y => h1 y.1)
  have mAt : ∀ k j, mmod b k j = false → k ≠ 1154 → k ≠ 1153 → k ≠ 2101 → k ≠ 1157 → k ≠ 1158 → k ≠ 2159 → k ≠ 2109 → k ≠ 2100 → ¬ (k = 2131 ∧ j / 40 = b) → j ≠ b → xI M5 k 0 j = xI Mb k 0 j := fun k j h1 h2 h3 h4 h5 h6 h7 h8 h9 h10 hj => by
    rw [hM5, I_ne h8, I_uI, if_neg (fun y => hj y.2.2), hM3, I_uI, if_neg (fun y => hj y.2.2), rI k 0 j h7, s2' k 0 j (fun y => h9 y.1)]
    exact mOld' k 0 j h1 h2 h3 h4 h5 h6 (fun y => hj y.1) h10
  have bM1 : ∀ k, k ≠ 2101 → xI M1 k 0 b = xI (hdM Mb c b gp p (nI pr) (nI wt)) k 0 b := fun k hk => m2.1 k 0 b (fun y => hk y.1)
  have bM : ∀ k, mmod b k b = false → k ≠ 1154 → k ≠ 1153 → k ≠ 2101 → k ≠ 2159 → k ≠ 2109 → k ≠ 2100 → k ≠ 2128 → k ≠ 2127 → k ≠ 2129 → k ≠ 2125 → k ≠ 2131 → xI M5 k 0 b = xI (hdM Mb c b gp p (nI pr) (nI wt)) k 0 b := fun k h1 h2 h3 h4 h5 h6 h7 h8 h9 h10 h11 h12 => by
    rw [n5 k 0 b h8 h6, t3 k 0 b h5 h9 (fun y => h7 y.1), fM k 0 b h1 h2 h3, hY k 0 b (fun y => h10 y.1) (fun y => h11 y.1) (fun y => h12 y.1), bM1 k h4]
  have q2120 : xI M5 2120 0 b = nI p := by
    rw [bM 2120 (by simp [mmod]) (by decide) (by decide) (by decide) (by decide) (by decide) (by decide) (by decide) (by decide) (by decide) (by decide) (by decide)]
    unfold hdM
    rw [I_ne (by decide), I_uL, I_ne (by decide), I_ne (by decide), I_uI, if_pos ⟨rfl, rfl, rfl⟩]
  have q2121 : xI M5 2121 0 b = xI Mb 2121 0 gp + 1 := by
    rw [bM 2121 (by simp [mmod]) (by decide) (by decide) (by decide) (by decide) (by decide) (by decide) (by decide) (by decide) (by decide) (by decide) (by decide)]
    unfold hdM
    rw [I_ne (by decide), I_uL, I_ne (by decide), I_uI, if_pos ⟨rfl, rfl, rfl⟩]
  have q2122 : xI M5 2122 0 b = nI pr := by
    rw [bM 2122 (by simp [mmod]) (by decide) (by decide) (by decide) (by decide) (by decide) (by decide) (by decide) (by decide) (by decide) (by decide) (by decide)]
    unfold hdM
    rw [I_ne (by decide), I_uL, I_uI, if_pos ⟨rfl, rfl, rfl⟩]
  have q2124 : xI M5 2124 0 b = bsN (xI Cb 5 gp 0) (xI Cb 6 gp 0) := by
    have e1 : xI Cb 5 gp 0 = xI Mb 2124 0 gp := by rw [hgp]; exact h.BS c hc p hp
    rw [bM 2124 (by simp [mmod]) (by decide) (by decide) (by decide) (by decide) (by decide) (by decide) (by decide) (by decide) (by decide) (by decide) (by decide)]
    unfold hdM
    rw [I_uI, if_pos ⟨rfl, rfl, rfl⟩, e1, (h.B2 gp hg48).2.2.1]
  have bC : ∀ k, cmod b k b = false → k ≠ 406 → k ≠ 8 → k ≠ 6 → k ≠ 2000 → k ≠ 11 → k ≠ 12 → k ≠ 101 → xI C5 k b 0 = xI C2 k b 0 := fun k h1 h2 h3 h4 h5 h6 h7 h8 => by
    rw [g5 k b 0 h6 h7 h8, fC k b 0 h1 h2, hX k b 0 (fun y => by omega)]
  have x2 : xI C5 2 b 0 = xI Cb 2 gp 0 + 1 := by rw [bC 2 (by simp [cmod]) (by decide) (by decide) (by decide) (by decide) (by decide) (by decide) (by decide), c2h]
  have x3 : xI C5 3 b 0 = nI pr := by rw [bC 3 (by simp [cmod]) (by decide) (by decide) (by decide) (by decide) (by decide) (by decide) (by decide), c3]
  have x4 : xI C5 4 b 0 = xI Cb 4 gp 0 + nI wt := by rw [bC 4 (by simp [cmod]) (by decide) (by decide) (by decide) (by decide) (by decide) (by decide) (by decide), c4]
  have x5 : xI C5 5 b 0 = bsN (xI Cb 5 gp 0) (xI Cb 6 gp 0) := by rw [bC 5 (by simp [cmod]) (by decide) (by decide) (by decide) (by decide) (by decide) (by decide) (by decide), c5]
  have x16 : xI C5 16 b 0 = (xI Cb 16 gp 0 ||| ((1 : Int32) <<< (nI (dnb D c) &&& 31))) := by
    have e0' : xI Cb 0 b 0 = nI (dnb D c) := by
      rw [h.NO b hb48]
      congr 1
      omega
    rw [bC 16 (by simp [cmod]) (by decide) (by decide) (by decide) (by decide) (by decide) (by decide) (by decide), c16, e0']
  have x6 : xI C5 6 b 0 = nI u := by rw [g5 _ _ _ (by decide) (by decide) (by decide), fC _ _ _ (by simp [cmod]) (by decide), i2]
  have x8 : xI C5 8 b 0 = nI n := by rw [g5 _ _ _ (by decide) (by decide) (by decide), fC _ _ _ (by simp [cmod]) (by decide), i1]
  have y6 : xI M5 2125 0 b = nI u := by rw [n5 _ _ _ (by decide) (by decide), t3 _ _ _ (by decide) (by decide) (fun y => absurd y.1 (by decide)), fM _ _ _ (by simp [mmod]) (by decide) (by decide), i4]
  have y8 : xI M5 2129 0 b = nI n := by rw [n5 _ _ _ (by decide) (by decide), t3 _ _ _ (by decide) (by decide) (fun y => absurd y.1 (by decide)), fM _ _ _ (by simp [mmod]) (by decide) (by decide), i3]
  have x10 : xI C5 10 b 0 = nI ec := by rw [g5 _ _ _ (by decide) (by decide) (by decide), cR10]
  have y10 : xI M5 2130 0 b = nI ec := by rw [n5 _ _ _ (by decide) (by decide), t3 _ _ _ (by decide) (by decide) (fun y => absurd y.1 (by decide))]; exact ec1
  have x11' : xI C5 11 b 0 = acc := by rw [hC5, I_ne (by decide), I_ne (by decide), I_uI, if_pos ⟨rfl, rfl, rfl⟩]
  have y11 : xI M5 2128 0 b = acc := by rw [hM5, I_ne (by decide), I_uI, if_pos ⟨rfl, rfl, rfl⟩]
  have x12 : xI C5 12 b 0 = root := by rw [hC5, I_ne (by decide), I_uI, if_pos ⟨rfl, rfl, rfl⟩]
  have y12 : xI M5 2127 0 b = root := by rw [n5 _ _ _ (by decide) (by decide), hM3, I_uI, if_pos ⟨rfl, rfl, rfl⟩]
  have xrow : ∀ j, xI C5 2000 b j = xI X 2000 b j := fun j => by rw [g5 _ _ _ (by decide) (by decide) (by decide), fC _ _ _ (by simp [cmod]) (by decide)]
  have yrow : ∀ j, xI M5 2131 0 j = xI Y 2131 0 j := fun j => by rw [n5 _ _ _ (by decide) (by decide), t3 _ _ _ (by decide) (by decide) (fun y => absurd y.1 (by decide)), fM _ _ _ (by simp [mmod]) (by decide) (by decide)]
  have xst : ∀ k j, k ≠ 11 → k ≠ 12 → k ≠ 101 → xI C5 k b j = xI Ce k b j := fun k j h1 h2 h3 => g5 k b j h1 h2 h3
  have yst : ∀ j, xI M5 2100 0 j = xI M2 2100 0 j := fun j => by rw [n5 _ _ _ (by decide) (by decide), hM3, I_ne (by decide), rI _ _ _ (by decide)]
  have y2123 : xL M5 2123 0 b = xL Mb 2123 0 gp + (nI wt).toInt64 := by
    have a1 : xL M5 2123 0 b = xL M2 2123 0 b := by rw [hM5, L_uI, L_uI, hM3, L_uI, hMr]; rfl
    rw [a1, s4, fN, hYL, m2.2.2.1]
    unfold hdM
    rw [L_uI, L_uL, if_pos ⟨rfl, rfl, rfl⟩]
  have hB1 := (bsN_1 (xI Cb 5 gp 0) (xI Cb 6 gp 0)).1
  have hq37 : n ≤ 37 := by omega
  have rwXY : ∀ j, j < n → xI X 2000 b j = xI Y 2131 0 (40 * b + j) := fun j hj => by
    obtain ⟨u', t', e', r1, r2, r3, r4, r5⟩ := hrow j hj
    rw [r4, r5]
  have gC101 : ∀ i j, i ≠ c → xI C5 101 i j = xI Cb 101 i j := fun i j hi => by
    rw [hC5, I_uI, if_neg (fun y => hi y.2.1), I_ne (by decide), I_ne (by decide)]
    exact cOld 101 i j (by simp [cmod]) (by decide) (by decide) (fun y => by omega) (fun y => by have := y.2; unfold stk at this; omega)
  have gC101n : xI C5 101 c 0 = nI (dnb D c + 1) := by rw [hC5, I_uI, if_pos ⟨rfl, rfl, rfl⟩]
  have gmB : ∀ k j, j ≠ b → k = 2120 ∨ k = 2121 ∨ k = 2122 ∨ k = 2124 ∨ k = 2125 ∨ k = 2127 ∨ k = 2128 ∨ k = 2129 ∨ k = 2130 → xI M5 k 0 j = xI Mb k 0 j := fun k j hj hk => by
    refine mAt k j ?_ (by omega) (by omega) (by omega) (by omega) (by omega) (by omega) (by omega) (by omega) (by omega) hj
    rcases hk with rfl | rfl | rfl | rfl | rfl | rfl | rfl | rfl | rfl <;> simp [mmod, hj]
  have gmB4 : ∀ k j, j / 40 ≠ b → k = 2131 ∨ k = 2132 → xI M5 k 0 j = xI Mb k 0 j := fun k j hj hk => by
    rw [n5 k 0 j (by omega) (by omega), t3 k 0 j (by omega) (by omega) (by omega)]
    refine mOld' k 0 j ?_ (by omega) (by omega) (by omega) (by omega) (by omega) (by omega) (by omega)
    rcases hk with rfl | rfl
    · simp [mmod]
    · cases e : Nat.beq (j / 40) b with
      | false => simp [mmod, e]
      | true => exact absurd (Nat.eq_of_beq_eq_true e) hj
  have gmB1 : ∀ j, j / 120 ≠ b → xI M5 2100 0 j = xI Mb 2100 0 j := fun j hj => by
    rw [n5 2100 0 j (by decide) (by decide), t3 2100 0 j (by decide) (by decide) (fun y => hj y.2)]
    exact mOld' 2100 0 j (by simp [mmod]) (by decide) (by decide) (by decide) (by decide) (by decide) (by omega) (by omega)
  have gm9 : ∀ j, j ≠ c → xI M5 2109 0 j = xI Mb 2109 0 j := fun j hj => by
    rw [hM5, I_uI, if_neg (fun y => hj y.2.2), I_ne (by decide), t3 2109 0 j (by decide) (by decide) (by omega)]
    exact mOld' 2109 0 j (by simp [mmod]) (by decide) (by decide) (by decide) (by decide) (by decide) (by omega) (by omega)
  have gm9n : xI M5 2109 0 c = nI (dnb D c + 1) := by rw [hM5, I_uI, if_pos ⟨rfl, rfl, rfl⟩]
  have glB : ∀ k i j, i ≠ b → i < 48 → xL C5 k i j = xL Cb k i j := fun k i j h1 h2 => by
    rw [L5, fL k i j (Or.inr ⟨h1, by omega⟩), hXL k i j (fun y => h1 y.2), cL, if_neg (fun y => h1 y.2.1), if_neg (fun y => h1 y.2.1)]
  have gnB : ∀ j, j ≠ b → xL M5 2123 0 j = xL Mb 2123 0 j := fun j hj => N5 2123 0 j (fun y => hj y.2)
  have ge2m : xI M5 2121 0 b = xI C5 2 b 0 := by rw [q2121, x2, (h.B2 gp hg48).1]
  have gerow : ∀ j, j < 40 → xI C5 2000 b j = xI M5 2131 0 (40 * b + j) := fun j hj => by
    rw [xrow, yrow]
    by_cases z : j < n
    · exact rwXY j z
    · exact hrow2 j (by omega) hj
  have gerow2 : ∀ j, j < n → ∃ u t e : Nat, u ≤ 600 ∧ t < dnt D c ∧ e ≤ 1 ∧ xI C5 2000 b j = nI (100000 * u + 10 * t + e) := fun j hj => by
    obtain ⟨u', t', e', r1, r2, r3, r4, r5⟩ := hrow j hj
    exact ⟨u', t', e', r1, r2, r3, (xrow j).trans r4⟩
  have gheld : ∀ t, t < 40 → (b64 (xL C5 17 b 0) t ↔ b64 (xL Cb 17 gp 0) t ∨ ∃ j, j < n ∧ ∃ u e : Nat, u ≤ 600 ∧ e ≤ 1 ∧ xI C5 2000 b j = nI (100000 * u + 10 * t + e)) := fun t ht => by
    rw [L5, fL 17 b 0 (Or.inl (by decide)), hheld t ht, ← hgp]
    constructor
    · rintro (z | ⟨j, j1, u', e', j2, j3, j4⟩)
      · exact Or.inl z
      · exact Or.inr ⟨j, j1, u', e', j2, j3, by rw [xrow, rwXY j j1]; exact j4⟩
    · rintro (z | ⟨j, j1, u', e', j2, j3, j4⟩)
      · exact Or.inl z
      · refine Or.inr ⟨j, j1, u', e', j2, j3, ?_⟩
        rw [xrow, rwXY j j1] at j4
        exact j4
  have geev : ∀ j, j < ec → xI C5 2001 b j = xI M5 2132 0 (40 * b + j) ∧ ∃ p a : Nat, xI C5 2001 b j = nI (100 * p + a) ∧ p < 16 ∧ a < 16 := fun j hj => by
    obtain ⟨p', a', r1, r2, r3, r4⟩ := hev j hj
    rw [xst 2001 j (by decide) (by decide) (by decide), n5 2132 0 _ (by decide) (by decide), r1, r2]
    exact ⟨rfl, p', a', rfl, r3, r4⟩
  have gebl : ∀ j, j < ec → ∀ p a : Nat, p < 16 → a < 16 → xI C5 2001 b j = nI (100 * p + a) → acc &&& blm p = blm p := fun j hj p' a' r1 r2 r3 => by
    rw [xst 2001 j (by decide) (by decide) (by decide)] at r3
    exact d3 j hj p' a' r1 r2 r3
  have gest : qS1 C5 M5 b := ⟨fun j hj => by rw [xst 2011 j (by decide) (by decide) (by decide), yst, hq.1 j hj], fun j hj => by rw [xst 2012 j (by decide) (by decide) (by decide), yst, hq.2.1 j hj], fun j hj => by rw [xst 2013 j (by decide) (by decide) (by decide), yst, hq.2.2.1 j hj], fun j hj => by rw [xst 2014 j (by decide) (by decide) (by decide), yst, hq.2.2.2.1 j hj], by rw [xst 604 0 (by decide) (by decide) (by decide), yst, hq.2.2.2.2]⟩
  have gepd : ∀ t, t < 40 → (b64 (xL C5 605 b 0) t ↔ b32 (xI M5 2100 0 (120 * b + 113 + t / 20)) (t % 20)) := fun t ht => by
    have e : b64 (xL (uI Ce 406 0 0 v) 605 b 0) t ↔ b32 (xI (uI (uI Me 1154 0 0 v') 1153 0 0 w') 2101 0 (113 + t / 20)) (t % 20) := hms.1.PD.1 t ht
    rw [L_uI, eMe _ _ _ (by decide) (by decide)] at e
    rw [L5, yst, Nat.add_assoc, s3' _ (by omega)]
    exact e
  have gesi : stOK (fun j => xI M5 2100 0 (120 * b + j)) 80000 (25000 * dnb D c) 0 := by
    have e : stOK (fun j => xI (uI (uI Me 1154 0 0 v') 1153 0 0 w') 2101 0 j) 80000 (25000 * p + 601 * n) 0 := hms.2
    obtain ⟨f, f1, f2, f3, f4⟩ := e
    refine ⟨f, fun j hj => ?_, f2, fun a ha => ⟨?_, (f3 a ha).2⟩, f4⟩
    · have := f1 j hj
      dsimp only at this ⊢
      rw [eMe _ _ _ (by decide) (by decide)] at this
      rw [yst, s3' j (by omega), this]
    · have := (f3 a ha).1
      omega
  have gert : ∀ (W : XO) (i : Nat), (∀ j, j < 16 → xI W 2011 i j = xI C5 2011 b j) → (∀ j, j < 16 → xI W 2012 i j = xI C5 2012 b j) → (∀ j, j < 16 → xI W 2013 i j = xI C5 2013 b j) → (∀ j, j < 64 → xI W 2014 i j = xI C5 2014 b j) → fX10_nodeOver W i (4 : Int32) (0 : Int32) = xI C5 12 b 0 := fun W i w1 w2 w3 w4 => by
    rw [x12, hro]
    exact node_cg (fun j hj => (w1 j hj).trans (xst 2011 j (by decide) (by decide) (by decide))) (fun j hj => (w2 j hj).trans (xst 2012 j (by decide) (by decide) (by decide))) (fun j hj => (w3 j hj).trans (xst 2013 j (by decide) (by decide) (by decide))) (fun j hj => (w4 j hj).trans (xst 2014 j (by decide) (by decide) (by decide)))
  have ge3 : xI C5 3 b 0 = xI M5 2122 0 b := x3.trans q2122.symm
  have gegh : gH C5 M5 c b gp (dnt D c) := by
    obtain ⟨ba, ba1, hba, -⟩ := toI_nI (x := bsN (xI Cb 5 gp 0) (xI Cb 6 gp 0)) (by omega)
    have hba1 : 1 ≤ ba := by
      have e := hB1
      rw [hba, ti_nI ba1] at e
      omega
    obtain ⟨G, ks, g0, gn, gs⟩ := hgi
    rw [← hb, ← hgp, hba] at gs
    refine ⟨n, ba, pr, G, ks, ⟨x8, by omega, hba1, hpr, x5.trans hba, x3⟩, fun x hx => ?_, fun x hx => ?_, fun _ => ?_, fun j hj => ?_⟩
    · have e := m2.2.1 x (by omega) hx
      rw [Nat.zero_add] at e
      rw [g0, e, gmB1 _ (by omega)]
      unfold hdM
      rw [I_ne (by decide), I_uL, I_ne (by decide), I_ne (by decide), I_ne (by decide), I_ne (by decide), I_ne (by decide)]
    · rw [gn, yst, s3' x hx]
    · rw [g0]
      have m0 : ∀ k i j, k ≠ 2101 → k ≠ 1157 → k ≠ 1158 → k ≠ 2120 → k ≠ 2121 → k ≠ 2122 → k ≠ 2124 → xI M1 k i j = xI Mb k i j := fun k i j h0 h1 h2 h3 h4 h5 h6 => md k i j h0 h1 h2 (fun y => h3 y.1) (fun y => h4 y.1) (fun y => h5 y.1) (fun y => h6 y.1)
      refine ⟨?_, ?_, ?_, ?_, ?_, ?_, ?_, ?_, fun j hj => ⟨?_, ?_⟩, fun q hq => ?_⟩
      · rw [m2.1 1157 0 0 (fun y => absurd y.1 (by decide))]
        unfold hdM
        rw [I_ne (by decide), I_uL, I_ne (by decide), I_ne (by decide), I_ne (by decide), I_ne (by decide), I_uI, if_pos ⟨rfl, rfl, rfl⟩]
      · rw [m2.1 1158 0 0 (fun y => absurd y.1 (by decide))]
        unfold hdM
        rw [I_ne (by decide), I_uL, I_ne (by decide), I_ne (by decide), I_ne (by decide), I_uI, if_pos ⟨rfl, rfl, rfl⟩]
      · rw [bM1 2122 (by decide)]
        unfold hdM
        rw [I_ne (by decide), I_uL, I_uI, if_pos ⟨rfl, rfl, rfl⟩]
      · rw [m0 _ _ _ (by decide) (by decide) (by decide) (by decide) (by decide) (by decide) (by decide), ← B2b.2.2.2.2.1, rc10]
      · rw [m0 _ _ _ (by decide) (by decide) (by decide) (by decide) (by decide) (by decide) (by decide), ← B2b.2.2.2.1, rc8]
      · rw [m0 _ _ _ (by decide) (by decide) (by decide) (by decide) (by decide) (by decide) (by decide), ← B2b.2.2.1, rc6]
      · rw [x2, (h.B2 gp hg48).1, bM1 2121 (by decide)]
        unfold hdM
        rw [I_ne (by decide), I_uL, I_ne (by decide), I_uI, if_pos ⟨rfl, rfl, rfl⟩]
      · rw [m0 _ _ _ (by decide) (by decide) (by decide) (by decide) (by decide) (by decide) (by decide), cA 104 rfl rfl c 0, (h.UP c hc).1]
      · rw [m0 _ _ _ (by decide) (by decide) (by decide) (by decide) (by decide) (by decide) (by decide), cA 2008 rfl rfl 0 j, (h.PR.1 j hj).1]
      · rw [m0 _ _ _ (by decide) (by decide) (by decide) (by decide) (by decide) (by decide) (by decide), cA 2009 rfl rfl 0 j, (h.PR.1 j hj).2]
      · rw [m0 _ _ _ (by decide) (by decide) (by decide) (by decide) (by decide) (by decide) (by decide), cA 2010 rfl rfl 0 q, (h.PR.2 q hq).1]
    · obtain ⟨k1, ⟨u', e', k2, k3, k4⟩, ⟨sd, nc, v2, ga, mo, tp, co, ec', k5, k6, k7⟩, k8⟩ := gs j hj
      refine ⟨k1, ⟨u', e', k2, k3, (xrow j).trans k4⟩, ⟨sd, nc, v2, ga, mo, tp, co, ec', ?_, ?_, k7⟩, k8⟩
      · rw [g0]
        unfold gTX at k5 ⊢
        rw [cA 701 rfl rfl _ 0, cA 702 rfl rfl _ 0, cA 703 rfl rfl _ 0, cA 704 rfl rfl _ 0, cA 705 rfl rfl _ 0, cA 706 rfl rfl _ 0, cA 707 rfl rfl _ 0, cA 708 rfl rfl _ 0, cA 709 rfl rfl _ 0, cA 710 rfl rfl _ 0, cA 711 rfl rfl _ 0]
        exact k5
      · rw [ti_nI ba1] at k6
        omega
  have ge6 : xI C5 6 b 0 = xI M5 2125 0 b := x6.trans y6.symm
  have ge12 : xI C5 12 b 0 = xI M5 2127 0 b := x12.trans y12.symm
  have g1160 : xI M5 1160 0 0 = xI Mb 1160 0 0 := by
    rw [n5 1160 0 0 (by decide) (by decide), t3 1160 0 0 (by decide) (by decide) (fun y => absurd y.1 (by decide))]
    exact mOld' 1160 0 0 (by simp [mmod]) (by decide) (by decide) (by decide) (by decide) (by decide) (by omega) (by omega)
  refine ⟨C5, M5, hgrow, hmake, ?_, cA, mA, lA, nA, g1160, ⟨u, i6, by rw [← hb]; exact x6⟩, fun k i j h1 h2 h3 h4 => cB k i j (by rw [hb]; exact h2) h1 h3 h4⟩
  rw [hb] at cB gmB gmB4 gmB1 glB gnB ge2m gerow gerow2 gheld geev gebl gest gepd gesi gert gegh ge3 ge6 ge12 x2 x4 x5 q2124 x8 y8 x10 y10 x11' y11 x16 q2120 y2123
  rw [hgp] at x2 x4 y2123 gheld x16 gegh
  exact make_rg (n := n) (u := u) (ec := ec) (wt := wt) (pr := pr) h hc hnb hp cA mA lA (fun k h1 _ => nA k h1) cB gC101 gC101n gmB gmB4 gmB1 gm9 gm9n glB gnB x2 ge2m ge3 x4 hwt y2123 x5 q2124 hB1 ge6 x8 y8 (by omega) x10 y10 (by omega) x11' y11 ge12 x16 q2120 gerow gerow2 gheld geev gebl gest gepd gesi gert gegh

