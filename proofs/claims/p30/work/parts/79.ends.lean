theorem eMove {M : XO} {a c : Nat} (ha : a < 120) (hc : c < 120) (v : Int32) : fX11_move M (nI a) (nI c) v = some (uI (uI M 2101 0 a (xI M 2101 0 a - v)) 2101 0 c (xI (uI M 2101 0 a (xI M 2101 0 a - v)) 2101 0 c + v)) := by
  unfold fX11_move wl
  dsimp only
  rw [if_pos (inB_nI ha (by decide)), if_pos (inB_nI ha (by decide)), cl_nI (by omega), if_pos (inB_nI hc (by decide)), if_pos (inB_nI hc (by decide)), cl_nI (by omega)]
theorem eMade0 {M : XO} {mk n p v x : Nat} (hmk : mk < 16) (hn : n ≤ 1000001) (hx : xI M 2101 0 mk = nI x) (hv2 : v < 2147483648) (hv : x < v) : fX11_made M (nI mk) (nI n) (nI p) (nI v) = some (-1, M) := by
  have e0 : fX11_address M (nI mk) (nI n) = some (nI (6 + (5 * mk + 3 * n) % 9)) := by
    unfold fX11_address
    rw [show (5 : Int32) = nI 5 from rfl, show (3 : Int32) = nI 3 from rfl, show (9 : Int32) = nI 9 from rfl, show (6 : Int32) = nI 6 from rfl, nI_mul, nI_mul, nI_add, rem_nI (by omega) (by decide) (by decide), nI_add]
  unfold fX11_made
  rw [e0, Option.bind_some, if_pos (inB_nI (show mk < 120 by omega) (by decide)), cl_nI (show mk < 2147483648 by omega), hx, if_pos (nI_lt hv (by omega))]
theorem op21 {P : XP} {d q s : Nat} {C M : XO} (h : MS P d (d - 1) q s C M) (hd : 0 < d) {n a : Nat} (hn : xI C 301 (d - 1) 0 = nI n) (hn0 : 1 ≤ n) (hn2 : n ≤ 16) (hq : s + 80 ≤ q) (ha : a ≤ 7) : ∃ C' M', fX4_makeFrom C (pb P) (pb P) (d - 1) (nI a) = some C' ∧ fX11_does M (nI (d - 1)) (21 : Int32) (nI a) = some M' ∧ MS P d (d - 1) s s C' M' ∧ xI C' 310 (d - 1) 0 = xI C 310 (d - 1) 0 := by
  have hf : d - 1 < d := by omega
  obtain ⟨f4, fi, fc⟩ := fr5 h.1 hf
  obtain ⟨k, rfl⟩ : ∃ k, n = k + 1 := ⟨n - 1, by omega⟩
  obtain ⟨y, C1, M1, y1, y2, y3, y4, y5, y6, y7⟩ := h.pop' hf hn (by omega)
  obtain ⟨o, l, v, m, p, t, g, ⟨b1, b2, b3, b4, b5, b6, b7⟩, ⟨o1, o2⟩, -⟩ := y4.1.fr hf
  have hT := h.1.ZP.2.2.2.1
  obtain ⟨c, c1, c2, c3, c4, c5⟩ := y4.raise (q' := q - 1) b1 (by omega)
  obtain ⟨x, x1, x2⟩ := y4.2.get.1 o b1
  try dsimp only at x1
  have hrf := y4.1.RF.2
  have s1 : sAt C1 2012 (pb P) (nI o) = nI c := by rw [sAt_nI (show o < alen 2012 from b1) (by decide), c3]
  have w304 : xI (uI C1 2012 (pb P) o (nI (c + 1))) 304 (d - 1) 0 = nI o := by rw [I_ne (by decide), o1]
  have s2 : sAt (uI C1 2012 (pb P) o (nI (c + 1))) 2011 (pb P) (nI o) = nI x := by rw [sAt_nI (show o < alen 2011 from b1) (by decide), I_ne (by decide), y4.1.eI b1, x1]
  have hM : fX11_makes M (nI (d - 1)) (nI a) = (fX11_made M1 (nI o) (nI c) (nI a) (nI y)).bind (fun r_6 => (fX11_push (uI r_6.2 2101 0 (16 + o) (xI r_6.2 2101 0 (16 + o) + 1)) (nI (d - 1)) (if 0 ≤ r_6.1 then r_6.1 else (0 : Int32))).bind (fun r_13 => some r_13)) := by
    unfold fX11_makes wl
    rw [y3, Option.bind_some]
    dsimp only
    rw [if_pos fi, fc, o2, show (16 : Int32) = nI 16 from rfl, nI_add, if_pos (inB_nI (show 16 + o < 120 by omega) (by decide)), cl_nI (show 16 + o < 2147483648 by omega), c1]
    simp only [if_pos (inB_nI (show 16 + o < 120 by omega) (show 120 < 2147483648 by decide))]
  have hC : fX4_makeFrom C (pb P) (pb P) (d - 1) (nI a) = if nI x < nI y then some (fX3_push (uI C1 2012 (pb P) o (nI (c + 1))) (d - 1) 0) else (fX4_found (uI C1 2012 (pb P) o (nI (c + 1))) (pb P) (pb P) (nI o) (nI c) (nI a) (nI y)).bind (fun r_12 => some (fX3_push r_12.2 (d - 1) r_12.1)) := by
    unfold fX4_makeFrom wl
    rw [y2]
    dsimp only
    rw [if_pos hrf, if_pos hrf, o1, c4, if_pos (show xR (uI C1 2012 (pb P) o (nI (c + 1))) 404 0 = pb P from hrf), w304, s2, s1]
  have hD : fX11_does M (nI (d - 1)) (21 : Int32) (nI a) = fX11_makes M (nI (d - 1)) (nI a) := by
    unfold fX11_does
    rw [if_neg (by decide), if_neg (by decide), if_neg (by decide), if_neg (by decide), if_neg (by decide), if_neg (by decide), if_neg (by decide), if_neg (by decide), if_neg (by decide), if_neg (by decide), if_neg (by decide), if_neg (by decide), if_neg (by decide), if_neg (by decide), if_neg (by decide), if_neg (by decide), if_neg (by decide), if_neg (by decide), if_neg (by decide), if_neg (by decide), if_neg (by decide), if_pos rfl]
    cases fX11_makes M (nI (d - 1)) (nI a) <;> rfl
  rw [hD, hM, hC]
  have z310 : xI (uI C1 2012 (pb P) o (nI (c + 1))) 301 (d - 1) 0 = nI k := by rw [I_ne (by decide), y5]
  have pz := c5.push' hf z310 (by omega) (v := 0) (by decide)
  obtain ⟨C3, M3, a1, a2, a3, -, a5, -⟩ := pz
  have e310 : xI C3 310 (d - 1) 0 = xI C 310 (d - 1) 0 := by rw [a5 310 _ _ (by decide) (by decide), I_ne (by decide), y6 310 _ _ (by decide)]
  have hfail : fX11_made M1 (nI o) (nI c) (nI a) (nI y) = some (-1, M1) → (fX11_made M1 (nI o) (nI c) (nI a) (nI y)).bind (fun r_6 => (fX11_push (uI r_6.2 2101 0 (16 + o) (xI r_6.2 2101 0 (16 + o) + 1)) (nI (d - 1)) (if 0 ≤ r_6.1 then r_6.1 else (0 : Int32))).bind (fun r_13 => some r_13)) = some M3 := by
    intro e
    rw [e, Option.bind_some]
    dsimp only
    rw [if_neg (by decide), c1, nI_1, show (0 : Int32) = nI 0 from rfl, a2, Option.bind_some]
  by_cases hv : x < y
  · rw [if_pos (nI_lt hv (by omega))]
    exact ⟨C3, M3, by rw [← a1]; rfl, hfail (eMade0 b1 (by omega) x1 (by omega) hv), a3.low (by omega), e310⟩
  · rw [if_neg (nI_nlt (by omega) (by omega))]
    have h00 : xI (uI M1 2101 0 (16 + o) (nI (c + 1))) 2101 0 (16 + o) ≠ 0 := by
      rw [I_uI, if_pos ⟨rfl, rfl, rfl⟩]
      exact nI_ne0 (by omega) (by omega)
    have hx' : xI (uI M1 2101 0 (16 + o) (nI (c + 1))) 2101 0 o = nI x := by rw [I_uI, if_neg (fun z => by have := z.2.2; omega), x1]
    have how : xI M1 2101 0 (16 + o) ≠ 0 := (y4.1.OW (d - 1) hf o b1 o2).1
    have hcd : ∀ t, t < 16 → xI (uI M1 2101 0 (16 + o) (nI (c + 1))) 2101 0 (32 + t) = xI M1 2101 0 (32 + t) := fun t ht => by rw [I_uI, if_neg (fun z => by have := z.2.2; omega)]
    have hnc : ∀ t, t ≠ o → xI (uI M1 2101 0 (16 + o) (nI (c + 1))) 2101 0 (16 + t) = xI M1 2101 0 (16 + t) := fun t ht => by rw [I_uI, if_neg (fun z => by have := z.2.2; omega)]
    have hm9 : (5 * o + 3 * c) % 9 < 9 := Nat.mod_lt _ (by decide)
    rcases c5.found (q' := s) b1 (n := c) (p := a) (by omega) (by omega) hx' (by omega) (show y ≤ x by omega) h00 (by omega) with ⟨r1, r2, r3⟩ | ⟨t, C', N1, M', t0, t1, t2, t3, t4, t5, t6, t7, t8, t9, t10, t11⟩
    · refine ⟨C3, M3, ?_, hfail ?_, a3.low (by omega), e310⟩
      · rw [r1, Option.bind_some]
        dsimp only
        rw [show (0 : Int32) = nI 0 from rfl, a1]
      · rw [eMade b1 (by omega) x1 (by omega) (by omega)]
        by_cases z1 : xI M1 2101 0 (32 + (6 + (5 * o + 3 * c) % 9)) = 0
        · rw [if_pos z1]
          by_cases z2 : xI M1 2101 0 (16 + (6 + (5 * o + 3 * c) % 9)) = 0
          · exfalso
            have hne : 6 + (5 * o + 3 * c) % 9 ≠ o := fun z => how (by rw [← z]; exact z2)
            exact r3 (by rw [hcd _ (by omega)]; exact z1) (by rw [hnc _ hne]; exact z2)
          · rw [if_neg z2]
        · rw [if_neg z1]
    · rw [hcd t (by omega)] at t3
      rw [hnc t t2] at t4
      have k310 : xI C' 301 (d - 1) 0 = nI k := by rw [t10 _ _ _ (by decide) (by decide) (by decide), z310]
      obtain ⟨C4, M4, p1, p2, p3, -, p5, -⟩ := t9.push' hf k310 (by omega) (v := t) (by omega)
      refine ⟨C4, M4, ?_, ?_, p3, by rw [p5 310 _ _ (by decide) (by decide), t10 310 _ _ (by decide) (by decide) (by decide), I_ne (by decide), y6 310 _ _ (by decide)]⟩
      · rw [t5, Option.bind_some]
        dsimp only
        rw [p1]
      · rw [eMade b1 (by omega) x1 (by omega) (by omega), ← t0, if_pos t3, if_pos t4, eMove (by omega) (by omega), Option.bind_some, Option.bind_some]
        dsimp only
        have wr : ∀ u u' u'' u''', xI (uI (uI (uI (uI M1 2101 0 o u) 2101 0 t u') 2101 0 (32 + t) u'') 2101 0 (16 + t) u''') 2101 0 (16 + o) = nI c := fun u u' u'' u''' => by
          rw [I_uI, if_neg (fun z => by have := z.2.2; omega), I_uI, if_neg (fun z => by have := z.2.2; omega), I_uI, if_neg (fun z => by have := z.2.2; omega), I_uI, if_neg (fun z => by have := z.2.2; omega), c1]
        rw [if_pos (nI_pos' (by omega)), wr, nI_1]
        rw [eMove (by omega) (by omega)] at t7
        have t7' := (Option.some.inj t7).symm
        have w1 : xI (uI M1 2101 0 (16 + o) (nI (c + 1))) 2101 0 o = xI M1 2101 0 o := by rw [hx', x1]
        have w2 : xI (uI (uI M1 2101 0 (16 + o) (nI (c + 1))) 2101 0 o (xI M1 2101 0 o - nI y)) 2101 0 t = xI (uI M1 2101 0 o (xI M1 2101 0 o - nI y)) 2101 0 t := by
          rw [I_uI, if_neg (fun z => t2 z.2.2), I_uI, if_neg (fun z => by have := z.2.2; omega), I_uI, if_neg (fun z => t2 z.2.2)]
        rw [w1, w2] at t7'
        have hw : uI (uI (uI (uI (uI M1 2101 0 o (xI M1 2101 0 o - nI y)) 2101 0 t (xI (uI M1 2101 0 o (xI M1 2101 0 o - nI y)) 2101 0 t + nI y)) 2101 0 (32 + t) (nI (a + 1))) 2101 0 (16 + t) 1) 2101 0 (16 + o) (nI (c + 1)) = M' := by
          rw [t8, t7', uI_comm (k := 2101) (k' := 2101) (j := 16 + t) (j' := 16 + o) (by omega), uI_comm (k := 2101) (k' := 2101) (j := 32 + t) (j' := 16 + o) (by omega), uI_comm (k := 2101) (k' := 2101) (j := t) (j' := 16 + o) (by omega), uI_comm (k := 2101) (k' := 2101) (j := o) (j' := 16 + o) (by omega)]
        rw [hw, p2, Option.bind_some]
theorem dropP {W : XO} {b o : Nat} (ho : o < 16) : fX6_dropProgram W b (nI o) = uI (uI (uI (uI (uI W 2013 b o 0) 2014 b (4 * o + 0) 0) 2014 b (4 * o + 1) 0) 2014 b (4 * o + 2) 0) 2014 b (4 * o + 3) 0 := by
  have e1 : ∀ X, sPut X 2013 b (nI o) (0 : Int32) = uI X 2013 b o 0 := fun X => by
    unfold sPut
    rw [if_neg (nI_nlt0 (by omega)), if_neg (show ¬ nI (alen 2013) ≤ nI o from nI_ge (b := 16) ho (by decide)), cl_nI (by omega)]
  have e2 : ∀ X k, k < 4 → sPut X 2014 b (nI o * (4 : Int32) + nI k) (0 : Int32) = uI X 2014 b (4 * o + k) 0 := fun X k hk => by
    unfold sPut
    rw [show (4 : Int32) = nI 4 from rfl, nI_mul, nI_add, Nat.mul_comm o 4, if_neg (nI_nlt0 (by omega)), if_neg (show ¬ nI (alen 2014) ≤ nI (4 * o + k) from nI_ge (b := 64) (by omega) (by decide)), cl_nI (by omega)]
  unfold fX6_dropProgram
  rw [e1]
  show fX6_dropProgram_l b (nI o) 5 0 _ = _
  unfold fX6_dropProgram_l
  rw [if_neg (by decide), e2 _ 0 (by decide)]
  unfold fX6_dropProgram_l
  rw [if_neg (by decide), e2 _ 1 (by decide)]
  unfold fX6_dropProgram_l
  rw [if_neg (by decide), e2 _ 2 (by decide)]
  unfold fX6_dropProgram_l
  rw [if_neg (by decide), e2 _ 3 (by decide)]
  unfold fX6_dropProgram_l
  rw [if_pos (by decide)]
theorem eDrop {M : XO} {o : Nat} (x1 : Int32) (ho : o < 16) : fX11_ends_l85 x1 (nI o) 5 (0 : Int32) M = some (4, uI (uI (uI (uI M 2101 0 (48 + (4 * o + 0)) 0) 2101 0 (48 + (4 * o + 1)) 0) 2101 0 (48 + (4 * o + 2)) 0) 2101 0 (48 + (4 * o + 3)) 0) := by
  have e2 : ∀ k, k < 4 → ((48 : Int32) + ((4 : Int32) * nI o)) + nI k = nI (48 + (4 * o + k)) := fun k hk => by
    rw [show (4 : Int32) = nI 4 from rfl, nI_mul, show (48 : Int32) = nI 48 from rfl, nI_add, nI_add, Nat.add_assoc]
  have e3 : ∀ k, k < 4 → inB (nI (48 + (4 * o + k))) 120 := fun k hk => inB_nI (by omega) (by decide)
  have e4 : ∀ k, k < 4 → (nI (48 + (4 * o + k))).toNatClampNeg = 48 + (4 * o + k) := fun k hk => cl_nI (by omega)
  show fX11_ends_l85 x1 (nI o) 5 (nI 0) M = _
  unfold fX11_ends_l85 wl
  dsimp only
  rw [if_neg (by decide), e2 0 (by decide), if_pos (e3 0 (by decide)), e4 0 (by decide), nI_1]
  unfold fX11_ends_l85 wl
  dsimp only
  rw [if_neg (by decide), e2 1 (by decide), if_pos (e3 1 (by decide)), e4 1 (by decide), nI_1]
  unfold fX11_ends_l85 wl
  dsimp only
  rw [if_neg (by decide), e2 2 (by decide), if_pos (e3 2 (by decide)), e4 2 (by decide), nI_1]
  unfold fX11_ends_l85 wl
  dsimp only
  rw [if_neg (by decide), e2 3 (by decide), if_pos (e3 3 (by decide)), e4 3 (by decide), nI_1]
  unfold fX11_ends_l85
  rw [if_pos (by decide)]
  rfl
/-- a contract gives up what it has, its program and slots -/
theorem MS.drop {P : XP} {d e q s : Nat} {C M : XO} (h : MS P d e q s C M) {o : Nat} (ho : o < 16) : MS P d e q s (uI (uI (uI (uI (uI C 2013 (pb P) o 0) 2014 (pb P) (4 * o + 0) 0) 2014 (pb P) (4 * o + 1) 0) 2014 (pb P) (4 * o + 2) 0) 2014 (pb P) (4 * o + 3) 0) (uI (uI (uI (uI (uI M 2101 0 (32 + o) 0) 2101 0 (48 + (4 * o + 0)) 0) 2101 0 (48 + (4 * o + 1)) 0) 2101 0 (48 + (4 * o + 2)) 0) 2101 0 (48 + (4 * o + 3)) 0) := by
  refine ⟨((((h.1.wIII ho _).wIV (by omega) _).wIV (by omega) _).wIV (by omega) _).wIV (by omega) _, ?_⟩
  unfold sCS
  rw [curF, curF, curF, curF, curF]
  have h0 := stOK.code h.2 (a := o) (v := 0) ho (by decide) (fun y => absurd rfl y)
  exact (((h0.slot (t := 4 * o + 0) (v := 0) (by omega) (by decide)).slot (t := 4 * o + 1) (v := 0) (by omega) (by decide)).slot (t := 4 * o + 2) (v := 0) (by omega) (by decide)).slot (t := 4 * o + 3) (v := 0) (by omega) (by decide)
