theorem bS {α : Type} (o : Option α) : (o.bind fun r => some r) = o := by cases o <;> rfl
theorem add_neg0 (x : Int32) : x + -x = 0 := by rw [← Int32.sub_eq_add_neg, Int32.sub_self]
theorem add_0 (x : Int32) : x + 0 = x := Int32.add_zero x
theorem cGain {W : XO} {b o : Nat} (ho : o < 16) (v : Int32) : fX6_gain W b (nI o) v = uI W 2011 b o (xI W 2011 b o + v) := by
  unfold fX6_gain
  rw [if_neg (nI_nlt0 (by omega)), if_neg (show ¬ nI (alen 2011) ≤ nI o from nI_ge (b := 16) ho (by decide)), cl_nI (by omega)]
/-- END: on both machines, but for what the end of any call does -/
theorem MS.ends {P : XP} {d q s : Nat} {C M : XO} (h : MS P d (d - 1) q s C M) (hd : 0 < d) {k : Nat} (hn : xI C 301 (d - 1) 0 = nI (k + 1)) (hk : k ≤ 16) (hq : s + 20 ≤ q) : ∃ C' M', fX4_finish C (pb P) (pb P) (d - 1) (22 : Int32) = some (1, C') ∧ fX11_ends M (nI (d - 1)) = fX11_finish M' 1 (xI M' 2144 0 (d - 1)) ∧ MS P d (d - 1) s s C' M' ∧ xI C' 310 (d - 1) 0 = xI C 310 (d - 1) 0 := by
  have hf : d - 1 < d := by omega
  obtain ⟨f4, fi, fc⟩ := fr5 h.1 hf
  obtain ⟨y, C1, M1, y1, y2, y3, y4, y5, y6, y7⟩ := h.pop' hf hn (by omega)
  obtain ⟨o, l, v, m, p, t, g, ⟨b1, b2, b3, b4, b5, b6, b7⟩, ⟨o1, o2⟩, -⟩ := y4.1.fr hf
  have hT := h.1.ZP.2.2.2.1
  have hrf := y4.1.RF.2
  obtain ⟨x, x1, x2, xs⟩ := y4.2.coin b1 0
  have zm : y % 16 < 16 := Nat.mod_lt _ (by decide)
  obtain ⟨z, hz⟩ : ∃ z, z = y % 16 := ⟨_, rfl⟩
  have e0 : nI y - nI y / (16 : Int32) * (16 : Int32) = nI z := by rw [hz, show (16 : Int32) = nI 16 from rfl, rem_nI (by omega) (by decide) (by decide)]
  rw [← hz] at zm
  have s1 : sAt C1 2011 (pb P) (nI o) = nI x := by rw [sAt_nI (show o < alen 2011 from b1) (by decide), y4.1.eI b1, x1]
  have g1 : fX6_gain C1 (pb P) (nI o) (-(nI x)) = uI C1 2011 (pb P) o 0 := by rw [cGain b1, y4.1.eI b1, x1, add_neg0]
  have fin : ∀ C3 M3, MS P d (d - 1) q s C3 M3 → xI C3 310 (d - 1) 0 = xI C 310 (d - 1) 0 → ∃ C' M', C' = uI (uI (uI (uI (uI (uI C3 2013 (pb P) o 0) 2014 (pb P) (4 * o + 0) 0) 2014 (pb P) (4 * o + 1) 0) 2014 (pb P) (4 * o + 2) 0) 2014 (pb P) (4 * o + 3) 0) 406 0 0 (xI (uI (uI (uI (uI (uI C3 2013 (pb P) o 0) 2014 (pb P) (4 * o + 0) 0) 2014 (pb P) (4 * o + 1) 0) 2014 (pb P) (4 * o + 2) 0) 2014 (pb P) (4 * o + 3) 0) 406 0 0 + nI 60) ∧ M' = uI (uI (uI (uI (uI (uI M3 2101 0 (32 + o) 0) 2101 0 (48 + (4 * o + 0)) 0) 2101 0 (48 + (4 * o + 1)) 0) 2101 0 (48 + (4 * o + 2)) 0) 2101 0 (48 + (4 * o + 3)) 0) 1154 0 0 (xI (uI (uI (uI (uI (uI M3 2101 0 (32 + o) 0) 2101 0 (48 + (4 * o + 0)) 0) 2101 0 (48 + (4 * o + 1)) 0) 2101 0 (48 + (4 * o + 2)) 0) 2101 0 (48 + (4 * o + 3)) 0) 1154 0 0 + nI 60) ∧ MS P d (d - 1) s s C' M' ∧ xI C' 310 (d - 1) 0 = xI C 310 (d - 1) 0 := by
    intro C3 M3 h3 h4
    refine ⟨_, _, rfl, rfl, (h3.drop b1).back (by omega) (by omega), ?_⟩
    rw [I_ne (by decide), I_ne (by decide), I_ne (by decide), I_ne (by decide), I_ne (by decide), I_ne (by decide), h4]
  have i1 : inB (nI (32 + o)) 120 := inB_nI (by omega) (by decide)
  have i2 : (nI (32 + o)).toNatClampNeg = 32 + o := cl_nI (by omega)
  have i3 : inB (nI o) 120 := inB_nI (by omega) (by decide)
  have i4 : (nI o).toNatClampNeg = o := cl_nI (by omega)
  have i5 : inB (nI z) 120 := inB_nI (by omega) (by decide)
  have i6 : (nI z).toNatClampNeg = z := cl_nI (by omega)
  have i7 : (112 : Int32).toNatClampNeg = 112 := rfl
  have o3 : xI M1 2140 0 (d - 1) = nI o := o2
  have w304 : xI (uI C1 2011 (pb P) o 0) 304 (d - 1) 0 = nI o := by rw [I_ne (by decide), o1]
  by_cases hzo : z = o
  · obtain ⟨B, B1, B2, B3⟩ := xs.burn 0
    have hB : xI M1 2101 0 112 = nI B := by
      have : upN (fun j => xI M1 2101 0 j) o (nI 0) 112 = xI M1 2101 0 112 := if_neg (by omega)
      rw [← this, B1]
    obtain ⟨B', B1', B2', B4⟩ := xs.burn (B + x)
    have hB' : B' = B := ((nI_eq (by omega) (by omega)).mp (B1.symm.trans B1')).symm
    subst hB'
    have h3 : MS P d (d - 1) q s (uI (uI C1 2011 (pb P) o 0) 604 (pb P) 0 (nI (B' + x))) (uI (uI M1 2101 0 o 0) 2101 0 112 (nI (B' + x))) := by
      refine ⟨(y4.1.wI b1 _).wB _, ?_⟩
      unfold sCS
      rw [curF, curF]
      have e5 : pT P - x + 0 - B' + (B' + x) = pT P := by omega
      rw [e5] at B4
      exact B4
    obtain ⟨C', M', q1, q2, q3, q4⟩ := fin _ _ h3 (by rw [I_ne (by decide), I_ne (by decide), y6 310 _ _ (by decide)])
    refine ⟨C', M', ?_, ?_, q3, q4⟩
    · unfold fX4_finish wl
      rw [y2]
      dsimp only
      have w604 : xI (uI C1 2011 (pb P) o 0) 604 (pb P) 0 = nI B' := by rw [I_ne (by decide), y4.1.eB, hB]
      have w304' : ∀ u, xI (uI (uI C1 2011 (pb P) o 0) 604 (pb P) 0 u) 304 (d - 1) 0 = nI o := fun u => by rw [I_ne (by decide), w304]
      rw [if_pos rfl, if_pos hrf, if_pos hrf, o1, s1, g1, e0, w304, if_pos (by rw [hzo]), if_pos (show xR (uI C1 2011 (pb P) o 0) 404 0 = pb P from hrf), w604, nI_add, if_pos (show xR (uI (uI C1 2011 (pb P) o 0) 604 (pb P) 0 (nI (B' + x))) 404 0 = pb P from hrf), w304', dropP b1, if_neg (by decide), q1]
      rfl
    · unfold fX11_ends wl
      rw [y3, Option.bind_some]
      dsimp only
      have w112 : ∀ u, xI (uI (uI M1 2101 0 112 u) 2101 0 o 0) 2101 0 o = 0 := fun u => by rw [I_uI, if_pos ⟨rfl, rfl, rfl⟩]
      rw [if_pos fi, fc, o3, if_pos i3, e0, hzo, if_pos rfl, if_pos rfl, i4, x1, i7, hB, nI_add, if_pos i3, if_pos i3, if_pos i3, w112, add_0, uI_idem, show (32 : Int32) = nI 32 from rfl, nI_add, if_pos i1, i2, eDrop _ b1, Option.bind_some]
      dsimp only
      rw [if_pos fi, uI_comm (A := M1) (k := 2101) (k' := 2101) (j := 112) (j' := o) (by omega), q2]
      exact bS _
  · obtain ⟨w, w1, w2, -⟩ := y4.2.coin zm 0
    have hw : xI M1 2101 0 z = nI w := w1
    obtain ⟨w', v1, v2, v3⟩ := xs.coin zm (w + x)
    have hw' : w' = w := by
      have e2 : upN (fun j => xI M1 2101 0 j) o (nI 0) z = xI M1 2101 0 z := if_neg hzo
      rw [e2, hw] at v1
      exact ((nI_eq (by omega) (by omega)).mp v1).symm
    subst hw'
    have h3 : MS P d (d - 1) q s (uI (uI C1 2011 (pb P) o 0) 2011 (pb P) z (nI (w' + x))) (uI (uI M1 2101 0 o 0) 2101 0 z (nI (w' + x))) := by
      refine ⟨(y4.1.wI b1 _).wI zm _, ?_⟩
      unfold sCS
      rw [curF, curF]
      have e5 : pT P - x + 0 - w' + (w' + x) = pT P := by omega
      rw [e5] at v3
      exact v3
    obtain ⟨C', M', q1, q2, q3, q4⟩ := fin _ _ h3 (by rw [I_ne (by decide), I_ne (by decide), y6 310 _ _ (by decide)])
    have hzo' : ¬ nI z = nI o := fun e => hzo ((nI_eq (by omega) (by omega)).mp e)
    refine ⟨C', M', ?_, ?_, q3, q4⟩
    · unfold fX4_finish wl
      rw [y2]
      dsimp only
      have wz : xI (uI C1 2011 (pb P) o 0) 2011 (pb P) z = nI w' := by rw [I_uI, if_neg (fun e => hzo e.2.2), y4.1.eI zm, hw]
      have w304' : ∀ u, xI (uI (uI C1 2011 (pb P) o 0) 2011 (pb P) z u) 304 (d - 1) 0 = nI o := fun u => by rw [I_ne (by decide), w304]
      rw [if_pos rfl, if_pos hrf, if_pos hrf, o1, s1, g1, e0, w304, if_neg hzo', if_pos (show xR (uI C1 2011 (pb P) o 0) 404 0 = pb P from hrf), cGain zm, wz, nI_add, if_pos (show xR (uI (uI C1 2011 (pb P) o 0) 2011 (pb P) z (nI (w' + x))) 404 0 = pb P from hrf), w304', dropP b1, if_neg (by decide), q1]
      rfl
    · unfold fX11_ends wl
      rw [y3, Option.bind_some]
      dsimp only
      have w112 : uI M1 2101 0 112 (xI M1 2101 0 112 + 0) = M1 := uI_same (by rw [add_0])
      have wz : xI (uI M1 2101 0 o 0) 2101 0 z = nI w' := by rw [I_uI, if_neg (fun e => hzo e.2.2), hw]
      rw [if_pos fi, fc, o3, if_pos i3, e0, if_neg hzo', if_neg hzo', i4, x1, i7, w112, if_pos i3, if_pos i5, if_pos i5, i6, wz, nI_add, show (32 : Int32) = nI 32 from rfl, nI_add, if_pos i1, i2, eDrop _ b1, Option.bind_some]
      dsimp only
      rw [if_pos fi, q2]
      exact bS _
