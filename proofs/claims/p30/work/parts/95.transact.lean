/-- class: a transaction around its effect -/
theorem cTransact {C C1 : XO} {b i1 sd ga p ba nn co nc v : Nat} (hr3 : xR C 403 0 = b) (hr4 : xR C 404 0 = b) (hsd : sd < 16) (hga : 20 ≤ ga) (c701 : xI C 701 i1 0 = nI sd) (c702 : xI C 702 i1 0 = nI nc) (c704 : xI C 704 i1 0 = nI v) (c706 : xI C 706 i1 0 = nI ga) (hp : fX7_priceAt C i1 (xI C 5 b 0) = nI p) (hnn : xI C 2012 b sd = nI nn) (hco : xI C 2011 b sd = nI co) (hpc : ga * p ≤ co) (hC1 : C1 = uI (uI (uI (uI C 2012 b sd (nI (nn + 1))) 2011 b sd (nI (co - ga * p))) 406 0 0 0) 310 0 0 (nI (ga - 20))) : fX4_transact C b b i1 = (if xI C 709 i1 0 = (-1 : Int32) then (if xI C 703 i1 0 < (16 : Int32) then (fX4_deliver b b 4 C1 (1 : Int32) (nI sd) (xI C 703 i1 0) (nI v) (xI C 705 i1 0) (nI (ga - 20))).bind (fun r => if r.1 = 0 ∨ r.1 = 1 then fX4_settleGas (uI r.2 408 0 0 r.1) b b i1 (nI p) (xI (uI r.2 408 0 0 r.1) 706 i1 0 - xI (uI r.2 408 0 0 r.1) 310 0 0) else none) else (fX4_found C1 b b (nI sd) (nI nc) (xI C 703 i1 0 - (16 : Int32)) (nI v)).bind (fun r => if r.1 = 0 then fX4_settleGas (uI r.2 408 0 0 0) b b i1 (nI p) (xI (uI r.2 408 0 0 0) 706 i1 0 - xI (uI r.2 408 0 0 0) 310 0 0) else fX4_settleGas (uI r.2 408 0 0 1) b b i1 (nI p) (xI (uI r.2 408 0 0 1) 706 i1 0 - xI (uI r.2 408 0 0 1) 310 0 0))) else (fX4_payOut C1 b b i1).bind (fun r => if r.1 = 0 ∨ r.1 = 1 then fX4_settleGas (uI r.2 408 0 0 r.1) b b i1 (nI p) (xI (uI r.2 408 0 0 r.1) 706 i1 0 - xI (uI r.2 408 0 0 r.1) 310 0 0) else none)) := by
  have w1 : fX6_raiseNonce C b (nI sd) = uI C 2012 b sd (nI (nn + 1)) := by
    unfold fX6_raiseNonce
    rw [if_neg (nI_nlt0 (by omega)), if_neg (show ¬ nI (alen 2012) ≤ nI sd from nI_ge (b := 16) hsd (by decide)), cl_nI (by omega), hnn, nI_1]
  have w2 : fX6_gain (uI C 2012 b sd (nI (nn + 1))) b (nI sd) (-(nI ga) * nI p) = uI (uI C 2012 b sd (nI (nn + 1))) 2011 b sd (nI (co - ga * p)) := by
    rw [cGain hsd, I_ne (by decide), hco, neg_mulI hpc]
  have k0 : (0 : Int32).toNatClampNeg = 0 := rfl
  have w706 : xI (uI (uI (uI C 2012 b sd (nI (nn + 1))) 2011 b sd (nI (co - ga * p))) 406 0 0 0) 706 i1 0 = nI ga := by rw [I_ne (by decide), I_ne (by decide), I_ne (by decide), c706]
  have w20 : nI ga - (20 : Int32) = nI (ga - 20) := by rw [show (20 : Int32) = nI 20 from rfl, nI_subI hga]
  have keep : ∀ f j, f ≠ 310 → f ≠ 406 → f ≠ 2011 → f ≠ 2012 → xI C1 f i1 j = xI C f i1 j := fun f j a1 a2 a3 a4 => by rw [hC1, I_ne a1, I_ne a2, I_ne a3, I_ne a4]
  unfold fX4_transact wl
  dsimp only
  rw [if_pos hr3, if_pos hr4, hp, c701, w1]
  have r1 : xR (uI C 2012 b sd (nI (nn + 1))) 404 0 = b := hr4
  have q701 : xI (uI C 2012 b sd (nI (nn + 1))) 701 i1 0 = nI sd := by rw [I_ne (by decide), c701]
  have q706 : xI (uI C 2012 b sd (nI (nn + 1))) 706 i1 0 = nI ga := by rw [I_ne (by decide), c706]
  rw [if_pos r1, q701, q706, w2, w706, w20, k0, ← hC1]
  have g310 : xI C1 310 0 0 = nI (ga - 20) := by rw [hC1, I_uI, if_pos ⟨rfl, rfl, rfl⟩]
  rw [keep 709 0 (by decide) (by decide) (by decide) (by decide), keep 703 0 (by decide) (by decide) (by decide) (by decide), keep 701 0 (by decide) (by decide) (by decide) (by decide), keep 702 0 (by decide) (by decide) (by decide) (by decide), keep 704 0 (by decide) (by decide) (by decide) (by decide), keep 705 0 (by decide) (by decide) (by decide) (by decide), c701, c702, c704, g310]
  simp only [bS]
/-- what is known of a transaction, in the worlds at first -/
def TXF (P : XP) (k sd nc v ga mo tp : Nat) : Prop := (k < 40 ∧ sd < 6 ∧ nc ≤ 9 ∧ v ≤ 10000 ∧ 20 ≤ ga ∧ ga ≤ 600 ∧ 1 ≤ mo ∧ mo ≤ 100 ∧ tp ≤ mo) ∧ (xI (pC P) 701 (40 * pc P + k) 0 = nI sd ∧ xI (pM P) 2111 0 (40 * pc P + k) = nI sd) ∧ (xI (pC P) 702 (40 * pc P + k) 0 = nI nc ∧ xI (pM P) 2112 0 (40 * pc P + k) = nI nc) ∧ (xI (pC P) 704 (40 * pc P + k) 0 = nI v ∧ xI (pM P) 2114 0 (40 * pc P + k) = nI v) ∧ (xI (pC P) 706 (40 * pc P + k) 0 = nI ga ∧ xI (pM P) 2116 0 (40 * pc P + k) = nI ga) ∧ (xI (pC P) 707 (40 * pc P + k) 0 = nI mo ∧ xI (pM P) 2117 0 (40 * pc P + k) = nI mo) ∧ (xI (pC P) 708 (40 * pc P + k) 0 = nI tp ∧ xI (pM P) 2118 0 (40 * pc P + k) = nI tp) ∧ ((xI (pC P) 709 (40 * pc P + k) 0 = -1 ∧ ∃ g i : Nat, g < 24 ∧ i ≤ 9999 ∧ xI (pC P) 703 (40 * pc P + k) 0 = nI g ∧ xI (pM P) 2113 0 (40 * pc P + k) = nI g ∧ xI (pC P) 705 (40 * pc P + k) 0 = nI i ∧ xI (pM P) 2115 0 (40 * pc P + k) = nI i) ∨ ∃ lk lv ii : Nat, lk < 40 ∧ lv ≤ 10000 ∧ ii ≤ 9999 ∧ xI (pC P) 709 (40 * pc P + k) 0 = nI lk ∧ xI (pM P) 2113 0 (40 * pc P + k) = nI 24 ∧ xI (pM P) 2115 0 (40 * pc P + k) = nI lk ∧ xI (pC P) 710 (40 * pc P + k) 0 = nI lv ∧ xI (pM P) 2114 0 (40 * (1 - pc P) + lk) = nI lv ∧ xI (pM P) 2115 0 (40 * (1 - pc P) + lk) = nI ii ∧ xI (pC P) 711 (40 * pc P + k) 0 = nI (ii % 6))
/-- and of the block -/
def BKF (P : XP) (ba pr : Nat) : Prop := 1 ≤ ba ∧ pr < 6 ∧ xI (pC P) 5 (pb P) 0 = nI ba ∧ xI (pC P) 3 (pb P) 0 = nI pr ∧ xI (pM P) 2122 0 (pk P) = nI pr
/-- the effect of a transaction, on both machines -/
theorem MS.effect {P : XP} {C1 M1 : XO} {k sd nc v ga mo tp co : Nat} (hx : TXF P k sd nc v ga mo tp) (h : MS P 0 0 (ga - 19) (ga - 20) C1 M1) (hco : xI M1 2101 0 sd = nI co) (hco2 : co ≤ 80000) (hv : v ≤ co) (h0 : xI M1 2101 0 (16 + sd) ≠ 0) (g310 : xI C1 310 0 0 = nI (ga - 20)) : ∃ C2 R r g sz, r ≤ 1 ∧ (∀ S : XO → Int32 → Option XO, (if xI C1 709 (40 * pc P + k) 0 = (-1 : Int32) then (if xI C1 703 (40 * pc P + k) 0 < (16 : Int32) then (fX4_deliver (pb P) (pb P) 4 C1 (1 : Int32) (nI sd) (xI C1 703 (40 * pc P + k) 0) (nI v) (xI C1 705 (40 * pc P + k) 0) (nI (ga - 20))).bind (fun r => if r.1 = 0 ∨ r.1 = 1 then S r.2 r.1 else none) else (fX4_found C1 (pb P) (pb P) (nI sd) (nI nc) (xI C1 703 (40 * pc P + k) 0 - (16 : Int32)) (nI v)).bind (fun r => if r.1 = 0 then S r.2 0 else S r.2 1)) else (fX4_payOut C1 (pb P) (pb P) (40 * pc P + k)).bind (fun r => if r.1 = 0 ∨ r.1 = 1 then S r.2 r.1 else none)) = S C2 (nI r)) ∧ fX11_effect M1 (nI (pc P)) (nI (40 * pc P + k)) = some R ∧ xI C2 310 0 0 = nI g ∧ xI R 1155 0 0 = nI g ∧ xI R 1156 0 0 = nI r ∧ MS P 0 0 sz sz C2 R ∧ g ≤ sz ∧ sz ≤ ga - 20 := by
  obtain ⟨⟨hk, hsd, hnc, hv2, hga, hga2, hmo1, hmo, htp⟩, ⟨x1, y1⟩, ⟨x2, y2⟩, ⟨x4, y4⟩, ⟨x6, y6⟩, -, -, hkind⟩ := hx
  obtain ⟨z1, z2, z3, z4, z5, z6⟩ := h.1.ZP
  have fC : ∀ f i j, cmod (pb P) f i = false → xI C1 f i j = xI (pC P) f i j := fun f i j hm => h.1.FA f i j hm
  have fM : ∀ f j, mmod (pk P) f j = false → xI M1 f 0 j = xI (pM P) f 0 j := fun f j hm => h.1.FB f 0 j hm
  have kk80 : 40 * pc P + k < 80 := by omega
  have i1 : inB (nI (40 * pc P + k)) 80 := inB_nI kk80 (by decide)
  have k1 : (nI (40 * pc P + k)).toNatClampNeg = 40 * pc P + k := cl_nI (by omega)
  obtain ⟨M16, hM16⟩ : ∃ M16, M16 = uI M1 1155 0 0 (nI (ga - 20)) := ⟨_, rfl⟩
  have h16 : MS P 0 0 (ga - 19) (ga - 20) C1 M16 := by rw [hM16]; exact h.scr 1155 (Or.inl rfl) _
  have m2116 : xI M1 2116 0 (40 * pc P + k) = nI ga := by rw [fM _ _ (by simp [mmod]), y6]
  have e20 : nI ga - (20 : Int32) = nI (ga - 20) := by rw [show (20 : Int32) = nI 20 from rfl, nI_subI hga]
  have m1155 : xI M16 1155 0 0 = nI (ga - 20) := by rw [hM16, I_uI, if_pos ⟨rfl, rfl, rfl⟩]
  have n16 : ∀ f j, f ≠ 1155 → xI M16 f 0 j = xI M1 f 0 j := fun f j hf => by rw [hM16, I_ne hf]
  have m2111 : xI M1 2111 0 (40 * pc P + k) = nI sd := by rw [fM _ _ (by simp [mmod]), y1]
  have m2112 : xI M16 2112 0 (40 * pc P + k) = nI nc := by rw [n16 _ _ (by decide), fM _ _ (by simp [mmod]), y2]
  have m2114 : xI M16 2114 0 (40 * pc P + k) = nI v := by rw [n16 _ _ (by decide), fM _ _ (by simp [mmod]), y4]
  have hco16 : xI M16 2101 0 sd = nI co := by rw [n16 _ _ (by decide), hco]
  have hE : fX11_effect M1 (nI (pc P)) (nI (40 * pc P + k)) = (if xI M16 2113 0 (40 * pc P + k) = (24 : Int32) then (fX11_paysLock M16 (nI (pc P)) (nI (40 * pc P + k))).bind (fun r_43 => (if r_43.1 = 0 ∨ r_43.1 = 1 then (some (uI r_43.2 1156 0 0 r_43.1)) else none)) else (if xI M16 2113 0 (40 * pc P + k) ≤ (15 : Int32) then (fX11_mark M16 (0 : Int32)).bind (fun r_12 => (fX11_move r_12 (nI sd) (xI r_12 2113 0 (40 * pc P + k)) (xI r_12 2114 0 (40 * pc P + k))).bind (fun r_17 => (if inB ((32 : Int32) + (xI (uI r_17 1156 0 0 1) 2113 0 (40 * pc P + k))) 120 then (if (xI (uI r_17 1156 0 0 1) 2101 0 ((32 : Int32) + (xI (uI r_17 1156 0 0 1) 2113 0 (40 * pc P + k))).toNatClampNeg) = 0 then (some (uI r_17 1156 0 0 1)) else (fX11_begin (uI r_17 1156 0 0 1) (xI (uI r_17 1156 0 0 1) 2113 0 (40 * pc P + k)) (nI sd) (xI (uI r_17 1156 0 0 1) 2114 0 (40 * pc P + k)) (xI (uI r_17 1156 0 0 1) 2115 0 (40 * pc P + k)) (xI (uI r_17 1156 0 0 1) 1155 0 0)).bind (fun r_30 => fX11_machine r_30)) else none))) else (fX11_made M16 (nI sd) (nI nc) ((xI M16 2113 0 (40 * pc P + k)) - (16 : Int32)) (nI v)).bind (fun r_38 => (if (if r_38.1 < 0 then (0 : Int32) else (1 : Int32)) = 0 ∨ (if r_38.1 < 0 then (0 : Int32) else (1 : Int32)) = 1 then (some (uI r_38.2 1156 0 0 (if r_38.1 < 0 then (0 : Int32) else (1 : Int32)))) else none)))) := by
    unfold fX11_effect wl
    dsimp only
    rw [if_pos i1, if_pos i1, k1, m2116, e20, ← hM16]
    simp only [if_pos i1, m2111, m2112, m2114, bS]
  rcases hkind with ⟨c9, gt, ip, gt1, ip1, c3, m13, c5, m15⟩ | ⟨lk, lv, ii, b1, b2, b3, c9, m13, m15, c10, m14o, m15o, c11⟩
  · have c709 : xI C1 709 (40 * pc P + k) 0 = -1 := by rw [fC _ _ _ (by simp [cmod]), c9]
    have c703 : xI C1 703 (40 * pc P + k) 0 = nI gt := by rw [fC _ _ _ (by simp [cmod]), c3]
    have c705 : xI C1 705 (40 * pc P + k) 0 = nI ip := by rw [fC _ _ _ (by simp [cmod]), c5]
    have m2113 : xI M16 2113 0 (40 * pc P + k) = nI gt := by rw [n16 _ _ (by decide), fM _ _ (by simp [mmod]), m13]
    have m2115 : xI M16 2115 0 (40 * pc P + k) = nI ip := by rw [n16 _ _ (by decide), fM _ _ (by simp [mmod]), m15]
    rw [m2113, if_neg (show ¬ nI gt = (24 : Int32) from fun e => by have := (nI_eq (b := 24) (show gt < 2147483648 by omega) (by decide)).mp e; omega)] at hE
    by_cases hg16 : gt < 16
    · rw [if_pos (show nI gt ≤ (15 : Int32) from nI_le (b := 15) (by omega) (by decide))] at hE
      obtain ⟨C', R, r, g, sz, q1, q2, q3, q4, q5, q6, q7, q8, q9⟩ := h16.msg (show sd < 16 by omega) hg16 hco16 hco2 hv (show ip < 1000000 by omega) (by omega) (by omega) g310 m1155
      refine ⟨C', R, r, g, sz, q3, fun S => ?_, ?_, q4, q5, q6, q7, q8, q9⟩
      · rw [if_pos c709, c703, if_pos (show nI gt < (16 : Int32) from nI_lt (b := 16) hg16 (by decide)), c705, q1, Option.bind_some]
        dsimp only
        rw [if_pos]
        rcases (show r = 0 ∨ r = 1 by omega) with rfl | rfl
        · exact Or.inl rfl
        · exact Or.inr rfl
      · rw [hE, ← q2]
        unfold eMsg
        obtain ⟨M4, m1, m2, -⟩ := eMark (M := M16) (d := 0) (blk := pk P) (by omega) z2 (h16.1.ST.2.2.1)
        have m1' : fX11_mark M16 0 = some M4 := m1
        have g4 : ∀ f j, f ≠ 2102 → f ≠ 2151 → f ≠ 2152 → xI M4 f 0 j = xI M16 f 0 j := fun f j a1 a2 a3 => m2 _ _ _ (fun y => a1 y.1) (fun y => a2 y.1) (fun y => a3 y.1)
        rw [m1', Option.bind_some, Option.bind_some, g4 2113 _ (by decide) (by decide) (by decide), g4 2114 _ (by decide) (by decide) (by decide), m2113, m2114, eMove (by omega) (by omega), Option.bind_some, Option.bind_some]
        have g5 : ∀ a v1 a2 v2 f j, f ≠ 2101 → f ≠ 1156 → f ≠ 2102 → f ≠ 2151 → f ≠ 2152 → xI (uI (uI (uI M4 2101 0 a v1) 2101 0 a2 v2) 1156 0 0 1) f 0 j = xI M16 f 0 j := fun a v1 a2 v2 f j b1 b2 b3 b4 b5 => by rw [I_ne b2, I_ne b1, I_ne b1, g4 f j b3 b4 b5]
        have e32 : (32 : Int32) + nI gt = nI (32 + gt) := by rw [show (32 : Int32) = nI 32 from rfl, nI_add]
        rw [g5 _ _ _ _ 2113 _ (by decide) (by decide) (by decide) (by decide) (by decide), g5 _ _ _ _ 2114 _ (by decide) (by decide) (by decide) (by decide) (by decide), g5 _ _ _ _ 2115 _ (by decide) (by decide) (by decide) (by decide) (by decide), m2113, m2114, m2115, e32, if_pos (inB_nI (show 32 + gt < 120 by omega) (by decide)), cl_nI (show 32 + gt < 2147483648 by omega)]
    · rw [if_neg (show ¬ nI gt ≤ (15 : Int32) from nI_ge (a := 15) (by omega) (by omega))] at hE
      have e16 : nI gt - (16 : Int32) = nI (gt - 16) := by rw [show (16 : Int32) = nI 16 from rfl, nI_subI (by omega)]
      rw [e16] at hE
      have hsd16 : sd < 16 := by omega
      have h0' : xI M16 2101 0 (16 + sd) ≠ 0 := by rw [n16 _ _ (by decide)]; exact h0
      rcases h16.found (q' := ga - 20) hsd16 (n := nc) (p := gt - 16) (by omega) (by omega) hco16 (by omega) hv h0' (by omega) with ⟨r1, r2, -⟩ | ⟨t, C', N1, M', t0, t1, t2, -, -, t5, t6, -, -, t9, t10, t11⟩
      · refine ⟨C1, uI M16 1156 0 0 0, 0, ga - 20, ga - 20, by omega, fun S => ?_, ?_, g310, by rw [I_ne (by decide), m1155], by rw [I_uI, if_pos ⟨rfl, rfl, rfl⟩]; rfl, (h16.scr 1156 (Or.inr rfl) _).low (by omega), Nat.le_refl _, Nat.le_refl _⟩
        · rw [if_pos c709, c703, if_neg (show ¬ nI gt < (16 : Int32) from nI_nlt (b := 16) (by omega) (by omega)), e16, r1, Option.bind_some]
          exact if_pos rfl
        · rw [hE, r2, Option.bind_some]
          rfl
      · refine ⟨C', uI M' 1156 0 0 1, 1, ga - 20, ga - 20, by omega, fun S => ?_, ?_, by rw [t10 _ _ _ (by decide) (by decide) (by decide), g310], by rw [I_ne (by decide), t11 _ _ _ (by decide), m1155], by rw [I_uI, if_pos ⟨rfl, rfl, rfl⟩]; rfl, t9.scr 1156 (Or.inr rfl) _, Nat.le_refl _, Nat.le_refl _⟩
        · rw [if_pos c709, c703, if_neg (show ¬ nI gt < (16 : Int32) from nI_nlt (b := 16) (by omega) (by omega)), e16, t5, Option.bind_some]
          exact if_neg (nI_ne0 (by omega) (by omega))
        · rw [hE, t6, Option.bind_some]
          dsimp only
          rw [if_neg (nI_nlt0 (by omega)), if_pos (Or.inr rfl)]
  · have c709 : xI C1 709 (40 * pc P + k) 0 = nI lk := by rw [fC _ _ _ (by simp [cmod]), c9]
    have c710 : xI C1 710 (40 * pc P + k) 0 = nI lv := by rw [fC _ _ _ (by simp [cmod]), c10]
    have c711 : xI C1 711 (40 * pc P + k) 0 = nI (ii % 6) := by rw [fC _ _ _ (by simp [cmod]), c11]
    have m2113 : xI M16 2113 0 (40 * pc P + k) = nI 24 := by rw [n16 _ _ (by decide), fM _ _ (by simp [mmod]), m13]
    have m2115 : xI M16 2115 0 (40 * pc P + k) = nI lk := by rw [n16 _ _ (by decide), fM _ _ (by simp [mmod]), m15]
    have m2114o : xI M16 2114 0 (40 * (1 - pc P) + lk) = nI lv := by rw [n16 _ _ (by decide), fM _ _ (by simp [mmod]), m14o]
    have m2115o : xI M16 2115 0 (40 * (1 - pc P) + lk) = nI ii := by rw [n16 _ _ (by decide), fM _ _ (by simp [mmod]), m15o]
    rw [m2113, if_pos (show nI 24 = (24 : Int32) from rfl)] at hE
    obtain ⟨C', M', w, q1, q2, q3, q4, q5, q6⟩ := h16.pays z3 kk80 b1 b2 b3 rfl c709 c710 c711 m2115 m2114o m2115o
    have hw : nI w = 0 ∨ nI w = 1 := by
      rcases (show w = 0 ∨ w = 1 by omega) with rfl | rfl
      · exact Or.inl rfl
      · exact Or.inr rfl
    refine ⟨C', uI M' 1156 0 0 (nI w), w, ga - 20, ga - 20, q3, fun S => ?_, ?_, by rw [q5 _ _ _ (by decide), g310], by rw [I_ne (by decide), q6 _ _ _ (by decide), m1155], by rw [I_uI, if_pos ⟨rfl, rfl, rfl⟩], (q4.scr 1156 (Or.inr rfl) _).low (by omega), Nat.le_refl _, Nat.le_refl _⟩
    · rw [c709, if_neg (show ¬ nI lk = (-1 : Int32) from fun e => by
        have e1 : (nI lk).toInt = (-1 : Int32).toInt := by rw [e]
        rw [ti_nI (by omega)] at e1
        have e2 : (-1 : Int32).toInt = -1 := rfl
        omega), q1, Option.bind_some]
      exact if_pos hw
    · rw [hE, q2, Option.bind_some]
      exact if_pos hw
