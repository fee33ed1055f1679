theorem nI_inj600 {a b : Nat} (h : nI a = nI b) (ha : a < 2147483648) (hb : b < 2147483648) : a = b := (nI_eq ha hb).mp h
/-- CALL, on both machines -/
theorem MS.call {P : XP} {D q s m X : Nat} {C M : XO} (hD : 0 < D) (hrun : D < 4 → RUN P (D + 1)) (h : MS P D (D - 1) q s C M) (hq : s + 40 ≤ q) (hm : xI C 301 (D - 1) 0 = nI m) (hm1 : 3 ≤ m) (hm2 : m ≤ 16) (hX : xI C 310 (D - 1) 0 = nI X) (hX2 : X ≤ 600) : ∃ C' Mb M' K s2 g2, fX4_callFrom C (pb P) (pb P) (fX4_deliver (pb P) (pb P) (4 - D)) (nI D) (D - 1) = some C' ∧ fX11_calls M (nI (D - 1)) = some Mb ∧ (∀ n', fX11_machine_l0 (n' + K) Mb = fX11_machine_l0 n' M') ∧ MS P D (D - 1) s2 s2 C' M' ∧ xI C' 310 (D - 1) 0 = nI g2 ∧ g2 ≤ X ∧ s2 ≤ s ∧ K + s2 ≤ s + 1 ∧ fl (D - 1) C C' := by
  have hf : D - 1 < D := by omega
  obtain ⟨f4, fi, fc⟩ := fr5 h.1 hf
  obtain ⟨k, rfl⟩ : ∃ k, m = k + 1 + 1 + 1 := ⟨m - 3, by omega⟩
  obtain ⟨y, Ca, Ma, y1, y2, y3, y4, y5, y6, y7⟩ := h.pop' hf hm (by omega)
  obtain ⟨v, Cb, Mc, v1, v2, v3, v4, v5, v6, v7⟩ := y4.pop' hf y5 (by omega)
  obtain ⟨w, C3, M3, w1, w2, w3, w4, w5, w6, w7⟩ := v4.pop' hf v5 (by omega)
  have f2a : (fX3_take C (D - 1)).2 = Ca := by rw [y2]
  have f2b : (fX3_take Ca (D - 1)).2 = Cb := by rw [v2]
  have f2c : (fX3_take Cb (D - 1)).2 = C3 := by rw [w2]
  have hfl : fl (D - 1) C C3 := by
    have a1 : fl (D - 1) C Ca := by rw [← f2a]; exact fl_take
    have a2 : fl (D - 1) Ca Cb := by rw [← f2b]; exact fl_take
    have a3 : fl (D - 1) Cb C3 := by rw [← f2c]; exact fl_take
    exact (a1.trans a2).trans a3
  have c310 : xI C3 310 (D - 1) 0 = nI X := by rw [w6 _ _ _ (by decide), v6 _ _ _ (by decide), y6 _ _ _ (by decide), hX]
  obtain ⟨o, l, vv, mm, pp, t, g, ⟨b1, b2, b3, b4, b5, b6, b7⟩, ⟨o1, o2⟩, -⟩ := w4.1.fr hf
  obtain ⟨z1, z2, z3, z4, z5, z6⟩ := h.1.ZP
  obtain ⟨x, x1, x2⟩ := w4.2.get.1 o b1
  have x1' : xI M3 2101 0 o = nI x := x1
  have hrf := w4.1.RF
  have am : w % 16 < 16 := Nat.mod_lt _ (by decide)
  obtain ⟨ac, hac⟩ : ∃ ac, ac = w % 16 := ⟨_, rfl⟩
  have e0 : nI w - nI w / (16 : Int32) * (16 : Int32) = nI ac := by rw [hac, show (16 : Int32) = nI 16 from rfl, rem_nI (by omega) (by decide) (by decide)]
  rw [← hac] at am
  -- a refusal
  obtain ⟨Cz, Mz, p1, p2, p3, p4, p5, p6⟩ := w4.push' hf w5 (by omega) (v := 0) (by decide)
  have hz310 : xI Cz 310 (D - 1) 0 = nI X := by rw [p5 310 _ _ (by decide) (by decide), c310]
  have hzfl : fl (D - 1) C Cz := hfl.trans (by rw [← p1]; exact fl_push)
  have hMcalls : fX11_calls M (nI (D - 1)) = (if nI (D - 1) = (3 : Int32) then fX11_push M3 (nI (D - 1)) 0 else (if nI v ≤ nI x then (fX11_mark M3 (nI D)).bind (fun r_11 => (fX11_move r_11 (xI r_11 2140 0 (D - 1)) (nI ac) (nI v)).bind (fun r_14 => (if (xI r_14 2101 0 (32 + ac)) = 0 then fX11_push r_14 (nI (D - 1)) 1 else fX11_begin (uI r_14 2144 0 (D - 1) ((xI r_14 2144 0 (D - 1)) - ((xI r_14 2144 0 (D - 1)) - ((xI r_14 2144 0 (D - 1)) / (4 : Int32))))) (nI ac) (xI (uI r_14 2144 0 (D - 1) ((xI r_14 2144 0 (D - 1)) - ((xI r_14 2144 0 (D - 1)) - ((xI r_14 2144 0 (D - 1)) / (4 : Int32))))) 2140 0 (D - 1)) (nI v) (nI y) ((xI r_14 2144 0 (D - 1)) - ((xI r_14 2144 0 (D - 1)) / (4 : Int32)))))) else fX11_push M3 (nI (D - 1)) 0)) := by
    unfold fX11_calls wl
    rw [y3, Option.bind_some]
    dsimp only
    rw [v3, Option.bind_some]
    dsimp only
    rw [w3, Option.bind_some]
    dsimp only
    have eD : nI (D - 1) + 1 = nI D := by rw [nI_1]; congr 1; omega
    have i32 : (32 : Int32) + nI ac = nI (32 + ac) := by rw [show (32 : Int32) = nI 32 from rfl, nI_add]
    simp only [if_pos fi, fc, o2, if_pos (inB_nI (show o < 120 by omega) (show 120 < 2147483648 by decide)), cl_nI (show o < 2147483648 by omega), x1', eD, e0, i32, if_pos (inB_nI (show 32 + ac < 120 by omega) (show 120 < 2147483648 by decide)), cl_nI (show 32 + ac < 2147483648 by omega), bS]
  by_cases hD4 : D = 4
  · refine ⟨Cz, Mz, Mz, 0, s, X, ?_, ?_, fun n' => rfl, p3.low (by omega), hz310, Nat.le_refl _, Nat.le_refl _, by omega, hzfl⟩
    · unfold fX4_callFrom wl
      dsimp only
      rw [f2a, f2b, f2c]
      rw [if_neg (show ¬ nI D < (1 : Int32) from nI_nlt (b := 1) (by omega) (by omega)), if_pos (show (4 : Int32) ≤ nI D from nI_le (a := 4) (by omega) (by omega)), show (0 : Int32) = nI 0 from rfl, p1]
    · rw [hMcalls, if_pos (by rw [hD4]; rfl), show (0 : Int32) = nI 0 from rfl, p2]
  have hD3 : D < 4 := by
    have := h.1.ST.2.2.2.2
    omega
  have hn3 : ¬ nI (D - 1) = (3 : Int32) := fun e => by
    have := (nI_eq (b := 3) (show D - 1 < 2147483648 by omega) (by decide)).mp e
    omega
  rw [if_neg hn3] at hMcalls
  have s1 : sAt C3 2011 (pb P) (nI o) = nI x := by rw [sAt_nI (show o < alen 2011 from b1) (by decide), w4.1.eI b1, x1']
  have hCcall : fX4_callFrom C (pb P) (pb P) (fX4_deliver (pb P) (pb P) (4 - D)) (nI D) (D - 1) = (if nI v ≤ nI x then (fX4_deliver (pb P) (pb P) (4 - D) C3 (nI (D + 1)) (nI o) (nI ac) (nI v) (nI y) (nI X - (nI X / (4 : Int32)))).bind (fun r_11 => if r_11.1 = 0 then some (fX3_push (uI r_11.2 310 (D - 1) 0 ((xI r_11.2 310 (D - 1) 0) + ((xI r_11.2 310 D 0) - (nI X - (nI X / (4 : Int32)))))) (D - 1) 0) else some (fX3_push (uI r_11.2 310 (D - 1) 0 ((xI r_11.2 310 (D - 1) 0) + ((xI r_11.2 310 D 0) - (nI X - (nI X / (4 : Int32)))))) (D - 1) 1)) else some (fX3_push C3 (D - 1) 0)) := by
    unfold fX4_callFrom wl
    dsimp only
    rw [f2a, f2b, f2c]
    rw [if_neg (show ¬ nI D < (1 : Int32) from nI_nlt (b := 1) (by omega) (by omega)), if_neg (show ¬ (4 : Int32) ≤ nI D from nI_ge (b := 4) hD3 (by decide)), if_pos hrf.2, y2, v2, w2]
    dsimp only
    rw [o1, s1, e0, c310, nI_1]
    simp only [if_pos (inB_nI hD3 (show 4 < 2147483648 by decide)), cl_nI (show D < 2147483648 by omega)]
  by_cases hv : x < v
  · refine ⟨Cz, Mz, Mz, 0, s, X, ?_, ?_, fun n' => rfl, p3.low (by omega), hz310, Nat.le_refl _, Nat.le_refl _, by omega, hzfl⟩
    · rw [hCcall, if_neg (nI_ge hv (by omega)), show (0 : Int32) = nI 0 from rfl, p1]
    · rw [hMcalls, if_neg (nI_ge hv (by omega)), show (0 : Int32) = nI 0 from rfl, p2]
  rw [if_pos (nI_le (by omega) (by omega))] at hCcall hMcalls
  have eX4 : nI X / (4 : Int32) = nI (X / 4) := by rw [show (4 : Int32) = nI 4 from rfl, div_nI (by omega) (by decide) (by decide)]
  have egv : nI X - (nI X / (4 : Int32)) = nI (X - X / 4) := by rw [eX4, nI_subI (by omega)]
  -- both move the value
  obtain ⟨C1, M1, q1, q2, q3, q4, q5, q6, q7⟩ := w4.move b1 am x1' (by omega) (show v ≤ x by omega)
  have e4D : 4 - D = (3 - D) + 1 := by omega
  have e3D : 4 - (D + 1) = 3 - D := by omega
  obtain ⟨C4, hC4⟩ : ∃ C4, C4 = uI C3 310 D 0 (nI (X - X / 4)) := ⟨_, rfl⟩
  have k4 : ∀ k i j, ¬ (k = 310 ∧ i = D ∧ j = 0) → xI C4 k i j = xI C3 k i j := fun k i j hk => by rw [hC4, I_uI, if_neg hk]
  have k4s : ∀ k i j, k ≠ 310 → xI C4 k i j = xI C3 k i j := fun k i j hk => k4 k i j (fun y => hk y.1)
  obtain ⟨cd, cd1, cd2, -⟩ := w4.2.get.2.2.1 ac am
  have cd1' : xI M3 2101 0 (32 + ac) = nI cd := cd1
  have scode : sAt C4 2013 (pb P) (nI ac) = nI cd := by rw [sAt_nI (show ac < alen 2013 from am) (by decide), k4s _ _ _ (by decide), w4.1.eIII am, cd1']
  have hbD : nI (D + 1) - (1 : Int32) = nI D := nI_pred D
  -- the reference's marks
  have hk1 : xI M3 1158 0 0 = nI (pk P) := w4.1.ST.2.2.1
  obtain ⟨M4, m1, m2, m3, m4, m5, m6⟩ := eMark (d := D) (by omega) z2 hk1
  have m2101 : ∀ j, xI M4 2101 0 j = xI M3 2101 0 j := fun j => m2 _ _ _ (fun y => absurd y.1 (by decide)) (fun y => absurd y.1 (by decide)) (fun y => absurd y.1 (by decide))
  have m2140 : xI M4 2140 0 (D - 1) = nI o := by rw [m2 _ _ _ (fun y => absurd y.1 (by decide)) (fun y => absurd y.1 (by decide)) (fun y => absurd y.1 (by decide)), o2]
  have hmv3 := eMove (M := M3) (a := o) (c := ac) (by omega) (by omega) (nI v)
  have hmv4 := eMove (M := M4) (a := o) (c := ac) (by omega) (by omega) (nI v)
  rw [q2] at hmv3
  have hM1 := Option.some.inj hmv3
  obtain ⟨M5, hM5⟩ : ∃ M5, M5 = uI (uI M4 2101 0 o (xI M4 2101 0 o - nI v)) 2101 0 ac (xI (uI M4 2101 0 o (xI M4 2101 0 o - nI v)) 2101 0 ac + nI v) := ⟨_, rfl⟩
  rw [← hM5] at hmv4
  have a5 : ∀ k i j, ¬ (k = 2102 ∧ i = 0 ∧ 120 * D ≤ j ∧ j < 120 * D + 120) → ¬ (k = 2151 ∧ i = 0 ∧ j = D) → ¬ (k = 2152 ∧ i = 0 ∧ j = D) → xI M5 k i j = xI M1 k i j := fun k i j h1 h2 h3 => by
    by_cases zk : k = 2101
    · subst zk
      rw [hM5, hM1, I_uI, I_uI, I_uI, I_uI, I_uI, I_uI, m2101 o, m2101 ac, m2 _ i j h1 h2 h3]
    · rw [hM5, I_ne zk, I_ne zk, m2 k i j h1 h2 h3, q6 k i j zk]
  have b5x : ∀ x, x < 120 → xI M5 2102 0 (120 * D + x) = xI M3 2101 0 x := fun x hx => by rw [hM5, I_ne (by decide), I_ne (by decide), m3 x hx]
  have b51 : xI M5 2151 0 D = xI M3 1154 0 0 := by rw [hM5, I_ne (by decide), I_ne (by decide), m4]
  have b52 : xI M5 2152 0 D = xI M3 2130 0 (pk P) := by rw [hM5, I_ne (by decide), I_ne (by decide), m5]
  have b5L : ∀ k i j, xL M5 k i j = xL M1 k i j := fun k i j => by rw [hM5, hM1, L_uI, L_uI, L_uI, L_uI, m6]
  have a5old : ∀ k i j, mOld D k j → xI M5 k i j = xI M1 k i j := fun k i j hm => a5 k i j (fun y => hm.2.1 y.1 y.2.2) (fun y => hm.1 (by rw [y.1]; decide +kernel) y.2.2) (fun y => hm.1 (by rw [y.1]; decide +kernel) y.2.2)
  have a5s : ∀ k i j, k ≠ 2102 → k ≠ 2151 → k ≠ 2152 → xI M5 k i j = xI M1 k i j := fun k i j h1 h2 h3 => a5 k i j (fun y => h1 y.1) (fun y => h2 y.1) (fun y => h3 y.1)
  have c5code : xI M5 2101 0 (32 + ac) = nI cd := by rw [a5s _ _ _ (by decide) (by decide) (by decide), q7 _ (by omega), cd1']
  have m144 : xI M5 2144 0 (D - 1) = nI X := by
    rw [a5s _ _ _ (by decide) (by decide) (by decide), q3.1.GA (D - 1) hf, if_pos rfl, q4 _ _ _ (by decide), c310]
  rw [m1, Option.bind_some, m2140, hmv4, Option.bind_some, c5code, m144] at hMcalls
  have w310C3 : xI C3 310 (D - 1) 0 = nI X := c310
  by_cases hcd : cd = 0
  · -- nothing runs there
    subst hcd
    rw [if_pos (show nI 0 = 0 from rfl)] at hMcalls
    obtain ⟨C6, hC6⟩ : ∃ C6, C6 = fX6_move C4 (pb P) (nI o) (nI ac) (nI v) := ⟨_, rfl⟩
    have hdel : fX4_deliver (pb P) (pb P) (4 - D) C3 (nI (D + 1)) (nI o) (nI ac) (nI v) (nI y) (nI X - (nI X / (4 : Int32))) = some (1, C6) := by
      rw [e4D, fX4_deliver]
      unfold fX4_deliver_s wl
      dsimp only
      rw [if_neg (show ¬ nI (D + 1) < (1 : Int32) from nI_nlt (b := 1) (by omega) (by omega)), if_pos (show nI (D + 1) ≤ (4 : Int32) from nI_le (b := 4) (by omega) (by decide)), hbD, if_pos (inB_nI (by omega) (by decide)), cl_nI (show D < 2147483648 by omega), egv, ← hC4, if_pos (show xR C4 404 0 = pb P by rw [hC4]; exact hrf.2), scode, if_pos (show nI 0 = 0 from rfl), if_pos (show xR C4 404 0 = pb P by rw [hC4]; exact hrf.2), ← hC6]
    have k6 : ∀ k i j, ¬ (k = 310 ∧ i = D ∧ j = 0) → xI C6 k i j = xI C1 k i j := fun k i j hk => by
      by_cases zk : k = 2011
      · subst zk
        rw [hC6, ← q1]
        unfold fX6_move
        rw [if_neg (nI_nlt0 (by omega)), if_neg (show ¬ nI (alen 2011) ≤ nI o from nI_ge (b := 16) b1 (by decide)), if_neg (nI_nlt0 (by omega)), if_neg (show ¬ nI (alen 2011) ≤ nI ac from nI_ge (b := 16) am (by decide)), if_neg (nI_nlt0 (by omega)), if_neg (show ¬ nI (alen 2011) ≤ nI o from nI_ge (b := 16) b1 (by decide)), if_neg (nI_nlt0 (by omega)), if_neg (show ¬ nI (alen 2011) ≤ nI ac from nI_ge (b := 16) am (by decide)), cl_nI (show o < 2147483648 by omega), cl_nI (show ac < 2147483648 by omega), I_uI, I_uI, I_uI, I_uI, I_uI, I_uI, k4s 2011 _ _ (by decide), k4s 2011 _ _ (by decide), k4s 2011 _ _ (by decide)]
      · have : xI C6 k i j = xI C4 k i j := by
          rw [hC6]
          unfold fX6_move
          rw [if_neg (nI_nlt0 (by omega)), if_neg (show ¬ nI (alen 2011) ≤ nI o from nI_ge (b := 16) b1 (by decide)), if_neg (nI_nlt0 (by omega)), if_neg (show ¬ nI (alen 2011) ≤ nI ac from nI_ge (b := 16) am (by decide)), I_ne zk, I_ne zk]
        rw [this, k4 k i j hk, q4 k i j zk]
    have l6 : ∀ k i j, xL C6 k i j = xL C1 k i j := fun k i j => by
      have : xL C6 k i j = xL C4 k i j := by
        rw [hC6]
        unfold fX6_move
        rw [if_neg (nI_nlt0 (by omega)), if_neg (show ¬ nI (alen 2011) ≤ nI o from nI_ge (b := 16) b1 (by decide)), if_neg (nI_nlt0 (by omega)), if_neg (show ¬ nI (alen 2011) ≤ nI ac from nI_ge (b := 16) am (by decide)), L_uI, L_uI]
      rw [this, hC4, L_uI, q5]
    have r6 : ∀ k i, xR C6 k i = xR C1 k i := fun k i => by
      have e1 : xR C6 k i = xR C4 k i := by
        rw [hC6]
        unfold fX6_move
        rw [if_neg (nI_nlt0 (by omega)), if_neg (show ¬ nI (alen 2011) ≤ nI o from nI_ge (b := 16) b1 (by decide)), if_neg (nI_nlt0 (by omega)), if_neg (show ¬ nI (alen 2011) ≤ nI ac from nI_ge (b := 16) am (by decide)), R_uI, R_uI]
      have e2 : xR C1 k i = xR C3 k i := by
        rw [← q1]
        unfold fX6_move
        rw [if_neg (nI_nlt0 (by omega)), if_neg (show ¬ nI (alen 2011) ≤ nI o from nI_ge (b := 16) b1 (by decide)), if_neg (nI_nlt0 (by omega)), if_neg (show ¬ nI (alen 2011) ≤ nI ac from nI_ge (b := 16) am (by decide)), R_uI, R_uI]
      rw [e1, e2, hC4, R_uI]
    have h5 : MS P D (D - 1) q s C6 M5 := q3.junk (fun k i j a1 _ => k6 k i j (fun y => by have := a1 y.2.1; rw [y.1] at this; exact absurd this (by decide +kernel))) (fun k i j _ => l6 k i j) r6 a5old (a5s _ _ _ (by decide) (by decide) (by decide)) (fun j _ => a5s _ _ _ (by decide) (by decide) (by decide)) b5L
    have n6 : xI C6 301 (D - 1) 0 = nI k := by rw [k6 _ _ _ (fun y => absurd y.1 (by decide)), q4 _ _ _ (by decide), w5]
    obtain ⟨C7, M7, g1, g2, g3, g4, g5, g6⟩ := h5.push' hf n6 (by omega) (v := 1) (by decide)
    have g310 : xI C6 310 (D - 1) 0 = nI X := by rw [k6 _ _ _ (fun y => by have := y.2.1; omega), q4 _ _ _ (by decide), c310]
    have g31D : xI C6 310 D 0 = nI (X - X / 4) := by
      have : xI C6 310 D 0 = xI C4 310 D 0 := by
        rw [hC6]
        unfold fX6_move
        rw [if_neg (nI_nlt0 (by omega)), if_neg (show ¬ nI (alen 2011) ≤ nI o from nI_ge (b := 16) b1 (by decide)), if_neg (nI_nlt0 (by omega)), if_neg (show ¬ nI (alen 2011) ≤ nI ac from nI_ge (b := 16) am (by decide)), I_ne (by decide), I_ne (by decide)]
      rw [this, hC4, I_uI, if_pos ⟨rfl, rfl, rfl⟩]
    refine ⟨C7, M7, M7, 0, s, X, ?_, ?_, fun n' => rfl, g3.low (by omega), by rw [g5 310 _ _ (by decide) (by decide), g310], Nat.le_refl _, Nat.le_refl _, by omega, ?_⟩
    · rw [hCcall, hdel, Option.bind_some]
      dsimp only
      rw [if_neg one_n0, g310, g31D, egv]
      have e9 : nI X + (nI (X - X / 4) - nI (X - X / 4)) = nI X := by rw [Int32.sub_self, Int32.add_zero]
      rw [e9, uI_same g310, show (1 : Int32) = nI 1 from rfl, g1]
    · rw [hMcalls, show (1 : Int32) = nI 1 from rfl, g2]
    · refine hfl.trans (fun k i j hk hi => ?_)
      have a1 : xI C7 k i j = xI C6 k i j := by rw [← g1]; exact fl_push (f := D - 1) k i j hk hi
      have a2 : k ≠ 2011 := fun y => by rw [y] at hk; exact absurd hk (by decide +kernel)
      rw [a1, k6 k i j (fun y => by have := y.2.1; omega), q4 k i j a2]
  · -- a program runs
    obtain ⟨p, rfl⟩ : ∃ p, cd = p + 1 := ⟨cd - 1, by omega⟩
    rw [if_neg (nI_ne0 (by omega) (by omega))] at hMcalls
    have e6 : nI X - nI (X - X / 4) = nI (X / 4) := by rw [nI_subI (by omega)]; congr 1; omega
    have w2140 : ∀ u, xI (uI M5 2144 0 (D - 1) u) 2140 0 (D - 1) = nI o := fun u => by rw [I_ne (by decide), a5s _ _ _ (by decide) (by decide) (by decide), q6 _ _ _ (by decide), o2]
    rw [egv, e6, w2140] at hMcalls
    have w1153 : xI (uI M5 2144 0 (D - 1) (nI (X / 4))) 1153 0 0 = nI D := by rw [I_ne (by decide), a5s _ _ _ (by decide) (by decide) (by decide)]; exact q3.1.ST.1
    have wcode : xI (uI M5 2144 0 (D - 1) (nI (X / 4))) 2101 0 (32 + ac) = nI (p + 1) := by rw [I_ne (by decide), c5code]
    obtain ⟨M6, n1, n2, n3, n4, n5, n6, n7, n8, n9, n10, n11, n12, n13, n14, n15⟩ := eBegin (d := D) (l := nI o) (v := nI v) (n := nI y) (g := nI (X - X / 4)) (by omega) w1153 am wcode
    rw [n1] at hMcalls
    -- the class opens and saves
    obtain ⟨S, s1', s2, s3, s4, s5, s6, s7, s8, s9, s10, s11, s12, s13, s14, s15, s16, s17⟩ := cOpen (C := C4) (d := D) (b := pb P) (p := nI p) (l := nI o) (o := nI ac) (v := nI v) (n := nI y)
    obtain ⟨C6, hC6⟩ : ∃ C6, C6 = fX6_move S (pb P) (nI o) (nI ac) (nI v) := ⟨_, rfl⟩
    have S2011 : ∀ i, xI S 2011 (pb P) i = xI C3 2011 (pb P) i := fun i => by
      rw [s2 2011 (pb P) i (fun _ => by decide +kernel) (fun y => by omega), k4s _ _ _ (by decide)]
    have mv6 : ∀ k i j, xI C6 k i j = xI (uI (uI S 2011 (pb P) o (nI (x - v))) 2011 (pb P) ac (xI (uI C3 2011 (pb P) o (nI (x - v))) 2011 (pb P) ac + nI v)) k i j := fun k i j => by
      rw [hC6]
      unfold fX6_move
      rw [if_neg (nI_nlt0 (by omega)), if_neg (show ¬ nI (alen 2011) ≤ nI o from nI_ge (b := 16) b1 (by decide)), if_neg (nI_nlt0 (by omega)), if_neg (show ¬ nI (alen 2011) ≤ nI ac from nI_ge (b := 16) am (by decide)), cl_nI (show o < 2147483648 by omega), cl_nI (show ac < 2147483648 by omega), S2011, w4.1.eI b1, x1', nI_subI (by omega)]
      have : xI (uI S 2011 (pb P) o (nI (x - v))) 2011 (pb P) ac = xI (uI C3 2011 (pb P) o (nI (x - v))) 2011 (pb P) ac := by rw [I_uI, I_uI, S2011]
      rw [this]
    have mv1 : ∀ k i j, xI C1 k i j = xI (uI (uI C3 2011 (pb P) o (nI (x - v))) 2011 (pb P) ac (xI (uI C3 2011 (pb P) o (nI (x - v))) 2011 (pb P) ac + nI v)) k i j := fun k i j => by
      rw [← q1]
      unfold fX6_move
      rw [if_neg (nI_nlt0 (by omega)), if_neg (show ¬ nI (alen 2011) ≤ nI o from nI_ge (b := 16) b1 (by decide)), if_neg (nI_nlt0 (by omega)), if_neg (show ¬ nI (alen 2011) ≤ nI ac from nI_ge (b := 16) am (by decide)), cl_nI (show o < 2147483648 by omega), cl_nI (show ac < 2147483648 by omega), w4.1.eI b1, x1', nI_subI (by omega)]
    have c6S : ∀ k i j, (k ≠ 2011 ∨ i ≠ pb P) → xI C6 k i j = xI S k i j := fun k i j hk => by
      rw [mv6, I_uI, if_neg (fun y => by rcases hk with hk | hk; exact hk y.1; exact hk y.2.1), I_uI, if_neg (fun y => by rcases hk with hk | hk; exact hk y.1; exact hk y.2.1)]
    have l6 : ∀ k i j, xL C6 k i j = xL S k i j := fun k i j => by
      rw [hC6]
      unfold fX6_move
      rw [if_neg (nI_nlt0 (by omega)), if_neg (show ¬ nI (alen 2011) ≤ nI o from nI_ge (b := 16) b1 (by decide)), if_neg (nI_nlt0 (by omega)), if_neg (show ¬ nI (alen 2011) ≤ nI ac from nI_ge (b := 16) am (by decide)), L_uI, L_uI]
    have r6 : ∀ k i, xR C6 k i = xR S k i := fun k i => by
      rw [hC6]
      unfold fX6_move
      rw [if_neg (nI_nlt0 (by omega)), if_neg (show ¬ nI (alen 2011) ≤ nI o from nI_ge (b := 16) b1 (by decide)), if_neg (nI_nlt0 (by omega)), if_neg (show ¬ nI (alen 2011) ≤ nI ac from nI_ge (b := 16) am (by decide)), R_uI, R_uI]
    have rC1 : ∀ k i, xR C1 k i = xR C3 k i := fun k i => by
      rw [← q1]
      unfold fX6_move
      rw [if_neg (nI_nlt0 (by omega)), if_neg (show ¬ nI (alen 2011) ≤ nI o from nI_ge (b := 16) b1 (by decide)), if_neg (nI_nlt0 (by omega)), if_neg (show ¬ nI (alen 2011) ≤ nI ac from nI_ge (b := 16) am (by decide)), R_uI, R_uI]
    have r4 : ∀ k i, xR C4 k i = xR C3 k i := fun k i => by rw [hC4, R_uI]
    have hcc : ∀ k i j, (i = D → kfC.contains k = false) → (i = 49 + D → ksC.contains k = false) → xI C6 k i j = xI C1 k i j := fun k i j a1 a2 => by
      have hS : xI S k i j = xI C3 k i j := by
        rw [s2 k i j a1 (fun y => by
          have := a2 y.1
          have y2 := y.2
          unfold stk at y2
          rcases y2 with ⟨z | z | z, -⟩ | ⟨z, -⟩ | ⟨z, -⟩ <;> rw [z] at this <;> exact absurd this (by decide +kernel)), k4 k i j (fun y => by have := a1 y.2.1; rw [y.1] at this; exact absurd this (by decide +kernel))]
      rw [mv6, mv1, I_uI, I_uI, I_uI, I_uI, I_uI, hS]
    have hcs : ∀ k j, stk k j → xI C6 k (49 + D) j = xI C3 k (pb P) j := fun k j hs => by
      have hs' := hs
      unfold stk at hs'
      rw [c6S k _ j (Or.inr (by omega)), s3 k j hs (by omega), k4s _ _ _ (by omega)]
    have hcl : ∀ k i j, ¬ (k = 605 ∧ i = 49 + D ∧ j = 0) → xL C6 k i j = xL C1 k i j := fun k i j hk => by rw [l6, s4, if_neg hk, hC4, L_uI, q5]
    have hcl2 : xL C6 605 (49 + D) 0 = xL C3 605 (pb P) 0 := by rw [l6, s4, if_pos ⟨rfl, rfl, rfl⟩, hC4, L_uI]
    have hcr : ∀ k i, xR C6 k i = xR C1 k i := fun k i => by rw [r6, s5, r4, rC1]
    have hGA : sGA P (D + 1) D C6 M6 := by
      intro i hi
      rw [n4, c6S 310 _ _ (Or.inl (by decide))]
      by_cases zi : i = D
      · rw [if_pos zi, if_pos zi, zi, s16, hC4, I_uI, if_pos ⟨rfl, rfl, rfl⟩]
      · rw [if_neg zi, if_neg zi, s2 310 i 0 (fun y => absurd y zi) (fun y => by have := y.2; unfold stk at this; omega), k4 _ _ _ (fun y => zi y.2.1)]
        by_cases zf : i = D - 1
        · rw [zf, I_uI, if_pos ⟨rfl, rfl, rfl⟩, c310, egv, e6]
        · rw [I_uI, if_neg (fun y => zf y.2.2), a5s _ _ _ (by decide) (by decide) (by decide), q3.1.GA i (by omega), if_neg zf, q4 _ _ _ (by decide)]
    have hGS : sGS P (D + 1) s C6 M6 := by
      obtain ⟨u, u1, u2, u3⟩ := q3.1.GS
      have hu : u (D - 1) = X := by
        have e := u1 (D - 1) hf
        rw [q3.1.GA (D - 1) hf, if_pos rfl, q4 _ _ _ (by decide), c310] at e
        have hl : u (D - 1) ≤ sumN u D := sumN_mem hf
        exact ((nI_eq (by omega) (by omega)).mp e).symm
      have hs1 := sumN_upd (f := u) (k := D - 1) (v := X / 4) D hf
      refine ⟨fun i => if i = D then X - X / 4 else if i = D - 1 then X / 4 else u i, fun i hi => ?_, ?_, u3⟩
      · dsimp only
        rw [n4]
        by_cases zi : i = D
        · rw [if_pos zi, if_pos zi]
        · rw [if_neg zi, if_neg zi]
          by_cases zf : i = D - 1
          · rw [zf, I_uI, if_pos ⟨rfl, rfl, rfl⟩, if_pos rfl]
          · rw [if_neg zf, I_uI, if_neg (fun y => zf y.2.2), a5s _ _ _ (by decide) (by decide) (by decide), u1 i (by omega)]
      · show sumN (fun i => if i = D then X - X / 4 else if i = D - 1 then X / 4 else u i) D + (if D = D then X - X / 4 else _) ≤ s
        rw [if_pos rfl, sumN_cg (g := fun i => if i = D - 1 then X / 4 else u i) D (fun i hi => if_neg (by omega))]
        rw [hu] at hs1
        omega
    have hms : ∀ j, j < 120 → xI M6 2102 0 (120 * D + j) = xI M3 2101 0 j := fun j hj => by rw [n3 _ _ _ (Or.inl rfl), I_ne (by decide), b5x j hj]
    have hmold : ∀ k i j, mOld D k j → xI M6 k i j = xI M1 k i j := fun k i j hm => by rw [n2 k i j hm, I_ne hm.2.2.2.2, a5old k i j hm]
    have hent : MS P (D + 1) D q s C6 M6 := MS.enter w4 q3 hD3 q4 q5 q6 hcc hcs hcl hcl2 hcr hmold hms (fun k i j => by rw [n15, L_uI, b5L]) am b1 (by omega) (by omega) (show p < 8 by omega) (by rw [q7 _ (by omega), cd1'])
      (by rw [c6S _ _ _ (Or.inl (by decide)), s8]) (by rw [c6S _ _ _ (Or.inl (by decide)), s7]) (by rw [c6S _ _ _ (Or.inl (by decide)), s9]) (by rw [c6S _ _ _ (Or.inl (by decide)), s10]) (by rw [c6S _ _ _ (Or.inl (by decide)), s6]) (by rw [c6S _ _ _ (Or.inl (by decide)), s11]) (by rw [c6S _ _ _ (Or.inl (by decide)), s12]) (by rw [c6S _ _ _ (Or.inl (by decide)), s13]) (by rw [c6S _ _ _ (Or.inl (by decide)), s14, k4s _ _ _ (by decide)]) (by rw [c6S _ _ _ (Or.inl (by decide)), s15, k4s _ _ _ (by decide)]) (fun j hj => by rw [c6S _ _ _ (Or.inl (by decide)), s17 j hj])
      n6 n7 n8 n9 n10 n11 n12 n13 (by rw [n3 _ _ _ (Or.inr (Or.inr rfl)), I_ne (by decide), b52]) (by rw [n3 _ _ _ (Or.inr (Or.inl rfl)), I_ne (by decide), b51]) n14 n5 hGA hGS
    have g6 : xI C6 310 D 0 = nI (X - X / 4) := by rw [c6S _ _ _ (Or.inl (by decide)), s16, hC4, I_uI, if_pos ⟨rfl, rfl, rfl⟩]
    obtain ⟨r, g', K, sz, C', C'', Mq, t1, t2, t3, t4, t5, t6, t7, t8, t9, t10, t11, t12⟩ := hrun hD3 1000001 0 q s (X - X / 4) C6 M6 hent (by omega) g6 (by omega) (by omega)
    have eD1 : D + 1 - 1 = D := by omega
    rw [eD1] at t1 t3 t6 t9 t10
    have hdel : fX4_deliver (pb P) (pb P) (4 - D) C3 (nI (D + 1)) (nI o) (nI ac) (nI v) (nI y) (nI X - (nI X / (4 : Int32))) = some (nI r, C'') := by
      rw [e4D, fX4_deliver]
      unfold fX4_deliver_s wl
      dsimp only
      have hr4 : xR C4 404 0 = pb P := by rw [hC4]; exact hrf.2
      have hr43 : xR C4 403 0 = pb P := by rw [hC4]; exact hrf.1
      have hrO : ∀ k i, xR (fX3_open C4 D (nI (p + 1) - 1) (nI o) (nI ac) (nI v) (nI y)) k i = xR C4 k i := fun k i => by
        unfold fX3_open
        obtain ⟨Z, a1, a2, a3, a4, a5'⟩ := cZero_l (f := D) (nI (p + 1) - 1) (nI o) (nI ac) (nI v) (nI y) 17 0 (uI (uI (uI (uI (uI (uI (uI (uI C4 308 D 0 (nI (p + 1) - 1)) 305 D 0 (nI o)) 304 D 0 (nI ac)) 306 D 0 (nI v)) 307 D 0 (nI y)) 309 D 0 (0 : Int32)) 301 D 0 (0 : Int32)) 303 D 0 (-1 : Int32)) (by omega) (by omega)
        have a1' : fX3_open_l D (nI (p + 1) - 1) (nI o) (nI ac) (nI v) (nI y) ((16 : Int32).toNatClampNeg + 1) 0 (uI (uI (uI (uI (uI (uI (uI (uI C4 308 D 0 (nI (p + 1) - 1)) 305 D 0 (nI o)) 304 D 0 (nI ac)) 306 D 0 (nI v)) 307 D 0 (nI y)) 309 D 0 (0 : Int32)) 301 D 0 (0 : Int32)) 303 D 0 (-1 : Int32)) = Z := a1
        rw [a1', a5']
        rfl
      rw [if_neg (show ¬ nI (D + 1) < (1 : Int32) from nI_nlt (b := 1) (by omega) (by omega)), if_pos (show nI (D + 1) ≤ (4 : Int32) from nI_le (b := 4) (by omega) (by decide)), hbD, if_pos (inB_nI (by omega) (by decide)), cl_nI (show D < 2147483648 by omega), egv, ← hC4, if_pos hr4, scode, if_neg (nI_ne0 (by omega) (by omega)), if_pos ((hrO _ _).trans hr4), if_pos ((hrO _ _).trans hr43), nI_pred, s1', if_pos (show xR S 404 0 = pb P by rw [s5]; exact hr4), ← hC6]
      unfold fX4_runProgram
      rw [← e3D, show (0 : Int32) = nI 0 from rfl, t1]
      rcases (show r = 0 ∨ r = 1 by omega) with rfl | rfl
      · have t3' := t3 rfl
        dsimp only [Option.bind_some, Sum.elim]
        rw [if_pos (show nI 0 = nI 0 from rfl), t3', Option.bind_some, if_pos (Or.inl rfl)]
      · have t4' := t4 rfl
        dsimp only [Option.bind_some, Sum.elim]
        rw [if_neg (show ¬ nI 1 = nI 0 by decide), if_pos (Or.inr (show nI 1 = 1 from rfl)), t4']
    have fl6 : ∀ k j, kfC.contains k = true → xI C'' k (D - 1) j = xI C6 k (D - 1) j := fun k j hk => t10 k (D - 1) j hk (by omega)
    have c63 : ∀ k j, kfC.contains k = true → k ≠ 2011 → ¬ stk k j → xI C6 k (D - 1) j = xI C3 k (D - 1) j := fun k j hk hk2 hs => by
      rw [c6S _ _ _ (Or.inl hk2), s2 k _ j (fun y => absurd y (by omega)) (fun y => hs y.2), k4 _ _ _ (fun y => by have := y.2.1; omega)]
    have h310 : xI C'' 310 (D - 1) 0 = nI X := by rw [fl6 _ _ (by decide +kernel), c63 _ _ (by decide +kernel) (by decide) (by unfold stk; omega), c310]
    have h301 : xI C'' 301 (D - 1) 0 = nI k := by rw [fl6 _ _ (by decide +kernel), c63 _ _ (by decide +kernel) (by decide) (by unfold stk; omega), w5]
    have hs600 : sz ≤ 600 := by
      obtain ⟨_, _, _, hs6⟩ := q3.1.GS
      omega
    obtain ⟨C9, M9, v1', v2', v3', v4'⟩ := MS.resume t6 hD h310 hX2 (g := g') (by omega) h301 (by omega) t2
    have eback := (gasback (g := g') hX2 (by omega)).1
    refine ⟨C9, M6, M9, K, sz, X / 4 + g', ?_, hMcalls, fun n' => ?_, ?_, v4', by omega, t8, t11, ?_⟩
    · rw [hCcall, hdel, Option.bind_some]
      dsimp only
      rw [h310, t9, eback]
      rcases (show r = 0 ∨ r = 1 by omega) with rfl | rfl
      · rw [if_pos (show nI 0 = 0 from rfl), ← v1']
        rfl
      · rw [if_neg (show ¬ nI 1 = 0 by decide), ← v1']
        rfl
    · rw [t5 n', v2', Option.bind_some]
    · have e : sz - g' + g' = sz := by omega
      rw [e] at v3'
      exact v3'
    · refine hfl.trans (fun k i j hk hi => ?_)
      have a1 : xI C9 k i j = xI C'' k i j := by
        rw [← v1']
        exact (fl_f.trans (fl_push (f := D - 1))) k i j hk hi
      have a2 : k ≠ 2011 := fun y => by rw [y] at hk; exact absurd hk (by decide +kernel)
      have a3 : ¬ stk k j := fun y => by
        unfold stk at y
        rcases y with ⟨z | z | z, -⟩ | ⟨z, -⟩ | ⟨z, -⟩ <;> rw [z] at hk <;> exact absurd hk (by decide +kernel)
      rw [a1, t10 k i j hk (by omega), c6S _ _ _ (Or.inl a2), s2 k i j (fun y => absurd y (by omega)) (fun y => a3 y.2), k4 _ _ _ (fun y => by have := y.2.1; omega)]
