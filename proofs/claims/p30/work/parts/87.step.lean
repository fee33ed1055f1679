/-- reference: past the end -/
theorem l0_end {M : XO} {f p t len n : Nat} (hf : f < 4) (h : xI M 1153 0 0 = nI (f + 1)) (hp : xI M 2145 0 f = nI p) (hp2 : p < 8) (ht : xI M 2146 0 f = nI t) (hl : xI M 2105 0 p = nI len) (hlt : len ≤ t) (ht2 : t ≤ 20) : fX11_machine_l0 (n + 1) M = (fX11_finish M 1 (xI M 2144 0 f)).bind (fun W => fX11_machine_l0 n W) := by
  have fi : inB (nI f) 5 := inB_nI (by omega) (by decide)
  have fc : (nI f).toNatClampNeg = f := cl_nI (by omega)
  rw [fX11_machine_l0, h, if_neg (nI_nle (by omega) (by omega)), nI_pred, if_pos fi, if_pos fi, fc, hp, if_pos (inB_nI hp2 (by decide)), cl_nI (show p < 2147483648 by omega), ht, hl, if_neg (nI_nlt hlt (by omega)), if_pos fi, bS]
/-- reference: a step -/
theorem l0_op {M : XO} {f p t len n o a c g m : Nat} (hf : f < 4) (h : xI M 1153 0 0 = nI (f + 1)) (hp : xI M 2145 0 f = nI p) (hp2 : p < 8) (ht : xI M 2146 0 f = nI t) (hl : xI M 2105 0 p = nI len) (hlt : t < len) (hl2 : len ≤ 20) (ho : xI M 2103 0 (20 * p + t) = nI o) (ha : xI M 2104 0 (20 * p + t) = nI a) (ho2 : o < 25) (hc : fX11_cost M (nI o) (nI a) (nI f) = some (nI c)) (hc2 : c ≤ 100000000) (hg : xI M 2144 0 f = nI g) (hg2 : g < 2147483648) (hm : xI M 2148 0 f = nI m) (hm2 : m ≤ 16) : fX11_machine_l0 (n + 1) M = (if g < c ∨ m < needN o ∨ 16 < m + growN o then fX11_finish (uI (uI M 2146 0 f (nI (t + 1))) 2144 0 f (nI g - nI g)) 0 0 else fX11_does (uI (uI M 2146 0 f (nI (t + 1))) 2144 0 f (nI (g - c))) (nI f) (nI o) (nI a)).bind (fun W => fX11_machine_l0 n W) := by
  have fi : inB (nI f) 5 := inB_nI (by omega) (by decide)
  have fc : (nI f).toNatClampNeg = f := cl_nI (by omega)
  have e1 : (20 : Int32) * nI p + nI t = nI (20 * p + t) := by rw [show (20 : Int32) = nI 20 from rfl, nI_mul, nI_add]
  have i1 : inB (nI (20 * p + t)) 160 := inB_nI (by omega) (by decide)
  have i2 : (nI (20 * p + t)).toNatClampNeg = 20 * p + t := cl_nI (by omega)
  obtain ⟨nt1, nt2⟩ := needTab o ho2
  have w1 : xI (uI M 2146 0 f (nI (t + 1))) 2144 0 f = nI g := by rw [I_ne (by decide), hg]
  have w2 : ∀ v, xI (uI (uI M 2146 0 f (nI (t + 1))) 2144 0 f v) 2104 0 (20 * p + t) = nI a := fun v => by rw [I_ne (by decide), I_ne (by decide), ha]
  have j21 : (if nI g < nI c then (some (1 : Int32)) else (if inB (nI f) 5 then (fX11_need M (nI o)).bind (fun r_25 => (if nI m < r_25 then (some (1 : Int32)) else (if inB (nI f) 5 then (fX11_grows M (nI o)).bind (fun r_29 => (if (nI m + r_29) ≤ (16 : Int32) then (some (0 : Int32)) else (some (1 : Int32)))) else none))) else none)) = some (if g < c ∨ m < needN o ∨ 16 < m + growN o then (1 : Int32) else 0) := by
    by_cases z1 : g < c
    · rw [if_pos (nI_lt z1 (by omega)), if_pos (Or.inl z1)]
    · rw [if_neg (nI_nlt (by omega) (by omega)), if_pos fi, eNeed ho2, Option.bind_some]
      by_cases z2 : m < needN o
      · rw [if_pos (nI_lt z2 (by omega)), if_pos (Or.inr (Or.inl z2))]
      · rw [if_neg (nI_nlt (by omega) (by omega)), if_pos fi, eGrows ho2, Option.bind_some, nI_add]
        by_cases z3 : 16 < m + growN o
        · rw [if_neg (show ¬ nI (m + growN o) ≤ (16 : Int32) from nI_ge (a := 16) z3 (by omega)), if_pos (Or.inr (Or.inr z3))]
        · rw [if_pos (show nI (m + growN o) ≤ (16 : Int32) from nI_le (b := 16) (by omega) (by decide)), if_neg (by omega)]
  rw [fX11_machine_l0, h, if_neg (nI_nle (by omega) (by omega)), nI_pred, if_pos fi, if_pos fi, fc, hp, if_pos (inB_nI hp2 (by decide)), cl_nI (show p < 2147483648 by omega), ht, hl, if_pos (nI_lt hlt (by omega)), if_pos fi, if_pos fi, e1, if_pos i1, if_pos i1, i2, ho, ha, hc, Option.bind_some, if_pos fi, hg, hm, j21, Option.bind_some, if_pos fi, if_pos fi, nI_1]
  unfold wl
  dsimp only
  rw [if_pos fi]
  by_cases z : g < c ∨ m < needN o ∨ 16 < m + growN o
  · rw [if_pos z, if_pos z, if_neg one_n0, if_pos fi, w1, Option.bind_some, if_pos fi, if_neg one_n0, bS]
  · rw [if_neg z, if_neg z, if_pos rfl, Option.bind_some, if_pos fi, if_pos rfl, if_pos i1, w1, nI_subI (by omega), w2, bS]
/-- class: past the end -/
theorem r2_end {C : XO} {b f p t len n : Nat} {dl : XO → Int32 → Int32 → Int32 → Int32 → Int32 → Int32 → Option (Int32 × XO)} {y1 y3 : Int32} (hy : y3 < 1000000) (hp : xI C 308 f 0 = nI p) (hp2 : p < 8) (ht : xI C 309 f 0 = nI t) (hl : xI C 2010 0 p = nI len) (hlt : len ≤ t) (ht2 : t ≤ 20) : fX4_runProgram_l2 b b dl y1 f (n + 1) y3 C = some (.inl (1, C)) := by
  have e1 : fX5_lengthOf C 0 (nI p) = nI len := by
    unfold fX5_lengthOf
    rw [sAt_nI (show p < alen 2010 from hp2) (by decide), hl]
  rw [fX4_runProgram_l2, if_neg (Int32.not_le.mpr hy), hp, ht, e1, if_neg (nI_nlt hlt (by omega))]
/-- class: a step -/
theorem r2_op {C : XO} {b f p t len n o a c g m : Nat} {dl : XO → Int32 → Int32 → Int32 → Int32 → Int32 → Int32 → Option (Int32 × XO)} {y1 y3 x : Int32} (hy : y3 < 1000000) (hp : xI C 308 f 0 = nI p) (hp2 : p < 8) (ht : xI C 309 f 0 = nI t) (hl : xI C 2010 0 p = nI len) (hlt : t < len) (hl2 : len ≤ 20) (ho : xI C 2008 0 (20 * p + t) = nI o) (ha : xI C 2009 0 (20 * p + t) = nI a) (ho2 : o < 25) (hx : fX4_extraGas C b b f (nI o) (nI a) = some x) (hc : sTb 1 (nI o) + x = nI c) (hc2 : c ≤ 100000000) (hg : xI C 310 f 0 = nI g) (hg2 : g < 2147483648) (hm : xI C 301 f 0 = nI m) (hm2 : m ≤ 16) : fX4_runProgram_l2 b b dl y1 f (n + 1) y3 C = (if g < c ∨ m < needN o ∨ 16 < m + growN o then some (.inl (0, uI C 310 f 0 0)) else (if o < 22 then (if o = 19 then (fX4_callFrom (uI (uI C 310 f 0 (nI (g - c))) 309 f 0 (nI (t + 1))) b b dl y1 f).bind (fun W => fX4_runProgram_l2 b b dl y1 f n (y3 + 1) W) else if o = 21 then (fX4_makeFrom (uI (uI C 310 f 0 (nI (g - c))) 309 f 0 (nI (t + 1))) b b f (nI a)).bind (fun W => fX4_runProgram_l2 b b dl y1 f n (y3 + 1) W) else (cOp (uI (uI C 310 f 0 (nI (g - c))) 309 f 0 (nI (t + 1))) b f (nI o) (nI a)).bind (fun W => fX4_runProgram_l2 b b dl y1 f n (y3 + 1) W)) else (fX4_finish (uI (uI C 310 f 0 (nI (g - c))) 309 f 0 (nI (t + 1))) b b f (nI o)).bind (fun r_20 => (if r_20.1 = 0 ∨ r_20.1 = 1 then (some (.inl (r_20.1, r_20.2))) else none)))) := by
  have e1 : fX5_lengthOf C 0 (nI p) = nI len := by
    unfold fX5_lengthOf
    rw [sAt_nI (show p < alen 2010 from hp2) (by decide), hl]
  have i0 : nI p * (20 : Int32) + nI t = nI (20 * p + t) := by rw [show (20 : Int32) = nI 20 from rfl, nI_mul, nI_add, Nat.mul_comm]
  have e2 : fX5_operationAt C 0 (nI p) (nI t) = nI o := by
    unfold fX5_operationAt
    rw [i0, sAt_nI (show 20 * p + t < alen 2008 from (by show 20 * p + t < 160; omega)) (by decide), ho]
  have e3 : fX5_argumentAt C 0 (nI p) (nI t) = nI a := by
    unfold fX5_argumentAt
    rw [i0, sAt_nI (show 20 * p + t < alen 2009 from (by show 20 * p + t < 160; omega)) (by decide), ha]
  have w1 : ∀ v, xI (uI C 310 f 0 v) 309 f 0 = nI t := fun v => by rw [I_ne (by decide), ht]
  rw [fX4_runProgram_l2, if_neg (Int32.not_le.mpr hy), hp, ht, e1, if_pos (nI_lt hlt (by omega)), e2, e3, hx, Option.bind_some, cHeap ho2 hm2 hm, hc, hg]
  unfold wl
  dsimp only
  by_cases z2 : m < needN o ∨ 16 < m + growN o
  · rw [if_pos z2, if_pos rfl, if_pos (Or.inr z2)]
  · rw [if_neg z2, if_neg one_n0]
    by_cases z1 : g < c
    · rw [if_neg (nI_ge z1 (by omega)), if_pos (Or.inl z1)]
    · rw [if_pos (nI_le (by omega) (by omega)), if_neg (show ¬ (g < c ∨ m < needN o ∨ 16 < m + growN o) by omega), nI_subI (by omega), w1, nI_1]
      by_cases z3 : o < 22
      · rw [if_pos (show nI o < (22 : Int32) from nI_lt (b := 22) z3 (by decide)), if_pos z3]
        by_cases z4 : o = 19
        · rw [if_pos (show nI o = (19 : Int32) by rw [z4]; rfl), if_pos z4]
        · rw [if_neg (show ¬ nI o = (19 : Int32) from fun y => z4 ((nI_eq (b := 19) (by omega) (by decide)).mp y)), if_neg z4]
          by_cases z5 : o = 21
          · rw [if_pos (show nI o = (21 : Int32) by rw [z5]; rfl), if_pos z5]
          · rw [if_neg (show ¬ nI o = (21 : Int32) from fun y => z5 ((nI_eq (b := 21) (by omega) (by decide)).mp y)), if_neg z5]
            unfold cOp
            rw [Option.bind_assoc]
            congr 1
            funext r
            by_cases z6 : r.1 = 0
            · rw [if_pos z6, if_pos z6, Option.bind_some]
            · rw [if_neg z6, if_neg z6, Option.bind_some]
      · rw [if_neg (show ¬ nI o < (22 : Int32) from nI_nlt (b := 22) (by omega) (by omega)), if_neg z3]
/-- any operation that neither calls, makes nor ends -/
theorem opAny {P : XP} {d q s : Nat} {C M : XO} (h : MS P d (d - 1) q s C M) (hd : 0 < d) {n a o : Nat} (hn : xI C 301 (d - 1) 0 = nI n) (hn2 : n ≤ 16) (ho : o < 21) (h19 : o ≠ 19) (hq : s + pminN o ≤ q) (ha : (a : Int) ≤ ((sArr 0).getD o 0).toInt) (hneed : needN o ≤ n) (hgrow : n + growN o ≤ 16) : ∃ C' M', cOp C (pb P) (d - 1) (nI o) (nI a) = some C' ∧ fX11_does M (nI (d - 1)) (nI o) (nI a) = some M' ∧ MS P d (d - 1) s s C' M' ∧ xI C' 310 (d - 1) 0 = xI C 310 (d - 1) 0 := by
  rcases (show o = 0 ∨ o = 1 ∨ o = 2 ∨ o = 3 ∨ o = 4 ∨ o = 5 ∨ o = 6 ∨ o = 7 ∨ o = 8 ∨ o = 9 ∨ o = 10 ∨ o = 11 ∨ o = 12 ∨ o = 13 ∨ o = 14 ∨ o = 15 ∨ o = 16 ∨ o = 17 ∨ o = 18 ∨ o = 20 by omega) with rfl | rfl | rfl | rfl | rfl | rfl | rfl | rfl | rfl | rfl | rfl | rfl | rfl | rfl | rfl | rfl | rfl | rfl | rfl | rfl
  · have b1 : 0 ≤ n := hneed
    have b2 : n + 1 ≤ 16 := hgrow
    have b3 : s + 3 ≤ q := hq
    have b4 : a ≤ 9999 := by
      have e : ((sArr 0).getD 0 0).toInt = 9999 := by decide +kernel
      rw [e] at ha
      omega
    exact op0 h hd (a := a) hn (by omega) (by omega) b4
  · have b1 : 2 ≤ n := hneed
    have b2 : n + 0 ≤ 16 := hgrow
    have b3 : s + 3 ≤ q := hq
    exact op1 h hd (a := a) hn b1 hn2 (by omega)
  · have b1 : 2 ≤ n := hneed
    have b2 : n + 0 ≤ 16 := hgrow
    have b3 : s + 3 ≤ q := hq
    exact op2 h hd (a := a) hn b1 hn2 (by omega)
  · have b1 : 2 ≤ n := hneed
    have b2 : n + 0 ≤ 16 := hgrow
    have b3 : s + 5 ≤ q := hq
    exact op3 h hd (a := a) hn b1 hn2 (by omega)
  · have b1 : 2 ≤ n := hneed
    have b2 : n + 0 ≤ 16 := hgrow
    have b3 : s + 3 ≤ q := hq
    exact op4 h hd (a := a) hn b1 hn2 (by omega)
  · have b1 : 2 ≤ n := hneed
    have b2 : n + 0 ≤ 16 := hgrow
    have b3 : s + 3 ≤ q := hq
    exact op5 h hd (a := a) hn b1 hn2 (by omega)
  · have b1 : 1 ≤ n := hneed
    have b2 : n + 1 ≤ 16 := hgrow
    have b3 : s + 3 ≤ q := hq
    exact op6 h hd (a := a) hn (by omega) (by omega) (by omega)
  · have b1 : 2 ≤ n := hneed
    have b2 : n + 0 ≤ 16 := hgrow
    have b3 : s + 3 ≤ q := hq
    exact op7 h hd (a := a) hn b1 hn2 (by omega)
  · have b1 : 1 ≤ n := hneed
    have b2 : n + 0 ≤ 16 := hgrow
    have b3 : s + 2 ≤ q := hq
    exact op8 h hd (a := a) hn b1 hn2 (by omega)
  · have b1 : 0 ≤ n := hneed
    have b2 : n + 1 ≤ 16 := hgrow
    have b3 : s + 20 ≤ q := hq
    have b4 : a ≤ 3 := by
      have e : ((sArr 0).getD 9 0).toInt = 3 := by decide +kernel
      rw [e] at ha
      omega
    exact op9 h hd (a := a) hn (by omega) (by omega) b4
  · have b1 : 1 ≤ n := hneed
    have b2 : n + 0 ≤ 16 := hgrow
    have b3 : s + 30 ≤ q := hq
    have b4 : a ≤ 3 := by
      have e : ((sArr 0).getD 10 0).toInt = 3 := by decide +kernel
      rw [e] at ha
      omega
    exact op10 h hd (a := a) hn b1 hn2 b3 b4
  · have b1 : 0 ≤ n := hneed
    have b2 : n + 0 ≤ 16 := hgrow
    have b3 : s + 5 ≤ q := hq
    have b4 : a ≤ 20 := by
      have e : ((sArr 0).getD 11 0).toInt = 20 := by decide +kernel
      rw [e] at ha
      omega
    exact op11 h hd (a := a) hn (by omega) b4
  · have b1 : 1 ≤ n := hneed
    have b2 : n + 0 ≤ 16 := hgrow
    have b3 : s + 5 ≤ q := hq
    have b4 : a ≤ 20 := by
      have e : ((sArr 0).getD 12 0).toInt = 20 := by decide +kernel
      rw [e] at ha
      omega
    exact op12 h hd (a := a) hn b1 hn2 (by omega) b4
  · have b1 : 0 ≤ n := hneed
    have b2 : n + 1 ≤ 16 := hgrow
    have b3 : s + 2 ≤ q := hq
    exact op13 h hd (a := a) hn (by omega) (by omega)
  · have b1 : 0 ≤ n := hneed
    have b2 : n + 1 ≤ 16 := hgrow
    have b3 : s + 2 ≤ q := hq
    exact op14 h hd (a := a) hn (by omega) (by omega)
  · have b1 : 0 ≤ n := hneed
    have b2 : n + 1 ≤ 16 := hgrow
    have b3 : s + 2 ≤ q := hq
    exact op15 h hd (a := a) hn (by omega) (by omega)
  · have b1 : 1 ≤ n := hneed
    have b2 : n + 0 ≤ 16 := hgrow
    have b3 : s + 10 ≤ q := hq
    exact op16 h hd (a := a) hn b1 hn2 (by omega)
  · have b1 : 1 ≤ n := hneed
    have b2 : n + 0 ≤ 16 := hgrow
    have b3 : s + 3 ≤ q := hq
    have b4 : a ≤ 15 := by
      have e : ((sArr 0).getD 17 0).toInt = 15 := by decide +kernel
      rw [e] at ha
      omega
    exact op17 h hd (a := a) hn b1 hn2 (by omega) b4
  · have b1 : 0 ≤ n := hneed
    have b2 : n + 1 ≤ 16 := hgrow
    have b3 : s + 3 ≤ q := hq
    have b4 : a ≤ 15 := by
      have e : ((sArr 0).getD 18 0).toInt = 15 := by decide +kernel
      rw [e] at ha
      omega
    exact op18 h hd (a := a) hn (by omega) (by omega) b4
  · have b1 : 1 ≤ n := hneed
    have b2 : n + 0 ≤ 16 := hgrow
    have b3 : s + 20 ≤ q := hq
    exact op20 h hd (a := a) hn b1 hn2 b3
