def needN (o : Nat) : Nat := ([0, 2, 2, 2, 2, 2, 1, 2, 1, 0, 1, 0, 1, 0, 0, 0, 1, 1, 0, 3, 1, 1, 1, 0, 0] : List Nat).getD o 0
def growN (o : Nat) : Nat := ([1, 0, 0, 0, 0, 0, 1, 0, 0, 1, 0, 0, 0, 1, 1, 1, 0, 0, 1, 0, 0, 0, 0, 0, 0] : List Nat).getD o 0
def pminN (o : Nat) : Nat := ([3, 3, 3, 5, 3, 3, 3, 3, 2, 20, 30, 5, 5, 2, 2, 2, 10, 3, 3, 40, 20, 80, 20, 0, 0] : List Nat).getD o 0
theorem eNeed {M : XO} {o : Nat} (ho : o < 25) : fX11_need M (nI o) = some (nI (needN o)) := by
  unfold fX11_need wl
  have h : ∀ o, o < 25 → (if nI o = (1 : Int32) then (2 : Int32) else (if nI o = (2 : Int32) then (2 : Int32) else (if nI o = (3 : Int32) then (2 : Int32) else (if nI o = (4 : Int32) then (2 : Int32) else (if nI o = (5 : Int32) then (2 : Int32) else (if nI o = (7 : Int32) then (2 : Int32) else (if nI o = (19 : Int32) then (3 : Int32) else (if nI o = (6 : Int32) then (1 : Int32) else (if nI o = (8 : Int32) then (1 : Int32) else (if nI o = (10 : Int32) then (1 : Int32) else (if nI o = (12 : Int32) then (1 : Int32) else (if nI o = (16 : Int32) then (1 : Int32) else (if nI o = (17 : Int32) then (1 : Int32) else (if nI o = (20 : Int32) then (1 : Int32) else (if nI o = (21 : Int32) then (1 : Int32) else (if nI o = (22 : Int32) then (1 : Int32) else (0 : Int32))))))))))))))))) = nI (needN o) := by decide +kernel
  exact congrArg some (h o ho)
theorem eGrows {M : XO} {o : Nat} (ho : o < 25) : fX11_grows M (nI o) = some (nI (growN o)) := by
  unfold fX11_grows wl
  have h : ∀ o, o < 25 → (if nI o = 0 then (1 : Int32) else (if nI o = (6 : Int32) then (1 : Int32) else (if nI o = (9 : Int32) then (1 : Int32) else (if nI o = (13 : Int32) then (1 : Int32) else (if nI o = (14 : Int32) then (1 : Int32) else (if nI o = (15 : Int32) then (1 : Int32) else (if nI o = (18 : Int32) then (1 : Int32) else (0 : Int32)))))))) = nI (growN o) := by decide +kernel
  exact congrArg some (h o ho)
theorem heapTab : ∀ o, o < 25 → ∀ n, n < 17 → (if (nI n - sTb 2 (nI o)) < 0 then (0 : Int32) else (if (16 : Int32) < ((nI n - sTb 2 (nI o)) + sTb 3 (nI o)) then (0 : Int32) else (1 : Int32))) = if n < needN o ∨ 16 < n + growN o then 0 else 1 := by decide +kernel
theorem cHeap {C : XO} {f o n : Nat} (ho : o < 25) (hn : n ≤ 16) (h : xI C 301 f 0 = nI n) : fX3_heapAllows C f (nI o) = if n < needN o ∨ 16 < n + growN o then 0 else 1 := by
  unfold fX3_heapAllows
  rw [h]
  exact heapTab o ho n (by omega)
theorem needTab : ∀ o, o < 25 → needN o ≤ 3 ∧ growN o ≤ 1 := by decide +kernel
theorem sq_eq {g : Nat} (hg : g ≤ 10000) : ((nI g - 1 + (1 : Int32)) * (nI g - 1 + (1 : Int32))) / (2 : Int32) = nI (g * g / 2) := by
  have e : nI g - 1 + 1 = nI g := Int32.sub_add_cancel _ _
  have h2 : g * g ≤ 10000 * 10000 := Nat.mul_le_mul hg hg
  rw [e, nI_mul, show (2 : Int32) = nI 2 from rfl, div_nI (by omega) (by decide) (by decide)]
/-- what a step costs, for both -/
theorem MS.cost {P : XP} {d q s : Nat} {C M : XO} (h : MS P d (d - 1) q s C M) (hd : 0 < d) {o a : Nat} (ho : o < 25) (ha : (a : Int) ≤ ((sArr 0).getD o 0).toInt) : ∃ p x, fX11_cost M (nI o) (nI a) (nI (d - 1)) = some (nI p) ∧ fX4_extraGas C (pb P) (pb P) (d - 1) (nI o) (nI a) = some x ∧ sTb 1 (nI o) + x = nI p ∧ p ≤ 100000000 ∧ pminN o ≤ p := by
  have hf : d - 1 < d := by omega
  obtain ⟨f4, fi, fc⟩ := fr5 h.1 hf
  have ha2 := (mostB o ho).2
  obtain ⟨n, n1, n2, n3⟩ := h.sz hf
  obtain ⟨w, l, v, m, p, t, g, ⟨b1, b2, b3, b4, b5, b6, b7⟩, ⟨o1, o2⟩, -, -, -, -, -, g1, g2⟩ := h.1.fr hf
  -- the top
  obtain ⟨tp, t1, t2⟩ : ∃ tp : Int32, (if (xI M 2148 0 (d - 1)) ≤ 0 then (some (0 : Int32)) else (if inB (nI (d - 1)) 5 then (if inB ((((16 : Int32) * (nI (d - 1))) + (xI M 2148 0 (d - 1))) - (1 : Int32)) 80 then (some (xI M 2147 0 ((((16 : Int32) * (nI (d - 1))) + (xI M 2148 0 (d - 1))) - (1 : Int32)).toNatClampNeg)) else none) else none)) = some tp ∧ (o = 10 → 1 ≤ n → fX3_top C (d - 1) = tp) := by
    by_cases z : n = 0
    · exact ⟨0, by rw [n3, z, if_pos (by decide)], fun _ y => absurd y (by omega)⟩
    · obtain ⟨k, rfl⟩ : ∃ k, n = k + 1 := ⟨n - 1, by omega⟩
      obtain ⟨k1, tv, tv1, tv2, tv3⟩ := h.top hf n2 (by omega)
      have e2 : (16 : Int32) * nI (d - 1) + nI (k + 1) - (1 : Int32) = nI (16 * (d - 1) + k) := by
        rw [show (16 : Int32) = nI 16 from rfl, nI_mul, nI_add, ← Nat.add_assoc, nI_pred]
      refine ⟨nI tv, ?_, fun _ _ => ?_⟩
      · rw [n3, if_neg (nI_nle (by omega) (by omega)), if_pos fi, e2, if_pos (inB_nI (by omega) (by decide)), cl_nI (by omega), tv3]
      · unfold fX3_top
        rw [n2, nI_pred, sAt_nI (show k < alen 2005 from k1) (by decide), tv2]
  -- what it costs to reach a cell
  obtain ⟨gr, r1, r2, r3⟩ : ∃ gr : Nat, (if (xI M 2150 0 (d - 1)) < nI a then (fX11_square M (nI a)).bind (fun r_19 => (if inB (nI (d - 1)) 5 then (((if 0 ≤ (xI M 2150 0 (d - 1)) then (if inB (nI (d - 1)) 5 then (fX11_square M (xI M 2150 0 (d - 1))).bind (fun r_26 => (some r_26)) else none) else (some (0 : Int32))) : Option (Int32))).bind (fun j_22 => (some (r_19 - j_22))) else none)) else (some (0 : Int32))) = some (nI gr) ∧ fX3_growthTo C (d - 1) (nI a) = nI gr ∧ gr ≤ 50000001 := by
    have hgI : (nI g - 1).toInt = (g : Int) - 1 := by
      have e1 : (1 : Int32).toInt = 1 := rfl
      rw [ti_sub (by rw [ti_nI (by omega), e1]; omega) (by rw [ti_nI (by omega), e1]; omega), ti_nI (by omega), e1]
    unfold fX3_growthTo fX3_memoryGas
    rw [g2, g1]
    by_cases z : g ≤ a
    · have e3 : nI a = nI (a + 1) - 1 := (nI_pred a).symm
      have h2 : (a + 1) * (a + 1) ≤ 10000 * 10000 := Nat.mul_le_mul (by omega) (by omega)
      have h3 : g * g ≤ (a + 1) * (a + 1) := Nat.mul_le_mul (by omega) (by omega)
      have h4 : g * g / 2 ≤ (a + 1) * (a + 1) / 2 := Nat.div_le_div_right h3
      refine ⟨(a + 1) * (a + 1) / 2 - g * g / 2, ?_, ?_, by omega⟩
      · rw [if_pos (by rw [ti_lt, hgI, ti_nI (by omega)]; omega)]
        unfold fX11_square
        rw [Option.bind_some, if_pos fi]
        by_cases z0 : g = 0
        · rw [z0, if_neg (by decide), Option.bind_some, e3, sq_eq (by omega)]
          congr 1
          exact Int32.sub_zero _
        · rw [if_pos (by rw [ti_le, hgI]; show (0 : Int) ≤ _; omega), if_pos fi, Option.bind_some, Option.bind_some, e3, sq_eq (by omega), sq_eq (by omega), nI_subI h4]
      · rw [if_neg (by rw [ti_le, hgI, ti_nI (by omega)]; omega), e3, sq_eq (by omega), sq_eq (by omega), nI_subI h4]
    · exact ⟨0, by rw [if_neg (by rw [ti_lt, hgI, ti_nI (by omega)]; omega)]; rfl, by rw [if_pos (by rw [ti_le, hgI, ti_nI (by omega)]; omega)]; rfl, by omega⟩
  have hC : fX11_cost M (nI o) (nI a) (nI (d - 1)) = (((if nI o = (10 : Int32) then (if inB (((48 : Int32) + ((4 : Int32) * (nI w))) + nI a) 120 then (some (xI M 2101 0 (((48 : Int32) + ((4 : Int32) * (nI w))) + nI a).toNatClampNeg)) else none) else (some (0 : Int32))) : Option (Int32))).bind (fun j_9 => (if nI o = 3 then (some (5 : Int32)) else (if nI o = 4 then (some (3 : Int32)) else (if nI o = 5 then (some (3 : Int32)) else (if nI o = 6 then (some (3 : Int32)) else (if nI o = 7 then (some (3 : Int32)) else (if nI o = 8 then (some (2 : Int32)) else (if nI o = 9 then (some (20 : Int32)) else (if nI o = 10 then (((if j_9 = 0 then (if tp = 0 then (some (30 : Int32)) else (if inB (xI M 1158 0 0) 48 then (if inB (xI M 1157 0 0) 2 then (if (xI M 2121 0 (xI M 1158 0 0).toNatClampNeg) < (xI M 2107 0 (xI M 1157 0 0).toNatClampNeg) then (some (100 : Int32)) else (some (150 : Int32))) else none) else none)) else (some (30 : Int32))) : Option (Int32))).bind (fun j_35 => (some j_35)) else (if nI o = 11 then (some (5 : Int32)) else (if nI o = 12 then (some (5 : Int32)) else (if nI o = 13 then (some (2 : Int32)) else (if nI o = 14 then (some (2 : Int32)) else (if nI o = 15 then (some (2 : Int32)) else (if nI o = 16 then (some (10 : Int32)) else (if nI o = 17 then (some ((3 : Int32) + nI gr)) else (if nI o = 18 then (some ((3 : Int32) + nI gr)) else (if nI o = 19 then (some (40 : Int32)) else (if nI o = 20 then (some (20 : Int32)) else (if nI o = 21 then (some (80 : Int32)) else (if nI o = 22 then (some (20 : Int32)) else (if nI o = 23 then (some (0 : Int32)) else (if nI o = 24 then (some (0 : Int32)) else (some (3 : Int32))))))))))))))))))))))))) := by
    unfold fX11_cost
    rw [if_pos fi, fc, t1, Option.bind_some, o2, r1]
    simp only [if_pos fi, Option.bind_some]
  have hz : ∀ c : Int32, ∀ k : Nat, fX4_extraGas C (pb P) (pb P) (d - 1) (nI o) (nI a) = some 0 → sTb 1 (nI o) = nI k → pminN o = k → k ≤ 1000 → fX11_cost M (nI o) (nI a) (nI (d - 1)) = some c → c = nI k → ∃ p x, fX11_cost M (nI o) (nI a) (nI (d - 1)) = some (nI p) ∧ fX4_extraGas C (pb P) (pb P) (d - 1) (nI o) (nI a) = some x ∧ sTb 1 (nI o) + x = nI p ∧ p ≤ 100000000 ∧ pminN o ≤ p := fun c k k1 k2 k3 k4 k5 k6 => ⟨k, 0, by rw [k5, k6], k1, by rw [k2]; exact Int32.add_zero _, by omega, by omega⟩
  rw [hC] at hz ⊢
  rcases (show o = 0 ∨ o = 1 ∨ o = 2 ∨ o = 3 ∨ o = 4 ∨ o = 5 ∨ o = 6 ∨ o = 7 ∨ o = 8 ∨ o = 9 ∨ o = 10 ∨ o = 11 ∨ o = 12 ∨ o = 13 ∨ o = 14 ∨ o = 15 ∨ o = 16 ∨ o = 17 ∨ o = 18 ∨ o = 19 ∨ o = 20 ∨ o = 21 ∨ o = 22 ∨ o = 23 ∨ o = 24 by omega) with rfl | rfl | rfl | rfl | rfl | rfl | rfl | rfl | rfl | rfl | rfl | rfl | rfl | rfl | rfl | rfl | rfl | rfl | rfl | rfl | rfl | rfl | rfl | rfl | rfl
  · refine hz (3 : Int32) 3 ?_ (by decide +kernel) rfl (by decide) ?_ rfl
    · unfold fX4_extraGas
      rw [if_neg (by decide), if_neg (by decide), if_neg (by decide)]
    · rw [if_neg (by decide), Option.bind_some, if_neg (by decide), if_neg (by decide), if_neg (by decide), if_neg (by decide), if_neg (by decide), if_neg (by decide), if_neg (by decide), if_neg (by decide), if_neg (by decide), if_neg (by decide), if_neg (by decide), if_neg (by decide), if_neg (by decide), if_neg (by decide), if_neg (by decide), if_neg (by decide), if_neg (by decide), if_neg (by decide), if_neg (by decide), if_neg (by decide), if_neg (by decide), if_neg (by decide)]
  · refine hz (3 : Int32) 3 ?_ (by decide +kernel) rfl (by decide) ?_ rfl
    · unfold fX4_extraGas
      rw [if_neg (by decide), if_neg (by decide), if_neg (by decide)]
    · rw [if_neg (by decide), Option.bind_some, if_neg (by decide), if_neg (by decide), if_neg (by decide), if_neg (by decide), if_neg (by decide), if_neg (by decide), if_neg (by decide), if_neg (by decide), if_neg (by decide), if_neg (by decide), if_neg (by decide), if_neg (by decide), if_neg (by decide), if_neg (by decide), if_neg (by decide), if_neg (by decide), if_neg (by decide), if_neg (by decide), if_neg (by decide), if_neg (by decide), if_neg (by decide), if_neg (by decide)]
  · refine hz (3 : Int32) 3 ?_ (by decide +kernel) rfl (by decide) ?_ rfl
    · unfold fX4_extraGas
      rw [if_neg (by decide), if_neg (by decide), if_neg (by decide)]
    · rw [if_neg (by decide), Option.bind_some, if_neg (by decide), if_neg (by decide), if_neg (by decide), if_neg (by decide), if_neg (by decide), if_neg (by decide), if_neg (by decide), if_neg (by decide), if_neg (by decide), if_neg (by decide), if_neg (by decide), if_neg (by decide), if_neg (by decide), if_neg (by decide), if_neg (by decide), if_neg (by decide), if_neg (by decide), if_neg (by decide), if_neg (by decide), if_neg (by decide), if_neg (by decide), if_neg (by decide)]
  · refine hz (5 : Int32) 5 ?_ (by decide +kernel) rfl (by decide) ?_ rfl
    · unfold fX4_extraGas
      rw [if_neg (by decide), if_neg (by decide), if_neg (by decide)]
    · rw [if_neg (by decide), Option.bind_some, if_pos (show nI 3 = (3 : Int32) from rfl)]
  · refine hz (3 : Int32) 3 ?_ (by decide +kernel) rfl (by decide) ?_ rfl
    · unfold fX4_extraGas
      rw [if_neg (by decide), if_neg (by decide), if_neg (by decide)]
    · rw [if_neg (by decide), Option.bind_some, if_neg (by decide), if_pos (show nI 4 = (4 : Int32) from rfl)]
  · refine hz (3 : Int32) 3 ?_ (by decide +kernel) rfl (by decide) ?_ rfl
    · unfold fX4_extraGas
      rw [if_neg (by decide), if_neg (by decide), if_neg (by decide)]
    · rw [if_neg (by decide), Option.bind_some, if_neg (by decide), if_neg (by decide), if_pos (show nI 5 = (5 : Int32) from rfl)]
  · refine hz (3 : Int32) 3 ?_ (by decide +kernel) rfl (by decide) ?_ rfl
    · unfold fX4_extraGas
      rw [if_neg (by decide), if_neg (by decide), if_neg (by decide)]
    · rw [if_neg (by decide), Option.bind_some, if_neg (by decide), if_neg (by decide), if_neg (by decide), if_pos (show nI 6 = (6 : Int32) from rfl)]
  · refine hz (3 : Int32) 3 ?_ (by decide +kernel) rfl (by decide) ?_ rfl
    · unfold fX4_extraGas
      rw [if_neg (by decide), if_neg (by decide), if_neg (by decide)]
    · rw [if_neg (by decide), Option.bind_some, if_neg (by decide), if_neg (by decide), if_neg (by decide), if_neg (by decide), if_pos (show nI 7 = (7 : Int32) from rfl)]
  · refine hz (2 : Int32) 2 ?_ (by decide +kernel) rfl (by decide) ?_ rfl
    · unfold fX4_extraGas
      rw [if_neg (by decide), if_neg (by decide), if_neg (by decide)]
    · rw [if_neg (by decide), Option.bind_some, if_neg (by decide), if_neg (by decide), if_neg (by decide), if_neg (by decide), if_neg (by decide), if_pos (show nI 8 = (8 : Int32) from rfl)]
  · refine hz (20 : Int32) 20 ?_ (by decide +kernel) rfl (by decide) ?_ rfl
    · unfold fX4_extraGas
      rw [if_neg (by decide), if_neg (by decide), if_neg (by decide)]
    · rw [if_neg (by decide), Option.bind_some, if_neg (by decide), if_neg (by decide), if_neg (by decide), if_neg (by decide), if_neg (by decide), if_neg (by decide), if_pos (show nI 9 = (9 : Int32) from rfl)]
  · have a3 : a ≤ 3 := by
      have e : ((sArr 0).getD 10 0).toInt = 3 := by decide +kernel
      rw [e] at ha
      omega
    have i1 : nI w * (4 : Int32) + nI a = nI (4 * w + a) := by rw [show (4 : Int32) = nI 4 from rfl, nI_mul, nI_add, Nat.mul_comm]
    have i2 : ((48 : Int32) + ((4 : Int32) * nI w)) + nI a = nI (48 + (4 * w + a)) := by rw [show (4 : Int32) = nI 4 from rfl, nI_mul, show (48 : Int32) = nI 48 from rfl, nI_add, nI_add, Nat.add_assoc]
    obtain ⟨-, s2, s3, s4, -⟩ := h.1.ST
    obtain ⟨z1, z2, z3, -⟩ := h.1.ZP
    have c10 : ∀ x : Int32, xI M 2101 0 (48 + (4 * w + a)) = x → (((if nI 10 = (10 : Int32) then (if inB (((48 : Int32) + ((4 : Int32) * (nI w))) + nI a) 120 then (some (xI M 2101 0 (((48 : Int32) + ((4 : Int32) * (nI w))) + nI a).toNatClampNeg)) else none) else (some (0 : Int32))) : Option (Int32))) = some x := fun x hx => by
      rw [if_pos (show nI 10 = (10 : Int32) from rfl), i2, if_pos (inB_nI (by omega) (by decide)), cl_nI (by omega), hx]
    have e10 : fX4_extraGas C (pb P) (pb P) (d - 1) (nI 10) (nI a) = some (if xI M 2101 0 (48 + (4 * w + a)) = 0 then (if fX3_top C (d - 1) = 0 then 0 else xI C 405 0 0 - 30) else 0) := by
      unfold fX4_extraGas
      rw [if_neg (by decide), if_neg (by decide), if_pos (show nI 10 = (10 : Int32) from rfl), if_pos h.1.RF.2, o1, i1, sAt_nI (show 4 * w + a < alen 2014 from (by show 4 * w + a < 64; omega)) (by decide), h.1.eIV (by omega)]
      by_cases y1 : xI M 2101 0 (48 + (4 * w + a)) = 0
      · rw [if_pos y1, if_pos y1]
        by_cases y2 : fX3_top C (d - 1) = 0
        · rw [if_pos y2, if_pos y2]
        · rw [if_neg y2, if_neg y2]
      · rw [if_neg y1, if_neg y1]
    have hst : sTb 1 (nI 10) = nI 30 := by decide +kernel
    rw [c10 _ rfl, Option.bind_some, if_neg (by decide), if_neg (by decide), if_neg (by decide), if_neg (by decide), if_neg (by decide), if_neg (by decide), if_neg (by decide), if_pos (show nI 10 = (10 : Int32) from rfl), e10, s3, cl_nI (show pk P < 2147483648 by omega), s2, cl_nI (show pc P < 2147483648 by omega), if_pos (inB_nI z2 (by decide)), if_pos (inB_nI z3 (by decide)), hst, s4]
    have htop : fX3_top C (d - 1) = tp := by
      by_cases y : n = 0
      · have e1 : fX3_top C (d - 1) = 0 := by
          unfold fX3_top sAt
          rw [n2, y, if_pos (by decide)]
        rw [n3, y, if_pos (by decide)] at t1
        rw [e1]
        exact Option.some.inj t1
      · exact t2 rfl (by omega)
    rw [htop]
    by_cases y1 : xI M 2101 0 (48 + (4 * w + a)) = 0
    · rw [if_pos y1, if_pos y1]
      by_cases y2 : tp = 0
      · rw [if_pos y2, if_pos y2]
        exact ⟨30, 0, rfl, rfl, rfl, by decide, Nat.le_refl _⟩
      · rw [if_neg y2, if_neg y2]
        by_cases y3 : xI M 2121 0 (pk P) < xI M 2107 0 (pc P)
        · rw [if_pos y3, if_pos y3]
          exact ⟨100, 70, rfl, rfl, rfl, by decide, by decide⟩
        · rw [if_neg y3, if_neg y3]
          exact ⟨150, 120, rfl, rfl, rfl, by decide, by decide⟩
    · rw [if_neg y1, if_neg y1]
      exact ⟨30, 0, rfl, rfl, rfl, by decide, Nat.le_refl _⟩
  · refine hz (5 : Int32) 5 ?_ (by decide +kernel) rfl (by decide) ?_ rfl
    · unfold fX4_extraGas
      rw [if_neg (by decide), if_neg (by decide), if_neg (by decide)]
    · rw [if_neg (by decide), Option.bind_some, if_neg (by decide), if_neg (by decide), if_neg (by decide), if_neg (by decide), if_neg (by decide), if_neg (by decide), if_neg (by decide), if_neg (by decide), if_pos (show nI 11 = (11 : Int32) from rfl)]
  · refine hz (5 : Int32) 5 ?_ (by decide +kernel) rfl (by decide) ?_ rfl
    · unfold fX4_extraGas
      rw [if_neg (by decide), if_neg (by decide), if_neg (by decide)]
    · rw [if_neg (by decide), Option.bind_some, if_neg (by decide), if_neg (by decide), if_neg (by decide), if_neg (by decide), if_neg (by decide), if_neg (by decide), if_neg (by decide), if_neg (by decide), if_neg (by decide), if_pos (show nI 12 = (12 : Int32) from rfl)]
  · refine hz (2 : Int32) 2 ?_ (by decide +kernel) rfl (by decide) ?_ rfl
    · unfold fX4_extraGas
      rw [if_neg (by decide), if_neg (by decide), if_neg (by decide)]
    · rw [if_neg (by decide), Option.bind_some, if_neg (by decide), if_neg (by decide), if_neg (by decide), if_neg (by decide), if_neg (by decide), if_neg (by decide), if_neg (by decide), if_neg (by decide), if_neg (by decide), if_neg (by decide), if_pos (show nI 13 = (13 : Int32) from rfl)]
  · refine hz (2 : Int32) 2 ?_ (by decide +kernel) rfl (by decide) ?_ rfl
    · unfold fX4_extraGas
      rw [if_neg (by decide), if_neg (by decide), if_neg (by decide)]
    · rw [if_neg (by decide), Option.bind_some, if_neg (by decide), if_neg (by decide), if_neg (by decide), if_neg (by decide), if_neg (by decide), if_neg (by decide), if_neg (by decide), if_neg (by decide), if_neg (by decide), if_neg (by decide), if_neg (by decide), if_pos (show nI 14 = (14 : Int32) from rfl)]
  · refine hz (2 : Int32) 2 ?_ (by decide +kernel) rfl (by decide) ?_ rfl
    · unfold fX4_extraGas
      rw [if_neg (by decide), if_neg (by decide), if_neg (by decide)]
    · rw [if_neg (by decide), Option.bind_some, if_neg (by decide), if_neg (by decide), if_neg (by decide), if_neg (by decide), if_neg (by decide), if_neg (by decide), if_neg (by decide), if_neg (by decide), if_neg (by decide), if_neg (by decide), if_neg (by decide), if_neg (by decide), if_pos (show nI 15 = (15 : Int32) from rfl)]
  · refine hz (10 : Int32) 10 ?_ (by decide +kernel) rfl (by decide) ?_ rfl
    · unfold fX4_extraGas
      rw [if_neg (by decide), if_neg (by decide), if_neg (by decide)]
    · rw [if_neg (by decide), Option.bind_some, if_neg (by decide), if_neg (by decide), if_neg (by decide), if_neg (by decide), if_neg (by decide), if_neg (by decide), if_neg (by decide), if_neg (by decide), if_neg (by decide), if_neg (by decide), if_neg (by decide), if_neg (by decide), if_neg (by decide), if_pos (show nI 16 = (16 : Int32) from rfl)]
  · refine ⟨3 + gr, nI gr, ?_, ?_, ?_, by omega, ?_⟩
    · rw [if_neg (by decide), Option.bind_some, if_neg (by decide), if_neg (by decide), if_neg (by decide), if_neg (by decide), if_neg (by decide), if_neg (by decide), if_neg (by decide), if_neg (by decide), if_neg (by decide), if_neg (by decide), if_neg (by decide), if_neg (by decide), if_neg (by decide), if_neg (by decide), if_pos (show nI 17 = (17 : Int32) from rfl), show (3 : Int32) = nI 3 from rfl, nI_add]
    · unfold fX4_extraGas
      rw [if_pos (show nI 17 = (17 : Int32) from rfl), r2]
    · rw [show sTb 1 (nI 17) = nI 3 by decide +kernel, nI_add]
    · show 3 ≤ 3 + gr
      omega
  · refine ⟨3 + gr, nI gr, ?_, ?_, ?_, by omega, ?_⟩
    · rw [if_neg (by decide), Option.bind_some, if_neg (by decide), if_neg (by decide), if_neg (by decide), if_neg (by decide), if_neg (by decide), if_neg (by decide), if_neg (by decide), if_neg (by decide), if_neg (by decide), if_neg (by decide), if_neg (by decide), if_neg (by decide), if_neg (by decide), if_neg (by decide), if_neg (by decide), if_pos (show nI 18 = (18 : Int32) from rfl), show (3 : Int32) = nI 3 from rfl, nI_add]
    · unfold fX4_extraGas
      rw [if_neg (by decide), if_pos (show nI 18 = (18 : Int32) from rfl), r2]
    · rw [show sTb 1 (nI 18) = nI 3 by decide +kernel, nI_add]
    · show 3 ≤ 3 + gr
      omega
  · refine hz (40 : Int32) 40 ?_ (by decide +kernel) rfl (by decide) ?_ rfl
    · unfold fX4_extraGas
      rw [if_neg (by decide), if_neg (by decide), if_neg (by decide)]
    · rw [if_neg (by decide), Option.bind_some, if_neg (by decide), if_neg (by decide), if_neg (by decide), if_neg (by decide), if_neg (by decide), if_neg (by decide), if_neg (by decide), if_neg (by decide), if_neg (by decide), if_neg (by decide), if_neg (by decide), if_neg (by decide), if_neg (by decide), if_neg (by decide), if_neg (by decide), if_neg (by decide), if_pos (show nI 19 = (19 : Int32) from rfl)]
  · refine hz (20 : Int32) 20 ?_ (by decide +kernel) rfl (by decide) ?_ rfl
    · unfold fX4_extraGas
      rw [if_neg (by decide), if_neg (by decide), if_neg (by decide)]
    · rw [if_neg (by decide), Option.bind_some, if_neg (by decide), if_neg (by decide), if_neg (by decide), if_neg (by decide), if_neg (by decide), if_neg (by decide), if_neg (by decide), if_neg (by decide), if_neg (by decide), if_neg (by decide), if_neg (by decide), if_neg (by decide), if_neg (by decide), if_neg (by decide), if_neg (by decide), if_neg (by decide), if_neg (by decide), if_pos (show nI 20 = (20 : Int32) from rfl)]
  · refine hz (80 : Int32) 80 ?_ (by decide +kernel) rfl (by decide) ?_ rfl
    · unfold fX4_extraGas
      rw [if_neg (by decide), if_neg (by decide), if_neg (by decide)]
    · rw [if_neg (by decide), Option.bind_some, if_neg (by decide), if_neg (by decide), if_neg (by decide), if_neg (by decide), if_neg (by decide), if_neg (by decide), if_neg (by decide), if_neg (by decide), if_neg (by decide), if_neg (by decide), if_neg (by decide), if_neg (by decide), if_neg (by decide), if_neg (by decide), if_neg (by decide), if_neg (by decide), if_neg (by decide), if_neg (by decide), if_pos (show nI 21 = (21 : Int32) from rfl)]
  · refine hz (20 : Int32) 20 ?_ (by decide +kernel) rfl (by decide) ?_ rfl
    · unfold fX4_extraGas
      rw [if_neg (by decide), if_neg (by decide), if_neg (by decide)]
    · rw [if_neg (by decide), Option.bind_some, if_neg (by decide), if_neg (by decide), if_neg (by decide), if_neg (by decide), if_neg (by decide), if_neg (by decide), if_neg (by decide), if_neg (by decide), if_neg (by decide), if_neg (by decide), if_neg (by decide), if_neg (by decide), if_neg (by decide), if_neg (by decide), if_neg (by decide), if_neg (by decide), if_neg (by decide), if_neg (by decide), if_neg (by decide), if_pos (show nI 22 = (22 : Int32) from rfl)]
  · refine hz (0 : Int32) 0 ?_ (by decide +kernel) rfl (by decide) ?_ rfl
    · unfold fX4_extraGas
      rw [if_neg (by decide), if_neg (by decide), if_neg (by decide)]
    · rw [if_neg (by decide), Option.bind_some, if_neg (by decide), if_neg (by decide), if_neg (by decide), if_neg (by decide), if_neg (by decide), if_neg (by decide), if_neg (by decide), if_neg (by decide), if_neg (by decide), if_neg (by decide), if_neg (by decide), if_neg (by decide), if_neg (by decide), if_neg (by decide), if_neg (by decide), if_neg (by decide), if_neg (by decide), if_neg (by decide), if_neg (by decide), if_neg (by decide), if_pos (show nI 23 = (23 : Int32) from rfl)]
  · refine hz (0 : Int32) 0 ?_ (by decide +kernel) rfl (by decide) ?_ rfl
    · unfold fX4_extraGas
      rw [if_neg (by decide), if_neg (by decide), if_neg (by decide)]
    · rw [if_neg (by decide), Option.bind_some, if_neg (by decide), if_neg (by decide), if_neg (by decide), if_neg (by decide), if_neg (by decide), if_neg (by decide), if_neg (by decide), if_neg (by decide), if_neg (by decide), if_neg (by decide), if_neg (by decide), if_neg (by decide), if_neg (by decide), if_neg (by decide), if_neg (by decide), if_neg (by decide), if_neg (by decide), if_neg (by decide), if_neg (by decide), if_neg (by decide), if_neg (by decide), if_pos (show nI 24 = (24 : Int32) from rfl)]
