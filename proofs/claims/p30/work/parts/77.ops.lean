/-- a step of the class that is no call, no end and no making -/
def cOp (C : XO) (b f : Nat) (o a : Int32) : Option XO := (fX4_touchState C b b f o a).bind (fun r => if r.1 = 0 then some (fX3_perform r.2 f o a) else some r.2)
theorem MS.push' {P : XP} {d e q s : Nat} {C M : XO} (h : MS P d e q s C M) {f n v : Nat} (hf : f < d) (hn : xI C 301 f 0 = nI n) (hn2 : n < 16) (hv : v < 1000000) : ∃ C1 M1, fX3_push C f (nI v) = C1 ∧ fX11_push M (nI f) (nI v) = some M1 ∧ MS P d e q s C1 M1 ∧ xI C1 301 f 0 = nI (n + 1) ∧ (∀ k i j, k ≠ 301 → k ≠ 2005 → xI C1 k i j = xI C k i j) ∧ ∀ k i j, k ≠ 2147 → k ≠ 2148 → xI M1 k i j = xI M k i j := by
  obtain ⟨a1, a2, a3⟩ := h.push hf hn hn2 hv
  exact ⟨_, _, a1, a2, a3, by rw [I_uI, if_pos ⟨rfl, rfl, rfl⟩], fun k i j h1 h2 => by rw [I_ne h1, I_ne h2], fun k i j h1 h2 => by rw [I_ne h2, I_ne h1]⟩
theorem MS.pop' {P : XP} {d e q s : Nat} {C M : XO} (h : MS P d e q s C M) {f n : Nat} (hf : f < d) (hn : xI C 301 f 0 = nI (n + 1)) (hn2 : n ≤ 16) : ∃ v C1 M1, v < 1000000 ∧ fX3_take C f = (nI v, C1) ∧ fX11_pop M (nI f) = some (nI v, M1) ∧ MS P d e q s C1 M1 ∧ xI C1 301 f 0 = nI n ∧ (∀ k i j, k ≠ 301 → xI C1 k i j = xI C k i j) ∧ ∀ k i j, k ≠ 2148 → xI M1 k i j = xI M k i j := by
  obtain ⟨v, a1, -, a2, a3, a4⟩ := h.pop hf hn hn2
  exact ⟨v, _, _, a1, a2, a3, a4, by rw [I_uI, if_pos ⟨rfl, rfl, rfl⟩], fun k i j h1 => I_ne h1, fun k i j h1 => I_ne h1⟩
theorem MS.sz {P : XP} {d e q s : Nat} {C M : XO} (h : MS P d e q s C M) {f : Nat} (hf : f < d) : ∃ n, n ≤ 16 ∧ xI C 301 f 0 = nI n ∧ xI M 2148 0 f = nI n := by
  obtain ⟨n, g1, g2, -⟩ := h.1.HS f hf
  exact ⟨n, g1, by rw [h.1.LN 301 f 0 _ (by decide) (ph_301 hf), g2], g2⟩
theorem MS0.fr {P : XP} {d e q s : Nat} {C M : XO} (h : MS0 P d e q s C M) {f : Nat} (hf : f < d) : ∃ o l v n p t g : Nat, (o < 16 ∧ l < 16 ∧ v < 1000000 ∧ n < 1000000 ∧ p < 8 ∧ t ≤ 20 ∧ g ≤ 16) ∧ (xI C 304 f 0 = nI o ∧ xI M 2140 0 f = nI o) ∧ (xI C 305 f 0 = nI l ∧ xI M 2141 0 f = nI l) ∧ (xI C 306 f 0 = nI v ∧ xI M 2142 0 f = nI v) ∧ (xI C 307 f 0 = nI n ∧ xI M 2143 0 f = nI n) ∧ (xI C 308 f 0 = nI p ∧ xI M 2145 0 f = nI p) ∧ (xI C 309 f 0 = nI t ∧ xI M 2146 0 f = nI t) ∧ xI C 303 f 0 = nI g - 1 ∧ xI M 2150 0 f = nI g - 1 := by
  obtain ⟨o, l, v, n, p, t, g, a1, a2, a3, a4, a5, a6, a7, b1, b2, b3, b4, b5, b6, b7⟩ := h.FR f hf
  exact ⟨o, l, v, n, p, t, g, ⟨a1, a2, a3, a4, a5, a6, a7⟩, ⟨(h.LN 304 f 0 _ (by decide) (ph_304 hf)).trans b1, b1⟩, ⟨(h.LN 305 f 0 _ (by decide) (ph_305 hf)).trans b2, b2⟩, ⟨(h.LN 306 f 0 _ (by decide) (ph_306 hf)).trans b3, b3⟩, ⟨(h.LN 307 f 0 _ (by decide) (ph_307 hf)).trans b4, b4⟩, ⟨(h.LN 308 f 0 _ (by decide) (ph_308 hf)).trans b5, b5⟩, ⟨(h.LN 309 f 0 _ (by decide) (ph_309 hf)).trans b6, b6⟩, (h.LN 303 f 0 _ (by decide) (ph_303 hf)).trans b7, b7⟩

theorem op0 {P : XP} {d q s : Nat} {C M : XO} (h : MS P d (d - 1) q s C M) (hd : 0 < d) {n a : Nat} (hn : xI C 301 (d - 1) 0 = nI n) (hn2 : n < 16) (hq : s ≤ q) (ha : a ≤ 9999) : ∃ C' M', cOp C (pb P) (d - 1) (0 : Int32) (nI a) = some C' ∧ fX11_does M (nI (d - 1)) (0 : Int32) (nI a) = some M' ∧ MS P d (d - 1) s s C' M' ∧ xI C' 310 (d - 1) 0 = xI C 310 (d - 1) 0 := by
  have hf : d - 1 < d := by omega
  obtain ⟨f4, fi, fc⟩ := fr5 h.1 hf
  obtain ⟨C1, M1, a1, a2, a3, -, a5, -⟩ := h.push' hf hn hn2 (v := a) (by omega)
  refine ⟨C1, M1, ?_, ?_, a3.low hq, a5 310 _ _ (by decide) (by decide)⟩
  · unfold cOp fX4_touchState
    rw [if_neg (by decide), if_neg (by decide), if_neg (by decide), if_neg (by decide), Option.bind_some, if_pos rfl]
    unfold fX3_perform
    rw [if_pos rfl, a1]
  · unfold fX11_does
    rw [if_pos rfl, a2, Option.bind_some]
theorem op13 {P : XP} {d q s : Nat} {C M : XO} (h : MS P d (d - 1) q s C M) (hd : 0 < d) {n a : Nat} (hn : xI C 301 (d - 1) 0 = nI n) (hn2 : n < 16) (hq : s ≤ q) : ∃ C' M', cOp C (pb P) (d - 1) (13 : Int32) (nI a) = some C' ∧ fX11_does M (nI (d - 1)) (13 : Int32) (nI a) = some M' ∧ MS P d (d - 1) s s C' M' ∧ xI C' 310 (d - 1) 0 = xI C 310 (d - 1) 0 := by
  have hf : d - 1 < d := by omega
  obtain ⟨f4, fi, fc⟩ := fr5 h.1 hf
  obtain ⟨o, l, v, m, p, t, g, ⟨b1, b2, b3, b4, b5, b6, b7⟩, ⟨o1, o2⟩, ⟨l1, l2⟩, ⟨v1, v2⟩, ⟨m1, m2⟩, ⟨p1, p2⟩, ⟨t1, t2⟩, g1, g2⟩ := h.1.fr hf
  obtain ⟨C1, M1, a1, a2, a3, -, a5, -⟩ := h.push' hf hn hn2 (show l < 1000000 by omega)
  refine ⟨C1, M1, ?_, ?_, a3.low hq, a5 310 _ _ (by decide) (by decide)⟩
  · unfold cOp fX4_touchState
    rw [if_neg (by decide), if_neg (by decide), if_neg (by decide), if_neg (by decide), Option.bind_some, if_pos rfl]
    unfold fX3_perform
    rw [if_neg (by decide), if_neg (by decide), if_neg (by decide), if_neg (by decide), if_neg (by decide), if_neg (by decide), if_neg (by decide), if_neg (by decide), if_neg (by decide), if_neg (by decide), if_neg (by decide), if_neg (by decide), if_neg (by decide), if_pos rfl, l1, a1]
  · unfold fX11_does
    rw [if_neg (by decide), if_neg (by decide), if_neg (by decide), if_neg (by decide), if_neg (by decide), if_neg (by decide), if_neg (by decide), if_neg (by decide), if_neg (by decide), if_neg (by decide), if_neg (by decide), if_neg (by decide), if_neg (by decide), if_pos rfl, if_pos fi, fc, l2, a2, Option.bind_some]
theorem op14 {P : XP} {d q s : Nat} {C M : XO} (h : MS P d (d - 1) q s C M) (hd : 0 < d) {n a : Nat} (hn : xI C 301 (d - 1) 0 = nI n) (hn2 : n < 16) (hq : s ≤ q) : ∃ C' M', cOp C (pb P) (d - 1) (14 : Int32) (nI a) = some C' ∧ fX11_does M (nI (d - 1)) (14 : Int32) (nI a) = some M' ∧ MS P d (d - 1) s s C' M' ∧ xI C' 310 (d - 1) 0 = xI C 310 (d - 1) 0 := by
  have hf : d - 1 < d := by omega
  obtain ⟨f4, fi, fc⟩ := fr5 h.1 hf
  obtain ⟨o, l, v, m, p, t, g, ⟨b1, b2, b3, b4, b5, b6, b7⟩, ⟨o1, o2⟩, ⟨l1, l2⟩, ⟨v1, v2⟩, ⟨m1, m2⟩, ⟨p1, p2⟩, ⟨t1, t2⟩, g1, g2⟩ := h.1.fr hf
  obtain ⟨C1, M1, a1, a2, a3, -, a5, -⟩ := h.push' hf hn hn2 b3
  refine ⟨C1, M1, ?_, ?_, a3.low hq, a5 310 _ _ (by decide) (by decide)⟩
  · unfold cOp fX4_touchState
    rw [if_neg (by decide), if_neg (by decide), if_neg (by decide), if_neg (by decide), Option.bind_some, if_pos rfl]
    unfold fX3_perform
    rw [if_neg (by decide), if_neg (by decide), if_neg (by decide), if_neg (by decide), if_neg (by decide), if_neg (by decide), if_neg (by decide), if_neg (by decide), if_neg (by decide), if_neg (by decide), if_neg (by decide), if_neg (by decide), if_neg (by decide), if_neg (by decide), if_pos rfl, v1, a1]
  · unfold fX11_does
    rw [if_neg (by decide), if_neg (by decide), if_neg (by decide), if_neg (by decide), if_neg (by decide), if_neg (by decide), if_neg (by decide), if_neg (by decide), if_neg (by decide), if_neg (by decide), if_neg (by decide), if_neg (by decide), if_neg (by decide), if_neg (by decide), if_pos rfl, if_pos fi, fc, v2, a2, Option.bind_some]
theorem op15 {P : XP} {d q s : Nat} {C M : XO} (h : MS P d (d - 1) q s C M) (hd : 0 < d) {n a : Nat} (hn : xI C 301 (d - 1) 0 = nI n) (hn2 : n < 16) (hq : s ≤ q) : ∃ C' M', cOp C (pb P) (d - 1) (15 : Int32) (nI a) = some C' ∧ fX11_does M (nI (d - 1)) (15 : Int32) (nI a) = some M' ∧ MS P d (d - 1) s s C' M' ∧ xI C' 310 (d - 1) 0 = xI C 310 (d - 1) 0 := by
  have hf : d - 1 < d := by omega
  obtain ⟨f4, fi, fc⟩ := fr5 h.1 hf
  obtain ⟨o, l, v, m, p, t, g, ⟨b1, b2, b3, b4, b5, b6, b7⟩, ⟨o1, o2⟩, ⟨l1, l2⟩, ⟨v1, v2⟩, ⟨m1, m2⟩, ⟨p1, p2⟩, ⟨t1, t2⟩, g1, g2⟩ := h.1.fr hf
  obtain ⟨C1, M1, a1, a2, a3, -, a5, -⟩ := h.push' hf hn hn2 b4
  refine ⟨C1, M1, ?_, ?_, a3.low hq, a5 310 _ _ (by decide) (by decide)⟩
  · unfold cOp fX4_touchState
    rw [if_neg (by decide), if_neg (by decide), if_neg (by decide), if_neg (by decide), Option.bind_some, if_pos rfl]
    unfold fX3_perform
    rw [if_neg (by decide), if_neg (by decide), if_neg (by decide), if_neg (by decide), if_neg (by decide), if_neg (by decide), if_neg (by decide), if_neg (by decide), if_neg (by decide), if_neg (by decide), if_neg (by decide), if_neg (by decide), if_neg (by decide), if_neg (by decide), if_neg (by decide), if_pos rfl, m1, a1]
  · unfold fX11_does
    rw [if_neg (by decide), if_neg (by decide), if_neg (by decide), if_neg (by decide), if_neg (by decide), if_neg (by decide), if_neg (by decide), if_neg (by decide), if_neg (by decide), if_neg (by decide), if_neg (by decide), if_neg (by decide), if_neg (by decide), if_neg (by decide), if_neg (by decide), if_pos rfl, if_pos fi, fc, m2, a2, Option.bind_some]
theorem op6 {P : XP} {d q s : Nat} {C M : XO} (h : MS P d (d - 1) q s C M) (hd : 0 < d) {n a : Nat} (hn : xI C 301 (d - 1) 0 = nI n) (hn0 : 0 < n) (hn2 : n < 16) (hq : s ≤ q) : ∃ C' M', cOp C (pb P) (d - 1) (6 : Int32) (nI a) = some C' ∧ fX11_does M (nI (d - 1)) (6 : Int32) (nI a) = some M' ∧ MS P d (d - 1) s s C' M' ∧ xI C' 310 (d - 1) 0 = xI C 310 (d - 1) 0 := by
  have hf : d - 1 < d := by omega
  obtain ⟨f4, fi, fc⟩ := fr5 h.1 hf
  obtain ⟨k, rfl⟩ : ∃ k, n = k + 1 := ⟨n - 1, by omega⟩
  obtain ⟨hk, v, v1, v2, v3⟩ := h.top hf hn (by omega)
  have e1 : xI M 2148 0 (d - 1) = nI (k + 1) := by rw [← hn]; exact (h.1.LN 301 (d - 1) 0 _ (by decide) (ph_301 hf)).symm
  have e2 : (16 : Int32) * nI (d - 1) + nI (k + 1) - (1 : Int32) = nI (16 * (d - 1) + k) := by
    rw [show (16 : Int32) = nI 16 from rfl, nI_mul, nI_add, ← Nat.add_assoc, nI_pred]
  have e3 : fX3_top C (d - 1) = nI v := by
    unfold fX3_top
    rw [hn, nI_pred, sAt_nI (show k < alen 2005 from hk) (by decide), v2]
  obtain ⟨C1, M1, a1, a2, a3, -, a5, -⟩ := h.push' hf hn hn2 v1
  refine ⟨C1, M1, ?_, ?_, a3.low hq, a5 310 _ _ (by decide) (by decide)⟩
  · unfold cOp fX4_touchState
    rw [if_neg (by decide), if_neg (by decide), if_neg (by decide), if_neg (by decide), Option.bind_some, if_pos rfl]
    unfold fX3_perform
    rw [if_neg (by decide), if_neg (by decide), if_neg (by decide), if_neg (by decide), if_neg (by decide), if_neg (by decide), if_pos rfl, e3, a1]
  · unfold fX11_does
    rw [if_neg (by decide), if_neg (by decide), if_neg (by decide), if_neg (by decide), if_neg (by decide), if_neg (by decide), if_pos rfl, if_pos fi, fc, e1, e2, if_pos (inB_nI (show 16 * (d - 1) + k < 80 by omega) (by decide)), cl_nI (show 16 * (d - 1) + k < 2147483648 by omega), v3, a2, Option.bind_some]
theorem op9 {P : XP} {d q s : Nat} {C M : XO} (h : MS P d (d - 1) q s C M) (hd : 0 < d) {n a : Nat} (hn : xI C 301 (d - 1) 0 = nI n) (hn2 : n < 16) (hq : s ≤ q) (ha : a ≤ 3) : ∃ C' M', cOp C (pb P) (d - 1) (9 : Int32) (nI a) = some C' ∧ fX11_does M (nI (d - 1)) (9 : Int32) (nI a) = some M' ∧ MS P d (d - 1) s s C' M' ∧ xI C' 310 (d - 1) 0 = xI C 310 (d - 1) 0 := by
  have hf : d - 1 < d := by omega
  obtain ⟨f4, fi, fc⟩ := fr5 h.1 hf
  obtain ⟨o, l, v, m, p, t, g, ⟨b1, b2, b3, b4, b5, b6, b7⟩, ⟨o1, o2⟩, ⟨l1, l2⟩, ⟨v1, v2⟩, ⟨m1, m2⟩, ⟨p1, p2⟩, ⟨t1, t2⟩, g1, g2⟩ := h.1.fr hf
  have i1 : nI o * (4 : Int32) + nI a = nI (4 * o + a) := by rw [show (4 : Int32) = nI 4 from rfl, nI_mul, nI_add, Nat.mul_comm]
  have i2 : ((48 : Int32) + ((4 : Int32) * nI o)) + nI a = nI (48 + (4 * o + a)) := by rw [show (4 : Int32) = nI 4 from rfl, nI_mul, show (48 : Int32) = nI 48 from rfl, nI_add, nI_add, Nat.add_assoc]
  have i3 : inB (nI (48 + (4 * o + a))) 120 := inB_nI (by omega) (by decide)
  have i4 : (nI (48 + (4 * o + a))).toNatClampNeg = 48 + (4 * o + a) := cl_nI (by omega)
  obtain ⟨x, x1, x2⟩ := h.2.get.2.2.2.1 (4 * o + a) (by omega)
  try dsimp only at x1
  have e1 : sAt C 2014 (pb P) (nI (4 * o + a)) = nI x := by
    rw [sAt_nI (show 4 * o + a < alen 2014 from (by show 4 * o + a < 64; omega)) (by decide), h.1.eIV (by omega), x1]
  obtain ⟨C1, M1, a1, a2, a3, -, a5, -⟩ := h.push' hf hn hn2 x2
  refine ⟨C1, M1, ?_, ?_, a3.low hq, a5 310 _ _ (by decide) (by decide)⟩
  · unfold cOp fX4_touchState
    rw [if_pos rfl, if_pos h.1.RF.2, o1, i1, e1]
    unfold wl
    try dsimp only
    rw [a1, Option.bind_some, if_neg one_n0]
  · unfold fX11_does
    rw [if_neg (by decide), if_neg (by decide), if_neg (by decide), if_neg (by decide), if_neg (by decide), if_neg (by decide), if_neg (by decide), if_neg (by decide), if_neg (by decide), if_pos rfl, if_pos fi, fc, o2, i2, if_pos i3, i4, x1, a2, Option.bind_some]
theorem op1 {P : XP} {d q s : Nat} {C M : XO} (h : MS P d (d - 1) q s C M) (hd : 0 < d) {n a : Nat} (hn : xI C 301 (d - 1) 0 = nI n) (hn0 : 2 ≤ n) (hn2 : n ≤ 16) (hq : s ≤ q) : ∃ C' M', cOp C (pb P) (d - 1) (1 : Int32) (nI a) = some C' ∧ fX11_does M (nI (d - 1)) (1 : Int32) (nI a) = some M' ∧ MS P d (d - 1) s s C' M' ∧ xI C' 310 (d - 1) 0 = xI C 310 (d - 1) 0 := by
  have hf : d - 1 < d := by omega
  obtain ⟨f4, fi, fc⟩ := fr5 h.1 hf
  obtain ⟨k, rfl⟩ : ∃ k, n = k + 1 + 1 := ⟨n - 2, by omega⟩
  obtain ⟨y, C1, M1, y1, y2, y3, y4, y5, y6, y7⟩ := h.pop' hf hn (by omega)
  obtain ⟨x, C2, M2, p1, p2, p3, p4, p5, p6, p7⟩ := y4.pop' hf y5 (by omega)
  have r1 : nI x + nI y - (nI x + nI y) / (1000000 : Int32) * (1000000 : Int32) = nI ((x + y) % 1000000) := by rw [nI_add, show (1000000 : Int32) = nI 1000000 from rfl, rem_nI (by omega) (by decide) (by decide)]
  obtain ⟨C3, M3, a1, a2, a3, -, a5, -⟩ := p4.push' hf p5 (by omega) (v := (x + y) % 1000000) (by exact Nat.mod_lt _ (by decide))
  have rk : fX11_reckoned M2 (1 : Int32) (nI x) (nI y) = some (nI ((x + y) % 1000000)) := by
    unfold fX11_reckoned wl
    try dsimp only
    rw [if_pos (show (1 : Int32) = 1 from rfl), r1]
  refine ⟨C3, M3, ?_, ?_, a3.low hq, by rw [a5 310 _ _ (by decide) (by decide), p6 310 _ _ (by decide), y6 310 _ _ (by decide)]⟩
  · unfold cOp fX4_touchState
    rw [if_neg (by decide), if_neg (by decide), if_neg (by decide), if_neg (by decide), Option.bind_some, if_pos rfl]
    unfold fX3_perform
    rw [if_neg (by decide), if_pos rfl]
    unfold fX3_calculate
    rw [if_pos rfl, y2]
    try dsimp only
    rw [p2]
    try dsimp only
    rw [r1, a1]
  · unfold fX11_does
    rw [if_neg (by decide), if_pos rfl, y3, Option.bind_some]
    try dsimp only
    rw [p3, Option.bind_some]
    try dsimp only
    rw [rk, Option.bind_some, a2, Option.bind_some]
theorem op2 {P : XP} {d q s : Nat} {C M : XO} (h : MS P d (d - 1) q s C M) (hd : 0 < d) {n a : Nat} (hn : xI C 301 (d - 1) 0 = nI n) (hn0 : 2 ≤ n) (hn2 : n ≤ 16) (hq : s ≤ q) : ∃ C' M', cOp C (pb P) (d - 1) (2 : Int32) (nI a) = some C' ∧ fX11_does M (nI (d - 1)) (2 : Int32) (nI a) = some M' ∧ MS P d (d - 1) s s C' M' ∧ xI C' 310 (d - 1) 0 = xI C 310 (d - 1) 0 := by
  have hf : d - 1 < d := by omega
  obtain ⟨f4, fi, fc⟩ := fr5 h.1 hf
  obtain ⟨k, rfl⟩ : ∃ k, n = k + 1 + 1 := ⟨n - 2, by omega⟩
  obtain ⟨y, C1, M1, y1, y2, y3, y4, y5, y6, y7⟩ := h.pop' hf hn (by omega)
  obtain ⟨x, C2, M2, p1, p2, p3, p4, p5, p6, p7⟩ := y4.pop' hf y5 (by omega)
  obtain ⟨C3, M3, a1, a2, a3, -, a5, -⟩ := p4.push' hf p5 (by omega) (v := (x + 1000000 - y) % 1000000) (by exact Nat.mod_lt _ (by decide))
  have rk : fX11_reckoned M2 (2 : Int32) (nI x) (nI y) = some (nI ((x + 1000000 - y) % 1000000)) := by
    unfold fX11_reckoned wl
    try dsimp only
    rw [if_neg (by decide), if_pos (show (2 : Int32) = 2 from rfl), sub6 p1 y1]
  refine ⟨C3, M3, ?_, ?_, a3.low hq, by rw [a5 310 _ _ (by decide) (by decide), p6 310 _ _ (by decide), y6 310 _ _ (by decide)]⟩
  · unfold cOp fX4_touchState
    rw [if_neg (by decide), if_neg (by decide), if_neg (by decide), if_neg (by decide), Option.bind_some, if_pos rfl]
    unfold fX3_perform
    rw [if_neg (by decide), if_neg (by decide), if_pos rfl]
    unfold fX3_calculate
    rw [if_neg (by decide), if_pos rfl, y2]
    try dsimp only
    rw [p2]
    try dsimp only
    rw [fmod6 p1 y1, a1]
  · unfold fX11_does
    rw [if_neg (by decide), if_neg (by decide), if_pos rfl, y3, Option.bind_some]
    try dsimp only
    rw [p3, Option.bind_some]
    try dsimp only
    rw [rk, Option.bind_some, a2, Option.bind_some]
theorem op3 {P : XP} {d q s : Nat} {C M : XO} (h : MS P d (d - 1) q s C M) (hd : 0 < d) {n a : Nat} (hn : xI C 301 (d - 1) 0 = nI n) (hn0 : 2 ≤ n) (hn2 : n ≤ 16) (hq : s ≤ q) : ∃ C' M', cOp C (pb P) (d - 1) (3 : Int32) (nI a) = some C' ∧ fX11_does M (nI (d - 1)) (3 : Int32) (nI a) = some M' ∧ MS P d (d - 1) s s C' M' ∧ xI C' 310 (d - 1) 0 = xI C 310 (d - 1) 0 := by
  have hf : d - 1 < d := by omega
  obtain ⟨f4, fi, fc⟩ := fr5 h.1 hf
  obtain ⟨k, rfl⟩ : ∃ k, n = k + 1 + 1 := ⟨n - 2, by omega⟩
  obtain ⟨y, C1, M1, y1, y2, y3, y4, y5, y6, y7⟩ := h.pop' hf hn (by omega)
  obtain ⟨x, C2, M2, p1, p2, p3, p4, p5, p6, p7⟩ := y4.pop' hf y5 (by omega)
  obtain ⟨C3, M3, a1, a2, a3, -, a5, -⟩ := p4.push' hf p5 (by omega) (v := x * y % 1000000) (by exact Nat.mod_lt _ (by decide))
  have rk : fX11_reckoned M2 (3 : Int32) (nI x) (nI y) = some (nI (x * y % 1000000)) := by
    unfold fX11_reckoned wl
    try dsimp only
    rw [if_neg (by decide), if_neg (by decide), if_pos (show (3 : Int32) = 3 from rfl), mul6 p1 y1]
  refine ⟨C3, M3, ?_, ?_, a3.low hq, by rw [a5 310 _ _ (by decide) (by decide), p6 310 _ _ (by decide), y6 310 _ _ (by decide)]⟩
  · unfold cOp fX4_touchState
    rw [if_neg (by decide), if_neg (by decide), if_neg (by decide), if_neg (by decide), Option.bind_some, if_pos rfl]
    unfold fX3_perform
    rw [if_neg (by decide), if_neg (by decide), if_neg (by decide), if_pos rfl]
    unfold fX3_calculate
    rw [if_neg (by decide), if_neg (by decide), if_pos rfl, y2]
    try dsimp only
    rw [p2]
    try dsimp only
    rw [mul6 p1 y1, a1]
  · unfold fX11_does
    rw [if_neg (by decide), if_neg (by decide), if_neg (by decide), if_pos rfl, y3, Option.bind_some]
    try dsimp only
    rw [p3, Option.bind_some]
    try dsimp only
    rw [rk, Option.bind_some, a2, Option.bind_some]
theorem op4 {P : XP} {d q s : Nat} {C M : XO} (h : MS P d (d - 1) q s C M) (hd : 0 < d) {n a : Nat} (hn : xI C 301 (d - 1) 0 = nI n) (hn0 : 2 ≤ n) (hn2 : n ≤ 16) (hq : s ≤ q) : ∃ C' M', cOp C (pb P) (d - 1) (4 : Int32) (nI a) = some C' ∧ fX11_does M (nI (d - 1)) (4 : Int32) (nI a) = some M' ∧ MS P d (d - 1) s s C' M' ∧ xI C' 310 (d - 1) 0 = xI C 310 (d - 1) 0 := by
  have hf : d - 1 < d := by omega
  obtain ⟨f4, fi, fc⟩ := fr5 h.1 hf
  obtain ⟨k, rfl⟩ : ∃ k, n = k + 1 + 1 := ⟨n - 2, by omega⟩
  obtain ⟨y, C1, M1, y1, y2, y3, y4, y5, y6, y7⟩ := h.pop' hf hn (by omega)
  obtain ⟨x, C2, M2, p1, p2, p3, p4, p5, p6, p7⟩ := y4.pop' hf y5 (by omega)
  obtain ⟨C3, M3, a1, a2, a3, -, a5, -⟩ := p4.push' hf p5 (by omega) (v := (if x < y then 1 else 0)) (by split <;> decide)
  have rk : fX11_reckoned M2 (4 : Int32) (nI x) (nI y) = some (nI ((if x < y then 1 else 0))) := by
    unfold fX11_reckoned wl
    try dsimp only
    rw [if_neg (by decide), if_neg (by decide), if_neg (by decide), if_pos (show (4 : Int32) = 4 from rfl)]
    by_cases z : x < y
    · rw [if_pos z, if_neg (nI_ge z (by omega))]
      rfl
    · rw [if_neg z, if_pos (nI_le (by omega) (by omega))]
      rfl
  refine ⟨C3, M3, ?_, ?_, a3.low hq, by rw [a5 310 _ _ (by decide) (by decide), p6 310 _ _ (by decide), y6 310 _ _ (by decide)]⟩
  · unfold cOp fX4_touchState
    rw [if_neg (by decide), if_neg (by decide), if_neg (by decide), if_neg (by decide), Option.bind_some, if_pos rfl]
    unfold fX3_perform
    rw [if_neg (by decide), if_neg (by decide), if_neg (by decide), if_neg (by decide), if_pos rfl]
    unfold fX3_calculate
    rw [if_neg (by decide), if_neg (by decide), if_neg (by decide), if_pos rfl, y2]
    try dsimp only
    rw [p2]
    try dsimp only
    by_cases z : x < y
    · rw [if_pos z] at a1
      rw [if_neg (nI_ge z (by omega))]
      exact congrArg some a1
    · rw [if_neg z] at a1
      rw [if_pos (nI_le (by omega) (by omega))]
      exact congrArg some a1
  · unfold fX11_does
    rw [if_neg (by decide), if_neg (by decide), if_neg (by decide), if_neg (by decide), if_pos rfl, y3, Option.bind_some]
    try dsimp only
    rw [p3, Option.bind_some]
    try dsimp only
    rw [rk, Option.bind_some, a2, Option.bind_some]
theorem op5 {P : XP} {d q s : Nat} {C M : XO} (h : MS P d (d - 1) q s C M) (hd : 0 < d) {n a : Nat} (hn : xI C 301 (d - 1) 0 = nI n) (hn0 : 2 ≤ n) (hn2 : n ≤ 16) (hq : s ≤ q) : ∃ C' M', cOp C (pb P) (d - 1) (5 : Int32) (nI a) = some C' ∧ fX11_does M (nI (d - 1)) (5 : Int32) (nI a) = some M' ∧ MS P d (d - 1) s s C' M' ∧ xI C' 310 (d - 1) 0 = xI C 310 (d - 1) 0 := by
  have hf : d - 1 < d := by omega
  obtain ⟨f4, fi, fc⟩ := fr5 h.1 hf
  obtain ⟨k, rfl⟩ : ∃ k, n = k + 1 + 1 := ⟨n - 2, by omega⟩
  obtain ⟨y, C1, M1, y1, y2, y3, y4, y5, y6, y7⟩ := h.pop' hf hn (by omega)
  obtain ⟨x, C2, M2, p1, p2, p3, p4, p5, p6, p7⟩ := y4.pop' hf y5 (by omega)
  obtain ⟨C3, M3, a1, a2, a3, -, a5, -⟩ := p4.push' hf p5 (by omega) (v := (if x = y then 1 else 0)) (by split <;> decide)
  have rk : fX11_reckoned M2 (5 : Int32) (nI x) (nI y) = some (nI ((if x = y then 1 else 0))) := by
    unfold fX11_reckoned wl
    try dsimp only
    rw [if_neg (by decide), if_neg (by decide), if_neg (by decide), if_neg (by decide)]
    by_cases z : x = y
    · rw [if_pos z, if_pos (by rw [z])]
      rfl
    · rw [if_neg z, if_neg (fun w => z ((nI_eq (by omega) (by omega)).mp w))]
      rfl
  refine ⟨C3, M3, ?_, ?_, a3.low hq, by rw [a5 310 _ _ (by decide) (by decide), p6 310 _ _ (by decide), y6 310 _ _ (by decide)]⟩
  · unfold cOp fX4_touchState
    rw [if_neg (by decide), if_neg (by decide), if_neg (by decide), if_neg (by decide), Option.bind_some, if_pos rfl]
    unfold fX3_perform
    rw [if_neg (by decide), if_neg (by decide), if_neg (by decide), if_neg (by decide), if_neg (by decide), if_pos rfl]
    unfold fX3_calculate
    rw [if_neg (by decide), if_neg (by decide), if_neg (by decide), if_neg (by decide), if_pos rfl, y2]
    try dsimp only
    rw [p2]
    try dsimp only
    by_cases z : x = y
    · rw [if_pos z] at a1
      rw [if_pos (by rw [z])]
      exact congrArg some a1
    · rw [if_neg z] at a1
      rw [if_neg (fun w => z ((nI_eq (by omega) (by omega)).mp w))]
      exact congrArg some a1
  · unfold fX11_does
    rw [if_neg (by decide), if_neg (by decide), if_neg (by decide), if_neg (by decide), if_neg (by decide), if_pos rfl, y3, Option.bind_some]
    try dsimp only
    rw [p3, Option.bind_some]
    try dsimp only
    rw [rk, Option.bind_some, a2, Option.bind_some]
theorem op7 {P : XP} {d q s : Nat} {C M : XO} (h : MS P d (d - 1) q s C M) (hd : 0 < d) {n a : Nat} (hn : xI C 301 (d - 1) 0 = nI n) (hn0 : 2 ≤ n) (hn2 : n ≤ 16) (hq : s ≤ q) : ∃ C' M', cOp C (pb P) (d - 1) (7 : Int32) (nI a) = some C' ∧ fX11_does M (nI (d - 1)) (7 : Int32) (nI a) = some M' ∧ MS P d (d - 1) s s C' M' ∧ xI C' 310 (d - 1) 0 = xI C 310 (d - 1) 0 := by
  have hf : d - 1 < d := by omega
  obtain ⟨f4, fi, fc⟩ := fr5 h.1 hf
  obtain ⟨k, rfl⟩ : ∃ k, n = k + 1 + 1 := ⟨n - 2, by omega⟩
  obtain ⟨y, C1, M1, y1, y2, y3, y4, y5, y6, y7⟩ := h.pop' hf hn (by omega)
  obtain ⟨x, C2, M2, p1, p2, p3, p4, p5, p6, p7⟩ := y4.pop' hf y5 (by omega)
  obtain ⟨C3, M3, a1, a2, a3, a4, a5, -⟩ := p4.push' hf p5 (by omega) y1
  obtain ⟨C4, M4, c1, c2, c3, -, c5, -⟩ := a3.push' hf a4 (by omega) p1
  refine ⟨C4, M4, ?_, ?_, c3.low hq, by rw [c5 310 _ _ (by decide) (by decide), a5 310 _ _ (by decide) (by decide), p6 310 _ _ (by decide), y6 310 _ _ (by decide)]⟩
  · unfold cOp fX4_touchState
    rw [if_neg (by decide), if_neg (by decide), if_neg (by decide), if_neg (by decide), Option.bind_some, if_pos rfl]
    unfold fX3_perform
    rw [if_neg (by decide), if_neg (by decide), if_neg (by decide), if_neg (by decide), if_neg (by decide), if_neg (by decide), if_neg (by decide), if_pos rfl]
    unfold fX3_calculate
    rw [if_neg (by decide), if_neg (by decide), if_neg (by decide), if_neg (by decide), if_neg (by decide), if_neg (by decide), if_pos rfl, y2]
    try dsimp only
    rw [p2]
    try dsimp only
    rw [a1, c1]
  · unfold fX11_does
    rw [if_neg (by decide), if_neg (by decide), if_neg (by decide), if_neg (by decide), if_neg (by decide), if_neg (by decide), if_neg (by decide), if_pos rfl, y3, Option.bind_some]
    try dsimp only
    rw [p3, Option.bind_some]
    try dsimp only
    rw [a2, Option.bind_some, c2, Option.bind_some]
theorem op8 {P : XP} {d q s : Nat} {C M : XO} (h : MS P d (d - 1) q s C M) (hd : 0 < d) {n a : Nat} (hn : xI C 301 (d - 1) 0 = nI n) (hn0 : 1 ≤ n) (hn2 : n ≤ 16) (hq : s ≤ q) : ∃ C' M', cOp C (pb P) (d - 1) (8 : Int32) (nI a) = some C' ∧ fX11_does M (nI (d - 1)) (8 : Int32) (nI a) = some M' ∧ MS P d (d - 1) s s C' M' ∧ xI C' 310 (d - 1) 0 = xI C 310 (d - 1) 0 := by
  have hf : d - 1 < d := by omega
  obtain ⟨f4, fi, fc⟩ := fr5 h.1 hf
  obtain ⟨k, rfl⟩ : ∃ k, n = k + 1 := ⟨n - 1, by omega⟩
  obtain ⟨y, C1, M1, y1, y2, y3, y4, y5, y6, y7⟩ := h.pop' hf hn (by omega)
  refine ⟨C1, M1, ?_, ?_, y4.low hq, by rw [y6 310 _ _ (by decide)]⟩
  · unfold cOp fX4_touchState
    rw [if_neg (by decide), if_neg (by decide), if_neg (by decide), if_neg (by decide), Option.bind_some, if_pos rfl]
    unfold fX3_perform
    rw [if_neg (by decide), if_neg (by decide), if_neg (by decide), if_neg (by decide), if_neg (by decide), if_neg (by decide), if_neg (by decide), if_neg (by decide), if_pos rfl, y2]
  · unfold fX11_does
    rw [if_neg (by decide), if_neg (by decide), if_neg (by decide), if_neg (by decide), if_neg (by decide), if_neg (by decide), if_neg (by decide), if_neg (by decide), if_pos rfl, y3, Option.bind_some]
theorem op11 {P : XP} {d q s : Nat} {C M : XO} (h : MS P d (d - 1) q s C M) (hd : 0 < d) {n a : Nat} (hn : xI C 301 (d - 1) 0 = nI n) (hq : s ≤ q) (ha : a ≤ 20) : ∃ C' M', cOp C (pb P) (d - 1) (11 : Int32) (nI a) = some C' ∧ fX11_does M (nI (d - 1)) (11 : Int32) (nI a) = some M' ∧ MS P d (d - 1) s s C' M' ∧ xI C' 310 (d - 1) 0 = xI C 310 (d - 1) 0 := by
  have hf : d - 1 < d := by omega
  obtain ⟨f4, fi, fc⟩ := fr5 h.1 hf
  refine ⟨_, _, ?_, ?_, (h.next hf ha).low hq, by rw [I_ne (by decide)]⟩
  · unfold cOp fX4_touchState
    rw [if_neg (by decide), if_neg (by decide), if_neg (by decide), if_neg (by decide), Option.bind_some, if_pos rfl]
    unfold fX3_perform
    rw [if_neg (by decide), if_neg (by decide), if_neg (by decide), if_neg (by decide), if_neg (by decide), if_neg (by decide), if_neg (by decide), if_neg (by decide), if_neg (by decide), if_neg (by decide), if_neg (by decide), if_pos rfl]
  · unfold fX11_does wl
    try dsimp only
    rw [if_neg (by decide), if_neg (by decide), if_neg (by decide), if_neg (by decide), if_neg (by decide), if_neg (by decide), if_neg (by decide), if_neg (by decide), if_neg (by decide), if_neg (by decide), if_neg (by decide), if_pos rfl, if_pos fi, fc]
theorem op12 {P : XP} {d q s : Nat} {C M : XO} (h : MS P d (d - 1) q s C M) (hd : 0 < d) {n a : Nat} (hn : xI C 301 (d - 1) 0 = nI n) (hn0 : 1 ≤ n) (hn2 : n ≤ 16) (hq : s ≤ q) (ha : a ≤ 20) : ∃ C' M', cOp C (pb P) (d - 1) (12 : Int32) (nI a) = some C' ∧ fX11_does M (nI (d - 1)) (12 : Int32) (nI a) = some M' ∧ MS P d (d - 1) s s C' M' ∧ xI C' 310 (d - 1) 0 = xI C 310 (d - 1) 0 := by
  have hf : d - 1 < d := by omega
  obtain ⟨f4, fi, fc⟩ := fr5 h.1 hf
  obtain ⟨k, rfl⟩ : ∃ k, n = k + 1 := ⟨n - 1, by omega⟩
  obtain ⟨y, C1, M1, y1, y2, y3, y4, y5, y6, y7⟩ := h.pop' hf hn (by omega)
  obtain ⟨o, l, v, m, p, t, g, ⟨b1, b2, b3, b4, b5, b6, b7⟩, -, -, -, -, -, ⟨t1, t2⟩, -⟩ := y4.1.fr hf
  by_cases z : y = 0
  · refine ⟨_, _, ?_, ?_, (y4.next hf ha).low hq, by rw [I_ne (by decide), y6 310 _ _ (by decide)]⟩
    · unfold cOp fX4_touchState
      rw [if_neg (by decide), if_neg (by decide), if_neg (by decide), if_neg (by decide), Option.bind_some, if_pos rfl]
      unfold fX3_perform
      rw [if_neg (by decide), if_neg (by decide), if_neg (by decide), if_neg (by decide), if_neg (by decide), if_neg (by decide), if_neg (by decide), if_neg (by decide), if_neg (by decide), if_neg (by decide), if_neg (by decide), if_neg (by decide), if_pos rfl, y2]
      try dsimp only
      rw [if_pos (by rw [z]; rfl)]
    · unfold fX11_does wl
      try dsimp only
      rw [if_neg (by decide), if_neg (by decide), if_neg (by decide), if_neg (by decide), if_neg (by decide), if_neg (by decide), if_neg (by decide), if_neg (by decide), if_neg (by decide), if_neg (by decide), if_neg (by decide), if_neg (by decide), if_pos rfl, y3, Option.bind_some]
      try dsimp only
      rw [if_pos (by rw [z]; rfl), Option.bind_some, if_pos fi, fc]
  · have z' : ¬ nI y = 0 := nI_ne0 (by omega) (by omega)
    refine ⟨_, _, ?_, ?_, (y4.next hf b6).low hq, by rw [I_ne (by decide), y6 310 _ _ (by decide)]⟩
    · unfold cOp fX4_touchState
      rw [if_neg (by decide), if_neg (by decide), if_neg (by decide), if_neg (by decide), Option.bind_some, if_pos rfl]
      unfold fX3_perform
      rw [if_neg (by decide), if_neg (by decide), if_neg (by decide), if_neg (by decide), if_neg (by decide), if_neg (by decide), if_neg (by decide), if_neg (by decide), if_neg (by decide), if_neg (by decide), if_neg (by decide), if_neg (by decide), if_pos rfl, y2]
      try dsimp only
      rw [if_neg z', t1]
    · unfold fX11_does wl
      try dsimp only
      rw [if_neg (by decide), if_neg (by decide), if_neg (by decide), if_neg (by decide), if_neg (by decide), if_neg (by decide), if_neg (by decide), if_neg (by decide), if_neg (by decide), if_neg (by decide), if_neg (by decide), if_neg (by decide), if_pos rfl, y3, Option.bind_some]
      try dsimp only
      rw [if_neg z', if_pos fi, fc, t2, Option.bind_some, if_pos fi]
theorem op16 {P : XP} {d q s : Nat} {C M : XO} (h : MS P d (d - 1) q s C M) (hd : 0 < d) {n a : Nat} (hn : xI C 301 (d - 1) 0 = nI n) (hn0 : 1 ≤ n) (hn2 : n ≤ 16) (hq : s ≤ q) : ∃ C' M', cOp C (pb P) (d - 1) (16 : Int32) (nI a) = some C' ∧ fX11_does M (nI (d - 1)) (16 : Int32) (nI a) = some M' ∧ MS P d (d - 1) s s C' M' ∧ xI C' 310 (d - 1) 0 = xI C 310 (d - 1) 0 := by
  have hf : d - 1 < d := by omega
  obtain ⟨f4, fi, fc⟩ := fr5 h.1 hf
  obtain ⟨k, rfl⟩ : ∃ k, n = k + 1 := ⟨n - 1, by omega⟩
  obtain ⟨y, C1, M1, y1, y2, y3, y4, y5, y6, y7⟩ := h.pop' hf hn (by omega)
  have hT := h.1.ZP.2.2.2.1
  have ym : y % 16 < 16 := Nat.mod_lt _ (by decide)
  have e0 : nI y - nI y / (16 : Int32) * (16 : Int32) = nI (y % 16) := by rw [show (16 : Int32) = nI 16 from rfl, rem_nI (by omega) (by decide) (by decide)]
  obtain ⟨x, x1, x2⟩ := y4.2.get.1 (y % 16) ym
  try dsimp only at x1
  have e1 : sAt C1 2011 (pb P) (nI (y % 16)) = nI x := by rw [sAt_nI (show y % 16 < alen 2011 from ym) (by decide), y4.1.eI ym, x1]
  have e2 : nI x - nI x / (1000000 : Int32) * (1000000 : Int32) = nI (x % 1000000) := by rw [show (1000000 : Int32) = nI 1000000 from rfl, rem_nI (by omega) (by decide) (by decide)]
  obtain ⟨C3, M3, a1, a2, a3, a4, a5, -⟩ := y4.push' hf y5 (by omega) (v := x % 1000000) (Nat.mod_lt _ (by decide))
  refine ⟨C3, M3, ?_, ?_, a3.low hq, by rw [a5 310 _ _ (by decide) (by decide), y6 310 _ _ (by decide)]⟩
  · unfold cOp fX4_touchState
    rw [if_neg (by decide), if_neg (by decide), if_pos rfl, if_pos h.1.RF.2, y2]
    unfold wl
    try dsimp only
    rw [e0, e1, e2, a1, Option.bind_some, if_neg one_n0]
  · unfold fX11_does
    rw [if_neg (by decide), if_neg (by decide), if_neg (by decide), if_neg (by decide), if_neg (by decide), if_neg (by decide), if_neg (by decide), if_neg (by decide), if_neg (by decide), if_neg (by decide), if_neg (by decide), if_neg (by decide), if_neg (by decide), if_neg (by decide), if_neg (by decide), if_neg (by decide), if_pos rfl, y3, Option.bind_some]
    try dsimp only
    rw [e0, if_pos (inB_nI (show y % 16 < 120 by omega) (by decide)), cl_nI (show y % 16 < 2147483648 by omega), x1, e2, a2, Option.bind_some]
theorem op17 {P : XP} {d q s : Nat} {C M : XO} (h : MS P d (d - 1) q s C M) (hd : 0 < d) {n a : Nat} (hn : xI C 301 (d - 1) 0 = nI n) (hn0 : 1 ≤ n) (hn2 : n ≤ 16) (hq : s ≤ q) (ha : a ≤ 15) : ∃ C' M', cOp C (pb P) (d - 1) (17 : Int32) (nI a) = some C' ∧ fX11_does M (nI (d - 1)) (17 : Int32) (nI a) = some M' ∧ MS P d (d - 1) s s C' M' ∧ xI C' 310 (d - 1) 0 = xI C 310 (d - 1) 0 := by
  have hf : d - 1 < d := by omega
  obtain ⟨f4, fi, fc⟩ := fr5 h.1 hf
  obtain ⟨o, l, v, m, p, t, g, ⟨b1, b2, b3, b4, b5, b6, b7⟩, -, -, -, -, -, -, g1, g2⟩ := h.1.fr hf
  have hgI : (nI g - 1).toInt = (g : Int) - 1 := by
    have e1 : (1 : Int32).toInt = 1 := rfl
    rw [ti_sub (by rw [ti_nI (by omega), e1]; omega) (by rw [ti_nI (by omega), e1]; omega), ti_nI (by omega), e1]
  have haI : nI a = nI (a + 1) - 1 := (nI_pred a).symm
  obtain ⟨r, r1, r2⟩ : ∃ r, r ≤ 16 ∧ r = (if g ≤ a then a + 1 else g) := ⟨_, by split <;> omega, rfl⟩
  have rc : (if nI g - 1 < nI a then nI a else nI g - 1) = nI r - 1 := by
    by_cases z : g ≤ a
    · rw [if_pos (by rw [ti_lt, hgI, ti_nI (by omega)]; omega), r2, if_pos z, haI]
    · rw [if_neg (by rw [ti_lt, hgI, ti_nI (by omega)]; omega), r2, if_neg z]
  have rm : (if nI a ≤ nI g - 1 then some (nI g - 1) else some (nI a)) = some (nI r - 1) := by
    by_cases z : g ≤ a
    · rw [if_neg (by rw [ti_le, hgI, ti_nI (by omega)]; omega), r2, if_pos z, haI]
    · rw [if_pos (by rw [ti_le, hgI, ti_nI (by omega)]; omega), r2, if_neg z]
  have h1 := h.reach hf r1
  have hr : fX3_reach C (d - 1) (nI a) = uI C 303 (d - 1) 0 (nI r - 1) := by
    unfold fX3_reach
    rw [g1, rc]
  have im : (16 : Int32) * nI (d - 1) + nI a = nI (16 * (d - 1) + a) := by rw [show (16 : Int32) = nI 16 from rfl, nI_mul, nI_add]
  have im2 : inB (nI (16 * (d - 1) + a)) 80 := inB_nI (by omega) (by decide)
  have im3 : (nI (16 * (d - 1) + a)).toNatClampNeg = 16 * (d - 1) + a := cl_nI (by omega)
  have hn1 : xI (uI C 303 (d - 1) 0 (nI r - 1)) 301 (d - 1) 0 = nI n := by rw [I_ne (by decide), hn]
  obtain ⟨k, rfl⟩ : ∃ k, n = k + 1 := ⟨n - 1, by omega⟩
  obtain ⟨y, C1, M1, y1, y2, y3, y4, y5, y6, y7⟩ := h1.pop' hf hn1 (by omega)
  refine ⟨_, _, ?_, ?_, (y4.mem hf (show a < 16 by omega) y1).low hq, by rw [I_ne (by decide), y6 310 _ _ (by decide), I_ne (by decide)]⟩
  · unfold cOp fX4_touchState
    rw [if_neg (by decide), if_neg (by decide), if_neg (by decide), if_neg (by decide), Option.bind_some, if_pos rfl]
    unfold fX3_perform
    rw [if_neg (by decide), if_neg (by decide), if_neg (by decide), if_neg (by decide), if_neg (by decide), if_neg (by decide), if_neg (by decide), if_neg (by decide), if_neg (by decide), if_neg (by decide), if_neg (by decide), if_neg (by decide), if_neg (by decide), if_neg (by decide), if_neg (by decide), if_neg (by decide), if_neg (by decide), if_pos rfl, hr, y2]
    unfold sPut
    rw [if_neg (nI_nlt0 (by omega)), if_neg (show ¬ nI (alen 2006) ≤ nI a from nI_ge (b := 16) (by omega) (by decide)), cl_nI (show a < 2147483648 by omega)]
  · unfold fX11_does fX11_cells wl
    try dsimp only
    rw [if_neg (by decide), if_neg (by decide), if_neg (by decide), if_neg (by decide), if_neg (by decide), if_neg (by decide), if_neg (by decide), if_neg (by decide), if_neg (by decide), if_neg (by decide), if_neg (by decide), if_neg (by decide), if_neg (by decide), if_neg (by decide), if_neg (by decide), if_neg (by decide), if_neg (by decide), if_pos rfl]
    simp only [if_pos fi, fc]
    rw [g2, rm, Option.bind_some]
    try dsimp only
    rw [if_pos trivial, y3, Option.bind_some]
    try dsimp only
    rw [im, if_pos im2, im3, Option.bind_some]
theorem op18 {P : XP} {d q s : Nat} {C M : XO} (h : MS P d (d - 1) q s C M) (hd : 0 < d) {n a : Nat} (hn : xI C 301 (d - 1) 0 = nI n) (hn2 : n < 16) (hq : s ≤ q) (ha : a ≤ 15) : ∃ C' M', cOp C (pb P) (d - 1) (18 : Int32) (nI a) = some C' ∧ fX11_does M (nI (d - 1)) (18 : Int32) (nI a) = some M' ∧ MS P d (d - 1) s s C' M' ∧ xI C' 310 (d - 1) 0 = xI C 310 (d - 1) 0 := by
  have hf : d - 1 < d := by omega
  obtain ⟨f4, fi, fc⟩ := fr5 h.1 hf
  obtain ⟨o, l, v, m, p, t, g, ⟨b1, b2, b3, b4, b5, b6, b7⟩, -, -, -, -, -, -, g1, g2⟩ := h.1.fr hf
  have hgI : (nI g - 1).toInt = (g : Int) - 1 := by
    have e1 : (1 : Int32).toInt = 1 := rfl
    rw [ti_sub (by rw [ti_nI (by omega), e1]; omega) (by rw [ti_nI (by omega), e1]; omega), ti_nI (by omega), e1]
  have haI : nI a = nI (a + 1) - 1 := (nI_pred a).symm
  obtain ⟨r, r1, r2⟩ : ∃ r, r ≤ 16 ∧ r = (if g ≤ a then a + 1 else g) := ⟨_, by split <;> omega, rfl⟩
  have rc : (if nI g - 1 < nI a then nI a else nI g - 1) = nI r - 1 := by
    by_cases z : g ≤ a
    · rw [if_pos (by rw [ti_lt, hgI, ti_nI (by omega)]; omega), r2, if_pos z, haI]
    · rw [if_neg (by rw [ti_lt, hgI, ti_nI (by omega)]; omega), r2, if_neg z]
  have rm : (if nI a ≤ nI g - 1 then some (nI g - 1) else some (nI a)) = some (nI r - 1) := by
    by_cases z : g ≤ a
    · rw [if_neg (by rw [ti_le, hgI, ti_nI (by omega)]; omega), r2, if_pos z, haI]
    · rw [if_pos (by rw [ti_le, hgI, ti_nI (by omega)]; omega), r2, if_neg z]
  have h1 := h.reach hf r1
  have hr : fX3_reach C (d - 1) (nI a) = uI C 303 (d - 1) 0 (nI r - 1) := by
    unfold fX3_reach
    rw [g1, rc]
  have im : (16 : Int32) * nI (d - 1) + nI a = nI (16 * (d - 1) + a) := by rw [show (16 : Int32) = nI 16 from rfl, nI_mul, nI_add]
  have im2 : inB (nI (16 * (d - 1) + a)) 80 := inB_nI (by omega) (by decide)
  have im3 : (nI (16 * (d - 1) + a)).toNatClampNeg = 16 * (d - 1) + a := cl_nI (by omega)
  have hn1 : xI (uI C 303 (d - 1) 0 (nI r - 1)) 301 (d - 1) 0 = nI n := by rw [I_ne (by decide), hn]
  obtain ⟨x, x1, x2⟩ := h1.1.MM (d - 1) hf a (by omega)
  have x3 : sAt (uI C 303 (d - 1) 0 (nI r - 1)) 2006 (d - 1) (nI a) = nI x := by
    rw [sAt_nI (show a < alen 2006 from (by show a < 16; omega)) (by decide), h1.1.LN 2006 _ _ _ (by decide) (ph_2006 hf (show a < 16 by omega)), x2]
  obtain ⟨C3, M3, a1, a2, a3, a4, a5, -⟩ := h1.push' hf hn1 hn2 x1
  refine ⟨C3, M3, ?_, ?_, a3.low hq, by rw [a5 310 _ _ (by decide) (by decide), I_ne (by decide)]⟩
  · unfold cOp fX4_touchState
    rw [if_neg (by decide), if_neg (by decide), if_neg (by decide), if_neg (by decide), Option.bind_some, if_pos rfl]
    unfold fX3_perform
    rw [if_neg (by decide), if_neg (by decide), if_neg (by decide), if_neg (by decide), if_neg (by decide), if_neg (by decide), if_neg (by decide), if_neg (by decide), if_neg (by decide), if_neg (by decide), if_neg (by decide), if_neg (by decide), if_neg (by decide), if_neg (by decide), if_neg (by decide), if_neg (by decide), if_neg (by decide), if_neg (by decide), if_pos rfl, hr, x3, a1]
  · unfold fX11_does fX11_cells wl
    try dsimp only
    rw [if_neg (by decide), if_neg (by decide), if_neg (by decide), if_neg (by decide), if_neg (by decide), if_neg (by decide), if_neg (by decide), if_neg (by decide), if_neg (by decide), if_neg (by decide), if_neg (by decide), if_neg (by decide), if_neg (by decide), if_neg (by decide), if_neg (by decide), if_neg (by decide), if_neg (by decide), if_neg (by decide), if_pos rfl]
    simp only [if_pos fi, fc]
    rw [g2, rm, Option.bind_some]
    try dsimp only
    rw [if_neg (by decide), im, if_pos im2, im3, x2, a2, Option.bind_some, Option.bind_some]
theorem op10 {P : XP} {d q s : Nat} {C M : XO} (h : MS P d (d - 1) q s C M) (hd : 0 < d) {n a : Nat} (hn : xI C 301 (d - 1) 0 = nI n) (hn0 : 1 ≤ n) (hn2 : n ≤ 16) (hq : s + 30 ≤ q) (ha : a ≤ 3) : ∃ C' M', cOp C (pb P) (d - 1) (10 : Int32) (nI a) = some C' ∧ fX11_does M (nI (d - 1)) (10 : Int32) (nI a) = some M' ∧ MS P d (d - 1) s s C' M' ∧ xI C' 310 (d - 1) 0 = xI C 310 (d - 1) 0 := by
  have hf : d - 1 < d := by omega
  obtain ⟨f4, fi, fc⟩ := fr5 h.1 hf
  obtain ⟨k, rfl⟩ : ∃ k, n = k + 1 := ⟨n - 1, by omega⟩
  obtain ⟨y, C1, M1, y1, y2, y3, y4, y5, y6, y7⟩ := h.pop' hf hn (by omega)
  obtain ⟨o, l, v, m, p, t, g, ⟨b1, b2, b3, b4, b5, b6, b7⟩, ⟨o1, o2⟩, -⟩ := h.1.fr hf
  have o3 : xI C1 304 (d - 1) 0 = nI o := by rw [y6 _ _ _ (by decide), o1]
  have i1 : nI o * (4 : Int32) + nI a = nI (4 * o + a) := by rw [show (4 : Int32) = nI 4 from rfl, nI_mul, nI_add, Nat.mul_comm]
  have i2 : ((48 : Int32) + ((4 : Int32) * nI o)) + nI a = nI (48 + (4 * o + a)) := by rw [show (4 : Int32) = nI 4 from rfl, nI_mul, show (48 : Int32) = nI 48 from rfl, nI_add, nI_add, Nat.add_assoc]
  have i3 : inB (nI (48 + (4 * o + a))) 120 := inB_nI (by omega) (by decide)
  have i4 : (nI (48 + (4 * o + a))).toNatClampNeg = 48 + (4 * o + a) := cl_nI (by omega)
  obtain ⟨x, x1, x2⟩ := y4.2.get.2.2.2.1 (4 * o + a) (by omega)
  try dsimp only at x1
  have hal : 4 * o + a < alen 2014 := by show 4 * o + a < 64; omega
  have e1 : sAt C1 2014 (pb P) (nI (4 * o + a)) = nI x := by rw [sAt_nI hal (by decide), y4.1.eIV (by omega), x1]
  have ep : ∀ W w, sPut W 2014 (pb P) (nI (4 * o + a)) w = uI W 2014 (pb P) (4 * o + a) w := fun W w => by
    unfold sPut
    rw [if_neg (nI_nlt0 (by omega)), if_neg (nI_ge hal (by decide)), cl_nI (by omega)]
  have fin : ∀ {C2 M2 : XO}, MS P d (d - 1) s s C2 M2 → MS P d (d - 1) s s (uI C2 2014 (pb P) (4 * o + a) (nI y)) (uI M2 2101 0 (48 + (4 * o + a)) (nI y)) := fun {C2 M2} h2 => by
    refine ⟨h2.1.wIV (by omega) _, ?_⟩
    unfold sCS
    rw [curF]
    exact stOK.slot h2.2 (by omega) y1
  by_cases z : x ≠ 0 ∧ y = 0
  · have hb := y4.back (k := 40) (q' := s) (by omega) (by omega)
    refine ⟨_, _, ?_, ?_, fin hb, by rw [I_ne (by decide), I_ne (by decide), y6 310 _ _ (by decide)]⟩
    · unfold cOp fX4_touchState wl
      try dsimp only
      rw [if_neg (by decide), if_pos rfl, y2]
      try dsimp only
      unfold fX4_write wl
      try dsimp only
      rw [o1, i1, e1, if_pos y4.1.RF.2, if_neg (nI_ne0 (by omega) (by omega)), if_pos (show nI y = 0 by rw [z.2]; rfl)]
      rw [if_pos (show xR (uI C1 406 0 0 (xI C1 406 0 0 + 40)) 404 0 = pb P from y4.1.RF.2), ep, Option.bind_some, Option.bind_some, if_neg one_n0]
      rfl
    · unfold fX11_does fX11_writes wl
      try dsimp only
      rw [if_neg (by decide), if_neg (by decide), if_neg (by decide), if_neg (by decide), if_neg (by decide), if_neg (by decide), if_neg (by decide), if_neg (by decide), if_neg (by decide), if_neg (by decide), if_pos rfl, if_pos fi, y3, Option.bind_some]
      try dsimp only
      rw [fc, o2, i2, if_pos i3, i4, x1, if_neg (show ¬ nI x = 0 from nI_ne0 (by omega) (by omega)), if_pos (show nI y = 0 by rw [z.2]; rfl), if_pos i3, Option.bind_some]
      rfl
  · have hb := y4.back (k := 0) (q' := s) (by omega) (by omega)
    have zz : (if nI x = 0 then (0 : Int32) else if nI y = 0 then 40 else 0) = nI 0 := by
      by_cases w : x = 0
      · rw [if_pos (by rw [w]; rfl)]; rfl
      · rw [if_neg (nI_ne0 (by omega) (by omega)), if_neg (nI_ne0 (by omega) (by omega))]; rfl
    have h40 : uI C1 406 0 0 (xI C1 406 0 0 + nI 0) = C1 := by
      have e0 : xI C1 406 0 0 + nI 0 = xI C1 406 0 0 := Int32.add_zero _
      rw [e0]
      unfold uI xI
      refine Prod.ext ?_ rfl
      funext a' b' c'
      try dsimp only
      by_cases w : a' = 406 ∧ b' = 0 ∧ c' = 0
      · rw [if_pos w, w.1, w.2.1, w.2.2]
      · rw [if_neg w]
    rw [h40] at hb
    refine ⟨_, _, ?_, ?_, fin hb, by rw [I_ne (by decide), y6 310 _ _ (by decide)]⟩
    · unfold cOp fX4_touchState wl
      try dsimp only
      rw [if_neg (by decide), if_pos rfl, y2]
      try dsimp only
      unfold fX4_write wl
      try dsimp only
      rw [o1, i1, e1, if_pos y4.1.RF.2]
      by_cases w : x = 0
      · rw [if_pos (show nI x = 0 by rw [w]; rfl), if_pos y4.1.RF.2, ep, Option.bind_some, Option.bind_some, if_neg one_n0]
      · rw [if_neg (show ¬ nI x = 0 from nI_ne0 (by omega) (by omega)), if_neg (show ¬ nI y = 0 from nI_ne0 (by omega) (by omega)), if_pos y4.1.RF.2, ep, Option.bind_some, Option.bind_some, if_neg one_n0]
    · unfold fX11_does fX11_writes wl
      try dsimp only
      rw [if_neg (by decide), if_neg (by decide), if_neg (by decide), if_neg (by decide), if_neg (by decide), if_neg (by decide), if_neg (by decide), if_neg (by decide), if_neg (by decide), if_neg (by decide), if_pos rfl, if_pos fi, y3, Option.bind_some]
      try dsimp only
      rw [fc, o2, i2, if_pos i3, i4, x1, zz, if_pos i3, Option.bind_some]
theorem op20 {P : XP} {d q s : Nat} {C M : XO} (h : MS P d (d - 1) q s C M) (hd : 0 < d) {n a : Nat} (hn : xI C 301 (d - 1) 0 = nI n) (hn0 : 1 ≤ n) (hn2 : n ≤ 16) (hq : s + 20 ≤ q) : ∃ C' M', cOp C (pb P) (d - 1) (20 : Int32) (nI a) = some C' ∧ fX11_does M (nI (d - 1)) (20 : Int32) (nI a) = some M' ∧ MS P d (d - 1) s s C' M' ∧ xI C' 310 (d - 1) 0 = xI C 310 (d - 1) 0 := by
  have hf : d - 1 < d := by omega
  obtain ⟨f4, fi, fc⟩ := fr5 h.1 hf
  obtain ⟨k, rfl⟩ : ∃ k, n = k + 1 := ⟨n - 1, by omega⟩
  obtain ⟨y, C1, M1, y1, y2, y3, y4, y5, y6, y7⟩ := h.pop' hf hn (by omega)
  obtain ⟨o, l, v, m, p, t, g, ⟨b1, b2, b3, b4, b5, b6, b7⟩, ⟨o1, o2⟩, -⟩ := h.1.fr hf
  have o3 : xI C1 304 (d - 1) 0 = nI o := by rw [y6 _ _ _ (by decide), o1]
  have o4 : xI M1 2140 0 (d - 1) = nI o := by rw [y7 _ _ _ (by decide), o2]
  have ym : y % 16 < 16 := Nat.mod_lt _ (by decide)
  have e0 : nI y - nI y / (16 : Int32) * (16 : Int32) = nI (y % 16) := by rw [show (16 : Int32) = nI 16 from rfl, rem_nI (by omega) (by decide) (by decide)]
  obtain ⟨c, c1, c2⟩ := y4.1.EC.1
  obtain ⟨z1, z2, z3, z4, z5, z6⟩ := h.1.ZP
  have hc : c < 40 := by omega
  have c3 : xI C1 10 (pb P) 0 = nI c := by rw [y4.1.LN 10 _ _ _ (by decide) ph_10, c1]
  have e1 : (100 : Int32) * nI (y % 16) + nI o = nI (100 * (y % 16) + o) := by rw [show (100 : Int32) = nI 100 from rfl, nI_mul, nI_add]
  have k1 : xI M1 1158 0 0 = nI (pk P) := y4.1.ST.2.2.1
  have k2 : inB (nI (pk P)) 48 := inB_nI z2 (by decide)
  have k3 : (nI (pk P)).toNatClampNeg = pk P := cl_nI (by omega)
  have e2 : (40 : Int32) * nI (pk P) + nI c = nI (40 * pk P + c) := by rw [show (40 : Int32) = nI 40 from rfl, nI_mul, nI_add]
  have e3 : inB (nI (40 * pk P + c)) 1920 := inB_nI (by omega) (by decide)
  have e4 : (nI (40 * pk P + c)).toNatClampNeg = 40 * pk P + c := cl_nI (by omega)
  obtain ⟨X, hX⟩ : ∃ X, X = nI (100 * (y % 16) + o) := ⟨_, rfl⟩
  refine ⟨uI (uI C1 2001 (pb P) c X) 10 (pb P) 0 (nI (c + 1)), uI (uI M1 2132 0 (40 * pk P + c) X) 2130 0 (pk P) (nI (c + 1)), ?_, ?_, ?_, by rw [I_ne (by decide), I_ne (by decide), y6 310 _ _ (by decide)]⟩
  · unfold cOp fX4_touchState wl
    try dsimp only
    rw [if_neg (by decide), if_neg (by decide), if_neg (by decide), if_pos rfl, if_pos h.1.RF.1, y2]
    try dsimp only
    unfold fX0_addEvent
    have w1 : xI (uI C1 2001 (pb P) c X) 10 (pb P) 0 = nI c := by rw [I_ne (by decide), c3]
    rw [e0, o3, c3, if_neg (nI_nlt0 (by omega)), if_neg (show ¬ nI (alen 2001) ≤ nI c from nI_ge (b := 40) hc (by decide)), cl_nI (show c < 2147483648 by omega), e1, ← hX, w1, nI_1, Option.bind_some, if_neg one_n0]
  · unfold fX11_does fX11_logs wl
    try dsimp only
    rw [if_neg (by decide), if_neg (by decide), if_neg (by decide), if_neg (by decide), if_neg (by decide), if_neg (by decide), if_neg (by decide), if_neg (by decide), if_neg (by decide), if_neg (by decide), if_neg (by decide), if_neg (by decide), if_neg (by decide), if_neg (by decide), if_neg (by decide), if_neg (by decide), if_neg (by decide), if_neg (by decide), if_neg (by decide), if_neg (by decide), if_pos rfl, y3, Option.bind_some]
    try dsimp only
    have w1 : ∀ u, xI (uI M1 2132 0 (40 * pk P + c) u) 1158 0 0 = nI (pk P) := fun u => by rw [I_ne (by decide), k1]
    have w2 : ∀ u, xI (uI M1 2132 0 (40 * pk P + c) u) 2130 0 (pk P) = nI c := fun u => by rw [I_ne (by decide), c1]
    rw [k1, if_pos k2, if_pos fi, k3, c1, e2, if_pos e3, e4, fc, o4, e0, e1, ← hX, w1, if_pos k2, if_pos k2, k3, w2, nI_1, Option.bind_some]
  · have y8 := y4.low (q' := s) (by omega)
    refine ⟨y8.1.stEvent (fun k hk i j => ?_) (fun k i j => by rw [L_uI, L_uI]) (fun k hk i j => ?_) (fun k i j => by rw [L_uI, L_uI]) (fun _ _ => rfl) ?_ ?_ ⟨⟨c + 1, ?_, by omega⟩, fun i hi => ?_⟩ (sFA_up (sFA_up y8.1.FA (M' := M1) cmod_st.2.2.2.2.2.2 _) cmod_st.2.2.2.2.2.1 _) (sFB_up (sFB_up y8.1.FB (C' := C1) ?_ _) ?_ _), sCS_cg (fun i j => by rw [I_ne (by decide), I_ne (by decide)]) y8.2⟩
    · obtain ⟨a1, hk⟩ := nc_ne hk
      obtain ⟨a2, -⟩ := nc_ne hk
      rw [I_ne a2, I_ne a1]
    · obtain ⟨a1, hk⟩ := nc_ne hk
      obtain ⟨a2, -⟩ := nc_ne hk
      rw [I_ne a1, I_ne a2]
    · exact ((LN.upc y8.1.LN (Or.inr phn_2001) _).upm z1 qhn_2132 _).up z1 ph_10 _
    · intro j hj hj2
      rw [I_uI, if_pos ⟨rfl, rfl, rfl⟩, ti_nI (by omega)] at hj2
      have hj3 : j ≠ c → ((j : Int) < (xI C1 10 (pb P) 0).toInt ∨ ∃ i, i < d ∧ (j : Int) < (xI C1 312 i 0).toInt) := fun w => by
        rcases hj2 with hj2 | ⟨i, i1, i2⟩
        · exact Or.inl (by rw [c3, ti_nI (by omega)]; omega)
        · rw [I_ne (by decide), I_ne (by decide)] at i2
          exact Or.inr ⟨i, i1, i2⟩
      rw [I_ne (show 2001 ≠ 10 by decide), I_ne (show 2132 ≠ 2130 by decide), I_uI, I_uI]
      by_cases w : j = c
      · rw [if_pos ⟨rfl, rfl, w⟩, if_pos ⟨rfl, rfl, by omega⟩]
        exact ⟨rfl, y % 16, o, hX, ym, b1⟩
      · rw [if_neg (fun u => w u.2.2), if_neg (fun u => by have := u.2.2; omega)]
        exact y8.1.EV j hj (hj3 w)
    · rw [I_uI, if_pos ⟨rfl, rfl, rfl⟩]
    · rw [I_ne (by decide), I_ne (by decide)]
      exact y8.1.EC.2 i hi
    · unfold mmod
      have : (40 * pk P + c) / 40 = pk P := by omega
      rw [this]
      simp
    · unfold mmod
      simp
