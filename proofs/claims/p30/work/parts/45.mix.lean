theorem eMix (M : XO) (p q : Int32) : fX11_mix M p.toInt64 q.toInt64 = some (sMix p q) := rfl
/-- the node over 2 to the power of r leaves -/
def nodeN (lf : Nat → Int32) : Nat → Nat → Int32
  | 0, p => lf p
  | r + 1, p => sMix (nodeN lf r (2 * p)) (nodeN lf r (2 * p + 1))
theorem cNode (Ω : XO) (i : Nat) : ∀ (n r p : Nat), r ≤ n → n ≤ 4 → fX10_nodeOver_l Ω i n (nI r) (nI p) = nodeN (fun q => fX6_leafOf Ω i (nI q)) r p
  | 0, r, p, h, _ => by
    rw [show r = 0 by omega]
    rfl
  | n + 1, 0, p, h, h4 => by
    rw [nO_s, if_pos (show nI 0 ≤ 0 by decide)]
    rfl
  | n + 1, r + 1, p, h, h4 => by
    rw [nO_s, if_neg (nI_nle (by omega) (by omega)), if_pos (show nI (r + 1) ≤ 4 from nI_le (b := 4) (by omega) (by decide)), nI_pred, show (2 : Int32) * nI p = nI (2 * p) from by rw [show (2 : Int32) = nI 2 from rfl, nI_mul], nI_1, cNode Ω i n r (2 * p) (by omega) (by omega), cNode Ω i n r (2 * p + 1) (by omega) (by omega)]
    rfl
theorem eLeaf {D : XD} {C M : XO} (h : RGD D C M) {g k : Nat} (hg : g < 48) (hk : k < 16) : fX11_leafOf M (nI (120 * g)) (nI k) = some (fX6_leafOf C g (nI k)) := by
  obtain ⟨s1, s2, s3, s4, -⟩ := h.ST g hg
  have a1 : nI (120 * g) + 48 + 4 * nI k = nI (120 * g + 48 + 4 * k) := by
    rw [show (48 : Int32) = nI 48 from rfl, show (4 : Int32) = nI 4 from rfl, nI_mul, nI_add, nI_add]
  have a2 : nI (120 * g) + 16 + nI k = nI (120 * g + 16 + k) := by
    rw [show (16 : Int32) = nI 16 from rfl, nI_add, nI_add]
  have a3 : nI (120 * g) + 32 + nI k = nI (120 * g + 32 + k) := by
    rw [show (32 : Int32) = nI 32 from rfl, nI_add, nI_add]
  have a4 : nI (120 * g) + nI k = nI (120 * g + k) := nI_add _ _
  have b1 : nI (120 * g + 48 + 4 * k) + 1 = nI (120 * g + 48 + (4 * k + 1)) := by
    rw [nI_1, Nat.add_assoc]
  have b2 : nI (120 * g + 48 + 4 * k) + 2 = nI (120 * g + 48 + (4 * k + 2)) := by
    rw [show (2 : Int32) = nI 2 from rfl, nI_add, Nat.add_assoc]
  have b3 : nI (120 * g + 48 + 4 * k) + 3 = nI (120 * g + 48 + (4 * k + 3)) := by
    rw [show (3 : Int32) = nI 3 from rfl, nI_add, Nat.add_assoc]
  have c0 : nI k * 4 = nI (4 * k) := by rw [show (4 : Int32) = nI 4 from rfl, nI_mul, Nat.mul_comm]
  have c2 : nI (4 * k) + 2 = nI (4 * k + 2) := by rw [show (2 : Int32) = nI 2 from rfl, nI_add]
  have c3 : nI (4 * k) + 3 = nI (4 * k + 3) := by rw [show (3 : Int32) = nI 3 from rfl, nI_add]
  have q0 : inB (nI (120 * g + 48 + 4 * k)) 5760 := inB_nI (by omega) (by decide)
  have q1 : inB (nI (120 * g + 48 + (4 * k + 1))) 5760 := inB_nI (by omega) (by decide)
  have q2 : inB (nI (120 * g + 48 + (4 * k + 2))) 5760 := inB_nI (by omega) (by decide)
  have q3 : inB (nI (120 * g + 48 + (4 * k + 3))) 5760 := inB_nI (by omega) (by decide)
  have q4 : inB (nI (120 * g + 16 + k)) 5760 := inB_nI (by omega) (by decide)
  have q5 : inB (nI (120 * g + 32 + k)) 5760 := inB_nI (by omega) (by decide)
  have q6 : inB (nI (120 * g + k)) 5760 := inB_nI (by omega) (by decide)
  unfold fX11_leafOf
  rw [a1, a2, a3, a4, b1, b2, b3]
  simp only [if_pos q0, if_pos q1, if_pos q2, if_pos q3, if_pos q4, if_pos q5, if_pos q6, eMix, Option.bind_some]
  rw [cl_nI (by omega), cl_nI (by omega), cl_nI (by omega), cl_nI (by omega), cl_nI (by omega), cl_nI (by omega), cl_nI (by omega)]
  rw [← s1 k hk, ← s2 k hk, ← s3 k hk, ← s4 (4 * k) (by omega), ← s4 (4 * k + 1) (by omega), ← s4 (4 * k + 2) (by omega), ← s4 (4 * k + 3) (by omega)]
  unfold fX6_leafOf
  rw [c0, nI_1, c2, c3, sAt_nI (show k < 16 from hk) (by decide), sAt_nI (show k < 16 from hk) (by decide), sAt_nI (show k < 16 from hk) (by decide), sAt_nI (show 4 * k < 64 by omega) (by decide), sAt_nI (show 4 * k + 1 < 64 by omega) (by decide), sAt_nI (show 4 * k + 2 < 64 by omega) (by decide), sAt_nI (show 4 * k + 3 < 64 by omega) (by decide)]
/-- the reference's row of leaves -/
def setL (M : XO) (f : Nat → Int32) : XO := (fun k i j => if k = 2159 ∧ i = 0 then f j else M.1 k i j, M.2.1, M.2.2)
theorem setL_u (M : XO) (f : Nat → Int32) (y : Nat) (v : Int32) : uI (setL M f) 2159 0 y v = setL M (fun j => if j = y then v else f j) := by
  unfold uI setL
  refine Prod.ext ?_ rfl
  funext k i j
  show (if k = 2159 ∧ i = 0 ∧ j = y then v else if k = 2159 ∧ i = 0 then f j else M.1 k i j) = if k = 2159 ∧ i = 0 then (if j = y then v else f j) else M.1 k i j
  by_cases h1 : k = 2159 ∧ i = 0
  · rw [if_pos h1, if_pos h1]
    by_cases h2 : j = y
    · rw [if_pos ⟨h1.1, h1.2, h2⟩, if_pos h2]
    · rw [if_neg (fun z => h2 z.2.2), if_neg h2]
  · rw [if_neg h1, if_neg h1, if_neg (fun z => h1 ⟨z.1, z.2.1⟩)]
theorem setL_I (M : XO) (f : Nat → Int32) {k i j : Nat} (h : k ≠ 2159) : xI (setL M f) k i j = xI M k i j := if_neg (fun z => h z.1)
theorem setL_0 (M : XO) (f : Nat → Int32) (j : Nat) : xI (setL M f) 2159 0 j = f j := by
  show (if 2159 = 2159 ∧ 0 = 0 then f j else M.1 2159 0 j) = f j
  rw [if_pos ⟨rfl, rfl⟩]
theorem setL_self (M : XO) : setL M (fun j => xI M 2159 0 j) = M := by
  unfold setL
  refine Prod.ext ?_ rfl
  funext k i j
  show (if k = 2159 ∧ i = 0 then xI M 2159 0 j else M.1 k i j) = M.1 k i j
  by_cases h1 : k = 2159 ∧ i = 0
  · rw [if_pos h1, h1.1, h1.2]; rfl
  · rw [if_neg h1]
theorem RGD.setL {D : XD} {C M : XO} (h : RGD D C M) (f : Nat → Int32) : RGD D C (setL M f) := h.keep2 (fun _ _ _ _ => rfl) (fun _ _ _ _ => rfl) (fun k hk _ _ => setL_I M f (fun z => absurd (z ▸ hk) (by decide))) (fun _ _ _ _ => rfl)
theorem leavesP {D : XD} {C M : XO} (h : RGD D C M) {c b : Nat} (hc : c < 2) (hb : b < 24) (x3 x4 : Int32) : ∀ (n y : Nat) (f : Nat → Int32), y + n = 16 → fX11_proof_l45 (nI c) (nI b) x3 x4 (n + 1) (nI y) (setL M f) = some (nI 16, setL M (fun j => if y ≤ j ∧ j < 16 then fX6_leafOf C (24 * c + b) (nI j) else f j))
  | 0, y, f, hy => by
    obtain rfl : y = 16 := by omega
    rw [fX11_proof_l45, if_pos (show (16 : Int32) ≤ nI 16 by decide)]
    have e : (fun j => if 16 ≤ j ∧ j < 16 then fX6_leafOf C (24 * c + b) (nI j) else f j) = f := by
      funext j
      rw [if_neg (by omega)]
    rw [e]
  | n + 1, y, f, hy => by
    have hl := eLeaf (h.setL f) (g := 24 * c + b) (k := y) (by omega) (by omega)
    have ha : (120 : Int32) * ((24 : Int32) * nI c + nI b) = nI (120 * (24 * c + b)) := by
      rw [(inB_24 hc hb).2.1, show (120 : Int32) = nI 120 from rfl, nI_mul]
    rw [fX11_proof_l45, if_neg (show ¬ (16 : Int32) ≤ nI y from nI_ge (b := 16) (by omega) (by decide))]
    simp only [n_at, Option.bind_some, ha, hl]
    rw [if_pos (inB_nI (by omega) (by decide)), cl_nI (by omega)]
    unfold wl
    dsimp only
    rw [setL_u, nI_1, leavesP h hc hb x3 x4 n (y + 1) _ (by omega)]
    congr 3
    funext j
    by_cases h1 : j = y
    · subst h1
      rw [if_neg (by omega), if_pos rfl, if_pos (by omega)]
    · by_cases h2 : y ≤ j ∧ j < 16
      · rw [if_pos (by omega), if_pos h2]
      · rw [if_neg (by omega), if_neg h1, if_neg h2]
theorem leavesR {D : XD} {C M : XO} (h : RGD D C M) {g : Nat} (hg : g < 48) : ∀ (n y : Nat) (f : Nat → Int32), y + n = 16 → fX11_rootOf_l2 (nI (120 * g)) (n + 1) (nI y) (setL M f) = some (nI 16, setL M (fun j => if y ≤ j ∧ j < 16 then fX6_leafOf C g (nI j) else f j))
  | 0, y, f, hy => by
    obtain rfl : y = 16 := by omega
    rw [fX11_rootOf_l2, if_pos (show (16 : Int32) ≤ nI 16 by decide)]
    have e : (fun j => if 16 ≤ j ∧ j < 16 then fX6_leafOf C g (nI j) else f j) = f := by
      funext j
      rw [if_neg (by omega)]
    rw [e]
  | n + 1, y, f, hy => by
    have hl := eLeaf (h.setL f) (g := g) (k := y) hg (by omega)
    rw [fX11_rootOf_l2, if_neg (show ¬ (16 : Int32) ≤ nI y from nI_ge (b := 16) (by omega) (by decide))]
    simp only [Option.bind_some, hl]
    rw [if_pos (inB_nI (by omega) (by decide)), cl_nI (by omega)]
    unfold wl
    dsimp only
    rw [setL_u, nI_1, leavesR h hg n (y + 1) _ (by omega)]
    congr 3
    funext j
    by_cases h1 : j = y
    · subst h1
      rw [if_neg (by omega), if_pos rfl, if_pos (by omega)]
    · by_cases h2 : y ≤ j ∧ j < 16
      · rw [if_pos (by omega), if_pos h2]
      · rw [if_neg (by omega), if_neg h1, if_neg h2]
/-- one round of mixing neighbours: the first m places -/
theorem foldL (M : XO) (y1 : Int32) {r m : Nat} (hm : m ≤ 8) (hr : (8 : Int32) >>> (nI r &&& 31) = nI m) : ∀ (n y : Nat) (f : Nat → Int32), y + n = m → fX11_fold_l9 (nI r) y1 (n + 1) (nI y) (setL M f) = some (nI m, setL M (fun j => if y ≤ j ∧ j < m then sMix (f (2 * j)) (f (2 * j + 1)) else f j))
  | 0, y, f, hy => by
    obtain rfl : y = m := by omega
    rw [fX11_fold_l9, hr, if_pos (Int32.le_refl _)]
    have e : (fun j => if y ≤ j ∧ j < y then sMix (f (2 * j)) (f (2 * j + 1)) else f j) = f := by
      funext j
      rw [if_neg (by omega)]
    rw [e]
  | n + 1, y, f, hy => by
    have e2 : (2 : Int32) * nI y = nI (2 * y) := by rw [show (2 : Int32) = nI 2 from rfl, nI_mul]
    rw [fX11_fold_l9, hr, if_neg (nI_ge (by omega) (by omega)), e2, nI_1, if_pos (inB_nI (by omega) (by decide)), if_pos (inB_nI (by omega) (by decide)), cl_nI (by omega), cl_nI (by omega), setL_0, setL_0, ob_s (eMix _ _ _), if_pos (inB_nI (by omega) (by decide)), cl_nI (by omega)]
    unfold wl
    dsimp only
    rw [setL_u, nI_1, foldL M y1 hm hr n (y + 1) _ (by omega)]
    congr 3
    funext j
    by_cases h1 : j = y
    · subst h1
      rw [if_neg (by omega), if_pos rfl, if_pos (by omega)]
    · by_cases h2 : y ≤ j ∧ j < m
      · rw [if_pos (by omega), if_pos h2, if_neg (by omega), if_neg (by omega)]
      · rw [if_neg (by omega), if_neg h1, if_neg h2]
theorem sh8 : ∀ r, r < 4 → (8 : Int32) >>> (nI r &&& 31) = nI (8 >>> r) ∧ 8 >>> r ≤ 8 := by decide +kernel
/-- what the row of leaves is behind r rounds -/
def rnd (f : Nat → Int32) : Nat → Nat → Int32
  | 0, j => f j
  | r + 1, j => if j < 8 >>> r then sMix (rnd f r (2 * j)) (rnd f r (2 * j + 1)) else rnd f r j
theorem foldA (M : XO) {R : Nat} (hR : R ≤ 4) (f : Nat → Int32) : ∀ (n r : Nat), r + n = R → fX11_fold_l2 (nI R) (n + 1) (nI r) (setL M (rnd f r)) = some (nI R, setL M (rnd f R))
  | 0, r, h => by
    obtain rfl : r = R := by omega
    rw [fX11_fold_l2, if_pos (Int32.le_refl _)]
  | n + 1, r, h => by
    obtain ⟨s1, s2⟩ := sh8 r (by omega)
    rw [fX11_fold_l2, if_neg (nI_ge (by omega) (by omega)), s1, cl_nI (by omega), show (0 : Int32) = nI 0 from rfl, foldL M (nI R) s2 s1 (8 >>> r) 0 _ (by omega), Option.bind_some, nI_1]
    have e : (fun j => if 0 ≤ j ∧ j < 8 >>> r then sMix (rnd f r (2 * j)) (rnd f r (2 * j + 1)) else rnd f r j) = rnd f (r + 1) := by
      funext j
      show _ = if j < 8 >>> r then _ else _
      by_cases h1 : j < 8 >>> r
      · rw [if_pos ⟨Nat.zero_le _, h1⟩, if_pos h1]
      · rw [if_neg (fun z => h1 z.2), if_neg h1]
    rw [e]
    exact foldA M hR f n (r + 1) (by omega)
theorem eFold (M : XO) {R : Nat} (hR : R ≤ 4) (f : Nat → Int32) : fX11_fold (setL M f) (nI R) = some (setL M (rnd f R)) := by
  unfold fX11_fold
  have h := foldA M hR f R 0 (by omega)
  rw [cl_nI (by omega)]
  have h2 : fX11_fold_l2 (nI R) (R + 1) (0 : Int32) (setL M f) = some (nI R, setL M (rnd f R)) := h
  rw [ob_s h2]
theorem sh16 {r j : Nat} (h : r < 4) (hj : j < 16 >>> (r + 1)) : j < 8 >>> r ∧ 2 * j < 16 >>> r ∧ 2 * j + 1 < 16 >>> r := by
  rcases (show r = 0 ∨ r = 1 ∨ r = 2 ∨ r = 3 by omega) with rfl | rfl | rfl | rfl
  · have hj : j < 8 := hj
    exact ⟨hj, (show 2 * j < 16 by omega), (show 2 * j + 1 < 16 by omega)⟩
  · have hj : j < 4 := hj
    exact ⟨hj, (show 2 * j < 8 by omega), (show 2 * j + 1 < 8 by omega)⟩
  · have hj : j < 2 := hj
    exact ⟨hj, (show 2 * j < 4 by omega), (show 2 * j + 1 < 4 by omega)⟩
  · have hj : j < 1 := hj
    exact ⟨hj, (show 2 * j < 2 by omega), (show 2 * j + 1 < 2 by omega)⟩
theorem rnd_node (f : Nat → Int32) : ∀ r, r ≤ 4 → ∀ j, j < 16 >>> r → rnd f r j = nodeN f r j
  | 0, _, j, _ => rfl
  | r + 1, h, j, hj => by
    have h1 := sh16 (show r < 4 by omega) hj
    show (if j < 8 >>> r then sMix (rnd f r (2 * j)) (rnd f r (2 * j + 1)) else rnd f r j) = sMix (nodeN f r (2 * j)) (nodeN f r (2 * j + 1))
    rw [if_pos h1.1, rnd_node f r (by omega) _ h1.2.1, rnd_node f r (by omega) _ h1.2.2]
theorem nodeN_cg {f g : Nat → Int32} (hfg : ∀ j, j < 16 → f j = g j) : ∀ r, r ≤ 4 → ∀ j, j < 16 >>> r → nodeN f r j = nodeN g r j
  | 0, _, j, hj => hfg j hj
  | r + 1, h, j, hj => by
    have h1 := sh16 (show r < 4 by omega) hj
    show sMix (nodeN f r (2 * j)) (nodeN f r (2 * j + 1)) = sMix (nodeN g r (2 * j)) (nodeN g r (2 * j + 1))
    rw [nodeN_cg hfg r (by omega) _ h1.2.1, nodeN_cg hfg r (by omega) _ h1.2.2]
/-- the reference's root is the class's node over all -/
theorem eRoot {D : XD} {C M : XO} (h : RGD D C M) {g : Nat} (hg : g < 48) : fX11_rootOf M (nI (120 * g)) = some (fX10_nodeOver C g 4 0, setL M (rnd (fun j => if j < 16 then fX6_leafOf C g (nI j) else xI M 2159 0 j) 4)) := by
  unfold fX11_rootOf
  have h1 := leavesR h hg 16 0 (fun j => xI M 2159 0 j) rfl
  rw [setL_self] at h1
  have e : (fun j => if 0 ≤ j ∧ j < 16 then fX6_leafOf C g (nI j) else xI M 2159 0 j) = (fun j => if j < 16 then fX6_leafOf C g (nI j) else xI M 2159 0 j) := by
    funext j
    by_cases h2 : j < 16
    · rw [if_pos ⟨Nat.zero_le _, h2⟩, if_pos h2]
    · rw [if_neg (fun z => h2 z.2), if_neg h2]
  rw [e] at h1
  have h1' : fX11_rootOf_l2 (nI (120 * g)) 17 (0 : Int32) M = _ := h1
  rw [ob_s h1', show (4 : Int32) = nI 4 from rfl, ob_s (eFold M (by decide) _)]
  rw [show (0 : Int32).toNatClampNeg = 0 from rfl, setL_0, rnd_node _ 4 (by decide) 0 (by decide)]
  have h3 : fX10_nodeOver C g 4 0 = nodeN (fun q => fX6_leafOf C g (nI q)) 4 0 := cNode C g 4 4 0 (by decide) (by decide)
  have h4 := nodeN_cg (f := fun j => if j < 16 then fX6_leafOf C g (nI j) else xI M 2159 0 j) (g := fun q => fX6_leafOf C g (nI q)) (fun j hj => if_pos hj) 4 (by decide) 0 (by decide)
  rw [show fX10_nodeOver C g (nI 4) 0 = nodeN (fun q => fX6_leafOf C g (nI q)) 4 0 from h3, h4]
def pidx (k r : Nat) : Nat := if (k >>> r) % 2 = 0 then (k >>> r) + 1 else (k >>> r) - 1
theorem pix : ∀ k, k < 16 → ∀ r, r < 4 → ((nI k >>> (nI r &&& 31)) ^^^ 1 = nI (pidx k r)) ∧ ((if ((nI k >>> (nI r &&& 31)) - (nI k >>> (nI r &&& 31)) / 2 * 2) = 0 then (nI k >>> (nI r &&& 31)) + 1 else (nI k >>> (nI r &&& 31)) - 1) = nI (pidx k r)) ∧ pidx k r < 16 >>> r ∧ pidx k r < 16 := by decide +kernel
