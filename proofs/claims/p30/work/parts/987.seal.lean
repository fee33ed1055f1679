/-- the state of a block, the same on both sides -/
def qS1 (C M : XO) (g : Nat) : Prop := (∀ j, j < 16 → xI C 2011 g j = xI M 2100 0 (120 * g + j)) ∧ (∀ j, j < 16 → xI C 2012 g j = xI M 2100 0 (120 * g + 16 + j)) ∧ (∀ j, j < 16 → xI C 2013 g j = xI M 2100 0 (120 * g + 32 + j)) ∧ (∀ j, j < 64 → xI C 2014 g j = xI M 2100 0 (120 * g + 48 + j)) ∧ xI C 604 g 0 = xI M 2100 0 (120 * g + 112)
theorem qS1.setL {C M : XO} {g : Nat} (h : qS1 C M g) (f : Nat → Int32) : qS1 C (setL M f) g := by
  obtain ⟨h1, h2, h3, h4, h5⟩ := h
  exact ⟨fun j hj => by rw [setL_I _ _ (by decide), h1 j hj], fun j hj => by rw [setL_I _ _ (by decide), h2 j hj], fun j hj => by rw [setL_I _ _ (by decide), h3 j hj], fun j hj => by rw [setL_I _ _ (by decide), h4 j hj], by rw [setL_I _ _ (by decide), h5]⟩
theorem eLeaf2 {C M : XO} {g k : Nat} (h : qS1 C M g) (hg : g < 48) (hk : k < 16) : fX11_leafOf M (nI (120 * g)) (nI k) = some (fX6_leafOf C g (nI k)) := by
  obtain ⟨s1, s2, s3, s4, -⟩ := h
  have a1 : nI (120 * g) + 48 + 4 * nI k = nI (120 * g + 48 + 4 * k) := by
    rw [show (48 : Int32) = nI 48 from rfl, show (4 : Int32) = nI 4 from rfl, nI_mul, nI_add, nI_add]
  have a2 : nI (120 * g) + 16 + nI k = nI (120 * g + 16 + k) := by
    rw [show (16 : Int32) = nI 16 from rfl, nI_add, nI_add]
  have a3 : nI (120 * g) + 32 + nI k = nI (120 * g + 32 + k) := by
    rw [show (32 : Int32) = nI 32 from rfl, nI_add, nI_add]
  have a4 : nI (120 * g) + nI k = nI (120 * g + k) := nI_add _ _
  have b1 : nI (120 * g + 48 + 4 * k) + 1 = nI (120 * g + 48 + (4 * k + 1)) := by
    rw [nI_1, Nat.add_assoc]
  have b2 : nI (120 * g + 48 + 4 * k) + 2 = nI (120 * g + 48 + (4 * k + 2)) := by
    rw [show (2 : Int32) = nI 2 from rfl, nI_add, Nat.add_assoc]
  have b3 : nI (120 * g + 48 + 4 * k) + 3 = nI (120 * g + 48 + (4 * k + 3)) := by
    rw [show (3 : Int32) = nI 3 from rfl, nI_add, Nat.add_assoc]
  have c0 : nI k * 4 = nI (4 * k) := by rw [show (4 : Int32) = nI 4 from rfl, nI_mul, Nat.mul_comm]
  have c2 : nI (4 * k) + 2 = nI (4 * k + 2) := by rw [show (2 : Int32) = nI 2 from rfl, nI_add]
  have c3 : nI (4 * k) + 3 = nI (4 * k + 3) := by rw [show (3 : Int32) = nI 3 from rfl, nI_add]
  have q0 : inB (nI (120 * g + 48 + 4 * k)) 5760 := inB_nI (by omega) (by decide)
  have q1 : inB (nI (120 * g + 48 + (4 * k + 1))) 5760 := inB_nI (by omega) (by decide)
  have q2 : inB (nI (120 * g + 48 + (4 * k + 2))) 5760 := inB_nI (by omega) (by decide)
  have q3 : inB (nI (120 * g + 48 + (4 * k + 3))) 5760 := inB_nI (by omega) (by decide)
  have q4 : inB (nI (120 * g + 16 + k)) 5760 := inB_nI (by omega) (by decide)
  have q5 : inB (nI (120 * g + 32 + k)) 5760 := inB_nI (by omega) (by decide)
  have q6 : inB (nI (120 * g + k)) 5760 := inB_nI (by omega) (by decide)
  unfold fX11_leafOf
  rw [a1, a2, a3, a4, b1, b2, b3]
  simp only [if_pos q0, if_pos q1, if_pos q2, if_pos q3, if_pos q4, if_pos q5, if_pos q6, eMix, Option.bind_some]
  rw [cl_nI (by omega), cl_nI (by omega), cl_nI (by omega), cl_nI (by omega), cl_nI (by omega), cl_nI (by omega), cl_nI (by omega)]
  rw [← s1 k hk, ← s2 k hk, ← s3 k hk, ← s4 (4 * k) (by omega), ← s4 (4 * k + 1) (by omega), ← s4 (4 * k + 2) (by omega), ← s4 (4 * k + 3) (by omega)]
  unfold fX6_leafOf
  rw [c0, nI_1, c2, c3, sAt_nI (show k < 16 from hk) (by decide), sAt_nI (show k < 16 from hk) (by decide), sAt_nI (show k < 16 from hk) (by decide), sAt_nI (show 4 * k < 64 by omega) (by decide), sAt_nI (show 4 * k + 1 < 64 by omega) (by decide), sAt_nI (show 4 * k + 2 < 64 by omega) (by decide), sAt_nI (show 4 * k + 3 < 64 by omega) (by decide)]
theorem leavesR2 {C M : XO} {g : Nat} (h : qS1 C M g) (hg : g < 48) : ∀ (n y : Nat) (f : Nat → Int32), y + n = 16 → fX11_rootOf_l2 (nI (120 * g)) (n + 1) (nI y) (setL M f) = some (nI 16, setL M (fun j => if y ≤ j ∧ j < 16 then fX6_leafOf C g (nI j) else f j))
  | 0, y, f, hy => by
    obtain rfl : y = 16 := by omega
    rw [fX11_rootOf_l2, if_pos (show (16 : Int32) ≤ nI 16 by decide)]
    have e : (fun j => if 16 ≤ j ∧ j < 16 then fX6_leafOf C g (nI j) else f j) = f := by
      funext j
      rw [if_neg (by omega)]
    rw [e]
  | n + 1, y, f, hy => by
    have hl := eLeaf2 (h.setL f) (g := g) (k := y) hg (by omega)
    rw [fX11_rootOf_l2, if_neg (show ¬ (16 : Int32) ≤ nI y from nI_ge (b := 16) (by omega) (by decide))]
    simp only [Option.bind_some, hl]
    rw [if_pos (inB_nI (by omega) (by decide)), cl_nI (by omega)]
    unfold wl
    dsimp only
    rw [setL_u, nI_1, leavesR2 h hg n (y + 1) _ (by omega)]
    congr 3
    funext j
    by_cases h1 : j = y
    · subst h1
      rw [if_neg (by omega), if_pos rfl, if_pos (by omega)]
    · by_cases h2 : y ≤ j ∧ j < 16
      · rw [if_pos (by omega), if_pos h2]
      · rw [if_neg (by omega), if_neg h1, if_neg h2]
theorem eRoot2 {C M : XO} {g : Nat} (h : qS1 C M g) (hg : g < 48) : fX11_rootOf M (nI (120 * g)) = some (fX10_nodeOver C g 4 0, setL M (rnd (fun j => if j < 16 then fX6_leafOf C g (nI j) else xI M 2159 0 j) 4)) := by
  unfold fX11_rootOf
  have h1 := leavesR2 h hg 16 0 (fun j => xI M 2159 0 j) rfl
  rw [setL_self] at h1
  have e : (fun j => if 0 ≤ j ∧ j < 16 then fX6_leafOf C g (nI j) else xI M 2159 0 j) = (fun j => if j < 16 then fX6_leafOf C g (nI j) else xI M 2159 0 j) := by
    funext j
    by_cases h2 : j < 16
    · rw [if_pos ⟨Nat.zero_le _, h2⟩, if_pos h2]
    · rw [if_neg (fun z => h2 z.2), if_neg h2]
  rw [e] at h1
  have h1' : fX11_rootOf_l2 (nI (120 * g)) 17 (0 : Int32) M = _ := h1
  rw [ob_s h1', show (4 : Int32) = nI 4 from rfl, ob_s (eFold M (by decide) _)]
  rw [show (0 : Int32).toNatClampNeg = 0 from rfl, setL_0, rnd_node _ 4 (by decide) 0 (by decide)]
  have h3 : fX10_nodeOver C g 4 0 = nodeN (fun q => fX6_leafOf C g (nI q)) 4 0 := cNode C g 4 4 0 (by decide) (by decide)
  have h4 := nodeN_cg (f := fun j => if j < 16 then fX6_leafOf C g (nI j) else xI M 2159 0 j) (g := fun q => fX6_leafOf C g (nI q)) (fun j hj => if_pos hj) 4 (by decide) 0 (by decide)
  rw [show fX10_nodeOver C g (nI 4) 0 = nodeN (fun q => fX6_leafOf C g (nI q)) 4 0 from h3, h4]
theorem leaf_cg {C W : XO} {g i k : Nat} (hk : k < 16) (h1 : ∀ j, j < 16 → xI W 2011 i j = xI C 2011 g j) (h2 : ∀ j, j < 16 → xI W 2012 i j = xI C 2012 g j) (h3 : ∀ j, j < 16 → xI W 2013 i j = xI C 2013 g j) (h4 : ∀ j, j < 64 → xI W 2014 i j = xI C 2014 g j) : fX6_leafOf W i (nI k) = fX6_leafOf C g (nI k) := by
  have c0 : nI k * 4 = nI (4 * k) := by rw [show (4 : Int32) = nI 4 from rfl, nI_mul, Nat.mul_comm]
  have c2 : nI (4 * k) + 2 = nI (4 * k + 2) := by rw [show (2 : Int32) = nI 2 from rfl, nI_add]
  have c3 : nI (4 * k) + 3 = nI (4 * k + 3) := by rw [show (3 : Int32) = nI 3 from rfl, nI_add]
  unfold fX6_leafOf
  rw [c0, nI_1, c2, c3]
  simp only [sAt_nI (Ω := W) (i := i) (show k < alen 2011 from hk) (by decide), sAt_nI (Ω := W) (i := i) (show k < alen 2012 from hk) (by decide), sAt_nI (Ω := W) (i := i) (show k < alen 2013 from hk) (by decide), sAt_nI (Ω := W) (i := i) (show 4 * k < alen 2014 from (by show 4 * k < 64; omega)) (by decide), sAt_nI (Ω := W) (i := i) (show 4 * k + 1 < alen 2014 from (by show 4 * k + 1 < 64; omega)) (by decide), sAt_nI (Ω := W) (i := i) (show 4 * k + 2 < alen 2014 from (by show 4 * k + 2 < 64; omega)) (by decide), sAt_nI (Ω := W) (i := i) (show 4 * k + 3 < alen 2014 from (by show 4 * k + 3 < 64; omega)) (by decide), sAt_nI (Ω := C) (i := g) (show k < alen 2011 from hk) (by decide), sAt_nI (Ω := C) (i := g) (show k < alen 2012 from hk) (by decide), sAt_nI (Ω := C) (i := g) (show k < alen 2013 from hk) (by decide), sAt_nI (Ω := C) (i := g) (show 4 * k < alen 2014 from (by show 4 * k < 64; omega)) (by decide), sAt_nI (Ω := C) (i := g) (show 4 * k + 1 < alen 2014 from (by show 4 * k + 1 < 64; omega)) (by decide), sAt_nI (Ω := C) (i := g) (show 4 * k + 2 < alen 2014 from (by show 4 * k + 2 < 64; omega)) (by decide), sAt_nI (Ω := C) (i := g) (show 4 * k + 3 < alen 2014 from (by show 4 * k + 3 < 64; omega)) (by decide), h1 k hk, h2 k hk, h3 k hk, h4 (4 * k) (by omega), h4 (4 * k + 1) (by omega), h4 (4 * k + 2) (by omega), h4 (4 * k + 3) (by omega)]
theorem node_cg {C W : XO} {g i : Nat} (h1 : ∀ j, j < 16 → xI W 2011 i j = xI C 2011 g j) (h2 : ∀ j, j < 16 → xI W 2012 i j = xI C 2012 g j) (h3 : ∀ j, j < 16 → xI W 2013 i j = xI C 2013 g j) (h4 : ∀ j, j < 64 → xI W 2014 i j = xI C 2014 g j) : fX10_nodeOver W i (4 : Int32) (0 : Int32) = fX10_nodeOver C g (4 : Int32) (0 : Int32) := by
  have e : ∀ (A : XO) (x : Nat), fX10_nodeOver A x (4 : Int32) (0 : Int32) = nodeN (fun q => fX6_leafOf A x (nI q)) 4 0 := fun A x => cNode A x 4 4 0 (by decide) (by decide)
  rw [e, e]
  exact nodeN_cg (fun j hj => leaf_cg hj h1 h2 h3 h4) 4 (by decide) 0 (by decide)
theorem and_or_m {x y m : Int32} (h : x &&& m = m) : (x ||| y) &&& m = m := by
  apply Int32.toBitVec_inj.mp
  have h' : x.toBitVec &&& m.toBitVec = m.toBitVec := by rw [← Int32.toBitVec_and, h]
  rw [Int32.toBitVec_and, Int32.toBitVec_or]
  apply BitVec.eq_of_getLsbD_eq
  intro i hi
  have hb : (x.toBitVec &&& m.toBitVec).getLsbD i = m.toBitVec.getLsbD i := by rw [h']
  rw [BitVec.getLsbD_and] at hb
  rw [BitVec.getLsbD_and, BitVec.getLsbD_or]
  cases hm : m.toBitVec.getLsbD i with
  | false => rw [Bool.and_false]
  | true =>
    rw [hm, Bool.and_true] at hb
    rw [hb, Bool.true_or, Bool.true_and]
theorem or_m {x m : Int32} : (x ||| m) &&& m = m := by
  apply Int32.toBitVec_inj.mp
  rw [Int32.toBitVec_and, Int32.toBitVec_or]
  apply BitVec.eq_of_getLsbD_eq
  intro i hi
  rw [BitVec.getLsbD_and, BitVec.getLsbD_or]
  cases m.toBitVec.getLsbD i with
  | false => rw [Bool.and_false]
  | true => rw [Bool.or_true, Bool.true_and]
theorem blmM : ∀ p, p < 16 → (((1 : Int32) <<< ((nI p - nI p / (8 : Int32) * (8 : Int32)) &&& 31)) ||| ((256 : Int32) <<< (((((5 : Int32) * nI p) + (3 : Int32)) - (((5 : Int32) * nI p) + (3 : Int32)) / (8 : Int32) * (8 : Int32)) &&& 31))) = blm p := by decide +kernel
/-- both mix the events into the bloom -/
theorem dSeal {c nb b cnt : Nat} {y1 y7 : Int32} (hb : b < 48) (hcnt : cnt ≤ 40) : ∀ (n k : Nat) (W Mx : XO), k + n = cnt → xI W 10 b 0 = nI cnt → xI Mx 2130 0 b = nI cnt → xI Mx 1158 0 0 = nI b → (∀ j, j < cnt → ∃ p a : Nat, xI W 2001 b j = nI (100 * p + a) ∧ xI Mx 2132 0 (40 * b + j) = nI (100 * p + a) ∧ p < 16 ∧ a < 16) → xI W 11 b 0 = xI Mx 2128 0 b → (∀ j, j < k → ∀ p a : Nat, p < 16 → a < 16 → xI W 2001 b j = nI (100 * p + a) → xI W 11 b 0 &&& blm p = blm p) → ∃ acc y, fX0_seal_l b (n + 1) k W = uI (uI W 11 b 0 acc) 12 b 0 (fX10_nodeOver (uI W 11 b 0 acc) b (4 : Int32) (0 : Int32)) ∧ fX11_make_l364 y1 y7 (n + 1) (nI k) Mx = some (y, uI Mx 2128 0 b acc) ∧ ∀ j, j < cnt → ∀ p a : Nat, p < 16 → a < 16 → xI W 2001 b j = nI (100 * p + a) → acc &&& blm p = blm p := by
  have hin : inB (nI b) 48 := inB_nI hb (by decide)
  have hcl : (nI b).toNatClampNeg = b := cl_nI (by omega)
  intro n
  induction n with
  | zero =>
    intro k W Mx hk h10 hm h58 hev hac hbl
    have ek : k = cnt := by omega
    subst ek
    refine ⟨xI W 11 b 0, nI k, ?_, ?_, hbl⟩
    · rw [fX0_seal_l, h10, if_pos (nI_le (Nat.le_refl _) (by omega)), uI_same rfl]
    · rw [fX11_make_l364, h58, if_pos hin, hcl, hm, if_pos (nI_le (Nat.le_refl _) (by omega)), uI_same hac.symm]
  | succ n ih =>
    intro k W Mx hk h10 hm h58 hev hac hbl
    obtain ⟨p, a, p1, p2, p3, p4⟩ := hev k (by omega)
    have hdiv : nI (100 * p + a) / (100 : Int32) = nI p := by
      rw [show (100 : Int32) = nI 100 from rfl, div_nI (by omega) (by decide) (by decide)]
      congr 1
      omega
    have htop : fX0_topicIn W b (nI k) = nI p := by
      unfold fX0_topicIn
      rw [sAt_nI (show k < alen 2001 from (by show k < 40; omega)) (by decide), p1, hdiv]
    have hbo : fX0_bloomOf W (nI p) = blm p := rfl
    have e40 : (40 : Int32) * nI b + nI k = nI (40 * b + k) := by rw [show (40 : Int32) = nI 40 from rfl, nI_mul, nI_add]
    obtain ⟨W1, hW1⟩ : ∃ W1, W1 = uI W 11 b 0 (xI W 11 b 0 ||| blm p) := ⟨_, rfl⟩
    obtain ⟨M1, hM1⟩ : ∃ M1, M1 = uI Mx 2128 0 b (xI Mx 2128 0 b ||| blm p) := ⟨_, rfl⟩
    have w1 : ∀ f i j, f ≠ 11 → xI W1 f i j = xI W f i j := fun f i j hf => by rw [hW1, I_ne hf]
    have m1 : ∀ f i j, f ≠ 2128 → xI M1 f i j = xI Mx f i j := fun f i j hf => by rw [hM1, I_ne hf]
    have w11 : xI W1 11 b 0 = xI W 11 b 0 ||| blm p := by rw [hW1, I_uI, if_pos ⟨rfl, rfl, rfl⟩]
    obtain ⟨acc, y, r1, r2, r3⟩ := ih (k + 1) W1 M1 (by omega) (by rw [w1 _ _ _ (by decide), h10]) (by rw [m1 _ _ _ (by decide), hm]) (by rw [m1 _ _ _ (by decide), h58]) (fun j hj => by rw [w1 _ _ _ (by decide), m1 _ _ _ (by decide)]; exact hev j hj) (by rw [w11, hM1, I_uI, if_pos ⟨rfl, rfl, rfl⟩, hac]) (fun j hj p' a' hp' ha' e => by
      rw [w1 _ _ _ (by decide)] at e
      rw [w11]
      by_cases z : j = k
      · subst z
        rw [p1] at e
        have := nI_inj600 e (by omega) (by omega)
        have ep : p = p' := by omega
        subst ep
        exact or_m
      · exact and_or_m (hbl j (by omega) p' a' hp' ha' e))
    refine ⟨acc, y, ?_, ?_, fun j hj p' a' hp' ha' e => r3 j hj p' a' hp' ha' (by rw [w1 _ _ _ (by decide), e])⟩
    · rw [fX0_seal_l, h10, if_neg (nI_ge (by omega) (by omega)), htop, hbo, ← hW1, r1, hW1, uI_idem]
    · rw [fX11_make_l364, h58, if_pos hin, hcl, hm, if_neg (nI_ge (by omega) (by omega)), e40, if_pos (inB_nI (by omega) (by decide)), if_pos hin, if_pos hin, cl_nI (show 40 * b + k < 2147483648 by omega), p2, hdiv, blmM p p3, nI_1]
      unfold wl
      dsimp only
      rw [← hM1, r2, hM1, uI_idem]
