theorem gBlk {D : XD} {C M : XO} (h : RGD D C M) {c b : Nat} (hc : c < 2) (hb : b < dnb D c) : eX10_demandBlock C 0 (nI c) (nI b) = none ∧ rX10_demandBlock C 0 (nI c) (nI b) = 24 * c + b := cBlk1 h.NB hc hb
theorem gSt {D : XD} {C M : XO} (h : RGD D C M) {c b a : Nat} (hc : c < 2) (hb : b < dnb D c) (ha : a < 16) : (xI C 13 (24 * c + b) 0 = 0 → eX10_demandState_ C 0 (nI c) (nI b) (nI a) = none ∧ rX10_demandState_ C 0 (nI c) (nI b) (nI a) = 24 * c + b) ∧ (xI C 13 (24 * c + b) 0 ≠ 0 → eX10_demandState_ C 0 (nI c) (nI b) (nI a) = some xIS) := by
  obtain ⟨hb2, hg⟩ := blk48 h.NB hc hb
  obtain ⟨e2, e3⟩ := gBlk h hc hb
  have e5 : eX10_demandIndex C (nI a) 16 = none := cIdx1 (n := 16) ha (by decide)
  refine ⟨fun hd => ⟨?_, ?_⟩, fun hd => ?_⟩
  · unfold eX10_demandState_
    rw [if_pos e2, if_pos e5, e3, if_pos hd]
  · unfold rX10_demandState_
    rw [if_pos e2, if_pos e5, e3, if_pos hd]
  · have h1 : xI C 13 (24 * c + b) 0 = 1 := ((h.DR _ hg).1).resolve_left hd
    unfold eX10_demandState_
    rw [if_pos e2, if_pos e5, e3, h1, if_neg one_n0]
    rfl
theorem e_root {D : XD} {C M : XO} (h : RGD D C M) {c b : Nat} (hc : c < 2) (hb : b < dnb D c) : fX10_root C 0 (nI c) (nI b) = (.inl (some (.int (xI C 12 (24 * c + b) 0))), C) := by
  obtain ⟨e2, e3⟩ := gBlk h hc hb
  unfold fX10_root
  rw [if_pos e2, e3]
theorem e_used {D : XD} {C M : XO} (h : RGD D C M) {c b : Nat} (hc : c < 2) (hb : b < dnb D c) : fX10_used C 0 (nI c) (nI b) = (.inl (some (.int (xI C 6 (24 * c + b) 0))), C) := by
  obtain ⟨e2, e3⟩ := gBlk h hc hb
  unfold fX10_used
  rw [if_pos e2, e3]
theorem e_base {D : XD} {C M : XO} (h : RGD D C M) {c b : Nat} (hc : c < 2) (hb : b < dnb D c) : fX10_base C 0 (nI c) (nI b) = (.inl (some (.int (xI C 5 (24 * c + b) 0))), C) := by
  obtain ⟨e2, e3⟩ := gBlk h hc hb
  unfold fX10_base
  rw [if_pos e2, e3]
theorem e_just {D : XD} {C M : XO} (h : RGD D C M) {c b : Nat} (hc : c < 2) (hb : b < dnb D c) : fX10_isJustified C (nI c) (nI b) = some (.inl (some (.int (xI C 14 (24 * c + b) 0))), C) := by
  obtain ⟨hb2, hg⟩ := blk48 h.NB hc hb
  obtain ⟨e2, e3⟩ := gBlk h hc hb
  unfold fX10_isJustified
  rw [if_pos e2, e3, if_pos (h.DR _ hg).2]
theorem e_pool {C : XO} {c : Nat} (hc : c < 2) : fX10_pool C 0 (nI c) = (.inl (some (.int (fX1_countWaiting C c))), C) := by
  obtain ⟨e2, e3⟩ := cChain1 (Ω := C) hc
  unfold fX10_pool
  rw [if_pos e2, e3]
theorem e_head {C : XO} {c : Nat} (hc : c < 2) : fX10_head C 0 (nI c) = (.inl (some (.int (xI C 0 (fX1_headBlock C c) 0))), C) := by
  obtain ⟨e2, e3⟩ := cChain1 (Ω := C) hc
  unfold fX10_head
  rw [if_pos e2, e3]
theorem e_head2 {D : XD} {C M : XO} (h : RGD D C M) {c : Nat} (hc : c < 2) : ∃ m, m < dnb D c ∧ xI C 0 (fX1_headBlock C c) 0 = nI m := by
  obtain ⟨m, p1, p2, p3, p4⟩ := dHead h hc
  obtain ⟨b1, b2, b3, b4⟩ := h.NB c hc
  exact ⟨m, p1, by rw [p3, h.NO _ (show 24 * c + m < 48 by omega), show (24 * c + m) % 24 = m by omega]⟩
theorem e_last {D : XD} {C M : XO} (h : RGD D C M) {c : Nat} (hc : c < 2) : fX10_lastFinal C 0 (nI c) = (.inl (some (.int (nI (dfn D c)))), C) := by
  obtain ⟨f1, f2, f3⟩ := h.FN c hc
  have hnb := (h.NB c hc).2.2.2
  have hv : xI C 0 (24 * c + dfn D c) 0 = nI (dfn D c) := by
    rw [h.NO _ (show 24 * c + dfn D c < 48 by omega), show (24 * c + dfn D c) % 24 = dfn D c by omega]
  obtain ⟨e2, e3⟩ := cChain1 (Ω := C) hc
  unfold fX10_lastFinal
  rw [if_pos e2, e3, lF_I h hc, hv]
theorem e_stake {C : XO} {c v : Nat} (hc : c < 2) (hv : v < 4) : fX10_stake C 0 (nI c) (nI v) = (.inl (some (.int (fX8_stakeNow C (4 * c + v)))), C) := by
  obtain ⟨e2, e3⟩ := cChain1 (Ω := C) hc
  have hval : fX2_validator C c (nI v) = 4 * c + v := by
    unfold fX2_validator
    rw [if_neg (nI_nlt0 (by omega)), if_neg (show ¬ (4 : Int32) ≤ nI v from nI_ge (b := 4) hv (by decide)), cl_nI (by omega)]
  unfold fX10_stake
  rw [if_pos e2, e3, if_pos (show eX10_demandIndex C (nI v) 4 = none from cIdx1 (n := 4) hv (by decide)), hval]
theorem e_coins {D : XD} {C M : XO} (h : RGD D C M) {c b a : Nat} (hc : c < 2) (hb : b < dnb D c) (ha : a < 16) : fX10_coins C 0 (nI c) (nI b) (nI a) = (if xI C 13 (24 * c + b) 0 = 0 then (.inl (some (.int (xI C 2011 (24 * c + b) a))), C) else (.inr xIS, C)) := by
  obtain ⟨s1, s2⟩ := gSt h hc hb ha
  unfold fX10_coins
  by_cases hd : xI C 13 (24 * c + b) 0 = 0
  · obtain ⟨e1, e2⟩ := s1 hd
    rw [if_pos e1, e2, sAt_nI (show a < 16 from ha) (by decide), if_pos hd]
  · rw [s2 hd, if_neg (by simp), if_neg hd]
    rfl
theorem e_coinsX {D : XD} {C M : XO} (h : RGD D C M) {c : Nat} (hc : c < 2) (a : Int32) : fX10_coins C 0 (nI c) (nI (dnb D c)) a = (.inr xIO, C) := by
  have e1 : eX10_demandBlock C 0 (nI c) (nI (dnb D c)) = some xIO := by
    rcases dBlk h.NB (nI c) (nI (dnb D c)) with ⟨c', b', hc', hb', e, e', -, -, -⟩ | ⟨-, e2⟩
    · obtain ⟨-, -, -, h4⟩ := h.NB c hc
      have h1 : c = c' := (nI_eq (by omega) (by omega)).mp e
      subst h1
      have h2 : dnb D c = b' := (nI_eq (by omega) (by omega)).mp e'
      omega
    · exact e2
  unfold fX10_coins eX10_demandState_
  rw [e1, if_neg (by simp), if_neg (by simp)]
  rfl
theorem e_burned {D : XD} {C M : XO} (h : RGD D C M) {c b : Nat} (hc : c < 2) (hb : b < dnb D c) (hd : xI C 13 (24 * c + b) 0 = 0) : fX10_burned C 0 (nI c) (nI b) = (.inl (some (.int (xI C 604 (24 * c + b) 0))), C) := by
  obtain ⟨e1, e2⟩ := (gSt h hc hb (show 0 < 16 by decide)).1 hd
  have e1' : eX10_demandState_ C 0 (nI c) (nI b) 0 = none := e1
  have e2' : rX10_demandState_ C 0 (nI c) (nI b) 0 = 24 * c + b := e2
  unfold fX10_burned
  rw [if_pos e1', e2']
/-- the nodes over a state's accounts -/
def nod (C : XO) (g : Nat) : Nat → Nat → Int32 := nodeN (fun q => fX6_leafOf C g (nI q))
theorem e_leaf {D : XD} {C M : XO} (h : RGD D C M) {c b a : Nat} (hc : c < 2) (hb : b < dnb D c) (ha : a < 16) (hd : xI C 13 (24 * c + b) 0 = 0) : fX10_leaf C 0 (nI c) (nI b) (nI a) = (.inl (some (.int (nod C (24 * c + b) 0 a))), C) := by
  obtain ⟨e1, e2⟩ := (gSt h hc hb ha).1 hd
  have h9 : fX10_nodeOver C (24 * c + b) 0 (nI a) = nod C (24 * c + b) 0 a := cNode C (24 * c + b) 4 0 a (by decide) (by decide)
  unfold fX10_leaf
  rw [if_pos e1, e2, h9]
theorem e_proof {D : XD} {C M : XO} (h : RGD D C M) {c b a s : Nat} (hc : c < 2) (hb : b < dnb D c) (ha : a < 16) (hs : s < 4) (hd : xI C 13 (24 * c + b) 0 = 0) : fX10_proof C 0 (nI c) (nI b) (nI a) (nI s) = (.inl (some (.int (nod C (24 * c + b) s (pidx a s)))), C) := by
  obtain ⟨e1, e2⟩ := (gSt h hc hb ha).1 hd
  obtain ⟨p1, p2, p3, p4⟩ := pix a ha s hs
  have e7 : eX10_demandIndex C (nI s) 4 = none := cIdx1 (n := 4) hs (by decide)
  have h9 : fX10_nodeOver C (24 * c + b) (nI s) (nI (pidx a s)) = nod C (24 * c + b) s (pidx a s) := cNode C (24 * c + b) 4 s (pidx a s) (by omega) (by decide)
  unfold fX10_proof
  rw [if_pos e7, if_pos e1, e2, p1, h9]
/-- what a leaf and its neighbours lead to -/
def led (a : Nat) (l p0 p1 p2 p3 : Int32) : Int32 := sJoin (nI a >>> ((3 : Int32) &&& 31)) (sJoin (nI a >>> ((2 : Int32) &&& 31)) (sJoin (nI a >>> ((1 : Int32) &&& 31)) (sJoin (nI a) l p0) p1) p2) p3
theorem rng1 {C : XO} {p : Nat} (hp : p < 1000003) : eX10_demandRange C (nI p) 0 1000002 = none := by
  unfold eX10_demandRange
  rw [if_neg (nI_nlt0 (by omega)), if_neg (show ¬ (1000002 : Int32) < nI p from fun z => nI_ge (a := p) (b := 1000003) hp (by decide) (by
    rw [ti_le]
    rw [ti_lt] at z
    have e1 : (1000002 : Int32).toInt = 1000002 := rfl
    have e2 : (nI 1000003).toInt = 1000003 := rfl
    omega))]
theorem e_proves {D : XD} {C M : XO} (h : RGD D C M) {c b a l p0 p1 p2 p3 : Nat} (hc : c < 2) (hb : b < dnb D c) (ha : a < 16) (hl : l < 1000003) (h0 : p0 < 1000003) (h1 : p1 < 1000003) (h2 : p2 < 1000003) (h3 : p3 < 1000003) : fX10_proves C 0 (nI c) (nI b) (nI a) (nI l) (nI p0) (nI p1) (nI p2) (nI p3) = (.inl (some (.int (if led a (nI l) (nI p0) (nI p1) (nI p2) (nI p3) = xI C 12 (24 * c + b) 0 then 1 else 0))), C) := by
  obtain ⟨e2, e3⟩ := gBlk h hc hb
  have e5 : eX10_demandIndex C (nI a) 16 = none := cIdx1 (n := 16) ha (by decide)
  unfold fX10_proves
  rw [if_pos e2, if_pos e5, if_pos (rng1 hl), if_pos (rng1 h0), if_pos (rng1 h1), if_pos (rng1 h2), if_pos (rng1 h3), e3]
  show (if led a (nI l) (nI p0) (nI p1) (nI p2) (nI p3) = xI C 12 (24 * c + b) 0 then _ else _) = _
  by_cases q : led a (nI l) (nI p0) (nI p1) (nI p2) (nI p3) = xI C 12 (24 * c + b) 0
  · rw [if_pos q, if_pos q]
  · rw [if_neg q, if_neg q]
/-! mixes -/
theorem sMix_nI {p q : Nat} (hp : p < 2147483648) (hq : q < 2147483648) : sMix (nI p) (nI q) = nI ((31 * p + 17 * q + 7) % 1000003) := by
  unfold sMix sMixL
  rw [nI_l hp, nI_l hq, show (31 : Int64) = lN 31 from rfl, show (17 : Int64) = lN 17 from rfl, show (7 : Int64) = lN 7 from rfl, show (1000003 : Int64) = lN 1000003 from rfl, lN_mul, lN_mul, lN_add, lN_add, rem_lN (by omega) (by decide) (by decide), lN_i]
theorem sMix_rg {p q : Nat} (hp : p < 2147483648) (hq : q < 2147483648) : ∃ m, m < 1000003 ∧ sMix (nI p) (nI q) = nI m := ⟨_, Nat.mod_lt _ (by decide), sMix_nI hp hq⟩
theorem mix_l {p p' q : Nat} (hp : p < 1000003) (hp' : p' < 1000003) (hq : q < 1000003) (e : sMix (nI p) (nI q) = sMix (nI p') (nI q)) : p = p' := by
  rw [sMix_nI (by omega) (by omega), sMix_nI (by omega) (by omega)] at e
  have h1 := (nI_eq (a := (31 * p + 17 * q + 7) % 1000003) (b := (31 * p' + 17 * q + 7) % 1000003) (by omega) (by omega)).mp e
  omega
theorem mix_r {p q q' : Nat} (hp : p < 1000003) (hq : q < 1000003) (hq' : q' < 1000003) (e : sMix (nI p) (nI q) = sMix (nI p) (nI q')) : q = q' := by
  rw [sMix_nI (by omega) (by omega), sMix_nI (by omega) (by omega)] at e
  have h1 := (nI_eq (a := (31 * p + 17 * q + 7) % 1000003) (b := (31 * p + 17 * q' + 7) % 1000003) (by omega) (by omega)).mp e
  omega
theorem join_rg (x : Int32) {p q : Nat} (hp : p < 1000003) (hq : q < 1000003) : ∃ m, m < 1000003 ∧ sJoin x (nI p) (nI q) = nI m := by
  unfold sJoin
  split
  · exact sMix_rg (by omega) (by omega)
  · exact sMix_rg (by omega) (by omega)
theorem join_i (x : Int32) {p p' q : Nat} (hp : p < 1000003) (hp' : p' < 1000003) (hq : q < 1000003) (e : sJoin x (nI p) (nI q) = sJoin x (nI p') (nI q)) : p = p' := by
  unfold sJoin at e
  split at e
  · exact mix_l hp hp' hq e
  · exact mix_r hq hp hp' e
theorem led_i {a l l' p0 p1 p2 p3 : Nat} (hl : l < 1000003) (hl' : l' < 1000003) (h0 : p0 < 1000003) (h1 : p1 < 1000003) (h2 : p2 < 1000003) (h3 : p3 < 1000003) (e : led a (nI l) (nI p0) (nI p1) (nI p2) (nI p3) = led a (nI l') (nI p0) (nI p1) (nI p2) (nI p3)) : l = l' := by
  unfold led at e
  obtain ⟨a0, b0, c0⟩ := join_rg (nI a) hl h0
  obtain ⟨a0', b0', c0'⟩ := join_rg (nI a) hl' h0
  rw [c0, c0'] at e
  obtain ⟨a1, b1, c1⟩ := join_rg (nI a >>> ((1 : Int32) &&& 31)) b0 h1
  obtain ⟨a1', b1', c1'⟩ := join_rg (nI a >>> ((1 : Int32) &&& 31)) b0' h1
  rw [c1, c1'] at e
  obtain ⟨a2, b2, c2⟩ := join_rg (nI a >>> ((2 : Int32) &&& 31)) b1 h2
  obtain ⟨a2', b2', c2'⟩ := join_rg (nI a >>> ((2 : Int32) &&& 31)) b1' h2
  rw [c2, c2'] at e
  have i2 := join_i _ b2 b2' h3 e
  rw [i2] at c2
  have i1 := join_i _ b1 b1' h2 (c2.trans c2'.symm)
  rw [i1] at c1
  have i0 := join_i _ b0 b0' h1 (c1.trans c1'.symm)
  rw [i0] at c0
  exact join_i _ hl hl' h0 (c0.trans c0'.symm)
theorem pth : ∀ a, a < 16 → ∀ r, r < 4 → ((nI a >>> (nI r &&& 31)) &&& 1 = 0 → a >>> r = 2 * (a >>> (r + 1)) ∧ pidx a r = 2 * (a >>> (r + 1)) + 1) ∧ (¬ (nI a >>> (nI r &&& 31)) &&& 1 = 0 → a >>> r = 2 * (a >>> (r + 1)) + 1 ∧ pidx a r = 2 * (a >>> (r + 1))) := by decide +kernel
theorem join_n {lf : Nat → Int32} {a r : Nat} (ha : a < 16) (hr : r < 4) : sJoin (nI a >>> (nI r &&& 31)) (nodeN lf r (a >>> r)) (nodeN lf r (pidx a r)) = nodeN lf (r + 1) (a >>> (r + 1)) := by
  obtain ⟨h1, h2⟩ := pth a ha r hr
  unfold sJoin
  show _ = sMix (nodeN lf r (2 * (a >>> (r + 1)))) (nodeN lf r (2 * (a >>> (r + 1)) + 1))
  by_cases q : (nI a >>> (nI r &&& 31)) &&& 1 = 0
  · rw [if_pos q, (h1 q).1, (h1 q).2]
  · rw [if_neg q, (h2 q).1, (h2 q).2]
theorem led_n {lf : Nat → Int32} {a : Nat} (ha : a < 16) : led a (nodeN lf 0 a) (nodeN lf 0 (pidx a 0)) (nodeN lf 1 (pidx a 1)) (nodeN lf 2 (pidx a 2)) (nodeN lf 3 (pidx a 3)) = nodeN lf 4 0 := by
  have s0 : nI a >>> (nI 0 &&& 31) = nI a := sh0 a ha
  have j0 := join_n (lf := lf) ha (show 0 < 4 by decide)
  rw [s0] at j0
  have j1 := join_n (lf := lf) ha (show 1 < 4 by decide)
  have j2 := join_n (lf := lf) ha (show 2 < 4 by decide)
  have j3 := join_n (lf := lf) ha (show 3 < 4 by decide)
  have e4 : a >>> 4 = 0 := by
    rw [Nat.shiftRight_eq_div_pow]
    exact Nat.div_eq_of_lt ha
  unfold led
  have j0' : sJoin (nI a) (nodeN lf 0 a) (nodeN lf 0 (pidx a 0)) = nodeN lf 1 (a >>> 1) := j0
  rw [j0']
  have j1' : sJoin (nI a >>> ((1 : Int32) &&& 31)) (nodeN lf 1 (a >>> 1)) (nodeN lf 1 (pidx a 1)) = nodeN lf 2 (a >>> 2) := j1
  rw [j1']
  have j2' : sJoin (nI a >>> ((2 : Int32) &&& 31)) (nodeN lf 2 (a >>> 2)) (nodeN lf 2 (pidx a 2)) = nodeN lf 3 (a >>> 3) := j2
  rw [j2']
  have j3' : sJoin (nI a >>> ((3 : Int32) &&& 31)) (nodeN lf 3 (a >>> 3)) (nodeN lf 3 (pidx a 3)) = nodeN lf 4 (a >>> 4) := j3
  rw [j3', e4]
