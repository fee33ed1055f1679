theorem z_cS {G : XG} {B : XB} {cc : ByteArray} {own : String} {rm : Room} {nL : Nat} (C : XZ G B cc own rm nL) {pc : Nat} {lv : List (Nat × Value)} {st : List Value} {Ω : XO} {cu su : Nat} {y : MethodName} {b2 : ByteArray} {mL2 n idx : Nat} {ret2 : Option FieldType} {rm2 : Room} {As rest : List Value} {Ω2 : XO} {T2 : Option Value ⊕ String} (hm : XMS y b2 mL2 ret2 n) (hl0 : Cond.methodLink own idx y ∈ lw_g) (hM : XM G y b2 mL2 ret2 rm2 As Ω T2 Ω2) (hn : As.length = n) (hst : st = As.reverse ++ rest) (hw : (rest.map fun v => v.category).sum ≤ 8) (hR1 : rm2.frames + 1 ≤ rm.frames ∧ 8 + (mL2 + 11) + rm2.locals ≤ rm.locals) (hR2 : cu + rm2.cells ≤ rm.cells ∧ su + rm2.slots ≤ rm.slots) (hd : decode cc pc = .ok (.invokestatic idx, 3)) : XR G B nL pc lv st rest Ω cu su rm2.cells rm2.slots T2 Ω2 := by
  obtain ⟨p, e, R, s, m, args, below, meth, c, Q⟩ := B
  obtain ⟨hx, hb, hml, ho, hts, hU, hok, hlk, hR, hret, htab, hQ⟩ := C
  subst hst
  subst hR
  intro H locs ls hP hS hl
  have hg : GoodIn lw_g (va_wsS own idx y (Cond.code y b2 mL2 ret2 :: lw_g)) := by
    intro z hz
    have hz2 : z ∈ lw_g := by
      simp only [va_wsS, List.mem_append, List.mem_cons, List.not_mem_nil, or_false] at hz
      rcases hz with (rfl | rfl | rfl) | rfl | hz
      · exact hl0
      · exact hm.1
      · exact hm.2.1
      · exact hm.2.2.1
      · exact hz
    exact ⟨hz2, lw_good z hz2⟩
  exact ⟨_, vx_runS (nL := nL) ⟨hx, hb, hml, ho, hts⟩ hM (va_cwS n hts hg rfl rfl rfl hm.2.2.2 hR1) ⟨XPc_blind, fun U hU2 hW => ⟨rfl, hU.on hS hU2 hW, by rw [hU2]; exact hP⟩⟩ rfl hn hl.1 rfl (lv_room hw) hd hR2⟩
theorem z_cR {G : XG} {B : XB} {cc : ByteArray} {own : String} {rm : Room} {nL : Nat} (C : XZ G B cc own rm nL) {pc : Nat} {lv : List (Nat × Value)} {st : List Value} {Ω : XO} {cu su : Nat} {y : MethodName} {b2 : ByteArray} {mL2 n idx : Nat} {ret2 : Option FieldType} {rm2 : Room} {As rest : List Value} {Ω2 : XO} {v : Value} {kd i o : Nat} (eo : ad G kd i = o) (hdm : dm G kd i) (hk : kd < 11) (hm : XMV y b2 mL2 ret2 n) (hy : cnm kd = y.cls) (hl0 : Cond.methodLink own idx y ∈ lw_g) (hM : XM G y b2 mL2 ret2 rm2 (.ref o :: As) Ω (.inl (some v)) Ω2) (hn : As.length = n) (hst : st = As.reverse ++ .ref o :: rest) (hw : (rest.map fun v => v.category).sum ≤ 8) (hR1 : rm2.frames + 1 ≤ rm.frames ∧ 8 + (mL2 + 11) + rm2.locals ≤ rm.locals) (hR2 : cu + rm2.cells ≤ rm.cells ∧ su + rm2.slots ≤ rm.slots) (hd : decode cc pc = .ok (.invokevirtual idx, 3)) {pc2 cu2 su2 : Nat} (hp : pc + 3 = pc2) (hcu : cu + rm2.cells = cu2) (hsu : su + rm2.slots = su2) (k : XW G B nL pc2 lv (v :: rest) Ω2 cu2 su2) : XW G B nL pc lv st Ω cu su := by
  subst eo
  exact x_ret (z_cV C hdm hk hm hy hl0 hM hn hst hw hR1 hR2 hd) rfl hcu hsu hp k
theorem z_ialdn {G : XG} {B : XB} {cc : ByteArray} {own : String} {rm : Room} {nL : Nat} (C : XZ G B cc own rm nL) {pc : Nat} {lv : List (Nat × Value)} {st : List Value} {Ω : XO} {cu su : Nat} {kd i a q : Nat} {v : Int32} (ea : ad G kd i = a) (hdm : dm G kd i) (hd : decode cc pc = .ok (.iaload, 1)) (hs : sA 0 kd = true) (hq : q < alen kd) (hN : alen kd < 2 ^ 31) (hv : xI Ω kd i q = v) {pc2 : Nat} (hp : pc + 1 = pc2) (k : XW G B nL pc2 lv (.int v :: st) Ω cu su) : XW G B nL pc lv (.int (nI q) :: .ref a :: st) Ω cu su := by
  subst ea
  refine z_iald C hdm hd hs (vp_in_nI hq hN) hp ?_
  rw [nI_clamp (by omega), hv]
  exact k
theorem z_iastn {G : XG} {B : XB} {cc : ByteArray} {own : String} {rm : Room} {nL : Nat} (C : XZ G B cc own rm nL) {pc : Nat} {lv : List (Nat × Value)} {st : List Value} {Ω : XO} {cu su : Nat} {kd i a q : Nat} {v : Int32} (ea : ad G kd i = a) (hdm : dm G kd i) (hd : decode cc pc = .ok (.iastore, 1)) (hs : sA 0 kd = true) (hq : q < alen kd) (hN : alen kd < 2 ^ 31) {pc2 : Nat} (hp : pc + 1 = pc2) (k : XW G B nL pc2 lv st (uI Ω kd i q v) cu su) : XW G B nL pc lv (.int v :: .int (nI q) :: .ref a :: st) Ω cu su := by
  subst ea
  refine z_iast C hdm hd hs (vp_in_nI hq hN) hp ?_
  rw [nI_clamp (by omega)]
  exact k
theorem z_vec {G : XG} {B : XB} {nL pc : Nat} {lv : List (Nat × Value)} {st st2 : List Value} {Ω : XO} {cu su : Nat} (h : st = st2) (k : XW G B nL pc lv st2 Ω cu su) : XW G B nL pc lv st Ω cu su := h ▸ k
theorem z_cu {G : XG} {B : XB} {nL pc : Nat} {lv : List (Nat × Value)} {st : List Value} {Ω : XO} {cu su cu2 su2 : Nat} (h1 : cu = cu2) (h2 : su = su2) (k : XW G B nL pc lv st Ω cu2 su2) : XW G B nL pc lv st Ω cu su := h1 ▸ h2 ▸ k
theorem r_root {G : XG} (hok : XK G) {o : Nat} (eo : ad G 10 0 = o) (hd : dm G 10 0) {D : XD} {C M : XO} (h : RGD D C M) {c b : Nat} (hc : c < 2) (hb : b < dnb D c) : XM G yX10_root cX10_root 3 (some FieldType.int) (RM 8 2) [.ref o, .int (nI c), .int (nI b)] C (.inl (some (.int (xI C 12 (24 * c + b) 0)))) C := by
  subst eo
  have key := tX10_root hok (i := 0) (x1 := nI c) (x2 := nI b) (Ω := C) hd
  rw [e_root h hc hb] at key
  exact key
theorem r_used {G : XG} (hok : XK G) {o : Nat} (eo : ad G 10 0 = o) (hd : dm G 10 0) {D : XD} {C M : XO} (h : RGD D C M) {c b : Nat} (hc : c < 2) (hb : b < dnb D c) : XM G yX10_used cX10_used 3 (some FieldType.int) (RM 8 2) [.ref o, .int (nI c), .int (nI b)] C (.inl (some (.int (xI C 6 (24 * c + b) 0)))) C := by
  subst eo
  have key := tX10_used hok (i := 0) (x1 := nI c) (x2 := nI b) (Ω := C) hd
  rw [e_used h hc hb] at key
  exact key
theorem r_base {G : XG} (hok : XK G) {o : Nat} (eo : ad G 10 0 = o) (hd : dm G 10 0) {D : XD} {C M : XO} (h : RGD D C M) {c b : Nat} (hc : c < 2) (hb : b < dnb D c) : XM G yX10_base cX10_base 3 (some FieldType.int) (RM 8 2) [.ref o, .int (nI c), .int (nI b)] C (.inl (some (.int (xI C 5 (24 * c + b) 0)))) C := by
  subst eo
  have key := tX10_base hok (i := 0) (x1 := nI c) (x2 := nI b) (Ω := C) hd
  rw [e_base h hc hb] at key
  exact key
theorem r_just {G : XG} (hok : XK G) {o : Nat} (eo : ad G 10 0 = o) (hd : dm G 10 0) {D : XD} {C M : XO} (h : RGD D C M) {c b : Nat} (hc : c < 2) (hb : b < dnb D c) : XM G yX10_isJustified cX10_isJustified 3 (some FieldType.boolean) (RM 8 2) [.ref o, .int (nI c), .int (nI b)] C (.inl (some (.int (xI C 14 (24 * c + b) 0)))) C := by
  subst eo
  have key := tX10_isJustified hok (x1 := nI c) (x2 := nI b) (Ω := C) hd (e_just h hc hb)
  exact key
theorem r_pool {G : XG} (hok : XK G) {o : Nat} (eo : ad G 10 0 = o) (hd : dm G 10 0) {D : XD} {C M : XO} (h : RGD D C M) {c : Nat} (hc : c < 2) : XM G yX10_pool cX10_pool 2 (some FieldType.int) (RM 7 1) [.ref o, .int (nI c)] C (.inl (some (.int (fX1_countWaiting C c)))) C := by
  subst eo
  have key := tX10_pool hok (i := 0) (x1 := nI c) (Ω := C) hd
  rw [e_pool hc] at key
  exact key
theorem r_head {G : XG} (hok : XK G) {o : Nat} (eo : ad G 10 0 = o) (hd : dm G 10 0) {D : XD} {C M : XO} (h : RGD D C M) {c : Nat} (hc : c < 2) : XM G yX10_head cX10_head 2 (some FieldType.int) (RM 7 1) [.ref o, .int (nI c)] C (.inl (some (.int (xI C 0 (fX1_headBlock C c) 0)))) C := by
  subst eo
  have key := tX10_head hok (i := 0) (x1 := nI c) (Ω := C) hd
  rw [e_head hc] at key
  exact key
theorem r_last {G : XG} (hok : XK G) {o : Nat} (eo : ad G 10 0 = o) (hd : dm G 10 0) {D : XD} {C M : XO} (h : RGD D C M) {c : Nat} (hc : c < 2) : XM G yX10_lastFinal cX10_lastFinal 2 (some FieldType.int) (RM 7 1) [.ref o, .int (nI c)] C (.inl (some (.int (nI (dfn D c))))) C := by
  subst eo
  have key := tX10_lastFinal hok (i := 0) (x1 := nI c) (Ω := C) hd
  rw [e_last h hc] at key
  exact key
theorem r_stake {G : XG} (hok : XK G) {o : Nat} (eo : ad G 10 0 = o) (hd : dm G 10 0) {D : XD} {C M : XO} (h : RGD D C M) {c v : Nat} (hc : c < 2) (hv : v < 4) : XM G yX10_stake cX10_stake 4 (some FieldType.int) (RM 7 2) [.ref o, .int (nI c), .int (nI v)] C (.inl (some (.int (fX8_stakeNow C (4 * c + v))))) C := by
  subst eo
  have key := tX10_stake hok (i := 0) (x1 := nI c) (x2 := nI v) (Ω := C) hd
  rw [e_stake hc hv] at key
  exact key
theorem r_burned {G : XG} (hok : XK G) {o : Nat} (eo : ad G 10 0 = o) (hd : dm G 10 0) {D : XD} {C M : XO} (h : RGD D C M) {c b : Nat} (hc : c < 2) (hb : b < dnb D c) (hdr : xI C 13 (24 * c + b) 0 = 0) : XM G yX10_burned cX10_burned 3 (some FieldType.int) (RM 9 4) [.ref o, .int (nI c), .int (nI b)] C (.inl (some (.int (xI C 604 (24 * c + b) 0)))) C := by
  subst eo
  have key := tX10_burned hok (i := 0) (x1 := nI c) (x2 := nI b) (Ω := C) hd
  rw [e_burned h hc hb hdr] at key
  exact key
theorem r_leaf {G : XG} (hok : XK G) {o : Nat} (eo : ad G 10 0 = o) (hd : dm G 10 0) {D : XD} {C M : XO} (h : RGD D C M) {c b a : Nat} (hc : c < 2) (hb : b < dnb D c) (ha : a < 16) (hdr : xI C 13 (24 * c + b) 0 = 0) : XM G yX10_leaf cX10_leaf 4 (some FieldType.int) (RM 9 4) [.ref o, .int (nI c), .int (nI b), .int (nI a)] C (.inl (some (.int (nod C (24 * c + b) 0 a)))) C := by
  subst eo
  have key := tX10_leaf hok (i := 0) (x1 := nI c) (x2 := nI b) (x3 := nI a) (Ω := C) hd
  rw [e_leaf h hc hb ha hdr] at key
  exact key
theorem r_proof {G : XG} (hok : XK G) {o : Nat} (eo : ad G 10 0 = o) (hd : dm G 10 0) {D : XD} {C M : XO} (h : RGD D C M) {c b a s : Nat} (hc : c < 2) (hb : b < dnb D c) (ha : a < 16) (hs : s < 4) (hdr : xI C 13 (24 * c + b) 0 = 0) : XM G yX10_proof cX10_proof 5 (some FieldType.int) (RM 9 5) [.ref o, .int (nI c), .int (nI b), .int (nI a), .int (nI s)] C (.inl (some (.int (nod C (24 * c + b) s (pidx a s))))) C := by
  subst eo
  have key := tX10_proof hok (i := 0) (x1 := nI c) (x2 := nI b) (x3 := nI a) (x4 := nI s) (Ω := C) hd
  rw [e_proof h hc hb ha hs hdr] at key
  exact key
theorem r_coins {G : XG} (hok : XK G) {o : Nat} (eo : ad G 10 0 = o) (hd : dm G 10 0) {D : XD} {C M : XO} (h : RGD D C M) {c b a : Nat} (hc : c < 2) (hb : b < dnb D c) (ha : a < 16) (hdr : xI C 13 (24 * c + b) 0 = 0) : XM G yX10_coins cX10_coins 4 (some FieldType.int) (RM 9 4) [.ref o, .int (nI c), .int (nI b), .int (nI a)] C (.inl (some (.int (xI C 2011 (24 * c + b) a)))) C := by
  subst eo
  have key := tX10_coins hok (i := 0) (x1 := nI c) (x2 := nI b) (x3 := nI a) (Ω := C) hd
  rw [e_coins h hc hb ha, if_pos hdr] at key
  exact key
theorem r_proves {G : XG} (hok : XK G) {o : Nat} (eo : ad G 10 0 = o) (hd : dm G 10 0) {D : XD} {C M : XO} (h : RGD D C M) {c b a l p0 p1 p2 p3 : Nat} (hc : c < 2) (hb : b < dnb D c) (ha : a < 16) (hl : l < 1000003) (h0 : p0 < 1000003) (h1 : p1 < 1000003) (h2 : p2 < 1000003) (h3 : p3 < 1000003) : XM G yX10_proves cX10_proves 11 (some FieldType.boolean) (RM 8 8) [.ref o, .int (nI c), .int (nI b), .int (nI a), .int (nI l), .int (nI p0), .int (nI p1), .int (nI p2), .int (nI p3)] C (.inl (some (.int (if led a (nI l) (nI p0) (nI p1) (nI p2) (nI p3) = xI C 12 (24 * c + b) 0 then 1 else 0)))) C := by
  subst eo
  have key := tX10_proves hok (i := 0) (x1 := nI c) (x2 := nI b) (x3 := nI a) (x4 := nI l) (x5 := nI p0) (x6 := nI p1) (x7 := nI p2) (x8 := nI p3) (Ω := C) hd
  rw [e_proves h hc hb ha hl h0 h1 h2 h3] at key
  exact key
theorem r_anew {G : XG} (hok : XK G) {o : Nat} (eo : ad G 10 0 = o) (hd : dm G 10 0) {C C' : XO} {c b : Nat} {v : Int32} (hf : fX10_rootAnew C (nI c) (nI b) = some (.inl (some (.int v)), C')) : XM G yX10_rootAnew cX10_rootAnew 4 (some FieldType.int) (RM 16 3) [.ref o, .int (nI c), .int (nI b)] C (.inl (some (.int v))) C' := by
  subst eo
  exact tX10_rootAnew hok hd hf
theorem r_prune {G : XG} (hok : XK G) {o : Nat} (eo : ad G 10 0 = o) (hd : dm G 10 0) {C C' : XO} {c : Nat} {v : Int32} (hf : fX10_prune C 0 (nI c) = (.inl (some (.int v)), C')) : XM G yX10_prune cX10_prune 2 (some FieldType.int) (RM 7 1) [.ref o, .int (nI c)] C (.inl (some (.int v))) C' := by
  subst eo
  have key := tX10_prune hok (i := 0) (x1 := nI c) (Ω := C) hd
  rw [hf] at key
  exact key
theorem sMix_rg2 {p q : Int32} (hp : ∃ m : Nat, m < 1000003 ∧ p = nI m) (hq : ∃ m : Nat, m < 1000003 ∧ q = nI m) : ∃ m, m < 1000003 ∧ sMix p q = nI m := by
  obtain ⟨m, h1, rfl⟩ := hp
  obtain ⟨n, h2, rfl⟩ := hq
  exact sMix_rg (by omega) (by omega)
theorem st_u {D : XD} {C M : XO} (h : RGD D C M) {c b : Nat} (hc : c < 2) (hb : b < dnb D c) : ∃ u : Nat → Nat, (∀ a, a < 16 → xI C 2011 (24 * c + b) a = nI (u a)) ∧ xI C 604 (24 * c + b) 0 = nI (u 112) ∧ sumN u 16 + u 112 = 80000 ∧ ∀ a, a < 16 → ∃ l, l < 1000003 ∧ nod C (24 * c + b) 0 a = nI l := by
  obtain ⟨hb2, hg⟩ := blk48 h.NB hc hb
  obtain ⟨t1, t2, t3, t4, t5⟩ := h.ST _ hg
  obtain ⟨u, u1, u2, u3, u4⟩ := h.SI c hc b hb
  have e1 : ∀ a, a < 16 → xI C 2011 (24 * c + b) a = nI (u a) := fun a ha => by rw [t1 a ha]; exact u1 a (by omega)
  have e2 : ∀ a, a < 16 → xI C 2012 (24 * c + b) a = nI (u (16 + a)) := fun a ha => by rw [t2 a ha, Nat.add_assoc]; exact u1 (16 + a) (by omega)
  have e3 : ∀ a, a < 16 → xI C 2013 (24 * c + b) a = nI (u (32 + a)) := fun a ha => by rw [t3 a ha, Nat.add_assoc]; exact u1 (32 + a) (by omega)
  have e4 : ∀ a, a < 64 → xI C 2014 (24 * c + b) a = nI (u (48 + a)) := fun a ha => by rw [t4 a ha, Nat.add_assoc]; exact u1 (48 + a) (by omega)
  have hs : ∀ a, a < 16 → u a ≤ 80000 := by
    have h9 : ∀ n a, a < n → u a ≤ sumN u n := by
      intro n
      induction n with
      | zero => intro a ha; omega
      | succ n ih =>
        intro a ha
        show u a ≤ sumN u n + u n
        by_cases z : a = n
        · rw [z]; omega
        · have := ih a (by omega); omega
    intro a ha
    have := h9 16 a ha
    omega
  refine ⟨u, e1, by rw [t5]; exact u1 112 (by omega), u2, fun a ha => ?_⟩
  have hbn : 25000 * b ≤ 600000 := by omega
  have k0 : nI a * (4 : Int32) = nI (4 * a) := by rw [show (4 : Int32) = nI 4 from rfl, nI_mul, Nat.mul_comm]
  have k1 : nI a * (4 : Int32) + 1 = nI (4 * a + 1) := by rw [k0, nI_1]
  have k2 : nI a * (4 : Int32) + 2 = nI (4 * a + 2) := by rw [k0, show (2 : Int32) = nI 2 from rfl, nI_add]
  have k3 : nI a * (4 : Int32) + 3 = nI (4 * a + 3) := by rw [k0, show (3 : Int32) = nI 3 from rfl, nI_add]
  have a11 : sAt C 2011 (24 * c + b) (nI a) = nI (u a) := by rw [sAt_nI (show a < 16 from ha) (by decide), e1 a ha]
  have a12 : sAt C 2012 (24 * c + b) (nI a) = nI (u (16 + a)) := by rw [sAt_nI (show a < 16 from ha) (by decide), e2 a ha]
  have a13 : sAt C 2013 (24 * c + b) (nI a) = nI (u (32 + a)) := by rw [sAt_nI (show a < 16 from ha) (by decide), e3 a ha]
  have a14 : ∀ j, j < 64 → sAt C 2014 (24 * c + b) (nI j) = nI (u (48 + j)) := fun j hj => by rw [sAt_nI (show j < 64 from hj) (by decide), e4 j hj]
  have hv := hs a ha
  have hn := (u3 a ha).1
  have hcd := (u3 a ha).2.1
  show ∃ l, l < 1000003 ∧ fX6_leafOf C (24 * c + b) (nI a) = nI l
  unfold fX6_leafOf
  rw [k1, k2, k3, k0, a11, a12, a13, a14 _ (by omega), a14 _ (by omega), a14 _ (by omega), a14 _ (by omega), show (1000003 : Int32) = nI 1000003 from rfl, rem_nI (by omega) (by decide) (by decide)]
  have g : ∀ j, j < 64 → ∃ m : Nat, m < 1000003 ∧ nI (u (48 + j)) = nI m := fun j hj => ⟨_, by have := u4 j hj; omega, rfl⟩
  exact sMix_rg2 ⟨_, Nat.mod_lt _ (by decide), rfl⟩ (sMix_rg2 ⟨_, by omega, rfl⟩ (sMix_rg2 ⟨_, by omega, rfl⟩ (sMix_rg2 (sMix_rg2 (g _ (by omega)) (g _ (by omega))) (sMix_rg2 (g _ (by omega)) (g _ (by omega))))))
theorem nod_rg {D : XD} {C M : XO} (h : RGD D C M) {c b : Nat} (hc : c < 2) (hb : b < dnb D c) : ∀ r, r ≤ 4 → ∀ p, p < 16 >>> r → ∃ l, l < 1000003 ∧ nod C (24 * c + b) r p = nI l := by
  obtain ⟨u, -, -, -, hl⟩ := st_u h hc hb
  intro r
  induction r with
  | zero => exact fun _ p hp => hl p hp
  | succ r ih =>
    intro hr p hp
    obtain ⟨-, h1, h2⟩ := sh16 (show r < 4 by omega) hp
    exact sMix_rg2 (ih (by omega) _ h1) (ih (by omega) _ h2)
theorem nod_root {D : XD} {C M : XO} (h : RGD D C M) {c b : Nat} (hc : c < 2) (hb : b < dnb D c) : nod C (24 * c + b) 4 0 = xI C 12 (24 * c + b) 0 := by
  have e := h.RT c hc b hb C (24 * c + b) (fun _ _ => rfl) (fun _ _ => rfl) (fun _ _ => rfl) (fun _ _ => rfl)
  rw [← e]
  exact (cNode C (24 * c + b) 4 4 0 (by decide) (by decide)).symm
