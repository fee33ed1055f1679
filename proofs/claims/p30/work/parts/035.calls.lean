/-- a call as XW sees it -/
def XR (G : XG) : XB → Nat → Nat → List (Nat × Value) → List Value → List Value → XO → Nat → Nat → Nat → Nat → (Option Value ⊕ String) → XO → Prop
  | (p, e, R, s, m, args, below, meth, c, _), nL, pc, lv, st, rest, Ω, cu, su, mc, ms, T2, Ω2 => ∀ (H : Heap) (locs : List Loc) (ls : Array Slot), va_P (gD G) vwCl (pl G Ω) H → va_S (xA G) s.heap H locs → lv_has ls nL lv → ∃ a, vx_Run p (gl G) e R s m args below meth c H locs cu su mc ms (F0 m pc ls st) rest (XQc G T2 Ω2 a) (XXc G T2 Ω2) (xA G)
theorem x_ret {G : XG} {B : XB}  {nL : Nat}  {pc : Nat} {lv : List (Nat × Value)} {st : List Value} {Ω : XO} {cu su : Nat} {rest st2 : List Value} {mc ms cu2 su2 : Nat} {o : Option Value} {Ω2 : XO} (hr : XR G B nL pc lv st rest Ω cu su mc ms (.inl o) Ω2) (hst : o.toList ++ rest = st2) (hcu : cu + mc = cu2) (hsu : su + ms = su2) {pc2 : Nat} (hp : pc + 3 = pc2) (k : XW G B nL pc2 lv st2 Ω2 cu2 su2) : XW G B nL pc lv st Ω cu su := by
  subst hst
  subst hcu
  subst hsu
  subst hp
  obtain ⟨p, e, R, s, m, args, below, meth, c, Q⟩ := B
  intro H locs ls hP hS hl X hT X0
  obtain ⟨a, hr⟩ := hr H locs ls hP hS hl
  rcases hr X hT X0 with ⟨v, st₀, t, T', L, h0, X', hL, e1, e2, ⟨o', ho', hv, hP2, hF⟩, stp⟩ | ⟨q, st₀, t, T', L, E, ce, h0, X', hL, e1, e2, ⟨hb, -⟩, -⟩
  · cases ho'
    cases hv
    obtain ⟨k1, k2, k3⟩ := vx_keep h0 e1 hS (fun q _ h => h) (fun q h => h) hL hF
    obtain ⟨t2, a1, b1⟩ := k T'.heap (locs ++ L) ls (by rw [e1]; exact hP2) k3 hl T' rfl X'
    exact ⟨t2, stp t2 a1, b1⟩
  · cases hb
theorem x_thr {G : XG} {B : XB} {cc : ByteArray} {own : String} {rm : Room} {nL : Nat} {ret : Option FieldType} {T : Option Value ⊕ String} {Ω9 : XO} (C : XC G B cc own rm nL ret T Ω9) {pc : Nat} {lv : List (Nat × Value)} {st : List Value} {Ω : XO} {cu su : Nat} {rest : List Value} {mc ms : Nat} {E : String} {Ω2 : XO} (hr : XR G B nL pc lv st rest Ω cu su mc ms (.inr E) Ω2) (hcu : cu + mc ≤ rm.cells) (hsu : su + ms ≤ rm.slots) (hT : T = .inr E) (hΩ : Ω9 = Ω2) : XW G B nL pc lv st Ω cu su := by
  obtain ⟨p, e, R, s, m, args, below, meth, c, Q⟩ := B
  obtain ⟨hx, hb, hml, ho, hts, hU, hok, hlk, hR, hret, htab, hQ⟩ := C
  intro H locs ls hP hS hl X hTT X0
  obtain ⟨a, hr⟩ := hr H locs ls hP hS hl
  rcases hr X hTT X0 with ⟨v, st₀, t, T', L, h0, X', hL, e1, e2, ⟨o', ho', -⟩, -⟩ | ⟨q, st₀, t, T', L, E2, ce, h0, X', hL, e1, e2, ⟨hb2, hP2, hF⟩, hce, hcv, hcl, stp⟩
  · cases ho'
  · cases hb2
    obtain ⟨k1, k2, k3⟩ := vx_keep h0 e1 hS (fun q _ h => h) (fun q h => h) hL hF
    subst hQ
    have hz := vx_out (p := p) (l := gl G) (e := e) (R := R) (s := s) (m := m) (args := args) (below := below) (meth := meth) (c := c) (H := T'.heap) (locs := locs ++ L) (cells := cu + mc) (slots := su + ms) (mc := rm.cells) (ms := rm.slots) (free := xA G) (ls := ls) (rest := rest) (Qc := XQc G T Ω9) (XC := XXc G T Ω9) (pc := pc) (E := E) (ce := ce) (q := q) (fun x hx => (htab x hx).elim) hlk (by rw [e1]; exact hce) hcv hcl (fun t9 ht9 _ => ⟨hT, by rw [ht9, hΩ, e1]; exact hP2, k3.F ht9⟩) k3.2.2 hcu hsu
    obtain ⟨t2, a1, b1⟩ := hz T' rfl X'
    exact ⟨t2, stp.trans a1, b1⟩
theorem x_cV {G : XG} {B : XB} {cc : ByteArray} {own : String} {rm : Room} {nL : Nat} {ret : Option FieldType} {T : Option Value ⊕ String} {Ω9 : XO} (C : XC G B cc own rm nL ret T Ω9) {pc : Nat} {lv : List (Nat × Value)} {st : List Value} {Ω : XO} {cu su : Nat} {y : MethodName} {b2 : ByteArray} {mL2 n idx : Nat} {ret2 : Option FieldType} {rm2 : Room} {As rest : List Value} {Ω2 : XO} {T2 : Option Value ⊕ String} {kd i : Nat} (hdm : dm G kd i) (hk : kd < 11) (hm : XMV y b2 mL2 ret2 n) (hy : cnm kd = y.cls) (hl0 : Cond.methodLink own idx y ∈ lw_g) (hM : XM G y b2 mL2 ret2 rm2 (.ref (ad G kd i) :: As) Ω T2 Ω2) (hn : As.length = n) (hst : st = As.reverse ++ .ref (ad G kd i) :: rest) (hw : (rest.map fun v => v.category).sum ≤ 8) (hR1 : rm2.frames + 1 ≤ rm.frames ∧ 8 + (mL2 + 11) + rm2.locals ≤ rm.locals) (hR2 : cu + rm2.cells ≤ rm.cells ∧ su + rm2.slots ≤ rm.slots) (hd : decode cc pc = .ok (.invokevirtual idx, 3)) : XR G B nL pc lv st rest Ω cu su rm2.cells rm2.slots T2 Ω2 := by
  obtain ⟨p, e, R, s, m, args, below, meth, c, Q⟩ := B
  obtain ⟨hx, hb, hml, ho, hts, hU, hok, hlk, hR, hret, htab, hQ⟩ := C
  subst hst
  subst hR
  intro H locs ls hP hS hl
  obtain ⟨q, hq⟩ := pl_get (Ω := Ω) hdm
  rw [EE_o hk] at hq
  have hrc := va_recv (s := s) hU.2.1 hP (cl_at hk) hq
  have hrc2 : ∃ cell : Cell, H[ad G kd i]? = some cell ∧ cell.vm.isStatics = false ∧ s.vm.findClass y.cls = some cell.cls := by rw [← hy]; exact hrc
  have hg : GoodIn lw_g (wsV own idx y.cls y (Cond.code y b2 mL2 ret2 :: lw_g)) := by
    intro z hz
    have hz2 : z ∈ lw_g := by
      simp only [wsV, List.mem_append, List.mem_cons, List.not_mem_nil, or_false] at hz
      rcases hz with (rfl | rfl | rfl | rfl) | rfl | hz
      · exact hl0
      · exact hm.1
      · exact hm.2.1
      · exact hm.2.2.1
      · exact hm.2.2.2.1
      · exact hz
    exact ⟨hz2, lw_good z hz2⟩
  exact ⟨_, vx_runV (nL := nL) ⟨hx, hb, hml, ho, hts⟩ hM (cwV n hts hg rfl rfl rfl ⟨rfl, hm.2.2.2.2⟩ hR1) ⟨XPc_blind, hrc2, fun U hU2 hW => ⟨rfl, hU.on hS hU2 hW, by rw [hU2]; exact hP⟩⟩ rfl hn hl.1 rfl (lv_room hw) hd hR2⟩
theorem x_cS {G : XG} {B : XB} {cc : ByteArray} {own : String} {rm : Room} {nL : Nat} {ret : Option FieldType} {T : Option Value ⊕ String} {Ω9 : XO} (C : XC G B cc own rm nL ret T Ω9) {pc : Nat} {lv : List (Nat × Value)} {st : List Value} {Ω : XO} {cu su : Nat} {y : MethodName} {b2 : ByteArray} {mL2 n idx : Nat} {ret2 : Option FieldType} {rm2 : Room} {As rest : List Value} {Ω2 : XO} {T2 : Option Value ⊕ String} (hm : XMS y b2 mL2 ret2 n) (hl0 : Cond.methodLink own idx y ∈ lw_g) (hM : XM G y b2 mL2 ret2 rm2 As Ω T2 Ω2) (hn : As.length = n) (hst : st = As.reverse ++ rest) (hw : (rest.map fun v => v.category).sum ≤ 8) (hR1 : rm2.frames + 1 ≤ rm.frames ∧ 8 + (mL2 + 11) + rm2.locals ≤ rm.locals) (hR2 : cu + rm2.cells ≤ rm.cells ∧ su + rm2.slots ≤ rm.slots) (hd : decode cc pc = .ok (.invokestatic idx, 3)) : XR G B nL pc lv st rest Ω cu su rm2.cells rm2.slots T2 Ω2 := by
  obtain ⟨p, e, R, s, m, args, below, meth, c, Q⟩ := B
  obtain ⟨hx, hb, hml, ho, hts, hU, hok, hlk, hR, hret, htab, hQ⟩ := C
  subst hst
  subst hR
  intro H locs ls hP hS hl
  have hg : GoodIn lw_g (va_wsS own idx y (Cond.code y b2 mL2 ret2 :: lw_g)) := by
    intro z hz
    have hz2 : z ∈ lw_g := by
      simp only [va_wsS, List.mem_append, List.mem_cons, List.not_mem_nil, or_false] at hz
      rcases hz with (rfl | rfl | rfl) | rfl | hz
      · exact hl0
      · exact hm.1
      · exact hm.2.1
      · exact hm.2.2.1
      · exact hz
    exact ⟨hz2, lw_good z hz2⟩
  exact ⟨_, vx_runS (nL := nL) ⟨hx, hb, hml, ho, hts⟩ hM (va_cwS n hts hg rfl rfl rfl hm.2.2.2 hR1) ⟨XPc_blind, fun U hU2 hW => ⟨rfl, hU.on hS hU2 hW, by rw [hU2]; exact hP⟩⟩ rfl hn hl.1 rfl (lv_room hw) hd hR2⟩
theorem x_cVN {G : XG} {B : XB} {cc : ByteArray} {own : String} {rm : Room} {nL : Nat} {ret : Option FieldType} {T : Option Value ⊕ String} {Ω9 : XO} (C : XC G B cc own rm nL ret T Ω9) {pc : Nat} {lv : List (Nat × Value)} {st : List Value} {Ω : XO} {cu su : Nat} {y : MethodName} {b2 : ByteArray} {mL2 n idx : Nat} {ret2 : Option FieldType} {rm2 : Room} {As rest : List Value} {Ω2 : XO} {T2 : Option Value ⊕ String} {kd i : Nat} {host : String} (hdm : dm G kd i) (hk : kd < 11) (hm : XMV y b2 mL2 ret2 n) (hy : cnm kd = y.cls) (hl0 : (own, idx, y, host) ∈ xnm) (hM : XM G y b2 mL2 ret2 rm2 (.ref (ad G kd i) :: As) Ω T2 Ω2) (hn : As.length = n) (hst : st = As.reverse ++ .ref (ad G kd i) :: rest) (hw : (rest.map fun v => v.category).sum ≤ 8) (hR1 : rm2.frames + 1 ≤ rm.frames ∧ 8 + (mL2 + 11) + rm2.locals ≤ rm.locals) (hR2 : cu + rm2.cells ≤ rm.cells ∧ su + rm2.slots ≤ rm.slots) (hd : decode cc pc = .ok (.invokevirtual idx, 3)) : XR G B nL pc lv st rest Ω cu su rm2.cells rm2.slots T2 Ω2 := by
  obtain ⟨p, e, R, s, m, args, below, meth, c, Q⟩ := B
  obtain ⟨hx, hb, hml, ho, hts, hU, hok, hlk, hR, hret, htab, hQ⟩ := C
  subst hst
  subst hR
  intro H locs ls hP hS hl
  obtain ⟨q, hq⟩ := pl_get (Ω := Ω) hdm
  rw [EE_o hk] at hq
  have hrc := va_recv (s := s) hU.2.1 hP (cl_at hk) hq
  have hrc2 : ∃ cell : Cell, H[ad G kd i]? = some cell ∧ cell.vm.isStatics = false ∧ s.vm.findClass y.cls = some cell.cls := by rw [← hy]; exact hrc
  have hcd := hm.2.2.2.1
  have hg : GoodIn lw_g (Cond.code y b2 mL2 ret2 :: lw_g) := by
    intro z hz
    have hz2 : z ∈ lw_g := by
      rcases List.mem_cons.mp hz with rfl | hz
      · exact hcd
      · exact hz
    exact ⟨hz2, lw_good z hz2⟩
  exact ⟨_, vx_runVN (nL := nL) ⟨hx, hb, hml, ho, hts⟩ hM ⟨va_cnB n hts hg rfl rfl rfl (hU.2.2.1.1 _ hl0) (hts _ hm.2.2.1) hm.2.2.2.2 hR1, hts _ hm.1, hts _ hm.2.1⟩ ⟨XPc_blind, hrc2, fun U hU2 hW => ⟨rfl, hU.on hS hU2 hW, by rw [hU2]; exact hP⟩⟩ rfl hn hl.1 rfl (lv_room hw) hd hR2⟩
theorem x_cSN {G : XG} {B : XB} {cc : ByteArray} {own : String} {rm : Room} {nL : Nat} {ret : Option FieldType} {T : Option Value ⊕ String} {Ω9 : XO} (C : XC G B cc own rm nL ret T Ω9) {pc : Nat} {lv : List (Nat × Value)} {st : List Value} {Ω : XO} {cu su : Nat} {y : MethodName} {b2 : ByteArray} {mL2 n idx : Nat} {ret2 : Option FieldType} {rm2 : Room} {As rest : List Value} {Ω2 : XO} {T2 : Option Value ⊕ String} {host : String} (hm : XMS y b2 mL2 ret2 n) (hl0 : (own, idx, y, host) ∈ xnm) (hM : XM G y b2 mL2 ret2 rm2 As Ω T2 Ω2) (hn : As.length = n) (hst : st = As.reverse ++ rest) (hw : (rest.map fun v => v.category).sum ≤ 8) (hR1 : rm2.frames + 1 ≤ rm.frames ∧ 8 + (mL2 + 11) + rm2.locals ≤ rm.locals) (hR2 : cu + rm2.cells ≤ rm.cells ∧ su + rm2.slots ≤ rm.slots) (hd : decode cc pc = .ok (.invokestatic idx, 3)) : XR G B nL pc lv st rest Ω cu su rm2.cells rm2.slots T2 Ω2 := by
  obtain ⟨p, e, R, s, m, args, below, meth, c, Q⟩ := B
  obtain ⟨hx, hb, hml, ho, hts, hU, hok, hlk, hR, hret, htab, hQ⟩ := C
  subst hst
  subst hR
  intro H locs ls hP hS hl
  have hcd := hm.2.2.1
  have hg : GoodIn lw_g (Cond.code y b2 mL2 ret2 :: lw_g) := by
    intro z hz
    have hz2 : z ∈ lw_g := by
      rcases List.mem_cons.mp hz with rfl | hz
      · exact hcd
      · exact hz
    exact ⟨hz2, lw_good z hz2⟩
  exact ⟨_, vx_runSN (nL := nL) ⟨hx, hb, hml, ho, hts⟩ hM ⟨va_cnB n hts hg rfl rfl rfl (hU.2.2.1.1 _ hl0) (hts _ hm.2.1) hm.2.2.2 hR1, hts _ hm.1, trivial⟩ ⟨XPc_blind, fun U hU2 hW => ⟨rfl, hU.on hS hU2 hW, by rw [hU2]; exact hP⟩⟩ rfl hn hl.1 rfl (lv_room hw) hd hR2⟩
theorem x_mmax {G : XG} {B : XB} {cc : ByteArray} {own : String} {rm : Room} {nL : Nat} {ret : Option FieldType} {T : Option Value ⊕ String} {Ω9 : XO} (C : XC G B cc own rm nL ret T Ω9) {pc : Nat} {lv : List (Nat × Value)} {st : List Value} {Ω : XO} {cu su : Nat} {x y : Int32} {idx : Nat} (hl0 : Cond.methodLink own idx Lib.Math.max.name ∈ lw_g) (hs : Cond.static Lib.Math.max.name ∈ lw_g) (hi : Cond.initialized "java/lang/Math" ∈ lw_g) (hc : Cond.code Lib.Math.max.name Lib.Math.max.code 2 (some .int) ∈ lw_g) (hf : 1 ≤ rm.frames ∧ (st.map fun v => v.category).sum + 13 ≤ rm.locals) (hcu : cu ≤ rm.cells) (hsu : su ≤ rm.slots) (hd : decode cc pc = .ok (.invokestatic idx, 3)) {pc2 : Nat} (hp : pc + 3 = pc2) (k : XW G B nL pc2 lv (.int (if x < y then y else x) :: st) Ω cu su) : XW G B nL pc lv (.int y :: .int x :: st) Ω cu su := by
  obtain ⟨p, e, R, s, m, args, below, meth, c, Q⟩ := B
  obtain ⟨hx, hb, hml, ho, hts, hU, hok, hlk, hR, hret, htab, hQ⟩ := C
  subst hR
  intro H locs ls hP hS hl
  subst hp
  exact va_mmax hx hb (hml.trans hl.1.symm) ho (hts _ hl0) (hts _ hs) (hts _ hi) (hts _ hc) hf.1 hf.2 hcu hsu hd (k H locs ls hP hS hl)
theorem x_mmin {G : XG} {B : XB} {cc : ByteArray} {own : String} {rm : Room} {nL : Nat} {ret : Option FieldType} {T : Option Value ⊕ String} {Ω9 : XO} (C : XC G B cc own rm nL ret T Ω9) {pc : Nat} {lv : List (Nat × Value)} {st : List Value} {Ω : XO} {cu su : Nat} {x y : Int32} {idx : Nat} (hl0 : Cond.methodLink own idx Lib.Math.min.name ∈ lw_g) (hs : Cond.static Lib.Math.min.name ∈ lw_g) (hi : Cond.initialized "java/lang/Math" ∈ lw_g) (hc : Cond.code Lib.Math.min.name Lib.Math.min.code 2 (some .int) ∈ lw_g) (hf : 1 ≤ rm.frames ∧ (st.map fun v => v.category).sum + 13 ≤ rm.locals) (hcu : cu ≤ rm.cells) (hsu : su ≤ rm.slots) (hd : decode cc pc = .ok (.invokestatic idx, 3)) {pc2 : Nat} (hp : pc + 3 = pc2) (k : XW G B nL pc2 lv (.int (if y < x then y else x) :: st) Ω cu su) : XW G B nL pc lv (.int y :: .int x :: st) Ω cu su := by
  obtain ⟨p, e, R, s, m, args, below, meth, c, Q⟩ := B
  obtain ⟨hx, hb, hml, ho, hts, hU, hok, hlk, hR, hret, htab, hQ⟩ := C
  subst hR
  intro H locs ls hP hS hl
  subst hp
  exact va_mmin hx hb (hml.trans hl.1.symm) ho (hts _ hl0) (hts _ hs) (hts _ hi) (hts _ hc) hf.1 hf.2 hcu hsu hd (k H locs ls hP hS hl)
theorem x_copy {G : XG} {B : XB} {cc : ByteArray} {own : String} {rm : Room} {nL : Nat} {ret : Option FieldType} {T : Option Value ⊕ String} {Ω9 : XO} (C : XC G B cc own rm nL ret T Ω9) {pc : Nat} {lv : List (Nat × Value)} {st : List Value} {Ω : XO} {cu su : Nat} {f i g h idx : Nat} {sp dp n : Int32} (hdm1 : dm G f i) (hdm2 : dm G g h) (hf : 2000 ≤ f) (hg : 2000 ≤ g) (ht1 : aty f = 0) (ht2 : aty g = 0) (hl0 : Cond.methodLink own idx arraycopyName ∈ lw_g) (hs : Cond.static arraycopyName ∈ lw_g) (hnt : Cond.native arraycopyName ∈ lw_g) (hi : Cond.initialized "java/lang/System" ∈ lw_g) (h1 : ¬ sp < 0) (h2 : ¬ dp < 0) (h3 : ¬ n < 0) (h4 : sp.toNatClampNeg + n.toNatClampNeg ≤ alen f) (h5 : dp.toNatClampNeg + n.toNatClampNeg ≤ alen g) (hfr : 1 ≤ rm.frames ∧ (st.map fun v => v.category).sum + (nativeFrameWords "java/lang/System" "arraycopy" 5 + 11) ≤ rm.locals) (hd : decode cc pc = .ok (.invokestatic idx, 3)) {pc2 : Nat} (hp : pc + 3 = pc2) (k : XW G B nL pc2 lv st (cI Ω f i g h sp.toNatClampNeg dp.toNatClampNeg n.toNatClampNeg) cu su) : XW G B nL pc lv (.int n :: .int dp :: .ref (ad G g h) :: .int sp :: .ref (ad G f i) :: st) Ω cu su := by
  obtain ⟨p, e, R, s, m, args, below, meth, c, Q⟩ := B
  obtain ⟨hx, hb, hml, ho, hts, hU, hok, hlk, hR, hret, htab, hQ⟩ := C
  subst hR
  intro H locs ls hP hS hl
  subst hp
  obtain ⟨q1, hq1⟩ := pl_get (Ω := Ω) hdm1
  obtain ⟨q2, hq2⟩ := pl_get (Ω := Ω) hdm2
  have hq0 := hq2
  rw [EE_ai hf ht1] at hq1
  rw [EE_ai hg ht2] at hq2
  refine va_copyi (D := gD G) (A := xA G) hx hb (hml.trans hl.1.symm) ho (hts _ hl0) (hts _ hnt) (hts _ hs) (hts _ hi) hU.2.1 hP (hok.2.2.1 _) hS q1 q2 0 0 hq1 hq2 rfl rfl rfl h1 h2 h3 h4 h5 (fun _ _ => rfl) hfr.1 hfr.2 hd (fun H1 locs1 hP1 _ hS1 => ?_)
  rw [pl_set hok hdm2 hq0 _ (EE_cI (f := f) (i := i) (sp := sp.toNatClampNeg) (dp := dp.toNatClampNeg) (n := n.toNatClampNeg) hg ht2) (EE_cIn hg)] at hP1
  exact k H1 locs1 ls hP1 hS1 hl
