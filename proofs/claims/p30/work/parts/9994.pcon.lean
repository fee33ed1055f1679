/-- the things stay, others may have come -/
def gs (G G' : XG) : Prop := XK G' ∧ gl G' = gl G ∧ gb G' = gb G ∧ gD G' = gD G ∧ gC G' = gC G ∧ gT G' = gT G
theorem gs.rf {G : XG} (h : XK G) : gs G G := ⟨h, rfl, rfl, rfl, rfl, rfl⟩
theorem gs.xa {G G' : XG} (h : gs G G') : xA G' = xA G := by
  funext q
  show (gb G' ≤ q) = (gb G ≤ q)
  rw [h.2.2.1]
theorem gs.tr {A B C : XG} (h : gs A B) (k : gs B C) : gs A C := ⟨k.1, k.2.1.trans h.2.1, k.2.2.1.trans h.2.2.1, k.2.2.2.1.trans h.2.2.2.1, k.2.2.2.2.1.trans h.2.2.2.2.1, k.2.2.2.2.2.trans h.2.2.2.2.2⟩
theorem XU.gs {G G' : XG} {U : State} (hU : XU G U) (h : gs G G') : XU G' U := by
  obtain ⟨h1, h2, h3, h4⟩ := hU
  obtain ⟨k0, k1, k2, k3, k4, k5⟩ := id h
  have ht : tysOf G' = tysOf G := by unfold tysOf; rw [k4]
  refine ⟨by rw [k2]; exact h1, by rw [k3, ht]; exact h2, h3, ?_⟩
  unfold XT at h4 ⊢
  rw [h.xa]
  simp only [k5]
  exact h4
theorem XZ.gs {G G' : XG} {B : XB} {cc : ByteArray} {own : String} {rm : Room} {nL : Nat} (C : XZ G B cc own rm nL) (h : gs G G') : XZ G' B cc own rm nL := by
  obtain ⟨p, e, R, s, m, args, below, meth, c, Q⟩ := B
  obtain ⟨hx, hb, hml, ho, hts, hU, hok, hlk, hR, hret, htab, hQ⟩ := C
  exact ⟨hx, hb, hml, ho, hts, hU.gs h, h.1, hlk, hR, hret, htab, hQ⟩
theorem XW.at {G G' : XG} (h : gs G G') {p : Program} {e : Env} {R : Room} {s : State} {m : MethodId} {args : Array Value} {below : List Frame} {meth : Method} {c : Code} {Q : State → Prop} {nL pc : Nat} {lv : List (Nat × Value)} {st : List Value} {Ω : XO} {cu su : Nat} (k : XW G' (p, e, R, s, m, args, below, meth, c, Q) nL pc lv st Ω cu su) {H : Heap} {locs : List Loc} {ls : Array Slot} (hP : va_P (gD G) vwCl (pl G' Ω) H) (hS : va_S (xA G) s.heap H locs) (hl : lv_has ls nL lv) : W p (gl G) e R s m args below meth c H locs cu su Q (F0 m pc ls st) := by
  have key := k H locs ls (by rw [h.2.2.2.1]; exact hP) (by rw [h.xa]; exact hS) hl
  rw [h.2.1] at key
  exact key
/-- a contract that says of answer, things and world behind it what Po says -/
def PQc (G : XG) (Po : Value → XG → XO → Prop) : Array Value → State → Outcome → State → Prop := fun _ st oc t => ∃ v G' Ω', Po v G' Ω' ∧ gs G G' ∧ oc = .returned (some v) ∧ va_P (gD G) vwCl (pl G' Ω') t.heap ∧ va_F (xA G) st t
def PXc : String → State → State → Prop := fun _ _ _ => False
def PM (G : XG) (y : MethodName) (b : ByteArray) (maxL : Nat) (ret : Option FieldType) (rm : Room) (as : List Value) (Ω : XO) (Po : Value → XG → XO → Prop) : Prop := vx_Met (gl G) y (Cond.code y b maxL ret :: lw_g) rm (HPc G as Ω) (PQc G Po) PXc rm.cells rm.slots (xA G)
def XE (G : XG) (Po : Value → XG → XO → Prop) : XB → Option FieldType → Room → Prop
  | (p, e, R, s, m, args, below, meth, c, Q), ret, rm => meth.sig.returnType = ret ∧ R = rm ∧ Q = vx_MQ below (PQc G Po) PXc args s rm.cells rm.slots (xA G)
theorem p_start {G : XG} (hok : XK G) {y : MethodName} {cc : ByteArray} {maxL : Nat} {ret : Option FieldType} {rm : Room} {as : List Value} {Ω : XO} {Po : Value → XG → XO → Prop} {lv : List (Nat × Value)} {own : String} (hy : plainName y.cls = true) (ho : y.cls = own) (hlen : (lg_sl as).length ≤ maxL) (hlv : lv_args 0 as = lv)
    (body : ∀ B : XB, XZ G B cc own rm maxL → XNB B → XE G Po B ret rm → XW G B maxL 0 lv [] Ω 0 0) : PM G y cc maxL ret rm as Ω Po := by
  subst ho
  refine vx_ofW (cc := cc) (maxL := maxL) (ret := ret) hy rfl ?_
  intro p e s m args below meth c s₁ B hml ht hv
  obtain ⟨rfl, hU, hP⟩ := hv
  have hts : ∀ w ∈ lw_g, w.before as.toArray s = true := fun w hw => atoms_spec (ws := Cond.code y cc maxL ret :: lw_g) B.pre w (List.mem_cons_of_mem _ hw)
  have k := body (p, e, rm, s, m, as.toArray, below, meth, c, vx_MQ below (PQc G Po) PXc as.toArray s rm.cells rm.slots (xA G)) ⟨B.exec, B.bytes, hml, findClass_of_methodNamed B.named, hts, hU.1, hok, B.notSynchronized, rfl, trivial, trivial, trivial⟩ hU.2 ⟨B.returns, rfl, rfl⟩
  have hl := lv_entry as (n := maxL) hlen
  rw [hlv] at hl
  rw [lg_entry_eq]
  exact k s.heap [] _ hP va_S.rf hl
theorem p_ireturn {G G' : XG} {B : XB} {cc : ByteArray} {own : String} {rm : Room} {nL : Nat} (C : XZ G' B cc own rm nL) {Po : Value → XG → XO → Prop} {ret : Option FieldType} (E : XE G Po B ret rm) (hg : gs G G') {pc : Nat} {lv : List (Nat × Value)} {Ω : XO} {cu su : Nat} {v : Int32} (hd : decode cc pc = .ok (.ireturn, 1)) (hr : ret = some .int) (hcu : cu ≤ rm.cells) (hsu : su ≤ rm.slots) (hPo : Po (.int v) G' Ω) : XW G' B nL pc lv [.int v] Ω cu su := by
  obtain ⟨p, e, R, s, m, args, below, meth, c, Q⟩ := B
  obtain ⟨hx, hb, hml, ho, hts, hU, hok, hlk, hR, hret, htab, hQ⟩ := C
  obtain ⟨e1, e2, e3⟩ := E
  intro H locs ls hP hS hl
  subst e3
  subst hR
  rw [hg.xa] at hS
  refine W.widen (k := R.cells) (n := R.slots) hcu hsu (vx_ret ?_)
  exact W.iret (v := v) hx hb (e1.trans hr) (fun t ht hW => ⟨_, _, _, hPo, hg, rfl, by rw [ht, ← hg.2.2.2.1]; exact hP, hS.F ht⟩) hS.2.2 hd
theorem p_zreturn {G G' : XG} {B : XB} {cc : ByteArray} {own : String} {rm : Room} {nL : Nat} (C : XZ G' B cc own rm nL) {Po : Value → XG → XO → Prop} {ret : Option FieldType} (E : XE G Po B ret rm) (hg : gs G G') {pc : Nat} {lv : List (Nat × Value)} {Ω : XO} {cu su : Nat} {v : Int32} (hd : decode cc pc = .ok (.ireturn, 1)) (hr : ret = some .boolean) (hz : v = 0 ∨ v = 1) (hcu : cu ≤ rm.cells) (hsu : su ≤ rm.slots) (hPo : Po (.int v) G' Ω) : XW G' B nL pc lv [.int v] Ω cu su := by
  obtain ⟨p, e, R, s, m, args, below, meth, c, Q⟩ := B
  obtain ⟨hx, hb, hml, ho, hts, hU, hok, hlk, hR, hret, htab, hQ⟩ := C
  obtain ⟨e1, e2, e3⟩ := E
  intro H locs ls hP hS hl
  subst e3
  subst hR
  rw [hg.xa] at hS
  refine W.widen (k := R.cells) (n := R.slots) hcu hsu (vx_ret ?_)
  exact W.zret (v := v) hx hb (e1.trans hr) (by rcases hz with rfl | rfl <;> rfl) (fun t ht hW => ⟨_, _, _, hPo, hg, rfl, by rw [ht, ← hg.2.2.2.1]; exact hP, hS.F ht⟩) hS.2.2 hd
theorem p_areturn {G G' : XG} {B : XB} {cc : ByteArray} {own : String} {rm : Room} {nL : Nat} (C : XZ G' B cc own rm nL) {Po : Value → XG → XO → Prop} {ret : Option FieldType} (E : XE G Po B ret rm) (hg : gs G G') {pc : Nat} {lv : List (Nat × Value)} {Ω : XO} {cu su : Nat} {a : Nat} {ty : FieldType} (hd : decode cc pc = .ok (.areturn, 1)) (hr : ret = some (.array ty)) (hcu : cu ≤ rm.cells) (hsu : su ≤ rm.slots) (hPo : Po (.ref a) G' Ω) : XW G' B nL pc lv [.ref a] Ω cu su := by
  obtain ⟨p, e, R, s, m, args, below, meth, c, Q⟩ := B
  obtain ⟨hx, hb, hml, ho, hts, hU, hok, hlk, hR, hret, htab, hQ⟩ := C
  obtain ⟨e1, e2, e3⟩ := E
  intro H locs ls hP hS hl
  subst e3
  subst hR
  rw [hg.xa] at hS
  refine W.widen (k := R.cells) (n := R.slots) hcu hsu (vx_ret ?_)
  exact W.aret (v := .ref a) hx hb (e1.trans hr) (Or.inr ⟨ty, rfl⟩) (Or.inr ⟨a, rfl⟩) (fun t ht hW => ⟨_, _, _, hPo, hg, rfl, by rw [ht, ← hg.2.2.2.1]; exact hP, hS.F ht⟩) hS.2.2 hd
theorem goodS {own : String} {idx n mL2 : Nat} {y : MethodName} {b2 : ByteArray} {ret2 : Option FieldType} (hm : XMS y b2 mL2 ret2 n) (hl0 : Cond.methodLink own idx y ∈ lw_g) : GoodIn lw_g (va_wsS own idx y (Cond.code y b2 mL2 ret2 :: lw_g)) := by
  intro z hz
  have hz2 : z ∈ lw_g := by
    simp only [va_wsS, List.mem_append, List.mem_cons, List.not_mem_nil, or_false] at hz
    rcases hz with (rfl | rfl | rfl) | rfl | hz
    · exact hl0
    · exact hm.1
    · exact hm.2.1
    · exact hm.2.2.1
    · exact hz
  exact ⟨hz2, lw_good z hz2⟩
/-- a call of a static method by such a contract -/
theorem z_cP {G : XG} {B : XB} {cc : ByteArray} {own : String} {rm : Room} {nL : Nat} (C : XZ G B cc own rm nL) (hN : XNB B) {pc : Nat} {lv : List (Nat × Value)} {st : List Value} {Ω : XO} {cu su : Nat} {y : MethodName} {b2 : ByteArray} {mL2 n idx : Nat} {ret2 : Option FieldType} {rm2 : Room} {As rest : List Value} {Po : Value → XG → XO → Prop} (hm : XMS y b2 mL2 ret2 n) (hl0 : Cond.methodLink own idx y ∈ lw_g) (hM : PM G y b2 mL2 ret2 rm2 As Ω Po) (hn : As.length = n) (hst : st = As.reverse ++ rest) (hw : (rest.map fun v => v.category).sum ≤ 8) (hR1 : rm2.frames + 1 ≤ rm.frames ∧ 8 + (mL2 + 11) + rm2.locals ≤ rm.locals) (hR2 : cu + rm2.cells ≤ rm.cells ∧ su + rm2.slots ≤ rm.slots) (hd : decode cc pc = .ok (.invokestatic idx, 3)) {pc2 cu2 su2 : Nat} (hp : pc + 3 = pc2) (hcu : cu + rm2.cells = cu2) (hsu : su + rm2.slots = su2) (k : ∀ (v : Value) (G' : XG) (Ω' : XO), Po v G' Ω' → gs G G' → XZ G' B cc own rm nL → XW G' B nL pc2 lv (v :: rest) Ω' cu2 su2) : XW G B nL pc lv st Ω cu su := by
  obtain ⟨p, e, R, s, m, args, below, meth, c, Q⟩ := B
  have C0 := C
  obtain ⟨hx, hb, hml, ho, hts, hU, hok, hlk, hR, hret, htab, hQ⟩ := C
  have hN : XNc s := hN
  subst hst
  subst hR
  subst hp
  subst hcu
  subst hsu
  intro H locs ls hP hS hl X hTT X0
  have hr := vx_runS (e := e) (meth := meth) (below := below) (locs := locs) (nL := nL) ⟨hx, hb, hml, ho, hts⟩ hM (va_cwS n hts (goodS hm hl0) rfl rfl rfl hm.2.2.2 hR1) ⟨HPc_blind, fun U hU2 hW => ⟨rfl, ⟨hU.on hS hU2 hW, XNc.moved hW.alike hN⟩, by rw [hU2]; exact hP⟩⟩ (g := F0 m pc ls (As.reverse ++ rest)) rfl hn hl.1 rfl (lv_room hw) hd hR2
  rcases hr X hTT X0 with ⟨v, st₀, t, T', L, h0, X', hL, e1, e2, ⟨v', G', Ω', hPo, hgs, ho', hP2, hF⟩, stp⟩ | ⟨q, st₀, t, T', L, E, ce, h0, X', hL, e1, e2, hb9, -⟩
  · cases ho'
    obtain ⟨k1, k2, k3⟩ := vx_keep h0 e1 hS (fun q _ h => h) (fun q h => h) hL hF
    obtain ⟨t2, a1, b1⟩ := (XW.at hgs (k _ G' Ω' hPo hgs (C0.gs hgs)) (by rw [e1]; exact hP2) k3 hl) T' rfl X'
    exact ⟨t2, stp t2 a1, b1⟩
  · exact hb9.elim
/-- the script, where the body of the law runs -/
def XSc (G : XG) (b L : Nat) (xs : Nat → Int32) : XB → Prop
  | (p, e, R, s, m, args, below, meth, c, Q) => va_X b L xs s s.heap ∧ b < s.heap.size ∧ ¬ xA G b
theorem XSc.gs {G G' : XG} {b L : Nat} {xs : Nat → Int32} {B : XB} (S : XSc G b L xs B) (h : gs G G') : XSc G' b L xs B := by
  obtain ⟨p, e, R, s, m, args, below, meth, c, Q⟩ := B
  exact ⟨S.1, S.2.1, by rw [h.xa]; exact S.2.2⟩
def SPc (G : XG) (b L : Nat) (xs : Nat → Int32) (as : List Value) (Ω : XO) : Array Value → State → Prop := fun a U => HPc G as Ω a U ∧ va_X b L xs U U.heap ∧ b < U.heap.size ∧ ¬ xA G b
theorem SPc_blind {G : XG} {b L : Nat} {xs : Nat → Int32} {as : List Value} {Ω : XO} : FrameBlind (SPc G b L xs as Ω) := by
  intro a U g mk h
  exact ⟨HPc_blind _ _ _ _ h.1, va_X.moved (u := U) (U := U.calling g mk a) (Vm.Alike.refl U.vm) h.2.1, h.2.2⟩
/-- as PM, of a method that is given the script -/
def PMS (G : XG) (b L : Nat) (xs : Nat → Int32) (y : MethodName) (bb : ByteArray) (maxL : Nat) (ret : Option FieldType) (rm : Room) (as : List Value) (Ω : XO) (Po : Value → XG → XO → Prop) : Prop := vx_Met (gl G) y (Cond.code y bb maxL ret :: lw_g) rm (SPc G b L xs as Ω) (PQc G Po) PXc rm.cells rm.slots (xA G)
theorem p_startS {G : XG} (hok : XK G) {b L : Nat} {xs : Nat → Int32} {y : MethodName} {cc : ByteArray} {maxL : Nat} {ret : Option FieldType} {rm : Room} {as : List Value} {Ω : XO} {Po : Value → XG → XO → Prop} {lv : List (Nat × Value)} {own : String} (hy : plainName y.cls = true) (ho : y.cls = own) (hlen : (lg_sl as).length ≤ maxL) (hlv : lv_args 0 as = lv)
    (body : ∀ B : XB, XZ G B cc own rm maxL → XNB B → XE G Po B ret rm → XSc G b L xs B → XW G B maxL 0 lv [] Ω 0 0) : PMS G b L xs y cc maxL ret rm as Ω Po := by
  subst ho
  refine vx_ofW (cc := cc) (maxL := maxL) (ret := ret) hy rfl ?_
  intro p e s m args below meth c s₁ B hml ht hv
  obtain ⟨⟨rfl, hU, hP⟩, hS⟩ := hv
  have hts : ∀ w ∈ lw_g, w.before as.toArray s = true := fun w hw => atoms_spec (ws := Cond.code y cc maxL ret :: lw_g) B.pre w (List.mem_cons_of_mem _ hw)
  have k := body (p, e, rm, s, m, as.toArray, below, meth, c, vx_MQ below (PQc G Po) PXc as.toArray s rm.cells rm.slots (xA G)) ⟨B.exec, B.bytes, hml, findClass_of_methodNamed B.named, hts, hU.1, hok, B.notSynchronized, rfl, trivial, trivial, trivial⟩ hU.2 ⟨B.returns, rfl, rfl⟩ hS
  have hl := lv_entry as (n := maxL) hlen
  rw [hlv] at hl
  rw [lg_entry_eq]
  exact k s.heap [] _ hP va_S.rf hl
theorem z_cPS {G : XG} {B : XB} {cc : ByteArray} {own : String} {rm : Room} {nL : Nat} (C : XZ G B cc own rm nL) (hN : XNB B) {b L : Nat} {xs : Nat → Int32} (S : XSc G b L xs B) {pc : Nat} {lv : List (Nat × Value)} {st : List Value} {Ω : XO} {cu su : Nat} {y : MethodName} {b2 : ByteArray} {mL2 n idx : Nat} {ret2 : Option FieldType} {rm2 : Room} {As rest : List Value} {Po : Value → XG → XO → Prop} (hm : XMS y b2 mL2 ret2 n) (hl0 : Cond.methodLink own idx y ∈ lw_g) (hM : PMS G b L xs y b2 mL2 ret2 rm2 As Ω Po) (hn : As.length = n) (hst : st = As.reverse ++ rest) (hw : (rest.map fun v => v.category).sum ≤ 8) (hR1 : rm2.frames + 1 ≤ rm.frames ∧ 8 + (mL2 + 11) + rm2.locals ≤ rm.locals) (hR2 : cu + rm2.cells ≤ rm.cells ∧ su + rm2.slots ≤ rm.slots) (hd : decode cc pc = .ok (.invokestatic idx, 3)) {pc2 cu2 su2 : Nat} (hp : pc + 3 = pc2) (hcu : cu + rm2.cells = cu2) (hsu : su + rm2.slots = su2) (k : ∀ (v : Value) (G' : XG) (Ω' : XO), Po v G' Ω' → gs G G' → XZ G' B cc own rm nL → XW G' B nL pc2 lv (v :: rest) Ω' cu2 su2) : XW G B nL pc lv st Ω cu su := by
  obtain ⟨p, e, R, s, m, args, below, meth, c, Q⟩ := B
  have C0 := C
  obtain ⟨hx, hb, hml, ho, hts, hU, hok, hlk, hR, hret, htab, hQ⟩ := C
  have hN : XNc s := hN
  obtain ⟨S1, S2, S3⟩ := S
  subst hst
  subst hR
  subst hp
  subst hcu
  subst hsu
  intro H locs ls hP hS hl X hTT X0
  have hr := vx_runS (e := e) (meth := meth) (below := below) (locs := locs) (nL := nL) ⟨hx, hb, hml, ho, hts⟩ hM (va_cwS n hts (goodS hm hl0) rfl rfl rfl hm.2.2.2 hR1) ⟨SPc_blind, fun U hU2 hW => ⟨⟨rfl, ⟨hU.on hS hU2 hW, XNc.moved hW.alike hN⟩, by rw [hU2]; exact hP⟩, va_X.moved hW.alike (va_X.kept S1 (by rw [hU2]; exact hS.2.1 b S2 S3)), by rw [hU2]; exact Nat.lt_of_lt_of_le S2 hS.1, S3⟩⟩ (g := F0 m pc ls (As.reverse ++ rest)) rfl hn hl.1 rfl (lv_room hw) hd hR2
  rcases hr X hTT X0 with ⟨v, st₀, t, T', L', h0, X', hL, e1, e2, ⟨v', G', Ω', hPo, hgs, ho', hP2, hF⟩, stp⟩ | ⟨q, st₀, t, T', L', E, ce, h0, X', hL, e1, e2, hb9, -⟩
  · cases ho'
    obtain ⟨k1, k2, k3⟩ := vx_keep h0 e1 hS (fun q _ h => h) (fun q h => h) hL hF
    obtain ⟨t2, a1, b1⟩ := (XW.at hgs (k _ G' Ω' hPo hgs (C0.gs hgs)) (by rw [e1]; exact hP2) k3 hl) T' rfl X'
    exact ⟨t2, stp t2 a1, b1⟩
  · exact hb9.elim
theorem z_wid {G : XG} {B : XB} {nL pc : Nat} {lv : List (Nat × Value)} {st : List Value} {Ω : XO} {cu su cu2 su2 : Nat} (h1 : cu ≤ cu2) (h2 : su ≤ su2) (k : XW G B nL pc lv st Ω cu2 su2) : XW G B nL pc lv st Ω cu su := by
  obtain ⟨p, e, R, s, m, args, below, meth, c, Q⟩ := B
  intro H locs ls hP hS hl
  exact W.widen h1 h2 (k H locs ls hP hS hl)
theorem z_ref {G : XG} {B : XB} {nL pc : Nat} {lv : List (Nat × Value)} {st : List Value} {Ω Ω' : XO} {cu su : Nat} (h : pl G Ω' = pl G Ω) (k : XW G B nL pc lv st Ω' cu su) : XW G B nL pc lv st Ω cu su := by
  obtain ⟨p, e, R, s, m, args, below, meth, c, Q⟩ := B
  intro H locs ls hP hS hl
  exact k H locs ls (by rw [h]; exact hP) hS hl
