/-- as XC, of a running method of any end: what the rows need -/
def XZ (G : XG) : XB → ByteArray → String → Room → Nat → Prop
  | (p, e, R, s, m, args, below, meth, c, Q), cc, own, rm, nL => p.tables.exec = Jvm.exec ∧ c.code = cc ∧ c.maxLocals = nL ∧ s.vm.findClass own = some m.cls ∧ (∀ w ∈ lw_g, w.before args s = true) ∧ XU G s ∧ XK G ∧ meth.locks = false ∧ R = rm ∧ True ∧ True ∧ True
def xIO : String := "java/lang/IndexOutOfBoundsException"
def xIA : String := "java/lang/IllegalArgumentException"
def xIS : String := "java/lang/IllegalStateException"
/-- which of the three isn't which -/
def XNc (U : State) : Prop := va_Nc xIA xIO U ∧ va_Nc xIS xIO U ∧ va_Nc xIS xIA U
theorem XNc.moved {u U : State} (hvm : u.vm.Alike U.vm) (h : XNc u) : XNc U := ⟨va_Nc.moved hvm h.1, va_Nc.moved hvm h.2.1, va_Nc.moved hvm h.2.2⟩
def HPc (G : XG) (as : List Value) (Ω : XO) : Array Value → State → Prop := va_Pc as (fun U => (XU G U ∧ XNc U) ∧ va_P (gD G) vwCl (pl G Ω) U.heap)
theorem HPc_blind {G : XG} {as : List Value} {Ω : XO} : FrameBlind (HPc G as Ω) := by
  intro a U g mk h
  obtain ⟨h1, ⟨⟨h2, h3, h4, h5⟩, hn⟩, h6⟩ := h
  exact ⟨h1, ⟨⟨h2, va_K.moved (u := U) (U := U.calling g mk a) (Vm.Alike.refl U.vm) h3, XN.same (u := U) (U := U.calling g mk a) rfl h4, XT.moved (u := U) (U := U.calling g mk a) (Vm.Alike.refl U.vm) h5⟩, XNc.moved (u := U) (U := U.calling g mk a) (Vm.Alike.refl U.vm) hn⟩, h6⟩
/-- a helper's contract: its body has handlers -/
def XMH (G : XG) (y : MethodName) (b : ByteArray) (maxL : Nat) (hh : List (Nat × Nat × Nat × Nat)) (rm : Room) (as : List Value) (Ω : XO) (v : Int32) (Ω' : XO) : Prop := vx_Met (gl G) y (Cond.codeWith y b maxL (some .int) hh :: lw_g) rm (HPc G as Ω) (XQc G (.inl (some (.int v))) Ω') (XXc G (.inl (some (.int v))) Ω') rm.cells rm.slots (xA G)
def XH (G : XG) (hh : List (Nat × Nat × Nat × Nat)) : XB → ByteArray → String → Room → Nat → Int32 → XO → Prop
  | (p, e, R, s, m, args, below, meth, c, Q), cc, own, rm, nL, v, Ω' => p.tables.exec = Jvm.exec ∧ c.code = cc ∧ c.maxLocals = nL ∧ s.vm.findClass own = some m.cls ∧ (∀ w ∈ lw_g, w.before args s = true) ∧ (XU G s ∧ XNc s) ∧ XK G ∧ meth.locks = false ∧ R = rm ∧ meth.sig.returnType = some .int ∧ c.exceptionTable.toList = tableOf hh ∧ Q = vx_MQ below (XQc G (.inl (some (.int v))) Ω') (XXc G (.inl (some (.int v))) Ω') args s rm.cells rm.slots (xA G)
theorem XH.z {G : XG} {hh : List (Nat × Nat × Nat × Nat)} {B : XB} {cc : ByteArray} {own : String} {rm : Room} {nL : Nat} {v : Int32} {Ω' : XO} (C : XH G hh B cc own rm nL v Ω') : XZ G B cc own rm nL := by
  obtain ⟨p, e, R, s, m, args, below, meth, c, Q⟩ := B
  obtain ⟨hx, hb, hml, ho, hts, hU, hok, hlk, hR, hret, htab, hQ⟩ := C
  exact ⟨hx, hb, hml, ho, hts, hU.1, hok, hlk, hR, trivial, trivial, trivial⟩
theorem h_start {G : XG} (hok : XK G) {y : MethodName} {cc : ByteArray} {maxL : Nat} {hh : List (Nat × Nat × Nat × Nat)} {rm : Room} {as : List Value} {Ω Ω' : XO} {v : Int32} {lv : List (Nat × Value)} {own : String} (hy : plainName y.cls = true) (ho : y.cls = own) (hcw : Cond.codeWith y cc maxL (some .int) hh ∈ lw_g) (hlen : (lg_sl as).length ≤ maxL) (hlv : lv_args 0 as = lv)
    (body : ∀ B : XB, XH G hh B cc own rm maxL v Ω' → XW G B maxL 0 lv [] Ω 0 0) : XMH G y cc maxL hh rm as Ω v Ω' := by
  subst ho
  refine vx_ofWH (cc := cc) (maxL := maxL) (ret := some .int) (hh := hh) hy rfl ?_
  intro p e s m args below meth c s₁ B hml hv
  obtain ⟨rfl, hU, hP⟩ := hv
  have hts : ∀ w ∈ lw_g, w.before as.toArray s = true := fun w hw => atoms_spec (ws := Cond.codeWith y cc maxL (some .int) hh :: lw_g) B.pre w (List.mem_cons_of_mem _ hw)
  have k := body (p, e, rm, s, m, as.toArray, below, meth, c, vx_MQ below (XQc G (.inl (some (.int v))) Ω') (XXc G (.inl (some (.int v))) Ω') as.toArray s rm.cells rm.slots (xA G)) ⟨B.exec, B.bytes, hml, findClass_of_methodNamed B.named, hts, hU, hok, B.notSynchronized, rfl, B.returns, vx_table (x := y) B (hts _ hcw), rfl⟩
  have hl := lv_entry as (n := maxL) hlen
  rw [hlv] at hl
  rw [lg_entry_eq]
  exact k s.heap [] _ hP va_S.rf hl
theorem z_iconst {G : XG} {B : XB} {cc : ByteArray} {own : String} {rm : Room} {nL : Nat} (C : XZ G B cc own rm nL) {pc : Nat} {lv : List (Nat × Value)} {st : List Value} {Ω : XO} {cu su : Nat} {n : Int} {v : Int32} (hd : decode cc pc = .ok (.iconst n, 1)) (hv : Int32.ofInt n = v) {pc2 : Nat} (hp : pc + 1 = pc2) (k : XW G B nL pc2 lv (.int v :: st) Ω cu su) : XW G B nL pc lv st Ω cu su := by
  obtain ⟨p, e, R, s, m, args, below, meth, c, Q⟩ := B
  obtain ⟨hx, hb, hml, ho, hts, hU, hok, hlk, hR, hret, htab, hQ⟩ := C
  subst hp
  intro H locs ls hP hS hl
  exact lv_iconst hx hb hd hv (k H locs ls hP hS hl)
theorem z_bipush {G : XG} {B : XB} {cc : ByteArray} {own : String} {rm : Room} {nL : Nat} (C : XZ G B cc own rm nL) {pc : Nat} {lv : List (Nat × Value)} {st : List Value} {Ω : XO} {cu su : Nat} {n : Int} {v : Int32} (hd : decode cc pc = .ok (.bipush n, 2)) (hv : (Int8.ofInt n).toInt32 = v) {pc2 : Nat} (hp : pc + 2 = pc2) (k : XW G B nL pc2 lv (.int v :: st) Ω cu su) : XW G B nL pc lv st Ω cu su := by
  obtain ⟨p, e, R, s, m, args, below, meth, c, Q⟩ := B
  obtain ⟨hx, hb, hml, ho, hts, hU, hok, hlk, hR, hret, htab, hQ⟩ := C
  subst hp
  intro H locs ls hP hS hl
  exact lv_bipush hx hb hd hv (k H locs ls hP hS hl)
theorem z_lconst {G : XG} {B : XB} {cc : ByteArray} {own : String} {rm : Room} {nL : Nat} (C : XZ G B cc own rm nL) {pc : Nat} {lv : List (Nat × Value)} {st : List Value} {Ω : XO} {cu su : Nat} {n : Fin 2} {v : Int64} (hd : decode cc pc = .ok (.lconst n, 1)) (hv : Int64.ofNat (n : Nat) = v) {pc2 : Nat} (hp : pc + 1 = pc2) (k : XW G B nL pc2 lv (.long v :: st) Ω cu su) : XW G B nL pc lv st Ω cu su := by
  obtain ⟨p, e, R, s, m, args, below, meth, c, Q⟩ := B
  obtain ⟨hx, hb, hml, ho, hts, hU, hok, hlk, hR, hret, htab, hQ⟩ := C
  subst hp
  intro H locs ls hP hS hl
  exact lv_lconst hx hb hd hv (k H locs ls hP hS hl)
theorem z_iadd {G : XG} {B : XB} {cc : ByteArray} {own : String} {rm : Room} {nL : Nat} (C : XZ G B cc own rm nL) {pc : Nat} {lv : List (Nat × Value)} {st : List Value} {Ω : XO} {cu su : Nat} {x y : Int32} (hd : decode cc pc = .ok (.iadd, 1))  {pc2 : Nat} (hp : pc + 1 = pc2) (k : XW G B nL pc2 lv (.int (x + y) :: st) Ω cu su) : XW G B nL pc lv (.int y :: .int x :: st) Ω cu su := by
  obtain ⟨p, e, R, s, m, args, below, meth, c, Q⟩ := B
  obtain ⟨hx, hb, hml, ho, hts, hU, hok, hlk, hR, hret, htab, hQ⟩ := C
  subst hp
  intro H locs ls hP hS hl
  exact lv_iadd hx hb hd  (k H locs ls hP hS hl)
theorem z_isub {G : XG} {B : XB} {cc : ByteArray} {own : String} {rm : Room} {nL : Nat} (C : XZ G B cc own rm nL) {pc : Nat} {lv : List (Nat × Value)} {st : List Value} {Ω : XO} {cu su : Nat} {x y : Int32} (hd : decode cc pc = .ok (.isub, 1))  {pc2 : Nat} (hp : pc + 1 = pc2) (k : XW G B nL pc2 lv (.int (x - y) :: st) Ω cu su) : XW G B nL pc lv (.int y :: .int x :: st) Ω cu su := by
  obtain ⟨p, e, R, s, m, args, below, meth, c, Q⟩ := B
  obtain ⟨hx, hb, hml, ho, hts, hU, hok, hlk, hR, hret, htab, hQ⟩ := C
  subst hp
  intro H locs ls hP hS hl
  exact lv_isub hx hb hd  (k H locs ls hP hS hl)
theorem z_iand {G : XG} {B : XB} {cc : ByteArray} {own : String} {rm : Room} {nL : Nat} (C : XZ G B cc own rm nL) {pc : Nat} {lv : List (Nat × Value)} {st : List Value} {Ω : XO} {cu su : Nat} {x y : Int32} (hd : decode cc pc = .ok (.iand, 1))  {pc2 : Nat} (hp : pc + 1 = pc2) (k : XW G B nL pc2 lv (.int (x &&& y) :: st) Ω cu su) : XW G B nL pc lv (.int y :: .int x :: st) Ω cu su := by
  obtain ⟨p, e, R, s, m, args, below, meth, c, Q⟩ := B
  obtain ⟨hx, hb, hml, ho, hts, hU, hok, hlk, hR, hret, htab, hQ⟩ := C
  subst hp
  intro H locs ls hP hS hl
  exact lv_iand hx hb hd  (k H locs ls hP hS hl)
theorem z_i2l {G : XG} {B : XB} {cc : ByteArray} {own : String} {rm : Room} {nL : Nat} (C : XZ G B cc own rm nL) {pc : Nat} {lv : List (Nat × Value)} {st : List Value} {Ω : XO} {cu su : Nat} {x : Int32} (hd : decode cc pc = .ok (.i2l, 1))  {pc2 : Nat} (hp : pc + 1 = pc2) (k : XW G B nL pc2 lv (.long x.toInt64 :: st) Ω cu su) : XW G B nL pc lv (.int x :: st) Ω cu su := by
  obtain ⟨p, e, R, s, m, args, below, meth, c, Q⟩ := B
  obtain ⟨hx, hb, hml, ho, hts, hU, hok, hlk, hR, hret, htab, hQ⟩ := C
  subst hp
  intro H locs ls hP hS hl
  exact lv_i2l hx hb hd rfl (k H locs ls hP hS hl)
theorem z_lcmp {G : XG} {B : XB} {cc : ByteArray} {own : String} {rm : Room} {nL : Nat} (C : XZ G B cc own rm nL) {pc : Nat} {lv : List (Nat × Value)} {st : List Value} {Ω : XO} {cu su : Nat} {x y : Int64} (hd : decode cc pc = .ok (.lcmp, 1))  {pc2 : Nat} (hp : pc + 1 = pc2) (k : XW G B nL pc2 lv (.int (lg_cmp x y) :: st) Ω cu su) : XW G B nL pc lv (.long y :: .long x :: st) Ω cu su := by
  obtain ⟨p, e, R, s, m, args, below, meth, c, Q⟩ := B
  obtain ⟨hx, hb, hml, ho, hts, hU, hok, hlk, hR, hret, htab, hQ⟩ := C
  subst hp
  intro H locs ls hP hS hl
  exact W.lcmp hx hb hd  (k H locs ls hP hS hl)
theorem z_iload_n {G : XG} {B : XB} {cc : ByteArray} {own : String} {rm : Room} {nL : Nat} (C : XZ G B cc own rm nL) {pc : Nat} {lv : List (Nat × Value)} {st : List Value} {Ω : XO} {cu su : Nat} {n : Fin 4} {i : Nat} {x : Int32} (hd : decode cc pc = .ok (.iload_n n, 1)) (q : Nat) (hq : lv[q]? = some (i, .int x)) (hi : (n : Nat) = i) {pc2 : Nat} (hp : pc + 1 = pc2) (k : XW G B nL pc2 lv (.int x :: st) Ω cu su) : XW G B nL pc lv st Ω cu su := by
  obtain ⟨p, e, R, s, m, args, below, meth, c, Q⟩ := B
  obtain ⟨hx, hb, hml, ho, hts, hU, hok, hlk, hR, hret, htab, hQ⟩ := C
  subst hp
  intro H locs ls hP hS hl
  exact lv_iload_n hx hb hd hi (lv_at hl q hq) (k H locs ls hP hS hl)
theorem z_iload {G : XG} {B : XB} {cc : ByteArray} {own : String} {rm : Room} {nL : Nat} (C : XZ G B cc own rm nL) {pc : Nat} {lv : List (Nat × Value)} {st : List Value} {Ω : XO} {cu su : Nat} {i : Nat} {x : Int32} (hd : decode cc pc = .ok (.iload i, 2)) (q : Nat) (hq : lv[q]? = some (i, .int x)) {pc2 : Nat} (hp : pc + 2 = pc2) (k : XW G B nL pc2 lv (.int x :: st) Ω cu su) : XW G B nL pc lv st Ω cu su := by
  obtain ⟨p, e, R, s, m, args, below, meth, c, Q⟩ := B
  obtain ⟨hx, hb, hml, ho, hts, hU, hok, hlk, hR, hret, htab, hQ⟩ := C
  subst hp
  intro H locs ls hP hS hl
  exact lv_iload hx hb hd (lv_at hl q hq) (k H locs ls hP hS hl)
theorem z_aload_n {G : XG} {B : XB} {cc : ByteArray} {own : String} {rm : Room} {nL : Nat} (C : XZ G B cc own rm nL) {pc : Nat} {lv : List (Nat × Value)} {st : List Value} {Ω : XO} {cu su : Nat} {n : Fin 4} {i : Nat} {x : Nat} (hd : decode cc pc = .ok (.aload_n n, 1)) (q : Nat) (hq : lv[q]? = some (i, .ref x)) (hi : (n : Nat) = i) {pc2 : Nat} (hp : pc + 1 = pc2) (k : XW G B nL pc2 lv (.ref x :: st) Ω cu su) : XW G B nL pc lv st Ω cu su := by
  obtain ⟨p, e, R, s, m, args, below, meth, c, Q⟩ := B
  obtain ⟨hx, hb, hml, ho, hts, hU, hok, hlk, hR, hret, htab, hQ⟩ := C
  subst hp
  intro H locs ls hP hS hl
  exact lv_aload_n hx hb hd hi (lv_at hl q hq) (k H locs ls hP hS hl)
theorem z_aload {G : XG} {B : XB} {cc : ByteArray} {own : String} {rm : Room} {nL : Nat} (C : XZ G B cc own rm nL) {pc : Nat} {lv : List (Nat × Value)} {st : List Value} {Ω : XO} {cu su : Nat} {i : Nat} {x : Nat} (hd : decode cc pc = .ok (.aload i, 2)) (q : Nat) (hq : lv[q]? = some (i, .ref x)) {pc2 : Nat} (hp : pc + 2 = pc2) (k : XW G B nL pc2 lv (.ref x :: st) Ω cu su) : XW G B nL pc lv st Ω cu su := by
  obtain ⟨p, e, R, s, m, args, below, meth, c, Q⟩ := B
  obtain ⟨hx, hb, hml, ho, hts, hU, hok, hlk, hR, hret, htab, hQ⟩ := C
  subst hp
  intro H locs ls hP hS hl
  exact lv_aload hx hb hd (lv_at hl q hq) (k H locs ls hP hS hl)
theorem z_istore {G : XG} {B : XB} {cc : ByteArray} {own : String} {rm : Room} {nL : Nat} (C : XZ G B cc own rm nL) {pc : Nat} {lv : List (Nat × Value)} {st : List Value} {Ω : XO} {cu su : Nat} {i : Nat} {x : Int32} {lv2 : List (Nat × Value)} (hd : decode cc pc = .ok (.istore i, 2)) (hn : i < nL) (h2 : (i, Value.int x) :: lv.filter (fun q => !(q.1 == i) && !(q.1 + 1 == i && q.2.category == 2)) = lv2) {pc2 : Nat} (hp : pc + 2 = pc2) (k : XW G B nL pc2 lv2 st Ω cu su) : XW G B nL pc lv (.int x :: st) Ω cu su := by
  obtain ⟨p, e, R, s, m, args, below, meth, c, Q⟩ := B
  obtain ⟨hx, hb, hml, ho, hts, hU, hok, hlk, hR, hret, htab, hQ⟩ := C
  subst hp
  intro H locs ls hP hS hl
  exact lv_istore hx hb hd hl hn h2 (fun ls2 hl2 => k H locs ls2 hP hS hl2)
theorem z_astore {G : XG} {B : XB} {cc : ByteArray} {own : String} {rm : Room} {nL : Nat} (C : XZ G B cc own rm nL) {pc : Nat} {lv : List (Nat × Value)} {st : List Value} {Ω : XO} {cu su : Nat} {i : Nat} {x : Nat} {lv2 : List (Nat × Value)} (hd : decode cc pc = .ok (.astore i, 2)) (hn : i < nL) (h2 : (i, Value.ref x) :: lv.filter (fun q => !(q.1 == i) && !(q.1 + 1 == i && q.2.category == 2)) = lv2) {pc2 : Nat} (hp : pc + 2 = pc2) (k : XW G B nL pc2 lv2 st Ω cu su) : XW G B nL pc lv (.ref x :: st) Ω cu su := by
  obtain ⟨p, e, R, s, m, args, below, meth, c, Q⟩ := B
  obtain ⟨hx, hb, hml, ho, hts, hU, hok, hlk, hR, hret, htab, hQ⟩ := C
  subst hp
  intro H locs ls hP hS hl
  exact lv_astore hx hb hd hl hn h2 (fun ls2 hl2 => k H locs ls2 hP hS hl2)
theorem z_astore_n {G : XG} {B : XB} {cc : ByteArray} {own : String} {rm : Room} {nL : Nat} (C : XZ G B cc own rm nL) {pc : Nat} {lv : List (Nat × Value)} {st : List Value} {Ω : XO} {cu su : Nat} {n : Fin 4} {i : Nat} {x : Nat} {lv2 : List (Nat × Value)} (hd : decode cc pc = .ok (.astore_n n, 1)) (hi : (n : Nat) = i) (hn : i < nL) (h2 : (i, Value.ref x) :: lv.filter (fun q => !(q.1 == i) && !(q.1 + 1 == i && q.2.category == 2)) = lv2) {pc2 : Nat} (hp : pc + 1 = pc2) (k : XW G B nL pc2 lv2 st Ω cu su) : XW G B nL pc lv (.ref x :: st) Ω cu su := by
  obtain ⟨p, e, R, s, m, args, below, meth, c, Q⟩ := B
  obtain ⟨hx, hb, hml, ho, hts, hU, hok, hlk, hR, hret, htab, hQ⟩ := C
  subst hp
  intro H locs ls hP hS hl
  exact lv_astore_n hx hb hd hi hl hn h2 (fun ls2 hl2 => k H locs ls2 hP hS hl2)
theorem z_istore_n {G : XG} {B : XB} {cc : ByteArray} {own : String} {rm : Room} {nL : Nat} (C : XZ G B cc own rm nL) {pc : Nat} {lv : List (Nat × Value)} {st : List Value} {Ω : XO} {cu su : Nat} {n : Fin 4} {i : Nat} {x : Int32} {lv2 : List (Nat × Value)} (hd : decode cc pc = .ok (.istore_n n, 1)) (hi : (n : Nat) = i) (hn : i < nL) (h2 : (i, Value.int x) :: lv.filter (fun q => !(q.1 == i) && !(q.1 + 1 == i && q.2.category == 2)) = lv2) {pc2 : Nat} (hp : pc + 1 = pc2) (k : XW G B nL pc2 lv2 st Ω cu su) : XW G B nL pc lv (.int x :: st) Ω cu su := by
  obtain ⟨p, e, R, s, m, args, below, meth, c, Q⟩ := B
  obtain ⟨hx, hb, hml, ho, hts, hU, hok, hlk, hR, hret, htab, hQ⟩ := C
  subst hp
  intro H locs ls hP hS hl
  exact lv_istore_n hx hb hd hi hl hn h2 (fun ls2 hl2 => k H locs ls2 hP hS hl2)
theorem z_iinc {G : XG} {B : XB} {cc : ByteArray} {own : String} {rm : Room} {nL : Nat} (C : XZ G B cc own rm nL) {pc : Nat} {lv : List (Nat × Value)} {st : List Value} {Ω : XO} {cu su : Nat} {i : Nat} {n : Int} {x v : Int32} {lv2 : List (Nat × Value)} (hd : decode cc pc = .ok (.iinc i n, 3)) (q : Nat) (hq : lv[q]? = some (i, .int x)) (hv : x + Int32.ofInt n = v) (hn : i < nL) (h2 : (i, Value.int v) :: lv.filter (fun q => !(q.1 == i) && !(q.1 + 1 == i && q.2.category == 2)) = lv2) {pc2 : Nat} (hp : pc + 3 = pc2) (k : XW G B nL pc2 lv2 st Ω cu su) : XW G B nL pc lv st Ω cu su := by
  obtain ⟨p, e, R, s, m, args, below, meth, c, Q⟩ := B
  obtain ⟨hx, hb, hml, ho, hts, hU, hok, hlk, hR, hret, htab, hQ⟩ := C
  subst hp
  intro H locs ls hP hS hl
  exact lv_iinc hx hb hd hl hq hv hn h2 (fun ls2 hl2 => k H locs ls2 hP hS hl2)
theorem z_sub {G : XG} {B : XB} {cc : ByteArray} {own : String} {rm : Room} {nL : Nat} (C : XZ G B cc own rm nL) {pc : Nat} {lv : List (Nat × Value)} {st : List Value} {Ω : XO} {cu su : Nat} {lv2 : List (Nat × Value)} (ks : List Nat) (h2 : lv_pick lv ks = lv2) (k : XW G B nL pc lv2 st Ω cu su) : XW G B nL pc lv st Ω cu su := by
  obtain ⟨p, e, R, s, m, args, below, meth, c, Q⟩ := B
  obtain ⟨hx, hb, hml, ho, hts, hU, hok, hlk, hR, hret, htab, hQ⟩ := C
  intro H locs ls hP hS hl
  exact k H locs ls hP hS (lv_sub hl ks h2)
theorem z_if_eq {G : XG} {B : XB} {cc : ByteArray} {own : String} {rm : Room} {nL : Nat} (C : XZ G B cc own rm nL) {pc : Nat} {lv : List (Nat × Value)} {st : List Value} {Ω : XO} {cu su : Nat} {x : Int32} {off : Int} {tgt : Nat} (hd : decode cc pc = .ok (.ifCond .eq off, 3)) (ht : (pc : Int) + off = (tgt : Int)) {pc2 : Nat} (hp : pc + 3 = pc2) (kt : x = 0 → XW G B nL tgt lv st Ω cu su) (kf : ¬ x = 0 → XW G B nL pc2 lv st Ω cu su) : XW G B nL pc lv (.int x :: st) Ω cu su := by
  obtain ⟨p, e, R, s, m, args, below, meth, c, Q⟩ := B
  obtain ⟨hx, hb, hml, ho, hts, hU, hok, hlk, hR, hret, htab, hQ⟩ := C
  subst hp
  intro H locs ls hP hS hl
  exact lv_if_eq hx hb hd ht (fun h => kt h H locs ls hP hS hl) (fun h => kf h H locs ls hP hS hl)
theorem z_if_ne {G : XG} {B : XB} {cc : ByteArray} {own : String} {rm : Room} {nL : Nat} (C : XZ G B cc own rm nL) {pc : Nat} {lv : List (Nat × Value)} {st : List Value} {Ω : XO} {cu su : Nat} {x : Int32} {off : Int} {tgt : Nat} (hd : decode cc pc = .ok (.ifCond .ne off, 3)) (ht : (pc : Int) + off = (tgt : Int)) {pc2 : Nat} (hp : pc + 3 = pc2) (kt : ¬ x = 0 → XW G B nL tgt lv st Ω cu su) (kf : x = 0 → XW G B nL pc2 lv st Ω cu su) : XW G B nL pc lv (.int x :: st) Ω cu su := by
  obtain ⟨p, e, R, s, m, args, below, meth, c, Q⟩ := B
  obtain ⟨hx, hb, hml, ho, hts, hU, hok, hlk, hR, hret, htab, hQ⟩ := C
  subst hp
  intro H locs ls hP hS hl
  exact lv_if_ne hx hb hd ht (fun h => kt h H locs ls hP hS hl) (fun h => kf h H locs ls hP hS hl)
theorem z_icmp_eq {G : XG} {B : XB} {cc : ByteArray} {own : String} {rm : Room} {nL : Nat} (C : XZ G B cc own rm nL) {pc : Nat} {lv : List (Nat × Value)} {st : List Value} {Ω : XO} {cu su : Nat} {x y : Int32} {off : Int} {tgt : Nat} (hd : decode cc pc = .ok (.if_icmp .eq off, 3)) (ht : (pc : Int) + off = (tgt : Int)) {pc2 : Nat} (hp : pc + 3 = pc2) (kt : x = y → XW G B nL tgt lv st Ω cu su) (kf : ¬ x = y → XW G B nL pc2 lv st Ω cu su) : XW G B nL pc lv (.int y :: .int x :: st) Ω cu su := by
  obtain ⟨p, e, R, s, m, args, below, meth, c, Q⟩ := B
  obtain ⟨hx, hb, hml, ho, hts, hU, hok, hlk, hR, hret, htab, hQ⟩ := C
  subst hp
  intro H locs ls hP hS hl
  exact lv_icmp_eq hx hb hd ht (fun h => kt h H locs ls hP hS hl) (fun h => kf h H locs ls hP hS hl)
theorem z_icmp_gt {G : XG} {B : XB} {cc : ByteArray} {own : String} {rm : Room} {nL : Nat} (C : XZ G B cc own rm nL) {pc : Nat} {lv : List (Nat × Value)} {st : List Value} {Ω : XO} {cu su : Nat} {x y : Int32} {off : Int} {tgt : Nat} (hd : decode cc pc = .ok (.if_icmp .gt off, 3)) (ht : (pc : Int) + off = (tgt : Int)) {pc2 : Nat} (hp : pc + 3 = pc2) (kt : y < x → XW G B nL tgt lv st Ω cu su) (kf : ¬ y < x → XW G B nL pc2 lv st Ω cu su) : XW G B nL pc lv (.int y :: .int x :: st) Ω cu su := by
  obtain ⟨p, e, R, s, m, args, below, meth, c, Q⟩ := B
  obtain ⟨hx, hb, hml, ho, hts, hU, hok, hlk, hR, hret, htab, hQ⟩ := C
  subst hp
  intro H locs ls hP hS hl
  exact lv_icmp_gt hx hb hd ht (fun h => kt h H locs ls hP hS hl) (fun h => kf h H locs ls hP hS hl)
theorem z_goto {G : XG} {B : XB} {cc : ByteArray} {own : String} {rm : Room} {nL : Nat} (C : XZ G B cc own rm nL) {pc : Nat} {lv : List (Nat × Value)} {st : List Value} {Ω : XO} {cu su : Nat} {off : Int} {tgt : Nat} (hd : decode cc pc = .ok (.goto off, 3)) (ht : (pc : Int) + off = (tgt : Int)) (k : XW G B nL tgt lv st Ω cu su) : XW G B nL pc lv st Ω cu su := by
  obtain ⟨p, e, R, s, m, args, below, meth, c, Q⟩ := B
  obtain ⟨hx, hb, hml, ho, hts, hU, hok, hlk, hR, hret, htab, hQ⟩ := C
  intro H locs ls hP hS hl
  exact lv_goto hx hb hd ht (k H locs ls hP hS hl)
theorem z_tableIn {G : XG} {B : XB} {cc : ByteArray} {own : String} {rm : Room} {nL : Nat} (C : XZ G B cc own rm nL) {pc : Nat} {lv : List (Nat × Value)} {st : List Value} {Ω : XO} {cu su : Nat} {dflt lo hi : Int} {offs : Array Int} {len : Nat} {x : Int32} {off : Int} {tgt : Nat} (hd : decode cc pc = .ok (.tableswitch dflt lo hi offs, len)) (h1 : ¬ x.toInt < lo) (h2 : ¬ hi < x.toInt) (h3 : offs[(x.toInt - lo).toNat]? = some off) (ht : (pc : Int) + off = (tgt : Int)) (k : XW G B nL tgt lv st Ω cu su) : XW G B nL pc lv (.int x :: st) Ω cu su := by
  obtain ⟨p, e, R, s, m, args, below, meth, c, Q⟩ := B
  obtain ⟨hx, hb, hml, ho, hts, hU, hok, hlk, hR, hret, htab, hQ⟩ := C
  intro H locs ls hP hS hl
  exact lv_tableIn hx hb hd h1 h2 h3 ht (k H locs ls hP hS hl)
theorem z_tableOut {G : XG} {B : XB} {cc : ByteArray} {own : String} {rm : Room} {nL : Nat} (C : XZ G B cc own rm nL) {pc : Nat} {lv : List (Nat × Value)} {st : List Value} {Ω : XO} {cu su : Nat} {dflt lo hi : Int} {offs : Array Int} {len : Nat} {x : Int32} {tgt : Nat} (hd : decode cc pc = .ok (.tableswitch dflt lo hi offs, len)) (h : x.toInt < lo ∨ hi < x.toInt) (ht : (pc : Int) + dflt = (tgt : Int)) (k : XW G B nL tgt lv st Ω cu su) : XW G B nL pc lv (.int x :: st) Ω cu su := by
  obtain ⟨p, e, R, s, m, args, below, meth, c, Q⟩ := B
  obtain ⟨hx, hb, hml, ho, hts, hU, hok, hlk, hR, hret, htab, hQ⟩ := C
  intro H locs ls hP hS hl
  exact lv_tableOut hx hb hd h ht (k H locs ls hP hS hl)
theorem z_dup {G : XG} {B : XB} {cc : ByteArray} {own : String} {rm : Room} {nL : Nat} (C : XZ G B cc own rm nL) {pc : Nat} {lv : List (Nat × Value)} {st : List Value} {Ω : XO} {cu su : Nat} {v : Value} (hd : decode cc pc = .ok (.dup, 1)) (hv : v.category = 1) {pc2 : Nat} (hp : pc + 1 = pc2) (k : XW G B nL pc2 lv (v :: v :: st) Ω cu su) : XW G B nL pc lv (v :: st) Ω cu su := by
  obtain ⟨p, e, R, s, m, args, below, meth, c, Q⟩ := B
  obtain ⟨hx, hb, hml, ho, hts, hU, hok, hlk, hR, hret, htab, hQ⟩ := C
  subst hp
  intro H locs ls hP hS hl
  exact lv_dup hx hb hd hv (k H locs ls hP hS hl)
theorem z_cV {G : XG} {B : XB} {cc : ByteArray} {own : String} {rm : Room} {nL : Nat} (C : XZ G B cc own rm nL) {pc : Nat} {lv : List (Nat × Value)} {st : List Value} {Ω : XO} {cu su : Nat} {y : MethodName} {b2 : ByteArray} {mL2 n idx : Nat} {ret2 : Option FieldType} {rm2 : Room} {As rest : List Value} {Ω2 : XO} {T2 : Option Value ⊕ String} {kd i : Nat} (hdm : dm G kd i) (hk : kd < 11) (hm : XMV y b2 mL2 ret2 n) (hy : cnm kd = y.cls) (hl0 : Cond.methodLink own idx y ∈ lw_g) (hM : XM G y b2 mL2 ret2 rm2 (.ref (ad G kd i) :: As) Ω T2 Ω2) (hn : As.length = n) (hst : st = As.reverse ++ .ref (ad G kd i) :: rest) (hw : (rest.map fun v => v.category).sum ≤ 8) (hR1 : rm2.frames + 1 ≤ rm.frames ∧ 8 + (mL2 + 11) + rm2.locals ≤ rm.locals) (hR2 : cu + rm2.cells ≤ rm.cells ∧ su + rm2.slots ≤ rm.slots) (hd : decode cc pc = .ok (.invokevirtual idx, 3)) : XR G B nL pc lv st rest Ω cu su rm2.cells rm2.slots T2 Ω2 := by
  obtain ⟨p, e, R, s, m, args, below, meth, c, Q⟩ := B
  obtain ⟨hx, hb, hml, ho, hts, hU, hok, hlk, hR, hret, htab, hQ⟩ := C
  subst hst
  subst hR
  intro H locs ls hP hS hl
  obtain ⟨q, hq⟩ := pl_get (Ω := Ω) hdm
  rw [EE_o hk] at hq
  have hrc := va_recv (s := s) hU.2.1 hP (cl_at hk) hq
  have hrc2 : ∃ cell : Cell, H[ad G kd i]? = some cell ∧ cell.vm.isStatics = false ∧ s.vm.findClass y.cls = some cell.cls := by rw [← hy]; exact hrc
  have hg : GoodIn lw_g (wsV own idx y.cls y (Cond.code y b2 mL2 ret2 :: lw_g)) := by
    intro z hz
    have hz2 : z ∈ lw_g := by
      simp only [wsV, List.mem_append, List.mem_cons, List.not_mem_nil, or_false] at hz
      rcases hz with (rfl | rfl | rfl | rfl) | rfl | hz
      · exact hl0
      · exact hm.1
      · exact hm.2.1
      · exact hm.2.2.1
      · exact hm.2.2.2.1
      · exact hz
    exact ⟨hz2, lw_good z hz2⟩
  exact ⟨_, vx_runV (nL := nL) ⟨hx, hb, hml, ho, hts⟩ hM (cwV n hts hg rfl rfl rfl ⟨rfl, hm.2.2.2.2⟩ hR1) ⟨XPc_blind, hrc2, fun U hU2 hW => ⟨rfl, hU.on hS hU2 hW, by rw [hU2]; exact hP⟩⟩ rfl hn hl.1 rfl (lv_room hw) hd hR2⟩
theorem h_ireturn {G : XG} {hh : List (Nat × Nat × Nat × Nat)} {B : XB} {cc : ByteArray} {own : String} {rm : Room} {nL : Nat} {v : Int32} {Ω' : XO} (C : XH G hh B cc own rm nL v Ω') {pc : Nat} {lv : List (Nat × Value)} {Ω : XO} {cu su : Nat} {v2 : Int32} (hd : decode cc pc = .ok (.ireturn, 1)) (hcu : cu ≤ rm.cells) (hsu : su ≤ rm.slots) (hv : v = v2) (hΩ : Ω' = Ω) : XW G B nL pc lv [.int v2] Ω cu su := by
  obtain ⟨p, e, R, s, m, args, below, meth, c, Q⟩ := B
  obtain ⟨hx, hb, hml, ho, hts, hU, hok, hlk, hR, hret, htab, hQ⟩ := C
  intro H locs ls hP hS hl
  subst hv
  subst hΩ
  subst hQ
  subst hR
  refine W.widen (k := R.cells) (n := R.slots) hcu hsu (vx_ret ?_)
  exact W.iret hx hb hret (fun t ht hW => ⟨_, rfl, rfl, by rw [ht]; exact hP, hS.F ht⟩) hS.2.2 hd
/-- the callee throws, the row x of the table takes it -/
theorem h_catch {G : XG} {hh : List (Nat × Nat × Nat × Nat)} {B : XB} {cc : ByteArray} {own : String} {rm : Room} {nL : Nat} {v : Int32} {Ω' : XO} (C : XH G hh B cc own rm nL v Ω') {pc : Nat} {lv : List (Nat × Value)} {st : List Value} {Ω : XO} {cu su : Nat} {rest : List Value} {mc ms : Nat} {E : String} {Ω2 : XO} (hr : XR G B nL pc lv st rest Ω cu su mc ms (.inr E) Ω2) (hE : E ∈ xnc) (pre : List ExceptionTableEntry) (x : ExceptionTableEntry) (suf : List ExceptionTableEntry) (hsplit : tableOf hh = pre ++ x :: suf) (hpass : ∀ U : State, XNc U → ∀ z ∈ pre, z.catchType ≠ 0 ∧ ∃ nm : String, Cond.classLink own z.catchType nm ∈ lw_g ∧ va_Nc E nm U) (hxc : covers x pc = true) (h0 : x.catchType ≠ 0) (hlink : Cond.classLink own x.catchType E ∈ lw_g) {cu2 su2 : Nat} (hcu : cu + mc = cu2) (hsu : su + ms = su2) {pc2 : Nat} (hp : x.handlerPc = pc2) (k : ∀ q : Nat, XW G B nL pc2 lv [.ref q] Ω2 cu2 su2) : XW G B nL pc lv st Ω cu su := by
  obtain ⟨p, e, R, s, m, args, below, meth, c, Q⟩ := B
  obtain ⟨hx, hb, hml, ho, hts, hU, hok, hlk, hR, hret, htab, hQ⟩ := C
  subst hp
  subst hcu
  subst hsu
  intro H locs ls hP hS hl X hTT X0
  obtain ⟨a, hr⟩ := hr H locs ls hP hS hl
  rcases hr X hTT X0 with ⟨v9, st₀, t, T', L, h0', X', hL, e1, e2, ⟨o', ho', -⟩, -⟩ | ⟨q, st₀, t, T', L, E2, ce, h0', X', hL, e1, e2, ⟨hb2, hP2, hF⟩, hce, hcv, hcl, stp⟩
  · cases ho'
  · cases hb2
    obtain ⟨k1, k2, k3⟩ := vx_keep h0' e1 hS (fun q _ h => h) (fun q h => h) hL hF
    have hcast : (Cond.castable E E).before args s = true := va_Nw.use rfl (hU.1.2.2.1.2.2.1 E hE)
    have hz := vx_catch (p := p) (l := gl G) (e := e) (R := R) (s := s) (m := m) (args := args) (below := below) (meth := meth) (c := c) (H := T'.heap) (locs := locs ++ L) (cells := cu + mc) (slots := su + ms) (Q := Q) (pc := pc) (ls := ls) (rest := rest) (name := E) (E := E) (ce := ce) (q := q) ho pre x suf (by rw [htab]; exact hsplit) (fun z hz => by
      obtain ⟨h5, nm, h6, h7⟩ := hpass s hU.2 z hz
      exact Or.inr ⟨h5, nm, hts _ h6, h7⟩) hxc h0 (hts _ hlink) hcast (by rw [e1]; exact hce) hcv hcl (k q T'.heap (locs ++ L) ls (by rw [e1]; exact hP2) k3 hl)
    obtain ⟨t2, a1, b1⟩ := hz T' rfl X'
    exact ⟨t2, stp.trans a1, b1⟩
def XNB : XB → Prop
  | (p, e, R, s, m, args, below, meth, c, Q) => XNc s
def XMSH (y : MethodName) (b : ByteArray) (maxL : Nat) (hh : List (Nat × Nat × Nat × Nat)) (n : Nat) : Prop := Cond.static y ∈ lw_g ∧ Cond.initialized y.cls ∈ lw_g ∧ Cond.codeWith y b maxL (some .int) hh ∈ lw_g ∧ y.cls ≠ "java/lang/invoke/MethodHandle" ∧ y.cls ≠ "java/lang/invoke/VarHandle" ∧ (parseMethodDescriptor y.desc).map (fun d => d.parameters.length) = some n
/-- a call of a helper -/
theorem z_cH {G : XG} {B : XB} {cc : ByteArray} {own : String} {rm : Room} {nL : Nat} (C : XZ G B cc own rm nL) (hN : XNB B) {pc : Nat} {lv : List (Nat × Value)} {st : List Value} {Ω : XO} {cu su : Nat} {y : MethodName} {b2 : ByteArray} {mL2 n idx : Nat} {hh : List (Nat × Nat × Nat × Nat)} {rm2 : Room} {As rest : List Value} {Ω2 : XO} {v : Int32} (hm : XMSH y b2 mL2 hh n) (hown : y.cls = own) (hl0 : Cond.methodLink own idx y ∈ lw_g) (hM : XMH G y b2 mL2 hh rm2 As Ω v Ω2) (hn : As.length = n) (hst : st = As.reverse ++ rest) (hw : (rest.map fun v => v.category).sum ≤ 8) (hR1 : rm2.frames + 1 ≤ rm.frames ∧ 8 + (mL2 + 11) + rm2.locals ≤ rm.locals) (hR2 : cu + rm2.cells ≤ rm.cells ∧ su + rm2.slots ≤ rm.slots) (hd : decode cc pc = .ok (.invokestatic idx, 3)) : XR G B nL pc lv st rest Ω cu su rm2.cells rm2.slots (.inl (some (.int v))) Ω2 := by
  obtain ⟨p, e, R, s, m, args, below, meth, c, Q⟩ := B
  obtain ⟨hx, hb, hml, ho, hts, hU, hok, hlk, hR, hret, htab, hQ⟩ := C
  have hN : XNc s := hN
  subst hst
  subst hR
  subst hown
  intro H locs ls hP hS hl
  have hg : GoodIn lw_g (va_wsS y.cls idx y (Cond.codeWith y b2 mL2 (some .int) hh :: lw_g)) := by
    intro z hz
    have hz2 : z ∈ lw_g := by
      simp only [va_wsS, List.mem_append, List.mem_cons, List.not_mem_nil, or_false] at hz
      rcases hz with (rfl | rfl | rfl) | rfl | hz
      · exact hl0
      · exact hm.1
      · exact hm.2.1
      · exact hm.2.2.1
      · exact hz
    exact ⟨hz2, lw_good z hz2⟩
  exact ⟨_, vx_runSX (nL := nL) ⟨hx, hb, hml, ho, hts⟩ hM (vx_cwSW n hts hg rfl rfl rfl hm.2.2.2 hR1) ⟨HPc_blind, fun U hU2 hW => ⟨rfl, ⟨hU.on hS hU2 hW, XNc.moved hW.alike hN⟩, by rw [hU2]; exact hP⟩⟩ rfl hn hl.1 rfl (lv_room hw) hd hR2⟩
/-- what a helper makes of a call's end -/
def hcd : List String → Nat → String → Option Int32
  | [], _, _ => none
  | e :: es, k, E => if E = e then some (nI k) else hcd es (k + 1) E
def hlp (z : Bool) (es : List String) (T : Option Value ⊕ String) (Ω : XO) : Option (Int32 × XO) := match T with
  | .inl (some (.int v)) => some (0, uL Ω 2017 0 0 (if z = true then (if v = 0 then 0 else 1) else v.toInt64))
  | .inl _ => none
  | .inr E => (hcd es 1 E).map (fun k => (k, Ω))
theorem hlp_v {z : Bool} {es : List String} {T : Option Value ⊕ String} {Ω : XO} {r : Int32 × XO} (h : hlp z es T Ω = some r) : (∃ v, T = .inl (some (.int v)) ∧ r = (0, uL Ω 2017 0 0 (if z = true then (if v = 0 then 0 else 1) else v.toInt64))) ∨ ∃ E, T = .inr E ∧ (hcd es 1 E).map (fun k => (k, Ω)) = some r := by
  rcases T with o | E
  · rcases o with _ | v
    · cases h
    · cases v <;> first | (cases h; exact Or.inl ⟨_, rfl, rfl⟩) | cases h
  · exact Or.inr ⟨E, rfl, h⟩
theorem hcd1 {a E : String} {Ω : XO} {r : Int32 × XO} (h : (hcd [a] 1 E).map (fun k => (k, Ω)) = some r) : E = a ∧ r = (1, Ω) := by
  unfold hcd hcd at h
  split at h
  · cases h; exact ⟨by assumption, rfl⟩
  · cases h
theorem hcd2 {a b E : String} {Ω : XO} {r : Int32 × XO} (h : (hcd [a, b] 1 E).map (fun k => (k, Ω)) = some r) : (E = a ∧ r = (1, Ω)) ∨ (E = b ∧ r = (2, Ω)) := by
  unfold hcd hcd hcd at h
  split at h
  · cases h; exact Or.inl ⟨by assumption, rfl⟩
  · split at h
    · cases h; exact Or.inr ⟨by assumption, rfl⟩
    · cases h
theorem hcd3 {a b c E : String} {Ω : XO} {r : Int32 × XO} (h : (hcd [a, b, c] 1 E).map (fun k => (k, Ω)) = some r) : (E = a ∧ r = (1, Ω)) ∨ (E = b ∧ r = (2, Ω)) ∨ (E = c ∧ r = (3, Ω)) := by
  unfold hcd hcd hcd hcd at h
  split at h
  · cases h; exact Or.inl ⟨by assumption, rfl⟩
  · split at h
    · cases h; exact Or.inr (Or.inl ⟨by assumption, rfl⟩)
    · split at h
      · cases h; exact Or.inr (Or.inr ⟨by assumption, rfl⟩)
      · cases h
