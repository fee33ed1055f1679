/-- a field's kind, as one question to the tables; 0 stands for ints and booleans -/
def sK (t k j : Nat) : Bool := Nat.blt k 11 && (Nat.blt j (nfl k) && (if t < 2 then Nat.blt (ftp k j) 2 else Nat.beq (ftp k j) t))
def sO (t k j : Nat) : Prop := if t < 2 then ftp k j < 2 else ftp k j = t
theorem sok {t k j : Nat} (h : sK t k j = true) : k < 11 ∧ j < nfl k ∧ sO t k j := by
  unfold sK at h
  rw [Bool.and_eq_true, Bool.and_eq_true] at h
  refine ⟨Nat.lt_of_lt_of_le (Nat.lt_succ_self k) (Nat.le_of_ble_eq_true h.1), Nat.lt_of_lt_of_le (Nat.lt_succ_self j) (Nat.le_of_ble_eq_true h.2.1), ?_⟩
  have h3 := h.2.2
  unfold sO
  by_cases ht : t < 2
  · rw [if_pos ht] at h3 ⊢
    exact Nat.le_of_ble_eq_true h3
  · rw [if_neg ht] at h3 ⊢
    exact Nat.eq_of_beq_eq_true h3
def sA (t k : Nat) : Bool := Nat.ble 2000 k && Nat.beq (aty k) t
theorem sak {t k : Nat} (h : sA t k = true) : 2000 ≤ k ∧ aty k = t := by
  unfold sA at h
  rw [Bool.and_eq_true] at h
  exact ⟨Nat.le_of_ble_eq_true h.1, Nat.eq_of_beq_eq_true h.2⟩
def sB (k : Nat) : Bool := Nat.ble 2000 k && Nat.ble 2 (aty k)
theorem sbk {k : Nat} (h : sB k = true) : 2000 ≤ k ∧ 2 ≤ aty k := by
  unfold sB at h
  rw [Bool.and_eq_true] at h
  exact ⟨Nat.le_of_ble_eq_true h.1, Nat.le_of_ble_eq_true h.2⟩
def RM (n k : Nat) : Room := { frames := n, cells := k, slots := 6 * k, locals := 60 * n }
theorem cT_own {k j : Nat} (h : k < 11) (hj : j < cN k) : (cT k j).1 = cnm k := by
  rcases (show k = 0 ∨ k = 1 ∨ k = 2 ∨ k = 3 ∨ k = 4 ∨ k = 5 ∨ k = 6 ∨ k = 7 ∨ k = 8 ∨ k = 9 ∨ k = 10 by omega) with rfl | rfl | rfl | rfl | rfl | rfl | rfl | rfl | rfl | rfl | rfl <;> revert j <;> decide +kernel
def sArr (q : Nat) : List Int32 := if q = 0 then [9999, 0, 0, 0, 0, 0, 0, 0, 0, 3, 3, 20, 20, 0, 0, 0, 0, 15, 15, 0, 0, 7, 0, 0, 0] else if q = 1 then [3, 3, 3, 5, 3, 3, 3, 3, 2, 20, 30, 5, 5, 2, 2, 2, 10, 3, 3, 40, 20, 80, 20, 0, 0] else if q = 2 then [0, 2, 2, 2, 2, 2, 1, 2, 1, 0, 1, 0, 1, 0, 0, 0, 1, 1, 0, 3, 1, 1, 1, 0, 0] else [1, 1, 1, 1, 1, 1, 2, 2, 0, 1, 0, 0, 0, 1, 1, 1, 1, 0, 1, 1, 0, 1, 0, 0, 0]
def sNam (q : Nat) : String := if q = 0 then "LAST_ARGUMENT" else if q = 1 then "STEP_GAS" else if q = 2 then "TAKEN" else "PUSHED"
def XT (G : XG) (U : State) (H : Heap) : Prop := (∀ q, q < 4 → va_Z "ForkBridge" (sNam q) "[I" (.ref (gT G q)) (xA G) U H ∧ va_T .int (gT G q) 25 (fun j => .int ((sArr q).getD j 0)) (xA G) U H) ∧ vx_Zq Bundle.tN "UNASSIGNED_STACK" Bundle.steD (xA G) U H ∧ vx_Zq Bundle.tN "SUPPRESSED_SENTINEL" Bundle.listD (xA G) U H
theorem XT.moved {G : XG} {u U : State} {H : Heap} (hvm : u.vm.Alike U.vm) (h : XT G u H) : XT G U H := ⟨fun q hq => ⟨va_Z.moved hvm (h.1 q hq).1, va_T.moved hvm (h.1 q hq).2⟩, vx_Zq.moved hvm h.2.1, vx_Zq.moved hvm h.2.2⟩
theorem XT.kept {G : XG} {U : State} {H H1 : Heap} (h : XT G U H) (hq : ∀ a : Nat, a < H.size → ¬ xA G a → H1[a]? = H[a]?) : XT G U H1 := ⟨fun q hq2 => ⟨va_Z.kept (h.1 q hq2).1 hq, va_T.kept (h.1 q hq2).2 hq⟩, vx_Zq.kept h.2.1 hq, vx_Zq.kept h.2.2 hq⟩
def xnd : List String := ["java/lang/RuntimeException", "java/lang/Exception", "java/lang/Throwable"]
def xnc : List String := ["java/lang/IndexOutOfBoundsException", "java/lang/IllegalArgumentException", "java/lang/IllegalStateException"]
def XN (U : State) : Prop := (∀ q ∈ xnm, va_Nw (.methodLinkNest q.1 q.2.1 q.2.2.1 q.2.2.2) U) ∧ (∀ q ∈ xnf, va_Nw (.fieldLinkNest q.1 q.2.1 q.2.2.1 q.2.2.2.1 q.2.2.2.2.1 q.2.2.2.2.2) U) ∧ (∀ q ∈ xnc, va_Nw (.castable q q) U) ∧ ∀ q ∈ xnd, va_Nw (.declares ⟨q, "<init>", "()V"⟩) U
theorem XN.warm {s U : State} (hW : s.WarmedH U.vm) (h : XN s) : XN U := ⟨fun q hq => va_Nw.warmM hW (h.1 q hq), fun q hq => va_Nw.warmF hW (h.2.1 q hq), fun q hq => va_Nw.warmC hW (h.2.2.1 q hq), fun q hq => va_Nw.warmD hW (h.2.2.2 q hq)⟩
theorem XN.same {u U : State} (hvm : u.vm = U.vm) (h : XN u) : XN U := ⟨fun q hq => va_Nw.same rfl hvm (h.1 q hq), fun q hq => va_Nw.same rfl hvm (h.2.1 q hq), fun q hq => va_Nw.same rfl hvm (h.2.2.1 q hq), fun q hq => va_Nw.same rfl hvm (h.2.2.2 q hq)⟩
/-- what every state of ours is given -/
def XU (G : XG) (U : State) : Prop := gb G ≤ U.heap.size ∧ va_K (gD G) vwCl (tysOf G) U ∧ XN U ∧ XT G U U.heap
def XPc (G : XG) (as : List Value) (Ω : XO) : Array Value → State → Prop := va_Pc as (fun U => XU G U ∧ va_P (gD G) vwCl (pl G Ω) U.heap)
def XQc (G : XG) (T : Option Value ⊕ String) (Ω' : XO) : Array Value → State → Outcome → State → Prop := fun _ st oc t => ∃ o, T = .inl o ∧ oc = .returned o ∧ va_P (gD G) vwCl (pl G Ω') t.heap ∧ va_F (xA G) st t
def XXc (G : XG) (T : Option Value ⊕ String) (Ω' : XO) : String → State → State → Prop := fun E st t => T = .inr E ∧ va_P (gD G) vwCl (pl G Ω') t.heap ∧ va_F (xA G) st t
/-- a method's contract: called with these in the world Ω it ends as T tells, in the world Ω' -/
def XM (G : XG) (y : MethodName) (b : ByteArray) (maxL : Nat) (ret : Option FieldType) (rm : Room) (as : List Value) (Ω : XO) (T : Option Value ⊕ String) (Ω' : XO) : Prop := vx_Met (gl G) y (Cond.code y b maxL ret :: lw_g) rm (XPc G as Ω) (XQc G T Ω') (XXc G T Ω') rm.cells rm.slots (xA G)
theorem XPc_blind {G : XG} {as : List Value} {Ω : XO} : FrameBlind (XPc G as Ω) := by
  intro a U g mk h
  obtain ⟨h1, ⟨h2, h3, h4, h5⟩, h6⟩ := h
  exact ⟨h1, ⟨h2, va_K.moved (u := U) (U := U.calling g mk a) (Vm.Alike.refl U.vm) h3, XN.same (u := U) (U := U.calling g mk a) rfl h4, XT.moved (u := U) (U := U.calling g mk a) (Vm.Alike.refl U.vm) h5⟩, h6⟩
/-- a running method: program, environment, room, start, itself, arguments, below, method, code, what is owed -/
abbrev XB : Type := Program × Env × Room × State × MethodId × Array Value × List Frame × Method × Code × (State → Prop)
def XW (G : XG) : XB → Nat → Nat → List (Nat × Value) → List Value → XO → Nat → Nat → Prop
  | (p, e, R, s, m, args, below, meth, c, Q), nL, pc, lv, st, Ω, cu, su => ∀ (H : Heap) (locs : List Loc) (ls : Array Slot), va_P (gD G) vwCl (pl G Ω) H → va_S (xA G) s.heap H locs → lv_has ls nL lv → W p (gl G) e R s m args below meth c H locs cu su Q (F0 m pc ls st)
def XC (G : XG) : XB → ByteArray → String → Room → Nat → Option FieldType → (Option Value ⊕ String) → XO → Prop
  | (p, e, R, s, m, args, below, meth, c, Q), cc, own, rm, nL, ret, T, Ω' => p.tables.exec = Jvm.exec ∧ c.code = cc ∧ c.maxLocals = nL ∧ s.vm.findClass own = some m.cls ∧ (∀ w ∈ lw_g, w.before args s = true) ∧ XU G s ∧ XK G ∧ meth.locks = false ∧ R = rm ∧ meth.sig.returnType = ret ∧ (∀ x ∈ c.exceptionTable.toList, False) ∧ Q = vx_MQ below (XQc G T Ω') (XXc G T Ω') args s rm.cells rm.slots (xA G)
theorem x_start {G : XG} (hok : XK G) {y : MethodName} {cc : ByteArray} {maxL : Nat} {ret : Option FieldType} {rm : Room} {as : List Value} {Ω Ω' : XO} {T : Option Value ⊕ String} {lv : List (Nat × Value)} {own : String} (hy : plainName y.cls = true) (ho : y.cls = own) (hlen : (lg_sl as).length ≤ maxL) (hlv : lv_args 0 as = lv)
    (body : ∀ B : XB, XC G B cc own rm maxL ret T Ω' → XW G B maxL 0 lv [] Ω 0 0) : XM G y cc maxL ret rm as Ω T Ω' := by
  subst ho
  refine vx_ofW (cc := cc) (maxL := maxL) (ret := ret) hy rfl ?_
  intro p e s m args below meth c s₁ B hml ht hv
  obtain ⟨rfl, hU, hP⟩ := hv
  have hts : ∀ w ∈ lw_g, w.before as.toArray s = true := fun w hw => atoms_spec (ws := Cond.code y cc maxL ret :: lw_g) B.pre w (List.mem_cons_of_mem _ hw)
  have k := body (p, e, rm, s, m, as.toArray, below, meth, c, vx_MQ below (XQc G T Ω') (XXc G T Ω') as.toArray s rm.cells rm.slots (xA G)) ⟨B.exec, B.bytes, hml, findClass_of_methodNamed B.named, hts, hU, hok, B.notSynchronized, rfl, B.returns, ht, rfl⟩
  have hl := lv_entry as (n := maxL) hlen
  rw [hlv] at hl
  rw [lg_entry_eq]
  exact k s.heap [] _ hP va_S.rf hl
/-- this state of ours, seen by a callee -/
theorem XU.on {G : XG} {s U : State} {H : Heap} {locs : List Loc} (h : XU G s) (hS : va_S (xA G) s.heap H locs) (hU : U.heap = H) (hW : s.WarmedH U.vm) : XU G U := by
  obtain ⟨h1, h2, h3, h4⟩ := h
  refine ⟨by rw [hU]; exact Nat.le_trans h1 hS.1, va_K.moved hW.alike h2, XN.warm hW h3, ?_⟩
  rw [hU]
  exact XT.kept (XT.moved hW.alike h4) (fun a h5 h6 => hS.2.1 a h5 h6)
theorem x_ft {k : Nat} (h : k < 11) : cN k = nfl k := by
  rcases (show k = 0 ∨ k = 1 ∨ k = 2 ∨ k = 3 ∨ k = 4 ∨ k = 5 ∨ k = 6 ∨ k = 7 ∨ k = 8 ∨ k = 9 ∨ k = 10 by omega) with rfl | rfl | rfl | rfl | rfl | rfl | rfl | rfl | rfl | rfl | rfl <;> rfl
theorem x_iconst {G : XG} {B : XB} {cc : ByteArray} {own : String} {rm : Room} {nL : Nat} {ret : Option FieldType} {T : Option Value ⊕ String} {Ω9 : XO} (C : XC G B cc own rm nL ret T Ω9) {pc : Nat} {lv : List (Nat × Value)} {st : List Value} {Ω : XO} {cu su : Nat} {n : Int} {v : Int32} (hd : decode cc pc = .ok (.iconst n, 1)) (hv : Int32.ofInt n = v) {pc2 : Nat} (hp : pc + 1 = pc2) (k : XW G B nL pc2 lv (.int v :: st) Ω cu su) : XW G B nL pc lv st Ω cu su := by
  obtain ⟨p, e, R, s, m, args, below, meth, c, Q⟩ := B
  obtain ⟨hx, hb, hml, ho, hts, hU, hok, hlk, hR, hret, htab, hQ⟩ := C
  subst hp
  intro H locs ls hP hS hl
  exact lv_iconst hx hb hd hv (k H locs ls hP hS hl)
theorem x_bipush {G : XG} {B : XB} {cc : ByteArray} {own : String} {rm : Room} {nL : Nat} {ret : Option FieldType} {T : Option Value ⊕ String} {Ω9 : XO} (C : XC G B cc own rm nL ret T Ω9) {pc : Nat} {lv : List (Nat × Value)} {st : List Value} {Ω : XO} {cu su : Nat} {n : Int} {v : Int32} (hd : decode cc pc = .ok (.bipush n, 2)) (hv : (Int8.ofInt n).toInt32 = v) {pc2 : Nat} (hp : pc + 2 = pc2) (k : XW G B nL pc2 lv (.int v :: st) Ω cu su) : XW G B nL pc lv st Ω cu su := by
  obtain ⟨p, e, R, s, m, args, below, meth, c, Q⟩ := B
  obtain ⟨hx, hb, hml, ho, hts, hU, hok, hlk, hR, hret, htab, hQ⟩ := C
  subst hp
  intro H locs ls hP hS hl
  exact lv_bipush hx hb hd hv (k H locs ls hP hS hl)
theorem x_sipush {G : XG} {B : XB} {cc : ByteArray} {own : String} {rm : Room} {nL : Nat} {ret : Option FieldType} {T : Option Value ⊕ String} {Ω9 : XO} (C : XC G B cc own rm nL ret T Ω9) {pc : Nat} {lv : List (Nat × Value)} {st : List Value} {Ω : XO} {cu su : Nat} {n : Int} {v : Int32} (hd : decode cc pc = .ok (.sipush n, 3)) (hv : (Int16.ofInt n).toInt32 = v) {pc2 : Nat} (hp : pc + 3 = pc2) (k : XW G B nL pc2 lv (.int v :: st) Ω cu su) : XW G B nL pc lv st Ω cu su := by
  obtain ⟨p, e, R, s, m, args, below, meth, c, Q⟩ := B
  obtain ⟨hx, hb, hml, ho, hts, hU, hok, hlk, hR, hret, htab, hQ⟩ := C
  subst hp
  intro H locs ls hP hS hl
  exact lv_sipush hx hb hd hv (k H locs ls hP hS hl)
theorem x_lconst {G : XG} {B : XB} {cc : ByteArray} {own : String} {rm : Room} {nL : Nat} {ret : Option FieldType} {T : Option Value ⊕ String} {Ω9 : XO} (C : XC G B cc own rm nL ret T Ω9) {pc : Nat} {lv : List (Nat × Value)} {st : List Value} {Ω : XO} {cu su : Nat} {n : Fin 2} {v : Int64} (hd : decode cc pc = .ok (.lconst n, 1)) (hv : Int64.ofNat (n : Nat) = v) {pc2 : Nat} (hp : pc + 1 = pc2) (k : XW G B nL pc2 lv (.long v :: st) Ω cu su) : XW G B nL pc lv st Ω cu su := by
  obtain ⟨p, e, R, s, m, args, below, meth, c, Q⟩ := B
  obtain ⟨hx, hb, hml, ho, hts, hU, hok, hlk, hR, hret, htab, hQ⟩ := C
  subst hp
  intro H locs ls hP hS hl
  exact lv_lconst hx hb hd hv (k H locs ls hP hS hl)
theorem x_iadd {G : XG} {B : XB} {cc : ByteArray} {own : String} {rm : Room} {nL : Nat} {ret : Option FieldType} {T : Option Value ⊕ String} {Ω9 : XO} (C : XC G B cc own rm nL ret T Ω9) {pc : Nat} {lv : List (Nat × Value)} {st : List Value} {Ω : XO} {cu su : Nat} {x y : Int32} (hd : decode cc pc = .ok (.iadd, 1))  {pc2 : Nat} (hp : pc + 1 = pc2) (k : XW G B nL pc2 lv (.int (x + y) :: st) Ω cu su) : XW G B nL pc lv (.int y :: .int x :: st) Ω cu su := by
  obtain ⟨p, e, R, s, m, args, below, meth, c, Q⟩ := B
  obtain ⟨hx, hb, hml, ho, hts, hU, hok, hlk, hR, hret, htab, hQ⟩ := C
  subst hp
  intro H locs ls hP hS hl
  exact lv_iadd hx hb hd  (k H locs ls hP hS hl)
theorem x_isub {G : XG} {B : XB} {cc : ByteArray} {own : String} {rm : Room} {nL : Nat} {ret : Option FieldType} {T : Option Value ⊕ String} {Ω9 : XO} (C : XC G B cc own rm nL ret T Ω9) {pc : Nat} {lv : List (Nat × Value)} {st : List Value} {Ω : XO} {cu su : Nat} {x y : Int32} (hd : decode cc pc = .ok (.isub, 1))  {pc2 : Nat} (hp : pc + 1 = pc2) (k : XW G B nL pc2 lv (.int (x - y) :: st) Ω cu su) : XW G B nL pc lv (.int y :: .int x :: st) Ω cu su := by
  obtain ⟨p, e, R, s, m, args, below, meth, c, Q⟩ := B
  obtain ⟨hx, hb, hml, ho, hts, hU, hok, hlk, hR, hret, htab, hQ⟩ := C
  subst hp
  intro H locs ls hP hS hl
  exact lv_isub hx hb hd  (k H locs ls hP hS hl)
theorem x_imul {G : XG} {B : XB} {cc : ByteArray} {own : String} {rm : Room} {nL : Nat} {ret : Option FieldType} {T : Option Value ⊕ String} {Ω9 : XO} (C : XC G B cc own rm nL ret T Ω9) {pc : Nat} {lv : List (Nat × Value)} {st : List Value} {Ω : XO} {cu su : Nat} {x y : Int32} (hd : decode cc pc = .ok (.imul, 1))  {pc2 : Nat} (hp : pc + 1 = pc2) (k : XW G B nL pc2 lv (.int (x * y) :: st) Ω cu su) : XW G B nL pc lv (.int y :: .int x :: st) Ω cu su := by
  obtain ⟨p, e, R, s, m, args, below, meth, c, Q⟩ := B
  obtain ⟨hx, hb, hml, ho, hts, hU, hok, hlk, hR, hret, htab, hQ⟩ := C
  subst hp
  intro H locs ls hP hS hl
  exact lv_imul hx hb hd  (k H locs ls hP hS hl)
theorem x_iand {G : XG} {B : XB} {cc : ByteArray} {own : String} {rm : Room} {nL : Nat} {ret : Option FieldType} {T : Option Value ⊕ String} {Ω9 : XO} (C : XC G B cc own rm nL ret T Ω9) {pc : Nat} {lv : List (Nat × Value)} {st : List Value} {Ω : XO} {cu su : Nat} {x y : Int32} (hd : decode cc pc = .ok (.iand, 1))  {pc2 : Nat} (hp : pc + 1 = pc2) (k : XW G B nL pc2 lv (.int (x &&& y) :: st) Ω cu su) : XW G B nL pc lv (.int y :: .int x :: st) Ω cu su := by
  obtain ⟨p, e, R, s, m, args, below, meth, c, Q⟩ := B
  obtain ⟨hx, hb, hml, ho, hts, hU, hok, hlk, hR, hret, htab, hQ⟩ := C
  subst hp
  intro H locs ls hP hS hl
  exact lv_iand hx hb hd  (k H locs ls hP hS hl)
theorem x_ior {G : XG} {B : XB} {cc : ByteArray} {own : String} {rm : Room} {nL : Nat} {ret : Option FieldType} {T : Option Value ⊕ String} {Ω9 : XO} (C : XC G B cc own rm nL ret T Ω9) {pc : Nat} {lv : List (Nat × Value)} {st : List Value} {Ω : XO} {cu su : Nat} {x y : Int32} (hd : decode cc pc = .ok (.ior, 1))  {pc2 : Nat} (hp : pc + 1 = pc2) (k : XW G B nL pc2 lv (.int (x ||| y) :: st) Ω cu su) : XW G B nL pc lv (.int y :: .int x :: st) Ω cu su := by
  obtain ⟨p, e, R, s, m, args, below, meth, c, Q⟩ := B
  obtain ⟨hx, hb, hml, ho, hts, hU, hok, hlk, hR, hret, htab, hQ⟩ := C
  subst hp
  intro H locs ls hP hS hl
  exact lv_ior hx hb hd  (k H locs ls hP hS hl)
theorem x_ixor {G : XG} {B : XB} {cc : ByteArray} {own : String} {rm : Room} {nL : Nat} {ret : Option FieldType} {T : Option Value ⊕ String} {Ω9 : XO} (C : XC G B cc own rm nL ret T Ω9) {pc : Nat} {lv : List (Nat × Value)} {st : List Value} {Ω : XO} {cu su : Nat} {x y : Int32} (hd : decode cc pc = .ok (.ixor, 1))  {pc2 : Nat} (hp : pc + 1 = pc2) (k : XW G B nL pc2 lv (.int (x ^^^ y) :: st) Ω cu su) : XW G B nL pc lv (.int y :: .int x :: st) Ω cu su := by
  obtain ⟨p, e, R, s, m, args, below, meth, c, Q⟩ := B
  obtain ⟨hx, hb, hml, ho, hts, hU, hok, hlk, hR, hret, htab, hQ⟩ := C
  subst hp
  intro H locs ls hP hS hl
  exact lv_ixor hx hb hd  (k H locs ls hP hS hl)
theorem x_ishl {G : XG} {B : XB} {cc : ByteArray} {own : String} {rm : Room} {nL : Nat} {ret : Option FieldType} {T : Option Value ⊕ String} {Ω9 : XO} (C : XC G B cc own rm nL ret T Ω9) {pc : Nat} {lv : List (Nat × Value)} {st : List Value} {Ω : XO} {cu su : Nat} {x y : Int32} (hd : decode cc pc = .ok (.ishl, 1))  {pc2 : Nat} (hp : pc + 1 = pc2) (k : XW G B nL pc2 lv (.int (x <<< (y &&& 31)) :: st) Ω cu su) : XW G B nL pc lv (.int y :: .int x :: st) Ω cu su := by
  obtain ⟨p, e, R, s, m, args, below, meth, c, Q⟩ := B
  obtain ⟨hx, hb, hml, ho, hts, hU, hok, hlk, hR, hret, htab, hQ⟩ := C
  subst hp
  intro H locs ls hP hS hl
  exact lv_ishl hx hb hd  (k H locs ls hP hS hl)
theorem x_ishr {G : XG} {B : XB} {cc : ByteArray} {own : String} {rm : Room} {nL : Nat} {ret : Option FieldType} {T : Option Value ⊕ String} {Ω9 : XO} (C : XC G B cc own rm nL ret T Ω9) {pc : Nat} {lv : List (Nat × Value)} {st : List Value} {Ω : XO} {cu su : Nat} {x y : Int32} (hd : decode cc pc = .ok (.ishr, 1))  {pc2 : Nat} (hp : pc + 1 = pc2) (k : XW G B nL pc2 lv (.int (x >>> (y &&& 31)) :: st) Ω cu su) : XW G B nL pc lv (.int y :: .int x :: st) Ω cu su := by
  obtain ⟨p, e, R, s, m, args, below, meth, c, Q⟩ := B
  obtain ⟨hx, hb, hml, ho, hts, hU, hok, hlk, hR, hret, htab, hQ⟩ := C
  subst hp
  intro H locs ls hP hS hl
  exact lv_ishr hx hb hd  (k H locs ls hP hS hl)
theorem x_idiv {G : XG} {B : XB} {cc : ByteArray} {own : String} {rm : Room} {nL : Nat} {ret : Option FieldType} {T : Option Value ⊕ String} {Ω9 : XO} (C : XC G B cc own rm nL ret T Ω9) {pc : Nat} {lv : List (Nat × Value)} {st : List Value} {Ω : XO} {cu su : Nat} {x y : Int32} (hd : decode cc pc = .ok (.idiv, 1)) (hne : ¬ y = 0) {pc2 : Nat} (hp : pc + 1 = pc2) (k : XW G B nL pc2 lv (.int (x / y) :: st) Ω cu su) : XW G B nL pc lv (.int y :: .int x :: st) Ω cu su := by
  obtain ⟨p, e, R, s, m, args, below, meth, c, Q⟩ := B
  obtain ⟨hx, hb, hml, ho, hts, hU, hok, hlk, hR, hret, htab, hQ⟩ := C
  subst hp
  intro H locs ls hP hS hl
  exact lv_idiv hx hb hd hne (k H locs ls hP hS hl)
theorem x_irem {G : XG} {B : XB} {cc : ByteArray} {own : String} {rm : Room} {nL : Nat} {ret : Option FieldType} {T : Option Value ⊕ String} {Ω9 : XO} (C : XC G B cc own rm nL ret T Ω9) {pc : Nat} {lv : List (Nat × Value)} {st : List Value} {Ω : XO} {cu su : Nat} {x y : Int32} (hd : decode cc pc = .ok (.irem, 1)) (hne : ¬ y = 0) {pc2 : Nat} (hp : pc + 1 = pc2) (k : XW G B nL pc2 lv (.int (x - x / y * y) :: st) Ω cu su) : XW G B nL pc lv (.int y :: .int x :: st) Ω cu su := by
  obtain ⟨p, e, R, s, m, args, below, meth, c, Q⟩ := B
  obtain ⟨hx, hb, hml, ho, hts, hU, hok, hlk, hR, hret, htab, hQ⟩ := C
  subst hp
  intro H locs ls hP hS hl
  exact lv_irem hx hb hd hne (k H locs ls hP hS hl)
theorem x_ineg {G : XG} {B : XB} {cc : ByteArray} {own : String} {rm : Room} {nL : Nat} {ret : Option FieldType} {T : Option Value ⊕ String} {Ω9 : XO} (C : XC G B cc own rm nL ret T Ω9) {pc : Nat} {lv : List (Nat × Value)} {st : List Value} {Ω : XO} {cu su : Nat} {x : Int32} (hd : decode cc pc = .ok (.ineg, 1))  {pc2 : Nat} (hp : pc + 1 = pc2) (k : XW G B nL pc2 lv (.int (-x) :: st) Ω cu su) : XW G B nL pc lv (.int x :: st) Ω cu su := by
  obtain ⟨p, e, R, s, m, args, below, meth, c, Q⟩ := B
  obtain ⟨hx, hb, hml, ho, hts, hU, hok, hlk, hR, hret, htab, hQ⟩ := C
  subst hp
  intro H locs ls hP hS hl
  exact lv_ineg hx hb hd  (k H locs ls hP hS hl)
theorem x_ladd {G : XG} {B : XB} {cc : ByteArray} {own : String} {rm : Room} {nL : Nat} {ret : Option FieldType} {T : Option Value ⊕ String} {Ω9 : XO} (C : XC G B cc own rm nL ret T Ω9) {pc : Nat} {lv : List (Nat × Value)} {st : List Value} {Ω : XO} {cu su : Nat} {x y : Int64} (hd : decode cc pc = .ok (.ladd, 1))  {pc2 : Nat} (hp : pc + 1 = pc2) (k : XW G B nL pc2 lv (.long (x + y) :: st) Ω cu su) : XW G B nL pc lv (.long y :: .long x :: st) Ω cu su := by
  obtain ⟨p, e, R, s, m, args, below, meth, c, Q⟩ := B
  obtain ⟨hx, hb, hml, ho, hts, hU, hok, hlk, hR, hret, htab, hQ⟩ := C
  subst hp
  intro H locs ls hP hS hl
  exact lv_ladd hx hb hd  (k H locs ls hP hS hl)
theorem x_lmul {G : XG} {B : XB} {cc : ByteArray} {own : String} {rm : Room} {nL : Nat} {ret : Option FieldType} {T : Option Value ⊕ String} {Ω9 : XO} (C : XC G B cc own rm nL ret T Ω9) {pc : Nat} {lv : List (Nat × Value)} {st : List Value} {Ω : XO} {cu su : Nat} {x y : Int64} (hd : decode cc pc = .ok (.lmul, 1))  {pc2 : Nat} (hp : pc + 1 = pc2) (k : XW G B nL pc2 lv (.long (x * y) :: st) Ω cu su) : XW G B nL pc lv (.long y :: .long x :: st) Ω cu su := by
  obtain ⟨p, e, R, s, m, args, below, meth, c, Q⟩ := B
  obtain ⟨hx, hb, hml, ho, hts, hU, hok, hlk, hR, hret, htab, hQ⟩ := C
  subst hp
  intro H locs ls hP hS hl
  exact lv_lmul hx hb hd  (k H locs ls hP hS hl)
theorem x_land {G : XG} {B : XB} {cc : ByteArray} {own : String} {rm : Room} {nL : Nat} {ret : Option FieldType} {T : Option Value ⊕ String} {Ω9 : XO} (C : XC G B cc own rm nL ret T Ω9) {pc : Nat} {lv : List (Nat × Value)} {st : List Value} {Ω : XO} {cu su : Nat} {x y : Int64} (hd : decode cc pc = .ok (.land, 1))  {pc2 : Nat} (hp : pc + 1 = pc2) (k : XW G B nL pc2 lv (.long (x &&& y) :: st) Ω cu su) : XW G B nL pc lv (.long y :: .long x :: st) Ω cu su := by
  obtain ⟨p, e, R, s, m, args, below, meth, c, Q⟩ := B
  obtain ⟨hx, hb, hml, ho, hts, hU, hok, hlk, hR, hret, htab, hQ⟩ := C
  subst hp
  intro H locs ls hP hS hl
  exact lv_land hx hb hd  (k H locs ls hP hS hl)
theorem x_lor {G : XG} {B : XB} {cc : ByteArray} {own : String} {rm : Room} {nL : Nat} {ret : Option FieldType} {T : Option Value ⊕ String} {Ω9 : XO} (C : XC G B cc own rm nL ret T Ω9) {pc : Nat} {lv : List (Nat × Value)} {st : List Value} {Ω : XO} {cu su : Nat} {x y : Int64} (hd : decode cc pc = .ok (.lor, 1))  {pc2 : Nat} (hp : pc + 1 = pc2) (k : XW G B nL pc2 lv (.long (x ||| y) :: st) Ω cu su) : XW G B nL pc lv (.long y :: .long x :: st) Ω cu su := by
  obtain ⟨p, e, R, s, m, args, below, meth, c, Q⟩ := B
  obtain ⟨hx, hb, hml, ho, hts, hU, hok, hlk, hR, hret, htab, hQ⟩ := C
  subst hp
  intro H locs ls hP hS hl
  exact lv_lor hx hb hd  (k H locs ls hP hS hl)
theorem x_lrem {G : XG} {B : XB} {cc : ByteArray} {own : String} {rm : Room} {nL : Nat} {ret : Option FieldType} {T : Option Value ⊕ String} {Ω9 : XO} (C : XC G B cc own rm nL ret T Ω9) {pc : Nat} {lv : List (Nat × Value)} {st : List Value} {Ω : XO} {cu su : Nat} {x y : Int64} (hd : decode cc pc = .ok (.lrem, 1)) (hne : ¬ y = 0) {pc2 : Nat} (hp : pc + 1 = pc2) (k : XW G B nL pc2 lv (.long (x - x / y * y) :: st) Ω cu su) : XW G B nL pc lv (.long y :: .long x :: st) Ω cu su := by
  obtain ⟨p, e, R, s, m, args, below, meth, c, Q⟩ := B
  obtain ⟨hx, hb, hml, ho, hts, hU, hok, hlk, hR, hret, htab, hQ⟩ := C
  subst hp
  intro H locs ls hP hS hl
  exact lv_lrem hx hb hd hne (k H locs ls hP hS hl)
theorem x_i2l {G : XG} {B : XB} {cc : ByteArray} {own : String} {rm : Room} {nL : Nat} {ret : Option FieldType} {T : Option Value ⊕ String} {Ω9 : XO} (C : XC G B cc own rm nL ret T Ω9) {pc : Nat} {lv : List (Nat × Value)} {st : List Value} {Ω : XO} {cu su : Nat} {x : Int32} (hd : decode cc pc = .ok (.i2l, 1))  {pc2 : Nat} (hp : pc + 1 = pc2) (k : XW G B nL pc2 lv (.long x.toInt64 :: st) Ω cu su) : XW G B nL pc lv (.int x :: st) Ω cu su := by
  obtain ⟨p, e, R, s, m, args, below, meth, c, Q⟩ := B
  obtain ⟨hx, hb, hml, ho, hts, hU, hok, hlk, hR, hret, htab, hQ⟩ := C
  subst hp
  intro H locs ls hP hS hl
  exact lv_i2l hx hb hd rfl (k H locs ls hP hS hl)
theorem x_l2i {G : XG} {B : XB} {cc : ByteArray} {own : String} {rm : Room} {nL : Nat} {ret : Option FieldType} {T : Option Value ⊕ String} {Ω9 : XO} (C : XC G B cc own rm nL ret T Ω9) {pc : Nat} {lv : List (Nat × Value)} {st : List Value} {Ω : XO} {cu su : Nat} {x : Int64} (hd : decode cc pc = .ok (.l2i, 1))  {pc2 : Nat} (hp : pc + 1 = pc2) (k : XW G B nL pc2 lv (.int x.toInt32 :: st) Ω cu su) : XW G B nL pc lv (.long x :: st) Ω cu su := by
  obtain ⟨p, e, R, s, m, args, below, meth, c, Q⟩ := B
  obtain ⟨hx, hb, hml, ho, hts, hU, hok, hlk, hR, hret, htab, hQ⟩ := C
  subst hp
  intro H locs ls hP hS hl
  exact lv_l2i hx hb hd rfl (k H locs ls hP hS hl)
theorem x_lshl {G : XG} {B : XB} {cc : ByteArray} {own : String} {rm : Room} {nL : Nat} {ret : Option FieldType} {T : Option Value ⊕ String} {Ω9 : XO} (C : XC G B cc own rm nL ret T Ω9) {pc : Nat} {lv : List (Nat × Value)} {st : List Value} {Ω : XO} {cu su : Nat} {x : Int64} {y : Int32} (hd : decode cc pc = .ok (.lshl, 1))  {pc2 : Nat} (hp : pc + 1 = pc2) (k : XW G B nL pc2 lv (.long (x <<< (y.toInt64 &&& 63)) :: st) Ω cu su) : XW G B nL pc lv (.int y :: .long x :: st) Ω cu su := by
  obtain ⟨p, e, R, s, m, args, below, meth, c, Q⟩ := B
  obtain ⟨hx, hb, hml, ho, hts, hU, hok, hlk, hR, hret, htab, hQ⟩ := C
  subst hp
  intro H locs ls hP hS hl
  exact lv_lshl hx hb hd rfl (k H locs ls hP hS hl)
theorem x_lshr {G : XG} {B : XB} {cc : ByteArray} {own : String} {rm : Room} {nL : Nat} {ret : Option FieldType} {T : Option Value ⊕ String} {Ω9 : XO} (C : XC G B cc own rm nL ret T Ω9) {pc : Nat} {lv : List (Nat × Value)} {st : List Value} {Ω : XO} {cu su : Nat} {x : Int64} {y : Int32} (hd : decode cc pc = .ok (.lshr, 1))  {pc2 : Nat} (hp : pc + 1 = pc2) (k : XW G B nL pc2 lv (.long (x >>> (y.toInt64 &&& 63)) :: st) Ω cu su) : XW G B nL pc lv (.int y :: .long x :: st) Ω cu su := by
  obtain ⟨p, e, R, s, m, args, below, meth, c, Q⟩ := B
  obtain ⟨hx, hb, hml, ho, hts, hU, hok, hlk, hR, hret, htab, hQ⟩ := C
  subst hp
  intro H locs ls hP hS hl
  exact lv_lshr hx hb hd rfl (k H locs ls hP hS hl)
theorem x_lcmp {G : XG} {B : XB} {cc : ByteArray} {own : String} {rm : Room} {nL : Nat} {ret : Option FieldType} {T : Option Value ⊕ String} {Ω9 : XO} (C : XC G B cc own rm nL ret T Ω9) {pc : Nat} {lv : List (Nat × Value)} {st : List Value} {Ω : XO} {cu su : Nat} {x y : Int64} (hd : decode cc pc = .ok (.lcmp, 1))  {pc2 : Nat} (hp : pc + 1 = pc2) (k : XW G B nL pc2 lv (.int (lg_cmp x y) :: st) Ω cu su) : XW G B nL pc lv (.long y :: .long x :: st) Ω cu su := by
  obtain ⟨p, e, R, s, m, args, below, meth, c, Q⟩ := B
  obtain ⟨hx, hb, hml, ho, hts, hU, hok, hlk, hR, hret, htab, hQ⟩ := C
  subst hp
  intro H locs ls hP hS hl
  exact W.lcmp hx hb hd  (k H locs ls hP hS hl)
theorem x_dup {G : XG} {B : XB} {cc : ByteArray} {own : String} {rm : Room} {nL : Nat} {ret : Option FieldType} {T : Option Value ⊕ String} {Ω9 : XO} (C : XC G B cc own rm nL ret T Ω9) {pc : Nat} {lv : List (Nat × Value)} {st : List Value} {Ω : XO} {cu su : Nat} {v : Value} (hd : decode cc pc = .ok (.dup, 1)) (hv : v.category = 1) {pc2 : Nat} (hp : pc + 1 = pc2) (k : XW G B nL pc2 lv (v :: v :: st) Ω cu su) : XW G B nL pc lv (v :: st) Ω cu su := by
  obtain ⟨p, e, R, s, m, args, below, meth, c, Q⟩ := B
  obtain ⟨hx, hb, hml, ho, hts, hU, hok, hlk, hR, hret, htab, hQ⟩ := C
  subst hp
  intro H locs ls hP hS hl
  exact lv_dup hx hb hd hv (k H locs ls hP hS hl)
theorem x_pop {G : XG} {B : XB} {cc : ByteArray} {own : String} {rm : Room} {nL : Nat} {ret : Option FieldType} {T : Option Value ⊕ String} {Ω9 : XO} (C : XC G B cc own rm nL ret T Ω9) {pc : Nat} {lv : List (Nat × Value)} {st : List Value} {Ω : XO} {cu su : Nat} {v : Value} (hd : decode cc pc = .ok (.pop, 1)) (hv : v.category = 1) {pc2 : Nat} (hp : pc + 1 = pc2) (k : XW G B nL pc2 lv st Ω cu su) : XW G B nL pc lv (v :: st) Ω cu su := by
  obtain ⟨p, e, R, s, m, args, below, meth, c, Q⟩ := B
  obtain ⟨hx, hb, hml, ho, hts, hU, hok, hlk, hR, hret, htab, hQ⟩ := C
  subst hp
  intro H locs ls hP hS hl
  exact lv_pop hx hb hd hv (k H locs ls hP hS hl)
theorem x_dup2 {G : XG} {B : XB} {cc : ByteArray} {own : String} {rm : Room} {nL : Nat} {ret : Option FieldType} {T : Option Value ⊕ String} {Ω9 : XO} (C : XC G B cc own rm nL ret T Ω9) {pc : Nat} {lv : List (Nat × Value)} {st : List Value} {Ω : XO} {cu su : Nat} {v v2 : Value} (hd : decode cc pc = .ok (.dup2, 1)) (hv : v.category = 1) (hv2 : v2.category = 1) {pc2 : Nat} (hp : pc + 1 = pc2) (k : XW G B nL pc2 lv (v :: v2 :: v :: v2 :: st) Ω cu su) : XW G B nL pc lv (v :: v2 :: st) Ω cu su := by
  obtain ⟨p, e, R, s, m, args, below, meth, c, Q⟩ := B
  obtain ⟨hx, hb, hml, ho, hts, hU, hok, hlk, hR, hret, htab, hQ⟩ := C
  subst hp
  intro H locs ls hP hS hl
  exact lv_dup2_11 hx hb hd hv hv2 (k H locs ls hP hS hl)
theorem x_null {G : XG} {B : XB} {cc : ByteArray} {own : String} {rm : Room} {nL : Nat} {ret : Option FieldType} {T : Option Value ⊕ String} {Ω9 : XO} (C : XC G B cc own rm nL ret T Ω9) {pc : Nat} {lv : List (Nat × Value)} {st : List Value} {Ω : XO} {cu su : Nat}  (hd : decode cc pc = .ok (.aconst_null, 1))  {pc2 : Nat} (hp : pc + 1 = pc2) (k : XW G B nL pc2 lv (.null :: st) Ω cu su) : XW G B nL pc lv st Ω cu su := by
  obtain ⟨p, e, R, s, m, args, below, meth, c, Q⟩ := B
  obtain ⟨hx, hb, hml, ho, hts, hU, hok, hlk, hR, hret, htab, hQ⟩ := C
  subst hp
  intro H locs ls hP hS hl
  exact lv_null hx hb hd  (k H locs ls hP hS hl)
theorem x_iload_n {G : XG} {B : XB} {cc : ByteArray} {own : String} {rm : Room} {nL : Nat} {ret : Option FieldType} {T : Option Value ⊕ String} {Ω9 : XO} (C : XC G B cc own rm nL ret T Ω9) {pc : Nat} {lv : List (Nat × Value)} {st : List Value} {Ω : XO} {cu su : Nat} {n : Fin 4} {i : Nat} {x : Int32} (hd : decode cc pc = .ok (.iload_n n, 1)) (q : Nat) (hq : lv[q]? = some (i, .int x)) (hi : (n : Nat) = i) {pc2 : Nat} (hp : pc + 1 = pc2) (k : XW G B nL pc2 lv (.int x :: st) Ω cu su) : XW G B nL pc lv st Ω cu su := by
  obtain ⟨p, e, R, s, m, args, below, meth, c, Q⟩ := B
  obtain ⟨hx, hb, hml, ho, hts, hU, hok, hlk, hR, hret, htab, hQ⟩ := C
  subst hp
  intro H locs ls hP hS hl
  exact lv_iload_n hx hb hd hi (lv_at hl q hq) (k H locs ls hP hS hl)
theorem x_iload {G : XG} {B : XB} {cc : ByteArray} {own : String} {rm : Room} {nL : Nat} {ret : Option FieldType} {T : Option Value ⊕ String} {Ω9 : XO} (C : XC G B cc own rm nL ret T Ω9) {pc : Nat} {lv : List (Nat × Value)} {st : List Value} {Ω : XO} {cu su : Nat} {i : Nat} {x : Int32} (hd : decode cc pc = .ok (.iload i, 2)) (q : Nat) (hq : lv[q]? = some (i, .int x)) {pc2 : Nat} (hp : pc + 2 = pc2) (k : XW G B nL pc2 lv (.int x :: st) Ω cu su) : XW G B nL pc lv st Ω cu su := by
  obtain ⟨p, e, R, s, m, args, below, meth, c, Q⟩ := B
  obtain ⟨hx, hb, hml, ho, hts, hU, hok, hlk, hR, hret, htab, hQ⟩ := C
  subst hp
  intro H locs ls hP hS hl
  exact lv_iload hx hb hd (lv_at hl q hq) (k H locs ls hP hS hl)
theorem x_aload_n {G : XG} {B : XB} {cc : ByteArray} {own : String} {rm : Room} {nL : Nat} {ret : Option FieldType} {T : Option Value ⊕ String} {Ω9 : XO} (C : XC G B cc own rm nL ret T Ω9) {pc : Nat} {lv : List (Nat × Value)} {st : List Value} {Ω : XO} {cu su : Nat} {n : Fin 4} {i : Nat} {x : Nat} (hd : decode cc pc = .ok (.aload_n n, 1)) (q : Nat) (hq : lv[q]? = some (i, .ref x)) (hi : (n : Nat) = i) {pc2 : Nat} (hp : pc + 1 = pc2) (k : XW G B nL pc2 lv (.ref x :: st) Ω cu su) : XW G B nL pc lv st Ω cu su := by
  obtain ⟨p, e, R, s, m, args, below, meth, c, Q⟩ := B
  obtain ⟨hx, hb, hml, ho, hts, hU, hok, hlk, hR, hret, htab, hQ⟩ := C
  subst hp
  intro H locs ls hP hS hl
  exact lv_aload_n hx hb hd hi (lv_at hl q hq) (k H locs ls hP hS hl)
theorem x_aload {G : XG} {B : XB} {cc : ByteArray} {own : String} {rm : Room} {nL : Nat} {ret : Option FieldType} {T : Option Value ⊕ String} {Ω9 : XO} (C : XC G B cc own rm nL ret T Ω9) {pc : Nat} {lv : List (Nat × Value)} {st : List Value} {Ω : XO} {cu su : Nat} {i : Nat} {x : Nat} (hd : decode cc pc = .ok (.aload i, 2)) (q : Nat) (hq : lv[q]? = some (i, .ref x)) {pc2 : Nat} (hp : pc + 2 = pc2) (k : XW G B nL pc2 lv (.ref x :: st) Ω cu su) : XW G B nL pc lv st Ω cu su := by
  obtain ⟨p, e, R, s, m, args, below, meth, c, Q⟩ := B
  obtain ⟨hx, hb, hml, ho, hts, hU, hok, hlk, hR, hret, htab, hQ⟩ := C
  subst hp
  intro H locs ls hP hS hl
  exact lv_aload hx hb hd (lv_at hl q hq) (k H locs ls hP hS hl)
theorem x_lload_n {G : XG} {B : XB} {cc : ByteArray} {own : String} {rm : Room} {nL : Nat} {ret : Option FieldType} {T : Option Value ⊕ String} {Ω9 : XO} (C : XC G B cc own rm nL ret T Ω9) {pc : Nat} {lv : List (Nat × Value)} {st : List Value} {Ω : XO} {cu su : Nat} {n : Fin 4} {i : Nat} {x : Int64} (hd : decode cc pc = .ok (.lload_n n, 1)) (q : Nat) (hq : lv[q]? = some (i, .long x)) (hi : (n : Nat) = i) {pc2 : Nat} (hp : pc + 1 = pc2) (k : XW G B nL pc2 lv (.long x :: st) Ω cu su) : XW G B nL pc lv st Ω cu su := by
  obtain ⟨p, e, R, s, m, args, below, meth, c, Q⟩ := B
  obtain ⟨hx, hb, hml, ho, hts, hU, hok, hlk, hR, hret, htab, hQ⟩ := C
  subst hp
  intro H locs ls hP hS hl
  exact lv_lload_n hx hb hd hi (lv_at hl q hq) (k H locs ls hP hS hl)
theorem x_lload {G : XG} {B : XB} {cc : ByteArray} {own : String} {rm : Room} {nL : Nat} {ret : Option FieldType} {T : Option Value ⊕ String} {Ω9 : XO} (C : XC G B cc own rm nL ret T Ω9) {pc : Nat} {lv : List (Nat × Value)} {st : List Value} {Ω : XO} {cu su : Nat} {i : Nat} {x : Int64} (hd : decode cc pc = .ok (.lload i, 2)) (q : Nat) (hq : lv[q]? = some (i, .long x)) {pc2 : Nat} (hp : pc + 2 = pc2) (k : XW G B nL pc2 lv (.long x :: st) Ω cu su) : XW G B nL pc lv st Ω cu su := by
  obtain ⟨p, e, R, s, m, args, below, meth, c, Q⟩ := B
  obtain ⟨hx, hb, hml, ho, hts, hU, hok, hlk, hR, hret, htab, hQ⟩ := C
  subst hp
  intro H locs ls hP hS hl
  exact lv_lload hx hb hd (lv_at hl q hq) (k H locs ls hP hS hl)
theorem x_aloadN {G : XG} {B : XB} {cc : ByteArray} {own : String} {rm : Room} {nL : Nat} {ret : Option FieldType} {T : Option Value ⊕ String} {Ω9 : XO} (C : XC G B cc own rm nL ret T Ω9) {pc : Nat} {lv : List (Nat × Value)} {st : List Value} {Ω : XO} {cu su : Nat} {i : Nat} (hd : decode cc pc = .ok (.aload i, 2)) (q : Nat) (hq : lv[q]? = some (i, .null)) {pc2 : Nat} (hp : pc + 2 = pc2) (k : XW G B nL pc2 lv (.null :: st) Ω cu su) : XW G B nL pc lv st Ω cu su := by
  obtain ⟨p, e, R, s, m, args, below, meth, c, Q⟩ := B
  obtain ⟨hx, hb, hml, ho, hts, hU, hok, hlk, hR, hret, htab, hQ⟩ := C
  subst hp
  intro H locs ls hP hS hl
  exact lv_aloadN hx hb hd (lv_at hl q hq) (k H locs ls hP hS hl)
theorem x_aload_nN {G : XG} {B : XB} {cc : ByteArray} {own : String} {rm : Room} {nL : Nat} {ret : Option FieldType} {T : Option Value ⊕ String} {Ω9 : XO} (C : XC G B cc own rm nL ret T Ω9) {pc : Nat} {lv : List (Nat × Value)} {st : List Value} {Ω : XO} {cu su : Nat} {n : Fin 4} {i : Nat} (hd : decode cc pc = .ok (.aload_n n, 1)) (q : Nat) (hq : lv[q]? = some (i, .null)) (hi : (n : Nat) = i) {pc2 : Nat} (hp : pc + 1 = pc2) (k : XW G B nL pc2 lv (.null :: st) Ω cu su) : XW G B nL pc lv st Ω cu su := by
  obtain ⟨p, e, R, s, m, args, below, meth, c, Q⟩ := B
  obtain ⟨hx, hb, hml, ho, hts, hU, hok, hlk, hR, hret, htab, hQ⟩ := C
  subst hp
  intro H locs ls hP hS hl
  exact lv_aload_nN hx hb hd hi (lv_at hl q hq) (k H locs ls hP hS hl)
theorem x_istore_n {G : XG} {B : XB} {cc : ByteArray} {own : String} {rm : Room} {nL : Nat} {ret : Option FieldType} {T : Option Value ⊕ String} {Ω9 : XO} (C : XC G B cc own rm nL ret T Ω9) {pc : Nat} {lv : List (Nat × Value)} {st : List Value} {Ω : XO} {cu su : Nat} {n : Fin 4} {i : Nat} {x : Int32} {lv2 : List (Nat × Value)} (hd : decode cc pc = .ok (.istore_n n, 1)) (hi : (n : Nat) = i) (hn : i < nL) (h2 : (i, Value.int x) :: lv.filter (fun q => !(q.1 == i) && !(q.1 + 1 == i && q.2.category == 2)) = lv2) {pc2 : Nat} (hp : pc + 1 = pc2) (k : XW G B nL pc2 lv2 st Ω cu su) : XW G B nL pc lv (.int x :: st) Ω cu su := by
  obtain ⟨p, e, R, s, m, args, below, meth, c, Q⟩ := B
  obtain ⟨hx, hb, hml, ho, hts, hU, hok, hlk, hR, hret, htab, hQ⟩ := C
  subst hp
  intro H locs ls hP hS hl
  exact lv_istore_n hx hb hd hi hl hn h2 (fun ls2 hl2 => k H locs ls2 hP hS hl2)
theorem x_istore {G : XG} {B : XB} {cc : ByteArray} {own : String} {rm : Room} {nL : Nat} {ret : Option FieldType} {T : Option Value ⊕ String} {Ω9 : XO} (C : XC G B cc own rm nL ret T Ω9) {pc : Nat} {lv : List (Nat × Value)} {st : List Value} {Ω : XO} {cu su : Nat} {i : Nat} {x : Int32} {lv2 : List (Nat × Value)} (hd : decode cc pc = .ok (.istore i, 2)) (hn : i < nL) (h2 : (i, Value.int x) :: lv.filter (fun q => !(q.1 == i) && !(q.1 + 1 == i && q.2.category == 2)) = lv2) {pc2 : Nat} (hp : pc + 2 = pc2) (k : XW G B nL pc2 lv2 st Ω cu su) : XW G B nL pc lv (.int x :: st) Ω cu su := by
  obtain ⟨p, e, R, s, m, args, below, meth, c, Q⟩ := B
  obtain ⟨hx, hb, hml, ho, hts, hU, hok, hlk, hR, hret, htab, hQ⟩ := C
  subst hp
  intro H locs ls hP hS hl
  exact lv_istore hx hb hd hl hn h2 (fun ls2 hl2 => k H locs ls2 hP hS hl2)
theorem x_astore_n {G : XG} {B : XB} {cc : ByteArray} {own : String} {rm : Room} {nL : Nat} {ret : Option FieldType} {T : Option Value ⊕ String} {Ω9 : XO} (C : XC G B cc own rm nL ret T Ω9) {pc : Nat} {lv : List (Nat × Value)} {st : List Value} {Ω : XO} {cu su : Nat} {n : Fin 4} {i : Nat} {x : Nat} {lv2 : List (Nat × Value)} (hd : decode cc pc = .ok (.astore_n n, 1)) (hi : (n : Nat) = i) (hn : i < nL) (h2 : (i, Value.ref x) :: lv.filter (fun q => !(q.1 == i) && !(q.1 + 1 == i && q.2.category == 2)) = lv2) {pc2 : Nat} (hp : pc + 1 = pc2) (k : XW G B nL pc2 lv2 st Ω cu su) : XW G B nL pc lv (.ref x :: st) Ω cu su := by
  obtain ⟨p, e, R, s, m, args, below, meth, c, Q⟩ := B
  obtain ⟨hx, hb, hml, ho, hts, hU, hok, hlk, hR, hret, htab, hQ⟩ := C
  subst hp
  intro H locs ls hP hS hl
  exact lv_astore_n hx hb hd hi hl hn h2 (fun ls2 hl2 => k H locs ls2 hP hS hl2)
theorem x_astore {G : XG} {B : XB} {cc : ByteArray} {own : String} {rm : Room} {nL : Nat} {ret : Option FieldType} {T : Option Value ⊕ String} {Ω9 : XO} (C : XC G B cc own rm nL ret T Ω9) {pc : Nat} {lv : List (Nat × Value)} {st : List Value} {Ω : XO} {cu su : Nat} {i : Nat} {x : Nat} {lv2 : List (Nat × Value)} (hd : decode cc pc = .ok (.astore i, 2)) (hn : i < nL) (h2 : (i, Value.ref x) :: lv.filter (fun q => !(q.1 == i) && !(q.1 + 1 == i && q.2.category == 2)) = lv2) {pc2 : Nat} (hp : pc + 2 = pc2) (k : XW G B nL pc2 lv2 st Ω cu su) : XW G B nL pc lv (.ref x :: st) Ω cu su := by
  obtain ⟨p, e, R, s, m, args, below, meth, c, Q⟩ := B
  obtain ⟨hx, hb, hml, ho, hts, hU, hok, hlk, hR, hret, htab, hQ⟩ := C
  subst hp
  intro H locs ls hP hS hl
  exact lv_astore hx hb hd hl hn h2 (fun ls2 hl2 => k H locs ls2 hP hS hl2)
theorem x_astore_nN {G : XG} {B : XB} {cc : ByteArray} {own : String} {rm : Room} {nL : Nat} {ret : Option FieldType} {T : Option Value ⊕ String} {Ω9 : XO} (C : XC G B cc own rm nL ret T Ω9) {pc : Nat} {lv : List (Nat × Value)} {st : List Value} {Ω : XO} {cu su : Nat} {n : Fin 4} {i : Nat}  {lv2 : List (Nat × Value)} (hd : decode cc pc = .ok (.astore_n n, 1)) (hi : (n : Nat) = i) (hn : i < nL) (h2 : (i, Value.null) :: lv.filter (fun q => !(q.1 == i) && !(q.1 + 1 == i && q.2.category == 2)) = lv2) {pc2 : Nat} (hp : pc + 1 = pc2) (k : XW G B nL pc2 lv2 st Ω cu su) : XW G B nL pc lv (.null :: st) Ω cu su := by
  obtain ⟨p, e, R, s, m, args, below, meth, c, Q⟩ := B
  obtain ⟨hx, hb, hml, ho, hts, hU, hok, hlk, hR, hret, htab, hQ⟩ := C
  subst hp
  intro H locs ls hP hS hl
  exact lv_astore_nN hx hb hd hi hl hn h2 (fun ls2 hl2 => k H locs ls2 hP hS hl2)
theorem x_astoreN {G : XG} {B : XB} {cc : ByteArray} {own : String} {rm : Room} {nL : Nat} {ret : Option FieldType} {T : Option Value ⊕ String} {Ω9 : XO} (C : XC G B cc own rm nL ret T Ω9) {pc : Nat} {lv : List (Nat × Value)} {st : List Value} {Ω : XO} {cu su : Nat} {i : Nat}  {lv2 : List (Nat × Value)} (hd : decode cc pc = .ok (.astore i, 2)) (hn : i < nL) (h2 : (i, Value.null) :: lv.filter (fun q => !(q.1 == i) && !(q.1 + 1 == i && q.2.category == 2)) = lv2) {pc2 : Nat} (hp : pc + 2 = pc2) (k : XW G B nL pc2 lv2 st Ω cu su) : XW G B nL pc lv (.null :: st) Ω cu su := by
  obtain ⟨p, e, R, s, m, args, below, meth, c, Q⟩ := B
  obtain ⟨hx, hb, hml, ho, hts, hU, hok, hlk, hR, hret, htab, hQ⟩ := C
  subst hp
  intro H locs ls hP hS hl
  exact lv_astoreN hx hb hd hl hn h2 (fun ls2 hl2 => k H locs ls2 hP hS hl2)
theorem x_iinc {G : XG} {B : XB} {cc : ByteArray} {own : String} {rm : Room} {nL : Nat} {ret : Option FieldType} {T : Option Value ⊕ String} {Ω9 : XO} (C : XC G B cc own rm nL ret T Ω9) {pc : Nat} {lv : List (Nat × Value)} {st : List Value} {Ω : XO} {cu su : Nat} {i : Nat} {n : Int} {x v : Int32} {lv2 : List (Nat × Value)} (hd : decode cc pc = .ok (.iinc i n, 3)) (q : Nat) (hq : lv[q]? = some (i, .int x)) (hv : x + Int32.ofInt n = v) (hn : i < nL) (h2 : (i, Value.int v) :: lv.filter (fun q => !(q.1 == i) && !(q.1 + 1 == i && q.2.category == 2)) = lv2) {pc2 : Nat} (hp : pc + 3 = pc2) (k : XW G B nL pc2 lv2 st Ω cu su) : XW G B nL pc lv st Ω cu su := by
  obtain ⟨p, e, R, s, m, args, below, meth, c, Q⟩ := B
  obtain ⟨hx, hb, hml, ho, hts, hU, hok, hlk, hR, hret, htab, hQ⟩ := C
  subst hp
  intro H locs ls hP hS hl
  exact lv_iinc hx hb hd hl hq hv hn h2 (fun ls2 hl2 => k H locs ls2 hP hS hl2)
theorem x_sub {G : XG} {B : XB} {cc : ByteArray} {own : String} {rm : Room} {nL : Nat} {ret : Option FieldType} {T : Option Value ⊕ String} {Ω9 : XO} (C : XC G B cc own rm nL ret T Ω9) {pc : Nat} {lv : List (Nat × Value)} {st : List Value} {Ω : XO} {cu su : Nat} {lv2 : List (Nat × Value)} (ks : List Nat) (h2 : lv_pick lv ks = lv2) (k : XW G B nL pc lv2 st Ω cu su) : XW G B nL pc lv st Ω cu su := by
  obtain ⟨p, e, R, s, m, args, below, meth, c, Q⟩ := B
  obtain ⟨hx, hb, hml, ho, hts, hU, hok, hlk, hR, hret, htab, hQ⟩ := C
  intro H locs ls hP hS hl
  exact k H locs ls hP hS (lv_sub hl ks h2)
theorem x_if_eq {G : XG} {B : XB} {cc : ByteArray} {own : String} {rm : Room} {nL : Nat} {ret : Option FieldType} {T : Option Value ⊕ String} {Ω9 : XO} (C : XC G B cc own rm nL ret T Ω9) {pc : Nat} {lv : List (Nat × Value)} {st : List Value} {Ω : XO} {cu su : Nat} {x : Int32} {off : Int} {tgt : Nat} (hd : decode cc pc = .ok (.ifCond .eq off, 3)) (ht : (pc : Int) + off = (tgt : Int)) {pc2 : Nat} (hp : pc + 3 = pc2) (kt : x = 0 → XW G B nL tgt lv st Ω cu su) (kf : ¬ x = 0 → XW G B nL pc2 lv st Ω cu su) : XW G B nL pc lv (.int x :: st) Ω cu su := by
  obtain ⟨p, e, R, s, m, args, below, meth, c, Q⟩ := B
  obtain ⟨hx, hb, hml, ho, hts, hU, hok, hlk, hR, hret, htab, hQ⟩ := C
  subst hp
  intro H locs ls hP hS hl
  exact lv_if_eq hx hb hd ht (fun h => kt h H locs ls hP hS hl) (fun h => kf h H locs ls hP hS hl)
theorem x_if_ne {G : XG} {B : XB} {cc : ByteArray} {own : String} {rm : Room} {nL : Nat} {ret : Option FieldType} {T : Option Value ⊕ String} {Ω9 : XO} (C : XC G B cc own rm nL ret T Ω9) {pc : Nat} {lv : List (Nat × Value)} {st : List Value} {Ω : XO} {cu su : Nat} {x : Int32} {off : Int} {tgt : Nat} (hd : decode cc pc = .ok (.ifCond .ne off, 3)) (ht : (pc : Int) + off = (tgt : Int)) {pc2 : Nat} (hp : pc + 3 = pc2) (kt : ¬ x = 0 → XW G B nL tgt lv st Ω cu su) (kf : x = 0 → XW G B nL pc2 lv st Ω cu su) : XW G B nL pc lv (.int x :: st) Ω cu su := by
  obtain ⟨p, e, R, s, m, args, below, meth, c, Q⟩ := B
  obtain ⟨hx, hb, hml, ho, hts, hU, hok, hlk, hR, hret, htab, hQ⟩ := C
  subst hp
  intro H locs ls hP hS hl
  exact lv_if_ne hx hb hd ht (fun h => kt h H locs ls hP hS hl) (fun h => kf h H locs ls hP hS hl)
theorem x_if_lt {G : XG} {B : XB} {cc : ByteArray} {own : String} {rm : Room} {nL : Nat} {ret : Option FieldType} {T : Option Value ⊕ String} {Ω9 : XO} (C : XC G B cc own rm nL ret T Ω9) {pc : Nat} {lv : List (Nat × Value)} {st : List Value} {Ω : XO} {cu su : Nat} {x : Int32} {off : Int} {tgt : Nat} (hd : decode cc pc = .ok (.ifCond .lt off, 3)) (ht : (pc : Int) + off = (tgt : Int)) {pc2 : Nat} (hp : pc + 3 = pc2) (kt : x < 0 → XW G B nL tgt lv st Ω cu su) (kf : ¬ x < 0 → XW G B nL pc2 lv st Ω cu su) : XW G B nL pc lv (.int x :: st) Ω cu su := by
  obtain ⟨p, e, R, s, m, args, below, meth, c, Q⟩ := B
  obtain ⟨hx, hb, hml, ho, hts, hU, hok, hlk, hR, hret, htab, hQ⟩ := C
  subst hp
  intro H locs ls hP hS hl
  exact lv_if_lt hx hb hd ht (fun h => kt h H locs ls hP hS hl) (fun h => kf h H locs ls hP hS hl)
theorem x_if_ge {G : XG} {B : XB} {cc : ByteArray} {own : String} {rm : Room} {nL : Nat} {ret : Option FieldType} {T : Option Value ⊕ String} {Ω9 : XO} (C : XC G B cc own rm nL ret T Ω9) {pc : Nat} {lv : List (Nat × Value)} {st : List Value} {Ω : XO} {cu su : Nat} {x : Int32} {off : Int} {tgt : Nat} (hd : decode cc pc = .ok (.ifCond .ge off, 3)) (ht : (pc : Int) + off = (tgt : Int)) {pc2 : Nat} (hp : pc + 3 = pc2) (kt : 0 ≤ x → XW G B nL tgt lv st Ω cu su) (kf : ¬ 0 ≤ x → XW G B nL pc2 lv st Ω cu su) : XW G B nL pc lv (.int x :: st) Ω cu su := by
  obtain ⟨p, e, R, s, m, args, below, meth, c, Q⟩ := B
  obtain ⟨hx, hb, hml, ho, hts, hU, hok, hlk, hR, hret, htab, hQ⟩ := C
  subst hp
  intro H locs ls hP hS hl
  exact lv_if_ge hx hb hd ht (fun h => kt h H locs ls hP hS hl) (fun h => kf h H locs ls hP hS hl)
theorem x_if_gt {G : XG} {B : XB} {cc : ByteArray} {own : String} {rm : Room} {nL : Nat} {ret : Option FieldType} {T : Option Value ⊕ String} {Ω9 : XO} (C : XC G B cc own rm nL ret T Ω9) {pc : Nat} {lv : List (Nat × Value)} {st : List Value} {Ω : XO} {cu su : Nat} {x : Int32} {off : Int} {tgt : Nat} (hd : decode cc pc = .ok (.ifCond .gt off, 3)) (ht : (pc : Int) + off = (tgt : Int)) {pc2 : Nat} (hp : pc + 3 = pc2) (kt : 0 < x → XW G B nL tgt lv st Ω cu su) (kf : ¬ 0 < x → XW G B nL pc2 lv st Ω cu su) : XW G B nL pc lv (.int x :: st) Ω cu su := by
  obtain ⟨p, e, R, s, m, args, below, meth, c, Q⟩ := B
  obtain ⟨hx, hb, hml, ho, hts, hU, hok, hlk, hR, hret, htab, hQ⟩ := C
  subst hp
  intro H locs ls hP hS hl
  exact lv_if_gt hx hb hd ht (fun h => kt h H locs ls hP hS hl) (fun h => kf h H locs ls hP hS hl)
theorem x_if_le {G : XG} {B : XB} {cc : ByteArray} {own : String} {rm : Room} {nL : Nat} {ret : Option FieldType} {T : Option Value ⊕ String} {Ω9 : XO} (C : XC G B cc own rm nL ret T Ω9) {pc : Nat} {lv : List (Nat × Value)} {st : List Value} {Ω : XO} {cu su : Nat} {x : Int32} {off : Int} {tgt : Nat} (hd : decode cc pc = .ok (.ifCond .le off, 3)) (ht : (pc : Int) + off = (tgt : Int)) {pc2 : Nat} (hp : pc + 3 = pc2) (kt : x ≤ 0 → XW G B nL tgt lv st Ω cu su) (kf : ¬ x ≤ 0 → XW G B nL pc2 lv st Ω cu su) : XW G B nL pc lv (.int x :: st) Ω cu su := by
  obtain ⟨p, e, R, s, m, args, below, meth, c, Q⟩ := B
  obtain ⟨hx, hb, hml, ho, hts, hU, hok, hlk, hR, hret, htab, hQ⟩ := C
  subst hp
  intro H locs ls hP hS hl
  exact lv_if_le hx hb hd ht (fun h => kt h H locs ls hP hS hl) (fun h => kf h H locs ls hP hS hl)
theorem x_icmp_eq {G : XG} {B : XB} {cc : ByteArray} {own : String} {rm : Room} {nL : Nat} {ret : Option FieldType} {T : Option Value ⊕ String} {Ω9 : XO} (C : XC G B cc own rm nL ret T Ω9) {pc : Nat} {lv : List (Nat × Value)} {st : List Value} {Ω : XO} {cu su : Nat} {x y : Int32} {off : Int} {tgt : Nat} (hd : decode cc pc = .ok (.if_icmp .eq off, 3)) (ht : (pc : Int) + off = (tgt : Int)) {pc2 : Nat} (hp : pc + 3 = pc2) (kt : x = y → XW G B nL tgt lv st Ω cu su) (kf : ¬ x = y → XW G B nL pc2 lv st Ω cu su) : XW G B nL pc lv (.int y :: .int x :: st) Ω cu su := by
  obtain ⟨p, e, R, s, m, args, below, meth, c, Q⟩ := B
  obtain ⟨hx, hb, hml, ho, hts, hU, hok, hlk, hR, hret, htab, hQ⟩ := C
  subst hp
  intro H locs ls hP hS hl
  exact lv_icmp_eq hx hb hd ht (fun h => kt h H locs ls hP hS hl) (fun h => kf h H locs ls hP hS hl)
theorem x_icmp_ne {G : XG} {B : XB} {cc : ByteArray} {own : String} {rm : Room} {nL : Nat} {ret : Option FieldType} {T : Option Value ⊕ String} {Ω9 : XO} (C : XC G B cc own rm nL ret T Ω9) {pc : Nat} {lv : List (Nat × Value)} {st : List Value} {Ω : XO} {cu su : Nat} {x y : Int32} {off : Int} {tgt : Nat} (hd : decode cc pc = .ok (.if_icmp .ne off, 3)) (ht : (pc : Int) + off = (tgt : Int)) {pc2 : Nat} (hp : pc + 3 = pc2) (kt : ¬ x = y → XW G B nL tgt lv st Ω cu su) (kf : x = y → XW G B nL pc2 lv st Ω cu su) : XW G B nL pc lv (.int y :: .int x :: st) Ω cu su := by
  obtain ⟨p, e, R, s, m, args, below, meth, c, Q⟩ := B
  obtain ⟨hx, hb, hml, ho, hts, hU, hok, hlk, hR, hret, htab, hQ⟩ := C
  subst hp
  intro H locs ls hP hS hl
  exact lv_icmp_ne hx hb hd ht (fun h => kt h H locs ls hP hS hl) (fun h => kf h H locs ls hP hS hl)
theorem x_icmp_lt {G : XG} {B : XB} {cc : ByteArray} {own : String} {rm : Room} {nL : Nat} {ret : Option FieldType} {T : Option Value ⊕ String} {Ω9 : XO} (C : XC G B cc own rm nL ret T Ω9) {pc : Nat} {lv : List (Nat × Value)} {st : List Value} {Ω : XO} {cu su : Nat} {x y : Int32} {off : Int} {tgt : Nat} (hd : decode cc pc = .ok (.if_icmp .lt off, 3)) (ht : (pc : Int) + off = (tgt : Int)) {pc2 : Nat} (hp : pc + 3 = pc2) (kt : x < y → XW G B nL tgt lv st Ω cu su) (kf : ¬ x < y → XW G B nL pc2 lv st Ω cu su) : XW G B nL pc lv (.int y :: .int x :: st) Ω cu su := by
  obtain ⟨p, e, R, s, m, args, below, meth, c, Q⟩ := B
  obtain ⟨hx, hb, hml, ho, hts, hU, hok, hlk, hR, hret, htab, hQ⟩ := C
  subst hp
  intro H locs ls hP hS hl
  exact lv_icmp_lt hx hb hd ht (fun h => kt h H locs ls hP hS hl) (fun h => kf h H locs ls hP hS hl)
theorem x_icmp_ge {G : XG} {B : XB} {cc : ByteArray} {own : String} {rm : Room} {nL : Nat} {ret : Option FieldType} {T : Option Value ⊕ String} {Ω9 : XO} (C : XC G B cc own rm nL ret T Ω9) {pc : Nat} {lv : List (Nat × Value)} {st : List Value} {Ω : XO} {cu su : Nat} {x y : Int32} {off : Int} {tgt : Nat} (hd : decode cc pc = .ok (.if_icmp .ge off, 3)) (ht : (pc : Int) + off = (tgt : Int)) {pc2 : Nat} (hp : pc + 3 = pc2) (kt : y ≤ x → XW G B nL tgt lv st Ω cu su) (kf : ¬ y ≤ x → XW G B nL pc2 lv st Ω cu su) : XW G B nL pc lv (.int y :: .int x :: st) Ω cu su := by
  obtain ⟨p, e, R, s, m, args, below, meth, c, Q⟩ := B
  obtain ⟨hx, hb, hml, ho, hts, hU, hok, hlk, hR, hret, htab, hQ⟩ := C
  subst hp
  intro H locs ls hP hS hl
  exact lv_icmp_ge hx hb hd ht (fun h => kt h H locs ls hP hS hl) (fun h => kf h H locs ls hP hS hl)
theorem x_icmp_gt {G : XG} {B : XB} {cc : ByteArray} {own : String} {rm : Room} {nL : Nat} {ret : Option FieldType} {T : Option Value ⊕ String} {Ω9 : XO} (C : XC G B cc own rm nL ret T Ω9) {pc : Nat} {lv : List (Nat × Value)} {st : List Value} {Ω : XO} {cu su : Nat} {x y : Int32} {off : Int} {tgt : Nat} (hd : decode cc pc = .ok (.if_icmp .gt off, 3)) (ht : (pc : Int) + off = (tgt : Int)) {pc2 : Nat} (hp : pc + 3 = pc2) (kt : y < x → XW G B nL tgt lv st Ω cu su) (kf : ¬ y < x → XW G B nL pc2 lv st Ω cu su) : XW G B nL pc lv (.int y :: .int x :: st) Ω cu su := by
  obtain ⟨p, e, R, s, m, args, below, meth, c, Q⟩ := B
  obtain ⟨hx, hb, hml, ho, hts, hU, hok, hlk, hR, hret, htab, hQ⟩ := C
  subst hp
  intro H locs ls hP hS hl
  exact lv_icmp_gt hx hb hd ht (fun h => kt h H locs ls hP hS hl) (fun h => kf h H locs ls hP hS hl)
theorem x_icmp_le {G : XG} {B : XB} {cc : ByteArray} {own : String} {rm : Room} {nL : Nat} {ret : Option FieldType} {T : Option Value ⊕ String} {Ω9 : XO} (C : XC G B cc own rm nL ret T Ω9) {pc : Nat} {lv : List (Nat × Value)} {st : List Value} {Ω : XO} {cu su : Nat} {x y : Int32} {off : Int} {tgt : Nat} (hd : decode cc pc = .ok (.if_icmp .le off, 3)) (ht : (pc : Int) + off = (tgt : Int)) {pc2 : Nat} (hp : pc + 3 = pc2) (kt : x ≤ y → XW G B nL tgt lv st Ω cu su) (kf : ¬ x ≤ y → XW G B nL pc2 lv st Ω cu su) : XW G B nL pc lv (.int y :: .int x :: st) Ω cu su := by
  obtain ⟨p, e, R, s, m, args, below, meth, c, Q⟩ := B
  obtain ⟨hx, hb, hml, ho, hts, hU, hok, hlk, hR, hret, htab, hQ⟩ := C
  subst hp
  intro H locs ls hP hS hl
  exact lv_icmp_le hx hb hd ht (fun h => kt h H locs ls hP hS hl) (fun h => kf h H locs ls hP hS hl)
theorem x_goto {G : XG} {B : XB} {cc : ByteArray} {own : String} {rm : Room} {nL : Nat} {ret : Option FieldType} {T : Option Value ⊕ String} {Ω9 : XO} (C : XC G B cc own rm nL ret T Ω9) {pc : Nat} {lv : List (Nat × Value)} {st : List Value} {Ω : XO} {cu su : Nat} {off : Int} {tgt : Nat} (hd : decode cc pc = .ok (.goto off, 3)) (ht : (pc : Int) + off = (tgt : Int)) (k : XW G B nL tgt lv st Ω cu su) : XW G B nL pc lv st Ω cu su := by
  obtain ⟨p, e, R, s, m, args, below, meth, c, Q⟩ := B
  obtain ⟨hx, hb, hml, ho, hts, hU, hok, hlk, hR, hret, htab, hQ⟩ := C
  intro H locs ls hP hS hl
  exact lv_goto hx hb hd ht (k H locs ls hP hS hl)
theorem x_ifnonnull {G : XG} {B : XB} {cc : ByteArray} {own : String} {rm : Room} {nL : Nat} {ret : Option FieldType} {T : Option Value ⊕ String} {Ω9 : XO} (C : XC G B cc own rm nL ret T Ω9) {pc : Nat} {lv : List (Nat × Value)} {st : List Value} {Ω : XO} {cu su : Nat} {x : Nat} {off : Int} {tgt : Nat} (hd : decode cc pc = .ok (.ifnonnull off, 3)) (ht : (pc : Int) + off = (tgt : Int)) (k : XW G B nL tgt lv st Ω cu su) : XW G B nL pc lv (.ref x :: st) Ω cu su := by
  obtain ⟨p, e, R, s, m, args, below, meth, c, Q⟩ := B
  obtain ⟨hx, hb, hml, ho, hts, hU, hok, hlk, hR, hret, htab, hQ⟩ := C
  intro H locs ls hP hS hl
  exact lv_ifnonnull hx hb hd ht (k H locs ls hP hS hl)
theorem x_ifnull {G : XG} {B : XB} {cc : ByteArray} {own : String} {rm : Room} {nL : Nat} {ret : Option FieldType} {T : Option Value ⊕ String} {Ω9 : XO} (C : XC G B cc own rm nL ret T Ω9) {pc : Nat} {lv : List (Nat × Value)} {st : List Value} {Ω : XO} {cu su : Nat} {x : Nat} {off : Int} (hd : decode cc pc = .ok (.ifnull off, 3)) {pc2 : Nat} (hp : pc + 3 = pc2) (k : XW G B nL pc2 lv st Ω cu su) : XW G B nL pc lv (.ref x :: st) Ω cu su := by
  obtain ⟨p, e, R, s, m, args, below, meth, c, Q⟩ := B
  obtain ⟨hx, hb, hml, ho, hts, hU, hok, hlk, hR, hret, htab, hQ⟩ := C
  subst hp
  intro H locs ls hP hS hl
  exact lv_ifnull hx hb hd (k H locs ls hP hS hl)
theorem x_ifnullN {G : XG} {B : XB} {cc : ByteArray} {own : String} {rm : Room} {nL : Nat} {ret : Option FieldType} {T : Option Value ⊕ String} {Ω9 : XO} (C : XC G B cc own rm nL ret T Ω9) {pc : Nat} {lv : List (Nat × Value)} {st : List Value} {Ω : XO} {cu su : Nat} {off : Int} {tgt : Nat} (hd : decode cc pc = .ok (.ifnull off, 3)) (ht : (pc : Int) + off = (tgt : Int)) (k : XW G B nL tgt lv st Ω cu su) : XW G B nL pc lv (.null :: st) Ω cu su := by
  obtain ⟨p, e, R, s, m, args, below, meth, c, Q⟩ := B
  obtain ⟨hx, hb, hml, ho, hts, hU, hok, hlk, hR, hret, htab, hQ⟩ := C
  intro H locs ls hP hS hl
  exact lv_ifnullN hx hb hd ht (k H locs ls hP hS hl)
theorem x_ifnonnullN {G : XG} {B : XB} {cc : ByteArray} {own : String} {rm : Room} {nL : Nat} {ret : Option FieldType} {T : Option Value ⊕ String} {Ω9 : XO} (C : XC G B cc own rm nL ret T Ω9) {pc : Nat} {lv : List (Nat × Value)} {st : List Value} {Ω : XO} {cu su : Nat} {off : Int} (hd : decode cc pc = .ok (.ifnonnull off, 3)) {pc2 : Nat} (hp : pc + 3 = pc2) (k : XW G B nL pc2 lv st Ω cu su) : XW G B nL pc lv (.null :: st) Ω cu su := by
  obtain ⟨p, e, R, s, m, args, below, meth, c, Q⟩ := B
  obtain ⟨hx, hb, hml, ho, hts, hU, hok, hlk, hR, hret, htab, hQ⟩ := C
  subst hp
  intro H locs ls hP hS hl
  exact lv_ifnonnullN hx hb hd (k H locs ls hP hS hl)
theorem x_tableOut {G : XG} {B : XB} {cc : ByteArray} {own : String} {rm : Room} {nL : Nat} {ret : Option FieldType} {T : Option Value ⊕ String} {Ω9 : XO} (C : XC G B cc own rm nL ret T Ω9) {pc : Nat} {lv : List (Nat × Value)} {st : List Value} {Ω : XO} {cu su : Nat} {dflt lo hi : Int} {offs : Array Int} {len : Nat} {x : Int32} {tgt : Nat} (hd : decode cc pc = .ok (.tableswitch dflt lo hi offs, len)) (h : x.toInt < lo ∨ hi < x.toInt) (ht : (pc : Int) + dflt = (tgt : Int)) (k : XW G B nL tgt lv st Ω cu su) : XW G B nL pc lv (.int x :: st) Ω cu su := by
  obtain ⟨p, e, R, s, m, args, below, meth, c, Q⟩ := B
  obtain ⟨hx, hb, hml, ho, hts, hU, hok, hlk, hR, hret, htab, hQ⟩ := C
  intro H locs ls hP hS hl
  exact lv_tableOut hx hb hd h ht (k H locs ls hP hS hl)
theorem x_tableIn {G : XG} {B : XB} {cc : ByteArray} {own : String} {rm : Room} {nL : Nat} {ret : Option FieldType} {T : Option Value ⊕ String} {Ω9 : XO} (C : XC G B cc own rm nL ret T Ω9) {pc : Nat} {lv : List (Nat × Value)} {st : List Value} {Ω : XO} {cu su : Nat} {dflt lo hi : Int} {offs : Array Int} {len : Nat} {x : Int32} {off : Int} {tgt : Nat} (hd : decode cc pc = .ok (.tableswitch dflt lo hi offs, len)) (h1 : ¬ x.toInt < lo) (h2 : ¬ hi < x.toInt) (h3 : offs[(x.toInt - lo).toNat]? = some off) (ht : (pc : Int) + off = (tgt : Int)) (k : XW G B nL tgt lv st Ω cu su) : XW G B nL pc lv (.int x :: st) Ω cu su := by
  obtain ⟨p, e, R, s, m, args, below, meth, c, Q⟩ := B
  obtain ⟨hx, hb, hml, ho, hts, hU, hok, hlk, hR, hret, htab, hQ⟩ := C
  intro H locs ls hP hS hl
  exact lv_tableIn hx hb hd h1 h2 h3 ht (k H locs ls hP hS hl)
theorem x_lookup {G : XG} {B : XB} {cc : ByteArray} {own : String} {rm : Room} {nL : Nat} {ret : Option FieldType} {T : Option Value ⊕ String} {Ω9 : XO} (C : XC G B cc own rm nL ret T Ω9) {pc : Nat} {lv : List (Nat × Value)} {st : List Value} {Ω : XO} {cu su : Nat} {dflt : Int} {ps : Array (Int × Int)} {len : Nat} {x : Int32} {off : Int} {tgt : Nat} (hd : decode cc pc = .ok (.lookupswitch dflt ps, len)) (hp : (ps.toList.zip (ps.toList.drop 1)).all (fun (a, next) => a.1 < next.1) = true) (h3 : Op.lookupswitch.offset ps.toList dflt x.toInt = off) (ht : (pc : Int) + off = (tgt : Int)) (k : XW G B nL tgt lv st Ω cu su) : XW G B nL pc lv (.int x :: st) Ω cu su := by
  obtain ⟨p, e, R, s, m, args, below, meth, c, Q⟩ := B
  obtain ⟨hx, hb, hml, ho, hts, hU, hok, hlk, hR, hret, htab, hQ⟩ := C
  intro H locs ls hP hS hl
  exact lv_lookup hx hb hd hp h3 ht (k H locs ls hP hS hl)
theorem x_ldc {G : XG} {B : XB} {cc : ByteArray} {own : String} {rm : Room} {nL : Nat} {ret : Option FieldType} {T : Option Value ⊕ String} {Ω9 : XO} (C : XC G B cc own rm nL ret T Ω9) {pc : Nat} {lv : List (Nat × Value)} {st : List Value} {Ω : XO} {cu su : Nat} {idx : Nat} {v : Int32} (hw : Cond.constant own idx v ∈ lw_g) (hd : decode cc pc = .ok (.ldc idx, 2)) {pc2 : Nat} (hp : pc + 2 = pc2) (k : XW G B nL pc2 lv (.int v :: st) Ω cu su) : XW G B nL pc lv st Ω cu su := by
  obtain ⟨p, e, R, s, m, args, below, meth, c, Q⟩ := B
  obtain ⟨hx, hb, hml, ho, hts, hU, hok, hlk, hR, hret, htab, hQ⟩ := C
  subst hp
  intro H locs ls hP hS hl
  exact lv_ldc hx hb ho (hts _ hw) hd (k H locs ls hP hS hl)
theorem x_ldcw {G : XG} {B : XB} {cc : ByteArray} {own : String} {rm : Room} {nL : Nat} {ret : Option FieldType} {T : Option Value ⊕ String} {Ω9 : XO} (C : XC G B cc own rm nL ret T Ω9) {pc : Nat} {lv : List (Nat × Value)} {st : List Value} {Ω : XO} {cu su : Nat} {idx : Nat} {v : Int32} (hw : Cond.constant own idx v ∈ lw_g) (hd : decode cc pc = .ok (.ldc_w idx, 3)) {pc2 : Nat} (hp : pc + 3 = pc2) (k : XW G B nL pc2 lv (.int v :: st) Ω cu su) : XW G B nL pc lv st Ω cu su := by
  obtain ⟨p, e, R, s, m, args, below, meth, c, Q⟩ := B
  obtain ⟨hx, hb, hml, ho, hts, hU, hok, hlk, hR, hret, htab, hQ⟩ := C
  subst hp
  intro H locs ls hP hS hl
  exact lv_ldcw hx hb ho (hts _ hw) hd (k H locs ls hP hS hl)
theorem x_ldc2 {G : XG} {B : XB} {cc : ByteArray} {own : String} {rm : Room} {nL : Nat} {ret : Option FieldType} {T : Option Value ⊕ String} {Ω9 : XO} (C : XC G B cc own rm nL ret T Ω9) {pc : Nat} {lv : List (Nat × Value)} {st : List Value} {Ω : XO} {cu su : Nat} {idx : Nat} {v : Int64} (hw : Cond.constantLong own idx v ∈ lw_g) (hd : decode cc pc = .ok (.ldc2_w idx, 3)) {pc2 : Nat} (hp : pc + 3 = pc2) (k : XW G B nL pc2 lv (.long v :: st) Ω cu su) : XW G B nL pc lv st Ω cu su := by
  obtain ⟨p, e, R, s, m, args, below, meth, c, Q⟩ := B
  obtain ⟨hx, hb, hml, ho, hts, hU, hok, hlk, hR, hret, htab, hQ⟩ := C
  subst hp
  intro H locs ls hP hS hl
  exact lv_ldc2 hx hb ho (hts _ hw) hd (k H locs ls hP hS hl)
theorem x_getI {G : XG} {B : XB} {cc : ByteArray} {own : String} {rm : Room} {nL : Nat} {ret : Option FieldType} {T : Option Value ⊕ String} {Ω9 : XO} (C : XC G B cc own rm nL ret T Ω9) {pc : Nat} {lv : List (Nat × Value)} {st : List Value} {Ω : XO} {cu su : Nat} {kd i j idx f : Nat} (hdm : dm G kd i) (hw : XF own idx kd j) (hd : decode cc pc = .ok (.getfield idx, 3)) (hs : sK 0 kd j = true) (hf : 100 * kd + j = f) {pc2 : Nat} (hp : pc + 3 = pc2) (k : XW G B nL pc2 lv (.int (xI Ω f i 0) :: st) Ω cu su) : XW G B nL pc lv (.ref (ad G kd i) :: st) Ω cu su := by
  obtain ⟨p, e, R, s, m, args, below, meth, c, Q⟩ := B
  obtain ⟨hx, hb, hml, ho, hts, hU, hok, hlk, hR, hret, htab, hQ⟩ := C
  subst hp
  intro H locs ls hP hS hl
  subst hf
  obtain ⟨hk, hj, ht⟩ := sok hs
  try replace ht : ftp kd j < 2 := ht
  try replace ht : ftp kd j = 2 := ht
  try replace ht : ftp kd j = 3 := ht
  try replace ht : ftp kd j = 4 := ht
  obtain ⟨q, hq⟩ := pl_get (Ω := Ω) hdm
  rw [EE_o hk] at hq
  have hv : ((List.range (nfl kd)).map (fv G Ω kd i))[j]? = some (fv G Ω kd i j) := by simp [hj]
  refine va_get (D := gD G) (C := cnm kd) (T := cT kd) (N := cN kd) hx hb hts (cl_ws hk) ho hU.2.1 hP q hq (cl_at hk) j (by rw [x_ft hk]; exact hj) (hts _ hw) (by rw [cT_own hk (by rw [x_ft hk]; exact hj)]; exact fun _ h9 => h9) hv hd ?_
  rw [show fv G Ω kd i j = .int (xI Ω (100 * kd + j) i 0) by unfold fv; rw [if_neg (by omega), if_neg (by omega), if_neg (by omega)]]
  exact k H locs ls hP hS hl
theorem x_getL {G : XG} {B : XB} {cc : ByteArray} {own : String} {rm : Room} {nL : Nat} {ret : Option FieldType} {T : Option Value ⊕ String} {Ω9 : XO} (C : XC G B cc own rm nL ret T Ω9) {pc : Nat} {lv : List (Nat × Value)} {st : List Value} {Ω : XO} {cu su : Nat} {kd i j idx f : Nat} (hdm : dm G kd i) (hw : XF own idx kd j) (hd : decode cc pc = .ok (.getfield idx, 3)) (hs : sK 2 kd j = true) (hf : 100 * kd + j = f) {pc2 : Nat} (hp : pc + 3 = pc2) (k : XW G B nL pc2 lv (.long (xL Ω f i 0) :: st) Ω cu su) : XW G B nL pc lv (.ref (ad G kd i) :: st) Ω cu su := by
  obtain ⟨p, e, R, s, m, args, below, meth, c, Q⟩ := B
  obtain ⟨hx, hb, hml, ho, hts, hU, hok, hlk, hR, hret, htab, hQ⟩ := C
  subst hp
  intro H locs ls hP hS hl
  subst hf
  obtain ⟨hk, hj, ht⟩ := sok hs
  try replace ht : ftp kd j < 2 := ht
  try replace ht : ftp kd j = 2 := ht
  try replace ht : ftp kd j = 3 := ht
  try replace ht : ftp kd j = 4 := ht
  obtain ⟨q, hq⟩ := pl_get (Ω := Ω) hdm
  rw [EE_o hk] at hq
  have hv : ((List.range (nfl kd)).map (fv G Ω kd i))[j]? = some (fv G Ω kd i j) := by simp [hj]
  refine va_get (D := gD G) (C := cnm kd) (T := cT kd) (N := cN kd) hx hb hts (cl_ws hk) ho hU.2.1 hP q hq (cl_at hk) j (by rw [x_ft hk]; exact hj) (hts _ hw) (by rw [cT_own hk (by rw [x_ft hk]; exact hj)]; exact fun _ h9 => h9) hv hd ?_
  rw [show fv G Ω kd i j = .long (xL Ω (100 * kd + j) i 0) by unfold fv; rw [if_pos ht]]
  exact k H locs ls hP hS hl
theorem x_getR {G : XG} {B : XB} {cc : ByteArray} {own : String} {rm : Room} {nL : Nat} {ret : Option FieldType} {T : Option Value ⊕ String} {Ω9 : XO} (C : XC G B cc own rm nL ret T Ω9) {pc : Nat} {lv : List (Nat × Value)} {st : List Value} {Ω : XO} {cu su : Nat} {kd i j idx f : Nat} (hdm : dm G kd i) (hw : XF own idx kd j) (hd : decode cc pc = .ok (.getfield idx, 3)) {k2 i2 : Nat} (hs : sK 3 kd j = true) (hf : 100 * kd + j = f) (hk2 : rtk kd j = k2) (hi2 : rti kd j i = i2) {pc2 : Nat} (hp : pc + 3 = pc2) (k : dm G k2 i2 → XW G B nL pc2 lv (.ref (ad G k2 i2) :: st) Ω cu su) : XW G B nL pc lv (.ref (ad G kd i) :: st) Ω cu su := by
  obtain ⟨p, e, R, s, m, args, below, meth, c, Q⟩ := B
  obtain ⟨hx, hb, hml, ho, hts, hU, hok, hlk, hR, hret, htab, hQ⟩ := C
  subst hp
  intro H locs ls hP hS hl
  subst hf
  obtain ⟨hk, hj, ht⟩ := sok hs
  try replace ht : ftp kd j < 2 := ht
  try replace ht : ftp kd j = 2 := ht
  try replace ht : ftp kd j = 3 := ht
  try replace ht : ftp kd j = 4 := ht
  obtain ⟨q, hq⟩ := pl_get (Ω := Ω) hdm
  rw [EE_o hk] at hq
  have hv : ((List.range (nfl kd)).map (fv G Ω kd i))[j]? = some (fv G Ω kd i j) := by simp [hj]
  refine va_get (D := gD G) (C := cnm kd) (T := cT kd) (N := cN kd) hx hb hts (cl_ws hk) ho hU.2.1 hP q hq (cl_at hk) j (by rw [x_ft hk]; exact hj) (hts _ hw) (by rw [cT_own hk (by rw [x_ft hk]; exact hj)]; exact fun _ h9 => h9) hv hd ?_
  rw [show fv G Ω kd i j = .ref (ad G k2 i2) by unfold fv; rw [if_neg (by omega), if_pos ht, hk2, hi2]]
  exact k (by rw [← hk2, ← hi2]; exact hok.2.2.2.1 kd j i hdm hk hj ht) H locs ls hP hS hl
theorem x_getM {G : XG} {B : XB} {cc : ByteArray} {own : String} {rm : Room} {nL : Nat} {ret : Option FieldType} {T : Option Value ⊕ String} {Ω9 : XO} (C : XC G B cc own rm nL ret T Ω9) {pc : Nat} {lv : List (Nat × Value)} {st : List Value} {Ω : XO} {cu su : Nat} {kd i j idx f : Nat} (hdm : dm G kd i) (hw : XF own idx kd j) (hd : decode cc pc = .ok (.getfield idx, 3)) {k2 v9 : Nat} (hs : sK 4 kd j = true) (hf : 100 * kd + j = f) (hk2 : rtk kd j = k2) (hv9 : xR Ω f i = v9) {pc2 : Nat} (hp : pc + 3 = pc2) (k : XW G B nL pc2 lv (.ref (ad G k2 v9) :: st) Ω cu su) : XW G B nL pc lv (.ref (ad G kd i) :: st) Ω cu su := by
  obtain ⟨p, e, R, s, m, args, below, meth, c, Q⟩ := B
  obtain ⟨hx, hb, hml, ho, hts, hU, hok, hlk, hR, hret, htab, hQ⟩ := C
  subst hp
  intro H locs ls hP hS hl
  subst hf
  obtain ⟨hk, hj, ht⟩ := sok hs
  try replace ht : ftp kd j < 2 := ht
  try replace ht : ftp kd j = 2 := ht
  try replace ht : ftp kd j = 3 := ht
  try replace ht : ftp kd j = 4 := ht
  obtain ⟨q, hq⟩ := pl_get (Ω := Ω) hdm
  rw [EE_o hk] at hq
  have hv : ((List.range (nfl kd)).map (fv G Ω kd i))[j]? = some (fv G Ω kd i j) := by simp [hj]
  refine va_get (D := gD G) (C := cnm kd) (T := cT kd) (N := cN kd) hx hb hts (cl_ws hk) ho hU.2.1 hP q hq (cl_at hk) j (by rw [x_ft hk]; exact hj) (hts _ hw) (by rw [cT_own hk (by rw [x_ft hk]; exact hj)]; exact fun _ h9 => h9) hv hd ?_
  rw [show fv G Ω kd i j = .ref (ad G k2 v9) by unfold fv; rw [if_neg (by omega), if_neg (by omega), if_pos ht, hk2, hv9]]
  exact k H locs ls hP hS hl
theorem x_putI {G : XG} {B : XB} {cc : ByteArray} {own : String} {rm : Room} {nL : Nat} {ret : Option FieldType} {T : Option Value ⊕ String} {Ω9 : XO} (C : XC G B cc own rm nL ret T Ω9) {pc : Nat} {lv : List (Nat × Value)} {st : List Value} {Ω : XO} {cu su : Nat} {kd i j idx f : Nat} {v : Int32} (hdm : dm G kd i) (hw : XF own idx kd j) (hd : decode cc pc = .ok (.putfield idx, 3)) (hs : sK 0 kd j = true) (hf : 100 * kd + j = f) (hfin : (cT kd j).2.2.2 = false) (hty : cty kd j = .int) {pc2 : Nat} (hp : pc + 3 = pc2) (k : XW G B nL pc2 lv st (uI Ω f i 0 v) cu su) : XW G B nL pc lv (.int v :: .ref (ad G kd i) :: st) Ω cu su := by
  obtain ⟨p, e, R, s, m, args, below, meth, c, Q⟩ := B
  obtain ⟨hx, hb, hml, ho, hts, hU, hok, hlk, hR, hret, htab, hQ⟩ := C
  subst hp
  intro H locs ls hP hS hl
  subst hf
  obtain ⟨hk, hj, ht⟩ := sok hs
  try replace ht : ftp kd j < 2 := ht
  try replace ht : ftp kd j = 2 := ht
  try replace ht : ftp kd j = 3 := ht
  try replace ht : ftp kd j = 4 := ht
  obtain ⟨q, hq⟩ := pl_get (Ω := Ω) hdm
  have hq0 := hq
  rw [EE_o hk] at hq
  have hjc : j < cN kd := by rw [x_ft hk]; exact hj
  refine va_put (D := gD G) (A := xA G) (v := .int v) (ty := cty kd j) (C := cnm kd) (T := cT kd) (N := cN kd) hx hb hts (cl_ws hk) (cty kd) (cl_ty hk) (cl_nm hk) ho hU.2.1 hP (hok.2.2.1 _) hS q hq (cl_at hk) j hjc (hts _ hw) (by rw [cT_own hk hjc]; exact fun _ h9 => h9) hfin (cl_ty hk j hjc) (by rw [hty]; rfl) (by rw [hty]; rfl) (by simp [hj]) hd (fun H1 locs1 hP1 _ hS1 => ?_)
  rw [pl_set hok hdm hq0 _ (EE_uI hk hj ht) (EE_uIn hk hj)] at hP1
  exact k H1 locs1 ls hP1 hS1 hl
theorem x_putZ {G : XG} {B : XB} {cc : ByteArray} {own : String} {rm : Room} {nL : Nat} {ret : Option FieldType} {T : Option Value ⊕ String} {Ω9 : XO} (C : XC G B cc own rm nL ret T Ω9) {pc : Nat} {lv : List (Nat × Value)} {st : List Value} {Ω : XO} {cu su : Nat} {kd i j idx f : Nat} {v : Int32} (hdm : dm G kd i) (hw : XF own idx kd j) (hd : decode cc pc = .ok (.putfield idx, 3)) (hs : sK 1 kd j = true) (hf : 100 * kd + j = f) (hfin : (cT kd j).2.2.2 = false) (hz : v = 0 ∨ v = 1) (hty : cty kd j = .boolean) {pc2 : Nat} (hp : pc + 3 = pc2) (k : XW G B nL pc2 lv st (uI Ω f i 0 v) cu su) : XW G B nL pc lv (.int v :: .ref (ad G kd i) :: st) Ω cu su := by
  obtain ⟨p, e, R, s, m, args, below, meth, c, Q⟩ := B
  obtain ⟨hx, hb, hml, ho, hts, hU, hok, hlk, hR, hret, htab, hQ⟩ := C
  subst hp
  intro H locs ls hP hS hl
  subst hf
  obtain ⟨hk, hj, ht⟩ := sok hs
  try replace ht : ftp kd j < 2 := ht
  try replace ht : ftp kd j = 2 := ht
  try replace ht : ftp kd j = 3 := ht
  try replace ht : ftp kd j = 4 := ht
  obtain ⟨q, hq⟩ := pl_get (Ω := Ω) hdm
  have hq0 := hq
  rw [EE_o hk] at hq
  have hjc : j < cN kd := by rw [x_ft hk]; exact hj
  refine va_put (D := gD G) (A := xA G) (v := .int v) (ty := cty kd j) (C := cnm kd) (T := cT kd) (N := cN kd) hx hb hts (cl_ws hk) (cty kd) (cl_ty hk) (cl_nm hk) ho hU.2.1 hP (hok.2.2.1 _) hS q hq (cl_at hk) j hjc (hts _ hw) (by rw [cT_own hk hjc]; exact fun _ h9 => h9) hfin (cl_ty hk j hjc) (by rw [hty]; rcases hz with rfl | rfl <;> rfl) (by rw [hty]; rcases hz with rfl | rfl <;> rfl) (by simp [hj]) hd (fun H1 locs1 hP1 _ hS1 => ?_)
  rw [pl_set hok hdm hq0 _ (EE_uI hk hj ht) (EE_uIn hk hj)] at hP1
  exact k H1 locs1 ls hP1 hS1 hl
theorem x_putL {G : XG} {B : XB} {cc : ByteArray} {own : String} {rm : Room} {nL : Nat} {ret : Option FieldType} {T : Option Value ⊕ String} {Ω9 : XO} (C : XC G B cc own rm nL ret T Ω9) {pc : Nat} {lv : List (Nat × Value)} {st : List Value} {Ω : XO} {cu su : Nat} {kd i j idx f : Nat} {v : Int64} (hdm : dm G kd i) (hw : XF own idx kd j) (hd : decode cc pc = .ok (.putfield idx, 3)) (hs : sK 2 kd j = true) (hf : 100 * kd + j = f) (hfin : (cT kd j).2.2.2 = false) (hty : cty kd j = .long) {pc2 : Nat} (hp : pc + 3 = pc2) (k : XW G B nL pc2 lv st (uL Ω f i 0 v) cu su) : XW G B nL pc lv (.long v :: .ref (ad G kd i) :: st) Ω cu su := by
  obtain ⟨p, e, R, s, m, args, below, meth, c, Q⟩ := B
  obtain ⟨hx, hb, hml, ho, hts, hU, hok, hlk, hR, hret, htab, hQ⟩ := C
  subst hp
  intro H locs ls hP hS hl
  subst hf
  obtain ⟨hk, hj, ht⟩ := sok hs
  try replace ht : ftp kd j < 2 := ht
  try replace ht : ftp kd j = 2 := ht
  try replace ht : ftp kd j = 3 := ht
  try replace ht : ftp kd j = 4 := ht
  obtain ⟨q, hq⟩ := pl_get (Ω := Ω) hdm
  have hq0 := hq
  rw [EE_o hk] at hq
  have hjc : j < cN kd := by rw [x_ft hk]; exact hj
  refine va_put (D := gD G) (A := xA G) (v := .long v) (ty := cty kd j) (C := cnm kd) (T := cT kd) (N := cN kd) hx hb hts (cl_ws hk) (cty kd) (cl_ty hk) (cl_nm hk) ho hU.2.1 hP (hok.2.2.1 _) hS q hq (cl_at hk) j hjc (hts _ hw) (by rw [cT_own hk hjc]; exact fun _ h9 => h9) hfin (cl_ty hk j hjc) (by rw [hty]; rfl) (by rw [hty]; rfl) (by simp [hj]) hd (fun H1 locs1 hP1 _ hS1 => ?_)
  rw [pl_set hok hdm hq0 _ (EE_uL hk hj ht) (EE_uLn hk hj)] at hP1
  exact k H1 locs1 ls hP1 hS1 hl
theorem x_putM {G : XG} {B : XB} {cc : ByteArray} {own : String} {rm : Room} {nL : Nat} {ret : Option FieldType} {T : Option Value ⊕ String} {Ω9 : XO} (C : XC G B cc own rm nL ret T Ω9) {pc : Nat} {lv : List (Nat × Value)} {st : List Value} {Ω : XO} {cu su : Nat} {kd i j idx f : Nat} {v k2 : Nat} {nm : String} (hdm : dm G kd i) (hw : XF own idx kd j) (hd : decode cc pc = .ok (.putfield idx, 3)) (hs : sK 4 kd j = true) (hf : 100 * kd + j = f) (hfin : (cT kd j).2.2.2 = false) (hty : cty kd j = .object nm) (hk2 : rtk kd j = k2) {pc2 : Nat} (hp : pc + 3 = pc2) (k : XW G B nL pc2 lv st (uR Ω f i v) cu su) : XW G B nL pc lv (.ref (ad G k2 v) :: .ref (ad G kd i) :: st) Ω cu su := by
  obtain ⟨p, e, R, s, m, args, below, meth, c, Q⟩ := B
  obtain ⟨hx, hb, hml, ho, hts, hU, hok, hlk, hR, hret, htab, hQ⟩ := C
  subst hp
  intro H locs ls hP hS hl
  subst hk2
  subst hf
  obtain ⟨hk, hj, ht⟩ := sok hs
  try replace ht : ftp kd j < 2 := ht
  try replace ht : ftp kd j = 2 := ht
  try replace ht : ftp kd j = 3 := ht
  try replace ht : ftp kd j = 4 := ht
  obtain ⟨q, hq⟩ := pl_get (Ω := Ω) hdm
  have hq0 := hq
  rw [EE_o hk] at hq
  have hjc : j < cN kd := by rw [x_ft hk]; exact hj
  refine va_put (D := gD G) (A := xA G) (v := .ref (ad G (rtk kd j) v)) (ty := cty kd j) (C := cnm kd) (T := cT kd) (N := cN kd) hx hb hts (cl_ws hk) (cty kd) (cl_ty hk) (cl_nm hk) ho hU.2.1 hP (hok.2.2.1 _) hS q hq (cl_at hk) j hjc (hts _ hw) (by rw [cT_own hk hjc]; exact fun _ h9 => h9) hfin (cl_ty hk j hjc) (by rw [hty]; rfl) (by rw [hty]; rfl) (by simp [hj]) hd (fun H1 locs1 hP1 _ hS1 => ?_)
  rw [pl_set hok hdm hq0 _ (EE_uR hk hj ht) (EE_uRn hk hj)] at hP1
  exact k H1 locs1 ls hP1 hS1 hl
theorem x_iald {G : XG} {B : XB} {cc : ByteArray} {own : String} {rm : Room} {nL : Nat} {ret : Option FieldType} {T : Option Value ⊕ String} {Ω9 : XO} (C : XC G B cc own rm nL ret T Ω9) {pc : Nat} {lv : List (Nat × Value)} {st : List Value} {Ω : XO} {cu su : Nat} {kd i : Nat} {j : Int32} (hdm : dm G kd i) (hd : decode cc pc = .ok (.iaload, 1)) (hs : sA 0 kd = true) (hin : vp_in j (alen kd)) {pc2 : Nat} (hp : pc + 1 = pc2) (k : XW G B nL pc2 lv (.int (xI Ω kd i j.toNatClampNeg) :: st) Ω cu su) : XW G B nL pc lv (.int j :: .ref (ad G kd i) :: st) Ω cu su := by
  obtain ⟨p, e, R, s, m, args, below, meth, c, Q⟩ := B
  obtain ⟨hx, hb, hml, ho, hts, hU, hok, hlk, hR, hret, htab, hQ⟩ := C
  subst hp
  intro H locs ls hP hS hl
  obtain ⟨hk, ht⟩ := sak hs
  obtain ⟨q, hq⟩ := pl_get (Ω := Ω) hdm
  rw [EE_ai hk ht] at hq
  exact va_iald (D := gD G) hx hb hU.2.1 hP q 0 hq rfl hin hd (k H locs ls hP hS hl)

theorem x_aald {G : XG} {B : XB} {cc : ByteArray} {own : String} {rm : Room} {nL : Nat} {ret : Option FieldType} {T : Option Value ⊕ String} {Ω9 : XO} (C : XC G B cc own rm nL ret T Ω9) {pc : Nat} {lv : List (Nat × Value)} {st : List Value} {Ω : XO} {cu su : Nat} {kd i k2 i2 : Nat} {j : Int32} {nm : String} (hdm : dm G kd i) (hd : decode cc pc = .ok (.aaload, 1)) (hs : sB kd = true) (hty : (tysOf G)[aty kd]? = some (gC G (aty kd), .object nm)) (hin : vp_in j (alen kd)) (hk2 : elk kd = k2) (hi2 : eli kd i j.toNatClampNeg = i2) {pc2 : Nat} (hp : pc + 1 = pc2) (k : dm G k2 i2 → XW G B nL pc2 lv (.ref (ad G k2 i2) :: st) Ω cu su) : XW G B nL pc lv (.int j :: .ref (ad G kd i) :: st) Ω cu su := by
  obtain ⟨p, e, R, s, m, args, below, meth, c, Q⟩ := B
  obtain ⟨hx, hb, hml, ho, hts, hU, hok, hlk, hR, hret, htab, hQ⟩ := C
  subst hp
  intro H locs ls hP hS hl
  obtain ⟨hk, ht⟩ := sbk hs
  obtain ⟨q, hq⟩ := pl_get (Ω := Ω) hdm
  rw [EE_ar hk ht] at hq
  have hlt : j.toNatClampNeg < alen kd := Nat.not_le.mp fun z => hin (Or.inr z)
  refine va_aldq (D := gD G) hx hb hU.2.1 hP q (aty kd) hq hty hin hd ?_
  have e : va_rf (some (ad G (elk kd) (eli kd i j.toNatClampNeg))) = Value.ref (ad G k2 i2) := by rw [hk2, hi2]; rfl
  rw [e]
  exact k (by rw [← hk2, ← hi2]; exact hok.2.2.2.2 kd i _ hdm hk ht hlt) H locs ls hP hS hl
theorem x_iast {G : XG} {B : XB} {cc : ByteArray} {own : String} {rm : Room} {nL : Nat} {ret : Option FieldType} {T : Option Value ⊕ String} {Ω9 : XO} (C : XC G B cc own rm nL ret T Ω9) {pc : Nat} {lv : List (Nat × Value)} {st : List Value} {Ω : XO} {cu su : Nat} {v : Int32} {kd i : Nat} {j : Int32} (hdm : dm G kd i) (hd : decode cc pc = .ok (.iastore, 1)) (hs : sA 0 kd = true) (hin : vp_in j (alen kd)) {pc2 : Nat} (hp : pc + 1 = pc2) (k : XW G B nL pc2 lv st (uI Ω kd i j.toNatClampNeg v) cu su) : XW G B nL pc lv (.int v :: .int j :: .ref (ad G kd i) :: st) Ω cu su := by
  obtain ⟨p, e, R, s, m, args, below, meth, c, Q⟩ := B
  obtain ⟨hx, hb, hml, ho, hts, hU, hok, hlk, hR, hret, htab, hQ⟩ := C
  subst hp
  intro H locs ls hP hS hl
  obtain ⟨hk, ht⟩ := sak hs
  obtain ⟨q, hq⟩ := pl_get (Ω := Ω) hdm
  have hq0 := hq
  rw [EE_ai hk ht] at hq
  refine va_iast (D := gD G) (A := xA G) hx hb hU.2.1 hP (hok.2.2.1 _) hS q 0 hq rfl hin hd (fun H1 locs1 hP1 _ hS1 => ?_)
  rw [pl_set hok hdm hq0 _ (EE_sI (j := j.toNatClampNeg) (v := v) hk ht) (EE_sIn hk)] at hP1
  exact k H1 locs1 ls hP1 hS1 hl
theorem x_alen {G : XG} {B : XB} {cc : ByteArray} {own : String} {rm : Room} {nL : Nat} {ret : Option FieldType} {T : Option Value ⊕ String} {Ω9 : XO} (C : XC G B cc own rm nL ret T Ω9) {pc : Nat} {lv : List (Nat × Value)} {st : List Value} {Ω : XO} {cu su : Nat} {kd i : Nat} {ty : FieldType} (hdm : dm G kd i) (hd : decode cc pc = .ok (.arraylength, 1)) (hk : Nat.ble 2000 kd = true) (hty : (tysOf G)[aty kd]? = some (gC G (aty kd), ty)) {pc2 : Nat} (hp : pc + 1 = pc2) (k : XW G B nL pc2 lv (.int (nI (alen kd)) :: st) Ω cu su) : XW G B nL pc lv (.ref (ad G kd i) :: st) Ω cu su := by
  obtain ⟨p, e, R, s, m, args, below, meth, c, Q⟩ := B
  obtain ⟨hx, hb, hml, ho, hts, hU, hok, hlk, hR, hret, htab, hQ⟩ := C
  subst hp
  intro H locs ls hP hS hl
  obtain ⟨q, hq⟩ := pl_get (Ω := Ω) hdm
  rw [EE_a (Nat.le_of_ble_eq_true hk)] at hq
  exact va_alen (D := gD G) hx hb hU.2.1 hP q (aty kd) hq hty rfl hd (k H locs ls hP hS hl)
theorem x_tlen {G : XG} {B : XB} {cc : ByteArray} {own : String} {rm : Room} {nL : Nat} {ret : Option FieldType} {T : Option Value ⊕ String} {Ω9 : XO} (C : XC G B cc own rm nL ret T Ω9) {pc : Nat} {lv : List (Nat × Value)} {st : List Value} {Ω : XO} {cu su : Nat} {q : Nat} (hq : q < 4) (hd : decode cc pc = .ok (.arraylength, 1)) {pc2 : Nat} (hp : pc + 1 = pc2) (k : XW G B nL pc2 lv (.int (nI 25) :: st) Ω cu su) : XW G B nL pc lv (.ref (gT G q) :: st) Ω cu su := by
  obtain ⟨p, e, R, s, m, args, below, meth, c, Q⟩ := B
  obtain ⟨hx, hb, hml, ho, hts, hU, hok, hlk, hR, hret, htab, hQ⟩ := C
  subst hp
  intro H locs ls hP hS hl
  obtain ⟨cell, h1, h2, h3, h4, h5, h6, h7⟩ := (hU.2.2.2.1 q hq).2
  exact W.alen (n := nI 25) hx hb (by rw [hS.2.1 _ (Array.getElem?_eq_some_iff.mp h1).1 h7]; exact h1) h2 h5 rfl rfl hd (k H locs ls hP hS hl)
theorem x_gets {G : XG} {B : XB} {cc : ByteArray} {own : String} {rm : Room} {nL : Nat} {ret : Option FieldType} {T : Option Value ⊕ String} {Ω9 : XO} (C : XC G B cc own rm nL ret T Ω9) {pc : Nat} {lv : List (Nat × Value)} {st : List Value} {Ω : XO} {cu su : Nat} {q idx : Nat} (hq : q < 4) (hw : Cond.fieldLink own idx "ForkBridge" (sNam q) "[I" ∈ lw_g) (hd : decode cc pc = .ok (.getstatic idx, 3)) {pc2 : Nat} (hp : pc + 3 = pc2) (k : XW G B nL pc2 lv (.ref (gT G q) :: st) Ω cu su) : XW G B nL pc lv st Ω cu su := by
  obtain ⟨p, e, R, s, m, args, below, meth, c, Q⟩ := B
  obtain ⟨hx, hb, hml, ho, hts, hU, hok, hlk, hR, hret, htab, hQ⟩ := C
  subst hp
  intro H locs ls hP hS hl
  exact va_gets hx hb (hU.2.2.2.1 q hq).1 hS ho (hts _ hw) (fun _ h => h) hd (k H locs ls hP hS hl)
theorem x_getsN {G : XG} {B : XB} {cc : ByteArray} {own : String} {rm : Room} {nL : Nat} {ret : Option FieldType} {T : Option Value ⊕ String} {Ω9 : XO} (C : XC G B cc own rm nL ret T Ω9) {pc : Nat} {lv : List (Nat × Value)} {st : List Value} {Ω : XO} {cu su : Nat} {q idx : Nat} {host : String} (hq : q < 4) (hw : (own, idx, "ForkBridge", sNam q, "[I", host) ∈ xnf) (hd : decode cc pc = .ok (.getstatic idx, 3)) {pc2 : Nat} (hp : pc + 3 = pc2) (k : XW G B nL pc2 lv (.ref (gT G q) :: st) Ω cu su) : XW G B nL pc lv st Ω cu su := by
  obtain ⟨p, e, R, s, m, args, below, meth, c, Q⟩ := B
  obtain ⟨hx, hb, hml, ho, hts, hU, hok, hlk, hR, hret, htab, hQ⟩ := C
  subst hp
  intro H locs ls hP hS hl
  exact va_getsN hx hb (hU.2.2.2.1 q hq).1 hS ho (va_Nw.use rfl (hU.2.2.1.2.1 _ hw)) (fun _ h => h) hd (k H locs ls hP hS hl)
theorem x_tald {G : XG} {B : XB} {cc : ByteArray} {own : String} {rm : Room} {nL : Nat} {ret : Option FieldType} {T : Option Value ⊕ String} {Ω9 : XO} (C : XC G B cc own rm nL ret T Ω9) {pc : Nat} {lv : List (Nat × Value)} {st : List Value} {Ω : XO} {cu su : Nat} {q : Nat} {j : Int32} (hq : q < 4) (hd : decode cc pc = .ok (.iaload, 1)) (hin : vp_in j 25) {pc2 : Nat} (hp : pc + 1 = pc2) (k : XW G B nL pc2 lv (.int ((sArr q).getD j.toNatClampNeg 0) :: st) Ω cu su) : XW G B nL pc lv (.int j :: .ref (gT G q) :: st) Ω cu su := by
  obtain ⟨p, e, R, s, m, args, below, meth, c, Q⟩ := B
  obtain ⟨hx, hb, hml, ho, hts, hU, hok, hlk, hR, hret, htab, hQ⟩ := C
  subst hp
  intro H locs ls hP hS hl
  exact va_ti hx hb (hU.2.2.2.1 q hq).2 hS hin rfl hd (k H locs ls hP hS hl)
theorem x_ireturn {G : XG} {B : XB} {cc : ByteArray} {own : String} {rm : Room} {nL : Nat} {ret : Option FieldType} {T : Option Value ⊕ String} {Ω9 : XO} (C : XC G B cc own rm nL ret T Ω9) {pc : Nat} {lv : List (Nat × Value)} {Ω : XO} {cu su : Nat} {v : Int32} (hd : decode cc pc = .ok (.ireturn, 1)) (hr : ret = some .int) (hcu : cu ≤ rm.cells) (hsu : su ≤ rm.slots) (hT : T = .inl (some (.int v))) (hΩ : Ω9 = Ω)  : XW G B nL pc lv [.int v] Ω cu su := by
  obtain ⟨p, e, R, s, m, args, below, meth, c, Q⟩ := B
  obtain ⟨hx, hb, hml, ho, hts, hU, hok, hlk, hR, hret, htab, hQ⟩ := C
  intro H locs ls hP hS hl
  subst hQ
  subst hR
  refine W.widen (k := R.cells) (n := R.slots) hcu hsu (vx_ret ?_)
  exact W.iret (v := v) hx hb (hret.trans hr) (fun t ht hW => ⟨_, hT, rfl, by rw [ht, hΩ]; exact hP, hS.F ht⟩) hS.2.2 hd
theorem x_zreturn {G : XG} {B : XB} {cc : ByteArray} {own : String} {rm : Room} {nL : Nat} {ret : Option FieldType} {T : Option Value ⊕ String} {Ω9 : XO} (C : XC G B cc own rm nL ret T Ω9) {pc : Nat} {lv : List (Nat × Value)} {Ω : XO} {cu su : Nat} {v : Int32} (hd : decode cc pc = .ok (.ireturn, 1)) (hr : ret = some .boolean) (hz : v = 0 ∨ v = 1) (hcu : cu ≤ rm.cells) (hsu : su ≤ rm.slots) (hT : T = .inl (some (.int v))) (hΩ : Ω9 = Ω)  : XW G B nL pc lv [.int v] Ω cu su := by
  obtain ⟨p, e, R, s, m, args, below, meth, c, Q⟩ := B
  obtain ⟨hx, hb, hml, ho, hts, hU, hok, hlk, hR, hret, htab, hQ⟩ := C
  intro H locs ls hP hS hl
  subst hQ
  subst hR
  refine W.widen (k := R.cells) (n := R.slots) hcu hsu (vx_ret ?_)
  exact W.zret (v := v) hx hb (hret.trans hr) (by rcases hz with rfl | rfl <;> rfl) (fun t ht hW => ⟨_, hT, rfl, by rw [ht, hΩ]; exact hP, hS.F ht⟩) hS.2.2 hd
theorem x_vreturn {G : XG} {B : XB} {cc : ByteArray} {own : String} {rm : Room} {nL : Nat} {ret : Option FieldType} {T : Option Value ⊕ String} {Ω9 : XO} (C : XC G B cc own rm nL ret T Ω9) {pc : Nat} {lv : List (Nat × Value)} {Ω : XO} {cu su : Nat} (hd : decode cc pc = .ok (.return_, 1)) (hr : ret = none) (hcu : cu ≤ rm.cells) (hsu : su ≤ rm.slots) (hT : T = .inl none) (hΩ : Ω9 = Ω)  : XW G B nL pc lv [] Ω cu su := by
  obtain ⟨p, e, R, s, m, args, below, meth, c, Q⟩ := B
  obtain ⟨hx, hb, hml, ho, hts, hU, hok, hlk, hR, hret, htab, hQ⟩ := C
  intro H locs ls hP hS hl
  subst hQ
  subst hR
  refine W.widen (k := R.cells) (n := R.slots) hcu hsu (vx_ret ?_)
  exact W.vret hx hb (hret.trans hr) (fun t ht hW => ⟨_, hT, rfl, by rw [ht, hΩ]; exact hP, hS.F ht⟩) hS.2.2 hd
theorem x_areturn {G : XG} {B : XB} {cc : ByteArray} {own : String} {rm : Room} {nL : Nat} {ret : Option FieldType} {T : Option Value ⊕ String} {Ω9 : XO} (C : XC G B cc own rm nL ret T Ω9) {pc : Nat} {lv : List (Nat × Value)} {Ω : XO} {cu su : Nat} {v : Value} {nm : String} (hd : decode cc pc = .ok (.areturn, 1)) (hr : ret = some (.object nm)) (hv : v = .null ∨ ∃ a, v = .ref a) (hcu : cu ≤ rm.cells) (hsu : su ≤ rm.slots) (hT : T = .inl (some v)) (hΩ : Ω9 = Ω)  : XW G B nL pc lv [v] Ω cu su := by
  obtain ⟨p, e, R, s, m, args, below, meth, c, Q⟩ := B
  obtain ⟨hx, hb, hml, ho, hts, hU, hok, hlk, hR, hret, htab, hQ⟩ := C
  intro H locs ls hP hS hl
  subst hQ
  subst hR
  refine W.widen (k := R.cells) (n := R.slots) hcu hsu (vx_ret ?_)
  exact W.aret (v := v) hx hb (hret.trans hr) (Or.inl ⟨nm, rfl⟩) hv (fun t ht hW => ⟨_, hT, rfl, by rw [ht, hΩ]; exact hP, hS.F ht⟩) hS.2.2 hd
