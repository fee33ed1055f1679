theorem yo_1 : Cond.instanceMethod objectInit ∈ lw_g := lw_in1 26 (by decide +kernel) rfl
theorem yo_2 : Cond.code objectInit ⟨#[0xb1]⟩ 1 none ∈ lw_g := lw_in1 27 rfl rfl
theorem ya_int : Cond.arrayClass (newarray.typeOf .int) ∈ lw_g := lw_in1 44 (by decide +kernel) rfl
theorem yi_0 : Cond.instantiable "ForkBridge$Block" 18 ∈ lw_g := lw_in1 54 (by decide +kernel) rfl
theorem yz_0 : Cond.initialized "ForkBridge$Block" ∈ lw_g := lw_in1 4 (by decide +kernel) rfl
theorem yi_1 : Cond.instantiable "ForkBridge$Chain" 6 ∈ lw_g := lw_in2 24 (by decide +kernel) rfl
theorem yz_1 : Cond.initialized "ForkBridge$Chain" ∈ lw_g := lw_in1 7 (by decide +kernel) rfl
theorem yi_2 : Cond.instantiable "ForkBridge$Finality" 2 ∈ lw_g := lw_in2 34 (by decide +kernel) rfl
theorem yz_2 : Cond.initialized "ForkBridge$Finality" ∈ lw_g := lw_in1 8 (by decide +kernel) rfl
theorem yi_3 : Cond.instantiable "ForkBridge$Frame" 14 ∈ lw_g := lw_in1 175 (by decide +kernel) rfl
theorem yz_3 : Cond.initialized "ForkBridge$Frame" ∈ lw_g := lw_in1 6 (by decide +kernel) rfl
theorem yi_4 : Cond.instantiable "ForkBridge$Machine" 9 ∈ lw_g := lw_in1 46 (by decide +kernel) rfl
theorem yz_4 : Cond.initialized "ForkBridge$Machine" ∈ lw_g := lw_in1 3 (by decide +kernel) rfl
theorem yi_5 : Cond.instantiable "ForkBridge$Programs" 3 ∈ lw_g := lw_in1 29 (by decide +kernel) rfl
theorem yz_5 : Cond.initialized "ForkBridge$Programs" ∈ lw_g := lw_in1 2 (by decide +kernel) rfl
theorem yi_6 : Cond.instantiable "ForkBridge$State" 6 ∈ lw_g := lw_in1 60 (by decide +kernel) rfl
theorem yz_6 : Cond.initialized "ForkBridge$State" ∈ lw_g := lw_in1 5 (by decide +kernel) rfl
theorem yi_7 : Cond.instantiable "ForkBridge$Transaction" 13 ∈ lw_g := lw_in2 91 (by decide +kernel) rfl
theorem yz_7 : Cond.initialized "ForkBridge$Transaction" ∈ lw_g := lw_in1 11 (by decide +kernel) rfl
theorem yi_8 : Cond.instantiable "ForkBridge$Validator" 3 ∈ lw_g := lw_in2 41 (by decide +kernel) rfl
theorem yz_8 : Cond.initialized "ForkBridge$Validator" ∈ lw_g := lw_in1 9 (by decide +kernel) rfl
theorem yi_9 : Cond.instantiable "ForkBridge$Vote" 4 ∈ lw_g := lw_in2 48 (by decide +kernel) rfl
theorem yz_9 : Cond.initialized "ForkBridge$Vote" ∈ lw_g := lw_in1 10 (by decide +kernel) rfl
theorem yi_10 : Cond.instantiable "ForkBridge" 3 ∈ lw_g := lw_in1 21 (by decide +kernel) rfl
theorem yz_10 : Cond.initialized "ForkBridge" ∈ lw_g := lw_in1 1 (by decide +kernel) rfl
def xao : List String := ["ForkBridge$Block", "ForkBridge$Chain", "ForkBridge$Frame", "ForkBridge$Transaction", "ForkBridge$Validator", "ForkBridge$Vote"]
def YU (G : XG) (U : State) : Prop := XU G U ∧ ∀ C ∈ xao, va_AO C U
/-- the same at another base -/
def Gat (G : XG) (b : Nat) : XG := (gl G, b, G.2.2)
theorem XT.narrow {G : XG} {U : State} {H : Heap} {b : Nat} (h : XT G U H) (hb : gb G ≤ b) : XT (Gat G b) U H := ⟨fun q hq => ⟨va_Z.narrow (h.1 q hq).1 (fun _ z => Nat.le_trans hb z), va_T.narrow (h.1 q hq).2 (fun _ z => Nat.le_trans hb z)⟩, vx_Zq.narrow h.2.1 (fun _ z => Nat.le_trans hb z), vx_Zq.narrow h.2.2 (fun _ z => Nat.le_trans hb z)⟩
theorem YU.on {G : XG} {s U : State} {H : Heap} {locs : List Loc} (h : YU G s) (hS : va_S (xA G) s.heap H locs) (hU : U.heap = H) (hW : s.WarmedH U.vm) : YU G U := ⟨h.1.on hS hU hW, fun C hC => va_AO.moved hW.alike (h.2 C hC)⟩
theorem YU.at {G : XG} {U : State} {b : Nat} (h : YU G U) (hb : gb G ≤ b) (hb2 : b ≤ U.heap.size) : YU (Gat G b) U := ⟨⟨hb2, h.1.2.1, h.1.2.2.1, h.1.2.2.2.narrow hb⟩, h.2⟩
/-- side by side from b on -/
def CW (b : Nat) (P : va_W) : Prop := ∀ (q : Nat) (x : Nat × va_E), P[q]? = some x → x.1 = b + q
theorem CW.set {b : Nat} {P : va_W} (h : CW b P) {q a : Nat} {e e' : va_E} (he : P[q]? = some (a, e)) : CW b (P.set q (a, e')) := by
  intro k x hx
  by_cases hk : k = q
  · subst hk
    rw [List.getElem?_set_self (List.getElem?_eq_some_iff.mp he).1] at hx
    cases hx
    exact (h k _ he : a = b + k)
  · rw [List.getElem?_set_ne (Ne.symm hk)] at hx
    exact h k x hx
theorem CW.app {b : Nat} {P P2 : va_W} (h : CW b P) (h2 : CW (b + P.length) P2) : CW b (P ++ P2) := by
  intro k x hx
  by_cases hl : k < P.length
  · rw [List.getElem?_append_left hl] at hx
    exact h k x hx
  · rw [List.getElem?_append_right (by omega)] at hx
    have := h2 _ x hx
    omega
theorem CW.one (b : Nat) (e : va_E) : CW b [(b, e)] := by
  intro k x hx
  have hk : k < 1 := (List.getElem?_eq_some_iff.mp hx).1
  rw [show k = 0 by omega] at hx
  cases hx
  exact (show k = 0 by omega) ▸ rfl
theorem CW.push {b q : Nat} {P : va_W} {e : va_E} (h : CW b P) (hq : b + P.length = q) : CW b (P ++ [(q, e)]) := h.app (by rw [hq]; exact CW.one q e)
theorem CW.left {b : Nat} {P P2 : va_W} (h : CW b (P ++ P2)) : CW b P := by
  intro k x hx
  exact h k x (by rw [List.getElem?_append_left (List.getElem?_eq_some_iff.mp hx).1]; exact hx)
theorem CW.D {G : XG} {P : va_W} (h : CW (gb G) P) : va_D (xA G) P := by
  refine ⟨fun i j p q hi hj e => ?_, fun k q hk => ?_⟩
  · have := h i p hi
    have := h j q hj
    omega
  · have := h k q hk
    show gb G ≤ q.1
    omega
def YW (G : XG) : XB → Nat → Nat → List (Nat × Value) → List Value → va_W → Nat → Nat → Prop
  | (p, e, R, s, m, args, below, meth, c, Q), nL, pc, lv, st, P, cu, su => ∀ (H : Heap) (locs : List Loc) (ls : Array Slot), H.size = gb G + P.length → P.length = 1 + cu → CW (gb G) P → va_P (gD G) vwCl P H → va_S (xA G) s.heap H locs → lv_has ls nL lv → W p (gl G) e R s m args below meth c H locs cu su Q (F0 m pc ls st)
def YPc (G : XG) (as : List Value) (P : va_W) : Array Value → State → Prop := va_Pc as (fun U => YU G U ∧ U.heap.size = gb G + 1 ∧ va_P (gD G) vwCl P U.heap)
def YQc (G : XG) (P' : va_W) : Array Value → State → Outcome → State → Prop := fun _ st oc t => oc = .returned none ∧ va_P (gD G) vwCl P' t.heap ∧ va_F (xA G) st t
def YXc : String → State → State → Prop := fun _ _ _ => False
def YC (G : XG) : XB → ByteArray → String → Room → Nat → va_W → Prop
  | (p, e, R, s, m, args, below, meth, c, Q), cc, own, rm, nL, P' => p.tables.exec = Jvm.exec ∧ c.code = cc ∧ c.maxLocals = nL ∧ s.vm.findClass own = some m.cls ∧ (∀ w ∈ lw_g, w.before args s = true) ∧ YU G s ∧ meth.name = "<init>" ∧ meth.locks = false ∧ R = rm ∧ meth.sig.returnType = none ∧ s.heap.size = gb G + 1 ∧ (∀ x ∈ c.exceptionTable.toList, False) ∧ Q = vx_MQ below (YQc G P') YXc args s rm.cells rm.slots (xA G)
/-- a constructor's contract: the object, blank, lies at the base and is the last cell of all; behind it the cells P' -/
def YM (G : XG) (y : MethodName) (b : ByteArray) (maxL : Nat) (rm : Room) (as : List Value) (P P' : va_W) : Prop := vx_Met (gl G) y (Cond.code y b maxL none :: lw_g) rm (YPc G as P) (YQc G P') YXc rm.cells rm.slots (xA G) ∧ P'.length = 1 + rm.cells ∧ CW (gb G) P'
theorem YPc_blind {G : XG} {as : List Value} {P : va_W} : FrameBlind (YPc G as P) := by
  intro a U g mk h
  obtain ⟨h1, ⟨⟨h2, h3, h4, h5⟩, hao⟩, h7, h6⟩ := h
  exact ⟨h1, ⟨⟨h2, va_K.moved (u := U) (U := U.calling g mk a) (Vm.Alike.refl U.vm) h3, XN.same (u := U) (U := U.calling g mk a) rfl h4, XT.moved (u := U) (U := U.calling g mk a) (Vm.Alike.refl U.vm) h5⟩, fun C hC => va_AO.moved (u := U) (U := U.calling g mk a) (Vm.Alike.refl U.vm) (hao C hC)⟩, h7, h6⟩
theorem y_start {G : XG} {y : MethodName} {cc : ByteArray} {maxL : Nat} {rm : Room} {as : List Value} {a0 : Nat} {e0 : va_E} {P' : va_W} {lv : List (Nat × Value)} {own : String} (hy : plainName y.cls = true) (ho : y.cls = own) (hi : y.name = "<init>") (hlen : (lg_sl as).length ≤ maxL) (hlv : lv_args 0 as = lv) (hP' : P'.length = 1 + rm.cells) (hC' : CW (gb G) P') (ha0 : a0 = gb G)
    (body : ∀ B : XB, YC G B cc own rm maxL P' → YW G B maxL 0 lv [] [(a0, e0)] 0 0) : YM G y cc maxL rm as [(a0, e0)] P' := by
  subst ho
  subst ha0
  refine ⟨vx_ofW (cc := cc) (maxL := maxL) (ret := none) hy rfl ?_, hP', hC'⟩
  intro p e s m args below meth c s₁ B hml ht hv
  obtain ⟨rfl, hU, hz, hP⟩ := hv
  have hts : ∀ w ∈ lw_g, w.before as.toArray s = true := fun w hw => atoms_spec (ws := Cond.code y cc maxL none :: lw_g) B.pre w (List.mem_cons_of_mem _ hw)
  have k := body (p, e, rm, s, m, as.toArray, below, meth, c, vx_MQ below (YQc G P') YXc as.toArray s rm.cells rm.slots (xA G)) ⟨B.exec, B.bytes, hml, findClass_of_methodNamed B.named, hts, hU, by rw [← hi]; exact (name_of_methodNamed B.named B.method).1, B.notSynchronized, rfl, B.returns, hz, ht, rfl⟩
  have hl := lv_entry as (n := maxL) hlen
  rw [hlv] at hl
  rw [lg_entry_eq]
  exact k s.heap [] _ hz rfl (CW.one _ _) hP va_S.rf hl
theorem y_sz {p : Program} {l : Launch} {e : Env} {R : Room} {s : State} {m : MethodId} {args : Array Value} {below : List Frame} {meth : Method} {c : Code} {H : Heap} {locs : List Loc} {cu su : Nat} {Q : State → Prop} {g : JFrame} {D : va_G} {b : Nat} {P : va_W} (hs : s.heap.size = b + 1) (hP : va_P D vwCl P H) (hC : CW b P) (hl : P.length = 1 + cu) (k : H.size = b + P.length → W p l e R s m args below meth c H locs cu su Q g) : W p l e R s m args below meth c H locs cu su Q g := by
  intro T hT X
  have h1 := X.heapSize
  rw [hT] at h1
  have h2 : b + cu < H.size := by
    have hcu : cu < P.length := by omega
    have h3 : P[cu]? = some P[cu] := List.getElem?_eq_getElem hcu
    have h4 := (hP cu _ h3).lt
    rw [hC cu _ h3] at h4
    exact h4
  exact k (by omega) T hT X
theorem y_iconst {G : XG} {B : XB} {cc : ByteArray} {own : String} {rm : Room} {nL : Nat} {P9 : va_W} (C : YC G B cc own rm nL P9) {pc : Nat} {lv : List (Nat × Value)} {st : List Value} {Ω : va_W} {cu su : Nat} {n : Int} {v : Int32} (hd : decode cc pc = .ok (.iconst n, 1)) (hv : Int32.ofInt n = v) {pc2 : Nat} (hp : pc + 1 = pc2) (k : YW G B nL pc2 lv (.int v :: st) Ω cu su) : YW G B nL pc lv st Ω cu su := by
  obtain ⟨p, e, R, s, m, args, below, meth, c, Q⟩ := B
  obtain ⟨hx, hb, hml, ho, hts, hU, hin, hlk, hR, hret, hz0, htab, hQ⟩ := C
  subst hp
  intro H locs ls hz hln hC hP hS hl
  exact lv_iconst hx hb hd hv (k H locs ls hz hln hC hP hS hl)
theorem y_bipush {G : XG} {B : XB} {cc : ByteArray} {own : String} {rm : Room} {nL : Nat} {P9 : va_W} (C : YC G B cc own rm nL P9) {pc : Nat} {lv : List (Nat × Value)} {st : List Value} {Ω : va_W} {cu su : Nat} {n : Int} {v : Int32} (hd : decode cc pc = .ok (.bipush n, 2)) (hv : (Int8.ofInt n).toInt32 = v) {pc2 : Nat} (hp : pc + 2 = pc2) (k : YW G B nL pc2 lv (.int v :: st) Ω cu su) : YW G B nL pc lv st Ω cu su := by
  obtain ⟨p, e, R, s, m, args, below, meth, c, Q⟩ := B
  obtain ⟨hx, hb, hml, ho, hts, hU, hin, hlk, hR, hret, hz0, htab, hQ⟩ := C
  subst hp
  intro H locs ls hz hln hC hP hS hl
  exact lv_bipush hx hb hd hv (k H locs ls hz hln hC hP hS hl)
theorem y_sipush {G : XG} {B : XB} {cc : ByteArray} {own : String} {rm : Room} {nL : Nat} {P9 : va_W} (C : YC G B cc own rm nL P9) {pc : Nat} {lv : List (Nat × Value)} {st : List Value} {Ω : va_W} {cu su : Nat} {n : Int} {v : Int32} (hd : decode cc pc = .ok (.sipush n, 3)) (hv : (Int16.ofInt n).toInt32 = v) {pc2 : Nat} (hp : pc + 3 = pc2) (k : YW G B nL pc2 lv (.int v :: st) Ω cu su) : YW G B nL pc lv st Ω cu su := by
  obtain ⟨p, e, R, s, m, args, below, meth, c, Q⟩ := B
  obtain ⟨hx, hb, hml, ho, hts, hU, hin, hlk, hR, hret, hz0, htab, hQ⟩ := C
  subst hp
  intro H locs ls hz hln hC hP hS hl
  exact lv_sipush hx hb hd hv (k H locs ls hz hln hC hP hS hl)
theorem y_aload_n {G : XG} {B : XB} {cc : ByteArray} {own : String} {rm : Room} {nL : Nat} {P9 : va_W} (C : YC G B cc own rm nL P9) {pc : Nat} {lv : List (Nat × Value)} {st : List Value} {Ω : va_W} {cu su : Nat} {n : Fin 4} {i : Nat} {x : Nat} (hd : decode cc pc = .ok (.aload_n n, 1)) (q : Nat) (hq : lv[q]? = some (i, .ref x)) (hi : (n : Nat) = i) {pc2 : Nat} (hp : pc + 1 = pc2) (k : YW G B nL pc2 lv (.ref x :: st) Ω cu su) : YW G B nL pc lv st Ω cu su := by
  obtain ⟨p, e, R, s, m, args, below, meth, c, Q⟩ := B
  obtain ⟨hx, hb, hml, ho, hts, hU, hin, hlk, hR, hret, hz0, htab, hQ⟩ := C
  subst hp
  intro H locs ls hz hln hC hP hS hl
  exact lv_aload_n hx hb hd hi (lv_at hl q hq) (k H locs ls hz hln hC hP hS hl)
theorem y_iload_n {G : XG} {B : XB} {cc : ByteArray} {own : String} {rm : Room} {nL : Nat} {P9 : va_W} (C : YC G B cc own rm nL P9) {pc : Nat} {lv : List (Nat × Value)} {st : List Value} {Ω : va_W} {cu su : Nat} {n : Fin 4} {i : Nat} {x : Int32} (hd : decode cc pc = .ok (.iload_n n, 1)) (q : Nat) (hq : lv[q]? = some (i, .int x)) (hi : (n : Nat) = i) {pc2 : Nat} (hp : pc + 1 = pc2) (k : YW G B nL pc2 lv (.int x :: st) Ω cu su) : YW G B nL pc lv st Ω cu su := by
  obtain ⟨p, e, R, s, m, args, below, meth, c, Q⟩ := B
  obtain ⟨hx, hb, hml, ho, hts, hU, hin, hlk, hR, hret, hz0, htab, hQ⟩ := C
  subst hp
  intro H locs ls hz hln hC hP hS hl
  exact lv_iload_n hx hb hd hi (lv_at hl q hq) (k H locs ls hz hln hC hP hS hl)
theorem y_dup {G : XG} {B : XB} {cc : ByteArray} {own : String} {rm : Room} {nL : Nat} {P9 : va_W} (C : YC G B cc own rm nL P9) {pc : Nat} {lv : List (Nat × Value)} {st : List Value} {Ω : va_W} {cu su : Nat} {v : Value} (hd : decode cc pc = .ok (.dup, 1)) (hv : v.category = 1) {pc2 : Nat} (hp : pc + 1 = pc2) (k : YW G B nL pc2 lv (v :: v :: st) Ω cu su) : YW G B nL pc lv (v :: st) Ω cu su := by
  obtain ⟨p, e, R, s, m, args, below, meth, c, Q⟩ := B
  obtain ⟨hx, hb, hml, ho, hts, hU, hin, hlk, hR, hret, hz0, htab, hQ⟩ := C
  subst hp
  intro H locs ls hz hln hC hP hS hl
  exact lv_dup hx hb hd hv (k H locs ls hz hln hC hP hS hl)
theorem y_astore_n {G : XG} {B : XB} {cc : ByteArray} {own : String} {rm : Room} {nL : Nat} {P9 : va_W} (C : YC G B cc own rm nL P9) {pc : Nat} {lv : List (Nat × Value)} {st : List Value} {Ω : va_W} {cu su : Nat} {n : Fin 4} {i : Nat} {x : Nat} {lv2 : List (Nat × Value)} (hd : decode cc pc = .ok (.astore_n n, 1)) (hi : (n : Nat) = i) (hn : i < nL) (h2 : (i, Value.ref x) :: lv.filter (fun q => !(q.1 == i) && !(q.1 + 1 == i && q.2.category == 2)) = lv2) {pc2 : Nat} (hp : pc + 1 = pc2) (k : YW G B nL pc2 lv2 st Ω cu su) : YW G B nL pc lv (.ref x :: st) Ω cu su := by
  obtain ⟨p, e, R, s, m, args, below, meth, c, Q⟩ := B
  obtain ⟨hx, hb, hml, ho, hts, hU, hin, hlk, hR, hret, hz0, htab, hQ⟩ := C
  subst hp
  intro H locs ls hz hln hC hP hS hl
  exact lv_astore_n hx hb hd hi hl hn h2 (fun ls2 hl2 => k H locs ls2 hz hln hC hP hS hl2)
theorem y_istore_n {G : XG} {B : XB} {cc : ByteArray} {own : String} {rm : Room} {nL : Nat} {P9 : va_W} (C : YC G B cc own rm nL P9) {pc : Nat} {lv : List (Nat × Value)} {st : List Value} {Ω : va_W} {cu su : Nat} {n : Fin 4} {i : Nat} {x : Int32} {lv2 : List (Nat × Value)} (hd : decode cc pc = .ok (.istore_n n, 1)) (hi : (n : Nat) = i) (hn : i < nL) (h2 : (i, Value.int x) :: lv.filter (fun q => !(q.1 == i) && !(q.1 + 1 == i && q.2.category == 2)) = lv2) {pc2 : Nat} (hp : pc + 1 = pc2) (k : YW G B nL pc2 lv2 st Ω cu su) : YW G B nL pc lv (.int x :: st) Ω cu su := by
  obtain ⟨p, e, R, s, m, args, below, meth, c, Q⟩ := B
  obtain ⟨hx, hb, hml, ho, hts, hU, hin, hlk, hR, hret, hz0, htab, hQ⟩ := C
  subst hp
  intro H locs ls hz hln hC hP hS hl
  exact lv_istore_n hx hb hd hi hl hn h2 (fun ls2 hl2 => k H locs ls2 hz hln hC hP hS hl2)
theorem y_icmp_ge {G : XG} {B : XB} {cc : ByteArray} {own : String} {rm : Room} {nL : Nat} {P9 : va_W} (C : YC G B cc own rm nL P9) {pc : Nat} {lv : List (Nat × Value)} {st : List Value} {Ω : va_W} {cu su : Nat} {x y : Int32} {off : Int} {tgt : Nat} (hd : decode cc pc = .ok (.if_icmp .ge off, 3)) (ht : (pc : Int) + off = (tgt : Int)) {pc2 : Nat} (hp : pc + 3 = pc2) (kt : y ≤ x → YW G B nL tgt lv st Ω cu su) (kf : ¬ y ≤ x → YW G B nL pc2 lv st Ω cu su) : YW G B nL pc lv (.int y :: .int x :: st) Ω cu su := by
  obtain ⟨p, e, R, s, m, args, below, meth, c, Q⟩ := B
  obtain ⟨hx, hb, hml, ho, hts, hU, hin, hlk, hR, hret, hz0, htab, hQ⟩ := C
  subst hp
  intro H locs ls hz hln hC hP hS hl
  exact lv_icmp_ge hx hb hd ht (fun h => kt h H locs ls hz hln hC hP hS hl) (fun h => kf h H locs ls hz hln hC hP hS hl)
theorem y_iinc {G : XG} {B : XB} {cc : ByteArray} {own : String} {rm : Room} {nL : Nat} {P9 : va_W} (C : YC G B cc own rm nL P9) {pc : Nat} {lv : List (Nat × Value)} {st : List Value} {Ω : va_W} {cu su : Nat} {i : Nat} {n : Int} {x v : Int32} {lv2 : List (Nat × Value)} (hd : decode cc pc = .ok (.iinc i n, 3)) (q : Nat) (hq : lv[q]? = some (i, .int x)) (hv : x + Int32.ofInt n = v) (hn : i < nL) (h2 : (i, Value.int v) :: lv.filter (fun q => !(q.1 == i) && !(q.1 + 1 == i && q.2.category == 2)) = lv2) {pc2 : Nat} (hp : pc + 3 = pc2) (k : YW G B nL pc2 lv2 st Ω cu su) : YW G B nL pc lv st Ω cu su := by
  obtain ⟨p, e, R, s, m, args, below, meth, c, Q⟩ := B
  obtain ⟨hx, hb, hml, ho, hts, hU, hin, hlk, hR, hret, hz0, htab, hQ⟩ := C
  subst hp
  intro H locs ls hz hln hC hP hS hl
  exact lv_iinc hx hb hd hl hq hv hn h2 (fun ls2 hl2 => k H locs ls2 hz hln hC hP hS hl2)
theorem y_goto {G : XG} {B : XB} {cc : ByteArray} {own : String} {rm : Room} {nL : Nat} {P9 : va_W} (C : YC G B cc own rm nL P9) {pc : Nat} {lv : List (Nat × Value)} {st : List Value} {Ω : va_W} {cu su : Nat} {off : Int} {tgt : Nat} (hd : decode cc pc = .ok (.goto off, 3)) (ht : (pc : Int) + off = (tgt : Int)) (k : YW G B nL tgt lv st Ω cu su) : YW G B nL pc lv st Ω cu su := by
  obtain ⟨p, e, R, s, m, args, below, meth, c, Q⟩ := B
  obtain ⟨hx, hb, hml, ho, hts, hU, hin, hlk, hR, hret, hz0, htab, hQ⟩ := C
  intro H locs ls hz hln hC hP hS hl
  exact lv_goto hx hb hd ht (k H locs ls hz hln hC hP hS hl)
theorem y_sub {G : XG} {B : XB} {cc : ByteArray} {own : String} {rm : Room} {nL : Nat} {P9 : va_W} (C : YC G B cc own rm nL P9) {pc : Nat} {lv : List (Nat × Value)} {st : List Value} {Ω : va_W} {cu su : Nat} {lv2 : List (Nat × Value)} (ks : List Nat) (h2 : lv_pick lv ks = lv2) (k : YW G B nL pc lv2 st Ω cu su) : YW G B nL pc lv st Ω cu su := by
  obtain ⟨p, e, R, s, m, args, below, meth, c, Q⟩ := B
  obtain ⟨hx, hb, hml, ho, hts, hU, hin, hlk, hR, hret, hz0, htab, hQ⟩ := C
  intro H locs ls hz hln hC hP hS hl
  exact k H locs ls hz hln hC hP hS (lv_sub hl ks h2)
theorem y_objInit {G : XG} {B : XB} {cc : ByteArray} {own : String} {rm : Room} {nL : Nat} {P9 : va_W} (C : YC G B cc own rm nL P9) {pc : Nat} {lv : List (Nat × Value)} {st : List Value} {P : va_W} {cu su : Nat} {a idx : Nat} (hl0 : Cond.methodLink own idx objectInit ∈ lw_g) (hd : decode cc pc = .ok (.invokespecial idx, 3)) (hfr : 1 ≤ rm.frames) (hlo : 12 + (st.map fun v => v.category).sum ≤ rm.locals) {pc2 : Nat} (hp : pc + 3 = pc2) (k : YW G B nL pc2 lv st P cu su) : YW G B nL pc lv (.ref a :: st) P cu su := by
  obtain ⟨p, e, R, s, m, args, below, meth, c, Q⟩ := B
  obtain ⟨hx, hb, hml, ho, hts, hU, hin, hlk, hR, hret, hz0, htab, hQ⟩ := C
  subst hp
  subst hR
  intro H locs ls hz hn hC hP hS hl
  refine W.objInit hx hb ho (hts _ hl0) (hts _ yo_1) (hts _ yo_2) rfl (by rw [hml]; exact hl.1) rfl hd hfr ?_ ?_
  · show 2 * 0 + (st.map fun v => v.category).sum + 12 ≤ R.locals
    omega
  · exact k H locs ls hz hn hC hP hS hl
/-- an object's fields at first -/
theorem y_new {G : XG} {B : XB} {cc : ByteArray} {own : String} {rm : Room} {nL : Nat} {P9 : va_W} (C : YC G B cc own rm nL P9) {pc : Nat} {lv : List (Nat × Value)} {st : List Value} {P : va_W} {cu su : Nat} {kd idx q : Nat} {fs : List Value} {nm : String} {nf : Nat} (hk : kd < 11) (hnm : cnm kd = nm) (hnf : cN kd = nf) (hcl : Cond.classLink own idx nm ∈ lw_g) (hinst : Cond.instantiable nm nf ∈ lw_g) (hini : Cond.initialized nm ∈ lw_g) (hd : decode cc pc = .ok (.new idx, 3)) (hfs : ∀ j, j < nf → defaultValue (cty kd j) = vp_V fs j) (hcu : cu + 1 ≤ rm.cells) (hsu : su + nf ≤ rm.slots) (hq : gb G + P.length = q) {pc2 cu2 su2 : Nat} (hp : pc + 3 = pc2) (hcu2 : cu + 1 = cu2) (hsu2 : su + nf = su2) (k : YW G B nL pc2 lv (.ref q :: st) (P ++ [(q, .inr (kd, fs))]) cu2 su2) : YW G B nL pc lv st P cu su := by
  obtain ⟨p, e, R, s, m, args, below, meth, c, Q⟩ := B
  obtain ⟨hx, hb, hml, ho, hts, hU, hin, hlk, hR, hret, hz0, htab, hQ⟩ := C
  subst hp
  subst hR
  subst hcu2
  subst hsu2
  subst hnm
  subst hnf
  intro H locs ls hz hn hC hP hS hl
  have hKn := hU.1.2.1.1 kd _ (cl_at hk)
  refine W.newcK hx hb ho (hts _ hcl) (hts _ hinst) (hts _ hini) rfl hd hcu hsu hKn.2.1 (hz.trans hq) fun H1 kC hkC e1 z1 o1 => ?_
  have hb2 : q = H.size := (hz.trans hq).symm
  have hkp : ∀ (k : Nat) (x : Nat × va_E), P[k]? = some x → H1[x.1]? = H[x.1]? := fun k x hx => o1 x.1 (by rw [hb2]; exact (hP k x hx).lt)
  refine k H1 locs ls ?_ ?_ (hC.push hq) ((hP.kept hkp).app (fun k x hx => ?_)) ⟨by rw [z1, hb2]; exact Nat.le_trans hS.1 (by omega), fun x h1 h2 => (o1 x (by rw [hb2]; exact Nat.lt_of_lt_of_le h1 hS.1)).trans (hS.2.1 x h1 h2), hS.2.2⟩ hl
  · rw [z1, List.length_append, List.length_singleton]; omega
  · rw [List.length_append, List.length_singleton]; omega
  · have hz : k < 1 := (List.getElem?_eq_some_iff.mp hx).1
    rw [show k = 0 by omega] at hx
    cases hx
    exact ⟨_, cl_at hk, (u_born (cty kd) hts (cl_ws hk) hKn hkC e1 (cl_ty hk)).to hfs⟩
theorem y_newai {G : XG} {B : XB} {cc : ByteArray} {own : String} {rm : Room} {nL : Nat} {P9 : va_W} (C : YC G B cc own rm nL P9) {pc : Nat} {lv : List (Nat × Value)} {st : List Value} {P : va_W} {cu su : Nat} {n : Int32} {N q : Nat} (hd : decode cc pc = .ok (.newarray .int, 2)) (hn0 : ¬ n < 0) (hN : n.toNatClampNeg = N) (hby : N * 8 ≤ 536870912) (hcu : cu + 1 ≤ rm.cells) (hsu : su + N ≤ rm.slots) (hq : gb G + P.length = q) {pc2 cu2 su2 : Nat} (hp : pc + 2 = pc2) (hcu2 : cu + 1 = cu2) (hsu2 : su + N = su2) (k : YW G B nL pc2 lv (.ref q :: st) (P ++ [(q, .inl (gC G 0, N, .inl (fun _ => 0)))]) cu2 su2) : YW G B nL pc lv (.int n :: st) P cu su := by
  obtain ⟨p, e, R, s, m, args, below, meth, c, Q⟩ := B
  obtain ⟨hx, hb, hml, ho, hts, hU, hin, hlk, hR, hret, hz0, htab, hQ⟩ := C
  subst hp
  subst hR
  subst hcu2
  subst hsu2
  intro H locs ls hz hn hC hP hS hl
  refine va_newaK (atype := .int) hx hb (hts _ ya_int) rfl hd rfl hn0 hN (Nat.le_trans (Nat.mul_le_mul_left N (by decide)) hby) hcu hsu (hz.trans hq) fun H1 cA e1 z1 o1 hAr hNm => ?_
  have hK := (hU.1.2.1.2 0 _ rfl).2
  have hcA : cA = gC G 0 := Option.some.inj (hNm.symm.trans hK)
  subst hcA
  have hb2 : q = H.size := (hz.trans hq).symm
  have hkp : ∀ (k : Nat) (x : Nat × va_E), P[k]? = some x → H1[x.1]? = H[x.1]? := fun k x hx => o1 x.1 (by rw [hb2]; exact (hP k x hx).lt)
  refine k H1 locs ls ?_ ?_ (hC.push hq) ((hP.kept hkp).app (fun k x hx => ?_)) ⟨by rw [z1, hb2]; exact Nat.le_trans hS.1 (by omega), fun x h1 h2 => (o1 x (by rw [hb2]; exact Nat.lt_of_lt_of_le h1 hS.1)).trans (hS.2.1 x h1 h2), hS.2.2⟩ hl
  · rw [z1, List.length_append, List.length_singleton]; omega
  · rw [List.length_append, List.length_singleton]; omega
  · have hz : k < 1 := (List.getElem?_eq_some_iff.mp hx).1
    rw [show k = 0 by omega] at hx
    cases hx
    exact e1
theorem y_newq {G : XG} {B : XB} {cc : ByteArray} {own : String} {rm : Room} {nL : Nat} {P9 : va_W} (C : YC G B cc own rm nL P9) {pc : Nat} {lv : List (Nat × Value)} {st : List Value} {P : va_W} {cu su : Nat} {n : Int32} {N q t idx : Nat} {nm : String} (ht : (tysOf G)[t]? = some (gC G t, .object nm)) (hao : nm ∈ xao) (hcl : Cond.classLink own idx nm ∈ lw_g) (hd : decode cc pc = .ok (.anewarray idx, 3)) (hn0 : ¬ n < 0) (hN : n.toNatClampNeg = N) (hby : N * 4 ≤ 536870912) (hcu : cu + 1 ≤ rm.cells) (hsu : su + N ≤ rm.slots) (hq : gb G + P.length = q) {pc2 cu2 su2 : Nat} (hp : pc + 3 = pc2) (hcu2 : cu + 1 = cu2) (hsu2 : su + N = su2) (k : YW G B nL pc2 lv (.ref q :: st) (P ++ [(q, .inl (gC G t, N, .inr (.inr (.inr (.inr (fun _ => none))))))]) cu2 su2) : YW G B nL pc lv (.int n :: st) P cu su := by
  obtain ⟨p, e, R, s, m, args, below, meth, c, Q⟩ := B
  obtain ⟨hx, hb, hml, ho, hts, hU, hin, hlk, hR, hret, hz0, htab, hQ⟩ := C
  subst hp
  subst hR
  subst hcu2
  subst hsu2
  subst hN
  intro H locs ls hz hn hC hP hS hl
  refine W.anew hx hb ho (hts _ hcl) (va_AO.use (hU.2 _ hao)) rfl hd rfl hn0 hby hcu hsu fun cA kA comp f1 f2 f3 f4 => ?_
  obtain ⟨kA2, comp2, g1, g2, g3, g4⟩ := (hU.1.2.1.2 t _ ht).2
  have hcA : cA = gC G t := Option.some.inj (f1.symm.trans g4)
  subst hcA
  have hb2 : q = H.size := (hz.trans hq).symm
  generalize hH1 : H.push ({ cls := gC G t, slots := Array.replicate n.toNatClampNeg .null, vm := .none } : Cell) = H1
  have z1 : H1.size = H.size + 1 := by rw [← hH1, Array.size_push]
  have e1 : H1[H.size]? = some (arrV (gC G t) n.toNatClampNeg (fun _ => .null)) := by rw [← hH1, Array.getElem?_push_size, ← arrV_new]
  have o1 : ∀ q : Nat, q < H.size → H1[q]? = H[q]? := fun q hq => by rw [← hH1, Array.getElem?_push, if_neg (Nat.ne_of_lt hq)]
  have hkp : ∀ (k : Nat) (x : Nat × va_E), P[k]? = some x → H1[x.1]? = H[x.1]? := fun k x hx => o1 x.1 ((hP k x hx).lt)
  rw [← hb2]
  refine k H1 locs ls ?_ ?_ (hC.push hq) ((hP.kept hkp).app (fun k x hx => ?_)) ⟨by rw [z1]; exact Nat.le_trans hS.1 (by omega), fun x h1 h2 => (o1 x (Nat.lt_of_lt_of_le h1 hS.1)).trans (hS.2.1 x h1 h2), hS.2.2⟩ hl
  · rw [z1, List.length_append, List.length_singleton]; omega
  · rw [List.length_append, List.length_singleton]; omega
  · have hz : k < 1 := (List.getElem?_eq_some_iff.mp hx).1
    rw [show k = 0 by omega] at hx
    cases hx
    show H1[q]? = some (vp_cell _ _)
    rw [vp_cell_q, hb2]
    exact e1
theorem y_putF {G : XG} {B : XB} {cc : ByteArray} {own : String} {rm : Room} {nL : Nat} {P9 : va_W} (C : YC G B cc own rm nL P9) {pc : Nat} {lv : List (Nat × Value)} {st : List Value} {P : va_W} {cu su : Nat} {kd j q0 idx a : Nat} {fs : List Value} {v : Value} {P2 : va_W} (he : P[q0]? = some (a, .inr (kd, fs))) (hk : kd < 11) (hj : j < cN kd) (hw : XF own idx kd j) (hfin : (cT kd j).2.2.2 = true) (how : cnm kd = own) (hn1 : narrow (cty kd j) v = v) (hn2 : fits (cty kd j) v = true) (hlf : fs.length = cN kd) (hd : decode cc pc = .ok (.putfield idx, 3)) (hP2 : P.set q0 (a, .inr (kd, fs.set j v)) = P2) {pc2 : Nat} (hp : pc + 3 = pc2) (k : YW G B nL pc2 lv st P2 cu su) : YW G B nL pc lv (v :: .ref a :: st) P cu su := by
  obtain ⟨p, e, R, s, m, args, below, meth, c, Q⟩ := B
  obtain ⟨hx, hb, hml, ho, hts, hU, hin, hlk, hR, hret, hz0, htab, hQ⟩ := C
  subst hp
  subst hP2
  intro H locs ls hz hn hC hP hS hl
  refine va_putF (D := gD G) (A := xA G) (v := v) (ty := cty kd j) (C := cnm kd) (T := cT kd) (N := cN kd) hx hb hts (cl_ws hk) (cty kd) (cl_ty hk) (cl_nm hk) ho hU.1.2.1 hP hC.D hS q0 he (cl_at hk) j hj (hts _ hw) (by rw [cT_own hk hj]; exact fun _ h9 => h9) hfin hin (by rw [cT_own hk hj]; exact how) (cl_ty hk j hj) hn1 hn2 (by rw [hlf]; exact hj) hd (fun H1 locs1 hP1 _ hS1 => ?_)
  have hl1 : (P.set q0 (a, .inr (kd, fs.set j v))).length = 1 + cu := by rw [List.length_set]; exact hn
  refine y_sz hz0 hP1 (hC.set he) hl1 fun hz1 => ?_
  exact k H1 locs1 ls hz1 hl1 (hC.set he) hP1 hS1 hl
theorem y_put {G : XG} {B : XB} {cc : ByteArray} {own : String} {rm : Room} {nL : Nat} {P9 : va_W} (C : YC G B cc own rm nL P9) {pc : Nat} {lv : List (Nat × Value)} {st : List Value} {P : va_W} {cu su : Nat} {kd j q0 idx a : Nat} {fs : List Value} {v : Value} {P2 : va_W} (he : P[q0]? = some (a, .inr (kd, fs))) (hk : kd < 11) (hj : j < cN kd) (hw : XF own idx kd j) (hfin : (cT kd j).2.2.2 = false) (how : cnm kd = own) (hn1 : narrow (cty kd j) v = v) (hn2 : fits (cty kd j) v = true) (hlf : fs.length = cN kd) (hd : decode cc pc = .ok (.putfield idx, 3)) (hP2 : P.set q0 (a, .inr (kd, fs.set j v)) = P2) {pc2 : Nat} (hp : pc + 3 = pc2) (k : YW G B nL pc2 lv st P2 cu su) : YW G B nL pc lv (v :: .ref a :: st) P cu su := by
  obtain ⟨p, e, R, s, m, args, below, meth, c, Q⟩ := B
  obtain ⟨hx, hb, hml, ho, hts, hU, hin, hlk, hR, hret, hz0, htab, hQ⟩ := C
  subst hp
  subst hP2
  intro H locs ls hz hn hC hP hS hl
  refine va_put (D := gD G) (A := xA G) (v := v) (ty := cty kd j) (C := cnm kd) (T := cT kd) (N := cN kd) hx hb hts (cl_ws hk) (cty kd) (cl_ty hk) (cl_nm hk) ho hU.1.2.1 hP hC.D hS q0 he (cl_at hk) j hj (hts _ hw) (by rw [cT_own hk hj]; exact fun _ h9 => h9) hfin (cl_ty hk j hj) hn1 hn2 (by rw [hlf]; exact hj) hd (fun H1 locs1 hP1 _ hS1 => ?_)
  have hl1 : (P.set q0 (a, .inr (kd, fs.set j v))).length = 1 + cu := by rw [List.length_set]; exact hn
  refine y_sz hz0 hP1 (hC.set he) hl1 fun hz1 => ?_
  exact k H1 locs1 ls hz1 hl1 (hC.set he) hP1 hS1 hl
theorem y_get {G : XG} {B : XB} {cc : ByteArray} {own : String} {rm : Room} {nL : Nat} {P9 : va_W} (C : YC G B cc own rm nL P9) {pc : Nat} {lv : List (Nat × Value)} {st : List Value} {P : va_W} {cu su : Nat} {kd j q0 idx a : Nat} {fs : List Value} {v : Value} (he : P[q0]? = some (a, .inr (kd, fs))) (hk : kd < 11) (hj : j < cN kd) (hw : XF own idx kd j) (hv : fs[j]? = some v) (hd : decode cc pc = .ok (.getfield idx, 3)) {pc2 : Nat} (hp : pc + 3 = pc2) (k : YW G B nL pc2 lv (v :: st) P cu su) : YW G B nL pc lv (.ref a :: st) P cu su := by
  obtain ⟨p, e, R, s, m, args, below, meth, c, Q⟩ := B
  obtain ⟨hx, hb, hml, ho, hts, hU, hin, hlk, hR, hret, hz0, htab, hQ⟩ := C
  subst hp
  intro H locs ls hz hn hC hP hS hl
  refine va_get (D := gD G) (C := cnm kd) (T := cT kd) (N := cN kd) hx hb hts (cl_ws hk) ho hU.1.2.1 hP q0 he (cl_at hk) j hj (hts _ hw) (by rw [cT_own hk hj]; exact fun _ h9 => h9) hv hd ?_
  exact k H locs ls hz hn hC hP hS hl
theorem y_aast {G : XG} {B : XB} {cc : ByteArray} {own : String} {rm : Room} {nL : Nat} {P9 : va_W} (C : YC G B cc own rm nL P9) {pc : Nat} {lv : List (Nat × Value)} {st : List Value} {P : va_W} {cu su : Nat} {q0 qk t ci a v N N2 : Nat} {vs : List Value} {f : Nat → Option Nat} {j : Int32} {P2 : va_W} (he : P[q0]? = some (a, .inl (gC G t, N, .inr (.inr (.inr (.inr f)))))) (hv : P[qk]? = some (v, .inr (ci, vs))) (hk : ci < 11) (ht : (tysOf G)[t]? = some (gC G t, .object (cnm ci))) (hinj : vp_in j N) (hj : j.toNatClampNeg = N2) (hd : decode cc pc = .ok (.aastore, 1)) (hP2 : P.set q0 (a, .inl (gC G t, N, .inr (.inr (.inr (.inr (va_up f N2 (some v))))))) = P2) {pc2 : Nat} (hp : pc + 1 = pc2) (k : YW G B nL pc2 lv st P2 cu su) : YW G B nL pc lv (.ref v :: .int j :: .ref a :: st) P cu su := by
  obtain ⟨p, e, R, s, m, args, below, meth, c, Q⟩ := B
  obtain ⟨hx, hb, hml, ho, hts, hU, hin, hlk, hR, hret, hz0, htab, hQ⟩ := C
  subst hp
  subst hP2
  subst hj
  intro H locs ls hz hn hC hP hS hl
  refine va_astq (A := xA G) hx hb hU.1.2.1 hP hC.D hS q0 t qk ci he (r := (cnm ci, cT ci, cN ci)) ht hv (cl_at hk) hinj hd (fun H1 locs1 hP1 _ hS1 => ?_)
  have hl1 : (P.set q0 (a, .inl (gC G t, N, .inr (.inr (.inr (.inr (va_up f j.toNatClampNeg (some v)))))))).length = 1 + cu := by rw [List.length_set]; exact hn
  refine y_sz hz0 hP1 (hC.set he) hl1 fun hz1 => ?_
  exact k H1 locs1 ls hz1 hl1 (hC.set he) hP1 hS1 hl
theorem y_cI {G : XG} {B : XB} {cc : ByteArray} {own : String} {rm : Room} {nL : Nat} {P9 : va_W} (C : YC G B cc own rm nL P9) {pc : Nat} {lv : List (Nat × Value)} {st : List Value} {P : va_W} {cu su : Nat} {y : MethodName} {b2 : ByteArray} {mL2 n idx q : Nat} {rm2 : Room} {As rest : List Value} {P2 : va_W} {e0 : va_E} (hl0 : Cond.methodLink own idx y ∈ lw_g) (hm : XMI y b2 mL2 n) (hM : YM (Gat G q) y b2 mL2 rm2 (.ref q :: As) [(q, e0)] P2) (hq : gb G + P.length = q) (hn : As.length = n) (hst : st = As.reverse ++ .ref q :: rest) (hw : (rest.map fun v => v.category).sum ≤ 8) (hR1 : rm2.frames + 1 ≤ rm.frames ∧ 8 + (mL2 + 11) + rm2.locals ≤ rm.locals) (hR2 : cu + rm2.cells ≤ rm.cells ∧ su + rm2.slots ≤ rm.slots) (hd : decode cc pc = .ok (.invokespecial idx, 3)) {pc2 cu2 su2 : Nat} (hp : pc + 3 = pc2) (hcu2 : cu + rm2.cells = cu2) (hsu2 : su + rm2.slots = su2) (k : YW G B nL pc2 lv rest (P ++ P2) cu2 su2) : YW G B nL pc lv st (P ++ [(q, e0)]) cu su := by
  obtain ⟨p, e, R, s, m, args, below, meth, c, Q⟩ := B
  obtain ⟨hx, hb, hml, ho, hts, hU, hin, hlk, hR, hret, hz0, htab, hQ⟩ := C
  subst hp
  subst hst
  subst hR
  subst hcu2
  subst hsu2
  intro H locs ls hz hn9 hC hP hS hl
  have hlen : (P ++ [(q, e0)]).length = P.length + 1 := by rw [List.length_append, List.length_singleton]
  rw [hlen] at hz hn9
  have hcd := hm.2.2.1
  have hg : GoodIn lw_g (Cond.code y b2 mL2 none :: lw_g) := by
    intro z hz
    have hz2 : z ∈ lw_g := by
      rcases List.mem_cons.mp hz with rfl | hz
      · exact hcd
      · exact hz
    exact ⟨hz2, lw_good z hz2⟩
  have hPq : va_P (gD G) vwCl [(q, e0)] H := by
    intro k x hx
    have hk : k < 1 := (List.getElem?_eq_some_iff.mp hx).1
    have h0 := hP (P.length + k) x
    rw [List.getElem?_append_right (by omega), Nat.add_sub_cancel_left] at h0
    exact h0 hx
  have hr := vx_runI (e := e) (meth := meth) (below := below) (locs := locs) (nL := nL) ⟨hx, hb, hml, ho, hts⟩ hM.1 (cwI n hts hg rfl rfl rfl (hts _ hm.2.1) (hts _ hl0) (hts _ hm.1) hm.2.2.2.1 hm.2.2.2.2 hR1) ⟨YPc_blind, fun U hU2 hW => ⟨rfl, (hU.on hS hU2 hW).at (by show gb G ≤ q; omega) (by rw [hU2, hz]; omega), by show U.heap.size = q + 1; rw [hU2, hz]; omega, by rw [hU2]; exact hPq⟩⟩ (g := F0 m pc ls (As.reverse ++ .ref q :: rest)) rfl hn hl.1 rfl (lv_room hw) hd hR2
  intro X hTT X0
  rcases hr X hTT X0 with ⟨v, st₀, t, T', L, h0, X', hL, e1, e2, ⟨hv, hP2, hF⟩, stp⟩ | ⟨q9, st₀, t, T', L, E, ce, h0, X', hL, e1, e2, hb9, -⟩
  · cases hv
    have hsub : ∀ z, xA (Gat G q) z → xA G z := fun z hz1 => by
      show gb G ≤ z
      have hz2 : q ≤ z := hz1
      omega
    obtain ⟨k1, k2, k3⟩ := vx_keep h0 e1 hS (fun z _ h => hsub z h) (fun z h => h) (fun z h9 => hsub _ (hL z h9)) hF
    have hP0 : va_P (gD G) vwCl P T'.heap := by
      intro k x hx
      have hkl := (List.getElem?_eq_some_iff.mp hx).1
      have hx2 : (P ++ [(q, e0)])[k]? = some x := by rw [List.getElem?_append_left hkl]; exact hx
      have hxa := hC k x hx2
      refine (hP k x hx2).kept (k2 x.1 (by omega) ?_)
      intro h9
      have h10 : q ≤ x.1 := h9
      omega
    have hPP : va_P (gD G) vwCl (P ++ P2) T'.heap := hP0.app (by rw [e1]; exact hP2)
    have hCC : CW (gb G) (P ++ P2) := hC.left.app (by rw [hq]; exact hM.2.2)
    have hLL : (P ++ P2).length = 1 + (cu + rm2.cells) := by
      rw [List.length_append, hM.2.1]
      omega
    have kk := y_sz (p := p) (l := gl G) (e := e) (R := R) (s := s) (m := m) (args := args) (below := below) (meth := meth) (c := c) (locs := locs ++ L) (su := su + rm2.slots) (Q := Q) (g := F0 m (pc + 3) ls rest) hz0 hPP hCC hLL fun hz1 => k T'.heap (locs ++ L) ls hz1 hLL hCC hPP k3 hl
    obtain ⟨t2, a1, b1⟩ := kk T' rfl X'
    exact ⟨t2, stp t2 a1, b1⟩
  · exact hb9.elim
theorem y_cIN {G : XG} {B : XB} {cc : ByteArray} {own : String} {rm : Room} {nL : Nat} {P9 : va_W} (C : YC G B cc own rm nL P9) {pc : Nat} {lv : List (Nat × Value)} {st : List Value} {P : va_W} {cu su : Nat} {y : MethodName} {b2 : ByteArray} {mL2 n idx q : Nat} {rm2 : Room} {As rest : List Value} {P2 : va_W} {e0 : va_E} {host : String} (hl0 : (own, idx, y, host) ∈ xnm) (hm : XMI y b2 mL2 n) (hM : YM (Gat G q) y b2 mL2 rm2 (.ref q :: As) [(q, e0)] P2) (hq : gb G + P.length = q) (hn : As.length = n) (hst : st = As.reverse ++ .ref q :: rest) (hw : (rest.map fun v => v.category).sum ≤ 8) (hR1 : rm2.frames + 1 ≤ rm.frames ∧ 8 + (mL2 + 11) + rm2.locals ≤ rm.locals) (hR2 : cu + rm2.cells ≤ rm.cells ∧ su + rm2.slots ≤ rm.slots) (hd : decode cc pc = .ok (.invokespecial idx, 3)) {pc2 cu2 su2 : Nat} (hp : pc + 3 = pc2) (hcu2 : cu + rm2.cells = cu2) (hsu2 : su + rm2.slots = su2) (k : YW G B nL pc2 lv rest (P ++ P2) cu2 su2) : YW G B nL pc lv st (P ++ [(q, e0)]) cu su := by
  obtain ⟨p, e, R, s, m, args, below, meth, c, Q⟩ := B
  obtain ⟨hx, hb, hml, ho, hts, hU, hin, hlk, hR, hret, hz0, htab, hQ⟩ := C
  subst hp
  subst hst
  subst hR
  subst hcu2
  subst hsu2
  intro H locs ls hz hn9 hC hP hS hl
  have hlen : (P ++ [(q, e0)]).length = P.length + 1 := by rw [List.length_append, List.length_singleton]
  rw [hlen] at hz hn9
  have hcd := hm.2.2.1
  have hg : GoodIn lw_g (Cond.code y b2 mL2 none :: lw_g) := by
    intro z hz
    have hz2 : z ∈ lw_g := by
      rcases List.mem_cons.mp hz with rfl | hz
      · exact hcd
      · exact hz
    exact ⟨hz2, lw_good z hz2⟩
  have hPq : va_P (gD G) vwCl [(q, e0)] H := by
    intro k x hx
    have hk : k < 1 := (List.getElem?_eq_some_iff.mp hx).1
    have h0 := hP (P.length + k) x
    rw [List.getElem?_append_right (by omega), Nat.add_sub_cancel_left] at h0
    exact h0 hx
  have hr := vx_runIN (e := e) (meth := meth) (below := below) (locs := locs) (nL := nL) ⟨hx, hb, hml, ho, hts⟩ hM.1 ⟨va_cnB n hts hg rfl rfl rfl (hU.1.2.2.1.1 _ hl0) (hts _ hm.2.1) hm.2.2.2.2 hR1, hm.2.2.2.1, hts _ hm.1⟩ ⟨YPc_blind, fun U hU2 hW => ⟨rfl, (hU.on hS hU2 hW).at (by show gb G ≤ q; omega) (by rw [hU2, hz]; omega), by show U.heap.size = q + 1; rw [hU2, hz]; omega, by rw [hU2]; exact hPq⟩⟩ (g := F0 m pc ls (As.reverse ++ .ref q :: rest)) rfl hn hl.1 rfl (lv_room hw) hd hR2
  intro X hTT X0
  rcases hr X hTT X0 with ⟨v, st₀, t, T', L, h0, X', hL, e1, e2, ⟨hv, hP2, hF⟩, stp⟩ | ⟨q9, st₀, t, T', L, E, ce, h0, X', hL, e1, e2, hb9, -⟩
  · cases hv
    have hsub : ∀ z, xA (Gat G q) z → xA G z := fun z hz1 => by
      show gb G ≤ z
      have hz2 : q ≤ z := hz1
      omega
    obtain ⟨k1, k2, k3⟩ := vx_keep h0 e1 hS (fun z _ h => hsub z h) (fun z h => h) (fun z h9 => hsub _ (hL z h9)) hF
    have hP0 : va_P (gD G) vwCl P T'.heap := by
      intro k x hx
      have hkl := (List.getElem?_eq_some_iff.mp hx).1
      have hx2 : (P ++ [(q, e0)])[k]? = some x := by rw [List.getElem?_append_left hkl]; exact hx
      have hxa := hC k x hx2
      refine (hP k x hx2).kept (k2 x.1 (by omega) ?_)
      intro h9
      have h10 : q ≤ x.1 := h9
      omega
    have hPP : va_P (gD G) vwCl (P ++ P2) T'.heap := hP0.app (by rw [e1]; exact hP2)
    have hCC : CW (gb G) (P ++ P2) := hC.left.app (by rw [hq]; exact hM.2.2)
    have hLL : (P ++ P2).length = 1 + (cu + rm2.cells) := by
      rw [List.length_append, hM.2.1]
      omega
    have kk := y_sz (p := p) (l := gl G) (e := e) (R := R) (s := s) (m := m) (args := args) (below := below) (meth := meth) (c := c) (locs := locs ++ L) (su := su + rm2.slots) (Q := Q) (g := F0 m (pc + 3) ls rest) hz0 hPP hCC hLL fun hz1 => k T'.heap (locs ++ L) ls hz1 hLL hCC hPP k3 hl
    obtain ⟨t2, a1, b1⟩ := kk T' rfl X'
    exact ⟨t2, stp t2 a1, b1⟩
  · exact hb9.elim
theorem y_ret {G : XG} {B : XB} {cc : ByteArray} {own : String} {rm : Room} {nL : Nat} {P9 : va_W} (C : YC G B cc own rm nL P9) {pc : Nat} {lv : List (Nat × Value)} {P : va_W} {cu su : Nat} (hd : decode cc pc = .ok (.return_, 1)) (hcu : cu ≤ rm.cells) (hsu : su ≤ rm.slots) (hP9 : P = P9) : YW G B nL pc lv [] P cu su := by
  obtain ⟨p, e, R, s, m, args, below, meth, c, Q⟩ := B
  obtain ⟨hx, hb, hml, ho, hts, hU, hin, hlk, hR, hret, hz0, htab, hQ⟩ := C
  subst hP9
  subst hR
  subst hQ
  intro H locs ls hz hn hC hP hS hl
  refine W.widen (k := R.cells) (n := R.slots) hcu hsu (vx_ret ?_)
  exact W.vret hx hb hret (fun t ht hW => ⟨rfl, by rw [ht]; exact hP, hS.F ht⟩) hS.2.2 hd
theorem y_arr {G : XG} {B : XB} {nL pc : Nat} {lv : List (Nat × Value)} {st : List Value} {P P2 : va_W} {cu su q0 a N : Nat} {cA : ClassId} {f g : Nat → Option Nat} (he : P[q0]? = some (a, .inl (cA, N, .inr (.inr (.inr (.inr f)))))) (hfg : ∀ j, j < N → f j = g j) (hP2 : P.set q0 (a, .inl (cA, N, .inr (.inr (.inr (.inr g))))) = P2) (k : YW G B nL pc lv st P2 cu su) : YW G B nL pc lv st P cu su := by
  obtain ⟨p, e, R, s, m, args, below, meth, c, Q⟩ := B
  subst hP2
  intro H locs ls hz hn hC hP hS hl
  have h1 : vp_cell cA (N, .inr (.inr (.inr (.inr f)))) = vp_cell cA (N, .inr (.inr (.inr (.inr g)))) := by
    rw [vp_cell_q, vp_cell_q]
    unfold arrV
    congr 1
    congr 1
    funext j
    exact congrArg va_rf (hfg j.val j.isLt)
  refine k H locs ls (by rw [List.length_set]; exact hz) (by rw [List.length_set]; exact hn) (hC.set he) ?_ hS hl
  exact hP.set hC.D he (by show H[a]? = some (vp_cell cA _); rw [← h1]; exact hP q0 _ he) (fun _ _ => rfl)
