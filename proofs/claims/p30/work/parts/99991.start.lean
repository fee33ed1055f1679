def ZW (G : XG) : XB → Nat → Nat → List (Nat × Value) → List Value → va_W → Nat → Nat → Prop
  | (p, e, R, s, m, args, below, meth, c, Q), nL, pc, lv, st, P, cu, su => ∀ (H : Heap) (locs : List Loc) (ls : Array Slot), H.size = gb G + P.length → P.length = cu → CW (gb G) P → va_P (gD G) vwCl P H → va_S (xA G) s.heap H locs → lv_has ls nL lv → W p (gl G) e R s m args below meth c H locs cu su Q (F0 m pc ls st)
def ZC (G : XG) : XB → ByteArray → String → Room → Nat → Prop
  | (p, e, R, s, m, args, below, meth, c, Q), cc, own, rm, nL => p.tables.exec = Jvm.exec ∧ c.code = cc ∧ c.maxLocals = nL ∧ s.vm.findClass own = some m.cls ∧ (∀ w ∈ lw_g, w.before args s = true) ∧ YU G s ∧ True ∧ meth.locks = false ∧ R = rm ∧ True ∧ s.heap.size = gb G ∧ True ∧ True
theorem v_sz {p : Program} {l : Launch} {e : Env} {R : Room} {s : State} {m : MethodId} {args : Array Value} {below : List Frame} {meth : Method} {c : Code} {H : Heap} {locs : List Loc} {cu su : Nat} {Q : State → Prop} {g : JFrame} {D : va_G} {b : Nat} {P : va_W} (hs : s.heap.size = b) (hP : va_P D vwCl P H) (hC : CW b P) (hl : P.length = cu) (h0 : 0 < cu) (k : H.size = b + P.length → W p l e R s m args below meth c H locs cu su Q g) : W p l e R s m args below meth c H locs cu su Q g := by
  intro T hT X
  have h1 := X.heapSize
  rw [hT] at h1
  have h2 : b + cu ≤ H.size := by
    have hcu : cu - 1 < P.length := by omega
    have h3 : P[cu - 1]? = some P[cu - 1] := List.getElem?_eq_getElem hcu
    have h4 := (hP (cu - 1) _ h3).lt
    rw [hC (cu - 1) _ h3] at h4
    omega
  exact k (by omega) T hT X
theorem v_iconst {G : XG} {B : XB} {cc : ByteArray} {own : String} {rm : Room} {nL : Nat} (C : ZC G B cc own rm nL) {pc : Nat} {lv : List (Nat × Value)} {st : List Value} {Ω : va_W} {cu su : Nat} {n : Int} {v : Int32} (hd : decode cc pc = .ok (.iconst n, 1)) (hv : Int32.ofInt n = v) {pc2 : Nat} (hp : pc + 1 = pc2) (k : ZW G B nL pc2 lv (.int v :: st) Ω cu su) : ZW G B nL pc lv st Ω cu su := by
  obtain ⟨p, e, R, s, m, args, below, meth, c, Q⟩ := B
  obtain ⟨hx, hb, hml, ho, hts, hU, hin, hlk, hR, hret, hz0, htab, hQ⟩ := C
  subst hp
  intro H locs ls hz hln hC hP hS hl
  exact lv_iconst hx hb hd hv (k H locs ls hz hln hC hP hS hl)
theorem v_bipush {G : XG} {B : XB} {cc : ByteArray} {own : String} {rm : Room} {nL : Nat} (C : ZC G B cc own rm nL) {pc : Nat} {lv : List (Nat × Value)} {st : List Value} {Ω : va_W} {cu su : Nat} {n : Int} {v : Int32} (hd : decode cc pc = .ok (.bipush n, 2)) (hv : (Int8.ofInt n).toInt32 = v) {pc2 : Nat} (hp : pc + 2 = pc2) (k : ZW G B nL pc2 lv (.int v :: st) Ω cu su) : ZW G B nL pc lv st Ω cu su := by
  obtain ⟨p, e, R, s, m, args, below, meth, c, Q⟩ := B
  obtain ⟨hx, hb, hml, ho, hts, hU, hin, hlk, hR, hret, hz0, htab, hQ⟩ := C
  subst hp
  intro H locs ls hz hln hC hP hS hl
  exact lv_bipush hx hb hd hv (k H locs ls hz hln hC hP hS hl)
theorem v_newai {G : XG} {B : XB} {cc : ByteArray} {own : String} {rm : Room} {nL : Nat} (C : ZC G B cc own rm nL) {pc : Nat} {lv : List (Nat × Value)} {st : List Value} {P : va_W} {cu su : Nat} {n : Int32} {N q : Nat} (hd : decode cc pc = .ok (.newarray .int, 2)) (hn0 : ¬ n < 0) (hN : n.toNatClampNeg = N) (hby : N * 8 ≤ 536870912) (hcu : cu + 1 ≤ rm.cells) (hsu : su + N ≤ rm.slots) (hq : gb G + P.length = q) {pc2 cu2 su2 : Nat} (hp : pc + 2 = pc2) (hcu2 : cu + 1 = cu2) (hsu2 : su + N = su2) (k : ZW G B nL pc2 lv (.ref q :: st) (P ++ [(q, .inl (gC G 0, N, .inl (fun _ => 0)))]) cu2 su2) : ZW G B nL pc lv (.int n :: st) P cu su := by
  obtain ⟨p, e, R, s, m, args, below, meth, c, Q⟩ := B
  obtain ⟨hx, hb, hml, ho, hts, hU, hin, hlk, hR, hret, hz0, htab, hQ⟩ := C
  subst hp
  subst hR
  subst hcu2
  subst hsu2
  intro H locs ls hz hn hC hP hS hl
  refine va_newaK (atype := .int) hx hb (hts _ ya_int) rfl hd rfl hn0 hN (Nat.le_trans (Nat.mul_le_mul_left N (by decide)) hby) hcu hsu (hz.trans hq) fun H1 cA e1 z1 o1 hAr hNm => ?_
  have hK := (hU.1.2.1.2 0 _ rfl).2
  have hcA : cA = gC G 0 := Option.some.inj (hNm.symm.trans hK)
  subst hcA
  have hb2 : q = H.size := (hz.trans hq).symm
  have hkp : ∀ (k : Nat) (x : Nat × va_E), P[k]? = some x → H1[x.1]? = H[x.1]? := fun k x hx => o1 x.1 (by rw [hb2]; exact (hP k x hx).lt)
  refine k H1 locs ls ?_ ?_ (hC.push hq) ((hP.kept hkp).app (fun k x hx => ?_)) ⟨by rw [z1, hb2]; exact Nat.le_trans hS.1 (by omega), fun x h1 h2 => (o1 x (by rw [hb2]; exact Nat.lt_of_lt_of_le h1 hS.1)).trans (hS.2.1 x h1 h2), hS.2.2⟩ hl
  · rw [z1, List.length_append, List.length_singleton]; omega
  · rw [List.length_append, List.length_singleton]; omega
  · have hz : k < 1 := (List.getElem?_eq_some_iff.mp hx).1
    rw [show k = 0 by omega] at hx
    cases hx
    exact e1
theorem v_dup {G : XG} {B : XB} {cc : ByteArray} {own : String} {rm : Room} {nL : Nat} (C : ZC G B cc own rm nL) {pc : Nat} {lv : List (Nat × Value)} {st : List Value} {Ω : va_W} {cu su : Nat} {v : Value} (hd : decode cc pc = .ok (.dup, 1)) (hv : v.category = 1) {pc2 : Nat} (hp : pc + 1 = pc2) (k : ZW G B nL pc2 lv (v :: v :: st) Ω cu su) : ZW G B nL pc lv (v :: st) Ω cu su := by
  obtain ⟨p, e, R, s, m, args, below, meth, c, Q⟩ := B
  obtain ⟨hx, hb, hml, ho, hts, hU, hin, hlk, hR, hret, hz0, htab, hQ⟩ := C
  subst hp
  intro H locs ls hz hln hC hP hS hl
  exact lv_dup hx hb hd hv (k H locs ls hz hln hC hP hS hl)
theorem v_astore_n {G : XG} {B : XB} {cc : ByteArray} {own : String} {rm : Room} {nL : Nat} (C : ZC G B cc own rm nL) {pc : Nat} {lv : List (Nat × Value)} {st : List Value} {Ω : va_W} {cu su : Nat} {n : Fin 4} {i : Nat} {x : Nat} {lv2 : List (Nat × Value)} (hd : decode cc pc = .ok (.astore_n n, 1)) (hi : (n : Nat) = i) (hn : i < nL) (h2 : (i, Value.ref x) :: lv.filter (fun q => !(q.1 == i) && !(q.1 + 1 == i && q.2.category == 2)) = lv2) {pc2 : Nat} (hp : pc + 1 = pc2) (k : ZW G B nL pc2 lv2 st Ω cu su) : ZW G B nL pc lv (.ref x :: st) Ω cu su := by
  obtain ⟨p, e, R, s, m, args, below, meth, c, Q⟩ := B
  obtain ⟨hx, hb, hml, ho, hts, hU, hin, hlk, hR, hret, hz0, htab, hQ⟩ := C
  subst hp
  intro H locs ls hz hln hC hP hS hl
  exact lv_astore_n hx hb hd hi hl hn h2 (fun ls2 hl2 => k H locs ls2 hz hln hC hP hS hl2)
theorem v_new {G : XG} {B : XB} {cc : ByteArray} {own : String} {rm : Room} {nL : Nat} (C : ZC G B cc own rm nL) {pc : Nat} {lv : List (Nat × Value)} {st : List Value} {P : va_W} {cu su : Nat} {kd idx q : Nat} {fs : List Value} {nm : String} {nf : Nat} (hk : kd < 11) (hnm : cnm kd = nm) (hnf : cN kd = nf) (hcl : Cond.classLink own idx nm ∈ lw_g) (hinst : Cond.instantiable nm nf ∈ lw_g) (hini : Cond.initialized nm ∈ lw_g) (hd : decode cc pc = .ok (.new idx, 3)) (hfs : ∀ j, j < nf → defaultValue (cty kd j) = vp_V fs j) (hcu : cu + 1 ≤ rm.cells) (hsu : su + nf ≤ rm.slots) (hq : gb G + P.length = q) {pc2 cu2 su2 : Nat} (hp : pc + 3 = pc2) (hcu2 : cu + 1 = cu2) (hsu2 : su + nf = su2) (k : ZW G B nL pc2 lv (.ref q :: st) (P ++ [(q, .inr (kd, fs))]) cu2 su2) : ZW G B nL pc lv st P cu su := by
  obtain ⟨p, e, R, s, m, args, below, meth, c, Q⟩ := B
  obtain ⟨hx, hb, hml, ho, hts, hU, hin, hlk, hR, hret, hz0, htab, hQ⟩ := C
  subst hp
  subst hR
  subst hcu2
  subst hsu2
  subst hnm
  subst hnf
  intro H locs ls hz hn hC hP hS hl
  have hKn := hU.1.2.1.1 kd _ (cl_at hk)
  refine W.newcK hx hb ho (hts _ hcl) (hts _ hinst) (hts _ hini) rfl hd hcu hsu hKn.2.1 (hz.trans hq) fun H1 kC hkC e1 z1 o1 => ?_
  have hb2 : q = H.size := (hz.trans hq).symm
  have hkp : ∀ (k : Nat) (x : Nat × va_E), P[k]? = some x → H1[x.1]? = H[x.1]? := fun k x hx => o1 x.1 (by rw [hb2]; exact (hP k x hx).lt)
  refine k H1 locs ls ?_ ?_ (hC.push hq) ((hP.kept hkp).app (fun k x hx => ?_)) ⟨by rw [z1, hb2]; exact Nat.le_trans hS.1 (by omega), fun x h1 h2 => (o1 x (by rw [hb2]; exact Nat.lt_of_lt_of_le h1 hS.1)).trans (hS.2.1 x h1 h2), hS.2.2⟩ hl
  · rw [z1, List.length_append, List.length_singleton]; omega
  · rw [List.length_append, List.length_singleton]; omega
  · have hz : k < 1 := (List.getElem?_eq_some_iff.mp hx).1
    rw [show k = 0 by omega] at hx
    cases hx
    exact ⟨_, cl_at hk, (u_born (cty kd) hts (cl_ws hk) hKn hkC e1 (cl_ty hk)).to hfs⟩
theorem v_cI {G : XG} {B : XB} {cc : ByteArray} {own : String} {rm : Room} {nL : Nat} (C : ZC G B cc own rm nL) {pc : Nat} {lv : List (Nat × Value)} {st : List Value} {P : va_W} {cu su : Nat} {y : MethodName} {b2 : ByteArray} {mL2 n idx q : Nat} {rm2 : Room} {As rest : List Value} {P2 : va_W} {e0 : va_E} (hl0 : Cond.methodLink own idx y ∈ lw_g) (hm : XMI y b2 mL2 n) (hM : YM (Gat G q) y b2 mL2 rm2 (.ref q :: As) [(q, e0)] P2) (hq : gb G + P.length = q) (hn : As.length = n) (hst : st = As.reverse ++ .ref q :: rest) (hw : (rest.map fun v => v.category).sum ≤ 8) (hR1 : rm2.frames + 1 ≤ rm.frames ∧ 8 + (mL2 + 11) + rm2.locals ≤ rm.locals) (hR2 : cu + rm2.cells ≤ rm.cells ∧ su + rm2.slots ≤ rm.slots) (hd : decode cc pc = .ok (.invokespecial idx, 3)) {pc2 cu2 su2 : Nat} (hp : pc + 3 = pc2) (hcu2 : cu + rm2.cells = cu2) (hsu2 : su + rm2.slots = su2) (k : ZW G B nL pc2 lv rest (P ++ P2) cu2 su2) : ZW G B nL pc lv st (P ++ [(q, e0)]) cu su := by
  obtain ⟨p, e, R, s, m, args, below, meth, c, Q⟩ := B
  obtain ⟨hx, hb, hml, ho, hts, hU, hin, hlk, hR, hret, hz0, htab, hQ⟩ := C
  subst hp
  subst hst
  subst hR
  subst hcu2
  subst hsu2
  intro H locs ls hz hn9 hC hP hS hl
  have hlen : (P ++ [(q, e0)]).length = P.length + 1 := by rw [List.length_append, List.length_singleton]
  rw [hlen] at hz hn9
  have hcd := hm.2.2.1
  have hg : GoodIn lw_g (Cond.code y b2 mL2 none :: lw_g) := by
    intro z hz
    have hz2 : z ∈ lw_g := by
      rcases List.mem_cons.mp hz with rfl | hz
      · exact hcd
      · exact hz
    exact ⟨hz2, lw_good z hz2⟩
  have hPq : va_P (gD G) vwCl [(q, e0)] H := by
    intro k x hx
    have hk : k < 1 := (List.getElem?_eq_some_iff.mp hx).1
    have h0 := hP (P.length + k) x
    rw [List.getElem?_append_right (by omega), Nat.add_sub_cancel_left] at h0
    exact h0 hx
  have hr := vx_runI (e := e) (meth := meth) (below := below) (locs := locs) (nL := nL) ⟨hx, hb, hml, ho, hts⟩ hM.1 (cwI n hts hg rfl rfl rfl (hts _ hm.2.1) (hts _ hl0) (hts _ hm.1) hm.2.2.2.1 hm.2.2.2.2 hR1) ⟨YPc_blind, fun U hU2 hW => ⟨rfl, (hU.on hS hU2 hW).at (by show gb G ≤ q; omega) (by rw [hU2, hz]; omega), by show U.heap.size = q + 1; rw [hU2, hz]; omega, by rw [hU2]; exact hPq⟩⟩ (g := F0 m pc ls (As.reverse ++ .ref q :: rest)) rfl hn hl.1 rfl (lv_room hw) hd hR2
  intro X hTT X0
  rcases hr X hTT X0 with ⟨v, st₀, t, T', L, h0, X', hL, e1, e2, ⟨hv, hP2, hF⟩, stp⟩ | ⟨q9, st₀, t, T', L, E, ce, h0, X', hL, e1, e2, hb9, -⟩
  · cases hv
    have hsub : ∀ z, xA (Gat G q) z → xA G z := fun z hz1 => by
      show gb G ≤ z
      have hz2 : q ≤ z := hz1
      omega
    obtain ⟨k1, k2, k3⟩ := vx_keep h0 e1 hS (fun z _ h => hsub z h) (fun z h => h) (fun z h9 => hsub _ (hL z h9)) hF
    have hP0 : va_P (gD G) vwCl P T'.heap := by
      intro k x hx
      have hkl := (List.getElem?_eq_some_iff.mp hx).1
      have hx2 : (P ++ [(q, e0)])[k]? = some x := by rw [List.getElem?_append_left hkl]; exact hx
      have hxa := hC k x hx2
      refine (hP k x hx2).kept (k2 x.1 (by omega) ?_)
      intro h9
      have h10 : q ≤ x.1 := h9
      omega
    have hPP : va_P (gD G) vwCl (P ++ P2) T'.heap := hP0.app (by rw [e1]; exact hP2)
    have hCC : CW (gb G) (P ++ P2) := hC.left.app (by rw [hq]; exact hM.2.2)
    have hLL : (P ++ P2).length = cu + rm2.cells := by
      rw [List.length_append, hM.2.1]
      omega
    have kk := v_sz (p := p) (l := gl G) (e := e) (R := R) (s := s) (m := m) (args := args) (below := below) (meth := meth) (c := c) (locs := locs ++ L) (su := su + rm2.slots) (Q := Q) (g := F0 m (pc + 3) ls rest) hz0 hPP hCC hLL (by omega) fun hz1 => k T'.heap (locs ++ L) ls hz1 hLL hCC hPP k3 hl
    obtain ⟨t2, a1, b1⟩ := kk T' rfl X'
    exact ⟨t2, stp t2 a1, b1⟩
  · exact hb9.elim
theorem v_toX {G : XG} {B : XB} {cc : ByteArray} {own : String} {rm : Room} {nL : Nat} (C : ZC G B cc own rm nL) (hok : XK G) {pc : Nat} {lv : List (Nat × Value)} {st : List Value} {P : va_W} {cu su : Nat} {Ω : XO} (hP : P = pl G Ω) (k : XZ G B cc own rm nL → XW G B nL pc lv st Ω cu su) : ZW G B nL pc lv st P cu su := by
  obtain ⟨p, e, R, s, m, args, below, meth, c, Q⟩ := B
  obtain ⟨hx, hb, hml, ho, hts, hU, hin, hlk, hR, hret, hz0, htab, hQ⟩ := C
  intro H locs ls hz hln hC hP1 hS hl
  exact k ⟨hx, hb, hml, ho, hts, hU.1, hok, hlk, hR, trivial, trivial, trivial⟩ H locs ls (by rw [← hP]; exact hP1) hS hl
theorem YM.gat {l : Launch} {b0 q : Nat} {D : va_G} {Cf : Nat → ClassId} {Ts : Nat → Nat} {p n p2 n2 : Nat} {y : MethodName} {b : ByteArray} {mL : Nat} {rm : Room} {as : List Value} {P P' : va_W} (h : YM (GA l b0 D Cf Ts p2 n2) y b mL rm as P P') (hq : b0 + p2 = q) : YM (Gat (GA l b0 D Cf Ts p n) q) y b mL rm as P P' := by
  subst hq
  exact h
theorem PL_GA {l : Launch} {b0 : Nat} {D : va_G} {Cf : Nat → ClassId} {Ts : Nat → Nat} {Ω : XO} {m : List (Nat × Nat)} (p n p2 n2 : Nat) : PL (GA l b0 D Cf Ts p n) Ω m = PL (GA l b0 D Cf Ts p2 n2) Ω m := rfl
theorem alk_c {k i : Nat} (h : k < 11 ∨ (2000 ≤ k ∧ k < 2017)) : alk k i oI oS := by
  refine ⟨fun hk j hj => ?_, fun hk => ?_⟩
  · have e : ¬ ((1100 ≤ 100 * k + j ∧ 100 * k + j < 1200) ∨ 2100 ≤ 100 * k + j) := by omega
    have e2 : ¬ 100 * k + j = 2017 := by omega
    exact ⟨funext fun a => ((if_neg e).trans (if_neg e2)).symm, funext fun a => ((if_neg e).trans (if_neg e2)).symm, (if_neg e).symm⟩
  · have e : ¬ ((1100 ≤ k ∧ k < 1200) ∨ 2100 ≤ k) := by omega
    have e2 : ¬ k = 2017 := by omega
    exact ⟨funext fun a => ((if_neg e).trans (if_neg e2)).symm, funext fun a => ((if_neg e).trans (if_neg e2)).symm⟩
set_option maxRecDepth 100000 in
theorem tFB_k : ∀ x ∈ tFB, x.1 < 11 ∨ (2000 ≤ x.1 ∧ x.1 < 2017) := by
  have h : tFB.all (fun x => Nat.blt x.1 11 || (Nat.ble 2000 x.1 && Nat.blt x.1 2017)) = true := by decide +kernel
  intro x hx
  have h2 := List.all_eq_true.mp h x hx
  rw [Bool.or_eq_true_iff, Bool.and_eq_true_iff] at h2
  rcases h2 with h3 | h3
  · exact Or.inl (Nat.le_of_ble_eq_true h3)
  · exact Or.inr ⟨Nat.le_of_ble_eq_true h3.1, Nat.le_of_ble_eq_true h3.2⟩
theorem tFB_len : tFB.length = 698 := by decide +kernel
theorem lg_tb {w : Cond} (h : w ∈ lw_g) : w ∈ lw_tbl := (List.mem_filter.mp h).1
theorem yao_Frame : Cond.arrayOver (.object "ForkBridge$Frame") ∈ lw_tbl := List.mem_append_right _ (List.mem_of_getElem? (i := 52) (by decide +kernel))
theorem yao_Chain : Cond.arrayOver (.object "ForkBridge$Chain") ∈ lw_tbl := List.mem_append_right _ (List.mem_of_getElem? (i := 263) (by decide +kernel))
theorem yao_Block : Cond.arrayOver (.object "ForkBridge$Block") ∈ lw_tbl := List.mem_append_right _ (List.mem_of_getElem? (i := 270) (by decide +kernel))
theorem yao_Transaction : Cond.arrayOver (.object "ForkBridge$Transaction") ∈ lw_tbl := List.mem_append_right _ (List.mem_of_getElem? (i := 272) (by decide +kernel))
theorem yao_Validator : Cond.arrayOver (.object "ForkBridge$Validator") ∈ lw_tbl := List.mem_append_right _ (List.mem_of_getElem? (i := 280) (by decide +kernel))
theorem yao_Vote : Cond.arrayOver (.object "ForkBridge$Vote") ∈ lw_tbl := List.mem_append_right _ (List.mem_of_getElem? (i := 287) (by decide +kernel))
theorem ynm_0 : Cond.methodLinkNest RX10 9 yX5_init "ForkBridge" ∈ lw_tbl := List.mem_append_right _ (List.mem_of_getElem? (i := 30) (by decide +kernel))
theorem ynm_1 : Cond.methodLinkNest RX0 11 yX6_init "ForkBridge" ∈ lw_tbl := List.mem_append_right _ (List.mem_of_getElem? (i := 61) (by decide +kernel))
theorem ynm_2 : Cond.methodLinkNest RX4 38 yX3_init "ForkBridge" ∈ lw_tbl := List.mem_append_right _ (List.mem_of_getElem? (i := 176) (by decide +kernel))
theorem ynm_3 : Cond.methodLinkNest RX3 20 yX6_init "ForkBridge" ∈ lw_tbl := List.mem_append_right _ (List.mem_of_getElem? (i := 181) (by decide +kernel))
theorem ynm_4 : Cond.methodLinkNest RX8 17 yX9_init "ForkBridge" ∈ lw_tbl := List.mem_append_right _ (List.mem_of_getElem? (i := 289) (by decide +kernel))
theorem ynm_5 : Cond.methodLinkNest RX6 24 yX10_put "ForkBridge" ∈ lw_tbl := List.mem_append_right _ (List.mem_of_getElem? (i := 396) (by decide +kernel))
theorem ynm_6 : Cond.methodLinkNest RX0 82 yX10_at "ForkBridge" ∈ lw_tbl := List.mem_append_right _ (List.mem_of_getElem? (i := 411) (by decide +kernel))
theorem ynm_7 : Cond.methodLinkNest RX0 96 yX10_nodeOver "ForkBridge" ∈ lw_tbl := List.mem_append_right _ (List.mem_of_getElem? (i := 417) (by decide +kernel))
theorem ynm_8 : Cond.methodLinkNest RX6 46 yX10_at "ForkBridge" ∈ lw_tbl := List.mem_append_right _ (List.mem_of_getElem? (i := 424) (by decide +kernel))
theorem ynm_9 : Cond.methodLinkNest RX6 50 yX10_mix "ForkBridge" ∈ lw_tbl := List.mem_append_right _ (List.mem_of_getElem? (i := 425) (by decide +kernel))
theorem ynm_10 : Cond.methodLinkNest RX5 21 yX10_at "ForkBridge" ∈ lw_tbl := List.mem_append_right _ (List.mem_of_getElem? (i := 580) (by decide +kernel))
theorem ynm_11 : Cond.methodLinkNest RX5 29 yX10_put "ForkBridge" ∈ lw_tbl := List.mem_append_right _ (List.mem_of_getElem? (i := 604) (by decide +kernel))
theorem ynm_12 : Cond.methodLinkNest RX7 80 yX10_at "ForkBridge" ∈ lw_tbl := List.mem_append_right _ (List.mem_of_getElem? (i := 744) (by decide +kernel))
theorem ynm_13 : Cond.methodLinkNest RX4 129 yX10_at "ForkBridge" ∈ lw_tbl := List.mem_append_right _ (List.mem_of_getElem? (i := 773) (by decide +kernel))
theorem ynm_14 : Cond.methodLinkNest RX4 153 yX10_put "ForkBridge" ∈ lw_tbl := List.mem_append_right _ (List.mem_of_getElem? (i := 782) (by decide +kernel))
theorem ynm_15 : Cond.methodLinkNest RX3 50 yX10_put "ForkBridge" ∈ lw_tbl := List.mem_append_right _ (List.mem_of_getElem? (i := 791) (by decide +kernel))
theorem ynm_16 : Cond.methodLinkNest RX3 67 yX10_at "ForkBridge" ∈ lw_tbl := List.mem_append_right _ (List.mem_of_getElem? (i := 828) (by decide +kernel))
theorem ynm_17 : Cond.methodLinkNest RX0 78 yX10_put "ForkBridge" ∈ lw_tbl := List.mem_append_right _ (List.mem_of_getElem? (i := 906) (by decide +kernel))
theorem ynm_18 : Cond.methodLinkNest RX1 173 yX10_nodeOver "ForkBridge" ∈ lw_tbl := List.mem_append_right _ (List.mem_of_getElem? (i := 1077) (by decide +kernel))
theorem ynf_0 : Cond.fieldLinkNest "ForkBridge$Machine" 207 "ForkBridge" "STEP_GAS" "[I" "ForkBridge" ∈ lw_tbl := List.mem_append_right _ (List.mem_of_getElem? (i := 811) (by decide +kernel))
theorem ynf_1 : Cond.fieldLinkNest "ForkBridge$Frame" 64 "ForkBridge" "TAKEN" "[I" "ForkBridge" ∈ lw_tbl := List.mem_append_right _ (List.mem_of_getElem? (i := 833) (by decide +kernel))
theorem ynf_2 : Cond.fieldLinkNest "ForkBridge$Frame" 71 "ForkBridge" "PUSHED" "[I" "ForkBridge" ∈ lw_tbl := List.mem_append_right _ (List.mem_of_getElem? (i := 835) (by decide +kernel))
theorem ync_0 : Cond.castable "java/lang/IndexOutOfBoundsException" "java/lang/IndexOutOfBoundsException" ∈ lw_tbl := List.mem_append_right _ (List.mem_of_getElem? (i := 491) (by decide +kernel))
theorem ync_1 : Cond.castable "java/lang/IllegalArgumentException" "java/lang/IllegalArgumentException" ∈ lw_tbl := List.mem_append_right _ (List.mem_of_getElem? (i := 560) (by decide +kernel))
theorem ync_2 : Cond.castable "java/lang/IllegalStateException" "java/lang/IllegalStateException" ∈ lw_tbl := List.mem_append_right _ (List.mem_of_getElem? (i := 586) (by decide +kernel))
theorem ynd_0 : Cond.declares ⟨"java/lang/RuntimeException", "<init>", "()V"⟩ ∈ lw_tbl := List.mem_append_right _ (List.mem_of_getElem? (i := 492) (by decide +kernel))
theorem ynd_1 : Cond.declares ⟨"java/lang/Exception", "<init>", "()V"⟩ ∈ lw_tbl := List.mem_append_right _ (List.mem_of_getElem? (i := 494) (by decide +kernel))
theorem ynd_2 : Cond.declares ⟨"java/lang/Throwable", "<init>", "()V"⟩ ∈ lw_tbl := List.mem_append_right _ (List.mem_of_getElem? (i := 496) (by decide +kernel))
theorem yls_0 : Cond.laysStatic "ForkBridge" "LAST_ARGUMENT" "[I" ∈ lw_tbl := List.mem_append_right _ (List.mem_of_getElem? (i := 574) (by decide +kernel))
theorem yls_1 : Cond.laysStatic "ForkBridge" "STEP_GAS" "[I" ∈ lw_tbl := List.mem_append_right _ (List.mem_of_getElem? (i := 812) (by decide +kernel))
theorem yls_2 : Cond.laysStatic "ForkBridge" "TAKEN" "[I" ∈ lw_tbl := List.mem_append_right _ (List.mem_of_getElem? (i := 834) (by decide +kernel))
theorem yls_3 : Cond.laysStatic "ForkBridge" "PUSHED" "[I" ∈ lw_tbl := List.mem_append_right _ (List.mem_of_getElem? (i := 836) (by decide +kernel))
theorem yls_4 : Cond.laysStatic "java/lang/Throwable" "UNASSIGNED_STACK" "[Ljava/lang/StackTraceElement;" ∈ lw_tbl := List.mem_append_right _ (List.mem_of_getElem? (i := 516) (by decide +kernel))
theorem yls_5 : Cond.laysStatic "java/lang/Throwable" "SUPPRESSED_SENTINEL" "Ljava/util/List;" ∈ lw_tbl := List.mem_append_right _ (List.mem_of_getElem? (i := 518) (by decide +kernel))
theorem yzT : Cond.initialized "java/lang/Throwable" ∈ lw_tbl := List.mem_append_right _ (List.mem_of_getElem? (i := 12) (by decide +kernel))
theorem st_Kn {args : Array Value} {s : State} (hts : ∀ w ∈ lw_tbl, w.before args s = true) {k : Nat} (hk : k < 11) : ∃ (cC : ClassId) (iS : Nat → Nat), u_Kn s (cnm k) (cT k) (cN k) cC iS := by
  have hts2 : ∀ w ∈ lw_g, w.before args s = true := fun w hw => hts w (lg_tb hw)
  refine u_known hts2 (cl_ws hk) (n := cN k) (hts2 _ ?_)
  rcases (show k = 0 ∨ k = 1 ∨ k = 2 ∨ k = 3 ∨ k = 4 ∨ k = 5 ∨ k = 6 ∨ k = 7 ∨ k = 8 ∨ k = 9 ∨ k = 10 by omega) with rfl | rfl | rfl | rfl | rfl | rfl | rfl | rfl | rfl | rfl | rfl
  · exact yi_0
  · exact yi_1
  · exact yi_2
  · exact yi_3
  · exact yi_4
  · exact yi_5
  · exact yi_6
  · exact yi_7
  · exact yi_8
  · exact yi_9
  · exact yi_10
theorem st_D {args : Array Value} {s : State} (hts : ∀ w ∈ lw_tbl, w.before args s = true) : ∃ D : va_G, ∀ k, k < 11 → u_Kn s (cnm k) (cT k) (cN k) (D.1 k) (D.2 k) := by
  refine ⟨(fun k => if h : k < 11 then Classical.choose (st_Kn hts h) else 0, fun k => if h : k < 11 then Classical.choose (Classical.choose_spec (st_Kn hts h)) else fun _ => 0), fun k hk => ?_⟩
  dsimp only
  rw [dif_pos hk, dif_pos hk]
  exact Classical.choose_spec (Classical.choose_spec (st_Kn hts hk))
theorem st_a {args : Array Value} {s : State} {ty : FieldType} (h : (Cond.arrayClass ty).before args s = true) (hno : ∀ n, ty ≠ .object n) : ∃ cA : ClassId, ArrOfT s cA ty ∧ va_RA s cA ty := by
  obtain ⟨c, k, comp, h1, h2, h3⟩ := Cond.arrayClass_spec h
  refine ⟨c, fun n z => ⟨fun k9 h9 => (by cases h9), k, h2, comp, h3⟩, ?_⟩
  cases ty <;> first | exact h1 | exact absurd rfl (hno _)
theorem st_o {args : Array Value} {s : State} {C : String} (h : (Cond.arrayOver (.object C)).before args s = true) : ∃ cA : ClassId, ArrOfT s cA (.object C) ∧ va_RA s cA (.object C) := by
  obtain ⟨comp, c, k, h1, h2, h3, h4, h5⟩ := Cond.arrayOver_spec h
  exact ⟨c, fun n z => ⟨fun k9 h9 => (by cases h9), k, h3, comp, h4⟩, k, comp, h3, h4, h1, h5⟩
theorem st_C {args : Array Value} {s : State} (hts : ∀ w ∈ lw_tbl, w.before args s = true) : ∃ Cf : Nat → ClassId, ∀ (k : Nat) (q : ClassId × FieldType), [(Cf 0, FieldType.int), (Cf 1, .int), (Cf 2, .object "ForkBridge$Block"), (Cf 3, .object "ForkBridge$Chain"), (Cf 4, .object "ForkBridge$Frame"), (Cf 5, .object "ForkBridge$Transaction"), (Cf 6, .object "ForkBridge$Validator"), (Cf 7, .object "ForkBridge$Vote")][k]? = some q → ArrOfT s q.1 q.2 ∧ va_RA s q.1 q.2 := by
  obtain ⟨c0, a0⟩ := st_a (hts _ (lg_tb ya_int)) (fun n h => by cases h)
  obtain ⟨c1, a1⟩ := st_a (hts _ (lg_tb ya_int)) (fun n h => by cases h)
  obtain ⟨c2, a2⟩ := st_o (hts _ yao_Block)
  obtain ⟨c3, a3⟩ := st_o (hts _ yao_Chain)
  obtain ⟨c4, a4⟩ := st_o (hts _ yao_Frame)
  obtain ⟨c5, a5⟩ := st_o (hts _ yao_Transaction)
  obtain ⟨c6, a6⟩ := st_o (hts _ yao_Validator)
  obtain ⟨c7, a7⟩ := st_o (hts _ yao_Vote)
  refine ⟨fun k => [c0, c1, c2, c3, c4, c5, c6, c7].getD k 0, fun k q hq => ?_⟩
  rcases k with _ | _ | _ | _ | _ | _ | _ | _ | k
  · cases hq; exact a0
  · cases hq; exact a1
  · cases hq; exact a2
  · cases hq; exact a3
  · cases hq; exact a4
  · cases hq; exact a5
  · cases hq; exact a6
  · cases hq; exact a7
  · cases hq
def givC : List Cond := flatC (Jvm.Cond.and given_1 narrow_1)
set_option maxRecDepth 100000 in
theorem giv_el : ∀ q, q < 4 → ∀ j, j < 25 → Cond.eq (.elem (.static "ForkBridge" (sNam q) "[I") (.int (Int32.ofNat j))) (.int ((sArr q).getD j 0)) ∈ givC := by
  have h : (List.range 4).all (fun q => (List.range 25).all (fun j => decide (Cond.eq (.elem (.static "ForkBridge" (sNam q) "[I") (.int (Int32.ofNat j))) (.int ((sArr q).getD j 0)) ∈ givC))) = true := by decide +kernel
  intro q hq j hj
  exact of_decide_eq_true (List.all_eq_true.mp (List.all_eq_true.mp h q (List.mem_range.mpr hq)) j (List.mem_range.mpr hj))
set_option maxRecDepth 100000 in
theorem giv_ar : ∀ q, q < 4 → Cond.arrayOf (.static "ForkBridge" (sNam q) "[I") .int ∈ givC ∧ Cond.eq (.length (.static "ForkBridge" (sNam q) "[I")) (.int 25) ∈ givC := by decide +kernel
theorem giv_st : Cond.isRef (.static Bundle.tN "UNASSIGNED_STACK" Bundle.steD) ∈ givC ∧ Cond.isRef (.static Bundle.tN "SUPPRESSED_SENTINEL" Bundle.listD) ∈ givC := by decide +kernel
theorem giv_nc : Cond.not (.castable xIA xIO) ∈ givC ∧ Cond.not (.castable xIS xIO) ∈ givC ∧ Cond.not (.castable xIS xIA) ∈ givC := by decide +kernel
theorem st_q {args : Array Value} {s : State} (hts : ∀ w ∈ lw_tbl, w.before args s = true) (hg : ∀ w ∈ givC, w.before args s = true) {A : Nat → Prop} (hA : ∀ a : Nat, a < s.heap.size → ¬ A a) {q : Nat} (hq : q < 4) : ∃ t : Nat, va_Z "ForkBridge" (sNam q) "[I" (.ref t) A s s.heap ∧ va_T .int t 25 (fun j => .int ((sArr q).getD j 0)) A s s.heap := by
  obtain ⟨t, h1, h2⟩ := va_Tof (N := 25) (f := fun j => .int ((sArr q).getD j 0)) (by decide) (hg _ (giv_ar q hq).1) (va_eqt (hg _ (giv_ar q hq).2)) (fun j hj => va_eqt (hg _ (giv_el q hq j hj))) hA
  refine ⟨t, va_Zof (hts _ ?_) (hts _ (lg_tb yz_10)) h1 hA, h2⟩
  rcases (show q = 0 ∨ q = 1 ∨ q = 2 ∨ q = 3 by omega) with rfl | rfl | rfl | rfl
  · exact yls_0
  · exact yls_1
  · exact yls_2
  · exact yls_3
theorem st_T {args : Array Value} {s : State} (hts : ∀ w ∈ lw_tbl, w.before args s = true) (hg : ∀ w ∈ givC, w.before args s = true) {A : Nat → Prop} (hA : ∀ a : Nat, a < s.heap.size → ¬ A a) : ∃ Ts : Nat → Nat, ∀ q, q < 4 → va_Z "ForkBridge" (sNam q) "[I" (.ref (Ts q)) A s s.heap ∧ va_T .int (Ts q) 25 (fun j => .int ((sArr q).getD j 0)) A s s.heap := by
  refine ⟨fun q => if h : q < 4 then Classical.choose (st_q hts hg hA h) else 0, fun q hq => ?_⟩
  dsimp only
  rw [dif_pos hq]
  exact Classical.choose_spec (st_q hts hg hA hq)
theorem st_N {args : Array Value} {s : State} (hts : ∀ w ∈ lw_tbl, w.before args s = true) : XN s := by
  refine ⟨?_, ?_, ?_, ?_⟩
  · unfold xnm
    simp only [List.forall_mem_cons]
    exact ⟨va_Nw.of rfl (hts _ ynm_0), va_Nw.of rfl (hts _ ynm_1), va_Nw.of rfl (hts _ ynm_2), va_Nw.of rfl (hts _ ynm_3), va_Nw.of rfl (hts _ ynm_4), va_Nw.of rfl (hts _ ynm_5), va_Nw.of rfl (hts _ ynm_6), va_Nw.of rfl (hts _ ynm_7), va_Nw.of rfl (hts _ ynm_8), va_Nw.of rfl (hts _ ynm_9), va_Nw.of rfl (hts _ ynm_10), va_Nw.of rfl (hts _ ynm_11), va_Nw.of rfl (hts _ ynm_12), va_Nw.of rfl (hts _ ynm_13), va_Nw.of rfl (hts _ ynm_14), va_Nw.of rfl (hts _ ynm_15), va_Nw.of rfl (hts _ ynm_16), va_Nw.of rfl (hts _ ynm_17), va_Nw.of rfl (hts _ ynm_18), fun _ h => absurd h List.not_mem_nil⟩
  · unfold xnf
    simp only [List.forall_mem_cons]
    exact ⟨va_Nw.of rfl (hts _ ynf_0), va_Nw.of rfl (hts _ ynf_1), va_Nw.of rfl (hts _ ynf_2), fun _ h => absurd h List.not_mem_nil⟩
  · unfold xnc
    simp only [List.forall_mem_cons]
    exact ⟨va_Nw.of rfl (hts _ ync_0), va_Nw.of rfl (hts _ ync_1), va_Nw.of rfl (hts _ ync_2), fun _ h => absurd h List.not_mem_nil⟩
  · unfold xnd
    simp only [List.forall_mem_cons]
    exact ⟨va_Nw.of rfl (hts _ ynd_0), va_Nw.of rfl (hts _ ynd_1), va_Nw.of rfl (hts _ ynd_2), fun _ h => absurd h List.not_mem_nil⟩
theorem sub_at {A M R : List (Nat × Nat)} {p : Nat} (hA : A.length = p) (q : Nat) (x : Nat × Nat) (h : M[q]? = some x) : (A ++ M ++ R).getD (p + q) (0, 0) = x := by
  have hq := (List.getElem?_eq_some_iff.mp h).1
  rw [List.getD_eq_getElem?_getD, List.getElem?_append_left (by rw [List.length_append]; omega), List.getElem?_append_right (by omega), show p + q - A.length = q by omega, h]
  rfl
theorem TT_0 : TT = ([(10, 0)] ++ tPr ++ tMa ++ [(2016, 0)]) ++ tCh 0 ++ (tCh 1 ++ [(2017, 0)]) := by
  unfold TT tFB
  rw [show List.range 2 = [0, 1] from rfl]
  simp only [List.flatMap_cons, List.flatMap_nil, List.append_assoc, List.append_nil]
theorem TT_1 : TT = ([(10, 0)] ++ tPr ++ tMa ++ [(2016, 0)] ++ tCh 0) ++ tCh 1 ++ [(2017, 0)] := by
  rw [TT_0]
  simp only [List.append_assoc]
theorem st_ch {c : Nat} (hc : c < 2) (q : Nat) (x : Nat × Nat) (h : (tCh c)[q]? = some x) : TT.getD (48 + 325 * c + q) (0, 0) = x := by
  rcases (show c = 0 ∨ c = 1 by omega) with rfl | rfl
  · rw [TT_0]
    exact sub_at (by decide +kernel) q x h
  · rw [TT_1]
    exact sub_at (by decide +kernel) q x h
