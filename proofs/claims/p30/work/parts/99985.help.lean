theorem vx_runS12 {p : Program} {l : Launch} {e : Env} {R : Room} {s : State} {m : MethodId} {args : Array Value} {below : List Frame} {meth : Method} {c : Code} {H : Heap} {locs : List Loc} {cells slots : Nat} {y : MethodName} {bytes cc : ByteArray} {maxL nL mc ms n index : Nat} {ret : Option FieldType} {ws : List Cond} {rm : Room} {Pc : Array Value → State → Prop} {Qc : Array Value → State → Outcome → State → Prop} {XC : String → State → State → Prop} {free : Addr → Prop} {Ts : List Cond} {own : String} {As rest : List Value} {g : JFrame} (S : CallFix p m c cc nL s args Ts own) (hM : vx_Met l y ws rm Pc Qc XC mc ms free) (cw : CallB R s args own index y bytes maxL ret ws rm mc ms n ∧ (Cond.static y).before args s = true) (hp : PreS s H Pc As)
    (hg : g.method = m) (hn : As.length = n) (hsize : g.locals.size = nL) (hstack : g.stack = As.reverse ++ rest) (hW : 2 * g.monitorRoom + (rest.map fun v => v.category).sum ≤ 12) (hlo2 : 12 + (maxL + 11) + rm.locals ≤ R.locals) (hdg : decode cc g.pc = .ok (.invokestatic index, 3)) (hf : cells + mc ≤ R.cells ∧ slots + ms ≤ R.slots) :
    vx_Run p l e R s m args below meth c H locs cells slots mc ms g rest (Qc As.toArray) XC free := by
  obtain ⟨⟨hrc, hrs, hfr, hlo, hws, hcw, hcode, hini, hy, hlen, hl⟩, hstt⟩ := cw
  have hK : vx_Back l R p e below s args y 3 12 (PreOf R mc ms Pc) (PostOf Qc mc ms free) (vx_Post XC mc ms free) := vx_back (bytes := bytes) (maxL := maxL) (ret := ret) hM hp.1 hrc hrs hfr hlo2 hws hcw (fun a' U hW => word_at hW (Or.inl (by first | rfl | simp [Cond.onTables, Cond.keeps, Cond.steady])) hini)
  obtain ⟨hx, hb, hml, ho, -⟩ := S
  intro T hT X
  rcases vx_callS X hx (bytes := bytes) (maxL := maxL) (ret := ret) ho hl hstt hini hcode hy hK hg (hsize.trans hml.symm) (argsL := As) (rest := rest) (fun sig h => hn.trans (hlen sig h)) hstack hW (by rw [hb]; exact hdg)
    (fun vm₁ hW₁ => ⟨hf.1, hf.2, hp.2 (T.setVm vm₁) hT hW₁⟩) with ⟨v, vm₁, ⟨U', l2, c2, s2⟩, hW₁, X', ⟨g', mk, t, L, e1, e2, hq, h1, hL, h2, h3⟩, st⟩ | ⟨q, vm₁, ⟨U', l2, c2, s2⟩, hW₁, X', ⟨g', mk, t, L, E, ce, e1, e2, hq, hce, hcv, hcl, h1, hL, h2, h3⟩, st⟩
  · dsimp only [Pt.U, Pt.locs, Pt.cells, Pt.slots] at X' e1 e2 h1 h2 h3 st
    subst h1; subst h2; subst h3
    exact Or.inl ⟨v, (T.setVm vm₁).calling g' mk As.toArray, t, U', L, hT, X', hL, e1, e2, hq, st⟩
  · dsimp only [Pt.U, Pt.locs, Pt.cells, Pt.slots] at X' e1 e2 h1 h2 h3 st hcl
    subst h1; subst h2; subst h3
    exact Or.inr ⟨q, (T.setVm vm₁).calling g' mk As.toArray, t, U', L, E, ce, hT, X', hL, e1, e2, hq, hce, hcv, vx_cls hW₁ hcl, st⟩
theorem z_cS12 {G : XG} {B : XB} {cc : ByteArray} {own : String} {rm : Room} {nL : Nat} (C : XZ G B cc own rm nL) {pc : Nat} {lv : List (Nat × Value)} {st : List Value} {Ω : XO} {cu su : Nat} {y : MethodName} {b2 : ByteArray} {mL2 n idx : Nat} {ret2 : Option FieldType} {rm2 : Room} {As rest : List Value} {Ω2 : XO} {T2 : Option Value ⊕ String} (hm : XMS y b2 mL2 ret2 n) (hl0 : Cond.methodLink own idx y ∈ lw_g) (hM : XM G y b2 mL2 ret2 rm2 As Ω T2 Ω2) (hn : As.length = n) (hst : st = As.reverse ++ rest) (hw : (rest.map fun v => v.category).sum ≤ 12) (hR1 : rm2.frames + 1 ≤ rm.frames ∧ 12 + (mL2 + 11) + rm2.locals ≤ rm.locals) (hR2 : cu + rm2.cells ≤ rm.cells ∧ su + rm2.slots ≤ rm.slots) (hd : decode cc pc = .ok (.invokestatic idx, 3)) : XR G B nL pc lv st rest Ω cu su rm2.cells rm2.slots T2 Ω2 := by
  obtain ⟨p, e, R, s, m, args, below, meth, c, Q⟩ := B
  obtain ⟨hx, hb, hml, ho, hts, hU, hok, hlk, hR, hret, htab, hQ⟩ := C
  subst hst
  subst hR
  intro H locs ls hP hS hl
  exact ⟨_, vx_runS12 (nL := nL) ⟨hx, hb, hml, ho, hts⟩ hM (va_cwS n hts (goodS hm hl0) rfl rfl rfl hm.2.2.2 ⟨hR1.1, by have := hR1.2; omega⟩) ⟨XPc_blind, fun U hU2 hW => ⟨rfl, hU.on hS hU2 hW, by rw [hU2]; exact hP⟩⟩ rfl hn hl.1 rfl (by show 2 * 0 + _ ≤ 12; omega) hR1.2 hd hR2⟩
/-- the law's low -/
def lw (v n : Int32) : Int32 := (v &&& 2147483647) - (v &&& 2147483647) / n * n
set_option maxRecDepth 20000 in
theorem t_low {G : XG} (hok : XK G) {v n : Int32} (hn : ¬ n = 0) {Ω : XO} : XM G yL_low cL_low 2 (some FieldType.int) (RM 0 0) [.int v, .int n] Ω (.inl (some (.int (lw v n)))) Ω := by
  refine x_start (lv := [(0, .int v), (1, .int n)]) (own := RL) hok (by decide +kernel) rfl (Nat.le_of_ble_eq_true rfl) rfl (fun B C => ?_)
  refine x_iload_n (pc2 := 1) C dL_low_0 0 rfl rfl rfl ?_
  refine x_ldc (pc2 := 3) C kc_L_8 dL_low_1 rfl ?_
  refine x_iand (pc2 := 4) C dL_low_3 rfl ?_
  refine x_iload_n (pc2 := 5) C dL_low_4 1 rfl rfl rfl ?_
  refine x_irem (pc2 := 6) C dL_low_5 hn rfl ?_
  exact x_ireturn C dL_low_6 rfl (Nat.le_of_ble_eq_true rfl) (Nat.le_of_ble_eq_true rfl) rfl rfl
theorem and_pos (v : Int32) : 0 ≤ (v &&& 2147483647).toInt := by
  have e : ∀ z : Int32, z.toBitVec.msb = decide (z.toInt < 0) := fun z => BitVec.msb_eq_toInt
  have h1 : (v &&& 2147483647).toBitVec.msb = false := by
    rw [Int32.toBitVec_and, BitVec.msb_and]
    have h2 : (2147483647 : Int32).toBitVec.msb = false := by decide
    rw [h2, Bool.and_false]
  rw [e] at h1
  have := of_decide_eq_false h1
  omega
theorem lw_lt (v : Int32) {m : Nat} (h0 : 0 < m) (hm : m < 2147483648) : ∃ k, k < m ∧ lw v (nI m) = nI k := by
  obtain ⟨w, hw, e, -⟩ := toI_nI (and_pos v)
  refine ⟨w % m, Nat.mod_lt _ h0, ?_⟩
  unfold lw
  rw [e, rem_nI hw h0 hm]
/-- what a helper of the law answers -/
def hvc (z : Bool) (T : Option Value ⊕ String) (r : Int32) : Prop := (∃ v, T = .inl (some (.int v)) ∧ r = (if z = true then (if v = 0 then 0 else 1) else v)) ∨ (T = .inr xIO ∧ r = -2) ∨ (T = .inr xIA ∧ r = -3) ∨ (T = .inr xIS ∧ r = -4)
theorem hvc_ex {z : Bool} {T : Option Value ⊕ String} (h : okT T ∨ ∃ v, T = .inl (some (.int v))) : ∃ r, hvc z T r := by
  rcases h with (h | h | h) | ⟨v, h⟩
  · exact ⟨_, Or.inr (Or.inl ⟨h, rfl⟩)⟩
  · exact ⟨_, Or.inr (Or.inr (Or.inl ⟨h, rfl⟩))⟩
  · exact ⟨_, Or.inr (Or.inr (Or.inr ⟨h, rfl⟩))⟩
  · exact ⟨_, Or.inl ⟨v, h, rfl⟩⟩
theorem xio_c : xIO ∈ xnc := List.mem_of_getElem? (i := 0) rfl
theorem xia_c : xIA ∈ xnc := List.mem_of_getElem? (i := 1) rfl
theorem xis_c : xIS ∈ xnc := List.mem_of_getElem? (i := 2) rfl
set_option maxRecDepth 100000 in
theorem kmL_steps : XMSH yL_steps cL_steps 5 [(0, 7, 8, 15), (0, 7, 13, 17), (0, 7, 18, 19)] 4 := ⟨lw_in2 237 (by decide +kernel) rfl, lw_in1 0 (by decide +kernel) rfl, lw_in2 238 rfl rfl, by decide +kernel⟩
set_option maxRecDepth 20000 in
theorem hL_steps {G : XG} (hok : XK G) {o : Nat} (eo : ad G 10 0 = o) {x1 : Int32} {x2 : Int32} {x3 : Int32} {Ω : XO} (hd0 : dm G 10 0) {T : Option Value ⊕ String} {Ω2 : XO} (hf : fX10_step Ω (x1) (x2) (x3) = some (T, Ω2)) {r : Int32} (hr : hvc false T r) : XMH G yL_steps cL_steps 5 [(0, 7, 8, 15), (0, 7, 13, 17), (0, 7, 18, 19)] (RM 9 6) [.ref o, .int x1, .int x2, .int x3] Ω r Ω2 := by
  refine h_start (lv := [(0, .ref o), (1, .int x1), (2, .int x2), (3, .int x3)]) (own := RL) hok (by decide +kernel) rfl kmL_steps.2.2.1 (Nat.le_of_ble_eq_true rfl) rfl (fun B D => ?_)
  have C := D.z
  refine z_aload_n (pc2 := 1) C dL_steps_0 0 rfl rfl rfl ?_
  refine z_iload_n (pc2 := 2) C dL_steps_1 1 rfl rfl rfl ?_
  refine z_iload_n (pc2 := 3) C dL_steps_2 2 rfl rfl rfl ?_
  refine z_iload_n (pc2 := 4) C dL_steps_3 3 rfl rfl rfl ?_
  have hcall : XR G B 5 4 [(0, .ref o), (1, .int x1), (2, .int x2), (3, .int x3)] [.int x3, .int x2, .int x1, .ref o] [] Ω 0 0 6 36 T Ω2 := by
    subst eo
    exact z_cV (rest := []) C hd0 (Nat.le_of_ble_eq_true rfl) kmX10_step rfl kk_L_9 (tX10_step hok hd0 hf) rfl rfl (Nat.le_of_ble_eq_true rfl) ⟨(Nat.le_of_ble_eq_true rfl), (Nat.le_of_ble_eq_true rfl)⟩ ⟨(Nat.le_of_ble_eq_true rfl), (Nat.le_of_ble_eq_true rfl)⟩ dL_steps_4
  rcases hr with ⟨v, rfl, hr1⟩ | ⟨rfl, hr1⟩ | ⟨rfl, hr1⟩ | ⟨rfl, hr1⟩
  · refine x_ret (rest := []) (st2 := [.int v]) (pc2 := 7) (cu2 := 6) (su2 := 36) hcall rfl rfl rfl rfl ?_
    exact h_ireturn D dL_steps_7 (Nat.le_of_ble_eq_true rfl) (Nat.le_of_ble_eq_true rfl) hr1 rfl
  · refine h_catch D hcall xio_c [] ⟨0, 7, 8, 15⟩ [⟨0, 7, 13, 17⟩, ⟨0, 7, 18, 19⟩] rfl (fun U hN z hz => absurd hz List.not_mem_nil) rfl (by decide) kn_L_15 (cu2 := 6) (su2 := 36) rfl rfl (pc2 := 8) rfl (fun q => ?_)
    refine z_astore (pc2 := 10) (lv2 := [(4, .ref q), (0, .ref o), (1, .int x1), (2, .int x2), (3, .int x3)]) C dL_steps_8 (by decide) rfl rfl ?_
    refine z_bipush (pc2 := 12) (v := -2) C dL_steps_10 (by decide) rfl ?_
    exact h_ireturn D dL_steps_12 (Nat.le_of_ble_eq_true rfl) (Nat.le_of_ble_eq_true rfl) hr1 rfl
  · refine h_catch D hcall xia_c [⟨0, 7, 8, 15⟩] ⟨0, 7, 13, 17⟩ [⟨0, 7, 18, 19⟩] rfl (fun U hN => List.forall_mem_cons.mpr ⟨⟨by decide, xIO, kn_L_15, hN.1⟩, fun z hz => absurd hz List.not_mem_nil⟩) rfl (by decide) kn_L_17 (cu2 := 6) (su2 := 36) rfl rfl (pc2 := 13) rfl (fun q => ?_)
    refine z_astore (pc2 := 15) (lv2 := [(4, .ref q), (0, .ref o), (1, .int x1), (2, .int x2), (3, .int x3)]) C dL_steps_13 (by decide) rfl rfl ?_
    refine z_bipush (pc2 := 17) (v := -3) C dL_steps_15 (by decide) rfl ?_
    exact h_ireturn D dL_steps_17 (Nat.le_of_ble_eq_true rfl) (Nat.le_of_ble_eq_true rfl) hr1 rfl
  · refine h_catch D hcall xis_c [⟨0, 7, 8, 15⟩, ⟨0, 7, 13, 17⟩] ⟨0, 7, 18, 19⟩ [] rfl (fun U hN => List.forall_mem_cons.mpr ⟨⟨by decide, xIO, kn_L_15, hN.2.1⟩, List.forall_mem_cons.mpr ⟨⟨by decide, xIA, kn_L_17, hN.2.2⟩, fun z hz => absurd hz List.not_mem_nil⟩⟩) rfl (by decide) kn_L_19 (cu2 := 6) (su2 := 36) rfl rfl (pc2 := 18) rfl (fun q => ?_)
    refine z_astore (pc2 := 20) (lv2 := [(4, .ref q), (0, .ref o), (1, .int x1), (2, .int x2), (3, .int x3)]) C dL_steps_18 (by decide) rfl rfl ?_
    refine z_bipush (pc2 := 22) (v := -4) C dL_steps_20 (by decide) rfl ?_
    exact h_ireturn D dL_steps_22 (Nat.le_of_ble_eq_true rfl) (Nat.le_of_ble_eq_true rfl) hr1 rfl
set_option maxRecDepth 100000 in
theorem kmL_submits : XMSH yL_submits cL_submits 8 [(0, 56, 57, 15), (0, 56, 62, 17), (0, 56, 67, 19)] 7 := ⟨lw_in3 126 (by decide +kernel) rfl, lw_in1 0 (by decide +kernel) rfl, lw_in3 127 rfl rfl, by decide +kernel⟩
set_option maxRecDepth 20000 in
theorem hL_submits {G : XG} (hok : XK G) {o : Nat} (eo : ad G 10 0 = o) {x1 : Int32} {x2 : Int32} {x3 : Int32} {x4 : Int32} {x5 : Int32} {x6 : Int32} {Ω : XO} (hd0 : dm G 10 0) {T : Option Value ⊕ String} {Ω2 : XO} (hf : fX10_submit Ω 0 (x1) (x2) (x3) (x4) (x5) ((lw (x6 >>> ((3 : Int32) &&& 31)) 40)) (((20 : Int32) + (lw (x6 >>> ((5 : Int32) &&& 31)) 200))) (((12 : Int32) + (lw (x6 >>> ((7 : Int32) &&& 31)) 20))) ((lw (x6 >>> ((9 : Int32) &&& 31)) 13)) = (T, Ω2)) {r : Int32} (hr : hvc false T r) : XMH G yL_submits cL_submits 8 [(0, 56, 57, 15), (0, 56, 62, 17), (0, 56, 67, 19)] (RM 9 10) [.ref o, .int x1, .int x2, .int x3, .int x4, .int x5, .int x6] Ω r Ω2 := by
  refine h_start (lv := [(0, .ref o), (1, .int x1), (2, .int x2), (3, .int x3), (4, .int x4), (5, .int x5), (6, .int x6)]) (own := RL) hok (by decide +kernel) rfl kmL_submits.2.2.1 (Nat.le_of_ble_eq_true rfl) rfl (fun B D => ?_)
  have C := D.z
  refine z_aload_n (pc2 := 1) C dL_submits_0 0 rfl rfl rfl ?_
  refine z_iload_n (pc2 := 2) C dL_submits_1 1 rfl rfl rfl ?_
  refine z_iload_n (pc2 := 3) C dL_submits_2 2 rfl rfl rfl ?_
  refine z_iload_n (pc2 := 4) C dL_submits_3 3 rfl rfl rfl ?_
  refine z_iload (pc2 := 6) C dL_submits_4 4 rfl rfl ?_
  refine z_iload (pc2 := 8) C dL_submits_6 5 rfl rfl ?_
  refine z_iload (pc2 := 10) C dL_submits_8 6 rfl rfl ?_
  refine z_iconst (pc2 := 11) (v := 3) C dL_submits_10 rfl rfl ?_
  refine z_ishr (pc2 := 12) C dL_submits_11 rfl ?_
  refine z_bipush (pc2 := 14) (v := 40) C dL_submits_12 (by decide) rfl ?_
  refine x_ret (rest := [.int x5, .int x4, .int x3, .int x2, .int x1, .ref o]) (st2 := [.int (lw (x6 >>> ((3 : Int32) &&& 31)) 40), .int x5, .int x4, .int x3, .int x2, .int x1, .ref o]) (pc2 := 17) (cu2 := 0) (su2 := 0) (z_cS12 C kmL_low kk_L_21 (t_low hok (n := 40) (by decide)) rfl rfl (Nat.le_of_ble_eq_true rfl) ⟨(Nat.le_of_ble_eq_true rfl), (Nat.le_of_ble_eq_true rfl)⟩ ⟨(Nat.le_of_ble_eq_true rfl), (Nat.le_of_ble_eq_true rfl)⟩ dL_submits_14) rfl rfl rfl rfl ?_
  refine z_bipush (pc2 := 19) (v := 20) C dL_submits_17 (by decide) rfl ?_
  refine z_iload (pc2 := 21) C dL_submits_19 6 rfl rfl ?_
  refine z_iconst (pc2 := 22) (v := 5) C dL_submits_21 rfl rfl ?_
  refine z_ishr (pc2 := 23) C dL_submits_22 rfl ?_
  refine z_sipush (pc2 := 26) (v := 200) C dL_submits_23 (by decide) rfl ?_
  refine x_ret (rest := [.int 20, .int (lw (x6 >>> ((3 : Int32) &&& 31)) 40), .int x5, .int x4, .int x3, .int x2, .int x1, .ref o]) (st2 := [.int (lw (x6 >>> ((5 : Int32) &&& 31)) 200), .int 20, .int (lw (x6 >>> ((3 : Int32) &&& 31)) 40), .int x5, .int x4, .int x3, .int x2, .int x1, .ref o]) (pc2 := 29) (cu2 := 0) (su2 := 0) (z_cS12 C kmL_low kk_L_21 (t_low hok (n := 200) (by decide)) rfl rfl (Nat.le_of_ble_eq_true rfl) ⟨(Nat.le_of_ble_eq_true rfl), (Nat.le_of_ble_eq_true rfl)⟩ ⟨(Nat.le_of_ble_eq_true rfl), (Nat.le_of_ble_eq_true rfl)⟩ dL_submits_26) rfl rfl rfl rfl ?_
  refine z_iadd (pc2 := 30) C dL_submits_29 rfl ?_
  refine z_bipush (pc2 := 32) (v := 12) C dL_submits_30 (by decide) rfl ?_
  refine z_iload (pc2 := 34) C dL_submits_32 6 rfl rfl ?_
  refine z_bipush (pc2 := 36) (v := 7) C dL_submits_34 (by decide) rfl ?_
  refine z_ishr (pc2 := 37) C dL_submits_36 rfl ?_
  refine z_bipush (pc2 := 39) (v := 20) C dL_submits_37 (by decide) rfl ?_
  refine x_ret (rest := [.int 12, .int ((20 : Int32) + (lw (x6 >>> ((5 : Int32) &&& 31)) 200)), .int (lw (x6 >>> ((3 : Int32) &&& 31)) 40), .int x5, .int x4, .int x3, .int x2, .int x1, .ref o]) (st2 := [.int (lw (x6 >>> ((7 : Int32) &&& 31)) 20), .int 12, .int ((20 : Int32) + (lw (x6 >>> ((5 : Int32) &&& 31)) 200)), .int (lw (x6 >>> ((3 : Int32) &&& 31)) 40), .int x5, .int x4, .int x3, .int x2, .int x1, .ref o]) (pc2 := 42) (cu2 := 0) (su2 := 0) (z_cS12 C kmL_low kk_L_21 (t_low hok (n := 20) (by decide)) rfl rfl (Nat.le_of_ble_eq_true rfl) ⟨(Nat.le_of_ble_eq_true rfl), (Nat.le_of_ble_eq_true rfl)⟩ ⟨(Nat.le_of_ble_eq_true rfl), (Nat.le_of_ble_eq_true rfl)⟩ dL_submits_39) rfl rfl rfl rfl ?_
  refine z_iadd (pc2 := 43) C dL_submits_42 rfl ?_
  refine z_iload (pc2 := 45) C dL_submits_43 6 rfl rfl ?_
  refine z_bipush (pc2 := 47) (v := 9) C dL_submits_45 (by decide) rfl ?_
  refine z_ishr (pc2 := 48) C dL_submits_47 rfl ?_
  refine z_bipush (pc2 := 50) (v := 13) C dL_submits_48 (by decide) rfl ?_
  refine x_ret (rest := [.int ((12 : Int32) + (lw (x6 >>> ((7 : Int32) &&& 31)) 20)), .int ((20 : Int32) + (lw (x6 >>> ((5 : Int32) &&& 31)) 200)), .int (lw (x6 >>> ((3 : Int32) &&& 31)) 40), .int x5, .int x4, .int x3, .int x2, .int x1, .ref o]) (st2 := [.int (lw (x6 >>> ((9 : Int32) &&& 31)) 13), .int ((12 : Int32) + (lw (x6 >>> ((7 : Int32) &&& 31)) 20)), .int ((20 : Int32) + (lw (x6 >>> ((5 : Int32) &&& 31)) 200)), .int (lw (x6 >>> ((3 : Int32) &&& 31)) 40), .int x5, .int x4, .int x3, .int x2, .int x1, .ref o]) (pc2 := 53) (cu2 := 0) (su2 := 0) (z_cS12 C kmL_low kk_L_21 (t_low hok (n := 13) (by decide)) rfl rfl (Nat.le_of_ble_eq_true rfl) ⟨(Nat.le_of_ble_eq_true rfl), (Nat.le_of_ble_eq_true rfl)⟩ ⟨(Nat.le_of_ble_eq_true rfl), (Nat.le_of_ble_eq_true rfl)⟩ dL_submits_50) rfl rfl rfl rfl ?_
  have hcon : XM G yX10_submit cX10_submit 12 (some FieldType.int) (RM 8 10) [.ref (ad G 10 0), .int (x1), .int (x2), .int (x3), .int (x4), .int (x5), .int ((lw (x6 >>> ((3 : Int32) &&& 31)) 40)), .int (((20 : Int32) + (lw (x6 >>> ((5 : Int32) &&& 31)) 200))), .int (((12 : Int32) + (lw (x6 >>> ((7 : Int32) &&& 31)) 20))), .int ((lw (x6 >>> ((9 : Int32) &&& 31)) 13))] Ω T Ω2 := by
    have key := tX10_submit hok (i := 0) (x1 := x1) (x2 := x2) (x3 := x3) (x4 := x4) (x5 := x5) (x6 := (lw (x6 >>> ((3 : Int32) &&& 31)) 40)) (x7 := ((20 : Int32) + (lw (x6 >>> ((5 : Int32) &&& 31)) 200))) (x8 := ((12 : Int32) + (lw (x6 >>> ((7 : Int32) &&& 31)) 20))) (x9 := (lw (x6 >>> ((9 : Int32) &&& 31)) 13)) (Ω := Ω) hd0
    rw [hf] at key
    exact key
  have hcall : XR G B 8 53 [(0, .ref o), (1, .int x1), (2, .int x2), (3, .int x3), (4, .int x4), (5, .int x5), (6, .int x6)] [.int (lw (x6 >>> ((9 : Int32) &&& 31)) 13), .int ((12 : Int32) + (lw (x6 >>> ((7 : Int32) &&& 31)) 20)), .int ((20 : Int32) + (lw (x6 >>> ((5 : Int32) &&& 31)) 200)), .int (lw (x6 >>> ((3 : Int32) &&& 31)) 40), .int x5, .int x4, .int x3, .int x2, .int x1, .ref o] [] Ω 0 0 10 60 T Ω2 := by
    subst eo
    exact z_cV (rest := []) C hd0 (Nat.le_of_ble_eq_true rfl) kmX10_submit rfl kk_L_27 hcon rfl rfl (Nat.le_of_ble_eq_true rfl) ⟨(Nat.le_of_ble_eq_true rfl), (Nat.le_of_ble_eq_true rfl)⟩ ⟨(Nat.le_of_ble_eq_true rfl), (Nat.le_of_ble_eq_true rfl)⟩ dL_submits_53
  rcases hr with ⟨v, rfl, hr1⟩ | ⟨rfl, hr1⟩ | ⟨rfl, hr1⟩ | ⟨rfl, hr1⟩
  · refine x_ret (rest := []) (st2 := [.int v]) (pc2 := 56) (cu2 := 10) (su2 := 60) hcall rfl rfl rfl rfl ?_
    exact h_ireturn D dL_submits_56 (Nat.le_of_ble_eq_true rfl) (Nat.le_of_ble_eq_true rfl) hr1 rfl
  · refine h_catch D hcall xio_c [] ⟨0, 56, 57, 15⟩ [⟨0, 56, 62, 17⟩, ⟨0, 56, 67, 19⟩] rfl (fun U hN z hz => absurd hz List.not_mem_nil) rfl (by decide) kn_L_15 (cu2 := 10) (su2 := 60) rfl rfl (pc2 := 57) rfl (fun q => ?_)
    refine z_astore (pc2 := 59) (lv2 := [(7, .ref q), (0, .ref o), (1, .int x1), (2, .int x2), (3, .int x3), (4, .int x4), (5, .int x5), (6, .int x6)]) C dL_submits_57 (by decide) rfl rfl ?_
    refine z_bipush (pc2 := 61) (v := -2) C dL_submits_59 (by decide) rfl ?_
    exact h_ireturn D dL_submits_61 (Nat.le_of_ble_eq_true rfl) (Nat.le_of_ble_eq_true rfl) hr1 rfl
  · refine h_catch D hcall xia_c [⟨0, 56, 57, 15⟩] ⟨0, 56, 62, 17⟩ [⟨0, 56, 67, 19⟩] rfl (fun U hN => List.forall_mem_cons.mpr ⟨⟨by decide, xIO, kn_L_15, hN.1⟩, fun z hz => absurd hz List.not_mem_nil⟩) rfl (by decide) kn_L_17 (cu2 := 10) (su2 := 60) rfl rfl (pc2 := 62) rfl (fun q => ?_)
    refine z_astore (pc2 := 64) (lv2 := [(7, .ref q), (0, .ref o), (1, .int x1), (2, .int x2), (3, .int x3), (4, .int x4), (5, .int x5), (6, .int x6)]) C dL_submits_62 (by decide) rfl rfl ?_
    refine z_bipush (pc2 := 66) (v := -3) C dL_submits_64 (by decide) rfl ?_
    exact h_ireturn D dL_submits_66 (Nat.le_of_ble_eq_true rfl) (Nat.le_of_ble_eq_true rfl) hr1 rfl
  · refine h_catch D hcall xis_c [⟨0, 56, 57, 15⟩, ⟨0, 56, 62, 17⟩] ⟨0, 56, 67, 19⟩ [] rfl (fun U hN => List.forall_mem_cons.mpr ⟨⟨by decide, xIO, kn_L_15, hN.2.1⟩, List.forall_mem_cons.mpr ⟨⟨by decide, xIA, kn_L_17, hN.2.2⟩, fun z hz => absurd hz List.not_mem_nil⟩⟩) rfl (by decide) kn_L_19 (cu2 := 10) (su2 := 60) rfl rfl (pc2 := 67) rfl (fun q => ?_)
    refine z_astore (pc2 := 69) (lv2 := [(7, .ref q), (0, .ref o), (1, .int x1), (2, .int x2), (3, .int x3), (4, .int x4), (5, .int x5), (6, .int x6)]) C dL_submits_67 (by decide) rfl rfl ?_
    refine z_bipush (pc2 := 71) (v := -4) C dL_submits_69 (by decide) rfl ?_
    exact h_ireturn D dL_submits_71 (Nat.le_of_ble_eq_true rfl) (Nat.le_of_ble_eq_true rfl) hr1 rfl
set_option maxRecDepth 100000 in
theorem kmL_claims : XMSH yL_claims cL_claims 7 [(0, 28, 29, 15), (0, 28, 34, 17), (0, 28, 39, 19)] 6 := ⟨lw_in3 201 (by decide +kernel) rfl, lw_in1 0 (by decide +kernel) rfl, lw_in3 202 rfl rfl, by decide +kernel⟩
set_option maxRecDepth 20000 in
theorem hL_claims {G : XG} (hok : XK G) {o : Nat} (eo : ad G 10 0 = o) {x1 : Int32} {x2 : Int32} {x3 : Int32} {x4 : Int32} {x5 : Int32} {Ω : XO} (hd0 : dm G 10 0) {T : Option Value ⊕ String} {Ω2 : XO} (hf : fX10_claim Ω 0 (x1) (x2) (x3) (x4) (((12 : Int32) + (lw x5 20))) ((lw (x5 >>> ((4 : Int32) &&& 31)) 12)) = (T, Ω2)) {r : Int32} (hr : hvc false T r) : XMH G yL_claims cL_claims 7 [(0, 28, 29, 15), (0, 28, 34, 17), (0, 28, 39, 19)] (RM 9 10) [.ref o, .int x1, .int x2, .int x3, .int x4, .int x5] Ω r Ω2 := by
  refine h_start (lv := [(0, .ref o), (1, .int x1), (2, .int x2), (3, .int x3), (4, .int x4), (5, .int x5)]) (own := RL) hok (by decide +kernel) rfl kmL_claims.2.2.1 (Nat.le_of_ble_eq_true rfl) rfl (fun B D => ?_)
  have C := D.z
  refine z_aload_n (pc2 := 1) C dL_claims_0 0 rfl rfl rfl ?_
  refine z_iload_n (pc2 := 2) C dL_claims_1 1 rfl rfl rfl ?_
  refine z_iload_n (pc2 := 3) C dL_claims_2 2 rfl rfl rfl ?_
  refine z_iload_n (pc2 := 4) C dL_claims_3 3 rfl rfl rfl ?_
  refine z_iload (pc2 := 6) C dL_claims_4 4 rfl rfl ?_
  refine z_bipush (pc2 := 8) (v := 12) C dL_claims_6 (by decide) rfl ?_
  refine z_iload (pc2 := 10) C dL_claims_8 5 rfl rfl ?_
  refine z_bipush (pc2 := 12) (v := 20) C dL_claims_10 (by decide) rfl ?_
  refine x_ret (rest := [.int 12, .int x4, .int x3, .int x2, .int x1, .ref o]) (st2 := [.int (lw x5 20), .int 12, .int x4, .int x3, .int x2, .int x1, .ref o]) (pc2 := 15) (cu2 := 0) (su2 := 0) (z_cS12 C kmL_low kk_L_21 (t_low hok (n := 20) (by decide)) rfl rfl (Nat.le_of_ble_eq_true rfl) ⟨(Nat.le_of_ble_eq_true rfl), (Nat.le_of_ble_eq_true rfl)⟩ ⟨(Nat.le_of_ble_eq_true rfl), (Nat.le_of_ble_eq_true rfl)⟩ dL_claims_12) rfl rfl rfl rfl ?_
  refine z_iadd (pc2 := 16) C dL_claims_15 rfl ?_
  refine z_iload (pc2 := 18) C dL_claims_16 5 rfl rfl ?_
  refine z_iconst (pc2 := 19) (v := 4) C dL_claims_18 rfl rfl ?_
  refine z_ishr (pc2 := 20) C dL_claims_19 rfl ?_
  refine z_bipush (pc2 := 22) (v := 12) C dL_claims_20 (by decide) rfl ?_
  refine x_ret (rest := [.int ((12 : Int32) + (lw x5 20)), .int x4, .int x3, .int x2, .int x1, .ref o]) (st2 := [.int (lw (x5 >>> ((4 : Int32) &&& 31)) 12), .int ((12 : Int32) + (lw x5 20)), .int x4, .int x3, .int x2, .int x1, .ref o]) (pc2 := 25) (cu2 := 0) (su2 := 0) (z_cS12 C kmL_low kk_L_21 (t_low hok (n := 12) (by decide)) rfl rfl (Nat.le_of_ble_eq_true rfl) ⟨(Nat.le_of_ble_eq_true rfl), (Nat.le_of_ble_eq_true rfl)⟩ ⟨(Nat.le_of_ble_eq_true rfl), (Nat.le_of_ble_eq_true rfl)⟩ dL_claims_22) rfl rfl rfl rfl ?_
  have hcon : XM G yX10_claim cX10_claim 11 (some FieldType.int) (RM 8 10) [.ref (ad G 10 0), .int (x1), .int (x2), .int (x3), .int (x4), .int (((12 : Int32) + (lw x5 20))), .int ((lw (x5 >>> ((4 : Int32) &&& 31)) 12))] Ω T Ω2 := by
    have key := tX10_claim hok (i := 0) (x1 := x1) (x2 := x2) (x3 := x3) (x4 := x4) (x5 := ((12 : Int32) + (lw x5 20))) (x6 := (lw (x5 >>> ((4 : Int32) &&& 31)) 12)) (Ω := Ω) hd0
    rw [hf] at key
    exact key
  have hcall : XR G B 7 25 [(0, .ref o), (1, .int x1), (2, .int x2), (3, .int x3), (4, .int x4), (5, .int x5)] [.int (lw (x5 >>> ((4 : Int32) &&& 31)) 12), .int ((12 : Int32) + (lw x5 20)), .int x4, .int x3, .int x2, .int x1, .ref o] [] Ω 0 0 10 60 T Ω2 := by
    subst eo
    exact z_cV (rest := []) C hd0 (Nat.le_of_ble_eq_true rfl) kmX10_claim rfl kk_L_31 hcon rfl rfl (Nat.le_of_ble_eq_true rfl) ⟨(Nat.le_of_ble_eq_true rfl), (Nat.le_of_ble_eq_true rfl)⟩ ⟨(Nat.le_of_ble_eq_true rfl), (Nat.le_of_ble_eq_true rfl)⟩ dL_claims_25
  rcases hr with ⟨v, rfl, hr1⟩ | ⟨rfl, hr1⟩ | ⟨rfl, hr1⟩ | ⟨rfl, hr1⟩
  · refine x_ret (rest := []) (st2 := [.int v]) (pc2 := 28) (cu2 := 10) (su2 := 60) hcall rfl rfl rfl rfl ?_
    exact h_ireturn D dL_claims_28 (Nat.le_of_ble_eq_true rfl) (Nat.le_of_ble_eq_true rfl) hr1 rfl
  · refine h_catch D hcall xio_c [] ⟨0, 28, 29, 15⟩ [⟨0, 28, 34, 17⟩, ⟨0, 28, 39, 19⟩] rfl (fun U hN z hz => absurd hz List.not_mem_nil) rfl (by decide) kn_L_15 (cu2 := 10) (su2 := 60) rfl rfl (pc2 := 29) rfl (fun q => ?_)
    refine z_astore (pc2 := 31) (lv2 := [(6, .ref q), (0, .ref o), (1, .int x1), (2, .int x2), (3, .int x3), (4, .int x4), (5, .int x5)]) C dL_claims_29 (by decide) rfl rfl ?_
    refine z_bipush (pc2 := 33) (v := -2) C dL_claims_31 (by decide) rfl ?_
    exact h_ireturn D dL_claims_33 (Nat.le_of_ble_eq_true rfl) (Nat.le_of_ble_eq_true rfl) hr1 rfl
  · refine h_catch D hcall xia_c [⟨0, 28, 29, 15⟩] ⟨0, 28, 34, 17⟩ [⟨0, 28, 39, 19⟩] rfl (fun U hN => List.forall_mem_cons.mpr ⟨⟨by decide, xIO, kn_L_15, hN.1⟩, fun z hz => absurd hz List.not_mem_nil⟩) rfl (by decide) kn_L_17 (cu2 := 10) (su2 := 60) rfl rfl (pc2 := 34) rfl (fun q => ?_)
    refine z_astore (pc2 := 36) (lv2 := [(6, .ref q), (0, .ref o), (1, .int x1), (2, .int x2), (3, .int x3), (4, .int x4), (5, .int x5)]) C dL_claims_34 (by decide) rfl rfl ?_
    refine z_bipush (pc2 := 38) (v := -3) C dL_claims_36 (by decide) rfl ?_
    exact h_ireturn D dL_claims_38 (Nat.le_of_ble_eq_true rfl) (Nat.le_of_ble_eq_true rfl) hr1 rfl
  · refine h_catch D hcall xis_c [⟨0, 28, 29, 15⟩, ⟨0, 28, 34, 17⟩] ⟨0, 28, 39, 19⟩ [] rfl (fun U hN => List.forall_mem_cons.mpr ⟨⟨by decide, xIO, kn_L_15, hN.2.1⟩, List.forall_mem_cons.mpr ⟨⟨by decide, xIA, kn_L_17, hN.2.2⟩, fun z hz => absurd hz List.not_mem_nil⟩⟩) rfl (by decide) kn_L_19 (cu2 := 10) (su2 := 60) rfl rfl (pc2 := 39) rfl (fun q => ?_)
    refine z_astore (pc2 := 41) (lv2 := [(6, .ref q), (0, .ref o), (1, .int x1), (2, .int x2), (3, .int x3), (4, .int x4), (5, .int x5)]) C dL_claims_39 (by decide) rfl rfl ?_
    refine z_bipush (pc2 := 43) (v := -4) C dL_claims_41 (by decide) rfl ?_
    exact h_ireturn D dL_claims_43 (Nat.le_of_ble_eq_true rfl) (Nat.le_of_ble_eq_true rfl) hr1 rfl
set_option maxRecDepth 100000 in
theorem kmL_makes : XMSH yL_makes cL_makes 6 [(0, 9, 10, 15), (0, 9, 15, 17), (0, 9, 20, 19)] 5 := ⟨lw_in3 219 (by decide +kernel) rfl, lw_in1 0 (by decide +kernel) rfl, lw_in3 220 rfl rfl, by decide +kernel⟩
set_option maxRecDepth 20000 in
theorem hL_makes {G : XG} (hok : XK G) {o : Nat} (eo : ad G 10 0 = o) {x1 : Int32} {x2 : Int32} {x3 : Int32} {x4 : Int32} {Ω : XO} (hd0 : dm G 10 0) {T : Option Value ⊕ String} {Ω2 : XO} (hf : fX10_make Ω (x1) (x2) (x3) (x4) = some (T, Ω2)) {r : Int32} (hr : hvc false T r) : XMH G yL_makes cL_makes 6 [(0, 9, 10, 15), (0, 9, 15, 17), (0, 9, 20, 19)] (RM 17 6) [.ref o, .int x1, .int x2, .int x3, .int x4] Ω r Ω2 := by
  refine h_start (lv := [(0, .ref o), (1, .int x1), (2, .int x2), (3, .int x3), (4, .int x4)]) (own := RL) hok (by decide +kernel) rfl kmL_makes.2.2.1 (Nat.le_of_ble_eq_true rfl) rfl (fun B D => ?_)
  have C := D.z
  refine z_aload_n (pc2 := 1) C dL_makes_0 0 rfl rfl rfl ?_
  refine z_iload_n (pc2 := 2) C dL_makes_1 1 rfl rfl rfl ?_
  refine z_iload_n (pc2 := 3) C dL_makes_2 2 rfl rfl rfl ?_
  refine z_iload_n (pc2 := 4) C dL_makes_3 3 rfl rfl rfl ?_
  refine z_iload (pc2 := 6) C dL_makes_4 4 rfl rfl ?_
  have hcall : XR G B 6 6 [(0, .ref o), (1, .int x1), (2, .int x2), (3, .int x3), (4, .int x4)] [.int x4, .int x3, .int x2, .int x1, .ref o] [] Ω 0 0 6 36 T Ω2 := by
    subst eo
    exact z_cV (rest := []) C hd0 (Nat.le_of_ble_eq_true rfl) kmX10_make rfl kk_L_35 (tX10_make hok hd0 hf) rfl rfl (Nat.le_of_ble_eq_true rfl) ⟨(Nat.le_of_ble_eq_true rfl), (Nat.le_of_ble_eq_true rfl)⟩ ⟨(Nat.le_of_ble_eq_true rfl), (Nat.le_of_ble_eq_true rfl)⟩ dL_makes_6
  rcases hr with ⟨v, rfl, hr1⟩ | ⟨rfl, hr1⟩ | ⟨rfl, hr1⟩ | ⟨rfl, hr1⟩
  · refine x_ret (rest := []) (st2 := [.int v]) (pc2 := 9) (cu2 := 6) (su2 := 36) hcall rfl rfl rfl rfl ?_
    exact h_ireturn D dL_makes_9 (Nat.le_of_ble_eq_true rfl) (Nat.le_of_ble_eq_true rfl) hr1 rfl
  · refine h_catch D hcall xio_c [] ⟨0, 9, 10, 15⟩ [⟨0, 9, 15, 17⟩, ⟨0, 9, 20, 19⟩] rfl (fun U hN z hz => absurd hz List.not_mem_nil) rfl (by decide) kn_L_15 (cu2 := 6) (su2 := 36) rfl rfl (pc2 := 10) rfl (fun q => ?_)
    refine z_astore (pc2 := 12) (lv2 := [(5, .ref q), (0, .ref o), (1, .int x1), (2, .int x2), (3, .int x3), (4, .int x4)]) C dL_makes_10 (by decide) rfl rfl ?_
    refine z_bipush (pc2 := 14) (v := -2) C dL_makes_12 (by decide) rfl ?_
    exact h_ireturn D dL_makes_14 (Nat.le_of_ble_eq_true rfl) (Nat.le_of_ble_eq_true rfl) hr1 rfl
  · refine h_catch D hcall xia_c [⟨0, 9, 10, 15⟩] ⟨0, 9, 15, 17⟩ [⟨0, 9, 20, 19⟩] rfl (fun U hN => List.forall_mem_cons.mpr ⟨⟨by decide, xIO, kn_L_15, hN.1⟩, fun z hz => absurd hz List.not_mem_nil⟩) rfl (by decide) kn_L_17 (cu2 := 6) (su2 := 36) rfl rfl (pc2 := 15) rfl (fun q => ?_)
    refine z_astore (pc2 := 17) (lv2 := [(5, .ref q), (0, .ref o), (1, .int x1), (2, .int x2), (3, .int x3), (4, .int x4)]) C dL_makes_15 (by decide) rfl rfl ?_
    refine z_bipush (pc2 := 19) (v := -3) C dL_makes_17 (by decide) rfl ?_
    exact h_ireturn D dL_makes_19 (Nat.le_of_ble_eq_true rfl) (Nat.le_of_ble_eq_true rfl) hr1 rfl
  · refine h_catch D hcall xis_c [⟨0, 9, 10, 15⟩, ⟨0, 9, 15, 17⟩] ⟨0, 9, 20, 19⟩ [] rfl (fun U hN => List.forall_mem_cons.mpr ⟨⟨by decide, xIO, kn_L_15, hN.2.1⟩, List.forall_mem_cons.mpr ⟨⟨by decide, xIA, kn_L_17, hN.2.2⟩, fun z hz => absurd hz List.not_mem_nil⟩⟩) rfl (by decide) kn_L_19 (cu2 := 6) (su2 := 36) rfl rfl (pc2 := 20) rfl (fun q => ?_)
    refine z_astore (pc2 := 22) (lv2 := [(5, .ref q), (0, .ref o), (1, .int x1), (2, .int x2), (3, .int x3), (4, .int x4)]) C dL_makes_20 (by decide) rfl rfl ?_
    refine z_bipush (pc2 := 24) (v := -4) C dL_makes_22 (by decide) rfl ?_
    exact h_ireturn D dL_makes_24 (Nat.le_of_ble_eq_true rfl) (Nat.le_of_ble_eq_true rfl) hr1 rfl
set_option maxRecDepth 100000 in
theorem kmL_votes : XMSH yL_votes cL_votes 6 [(0, 17, 18, 15), (0, 17, 23, 17), (0, 17, 28, 19)] 5 := ⟨lw_in4 189 (by decide +kernel) rfl, lw_in1 0 (by decide +kernel) rfl, lw_in4 190 rfl rfl, by decide +kernel⟩
set_option maxRecDepth 20000 in
theorem hL_votes {G : XG} (hok : XK G) {o : Nat} (eo : ad G 10 0 = o) {x1 : Int32} {x2 : Int32} {x3 : Int32} {x4 : Int32} {Ω : XO} (hd0 : dm G 10 0) {T : Option Value ⊕ String} {Ω2 : XO} (hf : fX10_vote Ω (x1) (x2) (x3) (x4) = some (T, Ω2)) {r : Int32} (hr : hvc true T r) : XMH G yL_votes cL_votes 6 [(0, 17, 18, 15), (0, 17, 23, 17), (0, 17, 28, 19)] (RM 9 8) [.ref o, .int x1, .int x2, .int x3, .int x4] Ω r Ω2 := by
  refine h_start (lv := [(0, .ref o), (1, .int x1), (2, .int x2), (3, .int x3), (4, .int x4)]) (own := RL) hok (by decide +kernel) rfl kmL_votes.2.2.1 (Nat.le_of_ble_eq_true rfl) rfl (fun B D => ?_)
  have C := D.z
  refine z_aload_n (pc2 := 1) C dL_votes_0 0 rfl rfl rfl ?_
  refine z_iload_n (pc2 := 2) C dL_votes_1 1 rfl rfl rfl ?_
  refine z_iload_n (pc2 := 3) C dL_votes_2 2 rfl rfl rfl ?_
  refine z_iload_n (pc2 := 4) C dL_votes_3 3 rfl rfl rfl ?_
  refine z_iload (pc2 := 6) C dL_votes_4 4 rfl rfl ?_
  have hcall : XR G B 6 6 [(0, .ref o), (1, .int x1), (2, .int x2), (3, .int x3), (4, .int x4)] [.int x4, .int x3, .int x2, .int x1, .ref o] [] Ω 0 0 8 48 T Ω2 := by
    subst eo
    exact z_cV (rest := []) C hd0 (Nat.le_of_ble_eq_true rfl) kmX10_vote rfl kk_L_39 (tX10_vote hok hd0 hf) rfl rfl (Nat.le_of_ble_eq_true rfl) ⟨(Nat.le_of_ble_eq_true rfl), (Nat.le_of_ble_eq_true rfl)⟩ ⟨(Nat.le_of_ble_eq_true rfl), (Nat.le_of_ble_eq_true rfl)⟩ dL_votes_6
  rcases hr with ⟨v, rfl, hr1⟩ | ⟨rfl, hr1⟩ | ⟨rfl, hr1⟩ | ⟨rfl, hr1⟩
  · refine x_ret (rest := []) (st2 := [.int v]) (pc2 := 9) (cu2 := 8) (su2 := 48) hcall rfl rfl rfl rfl ?_
    refine z_if_eq (tgt := 16) (pc2 := 12) C dL_votes_9 (by decide) rfl (fun qc => ?_) (fun qc => ?_)
    · skip
      refine z_iconst (pc2 := 17) (v := 0) C dL_votes_16 rfl rfl ?_
      exact h_ireturn D dL_votes_17 (Nat.le_of_ble_eq_true rfl) (Nat.le_of_ble_eq_true rfl) (by rw [hr1, if_pos rfl, if_pos qc]) rfl
    · skip
      refine z_iconst (pc2 := 13) (v := 1) C dL_votes_12 rfl rfl ?_
      refine z_goto (tgt := 17) C dL_votes_13 (by decide) ?_
      exact h_ireturn D dL_votes_17 (Nat.le_of_ble_eq_true rfl) (Nat.le_of_ble_eq_true rfl) (by rw [hr1, if_pos rfl, if_neg qc]) rfl
  · refine h_catch D hcall xio_c [] ⟨0, 17, 18, 15⟩ [⟨0, 17, 23, 17⟩, ⟨0, 17, 28, 19⟩] rfl (fun U hN z hz => absurd hz List.not_mem_nil) rfl (by decide) kn_L_15 (cu2 := 8) (su2 := 48) rfl rfl (pc2 := 18) rfl (fun q => ?_)
    refine z_astore (pc2 := 20) (lv2 := [(5, .ref q), (0, .ref o), (1, .int x1), (2, .int x2), (3, .int x3), (4, .int x4)]) C dL_votes_18 (by decide) rfl rfl ?_
    refine z_bipush (pc2 := 22) (v := -2) C dL_votes_20 (by decide) rfl ?_
    exact h_ireturn D dL_votes_22 (Nat.le_of_ble_eq_true rfl) (Nat.le_of_ble_eq_true rfl) hr1 rfl
  · refine h_catch D hcall xia_c [⟨0, 17, 18, 15⟩] ⟨0, 17, 23, 17⟩ [⟨0, 17, 28, 19⟩] rfl (fun U hN => List.forall_mem_cons.mpr ⟨⟨by decide, xIO, kn_L_15, hN.1⟩, fun z hz => absurd hz List.not_mem_nil⟩) rfl (by decide) kn_L_17 (cu2 := 8) (su2 := 48) rfl rfl (pc2 := 23) rfl (fun q => ?_)
    refine z_astore (pc2 := 25) (lv2 := [(5, .ref q), (0, .ref o), (1, .int x1), (2, .int x2), (3, .int x3), (4, .int x4)]) C dL_votes_23 (by decide) rfl rfl ?_
    refine z_bipush (pc2 := 27) (v := -3) C dL_votes_25 (by decide) rfl ?_
    exact h_ireturn D dL_votes_27 (Nat.le_of_ble_eq_true rfl) (Nat.le_of_ble_eq_true rfl) hr1 rfl
  · refine h_catch D hcall xis_c [⟨0, 17, 18, 15⟩, ⟨0, 17, 23, 17⟩] ⟨0, 17, 28, 19⟩ [] rfl (fun U hN => List.forall_mem_cons.mpr ⟨⟨by decide, xIO, kn_L_15, hN.2.1⟩, List.forall_mem_cons.mpr ⟨⟨by decide, xIA, kn_L_17, hN.2.2⟩, fun z hz => absurd hz List.not_mem_nil⟩⟩) rfl (by decide) kn_L_19 (cu2 := 8) (su2 := 48) rfl rfl (pc2 := 28) rfl (fun q => ?_)
    refine z_astore (pc2 := 30) (lv2 := [(5, .ref q), (0, .ref o), (1, .int x1), (2, .int x2), (3, .int x3), (4, .int x4)]) C dL_votes_28 (by decide) rfl rfl ?_
    refine z_bipush (pc2 := 32) (v := -4) C dL_votes_30 (by decide) rfl ?_
    exact h_ireturn D dL_votes_32 (Nat.le_of_ble_eq_true rfl) (Nat.le_of_ble_eq_true rfl) hr1 rfl
set_option maxRecDepth 100000 in
theorem kmL_coins : XMSH yL_coins cL_coins 5 [(0, 7, 8, 15), (0, 7, 13, 19)] 4 := ⟨lw_in5 20 (by decide +kernel) rfl, lw_in1 0 (by decide +kernel) rfl, lw_in5 21 rfl rfl, by decide +kernel⟩
set_option maxRecDepth 20000 in
theorem hL_coins {G : XG} (hok : XK G) {o : Nat} (eo : ad G 10 0 = o) {x1 : Int32} {x2 : Int32} {x3 : Int32} {Ω : XO} (hd0 : dm G 10 0) {T : Option Value ⊕ String} {Ω2 : XO} (hf : fX10_coins Ω 0 (x1) (x2) (x3) = (T, Ω2)) {r : Int32} (hr : hvc false T r) (hna : ¬ T = .inr xIA) : XMH G yL_coins cL_coins 5 [(0, 7, 8, 15), (0, 7, 13, 19)] (RM 10 4) [.ref o, .int x1, .int x2, .int x3] Ω r Ω2 := by
  refine h_start (lv := [(0, .ref o), (1, .int x1), (2, .int x2), (3, .int x3)]) (own := RL) hok (by decide +kernel) rfl kmL_coins.2.2.1 (Nat.le_of_ble_eq_true rfl) rfl (fun B D => ?_)
  have C := D.z
  refine z_aload_n (pc2 := 1) C dL_coins_0 0 rfl rfl rfl ?_
  refine z_iload_n (pc2 := 2) C dL_coins_1 1 rfl rfl rfl ?_
  refine z_iload_n (pc2 := 3) C dL_coins_2 2 rfl rfl rfl ?_
  refine z_iload_n (pc2 := 4) C dL_coins_3 3 rfl rfl rfl ?_
  have hcon : XM G yX10_coins cX10_coins 4 (some FieldType.int) (RM 9 4) [.ref (ad G 10 0), .int (x1), .int (x2), .int (x3)] Ω T Ω2 := by
    have key := tX10_coins hok (i := 0) (x1 := x1) (x2 := x2) (x3 := x3) (Ω := Ω) hd0
    rw [hf] at key
    exact key
  have hcall : XR G B 5 4 [(0, .ref o), (1, .int x1), (2, .int x2), (3, .int x3)] [.int x3, .int x2, .int x1, .ref o] [] Ω 0 0 4 24 T Ω2 := by
    subst eo
    exact z_cV (rest := []) C hd0 (Nat.le_of_ble_eq_true rfl) kmX10_coins rfl kk_L_43 hcon rfl rfl (Nat.le_of_ble_eq_true rfl) ⟨(Nat.le_of_ble_eq_true rfl), (Nat.le_of_ble_eq_true rfl)⟩ ⟨(Nat.le_of_ble_eq_true rfl), (Nat.le_of_ble_eq_true rfl)⟩ dL_coins_4
  rcases hr with ⟨v, rfl, hr1⟩ | ⟨rfl, hr1⟩ | ⟨rfl, hr1⟩ | ⟨rfl, hr1⟩
  · refine x_ret (rest := []) (st2 := [.int v]) (pc2 := 7) (cu2 := 4) (su2 := 24) hcall rfl rfl rfl rfl ?_
    exact h_ireturn D dL_coins_7 (Nat.le_of_ble_eq_true rfl) (Nat.le_of_ble_eq_true rfl) hr1 rfl
  · refine h_catch D hcall xio_c [] ⟨0, 7, 8, 15⟩ [⟨0, 7, 13, 19⟩] rfl (fun U hN z hz => absurd hz List.not_mem_nil) rfl (by decide) kn_L_15 (cu2 := 4) (su2 := 24) rfl rfl (pc2 := 8) rfl (fun q => ?_)
    refine z_astore (pc2 := 10) (lv2 := [(4, .ref q), (0, .ref o), (1, .int x1), (2, .int x2), (3, .int x3)]) C dL_coins_8 (by decide) rfl rfl ?_
    refine z_bipush (pc2 := 12) (v := -2) C dL_coins_10 (by decide) rfl ?_
    exact h_ireturn D dL_coins_12 (Nat.le_of_ble_eq_true rfl) (Nat.le_of_ble_eq_true rfl) hr1 rfl
  · exact absurd rfl hna
  · refine h_catch D hcall xis_c [⟨0, 7, 8, 15⟩] ⟨0, 7, 13, 19⟩ [] rfl (fun U hN => List.forall_mem_cons.mpr ⟨⟨by decide, xIO, kn_L_15, hN.2.1⟩, fun z hz => absurd hz List.not_mem_nil⟩) rfl (by decide) kn_L_19 (cu2 := 4) (su2 := 24) rfl rfl (pc2 := 13) rfl (fun q => ?_)
    refine z_astore (pc2 := 15) (lv2 := [(4, .ref q), (0, .ref o), (1, .int x1), (2, .int x2), (3, .int x3)]) C dL_coins_13 (by decide) rfl rfl ?_
    refine z_bipush (pc2 := 17) (v := -4) C dL_coins_15 (by decide) rfl ?_
    exact h_ireturn D dL_coins_17 (Nat.le_of_ble_eq_true rfl) (Nat.le_of_ble_eq_true rfl) hr1 rfl
theorem z_len {G : XG} {B : XB} {cc : ByteArray} {own : String} {rm : Room} {nL : Nat} (C : XZ G B cc own rm nL) {b L : Nat} {xs : Nat → Int32} (S : XSc G b L xs B) {pc pc2 : Nat} {lv : List (Nat × Value)} {st : List Value} {Ω : XO} {cu su : Nat} (hd : decode cc pc = .ok (.arraylength, 1)) (hp : pc + 1 = pc2) (kk : XW G B nL pc2 lv (.int (nI L) :: st) Ω cu su) : XW G B nL pc lv (.ref b :: st) Ω cu su := by
  obtain ⟨p, e, R, s, m, args, below, meth, c, Q⟩ := B
  obtain ⟨hx, hb, hml, ho, hts, hU, hok, hlk, hR, hret, htab, hQ⟩ := C
  subst hp
  intro H locs ls hP hS hl
  exact va_slen hx hb S.1 S.2.1 S.2.2 hS hd (kk H locs ls hP hS hl)
theorem z_sld {G : XG} {B : XB} {cc : ByteArray} {own : String} {rm : Room} {nL : Nat} (C : XZ G B cc own rm nL) {b L : Nat} {xs : Nat → Int32} (S : XSc G b L xs B) {pc pc2 j : Nat} {lv : List (Nat × Value)} {st : List Value} {Ω : XO} {cu su : Nat} (hd : decode cc pc = .ok (.iaload, 1)) (hl : j < L) (hL : L < 100000) (hp : pc + 1 = pc2) (kk : XW G B nL pc2 lv (.int (xs j) :: st) Ω cu su) : XW G B nL pc lv (.int (nI j) :: .ref b :: st) Ω cu su := by
  obtain ⟨p, e, R, s, m, args, below, meth, c, Q⟩ := B
  obtain ⟨hx, hb, hml, ho, hts, hU, hok, hlk, hR, hret, htab, hQ⟩ := C
  subst hp
  intro H locs ls hP hS hl0
  refine va_sld hx hb S.1 S.2.1 S.2.2 hS (nI_in hl (by omega)) hd ?_
  rw [nI_clamp (by omega)]
  exact kk H locs ls hP hS hl0
/-- the law's cell: some number -/
theorem t_cell {G : XG} (hok : XK G) {b L : Nat} {xs : Nat → Int32} (hL : L ≤ 260) {j : Nat} (hj : j < 1000) {Ω : XO} : PMS G b L xs yL_cell cL_cell 2 (some FieldType.int) (RM 0 0) [.ref b, .int (nI j)] Ω (fun v G' Ω' => G' = G ∧ Ω' = Ω ∧ ∃ x, v = .int x) := by
  refine p_startS (lv := [(0, .ref b), (1, .int (nI j))]) (own := RL) hok (by decide +kernel) rfl (Nat.le_of_ble_eq_true rfl) rfl (fun B C hN E S => ?_)
  refine z_iload_n (pc2 := 1) C dL_cell_0 1 rfl rfl rfl ?_
  refine z_aload_n (pc2 := 2) C dL_cell_1 0 rfl rfl rfl ?_
  refine z_len (pc2 := 3) C S dL_cell_2 rfl ?_
  refine z_icmp_ge (tgt := 12) (pc2 := 6) C dL_cell_3 (by decide) rfl (fun qc => ?_) (fun qc => ?_)
  · refine z_ldc (pc2 := 14) C kc_L_7 dL_cell_12 rfl ?_
    refine z_iload_n (pc2 := 15) C dL_cell_14 1 rfl rfl rfl ?_
    refine z_imul (pc2 := 16) C dL_cell_15 rfl ?_
    refine z_sipush (pc2 := 19) (v := 1801) C dL_cell_16 (by decide) rfl ?_
    refine z_iadd (pc2 := 20) C dL_cell_19 rfl ?_
    exact p_ireturn C E (gs.rf hok) dL_cell_20 rfl (Nat.le_refl _) (Nat.le_refl _) ⟨rfl, rfl, _, rfl⟩
  · have hjL : j < L := by
      rw [nI_leI (by omega) (by omega)] at qc
      omega
    refine z_aload_n (pc2 := 7) C dL_cell_6 0 rfl rfl rfl ?_
    refine z_iload_n (pc2 := 8) C dL_cell_7 1 rfl rfl rfl ?_
    refine z_sld (j := j) (pc2 := 9) C S dL_cell_8 hjL (by omega) rfl ?_
    refine z_goto (tgt := 20) C dL_cell_9 (by decide) ?_
    exact p_ireturn C E (gs.rf hok) dL_cell_20 rfl (Nat.le_refl _) (Nat.le_refl _) ⟨rfl, rfl, _, rfl⟩
