def ov (G : XG) (k : Nat) : Option Nat → Value
  | none => .null
  | some x => .ref (ad G k x)
theorem ov_or {G : XG} (k : Nat) (o : Option Nat) : ov G k o = .null ∨ ∃ a, ov G k o = .ref a := by
  rcases o with _ | x
  · exact Or.inl rfl
  · exact Or.inr ⟨_, rfl⟩
theorem x_aload_nO {G : XG} {B : XB} {cc : ByteArray} {own : String} {rm : Room} {nL : Nat} {ret : Option FieldType} {T : Option Value ⊕ String} {Ω9 : XO} (C : XC G B cc own rm nL ret T Ω9) {pc : Nat} {lv : List (Nat × Value)} {st : List Value} {Ω : XO} {cu su : Nat} {n : Fin 4} {i kd : Nat} {o : Option Nat} (hd : decode cc pc = .ok (.aload_n n, 1)) (q : Nat) (hq : lv[q]? = some (i, ov G kd o)) (hi : (n : Nat) = i) {pc2 : Nat} (hp : pc + 1 = pc2) (k : XW G B nL pc2 lv (ov G kd o :: st) Ω cu su) : XW G B nL pc lv st Ω cu su := by
  rcases o with _ | x
  · exact x_aload_nN C hd q hq hi hp k
  · exact x_aload_n C hd q hq hi hp k
theorem x_aloadO {G : XG} {B : XB} {cc : ByteArray} {own : String} {rm : Room} {nL : Nat} {ret : Option FieldType} {T : Option Value ⊕ String} {Ω9 : XO} (C : XC G B cc own rm nL ret T Ω9) {pc : Nat} {lv : List (Nat × Value)} {st : List Value} {Ω : XO} {cu su : Nat} {i kd : Nat} {o : Option Nat} (hd : decode cc pc = .ok (.aload i, 2)) (q : Nat) (hq : lv[q]? = some (i, ov G kd o)) {pc2 : Nat} (hp : pc + 2 = pc2) (k : XW G B nL pc2 lv (ov G kd o :: st) Ω cu su) : XW G B nL pc lv st Ω cu su := by
  rcases o with _ | x
  · exact x_aloadN C hd q hq hp k
  · exact x_aload C hd q hq hp k
theorem x_astore_nO {G : XG} {B : XB} {cc : ByteArray} {own : String} {rm : Room} {nL : Nat} {ret : Option FieldType} {T : Option Value ⊕ String} {Ω9 : XO} (C : XC G B cc own rm nL ret T Ω9) {pc : Nat} {lv : List (Nat × Value)} {st : List Value} {Ω : XO} {cu su : Nat} {n : Fin 4} {i kd : Nat} {o : Option Nat} {lv2 : List (Nat × Value)} (hd : decode cc pc = .ok (.astore_n n, 1)) (hi : (n : Nat) = i) (hn : i < nL) (h2 : (i, ov G kd o) :: lv.filter (fun q => !(q.1 == i) && !(q.1 + 1 == i && q.2.category == 2)) = lv2) {pc2 : Nat} (hp : pc + 1 = pc2) (k : XW G B nL pc2 lv2 st Ω cu su) : XW G B nL pc lv (ov G kd o :: st) Ω cu su := by
  rcases o with _ | x
  · exact x_astore_nN C hd hi hn h2 hp k
  · exact x_astore_n C hd hi hn h2 hp k
theorem x_astoreO {G : XG} {B : XB} {cc : ByteArray} {own : String} {rm : Room} {nL : Nat} {ret : Option FieldType} {T : Option Value ⊕ String} {Ω9 : XO} (C : XC G B cc own rm nL ret T Ω9) {pc : Nat} {lv : List (Nat × Value)} {st : List Value} {Ω : XO} {cu su : Nat} {i kd : Nat} {o : Option Nat} {lv2 : List (Nat × Value)} (hd : decode cc pc = .ok (.astore i, 2)) (hn : i < nL) (h2 : (i, ov G kd o) :: lv.filter (fun q => !(q.1 == i) && !(q.1 + 1 == i && q.2.category == 2)) = lv2) {pc2 : Nat} (hp : pc + 2 = pc2) (k : XW G B nL pc2 lv2 st Ω cu su) : XW G B nL pc lv (ov G kd o :: st) Ω cu su := by
  rcases o with _ | x
  · exact x_astoreN C hd hn h2 hp k
  · exact x_astore C hd hn h2 hp k
def wl {α β : Type} (a : α) (f : α → β) : β := f a
theorem wl_eq {α β : Type} {a b : α} (h : b = a) (f : α → β) : wl a f = f b := by rw [h]; rfl
theorem x_om {G : XG} {B : XB} {nL pc : Nat} {lv : List (Nat × Value)} {st : List Value} {Ω Ω2 : XO} {cu su : Nat} (h : Ω2 = Ω) (k : XW G B nL pc lv st Ω2 cu su) : XW G B nL pc lv st Ω cu su := h ▸ k
def oE {α : Type} : Option Nat → α → (Nat → α) → α
  | none, a, _ => a
  | some x, _, f => f x
theorem oE_n {α : Type} (a : α) (f : Nat → α) : oE none a f = a := rfl
theorem oE_s {α : Type} (x : Nat) (a : α) (f : Nat → α) : oE (some x) a f = f x := rfl
theorem x_lout {l : List (Int × Int)} {d k : Int} (h : ∀ p ∈ l, ¬ k = p.1) : Op.lookupswitch.offset l d k = d := by
  induction l with
  | nil => rfl
  | cons p r ih =>
    obtain ⟨a, o⟩ := p
    rw [Op.lookupswitch.offset_cons, if_neg (fun q => h _ (List.mem_cons_self ..) q.symm)]
    exact ih (fun p hp => h p (List.mem_cons_of_mem _ hp))
theorem vx_ofWF {l : Launch} {y : MethodName} {ws ws' : List Cond} {rm : Room} {Pc : Array Value → State → Prop} {Qc : Array Value → State → Outcome → State → Prop} {XC : String → State → State → Prop} {mc ms : Nat} {free : Addr → Prop} {cc : ByteArray} {maxL : Nat} {ret : Option FieldType}
    (hy : plainFor y = true) (hw : ws = Cond.code y cc maxL ret :: ws')
    (body : ∀ p e s m args below meth c s₁, BodyLoose p l y (headSpec ws rm) cc maxL ret e s m args below meth c s₁ → c.maxLocals = maxL → (∀ x ∈ c.exceptionTable.toList, False) → Pc args s →
      W p l e (headSpec ws rm).room s m args below meth c s.heap [] 0 0 (vx_MQ below Qc XC args s mc ms free) (entryFrame m args maxL)) : vx_Met l y ws rm Pc Qc XC mc ms free := by
  refine MetFree.of_bodySF (code := cc) (maxLocals := maxL) (ret := ret) hy ?_ ?_
  · intro args s m h hn
    obtain ⟨meth, c, h1, h2, h3, h4, h5, h6, -, -⟩ := Cond.code_spec hn (atoms_spec (ws := ws) h _ (by rw [hw]; exact List.mem_cons_self))
    exact ⟨meth, c, h1, h2, h3, h4, h5, h6⟩
  · intro p e s m args below meth c s₁ B hml hP _
    have hh0 : s₁.heap = s.heap := by rw [B.state]; rfl
    have ht : ∀ x ∈ c.exceptionTable.toList, False := by
      obtain ⟨meth9, c9, h1, h2, -, -, -, -, h7, -⟩ := Cond.code_spec B.named (atoms_spec (ws := ws) B.pre _ (by rw [hw]; exact List.mem_cons_self))
      cases Option.some.inj (h1.symm.trans B.method)
      cases Option.some.inj (h2.symm.trans (Stand.of_body B).code)
      intro x hx
      rw [Array.isEmpty_iff.mp h7] at hx
      cases hx
    obtain ⟨t, a1, o, b1, b2, b3⟩ := body p e s m args below meth c s₁ B hml ht hP s₁ hh0 (Stand.of_body B)
    exact ⟨t, o, a1, b1, b2, b3⟩
theorem x_startF {G : XG} (hok : XK G) {y : MethodName} {cc : ByteArray} {maxL : Nat} {ret : Option FieldType} {rm : Room} {as : List Value} {Ω Ω' : XO} {T : Option Value ⊕ String} {lv : List (Nat × Value)} {own : String} (hy : plainFor y = true) (ho : y.cls = own) (hlen : (lg_sl as).length ≤ maxL) (hlv : lv_args 0 as = lv)
    (body : ∀ B : XB, XC G B cc own rm maxL ret T Ω' → XW G B maxL 0 lv [] Ω 0 0) : XM G y cc maxL ret rm as Ω T Ω' := by
  subst ho
  refine vx_ofWF (cc := cc) (maxL := maxL) (ret := ret) hy rfl ?_
  intro p e s m args below meth c s₁ B hml ht hv
  obtain ⟨rfl, hU, hP⟩ := hv
  have hts : ∀ w ∈ lw_g, w.before as.toArray s = true := fun w hw => atoms_spec (ws := Cond.code y cc maxL ret :: lw_g) B.pre w (List.mem_cons_of_mem _ hw)
  have k := body (p, e, rm, s, m, as.toArray, below, meth, c, vx_MQ below (XQc G T Ω') (XXc G T Ω') as.toArray s rm.cells rm.slots (xA G)) ⟨B.exec, B.bytes, hml, findClass_of_methodNamed B.named, hts, hU, hok, B.notSynchronized, rfl, B.returns, ht, rfl⟩
  have hl := lv_entry as (n := maxL) hlen
  rw [hlv] at hl
  rw [lg_entry_eq]
  exact k s.heap [] _ hP va_S.rf hl

def fJ9_floorMod_7cf53 (Ω : XO) (x1 : Int32) (x2 : Int32) : Int32 := (if 0 ≤ (x1 ^^^ x2) then x1 - x1 / x2 * x2 else (if (x1 - x1 / x2 * x2) = 0 then x1 - x1 / x2 * x2 else (x1 - x1 / x2 * x2) + x2))
set_option maxRecDepth 20000 in
theorem tJ9_floorMod_7cf53 {G : XG} (hok : XK G) {x1 : Int32} {x2 : Int32} {Ω : XO}    (hz : ¬ x2 = 0): XM G yJ9_floorMod_7cf53 cJ9_floorMod_7cf53 3 ((some FieldType.int)) (RM 0 0) [.int x1, .int x2] Ω (.inl (some (.int (fJ9_floorMod_7cf53 Ω x1 x2)))) Ω := by
  refine x_startF (lv := [(0, .int x1), (1, .int x2)]) (own := RJ9) hok (by decide +kernel) rfl (Nat.le_of_ble_eq_true rfl) rfl (fun B C => ?_)
  refine x_iload_n (pc2 := 1) C dJ9_floorMod_7cf53_0 0 rfl rfl rfl ?_
  refine x_iload_n (pc2 := 2) C dJ9_floorMod_7cf53_1 1 rfl rfl rfl ?_
  refine x_irem (pc2 := 3) C dJ9_floorMod_7cf53_2 hz rfl ?_
  refine x_istore_n (pc2 := 4) (lv2 := [(2, _), (0, _), (1, _)]) C dJ9_floorMod_7cf53_3 rfl (by decide) rfl rfl ?_
  refine x_iload_n (pc2 := 5) C dJ9_floorMod_7cf53_4 1 rfl rfl rfl ?_
  refine x_iload_n (pc2 := 6) C dJ9_floorMod_7cf53_5 2 rfl rfl rfl ?_
  refine x_ixor (pc2 := 7) C dJ9_floorMod_7cf53_6 rfl ?_
  refine x_if_ge (tgt := 18) (pc2 := 10) C dJ9_floorMod_7cf53_7 (by decide) rfl (fun qc_1 => ?_) (fun qc_1 => ?_)
  · refine x_iload_n (pc2 := 19) C dJ9_floorMod_7cf53_18 0 rfl rfl rfl ?_
    exact x_ireturn C dJ9_floorMod_7cf53_19 rfl (Nat.le_of_ble_eq_true rfl) (Nat.le_of_ble_eq_true rfl) (by rw [fJ9_floorMod_7cf53, if_pos qc_1] <;> rfl) rfl
  · refine x_iload_n (pc2 := 11) C dJ9_floorMod_7cf53_10 0 rfl rfl rfl ?_
    refine x_if_eq (tgt := 18) (pc2 := 14) C dJ9_floorMod_7cf53_11 (by decide) rfl (fun qc_2 => ?_) (fun qc_2 => ?_)
    · refine x_iload_n (pc2 := 19) C dJ9_floorMod_7cf53_18 0 rfl rfl rfl ?_
      exact x_ireturn C dJ9_floorMod_7cf53_19 rfl (Nat.le_of_ble_eq_true rfl) (Nat.le_of_ble_eq_true rfl) (by rw [fJ9_floorMod_7cf53, if_neg qc_1, if_pos qc_2] <;> rfl) rfl
    · refine x_iload_n (pc2 := 15) C dJ9_floorMod_7cf53_14 0 rfl rfl rfl ?_
      refine x_iload_n (pc2 := 16) C dJ9_floorMod_7cf53_15 2 rfl rfl rfl ?_
      refine x_iadd (pc2 := 17) C dJ9_floorMod_7cf53_16 rfl ?_
      exact x_ireturn C dJ9_floorMod_7cf53_17 rfl (Nat.le_of_ble_eq_true rfl) (Nat.le_of_ble_eq_true rfl) (by rw [fJ9_floorMod_7cf53, if_neg qc_1, if_neg qc_2] <;> rfl) rfl
def fX3_calculate (Ω : XO) (i : Nat) (x1 : Int32) : XO := (if x1 = 1 then fX3_push ((fX3_take ((fX3_take Ω i).2) i).2) i ((((fX3_take ((fX3_take Ω i).2) i).1) + ((fX3_take Ω i).1)) - (((fX3_take ((fX3_take Ω i).2) i).1) + ((fX3_take Ω i).1)) / (1000000 : Int32) * (1000000 : Int32)) else (if x1 = 2 then fX3_push ((fX3_take ((fX3_take Ω i).2) i).2) i (fJ9_floorMod_7cf53 ((fX3_take ((fX3_take Ω i).2) i).2) (((fX3_take ((fX3_take Ω i).2) i).1) - ((fX3_take Ω i).1)) (1000000 : Int32)) else (if x1 = 3 then fX3_push ((fX3_take ((fX3_take Ω i).2) i).2) i ((((((fX3_take ((fX3_take Ω i).2) i).1).toInt64) * (((fX3_take Ω i).1).toInt64)) - ((((fX3_take ((fX3_take Ω i).2) i).1).toInt64) * (((fX3_take Ω i).1).toInt64)) / (1000000 : Int64) * (1000000 : Int64)).toInt32) else (if x1 = 4 then (if ((fX3_take Ω i).1) ≤ ((fX3_take ((fX3_take Ω i).2) i).1) then fX3_push ((fX3_take ((fX3_take Ω i).2) i).2) i (0 : Int32) else fX3_push ((fX3_take ((fX3_take Ω i).2) i).2) i (1 : Int32)) else (if x1 = 5 then (if ((fX3_take ((fX3_take Ω i).2) i).1) = ((fX3_take Ω i).1) then fX3_push ((fX3_take ((fX3_take Ω i).2) i).2) i (1 : Int32) else fX3_push ((fX3_take ((fX3_take Ω i).2) i).2) i (0 : Int32)) else (if x1 = 6 then (fX3_take ((fX3_take Ω i).2) i).2 else (if x1 = 7 then fX3_push (fX3_push ((fX3_take ((fX3_take Ω i).2) i).2) i ((fX3_take Ω i).1)) i ((fX3_take ((fX3_take Ω i).2) i).1) else (fX3_take ((fX3_take Ω i).2) i).2)))))))
set_option maxRecDepth 20000 in
theorem tX3_calculate {G : XG} (hok : XK G) {i : Nat} {x1 : Int32} {Ω : XO} (hd0 : dm G 3 i)   : XM G yX3_calculate cX3_calculate 4 none (RM 1 0) [.ref (ad G 3 i), .int x1] Ω (.inl none) (fX3_calculate Ω i x1) := by
  refine x_start (lv := [(0, .ref (ad G 3 i)), (1, .int x1)]) (own := RX3) hok (by decide +kernel) rfl (Nat.le_of_ble_eq_true rfl) rfl (fun B C => ?_)
  refine x_aload_n (pc2 := 1) C dX3_calculate_0 0 rfl rfl rfl ?_
  refine x_ret (rest := []) (st2 := [_]) (pc2 := 4) (cu2 := 0) (su2 := 0) (x_cV C (by assumption) (Nat.le_of_ble_eq_true rfl) kmX3_take rfl kk_3_92 (tX3_take hok (by assumption)) rfl rfl (Nat.le_of_ble_eq_true rfl) ⟨Nat.le_of_ble_eq_true rfl, Nat.le_of_ble_eq_true rfl⟩ ⟨Nat.le_of_ble_eq_true rfl, Nat.le_of_ble_eq_true rfl⟩ dX3_calculate_1) rfl rfl rfl rfl ?_
  refine x_istore_n (pc2 := 5) (lv2 := [(2, _), (0, _), (1, _)]) C dX3_calculate_4 rfl (by decide) rfl rfl ?_
  refine x_aload_n (pc2 := 6) C dX3_calculate_5 1 rfl rfl rfl ?_
  refine x_ret (rest := []) (st2 := [_]) (pc2 := 9) (cu2 := 0) (su2 := 0) (x_cV C (by assumption) (Nat.le_of_ble_eq_true rfl) kmX3_take rfl kk_3_92 (tX3_take hok (by assumption)) rfl rfl (Nat.le_of_ble_eq_true rfl) ⟨Nat.le_of_ble_eq_true rfl, Nat.le_of_ble_eq_true rfl⟩ ⟨Nat.le_of_ble_eq_true rfl, Nat.le_of_ble_eq_true rfl⟩ dX3_calculate_6) rfl rfl rfl rfl ?_
  refine x_istore_n (pc2 := 10) (lv2 := [(3, _), (2, _), (0, _), (1, _)]) C dX3_calculate_9 rfl (by decide) rfl rfl ?_
  refine x_iload_n (pc2 := 11) C dX3_calculate_10 3 rfl rfl rfl ?_
  rcases Decidable.em (x1 = 1) with qc_1 | qc_1
  · refine x_tableIn (tgt := 52) C dX3_calculate_11 (by rw [qc_1]; decide) (by rw [qc_1]; decide) (by rw [qc_1]; rfl) (by decide) ?_
    refine x_aload_n (pc2 := 53) C dX3_calculate_52 2 rfl rfl rfl ?_
    refine x_iload_n (pc2 := 54) C dX3_calculate_53 0 rfl rfl rfl ?_
    refine x_iload_n (pc2 := 55) C dX3_calculate_54 1 rfl rfl rfl ?_
    refine x_iadd (pc2 := 56) C dX3_calculate_55 rfl ?_
    refine x_ldc (pc2 := 58) C kc_3_101 dX3_calculate_56 rfl ?_
    refine x_irem (pc2 := 59) C dX3_calculate_58 (by decide +kernel) rfl ?_
    refine x_ret (rest := []) (st2 := []) (pc2 := 62) (cu2 := 0) (su2 := 0) (x_cV C (by assumption) (Nat.le_of_ble_eq_true rfl) kmX3_push rfl kk_3_84 (tX3_push hok (by assumption)) rfl rfl (Nat.le_of_ble_eq_true rfl) ⟨Nat.le_of_ble_eq_true rfl, Nat.le_of_ble_eq_true rfl⟩ ⟨Nat.le_of_ble_eq_true rfl, Nat.le_of_ble_eq_true rfl⟩ dX3_calculate_59) rfl rfl rfl rfl ?_
    refine x_goto (tgt := 144) C dX3_calculate_62 (by decide) ?_
    exact x_vreturn C dX3_calculate_144 rfl (Nat.le_of_ble_eq_true rfl) (Nat.le_of_ble_eq_true rfl) rfl (by rw [fX3_calculate, if_pos qc_1] <;> rfl)
  · rcases Decidable.em (x1 = 2) with qc_2 | qc_2
    · refine x_tableIn (tgt := 65) C dX3_calculate_11 (by rw [qc_2]; decide) (by rw [qc_2]; decide) (by rw [qc_2]; rfl) (by decide) ?_
      refine x_aload_n (pc2 := 66) C dX3_calculate_65 2 rfl rfl rfl ?_
      refine x_iload_n (pc2 := 67) C dX3_calculate_66 0 rfl rfl rfl ?_
      refine x_iload_n (pc2 := 68) C dX3_calculate_67 1 rfl rfl rfl ?_
      refine x_isub (pc2 := 69) C dX3_calculate_68 rfl ?_
      refine x_ldc (pc2 := 71) C kc_3_101 dX3_calculate_69 rfl ?_
      refine x_ret (rest := [_]) (st2 := [_, _]) (pc2 := 74) (cu2 := 0) (su2 := 0) (x_cS C kmJ9_floorMod_7cf53 kk_3_102 (tJ9_floorMod_7cf53 hok (by decide +kernel)) rfl rfl (Nat.le_of_ble_eq_true rfl) ⟨Nat.le_of_ble_eq_true rfl, Nat.le_of_ble_eq_true rfl⟩ ⟨Nat.le_of_ble_eq_true rfl, Nat.le_of_ble_eq_true rfl⟩ dX3_calculate_71) rfl rfl rfl rfl ?_
      refine x_ret (rest := []) (st2 := []) (pc2 := 77) (cu2 := 0) (su2 := 0) (x_cV C (by assumption) (Nat.le_of_ble_eq_true rfl) kmX3_push rfl kk_3_84 (tX3_push hok (by assumption)) rfl rfl (Nat.le_of_ble_eq_true rfl) ⟨Nat.le_of_ble_eq_true rfl, Nat.le_of_ble_eq_true rfl⟩ ⟨Nat.le_of_ble_eq_true rfl, Nat.le_of_ble_eq_true rfl⟩ dX3_calculate_74) rfl rfl rfl rfl ?_
      refine x_goto (tgt := 144) C dX3_calculate_77 (by decide) ?_
      exact x_vreturn C dX3_calculate_144 rfl (Nat.le_of_ble_eq_true rfl) (Nat.le_of_ble_eq_true rfl) rfl (by rw [fX3_calculate, if_neg qc_1, if_pos qc_2] <;> rfl)
    · rcases Decidable.em (x1 = 3) with qc_3 | qc_3
      · refine x_tableIn (tgt := 80) C dX3_calculate_11 (by rw [qc_3]; decide) (by rw [qc_3]; decide) (by rw [qc_3]; rfl) (by decide) ?_
        refine x_aload_n (pc2 := 81) C dX3_calculate_80 2 rfl rfl rfl ?_
        refine x_iload_n (pc2 := 82) C dX3_calculate_81 0 rfl rfl rfl ?_
        refine x_i2l (pc2 := 83) C dX3_calculate_82 rfl ?_
        refine x_iload_n (pc2 := 84) C dX3_calculate_83 1 rfl rfl rfl ?_
        refine x_i2l (pc2 := 85) C dX3_calculate_84 rfl ?_
        refine x_lmul (pc2 := 86) C dX3_calculate_85 rfl ?_
        refine x_ldc2 (pc2 := 89) C kc_3_105 dX3_calculate_86 rfl ?_
        refine x_lrem (pc2 := 90) C dX3_calculate_89 (by decide +kernel) rfl ?_
        refine x_l2i (pc2 := 91) C dX3_calculate_90 rfl ?_
        refine x_ret (rest := []) (st2 := []) (pc2 := 94) (cu2 := 0) (su2 := 0) (x_cV C (by assumption) (Nat.le_of_ble_eq_true rfl) kmX3_push rfl kk_3_84 (tX3_push hok (by assumption)) rfl rfl (Nat.le_of_ble_eq_true rfl) ⟨Nat.le_of_ble_eq_true rfl, Nat.le_of_ble_eq_true rfl⟩ ⟨Nat.le_of_ble_eq_true rfl, Nat.le_of_ble_eq_true rfl⟩ dX3_calculate_91) rfl rfl rfl rfl ?_
        refine x_goto (tgt := 144) C dX3_calculate_94 (by decide) ?_
        exact x_vreturn C dX3_calculate_144 rfl (Nat.le_of_ble_eq_true rfl) (Nat.le_of_ble_eq_true rfl) rfl (by rw [fX3_calculate, if_neg qc_1, if_neg qc_2, if_pos qc_3] <;> rfl)
      · rcases Decidable.em (x1 = 4) with qc_4 | qc_4
        · refine x_tableIn (tgt := 97) C dX3_calculate_11 (by rw [qc_4]; decide) (by rw [qc_4]; decide) (by rw [qc_4]; rfl) (by decide) ?_
          refine x_aload_n (pc2 := 98) C dX3_calculate_97 2 rfl rfl rfl ?_
          refine x_iload_n (pc2 := 99) C dX3_calculate_98 0 rfl rfl rfl ?_
          refine x_iload_n (pc2 := 100) C dX3_calculate_99 1 rfl rfl rfl ?_
          refine x_icmp_ge (tgt := 107) (pc2 := 103) C dX3_calculate_100 (by decide) rfl (fun qc_5 => ?_) (fun qc_5 => ?_)
          · refine x_iconst (pc2 := 108) (v := 0) C dX3_calculate_107 rfl rfl ?_
            refine x_ret (rest := []) (st2 := []) (pc2 := 111) (cu2 := 0) (su2 := 0) (x_cV C (by assumption) (Nat.le_of_ble_eq_true rfl) kmX3_push rfl kk_3_84 (tX3_push hok (by assumption)) rfl rfl (Nat.le_of_ble_eq_true rfl) ⟨Nat.le_of_ble_eq_true rfl, Nat.le_of_ble_eq_true rfl⟩ ⟨Nat.le_of_ble_eq_true rfl, Nat.le_of_ble_eq_true rfl⟩ dX3_calculate_108) rfl rfl rfl rfl ?_
            refine x_goto (tgt := 144) C dX3_calculate_111 (by decide) ?_
            exact x_vreturn C dX3_calculate_144 rfl (Nat.le_of_ble_eq_true rfl) (Nat.le_of_ble_eq_true rfl) rfl (by rw [fX3_calculate, if_neg qc_1, if_neg qc_2, if_neg qc_3, if_pos qc_4, if_pos qc_5] <;> rfl)
          · refine x_iconst (pc2 := 104) (v := 1) C dX3_calculate_103 rfl rfl ?_
            refine x_goto (tgt := 108) C dX3_calculate_104 (by decide) ?_
            refine x_ret (rest := []) (st2 := []) (pc2 := 111) (cu2 := 0) (su2 := 0) (x_cV C (by assumption) (Nat.le_of_ble_eq_true rfl) kmX3_push rfl kk_3_84 (tX3_push hok (by assumption)) rfl rfl (Nat.le_of_ble_eq_true rfl) ⟨Nat.le_of_ble_eq_true rfl, Nat.le_of_ble_eq_true rfl⟩ ⟨Nat.le_of_ble_eq_true rfl, Nat.le_of_ble_eq_true rfl⟩ dX3_calculate_108) rfl rfl rfl rfl ?_
            refine x_goto (tgt := 144) C dX3_calculate_111 (by decide) ?_
            exact x_vreturn C dX3_calculate_144 rfl (Nat.le_of_ble_eq_true rfl) (Nat.le_of_ble_eq_true rfl) rfl (by rw [fX3_calculate, if_neg qc_1, if_neg qc_2, if_neg qc_3, if_pos qc_4, if_neg qc_5] <;> rfl)
        · rcases Decidable.em (x1 = 5) with qc_6 | qc_6
          · refine x_tableIn (tgt := 114) C dX3_calculate_11 (by rw [qc_6]; decide) (by rw [qc_6]; decide) (by rw [qc_6]; rfl) (by decide) ?_
            refine x_aload_n (pc2 := 115) C dX3_calculate_114 2 rfl rfl rfl ?_
            refine x_iload_n (pc2 := 116) C dX3_calculate_115 0 rfl rfl rfl ?_
            refine x_iload_n (pc2 := 117) C dX3_calculate_116 1 rfl rfl rfl ?_
            refine x_icmp_ne (tgt := 124) (pc2 := 120) C dX3_calculate_117 (by decide) rfl (fun qc_7 => ?_) (fun qc_7 => ?_)
            · refine x_iconst (pc2 := 125) (v := 0) C dX3_calculate_124 rfl rfl ?_
              refine x_ret (rest := []) (st2 := []) (pc2 := 128) (cu2 := 0) (su2 := 0) (x_cV C (by assumption) (Nat.le_of_ble_eq_true rfl) kmX3_push rfl kk_3_84 (tX3_push hok (by assumption)) rfl rfl (Nat.le_of_ble_eq_true rfl) ⟨Nat.le_of_ble_eq_true rfl, Nat.le_of_ble_eq_true rfl⟩ ⟨Nat.le_of_ble_eq_true rfl, Nat.le_of_ble_eq_true rfl⟩ dX3_calculate_125) rfl rfl rfl rfl ?_
              refine x_goto (tgt := 144) C dX3_calculate_128 (by decide) ?_
              exact x_vreturn C dX3_calculate_144 rfl (Nat.le_of_ble_eq_true rfl) (Nat.le_of_ble_eq_true rfl) rfl (by rw [fX3_calculate, if_neg qc_1, if_neg qc_2, if_neg qc_3, if_neg qc_4, if_pos qc_6, if_neg qc_7] <;> rfl)
            · refine x_iconst (pc2 := 121) (v := 1) C dX3_calculate_120 rfl rfl ?_
              refine x_goto (tgt := 125) C dX3_calculate_121 (by decide) ?_
              refine x_ret (rest := []) (st2 := []) (pc2 := 128) (cu2 := 0) (su2 := 0) (x_cV C (by assumption) (Nat.le_of_ble_eq_true rfl) kmX3_push rfl kk_3_84 (tX3_push hok (by assumption)) rfl rfl (Nat.le_of_ble_eq_true rfl) ⟨Nat.le_of_ble_eq_true rfl, Nat.le_of_ble_eq_true rfl⟩ ⟨Nat.le_of_ble_eq_true rfl, Nat.le_of_ble_eq_true rfl⟩ dX3_calculate_125) rfl rfl rfl rfl ?_
              refine x_goto (tgt := 144) C dX3_calculate_128 (by decide) ?_
              exact x_vreturn C dX3_calculate_144 rfl (Nat.le_of_ble_eq_true rfl) (Nat.le_of_ble_eq_true rfl) rfl (by rw [fX3_calculate, if_neg qc_1, if_neg qc_2, if_neg qc_3, if_neg qc_4, if_pos qc_6, if_pos qc_7] <;> rfl)
          · rcases Decidable.em (x1 = 6) with qc_8 | qc_8
            · refine x_tableIn (tgt := 144) C dX3_calculate_11 (by rw [qc_8]; decide) (by rw [qc_8]; decide) (by rw [qc_8]; rfl) (by decide) ?_
              exact x_vreturn C dX3_calculate_144 rfl (Nat.le_of_ble_eq_true rfl) (Nat.le_of_ble_eq_true rfl) rfl (by rw [fX3_calculate, if_neg qc_1, if_neg qc_2, if_neg qc_3, if_neg qc_4, if_neg qc_6, if_pos qc_8] <;> rfl)
            · rcases Decidable.em (x1 = 7) with qc_9 | qc_9
              · refine x_tableIn (tgt := 131) C dX3_calculate_11 (by rw [qc_9]; decide) (by rw [qc_9]; decide) (by rw [qc_9]; rfl) (by decide) ?_
                refine x_aload_n (pc2 := 132) C dX3_calculate_131 2 rfl rfl rfl ?_
                refine x_iload_n (pc2 := 133) C dX3_calculate_132 1 rfl rfl rfl ?_
                refine x_ret (rest := []) (st2 := []) (pc2 := 136) (cu2 := 0) (su2 := 0) (x_cV C (by assumption) (Nat.le_of_ble_eq_true rfl) kmX3_push rfl kk_3_84 (tX3_push hok (by assumption)) rfl rfl (Nat.le_of_ble_eq_true rfl) ⟨Nat.le_of_ble_eq_true rfl, Nat.le_of_ble_eq_true rfl⟩ ⟨Nat.le_of_ble_eq_true rfl, Nat.le_of_ble_eq_true rfl⟩ dX3_calculate_133) rfl rfl rfl rfl ?_
                refine x_aload_n (pc2 := 137) C dX3_calculate_136 2 rfl rfl rfl ?_
                refine x_iload_n (pc2 := 138) C dX3_calculate_137 0 rfl rfl rfl ?_
                refine x_ret (rest := []) (st2 := []) (pc2 := 141) (cu2 := 0) (su2 := 0) (x_cV C (by assumption) (Nat.le_of_ble_eq_true rfl) kmX3_push rfl kk_3_84 (tX3_push hok (by assumption)) rfl rfl (Nat.le_of_ble_eq_true rfl) ⟨Nat.le_of_ble_eq_true rfl, Nat.le_of_ble_eq_true rfl⟩ ⟨Nat.le_of_ble_eq_true rfl, Nat.le_of_ble_eq_true rfl⟩ dX3_calculate_138) rfl rfl rfl rfl ?_
                refine x_goto (tgt := 144) C dX3_calculate_141 (by decide) ?_
                exact x_vreturn C dX3_calculate_144 rfl (Nat.le_of_ble_eq_true rfl) (Nat.le_of_ble_eq_true rfl) rfl (by rw [fX3_calculate, if_neg qc_1, if_neg qc_2, if_neg qc_3, if_neg qc_4, if_neg qc_6, if_neg qc_8, if_pos qc_9] <;> rfl)
              · refine x_tableOut (tgt := 144) C dX3_calculate_11 (x_tout (fun v9 h8 h9 => by rcases (show v9 = 1 ∨ v9 = 2 ∨ v9 = 3 ∨ v9 = 4 ∨ v9 = 5 ∨ v9 = 6 ∨ v9 = 7 by omega) with rfl | rfl | rfl | rfl | rfl | rfl | rfl <;> assumption)) (by decide) ?_
                exact x_vreturn C dX3_calculate_144 rfl (Nat.le_of_ble_eq_true rfl) (Nat.le_of_ble_eq_true rfl) rfl (by rw [fX3_calculate, if_neg qc_1, if_neg qc_2, if_neg qc_3, if_neg qc_4, if_neg qc_6, if_neg qc_8, if_neg qc_9] <;> rfl)
def fX3_perform (Ω : XO) (i : Nat) (x1 : Int32) (x2 : Int32) : XO := (if x1 = 0 then fX3_push Ω i x2 else (if x1 = 1 then fX3_calculate Ω i x1 else (if x1 = 2 then fX3_calculate Ω i x1 else (if x1 = 3 then fX3_calculate Ω i x1 else (if x1 = 4 then fX3_calculate Ω i x1 else (if x1 = 5 then fX3_calculate Ω i x1 else (if x1 = 6 then fX3_push Ω i (fX3_top Ω i) else (if x1 = 7 then fX3_calculate Ω i x1 else (if x1 = 8 then (fX3_take Ω i).2 else (if x1 = 9 then fX3_calculate Ω i x1 else (if x1 = 10 then fX3_calculate Ω i x1 else (if x1 = 11 then uI Ω 309 i 0 x2 else (if x1 = 12 then (if ((fX3_take Ω i).1) = 0 then uI ((fX3_take Ω i).2) 309 i 0 x2 else uI ((fX3_take Ω i).2) 309 i 0 (xI ((fX3_take Ω i).2) 309 i 0)) else (if x1 = 13 then fX3_push Ω i (xI Ω 305 i 0) else (if x1 = 14 then fX3_push Ω i (xI Ω 306 i 0) else (if x1 = 15 then fX3_push Ω i (xI Ω 307 i 0) else (if x1 = 16 then fX3_calculate Ω i x1 else (if x1 = 17 then sPut ((fX3_take (fX3_reach Ω i x2) i).2) 2006 i x2 ((fX3_take (fX3_reach Ω i x2) i).1) else (if x1 = 18 then fX3_push (fX3_reach Ω i x2) i (sAt (fX3_reach Ω i x2) 2006 i x2) else fX3_calculate Ω i x1)))))))))))))))))))
set_option maxRecDepth 20000 in
theorem tX3_perform {G : XG} (hok : XK G) {i : Nat} {x1 : Int32} {x2 : Int32} {Ω : XO} (hd0 : dm G 3 i)   : XM G yX3_perform cX3_perform 3 none (RM 2 0) [.ref (ad G 3 i), .int x1, .int x2] Ω (.inl none) (fX3_perform Ω i x1 x2) := by
  refine x_start (lv := [(0, .ref (ad G 3 i)), (1, .int x1), (2, .int x2)]) (own := RX3) hok (by decide +kernel) rfl (Nat.le_of_ble_eq_true rfl) rfl (fun B C => ?_)
  refine x_iload_n (pc2 := 1) C dX3_perform_0 1 rfl rfl rfl ?_
  rcases Decidable.em (x1 = 0) with qc_1 | qc_1
  · refine x_tableIn (tgt := 92) C dX3_perform_1 (by rw [qc_1]; decide) (by rw [qc_1]; decide) (by rw [qc_1]; rfl) (by decide) ?_
    refine x_aload_n (pc2 := 93) C dX3_perform_92 0 rfl rfl rfl ?_
    refine x_iload_n (pc2 := 94) C dX3_perform_93 2 rfl rfl rfl ?_
    refine x_ret (rest := []) (st2 := []) (pc2 := 97) (cu2 := 0) (su2 := 0) (x_cV C (by assumption) (Nat.le_of_ble_eq_true rfl) kmX3_push rfl kk_3_84 (tX3_push hok (by assumption)) rfl rfl (Nat.le_of_ble_eq_true rfl) ⟨Nat.le_of_ble_eq_true rfl, Nat.le_of_ble_eq_true rfl⟩ ⟨Nat.le_of_ble_eq_true rfl, Nat.le_of_ble_eq_true rfl⟩ dX3_perform_94) rfl rfl rfl rfl ?_
    refine x_goto (tgt := 227) C dX3_perform_97 (by decide) ?_
    exact x_vreturn C dX3_perform_227 rfl (Nat.le_of_ble_eq_true rfl) (Nat.le_of_ble_eq_true rfl) rfl (by rw [fX3_perform, if_pos qc_1] <;> rfl)
  · rcases Decidable.em (x1 = 1) with qc_2 | qc_2
    · refine x_tableIn (tgt := 222) C dX3_perform_1 (by rw [qc_2]; decide) (by rw [qc_2]; decide) (by rw [qc_2]; rfl) (by decide) ?_
      refine x_aload_n (pc2 := 223) C dX3_perform_222 0 rfl rfl rfl ?_
      refine x_iload_n (pc2 := 224) C dX3_perform_223 1 rfl rfl rfl ?_
      refine x_ret (rest := []) (st2 := []) (pc2 := 227) (cu2 := 0) (su2 := 0) (x_cV C (by assumption) (Nat.le_of_ble_eq_true rfl) kmX3_calculate rfl kk_3_98 (tX3_calculate hok (by assumption)) rfl rfl (Nat.le_of_ble_eq_true rfl) ⟨Nat.le_of_ble_eq_true rfl, Nat.le_of_ble_eq_true rfl⟩ ⟨Nat.le_of_ble_eq_true rfl, Nat.le_of_ble_eq_true rfl⟩ dX3_perform_224) rfl rfl rfl rfl ?_
      exact x_vreturn C dX3_perform_227 rfl (Nat.le_of_ble_eq_true rfl) (Nat.le_of_ble_eq_true rfl) rfl (by rw [fX3_perform, if_neg qc_1, if_pos qc_2] <;> rfl)
    · rcases Decidable.em (x1 = 2) with qc_3 | qc_3
      · refine x_tableIn (tgt := 222) C dX3_perform_1 (by rw [qc_3]; decide) (by rw [qc_3]; decide) (by rw [qc_3]; rfl) (by decide) ?_
        refine x_aload_n (pc2 := 223) C dX3_perform_222 0 rfl rfl rfl ?_
        refine x_iload_n (pc2 := 224) C dX3_perform_223 1 rfl rfl rfl ?_
        refine x_ret (rest := []) (st2 := []) (pc2 := 227) (cu2 := 0) (su2 := 0) (x_cV C (by assumption) (Nat.le_of_ble_eq_true rfl) kmX3_calculate rfl kk_3_98 (tX3_calculate hok (by assumption)) rfl rfl (Nat.le_of_ble_eq_true rfl) ⟨Nat.le_of_ble_eq_true rfl, Nat.le_of_ble_eq_true rfl⟩ ⟨Nat.le_of_ble_eq_true rfl, Nat.le_of_ble_eq_true rfl⟩ dX3_perform_224) rfl rfl rfl rfl ?_
        exact x_vreturn C dX3_perform_227 rfl (Nat.le_of_ble_eq_true rfl) (Nat.le_of_ble_eq_true rfl) rfl (by rw [fX3_perform, if_neg qc_1, if_neg qc_2, if_pos qc_3] <;> rfl)
      · rcases Decidable.em (x1 = 3) with qc_4 | qc_4
        · refine x_tableIn (tgt := 222) C dX3_perform_1 (by rw [qc_4]; decide) (by rw [qc_4]; decide) (by rw [qc_4]; rfl) (by decide) ?_
          refine x_aload_n (pc2 := 223) C dX3_perform_222 0 rfl rfl rfl ?_
          refine x_iload_n (pc2 := 224) C dX3_perform_223 1 rfl rfl rfl ?_
          refine x_ret (rest := []) (st2 := []) (pc2 := 227) (cu2 := 0) (su2 := 0) (x_cV C (by assumption) (Nat.le_of_ble_eq_true rfl) kmX3_calculate rfl kk_3_98 (tX3_calculate hok (by assumption)) rfl rfl (Nat.le_of_ble_eq_true rfl) ⟨Nat.le_of_ble_eq_true rfl, Nat.le_of_ble_eq_true rfl⟩ ⟨Nat.le_of_ble_eq_true rfl, Nat.le_of_ble_eq_true rfl⟩ dX3_perform_224) rfl rfl rfl rfl ?_
          exact x_vreturn C dX3_perform_227 rfl (Nat.le_of_ble_eq_true rfl) (Nat.le_of_ble_eq_true rfl) rfl (by rw [fX3_perform, if_neg qc_1, if_neg qc_2, if_neg qc_3, if_pos qc_4] <;> rfl)
        · rcases Decidable.em (x1 = 4) with qc_5 | qc_5
          · refine x_tableIn (tgt := 222) C dX3_perform_1 (by rw [qc_5]; decide) (by rw [qc_5]; decide) (by rw [qc_5]; rfl) (by decide) ?_
            refine x_aload_n (pc2 := 223) C dX3_perform_222 0 rfl rfl rfl ?_
            refine x_iload_n (pc2 := 224) C dX3_perform_223 1 rfl rfl rfl ?_
            refine x_ret (rest := []) (st2 := []) (pc2 := 227) (cu2 := 0) (su2 := 0) (x_cV C (by assumption) (Nat.le_of_ble_eq_true rfl) kmX3_calculate rfl kk_3_98 (tX3_calculate hok (by assumption)) rfl rfl (Nat.le_of_ble_eq_true rfl) ⟨Nat.le_of_ble_eq_true rfl, Nat.le_of_ble_eq_true rfl⟩ ⟨Nat.le_of_ble_eq_true rfl, Nat.le_of_ble_eq_true rfl⟩ dX3_perform_224) rfl rfl rfl rfl ?_
            exact x_vreturn C dX3_perform_227 rfl (Nat.le_of_ble_eq_true rfl) (Nat.le_of_ble_eq_true rfl) rfl (by rw [fX3_perform, if_neg qc_1, if_neg qc_2, if_neg qc_3, if_neg qc_4, if_pos qc_5] <;> rfl)
          · rcases Decidable.em (x1 = 5) with qc_6 | qc_6
            · refine x_tableIn (tgt := 222) C dX3_perform_1 (by rw [qc_6]; decide) (by rw [qc_6]; decide) (by rw [qc_6]; rfl) (by decide) ?_
              refine x_aload_n (pc2 := 223) C dX3_perform_222 0 rfl rfl rfl ?_
              refine x_iload_n (pc2 := 224) C dX3_perform_223 1 rfl rfl rfl ?_
              refine x_ret (rest := []) (st2 := []) (pc2 := 227) (cu2 := 0) (su2 := 0) (x_cV C (by assumption) (Nat.le_of_ble_eq_true rfl) kmX3_calculate rfl kk_3_98 (tX3_calculate hok (by assumption)) rfl rfl (Nat.le_of_ble_eq_true rfl) ⟨Nat.le_of_ble_eq_true rfl, Nat.le_of_ble_eq_true rfl⟩ ⟨Nat.le_of_ble_eq_true rfl, Nat.le_of_ble_eq_true rfl⟩ dX3_perform_224) rfl rfl rfl rfl ?_
              exact x_vreturn C dX3_perform_227 rfl (Nat.le_of_ble_eq_true rfl) (Nat.le_of_ble_eq_true rfl) rfl (by rw [fX3_perform, if_neg qc_1, if_neg qc_2, if_neg qc_3, if_neg qc_4, if_neg qc_5, if_pos qc_6] <;> rfl)
            · rcases Decidable.em (x1 = 6) with qc_7 | qc_7
              · refine x_tableIn (tgt := 100) C dX3_perform_1 (by rw [qc_7]; decide) (by rw [qc_7]; decide) (by rw [qc_7]; rfl) (by decide) ?_
                refine x_aload_n (pc2 := 101) C dX3_perform_100 0 rfl rfl rfl ?_
                refine x_aload_n (pc2 := 102) C dX3_perform_101 0 rfl rfl rfl ?_
                refine x_ret (rest := [_]) (st2 := [_, _]) (pc2 := 105) (cu2 := 0) (su2 := 0) (x_cV C (by assumption) (Nat.le_of_ble_eq_true rfl) kmX3_top rfl kk_3_88 (tX3_top hok (by assumption)) rfl rfl (Nat.le_of_ble_eq_true rfl) ⟨Nat.le_of_ble_eq_true rfl, Nat.le_of_ble_eq_true rfl⟩ ⟨Nat.le_of_ble_eq_true rfl, Nat.le_of_ble_eq_true rfl⟩ dX3_perform_102) rfl rfl rfl rfl ?_
                refine x_ret (rest := []) (st2 := []) (pc2 := 108) (cu2 := 0) (su2 := 0) (x_cV C (by assumption) (Nat.le_of_ble_eq_true rfl) kmX3_push rfl kk_3_84 (tX3_push hok (by assumption)) rfl rfl (Nat.le_of_ble_eq_true rfl) ⟨Nat.le_of_ble_eq_true rfl, Nat.le_of_ble_eq_true rfl⟩ ⟨Nat.le_of_ble_eq_true rfl, Nat.le_of_ble_eq_true rfl⟩ dX3_perform_105) rfl rfl rfl rfl ?_
                refine x_goto (tgt := 227) C dX3_perform_108 (by decide) ?_
                exact x_vreturn C dX3_perform_227 rfl (Nat.le_of_ble_eq_true rfl) (Nat.le_of_ble_eq_true rfl) rfl (by rw [fX3_perform, if_neg qc_1, if_neg qc_2, if_neg qc_3, if_neg qc_4, if_neg qc_5, if_neg qc_6, if_pos qc_7] <;> rfl)
              · rcases Decidable.em (x1 = 7) with qc_8 | qc_8
                · refine x_tableIn (tgt := 222) C dX3_perform_1 (by rw [qc_8]; decide) (by rw [qc_8]; decide) (by rw [qc_8]; rfl) (by decide) ?_
                  refine x_aload_n (pc2 := 223) C dX3_perform_222 0 rfl rfl rfl ?_
                  refine x_iload_n (pc2 := 224) C dX3_perform_223 1 rfl rfl rfl ?_
                  refine x_ret (rest := []) (st2 := []) (pc2 := 227) (cu2 := 0) (su2 := 0) (x_cV C (by assumption) (Nat.le_of_ble_eq_true rfl) kmX3_calculate rfl kk_3_98 (tX3_calculate hok (by assumption)) rfl rfl (Nat.le_of_ble_eq_true rfl) ⟨Nat.le_of_ble_eq_true rfl, Nat.le_of_ble_eq_true rfl⟩ ⟨Nat.le_of_ble_eq_true rfl, Nat.le_of_ble_eq_true rfl⟩ dX3_perform_224) rfl rfl rfl rfl ?_
                  exact x_vreturn C dX3_perform_227 rfl (Nat.le_of_ble_eq_true rfl) (Nat.le_of_ble_eq_true rfl) rfl (by rw [fX3_perform, if_neg qc_1, if_neg qc_2, if_neg qc_3, if_neg qc_4, if_neg qc_5, if_neg qc_6, if_neg qc_7, if_pos qc_8] <;> rfl)
                · rcases Decidable.em (x1 = 8) with qc_9 | qc_9
                  · refine x_tableIn (tgt := 111) C dX3_perform_1 (by rw [qc_9]; decide) (by rw [qc_9]; decide) (by rw [qc_9]; rfl) (by decide) ?_
                    refine x_aload_n (pc2 := 112) C dX3_perform_111 0 rfl rfl rfl ?_
                    refine x_ret (rest := []) (st2 := [_]) (pc2 := 115) (cu2 := 0) (su2 := 0) (x_cV C (by assumption) (Nat.le_of_ble_eq_true rfl) kmX3_take rfl kk_3_92 (tX3_take hok (by assumption)) rfl rfl (Nat.le_of_ble_eq_true rfl) ⟨Nat.le_of_ble_eq_true rfl, Nat.le_of_ble_eq_true rfl⟩ ⟨Nat.le_of_ble_eq_true rfl, Nat.le_of_ble_eq_true rfl⟩ dX3_perform_112) rfl rfl rfl rfl ?_
                    refine x_pop (pc2 := 116) C dX3_perform_115 rfl rfl ?_
                    refine x_goto (tgt := 227) C dX3_perform_116 (by decide) ?_
                    exact x_vreturn C dX3_perform_227 rfl (Nat.le_of_ble_eq_true rfl) (Nat.le_of_ble_eq_true rfl) rfl (by rw [fX3_perform, if_neg qc_1, if_neg qc_2, if_neg qc_3, if_neg qc_4, if_neg qc_5, if_neg qc_6, if_neg qc_7, if_neg qc_8, if_pos qc_9] <;> rfl)
                  · rcases Decidable.em (x1 = 9) with qc_10 | qc_10
                    · refine x_tableIn (tgt := 222) C dX3_perform_1 (by rw [qc_10]; decide) (by rw [qc_10]; decide) (by rw [qc_10]; rfl) (by decide) ?_
                      refine x_aload_n (pc2 := 223) C dX3_perform_222 0 rfl rfl rfl ?_
                      refine x_iload_n (pc2 := 224) C dX3_perform_223 1 rfl rfl rfl ?_
                      refine x_ret (rest := []) (st2 := []) (pc2 := 227) (cu2 := 0) (su2 := 0) (x_cV C (by assumption) (Nat.le_of_ble_eq_true rfl) kmX3_calculate rfl kk_3_98 (tX3_calculate hok (by assumption)) rfl rfl (Nat.le_of_ble_eq_true rfl) ⟨Nat.le_of_ble_eq_true rfl, Nat.le_of_ble_eq_true rfl⟩ ⟨Nat.le_of_ble_eq_true rfl, Nat.le_of_ble_eq_true rfl⟩ dX3_perform_224) rfl rfl rfl rfl ?_
                      exact x_vreturn C dX3_perform_227 rfl (Nat.le_of_ble_eq_true rfl) (Nat.le_of_ble_eq_true rfl) rfl (by rw [fX3_perform, if_neg qc_1, if_neg qc_2, if_neg qc_3, if_neg qc_4, if_neg qc_5, if_neg qc_6, if_neg qc_7, if_neg qc_8, if_neg qc_9, if_pos qc_10] <;> rfl)
                    · rcases Decidable.em (x1 = 10) with qc_11 | qc_11
                      · refine x_tableIn (tgt := 222) C dX3_perform_1 (by rw [qc_11]; decide) (by rw [qc_11]; decide) (by rw [qc_11]; rfl) (by decide) ?_
                        refine x_aload_n (pc2 := 223) C dX3_perform_222 0 rfl rfl rfl ?_
                        refine x_iload_n (pc2 := 224) C dX3_perform_223 1 rfl rfl rfl ?_
                        refine x_ret (rest := []) (st2 := []) (pc2 := 227) (cu2 := 0) (su2 := 0) (x_cV C (by assumption) (Nat.le_of_ble_eq_true rfl) kmX3_calculate rfl kk_3_98 (tX3_calculate hok (by assumption)) rfl rfl (Nat.le_of_ble_eq_true rfl) ⟨Nat.le_of_ble_eq_true rfl, Nat.le_of_ble_eq_true rfl⟩ ⟨Nat.le_of_ble_eq_true rfl, Nat.le_of_ble_eq_true rfl⟩ dX3_perform_224) rfl rfl rfl rfl ?_
                        exact x_vreturn C dX3_perform_227 rfl (Nat.le_of_ble_eq_true rfl) (Nat.le_of_ble_eq_true rfl) rfl (by rw [fX3_perform, if_neg qc_1, if_neg qc_2, if_neg qc_3, if_neg qc_4, if_neg qc_5, if_neg qc_6, if_neg qc_7, if_neg qc_8, if_neg qc_9, if_neg qc_10, if_pos qc_11] <;> rfl)
                      · rcases Decidable.em (x1 = 11) with qc_12 | qc_12
                        · refine x_tableIn (tgt := 119) C dX3_perform_1 (by rw [qc_12]; decide) (by rw [qc_12]; decide) (by rw [qc_12]; rfl) (by decide) ?_
                          refine x_aload_n (pc2 := 120) C dX3_perform_119 0 rfl rfl rfl ?_
                          refine x_iload_n (pc2 := 121) C dX3_perform_120 2 rfl rfl rfl ?_
                          refine x_putI (pc2 := 124) (f := 309) C (by assumption) kf_3_41 dX3_perform_121 rfl rfl rfl rfl rfl ?_
                          refine x_goto (tgt := 227) C dX3_perform_124 (by decide) ?_
                          exact x_vreturn C dX3_perform_227 rfl (Nat.le_of_ble_eq_true rfl) (Nat.le_of_ble_eq_true rfl) rfl (by rw [fX3_perform, if_neg qc_1, if_neg qc_2, if_neg qc_3, if_neg qc_4, if_neg qc_5, if_neg qc_6, if_neg qc_7, if_neg qc_8, if_neg qc_9, if_neg qc_10, if_neg qc_11, if_pos qc_12] <;> rfl)
                        · rcases Decidable.em (x1 = 12) with qc_13 | qc_13
                          · refine x_tableIn (tgt := 127) C dX3_perform_1 (by rw [qc_13]; decide) (by rw [qc_13]; decide) (by rw [qc_13]; rfl) (by decide) ?_
                            refine x_aload_n (pc2 := 128) C dX3_perform_127 0 rfl rfl rfl ?_
                            refine x_aload_n (pc2 := 129) C dX3_perform_128 0 rfl rfl rfl ?_
                            refine x_ret (rest := [_]) (st2 := [_, _]) (pc2 := 132) (cu2 := 0) (su2 := 0) (x_cV C (by assumption) (Nat.le_of_ble_eq_true rfl) kmX3_take rfl kk_3_92 (tX3_take hok (by assumption)) rfl rfl (Nat.le_of_ble_eq_true rfl) ⟨Nat.le_of_ble_eq_true rfl, Nat.le_of_ble_eq_true rfl⟩ ⟨Nat.le_of_ble_eq_true rfl, Nat.le_of_ble_eq_true rfl⟩ dX3_perform_129) rfl rfl rfl rfl ?_
                            refine x_if_ne (tgt := 139) (pc2 := 135) C dX3_perform_132 (by decide) rfl (fun qc_14 => ?_) (fun qc_14 => ?_)
                            · refine x_aload_n (pc2 := 140) C dX3_perform_139 0 rfl rfl rfl ?_
                              refine x_getI (pc2 := 143) (f := 309) C (by assumption) kf_3_41 dX3_perform_140 rfl rfl rfl ?_
                              refine x_putI (pc2 := 146) (f := 309) C (by assumption) kf_3_41 dX3_perform_143 rfl rfl rfl rfl rfl ?_
                              refine x_goto (tgt := 227) C dX3_perform_146 (by decide) ?_
                              exact x_vreturn C dX3_perform_227 rfl (Nat.le_of_ble_eq_true rfl) (Nat.le_of_ble_eq_true rfl) rfl (by rw [fX3_perform, if_neg qc_1, if_neg qc_2, if_neg qc_3, if_neg qc_4, if_neg qc_5, if_neg qc_6, if_neg qc_7, if_neg qc_8, if_neg qc_9, if_neg qc_10, if_neg qc_11, if_neg qc_12, if_pos qc_13, if_neg qc_14] <;> rfl)
                            · refine x_iload_n (pc2 := 136) C dX3_perform_135 2 rfl rfl rfl ?_
                              refine x_goto (tgt := 143) C dX3_perform_136 (by decide) ?_
                              refine x_putI (pc2 := 146) (f := 309) C (by assumption) kf_3_41 dX3_perform_143 rfl rfl rfl rfl rfl ?_
                              refine x_goto (tgt := 227) C dX3_perform_146 (by decide) ?_
                              exact x_vreturn C dX3_perform_227 rfl (Nat.le_of_ble_eq_true rfl) (Nat.le_of_ble_eq_true rfl) rfl (by rw [fX3_perform, if_neg qc_1, if_neg qc_2, if_neg qc_3, if_neg qc_4, if_neg qc_5, if_neg qc_6, if_neg qc_7, if_neg qc_8, if_neg qc_9, if_neg qc_10, if_neg qc_11, if_neg qc_12, if_pos qc_13, if_pos qc_14] <;> rfl)
                          · rcases Decidable.em (x1 = 13) with qc_15 | qc_15
                            · refine x_tableIn (tgt := 149) C dX3_perform_1 (by rw [qc_15]; decide) (by rw [qc_15]; decide) (by rw [qc_15]; rfl) (by decide) ?_
                              refine x_aload_n (pc2 := 150) C dX3_perform_149 0 rfl rfl rfl ?_
                              refine x_aload_n (pc2 := 151) C dX3_perform_150 0 rfl rfl rfl ?_
                              refine x_getI (pc2 := 154) (f := 305) C (by assumption) kf_3_29 dX3_perform_151 rfl rfl rfl ?_
                              refine x_ret (rest := []) (st2 := []) (pc2 := 157) (cu2 := 0) (su2 := 0) (x_cV C (by assumption) (Nat.le_of_ble_eq_true rfl) kmX3_push rfl kk_3_84 (tX3_push hok (by assumption)) rfl rfl (Nat.le_of_ble_eq_true rfl) ⟨Nat.le_of_ble_eq_true rfl, Nat.le_of_ble_eq_true rfl⟩ ⟨Nat.le_of_ble_eq_true rfl, Nat.le_of_ble_eq_true rfl⟩ dX3_perform_154) rfl rfl rfl rfl ?_
                              refine x_goto (tgt := 227) C dX3_perform_157 (by decide) ?_
                              exact x_vreturn C dX3_perform_227 rfl (Nat.le_of_ble_eq_true rfl) (Nat.le_of_ble_eq_true rfl) rfl (by rw [fX3_perform, if_neg qc_1, if_neg qc_2, if_neg qc_3, if_neg qc_4, if_neg qc_5, if_neg qc_6, if_neg qc_7, if_neg qc_8, if_neg qc_9, if_neg qc_10, if_neg qc_11, if_neg qc_12, if_neg qc_13, if_pos qc_15] <;> rfl)
                            · rcases Decidable.em (x1 = 14) with qc_16 | qc_16
                              · refine x_tableIn (tgt := 160) C dX3_perform_1 (by rw [qc_16]; decide) (by rw [qc_16]; decide) (by rw [qc_16]; rfl) (by decide) ?_
                                refine x_aload_n (pc2 := 161) C dX3_perform_160 0 rfl rfl rfl ?_
                                refine x_aload_n (pc2 := 162) C dX3_perform_161 0 rfl rfl rfl ?_
                                refine x_getI (pc2 := 165) (f := 306) C (by assumption) kf_3_35 dX3_perform_162 rfl rfl rfl ?_
                                refine x_ret (rest := []) (st2 := []) (pc2 := 168) (cu2 := 0) (su2 := 0) (x_cV C (by assumption) (Nat.le_of_ble_eq_true rfl) kmX3_push rfl kk_3_84 (tX3_push hok (by assumption)) rfl rfl (Nat.le_of_ble_eq_true rfl) ⟨Nat.le_of_ble_eq_true rfl, Nat.le_of_ble_eq_true rfl⟩ ⟨Nat.le_of_ble_eq_true rfl, Nat.le_of_ble_eq_true rfl⟩ dX3_perform_165) rfl rfl rfl rfl ?_
                                refine x_goto (tgt := 227) C dX3_perform_168 (by decide) ?_
                                exact x_vreturn C dX3_perform_227 rfl (Nat.le_of_ble_eq_true rfl) (Nat.le_of_ble_eq_true rfl) rfl (by rw [fX3_perform, if_neg qc_1, if_neg qc_2, if_neg qc_3, if_neg qc_4, if_neg qc_5, if_neg qc_6, if_neg qc_7, if_neg qc_8, if_neg qc_9, if_neg qc_10, if_neg qc_11, if_neg qc_12, if_neg qc_13, if_neg qc_15, if_pos qc_16] <;> rfl)
                              · rcases Decidable.em (x1 = 15) with qc_17 | qc_17
                                · refine x_tableIn (tgt := 171) C dX3_perform_1 (by rw [qc_17]; decide) (by rw [qc_17]; decide) (by rw [qc_17]; rfl) (by decide) ?_
                                  refine x_aload_n (pc2 := 172) C dX3_perform_171 0 rfl rfl rfl ?_
                                  refine x_aload_n (pc2 := 173) C dX3_perform_172 0 rfl rfl rfl ?_
                                  refine x_getI (pc2 := 176) (f := 307) C (by assumption) kf_3_38 dX3_perform_173 rfl rfl rfl ?_
                                  refine x_ret (rest := []) (st2 := []) (pc2 := 179) (cu2 := 0) (su2 := 0) (x_cV C (by assumption) (Nat.le_of_ble_eq_true rfl) kmX3_push rfl kk_3_84 (tX3_push hok (by assumption)) rfl rfl (Nat.le_of_ble_eq_true rfl) ⟨Nat.le_of_ble_eq_true rfl, Nat.le_of_ble_eq_true rfl⟩ ⟨Nat.le_of_ble_eq_true rfl, Nat.le_of_ble_eq_true rfl⟩ dX3_perform_176) rfl rfl rfl rfl ?_
                                  refine x_goto (tgt := 227) C dX3_perform_179 (by decide) ?_
                                  exact x_vreturn C dX3_perform_227 rfl (Nat.le_of_ble_eq_true rfl) (Nat.le_of_ble_eq_true rfl) rfl (by rw [fX3_perform, if_neg qc_1, if_neg qc_2, if_neg qc_3, if_neg qc_4, if_neg qc_5, if_neg qc_6, if_neg qc_7, if_neg qc_8, if_neg qc_9, if_neg qc_10, if_neg qc_11, if_neg qc_12, if_neg qc_13, if_neg qc_15, if_neg qc_16, if_pos qc_17] <;> rfl)
                                · rcases Decidable.em (x1 = 16) with qc_18 | qc_18
                                  · refine x_tableIn (tgt := 222) C dX3_perform_1 (by rw [qc_18]; decide) (by rw [qc_18]; decide) (by rw [qc_18]; rfl) (by decide) ?_
                                    refine x_aload_n (pc2 := 223) C dX3_perform_222 0 rfl rfl rfl ?_
                                    refine x_iload_n (pc2 := 224) C dX3_perform_223 1 rfl rfl rfl ?_
                                    refine x_ret (rest := []) (st2 := []) (pc2 := 227) (cu2 := 0) (su2 := 0) (x_cV C (by assumption) (Nat.le_of_ble_eq_true rfl) kmX3_calculate rfl kk_3_98 (tX3_calculate hok (by assumption)) rfl rfl (Nat.le_of_ble_eq_true rfl) ⟨Nat.le_of_ble_eq_true rfl, Nat.le_of_ble_eq_true rfl⟩ ⟨Nat.le_of_ble_eq_true rfl, Nat.le_of_ble_eq_true rfl⟩ dX3_perform_224) rfl rfl rfl rfl ?_
                                    exact x_vreturn C dX3_perform_227 rfl (Nat.le_of_ble_eq_true rfl) (Nat.le_of_ble_eq_true rfl) rfl (by rw [fX3_perform, if_neg qc_1, if_neg qc_2, if_neg qc_3, if_neg qc_4, if_neg qc_5, if_neg qc_6, if_neg qc_7, if_neg qc_8, if_neg qc_9, if_neg qc_10, if_neg qc_11, if_neg qc_12, if_neg qc_13, if_neg qc_15, if_neg qc_16, if_neg qc_17, if_pos qc_18] <;> rfl)
                                  · rcases Decidable.em (x1 = 17) with qc_19 | qc_19
                                    · refine x_tableIn (tgt := 182) C dX3_perform_1 (by rw [qc_19]; decide) (by rw [qc_19]; decide) (by rw [qc_19]; rfl) (by decide) ?_
                                      refine x_aload_n (pc2 := 183) C dX3_perform_182 0 rfl rfl rfl ?_
                                      refine x_iload_n (pc2 := 184) C dX3_perform_183 2 rfl rfl rfl ?_
                                      refine x_ret (rest := []) (st2 := []) (pc2 := 187) (cu2 := 0) (su2 := 0) (x_cV C (by assumption) (Nat.le_of_ble_eq_true rfl) kmX3_reach rfl kk_3_95 (tX3_reach hok (by assumption)) rfl rfl (Nat.le_of_ble_eq_true rfl) ⟨Nat.le_of_ble_eq_true rfl, Nat.le_of_ble_eq_true rfl⟩ ⟨Nat.le_of_ble_eq_true rfl, Nat.le_of_ble_eq_true rfl⟩ dX3_perform_184) rfl rfl rfl rfl ?_
                                      refine x_aload_n (pc2 := 188) C dX3_perform_187 0 rfl rfl rfl ?_
                                      refine x_getR (f := 302) (k2 := 2006) (pc2 := 191) C (by assumption) kf_3_15 dX3_perform_188 rfl rfl rfl (rti_i rfl) rfl (fun qd_20 => ?_)
                                      refine x_iload_n (pc2 := 192) C dX3_perform_191 2 rfl rfl rfl ?_
                                      refine x_aload_n (pc2 := 193) C dX3_perform_192 0 rfl rfl rfl ?_
                                      refine x_ret (rest := [_, _]) (st2 := [_, _, _]) (pc2 := 196) (cu2 := 0) (su2 := 0) (x_cV C (by assumption) (Nat.le_of_ble_eq_true rfl) kmX3_take rfl kk_3_92 (tX3_take hok (by assumption)) rfl rfl (Nat.le_of_ble_eq_true rfl) ⟨Nat.le_of_ble_eq_true rfl, Nat.le_of_ble_eq_true rfl⟩ ⟨Nat.le_of_ble_eq_true rfl, Nat.le_of_ble_eq_true rfl⟩ dX3_perform_193) rfl rfl rfl rfl ?_
                                      refine x_ret (rest := []) (st2 := []) (pc2 := 199) (cu2 := 0) (su2 := 0) (x_cSN C kmX10_put ke_3_50 (tX10_put hok (by assumption) rfl (by decide)) rfl rfl (Nat.le_of_ble_eq_true rfl) ⟨Nat.le_of_ble_eq_true rfl, Nat.le_of_ble_eq_true rfl⟩ ⟨Nat.le_of_ble_eq_true rfl, Nat.le_of_ble_eq_true rfl⟩ dX3_perform_196) rfl rfl rfl rfl ?_
                                      refine x_goto (tgt := 227) C dX3_perform_199 (by decide) ?_
                                      exact x_vreturn C dX3_perform_227 rfl (Nat.le_of_ble_eq_true rfl) (Nat.le_of_ble_eq_true rfl) rfl (by rw [fX3_perform, if_neg qc_1, if_neg qc_2, if_neg qc_3, if_neg qc_4, if_neg qc_5, if_neg qc_6, if_neg qc_7, if_neg qc_8, if_neg qc_9, if_neg qc_10, if_neg qc_11, if_neg qc_12, if_neg qc_13, if_neg qc_15, if_neg qc_16, if_neg qc_17, if_neg qc_18, if_pos qc_19] <;> rfl)
                                    · rcases Decidable.em (x1 = 18) with qc_21 | qc_21
                                      · refine x_tableIn (tgt := 202) C dX3_perform_1 (by rw [qc_21]; decide) (by rw [qc_21]; decide) (by rw [qc_21]; rfl) (by decide) ?_
                                        refine x_aload_n (pc2 := 203) C dX3_perform_202 0 rfl rfl rfl ?_
                                        refine x_iload_n (pc2 := 204) C dX3_perform_203 2 rfl rfl rfl ?_
                                        refine x_ret (rest := []) (st2 := []) (pc2 := 207) (cu2 := 0) (su2 := 0) (x_cV C (by assumption) (Nat.le_of_ble_eq_true rfl) kmX3_reach rfl kk_3_95 (tX3_reach hok (by assumption)) rfl rfl (Nat.le_of_ble_eq_true rfl) ⟨Nat.le_of_ble_eq_true rfl, Nat.le_of_ble_eq_true rfl⟩ ⟨Nat.le_of_ble_eq_true rfl, Nat.le_of_ble_eq_true rfl⟩ dX3_perform_204) rfl rfl rfl rfl ?_
                                        refine x_aload_n (pc2 := 208) C dX3_perform_207 0 rfl rfl rfl ?_
                                        refine x_aload_n (pc2 := 209) C dX3_perform_208 0 rfl rfl rfl ?_
                                        refine x_getR (f := 302) (k2 := 2006) (pc2 := 212) C (by assumption) kf_3_15 dX3_perform_209 rfl rfl rfl (rti_i rfl) rfl (fun qd_22 => ?_)
                                        refine x_iload_n (pc2 := 213) C dX3_perform_212 2 rfl rfl rfl ?_
                                        refine x_ret (rest := [_]) (st2 := [_, _]) (pc2 := 216) (cu2 := 0) (su2 := 0) (x_cSN C kmX10_at ke_3_67 (tX10_at hok (by assumption) rfl (by decide)) rfl rfl (Nat.le_of_ble_eq_true rfl) ⟨Nat.le_of_ble_eq_true rfl, Nat.le_of_ble_eq_true rfl⟩ ⟨Nat.le_of_ble_eq_true rfl, Nat.le_of_ble_eq_true rfl⟩ dX3_perform_213) rfl rfl rfl rfl ?_
                                        refine x_ret (rest := []) (st2 := []) (pc2 := 219) (cu2 := 0) (su2 := 0) (x_cV C (by assumption) (Nat.le_of_ble_eq_true rfl) kmX3_push rfl kk_3_84 (tX3_push hok (by assumption)) rfl rfl (Nat.le_of_ble_eq_true rfl) ⟨Nat.le_of_ble_eq_true rfl, Nat.le_of_ble_eq_true rfl⟩ ⟨Nat.le_of_ble_eq_true rfl, Nat.le_of_ble_eq_true rfl⟩ dX3_perform_216) rfl rfl rfl rfl ?_
                                        refine x_goto (tgt := 227) C dX3_perform_219 (by decide) ?_
                                        exact x_vreturn C dX3_perform_227 rfl (Nat.le_of_ble_eq_true rfl) (Nat.le_of_ble_eq_true rfl) rfl (by rw [fX3_perform, if_neg qc_1, if_neg qc_2, if_neg qc_3, if_neg qc_4, if_neg qc_5, if_neg qc_6, if_neg qc_7, if_neg qc_8, if_neg qc_9, if_neg qc_10, if_neg qc_11, if_neg qc_12, if_neg qc_13, if_neg qc_15, if_neg qc_16, if_neg qc_17, if_neg qc_18, if_neg qc_19, if_pos qc_21] <;> rfl)
                                      · refine x_tableOut (tgt := 222) C dX3_perform_1 (x_tout (fun v9 h8 h9 => by rcases (show v9 = 0 ∨ v9 = 1 ∨ v9 = 2 ∨ v9 = 3 ∨ v9 = 4 ∨ v9 = 5 ∨ v9 = 6 ∨ v9 = 7 ∨ v9 = 8 ∨ v9 = 9 ∨ v9 = 10 ∨ v9 = 11 ∨ v9 = 12 ∨ v9 = 13 ∨ v9 = 14 ∨ v9 = 15 ∨ v9 = 16 ∨ v9 = 17 ∨ v9 = 18 by omega) with rfl | rfl | rfl | rfl | rfl | rfl | rfl | rfl | rfl | rfl | rfl | rfl | rfl | rfl | rfl | rfl | rfl | rfl | rfl <;> assumption)) (by decide) ?_
                                        refine x_aload_n (pc2 := 223) C dX3_perform_222 0 rfl rfl rfl ?_
                                        refine x_iload_n (pc2 := 224) C dX3_perform_223 1 rfl rfl rfl ?_
                                        refine x_ret (rest := []) (st2 := []) (pc2 := 227) (cu2 := 0) (su2 := 0) (x_cV C (by assumption) (Nat.le_of_ble_eq_true rfl) kmX3_calculate rfl kk_3_98 (tX3_calculate hok (by assumption)) rfl rfl (Nat.le_of_ble_eq_true rfl) ⟨Nat.le_of_ble_eq_true rfl, Nat.le_of_ble_eq_true rfl⟩ ⟨Nat.le_of_ble_eq_true rfl, Nat.le_of_ble_eq_true rfl⟩ dX3_perform_224) rfl rfl rfl rfl ?_
                                        exact x_vreturn C dX3_perform_227 rfl (Nat.le_of_ble_eq_true rfl) (Nat.le_of_ble_eq_true rfl) rfl (by rw [fX3_perform, if_neg qc_1, if_neg qc_2, if_neg qc_3, if_neg qc_4, if_neg qc_5, if_neg qc_6, if_neg qc_7, if_neg qc_8, if_neg qc_9, if_neg qc_10, if_neg qc_11, if_neg qc_12, if_neg qc_13, if_neg qc_15, if_neg qc_16, if_neg qc_17, if_neg qc_18, if_neg qc_19, if_neg qc_21] <;> rfl)
def fX1_bestFor_l14 (Ω : XO) (y4 : Int32) (y3 : Nat) (y1 : Nat) : Nat → Int32 → Option Nat → Option (Int32 × Option Nat)
  | 0, _, _ => none
  | n + 1, y5, y2 => (if y4 ≤ y5 then (some (y5, y2)) else (if inB y5 40 then (if (fX7_waitsBehind Ω (40 * y3 + y5.toNatClampNeg) y1) = 0 then fX1_bestFor_l14 Ω y4 y3 y1 n (y5 + 1) y2 else (if (fX7_fits Ω (40 * y3 + y5.toNatClampNeg) y1) = 0 then fX1_bestFor_l14 Ω y4 y3 y1 n (y5 + 1) y2 else (oE y2 (fX1_bestFor_l14 Ω y4 y3 y1 n (y5 + 1) (some (40 * y3 + y5.toNatClampNeg))) (fun x_6 => (if (fX7_priceAt Ω (40 * y3 + y5.toNatClampNeg) (xI Ω 5 y1 0)) ≤ (fX7_priceAt Ω x_6 (xI Ω 5 y1 0)) then fX1_bestFor_l14 Ω y4 y3 y1 n (y5 + 1) (some x_6) else fX1_bestFor_l14 Ω y4 y3 y1 n (y5 + 1) (some (40 * y3 + y5.toNatClampNeg))))))) else none))
set_option maxRecDepth 20000 in
theorem lX1_bestFor_l14 {G : XG} (hok : XK G) {B : XB} {y4 : Int32} {y3 : Nat} {y1 : Nat} {Ω : XO} (hf3 : dm G 2003 y3) (hf1 : dm G 0 y1)   {T : Option Value ⊕ String} {Ω9 : XO} (C : XC G B cX1_bestFor RX1 (RM 2 0) 7 ((some (FieldType.object "ForkBridge$Transaction"))) T Ω9) : ∀ (n : Nat) (y5 : Int32) (y2 : Option Nat) {r : (Int32 × Option Nat)}, (∀ x, y2 = some x → dm G 7 x) → fX1_bestFor_l14 Ω y4 y3 y1 n y5 y2 = some r → (∀ q, r = q → ((∀ x, q.2 = some x → dm G 7 x) → XW G B 7 78 [(2, (ov G 7 (q.2)))] [] Ω 0 0)) → XW G B 7 14 [(5, .int (y5)), (4, .int (y4)), (3, .ref (ad G 2003 (y3))), (2, (ov G 7 (y2))), (1, .ref (ad G 0 (y1)))] [] Ω 0 0 := by
  intro n
  induction n with
  | zero => intro y5 y2 r hv_y2 hf; exact absurd hf (by rw [fX1_bestFor_l14]; exact nofun)
  | succ n ih =>
    intro y5 y2 r hv_y2 hf hk
    refine x_iload (pc2 := 16) C dX1_bestFor_14 0 rfl rfl ?_
    refine x_iload (pc2 := 18) C dX1_bestFor_16 1 rfl rfl ?_
    refine x_icmp_ge (tgt := 78) (pc2 := 21) C dX1_bestFor_18 (by decide) rfl (fun qc_1 => ?_) (fun qc_1 => ?_)
    · rw [fX1_bestFor_l14, if_pos qc_1] at hf
      exact x_sub (lv2 := [(2, _)]) C [3] rfl (hk _ (Option.some.inj hf).symm (by first | assumption | (intro _ h9; cases h9; assumption) | (intro _ h9; cases h9)))
    · refine x_aload_n (pc2 := 22) C dX1_bestFor_21 2 rfl rfl rfl ?_
      refine x_iload (pc2 := 24) C dX1_bestFor_22 0 rfl rfl ?_
      rcases (Decidable.em (inB y5 40)).symm with qg_2 | qg_2
      · exact absurd hf (by rw [fX1_bestFor_l14, if_neg qc_1, if_neg qg_2]; exact nofun)
      refine x_aald (k2 := 7) (pc2 := 25) C (by assumption) dX1_bestFor_24 rfl rfl (inB_in qg_2) rfl (eli_2003 _ _) rfl (fun qd_3 => ?_)
      refine x_astore (pc2 := 27) (lv2 := [(6, _), (5, _), (4, _), (3, _), (2, _), (1, _)]) C dX1_bestFor_25 (by decide) rfl rfl ?_
      refine x_aload (pc2 := 29) C dX1_bestFor_27 0 rfl rfl ?_
      refine x_aload_n (pc2 := 30) C dX1_bestFor_29 5 rfl rfl rfl ?_
      refine x_ret (rest := []) (st2 := [_]) (pc2 := 33) (cu2 := 0) (su2 := 0) (x_cV C (by assumption) (Nat.le_of_ble_eq_true rfl) kmX7_waitsBehind rfl kk_1_65 (tX7_waitsBehind hok (by assumption) (by assumption)) rfl rfl (Nat.le_of_ble_eq_true rfl) ⟨Nat.le_of_ble_eq_true rfl, Nat.le_of_ble_eq_true rfl⟩ ⟨Nat.le_of_ble_eq_true rfl, Nat.le_of_ble_eq_true rfl⟩ dX1_bestFor_30) rfl rfl rfl rfl ?_
      refine x_if_eq (tgt := 72) (pc2 := 36) C dX1_bestFor_33 (by decide) rfl (fun qc_4 => ?_) (fun qc_4 => ?_)
      · refine x_iinc (pc2 := 75) (v := y5 + 1) (lv2 := [(5, _), (6, _), (4, _), (3, _), (2, _), (1, _)]) C dX1_bestFor_72 1 rfl rfl (by decide) rfl rfl ?_
        refine x_goto (tgt := 14) C dX1_bestFor_75 (by decide) ?_
        exact x_sub (lv2 := [(5, _), (4, _), (3, _), (2, _), (1, _)]) C [0, 2, 3, 4, 5] rfl (ih (y5 + 1) y2 (by first | assumption | (intro _ h9; cases h9; assumption) | (intro _ h9; cases h9)) (by rw [fX1_bestFor_l14, if_neg qc_1, if_pos qg_2, if_pos qc_4] at hf; exact hf) hk)
      · refine x_aload (pc2 := 38) C dX1_bestFor_36 0 rfl rfl ?_
        refine x_aload_n (pc2 := 39) C dX1_bestFor_38 5 rfl rfl rfl ?_
        refine x_ret (rest := []) (st2 := [_]) (pc2 := 42) (cu2 := 0) (su2 := 0) (x_cV C (by assumption) (Nat.le_of_ble_eq_true rfl) kmX7_fits rfl kk_1_139 (tX7_fits hok (by assumption) (by assumption)) rfl rfl (Nat.le_of_ble_eq_true rfl) ⟨Nat.le_of_ble_eq_true rfl, Nat.le_of_ble_eq_true rfl⟩ ⟨Nat.le_of_ble_eq_true rfl, Nat.le_of_ble_eq_true rfl⟩ dX1_bestFor_39) rfl rfl rfl rfl ?_
        refine x_if_eq (tgt := 72) (pc2 := 45) C dX1_bestFor_42 (by decide) rfl (fun qc_5 => ?_) (fun qc_5 => ?_)
        · refine x_iinc (pc2 := 75) (v := y5 + 1) (lv2 := [(5, _), (6, _), (4, _), (3, _), (2, _), (1, _)]) C dX1_bestFor_72 1 rfl rfl (by decide) rfl rfl ?_
          refine x_goto (tgt := 14) C dX1_bestFor_75 (by decide) ?_
          exact x_sub (lv2 := [(5, _), (4, _), (3, _), (2, _), (1, _)]) C [0, 2, 3, 4, 5] rfl (ih (y5 + 1) y2 (by first | assumption | (intro _ h9; cases h9; assumption) | (intro _ h9; cases h9)) (by rw [fX1_bestFor_l14, if_neg qc_1, if_pos qg_2, if_neg qc_4, if_pos qc_5] at hf; exact hf) hk)
        · refine x_aload_nO (pc2 := 46) C dX1_bestFor_45 4 rfl rfl rfl ?_
          rcases y2 with _ | x_6
          · refine x_ifnullN (tgt := 69) C dX1_bestFor_46 (by decide) ?_
            refine x_aload (pc2 := 71) C dX1_bestFor_69 0 rfl rfl ?_
            refine x_astore_n (pc2 := 72) (lv2 := [(2, _), (6, _), (5, _), (4, _), (3, _), (1, _)]) C dX1_bestFor_71 rfl (by decide) rfl rfl ?_
            refine x_iinc (pc2 := 75) (v := y5 + 1) (lv2 := [(5, _), (2, _), (6, _), (4, _), (3, _), (1, _)]) C dX1_bestFor_72 2 rfl rfl (by decide) rfl rfl ?_
            refine x_goto (tgt := 14) C dX1_bestFor_75 (by decide) ?_
            exact x_sub (lv2 := [(5, _), (4, _), (3, _), (2, _), (1, _)]) C [0, 3, 4, 1, 5] rfl (ih (y5 + 1) (some (40 * y3 + y5.toNatClampNeg)) (by first | assumption | (intro _ h9; cases h9; assumption) | (intro _ h9; cases h9)) (by rw [fX1_bestFor_l14, if_neg qc_1, if_pos qg_2, if_neg qc_4, if_neg qc_5, oE_n] at hf; exact hf) hk)
          · have qd_x_6 := hv_y2 _ rfl
            refine x_ifnull (pc2 := 49) C dX1_bestFor_46 rfl ?_
            refine x_aload (pc2 := 51) C dX1_bestFor_49 0 rfl rfl ?_
            refine x_aload_n (pc2 := 52) C dX1_bestFor_51 5 rfl rfl rfl ?_
            refine x_getI (pc2 := 55) (f := 5) C (by assumption) kf_1_142 dX1_bestFor_52 rfl rfl rfl ?_
            refine x_ret (rest := []) (st2 := [_]) (pc2 := 58) (cu2 := 0) (su2 := 0) (x_cV C (by assumption) (Nat.le_of_ble_eq_true rfl) kmX7_priceAt rfl kk_1_145 (tX7_priceAt hok (by assumption)) rfl rfl (Nat.le_of_ble_eq_true rfl) ⟨Nat.le_of_ble_eq_true rfl, Nat.le_of_ble_eq_true rfl⟩ ⟨Nat.le_of_ble_eq_true rfl, Nat.le_of_ble_eq_true rfl⟩ dX1_bestFor_55) rfl rfl rfl rfl ?_
            refine x_aload_n (pc2 := 59) C dX1_bestFor_58 4 rfl rfl rfl ?_
            refine x_aload_n (pc2 := 60) C dX1_bestFor_59 5 rfl rfl rfl ?_
            refine x_getI (pc2 := 63) (f := 5) C (by assumption) kf_1_142 dX1_bestFor_60 rfl rfl rfl ?_
            refine x_ret (rest := [_]) (st2 := [_, _]) (pc2 := 66) (cu2 := 0) (su2 := 0) (x_cV C (by assumption) (Nat.le_of_ble_eq_true rfl) kmX7_priceAt rfl kk_1_145 (tX7_priceAt hok (by assumption)) rfl rfl (Nat.le_of_ble_eq_true rfl) ⟨Nat.le_of_ble_eq_true rfl, Nat.le_of_ble_eq_true rfl⟩ ⟨Nat.le_of_ble_eq_true rfl, Nat.le_of_ble_eq_true rfl⟩ dX1_bestFor_63) rfl rfl rfl rfl ?_
            refine x_icmp_le (tgt := 72) (pc2 := 69) C dX1_bestFor_66 (by decide) rfl (fun qc_7 => ?_) (fun qc_7 => ?_)
            · refine x_iinc (pc2 := 75) (v := y5 + 1) (lv2 := [(5, _), (6, _), (4, _), (3, _), (2, _), (1, _)]) C dX1_bestFor_72 1 rfl rfl (by decide) rfl rfl ?_
              refine x_goto (tgt := 14) C dX1_bestFor_75 (by decide) ?_
              exact x_sub (lv2 := [(5, _), (4, _), (3, _), (2, _), (1, _)]) C [0, 2, 3, 4, 5] rfl (ih (y5 + 1) (some x_6) (by first | assumption | (intro _ h9; cases h9; assumption) | (intro _ h9; cases h9)) (by rw [fX1_bestFor_l14, if_neg qc_1, if_pos qg_2, if_neg qc_4, if_neg qc_5, oE_s, if_pos qc_7] at hf; exact hf) hk)
            · refine x_aload (pc2 := 71) C dX1_bestFor_69 0 rfl rfl ?_
              refine x_astore_n (pc2 := 72) (lv2 := [(2, _), (6, _), (5, _), (4, _), (3, _), (1, _)]) C dX1_bestFor_71 rfl (by decide) rfl rfl ?_
              refine x_iinc (pc2 := 75) (v := y5 + 1) (lv2 := [(5, _), (2, _), (6, _), (4, _), (3, _), (1, _)]) C dX1_bestFor_72 2 rfl rfl (by decide) rfl rfl ?_
              refine x_goto (tgt := 14) C dX1_bestFor_75 (by decide) ?_
              exact x_sub (lv2 := [(5, _), (4, _), (3, _), (2, _), (1, _)]) C [0, 3, 4, 1, 5] rfl (ih (y5 + 1) (some (40 * y3 + y5.toNatClampNeg)) (by first | assumption | (intro _ h9; cases h9; assumption) | (intro _ h9; cases h9)) (by rw [fX1_bestFor_l14, if_neg qc_1, if_pos qg_2, if_neg qc_4, if_neg qc_5, oE_s, if_neg qc_7] at hf; exact hf) hk)
def fX1_bestFor (Ω : XO) (i : Nat) (i1 : Nat) : Option (Option Nat) := (fX1_bestFor_l14 Ω (nI (alen 2003)) i i1 ((nI (alen 2003)).toNatClampNeg + 1) (0 : Int32) none).bind (fun q_2 => (some q_2.2))
set_option maxRecDepth 20000 in
theorem tX1_bestFor {G : XG} (hok : XK G) {i : Nat} {i1 : Nat} {Ω : XO} (hd0 : dm G 1 i) (hd1 : dm G 0 i1)   {r : Option Nat} (hf : fX1_bestFor Ω i i1 = some r) : XM G yX1_bestFor cX1_bestFor 7 ((some (FieldType.object "ForkBridge$Transaction"))) (RM 2 0) [.ref (ad G 1 i), .ref (ad G 0 i1)] Ω (.inl (some (ov G 7 (r)))) Ω := by
  refine x_start (lv := [(0, .ref (ad G 1 i)), (1, .ref (ad G 0 i1))]) (own := RX1) hok (by decide +kernel) rfl (Nat.le_of_ble_eq_true rfl) rfl (fun B C => ?_)
  refine x_null (pc2 := 1) C dX1_bestFor_0 rfl ?_
  refine x_astore_nN (pc2 := 2) (lv2 := [(2, _), (0, _), (1, _)]) C dX1_bestFor_1 rfl (by decide) rfl rfl ?_
  refine x_aload_n (pc2 := 3) C dX1_bestFor_2 1 rfl rfl rfl ?_
  refine x_getR (f := 102) (k2 := 2003) (pc2 := 6) C (by assumption) kf_1_23 dX1_bestFor_3 rfl rfl rfl (rti_i rfl) rfl (fun qd_1 => ?_)
  refine x_astore_n (pc2 := 7) (lv2 := [(3, _), (2, _), (0, _), (1, _)]) C dX1_bestFor_6 rfl (by decide) rfl rfl ?_
  refine x_aload_n (pc2 := 8) C dX1_bestFor_7 0 rfl rfl rfl ?_
  refine x_alen (pc2 := 9) C (by assumption) dX1_bestFor_8 rfl rfl rfl ?_
  refine x_istore (pc2 := 11) (lv2 := [(4, _), (3, _), (2, _), (0, _), (1, _)]) C dX1_bestFor_9 (by decide) rfl rfl ?_
  refine x_iconst (pc2 := 12) (v := 0) C dX1_bestFor_11 rfl rfl ?_
  refine x_istore (pc2 := 14) (lv2 := [(5, _), (4, _), (3, _), (2, _), (0, _), (1, _)]) C dX1_bestFor_12 (by decide) rfl rfl ?_
  rcases hq_2 : fX1_bestFor_l14 Ω (nI (alen 2003)) i i1 ((nI (alen 2003)).toNatClampNeg + 1) (0 : Int32) none with _ | q_2
  · exact absurd hf (by rw [fX1_bestFor, hq_2, Option.bind_none]; exact nofun)
  refine x_sub (lv2 := [(5, _), (4, _), (3, _), (2, _), (1, _)]) C [0, 1, 2, 3, 5] rfl (lX1_bestFor_l14 hok (by assumption) (by assumption) C ((nI (alen 2003)).toNatClampNeg + 1) (0 : Int32) none (by first | assumption | (intro _ h9; cases h9; assumption) | (intro _ h9; cases h9)) hq_2 (fun q9 h9 hv_2_2 => ?_))
  cases h9
  refine x_aload_nO (pc2 := 79) C dX1_bestFor_78 0 rfl rfl rfl ?_
  rw [fX1_bestFor, hq_2, Option.bind_some] at hf
  cases hf
  exact x_areturn C dX1_bestFor_79 rfl (ov_or _ _) (Nat.le_of_ble_eq_true rfl) (Nat.le_of_ble_eq_true rfl) rfl rfl
theorem D_bestFor_l {G : XG} (hok : XK G) {Ω : XO} {i b : Nat} {y4 : Int32} (h : dm G 2003 i) : ∀ (n : Nat) (y5 : Int32) (y2 : Option Nat) {r : Int32 × Option Nat}, fX1_bestFor_l14 Ω y4 i b n y5 y2 = some r → (∀ x, y2 = some x → dm G 7 x) → ∀ x, r.2 = some x → dm G 7 x := by
  intro n
  induction n with
  | zero => intro y5 y2 r hf; exact absurd hf (by rw [fX1_bestFor_l14]; exact nofun)
  | succ n ih =>
    intro y5 y2 r hf hv
    rw [fX1_bestFor_l14] at hf
    have hd : inB y5 40 → dm G 7 (40 * i + y5.toNatClampNeg) := fun q => dm_a hok y5.toNatClampNeg h rfl (by show y5.toInt.toNat < 40; have := q.1; have := q.2; omega) rfl rfl
    split at hf
    · cases hf; exact hv
    · split at hf
      · have hd2 := hd (by assumption)
        split at hf
        · exact ih _ _ hf hv
        · split at hf
          · exact ih _ _ hf hv
          · rcases y2 with _ | x9
            · rw [oE_n] at hf
              exact ih _ _ hf (fun x h9 => by cases h9; exact hd2)
            · rw [oE_s] at hf
              split at hf
              · exact ih _ _ hf hv
              · exact ih _ _ hf (fun x h9 => by cases h9; exact hd2)
      · cases hf
theorem D_bestFor {G : XG} (hok : XK G) {Ω : XO} {i b : Nat} (h : dm G 1 i) {r : Option Nat} (hf : fX1_bestFor Ω i b = some r) : ∀ x, r = some x → dm G 7 x := by
  rw [fX1_bestFor] at hf
  rcases hq : fX1_bestFor_l14 Ω (nI (alen 2003)) i b ((nI (alen 2003)).toNatClampNeg + 1) (0 : Int32) none with _ | q
  · rw [hq, Option.bind_none] at hf; cases hf
  · rw [hq, Option.bind_some] at hf
    cases hf
    exact D_bestFor_l hok (dm_f hok 2 h rfl rfl (rti_i rfl)) _ _ _ hq (fun x h9 => nomatch h9)
