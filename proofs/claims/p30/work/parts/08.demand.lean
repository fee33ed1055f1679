def ocv (e : Option String) (v : Option Value) : Option Value ⊕ String := if e = none then .inl v else .inr (e.getD "")
theorem XM_n {G : XG} {y : MethodName} {b : ByteArray} {mL : Nat} {ret : Option FieldType} {rm : Room} {as : List Value} {Ω Ω2 : XO} {e : Option String} {v : Option Value} (h : e = none) (M : XM G y b mL ret rm as Ω (ocv e v) Ω2) : XM G y b mL ret rm as Ω (.inl v) Ω2 := by
  rw [ocv, if_pos h] at M
  exact M
theorem XM_t {G : XG} {y : MethodName} {b : ByteArray} {mL : Nat} {ret : Option FieldType} {rm : Room} {as : List Value} {Ω Ω2 : XO} {e : Option String} {v : Option Value} (h : ¬ e = none) (M : XM G y b mL ret rm as Ω (ocv e v) Ω2) : XM G y b mL ret rm as Ω (.inr (e.getD "")) Ω2 := by
  rw [ocv, if_neg h] at M
  exact M
def eX10_demandIndex (Ω : XO) (x1 : Int32) (x2 : Int32) : Option String := (if x1 < 0 then (some "java/lang/IndexOutOfBoundsException") else (if x1 < x2 then none else (some "java/lang/IndexOutOfBoundsException")))
set_option maxRecDepth 20000 in
theorem tX10_demandIndex {G : XG} (hok : XK G) {x1 : Int32} {x2 : Int32} {Ω : XO}   : XM G yX10_demandIndex cX10_demandIndex 2 none (RM 6 1) [.int x1, .int x2] Ω (ocv (eX10_demandIndex Ω x1 x2) none) Ω := by
  refine x_start (lv := [(0, .int x1), (1, .int x2)]) (own := RX10) hok (by decide +kernel) rfl (Nat.le_of_ble_eq_true rfl) rfl (fun B C => ?_)
  refine x_iload_n (pc2 := 1) C dX10_demandIndex_0 0 rfl rfl rfl ?_
  refine x_if_lt (tgt := 9) (pc2 := 4) C dX10_demandIndex_1 (by decide) rfl (fun qc_1 => ?_) (fun qc_1 => ?_)
  · exact x_throw0 C dX10_demandIndex_9 dX10_demandIndex_12 dX10_demandIndex_13 dX10_demandIndex_16 (Nat.le_of_ble_eq_true rfl) (Nat.le_of_ble_eq_true rfl) (Nat.le_of_ble_eq_true rfl) (Nat.le_of_ble_eq_true rfl) (by rw [ocv, eX10_demandIndex, if_pos qc_1] <;> rfl) rfl
  · refine x_iload_n (pc2 := 5) C dX10_demandIndex_4 0 rfl rfl rfl ?_
    refine x_iload_n (pc2 := 6) C dX10_demandIndex_5 1 rfl rfl rfl ?_
    refine x_icmp_lt (tgt := 17) (pc2 := 9) C dX10_demandIndex_6 (by decide) rfl (fun qc_2 => ?_) (fun qc_2 => ?_)
    · exact x_vreturn C dX10_demandIndex_17 rfl (Nat.le_of_ble_eq_true rfl) (Nat.le_of_ble_eq_true rfl) (by rw [ocv, if_pos (show eX10_demandIndex Ω x1 x2 = none by rw [eX10_demandIndex, if_neg qc_1, if_pos qc_2] <;> rfl)] <;> rfl) rfl
    · exact x_throw0 C dX10_demandIndex_9 dX10_demandIndex_12 dX10_demandIndex_13 dX10_demandIndex_16 (Nat.le_of_ble_eq_true rfl) (Nat.le_of_ble_eq_true rfl) (Nat.le_of_ble_eq_true rfl) (Nat.le_of_ble_eq_true rfl) (by rw [ocv, eX10_demandIndex, if_neg qc_1, if_neg qc_2] <;> rfl) rfl

def eX10_demandArgument (Ω : XO) (x1 : Int32) : Option String := (if x1 = 0 then (some "java/lang/IllegalArgumentException") else none)
set_option maxRecDepth 20000 in
theorem tX10_demandArgument {G : XG} (hok : XK G) {x1 : Int32} {Ω : XO}   : XM G yX10_demandArgument cX10_demandArgument 1 none (RM 6 1) [.int x1] Ω (ocv (eX10_demandArgument Ω x1) none) Ω := by
  refine x_start (lv := [(0, .int x1)]) (own := RX10) hok (by decide +kernel) rfl (Nat.le_of_ble_eq_true rfl) rfl (fun B C => ?_)
  refine x_iload_n (pc2 := 1) C dX10_demandArgument_0 0 rfl rfl rfl ?_
  refine x_if_ne (tgt := 12) (pc2 := 4) C dX10_demandArgument_1 (by decide) rfl (fun qc_1 => ?_) (fun qc_1 => ?_)
  · exact x_vreturn C dX10_demandArgument_12 rfl (Nat.le_of_ble_eq_true rfl) (Nat.le_of_ble_eq_true rfl) (by rw [ocv, if_pos (show eX10_demandArgument Ω x1 = none by rw [eX10_demandArgument, if_neg qc_1] <;> rfl)] <;> rfl) rfl
  · exact x_throw1 C dX10_demandArgument_4 dX10_demandArgument_7 dX10_demandArgument_8 dX10_demandArgument_11 (Nat.le_of_ble_eq_true rfl) (Nat.le_of_ble_eq_true rfl) (Nat.le_of_ble_eq_true rfl) (Nat.le_of_ble_eq_true rfl) (by rw [ocv, eX10_demandArgument, if_pos qc_1] <;> rfl) rfl

def eX10_demandRange (Ω : XO) (x1 : Int32) (x2 : Int32) (x3 : Int32) : Option String := (if x1 < x2 then (eX10_demandArgument Ω (0 : Int32)) else (if x3 < x1 then (eX10_demandArgument Ω (0 : Int32)) else none))
set_option maxRecDepth 20000 in
theorem tX10_demandRange {G : XG} (hok : XK G) {x1 : Int32} {x2 : Int32} {x3 : Int32} {Ω : XO}   : XM G yX10_demandRange cX10_demandRange 3 none (RM 7 1) [.int x1, .int x2, .int x3] Ω (ocv (eX10_demandRange Ω x1 x2 x3) none) Ω := by
  refine x_start (lv := [(0, .int x1), (1, .int x2), (2, .int x3)]) (own := RX10) hok (by decide +kernel) rfl (Nat.le_of_ble_eq_true rfl) rfl (fun B C => ?_)
  refine x_iload_n (pc2 := 1) C dX10_demandRange_0 0 rfl rfl rfl ?_
  refine x_iload_n (pc2 := 2) C dX10_demandRange_1 1 rfl rfl rfl ?_
  refine x_icmp_lt (tgt := 14) (pc2 := 5) C dX10_demandRange_2 (by decide) rfl (fun qc_1 => ?_) (fun qc_1 => ?_)
  · refine x_iconst (pc2 := 15) (v := 0) C dX10_demandRange_14 rfl rfl ?_
    have qc_2 : ¬ eX10_demandArgument Ω (0 : Int32) = none := by rw [eX10_demandArgument, if_pos rfl]; exact nofun
    exact x_thr C (rest := []) (x_cS C kmX10_demandArgument kk_10_99 (XM_t qc_2 (tX10_demandArgument hok )) rfl rfl (Nat.le_of_ble_eq_true rfl) ⟨Nat.le_of_ble_eq_true rfl, Nat.le_of_ble_eq_true rfl⟩ ⟨Nat.le_of_ble_eq_true rfl, Nat.le_of_ble_eq_true rfl⟩ dX10_demandRange_15) (Nat.le_of_ble_eq_true rfl) (Nat.le_of_ble_eq_true rfl) (by rw [ocv, eX10_demandRange, if_pos qc_1, if_neg qc_2] <;> rfl) rfl
  · refine x_iload_n (pc2 := 6) C dX10_demandRange_5 0 rfl rfl rfl ?_
    refine x_iload_n (pc2 := 7) C dX10_demandRange_6 2 rfl rfl rfl ?_
    refine x_icmp_gt (tgt := 14) (pc2 := 10) C dX10_demandRange_7 (by decide) rfl (fun qc_3 => ?_) (fun qc_3 => ?_)
    · refine x_iconst (pc2 := 15) (v := 0) C dX10_demandRange_14 rfl rfl ?_
      have qc_4 : ¬ eX10_demandArgument Ω (0 : Int32) = none := by rw [eX10_demandArgument, if_pos rfl]; exact nofun
      exact x_thr C (rest := []) (x_cS C kmX10_demandArgument kk_10_99 (XM_t qc_4 (tX10_demandArgument hok )) rfl rfl (Nat.le_of_ble_eq_true rfl) ⟨Nat.le_of_ble_eq_true rfl, Nat.le_of_ble_eq_true rfl⟩ ⟨Nat.le_of_ble_eq_true rfl, Nat.le_of_ble_eq_true rfl⟩ dX10_demandRange_15) (Nat.le_of_ble_eq_true rfl) (Nat.le_of_ble_eq_true rfl) (by rw [ocv, eX10_demandRange, if_neg qc_1, if_pos qc_3, if_neg qc_4] <;> rfl) rfl
    · refine x_iconst (pc2 := 11) (v := 1) C dX10_demandRange_10 rfl rfl ?_
      refine x_goto (tgt := 15) C dX10_demandRange_11 (by decide) ?_
      have qc_5 : eX10_demandArgument Ω (1 : Int32) = none := by rw [eX10_demandArgument, if_neg (by decide)]
      refine x_ret (rest := []) (st2 := []) (pc2 := 18) (cu2 := 1) (su2 := 6) (x_cS C kmX10_demandArgument kk_10_99 (XM_n qc_5 (tX10_demandArgument hok )) rfl rfl (Nat.le_of_ble_eq_true rfl) ⟨Nat.le_of_ble_eq_true rfl, Nat.le_of_ble_eq_true rfl⟩ ⟨Nat.le_of_ble_eq_true rfl, Nat.le_of_ble_eq_true rfl⟩ dX10_demandRange_15) rfl rfl rfl rfl ?_
      exact x_vreturn C dX10_demandRange_18 rfl (Nat.le_of_ble_eq_true rfl) (Nat.le_of_ble_eq_true rfl) (by rw [ocv, if_pos (show eX10_demandRange Ω x1 x2 x3 = none by rw [eX10_demandRange, if_neg qc_1, if_neg qc_3] <;> rfl)] <;> rfl) rfl

def eX10_demandState (Ω : XO) (x1 : Int32) : Option String := (if x1 = 0 then (some "java/lang/IllegalStateException") else none)
set_option maxRecDepth 20000 in
theorem tX10_demandState {G : XG} (hok : XK G) {x1 : Int32} {Ω : XO}   : XM G yX10_demandState cX10_demandState 1 none (RM 6 1) [.int x1] Ω (ocv (eX10_demandState Ω x1) none) Ω := by
  refine x_start (lv := [(0, .int x1)]) (own := RX10) hok (by decide +kernel) rfl (Nat.le_of_ble_eq_true rfl) rfl (fun B C => ?_)
  refine x_iload_n (pc2 := 1) C dX10_demandState_0 0 rfl rfl rfl ?_
  refine x_if_ne (tgt := 12) (pc2 := 4) C dX10_demandState_1 (by decide) rfl (fun qc_1 => ?_) (fun qc_1 => ?_)
  · exact x_vreturn C dX10_demandState_12 rfl (Nat.le_of_ble_eq_true rfl) (Nat.le_of_ble_eq_true rfl) (by rw [ocv, if_pos (show eX10_demandState Ω x1 = none by rw [eX10_demandState, if_neg qc_1] <;> rfl)] <;> rfl) rfl
  · exact x_throw2 C dX10_demandState_4 dX10_demandState_7 dX10_demandState_8 dX10_demandState_11 (Nat.le_of_ble_eq_true rfl) (Nat.le_of_ble_eq_true rfl) (Nat.le_of_ble_eq_true rfl) (Nat.le_of_ble_eq_true rfl) (by rw [ocv, eX10_demandState, if_pos qc_1] <;> rfl) rfl

def eX10_demandChain (Ω : XO) (i : Nat) (x1 : Int32) : Option String := (if x1 < 0 then (some "java/lang/IndexOutOfBoundsException") else (if x1 < (nI (alen 2016)) then none else (some "java/lang/IndexOutOfBoundsException")))
def rX10_demandChain (Ω : XO) (i : Nat) (x1 : Int32) : Nat := (if x1 < 0 then 0 else (if x1 < (nI (alen 2016)) then x1.toNatClampNeg else 0))
set_option maxRecDepth 20000 in
theorem tX10_demandChain {G : XG} (hok : XK G) {i : Nat} {x1 : Int32} {Ω : XO} (hd0 : dm G 10 i)  : XM G yX10_demandChain cX10_demandChain 2 ((some (FieldType.object "ForkBridge$Chain"))) (RM 6 1) [.ref (ad G 10 i), .int x1] Ω (ocv (eX10_demandChain Ω i x1) (some (.ref (ad G 1 (rX10_demandChain Ω i x1))))) Ω := by
  refine x_start (lv := [(0, .ref (ad G 10 i)), (1, .int x1)]) (own := RX10) hok (by decide +kernel) rfl (Nat.le_of_ble_eq_true rfl) rfl (fun B C => ?_)
  refine x_iload_n (pc2 := 1) C dX10_demandChain_0 1 rfl rfl rfl ?_
  refine x_if_lt (tgt := 13) (pc2 := 4) C dX10_demandChain_1 (by decide) rfl (fun qc_1 => ?_) (fun qc_1 => ?_)
  · exact x_throw0 C dX10_demandChain_13 dX10_demandChain_16 dX10_demandChain_17 dX10_demandChain_20 (Nat.le_of_ble_eq_true rfl) (Nat.le_of_ble_eq_true rfl) (Nat.le_of_ble_eq_true rfl) (Nat.le_of_ble_eq_true rfl) (by rw [ocv, eX10_demandChain, if_pos qc_1] <;> rfl) rfl
  · refine x_iload_n (pc2 := 5) C dX10_demandChain_4 1 rfl rfl rfl ?_
    refine x_aload_n (pc2 := 6) C dX10_demandChain_5 0 rfl rfl rfl ?_
    refine x_getR (f := 1002) (k2 := 2016) (pc2 := 9) C (by assumption) kf_10_27 dX10_demandChain_6 rfl rfl rfl (rti_i rfl) rfl (fun qd_2 => ?_)
    refine x_alen (pc2 := 10) C (by assumption) dX10_demandChain_9 rfl rfl rfl ?_
    refine x_icmp_lt (tgt := 21) (pc2 := 13) C dX10_demandChain_10 (by decide) rfl (fun qc_3 => ?_) (fun qc_3 => ?_)
    · refine x_aload_n (pc2 := 22) C dX10_demandChain_21 0 rfl rfl rfl ?_
      refine x_getR (f := 1002) (k2 := 2016) (pc2 := 25) C (by assumption) kf_10_27 dX10_demandChain_22 rfl rfl rfl (rti_i rfl) rfl (fun qd_4 => ?_)
      refine x_iload_n (pc2 := 26) C dX10_demandChain_25 1 rfl rfl rfl ?_
      refine x_aald (k2 := 1) (pc2 := 27) C (by assumption) dX10_demandChain_26 rfl rfl (by first | exact x_in (by assumption) (by assumption) (by decide) | exact x_in3 (by assumption) (by assumption) (by decide) | exact x_in2 (by assumption) (by assumption) (by decide)) rfl (eli_2016 _ _) rfl (fun qd_5 => ?_)
      exact x_areturn C dX10_demandChain_27 rfl (Or.inr ⟨_, rfl⟩) (Nat.le_of_ble_eq_true rfl) (Nat.le_of_ble_eq_true rfl) (by rw [ocv, if_pos (show eX10_demandChain Ω i x1 = none by rw [eX10_demandChain, if_neg qc_1, if_pos qc_3] <;> rfl), rX10_demandChain, if_neg qc_1, if_pos qc_3] <;> rfl) rfl
    · exact x_throw0 C dX10_demandChain_13 dX10_demandChain_16 dX10_demandChain_17 dX10_demandChain_20 (Nat.le_of_ble_eq_true rfl) (Nat.le_of_ble_eq_true rfl) (Nat.le_of_ble_eq_true rfl) (Nat.le_of_ble_eq_true rfl) (by rw [ocv, eX10_demandChain, if_neg qc_1, if_neg qc_3] <;> rfl) rfl
theorem D_demandChain {G : XG} (hok : XK G) {Ω : XO} {i : Nat} (h : dm G 10 i) {x1 : Int32} (he : eX10_demandChain Ω i x1 = none) : dm G 1 (rX10_demandChain Ω i x1) := by
  have h1 := dm_f hok 2 h rfl rfl (rti_i rfl)
  unfold eX10_demandChain at he
  unfold rX10_demandChain
  split at he
  · cases he
  · rename_i q1
    split at he
    · rename_i q2
      rw [if_neg q1, if_pos q2]
      exact dm_a hok x1.toNatClampNeg h1 rfl (cl_lt (v := nI (alen 2016)) q1 (Int32.not_le.mpr q2) rfl) rfl (eli_2016 _ _)
    · cases he
def eX10_demandBlock (Ω : XO) (i : Nat) (x1 : Int32) (x2 : Int32) : Option String := (if eX10_demandChain Ω i x1 = none then (if eX10_demandIndex Ω x2 (xI Ω 101 (rX10_demandChain Ω i x1) 0) = none then none else (eX10_demandIndex Ω x2 (xI Ω 101 (rX10_demandChain Ω i x1) 0))) else (eX10_demandChain Ω i x1))
def rX10_demandBlock (Ω : XO) (i : Nat) (x1 : Int32) (x2 : Int32) : Nat := (if eX10_demandChain Ω i x1 = none then (if eX10_demandIndex Ω x2 (xI Ω 101 (rX10_demandChain Ω i x1) 0) = none then fX1_numberedBlock Ω (rX10_demandChain Ω i x1) x2 else 0) else 0)
set_option maxRecDepth 20000 in
theorem tX10_demandBlock {G : XG} (hok : XK G) {i : Nat} {x1 : Int32} {x2 : Int32} {Ω : XO} (hd0 : dm G 10 i)  : XM G yX10_demandBlock cX10_demandBlock 4 ((some (FieldType.object "ForkBridge$Block"))) (RM 7 2) [.ref (ad G 10 i), .int x1, .int x2] Ω (ocv (eX10_demandBlock Ω i x1 x2) (some (.ref (ad G 0 (rX10_demandBlock Ω i x1 x2))))) Ω := by
  refine x_start (lv := [(0, .ref (ad G 10 i)), (1, .int x1), (2, .int x2)]) (own := RX10) hok (by decide +kernel) rfl (Nat.le_of_ble_eq_true rfl) rfl (fun B C => ?_)
  refine x_aload_n (pc2 := 1) C dX10_demandBlock_0 0 rfl rfl rfl ?_
  refine x_iload_n (pc2 := 2) C dX10_demandBlock_1 1 rfl rfl rfl ?_
  rcases Decidable.em (eX10_demandChain Ω i x1 = none) with qc_1 | qc_1
  · refine x_ret (rest := []) (st2 := [_]) (pc2 := 5) (cu2 := 1) (su2 := 6) (x_cV C (by assumption) (Nat.le_of_ble_eq_true rfl) kmX10_demandChain rfl kk_10_64 (XM_n qc_1 (tX10_demandChain hok (by assumption))) rfl rfl (Nat.le_of_ble_eq_true rfl) ⟨Nat.le_of_ble_eq_true rfl, Nat.le_of_ble_eq_true rfl⟩ ⟨Nat.le_of_ble_eq_true rfl, Nat.le_of_ble_eq_true rfl⟩ dX10_demandBlock_2) rfl rfl rfl rfl ?_
    have qd_2 := D_demandChain hok (Ω := Ω) (by assumption) qc_1
    refine x_astore_n (pc2 := 6) (lv2 := [(3, _), (0, _), (1, _), (2, _)]) C dX10_demandBlock_5 rfl (by decide) rfl rfl ?_
    refine x_iload_n (pc2 := 7) C dX10_demandBlock_6 3 rfl rfl rfl ?_
    refine x_aload_n (pc2 := 8) C dX10_demandBlock_7 0 rfl rfl rfl ?_
    refine x_getI (pc2 := 11) (f := 101) C (by assumption) kf_10_68 dX10_demandBlock_8 rfl rfl rfl ?_
    rcases Decidable.em (eX10_demandIndex Ω x2 (xI Ω 101 (rX10_demandChain Ω i x1) 0) = none) with qc_3 | qc_3
    · refine x_ret (rest := []) (st2 := []) (pc2 := 14) (cu2 := 2) (su2 := 12) (x_cS C kmX10_demandIndex kk_10_32 (XM_n qc_3 (tX10_demandIndex hok )) rfl rfl (Nat.le_of_ble_eq_true rfl) ⟨Nat.le_of_ble_eq_true rfl, Nat.le_of_ble_eq_true rfl⟩ ⟨Nat.le_of_ble_eq_true rfl, Nat.le_of_ble_eq_true rfl⟩ dX10_demandBlock_11) rfl rfl rfl rfl ?_
      refine x_aload_n (pc2 := 15) C dX10_demandBlock_14 0 rfl rfl rfl ?_
      refine x_iload_n (pc2 := 16) C dX10_demandBlock_15 3 rfl rfl rfl ?_
      refine x_ret (rest := []) (st2 := [_]) (pc2 := 19) (cu2 := 2) (su2 := 12) (x_cV C (by assumption) (Nat.le_of_ble_eq_true rfl) kmX1_numberedBlock rfl kk_10_249 (tX1_numberedBlock hok (by assumption)) rfl rfl (Nat.le_of_ble_eq_true rfl) ⟨Nat.le_of_ble_eq_true rfl, Nat.le_of_ble_eq_true rfl⟩ ⟨Nat.le_of_ble_eq_true rfl, Nat.le_of_ble_eq_true rfl⟩ dX10_demandBlock_16) rfl rfl rfl rfl ?_
      have qd_4 := D_numberedBlock hok (Ω := Ω) (i := (rX10_demandChain Ω i x1)) (by assumption) (x1 := x2)
      exact x_areturn C dX10_demandBlock_19 rfl (Or.inr ⟨_, rfl⟩) (Nat.le_of_ble_eq_true rfl) (Nat.le_of_ble_eq_true rfl) (by rw [ocv, if_pos (show eX10_demandBlock Ω i x1 x2 = none by rw [eX10_demandBlock, if_pos qc_1, if_pos qc_3] <;> rfl), rX10_demandBlock, if_pos qc_1, if_pos qc_3] <;> rfl) rfl
    · exact x_thr C (rest := []) (x_cS C kmX10_demandIndex kk_10_32 (XM_t qc_3 (tX10_demandIndex hok )) rfl rfl (Nat.le_of_ble_eq_true rfl) ⟨Nat.le_of_ble_eq_true rfl, Nat.le_of_ble_eq_true rfl⟩ ⟨Nat.le_of_ble_eq_true rfl, Nat.le_of_ble_eq_true rfl⟩ dX10_demandBlock_11) (Nat.le_of_ble_eq_true rfl) (Nat.le_of_ble_eq_true rfl) (by rw [ocv, eX10_demandBlock, if_pos qc_1, if_neg qc_3, if_neg qc_3] <;> rfl) rfl
  · exact x_thr C (rest := []) (x_cV C (by assumption) (Nat.le_of_ble_eq_true rfl) kmX10_demandChain rfl kk_10_64 (XM_t qc_1 (tX10_demandChain hok (by assumption))) rfl rfl (Nat.le_of_ble_eq_true rfl) ⟨Nat.le_of_ble_eq_true rfl, Nat.le_of_ble_eq_true rfl⟩ ⟨Nat.le_of_ble_eq_true rfl, Nat.le_of_ble_eq_true rfl⟩ dX10_demandBlock_2) (Nat.le_of_ble_eq_true rfl) (Nat.le_of_ble_eq_true rfl) (by rw [ocv, eX10_demandBlock, if_neg qc_1, if_neg qc_1] <;> rfl) rfl
theorem D_demandBlock {G : XG} (hok : XK G) {Ω : XO} {i : Nat} (h : dm G 10 i) {x1 x2 : Int32} (he : eX10_demandBlock Ω i x1 x2 = none) : dm G 0 (rX10_demandBlock Ω i x1 x2) := by
  unfold eX10_demandBlock at he
  unfold rX10_demandBlock
  split at he
  · rename_i q1
    split at he
    · rename_i q2
      rw [if_pos q1, if_pos q2]
      exact D_numberedBlock hok (D_demandChain hok h q1)
    · rename_i q2
      exact absurd he q2
  · rename_i q1
    exact absurd he q1
def eX10_demandState_ (Ω : XO) (i : Nat) (x1 : Int32) (x2 : Int32) (x3 : Int32) : Option String := (if eX10_demandBlock Ω i x1 x2 = none then (if eX10_demandIndex Ω x3 (16 : Int32) = none then (if (xI Ω 13 (rX10_demandBlock Ω i x1 x2) 0) = 0 then none else (eX10_demandState Ω (0 : Int32))) else (eX10_demandIndex Ω x3 (16 : Int32))) else (eX10_demandBlock Ω i x1 x2))
def rX10_demandState_ (Ω : XO) (i : Nat) (x1 : Int32) (x2 : Int32) (x3 : Int32) : Nat := (if eX10_demandBlock Ω i x1 x2 = none then (if eX10_demandIndex Ω x3 (16 : Int32) = none then (if (xI Ω 13 (rX10_demandBlock Ω i x1 x2) 0) = 0 then rX10_demandBlock Ω i x1 x2 else 0) else 0) else 0)
set_option maxRecDepth 20000 in
theorem tX10_demandState_ {G : XG} (hok : XK G) {i : Nat} {x1 : Int32} {x2 : Int32} {x3 : Int32} {Ω : XO} (hd0 : dm G 10 i)  : XM G yX10_demandState_ cX10_demandState_ 5 ((some (FieldType.object "ForkBridge$State"))) (RM 8 4) [.ref (ad G 10 i), .int x1, .int x2, .int x3] Ω (ocv (eX10_demandState_ Ω i x1 x2 x3) (some (.ref (ad G 6 (rX10_demandState_ Ω i x1 x2 x3))))) Ω := by
  refine x_start (lv := [(0, .ref (ad G 10 i)), (1, .int x1), (2, .int x2), (3, .int x3)]) (own := RX10) hok (by decide +kernel) rfl (Nat.le_of_ble_eq_true rfl) rfl (fun B C => ?_)
  refine x_aload_n (pc2 := 1) C dX10_demandState__0 0 rfl rfl rfl ?_
  refine x_iload_n (pc2 := 2) C dX10_demandState__1 1 rfl rfl rfl ?_
  refine x_iload_n (pc2 := 3) C dX10_demandState__2 2 rfl rfl rfl ?_
  rcases Decidable.em (eX10_demandBlock Ω i x1 x2 = none) with qc_1 | qc_1
  · refine x_ret (rest := []) (st2 := [_]) (pc2 := 6) (cu2 := 2) (su2 := 12) (x_cV C (by assumption) (Nat.le_of_ble_eq_true rfl) kmX10_demandBlock rfl kk_10_120 (XM_n qc_1 (tX10_demandBlock hok (by assumption))) rfl rfl (Nat.le_of_ble_eq_true rfl) ⟨Nat.le_of_ble_eq_true rfl, Nat.le_of_ble_eq_true rfl⟩ ⟨Nat.le_of_ble_eq_true rfl, Nat.le_of_ble_eq_true rfl⟩ dX10_demandState__3) rfl rfl rfl rfl ?_
    have qd_2 := D_demandBlock hok (Ω := Ω) (by assumption) qc_1
    refine x_astore (pc2 := 8) (lv2 := [(4, _), (0, _), (1, _), (2, _), (3, _)]) C dX10_demandState__6 (by decide) rfl rfl ?_
    refine x_iload_n (pc2 := 9) C dX10_demandState__8 4 rfl rfl rfl ?_
    refine x_bipush (pc2 := 11) (v := 16) C dX10_demandState__9 rfl rfl ?_
    rcases Decidable.em (eX10_demandIndex Ω x3 (16 : Int32) = none) with qc_3 | qc_3
    · refine x_ret (rest := []) (st2 := []) (pc2 := 14) (cu2 := 3) (su2 := 18) (x_cS C kmX10_demandIndex kk_10_32 (XM_n qc_3 (tX10_demandIndex hok )) rfl rfl (Nat.le_of_ble_eq_true rfl) ⟨Nat.le_of_ble_eq_true rfl, Nat.le_of_ble_eq_true rfl⟩ ⟨Nat.le_of_ble_eq_true rfl, Nat.le_of_ble_eq_true rfl⟩ dX10_demandState__11) rfl rfl rfl rfl ?_
      refine x_aload (pc2 := 16) C dX10_demandState__14 0 rfl rfl ?_
      refine x_getI (pc2 := 19) (f := 13) C (by assumption) kf_10_124 dX10_demandState__16 rfl rfl rfl ?_
      refine x_if_ne (tgt := 26) (pc2 := 22) C dX10_demandState__19 (by decide) rfl (fun qc_4 => ?_) (fun qc_4 => ?_)
      · refine x_iconst (pc2 := 27) (v := 0) C dX10_demandState__26 rfl rfl ?_
        have qc_5 : ¬ eX10_demandState Ω (0 : Int32) = none := by rw [eX10_demandState, if_pos rfl]; exact nofun
        exact x_thr C (rest := []) (x_cS C kmX10_demandState kk_10_52 (XM_t qc_5 (tX10_demandState hok )) rfl rfl (Nat.le_of_ble_eq_true rfl) ⟨Nat.le_of_ble_eq_true rfl, Nat.le_of_ble_eq_true rfl⟩ ⟨Nat.le_of_ble_eq_true rfl, Nat.le_of_ble_eq_true rfl⟩ dX10_demandState__27) (Nat.le_of_ble_eq_true rfl) (Nat.le_of_ble_eq_true rfl) (by rw [ocv, eX10_demandState_, if_pos qc_1, if_pos qc_3, if_neg qc_4, if_neg qc_5] <;> rfl) rfl
      · refine x_iconst (pc2 := 23) (v := 1) C dX10_demandState__22 rfl rfl ?_
        refine x_goto (tgt := 27) C dX10_demandState__23 (by decide) ?_
        have qc_6 : eX10_demandState Ω (1 : Int32) = none := by rw [eX10_demandState, if_neg (by decide)]
        refine x_ret (rest := []) (st2 := []) (pc2 := 30) (cu2 := 4) (su2 := 24) (x_cS C kmX10_demandState kk_10_52 (XM_n qc_6 (tX10_demandState hok )) rfl rfl (Nat.le_of_ble_eq_true rfl) ⟨Nat.le_of_ble_eq_true rfl, Nat.le_of_ble_eq_true rfl⟩ ⟨Nat.le_of_ble_eq_true rfl, Nat.le_of_ble_eq_true rfl⟩ dX10_demandState__27) rfl rfl rfl rfl ?_
        refine x_aload (pc2 := 32) C dX10_demandState__30 0 rfl rfl ?_
        refine x_getR (f := 1) (k2 := 6) (pc2 := 35) C (by assumption) kf_10_253 dX10_demandState__32 rfl rfl rfl (rti_i rfl) rfl (fun qd_7 => ?_)
        exact x_areturn C dX10_demandState__35 rfl (Or.inr ⟨_, rfl⟩) (Nat.le_of_ble_eq_true rfl) (Nat.le_of_ble_eq_true rfl) (by rw [ocv, if_pos (show eX10_demandState_ Ω i x1 x2 x3 = none by rw [eX10_demandState_, if_pos qc_1, if_pos qc_3, if_pos qc_4] <;> rfl), rX10_demandState_, if_pos qc_1, if_pos qc_3, if_pos qc_4] <;> rfl) rfl
    · exact x_thr C (rest := []) (x_cS C kmX10_demandIndex kk_10_32 (XM_t qc_3 (tX10_demandIndex hok )) rfl rfl (Nat.le_of_ble_eq_true rfl) ⟨Nat.le_of_ble_eq_true rfl, Nat.le_of_ble_eq_true rfl⟩ ⟨Nat.le_of_ble_eq_true rfl, Nat.le_of_ble_eq_true rfl⟩ dX10_demandState__11) (Nat.le_of_ble_eq_true rfl) (Nat.le_of_ble_eq_true rfl) (by rw [ocv, eX10_demandState_, if_pos qc_1, if_neg qc_3, if_neg qc_3] <;> rfl) rfl
  · exact x_thr C (rest := []) (x_cV C (by assumption) (Nat.le_of_ble_eq_true rfl) kmX10_demandBlock rfl kk_10_120 (XM_t qc_1 (tX10_demandBlock hok (by assumption))) rfl rfl (Nat.le_of_ble_eq_true rfl) ⟨Nat.le_of_ble_eq_true rfl, Nat.le_of_ble_eq_true rfl⟩ ⟨Nat.le_of_ble_eq_true rfl, Nat.le_of_ble_eq_true rfl⟩ dX10_demandState__3) (Nat.le_of_ble_eq_true rfl) (Nat.le_of_ble_eq_true rfl) (by rw [ocv, eX10_demandState_, if_neg qc_1, if_neg qc_1] <;> rfl) rfl
theorem D_demandState_ {G : XG} (hok : XK G) {Ω : XO} {i : Nat} (h : dm G 10 i) {x1 x2 x3 : Int32} (he : eX10_demandState_ Ω i x1 x2 x3 = none) : dm G 6 (rX10_demandState_ Ω i x1 x2 x3) := by
  unfold eX10_demandState_ at he
  unfold rX10_demandState_
  (repeat' split at he) <;> first | exact absurd he (by assumption) | exact absurd he (by rw [eX10_demandState, if_pos rfl]; exact nofun) | skip
  all_goals
    (repeat' split) <;> first | exact dm_f hok 1 (D_demandBlock hok h (by assumption)) rfl rfl (rti_i rfl) | (exact absurd (by assumption) (by assumption))
