theorem ob_s {α β : Type} {o : Option α} {a : α} (h : o = some a) (f : α → Option β) : o.bind f = f a := by rw [h]; rfl
theorem ob_n {α β : Type} {o : Option α} (h : o = none) (f : α → Option β) : o.bind f = none := by rw [h]; rfl
theorem opt_em {α : Type} (o : Option α) : o = none ∨ ∃ r, o = some r := by
  rcases o with _ | r
  · exact Or.inl rfl
  · exact Or.inr ⟨r, rfl⟩
theorem opt_em2 {α β : Type} (o : Option (α ⊕ β)) : o = none ∨ (∃ v, o = some (.inl v)) ∨ ∃ q, o = some (.inr q) := by
  rcases o with _ | (v | q)
  · exact Or.inl rfl
  · exact Or.inr (Or.inl ⟨v, rfl⟩)
  · exact Or.inr (Or.inr ⟨q, rfl⟩)
def fX11_thrown (Ω : XO)  : Option (Int32) := (some (xI Ω 1160 0 0))
set_option maxRecDepth 20000 in
theorem tX11_thrown {G : XG} (hok : XK G)  {Ω : XO} (hd0 : dm G 11 0)   {r : Int32} (hf : fX11_thrown Ω = some r) : XM G yX11_thrown cX11_thrown 1 ((some FieldType.int)) (RM 0 0) [.ref (ad G 11 0)] Ω (.inl (some (.int (r)))) Ω := by
  refine x_start (lv := [(0, .ref (ad G 11 0))]) (own := RX11) hok (by decide +kernel) rfl (Nat.le_of_ble_eq_true rfl) rfl (fun B C => ?_)
  refine x_aload_n (pc2 := 1) C dX11_thrown_0 0 rfl rfl rfl ?_
  refine x_getI (pc2 := 4) (f := 1160) C (by assumption) kf_11_174 dX11_thrown_1 rfl rfl rfl ?_
  rw [fX11_thrown] at hf
  obtain rfl := (Option.some.inj hf).symm
  exact x_ireturn C dX11_thrown_4 rfl (Nat.le_of_ble_eq_true rfl) (Nat.le_of_ble_eq_true rfl) rfl rfl
def fX11_holds (Ω : XO) (x1 : Int32) : Option (Int32 × XO) := (wl (uI Ω 1160 0 0 x1) (fun Ω_1 => (wl ((if x1 ≤ 0 then (0 : Int32) else (1 : Int32))) (fun (j_2 : Int32) => (if j_2 = 0 ∨ j_2 = 1 then (some (j_2, Ω_1)) else none)))))
set_option maxRecDepth 20000 in
theorem tX11_holds {G : XG} (hok : XK G) {x1 : Int32} {Ω : XO} (hd0 : dm G 11 0)   {r : Int32 × XO} (hf : fX11_holds Ω x1 = some r) : XM G yX11_holds cX11_holds 2 ((some FieldType.boolean)) (RM 0 0) [.ref (ad G 11 0), .int x1] Ω (.inl (some (.int (r.1)))) r.2 := by
  refine x_start (lv := [(0, .ref (ad G 11 0)), (1, .int x1)]) (own := RX11) hok (by decide +kernel) rfl (Nat.le_of_ble_eq_true rfl) rfl (fun B C => ?_)
  refine x_aload_n (pc2 := 1) C dX11_holds_0 0 rfl rfl rfl ?_
  refine x_iload_n (pc2 := 2) C dX11_holds_1 1 rfl rfl rfl ?_
  refine x_putI (pc2 := 5) (f := 1160) C (by assumption) kf_11_174 dX11_holds_2 rfl rfl rfl rfl rfl ?_
  obtain ⟨Ω_1, hw_1⟩ : ∃ z, z = uI Ω 1160 0 0 x1 := ⟨_, rfl⟩
  refine x_om hw_1 ?_
  refine x_iload_n (pc2 := 6) C dX11_holds_5 1 rfl rfl rfl ?_
  obtain ⟨j_2, hq_2⟩ : ∃ z : Int32, z = (if x1 ≤ 0 then (0 : Int32) else (1 : Int32)) := ⟨_, rfl⟩
  suffices hj_2 : XW G B 2 14 [] [.int (j_2)] Ω_1 0 0 by
    refine x_if_le (tgt := 13) (pc2 := 9) C dX11_holds_6 (by decide) rfl (fun qc_3 => ?_) (fun qc_3 => ?_)
    · refine x_iconst (pc2 := 14) (v := 0) C dX11_holds_13 rfl rfl ?_
      rw [if_pos qc_3] at hq_2
      subst hq_2
      exact x_sub (lv2 := []) C [] rfl hj_2
    · refine x_iconst (pc2 := 10) (v := 1) C dX11_holds_9 rfl rfl ?_
      refine x_goto (tgt := 14) C dX11_holds_10 (by decide) ?_
      rw [if_neg qc_3] at hq_2
      subst hq_2
      exact x_sub (lv2 := []) C [] rfl hj_2
  rcases (Decidable.em (j_2 = 0 ∨ j_2 = 1)).symm with qg_4 | qg_4
  · exact absurd hf (by rw [fX11_holds, wl_eq hw_1, wl_eq hq_2, if_neg qg_4]; exact nofun)
  rw [fX11_holds, wl_eq hw_1, wl_eq hq_2, if_pos qg_4] at hf
  obtain rfl := (Option.some.inj hf).symm
  exact x_zreturn C dX11_holds_14 rfl qg_4 (Nat.le_of_ble_eq_true rfl) (Nat.le_of_ble_eq_true rfl) rfl rfl
def fX11_in (Ω : XO) (x1 : Int32) (x2 : Int32) (x3 : Int32) : Option (Int32) := (wl ((if x1 < x2 then (0 : Int32) else (if x3 < x1 then (0 : Int32) else (1 : Int32)))) (fun (j_1 : Int32) => (if j_1 = 0 ∨ j_1 = 1 then (some j_1) else none)))
set_option maxRecDepth 20000 in
theorem tX11_in {G : XG} (hok : XK G) {x1 : Int32} {x2 : Int32} {x3 : Int32} {Ω : XO} (hd0 : dm G 11 0)   {r : Int32} (hf : fX11_in Ω x1 x2 x3 = some r) : XM G yX11_in cX11_in 4 ((some FieldType.boolean)) (RM 0 0) [.ref (ad G 11 0), .int x1, .int x2, .int x3] Ω (.inl (some (.int (r)))) Ω := by
  refine x_start (lv := [(0, .ref (ad G 11 0)), (1, .int x1), (2, .int x2), (3, .int x3)]) (own := RX11) hok (by decide +kernel) rfl (Nat.le_of_ble_eq_true rfl) rfl (fun B C => ?_)
  refine x_iload_n (pc2 := 1) C dX11_in_0 1 rfl rfl rfl ?_
  refine x_iload_n (pc2 := 2) C dX11_in_1 2 rfl rfl rfl ?_
  obtain ⟨j_1, hq_1⟩ : ∃ z : Int32, z = (if x1 < x2 then (0 : Int32) else (if x3 < x1 then (0 : Int32) else (1 : Int32))) := ⟨_, rfl⟩
  suffices hj_1 : XW G B 4 15 [] [.int (j_1)] Ω 0 0 by
    refine x_icmp_lt (tgt := 14) (pc2 := 5) C dX11_in_2 (by decide) rfl (fun qc_2 => ?_) (fun qc_2 => ?_)
    · refine x_iconst (pc2 := 15) (v := 0) C dX11_in_14 rfl rfl ?_
      rw [if_pos qc_2] at hq_1
      subst hq_1
      exact x_sub (lv2 := []) C [] rfl hj_1
    · refine x_iload_n (pc2 := 6) C dX11_in_5 1 rfl rfl rfl ?_
      refine x_iload_n (pc2 := 7) C dX11_in_6 3 rfl rfl rfl ?_
      refine x_icmp_gt (tgt := 14) (pc2 := 10) C dX11_in_7 (by decide) rfl (fun qc_3 => ?_) (fun qc_3 => ?_)
      · refine x_iconst (pc2 := 15) (v := 0) C dX11_in_14 rfl rfl ?_
        rw [if_neg qc_2, if_pos qc_3] at hq_1
        subst hq_1
        exact x_sub (lv2 := []) C [] rfl hj_1
      · refine x_iconst (pc2 := 11) (v := 1) C dX11_in_10 rfl rfl ?_
        refine x_goto (tgt := 15) C dX11_in_11 (by decide) ?_
        rw [if_neg qc_2, if_neg qc_3] at hq_1
        subst hq_1
        exact x_sub (lv2 := []) C [] rfl hj_1
  rcases (Decidable.em (j_1 = 0 ∨ j_1 = 1)).symm with qg_4 | qg_4
  · exact absurd hf (by rw [fX11_in, wl_eq hq_1, if_neg qg_4]; exact nofun)
  rw [fX11_in, wl_eq hq_1, if_pos qg_4] at hf
  obtain rfl := (Option.some.inj hf).symm
  exact x_zreturn C dX11_in_15 rfl qg_4 (Nat.le_of_ble_eq_true rfl) (Nat.le_of_ble_eq_true rfl) rfl rfl
def fX11_isChain (Ω : XO) (x1 : Int32) : Option (Int32) := (fX11_in Ω x1 (0 : Int32) (1 : Int32)).bind (fun r_1 => (if r_1 = 0 ∨ r_1 = 1 then (some r_1) else none))
set_option maxRecDepth 20000 in
theorem tX11_isChain {G : XG} (hok : XK G) {x1 : Int32} {Ω : XO} (hd0 : dm G 11 0)   {r : Int32} (hf : fX11_isChain Ω x1 = some r) : XM G yX11_isChain cX11_isChain 2 ((some FieldType.boolean)) (RM 1 0) [.ref (ad G 11 0), .int x1] Ω (.inl (some (.int (r)))) Ω := by
  refine x_start (lv := [(0, .ref (ad G 11 0)), (1, .int x1)]) (own := RX11) hok (by decide +kernel) rfl (Nat.le_of_ble_eq_true rfl) rfl (fun B C => ?_)
  refine x_aload_n (pc2 := 1) C dX11_isChain_0 0 rfl rfl rfl ?_
  refine x_iload_n (pc2 := 2) C dX11_isChain_1 1 rfl rfl rfl ?_
  refine x_iconst (pc2 := 3) (v := 0) C dX11_isChain_2 rfl rfl ?_
  refine x_iconst (pc2 := 4) (v := 1) C dX11_isChain_3 rfl rfl ?_
  rcases opt_em (fX11_in Ω x1 (0 : Int32) (1 : Int32)) with hq_1 | ⟨r_1, hq_1⟩
  · exact absurd hf (by rw [fX11_isChain, ob_n hq_1]; exact nofun)
  refine x_ret (rest := []) (st2 := [_]) (pc2 := 7) (cu2 := 0) (su2 := 0) (x_cV C (by assumption) (Nat.le_of_ble_eq_true rfl) kmX11_in rfl kk_11_178 (tX11_in hok (by assumption)  hq_1) rfl rfl (Nat.le_of_ble_eq_true rfl) ⟨Nat.le_of_ble_eq_true rfl, Nat.le_of_ble_eq_true rfl⟩ ⟨Nat.le_of_ble_eq_true rfl, Nat.le_of_ble_eq_true rfl⟩ dX11_isChain_4) rfl rfl rfl rfl ?_
  rcases (Decidable.em (r_1 = 0 ∨ r_1 = 1)).symm with qg_2 | qg_2
  · exact absurd hf (by rw [fX11_isChain, ob_s hq_1, if_neg qg_2]; exact nofun)
  rw [fX11_isChain, ob_s hq_1, if_pos qg_2] at hf
  obtain rfl := (Option.some.inj hf).symm
  exact x_zreturn C dX11_isChain_7 rfl qg_2 (Nat.le_of_ble_eq_true rfl) (Nat.le_of_ble_eq_true rfl) rfl rfl
def fX11_isBlock (Ω : XO) (x1 : Int32) (x2 : Int32) : Option (Int32) := (fX11_isChain Ω x1).bind (fun r_1 => (((if r_1 = 0 then (some (0 : Int32)) else (if inB x1 2 then (fX11_in Ω x2 (0 : Int32) ((xI Ω 2109 0 x1.toNatClampNeg) - (1 : Int32))).bind (fun r_6 => (if r_6 = 0 then (some (0 : Int32)) else (some (1 : Int32)))) else none)) : Option (Int32))).bind (fun j_2 => (if j_2 = 0 ∨ j_2 = 1 then (some j_2) else none)))
set_option maxRecDepth 20000 in
theorem tX11_isBlock {G : XG} (hok : XK G) {x1 : Int32} {x2 : Int32} {Ω : XO} (hd0 : dm G 11 0)   {r : Int32} (hf : fX11_isBlock Ω x1 x2 = some r) : XM G yX11_isBlock cX11_isBlock 3 ((some FieldType.boolean)) (RM 2 0) [.ref (ad G 11 0), .int x1, .int x2] Ω (.inl (some (.int (r)))) Ω := by
  refine x_start (lv := [(0, .ref (ad G 11 0)), (1, .int x1), (2, .int x2)]) (own := RX11) hok (by decide +kernel) rfl (Nat.le_of_ble_eq_true rfl) rfl (fun B C => ?_)
  refine x_aload_n (pc2 := 1) C dX11_isBlock_0 0 rfl rfl rfl ?_
  refine x_iload_n (pc2 := 2) C dX11_isBlock_1 1 rfl rfl rfl ?_
  rcases opt_em (fX11_isChain Ω x1) with hq_1 | ⟨r_1, hq_1⟩
  · exact absurd hf (by rw [fX11_isBlock, ob_n hq_1]; exact nofun)
  refine x_ret (rest := []) (st2 := [_]) (pc2 := 5) (cu2 := 0) (su2 := 0) (x_cV C (by assumption) (Nat.le_of_ble_eq_true rfl) kmX11_isChain rfl kk_11_182 (tX11_isChain hok (by assumption)  hq_1) rfl rfl (Nat.le_of_ble_eq_true rfl) ⟨Nat.le_of_ble_eq_true rfl, Nat.le_of_ble_eq_true rfl⟩ ⟨Nat.le_of_ble_eq_true rfl, Nat.le_of_ble_eq_true rfl⟩ dX11_isBlock_2) rfl rfl rfl rfl ?_
  rcases opt_em ((if r_1 = 0 then (some (0 : Int32)) else (if inB x1 2 then (fX11_in Ω x2 (0 : Int32) ((xI Ω 2109 0 x1.toNatClampNeg) - (1 : Int32))).bind (fun r_6 => (if r_6 = 0 then (some (0 : Int32)) else (some (1 : Int32)))) else none)) : Option (Int32)) with hq_2 | ⟨j_2, hq_2⟩
  · exact absurd hf (by rw [fX11_isBlock, ob_s hq_1, ob_n hq_2]; exact nofun)
  suffices hj_2 : XW G B 3 30 [] [.int (j_2)] Ω 0 0 by
    refine x_if_eq (tgt := 29) (pc2 := 8) C dX11_isBlock_5 (by decide) rfl (fun qc_3 => ?_) (fun qc_3 => ?_)
    · refine x_iconst (pc2 := 30) (v := 0) C dX11_isBlock_29 rfl rfl ?_
      rw [if_pos qc_3] at hq_2
      obtain rfl := (Option.some.inj hq_2).symm
      exact x_sub (lv2 := []) C [] rfl hj_2
    · refine x_aload_n (pc2 := 9) C dX11_isBlock_8 0 rfl rfl rfl ?_
      refine x_iload_n (pc2 := 10) C dX11_isBlock_9 2 rfl rfl rfl ?_
      refine x_iconst (pc2 := 11) (v := 0) C dX11_isBlock_10 rfl rfl ?_
      refine x_aload_n (pc2 := 12) C dX11_isBlock_11 0 rfl rfl rfl ?_
      refine x_getR (f := 1109) (k2 := 2109) (pc2 := 15) C (by assumption) kf_11_34 dX11_isBlock_12 rfl rfl rfl (rti_i rfl) rfl (fun qd_4 => ?_)
      refine x_iload_n (pc2 := 16) C dX11_isBlock_15 1 rfl rfl rfl ?_
      rcases (Decidable.em (inB x1 2)).symm with qg_5 | qg_5
      · exact absurd hq_2 (by rw [if_neg qc_3, if_neg qg_5]; exact nofun)
      refine x_iald (pc2 := 17) C (by assumption) dX11_isBlock_16 rfl (inB_in qg_5) rfl ?_
      refine x_iconst (pc2 := 18) (v := 1) C dX11_isBlock_17 rfl rfl ?_
      refine x_isub (pc2 := 19) C dX11_isBlock_18 rfl ?_
      rcases opt_em (fX11_in Ω x2 (0 : Int32) ((xI Ω 2109 0 x1.toNatClampNeg) - (1 : Int32))) with hq_6 | ⟨r_6, hq_6⟩
      · exact absurd hq_2 (by rw [if_neg qc_3, if_pos qg_5, ob_n hq_6]; exact nofun)
      refine x_ret (rest := []) (st2 := [_]) (pc2 := 22) (cu2 := 0) (su2 := 0) (x_cV C (by assumption) (Nat.le_of_ble_eq_true rfl) kmX11_in rfl kk_11_178 (tX11_in hok (by assumption)  hq_6) rfl rfl (Nat.le_of_ble_eq_true rfl) ⟨Nat.le_of_ble_eq_true rfl, Nat.le_of_ble_eq_true rfl⟩ ⟨Nat.le_of_ble_eq_true rfl, Nat.le_of_ble_eq_true rfl⟩ dX11_isBlock_19) rfl rfl rfl rfl ?_
      refine x_if_eq (tgt := 29) (pc2 := 25) C dX11_isBlock_22 (by decide) rfl (fun qc_7 => ?_) (fun qc_7 => ?_)
      · refine x_iconst (pc2 := 30) (v := 0) C dX11_isBlock_29 rfl rfl ?_
        rw [if_neg qc_3, if_pos qg_5, ob_s hq_6, if_pos qc_7] at hq_2
        obtain rfl := (Option.some.inj hq_2).symm
        exact x_sub (lv2 := []) C [] rfl hj_2
      · refine x_iconst (pc2 := 26) (v := 1) C dX11_isBlock_25 rfl rfl ?_
        refine x_goto (tgt := 30) C dX11_isBlock_26 (by decide) ?_
        rw [if_neg qc_3, if_pos qg_5, ob_s hq_6, if_neg qc_7] at hq_2
        obtain rfl := (Option.some.inj hq_2).symm
        exact x_sub (lv2 := []) C [] rfl hj_2
  rcases (Decidable.em (j_2 = 0 ∨ j_2 = 1)).symm with qg_8 | qg_8
  · exact absurd hf (by rw [fX11_isBlock, ob_s hq_1, ob_s hq_2, if_neg qg_8]; exact nofun)
  rw [fX11_isBlock, ob_s hq_1, ob_s hq_2, if_pos qg_8] at hf
  obtain rfl := (Option.some.inj hf).symm
  exact x_zreturn C dX11_isBlock_30 rfl qg_8 (Nat.le_of_ble_eq_true rfl) (Nat.le_of_ble_eq_true rfl) rfl rfl
def fX11_isTx (Ω : XO) (x1 : Int32) (x2 : Int32) : Option (Int32) := (fX11_isChain Ω x1).bind (fun r_1 => (((if r_1 = 0 then (some (0 : Int32)) else (if inB x1 2 then (fX11_in Ω x2 (0 : Int32) ((xI Ω 2108 0 x1.toNatClampNeg) - (1 : Int32))).bind (fun r_6 => (if r_6 = 0 then (some (0 : Int32)) else (some (1 : Int32)))) else none)) : Option (Int32))).bind (fun j_2 => (if j_2 = 0 ∨ j_2 = 1 then (some j_2) else none)))
set_option maxRecDepth 20000 in
theorem tX11_isTx {G : XG} (hok : XK G) {x1 : Int32} {x2 : Int32} {Ω : XO} (hd0 : dm G 11 0)   {r : Int32} (hf : fX11_isTx Ω x1 x2 = some r) : XM G yX11_isTx cX11_isTx 3 ((some FieldType.boolean)) (RM 2 0) [.ref (ad G 11 0), .int x1, .int x2] Ω (.inl (some (.int (r)))) Ω := by
  refine x_start (lv := [(0, .ref (ad G 11 0)), (1, .int x1), (2, .int x2)]) (own := RX11) hok (by decide +kernel) rfl (Nat.le_of_ble_eq_true rfl) rfl (fun B C => ?_)
  refine x_aload_n (pc2 := 1) C dX11_isTx_0 0 rfl rfl rfl ?_
  refine x_iload_n (pc2 := 2) C dX11_isTx_1 1 rfl rfl rfl ?_
  rcases opt_em (fX11_isChain Ω x1) with hq_1 | ⟨r_1, hq_1⟩
  · exact absurd hf (by rw [fX11_isTx, ob_n hq_1]; exact nofun)
  refine x_ret (rest := []) (st2 := [_]) (pc2 := 5) (cu2 := 0) (su2 := 0) (x_cV C (by assumption) (Nat.le_of_ble_eq_true rfl) kmX11_isChain rfl kk_11_182 (tX11_isChain hok (by assumption)  hq_1) rfl rfl (Nat.le_of_ble_eq_true rfl) ⟨Nat.le_of_ble_eq_true rfl, Nat.le_of_ble_eq_true rfl⟩ ⟨Nat.le_of_ble_eq_true rfl, Nat.le_of_ble_eq_true rfl⟩ dX11_isTx_2) rfl rfl rfl rfl ?_
  rcases opt_em ((if r_1 = 0 then (some (0 : Int32)) else (if inB x1 2 then (fX11_in Ω x2 (0 : Int32) ((xI Ω 2108 0 x1.toNatClampNeg) - (1 : Int32))).bind (fun r_6 => (if r_6 = 0 then (some (0 : Int32)) else (some (1 : Int32)))) else none)) : Option (Int32)) with hq_2 | ⟨j_2, hq_2⟩
  · exact absurd hf (by rw [fX11_isTx, ob_s hq_1, ob_n hq_2]; exact nofun)
  suffices hj_2 : XW G B 3 30 [] [.int (j_2)] Ω 0 0 by
    refine x_if_eq (tgt := 29) (pc2 := 8) C dX11_isTx_5 (by decide) rfl (fun qc_3 => ?_) (fun qc_3 => ?_)
    · refine x_iconst (pc2 := 30) (v := 0) C dX11_isTx_29 rfl rfl ?_
      rw [if_pos qc_3] at hq_2
      obtain rfl := (Option.some.inj hq_2).symm
      exact x_sub (lv2 := []) C [] rfl hj_2
    · refine x_aload_n (pc2 := 9) C dX11_isTx_8 0 rfl rfl rfl ?_
      refine x_iload_n (pc2 := 10) C dX11_isTx_9 2 rfl rfl rfl ?_
      refine x_iconst (pc2 := 11) (v := 0) C dX11_isTx_10 rfl rfl ?_
      refine x_aload_n (pc2 := 12) C dX11_isTx_11 0 rfl rfl rfl ?_
      refine x_getR (f := 1108) (k2 := 2108) (pc2 := 15) C (by assumption) kf_11_31 dX11_isTx_12 rfl rfl rfl (rti_i rfl) rfl (fun qd_4 => ?_)
      refine x_iload_n (pc2 := 16) C dX11_isTx_15 1 rfl rfl rfl ?_
      rcases (Decidable.em (inB x1 2)).symm with qg_5 | qg_5
      · exact absurd hq_2 (by rw [if_neg qc_3, if_neg qg_5]; exact nofun)
      refine x_iald (pc2 := 17) C (by assumption) dX11_isTx_16 rfl (inB_in qg_5) rfl ?_
      refine x_iconst (pc2 := 18) (v := 1) C dX11_isTx_17 rfl rfl ?_
      refine x_isub (pc2 := 19) C dX11_isTx_18 rfl ?_
      rcases opt_em (fX11_in Ω x2 (0 : Int32) ((xI Ω 2108 0 x1.toNatClampNeg) - (1 : Int32))) with hq_6 | ⟨r_6, hq_6⟩
      · exact absurd hq_2 (by rw [if_neg qc_3, if_pos qg_5, ob_n hq_6]; exact nofun)
      refine x_ret (rest := []) (st2 := [_]) (pc2 := 22) (cu2 := 0) (su2 := 0) (x_cV C (by assumption) (Nat.le_of_ble_eq_true rfl) kmX11_in rfl kk_11_178 (tX11_in hok (by assumption)  hq_6) rfl rfl (Nat.le_of_ble_eq_true rfl) ⟨Nat.le_of_ble_eq_true rfl, Nat.le_of_ble_eq_true rfl⟩ ⟨Nat.le_of_ble_eq_true rfl, Nat.le_of_ble_eq_true rfl⟩ dX11_isTx_19) rfl rfl rfl rfl ?_
      refine x_if_eq (tgt := 29) (pc2 := 25) C dX11_isTx_22 (by decide) rfl (fun qc_7 => ?_) (fun qc_7 => ?_)
      · refine x_iconst (pc2 := 30) (v := 0) C dX11_isTx_29 rfl rfl ?_
        rw [if_neg qc_3, if_pos qg_5, ob_s hq_6, if_pos qc_7] at hq_2
        obtain rfl := (Option.some.inj hq_2).symm
        exact x_sub (lv2 := []) C [] rfl hj_2
      · refine x_iconst (pc2 := 26) (v := 1) C dX11_isTx_25 rfl rfl ?_
        refine x_goto (tgt := 30) C dX11_isTx_26 (by decide) ?_
        rw [if_neg qc_3, if_pos qg_5, ob_s hq_6, if_neg qc_7] at hq_2
        obtain rfl := (Option.some.inj hq_2).symm
        exact x_sub (lv2 := []) C [] rfl hj_2
  rcases (Decidable.em (j_2 = 0 ∨ j_2 = 1)).symm with qg_8 | qg_8
  · exact absurd hf (by rw [fX11_isTx, ob_s hq_1, ob_s hq_2, if_neg qg_8]; exact nofun)
  rw [fX11_isTx, ob_s hq_1, ob_s hq_2, if_pos qg_8] at hf
  obtain rfl := (Option.some.inj hf).symm
  exact x_zreturn C dX11_isTx_30 rfl qg_8 (Nat.le_of_ble_eq_true rfl) (Nat.le_of_ble_eq_true rfl) rfl rfl
def fX11_mix (Ω : XO) (x1 : Int64) (x2 : Int64) : Option (Int32) := (some ((((((31 : Int64) * x1) + ((17 : Int64) * x2)) + (7 : Int64)) - ((((31 : Int64) * x1) + ((17 : Int64) * x2)) + (7 : Int64)) / (1000003 : Int64) * (1000003 : Int64)).toInt32))
set_option maxRecDepth 20000 in
theorem tX11_mix {G : XG} (hok : XK G) {x1 : Int64} {x2 : Int64} {Ω : XO} (hd0 : dm G 11 0)   {r : Int32} (hf : fX11_mix Ω x1 x2 = some r) : XM G yX11_mix cX11_mix 5 ((some FieldType.int)) (RM 0 0) [.ref (ad G 11 0), .long x1, .long x2] Ω (.inl (some (.int (r)))) Ω := by
  refine x_start (lv := [(0, .ref (ad G 11 0)), (1, .long x1), (3, .long x2)]) (own := RX11) hok (by decide +kernel) rfl (Nat.le_of_ble_eq_true rfl) rfl (fun B C => ?_)
  refine x_ldc2 (pc2 := 3) C kc_11_186 dX11_mix_0 rfl ?_
  refine x_lload_n (pc2 := 4) C dX11_mix_3 1 rfl rfl rfl ?_
  refine x_lmul (pc2 := 5) C dX11_mix_4 rfl ?_
  refine x_ldc2 (pc2 := 8) C kc_11_188 dX11_mix_5 rfl ?_
  refine x_lload_n (pc2 := 9) C dX11_mix_8 2 rfl rfl rfl ?_
  refine x_lmul (pc2 := 10) C dX11_mix_9 rfl ?_
  refine x_ladd (pc2 := 11) C dX11_mix_10 rfl ?_
  refine x_ldc2 (pc2 := 14) C kc_11_190 dX11_mix_11 rfl ?_
  refine x_ladd (pc2 := 15) C dX11_mix_14 rfl ?_
  refine x_ldc2 (pc2 := 18) C kc_11_192 dX11_mix_15 rfl ?_
  refine x_lrem (pc2 := 19) C dX11_mix_18 (by decide +kernel) rfl ?_
  refine x_l2i (pc2 := 20) C dX11_mix_19 rfl ?_
  rw [fX11_mix] at hf
  obtain rfl := (Option.some.inj hf).symm
  exact x_ireturn C dX11_mix_20 rfl (Nat.le_of_ble_eq_true rfl) (Nat.le_of_ble_eq_true rfl) rfl rfl
def fX11_leafOf (Ω : XO) (x1 : Int32) (x2 : Int32) : Option (Int32) := (if inB ((x1 + (48 : Int32)) + ((4 : Int32) * x2)) 5760 then (if inB (((x1 + (48 : Int32)) + ((4 : Int32) * x2)) + (1 : Int32)) 5760 then (fX11_mix Ω ((xI Ω 2100 0 ((x1 + (48 : Int32)) + ((4 : Int32) * x2)).toNatClampNeg).toInt64) ((xI Ω 2100 0 (((x1 + (48 : Int32)) + ((4 : Int32) * x2)) + (1 : Int32)).toNatClampNeg).toInt64)).bind (fun r_5 => (if inB (((x1 + (48 : Int32)) + ((4 : Int32) * x2)) + (2 : Int32)) 5760 then (if inB (((x1 + (48 : Int32)) + ((4 : Int32) * x2)) + (3 : Int32)) 5760 then (fX11_mix Ω ((xI Ω 2100 0 (((x1 + (48 : Int32)) + ((4 : Int32) * x2)) + (2 : Int32)).toNatClampNeg).toInt64) ((xI Ω 2100 0 (((x1 + (48 : Int32)) + ((4 : Int32) * x2)) + (3 : Int32)).toNatClampNeg).toInt64)).bind (fun r_10 => (fX11_mix Ω r_5.toInt64 r_10.toInt64).bind (fun r_11 => (if inB (x1 + x2) 5760 then (if inB ((x1 + (16 : Int32)) + x2) 5760 then (if inB ((x1 + (32 : Int32)) + x2) 5760 then (fX11_mix Ω ((xI Ω 2100 0 ((x1 + (32 : Int32)) + x2).toNatClampNeg).toInt64) r_11.toInt64).bind (fun r_18 => (fX11_mix Ω ((xI Ω 2100 0 ((x1 + (16 : Int32)) + x2).toNatClampNeg).toInt64) r_18.toInt64).bind (fun r_19 => (fX11_mix Ω (((xI Ω 2100 0 (x1 + x2).toNatClampNeg) - (xI Ω 2100 0 (x1 + x2).toNatClampNeg) / (1000003 : Int32) * (1000003 : Int32)).toInt64) r_19.toInt64).bind (fun r_20 => (some r_20)))) else none) else none) else none))) else none) else none)) else none) else none)
set_option maxRecDepth 20000 in
theorem tX11_leafOf {G : XG} (hok : XK G) {x1 : Int32} {x2 : Int32} {Ω : XO} (hd0 : dm G 11 0)   {r : Int32} (hf : fX11_leafOf Ω x1 x2 = some r) : XM G yX11_leafOf cX11_leafOf 5 ((some FieldType.int)) (RM 1 0) [.ref (ad G 11 0), .int x1, .int x2] Ω (.inl (some (.int (r)))) Ω := by
  refine x_start (lv := [(0, .ref (ad G 11 0)), (1, .int x1), (2, .int x2)]) (own := RX11) hok (by decide +kernel) rfl (Nat.le_of_ble_eq_true rfl) rfl (fun B C => ?_)
  refine x_iload_n (pc2 := 1) C dX11_leafOf_0 1 rfl rfl rfl ?_
  refine x_bipush (pc2 := 3) (v := 48) C dX11_leafOf_1 rfl rfl ?_
  refine x_iadd (pc2 := 4) C dX11_leafOf_3 rfl ?_
  refine x_iconst (pc2 := 5) (v := 4) C dX11_leafOf_4 rfl rfl ?_
  refine x_iload_n (pc2 := 6) C dX11_leafOf_5 2 rfl rfl rfl ?_
  refine x_imul (pc2 := 7) C dX11_leafOf_6 rfl ?_
  refine x_iadd (pc2 := 8) C dX11_leafOf_7 rfl ?_
  refine x_istore_n (pc2 := 9) (lv2 := [(3, _), (0, _), (1, _), (2, _)]) C dX11_leafOf_8 rfl (by decide) rfl rfl ?_
  refine x_aload_n (pc2 := 10) C dX11_leafOf_9 1 rfl rfl rfl ?_
  refine x_aload_n (pc2 := 11) C dX11_leafOf_10 1 rfl rfl rfl ?_
  refine x_aload_n (pc2 := 12) C dX11_leafOf_11 1 rfl rfl rfl ?_
  refine x_getR (f := 1100) (k2 := 2100) (pc2 := 15) C (by assumption) kf_11_7 dX11_leafOf_12 rfl rfl rfl (rti_i rfl) rfl (fun qd_1 => ?_)
  refine x_iload_n (pc2 := 16) C dX11_leafOf_15 0 rfl rfl rfl ?_
  rcases (Decidable.em (inB ((x1 + (48 : Int32)) + ((4 : Int32) * x2)) 5760)).symm with qg_2 | qg_2
  · exact absurd hf (by rw [fX11_leafOf, if_neg qg_2]; exact nofun)
  refine x_iald (pc2 := 17) C (by assumption) dX11_leafOf_16 rfl (inB_in qg_2) rfl ?_
  refine x_i2l (pc2 := 18) C dX11_leafOf_17 rfl ?_
  refine x_aload_n (pc2 := 19) C dX11_leafOf_18 1 rfl rfl rfl ?_
  refine x_getR (f := 1100) (k2 := 2100) (pc2 := 22) C (by assumption) kf_11_7 dX11_leafOf_19 rfl rfl rfl (rti_i rfl) rfl (fun qd_3 => ?_)
  refine x_iload_n (pc2 := 23) C dX11_leafOf_22 0 rfl rfl rfl ?_
  refine x_iconst (pc2 := 24) (v := 1) C dX11_leafOf_23 rfl rfl ?_
  refine x_iadd (pc2 := 25) C dX11_leafOf_24 rfl ?_
  rcases (Decidable.em (inB (((x1 + (48 : Int32)) + ((4 : Int32) * x2)) + (1 : Int32)) 5760)).symm with qg_4 | qg_4
  · exact absurd hf (by rw [fX11_leafOf, if_pos qg_2, if_neg qg_4]; exact nofun)
  refine x_iald (pc2 := 26) C (by assumption) dX11_leafOf_25 rfl (inB_in qg_4) rfl ?_
  refine x_i2l (pc2 := 27) C dX11_leafOf_26 rfl ?_
  rcases opt_em (fX11_mix Ω ((xI Ω 2100 0 ((x1 + (48 : Int32)) + ((4 : Int32) * x2)).toNatClampNeg).toInt64) ((xI Ω 2100 0 (((x1 + (48 : Int32)) + ((4 : Int32) * x2)) + (1 : Int32)).toNatClampNeg).toInt64)) with hq_5 | ⟨r_5, hq_5⟩
  · exact absurd hf (by rw [fX11_leafOf, if_pos qg_2, if_pos qg_4, ob_n hq_5]; exact nofun)
  refine x_ret (rest := [_]) (st2 := [_, _]) (pc2 := 30) (cu2 := 0) (su2 := 0) (x_cV C (by assumption) (Nat.le_of_ble_eq_true rfl) kmX11_mix rfl kk_11_194 (tX11_mix hok (by assumption)  hq_5) rfl rfl (Nat.le_of_ble_eq_true rfl) ⟨Nat.le_of_ble_eq_true rfl, Nat.le_of_ble_eq_true rfl⟩ ⟨Nat.le_of_ble_eq_true rfl, Nat.le_of_ble_eq_true rfl⟩ dX11_leafOf_27) rfl rfl rfl rfl ?_
  refine x_i2l (pc2 := 31) C dX11_leafOf_30 rfl ?_
  refine x_aload_n (pc2 := 32) C dX11_leafOf_31 1 rfl rfl rfl ?_
  refine x_aload_n (pc2 := 33) C dX11_leafOf_32 1 rfl rfl rfl ?_
  refine x_getR (f := 1100) (k2 := 2100) (pc2 := 36) C (by assumption) kf_11_7 dX11_leafOf_33 rfl rfl rfl (rti_i rfl) rfl (fun qd_6 => ?_)
  refine x_iload_n (pc2 := 37) C dX11_leafOf_36 0 rfl rfl rfl ?_
  refine x_iconst (pc2 := 38) (v := 2) C dX11_leafOf_37 rfl rfl ?_
  refine x_iadd (pc2 := 39) C dX11_leafOf_38 rfl ?_
  rcases (Decidable.em (inB (((x1 + (48 : Int32)) + ((4 : Int32) * x2)) + (2 : Int32)) 5760)).symm with qg_7 | qg_7
  · exact absurd hf (by rw [fX11_leafOf, if_pos qg_2, if_pos qg_4, ob_s hq_5, if_neg qg_7]; exact nofun)
  refine x_iald (pc2 := 40) C (by assumption) dX11_leafOf_39 rfl (inB_in qg_7) rfl ?_
  refine x_i2l (pc2 := 41) C dX11_leafOf_40 rfl ?_
  refine x_aload_n (pc2 := 42) C dX11_leafOf_41 1 rfl rfl rfl ?_
  refine x_getR (f := 1100) (k2 := 2100) (pc2 := 45) C (by assumption) kf_11_7 dX11_leafOf_42 rfl rfl rfl (rti_i rfl) rfl (fun qd_8 => ?_)
  refine x_iload_n (pc2 := 46) C dX11_leafOf_45 0 rfl rfl rfl ?_
  refine x_iconst (pc2 := 47) (v := 3) C dX11_leafOf_46 rfl rfl ?_
  refine x_iadd (pc2 := 48) C dX11_leafOf_47 rfl ?_
  rcases (Decidable.em (inB (((x1 + (48 : Int32)) + ((4 : Int32) * x2)) + (3 : Int32)) 5760)).symm with qg_9 | qg_9
  · exact absurd hf (by rw [fX11_leafOf, if_pos qg_2, if_pos qg_4, ob_s hq_5, if_pos qg_7, if_neg qg_9]; exact nofun)
  refine x_iald (pc2 := 49) C (by assumption) dX11_leafOf_48 rfl (inB_in qg_9) rfl ?_
  refine x_i2l (pc2 := 50) C dX11_leafOf_49 rfl ?_
  rcases opt_em (fX11_mix Ω ((xI Ω 2100 0 (((x1 + (48 : Int32)) + ((4 : Int32) * x2)) + (2 : Int32)).toNatClampNeg).toInt64) ((xI Ω 2100 0 (((x1 + (48 : Int32)) + ((4 : Int32) * x2)) + (3 : Int32)).toNatClampNeg).toInt64)) with hq_10 | ⟨r_10, hq_10⟩
  · exact absurd hf (by rw [fX11_leafOf, if_pos qg_2, if_pos qg_4, ob_s hq_5, if_pos qg_7, if_pos qg_9, ob_n hq_10]; exact nofun)
  refine x_ret (rest := [_, _]) (st2 := [_, _, _]) (pc2 := 53) (cu2 := 0) (su2 := 0) (x_cV C (by assumption) (Nat.le_of_ble_eq_true rfl) kmX11_mix rfl kk_11_194 (tX11_mix hok (by assumption)  hq_10) rfl rfl (Nat.le_of_ble_eq_true rfl) ⟨Nat.le_of_ble_eq_true rfl, Nat.le_of_ble_eq_true rfl⟩ ⟨Nat.le_of_ble_eq_true rfl, Nat.le_of_ble_eq_true rfl⟩ dX11_leafOf_50) rfl rfl rfl rfl ?_
  refine x_i2l (pc2 := 54) C dX11_leafOf_53 rfl ?_
  rcases opt_em (fX11_mix Ω r_5.toInt64 r_10.toInt64) with hq_11 | ⟨r_11, hq_11⟩
  · exact absurd hf (by rw [fX11_leafOf, if_pos qg_2, if_pos qg_4, ob_s hq_5, if_pos qg_7, if_pos qg_9, ob_s hq_10, ob_n hq_11]; exact nofun)
  refine x_ret (rest := []) (st2 := [_]) (pc2 := 57) (cu2 := 0) (su2 := 0) (x_cV C (by assumption) (Nat.le_of_ble_eq_true rfl) kmX11_mix rfl kk_11_194 (tX11_mix hok (by assumption)  hq_11) rfl rfl (Nat.le_of_ble_eq_true rfl) ⟨Nat.le_of_ble_eq_true rfl, Nat.le_of_ble_eq_true rfl⟩ ⟨Nat.le_of_ble_eq_true rfl, Nat.le_of_ble_eq_true rfl⟩ dX11_leafOf_54) rfl rfl rfl rfl ?_
  refine x_istore (pc2 := 59) (lv2 := [(4, _), (3, _), (0, _), (1, _), (2, _)]) C dX11_leafOf_57 (by decide) rfl rfl ?_
  refine x_aload_n (pc2 := 60) C dX11_leafOf_59 2 rfl rfl rfl ?_
  refine x_aload_n (pc2 := 61) C dX11_leafOf_60 2 rfl rfl rfl ?_
  refine x_getR (f := 1100) (k2 := 2100) (pc2 := 64) C (by assumption) kf_11_7 dX11_leafOf_61 rfl rfl rfl (rti_i rfl) rfl (fun qd_12 => ?_)
  refine x_iload_n (pc2 := 65) C dX11_leafOf_64 3 rfl rfl rfl ?_
  refine x_iload_n (pc2 := 66) C dX11_leafOf_65 4 rfl rfl rfl ?_
  refine x_iadd (pc2 := 67) C dX11_leafOf_66 rfl ?_
  rcases (Decidable.em (inB (x1 + x2) 5760)).symm with qg_13 | qg_13
  · exact absurd hf (by rw [fX11_leafOf, if_pos qg_2, if_pos qg_4, ob_s hq_5, if_pos qg_7, if_pos qg_9, ob_s hq_10, ob_s hq_11, if_neg qg_13]; exact nofun)
  refine x_iald (pc2 := 68) C (by assumption) dX11_leafOf_67 rfl (inB_in qg_13) rfl ?_
  refine x_ldc (pc2 := 70) C kc_11_198 dX11_leafOf_68 rfl ?_
  refine x_irem (pc2 := 71) C dX11_leafOf_70 (by decide +kernel) rfl ?_
  refine x_i2l (pc2 := 72) C dX11_leafOf_71 rfl ?_
  refine x_aload_n (pc2 := 73) C dX11_leafOf_72 2 rfl rfl rfl ?_
  refine x_aload_n (pc2 := 74) C dX11_leafOf_73 2 rfl rfl rfl ?_
  refine x_getR (f := 1100) (k2 := 2100) (pc2 := 77) C (by assumption) kf_11_7 dX11_leafOf_74 rfl rfl rfl (rti_i rfl) rfl (fun qd_14 => ?_)
  refine x_iload_n (pc2 := 78) C dX11_leafOf_77 3 rfl rfl rfl ?_
  refine x_bipush (pc2 := 80) (v := 16) C dX11_leafOf_78 rfl rfl ?_
  refine x_iadd (pc2 := 81) C dX11_leafOf_80 rfl ?_
  refine x_iload_n (pc2 := 82) C dX11_leafOf_81 4 rfl rfl rfl ?_
  refine x_iadd (pc2 := 83) C dX11_leafOf_82 rfl ?_
  rcases (Decidable.em (inB ((x1 + (16 : Int32)) + x2) 5760)).symm with qg_15 | qg_15
  · exact absurd hf (by rw [fX11_leafOf, if_pos qg_2, if_pos qg_4, ob_s hq_5, if_pos qg_7, if_pos qg_9, ob_s hq_10, ob_s hq_11, if_pos qg_13, if_neg qg_15]; exact nofun)
  refine x_iald (pc2 := 84) C (by assumption) dX11_leafOf_83 rfl (inB_in qg_15) rfl ?_
  refine x_i2l (pc2 := 85) C dX11_leafOf_84 rfl ?_
  refine x_aload_n (pc2 := 86) C dX11_leafOf_85 2 rfl rfl rfl ?_
  refine x_aload_n (pc2 := 87) C dX11_leafOf_86 2 rfl rfl rfl ?_
  refine x_getR (f := 1100) (k2 := 2100) (pc2 := 90) C (by assumption) kf_11_7 dX11_leafOf_87 rfl rfl rfl (rti_i rfl) rfl (fun qd_16 => ?_)
  refine x_iload_n (pc2 := 91) C dX11_leafOf_90 3 rfl rfl rfl ?_
  refine x_bipush (pc2 := 93) (v := 32) C dX11_leafOf_91 rfl rfl ?_
  refine x_iadd (pc2 := 94) C dX11_leafOf_93 rfl ?_
  refine x_iload_n (pc2 := 95) C dX11_leafOf_94 4 rfl rfl rfl ?_
  refine x_iadd (pc2 := 96) C dX11_leafOf_95 rfl ?_
  rcases (Decidable.em (inB ((x1 + (32 : Int32)) + x2) 5760)).symm with qg_17 | qg_17
  · exact absurd hf (by rw [fX11_leafOf, if_pos qg_2, if_pos qg_4, ob_s hq_5, if_pos qg_7, if_pos qg_9, ob_s hq_10, ob_s hq_11, if_pos qg_13, if_pos qg_15, if_neg qg_17]; exact nofun)
  refine x_iald (pc2 := 97) C (by assumption) dX11_leafOf_96 rfl (inB_in qg_17) rfl ?_
  refine x_i2l (pc2 := 98) C dX11_leafOf_97 rfl ?_
  refine x_iload (pc2 := 100) C dX11_leafOf_98 0 rfl rfl ?_
  refine x_i2l (pc2 := 101) C dX11_leafOf_100 rfl ?_
  rcases opt_em (fX11_mix Ω ((xI Ω 2100 0 ((x1 + (32 : Int32)) + x2).toNatClampNeg).toInt64) r_11.toInt64) with hq_18 | ⟨r_18, hq_18⟩
  · exact absurd hf (by rw [fX11_leafOf, if_pos qg_2, if_pos qg_4, ob_s hq_5, if_pos qg_7, if_pos qg_9, ob_s hq_10, ob_s hq_11, if_pos qg_13, if_pos qg_15, if_pos qg_17, ob_n hq_18]; exact nofun)
  refine x_ret (rest := [_, _, _, _]) (st2 := [_, _, _, _, _]) (pc2 := 104) (cu2 := 0) (su2 := 0) (x_cV C (by assumption) (Nat.le_of_ble_eq_true rfl) kmX11_mix rfl kk_11_194 (tX11_mix hok (by assumption)  hq_18) rfl rfl (Nat.le_of_ble_eq_true rfl) ⟨Nat.le_of_ble_eq_true rfl, Nat.le_of_ble_eq_true rfl⟩ ⟨Nat.le_of_ble_eq_true rfl, Nat.le_of_ble_eq_true rfl⟩ dX11_leafOf_101) rfl rfl rfl rfl ?_
  refine x_i2l (pc2 := 105) C dX11_leafOf_104 rfl ?_
  rcases opt_em (fX11_mix Ω ((xI Ω 2100 0 ((x1 + (16 : Int32)) + x2).toNatClampNeg).toInt64) r_18.toInt64) with hq_19 | ⟨r_19, hq_19⟩
  · exact absurd hf (by rw [fX11_leafOf, if_pos qg_2, if_pos qg_4, ob_s hq_5, if_pos qg_7, if_pos qg_9, ob_s hq_10, ob_s hq_11, if_pos qg_13, if_pos qg_15, if_pos qg_17, ob_s hq_18, ob_n hq_19]; exact nofun)
  refine x_ret (rest := [_, _]) (st2 := [_, _, _]) (pc2 := 108) (cu2 := 0) (su2 := 0) (x_cV C (by assumption) (Nat.le_of_ble_eq_true rfl) kmX11_mix rfl kk_11_194 (tX11_mix hok (by assumption)  hq_19) rfl rfl (Nat.le_of_ble_eq_true rfl) ⟨Nat.le_of_ble_eq_true rfl, Nat.le_of_ble_eq_true rfl⟩ ⟨Nat.le_of_ble_eq_true rfl, Nat.le_of_ble_eq_true rfl⟩ dX11_leafOf_105) rfl rfl rfl rfl ?_
  refine x_i2l (pc2 := 109) C dX11_leafOf_108 rfl ?_
  rcases opt_em (fX11_mix Ω (((xI Ω 2100 0 (x1 + x2).toNatClampNeg) - (xI Ω 2100 0 (x1 + x2).toNatClampNeg) / (1000003 : Int32) * (1000003 : Int32)).toInt64) r_19.toInt64) with hq_20 | ⟨r_20, hq_20⟩
  · exact absurd hf (by rw [fX11_leafOf, if_pos qg_2, if_pos qg_4, ob_s hq_5, if_pos qg_7, if_pos qg_9, ob_s hq_10, ob_s hq_11, if_pos qg_13, if_pos qg_15, if_pos qg_17, ob_s hq_18, ob_s hq_19, ob_n hq_20]; exact nofun)
  refine x_ret (rest := []) (st2 := [_]) (pc2 := 112) (cu2 := 0) (su2 := 0) (x_cV C (by assumption) (Nat.le_of_ble_eq_true rfl) kmX11_mix rfl kk_11_194 (tX11_mix hok (by assumption)  hq_20) rfl rfl (Nat.le_of_ble_eq_true rfl) ⟨Nat.le_of_ble_eq_true rfl, Nat.le_of_ble_eq_true rfl⟩ ⟨Nat.le_of_ble_eq_true rfl, Nat.le_of_ble_eq_true rfl⟩ dX11_leafOf_109) rfl rfl rfl rfl ?_
  rw [fX11_leafOf, if_pos qg_2, if_pos qg_4, ob_s hq_5, if_pos qg_7, if_pos qg_9, ob_s hq_10, ob_s hq_11, if_pos qg_13, if_pos qg_15, if_pos qg_17, ob_s hq_18, ob_s hq_19, ob_s hq_20] at hf
  obtain rfl := (Option.some.inj hf).symm
  exact x_ireturn C dX11_leafOf_112 rfl (Nat.le_of_ble_eq_true rfl) (Nat.le_of_ble_eq_true rfl) rfl rfl
def fX11_fold_l9 (y2 : Int32) (y1 : Int32) : Nat → Int32 → XO → Option (Int32 × XO)
  | 0, _, _ => none
  | n + 1, y3, Ω => (if ((8 : Int32) >>> (y2 &&& 31)) ≤ y3 then (some (y3, Ω)) else (if inB ((2 : Int32) * y3) 16 then (if inB (((2 : Int32) * y3) + (1 : Int32)) 16 then (fX11_mix Ω ((xI Ω 2159 0 ((2 : Int32) * y3).toNatClampNeg).toInt64) ((xI Ω 2159 0 (((2 : Int32) * y3) + (1 : Int32)).toNatClampNeg).toInt64)).bind (fun r_7 => (if inB y3 16 then (wl (uI Ω 2159 0 y3.toNatClampNeg r_7) (fun Ω_9 => fX11_fold_l9 y2 y1 n (y3 + 1) Ω_9)) else none)) else none) else none))
set_option maxRecDepth 20000 in
theorem lX11_fold_l9 {G : XG} (hok : XK G) {B : XB} {y2 : Int32} {y1 : Int32}  (hf0 : dm G 11 0)   {T : Option Value ⊕ String} {Ω9 : XO} (C : XC G B cX11_fold RX11 (RM 1 0) 4 none T Ω9) : ∀ (n : Nat) (y3 : Int32) (Ω : XO) {r : (Int32 × XO)}, fX11_fold_l9 y2 y1 n y3 Ω = some r → (∀ q, r = q → (XW G B 4 53 [(2, .int (y2)), (0, .ref (ad G 11 (0))), (1, .int (y1))] [] q.2 0 0)) → XW G B 4 9 [(3, .int (y3)), (2, .int (y2)), (0, .ref (ad G 11 (0))), (1, .int (y1))] [] Ω 0 0 := by
  intro n
  induction n with
  | zero => intro y3 Ω r hf; exact absurd hf (by rw [fX11_fold_l9]; exact nofun)
  | succ n ih =>
    intro y3 Ω r hf hk
    refine x_iload_n (pc2 := 10) C dX11_fold_9 0 rfl rfl rfl ?_
    refine x_bipush (pc2 := 12) (v := 8) C dX11_fold_10 rfl rfl ?_
    refine x_iload_n (pc2 := 13) C dX11_fold_12 1 rfl rfl rfl ?_
    refine x_ishr (pc2 := 14) C dX11_fold_13 rfl ?_
    refine x_icmp_ge (tgt := 53) (pc2 := 17) C dX11_fold_14 (by decide) rfl (fun qc_1 => ?_) (fun qc_1 => ?_)
    · rw [fX11_fold_l9, if_pos qc_1] at hf
      exact x_sub (lv2 := [(2, _), (0, _), (1, _)]) C [1, 2, 3] rfl (hk _ (Option.some.inj hf).symm)
    · refine x_aload_n (pc2 := 18) C dX11_fold_17 2 rfl rfl rfl ?_
      refine x_getR (f := 1159) (k2 := 2159) (pc2 := 21) C (by assumption) kf_11_167 dX11_fold_18 rfl rfl rfl (rti_i rfl) rfl (fun qd_2 => ?_)
      refine x_iload_n (pc2 := 22) C dX11_fold_21 0 rfl rfl rfl ?_
      refine x_aload_n (pc2 := 23) C dX11_fold_22 2 rfl rfl rfl ?_
      refine x_aload_n (pc2 := 24) C dX11_fold_23 2 rfl rfl rfl ?_
      refine x_getR (f := 1159) (k2 := 2159) (pc2 := 27) C (by assumption) kf_11_167 dX11_fold_24 rfl rfl rfl (rti_i rfl) rfl (fun qd_3 => ?_)
      refine x_iconst (pc2 := 28) (v := 2) C dX11_fold_27 rfl rfl ?_
      refine x_iload_n (pc2 := 29) C dX11_fold_28 0 rfl rfl rfl ?_
      refine x_imul (pc2 := 30) C dX11_fold_29 rfl ?_
      rcases (Decidable.em (inB ((2 : Int32) * y3) 16)).symm with qg_4 | qg_4
      · exact absurd hf (by rw [fX11_fold_l9, if_neg qc_1, if_neg qg_4]; exact nofun)
      refine x_iald (pc2 := 31) C (by assumption) dX11_fold_30 rfl (inB_in qg_4) rfl ?_
      refine x_i2l (pc2 := 32) C dX11_fold_31 rfl ?_
      refine x_aload_n (pc2 := 33) C dX11_fold_32 2 rfl rfl rfl ?_
      refine x_getR (f := 1159) (k2 := 2159) (pc2 := 36) C (by assumption) kf_11_167 dX11_fold_33 rfl rfl rfl (rti_i rfl) rfl (fun qd_5 => ?_)
      refine x_iconst (pc2 := 37) (v := 2) C dX11_fold_36 rfl rfl ?_
      refine x_iload_n (pc2 := 38) C dX11_fold_37 0 rfl rfl rfl ?_
      refine x_imul (pc2 := 39) C dX11_fold_38 rfl ?_
      refine x_iconst (pc2 := 40) (v := 1) C dX11_fold_39 rfl rfl ?_
      refine x_iadd (pc2 := 41) C dX11_fold_40 rfl ?_
      rcases (Decidable.em (inB (((2 : Int32) * y3) + (1 : Int32)) 16)).symm with qg_6 | qg_6
      · exact absurd hf (by rw [fX11_fold_l9, if_neg qc_1, if_pos qg_4, if_neg qg_6]; exact nofun)
      refine x_iald (pc2 := 42) C (by assumption) dX11_fold_41 rfl (inB_in qg_6) rfl ?_
      refine x_i2l (pc2 := 43) C dX11_fold_42 rfl ?_
      rcases opt_em (fX11_mix Ω ((xI Ω 2159 0 ((2 : Int32) * y3).toNatClampNeg).toInt64) ((xI Ω 2159 0 (((2 : Int32) * y3) + (1 : Int32)).toNatClampNeg).toInt64)) with hq_7 | ⟨r_7, hq_7⟩
      · exact absurd hf (by rw [fX11_fold_l9, if_neg qc_1, if_pos qg_4, if_pos qg_6, ob_n hq_7]; exact nofun)
      refine x_ret (rest := [_, _]) (st2 := [_, _, _]) (pc2 := 46) (cu2 := 0) (su2 := 0) (x_cV C (by assumption) (Nat.le_of_ble_eq_true rfl) kmX11_mix rfl kk_11_194 (tX11_mix hok (by assumption)  hq_7) rfl rfl (Nat.le_of_ble_eq_true rfl) ⟨Nat.le_of_ble_eq_true rfl, Nat.le_of_ble_eq_true rfl⟩ ⟨Nat.le_of_ble_eq_true rfl, Nat.le_of_ble_eq_true rfl⟩ dX11_fold_43) rfl rfl rfl rfl ?_
      rcases (Decidable.em (inB y3 16)).symm with qg_8 | qg_8
      · exact absurd hf (by rw [fX11_fold_l9, if_neg qc_1, if_pos qg_4, if_pos qg_6, ob_s hq_7, if_neg qg_8]; exact nofun)
      refine x_iast (pc2 := 47) C (by assumption) dX11_fold_46 rfl (inB_in qg_8) rfl ?_
      obtain ⟨Ω_9, hw_9⟩ : ∃ z, z = uI Ω 2159 0 y3.toNatClampNeg r_7 := ⟨_, rfl⟩
      refine x_om hw_9 ?_
      refine x_iinc (pc2 := 50) (v := y3 + 1) (lv2 := [(3, _), (2, _), (0, _), (1, _)]) C dX11_fold_47 0 rfl rfl (by decide) rfl rfl ?_
      refine x_goto (tgt := 9) C dX11_fold_50 (by decide) ?_
      exact x_sub (lv2 := [(3, _), (2, _), (0, _), (1, _)]) C [0, 1, 2, 3] rfl (ih (y3 + 1) Ω_9 (by rw [fX11_fold_l9, if_neg qc_1, if_pos qg_4, if_pos qg_6, ob_s hq_7, if_pos qg_8, wl_eq hw_9] at hf; exact hf) hk)
def fX11_fold_l2 (y1 : Int32) : Nat → Int32 → XO → Option (Int32 × XO)
  | 0, _, _ => none
  | n + 1, y2, Ω => (if y1 ≤ y2 then (some (y2, Ω)) else (fX11_fold_l9 y2 y1 (((8 : Int32) >>> (y2 &&& 31)).toNatClampNeg + 1) (0 : Int32) Ω).bind (fun q_2 => fX11_fold_l2 y1 n (y2 + 1) q_2.2))
set_option maxRecDepth 20000 in
theorem lX11_fold_l2 {G : XG} (hok : XK G) {B : XB} {y1 : Int32}  (hf0 : dm G 11 0)   {T : Option Value ⊕ String} {Ω9 : XO} (C : XC G B cX11_fold RX11 (RM 1 0) 4 none T Ω9) : ∀ (n : Nat) (y2 : Int32) (Ω : XO) {r : (Int32 × XO)}, fX11_fold_l2 y1 n y2 Ω = some r → (∀ q, r = q → (XW G B 4 59 [] [] q.2 0 0)) → XW G B 4 2 [(2, .int (y2)), (0, .ref (ad G 11 (0))), (1, .int (y1))] [] Ω 0 0 := by
  intro n
  induction n with
  | zero => intro y2 Ω r hf; exact absurd hf (by rw [fX11_fold_l2]; exact nofun)
  | succ n ih =>
    intro y2 Ω r hf hk
    refine x_iload_n (pc2 := 3) C dX11_fold_2 0 rfl rfl rfl ?_
    refine x_iload_n (pc2 := 4) C dX11_fold_3 2 rfl rfl rfl ?_
    refine x_icmp_ge (tgt := 59) (pc2 := 7) C dX11_fold_4 (by decide) rfl (fun qc_1 => ?_) (fun qc_1 => ?_)
    · rw [fX11_fold_l2, if_pos qc_1] at hf
      exact x_sub (lv2 := []) C [] rfl (hk _ (Option.some.inj hf).symm)
    · refine x_iconst (pc2 := 8) (v := 0) C dX11_fold_7 rfl rfl ?_
      refine x_istore_n (pc2 := 9) (lv2 := [(3, _), (2, _), (0, _), (1, _)]) C dX11_fold_8 rfl (by decide) rfl rfl ?_
      rcases opt_em (fX11_fold_l9 y2 y1 (((8 : Int32) >>> (y2 &&& 31)).toNatClampNeg + 1) (0 : Int32) Ω) with hq_2 | ⟨q_2, hq_2⟩
      · exact absurd hf (by rw [fX11_fold_l2, if_neg qc_1, ob_n hq_2]; exact nofun)
      refine x_sub (lv2 := [(3, _), (2, _), (0, _), (1, _)]) C [0, 1, 2, 3] rfl (lX11_fold_l9 hok (by assumption) C (((8 : Int32) >>> (y2 &&& 31)).toNatClampNeg + 1) (0 : Int32) Ω hq_2 (fun q9 h9 => ?_))
      cases h9
      refine x_iinc (pc2 := 56) (v := y2 + 1) (lv2 := [(2, _), (0, _), (1, _)]) C dX11_fold_53 0 rfl rfl (by decide) rfl rfl ?_
      refine x_goto (tgt := 2) C dX11_fold_56 (by decide) ?_
      exact x_sub (lv2 := [(2, _), (0, _), (1, _)]) C [0, 1, 2] rfl (ih (y2 + 1) q_2.2 (by rw [fX11_fold_l2, if_neg qc_1, ob_s hq_2] at hf; exact hf) hk)
def fX11_fold (Ω : XO) (x1 : Int32) : Option (XO) := (fX11_fold_l2 x1 (x1.toNatClampNeg + 1) (0 : Int32) Ω).bind (fun q_1 => (some q_1.2))
set_option maxRecDepth 20000 in
theorem tX11_fold {G : XG} (hok : XK G) {x1 : Int32} {Ω : XO} (hd0 : dm G 11 0)   {r : XO} (hf : fX11_fold Ω x1 = some r) : XM G yX11_fold cX11_fold 4 none (RM 1 0) [.ref (ad G 11 0), .int x1] Ω (.inl none) (r) := by
  refine x_start (lv := [(0, .ref (ad G 11 0)), (1, .int x1)]) (own := RX11) hok (by decide +kernel) rfl (Nat.le_of_ble_eq_true rfl) rfl (fun B C => ?_)
  refine x_iconst (pc2 := 1) (v := 0) C dX11_fold_0 rfl rfl ?_
  refine x_istore_n (pc2 := 2) (lv2 := [(2, _), (0, _), (1, _)]) C dX11_fold_1 rfl (by decide) rfl rfl ?_
  rcases opt_em (fX11_fold_l2 x1 (x1.toNatClampNeg + 1) (0 : Int32) Ω) with hq_1 | ⟨q_1, hq_1⟩
  · exact absurd hf (by rw [fX11_fold, ob_n hq_1]; exact nofun)
  refine x_sub (lv2 := [(2, _), (0, _), (1, _)]) C [0, 1, 2] rfl (lX11_fold_l2 hok (by assumption) C (x1.toNatClampNeg + 1) (0 : Int32) Ω hq_1 (fun q9 h9 => ?_))
  cases h9
  rw [fX11_fold, ob_s hq_1] at hf
  obtain rfl := (Option.some.inj hf).symm
  exact x_vreturn C dX11_fold_59 rfl (Nat.le_of_ble_eq_true rfl) (Nat.le_of_ble_eq_true rfl) rfl rfl
def fX11_most (Ω : XO) (x1 : Int32) : Option (Int32) := (wl ((if x1 = 0 then (9999 : Int32) else (if x1 = (9 : Int32) then (3 : Int32) else (if x1 = (10 : Int32) then (3 : Int32) else (if x1 = (11 : Int32) then (20 : Int32) else (if x1 = (12 : Int32) then (20 : Int32) else (if x1 = (17 : Int32) then (15 : Int32) else (if x1 = (18 : Int32) then (15 : Int32) else (if x1 = (21 : Int32) then (7 : Int32) else (0 : Int32)))))))))) (fun (j_1 : Int32) => (some j_1)))
set_option maxRecDepth 20000 in
theorem tX11_most {G : XG} (hok : XK G) {x1 : Int32} {Ω : XO} (hd0 : dm G 11 0)   {r : Int32} (hf : fX11_most Ω x1 = some r) : XM G yX11_most cX11_most 2 ((some FieldType.int)) (RM 0 0) [.ref (ad G 11 0), .int x1] Ω (.inl (some (.int (r)))) Ω := by
  refine x_start (lv := [(0, .ref (ad G 11 0)), (1, .int x1)]) (own := RX11) hok (by decide +kernel) rfl (Nat.le_of_ble_eq_true rfl) rfl (fun B C => ?_)
  refine x_iload_n (pc2 := 1) C dX11_most_0 1 rfl rfl rfl ?_
  obtain ⟨j_1, hq_1⟩ : ∃ z : Int32, z = (if x1 = 0 then (9999 : Int32) else (if x1 = (9 : Int32) then (3 : Int32) else (if x1 = (10 : Int32) then (3 : Int32) else (if x1 = (11 : Int32) then (20 : Int32) else (if x1 = (12 : Int32) then (20 : Int32) else (if x1 = (17 : Int32) then (15 : Int32) else (if x1 = (18 : Int32) then (15 : Int32) else (if x1 = (21 : Int32) then (7 : Int32) else (0 : Int32))))))))) := ⟨_, rfl⟩
  suffices hj_1 : XW G B 2 72 [] [.int (j_1)] Ω 0 0 by
    refine x_if_ne (tgt := 10) (pc2 := 4) C dX11_most_1 (by decide) rfl (fun qc_2 => ?_) (fun qc_2 => ?_)
    · refine x_iload_n (pc2 := 11) C dX11_most_10 1 rfl rfl rfl ?_
      refine x_bipush (pc2 := 13) (v := 9) C dX11_most_11 rfl rfl ?_
      refine x_icmp_eq (tgt := 22) (pc2 := 16) C dX11_most_13 (by decide) rfl (fun qc_3 => ?_) (fun qc_3 => ?_)
      · refine x_iconst (pc2 := 23) (v := 3) C dX11_most_22 rfl rfl ?_
        refine x_goto (tgt := 72) C dX11_most_23 (by decide) ?_
        rw [if_neg qc_2, if_pos qc_3] at hq_1
        subst hq_1
        exact x_sub (lv2 := []) C [] rfl hj_1
      · refine x_iload_n (pc2 := 17) C dX11_most_16 1 rfl rfl rfl ?_
        refine x_bipush (pc2 := 19) (v := 10) C dX11_most_17 rfl rfl ?_
        refine x_icmp_ne (tgt := 26) (pc2 := 22) C dX11_most_19 (by decide) rfl (fun qc_4 => ?_) (fun qc_4 => ?_)
        · refine x_iload_n (pc2 := 27) C dX11_most_26 1 rfl rfl rfl ?_
          refine x_bipush (pc2 := 29) (v := 11) C dX11_most_27 rfl rfl ?_
          refine x_icmp_eq (tgt := 38) (pc2 := 32) C dX11_most_29 (by decide) rfl (fun qc_5 => ?_) (fun qc_5 => ?_)
          · refine x_bipush (pc2 := 40) (v := 20) C dX11_most_38 rfl rfl ?_
            refine x_goto (tgt := 72) C dX11_most_40 (by decide) ?_
            rw [if_neg qc_2, if_neg qc_3, if_neg qc_4, if_pos qc_5] at hq_1
            subst hq_1
            exact x_sub (lv2 := []) C [] rfl hj_1
          · refine x_iload_n (pc2 := 33) C dX11_most_32 1 rfl rfl rfl ?_
            refine x_bipush (pc2 := 35) (v := 12) C dX11_most_33 rfl rfl ?_
            refine x_icmp_ne (tgt := 43) (pc2 := 38) C dX11_most_35 (by decide) rfl (fun qc_6 => ?_) (fun qc_6 => ?_)
            · refine x_iload_n (pc2 := 44) C dX11_most_43 1 rfl rfl rfl ?_
              refine x_bipush (pc2 := 46) (v := 17) C dX11_most_44 rfl rfl ?_
              refine x_icmp_eq (tgt := 55) (pc2 := 49) C dX11_most_46 (by decide) rfl (fun qc_7 => ?_) (fun qc_7 => ?_)
              · refine x_bipush (pc2 := 57) (v := 15) C dX11_most_55 rfl rfl ?_
                refine x_goto (tgt := 72) C dX11_most_57 (by decide) ?_
                rw [if_neg qc_2, if_neg qc_3, if_neg qc_4, if_neg qc_5, if_neg qc_6, if_pos qc_7] at hq_1
                subst hq_1
                exact x_sub (lv2 := []) C [] rfl hj_1
              · refine x_iload_n (pc2 := 50) C dX11_most_49 1 rfl rfl rfl ?_
                refine x_bipush (pc2 := 52) (v := 18) C dX11_most_50 rfl rfl ?_
                refine x_icmp_ne (tgt := 60) (pc2 := 55) C dX11_most_52 (by decide) rfl (fun qc_8 => ?_) (fun qc_8 => ?_)
                · refine x_iload_n (pc2 := 61) C dX11_most_60 1 rfl rfl rfl ?_
                  refine x_bipush (pc2 := 63) (v := 21) C dX11_most_61 rfl rfl ?_
                  refine x_icmp_ne (tgt := 71) (pc2 := 66) C dX11_most_63 (by decide) rfl (fun qc_9 => ?_) (fun qc_9 => ?_)
                  · refine x_iconst (pc2 := 72) (v := 0) C dX11_most_71 rfl rfl ?_
                    rw [if_neg qc_2, if_neg qc_3, if_neg qc_4, if_neg qc_5, if_neg qc_6, if_neg qc_7, if_neg qc_8, if_neg qc_9] at hq_1
                    subst hq_1
                    exact x_sub (lv2 := []) C [] rfl hj_1
                  · refine x_bipush (pc2 := 68) (v := 7) C dX11_most_66 rfl rfl ?_
                    refine x_goto (tgt := 72) C dX11_most_68 (by decide) ?_
                    rw [if_neg qc_2, if_neg qc_3, if_neg qc_4, if_neg qc_5, if_neg qc_6, if_neg qc_7, if_neg qc_8, if_pos qc_9] at hq_1
                    subst hq_1
                    exact x_sub (lv2 := []) C [] rfl hj_1
                · refine x_bipush (pc2 := 57) (v := 15) C dX11_most_55 rfl rfl ?_
                  refine x_goto (tgt := 72) C dX11_most_57 (by decide) ?_
                  rw [if_neg qc_2, if_neg qc_3, if_neg qc_4, if_neg qc_5, if_neg qc_6, if_neg qc_7, if_pos qc_8] at hq_1
                  subst hq_1
                  exact x_sub (lv2 := []) C [] rfl hj_1
            · refine x_bipush (pc2 := 40) (v := 20) C dX11_most_38 rfl rfl ?_
              refine x_goto (tgt := 72) C dX11_most_40 (by decide) ?_
              rw [if_neg qc_2, if_neg qc_3, if_neg qc_4, if_neg qc_5, if_pos qc_6] at hq_1
              subst hq_1
              exact x_sub (lv2 := []) C [] rfl hj_1
        · refine x_iconst (pc2 := 23) (v := 3) C dX11_most_22 rfl rfl ?_
          refine x_goto (tgt := 72) C dX11_most_23 (by decide) ?_
          rw [if_neg qc_2, if_neg qc_3, if_pos qc_4] at hq_1
          subst hq_1
          exact x_sub (lv2 := []) C [] rfl hj_1
    · refine x_sipush (pc2 := 7) (v := 9999) C dX11_most_4 rfl rfl ?_
      refine x_goto (tgt := 72) C dX11_most_7 (by decide) ?_
      rw [if_pos qc_2] at hq_1
      subst hq_1
      exact x_sub (lv2 := []) C [] rfl hj_1
  rw [fX11_most, wl_eq hq_1] at hf
  obtain rfl := (Option.some.inj hf).symm
  exact x_ireturn C dX11_most_72 rfl (Nat.le_of_ble_eq_true rfl) (Nat.le_of_ble_eq_true rfl) rfl rfl
def fX11_step (Ω : XO) (x1 : Int32) (x2 : Int32) (x3 : Int32) : Option (Int32 × XO) := (fX11_in Ω x2 (0 : Int32) (24 : Int32)).bind (fun r_1 => (((if r_1 = 0 then (some (0 : Int32)) else (fX11_most Ω x2).bind (fun r_4 => (fX11_in Ω x3 (0 : Int32) r_4).bind (fun r_5 => (if r_5 = 0 then (some (0 : Int32)) else (some (1 : Int32)))))) : Option (Int32))).bind (fun j_2 => (fX11_in Ω x1 (0 : Int32) (7 : Int32)).bind (fun r_7 => (((if r_7 = 0 then (some (1 : Int32)) else (if j_2 = 0 then (some (2 : Int32)) else (if inB x1 8 then (if (xI Ω 2105 0 x1.toNatClampNeg) = (20 : Int32) then (some (3 : Int32)) else (if (xI Ω 1106 0 0) = 0 then (some (0 : Int32)) else (some (3 : Int32)))) else none))) : Option (Int32))).bind (fun j_8 => (fX11_holds Ω j_8).bind (fun r_15 => (if r_15.1 = 0 then (if inB x1 8 then (if inB (((20 : Int32) * x1) + (xI r_15.2 2105 0 x1.toNatClampNeg)) 160 then (wl (uI r_15.2 2103 0 (((20 : Int32) * x1) + (xI r_15.2 2105 0 x1.toNatClampNeg)).toNatClampNeg x2) (fun Ω_21 => (if inB x1 8 then (if inB (((20 : Int32) * x1) + (xI Ω_21 2105 0 x1.toNatClampNeg)) 160 then (wl (uI Ω_21 2104 0 (((20 : Int32) * x1) + (xI Ω_21 2105 0 x1.toNatClampNeg)).toNatClampNeg x3) (fun Ω_26 => (if inB x1 8 then (if inB x1 8 then (wl (uI Ω_26 2105 0 x1.toNatClampNeg ((xI Ω_26 2105 0 x1.toNatClampNeg) + (1 : Int32))) (fun Ω_30 => (if inB x1 8 then (some (xI Ω_30 2105 0 x1.toNatClampNeg, Ω_30)) else none))) else none) else none))) else none) else none))) else none) else none) else (some ((-1 : Int32), r_15.2))))))))
set_option maxRecDepth 20000 in
theorem tX11_step {G : XG} (hok : XK G) {x1 : Int32} {x2 : Int32} {x3 : Int32} {Ω : XO} (hd0 : dm G 11 0)   {r : Int32 × XO} (hf : fX11_step Ω x1 x2 x3 = some r) : XM G yX11_step cX11_step 6 ((some FieldType.int)) (RM 1 0) [.ref (ad G 11 0), .int x1, .int x2, .int x3] Ω (.inl (some (.int (r.1)))) r.2 := by
  refine x_start (lv := [(0, .ref (ad G 11 0)), (1, .int x1), (2, .int x2), (3, .int x3)]) (own := RX11) hok (by decide +kernel) rfl (Nat.le_of_ble_eq_true rfl) rfl (fun B C => ?_)
  refine x_aload_n (pc2 := 1) C dX11_step_0 0 rfl rfl rfl ?_
  refine x_iload_n (pc2 := 2) C dX11_step_1 2 rfl rfl rfl ?_
  refine x_iconst (pc2 := 3) (v := 0) C dX11_step_2 rfl rfl ?_
  refine x_bipush (pc2 := 5) (v := 24) C dX11_step_3 rfl rfl ?_
  rcases opt_em (fX11_in Ω x2 (0 : Int32) (24 : Int32)) with hq_1 | ⟨r_1, hq_1⟩
  · exact absurd hf (by rw [fX11_step, ob_n hq_1]; exact nofun)
  refine x_ret (rest := []) (st2 := [_]) (pc2 := 8) (cu2 := 0) (su2 := 0) (x_cV C (by assumption) (Nat.le_of_ble_eq_true rfl) kmX11_in rfl kk_11_178 (tX11_in hok (by assumption)  hq_1) rfl rfl (Nat.le_of_ble_eq_true rfl) ⟨Nat.le_of_ble_eq_true rfl, Nat.le_of_ble_eq_true rfl⟩ ⟨Nat.le_of_ble_eq_true rfl, Nat.le_of_ble_eq_true rfl⟩ dX11_step_5) rfl rfl rfl rfl ?_
  rcases opt_em ((if r_1 = 0 then (some (0 : Int32)) else (fX11_most Ω x2).bind (fun r_4 => (fX11_in Ω x3 (0 : Int32) r_4).bind (fun r_5 => (if r_5 = 0 then (some (0 : Int32)) else (some (1 : Int32)))))) : Option (Int32)) with hq_2 | ⟨j_2, hq_2⟩
  · exact absurd hf (by rw [fX11_step, ob_s hq_1, ob_n hq_2]; exact nofun)
  suffices hj_2 : XW G B 6 30 [(0, .ref (ad G 11 (0))), (1, .int (x1)), (2, .int (x2)), (3, .int (x3))] [.int (j_2)] Ω 0 0 by
    refine x_if_eq (tgt := 29) (pc2 := 11) C dX11_step_8 (by decide) rfl (fun qc_3 => ?_) (fun qc_3 => ?_)
    · refine x_iconst (pc2 := 30) (v := 0) C dX11_step_29 rfl rfl ?_
      rw [if_pos qc_3] at hq_2
      obtain rfl := (Option.some.inj hq_2).symm
      exact x_sub (lv2 := [(0, _), (1, _), (2, _), (3, _)]) C [0, 1, 2, 3] rfl hj_2
    · refine x_aload_n (pc2 := 12) C dX11_step_11 0 rfl rfl rfl ?_
      refine x_iload_n (pc2 := 13) C dX11_step_12 3 rfl rfl rfl ?_
      refine x_iconst (pc2 := 14) (v := 0) C dX11_step_13 rfl rfl ?_
      refine x_aload_n (pc2 := 15) C dX11_step_14 0 rfl rfl rfl ?_
      refine x_iload_n (pc2 := 16) C dX11_step_15 2 rfl rfl rfl ?_
      rcases opt_em (fX11_most Ω x2) with hq_4 | ⟨r_4, hq_4⟩
      · exact absurd hq_2 (by rw [if_neg qc_3, ob_n hq_4]; exact nofun)
      refine x_ret (rest := [_, _, _]) (st2 := [_, _, _, _]) (pc2 := 19) (cu2 := 0) (su2 := 0) (x_cV C (by assumption) (Nat.le_of_ble_eq_true rfl) kmX11_most rfl kk_11_207 (tX11_most hok (by assumption)  hq_4) rfl rfl (Nat.le_of_ble_eq_true rfl) ⟨Nat.le_of_ble_eq_true rfl, Nat.le_of_ble_eq_true rfl⟩ ⟨Nat.le_of_ble_eq_true rfl, Nat.le_of_ble_eq_true rfl⟩ dX11_step_16) rfl rfl rfl rfl ?_
      rcases opt_em (fX11_in Ω x3 (0 : Int32) r_4) with hq_5 | ⟨r_5, hq_5⟩
      · exact absurd hq_2 (by rw [if_neg qc_3, ob_s hq_4, ob_n hq_5]; exact nofun)
      refine x_ret (rest := []) (st2 := [_]) (pc2 := 22) (cu2 := 0) (su2 := 0) (x_cV C (by assumption) (Nat.le_of_ble_eq_true rfl) kmX11_in rfl kk_11_178 (tX11_in hok (by assumption)  hq_5) rfl rfl (Nat.le_of_ble_eq_true rfl) ⟨Nat.le_of_ble_eq_true rfl, Nat.le_of_ble_eq_true rfl⟩ ⟨Nat.le_of_ble_eq_true rfl, Nat.le_of_ble_eq_true rfl⟩ dX11_step_19) rfl rfl rfl rfl ?_
      refine x_if_eq (tgt := 29) (pc2 := 25) C dX11_step_22 (by decide) rfl (fun qc_6 => ?_) (fun qc_6 => ?_)
      · refine x_iconst (pc2 := 30) (v := 0) C dX11_step_29 rfl rfl ?_
        rw [if_neg qc_3, ob_s hq_4, ob_s hq_5, if_pos qc_6] at hq_2
        obtain rfl := (Option.some.inj hq_2).symm
        exact x_sub (lv2 := [(0, _), (1, _), (2, _), (3, _)]) C [0, 1, 2, 3] rfl hj_2
      · refine x_iconst (pc2 := 26) (v := 1) C dX11_step_25 rfl rfl ?_
        refine x_goto (tgt := 30) C dX11_step_26 (by decide) ?_
        rw [if_neg qc_3, ob_s hq_4, ob_s hq_5, if_neg qc_6] at hq_2
        obtain rfl := (Option.some.inj hq_2).symm
        exact x_sub (lv2 := [(0, _), (1, _), (2, _), (3, _)]) C [0, 1, 2, 3] rfl hj_2
  refine x_istore (pc2 := 32) (lv2 := [(4, _), (0, _), (1, _), (2, _), (3, _)]) C dX11_step_30 (by decide) rfl rfl ?_
  refine x_aload_n (pc2 := 33) C dX11_step_32 1 rfl rfl rfl ?_
  refine x_iload_n (pc2 := 34) C dX11_step_33 2 rfl rfl rfl ?_
  refine x_iconst (pc2 := 35) (v := 0) C dX11_step_34 rfl rfl ?_
  refine x_bipush (pc2 := 37) (v := 7) C dX11_step_35 rfl rfl ?_
  rcases opt_em (fX11_in Ω x1 (0 : Int32) (7 : Int32)) with hq_7 | ⟨r_7, hq_7⟩
  · exact absurd hf (by rw [fX11_step, ob_s hq_1, ob_s hq_2, ob_n hq_7]; exact nofun)
  refine x_ret (rest := []) (st2 := [_]) (pc2 := 40) (cu2 := 0) (su2 := 0) (x_cV C (by assumption) (Nat.le_of_ble_eq_true rfl) kmX11_in rfl kk_11_178 (tX11_in hok (by assumption)  hq_7) rfl rfl (Nat.le_of_ble_eq_true rfl) ⟨Nat.le_of_ble_eq_true rfl, Nat.le_of_ble_eq_true rfl⟩ ⟨Nat.le_of_ble_eq_true rfl, Nat.le_of_ble_eq_true rfl⟩ dX11_step_37) rfl rfl rfl rfl ?_
  refine x_istore (pc2 := 42) (lv2 := [(5, _), (4, _), (0, _), (1, _), (2, _), (3, _)]) C dX11_step_40 (by decide) rfl rfl ?_
  refine x_aload_n (pc2 := 43) C dX11_step_42 2 rfl rfl rfl ?_
  refine x_iload (pc2 := 45) C dX11_step_43 0 rfl rfl ?_
  rcases opt_em ((if r_7 = 0 then (some (1 : Int32)) else (if j_2 = 0 then (some (2 : Int32)) else (if inB x1 8 then (if (xI Ω 2105 0 x1.toNatClampNeg) = (20 : Int32) then (some (3 : Int32)) else (if (xI Ω 1106 0 0) = 0 then (some (0 : Int32)) else (some (3 : Int32)))) else none))) : Option (Int32)) with hq_8 | ⟨j_8, hq_8⟩
  · exact absurd hf (by rw [fX11_step, ob_s hq_1, ob_s hq_2, ob_s hq_7, ob_n hq_8]; exact nofun)
  suffices hj_8 : XW G B 6 84 [(0, .ref (ad G 11 (0))), (1, .int (x1)), (2, .int (x2)), (3, .int (x3))] [.int (j_8), .ref (ad G 11 (0))] Ω 0 0 by
    refine x_if_ne (tgt := 52) (pc2 := 48) C dX11_step_45 (by decide) rfl (fun qc_9 => ?_) (fun qc_9 => ?_)
    · refine x_iload (pc2 := 54) C dX11_step_52 1 rfl rfl ?_
      refine x_if_ne (tgt := 61) (pc2 := 57) C dX11_step_54 (by decide) rfl (fun qc_10 => ?_) (fun qc_10 => ?_)
      · refine x_aload_n (pc2 := 62) C dX11_step_61 2 rfl rfl rfl ?_
        refine x_getR (f := 1105) (k2 := 2105) (pc2 := 65) C (by assumption) kf_11_25 dX11_step_62 rfl rfl rfl (rti_i rfl) rfl (fun qd_11 => ?_)
        refine x_iload_n (pc2 := 66) C dX11_step_65 3 rfl rfl rfl ?_
        rcases (Decidable.em (inB x1 8)).symm with qg_12 | qg_12
        · exact absurd hq_8 (by rw [if_neg qc_9, if_neg qc_10, if_neg qg_12]; exact nofun)
        refine x_iald (pc2 := 67) C (by assumption) dX11_step_66 rfl (inB_in qg_12) rfl ?_
        refine x_bipush (pc2 := 69) (v := 20) C dX11_step_67 rfl rfl ?_
        refine x_icmp_eq (tgt := 79) (pc2 := 72) C dX11_step_69 (by decide) rfl (fun qc_13 => ?_) (fun qc_13 => ?_)
        · refine x_iconst (pc2 := 80) (v := 3) C dX11_step_79 rfl rfl ?_
          refine x_goto (tgt := 84) C dX11_step_80 (by decide) ?_
          rw [if_neg qc_9, if_neg qc_10, if_pos qg_12, if_pos qc_13] at hq_8
          obtain rfl := (Option.some.inj hq_8).symm
          exact x_sub (lv2 := [(0, _), (1, _), (2, _), (3, _)]) C [2, 3, 4, 5] rfl hj_8
        · refine x_aload_n (pc2 := 73) C dX11_step_72 2 rfl rfl rfl ?_
          refine x_getI (pc2 := 76) (f := 1106) C (by assumption) kf_11_210 dX11_step_73 rfl rfl rfl ?_
          refine x_if_eq (tgt := 83) (pc2 := 79) C dX11_step_76 (by decide) rfl (fun qc_14 => ?_) (fun qc_14 => ?_)
          · refine x_iconst (pc2 := 84) (v := 0) C dX11_step_83 rfl rfl ?_
            rw [if_neg qc_9, if_neg qc_10, if_pos qg_12, if_neg qc_13, if_pos qc_14] at hq_8
            obtain rfl := (Option.some.inj hq_8).symm
            exact x_sub (lv2 := [(0, _), (1, _), (2, _), (3, _)]) C [2, 3, 4, 5] rfl hj_8
          · refine x_iconst (pc2 := 80) (v := 3) C dX11_step_79 rfl rfl ?_
            refine x_goto (tgt := 84) C dX11_step_80 (by decide) ?_
            rw [if_neg qc_9, if_neg qc_10, if_pos qg_12, if_neg qc_13, if_neg qc_14] at hq_8
            obtain rfl := (Option.some.inj hq_8).symm
            exact x_sub (lv2 := [(0, _), (1, _), (2, _), (3, _)]) C [2, 3, 4, 5] rfl hj_8
      · refine x_iconst (pc2 := 58) (v := 2) C dX11_step_57 rfl rfl ?_
        refine x_goto (tgt := 84) C dX11_step_58 (by decide) ?_
        rw [if_neg qc_9, if_pos qc_10] at hq_8
        obtain rfl := (Option.some.inj hq_8).symm
        exact x_sub (lv2 := [(0, _), (1, _), (2, _), (3, _)]) C [2, 3, 4, 5] rfl hj_8
    · refine x_iconst (pc2 := 49) (v := 1) C dX11_step_48 rfl rfl ?_
      refine x_goto (tgt := 84) C dX11_step_49 (by decide) ?_
      rw [if_pos qc_9] at hq_8
      obtain rfl := (Option.some.inj hq_8).symm
      exact x_sub (lv2 := [(0, _), (1, _), (2, _), (3, _)]) C [2, 3, 4, 5] rfl hj_8
  rcases opt_em (fX11_holds Ω j_8) with hq_15 | ⟨r_15, hq_15⟩
  · exact absurd hf (by rw [fX11_step, ob_s hq_1, ob_s hq_2, ob_s hq_7, ob_s hq_8, ob_n hq_15]; exact nofun)
  refine x_ret (rest := []) (st2 := [_]) (pc2 := 87) (cu2 := 0) (su2 := 0) (x_cV C (by assumption) (Nat.le_of_ble_eq_true rfl) kmX11_holds rfl kk_11_214 (tX11_holds hok (by assumption)  hq_15) rfl rfl (Nat.le_of_ble_eq_true rfl) ⟨Nat.le_of_ble_eq_true rfl, Nat.le_of_ble_eq_true rfl⟩ ⟨Nat.le_of_ble_eq_true rfl, Nat.le_of_ble_eq_true rfl⟩ dX11_step_84) rfl rfl rfl rfl ?_
  refine x_if_eq (tgt := 92) (pc2 := 90) C dX11_step_87 (by decide) rfl (fun qc_16 => ?_) (fun qc_16 => ?_)
  · refine x_aload_n (pc2 := 93) C dX11_step_92 0 rfl rfl rfl ?_
    refine x_getR (f := 1103) (k2 := 2103) (pc2 := 96) C (by assumption) kf_11_19 dX11_step_93 rfl rfl rfl (rti_i rfl) rfl (fun qd_17 => ?_)
    refine x_bipush (pc2 := 98) (v := 20) C dX11_step_96 rfl rfl ?_
    refine x_iload_n (pc2 := 99) C dX11_step_98 1 rfl rfl rfl ?_
    refine x_imul (pc2 := 100) C dX11_step_99 rfl ?_
    refine x_aload_n (pc2 := 101) C dX11_step_100 0 rfl rfl rfl ?_
    refine x_getR (f := 1105) (k2 := 2105) (pc2 := 104) C (by assumption) kf_11_25 dX11_step_101 rfl rfl rfl (rti_i rfl) rfl (fun qd_18 => ?_)
    refine x_iload_n (pc2 := 105) C dX11_step_104 1 rfl rfl rfl ?_
    rcases (Decidable.em (inB x1 8)).symm with qg_19 | qg_19
    · exact absurd hf (by rw [fX11_step, ob_s hq_1, ob_s hq_2, ob_s hq_7, ob_s hq_8, ob_s hq_15, if_pos qc_16, if_neg qg_19]; exact nofun)
    refine x_iald (pc2 := 106) C (by assumption) dX11_step_105 rfl (inB_in qg_19) rfl ?_
    refine x_iadd (pc2 := 107) C dX11_step_106 rfl ?_
    refine x_iload_n (pc2 := 108) C dX11_step_107 2 rfl rfl rfl ?_
    rcases (Decidable.em (inB (((20 : Int32) * x1) + (xI r_15.2 2105 0 x1.toNatClampNeg)) 160)).symm with qg_20 | qg_20
    · exact absurd hf (by rw [fX11_step, ob_s hq_1, ob_s hq_2, ob_s hq_7, ob_s hq_8, ob_s hq_15, if_pos qc_16, if_pos qg_19, if_neg qg_20]; exact nofun)
    refine x_iast (pc2 := 109) C (by assumption) dX11_step_108 rfl (inB_in qg_20) rfl ?_
    obtain ⟨Ω_21, hw_21⟩ : ∃ z, z = uI r_15.2 2103 0 (((20 : Int32) * x1) + (xI r_15.2 2105 0 x1.toNatClampNeg)).toNatClampNeg x2 := ⟨_, rfl⟩
    refine x_om hw_21 ?_
    refine x_aload_n (pc2 := 110) C dX11_step_109 0 rfl rfl rfl ?_
    refine x_getR (f := 1104) (k2 := 2104) (pc2 := 113) C (by assumption) kf_11_22 dX11_step_110 rfl rfl rfl (rti_i rfl) rfl (fun qd_22 => ?_)
    refine x_bipush (pc2 := 115) (v := 20) C dX11_step_113 rfl rfl ?_
    refine x_iload_n (pc2 := 116) C dX11_step_115 1 rfl rfl rfl ?_
    refine x_imul (pc2 := 117) C dX11_step_116 rfl ?_
    refine x_aload_n (pc2 := 118) C dX11_step_117 0 rfl rfl rfl ?_
    refine x_getR (f := 1105) (k2 := 2105) (pc2 := 121) C (by assumption) kf_11_25 dX11_step_118 rfl rfl rfl (rti_i rfl) rfl (fun qd_23 => ?_)
    refine x_iload_n (pc2 := 122) C dX11_step_121 1 rfl rfl rfl ?_
    rcases (Decidable.em (inB x1 8)).symm with qg_24 | qg_24
    · exact absurd hf (by rw [fX11_step, ob_s hq_1, ob_s hq_2, ob_s hq_7, ob_s hq_8, ob_s hq_15, if_pos qc_16, if_pos qg_19, if_pos qg_20, wl_eq hw_21, if_neg qg_24]; exact nofun)
    refine x_iald (pc2 := 123) C (by assumption) dX11_step_122 rfl (inB_in qg_24) rfl ?_
    refine x_iadd (pc2 := 124) C dX11_step_123 rfl ?_
    refine x_iload_n (pc2 := 125) C dX11_step_124 3 rfl rfl rfl ?_
    rcases (Decidable.em (inB (((20 : Int32) * x1) + (xI Ω_21 2105 0 x1.toNatClampNeg)) 160)).symm with qg_25 | qg_25
    · exact absurd hf (by rw [fX11_step, ob_s hq_1, ob_s hq_2, ob_s hq_7, ob_s hq_8, ob_s hq_15, if_pos qc_16, if_pos qg_19, if_pos qg_20, wl_eq hw_21, if_pos qg_24, if_neg qg_25]; exact nofun)
    refine x_iast (pc2 := 126) C (by assumption) dX11_step_125 rfl (inB_in qg_25) rfl ?_
    obtain ⟨Ω_26, hw_26⟩ : ∃ z, z = uI Ω_21 2104 0 (((20 : Int32) * x1) + (xI Ω_21 2105 0 x1.toNatClampNeg)).toNatClampNeg x3 := ⟨_, rfl⟩
    refine x_om hw_26 ?_
    refine x_aload_n (pc2 := 127) C dX11_step_126 0 rfl rfl rfl ?_
    refine x_getR (f := 1105) (k2 := 2105) (pc2 := 130) C (by assumption) kf_11_25 dX11_step_127 rfl rfl rfl (rti_i rfl) rfl (fun qd_27 => ?_)
    refine x_iload_n (pc2 := 131) C dX11_step_130 1 rfl rfl rfl ?_
    refine x_dup2 (pc2 := 132) C dX11_step_131 rfl rfl rfl ?_
    rcases (Decidable.em (inB x1 8)).symm with qg_28 | qg_28
    · exact absurd hf (by rw [fX11_step, ob_s hq_1, ob_s hq_2, ob_s hq_7, ob_s hq_8, ob_s hq_15, if_pos qc_16, if_pos qg_19, if_pos qg_20, wl_eq hw_21, if_pos qg_24, if_pos qg_25, wl_eq hw_26, if_neg qg_28]; exact nofun)
    refine x_iald (pc2 := 133) C (by assumption) dX11_step_132 rfl (inB_in qg_28) rfl ?_
    refine x_iconst (pc2 := 134) (v := 1) C dX11_step_133 rfl rfl ?_
    refine x_iadd (pc2 := 135) C dX11_step_134 rfl ?_
    rcases (Decidable.em (inB x1 8)).symm with qg_29 | qg_29
    · exact absurd hf (by rw [fX11_step, ob_s hq_1, ob_s hq_2, ob_s hq_7, ob_s hq_8, ob_s hq_15, if_pos qc_16, if_pos qg_19, if_pos qg_20, wl_eq hw_21, if_pos qg_24, if_pos qg_25, wl_eq hw_26, if_pos qg_28, if_neg qg_29]; exact nofun)
    refine x_iast (pc2 := 136) C (by assumption) dX11_step_135 rfl (inB_in qg_29) rfl ?_
    obtain ⟨Ω_30, hw_30⟩ : ∃ z, z = uI Ω_26 2105 0 x1.toNatClampNeg ((xI Ω_26 2105 0 x1.toNatClampNeg) + (1 : Int32)) := ⟨_, rfl⟩
    refine x_om hw_30 ?_
    refine x_aload_n (pc2 := 137) C dX11_step_136 0 rfl rfl rfl ?_
    refine x_getR (f := 1105) (k2 := 2105) (pc2 := 140) C (by assumption) kf_11_25 dX11_step_137 rfl rfl rfl (rti_i rfl) rfl (fun qd_31 => ?_)
    refine x_iload_n (pc2 := 141) C dX11_step_140 1 rfl rfl rfl ?_
    rcases (Decidable.em (inB x1 8)).symm with qg_32 | qg_32
    · exact absurd hf (by rw [fX11_step, ob_s hq_1, ob_s hq_2, ob_s hq_7, ob_s hq_8, ob_s hq_15, if_pos qc_16, if_pos qg_19, if_pos qg_20, wl_eq hw_21, if_pos qg_24, if_pos qg_25, wl_eq hw_26, if_pos qg_28, if_pos qg_29, wl_eq hw_30, if_neg qg_32]; exact nofun)
    refine x_iald (pc2 := 142) C (by assumption) dX11_step_141 rfl (inB_in qg_32) rfl ?_
    rw [fX11_step, ob_s hq_1, ob_s hq_2, ob_s hq_7, ob_s hq_8, ob_s hq_15, if_pos qc_16, if_pos qg_19, if_pos qg_20, wl_eq hw_21, if_pos qg_24, if_pos qg_25, wl_eq hw_26, if_pos qg_28, if_pos qg_29, wl_eq hw_30, if_pos qg_32] at hf
    obtain rfl := (Option.some.inj hf).symm
    exact x_ireturn C dX11_step_142 rfl (Nat.le_of_ble_eq_true rfl) (Nat.le_of_ble_eq_true rfl) rfl rfl
  · refine x_iconst (pc2 := 91) (v := (-1)) C dX11_step_90 rfl rfl ?_
    rw [fX11_step, ob_s hq_1, ob_s hq_2, ob_s hq_7, ob_s hq_8, ob_s hq_15, if_neg qc_16] at hf
    obtain rfl := (Option.some.inj hf).symm
    exact x_ireturn C dX11_step_91 rfl (Nat.le_of_ble_eq_true rfl) (Nat.le_of_ble_eq_true rfl) rfl rfl
def fX11_upgrade (Ω : XO) (x1 : Int32) (x2 : Int32) : Option (Int32 × XO) := (fX11_isChain Ω x1).bind (fun r_1 => (((if r_1 = 0 then (some (1 : Int32)) else (fX11_in Ω x2 (1 : Int32) (1000 : Int32)).bind (fun r_4 => (if r_4 = 0 then (some (2 : Int32)) else (if inB x1 2 then (if (xI Ω 2109 0 x1.toNatClampNeg) ≤ (1 : Int32) then (some (0 : Int32)) else (some (3 : Int32))) else none)))) : Option (Int32))).bind (fun j_2 => (fX11_holds Ω j_2).bind (fun r_9 => (if r_9.1 = 0 then (if inB x1 2 then (if inB x1 2 then (wl (uI r_9.2 2107 0 x1.toNatClampNeg x2) (fun Ω_15 => (some (xI r_9.2 2107 0 x1.toNatClampNeg, Ω_15)))) else none) else none) else (some ((-1 : Int32), r_9.2))))))
set_option maxRecDepth 20000 in
theorem tX11_upgrade {G : XG} (hok : XK G) {x1 : Int32} {x2 : Int32} {Ω : XO} (hd0 : dm G 11 0)   {r : Int32 × XO} (hf : fX11_upgrade Ω x1 x2 = some r) : XM G yX11_upgrade cX11_upgrade 4 ((some FieldType.int)) (RM 2 0) [.ref (ad G 11 0), .int x1, .int x2] Ω (.inl (some (.int (r.1)))) r.2 := by
  refine x_start (lv := [(0, .ref (ad G 11 0)), (1, .int x1), (2, .int x2)]) (own := RX11) hok (by decide +kernel) rfl (Nat.le_of_ble_eq_true rfl) rfl (fun B C => ?_)
  refine x_aload_n (pc2 := 1) C dX11_upgrade_0 0 rfl rfl rfl ?_
  refine x_aload_n (pc2 := 2) C dX11_upgrade_1 0 rfl rfl rfl ?_
  refine x_iload_n (pc2 := 3) C dX11_upgrade_2 1 rfl rfl rfl ?_
  rcases opt_em (fX11_isChain Ω x1) with hq_1 | ⟨r_1, hq_1⟩
  · exact absurd hf (by rw [fX11_upgrade, ob_n hq_1]; exact nofun)
  refine x_ret (rest := [_]) (st2 := [_, _]) (pc2 := 6) (cu2 := 0) (su2 := 0) (x_cV C (by assumption) (Nat.le_of_ble_eq_true rfl) kmX11_isChain rfl kk_11_182 (tX11_isChain hok (by assumption)  hq_1) rfl rfl (Nat.le_of_ble_eq_true rfl) ⟨Nat.le_of_ble_eq_true rfl, Nat.le_of_ble_eq_true rfl⟩ ⟨Nat.le_of_ble_eq_true rfl, Nat.le_of_ble_eq_true rfl⟩ dX11_upgrade_3) rfl rfl rfl rfl ?_
  rcases opt_em ((if r_1 = 0 then (some (1 : Int32)) else (fX11_in Ω x2 (1 : Int32) (1000 : Int32)).bind (fun r_4 => (if r_4 = 0 then (some (2 : Int32)) else (if inB x1 2 then (if (xI Ω 2109 0 x1.toNatClampNeg) ≤ (1 : Int32) then (some (0 : Int32)) else (some (3 : Int32))) else none)))) : Option (Int32)) with hq_2 | ⟨j_2, hq_2⟩
  · exact absurd hf (by rw [fX11_upgrade, ob_s hq_1, ob_n hq_2]; exact nofun)
  suffices hj_2 : XW G B 4 44 [(0, .ref (ad G 11 (0))), (1, .int (x1)), (2, .int (x2))] [.int (j_2), .ref (ad G 11 (0))] Ω 0 0 by
    refine x_if_ne (tgt := 13) (pc2 := 9) C dX11_upgrade_6 (by decide) rfl (fun qc_3 => ?_) (fun qc_3 => ?_)
    · refine x_aload_n (pc2 := 14) C dX11_upgrade_13 0 rfl rfl rfl ?_
      refine x_iload_n (pc2 := 15) C dX11_upgrade_14 2 rfl rfl rfl ?_
      refine x_iconst (pc2 := 16) (v := 1) C dX11_upgrade_15 rfl rfl ?_
      refine x_sipush (pc2 := 19) (v := 1000) C dX11_upgrade_16 rfl rfl ?_
      rcases opt_em (fX11_in Ω x2 (1 : Int32) (1000 : Int32)) with hq_4 | ⟨r_4, hq_4⟩
      · exact absurd hq_2 (by rw [if_neg qc_3, ob_n hq_4]; exact nofun)
      refine x_ret (rest := [_]) (st2 := [_, _]) (pc2 := 22) (cu2 := 0) (su2 := 0) (x_cV C (by assumption) (Nat.le_of_ble_eq_true rfl) kmX11_in rfl kk_11_178 (tX11_in hok (by assumption)  hq_4) rfl rfl (Nat.le_of_ble_eq_true rfl) ⟨Nat.le_of_ble_eq_true rfl, Nat.le_of_ble_eq_true rfl⟩ ⟨Nat.le_of_ble_eq_true rfl, Nat.le_of_ble_eq_true rfl⟩ dX11_upgrade_19) rfl rfl rfl rfl ?_
      refine x_if_ne (tgt := 29) (pc2 := 25) C dX11_upgrade_22 (by decide) rfl (fun qc_5 => ?_) (fun qc_5 => ?_)
      · refine x_aload_n (pc2 := 30) C dX11_upgrade_29 0 rfl rfl rfl ?_
        refine x_getR (f := 1109) (k2 := 2109) (pc2 := 33) C (by assumption) kf_11_34 dX11_upgrade_30 rfl rfl rfl (rti_i rfl) rfl (fun qd_6 => ?_)
        refine x_iload_n (pc2 := 34) C dX11_upgrade_33 1 rfl rfl rfl ?_
        rcases (Decidable.em (inB x1 2)).symm with qg_7 | qg_7
        · exact absurd hq_2 (by rw [if_neg qc_3, ob_s hq_4, if_neg qc_5, if_neg qg_7]; exact nofun)
        refine x_iald (pc2 := 35) C (by assumption) dX11_upgrade_34 rfl (inB_in qg_7) rfl ?_
        refine x_iconst (pc2 := 36) (v := 1) C dX11_upgrade_35 rfl rfl ?_
        refine x_icmp_le (tgt := 43) (pc2 := 39) C dX11_upgrade_36 (by decide) rfl (fun qc_8 => ?_) (fun qc_8 => ?_)
        · refine x_iconst (pc2 := 44) (v := 0) C dX11_upgrade_43 rfl rfl ?_
          rw [if_neg qc_3, ob_s hq_4, if_neg qc_5, if_pos qg_7, if_pos qc_8] at hq_2
          obtain rfl := (Option.some.inj hq_2).symm
          exact x_sub (lv2 := [(0, _), (1, _), (2, _)]) C [0, 1, 2] rfl hj_2
        · refine x_iconst (pc2 := 40) (v := 3) C dX11_upgrade_39 rfl rfl ?_
          refine x_goto (tgt := 44) C dX11_upgrade_40 (by decide) ?_
          rw [if_neg qc_3, ob_s hq_4, if_neg qc_5, if_pos qg_7, if_neg qc_8] at hq_2
          obtain rfl := (Option.some.inj hq_2).symm
          exact x_sub (lv2 := [(0, _), (1, _), (2, _)]) C [0, 1, 2] rfl hj_2
      · refine x_iconst (pc2 := 26) (v := 2) C dX11_upgrade_25 rfl rfl ?_
        refine x_goto (tgt := 44) C dX11_upgrade_26 (by decide) ?_
        rw [if_neg qc_3, ob_s hq_4, if_pos qc_5] at hq_2
        obtain rfl := (Option.some.inj hq_2).symm
        exact x_sub (lv2 := [(0, _), (1, _), (2, _)]) C [0, 1, 2] rfl hj_2
    · refine x_iconst (pc2 := 10) (v := 1) C dX11_upgrade_9 rfl rfl ?_
      refine x_goto (tgt := 44) C dX11_upgrade_10 (by decide) ?_
      rw [if_pos qc_3] at hq_2
      obtain rfl := (Option.some.inj hq_2).symm
      exact x_sub (lv2 := [(0, _), (1, _), (2, _)]) C [0, 1, 2] rfl hj_2
  rcases opt_em (fX11_holds Ω j_2) with hq_9 | ⟨r_9, hq_9⟩
  · exact absurd hf (by rw [fX11_upgrade, ob_s hq_1, ob_s hq_2, ob_n hq_9]; exact nofun)
  refine x_ret (rest := []) (st2 := [_]) (pc2 := 47) (cu2 := 0) (su2 := 0) (x_cV C (by assumption) (Nat.le_of_ble_eq_true rfl) kmX11_holds rfl kk_11_214 (tX11_holds hok (by assumption)  hq_9) rfl rfl (Nat.le_of_ble_eq_true rfl) ⟨Nat.le_of_ble_eq_true rfl, Nat.le_of_ble_eq_true rfl⟩ ⟨Nat.le_of_ble_eq_true rfl, Nat.le_of_ble_eq_true rfl⟩ dX11_upgrade_44) rfl rfl rfl rfl ?_
  refine x_if_eq (tgt := 52) (pc2 := 50) C dX11_upgrade_47 (by decide) rfl (fun qc_10 => ?_) (fun qc_10 => ?_)
  · refine x_aload_n (pc2 := 53) C dX11_upgrade_52 0 rfl rfl rfl ?_
    refine x_getR (f := 1107) (k2 := 2107) (pc2 := 56) C (by assumption) kf_11_28 dX11_upgrade_53 rfl rfl rfl (rti_i rfl) rfl (fun qd_11 => ?_)
    refine x_iload_n (pc2 := 57) C dX11_upgrade_56 1 rfl rfl rfl ?_
    rcases (Decidable.em (inB x1 2)).symm with qg_12 | qg_12
    · exact absurd hf (by rw [fX11_upgrade, ob_s hq_1, ob_s hq_2, ob_s hq_9, if_pos qc_10, if_neg qg_12]; exact nofun)
    refine x_iald (pc2 := 58) C (by assumption) dX11_upgrade_57 rfl (inB_in qg_12) rfl ?_
    refine x_istore_n (pc2 := 59) (lv2 := [(3, _), (0, _), (1, _), (2, _)]) C dX11_upgrade_58 rfl (by decide) rfl rfl ?_
    refine x_aload_n (pc2 := 60) C dX11_upgrade_59 1 rfl rfl rfl ?_
    refine x_getR (f := 1107) (k2 := 2107) (pc2 := 63) C (by assumption) kf_11_28 dX11_upgrade_60 rfl rfl rfl (rti_i rfl) rfl (fun qd_13 => ?_)
    refine x_iload_n (pc2 := 64) C dX11_upgrade_63 2 rfl rfl rfl ?_
    refine x_iload_n (pc2 := 65) C dX11_upgrade_64 3 rfl rfl rfl ?_
    rcases (Decidable.em (inB x1 2)).symm with qg_14 | qg_14
    · exact absurd hf (by rw [fX11_upgrade, ob_s hq_1, ob_s hq_2, ob_s hq_9, if_pos qc_10, if_pos qg_12, if_neg qg_14]; exact nofun)
    refine x_iast (pc2 := 66) C (by assumption) dX11_upgrade_65 rfl (inB_in qg_14) rfl ?_
    obtain ⟨Ω_15, hw_15⟩ : ∃ z, z = uI r_9.2 2107 0 x1.toNatClampNeg x2 := ⟨_, rfl⟩
    refine x_om hw_15 ?_
    refine x_iload_n (pc2 := 67) C dX11_upgrade_66 0 rfl rfl rfl ?_
    rw [fX11_upgrade, ob_s hq_1, ob_s hq_2, ob_s hq_9, if_pos qc_10, if_pos qg_12, if_pos qg_14, wl_eq hw_15] at hf
    obtain rfl := (Option.some.inj hf).symm
    exact x_ireturn C dX11_upgrade_67 rfl (Nat.le_of_ble_eq_true rfl) (Nat.le_of_ble_eq_true rfl) rfl rfl
  · refine x_iconst (pc2 := 51) (v := (-1)) C dX11_upgrade_50 rfl rfl ?_
    rw [fX11_upgrade, ob_s hq_1, ob_s hq_2, ob_s hq_9, if_neg qc_10] at hf
    obtain rfl := (Option.some.inj hf).symm
    exact x_ireturn C dX11_upgrade_51 rfl (Nat.le_of_ble_eq_true rfl) (Nat.le_of_ble_eq_true rfl) rfl rfl
def fX11_isIn_l14 (Ω : XO) (y5 : Int32) (y1 : Int32) (y3 : Int32) : Nat → Int32 → Int32 → Option (Int32 × Int32)
  | 0, _, _ => none
  | n + 1, y6, y4 => (if inB (((24 : Int32) * y1) + y5) 48 then (if (xI Ω 2129 0 (((24 : Int32) * y1) + y5).toNatClampNeg) ≤ y6 then (some (y6, y4)) else (if inB (((40 : Int32) * (((24 : Int32) * y1) + y5)) + y6) 1920 then (wl ((if (((xI Ω 2131 0 (((40 : Int32) * (((24 : Int32) * y1) + y5)) + y6).toNatClampNeg) / (10 : Int32)) - ((xI Ω 2131 0 (((40 : Int32) * (((24 : Int32) * y1) + y5)) + y6).toNatClampNeg) / (10 : Int32)) / (10000 : Int32) * (10000 : Int32)) = y3 then (1 : Int32) else (0 : Int32))) (fun (j_6 : Int32) => fX11_isIn_l14 Ω y5 y1 y3 n (y6 + 1) (y4 ||| j_6))) else none)) else none)
set_option maxRecDepth 20000 in
theorem lX11_isIn_l14 {G : XG} (hok : XK G) {B : XB} {y5 : Int32} {y1 : Int32} {y3 : Int32} {Ω : XO} (hf0 : dm G 11 0)   {T : Option Value ⊕ String} {Ω9 : XO} (C : XC G B cX11_isIn RX11 (RM 0 0) 7 ((some FieldType.boolean)) T Ω9) : ∀ (n : Nat) (y6 : Int32) (y4 : Int32) {r : (Int32 × Int32)}, fX11_isIn_l14 Ω y5 y1 y3 n y6 y4 = some r → (∀ q, r = q → (XW G B 7 76 [(5, .int (y5)), (4, .int (q.2)), (0, .ref (ad G 11 (0))), (1, .int (y1)), (3, .int (y3))] [] Ω 0 0)) → XW G B 7 14 [(6, .int (y6)), (5, .int (y5)), (4, .int (y4)), (0, .ref (ad G 11 (0))), (1, .int (y1)), (3, .int (y3))] [] Ω 0 0 := by
  intro n
  induction n with
  | zero => intro y6 y4 r hf; exact absurd hf (by rw [fX11_isIn_l14]; exact nofun)
  | succ n ih =>
    intro y6 y4 r hf hk
    refine x_iload (pc2 := 16) C dX11_isIn_14 0 rfl rfl ?_
    refine x_aload_n (pc2 := 17) C dX11_isIn_16 3 rfl rfl rfl ?_
    refine x_getR (f := 1129) (k2 := 2129) (pc2 := 20) C (by assumption) kf_11_95 dX11_isIn_17 rfl rfl rfl (rti_i rfl) rfl (fun qd_1 => ?_)
    refine x_bipush (pc2 := 22) (v := 24) C dX11_isIn_20 rfl rfl ?_
    refine x_iload_n (pc2 := 23) C dX11_isIn_22 4 rfl rfl rfl ?_
    refine x_imul (pc2 := 24) C dX11_isIn_23 rfl ?_
    refine x_iload (pc2 := 26) C dX11_isIn_24 1 rfl rfl ?_
    refine x_iadd (pc2 := 27) C dX11_isIn_26 rfl ?_
    rcases (Decidable.em (inB (((24 : Int32) * y1) + y5) 48)).symm with qg_2 | qg_2
    · exact absurd hf (by rw [fX11_isIn_l14, if_neg qg_2]; exact nofun)
    refine x_iald (pc2 := 28) C (by assumption) dX11_isIn_27 rfl (inB_in qg_2) rfl ?_
    refine x_icmp_ge (tgt := 76) (pc2 := 31) C dX11_isIn_28 (by decide) rfl (fun qc_3 => ?_) (fun qc_3 => ?_)
    · rw [fX11_isIn_l14, if_pos qg_2, if_pos qc_3] at hf
      exact x_sub (lv2 := [(5, _), (4, _), (0, _), (1, _), (3, _)]) C [1, 2, 3, 4, 5] rfl (hk _ (Option.some.inj hf).symm)
    · refine x_iload (pc2 := 33) C dX11_isIn_31 2 rfl rfl ?_
      refine x_aload_n (pc2 := 34) C dX11_isIn_33 3 rfl rfl rfl ?_
      refine x_getR (f := 1131) (k2 := 2131) (pc2 := 37) C (by assumption) kf_11_101 dX11_isIn_34 rfl rfl rfl (rti_i rfl) rfl (fun qd_4 => ?_)
      refine x_bipush (pc2 := 39) (v := 40) C dX11_isIn_37 rfl rfl ?_
      refine x_bipush (pc2 := 41) (v := 24) C dX11_isIn_39 rfl rfl ?_
      refine x_iload_n (pc2 := 42) C dX11_isIn_41 4 rfl rfl rfl ?_
      refine x_imul (pc2 := 43) C dX11_isIn_42 rfl ?_
      refine x_iload (pc2 := 45) C dX11_isIn_43 1 rfl rfl ?_
      refine x_iadd (pc2 := 46) C dX11_isIn_45 rfl ?_
      refine x_imul (pc2 := 47) C dX11_isIn_46 rfl ?_
      refine x_iload (pc2 := 49) C dX11_isIn_47 0 rfl rfl ?_
      refine x_iadd (pc2 := 50) C dX11_isIn_49 rfl ?_
      rcases (Decidable.em (inB (((40 : Int32) * (((24 : Int32) * y1) + y5)) + y6) 1920)).symm with qg_5 | qg_5
      · exact absurd hf (by rw [fX11_isIn_l14, if_pos qg_2, if_neg qc_3, if_neg qg_5]; exact nofun)
      refine x_iald (pc2 := 51) C (by assumption) dX11_isIn_50 rfl (inB_in qg_5) rfl ?_
      refine x_bipush (pc2 := 53) (v := 10) C dX11_isIn_51 rfl rfl ?_
      refine x_idiv (pc2 := 54) C dX11_isIn_53 (by decide +kernel) rfl ?_
      refine x_sipush (pc2 := 57) (v := 10000) C dX11_isIn_54 rfl rfl ?_
      refine x_irem (pc2 := 58) C dX11_isIn_57 (by decide +kernel) rfl ?_
      refine x_iload_n (pc2 := 59) C dX11_isIn_58 5 rfl rfl rfl ?_
      obtain ⟨j_6, hq_6⟩ : ∃ z : Int32, z = (if (((xI Ω 2131 0 (((40 : Int32) * (((24 : Int32) * y1) + y5)) + y6).toNatClampNeg) / (10 : Int32)) - ((xI Ω 2131 0 (((40 : Int32) * (((24 : Int32) * y1) + y5)) + y6).toNatClampNeg) / (10 : Int32)) / (10000 : Int32) * (10000 : Int32)) = y3 then (1 : Int32) else (0 : Int32)) := ⟨_, rfl⟩
      suffices hj_6 : XW G B 7 67 [(0, .ref (ad G 11 (0))), (1, .int (y1)), (3, .int (y3)), (5, .int (y5)), (6, .int (y6))] [.int (j_6), .int (y4)] Ω 0 0 by
        refine x_icmp_ne (tgt := 66) (pc2 := 62) C dX11_isIn_59 (by decide) rfl (fun qc_7 => ?_) (fun qc_7 => ?_)
        · refine x_iconst (pc2 := 67) (v := 0) C dX11_isIn_66 rfl rfl ?_
          rw [if_neg qc_7] at hq_6
          subst hq_6
          exact x_sub (lv2 := [(0, _), (1, _), (3, _), (5, _), (6, _)]) C [3, 4, 5, 1, 0] rfl hj_6
        · refine x_iconst (pc2 := 63) (v := 1) C dX11_isIn_62 rfl rfl ?_
          refine x_goto (tgt := 67) C dX11_isIn_63 (by decide) ?_
          rw [if_pos qc_7] at hq_6
          subst hq_6
          exact x_sub (lv2 := [(0, _), (1, _), (3, _), (5, _), (6, _)]) C [3, 4, 5, 1, 0] rfl hj_6
      refine x_ior (pc2 := 68) C dX11_isIn_67 rfl ?_
      refine x_istore (pc2 := 70) (lv2 := [(4, _), (0, _), (1, _), (3, _), (5, _), (6, _)]) C dX11_isIn_68 (by decide) rfl rfl ?_
      refine x_iinc (pc2 := 73) (v := y6 + 1) (lv2 := [(6, _), (4, _), (0, _), (1, _), (3, _), (5, _)]) C dX11_isIn_70 5 rfl rfl (by decide) rfl rfl ?_
      refine x_goto (tgt := 14) C dX11_isIn_73 (by decide) ?_
      exact x_sub (lv2 := [(6, _), (5, _), (4, _), (0, _), (1, _), (3, _)]) C [0, 5, 1, 2, 3, 4] rfl (ih (y6 + 1) (y4 ||| j_6) (by rw [fX11_isIn_l14, if_pos qg_2, if_neg qc_3, if_pos qg_5, wl_eq hq_6] at hf; exact hf) hk)
def fX11_isIn_l6 (Ω : XO) (y1 : Int32) (y3 : Int32) : Nat → Int32 → Int32 → Option (Int32 × Int32)
  | 0, _, _ => none
  | n + 1, y5, y4 => (if y5 < 0 then (some (y5, y4)) else (fX11_isIn_l14 Ω y5 y1 y3 ((xI Ω 2129 0 (((24 : Int32) * y1) + y5).toNatClampNeg).toNatClampNeg + 1) (0 : Int32) y4).bind (fun q_2 => (if inB (((24 : Int32) * y1) + y5) 48 then fX11_isIn_l6 Ω y1 y3 n (xI Ω 2120 0 (((24 : Int32) * y1) + y5).toNatClampNeg) q_2.2 else none)))
set_option maxRecDepth 20000 in
theorem lX11_isIn_l6 {G : XG} (hok : XK G) {B : XB} {y1 : Int32} {y3 : Int32} {Ω : XO} (hf0 : dm G 11 0)   {T : Option Value ⊕ String} {Ω9 : XO} (C : XC G B cX11_isIn RX11 (RM 0 0) 7 ((some FieldType.boolean)) T Ω9) : ∀ (n : Nat) (y5 : Int32) (y4 : Int32) {r : (Int32 × Int32)}, fX11_isIn_l6 Ω y1 y3 n y5 y4 = some r → (∀ q, r = q → (XW G B 7 93 [(4, .int (q.2))] [] Ω 0 0)) → XW G B 7 6 [(5, .int (y5)), (4, .int (y4)), (0, .ref (ad G 11 (0))), (1, .int (y1)), (3, .int (y3))] [] Ω 0 0 := by
  intro n
  induction n with
  | zero => intro y5 y4 r hf; exact absurd hf (by rw [fX11_isIn_l6]; exact nofun)
  | succ n ih =>
    intro y5 y4 r hf hk
    refine x_iload (pc2 := 8) C dX11_isIn_6 0 rfl rfl ?_
    refine x_if_lt (tgt := 93) (pc2 := 11) C dX11_isIn_8 (by decide) rfl (fun qc_1 => ?_) (fun qc_1 => ?_)
    · rw [fX11_isIn_l6, if_pos qc_1] at hf
      exact x_sub (lv2 := [(4, _)]) C [1] rfl (hk _ (Option.some.inj hf).symm)
    · refine x_iconst (pc2 := 12) (v := 0) C dX11_isIn_11 rfl rfl ?_
      refine x_istore (pc2 := 14) (lv2 := [(6, _), (5, _), (4, _), (0, _), (1, _), (3, _)]) C dX11_isIn_12 (by decide) rfl rfl ?_
      rcases opt_em (fX11_isIn_l14 Ω y5 y1 y3 ((xI Ω 2129 0 (((24 : Int32) * y1) + y5).toNatClampNeg).toNatClampNeg + 1) (0 : Int32) y4) with hq_2 | ⟨q_2, hq_2⟩
      · exact absurd hf (by rw [fX11_isIn_l6, if_neg qc_1, ob_n hq_2]; exact nofun)
      refine x_sub (lv2 := [(6, _), (5, _), (4, _), (0, _), (1, _), (3, _)]) C [0, 1, 2, 3, 4, 5] rfl (lX11_isIn_l14 hok (by assumption) C ((xI Ω 2129 0 (((24 : Int32) * y1) + y5).toNatClampNeg).toNatClampNeg + 1) (0 : Int32) y4 hq_2 (fun q9 h9 => ?_))
      cases h9
      refine x_aload_n (pc2 := 77) C dX11_isIn_76 2 rfl rfl rfl ?_
      refine x_getR (f := 1120) (k2 := 2120) (pc2 := 80) C (by assumption) kf_11_67 dX11_isIn_77 rfl rfl rfl (rti_i rfl) rfl (fun qd_3 => ?_)
      refine x_bipush (pc2 := 82) (v := 24) C dX11_isIn_80 rfl rfl ?_
      refine x_iload_n (pc2 := 83) C dX11_isIn_82 3 rfl rfl rfl ?_
      refine x_imul (pc2 := 84) C dX11_isIn_83 rfl ?_
      refine x_iload (pc2 := 86) C dX11_isIn_84 0 rfl rfl ?_
      refine x_iadd (pc2 := 87) C dX11_isIn_86 rfl ?_
      rcases (Decidable.em (inB (((24 : Int32) * y1) + y5) 48)).symm with qg_4 | qg_4
      · exact absurd hf (by rw [fX11_isIn_l6, if_neg qc_1, ob_s hq_2, if_neg qg_4]; exact nofun)
      refine x_iald (pc2 := 88) C (by assumption) dX11_isIn_87 rfl (inB_in qg_4) rfl ?_
      refine x_istore (pc2 := 90) (lv2 := [(5, _), (4, _), (0, _), (1, _), (3, _)]) C dX11_isIn_88 (by decide) rfl rfl ?_
      refine x_goto (tgt := 6) C dX11_isIn_90 (by decide) ?_
      exact x_sub (lv2 := [(5, _), (4, _), (0, _), (1, _), (3, _)]) C [0, 1, 2, 3, 4] rfl (ih (xI Ω 2120 0 (((24 : Int32) * y1) + y5).toNatClampNeg) q_2.2 (by rw [fX11_isIn_l6, if_neg qc_1, ob_s hq_2, if_pos qg_4] at hf; exact hf) hk)
def fX11_isIn (Ω : XO) (x1 : Int32) (x2 : Int32) (x3 : Int32) : Option (Int32) := (fX11_isIn_l6 Ω x1 x3 25 x2 (0 : Int32)).bind (fun q_1 => (if q_1.2 = 0 ∨ q_1.2 = 1 then (some q_1.2) else none))
set_option maxRecDepth 20000 in
theorem tX11_isIn {G : XG} (hok : XK G) {x1 : Int32} {x2 : Int32} {x3 : Int32} {Ω : XO} (hd0 : dm G 11 0)   {r : Int32} (hf : fX11_isIn Ω x1 x2 x3 = some r) : XM G yX11_isIn cX11_isIn 7 ((some FieldType.boolean)) (RM 0 0) [.ref (ad G 11 0), .int x1, .int x2, .int x3] Ω (.inl (some (.int (r)))) Ω := by
  refine x_start (lv := [(0, .ref (ad G 11 0)), (1, .int x1), (2, .int x2), (3, .int x3)]) (own := RX11) hok (by decide +kernel) rfl (Nat.le_of_ble_eq_true rfl) rfl (fun B C => ?_)
  refine x_iconst (pc2 := 1) (v := 0) C dX11_isIn_0 rfl rfl ?_
  refine x_istore (pc2 := 3) (lv2 := [(4, _), (0, _), (1, _), (2, _), (3, _)]) C dX11_isIn_1 (by decide) rfl rfl ?_
  refine x_iload_n (pc2 := 4) C dX11_isIn_3 3 rfl rfl rfl ?_
  refine x_istore (pc2 := 6) (lv2 := [(5, _), (4, _), (0, _), (1, _), (2, _), (3, _)]) C dX11_isIn_4 (by decide) rfl rfl ?_
  rcases opt_em (fX11_isIn_l6 Ω x1 x3 25 x2 (0 : Int32)) with hq_1 | ⟨q_1, hq_1⟩
  · exact absurd hf (by rw [fX11_isIn, ob_n hq_1]; exact nofun)
  refine x_sub (lv2 := [(5, _), (4, _), (0, _), (1, _), (3, _)]) C [0, 1, 2, 3, 5] rfl (lX11_isIn_l6 hok (by assumption) C 25 x2 (0 : Int32) hq_1 (fun q9 h9 => ?_))
  cases h9
  refine x_iload (pc2 := 95) C dX11_isIn_93 0 rfl rfl ?_
  rcases (Decidable.em (q_1.2 = 0 ∨ q_1.2 = 1)).symm with qg_2 | qg_2
  · exact absurd hf (by rw [fX11_isIn, ob_s hq_1, if_neg qg_2]; exact nofun)
  rw [fX11_isIn, ob_s hq_1, if_pos qg_2] at hf
  obtain rfl := (Option.some.inj hf).symm
  exact x_zreturn C dX11_isIn_95 rfl qg_2 (Nat.le_of_ble_eq_true rfl) (Nat.le_of_ble_eq_true rfl) rfl rfl
def fX11_pooled (Ω : XO) (x1 : Int32) (x2 : Int32) (x3 : Int32) : Option (Int32) := (if inB (((40 : Int32) * x1) + x2) 80 then (((if (xI Ω 2119 0 (((40 : Int32) * x1) + x2).toNatClampNeg) = 0 then (fX11_isIn Ω x1 x3 x2).bind (fun r_5 => (if r_5 = 0 then (some (1 : Int32)) else (some (0 : Int32)))) else (some (0 : Int32))) : Option (Int32))).bind (fun j_3 => (if j_3 = 0 ∨ j_3 = 1 then (some j_3) else none)) else none)
set_option maxRecDepth 20000 in
theorem tX11_pooled {G : XG} (hok : XK G) {x1 : Int32} {x2 : Int32} {x3 : Int32} {Ω : XO} (hd0 : dm G 11 0)   {r : Int32} (hf : fX11_pooled Ω x1 x2 x3 = some r) : XM G yX11_pooled cX11_pooled 4 ((some FieldType.boolean)) (RM 1 0) [.ref (ad G 11 0), .int x1, .int x2, .int x3] Ω (.inl (some (.int (r)))) Ω := by
  refine x_start (lv := [(0, .ref (ad G 11 0)), (1, .int x1), (2, .int x2), (3, .int x3)]) (own := RX11) hok (by decide +kernel) rfl (Nat.le_of_ble_eq_true rfl) rfl (fun B C => ?_)
  refine x_aload_n (pc2 := 1) C dX11_pooled_0 0 rfl rfl rfl ?_
  refine x_getR (f := 1119) (k2 := 2119) (pc2 := 4) C (by assumption) kf_11_64 dX11_pooled_1 rfl rfl rfl (rti_i rfl) rfl (fun qd_1 => ?_)
  refine x_bipush (pc2 := 6) (v := 40) C dX11_pooled_4 rfl rfl ?_
  refine x_iload_n (pc2 := 7) C dX11_pooled_6 1 rfl rfl rfl ?_
  refine x_imul (pc2 := 8) C dX11_pooled_7 rfl ?_
  refine x_iload_n (pc2 := 9) C dX11_pooled_8 2 rfl rfl rfl ?_
  refine x_iadd (pc2 := 10) C dX11_pooled_9 rfl ?_
  rcases (Decidable.em (inB (((40 : Int32) * x1) + x2) 80)).symm with qg_2 | qg_2
  · exact absurd hf (by rw [fX11_pooled, if_neg qg_2]; exact nofun)
  refine x_iald (pc2 := 11) C (by assumption) dX11_pooled_10 rfl (inB_in qg_2) rfl ?_
  rcases opt_em ((if (xI Ω 2119 0 (((40 : Int32) * x1) + x2).toNatClampNeg) = 0 then (fX11_isIn Ω x1 x3 x2).bind (fun r_5 => (if r_5 = 0 then (some (1 : Int32)) else (some (0 : Int32)))) else (some (0 : Int32))) : Option (Int32)) with hq_3 | ⟨j_3, hq_3⟩
  · exact absurd hf (by rw [fX11_pooled, if_pos qg_2, ob_n hq_3]; exact nofun)
  suffices hj_3 : XW G B 4 29 [] [.int (j_3)] Ω 0 0 by
    refine x_if_ne (tgt := 28) (pc2 := 14) C dX11_pooled_11 (by decide) rfl (fun qc_4 => ?_) (fun qc_4 => ?_)
    · refine x_iconst (pc2 := 29) (v := 0) C dX11_pooled_28 rfl rfl ?_
      rw [if_neg qc_4] at hq_3
      obtain rfl := (Option.some.inj hq_3).symm
      exact x_sub (lv2 := []) C [] rfl hj_3
    · refine x_aload_n (pc2 := 15) C dX11_pooled_14 0 rfl rfl rfl ?_
      refine x_iload_n (pc2 := 16) C dX11_pooled_15 1 rfl rfl rfl ?_
      refine x_iload_n (pc2 := 17) C dX11_pooled_16 3 rfl rfl rfl ?_
      refine x_iload_n (pc2 := 18) C dX11_pooled_17 2 rfl rfl rfl ?_
      rcases opt_em (fX11_isIn Ω x1 x3 x2) with hq_5 | ⟨r_5, hq_5⟩
      · exact absurd hq_3 (by rw [if_pos qc_4, ob_n hq_5]; exact nofun)
      refine x_ret (rest := []) (st2 := [_]) (pc2 := 21) (cu2 := 0) (su2 := 0) (x_cV C (by assumption) (Nat.le_of_ble_eq_true rfl) kmX11_isIn rfl kk_11_217 (tX11_isIn hok (by assumption)  hq_5) rfl rfl (Nat.le_of_ble_eq_true rfl) ⟨Nat.le_of_ble_eq_true rfl, Nat.le_of_ble_eq_true rfl⟩ ⟨Nat.le_of_ble_eq_true rfl, Nat.le_of_ble_eq_true rfl⟩ dX11_pooled_18) rfl rfl rfl rfl ?_
      refine x_if_ne (tgt := 28) (pc2 := 24) C dX11_pooled_21 (by decide) rfl (fun qc_6 => ?_) (fun qc_6 => ?_)
      · refine x_iconst (pc2 := 29) (v := 0) C dX11_pooled_28 rfl rfl ?_
        rw [if_pos qc_4, ob_s hq_5, if_neg qc_6] at hq_3
        obtain rfl := (Option.some.inj hq_3).symm
        exact x_sub (lv2 := []) C [] rfl hj_3
      · refine x_iconst (pc2 := 25) (v := 1) C dX11_pooled_24 rfl rfl ?_
        refine x_goto (tgt := 29) C dX11_pooled_25 (by decide) ?_
        rw [if_pos qc_4, ob_s hq_5, if_pos qc_6] at hq_3
        obtain rfl := (Option.some.inj hq_3).symm
        exact x_sub (lv2 := []) C [] rfl hj_3
  rcases (Decidable.em (j_3 = 0 ∨ j_3 = 1)).symm with qg_7 | qg_7
  · exact absurd hf (by rw [fX11_pooled, if_pos qg_2, ob_s hq_3, if_neg qg_7]; exact nofun)
  rw [fX11_pooled, if_pos qg_2, ob_s hq_3, if_pos qg_7] at hf
  obtain rfl := (Option.some.inj hf).symm
  exact x_zreturn C dX11_pooled_29 rfl qg_7 (Nat.le_of_ble_eq_true rfl) (Nat.le_of_ble_eq_true rfl) rfl rfl
def fX11_copyIn_l2 (y1 : Int32) : Nat → Int32 → XO → Option (Int32 × XO)
  | 0, _, _ => none
  | n + 1, y2, Ω => (if (120 : Int32) ≤ y2 then (some (y2, Ω)) else (if inB (y1 + y2) 5760 then (if inB y2 120 then (wl (uI Ω 2101 0 y2.toNatClampNeg (xI Ω 2100 0 (y1 + y2).toNatClampNeg)) (fun Ω_6 => fX11_copyIn_l2 y1 n (y2 + 1) Ω_6)) else none) else none))
set_option maxRecDepth 20000 in
theorem lX11_copyIn_l2 {G : XG} (hok : XK G) {B : XB} {y1 : Int32}  (hf0 : dm G 11 0)   {T : Option Value ⊕ String} {Ω9 : XO} (C : XC G B cX11_copyIn RX11 (RM 0 0) 3 none T Ω9) : ∀ (n : Nat) (y2 : Int32) (Ω : XO) {r : (Int32 × XO)}, fX11_copyIn_l2 y1 n y2 Ω = some r → (∀ q, r = q → (XW G B 3 28 [] [] q.2 0 0)) → XW G B 3 2 [(2, .int (y2)), (0, .ref (ad G 11 (0))), (1, .int (y1))] [] Ω 0 0 := by
  intro n
  induction n with
  | zero => intro y2 Ω r hf; exact absurd hf (by rw [fX11_copyIn_l2]; exact nofun)
  | succ n ih =>
    intro y2 Ω r hf hk
    refine x_iload_n (pc2 := 3) C dX11_copyIn_2 0 rfl rfl rfl ?_
    refine x_bipush (pc2 := 5) (v := 120) C dX11_copyIn_3 rfl rfl ?_
    refine x_icmp_ge (tgt := 28) (pc2 := 8) C dX11_copyIn_5 (by decide) rfl (fun qc_1 => ?_) (fun qc_1 => ?_)
    · rw [fX11_copyIn_l2, if_pos qc_1] at hf
      exact x_sub (lv2 := []) C [] rfl (hk _ (Option.some.inj hf).symm)
    · refine x_aload_n (pc2 := 9) C dX11_copyIn_8 1 rfl rfl rfl ?_
      refine x_getR (f := 1101) (k2 := 2101) (pc2 := 12) C (by assumption) kf_11_13 dX11_copyIn_9 rfl rfl rfl (rti_i rfl) rfl (fun qd_2 => ?_)
      refine x_iload_n (pc2 := 13) C dX11_copyIn_12 0 rfl rfl rfl ?_
      refine x_aload_n (pc2 := 14) C dX11_copyIn_13 1 rfl rfl rfl ?_
      refine x_getR (f := 1100) (k2 := 2100) (pc2 := 17) C (by assumption) kf_11_7 dX11_copyIn_14 rfl rfl rfl (rti_i rfl) rfl (fun qd_3 => ?_)
      refine x_iload_n (pc2 := 18) C dX11_copyIn_17 2 rfl rfl rfl ?_
      refine x_iload_n (pc2 := 19) C dX11_copyIn_18 0 rfl rfl rfl ?_
      refine x_iadd (pc2 := 20) C dX11_copyIn_19 rfl ?_
      rcases (Decidable.em (inB (y1 + y2) 5760)).symm with qg_4 | qg_4
      · exact absurd hf (by rw [fX11_copyIn_l2, if_neg qc_1, if_neg qg_4]; exact nofun)
      refine x_iald (pc2 := 21) C (by assumption) dX11_copyIn_20 rfl (inB_in qg_4) rfl ?_
      rcases (Decidable.em (inB y2 120)).symm with qg_5 | qg_5
      · exact absurd hf (by rw [fX11_copyIn_l2, if_neg qc_1, if_pos qg_4, if_neg qg_5]; exact nofun)
      refine x_iast (pc2 := 22) C (by assumption) dX11_copyIn_21 rfl (inB_in qg_5) rfl ?_
      obtain ⟨Ω_6, hw_6⟩ : ∃ z, z = uI Ω 2101 0 y2.toNatClampNeg (xI Ω 2100 0 (y1 + y2).toNatClampNeg) := ⟨_, rfl⟩
      refine x_om hw_6 ?_
      refine x_iinc (pc2 := 25) (v := y2 + 1) (lv2 := [(2, _), (0, _), (1, _)]) C dX11_copyIn_22 0 rfl rfl (by decide) rfl rfl ?_
      refine x_goto (tgt := 2) C dX11_copyIn_25 (by decide) ?_
      exact x_sub (lv2 := [(2, _), (0, _), (1, _)]) C [0, 1, 2] rfl (ih (y2 + 1) Ω_6 (by rw [fX11_copyIn_l2, if_neg qc_1, if_pos qg_4, if_pos qg_5, wl_eq hw_6] at hf; exact hf) hk)
def fX11_copyIn (Ω : XO) (x1 : Int32) : Option (XO) := (fX11_copyIn_l2 x1 121 (0 : Int32) Ω).bind (fun q_1 => (some q_1.2))
set_option maxRecDepth 20000 in
theorem tX11_copyIn {G : XG} (hok : XK G) {x1 : Int32} {Ω : XO} (hd0 : dm G 11 0)   {r : XO} (hf : fX11_copyIn Ω x1 = some r) : XM G yX11_copyIn cX11_copyIn 3 none (RM 0 0) [.ref (ad G 11 0), .int x1] Ω (.inl none) (r) := by
  refine x_start (lv := [(0, .ref (ad G 11 0)), (1, .int x1)]) (own := RX11) hok (by decide +kernel) rfl (Nat.le_of_ble_eq_true rfl) rfl (fun B C => ?_)
  refine x_iconst (pc2 := 1) (v := 0) C dX11_copyIn_0 rfl rfl ?_
  refine x_istore_n (pc2 := 2) (lv2 := [(2, _), (0, _), (1, _)]) C dX11_copyIn_1 rfl (by decide) rfl rfl ?_
  rcases opt_em (fX11_copyIn_l2 x1 121 (0 : Int32) Ω) with hq_1 | ⟨q_1, hq_1⟩
  · exact absurd hf (by rw [fX11_copyIn, ob_n hq_1]; exact nofun)
  refine x_sub (lv2 := [(2, _), (0, _), (1, _)]) C [0, 1, 2] rfl (lX11_copyIn_l2 hok (by assumption) C 121 (0 : Int32) Ω hq_1 (fun q9 h9 => ?_))
  cases h9
  rw [fX11_copyIn, ob_s hq_1] at hf
  obtain rfl := (Option.some.inj hf).symm
  exact x_vreturn C dX11_copyIn_28 rfl (Nat.le_of_ble_eq_true rfl) (Nat.le_of_ble_eq_true rfl) rfl rfl
def fX11_snap_l2 (y1 : Int32) : Nat → Int32 → XO → Option (Int32 × XO)
  | 0, _, _ => none
  | n + 1, y2, Ω => (if (120 : Int32) ≤ y2 then (some (y2, Ω)) else (if inB y2 120 then (if inB (((120 : Int32) * y1) + y2) 600 then (wl (uI Ω 2102 0 (((120 : Int32) * y1) + y2).toNatClampNeg (xI Ω 2101 0 y2.toNatClampNeg)) (fun Ω_6 => fX11_snap_l2 y1 n (y2 + 1) Ω_6)) else none) else none))
set_option maxRecDepth 20000 in
theorem lX11_snap_l2 {G : XG} (hok : XK G) {B : XB} {y1 : Int32}  (hf0 : dm G 11 0)   {T : Option Value ⊕ String} {Ω9 : XO} (C : XC G B cX11_snap RX11 (RM 0 0) 3 none T Ω9) : ∀ (n : Nat) (y2 : Int32) (Ω : XO) {r : (Int32 × XO)}, fX11_snap_l2 y1 n y2 Ω = some r → (∀ q, r = q → (XW G B 3 31 [] [] q.2 0 0)) → XW G B 3 2 [(2, .int (y2)), (0, .ref (ad G 11 (0))), (1, .int (y1))] [] Ω 0 0 := by
  intro n
  induction n with
  | zero => intro y2 Ω r hf; exact absurd hf (by rw [fX11_snap_l2]; exact nofun)
  | succ n ih =>
    intro y2 Ω r hf hk
    refine x_iload_n (pc2 := 3) C dX11_snap_2 0 rfl rfl rfl ?_
    refine x_bipush (pc2 := 5) (v := 120) C dX11_snap_3 rfl rfl ?_
    refine x_icmp_ge (tgt := 31) (pc2 := 8) C dX11_snap_5 (by decide) rfl (fun qc_1 => ?_) (fun qc_1 => ?_)
    · rw [fX11_snap_l2, if_pos qc_1] at hf
      exact x_sub (lv2 := []) C [] rfl (hk _ (Option.some.inj hf).symm)
    · refine x_aload_n (pc2 := 9) C dX11_snap_8 1 rfl rfl rfl ?_
      refine x_getR (f := 1102) (k2 := 2102) (pc2 := 12) C (by assumption) kf_11_16 dX11_snap_9 rfl rfl rfl (rti_i rfl) rfl (fun qd_2 => ?_)
      refine x_bipush (pc2 := 14) (v := 120) C dX11_snap_12 rfl rfl ?_
      refine x_iload_n (pc2 := 15) C dX11_snap_14 2 rfl rfl rfl ?_
      refine x_imul (pc2 := 16) C dX11_snap_15 rfl ?_
      refine x_iload_n (pc2 := 17) C dX11_snap_16 0 rfl rfl rfl ?_
      refine x_iadd (pc2 := 18) C dX11_snap_17 rfl ?_
      refine x_aload_n (pc2 := 19) C dX11_snap_18 1 rfl rfl rfl ?_
      refine x_getR (f := 1101) (k2 := 2101) (pc2 := 22) C (by assumption) kf_11_13 dX11_snap_19 rfl rfl rfl (rti_i rfl) rfl (fun qd_3 => ?_)
      refine x_iload_n (pc2 := 23) C dX11_snap_22 0 rfl rfl rfl ?_
      rcases (Decidable.em (inB y2 120)).symm with qg_4 | qg_4
      · exact absurd hf (by rw [fX11_snap_l2, if_neg qc_1, if_neg qg_4]; exact nofun)
      refine x_iald (pc2 := 24) C (by assumption) dX11_snap_23 rfl (inB_in qg_4) rfl ?_
      rcases (Decidable.em (inB (((120 : Int32) * y1) + y2) 600)).symm with qg_5 | qg_5
      · exact absurd hf (by rw [fX11_snap_l2, if_neg qc_1, if_pos qg_4, if_neg qg_5]; exact nofun)
      refine x_iast (pc2 := 25) C (by assumption) dX11_snap_24 rfl (inB_in qg_5) rfl ?_
      obtain ⟨Ω_6, hw_6⟩ : ∃ z, z = uI Ω 2102 0 (((120 : Int32) * y1) + y2).toNatClampNeg (xI Ω 2101 0 y2.toNatClampNeg) := ⟨_, rfl⟩
      refine x_om hw_6 ?_
      refine x_iinc (pc2 := 28) (v := y2 + 1) (lv2 := [(2, _), (0, _), (1, _)]) C dX11_snap_25 0 rfl rfl (by decide) rfl rfl ?_
      refine x_goto (tgt := 2) C dX11_snap_28 (by decide) ?_
      exact x_sub (lv2 := [(2, _), (0, _), (1, _)]) C [0, 1, 2] rfl (ih (y2 + 1) Ω_6 (by rw [fX11_snap_l2, if_neg qc_1, if_pos qg_4, if_pos qg_5, wl_eq hw_6] at hf; exact hf) hk)
def fX11_snap (Ω : XO) (x1 : Int32) : Option (XO) := (fX11_snap_l2 x1 121 (0 : Int32) Ω).bind (fun q_1 => (some q_1.2))
set_option maxRecDepth 20000 in
theorem tX11_snap {G : XG} (hok : XK G) {x1 : Int32} {Ω : XO} (hd0 : dm G 11 0)   {r : XO} (hf : fX11_snap Ω x1 = some r) : XM G yX11_snap cX11_snap 3 none (RM 0 0) [.ref (ad G 11 0), .int x1] Ω (.inl none) (r) := by
  refine x_start (lv := [(0, .ref (ad G 11 0)), (1, .int x1)]) (own := RX11) hok (by decide +kernel) rfl (Nat.le_of_ble_eq_true rfl) rfl (fun B C => ?_)
  refine x_iconst (pc2 := 1) (v := 0) C dX11_snap_0 rfl rfl ?_
  refine x_istore_n (pc2 := 2) (lv2 := [(2, _), (0, _), (1, _)]) C dX11_snap_1 rfl (by decide) rfl rfl ?_
  rcases opt_em (fX11_snap_l2 x1 121 (0 : Int32) Ω) with hq_1 | ⟨q_1, hq_1⟩
  · exact absurd hf (by rw [fX11_snap, ob_n hq_1]; exact nofun)
  refine x_sub (lv2 := [(2, _), (0, _), (1, _)]) C [0, 1, 2] rfl (lX11_snap_l2 hok (by assumption) C 121 (0 : Int32) Ω hq_1 (fun q9 h9 => ?_))
  cases h9
  rw [fX11_snap, ob_s hq_1] at hf
  obtain rfl := (Option.some.inj hf).symm
  exact x_vreturn C dX11_snap_31 rfl (Nat.le_of_ble_eq_true rfl) (Nat.le_of_ble_eq_true rfl) rfl rfl
def fX11_undo_l2 (y1 : Int32) : Nat → Int32 → XO → Option (Int32 × XO)
  | 0, _, _ => none
  | n + 1, y2, Ω => (if (120 : Int32) ≤ y2 then (some (y2, Ω)) else (if inB (((120 : Int32) * y1) + y2) 600 then (if inB y2 120 then (wl (uI Ω 2101 0 y2.toNatClampNeg (xI Ω 2102 0 (((120 : Int32) * y1) + y2).toNatClampNeg)) (fun Ω_6 => fX11_undo_l2 y1 n (y2 + 1) Ω_6)) else none) else none))
set_option maxRecDepth 20000 in
theorem lX11_undo_l2 {G : XG} (hok : XK G) {B : XB} {y1 : Int32}  (hf0 : dm G 11 0)   {T : Option Value ⊕ String} {Ω9 : XO} (C : XC G B cX11_undo RX11 (RM 0 0) 3 none T Ω9) : ∀ (n : Nat) (y2 : Int32) (Ω : XO) {r : (Int32 × XO)}, fX11_undo_l2 y1 n y2 Ω = some r → (∀ q, r = q → (XW G B 3 31 [] [] q.2 0 0)) → XW G B 3 2 [(2, .int (y2)), (0, .ref (ad G 11 (0))), (1, .int (y1))] [] Ω 0 0 := by
  intro n
  induction n with
  | zero => intro y2 Ω r hf; exact absurd hf (by rw [fX11_undo_l2]; exact nofun)
  | succ n ih =>
    intro y2 Ω r hf hk
    refine x_iload_n (pc2 := 3) C dX11_undo_2 0 rfl rfl rfl ?_
    refine x_bipush (pc2 := 5) (v := 120) C dX11_undo_3 rfl rfl ?_
    refine x_icmp_ge (tgt := 31) (pc2 := 8) C dX11_undo_5 (by decide) rfl (fun qc_1 => ?_) (fun qc_1 => ?_)
    · rw [fX11_undo_l2, if_pos qc_1] at hf
      exact x_sub (lv2 := []) C [] rfl (hk _ (Option.some.inj hf).symm)
    · refine x_aload_n (pc2 := 9) C dX11_undo_8 1 rfl rfl rfl ?_
      refine x_getR (f := 1101) (k2 := 2101) (pc2 := 12) C (by assumption) kf_11_13 dX11_undo_9 rfl rfl rfl (rti_i rfl) rfl (fun qd_2 => ?_)
      refine x_iload_n (pc2 := 13) C dX11_undo_12 0 rfl rfl rfl ?_
      refine x_aload_n (pc2 := 14) C dX11_undo_13 1 rfl rfl rfl ?_
      refine x_getR (f := 1102) (k2 := 2102) (pc2 := 17) C (by assumption) kf_11_16 dX11_undo_14 rfl rfl rfl (rti_i rfl) rfl (fun qd_3 => ?_)
      refine x_bipush (pc2 := 19) (v := 120) C dX11_undo_17 rfl rfl ?_
      refine x_iload_n (pc2 := 20) C dX11_undo_19 2 rfl rfl rfl ?_
      refine x_imul (pc2 := 21) C dX11_undo_20 rfl ?_
      refine x_iload_n (pc2 := 22) C dX11_undo_21 0 rfl rfl rfl ?_
      refine x_iadd (pc2 := 23) C dX11_undo_22 rfl ?_
      rcases (Decidable.em (inB (((120 : Int32) * y1) + y2) 600)).symm with qg_4 | qg_4
      · exact absurd hf (by rw [fX11_undo_l2, if_neg qc_1, if_neg qg_4]; exact nofun)
      refine x_iald (pc2 := 24) C (by assumption) dX11_undo_23 rfl (inB_in qg_4) rfl ?_
      rcases (Decidable.em (inB y2 120)).symm with qg_5 | qg_5
      · exact absurd hf (by rw [fX11_undo_l2, if_neg qc_1, if_pos qg_4, if_neg qg_5]; exact nofun)
      refine x_iast (pc2 := 25) C (by assumption) dX11_undo_24 rfl (inB_in qg_5) rfl ?_
      obtain ⟨Ω_6, hw_6⟩ : ∃ z, z = uI Ω 2101 0 y2.toNatClampNeg (xI Ω 2102 0 (((120 : Int32) * y1) + y2).toNatClampNeg) := ⟨_, rfl⟩
      refine x_om hw_6 ?_
      refine x_iinc (pc2 := 28) (v := y2 + 1) (lv2 := [(2, _), (0, _), (1, _)]) C dX11_undo_25 0 rfl rfl (by decide) rfl rfl ?_
      refine x_goto (tgt := 2) C dX11_undo_28 (by decide) ?_
      exact x_sub (lv2 := [(2, _), (0, _), (1, _)]) C [0, 1, 2] rfl (ih (y2 + 1) Ω_6 (by rw [fX11_undo_l2, if_neg qc_1, if_pos qg_4, if_pos qg_5, wl_eq hw_6] at hf; exact hf) hk)
def fX11_undo (Ω : XO) (x1 : Int32) : Option (XO) := (fX11_undo_l2 x1 121 (0 : Int32) Ω).bind (fun q_1 => (some q_1.2))
set_option maxRecDepth 20000 in
theorem tX11_undo {G : XG} (hok : XK G) {x1 : Int32} {Ω : XO} (hd0 : dm G 11 0)   {r : XO} (hf : fX11_undo Ω x1 = some r) : XM G yX11_undo cX11_undo 3 none (RM 0 0) [.ref (ad G 11 0), .int x1] Ω (.inl none) (r) := by
  refine x_start (lv := [(0, .ref (ad G 11 0)), (1, .int x1)]) (own := RX11) hok (by decide +kernel) rfl (Nat.le_of_ble_eq_true rfl) rfl (fun B C => ?_)
  refine x_iconst (pc2 := 1) (v := 0) C dX11_undo_0 rfl rfl ?_
  refine x_istore_n (pc2 := 2) (lv2 := [(2, _), (0, _), (1, _)]) C dX11_undo_1 rfl (by decide) rfl rfl ?_
  rcases opt_em (fX11_undo_l2 x1 121 (0 : Int32) Ω) with hq_1 | ⟨q_1, hq_1⟩
  · exact absurd hf (by rw [fX11_undo, ob_n hq_1]; exact nofun)
  refine x_sub (lv2 := [(2, _), (0, _), (1, _)]) C [0, 1, 2] rfl (lX11_undo_l2 hok (by assumption) C 121 (0 : Int32) Ω hq_1 (fun q9 h9 => ?_))
  cases h9
  rw [fX11_undo, ob_s hq_1] at hf
  obtain rfl := (Option.some.inj hf).symm
  exact x_vreturn C dX11_undo_31 rfl (Nat.le_of_ble_eq_true rfl) (Nat.le_of_ble_eq_true rfl) rfl rfl
def fX11_begin_l93 (y6 : Int32) : Nat → Int32 → XO → Option (Int32 × XO)
  | 0, _, _ => none
  | n + 1, y7, Ω => (if (16 : Int32) ≤ y7 then (some (y7, Ω)) else (if inB (((16 : Int32) * y6) + y7) 80 then (wl (uI Ω 2149 0 (((16 : Int32) * y6) + y7).toNatClampNeg (0 : Int32)) (fun Ω_4 => fX11_begin_l93 y6 n (y7 + 1) Ω_4)) else none))
set_option maxRecDepth 20000 in
theorem lX11_begin_l93 {G : XG} (hok : XK G) {B : XB} {y6 : Int32}  (hf0 : dm G 11 0)   {T : Option Value ⊕ String} {Ω9 : XO} (C : XC G B cX11_begin RX11 (RM 0 0) 8 none T Ω9) : ∀ (n : Nat) (y7 : Int32) (Ω : XO) {r : (Int32 × XO)}, fX11_begin_l93 y6 n y7 Ω = some r → (∀ q, r = q → (XW G B 8 120 [(0, .ref (ad G 11 (0)))] [] q.2 0 0)) → XW G B 8 93 [(7, .int (y7)), (6, .int (y6)), (0, .ref (ad G 11 (0)))] [] Ω 0 0 := by
  intro n
  induction n with
  | zero => intro y7 Ω r hf; exact absurd hf (by rw [fX11_begin_l93]; exact nofun)
  | succ n ih =>
    intro y7 Ω r hf hk
    refine x_iload (pc2 := 95) C dX11_begin_93 0 rfl rfl ?_
    refine x_bipush (pc2 := 97) (v := 16) C dX11_begin_95 rfl rfl ?_
    refine x_icmp_ge (tgt := 120) (pc2 := 100) C dX11_begin_97 (by decide) rfl (fun qc_1 => ?_) (fun qc_1 => ?_)
    · rw [fX11_begin_l93, if_pos qc_1] at hf
      exact x_sub (lv2 := [(0, _)]) C [2] rfl (hk _ (Option.some.inj hf).symm)
    · refine x_aload_n (pc2 := 101) C dX11_begin_100 2 rfl rfl rfl ?_
      refine x_getR (f := 1149) (k2 := 2149) (pc2 := 104) C (by assumption) kf_11_155 dX11_begin_101 rfl rfl rfl (rti_i rfl) rfl (fun qd_2 => ?_)
      refine x_bipush (pc2 := 106) (v := 16) C dX11_begin_104 rfl rfl ?_
      refine x_iload (pc2 := 108) C dX11_begin_106 1 rfl rfl ?_
      refine x_imul (pc2 := 109) C dX11_begin_108 rfl ?_
      refine x_iload (pc2 := 111) C dX11_begin_109 0 rfl rfl ?_
      refine x_iadd (pc2 := 112) C dX11_begin_111 rfl ?_
      refine x_iconst (pc2 := 113) (v := 0) C dX11_begin_112 rfl rfl ?_
      rcases (Decidable.em (inB (((16 : Int32) * y6) + y7) 80)).symm with qg_3 | qg_3
      · exact absurd hf (by rw [fX11_begin_l93, if_neg qc_1, if_neg qg_3]; exact nofun)
      refine x_iast (pc2 := 114) C (by assumption) dX11_begin_113 rfl (inB_in qg_3) rfl ?_
      obtain ⟨Ω_4, hw_4⟩ : ∃ z, z = uI Ω 2149 0 (((16 : Int32) * y6) + y7).toNatClampNeg (0 : Int32) := ⟨_, rfl⟩
      refine x_om hw_4 ?_
      refine x_iinc (pc2 := 117) (v := y7 + 1) (lv2 := [(7, _), (6, _), (0, _)]) C dX11_begin_114 0 rfl rfl (by decide) rfl rfl ?_
      refine x_goto (tgt := 93) C dX11_begin_117 (by decide) ?_
      exact x_sub (lv2 := [(7, _), (6, _), (0, _)]) C [0, 1, 2] rfl (ih (y7 + 1) Ω_4 (by rw [fX11_begin_l93, if_neg qc_1, if_pos qg_3, wl_eq hw_4] at hf; exact hf) hk)
def fX11_begin (Ω : XO) (x1 : Int32) (x2 : Int32) (x3 : Int32) (x4 : Int32) (x5 : Int32) : Option (XO) := (if inB (xI Ω 1153 0 0) 5 then (wl (uI Ω 2140 0 (xI Ω 1153 0 0).toNatClampNeg x1) (fun Ω_3 => (if inB (xI Ω 1153 0 0) 5 then (wl (uI Ω_3 2141 0 (xI Ω 1153 0 0).toNatClampNeg x2) (fun Ω_6 => (if inB (xI Ω 1153 0 0) 5 then (wl (uI Ω_6 2142 0 (xI Ω 1153 0 0).toNatClampNeg x3) (fun Ω_9 => (if inB (xI Ω 1153 0 0) 5 then (wl (uI Ω_9 2143 0 (xI Ω 1153 0 0).toNatClampNeg x4) (fun Ω_12 => (if inB (xI Ω 1153 0 0) 5 then (wl (uI Ω_12 2144 0 (xI Ω 1153 0 0).toNatClampNeg x5) (fun Ω_15 => (if inB ((32 : Int32) + x1) 120 then (if inB (xI Ω 1153 0 0) 5 then (wl (uI Ω_15 2145 0 (xI Ω 1153 0 0).toNatClampNeg ((xI Ω_15 2101 0 ((32 : Int32) + x1).toNatClampNeg) - (1 : Int32))) (fun Ω_20 => (if inB (xI Ω 1153 0 0) 5 then (wl (uI Ω_20 2146 0 (xI Ω 1153 0 0).toNatClampNeg (0 : Int32)) (fun Ω_23 => (if inB (xI Ω 1153 0 0) 5 then (wl (uI Ω_23 2148 0 (xI Ω 1153 0 0).toNatClampNeg (0 : Int32)) (fun Ω_26 => (if inB (xI Ω 1153 0 0) 5 then (wl (uI Ω_26 2150 0 (xI Ω 1153 0 0).toNatClampNeg (-1 : Int32)) (fun Ω_29 => (fX11_begin_l93 (xI Ω 1153 0 0) 17 (0 : Int32) Ω_29).bind (fun q_30 => (wl (uI q_30.2 1153 0 0 ((xI q_30.2 1153 0 0) + (1 : Int32))) (fun Ω_31 => (some Ω_31)))))) else none))) else none))) else none))) else none) else none))) else none))) else none))) else none))) else none))) else none)
set_option maxRecDepth 20000 in
theorem tX11_begin {G : XG} (hok : XK G) {x1 : Int32} {x2 : Int32} {x3 : Int32} {x4 : Int32} {x5 : Int32} {Ω : XO} (hd0 : dm G 11 0)   {r : XO} (hf : fX11_begin Ω x1 x2 x3 x4 x5 = some r) : XM G yX11_begin cX11_begin 8 none (RM 0 0) [.ref (ad G 11 0), .int x1, .int x2, .int x3, .int x4, .int x5] Ω (.inl none) (r) := by
  refine x_start (lv := [(0, .ref (ad G 11 0)), (1, .int x1), (2, .int x2), (3, .int x3), (4, .int x4), (5, .int x5)]) (own := RX11) hok (by decide +kernel) rfl (Nat.le_of_ble_eq_true rfl) rfl (fun B C => ?_)
  refine x_aload_n (pc2 := 1) C dX11_begin_0 0 rfl rfl rfl ?_
  refine x_getI (pc2 := 4) (f := 1153) C (by assumption) kf_11_237 dX11_begin_1 rfl rfl rfl ?_
  refine x_istore (pc2 := 6) (lv2 := [(6, _), (0, _), (1, _), (2, _), (3, _), (4, _), (5, _)]) C dX11_begin_4 (by decide) rfl rfl ?_
  refine x_aload_n (pc2 := 7) C dX11_begin_6 1 rfl rfl rfl ?_
  refine x_getR (f := 1140) (k2 := 2140) (pc2 := 10) C (by assumption) kf_11_128 dX11_begin_7 rfl rfl rfl (rti_i rfl) rfl (fun qd_1 => ?_)
  refine x_iload (pc2 := 12) C dX11_begin_10 0 rfl rfl ?_
  refine x_iload_n (pc2 := 13) C dX11_begin_12 2 rfl rfl rfl ?_
  rcases (Decidable.em (inB (xI Ω 1153 0 0) 5)).symm with qg_2 | qg_2
  · exact absurd hf (by rw [fX11_begin, if_neg qg_2]; exact nofun)
  refine x_iast (pc2 := 14) C (by assumption) dX11_begin_13 rfl (inB_in qg_2) rfl ?_
  obtain ⟨Ω_3, hw_3⟩ : ∃ z, z = uI Ω 2140 0 (xI Ω 1153 0 0).toNatClampNeg x1 := ⟨_, rfl⟩
  refine x_om hw_3 ?_
  refine x_aload_n (pc2 := 15) C dX11_begin_14 1 rfl rfl rfl ?_
  refine x_getR (f := 1141) (k2 := 2141) (pc2 := 18) C (by assumption) kf_11_131 dX11_begin_15 rfl rfl rfl (rti_i rfl) rfl (fun qd_4 => ?_)
  refine x_iload (pc2 := 20) C dX11_begin_18 0 rfl rfl ?_
  refine x_iload_n (pc2 := 21) C dX11_begin_20 3 rfl rfl rfl ?_
  rcases (Decidable.em (inB (xI Ω 1153 0 0) 5)).symm with qg_5 | qg_5
  · exact absurd hf (by rw [fX11_begin, if_pos qg_2, wl_eq hw_3, if_neg qg_5]; exact nofun)
  refine x_iast (pc2 := 22) C (by assumption) dX11_begin_21 rfl (inB_in qg_5) rfl ?_
  obtain ⟨Ω_6, hw_6⟩ : ∃ z, z = uI Ω_3 2141 0 (xI Ω 1153 0 0).toNatClampNeg x2 := ⟨_, rfl⟩
  refine x_om hw_6 ?_
  refine x_aload_n (pc2 := 23) C dX11_begin_22 1 rfl rfl rfl ?_
  refine x_getR (f := 1142) (k2 := 2142) (pc2 := 26) C (by assumption) kf_11_134 dX11_begin_23 rfl rfl rfl (rti_i rfl) rfl (fun qd_7 => ?_)
  refine x_iload (pc2 := 28) C dX11_begin_26 0 rfl rfl ?_
  refine x_iload_n (pc2 := 29) C dX11_begin_28 4 rfl rfl rfl ?_
  rcases (Decidable.em (inB (xI Ω 1153 0 0) 5)).symm with qg_8 | qg_8
  · exact absurd hf (by rw [fX11_begin, if_pos qg_2, wl_eq hw_3, if_pos qg_5, wl_eq hw_6, if_neg qg_8]; exact nofun)
  refine x_iast (pc2 := 30) C (by assumption) dX11_begin_29 rfl (inB_in qg_8) rfl ?_
  obtain ⟨Ω_9, hw_9⟩ : ∃ z, z = uI Ω_6 2142 0 (xI Ω 1153 0 0).toNatClampNeg x3 := ⟨_, rfl⟩
  refine x_om hw_9 ?_
  refine x_aload_n (pc2 := 31) C dX11_begin_30 1 rfl rfl rfl ?_
  refine x_getR (f := 1143) (k2 := 2143) (pc2 := 34) C (by assumption) kf_11_137 dX11_begin_31 rfl rfl rfl (rti_i rfl) rfl (fun qd_10 => ?_)
  refine x_iload (pc2 := 36) C dX11_begin_34 0 rfl rfl ?_
  refine x_iload (pc2 := 38) C dX11_begin_36 5 rfl rfl ?_
  rcases (Decidable.em (inB (xI Ω 1153 0 0) 5)).symm with qg_11 | qg_11
  · exact absurd hf (by rw [fX11_begin, if_pos qg_2, wl_eq hw_3, if_pos qg_5, wl_eq hw_6, if_pos qg_8, wl_eq hw_9, if_neg qg_11]; exact nofun)
  refine x_iast (pc2 := 39) C (by assumption) dX11_begin_38 rfl (inB_in qg_11) rfl ?_
  obtain ⟨Ω_12, hw_12⟩ : ∃ z, z = uI Ω_9 2143 0 (xI Ω 1153 0 0).toNatClampNeg x4 := ⟨_, rfl⟩
  refine x_om hw_12 ?_
  refine x_aload_n (pc2 := 40) C dX11_begin_39 1 rfl rfl rfl ?_
  refine x_getR (f := 1144) (k2 := 2144) (pc2 := 43) C (by assumption) kf_11_140 dX11_begin_40 rfl rfl rfl (rti_i rfl) rfl (fun qd_13 => ?_)
  refine x_iload (pc2 := 45) C dX11_begin_43 0 rfl rfl ?_
  refine x_iload (pc2 := 47) C dX11_begin_45 6 rfl rfl ?_
  rcases (Decidable.em (inB (xI Ω 1153 0 0) 5)).symm with qg_14 | qg_14
  · exact absurd hf (by rw [fX11_begin, if_pos qg_2, wl_eq hw_3, if_pos qg_5, wl_eq hw_6, if_pos qg_8, wl_eq hw_9, if_pos qg_11, wl_eq hw_12, if_neg qg_14]; exact nofun)
  refine x_iast (pc2 := 48) C (by assumption) dX11_begin_47 rfl (inB_in qg_14) rfl ?_
  obtain ⟨Ω_15, hw_15⟩ : ∃ z, z = uI Ω_12 2144 0 (xI Ω 1153 0 0).toNatClampNeg x5 := ⟨_, rfl⟩
  refine x_om hw_15 ?_
  refine x_aload_n (pc2 := 49) C dX11_begin_48 1 rfl rfl rfl ?_
  refine x_getR (f := 1145) (k2 := 2145) (pc2 := 52) C (by assumption) kf_11_143 dX11_begin_49 rfl rfl rfl (rti_i rfl) rfl (fun qd_16 => ?_)
  refine x_iload (pc2 := 54) C dX11_begin_52 0 rfl rfl ?_
  refine x_aload_n (pc2 := 55) C dX11_begin_54 1 rfl rfl rfl ?_
  refine x_getR (f := 1101) (k2 := 2101) (pc2 := 58) C (by assumption) kf_11_13 dX11_begin_55 rfl rfl rfl (rti_i rfl) rfl (fun qd_17 => ?_)
  refine x_bipush (pc2 := 60) (v := 32) C dX11_begin_58 rfl rfl ?_
  refine x_iload_n (pc2 := 61) C dX11_begin_60 2 rfl rfl rfl ?_
  refine x_iadd (pc2 := 62) C dX11_begin_61 rfl ?_
  rcases (Decidable.em (inB ((32 : Int32) + x1) 120)).symm with qg_18 | qg_18
  · exact absurd hf (by rw [fX11_begin, if_pos qg_2, wl_eq hw_3, if_pos qg_5, wl_eq hw_6, if_pos qg_8, wl_eq hw_9, if_pos qg_11, wl_eq hw_12, if_pos qg_14, wl_eq hw_15, if_neg qg_18]; exact nofun)
  refine x_iald (pc2 := 63) C (by assumption) dX11_begin_62 rfl (inB_in qg_18) rfl ?_
  refine x_iconst (pc2 := 64) (v := 1) C dX11_begin_63 rfl rfl ?_
  refine x_isub (pc2 := 65) C dX11_begin_64 rfl ?_
  rcases (Decidable.em (inB (xI Ω 1153 0 0) 5)).symm with qg_19 | qg_19
  · exact absurd hf (by rw [fX11_begin, if_pos qg_2, wl_eq hw_3, if_pos qg_5, wl_eq hw_6, if_pos qg_8, wl_eq hw_9, if_pos qg_11, wl_eq hw_12, if_pos qg_14, wl_eq hw_15, if_pos qg_18, if_neg qg_19]; exact nofun)
  refine x_iast (pc2 := 66) C (by assumption) dX11_begin_65 rfl (inB_in qg_19) rfl ?_
  obtain ⟨Ω_20, hw_20⟩ : ∃ z, z = uI Ω_15 2145 0 (xI Ω 1153 0 0).toNatClampNeg ((xI Ω_15 2101 0 ((32 : Int32) + x1).toNatClampNeg) - (1 : Int32)) := ⟨_, rfl⟩
  refine x_om hw_20 ?_
  refine x_aload_n (pc2 := 67) C dX11_begin_66 1 rfl rfl rfl ?_
  refine x_getR (f := 1146) (k2 := 2146) (pc2 := 70) C (by assumption) kf_11_146 dX11_begin_67 rfl rfl rfl (rti_i rfl) rfl (fun qd_21 => ?_)
  refine x_iload (pc2 := 72) C dX11_begin_70 0 rfl rfl ?_
  refine x_iconst (pc2 := 73) (v := 0) C dX11_begin_72 rfl rfl ?_
  rcases (Decidable.em (inB (xI Ω 1153 0 0) 5)).symm with qg_22 | qg_22
  · exact absurd hf (by rw [fX11_begin, if_pos qg_2, wl_eq hw_3, if_pos qg_5, wl_eq hw_6, if_pos qg_8, wl_eq hw_9, if_pos qg_11, wl_eq hw_12, if_pos qg_14, wl_eq hw_15, if_pos qg_18, if_pos qg_19, wl_eq hw_20, if_neg qg_22]; exact nofun)
  refine x_iast (pc2 := 74) C (by assumption) dX11_begin_73 rfl (inB_in qg_22) rfl ?_
  obtain ⟨Ω_23, hw_23⟩ : ∃ z, z = uI Ω_20 2146 0 (xI Ω 1153 0 0).toNatClampNeg (0 : Int32) := ⟨_, rfl⟩
  refine x_om hw_23 ?_
  refine x_aload_n (pc2 := 75) C dX11_begin_74 1 rfl rfl rfl ?_
  refine x_getR (f := 1148) (k2 := 2148) (pc2 := 78) C (by assumption) kf_11_152 dX11_begin_75 rfl rfl rfl (rti_i rfl) rfl (fun qd_24 => ?_)
  refine x_iload (pc2 := 80) C dX11_begin_78 0 rfl rfl ?_
  refine x_iconst (pc2 := 81) (v := 0) C dX11_begin_80 rfl rfl ?_
  rcases (Decidable.em (inB (xI Ω 1153 0 0) 5)).symm with qg_25 | qg_25
  · exact absurd hf (by rw [fX11_begin, if_pos qg_2, wl_eq hw_3, if_pos qg_5, wl_eq hw_6, if_pos qg_8, wl_eq hw_9, if_pos qg_11, wl_eq hw_12, if_pos qg_14, wl_eq hw_15, if_pos qg_18, if_pos qg_19, wl_eq hw_20, if_pos qg_22, wl_eq hw_23, if_neg qg_25]; exact nofun)
  refine x_iast (pc2 := 82) C (by assumption) dX11_begin_81 rfl (inB_in qg_25) rfl ?_
  obtain ⟨Ω_26, hw_26⟩ : ∃ z, z = uI Ω_23 2148 0 (xI Ω 1153 0 0).toNatClampNeg (0 : Int32) := ⟨_, rfl⟩
  refine x_om hw_26 ?_
  refine x_aload_n (pc2 := 83) C dX11_begin_82 1 rfl rfl rfl ?_
  refine x_getR (f := 1150) (k2 := 2150) (pc2 := 86) C (by assumption) kf_11_158 dX11_begin_83 rfl rfl rfl (rti_i rfl) rfl (fun qd_27 => ?_)
  refine x_iload (pc2 := 88) C dX11_begin_86 0 rfl rfl ?_
  refine x_iconst (pc2 := 89) (v := (-1)) C dX11_begin_88 rfl rfl ?_
  rcases (Decidable.em (inB (xI Ω 1153 0 0) 5)).symm with qg_28 | qg_28
  · exact absurd hf (by rw [fX11_begin, if_pos qg_2, wl_eq hw_3, if_pos qg_5, wl_eq hw_6, if_pos qg_8, wl_eq hw_9, if_pos qg_11, wl_eq hw_12, if_pos qg_14, wl_eq hw_15, if_pos qg_18, if_pos qg_19, wl_eq hw_20, if_pos qg_22, wl_eq hw_23, if_pos qg_25, wl_eq hw_26, if_neg qg_28]; exact nofun)
  refine x_iast (pc2 := 90) C (by assumption) dX11_begin_89 rfl (inB_in qg_28) rfl ?_
  obtain ⟨Ω_29, hw_29⟩ : ∃ z, z = uI Ω_26 2150 0 (xI Ω 1153 0 0).toNatClampNeg (-1 : Int32) := ⟨_, rfl⟩
  refine x_om hw_29 ?_
  refine x_iconst (pc2 := 91) (v := 0) C dX11_begin_90 rfl rfl ?_
  refine x_istore (pc2 := 93) (lv2 := [(7, _), (6, _), (0, _), (1, _), (2, _), (3, _), (4, _), (5, _)]) C dX11_begin_91 (by decide) rfl rfl ?_
  rcases opt_em (fX11_begin_l93 (xI Ω 1153 0 0) 17 (0 : Int32) Ω_29) with hq_30 | ⟨q_30, hq_30⟩
  · exact absurd hf (by rw [fX11_begin, if_pos qg_2, wl_eq hw_3, if_pos qg_5, wl_eq hw_6, if_pos qg_8, wl_eq hw_9, if_pos qg_11, wl_eq hw_12, if_pos qg_14, wl_eq hw_15, if_pos qg_18, if_pos qg_19, wl_eq hw_20, if_pos qg_22, wl_eq hw_23, if_pos qg_25, wl_eq hw_26, if_pos qg_28, wl_eq hw_29, ob_n hq_30]; exact nofun)
  refine x_sub (lv2 := [(7, _), (6, _), (0, _)]) C [0, 1, 2] rfl (lX11_begin_l93 hok (by assumption) C 17 (0 : Int32) Ω_29 hq_30 (fun q9 h9 => ?_))
  cases h9
  refine x_aload_n (pc2 := 121) C dX11_begin_120 0 rfl rfl rfl ?_
  refine x_dup (pc2 := 122) C dX11_begin_121 rfl rfl ?_
  refine x_getI (pc2 := 125) (f := 1153) C (by assumption) kf_11_237 dX11_begin_122 rfl rfl rfl ?_
  refine x_iconst (pc2 := 126) (v := 1) C dX11_begin_125 rfl rfl ?_
  refine x_iadd (pc2 := 127) C dX11_begin_126 rfl ?_
  refine x_putI (pc2 := 130) (f := 1153) C (by assumption) kf_11_237 dX11_begin_127 rfl rfl rfl rfl rfl ?_
  obtain ⟨Ω_31, hw_31⟩ : ∃ z, z = uI q_30.2 1153 0 0 ((xI q_30.2 1153 0 0) + (1 : Int32)) := ⟨_, rfl⟩
  refine x_om hw_31 ?_
  rw [fX11_begin, if_pos qg_2, wl_eq hw_3, if_pos qg_5, wl_eq hw_6, if_pos qg_8, wl_eq hw_9, if_pos qg_11, wl_eq hw_12, if_pos qg_14, wl_eq hw_15, if_pos qg_18, if_pos qg_19, wl_eq hw_20, if_pos qg_22, wl_eq hw_23, if_pos qg_25, wl_eq hw_26, if_pos qg_28, wl_eq hw_29, ob_s hq_30, wl_eq hw_31] at hf
  obtain rfl := (Option.some.inj hf).symm
  exact x_vreturn C dX11_begin_130 rfl (Nat.le_of_ble_eq_true rfl) (Nat.le_of_ble_eq_true rfl) rfl rfl
def fX11_mark (Ω : XO) (x1 : Int32) : Option (XO) := (fX11_snap Ω x1).bind (fun r_1 => (if inB x1 5 then (wl (uI r_1 2151 0 x1.toNatClampNeg (xI r_1 1154 0 0)) (fun Ω_4 => (if inB (xI Ω_4 1158 0 0) 48 then (if inB x1 5 then (wl (uI Ω_4 2152 0 x1.toNatClampNeg (xI Ω_4 2130 0 (xI Ω_4 1158 0 0).toNatClampNeg)) (fun Ω_9 => (some Ω_9))) else none) else none))) else none))
set_option maxRecDepth 20000 in
theorem tX11_mark {G : XG} (hok : XK G) {x1 : Int32} {Ω : XO} (hd0 : dm G 11 0)   {r : XO} (hf : fX11_mark Ω x1 = some r) : XM G yX11_mark cX11_mark 2 none (RM 1 0) [.ref (ad G 11 0), .int x1] Ω (.inl none) (r) := by
  refine x_start (lv := [(0, .ref (ad G 11 0)), (1, .int x1)]) (own := RX11) hok (by decide +kernel) rfl (Nat.le_of_ble_eq_true rfl) rfl (fun B C => ?_)
  refine x_aload_n (pc2 := 1) C dX11_mark_0 0 rfl rfl rfl ?_
  refine x_iload_n (pc2 := 2) C dX11_mark_1 1 rfl rfl rfl ?_
  rcases opt_em (fX11_snap Ω x1) with hq_1 | ⟨r_1, hq_1⟩
  · exact absurd hf (by rw [fX11_mark, ob_n hq_1]; exact nofun)
  refine x_ret (rest := []) (st2 := []) (pc2 := 5) (cu2 := 0) (su2 := 0) (x_cV C (by assumption) (Nat.le_of_ble_eq_true rfl) kmX11_snap rfl kk_11_240 (tX11_snap hok (by assumption)  hq_1) rfl rfl (Nat.le_of_ble_eq_true rfl) ⟨Nat.le_of_ble_eq_true rfl, Nat.le_of_ble_eq_true rfl⟩ ⟨Nat.le_of_ble_eq_true rfl, Nat.le_of_ble_eq_true rfl⟩ dX11_mark_2) rfl rfl rfl rfl ?_
  refine x_aload_n (pc2 := 6) C dX11_mark_5 0 rfl rfl rfl ?_
  refine x_getR (f := 1151) (k2 := 2151) (pc2 := 9) C (by assumption) kf_11_161 dX11_mark_6 rfl rfl rfl (rti_i rfl) rfl (fun qd_2 => ?_)
  refine x_iload_n (pc2 := 10) C dX11_mark_9 1 rfl rfl rfl ?_
  refine x_aload_n (pc2 := 11) C dX11_mark_10 0 rfl rfl rfl ?_
  refine x_getI (pc2 := 14) (f := 1154) C (by assumption) kf_11_243 dX11_mark_11 rfl rfl rfl ?_
  rcases (Decidable.em (inB x1 5)).symm with qg_3 | qg_3
  · exact absurd hf (by rw [fX11_mark, ob_s hq_1, if_neg qg_3]; exact nofun)
  refine x_iast (pc2 := 15) C (by assumption) dX11_mark_14 rfl (inB_in qg_3) rfl ?_
  obtain ⟨Ω_4, hw_4⟩ : ∃ z, z = uI r_1 2151 0 x1.toNatClampNeg (xI r_1 1154 0 0) := ⟨_, rfl⟩
  refine x_om hw_4 ?_
  refine x_aload_n (pc2 := 16) C dX11_mark_15 0 rfl rfl rfl ?_
  refine x_getR (f := 1152) (k2 := 2152) (pc2 := 19) C (by assumption) kf_11_164 dX11_mark_16 rfl rfl rfl (rti_i rfl) rfl (fun qd_5 => ?_)
  refine x_iload_n (pc2 := 20) C dX11_mark_19 1 rfl rfl rfl ?_
  refine x_aload_n (pc2 := 21) C dX11_mark_20 0 rfl rfl rfl ?_
  refine x_getR (f := 1130) (k2 := 2130) (pc2 := 24) C (by assumption) kf_11_98 dX11_mark_21 rfl rfl rfl (rti_i rfl) rfl (fun qd_6 => ?_)
  refine x_aload_n (pc2 := 25) C dX11_mark_24 0 rfl rfl rfl ?_
  refine x_getI (pc2 := 28) (f := 1158) C (by assumption) kf_11_246 dX11_mark_25 rfl rfl rfl ?_
  rcases (Decidable.em (inB (xI Ω_4 1158 0 0) 48)).symm with qg_7 | qg_7
  · exact absurd hf (by rw [fX11_mark, ob_s hq_1, if_pos qg_3, wl_eq hw_4, if_neg qg_7]; exact nofun)
  refine x_iald (pc2 := 29) C (by assumption) dX11_mark_28 rfl (inB_in qg_7) rfl ?_
  rcases (Decidable.em (inB x1 5)).symm with qg_8 | qg_8
  · exact absurd hf (by rw [fX11_mark, ob_s hq_1, if_pos qg_3, wl_eq hw_4, if_pos qg_7, if_neg qg_8]; exact nofun)
  refine x_iast (pc2 := 30) C (by assumption) dX11_mark_29 rfl (inB_in qg_8) rfl ?_
  obtain ⟨Ω_9, hw_9⟩ : ∃ z, z = uI Ω_4 2152 0 x1.toNatClampNeg (xI Ω_4 2130 0 (xI Ω_4 1158 0 0).toNatClampNeg) := ⟨_, rfl⟩
  refine x_om hw_9 ?_
  rw [fX11_mark, ob_s hq_1, if_pos qg_3, wl_eq hw_4, if_pos qg_7, if_pos qg_8, wl_eq hw_9] at hf
  obtain rfl := (Option.some.inj hf).symm
  exact x_vreturn C dX11_mark_30 rfl (Nat.le_of_ble_eq_true rfl) (Nat.le_of_ble_eq_true rfl) rfl rfl
def fX11_undone (Ω : XO) (x1 : Int32) : Option (XO) := (fX11_undo Ω x1).bind (fun r_1 => (if inB x1 5 then (wl (uI r_1 1154 0 0 (xI r_1 2151 0 x1.toNatClampNeg)) (fun Ω_4 => (if inB x1 5 then (if inB (xI Ω_4 1158 0 0) 48 then (wl (uI Ω_4 2130 0 (xI Ω_4 1158 0 0).toNatClampNeg (xI Ω_4 2152 0 x1.toNatClampNeg)) (fun Ω_9 => (some Ω_9))) else none) else none))) else none))
set_option maxRecDepth 20000 in
theorem tX11_undone {G : XG} (hok : XK G) {x1 : Int32} {Ω : XO} (hd0 : dm G 11 0)   {r : XO} (hf : fX11_undone Ω x1 = some r) : XM G yX11_undone cX11_undone 2 none (RM 1 0) [.ref (ad G 11 0), .int x1] Ω (.inl none) (r) := by
  refine x_start (lv := [(0, .ref (ad G 11 0)), (1, .int x1)]) (own := RX11) hok (by decide +kernel) rfl (Nat.le_of_ble_eq_true rfl) rfl (fun B C => ?_)
  refine x_aload_n (pc2 := 1) C dX11_undone_0 0 rfl rfl rfl ?_
  refine x_iload_n (pc2 := 2) C dX11_undone_1 1 rfl rfl rfl ?_
  rcases opt_em (fX11_undo Ω x1) with hq_1 | ⟨r_1, hq_1⟩
  · exact absurd hf (by rw [fX11_undone, ob_n hq_1]; exact nofun)
  refine x_ret (rest := []) (st2 := []) (pc2 := 5) (cu2 := 0) (su2 := 0) (x_cV C (by assumption) (Nat.le_of_ble_eq_true rfl) kmX11_undo rfl kk_11_249 (tX11_undo hok (by assumption)  hq_1) rfl rfl (Nat.le_of_ble_eq_true rfl) ⟨Nat.le_of_ble_eq_true rfl, Nat.le_of_ble_eq_true rfl⟩ ⟨Nat.le_of_ble_eq_true rfl, Nat.le_of_ble_eq_true rfl⟩ dX11_undone_2) rfl rfl rfl rfl ?_
  refine x_aload_n (pc2 := 6) C dX11_undone_5 0 rfl rfl rfl ?_
  refine x_aload_n (pc2 := 7) C dX11_undone_6 0 rfl rfl rfl ?_
  refine x_getR (f := 1151) (k2 := 2151) (pc2 := 10) C (by assumption) kf_11_161 dX11_undone_7 rfl rfl rfl (rti_i rfl) rfl (fun qd_2 => ?_)
  refine x_iload_n (pc2 := 11) C dX11_undone_10 1 rfl rfl rfl ?_
  rcases (Decidable.em (inB x1 5)).symm with qg_3 | qg_3
  · exact absurd hf (by rw [fX11_undone, ob_s hq_1, if_neg qg_3]; exact nofun)
  refine x_iald (pc2 := 12) C (by assumption) dX11_undone_11 rfl (inB_in qg_3) rfl ?_
  refine x_putI (pc2 := 15) (f := 1154) C (by assumption) kf_11_243 dX11_undone_12 rfl rfl rfl rfl rfl ?_
  obtain ⟨Ω_4, hw_4⟩ : ∃ z, z = uI r_1 1154 0 0 (xI r_1 2151 0 x1.toNatClampNeg) := ⟨_, rfl⟩
  refine x_om hw_4 ?_
  refine x_aload_n (pc2 := 16) C dX11_undone_15 0 rfl rfl rfl ?_
  refine x_getR (f := 1130) (k2 := 2130) (pc2 := 19) C (by assumption) kf_11_98 dX11_undone_16 rfl rfl rfl (rti_i rfl) rfl (fun qd_5 => ?_)
  refine x_aload_n (pc2 := 20) C dX11_undone_19 0 rfl rfl rfl ?_
  refine x_getI (pc2 := 23) (f := 1158) C (by assumption) kf_11_246 dX11_undone_20 rfl rfl rfl ?_
  refine x_aload_n (pc2 := 24) C dX11_undone_23 0 rfl rfl rfl ?_
  refine x_getR (f := 1152) (k2 := 2152) (pc2 := 27) C (by assumption) kf_11_164 dX11_undone_24 rfl rfl rfl (rti_i rfl) rfl (fun qd_6 => ?_)
  refine x_iload_n (pc2 := 28) C dX11_undone_27 1 rfl rfl rfl ?_
  rcases (Decidable.em (inB x1 5)).symm with qg_7 | qg_7
  · exact absurd hf (by rw [fX11_undone, ob_s hq_1, if_pos qg_3, wl_eq hw_4, if_neg qg_7]; exact nofun)
  refine x_iald (pc2 := 29) C (by assumption) dX11_undone_28 rfl (inB_in qg_7) rfl ?_
  rcases (Decidable.em (inB (xI Ω_4 1158 0 0) 48)).symm with qg_8 | qg_8
  · exact absurd hf (by rw [fX11_undone, ob_s hq_1, if_pos qg_3, wl_eq hw_4, if_pos qg_7, if_neg qg_8]; exact nofun)
  refine x_iast (pc2 := 30) C (by assumption) dX11_undone_29 rfl (inB_in qg_8) rfl ?_
  obtain ⟨Ω_9, hw_9⟩ : ∃ z, z = uI Ω_4 2130 0 (xI Ω_4 1158 0 0).toNatClampNeg (xI Ω_4 2152 0 x1.toNatClampNeg) := ⟨_, rfl⟩
  refine x_om hw_9 ?_
  rw [fX11_undone, ob_s hq_1, if_pos qg_3, wl_eq hw_4, if_pos qg_7, if_pos qg_8, wl_eq hw_9] at hf
  obtain rfl := (Option.some.inj hf).symm
  exact x_vreturn C dX11_undone_30 rfl (Nat.le_of_ble_eq_true rfl) (Nat.le_of_ble_eq_true rfl) rfl rfl
def fX11_need (Ω : XO) (x1 : Int32) : Option (Int32) := (wl ((if x1 = (1 : Int32) then (2 : Int32) else (if x1 = (2 : Int32) then (2 : Int32) else (if x1 = (3 : Int32) then (2 : Int32) else (if x1 = (4 : Int32) then (2 : Int32) else (if x1 = (5 : Int32) then (2 : Int32) else (if x1 = (7 : Int32) then (2 : Int32) else (if x1 = (19 : Int32) then (3 : Int32) else (if x1 = (6 : Int32) then (1 : Int32) else (if x1 = (8 : Int32) then (1 : Int32) else (if x1 = (10 : Int32) then (1 : Int32) else (if x1 = (12 : Int32) then (1 : Int32) else (if x1 = (16 : Int32) then (1 : Int32) else (if x1 = (17 : Int32) then (1 : Int32) else (if x1 = (20 : Int32) then (1 : Int32) else (if x1 = (21 : Int32) then (1 : Int32) else (if x1 = (22 : Int32) then (1 : Int32) else (0 : Int32)))))))))))))))))) (fun (j_1 : Int32) => (some j_1)))
set_option maxRecDepth 20000 in
theorem tX11_need {G : XG} (hok : XK G) {x1 : Int32} {Ω : XO} (hd0 : dm G 11 0)   {r : Int32} (hf : fX11_need Ω x1 = some r) : XM G yX11_need cX11_need 2 ((some FieldType.int)) (RM 0 0) [.ref (ad G 11 0), .int x1] Ω (.inl (some (.int (r)))) Ω := by
  refine x_start (lv := [(0, .ref (ad G 11 0)), (1, .int x1)]) (own := RX11) hok (by decide +kernel) rfl (Nat.le_of_ble_eq_true rfl) rfl (fun B C => ?_)
  refine x_iload_n (pc2 := 1) C dX11_need_0 1 rfl rfl rfl ?_
  refine x_iconst (pc2 := 2) (v := 1) C dX11_need_1 rfl rfl ?_
  obtain ⟨j_1, hq_1⟩ : ∃ z : Int32, z = (if x1 = (1 : Int32) then (2 : Int32) else (if x1 = (2 : Int32) then (2 : Int32) else (if x1 = (3 : Int32) then (2 : Int32) else (if x1 = (4 : Int32) then (2 : Int32) else (if x1 = (5 : Int32) then (2 : Int32) else (if x1 = (7 : Int32) then (2 : Int32) else (if x1 = (19 : Int32) then (3 : Int32) else (if x1 = (6 : Int32) then (1 : Int32) else (if x1 = (8 : Int32) then (1 : Int32) else (if x1 = (10 : Int32) then (1 : Int32) else (if x1 = (12 : Int32) then (1 : Int32) else (if x1 = (16 : Int32) then (1 : Int32) else (if x1 = (17 : Int32) then (1 : Int32) else (if x1 = (20 : Int32) then (1 : Int32) else (if x1 = (21 : Int32) then (1 : Int32) else (if x1 = (22 : Int32) then (1 : Int32) else (0 : Int32))))))))))))))))) := ⟨_, rfl⟩
  suffices hj_1 : XW G B 2 104 [] [.int (j_1)] Ω 0 0 by
    refine x_icmp_eq (tgt := 31) (pc2 := 5) C dX11_need_2 (by decide) rfl (fun qc_2 => ?_) (fun qc_2 => ?_)
    · refine x_iconst (pc2 := 32) (v := 2) C dX11_need_31 rfl rfl ?_
      refine x_goto (tgt := 104) C dX11_need_32 (by decide) ?_
      rw [if_pos qc_2] at hq_1
      subst hq_1
      exact x_sub (lv2 := []) C [] rfl hj_1
    · refine x_iload_n (pc2 := 6) C dX11_need_5 1 rfl rfl rfl ?_
      refine x_iconst (pc2 := 7) (v := 2) C dX11_need_6 rfl rfl ?_
      refine x_icmp_eq (tgt := 31) (pc2 := 10) C dX11_need_7 (by decide) rfl (fun qc_3 => ?_) (fun qc_3 => ?_)
      · refine x_iconst (pc2 := 32) (v := 2) C dX11_need_31 rfl rfl ?_
        refine x_goto (tgt := 104) C dX11_need_32 (by decide) ?_
        rw [if_neg qc_2, if_pos qc_3] at hq_1
        subst hq_1
        exact x_sub (lv2 := []) C [] rfl hj_1
      · refine x_iload_n (pc2 := 11) C dX11_need_10 1 rfl rfl rfl ?_
        refine x_iconst (pc2 := 12) (v := 3) C dX11_need_11 rfl rfl ?_
        refine x_icmp_eq (tgt := 31) (pc2 := 15) C dX11_need_12 (by decide) rfl (fun qc_4 => ?_) (fun qc_4 => ?_)
        · refine x_iconst (pc2 := 32) (v := 2) C dX11_need_31 rfl rfl ?_
          refine x_goto (tgt := 104) C dX11_need_32 (by decide) ?_
          rw [if_neg qc_2, if_neg qc_3, if_pos qc_4] at hq_1
          subst hq_1
          exact x_sub (lv2 := []) C [] rfl hj_1
        · refine x_iload_n (pc2 := 16) C dX11_need_15 1 rfl rfl rfl ?_
          refine x_iconst (pc2 := 17) (v := 4) C dX11_need_16 rfl rfl ?_
          refine x_icmp_eq (tgt := 31) (pc2 := 20) C dX11_need_17 (by decide) rfl (fun qc_5 => ?_) (fun qc_5 => ?_)
          · refine x_iconst (pc2 := 32) (v := 2) C dX11_need_31 rfl rfl ?_
            refine x_goto (tgt := 104) C dX11_need_32 (by decide) ?_
            rw [if_neg qc_2, if_neg qc_3, if_neg qc_4, if_pos qc_5] at hq_1
            subst hq_1
            exact x_sub (lv2 := []) C [] rfl hj_1
          · refine x_iload_n (pc2 := 21) C dX11_need_20 1 rfl rfl rfl ?_
            refine x_iconst (pc2 := 22) (v := 5) C dX11_need_21 rfl rfl ?_
            refine x_icmp_eq (tgt := 31) (pc2 := 25) C dX11_need_22 (by decide) rfl (fun qc_6 => ?_) (fun qc_6 => ?_)
            · refine x_iconst (pc2 := 32) (v := 2) C dX11_need_31 rfl rfl ?_
              refine x_goto (tgt := 104) C dX11_need_32 (by decide) ?_
              rw [if_neg qc_2, if_neg qc_3, if_neg qc_4, if_neg qc_5, if_pos qc_6] at hq_1
              subst hq_1
              exact x_sub (lv2 := []) C [] rfl hj_1
            · refine x_iload_n (pc2 := 26) C dX11_need_25 1 rfl rfl rfl ?_
              refine x_bipush (pc2 := 28) (v := 7) C dX11_need_26 rfl rfl ?_
              refine x_icmp_ne (tgt := 35) (pc2 := 31) C dX11_need_28 (by decide) rfl (fun qc_7 => ?_) (fun qc_7 => ?_)
              · refine x_iload_n (pc2 := 36) C dX11_need_35 1 rfl rfl rfl ?_
                refine x_bipush (pc2 := 38) (v := 19) C dX11_need_36 rfl rfl ?_
                refine x_icmp_ne (tgt := 45) (pc2 := 41) C dX11_need_38 (by decide) rfl (fun qc_8 => ?_) (fun qc_8 => ?_)
                · refine x_iload_n (pc2 := 46) C dX11_need_45 1 rfl rfl rfl ?_
                  refine x_bipush (pc2 := 48) (v := 6) C dX11_need_46 rfl rfl ?_
                  refine x_icmp_eq (tgt := 99) (pc2 := 51) C dX11_need_48 (by decide) rfl (fun qc_9 => ?_) (fun qc_9 => ?_)
                  · refine x_iconst (pc2 := 100) (v := 1) C dX11_need_99 rfl rfl ?_
                    refine x_goto (tgt := 104) C dX11_need_100 (by decide) ?_
                    rw [if_neg qc_2, if_neg qc_3, if_neg qc_4, if_neg qc_5, if_neg qc_6, if_neg qc_7, if_neg qc_8, if_pos qc_9] at hq_1
                    subst hq_1
                    exact x_sub (lv2 := []) C [] rfl hj_1
                  · refine x_iload_n (pc2 := 52) C dX11_need_51 1 rfl rfl rfl ?_
                    refine x_bipush (pc2 := 54) (v := 8) C dX11_need_52 rfl rfl ?_
                    refine x_icmp_eq (tgt := 99) (pc2 := 57) C dX11_need_54 (by decide) rfl (fun qc_10 => ?_) (fun qc_10 => ?_)
                    · refine x_iconst (pc2 := 100) (v := 1) C dX11_need_99 rfl rfl ?_
                      refine x_goto (tgt := 104) C dX11_need_100 (by decide) ?_
                      rw [if_neg qc_2, if_neg qc_3, if_neg qc_4, if_neg qc_5, if_neg qc_6, if_neg qc_7, if_neg qc_8, if_neg qc_9, if_pos qc_10] at hq_1
                      subst hq_1
                      exact x_sub (lv2 := []) C [] rfl hj_1
                    · refine x_iload_n (pc2 := 58) C dX11_need_57 1 rfl rfl rfl ?_
                      refine x_bipush (pc2 := 60) (v := 10) C dX11_need_58 rfl rfl ?_
                      refine x_icmp_eq (tgt := 99) (pc2 := 63) C dX11_need_60 (by decide) rfl (fun qc_11 => ?_) (fun qc_11 => ?_)
                      · refine x_iconst (pc2 := 100) (v := 1) C dX11_need_99 rfl rfl ?_
                        refine x_goto (tgt := 104) C dX11_need_100 (by decide) ?_
                        rw [if_neg qc_2, if_neg qc_3, if_neg qc_4, if_neg qc_5, if_neg qc_6, if_neg qc_7, if_neg qc_8, if_neg qc_9, if_neg qc_10, if_pos qc_11] at hq_1
                        subst hq_1
                        exact x_sub (lv2 := []) C [] rfl hj_1
                      · refine x_iload_n (pc2 := 64) C dX11_need_63 1 rfl rfl rfl ?_
                        refine x_bipush (pc2 := 66) (v := 12) C dX11_need_64 rfl rfl ?_
                        refine x_icmp_eq (tgt := 99) (pc2 := 69) C dX11_need_66 (by decide) rfl (fun qc_12 => ?_) (fun qc_12 => ?_)
                        · refine x_iconst (pc2 := 100) (v := 1) C dX11_need_99 rfl rfl ?_
                          refine x_goto (tgt := 104) C dX11_need_100 (by decide) ?_
                          rw [if_neg qc_2, if_neg qc_3, if_neg qc_4, if_neg qc_5, if_neg qc_6, if_neg qc_7, if_neg qc_8, if_neg qc_9, if_neg qc_10, if_neg qc_11, if_pos qc_12] at hq_1
                          subst hq_1
                          exact x_sub (lv2 := []) C [] rfl hj_1
                        · refine x_iload_n (pc2 := 70) C dX11_need_69 1 rfl rfl rfl ?_
                          refine x_bipush (pc2 := 72) (v := 16) C dX11_need_70 rfl rfl ?_
                          refine x_icmp_eq (tgt := 99) (pc2 := 75) C dX11_need_72 (by decide) rfl (fun qc_13 => ?_) (fun qc_13 => ?_)
                          · refine x_iconst (pc2 := 100) (v := 1) C dX11_need_99 rfl rfl ?_
                            refine x_goto (tgt := 104) C dX11_need_100 (by decide) ?_
                            rw [if_neg qc_2, if_neg qc_3, if_neg qc_4, if_neg qc_5, if_neg qc_6, if_neg qc_7, if_neg qc_8, if_neg qc_9, if_neg qc_10, if_neg qc_11, if_neg qc_12, if_pos qc_13] at hq_1
                            subst hq_1
                            exact x_sub (lv2 := []) C [] rfl hj_1
                          · refine x_iload_n (pc2 := 76) C dX11_need_75 1 rfl rfl rfl ?_
                            refine x_bipush (pc2 := 78) (v := 17) C dX11_need_76 rfl rfl ?_
                            refine x_icmp_eq (tgt := 99) (pc2 := 81) C dX11_need_78 (by decide) rfl (fun qc_14 => ?_) (fun qc_14 => ?_)
                            · refine x_iconst (pc2 := 100) (v := 1) C dX11_need_99 rfl rfl ?_
                              refine x_goto (tgt := 104) C dX11_need_100 (by decide) ?_
                              rw [if_neg qc_2, if_neg qc_3, if_neg qc_4, if_neg qc_5, if_neg qc_6, if_neg qc_7, if_neg qc_8, if_neg qc_9, if_neg qc_10, if_neg qc_11, if_neg qc_12, if_neg qc_13, if_pos qc_14] at hq_1
                              subst hq_1
                              exact x_sub (lv2 := []) C [] rfl hj_1
                            · refine x_iload_n (pc2 := 82) C dX11_need_81 1 rfl rfl rfl ?_
                              refine x_bipush (pc2 := 84) (v := 20) C dX11_need_82 rfl rfl ?_
                              refine x_icmp_eq (tgt := 99) (pc2 := 87) C dX11_need_84 (by decide) rfl (fun qc_15 => ?_) (fun qc_15 => ?_)
                              · refine x_iconst (pc2 := 100) (v := 1) C dX11_need_99 rfl rfl ?_
                                refine x_goto (tgt := 104) C dX11_need_100 (by decide) ?_
                                rw [if_neg qc_2, if_neg qc_3, if_neg qc_4, if_neg qc_5, if_neg qc_6, if_neg qc_7, if_neg qc_8, if_neg qc_9, if_neg qc_10, if_neg qc_11, if_neg qc_12, if_neg qc_13, if_neg qc_14, if_pos qc_15] at hq_1
                                subst hq_1
                                exact x_sub (lv2 := []) C [] rfl hj_1
                              · refine x_iload_n (pc2 := 88) C dX11_need_87 1 rfl rfl rfl ?_
                                refine x_bipush (pc2 := 90) (v := 21) C dX11_need_88 rfl rfl ?_
                                refine x_icmp_eq (tgt := 99) (pc2 := 93) C dX11_need_90 (by decide) rfl (fun qc_16 => ?_) (fun qc_16 => ?_)
                                · refine x_iconst (pc2 := 100) (v := 1) C dX11_need_99 rfl rfl ?_
                                  refine x_goto (tgt := 104) C dX11_need_100 (by decide) ?_
                                  rw [if_neg qc_2, if_neg qc_3, if_neg qc_4, if_neg qc_5, if_neg qc_6, if_neg qc_7, if_neg qc_8, if_neg qc_9, if_neg qc_10, if_neg qc_11, if_neg qc_12, if_neg qc_13, if_neg qc_14, if_neg qc_15, if_pos qc_16] at hq_1
                                  subst hq_1
                                  exact x_sub (lv2 := []) C [] rfl hj_1
                                · refine x_iload_n (pc2 := 94) C dX11_need_93 1 rfl rfl rfl ?_
                                  refine x_bipush (pc2 := 96) (v := 22) C dX11_need_94 rfl rfl ?_
                                  refine x_icmp_ne (tgt := 103) (pc2 := 99) C dX11_need_96 (by decide) rfl (fun qc_17 => ?_) (fun qc_17 => ?_)
                                  · refine x_iconst (pc2 := 104) (v := 0) C dX11_need_103 rfl rfl ?_
                                    rw [if_neg qc_2, if_neg qc_3, if_neg qc_4, if_neg qc_5, if_neg qc_6, if_neg qc_7, if_neg qc_8, if_neg qc_9, if_neg qc_10, if_neg qc_11, if_neg qc_12, if_neg qc_13, if_neg qc_14, if_neg qc_15, if_neg qc_16, if_neg qc_17] at hq_1
                                    subst hq_1
                                    exact x_sub (lv2 := []) C [] rfl hj_1
                                  · refine x_iconst (pc2 := 100) (v := 1) C dX11_need_99 rfl rfl ?_
                                    refine x_goto (tgt := 104) C dX11_need_100 (by decide) ?_
                                    rw [if_neg qc_2, if_neg qc_3, if_neg qc_4, if_neg qc_5, if_neg qc_6, if_neg qc_7, if_neg qc_8, if_neg qc_9, if_neg qc_10, if_neg qc_11, if_neg qc_12, if_neg qc_13, if_neg qc_14, if_neg qc_15, if_neg qc_16, if_pos qc_17] at hq_1
                                    subst hq_1
                                    exact x_sub (lv2 := []) C [] rfl hj_1
                · refine x_iconst (pc2 := 42) (v := 3) C dX11_need_41 rfl rfl ?_
                  refine x_goto (tgt := 104) C dX11_need_42 (by decide) ?_
                  rw [if_neg qc_2, if_neg qc_3, if_neg qc_4, if_neg qc_5, if_neg qc_6, if_neg qc_7, if_pos qc_8] at hq_1
                  subst hq_1
                  exact x_sub (lv2 := []) C [] rfl hj_1
              · refine x_iconst (pc2 := 32) (v := 2) C dX11_need_31 rfl rfl ?_
                refine x_goto (tgt := 104) C dX11_need_32 (by decide) ?_
                rw [if_neg qc_2, if_neg qc_3, if_neg qc_4, if_neg qc_5, if_neg qc_6, if_pos qc_7] at hq_1
                subst hq_1
                exact x_sub (lv2 := []) C [] rfl hj_1
  rw [fX11_need, wl_eq hq_1] at hf
  obtain rfl := (Option.some.inj hf).symm
  exact x_ireturn C dX11_need_104 rfl (Nat.le_of_ble_eq_true rfl) (Nat.le_of_ble_eq_true rfl) rfl rfl
