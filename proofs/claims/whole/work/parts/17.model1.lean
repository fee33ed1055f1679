def fX11_grows (Ω : XO) (x1 : Int32) : Option (Int32) := (wl ((if x1 = 0 then (1 : Int32) else (if x1 = (6 : Int32) then (1 : Int32) else (if x1 = (9 : Int32) then (1 : Int32) else (if x1 = (13 : Int32) then (1 : Int32) else (if x1 = (14 : Int32) then (1 : Int32) else (if x1 = (15 : Int32) then (1 : Int32) else (if x1 = (18 : Int32) then (1 : Int32) else (0 : Int32))))))))) (fun (j_1 : Int32) => (some j_1)))
set_option maxRecDepth 20000 in
theorem tX11_grows {G : XG} (hok : XK G) {x1 : Int32} {Ω : XO} (hd0 : dm G 11 0)   {r : Int32} (hf : fX11_grows Ω x1 = some r) : XM G yX11_grows cX11_grows 2 ((some FieldType.int)) (RM 0 0) [.ref (ad G 11 0), .int x1] Ω (.inl (some (.int (r)))) Ω := by
  refine x_start (lv := [(0, .ref (ad G 11 0)), (1, .int x1)]) (own := RX11) hok (by decide +kernel) rfl (Nat.le_of_ble_eq_true rfl) rfl (fun B C => ?_)
  refine x_iload_n (pc2 := 1) C dX11_grows_0 1 rfl rfl rfl ?_
  obtain ⟨j_1, hq_1⟩ : ∃ z : Int32, z = (if x1 = 0 then (1 : Int32) else (if x1 = (6 : Int32) then (1 : Int32) else (if x1 = (9 : Int32) then (1 : Int32) else (if x1 = (13 : Int32) then (1 : Int32) else (if x1 = (14 : Int32) then (1 : Int32) else (if x1 = (15 : Int32) then (1 : Int32) else (if x1 = (18 : Int32) then (1 : Int32) else (0 : Int32)))))))) := ⟨_, rfl⟩
  suffices hj_1 : XW G B 2 45 [] [.int (j_1)] Ω 0 0 by
    refine x_if_eq (tgt := 40) (pc2 := 4) C dX11_grows_1 (by decide) rfl (fun qc_2 => ?_) (fun qc_2 => ?_)
    · refine x_iconst (pc2 := 41) (v := 1) C dX11_grows_40 rfl rfl ?_
      refine x_goto (tgt := 45) C dX11_grows_41 (by decide) ?_
      rw [if_pos qc_2] at hq_1
      subst hq_1
      exact x_sub (lv2 := []) C [] rfl hj_1
    · refine x_iload_n (pc2 := 5) C dX11_grows_4 1 rfl rfl rfl ?_
      refine x_bipush (pc2 := 7) (v := 6) C dX11_grows_5 rfl rfl ?_
      refine x_icmp_eq (tgt := 40) (pc2 := 10) C dX11_grows_7 (by decide) rfl (fun qc_3 => ?_) (fun qc_3 => ?_)
      · refine x_iconst (pc2 := 41) (v := 1) C dX11_grows_40 rfl rfl ?_
        refine x_goto (tgt := 45) C dX11_grows_41 (by decide) ?_
        rw [if_neg qc_2, if_pos qc_3] at hq_1
        subst hq_1
        exact x_sub (lv2 := []) C [] rfl hj_1
      · refine x_iload_n (pc2 := 11) C dX11_grows_10 1 rfl rfl rfl ?_
        refine x_bipush (pc2 := 13) (v := 9) C dX11_grows_11 rfl rfl ?_
        refine x_icmp_eq (tgt := 40) (pc2 := 16) C dX11_grows_13 (by decide) rfl (fun qc_4 => ?_) (fun qc_4 => ?_)
        · refine x_iconst (pc2 := 41) (v := 1) C dX11_grows_40 rfl rfl ?_
          refine x_goto (tgt := 45) C dX11_grows_41 (by decide) ?_
          rw [if_neg qc_2, if_neg qc_3, if_pos qc_4] at hq_1
          subst hq_1
          exact x_sub (lv2 := []) C [] rfl hj_1
        · refine x_iload_n (pc2 := 17) C dX11_grows_16 1 rfl rfl rfl ?_
          refine x_bipush (pc2 := 19) (v := 13) C dX11_grows_17 rfl rfl ?_
          refine x_icmp_eq (tgt := 40) (pc2 := 22) C dX11_grows_19 (by decide) rfl (fun qc_5 => ?_) (fun qc_5 => ?_)
          · refine x_iconst (pc2 := 41) (v := 1) C dX11_grows_40 rfl rfl ?_
            refine x_goto (tgt := 45) C dX11_grows_41 (by decide) ?_
            rw [if_neg qc_2, if_neg qc_3, if_neg qc_4, if_pos qc_5] at hq_1
            subst hq_1
            exact x_sub (lv2 := []) C [] rfl hj_1
          · refine x_iload_n (pc2 := 23) C dX11_grows_22 1 rfl rfl rfl ?_
            refine x_bipush (pc2 := 25) (v := 14) C dX11_grows_23 rfl rfl ?_
            refine x_icmp_eq (tgt := 40) (pc2 := 28) C dX11_grows_25 (by decide) rfl (fun qc_6 => ?_) (fun qc_6 => ?_)
            · refine x_iconst (pc2 := 41) (v := 1) C dX11_grows_40 rfl rfl ?_
              refine x_goto (tgt := 45) C dX11_grows_41 (by decide) ?_
              rw [if_neg qc_2, if_neg qc_3, if_neg qc_4, if_neg qc_5, if_pos qc_6] at hq_1
              subst hq_1
              exact x_sub (lv2 := []) C [] rfl hj_1
            · refine x_iload_n (pc2 := 29) C dX11_grows_28 1 rfl rfl rfl ?_
              refine x_bipush (pc2 := 31) (v := 15) C dX11_grows_29 rfl rfl ?_
              refine x_icmp_eq (tgt := 40) (pc2 := 34) C dX11_grows_31 (by decide) rfl (fun qc_7 => ?_) (fun qc_7 => ?_)
              · refine x_iconst (pc2 := 41) (v := 1) C dX11_grows_40 rfl rfl ?_
                refine x_goto (tgt := 45) C dX11_grows_41 (by decide) ?_
                rw [if_neg qc_2, if_neg qc_3, if_neg qc_4, if_neg qc_5, if_neg qc_6, if_pos qc_7] at hq_1
                subst hq_1
                exact x_sub (lv2 := []) C [] rfl hj_1
              · refine x_iload_n (pc2 := 35) C dX11_grows_34 1 rfl rfl rfl ?_
                refine x_bipush (pc2 := 37) (v := 18) C dX11_grows_35 rfl rfl ?_
                refine x_icmp_ne (tgt := 44) (pc2 := 40) C dX11_grows_37 (by decide) rfl (fun qc_8 => ?_) (fun qc_8 => ?_)
                · refine x_iconst (pc2 := 45) (v := 0) C dX11_grows_44 rfl rfl ?_
                  rw [if_neg qc_2, if_neg qc_3, if_neg qc_4, if_neg qc_5, if_neg qc_6, if_neg qc_7, if_neg qc_8] at hq_1
                  subst hq_1
                  exact x_sub (lv2 := []) C [] rfl hj_1
                · refine x_iconst (pc2 := 41) (v := 1) C dX11_grows_40 rfl rfl ?_
                  refine x_goto (tgt := 45) C dX11_grows_41 (by decide) ?_
                  rw [if_neg qc_2, if_neg qc_3, if_neg qc_4, if_neg qc_5, if_neg qc_6, if_neg qc_7, if_pos qc_8] at hq_1
                  subst hq_1
                  exact x_sub (lv2 := []) C [] rfl hj_1
  rw [fX11_grows, wl_eq hq_1] at hf
  obtain rfl := (Option.some.inj hf).symm
  exact x_ireturn C dX11_grows_45 rfl (Nat.le_of_ble_eq_true rfl) (Nat.le_of_ble_eq_true rfl) rfl rfl
def fX11_square (Ω : XO) (x1 : Int32) : Option (Int32) := (some (((x1 + (1 : Int32)) * (x1 + (1 : Int32))) / (2 : Int32)))
set_option maxRecDepth 20000 in
theorem tX11_square {G : XG} (hok : XK G) {x1 : Int32} {Ω : XO} (hd0 : dm G 11 0)   {r : Int32} (hf : fX11_square Ω x1 = some r) : XM G yX11_square cX11_square 2 ((some FieldType.int)) (RM 0 0) [.ref (ad G 11 0), .int x1] Ω (.inl (some (.int (r)))) Ω := by
  refine x_start (lv := [(0, .ref (ad G 11 0)), (1, .int x1)]) (own := RX11) hok (by decide +kernel) rfl (Nat.le_of_ble_eq_true rfl) rfl (fun B C => ?_)
  refine x_iload_n (pc2 := 1) C dX11_square_0 1 rfl rfl rfl ?_
  refine x_iconst (pc2 := 2) (v := 1) C dX11_square_1 rfl rfl ?_
  refine x_iadd (pc2 := 3) C dX11_square_2 rfl ?_
  refine x_iload_n (pc2 := 4) C dX11_square_3 1 rfl rfl rfl ?_
  refine x_iconst (pc2 := 5) (v := 1) C dX11_square_4 rfl rfl ?_
  refine x_iadd (pc2 := 6) C dX11_square_5 rfl ?_
  refine x_imul (pc2 := 7) C dX11_square_6 rfl ?_
  refine x_iconst (pc2 := 8) (v := 2) C dX11_square_7 rfl rfl ?_
  refine x_idiv (pc2 := 9) C dX11_square_8 (by decide +kernel) rfl ?_
  rw [fX11_square] at hf
  obtain rfl := (Option.some.inj hf).symm
  exact x_ireturn C dX11_square_9 rfl (Nat.le_of_ble_eq_true rfl) (Nat.le_of_ble_eq_true rfl) rfl rfl
def fX11_cost (Ω : XO) (x1 : Int32) (x2 : Int32) (x3 : Int32) : Option (Int32) := (if inB x3 5 then (((if (xI Ω 2148 0 x3.toNatClampNeg) ≤ 0 then (some (0 : Int32)) else (if inB x3 5 then (if inB ((((16 : Int32) * x3) + (xI Ω 2148 0 x3.toNatClampNeg)) - (1 : Int32)) 80 then (some (xI Ω 2147 0 ((((16 : Int32) * x3) + (xI Ω 2148 0 x3.toNatClampNeg)) - (1 : Int32)).toNatClampNeg)) else none) else none)) : Option (Int32))).bind (fun j_3 => (((if x1 = (10 : Int32) then (if inB x3 5 then (if inB (((48 : Int32) + ((4 : Int32) * (xI Ω 2140 0 x3.toNatClampNeg))) + x2) 120 then (some (xI Ω 2101 0 (((48 : Int32) + ((4 : Int32) * (xI Ω 2140 0 x3.toNatClampNeg))) + x2).toNatClampNeg)) else none) else none) else (some (0 : Int32))) : Option (Int32))).bind (fun j_9 => (if inB x3 5 then (((if (xI Ω 2150 0 x3.toNatClampNeg) < x2 then (fX11_square Ω x2).bind (fun r_19 => (if inB x3 5 then (((if 0 ≤ (xI Ω 2150 0 x3.toNatClampNeg) then (if inB x3 5 then (fX11_square Ω (xI Ω 2150 0 x3.toNatClampNeg)).bind (fun r_26 => (some r_26)) else none) else (some (0 : Int32))) : Option (Int32))).bind (fun j_22 => (some (r_19 - j_22))) else none)) else (some (0 : Int32))) : Option (Int32))).bind (fun j_17 => (if x1 = 3 then (some (5 : Int32)) else (if x1 = 4 then (some (3 : Int32)) else (if x1 = 5 then (some (3 : Int32)) else (if x1 = 6 then (some (3 : Int32)) else (if x1 = 7 then (some (3 : Int32)) else (if x1 = 8 then (some (2 : Int32)) else (if x1 = 9 then (some (20 : Int32)) else (if x1 = 10 then (((if j_9 = 0 then (if j_3 = 0 then (some (30 : Int32)) else (if inB (xI Ω 1158 0 0) 48 then (if inB (xI Ω 1157 0 0) 2 then (if (xI Ω 2121 0 (xI Ω 1158 0 0).toNatClampNeg) < (xI Ω 2107 0 (xI Ω 1157 0 0).toNatClampNeg) then (some (100 : Int32)) else (some (150 : Int32))) else none) else none)) else (some (30 : Int32))) : Option (Int32))).bind (fun j_35 => (some j_35)) else (if x1 = 11 then (some (5 : Int32)) else (if x1 = 12 then (some (5 : Int32)) else (if x1 = 13 then (some (2 : Int32)) else (if x1 = 14 then (some (2 : Int32)) else (if x1 = 15 then (some (2 : Int32)) else (if x1 = 16 then (some (10 : Int32)) else (if x1 = 17 then (some ((3 : Int32) + j_17)) else (if x1 = 18 then (some ((3 : Int32) + j_17)) else (if x1 = 19 then (some (40 : Int32)) else (if x1 = 20 then (some (20 : Int32)) else (if x1 = 21 then (some (80 : Int32)) else (if x1 = 22 then (some (20 : Int32)) else (if x1 = 23 then (some (0 : Int32)) else (if x1 = 24 then (some (0 : Int32)) else (some (3 : Int32))))))))))))))))))))))))) else none))) else none)
set_option maxRecDepth 20000 in
theorem tX11_cost {G : XG} (hok : XK G) {x1 : Int32} {x2 : Int32} {x3 : Int32} {Ω : XO} (hd0 : dm G 11 0)   {r : Int32} (hf : fX11_cost Ω x1 x2 x3 = some r) : XM G yX11_cost cX11_cost 7 ((some FieldType.int)) (RM 1 0) [.ref (ad G 11 0), .int x1, .int x2, .int x3] Ω (.inl (some (.int (r)))) Ω := by
  refine x_start (lv := [(0, .ref (ad G 11 0)), (1, .int x1), (2, .int x2), (3, .int x3)]) (own := RX11) hok (by decide +kernel) rfl (Nat.le_of_ble_eq_true rfl) rfl (fun B C => ?_)
  refine x_aload_n (pc2 := 1) C dX11_cost_0 0 rfl rfl rfl ?_
  refine x_getR (f := 1148) (k2 := 2148) (pc2 := 4) C (by assumption) kf_11_152 dX11_cost_1 rfl rfl rfl (rti_i rfl) rfl (fun qd_1 => ?_)
  refine x_iload_n (pc2 := 5) C dX11_cost_4 3 rfl rfl rfl ?_
  rcases (Decidable.em (inB x3 5)).symm with qg_2 | qg_2
  · exact absurd hf (by rw [fX11_cost, if_neg qg_2]; exact nofun)
  refine x_iald (pc2 := 6) C (by assumption) dX11_cost_5 rfl (inB_in qg_2) rfl ?_
  rcases opt_em ((if (xI Ω 2148 0 x3.toNatClampNeg) ≤ 0 then (some (0 : Int32)) else (if inB x3 5 then (if inB ((((16 : Int32) * x3) + (xI Ω 2148 0 x3.toNatClampNeg)) - (1 : Int32)) 80 then (some (xI Ω 2147 0 ((((16 : Int32) * x3) + (xI Ω 2148 0 x3.toNatClampNeg)) - (1 : Int32)).toNatClampNeg)) else none) else none)) : Option (Int32)) with hq_3 | ⟨j_3, hq_3⟩
  · exact absurd hf (by rw [fX11_cost, if_pos qg_2, ob_n hq_3]; exact nofun)
  suffices hj_3 : XW G B 7 31 [(0, .ref (ad G 11 (0))), (1, .int (x1)), (2, .int (x2)), (3, .int (x3))] [.int (j_3)] Ω 0 0 by
    refine x_if_le (tgt := 30) (pc2 := 9) C dX11_cost_6 (by decide) rfl (fun qc_4 => ?_) (fun qc_4 => ?_)
    · refine x_iconst (pc2 := 31) (v := 0) C dX11_cost_30 rfl rfl ?_
      rw [if_pos qc_4] at hq_3
      obtain rfl := (Option.some.inj hq_3).symm
      exact x_sub (lv2 := [(0, _), (1, _), (2, _), (3, _)]) C [0, 1, 2, 3] rfl hj_3
    · refine x_aload_n (pc2 := 10) C dX11_cost_9 0 rfl rfl rfl ?_
      refine x_getR (f := 1147) (k2 := 2147) (pc2 := 13) C (by assumption) kf_11_149 dX11_cost_10 rfl rfl rfl (rti_i rfl) rfl (fun qd_5 => ?_)
      refine x_bipush (pc2 := 15) (v := 16) C dX11_cost_13 rfl rfl ?_
      refine x_iload_n (pc2 := 16) C dX11_cost_15 3 rfl rfl rfl ?_
      refine x_imul (pc2 := 17) C dX11_cost_16 rfl ?_
      refine x_aload_n (pc2 := 18) C dX11_cost_17 0 rfl rfl rfl ?_
      refine x_getR (f := 1148) (k2 := 2148) (pc2 := 21) C (by assumption) kf_11_152 dX11_cost_18 rfl rfl rfl (rti_i rfl) rfl (fun qd_6 => ?_)
      refine x_iload_n (pc2 := 22) C dX11_cost_21 3 rfl rfl rfl ?_
      rcases (Decidable.em (inB x3 5)).symm with qg_7 | qg_7
      · exact absurd hq_3 (by rw [if_neg qc_4, if_neg qg_7]; exact nofun)
      refine x_iald (pc2 := 23) C (by assumption) dX11_cost_22 rfl (inB_in qg_7) rfl ?_
      refine x_iadd (pc2 := 24) C dX11_cost_23 rfl ?_
      refine x_iconst (pc2 := 25) (v := 1) C dX11_cost_24 rfl rfl ?_
      refine x_isub (pc2 := 26) C dX11_cost_25 rfl ?_
      rcases (Decidable.em (inB ((((16 : Int32) * x3) + (xI Ω 2148 0 x3.toNatClampNeg)) - (1 : Int32)) 80)).symm with qg_8 | qg_8
      · exact absurd hq_3 (by rw [if_neg qc_4, if_pos qg_7, if_neg qg_8]; exact nofun)
      refine x_iald (pc2 := 27) C (by assumption) dX11_cost_26 rfl (inB_in qg_8) rfl ?_
      refine x_goto (tgt := 31) C dX11_cost_27 (by decide) ?_
      rw [if_neg qc_4, if_pos qg_7, if_pos qg_8] at hq_3
      obtain rfl := (Option.some.inj hq_3).symm
      exact x_sub (lv2 := [(0, _), (1, _), (2, _), (3, _)]) C [0, 1, 2, 3] rfl hj_3
  refine x_istore (pc2 := 33) (lv2 := [(4, _), (0, _), (1, _), (2, _), (3, _)]) C dX11_cost_31 (by decide) rfl rfl ?_
  refine x_iload_n (pc2 := 34) C dX11_cost_33 2 rfl rfl rfl ?_
  refine x_bipush (pc2 := 36) (v := 10) C dX11_cost_34 rfl rfl ?_
  rcases opt_em ((if x1 = (10 : Int32) then (if inB x3 5 then (if inB (((48 : Int32) + ((4 : Int32) * (xI Ω 2140 0 x3.toNatClampNeg))) + x2) 120 then (some (xI Ω 2101 0 (((48 : Int32) + ((4 : Int32) * (xI Ω 2140 0 x3.toNatClampNeg))) + x2).toNatClampNeg)) else none) else none) else (some (0 : Int32))) : Option (Int32)) with hq_9 | ⟨j_9, hq_9⟩
  · exact absurd hf (by rw [fX11_cost, if_pos qg_2, ob_s hq_3, ob_n hq_9]; exact nofun)
  suffices hj_9 : XW G B 7 61 [(0, .ref (ad G 11 (0))), (1, .int (x1)), (2, .int (x2)), (3, .int (x3)), (4, .int (j_3))] [.int (j_9)] Ω 0 0 by
    refine x_icmp_ne (tgt := 60) (pc2 := 39) C dX11_cost_36 (by decide) rfl (fun qc_10 => ?_) (fun qc_10 => ?_)
    · refine x_iconst (pc2 := 61) (v := 0) C dX11_cost_60 rfl rfl ?_
      rw [if_neg qc_10] at hq_9
      obtain rfl := (Option.some.inj hq_9).symm
      exact x_sub (lv2 := [(0, _), (1, _), (2, _), (3, _), (4, _)]) C [1, 2, 3, 4, 0] rfl hj_9
    · refine x_aload_n (pc2 := 40) C dX11_cost_39 1 rfl rfl rfl ?_
      refine x_getR (f := 1101) (k2 := 2101) (pc2 := 43) C (by assumption) kf_11_13 dX11_cost_40 rfl rfl rfl (rti_i rfl) rfl (fun qd_11 => ?_)
      refine x_bipush (pc2 := 45) (v := 48) C dX11_cost_43 rfl rfl ?_
      refine x_iconst (pc2 := 46) (v := 4) C dX11_cost_45 rfl rfl ?_
      refine x_aload_n (pc2 := 47) C dX11_cost_46 1 rfl rfl rfl ?_
      refine x_getR (f := 1140) (k2 := 2140) (pc2 := 50) C (by assumption) kf_11_128 dX11_cost_47 rfl rfl rfl (rti_i rfl) rfl (fun qd_12 => ?_)
      refine x_iload_n (pc2 := 51) C dX11_cost_50 4 rfl rfl rfl ?_
      rcases (Decidable.em (inB x3 5)).symm with qg_13 | qg_13
      · exact absurd hq_9 (by rw [if_pos qc_10, if_neg qg_13]; exact nofun)
      refine x_iald (pc2 := 52) C (by assumption) dX11_cost_51 rfl (inB_in qg_13) rfl ?_
      refine x_imul (pc2 := 53) C dX11_cost_52 rfl ?_
      refine x_iadd (pc2 := 54) C dX11_cost_53 rfl ?_
      refine x_iload_n (pc2 := 55) C dX11_cost_54 3 rfl rfl rfl ?_
      refine x_iadd (pc2 := 56) C dX11_cost_55 rfl ?_
      rcases (Decidable.em (inB (((48 : Int32) + ((4 : Int32) * (xI Ω 2140 0 x3.toNatClampNeg))) + x2) 120)).symm with qg_14 | qg_14
      · exact absurd hq_9 (by rw [if_pos qc_10, if_pos qg_13, if_neg qg_14]; exact nofun)
      refine x_iald (pc2 := 57) C (by assumption) dX11_cost_56 rfl (inB_in qg_14) rfl ?_
      refine x_goto (tgt := 61) C dX11_cost_57 (by decide) ?_
      rw [if_pos qc_10, if_pos qg_13, if_pos qg_14] at hq_9
      obtain rfl := (Option.some.inj hq_9).symm
      exact x_sub (lv2 := [(0, _), (1, _), (2, _), (3, _), (4, _)]) C [1, 2, 3, 4, 0] rfl hj_9
  refine x_istore (pc2 := 63) (lv2 := [(5, _), (0, _), (1, _), (2, _), (3, _), (4, _)]) C dX11_cost_61 (by decide) rfl rfl ?_
  refine x_iload_n (pc2 := 64) C dX11_cost_63 3 rfl rfl rfl ?_
  refine x_aload_n (pc2 := 65) C dX11_cost_64 1 rfl rfl rfl ?_
  refine x_getR (f := 1150) (k2 := 2150) (pc2 := 68) C (by assumption) kf_11_158 dX11_cost_65 rfl rfl rfl (rti_i rfl) rfl (fun qd_15 => ?_)
  refine x_iload_n (pc2 := 69) C dX11_cost_68 4 rfl rfl rfl ?_
  rcases (Decidable.em (inB x3 5)).symm with qg_16 | qg_16
  · exact absurd hf (by rw [fX11_cost, if_pos qg_2, ob_s hq_3, ob_s hq_9, if_neg qg_16]; exact nofun)
  refine x_iald (pc2 := 70) C (by assumption) dX11_cost_69 rfl (inB_in qg_16) rfl ?_
  rcases opt_em ((if (xI Ω 2150 0 x3.toNatClampNeg) < x2 then (fX11_square Ω x2).bind (fun r_19 => (if inB x3 5 then (((if 0 ≤ (xI Ω 2150 0 x3.toNatClampNeg) then (if inB x3 5 then (fX11_square Ω (xI Ω 2150 0 x3.toNatClampNeg)).bind (fun r_26 => (some r_26)) else none) else (some (0 : Int32))) : Option (Int32))).bind (fun j_22 => (some (r_19 - j_22))) else none)) else (some (0 : Int32))) : Option (Int32)) with hq_17 | ⟨j_17, hq_17⟩
  · exact absurd hf (by rw [fX11_cost, if_pos qg_2, ob_s hq_3, ob_s hq_9, if_pos qg_16, ob_n hq_17]; exact nofun)
  suffices hj_17 : XW G B 7 106 [(0, .ref (ad G 11 (0))), (1, .int (x1)), (4, .int (j_3)), (5, .int (j_9))] [.int (j_17)] Ω 0 0 by
    refine x_icmp_gt (tgt := 77) (pc2 := 73) C dX11_cost_70 (by decide) rfl (fun qc_18 => ?_) (fun qc_18 => ?_)
    · refine x_aload_n (pc2 := 78) C dX11_cost_77 1 rfl rfl rfl ?_
      refine x_iload_n (pc2 := 79) C dX11_cost_78 3 rfl rfl rfl ?_
      rcases opt_em (fX11_square Ω x2) with hq_19 | ⟨r_19, hq_19⟩
      · exact absurd hq_17 (by rw [if_pos qc_18, ob_n hq_19]; exact nofun)
      refine x_ret (rest := []) (st2 := [_]) (pc2 := 82) (cu2 := 0) (su2 := 0) (x_cV C (by assumption) (Nat.le_of_ble_eq_true rfl) kmX11_square rfl kk_11_252 (tX11_square hok (by assumption)  hq_19) rfl rfl (Nat.le_of_ble_eq_true rfl) ⟨Nat.le_of_ble_eq_true rfl, Nat.le_of_ble_eq_true rfl⟩ ⟨Nat.le_of_ble_eq_true rfl, Nat.le_of_ble_eq_true rfl⟩ dX11_cost_79) rfl rfl rfl rfl ?_
      refine x_aload_n (pc2 := 83) C dX11_cost_82 1 rfl rfl rfl ?_
      refine x_getR (f := 1150) (k2 := 2150) (pc2 := 86) C (by assumption) kf_11_158 dX11_cost_83 rfl rfl rfl (rti_i rfl) rfl (fun qd_20 => ?_)
      refine x_iload_n (pc2 := 87) C dX11_cost_86 4 rfl rfl rfl ?_
      rcases (Decidable.em (inB x3 5)).symm with qg_21 | qg_21
      · exact absurd hq_17 (by rw [if_pos qc_18, ob_s hq_19, if_neg qg_21]; exact nofun)
      refine x_iald (pc2 := 88) C (by assumption) dX11_cost_87 rfl (inB_in qg_21) rfl ?_
      rcases opt_em ((if 0 ≤ (xI Ω 2150 0 x3.toNatClampNeg) then (if inB x3 5 then (fX11_square Ω (xI Ω 2150 0 x3.toNatClampNeg)).bind (fun r_26 => (some r_26)) else none) else (some (0 : Int32))) : Option (Int32)) with hq_22 | ⟨j_22, hq_22⟩
      · exact absurd hq_17 (by rw [if_pos qc_18, ob_s hq_19, if_pos qg_21, ob_n hq_22]; exact nofun)
      suffices hj_22 : XW G B 7 105 [(0, .ref (ad G 11 (0))), (1, .int (x1)), (4, .int (j_3)), (5, .int (j_9))] [.int (j_22), .int (r_19)] Ω 0 0 by
        refine x_if_ge (tgt := 95) (pc2 := 91) C dX11_cost_88 (by decide) rfl (fun qc_23 => ?_) (fun qc_23 => ?_)
        · refine x_aload_n (pc2 := 96) C dX11_cost_95 1 rfl rfl rfl ?_
          refine x_aload_n (pc2 := 97) C dX11_cost_96 1 rfl rfl rfl ?_
          refine x_getR (f := 1150) (k2 := 2150) (pc2 := 100) C (by assumption) kf_11_158 dX11_cost_97 rfl rfl rfl (rti_i rfl) rfl (fun qd_24 => ?_)
          refine x_iload_n (pc2 := 101) C dX11_cost_100 4 rfl rfl rfl ?_
          rcases (Decidable.em (inB x3 5)).symm with qg_25 | qg_25
          · exact absurd hq_22 (by rw [if_pos qc_23, if_neg qg_25]; exact nofun)
          refine x_iald (pc2 := 102) C (by assumption) dX11_cost_101 rfl (inB_in qg_25) rfl ?_
          rcases opt_em (fX11_square Ω (xI Ω 2150 0 x3.toNatClampNeg)) with hq_26 | ⟨r_26, hq_26⟩
          · exact absurd hq_22 (by rw [if_pos qc_23, if_pos qg_25, ob_n hq_26]; exact nofun)
          refine x_ret (rest := [_]) (st2 := [_, _]) (pc2 := 105) (cu2 := 0) (su2 := 0) (x_cV C (by assumption) (Nat.le_of_ble_eq_true rfl) kmX11_square rfl kk_11_252 (tX11_square hok (by assumption)  hq_26) rfl rfl (Nat.le_of_ble_eq_true rfl) ⟨Nat.le_of_ble_eq_true rfl, Nat.le_of_ble_eq_true rfl⟩ ⟨Nat.le_of_ble_eq_true rfl, Nat.le_of_ble_eq_true rfl⟩ dX11_cost_102) rfl rfl rfl rfl ?_
          rw [if_pos qc_23, if_pos qg_25, ob_s hq_26] at hq_22
          obtain rfl := (Option.some.inj hq_22).symm
          exact x_sub (lv2 := [(0, _), (1, _), (4, _), (5, _)]) C [1, 2, 5, 0] rfl hj_22
        · refine x_iconst (pc2 := 92) (v := 0) C dX11_cost_91 rfl rfl ?_
          refine x_goto (tgt := 105) C dX11_cost_92 (by decide) ?_
          rw [if_neg qc_23] at hq_22
          obtain rfl := (Option.some.inj hq_22).symm
          exact x_sub (lv2 := [(0, _), (1, _), (4, _), (5, _)]) C [1, 2, 5, 0] rfl hj_22
      refine x_isub (pc2 := 106) C dX11_cost_105 rfl ?_
      rw [if_pos qc_18, ob_s hq_19, if_pos qg_21, ob_s hq_22] at hq_17
      obtain rfl := (Option.some.inj hq_17).symm
      exact x_sub (lv2 := [(0, _), (1, _), (4, _), (5, _)]) C [0, 1, 2, 3] rfl hj_17
    · refine x_iconst (pc2 := 74) (v := 0) C dX11_cost_73 rfl rfl ?_
      refine x_goto (tgt := 106) C dX11_cost_74 (by decide) ?_
      rw [if_neg qc_18] at hq_17
      obtain rfl := (Option.some.inj hq_17).symm
      exact x_sub (lv2 := [(0, _), (1, _), (4, _), (5, _)]) C [1, 2, 5, 0] rfl hj_17
  refine x_istore (pc2 := 108) (lv2 := [(6, _), (0, _), (1, _), (4, _), (5, _)]) C dX11_cost_106 (by decide) rfl rfl ?_
  refine x_iload_n (pc2 := 109) C dX11_cost_108 2 rfl rfl rfl ?_
  rcases Decidable.em (x1 = 3) with qc_27 | qc_27
  · refine x_tableIn (tgt := 212) C dX11_cost_109 (by rw [qc_27]; decide) (by rw [qc_27]; decide) (by rw [qc_27]; rfl) (by decide) ?_
    refine x_iconst (pc2 := 213) (v := 5) C dX11_cost_212 rfl rfl ?_
    rw [fX11_cost, if_pos qg_2, ob_s hq_3, ob_s hq_9, if_pos qg_16, ob_s hq_17, if_pos qc_27] at hf
    obtain rfl := (Option.some.inj hf).symm
    exact x_ireturn C dX11_cost_213 rfl (Nat.le_of_ble_eq_true rfl) (Nat.le_of_ble_eq_true rfl) rfl rfl
  · rcases Decidable.em (x1 = 4) with qc_28 | qc_28
    · refine x_tableIn (tgt := 280) C dX11_cost_109 (by rw [qc_28]; decide) (by rw [qc_28]; decide) (by rw [qc_28]; rfl) (by decide) ?_
      refine x_iconst (pc2 := 281) (v := 3) C dX11_cost_280 rfl rfl ?_
      rw [fX11_cost, if_pos qg_2, ob_s hq_3, ob_s hq_9, if_pos qg_16, ob_s hq_17, if_neg qc_27, if_pos qc_28] at hf
      obtain rfl := (Option.some.inj hf).symm
      exact x_ireturn C dX11_cost_281 rfl (Nat.le_of_ble_eq_true rfl) (Nat.le_of_ble_eq_true rfl) rfl rfl
    · rcases Decidable.em (x1 = 5) with qc_29 | qc_29
      · refine x_tableIn (tgt := 280) C dX11_cost_109 (by rw [qc_29]; decide) (by rw [qc_29]; decide) (by rw [qc_29]; rfl) (by decide) ?_
        refine x_iconst (pc2 := 281) (v := 3) C dX11_cost_280 rfl rfl ?_
        rw [fX11_cost, if_pos qg_2, ob_s hq_3, ob_s hq_9, if_pos qg_16, ob_s hq_17, if_neg qc_27, if_neg qc_28, if_pos qc_29] at hf
        obtain rfl := (Option.some.inj hf).symm
        exact x_ireturn C dX11_cost_281 rfl (Nat.le_of_ble_eq_true rfl) (Nat.le_of_ble_eq_true rfl) rfl rfl
      · rcases Decidable.em (x1 = 6) with qc_30 | qc_30
        · refine x_tableIn (tgt := 280) C dX11_cost_109 (by rw [qc_30]; decide) (by rw [qc_30]; decide) (by rw [qc_30]; rfl) (by decide) ?_
          refine x_iconst (pc2 := 281) (v := 3) C dX11_cost_280 rfl rfl ?_
          rw [fX11_cost, if_pos qg_2, ob_s hq_3, ob_s hq_9, if_pos qg_16, ob_s hq_17, if_neg qc_27, if_neg qc_28, if_neg qc_29, if_pos qc_30] at hf
          obtain rfl := (Option.some.inj hf).symm
          exact x_ireturn C dX11_cost_281 rfl (Nat.le_of_ble_eq_true rfl) (Nat.le_of_ble_eq_true rfl) rfl rfl
        · rcases Decidable.em (x1 = 7) with qc_31 | qc_31
          · refine x_tableIn (tgt := 280) C dX11_cost_109 (by rw [qc_31]; decide) (by rw [qc_31]; decide) (by rw [qc_31]; rfl) (by decide) ?_
            refine x_iconst (pc2 := 281) (v := 3) C dX11_cost_280 rfl rfl ?_
            rw [fX11_cost, if_pos qg_2, ob_s hq_3, ob_s hq_9, if_pos qg_16, ob_s hq_17, if_neg qc_27, if_neg qc_28, if_neg qc_29, if_neg qc_30, if_pos qc_31] at hf
            obtain rfl := (Option.some.inj hf).symm
            exact x_ireturn C dX11_cost_281 rfl (Nat.le_of_ble_eq_true rfl) (Nat.le_of_ble_eq_true rfl) rfl rfl
          · rcases Decidable.em (x1 = 8) with qc_32 | qc_32
            · refine x_tableIn (tgt := 214) C dX11_cost_109 (by rw [qc_32]; decide) (by rw [qc_32]; decide) (by rw [qc_32]; rfl) (by decide) ?_
              refine x_iconst (pc2 := 215) (v := 2) C dX11_cost_214 rfl rfl ?_
              rw [fX11_cost, if_pos qg_2, ob_s hq_3, ob_s hq_9, if_pos qg_16, ob_s hq_17, if_neg qc_27, if_neg qc_28, if_neg qc_29, if_neg qc_30, if_neg qc_31, if_pos qc_32] at hf
              obtain rfl := (Option.some.inj hf).symm
              exact x_ireturn C dX11_cost_215 rfl (Nat.le_of_ble_eq_true rfl) (Nat.le_of_ble_eq_true rfl) rfl rfl
            · rcases Decidable.em (x1 = 9) with qc_33 | qc_33
              · refine x_tableIn (tgt := 216) C dX11_cost_109 (by rw [qc_33]; decide) (by rw [qc_33]; decide) (by rw [qc_33]; rfl) (by decide) ?_
                refine x_bipush (pc2 := 218) (v := 20) C dX11_cost_216 rfl rfl ?_
                rw [fX11_cost, if_pos qg_2, ob_s hq_3, ob_s hq_9, if_pos qg_16, ob_s hq_17, if_neg qc_27, if_neg qc_28, if_neg qc_29, if_neg qc_30, if_neg qc_31, if_neg qc_32, if_pos qc_33] at hf
                obtain rfl := (Option.some.inj hf).symm
                exact x_ireturn C dX11_cost_218 rfl (Nat.le_of_ble_eq_true rfl) (Nat.le_of_ble_eq_true rfl) rfl rfl
              · rcases Decidable.em (x1 = 10) with qc_34 | qc_34
                · refine x_tableIn (tgt := 219) C dX11_cost_109 (by rw [qc_34]; decide) (by rw [qc_34]; decide) (by rw [qc_34]; rfl) (by decide) ?_
                  refine x_iload (pc2 := 221) C dX11_cost_219 4 rfl rfl ?_
                  rcases opt_em ((if j_9 = 0 then (if j_3 = 0 then (some (30 : Int32)) else (if inB (xI Ω 1158 0 0) 48 then (if inB (xI Ω 1157 0 0) 2 then (if (xI Ω 2121 0 (xI Ω 1158 0 0).toNatClampNeg) < (xI Ω 2107 0 (xI Ω 1157 0 0).toNatClampNeg) then (some (100 : Int32)) else (some (150 : Int32))) else none) else none)) else (some (30 : Int32))) : Option (Int32)) with hq_35 | ⟨j_35, hq_35⟩
                  · exact absurd hf (by rw [fX11_cost, if_pos qg_2, ob_s hq_3, ob_s hq_9, if_pos qg_16, ob_s hq_17, if_neg qc_27, if_neg qc_28, if_neg qc_29, if_neg qc_30, if_neg qc_31, if_neg qc_32, if_neg qc_33, if_pos qc_34, ob_n hq_35]; exact nofun)
                  suffices hj_35 : XW G B 7 263 [] [.int (j_35)] Ω 0 0 by
                    refine x_if_ne (tgt := 261) (pc2 := 224) C dX11_cost_221 (by decide) rfl (fun qc_36 => ?_) (fun qc_36 => ?_)
                    · refine x_bipush (pc2 := 263) (v := 30) C dX11_cost_261 rfl rfl ?_
                      rw [if_neg qc_36] at hq_35
                      obtain rfl := (Option.some.inj hq_35).symm
                      exact x_sub (lv2 := []) C [] rfl hj_35
                    · refine x_iload (pc2 := 226) C dX11_cost_224 3 rfl rfl ?_
                      refine x_if_eq (tgt := 261) (pc2 := 229) C dX11_cost_226 (by decide) rfl (fun qc_37 => ?_) (fun qc_37 => ?_)
                      · refine x_bipush (pc2 := 263) (v := 30) C dX11_cost_261 rfl rfl ?_
                        rw [if_pos qc_36, if_pos qc_37] at hq_35
                        obtain rfl := (Option.some.inj hq_35).symm
                        exact x_sub (lv2 := []) C [] rfl hj_35
                      · refine x_aload_n (pc2 := 230) C dX11_cost_229 1 rfl rfl rfl ?_
                        refine x_getR (f := 1121) (k2 := 2121) (pc2 := 233) C (by assumption) kf_11_70 dX11_cost_230 rfl rfl rfl (rti_i rfl) rfl (fun qd_38 => ?_)
                        refine x_aload_n (pc2 := 234) C dX11_cost_233 1 rfl rfl rfl ?_
                        refine x_getI (pc2 := 237) (f := 1158) C (by assumption) kf_11_246 dX11_cost_234 rfl rfl rfl ?_
                        rcases (Decidable.em (inB (xI Ω 1158 0 0) 48)).symm with qg_39 | qg_39
                        · exact absurd hq_35 (by rw [if_pos qc_36, if_neg qc_37, if_neg qg_39]; exact nofun)
                        refine x_iald (pc2 := 238) C (by assumption) dX11_cost_237 rfl (inB_in qg_39) rfl ?_
                        refine x_aload_n (pc2 := 239) C dX11_cost_238 1 rfl rfl rfl ?_
                        refine x_getR (f := 1107) (k2 := 2107) (pc2 := 242) C (by assumption) kf_11_28 dX11_cost_239 rfl rfl rfl (rti_i rfl) rfl (fun qd_40 => ?_)
                        refine x_aload_n (pc2 := 243) C dX11_cost_242 1 rfl rfl rfl ?_
                        refine x_getI (pc2 := 246) (f := 1157) C (by assumption) kf_11_255 dX11_cost_243 rfl rfl rfl ?_
                        rcases (Decidable.em (inB (xI Ω 1157 0 0) 2)).symm with qg_41 | qg_41
                        · exact absurd hq_35 (by rw [if_pos qc_36, if_neg qc_37, if_pos qg_39, if_neg qg_41]; exact nofun)
                        refine x_iald (pc2 := 247) C (by assumption) dX11_cost_246 rfl (inB_in qg_41) rfl ?_
                        refine x_icmp_lt (tgt := 256) (pc2 := 250) C dX11_cost_247 (by decide) rfl (fun qc_42 => ?_) (fun qc_42 => ?_)
                        · refine x_bipush (pc2 := 258) (v := 100) C dX11_cost_256 rfl rfl ?_
                          refine x_goto (tgt := 263) C dX11_cost_258 (by decide) ?_
                          rw [if_pos qc_36, if_neg qc_37, if_pos qg_39, if_pos qg_41, if_pos qc_42] at hq_35
                          obtain rfl := (Option.some.inj hq_35).symm
                          exact x_sub (lv2 := []) C [] rfl hj_35
                        · refine x_sipush (pc2 := 253) (v := 150) C dX11_cost_250 rfl rfl ?_
                          refine x_goto (tgt := 263) C dX11_cost_253 (by decide) ?_
                          rw [if_pos qc_36, if_neg qc_37, if_pos qg_39, if_pos qg_41, if_neg qc_42] at hq_35
                          obtain rfl := (Option.some.inj hq_35).symm
                          exact x_sub (lv2 := []) C [] rfl hj_35
                  rw [fX11_cost, if_pos qg_2, ob_s hq_3, ob_s hq_9, if_pos qg_16, ob_s hq_17, if_neg qc_27, if_neg qc_28, if_neg qc_29, if_neg qc_30, if_neg qc_31, if_neg qc_32, if_neg qc_33, if_pos qc_34, ob_s hq_35] at hf
                  obtain rfl := (Option.some.inj hf).symm
                  exact x_ireturn C dX11_cost_263 rfl (Nat.le_of_ble_eq_true rfl) (Nat.le_of_ble_eq_true rfl) rfl rfl
                · rcases Decidable.em (x1 = 11) with qc_43 | qc_43
                  · refine x_tableIn (tgt := 212) C dX11_cost_109 (by rw [qc_43]; decide) (by rw [qc_43]; decide) (by rw [qc_43]; rfl) (by decide) ?_
                    refine x_iconst (pc2 := 213) (v := 5) C dX11_cost_212 rfl rfl ?_
                    rw [fX11_cost, if_pos qg_2, ob_s hq_3, ob_s hq_9, if_pos qg_16, ob_s hq_17, if_neg qc_27, if_neg qc_28, if_neg qc_29, if_neg qc_30, if_neg qc_31, if_neg qc_32, if_neg qc_33, if_neg qc_34, if_pos qc_43] at hf
                    obtain rfl := (Option.some.inj hf).symm
                    exact x_ireturn C dX11_cost_213 rfl (Nat.le_of_ble_eq_true rfl) (Nat.le_of_ble_eq_true rfl) rfl rfl
                  · rcases Decidable.em (x1 = 12) with qc_44 | qc_44
                    · refine x_tableIn (tgt := 212) C dX11_cost_109 (by rw [qc_44]; decide) (by rw [qc_44]; decide) (by rw [qc_44]; rfl) (by decide) ?_
                      refine x_iconst (pc2 := 213) (v := 5) C dX11_cost_212 rfl rfl ?_
                      rw [fX11_cost, if_pos qg_2, ob_s hq_3, ob_s hq_9, if_pos qg_16, ob_s hq_17, if_neg qc_27, if_neg qc_28, if_neg qc_29, if_neg qc_30, if_neg qc_31, if_neg qc_32, if_neg qc_33, if_neg qc_34, if_neg qc_43, if_pos qc_44] at hf
                      obtain rfl := (Option.some.inj hf).symm
                      exact x_ireturn C dX11_cost_213 rfl (Nat.le_of_ble_eq_true rfl) (Nat.le_of_ble_eq_true rfl) rfl rfl
                    · rcases Decidable.em (x1 = 13) with qc_45 | qc_45
                      · refine x_tableIn (tgt := 214) C dX11_cost_109 (by rw [qc_45]; decide) (by rw [qc_45]; decide) (by rw [qc_45]; rfl) (by decide) ?_
                        refine x_iconst (pc2 := 215) (v := 2) C dX11_cost_214 rfl rfl ?_
                        rw [fX11_cost, if_pos qg_2, ob_s hq_3, ob_s hq_9, if_pos qg_16, ob_s hq_17, if_neg qc_27, if_neg qc_28, if_neg qc_29, if_neg qc_30, if_neg qc_31, if_neg qc_32, if_neg qc_33, if_neg qc_34, if_neg qc_43, if_neg qc_44, if_pos qc_45] at hf
                        obtain rfl := (Option.some.inj hf).symm
                        exact x_ireturn C dX11_cost_215 rfl (Nat.le_of_ble_eq_true rfl) (Nat.le_of_ble_eq_true rfl) rfl rfl
                      · rcases Decidable.em (x1 = 14) with qc_46 | qc_46
                        · refine x_tableIn (tgt := 214) C dX11_cost_109 (by rw [qc_46]; decide) (by rw [qc_46]; decide) (by rw [qc_46]; rfl) (by decide) ?_
                          refine x_iconst (pc2 := 215) (v := 2) C dX11_cost_214 rfl rfl ?_
                          rw [fX11_cost, if_pos qg_2, ob_s hq_3, ob_s hq_9, if_pos qg_16, ob_s hq_17, if_neg qc_27, if_neg qc_28, if_neg qc_29, if_neg qc_30, if_neg qc_31, if_neg qc_32, if_neg qc_33, if_neg qc_34, if_neg qc_43, if_neg qc_44, if_neg qc_45, if_pos qc_46] at hf
                          obtain rfl := (Option.some.inj hf).symm
                          exact x_ireturn C dX11_cost_215 rfl (Nat.le_of_ble_eq_true rfl) (Nat.le_of_ble_eq_true rfl) rfl rfl
                        · rcases Decidable.em (x1 = 15) with qc_47 | qc_47
                          · refine x_tableIn (tgt := 214) C dX11_cost_109 (by rw [qc_47]; decide) (by rw [qc_47]; decide) (by rw [qc_47]; rfl) (by decide) ?_
                            refine x_iconst (pc2 := 215) (v := 2) C dX11_cost_214 rfl rfl ?_
                            rw [fX11_cost, if_pos qg_2, ob_s hq_3, ob_s hq_9, if_pos qg_16, ob_s hq_17, if_neg qc_27, if_neg qc_28, if_neg qc_29, if_neg qc_30, if_neg qc_31, if_neg qc_32, if_neg qc_33, if_neg qc_34, if_neg qc_43, if_neg qc_44, if_neg qc_45, if_neg qc_46, if_pos qc_47] at hf
                            obtain rfl := (Option.some.inj hf).symm
                            exact x_ireturn C dX11_cost_215 rfl (Nat.le_of_ble_eq_true rfl) (Nat.le_of_ble_eq_true rfl) rfl rfl
                          · rcases Decidable.em (x1 = 16) with qc_48 | qc_48
                            · refine x_tableIn (tgt := 264) C dX11_cost_109 (by rw [qc_48]; decide) (by rw [qc_48]; decide) (by rw [qc_48]; rfl) (by decide) ?_
                              refine x_bipush (pc2 := 266) (v := 10) C dX11_cost_264 rfl rfl ?_
                              rw [fX11_cost, if_pos qg_2, ob_s hq_3, ob_s hq_9, if_pos qg_16, ob_s hq_17, if_neg qc_27, if_neg qc_28, if_neg qc_29, if_neg qc_30, if_neg qc_31, if_neg qc_32, if_neg qc_33, if_neg qc_34, if_neg qc_43, if_neg qc_44, if_neg qc_45, if_neg qc_46, if_neg qc_47, if_pos qc_48] at hf
                              obtain rfl := (Option.some.inj hf).symm
                              exact x_ireturn C dX11_cost_266 rfl (Nat.le_of_ble_eq_true rfl) (Nat.le_of_ble_eq_true rfl) rfl rfl
                            · rcases Decidable.em (x1 = 17) with qc_49 | qc_49
                              · refine x_tableIn (tgt := 267) C dX11_cost_109 (by rw [qc_49]; decide) (by rw [qc_49]; decide) (by rw [qc_49]; rfl) (by decide) ?_
                                refine x_iconst (pc2 := 268) (v := 3) C dX11_cost_267 rfl rfl ?_
                                refine x_iload (pc2 := 270) C dX11_cost_268 0 rfl rfl ?_
                                refine x_iadd (pc2 := 271) C dX11_cost_270 rfl ?_
                                rw [fX11_cost, if_pos qg_2, ob_s hq_3, ob_s hq_9, if_pos qg_16, ob_s hq_17, if_neg qc_27, if_neg qc_28, if_neg qc_29, if_neg qc_30, if_neg qc_31, if_neg qc_32, if_neg qc_33, if_neg qc_34, if_neg qc_43, if_neg qc_44, if_neg qc_45, if_neg qc_46, if_neg qc_47, if_neg qc_48, if_pos qc_49] at hf
                                obtain rfl := (Option.some.inj hf).symm
                                exact x_ireturn C dX11_cost_271 rfl (Nat.le_of_ble_eq_true rfl) (Nat.le_of_ble_eq_true rfl) rfl rfl
                              · rcases Decidable.em (x1 = 18) with qc_50 | qc_50
                                · refine x_tableIn (tgt := 267) C dX11_cost_109 (by rw [qc_50]; decide) (by rw [qc_50]; decide) (by rw [qc_50]; rfl) (by decide) ?_
                                  refine x_iconst (pc2 := 268) (v := 3) C dX11_cost_267 rfl rfl ?_
                                  refine x_iload (pc2 := 270) C dX11_cost_268 0 rfl rfl ?_
                                  refine x_iadd (pc2 := 271) C dX11_cost_270 rfl ?_
                                  rw [fX11_cost, if_pos qg_2, ob_s hq_3, ob_s hq_9, if_pos qg_16, ob_s hq_17, if_neg qc_27, if_neg qc_28, if_neg qc_29, if_neg qc_30, if_neg qc_31, if_neg qc_32, if_neg qc_33, if_neg qc_34, if_neg qc_43, if_neg qc_44, if_neg qc_45, if_neg qc_46, if_neg qc_47, if_neg qc_48, if_neg qc_49, if_pos qc_50] at hf
                                  obtain rfl := (Option.some.inj hf).symm
                                  exact x_ireturn C dX11_cost_271 rfl (Nat.le_of_ble_eq_true rfl) (Nat.le_of_ble_eq_true rfl) rfl rfl
                                · rcases Decidable.em (x1 = 19) with qc_51 | qc_51
                                  · refine x_tableIn (tgt := 272) C dX11_cost_109 (by rw [qc_51]; decide) (by rw [qc_51]; decide) (by rw [qc_51]; rfl) (by decide) ?_
                                    refine x_bipush (pc2 := 274) (v := 40) C dX11_cost_272 rfl rfl ?_
                                    rw [fX11_cost, if_pos qg_2, ob_s hq_3, ob_s hq_9, if_pos qg_16, ob_s hq_17, if_neg qc_27, if_neg qc_28, if_neg qc_29, if_neg qc_30, if_neg qc_31, if_neg qc_32, if_neg qc_33, if_neg qc_34, if_neg qc_43, if_neg qc_44, if_neg qc_45, if_neg qc_46, if_neg qc_47, if_neg qc_48, if_neg qc_49, if_neg qc_50, if_pos qc_51] at hf
                                    obtain rfl := (Option.some.inj hf).symm
                                    exact x_ireturn C dX11_cost_274 rfl (Nat.le_of_ble_eq_true rfl) (Nat.le_of_ble_eq_true rfl) rfl rfl
                                  · rcases Decidable.em (x1 = 20) with qc_52 | qc_52
                                    · refine x_tableIn (tgt := 216) C dX11_cost_109 (by rw [qc_52]; decide) (by rw [qc_52]; decide) (by rw [qc_52]; rfl) (by decide) ?_
                                      refine x_bipush (pc2 := 218) (v := 20) C dX11_cost_216 rfl rfl ?_
                                      rw [fX11_cost, if_pos qg_2, ob_s hq_3, ob_s hq_9, if_pos qg_16, ob_s hq_17, if_neg qc_27, if_neg qc_28, if_neg qc_29, if_neg qc_30, if_neg qc_31, if_neg qc_32, if_neg qc_33, if_neg qc_34, if_neg qc_43, if_neg qc_44, if_neg qc_45, if_neg qc_46, if_neg qc_47, if_neg qc_48, if_neg qc_49, if_neg qc_50, if_neg qc_51, if_pos qc_52] at hf
                                      obtain rfl := (Option.some.inj hf).symm
                                      exact x_ireturn C dX11_cost_218 rfl (Nat.le_of_ble_eq_true rfl) (Nat.le_of_ble_eq_true rfl) rfl rfl
                                    · rcases Decidable.em (x1 = 21) with qc_53 | qc_53
                                      · refine x_tableIn (tgt := 275) C dX11_cost_109 (by rw [qc_53]; decide) (by rw [qc_53]; decide) (by rw [qc_53]; rfl) (by decide) ?_
                                        refine x_bipush (pc2 := 277) (v := 80) C dX11_cost_275 rfl rfl ?_
                                        rw [fX11_cost, if_pos qg_2, ob_s hq_3, ob_s hq_9, if_pos qg_16, ob_s hq_17, if_neg qc_27, if_neg qc_28, if_neg qc_29, if_neg qc_30, if_neg qc_31, if_neg qc_32, if_neg qc_33, if_neg qc_34, if_neg qc_43, if_neg qc_44, if_neg qc_45, if_neg qc_46, if_neg qc_47, if_neg qc_48, if_neg qc_49, if_neg qc_50, if_neg qc_51, if_neg qc_52, if_pos qc_53] at hf
                                        obtain rfl := (Option.some.inj hf).symm
                                        exact x_ireturn C dX11_cost_277 rfl (Nat.le_of_ble_eq_true rfl) (Nat.le_of_ble_eq_true rfl) rfl rfl
                                      · rcases Decidable.em (x1 = 22) with qc_54 | qc_54
                                        · refine x_tableIn (tgt := 216) C dX11_cost_109 (by rw [qc_54]; decide) (by rw [qc_54]; decide) (by rw [qc_54]; rfl) (by decide) ?_
                                          refine x_bipush (pc2 := 218) (v := 20) C dX11_cost_216 rfl rfl ?_
                                          rw [fX11_cost, if_pos qg_2, ob_s hq_3, ob_s hq_9, if_pos qg_16, ob_s hq_17, if_neg qc_27, if_neg qc_28, if_neg qc_29, if_neg qc_30, if_neg qc_31, if_neg qc_32, if_neg qc_33, if_neg qc_34, if_neg qc_43, if_neg qc_44, if_neg qc_45, if_neg qc_46, if_neg qc_47, if_neg qc_48, if_neg qc_49, if_neg qc_50, if_neg qc_51, if_neg qc_52, if_neg qc_53, if_pos qc_54] at hf
                                          obtain rfl := (Option.some.inj hf).symm
                                          exact x_ireturn C dX11_cost_218 rfl (Nat.le_of_ble_eq_true rfl) (Nat.le_of_ble_eq_true rfl) rfl rfl
                                        · rcases Decidable.em (x1 = 23) with qc_55 | qc_55
                                          · refine x_tableIn (tgt := 278) C dX11_cost_109 (by rw [qc_55]; decide) (by rw [qc_55]; decide) (by rw [qc_55]; rfl) (by decide) ?_
                                            refine x_iconst (pc2 := 279) (v := 0) C dX11_cost_278 rfl rfl ?_
                                            rw [fX11_cost, if_pos qg_2, ob_s hq_3, ob_s hq_9, if_pos qg_16, ob_s hq_17, if_neg qc_27, if_neg qc_28, if_neg qc_29, if_neg qc_30, if_neg qc_31, if_neg qc_32, if_neg qc_33, if_neg qc_34, if_neg qc_43, if_neg qc_44, if_neg qc_45, if_neg qc_46, if_neg qc_47, if_neg qc_48, if_neg qc_49, if_neg qc_50, if_neg qc_51, if_neg qc_52, if_neg qc_53, if_neg qc_54, if_pos qc_55] at hf
                                            obtain rfl := (Option.some.inj hf).symm
                                            exact x_ireturn C dX11_cost_279 rfl (Nat.le_of_ble_eq_true rfl) (Nat.le_of_ble_eq_true rfl) rfl rfl
                                          · rcases Decidable.em (x1 = 24) with qc_56 | qc_56
                                            · refine x_tableIn (tgt := 278) C dX11_cost_109 (by rw [qc_56]; decide) (by rw [qc_56]; decide) (by rw [qc_56]; rfl) (by decide) ?_
                                              refine x_iconst (pc2 := 279) (v := 0) C dX11_cost_278 rfl rfl ?_
                                              rw [fX11_cost, if_pos qg_2, ob_s hq_3, ob_s hq_9, if_pos qg_16, ob_s hq_17, if_neg qc_27, if_neg qc_28, if_neg qc_29, if_neg qc_30, if_neg qc_31, if_neg qc_32, if_neg qc_33, if_neg qc_34, if_neg qc_43, if_neg qc_44, if_neg qc_45, if_neg qc_46, if_neg qc_47, if_neg qc_48, if_neg qc_49, if_neg qc_50, if_neg qc_51, if_neg qc_52, if_neg qc_53, if_neg qc_54, if_neg qc_55, if_pos qc_56] at hf
                                              obtain rfl := (Option.some.inj hf).symm
                                              exact x_ireturn C dX11_cost_279 rfl (Nat.le_of_ble_eq_true rfl) (Nat.le_of_ble_eq_true rfl) rfl rfl
                                            · refine x_tableOut (tgt := 280) C dX11_cost_109 (x_tout (fun v9 h8 h9 => by rcases (show v9 = 3 ∨ v9 = 4 ∨ v9 = 5 ∨ v9 = 6 ∨ v9 = 7 ∨ v9 = 8 ∨ v9 = 9 ∨ v9 = 10 ∨ v9 = 11 ∨ v9 = 12 ∨ v9 = 13 ∨ v9 = 14 ∨ v9 = 15 ∨ v9 = 16 ∨ v9 = 17 ∨ v9 = 18 ∨ v9 = 19 ∨ v9 = 20 ∨ v9 = 21 ∨ v9 = 22 ∨ v9 = 23 ∨ v9 = 24 by omega) with rfl | rfl | rfl | rfl | rfl | rfl | rfl | rfl | rfl | rfl | rfl | rfl | rfl | rfl | rfl | rfl | rfl | rfl | rfl | rfl | rfl | rfl <;> assumption)) (by decide) ?_
                                              refine x_iconst (pc2 := 281) (v := 3) C dX11_cost_280 rfl rfl ?_
                                              rw [fX11_cost, if_pos qg_2, ob_s hq_3, ob_s hq_9, if_pos qg_16, ob_s hq_17, if_neg qc_27, if_neg qc_28, if_neg qc_29, if_neg qc_30, if_neg qc_31, if_neg qc_32, if_neg qc_33, if_neg qc_34, if_neg qc_43, if_neg qc_44, if_neg qc_45, if_neg qc_46, if_neg qc_47, if_neg qc_48, if_neg qc_49, if_neg qc_50, if_neg qc_51, if_neg qc_52, if_neg qc_53, if_neg qc_54, if_neg qc_55, if_neg qc_56] at hf
                                              obtain rfl := (Option.some.inj hf).symm
                                              exact x_ireturn C dX11_cost_281 rfl (Nat.le_of_ble_eq_true rfl) (Nat.le_of_ble_eq_true rfl) rfl rfl
def fX11_pop (Ω : XO) (x1 : Int32) : Option (Int32 × XO) := (if inB x1 5 then (if inB x1 5 then (wl (uI Ω 2148 0 x1.toNatClampNeg ((xI Ω 2148 0 x1.toNatClampNeg) - (1 : Int32))) (fun Ω_4 => (if inB x1 5 then (if inB (((16 : Int32) * x1) + (xI Ω_4 2148 0 x1.toNatClampNeg)) 80 then (some (xI Ω_4 2147 0 (((16 : Int32) * x1) + (xI Ω_4 2148 0 x1.toNatClampNeg)).toNatClampNeg, Ω_4)) else none) else none))) else none) else none)
set_option maxRecDepth 20000 in
theorem tX11_pop {G : XG} (hok : XK G) {x1 : Int32} {Ω : XO} (hd0 : dm G 11 0)   {r : Int32 × XO} (hf : fX11_pop Ω x1 = some r) : XM G yX11_pop cX11_pop 2 ((some FieldType.int)) (RM 0 0) [.ref (ad G 11 0), .int x1] Ω (.inl (some (.int (r.1)))) r.2 := by
  refine x_start (lv := [(0, .ref (ad G 11 0)), (1, .int x1)]) (own := RX11) hok (by decide +kernel) rfl (Nat.le_of_ble_eq_true rfl) rfl (fun B C => ?_)
  refine x_aload_n (pc2 := 1) C dX11_pop_0 0 rfl rfl rfl ?_
  refine x_getR (f := 1148) (k2 := 2148) (pc2 := 4) C (by assumption) kf_11_152 dX11_pop_1 rfl rfl rfl (rti_i rfl) rfl (fun qd_1 => ?_)
  refine x_iload_n (pc2 := 5) C dX11_pop_4 1 rfl rfl rfl ?_
  refine x_dup2 (pc2 := 6) C dX11_pop_5 rfl rfl rfl ?_
  rcases (Decidable.em (inB x1 5)).symm with qg_2 | qg_2
  · exact absurd hf (by rw [fX11_pop, if_neg qg_2]; exact nofun)
  refine x_iald (pc2 := 7) C (by assumption) dX11_pop_6 rfl (inB_in qg_2) rfl ?_
  refine x_iconst (pc2 := 8) (v := 1) C dX11_pop_7 rfl rfl ?_
  refine x_isub (pc2 := 9) C dX11_pop_8 rfl ?_
  rcases (Decidable.em (inB x1 5)).symm with qg_3 | qg_3
  · exact absurd hf (by rw [fX11_pop, if_pos qg_2, if_neg qg_3]; exact nofun)
  refine x_iast (pc2 := 10) C (by assumption) dX11_pop_9 rfl (inB_in qg_3) rfl ?_
  obtain ⟨Ω_4, hw_4⟩ : ∃ z, z = uI Ω 2148 0 x1.toNatClampNeg ((xI Ω 2148 0 x1.toNatClampNeg) - (1 : Int32)) := ⟨_, rfl⟩
  refine x_om hw_4 ?_
  refine x_aload_n (pc2 := 11) C dX11_pop_10 0 rfl rfl rfl ?_
  refine x_getR (f := 1147) (k2 := 2147) (pc2 := 14) C (by assumption) kf_11_149 dX11_pop_11 rfl rfl rfl (rti_i rfl) rfl (fun qd_5 => ?_)
  refine x_bipush (pc2 := 16) (v := 16) C dX11_pop_14 rfl rfl ?_
  refine x_iload_n (pc2 := 17) C dX11_pop_16 1 rfl rfl rfl ?_
  refine x_imul (pc2 := 18) C dX11_pop_17 rfl ?_
  refine x_aload_n (pc2 := 19) C dX11_pop_18 0 rfl rfl rfl ?_
  refine x_getR (f := 1148) (k2 := 2148) (pc2 := 22) C (by assumption) kf_11_152 dX11_pop_19 rfl rfl rfl (rti_i rfl) rfl (fun qd_6 => ?_)
  refine x_iload_n (pc2 := 23) C dX11_pop_22 1 rfl rfl rfl ?_
  rcases (Decidable.em (inB x1 5)).symm with qg_7 | qg_7
  · exact absurd hf (by rw [fX11_pop, if_pos qg_2, if_pos qg_3, wl_eq hw_4, if_neg qg_7]; exact nofun)
  refine x_iald (pc2 := 24) C (by assumption) dX11_pop_23 rfl (inB_in qg_7) rfl ?_
  refine x_iadd (pc2 := 25) C dX11_pop_24 rfl ?_
  rcases (Decidable.em (inB (((16 : Int32) * x1) + (xI Ω_4 2148 0 x1.toNatClampNeg)) 80)).symm with qg_8 | qg_8
  · exact absurd hf (by rw [fX11_pop, if_pos qg_2, if_pos qg_3, wl_eq hw_4, if_pos qg_7, if_neg qg_8]; exact nofun)
  refine x_iald (pc2 := 26) C (by assumption) dX11_pop_25 rfl (inB_in qg_8) rfl ?_
  rw [fX11_pop, if_pos qg_2, if_pos qg_3, wl_eq hw_4, if_pos qg_7, if_pos qg_8] at hf
  obtain rfl := (Option.some.inj hf).symm
  exact x_ireturn C dX11_pop_26 rfl (Nat.le_of_ble_eq_true rfl) (Nat.le_of_ble_eq_true rfl) rfl rfl
def fX11_push (Ω : XO) (x1 : Int32) (x2 : Int32) : Option (XO) := (if inB x1 5 then (if inB (((16 : Int32) * x1) + (xI Ω 2148 0 x1.toNatClampNeg)) 80 then (wl (uI Ω 2147 0 (((16 : Int32) * x1) + (xI Ω 2148 0 x1.toNatClampNeg)).toNatClampNeg x2) (fun Ω_5 => (if inB x1 5 then (if inB x1 5 then (wl (uI Ω_5 2148 0 x1.toNatClampNeg ((xI Ω_5 2148 0 x1.toNatClampNeg) + (1 : Int32))) (fun Ω_9 => (some Ω_9))) else none) else none))) else none) else none)
set_option maxRecDepth 20000 in
theorem tX11_push {G : XG} (hok : XK G) {x1 : Int32} {x2 : Int32} {Ω : XO} (hd0 : dm G 11 0)   {r : XO} (hf : fX11_push Ω x1 x2 = some r) : XM G yX11_push cX11_push 3 none (RM 0 0) [.ref (ad G 11 0), .int x1, .int x2] Ω (.inl none) (r) := by
  refine x_start (lv := [(0, .ref (ad G 11 0)), (1, .int x1), (2, .int x2)]) (own := RX11) hok (by decide +kernel) rfl (Nat.le_of_ble_eq_true rfl) rfl (fun B C => ?_)
  refine x_aload_n (pc2 := 1) C dX11_push_0 0 rfl rfl rfl ?_
  refine x_getR (f := 1147) (k2 := 2147) (pc2 := 4) C (by assumption) kf_11_149 dX11_push_1 rfl rfl rfl (rti_i rfl) rfl (fun qd_1 => ?_)
  refine x_bipush (pc2 := 6) (v := 16) C dX11_push_4 rfl rfl ?_
  refine x_iload_n (pc2 := 7) C dX11_push_6 1 rfl rfl rfl ?_
  refine x_imul (pc2 := 8) C dX11_push_7 rfl ?_
  refine x_aload_n (pc2 := 9) C dX11_push_8 0 rfl rfl rfl ?_
  refine x_getR (f := 1148) (k2 := 2148) (pc2 := 12) C (by assumption) kf_11_152 dX11_push_9 rfl rfl rfl (rti_i rfl) rfl (fun qd_2 => ?_)
  refine x_iload_n (pc2 := 13) C dX11_push_12 1 rfl rfl rfl ?_
  rcases (Decidable.em (inB x1 5)).symm with qg_3 | qg_3
  · exact absurd hf (by rw [fX11_push, if_neg qg_3]; exact nofun)
  refine x_iald (pc2 := 14) C (by assumption) dX11_push_13 rfl (inB_in qg_3) rfl ?_
  refine x_iadd (pc2 := 15) C dX11_push_14 rfl ?_
  refine x_iload_n (pc2 := 16) C dX11_push_15 2 rfl rfl rfl ?_
  rcases (Decidable.em (inB (((16 : Int32) * x1) + (xI Ω 2148 0 x1.toNatClampNeg)) 80)).symm with qg_4 | qg_4
  · exact absurd hf (by rw [fX11_push, if_pos qg_3, if_neg qg_4]; exact nofun)
  refine x_iast (pc2 := 17) C (by assumption) dX11_push_16 rfl (inB_in qg_4) rfl ?_
  obtain ⟨Ω_5, hw_5⟩ : ∃ z, z = uI Ω 2147 0 (((16 : Int32) * x1) + (xI Ω 2148 0 x1.toNatClampNeg)).toNatClampNeg x2 := ⟨_, rfl⟩
  refine x_om hw_5 ?_
  refine x_aload_n (pc2 := 18) C dX11_push_17 0 rfl rfl rfl ?_
  refine x_getR (f := 1148) (k2 := 2148) (pc2 := 21) C (by assumption) kf_11_152 dX11_push_18 rfl rfl rfl (rti_i rfl) rfl (fun qd_6 => ?_)
  refine x_iload_n (pc2 := 22) C dX11_push_21 1 rfl rfl rfl ?_
  refine x_dup2 (pc2 := 23) C dX11_push_22 rfl rfl rfl ?_
  rcases (Decidable.em (inB x1 5)).symm with qg_7 | qg_7
  · exact absurd hf (by rw [fX11_push, if_pos qg_3, if_pos qg_4, wl_eq hw_5, if_neg qg_7]; exact nofun)
  refine x_iald (pc2 := 24) C (by assumption) dX11_push_23 rfl (inB_in qg_7) rfl ?_
  refine x_iconst (pc2 := 25) (v := 1) C dX11_push_24 rfl rfl ?_
  refine x_iadd (pc2 := 26) C dX11_push_25 rfl ?_
  rcases (Decidable.em (inB x1 5)).symm with qg_8 | qg_8
  · exact absurd hf (by rw [fX11_push, if_pos qg_3, if_pos qg_4, wl_eq hw_5, if_pos qg_7, if_neg qg_8]; exact nofun)
  refine x_iast (pc2 := 27) C (by assumption) dX11_push_26 rfl (inB_in qg_8) rfl ?_
  obtain ⟨Ω_9, hw_9⟩ : ∃ z, z = uI Ω_5 2148 0 x1.toNatClampNeg ((xI Ω_5 2148 0 x1.toNatClampNeg) + (1 : Int32)) := ⟨_, rfl⟩
  refine x_om hw_9 ?_
  rw [fX11_push, if_pos qg_3, if_pos qg_4, wl_eq hw_5, if_pos qg_7, if_pos qg_8, wl_eq hw_9] at hf
  obtain rfl := (Option.some.inj hf).symm
  exact x_vreturn C dX11_push_27 rfl (Nat.le_of_ble_eq_true rfl) (Nat.le_of_ble_eq_true rfl) rfl rfl
def fX11_finish (Ω : XO) (x1 : Int32) (x2 : Int32) : Option (XO) := (wl (uI Ω 1153 0 0 ((xI Ω 1153 0 0) - (1 : Int32))) (fun Ω_1 => (((if x1 = 0 then (fX11_undone Ω_1 (xI Ω_1 1153 0 0)).bind (fun r_4 => (some r_4)) else (some Ω_1)) : Option (XO))).bind (fun j_2 => (if x1 = 0 ∨ x1 = 1 then (wl (uI j_2 1156 0 0 x1) (fun Ω_6 => (wl (uI Ω_6 1155 0 0 x2) (fun Ω_7 => (if (xI Ω_7 1153 0 0) ≤ 0 then (some Ω_7) else (if inB ((xI Ω_7 1153 0 0) - (1 : Int32)) 5 then (if inB ((xI Ω_7 1153 0 0) - (1 : Int32)) 5 then (wl (uI Ω_7 2144 0 ((xI Ω_7 1153 0 0) - (1 : Int32)).toNatClampNeg ((xI Ω_7 2144 0 ((xI Ω_7 1153 0 0) - (1 : Int32)).toNatClampNeg) + x2)) (fun Ω_12 => (wl ((if x1 = 0 then (0 : Int32) else (1 : Int32))) (fun (j_13 : Int32) => (fX11_push Ω_12 ((xI Ω_12 1153 0 0) - (1 : Int32)) j_13).bind (fun r_15 => (some r_15)))))) else none) else none)))))) else none))))
set_option maxRecDepth 20000 in
theorem tX11_finish {G : XG} (hok : XK G) {x1 : Int32} {x2 : Int32} {Ω : XO} (hd0 : dm G 11 0)   {r : XO} (hf : fX11_finish Ω x1 x2 = some r) : XM G yX11_finish cX11_finish 3 none (RM 2 0) [.ref (ad G 11 0), .int x1, .int x2] Ω (.inl none) (r) := by
  refine x_start (lv := [(0, .ref (ad G 11 0)), (1, .int x1), (2, .int x2)]) (own := RX11) hok (by decide +kernel) rfl (Nat.le_of_ble_eq_true rfl) rfl (fun B C => ?_)
  refine x_aload_n (pc2 := 1) C dX11_finish_0 0 rfl rfl rfl ?_
  refine x_dup (pc2 := 2) C dX11_finish_1 rfl rfl ?_
  refine x_getI (pc2 := 5) (f := 1153) C (by assumption) kf_11_237 dX11_finish_2 rfl rfl rfl ?_
  refine x_iconst (pc2 := 6) (v := 1) C dX11_finish_5 rfl rfl ?_
  refine x_isub (pc2 := 7) C dX11_finish_6 rfl ?_
  refine x_putI (pc2 := 10) (f := 1153) C (by assumption) kf_11_237 dX11_finish_7 rfl rfl rfl rfl rfl ?_
  obtain ⟨Ω_1, hw_1⟩ : ∃ z, z = uI Ω 1153 0 0 ((xI Ω 1153 0 0) - (1 : Int32)) := ⟨_, rfl⟩
  refine x_om hw_1 ?_
  refine x_iload_n (pc2 := 11) C dX11_finish_10 1 rfl rfl rfl ?_
  rcases opt_em ((if x1 = 0 then (fX11_undone Ω_1 (xI Ω_1 1153 0 0)).bind (fun r_4 => (some r_4)) else (some Ω_1)) : Option (XO)) with hq_2 | ⟨j_2, hq_2⟩
  · exact absurd hf (by rw [fX11_finish, wl_eq hw_1, ob_n hq_2]; exact nofun)
  suffices hj_2 : XW G B 3 22 [(0, .ref (ad G 11 (0))), (1, .int (x1)), (2, .int (x2))] [] j_2 0 0 by
    refine x_if_ne (tgt := 22) (pc2 := 14) C dX11_finish_11 (by decide) rfl (fun qc_3 => ?_) (fun qc_3 => ?_)
    · rw [if_neg qc_3] at hq_2
      obtain rfl := (Option.some.inj hq_2).symm
      exact x_sub (lv2 := [(0, _), (1, _), (2, _)]) C [0, 1, 2] rfl hj_2
    · refine x_aload_n (pc2 := 15) C dX11_finish_14 0 rfl rfl rfl ?_
      refine x_aload_n (pc2 := 16) C dX11_finish_15 0 rfl rfl rfl ?_
      refine x_getI (pc2 := 19) (f := 1153) C (by assumption) kf_11_237 dX11_finish_16 rfl rfl rfl ?_
      rcases opt_em (fX11_undone Ω_1 (xI Ω_1 1153 0 0)) with hq_4 | ⟨r_4, hq_4⟩
      · exact absurd hq_2 (by rw [if_pos qc_3, ob_n hq_4]; exact nofun)
      refine x_ret (rest := []) (st2 := []) (pc2 := 22) (cu2 := 0) (su2 := 0) (x_cV C (by assumption) (Nat.le_of_ble_eq_true rfl) kmX11_undone rfl kk_11_258 (tX11_undone hok (by assumption)  hq_4) rfl rfl (Nat.le_of_ble_eq_true rfl) ⟨Nat.le_of_ble_eq_true rfl, Nat.le_of_ble_eq_true rfl⟩ ⟨Nat.le_of_ble_eq_true rfl, Nat.le_of_ble_eq_true rfl⟩ dX11_finish_19) rfl rfl rfl rfl ?_
      rw [if_pos qc_3, ob_s hq_4] at hq_2
      obtain rfl := (Option.some.inj hq_2).symm
      exact x_sub (lv2 := [(0, _), (1, _), (2, _)]) C [0, 1, 2] rfl hj_2
  refine x_aload_n (pc2 := 23) C dX11_finish_22 0 rfl rfl rfl ?_
  refine x_iload_n (pc2 := 24) C dX11_finish_23 1 rfl rfl rfl ?_
  rcases (Decidable.em (x1 = 0 ∨ x1 = 1)).symm with qg_5 | qg_5
  · exact absurd hf (by rw [fX11_finish, wl_eq hw_1, ob_s hq_2, if_neg qg_5]; exact nofun)
  refine x_putZ (pc2 := 27) (f := 1156) C (by assumption) kf_11_261 dX11_finish_24 rfl rfl rfl qg_5 rfl rfl ?_
  obtain ⟨Ω_6, hw_6⟩ : ∃ z, z = uI j_2 1156 0 0 x1 := ⟨_, rfl⟩
  refine x_om hw_6 ?_
  refine x_aload_n (pc2 := 28) C dX11_finish_27 0 rfl rfl rfl ?_
  refine x_iload_n (pc2 := 29) C dX11_finish_28 2 rfl rfl rfl ?_
  refine x_putI (pc2 := 32) (f := 1155) C (by assumption) kf_11_264 dX11_finish_29 rfl rfl rfl rfl rfl ?_
  obtain ⟨Ω_7, hw_7⟩ : ∃ z, z = uI Ω_6 1155 0 0 x2 := ⟨_, rfl⟩
  refine x_om hw_7 ?_
  refine x_aload_n (pc2 := 33) C dX11_finish_32 0 rfl rfl rfl ?_
  refine x_getI (pc2 := 36) (f := 1153) C (by assumption) kf_11_237 dX11_finish_33 rfl rfl rfl ?_
  refine x_if_le (tgt := 73) (pc2 := 39) C dX11_finish_36 (by decide) rfl (fun qc_8 => ?_) (fun qc_8 => ?_)
  · rw [fX11_finish, wl_eq hw_1, ob_s hq_2, if_pos qg_5, wl_eq hw_6, wl_eq hw_7, if_pos qc_8] at hf
    obtain rfl := (Option.some.inj hf).symm
    exact x_vreturn C dX11_finish_73 rfl (Nat.le_of_ble_eq_true rfl) (Nat.le_of_ble_eq_true rfl) rfl rfl
  · refine x_aload_n (pc2 := 40) C dX11_finish_39 0 rfl rfl rfl ?_
    refine x_getR (f := 1144) (k2 := 2144) (pc2 := 43) C (by assumption) kf_11_140 dX11_finish_40 rfl rfl rfl (rti_i rfl) rfl (fun qd_9 => ?_)
    refine x_aload_n (pc2 := 44) C dX11_finish_43 0 rfl rfl rfl ?_
    refine x_getI (pc2 := 47) (f := 1153) C (by assumption) kf_11_237 dX11_finish_44 rfl rfl rfl ?_
    refine x_iconst (pc2 := 48) (v := 1) C dX11_finish_47 rfl rfl ?_
    refine x_isub (pc2 := 49) C dX11_finish_48 rfl ?_
    refine x_dup2 (pc2 := 50) C dX11_finish_49 rfl rfl rfl ?_
    rcases (Decidable.em (inB ((xI Ω_7 1153 0 0) - (1 : Int32)) 5)).symm with qg_10 | qg_10
    · exact absurd hf (by rw [fX11_finish, wl_eq hw_1, ob_s hq_2, if_pos qg_5, wl_eq hw_6, wl_eq hw_7, if_neg qc_8, if_neg qg_10]; exact nofun)
    refine x_iald (pc2 := 51) C (by assumption) dX11_finish_50 rfl (inB_in qg_10) rfl ?_
    refine x_iload_n (pc2 := 52) C dX11_finish_51 2 rfl rfl rfl ?_
    refine x_iadd (pc2 := 53) C dX11_finish_52 rfl ?_
    rcases (Decidable.em (inB ((xI Ω_7 1153 0 0) - (1 : Int32)) 5)).symm with qg_11 | qg_11
    · exact absurd hf (by rw [fX11_finish, wl_eq hw_1, ob_s hq_2, if_pos qg_5, wl_eq hw_6, wl_eq hw_7, if_neg qc_8, if_pos qg_10, if_neg qg_11]; exact nofun)
    refine x_iast (pc2 := 54) C (by assumption) dX11_finish_53 rfl (inB_in qg_11) rfl ?_
    obtain ⟨Ω_12, hw_12⟩ : ∃ z, z = uI Ω_7 2144 0 ((xI Ω_7 1153 0 0) - (1 : Int32)).toNatClampNeg ((xI Ω_7 2144 0 ((xI Ω_7 1153 0 0) - (1 : Int32)).toNatClampNeg) + x2) := ⟨_, rfl⟩
    refine x_om hw_12 ?_
    refine x_aload_n (pc2 := 55) C dX11_finish_54 0 rfl rfl rfl ?_
    refine x_aload_n (pc2 := 56) C dX11_finish_55 0 rfl rfl rfl ?_
    refine x_getI (pc2 := 59) (f := 1153) C (by assumption) kf_11_237 dX11_finish_56 rfl rfl rfl ?_
    refine x_iconst (pc2 := 60) (v := 1) C dX11_finish_59 rfl rfl ?_
    refine x_isub (pc2 := 61) C dX11_finish_60 rfl ?_
    refine x_iload_n (pc2 := 62) C dX11_finish_61 1 rfl rfl rfl ?_
    obtain ⟨j_13, hq_13⟩ : ∃ z : Int32, z = (if x1 = 0 then (0 : Int32) else (1 : Int32)) := ⟨_, rfl⟩
    suffices hj_13 : XW G B 3 70 [] [.int (j_13), .int ((xI Ω_12 1153 0 0) - (1 : Int32)), .ref (ad G 11 (0))] Ω_12 0 0 by
      refine x_if_eq (tgt := 69) (pc2 := 65) C dX11_finish_62 (by decide) rfl (fun qc_14 => ?_) (fun qc_14 => ?_)
      · refine x_iconst (pc2 := 70) (v := 0) C dX11_finish_69 rfl rfl ?_
        rw [if_pos qc_14] at hq_13
        subst hq_13
        exact x_sub (lv2 := []) C [] rfl hj_13
      · refine x_iconst (pc2 := 66) (v := 1) C dX11_finish_65 rfl rfl ?_
        refine x_goto (tgt := 70) C dX11_finish_66 (by decide) ?_
        rw [if_neg qc_14] at hq_13
        subst hq_13
        exact x_sub (lv2 := []) C [] rfl hj_13
    rcases opt_em (fX11_push Ω_12 ((xI Ω_12 1153 0 0) - (1 : Int32)) j_13) with hq_15 | ⟨r_15, hq_15⟩
    · exact absurd hf (by rw [fX11_finish, wl_eq hw_1, ob_s hq_2, if_pos qg_5, wl_eq hw_6, wl_eq hw_7, if_neg qc_8, if_pos qg_10, if_pos qg_11, wl_eq hw_12, wl_eq hq_13, ob_n hq_15]; exact nofun)
    refine x_ret (rest := []) (st2 := []) (pc2 := 73) (cu2 := 0) (su2 := 0) (x_cV C (by assumption) (Nat.le_of_ble_eq_true rfl) kmX11_push rfl kk_11_267 (tX11_push hok (by assumption)  hq_15) rfl rfl (Nat.le_of_ble_eq_true rfl) ⟨Nat.le_of_ble_eq_true rfl, Nat.le_of_ble_eq_true rfl⟩ ⟨Nat.le_of_ble_eq_true rfl, Nat.le_of_ble_eq_true rfl⟩ dX11_finish_70) rfl rfl rfl rfl ?_
    rw [fX11_finish, wl_eq hw_1, ob_s hq_2, if_pos qg_5, wl_eq hw_6, wl_eq hw_7, if_neg qc_8, if_pos qg_10, if_pos qg_11, wl_eq hw_12, wl_eq hq_13, ob_s hq_15] at hf
    obtain rfl := (Option.some.inj hf).symm
    exact x_vreturn C dX11_finish_73 rfl (Nat.le_of_ble_eq_true rfl) (Nat.le_of_ble_eq_true rfl) rfl rfl
def fX11_reckoned (Ω : XO) (x1 : Int32) (x2 : Int32) (x3 : Int32) : Option (Int32) := (wl ((if x1 = (1 : Int32) then (x2 + x3) - (x2 + x3) / (1000000 : Int32) * (1000000 : Int32) else (if x1 = (2 : Int32) then ((x2 - x3) + (1000000 : Int32)) - ((x2 - x3) + (1000000 : Int32)) / (1000000 : Int32) * (1000000 : Int32) else (if x1 = (3 : Int32) then ((x2.toInt64 * x3.toInt64) - (x2.toInt64 * x3.toInt64) / (1000000 : Int64) * (1000000 : Int64)).toInt32 else (if x1 = (4 : Int32) then (if x3 ≤ x2 then (0 : Int32) else (1 : Int32)) else (if x2 = x3 then (1 : Int32) else (0 : Int32))))))) (fun (j_1 : Int32) => (some j_1)))
set_option maxRecDepth 20000 in
theorem tX11_reckoned {G : XG} (hok : XK G) {x1 : Int32} {x2 : Int32} {x3 : Int32} {Ω : XO} (hd0 : dm G 11 0)   {r : Int32} (hf : fX11_reckoned Ω x1 x2 x3 = some r) : XM G yX11_reckoned cX11_reckoned 4 ((some FieldType.int)) (RM 0 0) [.ref (ad G 11 0), .int x1, .int x2, .int x3] Ω (.inl (some (.int (r)))) Ω := by
  refine x_start (lv := [(0, .ref (ad G 11 0)), (1, .int x1), (2, .int x2), (3, .int x3)]) (own := RX11) hok (by decide +kernel) rfl (Nat.le_of_ble_eq_true rfl) rfl (fun B C => ?_)
  refine x_iload_n (pc2 := 1) C dX11_reckoned_0 1 rfl rfl rfl ?_
  refine x_iconst (pc2 := 2) (v := 1) C dX11_reckoned_1 rfl rfl ?_
  obtain ⟨j_1, hq_1⟩ : ∃ z : Int32, z = (if x1 = (1 : Int32) then (x2 + x3) - (x2 + x3) / (1000000 : Int32) * (1000000 : Int32) else (if x1 = (2 : Int32) then ((x2 - x3) + (1000000 : Int32)) - ((x2 - x3) + (1000000 : Int32)) / (1000000 : Int32) * (1000000 : Int32) else (if x1 = (3 : Int32) then ((x2.toInt64 * x3.toInt64) - (x2.toInt64 * x3.toInt64) / (1000000 : Int64) * (1000000 : Int64)).toInt32 else (if x1 = (4 : Int32) then (if x3 ≤ x2 then (0 : Int32) else (1 : Int32)) else (if x2 = x3 then (1 : Int32) else (0 : Int32)))))) := ⟨_, rfl⟩
  suffices hj_1 : XW G B 4 80 [] [.int (j_1)] Ω 0 0 by
    refine x_icmp_ne (tgt := 15) (pc2 := 5) C dX11_reckoned_2 (by decide) rfl (fun qc_2 => ?_) (fun qc_2 => ?_)
    · refine x_iload_n (pc2 := 16) C dX11_reckoned_15 1 rfl rfl rfl ?_
      refine x_iconst (pc2 := 17) (v := 2) C dX11_reckoned_16 rfl rfl ?_
      refine x_icmp_ne (tgt := 34) (pc2 := 20) C dX11_reckoned_17 (by decide) rfl (fun qc_3 => ?_) (fun qc_3 => ?_)
      · refine x_iload_n (pc2 := 35) C dX11_reckoned_34 1 rfl rfl rfl ?_
        refine x_iconst (pc2 := 36) (v := 3) C dX11_reckoned_35 rfl rfl ?_
        refine x_icmp_ne (tgt := 52) (pc2 := 39) C dX11_reckoned_36 (by decide) rfl (fun qc_4 => ?_) (fun qc_4 => ?_)
        · refine x_iload_n (pc2 := 53) C dX11_reckoned_52 1 rfl rfl rfl ?_
          refine x_iconst (pc2 := 54) (v := 4) C dX11_reckoned_53 rfl rfl ?_
          refine x_icmp_ne (tgt := 70) (pc2 := 57) C dX11_reckoned_54 (by decide) rfl (fun qc_5 => ?_) (fun qc_5 => ?_)
          · refine x_iload_n (pc2 := 71) C dX11_reckoned_70 2 rfl rfl rfl ?_
            refine x_iload_n (pc2 := 72) C dX11_reckoned_71 3 rfl rfl rfl ?_
            refine x_icmp_ne (tgt := 79) (pc2 := 75) C dX11_reckoned_72 (by decide) rfl (fun qc_6 => ?_) (fun qc_6 => ?_)
            · refine x_iconst (pc2 := 80) (v := 0) C dX11_reckoned_79 rfl rfl ?_
              rw [if_neg qc_2, if_neg qc_3, if_neg qc_4, if_neg qc_5, if_neg qc_6] at hq_1
              subst hq_1
              exact x_sub (lv2 := []) C [] rfl hj_1
            · refine x_iconst (pc2 := 76) (v := 1) C dX11_reckoned_75 rfl rfl ?_
              refine x_goto (tgt := 80) C dX11_reckoned_76 (by decide) ?_
              rw [if_neg qc_2, if_neg qc_3, if_neg qc_4, if_neg qc_5, if_pos qc_6] at hq_1
              subst hq_1
              exact x_sub (lv2 := []) C [] rfl hj_1
          · refine x_iload_n (pc2 := 58) C dX11_reckoned_57 2 rfl rfl rfl ?_
            refine x_iload_n (pc2 := 59) C dX11_reckoned_58 3 rfl rfl rfl ?_
            refine x_icmp_ge (tgt := 66) (pc2 := 62) C dX11_reckoned_59 (by decide) rfl (fun qc_7 => ?_) (fun qc_7 => ?_)
            · refine x_iconst (pc2 := 67) (v := 0) C dX11_reckoned_66 rfl rfl ?_
              refine x_goto (tgt := 80) C dX11_reckoned_67 (by decide) ?_
              rw [if_neg qc_2, if_neg qc_3, if_neg qc_4, if_pos qc_5, if_pos qc_7] at hq_1
              subst hq_1
              exact x_sub (lv2 := []) C [] rfl hj_1
            · refine x_iconst (pc2 := 63) (v := 1) C dX11_reckoned_62 rfl rfl ?_
              refine x_goto (tgt := 80) C dX11_reckoned_63 (by decide) ?_
              rw [if_neg qc_2, if_neg qc_3, if_neg qc_4, if_pos qc_5, if_neg qc_7] at hq_1
              subst hq_1
              exact x_sub (lv2 := []) C [] rfl hj_1
        · refine x_iload_n (pc2 := 40) C dX11_reckoned_39 2 rfl rfl rfl ?_
          refine x_i2l (pc2 := 41) C dX11_reckoned_40 rfl ?_
          refine x_iload_n (pc2 := 42) C dX11_reckoned_41 3 rfl rfl rfl ?_
          refine x_i2l (pc2 := 43) C dX11_reckoned_42 rfl ?_
          refine x_lmul (pc2 := 44) C dX11_reckoned_43 rfl ?_
          refine x_ldc2 (pc2 := 47) C kc_11_272 dX11_reckoned_44 rfl ?_
          refine x_lrem (pc2 := 48) C dX11_reckoned_47 (by decide +kernel) rfl ?_
          refine x_l2i (pc2 := 49) C dX11_reckoned_48 rfl ?_
          refine x_goto (tgt := 80) C dX11_reckoned_49 (by decide) ?_
          rw [if_neg qc_2, if_neg qc_3, if_pos qc_4] at hq_1
          subst hq_1
          exact x_sub (lv2 := []) C [] rfl hj_1
      · refine x_iload_n (pc2 := 21) C dX11_reckoned_20 2 rfl rfl rfl ?_
        refine x_iload_n (pc2 := 22) C dX11_reckoned_21 3 rfl rfl rfl ?_
        refine x_isub (pc2 := 23) C dX11_reckoned_22 rfl ?_
        refine x_ldcw (pc2 := 26) C kc_11_271 dX11_reckoned_23 rfl ?_
        refine x_iadd (pc2 := 27) C dX11_reckoned_26 rfl ?_
        refine x_ldcw (pc2 := 30) C kc_11_271 dX11_reckoned_27 rfl ?_
        refine x_irem (pc2 := 31) C dX11_reckoned_30 (by decide +kernel) rfl ?_
        refine x_goto (tgt := 80) C dX11_reckoned_31 (by decide) ?_
        rw [if_neg qc_2, if_pos qc_3] at hq_1
        subst hq_1
        exact x_sub (lv2 := []) C [] rfl hj_1
    · refine x_iload_n (pc2 := 6) C dX11_reckoned_5 2 rfl rfl rfl ?_
      refine x_iload_n (pc2 := 7) C dX11_reckoned_6 3 rfl rfl rfl ?_
      refine x_iadd (pc2 := 8) C dX11_reckoned_7 rfl ?_
      refine x_ldcw (pc2 := 11) C kc_11_271 dX11_reckoned_8 rfl ?_
      refine x_irem (pc2 := 12) C dX11_reckoned_11 (by decide +kernel) rfl ?_
      refine x_goto (tgt := 80) C dX11_reckoned_12 (by decide) ?_
      rw [if_pos qc_2] at hq_1
      subst hq_1
      exact x_sub (lv2 := []) C [] rfl hj_1
  rw [fX11_reckoned, wl_eq hq_1] at hf
  obtain rfl := (Option.some.inj hf).symm
  exact x_ireturn C dX11_reckoned_80 rfl (Nat.le_of_ble_eq_true rfl) (Nat.le_of_ble_eq_true rfl) rfl rfl
def fX11_move (Ω : XO) (x1 : Int32) (x2 : Int32) (x3 : Int32) : Option (XO) := (if inB x1 120 then (if inB x1 120 then (wl (uI Ω 2101 0 x1.toNatClampNeg ((xI Ω 2101 0 x1.toNatClampNeg) - x3)) (fun Ω_4 => (if inB x2 120 then (if inB x2 120 then (wl (uI Ω_4 2101 0 x2.toNatClampNeg ((xI Ω_4 2101 0 x2.toNatClampNeg) + x3)) (fun Ω_8 => (some Ω_8))) else none) else none))) else none) else none)
set_option maxRecDepth 20000 in
theorem tX11_move {G : XG} (hok : XK G) {x1 : Int32} {x2 : Int32} {x3 : Int32} {Ω : XO} (hd0 : dm G 11 0)   {r : XO} (hf : fX11_move Ω x1 x2 x3 = some r) : XM G yX11_move cX11_move 4 none (RM 0 0) [.ref (ad G 11 0), .int x1, .int x2, .int x3] Ω (.inl none) (r) := by
  refine x_start (lv := [(0, .ref (ad G 11 0)), (1, .int x1), (2, .int x2), (3, .int x3)]) (own := RX11) hok (by decide +kernel) rfl (Nat.le_of_ble_eq_true rfl) rfl (fun B C => ?_)
  refine x_aload_n (pc2 := 1) C dX11_move_0 0 rfl rfl rfl ?_
  refine x_getR (f := 1101) (k2 := 2101) (pc2 := 4) C (by assumption) kf_11_13 dX11_move_1 rfl rfl rfl (rti_i rfl) rfl (fun qd_1 => ?_)
  refine x_iload_n (pc2 := 5) C dX11_move_4 1 rfl rfl rfl ?_
  refine x_dup2 (pc2 := 6) C dX11_move_5 rfl rfl rfl ?_
  rcases (Decidable.em (inB x1 120)).symm with qg_2 | qg_2
  · exact absurd hf (by rw [fX11_move, if_neg qg_2]; exact nofun)
  refine x_iald (pc2 := 7) C (by assumption) dX11_move_6 rfl (inB_in qg_2) rfl ?_
  refine x_iload_n (pc2 := 8) C dX11_move_7 3 rfl rfl rfl ?_
  refine x_isub (pc2 := 9) C dX11_move_8 rfl ?_
  rcases (Decidable.em (inB x1 120)).symm with qg_3 | qg_3
  · exact absurd hf (by rw [fX11_move, if_pos qg_2, if_neg qg_3]; exact nofun)
  refine x_iast (pc2 := 10) C (by assumption) dX11_move_9 rfl (inB_in qg_3) rfl ?_
  obtain ⟨Ω_4, hw_4⟩ : ∃ z, z = uI Ω 2101 0 x1.toNatClampNeg ((xI Ω 2101 0 x1.toNatClampNeg) - x3) := ⟨_, rfl⟩
  refine x_om hw_4 ?_
  refine x_aload_n (pc2 := 11) C dX11_move_10 0 rfl rfl rfl ?_
  refine x_getR (f := 1101) (k2 := 2101) (pc2 := 14) C (by assumption) kf_11_13 dX11_move_11 rfl rfl rfl (rti_i rfl) rfl (fun qd_5 => ?_)
  refine x_iload_n (pc2 := 15) C dX11_move_14 2 rfl rfl rfl ?_
  refine x_dup2 (pc2 := 16) C dX11_move_15 rfl rfl rfl ?_
  rcases (Decidable.em (inB x2 120)).symm with qg_6 | qg_6
  · exact absurd hf (by rw [fX11_move, if_pos qg_2, if_pos qg_3, wl_eq hw_4, if_neg qg_6]; exact nofun)
  refine x_iald (pc2 := 17) C (by assumption) dX11_move_16 rfl (inB_in qg_6) rfl ?_
  refine x_iload_n (pc2 := 18) C dX11_move_17 3 rfl rfl rfl ?_
  refine x_iadd (pc2 := 19) C dX11_move_18 rfl ?_
  rcases (Decidable.em (inB x2 120)).symm with qg_7 | qg_7
  · exact absurd hf (by rw [fX11_move, if_pos qg_2, if_pos qg_3, wl_eq hw_4, if_pos qg_6, if_neg qg_7]; exact nofun)
  refine x_iast (pc2 := 20) C (by assumption) dX11_move_19 rfl (inB_in qg_7) rfl ?_
  obtain ⟨Ω_8, hw_8⟩ : ∃ z, z = uI Ω_4 2101 0 x2.toNatClampNeg ((xI Ω_4 2101 0 x2.toNatClampNeg) + x3) := ⟨_, rfl⟩
  refine x_om hw_8 ?_
  rw [fX11_move, if_pos qg_2, if_pos qg_3, wl_eq hw_4, if_pos qg_6, if_pos qg_7, wl_eq hw_8] at hf
  obtain rfl := (Option.some.inj hf).symm
  exact x_vreturn C dX11_move_20 rfl (Nat.le_of_ble_eq_true rfl) (Nat.le_of_ble_eq_true rfl) rfl rfl
def fX11_address (Ω : XO) (x1 : Int32) (x2 : Int32) : Option (Int32) := (some ((6 : Int32) + ((((5 : Int32) * x1) + ((3 : Int32) * x2)) - (((5 : Int32) * x1) + ((3 : Int32) * x2)) / (9 : Int32) * (9 : Int32))))
set_option maxRecDepth 20000 in
theorem tX11_address {G : XG} (hok : XK G) {x1 : Int32} {x2 : Int32} {Ω : XO} (hd0 : dm G 11 0)   {r : Int32} (hf : fX11_address Ω x1 x2 = some r) : XM G yX11_address cX11_address 3 ((some FieldType.int)) (RM 0 0) [.ref (ad G 11 0), .int x1, .int x2] Ω (.inl (some (.int (r)))) Ω := by
  refine x_start (lv := [(0, .ref (ad G 11 0)), (1, .int x1), (2, .int x2)]) (own := RX11) hok (by decide +kernel) rfl (Nat.le_of_ble_eq_true rfl) rfl (fun B C => ?_)
  refine x_bipush (pc2 := 2) (v := 6) C dX11_address_0 rfl rfl ?_
  refine x_iconst (pc2 := 3) (v := 5) C dX11_address_2 rfl rfl ?_
  refine x_iload_n (pc2 := 4) C dX11_address_3 1 rfl rfl rfl ?_
  refine x_imul (pc2 := 5) C dX11_address_4 rfl ?_
  refine x_iconst (pc2 := 6) (v := 3) C dX11_address_5 rfl rfl ?_
  refine x_iload_n (pc2 := 7) C dX11_address_6 2 rfl rfl rfl ?_
  refine x_imul (pc2 := 8) C dX11_address_7 rfl ?_
  refine x_iadd (pc2 := 9) C dX11_address_8 rfl ?_
  refine x_bipush (pc2 := 11) (v := 9) C dX11_address_9 rfl rfl ?_
  refine x_irem (pc2 := 12) C dX11_address_11 (by decide +kernel) rfl ?_
  refine x_iadd (pc2 := 13) C dX11_address_12 rfl ?_
  rw [fX11_address] at hf
  obtain rfl := (Option.some.inj hf).symm
  exact x_ireturn C dX11_address_13 rfl (Nat.le_of_ble_eq_true rfl) (Nat.le_of_ble_eq_true rfl) rfl rfl
def fX11_made (Ω : XO) (x1 : Int32) (x2 : Int32) (x3 : Int32) (x4 : Int32) : Option (Int32 × XO) := (fX11_address Ω x1 x2).bind (fun r_1 => (if inB x1 120 then (if (xI Ω 2101 0 x1.toNatClampNeg) < x4 then (some ((-1 : Int32), Ω)) else (if inB ((32 : Int32) + r_1) 120 then (if (xI Ω 2101 0 ((32 : Int32) + r_1).toNatClampNeg) = 0 then (if inB ((16 : Int32) + r_1) 120 then (if (xI Ω 2101 0 ((16 : Int32) + r_1).toNatClampNeg) = 0 then (fX11_move Ω x1 r_1 x4).bind (fun r_11 => (if inB ((32 : Int32) + r_1) 120 then (wl (uI r_11 2101 0 ((32 : Int32) + r_1).toNatClampNeg (x3 + (1 : Int32))) (fun Ω_14 => (if inB ((16 : Int32) + r_1) 120 then (wl (uI Ω_14 2101 0 ((16 : Int32) + r_1).toNatClampNeg (1 : Int32)) (fun Ω_17 => (some (r_1, Ω_17)))) else none))) else none)) else (some ((-1 : Int32), Ω))) else none) else (some ((-1 : Int32), Ω))) else none)) else none))
set_option maxRecDepth 20000 in
theorem tX11_made {G : XG} (hok : XK G) {x1 : Int32} {x2 : Int32} {x3 : Int32} {x4 : Int32} {Ω : XO} (hd0 : dm G 11 0)   {r : Int32 × XO} (hf : fX11_made Ω x1 x2 x3 x4 = some r) : XM G yX11_made cX11_made 6 ((some FieldType.int)) (RM 1 0) [.ref (ad G 11 0), .int x1, .int x2, .int x3, .int x4] Ω (.inl (some (.int (r.1)))) r.2 := by
  refine x_start (lv := [(0, .ref (ad G 11 0)), (1, .int x1), (2, .int x2), (3, .int x3), (4, .int x4)]) (own := RX11) hok (by decide +kernel) rfl (Nat.le_of_ble_eq_true rfl) rfl (fun B C => ?_)
  refine x_aload_n (pc2 := 1) C dX11_made_0 0 rfl rfl rfl ?_
  refine x_iload_n (pc2 := 2) C dX11_made_1 1 rfl rfl rfl ?_
  refine x_iload_n (pc2 := 3) C dX11_made_2 2 rfl rfl rfl ?_
  rcases opt_em (fX11_address Ω x1 x2) with hq_1 | ⟨r_1, hq_1⟩
  · exact absurd hf (by rw [fX11_made, ob_n hq_1]; exact nofun)
  refine x_ret (rest := []) (st2 := [_]) (pc2 := 6) (cu2 := 0) (su2 := 0) (x_cV C (by assumption) (Nat.le_of_ble_eq_true rfl) kmX11_address rfl kk_11_274 (tX11_address hok (by assumption)  hq_1) rfl rfl (Nat.le_of_ble_eq_true rfl) ⟨Nat.le_of_ble_eq_true rfl, Nat.le_of_ble_eq_true rfl⟩ ⟨Nat.le_of_ble_eq_true rfl, Nat.le_of_ble_eq_true rfl⟩ dX11_made_3) rfl rfl rfl rfl ?_
  refine x_istore (pc2 := 8) (lv2 := [(5, _), (0, _), (1, _), (2, _), (3, _), (4, _)]) C dX11_made_6 (by decide) rfl rfl ?_
  refine x_aload_n (pc2 := 9) C dX11_made_8 1 rfl rfl rfl ?_
  refine x_getR (f := 1101) (k2 := 2101) (pc2 := 12) C (by assumption) kf_11_13 dX11_made_9 rfl rfl rfl (rti_i rfl) rfl (fun qd_2 => ?_)
  refine x_iload_n (pc2 := 13) C dX11_made_12 2 rfl rfl rfl ?_
  rcases (Decidable.em (inB x1 120)).symm with qg_3 | qg_3
  · exact absurd hf (by rw [fX11_made, ob_s hq_1, if_neg qg_3]; exact nofun)
  refine x_iald (pc2 := 14) C (by assumption) dX11_made_13 rfl (inB_in qg_3) rfl ?_
  refine x_iload (pc2 := 16) C dX11_made_14 5 rfl rfl ?_
  refine x_icmp_lt (tgt := 45) (pc2 := 19) C dX11_made_16 (by decide) rfl (fun qc_4 => ?_) (fun qc_4 => ?_)
  · refine x_iconst (pc2 := 46) (v := (-1)) C dX11_made_45 rfl rfl ?_
    rw [fX11_made, ob_s hq_1, if_pos qg_3, if_pos qc_4] at hf
    obtain rfl := (Option.some.inj hf).symm
    exact x_ireturn C dX11_made_46 rfl (Nat.le_of_ble_eq_true rfl) (Nat.le_of_ble_eq_true rfl) rfl rfl
  · refine x_aload_n (pc2 := 20) C dX11_made_19 1 rfl rfl rfl ?_
    refine x_getR (f := 1101) (k2 := 2101) (pc2 := 23) C (by assumption) kf_11_13 dX11_made_20 rfl rfl rfl (rti_i rfl) rfl (fun qd_5 => ?_)
    refine x_bipush (pc2 := 25) (v := 32) C dX11_made_23 rfl rfl ?_
    refine x_iload (pc2 := 27) C dX11_made_25 0 rfl rfl ?_
    refine x_iadd (pc2 := 28) C dX11_made_27 rfl ?_
    rcases (Decidable.em (inB ((32 : Int32) + r_1) 120)).symm with qg_6 | qg_6
    · exact absurd hf (by rw [fX11_made, ob_s hq_1, if_pos qg_3, if_neg qc_4, if_neg qg_6]; exact nofun)
    refine x_iald (pc2 := 29) C (by assumption) dX11_made_28 rfl (inB_in qg_6) rfl ?_
    refine x_if_ne (tgt := 45) (pc2 := 32) C dX11_made_29 (by decide) rfl (fun qc_7 => ?_) (fun qc_7 => ?_)
    · refine x_iconst (pc2 := 46) (v := (-1)) C dX11_made_45 rfl rfl ?_
      rw [fX11_made, ob_s hq_1, if_pos qg_3, if_neg qc_4, if_pos qg_6, if_neg qc_7] at hf
      obtain rfl := (Option.some.inj hf).symm
      exact x_ireturn C dX11_made_46 rfl (Nat.le_of_ble_eq_true rfl) (Nat.le_of_ble_eq_true rfl) rfl rfl
    · refine x_aload_n (pc2 := 33) C dX11_made_32 1 rfl rfl rfl ?_
      refine x_getR (f := 1101) (k2 := 2101) (pc2 := 36) C (by assumption) kf_11_13 dX11_made_33 rfl rfl rfl (rti_i rfl) rfl (fun qd_8 => ?_)
      refine x_bipush (pc2 := 38) (v := 16) C dX11_made_36 rfl rfl ?_
      refine x_iload (pc2 := 40) C dX11_made_38 0 rfl rfl ?_
      refine x_iadd (pc2 := 41) C dX11_made_40 rfl ?_
      rcases (Decidable.em (inB ((16 : Int32) + r_1) 120)).symm with qg_9 | qg_9
      · exact absurd hf (by rw [fX11_made, ob_s hq_1, if_pos qg_3, if_neg qc_4, if_pos qg_6, if_pos qc_7, if_neg qg_9]; exact nofun)
      refine x_iald (pc2 := 42) C (by assumption) dX11_made_41 rfl (inB_in qg_9) rfl ?_
      refine x_if_eq (tgt := 47) (pc2 := 45) C dX11_made_42 (by decide) rfl (fun qc_10 => ?_) (fun qc_10 => ?_)
      · refine x_aload_n (pc2 := 48) C dX11_made_47 1 rfl rfl rfl ?_
        refine x_iload_n (pc2 := 49) C dX11_made_48 2 rfl rfl rfl ?_
        refine x_iload (pc2 := 51) C dX11_made_49 0 rfl rfl ?_
        refine x_iload (pc2 := 53) C dX11_made_51 5 rfl rfl ?_
        rcases opt_em (fX11_move Ω x1 r_1 x4) with hq_11 | ⟨r_11, hq_11⟩
        · exact absurd hf (by rw [fX11_made, ob_s hq_1, if_pos qg_3, if_neg qc_4, if_pos qg_6, if_pos qc_7, if_pos qg_9, if_pos qc_10, ob_n hq_11]; exact nofun)
        refine x_ret (rest := []) (st2 := []) (pc2 := 56) (cu2 := 0) (su2 := 0) (x_cV C (by assumption) (Nat.le_of_ble_eq_true rfl) kmX11_move rfl kk_11_277 (tX11_move hok (by assumption)  hq_11) rfl rfl (Nat.le_of_ble_eq_true rfl) ⟨Nat.le_of_ble_eq_true rfl, Nat.le_of_ble_eq_true rfl⟩ ⟨Nat.le_of_ble_eq_true rfl, Nat.le_of_ble_eq_true rfl⟩ dX11_made_53) rfl rfl rfl rfl ?_
        refine x_aload_n (pc2 := 57) C dX11_made_56 1 rfl rfl rfl ?_
        refine x_getR (f := 1101) (k2 := 2101) (pc2 := 60) C (by assumption) kf_11_13 dX11_made_57 rfl rfl rfl (rti_i rfl) rfl (fun qd_12 => ?_)
        refine x_bipush (pc2 := 62) (v := 32) C dX11_made_60 rfl rfl ?_
        refine x_iload (pc2 := 64) C dX11_made_62 0 rfl rfl ?_
        refine x_iadd (pc2 := 65) C dX11_made_64 rfl ?_
        refine x_iload_n (pc2 := 66) C dX11_made_65 4 rfl rfl rfl ?_
        refine x_iconst (pc2 := 67) (v := 1) C dX11_made_66 rfl rfl ?_
        refine x_iadd (pc2 := 68) C dX11_made_67 rfl ?_
        rcases (Decidable.em (inB ((32 : Int32) + r_1) 120)).symm with qg_13 | qg_13
        · exact absurd hf (by rw [fX11_made, ob_s hq_1, if_pos qg_3, if_neg qc_4, if_pos qg_6, if_pos qc_7, if_pos qg_9, if_pos qc_10, ob_s hq_11, if_neg qg_13]; exact nofun)
        refine x_iast (pc2 := 69) C (by assumption) dX11_made_68 rfl (inB_in qg_13) rfl ?_
        obtain ⟨Ω_14, hw_14⟩ : ∃ z, z = uI r_11 2101 0 ((32 : Int32) + r_1).toNatClampNeg (x3 + (1 : Int32)) := ⟨_, rfl⟩
        refine x_om hw_14 ?_
        refine x_aload_n (pc2 := 70) C dX11_made_69 1 rfl rfl rfl ?_
        refine x_getR (f := 1101) (k2 := 2101) (pc2 := 73) C (by assumption) kf_11_13 dX11_made_70 rfl rfl rfl (rti_i rfl) rfl (fun qd_15 => ?_)
        refine x_bipush (pc2 := 75) (v := 16) C dX11_made_73 rfl rfl ?_
        refine x_iload (pc2 := 77) C dX11_made_75 0 rfl rfl ?_
        refine x_iadd (pc2 := 78) C dX11_made_77 rfl ?_
        refine x_iconst (pc2 := 79) (v := 1) C dX11_made_78 rfl rfl ?_
        rcases (Decidable.em (inB ((16 : Int32) + r_1) 120)).symm with qg_16 | qg_16
        · exact absurd hf (by rw [fX11_made, ob_s hq_1, if_pos qg_3, if_neg qc_4, if_pos qg_6, if_pos qc_7, if_pos qg_9, if_pos qc_10, ob_s hq_11, if_pos qg_13, wl_eq hw_14, if_neg qg_16]; exact nofun)
        refine x_iast (pc2 := 80) C (by assumption) dX11_made_79 rfl (inB_in qg_16) rfl ?_
        obtain ⟨Ω_17, hw_17⟩ : ∃ z, z = uI Ω_14 2101 0 ((16 : Int32) + r_1).toNatClampNeg (1 : Int32) := ⟨_, rfl⟩
        refine x_om hw_17 ?_
        refine x_iload (pc2 := 82) C dX11_made_80 0 rfl rfl ?_
        rw [fX11_made, ob_s hq_1, if_pos qg_3, if_neg qc_4, if_pos qg_6, if_pos qc_7, if_pos qg_9, if_pos qc_10, ob_s hq_11, if_pos qg_13, wl_eq hw_14, if_pos qg_16, wl_eq hw_17] at hf
        obtain rfl := (Option.some.inj hf).symm
        exact x_ireturn C dX11_made_82 rfl (Nat.le_of_ble_eq_true rfl) (Nat.le_of_ble_eq_true rfl) rfl rfl
      · refine x_iconst (pc2 := 46) (v := (-1)) C dX11_made_45 rfl rfl ?_
        rw [fX11_made, ob_s hq_1, if_pos qg_3, if_neg qc_4, if_pos qg_6, if_pos qc_7, if_pos qg_9, if_neg qc_10] at hf
        obtain rfl := (Option.some.inj hf).symm
        exact x_ireturn C dX11_made_46 rfl (Nat.le_of_ble_eq_true rfl) (Nat.le_of_ble_eq_true rfl) rfl rfl
def fX11_calls (Ω : XO) (x1 : Int32) : Option (XO) := (fX11_pop Ω x1).bind (fun r_1 => (fX11_pop r_1.2 x1).bind (fun r_2 => (fX11_pop r_2.2 x1).bind (fun r_3 => (if x1 = (3 : Int32) then (fX11_push r_3.2 x1 (0 : Int32)).bind (fun r_5 => (some r_5)) else (if inB x1 5 then (if inB (xI r_3.2 2140 0 x1.toNatClampNeg) 120 then (if r_2.1 ≤ (xI r_3.2 2101 0 (xI r_3.2 2140 0 x1.toNatClampNeg).toNatClampNeg) then (fX11_mark r_3.2 (x1 + (1 : Int32))).bind (fun r_11 => (if inB x1 5 then (fX11_move r_11 (xI r_11 2140 0 x1.toNatClampNeg) (r_3.1 - r_3.1 / (16 : Int32) * (16 : Int32)) r_2.1).bind (fun r_14 => (if inB ((32 : Int32) + (r_3.1 - r_3.1 / (16 : Int32) * (16 : Int32))) 120 then (if (xI r_14 2101 0 ((32 : Int32) + (r_3.1 - r_3.1 / (16 : Int32) * (16 : Int32))).toNatClampNeg) = 0 then (fX11_push r_14 x1 (1 : Int32)).bind (fun r_29 => (some r_29)) else (if inB x1 5 then (if inB x1 5 then (if inB x1 5 then (if inB x1 5 then (wl (uI r_14 2144 0 x1.toNatClampNeg ((xI r_14 2144 0 x1.toNatClampNeg) - ((xI r_14 2144 0 x1.toNatClampNeg) - ((xI r_14 2144 0 x1.toNatClampNeg) / (4 : Int32))))) (fun Ω_25 => (if inB x1 5 then (fX11_begin Ω_25 (r_3.1 - r_3.1 / (16 : Int32) * (16 : Int32)) (xI Ω_25 2140 0 x1.toNatClampNeg) r_2.1 r_1.1 ((xI r_14 2144 0 x1.toNatClampNeg) - ((xI r_14 2144 0 x1.toNatClampNeg) / (4 : Int32)))).bind (fun r_28 => (some r_28)) else none))) else none) else none) else none) else none)) else none)) else none)) else (fX11_push r_3.2 x1 (0 : Int32)).bind (fun r_30 => (some r_30))) else none) else none)))))
set_option maxRecDepth 20000 in
theorem tX11_calls {G : XG} (hok : XK G) {x1 : Int32} {Ω : XO} (hd0 : dm G 11 0)   {r : XO} (hf : fX11_calls Ω x1 = some r) : XM G yX11_calls cX11_calls 6 none (RM 2 0) [.ref (ad G 11 0), .int x1] Ω (.inl none) (r) := by
  refine x_start (lv := [(0, .ref (ad G 11 0)), (1, .int x1)]) (own := RX11) hok (by decide +kernel) rfl (Nat.le_of_ble_eq_true rfl) rfl (fun B C => ?_)
  refine x_aload_n (pc2 := 1) C dX11_calls_0 0 rfl rfl rfl ?_
  refine x_iload_n (pc2 := 2) C dX11_calls_1 1 rfl rfl rfl ?_
  rcases opt_em (fX11_pop Ω x1) with hq_1 | ⟨r_1, hq_1⟩
  · exact absurd hf (by rw [fX11_calls, ob_n hq_1]; exact nofun)
  refine x_ret (rest := []) (st2 := [_]) (pc2 := 5) (cu2 := 0) (su2 := 0) (x_cV C (by assumption) (Nat.le_of_ble_eq_true rfl) kmX11_pop rfl kk_11_281 (tX11_pop hok (by assumption)  hq_1) rfl rfl (Nat.le_of_ble_eq_true rfl) ⟨Nat.le_of_ble_eq_true rfl, Nat.le_of_ble_eq_true rfl⟩ ⟨Nat.le_of_ble_eq_true rfl, Nat.le_of_ble_eq_true rfl⟩ dX11_calls_2) rfl rfl rfl rfl ?_
  refine x_istore_n (pc2 := 6) (lv2 := [(2, _), (0, _), (1, _)]) C dX11_calls_5 rfl (by decide) rfl rfl ?_
  refine x_aload_n (pc2 := 7) C dX11_calls_6 1 rfl rfl rfl ?_
  refine x_iload_n (pc2 := 8) C dX11_calls_7 2 rfl rfl rfl ?_
  rcases opt_em (fX11_pop r_1.2 x1) with hq_2 | ⟨r_2, hq_2⟩
  · exact absurd hf (by rw [fX11_calls, ob_s hq_1, ob_n hq_2]; exact nofun)
  refine x_ret (rest := []) (st2 := [_]) (pc2 := 11) (cu2 := 0) (su2 := 0) (x_cV C (by assumption) (Nat.le_of_ble_eq_true rfl) kmX11_pop rfl kk_11_281 (tX11_pop hok (by assumption)  hq_2) rfl rfl (Nat.le_of_ble_eq_true rfl) ⟨Nat.le_of_ble_eq_true rfl, Nat.le_of_ble_eq_true rfl⟩ ⟨Nat.le_of_ble_eq_true rfl, Nat.le_of_ble_eq_true rfl⟩ dX11_calls_8) rfl rfl rfl rfl ?_
  refine x_istore_n (pc2 := 12) (lv2 := [(3, _), (2, _), (0, _), (1, _)]) C dX11_calls_11 rfl (by decide) rfl rfl ?_
  refine x_aload_n (pc2 := 13) C dX11_calls_12 2 rfl rfl rfl ?_
  refine x_iload_n (pc2 := 14) C dX11_calls_13 3 rfl rfl rfl ?_
  rcases opt_em (fX11_pop r_2.2 x1) with hq_3 | ⟨r_3, hq_3⟩
  · exact absurd hf (by rw [fX11_calls, ob_s hq_1, ob_s hq_2, ob_n hq_3]; exact nofun)
  refine x_ret (rest := []) (st2 := [_]) (pc2 := 17) (cu2 := 0) (su2 := 0) (x_cV C (by assumption) (Nat.le_of_ble_eq_true rfl) kmX11_pop rfl kk_11_281 (tX11_pop hok (by assumption)  hq_3) rfl rfl (Nat.le_of_ble_eq_true rfl) ⟨Nat.le_of_ble_eq_true rfl, Nat.le_of_ble_eq_true rfl⟩ ⟨Nat.le_of_ble_eq_true rfl, Nat.le_of_ble_eq_true rfl⟩ dX11_calls_14) rfl rfl rfl rfl ?_
  refine x_bipush (pc2 := 19) (v := 16) C dX11_calls_17 rfl rfl ?_
  refine x_irem (pc2 := 20) C dX11_calls_19 (by decide +kernel) rfl ?_
  refine x_istore (pc2 := 22) (lv2 := [(4, _), (3, _), (2, _), (0, _), (1, _)]) C dX11_calls_20 (by decide) rfl rfl ?_
  refine x_iload_n (pc2 := 23) C dX11_calls_22 4 rfl rfl rfl ?_
  refine x_iconst (pc2 := 24) (v := 3) C dX11_calls_23 rfl rfl ?_
  refine x_icmp_eq (tgt := 42) (pc2 := 27) C dX11_calls_24 (by decide) rfl (fun qc_4 => ?_) (fun qc_4 => ?_)
  · refine x_aload_n (pc2 := 43) C dX11_calls_42 3 rfl rfl rfl ?_
    refine x_iload_n (pc2 := 44) C dX11_calls_43 4 rfl rfl rfl ?_
    refine x_iconst (pc2 := 45) (v := 0) C dX11_calls_44 rfl rfl ?_
    rcases opt_em (fX11_push r_3.2 x1 (0 : Int32)) with hq_5 | ⟨r_5, hq_5⟩
    · exact absurd hf (by rw [fX11_calls, ob_s hq_1, ob_s hq_2, ob_s hq_3, if_pos qc_4, ob_n hq_5]; exact nofun)
    refine x_ret (rest := []) (st2 := []) (pc2 := 48) (cu2 := 0) (su2 := 0) (x_cV C (by assumption) (Nat.le_of_ble_eq_true rfl) kmX11_push rfl kk_11_267 (tX11_push hok (by assumption)  hq_5) rfl rfl (Nat.le_of_ble_eq_true rfl) ⟨Nat.le_of_ble_eq_true rfl, Nat.le_of_ble_eq_true rfl⟩ ⟨Nat.le_of_ble_eq_true rfl, Nat.le_of_ble_eq_true rfl⟩ dX11_calls_45) rfl rfl rfl rfl ?_
    rw [fX11_calls, ob_s hq_1, ob_s hq_2, ob_s hq_3, if_pos qc_4, ob_s hq_5] at hf
    obtain rfl := (Option.some.inj hf).symm
    exact x_vreturn C dX11_calls_48 rfl (Nat.le_of_ble_eq_true rfl) (Nat.le_of_ble_eq_true rfl) rfl rfl
  · refine x_aload_n (pc2 := 28) C dX11_calls_27 3 rfl rfl rfl ?_
    refine x_getR (f := 1101) (k2 := 2101) (pc2 := 31) C (by assumption) kf_11_13 dX11_calls_28 rfl rfl rfl (rti_i rfl) rfl (fun qd_6 => ?_)
    refine x_aload_n (pc2 := 32) C dX11_calls_31 3 rfl rfl rfl ?_
    refine x_getR (f := 1140) (k2 := 2140) (pc2 := 35) C (by assumption) kf_11_128 dX11_calls_32 rfl rfl rfl (rti_i rfl) rfl (fun qd_7 => ?_)
    refine x_iload_n (pc2 := 36) C dX11_calls_35 4 rfl rfl rfl ?_
    rcases (Decidable.em (inB x1 5)).symm with qg_8 | qg_8
    · exact absurd hf (by rw [fX11_calls, ob_s hq_1, ob_s hq_2, ob_s hq_3, if_neg qc_4, if_neg qg_8]; exact nofun)
    refine x_iald (pc2 := 37) C (by assumption) dX11_calls_36 rfl (inB_in qg_8) rfl ?_
    rcases (Decidable.em (inB (xI r_3.2 2140 0 x1.toNatClampNeg) 120)).symm with qg_9 | qg_9
    · exact absurd hf (by rw [fX11_calls, ob_s hq_1, ob_s hq_2, ob_s hq_3, if_neg qc_4, if_pos qg_8, if_neg qg_9]; exact nofun)
    refine x_iald (pc2 := 38) C (by assumption) dX11_calls_37 rfl (inB_in qg_9) rfl ?_
    refine x_iload_n (pc2 := 39) C dX11_calls_38 1 rfl rfl rfl ?_
    refine x_icmp_ge (tgt := 49) (pc2 := 42) C dX11_calls_39 (by decide) rfl (fun qc_10 => ?_) (fun qc_10 => ?_)
    · refine x_aload_n (pc2 := 50) C dX11_calls_49 3 rfl rfl rfl ?_
      refine x_iload_n (pc2 := 51) C dX11_calls_50 4 rfl rfl rfl ?_
      refine x_iconst (pc2 := 52) (v := 1) C dX11_calls_51 rfl rfl ?_
      refine x_iadd (pc2 := 53) C dX11_calls_52 rfl ?_
      rcases opt_em (fX11_mark r_3.2 (x1 + (1 : Int32))) with hq_11 | ⟨r_11, hq_11⟩
      · exact absurd hf (by rw [fX11_calls, ob_s hq_1, ob_s hq_2, ob_s hq_3, if_neg qc_4, if_pos qg_8, if_pos qg_9, if_pos qc_10, ob_n hq_11]; exact nofun)
      refine x_ret (rest := []) (st2 := []) (pc2 := 56) (cu2 := 0) (su2 := 0) (x_cV C (by assumption) (Nat.le_of_ble_eq_true rfl) kmX11_mark rfl kk_11_284 (tX11_mark hok (by assumption)  hq_11) rfl rfl (Nat.le_of_ble_eq_true rfl) ⟨Nat.le_of_ble_eq_true rfl, Nat.le_of_ble_eq_true rfl⟩ ⟨Nat.le_of_ble_eq_true rfl, Nat.le_of_ble_eq_true rfl⟩ dX11_calls_53) rfl rfl rfl rfl ?_
      refine x_aload_n (pc2 := 57) C dX11_calls_56 3 rfl rfl rfl ?_
      refine x_aload_n (pc2 := 58) C dX11_calls_57 3 rfl rfl rfl ?_
      refine x_getR (f := 1140) (k2 := 2140) (pc2 := 61) C (by assumption) kf_11_128 dX11_calls_58 rfl rfl rfl (rti_i rfl) rfl (fun qd_12 => ?_)
      refine x_iload_n (pc2 := 62) C dX11_calls_61 4 rfl rfl rfl ?_
      rcases (Decidable.em (inB x1 5)).symm with qg_13 | qg_13
      · exact absurd hf (by rw [fX11_calls, ob_s hq_1, ob_s hq_2, ob_s hq_3, if_neg qc_4, if_pos qg_8, if_pos qg_9, if_pos qc_10, ob_s hq_11, if_neg qg_13]; exact nofun)
      refine x_iald (pc2 := 63) C (by assumption) dX11_calls_62 rfl (inB_in qg_13) rfl ?_
      refine x_iload (pc2 := 65) C dX11_calls_63 0 rfl rfl ?_
      refine x_iload_n (pc2 := 66) C dX11_calls_65 1 rfl rfl rfl ?_
      rcases opt_em (fX11_move r_11 (xI r_11 2140 0 x1.toNatClampNeg) (r_3.1 - r_3.1 / (16 : Int32) * (16 : Int32)) r_2.1) with hq_14 | ⟨r_14, hq_14⟩
      · exact absurd hf (by rw [fX11_calls, ob_s hq_1, ob_s hq_2, ob_s hq_3, if_neg qc_4, if_pos qg_8, if_pos qg_9, if_pos qc_10, ob_s hq_11, if_pos qg_13, ob_n hq_14]; exact nofun)
      refine x_ret (rest := []) (st2 := []) (pc2 := 69) (cu2 := 0) (su2 := 0) (x_cV C (by assumption) (Nat.le_of_ble_eq_true rfl) kmX11_move rfl kk_11_277 (tX11_move hok (by assumption)  hq_14) rfl rfl (Nat.le_of_ble_eq_true rfl) ⟨Nat.le_of_ble_eq_true rfl, Nat.le_of_ble_eq_true rfl⟩ ⟨Nat.le_of_ble_eq_true rfl, Nat.le_of_ble_eq_true rfl⟩ dX11_calls_66) rfl rfl rfl rfl ?_
      refine x_aload_n (pc2 := 70) C dX11_calls_69 3 rfl rfl rfl ?_
      refine x_getR (f := 1101) (k2 := 2101) (pc2 := 73) C (by assumption) kf_11_13 dX11_calls_70 rfl rfl rfl (rti_i rfl) rfl (fun qd_15 => ?_)
      refine x_bipush (pc2 := 75) (v := 32) C dX11_calls_73 rfl rfl ?_
      refine x_iload (pc2 := 77) C dX11_calls_75 0 rfl rfl ?_
      refine x_iadd (pc2 := 78) C dX11_calls_77 rfl ?_
      rcases (Decidable.em (inB ((32 : Int32) + (r_3.1 - r_3.1 / (16 : Int32) * (16 : Int32))) 120)).symm with qg_16 | qg_16
      · exact absurd hf (by rw [fX11_calls, ob_s hq_1, ob_s hq_2, ob_s hq_3, if_neg qc_4, if_pos qg_8, if_pos qg_9, if_pos qc_10, ob_s hq_11, if_pos qg_13, ob_s hq_14, if_neg qg_16]; exact nofun)
      refine x_iald (pc2 := 79) C (by assumption) dX11_calls_78 rfl (inB_in qg_16) rfl ?_
      refine x_if_ne (tgt := 89) (pc2 := 82) C dX11_calls_79 (by decide) rfl (fun qc_17 => ?_) (fun qc_17 => ?_)
      · refine x_aload_n (pc2 := 90) C dX11_calls_89 3 rfl rfl rfl ?_
        refine x_getR (f := 1144) (k2 := 2144) (pc2 := 93) C (by assumption) kf_11_140 dX11_calls_90 rfl rfl rfl (rti_i rfl) rfl (fun qd_18 => ?_)
        refine x_iload_n (pc2 := 94) C dX11_calls_93 4 rfl rfl rfl ?_
        rcases (Decidable.em (inB x1 5)).symm with qg_19 | qg_19
        · exact absurd hf (by rw [fX11_calls, ob_s hq_1, ob_s hq_2, ob_s hq_3, if_neg qc_4, if_pos qg_8, if_pos qg_9, if_pos qc_10, ob_s hq_11, if_pos qg_13, ob_s hq_14, if_pos qg_16, if_neg qc_17, if_neg qg_19]; exact nofun)
        refine x_iald (pc2 := 95) C (by assumption) dX11_calls_94 rfl (inB_in qg_19) rfl ?_
        refine x_aload_n (pc2 := 96) C dX11_calls_95 3 rfl rfl rfl ?_
        refine x_getR (f := 1144) (k2 := 2144) (pc2 := 99) C (by assumption) kf_11_140 dX11_calls_96 rfl rfl rfl (rti_i rfl) rfl (fun qd_20 => ?_)
        refine x_iload_n (pc2 := 100) C dX11_calls_99 4 rfl rfl rfl ?_
        rcases (Decidable.em (inB x1 5)).symm with qg_21 | qg_21
        · exact absurd hf (by rw [fX11_calls, ob_s hq_1, ob_s hq_2, ob_s hq_3, if_neg qc_4, if_pos qg_8, if_pos qg_9, if_pos qc_10, ob_s hq_11, if_pos qg_13, ob_s hq_14, if_pos qg_16, if_neg qc_17, if_pos qg_19, if_neg qg_21]; exact nofun)
        refine x_iald (pc2 := 101) C (by assumption) dX11_calls_100 rfl (inB_in qg_21) rfl ?_
        refine x_iconst (pc2 := 102) (v := 4) C dX11_calls_101 rfl rfl ?_
        refine x_idiv (pc2 := 103) C dX11_calls_102 (by decide +kernel) rfl ?_
        refine x_isub (pc2 := 104) C dX11_calls_103 rfl ?_
        refine x_istore (pc2 := 106) (lv2 := [(5, _), (4, _), (3, _), (2, _), (0, _), (1, _)]) C dX11_calls_104 (by decide) rfl rfl ?_
        refine x_aload_n (pc2 := 107) C dX11_calls_106 4 rfl rfl rfl ?_
        refine x_getR (f := 1144) (k2 := 2144) (pc2 := 110) C (by assumption) kf_11_140 dX11_calls_107 rfl rfl rfl (rti_i rfl) rfl (fun qd_22 => ?_)
        refine x_iload_n (pc2 := 111) C dX11_calls_110 5 rfl rfl rfl ?_
        refine x_dup2 (pc2 := 112) C dX11_calls_111 rfl rfl rfl ?_
        rcases (Decidable.em (inB x1 5)).symm with qg_23 | qg_23
        · exact absurd hf (by rw [fX11_calls, ob_s hq_1, ob_s hq_2, ob_s hq_3, if_neg qc_4, if_pos qg_8, if_pos qg_9, if_pos qc_10, ob_s hq_11, if_pos qg_13, ob_s hq_14, if_pos qg_16, if_neg qc_17, if_pos qg_19, if_pos qg_21, if_neg qg_23]; exact nofun)
        refine x_iald (pc2 := 113) C (by assumption) dX11_calls_112 rfl (inB_in qg_23) rfl ?_
        refine x_iload (pc2 := 115) C dX11_calls_113 0 rfl rfl ?_
        refine x_isub (pc2 := 116) C dX11_calls_115 rfl ?_
        rcases (Decidable.em (inB x1 5)).symm with qg_24 | qg_24
        · exact absurd hf (by rw [fX11_calls, ob_s hq_1, ob_s hq_2, ob_s hq_3, if_neg qc_4, if_pos qg_8, if_pos qg_9, if_pos qc_10, ob_s hq_11, if_pos qg_13, ob_s hq_14, if_pos qg_16, if_neg qc_17, if_pos qg_19, if_pos qg_21, if_pos qg_23, if_neg qg_24]; exact nofun)
        refine x_iast (pc2 := 117) C (by assumption) dX11_calls_116 rfl (inB_in qg_24) rfl ?_
        obtain ⟨Ω_25, hw_25⟩ : ∃ z, z = uI r_14 2144 0 x1.toNatClampNeg ((xI r_14 2144 0 x1.toNatClampNeg) - ((xI r_14 2144 0 x1.toNatClampNeg) - ((xI r_14 2144 0 x1.toNatClampNeg) / (4 : Int32)))) := ⟨_, rfl⟩
        refine x_om hw_25 ?_
        refine x_aload_n (pc2 := 118) C dX11_calls_117 4 rfl rfl rfl ?_
        refine x_iload (pc2 := 120) C dX11_calls_118 1 rfl rfl ?_
        refine x_aload_n (pc2 := 121) C dX11_calls_120 4 rfl rfl rfl ?_
        refine x_getR (f := 1140) (k2 := 2140) (pc2 := 124) C (by assumption) kf_11_128 dX11_calls_121 rfl rfl rfl (rti_i rfl) rfl (fun qd_26 => ?_)
        refine x_iload_n (pc2 := 125) C dX11_calls_124 5 rfl rfl rfl ?_
        rcases (Decidable.em (inB x1 5)).symm with qg_27 | qg_27
        · exact absurd hf (by rw [fX11_calls, ob_s hq_1, ob_s hq_2, ob_s hq_3, if_neg qc_4, if_pos qg_8, if_pos qg_9, if_pos qc_10, ob_s hq_11, if_pos qg_13, ob_s hq_14, if_pos qg_16, if_neg qc_17, if_pos qg_19, if_pos qg_21, if_pos qg_23, if_pos qg_24, wl_eq hw_25, if_neg qg_27]; exact nofun)
        refine x_iald (pc2 := 126) C (by assumption) dX11_calls_125 rfl (inB_in qg_27) rfl ?_
        refine x_iload_n (pc2 := 127) C dX11_calls_126 2 rfl rfl rfl ?_
        refine x_iload_n (pc2 := 128) C dX11_calls_127 3 rfl rfl rfl ?_
        refine x_iload (pc2 := 130) C dX11_calls_128 0 rfl rfl ?_
        rcases opt_em (fX11_begin Ω_25 (r_3.1 - r_3.1 / (16 : Int32) * (16 : Int32)) (xI Ω_25 2140 0 x1.toNatClampNeg) r_2.1 r_1.1 ((xI r_14 2144 0 x1.toNatClampNeg) - ((xI r_14 2144 0 x1.toNatClampNeg) / (4 : Int32)))) with hq_28 | ⟨r_28, hq_28⟩
        · exact absurd hf (by rw [fX11_calls, ob_s hq_1, ob_s hq_2, ob_s hq_3, if_neg qc_4, if_pos qg_8, if_pos qg_9, if_pos qc_10, ob_s hq_11, if_pos qg_13, ob_s hq_14, if_pos qg_16, if_neg qc_17, if_pos qg_19, if_pos qg_21, if_pos qg_23, if_pos qg_24, wl_eq hw_25, if_pos qg_27, ob_n hq_28]; exact nofun)
        refine x_ret (rest := []) (st2 := []) (pc2 := 133) (cu2 := 0) (su2 := 0) (x_cV C (by assumption) (Nat.le_of_ble_eq_true rfl) kmX11_begin rfl kk_11_287 (tX11_begin hok (by assumption)  hq_28) rfl rfl (Nat.le_of_ble_eq_true rfl) ⟨Nat.le_of_ble_eq_true rfl, Nat.le_of_ble_eq_true rfl⟩ ⟨Nat.le_of_ble_eq_true rfl, Nat.le_of_ble_eq_true rfl⟩ dX11_calls_130) rfl rfl rfl rfl ?_
        rw [fX11_calls, ob_s hq_1, ob_s hq_2, ob_s hq_3, if_neg qc_4, if_pos qg_8, if_pos qg_9, if_pos qc_10, ob_s hq_11, if_pos qg_13, ob_s hq_14, if_pos qg_16, if_neg qc_17, if_pos qg_19, if_pos qg_21, if_pos qg_23, if_pos qg_24, wl_eq hw_25, if_pos qg_27, ob_s hq_28] at hf
        obtain rfl := (Option.some.inj hf).symm
        exact x_vreturn C dX11_calls_133 rfl (Nat.le_of_ble_eq_true rfl) (Nat.le_of_ble_eq_true rfl) rfl rfl
      · refine x_aload_n (pc2 := 83) C dX11_calls_82 3 rfl rfl rfl ?_
        refine x_iload_n (pc2 := 84) C dX11_calls_83 4 rfl rfl rfl ?_
        refine x_iconst (pc2 := 85) (v := 1) C dX11_calls_84 rfl rfl ?_
        rcases opt_em (fX11_push r_14 x1 (1 : Int32)) with hq_29 | ⟨r_29, hq_29⟩
        · exact absurd hf (by rw [fX11_calls, ob_s hq_1, ob_s hq_2, ob_s hq_3, if_neg qc_4, if_pos qg_8, if_pos qg_9, if_pos qc_10, ob_s hq_11, if_pos qg_13, ob_s hq_14, if_pos qg_16, if_pos qc_17, ob_n hq_29]; exact nofun)
        refine x_ret (rest := []) (st2 := []) (pc2 := 88) (cu2 := 0) (su2 := 0) (x_cV C (by assumption) (Nat.le_of_ble_eq_true rfl) kmX11_push rfl kk_11_267 (tX11_push hok (by assumption)  hq_29) rfl rfl (Nat.le_of_ble_eq_true rfl) ⟨Nat.le_of_ble_eq_true rfl, Nat.le_of_ble_eq_true rfl⟩ ⟨Nat.le_of_ble_eq_true rfl, Nat.le_of_ble_eq_true rfl⟩ dX11_calls_85) rfl rfl rfl rfl ?_
        rw [fX11_calls, ob_s hq_1, ob_s hq_2, ob_s hq_3, if_neg qc_4, if_pos qg_8, if_pos qg_9, if_pos qc_10, ob_s hq_11, if_pos qg_13, ob_s hq_14, if_pos qg_16, if_pos qc_17, ob_s hq_29] at hf
        obtain rfl := (Option.some.inj hf).symm
        exact x_vreturn C dX11_calls_88 rfl (Nat.le_of_ble_eq_true rfl) (Nat.le_of_ble_eq_true rfl) rfl rfl
    · refine x_aload_n (pc2 := 43) C dX11_calls_42 3 rfl rfl rfl ?_
      refine x_iload_n (pc2 := 44) C dX11_calls_43 4 rfl rfl rfl ?_
      refine x_iconst (pc2 := 45) (v := 0) C dX11_calls_44 rfl rfl ?_
      rcases opt_em (fX11_push r_3.2 x1 (0 : Int32)) with hq_30 | ⟨r_30, hq_30⟩
      · exact absurd hf (by rw [fX11_calls, ob_s hq_1, ob_s hq_2, ob_s hq_3, if_neg qc_4, if_pos qg_8, if_pos qg_9, if_neg qc_10, ob_n hq_30]; exact nofun)
      refine x_ret (rest := []) (st2 := []) (pc2 := 48) (cu2 := 0) (su2 := 0) (x_cV C (by assumption) (Nat.le_of_ble_eq_true rfl) kmX11_push rfl kk_11_267 (tX11_push hok (by assumption)  hq_30) rfl rfl (Nat.le_of_ble_eq_true rfl) ⟨Nat.le_of_ble_eq_true rfl, Nat.le_of_ble_eq_true rfl⟩ ⟨Nat.le_of_ble_eq_true rfl, Nat.le_of_ble_eq_true rfl⟩ dX11_calls_45) rfl rfl rfl rfl ?_
      rw [fX11_calls, ob_s hq_1, ob_s hq_2, ob_s hq_3, if_neg qc_4, if_pos qg_8, if_pos qg_9, if_neg qc_10, ob_s hq_30] at hf
      obtain rfl := (Option.some.inj hf).symm
      exact x_vreturn C dX11_calls_48 rfl (Nat.le_of_ble_eq_true rfl) (Nat.le_of_ble_eq_true rfl) rfl rfl
def fX11_ends_l85 (y1 : Int32) (y3 : Int32) : Nat → Int32 → XO → Option (Int32 × XO)
  | 0, _, _ => none
  | n + 1, y5, Ω => (if (4 : Int32) ≤ y5 then (some (y5, Ω)) else (if inB (((48 : Int32) + ((4 : Int32) * y3)) + y5) 120 then (wl (uI Ω 2101 0 (((48 : Int32) + ((4 : Int32) * y3)) + y5).toNatClampNeg (0 : Int32)) (fun Ω_4 => fX11_ends_l85 y1 y3 n (y5 + 1) Ω_4)) else none))
set_option maxRecDepth 20000 in
theorem lX11_ends_l85 {G : XG} (hok : XK G) {B : XB} {y1 : Int32} {y3 : Int32}  (hf0 : dm G 11 0)   {T : Option Value ⊕ String} {Ω9 : XO} (C : XC G B cX11_ends RX11 (RM 3 0) 6 none T Ω9) : ∀ (n : Nat) (y5 : Int32) (Ω : XO) {r : (Int32 × XO)}, fX11_ends_l85 y1 y3 n y5 Ω = some r → (∀ q, r = q → (XW G B 6 112 [(0, .ref (ad G 11 (0))), (1, .int (y1))] [] q.2 0 0)) → XW G B 6 85 [(5, .int (y5)), (0, .ref (ad G 11 (0))), (1, .int (y1)), (3, .int (y3))] [] Ω 0 0 := by
  intro n
  induction n with
  | zero => intro y5 Ω r hf; exact absurd hf (by rw [fX11_ends_l85]; exact nofun)
  | succ n ih =>
    intro y5 Ω r hf hk
    refine x_iload (pc2 := 87) C dX11_ends_85 0 rfl rfl ?_
    refine x_iconst (pc2 := 88) (v := 4) C dX11_ends_87 rfl rfl ?_
    refine x_icmp_ge (tgt := 112) (pc2 := 91) C dX11_ends_88 (by decide) rfl (fun qc_1 => ?_) (fun qc_1 => ?_)
    · rw [fX11_ends_l85, if_pos qc_1] at hf
      exact x_sub (lv2 := [(0, _), (1, _)]) C [1, 2] rfl (hk _ (Option.some.inj hf).symm)
    · refine x_aload_n (pc2 := 92) C dX11_ends_91 1 rfl rfl rfl ?_
      refine x_getR (f := 1101) (k2 := 2101) (pc2 := 95) C (by assumption) kf_11_13 dX11_ends_92 rfl rfl rfl (rti_i rfl) rfl (fun qd_2 => ?_)
      refine x_bipush (pc2 := 97) (v := 48) C dX11_ends_95 rfl rfl ?_
      refine x_iconst (pc2 := 98) (v := 4) C dX11_ends_97 rfl rfl ?_
      refine x_iload_n (pc2 := 99) C dX11_ends_98 3 rfl rfl rfl ?_
      refine x_imul (pc2 := 100) C dX11_ends_99 rfl ?_
      refine x_iadd (pc2 := 101) C dX11_ends_100 rfl ?_
      refine x_iload (pc2 := 103) C dX11_ends_101 0 rfl rfl ?_
      refine x_iadd (pc2 := 104) C dX11_ends_103 rfl ?_
      refine x_iconst (pc2 := 105) (v := 0) C dX11_ends_104 rfl rfl ?_
      rcases (Decidable.em (inB (((48 : Int32) + ((4 : Int32) * y3)) + y5) 120)).symm with qg_3 | qg_3
      · exact absurd hf (by rw [fX11_ends_l85, if_neg qc_1, if_neg qg_3]; exact nofun)
      refine x_iast (pc2 := 106) C (by assumption) dX11_ends_105 rfl (inB_in qg_3) rfl ?_
      obtain ⟨Ω_4, hw_4⟩ : ∃ z, z = uI Ω 2101 0 (((48 : Int32) + ((4 : Int32) * y3)) + y5).toNatClampNeg (0 : Int32) := ⟨_, rfl⟩
      refine x_om hw_4 ?_
      refine x_iinc (pc2 := 109) (v := y5 + 1) (lv2 := [(5, _), (0, _), (1, _), (3, _)]) C dX11_ends_106 0 rfl rfl (by decide) rfl rfl ?_
      refine x_goto (tgt := 85) C dX11_ends_109 (by decide) ?_
      exact x_sub (lv2 := [(5, _), (0, _), (1, _), (3, _)]) C [0, 1, 2, 3] rfl (ih (y5 + 1) Ω_4 (by rw [fX11_ends_l85, if_neg qc_1, if_pos qg_3, wl_eq hw_4] at hf; exact hf) hk)
def fX11_ends (Ω : XO) (x1 : Int32) : Option (XO) := (fX11_pop Ω x1).bind (fun r_1 => (if inB x1 5 then (if inB (xI r_1.2 2140 0 x1.toNatClampNeg) 120 then (wl ((if (r_1.1 - r_1.1 / (16 : Int32) * (16 : Int32)) = (xI r_1.2 2140 0 x1.toNatClampNeg) then xI r_1.2 2101 0 (xI r_1.2 2140 0 x1.toNatClampNeg).toNatClampNeg else (0 : Int32))) (fun (j_7 : Int32) => (wl (uI r_1.2 2101 0 (112 : Int32).toNatClampNeg ((xI r_1.2 2101 0 (112 : Int32).toNatClampNeg) + j_7)) (fun Ω_9 => (if inB (xI r_1.2 2140 0 x1.toNatClampNeg) 120 then (wl (uI Ω_9 2101 0 (xI r_1.2 2140 0 x1.toNatClampNeg).toNatClampNeg (0 : Int32)) (fun Ω_12 => (if inB (r_1.1 - r_1.1 / (16 : Int32) * (16 : Int32)) 120 then (wl ((if (r_1.1 - r_1.1 / (16 : Int32) * (16 : Int32)) = (xI r_1.2 2140 0 x1.toNatClampNeg) then (0 : Int32) else xI r_1.2 2101 0 (xI r_1.2 2140 0 x1.toNatClampNeg).toNatClampNeg)) (fun (j_15 : Int32) => (if inB (r_1.1 - r_1.1 / (16 : Int32) * (16 : Int32)) 120 then (wl (uI Ω_12 2101 0 (r_1.1 - r_1.1 / (16 : Int32) * (16 : Int32)).toNatClampNeg ((xI Ω_12 2101 0 (r_1.1 - r_1.1 / (16 : Int32) * (16 : Int32)).toNatClampNeg) + j_15)) (fun Ω_18 => (if inB ((32 : Int32) + (xI r_1.2 2140 0 x1.toNatClampNeg)) 120 then (wl (uI Ω_18 2101 0 ((32 : Int32) + (xI r_1.2 2140 0 x1.toNatClampNeg)).toNatClampNeg (0 : Int32)) (fun Ω_21 => (fX11_ends_l85 x1 (xI r_1.2 2140 0 x1.toNatClampNeg) 5 (0 : Int32) Ω_21).bind (fun q_22 => (wl (uI q_22.2 1154 0 0 ((xI q_22.2 1154 0 0) + (60 : Int32))) (fun Ω_23 => (if inB x1 5 then (fX11_finish Ω_23 (1 : Int32) (xI Ω_23 2144 0 x1.toNatClampNeg)).bind (fun r_26 => (some r_26)) else none)))))) else none))) else none))) else none))) else none))))) else none) else none))
set_option maxRecDepth 20000 in
theorem tX11_ends {G : XG} (hok : XK G) {x1 : Int32} {Ω : XO} (hd0 : dm G 11 0)   {r : XO} (hf : fX11_ends Ω x1 = some r) : XM G yX11_ends cX11_ends 6 none (RM 3 0) [.ref (ad G 11 0), .int x1] Ω (.inl none) (r) := by
  refine x_start (lv := [(0, .ref (ad G 11 0)), (1, .int x1)]) (own := RX11) hok (by decide +kernel) rfl (Nat.le_of_ble_eq_true rfl) rfl (fun B C => ?_)
  refine x_aload_n (pc2 := 1) C dX11_ends_0 0 rfl rfl rfl ?_
  refine x_iload_n (pc2 := 2) C dX11_ends_1 1 rfl rfl rfl ?_
  rcases opt_em (fX11_pop Ω x1) with hq_1 | ⟨r_1, hq_1⟩
  · exact absurd hf (by rw [fX11_ends, ob_n hq_1]; exact nofun)
  refine x_ret (rest := []) (st2 := [_]) (pc2 := 5) (cu2 := 0) (su2 := 0) (x_cV C (by assumption) (Nat.le_of_ble_eq_true rfl) kmX11_pop rfl kk_11_281 (tX11_pop hok (by assumption)  hq_1) rfl rfl (Nat.le_of_ble_eq_true rfl) ⟨Nat.le_of_ble_eq_true rfl, Nat.le_of_ble_eq_true rfl⟩ ⟨Nat.le_of_ble_eq_true rfl, Nat.le_of_ble_eq_true rfl⟩ dX11_ends_2) rfl rfl rfl rfl ?_
  refine x_bipush (pc2 := 7) (v := 16) C dX11_ends_5 rfl rfl ?_
  refine x_irem (pc2 := 8) C dX11_ends_7 (by decide +kernel) rfl ?_
  refine x_istore_n (pc2 := 9) (lv2 := [(2, _), (0, _), (1, _)]) C dX11_ends_8 rfl (by decide) rfl rfl ?_
  refine x_aload_n (pc2 := 10) C dX11_ends_9 1 rfl rfl rfl ?_
  refine x_getR (f := 1140) (k2 := 2140) (pc2 := 13) C (by assumption) kf_11_128 dX11_ends_10 rfl rfl rfl (rti_i rfl) rfl (fun qd_2 => ?_)
  refine x_iload_n (pc2 := 14) C dX11_ends_13 2 rfl rfl rfl ?_
  rcases (Decidable.em (inB x1 5)).symm with qg_3 | qg_3
  · exact absurd hf (by rw [fX11_ends, ob_s hq_1, if_neg qg_3]; exact nofun)
  refine x_iald (pc2 := 15) C (by assumption) dX11_ends_14 rfl (inB_in qg_3) rfl ?_
  refine x_istore_n (pc2 := 16) (lv2 := [(3, _), (2, _), (0, _), (1, _)]) C dX11_ends_15 rfl (by decide) rfl rfl ?_
  refine x_aload_n (pc2 := 17) C dX11_ends_16 2 rfl rfl rfl ?_
  refine x_getR (f := 1101) (k2 := 2101) (pc2 := 20) C (by assumption) kf_11_13 dX11_ends_17 rfl rfl rfl (rti_i rfl) rfl (fun qd_4 => ?_)
  refine x_iload_n (pc2 := 21) C dX11_ends_20 0 rfl rfl rfl ?_
  rcases (Decidable.em (inB (xI r_1.2 2140 0 x1.toNatClampNeg) 120)).symm with qg_5 | qg_5
  · exact absurd hf (by rw [fX11_ends, ob_s hq_1, if_pos qg_3, if_neg qg_5]; exact nofun)
  refine x_iald (pc2 := 22) C (by assumption) dX11_ends_21 rfl (inB_in qg_5) rfl ?_
  refine x_istore (pc2 := 24) (lv2 := [(4, _), (3, _), (2, _), (0, _), (1, _)]) C dX11_ends_22 (by decide) rfl rfl ?_
  refine x_aload_n (pc2 := 25) C dX11_ends_24 3 rfl rfl rfl ?_
  refine x_getR (f := 1101) (k2 := 2101) (pc2 := 28) C (by assumption) kf_11_13 dX11_ends_25 rfl rfl rfl (rti_i rfl) rfl (fun qd_6 => ?_)
  refine x_bipush (pc2 := 30) (v := 112) C dX11_ends_28 rfl rfl ?_
  refine x_dup2 (pc2 := 31) C dX11_ends_30 rfl rfl rfl ?_
  refine x_iald (pc2 := 32) C (by assumption) dX11_ends_31 rfl (vp_in_iff.mpr (by decide)) rfl ?_
  refine x_iload_n (pc2 := 33) C dX11_ends_32 2 rfl rfl rfl ?_
  refine x_iload_n (pc2 := 34) C dX11_ends_33 1 rfl rfl rfl ?_
  obtain ⟨j_7, hq_7⟩ : ∃ z : Int32, z = (if (r_1.1 - r_1.1 / (16 : Int32) * (16 : Int32)) = (xI r_1.2 2140 0 x1.toNatClampNeg) then xI r_1.2 2101 0 (xI r_1.2 2140 0 x1.toNatClampNeg).toNatClampNeg else (0 : Int32)) := ⟨_, rfl⟩
  suffices hj_7 : XW G B 6 43 [(0, .ref (ad G 11 (0))), (1, .int (x1)), (2, .int (r_1.1 - r_1.1 / (16 : Int32) * (16 : Int32))), (3, .int (xI r_1.2 2140 0 x1.toNatClampNeg)), (4, .int (xI r_1.2 2101 0 (xI r_1.2 2140 0 x1.toNatClampNeg).toNatClampNeg))] [.int (j_7), .int (xI r_1.2 2101 0 (112 : Int32).toNatClampNeg), .int ((112 : Int32)), .ref (ad G 2101 (0))] r_1.2 0 0 by
    refine x_icmp_ne (tgt := 42) (pc2 := 37) C dX11_ends_34 (by decide) rfl (fun qc_8 => ?_) (fun qc_8 => ?_)
    · refine x_iconst (pc2 := 43) (v := 0) C dX11_ends_42 rfl rfl ?_
      rw [if_neg qc_8] at hq_7
      subst hq_7
      exact x_sub (lv2 := [(0, _), (1, _), (2, _), (3, _), (4, _)]) C [3, 4, 2, 1, 0] rfl hj_7
    · refine x_iload (pc2 := 39) C dX11_ends_37 0 rfl rfl ?_
      refine x_goto (tgt := 43) C dX11_ends_39 (by decide) ?_
      rw [if_pos qc_8] at hq_7
      subst hq_7
      exact x_sub (lv2 := [(0, _), (1, _), (2, _), (3, _), (4, _)]) C [3, 4, 2, 1, 0] rfl hj_7
  refine x_iadd (pc2 := 44) C dX11_ends_43 rfl ?_
  refine x_iast (pc2 := 45) C (by assumption) dX11_ends_44 rfl (vp_in_iff.mpr (by decide)) rfl ?_
  obtain ⟨Ω_9, hw_9⟩ : ∃ z, z = uI r_1.2 2101 0 (112 : Int32).toNatClampNeg ((xI r_1.2 2101 0 (112 : Int32).toNatClampNeg) + j_7) := ⟨_, rfl⟩
  refine x_om hw_9 ?_
  refine x_aload_n (pc2 := 46) C dX11_ends_45 0 rfl rfl rfl ?_
  refine x_getR (f := 1101) (k2 := 2101) (pc2 := 49) C (by assumption) kf_11_13 dX11_ends_46 rfl rfl rfl (rti_i rfl) rfl (fun qd_10 => ?_)
  refine x_iload_n (pc2 := 50) C dX11_ends_49 3 rfl rfl rfl ?_
  refine x_iconst (pc2 := 51) (v := 0) C dX11_ends_50 rfl rfl ?_
  rcases (Decidable.em (inB (xI r_1.2 2140 0 x1.toNatClampNeg) 120)).symm with qg_11 | qg_11
  · exact absurd hf (by rw [fX11_ends, ob_s hq_1, if_pos qg_3, if_pos qg_5, wl_eq hq_7, wl_eq hw_9, if_neg qg_11]; exact nofun)
  refine x_iast (pc2 := 52) C (by assumption) dX11_ends_51 rfl (inB_in qg_11) rfl ?_
  obtain ⟨Ω_12, hw_12⟩ : ∃ z, z = uI Ω_9 2101 0 (xI r_1.2 2140 0 x1.toNatClampNeg).toNatClampNeg (0 : Int32) := ⟨_, rfl⟩
  refine x_om hw_12 ?_
  refine x_aload_n (pc2 := 53) C dX11_ends_52 0 rfl rfl rfl ?_
  refine x_getR (f := 1101) (k2 := 2101) (pc2 := 56) C (by assumption) kf_11_13 dX11_ends_53 rfl rfl rfl (rti_i rfl) rfl (fun qd_13 => ?_)
  refine x_iload_n (pc2 := 57) C dX11_ends_56 2 rfl rfl rfl ?_
  refine x_dup2 (pc2 := 58) C dX11_ends_57 rfl rfl rfl ?_
  rcases (Decidable.em (inB (r_1.1 - r_1.1 / (16 : Int32) * (16 : Int32)) 120)).symm with qg_14 | qg_14
  · exact absurd hf (by rw [fX11_ends, ob_s hq_1, if_pos qg_3, if_pos qg_5, wl_eq hq_7, wl_eq hw_9, if_pos qg_11, wl_eq hw_12, if_neg qg_14]; exact nofun)
  refine x_iald (pc2 := 59) C (by assumption) dX11_ends_58 rfl (inB_in qg_14) rfl ?_
  refine x_iload_n (pc2 := 60) C dX11_ends_59 2 rfl rfl rfl ?_
  refine x_iload_n (pc2 := 61) C dX11_ends_60 3 rfl rfl rfl ?_
  obtain ⟨j_15, hq_15⟩ : ∃ z : Int32, z = (if (r_1.1 - r_1.1 / (16 : Int32) * (16 : Int32)) = (xI r_1.2 2140 0 x1.toNatClampNeg) then (0 : Int32) else xI r_1.2 2101 0 (xI r_1.2 2140 0 x1.toNatClampNeg).toNatClampNeg) := ⟨_, rfl⟩
  suffices hj_15 : XW G B 6 70 [(0, .ref (ad G 11 (0))), (1, .int (x1)), (3, .int (xI r_1.2 2140 0 x1.toNatClampNeg))] [.int (j_15), .int (xI Ω_12 2101 0 (r_1.1 - r_1.1 / (16 : Int32) * (16 : Int32)).toNatClampNeg), .int (r_1.1 - r_1.1 / (16 : Int32) * (16 : Int32)), .ref (ad G 2101 (0))] Ω_12 0 0 by
    refine x_icmp_ne (tgt := 68) (pc2 := 64) C dX11_ends_61 (by decide) rfl (fun qc_16 => ?_) (fun qc_16 => ?_)
    · refine x_iload (pc2 := 70) C dX11_ends_68 4 rfl rfl ?_
      rw [if_neg qc_16] at hq_15
      subst hq_15
      exact x_sub (lv2 := [(0, _), (1, _), (3, _)]) C [0, 1, 3] rfl hj_15
    · refine x_iconst (pc2 := 65) (v := 0) C dX11_ends_64 rfl rfl ?_
      refine x_goto (tgt := 70) C dX11_ends_65 (by decide) ?_
      rw [if_pos qc_16] at hq_15
      subst hq_15
      exact x_sub (lv2 := [(0, _), (1, _), (3, _)]) C [0, 1, 3] rfl hj_15
  refine x_iadd (pc2 := 71) C dX11_ends_70 rfl ?_
  rcases (Decidable.em (inB (r_1.1 - r_1.1 / (16 : Int32) * (16 : Int32)) 120)).symm with qg_17 | qg_17
  · exact absurd hf (by rw [fX11_ends, ob_s hq_1, if_pos qg_3, if_pos qg_5, wl_eq hq_7, wl_eq hw_9, if_pos qg_11, wl_eq hw_12, if_pos qg_14, wl_eq hq_15, if_neg qg_17]; exact nofun)
  refine x_iast (pc2 := 72) C (by assumption) dX11_ends_71 rfl (inB_in qg_17) rfl ?_
  obtain ⟨Ω_18, hw_18⟩ : ∃ z, z = uI Ω_12 2101 0 (r_1.1 - r_1.1 / (16 : Int32) * (16 : Int32)).toNatClampNeg ((xI Ω_12 2101 0 (r_1.1 - r_1.1 / (16 : Int32) * (16 : Int32)).toNatClampNeg) + j_15) := ⟨_, rfl⟩
  refine x_om hw_18 ?_
  refine x_aload_n (pc2 := 73) C dX11_ends_72 0 rfl rfl rfl ?_
  refine x_getR (f := 1101) (k2 := 2101) (pc2 := 76) C (by assumption) kf_11_13 dX11_ends_73 rfl rfl rfl (rti_i rfl) rfl (fun qd_19 => ?_)
  refine x_bipush (pc2 := 78) (v := 32) C dX11_ends_76 rfl rfl ?_
  refine x_iload_n (pc2 := 79) C dX11_ends_78 2 rfl rfl rfl ?_
  refine x_iadd (pc2 := 80) C dX11_ends_79 rfl ?_
  refine x_iconst (pc2 := 81) (v := 0) C dX11_ends_80 rfl rfl ?_
  rcases (Decidable.em (inB ((32 : Int32) + (xI r_1.2 2140 0 x1.toNatClampNeg)) 120)).symm with qg_20 | qg_20
  · exact absurd hf (by rw [fX11_ends, ob_s hq_1, if_pos qg_3, if_pos qg_5, wl_eq hq_7, wl_eq hw_9, if_pos qg_11, wl_eq hw_12, if_pos qg_14, wl_eq hq_15, if_pos qg_17, wl_eq hw_18, if_neg qg_20]; exact nofun)
  refine x_iast (pc2 := 82) C (by assumption) dX11_ends_81 rfl (inB_in qg_20) rfl ?_
  obtain ⟨Ω_21, hw_21⟩ : ∃ z, z = uI Ω_18 2101 0 ((32 : Int32) + (xI r_1.2 2140 0 x1.toNatClampNeg)).toNatClampNeg (0 : Int32) := ⟨_, rfl⟩
  refine x_om hw_21 ?_
  refine x_iconst (pc2 := 83) (v := 0) C dX11_ends_82 rfl rfl ?_
  refine x_istore (pc2 := 85) (lv2 := [(5, _), (0, _), (1, _), (3, _)]) C dX11_ends_83 (by decide) rfl rfl ?_
  rcases opt_em (fX11_ends_l85 x1 (xI r_1.2 2140 0 x1.toNatClampNeg) 5 (0 : Int32) Ω_21) with hq_22 | ⟨q_22, hq_22⟩
  · exact absurd hf (by rw [fX11_ends, ob_s hq_1, if_pos qg_3, if_pos qg_5, wl_eq hq_7, wl_eq hw_9, if_pos qg_11, wl_eq hw_12, if_pos qg_14, wl_eq hq_15, if_pos qg_17, wl_eq hw_18, if_pos qg_20, wl_eq hw_21, ob_n hq_22]; exact nofun)
  refine x_sub (lv2 := [(5, _), (0, _), (1, _), (3, _)]) C [0, 1, 2, 3] rfl (lX11_ends_l85 hok (by assumption) C 5 (0 : Int32) Ω_21 hq_22 (fun q9 h9 => ?_))
  cases h9
  refine x_aload_n (pc2 := 113) C dX11_ends_112 0 rfl rfl rfl ?_
  refine x_dup (pc2 := 114) C dX11_ends_113 rfl rfl ?_
  refine x_getI (pc2 := 117) (f := 1154) C (by assumption) kf_11_243 dX11_ends_114 rfl rfl rfl ?_
  refine x_bipush (pc2 := 119) (v := 60) C dX11_ends_117 rfl rfl ?_
  refine x_iadd (pc2 := 120) C dX11_ends_119 rfl ?_
  refine x_putI (pc2 := 123) (f := 1154) C (by assumption) kf_11_243 dX11_ends_120 rfl rfl rfl rfl rfl ?_
  obtain ⟨Ω_23, hw_23⟩ : ∃ z, z = uI q_22.2 1154 0 0 ((xI q_22.2 1154 0 0) + (60 : Int32)) := ⟨_, rfl⟩
  refine x_om hw_23 ?_
  refine x_aload_n (pc2 := 124) C dX11_ends_123 0 rfl rfl rfl ?_
  refine x_iconst (pc2 := 125) (v := 1) C dX11_ends_124 rfl rfl ?_
  refine x_aload_n (pc2 := 126) C dX11_ends_125 0 rfl rfl rfl ?_
  refine x_getR (f := 1144) (k2 := 2144) (pc2 := 129) C (by assumption) kf_11_140 dX11_ends_126 rfl rfl rfl (rti_i rfl) rfl (fun qd_24 => ?_)
  refine x_iload_n (pc2 := 130) C dX11_ends_129 1 rfl rfl rfl ?_
  rcases (Decidable.em (inB x1 5)).symm with qg_25 | qg_25
  · exact absurd hf (by rw [fX11_ends, ob_s hq_1, if_pos qg_3, if_pos qg_5, wl_eq hq_7, wl_eq hw_9, if_pos qg_11, wl_eq hw_12, if_pos qg_14, wl_eq hq_15, if_pos qg_17, wl_eq hw_18, if_pos qg_20, wl_eq hw_21, ob_s hq_22, wl_eq hw_23, if_neg qg_25]; exact nofun)
  refine x_iald (pc2 := 131) C (by assumption) dX11_ends_130 rfl (inB_in qg_25) rfl ?_
  rcases opt_em (fX11_finish Ω_23 (1 : Int32) (xI Ω_23 2144 0 x1.toNatClampNeg)) with hq_26 | ⟨r_26, hq_26⟩
  · exact absurd hf (by rw [fX11_ends, ob_s hq_1, if_pos qg_3, if_pos qg_5, wl_eq hq_7, wl_eq hw_9, if_pos qg_11, wl_eq hw_12, if_pos qg_14, wl_eq hq_15, if_pos qg_17, wl_eq hw_18, if_pos qg_20, wl_eq hw_21, ob_s hq_22, wl_eq hw_23, if_pos qg_25, ob_n hq_26]; exact nofun)
  refine x_ret (rest := []) (st2 := []) (pc2 := 134) (cu2 := 0) (su2 := 0) (x_cV C (by assumption) (Nat.le_of_ble_eq_true rfl) kmX11_finish rfl kk_11_291 (tX11_finish hok (by assumption)  hq_26) rfl rfl (Nat.le_of_ble_eq_true rfl) ⟨Nat.le_of_ble_eq_true rfl, Nat.le_of_ble_eq_true rfl⟩ ⟨Nat.le_of_ble_eq_true rfl, Nat.le_of_ble_eq_true rfl⟩ dX11_ends_131) rfl rfl rfl rfl ?_
  rw [fX11_ends, ob_s hq_1, if_pos qg_3, if_pos qg_5, wl_eq hq_7, wl_eq hw_9, if_pos qg_11, wl_eq hw_12, if_pos qg_14, wl_eq hq_15, if_pos qg_17, wl_eq hw_18, if_pos qg_20, wl_eq hw_21, ob_s hq_22, wl_eq hw_23, if_pos qg_25, ob_s hq_26] at hf
  obtain rfl := (Option.some.inj hf).symm
  exact x_vreturn C dX11_ends_134 rfl (Nat.le_of_ble_eq_true rfl) (Nat.le_of_ble_eq_true rfl) rfl rfl
def fX11_writes (Ω : XO) (x1 : Int32) (x2 : Int32) : Option (XO) := (if inB x1 5 then (fX11_pop Ω x1).bind (fun r_3 => (if inB (((48 : Int32) + ((4 : Int32) * (xI Ω 2140 0 x1.toNatClampNeg))) + x2) 120 then (wl ((if (xI r_3.2 2101 0 (((48 : Int32) + ((4 : Int32) * (xI Ω 2140 0 x1.toNatClampNeg))) + x2).toNatClampNeg) = 0 then (0 : Int32) else (if r_3.1 = 0 then (40 : Int32) else (0 : Int32)))) (fun (j_6 : Int32) => (wl (uI r_3.2 1154 0 0 ((xI r_3.2 1154 0 0) + j_6)) (fun Ω_9 => (if inB (((48 : Int32) + ((4 : Int32) * (xI Ω 2140 0 x1.toNatClampNeg))) + x2) 120 then (wl (uI Ω_9 2101 0 (((48 : Int32) + ((4 : Int32) * (xI Ω 2140 0 x1.toNatClampNeg))) + x2).toNatClampNeg r_3.1) (fun Ω_12 => (some Ω_12))) else none))))) else none)) else none)
set_option maxRecDepth 20000 in
theorem tX11_writes {G : XG} (hok : XK G) {x1 : Int32} {x2 : Int32} {Ω : XO} (hd0 : dm G 11 0)   {r : XO} (hf : fX11_writes Ω x1 x2 = some r) : XM G yX11_writes cX11_writes 5 none (RM 1 0) [.ref (ad G 11 0), .int x1, .int x2] Ω (.inl none) (r) := by
  refine x_start (lv := [(0, .ref (ad G 11 0)), (1, .int x1), (2, .int x2)]) (own := RX11) hok (by decide +kernel) rfl (Nat.le_of_ble_eq_true rfl) rfl (fun B C => ?_)
  refine x_bipush (pc2 := 2) (v := 48) C dX11_writes_0 rfl rfl ?_
  refine x_iconst (pc2 := 3) (v := 4) C dX11_writes_2 rfl rfl ?_
  refine x_aload_n (pc2 := 4) C dX11_writes_3 0 rfl rfl rfl ?_
  refine x_getR (f := 1140) (k2 := 2140) (pc2 := 7) C (by assumption) kf_11_128 dX11_writes_4 rfl rfl rfl (rti_i rfl) rfl (fun qd_1 => ?_)
  refine x_iload_n (pc2 := 8) C dX11_writes_7 1 rfl rfl rfl ?_
  rcases (Decidable.em (inB x1 5)).symm with qg_2 | qg_2
  · exact absurd hf (by rw [fX11_writes, if_neg qg_2]; exact nofun)
  refine x_iald (pc2 := 9) C (by assumption) dX11_writes_8 rfl (inB_in qg_2) rfl ?_
  refine x_imul (pc2 := 10) C dX11_writes_9 rfl ?_
  refine x_iadd (pc2 := 11) C dX11_writes_10 rfl ?_
  refine x_iload_n (pc2 := 12) C dX11_writes_11 2 rfl rfl rfl ?_
  refine x_iadd (pc2 := 13) C dX11_writes_12 rfl ?_
  refine x_istore_n (pc2 := 14) (lv2 := [(3, _), (0, _), (1, _), (2, _)]) C dX11_writes_13 rfl (by decide) rfl rfl ?_
  refine x_aload_n (pc2 := 15) C dX11_writes_14 1 rfl rfl rfl ?_
  refine x_iload_n (pc2 := 16) C dX11_writes_15 2 rfl rfl rfl ?_
  rcases opt_em (fX11_pop Ω x1) with hq_3 | ⟨r_3, hq_3⟩
  · exact absurd hf (by rw [fX11_writes, if_pos qg_2, ob_n hq_3]; exact nofun)
  refine x_ret (rest := []) (st2 := [_]) (pc2 := 19) (cu2 := 0) (su2 := 0) (x_cV C (by assumption) (Nat.le_of_ble_eq_true rfl) kmX11_pop rfl kk_11_281 (tX11_pop hok (by assumption)  hq_3) rfl rfl (Nat.le_of_ble_eq_true rfl) ⟨Nat.le_of_ble_eq_true rfl, Nat.le_of_ble_eq_true rfl⟩ ⟨Nat.le_of_ble_eq_true rfl, Nat.le_of_ble_eq_true rfl⟩ dX11_writes_16) rfl rfl rfl rfl ?_
  refine x_istore (pc2 := 21) (lv2 := [(4, _), (3, _), (0, _), (1, _), (2, _)]) C dX11_writes_19 (by decide) rfl rfl ?_
  refine x_aload_n (pc2 := 22) C dX11_writes_21 2 rfl rfl rfl ?_
  refine x_dup (pc2 := 23) C dX11_writes_22 rfl rfl ?_
  refine x_getI (pc2 := 26) (f := 1154) C (by assumption) kf_11_243 dX11_writes_23 rfl rfl rfl ?_
  refine x_aload_n (pc2 := 27) C dX11_writes_26 2 rfl rfl rfl ?_
  refine x_getR (f := 1101) (k2 := 2101) (pc2 := 30) C (by assumption) kf_11_13 dX11_writes_27 rfl rfl rfl (rti_i rfl) rfl (fun qd_4 => ?_)
  refine x_iload_n (pc2 := 31) C dX11_writes_30 1 rfl rfl rfl ?_
  rcases (Decidable.em (inB (((48 : Int32) + ((4 : Int32) * (xI Ω 2140 0 x1.toNatClampNeg))) + x2) 120)).symm with qg_5 | qg_5
  · exact absurd hf (by rw [fX11_writes, if_pos qg_2, ob_s hq_3, if_neg qg_5]; exact nofun)
  refine x_iald (pc2 := 32) C (by assumption) dX11_writes_31 rfl (inB_in qg_5) rfl ?_
  obtain ⟨j_6, hq_6⟩ : ∃ z : Int32, z = (if (xI r_3.2 2101 0 (((48 : Int32) + ((4 : Int32) * (xI Ω 2140 0 x1.toNatClampNeg))) + x2).toNatClampNeg) = 0 then (0 : Int32) else (if r_3.1 = 0 then (40 : Int32) else (0 : Int32))) := ⟨_, rfl⟩
  suffices hj_6 : XW G B 5 46 [(0, .ref (ad G 11 (0))), (3, .int (((48 : Int32) + ((4 : Int32) * (xI Ω 2140 0 x1.toNatClampNeg))) + x2)), (4, .int (r_3.1))] [.int (j_6), .int (xI r_3.2 1154 0 0), .ref (ad G 11 (0))] r_3.2 0 0 by
    refine x_if_eq (tgt := 45) (pc2 := 35) C dX11_writes_32 (by decide) rfl (fun qc_7 => ?_) (fun qc_7 => ?_)
    · refine x_iconst (pc2 := 46) (v := 0) C dX11_writes_45 rfl rfl ?_
      rw [if_pos qc_7] at hq_6
      subst hq_6
      exact x_sub (lv2 := [(0, _), (3, _), (4, _)]) C [2, 1, 0] rfl hj_6
    · refine x_iload (pc2 := 37) C dX11_writes_35 0 rfl rfl ?_
      refine x_if_ne (tgt := 45) (pc2 := 40) C dX11_writes_37 (by decide) rfl (fun qc_8 => ?_) (fun qc_8 => ?_)
      · refine x_iconst (pc2 := 46) (v := 0) C dX11_writes_45 rfl rfl ?_
        rw [if_neg qc_7, if_neg qc_8] at hq_6
        subst hq_6
        exact x_sub (lv2 := [(0, _), (3, _), (4, _)]) C [2, 1, 0] rfl hj_6
      · refine x_bipush (pc2 := 42) (v := 40) C dX11_writes_40 rfl rfl ?_
        refine x_goto (tgt := 46) C dX11_writes_42 (by decide) ?_
        rw [if_neg qc_7, if_pos qc_8] at hq_6
        subst hq_6
        exact x_sub (lv2 := [(0, _), (3, _), (4, _)]) C [2, 1, 0] rfl hj_6
  refine x_iadd (pc2 := 47) C dX11_writes_46 rfl ?_
  refine x_putI (pc2 := 50) (f := 1154) C (by assumption) kf_11_243 dX11_writes_47 rfl rfl rfl rfl rfl ?_
  obtain ⟨Ω_9, hw_9⟩ : ∃ z, z = uI r_3.2 1154 0 0 ((xI r_3.2 1154 0 0) + j_6) := ⟨_, rfl⟩
  refine x_om hw_9 ?_
  refine x_aload_n (pc2 := 51) C dX11_writes_50 0 rfl rfl rfl ?_
  refine x_getR (f := 1101) (k2 := 2101) (pc2 := 54) C (by assumption) kf_11_13 dX11_writes_51 rfl rfl rfl (rti_i rfl) rfl (fun qd_10 => ?_)
  refine x_iload_n (pc2 := 55) C dX11_writes_54 1 rfl rfl rfl ?_
  refine x_iload (pc2 := 57) C dX11_writes_55 2 rfl rfl ?_
  rcases (Decidable.em (inB (((48 : Int32) + ((4 : Int32) * (xI Ω 2140 0 x1.toNatClampNeg))) + x2) 120)).symm with qg_11 | qg_11
  · exact absurd hf (by rw [fX11_writes, if_pos qg_2, ob_s hq_3, if_pos qg_5, wl_eq hq_6, wl_eq hw_9, if_neg qg_11]; exact nofun)
  refine x_iast (pc2 := 58) C (by assumption) dX11_writes_57 rfl (inB_in qg_11) rfl ?_
  obtain ⟨Ω_12, hw_12⟩ : ∃ z, z = uI Ω_9 2101 0 (((48 : Int32) + ((4 : Int32) * (xI Ω 2140 0 x1.toNatClampNeg))) + x2).toNatClampNeg r_3.1 := ⟨_, rfl⟩
  refine x_om hw_12 ?_
  rw [fX11_writes, if_pos qg_2, ob_s hq_3, if_pos qg_5, wl_eq hq_6, wl_eq hw_9, if_pos qg_11, wl_eq hw_12] at hf
  obtain rfl := (Option.some.inj hf).symm
  exact x_vreturn C dX11_writes_58 rfl (Nat.le_of_ble_eq_true rfl) (Nat.le_of_ble_eq_true rfl) rfl rfl
def fX11_logs (Ω : XO) (x1 : Int32) : Option (XO) := (fX11_pop Ω x1).bind (fun r_1 => (if inB (xI r_1.2 1158 0 0) 48 then (if inB x1 5 then (if inB (((40 : Int32) * (xI r_1.2 1158 0 0)) + (xI r_1.2 2130 0 (xI r_1.2 1158 0 0).toNatClampNeg)) 1920 then (wl (uI r_1.2 2132 0 (((40 : Int32) * (xI r_1.2 1158 0 0)) + (xI r_1.2 2130 0 (xI r_1.2 1158 0 0).toNatClampNeg)).toNatClampNeg (((100 : Int32) * (r_1.1 - r_1.1 / (16 : Int32) * (16 : Int32))) + (xI r_1.2 2140 0 x1.toNatClampNeg))) (fun Ω_8 => (if inB (xI Ω_8 1158 0 0) 48 then (if inB (xI Ω_8 1158 0 0) 48 then (wl (uI Ω_8 2130 0 (xI Ω_8 1158 0 0).toNatClampNeg ((xI Ω_8 2130 0 (xI Ω_8 1158 0 0).toNatClampNeg) + (1 : Int32))) (fun Ω_12 => (some Ω_12))) else none) else none))) else none) else none) else none))
set_option maxRecDepth 20000 in
theorem tX11_logs {G : XG} (hok : XK G) {x1 : Int32} {Ω : XO} (hd0 : dm G 11 0)   {r : XO} (hf : fX11_logs Ω x1 = some r) : XM G yX11_logs cX11_logs 3 none (RM 1 0) [.ref (ad G 11 0), .int x1] Ω (.inl none) (r) := by
  refine x_start (lv := [(0, .ref (ad G 11 0)), (1, .int x1)]) (own := RX11) hok (by decide +kernel) rfl (Nat.le_of_ble_eq_true rfl) rfl (fun B C => ?_)
  refine x_aload_n (pc2 := 1) C dX11_logs_0 0 rfl rfl rfl ?_
  refine x_iload_n (pc2 := 2) C dX11_logs_1 1 rfl rfl rfl ?_
  rcases opt_em (fX11_pop Ω x1) with hq_1 | ⟨r_1, hq_1⟩
  · exact absurd hf (by rw [fX11_logs, ob_n hq_1]; exact nofun)
  refine x_ret (rest := []) (st2 := [_]) (pc2 := 5) (cu2 := 0) (su2 := 0) (x_cV C (by assumption) (Nat.le_of_ble_eq_true rfl) kmX11_pop rfl kk_11_281 (tX11_pop hok (by assumption)  hq_1) rfl rfl (Nat.le_of_ble_eq_true rfl) ⟨Nat.le_of_ble_eq_true rfl, Nat.le_of_ble_eq_true rfl⟩ ⟨Nat.le_of_ble_eq_true rfl, Nat.le_of_ble_eq_true rfl⟩ dX11_logs_2) rfl rfl rfl rfl ?_
  refine x_bipush (pc2 := 7) (v := 16) C dX11_logs_5 rfl rfl ?_
  refine x_irem (pc2 := 8) C dX11_logs_7 (by decide +kernel) rfl ?_
  refine x_istore_n (pc2 := 9) (lv2 := [(2, _), (0, _), (1, _)]) C dX11_logs_8 rfl (by decide) rfl rfl ?_
  refine x_aload_n (pc2 := 10) C dX11_logs_9 1 rfl rfl rfl ?_
  refine x_getR (f := 1132) (k2 := 2132) (pc2 := 13) C (by assumption) kf_11_104 dX11_logs_10 rfl rfl rfl (rti_i rfl) rfl (fun qd_2 => ?_)
  refine x_bipush (pc2 := 15) (v := 40) C dX11_logs_13 rfl rfl ?_
  refine x_aload_n (pc2 := 16) C dX11_logs_15 1 rfl rfl rfl ?_
  refine x_getI (pc2 := 19) (f := 1158) C (by assumption) kf_11_246 dX11_logs_16 rfl rfl rfl ?_
  refine x_imul (pc2 := 20) C dX11_logs_19 rfl ?_
  refine x_aload_n (pc2 := 21) C dX11_logs_20 1 rfl rfl rfl ?_
  refine x_getR (f := 1130) (k2 := 2130) (pc2 := 24) C (by assumption) kf_11_98 dX11_logs_21 rfl rfl rfl (rti_i rfl) rfl (fun qd_3 => ?_)
  refine x_aload_n (pc2 := 25) C dX11_logs_24 1 rfl rfl rfl ?_
  refine x_getI (pc2 := 28) (f := 1158) C (by assumption) kf_11_246 dX11_logs_25 rfl rfl rfl ?_
  rcases (Decidable.em (inB (xI r_1.2 1158 0 0) 48)).symm with qg_4 | qg_4
  · exact absurd hf (by rw [fX11_logs, ob_s hq_1, if_neg qg_4]; exact nofun)
  refine x_iald (pc2 := 29) C (by assumption) dX11_logs_28 rfl (inB_in qg_4) rfl ?_
  refine x_iadd (pc2 := 30) C dX11_logs_29 rfl ?_
  refine x_bipush (pc2 := 32) (v := 100) C dX11_logs_30 rfl rfl ?_
  refine x_iload_n (pc2 := 33) C dX11_logs_32 0 rfl rfl rfl ?_
  refine x_imul (pc2 := 34) C dX11_logs_33 rfl ?_
  refine x_aload_n (pc2 := 35) C dX11_logs_34 1 rfl rfl rfl ?_
  refine x_getR (f := 1140) (k2 := 2140) (pc2 := 38) C (by assumption) kf_11_128 dX11_logs_35 rfl rfl rfl (rti_i rfl) rfl (fun qd_5 => ?_)
  refine x_iload_n (pc2 := 39) C dX11_logs_38 2 rfl rfl rfl ?_
  rcases (Decidable.em (inB x1 5)).symm with qg_6 | qg_6
  · exact absurd hf (by rw [fX11_logs, ob_s hq_1, if_pos qg_4, if_neg qg_6]; exact nofun)
  refine x_iald (pc2 := 40) C (by assumption) dX11_logs_39 rfl (inB_in qg_6) rfl ?_
  refine x_iadd (pc2 := 41) C dX11_logs_40 rfl ?_
  rcases (Decidable.em (inB (((40 : Int32) * (xI r_1.2 1158 0 0)) + (xI r_1.2 2130 0 (xI r_1.2 1158 0 0).toNatClampNeg)) 1920)).symm with qg_7 | qg_7
  · exact absurd hf (by rw [fX11_logs, ob_s hq_1, if_pos qg_4, if_pos qg_6, if_neg qg_7]; exact nofun)
  refine x_iast (pc2 := 42) C (by assumption) dX11_logs_41 rfl (inB_in qg_7) rfl ?_
  obtain ⟨Ω_8, hw_8⟩ : ∃ z, z = uI r_1.2 2132 0 (((40 : Int32) * (xI r_1.2 1158 0 0)) + (xI r_1.2 2130 0 (xI r_1.2 1158 0 0).toNatClampNeg)).toNatClampNeg (((100 : Int32) * (r_1.1 - r_1.1 / (16 : Int32) * (16 : Int32))) + (xI r_1.2 2140 0 x1.toNatClampNeg)) := ⟨_, rfl⟩
  refine x_om hw_8 ?_
  refine x_aload_n (pc2 := 43) C dX11_logs_42 1 rfl rfl rfl ?_
  refine x_getR (f := 1130) (k2 := 2130) (pc2 := 46) C (by assumption) kf_11_98 dX11_logs_43 rfl rfl rfl (rti_i rfl) rfl (fun qd_9 => ?_)
  refine x_aload_n (pc2 := 47) C dX11_logs_46 1 rfl rfl rfl ?_
  refine x_getI (pc2 := 50) (f := 1158) C (by assumption) kf_11_246 dX11_logs_47 rfl rfl rfl ?_
  refine x_dup2 (pc2 := 51) C dX11_logs_50 rfl rfl rfl ?_
  rcases (Decidable.em (inB (xI Ω_8 1158 0 0) 48)).symm with qg_10 | qg_10
  · exact absurd hf (by rw [fX11_logs, ob_s hq_1, if_pos qg_4, if_pos qg_6, if_pos qg_7, wl_eq hw_8, if_neg qg_10]; exact nofun)
  refine x_iald (pc2 := 52) C (by assumption) dX11_logs_51 rfl (inB_in qg_10) rfl ?_
  refine x_iconst (pc2 := 53) (v := 1) C dX11_logs_52 rfl rfl ?_
  refine x_iadd (pc2 := 54) C dX11_logs_53 rfl ?_
  rcases (Decidable.em (inB (xI Ω_8 1158 0 0) 48)).symm with qg_11 | qg_11
  · exact absurd hf (by rw [fX11_logs, ob_s hq_1, if_pos qg_4, if_pos qg_6, if_pos qg_7, wl_eq hw_8, if_pos qg_10, if_neg qg_11]; exact nofun)
  refine x_iast (pc2 := 55) C (by assumption) dX11_logs_54 rfl (inB_in qg_11) rfl ?_
  obtain ⟨Ω_12, hw_12⟩ : ∃ z, z = uI Ω_8 2130 0 (xI Ω_8 1158 0 0).toNatClampNeg ((xI Ω_8 2130 0 (xI Ω_8 1158 0 0).toNatClampNeg) + (1 : Int32)) := ⟨_, rfl⟩
  refine x_om hw_12 ?_
  rw [fX11_logs, ob_s hq_1, if_pos qg_4, if_pos qg_6, if_pos qg_7, wl_eq hw_8, if_pos qg_10, if_pos qg_11, wl_eq hw_12] at hf
  obtain rfl := (Option.some.inj hf).symm
  exact x_vreturn C dX11_logs_55 rfl (Nat.le_of_ble_eq_true rfl) (Nat.le_of_ble_eq_true rfl) rfl rfl
def fX11_makes (Ω : XO) (x1 : Int32) (x2 : Int32) : Option (XO) := (fX11_pop Ω x1).bind (fun r_1 => (if inB x1 5 then (if inB ((16 : Int32) + (xI r_1.2 2140 0 x1.toNatClampNeg)) 120 then (fX11_made r_1.2 (xI r_1.2 2140 0 x1.toNatClampNeg) (xI r_1.2 2101 0 ((16 : Int32) + (xI r_1.2 2140 0 x1.toNatClampNeg)).toNatClampNeg) x2 r_1.1).bind (fun r_6 => (if inB ((16 : Int32) + (xI r_1.2 2140 0 x1.toNatClampNeg)) 120 then (if inB ((16 : Int32) + (xI r_1.2 2140 0 x1.toNatClampNeg)) 120 then (wl (uI r_6.2 2101 0 ((16 : Int32) + (xI r_1.2 2140 0 x1.toNatClampNeg)).toNatClampNeg ((xI r_6.2 2101 0 ((16 : Int32) + (xI r_1.2 2140 0 x1.toNatClampNeg)).toNatClampNeg) + (1 : Int32))) (fun Ω_10 => (wl ((if 0 ≤ r_6.1 then r_6.1 else (0 : Int32))) (fun (j_11 : Int32) => (fX11_push Ω_10 x1 j_11).bind (fun r_13 => (some r_13)))))) else none) else none)) else none) else none))
set_option maxRecDepth 20000 in
theorem tX11_makes {G : XG} (hok : XK G) {x1 : Int32} {x2 : Int32} {Ω : XO} (hd0 : dm G 11 0)   {r : XO} (hf : fX11_makes Ω x1 x2 = some r) : XM G yX11_makes cX11_makes 6 none (RM 2 0) [.ref (ad G 11 0), .int x1, .int x2] Ω (.inl none) (r) := by
  refine x_start (lv := [(0, .ref (ad G 11 0)), (1, .int x1), (2, .int x2)]) (own := RX11) hok (by decide +kernel) rfl (Nat.le_of_ble_eq_true rfl) rfl (fun B C => ?_)
  refine x_aload_n (pc2 := 1) C dX11_makes_0 0 rfl rfl rfl ?_
  refine x_iload_n (pc2 := 2) C dX11_makes_1 1 rfl rfl rfl ?_
  rcases opt_em (fX11_pop Ω x1) with hq_1 | ⟨r_1, hq_1⟩
  · exact absurd hf (by rw [fX11_makes, ob_n hq_1]; exact nofun)
  refine x_ret (rest := []) (st2 := [_]) (pc2 := 5) (cu2 := 0) (su2 := 0) (x_cV C (by assumption) (Nat.le_of_ble_eq_true rfl) kmX11_pop rfl kk_11_281 (tX11_pop hok (by assumption)  hq_1) rfl rfl (Nat.le_of_ble_eq_true rfl) ⟨Nat.le_of_ble_eq_true rfl, Nat.le_of_ble_eq_true rfl⟩ ⟨Nat.le_of_ble_eq_true rfl, Nat.le_of_ble_eq_true rfl⟩ dX11_makes_2) rfl rfl rfl rfl ?_
  refine x_istore_n (pc2 := 6) (lv2 := [(3, _), (0, _), (1, _), (2, _)]) C dX11_makes_5 rfl (by decide) rfl rfl ?_
  refine x_aload_n (pc2 := 7) C dX11_makes_6 1 rfl rfl rfl ?_
  refine x_getR (f := 1140) (k2 := 2140) (pc2 := 10) C (by assumption) kf_11_128 dX11_makes_7 rfl rfl rfl (rti_i rfl) rfl (fun qd_2 => ?_)
  refine x_iload_n (pc2 := 11) C dX11_makes_10 2 rfl rfl rfl ?_
  rcases (Decidable.em (inB x1 5)).symm with qg_3 | qg_3
  · exact absurd hf (by rw [fX11_makes, ob_s hq_1, if_neg qg_3]; exact nofun)
  refine x_iald (pc2 := 12) C (by assumption) dX11_makes_11 rfl (inB_in qg_3) rfl ?_
  refine x_istore (pc2 := 14) (lv2 := [(4, _), (3, _), (0, _), (1, _), (2, _)]) C dX11_makes_12 (by decide) rfl rfl ?_
  refine x_aload_n (pc2 := 15) C dX11_makes_14 2 rfl rfl rfl ?_
  refine x_iload (pc2 := 17) C dX11_makes_15 0 rfl rfl ?_
  refine x_aload_n (pc2 := 18) C dX11_makes_17 2 rfl rfl rfl ?_
  refine x_getR (f := 1101) (k2 := 2101) (pc2 := 21) C (by assumption) kf_11_13 dX11_makes_18 rfl rfl rfl (rti_i rfl) rfl (fun qd_4 => ?_)
  refine x_bipush (pc2 := 23) (v := 16) C dX11_makes_21 rfl rfl ?_
  refine x_iload (pc2 := 25) C dX11_makes_23 0 rfl rfl ?_
  refine x_iadd (pc2 := 26) C dX11_makes_25 rfl ?_
  rcases (Decidable.em (inB ((16 : Int32) + (xI r_1.2 2140 0 x1.toNatClampNeg)) 120)).symm with qg_5 | qg_5
  · exact absurd hf (by rw [fX11_makes, ob_s hq_1, if_pos qg_3, if_neg qg_5]; exact nofun)
  refine x_iald (pc2 := 27) C (by assumption) dX11_makes_26 rfl (inB_in qg_5) rfl ?_
  refine x_iload_n (pc2 := 28) C dX11_makes_27 4 rfl rfl rfl ?_
  refine x_iload_n (pc2 := 29) C dX11_makes_28 1 rfl rfl rfl ?_
  rcases opt_em (fX11_made r_1.2 (xI r_1.2 2140 0 x1.toNatClampNeg) (xI r_1.2 2101 0 ((16 : Int32) + (xI r_1.2 2140 0 x1.toNatClampNeg)).toNatClampNeg) x2 r_1.1) with hq_6 | ⟨r_6, hq_6⟩
  · exact absurd hf (by rw [fX11_makes, ob_s hq_1, if_pos qg_3, if_pos qg_5, ob_n hq_6]; exact nofun)
  refine x_ret (rest := []) (st2 := [_]) (pc2 := 32) (cu2 := 0) (su2 := 0) (x_cV C (by assumption) (Nat.le_of_ble_eq_true rfl) kmX11_made rfl kk_11_295 (tX11_made hok (by assumption)  hq_6) rfl rfl (Nat.le_of_ble_eq_true rfl) ⟨Nat.le_of_ble_eq_true rfl, Nat.le_of_ble_eq_true rfl⟩ ⟨Nat.le_of_ble_eq_true rfl, Nat.le_of_ble_eq_true rfl⟩ dX11_makes_29) rfl rfl rfl rfl ?_
  refine x_istore (pc2 := 34) (lv2 := [(5, _), (4, _), (3, _), (0, _), (1, _), (2, _)]) C dX11_makes_32 (by decide) rfl rfl ?_
  refine x_aload_n (pc2 := 35) C dX11_makes_34 3 rfl rfl rfl ?_
  refine x_getR (f := 1101) (k2 := 2101) (pc2 := 38) C (by assumption) kf_11_13 dX11_makes_35 rfl rfl rfl (rti_i rfl) rfl (fun qd_7 => ?_)
  refine x_bipush (pc2 := 40) (v := 16) C dX11_makes_38 rfl rfl ?_
  refine x_iload (pc2 := 42) C dX11_makes_40 1 rfl rfl ?_
  refine x_iadd (pc2 := 43) C dX11_makes_42 rfl ?_
  refine x_dup2 (pc2 := 44) C dX11_makes_43 rfl rfl rfl ?_
  rcases (Decidable.em (inB ((16 : Int32) + (xI r_1.2 2140 0 x1.toNatClampNeg)) 120)).symm with qg_8 | qg_8
  · exact absurd hf (by rw [fX11_makes, ob_s hq_1, if_pos qg_3, if_pos qg_5, ob_s hq_6, if_neg qg_8]; exact nofun)
  refine x_iald (pc2 := 45) C (by assumption) dX11_makes_44 rfl (inB_in qg_8) rfl ?_
  refine x_iconst (pc2 := 46) (v := 1) C dX11_makes_45 rfl rfl ?_
  refine x_iadd (pc2 := 47) C dX11_makes_46 rfl ?_
  rcases (Decidable.em (inB ((16 : Int32) + (xI r_1.2 2140 0 x1.toNatClampNeg)) 120)).symm with qg_9 | qg_9
  · exact absurd hf (by rw [fX11_makes, ob_s hq_1, if_pos qg_3, if_pos qg_5, ob_s hq_6, if_pos qg_8, if_neg qg_9]; exact nofun)
  refine x_iast (pc2 := 48) C (by assumption) dX11_makes_47 rfl (inB_in qg_9) rfl ?_
  obtain ⟨Ω_10, hw_10⟩ : ∃ z, z = uI r_6.2 2101 0 ((16 : Int32) + (xI r_1.2 2140 0 x1.toNatClampNeg)).toNatClampNeg ((xI r_6.2 2101 0 ((16 : Int32) + (xI r_1.2 2140 0 x1.toNatClampNeg)).toNatClampNeg) + (1 : Int32)) := ⟨_, rfl⟩
  refine x_om hw_10 ?_
  refine x_aload_n (pc2 := 49) C dX11_makes_48 3 rfl rfl rfl ?_
  refine x_iload_n (pc2 := 50) C dX11_makes_49 4 rfl rfl rfl ?_
  refine x_iload (pc2 := 52) C dX11_makes_50 0 rfl rfl ?_
  obtain ⟨j_11, hq_11⟩ : ∃ z : Int32, z = (if 0 ≤ r_6.1 then r_6.1 else (0 : Int32)) := ⟨_, rfl⟩
  suffices hj_11 : XW G B 6 61 [] [.int (j_11), .int (x1), .ref (ad G 11 (0))] Ω_10 0 0 by
    refine x_if_ge (tgt := 59) (pc2 := 55) C dX11_makes_52 (by decide) rfl (fun qc_12 => ?_) (fun qc_12 => ?_)
    · refine x_iload (pc2 := 61) C dX11_makes_59 0 rfl rfl ?_
      rw [if_pos qc_12] at hq_11
      subst hq_11
      exact x_sub (lv2 := []) C [] rfl hj_11
    · refine x_iconst (pc2 := 56) (v := 0) C dX11_makes_55 rfl rfl ?_
      refine x_goto (tgt := 61) C dX11_makes_56 (by decide) ?_
      rw [if_neg qc_12] at hq_11
      subst hq_11
      exact x_sub (lv2 := []) C [] rfl hj_11
  rcases opt_em (fX11_push Ω_10 x1 j_11) with hq_13 | ⟨r_13, hq_13⟩
  · exact absurd hf (by rw [fX11_makes, ob_s hq_1, if_pos qg_3, if_pos qg_5, ob_s hq_6, if_pos qg_8, if_pos qg_9, wl_eq hw_10, wl_eq hq_11, ob_n hq_13]; exact nofun)
  refine x_ret (rest := []) (st2 := []) (pc2 := 64) (cu2 := 0) (su2 := 0) (x_cV C (by assumption) (Nat.le_of_ble_eq_true rfl) kmX11_push rfl kk_11_267 (tX11_push hok (by assumption)  hq_13) rfl rfl (Nat.le_of_ble_eq_true rfl) ⟨Nat.le_of_ble_eq_true rfl, Nat.le_of_ble_eq_true rfl⟩ ⟨Nat.le_of_ble_eq_true rfl, Nat.le_of_ble_eq_true rfl⟩ dX11_makes_61) rfl rfl rfl rfl ?_
  rw [fX11_makes, ob_s hq_1, if_pos qg_3, if_pos qg_5, ob_s hq_6, if_pos qg_8, if_pos qg_9, wl_eq hw_10, wl_eq hq_11, ob_s hq_13] at hf
  obtain rfl := (Option.some.inj hf).symm
  exact x_vreturn C dX11_makes_64 rfl (Nat.le_of_ble_eq_true rfl) (Nat.le_of_ble_eq_true rfl) rfl rfl
def fX11_cells (Ω : XO) (x1 : Int32) (x2 : Int32) (x3 : Int32) : Option (XO) := (if inB x1 5 then (((if x3 ≤ (xI Ω 2150 0 x1.toNatClampNeg) then (if inB x1 5 then (some (xI Ω 2150 0 x1.toNatClampNeg)) else none) else (some x3)) : Option (Int32))).bind (fun j_4 => (if inB x1 5 then (wl (uI Ω 2150 0 x1.toNatClampNeg j_4) (fun Ω_9 => (if x2 = (17 : Int32) then (fX11_pop Ω_9 x1).bind (fun r_15 => (if inB (((16 : Int32) * x1) + x3) 80 then (wl (uI r_15.2 2149 0 (((16 : Int32) * x1) + x3).toNatClampNeg r_15.1) (fun Ω_17 => (some Ω_17))) else none)) else (if inB (((16 : Int32) * x1) + x3) 80 then (fX11_push Ω_9 x1 (xI Ω_9 2149 0 (((16 : Int32) * x1) + x3).toNatClampNeg)).bind (fun r_13 => (some r_13)) else none)))) else none)) else none)
set_option maxRecDepth 20000 in
theorem tX11_cells {G : XG} (hok : XK G) {x1 : Int32} {x2 : Int32} {x3 : Int32} {Ω : XO} (hd0 : dm G 11 0)   {r : XO} (hf : fX11_cells Ω x1 x2 x3 = some r) : XM G yX11_cells cX11_cells 4 none (RM 1 0) [.ref (ad G 11 0), .int x1, .int x2, .int x3] Ω (.inl none) (r) := by
  refine x_start (lv := [(0, .ref (ad G 11 0)), (1, .int x1), (2, .int x2), (3, .int x3)]) (own := RX11) hok (by decide +kernel) rfl (Nat.le_of_ble_eq_true rfl) rfl (fun B C => ?_)
  refine x_aload_n (pc2 := 1) C dX11_cells_0 0 rfl rfl rfl ?_
  refine x_getR (f := 1150) (k2 := 2150) (pc2 := 4) C (by assumption) kf_11_158 dX11_cells_1 rfl rfl rfl (rti_i rfl) rfl (fun qd_1 => ?_)
  refine x_iload_n (pc2 := 5) C dX11_cells_4 1 rfl rfl rfl ?_
  refine x_iload_n (pc2 := 6) C dX11_cells_5 3 rfl rfl rfl ?_
  refine x_aload_n (pc2 := 7) C dX11_cells_6 0 rfl rfl rfl ?_
  refine x_getR (f := 1150) (k2 := 2150) (pc2 := 10) C (by assumption) kf_11_158 dX11_cells_7 rfl rfl rfl (rti_i rfl) rfl (fun qd_2 => ?_)
  refine x_iload_n (pc2 := 11) C dX11_cells_10 1 rfl rfl rfl ?_
  rcases (Decidable.em (inB x1 5)).symm with qg_3 | qg_3
  · exact absurd hf (by rw [fX11_cells, if_neg qg_3]; exact nofun)
  refine x_iald (pc2 := 12) C (by assumption) dX11_cells_11 rfl (inB_in qg_3) rfl ?_
  rcases opt_em ((if x3 ≤ (xI Ω 2150 0 x1.toNatClampNeg) then (if inB x1 5 then (some (xI Ω 2150 0 x1.toNatClampNeg)) else none) else (some x3)) : Option (Int32)) with hq_4 | ⟨j_4, hq_4⟩
  · exact absurd hf (by rw [fX11_cells, if_pos qg_3, ob_n hq_4]; exact nofun)
  suffices hj_4 : XW G B 4 25 [(0, .ref (ad G 11 (0))), (1, .int (x1)), (2, .int (x2)), (3, .int (x3))] [.int (j_4), .int (x1), .ref (ad G 2150 (0))] Ω 0 0 by
    refine x_icmp_le (tgt := 19) (pc2 := 15) C dX11_cells_12 (by decide) rfl (fun qc_5 => ?_) (fun qc_5 => ?_)
    · refine x_aload_n (pc2 := 20) C dX11_cells_19 0 rfl rfl rfl ?_
      refine x_getR (f := 1150) (k2 := 2150) (pc2 := 23) C (by assumption) kf_11_158 dX11_cells_20 rfl rfl rfl (rti_i rfl) rfl (fun qd_6 => ?_)
      refine x_iload_n (pc2 := 24) C dX11_cells_23 1 rfl rfl rfl ?_
      rcases (Decidable.em (inB x1 5)).symm with qg_7 | qg_7
      · exact absurd hq_4 (by rw [if_pos qc_5, if_neg qg_7]; exact nofun)
      refine x_iald (pc2 := 25) C (by assumption) dX11_cells_24 rfl (inB_in qg_7) rfl ?_
      rw [if_pos qc_5, if_pos qg_7] at hq_4
      obtain rfl := (Option.some.inj hq_4).symm
      exact x_sub (lv2 := [(0, _), (1, _), (2, _), (3, _)]) C [0, 1, 2, 3] rfl hj_4
    · refine x_iload_n (pc2 := 16) C dX11_cells_15 3 rfl rfl rfl ?_
      refine x_goto (tgt := 25) C dX11_cells_16 (by decide) ?_
      rw [if_neg qc_5] at hq_4
      obtain rfl := (Option.some.inj hq_4).symm
      exact x_sub (lv2 := [(0, _), (1, _), (2, _), (3, _)]) C [0, 1, 2, 3] rfl hj_4
  rcases (Decidable.em (inB x1 5)).symm with qg_8 | qg_8
  · exact absurd hf (by rw [fX11_cells, if_pos qg_3, ob_s hq_4, if_neg qg_8]; exact nofun)
  refine x_iast (pc2 := 26) C (by assumption) dX11_cells_25 rfl (inB_in qg_8) rfl ?_
  obtain ⟨Ω_9, hw_9⟩ : ∃ z, z = uI Ω 2150 0 x1.toNatClampNeg j_4 := ⟨_, rfl⟩
  refine x_om hw_9 ?_
  refine x_iload_n (pc2 := 27) C dX11_cells_26 2 rfl rfl rfl ?_
  refine x_bipush (pc2 := 29) (v := 17) C dX11_cells_27 rfl rfl ?_
  refine x_icmp_ne (tgt := 51) (pc2 := 32) C dX11_cells_29 (by decide) rfl (fun qc_10 => ?_) (fun qc_10 => ?_)
  · refine x_aload_n (pc2 := 52) C dX11_cells_51 0 rfl rfl rfl ?_
    refine x_iload_n (pc2 := 53) C dX11_cells_52 1 rfl rfl rfl ?_
    refine x_aload_n (pc2 := 54) C dX11_cells_53 0 rfl rfl rfl ?_
    refine x_getR (f := 1149) (k2 := 2149) (pc2 := 57) C (by assumption) kf_11_155 dX11_cells_54 rfl rfl rfl (rti_i rfl) rfl (fun qd_11 => ?_)
    refine x_bipush (pc2 := 59) (v := 16) C dX11_cells_57 rfl rfl ?_
    refine x_iload_n (pc2 := 60) C dX11_cells_59 1 rfl rfl rfl ?_
    refine x_imul (pc2 := 61) C dX11_cells_60 rfl ?_
    refine x_iload_n (pc2 := 62) C dX11_cells_61 3 rfl rfl rfl ?_
    refine x_iadd (pc2 := 63) C dX11_cells_62 rfl ?_
    rcases (Decidable.em (inB (((16 : Int32) * x1) + x3) 80)).symm with qg_12 | qg_12
    · exact absurd hf (by rw [fX11_cells, if_pos qg_3, ob_s hq_4, if_pos qg_8, wl_eq hw_9, if_neg qc_10, if_neg qg_12]; exact nofun)
    refine x_iald (pc2 := 64) C (by assumption) dX11_cells_63 rfl (inB_in qg_12) rfl ?_
    rcases opt_em (fX11_push Ω_9 x1 (xI Ω_9 2149 0 (((16 : Int32) * x1) + x3).toNatClampNeg)) with hq_13 | ⟨r_13, hq_13⟩
    · exact absurd hf (by rw [fX11_cells, if_pos qg_3, ob_s hq_4, if_pos qg_8, wl_eq hw_9, if_neg qc_10, if_pos qg_12, ob_n hq_13]; exact nofun)
    refine x_ret (rest := []) (st2 := []) (pc2 := 67) (cu2 := 0) (su2 := 0) (x_cV C (by assumption) (Nat.le_of_ble_eq_true rfl) kmX11_push rfl kk_11_267 (tX11_push hok (by assumption)  hq_13) rfl rfl (Nat.le_of_ble_eq_true rfl) ⟨Nat.le_of_ble_eq_true rfl, Nat.le_of_ble_eq_true rfl⟩ ⟨Nat.le_of_ble_eq_true rfl, Nat.le_of_ble_eq_true rfl⟩ dX11_cells_64) rfl rfl rfl rfl ?_
    rw [fX11_cells, if_pos qg_3, ob_s hq_4, if_pos qg_8, wl_eq hw_9, if_neg qc_10, if_pos qg_12, ob_s hq_13] at hf
    obtain rfl := (Option.some.inj hf).symm
    exact x_vreturn C dX11_cells_67 rfl (Nat.le_of_ble_eq_true rfl) (Nat.le_of_ble_eq_true rfl) rfl rfl
  · refine x_aload_n (pc2 := 33) C dX11_cells_32 0 rfl rfl rfl ?_
    refine x_getR (f := 1149) (k2 := 2149) (pc2 := 36) C (by assumption) kf_11_155 dX11_cells_33 rfl rfl rfl (rti_i rfl) rfl (fun qd_14 => ?_)
    refine x_bipush (pc2 := 38) (v := 16) C dX11_cells_36 rfl rfl ?_
    refine x_iload_n (pc2 := 39) C dX11_cells_38 1 rfl rfl rfl ?_
    refine x_imul (pc2 := 40) C dX11_cells_39 rfl ?_
    refine x_iload_n (pc2 := 41) C dX11_cells_40 3 rfl rfl rfl ?_
    refine x_iadd (pc2 := 42) C dX11_cells_41 rfl ?_
    refine x_aload_n (pc2 := 43) C dX11_cells_42 0 rfl rfl rfl ?_
    refine x_iload_n (pc2 := 44) C dX11_cells_43 1 rfl rfl rfl ?_
    rcases opt_em (fX11_pop Ω_9 x1) with hq_15 | ⟨r_15, hq_15⟩
    · exact absurd hf (by rw [fX11_cells, if_pos qg_3, ob_s hq_4, if_pos qg_8, wl_eq hw_9, if_pos qc_10, ob_n hq_15]; exact nofun)
    refine x_ret (rest := [_, _]) (st2 := [_, _, _]) (pc2 := 47) (cu2 := 0) (su2 := 0) (x_cV C (by assumption) (Nat.le_of_ble_eq_true rfl) kmX11_pop rfl kk_11_281 (tX11_pop hok (by assumption)  hq_15) rfl rfl (Nat.le_of_ble_eq_true rfl) ⟨Nat.le_of_ble_eq_true rfl, Nat.le_of_ble_eq_true rfl⟩ ⟨Nat.le_of_ble_eq_true rfl, Nat.le_of_ble_eq_true rfl⟩ dX11_cells_44) rfl rfl rfl rfl ?_
    rcases (Decidable.em (inB (((16 : Int32) * x1) + x3) 80)).symm with qg_16 | qg_16
    · exact absurd hf (by rw [fX11_cells, if_pos qg_3, ob_s hq_4, if_pos qg_8, wl_eq hw_9, if_pos qc_10, ob_s hq_15, if_neg qg_16]; exact nofun)
    refine x_iast (pc2 := 48) C (by assumption) dX11_cells_47 rfl (inB_in qg_16) rfl ?_
    obtain ⟨Ω_17, hw_17⟩ : ∃ z, z = uI r_15.2 2149 0 (((16 : Int32) * x1) + x3).toNatClampNeg r_15.1 := ⟨_, rfl⟩
    refine x_om hw_17 ?_
    refine x_goto (tgt := 67) C dX11_cells_48 (by decide) ?_
    rw [fX11_cells, if_pos qg_3, ob_s hq_4, if_pos qg_8, wl_eq hw_9, if_pos qc_10, ob_s hq_15, if_pos qg_16, wl_eq hw_17] at hf
    obtain rfl := (Option.some.inj hf).symm
    exact x_vreturn C dX11_cells_67 rfl (Nat.le_of_ble_eq_true rfl) (Nat.le_of_ble_eq_true rfl) rfl rfl
def fX11_does (Ω : XO) (x1 : Int32) (x2 : Int32) (x3 : Int32) : Option (XO) := (if x2 = 0 then (fX11_push Ω x1 x3).bind (fun r_2 => (some r_2)) else (if x2 = 1 then (fX11_pop Ω x1).bind (fun r_4 => (fX11_pop r_4.2 x1).bind (fun r_5 => (fX11_reckoned r_5.2 x2 r_5.1 r_4.1).bind (fun r_6 => (fX11_push r_5.2 x1 r_6).bind (fun r_7 => (some r_7))))) else (if x2 = 2 then (fX11_pop Ω x1).bind (fun r_9 => (fX11_pop r_9.2 x1).bind (fun r_10 => (fX11_reckoned r_10.2 x2 r_10.1 r_9.1).bind (fun r_11 => (fX11_push r_10.2 x1 r_11).bind (fun r_12 => (some r_12))))) else (if x2 = 3 then (fX11_pop Ω x1).bind (fun r_14 => (fX11_pop r_14.2 x1).bind (fun r_15 => (fX11_reckoned r_15.2 x2 r_15.1 r_14.1).bind (fun r_16 => (fX11_push r_15.2 x1 r_16).bind (fun r_17 => (some r_17))))) else (if x2 = 4 then (fX11_pop Ω x1).bind (fun r_19 => (fX11_pop r_19.2 x1).bind (fun r_20 => (fX11_reckoned r_20.2 x2 r_20.1 r_19.1).bind (fun r_21 => (fX11_push r_20.2 x1 r_21).bind (fun r_22 => (some r_22))))) else (if x2 = 5 then (fX11_pop Ω x1).bind (fun r_24 => (fX11_pop r_24.2 x1).bind (fun r_25 => (fX11_reckoned r_25.2 x2 r_25.1 r_24.1).bind (fun r_26 => (fX11_push r_25.2 x1 r_26).bind (fun r_27 => (some r_27))))) else (if x2 = 6 then (if inB x1 5 then (if inB ((((16 : Int32) * x1) + (xI Ω 2148 0 x1.toNatClampNeg)) - (1 : Int32)) 80 then (fX11_push Ω x1 (xI Ω 2147 0 ((((16 : Int32) * x1) + (xI Ω 2148 0 x1.toNatClampNeg)) - (1 : Int32)).toNatClampNeg)).bind (fun r_33 => (some r_33)) else none) else none) else (if x2 = 7 then (fX11_pop Ω x1).bind (fun r_35 => (fX11_pop r_35.2 x1).bind (fun r_36 => (fX11_push r_36.2 x1 r_35.1).bind (fun r_37 => (fX11_push r_37 x1 r_36.1).bind (fun r_38 => (some r_38))))) else (if x2 = 8 then (fX11_pop Ω x1).bind (fun r_40 => (some r_40.2)) else (if x2 = 9 then (if inB x1 5 then (if inB (((48 : Int32) + ((4 : Int32) * (xI Ω 2140 0 x1.toNatClampNeg))) + x3) 120 then (fX11_push Ω x1 (xI Ω 2101 0 (((48 : Int32) + ((4 : Int32) * (xI Ω 2140 0 x1.toNatClampNeg))) + x3).toNatClampNeg)).bind (fun r_46 => (some r_46)) else none) else none) else (if x2 = 10 then (fX11_writes Ω x1 x3).bind (fun r_48 => (some r_48)) else (if x2 = 11 then (if inB x1 5 then (wl (uI Ω 2146 0 x1.toNatClampNeg x3) (fun Ω_52 => (some Ω_52))) else none) else (if x2 = 12 then (fX11_pop Ω x1).bind (fun r_55 => (((if r_55.1 = 0 then (some x3) else (if inB x1 5 then (some (xI r_55.2 2146 0 x1.toNatClampNeg)) else none)) : Option (Int32))).bind (fun j_56 => (if inB x1 5 then (wl (uI r_55.2 2146 0 x1.toNatClampNeg j_56) (fun Ω_61 => (some Ω_61))) else none))) else (if x2 = 13 then (if inB x1 5 then (fX11_push Ω x1 (xI Ω 2141 0 x1.toNatClampNeg)).bind (fun r_65 => (some r_65)) else none) else (if x2 = 14 then (if inB x1 5 then (fX11_push Ω x1 (xI Ω 2142 0 x1.toNatClampNeg)).bind (fun r_69 => (some r_69)) else none) else (if x2 = 15 then (if inB x1 5 then (fX11_push Ω x1 (xI Ω 2143 0 x1.toNatClampNeg)).bind (fun r_73 => (some r_73)) else none) else (if x2 = 16 then (fX11_pop Ω x1).bind (fun r_76 => (if inB (r_76.1 - r_76.1 / (16 : Int32) * (16 : Int32)) 120 then (fX11_push r_76.2 x1 ((xI r_76.2 2101 0 (r_76.1 - r_76.1 / (16 : Int32) * (16 : Int32)).toNatClampNeg) - (xI r_76.2 2101 0 (r_76.1 - r_76.1 / (16 : Int32) * (16 : Int32)).toNatClampNeg) / (1000000 : Int32) * (1000000 : Int32))).bind (fun r_78 => (some r_78)) else none)) else (if x2 = 17 then (fX11_cells Ω x1 x2 x3).bind (fun r_80 => (some r_80)) else (if x2 = 18 then (fX11_cells Ω x1 x2 x3).bind (fun r_82 => (some r_82)) else (if x2 = 19 then (fX11_calls Ω x1).bind (fun r_84 => (some r_84)) else (if x2 = 20 then (fX11_logs Ω x1).bind (fun r_86 => (some r_86)) else (if x2 = 21 then (fX11_makes Ω x1 x3).bind (fun r_88 => (some r_88)) else (if x2 = 22 then (fX11_ends Ω x1).bind (fun r_90 => (some r_90)) else (if x2 = 23 then (if inB x1 5 then (fX11_finish Ω (0 : Int32) (xI Ω 2144 0 x1.toNatClampNeg)).bind (fun r_94 => (some r_94)) else none) else (if inB x1 5 then (fX11_finish Ω (1 : Int32) (xI Ω 2144 0 x1.toNatClampNeg)).bind (fun r_97 => (some r_97)) else none)))))))))))))))))))))))))
set_option maxRecDepth 20000 in
theorem tX11_does {G : XG} (hok : XK G) {x1 : Int32} {x2 : Int32} {x3 : Int32} {Ω : XO} (hd0 : dm G 11 0)   {r : XO} (hf : fX11_does Ω x1 x2 x3 = some r) : XM G yX11_does cX11_does 6 none (RM 4 0) [.ref (ad G 11 0), .int x1, .int x2, .int x3] Ω (.inl none) (r) := by
  refine x_start (lv := [(0, .ref (ad G 11 0)), (1, .int x1), (2, .int x2), (3, .int x3)]) (own := RX11) hok (by decide +kernel) rfl (Nat.le_of_ble_eq_true rfl) rfl (fun B C => ?_)
  refine x_iload_n (pc2 := 1) C dX11_does_0 2 rfl rfl rfl ?_
  rcases Decidable.em (x2 = 0) with qc_1 | qc_1
  · refine x_tableIn (tgt := 112) C dX11_does_1 (by rw [qc_1]; decide) (by rw [qc_1]; decide) (by rw [qc_1]; rfl) (by decide) ?_
    refine x_aload_n (pc2 := 113) C dX11_does_112 0 rfl rfl rfl ?_
    refine x_iload_n (pc2 := 114) C dX11_does_113 1 rfl rfl rfl ?_
    refine x_iload_n (pc2 := 115) C dX11_does_114 3 rfl rfl rfl ?_
    rcases opt_em (fX11_push Ω x1 x3) with hq_2 | ⟨r_2, hq_2⟩
    · exact absurd hf (by rw [fX11_does, if_pos qc_1, ob_n hq_2]; exact nofun)
    refine x_ret (rest := []) (st2 := []) (pc2 := 118) (cu2 := 0) (su2 := 0) (x_cV C (by assumption) (Nat.le_of_ble_eq_true rfl) kmX11_push rfl kk_11_267 (tX11_push hok (by assumption)  hq_2) rfl rfl (Nat.le_of_ble_eq_true rfl) ⟨Nat.le_of_ble_eq_true rfl, Nat.le_of_ble_eq_true rfl⟩ ⟨Nat.le_of_ble_eq_true rfl, Nat.le_of_ble_eq_true rfl⟩ dX11_does_115) rfl rfl rfl rfl ?_
    refine x_goto (tgt := 421) C dX11_does_118 (by decide) ?_
    rw [fX11_does, if_pos qc_1, ob_s hq_2] at hf
    obtain rfl := (Option.some.inj hf).symm
    exact x_vreturn C dX11_does_421 rfl (Nat.le_of_ble_eq_true rfl) (Nat.le_of_ble_eq_true rfl) rfl rfl
  · rcases Decidable.em (x2 = 1) with qc_3 | qc_3
    · refine x_tableIn (tgt := 121) C dX11_does_1 (by rw [qc_3]; decide) (by rw [qc_3]; decide) (by rw [qc_3]; rfl) (by decide) ?_
      refine x_aload_n (pc2 := 122) C dX11_does_121 0 rfl rfl rfl ?_
      refine x_iload_n (pc2 := 123) C dX11_does_122 1 rfl rfl rfl ?_
      rcases opt_em (fX11_pop Ω x1) with hq_4 | ⟨r_4, hq_4⟩
      · exact absurd hf (by rw [fX11_does, if_neg qc_1, if_pos qc_3, ob_n hq_4]; exact nofun)
      refine x_ret (rest := []) (st2 := [_]) (pc2 := 126) (cu2 := 0) (su2 := 0) (x_cV C (by assumption) (Nat.le_of_ble_eq_true rfl) kmX11_pop rfl kk_11_281 (tX11_pop hok (by assumption)  hq_4) rfl rfl (Nat.le_of_ble_eq_true rfl) ⟨Nat.le_of_ble_eq_true rfl, Nat.le_of_ble_eq_true rfl⟩ ⟨Nat.le_of_ble_eq_true rfl, Nat.le_of_ble_eq_true rfl⟩ dX11_does_123) rfl rfl rfl rfl ?_
      refine x_istore (pc2 := 128) (lv2 := [(4, _), (0, _), (1, _), (2, _), (3, _)]) C dX11_does_126 (by decide) rfl rfl ?_
      refine x_aload_n (pc2 := 129) C dX11_does_128 1 rfl rfl rfl ?_
      refine x_iload_n (pc2 := 130) C dX11_does_129 2 rfl rfl rfl ?_
      refine x_aload_n (pc2 := 131) C dX11_does_130 1 rfl rfl rfl ?_
      refine x_iload_n (pc2 := 132) C dX11_does_131 3 rfl rfl rfl ?_
      refine x_aload_n (pc2 := 133) C dX11_does_132 1 rfl rfl rfl ?_
      refine x_iload_n (pc2 := 134) C dX11_does_133 2 rfl rfl rfl ?_
      rcases opt_em (fX11_pop r_4.2 x1) with hq_5 | ⟨r_5, hq_5⟩
      · exact absurd hf (by rw [fX11_does, if_neg qc_1, if_pos qc_3, ob_s hq_4, ob_n hq_5]; exact nofun)
      refine x_ret (rest := [_, _, _, _]) (st2 := [_, _, _, _, _]) (pc2 := 137) (cu2 := 0) (su2 := 0) (x_cV C (by assumption) (Nat.le_of_ble_eq_true rfl) kmX11_pop rfl kk_11_281 (tX11_pop hok (by assumption)  hq_5) rfl rfl (Nat.le_of_ble_eq_true rfl) ⟨Nat.le_of_ble_eq_true rfl, Nat.le_of_ble_eq_true rfl⟩ ⟨Nat.le_of_ble_eq_true rfl, Nat.le_of_ble_eq_true rfl⟩ dX11_does_134) rfl rfl rfl rfl ?_
      refine x_iload (pc2 := 139) C dX11_does_137 0 rfl rfl ?_
      rcases opt_em (fX11_reckoned r_5.2 x2 r_5.1 r_4.1) with hq_6 | ⟨r_6, hq_6⟩
      · exact absurd hf (by rw [fX11_does, if_neg qc_1, if_pos qc_3, ob_s hq_4, ob_s hq_5, ob_n hq_6]; exact nofun)
      refine x_ret (rest := [_, _]) (st2 := [_, _, _]) (pc2 := 142) (cu2 := 0) (su2 := 0) (x_cV C (by assumption) (Nat.le_of_ble_eq_true rfl) kmX11_reckoned rfl kk_11_299 (tX11_reckoned hok (by assumption)  hq_6) rfl rfl (Nat.le_of_ble_eq_true rfl) ⟨Nat.le_of_ble_eq_true rfl, Nat.le_of_ble_eq_true rfl⟩ ⟨Nat.le_of_ble_eq_true rfl, Nat.le_of_ble_eq_true rfl⟩ dX11_does_139) rfl rfl rfl rfl ?_
      rcases opt_em (fX11_push r_5.2 x1 r_6) with hq_7 | ⟨r_7, hq_7⟩
      · exact absurd hf (by rw [fX11_does, if_neg qc_1, if_pos qc_3, ob_s hq_4, ob_s hq_5, ob_s hq_6, ob_n hq_7]; exact nofun)
      refine x_ret (rest := []) (st2 := []) (pc2 := 145) (cu2 := 0) (su2 := 0) (x_cV C (by assumption) (Nat.le_of_ble_eq_true rfl) kmX11_push rfl kk_11_267 (tX11_push hok (by assumption)  hq_7) rfl rfl (Nat.le_of_ble_eq_true rfl) ⟨Nat.le_of_ble_eq_true rfl, Nat.le_of_ble_eq_true rfl⟩ ⟨Nat.le_of_ble_eq_true rfl, Nat.le_of_ble_eq_true rfl⟩ dX11_does_142) rfl rfl rfl rfl ?_
      refine x_goto (tgt := 421) C dX11_does_145 (by decide) ?_
      rw [fX11_does, if_neg qc_1, if_pos qc_3, ob_s hq_4, ob_s hq_5, ob_s hq_6, ob_s hq_7] at hf
      obtain rfl := (Option.some.inj hf).symm
      exact x_vreturn C dX11_does_421 rfl (Nat.le_of_ble_eq_true rfl) (Nat.le_of_ble_eq_true rfl) rfl rfl
    · rcases Decidable.em (x2 = 2) with qc_8 | qc_8
      · refine x_tableIn (tgt := 121) C dX11_does_1 (by rw [qc_8]; decide) (by rw [qc_8]; decide) (by rw [qc_8]; rfl) (by decide) ?_
        refine x_aload_n (pc2 := 122) C dX11_does_121 0 rfl rfl rfl ?_
        refine x_iload_n (pc2 := 123) C dX11_does_122 1 rfl rfl rfl ?_
        rcases opt_em (fX11_pop Ω x1) with hq_9 | ⟨r_9, hq_9⟩
        · exact absurd hf (by rw [fX11_does, if_neg qc_1, if_neg qc_3, if_pos qc_8, ob_n hq_9]; exact nofun)
        refine x_ret (rest := []) (st2 := [_]) (pc2 := 126) (cu2 := 0) (su2 := 0) (x_cV C (by assumption) (Nat.le_of_ble_eq_true rfl) kmX11_pop rfl kk_11_281 (tX11_pop hok (by assumption)  hq_9) rfl rfl (Nat.le_of_ble_eq_true rfl) ⟨Nat.le_of_ble_eq_true rfl, Nat.le_of_ble_eq_true rfl⟩ ⟨Nat.le_of_ble_eq_true rfl, Nat.le_of_ble_eq_true rfl⟩ dX11_does_123) rfl rfl rfl rfl ?_
        refine x_istore (pc2 := 128) (lv2 := [(4, _), (0, _), (1, _), (2, _), (3, _)]) C dX11_does_126 (by decide) rfl rfl ?_
        refine x_aload_n (pc2 := 129) C dX11_does_128 1 rfl rfl rfl ?_
        refine x_iload_n (pc2 := 130) C dX11_does_129 2 rfl rfl rfl ?_
        refine x_aload_n (pc2 := 131) C dX11_does_130 1 rfl rfl rfl ?_
        refine x_iload_n (pc2 := 132) C dX11_does_131 3 rfl rfl rfl ?_
        refine x_aload_n (pc2 := 133) C dX11_does_132 1 rfl rfl rfl ?_
        refine x_iload_n (pc2 := 134) C dX11_does_133 2 rfl rfl rfl ?_
        rcases opt_em (fX11_pop r_9.2 x1) with hq_10 | ⟨r_10, hq_10⟩
        · exact absurd hf (by rw [fX11_does, if_neg qc_1, if_neg qc_3, if_pos qc_8, ob_s hq_9, ob_n hq_10]; exact nofun)
        refine x_ret (rest := [_, _, _, _]) (st2 := [_, _, _, _, _]) (pc2 := 137) (cu2 := 0) (su2 := 0) (x_cV C (by assumption) (Nat.le_of_ble_eq_true rfl) kmX11_pop rfl kk_11_281 (tX11_pop hok (by assumption)  hq_10) rfl rfl (Nat.le_of_ble_eq_true rfl) ⟨Nat.le_of_ble_eq_true rfl, Nat.le_of_ble_eq_true rfl⟩ ⟨Nat.le_of_ble_eq_true rfl, Nat.le_of_ble_eq_true rfl⟩ dX11_does_134) rfl rfl rfl rfl ?_
        refine x_iload (pc2 := 139) C dX11_does_137 0 rfl rfl ?_
        rcases opt_em (fX11_reckoned r_10.2 x2 r_10.1 r_9.1) with hq_11 | ⟨r_11, hq_11⟩
        · exact absurd hf (by rw [fX11_does, if_neg qc_1, if_neg qc_3, if_pos qc_8, ob_s hq_9, ob_s hq_10, ob_n hq_11]; exact nofun)
        refine x_ret (rest := [_, _]) (st2 := [_, _, _]) (pc2 := 142) (cu2 := 0) (su2 := 0) (x_cV C (by assumption) (Nat.le_of_ble_eq_true rfl) kmX11_reckoned rfl kk_11_299 (tX11_reckoned hok (by assumption)  hq_11) rfl rfl (Nat.le_of_ble_eq_true rfl) ⟨Nat.le_of_ble_eq_true rfl, Nat.le_of_ble_eq_true rfl⟩ ⟨Nat.le_of_ble_eq_true rfl, Nat.le_of_ble_eq_true rfl⟩ dX11_does_139) rfl rfl rfl rfl ?_
        rcases opt_em (fX11_push r_10.2 x1 r_11) with hq_12 | ⟨r_12, hq_12⟩
        · exact absurd hf (by rw [fX11_does, if_neg qc_1, if_neg qc_3, if_pos qc_8, ob_s hq_9, ob_s hq_10, ob_s hq_11, ob_n hq_12]; exact nofun)
        refine x_ret (rest := []) (st2 := []) (pc2 := 145) (cu2 := 0) (su2 := 0) (x_cV C (by assumption) (Nat.le_of_ble_eq_true rfl) kmX11_push rfl kk_11_267 (tX11_push hok (by assumption)  hq_12) rfl rfl (Nat.le_of_ble_eq_true rfl) ⟨Nat.le_of_ble_eq_true rfl, Nat.le_of_ble_eq_true rfl⟩ ⟨Nat.le_of_ble_eq_true rfl, Nat.le_of_ble_eq_true rfl⟩ dX11_does_142) rfl rfl rfl rfl ?_
        refine x_goto (tgt := 421) C dX11_does_145 (by decide) ?_
        rw [fX11_does, if_neg qc_1, if_neg qc_3, if_pos qc_8, ob_s hq_9, ob_s hq_10, ob_s hq_11, ob_s hq_12] at hf
        obtain rfl := (Option.some.inj hf).symm
        exact x_vreturn C dX11_does_421 rfl (Nat.le_of_ble_eq_true rfl) (Nat.le_of_ble_eq_true rfl) rfl rfl
      · rcases Decidable.em (x2 = 3) with qc_13 | qc_13
        · refine x_tableIn (tgt := 121) C dX11_does_1 (by rw [qc_13]; decide) (by rw [qc_13]; decide) (by rw [qc_13]; rfl) (by decide) ?_
          refine x_aload_n (pc2 := 122) C dX11_does_121 0 rfl rfl rfl ?_
          refine x_iload_n (pc2 := 123) C dX11_does_122 1 rfl rfl rfl ?_
          rcases opt_em (fX11_pop Ω x1) with hq_14 | ⟨r_14, hq_14⟩
          · exact absurd hf (by rw [fX11_does, if_neg qc_1, if_neg qc_3, if_neg qc_8, if_pos qc_13, ob_n hq_14]; exact nofun)
          refine x_ret (rest := []) (st2 := [_]) (pc2 := 126) (cu2 := 0) (su2 := 0) (x_cV C (by assumption) (Nat.le_of_ble_eq_true rfl) kmX11_pop rfl kk_11_281 (tX11_pop hok (by assumption)  hq_14) rfl rfl (Nat.le_of_ble_eq_true rfl) ⟨Nat.le_of_ble_eq_true rfl, Nat.le_of_ble_eq_true rfl⟩ ⟨Nat.le_of_ble_eq_true rfl, Nat.le_of_ble_eq_true rfl⟩ dX11_does_123) rfl rfl rfl rfl ?_
          refine x_istore (pc2 := 128) (lv2 := [(4, _), (0, _), (1, _), (2, _), (3, _)]) C dX11_does_126 (by decide) rfl rfl ?_
          refine x_aload_n (pc2 := 129) C dX11_does_128 1 rfl rfl rfl ?_
          refine x_iload_n (pc2 := 130) C dX11_does_129 2 rfl rfl rfl ?_
          refine x_aload_n (pc2 := 131) C dX11_does_130 1 rfl rfl rfl ?_
          refine x_iload_n (pc2 := 132) C dX11_does_131 3 rfl rfl rfl ?_
          refine x_aload_n (pc2 := 133) C dX11_does_132 1 rfl rfl rfl ?_
          refine x_iload_n (pc2 := 134) C dX11_does_133 2 rfl rfl rfl ?_
          rcases opt_em (fX11_pop r_14.2 x1) with hq_15 | ⟨r_15, hq_15⟩
          · exact absurd hf (by rw [fX11_does, if_neg qc_1, if_neg qc_3, if_neg qc_8, if_pos qc_13, ob_s hq_14, ob_n hq_15]; exact nofun)
          refine x_ret (rest := [_, _, _, _]) (st2 := [_, _, _, _, _]) (pc2 := 137) (cu2 := 0) (su2 := 0) (x_cV C (by assumption) (Nat.le_of_ble_eq_true rfl) kmX11_pop rfl kk_11_281 (tX11_pop hok (by assumption)  hq_15) rfl rfl (Nat.le_of_ble_eq_true rfl) ⟨Nat.le_of_ble_eq_true rfl, Nat.le_of_ble_eq_true rfl⟩ ⟨Nat.le_of_ble_eq_true rfl, Nat.le_of_ble_eq_true rfl⟩ dX11_does_134) rfl rfl rfl rfl ?_
          refine x_iload (pc2 := 139) C dX11_does_137 0 rfl rfl ?_
          rcases opt_em (fX11_reckoned r_15.2 x2 r_15.1 r_14.1) with hq_16 | ⟨r_16, hq_16⟩
          · exact absurd hf (by rw [fX11_does, if_neg qc_1, if_neg qc_3, if_neg qc_8, if_pos qc_13, ob_s hq_14, ob_s hq_15, ob_n hq_16]; exact nofun)
          refine x_ret (rest := [_, _]) (st2 := [_, _, _]) (pc2 := 142) (cu2 := 0) (su2 := 0) (x_cV C (by assumption) (Nat.le_of_ble_eq_true rfl) kmX11_reckoned rfl kk_11_299 (tX11_reckoned hok (by assumption)  hq_16) rfl rfl (Nat.le_of_ble_eq_true rfl) ⟨Nat.le_of_ble_eq_true rfl, Nat.le_of_ble_eq_true rfl⟩ ⟨Nat.le_of_ble_eq_true rfl, Nat.le_of_ble_eq_true rfl⟩ dX11_does_139) rfl rfl rfl rfl ?_
          rcases opt_em (fX11_push r_15.2 x1 r_16) with hq_17 | ⟨r_17, hq_17⟩
          · exact absurd hf (by rw [fX11_does, if_neg qc_1, if_neg qc_3, if_neg qc_8, if_pos qc_13, ob_s hq_14, ob_s hq_15, ob_s hq_16, ob_n hq_17]; exact nofun)
          refine x_ret (rest := []) (st2 := []) (pc2 := 145) (cu2 := 0) (su2 := 0) (x_cV C (by assumption) (Nat.le_of_ble_eq_true rfl) kmX11_push rfl kk_11_267 (tX11_push hok (by assumption)  hq_17) rfl rfl (Nat.le_of_ble_eq_true rfl) ⟨Nat.le_of_ble_eq_true rfl, Nat.le_of_ble_eq_true rfl⟩ ⟨Nat.le_of_ble_eq_true rfl, Nat.le_of_ble_eq_true rfl⟩ dX11_does_142) rfl rfl rfl rfl ?_
          refine x_goto (tgt := 421) C dX11_does_145 (by decide) ?_
          rw [fX11_does, if_neg qc_1, if_neg qc_3, if_neg qc_8, if_pos qc_13, ob_s hq_14, ob_s hq_15, ob_s hq_16, ob_s hq_17] at hf
          obtain rfl := (Option.some.inj hf).symm
          exact x_vreturn C dX11_does_421 rfl (Nat.le_of_ble_eq_true rfl) (Nat.le_of_ble_eq_true rfl) rfl rfl
        · rcases Decidable.em (x2 = 4) with qc_18 | qc_18
          · refine x_tableIn (tgt := 121) C dX11_does_1 (by rw [qc_18]; decide) (by rw [qc_18]; decide) (by rw [qc_18]; rfl) (by decide) ?_
            refine x_aload_n (pc2 := 122) C dX11_does_121 0 rfl rfl rfl ?_
            refine x_iload_n (pc2 := 123) C dX11_does_122 1 rfl rfl rfl ?_
            rcases opt_em (fX11_pop Ω x1) with hq_19 | ⟨r_19, hq_19⟩
            · exact absurd hf (by rw [fX11_does, if_neg qc_1, if_neg qc_3, if_neg qc_8, if_neg qc_13, if_pos qc_18, ob_n hq_19]; exact nofun)
            refine x_ret (rest := []) (st2 := [_]) (pc2 := 126) (cu2 := 0) (su2 := 0) (x_cV C (by assumption) (Nat.le_of_ble_eq_true rfl) kmX11_pop rfl kk_11_281 (tX11_pop hok (by assumption)  hq_19) rfl rfl (Nat.le_of_ble_eq_true rfl) ⟨Nat.le_of_ble_eq_true rfl, Nat.le_of_ble_eq_true rfl⟩ ⟨Nat.le_of_ble_eq_true rfl, Nat.le_of_ble_eq_true rfl⟩ dX11_does_123) rfl rfl rfl rfl ?_
            refine x_istore (pc2 := 128) (lv2 := [(4, _), (0, _), (1, _), (2, _), (3, _)]) C dX11_does_126 (by decide) rfl rfl ?_
            refine x_aload_n (pc2 := 129) C dX11_does_128 1 rfl rfl rfl ?_
            refine x_iload_n (pc2 := 130) C dX11_does_129 2 rfl rfl rfl ?_
            refine x_aload_n (pc2 := 131) C dX11_does_130 1 rfl rfl rfl ?_
            refine x_iload_n (pc2 := 132) C dX11_does_131 3 rfl rfl rfl ?_
            refine x_aload_n (pc2 := 133) C dX11_does_132 1 rfl rfl rfl ?_
            refine x_iload_n (pc2 := 134) C dX11_does_133 2 rfl rfl rfl ?_
            rcases opt_em (fX11_pop r_19.2 x1) with hq_20 | ⟨r_20, hq_20⟩
            · exact absurd hf (by rw [fX11_does, if_neg qc_1, if_neg qc_3, if_neg qc_8, if_neg qc_13, if_pos qc_18, ob_s hq_19, ob_n hq_20]; exact nofun)
            refine x_ret (rest := [_, _, _, _]) (st2 := [_, _, _, _, _]) (pc2 := 137) (cu2 := 0) (su2 := 0) (x_cV C (by assumption) (Nat.le_of_ble_eq_true rfl) kmX11_pop rfl kk_11_281 (tX11_pop hok (by assumption)  hq_20) rfl rfl (Nat.le_of_ble_eq_true rfl) ⟨Nat.le_of_ble_eq_true rfl, Nat.le_of_ble_eq_true rfl⟩ ⟨Nat.le_of_ble_eq_true rfl, Nat.le_of_ble_eq_true rfl⟩ dX11_does_134) rfl rfl rfl rfl ?_
            refine x_iload (pc2 := 139) C dX11_does_137 0 rfl rfl ?_
            rcases opt_em (fX11_reckoned r_20.2 x2 r_20.1 r_19.1) with hq_21 | ⟨r_21, hq_21⟩
            · exact absurd hf (by rw [fX11_does, if_neg qc_1, if_neg qc_3, if_neg qc_8, if_neg qc_13, if_pos qc_18, ob_s hq_19, ob_s hq_20, ob_n hq_21]; exact nofun)
            refine x_ret (rest := [_, _]) (st2 := [_, _, _]) (pc2 := 142) (cu2 := 0) (su2 := 0) (x_cV C (by assumption) (Nat.le_of_ble_eq_true rfl) kmX11_reckoned rfl kk_11_299 (tX11_reckoned hok (by assumption)  hq_21) rfl rfl (Nat.le_of_ble_eq_true rfl) ⟨Nat.le_of_ble_eq_true rfl, Nat.le_of_ble_eq_true rfl⟩ ⟨Nat.le_of_ble_eq_true rfl, Nat.le_of_ble_eq_true rfl⟩ dX11_does_139) rfl rfl rfl rfl ?_
            rcases opt_em (fX11_push r_20.2 x1 r_21) with hq_22 | ⟨r_22, hq_22⟩
            · exact absurd hf (by rw [fX11_does, if_neg qc_1, if_neg qc_3, if_neg qc_8, if_neg qc_13, if_pos qc_18, ob_s hq_19, ob_s hq_20, ob_s hq_21, ob_n hq_22]; exact nofun)
            refine x_ret (rest := []) (st2 := []) (pc2 := 145) (cu2 := 0) (su2 := 0) (x_cV C (by assumption) (Nat.le_of_ble_eq_true rfl) kmX11_push rfl kk_11_267 (tX11_push hok (by assumption)  hq_22) rfl rfl (Nat.le_of_ble_eq_true rfl) ⟨Nat.le_of_ble_eq_true rfl, Nat.le_of_ble_eq_true rfl⟩ ⟨Nat.le_of_ble_eq_true rfl, Nat.le_of_ble_eq_true rfl⟩ dX11_does_142) rfl rfl rfl rfl ?_
            refine x_goto (tgt := 421) C dX11_does_145 (by decide) ?_
            rw [fX11_does, if_neg qc_1, if_neg qc_3, if_neg qc_8, if_neg qc_13, if_pos qc_18, ob_s hq_19, ob_s hq_20, ob_s hq_21, ob_s hq_22] at hf
            obtain rfl := (Option.some.inj hf).symm
            exact x_vreturn C dX11_does_421 rfl (Nat.le_of_ble_eq_true rfl) (Nat.le_of_ble_eq_true rfl) rfl rfl
          · rcases Decidable.em (x2 = 5) with qc_23 | qc_23
            · refine x_tableIn (tgt := 121) C dX11_does_1 (by rw [qc_23]; decide) (by rw [qc_23]; decide) (by rw [qc_23]; rfl) (by decide) ?_
              refine x_aload_n (pc2 := 122) C dX11_does_121 0 rfl rfl rfl ?_
              refine x_iload_n (pc2 := 123) C dX11_does_122 1 rfl rfl rfl ?_
              rcases opt_em (fX11_pop Ω x1) with hq_24 | ⟨r_24, hq_24⟩
              · exact absurd hf (by rw [fX11_does, if_neg qc_1, if_neg qc_3, if_neg qc_8, if_neg qc_13, if_neg qc_18, if_pos qc_23, ob_n hq_24]; exact nofun)
              refine x_ret (rest := []) (st2 := [_]) (pc2 := 126) (cu2 := 0) (su2 := 0) (x_cV C (by assumption) (Nat.le_of_ble_eq_true rfl) kmX11_pop rfl kk_11_281 (tX11_pop hok (by assumption)  hq_24) rfl rfl (Nat.le_of_ble_eq_true rfl) ⟨Nat.le_of_ble_eq_true rfl, Nat.le_of_ble_eq_true rfl⟩ ⟨Nat.le_of_ble_eq_true rfl, Nat.le_of_ble_eq_true rfl⟩ dX11_does_123) rfl rfl rfl rfl ?_
              refine x_istore (pc2 := 128) (lv2 := [(4, _), (0, _), (1, _), (2, _), (3, _)]) C dX11_does_126 (by decide) rfl rfl ?_
              refine x_aload_n (pc2 := 129) C dX11_does_128 1 rfl rfl rfl ?_
              refine x_iload_n (pc2 := 130) C dX11_does_129 2 rfl rfl rfl ?_
              refine x_aload_n (pc2 := 131) C dX11_does_130 1 rfl rfl rfl ?_
              refine x_iload_n (pc2 := 132) C dX11_does_131 3 rfl rfl rfl ?_
              refine x_aload_n (pc2 := 133) C dX11_does_132 1 rfl rfl rfl ?_
              refine x_iload_n (pc2 := 134) C dX11_does_133 2 rfl rfl rfl ?_
              rcases opt_em (fX11_pop r_24.2 x1) with hq_25 | ⟨r_25, hq_25⟩
              · exact absurd hf (by rw [fX11_does, if_neg qc_1, if_neg qc_3, if_neg qc_8, if_neg qc_13, if_neg qc_18, if_pos qc_23, ob_s hq_24, ob_n hq_25]; exact nofun)
              refine x_ret (rest := [_, _, _, _]) (st2 := [_, _, _, _, _]) (pc2 := 137) (cu2 := 0) (su2 := 0) (x_cV C (by assumption) (Nat.le_of_ble_eq_true rfl) kmX11_pop rfl kk_11_281 (tX11_pop hok (by assumption)  hq_25) rfl rfl (Nat.le_of_ble_eq_true rfl) ⟨Nat.le_of_ble_eq_true rfl, Nat.le_of_ble_eq_true rfl⟩ ⟨Nat.le_of_ble_eq_true rfl, Nat.le_of_ble_eq_true rfl⟩ dX11_does_134) rfl rfl rfl rfl ?_
              refine x_iload (pc2 := 139) C dX11_does_137 0 rfl rfl ?_
              rcases opt_em (fX11_reckoned r_25.2 x2 r_25.1 r_24.1) with hq_26 | ⟨r_26, hq_26⟩
              · exact absurd hf (by rw [fX11_does, if_neg qc_1, if_neg qc_3, if_neg qc_8, if_neg qc_13, if_neg qc_18, if_pos qc_23, ob_s hq_24, ob_s hq_25, ob_n hq_26]; exact nofun)
              refine x_ret (rest := [_, _]) (st2 := [_, _, _]) (pc2 := 142) (cu2 := 0) (su2 := 0) (x_cV C (by assumption) (Nat.le_of_ble_eq_true rfl) kmX11_reckoned rfl kk_11_299 (tX11_reckoned hok (by assumption)  hq_26) rfl rfl (Nat.le_of_ble_eq_true rfl) ⟨Nat.le_of_ble_eq_true rfl, Nat.le_of_ble_eq_true rfl⟩ ⟨Nat.le_of_ble_eq_true rfl, Nat.le_of_ble_eq_true rfl⟩ dX11_does_139) rfl rfl rfl rfl ?_
              rcases opt_em (fX11_push r_25.2 x1 r_26) with hq_27 | ⟨r_27, hq_27⟩
              · exact absurd hf (by rw [fX11_does, if_neg qc_1, if_neg qc_3, if_neg qc_8, if_neg qc_13, if_neg qc_18, if_pos qc_23, ob_s hq_24, ob_s hq_25, ob_s hq_26, ob_n hq_27]; exact nofun)
              refine x_ret (rest := []) (st2 := []) (pc2 := 145) (cu2 := 0) (su2 := 0) (x_cV C (by assumption) (Nat.le_of_ble_eq_true rfl) kmX11_push rfl kk_11_267 (tX11_push hok (by assumption)  hq_27) rfl rfl (Nat.le_of_ble_eq_true rfl) ⟨Nat.le_of_ble_eq_true rfl, Nat.le_of_ble_eq_true rfl⟩ ⟨Nat.le_of_ble_eq_true rfl, Nat.le_of_ble_eq_true rfl⟩ dX11_does_142) rfl rfl rfl rfl ?_
              refine x_goto (tgt := 421) C dX11_does_145 (by decide) ?_
              rw [fX11_does, if_neg qc_1, if_neg qc_3, if_neg qc_8, if_neg qc_13, if_neg qc_18, if_pos qc_23, ob_s hq_24, ob_s hq_25, ob_s hq_26, ob_s hq_27] at hf
              obtain rfl := (Option.some.inj hf).symm
              exact x_vreturn C dX11_does_421 rfl (Nat.le_of_ble_eq_true rfl) (Nat.le_of_ble_eq_true rfl) rfl rfl
            · rcases Decidable.em (x2 = 6) with qc_28 | qc_28
              · refine x_tableIn (tgt := 148) C dX11_does_1 (by rw [qc_28]; decide) (by rw [qc_28]; decide) (by rw [qc_28]; rfl) (by decide) ?_
                refine x_aload_n (pc2 := 149) C dX11_does_148 0 rfl rfl rfl ?_
                refine x_iload_n (pc2 := 150) C dX11_does_149 1 rfl rfl rfl ?_
                refine x_aload_n (pc2 := 151) C dX11_does_150 0 rfl rfl rfl ?_
                refine x_getR (f := 1147) (k2 := 2147) (pc2 := 154) C (by assumption) kf_11_149 dX11_does_151 rfl rfl rfl (rti_i rfl) rfl (fun qd_29 => ?_)
                refine x_bipush (pc2 := 156) (v := 16) C dX11_does_154 rfl rfl ?_
                refine x_iload_n (pc2 := 157) C dX11_does_156 1 rfl rfl rfl ?_
                refine x_imul (pc2 := 158) C dX11_does_157 rfl ?_
                refine x_aload_n (pc2 := 159) C dX11_does_158 0 rfl rfl rfl ?_
                refine x_getR (f := 1148) (k2 := 2148) (pc2 := 162) C (by assumption) kf_11_152 dX11_does_159 rfl rfl rfl (rti_i rfl) rfl (fun qd_30 => ?_)
                refine x_iload_n (pc2 := 163) C dX11_does_162 1 rfl rfl rfl ?_
                rcases (Decidable.em (inB x1 5)).symm with qg_31 | qg_31
                · exact absurd hf (by rw [fX11_does, if_neg qc_1, if_neg qc_3, if_neg qc_8, if_neg qc_13, if_neg qc_18, if_neg qc_23, if_pos qc_28, if_neg qg_31]; exact nofun)
                refine x_iald (pc2 := 164) C (by assumption) dX11_does_163 rfl (inB_in qg_31) rfl ?_
                refine x_iadd (pc2 := 165) C dX11_does_164 rfl ?_
                refine x_iconst (pc2 := 166) (v := 1) C dX11_does_165 rfl rfl ?_
                refine x_isub (pc2 := 167) C dX11_does_166 rfl ?_
                rcases (Decidable.em (inB ((((16 : Int32) * x1) + (xI Ω 2148 0 x1.toNatClampNeg)) - (1 : Int32)) 80)).symm with qg_32 | qg_32
                · exact absurd hf (by rw [fX11_does, if_neg qc_1, if_neg qc_3, if_neg qc_8, if_neg qc_13, if_neg qc_18, if_neg qc_23, if_pos qc_28, if_pos qg_31, if_neg qg_32]; exact nofun)
                refine x_iald (pc2 := 168) C (by assumption) dX11_does_167 rfl (inB_in qg_32) rfl ?_
                rcases opt_em (fX11_push Ω x1 (xI Ω 2147 0 ((((16 : Int32) * x1) + (xI Ω 2148 0 x1.toNatClampNeg)) - (1 : Int32)).toNatClampNeg)) with hq_33 | ⟨r_33, hq_33⟩
                · exact absurd hf (by rw [fX11_does, if_neg qc_1, if_neg qc_3, if_neg qc_8, if_neg qc_13, if_neg qc_18, if_neg qc_23, if_pos qc_28, if_pos qg_31, if_pos qg_32, ob_n hq_33]; exact nofun)
                refine x_ret (rest := []) (st2 := []) (pc2 := 171) (cu2 := 0) (su2 := 0) (x_cV C (by assumption) (Nat.le_of_ble_eq_true rfl) kmX11_push rfl kk_11_267 (tX11_push hok (by assumption)  hq_33) rfl rfl (Nat.le_of_ble_eq_true rfl) ⟨Nat.le_of_ble_eq_true rfl, Nat.le_of_ble_eq_true rfl⟩ ⟨Nat.le_of_ble_eq_true rfl, Nat.le_of_ble_eq_true rfl⟩ dX11_does_168) rfl rfl rfl rfl ?_
                refine x_goto (tgt := 421) C dX11_does_171 (by decide) ?_
                rw [fX11_does, if_neg qc_1, if_neg qc_3, if_neg qc_8, if_neg qc_13, if_neg qc_18, if_neg qc_23, if_pos qc_28, if_pos qg_31, if_pos qg_32, ob_s hq_33] at hf
                obtain rfl := (Option.some.inj hf).symm
                exact x_vreturn C dX11_does_421 rfl (Nat.le_of_ble_eq_true rfl) (Nat.le_of_ble_eq_true rfl) rfl rfl
              · rcases Decidable.em (x2 = 7) with qc_34 | qc_34
                · refine x_tableIn (tgt := 174) C dX11_does_1 (by rw [qc_34]; decide) (by rw [qc_34]; decide) (by rw [qc_34]; rfl) (by decide) ?_
                  refine x_aload_n (pc2 := 175) C dX11_does_174 0 rfl rfl rfl ?_
                  refine x_iload_n (pc2 := 176) C dX11_does_175 1 rfl rfl rfl ?_
                  rcases opt_em (fX11_pop Ω x1) with hq_35 | ⟨r_35, hq_35⟩
                  · exact absurd hf (by rw [fX11_does, if_neg qc_1, if_neg qc_3, if_neg qc_8, if_neg qc_13, if_neg qc_18, if_neg qc_23, if_neg qc_28, if_pos qc_34, ob_n hq_35]; exact nofun)
                  refine x_ret (rest := []) (st2 := [_]) (pc2 := 179) (cu2 := 0) (su2 := 0) (x_cV C (by assumption) (Nat.le_of_ble_eq_true rfl) kmX11_pop rfl kk_11_281 (tX11_pop hok (by assumption)  hq_35) rfl rfl (Nat.le_of_ble_eq_true rfl) ⟨Nat.le_of_ble_eq_true rfl, Nat.le_of_ble_eq_true rfl⟩ ⟨Nat.le_of_ble_eq_true rfl, Nat.le_of_ble_eq_true rfl⟩ dX11_does_176) rfl rfl rfl rfl ?_
                  refine x_istore (pc2 := 181) (lv2 := [(4, _), (0, _), (1, _), (2, _), (3, _)]) C dX11_does_179 (by decide) rfl rfl ?_
                  refine x_aload_n (pc2 := 182) C dX11_does_181 1 rfl rfl rfl ?_
                  refine x_iload_n (pc2 := 183) C dX11_does_182 2 rfl rfl rfl ?_
                  rcases opt_em (fX11_pop r_35.2 x1) with hq_36 | ⟨r_36, hq_36⟩
                  · exact absurd hf (by rw [fX11_does, if_neg qc_1, if_neg qc_3, if_neg qc_8, if_neg qc_13, if_neg qc_18, if_neg qc_23, if_neg qc_28, if_pos qc_34, ob_s hq_35, ob_n hq_36]; exact nofun)
                  refine x_ret (rest := []) (st2 := [_]) (pc2 := 186) (cu2 := 0) (su2 := 0) (x_cV C (by assumption) (Nat.le_of_ble_eq_true rfl) kmX11_pop rfl kk_11_281 (tX11_pop hok (by assumption)  hq_36) rfl rfl (Nat.le_of_ble_eq_true rfl) ⟨Nat.le_of_ble_eq_true rfl, Nat.le_of_ble_eq_true rfl⟩ ⟨Nat.le_of_ble_eq_true rfl, Nat.le_of_ble_eq_true rfl⟩ dX11_does_183) rfl rfl rfl rfl ?_
                  refine x_istore (pc2 := 188) (lv2 := [(5, _), (4, _), (0, _), (1, _), (2, _), (3, _)]) C dX11_does_186 (by decide) rfl rfl ?_
                  refine x_aload_n (pc2 := 189) C dX11_does_188 2 rfl rfl rfl ?_
                  refine x_iload_n (pc2 := 190) C dX11_does_189 3 rfl rfl rfl ?_
                  refine x_iload (pc2 := 192) C dX11_does_190 1 rfl rfl ?_
                  rcases opt_em (fX11_push r_36.2 x1 r_35.1) with hq_37 | ⟨r_37, hq_37⟩
                  · exact absurd hf (by rw [fX11_does, if_neg qc_1, if_neg qc_3, if_neg qc_8, if_neg qc_13, if_neg qc_18, if_neg qc_23, if_neg qc_28, if_pos qc_34, ob_s hq_35, ob_s hq_36, ob_n hq_37]; exact nofun)
                  refine x_ret (rest := []) (st2 := []) (pc2 := 195) (cu2 := 0) (su2 := 0) (x_cV C (by assumption) (Nat.le_of_ble_eq_true rfl) kmX11_push rfl kk_11_267 (tX11_push hok (by assumption)  hq_37) rfl rfl (Nat.le_of_ble_eq_true rfl) ⟨Nat.le_of_ble_eq_true rfl, Nat.le_of_ble_eq_true rfl⟩ ⟨Nat.le_of_ble_eq_true rfl, Nat.le_of_ble_eq_true rfl⟩ dX11_does_192) rfl rfl rfl rfl ?_
                  refine x_aload_n (pc2 := 196) C dX11_does_195 2 rfl rfl rfl ?_
                  refine x_iload_n (pc2 := 197) C dX11_does_196 3 rfl rfl rfl ?_
                  refine x_iload (pc2 := 199) C dX11_does_197 0 rfl rfl ?_
                  rcases opt_em (fX11_push r_37 x1 r_36.1) with hq_38 | ⟨r_38, hq_38⟩
                  · exact absurd hf (by rw [fX11_does, if_neg qc_1, if_neg qc_3, if_neg qc_8, if_neg qc_13, if_neg qc_18, if_neg qc_23, if_neg qc_28, if_pos qc_34, ob_s hq_35, ob_s hq_36, ob_s hq_37, ob_n hq_38]; exact nofun)
                  refine x_ret (rest := []) (st2 := []) (pc2 := 202) (cu2 := 0) (su2 := 0) (x_cV C (by assumption) (Nat.le_of_ble_eq_true rfl) kmX11_push rfl kk_11_267 (tX11_push hok (by assumption)  hq_38) rfl rfl (Nat.le_of_ble_eq_true rfl) ⟨Nat.le_of_ble_eq_true rfl, Nat.le_of_ble_eq_true rfl⟩ ⟨Nat.le_of_ble_eq_true rfl, Nat.le_of_ble_eq_true rfl⟩ dX11_does_199) rfl rfl rfl rfl ?_
                  refine x_goto (tgt := 421) C dX11_does_202 (by decide) ?_
                  rw [fX11_does, if_neg qc_1, if_neg qc_3, if_neg qc_8, if_neg qc_13, if_neg qc_18, if_neg qc_23, if_neg qc_28, if_pos qc_34, ob_s hq_35, ob_s hq_36, ob_s hq_37, ob_s hq_38] at hf
                  obtain rfl := (Option.some.inj hf).symm
                  exact x_vreturn C dX11_does_421 rfl (Nat.le_of_ble_eq_true rfl) (Nat.le_of_ble_eq_true rfl) rfl rfl
                · rcases Decidable.em (x2 = 8) with qc_39 | qc_39
                  · refine x_tableIn (tgt := 205) C dX11_does_1 (by rw [qc_39]; decide) (by rw [qc_39]; decide) (by rw [qc_39]; rfl) (by decide) ?_
                    refine x_aload_n (pc2 := 206) C dX11_does_205 0 rfl rfl rfl ?_
                    refine x_iload_n (pc2 := 207) C dX11_does_206 1 rfl rfl rfl ?_
                    rcases opt_em (fX11_pop Ω x1) with hq_40 | ⟨r_40, hq_40⟩
                    · exact absurd hf (by rw [fX11_does, if_neg qc_1, if_neg qc_3, if_neg qc_8, if_neg qc_13, if_neg qc_18, if_neg qc_23, if_neg qc_28, if_neg qc_34, if_pos qc_39, ob_n hq_40]; exact nofun)
                    refine x_ret (rest := []) (st2 := [_]) (pc2 := 210) (cu2 := 0) (su2 := 0) (x_cV C (by assumption) (Nat.le_of_ble_eq_true rfl) kmX11_pop rfl kk_11_281 (tX11_pop hok (by assumption)  hq_40) rfl rfl (Nat.le_of_ble_eq_true rfl) ⟨Nat.le_of_ble_eq_true rfl, Nat.le_of_ble_eq_true rfl⟩ ⟨Nat.le_of_ble_eq_true rfl, Nat.le_of_ble_eq_true rfl⟩ dX11_does_207) rfl rfl rfl rfl ?_
                    refine x_pop (pc2 := 211) C dX11_does_210 rfl rfl ?_
                    refine x_goto (tgt := 421) C dX11_does_211 (by decide) ?_
                    rw [fX11_does, if_neg qc_1, if_neg qc_3, if_neg qc_8, if_neg qc_13, if_neg qc_18, if_neg qc_23, if_neg qc_28, if_neg qc_34, if_pos qc_39, ob_s hq_40] at hf
                    obtain rfl := (Option.some.inj hf).symm
                    exact x_vreturn C dX11_does_421 rfl (Nat.le_of_ble_eq_true rfl) (Nat.le_of_ble_eq_true rfl) rfl rfl
                  · rcases Decidable.em (x2 = 9) with qc_41 | qc_41
                    · refine x_tableIn (tgt := 214) C dX11_does_1 (by rw [qc_41]; decide) (by rw [qc_41]; decide) (by rw [qc_41]; rfl) (by decide) ?_
                      refine x_aload_n (pc2 := 215) C dX11_does_214 0 rfl rfl rfl ?_
                      refine x_iload_n (pc2 := 216) C dX11_does_215 1 rfl rfl rfl ?_
                      refine x_aload_n (pc2 := 217) C dX11_does_216 0 rfl rfl rfl ?_
                      refine x_getR (f := 1101) (k2 := 2101) (pc2 := 220) C (by assumption) kf_11_13 dX11_does_217 rfl rfl rfl (rti_i rfl) rfl (fun qd_42 => ?_)
                      refine x_bipush (pc2 := 222) (v := 48) C dX11_does_220 rfl rfl ?_
                      refine x_iconst (pc2 := 223) (v := 4) C dX11_does_222 rfl rfl ?_
                      refine x_aload_n (pc2 := 224) C dX11_does_223 0 rfl rfl rfl ?_
                      refine x_getR (f := 1140) (k2 := 2140) (pc2 := 227) C (by assumption) kf_11_128 dX11_does_224 rfl rfl rfl (rti_i rfl) rfl (fun qd_43 => ?_)
                      refine x_iload_n (pc2 := 228) C dX11_does_227 1 rfl rfl rfl ?_
                      rcases (Decidable.em (inB x1 5)).symm with qg_44 | qg_44
                      · exact absurd hf (by rw [fX11_does, if_neg qc_1, if_neg qc_3, if_neg qc_8, if_neg qc_13, if_neg qc_18, if_neg qc_23, if_neg qc_28, if_neg qc_34, if_neg qc_39, if_pos qc_41, if_neg qg_44]; exact nofun)
                      refine x_iald (pc2 := 229) C (by assumption) dX11_does_228 rfl (inB_in qg_44) rfl ?_
                      refine x_imul (pc2 := 230) C dX11_does_229 rfl ?_
                      refine x_iadd (pc2 := 231) C dX11_does_230 rfl ?_
                      refine x_iload_n (pc2 := 232) C dX11_does_231 3 rfl rfl rfl ?_
                      refine x_iadd (pc2 := 233) C dX11_does_232 rfl ?_
                      rcases (Decidable.em (inB (((48 : Int32) + ((4 : Int32) * (xI Ω 2140 0 x1.toNatClampNeg))) + x3) 120)).symm with qg_45 | qg_45
                      · exact absurd hf (by rw [fX11_does, if_neg qc_1, if_neg qc_3, if_neg qc_8, if_neg qc_13, if_neg qc_18, if_neg qc_23, if_neg qc_28, if_neg qc_34, if_neg qc_39, if_pos qc_41, if_pos qg_44, if_neg qg_45]; exact nofun)
                      refine x_iald (pc2 := 234) C (by assumption) dX11_does_233 rfl (inB_in qg_45) rfl ?_
                      rcases opt_em (fX11_push Ω x1 (xI Ω 2101 0 (((48 : Int32) + ((4 : Int32) * (xI Ω 2140 0 x1.toNatClampNeg))) + x3).toNatClampNeg)) with hq_46 | ⟨r_46, hq_46⟩
                      · exact absurd hf (by rw [fX11_does, if_neg qc_1, if_neg qc_3, if_neg qc_8, if_neg qc_13, if_neg qc_18, if_neg qc_23, if_neg qc_28, if_neg qc_34, if_neg qc_39, if_pos qc_41, if_pos qg_44, if_pos qg_45, ob_n hq_46]; exact nofun)
                      refine x_ret (rest := []) (st2 := []) (pc2 := 237) (cu2 := 0) (su2 := 0) (x_cV C (by assumption) (Nat.le_of_ble_eq_true rfl) kmX11_push rfl kk_11_267 (tX11_push hok (by assumption)  hq_46) rfl rfl (Nat.le_of_ble_eq_true rfl) ⟨Nat.le_of_ble_eq_true rfl, Nat.le_of_ble_eq_true rfl⟩ ⟨Nat.le_of_ble_eq_true rfl, Nat.le_of_ble_eq_true rfl⟩ dX11_does_234) rfl rfl rfl rfl ?_
                      refine x_goto (tgt := 421) C dX11_does_237 (by decide) ?_
                      rw [fX11_does, if_neg qc_1, if_neg qc_3, if_neg qc_8, if_neg qc_13, if_neg qc_18, if_neg qc_23, if_neg qc_28, if_neg qc_34, if_neg qc_39, if_pos qc_41, if_pos qg_44, if_pos qg_45, ob_s hq_46] at hf
                      obtain rfl := (Option.some.inj hf).symm
                      exact x_vreturn C dX11_does_421 rfl (Nat.le_of_ble_eq_true rfl) (Nat.le_of_ble_eq_true rfl) rfl rfl
                    · rcases Decidable.em (x2 = 10) with qc_47 | qc_47
                      · refine x_tableIn (tgt := 240) C dX11_does_1 (by rw [qc_47]; decide) (by rw [qc_47]; decide) (by rw [qc_47]; rfl) (by decide) ?_
                        refine x_aload_n (pc2 := 241) C dX11_does_240 0 rfl rfl rfl ?_
                        refine x_iload_n (pc2 := 242) C dX11_does_241 1 rfl rfl rfl ?_
                        refine x_iload_n (pc2 := 243) C dX11_does_242 3 rfl rfl rfl ?_
                        rcases opt_em (fX11_writes Ω x1 x3) with hq_48 | ⟨r_48, hq_48⟩
                        · exact absurd hf (by rw [fX11_does, if_neg qc_1, if_neg qc_3, if_neg qc_8, if_neg qc_13, if_neg qc_18, if_neg qc_23, if_neg qc_28, if_neg qc_34, if_neg qc_39, if_neg qc_41, if_pos qc_47, ob_n hq_48]; exact nofun)
                        refine x_ret (rest := []) (st2 := []) (pc2 := 246) (cu2 := 0) (su2 := 0) (x_cV C (by assumption) (Nat.le_of_ble_eq_true rfl) kmX11_writes rfl kk_11_303 (tX11_writes hok (by assumption)  hq_48) rfl rfl (Nat.le_of_ble_eq_true rfl) ⟨Nat.le_of_ble_eq_true rfl, Nat.le_of_ble_eq_true rfl⟩ ⟨Nat.le_of_ble_eq_true rfl, Nat.le_of_ble_eq_true rfl⟩ dX11_does_243) rfl rfl rfl rfl ?_
                        refine x_goto (tgt := 421) C dX11_does_246 (by decide) ?_
                        rw [fX11_does, if_neg qc_1, if_neg qc_3, if_neg qc_8, if_neg qc_13, if_neg qc_18, if_neg qc_23, if_neg qc_28, if_neg qc_34, if_neg qc_39, if_neg qc_41, if_pos qc_47, ob_s hq_48] at hf
                        obtain rfl := (Option.some.inj hf).symm
                        exact x_vreturn C dX11_does_421 rfl (Nat.le_of_ble_eq_true rfl) (Nat.le_of_ble_eq_true rfl) rfl rfl
                      · rcases Decidable.em (x2 = 11) with qc_49 | qc_49
                        · refine x_tableIn (tgt := 249) C dX11_does_1 (by rw [qc_49]; decide) (by rw [qc_49]; decide) (by rw [qc_49]; rfl) (by decide) ?_
                          refine x_aload_n (pc2 := 250) C dX11_does_249 0 rfl rfl rfl ?_
                          refine x_getR (f := 1146) (k2 := 2146) (pc2 := 253) C (by assumption) kf_11_146 dX11_does_250 rfl rfl rfl (rti_i rfl) rfl (fun qd_50 => ?_)
                          refine x_iload_n (pc2 := 254) C dX11_does_253 1 rfl rfl rfl ?_
                          refine x_iload_n (pc2 := 255) C dX11_does_254 3 rfl rfl rfl ?_
                          rcases (Decidable.em (inB x1 5)).symm with qg_51 | qg_51
                          · exact absurd hf (by rw [fX11_does, if_neg qc_1, if_neg qc_3, if_neg qc_8, if_neg qc_13, if_neg qc_18, if_neg qc_23, if_neg qc_28, if_neg qc_34, if_neg qc_39, if_neg qc_41, if_neg qc_47, if_pos qc_49, if_neg qg_51]; exact nofun)
                          refine x_iast (pc2 := 256) C (by assumption) dX11_does_255 rfl (inB_in qg_51) rfl ?_
                          obtain ⟨Ω_52, hw_52⟩ : ∃ z, z = uI Ω 2146 0 x1.toNatClampNeg x3 := ⟨_, rfl⟩
                          refine x_om hw_52 ?_
                          refine x_goto (tgt := 421) C dX11_does_256 (by decide) ?_
                          rw [fX11_does, if_neg qc_1, if_neg qc_3, if_neg qc_8, if_neg qc_13, if_neg qc_18, if_neg qc_23, if_neg qc_28, if_neg qc_34, if_neg qc_39, if_neg qc_41, if_neg qc_47, if_pos qc_49, if_pos qg_51, wl_eq hw_52] at hf
                          obtain rfl := (Option.some.inj hf).symm
                          exact x_vreturn C dX11_does_421 rfl (Nat.le_of_ble_eq_true rfl) (Nat.le_of_ble_eq_true rfl) rfl rfl
                        · rcases Decidable.em (x2 = 12) with qc_53 | qc_53
                          · refine x_tableIn (tgt := 259) C dX11_does_1 (by rw [qc_53]; decide) (by rw [qc_53]; decide) (by rw [qc_53]; rfl) (by decide) ?_
                            refine x_aload_n (pc2 := 260) C dX11_does_259 0 rfl rfl rfl ?_
                            refine x_getR (f := 1146) (k2 := 2146) (pc2 := 263) C (by assumption) kf_11_146 dX11_does_260 rfl rfl rfl (rti_i rfl) rfl (fun qd_54 => ?_)
                            refine x_iload_n (pc2 := 264) C dX11_does_263 1 rfl rfl rfl ?_
                            refine x_aload_n (pc2 := 265) C dX11_does_264 0 rfl rfl rfl ?_
                            refine x_iload_n (pc2 := 266) C dX11_does_265 1 rfl rfl rfl ?_
                            rcases opt_em (fX11_pop Ω x1) with hq_55 | ⟨r_55, hq_55⟩
                            · exact absurd hf (by rw [fX11_does, if_neg qc_1, if_neg qc_3, if_neg qc_8, if_neg qc_13, if_neg qc_18, if_neg qc_23, if_neg qc_28, if_neg qc_34, if_neg qc_39, if_neg qc_41, if_neg qc_47, if_neg qc_49, if_pos qc_53, ob_n hq_55]; exact nofun)
                            refine x_ret (rest := [_, _]) (st2 := [_, _, _]) (pc2 := 269) (cu2 := 0) (su2 := 0) (x_cV C (by assumption) (Nat.le_of_ble_eq_true rfl) kmX11_pop rfl kk_11_281 (tX11_pop hok (by assumption)  hq_55) rfl rfl (Nat.le_of_ble_eq_true rfl) ⟨Nat.le_of_ble_eq_true rfl, Nat.le_of_ble_eq_true rfl⟩ ⟨Nat.le_of_ble_eq_true rfl, Nat.le_of_ble_eq_true rfl⟩ dX11_does_266) rfl rfl rfl rfl ?_
                            rcases opt_em ((if r_55.1 = 0 then (some x3) else (if inB x1 5 then (some (xI r_55.2 2146 0 x1.toNatClampNeg)) else none)) : Option (Int32)) with hq_56 | ⟨j_56, hq_56⟩
                            · exact absurd hf (by rw [fX11_does, if_neg qc_1, if_neg qc_3, if_neg qc_8, if_neg qc_13, if_neg qc_18, if_neg qc_23, if_neg qc_28, if_neg qc_34, if_neg qc_39, if_neg qc_41, if_neg qc_47, if_neg qc_49, if_pos qc_53, ob_s hq_55, ob_n hq_56]; exact nofun)
                            suffices hj_56 : XW G B 6 282 [] [.int (j_56), .int (x1), .ref (ad G 2146 (0))] r_55.2 0 0 by
                              refine x_if_ne (tgt := 276) (pc2 := 272) C dX11_does_269 (by decide) rfl (fun qc_57 => ?_) (fun qc_57 => ?_)
                              · refine x_aload_n (pc2 := 277) C dX11_does_276 0 rfl rfl rfl ?_
                                refine x_getR (f := 1146) (k2 := 2146) (pc2 := 280) C (by assumption) kf_11_146 dX11_does_277 rfl rfl rfl (rti_i rfl) rfl (fun qd_58 => ?_)
                                refine x_iload_n (pc2 := 281) C dX11_does_280 1 rfl rfl rfl ?_
                                rcases (Decidable.em (inB x1 5)).symm with qg_59 | qg_59
                                · exact absurd hq_56 (by rw [if_neg qc_57, if_neg qg_59]; exact nofun)
                                refine x_iald (pc2 := 282) C (by assumption) dX11_does_281 rfl (inB_in qg_59) rfl ?_
                                rw [if_neg qc_57, if_pos qg_59] at hq_56
                                obtain rfl := (Option.some.inj hq_56).symm
                                exact x_sub (lv2 := []) C [] rfl hj_56
                              · refine x_iload_n (pc2 := 273) C dX11_does_272 3 rfl rfl rfl ?_
                                refine x_goto (tgt := 282) C dX11_does_273 (by decide) ?_
                                rw [if_pos qc_57] at hq_56
                                obtain rfl := (Option.some.inj hq_56).symm
                                exact x_sub (lv2 := []) C [] rfl hj_56
                            rcases (Decidable.em (inB x1 5)).symm with qg_60 | qg_60
                            · exact absurd hf (by rw [fX11_does, if_neg qc_1, if_neg qc_3, if_neg qc_8, if_neg qc_13, if_neg qc_18, if_neg qc_23, if_neg qc_28, if_neg qc_34, if_neg qc_39, if_neg qc_41, if_neg qc_47, if_neg qc_49, if_pos qc_53, ob_s hq_55, ob_s hq_56, if_neg qg_60]; exact nofun)
                            refine x_iast (pc2 := 283) C (by assumption) dX11_does_282 rfl (inB_in qg_60) rfl ?_
                            obtain ⟨Ω_61, hw_61⟩ : ∃ z, z = uI r_55.2 2146 0 x1.toNatClampNeg j_56 := ⟨_, rfl⟩
                            refine x_om hw_61 ?_
                            refine x_goto (tgt := 421) C dX11_does_283 (by decide) ?_
                            rw [fX11_does, if_neg qc_1, if_neg qc_3, if_neg qc_8, if_neg qc_13, if_neg qc_18, if_neg qc_23, if_neg qc_28, if_neg qc_34, if_neg qc_39, if_neg qc_41, if_neg qc_47, if_neg qc_49, if_pos qc_53, ob_s hq_55, ob_s hq_56, if_pos qg_60, wl_eq hw_61] at hf
                            obtain rfl := (Option.some.inj hf).symm
                            exact x_vreturn C dX11_does_421 rfl (Nat.le_of_ble_eq_true rfl) (Nat.le_of_ble_eq_true rfl) rfl rfl
                          · rcases Decidable.em (x2 = 13) with qc_62 | qc_62
                            · refine x_tableIn (tgt := 286) C dX11_does_1 (by rw [qc_62]; decide) (by rw [qc_62]; decide) (by rw [qc_62]; rfl) (by decide) ?_
                              refine x_aload_n (pc2 := 287) C dX11_does_286 0 rfl rfl rfl ?_
                              refine x_iload_n (pc2 := 288) C dX11_does_287 1 rfl rfl rfl ?_
                              refine x_aload_n (pc2 := 289) C dX11_does_288 0 rfl rfl rfl ?_
                              refine x_getR (f := 1141) (k2 := 2141) (pc2 := 292) C (by assumption) kf_11_131 dX11_does_289 rfl rfl rfl (rti_i rfl) rfl (fun qd_63 => ?_)
                              refine x_iload_n (pc2 := 293) C dX11_does_292 1 rfl rfl rfl ?_
                              rcases (Decidable.em (inB x1 5)).symm with qg_64 | qg_64
                              · exact absurd hf (by rw [fX11_does, if_neg qc_1, if_neg qc_3, if_neg qc_8, if_neg qc_13, if_neg qc_18, if_neg qc_23, if_neg qc_28, if_neg qc_34, if_neg qc_39, if_neg qc_41, if_neg qc_47, if_neg qc_49, if_neg qc_53, if_pos qc_62, if_neg qg_64]; exact nofun)
                              refine x_iald (pc2 := 294) C (by assumption) dX11_does_293 rfl (inB_in qg_64) rfl ?_
                              rcases opt_em (fX11_push Ω x1 (xI Ω 2141 0 x1.toNatClampNeg)) with hq_65 | ⟨r_65, hq_65⟩
                              · exact absurd hf (by rw [fX11_does, if_neg qc_1, if_neg qc_3, if_neg qc_8, if_neg qc_13, if_neg qc_18, if_neg qc_23, if_neg qc_28, if_neg qc_34, if_neg qc_39, if_neg qc_41, if_neg qc_47, if_neg qc_49, if_neg qc_53, if_pos qc_62, if_pos qg_64, ob_n hq_65]; exact nofun)
                              refine x_ret (rest := []) (st2 := []) (pc2 := 297) (cu2 := 0) (su2 := 0) (x_cV C (by assumption) (Nat.le_of_ble_eq_true rfl) kmX11_push rfl kk_11_267 (tX11_push hok (by assumption)  hq_65) rfl rfl (Nat.le_of_ble_eq_true rfl) ⟨Nat.le_of_ble_eq_true rfl, Nat.le_of_ble_eq_true rfl⟩ ⟨Nat.le_of_ble_eq_true rfl, Nat.le_of_ble_eq_true rfl⟩ dX11_does_294) rfl rfl rfl rfl ?_
                              refine x_goto (tgt := 421) C dX11_does_297 (by decide) ?_
                              rw [fX11_does, if_neg qc_1, if_neg qc_3, if_neg qc_8, if_neg qc_13, if_neg qc_18, if_neg qc_23, if_neg qc_28, if_neg qc_34, if_neg qc_39, if_neg qc_41, if_neg qc_47, if_neg qc_49, if_neg qc_53, if_pos qc_62, if_pos qg_64, ob_s hq_65] at hf
                              obtain rfl := (Option.some.inj hf).symm
                              exact x_vreturn C dX11_does_421 rfl (Nat.le_of_ble_eq_true rfl) (Nat.le_of_ble_eq_true rfl) rfl rfl
                            · rcases Decidable.em (x2 = 14) with qc_66 | qc_66
                              · refine x_tableIn (tgt := 300) C dX11_does_1 (by rw [qc_66]; decide) (by rw [qc_66]; decide) (by rw [qc_66]; rfl) (by decide) ?_
                                refine x_aload_n (pc2 := 301) C dX11_does_300 0 rfl rfl rfl ?_
                                refine x_iload_n (pc2 := 302) C dX11_does_301 1 rfl rfl rfl ?_
                                refine x_aload_n (pc2 := 303) C dX11_does_302 0 rfl rfl rfl ?_
                                refine x_getR (f := 1142) (k2 := 2142) (pc2 := 306) C (by assumption) kf_11_134 dX11_does_303 rfl rfl rfl (rti_i rfl) rfl (fun qd_67 => ?_)
                                refine x_iload_n (pc2 := 307) C dX11_does_306 1 rfl rfl rfl ?_
                                rcases (Decidable.em (inB x1 5)).symm with qg_68 | qg_68
                                · exact absurd hf (by rw [fX11_does, if_neg qc_1, if_neg qc_3, if_neg qc_8, if_neg qc_13, if_neg qc_18, if_neg qc_23, if_neg qc_28, if_neg qc_34, if_neg qc_39, if_neg qc_41, if_neg qc_47, if_neg qc_49, if_neg qc_53, if_neg qc_62, if_pos qc_66, if_neg qg_68]; exact nofun)
                                refine x_iald (pc2 := 308) C (by assumption) dX11_does_307 rfl (inB_in qg_68) rfl ?_
                                rcases opt_em (fX11_push Ω x1 (xI Ω 2142 0 x1.toNatClampNeg)) with hq_69 | ⟨r_69, hq_69⟩
                                · exact absurd hf (by rw [fX11_does, if_neg qc_1, if_neg qc_3, if_neg qc_8, if_neg qc_13, if_neg qc_18, if_neg qc_23, if_neg qc_28, if_neg qc_34, if_neg qc_39, if_neg qc_41, if_neg qc_47, if_neg qc_49, if_neg qc_53, if_neg qc_62, if_pos qc_66, if_pos qg_68, ob_n hq_69]; exact nofun)
                                refine x_ret (rest := []) (st2 := []) (pc2 := 311) (cu2 := 0) (su2 := 0) (x_cV C (by assumption) (Nat.le_of_ble_eq_true rfl) kmX11_push rfl kk_11_267 (tX11_push hok (by assumption)  hq_69) rfl rfl (Nat.le_of_ble_eq_true rfl) ⟨Nat.le_of_ble_eq_true rfl, Nat.le_of_ble_eq_true rfl⟩ ⟨Nat.le_of_ble_eq_true rfl, Nat.le_of_ble_eq_true rfl⟩ dX11_does_308) rfl rfl rfl rfl ?_
                                refine x_goto (tgt := 421) C dX11_does_311 (by decide) ?_
                                rw [fX11_does, if_neg qc_1, if_neg qc_3, if_neg qc_8, if_neg qc_13, if_neg qc_18, if_neg qc_23, if_neg qc_28, if_neg qc_34, if_neg qc_39, if_neg qc_41, if_neg qc_47, if_neg qc_49, if_neg qc_53, if_neg qc_62, if_pos qc_66, if_pos qg_68, ob_s hq_69] at hf
                                obtain rfl := (Option.some.inj hf).symm
                                exact x_vreturn C dX11_does_421 rfl (Nat.le_of_ble_eq_true rfl) (Nat.le_of_ble_eq_true rfl) rfl rfl
                              · rcases Decidable.em (x2 = 15) with qc_70 | qc_70
                                · refine x_tableIn (tgt := 314) C dX11_does_1 (by rw [qc_70]; decide) (by rw [qc_70]; decide) (by rw [qc_70]; rfl) (by decide) ?_
                                  refine x_aload_n (pc2 := 315) C dX11_does_314 0 rfl rfl rfl ?_
                                  refine x_iload_n (pc2 := 316) C dX11_does_315 1 rfl rfl rfl ?_
                                  refine x_aload_n (pc2 := 317) C dX11_does_316 0 rfl rfl rfl ?_
                                  refine x_getR (f := 1143) (k2 := 2143) (pc2 := 320) C (by assumption) kf_11_137 dX11_does_317 rfl rfl rfl (rti_i rfl) rfl (fun qd_71 => ?_)
                                  refine x_iload_n (pc2 := 321) C dX11_does_320 1 rfl rfl rfl ?_
                                  rcases (Decidable.em (inB x1 5)).symm with qg_72 | qg_72
                                  · exact absurd hf (by rw [fX11_does, if_neg qc_1, if_neg qc_3, if_neg qc_8, if_neg qc_13, if_neg qc_18, if_neg qc_23, if_neg qc_28, if_neg qc_34, if_neg qc_39, if_neg qc_41, if_neg qc_47, if_neg qc_49, if_neg qc_53, if_neg qc_62, if_neg qc_66, if_pos qc_70, if_neg qg_72]; exact nofun)
                                  refine x_iald (pc2 := 322) C (by assumption) dX11_does_321 rfl (inB_in qg_72) rfl ?_
                                  rcases opt_em (fX11_push Ω x1 (xI Ω 2143 0 x1.toNatClampNeg)) with hq_73 | ⟨r_73, hq_73⟩
                                  · exact absurd hf (by rw [fX11_does, if_neg qc_1, if_neg qc_3, if_neg qc_8, if_neg qc_13, if_neg qc_18, if_neg qc_23, if_neg qc_28, if_neg qc_34, if_neg qc_39, if_neg qc_41, if_neg qc_47, if_neg qc_49, if_neg qc_53, if_neg qc_62, if_neg qc_66, if_pos qc_70, if_pos qg_72, ob_n hq_73]; exact nofun)
                                  refine x_ret (rest := []) (st2 := []) (pc2 := 325) (cu2 := 0) (su2 := 0) (x_cV C (by assumption) (Nat.le_of_ble_eq_true rfl) kmX11_push rfl kk_11_267 (tX11_push hok (by assumption)  hq_73) rfl rfl (Nat.le_of_ble_eq_true rfl) ⟨Nat.le_of_ble_eq_true rfl, Nat.le_of_ble_eq_true rfl⟩ ⟨Nat.le_of_ble_eq_true rfl, Nat.le_of_ble_eq_true rfl⟩ dX11_does_322) rfl rfl rfl rfl ?_
                                  refine x_goto (tgt := 421) C dX11_does_325 (by decide) ?_
                                  rw [fX11_does, if_neg qc_1, if_neg qc_3, if_neg qc_8, if_neg qc_13, if_neg qc_18, if_neg qc_23, if_neg qc_28, if_neg qc_34, if_neg qc_39, if_neg qc_41, if_neg qc_47, if_neg qc_49, if_neg qc_53, if_neg qc_62, if_neg qc_66, if_pos qc_70, if_pos qg_72, ob_s hq_73] at hf
                                  obtain rfl := (Option.some.inj hf).symm
                                  exact x_vreturn C dX11_does_421 rfl (Nat.le_of_ble_eq_true rfl) (Nat.le_of_ble_eq_true rfl) rfl rfl
                                · rcases Decidable.em (x2 = 16) with qc_74 | qc_74
                                  · refine x_tableIn (tgt := 328) C dX11_does_1 (by rw [qc_74]; decide) (by rw [qc_74]; decide) (by rw [qc_74]; rfl) (by decide) ?_
                                    refine x_aload_n (pc2 := 329) C dX11_does_328 0 rfl rfl rfl ?_
                                    refine x_iload_n (pc2 := 330) C dX11_does_329 1 rfl rfl rfl ?_
                                    refine x_aload_n (pc2 := 331) C dX11_does_330 0 rfl rfl rfl ?_
                                    refine x_getR (f := 1101) (k2 := 2101) (pc2 := 334) C (by assumption) kf_11_13 dX11_does_331 rfl rfl rfl (rti_i rfl) rfl (fun qd_75 => ?_)
                                    refine x_aload_n (pc2 := 335) C dX11_does_334 0 rfl rfl rfl ?_
                                    refine x_iload_n (pc2 := 336) C dX11_does_335 1 rfl rfl rfl ?_
                                    rcases opt_em (fX11_pop Ω x1) with hq_76 | ⟨r_76, hq_76⟩
                                    · exact absurd hf (by rw [fX11_does, if_neg qc_1, if_neg qc_3, if_neg qc_8, if_neg qc_13, if_neg qc_18, if_neg qc_23, if_neg qc_28, if_neg qc_34, if_neg qc_39, if_neg qc_41, if_neg qc_47, if_neg qc_49, if_neg qc_53, if_neg qc_62, if_neg qc_66, if_neg qc_70, if_pos qc_74, ob_n hq_76]; exact nofun)
                                    refine x_ret (rest := [_, _, _]) (st2 := [_, _, _, _]) (pc2 := 339) (cu2 := 0) (su2 := 0) (x_cV C (by assumption) (Nat.le_of_ble_eq_true rfl) kmX11_pop rfl kk_11_281 (tX11_pop hok (by assumption)  hq_76) rfl rfl (Nat.le_of_ble_eq_true rfl) ⟨Nat.le_of_ble_eq_true rfl, Nat.le_of_ble_eq_true rfl⟩ ⟨Nat.le_of_ble_eq_true rfl, Nat.le_of_ble_eq_true rfl⟩ dX11_does_336) rfl rfl rfl rfl ?_
                                    refine x_bipush (pc2 := 341) (v := 16) C dX11_does_339 rfl rfl ?_
                                    refine x_irem (pc2 := 342) C dX11_does_341 (by decide +kernel) rfl ?_
                                    rcases (Decidable.em (inB (r_76.1 - r_76.1 / (16 : Int32) * (16 : Int32)) 120)).symm with qg_77 | qg_77
                                    · exact absurd hf (by rw [fX11_does, if_neg qc_1, if_neg qc_3, if_neg qc_8, if_neg qc_13, if_neg qc_18, if_neg qc_23, if_neg qc_28, if_neg qc_34, if_neg qc_39, if_neg qc_41, if_neg qc_47, if_neg qc_49, if_neg qc_53, if_neg qc_62, if_neg qc_66, if_neg qc_70, if_pos qc_74, ob_s hq_76, if_neg qg_77]; exact nofun)
                                    refine x_iald (pc2 := 343) C (by assumption) dX11_does_342 rfl (inB_in qg_77) rfl ?_
                                    refine x_ldcw (pc2 := 346) C kc_11_271 dX11_does_343 rfl ?_
                                    refine x_irem (pc2 := 347) C dX11_does_346 (by decide +kernel) rfl ?_
                                    rcases opt_em (fX11_push r_76.2 x1 ((xI r_76.2 2101 0 (r_76.1 - r_76.1 / (16 : Int32) * (16 : Int32)).toNatClampNeg) - (xI r_76.2 2101 0 (r_76.1 - r_76.1 / (16 : Int32) * (16 : Int32)).toNatClampNeg) / (1000000 : Int32) * (1000000 : Int32))) with hq_78 | ⟨r_78, hq_78⟩
                                    · exact absurd hf (by rw [fX11_does, if_neg qc_1, if_neg qc_3, if_neg qc_8, if_neg qc_13, if_neg qc_18, if_neg qc_23, if_neg qc_28, if_neg qc_34, if_neg qc_39, if_neg qc_41, if_neg qc_47, if_neg qc_49, if_neg qc_53, if_neg qc_62, if_neg qc_66, if_neg qc_70, if_pos qc_74, ob_s hq_76, if_pos qg_77, ob_n hq_78]; exact nofun)
                                    refine x_ret (rest := []) (st2 := []) (pc2 := 350) (cu2 := 0) (su2 := 0) (x_cV C (by assumption) (Nat.le_of_ble_eq_true rfl) kmX11_push rfl kk_11_267 (tX11_push hok (by assumption)  hq_78) rfl rfl (Nat.le_of_ble_eq_true rfl) ⟨Nat.le_of_ble_eq_true rfl, Nat.le_of_ble_eq_true rfl⟩ ⟨Nat.le_of_ble_eq_true rfl, Nat.le_of_ble_eq_true rfl⟩ dX11_does_347) rfl rfl rfl rfl ?_
                                    refine x_goto (tgt := 421) C dX11_does_350 (by decide) ?_
                                    rw [fX11_does, if_neg qc_1, if_neg qc_3, if_neg qc_8, if_neg qc_13, if_neg qc_18, if_neg qc_23, if_neg qc_28, if_neg qc_34, if_neg qc_39, if_neg qc_41, if_neg qc_47, if_neg qc_49, if_neg qc_53, if_neg qc_62, if_neg qc_66, if_neg qc_70, if_pos qc_74, ob_s hq_76, if_pos qg_77, ob_s hq_78] at hf
                                    obtain rfl := (Option.some.inj hf).symm
                                    exact x_vreturn C dX11_does_421 rfl (Nat.le_of_ble_eq_true rfl) (Nat.le_of_ble_eq_true rfl) rfl rfl
                                  · rcases Decidable.em (x2 = 17) with qc_79 | qc_79
                                    · refine x_tableIn (tgt := 353) C dX11_does_1 (by rw [qc_79]; decide) (by rw [qc_79]; decide) (by rw [qc_79]; rfl) (by decide) ?_
                                      refine x_aload_n (pc2 := 354) C dX11_does_353 0 rfl rfl rfl ?_
                                      refine x_iload_n (pc2 := 355) C dX11_does_354 1 rfl rfl rfl ?_
                                      refine x_iload_n (pc2 := 356) C dX11_does_355 2 rfl rfl rfl ?_
                                      refine x_iload_n (pc2 := 357) C dX11_does_356 3 rfl rfl rfl ?_
                                      rcases opt_em (fX11_cells Ω x1 x2 x3) with hq_80 | ⟨r_80, hq_80⟩
                                      · exact absurd hf (by rw [fX11_does, if_neg qc_1, if_neg qc_3, if_neg qc_8, if_neg qc_13, if_neg qc_18, if_neg qc_23, if_neg qc_28, if_neg qc_34, if_neg qc_39, if_neg qc_41, if_neg qc_47, if_neg qc_49, if_neg qc_53, if_neg qc_62, if_neg qc_66, if_neg qc_70, if_neg qc_74, if_pos qc_79, ob_n hq_80]; exact nofun)
                                      refine x_ret (rest := []) (st2 := []) (pc2 := 360) (cu2 := 0) (su2 := 0) (x_cV C (by assumption) (Nat.le_of_ble_eq_true rfl) kmX11_cells rfl kk_11_306 (tX11_cells hok (by assumption)  hq_80) rfl rfl (Nat.le_of_ble_eq_true rfl) ⟨Nat.le_of_ble_eq_true rfl, Nat.le_of_ble_eq_true rfl⟩ ⟨Nat.le_of_ble_eq_true rfl, Nat.le_of_ble_eq_true rfl⟩ dX11_does_357) rfl rfl rfl rfl ?_
                                      refine x_goto (tgt := 421) C dX11_does_360 (by decide) ?_
                                      rw [fX11_does, if_neg qc_1, if_neg qc_3, if_neg qc_8, if_neg qc_13, if_neg qc_18, if_neg qc_23, if_neg qc_28, if_neg qc_34, if_neg qc_39, if_neg qc_41, if_neg qc_47, if_neg qc_49, if_neg qc_53, if_neg qc_62, if_neg qc_66, if_neg qc_70, if_neg qc_74, if_pos qc_79, ob_s hq_80] at hf
                                      obtain rfl := (Option.some.inj hf).symm
                                      exact x_vreturn C dX11_does_421 rfl (Nat.le_of_ble_eq_true rfl) (Nat.le_of_ble_eq_true rfl) rfl rfl
                                    · rcases Decidable.em (x2 = 18) with qc_81 | qc_81
                                      · refine x_tableIn (tgt := 353) C dX11_does_1 (by rw [qc_81]; decide) (by rw [qc_81]; decide) (by rw [qc_81]; rfl) (by decide) ?_
                                        refine x_aload_n (pc2 := 354) C dX11_does_353 0 rfl rfl rfl ?_
                                        refine x_iload_n (pc2 := 355) C dX11_does_354 1 rfl rfl rfl ?_
                                        refine x_iload_n (pc2 := 356) C dX11_does_355 2 rfl rfl rfl ?_
                                        refine x_iload_n (pc2 := 357) C dX11_does_356 3 rfl rfl rfl ?_
                                        rcases opt_em (fX11_cells Ω x1 x2 x3) with hq_82 | ⟨r_82, hq_82⟩
                                        · exact absurd hf (by rw [fX11_does, if_neg qc_1, if_neg qc_3, if_neg qc_8, if_neg qc_13, if_neg qc_18, if_neg qc_23, if_neg qc_28, if_neg qc_34, if_neg qc_39, if_neg qc_41, if_neg qc_47, if_neg qc_49, if_neg qc_53, if_neg qc_62, if_neg qc_66, if_neg qc_70, if_neg qc_74, if_neg qc_79, if_pos qc_81, ob_n hq_82]; exact nofun)
                                        refine x_ret (rest := []) (st2 := []) (pc2 := 360) (cu2 := 0) (su2 := 0) (x_cV C (by assumption) (Nat.le_of_ble_eq_true rfl) kmX11_cells rfl kk_11_306 (tX11_cells hok (by assumption)  hq_82) rfl rfl (Nat.le_of_ble_eq_true rfl) ⟨Nat.le_of_ble_eq_true rfl, Nat.le_of_ble_eq_true rfl⟩ ⟨Nat.le_of_ble_eq_true rfl, Nat.le_of_ble_eq_true rfl⟩ dX11_does_357) rfl rfl rfl rfl ?_
                                        refine x_goto (tgt := 421) C dX11_does_360 (by decide) ?_
                                        rw [fX11_does, if_neg qc_1, if_neg qc_3, if_neg qc_8, if_neg qc_13, if_neg qc_18, if_neg qc_23, if_neg qc_28, if_neg qc_34, if_neg qc_39, if_neg qc_41, if_neg qc_47, if_neg qc_49, if_neg qc_53, if_neg qc_62, if_neg qc_66, if_neg qc_70, if_neg qc_74, if_neg qc_79, if_pos qc_81, ob_s hq_82] at hf
                                        obtain rfl := (Option.some.inj hf).symm
                                        exact x_vreturn C dX11_does_421 rfl (Nat.le_of_ble_eq_true rfl) (Nat.le_of_ble_eq_true rfl) rfl rfl
                                      · rcases Decidable.em (x2 = 19) with qc_83 | qc_83
                                        · refine x_tableIn (tgt := 363) C dX11_does_1 (by rw [qc_83]; decide) (by rw [qc_83]; decide) (by rw [qc_83]; rfl) (by decide) ?_
                                          refine x_aload_n (pc2 := 364) C dX11_does_363 0 rfl rfl rfl ?_
                                          refine x_iload_n (pc2 := 365) C dX11_does_364 1 rfl rfl rfl ?_
                                          rcases opt_em (fX11_calls Ω x1) with hq_84 | ⟨r_84, hq_84⟩
                                          · exact absurd hf (by rw [fX11_does, if_neg qc_1, if_neg qc_3, if_neg qc_8, if_neg qc_13, if_neg qc_18, if_neg qc_23, if_neg qc_28, if_neg qc_34, if_neg qc_39, if_neg qc_41, if_neg qc_47, if_neg qc_49, if_neg qc_53, if_neg qc_62, if_neg qc_66, if_neg qc_70, if_neg qc_74, if_neg qc_79, if_neg qc_81, if_pos qc_83, ob_n hq_84]; exact nofun)
                                          refine x_ret (rest := []) (st2 := []) (pc2 := 368) (cu2 := 0) (su2 := 0) (x_cV C (by assumption) (Nat.le_of_ble_eq_true rfl) kmX11_calls rfl kk_11_309 (tX11_calls hok (by assumption)  hq_84) rfl rfl (Nat.le_of_ble_eq_true rfl) ⟨Nat.le_of_ble_eq_true rfl, Nat.le_of_ble_eq_true rfl⟩ ⟨Nat.le_of_ble_eq_true rfl, Nat.le_of_ble_eq_true rfl⟩ dX11_does_365) rfl rfl rfl rfl ?_
                                          refine x_goto (tgt := 421) C dX11_does_368 (by decide) ?_
                                          rw [fX11_does, if_neg qc_1, if_neg qc_3, if_neg qc_8, if_neg qc_13, if_neg qc_18, if_neg qc_23, if_neg qc_28, if_neg qc_34, if_neg qc_39, if_neg qc_41, if_neg qc_47, if_neg qc_49, if_neg qc_53, if_neg qc_62, if_neg qc_66, if_neg qc_70, if_neg qc_74, if_neg qc_79, if_neg qc_81, if_pos qc_83, ob_s hq_84] at hf
                                          obtain rfl := (Option.some.inj hf).symm
                                          exact x_vreturn C dX11_does_421 rfl (Nat.le_of_ble_eq_true rfl) (Nat.le_of_ble_eq_true rfl) rfl rfl
                                        · rcases Decidable.em (x2 = 20) with qc_85 | qc_85
                                          · refine x_tableIn (tgt := 371) C dX11_does_1 (by rw [qc_85]; decide) (by rw [qc_85]; decide) (by rw [qc_85]; rfl) (by decide) ?_
                                            refine x_aload_n (pc2 := 372) C dX11_does_371 0 rfl rfl rfl ?_
                                            refine x_iload_n (pc2 := 373) C dX11_does_372 1 rfl rfl rfl ?_
                                            rcases opt_em (fX11_logs Ω x1) with hq_86 | ⟨r_86, hq_86⟩
                                            · exact absurd hf (by rw [fX11_does, if_neg qc_1, if_neg qc_3, if_neg qc_8, if_neg qc_13, if_neg qc_18, if_neg qc_23, if_neg qc_28, if_neg qc_34, if_neg qc_39, if_neg qc_41, if_neg qc_47, if_neg qc_49, if_neg qc_53, if_neg qc_62, if_neg qc_66, if_neg qc_70, if_neg qc_74, if_neg qc_79, if_neg qc_81, if_neg qc_83, if_pos qc_85, ob_n hq_86]; exact nofun)
                                            refine x_ret (rest := []) (st2 := []) (pc2 := 376) (cu2 := 0) (su2 := 0) (x_cV C (by assumption) (Nat.le_of_ble_eq_true rfl) kmX11_logs rfl kk_11_312 (tX11_logs hok (by assumption)  hq_86) rfl rfl (Nat.le_of_ble_eq_true rfl) ⟨Nat.le_of_ble_eq_true rfl, Nat.le_of_ble_eq_true rfl⟩ ⟨Nat.le_of_ble_eq_true rfl, Nat.le_of_ble_eq_true rfl⟩ dX11_does_373) rfl rfl rfl rfl ?_
                                            refine x_goto (tgt := 421) C dX11_does_376 (by decide) ?_
                                            rw [fX11_does, if_neg qc_1, if_neg qc_3, if_neg qc_8, if_neg qc_13, if_neg qc_18, if_neg qc_23, if_neg qc_28, if_neg qc_34, if_neg qc_39, if_neg qc_41, if_neg qc_47, if_neg qc_49, if_neg qc_53, if_neg qc_62, if_neg qc_66, if_neg qc_70, if_neg qc_74, if_neg qc_79, if_neg qc_81, if_neg qc_83, if_pos qc_85, ob_s hq_86] at hf
                                            obtain rfl := (Option.some.inj hf).symm
                                            exact x_vreturn C dX11_does_421 rfl (Nat.le_of_ble_eq_true rfl) (Nat.le_of_ble_eq_true rfl) rfl rfl
                                          · rcases Decidable.em (x2 = 21) with qc_87 | qc_87
                                            · refine x_tableIn (tgt := 379) C dX11_does_1 (by rw [qc_87]; decide) (by rw [qc_87]; decide) (by rw [qc_87]; rfl) (by decide) ?_
                                              refine x_aload_n (pc2 := 380) C dX11_does_379 0 rfl rfl rfl ?_
                                              refine x_iload_n (pc2 := 381) C dX11_does_380 1 rfl rfl rfl ?_
                                              refine x_iload_n (pc2 := 382) C dX11_does_381 3 rfl rfl rfl ?_
                                              rcases opt_em (fX11_makes Ω x1 x3) with hq_88 | ⟨r_88, hq_88⟩
                                              · exact absurd hf (by rw [fX11_does, if_neg qc_1, if_neg qc_3, if_neg qc_8, if_neg qc_13, if_neg qc_18, if_neg qc_23, if_neg qc_28, if_neg qc_34, if_neg qc_39, if_neg qc_41, if_neg qc_47, if_neg qc_49, if_neg qc_53, if_neg qc_62, if_neg qc_66, if_neg qc_70, if_neg qc_74, if_neg qc_79, if_neg qc_81, if_neg qc_83, if_neg qc_85, if_pos qc_87, ob_n hq_88]; exact nofun)
                                              refine x_ret (rest := []) (st2 := []) (pc2 := 385) (cu2 := 0) (su2 := 0) (x_cV C (by assumption) (Nat.le_of_ble_eq_true rfl) kmX11_makes rfl kk_11_315 (tX11_makes hok (by assumption)  hq_88) rfl rfl (Nat.le_of_ble_eq_true rfl) ⟨Nat.le_of_ble_eq_true rfl, Nat.le_of_ble_eq_true rfl⟩ ⟨Nat.le_of_ble_eq_true rfl, Nat.le_of_ble_eq_true rfl⟩ dX11_does_382) rfl rfl rfl rfl ?_
                                              refine x_goto (tgt := 421) C dX11_does_385 (by decide) ?_
                                              rw [fX11_does, if_neg qc_1, if_neg qc_3, if_neg qc_8, if_neg qc_13, if_neg qc_18, if_neg qc_23, if_neg qc_28, if_neg qc_34, if_neg qc_39, if_neg qc_41, if_neg qc_47, if_neg qc_49, if_neg qc_53, if_neg qc_62, if_neg qc_66, if_neg qc_70, if_neg qc_74, if_neg qc_79, if_neg qc_81, if_neg qc_83, if_neg qc_85, if_pos qc_87, ob_s hq_88] at hf
                                              obtain rfl := (Option.some.inj hf).symm
                                              exact x_vreturn C dX11_does_421 rfl (Nat.le_of_ble_eq_true rfl) (Nat.le_of_ble_eq_true rfl) rfl rfl
                                            · rcases Decidable.em (x2 = 22) with qc_89 | qc_89
                                              · refine x_tableIn (tgt := 388) C dX11_does_1 (by rw [qc_89]; decide) (by rw [qc_89]; decide) (by rw [qc_89]; rfl) (by decide) ?_
                                                refine x_aload_n (pc2 := 389) C dX11_does_388 0 rfl rfl rfl ?_
                                                refine x_iload_n (pc2 := 390) C dX11_does_389 1 rfl rfl rfl ?_
                                                rcases opt_em (fX11_ends Ω x1) with hq_90 | ⟨r_90, hq_90⟩
                                                · exact absurd hf (by rw [fX11_does, if_neg qc_1, if_neg qc_3, if_neg qc_8, if_neg qc_13, if_neg qc_18, if_neg qc_23, if_neg qc_28, if_neg qc_34, if_neg qc_39, if_neg qc_41, if_neg qc_47, if_neg qc_49, if_neg qc_53, if_neg qc_62, if_neg qc_66, if_neg qc_70, if_neg qc_74, if_neg qc_79, if_neg qc_81, if_neg qc_83, if_neg qc_85, if_neg qc_87, if_pos qc_89, ob_n hq_90]; exact nofun)
                                                refine x_ret (rest := []) (st2 := []) (pc2 := 393) (cu2 := 0) (su2 := 0) (x_cV C (by assumption) (Nat.le_of_ble_eq_true rfl) kmX11_ends rfl kk_11_318 (tX11_ends hok (by assumption)  hq_90) rfl rfl (Nat.le_of_ble_eq_true rfl) ⟨Nat.le_of_ble_eq_true rfl, Nat.le_of_ble_eq_true rfl⟩ ⟨Nat.le_of_ble_eq_true rfl, Nat.le_of_ble_eq_true rfl⟩ dX11_does_390) rfl rfl rfl rfl ?_
                                                refine x_goto (tgt := 421) C dX11_does_393 (by decide) ?_
                                                rw [fX11_does, if_neg qc_1, if_neg qc_3, if_neg qc_8, if_neg qc_13, if_neg qc_18, if_neg qc_23, if_neg qc_28, if_neg qc_34, if_neg qc_39, if_neg qc_41, if_neg qc_47, if_neg qc_49, if_neg qc_53, if_neg qc_62, if_neg qc_66, if_neg qc_70, if_neg qc_74, if_neg qc_79, if_neg qc_81, if_neg qc_83, if_neg qc_85, if_neg qc_87, if_pos qc_89, ob_s hq_90] at hf
                                                obtain rfl := (Option.some.inj hf).symm
                                                exact x_vreturn C dX11_does_421 rfl (Nat.le_of_ble_eq_true rfl) (Nat.le_of_ble_eq_true rfl) rfl rfl
                                              · rcases Decidable.em (x2 = 23) with qc_91 | qc_91
                                                · refine x_tableIn (tgt := 396) C dX11_does_1 (by rw [qc_91]; decide) (by rw [qc_91]; decide) (by rw [qc_91]; rfl) (by decide) ?_
                                                  refine x_aload_n (pc2 := 397) C dX11_does_396 0 rfl rfl rfl ?_
                                                  refine x_iconst (pc2 := 398) (v := 0) C dX11_does_397 rfl rfl ?_
                                                  refine x_aload_n (pc2 := 399) C dX11_does_398 0 rfl rfl rfl ?_
                                                  refine x_getR (f := 1144) (k2 := 2144) (pc2 := 402) C (by assumption) kf_11_140 dX11_does_399 rfl rfl rfl (rti_i rfl) rfl (fun qd_92 => ?_)
                                                  refine x_iload_n (pc2 := 403) C dX11_does_402 1 rfl rfl rfl ?_
                                                  rcases (Decidable.em (inB x1 5)).symm with qg_93 | qg_93
                                                  · exact absurd hf (by rw [fX11_does, if_neg qc_1, if_neg qc_3, if_neg qc_8, if_neg qc_13, if_neg qc_18, if_neg qc_23, if_neg qc_28, if_neg qc_34, if_neg qc_39, if_neg qc_41, if_neg qc_47, if_neg qc_49, if_neg qc_53, if_neg qc_62, if_neg qc_66, if_neg qc_70, if_neg qc_74, if_neg qc_79, if_neg qc_81, if_neg qc_83, if_neg qc_85, if_neg qc_87, if_neg qc_89, if_pos qc_91, if_neg qg_93]; exact nofun)
                                                  refine x_iald (pc2 := 404) C (by assumption) dX11_does_403 rfl (inB_in qg_93) rfl ?_
                                                  rcases opt_em (fX11_finish Ω (0 : Int32) (xI Ω 2144 0 x1.toNatClampNeg)) with hq_94 | ⟨r_94, hq_94⟩
                                                  · exact absurd hf (by rw [fX11_does, if_neg qc_1, if_neg qc_3, if_neg qc_8, if_neg qc_13, if_neg qc_18, if_neg qc_23, if_neg qc_28, if_neg qc_34, if_neg qc_39, if_neg qc_41, if_neg qc_47, if_neg qc_49, if_neg qc_53, if_neg qc_62, if_neg qc_66, if_neg qc_70, if_neg qc_74, if_neg qc_79, if_neg qc_81, if_neg qc_83, if_neg qc_85, if_neg qc_87, if_neg qc_89, if_pos qc_91, if_pos qg_93, ob_n hq_94]; exact nofun)
                                                  refine x_ret (rest := []) (st2 := []) (pc2 := 407) (cu2 := 0) (su2 := 0) (x_cV C (by assumption) (Nat.le_of_ble_eq_true rfl) kmX11_finish rfl kk_11_291 (tX11_finish hok (by assumption)  hq_94) rfl rfl (Nat.le_of_ble_eq_true rfl) ⟨Nat.le_of_ble_eq_true rfl, Nat.le_of_ble_eq_true rfl⟩ ⟨Nat.le_of_ble_eq_true rfl, Nat.le_of_ble_eq_true rfl⟩ dX11_does_404) rfl rfl rfl rfl ?_
                                                  refine x_goto (tgt := 421) C dX11_does_407 (by decide) ?_
                                                  rw [fX11_does, if_neg qc_1, if_neg qc_3, if_neg qc_8, if_neg qc_13, if_neg qc_18, if_neg qc_23, if_neg qc_28, if_neg qc_34, if_neg qc_39, if_neg qc_41, if_neg qc_47, if_neg qc_49, if_neg qc_53, if_neg qc_62, if_neg qc_66, if_neg qc_70, if_neg qc_74, if_neg qc_79, if_neg qc_81, if_neg qc_83, if_neg qc_85, if_neg qc_87, if_neg qc_89, if_pos qc_91, if_pos qg_93, ob_s hq_94] at hf
                                                  obtain rfl := (Option.some.inj hf).symm
                                                  exact x_vreturn C dX11_does_421 rfl (Nat.le_of_ble_eq_true rfl) (Nat.le_of_ble_eq_true rfl) rfl rfl
                                                · refine x_tableOut (tgt := 410) C dX11_does_1 (x_tout (fun v9 h8 h9 => by rcases (show v9 = 0 ∨ v9 = 1 ∨ v9 = 2 ∨ v9 = 3 ∨ v9 = 4 ∨ v9 = 5 ∨ v9 = 6 ∨ v9 = 7 ∨ v9 = 8 ∨ v9 = 9 ∨ v9 = 10 ∨ v9 = 11 ∨ v9 = 12 ∨ v9 = 13 ∨ v9 = 14 ∨ v9 = 15 ∨ v9 = 16 ∨ v9 = 17 ∨ v9 = 18 ∨ v9 = 19 ∨ v9 = 20 ∨ v9 = 21 ∨ v9 = 22 ∨ v9 = 23 by omega) with rfl | rfl | rfl | rfl | rfl | rfl | rfl | rfl | rfl | rfl | rfl | rfl | rfl | rfl | rfl | rfl | rfl | rfl | rfl | rfl | rfl | rfl | rfl | rfl <;> assumption)) (by decide) ?_
                                                  refine x_aload_n (pc2 := 411) C dX11_does_410 0 rfl rfl rfl ?_
                                                  refine x_iconst (pc2 := 412) (v := 1) C dX11_does_411 rfl rfl ?_
                                                  refine x_aload_n (pc2 := 413) C dX11_does_412 0 rfl rfl rfl ?_
                                                  refine x_getR (f := 1144) (k2 := 2144) (pc2 := 416) C (by assumption) kf_11_140 dX11_does_413 rfl rfl rfl (rti_i rfl) rfl (fun qd_95 => ?_)
                                                  refine x_iload_n (pc2 := 417) C dX11_does_416 1 rfl rfl rfl ?_
                                                  rcases (Decidable.em (inB x1 5)).symm with qg_96 | qg_96
                                                  · exact absurd hf (by rw [fX11_does, if_neg qc_1, if_neg qc_3, if_neg qc_8, if_neg qc_13, if_neg qc_18, if_neg qc_23, if_neg qc_28, if_neg qc_34, if_neg qc_39, if_neg qc_41, if_neg qc_47, if_neg qc_49, if_neg qc_53, if_neg qc_62, if_neg qc_66, if_neg qc_70, if_neg qc_74, if_neg qc_79, if_neg qc_81, if_neg qc_83, if_neg qc_85, if_neg qc_87, if_neg qc_89, if_neg qc_91, if_neg qg_96]; exact nofun)
                                                  refine x_iald (pc2 := 418) C (by assumption) dX11_does_417 rfl (inB_in qg_96) rfl ?_
                                                  rcases opt_em (fX11_finish Ω (1 : Int32) (xI Ω 2144 0 x1.toNatClampNeg)) with hq_97 | ⟨r_97, hq_97⟩
                                                  · exact absurd hf (by rw [fX11_does, if_neg qc_1, if_neg qc_3, if_neg qc_8, if_neg qc_13, if_neg qc_18, if_neg qc_23, if_neg qc_28, if_neg qc_34, if_neg qc_39, if_neg qc_41, if_neg qc_47, if_neg qc_49, if_neg qc_53, if_neg qc_62, if_neg qc_66, if_neg qc_70, if_neg qc_74, if_neg qc_79, if_neg qc_81, if_neg qc_83, if_neg qc_85, if_neg qc_87, if_neg qc_89, if_neg qc_91, if_pos qg_96, ob_n hq_97]; exact nofun)
                                                  refine x_ret (rest := []) (st2 := []) (pc2 := 421) (cu2 := 0) (su2 := 0) (x_cV C (by assumption) (Nat.le_of_ble_eq_true rfl) kmX11_finish rfl kk_11_291 (tX11_finish hok (by assumption)  hq_97) rfl rfl (Nat.le_of_ble_eq_true rfl) ⟨Nat.le_of_ble_eq_true rfl, Nat.le_of_ble_eq_true rfl⟩ ⟨Nat.le_of_ble_eq_true rfl, Nat.le_of_ble_eq_true rfl⟩ dX11_does_418) rfl rfl rfl rfl ?_
                                                  rw [fX11_does, if_neg qc_1, if_neg qc_3, if_neg qc_8, if_neg qc_13, if_neg qc_18, if_neg qc_23, if_neg qc_28, if_neg qc_34, if_neg qc_39, if_neg qc_41, if_neg qc_47, if_neg qc_49, if_neg qc_53, if_neg qc_62, if_neg qc_66, if_neg qc_70, if_neg qc_74, if_neg qc_79, if_neg qc_81, if_neg qc_83, if_neg qc_85, if_neg qc_87, if_neg qc_89, if_neg qc_91, if_pos qg_96, ob_s hq_97] at hf
                                                  obtain rfl := (Option.some.inj hf).symm
                                                  exact x_vreturn C dX11_does_421 rfl (Nat.le_of_ble_eq_true rfl) (Nat.le_of_ble_eq_true rfl) rfl rfl
def fX11_machine_l0  : Nat → XO → Option (XO)
  | 0, _ => none
  | n + 1, Ω => (if (xI Ω 1153 0 0) ≤ 0 then (some Ω) else (if inB ((xI Ω 1153 0 0) - (1 : Int32)) 5 then (if inB ((xI Ω 1153 0 0) - (1 : Int32)) 5 then (if inB (xI Ω 2145 0 ((xI Ω 1153 0 0) - (1 : Int32)).toNatClampNeg) 8 then (((if (xI Ω 2146 0 ((xI Ω 1153 0 0) - (1 : Int32)).toNatClampNeg) < (xI Ω 2105 0 (xI Ω 2145 0 ((xI Ω 1153 0 0) - (1 : Int32)).toNatClampNeg).toNatClampNeg) then (if inB ((xI Ω 1153 0 0) - (1 : Int32)) 5 then (if inB ((xI Ω 1153 0 0) - (1 : Int32)) 5 then (if inB (((20 : Int32) * (xI Ω 2145 0 ((xI Ω 1153 0 0) - (1 : Int32)).toNatClampNeg)) + (xI Ω 2146 0 ((xI Ω 1153 0 0) - (1 : Int32)).toNatClampNeg)) 160 then (if inB (((20 : Int32) * (xI Ω 2145 0 ((xI Ω 1153 0 0) - (1 : Int32)).toNatClampNeg)) + (xI Ω 2146 0 ((xI Ω 1153 0 0) - (1 : Int32)).toNatClampNeg)) 160 then (fX11_cost Ω (xI Ω 2103 0 (((20 : Int32) * (xI Ω 2145 0 ((xI Ω 1153 0 0) - (1 : Int32)).toNatClampNeg)) + (xI Ω 2146 0 ((xI Ω 1153 0 0) - (1 : Int32)).toNatClampNeg)).toNatClampNeg) (xI Ω 2104 0 (((20 : Int32) * (xI Ω 2145 0 ((xI Ω 1153 0 0) - (1 : Int32)).toNatClampNeg)) + (xI Ω 2146 0 ((xI Ω 1153 0 0) - (1 : Int32)).toNatClampNeg)).toNatClampNeg) ((xI Ω 1153 0 0) - (1 : Int32))).bind (fun r_18 => (if inB ((xI Ω 1153 0 0) - (1 : Int32)) 5 then (((if (xI Ω 2144 0 ((xI Ω 1153 0 0) - (1 : Int32)).toNatClampNeg) < r_18 then (some (1 : Int32)) else (if inB ((xI Ω 1153 0 0) - (1 : Int32)) 5 then (fX11_need Ω (xI Ω 2103 0 (((20 : Int32) * (xI Ω 2145 0 ((xI Ω 1153 0 0) - (1 : Int32)).toNatClampNeg)) + (xI Ω 2146 0 ((xI Ω 1153 0 0) - (1 : Int32)).toNatClampNeg)).toNatClampNeg)).bind (fun r_25 => (if (xI Ω 2148 0 ((xI Ω 1153 0 0) - (1 : Int32)).toNatClampNeg) < r_25 then (some (1 : Int32)) else (if inB ((xI Ω 1153 0 0) - (1 : Int32)) 5 then (fX11_grows Ω (xI Ω 2103 0 (((20 : Int32) * (xI Ω 2145 0 ((xI Ω 1153 0 0) - (1 : Int32)).toNatClampNeg)) + (xI Ω 2146 0 ((xI Ω 1153 0 0) - (1 : Int32)).toNatClampNeg)).toNatClampNeg)).bind (fun r_29 => (if ((xI Ω 2148 0 ((xI Ω 1153 0 0) - (1 : Int32)).toNatClampNeg) + r_29) ≤ (16 : Int32) then (some (0 : Int32)) else (some (1 : Int32)))) else none))) else none)) : Option (Int32))).bind (fun j_21 => (if inB ((xI Ω 1153 0 0) - (1 : Int32)) 5 then (if inB ((xI Ω 1153 0 0) - (1 : Int32)) 5 then (wl (uI Ω 2146 0 ((xI Ω 1153 0 0) - (1 : Int32)).toNatClampNeg ((xI Ω 2146 0 ((xI Ω 1153 0 0) - (1 : Int32)).toNatClampNeg) + (1 : Int32))) (fun Ω_34 => (if inB ((xI Ω 1153 0 0) - (1 : Int32)) 5 then (((if j_21 = 0 then (some r_18) else (if inB ((xI Ω 1153 0 0) - (1 : Int32)) 5 then (some (xI Ω_34 2144 0 ((xI Ω 1153 0 0) - (1 : Int32)).toNatClampNeg)) else none)) : Option (Int32))).bind (fun j_37 => (if inB ((xI Ω 1153 0 0) - (1 : Int32)) 5 then (wl (uI Ω_34 2144 0 ((xI Ω 1153 0 0) - (1 : Int32)).toNatClampNeg ((xI Ω_34 2144 0 ((xI Ω 1153 0 0) - (1 : Int32)).toNatClampNeg) - j_37)) (fun Ω_42 => (if j_21 = 0 then (if inB (((20 : Int32) * (xI Ω 2145 0 ((xI Ω 1153 0 0) - (1 : Int32)).toNatClampNeg)) + (xI Ω 2146 0 ((xI Ω 1153 0 0) - (1 : Int32)).toNatClampNeg)) 160 then (fX11_does Ω_42 ((xI Ω 1153 0 0) - (1 : Int32)) (xI Ω 2103 0 (((20 : Int32) * (xI Ω 2145 0 ((xI Ω 1153 0 0) - (1 : Int32)).toNatClampNeg)) + (xI Ω 2146 0 ((xI Ω 1153 0 0) - (1 : Int32)).toNatClampNeg)).toNatClampNeg) (xI Ω_42 2104 0 (((20 : Int32) * (xI Ω 2145 0 ((xI Ω 1153 0 0) - (1 : Int32)).toNatClampNeg)) + (xI Ω 2146 0 ((xI Ω 1153 0 0) - (1 : Int32)).toNatClampNeg)).toNatClampNeg)).bind (fun r_46 => (some r_46)) else none) else (fX11_finish Ω_42 (0 : Int32) (0 : Int32)).bind (fun r_47 => (some r_47))))) else none)) else none))) else none) else none)) else none)) else none) else none) else none) else none) else (if inB ((xI Ω 1153 0 0) - (1 : Int32)) 5 then (fX11_finish Ω (1 : Int32) (xI Ω 2144 0 ((xI Ω 1153 0 0) - (1 : Int32)).toNatClampNeg)).bind (fun r_50 => (some r_50)) else none)) : Option (XO))).bind (fun j_8 => fX11_machine_l0 n j_8) else none) else none) else none))
set_option maxRecDepth 20000 in
theorem lX11_machine_l0 {G : XG} (hok : XK G) {B : XB}   (hf0 : dm G 11 0)   {T : Option Value ⊕ String} {Ω9 : XO} (C : XC G B cX11_machine RX11 (RM 5 0) 6 none T Ω9) : ∀ (n : Nat) (Ω : XO) {r : (XO)}, fX11_machine_l0 n Ω = some r → (∀ q, r = q → (XW G B 6 199 [] [] q 0 0)) → XW G B 6 0 [(0, .ref (ad G 11 (0)))] [] Ω 0 0 := by
  intro n
  induction n with
  | zero => intro Ω r hf; exact absurd hf (by rw [fX11_machine_l0]; exact nofun)
  | succ n ih =>
    intro Ω r hf hk
    refine x_aload_n (pc2 := 1) C dX11_machine_0 0 rfl rfl rfl ?_
    refine x_getI (pc2 := 4) (f := 1153) C (by assumption) kf_11_237 dX11_machine_1 rfl rfl rfl ?_
    refine x_if_le (tgt := 199) (pc2 := 7) C dX11_machine_4 (by decide) rfl (fun qc_1 => ?_) (fun qc_1 => ?_)
    · rw [fX11_machine_l0, if_pos qc_1] at hf
      exact x_sub (lv2 := []) C [] rfl (hk _ (Option.some.inj hf).symm)
    · refine x_aload_n (pc2 := 8) C dX11_machine_7 0 rfl rfl rfl ?_
      refine x_getI (pc2 := 11) (f := 1153) C (by assumption) kf_11_237 dX11_machine_8 rfl rfl rfl ?_
      refine x_iconst (pc2 := 12) (v := 1) C dX11_machine_11 rfl rfl ?_
      refine x_isub (pc2 := 13) C dX11_machine_12 rfl ?_
      refine x_istore_n (pc2 := 14) (lv2 := [(1, _), (0, _)]) C dX11_machine_13 rfl (by decide) rfl rfl ?_
      refine x_aload_n (pc2 := 15) C dX11_machine_14 1 rfl rfl rfl ?_
      refine x_getR (f := 1146) (k2 := 2146) (pc2 := 18) C (by assumption) kf_11_146 dX11_machine_15 rfl rfl rfl (rti_i rfl) rfl (fun qd_2 => ?_)
      refine x_iload_n (pc2 := 19) C dX11_machine_18 0 rfl rfl rfl ?_
      rcases (Decidable.em (inB ((xI Ω 1153 0 0) - (1 : Int32)) 5)).symm with qg_3 | qg_3
      · exact absurd hf (by rw [fX11_machine_l0, if_neg qc_1, if_neg qg_3]; exact nofun)
      refine x_iald (pc2 := 20) C (by assumption) dX11_machine_19 rfl (inB_in qg_3) rfl ?_
      refine x_aload_n (pc2 := 21) C dX11_machine_20 1 rfl rfl rfl ?_
      refine x_getR (f := 1105) (k2 := 2105) (pc2 := 24) C (by assumption) kf_11_25 dX11_machine_21 rfl rfl rfl (rti_i rfl) rfl (fun qd_4 => ?_)
      refine x_aload_n (pc2 := 25) C dX11_machine_24 1 rfl rfl rfl ?_
      refine x_getR (f := 1145) (k2 := 2145) (pc2 := 28) C (by assumption) kf_11_143 dX11_machine_25 rfl rfl rfl (rti_i rfl) rfl (fun qd_5 => ?_)
      refine x_iload_n (pc2 := 29) C dX11_machine_28 0 rfl rfl rfl ?_
      rcases (Decidable.em (inB ((xI Ω 1153 0 0) - (1 : Int32)) 5)).symm with qg_6 | qg_6
      · exact absurd hf (by rw [fX11_machine_l0, if_neg qc_1, if_pos qg_3, if_neg qg_6]; exact nofun)
      refine x_iald (pc2 := 30) C (by assumption) dX11_machine_29 rfl (inB_in qg_6) rfl ?_
      rcases (Decidable.em (inB (xI Ω 2145 0 ((xI Ω 1153 0 0) - (1 : Int32)).toNatClampNeg) 8)).symm with qg_7 | qg_7
      · exact absurd hf (by rw [fX11_machine_l0, if_neg qc_1, if_pos qg_3, if_pos qg_6, if_neg qg_7]; exact nofun)
      refine x_iald (pc2 := 31) C (by assumption) dX11_machine_30 rfl (inB_in qg_7) rfl ?_
      rcases opt_em ((if (xI Ω 2146 0 ((xI Ω 1153 0 0) - (1 : Int32)).toNatClampNeg) < (xI Ω 2105 0 (xI Ω 2145 0 ((xI Ω 1153 0 0) - (1 : Int32)).toNatClampNeg).toNatClampNeg) then (if inB ((xI Ω 1153 0 0) - (1 : Int32)) 5 then (if inB ((xI Ω 1153 0 0) - (1 : Int32)) 5 then (if inB (((20 : Int32) * (xI Ω 2145 0 ((xI Ω 1153 0 0) - (1 : Int32)).toNatClampNeg)) + (xI Ω 2146 0 ((xI Ω 1153 0 0) - (1 : Int32)).toNatClampNeg)) 160 then (if inB (((20 : Int32) * (xI Ω 2145 0 ((xI Ω 1153 0 0) - (1 : Int32)).toNatClampNeg)) + (xI Ω 2146 0 ((xI Ω 1153 0 0) - (1 : Int32)).toNatClampNeg)) 160 then (fX11_cost Ω (xI Ω 2103 0 (((20 : Int32) * (xI Ω 2145 0 ((xI Ω 1153 0 0) - (1 : Int32)).toNatClampNeg)) + (xI Ω 2146 0 ((xI Ω 1153 0 0) - (1 : Int32)).toNatClampNeg)).toNatClampNeg) (xI Ω 2104 0 (((20 : Int32) * (xI Ω 2145 0 ((xI Ω 1153 0 0) - (1 : Int32)).toNatClampNeg)) + (xI Ω 2146 0 ((xI Ω 1153 0 0) - (1 : Int32)).toNatClampNeg)).toNatClampNeg) ((xI Ω 1153 0 0) - (1 : Int32))).bind (fun r_18 => (if inB ((xI Ω 1153 0 0) - (1 : Int32)) 5 then (((if (xI Ω 2144 0 ((xI Ω 1153 0 0) - (1 : Int32)).toNatClampNeg) < r_18 then (some (1 : Int32)) else (if inB ((xI Ω 1153 0 0) - (1 : Int32)) 5 then (fX11_need Ω (xI Ω 2103 0 (((20 : Int32) * (xI Ω 2145 0 ((xI Ω 1153 0 0) - (1 : Int32)).toNatClampNeg)) + (xI Ω 2146 0 ((xI Ω 1153 0 0) - (1 : Int32)).toNatClampNeg)).toNatClampNeg)).bind (fun r_25 => (if (xI Ω 2148 0 ((xI Ω 1153 0 0) - (1 : Int32)).toNatClampNeg) < r_25 then (some (1 : Int32)) else (if inB ((xI Ω 1153 0 0) - (1 : Int32)) 5 then (fX11_grows Ω (xI Ω 2103 0 (((20 : Int32) * (xI Ω 2145 0 ((xI Ω 1153 0 0) - (1 : Int32)).toNatClampNeg)) + (xI Ω 2146 0 ((xI Ω 1153 0 0) - (1 : Int32)).toNatClampNeg)).toNatClampNeg)).bind (fun r_29 => (if ((xI Ω 2148 0 ((xI Ω 1153 0 0) - (1 : Int32)).toNatClampNeg) + r_29) ≤ (16 : Int32) then (some (0 : Int32)) else (some (1 : Int32)))) else none))) else none)) : Option (Int32))).bind (fun j_21 => (if inB ((xI Ω 1153 0 0) - (1 : Int32)) 5 then (if inB ((xI Ω 1153 0 0) - (1 : Int32)) 5 then (wl (uI Ω 2146 0 ((xI Ω 1153 0 0) - (1 : Int32)).toNatClampNeg ((xI Ω 2146 0 ((xI Ω 1153 0 0) - (1 : Int32)).toNatClampNeg) + (1 : Int32))) (fun Ω_34 => (if inB ((xI Ω 1153 0 0) - (1 : Int32)) 5 then (((if j_21 = 0 then (some r_18) else (if inB ((xI Ω 1153 0 0) - (1 : Int32)) 5 then (some (xI Ω_34 2144 0 ((xI Ω 1153 0 0) - (1 : Int32)).toNatClampNeg)) else none)) : Option (Int32))).bind (fun j_37 => (if inB ((xI Ω 1153 0 0) - (1 : Int32)) 5 then (wl (uI Ω_34 2144 0 ((xI Ω 1153 0 0) - (1 : Int32)).toNatClampNeg ((xI Ω_34 2144 0 ((xI Ω 1153 0 0) - (1 : Int32)).toNatClampNeg) - j_37)) (fun Ω_42 => (if j_21 = 0 then (if inB (((20 : Int32) * (xI Ω 2145 0 ((xI Ω 1153 0 0) - (1 : Int32)).toNatClampNeg)) + (xI Ω 2146 0 ((xI Ω 1153 0 0) - (1 : Int32)).toNatClampNeg)) 160 then (fX11_does Ω_42 ((xI Ω 1153 0 0) - (1 : Int32)) (xI Ω 2103 0 (((20 : Int32) * (xI Ω 2145 0 ((xI Ω 1153 0 0) - (1 : Int32)).toNatClampNeg)) + (xI Ω 2146 0 ((xI Ω 1153 0 0) - (1 : Int32)).toNatClampNeg)).toNatClampNeg) (xI Ω_42 2104 0 (((20 : Int32) * (xI Ω 2145 0 ((xI Ω 1153 0 0) - (1 : Int32)).toNatClampNeg)) + (xI Ω 2146 0 ((xI Ω 1153 0 0) - (1 : Int32)).toNatClampNeg)).toNatClampNeg)).bind (fun r_46 => (some r_46)) else none) else (fX11_finish Ω_42 (0 : Int32) (0 : Int32)).bind (fun r_47 => (some r_47))))) else none)) else none))) else none) else none)) else none)) else none) else none) else none) else none) else (if inB ((xI Ω 1153 0 0) - (1 : Int32)) 5 then (fX11_finish Ω (1 : Int32) (xI Ω 2144 0 ((xI Ω 1153 0 0) - (1 : Int32)).toNatClampNeg)).bind (fun r_50 => (some r_50)) else none)) : Option (XO)) with hq_8 | ⟨j_8, hq_8⟩
      · exact absurd hf (by rw [fX11_machine_l0, if_neg qc_1, if_pos qg_3, if_pos qg_6, if_pos qg_7, ob_n hq_8]; exact nofun)
      suffices hj_8 : XW G B 6 196 [(0, .ref (ad G 11 (0)))] [] j_8 0 0 by
        refine x_icmp_lt (tgt := 48) (pc2 := 34) C dX11_machine_31 (by decide) rfl (fun qc_9 => ?_) (fun qc_9 => ?_)
        · refine x_bipush (pc2 := 50) (v := 20) C dX11_machine_48 rfl rfl ?_
          refine x_aload_n (pc2 := 51) C dX11_machine_50 1 rfl rfl rfl ?_
          refine x_getR (f := 1145) (k2 := 2145) (pc2 := 54) C (by assumption) kf_11_143 dX11_machine_51 rfl rfl rfl (rti_i rfl) rfl (fun qd_10 => ?_)
          refine x_iload_n (pc2 := 55) C dX11_machine_54 0 rfl rfl rfl ?_
          rcases (Decidable.em (inB ((xI Ω 1153 0 0) - (1 : Int32)) 5)).symm with qg_11 | qg_11
          · exact absurd hq_8 (by rw [if_pos qc_9, if_neg qg_11]; exact nofun)
          refine x_iald (pc2 := 56) C (by assumption) dX11_machine_55 rfl (inB_in qg_11) rfl ?_
          refine x_imul (pc2 := 57) C dX11_machine_56 rfl ?_
          refine x_aload_n (pc2 := 58) C dX11_machine_57 1 rfl rfl rfl ?_
          refine x_getR (f := 1146) (k2 := 2146) (pc2 := 61) C (by assumption) kf_11_146 dX11_machine_58 rfl rfl rfl (rti_i rfl) rfl (fun qd_12 => ?_)
          refine x_iload_n (pc2 := 62) C dX11_machine_61 0 rfl rfl rfl ?_
          rcases (Decidable.em (inB ((xI Ω 1153 0 0) - (1 : Int32)) 5)).symm with qg_13 | qg_13
          · exact absurd hq_8 (by rw [if_pos qc_9, if_pos qg_11, if_neg qg_13]; exact nofun)
          refine x_iald (pc2 := 63) C (by assumption) dX11_machine_62 rfl (inB_in qg_13) rfl ?_
          refine x_iadd (pc2 := 64) C dX11_machine_63 rfl ?_
          refine x_istore_n (pc2 := 65) (lv2 := [(2, _), (1, _), (0, _)]) C dX11_machine_64 rfl (by decide) rfl rfl ?_
          refine x_aload_n (pc2 := 66) C dX11_machine_65 2 rfl rfl rfl ?_
          refine x_getR (f := 1103) (k2 := 2103) (pc2 := 69) C (by assumption) kf_11_19 dX11_machine_66 rfl rfl rfl (rti_i rfl) rfl (fun qd_14 => ?_)
          refine x_iload_n (pc2 := 70) C dX11_machine_69 0 rfl rfl rfl ?_
          rcases (Decidable.em (inB (((20 : Int32) * (xI Ω 2145 0 ((xI Ω 1153 0 0) - (1 : Int32)).toNatClampNeg)) + (xI Ω 2146 0 ((xI Ω 1153 0 0) - (1 : Int32)).toNatClampNeg)) 160)).symm with qg_15 | qg_15
          · exact absurd hq_8 (by rw [if_pos qc_9, if_pos qg_11, if_pos qg_13, if_neg qg_15]; exact nofun)
          refine x_iald (pc2 := 71) C (by assumption) dX11_machine_70 rfl (inB_in qg_15) rfl ?_
          refine x_istore_n (pc2 := 72) (lv2 := [(3, _), (2, _), (1, _), (0, _)]) C dX11_machine_71 rfl (by decide) rfl rfl ?_
          refine x_aload_n (pc2 := 73) C dX11_machine_72 3 rfl rfl rfl ?_
          refine x_iload_n (pc2 := 74) C dX11_machine_73 0 rfl rfl rfl ?_
          refine x_aload_n (pc2 := 75) C dX11_machine_74 3 rfl rfl rfl ?_
          refine x_getR (f := 1104) (k2 := 2104) (pc2 := 78) C (by assumption) kf_11_22 dX11_machine_75 rfl rfl rfl (rti_i rfl) rfl (fun qd_16 => ?_)
          refine x_iload_n (pc2 := 79) C dX11_machine_78 1 rfl rfl rfl ?_
          rcases (Decidable.em (inB (((20 : Int32) * (xI Ω 2145 0 ((xI Ω 1153 0 0) - (1 : Int32)).toNatClampNeg)) + (xI Ω 2146 0 ((xI Ω 1153 0 0) - (1 : Int32)).toNatClampNeg)) 160)).symm with qg_17 | qg_17
          · exact absurd hq_8 (by rw [if_pos qc_9, if_pos qg_11, if_pos qg_13, if_pos qg_15, if_neg qg_17]; exact nofun)
          refine x_iald (pc2 := 80) C (by assumption) dX11_machine_79 rfl (inB_in qg_17) rfl ?_
          refine x_iload_n (pc2 := 81) C dX11_machine_80 2 rfl rfl rfl ?_
          rcases opt_em (fX11_cost Ω (xI Ω 2103 0 (((20 : Int32) * (xI Ω 2145 0 ((xI Ω 1153 0 0) - (1 : Int32)).toNatClampNeg)) + (xI Ω 2146 0 ((xI Ω 1153 0 0) - (1 : Int32)).toNatClampNeg)).toNatClampNeg) (xI Ω 2104 0 (((20 : Int32) * (xI Ω 2145 0 ((xI Ω 1153 0 0) - (1 : Int32)).toNatClampNeg)) + (xI Ω 2146 0 ((xI Ω 1153 0 0) - (1 : Int32)).toNatClampNeg)).toNatClampNeg) ((xI Ω 1153 0 0) - (1 : Int32))) with hq_18 | ⟨r_18, hq_18⟩
          · exact absurd hq_8 (by rw [if_pos qc_9, if_pos qg_11, if_pos qg_13, if_pos qg_15, if_pos qg_17, ob_n hq_18]; exact nofun)
          refine x_ret (rest := []) (st2 := [_]) (pc2 := 84) (cu2 := 0) (su2 := 0) (x_cV C (by assumption) (Nat.le_of_ble_eq_true rfl) kmX11_cost rfl kk_11_321 (tX11_cost hok (by assumption)  hq_18) rfl rfl (Nat.le_of_ble_eq_true rfl) ⟨Nat.le_of_ble_eq_true rfl, Nat.le_of_ble_eq_true rfl⟩ ⟨Nat.le_of_ble_eq_true rfl, Nat.le_of_ble_eq_true rfl⟩ dX11_machine_81) rfl rfl rfl rfl ?_
          refine x_istore (pc2 := 86) (lv2 := [(4, _), (3, _), (2, _), (1, _), (0, _)]) C dX11_machine_84 (by decide) rfl rfl ?_
          refine x_aload_n (pc2 := 87) C dX11_machine_86 4 rfl rfl rfl ?_
          refine x_getR (f := 1144) (k2 := 2144) (pc2 := 90) C (by assumption) kf_11_140 dX11_machine_87 rfl rfl rfl (rti_i rfl) rfl (fun qd_19 => ?_)
          refine x_iload_n (pc2 := 91) C dX11_machine_90 3 rfl rfl rfl ?_
          rcases (Decidable.em (inB ((xI Ω 1153 0 0) - (1 : Int32)) 5)).symm with qg_20 | qg_20
          · exact absurd hq_8 (by rw [if_pos qc_9, if_pos qg_11, if_pos qg_13, if_pos qg_15, if_pos qg_17, ob_s hq_18, if_neg qg_20]; exact nofun)
          refine x_iald (pc2 := 92) C (by assumption) dX11_machine_91 rfl (inB_in qg_20) rfl ?_
          refine x_iload (pc2 := 94) C dX11_machine_92 0 rfl rfl ?_
          rcases opt_em ((if (xI Ω 2144 0 ((xI Ω 1153 0 0) - (1 : Int32)).toNatClampNeg) < r_18 then (some (1 : Int32)) else (if inB ((xI Ω 1153 0 0) - (1 : Int32)) 5 then (fX11_need Ω (xI Ω 2103 0 (((20 : Int32) * (xI Ω 2145 0 ((xI Ω 1153 0 0) - (1 : Int32)).toNatClampNeg)) + (xI Ω 2146 0 ((xI Ω 1153 0 0) - (1 : Int32)).toNatClampNeg)).toNatClampNeg)).bind (fun r_25 => (if (xI Ω 2148 0 ((xI Ω 1153 0 0) - (1 : Int32)).toNatClampNeg) < r_25 then (some (1 : Int32)) else (if inB ((xI Ω 1153 0 0) - (1 : Int32)) 5 then (fX11_grows Ω (xI Ω 2103 0 (((20 : Int32) * (xI Ω 2145 0 ((xI Ω 1153 0 0) - (1 : Int32)).toNatClampNeg)) + (xI Ω 2146 0 ((xI Ω 1153 0 0) - (1 : Int32)).toNatClampNeg)).toNatClampNeg)).bind (fun r_29 => (if ((xI Ω 2148 0 ((xI Ω 1153 0 0) - (1 : Int32)).toNatClampNeg) + r_29) ≤ (16 : Int32) then (some (0 : Int32)) else (some (1 : Int32)))) else none))) else none)) : Option (Int32)) with hq_21 | ⟨j_21, hq_21⟩
          · exact absurd hq_8 (by rw [if_pos qc_9, if_pos qg_11, if_pos qg_13, if_pos qg_15, if_pos qg_17, ob_s hq_18, if_pos qg_20, ob_n hq_21]; exact nofun)
          suffices hj_21 : XW G B 6 133 [(0, .ref (ad G 11 (0))), (1, .int ((xI Ω 1153 0 0) - (1 : Int32))), (2, .int (((20 : Int32) * (xI Ω 2145 0 ((xI Ω 1153 0 0) - (1 : Int32)).toNatClampNeg)) + (xI Ω 2146 0 ((xI Ω 1153 0 0) - (1 : Int32)).toNatClampNeg))), (3, .int (xI Ω 2103 0 (((20 : Int32) * (xI Ω 2145 0 ((xI Ω 1153 0 0) - (1 : Int32)).toNatClampNeg)) + (xI Ω 2146 0 ((xI Ω 1153 0 0) - (1 : Int32)).toNatClampNeg)).toNatClampNeg)), (4, .int (r_18))] [.int (j_21)] Ω 0 0 by
            refine x_icmp_lt (tgt := 128) (pc2 := 97) C dX11_machine_94 (by decide) rfl (fun qc_22 => ?_) (fun qc_22 => ?_)
            · refine x_iconst (pc2 := 129) (v := 1) C dX11_machine_128 rfl rfl ?_
              refine x_goto (tgt := 133) C dX11_machine_129 (by decide) ?_
              rw [if_pos qc_22] at hq_21
              obtain rfl := (Option.some.inj hq_21).symm
              exact x_sub (lv2 := [(0, _), (1, _), (2, _), (3, _), (4, _)]) C [4, 3, 2, 1, 0] rfl hj_21
            · refine x_aload_n (pc2 := 98) C dX11_machine_97 4 rfl rfl rfl ?_
              refine x_getR (f := 1148) (k2 := 2148) (pc2 := 101) C (by assumption) kf_11_152 dX11_machine_98 rfl rfl rfl (rti_i rfl) rfl (fun qd_23 => ?_)
              refine x_iload_n (pc2 := 102) C dX11_machine_101 3 rfl rfl rfl ?_
              rcases (Decidable.em (inB ((xI Ω 1153 0 0) - (1 : Int32)) 5)).symm with qg_24 | qg_24
              · exact absurd hq_21 (by rw [if_neg qc_22, if_neg qg_24]; exact nofun)
              refine x_iald (pc2 := 103) C (by assumption) dX11_machine_102 rfl (inB_in qg_24) rfl ?_
              refine x_aload_n (pc2 := 104) C dX11_machine_103 4 rfl rfl rfl ?_
              refine x_iload_n (pc2 := 105) C dX11_machine_104 1 rfl rfl rfl ?_
              rcases opt_em (fX11_need Ω (xI Ω 2103 0 (((20 : Int32) * (xI Ω 2145 0 ((xI Ω 1153 0 0) - (1 : Int32)).toNatClampNeg)) + (xI Ω 2146 0 ((xI Ω 1153 0 0) - (1 : Int32)).toNatClampNeg)).toNatClampNeg)) with hq_25 | ⟨r_25, hq_25⟩
              · exact absurd hq_21 (by rw [if_neg qc_22, if_pos qg_24, ob_n hq_25]; exact nofun)
              refine x_ret (rest := [_]) (st2 := [_, _]) (pc2 := 108) (cu2 := 0) (su2 := 0) (x_cV C (by assumption) (Nat.le_of_ble_eq_true rfl) kmX11_need rfl kk_11_324 (tX11_need hok (by assumption)  hq_25) rfl rfl (Nat.le_of_ble_eq_true rfl) ⟨Nat.le_of_ble_eq_true rfl, Nat.le_of_ble_eq_true rfl⟩ ⟨Nat.le_of_ble_eq_true rfl, Nat.le_of_ble_eq_true rfl⟩ dX11_machine_105) rfl rfl rfl rfl ?_
              refine x_icmp_lt (tgt := 128) (pc2 := 111) C dX11_machine_108 (by decide) rfl (fun qc_26 => ?_) (fun qc_26 => ?_)
              · refine x_iconst (pc2 := 129) (v := 1) C dX11_machine_128 rfl rfl ?_
                refine x_goto (tgt := 133) C dX11_machine_129 (by decide) ?_
                rw [if_neg qc_22, if_pos qg_24, ob_s hq_25, if_pos qc_26] at hq_21
                obtain rfl := (Option.some.inj hq_21).symm
                exact x_sub (lv2 := [(0, _), (1, _), (2, _), (3, _), (4, _)]) C [4, 3, 2, 1, 0] rfl hj_21
              · refine x_aload_n (pc2 := 112) C dX11_machine_111 4 rfl rfl rfl ?_
                refine x_getR (f := 1148) (k2 := 2148) (pc2 := 115) C (by assumption) kf_11_152 dX11_machine_112 rfl rfl rfl (rti_i rfl) rfl (fun qd_27 => ?_)
                refine x_iload_n (pc2 := 116) C dX11_machine_115 3 rfl rfl rfl ?_
                rcases (Decidable.em (inB ((xI Ω 1153 0 0) - (1 : Int32)) 5)).symm with qg_28 | qg_28
                · exact absurd hq_21 (by rw [if_neg qc_22, if_pos qg_24, ob_s hq_25, if_neg qc_26, if_neg qg_28]; exact nofun)
                refine x_iald (pc2 := 117) C (by assumption) dX11_machine_116 rfl (inB_in qg_28) rfl ?_
                refine x_aload_n (pc2 := 118) C dX11_machine_117 4 rfl rfl rfl ?_
                refine x_iload_n (pc2 := 119) C dX11_machine_118 1 rfl rfl rfl ?_
                rcases opt_em (fX11_grows Ω (xI Ω 2103 0 (((20 : Int32) * (xI Ω 2145 0 ((xI Ω 1153 0 0) - (1 : Int32)).toNatClampNeg)) + (xI Ω 2146 0 ((xI Ω 1153 0 0) - (1 : Int32)).toNatClampNeg)).toNatClampNeg)) with hq_29 | ⟨r_29, hq_29⟩
                · exact absurd hq_21 (by rw [if_neg qc_22, if_pos qg_24, ob_s hq_25, if_neg qc_26, if_pos qg_28, ob_n hq_29]; exact nofun)
                refine x_ret (rest := [_]) (st2 := [_, _]) (pc2 := 122) (cu2 := 0) (su2 := 0) (x_cV C (by assumption) (Nat.le_of_ble_eq_true rfl) kmX11_grows rfl kk_11_327 (tX11_grows hok (by assumption)  hq_29) rfl rfl (Nat.le_of_ble_eq_true rfl) ⟨Nat.le_of_ble_eq_true rfl, Nat.le_of_ble_eq_true rfl⟩ ⟨Nat.le_of_ble_eq_true rfl, Nat.le_of_ble_eq_true rfl⟩ dX11_machine_119) rfl rfl rfl rfl ?_
                refine x_iadd (pc2 := 123) C dX11_machine_122 rfl ?_
                refine x_bipush (pc2 := 125) (v := 16) C dX11_machine_123 rfl rfl ?_
                refine x_icmp_le (tgt := 132) (pc2 := 128) C dX11_machine_125 (by decide) rfl (fun qc_30 => ?_) (fun qc_30 => ?_)
                · refine x_iconst (pc2 := 133) (v := 0) C dX11_machine_132 rfl rfl ?_
                  rw [if_neg qc_22, if_pos qg_24, ob_s hq_25, if_neg qc_26, if_pos qg_28, ob_s hq_29, if_pos qc_30] at hq_21
                  obtain rfl := (Option.some.inj hq_21).symm
                  exact x_sub (lv2 := [(0, _), (1, _), (2, _), (3, _), (4, _)]) C [4, 3, 2, 1, 0] rfl hj_21
                · refine x_iconst (pc2 := 129) (v := 1) C dX11_machine_128 rfl rfl ?_
                  refine x_goto (tgt := 133) C dX11_machine_129 (by decide) ?_
                  rw [if_neg qc_22, if_pos qg_24, ob_s hq_25, if_neg qc_26, if_pos qg_28, ob_s hq_29, if_neg qc_30] at hq_21
                  obtain rfl := (Option.some.inj hq_21).symm
                  exact x_sub (lv2 := [(0, _), (1, _), (2, _), (3, _), (4, _)]) C [4, 3, 2, 1, 0] rfl hj_21
          refine x_istore (pc2 := 135) (lv2 := [(5, _), (0, _), (1, _), (2, _), (3, _), (4, _)]) C dX11_machine_133 (by decide) rfl rfl ?_
          refine x_aload_n (pc2 := 136) C dX11_machine_135 1 rfl rfl rfl ?_
          refine x_getR (f := 1146) (k2 := 2146) (pc2 := 139) C (by assumption) kf_11_146 dX11_machine_136 rfl rfl rfl (rti_i rfl) rfl (fun qd_31 => ?_)
          refine x_iload_n (pc2 := 140) C dX11_machine_139 2 rfl rfl rfl ?_
          refine x_dup2 (pc2 := 141) C dX11_machine_140 rfl rfl rfl ?_
          rcases (Decidable.em (inB ((xI Ω 1153 0 0) - (1 : Int32)) 5)).symm with qg_32 | qg_32
          · exact absurd hq_8 (by rw [if_pos qc_9, if_pos qg_11, if_pos qg_13, if_pos qg_15, if_pos qg_17, ob_s hq_18, if_pos qg_20, ob_s hq_21, if_neg qg_32]; exact nofun)
          refine x_iald (pc2 := 142) C (by assumption) dX11_machine_141 rfl (inB_in qg_32) rfl ?_
          refine x_iconst (pc2 := 143) (v := 1) C dX11_machine_142 rfl rfl ?_
          refine x_iadd (pc2 := 144) C dX11_machine_143 rfl ?_
          rcases (Decidable.em (inB ((xI Ω 1153 0 0) - (1 : Int32)) 5)).symm with qg_33 | qg_33
          · exact absurd hq_8 (by rw [if_pos qc_9, if_pos qg_11, if_pos qg_13, if_pos qg_15, if_pos qg_17, ob_s hq_18, if_pos qg_20, ob_s hq_21, if_pos qg_32, if_neg qg_33]; exact nofun)
          refine x_iast (pc2 := 145) C (by assumption) dX11_machine_144 rfl (inB_in qg_33) rfl ?_
          obtain ⟨Ω_34, hw_34⟩ : ∃ z, z = uI Ω 2146 0 ((xI Ω 1153 0 0) - (1 : Int32)).toNatClampNeg ((xI Ω 2146 0 ((xI Ω 1153 0 0) - (1 : Int32)).toNatClampNeg) + (1 : Int32)) := ⟨_, rfl⟩
          refine x_om hw_34 ?_
          refine x_aload_n (pc2 := 146) C dX11_machine_145 1 rfl rfl rfl ?_
          refine x_getR (f := 1144) (k2 := 2144) (pc2 := 149) C (by assumption) kf_11_140 dX11_machine_146 rfl rfl rfl (rti_i rfl) rfl (fun qd_35 => ?_)
          refine x_iload_n (pc2 := 150) C dX11_machine_149 2 rfl rfl rfl ?_
          refine x_dup2 (pc2 := 151) C dX11_machine_150 rfl rfl rfl ?_
          rcases (Decidable.em (inB ((xI Ω 1153 0 0) - (1 : Int32)) 5)).symm with qg_36 | qg_36
          · exact absurd hq_8 (by rw [if_pos qc_9, if_pos qg_11, if_pos qg_13, if_pos qg_15, if_pos qg_17, ob_s hq_18, if_pos qg_20, ob_s hq_21, if_pos qg_32, if_pos qg_33, wl_eq hw_34, if_neg qg_36]; exact nofun)
          refine x_iald (pc2 := 152) C (by assumption) dX11_machine_151 rfl (inB_in qg_36) rfl ?_
          refine x_iload (pc2 := 154) C dX11_machine_152 0 rfl rfl ?_
          rcases opt_em ((if j_21 = 0 then (some r_18) else (if inB ((xI Ω 1153 0 0) - (1 : Int32)) 5 then (some (xI Ω_34 2144 0 ((xI Ω 1153 0 0) - (1 : Int32)).toNatClampNeg)) else none)) : Option (Int32)) with hq_37 | ⟨j_37, hq_37⟩
          · exact absurd hq_8 (by rw [if_pos qc_9, if_pos qg_11, if_pos qg_13, if_pos qg_15, if_pos qg_17, ob_s hq_18, if_pos qg_20, ob_s hq_21, if_pos qg_32, if_pos qg_33, wl_eq hw_34, if_pos qg_36, ob_n hq_37]; exact nofun)
          suffices hj_37 : XW G B 6 168 [(0, .ref (ad G 11 (0))), (1, .int ((xI Ω 1153 0 0) - (1 : Int32))), (2, .int (((20 : Int32) * (xI Ω 2145 0 ((xI Ω 1153 0 0) - (1 : Int32)).toNatClampNeg)) + (xI Ω 2146 0 ((xI Ω 1153 0 0) - (1 : Int32)).toNatClampNeg))), (3, .int (xI Ω 2103 0 (((20 : Int32) * (xI Ω 2145 0 ((xI Ω 1153 0 0) - (1 : Int32)).toNatClampNeg)) + (xI Ω 2146 0 ((xI Ω 1153 0 0) - (1 : Int32)).toNatClampNeg)).toNatClampNeg)), (5, .int (j_21))] [.int (j_37), .int (xI Ω_34 2144 0 ((xI Ω 1153 0 0) - (1 : Int32)).toNatClampNeg), .int ((xI Ω 1153 0 0) - (1 : Int32)), .ref (ad G 2144 (0))] Ω_34 0 0 by
            refine x_if_eq (tgt := 166) (pc2 := 157) C dX11_machine_154 (by decide) rfl (fun qc_38 => ?_) (fun qc_38 => ?_)
            · refine x_iload (pc2 := 168) C dX11_machine_166 5 rfl rfl ?_
              rw [if_pos qc_38] at hq_37
              obtain rfl := (Option.some.inj hq_37).symm
              exact x_sub (lv2 := [(0, _), (1, _), (2, _), (3, _), (5, _)]) C [1, 2, 3, 4, 0] rfl hj_37
            · refine x_aload_n (pc2 := 158) C dX11_machine_157 1 rfl rfl rfl ?_
              refine x_getR (f := 1144) (k2 := 2144) (pc2 := 161) C (by assumption) kf_11_140 dX11_machine_158 rfl rfl rfl (rti_i rfl) rfl (fun qd_39 => ?_)
              refine x_iload_n (pc2 := 162) C dX11_machine_161 2 rfl rfl rfl ?_
              rcases (Decidable.em (inB ((xI Ω 1153 0 0) - (1 : Int32)) 5)).symm with qg_40 | qg_40
              · exact absurd hq_37 (by rw [if_neg qc_38, if_neg qg_40]; exact nofun)
              refine x_iald (pc2 := 163) C (by assumption) dX11_machine_162 rfl (inB_in qg_40) rfl ?_
              refine x_goto (tgt := 168) C dX11_machine_163 (by decide) ?_
              rw [if_neg qc_38, if_pos qg_40] at hq_37
              obtain rfl := (Option.some.inj hq_37).symm
              exact x_sub (lv2 := [(0, _), (1, _), (2, _), (3, _), (5, _)]) C [1, 2, 3, 4, 0] rfl hj_37
          refine x_isub (pc2 := 169) C dX11_machine_168 rfl ?_
          rcases (Decidable.em (inB ((xI Ω 1153 0 0) - (1 : Int32)) 5)).symm with qg_41 | qg_41
          · exact absurd hq_8 (by rw [if_pos qc_9, if_pos qg_11, if_pos qg_13, if_pos qg_15, if_pos qg_17, ob_s hq_18, if_pos qg_20, ob_s hq_21, if_pos qg_32, if_pos qg_33, wl_eq hw_34, if_pos qg_36, ob_s hq_37, if_neg qg_41]; exact nofun)
          refine x_iast (pc2 := 170) C (by assumption) dX11_machine_169 rfl (inB_in qg_41) rfl ?_
          obtain ⟨Ω_42, hw_42⟩ : ∃ z, z = uI Ω_34 2144 0 ((xI Ω 1153 0 0) - (1 : Int32)).toNatClampNeg ((xI Ω_34 2144 0 ((xI Ω 1153 0 0) - (1 : Int32)).toNatClampNeg) - j_37) := ⟨_, rfl⟩
          refine x_om hw_42 ?_
          refine x_iload (pc2 := 172) C dX11_machine_170 4 rfl rfl ?_
          refine x_if_eq (tgt := 184) (pc2 := 175) C dX11_machine_172 (by decide) rfl (fun qc_43 => ?_) (fun qc_43 => ?_)
          · refine x_aload_n (pc2 := 185) C dX11_machine_184 0 rfl rfl rfl ?_
            refine x_iload_n (pc2 := 186) C dX11_machine_185 1 rfl rfl rfl ?_
            refine x_iload_n (pc2 := 187) C dX11_machine_186 3 rfl rfl rfl ?_
            refine x_aload_n (pc2 := 188) C dX11_machine_187 0 rfl rfl rfl ?_
            refine x_getR (f := 1104) (k2 := 2104) (pc2 := 191) C (by assumption) kf_11_22 dX11_machine_188 rfl rfl rfl (rti_i rfl) rfl (fun qd_44 => ?_)
            refine x_iload_n (pc2 := 192) C dX11_machine_191 2 rfl rfl rfl ?_
            rcases (Decidable.em (inB (((20 : Int32) * (xI Ω 2145 0 ((xI Ω 1153 0 0) - (1 : Int32)).toNatClampNeg)) + (xI Ω 2146 0 ((xI Ω 1153 0 0) - (1 : Int32)).toNatClampNeg)) 160)).symm with qg_45 | qg_45
            · exact absurd hq_8 (by rw [if_pos qc_9, if_pos qg_11, if_pos qg_13, if_pos qg_15, if_pos qg_17, ob_s hq_18, if_pos qg_20, ob_s hq_21, if_pos qg_32, if_pos qg_33, wl_eq hw_34, if_pos qg_36, ob_s hq_37, if_pos qg_41, wl_eq hw_42, if_pos qc_43, if_neg qg_45]; exact nofun)
            refine x_iald (pc2 := 193) C (by assumption) dX11_machine_192 rfl (inB_in qg_45) rfl ?_
            rcases opt_em (fX11_does Ω_42 ((xI Ω 1153 0 0) - (1 : Int32)) (xI Ω 2103 0 (((20 : Int32) * (xI Ω 2145 0 ((xI Ω 1153 0 0) - (1 : Int32)).toNatClampNeg)) + (xI Ω 2146 0 ((xI Ω 1153 0 0) - (1 : Int32)).toNatClampNeg)).toNatClampNeg) (xI Ω_42 2104 0 (((20 : Int32) * (xI Ω 2145 0 ((xI Ω 1153 0 0) - (1 : Int32)).toNatClampNeg)) + (xI Ω 2146 0 ((xI Ω 1153 0 0) - (1 : Int32)).toNatClampNeg)).toNatClampNeg)) with hq_46 | ⟨r_46, hq_46⟩
            · exact absurd hq_8 (by rw [if_pos qc_9, if_pos qg_11, if_pos qg_13, if_pos qg_15, if_pos qg_17, ob_s hq_18, if_pos qg_20, ob_s hq_21, if_pos qg_32, if_pos qg_33, wl_eq hw_34, if_pos qg_36, ob_s hq_37, if_pos qg_41, wl_eq hw_42, if_pos qc_43, if_pos qg_45, ob_n hq_46]; exact nofun)
            refine x_ret (rest := []) (st2 := []) (pc2 := 196) (cu2 := 0) (su2 := 0) (x_cV C (by assumption) (Nat.le_of_ble_eq_true rfl) kmX11_does rfl kk_11_330 (tX11_does hok (by assumption)  hq_46) rfl rfl (Nat.le_of_ble_eq_true rfl) ⟨Nat.le_of_ble_eq_true rfl, Nat.le_of_ble_eq_true rfl⟩ ⟨Nat.le_of_ble_eq_true rfl, Nat.le_of_ble_eq_true rfl⟩ dX11_machine_193) rfl rfl rfl rfl ?_
            rw [if_pos qc_9, if_pos qg_11, if_pos qg_13, if_pos qg_15, if_pos qg_17, ob_s hq_18, if_pos qg_20, ob_s hq_21, if_pos qg_32, if_pos qg_33, wl_eq hw_34, if_pos qg_36, ob_s hq_37, if_pos qg_41, wl_eq hw_42, if_pos qc_43, if_pos qg_45, ob_s hq_46] at hq_8
            obtain rfl := (Option.some.inj hq_8).symm
            exact x_sub (lv2 := [(0, _)]) C [0] rfl hj_8
          · refine x_aload_n (pc2 := 176) C dX11_machine_175 0 rfl rfl rfl ?_
            refine x_iconst (pc2 := 177) (v := 0) C dX11_machine_176 rfl rfl ?_
            refine x_iconst (pc2 := 178) (v := 0) C dX11_machine_177 rfl rfl ?_
            rcases opt_em (fX11_finish Ω_42 (0 : Int32) (0 : Int32)) with hq_47 | ⟨r_47, hq_47⟩
            · exact absurd hq_8 (by rw [if_pos qc_9, if_pos qg_11, if_pos qg_13, if_pos qg_15, if_pos qg_17, ob_s hq_18, if_pos qg_20, ob_s hq_21, if_pos qg_32, if_pos qg_33, wl_eq hw_34, if_pos qg_36, ob_s hq_37, if_pos qg_41, wl_eq hw_42, if_neg qc_43, ob_n hq_47]; exact nofun)
            refine x_ret (rest := []) (st2 := []) (pc2 := 181) (cu2 := 0) (su2 := 0) (x_cV C (by assumption) (Nat.le_of_ble_eq_true rfl) kmX11_finish rfl kk_11_291 (tX11_finish hok (by assumption)  hq_47) rfl rfl (Nat.le_of_ble_eq_true rfl) ⟨Nat.le_of_ble_eq_true rfl, Nat.le_of_ble_eq_true rfl⟩ ⟨Nat.le_of_ble_eq_true rfl, Nat.le_of_ble_eq_true rfl⟩ dX11_machine_178) rfl rfl rfl rfl ?_
            refine x_goto (tgt := 196) C dX11_machine_181 (by decide) ?_
            rw [if_pos qc_9, if_pos qg_11, if_pos qg_13, if_pos qg_15, if_pos qg_17, ob_s hq_18, if_pos qg_20, ob_s hq_21, if_pos qg_32, if_pos qg_33, wl_eq hw_34, if_pos qg_36, ob_s hq_37, if_pos qg_41, wl_eq hw_42, if_neg qc_43, ob_s hq_47] at hq_8
            obtain rfl := (Option.some.inj hq_8).symm
            exact x_sub (lv2 := [(0, _)]) C [0] rfl hj_8
        · refine x_aload_n (pc2 := 35) C dX11_machine_34 1 rfl rfl rfl ?_
          refine x_iconst (pc2 := 36) (v := 1) C dX11_machine_35 rfl rfl ?_
          refine x_aload_n (pc2 := 37) C dX11_machine_36 1 rfl rfl rfl ?_
          refine x_getR (f := 1144) (k2 := 2144) (pc2 := 40) C (by assumption) kf_11_140 dX11_machine_37 rfl rfl rfl (rti_i rfl) rfl (fun qd_48 => ?_)
          refine x_iload_n (pc2 := 41) C dX11_machine_40 0 rfl rfl rfl ?_
          rcases (Decidable.em (inB ((xI Ω 1153 0 0) - (1 : Int32)) 5)).symm with qg_49 | qg_49
          · exact absurd hq_8 (by rw [if_neg qc_9, if_neg qg_49]; exact nofun)
          refine x_iald (pc2 := 42) C (by assumption) dX11_machine_41 rfl (inB_in qg_49) rfl ?_
          rcases opt_em (fX11_finish Ω (1 : Int32) (xI Ω 2144 0 ((xI Ω 1153 0 0) - (1 : Int32)).toNatClampNeg)) with hq_50 | ⟨r_50, hq_50⟩
          · exact absurd hq_8 (by rw [if_neg qc_9, if_pos qg_49, ob_n hq_50]; exact nofun)
          refine x_ret (rest := []) (st2 := []) (pc2 := 45) (cu2 := 0) (su2 := 0) (x_cV C (by assumption) (Nat.le_of_ble_eq_true rfl) kmX11_finish rfl kk_11_291 (tX11_finish hok (by assumption)  hq_50) rfl rfl (Nat.le_of_ble_eq_true rfl) ⟨Nat.le_of_ble_eq_true rfl, Nat.le_of_ble_eq_true rfl⟩ ⟨Nat.le_of_ble_eq_true rfl, Nat.le_of_ble_eq_true rfl⟩ dX11_machine_42) rfl rfl rfl rfl ?_
          refine x_goto (tgt := 196) C dX11_machine_45 (by decide) ?_
          rw [if_neg qc_9, if_pos qg_49, ob_s hq_50] at hq_8
          obtain rfl := (Option.some.inj hq_8).symm
          exact x_sub (lv2 := [(0, _)]) C [1] rfl hj_8
      refine x_goto (tgt := 0) C dX11_machine_196 (by decide) ?_
      exact x_sub (lv2 := [(0, _)]) C [0] rfl (ih j_8 (by rw [fX11_machine_l0, if_neg qc_1, if_pos qg_3, if_pos qg_6, if_pos qg_7, ob_s hq_8] at hf; exact hf) hk)
def fX11_machine (Ω : XO)  : Option (XO) := (fX11_machine_l0 100001 Ω).bind (fun q_1 => (some q_1))
set_option maxRecDepth 20000 in
theorem tX11_machine {G : XG} (hok : XK G)  {Ω : XO} (hd0 : dm G 11 0)   {r : XO} (hf : fX11_machine Ω = some r) : XM G yX11_machine cX11_machine 6 none (RM 5 0) [.ref (ad G 11 0)] Ω (.inl none) (r) := by
  refine x_start (lv := [(0, .ref (ad G 11 0))]) (own := RX11) hok (by decide +kernel) rfl (Nat.le_of_ble_eq_true rfl) rfl (fun B C => ?_)
  rcases opt_em (fX11_machine_l0 100001 Ω) with hq_1 | ⟨q_1, hq_1⟩
  · exact absurd hf (by rw [fX11_machine, ob_n hq_1]; exact nofun)
  refine x_sub (lv2 := [(0, _)]) C [0] rfl (lX11_machine_l0 hok (by assumption) C 100001 Ω hq_1 (fun q9 h9 => ?_))
  cases h9
  rw [fX11_machine, ob_s hq_1] at hf
  obtain rfl := (Option.some.inj hf).symm
  exact x_vreturn C dX11_machine_199 rfl (Nat.le_of_ble_eq_true rfl) (Nat.le_of_ble_eq_true rfl) rfl rfl
def fX11_fit (Ω : XO) (x1 : Int32) (x2 : Int32) : Option (Int32) := (if inB x1 80 then (if inB ((16 : Int32) + (xI Ω 2111 0 x1.toNatClampNeg)) 120 then (if inB x1 80 then (((if (xI Ω 2101 0 ((16 : Int32) + (xI Ω 2111 0 x1.toNatClampNeg)).toNatClampNeg) = (xI Ω 2112 0 x1.toNatClampNeg) then (if inB (xI Ω 2111 0 x1.toNatClampNeg) 120 then (if inB x1 80 then (if inB x1 80 then (if inB x1 80 then (if (xI Ω 2101 0 (xI Ω 2111 0 x1.toNatClampNeg).toNatClampNeg) < ((xI Ω 2114 0 x1.toNatClampNeg) + ((xI Ω 2116 0 x1.toNatClampNeg) * (xI Ω 2117 0 x1.toNatClampNeg))) then (some (0 : Int32)) else (if inB x1 80 then (if (xI Ω 2117 0 x1.toNatClampNeg) < x2 then (some (0 : Int32)) else (some (1 : Int32))) else none)) else none) else none) else none) else none) else (some (0 : Int32))) : Option (Int32))).bind (fun j_7 => (if j_7 = 0 ∨ j_7 = 1 then (some j_7) else none)) else none) else none) else none)
set_option maxRecDepth 20000 in
theorem tX11_fit {G : XG} (hok : XK G) {x1 : Int32} {x2 : Int32} {Ω : XO} (hd0 : dm G 11 0)   {r : Int32} (hf : fX11_fit Ω x1 x2 = some r) : XM G yX11_fit cX11_fit 4 ((some FieldType.boolean)) (RM 0 0) [.ref (ad G 11 0), .int x1, .int x2] Ω (.inl (some (.int (r)))) Ω := by
  refine x_start (lv := [(0, .ref (ad G 11 0)), (1, .int x1), (2, .int x2)]) (own := RX11) hok (by decide +kernel) rfl (Nat.le_of_ble_eq_true rfl) rfl (fun B C => ?_)
  refine x_aload_n (pc2 := 1) C dX11_fit_0 0 rfl rfl rfl ?_
  refine x_getR (f := 1111) (k2 := 2111) (pc2 := 4) C (by assumption) kf_11_40 dX11_fit_1 rfl rfl rfl (rti_i rfl) rfl (fun qd_1 => ?_)
  refine x_iload_n (pc2 := 5) C dX11_fit_4 1 rfl rfl rfl ?_
  rcases (Decidable.em (inB x1 80)).symm with qg_2 | qg_2
  · exact absurd hf (by rw [fX11_fit, if_neg qg_2]; exact nofun)
  refine x_iald (pc2 := 6) C (by assumption) dX11_fit_5 rfl (inB_in qg_2) rfl ?_
  refine x_istore_n (pc2 := 7) (lv2 := [(3, _), (0, _), (1, _), (2, _)]) C dX11_fit_6 rfl (by decide) rfl rfl ?_
  refine x_aload_n (pc2 := 8) C dX11_fit_7 1 rfl rfl rfl ?_
  refine x_getR (f := 1101) (k2 := 2101) (pc2 := 11) C (by assumption) kf_11_13 dX11_fit_8 rfl rfl rfl (rti_i rfl) rfl (fun qd_3 => ?_)
  refine x_bipush (pc2 := 13) (v := 16) C dX11_fit_11 rfl rfl ?_
  refine x_iload_n (pc2 := 14) C dX11_fit_13 0 rfl rfl rfl ?_
  refine x_iadd (pc2 := 15) C dX11_fit_14 rfl ?_
  rcases (Decidable.em (inB ((16 : Int32) + (xI Ω 2111 0 x1.toNatClampNeg)) 120)).symm with qg_4 | qg_4
  · exact absurd hf (by rw [fX11_fit, if_pos qg_2, if_neg qg_4]; exact nofun)
  refine x_iald (pc2 := 16) C (by assumption) dX11_fit_15 rfl (inB_in qg_4) rfl ?_
  refine x_aload_n (pc2 := 17) C dX11_fit_16 1 rfl rfl rfl ?_
  refine x_getR (f := 1112) (k2 := 2112) (pc2 := 20) C (by assumption) kf_11_43 dX11_fit_17 rfl rfl rfl (rti_i rfl) rfl (fun qd_5 => ?_)
  refine x_iload_n (pc2 := 21) C dX11_fit_20 2 rfl rfl rfl ?_
  rcases (Decidable.em (inB x1 80)).symm with qg_6 | qg_6
  · exact absurd hf (by rw [fX11_fit, if_pos qg_2, if_pos qg_4, if_neg qg_6]; exact nofun)
  refine x_iald (pc2 := 22) C (by assumption) dX11_fit_21 rfl (inB_in qg_6) rfl ?_
  rcases opt_em ((if (xI Ω 2101 0 ((16 : Int32) + (xI Ω 2111 0 x1.toNatClampNeg)).toNatClampNeg) = (xI Ω 2112 0 x1.toNatClampNeg) then (if inB (xI Ω 2111 0 x1.toNatClampNeg) 120 then (if inB x1 80 then (if inB x1 80 then (if inB x1 80 then (if (xI Ω 2101 0 (xI Ω 2111 0 x1.toNatClampNeg).toNatClampNeg) < ((xI Ω 2114 0 x1.toNatClampNeg) + ((xI Ω 2116 0 x1.toNatClampNeg) * (xI Ω 2117 0 x1.toNatClampNeg))) then (some (0 : Int32)) else (if inB x1 80 then (if (xI Ω 2117 0 x1.toNatClampNeg) < x2 then (some (0 : Int32)) else (some (1 : Int32))) else none)) else none) else none) else none) else none) else (some (0 : Int32))) : Option (Int32)) with hq_7 | ⟨j_7, hq_7⟩
  · exact absurd hf (by rw [fX11_fit, if_pos qg_2, if_pos qg_4, if_pos qg_6, ob_n hq_7]; exact nofun)
  suffices hj_7 : XW G B 4 69 [] [.int (j_7)] Ω 0 0 by
    refine x_icmp_ne (tgt := 68) (pc2 := 25) C dX11_fit_22 (by decide) rfl (fun qc_8 => ?_) (fun qc_8 => ?_)
    · refine x_iconst (pc2 := 69) (v := 0) C dX11_fit_68 rfl rfl ?_
      rw [if_neg qc_8] at hq_7
      obtain rfl := (Option.some.inj hq_7).symm
      exact x_sub (lv2 := []) C [] rfl hj_7
    · refine x_aload_n (pc2 := 26) C dX11_fit_25 1 rfl rfl rfl ?_
      refine x_getR (f := 1101) (k2 := 2101) (pc2 := 29) C (by assumption) kf_11_13 dX11_fit_26 rfl rfl rfl (rti_i rfl) rfl (fun qd_9 => ?_)
      refine x_iload_n (pc2 := 30) C dX11_fit_29 0 rfl rfl rfl ?_
      rcases (Decidable.em (inB (xI Ω 2111 0 x1.toNatClampNeg) 120)).symm with qg_10 | qg_10
      · exact absurd hq_7 (by rw [if_pos qc_8, if_neg qg_10]; exact nofun)
      refine x_iald (pc2 := 31) C (by assumption) dX11_fit_30 rfl (inB_in qg_10) rfl ?_
      refine x_aload_n (pc2 := 32) C dX11_fit_31 1 rfl rfl rfl ?_
      refine x_getR (f := 1114) (k2 := 2114) (pc2 := 35) C (by assumption) kf_11_49 dX11_fit_32 rfl rfl rfl (rti_i rfl) rfl (fun qd_11 => ?_)
      refine x_iload_n (pc2 := 36) C dX11_fit_35 2 rfl rfl rfl ?_
      rcases (Decidable.em (inB x1 80)).symm with qg_12 | qg_12
      · exact absurd hq_7 (by rw [if_pos qc_8, if_pos qg_10, if_neg qg_12]; exact nofun)
      refine x_iald (pc2 := 37) C (by assumption) dX11_fit_36 rfl (inB_in qg_12) rfl ?_
      refine x_aload_n (pc2 := 38) C dX11_fit_37 1 rfl rfl rfl ?_
      refine x_getR (f := 1116) (k2 := 2116) (pc2 := 41) C (by assumption) kf_11_55 dX11_fit_38 rfl rfl rfl (rti_i rfl) rfl (fun qd_13 => ?_)
      refine x_iload_n (pc2 := 42) C dX11_fit_41 2 rfl rfl rfl ?_
      rcases (Decidable.em (inB x1 80)).symm with qg_14 | qg_14
      · exact absurd hq_7 (by rw [if_pos qc_8, if_pos qg_10, if_pos qg_12, if_neg qg_14]; exact nofun)
      refine x_iald (pc2 := 43) C (by assumption) dX11_fit_42 rfl (inB_in qg_14) rfl ?_
      refine x_aload_n (pc2 := 44) C dX11_fit_43 1 rfl rfl rfl ?_
      refine x_getR (f := 1117) (k2 := 2117) (pc2 := 47) C (by assumption) kf_11_58 dX11_fit_44 rfl rfl rfl (rti_i rfl) rfl (fun qd_15 => ?_)
      refine x_iload_n (pc2 := 48) C dX11_fit_47 2 rfl rfl rfl ?_
      rcases (Decidable.em (inB x1 80)).symm with qg_16 | qg_16
      · exact absurd hq_7 (by rw [if_pos qc_8, if_pos qg_10, if_pos qg_12, if_pos qg_14, if_neg qg_16]; exact nofun)
      refine x_iald (pc2 := 49) C (by assumption) dX11_fit_48 rfl (inB_in qg_16) rfl ?_
      refine x_imul (pc2 := 50) C dX11_fit_49 rfl ?_
      refine x_iadd (pc2 := 51) C dX11_fit_50 rfl ?_
      refine x_icmp_lt (tgt := 68) (pc2 := 54) C dX11_fit_51 (by decide) rfl (fun qc_17 => ?_) (fun qc_17 => ?_)
      · refine x_iconst (pc2 := 69) (v := 0) C dX11_fit_68 rfl rfl ?_
        rw [if_pos qc_8, if_pos qg_10, if_pos qg_12, if_pos qg_14, if_pos qg_16, if_pos qc_17] at hq_7
        obtain rfl := (Option.some.inj hq_7).symm
        exact x_sub (lv2 := []) C [] rfl hj_7
      · refine x_aload_n (pc2 := 55) C dX11_fit_54 1 rfl rfl rfl ?_
        refine x_getR (f := 1117) (k2 := 2117) (pc2 := 58) C (by assumption) kf_11_58 dX11_fit_55 rfl rfl rfl (rti_i rfl) rfl (fun qd_18 => ?_)
        refine x_iload_n (pc2 := 59) C dX11_fit_58 2 rfl rfl rfl ?_
        rcases (Decidable.em (inB x1 80)).symm with qg_19 | qg_19
        · exact absurd hq_7 (by rw [if_pos qc_8, if_pos qg_10, if_pos qg_12, if_pos qg_14, if_pos qg_16, if_neg qc_17, if_neg qg_19]; exact nofun)
        refine x_iald (pc2 := 60) C (by assumption) dX11_fit_59 rfl (inB_in qg_19) rfl ?_
        refine x_iload_n (pc2 := 61) C dX11_fit_60 3 rfl rfl rfl ?_
        refine x_icmp_lt (tgt := 68) (pc2 := 64) C dX11_fit_61 (by decide) rfl (fun qc_20 => ?_) (fun qc_20 => ?_)
        · refine x_iconst (pc2 := 69) (v := 0) C dX11_fit_68 rfl rfl ?_
          rw [if_pos qc_8, if_pos qg_10, if_pos qg_12, if_pos qg_14, if_pos qg_16, if_neg qc_17, if_pos qg_19, if_pos qc_20] at hq_7
          obtain rfl := (Option.some.inj hq_7).symm
          exact x_sub (lv2 := []) C [] rfl hj_7
        · refine x_iconst (pc2 := 65) (v := 1) C dX11_fit_64 rfl rfl ?_
          refine x_goto (tgt := 69) C dX11_fit_65 (by decide) ?_
          rw [if_pos qc_8, if_pos qg_10, if_pos qg_12, if_pos qg_14, if_pos qg_16, if_neg qc_17, if_pos qg_19, if_neg qc_20] at hq_7
          obtain rfl := (Option.some.inj hq_7).symm
          exact x_sub (lv2 := []) C [] rfl hj_7
  rcases (Decidable.em (j_7 = 0 ∨ j_7 = 1)).symm with qg_21 | qg_21
  · exact absurd hf (by rw [fX11_fit, if_pos qg_2, if_pos qg_4, if_pos qg_6, ob_s hq_7, if_neg qg_21]; exact nofun)
  rw [fX11_fit, if_pos qg_2, if_pos qg_4, if_pos qg_6, ob_s hq_7, if_pos qg_21] at hf
  obtain rfl := (Option.some.inj hf).symm
  exact x_zreturn C dX11_fit_69 rfl qg_21 (Nat.le_of_ble_eq_true rfl) (Nat.le_of_ble_eq_true rfl) rfl rfl
def fX11_price (Ω : XO) (x1 : Int32) (x2 : Int32) : Option (Int32) := (if inB x1 80 then (if inB x1 80 then (((if (x2 + (xI Ω 2118 0 x1.toNatClampNeg)) ≤ (xI Ω 2117 0 x1.toNatClampNeg) then (if inB x1 80 then (some (x2 + (xI Ω 2118 0 x1.toNatClampNeg))) else none) else (if inB x1 80 then (some (xI Ω 2117 0 x1.toNatClampNeg)) else none)) : Option (Int32))).bind (fun j_5 => (some j_5)) else none) else none)
set_option maxRecDepth 20000 in
theorem tX11_price {G : XG} (hok : XK G) {x1 : Int32} {x2 : Int32} {Ω : XO} (hd0 : dm G 11 0)   {r : Int32} (hf : fX11_price Ω x1 x2 = some r) : XM G yX11_price cX11_price 3 ((some FieldType.int)) (RM 0 0) [.ref (ad G 11 0), .int x1, .int x2] Ω (.inl (some (.int (r)))) Ω := by
  refine x_start (lv := [(0, .ref (ad G 11 0)), (1, .int x1), (2, .int x2)]) (own := RX11) hok (by decide +kernel) rfl (Nat.le_of_ble_eq_true rfl) rfl (fun B C => ?_)
  refine x_aload_n (pc2 := 1) C dX11_price_0 0 rfl rfl rfl ?_
  refine x_getR (f := 1117) (k2 := 2117) (pc2 := 4) C (by assumption) kf_11_58 dX11_price_1 rfl rfl rfl (rti_i rfl) rfl (fun qd_1 => ?_)
  refine x_iload_n (pc2 := 5) C dX11_price_4 1 rfl rfl rfl ?_
  rcases (Decidable.em (inB x1 80)).symm with qg_2 | qg_2
  · exact absurd hf (by rw [fX11_price, if_neg qg_2]; exact nofun)
  refine x_iald (pc2 := 6) C (by assumption) dX11_price_5 rfl (inB_in qg_2) rfl ?_
  refine x_iload_n (pc2 := 7) C dX11_price_6 2 rfl rfl rfl ?_
  refine x_aload_n (pc2 := 8) C dX11_price_7 0 rfl rfl rfl ?_
  refine x_getR (f := 1118) (k2 := 2118) (pc2 := 11) C (by assumption) kf_11_61 dX11_price_8 rfl rfl rfl (rti_i rfl) rfl (fun qd_3 => ?_)
  refine x_iload_n (pc2 := 12) C dX11_price_11 1 rfl rfl rfl ?_
  rcases (Decidable.em (inB x1 80)).symm with qg_4 | qg_4
  · exact absurd hf (by rw [fX11_price, if_pos qg_2, if_neg qg_4]; exact nofun)
  refine x_iald (pc2 := 13) C (by assumption) dX11_price_12 rfl (inB_in qg_4) rfl ?_
  refine x_iadd (pc2 := 14) C dX11_price_13 rfl ?_
  rcases opt_em ((if (x2 + (xI Ω 2118 0 x1.toNatClampNeg)) ≤ (xI Ω 2117 0 x1.toNatClampNeg) then (if inB x1 80 then (some (x2 + (xI Ω 2118 0 x1.toNatClampNeg))) else none) else (if inB x1 80 then (some (xI Ω 2117 0 x1.toNatClampNeg)) else none)) : Option (Int32)) with hq_5 | ⟨j_5, hq_5⟩
  · exact absurd hf (by rw [fX11_price, if_pos qg_2, if_pos qg_4, ob_n hq_5]; exact nofun)
  suffices hj_5 : XW G B 3 34 [] [.int (j_5)] Ω 0 0 by
    refine x_icmp_ge (tgt := 26) (pc2 := 17) C dX11_price_14 (by decide) rfl (fun qc_6 => ?_) (fun qc_6 => ?_)
    · refine x_iload_n (pc2 := 27) C dX11_price_26 2 rfl rfl rfl ?_
      refine x_aload_n (pc2 := 28) C dX11_price_27 0 rfl rfl rfl ?_
      refine x_getR (f := 1118) (k2 := 2118) (pc2 := 31) C (by assumption) kf_11_61 dX11_price_28 rfl rfl rfl (rti_i rfl) rfl (fun qd_7 => ?_)
      refine x_iload_n (pc2 := 32) C dX11_price_31 1 rfl rfl rfl ?_
      rcases (Decidable.em (inB x1 80)).symm with qg_8 | qg_8
      · exact absurd hq_5 (by rw [if_pos qc_6, if_neg qg_8]; exact nofun)
      refine x_iald (pc2 := 33) C (by assumption) dX11_price_32 rfl (inB_in qg_8) rfl ?_
      refine x_iadd (pc2 := 34) C dX11_price_33 rfl ?_
      rw [if_pos qc_6, if_pos qg_8] at hq_5
      obtain rfl := (Option.some.inj hq_5).symm
      exact x_sub (lv2 := []) C [] rfl hj_5
    · refine x_aload_n (pc2 := 18) C dX11_price_17 0 rfl rfl rfl ?_
      refine x_getR (f := 1117) (k2 := 2117) (pc2 := 21) C (by assumption) kf_11_58 dX11_price_18 rfl rfl rfl (rti_i rfl) rfl (fun qd_9 => ?_)
      refine x_iload_n (pc2 := 22) C dX11_price_21 1 rfl rfl rfl ?_
      rcases (Decidable.em (inB x1 80)).symm with qg_10 | qg_10
      · exact absurd hq_5 (by rw [if_neg qc_6, if_neg qg_10]; exact nofun)
      refine x_iald (pc2 := 23) C (by assumption) dX11_price_22 rfl (inB_in qg_10) rfl ?_
      refine x_goto (tgt := 34) C dX11_price_23 (by decide) ?_
      rw [if_neg qc_6, if_pos qg_10] at hq_5
      obtain rfl := (Option.some.inj hq_5).symm
      exact x_sub (lv2 := []) C [] rfl hj_5
  rw [fX11_price, if_pos qg_2, if_pos qg_4, ob_s hq_5] at hf
  obtain rfl := (Option.some.inj hf).symm
  exact x_ireturn C dX11_price_34 rfl (Nat.le_of_ble_eq_true rfl) (Nat.le_of_ble_eq_true rfl) rfl rfl
def fX11_paysLock (Ω : XO) (x1 : Int32) (x2 : Int32) : Option (Int32 × XO) := (if inB x2 80 then (if inB (((40 : Int32) * ((1 : Int32) - x1)) + (xI Ω 2115 0 x2.toNatClampNeg)) 80 then (if inB ((113 : Int32) + ((xI Ω 2115 0 x2.toNatClampNeg) / (20 : Int32))) 120 then (if (((xI Ω 2101 0 ((113 : Int32) + ((xI Ω 2115 0 x2.toNatClampNeg) / (20 : Int32))).toNatClampNeg) >>> (((xI Ω 2115 0 x2.toNatClampNeg) - (xI Ω 2115 0 x2.toNatClampNeg) / (20 : Int32) * (20 : Int32)) &&& 31)) &&& (1 : Int32)) = (1 : Int32) then (some ((0 : Int32), Ω)) else (if (xI Ω 2114 0 (((40 : Int32) * ((1 : Int32) - x1)) + (xI Ω 2115 0 x2.toNatClampNeg)).toNatClampNeg) ≤ (xI Ω 2101 0 (15 : Int32).toNatClampNeg) then (if inB ((113 : Int32) + ((xI Ω 2115 0 x2.toNatClampNeg) / (20 : Int32))) 120 then (if inB ((113 : Int32) + ((xI Ω 2115 0 x2.toNatClampNeg) / (20 : Int32))) 120 then (wl (uI Ω 2101 0 ((113 : Int32) + ((xI Ω 2115 0 x2.toNatClampNeg) / (20 : Int32))).toNatClampNeg ((xI Ω 2101 0 ((113 : Int32) + ((xI Ω 2115 0 x2.toNatClampNeg) / (20 : Int32))).toNatClampNeg) ||| ((1 : Int32) <<< (((xI Ω 2115 0 x2.toNatClampNeg) - (xI Ω 2115 0 x2.toNatClampNeg) / (20 : Int32) * (20 : Int32)) &&& 31)))) (fun Ω_13 => (if inB (((40 : Int32) * ((1 : Int32) - x1)) + (xI Ω 2115 0 x2.toNatClampNeg)) 80 then (fX11_move Ω_13 (15 : Int32) ((xI Ω_13 2115 0 (((40 : Int32) * ((1 : Int32) - x1)) + (xI Ω 2115 0 x2.toNatClampNeg)).toNatClampNeg) - (xI Ω_13 2115 0 (((40 : Int32) * ((1 : Int32) - x1)) + (xI Ω 2115 0 x2.toNatClampNeg)).toNatClampNeg) / (6 : Int32) * (6 : Int32)) (xI Ω 2114 0 (((40 : Int32) * ((1 : Int32) - x1)) + (xI Ω 2115 0 x2.toNatClampNeg)).toNatClampNeg)).bind (fun r_16 => (some ((1 : Int32), r_16))) else none))) else none) else none) else (some ((0 : Int32), Ω)))) else none) else none) else none)
set_option maxRecDepth 20000 in
theorem tX11_paysLock {G : XG} (hok : XK G) {x1 : Int32} {x2 : Int32} {Ω : XO} (hd0 : dm G 11 0)   {r : Int32 × XO} (hf : fX11_paysLock Ω x1 x2 = some r) : XM G yX11_paysLock cX11_paysLock 6 ((some FieldType.boolean)) (RM 1 0) [.ref (ad G 11 0), .int x1, .int x2] Ω (.inl (some (.int (r.1)))) r.2 := by
  refine x_start (lv := [(0, .ref (ad G 11 0)), (1, .int x1), (2, .int x2)]) (own := RX11) hok (by decide +kernel) rfl (Nat.le_of_ble_eq_true rfl) rfl (fun B C => ?_)
  refine x_aload_n (pc2 := 1) C dX11_paysLock_0 0 rfl rfl rfl ?_
  refine x_getR (f := 1115) (k2 := 2115) (pc2 := 4) C (by assumption) kf_11_52 dX11_paysLock_1 rfl rfl rfl (rti_i rfl) rfl (fun qd_1 => ?_)
  refine x_iload_n (pc2 := 5) C dX11_paysLock_4 2 rfl rfl rfl ?_
  rcases (Decidable.em (inB x2 80)).symm with qg_2 | qg_2
  · exact absurd hf (by rw [fX11_paysLock, if_neg qg_2]; exact nofun)
  refine x_iald (pc2 := 6) C (by assumption) dX11_paysLock_5 rfl (inB_in qg_2) rfl ?_
  refine x_istore_n (pc2 := 7) (lv2 := [(3, _), (0, _), (1, _), (2, _)]) C dX11_paysLock_6 rfl (by decide) rfl rfl ?_
  refine x_bipush (pc2 := 9) (v := 113) C dX11_paysLock_7 rfl rfl ?_
  refine x_iload_n (pc2 := 10) C dX11_paysLock_9 0 rfl rfl rfl ?_
  refine x_bipush (pc2 := 12) (v := 20) C dX11_paysLock_10 rfl rfl ?_
  refine x_idiv (pc2 := 13) C dX11_paysLock_12 (by decide +kernel) rfl ?_
  refine x_iadd (pc2 := 14) C dX11_paysLock_13 rfl ?_
  refine x_istore (pc2 := 16) (lv2 := [(4, _), (3, _), (0, _), (1, _), (2, _)]) C dX11_paysLock_14 (by decide) rfl rfl ?_
  refine x_aload_n (pc2 := 17) C dX11_paysLock_16 2 rfl rfl rfl ?_
  refine x_getR (f := 1114) (k2 := 2114) (pc2 := 20) C (by assumption) kf_11_49 dX11_paysLock_17 rfl rfl rfl (rti_i rfl) rfl (fun qd_3 => ?_)
  refine x_bipush (pc2 := 22) (v := 40) C dX11_paysLock_20 rfl rfl ?_
  refine x_iconst (pc2 := 23) (v := 1) C dX11_paysLock_22 rfl rfl ?_
  refine x_iload_n (pc2 := 24) C dX11_paysLock_23 3 rfl rfl rfl ?_
  refine x_isub (pc2 := 25) C dX11_paysLock_24 rfl ?_
  refine x_imul (pc2 := 26) C dX11_paysLock_25 rfl ?_
  refine x_iload_n (pc2 := 27) C dX11_paysLock_26 1 rfl rfl rfl ?_
  refine x_iadd (pc2 := 28) C dX11_paysLock_27 rfl ?_
  rcases (Decidable.em (inB (((40 : Int32) * ((1 : Int32) - x1)) + (xI Ω 2115 0 x2.toNatClampNeg)) 80)).symm with qg_4 | qg_4
  · exact absurd hf (by rw [fX11_paysLock, if_pos qg_2, if_neg qg_4]; exact nofun)
  refine x_iald (pc2 := 29) C (by assumption) dX11_paysLock_28 rfl (inB_in qg_4) rfl ?_
  refine x_istore (pc2 := 31) (lv2 := [(5, _), (4, _), (3, _), (0, _), (1, _), (2, _)]) C dX11_paysLock_29 (by decide) rfl rfl ?_
  refine x_aload_n (pc2 := 32) C dX11_paysLock_31 3 rfl rfl rfl ?_
  refine x_getR (f := 1101) (k2 := 2101) (pc2 := 35) C (by assumption) kf_11_13 dX11_paysLock_32 rfl rfl rfl (rti_i rfl) rfl (fun qd_5 => ?_)
  refine x_iload (pc2 := 37) C dX11_paysLock_35 1 rfl rfl ?_
  rcases (Decidable.em (inB ((113 : Int32) + ((xI Ω 2115 0 x2.toNatClampNeg) / (20 : Int32))) 120)).symm with qg_6 | qg_6
  · exact absurd hf (by rw [fX11_paysLock, if_pos qg_2, if_pos qg_4, if_neg qg_6]; exact nofun)
  refine x_iald (pc2 := 38) C (by assumption) dX11_paysLock_37 rfl (inB_in qg_6) rfl ?_
  refine x_iload_n (pc2 := 39) C dX11_paysLock_38 2 rfl rfl rfl ?_
  refine x_bipush (pc2 := 41) (v := 20) C dX11_paysLock_39 rfl rfl ?_
  refine x_irem (pc2 := 42) C dX11_paysLock_41 (by decide +kernel) rfl ?_
  refine x_ishr (pc2 := 43) C dX11_paysLock_42 rfl ?_
  refine x_iconst (pc2 := 44) (v := 1) C dX11_paysLock_43 rfl rfl ?_
  refine x_iand (pc2 := 45) C dX11_paysLock_44 rfl ?_
  refine x_iconst (pc2 := 46) (v := 1) C dX11_paysLock_45 rfl rfl ?_
  refine x_icmp_eq (tgt := 61) (pc2 := 49) C dX11_paysLock_46 (by decide) rfl (fun qc_7 => ?_) (fun qc_7 => ?_)
  · refine x_iconst (pc2 := 62) (v := 0) C dX11_paysLock_61 rfl rfl ?_
    rw [fX11_paysLock, if_pos qg_2, if_pos qg_4, if_pos qg_6, if_pos qc_7] at hf
    obtain rfl := (Option.some.inj hf).symm
    exact x_zreturn C dX11_paysLock_62 rfl (by first | exact Or.inl rfl | exact Or.inr rfl) (Nat.le_of_ble_eq_true rfl) (Nat.le_of_ble_eq_true rfl) rfl rfl
  · refine x_aload_n (pc2 := 50) C dX11_paysLock_49 3 rfl rfl rfl ?_
    refine x_getR (f := 1101) (k2 := 2101) (pc2 := 53) C (by assumption) kf_11_13 dX11_paysLock_50 rfl rfl rfl (rti_i rfl) rfl (fun qd_8 => ?_)
    refine x_bipush (pc2 := 55) (v := 15) C dX11_paysLock_53 rfl rfl ?_
    refine x_iald (pc2 := 56) C (by assumption) dX11_paysLock_55 rfl (vp_in_iff.mpr (by decide)) rfl ?_
    refine x_iload (pc2 := 58) C dX11_paysLock_56 0 rfl rfl ?_
    refine x_icmp_ge (tgt := 63) (pc2 := 61) C dX11_paysLock_58 (by decide) rfl (fun qc_9 => ?_) (fun qc_9 => ?_)
    · refine x_aload_n (pc2 := 64) C dX11_paysLock_63 3 rfl rfl rfl ?_
      refine x_getR (f := 1101) (k2 := 2101) (pc2 := 67) C (by assumption) kf_11_13 dX11_paysLock_64 rfl rfl rfl (rti_i rfl) rfl (fun qd_10 => ?_)
      refine x_iload (pc2 := 69) C dX11_paysLock_67 1 rfl rfl ?_
      refine x_dup2 (pc2 := 70) C dX11_paysLock_69 rfl rfl rfl ?_
      rcases (Decidable.em (inB ((113 : Int32) + ((xI Ω 2115 0 x2.toNatClampNeg) / (20 : Int32))) 120)).symm with qg_11 | qg_11
      · exact absurd hf (by rw [fX11_paysLock, if_pos qg_2, if_pos qg_4, if_pos qg_6, if_neg qc_7, if_pos qc_9, if_neg qg_11]; exact nofun)
      refine x_iald (pc2 := 71) C (by assumption) dX11_paysLock_70 rfl (inB_in qg_11) rfl ?_
      refine x_iconst (pc2 := 72) (v := 1) C dX11_paysLock_71 rfl rfl ?_
      refine x_iload_n (pc2 := 73) C dX11_paysLock_72 2 rfl rfl rfl ?_
      refine x_bipush (pc2 := 75) (v := 20) C dX11_paysLock_73 rfl rfl ?_
      refine x_irem (pc2 := 76) C dX11_paysLock_75 (by decide +kernel) rfl ?_
      refine x_ishl (pc2 := 77) C dX11_paysLock_76 rfl ?_
      refine x_ior (pc2 := 78) C dX11_paysLock_77 rfl ?_
      rcases (Decidable.em (inB ((113 : Int32) + ((xI Ω 2115 0 x2.toNatClampNeg) / (20 : Int32))) 120)).symm with qg_12 | qg_12
      · exact absurd hf (by rw [fX11_paysLock, if_pos qg_2, if_pos qg_4, if_pos qg_6, if_neg qc_7, if_pos qc_9, if_pos qg_11, if_neg qg_12]; exact nofun)
      refine x_iast (pc2 := 79) C (by assumption) dX11_paysLock_78 rfl (inB_in qg_12) rfl ?_
      obtain ⟨Ω_13, hw_13⟩ : ∃ z, z = uI Ω 2101 0 ((113 : Int32) + ((xI Ω 2115 0 x2.toNatClampNeg) / (20 : Int32))).toNatClampNeg ((xI Ω 2101 0 ((113 : Int32) + ((xI Ω 2115 0 x2.toNatClampNeg) / (20 : Int32))).toNatClampNeg) ||| ((1 : Int32) <<< (((xI Ω 2115 0 x2.toNatClampNeg) - (xI Ω 2115 0 x2.toNatClampNeg) / (20 : Int32) * (20 : Int32)) &&& 31))) := ⟨_, rfl⟩
      refine x_om hw_13 ?_
      refine x_aload_n (pc2 := 80) C dX11_paysLock_79 3 rfl rfl rfl ?_
      refine x_bipush (pc2 := 82) (v := 15) C dX11_paysLock_80 rfl rfl ?_
      refine x_aload_n (pc2 := 83) C dX11_paysLock_82 3 rfl rfl rfl ?_
      refine x_getR (f := 1115) (k2 := 2115) (pc2 := 86) C (by assumption) kf_11_52 dX11_paysLock_83 rfl rfl rfl (rti_i rfl) rfl (fun qd_14 => ?_)
      refine x_bipush (pc2 := 88) (v := 40) C dX11_paysLock_86 rfl rfl ?_
      refine x_iconst (pc2 := 89) (v := 1) C dX11_paysLock_88 rfl rfl ?_
      refine x_iload_n (pc2 := 90) C dX11_paysLock_89 4 rfl rfl rfl ?_
      refine x_isub (pc2 := 91) C dX11_paysLock_90 rfl ?_
      refine x_imul (pc2 := 92) C dX11_paysLock_91 rfl ?_
      refine x_iload_n (pc2 := 93) C dX11_paysLock_92 2 rfl rfl rfl ?_
      refine x_iadd (pc2 := 94) C dX11_paysLock_93 rfl ?_
      rcases (Decidable.em (inB (((40 : Int32) * ((1 : Int32) - x1)) + (xI Ω 2115 0 x2.toNatClampNeg)) 80)).symm with qg_15 | qg_15
      · exact absurd hf (by rw [fX11_paysLock, if_pos qg_2, if_pos qg_4, if_pos qg_6, if_neg qc_7, if_pos qc_9, if_pos qg_11, if_pos qg_12, wl_eq hw_13, if_neg qg_15]; exact nofun)
      refine x_iald (pc2 := 95) C (by assumption) dX11_paysLock_94 rfl (inB_in qg_15) rfl ?_
      refine x_bipush (pc2 := 97) (v := 6) C dX11_paysLock_95 rfl rfl ?_
      refine x_irem (pc2 := 98) C dX11_paysLock_97 (by decide +kernel) rfl ?_
      refine x_iload (pc2 := 100) C dX11_paysLock_98 0 rfl rfl ?_
      rcases opt_em (fX11_move Ω_13 (15 : Int32) ((xI Ω_13 2115 0 (((40 : Int32) * ((1 : Int32) - x1)) + (xI Ω 2115 0 x2.toNatClampNeg)).toNatClampNeg) - (xI Ω_13 2115 0 (((40 : Int32) * ((1 : Int32) - x1)) + (xI Ω 2115 0 x2.toNatClampNeg)).toNatClampNeg) / (6 : Int32) * (6 : Int32)) (xI Ω 2114 0 (((40 : Int32) * ((1 : Int32) - x1)) + (xI Ω 2115 0 x2.toNatClampNeg)).toNatClampNeg)) with hq_16 | ⟨r_16, hq_16⟩
      · exact absurd hf (by rw [fX11_paysLock, if_pos qg_2, if_pos qg_4, if_pos qg_6, if_neg qc_7, if_pos qc_9, if_pos qg_11, if_pos qg_12, wl_eq hw_13, if_pos qg_15, ob_n hq_16]; exact nofun)
      refine x_ret (rest := []) (st2 := []) (pc2 := 103) (cu2 := 0) (su2 := 0) (x_cV C (by assumption) (Nat.le_of_ble_eq_true rfl) kmX11_move rfl kk_11_277 (tX11_move hok (by assumption)  hq_16) rfl rfl (Nat.le_of_ble_eq_true rfl) ⟨Nat.le_of_ble_eq_true rfl, Nat.le_of_ble_eq_true rfl⟩ ⟨Nat.le_of_ble_eq_true rfl, Nat.le_of_ble_eq_true rfl⟩ dX11_paysLock_100) rfl rfl rfl rfl ?_
      refine x_iconst (pc2 := 104) (v := 1) C dX11_paysLock_103 rfl rfl ?_
      rw [fX11_paysLock, if_pos qg_2, if_pos qg_4, if_pos qg_6, if_neg qc_7, if_pos qc_9, if_pos qg_11, if_pos qg_12, wl_eq hw_13, if_pos qg_15, ob_s hq_16] at hf
      obtain rfl := (Option.some.inj hf).symm
      exact x_zreturn C dX11_paysLock_104 rfl (by first | exact Or.inl rfl | exact Or.inr rfl) (Nat.le_of_ble_eq_true rfl) (Nat.le_of_ble_eq_true rfl) rfl rfl
    · refine x_iconst (pc2 := 62) (v := 0) C dX11_paysLock_61 rfl rfl ?_
      rw [fX11_paysLock, if_pos qg_2, if_pos qg_4, if_pos qg_6, if_neg qc_7, if_neg qc_9] at hf
      obtain rfl := (Option.some.inj hf).symm
      exact x_zreturn C dX11_paysLock_62 rfl (by first | exact Or.inl rfl | exact Or.inr rfl) (Nat.le_of_ble_eq_true rfl) (Nat.le_of_ble_eq_true rfl) rfl rfl
