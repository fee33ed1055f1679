def fX10_step (Ω : XO) (x1 : Int32) (x2 : Int32) (x3 : Int32) : Option ((Option Value ⊕ String) × XO) := (if eX10_demandIndex Ω x1 (8 : Int32) = none then (if eX10_demandRange Ω x2 (0 : Int32) (24 : Int32) = none then (if eX10_demandRange Ω x3 (0 : Int32) (sTb 0 x2) = none then (if (20 : Int32) ≤ (fX5_lengthOf Ω 0 x1) then (some (.inr ((eX10_demandState Ω (0 : Int32)).getD ""), Ω)) else (if (xI Ω 103 ((0 : Int32).toNatClampNeg) 0) = 0 then (if inB ((0 : Int32) + 1) 2 then (if (xI Ω 103 (((0 : Int32) + 1).toNatClampNeg) 0) = 0 then (wl ((fX5_append Ω 0 x1 x2 x3).2) (fun Ω_22 => (some (.inl (some (.int ((fX5_append Ω 0 x1 x2 x3).1))), Ω_22)))) else (some (.inr ((eX10_demandState Ω (0 : Int32)).getD ""), Ω))) else none) else (some (.inr ((eX10_demandState Ω (0 : Int32)).getD ""), Ω)))) else (some (.inr ((eX10_demandRange Ω x3 (0 : Int32) (sTb 0 x2)).getD ""), Ω))) else (some (.inr ((eX10_demandRange Ω x2 (0 : Int32) (24 : Int32)).getD ""), Ω))) else (some (.inr ((eX10_demandIndex Ω x1 (8 : Int32)).getD ""), Ω)))
set_option maxRecDepth 20000 in
theorem tX10_step {G : XG} (hok : XK G) {x1 : Int32} {x2 : Int32} {x3 : Int32} {Ω : XO} (hd0 : dm G 10 0)  {r : (Option Value ⊕ String) × XO} (hf : fX10_step Ω x1 x2 x3 = some r) : XM G yX10_step cX10_step 8 ((some FieldType.int)) (RM 8 6) [.ref (ad G 10 0), .int x1, .int x2, .int x3] Ω r.1 r.2 := by
  refine x_start (lv := [(0, .ref (ad G 10 0)), (1, .int x1), (2, .int x2), (3, .int x3)]) (own := RX10) hok (by decide +kernel) rfl (Nat.le_of_ble_eq_true rfl) rfl (fun B C => ?_)
  refine x_iload_n (pc2 := 1) C dX10_step_0 1 rfl rfl rfl ?_
  refine x_bipush (pc2 := 3) (v := 8) C dX10_step_1 rfl rfl ?_
  rcases Decidable.em (eX10_demandIndex Ω x1 (8 : Int32) = none) with qc_1 | qc_1
  · refine x_ret (rest := []) (st2 := []) (pc2 := 6) (cu2 := 1) (su2 := 6) (x_cS C kmX10_demandIndex kk_10_32 (XM_n qc_1 (tX10_demandIndex hok )) rfl rfl (Nat.le_of_ble_eq_true rfl) ⟨Nat.le_of_ble_eq_true rfl, Nat.le_of_ble_eq_true rfl⟩ ⟨Nat.le_of_ble_eq_true rfl, Nat.le_of_ble_eq_true rfl⟩ dX10_step_3) rfl rfl rfl rfl ?_
    refine x_iload_n (pc2 := 7) C dX10_step_6 2 rfl rfl rfl ?_
    refine x_iconst (pc2 := 8) (v := 0) C dX10_step_7 rfl rfl ?_
    refine x_bipush (pc2 := 10) (v := 24) C dX10_step_8 rfl rfl ?_
    rcases Decidable.em (eX10_demandRange Ω x2 (0 : Int32) (24 : Int32) = none) with qc_2 | qc_2
    · refine x_ret (rest := []) (st2 := []) (pc2 := 13) (cu2 := 2) (su2 := 12) (x_cS C kmX10_demandRange kk_10_36 (XM_n qc_2 (tX10_demandRange hok )) rfl rfl (Nat.le_of_ble_eq_true rfl) ⟨Nat.le_of_ble_eq_true rfl, Nat.le_of_ble_eq_true rfl⟩ ⟨Nat.le_of_ble_eq_true rfl, Nat.le_of_ble_eq_true rfl⟩ dX10_step_10) rfl rfl rfl rfl ?_
      refine x_iload_n (pc2 := 14) C dX10_step_13 3 rfl rfl rfl ?_
      refine x_iconst (pc2 := 15) (v := 0) C dX10_step_14 rfl rfl ?_
      refine x_gets (pc2 := 18) (q := 0) C (by decide) ks_10_40 dX10_step_15 rfl ?_
      refine x_iload_n (pc2 := 19) C dX10_step_18 2 rfl rfl rfl ?_
      refine x_ret (rest := [_, _]) (st2 := [_, _, _]) (pc2 := 22) (cu2 := 2) (su2 := 12) (x_cS C kmX10_at kk_10_44 (tX10_at_s hok (by decide)) rfl rfl (Nat.le_of_ble_eq_true rfl) ⟨Nat.le_of_ble_eq_true rfl, Nat.le_of_ble_eq_true rfl⟩ ⟨Nat.le_of_ble_eq_true rfl, Nat.le_of_ble_eq_true rfl⟩ dX10_step_19) rfl rfl rfl rfl ?_
      rcases Decidable.em (eX10_demandRange Ω x3 (0 : Int32) (sTb 0 x2) = none) with qc_3 | qc_3
      · refine x_ret (rest := []) (st2 := []) (pc2 := 25) (cu2 := 3) (su2 := 18) (x_cS C kmX10_demandRange kk_10_36 (XM_n qc_3 (tX10_demandRange hok )) rfl rfl (Nat.le_of_ble_eq_true rfl) ⟨Nat.le_of_ble_eq_true rfl, Nat.le_of_ble_eq_true rfl⟩ ⟨Nat.le_of_ble_eq_true rfl, Nat.le_of_ble_eq_true rfl⟩ dX10_step_22) rfl rfl rfl rfl ?_
        refine x_aload_n (pc2 := 26) C dX10_step_25 0 rfl rfl rfl ?_
        refine x_getR (f := 1000) (k2 := 5) (pc2 := 29) C (by assumption) kf_10_10 dX10_step_26 rfl rfl rfl (rti_i rfl) rfl (fun qd_4 => ?_)
        refine x_iload_n (pc2 := 30) C dX10_step_29 1 rfl rfl rfl ?_
        refine x_ret (rest := []) (st2 := [_]) (pc2 := 33) (cu2 := 3) (su2 := 18) (x_cV C (by assumption) (Nat.le_of_ble_eq_true rfl) kmX5_lengthOf rfl kk_10_48 (tX5_lengthOf hok (by assumption)) rfl rfl (Nat.le_of_ble_eq_true rfl) ⟨Nat.le_of_ble_eq_true rfl, Nat.le_of_ble_eq_true rfl⟩ ⟨Nat.le_of_ble_eq_true rfl, Nat.le_of_ble_eq_true rfl⟩ dX10_step_30) rfl rfl rfl rfl ?_
        refine x_bipush (pc2 := 35) (v := 20) C dX10_step_33 rfl rfl ?_
        refine x_icmp_ge (tgt := 42) (pc2 := 38) C dX10_step_35 (by decide) rfl (fun qc_5 => ?_) (fun qc_5 => ?_)
        · refine x_iconst (pc2 := 43) (v := 0) C dX10_step_42 rfl rfl ?_
          have qc_6 : ¬ eX10_demandState Ω (0 : Int32) = none := by rw [eX10_demandState, if_pos rfl]; exact nofun
          rw [fX10_step, if_pos qc_1, if_pos qc_2, if_pos qc_3, if_pos qc_5] at hf
          obtain rfl := (Option.some.inj hf).symm
          exact x_thr C (rest := []) (x_cS C kmX10_demandState kk_10_52 (XM_t qc_6 (tX10_demandState hok )) rfl rfl (Nat.le_of_ble_eq_true rfl) ⟨Nat.le_of_ble_eq_true rfl, Nat.le_of_ble_eq_true rfl⟩ ⟨Nat.le_of_ble_eq_true rfl, Nat.le_of_ble_eq_true rfl⟩ dX10_step_43) (Nat.le_of_ble_eq_true rfl) (Nat.le_of_ble_eq_true rfl) rfl rfl
        · refine x_iconst (pc2 := 39) (v := 1) C dX10_step_38 rfl rfl ?_
          refine x_goto (tgt := 43) C dX10_step_39 (by decide) ?_
          have qc_7 : eX10_demandState Ω (1 : Int32) = none := by rw [eX10_demandState, if_neg (by decide)]
          refine x_ret (rest := []) (st2 := []) (pc2 := 46) (cu2 := 4) (su2 := 24) (x_cS C kmX10_demandState kk_10_52 (XM_n qc_7 (tX10_demandState hok )) rfl rfl (Nat.le_of_ble_eq_true rfl) ⟨Nat.le_of_ble_eq_true rfl, Nat.le_of_ble_eq_true rfl⟩ ⟨Nat.le_of_ble_eq_true rfl, Nat.le_of_ble_eq_true rfl⟩ dX10_step_43) rfl rfl rfl rfl ?_
          refine x_aload_n (pc2 := 47) C dX10_step_46 0 rfl rfl rfl ?_
          refine x_getR (f := 1002) (k2 := 2016) (pc2 := 50) C (by assumption) kf_10_27 dX10_step_47 rfl rfl rfl (rti_i rfl) rfl (fun qd_8 => ?_)
          refine x_astore (pc2 := 52) (lv2 := [(4, _), (0, _), (1, _), (2, _), (3, _)]) C dX10_step_50 (by decide) rfl rfl ?_
          refine x_aload (pc2 := 54) C dX10_step_52 0 rfl rfl ?_
          refine x_alen (pc2 := 55) C (by assumption) dX10_step_54 rfl rfl rfl ?_
          refine x_istore (pc2 := 57) (lv2 := [(5, _), (4, _), (0, _), (1, _), (2, _), (3, _)]) C dX10_step_55 (by decide) rfl rfl ?_
          refine x_iconst (pc2 := 58) (v := 0) C dX10_step_57 rfl rfl ?_
          refine x_istore (pc2 := 60) (lv2 := [(6, _), (5, _), (4, _), (0, _), (1, _), (2, _), (3, _)]) C dX10_step_58 (by decide) rfl rfl ?_
          refine x_iload (pc2 := 62) C dX10_step_60 0 rfl rfl ?_
          refine x_iload (pc2 := 64) C dX10_step_62 1 rfl rfl ?_
          refine x_icmp_ge (tgt := 96) (pc2 := 67) C dX10_step_64 (by decide) rfl (fun qc_9 => absurd qc_9 (by decide +kernel)) (fun qc_9 => ?_)
          refine x_aload (pc2 := 69) C dX10_step_67 2 rfl rfl ?_
          refine x_iload (pc2 := 71) C dX10_step_69 0 rfl rfl ?_
          refine x_aald (k2 := 1) (pc2 := 72) C (by assumption) dX10_step_71 rfl rfl (vp_in_iff.mpr (by decide)) rfl (eli_2016 _ _) rfl (fun qd_10 => ?_)
          refine x_astore (pc2 := 74) (lv2 := [(7, _), (6, _), (5, _), (4, _), (0, _), (1, _), (2, _), (3, _)]) C dX10_step_72 (by decide) rfl rfl ?_
          refine x_aload (pc2 := 76) C dX10_step_74 0 rfl rfl ?_
          refine x_getI (pc2 := 79) (f := 103) C (by assumption) kf_10_56 dX10_step_76 rfl rfl rfl ?_
          refine x_if_ne (tgt := 86) (pc2 := 82) C dX10_step_79 (by decide) rfl (fun qc_11 => ?_) (fun qc_11 => ?_)
          · refine x_iconst (pc2 := 87) (v := 0) C dX10_step_86 rfl rfl ?_
            have qc_12 : ¬ eX10_demandState Ω (0 : Int32) = none := by rw [eX10_demandState, if_pos rfl]; exact nofun
            rw [fX10_step, if_pos qc_1, if_pos qc_2, if_pos qc_3, if_neg qc_5, if_neg qc_11] at hf
            obtain rfl := (Option.some.inj hf).symm
            exact x_thr C (rest := []) (x_cS C kmX10_demandState kk_10_52 (XM_t qc_12 (tX10_demandState hok )) rfl rfl (Nat.le_of_ble_eq_true rfl) ⟨Nat.le_of_ble_eq_true rfl, Nat.le_of_ble_eq_true rfl⟩ ⟨Nat.le_of_ble_eq_true rfl, Nat.le_of_ble_eq_true rfl⟩ dX10_step_87) (Nat.le_of_ble_eq_true rfl) (Nat.le_of_ble_eq_true rfl) rfl rfl
          · refine x_iconst (pc2 := 83) (v := 1) C dX10_step_82 rfl rfl ?_
            refine x_goto (tgt := 87) C dX10_step_83 (by decide) ?_
            have qc_13 : eX10_demandState Ω (1 : Int32) = none := by rw [eX10_demandState, if_neg (by decide)]
            refine x_ret (rest := []) (st2 := []) (pc2 := 90) (cu2 := 5) (su2 := 30) (x_cS C kmX10_demandState kk_10_52 (XM_n qc_13 (tX10_demandState hok )) rfl rfl (Nat.le_of_ble_eq_true rfl) ⟨Nat.le_of_ble_eq_true rfl, Nat.le_of_ble_eq_true rfl⟩ ⟨Nat.le_of_ble_eq_true rfl, Nat.le_of_ble_eq_true rfl⟩ dX10_step_87) rfl rfl rfl rfl ?_
            refine x_iinc (pc2 := 93) (v := (0 : Int32) + 1) (lv2 := [(6, _), (7, _), (5, _), (4, _), (0, _), (1, _), (2, _), (3, _)]) C dX10_step_90 1 rfl rfl (by decide) rfl rfl ?_
            refine x_goto (tgt := 60) C dX10_step_93 (by decide) ?_
            refine x_iload (pc2 := 62) C dX10_step_60 0 rfl rfl ?_
            refine x_iload (pc2 := 64) C dX10_step_62 2 rfl rfl ?_
            refine x_icmp_ge (tgt := 96) (pc2 := 67) C dX10_step_64 (by decide) rfl (fun qc_14 => absurd qc_14 (by decide +kernel)) (fun qc_14 => ?_)
            refine x_aload (pc2 := 69) C dX10_step_67 3 rfl rfl ?_
            refine x_iload (pc2 := 71) C dX10_step_69 0 rfl rfl ?_
            rcases (Decidable.em (inB ((0 : Int32) + 1) 2)).symm with qg_15 | qg_15
            · exact absurd hf (by rw [fX10_step, if_pos qc_1, if_pos qc_2, if_pos qc_3, if_neg qc_5, if_pos qc_11, if_neg qg_15]; exact nofun)
            refine x_aald (k2 := 1) (pc2 := 72) C (by assumption) dX10_step_71 rfl rfl (inB_in qg_15) rfl (eli_2016 _ _) rfl (fun qd_16 => ?_)
            refine x_astore (pc2 := 74) (lv2 := [(7, _), (6, _), (5, _), (4, _), (0, _), (1, _), (2, _), (3, _)]) C dX10_step_72 (by decide) rfl rfl ?_
            refine x_aload (pc2 := 76) C dX10_step_74 0 rfl rfl ?_
            refine x_getI (pc2 := 79) (f := 103) C (by assumption) kf_10_56 dX10_step_76 rfl rfl rfl ?_
            refine x_if_ne (tgt := 86) (pc2 := 82) C dX10_step_79 (by decide) rfl (fun qc_17 => ?_) (fun qc_17 => ?_)
            · refine x_iconst (pc2 := 87) (v := 0) C dX10_step_86 rfl rfl ?_
              have qc_18 : ¬ eX10_demandState Ω (0 : Int32) = none := by rw [eX10_demandState, if_pos rfl]; exact nofun
              rw [fX10_step, if_pos qc_1, if_pos qc_2, if_pos qc_3, if_neg qc_5, if_pos qc_11, if_pos qg_15, if_neg qc_17] at hf
              obtain rfl := (Option.some.inj hf).symm
              exact x_thr C (rest := []) (x_cS C kmX10_demandState kk_10_52 (XM_t qc_18 (tX10_demandState hok )) rfl rfl (Nat.le_of_ble_eq_true rfl) ⟨Nat.le_of_ble_eq_true rfl, Nat.le_of_ble_eq_true rfl⟩ ⟨Nat.le_of_ble_eq_true rfl, Nat.le_of_ble_eq_true rfl⟩ dX10_step_87) (Nat.le_of_ble_eq_true rfl) (Nat.le_of_ble_eq_true rfl) rfl rfl
            · refine x_iconst (pc2 := 83) (v := 1) C dX10_step_82 rfl rfl ?_
              refine x_goto (tgt := 87) C dX10_step_83 (by decide) ?_
              have qc_19 : eX10_demandState Ω (1 : Int32) = none := by rw [eX10_demandState, if_neg (by decide)]
              refine x_ret (rest := []) (st2 := []) (pc2 := 90) (cu2 := 6) (su2 := 36) (x_cS C kmX10_demandState kk_10_52 (XM_n qc_19 (tX10_demandState hok )) rfl rfl (Nat.le_of_ble_eq_true rfl) ⟨Nat.le_of_ble_eq_true rfl, Nat.le_of_ble_eq_true rfl⟩ ⟨Nat.le_of_ble_eq_true rfl, Nat.le_of_ble_eq_true rfl⟩ dX10_step_87) rfl rfl rfl rfl ?_
              refine x_iinc (pc2 := 93) (v := ((0 : Int32) + 1) + 1) (lv2 := [(6, _), (7, _), (5, _), (4, _), (0, _), (1, _), (2, _), (3, _)]) C dX10_step_90 1 rfl rfl (by decide) rfl rfl ?_
              refine x_goto (tgt := 60) C dX10_step_93 (by decide) ?_
              refine x_iload (pc2 := 62) C dX10_step_60 0 rfl rfl ?_
              refine x_iload (pc2 := 64) C dX10_step_62 2 rfl rfl ?_
              refine x_icmp_ge (tgt := 96) (pc2 := 67) C dX10_step_64 (by decide) rfl (fun qc_20 => ?_) (fun qc_20 => absurd qc_20 (by decide +kernel))
              refine x_aload_n (pc2 := 97) C dX10_step_96 4 rfl rfl rfl ?_
              refine x_getR (f := 1000) (k2 := 5) (pc2 := 100) C (by assumption) kf_10_10 dX10_step_97 rfl rfl rfl (rti_i rfl) rfl (fun qd_21 => ?_)
              refine x_iload_n (pc2 := 101) C dX10_step_100 5 rfl rfl rfl ?_
              refine x_iload_n (pc2 := 102) C dX10_step_101 6 rfl rfl rfl ?_
              refine x_iload_n (pc2 := 103) C dX10_step_102 7 rfl rfl rfl ?_
              refine x_ret (rest := []) (st2 := [_]) (pc2 := 106) (cu2 := 6) (su2 := 36) (x_cV C (by assumption) (Nat.le_of_ble_eq_true rfl) kmX5_append rfl kk_10_60 (tX5_append hok (by assumption)) rfl rfl (Nat.le_of_ble_eq_true rfl) ⟨Nat.le_of_ble_eq_true rfl, Nat.le_of_ble_eq_true rfl⟩ ⟨Nat.le_of_ble_eq_true rfl, Nat.le_of_ble_eq_true rfl⟩ dX10_step_103) rfl rfl rfl rfl ?_
              obtain ⟨Ω_22, hw_22⟩ : ∃ z, z = (fX5_append Ω 0 x1 x2 x3).2 := ⟨_, rfl⟩
              refine x_om hw_22 ?_
              rw [fX10_step, if_pos qc_1, if_pos qc_2, if_pos qc_3, if_neg qc_5, if_pos qc_11, if_pos qg_15, if_pos qc_17, wl_eq hw_22] at hf
              obtain rfl := (Option.some.inj hf).symm
              exact x_ireturn C dX10_step_106 rfl (Nat.le_of_ble_eq_true rfl) (Nat.le_of_ble_eq_true rfl) rfl rfl
      · rw [fX10_step, if_pos qc_1, if_pos qc_2, if_neg qc_3] at hf
        obtain rfl := (Option.some.inj hf).symm
        exact x_thr C (rest := []) (x_cS C kmX10_demandRange kk_10_36 (XM_t qc_3 (tX10_demandRange hok )) rfl rfl (Nat.le_of_ble_eq_true rfl) ⟨Nat.le_of_ble_eq_true rfl, Nat.le_of_ble_eq_true rfl⟩ ⟨Nat.le_of_ble_eq_true rfl, Nat.le_of_ble_eq_true rfl⟩ dX10_step_22) (Nat.le_of_ble_eq_true rfl) (Nat.le_of_ble_eq_true rfl) rfl rfl
    · rw [fX10_step, if_pos qc_1, if_neg qc_2] at hf
      obtain rfl := (Option.some.inj hf).symm
      exact x_thr C (rest := []) (x_cS C kmX10_demandRange kk_10_36 (XM_t qc_2 (tX10_demandRange hok )) rfl rfl (Nat.le_of_ble_eq_true rfl) ⟨Nat.le_of_ble_eq_true rfl, Nat.le_of_ble_eq_true rfl⟩ ⟨Nat.le_of_ble_eq_true rfl, Nat.le_of_ble_eq_true rfl⟩ dX10_step_10) (Nat.le_of_ble_eq_true rfl) (Nat.le_of_ble_eq_true rfl) rfl rfl
  · rw [fX10_step, if_neg qc_1] at hf
    obtain rfl := (Option.some.inj hf).symm
    exact x_thr C (rest := []) (x_cS C kmX10_demandIndex kk_10_32 (XM_t qc_1 (tX10_demandIndex hok )) rfl rfl (Nat.le_of_ble_eq_true rfl) ⟨Nat.le_of_ble_eq_true rfl, Nat.le_of_ble_eq_true rfl⟩ ⟨Nat.le_of_ble_eq_true rfl, Nat.le_of_ble_eq_true rfl⟩ dX10_step_3) (Nat.le_of_ble_eq_true rfl) (Nat.le_of_ble_eq_true rfl) rfl rfl
def fX10_make (Ω : XO) (x1 : Int32) (x2 : Int32) (x3 : Int32) (x4 : Int32) : Option ((Option Value ⊕ String) × XO) := (if eX10_demandChain Ω 0 x1 = none then (if eX10_demandBlock Ω 0 x1 x2 = none then (if eX10_demandIndex Ω x3 (6 : Int32) = none then (if eX10_demandRange Ω x4 (1 : Int32) (9 : Int32) = none then (if (24 : Int32) ≤ (xI Ω 101 (rX10_demandChain Ω 0 x1) 0) then (some (.inr ((eX10_demandState Ω (0 : Int32)).getD ""), Ω)) else (if (xI Ω 13 (rX10_demandBlock Ω 0 x1 x2) 0) = 0 then (fX1_grow Ω (rX10_demandChain Ω 0 x1) (rX10_demandBlock Ω 0 x1 x2) x3 x4).bind (fun r_13 => (some (.inl (some (.int (r_13.1))), r_13.2))) else (some (.inr ((eX10_demandState Ω (0 : Int32)).getD ""), Ω)))) else (some (.inr ((eX10_demandRange Ω x4 (1 : Int32) (9 : Int32)).getD ""), Ω))) else (some (.inr ((eX10_demandIndex Ω x3 (6 : Int32)).getD ""), Ω))) else (some (.inr ((eX10_demandBlock Ω 0 x1 x2).getD ""), Ω))) else (some (.inr ((eX10_demandChain Ω 0 x1).getD ""), Ω)))
set_option maxRecDepth 20000 in
theorem tX10_make {G : XG} (hok : XK G) {x1 : Int32} {x2 : Int32} {x3 : Int32} {x4 : Int32} {Ω : XO} (hd0 : dm G 10 0)  {r : (Option Value ⊕ String) × XO} (hf : fX10_make Ω x1 x2 x3 x4 = some r) : XM G yX10_make cX10_make 7 ((some FieldType.int)) (RM 16 6) [.ref (ad G 10 0), .int x1, .int x2, .int x3, .int x4] Ω r.1 r.2 := by
  refine x_start (lv := [(0, .ref (ad G 10 0)), (1, .int x1), (2, .int x2), (3, .int x3), (4, .int x4)]) (own := RX10) hok (by decide +kernel) rfl (Nat.le_of_ble_eq_true rfl) rfl (fun B C => ?_)
  refine x_aload_n (pc2 := 1) C dX10_make_0 0 rfl rfl rfl ?_
  refine x_iload_n (pc2 := 2) C dX10_make_1 1 rfl rfl rfl ?_
  rcases Decidable.em (eX10_demandChain Ω 0 x1 = none) with qc_1 | qc_1
  · refine x_ret (rest := []) (st2 := [_]) (pc2 := 5) (cu2 := 1) (su2 := 6) (x_cV C (by assumption) (Nat.le_of_ble_eq_true rfl) kmX10_demandChain rfl kk_10_64 (XM_n qc_1 (tX10_demandChain hok (by assumption))) rfl rfl (Nat.le_of_ble_eq_true rfl) ⟨Nat.le_of_ble_eq_true rfl, Nat.le_of_ble_eq_true rfl⟩ ⟨Nat.le_of_ble_eq_true rfl, Nat.le_of_ble_eq_true rfl⟩ dX10_make_2) rfl rfl rfl rfl ?_
    have qd_2 := D_demandChain hok (Ω := Ω) (by assumption) qc_1
    refine x_astore (pc2 := 7) (lv2 := [(5, _), (0, _), (1, _), (2, _), (3, _), (4, _)]) C dX10_make_5 (by decide) rfl rfl ?_
    refine x_aload_n (pc2 := 8) C dX10_make_7 1 rfl rfl rfl ?_
    refine x_iload_n (pc2 := 9) C dX10_make_8 2 rfl rfl rfl ?_
    refine x_iload_n (pc2 := 10) C dX10_make_9 3 rfl rfl rfl ?_
    rcases Decidable.em (eX10_demandBlock Ω 0 x1 x2 = none) with qc_3 | qc_3
    · refine x_ret (rest := []) (st2 := [_]) (pc2 := 13) (cu2 := 3) (su2 := 18) (x_cV C (by assumption) (Nat.le_of_ble_eq_true rfl) kmX10_demandBlock rfl kk_10_120 (XM_n qc_3 (tX10_demandBlock hok (by assumption))) rfl rfl (Nat.le_of_ble_eq_true rfl) ⟨Nat.le_of_ble_eq_true rfl, Nat.le_of_ble_eq_true rfl⟩ ⟨Nat.le_of_ble_eq_true rfl, Nat.le_of_ble_eq_true rfl⟩ dX10_make_10) rfl rfl rfl rfl ?_
      have qd_4 := D_demandBlock hok (Ω := Ω) (by assumption) qc_3
      refine x_astore (pc2 := 15) (lv2 := [(6, _), (5, _), (0, _), (1, _), (2, _), (3, _), (4, _)]) C dX10_make_13 (by decide) rfl rfl ?_
      refine x_iload_n (pc2 := 16) C dX10_make_15 5 rfl rfl rfl ?_
      refine x_bipush (pc2 := 18) (v := 6) C dX10_make_16 rfl rfl ?_
      rcases Decidable.em (eX10_demandIndex Ω x3 (6 : Int32) = none) with qc_5 | qc_5
      · refine x_ret (rest := []) (st2 := []) (pc2 := 21) (cu2 := 4) (su2 := 24) (x_cS C kmX10_demandIndex kk_10_32 (XM_n qc_5 (tX10_demandIndex hok )) rfl rfl (Nat.le_of_ble_eq_true rfl) ⟨Nat.le_of_ble_eq_true rfl, Nat.le_of_ble_eq_true rfl⟩ ⟨Nat.le_of_ble_eq_true rfl, Nat.le_of_ble_eq_true rfl⟩ dX10_make_18) rfl rfl rfl rfl ?_
        refine x_iload (pc2 := 23) C dX10_make_21 6 rfl rfl ?_
        refine x_iconst (pc2 := 24) (v := 1) C dX10_make_23 rfl rfl ?_
        refine x_bipush (pc2 := 26) (v := 9) C dX10_make_24 rfl rfl ?_
        rcases Decidable.em (eX10_demandRange Ω x4 (1 : Int32) (9 : Int32) = none) with qc_6 | qc_6
        · refine x_ret (rest := []) (st2 := []) (pc2 := 29) (cu2 := 5) (su2 := 30) (x_cS C kmX10_demandRange kk_10_36 (XM_n qc_6 (tX10_demandRange hok )) rfl rfl (Nat.le_of_ble_eq_true rfl) ⟨Nat.le_of_ble_eq_true rfl, Nat.le_of_ble_eq_true rfl⟩ ⟨Nat.le_of_ble_eq_true rfl, Nat.le_of_ble_eq_true rfl⟩ dX10_make_26) rfl rfl rfl rfl ?_
          refine x_aload (pc2 := 31) C dX10_make_29 1 rfl rfl ?_
          refine x_getI (pc2 := 34) (f := 101) C (by assumption) kf_10_68 dX10_make_31 rfl rfl rfl ?_
          refine x_bipush (pc2 := 36) (v := 24) C dX10_make_34 rfl rfl ?_
          refine x_icmp_ge (tgt := 51) (pc2 := 39) C dX10_make_36 (by decide) rfl (fun qc_7 => ?_) (fun qc_7 => ?_)
          · refine x_iconst (pc2 := 52) (v := 0) C dX10_make_51 rfl rfl ?_
            have qc_8 : ¬ eX10_demandState Ω (0 : Int32) = none := by rw [eX10_demandState, if_pos rfl]; exact nofun
            rw [fX10_make, if_pos qc_1, if_pos qc_3, if_pos qc_5, if_pos qc_6, if_pos qc_7] at hf
            obtain rfl := (Option.some.inj hf).symm
            exact x_thr C (rest := []) (x_cS C kmX10_demandState kk_10_52 (XM_t qc_8 (tX10_demandState hok )) rfl rfl (Nat.le_of_ble_eq_true rfl) ⟨Nat.le_of_ble_eq_true rfl, Nat.le_of_ble_eq_true rfl⟩ ⟨Nat.le_of_ble_eq_true rfl, Nat.le_of_ble_eq_true rfl⟩ dX10_make_52) (Nat.le_of_ble_eq_true rfl) (Nat.le_of_ble_eq_true rfl) rfl rfl
          · refine x_aload (pc2 := 41) C dX10_make_39 0 rfl rfl ?_
            refine x_getI (pc2 := 44) (f := 13) C (by assumption) kf_10_124 dX10_make_41 rfl rfl rfl ?_
            refine x_if_ne (tgt := 51) (pc2 := 47) C dX10_make_44 (by decide) rfl (fun qc_9 => ?_) (fun qc_9 => ?_)
            · refine x_iconst (pc2 := 52) (v := 0) C dX10_make_51 rfl rfl ?_
              have qc_10 : ¬ eX10_demandState Ω (0 : Int32) = none := by rw [eX10_demandState, if_pos rfl]; exact nofun
              rw [fX10_make, if_pos qc_1, if_pos qc_3, if_pos qc_5, if_pos qc_6, if_neg qc_7, if_neg qc_9] at hf
              obtain rfl := (Option.some.inj hf).symm
              exact x_thr C (rest := []) (x_cS C kmX10_demandState kk_10_52 (XM_t qc_10 (tX10_demandState hok )) rfl rfl (Nat.le_of_ble_eq_true rfl) ⟨Nat.le_of_ble_eq_true rfl, Nat.le_of_ble_eq_true rfl⟩ ⟨Nat.le_of_ble_eq_true rfl, Nat.le_of_ble_eq_true rfl⟩ dX10_make_52) (Nat.le_of_ble_eq_true rfl) (Nat.le_of_ble_eq_true rfl) rfl rfl
            · refine x_iconst (pc2 := 48) (v := 1) C dX10_make_47 rfl rfl ?_
              refine x_goto (tgt := 52) C dX10_make_48 (by decide) ?_
              have qc_11 : eX10_demandState Ω (1 : Int32) = none := by rw [eX10_demandState, if_neg (by decide)]
              refine x_ret (rest := []) (st2 := []) (pc2 := 55) (cu2 := 6) (su2 := 36) (x_cS C kmX10_demandState kk_10_52 (XM_n qc_11 (tX10_demandState hok )) rfl rfl (Nat.le_of_ble_eq_true rfl) ⟨Nat.le_of_ble_eq_true rfl, Nat.le_of_ble_eq_true rfl⟩ ⟨Nat.le_of_ble_eq_true rfl, Nat.le_of_ble_eq_true rfl⟩ dX10_make_52) rfl rfl rfl rfl ?_
              refine x_aload (pc2 := 57) C dX10_make_55 1 rfl rfl ?_
              refine x_aload_n (pc2 := 58) C dX10_make_57 2 rfl rfl rfl ?_
              refine x_getR (f := 1001) (k2 := 4) (pc2 := 61) C (by assumption) kf_10_21 dX10_make_58 rfl rfl rfl (rti_i rfl) rfl (fun qd_12 => ?_)
              refine x_aload (pc2 := 63) C dX10_make_61 0 rfl rfl ?_
              refine x_iload_n (pc2 := 64) C dX10_make_63 5 rfl rfl rfl ?_
              refine x_iload (pc2 := 66) C dX10_make_64 6 rfl rfl ?_
              rcases hq_13 : fX1_grow Ω (rX10_demandChain Ω 0 x1) (rX10_demandBlock Ω 0 x1 x2) x3 x4 with _ | r_13
              · exact absurd hf (by rw [fX10_make, if_pos qc_1, if_pos qc_3, if_pos qc_5, if_pos qc_6, if_neg qc_7, if_pos qc_9, hq_13, Option.bind_none]; exact nofun)
              refine x_ret (rest := []) (st2 := [_]) (pc2 := 69) (cu2 := 6) (su2 := 36) (x_cV C (by assumption) (Nat.le_of_ble_eq_true rfl) kmX1_grow rfl kk_10_128 (tX1_grow hok (by assumption) (by assumption) (by assumption)  hq_13) rfl rfl (Nat.le_of_ble_eq_true rfl) ⟨Nat.le_of_ble_eq_true rfl, Nat.le_of_ble_eq_true rfl⟩ ⟨Nat.le_of_ble_eq_true rfl, Nat.le_of_ble_eq_true rfl⟩ dX10_make_66) rfl rfl rfl rfl ?_
              rw [fX10_make, if_pos qc_1, if_pos qc_3, if_pos qc_5, if_pos qc_6, if_neg qc_7, if_pos qc_9, hq_13, Option.bind_some] at hf
              obtain rfl := (Option.some.inj hf).symm
              exact x_ireturn C dX10_make_69 rfl (Nat.le_of_ble_eq_true rfl) (Nat.le_of_ble_eq_true rfl) rfl rfl
        · rw [fX10_make, if_pos qc_1, if_pos qc_3, if_pos qc_5, if_neg qc_6] at hf
          obtain rfl := (Option.some.inj hf).symm
          exact x_thr C (rest := []) (x_cS C kmX10_demandRange kk_10_36 (XM_t qc_6 (tX10_demandRange hok )) rfl rfl (Nat.le_of_ble_eq_true rfl) ⟨Nat.le_of_ble_eq_true rfl, Nat.le_of_ble_eq_true rfl⟩ ⟨Nat.le_of_ble_eq_true rfl, Nat.le_of_ble_eq_true rfl⟩ dX10_make_26) (Nat.le_of_ble_eq_true rfl) (Nat.le_of_ble_eq_true rfl) rfl rfl
      · rw [fX10_make, if_pos qc_1, if_pos qc_3, if_neg qc_5] at hf
        obtain rfl := (Option.some.inj hf).symm
        exact x_thr C (rest := []) (x_cS C kmX10_demandIndex kk_10_32 (XM_t qc_5 (tX10_demandIndex hok )) rfl rfl (Nat.le_of_ble_eq_true rfl) ⟨Nat.le_of_ble_eq_true rfl, Nat.le_of_ble_eq_true rfl⟩ ⟨Nat.le_of_ble_eq_true rfl, Nat.le_of_ble_eq_true rfl⟩ dX10_make_18) (Nat.le_of_ble_eq_true rfl) (Nat.le_of_ble_eq_true rfl) rfl rfl
    · rw [fX10_make, if_pos qc_1, if_neg qc_3] at hf
      obtain rfl := (Option.some.inj hf).symm
      exact x_thr C (rest := []) (x_cV C (by assumption) (Nat.le_of_ble_eq_true rfl) kmX10_demandBlock rfl kk_10_120 (XM_t qc_3 (tX10_demandBlock hok (by assumption))) rfl rfl (Nat.le_of_ble_eq_true rfl) ⟨Nat.le_of_ble_eq_true rfl, Nat.le_of_ble_eq_true rfl⟩ ⟨Nat.le_of_ble_eq_true rfl, Nat.le_of_ble_eq_true rfl⟩ dX10_make_10) (Nat.le_of_ble_eq_true rfl) (Nat.le_of_ble_eq_true rfl) rfl rfl
  · rw [fX10_make, if_neg qc_1] at hf
    obtain rfl := (Option.some.inj hf).symm
    exact x_thr C (rest := []) (x_cV C (by assumption) (Nat.le_of_ble_eq_true rfl) kmX10_demandChain rfl kk_10_64 (XM_t qc_1 (tX10_demandChain hok (by assumption))) rfl rfl (Nat.le_of_ble_eq_true rfl) ⟨Nat.le_of_ble_eq_true rfl, Nat.le_of_ble_eq_true rfl⟩ ⟨Nat.le_of_ble_eq_true rfl, Nat.le_of_ble_eq_true rfl⟩ dX10_make_2) (Nat.le_of_ble_eq_true rfl) (Nat.le_of_ble_eq_true rfl) rfl rfl
def fX10_rootAnew (Ω : XO) (x1 : Int32) (x2 : Int32) : Option ((Option Value ⊕ String) × XO) := (if eX10_demandBlock Ω 0 x1 x2 = none then (if eX10_demandChain Ω 0 x1 = none then (fX1_runAnew Ω (rX10_demandChain Ω 0 x1) (rX10_demandBlock Ω 0 x1 x2)).bind (fun r_6 => (some (.inl (some (.int (r_6.1))), r_6.2))) else (some (.inr ((eX10_demandChain Ω 0 x1).getD ""), Ω))) else (some (.inr ((eX10_demandBlock Ω 0 x1 x2).getD ""), Ω)))
set_option maxRecDepth 20000 in
theorem tX10_rootAnew {G : XG} (hok : XK G) {x1 : Int32} {x2 : Int32} {Ω : XO} (hd0 : dm G 10 0)  {r : (Option Value ⊕ String) × XO} (hf : fX10_rootAnew Ω x1 x2 = some r) : XM G yX10_rootAnew cX10_rootAnew 4 ((some FieldType.int)) (RM 16 3) [.ref (ad G 10 0), .int x1, .int x2] Ω r.1 r.2 := by
  refine x_start (lv := [(0, .ref (ad G 10 0)), (1, .int x1), (2, .int x2)]) (own := RX10) hok (by decide +kernel) rfl (Nat.le_of_ble_eq_true rfl) rfl (fun B C => ?_)
  refine x_aload_n (pc2 := 1) C dX10_rootAnew_0 0 rfl rfl rfl ?_
  refine x_iload_n (pc2 := 2) C dX10_rootAnew_1 1 rfl rfl rfl ?_
  refine x_iload_n (pc2 := 3) C dX10_rootAnew_2 2 rfl rfl rfl ?_
  rcases Decidable.em (eX10_demandBlock Ω 0 x1 x2 = none) with qc_1 | qc_1
  · refine x_ret (rest := []) (st2 := [_]) (pc2 := 6) (cu2 := 2) (su2 := 12) (x_cV C (by assumption) (Nat.le_of_ble_eq_true rfl) kmX10_demandBlock rfl kk_10_120 (XM_n qc_1 (tX10_demandBlock hok (by assumption))) rfl rfl (Nat.le_of_ble_eq_true rfl) ⟨Nat.le_of_ble_eq_true rfl, Nat.le_of_ble_eq_true rfl⟩ ⟨Nat.le_of_ble_eq_true rfl, Nat.le_of_ble_eq_true rfl⟩ dX10_rootAnew_3) rfl rfl rfl rfl ?_
    have qd_2 := D_demandBlock hok (Ω := Ω) (by assumption) qc_1
    refine x_astore_n (pc2 := 7) (lv2 := [(3, _), (0, _), (1, _), (2, _)]) C dX10_rootAnew_6 rfl (by decide) rfl rfl ?_
    refine x_aload_n (pc2 := 8) C dX10_rootAnew_7 1 rfl rfl rfl ?_
    refine x_iload_n (pc2 := 9) C dX10_rootAnew_8 2 rfl rfl rfl ?_
    rcases Decidable.em (eX10_demandChain Ω 0 x1 = none) with qc_3 | qc_3
    · refine x_ret (rest := []) (st2 := [_]) (pc2 := 12) (cu2 := 3) (su2 := 18) (x_cV C (by assumption) (Nat.le_of_ble_eq_true rfl) kmX10_demandChain rfl kk_10_64 (XM_n qc_3 (tX10_demandChain hok (by assumption))) rfl rfl (Nat.le_of_ble_eq_true rfl) ⟨Nat.le_of_ble_eq_true rfl, Nat.le_of_ble_eq_true rfl⟩ ⟨Nat.le_of_ble_eq_true rfl, Nat.le_of_ble_eq_true rfl⟩ dX10_rootAnew_9) rfl rfl rfl rfl ?_
      have qd_4 := D_demandChain hok (Ω := Ω) (by assumption) qc_3
      refine x_aload_n (pc2 := 13) C dX10_rootAnew_12 1 rfl rfl rfl ?_
      refine x_getR (f := 1001) (k2 := 4) (pc2 := 16) C (by assumption) kf_10_21 dX10_rootAnew_13 rfl rfl rfl (rti_i rfl) rfl (fun qd_5 => ?_)
      refine x_aload_n (pc2 := 17) C dX10_rootAnew_16 0 rfl rfl rfl ?_
      rcases hq_6 : fX1_runAnew Ω (rX10_demandChain Ω 0 x1) (rX10_demandBlock Ω 0 x1 x2) with _ | r_6
      · exact absurd hf (by rw [fX10_rootAnew, if_pos qc_1, if_pos qc_3, hq_6, Option.bind_none]; exact nofun)
      refine x_ret (rest := []) (st2 := [_]) (pc2 := 20) (cu2 := 3) (su2 := 18) (x_cV C (by assumption) (Nat.le_of_ble_eq_true rfl) kmX1_runAnew rfl kk_10_185 (tX1_runAnew hok (by assumption) (by assumption) (by assumption)  hq_6) rfl rfl (Nat.le_of_ble_eq_true rfl) ⟨Nat.le_of_ble_eq_true rfl, Nat.le_of_ble_eq_true rfl⟩ ⟨Nat.le_of_ble_eq_true rfl, Nat.le_of_ble_eq_true rfl⟩ dX10_rootAnew_17) rfl rfl rfl rfl ?_
      rw [fX10_rootAnew, if_pos qc_1, if_pos qc_3, hq_6, Option.bind_some] at hf
      obtain rfl := (Option.some.inj hf).symm
      exact x_ireturn C dX10_rootAnew_20 rfl (Nat.le_of_ble_eq_true rfl) (Nat.le_of_ble_eq_true rfl) rfl rfl
    · rw [fX10_rootAnew, if_pos qc_1, if_neg qc_3] at hf
      obtain rfl := (Option.some.inj hf).symm
      exact x_thr C (rest := []) (x_cV C (by assumption) (Nat.le_of_ble_eq_true rfl) kmX10_demandChain rfl kk_10_64 (XM_t qc_3 (tX10_demandChain hok (by assumption))) rfl rfl (Nat.le_of_ble_eq_true rfl) ⟨Nat.le_of_ble_eq_true rfl, Nat.le_of_ble_eq_true rfl⟩ ⟨Nat.le_of_ble_eq_true rfl, Nat.le_of_ble_eq_true rfl⟩ dX10_rootAnew_9) (Nat.le_of_ble_eq_true rfl) (Nat.le_of_ble_eq_true rfl) rfl rfl
  · rw [fX10_rootAnew, if_neg qc_1] at hf
    obtain rfl := (Option.some.inj hf).symm
    exact x_thr C (rest := []) (x_cV C (by assumption) (Nat.le_of_ble_eq_true rfl) kmX10_demandBlock rfl kk_10_120 (XM_t qc_1 (tX10_demandBlock hok (by assumption))) rfl rfl (Nat.le_of_ble_eq_true rfl) ⟨Nat.le_of_ble_eq_true rfl, Nat.le_of_ble_eq_true rfl⟩ ⟨Nat.le_of_ble_eq_true rfl, Nat.le_of_ble_eq_true rfl⟩ dX10_rootAnew_3) (Nat.le_of_ble_eq_true rfl) (Nat.le_of_ble_eq_true rfl) rfl rfl
def fX10_vote (Ω : XO) (x1 : Int32) (x2 : Int32) (x3 : Int32) (x4 : Int32) : Option ((Option Value ⊕ String) × XO) := (if eX10_demandChain Ω 0 x1 = none then (if eX10_demandIndex Ω x2 (4 : Int32) = none then (if eX10_demandBlock Ω 0 x1 x3 = none then (if eX10_demandBlock Ω 0 x1 x4 = none then (if x3 = x4 then (some (.inr ((eX10_demandArgument Ω (0 : Int32)).getD ""), Ω)) else (if (fX0_comesFrom Ω (rX10_demandBlock Ω 0 x1 x4) (rX10_demandBlock Ω 0 x1 x3)) = 0 then (some (.inr ((eX10_demandArgument Ω (0 : Int32)).getD ""), Ω)) else (if (xI Ω 802 (fX2_validator Ω (rX10_demandChain Ω 0 x1) x2) 0) = 0 then (if (20 : Int32) ≤ (xI Ω 801 (fX2_validator Ω (rX10_demandChain Ω 0 x1) x2) 0) then (some (.inr ((eX10_demandState Ω (0 : Int32)).getD ""), Ω)) else (wl ((fX8_give Ω (fX2_validator Ω (rX10_demandChain Ω 0 x1) x2) (rX10_demandBlock Ω 0 x1 x3) (rX10_demandBlock Ω 0 x1 x4)).2) (fun Ω_20 => (fX2_settle Ω_20 (rX10_demandChain Ω 0 x1) (rX10_demandChain Ω 0 x1)).bind (fun r_23 => (if ((fX8_give Ω (fX2_validator Ω (rX10_demandChain Ω 0 x1) x2) (rX10_demandBlock Ω 0 x1 x3) (rX10_demandBlock Ω 0 x1 x4)).1) = 0 ∨ ((fX8_give Ω (fX2_validator Ω (rX10_demandChain Ω 0 x1) x2) (rX10_demandBlock Ω 0 x1 x3) (rX10_demandBlock Ω 0 x1 x4)).1) = 1 then (some (.inl (some (.int ((fX8_give Ω (fX2_validator Ω (rX10_demandChain Ω 0 x1) x2) (rX10_demandBlock Ω 0 x1 x3) (rX10_demandBlock Ω 0 x1 x4)).1))), r_23)) else none))))) else (some (.inr ((eX10_demandState Ω (0 : Int32)).getD ""), Ω))))) else (some (.inr ((eX10_demandBlock Ω 0 x1 x4).getD ""), Ω))) else (some (.inr ((eX10_demandBlock Ω 0 x1 x3).getD ""), Ω))) else (some (.inr ((eX10_demandIndex Ω x2 (4 : Int32)).getD ""), Ω))) else (some (.inr ((eX10_demandChain Ω 0 x1).getD ""), Ω)))
set_option maxRecDepth 20000 in
theorem tX10_vote {G : XG} (hok : XK G) {x1 : Int32} {x2 : Int32} {x3 : Int32} {x4 : Int32} {Ω : XO} (hd0 : dm G 10 0)  {r : (Option Value ⊕ String) × XO} (hf : fX10_vote Ω x1 x2 x3 x4 = some r) : XM G yX10_vote cX10_vote 10 ((some FieldType.boolean)) (RM 8 8) [.ref (ad G 10 0), .int x1, .int x2, .int x3, .int x4] Ω r.1 r.2 := by
  refine x_start (lv := [(0, .ref (ad G 10 0)), (1, .int x1), (2, .int x2), (3, .int x3), (4, .int x4)]) (own := RX10) hok (by decide +kernel) rfl (Nat.le_of_ble_eq_true rfl) rfl (fun B C => ?_)
  refine x_aload_n (pc2 := 1) C dX10_vote_0 0 rfl rfl rfl ?_
  refine x_iload_n (pc2 := 2) C dX10_vote_1 1 rfl rfl rfl ?_
  rcases Decidable.em (eX10_demandChain Ω 0 x1 = none) with qc_1 | qc_1
  · refine x_ret (rest := []) (st2 := [_]) (pc2 := 5) (cu2 := 1) (su2 := 6) (x_cV C (by assumption) (Nat.le_of_ble_eq_true rfl) kmX10_demandChain rfl kk_10_64 (XM_n qc_1 (tX10_demandChain hok (by assumption))) rfl rfl (Nat.le_of_ble_eq_true rfl) ⟨Nat.le_of_ble_eq_true rfl, Nat.le_of_ble_eq_true rfl⟩ ⟨Nat.le_of_ble_eq_true rfl, Nat.le_of_ble_eq_true rfl⟩ dX10_vote_2) rfl rfl rfl rfl ?_
    have qd_2 := D_demandChain hok (Ω := Ω) (by assumption) qc_1
    refine x_astore (pc2 := 7) (lv2 := [(5, _), (0, _), (1, _), (2, _), (3, _), (4, _)]) C dX10_vote_5 (by decide) rfl rfl ?_
    refine x_iload_n (pc2 := 8) C dX10_vote_7 3 rfl rfl rfl ?_
    refine x_iconst (pc2 := 9) (v := 4) C dX10_vote_8 rfl rfl ?_
    rcases Decidable.em (eX10_demandIndex Ω x2 (4 : Int32) = none) with qc_3 | qc_3
    · refine x_ret (rest := []) (st2 := []) (pc2 := 12) (cu2 := 2) (su2 := 12) (x_cS C kmX10_demandIndex kk_10_32 (XM_n qc_3 (tX10_demandIndex hok )) rfl rfl (Nat.le_of_ble_eq_true rfl) ⟨Nat.le_of_ble_eq_true rfl, Nat.le_of_ble_eq_true rfl⟩ ⟨Nat.le_of_ble_eq_true rfl, Nat.le_of_ble_eq_true rfl⟩ dX10_vote_9) rfl rfl rfl rfl ?_
      refine x_aload_n (pc2 := 13) C dX10_vote_12 1 rfl rfl rfl ?_
      refine x_iload_n (pc2 := 14) C dX10_vote_13 2 rfl rfl rfl ?_
      refine x_iload_n (pc2 := 15) C dX10_vote_14 4 rfl rfl rfl ?_
      rcases Decidable.em (eX10_demandBlock Ω 0 x1 x3 = none) with qc_4 | qc_4
      · refine x_ret (rest := []) (st2 := [_]) (pc2 := 18) (cu2 := 4) (su2 := 24) (x_cV C (by assumption) (Nat.le_of_ble_eq_true rfl) kmX10_demandBlock rfl kk_10_120 (XM_n qc_4 (tX10_demandBlock hok (by assumption))) rfl rfl (Nat.le_of_ble_eq_true rfl) ⟨Nat.le_of_ble_eq_true rfl, Nat.le_of_ble_eq_true rfl⟩ ⟨Nat.le_of_ble_eq_true rfl, Nat.le_of_ble_eq_true rfl⟩ dX10_vote_15) rfl rfl rfl rfl ?_
        have qd_5 := D_demandBlock hok (Ω := Ω) (by assumption) qc_4
        refine x_astore (pc2 := 20) (lv2 := [(6, _), (5, _), (0, _), (1, _), (2, _), (3, _), (4, _)]) C dX10_vote_18 (by decide) rfl rfl ?_
        refine x_aload_n (pc2 := 21) C dX10_vote_20 2 rfl rfl rfl ?_
        refine x_iload_n (pc2 := 22) C dX10_vote_21 3 rfl rfl rfl ?_
        refine x_iload (pc2 := 24) C dX10_vote_22 6 rfl rfl ?_
        rcases Decidable.em (eX10_demandBlock Ω 0 x1 x4 = none) with qc_6 | qc_6
        · refine x_ret (rest := []) (st2 := [_]) (pc2 := 27) (cu2 := 6) (su2 := 36) (x_cV C (by assumption) (Nat.le_of_ble_eq_true rfl) kmX10_demandBlock rfl kk_10_120 (XM_n qc_6 (tX10_demandBlock hok (by assumption))) rfl rfl (Nat.le_of_ble_eq_true rfl) ⟨Nat.le_of_ble_eq_true rfl, Nat.le_of_ble_eq_true rfl⟩ ⟨Nat.le_of_ble_eq_true rfl, Nat.le_of_ble_eq_true rfl⟩ dX10_vote_24) rfl rfl rfl rfl ?_
          have qd_7 := D_demandBlock hok (Ω := Ω) (by assumption) qc_6
          refine x_astore (pc2 := 29) (lv2 := [(7, _), (6, _), (5, _), (0, _), (1, _), (2, _), (3, _), (4, _)]) C dX10_vote_27 (by decide) rfl rfl ?_
          refine x_iload_n (pc2 := 30) C dX10_vote_29 6 rfl rfl rfl ?_
          refine x_iload (pc2 := 32) C dX10_vote_30 7 rfl rfl ?_
          refine x_icmp_eq (tgt := 49) (pc2 := 35) C dX10_vote_32 (by decide) rfl (fun qc_8 => ?_) (fun qc_8 => ?_)
          · refine x_iconst (pc2 := 50) (v := 0) C dX10_vote_49 rfl rfl ?_
            have qc_9 : ¬ eX10_demandArgument Ω (0 : Int32) = none := by rw [eX10_demandArgument, if_pos rfl]; exact nofun
            rw [fX10_vote, if_pos qc_1, if_pos qc_3, if_pos qc_4, if_pos qc_6, if_pos qc_8] at hf
            obtain rfl := (Option.some.inj hf).symm
            exact x_thr C (rest := []) (x_cS C kmX10_demandArgument kk_10_99 (XM_t qc_9 (tX10_demandArgument hok )) rfl rfl (Nat.le_of_ble_eq_true rfl) ⟨Nat.le_of_ble_eq_true rfl, Nat.le_of_ble_eq_true rfl⟩ ⟨Nat.le_of_ble_eq_true rfl, Nat.le_of_ble_eq_true rfl⟩ dX10_vote_50) (Nat.le_of_ble_eq_true rfl) (Nat.le_of_ble_eq_true rfl) rfl rfl
          · refine x_aload (pc2 := 37) C dX10_vote_35 0 rfl rfl ?_
            refine x_aload (pc2 := 39) C dX10_vote_37 1 rfl rfl ?_
            refine x_ret (rest := []) (st2 := [_]) (pc2 := 42) (cu2 := 6) (su2 := 36) (x_cV C (by assumption) (Nat.le_of_ble_eq_true rfl) kmX0_comesFrom rfl kk_10_200 (tX0_comesFrom hok (by assumption) (by assumption)) rfl rfl (Nat.le_of_ble_eq_true rfl) ⟨Nat.le_of_ble_eq_true rfl, Nat.le_of_ble_eq_true rfl⟩ ⟨Nat.le_of_ble_eq_true rfl, Nat.le_of_ble_eq_true rfl⟩ dX10_vote_39) rfl rfl rfl rfl ?_
            refine x_if_eq (tgt := 49) (pc2 := 45) C dX10_vote_42 (by decide) rfl (fun qc_10 => ?_) (fun qc_10 => ?_)
            · refine x_iconst (pc2 := 50) (v := 0) C dX10_vote_49 rfl rfl ?_
              have qc_11 : ¬ eX10_demandArgument Ω (0 : Int32) = none := by rw [eX10_demandArgument, if_pos rfl]; exact nofun
              rw [fX10_vote, if_pos qc_1, if_pos qc_3, if_pos qc_4, if_pos qc_6, if_neg qc_8, if_pos qc_10] at hf
              obtain rfl := (Option.some.inj hf).symm
              exact x_thr C (rest := []) (x_cS C kmX10_demandArgument kk_10_99 (XM_t qc_11 (tX10_demandArgument hok )) rfl rfl (Nat.le_of_ble_eq_true rfl) ⟨Nat.le_of_ble_eq_true rfl, Nat.le_of_ble_eq_true rfl⟩ ⟨Nat.le_of_ble_eq_true rfl, Nat.le_of_ble_eq_true rfl⟩ dX10_vote_50) (Nat.le_of_ble_eq_true rfl) (Nat.le_of_ble_eq_true rfl) rfl rfl
            · refine x_iconst (pc2 := 46) (v := 1) C dX10_vote_45 rfl rfl ?_
              refine x_goto (tgt := 50) C dX10_vote_46 (by decide) ?_
              have qc_12 : eX10_demandArgument Ω (1 : Int32) = none := by rw [eX10_demandArgument, if_neg (by decide)]
              refine x_ret (rest := []) (st2 := []) (pc2 := 53) (cu2 := 7) (su2 := 42) (x_cS C kmX10_demandArgument kk_10_99 (XM_n qc_12 (tX10_demandArgument hok )) rfl rfl (Nat.le_of_ble_eq_true rfl) ⟨Nat.le_of_ble_eq_true rfl, Nat.le_of_ble_eq_true rfl⟩ ⟨Nat.le_of_ble_eq_true rfl, Nat.le_of_ble_eq_true rfl⟩ dX10_vote_50) rfl rfl rfl rfl ?_
              refine x_aload (pc2 := 55) C dX10_vote_53 2 rfl rfl ?_
              refine x_getR (f := 105) (k2 := 2) (pc2 := 58) C (by assumption) kf_10_204 dX10_vote_55 rfl rfl rfl (rti_i rfl) rfl (fun qd_13 => ?_)
              refine x_iload_n (pc2 := 59) C dX10_vote_58 5 rfl rfl rfl ?_
              refine x_ret (rest := []) (st2 := [_]) (pc2 := 62) (cu2 := 7) (su2 := 42) (x_cV C (by assumption) (Nat.le_of_ble_eq_true rfl) kmX2_validator rfl kk_10_208 (tX2_validator hok (by assumption)) rfl rfl (Nat.le_of_ble_eq_true rfl) ⟨Nat.le_of_ble_eq_true rfl, Nat.le_of_ble_eq_true rfl⟩ ⟨Nat.le_of_ble_eq_true rfl, Nat.le_of_ble_eq_true rfl⟩ dX10_vote_59) rfl rfl rfl rfl ?_
              have qd_14 := D_validator hok (Ω := Ω) (i := (rX10_demandChain Ω 0 x1)) (by assumption) (x1 := x2)
              refine x_astore (pc2 := 64) (lv2 := [(8, _), (7, _), (6, _), (5, _), (0, _), (1, _), (2, _), (3, _), (4, _)]) C dX10_vote_62 (by decide) rfl rfl ?_
              refine x_aload (pc2 := 66) C dX10_vote_64 0 rfl rfl ?_
              refine x_getI (pc2 := 69) (f := 802) C (by assumption) kf_10_214 dX10_vote_66 rfl rfl rfl ?_
              refine x_if_ne (tgt := 86) (pc2 := 72) C dX10_vote_69 (by decide) rfl (fun qc_15 => ?_) (fun qc_15 => ?_)
              · refine x_iconst (pc2 := 87) (v := 0) C dX10_vote_86 rfl rfl ?_
                have qc_16 : ¬ eX10_demandState Ω (0 : Int32) = none := by rw [eX10_demandState, if_pos rfl]; exact nofun
                rw [fX10_vote, if_pos qc_1, if_pos qc_3, if_pos qc_4, if_pos qc_6, if_neg qc_8, if_neg qc_10, if_neg qc_15] at hf
                obtain rfl := (Option.some.inj hf).symm
                exact x_thr C (rest := []) (x_cS C kmX10_demandState kk_10_52 (XM_t qc_16 (tX10_demandState hok )) rfl rfl (Nat.le_of_ble_eq_true rfl) ⟨Nat.le_of_ble_eq_true rfl, Nat.le_of_ble_eq_true rfl⟩ ⟨Nat.le_of_ble_eq_true rfl, Nat.le_of_ble_eq_true rfl⟩ dX10_vote_87) (Nat.le_of_ble_eq_true rfl) (Nat.le_of_ble_eq_true rfl) rfl rfl
              · refine x_aload (pc2 := 74) C dX10_vote_72 0 rfl rfl ?_
                refine x_getI (pc2 := 77) (f := 801) C (by assumption) kf_10_219 dX10_vote_74 rfl rfl rfl ?_
                refine x_bipush (pc2 := 79) (v := 20) C dX10_vote_77 rfl rfl ?_
                refine x_icmp_ge (tgt := 86) (pc2 := 82) C dX10_vote_79 (by decide) rfl (fun qc_17 => ?_) (fun qc_17 => ?_)
                · refine x_iconst (pc2 := 87) (v := 0) C dX10_vote_86 rfl rfl ?_
                  have qc_18 : ¬ eX10_demandState Ω (0 : Int32) = none := by rw [eX10_demandState, if_pos rfl]; exact nofun
                  rw [fX10_vote, if_pos qc_1, if_pos qc_3, if_pos qc_4, if_pos qc_6, if_neg qc_8, if_neg qc_10, if_pos qc_15, if_pos qc_17] at hf
                  obtain rfl := (Option.some.inj hf).symm
                  exact x_thr C (rest := []) (x_cS C kmX10_demandState kk_10_52 (XM_t qc_18 (tX10_demandState hok )) rfl rfl (Nat.le_of_ble_eq_true rfl) ⟨Nat.le_of_ble_eq_true rfl, Nat.le_of_ble_eq_true rfl⟩ ⟨Nat.le_of_ble_eq_true rfl, Nat.le_of_ble_eq_true rfl⟩ dX10_vote_87) (Nat.le_of_ble_eq_true rfl) (Nat.le_of_ble_eq_true rfl) rfl rfl
                · refine x_iconst (pc2 := 83) (v := 1) C dX10_vote_82 rfl rfl ?_
                  refine x_goto (tgt := 87) C dX10_vote_83 (by decide) ?_
                  have qc_19 : eX10_demandState Ω (1 : Int32) = none := by rw [eX10_demandState, if_neg (by decide)]
                  refine x_ret (rest := []) (st2 := []) (pc2 := 90) (cu2 := 8) (su2 := 48) (x_cS C kmX10_demandState kk_10_52 (XM_n qc_19 (tX10_demandState hok )) rfl rfl (Nat.le_of_ble_eq_true rfl) ⟨Nat.le_of_ble_eq_true rfl, Nat.le_of_ble_eq_true rfl⟩ ⟨Nat.le_of_ble_eq_true rfl, Nat.le_of_ble_eq_true rfl⟩ dX10_vote_87) rfl rfl rfl rfl ?_
                  refine x_aload (pc2 := 92) C dX10_vote_90 0 rfl rfl ?_
                  refine x_aload (pc2 := 94) C dX10_vote_92 2 rfl rfl ?_
                  refine x_aload (pc2 := 96) C dX10_vote_94 1 rfl rfl ?_
                  refine x_ret (rest := []) (st2 := [_]) (pc2 := 99) (cu2 := 8) (su2 := 48) (x_cV C (by assumption) (Nat.le_of_ble_eq_true rfl) kmX8_give rfl kk_10_222 (tX8_give hok (by assumption) (by assumption) (by assumption)) rfl rfl (Nat.le_of_ble_eq_true rfl) ⟨Nat.le_of_ble_eq_true rfl, Nat.le_of_ble_eq_true rfl⟩ ⟨Nat.le_of_ble_eq_true rfl, Nat.le_of_ble_eq_true rfl⟩ dX10_vote_96) rfl rfl rfl rfl ?_
                  obtain ⟨Ω_20, hw_20⟩ : ∃ z, z = (fX8_give Ω (fX2_validator Ω (rX10_demandChain Ω 0 x1) x2) (rX10_demandBlock Ω 0 x1 x3) (rX10_demandBlock Ω 0 x1 x4)).2 := ⟨_, rfl⟩
                  refine x_om hw_20 ?_
                  refine x_istore (pc2 := 101) (lv2 := [(9, _), (8, _), (7, _), (6, _), (5, _), (0, _), (1, _), (2, _), (3, _), (4, _)]) C dX10_vote_99 (by decide) rfl rfl ?_
                  refine x_aload (pc2 := 103) C dX10_vote_101 4 rfl rfl ?_
                  refine x_getR (f := 105) (k2 := 2) (pc2 := 106) C (by assumption) kf_10_204 dX10_vote_103 rfl rfl rfl (rti_i rfl) rfl (fun qd_21 => ?_)
                  refine x_aload (pc2 := 108) C dX10_vote_106 4 rfl rfl ?_
                  refine x_getR (f := 100) (k2 := 2002) (pc2 := 111) C (by assumption) kf_10_226 dX10_vote_108 rfl rfl rfl (rti_i rfl) rfl (fun qd_22 => ?_)
                  rcases hq_23 : fX2_settle Ω_20 (rX10_demandChain Ω 0 x1) (rX10_demandChain Ω 0 x1) with _ | r_23
                  · exact absurd hf (by rw [fX10_vote, if_pos qc_1, if_pos qc_3, if_pos qc_4, if_pos qc_6, if_neg qc_8, if_neg qc_10, if_pos qc_15, if_neg qc_17, wl_eq hw_20, hq_23, Option.bind_none]; exact nofun)
                  refine x_ret (rest := []) (st2 := []) (pc2 := 114) (cu2 := 8) (su2 := 48) (x_cV C (by assumption) (Nat.le_of_ble_eq_true rfl) kmX2_settle rfl kk_10_230 (tX2_settle hok (by assumption) (by assumption)  hq_23) rfl rfl (Nat.le_of_ble_eq_true rfl) ⟨Nat.le_of_ble_eq_true rfl, Nat.le_of_ble_eq_true rfl⟩ ⟨Nat.le_of_ble_eq_true rfl, Nat.le_of_ble_eq_true rfl⟩ dX10_vote_111) rfl rfl rfl rfl ?_
                  refine x_iload (pc2 := 116) C dX10_vote_114 0 rfl rfl ?_
                  rcases (Decidable.em (((fX8_give Ω (fX2_validator Ω (rX10_demandChain Ω 0 x1) x2) (rX10_demandBlock Ω 0 x1 x3) (rX10_demandBlock Ω 0 x1 x4)).1) = 0 ∨ ((fX8_give Ω (fX2_validator Ω (rX10_demandChain Ω 0 x1) x2) (rX10_demandBlock Ω 0 x1 x3) (rX10_demandBlock Ω 0 x1 x4)).1) = 1)).symm with qg_24 | qg_24
                  · exact absurd hf (by rw [fX10_vote, if_pos qc_1, if_pos qc_3, if_pos qc_4, if_pos qc_6, if_neg qc_8, if_neg qc_10, if_pos qc_15, if_neg qc_17, wl_eq hw_20, hq_23, Option.bind_some, if_neg qg_24]; exact nofun)
                  rw [fX10_vote, if_pos qc_1, if_pos qc_3, if_pos qc_4, if_pos qc_6, if_neg qc_8, if_neg qc_10, if_pos qc_15, if_neg qc_17, wl_eq hw_20, hq_23, Option.bind_some, if_pos qg_24] at hf
                  obtain rfl := (Option.some.inj hf).symm
                  exact x_zreturn C dX10_vote_116 rfl qg_24 (Nat.le_of_ble_eq_true rfl) (Nat.le_of_ble_eq_true rfl) rfl rfl
        · rw [fX10_vote, if_pos qc_1, if_pos qc_3, if_pos qc_4, if_neg qc_6] at hf
          obtain rfl := (Option.some.inj hf).symm
          exact x_thr C (rest := []) (x_cV C (by assumption) (Nat.le_of_ble_eq_true rfl) kmX10_demandBlock rfl kk_10_120 (XM_t qc_6 (tX10_demandBlock hok (by assumption))) rfl rfl (Nat.le_of_ble_eq_true rfl) ⟨Nat.le_of_ble_eq_true rfl, Nat.le_of_ble_eq_true rfl⟩ ⟨Nat.le_of_ble_eq_true rfl, Nat.le_of_ble_eq_true rfl⟩ dX10_vote_24) (Nat.le_of_ble_eq_true rfl) (Nat.le_of_ble_eq_true rfl) rfl rfl
      · rw [fX10_vote, if_pos qc_1, if_pos qc_3, if_neg qc_4] at hf
        obtain rfl := (Option.some.inj hf).symm
        exact x_thr C (rest := []) (x_cV C (by assumption) (Nat.le_of_ble_eq_true rfl) kmX10_demandBlock rfl kk_10_120 (XM_t qc_4 (tX10_demandBlock hok (by assumption))) rfl rfl (Nat.le_of_ble_eq_true rfl) ⟨Nat.le_of_ble_eq_true rfl, Nat.le_of_ble_eq_true rfl⟩ ⟨Nat.le_of_ble_eq_true rfl, Nat.le_of_ble_eq_true rfl⟩ dX10_vote_15) (Nat.le_of_ble_eq_true rfl) (Nat.le_of_ble_eq_true rfl) rfl rfl
    · rw [fX10_vote, if_pos qc_1, if_neg qc_3] at hf
      obtain rfl := (Option.some.inj hf).symm
      exact x_thr C (rest := []) (x_cS C kmX10_demandIndex kk_10_32 (XM_t qc_3 (tX10_demandIndex hok )) rfl rfl (Nat.le_of_ble_eq_true rfl) ⟨Nat.le_of_ble_eq_true rfl, Nat.le_of_ble_eq_true rfl⟩ ⟨Nat.le_of_ble_eq_true rfl, Nat.le_of_ble_eq_true rfl⟩ dX10_vote_9) (Nat.le_of_ble_eq_true rfl) (Nat.le_of_ble_eq_true rfl) rfl rfl
  · rw [fX10_vote, if_neg qc_1] at hf
    obtain rfl := (Option.some.inj hf).symm
    exact x_thr C (rest := []) (x_cV C (by assumption) (Nat.le_of_ble_eq_true rfl) kmX10_demandChain rfl kk_10_64 (XM_t qc_1 (tX10_demandChain hok (by assumption))) rfl rfl (Nat.le_of_ble_eq_true rfl) ⟨Nat.le_of_ble_eq_true rfl, Nat.le_of_ble_eq_true rfl⟩ ⟨Nat.le_of_ble_eq_true rfl, Nat.le_of_ble_eq_true rfl⟩ dX10_vote_2) (Nat.le_of_ble_eq_true rfl) (Nat.le_of_ble_eq_true rfl) rfl rfl
def fX10_isJustified (Ω : XO) (x1 : Int32) (x2 : Int32) : Option ((Option Value ⊕ String) × XO) := (if eX10_demandBlock Ω 0 x1 x2 = none then (if (xI Ω 14 (rX10_demandBlock Ω 0 x1 x2) 0) = 0 ∨ (xI Ω 14 (rX10_demandBlock Ω 0 x1 x2) 0) = 1 then (some (.inl (some (.int (xI Ω 14 (rX10_demandBlock Ω 0 x1 x2) 0))), Ω)) else none) else (some (.inr ((eX10_demandBlock Ω 0 x1 x2).getD ""), Ω)))
set_option maxRecDepth 20000 in
theorem tX10_isJustified {G : XG} (hok : XK G) {x1 : Int32} {x2 : Int32} {Ω : XO} (hd0 : dm G 10 0)  {r : (Option Value ⊕ String) × XO} (hf : fX10_isJustified Ω x1 x2 = some r) : XM G yX10_isJustified cX10_isJustified 3 ((some FieldType.boolean)) (RM 8 2) [.ref (ad G 10 0), .int x1, .int x2] Ω r.1 r.2 := by
  refine x_start (lv := [(0, .ref (ad G 10 0)), (1, .int x1), (2, .int x2)]) (own := RX10) hok (by decide +kernel) rfl (Nat.le_of_ble_eq_true rfl) rfl (fun B C => ?_)
  refine x_aload_n (pc2 := 1) C dX10_isJustified_0 0 rfl rfl rfl ?_
  refine x_iload_n (pc2 := 2) C dX10_isJustified_1 1 rfl rfl rfl ?_
  refine x_iload_n (pc2 := 3) C dX10_isJustified_2 2 rfl rfl rfl ?_
  rcases Decidable.em (eX10_demandBlock Ω 0 x1 x2 = none) with qc_1 | qc_1
  · refine x_ret (rest := []) (st2 := [_]) (pc2 := 6) (cu2 := 2) (su2 := 12) (x_cV C (by assumption) (Nat.le_of_ble_eq_true rfl) kmX10_demandBlock rfl kk_10_120 (XM_n qc_1 (tX10_demandBlock hok (by assumption))) rfl rfl (Nat.le_of_ble_eq_true rfl) ⟨Nat.le_of_ble_eq_true rfl, Nat.le_of_ble_eq_true rfl⟩ ⟨Nat.le_of_ble_eq_true rfl, Nat.le_of_ble_eq_true rfl⟩ dX10_isJustified_3) rfl rfl rfl rfl ?_
    have qd_2 := D_demandBlock hok (Ω := Ω) (by assumption) qc_1
    refine x_getI (pc2 := 9) (f := 14) C (by assumption) kf_10_234 dX10_isJustified_6 rfl rfl rfl ?_
    rcases (Decidable.em ((xI Ω 14 (rX10_demandBlock Ω 0 x1 x2) 0) = 0 ∨ (xI Ω 14 (rX10_demandBlock Ω 0 x1 x2) 0) = 1)).symm with qg_3 | qg_3
    · exact absurd hf (by rw [fX10_isJustified, if_pos qc_1, if_neg qg_3]; exact nofun)
    rw [fX10_isJustified, if_pos qc_1, if_pos qg_3] at hf
    obtain rfl := (Option.some.inj hf).symm
    exact x_zreturn C dX10_isJustified_9 rfl qg_3 (Nat.le_of_ble_eq_true rfl) (Nat.le_of_ble_eq_true rfl) rfl rfl
  · rw [fX10_isJustified, if_neg qc_1] at hf
    obtain rfl := (Option.some.inj hf).symm
    exact x_thr C (rest := []) (x_cV C (by assumption) (Nat.le_of_ble_eq_true rfl) kmX10_demandBlock rfl kk_10_120 (XM_t qc_1 (tX10_demandBlock hok (by assumption))) rfl rfl (Nat.le_of_ble_eq_true rfl) ⟨Nat.le_of_ble_eq_true rfl, Nat.le_of_ble_eq_true rfl⟩ ⟨Nat.le_of_ble_eq_true rfl, Nat.le_of_ble_eq_true rfl⟩ dX10_isJustified_3) (Nat.le_of_ble_eq_true rfl) (Nat.le_of_ble_eq_true rfl) rfl rfl
