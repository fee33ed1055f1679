def fX10_upgrade (Ω : XO) (i : Nat) (x1 : Int32) (x2 : Int32) : (Option Value ⊕ String) × XO := (if eX10_demandChain Ω i x1 = none then (if eX10_demandRange Ω x2 (1 : Int32) (1000 : Int32) = none then (if (xI Ω 101 (rX10_demandChain Ω i x1) 0) = (1 : Int32) then (.inl (some (.int (xI Ω 104 (rX10_demandChain Ω i x1) 0))), uI Ω 104 (rX10_demandChain Ω i x1) 0 x2) else (.inr ((eX10_demandState Ω (0 : Int32)).getD ""), Ω)) else (.inr ((eX10_demandRange Ω x2 (1 : Int32) (1000 : Int32)).getD ""), Ω)) else (.inr ((eX10_demandChain Ω i x1).getD ""), Ω))
set_option maxRecDepth 20000 in
theorem tX10_upgrade {G : XG} (hok : XK G) {i : Nat} {x1 : Int32} {x2 : Int32} {Ω : XO} (hd0 : dm G 10 i)  : XM G yX10_upgrade cX10_upgrade 5 ((some FieldType.int)) (RM 8 3) [.ref (ad G 10 i), .int x1, .int x2] Ω (fX10_upgrade Ω i x1 x2).1 (fX10_upgrade Ω i x1 x2).2 := by
  refine x_start (lv := [(0, .ref (ad G 10 i)), (1, .int x1), (2, .int x2)]) (own := RX10) hok (by decide +kernel) rfl (Nat.le_of_ble_eq_true rfl) rfl (fun B C => ?_)
  refine x_aload_n (pc2 := 1) C dX10_upgrade_0 0 rfl rfl rfl ?_
  refine x_iload_n (pc2 := 2) C dX10_upgrade_1 1 rfl rfl rfl ?_
  rcases Decidable.em (eX10_demandChain Ω i x1 = none) with qc_1 | qc_1
  · refine x_ret (rest := []) (st2 := [_]) (pc2 := 5) (cu2 := 1) (su2 := 6) (x_cV C (by assumption) (Nat.le_of_ble_eq_true rfl) kmX10_demandChain rfl kk_10_64 (XM_n qc_1 (tX10_demandChain hok (by assumption))) rfl rfl (Nat.le_of_ble_eq_true rfl) ⟨Nat.le_of_ble_eq_true rfl, Nat.le_of_ble_eq_true rfl⟩ ⟨Nat.le_of_ble_eq_true rfl, Nat.le_of_ble_eq_true rfl⟩ dX10_upgrade_2) rfl rfl rfl rfl ?_
    have qd_2 := D_demandChain hok (Ω := Ω) (by assumption) qc_1
    refine x_astore_n (pc2 := 6) (lv2 := [(3, _), (0, _), (1, _), (2, _)]) C dX10_upgrade_5 rfl (by decide) rfl rfl ?_
    refine x_iload_n (pc2 := 7) C dX10_upgrade_6 3 rfl rfl rfl ?_
    refine x_iconst (pc2 := 8) (v := 1) C dX10_upgrade_7 rfl rfl ?_
    refine x_sipush (pc2 := 11) (v := 1000) C dX10_upgrade_8 rfl rfl ?_
    rcases Decidable.em (eX10_demandRange Ω x2 (1 : Int32) (1000 : Int32) = none) with qc_3 | qc_3
    · refine x_ret (rest := []) (st2 := []) (pc2 := 14) (cu2 := 2) (su2 := 12) (x_cS C kmX10_demandRange kk_10_36 (XM_n qc_3 (tX10_demandRange hok )) rfl rfl (Nat.le_of_ble_eq_true rfl) ⟨Nat.le_of_ble_eq_true rfl, Nat.le_of_ble_eq_true rfl⟩ ⟨Nat.le_of_ble_eq_true rfl, Nat.le_of_ble_eq_true rfl⟩ dX10_upgrade_11) rfl rfl rfl rfl ?_
      refine x_aload_n (pc2 := 15) C dX10_upgrade_14 0 rfl rfl rfl ?_
      refine x_getI (pc2 := 18) (f := 101) C (by assumption) kf_10_68 dX10_upgrade_15 rfl rfl rfl ?_
      refine x_iconst (pc2 := 19) (v := 1) C dX10_upgrade_18 rfl rfl ?_
      refine x_icmp_ne (tgt := 26) (pc2 := 22) C dX10_upgrade_19 (by decide) rfl (fun qc_4 => ?_) (fun qc_4 => ?_)
      · refine x_iconst (pc2 := 27) (v := 0) C dX10_upgrade_26 rfl rfl ?_
        have qc_5 : ¬ eX10_demandState Ω (0 : Int32) = none := by rw [eX10_demandState, if_pos rfl]; exact nofun
        exact x_thr C (rest := []) (x_cS C kmX10_demandState kk_10_52 (XM_t qc_5 (tX10_demandState hok )) rfl rfl (Nat.le_of_ble_eq_true rfl) ⟨Nat.le_of_ble_eq_true rfl, Nat.le_of_ble_eq_true rfl⟩ ⟨Nat.le_of_ble_eq_true rfl, Nat.le_of_ble_eq_true rfl⟩ dX10_upgrade_27) (Nat.le_of_ble_eq_true rfl) (Nat.le_of_ble_eq_true rfl) (by rw [fX10_upgrade, if_pos qc_1, if_pos qc_3, if_neg qc_4] <;> rfl) (by rw [fX10_upgrade, if_pos qc_1, if_pos qc_3, if_neg qc_4] <;> rfl)
      · refine x_iconst (pc2 := 23) (v := 1) C dX10_upgrade_22 rfl rfl ?_
        refine x_goto (tgt := 27) C dX10_upgrade_23 (by decide) ?_
        have qc_6 : eX10_demandState Ω (1 : Int32) = none := by rw [eX10_demandState, if_neg (by decide)]
        refine x_ret (rest := []) (st2 := []) (pc2 := 30) (cu2 := 3) (su2 := 18) (x_cS C kmX10_demandState kk_10_52 (XM_n qc_6 (tX10_demandState hok )) rfl rfl (Nat.le_of_ble_eq_true rfl) ⟨Nat.le_of_ble_eq_true rfl, Nat.le_of_ble_eq_true rfl⟩ ⟨Nat.le_of_ble_eq_true rfl, Nat.le_of_ble_eq_true rfl⟩ dX10_upgrade_27) rfl rfl rfl rfl ?_
        refine x_aload_n (pc2 := 31) C dX10_upgrade_30 0 rfl rfl rfl ?_
        refine x_getI (pc2 := 34) (f := 104) C (by assumption) kf_10_71 dX10_upgrade_31 rfl rfl rfl ?_
        refine x_istore (pc2 := 36) (lv2 := [(4, _), (3, _), (0, _), (1, _), (2, _)]) C dX10_upgrade_34 (by decide) rfl rfl ?_
        refine x_aload_n (pc2 := 37) C dX10_upgrade_36 1 rfl rfl rfl ?_
        refine x_iload_n (pc2 := 38) C dX10_upgrade_37 4 rfl rfl rfl ?_
        refine x_putI (pc2 := 41) (f := 104) C (by assumption) kf_10_71 dX10_upgrade_38 rfl rfl rfl rfl rfl ?_
        refine x_iload (pc2 := 43) C dX10_upgrade_41 0 rfl rfl ?_
        exact x_ireturn C dX10_upgrade_43 rfl (Nat.le_of_ble_eq_true rfl) (Nat.le_of_ble_eq_true rfl) (by rw [fX10_upgrade, if_pos qc_1, if_pos qc_3, if_pos qc_4] <;> rfl) (by rw [fX10_upgrade, if_pos qc_1, if_pos qc_3, if_pos qc_4] <;> rfl)
    · exact x_thr C (rest := []) (x_cS C kmX10_demandRange kk_10_36 (XM_t qc_3 (tX10_demandRange hok )) rfl rfl (Nat.le_of_ble_eq_true rfl) ⟨Nat.le_of_ble_eq_true rfl, Nat.le_of_ble_eq_true rfl⟩ ⟨Nat.le_of_ble_eq_true rfl, Nat.le_of_ble_eq_true rfl⟩ dX10_upgrade_11) (Nat.le_of_ble_eq_true rfl) (Nat.le_of_ble_eq_true rfl) (by rw [fX10_upgrade, if_pos qc_1, if_neg qc_3] <;> rfl) (by rw [fX10_upgrade, if_pos qc_1, if_neg qc_3] <;> rfl)
  · exact x_thr C (rest := []) (x_cV C (by assumption) (Nat.le_of_ble_eq_true rfl) kmX10_demandChain rfl kk_10_64 (XM_t qc_1 (tX10_demandChain hok (by assumption))) rfl rfl (Nat.le_of_ble_eq_true rfl) ⟨Nat.le_of_ble_eq_true rfl, Nat.le_of_ble_eq_true rfl⟩ ⟨Nat.le_of_ble_eq_true rfl, Nat.le_of_ble_eq_true rfl⟩ dX10_upgrade_2) (Nat.le_of_ble_eq_true rfl) (Nat.le_of_ble_eq_true rfl) (by rw [fX10_upgrade, if_neg qc_1] <;> rfl) (by rw [fX10_upgrade, if_neg qc_1] <;> rfl)
def fX10_submit (Ω : XO) (i : Nat) (x1 : Int32) (x2 : Int32) (x3 : Int32) (x4 : Int32) (x5 : Int32) (x6 : Int32) (x7 : Int32) (x8 : Int32) (x9 : Int32) : (Option Value ⊕ String) × XO := (if eX10_demandChain Ω i x1 = none then (if eX10_demandIndex Ω x2 (6 : Int32) = none then (if eX10_demandRange Ω x3 (0 : Int32) (9 : Int32) = none then (if eX10_demandRange Ω x4 (0 : Int32) (23 : Int32) = none then (if eX10_demandRange Ω x5 (0 : Int32) (10000 : Int32) = none then (if eX10_demandRange Ω x6 (0 : Int32) (9999 : Int32) = none then (if eX10_demandRange Ω x7 (20 : Int32) (600 : Int32) = none then (if eX10_demandRange Ω x8 (1 : Int32) (100 : Int32) = none then (if eX10_demandRange Ω x9 (0 : Int32) x8 = none then (if (40 : Int32) ≤ (xI Ω 103 (rX10_demandChain Ω i x1) 0) then (.inr ((eX10_demandState Ω (0 : Int32)).getD ""), Ω) else (.inl (some (.int ((fX1_admit (fX7_bid (fX7_order Ω (fX1_draft Ω (rX10_demandChain Ω i x1)) x2 x3 x4 x5 x6 x7) (fX1_draft Ω (rX10_demandChain Ω i x1)) x8 x9) (rX10_demandChain Ω i x1) (fX1_draft Ω (rX10_demandChain Ω i x1))).1))), (fX1_admit (fX7_bid (fX7_order Ω (fX1_draft Ω (rX10_demandChain Ω i x1)) x2 x3 x4 x5 x6 x7) (fX1_draft Ω (rX10_demandChain Ω i x1)) x8 x9) (rX10_demandChain Ω i x1) (fX1_draft Ω (rX10_demandChain Ω i x1))).2)) else (.inr ((eX10_demandRange Ω x9 (0 : Int32) x8).getD ""), Ω)) else (.inr ((eX10_demandRange Ω x8 (1 : Int32) (100 : Int32)).getD ""), Ω)) else (.inr ((eX10_demandRange Ω x7 (20 : Int32) (600 : Int32)).getD ""), Ω)) else (.inr ((eX10_demandRange Ω x6 (0 : Int32) (9999 : Int32)).getD ""), Ω)) else (.inr ((eX10_demandRange Ω x5 (0 : Int32) (10000 : Int32)).getD ""), Ω)) else (.inr ((eX10_demandRange Ω x4 (0 : Int32) (23 : Int32)).getD ""), Ω)) else (.inr ((eX10_demandRange Ω x3 (0 : Int32) (9 : Int32)).getD ""), Ω)) else (.inr ((eX10_demandIndex Ω x2 (6 : Int32)).getD ""), Ω)) else (.inr ((eX10_demandChain Ω i x1).getD ""), Ω))
set_option maxRecDepth 20000 in
theorem tX10_submit {G : XG} (hok : XK G) {i : Nat} {x1 : Int32} {x2 : Int32} {x3 : Int32} {x4 : Int32} {x5 : Int32} {x6 : Int32} {x7 : Int32} {x8 : Int32} {x9 : Int32} {Ω : XO} (hd0 : dm G 10 i)  : XM G yX10_submit cX10_submit 12 ((some FieldType.int)) (RM 8 10) [.ref (ad G 10 i), .int x1, .int x2, .int x3, .int x4, .int x5, .int x6, .int x7, .int x8, .int x9] Ω (fX10_submit Ω i x1 x2 x3 x4 x5 x6 x7 x8 x9).1 (fX10_submit Ω i x1 x2 x3 x4 x5 x6 x7 x8 x9).2 := by
  refine x_start (lv := [(0, .ref (ad G 10 i)), (1, .int x1), (2, .int x2), (3, .int x3), (4, .int x4), (5, .int x5), (6, .int x6), (7, .int x7), (8, .int x8), (9, .int x9)]) (own := RX10) hok (by decide +kernel) rfl (Nat.le_of_ble_eq_true rfl) rfl (fun B C => ?_)
  refine x_aload_n (pc2 := 1) C dX10_submit_0 0 rfl rfl rfl ?_
  refine x_iload_n (pc2 := 2) C dX10_submit_1 1 rfl rfl rfl ?_
  rcases Decidable.em (eX10_demandChain Ω i x1 = none) with qc_1 | qc_1
  · refine x_ret (rest := []) (st2 := [_]) (pc2 := 5) (cu2 := 1) (su2 := 6) (x_cV C (by assumption) (Nat.le_of_ble_eq_true rfl) kmX10_demandChain rfl kk_10_64 (XM_n qc_1 (tX10_demandChain hok (by assumption))) rfl rfl (Nat.le_of_ble_eq_true rfl) ⟨Nat.le_of_ble_eq_true rfl, Nat.le_of_ble_eq_true rfl⟩ ⟨Nat.le_of_ble_eq_true rfl, Nat.le_of_ble_eq_true rfl⟩ dX10_submit_2) rfl rfl rfl rfl ?_
    have qd_2 := D_demandChain hok (Ω := Ω) (by assumption) qc_1
    refine x_astore (pc2 := 7) (lv2 := [(10, _), (0, _), (1, _), (2, _), (3, _), (4, _), (5, _), (6, _), (7, _), (8, _), (9, _)]) C dX10_submit_5 (by decide) rfl rfl ?_
    refine x_iload_n (pc2 := 8) C dX10_submit_7 3 rfl rfl rfl ?_
    refine x_bipush (pc2 := 10) (v := 6) C dX10_submit_8 rfl rfl ?_
    rcases Decidable.em (eX10_demandIndex Ω x2 (6 : Int32) = none) with qc_3 | qc_3
    · refine x_ret (rest := []) (st2 := []) (pc2 := 13) (cu2 := 2) (su2 := 12) (x_cS C kmX10_demandIndex kk_10_32 (XM_n qc_3 (tX10_demandIndex hok )) rfl rfl (Nat.le_of_ble_eq_true rfl) ⟨Nat.le_of_ble_eq_true rfl, Nat.le_of_ble_eq_true rfl⟩ ⟨Nat.le_of_ble_eq_true rfl, Nat.le_of_ble_eq_true rfl⟩ dX10_submit_10) rfl rfl rfl rfl ?_
      refine x_iload_n (pc2 := 14) C dX10_submit_13 4 rfl rfl rfl ?_
      refine x_iconst (pc2 := 15) (v := 0) C dX10_submit_14 rfl rfl ?_
      refine x_bipush (pc2 := 17) (v := 9) C dX10_submit_15 rfl rfl ?_
      rcases Decidable.em (eX10_demandRange Ω x3 (0 : Int32) (9 : Int32) = none) with qc_4 | qc_4
      · refine x_ret (rest := []) (st2 := []) (pc2 := 20) (cu2 := 3) (su2 := 18) (x_cS C kmX10_demandRange kk_10_36 (XM_n qc_4 (tX10_demandRange hok )) rfl rfl (Nat.le_of_ble_eq_true rfl) ⟨Nat.le_of_ble_eq_true rfl, Nat.le_of_ble_eq_true rfl⟩ ⟨Nat.le_of_ble_eq_true rfl, Nat.le_of_ble_eq_true rfl⟩ dX10_submit_17) rfl rfl rfl rfl ?_
        refine x_iload (pc2 := 22) C dX10_submit_20 5 rfl rfl ?_
        refine x_iconst (pc2 := 23) (v := 0) C dX10_submit_22 rfl rfl ?_
        refine x_bipush (pc2 := 25) (v := 23) C dX10_submit_23 rfl rfl ?_
        rcases Decidable.em (eX10_demandRange Ω x4 (0 : Int32) (23 : Int32) = none) with qc_5 | qc_5
        · refine x_ret (rest := []) (st2 := []) (pc2 := 28) (cu2 := 4) (su2 := 24) (x_cS C kmX10_demandRange kk_10_36 (XM_n qc_5 (tX10_demandRange hok )) rfl rfl (Nat.le_of_ble_eq_true rfl) ⟨Nat.le_of_ble_eq_true rfl, Nat.le_of_ble_eq_true rfl⟩ ⟨Nat.le_of_ble_eq_true rfl, Nat.le_of_ble_eq_true rfl⟩ dX10_submit_25) rfl rfl rfl rfl ?_
          refine x_iload (pc2 := 30) C dX10_submit_28 6 rfl rfl ?_
          refine x_iconst (pc2 := 31) (v := 0) C dX10_submit_30 rfl rfl ?_
          refine x_sipush (pc2 := 34) (v := 10000) C dX10_submit_31 rfl rfl ?_
          rcases Decidable.em (eX10_demandRange Ω x5 (0 : Int32) (10000 : Int32) = none) with qc_6 | qc_6
          · refine x_ret (rest := []) (st2 := []) (pc2 := 37) (cu2 := 5) (su2 := 30) (x_cS C kmX10_demandRange kk_10_36 (XM_n qc_6 (tX10_demandRange hok )) rfl rfl (Nat.le_of_ble_eq_true rfl) ⟨Nat.le_of_ble_eq_true rfl, Nat.le_of_ble_eq_true rfl⟩ ⟨Nat.le_of_ble_eq_true rfl, Nat.le_of_ble_eq_true rfl⟩ dX10_submit_34) rfl rfl rfl rfl ?_
            refine x_iload (pc2 := 39) C dX10_submit_37 7 rfl rfl ?_
            refine x_iconst (pc2 := 40) (v := 0) C dX10_submit_39 rfl rfl ?_
            refine x_sipush (pc2 := 43) (v := 9999) C dX10_submit_40 rfl rfl ?_
            rcases Decidable.em (eX10_demandRange Ω x6 (0 : Int32) (9999 : Int32) = none) with qc_7 | qc_7
            · refine x_ret (rest := []) (st2 := []) (pc2 := 46) (cu2 := 6) (su2 := 36) (x_cS C kmX10_demandRange kk_10_36 (XM_n qc_7 (tX10_demandRange hok )) rfl rfl (Nat.le_of_ble_eq_true rfl) ⟨Nat.le_of_ble_eq_true rfl, Nat.le_of_ble_eq_true rfl⟩ ⟨Nat.le_of_ble_eq_true rfl, Nat.le_of_ble_eq_true rfl⟩ dX10_submit_43) rfl rfl rfl rfl ?_
              refine x_iload (pc2 := 48) C dX10_submit_46 8 rfl rfl ?_
              refine x_bipush (pc2 := 50) (v := 20) C dX10_submit_48 rfl rfl ?_
              refine x_sipush (pc2 := 53) (v := 600) C dX10_submit_50 rfl rfl ?_
              rcases Decidable.em (eX10_demandRange Ω x7 (20 : Int32) (600 : Int32) = none) with qc_8 | qc_8
              · refine x_ret (rest := []) (st2 := []) (pc2 := 56) (cu2 := 7) (su2 := 42) (x_cS C kmX10_demandRange kk_10_36 (XM_n qc_8 (tX10_demandRange hok )) rfl rfl (Nat.le_of_ble_eq_true rfl) ⟨Nat.le_of_ble_eq_true rfl, Nat.le_of_ble_eq_true rfl⟩ ⟨Nat.le_of_ble_eq_true rfl, Nat.le_of_ble_eq_true rfl⟩ dX10_submit_53) rfl rfl rfl rfl ?_
                refine x_iload (pc2 := 58) C dX10_submit_56 9 rfl rfl ?_
                refine x_iconst (pc2 := 59) (v := 1) C dX10_submit_58 rfl rfl ?_
                refine x_bipush (pc2 := 61) (v := 100) C dX10_submit_59 rfl rfl ?_
                rcases Decidable.em (eX10_demandRange Ω x8 (1 : Int32) (100 : Int32) = none) with qc_9 | qc_9
                · refine x_ret (rest := []) (st2 := []) (pc2 := 64) (cu2 := 8) (su2 := 48) (x_cS C kmX10_demandRange kk_10_36 (XM_n qc_9 (tX10_demandRange hok )) rfl rfl (Nat.le_of_ble_eq_true rfl) ⟨Nat.le_of_ble_eq_true rfl, Nat.le_of_ble_eq_true rfl⟩ ⟨Nat.le_of_ble_eq_true rfl, Nat.le_of_ble_eq_true rfl⟩ dX10_submit_61) rfl rfl rfl rfl ?_
                  refine x_iload (pc2 := 66) C dX10_submit_64 10 rfl rfl ?_
                  refine x_iconst (pc2 := 67) (v := 0) C dX10_submit_66 rfl rfl ?_
                  refine x_iload (pc2 := 69) C dX10_submit_67 9 rfl rfl ?_
                  rcases Decidable.em (eX10_demandRange Ω x9 (0 : Int32) x8 = none) with qc_10 | qc_10
                  · refine x_ret (rest := []) (st2 := []) (pc2 := 72) (cu2 := 9) (su2 := 54) (x_cS C kmX10_demandRange kk_10_36 (XM_n qc_10 (tX10_demandRange hok )) rfl rfl (Nat.le_of_ble_eq_true rfl) ⟨Nat.le_of_ble_eq_true rfl, Nat.le_of_ble_eq_true rfl⟩ ⟨Nat.le_of_ble_eq_true rfl, Nat.le_of_ble_eq_true rfl⟩ dX10_submit_69) rfl rfl rfl rfl ?_
                    refine x_aload (pc2 := 74) C dX10_submit_72 0 rfl rfl ?_
                    refine x_getI (pc2 := 77) (f := 103) C (by assumption) kf_10_56 dX10_submit_74 rfl rfl rfl ?_
                    refine x_bipush (pc2 := 79) (v := 40) C dX10_submit_77 rfl rfl ?_
                    refine x_icmp_ge (tgt := 86) (pc2 := 82) C dX10_submit_79 (by decide) rfl (fun qc_11 => ?_) (fun qc_11 => ?_)
                    · refine x_iconst (pc2 := 87) (v := 0) C dX10_submit_86 rfl rfl ?_
                      have qc_12 : ¬ eX10_demandState Ω (0 : Int32) = none := by rw [eX10_demandState, if_pos rfl]; exact nofun
                      exact x_thr C (rest := []) (x_cS C kmX10_demandState kk_10_52 (XM_t qc_12 (tX10_demandState hok )) rfl rfl (Nat.le_of_ble_eq_true rfl) ⟨Nat.le_of_ble_eq_true rfl, Nat.le_of_ble_eq_true rfl⟩ ⟨Nat.le_of_ble_eq_true rfl, Nat.le_of_ble_eq_true rfl⟩ dX10_submit_87) (Nat.le_of_ble_eq_true rfl) (Nat.le_of_ble_eq_true rfl) (by rw [fX10_submit, if_pos qc_1, if_pos qc_3, if_pos qc_4, if_pos qc_5, if_pos qc_6, if_pos qc_7, if_pos qc_8, if_pos qc_9, if_pos qc_10, if_pos qc_11] <;> rfl) (by rw [fX10_submit, if_pos qc_1, if_pos qc_3, if_pos qc_4, if_pos qc_5, if_pos qc_6, if_pos qc_7, if_pos qc_8, if_pos qc_9, if_pos qc_10, if_pos qc_11] <;> rfl)
                    · refine x_iconst (pc2 := 83) (v := 1) C dX10_submit_82 rfl rfl ?_
                      refine x_goto (tgt := 87) C dX10_submit_83 (by decide) ?_
                      have qc_13 : eX10_demandState Ω (1 : Int32) = none := by rw [eX10_demandState, if_neg (by decide)]
                      refine x_ret (rest := []) (st2 := []) (pc2 := 90) (cu2 := 10) (su2 := 60) (x_cS C kmX10_demandState kk_10_52 (XM_n qc_13 (tX10_demandState hok )) rfl rfl (Nat.le_of_ble_eq_true rfl) ⟨Nat.le_of_ble_eq_true rfl, Nat.le_of_ble_eq_true rfl⟩ ⟨Nat.le_of_ble_eq_true rfl, Nat.le_of_ble_eq_true rfl⟩ dX10_submit_87) rfl rfl rfl rfl ?_
                      refine x_aload (pc2 := 92) C dX10_submit_90 0 rfl rfl ?_
                      refine x_ret (rest := []) (st2 := [_]) (pc2 := 95) (cu2 := 10) (su2 := 60) (x_cV C (by assumption) (Nat.le_of_ble_eq_true rfl) kmX1_draft rfl kk_10_74 (tX1_draft hok (by assumption)) rfl rfl (Nat.le_of_ble_eq_true rfl) ⟨Nat.le_of_ble_eq_true rfl, Nat.le_of_ble_eq_true rfl⟩ ⟨Nat.le_of_ble_eq_true rfl, Nat.le_of_ble_eq_true rfl⟩ dX10_submit_92) rfl rfl rfl rfl ?_
                      have qd_14 := D_draft hok (Ω := Ω) (i := (rX10_demandChain Ω i x1)) (by assumption)
                      refine x_astore (pc2 := 97) (lv2 := [(11, _), (10, _), (0, _), (1, _), (2, _), (3, _), (4, _), (5, _), (6, _), (7, _), (8, _), (9, _)]) C dX10_submit_95 (by decide) rfl rfl ?_
                      refine x_aload (pc2 := 99) C dX10_submit_97 0 rfl rfl ?_
                      refine x_iload_n (pc2 := 100) C dX10_submit_99 4 rfl rfl rfl ?_
                      refine x_iload_n (pc2 := 101) C dX10_submit_100 5 rfl rfl rfl ?_
                      refine x_iload (pc2 := 103) C dX10_submit_101 6 rfl rfl ?_
                      refine x_iload (pc2 := 105) C dX10_submit_103 7 rfl rfl ?_
                      refine x_iload (pc2 := 107) C dX10_submit_105 8 rfl rfl ?_
                      refine x_iload (pc2 := 109) C dX10_submit_107 9 rfl rfl ?_
                      refine x_ret (rest := []) (st2 := []) (pc2 := 112) (cu2 := 10) (su2 := 60) (x_cV C (by assumption) (Nat.le_of_ble_eq_true rfl) kmX7_order rfl kk_10_78 (tX7_order hok (by assumption)) rfl rfl (Nat.le_of_ble_eq_true rfl) ⟨Nat.le_of_ble_eq_true rfl, Nat.le_of_ble_eq_true rfl⟩ ⟨Nat.le_of_ble_eq_true rfl, Nat.le_of_ble_eq_true rfl⟩ dX10_submit_109) rfl rfl rfl rfl ?_
                      refine x_aload (pc2 := 114) C dX10_submit_112 0 rfl rfl ?_
                      refine x_iload (pc2 := 116) C dX10_submit_114 10 rfl rfl ?_
                      refine x_iload (pc2 := 118) C dX10_submit_116 11 rfl rfl ?_
                      refine x_ret (rest := []) (st2 := []) (pc2 := 121) (cu2 := 10) (su2 := 60) (x_cV C (by assumption) (Nat.le_of_ble_eq_true rfl) kmX7_bid rfl kk_10_84 (tX7_bid hok (by assumption)) rfl rfl (Nat.le_of_ble_eq_true rfl) ⟨Nat.le_of_ble_eq_true rfl, Nat.le_of_ble_eq_true rfl⟩ ⟨Nat.le_of_ble_eq_true rfl, Nat.le_of_ble_eq_true rfl⟩ dX10_submit_118) rfl rfl rfl rfl ?_
                      refine x_aload (pc2 := 123) C dX10_submit_121 1 rfl rfl ?_
                      refine x_aload (pc2 := 125) C dX10_submit_123 0 rfl rfl ?_
                      refine x_ret (rest := []) (st2 := [_]) (pc2 := 128) (cu2 := 10) (su2 := 60) (x_cV C (by assumption) (Nat.le_of_ble_eq_true rfl) kmX1_admit rfl kk_10_87 (tX1_admit hok (by assumption) (by assumption)) rfl rfl (Nat.le_of_ble_eq_true rfl) ⟨Nat.le_of_ble_eq_true rfl, Nat.le_of_ble_eq_true rfl⟩ ⟨Nat.le_of_ble_eq_true rfl, Nat.le_of_ble_eq_true rfl⟩ dX10_submit_125) rfl rfl rfl rfl ?_
                      exact x_ireturn C dX10_submit_128 rfl (Nat.le_of_ble_eq_true rfl) (Nat.le_of_ble_eq_true rfl) (by rw [fX10_submit, if_pos qc_1, if_pos qc_3, if_pos qc_4, if_pos qc_5, if_pos qc_6, if_pos qc_7, if_pos qc_8, if_pos qc_9, if_pos qc_10, if_neg qc_11] <;> rfl) (by rw [fX10_submit, if_pos qc_1, if_pos qc_3, if_pos qc_4, if_pos qc_5, if_pos qc_6, if_pos qc_7, if_pos qc_8, if_pos qc_9, if_pos qc_10, if_neg qc_11] <;> rfl)
                  · exact x_thr C (rest := []) (x_cS C kmX10_demandRange kk_10_36 (XM_t qc_10 (tX10_demandRange hok )) rfl rfl (Nat.le_of_ble_eq_true rfl) ⟨Nat.le_of_ble_eq_true rfl, Nat.le_of_ble_eq_true rfl⟩ ⟨Nat.le_of_ble_eq_true rfl, Nat.le_of_ble_eq_true rfl⟩ dX10_submit_69) (Nat.le_of_ble_eq_true rfl) (Nat.le_of_ble_eq_true rfl) (by rw [fX10_submit, if_pos qc_1, if_pos qc_3, if_pos qc_4, if_pos qc_5, if_pos qc_6, if_pos qc_7, if_pos qc_8, if_pos qc_9, if_neg qc_10] <;> rfl) (by rw [fX10_submit, if_pos qc_1, if_pos qc_3, if_pos qc_4, if_pos qc_5, if_pos qc_6, if_pos qc_7, if_pos qc_8, if_pos qc_9, if_neg qc_10] <;> rfl)
                · exact x_thr C (rest := []) (x_cS C kmX10_demandRange kk_10_36 (XM_t qc_9 (tX10_demandRange hok )) rfl rfl (Nat.le_of_ble_eq_true rfl) ⟨Nat.le_of_ble_eq_true rfl, Nat.le_of_ble_eq_true rfl⟩ ⟨Nat.le_of_ble_eq_true rfl, Nat.le_of_ble_eq_true rfl⟩ dX10_submit_61) (Nat.le_of_ble_eq_true rfl) (Nat.le_of_ble_eq_true rfl) (by rw [fX10_submit, if_pos qc_1, if_pos qc_3, if_pos qc_4, if_pos qc_5, if_pos qc_6, if_pos qc_7, if_pos qc_8, if_neg qc_9] <;> rfl) (by rw [fX10_submit, if_pos qc_1, if_pos qc_3, if_pos qc_4, if_pos qc_5, if_pos qc_6, if_pos qc_7, if_pos qc_8, if_neg qc_9] <;> rfl)
              · exact x_thr C (rest := []) (x_cS C kmX10_demandRange kk_10_36 (XM_t qc_8 (tX10_demandRange hok )) rfl rfl (Nat.le_of_ble_eq_true rfl) ⟨Nat.le_of_ble_eq_true rfl, Nat.le_of_ble_eq_true rfl⟩ ⟨Nat.le_of_ble_eq_true rfl, Nat.le_of_ble_eq_true rfl⟩ dX10_submit_53) (Nat.le_of_ble_eq_true rfl) (Nat.le_of_ble_eq_true rfl) (by rw [fX10_submit, if_pos qc_1, if_pos qc_3, if_pos qc_4, if_pos qc_5, if_pos qc_6, if_pos qc_7, if_neg qc_8] <;> rfl) (by rw [fX10_submit, if_pos qc_1, if_pos qc_3, if_pos qc_4, if_pos qc_5, if_pos qc_6, if_pos qc_7, if_neg qc_8] <;> rfl)
            · exact x_thr C (rest := []) (x_cS C kmX10_demandRange kk_10_36 (XM_t qc_7 (tX10_demandRange hok )) rfl rfl (Nat.le_of_ble_eq_true rfl) ⟨Nat.le_of_ble_eq_true rfl, Nat.le_of_ble_eq_true rfl⟩ ⟨Nat.le_of_ble_eq_true rfl, Nat.le_of_ble_eq_true rfl⟩ dX10_submit_43) (Nat.le_of_ble_eq_true rfl) (Nat.le_of_ble_eq_true rfl) (by rw [fX10_submit, if_pos qc_1, if_pos qc_3, if_pos qc_4, if_pos qc_5, if_pos qc_6, if_neg qc_7] <;> rfl) (by rw [fX10_submit, if_pos qc_1, if_pos qc_3, if_pos qc_4, if_pos qc_5, if_pos qc_6, if_neg qc_7] <;> rfl)
          · exact x_thr C (rest := []) (x_cS C kmX10_demandRange kk_10_36 (XM_t qc_6 (tX10_demandRange hok )) rfl rfl (Nat.le_of_ble_eq_true rfl) ⟨Nat.le_of_ble_eq_true rfl, Nat.le_of_ble_eq_true rfl⟩ ⟨Nat.le_of_ble_eq_true rfl, Nat.le_of_ble_eq_true rfl⟩ dX10_submit_34) (Nat.le_of_ble_eq_true rfl) (Nat.le_of_ble_eq_true rfl) (by rw [fX10_submit, if_pos qc_1, if_pos qc_3, if_pos qc_4, if_pos qc_5, if_neg qc_6] <;> rfl) (by rw [fX10_submit, if_pos qc_1, if_pos qc_3, if_pos qc_4, if_pos qc_5, if_neg qc_6] <;> rfl)
        · exact x_thr C (rest := []) (x_cS C kmX10_demandRange kk_10_36 (XM_t qc_5 (tX10_demandRange hok )) rfl rfl (Nat.le_of_ble_eq_true rfl) ⟨Nat.le_of_ble_eq_true rfl, Nat.le_of_ble_eq_true rfl⟩ ⟨Nat.le_of_ble_eq_true rfl, Nat.le_of_ble_eq_true rfl⟩ dX10_submit_25) (Nat.le_of_ble_eq_true rfl) (Nat.le_of_ble_eq_true rfl) (by rw [fX10_submit, if_pos qc_1, if_pos qc_3, if_pos qc_4, if_neg qc_5] <;> rfl) (by rw [fX10_submit, if_pos qc_1, if_pos qc_3, if_pos qc_4, if_neg qc_5] <;> rfl)
      · exact x_thr C (rest := []) (x_cS C kmX10_demandRange kk_10_36 (XM_t qc_4 (tX10_demandRange hok )) rfl rfl (Nat.le_of_ble_eq_true rfl) ⟨Nat.le_of_ble_eq_true rfl, Nat.le_of_ble_eq_true rfl⟩ ⟨Nat.le_of_ble_eq_true rfl, Nat.le_of_ble_eq_true rfl⟩ dX10_submit_17) (Nat.le_of_ble_eq_true rfl) (Nat.le_of_ble_eq_true rfl) (by rw [fX10_submit, if_pos qc_1, if_pos qc_3, if_neg qc_4] <;> rfl) (by rw [fX10_submit, if_pos qc_1, if_pos qc_3, if_neg qc_4] <;> rfl)
    · exact x_thr C (rest := []) (x_cS C kmX10_demandIndex kk_10_32 (XM_t qc_3 (tX10_demandIndex hok )) rfl rfl (Nat.le_of_ble_eq_true rfl) ⟨Nat.le_of_ble_eq_true rfl, Nat.le_of_ble_eq_true rfl⟩ ⟨Nat.le_of_ble_eq_true rfl, Nat.le_of_ble_eq_true rfl⟩ dX10_submit_10) (Nat.le_of_ble_eq_true rfl) (Nat.le_of_ble_eq_true rfl) (by rw [fX10_submit, if_pos qc_1, if_neg qc_3] <;> rfl) (by rw [fX10_submit, if_pos qc_1, if_neg qc_3] <;> rfl)
  · exact x_thr C (rest := []) (x_cV C (by assumption) (Nat.le_of_ble_eq_true rfl) kmX10_demandChain rfl kk_10_64 (XM_t qc_1 (tX10_demandChain hok (by assumption))) rfl rfl (Nat.le_of_ble_eq_true rfl) ⟨Nat.le_of_ble_eq_true rfl, Nat.le_of_ble_eq_true rfl⟩ ⟨Nat.le_of_ble_eq_true rfl, Nat.le_of_ble_eq_true rfl⟩ dX10_submit_2) (Nat.le_of_ble_eq_true rfl) (Nat.le_of_ble_eq_true rfl) (by rw [fX10_submit, if_neg qc_1] <;> rfl) (by rw [fX10_submit, if_neg qc_1] <;> rfl)
def fX10_claim (Ω : XO) (i : Nat) (x1 : Int32) (x2 : Int32) (x3 : Int32) (x4 : Int32) (x5 : Int32) (x6 : Int32) : (Option Value ⊕ String) × XO := (if eX10_demandChain Ω i x1 = none then (if eX10_demandChain Ω i ((1 : Int32) - x1) = none then (if eX10_demandIndex Ω x4 (xI Ω 103 (rX10_demandChain Ω i ((1 : Int32) - x1)) 0) = none then (if eX10_demandIndex Ω x2 (6 : Int32) = none then (if eX10_demandRange Ω x3 (0 : Int32) (9 : Int32) = none then (if eX10_demandRange Ω x5 (1 : Int32) (100 : Int32) = none then (if eX10_demandRange Ω x6 (0 : Int32) x5 = none then (if eX10_demandArgument Ω (fX7_isLock Ω (fX1_numbered Ω (rX10_demandChain Ω i ((1 : Int32) - x1)) x4)) = none then (if eX10_demandState Ω (fX0_holds Ω (fX1_lastFinalBlock Ω (rX10_demandChain Ω i ((1 : Int32) - x1))) x4) = none then (if (40 : Int32) ≤ (xI Ω 103 (rX10_demandChain Ω i x1) 0) then (.inr ((eX10_demandState Ω (0 : Int32)).getD ""), Ω) else (.inl (some (.int ((fX1_admit (fX7_nameLock (fX7_bid (fX7_order Ω (fX1_draft Ω (rX10_demandChain Ω i x1)) x2 x3 (15 : Int32) (0 : Int32) (0 : Int32) (60 : Int32)) (fX1_draft Ω (rX10_demandChain Ω i x1)) x5 x6) (fX1_draft Ω (rX10_demandChain Ω i x1)) (fX1_numbered Ω (rX10_demandChain Ω i ((1 : Int32) - x1)) x4)) (rX10_demandChain Ω i x1) (fX1_draft Ω (rX10_demandChain Ω i x1))).1))), (fX1_admit (fX7_nameLock (fX7_bid (fX7_order Ω (fX1_draft Ω (rX10_demandChain Ω i x1)) x2 x3 (15 : Int32) (0 : Int32) (0 : Int32) (60 : Int32)) (fX1_draft Ω (rX10_demandChain Ω i x1)) x5 x6) (fX1_draft Ω (rX10_demandChain Ω i x1)) (fX1_numbered Ω (rX10_demandChain Ω i ((1 : Int32) - x1)) x4)) (rX10_demandChain Ω i x1) (fX1_draft Ω (rX10_demandChain Ω i x1))).2)) else (.inr ((eX10_demandState Ω (fX0_holds Ω (fX1_lastFinalBlock Ω (rX10_demandChain Ω i ((1 : Int32) - x1))) x4)).getD ""), Ω)) else (.inr ((eX10_demandArgument Ω (fX7_isLock Ω (fX1_numbered Ω (rX10_demandChain Ω i ((1 : Int32) - x1)) x4))).getD ""), Ω)) else (.inr ((eX10_demandRange Ω x6 (0 : Int32) x5).getD ""), Ω)) else (.inr ((eX10_demandRange Ω x5 (1 : Int32) (100 : Int32)).getD ""), Ω)) else (.inr ((eX10_demandRange Ω x3 (0 : Int32) (9 : Int32)).getD ""), Ω)) else (.inr ((eX10_demandIndex Ω x2 (6 : Int32)).getD ""), Ω)) else (.inr ((eX10_demandIndex Ω x4 (xI Ω 103 (rX10_demandChain Ω i ((1 : Int32) - x1)) 0)).getD ""), Ω)) else (.inr ((eX10_demandChain Ω i ((1 : Int32) - x1)).getD ""), Ω)) else (.inr ((eX10_demandChain Ω i x1).getD ""), Ω))
set_option maxRecDepth 20000 in
theorem tX10_claim {G : XG} (hok : XK G) {i : Nat} {x1 : Int32} {x2 : Int32} {x3 : Int32} {x4 : Int32} {x5 : Int32} {x6 : Int32} {Ω : XO} (hd0 : dm G 10 i)  : XM G yX10_claim cX10_claim 11 ((some FieldType.int)) (RM 8 10) [.ref (ad G 10 i), .int x1, .int x2, .int x3, .int x4, .int x5, .int x6] Ω (fX10_claim Ω i x1 x2 x3 x4 x5 x6).1 (fX10_claim Ω i x1 x2 x3 x4 x5 x6).2 := by
  refine x_start (lv := [(0, .ref (ad G 10 i)), (1, .int x1), (2, .int x2), (3, .int x3), (4, .int x4), (5, .int x5), (6, .int x6)]) (own := RX10) hok (by decide +kernel) rfl (Nat.le_of_ble_eq_true rfl) rfl (fun B C => ?_)
  refine x_aload_n (pc2 := 1) C dX10_claim_0 0 rfl rfl rfl ?_
  refine x_iload_n (pc2 := 2) C dX10_claim_1 1 rfl rfl rfl ?_
  rcases Decidable.em (eX10_demandChain Ω i x1 = none) with qc_1 | qc_1
  · refine x_ret (rest := []) (st2 := [_]) (pc2 := 5) (cu2 := 1) (su2 := 6) (x_cV C (by assumption) (Nat.le_of_ble_eq_true rfl) kmX10_demandChain rfl kk_10_64 (XM_n qc_1 (tX10_demandChain hok (by assumption))) rfl rfl (Nat.le_of_ble_eq_true rfl) ⟨Nat.le_of_ble_eq_true rfl, Nat.le_of_ble_eq_true rfl⟩ ⟨Nat.le_of_ble_eq_true rfl, Nat.le_of_ble_eq_true rfl⟩ dX10_claim_2) rfl rfl rfl rfl ?_
    have qd_2 := D_demandChain hok (Ω := Ω) (by assumption) qc_1
    refine x_astore (pc2 := 7) (lv2 := [(7, _), (0, _), (1, _), (2, _), (3, _), (4, _), (5, _), (6, _)]) C dX10_claim_5 (by decide) rfl rfl ?_
    refine x_aload_n (pc2 := 8) C dX10_claim_7 1 rfl rfl rfl ?_
    refine x_iconst (pc2 := 9) (v := 1) C dX10_claim_8 rfl rfl ?_
    refine x_iload_n (pc2 := 10) C dX10_claim_9 2 rfl rfl rfl ?_
    refine x_isub (pc2 := 11) C dX10_claim_10 rfl ?_
    rcases Decidable.em (eX10_demandChain Ω i ((1 : Int32) - x1) = none) with qc_3 | qc_3
    · refine x_ret (rest := []) (st2 := [_]) (pc2 := 14) (cu2 := 2) (su2 := 12) (x_cV C (by assumption) (Nat.le_of_ble_eq_true rfl) kmX10_demandChain rfl kk_10_64 (XM_n qc_3 (tX10_demandChain hok (by assumption))) rfl rfl (Nat.le_of_ble_eq_true rfl) ⟨Nat.le_of_ble_eq_true rfl, Nat.le_of_ble_eq_true rfl⟩ ⟨Nat.le_of_ble_eq_true rfl, Nat.le_of_ble_eq_true rfl⟩ dX10_claim_11) rfl rfl rfl rfl ?_
      have qd_4 := D_demandChain hok (Ω := Ω) (by assumption) qc_3
      refine x_astore (pc2 := 16) (lv2 := [(8, _), (7, _), (0, _), (1, _), (2, _), (3, _), (4, _), (5, _), (6, _)]) C dX10_claim_14 (by decide) rfl rfl ?_
      refine x_iload (pc2 := 18) C dX10_claim_16 6 rfl rfl ?_
      refine x_aload (pc2 := 20) C dX10_claim_18 0 rfl rfl ?_
      refine x_getI (pc2 := 23) (f := 103) C (by assumption) kf_10_56 dX10_claim_20 rfl rfl rfl ?_
      rcases Decidable.em (eX10_demandIndex Ω x4 (xI Ω 103 (rX10_demandChain Ω i ((1 : Int32) - x1)) 0) = none) with qc_5 | qc_5
      · refine x_ret (rest := []) (st2 := []) (pc2 := 26) (cu2 := 3) (su2 := 18) (x_cS C kmX10_demandIndex kk_10_32 (XM_n qc_5 (tX10_demandIndex hok )) rfl rfl (Nat.le_of_ble_eq_true rfl) ⟨Nat.le_of_ble_eq_true rfl, Nat.le_of_ble_eq_true rfl⟩ ⟨Nat.le_of_ble_eq_true rfl, Nat.le_of_ble_eq_true rfl⟩ dX10_claim_23) rfl rfl rfl rfl ?_
        refine x_iload_n (pc2 := 27) C dX10_claim_26 4 rfl rfl rfl ?_
        refine x_bipush (pc2 := 29) (v := 6) C dX10_claim_27 rfl rfl ?_
        rcases Decidable.em (eX10_demandIndex Ω x2 (6 : Int32) = none) with qc_6 | qc_6
        · refine x_ret (rest := []) (st2 := []) (pc2 := 32) (cu2 := 4) (su2 := 24) (x_cS C kmX10_demandIndex kk_10_32 (XM_n qc_6 (tX10_demandIndex hok )) rfl rfl (Nat.le_of_ble_eq_true rfl) ⟨Nat.le_of_ble_eq_true rfl, Nat.le_of_ble_eq_true rfl⟩ ⟨Nat.le_of_ble_eq_true rfl, Nat.le_of_ble_eq_true rfl⟩ dX10_claim_29) rfl rfl rfl rfl ?_
          refine x_iload_n (pc2 := 33) C dX10_claim_32 5 rfl rfl rfl ?_
          refine x_iconst (pc2 := 34) (v := 0) C dX10_claim_33 rfl rfl ?_
          refine x_bipush (pc2 := 36) (v := 9) C dX10_claim_34 rfl rfl ?_
          rcases Decidable.em (eX10_demandRange Ω x3 (0 : Int32) (9 : Int32) = none) with qc_7 | qc_7
          · refine x_ret (rest := []) (st2 := []) (pc2 := 39) (cu2 := 5) (su2 := 30) (x_cS C kmX10_demandRange kk_10_36 (XM_n qc_7 (tX10_demandRange hok )) rfl rfl (Nat.le_of_ble_eq_true rfl) ⟨Nat.le_of_ble_eq_true rfl, Nat.le_of_ble_eq_true rfl⟩ ⟨Nat.le_of_ble_eq_true rfl, Nat.le_of_ble_eq_true rfl⟩ dX10_claim_36) rfl rfl rfl rfl ?_
            refine x_iload (pc2 := 41) C dX10_claim_39 7 rfl rfl ?_
            refine x_iconst (pc2 := 42) (v := 1) C dX10_claim_41 rfl rfl ?_
            refine x_bipush (pc2 := 44) (v := 100) C dX10_claim_42 rfl rfl ?_
            rcases Decidable.em (eX10_demandRange Ω x5 (1 : Int32) (100 : Int32) = none) with qc_8 | qc_8
            · refine x_ret (rest := []) (st2 := []) (pc2 := 47) (cu2 := 6) (su2 := 36) (x_cS C kmX10_demandRange kk_10_36 (XM_n qc_8 (tX10_demandRange hok )) rfl rfl (Nat.le_of_ble_eq_true rfl) ⟨Nat.le_of_ble_eq_true rfl, Nat.le_of_ble_eq_true rfl⟩ ⟨Nat.le_of_ble_eq_true rfl, Nat.le_of_ble_eq_true rfl⟩ dX10_claim_44) rfl rfl rfl rfl ?_
              refine x_iload (pc2 := 49) C dX10_claim_47 8 rfl rfl ?_
              refine x_iconst (pc2 := 50) (v := 0) C dX10_claim_49 rfl rfl ?_
              refine x_iload (pc2 := 52) C dX10_claim_50 7 rfl rfl ?_
              rcases Decidable.em (eX10_demandRange Ω x6 (0 : Int32) x5 = none) with qc_9 | qc_9
              · refine x_ret (rest := []) (st2 := []) (pc2 := 55) (cu2 := 7) (su2 := 42) (x_cS C kmX10_demandRange kk_10_36 (XM_n qc_9 (tX10_demandRange hok )) rfl rfl (Nat.le_of_ble_eq_true rfl) ⟨Nat.le_of_ble_eq_true rfl, Nat.le_of_ble_eq_true rfl⟩ ⟨Nat.le_of_ble_eq_true rfl, Nat.le_of_ble_eq_true rfl⟩ dX10_claim_52) rfl rfl rfl rfl ?_
                refine x_aload (pc2 := 57) C dX10_claim_55 0 rfl rfl ?_
                refine x_iload (pc2 := 59) C dX10_claim_57 6 rfl rfl ?_
                refine x_ret (rest := []) (st2 := [_]) (pc2 := 62) (cu2 := 7) (su2 := 42) (x_cV C (by assumption) (Nat.le_of_ble_eq_true rfl) kmX1_numbered rfl kk_10_91 (tX1_numbered hok (by assumption)) rfl rfl (Nat.le_of_ble_eq_true rfl) ⟨Nat.le_of_ble_eq_true rfl, Nat.le_of_ble_eq_true rfl⟩ ⟨Nat.le_of_ble_eq_true rfl, Nat.le_of_ble_eq_true rfl⟩ dX10_claim_59) rfl rfl rfl rfl ?_
                have qd_10 := D_numbered hok (Ω := Ω) (i := (rX10_demandChain Ω i ((1 : Int32) - x1))) (by assumption) (x1 := x4)
                refine x_astore (pc2 := 64) (lv2 := [(9, _), (8, _), (7, _), (0, _), (1, _), (2, _), (3, _), (4, _), (5, _), (6, _)]) C dX10_claim_62 (by decide) rfl rfl ?_
                refine x_aload (pc2 := 66) C dX10_claim_64 0 rfl rfl ?_
                refine x_ret (rest := []) (st2 := [_]) (pc2 := 69) (cu2 := 7) (su2 := 42) (x_cV C (by assumption) (Nat.le_of_ble_eq_true rfl) kmX7_isLock rfl kk_10_95 (tX7_isLock hok (by assumption)) rfl rfl (Nat.le_of_ble_eq_true rfl) ⟨Nat.le_of_ble_eq_true rfl, Nat.le_of_ble_eq_true rfl⟩ ⟨Nat.le_of_ble_eq_true rfl, Nat.le_of_ble_eq_true rfl⟩ dX10_claim_66) rfl rfl rfl rfl ?_
                rcases Decidable.em (eX10_demandArgument Ω (fX7_isLock Ω (fX1_numbered Ω (rX10_demandChain Ω i ((1 : Int32) - x1)) x4)) = none) with qc_11 | qc_11
                · refine x_ret (rest := []) (st2 := []) (pc2 := 72) (cu2 := 8) (su2 := 48) (x_cS C kmX10_demandArgument kk_10_99 (XM_n qc_11 (tX10_demandArgument hok )) rfl rfl (Nat.le_of_ble_eq_true rfl) ⟨Nat.le_of_ble_eq_true rfl, Nat.le_of_ble_eq_true rfl⟩ ⟨Nat.le_of_ble_eq_true rfl, Nat.le_of_ble_eq_true rfl⟩ dX10_claim_69) rfl rfl rfl rfl ?_
                  refine x_aload (pc2 := 74) C dX10_claim_72 1 rfl rfl ?_
                  refine x_ret (rest := []) (st2 := [_]) (pc2 := 77) (cu2 := 8) (su2 := 48) (x_cV C (by assumption) (Nat.le_of_ble_eq_true rfl) kmX1_lastFinalBlock rfl kk_10_102 (tX1_lastFinalBlock hok (by assumption)) rfl rfl (Nat.le_of_ble_eq_true rfl) ⟨Nat.le_of_ble_eq_true rfl, Nat.le_of_ble_eq_true rfl⟩ ⟨Nat.le_of_ble_eq_true rfl, Nat.le_of_ble_eq_true rfl⟩ dX10_claim_74) rfl rfl rfl rfl ?_
                  have qd_12 := D_lastFinalBlock hok (Ω := Ω) (i := (rX10_demandChain Ω i ((1 : Int32) - x1))) (by assumption)
                  refine x_iload (pc2 := 79) C dX10_claim_77 7 rfl rfl ?_
                  refine x_ret (rest := []) (st2 := [_]) (pc2 := 82) (cu2 := 8) (su2 := 48) (x_cV C (by assumption) (Nat.le_of_ble_eq_true rfl) kmX0_holds rfl kk_10_106 (tX0_holds hok (by assumption)) rfl rfl (Nat.le_of_ble_eq_true rfl) ⟨Nat.le_of_ble_eq_true rfl, Nat.le_of_ble_eq_true rfl⟩ ⟨Nat.le_of_ble_eq_true rfl, Nat.le_of_ble_eq_true rfl⟩ dX10_claim_79) rfl rfl rfl rfl ?_
                  rcases Decidable.em (eX10_demandState Ω (fX0_holds Ω (fX1_lastFinalBlock Ω (rX10_demandChain Ω i ((1 : Int32) - x1))) x4) = none) with qc_13 | qc_13
                  · refine x_ret (rest := []) (st2 := []) (pc2 := 85) (cu2 := 9) (su2 := 54) (x_cS C kmX10_demandState kk_10_52 (XM_n qc_13 (tX10_demandState hok )) rfl rfl (Nat.le_of_ble_eq_true rfl) ⟨Nat.le_of_ble_eq_true rfl, Nat.le_of_ble_eq_true rfl⟩ ⟨Nat.le_of_ble_eq_true rfl, Nat.le_of_ble_eq_true rfl⟩ dX10_claim_82) rfl rfl rfl rfl ?_
                    refine x_aload (pc2 := 87) C dX10_claim_85 2 rfl rfl ?_
                    refine x_getI (pc2 := 90) (f := 103) C (by assumption) kf_10_56 dX10_claim_87 rfl rfl rfl ?_
                    refine x_bipush (pc2 := 92) (v := 40) C dX10_claim_90 rfl rfl ?_
                    refine x_icmp_ge (tgt := 99) (pc2 := 95) C dX10_claim_92 (by decide) rfl (fun qc_14 => ?_) (fun qc_14 => ?_)
                    · refine x_iconst (pc2 := 100) (v := 0) C dX10_claim_99 rfl rfl ?_
                      have qc_15 : ¬ eX10_demandState Ω (0 : Int32) = none := by rw [eX10_demandState, if_pos rfl]; exact nofun
                      exact x_thr C (rest := []) (x_cS C kmX10_demandState kk_10_52 (XM_t qc_15 (tX10_demandState hok )) rfl rfl (Nat.le_of_ble_eq_true rfl) ⟨Nat.le_of_ble_eq_true rfl, Nat.le_of_ble_eq_true rfl⟩ ⟨Nat.le_of_ble_eq_true rfl, Nat.le_of_ble_eq_true rfl⟩ dX10_claim_100) (Nat.le_of_ble_eq_true rfl) (Nat.le_of_ble_eq_true rfl) (by rw [fX10_claim, if_pos qc_1, if_pos qc_3, if_pos qc_5, if_pos qc_6, if_pos qc_7, if_pos qc_8, if_pos qc_9, if_pos qc_11, if_pos qc_13, if_pos qc_14] <;> rfl) (by rw [fX10_claim, if_pos qc_1, if_pos qc_3, if_pos qc_5, if_pos qc_6, if_pos qc_7, if_pos qc_8, if_pos qc_9, if_pos qc_11, if_pos qc_13, if_pos qc_14] <;> rfl)
                    · refine x_iconst (pc2 := 96) (v := 1) C dX10_claim_95 rfl rfl ?_
                      refine x_goto (tgt := 100) C dX10_claim_96 (by decide) ?_
                      have qc_16 : eX10_demandState Ω (1 : Int32) = none := by rw [eX10_demandState, if_neg (by decide)]
                      refine x_ret (rest := []) (st2 := []) (pc2 := 103) (cu2 := 10) (su2 := 60) (x_cS C kmX10_demandState kk_10_52 (XM_n qc_16 (tX10_demandState hok )) rfl rfl (Nat.le_of_ble_eq_true rfl) ⟨Nat.le_of_ble_eq_true rfl, Nat.le_of_ble_eq_true rfl⟩ ⟨Nat.le_of_ble_eq_true rfl, Nat.le_of_ble_eq_true rfl⟩ dX10_claim_100) rfl rfl rfl rfl ?_
                      refine x_aload (pc2 := 105) C dX10_claim_103 2 rfl rfl ?_
                      refine x_ret (rest := []) (st2 := [_]) (pc2 := 108) (cu2 := 10) (su2 := 60) (x_cV C (by assumption) (Nat.le_of_ble_eq_true rfl) kmX1_draft rfl kk_10_74 (tX1_draft hok (by assumption)) rfl rfl (Nat.le_of_ble_eq_true rfl) ⟨Nat.le_of_ble_eq_true rfl, Nat.le_of_ble_eq_true rfl⟩ ⟨Nat.le_of_ble_eq_true rfl, Nat.le_of_ble_eq_true rfl⟩ dX10_claim_105) rfl rfl rfl rfl ?_
                      have qd_17 := D_draft hok (Ω := Ω) (i := (rX10_demandChain Ω i x1)) (by assumption)
                      refine x_astore (pc2 := 110) (lv2 := [(10, _), (9, _), (8, _), (7, _), (0, _), (1, _), (2, _), (3, _), (4, _), (5, _), (6, _)]) C dX10_claim_108 (by decide) rfl rfl ?_
                      refine x_aload (pc2 := 112) C dX10_claim_110 0 rfl rfl ?_
                      refine x_iload_n (pc2 := 113) C dX10_claim_112 6 rfl rfl rfl ?_
                      refine x_iload_n (pc2 := 114) C dX10_claim_113 7 rfl rfl rfl ?_
                      refine x_bipush (pc2 := 116) (v := 15) C dX10_claim_114 rfl rfl ?_
                      refine x_iconst (pc2 := 117) (v := 0) C dX10_claim_116 rfl rfl ?_
                      refine x_iconst (pc2 := 118) (v := 0) C dX10_claim_117 rfl rfl ?_
                      refine x_bipush (pc2 := 120) (v := 60) C dX10_claim_118 rfl rfl ?_
                      refine x_ret (rest := []) (st2 := []) (pc2 := 123) (cu2 := 10) (su2 := 60) (x_cV C (by assumption) (Nat.le_of_ble_eq_true rfl) kmX7_order rfl kk_10_78 (tX7_order hok (by assumption)) rfl rfl (Nat.le_of_ble_eq_true rfl) ⟨Nat.le_of_ble_eq_true rfl, Nat.le_of_ble_eq_true rfl⟩ ⟨Nat.le_of_ble_eq_true rfl, Nat.le_of_ble_eq_true rfl⟩ dX10_claim_120) rfl rfl rfl rfl ?_
                      refine x_aload (pc2 := 125) C dX10_claim_123 0 rfl rfl ?_
                      refine x_iload (pc2 := 127) C dX10_claim_125 9 rfl rfl ?_
                      refine x_iload (pc2 := 129) C dX10_claim_127 10 rfl rfl ?_
                      refine x_ret (rest := []) (st2 := []) (pc2 := 132) (cu2 := 10) (su2 := 60) (x_cV C (by assumption) (Nat.le_of_ble_eq_true rfl) kmX7_bid rfl kk_10_84 (tX7_bid hok (by assumption)) rfl rfl (Nat.le_of_ble_eq_true rfl) ⟨Nat.le_of_ble_eq_true rfl, Nat.le_of_ble_eq_true rfl⟩ ⟨Nat.le_of_ble_eq_true rfl, Nat.le_of_ble_eq_true rfl⟩ dX10_claim_129) rfl rfl rfl rfl ?_
                      refine x_aload (pc2 := 134) C dX10_claim_132 0 rfl rfl ?_
                      refine x_aload (pc2 := 136) C dX10_claim_134 1 rfl rfl ?_
                      refine x_ret (rest := []) (st2 := []) (pc2 := 139) (cu2 := 10) (su2 := 60) (x_cV C (by assumption) (Nat.le_of_ble_eq_true rfl) kmX7_nameLock rfl kk_10_112 (tX7_nameLock hok (by assumption) (by assumption)) rfl rfl (Nat.le_of_ble_eq_true rfl) ⟨Nat.le_of_ble_eq_true rfl, Nat.le_of_ble_eq_true rfl⟩ ⟨Nat.le_of_ble_eq_true rfl, Nat.le_of_ble_eq_true rfl⟩ dX10_claim_136) rfl rfl rfl rfl ?_
                      refine x_aload (pc2 := 141) C dX10_claim_139 3 rfl rfl ?_
                      refine x_aload (pc2 := 143) C dX10_claim_141 0 rfl rfl ?_
                      refine x_ret (rest := []) (st2 := [_]) (pc2 := 146) (cu2 := 10) (su2 := 60) (x_cV C (by assumption) (Nat.le_of_ble_eq_true rfl) kmX1_admit rfl kk_10_87 (tX1_admit hok (by assumption) (by assumption)) rfl rfl (Nat.le_of_ble_eq_true rfl) ⟨Nat.le_of_ble_eq_true rfl, Nat.le_of_ble_eq_true rfl⟩ ⟨Nat.le_of_ble_eq_true rfl, Nat.le_of_ble_eq_true rfl⟩ dX10_claim_143) rfl rfl rfl rfl ?_
                      exact x_ireturn C dX10_claim_146 rfl (Nat.le_of_ble_eq_true rfl) (Nat.le_of_ble_eq_true rfl) (by rw [fX10_claim, if_pos qc_1, if_pos qc_3, if_pos qc_5, if_pos qc_6, if_pos qc_7, if_pos qc_8, if_pos qc_9, if_pos qc_11, if_pos qc_13, if_neg qc_14] <;> rfl) (by rw [fX10_claim, if_pos qc_1, if_pos qc_3, if_pos qc_5, if_pos qc_6, if_pos qc_7, if_pos qc_8, if_pos qc_9, if_pos qc_11, if_pos qc_13, if_neg qc_14] <;> rfl)
                  · exact x_thr C (rest := []) (x_cS C kmX10_demandState kk_10_52 (XM_t qc_13 (tX10_demandState hok )) rfl rfl (Nat.le_of_ble_eq_true rfl) ⟨Nat.le_of_ble_eq_true rfl, Nat.le_of_ble_eq_true rfl⟩ ⟨Nat.le_of_ble_eq_true rfl, Nat.le_of_ble_eq_true rfl⟩ dX10_claim_82) (Nat.le_of_ble_eq_true rfl) (Nat.le_of_ble_eq_true rfl) (by rw [fX10_claim, if_pos qc_1, if_pos qc_3, if_pos qc_5, if_pos qc_6, if_pos qc_7, if_pos qc_8, if_pos qc_9, if_pos qc_11, if_neg qc_13] <;> rfl) (by rw [fX10_claim, if_pos qc_1, if_pos qc_3, if_pos qc_5, if_pos qc_6, if_pos qc_7, if_pos qc_8, if_pos qc_9, if_pos qc_11, if_neg qc_13] <;> rfl)
                · exact x_thr C (rest := []) (x_cS C kmX10_demandArgument kk_10_99 (XM_t qc_11 (tX10_demandArgument hok )) rfl rfl (Nat.le_of_ble_eq_true rfl) ⟨Nat.le_of_ble_eq_true rfl, Nat.le_of_ble_eq_true rfl⟩ ⟨Nat.le_of_ble_eq_true rfl, Nat.le_of_ble_eq_true rfl⟩ dX10_claim_69) (Nat.le_of_ble_eq_true rfl) (Nat.le_of_ble_eq_true rfl) (by rw [fX10_claim, if_pos qc_1, if_pos qc_3, if_pos qc_5, if_pos qc_6, if_pos qc_7, if_pos qc_8, if_pos qc_9, if_neg qc_11] <;> rfl) (by rw [fX10_claim, if_pos qc_1, if_pos qc_3, if_pos qc_5, if_pos qc_6, if_pos qc_7, if_pos qc_8, if_pos qc_9, if_neg qc_11] <;> rfl)
              · exact x_thr C (rest := []) (x_cS C kmX10_demandRange kk_10_36 (XM_t qc_9 (tX10_demandRange hok )) rfl rfl (Nat.le_of_ble_eq_true rfl) ⟨Nat.le_of_ble_eq_true rfl, Nat.le_of_ble_eq_true rfl⟩ ⟨Nat.le_of_ble_eq_true rfl, Nat.le_of_ble_eq_true rfl⟩ dX10_claim_52) (Nat.le_of_ble_eq_true rfl) (Nat.le_of_ble_eq_true rfl) (by rw [fX10_claim, if_pos qc_1, if_pos qc_3, if_pos qc_5, if_pos qc_6, if_pos qc_7, if_pos qc_8, if_neg qc_9] <;> rfl) (by rw [fX10_claim, if_pos qc_1, if_pos qc_3, if_pos qc_5, if_pos qc_6, if_pos qc_7, if_pos qc_8, if_neg qc_9] <;> rfl)
            · exact x_thr C (rest := []) (x_cS C kmX10_demandRange kk_10_36 (XM_t qc_8 (tX10_demandRange hok )) rfl rfl (Nat.le_of_ble_eq_true rfl) ⟨Nat.le_of_ble_eq_true rfl, Nat.le_of_ble_eq_true rfl⟩ ⟨Nat.le_of_ble_eq_true rfl, Nat.le_of_ble_eq_true rfl⟩ dX10_claim_44) (Nat.le_of_ble_eq_true rfl) (Nat.le_of_ble_eq_true rfl) (by rw [fX10_claim, if_pos qc_1, if_pos qc_3, if_pos qc_5, if_pos qc_6, if_pos qc_7, if_neg qc_8] <;> rfl) (by rw [fX10_claim, if_pos qc_1, if_pos qc_3, if_pos qc_5, if_pos qc_6, if_pos qc_7, if_neg qc_8] <;> rfl)
          · exact x_thr C (rest := []) (x_cS C kmX10_demandRange kk_10_36 (XM_t qc_7 (tX10_demandRange hok )) rfl rfl (Nat.le_of_ble_eq_true rfl) ⟨Nat.le_of_ble_eq_true rfl, Nat.le_of_ble_eq_true rfl⟩ ⟨Nat.le_of_ble_eq_true rfl, Nat.le_of_ble_eq_true rfl⟩ dX10_claim_36) (Nat.le_of_ble_eq_true rfl) (Nat.le_of_ble_eq_true rfl) (by rw [fX10_claim, if_pos qc_1, if_pos qc_3, if_pos qc_5, if_pos qc_6, if_neg qc_7] <;> rfl) (by rw [fX10_claim, if_pos qc_1, if_pos qc_3, if_pos qc_5, if_pos qc_6, if_neg qc_7] <;> rfl)
        · exact x_thr C (rest := []) (x_cS C kmX10_demandIndex kk_10_32 (XM_t qc_6 (tX10_demandIndex hok )) rfl rfl (Nat.le_of_ble_eq_true rfl) ⟨Nat.le_of_ble_eq_true rfl, Nat.le_of_ble_eq_true rfl⟩ ⟨Nat.le_of_ble_eq_true rfl, Nat.le_of_ble_eq_true rfl⟩ dX10_claim_29) (Nat.le_of_ble_eq_true rfl) (Nat.le_of_ble_eq_true rfl) (by rw [fX10_claim, if_pos qc_1, if_pos qc_3, if_pos qc_5, if_neg qc_6] <;> rfl) (by rw [fX10_claim, if_pos qc_1, if_pos qc_3, if_pos qc_5, if_neg qc_6] <;> rfl)
      · exact x_thr C (rest := []) (x_cS C kmX10_demandIndex kk_10_32 (XM_t qc_5 (tX10_demandIndex hok )) rfl rfl (Nat.le_of_ble_eq_true rfl) ⟨Nat.le_of_ble_eq_true rfl, Nat.le_of_ble_eq_true rfl⟩ ⟨Nat.le_of_ble_eq_true rfl, Nat.le_of_ble_eq_true rfl⟩ dX10_claim_23) (Nat.le_of_ble_eq_true rfl) (Nat.le_of_ble_eq_true rfl) (by rw [fX10_claim, if_pos qc_1, if_pos qc_3, if_neg qc_5] <;> rfl) (by rw [fX10_claim, if_pos qc_1, if_pos qc_3, if_neg qc_5] <;> rfl)
    · exact x_thr C (rest := []) (x_cV C (by assumption) (Nat.le_of_ble_eq_true rfl) kmX10_demandChain rfl kk_10_64 (XM_t qc_3 (tX10_demandChain hok (by assumption))) rfl rfl (Nat.le_of_ble_eq_true rfl) ⟨Nat.le_of_ble_eq_true rfl, Nat.le_of_ble_eq_true rfl⟩ ⟨Nat.le_of_ble_eq_true rfl, Nat.le_of_ble_eq_true rfl⟩ dX10_claim_11) (Nat.le_of_ble_eq_true rfl) (Nat.le_of_ble_eq_true rfl) (by rw [fX10_claim, if_pos qc_1, if_neg qc_3] <;> rfl) (by rw [fX10_claim, if_pos qc_1, if_neg qc_3] <;> rfl)
  · exact x_thr C (rest := []) (x_cV C (by assumption) (Nat.le_of_ble_eq_true rfl) kmX10_demandChain rfl kk_10_64 (XM_t qc_1 (tX10_demandChain hok (by assumption))) rfl rfl (Nat.le_of_ble_eq_true rfl) ⟨Nat.le_of_ble_eq_true rfl, Nat.le_of_ble_eq_true rfl⟩ ⟨Nat.le_of_ble_eq_true rfl, Nat.le_of_ble_eq_true rfl⟩ dX10_claim_2) (Nat.le_of_ble_eq_true rfl) (Nat.le_of_ble_eq_true rfl) (by rw [fX10_claim, if_neg qc_1] <;> rfl) (by rw [fX10_claim, if_neg qc_1] <;> rfl)
def fX10_pool (Ω : XO) (i : Nat) (x1 : Int32) : (Option Value ⊕ String) × XO := (if eX10_demandChain Ω i x1 = none then (.inl (some (.int (fX1_countWaiting Ω (rX10_demandChain Ω i x1)))), Ω) else (.inr ((eX10_demandChain Ω i x1).getD ""), Ω))
set_option maxRecDepth 20000 in
theorem tX10_pool {G : XG} (hok : XK G) {i : Nat} {x1 : Int32} {Ω : XO} (hd0 : dm G 10 i)  : XM G yX10_pool cX10_pool 2 ((some FieldType.int)) (RM 7 1) [.ref (ad G 10 i), .int x1] Ω (fX10_pool Ω i x1).1 (fX10_pool Ω i x1).2 := by
  refine x_start (lv := [(0, .ref (ad G 10 i)), (1, .int x1)]) (own := RX10) hok (by decide +kernel) rfl (Nat.le_of_ble_eq_true rfl) rfl (fun B C => ?_)
  refine x_aload_n (pc2 := 1) C dX10_pool_0 0 rfl rfl rfl ?_
  refine x_iload_n (pc2 := 2) C dX10_pool_1 1 rfl rfl rfl ?_
  rcases Decidable.em (eX10_demandChain Ω i x1 = none) with qc_1 | qc_1
  · refine x_ret (rest := []) (st2 := [_]) (pc2 := 5) (cu2 := 1) (su2 := 6) (x_cV C (by assumption) (Nat.le_of_ble_eq_true rfl) kmX10_demandChain rfl kk_10_64 (XM_n qc_1 (tX10_demandChain hok (by assumption))) rfl rfl (Nat.le_of_ble_eq_true rfl) ⟨Nat.le_of_ble_eq_true rfl, Nat.le_of_ble_eq_true rfl⟩ ⟨Nat.le_of_ble_eq_true rfl, Nat.le_of_ble_eq_true rfl⟩ dX10_pool_2) rfl rfl rfl rfl ?_
    have qd_2 := D_demandChain hok (Ω := Ω) (by assumption) qc_1
    refine x_ret (rest := []) (st2 := [_]) (pc2 := 8) (cu2 := 1) (su2 := 6) (x_cV C (by assumption) (Nat.le_of_ble_eq_true rfl) kmX1_countWaiting rfl kk_10_116 (tX1_countWaiting hok (by assumption)) rfl rfl (Nat.le_of_ble_eq_true rfl) ⟨Nat.le_of_ble_eq_true rfl, Nat.le_of_ble_eq_true rfl⟩ ⟨Nat.le_of_ble_eq_true rfl, Nat.le_of_ble_eq_true rfl⟩ dX10_pool_5) rfl rfl rfl rfl ?_
    exact x_ireturn C dX10_pool_8 rfl (Nat.le_of_ble_eq_true rfl) (Nat.le_of_ble_eq_true rfl) (by rw [fX10_pool, if_pos qc_1] <;> rfl) (by rw [fX10_pool, if_pos qc_1] <;> rfl)
  · exact x_thr C (rest := []) (x_cV C (by assumption) (Nat.le_of_ble_eq_true rfl) kmX10_demandChain rfl kk_10_64 (XM_t qc_1 (tX10_demandChain hok (by assumption))) rfl rfl (Nat.le_of_ble_eq_true rfl) ⟨Nat.le_of_ble_eq_true rfl, Nat.le_of_ble_eq_true rfl⟩ ⟨Nat.le_of_ble_eq_true rfl, Nat.le_of_ble_eq_true rfl⟩ dX10_pool_2) (Nat.le_of_ble_eq_true rfl) (Nat.le_of_ble_eq_true rfl) (by rw [fX10_pool, if_neg qc_1] <;> rfl) (by rw [fX10_pool, if_neg qc_1] <;> rfl)
def fX10_head (Ω : XO) (i : Nat) (x1 : Int32) : (Option Value ⊕ String) × XO := (if eX10_demandChain Ω i x1 = none then (.inl (some (.int (xI Ω 0 (fX1_headBlock Ω (rX10_demandChain Ω i x1)) 0))), Ω) else (.inr ((eX10_demandChain Ω i x1).getD ""), Ω))
set_option maxRecDepth 20000 in
theorem tX10_head {G : XG} (hok : XK G) {i : Nat} {x1 : Int32} {Ω : XO} (hd0 : dm G 10 i)  : XM G yX10_head cX10_head 2 ((some FieldType.int)) (RM 7 1) [.ref (ad G 10 i), .int x1] Ω (fX10_head Ω i x1).1 (fX10_head Ω i x1).2 := by
  refine x_start (lv := [(0, .ref (ad G 10 i)), (1, .int x1)]) (own := RX10) hok (by decide +kernel) rfl (Nat.le_of_ble_eq_true rfl) rfl (fun B C => ?_)
  refine x_aload_n (pc2 := 1) C dX10_head_0 0 rfl rfl rfl ?_
  refine x_iload_n (pc2 := 2) C dX10_head_1 1 rfl rfl rfl ?_
  rcases Decidable.em (eX10_demandChain Ω i x1 = none) with qc_1 | qc_1
  · refine x_ret (rest := []) (st2 := [_]) (pc2 := 5) (cu2 := 1) (su2 := 6) (x_cV C (by assumption) (Nat.le_of_ble_eq_true rfl) kmX10_demandChain rfl kk_10_64 (XM_n qc_1 (tX10_demandChain hok (by assumption))) rfl rfl (Nat.le_of_ble_eq_true rfl) ⟨Nat.le_of_ble_eq_true rfl, Nat.le_of_ble_eq_true rfl⟩ ⟨Nat.le_of_ble_eq_true rfl, Nat.le_of_ble_eq_true rfl⟩ dX10_head_2) rfl rfl rfl rfl ?_
    have qd_2 := D_demandChain hok (Ω := Ω) (by assumption) qc_1
    refine x_ret (rest := []) (st2 := [_]) (pc2 := 8) (cu2 := 1) (su2 := 6) (x_cV C (by assumption) (Nat.le_of_ble_eq_true rfl) kmX1_headBlock rfl kk_10_132 (tX1_headBlock hok (by assumption)) rfl rfl (Nat.le_of_ble_eq_true rfl) ⟨Nat.le_of_ble_eq_true rfl, Nat.le_of_ble_eq_true rfl⟩ ⟨Nat.le_of_ble_eq_true rfl, Nat.le_of_ble_eq_true rfl⟩ dX10_head_5) rfl rfl rfl rfl ?_
    have qd_3 := D_headBlock hok (Ω := Ω) (i := (rX10_demandChain Ω i x1)) (by assumption)
    refine x_getI (pc2 := 11) (f := 0) C (by assumption) kf_10_135 dX10_head_8 rfl rfl rfl ?_
    exact x_ireturn C dX10_head_11 rfl (Nat.le_of_ble_eq_true rfl) (Nat.le_of_ble_eq_true rfl) (by rw [fX10_head, if_pos qc_1] <;> rfl) (by rw [fX10_head, if_pos qc_1] <;> rfl)
  · exact x_thr C (rest := []) (x_cV C (by assumption) (Nat.le_of_ble_eq_true rfl) kmX10_demandChain rfl kk_10_64 (XM_t qc_1 (tX10_demandChain hok (by assumption))) rfl rfl (Nat.le_of_ble_eq_true rfl) ⟨Nat.le_of_ble_eq_true rfl, Nat.le_of_ble_eq_true rfl⟩ ⟨Nat.le_of_ble_eq_true rfl, Nat.le_of_ble_eq_true rfl⟩ dX10_head_2) (Nat.le_of_ble_eq_true rfl) (Nat.le_of_ble_eq_true rfl) (by rw [fX10_head, if_neg qc_1] <;> rfl) (by rw [fX10_head, if_neg qc_1] <;> rfl)
def fX10_base (Ω : XO) (i : Nat) (x1 : Int32) (x2 : Int32) : (Option Value ⊕ String) × XO := (if eX10_demandBlock Ω i x1 x2 = none then (.inl (some (.int (xI Ω 5 (rX10_demandBlock Ω i x1 x2) 0))), Ω) else (.inr ((eX10_demandBlock Ω i x1 x2).getD ""), Ω))
set_option maxRecDepth 20000 in
theorem tX10_base {G : XG} (hok : XK G) {i : Nat} {x1 : Int32} {x2 : Int32} {Ω : XO} (hd0 : dm G 10 i)  : XM G yX10_base cX10_base 3 ((some FieldType.int)) (RM 8 2) [.ref (ad G 10 i), .int x1, .int x2] Ω (fX10_base Ω i x1 x2).1 (fX10_base Ω i x1 x2).2 := by
  refine x_start (lv := [(0, .ref (ad G 10 i)), (1, .int x1), (2, .int x2)]) (own := RX10) hok (by decide +kernel) rfl (Nat.le_of_ble_eq_true rfl) rfl (fun B C => ?_)
  refine x_aload_n (pc2 := 1) C dX10_base_0 0 rfl rfl rfl ?_
  refine x_iload_n (pc2 := 2) C dX10_base_1 1 rfl rfl rfl ?_
  refine x_iload_n (pc2 := 3) C dX10_base_2 2 rfl rfl rfl ?_
  rcases Decidable.em (eX10_demandBlock Ω i x1 x2 = none) with qc_1 | qc_1
  · refine x_ret (rest := []) (st2 := [_]) (pc2 := 6) (cu2 := 2) (su2 := 12) (x_cV C (by assumption) (Nat.le_of_ble_eq_true rfl) kmX10_demandBlock rfl kk_10_120 (XM_n qc_1 (tX10_demandBlock hok (by assumption))) rfl rfl (Nat.le_of_ble_eq_true rfl) ⟨Nat.le_of_ble_eq_true rfl, Nat.le_of_ble_eq_true rfl⟩ ⟨Nat.le_of_ble_eq_true rfl, Nat.le_of_ble_eq_true rfl⟩ dX10_base_3) rfl rfl rfl rfl ?_
    have qd_2 := D_demandBlock hok (Ω := Ω) (by assumption) qc_1
    refine x_getI (pc2 := 9) (f := 5) C (by assumption) kf_10_138 dX10_base_6 rfl rfl rfl ?_
    exact x_ireturn C dX10_base_9 rfl (Nat.le_of_ble_eq_true rfl) (Nat.le_of_ble_eq_true rfl) (by rw [fX10_base, if_pos qc_1] <;> rfl) (by rw [fX10_base, if_pos qc_1] <;> rfl)
  · exact x_thr C (rest := []) (x_cV C (by assumption) (Nat.le_of_ble_eq_true rfl) kmX10_demandBlock rfl kk_10_120 (XM_t qc_1 (tX10_demandBlock hok (by assumption))) rfl rfl (Nat.le_of_ble_eq_true rfl) ⟨Nat.le_of_ble_eq_true rfl, Nat.le_of_ble_eq_true rfl⟩ ⟨Nat.le_of_ble_eq_true rfl, Nat.le_of_ble_eq_true rfl⟩ dX10_base_3) (Nat.le_of_ble_eq_true rfl) (Nat.le_of_ble_eq_true rfl) (by rw [fX10_base, if_neg qc_1] <;> rfl) (by rw [fX10_base, if_neg qc_1] <;> rfl)
def fX10_used (Ω : XO) (i : Nat) (x1 : Int32) (x2 : Int32) : (Option Value ⊕ String) × XO := (if eX10_demandBlock Ω i x1 x2 = none then (.inl (some (.int (xI Ω 6 (rX10_demandBlock Ω i x1 x2) 0))), Ω) else (.inr ((eX10_demandBlock Ω i x1 x2).getD ""), Ω))
set_option maxRecDepth 20000 in
theorem tX10_used {G : XG} (hok : XK G) {i : Nat} {x1 : Int32} {x2 : Int32} {Ω : XO} (hd0 : dm G 10 i)  : XM G yX10_used cX10_used 3 ((some FieldType.int)) (RM 8 2) [.ref (ad G 10 i), .int x1, .int x2] Ω (fX10_used Ω i x1 x2).1 (fX10_used Ω i x1 x2).2 := by
  refine x_start (lv := [(0, .ref (ad G 10 i)), (1, .int x1), (2, .int x2)]) (own := RX10) hok (by decide +kernel) rfl (Nat.le_of_ble_eq_true rfl) rfl (fun B C => ?_)
  refine x_aload_n (pc2 := 1) C dX10_used_0 0 rfl rfl rfl ?_
  refine x_iload_n (pc2 := 2) C dX10_used_1 1 rfl rfl rfl ?_
  refine x_iload_n (pc2 := 3) C dX10_used_2 2 rfl rfl rfl ?_
  rcases Decidable.em (eX10_demandBlock Ω i x1 x2 = none) with qc_1 | qc_1
  · refine x_ret (rest := []) (st2 := [_]) (pc2 := 6) (cu2 := 2) (su2 := 12) (x_cV C (by assumption) (Nat.le_of_ble_eq_true rfl) kmX10_demandBlock rfl kk_10_120 (XM_n qc_1 (tX10_demandBlock hok (by assumption))) rfl rfl (Nat.le_of_ble_eq_true rfl) ⟨Nat.le_of_ble_eq_true rfl, Nat.le_of_ble_eq_true rfl⟩ ⟨Nat.le_of_ble_eq_true rfl, Nat.le_of_ble_eq_true rfl⟩ dX10_used_3) rfl rfl rfl rfl ?_
    have qd_2 := D_demandBlock hok (Ω := Ω) (by assumption) qc_1
    refine x_getI (pc2 := 9) (f := 6) C (by assumption) kf_10_141 dX10_used_6 rfl rfl rfl ?_
    exact x_ireturn C dX10_used_9 rfl (Nat.le_of_ble_eq_true rfl) (Nat.le_of_ble_eq_true rfl) (by rw [fX10_used, if_pos qc_1] <;> rfl) (by rw [fX10_used, if_pos qc_1] <;> rfl)
  · exact x_thr C (rest := []) (x_cV C (by assumption) (Nat.le_of_ble_eq_true rfl) kmX10_demandBlock rfl kk_10_120 (XM_t qc_1 (tX10_demandBlock hok (by assumption))) rfl rfl (Nat.le_of_ble_eq_true rfl) ⟨Nat.le_of_ble_eq_true rfl, Nat.le_of_ble_eq_true rfl⟩ ⟨Nat.le_of_ble_eq_true rfl, Nat.le_of_ble_eq_true rfl⟩ dX10_used_3) (Nat.le_of_ble_eq_true rfl) (Nat.le_of_ble_eq_true rfl) (by rw [fX10_used, if_neg qc_1] <;> rfl) (by rw [fX10_used, if_neg qc_1] <;> rfl)
def fX10_transactionAt (Ω : XO) (i : Nat) (x1 : Int32) (x2 : Int32) (x3 : Int32) : (Option Value ⊕ String) × XO := (if eX10_demandBlock Ω i x1 x2 = none then (if eX10_demandIndex Ω x3 (xI Ω 8 (rX10_demandBlock Ω i x1 x2) 0) = none then (.inl (some (.int (sAt Ω 2000 (rX10_demandBlock Ω i x1 x2) x3))), Ω) else (.inr ((eX10_demandIndex Ω x3 (xI Ω 8 (rX10_demandBlock Ω i x1 x2) 0)).getD ""), Ω)) else (.inr ((eX10_demandBlock Ω i x1 x2).getD ""), Ω))
set_option maxRecDepth 20000 in
theorem tX10_transactionAt {G : XG} (hok : XK G) {i : Nat} {x1 : Int32} {x2 : Int32} {x3 : Int32} {Ω : XO} (hd0 : dm G 10 i)  : XM G yX10_transactionAt cX10_transactionAt 5 ((some FieldType.int)) (RM 8 3) [.ref (ad G 10 i), .int x1, .int x2, .int x3] Ω (fX10_transactionAt Ω i x1 x2 x3).1 (fX10_transactionAt Ω i x1 x2 x3).2 := by
  refine x_start (lv := [(0, .ref (ad G 10 i)), (1, .int x1), (2, .int x2), (3, .int x3)]) (own := RX10) hok (by decide +kernel) rfl (Nat.le_of_ble_eq_true rfl) rfl (fun B C => ?_)
  refine x_aload_n (pc2 := 1) C dX10_transactionAt_0 0 rfl rfl rfl ?_
  refine x_iload_n (pc2 := 2) C dX10_transactionAt_1 1 rfl rfl rfl ?_
  refine x_iload_n (pc2 := 3) C dX10_transactionAt_2 2 rfl rfl rfl ?_
  rcases Decidable.em (eX10_demandBlock Ω i x1 x2 = none) with qc_1 | qc_1
  · refine x_ret (rest := []) (st2 := [_]) (pc2 := 6) (cu2 := 2) (su2 := 12) (x_cV C (by assumption) (Nat.le_of_ble_eq_true rfl) kmX10_demandBlock rfl kk_10_120 (XM_n qc_1 (tX10_demandBlock hok (by assumption))) rfl rfl (Nat.le_of_ble_eq_true rfl) ⟨Nat.le_of_ble_eq_true rfl, Nat.le_of_ble_eq_true rfl⟩ ⟨Nat.le_of_ble_eq_true rfl, Nat.le_of_ble_eq_true rfl⟩ dX10_transactionAt_3) rfl rfl rfl rfl ?_
    have qd_2 := D_demandBlock hok (Ω := Ω) (by assumption) qc_1
    refine x_astore (pc2 := 8) (lv2 := [(4, _), (0, _), (1, _), (2, _), (3, _)]) C dX10_transactionAt_6 (by decide) rfl rfl ?_
    refine x_iload_n (pc2 := 9) C dX10_transactionAt_8 4 rfl rfl rfl ?_
    refine x_aload (pc2 := 11) C dX10_transactionAt_9 0 rfl rfl ?_
    refine x_getI (pc2 := 14) (f := 8) C (by assumption) kf_10_144 dX10_transactionAt_11 rfl rfl rfl ?_
    rcases Decidable.em (eX10_demandIndex Ω x3 (xI Ω 8 (rX10_demandBlock Ω i x1 x2) 0) = none) with qc_3 | qc_3
    · refine x_ret (rest := []) (st2 := []) (pc2 := 17) (cu2 := 3) (su2 := 18) (x_cS C kmX10_demandIndex kk_10_32 (XM_n qc_3 (tX10_demandIndex hok )) rfl rfl (Nat.le_of_ble_eq_true rfl) ⟨Nat.le_of_ble_eq_true rfl, Nat.le_of_ble_eq_true rfl⟩ ⟨Nat.le_of_ble_eq_true rfl, Nat.le_of_ble_eq_true rfl⟩ dX10_transactionAt_14) rfl rfl rfl rfl ?_
      refine x_aload (pc2 := 19) C dX10_transactionAt_17 0 rfl rfl ?_
      refine x_getR (f := 7) (k2 := 2000) (pc2 := 22) C (by assumption) kf_10_147 dX10_transactionAt_19 rfl rfl rfl (rti_i rfl) rfl (fun qd_4 => ?_)
      refine x_iload_n (pc2 := 23) C dX10_transactionAt_22 4 rfl rfl rfl ?_
      refine x_ret (rest := []) (st2 := [_]) (pc2 := 26) (cu2 := 3) (su2 := 18) (x_cS C kmX10_at kk_10_44 (tX10_at hok (by assumption) rfl (by decide)) rfl rfl (Nat.le_of_ble_eq_true rfl) ⟨Nat.le_of_ble_eq_true rfl, Nat.le_of_ble_eq_true rfl⟩ ⟨Nat.le_of_ble_eq_true rfl, Nat.le_of_ble_eq_true rfl⟩ dX10_transactionAt_23) rfl rfl rfl rfl ?_
      exact x_ireturn C dX10_transactionAt_26 rfl (Nat.le_of_ble_eq_true rfl) (Nat.le_of_ble_eq_true rfl) (by rw [fX10_transactionAt, if_pos qc_1, if_pos qc_3] <;> rfl) (by rw [fX10_transactionAt, if_pos qc_1, if_pos qc_3] <;> rfl)
    · exact x_thr C (rest := []) (x_cS C kmX10_demandIndex kk_10_32 (XM_t qc_3 (tX10_demandIndex hok )) rfl rfl (Nat.le_of_ble_eq_true rfl) ⟨Nat.le_of_ble_eq_true rfl, Nat.le_of_ble_eq_true rfl⟩ ⟨Nat.le_of_ble_eq_true rfl, Nat.le_of_ble_eq_true rfl⟩ dX10_transactionAt_14) (Nat.le_of_ble_eq_true rfl) (Nat.le_of_ble_eq_true rfl) (by rw [fX10_transactionAt, if_pos qc_1, if_neg qc_3] <;> rfl) (by rw [fX10_transactionAt, if_pos qc_1, if_neg qc_3] <;> rfl)
  · exact x_thr C (rest := []) (x_cV C (by assumption) (Nat.le_of_ble_eq_true rfl) kmX10_demandBlock rfl kk_10_120 (XM_t qc_1 (tX10_demandBlock hok (by assumption))) rfl rfl (Nat.le_of_ble_eq_true rfl) ⟨Nat.le_of_ble_eq_true rfl, Nat.le_of_ble_eq_true rfl⟩ ⟨Nat.le_of_ble_eq_true rfl, Nat.le_of_ble_eq_true rfl⟩ dX10_transactionAt_3) (Nat.le_of_ble_eq_true rfl) (Nat.le_of_ble_eq_true rfl) (by rw [fX10_transactionAt, if_neg qc_1] <;> rfl) (by rw [fX10_transactionAt, if_neg qc_1] <;> rfl)
def fX10_eventAt (Ω : XO) (i : Nat) (x1 : Int32) (x2 : Int32) (x3 : Int32) : (Option Value ⊕ String) × XO := (if eX10_demandBlock Ω i x1 x2 = none then (if eX10_demandIndex Ω x3 (xI Ω 10 (rX10_demandBlock Ω i x1 x2) 0) = none then (.inl (some (.int (sAt Ω 2001 (rX10_demandBlock Ω i x1 x2) x3))), Ω) else (.inr ((eX10_demandIndex Ω x3 (xI Ω 10 (rX10_demandBlock Ω i x1 x2) 0)).getD ""), Ω)) else (.inr ((eX10_demandBlock Ω i x1 x2).getD ""), Ω))
set_option maxRecDepth 20000 in
theorem tX10_eventAt {G : XG} (hok : XK G) {i : Nat} {x1 : Int32} {x2 : Int32} {x3 : Int32} {Ω : XO} (hd0 : dm G 10 i)  : XM G yX10_eventAt cX10_eventAt 5 ((some FieldType.int)) (RM 8 3) [.ref (ad G 10 i), .int x1, .int x2, .int x3] Ω (fX10_eventAt Ω i x1 x2 x3).1 (fX10_eventAt Ω i x1 x2 x3).2 := by
  refine x_start (lv := [(0, .ref (ad G 10 i)), (1, .int x1), (2, .int x2), (3, .int x3)]) (own := RX10) hok (by decide +kernel) rfl (Nat.le_of_ble_eq_true rfl) rfl (fun B C => ?_)
  refine x_aload_n (pc2 := 1) C dX10_eventAt_0 0 rfl rfl rfl ?_
  refine x_iload_n (pc2 := 2) C dX10_eventAt_1 1 rfl rfl rfl ?_
  refine x_iload_n (pc2 := 3) C dX10_eventAt_2 2 rfl rfl rfl ?_
  rcases Decidable.em (eX10_demandBlock Ω i x1 x2 = none) with qc_1 | qc_1
  · refine x_ret (rest := []) (st2 := [_]) (pc2 := 6) (cu2 := 2) (su2 := 12) (x_cV C (by assumption) (Nat.le_of_ble_eq_true rfl) kmX10_demandBlock rfl kk_10_120 (XM_n qc_1 (tX10_demandBlock hok (by assumption))) rfl rfl (Nat.le_of_ble_eq_true rfl) ⟨Nat.le_of_ble_eq_true rfl, Nat.le_of_ble_eq_true rfl⟩ ⟨Nat.le_of_ble_eq_true rfl, Nat.le_of_ble_eq_true rfl⟩ dX10_eventAt_3) rfl rfl rfl rfl ?_
    have qd_2 := D_demandBlock hok (Ω := Ω) (by assumption) qc_1
    refine x_astore (pc2 := 8) (lv2 := [(4, _), (0, _), (1, _), (2, _), (3, _)]) C dX10_eventAt_6 (by decide) rfl rfl ?_
    refine x_iload_n (pc2 := 9) C dX10_eventAt_8 4 rfl rfl rfl ?_
    refine x_aload (pc2 := 11) C dX10_eventAt_9 0 rfl rfl ?_
    refine x_getI (pc2 := 14) (f := 10) C (by assumption) kf_10_150 dX10_eventAt_11 rfl rfl rfl ?_
    rcases Decidable.em (eX10_demandIndex Ω x3 (xI Ω 10 (rX10_demandBlock Ω i x1 x2) 0) = none) with qc_3 | qc_3
    · refine x_ret (rest := []) (st2 := []) (pc2 := 17) (cu2 := 3) (su2 := 18) (x_cS C kmX10_demandIndex kk_10_32 (XM_n qc_3 (tX10_demandIndex hok )) rfl rfl (Nat.le_of_ble_eq_true rfl) ⟨Nat.le_of_ble_eq_true rfl, Nat.le_of_ble_eq_true rfl⟩ ⟨Nat.le_of_ble_eq_true rfl, Nat.le_of_ble_eq_true rfl⟩ dX10_eventAt_14) rfl rfl rfl rfl ?_
      refine x_aload (pc2 := 19) C dX10_eventAt_17 0 rfl rfl ?_
      refine x_getR (f := 9) (k2 := 2001) (pc2 := 22) C (by assumption) kf_10_153 dX10_eventAt_19 rfl rfl rfl (rti_i rfl) rfl (fun qd_4 => ?_)
      refine x_iload_n (pc2 := 23) C dX10_eventAt_22 4 rfl rfl rfl ?_
      refine x_ret (rest := []) (st2 := [_]) (pc2 := 26) (cu2 := 3) (su2 := 18) (x_cS C kmX10_at kk_10_44 (tX10_at hok (by assumption) rfl (by decide)) rfl rfl (Nat.le_of_ble_eq_true rfl) ⟨Nat.le_of_ble_eq_true rfl, Nat.le_of_ble_eq_true rfl⟩ ⟨Nat.le_of_ble_eq_true rfl, Nat.le_of_ble_eq_true rfl⟩ dX10_eventAt_23) rfl rfl rfl rfl ?_
      exact x_ireturn C dX10_eventAt_26 rfl (Nat.le_of_ble_eq_true rfl) (Nat.le_of_ble_eq_true rfl) (by rw [fX10_eventAt, if_pos qc_1, if_pos qc_3] <;> rfl) (by rw [fX10_eventAt, if_pos qc_1, if_pos qc_3] <;> rfl)
    · exact x_thr C (rest := []) (x_cS C kmX10_demandIndex kk_10_32 (XM_t qc_3 (tX10_demandIndex hok )) rfl rfl (Nat.le_of_ble_eq_true rfl) ⟨Nat.le_of_ble_eq_true rfl, Nat.le_of_ble_eq_true rfl⟩ ⟨Nat.le_of_ble_eq_true rfl, Nat.le_of_ble_eq_true rfl⟩ dX10_eventAt_14) (Nat.le_of_ble_eq_true rfl) (Nat.le_of_ble_eq_true rfl) (by rw [fX10_eventAt, if_pos qc_1, if_neg qc_3] <;> rfl) (by rw [fX10_eventAt, if_pos qc_1, if_neg qc_3] <;> rfl)
  · exact x_thr C (rest := []) (x_cV C (by assumption) (Nat.le_of_ble_eq_true rfl) kmX10_demandBlock rfl kk_10_120 (XM_t qc_1 (tX10_demandBlock hok (by assumption))) rfl rfl (Nat.le_of_ble_eq_true rfl) ⟨Nat.le_of_ble_eq_true rfl, Nat.le_of_ble_eq_true rfl⟩ ⟨Nat.le_of_ble_eq_true rfl, Nat.le_of_ble_eq_true rfl⟩ dX10_eventAt_3) (Nat.le_of_ble_eq_true rfl) (Nat.le_of_ble_eq_true rfl) (by rw [fX10_eventAt, if_neg qc_1] <;> rfl) (by rw [fX10_eventAt, if_neg qc_1] <;> rfl)
def fX10_bloom (Ω : XO) (i : Nat) (x1 : Int32) (x2 : Int32) : (Option Value ⊕ String) × XO := (if eX10_demandBlock Ω i x1 x2 = none then (.inl (some (.int (xI Ω 11 (rX10_demandBlock Ω i x1 x2) 0))), Ω) else (.inr ((eX10_demandBlock Ω i x1 x2).getD ""), Ω))
set_option maxRecDepth 20000 in
theorem tX10_bloom {G : XG} (hok : XK G) {i : Nat} {x1 : Int32} {x2 : Int32} {Ω : XO} (hd0 : dm G 10 i)  : XM G yX10_bloom cX10_bloom 3 ((some FieldType.int)) (RM 8 2) [.ref (ad G 10 i), .int x1, .int x2] Ω (fX10_bloom Ω i x1 x2).1 (fX10_bloom Ω i x1 x2).2 := by
  refine x_start (lv := [(0, .ref (ad G 10 i)), (1, .int x1), (2, .int x2)]) (own := RX10) hok (by decide +kernel) rfl (Nat.le_of_ble_eq_true rfl) rfl (fun B C => ?_)
  refine x_aload_n (pc2 := 1) C dX10_bloom_0 0 rfl rfl rfl ?_
  refine x_iload_n (pc2 := 2) C dX10_bloom_1 1 rfl rfl rfl ?_
  refine x_iload_n (pc2 := 3) C dX10_bloom_2 2 rfl rfl rfl ?_
  rcases Decidable.em (eX10_demandBlock Ω i x1 x2 = none) with qc_1 | qc_1
  · refine x_ret (rest := []) (st2 := [_]) (pc2 := 6) (cu2 := 2) (su2 := 12) (x_cV C (by assumption) (Nat.le_of_ble_eq_true rfl) kmX10_demandBlock rfl kk_10_120 (XM_n qc_1 (tX10_demandBlock hok (by assumption))) rfl rfl (Nat.le_of_ble_eq_true rfl) ⟨Nat.le_of_ble_eq_true rfl, Nat.le_of_ble_eq_true rfl⟩ ⟨Nat.le_of_ble_eq_true rfl, Nat.le_of_ble_eq_true rfl⟩ dX10_bloom_3) rfl rfl rfl rfl ?_
    have qd_2 := D_demandBlock hok (Ω := Ω) (by assumption) qc_1
    refine x_getI (pc2 := 9) (f := 11) C (by assumption) kf_10_156 dX10_bloom_6 rfl rfl rfl ?_
    exact x_ireturn C dX10_bloom_9 rfl (Nat.le_of_ble_eq_true rfl) (Nat.le_of_ble_eq_true rfl) (by rw [fX10_bloom, if_pos qc_1] <;> rfl) (by rw [fX10_bloom, if_pos qc_1] <;> rfl)
  · exact x_thr C (rest := []) (x_cV C (by assumption) (Nat.le_of_ble_eq_true rfl) kmX10_demandBlock rfl kk_10_120 (XM_t qc_1 (tX10_demandBlock hok (by assumption))) rfl rfl (Nat.le_of_ble_eq_true rfl) ⟨Nat.le_of_ble_eq_true rfl, Nat.le_of_ble_eq_true rfl⟩ ⟨Nat.le_of_ble_eq_true rfl, Nat.le_of_ble_eq_true rfl⟩ dX10_bloom_3) (Nat.le_of_ble_eq_true rfl) (Nat.le_of_ble_eq_true rfl) (by rw [fX10_bloom, if_neg qc_1] <;> rfl) (by rw [fX10_bloom, if_neg qc_1] <;> rfl)
def fX10_find (Ω : XO) (i : Nat) (x1 : Int32) (x2 : Int32) : (Option Value ⊕ String) × XO := (if eX10_demandChain Ω i x1 = none then (if eX10_demandRange Ω x2 (0 : Int32) (15 : Int32) = none then (.inl (some (.int (fX1_search Ω (rX10_demandChain Ω i x1) x2))), Ω) else (.inr ((eX10_demandRange Ω x2 (0 : Int32) (15 : Int32)).getD ""), Ω)) else (.inr ((eX10_demandChain Ω i x1).getD ""), Ω))
set_option maxRecDepth 20000 in
theorem tX10_find {G : XG} (hok : XK G) {i : Nat} {x1 : Int32} {x2 : Int32} {Ω : XO} (hd0 : dm G 10 i)  : XM G yX10_find cX10_find 4 ((some FieldType.int)) (RM 8 2) [.ref (ad G 10 i), .int x1, .int x2] Ω (fX10_find Ω i x1 x2).1 (fX10_find Ω i x1 x2).2 := by
  refine x_start (lv := [(0, .ref (ad G 10 i)), (1, .int x1), (2, .int x2)]) (own := RX10) hok (by decide +kernel) rfl (Nat.le_of_ble_eq_true rfl) rfl (fun B C => ?_)
  refine x_aload_n (pc2 := 1) C dX10_find_0 0 rfl rfl rfl ?_
  refine x_iload_n (pc2 := 2) C dX10_find_1 1 rfl rfl rfl ?_
  rcases Decidable.em (eX10_demandChain Ω i x1 = none) with qc_1 | qc_1
  · refine x_ret (rest := []) (st2 := [_]) (pc2 := 5) (cu2 := 1) (su2 := 6) (x_cV C (by assumption) (Nat.le_of_ble_eq_true rfl) kmX10_demandChain rfl kk_10_64 (XM_n qc_1 (tX10_demandChain hok (by assumption))) rfl rfl (Nat.le_of_ble_eq_true rfl) ⟨Nat.le_of_ble_eq_true rfl, Nat.le_of_ble_eq_true rfl⟩ ⟨Nat.le_of_ble_eq_true rfl, Nat.le_of_ble_eq_true rfl⟩ dX10_find_2) rfl rfl rfl rfl ?_
    have qd_2 := D_demandChain hok (Ω := Ω) (by assumption) qc_1
    refine x_astore_n (pc2 := 6) (lv2 := [(3, _), (0, _), (1, _), (2, _)]) C dX10_find_5 rfl (by decide) rfl rfl ?_
    refine x_iload_n (pc2 := 7) C dX10_find_6 3 rfl rfl rfl ?_
    refine x_iconst (pc2 := 8) (v := 0) C dX10_find_7 rfl rfl ?_
    refine x_bipush (pc2 := 10) (v := 15) C dX10_find_8 rfl rfl ?_
    rcases Decidable.em (eX10_demandRange Ω x2 (0 : Int32) (15 : Int32) = none) with qc_3 | qc_3
    · refine x_ret (rest := []) (st2 := []) (pc2 := 13) (cu2 := 2) (su2 := 12) (x_cS C kmX10_demandRange kk_10_36 (XM_n qc_3 (tX10_demandRange hok )) rfl rfl (Nat.le_of_ble_eq_true rfl) ⟨Nat.le_of_ble_eq_true rfl, Nat.le_of_ble_eq_true rfl⟩ ⟨Nat.le_of_ble_eq_true rfl, Nat.le_of_ble_eq_true rfl⟩ dX10_find_10) rfl rfl rfl rfl ?_
      refine x_aload_n (pc2 := 14) C dX10_find_13 0 rfl rfl rfl ?_
      refine x_iload_n (pc2 := 15) C dX10_find_14 3 rfl rfl rfl ?_
      refine x_ret (rest := []) (st2 := [_]) (pc2 := 18) (cu2 := 2) (su2 := 12) (x_cV C (by assumption) (Nat.le_of_ble_eq_true rfl) kmX1_search rfl kk_10_159 (tX1_search hok (by assumption)) rfl rfl (Nat.le_of_ble_eq_true rfl) ⟨Nat.le_of_ble_eq_true rfl, Nat.le_of_ble_eq_true rfl⟩ ⟨Nat.le_of_ble_eq_true rfl, Nat.le_of_ble_eq_true rfl⟩ dX10_find_15) rfl rfl rfl rfl ?_
      exact x_ireturn C dX10_find_18 rfl (Nat.le_of_ble_eq_true rfl) (Nat.le_of_ble_eq_true rfl) (by rw [fX10_find, if_pos qc_1, if_pos qc_3] <;> rfl) (by rw [fX10_find, if_pos qc_1, if_pos qc_3] <;> rfl)
    · exact x_thr C (rest := []) (x_cS C kmX10_demandRange kk_10_36 (XM_t qc_3 (tX10_demandRange hok )) rfl rfl (Nat.le_of_ble_eq_true rfl) ⟨Nat.le_of_ble_eq_true rfl, Nat.le_of_ble_eq_true rfl⟩ ⟨Nat.le_of_ble_eq_true rfl, Nat.le_of_ble_eq_true rfl⟩ dX10_find_10) (Nat.le_of_ble_eq_true rfl) (Nat.le_of_ble_eq_true rfl) (by rw [fX10_find, if_pos qc_1, if_neg qc_3] <;> rfl) (by rw [fX10_find, if_pos qc_1, if_neg qc_3] <;> rfl)
  · exact x_thr C (rest := []) (x_cV C (by assumption) (Nat.le_of_ble_eq_true rfl) kmX10_demandChain rfl kk_10_64 (XM_t qc_1 (tX10_demandChain hok (by assumption))) rfl rfl (Nat.le_of_ble_eq_true rfl) ⟨Nat.le_of_ble_eq_true rfl, Nat.le_of_ble_eq_true rfl⟩ ⟨Nat.le_of_ble_eq_true rfl, Nat.le_of_ble_eq_true rfl⟩ dX10_find_2) (Nat.le_of_ble_eq_true rfl) (Nat.le_of_ble_eq_true rfl) (by rw [fX10_find, if_neg qc_1] <;> rfl) (by rw [fX10_find, if_neg qc_1] <;> rfl)
def fX10_coins (Ω : XO) (i : Nat) (x1 : Int32) (x2 : Int32) (x3 : Int32) : (Option Value ⊕ String) × XO := (if eX10_demandState_ Ω i x1 x2 x3 = none then (.inl (some (.int (sAt Ω 2011 (rX10_demandState_ Ω i x1 x2 x3) x3))), Ω) else (.inr ((eX10_demandState_ Ω i x1 x2 x3).getD ""), Ω))
set_option maxRecDepth 20000 in
theorem tX10_coins {G : XG} (hok : XK G) {i : Nat} {x1 : Int32} {x2 : Int32} {x3 : Int32} {Ω : XO} (hd0 : dm G 10 i)  : XM G yX10_coins cX10_coins 4 ((some FieldType.int)) (RM 9 4) [.ref (ad G 10 i), .int x1, .int x2, .int x3] Ω (fX10_coins Ω i x1 x2 x3).1 (fX10_coins Ω i x1 x2 x3).2 := by
  refine x_start (lv := [(0, .ref (ad G 10 i)), (1, .int x1), (2, .int x2), (3, .int x3)]) (own := RX10) hok (by decide +kernel) rfl (Nat.le_of_ble_eq_true rfl) rfl (fun B C => ?_)
  refine x_aload_n (pc2 := 1) C dX10_coins_0 0 rfl rfl rfl ?_
  refine x_iload_n (pc2 := 2) C dX10_coins_1 1 rfl rfl rfl ?_
  refine x_iload_n (pc2 := 3) C dX10_coins_2 2 rfl rfl rfl ?_
  refine x_iload_n (pc2 := 4) C dX10_coins_3 3 rfl rfl rfl ?_
  rcases Decidable.em (eX10_demandState_ Ω i x1 x2 x3 = none) with qc_1 | qc_1
  · refine x_ret (rest := []) (st2 := [_]) (pc2 := 7) (cu2 := 4) (su2 := 24) (x_cV C (by assumption) (Nat.le_of_ble_eq_true rfl) kmX10_demandState_ rfl kk_10_162 (XM_n qc_1 (tX10_demandState_ hok (by assumption))) rfl rfl (Nat.le_of_ble_eq_true rfl) ⟨Nat.le_of_ble_eq_true rfl, Nat.le_of_ble_eq_true rfl⟩ ⟨Nat.le_of_ble_eq_true rfl, Nat.le_of_ble_eq_true rfl⟩ dX10_coins_4) rfl rfl rfl rfl ?_
    have qd_2 := D_demandState_ hok (Ω := Ω) (by assumption) qc_1
    refine x_getR (f := 600) (k2 := 2011) (pc2 := 10) C (by assumption) kf_10_165 dX10_coins_7 rfl rfl rfl (rti_i rfl) rfl (fun qd_3 => ?_)
    refine x_iload_n (pc2 := 11) C dX10_coins_10 3 rfl rfl rfl ?_
    refine x_ret (rest := []) (st2 := [_]) (pc2 := 14) (cu2 := 4) (su2 := 24) (x_cS C kmX10_at kk_10_44 (tX10_at hok (by assumption) rfl (by decide)) rfl rfl (Nat.le_of_ble_eq_true rfl) ⟨Nat.le_of_ble_eq_true rfl, Nat.le_of_ble_eq_true rfl⟩ ⟨Nat.le_of_ble_eq_true rfl, Nat.le_of_ble_eq_true rfl⟩ dX10_coins_11) rfl rfl rfl rfl ?_
    exact x_ireturn C dX10_coins_14 rfl (Nat.le_of_ble_eq_true rfl) (Nat.le_of_ble_eq_true rfl) (by rw [fX10_coins, if_pos qc_1] <;> rfl) (by rw [fX10_coins, if_pos qc_1] <;> rfl)
  · exact x_thr C (rest := []) (x_cV C (by assumption) (Nat.le_of_ble_eq_true rfl) kmX10_demandState_ rfl kk_10_162 (XM_t qc_1 (tX10_demandState_ hok (by assumption))) rfl rfl (Nat.le_of_ble_eq_true rfl) ⟨Nat.le_of_ble_eq_true rfl, Nat.le_of_ble_eq_true rfl⟩ ⟨Nat.le_of_ble_eq_true rfl, Nat.le_of_ble_eq_true rfl⟩ dX10_coins_4) (Nat.le_of_ble_eq_true rfl) (Nat.le_of_ble_eq_true rfl) (by rw [fX10_coins, if_neg qc_1] <;> rfl) (by rw [fX10_coins, if_neg qc_1] <;> rfl)
def fX10_codeOf (Ω : XO) (i : Nat) (x1 : Int32) (x2 : Int32) (x3 : Int32) : (Option Value ⊕ String) × XO := (if eX10_demandState_ Ω i x1 x2 x3 = none then (.inl (some (.int (((10 : Int32) * (sAt Ω 2012 (rX10_demandState_ Ω i x1 x2 x3) x3)) + (sAt Ω 2013 (rX10_demandState_ Ω i x1 x2 x3) x3)))), Ω) else (.inr ((eX10_demandState_ Ω i x1 x2 x3).getD ""), Ω))
set_option maxRecDepth 20000 in
theorem tX10_codeOf {G : XG} (hok : XK G) {i : Nat} {x1 : Int32} {x2 : Int32} {x3 : Int32} {Ω : XO} (hd0 : dm G 10 i)  : XM G yX10_codeOf cX10_codeOf 5 ((some FieldType.int)) (RM 9 4) [.ref (ad G 10 i), .int x1, .int x2, .int x3] Ω (fX10_codeOf Ω i x1 x2 x3).1 (fX10_codeOf Ω i x1 x2 x3).2 := by
  refine x_start (lv := [(0, .ref (ad G 10 i)), (1, .int x1), (2, .int x2), (3, .int x3)]) (own := RX10) hok (by decide +kernel) rfl (Nat.le_of_ble_eq_true rfl) rfl (fun B C => ?_)
  refine x_aload_n (pc2 := 1) C dX10_codeOf_0 0 rfl rfl rfl ?_
  refine x_iload_n (pc2 := 2) C dX10_codeOf_1 1 rfl rfl rfl ?_
  refine x_iload_n (pc2 := 3) C dX10_codeOf_2 2 rfl rfl rfl ?_
  refine x_iload_n (pc2 := 4) C dX10_codeOf_3 3 rfl rfl rfl ?_
  rcases Decidable.em (eX10_demandState_ Ω i x1 x2 x3 = none) with qc_1 | qc_1
  · refine x_ret (rest := []) (st2 := [_]) (pc2 := 7) (cu2 := 4) (su2 := 24) (x_cV C (by assumption) (Nat.le_of_ble_eq_true rfl) kmX10_demandState_ rfl kk_10_162 (XM_n qc_1 (tX10_demandState_ hok (by assumption))) rfl rfl (Nat.le_of_ble_eq_true rfl) ⟨Nat.le_of_ble_eq_true rfl, Nat.le_of_ble_eq_true rfl⟩ ⟨Nat.le_of_ble_eq_true rfl, Nat.le_of_ble_eq_true rfl⟩ dX10_codeOf_4) rfl rfl rfl rfl ?_
    have qd_2 := D_demandState_ hok (Ω := Ω) (by assumption) qc_1
    refine x_astore (pc2 := 9) (lv2 := [(4, _), (0, _), (1, _), (2, _), (3, _)]) C dX10_codeOf_7 (by decide) rfl rfl ?_
    refine x_bipush (pc2 := 11) (v := 10) C dX10_codeOf_9 rfl rfl ?_
    refine x_aload (pc2 := 13) C dX10_codeOf_11 0 rfl rfl ?_
    refine x_getR (f := 601) (k2 := 2012) (pc2 := 16) C (by assumption) kf_10_170 dX10_codeOf_13 rfl rfl rfl (rti_i rfl) rfl (fun qd_3 => ?_)
    refine x_iload_n (pc2 := 17) C dX10_codeOf_16 4 rfl rfl rfl ?_
    refine x_ret (rest := [_]) (st2 := [_, _]) (pc2 := 20) (cu2 := 4) (su2 := 24) (x_cS C kmX10_at kk_10_44 (tX10_at hok (by assumption) rfl (by decide)) rfl rfl (Nat.le_of_ble_eq_true rfl) ⟨Nat.le_of_ble_eq_true rfl, Nat.le_of_ble_eq_true rfl⟩ ⟨Nat.le_of_ble_eq_true rfl, Nat.le_of_ble_eq_true rfl⟩ dX10_codeOf_17) rfl rfl rfl rfl ?_
    refine x_imul (pc2 := 21) C dX10_codeOf_20 rfl ?_
    refine x_aload (pc2 := 23) C dX10_codeOf_21 0 rfl rfl ?_
    refine x_getR (f := 602) (k2 := 2013) (pc2 := 26) C (by assumption) kf_10_173 dX10_codeOf_23 rfl rfl rfl (rti_i rfl) rfl (fun qd_4 => ?_)
    refine x_iload_n (pc2 := 27) C dX10_codeOf_26 4 rfl rfl rfl ?_
    refine x_ret (rest := [_]) (st2 := [_, _]) (pc2 := 30) (cu2 := 4) (su2 := 24) (x_cS C kmX10_at kk_10_44 (tX10_at hok (by assumption) rfl (by decide)) rfl rfl (Nat.le_of_ble_eq_true rfl) ⟨Nat.le_of_ble_eq_true rfl, Nat.le_of_ble_eq_true rfl⟩ ⟨Nat.le_of_ble_eq_true rfl, Nat.le_of_ble_eq_true rfl⟩ dX10_codeOf_27) rfl rfl rfl rfl ?_
    refine x_iadd (pc2 := 31) C dX10_codeOf_30 rfl ?_
    exact x_ireturn C dX10_codeOf_31 rfl (Nat.le_of_ble_eq_true rfl) (Nat.le_of_ble_eq_true rfl) (by rw [fX10_codeOf, if_pos qc_1] <;> rfl) (by rw [fX10_codeOf, if_pos qc_1] <;> rfl)
  · exact x_thr C (rest := []) (x_cV C (by assumption) (Nat.le_of_ble_eq_true rfl) kmX10_demandState_ rfl kk_10_162 (XM_t qc_1 (tX10_demandState_ hok (by assumption))) rfl rfl (Nat.le_of_ble_eq_true rfl) ⟨Nat.le_of_ble_eq_true rfl, Nat.le_of_ble_eq_true rfl⟩ ⟨Nat.le_of_ble_eq_true rfl, Nat.le_of_ble_eq_true rfl⟩ dX10_codeOf_4) (Nat.le_of_ble_eq_true rfl) (Nat.le_of_ble_eq_true rfl) (by rw [fX10_codeOf, if_neg qc_1] <;> rfl) (by rw [fX10_codeOf, if_neg qc_1] <;> rfl)
def fX10_slot (Ω : XO) (i : Nat) (x1 : Int32) (x2 : Int32) (x3 : Int32) (x4 : Int32) : (Option Value ⊕ String) × XO := (if eX10_demandIndex Ω x4 (4 : Int32) = none then (if eX10_demandState_ Ω i x1 x2 x3 = none then (.inl (some (.int (sAt Ω 2014 (rX10_demandState_ Ω i x1 x2 x3) ((x3 * (4 : Int32)) + x4)))), Ω) else (.inr ((eX10_demandState_ Ω i x1 x2 x3).getD ""), Ω)) else (.inr ((eX10_demandIndex Ω x4 (4 : Int32)).getD ""), Ω))
set_option maxRecDepth 20000 in
theorem tX10_slot {G : XG} (hok : XK G) {i : Nat} {x1 : Int32} {x2 : Int32} {x3 : Int32} {x4 : Int32} {Ω : XO} (hd0 : dm G 10 i)  : XM G yX10_slot cX10_slot 5 ((some FieldType.int)) (RM 9 5) [.ref (ad G 10 i), .int x1, .int x2, .int x3, .int x4] Ω (fX10_slot Ω i x1 x2 x3 x4).1 (fX10_slot Ω i x1 x2 x3 x4).2 := by
  refine x_start (lv := [(0, .ref (ad G 10 i)), (1, .int x1), (2, .int x2), (3, .int x3), (4, .int x4)]) (own := RX10) hok (by decide +kernel) rfl (Nat.le_of_ble_eq_true rfl) rfl (fun B C => ?_)
  refine x_iload (pc2 := 2) C dX10_slot_0 4 rfl rfl ?_
  refine x_iconst (pc2 := 3) (v := 4) C dX10_slot_2 rfl rfl ?_
  rcases Decidable.em (eX10_demandIndex Ω x4 (4 : Int32) = none) with qc_1 | qc_1
  · refine x_ret (rest := []) (st2 := []) (pc2 := 6) (cu2 := 1) (su2 := 6) (x_cS C kmX10_demandIndex kk_10_32 (XM_n qc_1 (tX10_demandIndex hok )) rfl rfl (Nat.le_of_ble_eq_true rfl) ⟨Nat.le_of_ble_eq_true rfl, Nat.le_of_ble_eq_true rfl⟩ ⟨Nat.le_of_ble_eq_true rfl, Nat.le_of_ble_eq_true rfl⟩ dX10_slot_3) rfl rfl rfl rfl ?_
    refine x_aload_n (pc2 := 7) C dX10_slot_6 0 rfl rfl rfl ?_
    refine x_iload_n (pc2 := 8) C dX10_slot_7 1 rfl rfl rfl ?_
    refine x_iload_n (pc2 := 9) C dX10_slot_8 2 rfl rfl rfl ?_
    refine x_iload_n (pc2 := 10) C dX10_slot_9 3 rfl rfl rfl ?_
    rcases Decidable.em (eX10_demandState_ Ω i x1 x2 x3 = none) with qc_2 | qc_2
    · refine x_ret (rest := []) (st2 := [_]) (pc2 := 13) (cu2 := 5) (su2 := 30) (x_cV C (by assumption) (Nat.le_of_ble_eq_true rfl) kmX10_demandState_ rfl kk_10_162 (XM_n qc_2 (tX10_demandState_ hok (by assumption))) rfl rfl (Nat.le_of_ble_eq_true rfl) ⟨Nat.le_of_ble_eq_true rfl, Nat.le_of_ble_eq_true rfl⟩ ⟨Nat.le_of_ble_eq_true rfl, Nat.le_of_ble_eq_true rfl⟩ dX10_slot_10) rfl rfl rfl rfl ?_
      have qd_3 := D_demandState_ hok (Ω := Ω) (by assumption) qc_2
      refine x_getR (f := 603) (k2 := 2014) (pc2 := 16) C (by assumption) kf_10_176 dX10_slot_13 rfl rfl rfl (rti_i rfl) rfl (fun qd_4 => ?_)
      refine x_iload_n (pc2 := 17) C dX10_slot_16 3 rfl rfl rfl ?_
      refine x_iconst (pc2 := 18) (v := 4) C dX10_slot_17 rfl rfl ?_
      refine x_imul (pc2 := 19) C dX10_slot_18 rfl ?_
      refine x_iload (pc2 := 21) C dX10_slot_19 4 rfl rfl ?_
      refine x_iadd (pc2 := 22) C dX10_slot_21 rfl ?_
      refine x_ret (rest := []) (st2 := [_]) (pc2 := 25) (cu2 := 5) (su2 := 30) (x_cS C kmX10_at kk_10_44 (tX10_at hok (by assumption) rfl (by decide)) rfl rfl (Nat.le_of_ble_eq_true rfl) ⟨Nat.le_of_ble_eq_true rfl, Nat.le_of_ble_eq_true rfl⟩ ⟨Nat.le_of_ble_eq_true rfl, Nat.le_of_ble_eq_true rfl⟩ dX10_slot_22) rfl rfl rfl rfl ?_
      exact x_ireturn C dX10_slot_25 rfl (Nat.le_of_ble_eq_true rfl) (Nat.le_of_ble_eq_true rfl) (by rw [fX10_slot, if_pos qc_1, if_pos qc_2] <;> rfl) (by rw [fX10_slot, if_pos qc_1, if_pos qc_2] <;> rfl)
    · exact x_thr C (rest := []) (x_cV C (by assumption) (Nat.le_of_ble_eq_true rfl) kmX10_demandState_ rfl kk_10_162 (XM_t qc_2 (tX10_demandState_ hok (by assumption))) rfl rfl (Nat.le_of_ble_eq_true rfl) ⟨Nat.le_of_ble_eq_true rfl, Nat.le_of_ble_eq_true rfl⟩ ⟨Nat.le_of_ble_eq_true rfl, Nat.le_of_ble_eq_true rfl⟩ dX10_slot_10) (Nat.le_of_ble_eq_true rfl) (Nat.le_of_ble_eq_true rfl) (by rw [fX10_slot, if_pos qc_1, if_neg qc_2] <;> rfl) (by rw [fX10_slot, if_pos qc_1, if_neg qc_2] <;> rfl)
  · exact x_thr C (rest := []) (x_cS C kmX10_demandIndex kk_10_32 (XM_t qc_1 (tX10_demandIndex hok )) rfl rfl (Nat.le_of_ble_eq_true rfl) ⟨Nat.le_of_ble_eq_true rfl, Nat.le_of_ble_eq_true rfl⟩ ⟨Nat.le_of_ble_eq_true rfl, Nat.le_of_ble_eq_true rfl⟩ dX10_slot_3) (Nat.le_of_ble_eq_true rfl) (Nat.le_of_ble_eq_true rfl) (by rw [fX10_slot, if_neg qc_1] <;> rfl) (by rw [fX10_slot, if_neg qc_1] <;> rfl)
def fX10_burned (Ω : XO) (i : Nat) (x1 : Int32) (x2 : Int32) : (Option Value ⊕ String) × XO := (if eX10_demandState_ Ω i x1 x2 (0 : Int32) = none then (.inl (some (.int (xI Ω 604 (rX10_demandState_ Ω i x1 x2 (0 : Int32)) 0))), Ω) else (.inr ((eX10_demandState_ Ω i x1 x2 (0 : Int32)).getD ""), Ω))
set_option maxRecDepth 20000 in
theorem tX10_burned {G : XG} (hok : XK G) {i : Nat} {x1 : Int32} {x2 : Int32} {Ω : XO} (hd0 : dm G 10 i)  : XM G yX10_burned cX10_burned 3 ((some FieldType.int)) (RM 9 4) [.ref (ad G 10 i), .int x1, .int x2] Ω (fX10_burned Ω i x1 x2).1 (fX10_burned Ω i x1 x2).2 := by
  refine x_start (lv := [(0, .ref (ad G 10 i)), (1, .int x1), (2, .int x2)]) (own := RX10) hok (by decide +kernel) rfl (Nat.le_of_ble_eq_true rfl) rfl (fun B C => ?_)
  refine x_aload_n (pc2 := 1) C dX10_burned_0 0 rfl rfl rfl ?_
  refine x_iload_n (pc2 := 2) C dX10_burned_1 1 rfl rfl rfl ?_
  refine x_iload_n (pc2 := 3) C dX10_burned_2 2 rfl rfl rfl ?_
  refine x_iconst (pc2 := 4) (v := 0) C dX10_burned_3 rfl rfl ?_
  rcases Decidable.em (eX10_demandState_ Ω i x1 x2 (0 : Int32) = none) with qc_1 | qc_1
  · refine x_ret (rest := []) (st2 := [_]) (pc2 := 7) (cu2 := 4) (su2 := 24) (x_cV C (by assumption) (Nat.le_of_ble_eq_true rfl) kmX10_demandState_ rfl kk_10_162 (XM_n qc_1 (tX10_demandState_ hok (by assumption))) rfl rfl (Nat.le_of_ble_eq_true rfl) ⟨Nat.le_of_ble_eq_true rfl, Nat.le_of_ble_eq_true rfl⟩ ⟨Nat.le_of_ble_eq_true rfl, Nat.le_of_ble_eq_true rfl⟩ dX10_burned_4) rfl rfl rfl rfl ?_
    have qd_2 := D_demandState_ hok (Ω := Ω) (by assumption) qc_1
    refine x_getI (pc2 := 10) (f := 604) C (by assumption) kf_10_179 dX10_burned_7 rfl rfl rfl ?_
    exact x_ireturn C dX10_burned_10 rfl (Nat.le_of_ble_eq_true rfl) (Nat.le_of_ble_eq_true rfl) (by rw [fX10_burned, if_pos qc_1] <;> rfl) (by rw [fX10_burned, if_pos qc_1] <;> rfl)
  · exact x_thr C (rest := []) (x_cV C (by assumption) (Nat.le_of_ble_eq_true rfl) kmX10_demandState_ rfl kk_10_162 (XM_t qc_1 (tX10_demandState_ hok (by assumption))) rfl rfl (Nat.le_of_ble_eq_true rfl) ⟨Nat.le_of_ble_eq_true rfl, Nat.le_of_ble_eq_true rfl⟩ ⟨Nat.le_of_ble_eq_true rfl, Nat.le_of_ble_eq_true rfl⟩ dX10_burned_4) (Nat.le_of_ble_eq_true rfl) (Nat.le_of_ble_eq_true rfl) (by rw [fX10_burned, if_neg qc_1] <;> rfl) (by rw [fX10_burned, if_neg qc_1] <;> rfl)
def fX10_root (Ω : XO) (i : Nat) (x1 : Int32) (x2 : Int32) : (Option Value ⊕ String) × XO := (if eX10_demandBlock Ω i x1 x2 = none then (.inl (some (.int (xI Ω 12 (rX10_demandBlock Ω i x1 x2) 0))), Ω) else (.inr ((eX10_demandBlock Ω i x1 x2).getD ""), Ω))
set_option maxRecDepth 20000 in
theorem tX10_root {G : XG} (hok : XK G) {i : Nat} {x1 : Int32} {x2 : Int32} {Ω : XO} (hd0 : dm G 10 i)  : XM G yX10_root cX10_root 3 ((some FieldType.int)) (RM 8 2) [.ref (ad G 10 i), .int x1, .int x2] Ω (fX10_root Ω i x1 x2).1 (fX10_root Ω i x1 x2).2 := by
  refine x_start (lv := [(0, .ref (ad G 10 i)), (1, .int x1), (2, .int x2)]) (own := RX10) hok (by decide +kernel) rfl (Nat.le_of_ble_eq_true rfl) rfl (fun B C => ?_)
  refine x_aload_n (pc2 := 1) C dX10_root_0 0 rfl rfl rfl ?_
  refine x_iload_n (pc2 := 2) C dX10_root_1 1 rfl rfl rfl ?_
  refine x_iload_n (pc2 := 3) C dX10_root_2 2 rfl rfl rfl ?_
  rcases Decidable.em (eX10_demandBlock Ω i x1 x2 = none) with qc_1 | qc_1
  · refine x_ret (rest := []) (st2 := [_]) (pc2 := 6) (cu2 := 2) (su2 := 12) (x_cV C (by assumption) (Nat.le_of_ble_eq_true rfl) kmX10_demandBlock rfl kk_10_120 (XM_n qc_1 (tX10_demandBlock hok (by assumption))) rfl rfl (Nat.le_of_ble_eq_true rfl) ⟨Nat.le_of_ble_eq_true rfl, Nat.le_of_ble_eq_true rfl⟩ ⟨Nat.le_of_ble_eq_true rfl, Nat.le_of_ble_eq_true rfl⟩ dX10_root_3) rfl rfl rfl rfl ?_
    have qd_2 := D_demandBlock hok (Ω := Ω) (by assumption) qc_1
    refine x_getI (pc2 := 9) (f := 12) C (by assumption) kf_10_182 dX10_root_6 rfl rfl rfl ?_
    exact x_ireturn C dX10_root_9 rfl (Nat.le_of_ble_eq_true rfl) (Nat.le_of_ble_eq_true rfl) (by rw [fX10_root, if_pos qc_1] <;> rfl) (by rw [fX10_root, if_pos qc_1] <;> rfl)
  · exact x_thr C (rest := []) (x_cV C (by assumption) (Nat.le_of_ble_eq_true rfl) kmX10_demandBlock rfl kk_10_120 (XM_t qc_1 (tX10_demandBlock hok (by assumption))) rfl rfl (Nat.le_of_ble_eq_true rfl) ⟨Nat.le_of_ble_eq_true rfl, Nat.le_of_ble_eq_true rfl⟩ ⟨Nat.le_of_ble_eq_true rfl, Nat.le_of_ble_eq_true rfl⟩ dX10_root_3) (Nat.le_of_ble_eq_true rfl) (Nat.le_of_ble_eq_true rfl) (by rw [fX10_root, if_neg qc_1] <;> rfl) (by rw [fX10_root, if_neg qc_1] <;> rfl)
def fX10_proves (Ω : XO) (i : Nat) (x1 : Int32) (x2 : Int32) (x3 : Int32) (x4 : Int32) (x5 : Int32) (x6 : Int32) (x7 : Int32) (x8 : Int32) : (Option Value ⊕ String) × XO := (if eX10_demandBlock Ω i x1 x2 = none then (if eX10_demandIndex Ω x3 (16 : Int32) = none then (if eX10_demandRange Ω x4 (0 : Int32) (1000002 : Int32) = none then (if eX10_demandRange Ω x5 (0 : Int32) (1000002 : Int32) = none then (if eX10_demandRange Ω x6 (0 : Int32) (1000002 : Int32) = none then (if eX10_demandRange Ω x7 (0 : Int32) (1000002 : Int32) = none then (if eX10_demandRange Ω x8 (0 : Int32) (1000002 : Int32) = none then (if (sJoin (x3 >>> ((3 : Int32) &&& 31)) (sJoin (x3 >>> ((2 : Int32) &&& 31)) (sJoin (x3 >>> ((1 : Int32) &&& 31)) (sJoin x3 x4 x5) x6) x7) x8) = (xI Ω 12 (rX10_demandBlock Ω i x1 x2) 0) then (.inl (some (.int ((1 : Int32)))), Ω) else (.inl (some (.int ((0 : Int32)))), Ω)) else (.inr ((eX10_demandRange Ω x8 (0 : Int32) (1000002 : Int32)).getD ""), Ω)) else (.inr ((eX10_demandRange Ω x7 (0 : Int32) (1000002 : Int32)).getD ""), Ω)) else (.inr ((eX10_demandRange Ω x6 (0 : Int32) (1000002 : Int32)).getD ""), Ω)) else (.inr ((eX10_demandRange Ω x5 (0 : Int32) (1000002 : Int32)).getD ""), Ω)) else (.inr ((eX10_demandRange Ω x4 (0 : Int32) (1000002 : Int32)).getD ""), Ω)) else (.inr ((eX10_demandIndex Ω x3 (16 : Int32)).getD ""), Ω)) else (.inr ((eX10_demandBlock Ω i x1 x2).getD ""), Ω))
set_option maxRecDepth 20000 in
theorem tX10_proves {G : XG} (hok : XK G) {i : Nat} {x1 : Int32} {x2 : Int32} {x3 : Int32} {x4 : Int32} {x5 : Int32} {x6 : Int32} {x7 : Int32} {x8 : Int32} {Ω : XO} (hd0 : dm G 10 i)  : XM G yX10_proves cX10_proves 11 ((some FieldType.boolean)) (RM 8 8) [.ref (ad G 10 i), .int x1, .int x2, .int x3, .int x4, .int x5, .int x6, .int x7, .int x8] Ω (fX10_proves Ω i x1 x2 x3 x4 x5 x6 x7 x8).1 (fX10_proves Ω i x1 x2 x3 x4 x5 x6 x7 x8).2 := by
  refine x_start (lv := [(0, .ref (ad G 10 i)), (1, .int x1), (2, .int x2), (3, .int x3), (4, .int x4), (5, .int x5), (6, .int x6), (7, .int x7), (8, .int x8)]) (own := RX10) hok (by decide +kernel) rfl (Nat.le_of_ble_eq_true rfl) rfl (fun B C => ?_)
  refine x_aload_n (pc2 := 1) C dX10_proves_0 0 rfl rfl rfl ?_
  refine x_iload_n (pc2 := 2) C dX10_proves_1 1 rfl rfl rfl ?_
  refine x_iload_n (pc2 := 3) C dX10_proves_2 2 rfl rfl rfl ?_
  rcases Decidable.em (eX10_demandBlock Ω i x1 x2 = none) with qc_1 | qc_1
  · refine x_ret (rest := []) (st2 := [_]) (pc2 := 6) (cu2 := 2) (su2 := 12) (x_cV C (by assumption) (Nat.le_of_ble_eq_true rfl) kmX10_demandBlock rfl kk_10_120 (XM_n qc_1 (tX10_demandBlock hok (by assumption))) rfl rfl (Nat.le_of_ble_eq_true rfl) ⟨Nat.le_of_ble_eq_true rfl, Nat.le_of_ble_eq_true rfl⟩ ⟨Nat.le_of_ble_eq_true rfl, Nat.le_of_ble_eq_true rfl⟩ dX10_proves_3) rfl rfl rfl rfl ?_
    have qd_2 := D_demandBlock hok (Ω := Ω) (by assumption) qc_1
    refine x_astore (pc2 := 8) (lv2 := [(9, _), (0, _), (1, _), (2, _), (3, _), (4, _), (5, _), (6, _), (7, _), (8, _)]) C dX10_proves_6 (by decide) rfl rfl ?_
    refine x_iload_n (pc2 := 9) C dX10_proves_8 4 rfl rfl rfl ?_
    refine x_bipush (pc2 := 11) (v := 16) C dX10_proves_9 rfl rfl ?_
    rcases Decidable.em (eX10_demandIndex Ω x3 (16 : Int32) = none) with qc_3 | qc_3
    · refine x_ret (rest := []) (st2 := []) (pc2 := 14) (cu2 := 3) (su2 := 18) (x_cS C kmX10_demandIndex kk_10_32 (XM_n qc_3 (tX10_demandIndex hok )) rfl rfl (Nat.le_of_ble_eq_true rfl) ⟨Nat.le_of_ble_eq_true rfl, Nat.le_of_ble_eq_true rfl⟩ ⟨Nat.le_of_ble_eq_true rfl, Nat.le_of_ble_eq_true rfl⟩ dX10_proves_11) rfl rfl rfl rfl ?_
      refine x_iload (pc2 := 16) C dX10_proves_14 5 rfl rfl ?_
      refine x_iconst (pc2 := 17) (v := 0) C dX10_proves_16 rfl rfl ?_
      refine x_ldc (pc2 := 19) C kc_10_193 dX10_proves_17 rfl ?_
      rcases Decidable.em (eX10_demandRange Ω x4 (0 : Int32) (1000002 : Int32) = none) with qc_4 | qc_4
      · refine x_ret (rest := []) (st2 := []) (pc2 := 22) (cu2 := 4) (su2 := 24) (x_cS C kmX10_demandRange kk_10_36 (XM_n qc_4 (tX10_demandRange hok )) rfl rfl (Nat.le_of_ble_eq_true rfl) ⟨Nat.le_of_ble_eq_true rfl, Nat.le_of_ble_eq_true rfl⟩ ⟨Nat.le_of_ble_eq_true rfl, Nat.le_of_ble_eq_true rfl⟩ dX10_proves_19) rfl rfl rfl rfl ?_
        refine x_iload (pc2 := 24) C dX10_proves_22 6 rfl rfl ?_
        refine x_iconst (pc2 := 25) (v := 0) C dX10_proves_24 rfl rfl ?_
        refine x_ldc (pc2 := 27) C kc_10_193 dX10_proves_25 rfl ?_
        rcases Decidable.em (eX10_demandRange Ω x5 (0 : Int32) (1000002 : Int32) = none) with qc_5 | qc_5
        · refine x_ret (rest := []) (st2 := []) (pc2 := 30) (cu2 := 5) (su2 := 30) (x_cS C kmX10_demandRange kk_10_36 (XM_n qc_5 (tX10_demandRange hok )) rfl rfl (Nat.le_of_ble_eq_true rfl) ⟨Nat.le_of_ble_eq_true rfl, Nat.le_of_ble_eq_true rfl⟩ ⟨Nat.le_of_ble_eq_true rfl, Nat.le_of_ble_eq_true rfl⟩ dX10_proves_27) rfl rfl rfl rfl ?_
          refine x_iload (pc2 := 32) C dX10_proves_30 7 rfl rfl ?_
          refine x_iconst (pc2 := 33) (v := 0) C dX10_proves_32 rfl rfl ?_
          refine x_ldc (pc2 := 35) C kc_10_193 dX10_proves_33 rfl ?_
          rcases Decidable.em (eX10_demandRange Ω x6 (0 : Int32) (1000002 : Int32) = none) with qc_6 | qc_6
          · refine x_ret (rest := []) (st2 := []) (pc2 := 38) (cu2 := 6) (su2 := 36) (x_cS C kmX10_demandRange kk_10_36 (XM_n qc_6 (tX10_demandRange hok )) rfl rfl (Nat.le_of_ble_eq_true rfl) ⟨Nat.le_of_ble_eq_true rfl, Nat.le_of_ble_eq_true rfl⟩ ⟨Nat.le_of_ble_eq_true rfl, Nat.le_of_ble_eq_true rfl⟩ dX10_proves_35) rfl rfl rfl rfl ?_
            refine x_iload (pc2 := 40) C dX10_proves_38 8 rfl rfl ?_
            refine x_iconst (pc2 := 41) (v := 0) C dX10_proves_40 rfl rfl ?_
            refine x_ldc (pc2 := 43) C kc_10_193 dX10_proves_41 rfl ?_
            rcases Decidable.em (eX10_demandRange Ω x7 (0 : Int32) (1000002 : Int32) = none) with qc_7 | qc_7
            · refine x_ret (rest := []) (st2 := []) (pc2 := 46) (cu2 := 7) (su2 := 42) (x_cS C kmX10_demandRange kk_10_36 (XM_n qc_7 (tX10_demandRange hok )) rfl rfl (Nat.le_of_ble_eq_true rfl) ⟨Nat.le_of_ble_eq_true rfl, Nat.le_of_ble_eq_true rfl⟩ ⟨Nat.le_of_ble_eq_true rfl, Nat.le_of_ble_eq_true rfl⟩ dX10_proves_43) rfl rfl rfl rfl ?_
              refine x_iload (pc2 := 48) C dX10_proves_46 9 rfl rfl ?_
              refine x_iconst (pc2 := 49) (v := 0) C dX10_proves_48 rfl rfl ?_
              refine x_ldc (pc2 := 51) C kc_10_193 dX10_proves_49 rfl ?_
              rcases Decidable.em (eX10_demandRange Ω x8 (0 : Int32) (1000002 : Int32) = none) with qc_8 | qc_8
              · refine x_ret (rest := []) (st2 := []) (pc2 := 54) (cu2 := 8) (su2 := 48) (x_cS C kmX10_demandRange kk_10_36 (XM_n qc_8 (tX10_demandRange hok )) rfl rfl (Nat.le_of_ble_eq_true rfl) ⟨Nat.le_of_ble_eq_true rfl, Nat.le_of_ble_eq_true rfl⟩ ⟨Nat.le_of_ble_eq_true rfl, Nat.le_of_ble_eq_true rfl⟩ dX10_proves_51) rfl rfl rfl rfl ?_
                refine x_iload_n (pc2 := 55) C dX10_proves_54 4 rfl rfl rfl ?_
                refine x_iload (pc2 := 57) C dX10_proves_55 5 rfl rfl ?_
                refine x_iload (pc2 := 59) C dX10_proves_57 6 rfl rfl ?_
                refine x_ret (rest := []) (st2 := [_]) (pc2 := 62) (cu2 := 8) (su2 := 48) (x_cS C kmX10_join kk_10_194 (tX10_join hok) rfl rfl (Nat.le_of_ble_eq_true rfl) ⟨Nat.le_of_ble_eq_true rfl, Nat.le_of_ble_eq_true rfl⟩ ⟨Nat.le_of_ble_eq_true rfl, Nat.le_of_ble_eq_true rfl⟩ dX10_proves_59) rfl rfl rfl rfl ?_
                refine x_istore (pc2 := 64) (lv2 := [(10, _), (9, _), (0, _), (1, _), (2, _), (3, _), (4, _), (5, _), (6, _), (7, _), (8, _)]) C dX10_proves_62 (by decide) rfl rfl ?_
                refine x_iload_n (pc2 := 65) C dX10_proves_64 5 rfl rfl rfl ?_
                refine x_iconst (pc2 := 66) (v := 1) C dX10_proves_65 rfl rfl ?_
                refine x_ishr (pc2 := 67) C dX10_proves_66 rfl ?_
                refine x_iload (pc2 := 69) C dX10_proves_67 0 rfl rfl ?_
                refine x_iload (pc2 := 71) C dX10_proves_69 8 rfl rfl ?_
                refine x_ret (rest := []) (st2 := [_]) (pc2 := 74) (cu2 := 8) (su2 := 48) (x_cS C kmX10_join kk_10_194 (tX10_join hok) rfl rfl (Nat.le_of_ble_eq_true rfl) ⟨Nat.le_of_ble_eq_true rfl, Nat.le_of_ble_eq_true rfl⟩ ⟨Nat.le_of_ble_eq_true rfl, Nat.le_of_ble_eq_true rfl⟩ dX10_proves_71) rfl rfl rfl rfl ?_
                refine x_istore (pc2 := 76) (lv2 := [(10, _), (9, _), (0, _), (1, _), (2, _), (3, _), (4, _), (5, _), (6, _), (7, _), (8, _)]) C dX10_proves_74 (by decide) rfl rfl ?_
                refine x_iload_n (pc2 := 77) C dX10_proves_76 5 rfl rfl rfl ?_
                refine x_iconst (pc2 := 78) (v := 2) C dX10_proves_77 rfl rfl ?_
                refine x_ishr (pc2 := 79) C dX10_proves_78 rfl ?_
                refine x_iload (pc2 := 81) C dX10_proves_79 0 rfl rfl ?_
                refine x_iload (pc2 := 83) C dX10_proves_81 9 rfl rfl ?_
                refine x_ret (rest := []) (st2 := [_]) (pc2 := 86) (cu2 := 8) (su2 := 48) (x_cS C kmX10_join kk_10_194 (tX10_join hok) rfl rfl (Nat.le_of_ble_eq_true rfl) ⟨Nat.le_of_ble_eq_true rfl, Nat.le_of_ble_eq_true rfl⟩ ⟨Nat.le_of_ble_eq_true rfl, Nat.le_of_ble_eq_true rfl⟩ dX10_proves_83) rfl rfl rfl rfl ?_
                refine x_istore (pc2 := 88) (lv2 := [(10, _), (9, _), (0, _), (1, _), (2, _), (3, _), (4, _), (5, _), (6, _), (7, _), (8, _)]) C dX10_proves_86 (by decide) rfl rfl ?_
                refine x_iload_n (pc2 := 89) C dX10_proves_88 5 rfl rfl rfl ?_
                refine x_iconst (pc2 := 90) (v := 3) C dX10_proves_89 rfl rfl ?_
                refine x_ishr (pc2 := 91) C dX10_proves_90 rfl ?_
                refine x_iload (pc2 := 93) C dX10_proves_91 0 rfl rfl ?_
                refine x_iload (pc2 := 95) C dX10_proves_93 10 rfl rfl ?_
                refine x_ret (rest := []) (st2 := [_]) (pc2 := 98) (cu2 := 8) (su2 := 48) (x_cS C kmX10_join kk_10_194 (tX10_join hok) rfl rfl (Nat.le_of_ble_eq_true rfl) ⟨Nat.le_of_ble_eq_true rfl, Nat.le_of_ble_eq_true rfl⟩ ⟨Nat.le_of_ble_eq_true rfl, Nat.le_of_ble_eq_true rfl⟩ dX10_proves_95) rfl rfl rfl rfl ?_
                refine x_aload (pc2 := 100) C dX10_proves_98 1 rfl rfl ?_
                refine x_getI (pc2 := 103) (f := 12) C (by assumption) kf_10_182 dX10_proves_100 rfl rfl rfl ?_
                refine x_icmp_ne (tgt := 110) (pc2 := 106) C dX10_proves_103 (by decide) rfl (fun qc_9 => ?_) (fun qc_9 => ?_)
                · refine x_iconst (pc2 := 111) (v := 0) C dX10_proves_110 rfl rfl ?_
                  exact x_zreturn C dX10_proves_111 rfl (by first | exact Or.inl rfl | exact Or.inr rfl) (Nat.le_of_ble_eq_true rfl) (Nat.le_of_ble_eq_true rfl) (by rw [fX10_proves, if_pos qc_1, if_pos qc_3, if_pos qc_4, if_pos qc_5, if_pos qc_6, if_pos qc_7, if_pos qc_8, if_neg qc_9] <;> rfl) (by rw [fX10_proves, if_pos qc_1, if_pos qc_3, if_pos qc_4, if_pos qc_5, if_pos qc_6, if_pos qc_7, if_pos qc_8, if_neg qc_9] <;> rfl)
                · refine x_iconst (pc2 := 107) (v := 1) C dX10_proves_106 rfl rfl ?_
                  refine x_goto (tgt := 111) C dX10_proves_107 (by decide) ?_
                  exact x_zreturn C dX10_proves_111 rfl (by first | exact Or.inl rfl | exact Or.inr rfl) (Nat.le_of_ble_eq_true rfl) (Nat.le_of_ble_eq_true rfl) (by rw [fX10_proves, if_pos qc_1, if_pos qc_3, if_pos qc_4, if_pos qc_5, if_pos qc_6, if_pos qc_7, if_pos qc_8, if_pos qc_9] <;> rfl) (by rw [fX10_proves, if_pos qc_1, if_pos qc_3, if_pos qc_4, if_pos qc_5, if_pos qc_6, if_pos qc_7, if_pos qc_8, if_pos qc_9] <;> rfl)
              · exact x_thr C (rest := []) (x_cS C kmX10_demandRange kk_10_36 (XM_t qc_8 (tX10_demandRange hok )) rfl rfl (Nat.le_of_ble_eq_true rfl) ⟨Nat.le_of_ble_eq_true rfl, Nat.le_of_ble_eq_true rfl⟩ ⟨Nat.le_of_ble_eq_true rfl, Nat.le_of_ble_eq_true rfl⟩ dX10_proves_51) (Nat.le_of_ble_eq_true rfl) (Nat.le_of_ble_eq_true rfl) (by rw [fX10_proves, if_pos qc_1, if_pos qc_3, if_pos qc_4, if_pos qc_5, if_pos qc_6, if_pos qc_7, if_neg qc_8] <;> rfl) (by rw [fX10_proves, if_pos qc_1, if_pos qc_3, if_pos qc_4, if_pos qc_5, if_pos qc_6, if_pos qc_7, if_neg qc_8] <;> rfl)
            · exact x_thr C (rest := []) (x_cS C kmX10_demandRange kk_10_36 (XM_t qc_7 (tX10_demandRange hok )) rfl rfl (Nat.le_of_ble_eq_true rfl) ⟨Nat.le_of_ble_eq_true rfl, Nat.le_of_ble_eq_true rfl⟩ ⟨Nat.le_of_ble_eq_true rfl, Nat.le_of_ble_eq_true rfl⟩ dX10_proves_43) (Nat.le_of_ble_eq_true rfl) (Nat.le_of_ble_eq_true rfl) (by rw [fX10_proves, if_pos qc_1, if_pos qc_3, if_pos qc_4, if_pos qc_5, if_pos qc_6, if_neg qc_7] <;> rfl) (by rw [fX10_proves, if_pos qc_1, if_pos qc_3, if_pos qc_4, if_pos qc_5, if_pos qc_6, if_neg qc_7] <;> rfl)
          · exact x_thr C (rest := []) (x_cS C kmX10_demandRange kk_10_36 (XM_t qc_6 (tX10_demandRange hok )) rfl rfl (Nat.le_of_ble_eq_true rfl) ⟨Nat.le_of_ble_eq_true rfl, Nat.le_of_ble_eq_true rfl⟩ ⟨Nat.le_of_ble_eq_true rfl, Nat.le_of_ble_eq_true rfl⟩ dX10_proves_35) (Nat.le_of_ble_eq_true rfl) (Nat.le_of_ble_eq_true rfl) (by rw [fX10_proves, if_pos qc_1, if_pos qc_3, if_pos qc_4, if_pos qc_5, if_neg qc_6] <;> rfl) (by rw [fX10_proves, if_pos qc_1, if_pos qc_3, if_pos qc_4, if_pos qc_5, if_neg qc_6] <;> rfl)
        · exact x_thr C (rest := []) (x_cS C kmX10_demandRange kk_10_36 (XM_t qc_5 (tX10_demandRange hok )) rfl rfl (Nat.le_of_ble_eq_true rfl) ⟨Nat.le_of_ble_eq_true rfl, Nat.le_of_ble_eq_true rfl⟩ ⟨Nat.le_of_ble_eq_true rfl, Nat.le_of_ble_eq_true rfl⟩ dX10_proves_27) (Nat.le_of_ble_eq_true rfl) (Nat.le_of_ble_eq_true rfl) (by rw [fX10_proves, if_pos qc_1, if_pos qc_3, if_pos qc_4, if_neg qc_5] <;> rfl) (by rw [fX10_proves, if_pos qc_1, if_pos qc_3, if_pos qc_4, if_neg qc_5] <;> rfl)
      · exact x_thr C (rest := []) (x_cS C kmX10_demandRange kk_10_36 (XM_t qc_4 (tX10_demandRange hok )) rfl rfl (Nat.le_of_ble_eq_true rfl) ⟨Nat.le_of_ble_eq_true rfl, Nat.le_of_ble_eq_true rfl⟩ ⟨Nat.le_of_ble_eq_true rfl, Nat.le_of_ble_eq_true rfl⟩ dX10_proves_19) (Nat.le_of_ble_eq_true rfl) (Nat.le_of_ble_eq_true rfl) (by rw [fX10_proves, if_pos qc_1, if_pos qc_3, if_neg qc_4] <;> rfl) (by rw [fX10_proves, if_pos qc_1, if_pos qc_3, if_neg qc_4] <;> rfl)
    · exact x_thr C (rest := []) (x_cS C kmX10_demandIndex kk_10_32 (XM_t qc_3 (tX10_demandIndex hok )) rfl rfl (Nat.le_of_ble_eq_true rfl) ⟨Nat.le_of_ble_eq_true rfl, Nat.le_of_ble_eq_true rfl⟩ ⟨Nat.le_of_ble_eq_true rfl, Nat.le_of_ble_eq_true rfl⟩ dX10_proves_11) (Nat.le_of_ble_eq_true rfl) (Nat.le_of_ble_eq_true rfl) (by rw [fX10_proves, if_pos qc_1, if_neg qc_3] <;> rfl) (by rw [fX10_proves, if_pos qc_1, if_neg qc_3] <;> rfl)
  · exact x_thr C (rest := []) (x_cV C (by assumption) (Nat.le_of_ble_eq_true rfl) kmX10_demandBlock rfl kk_10_120 (XM_t qc_1 (tX10_demandBlock hok (by assumption))) rfl rfl (Nat.le_of_ble_eq_true rfl) ⟨Nat.le_of_ble_eq_true rfl, Nat.le_of_ble_eq_true rfl⟩ ⟨Nat.le_of_ble_eq_true rfl, Nat.le_of_ble_eq_true rfl⟩ dX10_proves_3) (Nat.le_of_ble_eq_true rfl) (Nat.le_of_ble_eq_true rfl) (by rw [fX10_proves, if_neg qc_1] <;> rfl) (by rw [fX10_proves, if_neg qc_1] <;> rfl)
def fX10_prune (Ω : XO) (i : Nat) (x1 : Int32) : (Option Value ⊕ String) × XO := (if eX10_demandChain Ω i x1 = none then (.inl (some (.int ((fX1_dropLower Ω (rX10_demandChain Ω i x1)).1))), (fX1_dropLower Ω (rX10_demandChain Ω i x1)).2) else (.inr ((eX10_demandChain Ω i x1).getD ""), Ω))
set_option maxRecDepth 20000 in
theorem tX10_prune {G : XG} (hok : XK G) {i : Nat} {x1 : Int32} {Ω : XO} (hd0 : dm G 10 i)  : XM G yX10_prune cX10_prune 2 ((some FieldType.int)) (RM 7 1) [.ref (ad G 10 i), .int x1] Ω (fX10_prune Ω i x1).1 (fX10_prune Ω i x1).2 := by
  refine x_start (lv := [(0, .ref (ad G 10 i)), (1, .int x1)]) (own := RX10) hok (by decide +kernel) rfl (Nat.le_of_ble_eq_true rfl) rfl (fun B C => ?_)
  refine x_aload_n (pc2 := 1) C dX10_prune_0 0 rfl rfl rfl ?_
  refine x_iload_n (pc2 := 2) C dX10_prune_1 1 rfl rfl rfl ?_
  rcases Decidable.em (eX10_demandChain Ω i x1 = none) with qc_1 | qc_1
  · refine x_ret (rest := []) (st2 := [_]) (pc2 := 5) (cu2 := 1) (su2 := 6) (x_cV C (by assumption) (Nat.le_of_ble_eq_true rfl) kmX10_demandChain rfl kk_10_64 (XM_n qc_1 (tX10_demandChain hok (by assumption))) rfl rfl (Nat.le_of_ble_eq_true rfl) ⟨Nat.le_of_ble_eq_true rfl, Nat.le_of_ble_eq_true rfl⟩ ⟨Nat.le_of_ble_eq_true rfl, Nat.le_of_ble_eq_true rfl⟩ dX10_prune_2) rfl rfl rfl rfl ?_
    have qd_2 := D_demandChain hok (Ω := Ω) (by assumption) qc_1
    refine x_ret (rest := []) (st2 := [_]) (pc2 := 8) (cu2 := 1) (su2 := 6) (x_cV C (by assumption) (Nat.le_of_ble_eq_true rfl) kmX1_dropLower rfl kk_10_197 (tX1_dropLower hok (by assumption)) rfl rfl (Nat.le_of_ble_eq_true rfl) ⟨Nat.le_of_ble_eq_true rfl, Nat.le_of_ble_eq_true rfl⟩ ⟨Nat.le_of_ble_eq_true rfl, Nat.le_of_ble_eq_true rfl⟩ dX10_prune_5) rfl rfl rfl rfl ?_
    exact x_ireturn C dX10_prune_8 rfl (Nat.le_of_ble_eq_true rfl) (Nat.le_of_ble_eq_true rfl) (by rw [fX10_prune, if_pos qc_1] <;> rfl) (by rw [fX10_prune, if_pos qc_1] <;> rfl)
  · exact x_thr C (rest := []) (x_cV C (by assumption) (Nat.le_of_ble_eq_true rfl) kmX10_demandChain rfl kk_10_64 (XM_t qc_1 (tX10_demandChain hok (by assumption))) rfl rfl (Nat.le_of_ble_eq_true rfl) ⟨Nat.le_of_ble_eq_true rfl, Nat.le_of_ble_eq_true rfl⟩ ⟨Nat.le_of_ble_eq_true rfl, Nat.le_of_ble_eq_true rfl⟩ dX10_prune_2) (Nat.le_of_ble_eq_true rfl) (Nat.le_of_ble_eq_true rfl) (by rw [fX10_prune, if_neg qc_1] <;> rfl) (by rw [fX10_prune, if_neg qc_1] <;> rfl)
def fX10_lastFinal (Ω : XO) (i : Nat) (x1 : Int32) : (Option Value ⊕ String) × XO := (if eX10_demandChain Ω i x1 = none then (.inl (some (.int (xI Ω 0 (fX1_lastFinalBlock Ω (rX10_demandChain Ω i x1)) 0))), Ω) else (.inr ((eX10_demandChain Ω i x1).getD ""), Ω))
set_option maxRecDepth 20000 in
theorem tX10_lastFinal {G : XG} (hok : XK G) {i : Nat} {x1 : Int32} {Ω : XO} (hd0 : dm G 10 i)  : XM G yX10_lastFinal cX10_lastFinal 2 ((some FieldType.int)) (RM 7 1) [.ref (ad G 10 i), .int x1] Ω (fX10_lastFinal Ω i x1).1 (fX10_lastFinal Ω i x1).2 := by
  refine x_start (lv := [(0, .ref (ad G 10 i)), (1, .int x1)]) (own := RX10) hok (by decide +kernel) rfl (Nat.le_of_ble_eq_true rfl) rfl (fun B C => ?_)
  refine x_aload_n (pc2 := 1) C dX10_lastFinal_0 0 rfl rfl rfl ?_
  refine x_iload_n (pc2 := 2) C dX10_lastFinal_1 1 rfl rfl rfl ?_
  rcases Decidable.em (eX10_demandChain Ω i x1 = none) with qc_1 | qc_1
  · refine x_ret (rest := []) (st2 := [_]) (pc2 := 5) (cu2 := 1) (su2 := 6) (x_cV C (by assumption) (Nat.le_of_ble_eq_true rfl) kmX10_demandChain rfl kk_10_64 (XM_n qc_1 (tX10_demandChain hok (by assumption))) rfl rfl (Nat.le_of_ble_eq_true rfl) ⟨Nat.le_of_ble_eq_true rfl, Nat.le_of_ble_eq_true rfl⟩ ⟨Nat.le_of_ble_eq_true rfl, Nat.le_of_ble_eq_true rfl⟩ dX10_lastFinal_2) rfl rfl rfl rfl ?_
    have qd_2 := D_demandChain hok (Ω := Ω) (by assumption) qc_1
    refine x_ret (rest := []) (st2 := [_]) (pc2 := 8) (cu2 := 1) (su2 := 6) (x_cV C (by assumption) (Nat.le_of_ble_eq_true rfl) kmX1_lastFinalBlock rfl kk_10_102 (tX1_lastFinalBlock hok (by assumption)) rfl rfl (Nat.le_of_ble_eq_true rfl) ⟨Nat.le_of_ble_eq_true rfl, Nat.le_of_ble_eq_true rfl⟩ ⟨Nat.le_of_ble_eq_true rfl, Nat.le_of_ble_eq_true rfl⟩ dX10_lastFinal_5) rfl rfl rfl rfl ?_
    have qd_3 := D_lastFinalBlock hok (Ω := Ω) (i := (rX10_demandChain Ω i x1)) (by assumption)
    refine x_getI (pc2 := 11) (f := 0) C (by assumption) kf_10_135 dX10_lastFinal_8 rfl rfl rfl ?_
    exact x_ireturn C dX10_lastFinal_11 rfl (Nat.le_of_ble_eq_true rfl) (Nat.le_of_ble_eq_true rfl) (by rw [fX10_lastFinal, if_pos qc_1] <;> rfl) (by rw [fX10_lastFinal, if_pos qc_1] <;> rfl)
  · exact x_thr C (rest := []) (x_cV C (by assumption) (Nat.le_of_ble_eq_true rfl) kmX10_demandChain rfl kk_10_64 (XM_t qc_1 (tX10_demandChain hok (by assumption))) rfl rfl (Nat.le_of_ble_eq_true rfl) ⟨Nat.le_of_ble_eq_true rfl, Nat.le_of_ble_eq_true rfl⟩ ⟨Nat.le_of_ble_eq_true rfl, Nat.le_of_ble_eq_true rfl⟩ dX10_lastFinal_2) (Nat.le_of_ble_eq_true rfl) (Nat.le_of_ble_eq_true rfl) (by rw [fX10_lastFinal, if_neg qc_1] <;> rfl) (by rw [fX10_lastFinal, if_neg qc_1] <;> rfl)
def fX10_stake (Ω : XO) (i : Nat) (x1 : Int32) (x2 : Int32) : (Option Value ⊕ String) × XO := (if eX10_demandChain Ω i x1 = none then (if eX10_demandIndex Ω x2 (4 : Int32) = none then (.inl (some (.int (fX8_stakeNow Ω (fX2_validator Ω (rX10_demandChain Ω i x1) x2)))), Ω) else (.inr ((eX10_demandIndex Ω x2 (4 : Int32)).getD ""), Ω)) else (.inr ((eX10_demandChain Ω i x1).getD ""), Ω))
set_option maxRecDepth 20000 in
theorem tX10_stake {G : XG} (hok : XK G) {i : Nat} {x1 : Int32} {x2 : Int32} {Ω : XO} (hd0 : dm G 10 i)  : XM G yX10_stake cX10_stake 4 ((some FieldType.int)) (RM 7 2) [.ref (ad G 10 i), .int x1, .int x2] Ω (fX10_stake Ω i x1 x2).1 (fX10_stake Ω i x1 x2).2 := by
  refine x_start (lv := [(0, .ref (ad G 10 i)), (1, .int x1), (2, .int x2)]) (own := RX10) hok (by decide +kernel) rfl (Nat.le_of_ble_eq_true rfl) rfl (fun B C => ?_)
  refine x_aload_n (pc2 := 1) C dX10_stake_0 0 rfl rfl rfl ?_
  refine x_iload_n (pc2 := 2) C dX10_stake_1 1 rfl rfl rfl ?_
  rcases Decidable.em (eX10_demandChain Ω i x1 = none) with qc_1 | qc_1
  · refine x_ret (rest := []) (st2 := [_]) (pc2 := 5) (cu2 := 1) (su2 := 6) (x_cV C (by assumption) (Nat.le_of_ble_eq_true rfl) kmX10_demandChain rfl kk_10_64 (XM_n qc_1 (tX10_demandChain hok (by assumption))) rfl rfl (Nat.le_of_ble_eq_true rfl) ⟨Nat.le_of_ble_eq_true rfl, Nat.le_of_ble_eq_true rfl⟩ ⟨Nat.le_of_ble_eq_true rfl, Nat.le_of_ble_eq_true rfl⟩ dX10_stake_2) rfl rfl rfl rfl ?_
    have qd_2 := D_demandChain hok (Ω := Ω) (by assumption) qc_1
    refine x_astore_n (pc2 := 6) (lv2 := [(3, _), (0, _), (1, _), (2, _)]) C dX10_stake_5 rfl (by decide) rfl rfl ?_
    refine x_iload_n (pc2 := 7) C dX10_stake_6 3 rfl rfl rfl ?_
    refine x_iconst (pc2 := 8) (v := 4) C dX10_stake_7 rfl rfl ?_
    rcases Decidable.em (eX10_demandIndex Ω x2 (4 : Int32) = none) with qc_3 | qc_3
    · refine x_ret (rest := []) (st2 := []) (pc2 := 11) (cu2 := 2) (su2 := 12) (x_cS C kmX10_demandIndex kk_10_32 (XM_n qc_3 (tX10_demandIndex hok )) rfl rfl (Nat.le_of_ble_eq_true rfl) ⟨Nat.le_of_ble_eq_true rfl, Nat.le_of_ble_eq_true rfl⟩ ⟨Nat.le_of_ble_eq_true rfl, Nat.le_of_ble_eq_true rfl⟩ dX10_stake_8) rfl rfl rfl rfl ?_
      refine x_aload_n (pc2 := 12) C dX10_stake_11 0 rfl rfl rfl ?_
      refine x_getR (f := 105) (k2 := 2) (pc2 := 15) C (by assumption) kf_10_204 dX10_stake_12 rfl rfl rfl (rti_i rfl) rfl (fun qd_4 => ?_)
      refine x_iload_n (pc2 := 16) C dX10_stake_15 3 rfl rfl rfl ?_
      refine x_ret (rest := []) (st2 := [_]) (pc2 := 19) (cu2 := 2) (su2 := 12) (x_cV C (by assumption) (Nat.le_of_ble_eq_true rfl) kmX2_validator rfl kk_10_208 (tX2_validator hok (by assumption)) rfl rfl (Nat.le_of_ble_eq_true rfl) ⟨Nat.le_of_ble_eq_true rfl, Nat.le_of_ble_eq_true rfl⟩ ⟨Nat.le_of_ble_eq_true rfl, Nat.le_of_ble_eq_true rfl⟩ dX10_stake_16) rfl rfl rfl rfl ?_
      have qd_5 := D_validator hok (Ω := Ω) (i := (rX10_demandChain Ω i x1)) (by assumption) (x1 := x2)
      refine x_ret (rest := []) (st2 := [_]) (pc2 := 22) (cu2 := 2) (su2 := 12) (x_cV C (by assumption) (Nat.le_of_ble_eq_true rfl) kmX8_stakeNow rfl kk_10_237 (tX8_stakeNow hok (by assumption)) rfl rfl (Nat.le_of_ble_eq_true rfl) ⟨Nat.le_of_ble_eq_true rfl, Nat.le_of_ble_eq_true rfl⟩ ⟨Nat.le_of_ble_eq_true rfl, Nat.le_of_ble_eq_true rfl⟩ dX10_stake_19) rfl rfl rfl rfl ?_
      exact x_ireturn C dX10_stake_22 rfl (Nat.le_of_ble_eq_true rfl) (Nat.le_of_ble_eq_true rfl) (by rw [fX10_stake, if_pos qc_1, if_pos qc_3] <;> rfl) (by rw [fX10_stake, if_pos qc_1, if_pos qc_3] <;> rfl)
    · exact x_thr C (rest := []) (x_cS C kmX10_demandIndex kk_10_32 (XM_t qc_3 (tX10_demandIndex hok )) rfl rfl (Nat.le_of_ble_eq_true rfl) ⟨Nat.le_of_ble_eq_true rfl, Nat.le_of_ble_eq_true rfl⟩ ⟨Nat.le_of_ble_eq_true rfl, Nat.le_of_ble_eq_true rfl⟩ dX10_stake_8) (Nat.le_of_ble_eq_true rfl) (Nat.le_of_ble_eq_true rfl) (by rw [fX10_stake, if_pos qc_1, if_neg qc_3] <;> rfl) (by rw [fX10_stake, if_pos qc_1, if_neg qc_3] <;> rfl)
  · exact x_thr C (rest := []) (x_cV C (by assumption) (Nat.le_of_ble_eq_true rfl) kmX10_demandChain rfl kk_10_64 (XM_t qc_1 (tX10_demandChain hok (by assumption))) rfl rfl (Nat.le_of_ble_eq_true rfl) ⟨Nat.le_of_ble_eq_true rfl, Nat.le_of_ble_eq_true rfl⟩ ⟨Nat.le_of_ble_eq_true rfl, Nat.le_of_ble_eq_true rfl⟩ dX10_stake_2) (Nat.le_of_ble_eq_true rfl) (Nat.le_of_ble_eq_true rfl) (by rw [fX10_stake, if_neg qc_1] <;> rfl) (by rw [fX10_stake, if_neg qc_1] <;> rfl)
