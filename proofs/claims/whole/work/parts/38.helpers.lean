theorem xio_c : xIO ∈ xnc := List.mem_of_getElem? (i := 0) rfl
theorem xia_c : xIA ∈ xnc := List.mem_of_getElem? (i := 1) rfl
theorem xis_c : xIS ∈ xnc := List.mem_of_getElem? (i := 2) rfl
set_option maxRecDepth 100000 in
theorem kmL_step : XMSH yL_step cL_step 6 [(0, 12, 15, 13), (0, 12, 19, 15), (0, 12, 23, 17)] 5 := ⟨lw_in2 239 (by decide +kernel) rfl, lw_in1 0 (by decide +kernel) rfl, lw_in3 0 rfl rfl, by decide +kernel⟩
set_option maxRecDepth 20000 in
theorem hL_step {G : XG} (hok : XK G) {x1 : Int32} {x2 : Int32} {x3 : Int32} {Ω : XO} (hd0 : dm G 10 0) (hdo : dm G 2017 0) {r0 : (Option Value ⊕ String) × XO} (hf : fX10_step Ω x1 x2 x3 = some r0) {r : Int32 × XO} (hr : hlp false [xIO, xIA, xIS] r0.1 r0.2 = some r) : XMH G yL_step cL_step 6 [(0, 12, 15, 13), (0, 12, 19, 15), (0, 12, 23, 17)] (RM 9 6) [.ref (ad G 10 0), .int x1, .int x2, .int x3, .ref (ad G 2017 0)] Ω r.1 r.2 := by
  refine h_start (lv := [(0, .ref (ad G 10 0)), (1, .int x1), (2, .int x2), (3, .int x3), (4, .ref (ad G 2017 0))]) (own := RL) hok (by decide +kernel) rfl kmL_step.2.2.1 (Nat.le_of_ble_eq_true rfl) rfl (fun B D => ?_)
  have C := D.z
  refine z_aload (pc2 := 2) C dL_step_0 4 rfl rfl ?_
  refine z_iconst (pc2 := 3) (v := 0) C dL_step_2 rfl rfl ?_
  refine z_aload_n (pc2 := 4) C dL_step_3 0 rfl rfl rfl ?_
  refine z_iload_n (pc2 := 5) C dL_step_4 1 rfl rfl rfl ?_
  refine z_iload_n (pc2 := 6) C dL_step_5 2 rfl rfl rfl ?_
  refine z_iload_n (pc2 := 7) C dL_step_6 3 rfl rfl rfl ?_
  have hcall : XR G B 6 7 [(0, .ref (ad G 10 0)), (1, .int x1), (2, .int x2), (3, .int x3), (4, .ref (ad G 2017 0))] _ [.int 0, .ref (ad G 2017 0)] Ω 0 0 6 36 r0.1 r0.2 := (z_cV (rest := [.int 0, .ref (ad G 2017 0)]) C hd0 (Nat.le_of_ble_eq_true rfl) kmX10_step rfl kk_L_7 (tX10_step hok hd0 hf) rfl rfl (Nat.le_of_ble_eq_true rfl) ⟨(Nat.le_of_ble_eq_true rfl), (Nat.le_of_ble_eq_true rfl)⟩ ⟨(Nat.le_of_ble_eq_true rfl), (Nat.le_of_ble_eq_true rfl)⟩ dL_step_7)
  rcases hlp_v hr with ⟨v, hT, hr1⟩ | ⟨E, hT, hr1⟩
  · rw [hT] at hcall
    refine x_ret (rest := [.int 0, .ref (ad G 2017 0)]) (st2 := [.int v, .int 0, .ref (ad G 2017 0)]) (pc2 := 10) (cu2 := 6) (su2 := 36) hcall rfl rfl rfl rfl ?_
    refine z_i2l (pc2 := 11) C dL_step_10 rfl ?_
    refine z_last (pc2 := 12) C hdo dL_step_11 rfl (nI_in (c := 0) (N := 1) (by decide) (by decide)) rfl ?_
    refine z_goto (tgt := 27) C dL_step_12 (by decide) ?_
    refine z_iconst (pc2 := 28) (v := 0) C dL_step_27 rfl rfl ?_
    exact h_ireturn D dL_step_28 (Nat.le_of_ble_eq_true rfl) (Nat.le_of_ble_eq_true rfl) (by rw [hr1]) (by rw [hr1]; rfl)
  · rw [hT] at hcall
    rcases hcd3 hr1 with ⟨rfl, hr2⟩ | ⟨rfl, hr2⟩ | ⟨rfl, hr2⟩
    · skip
      refine h_catch D hcall xio_c [] ⟨0, 12, 15, 13⟩ [⟨0, 12, 19, 15⟩, ⟨0, 12, 23, 17⟩] rfl (fun U hN z hz => absurd hz List.not_mem_nil) rfl (by decide) kn_L_13 (cu2 := 6) (su2 := 36) rfl rfl (pc2 := 15) rfl (fun q => ?_)
      refine z_astore (pc2 := 17) (lv2 := [(5, .ref q), (0, .ref (ad G 10 0)), (1, .int x1), (2, .int x2), (3, .int x3), (4, .ref (ad G 2017 0))]) C dL_step_15 (by decide) rfl rfl ?_
      refine z_iconst (pc2 := 18) (v := 1) C dL_step_17 rfl rfl ?_
      exact h_ireturn D dL_step_18 (Nat.le_of_ble_eq_true rfl) (Nat.le_of_ble_eq_true rfl) (by rw [hr2]) (by rw [hr2])
    · skip
      refine h_catch D hcall xia_c [⟨0, 12, 15, 13⟩] ⟨0, 12, 19, 15⟩ [⟨0, 12, 23, 17⟩] rfl (fun U hN => List.forall_mem_cons.mpr ⟨⟨by decide, xIO, kn_L_13, hN.1⟩, fun z hz => absurd hz List.not_mem_nil⟩) rfl (by decide) kn_L_15 (cu2 := 6) (su2 := 36) rfl rfl (pc2 := 19) rfl (fun q => ?_)
      refine z_astore (pc2 := 21) (lv2 := [(5, .ref q), (0, .ref (ad G 10 0)), (1, .int x1), (2, .int x2), (3, .int x3), (4, .ref (ad G 2017 0))]) C dL_step_19 (by decide) rfl rfl ?_
      refine z_iconst (pc2 := 22) (v := 2) C dL_step_21 rfl rfl ?_
      exact h_ireturn D dL_step_22 (Nat.le_of_ble_eq_true rfl) (Nat.le_of_ble_eq_true rfl) (by rw [hr2]) (by rw [hr2])
    · skip
      refine h_catch D hcall xis_c [⟨0, 12, 15, 13⟩, ⟨0, 12, 19, 15⟩] ⟨0, 12, 23, 17⟩ [] rfl (fun U hN => List.forall_mem_cons.mpr ⟨⟨by decide, xIO, kn_L_13, hN.2.1⟩, List.forall_mem_cons.mpr ⟨⟨by decide, xIA, kn_L_15, hN.2.2⟩, fun z hz => absurd hz List.not_mem_nil⟩⟩) rfl (by decide) kn_L_17 (cu2 := 6) (su2 := 36) rfl rfl (pc2 := 23) rfl (fun q => ?_)
      refine z_astore (pc2 := 25) (lv2 := [(5, .ref q), (0, .ref (ad G 10 0)), (1, .int x1), (2, .int x2), (3, .int x3), (4, .ref (ad G 2017 0))]) C dL_step_23 (by decide) rfl rfl ?_
      refine z_iconst (pc2 := 26) (v := 3) C dL_step_25 rfl rfl ?_
      exact h_ireturn D dL_step_26 (Nat.le_of_ble_eq_true rfl) (Nat.le_of_ble_eq_true rfl) (by rw [hr2]) (by rw [hr2])
set_option maxRecDepth 100000 in
theorem kmL_upgrade : XMSH yL_upgrade cL_upgrade 5 [(0, 10, 13, 13), (0, 10, 17, 15), (0, 10, 21, 17)] 4 := ⟨lw_in3 128 (by decide +kernel) rfl, lw_in1 0 (by decide +kernel) rfl, lw_in3 129 rfl rfl, by decide +kernel⟩
set_option maxRecDepth 20000 in
theorem hL_upgrade {G : XG} (hok : XK G) {x1 : Int32} {x2 : Int32} {Ω : XO} (hd0 : dm G 10 0) (hdo : dm G 2017 0)  {r : Int32 × XO} (hr : hlp false [xIO, xIA, xIS] (fX10_upgrade Ω 0 x1 x2).1 (fX10_upgrade Ω 0 x1 x2).2 = some r) : XMH G yL_upgrade cL_upgrade 5 [(0, 10, 13, 13), (0, 10, 17, 15), (0, 10, 21, 17)] (RM 9 3) [.ref (ad G 10 0), .int x1, .int x2, .ref (ad G 2017 0)] Ω r.1 r.2 := by
  refine h_start (lv := [(0, .ref (ad G 10 0)), (1, .int x1), (2, .int x2), (3, .ref (ad G 2017 0))]) (own := RL) hok (by decide +kernel) rfl kmL_upgrade.2.2.1 (Nat.le_of_ble_eq_true rfl) rfl (fun B D => ?_)
  have C := D.z
  refine z_aload_n (pc2 := 1) C dL_upgrade_0 3 rfl rfl rfl ?_
  refine z_iconst (pc2 := 2) (v := 0) C dL_upgrade_1 rfl rfl ?_
  refine z_aload_n (pc2 := 3) C dL_upgrade_2 0 rfl rfl rfl ?_
  refine z_iload_n (pc2 := 4) C dL_upgrade_3 1 rfl rfl rfl ?_
  refine z_iload_n (pc2 := 5) C dL_upgrade_4 2 rfl rfl rfl ?_
  have hcall : XR G B 5 5 [(0, .ref (ad G 10 0)), (1, .int x1), (2, .int x2), (3, .ref (ad G 2017 0))] _ [.int 0, .ref (ad G 2017 0)] Ω 0 0 3 18 (fX10_upgrade Ω 0 x1 x2).1 (fX10_upgrade Ω 0 x1 x2).2 := (z_cV (rest := [.int 0, .ref (ad G 2017 0)]) C hd0 (Nat.le_of_ble_eq_true rfl) kmX10_upgrade rfl kk_L_19 (tX10_upgrade hok hd0) rfl rfl (Nat.le_of_ble_eq_true rfl) ⟨(Nat.le_of_ble_eq_true rfl), (Nat.le_of_ble_eq_true rfl)⟩ ⟨(Nat.le_of_ble_eq_true rfl), (Nat.le_of_ble_eq_true rfl)⟩ dL_upgrade_5)
  rcases hlp_v hr with ⟨v, hT, hr1⟩ | ⟨E, hT, hr1⟩
  · rw [hT] at hcall
    refine x_ret (rest := [.int 0, .ref (ad G 2017 0)]) (st2 := [.int v, .int 0, .ref (ad G 2017 0)]) (pc2 := 8) (cu2 := 3) (su2 := 18) hcall rfl rfl rfl rfl ?_
    refine z_i2l (pc2 := 9) C dL_upgrade_8 rfl ?_
    refine z_last (pc2 := 10) C hdo dL_upgrade_9 rfl (nI_in (c := 0) (N := 1) (by decide) (by decide)) rfl ?_
    refine z_goto (tgt := 25) C dL_upgrade_10 (by decide) ?_
    refine z_iconst (pc2 := 26) (v := 0) C dL_upgrade_25 rfl rfl ?_
    exact h_ireturn D dL_upgrade_26 (Nat.le_of_ble_eq_true rfl) (Nat.le_of_ble_eq_true rfl) (by rw [hr1]) (by rw [hr1]; rfl)
  · rw [hT] at hcall
    rcases hcd3 hr1 with ⟨rfl, hr2⟩ | ⟨rfl, hr2⟩ | ⟨rfl, hr2⟩
    · skip
      refine h_catch D hcall xio_c [] ⟨0, 10, 13, 13⟩ [⟨0, 10, 17, 15⟩, ⟨0, 10, 21, 17⟩] rfl (fun U hN z hz => absurd hz List.not_mem_nil) rfl (by decide) kn_L_13 (cu2 := 3) (su2 := 18) rfl rfl (pc2 := 13) rfl (fun q => ?_)
      refine z_astore (pc2 := 15) (lv2 := [(4, .ref q), (0, .ref (ad G 10 0)), (1, .int x1), (2, .int x2), (3, .ref (ad G 2017 0))]) C dL_upgrade_13 (by decide) rfl rfl ?_
      refine z_iconst (pc2 := 16) (v := 1) C dL_upgrade_15 rfl rfl ?_
      exact h_ireturn D dL_upgrade_16 (Nat.le_of_ble_eq_true rfl) (Nat.le_of_ble_eq_true rfl) (by rw [hr2]) (by rw [hr2])
    · skip
      refine h_catch D hcall xia_c [⟨0, 10, 13, 13⟩] ⟨0, 10, 17, 15⟩ [⟨0, 10, 21, 17⟩] rfl (fun U hN => List.forall_mem_cons.mpr ⟨⟨by decide, xIO, kn_L_13, hN.1⟩, fun z hz => absurd hz List.not_mem_nil⟩) rfl (by decide) kn_L_15 (cu2 := 3) (su2 := 18) rfl rfl (pc2 := 17) rfl (fun q => ?_)
      refine z_astore (pc2 := 19) (lv2 := [(4, .ref q), (0, .ref (ad G 10 0)), (1, .int x1), (2, .int x2), (3, .ref (ad G 2017 0))]) C dL_upgrade_17 (by decide) rfl rfl ?_
      refine z_iconst (pc2 := 20) (v := 2) C dL_upgrade_19 rfl rfl ?_
      exact h_ireturn D dL_upgrade_20 (Nat.le_of_ble_eq_true rfl) (Nat.le_of_ble_eq_true rfl) (by rw [hr2]) (by rw [hr2])
    · skip
      refine h_catch D hcall xis_c [⟨0, 10, 13, 13⟩, ⟨0, 10, 17, 15⟩] ⟨0, 10, 21, 17⟩ [] rfl (fun U hN => List.forall_mem_cons.mpr ⟨⟨by decide, xIO, kn_L_13, hN.2.1⟩, List.forall_mem_cons.mpr ⟨⟨by decide, xIA, kn_L_15, hN.2.2⟩, fun z hz => absurd hz List.not_mem_nil⟩⟩) rfl (by decide) kn_L_17 (cu2 := 3) (su2 := 18) rfl rfl (pc2 := 21) rfl (fun q => ?_)
      refine z_astore (pc2 := 23) (lv2 := [(4, .ref q), (0, .ref (ad G 10 0)), (1, .int x1), (2, .int x2), (3, .ref (ad G 2017 0))]) C dL_upgrade_21 (by decide) rfl rfl ?_
      refine z_iconst (pc2 := 24) (v := 3) C dL_upgrade_23 rfl rfl ?_
      exact h_ireturn D dL_upgrade_24 (Nat.le_of_ble_eq_true rfl) (Nat.le_of_ble_eq_true rfl) (by rw [hr2]) (by rw [hr2])
set_option maxRecDepth 100000 in
theorem kmL_submit : XMSH yL_submit cL_submit 12 [(0, 24, 27, 13), (0, 24, 31, 15), (0, 24, 35, 17)] 11 := ⟨lw_in3 139 (by decide +kernel) rfl, lw_in1 0 (by decide +kernel) rfl, lw_in3 140 rfl rfl, by decide +kernel⟩
set_option maxRecDepth 20000 in
theorem hL_submit {G : XG} (hok : XK G) {x1 : Int32} {x2 : Int32} {x3 : Int32} {x4 : Int32} {x5 : Int32} {x6 : Int32} {x7 : Int32} {x8 : Int32} {x9 : Int32} {Ω : XO} (hd0 : dm G 10 0) (hdo : dm G 2017 0)  {r : Int32 × XO} (hr : hlp false [xIO, xIA, xIS] (fX10_submit Ω 0 x1 x2 x3 x4 x5 x6 x7 x8 x9).1 (fX10_submit Ω 0 x1 x2 x3 x4 x5 x6 x7 x8 x9).2 = some r) : XMH G yL_submit cL_submit 12 [(0, 24, 27, 13), (0, 24, 31, 15), (0, 24, 35, 17)] (RM 9 10) [.ref (ad G 10 0), .int x1, .int x2, .int x3, .int x4, .int x5, .int x6, .int x7, .int x8, .int x9, .ref (ad G 2017 0)] Ω r.1 r.2 := by
  refine h_start (lv := [(0, .ref (ad G 10 0)), (1, .int x1), (2, .int x2), (3, .int x3), (4, .int x4), (5, .int x5), (6, .int x6), (7, .int x7), (8, .int x8), (9, .int x9), (10, .ref (ad G 2017 0))]) (own := RL) hok (by decide +kernel) rfl kmL_submit.2.2.1 (Nat.le_of_ble_eq_true rfl) rfl (fun B D => ?_)
  have C := D.z
  refine z_aload (pc2 := 2) C dL_submit_0 10 rfl rfl ?_
  refine z_iconst (pc2 := 3) (v := 0) C dL_submit_2 rfl rfl ?_
  refine z_aload_n (pc2 := 4) C dL_submit_3 0 rfl rfl rfl ?_
  refine z_iload_n (pc2 := 5) C dL_submit_4 1 rfl rfl rfl ?_
  refine z_iload_n (pc2 := 6) C dL_submit_5 2 rfl rfl rfl ?_
  refine z_iload_n (pc2 := 7) C dL_submit_6 3 rfl rfl rfl ?_
  refine z_iload (pc2 := 9) C dL_submit_7 4 rfl rfl ?_
  refine z_iload (pc2 := 11) C dL_submit_9 5 rfl rfl ?_
  refine z_iload (pc2 := 13) C dL_submit_11 6 rfl rfl ?_
  refine z_iload (pc2 := 15) C dL_submit_13 7 rfl rfl ?_
  refine z_iload (pc2 := 17) C dL_submit_15 8 rfl rfl ?_
  refine z_iload (pc2 := 19) C dL_submit_17 9 rfl rfl ?_
  have hcall : XR G B 12 19 [(0, .ref (ad G 10 0)), (1, .int x1), (2, .int x2), (3, .int x3), (4, .int x4), (5, .int x5), (6, .int x6), (7, .int x7), (8, .int x8), (9, .int x9), (10, .ref (ad G 2017 0))] _ [.int 0, .ref (ad G 2017 0)] Ω 0 0 10 60 (fX10_submit Ω 0 x1 x2 x3 x4 x5 x6 x7 x8 x9).1 (fX10_submit Ω 0 x1 x2 x3 x4 x5 x6 x7 x8 x9).2 := (z_cV (rest := [.int 0, .ref (ad G 2017 0)]) C hd0 (Nat.le_of_ble_eq_true rfl) kmX10_submit rfl kk_L_23 (tX10_submit hok hd0) rfl rfl (Nat.le_of_ble_eq_true rfl) ⟨(Nat.le_of_ble_eq_true rfl), (Nat.le_of_ble_eq_true rfl)⟩ ⟨(Nat.le_of_ble_eq_true rfl), (Nat.le_of_ble_eq_true rfl)⟩ dL_submit_19)
  rcases hlp_v hr with ⟨v, hT, hr1⟩ | ⟨E, hT, hr1⟩
  · rw [hT] at hcall
    refine x_ret (rest := [.int 0, .ref (ad G 2017 0)]) (st2 := [.int v, .int 0, .ref (ad G 2017 0)]) (pc2 := 22) (cu2 := 10) (su2 := 60) hcall rfl rfl rfl rfl ?_
    refine z_i2l (pc2 := 23) C dL_submit_22 rfl ?_
    refine z_last (pc2 := 24) C hdo dL_submit_23 rfl (nI_in (c := 0) (N := 1) (by decide) (by decide)) rfl ?_
    refine z_goto (tgt := 39) C dL_submit_24 (by decide) ?_
    refine z_iconst (pc2 := 40) (v := 0) C dL_submit_39 rfl rfl ?_
    exact h_ireturn D dL_submit_40 (Nat.le_of_ble_eq_true rfl) (Nat.le_of_ble_eq_true rfl) (by rw [hr1]) (by rw [hr1]; rfl)
  · rw [hT] at hcall
    rcases hcd3 hr1 with ⟨rfl, hr2⟩ | ⟨rfl, hr2⟩ | ⟨rfl, hr2⟩
    · skip
      refine h_catch D hcall xio_c [] ⟨0, 24, 27, 13⟩ [⟨0, 24, 31, 15⟩, ⟨0, 24, 35, 17⟩] rfl (fun U hN z hz => absurd hz List.not_mem_nil) rfl (by decide) kn_L_13 (cu2 := 10) (su2 := 60) rfl rfl (pc2 := 27) rfl (fun q => ?_)
      refine z_astore (pc2 := 29) (lv2 := [(11, .ref q), (0, .ref (ad G 10 0)), (1, .int x1), (2, .int x2), (3, .int x3), (4, .int x4), (5, .int x5), (6, .int x6), (7, .int x7), (8, .int x8), (9, .int x9), (10, .ref (ad G 2017 0))]) C dL_submit_27 (by decide) rfl rfl ?_
      refine z_iconst (pc2 := 30) (v := 1) C dL_submit_29 rfl rfl ?_
      exact h_ireturn D dL_submit_30 (Nat.le_of_ble_eq_true rfl) (Nat.le_of_ble_eq_true rfl) (by rw [hr2]) (by rw [hr2])
    · skip
      refine h_catch D hcall xia_c [⟨0, 24, 27, 13⟩] ⟨0, 24, 31, 15⟩ [⟨0, 24, 35, 17⟩] rfl (fun U hN => List.forall_mem_cons.mpr ⟨⟨by decide, xIO, kn_L_13, hN.1⟩, fun z hz => absurd hz List.not_mem_nil⟩) rfl (by decide) kn_L_15 (cu2 := 10) (su2 := 60) rfl rfl (pc2 := 31) rfl (fun q => ?_)
      refine z_astore (pc2 := 33) (lv2 := [(11, .ref q), (0, .ref (ad G 10 0)), (1, .int x1), (2, .int x2), (3, .int x3), (4, .int x4), (5, .int x5), (6, .int x6), (7, .int x7), (8, .int x8), (9, .int x9), (10, .ref (ad G 2017 0))]) C dL_submit_31 (by decide) rfl rfl ?_
      refine z_iconst (pc2 := 34) (v := 2) C dL_submit_33 rfl rfl ?_
      exact h_ireturn D dL_submit_34 (Nat.le_of_ble_eq_true rfl) (Nat.le_of_ble_eq_true rfl) (by rw [hr2]) (by rw [hr2])
    · skip
      refine h_catch D hcall xis_c [⟨0, 24, 27, 13⟩, ⟨0, 24, 31, 15⟩] ⟨0, 24, 35, 17⟩ [] rfl (fun U hN => List.forall_mem_cons.mpr ⟨⟨by decide, xIO, kn_L_13, hN.2.1⟩, List.forall_mem_cons.mpr ⟨⟨by decide, xIA, kn_L_15, hN.2.2⟩, fun z hz => absurd hz List.not_mem_nil⟩⟩) rfl (by decide) kn_L_17 (cu2 := 10) (su2 := 60) rfl rfl (pc2 := 35) rfl (fun q => ?_)
      refine z_astore (pc2 := 37) (lv2 := [(11, .ref q), (0, .ref (ad G 10 0)), (1, .int x1), (2, .int x2), (3, .int x3), (4, .int x4), (5, .int x5), (6, .int x6), (7, .int x7), (8, .int x8), (9, .int x9), (10, .ref (ad G 2017 0))]) C dL_submit_35 (by decide) rfl rfl ?_
      refine z_iconst (pc2 := 38) (v := 3) C dL_submit_37 rfl rfl ?_
      exact h_ireturn D dL_submit_38 (Nat.le_of_ble_eq_true rfl) (Nat.le_of_ble_eq_true rfl) (by rw [hr2]) (by rw [hr2])
set_option maxRecDepth 100000 in
theorem kmL_claim : XMSH yL_claim cL_claim 9 [(0, 18, 21, 13), (0, 18, 25, 15), (0, 18, 29, 17)] 8 := ⟨lw_in3 210 (by decide +kernel) rfl, lw_in1 0 (by decide +kernel) rfl, lw_in3 211 rfl rfl, by decide +kernel⟩
set_option maxRecDepth 20000 in
theorem hL_claim {G : XG} (hok : XK G) {x1 : Int32} {x2 : Int32} {x3 : Int32} {x4 : Int32} {x5 : Int32} {x6 : Int32} {Ω : XO} (hd0 : dm G 10 0) (hdo : dm G 2017 0)  {r : Int32 × XO} (hr : hlp false [xIO, xIA, xIS] (fX10_claim Ω 0 x1 x2 x3 x4 x5 x6).1 (fX10_claim Ω 0 x1 x2 x3 x4 x5 x6).2 = some r) : XMH G yL_claim cL_claim 9 [(0, 18, 21, 13), (0, 18, 25, 15), (0, 18, 29, 17)] (RM 9 10) [.ref (ad G 10 0), .int x1, .int x2, .int x3, .int x4, .int x5, .int x6, .ref (ad G 2017 0)] Ω r.1 r.2 := by
  refine h_start (lv := [(0, .ref (ad G 10 0)), (1, .int x1), (2, .int x2), (3, .int x3), (4, .int x4), (5, .int x5), (6, .int x6), (7, .ref (ad G 2017 0))]) (own := RL) hok (by decide +kernel) rfl kmL_claim.2.2.1 (Nat.le_of_ble_eq_true rfl) rfl (fun B D => ?_)
  have C := D.z
  refine z_aload (pc2 := 2) C dL_claim_0 7 rfl rfl ?_
  refine z_iconst (pc2 := 3) (v := 0) C dL_claim_2 rfl rfl ?_
  refine z_aload_n (pc2 := 4) C dL_claim_3 0 rfl rfl rfl ?_
  refine z_iload_n (pc2 := 5) C dL_claim_4 1 rfl rfl rfl ?_
  refine z_iload_n (pc2 := 6) C dL_claim_5 2 rfl rfl rfl ?_
  refine z_iload_n (pc2 := 7) C dL_claim_6 3 rfl rfl rfl ?_
  refine z_iload (pc2 := 9) C dL_claim_7 4 rfl rfl ?_
  refine z_iload (pc2 := 11) C dL_claim_9 5 rfl rfl ?_
  refine z_iload (pc2 := 13) C dL_claim_11 6 rfl rfl ?_
  have hcall : XR G B 9 13 [(0, .ref (ad G 10 0)), (1, .int x1), (2, .int x2), (3, .int x3), (4, .int x4), (5, .int x5), (6, .int x6), (7, .ref (ad G 2017 0))] _ [.int 0, .ref (ad G 2017 0)] Ω 0 0 10 60 (fX10_claim Ω 0 x1 x2 x3 x4 x5 x6).1 (fX10_claim Ω 0 x1 x2 x3 x4 x5 x6).2 := (z_cV (rest := [.int 0, .ref (ad G 2017 0)]) C hd0 (Nat.le_of_ble_eq_true rfl) kmX10_claim rfl kk_L_27 (tX10_claim hok hd0) rfl rfl (Nat.le_of_ble_eq_true rfl) ⟨(Nat.le_of_ble_eq_true rfl), (Nat.le_of_ble_eq_true rfl)⟩ ⟨(Nat.le_of_ble_eq_true rfl), (Nat.le_of_ble_eq_true rfl)⟩ dL_claim_13)
  rcases hlp_v hr with ⟨v, hT, hr1⟩ | ⟨E, hT, hr1⟩
  · rw [hT] at hcall
    refine x_ret (rest := [.int 0, .ref (ad G 2017 0)]) (st2 := [.int v, .int 0, .ref (ad G 2017 0)]) (pc2 := 16) (cu2 := 10) (su2 := 60) hcall rfl rfl rfl rfl ?_
    refine z_i2l (pc2 := 17) C dL_claim_16 rfl ?_
    refine z_last (pc2 := 18) C hdo dL_claim_17 rfl (nI_in (c := 0) (N := 1) (by decide) (by decide)) rfl ?_
    refine z_goto (tgt := 33) C dL_claim_18 (by decide) ?_
    refine z_iconst (pc2 := 34) (v := 0) C dL_claim_33 rfl rfl ?_
    exact h_ireturn D dL_claim_34 (Nat.le_of_ble_eq_true rfl) (Nat.le_of_ble_eq_true rfl) (by rw [hr1]) (by rw [hr1]; rfl)
  · rw [hT] at hcall
    rcases hcd3 hr1 with ⟨rfl, hr2⟩ | ⟨rfl, hr2⟩ | ⟨rfl, hr2⟩
    · skip
      refine h_catch D hcall xio_c [] ⟨0, 18, 21, 13⟩ [⟨0, 18, 25, 15⟩, ⟨0, 18, 29, 17⟩] rfl (fun U hN z hz => absurd hz List.not_mem_nil) rfl (by decide) kn_L_13 (cu2 := 10) (su2 := 60) rfl rfl (pc2 := 21) rfl (fun q => ?_)
      refine z_astore (pc2 := 23) (lv2 := [(8, .ref q), (0, .ref (ad G 10 0)), (1, .int x1), (2, .int x2), (3, .int x3), (4, .int x4), (5, .int x5), (6, .int x6), (7, .ref (ad G 2017 0))]) C dL_claim_21 (by decide) rfl rfl ?_
      refine z_iconst (pc2 := 24) (v := 1) C dL_claim_23 rfl rfl ?_
      exact h_ireturn D dL_claim_24 (Nat.le_of_ble_eq_true rfl) (Nat.le_of_ble_eq_true rfl) (by rw [hr2]) (by rw [hr2])
    · skip
      refine h_catch D hcall xia_c [⟨0, 18, 21, 13⟩] ⟨0, 18, 25, 15⟩ [⟨0, 18, 29, 17⟩] rfl (fun U hN => List.forall_mem_cons.mpr ⟨⟨by decide, xIO, kn_L_13, hN.1⟩, fun z hz => absurd hz List.not_mem_nil⟩) rfl (by decide) kn_L_15 (cu2 := 10) (su2 := 60) rfl rfl (pc2 := 25) rfl (fun q => ?_)
      refine z_astore (pc2 := 27) (lv2 := [(8, .ref q), (0, .ref (ad G 10 0)), (1, .int x1), (2, .int x2), (3, .int x3), (4, .int x4), (5, .int x5), (6, .int x6), (7, .ref (ad G 2017 0))]) C dL_claim_25 (by decide) rfl rfl ?_
      refine z_iconst (pc2 := 28) (v := 2) C dL_claim_27 rfl rfl ?_
      exact h_ireturn D dL_claim_28 (Nat.le_of_ble_eq_true rfl) (Nat.le_of_ble_eq_true rfl) (by rw [hr2]) (by rw [hr2])
    · skip
      refine h_catch D hcall xis_c [⟨0, 18, 21, 13⟩, ⟨0, 18, 25, 15⟩] ⟨0, 18, 29, 17⟩ [] rfl (fun U hN => List.forall_mem_cons.mpr ⟨⟨by decide, xIO, kn_L_13, hN.2.1⟩, List.forall_mem_cons.mpr ⟨⟨by decide, xIA, kn_L_15, hN.2.2⟩, fun z hz => absurd hz List.not_mem_nil⟩⟩) rfl (by decide) kn_L_17 (cu2 := 10) (su2 := 60) rfl rfl (pc2 := 29) rfl (fun q => ?_)
      refine z_astore (pc2 := 31) (lv2 := [(8, .ref q), (0, .ref (ad G 10 0)), (1, .int x1), (2, .int x2), (3, .int x3), (4, .int x4), (5, .int x5), (6, .int x6), (7, .ref (ad G 2017 0))]) C dL_claim_29 (by decide) rfl rfl ?_
      refine z_iconst (pc2 := 32) (v := 3) C dL_claim_31 rfl rfl ?_
      exact h_ireturn D dL_claim_32 (Nat.le_of_ble_eq_true rfl) (Nat.le_of_ble_eq_true rfl) (by rw [hr2]) (by rw [hr2])
set_option maxRecDepth 100000 in
theorem kmL_pool : XMSH yL_pool cL_pool 4 [(0, 9, 12, 13)] 3 := ⟨lw_in3 228 (by decide +kernel) rfl, lw_in1 0 (by decide +kernel) rfl, lw_in3 229 rfl rfl, by decide +kernel⟩
set_option maxRecDepth 20000 in
theorem hL_pool {G : XG} (hok : XK G) {x1 : Int32} {Ω : XO} (hd0 : dm G 10 0) (hdo : dm G 2017 0)  {r : Int32 × XO} (hr : hlp false [xIO] (fX10_pool Ω 0 x1).1 (fX10_pool Ω 0 x1).2 = some r) : XMH G yL_pool cL_pool 4 [(0, 9, 12, 13)] (RM 8 1) [.ref (ad G 10 0), .int x1, .ref (ad G 2017 0)] Ω r.1 r.2 := by
  refine h_start (lv := [(0, .ref (ad G 10 0)), (1, .int x1), (2, .ref (ad G 2017 0))]) (own := RL) hok (by decide +kernel) rfl kmL_pool.2.2.1 (Nat.le_of_ble_eq_true rfl) rfl (fun B D => ?_)
  have C := D.z
  refine z_aload_n (pc2 := 1) C dL_pool_0 2 rfl rfl rfl ?_
  refine z_iconst (pc2 := 2) (v := 0) C dL_pool_1 rfl rfl ?_
  refine z_aload_n (pc2 := 3) C dL_pool_2 0 rfl rfl rfl ?_
  refine z_iload_n (pc2 := 4) C dL_pool_3 1 rfl rfl rfl ?_
  have hcall : XR G B 4 4 [(0, .ref (ad G 10 0)), (1, .int x1), (2, .ref (ad G 2017 0))] _ [.int 0, .ref (ad G 2017 0)] Ω 0 0 1 6 (fX10_pool Ω 0 x1).1 (fX10_pool Ω 0 x1).2 := (z_cV (rest := [.int 0, .ref (ad G 2017 0)]) C hd0 (Nat.le_of_ble_eq_true rfl) kmX10_pool rfl kk_L_31 (tX10_pool hok hd0) rfl rfl (Nat.le_of_ble_eq_true rfl) ⟨(Nat.le_of_ble_eq_true rfl), (Nat.le_of_ble_eq_true rfl)⟩ ⟨(Nat.le_of_ble_eq_true rfl), (Nat.le_of_ble_eq_true rfl)⟩ dL_pool_4)
  rcases hlp_v hr with ⟨v, hT, hr1⟩ | ⟨E, hT, hr1⟩
  · rw [hT] at hcall
    refine x_ret (rest := [.int 0, .ref (ad G 2017 0)]) (st2 := [.int v, .int 0, .ref (ad G 2017 0)]) (pc2 := 7) (cu2 := 1) (su2 := 6) hcall rfl rfl rfl rfl ?_
    refine z_i2l (pc2 := 8) C dL_pool_7 rfl ?_
    refine z_last (pc2 := 9) C hdo dL_pool_8 rfl (nI_in (c := 0) (N := 1) (by decide) (by decide)) rfl ?_
    refine z_goto (tgt := 15) C dL_pool_9 (by decide) ?_
    refine z_iconst (pc2 := 16) (v := 0) C dL_pool_15 rfl rfl ?_
    exact h_ireturn D dL_pool_16 (Nat.le_of_ble_eq_true rfl) (Nat.le_of_ble_eq_true rfl) (by rw [hr1]) (by rw [hr1]; rfl)
  · rw [hT] at hcall
    obtain ⟨rfl, hr2⟩ := hcd1 hr1
    refine h_catch D hcall xio_c [] ⟨0, 9, 12, 13⟩ [] rfl (fun U hN z hz => absurd hz List.not_mem_nil) rfl (by decide) kn_L_13 (cu2 := 1) (su2 := 6) rfl rfl (pc2 := 12) rfl (fun q => ?_)
    refine z_astore_n (pc2 := 13) (lv2 := [(3, .ref q), (0, .ref (ad G 10 0)), (1, .int x1), (2, .ref (ad G 2017 0))]) C dL_pool_12 rfl (by decide) rfl rfl ?_
    refine z_iconst (pc2 := 14) (v := 1) C dL_pool_13 rfl rfl ?_
    exact h_ireturn D dL_pool_14 (Nat.le_of_ble_eq_true rfl) (Nat.le_of_ble_eq_true rfl) (by rw [hr2]) (by rw [hr2])
set_option maxRecDepth 100000 in
theorem kmL_make : XMSH yL_make cL_make 7 [(0, 14, 17, 13), (0, 14, 21, 15), (0, 14, 25, 17)] 6 := ⟨lw_in3 236 (by decide +kernel) rfl, lw_in1 0 (by decide +kernel) rfl, lw_in3 237 rfl rfl, by decide +kernel⟩
set_option maxRecDepth 20000 in
theorem hL_make {G : XG} (hok : XK G) {x1 : Int32} {x2 : Int32} {x3 : Int32} {x4 : Int32} {Ω : XO} (hd0 : dm G 10 0) (hdo : dm G 2017 0) {r0 : (Option Value ⊕ String) × XO} (hf : fX10_make Ω x1 x2 x3 x4 = some r0) {r : Int32 × XO} (hr : hlp false [xIO, xIA, xIS] r0.1 r0.2 = some r) : XMH G yL_make cL_make 7 [(0, 14, 17, 13), (0, 14, 21, 15), (0, 14, 25, 17)] (RM 17 6) [.ref (ad G 10 0), .int x1, .int x2, .int x3, .int x4, .ref (ad G 2017 0)] Ω r.1 r.2 := by
  refine h_start (lv := [(0, .ref (ad G 10 0)), (1, .int x1), (2, .int x2), (3, .int x3), (4, .int x4), (5, .ref (ad G 2017 0))]) (own := RL) hok (by decide +kernel) rfl kmL_make.2.2.1 (Nat.le_of_ble_eq_true rfl) rfl (fun B D => ?_)
  have C := D.z
  refine z_aload (pc2 := 2) C dL_make_0 5 rfl rfl ?_
  refine z_iconst (pc2 := 3) (v := 0) C dL_make_2 rfl rfl ?_
  refine z_aload_n (pc2 := 4) C dL_make_3 0 rfl rfl rfl ?_
  refine z_iload_n (pc2 := 5) C dL_make_4 1 rfl rfl rfl ?_
  refine z_iload_n (pc2 := 6) C dL_make_5 2 rfl rfl rfl ?_
  refine z_iload_n (pc2 := 7) C dL_make_6 3 rfl rfl rfl ?_
  refine z_iload (pc2 := 9) C dL_make_7 4 rfl rfl ?_
  have hcall : XR G B 7 9 [(0, .ref (ad G 10 0)), (1, .int x1), (2, .int x2), (3, .int x3), (4, .int x4), (5, .ref (ad G 2017 0))] _ [.int 0, .ref (ad G 2017 0)] Ω 0 0 6 36 r0.1 r0.2 := (z_cV (rest := [.int 0, .ref (ad G 2017 0)]) C hd0 (Nat.le_of_ble_eq_true rfl) kmX10_make rfl kk_L_35 (tX10_make hok hd0 hf) rfl rfl (Nat.le_of_ble_eq_true rfl) ⟨(Nat.le_of_ble_eq_true rfl), (Nat.le_of_ble_eq_true rfl)⟩ ⟨(Nat.le_of_ble_eq_true rfl), (Nat.le_of_ble_eq_true rfl)⟩ dL_make_9)
  rcases hlp_v hr with ⟨v, hT, hr1⟩ | ⟨E, hT, hr1⟩
  · rw [hT] at hcall
    refine x_ret (rest := [.int 0, .ref (ad G 2017 0)]) (st2 := [.int v, .int 0, .ref (ad G 2017 0)]) (pc2 := 12) (cu2 := 6) (su2 := 36) hcall rfl rfl rfl rfl ?_
    refine z_i2l (pc2 := 13) C dL_make_12 rfl ?_
    refine z_last (pc2 := 14) C hdo dL_make_13 rfl (nI_in (c := 0) (N := 1) (by decide) (by decide)) rfl ?_
    refine z_goto (tgt := 29) C dL_make_14 (by decide) ?_
    refine z_iconst (pc2 := 30) (v := 0) C dL_make_29 rfl rfl ?_
    exact h_ireturn D dL_make_30 (Nat.le_of_ble_eq_true rfl) (Nat.le_of_ble_eq_true rfl) (by rw [hr1]) (by rw [hr1]; rfl)
  · rw [hT] at hcall
    rcases hcd3 hr1 with ⟨rfl, hr2⟩ | ⟨rfl, hr2⟩ | ⟨rfl, hr2⟩
    · skip
      refine h_catch D hcall xio_c [] ⟨0, 14, 17, 13⟩ [⟨0, 14, 21, 15⟩, ⟨0, 14, 25, 17⟩] rfl (fun U hN z hz => absurd hz List.not_mem_nil) rfl (by decide) kn_L_13 (cu2 := 6) (su2 := 36) rfl rfl (pc2 := 17) rfl (fun q => ?_)
      refine z_astore (pc2 := 19) (lv2 := [(6, .ref q), (0, .ref (ad G 10 0)), (1, .int x1), (2, .int x2), (3, .int x3), (4, .int x4), (5, .ref (ad G 2017 0))]) C dL_make_17 (by decide) rfl rfl ?_
      refine z_iconst (pc2 := 20) (v := 1) C dL_make_19 rfl rfl ?_
      exact h_ireturn D dL_make_20 (Nat.le_of_ble_eq_true rfl) (Nat.le_of_ble_eq_true rfl) (by rw [hr2]) (by rw [hr2])
    · skip
      refine h_catch D hcall xia_c [⟨0, 14, 17, 13⟩] ⟨0, 14, 21, 15⟩ [⟨0, 14, 25, 17⟩] rfl (fun U hN => List.forall_mem_cons.mpr ⟨⟨by decide, xIO, kn_L_13, hN.1⟩, fun z hz => absurd hz List.not_mem_nil⟩) rfl (by decide) kn_L_15 (cu2 := 6) (su2 := 36) rfl rfl (pc2 := 21) rfl (fun q => ?_)
      refine z_astore (pc2 := 23) (lv2 := [(6, .ref q), (0, .ref (ad G 10 0)), (1, .int x1), (2, .int x2), (3, .int x3), (4, .int x4), (5, .ref (ad G 2017 0))]) C dL_make_21 (by decide) rfl rfl ?_
      refine z_iconst (pc2 := 24) (v := 2) C dL_make_23 rfl rfl ?_
      exact h_ireturn D dL_make_24 (Nat.le_of_ble_eq_true rfl) (Nat.le_of_ble_eq_true rfl) (by rw [hr2]) (by rw [hr2])
    · skip
      refine h_catch D hcall xis_c [⟨0, 14, 17, 13⟩, ⟨0, 14, 21, 15⟩] ⟨0, 14, 25, 17⟩ [] rfl (fun U hN => List.forall_mem_cons.mpr ⟨⟨by decide, xIO, kn_L_13, hN.2.1⟩, List.forall_mem_cons.mpr ⟨⟨by decide, xIA, kn_L_15, hN.2.2⟩, fun z hz => absurd hz List.not_mem_nil⟩⟩) rfl (by decide) kn_L_17 (cu2 := 6) (su2 := 36) rfl rfl (pc2 := 25) rfl (fun q => ?_)
      refine z_astore (pc2 := 27) (lv2 := [(6, .ref q), (0, .ref (ad G 10 0)), (1, .int x1), (2, .int x2), (3, .int x3), (4, .int x4), (5, .ref (ad G 2017 0))]) C dL_make_25 (by decide) rfl rfl ?_
      refine z_iconst (pc2 := 28) (v := 3) C dL_make_27 rfl rfl ?_
      exact h_ireturn D dL_make_28 (Nat.le_of_ble_eq_true rfl) (Nat.le_of_ble_eq_true rfl) (by rw [hr2]) (by rw [hr2])
set_option maxRecDepth 100000 in
theorem kmL_head : XMSH yL_head cL_head 4 [(0, 9, 12, 13)] 3 := ⟨lw_in4 206 (by decide +kernel) rfl, lw_in1 0 (by decide +kernel) rfl, lw_in4 207 rfl rfl, by decide +kernel⟩
set_option maxRecDepth 20000 in
theorem hL_head {G : XG} (hok : XK G) {x1 : Int32} {Ω : XO} (hd0 : dm G 10 0) (hdo : dm G 2017 0)  {r : Int32 × XO} (hr : hlp false [xIO] (fX10_head Ω 0 x1).1 (fX10_head Ω 0 x1).2 = some r) : XMH G yL_head cL_head 4 [(0, 9, 12, 13)] (RM 8 1) [.ref (ad G 10 0), .int x1, .ref (ad G 2017 0)] Ω r.1 r.2 := by
  refine h_start (lv := [(0, .ref (ad G 10 0)), (1, .int x1), (2, .ref (ad G 2017 0))]) (own := RL) hok (by decide +kernel) rfl kmL_head.2.2.1 (Nat.le_of_ble_eq_true rfl) rfl (fun B D => ?_)
  have C := D.z
  refine z_aload_n (pc2 := 1) C dL_head_0 2 rfl rfl rfl ?_
  refine z_iconst (pc2 := 2) (v := 0) C dL_head_1 rfl rfl ?_
  refine z_aload_n (pc2 := 3) C dL_head_2 0 rfl rfl rfl ?_
  refine z_iload_n (pc2 := 4) C dL_head_3 1 rfl rfl rfl ?_
  have hcall : XR G B 4 4 [(0, .ref (ad G 10 0)), (1, .int x1), (2, .ref (ad G 2017 0))] _ [.int 0, .ref (ad G 2017 0)] Ω 0 0 1 6 (fX10_head Ω 0 x1).1 (fX10_head Ω 0 x1).2 := (z_cV (rest := [.int 0, .ref (ad G 2017 0)]) C hd0 (Nat.le_of_ble_eq_true rfl) kmX10_head rfl kk_L_39 (tX10_head hok hd0) rfl rfl (Nat.le_of_ble_eq_true rfl) ⟨(Nat.le_of_ble_eq_true rfl), (Nat.le_of_ble_eq_true rfl)⟩ ⟨(Nat.le_of_ble_eq_true rfl), (Nat.le_of_ble_eq_true rfl)⟩ dL_head_4)
  rcases hlp_v hr with ⟨v, hT, hr1⟩ | ⟨E, hT, hr1⟩
  · rw [hT] at hcall
    refine x_ret (rest := [.int 0, .ref (ad G 2017 0)]) (st2 := [.int v, .int 0, .ref (ad G 2017 0)]) (pc2 := 7) (cu2 := 1) (su2 := 6) hcall rfl rfl rfl rfl ?_
    refine z_i2l (pc2 := 8) C dL_head_7 rfl ?_
    refine z_last (pc2 := 9) C hdo dL_head_8 rfl (nI_in (c := 0) (N := 1) (by decide) (by decide)) rfl ?_
    refine z_goto (tgt := 15) C dL_head_9 (by decide) ?_
    refine z_iconst (pc2 := 16) (v := 0) C dL_head_15 rfl rfl ?_
    exact h_ireturn D dL_head_16 (Nat.le_of_ble_eq_true rfl) (Nat.le_of_ble_eq_true rfl) (by rw [hr1]) (by rw [hr1]; rfl)
  · rw [hT] at hcall
    obtain ⟨rfl, hr2⟩ := hcd1 hr1
    refine h_catch D hcall xio_c [] ⟨0, 9, 12, 13⟩ [] rfl (fun U hN z hz => absurd hz List.not_mem_nil) rfl (by decide) kn_L_13 (cu2 := 1) (su2 := 6) rfl rfl (pc2 := 12) rfl (fun q => ?_)
    refine z_astore_n (pc2 := 13) (lv2 := [(3, .ref q), (0, .ref (ad G 10 0)), (1, .int x1), (2, .ref (ad G 2017 0))]) C dL_head_12 rfl (by decide) rfl rfl ?_
    refine z_iconst (pc2 := 14) (v := 1) C dL_head_13 rfl rfl ?_
    exact h_ireturn D dL_head_14 (Nat.le_of_ble_eq_true rfl) (Nat.le_of_ble_eq_true rfl) (by rw [hr2]) (by rw [hr2])
set_option maxRecDepth 100000 in
theorem kmL_base : XMSH yL_base cL_base 5 [(0, 10, 13, 13)] 4 := ⟨lw_in4 214 (by decide +kernel) rfl, lw_in1 0 (by decide +kernel) rfl, lw_in4 215 rfl rfl, by decide +kernel⟩
set_option maxRecDepth 20000 in
theorem hL_base {G : XG} (hok : XK G) {x1 : Int32} {x2 : Int32} {Ω : XO} (hd0 : dm G 10 0) (hdo : dm G 2017 0)  {r : Int32 × XO} (hr : hlp false [xIO] (fX10_base Ω 0 x1 x2).1 (fX10_base Ω 0 x1 x2).2 = some r) : XMH G yL_base cL_base 5 [(0, 10, 13, 13)] (RM 9 2) [.ref (ad G 10 0), .int x1, .int x2, .ref (ad G 2017 0)] Ω r.1 r.2 := by
  refine h_start (lv := [(0, .ref (ad G 10 0)), (1, .int x1), (2, .int x2), (3, .ref (ad G 2017 0))]) (own := RL) hok (by decide +kernel) rfl kmL_base.2.2.1 (Nat.le_of_ble_eq_true rfl) rfl (fun B D => ?_)
  have C := D.z
  refine z_aload_n (pc2 := 1) C dL_base_0 3 rfl rfl rfl ?_
  refine z_iconst (pc2 := 2) (v := 0) C dL_base_1 rfl rfl ?_
  refine z_aload_n (pc2 := 3) C dL_base_2 0 rfl rfl rfl ?_
  refine z_iload_n (pc2 := 4) C dL_base_3 1 rfl rfl rfl ?_
  refine z_iload_n (pc2 := 5) C dL_base_4 2 rfl rfl rfl ?_
  have hcall : XR G B 5 5 [(0, .ref (ad G 10 0)), (1, .int x1), (2, .int x2), (3, .ref (ad G 2017 0))] _ [.int 0, .ref (ad G 2017 0)] Ω 0 0 2 12 (fX10_base Ω 0 x1 x2).1 (fX10_base Ω 0 x1 x2).2 := (z_cV (rest := [.int 0, .ref (ad G 2017 0)]) C hd0 (Nat.le_of_ble_eq_true rfl) kmX10_base rfl kk_L_42 (tX10_base hok hd0) rfl rfl (Nat.le_of_ble_eq_true rfl) ⟨(Nat.le_of_ble_eq_true rfl), (Nat.le_of_ble_eq_true rfl)⟩ ⟨(Nat.le_of_ble_eq_true rfl), (Nat.le_of_ble_eq_true rfl)⟩ dL_base_5)
  rcases hlp_v hr with ⟨v, hT, hr1⟩ | ⟨E, hT, hr1⟩
  · rw [hT] at hcall
    refine x_ret (rest := [.int 0, .ref (ad G 2017 0)]) (st2 := [.int v, .int 0, .ref (ad G 2017 0)]) (pc2 := 8) (cu2 := 2) (su2 := 12) hcall rfl rfl rfl rfl ?_
    refine z_i2l (pc2 := 9) C dL_base_8 rfl ?_
    refine z_last (pc2 := 10) C hdo dL_base_9 rfl (nI_in (c := 0) (N := 1) (by decide) (by decide)) rfl ?_
    refine z_goto (tgt := 17) C dL_base_10 (by decide) ?_
    refine z_iconst (pc2 := 18) (v := 0) C dL_base_17 rfl rfl ?_
    exact h_ireturn D dL_base_18 (Nat.le_of_ble_eq_true rfl) (Nat.le_of_ble_eq_true rfl) (by rw [hr1]) (by rw [hr1]; rfl)
  · rw [hT] at hcall
    obtain ⟨rfl, hr2⟩ := hcd1 hr1
    refine h_catch D hcall xio_c [] ⟨0, 10, 13, 13⟩ [] rfl (fun U hN z hz => absurd hz List.not_mem_nil) rfl (by decide) kn_L_13 (cu2 := 2) (su2 := 12) rfl rfl (pc2 := 13) rfl (fun q => ?_)
    refine z_astore (pc2 := 15) (lv2 := [(4, .ref q), (0, .ref (ad G 10 0)), (1, .int x1), (2, .int x2), (3, .ref (ad G 2017 0))]) C dL_base_13 (by decide) rfl rfl ?_
    refine z_iconst (pc2 := 16) (v := 1) C dL_base_15 rfl rfl ?_
    exact h_ireturn D dL_base_16 (Nat.le_of_ble_eq_true rfl) (Nat.le_of_ble_eq_true rfl) (by rw [hr2]) (by rw [hr2])
set_option maxRecDepth 100000 in
theorem kmL_used : XMSH yL_used cL_used 5 [(0, 10, 13, 13)] 4 := ⟨lw_in4 221 (by decide +kernel) rfl, lw_in1 0 (by decide +kernel) rfl, lw_in4 222 rfl rfl, by decide +kernel⟩
set_option maxRecDepth 20000 in
theorem hL_used {G : XG} (hok : XK G) {x1 : Int32} {x2 : Int32} {Ω : XO} (hd0 : dm G 10 0) (hdo : dm G 2017 0)  {r : Int32 × XO} (hr : hlp false [xIO] (fX10_used Ω 0 x1 x2).1 (fX10_used Ω 0 x1 x2).2 = some r) : XMH G yL_used cL_used 5 [(0, 10, 13, 13)] (RM 9 2) [.ref (ad G 10 0), .int x1, .int x2, .ref (ad G 2017 0)] Ω r.1 r.2 := by
  refine h_start (lv := [(0, .ref (ad G 10 0)), (1, .int x1), (2, .int x2), (3, .ref (ad G 2017 0))]) (own := RL) hok (by decide +kernel) rfl kmL_used.2.2.1 (Nat.le_of_ble_eq_true rfl) rfl (fun B D => ?_)
  have C := D.z
  refine z_aload_n (pc2 := 1) C dL_used_0 3 rfl rfl rfl ?_
  refine z_iconst (pc2 := 2) (v := 0) C dL_used_1 rfl rfl ?_
  refine z_aload_n (pc2 := 3) C dL_used_2 0 rfl rfl rfl ?_
  refine z_iload_n (pc2 := 4) C dL_used_3 1 rfl rfl rfl ?_
  refine z_iload_n (pc2 := 5) C dL_used_4 2 rfl rfl rfl ?_
  have hcall : XR G B 5 5 [(0, .ref (ad G 10 0)), (1, .int x1), (2, .int x2), (3, .ref (ad G 2017 0))] _ [.int 0, .ref (ad G 2017 0)] Ω 0 0 2 12 (fX10_used Ω 0 x1 x2).1 (fX10_used Ω 0 x1 x2).2 := (z_cV (rest := [.int 0, .ref (ad G 2017 0)]) C hd0 (Nat.le_of_ble_eq_true rfl) kmX10_used rfl kk_L_45 (tX10_used hok hd0) rfl rfl (Nat.le_of_ble_eq_true rfl) ⟨(Nat.le_of_ble_eq_true rfl), (Nat.le_of_ble_eq_true rfl)⟩ ⟨(Nat.le_of_ble_eq_true rfl), (Nat.le_of_ble_eq_true rfl)⟩ dL_used_5)
  rcases hlp_v hr with ⟨v, hT, hr1⟩ | ⟨E, hT, hr1⟩
  · rw [hT] at hcall
    refine x_ret (rest := [.int 0, .ref (ad G 2017 0)]) (st2 := [.int v, .int 0, .ref (ad G 2017 0)]) (pc2 := 8) (cu2 := 2) (su2 := 12) hcall rfl rfl rfl rfl ?_
    refine z_i2l (pc2 := 9) C dL_used_8 rfl ?_
    refine z_last (pc2 := 10) C hdo dL_used_9 rfl (nI_in (c := 0) (N := 1) (by decide) (by decide)) rfl ?_
    refine z_goto (tgt := 17) C dL_used_10 (by decide) ?_
    refine z_iconst (pc2 := 18) (v := 0) C dL_used_17 rfl rfl ?_
    exact h_ireturn D dL_used_18 (Nat.le_of_ble_eq_true rfl) (Nat.le_of_ble_eq_true rfl) (by rw [hr1]) (by rw [hr1]; rfl)
  · rw [hT] at hcall
    obtain ⟨rfl, hr2⟩ := hcd1 hr1
    refine h_catch D hcall xio_c [] ⟨0, 10, 13, 13⟩ [] rfl (fun U hN z hz => absurd hz List.not_mem_nil) rfl (by decide) kn_L_13 (cu2 := 2) (su2 := 12) rfl rfl (pc2 := 13) rfl (fun q => ?_)
    refine z_astore (pc2 := 15) (lv2 := [(4, .ref q), (0, .ref (ad G 10 0)), (1, .int x1), (2, .int x2), (3, .ref (ad G 2017 0))]) C dL_used_13 (by decide) rfl rfl ?_
    refine z_iconst (pc2 := 16) (v := 1) C dL_used_15 rfl rfl ?_
    exact h_ireturn D dL_used_16 (Nat.le_of_ble_eq_true rfl) (Nat.le_of_ble_eq_true rfl) (by rw [hr2]) (by rw [hr2])
set_option maxRecDepth 100000 in
theorem kmL_transactionAt : XMSH yL_transactionAt cL_transactionAt 6 [(0, 12, 15, 13)] 5 := ⟨lw_in4 228 (by decide +kernel) rfl, lw_in1 0 (by decide +kernel) rfl, lw_in4 229 rfl rfl, by decide +kernel⟩
set_option maxRecDepth 20000 in
theorem hL_transactionAt {G : XG} (hok : XK G) {x1 : Int32} {x2 : Int32} {x3 : Int32} {Ω : XO} (hd0 : dm G 10 0) (hdo : dm G 2017 0)  {r : Int32 × XO} (hr : hlp false [xIO] (fX10_transactionAt Ω 0 x1 x2 x3).1 (fX10_transactionAt Ω 0 x1 x2 x3).2 = some r) : XMH G yL_transactionAt cL_transactionAt 6 [(0, 12, 15, 13)] (RM 9 3) [.ref (ad G 10 0), .int x1, .int x2, .int x3, .ref (ad G 2017 0)] Ω r.1 r.2 := by
  refine h_start (lv := [(0, .ref (ad G 10 0)), (1, .int x1), (2, .int x2), (3, .int x3), (4, .ref (ad G 2017 0))]) (own := RL) hok (by decide +kernel) rfl kmL_transactionAt.2.2.1 (Nat.le_of_ble_eq_true rfl) rfl (fun B D => ?_)
  have C := D.z
  refine z_aload (pc2 := 2) C dL_transactionAt_0 4 rfl rfl ?_
  refine z_iconst (pc2 := 3) (v := 0) C dL_transactionAt_2 rfl rfl ?_
  refine z_aload_n (pc2 := 4) C dL_transactionAt_3 0 rfl rfl rfl ?_
  refine z_iload_n (pc2 := 5) C dL_transactionAt_4 1 rfl rfl rfl ?_
  refine z_iload_n (pc2 := 6) C dL_transactionAt_5 2 rfl rfl rfl ?_
  refine z_iload_n (pc2 := 7) C dL_transactionAt_6 3 rfl rfl rfl ?_
  have hcall : XR G B 6 7 [(0, .ref (ad G 10 0)), (1, .int x1), (2, .int x2), (3, .int x3), (4, .ref (ad G 2017 0))] _ [.int 0, .ref (ad G 2017 0)] Ω 0 0 3 18 (fX10_transactionAt Ω 0 x1 x2 x3).1 (fX10_transactionAt Ω 0 x1 x2 x3).2 := (z_cV (rest := [.int 0, .ref (ad G 2017 0)]) C hd0 (Nat.le_of_ble_eq_true rfl) kmX10_transactionAt rfl kk_L_48 (tX10_transactionAt hok hd0) rfl rfl (Nat.le_of_ble_eq_true rfl) ⟨(Nat.le_of_ble_eq_true rfl), (Nat.le_of_ble_eq_true rfl)⟩ ⟨(Nat.le_of_ble_eq_true rfl), (Nat.le_of_ble_eq_true rfl)⟩ dL_transactionAt_7)
  rcases hlp_v hr with ⟨v, hT, hr1⟩ | ⟨E, hT, hr1⟩
  · rw [hT] at hcall
    refine x_ret (rest := [.int 0, .ref (ad G 2017 0)]) (st2 := [.int v, .int 0, .ref (ad G 2017 0)]) (pc2 := 10) (cu2 := 3) (su2 := 18) hcall rfl rfl rfl rfl ?_
    refine z_i2l (pc2 := 11) C dL_transactionAt_10 rfl ?_
    refine z_last (pc2 := 12) C hdo dL_transactionAt_11 rfl (nI_in (c := 0) (N := 1) (by decide) (by decide)) rfl ?_
    refine z_goto (tgt := 19) C dL_transactionAt_12 (by decide) ?_
    refine z_iconst (pc2 := 20) (v := 0) C dL_transactionAt_19 rfl rfl ?_
    exact h_ireturn D dL_transactionAt_20 (Nat.le_of_ble_eq_true rfl) (Nat.le_of_ble_eq_true rfl) (by rw [hr1]) (by rw [hr1]; rfl)
  · rw [hT] at hcall
    obtain ⟨rfl, hr2⟩ := hcd1 hr1
    refine h_catch D hcall xio_c [] ⟨0, 12, 15, 13⟩ [] rfl (fun U hN z hz => absurd hz List.not_mem_nil) rfl (by decide) kn_L_13 (cu2 := 3) (su2 := 18) rfl rfl (pc2 := 15) rfl (fun q => ?_)
    refine z_astore (pc2 := 17) (lv2 := [(5, .ref q), (0, .ref (ad G 10 0)), (1, .int x1), (2, .int x2), (3, .int x3), (4, .ref (ad G 2017 0))]) C dL_transactionAt_15 (by decide) rfl rfl ?_
    refine z_iconst (pc2 := 18) (v := 1) C dL_transactionAt_17 rfl rfl ?_
    exact h_ireturn D dL_transactionAt_18 (Nat.le_of_ble_eq_true rfl) (Nat.le_of_ble_eq_true rfl) (by rw [hr2]) (by rw [hr2])
set_option maxRecDepth 100000 in
theorem kmL_eventAt : XMSH yL_eventAt cL_eventAt 6 [(0, 12, 15, 13)] 5 := ⟨lw_in4 235 (by decide +kernel) rfl, lw_in1 0 (by decide +kernel) rfl, lw_in4 236 rfl rfl, by decide +kernel⟩
set_option maxRecDepth 20000 in
theorem hL_eventAt {G : XG} (hok : XK G) {x1 : Int32} {x2 : Int32} {x3 : Int32} {Ω : XO} (hd0 : dm G 10 0) (hdo : dm G 2017 0)  {r : Int32 × XO} (hr : hlp false [xIO] (fX10_eventAt Ω 0 x1 x2 x3).1 (fX10_eventAt Ω 0 x1 x2 x3).2 = some r) : XMH G yL_eventAt cL_eventAt 6 [(0, 12, 15, 13)] (RM 9 3) [.ref (ad G 10 0), .int x1, .int x2, .int x3, .ref (ad G 2017 0)] Ω r.1 r.2 := by
  refine h_start (lv := [(0, .ref (ad G 10 0)), (1, .int x1), (2, .int x2), (3, .int x3), (4, .ref (ad G 2017 0))]) (own := RL) hok (by decide +kernel) rfl kmL_eventAt.2.2.1 (Nat.le_of_ble_eq_true rfl) rfl (fun B D => ?_)
  have C := D.z
  refine z_aload (pc2 := 2) C dL_eventAt_0 4 rfl rfl ?_
  refine z_iconst (pc2 := 3) (v := 0) C dL_eventAt_2 rfl rfl ?_
  refine z_aload_n (pc2 := 4) C dL_eventAt_3 0 rfl rfl rfl ?_
  refine z_iload_n (pc2 := 5) C dL_eventAt_4 1 rfl rfl rfl ?_
  refine z_iload_n (pc2 := 6) C dL_eventAt_5 2 rfl rfl rfl ?_
  refine z_iload_n (pc2 := 7) C dL_eventAt_6 3 rfl rfl rfl ?_
  have hcall : XR G B 6 7 [(0, .ref (ad G 10 0)), (1, .int x1), (2, .int x2), (3, .int x3), (4, .ref (ad G 2017 0))] _ [.int 0, .ref (ad G 2017 0)] Ω 0 0 3 18 (fX10_eventAt Ω 0 x1 x2 x3).1 (fX10_eventAt Ω 0 x1 x2 x3).2 := (z_cV (rest := [.int 0, .ref (ad G 2017 0)]) C hd0 (Nat.le_of_ble_eq_true rfl) kmX10_eventAt rfl kk_L_51 (tX10_eventAt hok hd0) rfl rfl (Nat.le_of_ble_eq_true rfl) ⟨(Nat.le_of_ble_eq_true rfl), (Nat.le_of_ble_eq_true rfl)⟩ ⟨(Nat.le_of_ble_eq_true rfl), (Nat.le_of_ble_eq_true rfl)⟩ dL_eventAt_7)
  rcases hlp_v hr with ⟨v, hT, hr1⟩ | ⟨E, hT, hr1⟩
  · rw [hT] at hcall
    refine x_ret (rest := [.int 0, .ref (ad G 2017 0)]) (st2 := [.int v, .int 0, .ref (ad G 2017 0)]) (pc2 := 10) (cu2 := 3) (su2 := 18) hcall rfl rfl rfl rfl ?_
    refine z_i2l (pc2 := 11) C dL_eventAt_10 rfl ?_
    refine z_last (pc2 := 12) C hdo dL_eventAt_11 rfl (nI_in (c := 0) (N := 1) (by decide) (by decide)) rfl ?_
    refine z_goto (tgt := 19) C dL_eventAt_12 (by decide) ?_
    refine z_iconst (pc2 := 20) (v := 0) C dL_eventAt_19 rfl rfl ?_
    exact h_ireturn D dL_eventAt_20 (Nat.le_of_ble_eq_true rfl) (Nat.le_of_ble_eq_true rfl) (by rw [hr1]) (by rw [hr1]; rfl)
  · rw [hT] at hcall
    obtain ⟨rfl, hr2⟩ := hcd1 hr1
    refine h_catch D hcall xio_c [] ⟨0, 12, 15, 13⟩ [] rfl (fun U hN z hz => absurd hz List.not_mem_nil) rfl (by decide) kn_L_13 (cu2 := 3) (su2 := 18) rfl rfl (pc2 := 15) rfl (fun q => ?_)
    refine z_astore (pc2 := 17) (lv2 := [(5, .ref q), (0, .ref (ad G 10 0)), (1, .int x1), (2, .int x2), (3, .int x3), (4, .ref (ad G 2017 0))]) C dL_eventAt_15 (by decide) rfl rfl ?_
    refine z_iconst (pc2 := 18) (v := 1) C dL_eventAt_17 rfl rfl ?_
    exact h_ireturn D dL_eventAt_18 (Nat.le_of_ble_eq_true rfl) (Nat.le_of_ble_eq_true rfl) (by rw [hr2]) (by rw [hr2])
set_option maxRecDepth 100000 in
theorem kmL_bloom : XMSH yL_bloom cL_bloom 5 [(0, 10, 13, 13)] 4 := ⟨lw_in5 2 (by decide +kernel) rfl, lw_in1 0 (by decide +kernel) rfl, lw_in5 3 rfl rfl, by decide +kernel⟩
set_option maxRecDepth 20000 in
theorem hL_bloom {G : XG} (hok : XK G) {x1 : Int32} {x2 : Int32} {Ω : XO} (hd0 : dm G 10 0) (hdo : dm G 2017 0)  {r : Int32 × XO} (hr : hlp false [xIO] (fX10_bloom Ω 0 x1 x2).1 (fX10_bloom Ω 0 x1 x2).2 = some r) : XMH G yL_bloom cL_bloom 5 [(0, 10, 13, 13)] (RM 9 2) [.ref (ad G 10 0), .int x1, .int x2, .ref (ad G 2017 0)] Ω r.1 r.2 := by
  refine h_start (lv := [(0, .ref (ad G 10 0)), (1, .int x1), (2, .int x2), (3, .ref (ad G 2017 0))]) (own := RL) hok (by decide +kernel) rfl kmL_bloom.2.2.1 (Nat.le_of_ble_eq_true rfl) rfl (fun B D => ?_)
  have C := D.z
  refine z_aload_n (pc2 := 1) C dL_bloom_0 3 rfl rfl rfl ?_
  refine z_iconst (pc2 := 2) (v := 0) C dL_bloom_1 rfl rfl ?_
  refine z_aload_n (pc2 := 3) C dL_bloom_2 0 rfl rfl rfl ?_
  refine z_iload_n (pc2 := 4) C dL_bloom_3 1 rfl rfl rfl ?_
  refine z_iload_n (pc2 := 5) C dL_bloom_4 2 rfl rfl rfl ?_
  have hcall : XR G B 5 5 [(0, .ref (ad G 10 0)), (1, .int x1), (2, .int x2), (3, .ref (ad G 2017 0))] _ [.int 0, .ref (ad G 2017 0)] Ω 0 0 2 12 (fX10_bloom Ω 0 x1 x2).1 (fX10_bloom Ω 0 x1 x2).2 := (z_cV (rest := [.int 0, .ref (ad G 2017 0)]) C hd0 (Nat.le_of_ble_eq_true rfl) kmX10_bloom rfl kk_L_54 (tX10_bloom hok hd0) rfl rfl (Nat.le_of_ble_eq_true rfl) ⟨(Nat.le_of_ble_eq_true rfl), (Nat.le_of_ble_eq_true rfl)⟩ ⟨(Nat.le_of_ble_eq_true rfl), (Nat.le_of_ble_eq_true rfl)⟩ dL_bloom_5)
  rcases hlp_v hr with ⟨v, hT, hr1⟩ | ⟨E, hT, hr1⟩
  · rw [hT] at hcall
    refine x_ret (rest := [.int 0, .ref (ad G 2017 0)]) (st2 := [.int v, .int 0, .ref (ad G 2017 0)]) (pc2 := 8) (cu2 := 2) (su2 := 12) hcall rfl rfl rfl rfl ?_
    refine z_i2l (pc2 := 9) C dL_bloom_8 rfl ?_
    refine z_last (pc2 := 10) C hdo dL_bloom_9 rfl (nI_in (c := 0) (N := 1) (by decide) (by decide)) rfl ?_
    refine z_goto (tgt := 17) C dL_bloom_10 (by decide) ?_
    refine z_iconst (pc2 := 18) (v := 0) C dL_bloom_17 rfl rfl ?_
    exact h_ireturn D dL_bloom_18 (Nat.le_of_ble_eq_true rfl) (Nat.le_of_ble_eq_true rfl) (by rw [hr1]) (by rw [hr1]; rfl)
  · rw [hT] at hcall
    obtain ⟨rfl, hr2⟩ := hcd1 hr1
    refine h_catch D hcall xio_c [] ⟨0, 10, 13, 13⟩ [] rfl (fun U hN z hz => absurd hz List.not_mem_nil) rfl (by decide) kn_L_13 (cu2 := 2) (su2 := 12) rfl rfl (pc2 := 13) rfl (fun q => ?_)
    refine z_astore (pc2 := 15) (lv2 := [(4, .ref q), (0, .ref (ad G 10 0)), (1, .int x1), (2, .int x2), (3, .ref (ad G 2017 0))]) C dL_bloom_13 (by decide) rfl rfl ?_
    refine z_iconst (pc2 := 16) (v := 1) C dL_bloom_15 rfl rfl ?_
    exact h_ireturn D dL_bloom_16 (Nat.le_of_ble_eq_true rfl) (Nat.le_of_ble_eq_true rfl) (by rw [hr2]) (by rw [hr2])
set_option maxRecDepth 100000 in
theorem kmL_find : XMSH yL_find cL_find 5 [(0, 10, 13, 13), (0, 10, 17, 15)] 4 := ⟨lw_in5 9 (by decide +kernel) rfl, lw_in1 0 (by decide +kernel) rfl, lw_in5 10 rfl rfl, by decide +kernel⟩
set_option maxRecDepth 20000 in
theorem hL_find {G : XG} (hok : XK G) {x1 : Int32} {x2 : Int32} {Ω : XO} (hd0 : dm G 10 0) (hdo : dm G 2017 0)  {r : Int32 × XO} (hr : hlp false [xIO, xIA] (fX10_find Ω 0 x1 x2).1 (fX10_find Ω 0 x1 x2).2 = some r) : XMH G yL_find cL_find 5 [(0, 10, 13, 13), (0, 10, 17, 15)] (RM 9 2) [.ref (ad G 10 0), .int x1, .int x2, .ref (ad G 2017 0)] Ω r.1 r.2 := by
  refine h_start (lv := [(0, .ref (ad G 10 0)), (1, .int x1), (2, .int x2), (3, .ref (ad G 2017 0))]) (own := RL) hok (by decide +kernel) rfl kmL_find.2.2.1 (Nat.le_of_ble_eq_true rfl) rfl (fun B D => ?_)
  have C := D.z
  refine z_aload_n (pc2 := 1) C dL_find_0 3 rfl rfl rfl ?_
  refine z_iconst (pc2 := 2) (v := 0) C dL_find_1 rfl rfl ?_
  refine z_aload_n (pc2 := 3) C dL_find_2 0 rfl rfl rfl ?_
  refine z_iload_n (pc2 := 4) C dL_find_3 1 rfl rfl rfl ?_
  refine z_iload_n (pc2 := 5) C dL_find_4 2 rfl rfl rfl ?_
  have hcall : XR G B 5 5 [(0, .ref (ad G 10 0)), (1, .int x1), (2, .int x2), (3, .ref (ad G 2017 0))] _ [.int 0, .ref (ad G 2017 0)] Ω 0 0 2 12 (fX10_find Ω 0 x1 x2).1 (fX10_find Ω 0 x1 x2).2 := (z_cV (rest := [.int 0, .ref (ad G 2017 0)]) C hd0 (Nat.le_of_ble_eq_true rfl) kmX10_find rfl kk_L_57 (tX10_find hok hd0) rfl rfl (Nat.le_of_ble_eq_true rfl) ⟨(Nat.le_of_ble_eq_true rfl), (Nat.le_of_ble_eq_true rfl)⟩ ⟨(Nat.le_of_ble_eq_true rfl), (Nat.le_of_ble_eq_true rfl)⟩ dL_find_5)
  rcases hlp_v hr with ⟨v, hT, hr1⟩ | ⟨E, hT, hr1⟩
  · rw [hT] at hcall
    refine x_ret (rest := [.int 0, .ref (ad G 2017 0)]) (st2 := [.int v, .int 0, .ref (ad G 2017 0)]) (pc2 := 8) (cu2 := 2) (su2 := 12) hcall rfl rfl rfl rfl ?_
    refine z_i2l (pc2 := 9) C dL_find_8 rfl ?_
    refine z_last (pc2 := 10) C hdo dL_find_9 rfl (nI_in (c := 0) (N := 1) (by decide) (by decide)) rfl ?_
    refine z_goto (tgt := 21) C dL_find_10 (by decide) ?_
    refine z_iconst (pc2 := 22) (v := 0) C dL_find_21 rfl rfl ?_
    exact h_ireturn D dL_find_22 (Nat.le_of_ble_eq_true rfl) (Nat.le_of_ble_eq_true rfl) (by rw [hr1]) (by rw [hr1]; rfl)
  · rw [hT] at hcall
    rcases hcd2 hr1 with ⟨rfl, hr2⟩ | ⟨rfl, hr2⟩
    · skip
      refine h_catch D hcall xio_c [] ⟨0, 10, 13, 13⟩ [⟨0, 10, 17, 15⟩] rfl (fun U hN z hz => absurd hz List.not_mem_nil) rfl (by decide) kn_L_13 (cu2 := 2) (su2 := 12) rfl rfl (pc2 := 13) rfl (fun q => ?_)
      refine z_astore (pc2 := 15) (lv2 := [(4, .ref q), (0, .ref (ad G 10 0)), (1, .int x1), (2, .int x2), (3, .ref (ad G 2017 0))]) C dL_find_13 (by decide) rfl rfl ?_
      refine z_iconst (pc2 := 16) (v := 1) C dL_find_15 rfl rfl ?_
      exact h_ireturn D dL_find_16 (Nat.le_of_ble_eq_true rfl) (Nat.le_of_ble_eq_true rfl) (by rw [hr2]) (by rw [hr2])
    · skip
      refine h_catch D hcall xia_c [⟨0, 10, 13, 13⟩] ⟨0, 10, 17, 15⟩ [] rfl (fun U hN => List.forall_mem_cons.mpr ⟨⟨by decide, xIO, kn_L_13, hN.1⟩, fun z hz => absurd hz List.not_mem_nil⟩) rfl (by decide) kn_L_15 (cu2 := 2) (su2 := 12) rfl rfl (pc2 := 17) rfl (fun q => ?_)
      refine z_astore (pc2 := 19) (lv2 := [(4, .ref q), (0, .ref (ad G 10 0)), (1, .int x1), (2, .int x2), (3, .ref (ad G 2017 0))]) C dL_find_17 (by decide) rfl rfl ?_
      refine z_iconst (pc2 := 20) (v := 2) C dL_find_19 rfl rfl ?_
      exact h_ireturn D dL_find_20 (Nat.le_of_ble_eq_true rfl) (Nat.le_of_ble_eq_true rfl) (by rw [hr2]) (by rw [hr2])
set_option maxRecDepth 100000 in
theorem kmL_coins : XMSH yL_coins cL_coins 6 [(0, 12, 15, 13), (0, 12, 19, 17)] 5 := ⟨lw_in5 28 (by decide +kernel) rfl, lw_in1 0 (by decide +kernel) rfl, lw_in5 29 rfl rfl, by decide +kernel⟩
set_option maxRecDepth 20000 in
theorem hL_coins {G : XG} (hok : XK G) {x1 : Int32} {x2 : Int32} {x3 : Int32} {Ω : XO} (hd0 : dm G 10 0) (hdo : dm G 2017 0)  {r : Int32 × XO} (hr : hlp false [xIO, xIS] (fX10_coins Ω 0 x1 x2 x3).1 (fX10_coins Ω 0 x1 x2 x3).2 = some r) : XMH G yL_coins cL_coins 6 [(0, 12, 15, 13), (0, 12, 19, 17)] (RM 10 4) [.ref (ad G 10 0), .int x1, .int x2, .int x3, .ref (ad G 2017 0)] Ω r.1 r.2 := by
  refine h_start (lv := [(0, .ref (ad G 10 0)), (1, .int x1), (2, .int x2), (3, .int x3), (4, .ref (ad G 2017 0))]) (own := RL) hok (by decide +kernel) rfl kmL_coins.2.2.1 (Nat.le_of_ble_eq_true rfl) rfl (fun B D => ?_)
  have C := D.z
  refine z_aload (pc2 := 2) C dL_coins_0 4 rfl rfl ?_
  refine z_iconst (pc2 := 3) (v := 0) C dL_coins_2 rfl rfl ?_
  refine z_aload_n (pc2 := 4) C dL_coins_3 0 rfl rfl rfl ?_
  refine z_iload_n (pc2 := 5) C dL_coins_4 1 rfl rfl rfl ?_
  refine z_iload_n (pc2 := 6) C dL_coins_5 2 rfl rfl rfl ?_
  refine z_iload_n (pc2 := 7) C dL_coins_6 3 rfl rfl rfl ?_
  have hcall : XR G B 6 7 [(0, .ref (ad G 10 0)), (1, .int x1), (2, .int x2), (3, .int x3), (4, .ref (ad G 2017 0))] _ [.int 0, .ref (ad G 2017 0)] Ω 0 0 4 24 (fX10_coins Ω 0 x1 x2 x3).1 (fX10_coins Ω 0 x1 x2 x3).2 := (z_cV (rest := [.int 0, .ref (ad G 2017 0)]) C hd0 (Nat.le_of_ble_eq_true rfl) kmX10_coins rfl kk_L_60 (tX10_coins hok hd0) rfl rfl (Nat.le_of_ble_eq_true rfl) ⟨(Nat.le_of_ble_eq_true rfl), (Nat.le_of_ble_eq_true rfl)⟩ ⟨(Nat.le_of_ble_eq_true rfl), (Nat.le_of_ble_eq_true rfl)⟩ dL_coins_7)
  rcases hlp_v hr with ⟨v, hT, hr1⟩ | ⟨E, hT, hr1⟩
  · rw [hT] at hcall
    refine x_ret (rest := [.int 0, .ref (ad G 2017 0)]) (st2 := [.int v, .int 0, .ref (ad G 2017 0)]) (pc2 := 10) (cu2 := 4) (su2 := 24) hcall rfl rfl rfl rfl ?_
    refine z_i2l (pc2 := 11) C dL_coins_10 rfl ?_
    refine z_last (pc2 := 12) C hdo dL_coins_11 rfl (nI_in (c := 0) (N := 1) (by decide) (by decide)) rfl ?_
    refine z_goto (tgt := 23) C dL_coins_12 (by decide) ?_
    refine z_iconst (pc2 := 24) (v := 0) C dL_coins_23 rfl rfl ?_
    exact h_ireturn D dL_coins_24 (Nat.le_of_ble_eq_true rfl) (Nat.le_of_ble_eq_true rfl) (by rw [hr1]) (by rw [hr1]; rfl)
  · rw [hT] at hcall
    rcases hcd2 hr1 with ⟨rfl, hr2⟩ | ⟨rfl, hr2⟩
    · skip
      refine h_catch D hcall xio_c [] ⟨0, 12, 15, 13⟩ [⟨0, 12, 19, 17⟩] rfl (fun U hN z hz => absurd hz List.not_mem_nil) rfl (by decide) kn_L_13 (cu2 := 4) (su2 := 24) rfl rfl (pc2 := 15) rfl (fun q => ?_)
      refine z_astore (pc2 := 17) (lv2 := [(5, .ref q), (0, .ref (ad G 10 0)), (1, .int x1), (2, .int x2), (3, .int x3), (4, .ref (ad G 2017 0))]) C dL_coins_15 (by decide) rfl rfl ?_
      refine z_iconst (pc2 := 18) (v := 1) C dL_coins_17 rfl rfl ?_
      exact h_ireturn D dL_coins_18 (Nat.le_of_ble_eq_true rfl) (Nat.le_of_ble_eq_true rfl) (by rw [hr2]) (by rw [hr2])
    · skip
      refine h_catch D hcall xis_c [⟨0, 12, 15, 13⟩] ⟨0, 12, 19, 17⟩ [] rfl (fun U hN => List.forall_mem_cons.mpr ⟨⟨by decide, xIO, kn_L_13, hN.2.1⟩, fun z hz => absurd hz List.not_mem_nil⟩) rfl (by decide) kn_L_17 (cu2 := 4) (su2 := 24) rfl rfl (pc2 := 19) rfl (fun q => ?_)
      refine z_astore (pc2 := 21) (lv2 := [(5, .ref q), (0, .ref (ad G 10 0)), (1, .int x1), (2, .int x2), (3, .int x3), (4, .ref (ad G 2017 0))]) C dL_coins_19 (by decide) rfl rfl ?_
      refine z_iconst (pc2 := 22) (v := 2) C dL_coins_21 rfl rfl ?_
      exact h_ireturn D dL_coins_22 (Nat.le_of_ble_eq_true rfl) (Nat.le_of_ble_eq_true rfl) (by rw [hr2]) (by rw [hr2])
set_option maxRecDepth 100000 in
theorem kmL_codeOf : XMSH yL_codeOf cL_codeOf 6 [(0, 12, 15, 13), (0, 12, 19, 17)] 5 := ⟨lw_in5 39 (by decide +kernel) rfl, lw_in1 0 (by decide +kernel) rfl, lw_in5 40 rfl rfl, by decide +kernel⟩
set_option maxRecDepth 20000 in
theorem hL_codeOf {G : XG} (hok : XK G) {x1 : Int32} {x2 : Int32} {x3 : Int32} {Ω : XO} (hd0 : dm G 10 0) (hdo : dm G 2017 0)  {r : Int32 × XO} (hr : hlp false [xIO, xIS] (fX10_codeOf Ω 0 x1 x2 x3).1 (fX10_codeOf Ω 0 x1 x2 x3).2 = some r) : XMH G yL_codeOf cL_codeOf 6 [(0, 12, 15, 13), (0, 12, 19, 17)] (RM 10 4) [.ref (ad G 10 0), .int x1, .int x2, .int x3, .ref (ad G 2017 0)] Ω r.1 r.2 := by
  refine h_start (lv := [(0, .ref (ad G 10 0)), (1, .int x1), (2, .int x2), (3, .int x3), (4, .ref (ad G 2017 0))]) (own := RL) hok (by decide +kernel) rfl kmL_codeOf.2.2.1 (Nat.le_of_ble_eq_true rfl) rfl (fun B D => ?_)
  have C := D.z
  refine z_aload (pc2 := 2) C dL_codeOf_0 4 rfl rfl ?_
  refine z_iconst (pc2 := 3) (v := 0) C dL_codeOf_2 rfl rfl ?_
  refine z_aload_n (pc2 := 4) C dL_codeOf_3 0 rfl rfl rfl ?_
  refine z_iload_n (pc2 := 5) C dL_codeOf_4 1 rfl rfl rfl ?_
  refine z_iload_n (pc2 := 6) C dL_codeOf_5 2 rfl rfl rfl ?_
  refine z_iload_n (pc2 := 7) C dL_codeOf_6 3 rfl rfl rfl ?_
  have hcall : XR G B 6 7 [(0, .ref (ad G 10 0)), (1, .int x1), (2, .int x2), (3, .int x3), (4, .ref (ad G 2017 0))] _ [.int 0, .ref (ad G 2017 0)] Ω 0 0 4 24 (fX10_codeOf Ω 0 x1 x2 x3).1 (fX10_codeOf Ω 0 x1 x2 x3).2 := (z_cV (rest := [.int 0, .ref (ad G 2017 0)]) C hd0 (Nat.le_of_ble_eq_true rfl) kmX10_codeOf rfl kk_L_63 (tX10_codeOf hok hd0) rfl rfl (Nat.le_of_ble_eq_true rfl) ⟨(Nat.le_of_ble_eq_true rfl), (Nat.le_of_ble_eq_true rfl)⟩ ⟨(Nat.le_of_ble_eq_true rfl), (Nat.le_of_ble_eq_true rfl)⟩ dL_codeOf_7)
  rcases hlp_v hr with ⟨v, hT, hr1⟩ | ⟨E, hT, hr1⟩
  · rw [hT] at hcall
    refine x_ret (rest := [.int 0, .ref (ad G 2017 0)]) (st2 := [.int v, .int 0, .ref (ad G 2017 0)]) (pc2 := 10) (cu2 := 4) (su2 := 24) hcall rfl rfl rfl rfl ?_
    refine z_i2l (pc2 := 11) C dL_codeOf_10 rfl ?_
    refine z_last (pc2 := 12) C hdo dL_codeOf_11 rfl (nI_in (c := 0) (N := 1) (by decide) (by decide)) rfl ?_
    refine z_goto (tgt := 23) C dL_codeOf_12 (by decide) ?_
    refine z_iconst (pc2 := 24) (v := 0) C dL_codeOf_23 rfl rfl ?_
    exact h_ireturn D dL_codeOf_24 (Nat.le_of_ble_eq_true rfl) (Nat.le_of_ble_eq_true rfl) (by rw [hr1]) (by rw [hr1]; rfl)
  · rw [hT] at hcall
    rcases hcd2 hr1 with ⟨rfl, hr2⟩ | ⟨rfl, hr2⟩
    · skip
      refine h_catch D hcall xio_c [] ⟨0, 12, 15, 13⟩ [⟨0, 12, 19, 17⟩] rfl (fun U hN z hz => absurd hz List.not_mem_nil) rfl (by decide) kn_L_13 (cu2 := 4) (su2 := 24) rfl rfl (pc2 := 15) rfl (fun q => ?_)
      refine z_astore (pc2 := 17) (lv2 := [(5, .ref q), (0, .ref (ad G 10 0)), (1, .int x1), (2, .int x2), (3, .int x3), (4, .ref (ad G 2017 0))]) C dL_codeOf_15 (by decide) rfl rfl ?_
      refine z_iconst (pc2 := 18) (v := 1) C dL_codeOf_17 rfl rfl ?_
      exact h_ireturn D dL_codeOf_18 (Nat.le_of_ble_eq_true rfl) (Nat.le_of_ble_eq_true rfl) (by rw [hr2]) (by rw [hr2])
    · skip
      refine h_catch D hcall xis_c [⟨0, 12, 15, 13⟩] ⟨0, 12, 19, 17⟩ [] rfl (fun U hN => List.forall_mem_cons.mpr ⟨⟨by decide, xIO, kn_L_13, hN.2.1⟩, fun z hz => absurd hz List.not_mem_nil⟩) rfl (by decide) kn_L_17 (cu2 := 4) (su2 := 24) rfl rfl (pc2 := 19) rfl (fun q => ?_)
      refine z_astore (pc2 := 21) (lv2 := [(5, .ref q), (0, .ref (ad G 10 0)), (1, .int x1), (2, .int x2), (3, .int x3), (4, .ref (ad G 2017 0))]) C dL_codeOf_19 (by decide) rfl rfl ?_
      refine z_iconst (pc2 := 22) (v := 2) C dL_codeOf_21 rfl rfl ?_
      exact h_ireturn D dL_codeOf_22 (Nat.le_of_ble_eq_true rfl) (Nat.le_of_ble_eq_true rfl) (by rw [hr2]) (by rw [hr2])
set_option maxRecDepth 100000 in
theorem kmL_slot : XMSH yL_slot cL_slot 7 [(0, 14, 17, 13), (0, 14, 21, 17)] 6 := ⟨lw_in5 46 (by decide +kernel) rfl, lw_in1 0 (by decide +kernel) rfl, lw_in5 47 rfl rfl, by decide +kernel⟩
set_option maxRecDepth 20000 in
theorem hL_slot {G : XG} (hok : XK G) {x1 : Int32} {x2 : Int32} {x3 : Int32} {x4 : Int32} {Ω : XO} (hd0 : dm G 10 0) (hdo : dm G 2017 0)  {r : Int32 × XO} (hr : hlp false [xIO, xIS] (fX10_slot Ω 0 x1 x2 x3 x4).1 (fX10_slot Ω 0 x1 x2 x3 x4).2 = some r) : XMH G yL_slot cL_slot 7 [(0, 14, 17, 13), (0, 14, 21, 17)] (RM 10 5) [.ref (ad G 10 0), .int x1, .int x2, .int x3, .int x4, .ref (ad G 2017 0)] Ω r.1 r.2 := by
  refine h_start (lv := [(0, .ref (ad G 10 0)), (1, .int x1), (2, .int x2), (3, .int x3), (4, .int x4), (5, .ref (ad G 2017 0))]) (own := RL) hok (by decide +kernel) rfl kmL_slot.2.2.1 (Nat.le_of_ble_eq_true rfl) rfl (fun B D => ?_)
  have C := D.z
  refine z_aload (pc2 := 2) C dL_slot_0 5 rfl rfl ?_
  refine z_iconst (pc2 := 3) (v := 0) C dL_slot_2 rfl rfl ?_
  refine z_aload_n (pc2 := 4) C dL_slot_3 0 rfl rfl rfl ?_
  refine z_iload_n (pc2 := 5) C dL_slot_4 1 rfl rfl rfl ?_
  refine z_iload_n (pc2 := 6) C dL_slot_5 2 rfl rfl rfl ?_
  refine z_iload_n (pc2 := 7) C dL_slot_6 3 rfl rfl rfl ?_
  refine z_iload (pc2 := 9) C dL_slot_7 4 rfl rfl ?_
  have hcall : XR G B 7 9 [(0, .ref (ad G 10 0)), (1, .int x1), (2, .int x2), (3, .int x3), (4, .int x4), (5, .ref (ad G 2017 0))] _ [.int 0, .ref (ad G 2017 0)] Ω 0 0 5 30 (fX10_slot Ω 0 x1 x2 x3 x4).1 (fX10_slot Ω 0 x1 x2 x3 x4).2 := (z_cV (rest := [.int 0, .ref (ad G 2017 0)]) C hd0 (Nat.le_of_ble_eq_true rfl) kmX10_slot rfl kk_L_66 (tX10_slot hok hd0) rfl rfl (Nat.le_of_ble_eq_true rfl) ⟨(Nat.le_of_ble_eq_true rfl), (Nat.le_of_ble_eq_true rfl)⟩ ⟨(Nat.le_of_ble_eq_true rfl), (Nat.le_of_ble_eq_true rfl)⟩ dL_slot_9)
  rcases hlp_v hr with ⟨v, hT, hr1⟩ | ⟨E, hT, hr1⟩
  · rw [hT] at hcall
    refine x_ret (rest := [.int 0, .ref (ad G 2017 0)]) (st2 := [.int v, .int 0, .ref (ad G 2017 0)]) (pc2 := 12) (cu2 := 5) (su2 := 30) hcall rfl rfl rfl rfl ?_
    refine z_i2l (pc2 := 13) C dL_slot_12 rfl ?_
    refine z_last (pc2 := 14) C hdo dL_slot_13 rfl (nI_in (c := 0) (N := 1) (by decide) (by decide)) rfl ?_
    refine z_goto (tgt := 25) C dL_slot_14 (by decide) ?_
    refine z_iconst (pc2 := 26) (v := 0) C dL_slot_25 rfl rfl ?_
    exact h_ireturn D dL_slot_26 (Nat.le_of_ble_eq_true rfl) (Nat.le_of_ble_eq_true rfl) (by rw [hr1]) (by rw [hr1]; rfl)
  · rw [hT] at hcall
    rcases hcd2 hr1 with ⟨rfl, hr2⟩ | ⟨rfl, hr2⟩
    · skip
      refine h_catch D hcall xio_c [] ⟨0, 14, 17, 13⟩ [⟨0, 14, 21, 17⟩] rfl (fun U hN z hz => absurd hz List.not_mem_nil) rfl (by decide) kn_L_13 (cu2 := 5) (su2 := 30) rfl rfl (pc2 := 17) rfl (fun q => ?_)
      refine z_astore (pc2 := 19) (lv2 := [(6, .ref q), (0, .ref (ad G 10 0)), (1, .int x1), (2, .int x2), (3, .int x3), (4, .int x4), (5, .ref (ad G 2017 0))]) C dL_slot_17 (by decide) rfl rfl ?_
      refine z_iconst (pc2 := 20) (v := 1) C dL_slot_19 rfl rfl ?_
      exact h_ireturn D dL_slot_20 (Nat.le_of_ble_eq_true rfl) (Nat.le_of_ble_eq_true rfl) (by rw [hr2]) (by rw [hr2])
    · skip
      refine h_catch D hcall xis_c [⟨0, 14, 17, 13⟩] ⟨0, 14, 21, 17⟩ [] rfl (fun U hN => List.forall_mem_cons.mpr ⟨⟨by decide, xIO, kn_L_13, hN.2.1⟩, fun z hz => absurd hz List.not_mem_nil⟩) rfl (by decide) kn_L_17 (cu2 := 5) (su2 := 30) rfl rfl (pc2 := 21) rfl (fun q => ?_)
      refine z_astore (pc2 := 23) (lv2 := [(6, .ref q), (0, .ref (ad G 10 0)), (1, .int x1), (2, .int x2), (3, .int x3), (4, .int x4), (5, .ref (ad G 2017 0))]) C dL_slot_21 (by decide) rfl rfl ?_
      refine z_iconst (pc2 := 24) (v := 2) C dL_slot_23 rfl rfl ?_
      exact h_ireturn D dL_slot_24 (Nat.le_of_ble_eq_true rfl) (Nat.le_of_ble_eq_true rfl) (by rw [hr2]) (by rw [hr2])
set_option maxRecDepth 100000 in
theorem kmL_burned : XMSH yL_burned cL_burned 5 [(0, 10, 13, 13), (0, 10, 17, 17)] 4 := ⟨lw_in5 53 (by decide +kernel) rfl, lw_in1 0 (by decide +kernel) rfl, lw_in5 54 rfl rfl, by decide +kernel⟩
set_option maxRecDepth 20000 in
theorem hL_burned {G : XG} (hok : XK G) {x1 : Int32} {x2 : Int32} {Ω : XO} (hd0 : dm G 10 0) (hdo : dm G 2017 0)  {r : Int32 × XO} (hr : hlp false [xIO, xIS] (fX10_burned Ω 0 x1 x2).1 (fX10_burned Ω 0 x1 x2).2 = some r) : XMH G yL_burned cL_burned 5 [(0, 10, 13, 13), (0, 10, 17, 17)] (RM 10 4) [.ref (ad G 10 0), .int x1, .int x2, .ref (ad G 2017 0)] Ω r.1 r.2 := by
  refine h_start (lv := [(0, .ref (ad G 10 0)), (1, .int x1), (2, .int x2), (3, .ref (ad G 2017 0))]) (own := RL) hok (by decide +kernel) rfl kmL_burned.2.2.1 (Nat.le_of_ble_eq_true rfl) rfl (fun B D => ?_)
  have C := D.z
  refine z_aload_n (pc2 := 1) C dL_burned_0 3 rfl rfl rfl ?_
  refine z_iconst (pc2 := 2) (v := 0) C dL_burned_1 rfl rfl ?_
  refine z_aload_n (pc2 := 3) C dL_burned_2 0 rfl rfl rfl ?_
  refine z_iload_n (pc2 := 4) C dL_burned_3 1 rfl rfl rfl ?_
  refine z_iload_n (pc2 := 5) C dL_burned_4 2 rfl rfl rfl ?_
  have hcall : XR G B 5 5 [(0, .ref (ad G 10 0)), (1, .int x1), (2, .int x2), (3, .ref (ad G 2017 0))] _ [.int 0, .ref (ad G 2017 0)] Ω 0 0 4 24 (fX10_burned Ω 0 x1 x2).1 (fX10_burned Ω 0 x1 x2).2 := (z_cV (rest := [.int 0, .ref (ad G 2017 0)]) C hd0 (Nat.le_of_ble_eq_true rfl) kmX10_burned rfl kk_L_69 (tX10_burned hok hd0) rfl rfl (Nat.le_of_ble_eq_true rfl) ⟨(Nat.le_of_ble_eq_true rfl), (Nat.le_of_ble_eq_true rfl)⟩ ⟨(Nat.le_of_ble_eq_true rfl), (Nat.le_of_ble_eq_true rfl)⟩ dL_burned_5)
  rcases hlp_v hr with ⟨v, hT, hr1⟩ | ⟨E, hT, hr1⟩
  · rw [hT] at hcall
    refine x_ret (rest := [.int 0, .ref (ad G 2017 0)]) (st2 := [.int v, .int 0, .ref (ad G 2017 0)]) (pc2 := 8) (cu2 := 4) (su2 := 24) hcall rfl rfl rfl rfl ?_
    refine z_i2l (pc2 := 9) C dL_burned_8 rfl ?_
    refine z_last (pc2 := 10) C hdo dL_burned_9 rfl (nI_in (c := 0) (N := 1) (by decide) (by decide)) rfl ?_
    refine z_goto (tgt := 21) C dL_burned_10 (by decide) ?_
    refine z_iconst (pc2 := 22) (v := 0) C dL_burned_21 rfl rfl ?_
    exact h_ireturn D dL_burned_22 (Nat.le_of_ble_eq_true rfl) (Nat.le_of_ble_eq_true rfl) (by rw [hr1]) (by rw [hr1]; rfl)
  · rw [hT] at hcall
    rcases hcd2 hr1 with ⟨rfl, hr2⟩ | ⟨rfl, hr2⟩
    · skip
      refine h_catch D hcall xio_c [] ⟨0, 10, 13, 13⟩ [⟨0, 10, 17, 17⟩] rfl (fun U hN z hz => absurd hz List.not_mem_nil) rfl (by decide) kn_L_13 (cu2 := 4) (su2 := 24) rfl rfl (pc2 := 13) rfl (fun q => ?_)
      refine z_astore (pc2 := 15) (lv2 := [(4, .ref q), (0, .ref (ad G 10 0)), (1, .int x1), (2, .int x2), (3, .ref (ad G 2017 0))]) C dL_burned_13 (by decide) rfl rfl ?_
      refine z_iconst (pc2 := 16) (v := 1) C dL_burned_15 rfl rfl ?_
      exact h_ireturn D dL_burned_16 (Nat.le_of_ble_eq_true rfl) (Nat.le_of_ble_eq_true rfl) (by rw [hr2]) (by rw [hr2])
    · skip
      refine h_catch D hcall xis_c [⟨0, 10, 13, 13⟩] ⟨0, 10, 17, 17⟩ [] rfl (fun U hN => List.forall_mem_cons.mpr ⟨⟨by decide, xIO, kn_L_13, hN.2.1⟩, fun z hz => absurd hz List.not_mem_nil⟩) rfl (by decide) kn_L_17 (cu2 := 4) (su2 := 24) rfl rfl (pc2 := 17) rfl (fun q => ?_)
      refine z_astore (pc2 := 19) (lv2 := [(4, .ref q), (0, .ref (ad G 10 0)), (1, .int x1), (2, .int x2), (3, .ref (ad G 2017 0))]) C dL_burned_17 (by decide) rfl rfl ?_
      refine z_iconst (pc2 := 20) (v := 2) C dL_burned_19 rfl rfl ?_
      exact h_ireturn D dL_burned_20 (Nat.le_of_ble_eq_true rfl) (Nat.le_of_ble_eq_true rfl) (by rw [hr2]) (by rw [hr2])
set_option maxRecDepth 100000 in
theorem kmL_root : XMSH yL_root cL_root 5 [(0, 10, 13, 13)] 4 := ⟨lw_in5 60 (by decide +kernel) rfl, lw_in1 0 (by decide +kernel) rfl, lw_in5 61 rfl rfl, by decide +kernel⟩
set_option maxRecDepth 20000 in
theorem hL_root {G : XG} (hok : XK G) {x1 : Int32} {x2 : Int32} {Ω : XO} (hd0 : dm G 10 0) (hdo : dm G 2017 0)  {r : Int32 × XO} (hr : hlp false [xIO] (fX10_root Ω 0 x1 x2).1 (fX10_root Ω 0 x1 x2).2 = some r) : XMH G yL_root cL_root 5 [(0, 10, 13, 13)] (RM 9 2) [.ref (ad G 10 0), .int x1, .int x2, .ref (ad G 2017 0)] Ω r.1 r.2 := by
  refine h_start (lv := [(0, .ref (ad G 10 0)), (1, .int x1), (2, .int x2), (3, .ref (ad G 2017 0))]) (own := RL) hok (by decide +kernel) rfl kmL_root.2.2.1 (Nat.le_of_ble_eq_true rfl) rfl (fun B D => ?_)
  have C := D.z
  refine z_aload_n (pc2 := 1) C dL_root_0 3 rfl rfl rfl ?_
  refine z_iconst (pc2 := 2) (v := 0) C dL_root_1 rfl rfl ?_
  refine z_aload_n (pc2 := 3) C dL_root_2 0 rfl rfl rfl ?_
  refine z_iload_n (pc2 := 4) C dL_root_3 1 rfl rfl rfl ?_
  refine z_iload_n (pc2 := 5) C dL_root_4 2 rfl rfl rfl ?_
  have hcall : XR G B 5 5 [(0, .ref (ad G 10 0)), (1, .int x1), (2, .int x2), (3, .ref (ad G 2017 0))] _ [.int 0, .ref (ad G 2017 0)] Ω 0 0 2 12 (fX10_root Ω 0 x1 x2).1 (fX10_root Ω 0 x1 x2).2 := (z_cV (rest := [.int 0, .ref (ad G 2017 0)]) C hd0 (Nat.le_of_ble_eq_true rfl) kmX10_root rfl kk_L_72 (tX10_root hok hd0) rfl rfl (Nat.le_of_ble_eq_true rfl) ⟨(Nat.le_of_ble_eq_true rfl), (Nat.le_of_ble_eq_true rfl)⟩ ⟨(Nat.le_of_ble_eq_true rfl), (Nat.le_of_ble_eq_true rfl)⟩ dL_root_5)
  rcases hlp_v hr with ⟨v, hT, hr1⟩ | ⟨E, hT, hr1⟩
  · rw [hT] at hcall
    refine x_ret (rest := [.int 0, .ref (ad G 2017 0)]) (st2 := [.int v, .int 0, .ref (ad G 2017 0)]) (pc2 := 8) (cu2 := 2) (su2 := 12) hcall rfl rfl rfl rfl ?_
    refine z_i2l (pc2 := 9) C dL_root_8 rfl ?_
    refine z_last (pc2 := 10) C hdo dL_root_9 rfl (nI_in (c := 0) (N := 1) (by decide) (by decide)) rfl ?_
    refine z_goto (tgt := 17) C dL_root_10 (by decide) ?_
    refine z_iconst (pc2 := 18) (v := 0) C dL_root_17 rfl rfl ?_
    exact h_ireturn D dL_root_18 (Nat.le_of_ble_eq_true rfl) (Nat.le_of_ble_eq_true rfl) (by rw [hr1]) (by rw [hr1]; rfl)
  · rw [hT] at hcall
    obtain ⟨rfl, hr2⟩ := hcd1 hr1
    refine h_catch D hcall xio_c [] ⟨0, 10, 13, 13⟩ [] rfl (fun U hN z hz => absurd hz List.not_mem_nil) rfl (by decide) kn_L_13 (cu2 := 2) (su2 := 12) rfl rfl (pc2 := 13) rfl (fun q => ?_)
    refine z_astore (pc2 := 15) (lv2 := [(4, .ref q), (0, .ref (ad G 10 0)), (1, .int x1), (2, .int x2), (3, .ref (ad G 2017 0))]) C dL_root_13 (by decide) rfl rfl ?_
    refine z_iconst (pc2 := 16) (v := 1) C dL_root_15 rfl rfl ?_
    exact h_ireturn D dL_root_16 (Nat.le_of_ble_eq_true rfl) (Nat.le_of_ble_eq_true rfl) (by rw [hr2]) (by rw [hr2])
set_option maxRecDepth 100000 in
theorem kmL_rootAnew : XMSH yL_rootAnew cL_rootAnew 5 [(0, 10, 13, 13)] 4 := ⟨lw_in5 67 (by decide +kernel) rfl, lw_in1 0 (by decide +kernel) rfl, lw_in5 68 rfl rfl, by decide +kernel⟩
set_option maxRecDepth 20000 in
theorem hL_rootAnew {G : XG} (hok : XK G) {x1 : Int32} {x2 : Int32} {Ω : XO} (hd0 : dm G 10 0) (hdo : dm G 2017 0) {r0 : (Option Value ⊕ String) × XO} (hf : fX10_rootAnew Ω x1 x2 = some r0) {r : Int32 × XO} (hr : hlp false [xIO] r0.1 r0.2 = some r) : XMH G yL_rootAnew cL_rootAnew 5 [(0, 10, 13, 13)] (RM 17 3) [.ref (ad G 10 0), .int x1, .int x2, .ref (ad G 2017 0)] Ω r.1 r.2 := by
  refine h_start (lv := [(0, .ref (ad G 10 0)), (1, .int x1), (2, .int x2), (3, .ref (ad G 2017 0))]) (own := RL) hok (by decide +kernel) rfl kmL_rootAnew.2.2.1 (Nat.le_of_ble_eq_true rfl) rfl (fun B D => ?_)
  have C := D.z
  refine z_aload_n (pc2 := 1) C dL_rootAnew_0 3 rfl rfl rfl ?_
  refine z_iconst (pc2 := 2) (v := 0) C dL_rootAnew_1 rfl rfl ?_
  refine z_aload_n (pc2 := 3) C dL_rootAnew_2 0 rfl rfl rfl ?_
  refine z_iload_n (pc2 := 4) C dL_rootAnew_3 1 rfl rfl rfl ?_
  refine z_iload_n (pc2 := 5) C dL_rootAnew_4 2 rfl rfl rfl ?_
  have hcall : XR G B 5 5 [(0, .ref (ad G 10 0)), (1, .int x1), (2, .int x2), (3, .ref (ad G 2017 0))] _ [.int 0, .ref (ad G 2017 0)] Ω 0 0 3 18 r0.1 r0.2 := (z_cV (rest := [.int 0, .ref (ad G 2017 0)]) C hd0 (Nat.le_of_ble_eq_true rfl) kmX10_rootAnew rfl kk_L_75 (tX10_rootAnew hok hd0 hf) rfl rfl (Nat.le_of_ble_eq_true rfl) ⟨(Nat.le_of_ble_eq_true rfl), (Nat.le_of_ble_eq_true rfl)⟩ ⟨(Nat.le_of_ble_eq_true rfl), (Nat.le_of_ble_eq_true rfl)⟩ dL_rootAnew_5)
  rcases hlp_v hr with ⟨v, hT, hr1⟩ | ⟨E, hT, hr1⟩
  · rw [hT] at hcall
    refine x_ret (rest := [.int 0, .ref (ad G 2017 0)]) (st2 := [.int v, .int 0, .ref (ad G 2017 0)]) (pc2 := 8) (cu2 := 3) (su2 := 18) hcall rfl rfl rfl rfl ?_
    refine z_i2l (pc2 := 9) C dL_rootAnew_8 rfl ?_
    refine z_last (pc2 := 10) C hdo dL_rootAnew_9 rfl (nI_in (c := 0) (N := 1) (by decide) (by decide)) rfl ?_
    refine z_goto (tgt := 17) C dL_rootAnew_10 (by decide) ?_
    refine z_iconst (pc2 := 18) (v := 0) C dL_rootAnew_17 rfl rfl ?_
    exact h_ireturn D dL_rootAnew_18 (Nat.le_of_ble_eq_true rfl) (Nat.le_of_ble_eq_true rfl) (by rw [hr1]) (by rw [hr1]; rfl)
  · rw [hT] at hcall
    obtain ⟨rfl, hr2⟩ := hcd1 hr1
    refine h_catch D hcall xio_c [] ⟨0, 10, 13, 13⟩ [] rfl (fun U hN z hz => absurd hz List.not_mem_nil) rfl (by decide) kn_L_13 (cu2 := 3) (su2 := 18) rfl rfl (pc2 := 13) rfl (fun q => ?_)
    refine z_astore (pc2 := 15) (lv2 := [(4, .ref q), (0, .ref (ad G 10 0)), (1, .int x1), (2, .int x2), (3, .ref (ad G 2017 0))]) C dL_rootAnew_13 (by decide) rfl rfl ?_
    refine z_iconst (pc2 := 16) (v := 1) C dL_rootAnew_15 rfl rfl ?_
    exact h_ireturn D dL_rootAnew_16 (Nat.le_of_ble_eq_true rfl) (Nat.le_of_ble_eq_true rfl) (by rw [hr2]) (by rw [hr2])
set_option maxRecDepth 100000 in
theorem kmL_leaf : XMSH yL_leaf cL_leaf 6 [(0, 12, 15, 13), (0, 12, 19, 17)] 5 := ⟨lw_in5 88 (by decide +kernel) rfl, lw_in1 0 (by decide +kernel) rfl, lw_in5 89 rfl rfl, by decide +kernel⟩
set_option maxRecDepth 20000 in
theorem hL_leaf {G : XG} (hok : XK G) {x1 : Int32} {x2 : Int32} {x3 : Int32} {Ω : XO} (hd0 : dm G 10 0) (hdo : dm G 2017 0)  {r : Int32 × XO} (hr : hlp false [xIO, xIS] (fX10_leaf Ω 0 x1 x2 x3).1 (fX10_leaf Ω 0 x1 x2 x3).2 = some r) : XMH G yL_leaf cL_leaf 6 [(0, 12, 15, 13), (0, 12, 19, 17)] (RM 10 4) [.ref (ad G 10 0), .int x1, .int x2, .int x3, .ref (ad G 2017 0)] Ω r.1 r.2 := by
  refine h_start (lv := [(0, .ref (ad G 10 0)), (1, .int x1), (2, .int x2), (3, .int x3), (4, .ref (ad G 2017 0))]) (own := RL) hok (by decide +kernel) rfl kmL_leaf.2.2.1 (Nat.le_of_ble_eq_true rfl) rfl (fun B D => ?_)
  have C := D.z
  refine z_aload (pc2 := 2) C dL_leaf_0 4 rfl rfl ?_
  refine z_iconst (pc2 := 3) (v := 0) C dL_leaf_2 rfl rfl ?_
  refine z_aload_n (pc2 := 4) C dL_leaf_3 0 rfl rfl rfl ?_
  refine z_iload_n (pc2 := 5) C dL_leaf_4 1 rfl rfl rfl ?_
  refine z_iload_n (pc2 := 6) C dL_leaf_5 2 rfl rfl rfl ?_
  refine z_iload_n (pc2 := 7) C dL_leaf_6 3 rfl rfl rfl ?_
  have hcall : XR G B 6 7 [(0, .ref (ad G 10 0)), (1, .int x1), (2, .int x2), (3, .int x3), (4, .ref (ad G 2017 0))] _ [.int 0, .ref (ad G 2017 0)] Ω 0 0 4 24 (fX10_leaf Ω 0 x1 x2 x3).1 (fX10_leaf Ω 0 x1 x2 x3).2 := (z_cV (rest := [.int 0, .ref (ad G 2017 0)]) C hd0 (Nat.le_of_ble_eq_true rfl) kmX10_leaf rfl kk_L_78 (tX10_leaf hok hd0) rfl rfl (Nat.le_of_ble_eq_true rfl) ⟨(Nat.le_of_ble_eq_true rfl), (Nat.le_of_ble_eq_true rfl)⟩ ⟨(Nat.le_of_ble_eq_true rfl), (Nat.le_of_ble_eq_true rfl)⟩ dL_leaf_7)
  rcases hlp_v hr with ⟨v, hT, hr1⟩ | ⟨E, hT, hr1⟩
  · rw [hT] at hcall
    refine x_ret (rest := [.int 0, .ref (ad G 2017 0)]) (st2 := [.int v, .int 0, .ref (ad G 2017 0)]) (pc2 := 10) (cu2 := 4) (su2 := 24) hcall rfl rfl rfl rfl ?_
    refine z_i2l (pc2 := 11) C dL_leaf_10 rfl ?_
    refine z_last (pc2 := 12) C hdo dL_leaf_11 rfl (nI_in (c := 0) (N := 1) (by decide) (by decide)) rfl ?_
    refine z_goto (tgt := 23) C dL_leaf_12 (by decide) ?_
    refine z_iconst (pc2 := 24) (v := 0) C dL_leaf_23 rfl rfl ?_
    exact h_ireturn D dL_leaf_24 (Nat.le_of_ble_eq_true rfl) (Nat.le_of_ble_eq_true rfl) (by rw [hr1]) (by rw [hr1]; rfl)
  · rw [hT] at hcall
    rcases hcd2 hr1 with ⟨rfl, hr2⟩ | ⟨rfl, hr2⟩
    · skip
      refine h_catch D hcall xio_c [] ⟨0, 12, 15, 13⟩ [⟨0, 12, 19, 17⟩] rfl (fun U hN z hz => absurd hz List.not_mem_nil) rfl (by decide) kn_L_13 (cu2 := 4) (su2 := 24) rfl rfl (pc2 := 15) rfl (fun q => ?_)
      refine z_astore (pc2 := 17) (lv2 := [(5, .ref q), (0, .ref (ad G 10 0)), (1, .int x1), (2, .int x2), (3, .int x3), (4, .ref (ad G 2017 0))]) C dL_leaf_15 (by decide) rfl rfl ?_
      refine z_iconst (pc2 := 18) (v := 1) C dL_leaf_17 rfl rfl ?_
      exact h_ireturn D dL_leaf_18 (Nat.le_of_ble_eq_true rfl) (Nat.le_of_ble_eq_true rfl) (by rw [hr2]) (by rw [hr2])
    · skip
      refine h_catch D hcall xis_c [⟨0, 12, 15, 13⟩] ⟨0, 12, 19, 17⟩ [] rfl (fun U hN => List.forall_mem_cons.mpr ⟨⟨by decide, xIO, kn_L_13, hN.2.1⟩, fun z hz => absurd hz List.not_mem_nil⟩) rfl (by decide) kn_L_17 (cu2 := 4) (su2 := 24) rfl rfl (pc2 := 19) rfl (fun q => ?_)
      refine z_astore (pc2 := 21) (lv2 := [(5, .ref q), (0, .ref (ad G 10 0)), (1, .int x1), (2, .int x2), (3, .int x3), (4, .ref (ad G 2017 0))]) C dL_leaf_19 (by decide) rfl rfl ?_
      refine z_iconst (pc2 := 22) (v := 2) C dL_leaf_21 rfl rfl ?_
      exact h_ireturn D dL_leaf_22 (Nat.le_of_ble_eq_true rfl) (Nat.le_of_ble_eq_true rfl) (by rw [hr2]) (by rw [hr2])
set_option maxRecDepth 100000 in
theorem kmL_proof : XMSH yL_proof cL_proof 7 [(0, 14, 17, 13), (0, 14, 21, 17)] 6 := ⟨lw_in5 95 (by decide +kernel) rfl, lw_in1 0 (by decide +kernel) rfl, lw_in5 96 rfl rfl, by decide +kernel⟩
set_option maxRecDepth 20000 in
theorem hL_proof {G : XG} (hok : XK G) {x1 : Int32} {x2 : Int32} {x3 : Int32} {x4 : Int32} {Ω : XO} (hd0 : dm G 10 0) (hdo : dm G 2017 0)  {r : Int32 × XO} (hr : hlp false [xIO, xIS] (fX10_proof Ω 0 x1 x2 x3 x4).1 (fX10_proof Ω 0 x1 x2 x3 x4).2 = some r) : XMH G yL_proof cL_proof 7 [(0, 14, 17, 13), (0, 14, 21, 17)] (RM 10 5) [.ref (ad G 10 0), .int x1, .int x2, .int x3, .int x4, .ref (ad G 2017 0)] Ω r.1 r.2 := by
  refine h_start (lv := [(0, .ref (ad G 10 0)), (1, .int x1), (2, .int x2), (3, .int x3), (4, .int x4), (5, .ref (ad G 2017 0))]) (own := RL) hok (by decide +kernel) rfl kmL_proof.2.2.1 (Nat.le_of_ble_eq_true rfl) rfl (fun B D => ?_)
  have C := D.z
  refine z_aload (pc2 := 2) C dL_proof_0 5 rfl rfl ?_
  refine z_iconst (pc2 := 3) (v := 0) C dL_proof_2 rfl rfl ?_
  refine z_aload_n (pc2 := 4) C dL_proof_3 0 rfl rfl rfl ?_
  refine z_iload_n (pc2 := 5) C dL_proof_4 1 rfl rfl rfl ?_
  refine z_iload_n (pc2 := 6) C dL_proof_5 2 rfl rfl rfl ?_
  refine z_iload_n (pc2 := 7) C dL_proof_6 3 rfl rfl rfl ?_
  refine z_iload (pc2 := 9) C dL_proof_7 4 rfl rfl ?_
  have hcall : XR G B 7 9 [(0, .ref (ad G 10 0)), (1, .int x1), (2, .int x2), (3, .int x3), (4, .int x4), (5, .ref (ad G 2017 0))] _ [.int 0, .ref (ad G 2017 0)] Ω 0 0 5 30 (fX10_proof Ω 0 x1 x2 x3 x4).1 (fX10_proof Ω 0 x1 x2 x3 x4).2 := (z_cV (rest := [.int 0, .ref (ad G 2017 0)]) C hd0 (Nat.le_of_ble_eq_true rfl) kmX10_proof rfl kk_L_81 (tX10_proof hok hd0) rfl rfl (Nat.le_of_ble_eq_true rfl) ⟨(Nat.le_of_ble_eq_true rfl), (Nat.le_of_ble_eq_true rfl)⟩ ⟨(Nat.le_of_ble_eq_true rfl), (Nat.le_of_ble_eq_true rfl)⟩ dL_proof_9)
  rcases hlp_v hr with ⟨v, hT, hr1⟩ | ⟨E, hT, hr1⟩
  · rw [hT] at hcall
    refine x_ret (rest := [.int 0, .ref (ad G 2017 0)]) (st2 := [.int v, .int 0, .ref (ad G 2017 0)]) (pc2 := 12) (cu2 := 5) (su2 := 30) hcall rfl rfl rfl rfl ?_
    refine z_i2l (pc2 := 13) C dL_proof_12 rfl ?_
    refine z_last (pc2 := 14) C hdo dL_proof_13 rfl (nI_in (c := 0) (N := 1) (by decide) (by decide)) rfl ?_
    refine z_goto (tgt := 25) C dL_proof_14 (by decide) ?_
    refine z_iconst (pc2 := 26) (v := 0) C dL_proof_25 rfl rfl ?_
    exact h_ireturn D dL_proof_26 (Nat.le_of_ble_eq_true rfl) (Nat.le_of_ble_eq_true rfl) (by rw [hr1]) (by rw [hr1]; rfl)
  · rw [hT] at hcall
    rcases hcd2 hr1 with ⟨rfl, hr2⟩ | ⟨rfl, hr2⟩
    · skip
      refine h_catch D hcall xio_c [] ⟨0, 14, 17, 13⟩ [⟨0, 14, 21, 17⟩] rfl (fun U hN z hz => absurd hz List.not_mem_nil) rfl (by decide) kn_L_13 (cu2 := 5) (su2 := 30) rfl rfl (pc2 := 17) rfl (fun q => ?_)
      refine z_astore (pc2 := 19) (lv2 := [(6, .ref q), (0, .ref (ad G 10 0)), (1, .int x1), (2, .int x2), (3, .int x3), (4, .int x4), (5, .ref (ad G 2017 0))]) C dL_proof_17 (by decide) rfl rfl ?_
      refine z_iconst (pc2 := 20) (v := 1) C dL_proof_19 rfl rfl ?_
      exact h_ireturn D dL_proof_20 (Nat.le_of_ble_eq_true rfl) (Nat.le_of_ble_eq_true rfl) (by rw [hr2]) (by rw [hr2])
    · skip
      refine h_catch D hcall xis_c [⟨0, 14, 17, 13⟩] ⟨0, 14, 21, 17⟩ [] rfl (fun U hN => List.forall_mem_cons.mpr ⟨⟨by decide, xIO, kn_L_13, hN.2.1⟩, fun z hz => absurd hz List.not_mem_nil⟩) rfl (by decide) kn_L_17 (cu2 := 5) (su2 := 30) rfl rfl (pc2 := 21) rfl (fun q => ?_)
      refine z_astore (pc2 := 23) (lv2 := [(6, .ref q), (0, .ref (ad G 10 0)), (1, .int x1), (2, .int x2), (3, .int x3), (4, .int x4), (5, .ref (ad G 2017 0))]) C dL_proof_21 (by decide) rfl rfl ?_
      refine z_iconst (pc2 := 24) (v := 2) C dL_proof_23 rfl rfl ?_
      exact h_ireturn D dL_proof_24 (Nat.le_of_ble_eq_true rfl) (Nat.le_of_ble_eq_true rfl) (by rw [hr2]) (by rw [hr2])
set_option maxRecDepth 100000 in
theorem kmL_proves : XMSH yL_proves cL_proves 11 [(0, 29, 32, 13), (0, 29, 36, 15)] 10 := ⟨lw_in5 102 (by decide +kernel) rfl, lw_in1 0 (by decide +kernel) rfl, lw_in5 103 rfl rfl, by decide +kernel⟩
set_option maxRecDepth 20000 in
theorem hL_proves {G : XG} (hok : XK G) {x1 : Int32} {x2 : Int32} {x3 : Int32} {x4 : Int32} {x5 : Int32} {x6 : Int32} {x7 : Int32} {x8 : Int32} {Ω : XO} (hd0 : dm G 10 0) (hdo : dm G 2017 0)  {r : Int32 × XO} (hr : hlp true [xIO, xIA] (fX10_proves Ω 0 x1 x2 x3 x4 x5 x6 x7 x8).1 (fX10_proves Ω 0 x1 x2 x3 x4 x5 x6 x7 x8).2 = some r) : XMH G yL_proves cL_proves 11 [(0, 29, 32, 13), (0, 29, 36, 15)] (RM 9 8) [.ref (ad G 10 0), .int x1, .int x2, .int x3, .int x4, .int x5, .int x6, .int x7, .int x8, .ref (ad G 2017 0)] Ω r.1 r.2 := by
  refine h_start (lv := [(0, .ref (ad G 10 0)), (1, .int x1), (2, .int x2), (3, .int x3), (4, .int x4), (5, .int x5), (6, .int x6), (7, .int x7), (8, .int x8), (9, .ref (ad G 2017 0))]) (own := RL) hok (by decide +kernel) rfl kmL_proves.2.2.1 (Nat.le_of_ble_eq_true rfl) rfl (fun B D => ?_)
  have C := D.z
  refine z_aload (pc2 := 2) C dL_proves_0 9 rfl rfl ?_
  refine z_iconst (pc2 := 3) (v := 0) C dL_proves_2 rfl rfl ?_
  refine z_aload_n (pc2 := 4) C dL_proves_3 0 rfl rfl rfl ?_
  refine z_iload_n (pc2 := 5) C dL_proves_4 1 rfl rfl rfl ?_
  refine z_iload_n (pc2 := 6) C dL_proves_5 2 rfl rfl rfl ?_
  refine z_iload_n (pc2 := 7) C dL_proves_6 3 rfl rfl rfl ?_
  refine z_iload (pc2 := 9) C dL_proves_7 4 rfl rfl ?_
  refine z_iload (pc2 := 11) C dL_proves_9 5 rfl rfl ?_
  refine z_iload (pc2 := 13) C dL_proves_11 6 rfl rfl ?_
  refine z_iload (pc2 := 15) C dL_proves_13 7 rfl rfl ?_
  refine z_iload (pc2 := 17) C dL_proves_15 8 rfl rfl ?_
  have hcall : XR G B 11 17 [(0, .ref (ad G 10 0)), (1, .int x1), (2, .int x2), (3, .int x3), (4, .int x4), (5, .int x5), (6, .int x6), (7, .int x7), (8, .int x8), (9, .ref (ad G 2017 0))] _ [.int 0, .ref (ad G 2017 0)] Ω 0 0 8 48 (fX10_proves Ω 0 x1 x2 x3 x4 x5 x6 x7 x8).1 (fX10_proves Ω 0 x1 x2 x3 x4 x5 x6 x7 x8).2 := (z_cV (rest := [.int 0, .ref (ad G 2017 0)]) C hd0 (Nat.le_of_ble_eq_true rfl) kmX10_proves rfl kk_L_84 (tX10_proves hok hd0) rfl rfl (Nat.le_of_ble_eq_true rfl) ⟨(Nat.le_of_ble_eq_true rfl), (Nat.le_of_ble_eq_true rfl)⟩ ⟨(Nat.le_of_ble_eq_true rfl), (Nat.le_of_ble_eq_true rfl)⟩ dL_proves_17)
  rcases hlp_v hr with ⟨v, hT, hr1⟩ | ⟨E, hT, hr1⟩
  · rw [hT] at hcall
    refine x_ret (rest := [.int 0, .ref (ad G 2017 0)]) (st2 := [.int v, .int 0, .ref (ad G 2017 0)]) (pc2 := 20) (cu2 := 8) (su2 := 48) hcall rfl rfl rfl rfl ?_
    refine z_if_eq (tgt := 27) (pc2 := 23) C dL_proves_20 (by decide) rfl (fun qc => ?_) (fun qc => ?_)
    · skip
      refine z_lconst (pc2 := 28) (v := 0) C dL_proves_27 rfl rfl ?_
      refine z_last (pc2 := 29) C hdo dL_proves_28 rfl (nI_in (c := 0) (N := 1) (by decide) (by decide)) rfl ?_
      refine z_goto (tgt := 40) C dL_proves_29 (by decide) ?_
      refine z_iconst (pc2 := 41) (v := 0) C dL_proves_40 rfl rfl ?_
      exact h_ireturn D dL_proves_41 (Nat.le_of_ble_eq_true rfl) (Nat.le_of_ble_eq_true rfl) (by rw [hr1]) (by rw [hr1]; rw [if_pos rfl, if_pos qc]; rfl)
    · skip
      refine z_lconst (pc2 := 24) (v := 1) C dL_proves_23 rfl rfl ?_
      refine z_goto (tgt := 28) C dL_proves_24 (by decide) ?_
      refine z_last (pc2 := 29) C hdo dL_proves_28 rfl (nI_in (c := 0) (N := 1) (by decide) (by decide)) rfl ?_
      refine z_goto (tgt := 40) C dL_proves_29 (by decide) ?_
      refine z_iconst (pc2 := 41) (v := 0) C dL_proves_40 rfl rfl ?_
      exact h_ireturn D dL_proves_41 (Nat.le_of_ble_eq_true rfl) (Nat.le_of_ble_eq_true rfl) (by rw [hr1]) (by rw [hr1]; rw [if_pos rfl, if_neg qc]; rfl)
  · rw [hT] at hcall
    rcases hcd2 hr1 with ⟨rfl, hr2⟩ | ⟨rfl, hr2⟩
    · skip
      refine h_catch D hcall xio_c [] ⟨0, 29, 32, 13⟩ [⟨0, 29, 36, 15⟩] rfl (fun U hN z hz => absurd hz List.not_mem_nil) rfl (by decide) kn_L_13 (cu2 := 8) (su2 := 48) rfl rfl (pc2 := 32) rfl (fun q => ?_)
      refine z_astore (pc2 := 34) (lv2 := [(10, .ref q), (0, .ref (ad G 10 0)), (1, .int x1), (2, .int x2), (3, .int x3), (4, .int x4), (5, .int x5), (6, .int x6), (7, .int x7), (8, .int x8), (9, .ref (ad G 2017 0))]) C dL_proves_32 (by decide) rfl rfl ?_
      refine z_iconst (pc2 := 35) (v := 1) C dL_proves_34 rfl rfl ?_
      exact h_ireturn D dL_proves_35 (Nat.le_of_ble_eq_true rfl) (Nat.le_of_ble_eq_true rfl) (by rw [hr2]) (by rw [hr2])
    · skip
      refine h_catch D hcall xia_c [⟨0, 29, 32, 13⟩] ⟨0, 29, 36, 15⟩ [] rfl (fun U hN => List.forall_mem_cons.mpr ⟨⟨by decide, xIO, kn_L_13, hN.1⟩, fun z hz => absurd hz List.not_mem_nil⟩) rfl (by decide) kn_L_15 (cu2 := 8) (su2 := 48) rfl rfl (pc2 := 36) rfl (fun q => ?_)
      refine z_astore (pc2 := 38) (lv2 := [(10, .ref q), (0, .ref (ad G 10 0)), (1, .int x1), (2, .int x2), (3, .int x3), (4, .int x4), (5, .int x5), (6, .int x6), (7, .int x7), (8, .int x8), (9, .ref (ad G 2017 0))]) C dL_proves_36 (by decide) rfl rfl ?_
      refine z_iconst (pc2 := 39) (v := 2) C dL_proves_38 rfl rfl ?_
      exact h_ireturn D dL_proves_39 (Nat.le_of_ble_eq_true rfl) (Nat.le_of_ble_eq_true rfl) (by rw [hr2]) (by rw [hr2])
set_option maxRecDepth 100000 in
theorem kmL_prune : XMSH yL_prune cL_prune 4 [(0, 9, 12, 13)] 3 := ⟨lw_in5 113 (by decide +kernel) rfl, lw_in1 0 (by decide +kernel) rfl, lw_in5 114 rfl rfl, by decide +kernel⟩
set_option maxRecDepth 20000 in
theorem hL_prune {G : XG} (hok : XK G) {x1 : Int32} {Ω : XO} (hd0 : dm G 10 0) (hdo : dm G 2017 0)  {r : Int32 × XO} (hr : hlp false [xIO] (fX10_prune Ω 0 x1).1 (fX10_prune Ω 0 x1).2 = some r) : XMH G yL_prune cL_prune 4 [(0, 9, 12, 13)] (RM 8 1) [.ref (ad G 10 0), .int x1, .ref (ad G 2017 0)] Ω r.1 r.2 := by
  refine h_start (lv := [(0, .ref (ad G 10 0)), (1, .int x1), (2, .ref (ad G 2017 0))]) (own := RL) hok (by decide +kernel) rfl kmL_prune.2.2.1 (Nat.le_of_ble_eq_true rfl) rfl (fun B D => ?_)
  have C := D.z
  refine z_aload_n (pc2 := 1) C dL_prune_0 2 rfl rfl rfl ?_
  refine z_iconst (pc2 := 2) (v := 0) C dL_prune_1 rfl rfl ?_
  refine z_aload_n (pc2 := 3) C dL_prune_2 0 rfl rfl rfl ?_
  refine z_iload_n (pc2 := 4) C dL_prune_3 1 rfl rfl rfl ?_
  have hcall : XR G B 4 4 [(0, .ref (ad G 10 0)), (1, .int x1), (2, .ref (ad G 2017 0))] _ [.int 0, .ref (ad G 2017 0)] Ω 0 0 1 6 (fX10_prune Ω 0 x1).1 (fX10_prune Ω 0 x1).2 := (z_cV (rest := [.int 0, .ref (ad G 2017 0)]) C hd0 (Nat.le_of_ble_eq_true rfl) kmX10_prune rfl kk_L_88 (tX10_prune hok hd0) rfl rfl (Nat.le_of_ble_eq_true rfl) ⟨(Nat.le_of_ble_eq_true rfl), (Nat.le_of_ble_eq_true rfl)⟩ ⟨(Nat.le_of_ble_eq_true rfl), (Nat.le_of_ble_eq_true rfl)⟩ dL_prune_4)
  rcases hlp_v hr with ⟨v, hT, hr1⟩ | ⟨E, hT, hr1⟩
  · rw [hT] at hcall
    refine x_ret (rest := [.int 0, .ref (ad G 2017 0)]) (st2 := [.int v, .int 0, .ref (ad G 2017 0)]) (pc2 := 7) (cu2 := 1) (su2 := 6) hcall rfl rfl rfl rfl ?_
    refine z_i2l (pc2 := 8) C dL_prune_7 rfl ?_
    refine z_last (pc2 := 9) C hdo dL_prune_8 rfl (nI_in (c := 0) (N := 1) (by decide) (by decide)) rfl ?_
    refine z_goto (tgt := 15) C dL_prune_9 (by decide) ?_
    refine z_iconst (pc2 := 16) (v := 0) C dL_prune_15 rfl rfl ?_
    exact h_ireturn D dL_prune_16 (Nat.le_of_ble_eq_true rfl) (Nat.le_of_ble_eq_true rfl) (by rw [hr1]) (by rw [hr1]; rfl)
  · rw [hT] at hcall
    obtain ⟨rfl, hr2⟩ := hcd1 hr1
    refine h_catch D hcall xio_c [] ⟨0, 9, 12, 13⟩ [] rfl (fun U hN z hz => absurd hz List.not_mem_nil) rfl (by decide) kn_L_13 (cu2 := 1) (su2 := 6) rfl rfl (pc2 := 12) rfl (fun q => ?_)
    refine z_astore_n (pc2 := 13) (lv2 := [(3, .ref q), (0, .ref (ad G 10 0)), (1, .int x1), (2, .ref (ad G 2017 0))]) C dL_prune_12 rfl (by decide) rfl rfl ?_
    refine z_iconst (pc2 := 14) (v := 1) C dL_prune_13 rfl rfl ?_
    exact h_ireturn D dL_prune_14 (Nat.le_of_ble_eq_true rfl) (Nat.le_of_ble_eq_true rfl) (by rw [hr2]) (by rw [hr2])
set_option maxRecDepth 100000 in
theorem kmL_vote : XMSH yL_vote cL_vote 7 [(0, 21, 24, 13), (0, 21, 28, 15), (0, 21, 32, 17)] 6 := ⟨lw_in5 124 (by decide +kernel) rfl, lw_in1 0 (by decide +kernel) rfl, lw_in5 125 rfl rfl, by decide +kernel⟩
set_option maxRecDepth 20000 in
theorem hL_vote {G : XG} (hok : XK G) {x1 : Int32} {x2 : Int32} {x3 : Int32} {x4 : Int32} {Ω : XO} (hd0 : dm G 10 0) (hdo : dm G 2017 0) {r0 : (Option Value ⊕ String) × XO} (hf : fX10_vote Ω x1 x2 x3 x4 = some r0) {r : Int32 × XO} (hr : hlp true [xIO, xIA, xIS] r0.1 r0.2 = some r) : XMH G yL_vote cL_vote 7 [(0, 21, 24, 13), (0, 21, 28, 15), (0, 21, 32, 17)] (RM 9 8) [.ref (ad G 10 0), .int x1, .int x2, .int x3, .int x4, .ref (ad G 2017 0)] Ω r.1 r.2 := by
  refine h_start (lv := [(0, .ref (ad G 10 0)), (1, .int x1), (2, .int x2), (3, .int x3), (4, .int x4), (5, .ref (ad G 2017 0))]) (own := RL) hok (by decide +kernel) rfl kmL_vote.2.2.1 (Nat.le_of_ble_eq_true rfl) rfl (fun B D => ?_)
  have C := D.z
  refine z_aload (pc2 := 2) C dL_vote_0 5 rfl rfl ?_
  refine z_iconst (pc2 := 3) (v := 0) C dL_vote_2 rfl rfl ?_
  refine z_aload_n (pc2 := 4) C dL_vote_3 0 rfl rfl rfl ?_
  refine z_iload_n (pc2 := 5) C dL_vote_4 1 rfl rfl rfl ?_
  refine z_iload_n (pc2 := 6) C dL_vote_5 2 rfl rfl rfl ?_
  refine z_iload_n (pc2 := 7) C dL_vote_6 3 rfl rfl rfl ?_
  refine z_iload (pc2 := 9) C dL_vote_7 4 rfl rfl ?_
  have hcall : XR G B 7 9 [(0, .ref (ad G 10 0)), (1, .int x1), (2, .int x2), (3, .int x3), (4, .int x4), (5, .ref (ad G 2017 0))] _ [.int 0, .ref (ad G 2017 0)] Ω 0 0 8 48 r0.1 r0.2 := (z_cV (rest := [.int 0, .ref (ad G 2017 0)]) C hd0 (Nat.le_of_ble_eq_true rfl) kmX10_vote rfl kk_L_91 (tX10_vote hok hd0 hf) rfl rfl (Nat.le_of_ble_eq_true rfl) ⟨(Nat.le_of_ble_eq_true rfl), (Nat.le_of_ble_eq_true rfl)⟩ ⟨(Nat.le_of_ble_eq_true rfl), (Nat.le_of_ble_eq_true rfl)⟩ dL_vote_9)
  rcases hlp_v hr with ⟨v, hT, hr1⟩ | ⟨E, hT, hr1⟩
  · rw [hT] at hcall
    refine x_ret (rest := [.int 0, .ref (ad G 2017 0)]) (st2 := [.int v, .int 0, .ref (ad G 2017 0)]) (pc2 := 12) (cu2 := 8) (su2 := 48) hcall rfl rfl rfl rfl ?_
    refine z_if_eq (tgt := 19) (pc2 := 15) C dL_vote_12 (by decide) rfl (fun qc => ?_) (fun qc => ?_)
    · skip
      refine z_lconst (pc2 := 20) (v := 0) C dL_vote_19 rfl rfl ?_
      refine z_last (pc2 := 21) C hdo dL_vote_20 rfl (nI_in (c := 0) (N := 1) (by decide) (by decide)) rfl ?_
      refine z_goto (tgt := 36) C dL_vote_21 (by decide) ?_
      refine z_iconst (pc2 := 37) (v := 0) C dL_vote_36 rfl rfl ?_
      exact h_ireturn D dL_vote_37 (Nat.le_of_ble_eq_true rfl) (Nat.le_of_ble_eq_true rfl) (by rw [hr1]) (by rw [hr1]; rw [if_pos rfl, if_pos qc]; rfl)
    · skip
      refine z_lconst (pc2 := 16) (v := 1) C dL_vote_15 rfl rfl ?_
      refine z_goto (tgt := 20) C dL_vote_16 (by decide) ?_
      refine z_last (pc2 := 21) C hdo dL_vote_20 rfl (nI_in (c := 0) (N := 1) (by decide) (by decide)) rfl ?_
      refine z_goto (tgt := 36) C dL_vote_21 (by decide) ?_
      refine z_iconst (pc2 := 37) (v := 0) C dL_vote_36 rfl rfl ?_
      exact h_ireturn D dL_vote_37 (Nat.le_of_ble_eq_true rfl) (Nat.le_of_ble_eq_true rfl) (by rw [hr1]) (by rw [hr1]; rw [if_pos rfl, if_neg qc]; rfl)
  · rw [hT] at hcall
    rcases hcd3 hr1 with ⟨rfl, hr2⟩ | ⟨rfl, hr2⟩ | ⟨rfl, hr2⟩
    · skip
      refine h_catch D hcall xio_c [] ⟨0, 21, 24, 13⟩ [⟨0, 21, 28, 15⟩, ⟨0, 21, 32, 17⟩] rfl (fun U hN z hz => absurd hz List.not_mem_nil) rfl (by decide) kn_L_13 (cu2 := 8) (su2 := 48) rfl rfl (pc2 := 24) rfl (fun q => ?_)
      refine z_astore (pc2 := 26) (lv2 := [(6, .ref q), (0, .ref (ad G 10 0)), (1, .int x1), (2, .int x2), (3, .int x3), (4, .int x4), (5, .ref (ad G 2017 0))]) C dL_vote_24 (by decide) rfl rfl ?_
      refine z_iconst (pc2 := 27) (v := 1) C dL_vote_26 rfl rfl ?_
      exact h_ireturn D dL_vote_27 (Nat.le_of_ble_eq_true rfl) (Nat.le_of_ble_eq_true rfl) (by rw [hr2]) (by rw [hr2])
    · skip
      refine h_catch D hcall xia_c [⟨0, 21, 24, 13⟩] ⟨0, 21, 28, 15⟩ [⟨0, 21, 32, 17⟩] rfl (fun U hN => List.forall_mem_cons.mpr ⟨⟨by decide, xIO, kn_L_13, hN.1⟩, fun z hz => absurd hz List.not_mem_nil⟩) rfl (by decide) kn_L_15 (cu2 := 8) (su2 := 48) rfl rfl (pc2 := 28) rfl (fun q => ?_)
      refine z_astore (pc2 := 30) (lv2 := [(6, .ref q), (0, .ref (ad G 10 0)), (1, .int x1), (2, .int x2), (3, .int x3), (4, .int x4), (5, .ref (ad G 2017 0))]) C dL_vote_28 (by decide) rfl rfl ?_
      refine z_iconst (pc2 := 31) (v := 2) C dL_vote_30 rfl rfl ?_
      exact h_ireturn D dL_vote_31 (Nat.le_of_ble_eq_true rfl) (Nat.le_of_ble_eq_true rfl) (by rw [hr2]) (by rw [hr2])
    · skip
      refine h_catch D hcall xis_c [⟨0, 21, 24, 13⟩, ⟨0, 21, 28, 15⟩] ⟨0, 21, 32, 17⟩ [] rfl (fun U hN => List.forall_mem_cons.mpr ⟨⟨by decide, xIO, kn_L_13, hN.2.1⟩, List.forall_mem_cons.mpr ⟨⟨by decide, xIA, kn_L_15, hN.2.2⟩, fun z hz => absurd hz List.not_mem_nil⟩⟩) rfl (by decide) kn_L_17 (cu2 := 8) (su2 := 48) rfl rfl (pc2 := 32) rfl (fun q => ?_)
      refine z_astore (pc2 := 34) (lv2 := [(6, .ref q), (0, .ref (ad G 10 0)), (1, .int x1), (2, .int x2), (3, .int x3), (4, .int x4), (5, .ref (ad G 2017 0))]) C dL_vote_32 (by decide) rfl rfl ?_
      refine z_iconst (pc2 := 35) (v := 3) C dL_vote_34 rfl rfl ?_
      exact h_ireturn D dL_vote_35 (Nat.le_of_ble_eq_true rfl) (Nat.le_of_ble_eq_true rfl) (by rw [hr2]) (by rw [hr2])
set_option maxRecDepth 100000 in
theorem kmL_isJustified : XMSH yL_isJustified cL_isJustified 5 [(0, 17, 20, 13)] 4 := ⟨lw_in5 195 (by decide +kernel) rfl, lw_in1 0 (by decide +kernel) rfl, lw_in5 196 rfl rfl, by decide +kernel⟩
set_option maxRecDepth 20000 in
theorem hL_isJustified {G : XG} (hok : XK G) {x1 : Int32} {x2 : Int32} {Ω : XO} (hd0 : dm G 10 0) (hdo : dm G 2017 0) {r0 : (Option Value ⊕ String) × XO} (hf : fX10_isJustified Ω x1 x2 = some r0) {r : Int32 × XO} (hr : hlp true [xIO] r0.1 r0.2 = some r) : XMH G yL_isJustified cL_isJustified 5 [(0, 17, 20, 13)] (RM 9 2) [.ref (ad G 10 0), .int x1, .int x2, .ref (ad G 2017 0)] Ω r.1 r.2 := by
  refine h_start (lv := [(0, .ref (ad G 10 0)), (1, .int x1), (2, .int x2), (3, .ref (ad G 2017 0))]) (own := RL) hok (by decide +kernel) rfl kmL_isJustified.2.2.1 (Nat.le_of_ble_eq_true rfl) rfl (fun B D => ?_)
  have C := D.z
  refine z_aload_n (pc2 := 1) C dL_isJustified_0 3 rfl rfl rfl ?_
  refine z_iconst (pc2 := 2) (v := 0) C dL_isJustified_1 rfl rfl ?_
  refine z_aload_n (pc2 := 3) C dL_isJustified_2 0 rfl rfl rfl ?_
  refine z_iload_n (pc2 := 4) C dL_isJustified_3 1 rfl rfl rfl ?_
  refine z_iload_n (pc2 := 5) C dL_isJustified_4 2 rfl rfl rfl ?_
  have hcall : XR G B 5 5 [(0, .ref (ad G 10 0)), (1, .int x1), (2, .int x2), (3, .ref (ad G 2017 0))] _ [.int 0, .ref (ad G 2017 0)] Ω 0 0 2 12 r0.1 r0.2 := (z_cV (rest := [.int 0, .ref (ad G 2017 0)]) C hd0 (Nat.le_of_ble_eq_true rfl) kmX10_isJustified rfl kk_L_95 (tX10_isJustified hok hd0 hf) rfl rfl (Nat.le_of_ble_eq_true rfl) ⟨(Nat.le_of_ble_eq_true rfl), (Nat.le_of_ble_eq_true rfl)⟩ ⟨(Nat.le_of_ble_eq_true rfl), (Nat.le_of_ble_eq_true rfl)⟩ dL_isJustified_5)
  rcases hlp_v hr with ⟨v, hT, hr1⟩ | ⟨E, hT, hr1⟩
  · rw [hT] at hcall
    refine x_ret (rest := [.int 0, .ref (ad G 2017 0)]) (st2 := [.int v, .int 0, .ref (ad G 2017 0)]) (pc2 := 8) (cu2 := 2) (su2 := 12) hcall rfl rfl rfl rfl ?_
    refine z_if_eq (tgt := 15) (pc2 := 11) C dL_isJustified_8 (by decide) rfl (fun qc => ?_) (fun qc => ?_)
    · skip
      refine z_lconst (pc2 := 16) (v := 0) C dL_isJustified_15 rfl rfl ?_
      refine z_last (pc2 := 17) C hdo dL_isJustified_16 rfl (nI_in (c := 0) (N := 1) (by decide) (by decide)) rfl ?_
      refine z_goto (tgt := 24) C dL_isJustified_17 (by decide) ?_
      refine z_iconst (pc2 := 25) (v := 0) C dL_isJustified_24 rfl rfl ?_
      exact h_ireturn D dL_isJustified_25 (Nat.le_of_ble_eq_true rfl) (Nat.le_of_ble_eq_true rfl) (by rw [hr1]) (by rw [hr1]; rw [if_pos rfl, if_pos qc]; rfl)
    · skip
      refine z_lconst (pc2 := 12) (v := 1) C dL_isJustified_11 rfl rfl ?_
      refine z_goto (tgt := 16) C dL_isJustified_12 (by decide) ?_
      refine z_last (pc2 := 17) C hdo dL_isJustified_16 rfl (nI_in (c := 0) (N := 1) (by decide) (by decide)) rfl ?_
      refine z_goto (tgt := 24) C dL_isJustified_17 (by decide) ?_
      refine z_iconst (pc2 := 25) (v := 0) C dL_isJustified_24 rfl rfl ?_
      exact h_ireturn D dL_isJustified_25 (Nat.le_of_ble_eq_true rfl) (Nat.le_of_ble_eq_true rfl) (by rw [hr1]) (by rw [hr1]; rw [if_pos rfl, if_neg qc]; rfl)
  · rw [hT] at hcall
    obtain ⟨rfl, hr2⟩ := hcd1 hr1
    refine h_catch D hcall xio_c [] ⟨0, 17, 20, 13⟩ [] rfl (fun U hN z hz => absurd hz List.not_mem_nil) rfl (by decide) kn_L_13 (cu2 := 2) (su2 := 12) rfl rfl (pc2 := 20) rfl (fun q => ?_)
    refine z_astore (pc2 := 22) (lv2 := [(4, .ref q), (0, .ref (ad G 10 0)), (1, .int x1), (2, .int x2), (3, .ref (ad G 2017 0))]) C dL_isJustified_20 (by decide) rfl rfl ?_
    refine z_iconst (pc2 := 23) (v := 1) C dL_isJustified_22 rfl rfl ?_
    exact h_ireturn D dL_isJustified_23 (Nat.le_of_ble_eq_true rfl) (Nat.le_of_ble_eq_true rfl) (by rw [hr2]) (by rw [hr2])
set_option maxRecDepth 100000 in
theorem kmL_lastFinal : XMSH yL_lastFinal cL_lastFinal 4 [(0, 9, 12, 13)] 3 := ⟨lw_in5 202 (by decide +kernel) rfl, lw_in1 0 (by decide +kernel) rfl, lw_in5 203 rfl rfl, by decide +kernel⟩
set_option maxRecDepth 20000 in
theorem hL_lastFinal {G : XG} (hok : XK G) {x1 : Int32} {Ω : XO} (hd0 : dm G 10 0) (hdo : dm G 2017 0)  {r : Int32 × XO} (hr : hlp false [xIO] (fX10_lastFinal Ω 0 x1).1 (fX10_lastFinal Ω 0 x1).2 = some r) : XMH G yL_lastFinal cL_lastFinal 4 [(0, 9, 12, 13)] (RM 8 1) [.ref (ad G 10 0), .int x1, .ref (ad G 2017 0)] Ω r.1 r.2 := by
  refine h_start (lv := [(0, .ref (ad G 10 0)), (1, .int x1), (2, .ref (ad G 2017 0))]) (own := RL) hok (by decide +kernel) rfl kmL_lastFinal.2.2.1 (Nat.le_of_ble_eq_true rfl) rfl (fun B D => ?_)
  have C := D.z
  refine z_aload_n (pc2 := 1) C dL_lastFinal_0 2 rfl rfl rfl ?_
  refine z_iconst (pc2 := 2) (v := 0) C dL_lastFinal_1 rfl rfl ?_
  refine z_aload_n (pc2 := 3) C dL_lastFinal_2 0 rfl rfl rfl ?_
  refine z_iload_n (pc2 := 4) C dL_lastFinal_3 1 rfl rfl rfl ?_
  have hcall : XR G B 4 4 [(0, .ref (ad G 10 0)), (1, .int x1), (2, .ref (ad G 2017 0))] _ [.int 0, .ref (ad G 2017 0)] Ω 0 0 1 6 (fX10_lastFinal Ω 0 x1).1 (fX10_lastFinal Ω 0 x1).2 := (z_cV (rest := [.int 0, .ref (ad G 2017 0)]) C hd0 (Nat.le_of_ble_eq_true rfl) kmX10_lastFinal rfl kk_L_99 (tX10_lastFinal hok hd0) rfl rfl (Nat.le_of_ble_eq_true rfl) ⟨(Nat.le_of_ble_eq_true rfl), (Nat.le_of_ble_eq_true rfl)⟩ ⟨(Nat.le_of_ble_eq_true rfl), (Nat.le_of_ble_eq_true rfl)⟩ dL_lastFinal_4)
  rcases hlp_v hr with ⟨v, hT, hr1⟩ | ⟨E, hT, hr1⟩
  · rw [hT] at hcall
    refine x_ret (rest := [.int 0, .ref (ad G 2017 0)]) (st2 := [.int v, .int 0, .ref (ad G 2017 0)]) (pc2 := 7) (cu2 := 1) (su2 := 6) hcall rfl rfl rfl rfl ?_
    refine z_i2l (pc2 := 8) C dL_lastFinal_7 rfl ?_
    refine z_last (pc2 := 9) C hdo dL_lastFinal_8 rfl (nI_in (c := 0) (N := 1) (by decide) (by decide)) rfl ?_
    refine z_goto (tgt := 15) C dL_lastFinal_9 (by decide) ?_
    refine z_iconst (pc2 := 16) (v := 0) C dL_lastFinal_15 rfl rfl ?_
    exact h_ireturn D dL_lastFinal_16 (Nat.le_of_ble_eq_true rfl) (Nat.le_of_ble_eq_true rfl) (by rw [hr1]) (by rw [hr1]; rfl)
  · rw [hT] at hcall
    obtain ⟨rfl, hr2⟩ := hcd1 hr1
    refine h_catch D hcall xio_c [] ⟨0, 9, 12, 13⟩ [] rfl (fun U hN z hz => absurd hz List.not_mem_nil) rfl (by decide) kn_L_13 (cu2 := 1) (su2 := 6) rfl rfl (pc2 := 12) rfl (fun q => ?_)
    refine z_astore_n (pc2 := 13) (lv2 := [(3, .ref q), (0, .ref (ad G 10 0)), (1, .int x1), (2, .ref (ad G 2017 0))]) C dL_lastFinal_12 rfl (by decide) rfl rfl ?_
    refine z_iconst (pc2 := 14) (v := 1) C dL_lastFinal_13 rfl rfl ?_
    exact h_ireturn D dL_lastFinal_14 (Nat.le_of_ble_eq_true rfl) (Nat.le_of_ble_eq_true rfl) (by rw [hr2]) (by rw [hr2])
set_option maxRecDepth 100000 in
theorem kmL_stake : XMSH yL_stake cL_stake 5 [(0, 10, 13, 13)] 4 := ⟨lw_in5 209 (by decide +kernel) rfl, lw_in1 0 (by decide +kernel) rfl, lw_in5 210 rfl rfl, by decide +kernel⟩
set_option maxRecDepth 20000 in
theorem hL_stake {G : XG} (hok : XK G) {x1 : Int32} {x2 : Int32} {Ω : XO} (hd0 : dm G 10 0) (hdo : dm G 2017 0)  {r : Int32 × XO} (hr : hlp false [xIO] (fX10_stake Ω 0 x1 x2).1 (fX10_stake Ω 0 x1 x2).2 = some r) : XMH G yL_stake cL_stake 5 [(0, 10, 13, 13)] (RM 8 2) [.ref (ad G 10 0), .int x1, .int x2, .ref (ad G 2017 0)] Ω r.1 r.2 := by
  refine h_start (lv := [(0, .ref (ad G 10 0)), (1, .int x1), (2, .int x2), (3, .ref (ad G 2017 0))]) (own := RL) hok (by decide +kernel) rfl kmL_stake.2.2.1 (Nat.le_of_ble_eq_true rfl) rfl (fun B D => ?_)
  have C := D.z
  refine z_aload_n (pc2 := 1) C dL_stake_0 3 rfl rfl rfl ?_
  refine z_iconst (pc2 := 2) (v := 0) C dL_stake_1 rfl rfl ?_
  refine z_aload_n (pc2 := 3) C dL_stake_2 0 rfl rfl rfl ?_
  refine z_iload_n (pc2 := 4) C dL_stake_3 1 rfl rfl rfl ?_
  refine z_iload_n (pc2 := 5) C dL_stake_4 2 rfl rfl rfl ?_
  have hcall : XR G B 5 5 [(0, .ref (ad G 10 0)), (1, .int x1), (2, .int x2), (3, .ref (ad G 2017 0))] _ [.int 0, .ref (ad G 2017 0)] Ω 0 0 2 12 (fX10_stake Ω 0 x1 x2).1 (fX10_stake Ω 0 x1 x2).2 := (z_cV (rest := [.int 0, .ref (ad G 2017 0)]) C hd0 (Nat.le_of_ble_eq_true rfl) kmX10_stake rfl kk_L_102 (tX10_stake hok hd0) rfl rfl (Nat.le_of_ble_eq_true rfl) ⟨(Nat.le_of_ble_eq_true rfl), (Nat.le_of_ble_eq_true rfl)⟩ ⟨(Nat.le_of_ble_eq_true rfl), (Nat.le_of_ble_eq_true rfl)⟩ dL_stake_5)
  rcases hlp_v hr with ⟨v, hT, hr1⟩ | ⟨E, hT, hr1⟩
  · rw [hT] at hcall
    refine x_ret (rest := [.int 0, .ref (ad G 2017 0)]) (st2 := [.int v, .int 0, .ref (ad G 2017 0)]) (pc2 := 8) (cu2 := 2) (su2 := 12) hcall rfl rfl rfl rfl ?_
    refine z_i2l (pc2 := 9) C dL_stake_8 rfl ?_
    refine z_last (pc2 := 10) C hdo dL_stake_9 rfl (nI_in (c := 0) (N := 1) (by decide) (by decide)) rfl ?_
    refine z_goto (tgt := 17) C dL_stake_10 (by decide) ?_
    refine z_iconst (pc2 := 18) (v := 0) C dL_stake_17 rfl rfl ?_
    exact h_ireturn D dL_stake_18 (Nat.le_of_ble_eq_true rfl) (Nat.le_of_ble_eq_true rfl) (by rw [hr1]) (by rw [hr1]; rfl)
  · rw [hT] at hcall
    obtain ⟨rfl, hr2⟩ := hcd1 hr1
    refine h_catch D hcall xio_c [] ⟨0, 10, 13, 13⟩ [] rfl (fun U hN z hz => absurd hz List.not_mem_nil) rfl (by decide) kn_L_13 (cu2 := 2) (su2 := 12) rfl rfl (pc2 := 13) rfl (fun q => ?_)
    refine z_astore (pc2 := 15) (lv2 := [(4, .ref q), (0, .ref (ad G 10 0)), (1, .int x1), (2, .int x2), (3, .ref (ad G 2017 0))]) C dL_stake_13 (by decide) rfl rfl ?_
    refine z_iconst (pc2 := 16) (v := 1) C dL_stake_15 rfl rfl ?_
    exact h_ireturn D dL_stake_16 (Nat.le_of_ble_eq_true rfl) (Nat.le_of_ble_eq_true rfl) (by rw [hr2]) (by rw [hr2])
