def fX11_effect (Ω : XO) (x1 : Int32) (x2 : Int32) : Option (XO) := (if inB x2 80 then (if inB x2 80 then (wl (uI Ω 1155 0 0 ((xI Ω 2116 0 x2.toNatClampNeg) - (20 : Int32))) (fun Ω_5 => (if inB x2 80 then (if (xI Ω_5 2113 0 x2.toNatClampNeg) = (24 : Int32) then (fX11_paysLock Ω_5 x1 x2).bind (fun r_43 => (if r_43.1 = 0 ∨ r_43.1 = 1 then (wl (uI r_43.2 1156 0 0 r_43.1) (fun Ω_45 => (some Ω_45))) else none)) else (if inB x2 80 then (if (xI Ω_5 2113 0 x2.toNatClampNeg) ≤ (15 : Int32) then (fX11_mark Ω_5 (0 : Int32)).bind (fun r_12 => (if inB x2 80 then (if inB x2 80 then (fX11_move r_12 (xI Ω 2111 0 x2.toNatClampNeg) (xI r_12 2113 0 x2.toNatClampNeg) (xI r_12 2114 0 x2.toNatClampNeg)).bind (fun r_17 => (wl (uI r_17 1156 0 0 (1 : Int32)) (fun Ω_18 => (if inB x2 80 then (if inB ((32 : Int32) + (xI Ω_18 2113 0 x2.toNatClampNeg)) 120 then (if (xI Ω_18 2101 0 ((32 : Int32) + (xI Ω_18 2113 0 x2.toNatClampNeg)).toNatClampNeg) = 0 then (some Ω_18) else (if inB x2 80 then (if inB x2 80 then (if inB x2 80 then (fX11_begin Ω_18 (xI Ω_18 2113 0 x2.toNatClampNeg) (xI Ω 2111 0 x2.toNatClampNeg) (xI Ω_18 2114 0 x2.toNatClampNeg) (xI Ω_18 2115 0 x2.toNatClampNeg) (xI Ω_18 1155 0 0)).bind (fun r_30 => (fX11_machine r_30).bind (fun r_31 => (some r_31))) else none) else none) else none)) else none) else none)))) else none) else none)) else (if inB x2 80 then (if inB x2 80 then (if inB x2 80 then (fX11_made Ω_5 (xI Ω 2111 0 x2.toNatClampNeg) (xI Ω_5 2112 0 x2.toNatClampNeg) ((xI Ω_5 2113 0 x2.toNatClampNeg) - (16 : Int32)) (xI Ω_5 2114 0 x2.toNatClampNeg)).bind (fun r_38 => (wl ((if r_38.1 < 0 then (0 : Int32) else (1 : Int32))) (fun (j_39 : Int32) => (if j_39 = 0 ∨ j_39 = 1 then (wl (uI r_38.2 1156 0 0 j_39) (fun Ω_42 => (some Ω_42))) else none)))) else none) else none) else none)) else none)) else none))) else none) else none)
set_option maxRecDepth 20000 in
theorem tX11_effect {G : XG} (hok : XK G) {x1 : Int32} {x2 : Int32} {Ω : XO} (hd0 : dm G 11 0)   {r : XO} (hf : fX11_effect Ω x1 x2 = some r) : XM G yX11_effect cX11_effect 4 none (RM 6 0) [.ref (ad G 11 0), .int x1, .int x2] Ω (.inl none) (r) := by
  refine x_start (lv := [(0, .ref (ad G 11 0)), (1, .int x1), (2, .int x2)]) (own := RX11) hok (by decide +kernel) rfl (Nat.le_of_ble_eq_true rfl) rfl (fun B C => ?_)
  refine x_aload_n (pc2 := 1) C dX11_effect_0 0 rfl rfl rfl ?_
  refine x_getR (f := 1111) (k2 := 2111) (pc2 := 4) C (by assumption) kf_11_40 dX11_effect_1 rfl rfl rfl (rti_i rfl) rfl (fun qd_1 => ?_)
  refine x_iload_n (pc2 := 5) C dX11_effect_4 2 rfl rfl rfl ?_
  rcases (Decidable.em (inB x2 80)).symm with qg_2 | qg_2
  · exact absurd hf (by rw [fX11_effect, if_neg qg_2]; exact nofun)
  refine x_iald (pc2 := 6) C (by assumption) dX11_effect_5 rfl (inB_in qg_2) rfl ?_
  refine x_istore_n (pc2 := 7) (lv2 := [(3, _), (0, _), (1, _), (2, _)]) C dX11_effect_6 rfl (by decide) rfl rfl ?_
  refine x_aload_n (pc2 := 8) C dX11_effect_7 1 rfl rfl rfl ?_
  refine x_aload_n (pc2 := 9) C dX11_effect_8 1 rfl rfl rfl ?_
  refine x_getR (f := 1116) (k2 := 2116) (pc2 := 12) C (by assumption) kf_11_55 dX11_effect_9 rfl rfl rfl (rti_i rfl) rfl (fun qd_3 => ?_)
  refine x_iload_n (pc2 := 13) C dX11_effect_12 3 rfl rfl rfl ?_
  rcases (Decidable.em (inB x2 80)).symm with qg_4 | qg_4
  · exact absurd hf (by rw [fX11_effect, if_pos qg_2, if_neg qg_4]; exact nofun)
  refine x_iald (pc2 := 14) C (by assumption) dX11_effect_13 rfl (inB_in qg_4) rfl ?_
  refine x_bipush (pc2 := 16) (v := 20) C dX11_effect_14 rfl rfl ?_
  refine x_isub (pc2 := 17) C dX11_effect_16 rfl ?_
  refine x_putI (pc2 := 20) (f := 1155) C (by assumption) kf_11_264 dX11_effect_17 rfl rfl rfl rfl rfl ?_
  obtain ⟨Ω_5, hw_5⟩ : ∃ z, z = uI Ω 1155 0 0 ((xI Ω 2116 0 x2.toNatClampNeg) - (20 : Int32)) := ⟨_, rfl⟩
  refine x_om hw_5 ?_
  refine x_aload_n (pc2 := 21) C dX11_effect_20 1 rfl rfl rfl ?_
  refine x_getR (f := 1113) (k2 := 2113) (pc2 := 24) C (by assumption) kf_11_46 dX11_effect_21 rfl rfl rfl (rti_i rfl) rfl (fun qd_6 => ?_)
  refine x_iload_n (pc2 := 25) C dX11_effect_24 3 rfl rfl rfl ?_
  rcases (Decidable.em (inB x2 80)).symm with qg_7 | qg_7
  · exact absurd hf (by rw [fX11_effect, if_pos qg_2, if_pos qg_4, wl_eq hw_5, if_neg qg_7]; exact nofun)
  refine x_iald (pc2 := 26) C (by assumption) dX11_effect_25 rfl (inB_in qg_7) rfl ?_
  refine x_bipush (pc2 := 28) (v := 24) C dX11_effect_26 rfl rfl ?_
  refine x_icmp_ne (tgt := 44) (pc2 := 31) C dX11_effect_28 (by decide) rfl (fun qc_8 => ?_) (fun qc_8 => ?_)
  · refine x_aload_n (pc2 := 45) C dX11_effect_44 1 rfl rfl rfl ?_
    refine x_getR (f := 1113) (k2 := 2113) (pc2 := 48) C (by assumption) kf_11_46 dX11_effect_45 rfl rfl rfl (rti_i rfl) rfl (fun qd_9 => ?_)
    refine x_iload_n (pc2 := 49) C dX11_effect_48 3 rfl rfl rfl ?_
    rcases (Decidable.em (inB x2 80)).symm with qg_10 | qg_10
    · exact absurd hf (by rw [fX11_effect, if_pos qg_2, if_pos qg_4, wl_eq hw_5, if_pos qg_7, if_neg qc_8, if_neg qg_10]; exact nofun)
    refine x_iald (pc2 := 50) C (by assumption) dX11_effect_49 rfl (inB_in qg_10) rfl ?_
    refine x_bipush (pc2 := 52) (v := 15) C dX11_effect_50 rfl rfl ?_
    refine x_icmp_le (tgt := 96) (pc2 := 55) C dX11_effect_52 (by decide) rfl (fun qc_11 => ?_) (fun qc_11 => ?_)
    · refine x_aload_n (pc2 := 97) C dX11_effect_96 1 rfl rfl rfl ?_
      refine x_iconst (pc2 := 98) (v := 0) C dX11_effect_97 rfl rfl ?_
      rcases opt_em (fX11_mark Ω_5 (0 : Int32)) with hq_12 | ⟨r_12, hq_12⟩
      · exact absurd hf (by rw [fX11_effect, if_pos qg_2, if_pos qg_4, wl_eq hw_5, if_pos qg_7, if_neg qc_8, if_pos qg_10, if_pos qc_11, ob_n hq_12]; exact nofun)
      refine x_ret (rest := []) (st2 := []) (pc2 := 101) (cu2 := 0) (su2 := 0) (x_cV C (by assumption) (Nat.le_of_ble_eq_true rfl) kmX11_mark rfl kk_11_284 (tX11_mark hok (by assumption)  hq_12) rfl rfl (Nat.le_of_ble_eq_true rfl) ⟨Nat.le_of_ble_eq_true rfl, Nat.le_of_ble_eq_true rfl⟩ ⟨Nat.le_of_ble_eq_true rfl, Nat.le_of_ble_eq_true rfl⟩ dX11_effect_98) rfl rfl rfl rfl ?_
      refine x_aload_n (pc2 := 102) C dX11_effect_101 1 rfl rfl rfl ?_
      refine x_iload_n (pc2 := 103) C dX11_effect_102 0 rfl rfl rfl ?_
      refine x_aload_n (pc2 := 104) C dX11_effect_103 1 rfl rfl rfl ?_
      refine x_getR (f := 1113) (k2 := 2113) (pc2 := 107) C (by assumption) kf_11_46 dX11_effect_104 rfl rfl rfl (rti_i rfl) rfl (fun qd_13 => ?_)
      refine x_iload_n (pc2 := 108) C dX11_effect_107 3 rfl rfl rfl ?_
      rcases (Decidable.em (inB x2 80)).symm with qg_14 | qg_14
      · exact absurd hf (by rw [fX11_effect, if_pos qg_2, if_pos qg_4, wl_eq hw_5, if_pos qg_7, if_neg qc_8, if_pos qg_10, if_pos qc_11, ob_s hq_12, if_neg qg_14]; exact nofun)
      refine x_iald (pc2 := 109) C (by assumption) dX11_effect_108 rfl (inB_in qg_14) rfl ?_
      refine x_aload_n (pc2 := 110) C dX11_effect_109 1 rfl rfl rfl ?_
      refine x_getR (f := 1114) (k2 := 2114) (pc2 := 113) C (by assumption) kf_11_49 dX11_effect_110 rfl rfl rfl (rti_i rfl) rfl (fun qd_15 => ?_)
      refine x_iload_n (pc2 := 114) C dX11_effect_113 3 rfl rfl rfl ?_
      rcases (Decidable.em (inB x2 80)).symm with qg_16 | qg_16
      · exact absurd hf (by rw [fX11_effect, if_pos qg_2, if_pos qg_4, wl_eq hw_5, if_pos qg_7, if_neg qc_8, if_pos qg_10, if_pos qc_11, ob_s hq_12, if_pos qg_14, if_neg qg_16]; exact nofun)
      refine x_iald (pc2 := 115) C (by assumption) dX11_effect_114 rfl (inB_in qg_16) rfl ?_
      rcases opt_em (fX11_move r_12 (xI Ω 2111 0 x2.toNatClampNeg) (xI r_12 2113 0 x2.toNatClampNeg) (xI r_12 2114 0 x2.toNatClampNeg)) with hq_17 | ⟨r_17, hq_17⟩
      · exact absurd hf (by rw [fX11_effect, if_pos qg_2, if_pos qg_4, wl_eq hw_5, if_pos qg_7, if_neg qc_8, if_pos qg_10, if_pos qc_11, ob_s hq_12, if_pos qg_14, if_pos qg_16, ob_n hq_17]; exact nofun)
      refine x_ret (rest := []) (st2 := []) (pc2 := 118) (cu2 := 0) (su2 := 0) (x_cV C (by assumption) (Nat.le_of_ble_eq_true rfl) kmX11_move rfl kk_11_277 (tX11_move hok (by assumption)  hq_17) rfl rfl (Nat.le_of_ble_eq_true rfl) ⟨Nat.le_of_ble_eq_true rfl, Nat.le_of_ble_eq_true rfl⟩ ⟨Nat.le_of_ble_eq_true rfl, Nat.le_of_ble_eq_true rfl⟩ dX11_effect_115) rfl rfl rfl rfl ?_
      refine x_aload_n (pc2 := 119) C dX11_effect_118 1 rfl rfl rfl ?_
      refine x_iconst (pc2 := 120) (v := 1) C dX11_effect_119 rfl rfl ?_
      refine x_putZ (pc2 := 123) (f := 1156) C (by assumption) kf_11_261 dX11_effect_120 rfl rfl rfl (by first | exact Or.inl rfl | exact Or.inr rfl) rfl rfl ?_
      obtain ⟨Ω_18, hw_18⟩ : ∃ z, z = uI r_17 1156 0 0 (1 : Int32) := ⟨_, rfl⟩
      refine x_om hw_18 ?_
      refine x_aload_n (pc2 := 124) C dX11_effect_123 1 rfl rfl rfl ?_
      refine x_getR (f := 1101) (k2 := 2101) (pc2 := 127) C (by assumption) kf_11_13 dX11_effect_124 rfl rfl rfl (rti_i rfl) rfl (fun qd_19 => ?_)
      refine x_bipush (pc2 := 129) (v := 32) C dX11_effect_127 rfl rfl ?_
      refine x_aload_n (pc2 := 130) C dX11_effect_129 1 rfl rfl rfl ?_
      refine x_getR (f := 1113) (k2 := 2113) (pc2 := 133) C (by assumption) kf_11_46 dX11_effect_130 rfl rfl rfl (rti_i rfl) rfl (fun qd_20 => ?_)
      refine x_iload_n (pc2 := 134) C dX11_effect_133 3 rfl rfl rfl ?_
      rcases (Decidable.em (inB x2 80)).symm with qg_21 | qg_21
      · exact absurd hf (by rw [fX11_effect, if_pos qg_2, if_pos qg_4, wl_eq hw_5, if_pos qg_7, if_neg qc_8, if_pos qg_10, if_pos qc_11, ob_s hq_12, if_pos qg_14, if_pos qg_16, ob_s hq_17, wl_eq hw_18, if_neg qg_21]; exact nofun)
      refine x_iald (pc2 := 135) C (by assumption) dX11_effect_134 rfl (inB_in qg_21) rfl ?_
      refine x_iadd (pc2 := 136) C dX11_effect_135 rfl ?_
      rcases (Decidable.em (inB ((32 : Int32) + (xI Ω_18 2113 0 x2.toNatClampNeg)) 120)).symm with qg_22 | qg_22
      · exact absurd hf (by rw [fX11_effect, if_pos qg_2, if_pos qg_4, wl_eq hw_5, if_pos qg_7, if_neg qc_8, if_pos qg_10, if_pos qc_11, ob_s hq_12, if_pos qg_14, if_pos qg_16, ob_s hq_17, wl_eq hw_18, if_pos qg_21, if_neg qg_22]; exact nofun)
      refine x_iald (pc2 := 137) C (by assumption) dX11_effect_136 rfl (inB_in qg_22) rfl ?_
      refine x_if_eq (tgt := 171) (pc2 := 140) C dX11_effect_137 (by decide) rfl (fun qc_23 => ?_) (fun qc_23 => ?_)
      · rw [fX11_effect, if_pos qg_2, if_pos qg_4, wl_eq hw_5, if_pos qg_7, if_neg qc_8, if_pos qg_10, if_pos qc_11, ob_s hq_12, if_pos qg_14, if_pos qg_16, ob_s hq_17, wl_eq hw_18, if_pos qg_21, if_pos qg_22, if_pos qc_23] at hf
        obtain rfl := (Option.some.inj hf).symm
        exact x_vreturn C dX11_effect_171 rfl (Nat.le_of_ble_eq_true rfl) (Nat.le_of_ble_eq_true rfl) rfl rfl
      · refine x_aload_n (pc2 := 141) C dX11_effect_140 1 rfl rfl rfl ?_
        refine x_aload_n (pc2 := 142) C dX11_effect_141 1 rfl rfl rfl ?_
        refine x_getR (f := 1113) (k2 := 2113) (pc2 := 145) C (by assumption) kf_11_46 dX11_effect_142 rfl rfl rfl (rti_i rfl) rfl (fun qd_24 => ?_)
        refine x_iload_n (pc2 := 146) C dX11_effect_145 3 rfl rfl rfl ?_
        rcases (Decidable.em (inB x2 80)).symm with qg_25 | qg_25
        · exact absurd hf (by rw [fX11_effect, if_pos qg_2, if_pos qg_4, wl_eq hw_5, if_pos qg_7, if_neg qc_8, if_pos qg_10, if_pos qc_11, ob_s hq_12, if_pos qg_14, if_pos qg_16, ob_s hq_17, wl_eq hw_18, if_pos qg_21, if_pos qg_22, if_neg qc_23, if_neg qg_25]; exact nofun)
        refine x_iald (pc2 := 147) C (by assumption) dX11_effect_146 rfl (inB_in qg_25) rfl ?_
        refine x_iload_n (pc2 := 148) C dX11_effect_147 0 rfl rfl rfl ?_
        refine x_aload_n (pc2 := 149) C dX11_effect_148 1 rfl rfl rfl ?_
        refine x_getR (f := 1114) (k2 := 2114) (pc2 := 152) C (by assumption) kf_11_49 dX11_effect_149 rfl rfl rfl (rti_i rfl) rfl (fun qd_26 => ?_)
        refine x_iload_n (pc2 := 153) C dX11_effect_152 3 rfl rfl rfl ?_
        rcases (Decidable.em (inB x2 80)).symm with qg_27 | qg_27
        · exact absurd hf (by rw [fX11_effect, if_pos qg_2, if_pos qg_4, wl_eq hw_5, if_pos qg_7, if_neg qc_8, if_pos qg_10, if_pos qc_11, ob_s hq_12, if_pos qg_14, if_pos qg_16, ob_s hq_17, wl_eq hw_18, if_pos qg_21, if_pos qg_22, if_neg qc_23, if_pos qg_25, if_neg qg_27]; exact nofun)
        refine x_iald (pc2 := 154) C (by assumption) dX11_effect_153 rfl (inB_in qg_27) rfl ?_
        refine x_aload_n (pc2 := 155) C dX11_effect_154 1 rfl rfl rfl ?_
        refine x_getR (f := 1115) (k2 := 2115) (pc2 := 158) C (by assumption) kf_11_52 dX11_effect_155 rfl rfl rfl (rti_i rfl) rfl (fun qd_28 => ?_)
        refine x_iload_n (pc2 := 159) C dX11_effect_158 3 rfl rfl rfl ?_
        rcases (Decidable.em (inB x2 80)).symm with qg_29 | qg_29
        · exact absurd hf (by rw [fX11_effect, if_pos qg_2, if_pos qg_4, wl_eq hw_5, if_pos qg_7, if_neg qc_8, if_pos qg_10, if_pos qc_11, ob_s hq_12, if_pos qg_14, if_pos qg_16, ob_s hq_17, wl_eq hw_18, if_pos qg_21, if_pos qg_22, if_neg qc_23, if_pos qg_25, if_pos qg_27, if_neg qg_29]; exact nofun)
        refine x_iald (pc2 := 160) C (by assumption) dX11_effect_159 rfl (inB_in qg_29) rfl ?_
        refine x_aload_n (pc2 := 161) C dX11_effect_160 1 rfl rfl rfl ?_
        refine x_getI (pc2 := 164) (f := 1155) C (by assumption) kf_11_264 dX11_effect_161 rfl rfl rfl ?_
        rcases opt_em (fX11_begin Ω_18 (xI Ω_18 2113 0 x2.toNatClampNeg) (xI Ω 2111 0 x2.toNatClampNeg) (xI Ω_18 2114 0 x2.toNatClampNeg) (xI Ω_18 2115 0 x2.toNatClampNeg) (xI Ω_18 1155 0 0)) with hq_30 | ⟨r_30, hq_30⟩
        · exact absurd hf (by rw [fX11_effect, if_pos qg_2, if_pos qg_4, wl_eq hw_5, if_pos qg_7, if_neg qc_8, if_pos qg_10, if_pos qc_11, ob_s hq_12, if_pos qg_14, if_pos qg_16, ob_s hq_17, wl_eq hw_18, if_pos qg_21, if_pos qg_22, if_neg qc_23, if_pos qg_25, if_pos qg_27, if_pos qg_29, ob_n hq_30]; exact nofun)
        refine x_ret (rest := []) (st2 := []) (pc2 := 167) (cu2 := 0) (su2 := 0) (x_cV C (by assumption) (Nat.le_of_ble_eq_true rfl) kmX11_begin rfl kk_11_287 (tX11_begin hok (by assumption)  hq_30) rfl rfl (Nat.le_of_ble_eq_true rfl) ⟨Nat.le_of_ble_eq_true rfl, Nat.le_of_ble_eq_true rfl⟩ ⟨Nat.le_of_ble_eq_true rfl, Nat.le_of_ble_eq_true rfl⟩ dX11_effect_164) rfl rfl rfl rfl ?_
        refine x_aload_n (pc2 := 168) C dX11_effect_167 1 rfl rfl rfl ?_
        rcases opt_em (fX11_machine r_30) with hq_31 | ⟨r_31, hq_31⟩
        · exact absurd hf (by rw [fX11_effect, if_pos qg_2, if_pos qg_4, wl_eq hw_5, if_pos qg_7, if_neg qc_8, if_pos qg_10, if_pos qc_11, ob_s hq_12, if_pos qg_14, if_pos qg_16, ob_s hq_17, wl_eq hw_18, if_pos qg_21, if_pos qg_22, if_neg qc_23, if_pos qg_25, if_pos qg_27, if_pos qg_29, ob_s hq_30, ob_n hq_31]; exact nofun)
        refine x_ret (rest := []) (st2 := []) (pc2 := 171) (cu2 := 0) (su2 := 0) (x_cV C (by assumption) (Nat.le_of_ble_eq_true rfl) kmX11_machine rfl kk_11_336 (tX11_machine hok (by assumption)  hq_31) rfl rfl (Nat.le_of_ble_eq_true rfl) ⟨Nat.le_of_ble_eq_true rfl, Nat.le_of_ble_eq_true rfl⟩ ⟨Nat.le_of_ble_eq_true rfl, Nat.le_of_ble_eq_true rfl⟩ dX11_effect_168) rfl rfl rfl rfl ?_
        rw [fX11_effect, if_pos qg_2, if_pos qg_4, wl_eq hw_5, if_pos qg_7, if_neg qc_8, if_pos qg_10, if_pos qc_11, ob_s hq_12, if_pos qg_14, if_pos qg_16, ob_s hq_17, wl_eq hw_18, if_pos qg_21, if_pos qg_22, if_neg qc_23, if_pos qg_25, if_pos qg_27, if_pos qg_29, ob_s hq_30, ob_s hq_31] at hf
        obtain rfl := (Option.some.inj hf).symm
        exact x_vreturn C dX11_effect_171 rfl (Nat.le_of_ble_eq_true rfl) (Nat.le_of_ble_eq_true rfl) rfl rfl
    · refine x_aload_n (pc2 := 56) C dX11_effect_55 1 rfl rfl rfl ?_
      refine x_aload_n (pc2 := 57) C dX11_effect_56 1 rfl rfl rfl ?_
      refine x_iload_n (pc2 := 58) C dX11_effect_57 0 rfl rfl rfl ?_
      refine x_aload_n (pc2 := 59) C dX11_effect_58 1 rfl rfl rfl ?_
      refine x_getR (f := 1112) (k2 := 2112) (pc2 := 62) C (by assumption) kf_11_43 dX11_effect_59 rfl rfl rfl (rti_i rfl) rfl (fun qd_32 => ?_)
      refine x_iload_n (pc2 := 63) C dX11_effect_62 3 rfl rfl rfl ?_
      rcases (Decidable.em (inB x2 80)).symm with qg_33 | qg_33
      · exact absurd hf (by rw [fX11_effect, if_pos qg_2, if_pos qg_4, wl_eq hw_5, if_pos qg_7, if_neg qc_8, if_pos qg_10, if_neg qc_11, if_neg qg_33]; exact nofun)
      refine x_iald (pc2 := 64) C (by assumption) dX11_effect_63 rfl (inB_in qg_33) rfl ?_
      refine x_aload_n (pc2 := 65) C dX11_effect_64 1 rfl rfl rfl ?_
      refine x_getR (f := 1113) (k2 := 2113) (pc2 := 68) C (by assumption) kf_11_46 dX11_effect_65 rfl rfl rfl (rti_i rfl) rfl (fun qd_34 => ?_)
      refine x_iload_n (pc2 := 69) C dX11_effect_68 3 rfl rfl rfl ?_
      rcases (Decidable.em (inB x2 80)).symm with qg_35 | qg_35
      · exact absurd hf (by rw [fX11_effect, if_pos qg_2, if_pos qg_4, wl_eq hw_5, if_pos qg_7, if_neg qc_8, if_pos qg_10, if_neg qc_11, if_pos qg_33, if_neg qg_35]; exact nofun)
      refine x_iald (pc2 := 70) C (by assumption) dX11_effect_69 rfl (inB_in qg_35) rfl ?_
      refine x_bipush (pc2 := 72) (v := 16) C dX11_effect_70 rfl rfl ?_
      refine x_isub (pc2 := 73) C dX11_effect_72 rfl ?_
      refine x_aload_n (pc2 := 74) C dX11_effect_73 1 rfl rfl rfl ?_
      refine x_getR (f := 1114) (k2 := 2114) (pc2 := 77) C (by assumption) kf_11_49 dX11_effect_74 rfl rfl rfl (rti_i rfl) rfl (fun qd_36 => ?_)
      refine x_iload_n (pc2 := 78) C dX11_effect_77 3 rfl rfl rfl ?_
      rcases (Decidable.em (inB x2 80)).symm with qg_37 | qg_37
      · exact absurd hf (by rw [fX11_effect, if_pos qg_2, if_pos qg_4, wl_eq hw_5, if_pos qg_7, if_neg qc_8, if_pos qg_10, if_neg qc_11, if_pos qg_33, if_pos qg_35, if_neg qg_37]; exact nofun)
      refine x_iald (pc2 := 79) C (by assumption) dX11_effect_78 rfl (inB_in qg_37) rfl ?_
      rcases opt_em (fX11_made Ω_5 (xI Ω 2111 0 x2.toNatClampNeg) (xI Ω_5 2112 0 x2.toNatClampNeg) ((xI Ω_5 2113 0 x2.toNatClampNeg) - (16 : Int32)) (xI Ω_5 2114 0 x2.toNatClampNeg)) with hq_38 | ⟨r_38, hq_38⟩
      · exact absurd hf (by rw [fX11_effect, if_pos qg_2, if_pos qg_4, wl_eq hw_5, if_pos qg_7, if_neg qc_8, if_pos qg_10, if_neg qc_11, if_pos qg_33, if_pos qg_35, if_pos qg_37, ob_n hq_38]; exact nofun)
      refine x_ret (rest := [_]) (st2 := [_, _]) (pc2 := 82) (cu2 := 0) (su2 := 0) (x_cV C (by assumption) (Nat.le_of_ble_eq_true rfl) kmX11_made rfl kk_11_295 (tX11_made hok (by assumption)  hq_38) rfl rfl (Nat.le_of_ble_eq_true rfl) ⟨Nat.le_of_ble_eq_true rfl, Nat.le_of_ble_eq_true rfl⟩ ⟨Nat.le_of_ble_eq_true rfl, Nat.le_of_ble_eq_true rfl⟩ dX11_effect_79) rfl rfl rfl rfl ?_
      obtain ⟨j_39, hq_39⟩ : ∃ z : Int32, z = (if r_38.1 < 0 then (0 : Int32) else (1 : Int32)) := ⟨_, rfl⟩
      suffices hj_39 : XW G B 4 90 [] [.int (j_39), .ref (ad G 11 (0))] r_38.2 0 0 by
        refine x_if_lt (tgt := 89) (pc2 := 85) C dX11_effect_82 (by decide) rfl (fun qc_40 => ?_) (fun qc_40 => ?_)
        · refine x_iconst (pc2 := 90) (v := 0) C dX11_effect_89 rfl rfl ?_
          rw [if_pos qc_40] at hq_39
          subst hq_39
          exact x_sub (lv2 := []) C [] rfl hj_39
        · refine x_iconst (pc2 := 86) (v := 1) C dX11_effect_85 rfl rfl ?_
          refine x_goto (tgt := 90) C dX11_effect_86 (by decide) ?_
          rw [if_neg qc_40] at hq_39
          subst hq_39
          exact x_sub (lv2 := []) C [] rfl hj_39
      rcases (Decidable.em (j_39 = 0 ∨ j_39 = 1)).symm with qg_41 | qg_41
      · exact absurd hf (by rw [fX11_effect, if_pos qg_2, if_pos qg_4, wl_eq hw_5, if_pos qg_7, if_neg qc_8, if_pos qg_10, if_neg qc_11, if_pos qg_33, if_pos qg_35, if_pos qg_37, ob_s hq_38, wl_eq hq_39, if_neg qg_41]; exact nofun)
      refine x_putZ (pc2 := 93) (f := 1156) C (by assumption) kf_11_261 dX11_effect_90 rfl rfl rfl qg_41 rfl rfl ?_
      obtain ⟨Ω_42, hw_42⟩ : ∃ z, z = uI r_38.2 1156 0 0 j_39 := ⟨_, rfl⟩
      refine x_om hw_42 ?_
      refine x_goto (tgt := 171) C dX11_effect_93 (by decide) ?_
      rw [fX11_effect, if_pos qg_2, if_pos qg_4, wl_eq hw_5, if_pos qg_7, if_neg qc_8, if_pos qg_10, if_neg qc_11, if_pos qg_33, if_pos qg_35, if_pos qg_37, ob_s hq_38, wl_eq hq_39, if_pos qg_41, wl_eq hw_42] at hf
      obtain rfl := (Option.some.inj hf).symm
      exact x_vreturn C dX11_effect_171 rfl (Nat.le_of_ble_eq_true rfl) (Nat.le_of_ble_eq_true rfl) rfl rfl
  · refine x_aload_n (pc2 := 32) C dX11_effect_31 1 rfl rfl rfl ?_
    refine x_aload_n (pc2 := 33) C dX11_effect_32 1 rfl rfl rfl ?_
    refine x_iload_n (pc2 := 34) C dX11_effect_33 2 rfl rfl rfl ?_
    refine x_iload_n (pc2 := 35) C dX11_effect_34 3 rfl rfl rfl ?_
    rcases opt_em (fX11_paysLock Ω_5 x1 x2) with hq_43 | ⟨r_43, hq_43⟩
    · exact absurd hf (by rw [fX11_effect, if_pos qg_2, if_pos qg_4, wl_eq hw_5, if_pos qg_7, if_pos qc_8, ob_n hq_43]; exact nofun)
    refine x_ret (rest := [_]) (st2 := [_, _]) (pc2 := 38) (cu2 := 0) (su2 := 0) (x_cV C (by assumption) (Nat.le_of_ble_eq_true rfl) kmX11_paysLock rfl kk_11_333 (tX11_paysLock hok (by assumption)  hq_43) rfl rfl (Nat.le_of_ble_eq_true rfl) ⟨Nat.le_of_ble_eq_true rfl, Nat.le_of_ble_eq_true rfl⟩ ⟨Nat.le_of_ble_eq_true rfl, Nat.le_of_ble_eq_true rfl⟩ dX11_effect_35) rfl rfl rfl rfl ?_
    rcases (Decidable.em (r_43.1 = 0 ∨ r_43.1 = 1)).symm with qg_44 | qg_44
    · exact absurd hf (by rw [fX11_effect, if_pos qg_2, if_pos qg_4, wl_eq hw_5, if_pos qg_7, if_pos qc_8, ob_s hq_43, if_neg qg_44]; exact nofun)
    refine x_putZ (pc2 := 41) (f := 1156) C (by assumption) kf_11_261 dX11_effect_38 rfl rfl rfl qg_44 rfl rfl ?_
    obtain ⟨Ω_45, hw_45⟩ : ∃ z, z = uI r_43.2 1156 0 0 r_43.1 := ⟨_, rfl⟩
    refine x_om hw_45 ?_
    refine x_goto (tgt := 171) C dX11_effect_41 (by decide) ?_
    rw [fX11_effect, if_pos qg_2, if_pos qg_4, wl_eq hw_5, if_pos qg_7, if_pos qc_8, ob_s hq_43, if_pos qg_44, wl_eq hw_45] at hf
    obtain rfl := (Option.some.inj hf).symm
    exact x_vreturn C dX11_effect_171 rfl (Nat.le_of_ble_eq_true rfl) (Nat.le_of_ble_eq_true rfl) rfl rfl
def fX11_runs (Ω : XO) (x1 : Int32) (x2 : Int32) (x3 : Int32) : Option (XO) := (if inB (((40 : Int32) * x1) + x2) 80 then (fX11_price Ω (((40 : Int32) * x1) + x2) x3).bind (fun r_3 => (if inB ((16 : Int32) + (xI Ω 2111 0 (((40 : Int32) * x1) + x2).toNatClampNeg)) 120 then (if inB ((16 : Int32) + (xI Ω 2111 0 (((40 : Int32) * x1) + x2).toNatClampNeg)) 120 then (wl (uI Ω 2101 0 ((16 : Int32) + (xI Ω 2111 0 (((40 : Int32) * x1) + x2).toNatClampNeg)).toNatClampNeg ((xI Ω 2101 0 ((16 : Int32) + (xI Ω 2111 0 (((40 : Int32) * x1) + x2).toNatClampNeg)).toNatClampNeg) + (1 : Int32))) (fun Ω_7 => (if inB (xI Ω 2111 0 (((40 : Int32) * x1) + x2).toNatClampNeg) 120 then (if inB (((40 : Int32) * x1) + x2) 80 then (if inB (xI Ω 2111 0 (((40 : Int32) * x1) + x2).toNatClampNeg) 120 then (wl (uI Ω_7 2101 0 (xI Ω 2111 0 (((40 : Int32) * x1) + x2).toNatClampNeg).toNatClampNeg ((xI Ω_7 2101 0 (xI Ω 2111 0 (((40 : Int32) * x1) + x2).toNatClampNeg).toNatClampNeg) - ((xI Ω_7 2116 0 (((40 : Int32) * x1) + x2).toNatClampNeg) * r_3))) (fun Ω_13 => (wl (uI Ω_13 1154 0 0 (0 : Int32)) (fun Ω_14 => (wl (uI Ω_14 1153 0 0 (0 : Int32)) (fun Ω_15 => (fX11_effect Ω_15 x1 (((40 : Int32) * x1) + x2)).bind (fun r_16 => (if inB (((40 : Int32) * x1) + x2) 80 then (wl ((if (((xI r_16 2116 0 (((40 : Int32) * x1) + x2).toNatClampNeg) - (xI r_16 1155 0 0)) / (5 : Int32)) ≤ (xI r_16 1154 0 0) then ((xI r_16 2116 0 (((40 : Int32) * x1) + x2).toNatClampNeg) - (xI r_16 1155 0 0)) / (5 : Int32) else xI r_16 1154 0 0)) (fun (j_19 : Int32) => (if inB (xI Ω 2111 0 (((40 : Int32) * x1) + x2).toNatClampNeg) 120 then (if inB (((40 : Int32) * x1) + x2) 80 then (if inB (xI Ω 2111 0 (((40 : Int32) * x1) + x2).toNatClampNeg) 120 then (wl (uI r_16 2101 0 (xI Ω 2111 0 (((40 : Int32) * x1) + x2).toNatClampNeg).toNatClampNeg ((xI r_16 2101 0 (xI Ω 2111 0 (((40 : Int32) * x1) + x2).toNatClampNeg).toNatClampNeg) + (((xI r_16 2116 0 (((40 : Int32) * x1) + x2).toNatClampNeg) - (((xI r_16 2116 0 (((40 : Int32) * x1) + x2).toNatClampNeg) - (xI r_16 1155 0 0)) - j_19)) * r_3))) (fun Ω_26 => (wl (uI Ω_26 2101 0 (112 : Int32).toNatClampNeg ((xI Ω_26 2101 0 (112 : Int32).toNatClampNeg) + ((((xI r_16 2116 0 (((40 : Int32) * x1) + x2).toNatClampNeg) - (xI r_16 1155 0 0)) - j_19) * x3))) (fun Ω_28 => (if inB (xI Ω_28 1158 0 0) 48 then (if inB (xI Ω_28 2122 0 (xI Ω_28 1158 0 0).toNatClampNeg) 120 then (if inB (xI Ω_28 2122 0 (xI Ω_28 1158 0 0).toNatClampNeg) 120 then (wl (uI Ω_28 2101 0 (xI Ω_28 2122 0 (xI Ω_28 1158 0 0).toNatClampNeg).toNatClampNeg ((xI Ω_28 2101 0 (xI Ω_28 2122 0 (xI Ω_28 1158 0 0).toNatClampNeg).toNatClampNeg) + ((((xI r_16 2116 0 (((40 : Int32) * x1) + x2).toNatClampNeg) - (xI r_16 1155 0 0)) - j_19) * (r_3 - x3)))) (fun Ω_34 => (if inB (xI Ω_34 1158 0 0) 48 then (wl ((if (xI Ω_34 1156 0 0) = 0 then (0 : Int32) else (1 : Int32))) (fun (j_38 : Int32) => (if inB (((40 : Int32) * (xI Ω_34 1158 0 0)) + (xI Ω_34 2129 0 (xI Ω_34 1158 0 0).toNatClampNeg)) 1920 then (wl (uI Ω_34 2131 0 (((40 : Int32) * (xI Ω_34 1158 0 0)) + (xI Ω_34 2129 0 (xI Ω_34 1158 0 0).toNatClampNeg)).toNatClampNeg ((((100000 : Int32) * (((xI r_16 2116 0 (((40 : Int32) * x1) + x2).toNatClampNeg) - (xI r_16 1155 0 0)) - j_19)) + ((10 : Int32) * x2)) + j_38)) (fun Ω_41 => (if inB (xI Ω_41 1158 0 0) 48 then (if inB (xI Ω_41 1158 0 0) 48 then (wl (uI Ω_41 2129 0 (xI Ω_41 1158 0 0).toNatClampNeg ((xI Ω_41 2129 0 (xI Ω_41 1158 0 0).toNatClampNeg) + (1 : Int32))) (fun Ω_45 => (if inB (xI Ω_45 1158 0 0) 48 then (if inB (xI Ω_45 1158 0 0) 48 then (wl (uI Ω_45 2125 0 (xI Ω_45 1158 0 0).toNatClampNeg ((xI Ω_45 2125 0 (xI Ω_45 1158 0 0).toNatClampNeg) + (((xI r_16 2116 0 (((40 : Int32) * x1) + x2).toNatClampNeg) - (xI r_16 1155 0 0)) - j_19))) (fun Ω_49 => (some Ω_49))) else none) else none))) else none) else none))) else none))) else none))) else none) else none) else none))))) else none) else none) else none))) else none)))))))) else none) else none) else none))) else none) else none)) else none)
set_option maxRecDepth 20000 in
theorem tX11_runs {G : XG} (hok : XK G) {x1 : Int32} {x2 : Int32} {x3 : Int32} {Ω : XO} (hd0 : dm G 11 0)   {r : XO} (hf : fX11_runs Ω x1 x2 x3 = some r) : XM G yX11_runs cX11_runs 8 none (RM 7 0) [.ref (ad G 11 0), .int x1, .int x2, .int x3] Ω (.inl none) (r) := by
  refine x_start (lv := [(0, .ref (ad G 11 0)), (1, .int x1), (2, .int x2), (3, .int x3)]) (own := RX11) hok (by decide +kernel) rfl (Nat.le_of_ble_eq_true rfl) rfl (fun B C => ?_)
  refine x_bipush (pc2 := 2) (v := 40) C dX11_runs_0 rfl rfl ?_
  refine x_iload_n (pc2 := 3) C dX11_runs_2 1 rfl rfl rfl ?_
  refine x_imul (pc2 := 4) C dX11_runs_3 rfl ?_
  refine x_iload_n (pc2 := 5) C dX11_runs_4 2 rfl rfl rfl ?_
  refine x_iadd (pc2 := 6) C dX11_runs_5 rfl ?_
  refine x_istore (pc2 := 8) (lv2 := [(4, _), (0, _), (1, _), (2, _), (3, _)]) C dX11_runs_6 (by decide) rfl rfl ?_
  refine x_aload_n (pc2 := 9) C dX11_runs_8 1 rfl rfl rfl ?_
  refine x_getR (f := 1111) (k2 := 2111) (pc2 := 12) C (by assumption) kf_11_40 dX11_runs_9 rfl rfl rfl (rti_i rfl) rfl (fun qd_1 => ?_)
  refine x_iload (pc2 := 14) C dX11_runs_12 0 rfl rfl ?_
  rcases (Decidable.em (inB (((40 : Int32) * x1) + x2) 80)).symm with qg_2 | qg_2
  · exact absurd hf (by rw [fX11_runs, if_neg qg_2]; exact nofun)
  refine x_iald (pc2 := 15) C (by assumption) dX11_runs_14 rfl (inB_in qg_2) rfl ?_
  refine x_istore (pc2 := 17) (lv2 := [(5, _), (4, _), (0, _), (1, _), (2, _), (3, _)]) C dX11_runs_15 (by decide) rfl rfl ?_
  refine x_aload_n (pc2 := 18) C dX11_runs_17 2 rfl rfl rfl ?_
  refine x_iload (pc2 := 20) C dX11_runs_18 1 rfl rfl ?_
  refine x_iload_n (pc2 := 21) C dX11_runs_20 5 rfl rfl rfl ?_
  rcases opt_em (fX11_price Ω (((40 : Int32) * x1) + x2) x3) with hq_3 | ⟨r_3, hq_3⟩
  · exact absurd hf (by rw [fX11_runs, if_pos qg_2, ob_n hq_3]; exact nofun)
  refine x_ret (rest := []) (st2 := [_]) (pc2 := 24) (cu2 := 0) (su2 := 0) (x_cV C (by assumption) (Nat.le_of_ble_eq_true rfl) kmX11_price rfl kk_11_339 (tX11_price hok (by assumption)  hq_3) rfl rfl (Nat.le_of_ble_eq_true rfl) ⟨Nat.le_of_ble_eq_true rfl, Nat.le_of_ble_eq_true rfl⟩ ⟨Nat.le_of_ble_eq_true rfl, Nat.le_of_ble_eq_true rfl⟩ dX11_runs_21) rfl rfl rfl rfl ?_
  refine x_istore (pc2 := 26) (lv2 := [(6, _), (5, _), (4, _), (0, _), (1, _), (2, _), (3, _)]) C dX11_runs_24 (by decide) rfl rfl ?_
  refine x_aload_n (pc2 := 27) C dX11_runs_26 3 rfl rfl rfl ?_
  refine x_getR (f := 1101) (k2 := 2101) (pc2 := 30) C (by assumption) kf_11_13 dX11_runs_27 rfl rfl rfl (rti_i rfl) rfl (fun qd_4 => ?_)
  refine x_bipush (pc2 := 32) (v := 16) C dX11_runs_30 rfl rfl ?_
  refine x_iload (pc2 := 34) C dX11_runs_32 1 rfl rfl ?_
  refine x_iadd (pc2 := 35) C dX11_runs_34 rfl ?_
  refine x_dup2 (pc2 := 36) C dX11_runs_35 rfl rfl rfl ?_
  rcases (Decidable.em (inB ((16 : Int32) + (xI Ω 2111 0 (((40 : Int32) * x1) + x2).toNatClampNeg)) 120)).symm with qg_5 | qg_5
  · exact absurd hf (by rw [fX11_runs, if_pos qg_2, ob_s hq_3, if_neg qg_5]; exact nofun)
  refine x_iald (pc2 := 37) C (by assumption) dX11_runs_36 rfl (inB_in qg_5) rfl ?_
  refine x_iconst (pc2 := 38) (v := 1) C dX11_runs_37 rfl rfl ?_
  refine x_iadd (pc2 := 39) C dX11_runs_38 rfl ?_
  rcases (Decidable.em (inB ((16 : Int32) + (xI Ω 2111 0 (((40 : Int32) * x1) + x2).toNatClampNeg)) 120)).symm with qg_6 | qg_6
  · exact absurd hf (by rw [fX11_runs, if_pos qg_2, ob_s hq_3, if_pos qg_5, if_neg qg_6]; exact nofun)
  refine x_iast (pc2 := 40) C (by assumption) dX11_runs_39 rfl (inB_in qg_6) rfl ?_
  obtain ⟨Ω_7, hw_7⟩ : ∃ z, z = uI Ω 2101 0 ((16 : Int32) + (xI Ω 2111 0 (((40 : Int32) * x1) + x2).toNatClampNeg)).toNatClampNeg ((xI Ω 2101 0 ((16 : Int32) + (xI Ω 2111 0 (((40 : Int32) * x1) + x2).toNatClampNeg)).toNatClampNeg) + (1 : Int32)) := ⟨_, rfl⟩
  refine x_om hw_7 ?_
  refine x_aload_n (pc2 := 41) C dX11_runs_40 3 rfl rfl rfl ?_
  refine x_getR (f := 1101) (k2 := 2101) (pc2 := 44) C (by assumption) kf_11_13 dX11_runs_41 rfl rfl rfl (rti_i rfl) rfl (fun qd_8 => ?_)
  refine x_iload (pc2 := 46) C dX11_runs_44 1 rfl rfl ?_
  refine x_dup2 (pc2 := 47) C dX11_runs_46 rfl rfl rfl ?_
  rcases (Decidable.em (inB (xI Ω 2111 0 (((40 : Int32) * x1) + x2).toNatClampNeg) 120)).symm with qg_9 | qg_9
  · exact absurd hf (by rw [fX11_runs, if_pos qg_2, ob_s hq_3, if_pos qg_5, if_pos qg_6, wl_eq hw_7, if_neg qg_9]; exact nofun)
  refine x_iald (pc2 := 48) C (by assumption) dX11_runs_47 rfl (inB_in qg_9) rfl ?_
  refine x_aload_n (pc2 := 49) C dX11_runs_48 3 rfl rfl rfl ?_
  refine x_getR (f := 1116) (k2 := 2116) (pc2 := 52) C (by assumption) kf_11_55 dX11_runs_49 rfl rfl rfl (rti_i rfl) rfl (fun qd_10 => ?_)
  refine x_iload (pc2 := 54) C dX11_runs_52 2 rfl rfl ?_
  rcases (Decidable.em (inB (((40 : Int32) * x1) + x2) 80)).symm with qg_11 | qg_11
  · exact absurd hf (by rw [fX11_runs, if_pos qg_2, ob_s hq_3, if_pos qg_5, if_pos qg_6, wl_eq hw_7, if_pos qg_9, if_neg qg_11]; exact nofun)
  refine x_iald (pc2 := 55) C (by assumption) dX11_runs_54 rfl (inB_in qg_11) rfl ?_
  refine x_iload (pc2 := 57) C dX11_runs_55 0 rfl rfl ?_
  refine x_imul (pc2 := 58) C dX11_runs_57 rfl ?_
  refine x_isub (pc2 := 59) C dX11_runs_58 rfl ?_
  rcases (Decidable.em (inB (xI Ω 2111 0 (((40 : Int32) * x1) + x2).toNatClampNeg) 120)).symm with qg_12 | qg_12
  · exact absurd hf (by rw [fX11_runs, if_pos qg_2, ob_s hq_3, if_pos qg_5, if_pos qg_6, wl_eq hw_7, if_pos qg_9, if_pos qg_11, if_neg qg_12]; exact nofun)
  refine x_iast (pc2 := 60) C (by assumption) dX11_runs_59 rfl (inB_in qg_12) rfl ?_
  obtain ⟨Ω_13, hw_13⟩ : ∃ z, z = uI Ω_7 2101 0 (xI Ω 2111 0 (((40 : Int32) * x1) + x2).toNatClampNeg).toNatClampNeg ((xI Ω_7 2101 0 (xI Ω 2111 0 (((40 : Int32) * x1) + x2).toNatClampNeg).toNatClampNeg) - ((xI Ω_7 2116 0 (((40 : Int32) * x1) + x2).toNatClampNeg) * r_3)) := ⟨_, rfl⟩
  refine x_om hw_13 ?_
  refine x_aload_n (pc2 := 61) C dX11_runs_60 3 rfl rfl rfl ?_
  refine x_iconst (pc2 := 62) (v := 0) C dX11_runs_61 rfl rfl ?_
  refine x_putI (pc2 := 65) (f := 1154) C (by assumption) kf_11_243 dX11_runs_62 rfl rfl rfl rfl rfl ?_
  obtain ⟨Ω_14, hw_14⟩ : ∃ z, z = uI Ω_13 1154 0 0 (0 : Int32) := ⟨_, rfl⟩
  refine x_om hw_14 ?_
  refine x_aload_n (pc2 := 66) C dX11_runs_65 3 rfl rfl rfl ?_
  refine x_iconst (pc2 := 67) (v := 0) C dX11_runs_66 rfl rfl ?_
  refine x_putI (pc2 := 70) (f := 1153) C (by assumption) kf_11_237 dX11_runs_67 rfl rfl rfl rfl rfl ?_
  obtain ⟨Ω_15, hw_15⟩ : ∃ z, z = uI Ω_14 1153 0 0 (0 : Int32) := ⟨_, rfl⟩
  refine x_om hw_15 ?_
  refine x_aload_n (pc2 := 71) C dX11_runs_70 3 rfl rfl rfl ?_
  refine x_iload_n (pc2 := 72) C dX11_runs_71 4 rfl rfl rfl ?_
  refine x_iload (pc2 := 74) C dX11_runs_72 2 rfl rfl ?_
  rcases opt_em (fX11_effect Ω_15 x1 (((40 : Int32) * x1) + x2)) with hq_16 | ⟨r_16, hq_16⟩
  · exact absurd hf (by rw [fX11_runs, if_pos qg_2, ob_s hq_3, if_pos qg_5, if_pos qg_6, wl_eq hw_7, if_pos qg_9, if_pos qg_11, if_pos qg_12, wl_eq hw_13, wl_eq hw_14, wl_eq hw_15, ob_n hq_16]; exact nofun)
  refine x_ret (rest := []) (st2 := []) (pc2 := 77) (cu2 := 0) (su2 := 0) (x_cV C (by assumption) (Nat.le_of_ble_eq_true rfl) kmX11_effect rfl kk_11_342 (tX11_effect hok (by assumption)  hq_16) rfl rfl (Nat.le_of_ble_eq_true rfl) ⟨Nat.le_of_ble_eq_true rfl, Nat.le_of_ble_eq_true rfl⟩ ⟨Nat.le_of_ble_eq_true rfl, Nat.le_of_ble_eq_true rfl⟩ dX11_runs_74) rfl rfl rfl rfl ?_
  refine x_aload_n (pc2 := 78) C dX11_runs_77 3 rfl rfl rfl ?_
  refine x_getR (f := 1116) (k2 := 2116) (pc2 := 81) C (by assumption) kf_11_55 dX11_runs_78 rfl rfl rfl (rti_i rfl) rfl (fun qd_17 => ?_)
  refine x_iload (pc2 := 83) C dX11_runs_81 2 rfl rfl ?_
  rcases (Decidable.em (inB (((40 : Int32) * x1) + x2) 80)).symm with qg_18 | qg_18
  · exact absurd hf (by rw [fX11_runs, if_pos qg_2, ob_s hq_3, if_pos qg_5, if_pos qg_6, wl_eq hw_7, if_pos qg_9, if_pos qg_11, if_pos qg_12, wl_eq hw_13, wl_eq hw_14, wl_eq hw_15, ob_s hq_16, if_neg qg_18]; exact nofun)
  refine x_iald (pc2 := 84) C (by assumption) dX11_runs_83 rfl (inB_in qg_18) rfl ?_
  refine x_aload_n (pc2 := 85) C dX11_runs_84 3 rfl rfl rfl ?_
  refine x_getI (pc2 := 88) (f := 1155) C (by assumption) kf_11_264 dX11_runs_85 rfl rfl rfl ?_
  refine x_isub (pc2 := 89) C dX11_runs_88 rfl ?_
  refine x_istore (pc2 := 91) (lv2 := [(7, _), (6, _), (5, _), (4, _), (0, _), (1, _), (2, _), (3, _)]) C dX11_runs_89 (by decide) rfl rfl ?_
  refine x_iload (pc2 := 93) C dX11_runs_91 0 rfl rfl ?_
  refine x_aload_n (pc2 := 94) C dX11_runs_93 4 rfl rfl rfl ?_
  refine x_getI (pc2 := 97) (f := 1154) C (by assumption) kf_11_243 dX11_runs_94 rfl rfl rfl ?_
  refine x_iload (pc2 := 99) C dX11_runs_97 0 rfl rfl ?_
  refine x_iconst (pc2 := 100) (v := 5) C dX11_runs_99 rfl rfl ?_
  refine x_idiv (pc2 := 101) C dX11_runs_100 (by decide +kernel) rfl ?_
  obtain ⟨j_19, hq_19⟩ : ∃ z : Int32, z = (if (((xI r_16 2116 0 (((40 : Int32) * x1) + x2).toNatClampNeg) - (xI r_16 1155 0 0)) / (5 : Int32)) ≤ (xI r_16 1154 0 0) then ((xI r_16 2116 0 (((40 : Int32) * x1) + x2).toNatClampNeg) - (xI r_16 1155 0 0)) / (5 : Int32) else xI r_16 1154 0 0) := ⟨_, rfl⟩
  suffices hj_19 : XW G B 8 115 [(0, .ref (ad G 11 (0))), (2, .int (x2)), (3, .int (x3)), (4, .int (((40 : Int32) * x1) + x2)), (5, .int (xI Ω 2111 0 (((40 : Int32) * x1) + x2).toNatClampNeg)), (6, .int (r_3))] [.int (j_19), .int ((xI r_16 2116 0 (((40 : Int32) * x1) + x2).toNatClampNeg) - (xI r_16 1155 0 0))] r_16 0 0 by
    refine x_icmp_ge (tgt := 111) (pc2 := 104) C dX11_runs_101 (by decide) rfl (fun qc_20 => ?_) (fun qc_20 => ?_)
    · refine x_iload (pc2 := 113) C dX11_runs_111 0 rfl rfl ?_
      refine x_iconst (pc2 := 114) (v := 5) C dX11_runs_113 rfl rfl ?_
      refine x_idiv (pc2 := 115) C dX11_runs_114 (by decide +kernel) rfl ?_
      rw [if_pos qc_20] at hq_19
      subst hq_19
      exact x_sub (lv2 := [(0, _), (2, _), (3, _), (4, _), (5, _), (6, _)]) C [4, 6, 7, 3, 2, 1] rfl hj_19
    · refine x_aload_n (pc2 := 105) C dX11_runs_104 4 rfl rfl rfl ?_
      refine x_getI (pc2 := 108) (f := 1154) C (by assumption) kf_11_243 dX11_runs_105 rfl rfl rfl ?_
      refine x_goto (tgt := 115) C dX11_runs_108 (by decide) ?_
      rw [if_neg qc_20] at hq_19
      subst hq_19
      exact x_sub (lv2 := [(0, _), (2, _), (3, _), (4, _), (5, _), (6, _)]) C [4, 6, 7, 3, 2, 1] rfl hj_19
  refine x_isub (pc2 := 116) C dX11_runs_115 rfl ?_
  refine x_istore (pc2 := 118) (lv2 := [(7, _), (0, _), (2, _), (3, _), (4, _), (5, _), (6, _)]) C dX11_runs_116 (by decide) rfl rfl ?_
  refine x_aload_n (pc2 := 119) C dX11_runs_118 1 rfl rfl rfl ?_
  refine x_getR (f := 1101) (k2 := 2101) (pc2 := 122) C (by assumption) kf_11_13 dX11_runs_119 rfl rfl rfl (rti_i rfl) rfl (fun qd_21 => ?_)
  refine x_iload (pc2 := 124) C dX11_runs_122 5 rfl rfl ?_
  refine x_dup2 (pc2 := 125) C dX11_runs_124 rfl rfl rfl ?_
  rcases (Decidable.em (inB (xI Ω 2111 0 (((40 : Int32) * x1) + x2).toNatClampNeg) 120)).symm with qg_22 | qg_22
  · exact absurd hf (by rw [fX11_runs, if_pos qg_2, ob_s hq_3, if_pos qg_5, if_pos qg_6, wl_eq hw_7, if_pos qg_9, if_pos qg_11, if_pos qg_12, wl_eq hw_13, wl_eq hw_14, wl_eq hw_15, ob_s hq_16, if_pos qg_18, wl_eq hq_19, if_neg qg_22]; exact nofun)
  refine x_iald (pc2 := 126) C (by assumption) dX11_runs_125 rfl (inB_in qg_22) rfl ?_
  refine x_aload_n (pc2 := 127) C dX11_runs_126 1 rfl rfl rfl ?_
  refine x_getR (f := 1116) (k2 := 2116) (pc2 := 130) C (by assumption) kf_11_55 dX11_runs_127 rfl rfl rfl (rti_i rfl) rfl (fun qd_23 => ?_)
  refine x_iload (pc2 := 132) C dX11_runs_130 4 rfl rfl ?_
  rcases (Decidable.em (inB (((40 : Int32) * x1) + x2) 80)).symm with qg_24 | qg_24
  · exact absurd hf (by rw [fX11_runs, if_pos qg_2, ob_s hq_3, if_pos qg_5, if_pos qg_6, wl_eq hw_7, if_pos qg_9, if_pos qg_11, if_pos qg_12, wl_eq hw_13, wl_eq hw_14, wl_eq hw_15, ob_s hq_16, if_pos qg_18, wl_eq hq_19, if_pos qg_22, if_neg qg_24]; exact nofun)
  refine x_iald (pc2 := 133) C (by assumption) dX11_runs_132 rfl (inB_in qg_24) rfl ?_
  refine x_iload (pc2 := 135) C dX11_runs_133 0 rfl rfl ?_
  refine x_isub (pc2 := 136) C dX11_runs_135 rfl ?_
  refine x_iload (pc2 := 138) C dX11_runs_136 6 rfl rfl ?_
  refine x_imul (pc2 := 139) C dX11_runs_138 rfl ?_
  refine x_iadd (pc2 := 140) C dX11_runs_139 rfl ?_
  rcases (Decidable.em (inB (xI Ω 2111 0 (((40 : Int32) * x1) + x2).toNatClampNeg) 120)).symm with qg_25 | qg_25
  · exact absurd hf (by rw [fX11_runs, if_pos qg_2, ob_s hq_3, if_pos qg_5, if_pos qg_6, wl_eq hw_7, if_pos qg_9, if_pos qg_11, if_pos qg_12, wl_eq hw_13, wl_eq hw_14, wl_eq hw_15, ob_s hq_16, if_pos qg_18, wl_eq hq_19, if_pos qg_22, if_pos qg_24, if_neg qg_25]; exact nofun)
  refine x_iast (pc2 := 141) C (by assumption) dX11_runs_140 rfl (inB_in qg_25) rfl ?_
  obtain ⟨Ω_26, hw_26⟩ : ∃ z, z = uI r_16 2101 0 (xI Ω 2111 0 (((40 : Int32) * x1) + x2).toNatClampNeg).toNatClampNeg ((xI r_16 2101 0 (xI Ω 2111 0 (((40 : Int32) * x1) + x2).toNatClampNeg).toNatClampNeg) + (((xI r_16 2116 0 (((40 : Int32) * x1) + x2).toNatClampNeg) - (((xI r_16 2116 0 (((40 : Int32) * x1) + x2).toNatClampNeg) - (xI r_16 1155 0 0)) - j_19)) * r_3)) := ⟨_, rfl⟩
  refine x_om hw_26 ?_
  refine x_aload_n (pc2 := 142) C dX11_runs_141 1 rfl rfl rfl ?_
  refine x_getR (f := 1101) (k2 := 2101) (pc2 := 145) C (by assumption) kf_11_13 dX11_runs_142 rfl rfl rfl (rti_i rfl) rfl (fun qd_27 => ?_)
  refine x_bipush (pc2 := 147) (v := 112) C dX11_runs_145 rfl rfl ?_
  refine x_dup2 (pc2 := 148) C dX11_runs_147 rfl rfl rfl ?_
  refine x_iald (pc2 := 149) C (by assumption) dX11_runs_148 rfl (vp_in_iff.mpr (by decide)) rfl ?_
  refine x_iload (pc2 := 151) C dX11_runs_149 0 rfl rfl ?_
  refine x_iload_n (pc2 := 152) C dX11_runs_151 3 rfl rfl rfl ?_
  refine x_imul (pc2 := 153) C dX11_runs_152 rfl ?_
  refine x_iadd (pc2 := 154) C dX11_runs_153 rfl ?_
  refine x_iast (pc2 := 155) C (by assumption) dX11_runs_154 rfl (vp_in_iff.mpr (by decide)) rfl ?_
  obtain ⟨Ω_28, hw_28⟩ : ∃ z, z = uI Ω_26 2101 0 (112 : Int32).toNatClampNeg ((xI Ω_26 2101 0 (112 : Int32).toNatClampNeg) + ((((xI r_16 2116 0 (((40 : Int32) * x1) + x2).toNatClampNeg) - (xI r_16 1155 0 0)) - j_19) * x3)) := ⟨_, rfl⟩
  refine x_om hw_28 ?_
  refine x_aload_n (pc2 := 156) C dX11_runs_155 1 rfl rfl rfl ?_
  refine x_getR (f := 1101) (k2 := 2101) (pc2 := 159) C (by assumption) kf_11_13 dX11_runs_156 rfl rfl rfl (rti_i rfl) rfl (fun qd_29 => ?_)
  refine x_aload_n (pc2 := 160) C dX11_runs_159 1 rfl rfl rfl ?_
  refine x_getR (f := 1122) (k2 := 2122) (pc2 := 163) C (by assumption) kf_11_73 dX11_runs_160 rfl rfl rfl (rti_i rfl) rfl (fun qd_30 => ?_)
  refine x_aload_n (pc2 := 164) C dX11_runs_163 1 rfl rfl rfl ?_
  refine x_getI (pc2 := 167) (f := 1158) C (by assumption) kf_11_246 dX11_runs_164 rfl rfl rfl ?_
  rcases (Decidable.em (inB (xI Ω_28 1158 0 0) 48)).symm with qg_31 | qg_31
  · exact absurd hf (by rw [fX11_runs, if_pos qg_2, ob_s hq_3, if_pos qg_5, if_pos qg_6, wl_eq hw_7, if_pos qg_9, if_pos qg_11, if_pos qg_12, wl_eq hw_13, wl_eq hw_14, wl_eq hw_15, ob_s hq_16, if_pos qg_18, wl_eq hq_19, if_pos qg_22, if_pos qg_24, if_pos qg_25, wl_eq hw_26, wl_eq hw_28, if_neg qg_31]; exact nofun)
  refine x_iald (pc2 := 168) C (by assumption) dX11_runs_167 rfl (inB_in qg_31) rfl ?_
  refine x_dup2 (pc2 := 169) C dX11_runs_168 rfl rfl rfl ?_
  rcases (Decidable.em (inB (xI Ω_28 2122 0 (xI Ω_28 1158 0 0).toNatClampNeg) 120)).symm with qg_32 | qg_32
  · exact absurd hf (by rw [fX11_runs, if_pos qg_2, ob_s hq_3, if_pos qg_5, if_pos qg_6, wl_eq hw_7, if_pos qg_9, if_pos qg_11, if_pos qg_12, wl_eq hw_13, wl_eq hw_14, wl_eq hw_15, ob_s hq_16, if_pos qg_18, wl_eq hq_19, if_pos qg_22, if_pos qg_24, if_pos qg_25, wl_eq hw_26, wl_eq hw_28, if_pos qg_31, if_neg qg_32]; exact nofun)
  refine x_iald (pc2 := 170) C (by assumption) dX11_runs_169 rfl (inB_in qg_32) rfl ?_
  refine x_iload (pc2 := 172) C dX11_runs_170 0 rfl rfl ?_
  refine x_iload (pc2 := 174) C dX11_runs_172 6 rfl rfl ?_
  refine x_iload_n (pc2 := 175) C dX11_runs_174 3 rfl rfl rfl ?_
  refine x_isub (pc2 := 176) C dX11_runs_175 rfl ?_
  refine x_imul (pc2 := 177) C dX11_runs_176 rfl ?_
  refine x_iadd (pc2 := 178) C dX11_runs_177 rfl ?_
  rcases (Decidable.em (inB (xI Ω_28 2122 0 (xI Ω_28 1158 0 0).toNatClampNeg) 120)).symm with qg_33 | qg_33
  · exact absurd hf (by rw [fX11_runs, if_pos qg_2, ob_s hq_3, if_pos qg_5, if_pos qg_6, wl_eq hw_7, if_pos qg_9, if_pos qg_11, if_pos qg_12, wl_eq hw_13, wl_eq hw_14, wl_eq hw_15, ob_s hq_16, if_pos qg_18, wl_eq hq_19, if_pos qg_22, if_pos qg_24, if_pos qg_25, wl_eq hw_26, wl_eq hw_28, if_pos qg_31, if_pos qg_32, if_neg qg_33]; exact nofun)
  refine x_iast (pc2 := 179) C (by assumption) dX11_runs_178 rfl (inB_in qg_33) rfl ?_
  obtain ⟨Ω_34, hw_34⟩ : ∃ z, z = uI Ω_28 2101 0 (xI Ω_28 2122 0 (xI Ω_28 1158 0 0).toNatClampNeg).toNatClampNeg ((xI Ω_28 2101 0 (xI Ω_28 2122 0 (xI Ω_28 1158 0 0).toNatClampNeg).toNatClampNeg) + ((((xI r_16 2116 0 (((40 : Int32) * x1) + x2).toNatClampNeg) - (xI r_16 1155 0 0)) - j_19) * (r_3 - x3))) := ⟨_, rfl⟩
  refine x_om hw_34 ?_
  refine x_aload_n (pc2 := 180) C dX11_runs_179 1 rfl rfl rfl ?_
  refine x_getR (f := 1131) (k2 := 2131) (pc2 := 183) C (by assumption) kf_11_101 dX11_runs_180 rfl rfl rfl (rti_i rfl) rfl (fun qd_35 => ?_)
  refine x_bipush (pc2 := 185) (v := 40) C dX11_runs_183 rfl rfl ?_
  refine x_aload_n (pc2 := 186) C dX11_runs_185 1 rfl rfl rfl ?_
  refine x_getI (pc2 := 189) (f := 1158) C (by assumption) kf_11_246 dX11_runs_186 rfl rfl rfl ?_
  refine x_imul (pc2 := 190) C dX11_runs_189 rfl ?_
  refine x_aload_n (pc2 := 191) C dX11_runs_190 1 rfl rfl rfl ?_
  refine x_getR (f := 1129) (k2 := 2129) (pc2 := 194) C (by assumption) kf_11_95 dX11_runs_191 rfl rfl rfl (rti_i rfl) rfl (fun qd_36 => ?_)
  refine x_aload_n (pc2 := 195) C dX11_runs_194 1 rfl rfl rfl ?_
  refine x_getI (pc2 := 198) (f := 1158) C (by assumption) kf_11_246 dX11_runs_195 rfl rfl rfl ?_
  rcases (Decidable.em (inB (xI Ω_34 1158 0 0) 48)).symm with qg_37 | qg_37
  · exact absurd hf (by rw [fX11_runs, if_pos qg_2, ob_s hq_3, if_pos qg_5, if_pos qg_6, wl_eq hw_7, if_pos qg_9, if_pos qg_11, if_pos qg_12, wl_eq hw_13, wl_eq hw_14, wl_eq hw_15, ob_s hq_16, if_pos qg_18, wl_eq hq_19, if_pos qg_22, if_pos qg_24, if_pos qg_25, wl_eq hw_26, wl_eq hw_28, if_pos qg_31, if_pos qg_32, if_pos qg_33, wl_eq hw_34, if_neg qg_37]; exact nofun)
  refine x_iald (pc2 := 199) C (by assumption) dX11_runs_198 rfl (inB_in qg_37) rfl ?_
  refine x_iadd (pc2 := 200) C dX11_runs_199 rfl ?_
  refine x_ldcw (pc2 := 203) C kc_11_345 dX11_runs_200 rfl ?_
  refine x_iload (pc2 := 205) C dX11_runs_203 0 rfl rfl ?_
  refine x_imul (pc2 := 206) C dX11_runs_205 rfl ?_
  refine x_bipush (pc2 := 208) (v := 10) C dX11_runs_206 rfl rfl ?_
  refine x_iload_n (pc2 := 209) C dX11_runs_208 2 rfl rfl rfl ?_
  refine x_imul (pc2 := 210) C dX11_runs_209 rfl ?_
  refine x_iadd (pc2 := 211) C dX11_runs_210 rfl ?_
  refine x_aload_n (pc2 := 212) C dX11_runs_211 1 rfl rfl rfl ?_
  refine x_getI (pc2 := 215) (f := 1156) C (by assumption) kf_11_261 dX11_runs_212 rfl rfl rfl ?_
  obtain ⟨j_38, hq_38⟩ : ∃ z : Int32, z = (if (xI Ω_34 1156 0 0) = 0 then (0 : Int32) else (1 : Int32)) := ⟨_, rfl⟩
  suffices hj_38 : XW G B 8 223 [(0, .ref (ad G 11 (0))), (7, .int (((xI r_16 2116 0 (((40 : Int32) * x1) + x2).toNatClampNeg) - (xI r_16 1155 0 0)) - j_19))] [.int (j_38), .int (((100000 : Int32) * (((xI r_16 2116 0 (((40 : Int32) * x1) + x2).toNatClampNeg) - (xI r_16 1155 0 0)) - j_19)) + ((10 : Int32) * x2)), .int (((40 : Int32) * (xI Ω_34 1158 0 0)) + (xI Ω_34 2129 0 (xI Ω_34 1158 0 0).toNatClampNeg)), .ref (ad G 2131 (0))] Ω_34 0 0 by
    refine x_if_eq (tgt := 222) (pc2 := 218) C dX11_runs_215 (by decide) rfl (fun qc_39 => ?_) (fun qc_39 => ?_)
    · refine x_iconst (pc2 := 223) (v := 0) C dX11_runs_222 rfl rfl ?_
      rw [if_pos qc_39] at hq_38
      subst hq_38
      exact x_sub (lv2 := [(0, _), (7, _)]) C [1, 0] rfl hj_38
    · refine x_iconst (pc2 := 219) (v := 1) C dX11_runs_218 rfl rfl ?_
      refine x_goto (tgt := 223) C dX11_runs_219 (by decide) ?_
      rw [if_neg qc_39] at hq_38
      subst hq_38
      exact x_sub (lv2 := [(0, _), (7, _)]) C [1, 0] rfl hj_38
  refine x_iadd (pc2 := 224) C dX11_runs_223 rfl ?_
  rcases (Decidable.em (inB (((40 : Int32) * (xI Ω_34 1158 0 0)) + (xI Ω_34 2129 0 (xI Ω_34 1158 0 0).toNatClampNeg)) 1920)).symm with qg_40 | qg_40
  · exact absurd hf (by rw [fX11_runs, if_pos qg_2, ob_s hq_3, if_pos qg_5, if_pos qg_6, wl_eq hw_7, if_pos qg_9, if_pos qg_11, if_pos qg_12, wl_eq hw_13, wl_eq hw_14, wl_eq hw_15, ob_s hq_16, if_pos qg_18, wl_eq hq_19, if_pos qg_22, if_pos qg_24, if_pos qg_25, wl_eq hw_26, wl_eq hw_28, if_pos qg_31, if_pos qg_32, if_pos qg_33, wl_eq hw_34, if_pos qg_37, wl_eq hq_38, if_neg qg_40]; exact nofun)
  refine x_iast (pc2 := 225) C (by assumption) dX11_runs_224 rfl (inB_in qg_40) rfl ?_
  obtain ⟨Ω_41, hw_41⟩ : ∃ z, z = uI Ω_34 2131 0 (((40 : Int32) * (xI Ω_34 1158 0 0)) + (xI Ω_34 2129 0 (xI Ω_34 1158 0 0).toNatClampNeg)).toNatClampNeg ((((100000 : Int32) * (((xI r_16 2116 0 (((40 : Int32) * x1) + x2).toNatClampNeg) - (xI r_16 1155 0 0)) - j_19)) + ((10 : Int32) * x2)) + j_38) := ⟨_, rfl⟩
  refine x_om hw_41 ?_
  refine x_aload_n (pc2 := 226) C dX11_runs_225 0 rfl rfl rfl ?_
  refine x_getR (f := 1129) (k2 := 2129) (pc2 := 229) C (by assumption) kf_11_95 dX11_runs_226 rfl rfl rfl (rti_i rfl) rfl (fun qd_42 => ?_)
  refine x_aload_n (pc2 := 230) C dX11_runs_229 0 rfl rfl rfl ?_
  refine x_getI (pc2 := 233) (f := 1158) C (by assumption) kf_11_246 dX11_runs_230 rfl rfl rfl ?_
  refine x_dup2 (pc2 := 234) C dX11_runs_233 rfl rfl rfl ?_
  rcases (Decidable.em (inB (xI Ω_41 1158 0 0) 48)).symm with qg_43 | qg_43
  · exact absurd hf (by rw [fX11_runs, if_pos qg_2, ob_s hq_3, if_pos qg_5, if_pos qg_6, wl_eq hw_7, if_pos qg_9, if_pos qg_11, if_pos qg_12, wl_eq hw_13, wl_eq hw_14, wl_eq hw_15, ob_s hq_16, if_pos qg_18, wl_eq hq_19, if_pos qg_22, if_pos qg_24, if_pos qg_25, wl_eq hw_26, wl_eq hw_28, if_pos qg_31, if_pos qg_32, if_pos qg_33, wl_eq hw_34, if_pos qg_37, wl_eq hq_38, if_pos qg_40, wl_eq hw_41, if_neg qg_43]; exact nofun)
  refine x_iald (pc2 := 235) C (by assumption) dX11_runs_234 rfl (inB_in qg_43) rfl ?_
  refine x_iconst (pc2 := 236) (v := 1) C dX11_runs_235 rfl rfl ?_
  refine x_iadd (pc2 := 237) C dX11_runs_236 rfl ?_
  rcases (Decidable.em (inB (xI Ω_41 1158 0 0) 48)).symm with qg_44 | qg_44
  · exact absurd hf (by rw [fX11_runs, if_pos qg_2, ob_s hq_3, if_pos qg_5, if_pos qg_6, wl_eq hw_7, if_pos qg_9, if_pos qg_11, if_pos qg_12, wl_eq hw_13, wl_eq hw_14, wl_eq hw_15, ob_s hq_16, if_pos qg_18, wl_eq hq_19, if_pos qg_22, if_pos qg_24, if_pos qg_25, wl_eq hw_26, wl_eq hw_28, if_pos qg_31, if_pos qg_32, if_pos qg_33, wl_eq hw_34, if_pos qg_37, wl_eq hq_38, if_pos qg_40, wl_eq hw_41, if_pos qg_43, if_neg qg_44]; exact nofun)
  refine x_iast (pc2 := 238) C (by assumption) dX11_runs_237 rfl (inB_in qg_44) rfl ?_
  obtain ⟨Ω_45, hw_45⟩ : ∃ z, z = uI Ω_41 2129 0 (xI Ω_41 1158 0 0).toNatClampNeg ((xI Ω_41 2129 0 (xI Ω_41 1158 0 0).toNatClampNeg) + (1 : Int32)) := ⟨_, rfl⟩
  refine x_om hw_45 ?_
  refine x_aload_n (pc2 := 239) C dX11_runs_238 0 rfl rfl rfl ?_
  refine x_getR (f := 1125) (k2 := 2125) (pc2 := 242) C (by assumption) kf_11_83 dX11_runs_239 rfl rfl rfl (rti_i rfl) rfl (fun qd_46 => ?_)
  refine x_aload_n (pc2 := 243) C dX11_runs_242 0 rfl rfl rfl ?_
  refine x_getI (pc2 := 246) (f := 1158) C (by assumption) kf_11_246 dX11_runs_243 rfl rfl rfl ?_
  refine x_dup2 (pc2 := 247) C dX11_runs_246 rfl rfl rfl ?_
  rcases (Decidable.em (inB (xI Ω_45 1158 0 0) 48)).symm with qg_47 | qg_47
  · exact absurd hf (by rw [fX11_runs, if_pos qg_2, ob_s hq_3, if_pos qg_5, if_pos qg_6, wl_eq hw_7, if_pos qg_9, if_pos qg_11, if_pos qg_12, wl_eq hw_13, wl_eq hw_14, wl_eq hw_15, ob_s hq_16, if_pos qg_18, wl_eq hq_19, if_pos qg_22, if_pos qg_24, if_pos qg_25, wl_eq hw_26, wl_eq hw_28, if_pos qg_31, if_pos qg_32, if_pos qg_33, wl_eq hw_34, if_pos qg_37, wl_eq hq_38, if_pos qg_40, wl_eq hw_41, if_pos qg_43, if_pos qg_44, wl_eq hw_45, if_neg qg_47]; exact nofun)
  refine x_iald (pc2 := 248) C (by assumption) dX11_runs_247 rfl (inB_in qg_47) rfl ?_
  refine x_iload (pc2 := 250) C dX11_runs_248 1 rfl rfl ?_
  refine x_iadd (pc2 := 251) C dX11_runs_250 rfl ?_
  rcases (Decidable.em (inB (xI Ω_45 1158 0 0) 48)).symm with qg_48 | qg_48
  · exact absurd hf (by rw [fX11_runs, if_pos qg_2, ob_s hq_3, if_pos qg_5, if_pos qg_6, wl_eq hw_7, if_pos qg_9, if_pos qg_11, if_pos qg_12, wl_eq hw_13, wl_eq hw_14, wl_eq hw_15, ob_s hq_16, if_pos qg_18, wl_eq hq_19, if_pos qg_22, if_pos qg_24, if_pos qg_25, wl_eq hw_26, wl_eq hw_28, if_pos qg_31, if_pos qg_32, if_pos qg_33, wl_eq hw_34, if_pos qg_37, wl_eq hq_38, if_pos qg_40, wl_eq hw_41, if_pos qg_43, if_pos qg_44, wl_eq hw_45, if_pos qg_47, if_neg qg_48]; exact nofun)
  refine x_iast (pc2 := 252) C (by assumption) dX11_runs_251 rfl (inB_in qg_48) rfl ?_
  obtain ⟨Ω_49, hw_49⟩ : ∃ z, z = uI Ω_45 2125 0 (xI Ω_45 1158 0 0).toNatClampNeg ((xI Ω_45 2125 0 (xI Ω_45 1158 0 0).toNatClampNeg) + (((xI r_16 2116 0 (((40 : Int32) * x1) + x2).toNatClampNeg) - (xI r_16 1155 0 0)) - j_19)) := ⟨_, rfl⟩
  refine x_om hw_49 ?_
  rw [fX11_runs, if_pos qg_2, ob_s hq_3, if_pos qg_5, if_pos qg_6, wl_eq hw_7, if_pos qg_9, if_pos qg_11, if_pos qg_12, wl_eq hw_13, wl_eq hw_14, wl_eq hw_15, ob_s hq_16, if_pos qg_18, wl_eq hq_19, if_pos qg_22, if_pos qg_24, if_pos qg_25, wl_eq hw_26, wl_eq hw_28, if_pos qg_31, if_pos qg_32, if_pos qg_33, wl_eq hw_34, if_pos qg_37, wl_eq hq_38, if_pos qg_40, wl_eq hw_41, if_pos qg_43, if_pos qg_44, wl_eq hw_45, if_pos qg_47, if_pos qg_48, wl_eq hw_49] at hf
  obtain rfl := (Option.some.inj hf).symm
  exact x_vreturn C dX11_runs_252 rfl (Nat.le_of_ble_eq_true rfl) (Nat.le_of_ble_eq_true rfl) rfl rfl
def fX11_pick_l18 (Ω : XO) (y3 : Int32) (y1 : Int32) (y2 : Int32) : Nat → Int32 → Int32 → Option (Int32 × Int32)
  | 0, _, _ => none
  | n + 1, y5, y4 => (if inB y1 2 then (if (xI Ω 2108 0 y1.toNatClampNeg) ≤ y5 then (some (y5, y4)) else (if inB (((40 : Int32) * y1) + y5) 80 then (((if (xI Ω 2119 0 (((40 : Int32) * y1) + y5).toNatClampNeg) = 0 then (if inB (((40 : Int32) * y1) + y5) 80 then (if inB (((24 : Int32) * y1) + y2) 48 then (if ((600 : Int32) - (xI Ω 2125 0 (((24 : Int32) * y1) + y2).toNatClampNeg)) < (xI Ω 2116 0 (((40 : Int32) * y1) + y5).toNatClampNeg) then (some (0 : Int32)) else (fX11_fit Ω (((40 : Int32) * y1) + y5) y3).bind (fun r_13 => (if r_13 = 0 then (some (0 : Int32)) else (fX11_isIn Ω y1 y2 y5).bind (fun r_15 => (if r_15 = 0 then (some (1 : Int32)) else (some (0 : Int32))))))) else none) else none) else (some (0 : Int32))) : Option (Int32))).bind (fun j_6 => (((if j_6 = 0 then (some y4) else (if y4 < 0 then (some y5) else (fX11_price Ω (((40 : Int32) * y1) + y5) y3).bind (fun r_20 => (fX11_price Ω (((40 : Int32) * y1) + y4) y3).bind (fun r_21 => (if r_20 ≤ r_21 then (some y4) else (some y5)))))) : Option (Int32))).bind (fun j_17 => fX11_pick_l18 Ω y3 y1 y2 n (y5 + 1) j_17)) else none)) else none)
set_option maxRecDepth 20000 in
theorem lX11_pick_l18 {G : XG} (hok : XK G) {B : XB} {y3 : Int32} {y1 : Int32} {y2 : Int32} {Ω : XO} (hf0 : dm G 11 0)   {T : Option Value ⊕ String} {Ω9 : XO} (C : XC G B cX11_pick RX11 (RM 1 0) 8 ((some FieldType.int)) T Ω9) : ∀ (n : Nat) (y5 : Int32) (y4 : Int32) {r : (Int32 × Int32)}, fX11_pick_l18 Ω y3 y1 y2 n y5 y4 = some r → (∀ q, r = q → (XW G B 8 148 [(4, .int (q.2))] [] Ω 0 0)) → XW G B 8 18 [(5, .int (y5)), (4, .int (y4)), (3, .int (y3)), (0, .ref (ad G 11 (0))), (1, .int (y1)), (2, .int (y2))] [] Ω 0 0 := by
  intro n
  induction n with
  | zero => intro y5 y4 r hf; exact absurd hf (by rw [fX11_pick_l18]; exact nofun)
  | succ n ih =>
    intro y5 y4 r hf hk
    refine x_iload (pc2 := 20) C dX11_pick_18 0 rfl rfl ?_
    refine x_aload_n (pc2 := 21) C dX11_pick_20 3 rfl rfl rfl ?_
    refine x_getR (f := 1108) (k2 := 2108) (pc2 := 24) C (by assumption) kf_11_31 dX11_pick_21 rfl rfl rfl (rti_i rfl) rfl (fun qd_1 => ?_)
    refine x_iload_n (pc2 := 25) C dX11_pick_24 4 rfl rfl rfl ?_
    rcases (Decidable.em (inB y1 2)).symm with qg_2 | qg_2
    · exact absurd hf (by rw [fX11_pick_l18, if_neg qg_2]; exact nofun)
    refine x_iald (pc2 := 26) C (by assumption) dX11_pick_25 rfl (inB_in qg_2) rfl ?_
    refine x_icmp_ge (tgt := 148) (pc2 := 29) C dX11_pick_26 (by decide) rfl (fun qc_3 => ?_) (fun qc_3 => ?_)
    · rw [fX11_pick_l18, if_pos qg_2, if_pos qc_3] at hf
      exact x_sub (lv2 := [(4, _)]) C [1] rfl (hk _ (Option.some.inj hf).symm)
    · refine x_bipush (pc2 := 31) (v := 40) C dX11_pick_29 rfl rfl ?_
      refine x_iload_n (pc2 := 32) C dX11_pick_31 4 rfl rfl rfl ?_
      refine x_imul (pc2 := 33) C dX11_pick_32 rfl ?_
      refine x_iload (pc2 := 35) C dX11_pick_33 0 rfl rfl ?_
      refine x_iadd (pc2 := 36) C dX11_pick_35 rfl ?_
      refine x_istore (pc2 := 38) (lv2 := [(6, _), (5, _), (4, _), (3, _), (0, _), (1, _), (2, _)]) C dX11_pick_36 (by decide) rfl rfl ?_
      refine x_aload_n (pc2 := 39) C dX11_pick_38 4 rfl rfl rfl ?_
      refine x_getR (f := 1119) (k2 := 2119) (pc2 := 42) C (by assumption) kf_11_64 dX11_pick_39 rfl rfl rfl (rti_i rfl) rfl (fun qd_4 => ?_)
      refine x_iload (pc2 := 44) C dX11_pick_42 0 rfl rfl ?_
      rcases (Decidable.em (inB (((40 : Int32) * y1) + y5) 80)).symm with qg_5 | qg_5
      · exact absurd hf (by rw [fX11_pick_l18, if_pos qg_2, if_neg qc_3, if_neg qg_5]; exact nofun)
      refine x_iald (pc2 := 45) C (by assumption) dX11_pick_44 rfl (inB_in qg_5) rfl ?_
      rcases opt_em ((if (xI Ω 2119 0 (((40 : Int32) * y1) + y5).toNatClampNeg) = 0 then (if inB (((40 : Int32) * y1) + y5) 80 then (if inB (((24 : Int32) * y1) + y2) 48 then (if ((600 : Int32) - (xI Ω 2125 0 (((24 : Int32) * y1) + y2).toNatClampNeg)) < (xI Ω 2116 0 (((40 : Int32) * y1) + y5).toNatClampNeg) then (some (0 : Int32)) else (fX11_fit Ω (((40 : Int32) * y1) + y5) y3).bind (fun r_13 => (if r_13 = 0 then (some (0 : Int32)) else (fX11_isIn Ω y1 y2 y5).bind (fun r_15 => (if r_15 = 0 then (some (1 : Int32)) else (some (0 : Int32))))))) else none) else none) else (some (0 : Int32))) : Option (Int32)) with hq_6 | ⟨j_6, hq_6⟩
      · exact absurd hf (by rw [fX11_pick_l18, if_pos qg_2, if_neg qc_3, if_pos qg_5, ob_n hq_6]; exact nofun)
      suffices hj_6 : XW G B 8 99 [(0, .ref (ad G 11 (0))), (1, .int (y1)), (2, .int (y2)), (3, .int (y3)), (4, .int (y4)), (5, .int (y5)), (6, .int (((40 : Int32) * y1) + y5))] [.int (j_6)] Ω 0 0 by
        refine x_if_ne (tgt := 98) (pc2 := 48) C dX11_pick_45 (by decide) rfl (fun qc_7 => ?_) (fun qc_7 => ?_)
        · refine x_iconst (pc2 := 99) (v := 0) C dX11_pick_98 rfl rfl ?_
          rw [if_neg qc_7] at hq_6
          obtain rfl := (Option.some.inj hq_6).symm
          exact x_sub (lv2 := [(0, _), (1, _), (2, _), (3, _), (4, _), (5, _), (6, _)]) C [4, 5, 6, 3, 2, 1, 0] rfl hj_6
        · refine x_aload_n (pc2 := 49) C dX11_pick_48 4 rfl rfl rfl ?_
          refine x_getR (f := 1116) (k2 := 2116) (pc2 := 52) C (by assumption) kf_11_55 dX11_pick_49 rfl rfl rfl (rti_i rfl) rfl (fun qd_8 => ?_)
          refine x_iload (pc2 := 54) C dX11_pick_52 0 rfl rfl ?_
          rcases (Decidable.em (inB (((40 : Int32) * y1) + y5) 80)).symm with qg_9 | qg_9
          · exact absurd hq_6 (by rw [if_pos qc_7, if_neg qg_9]; exact nofun)
          refine x_iald (pc2 := 55) C (by assumption) dX11_pick_54 rfl (inB_in qg_9) rfl ?_
          refine x_sipush (pc2 := 58) (v := 600) C dX11_pick_55 rfl rfl ?_
          refine x_aload_n (pc2 := 59) C dX11_pick_58 4 rfl rfl rfl ?_
          refine x_getR (f := 1125) (k2 := 2125) (pc2 := 62) C (by assumption) kf_11_83 dX11_pick_59 rfl rfl rfl (rti_i rfl) rfl (fun qd_10 => ?_)
          refine x_bipush (pc2 := 64) (v := 24) C dX11_pick_62 rfl rfl ?_
          refine x_iload_n (pc2 := 65) C dX11_pick_64 5 rfl rfl rfl ?_
          refine x_imul (pc2 := 66) C dX11_pick_65 rfl ?_
          refine x_iload_n (pc2 := 67) C dX11_pick_66 6 rfl rfl rfl ?_
          refine x_iadd (pc2 := 68) C dX11_pick_67 rfl ?_
          rcases (Decidable.em (inB (((24 : Int32) * y1) + y2) 48)).symm with qg_11 | qg_11
          · exact absurd hq_6 (by rw [if_pos qc_7, if_pos qg_9, if_neg qg_11]; exact nofun)
          refine x_iald (pc2 := 69) C (by assumption) dX11_pick_68 rfl (inB_in qg_11) rfl ?_
          refine x_isub (pc2 := 70) C dX11_pick_69 rfl ?_
          refine x_icmp_gt (tgt := 98) (pc2 := 73) C dX11_pick_70 (by decide) rfl (fun qc_12 => ?_) (fun qc_12 => ?_)
          · refine x_iconst (pc2 := 99) (v := 0) C dX11_pick_98 rfl rfl ?_
            rw [if_pos qc_7, if_pos qg_9, if_pos qg_11, if_pos qc_12] at hq_6
            obtain rfl := (Option.some.inj hq_6).symm
            exact x_sub (lv2 := [(0, _), (1, _), (2, _), (3, _), (4, _), (5, _), (6, _)]) C [4, 5, 6, 3, 2, 1, 0] rfl hj_6
          · refine x_aload_n (pc2 := 74) C dX11_pick_73 4 rfl rfl rfl ?_
            refine x_iload (pc2 := 76) C dX11_pick_74 0 rfl rfl ?_
            refine x_iload_n (pc2 := 77) C dX11_pick_76 3 rfl rfl rfl ?_
            rcases opt_em (fX11_fit Ω (((40 : Int32) * y1) + y5) y3) with hq_13 | ⟨r_13, hq_13⟩
            · exact absurd hq_6 (by rw [if_pos qc_7, if_pos qg_9, if_pos qg_11, if_neg qc_12, ob_n hq_13]; exact nofun)
            refine x_ret (rest := []) (st2 := [_]) (pc2 := 80) (cu2 := 0) (su2 := 0) (x_cV C (by assumption) (Nat.le_of_ble_eq_true rfl) kmX11_fit rfl kk_11_346 (tX11_fit hok (by assumption)  hq_13) rfl rfl (Nat.le_of_ble_eq_true rfl) ⟨Nat.le_of_ble_eq_true rfl, Nat.le_of_ble_eq_true rfl⟩ ⟨Nat.le_of_ble_eq_true rfl, Nat.le_of_ble_eq_true rfl⟩ dX11_pick_77) rfl rfl rfl rfl ?_
            refine x_if_eq (tgt := 98) (pc2 := 83) C dX11_pick_80 (by decide) rfl (fun qc_14 => ?_) (fun qc_14 => ?_)
            · refine x_iconst (pc2 := 99) (v := 0) C dX11_pick_98 rfl rfl ?_
              rw [if_pos qc_7, if_pos qg_9, if_pos qg_11, if_neg qc_12, ob_s hq_13, if_pos qc_14] at hq_6
              obtain rfl := (Option.some.inj hq_6).symm
              exact x_sub (lv2 := [(0, _), (1, _), (2, _), (3, _), (4, _), (5, _), (6, _)]) C [4, 5, 6, 3, 2, 1, 0] rfl hj_6
            · refine x_aload_n (pc2 := 84) C dX11_pick_83 4 rfl rfl rfl ?_
              refine x_iload_n (pc2 := 85) C dX11_pick_84 5 rfl rfl rfl ?_
              refine x_iload_n (pc2 := 86) C dX11_pick_85 6 rfl rfl rfl ?_
              refine x_iload (pc2 := 88) C dX11_pick_86 1 rfl rfl ?_
              rcases opt_em (fX11_isIn Ω y1 y2 y5) with hq_15 | ⟨r_15, hq_15⟩
              · exact absurd hq_6 (by rw [if_pos qc_7, if_pos qg_9, if_pos qg_11, if_neg qc_12, ob_s hq_13, if_neg qc_14, ob_n hq_15]; exact nofun)
              refine x_ret (rest := []) (st2 := [_]) (pc2 := 91) (cu2 := 0) (su2 := 0) (x_cV C (by assumption) (Nat.le_of_ble_eq_true rfl) kmX11_isIn rfl kk_11_217 (tX11_isIn hok (by assumption)  hq_15) rfl rfl (Nat.le_of_ble_eq_true rfl) ⟨Nat.le_of_ble_eq_true rfl, Nat.le_of_ble_eq_true rfl⟩ ⟨Nat.le_of_ble_eq_true rfl, Nat.le_of_ble_eq_true rfl⟩ dX11_pick_88) rfl rfl rfl rfl ?_
              refine x_if_ne (tgt := 98) (pc2 := 94) C dX11_pick_91 (by decide) rfl (fun qc_16 => ?_) (fun qc_16 => ?_)
              · refine x_iconst (pc2 := 99) (v := 0) C dX11_pick_98 rfl rfl ?_
                rw [if_pos qc_7, if_pos qg_9, if_pos qg_11, if_neg qc_12, ob_s hq_13, if_neg qc_14, ob_s hq_15, if_neg qc_16] at hq_6
                obtain rfl := (Option.some.inj hq_6).symm
                exact x_sub (lv2 := [(0, _), (1, _), (2, _), (3, _), (4, _), (5, _), (6, _)]) C [4, 5, 6, 3, 2, 1, 0] rfl hj_6
              · refine x_iconst (pc2 := 95) (v := 1) C dX11_pick_94 rfl rfl ?_
                refine x_goto (tgt := 99) C dX11_pick_95 (by decide) ?_
                rw [if_pos qc_7, if_pos qg_9, if_pos qg_11, if_neg qc_12, ob_s hq_13, if_neg qc_14, ob_s hq_15, if_pos qc_16] at hq_6
                obtain rfl := (Option.some.inj hq_6).symm
                exact x_sub (lv2 := [(0, _), (1, _), (2, _), (3, _), (4, _), (5, _), (6, _)]) C [4, 5, 6, 3, 2, 1, 0] rfl hj_6
      refine x_istore (pc2 := 101) (lv2 := [(7, _), (0, _), (1, _), (2, _), (3, _), (4, _), (5, _), (6, _)]) C dX11_pick_99 (by decide) rfl rfl ?_
      refine x_iload (pc2 := 103) C dX11_pick_101 0 rfl rfl ?_
      rcases opt_em ((if j_6 = 0 then (some y4) else (if y4 < 0 then (some y5) else (fX11_price Ω (((40 : Int32) * y1) + y5) y3).bind (fun r_20 => (fX11_price Ω (((40 : Int32) * y1) + y4) y3).bind (fun r_21 => (if r_20 ≤ r_21 then (some y4) else (some y5)))))) : Option (Int32)) with hq_17 | ⟨j_17, hq_17⟩
      · exact absurd hf (by rw [fX11_pick_l18, if_pos qg_2, if_neg qc_3, if_pos qg_5, ob_s hq_6, ob_n hq_17]; exact nofun)
      suffices hj_17 : XW G B 8 140 [(0, .ref (ad G 11 (0))), (1, .int (y1)), (2, .int (y2)), (3, .int (y3)), (5, .int (y5))] [.int (j_17)] Ω 0 0 by
        refine x_if_eq (tgt := 138) (pc2 := 106) C dX11_pick_103 (by decide) rfl (fun qc_18 => ?_) (fun qc_18 => ?_)
        · refine x_iload (pc2 := 140) C dX11_pick_138 5 rfl rfl ?_
          rw [if_pos qc_18] at hq_17
          obtain rfl := (Option.some.inj hq_17).symm
          exact x_sub (lv2 := [(0, _), (1, _), (2, _), (3, _), (5, _)]) C [1, 2, 3, 4, 6] rfl hj_17
        · refine x_iload (pc2 := 108) C dX11_pick_106 5 rfl rfl ?_
          refine x_if_lt (tgt := 133) (pc2 := 111) C dX11_pick_108 (by decide) rfl (fun qc_19 => ?_) (fun qc_19 => ?_)
          · refine x_iload (pc2 := 135) C dX11_pick_133 6 rfl rfl ?_
            refine x_goto (tgt := 140) C dX11_pick_135 (by decide) ?_
            rw [if_neg qc_18, if_pos qc_19] at hq_17
            obtain rfl := (Option.some.inj hq_17).symm
            exact x_sub (lv2 := [(0, _), (1, _), (2, _), (3, _), (5, _)]) C [1, 2, 3, 4, 6] rfl hj_17
          · refine x_aload_n (pc2 := 112) C dX11_pick_111 1 rfl rfl rfl ?_
            refine x_iload (pc2 := 114) C dX11_pick_112 7 rfl rfl ?_
            refine x_iload_n (pc2 := 115) C dX11_pick_114 4 rfl rfl rfl ?_
            rcases opt_em (fX11_price Ω (((40 : Int32) * y1) + y5) y3) with hq_20 | ⟨r_20, hq_20⟩
            · exact absurd hq_17 (by rw [if_neg qc_18, if_neg qc_19, ob_n hq_20]; exact nofun)
            refine x_ret (rest := []) (st2 := [_]) (pc2 := 118) (cu2 := 0) (su2 := 0) (x_cV C (by assumption) (Nat.le_of_ble_eq_true rfl) kmX11_price rfl kk_11_339 (tX11_price hok (by assumption)  hq_20) rfl rfl (Nat.le_of_ble_eq_true rfl) ⟨Nat.le_of_ble_eq_true rfl, Nat.le_of_ble_eq_true rfl⟩ ⟨Nat.le_of_ble_eq_true rfl, Nat.le_of_ble_eq_true rfl⟩ dX11_pick_115) rfl rfl rfl rfl ?_
            refine x_aload_n (pc2 := 119) C dX11_pick_118 1 rfl rfl rfl ?_
            refine x_bipush (pc2 := 121) (v := 40) C dX11_pick_119 rfl rfl ?_
            refine x_iload_n (pc2 := 122) C dX11_pick_121 2 rfl rfl rfl ?_
            refine x_imul (pc2 := 123) C dX11_pick_122 rfl ?_
            refine x_iload (pc2 := 125) C dX11_pick_123 5 rfl rfl ?_
            refine x_iadd (pc2 := 126) C dX11_pick_125 rfl ?_
            refine x_iload_n (pc2 := 127) C dX11_pick_126 4 rfl rfl rfl ?_
            rcases opt_em (fX11_price Ω (((40 : Int32) * y1) + y4) y3) with hq_21 | ⟨r_21, hq_21⟩
            · exact absurd hq_17 (by rw [if_neg qc_18, if_neg qc_19, ob_s hq_20, ob_n hq_21]; exact nofun)
            refine x_ret (rest := [_]) (st2 := [_, _]) (pc2 := 130) (cu2 := 0) (su2 := 0) (x_cV C (by assumption) (Nat.le_of_ble_eq_true rfl) kmX11_price rfl kk_11_339 (tX11_price hok (by assumption)  hq_21) rfl rfl (Nat.le_of_ble_eq_true rfl) ⟨Nat.le_of_ble_eq_true rfl, Nat.le_of_ble_eq_true rfl⟩ ⟨Nat.le_of_ble_eq_true rfl, Nat.le_of_ble_eq_true rfl⟩ dX11_pick_127) rfl rfl rfl rfl ?_
            refine x_icmp_le (tgt := 138) (pc2 := 133) C dX11_pick_130 (by decide) rfl (fun qc_22 => ?_) (fun qc_22 => ?_)
            · refine x_iload (pc2 := 140) C dX11_pick_138 5 rfl rfl ?_
              rw [if_neg qc_18, if_neg qc_19, ob_s hq_20, ob_s hq_21, if_pos qc_22] at hq_17
              obtain rfl := (Option.some.inj hq_17).symm
              exact x_sub (lv2 := [(0, _), (1, _), (2, _), (3, _), (5, _)]) C [1, 2, 3, 4, 6] rfl hj_17
            · refine x_iload (pc2 := 135) C dX11_pick_133 6 rfl rfl ?_
              refine x_goto (tgt := 140) C dX11_pick_135 (by decide) ?_
              rw [if_neg qc_18, if_neg qc_19, ob_s hq_20, ob_s hq_21, if_neg qc_22] at hq_17
              obtain rfl := (Option.some.inj hq_17).symm
              exact x_sub (lv2 := [(0, _), (1, _), (2, _), (3, _), (5, _)]) C [1, 2, 3, 4, 6] rfl hj_17
      refine x_istore (pc2 := 142) (lv2 := [(4, _), (0, _), (1, _), (2, _), (3, _), (5, _)]) C dX11_pick_140 (by decide) rfl rfl ?_
      refine x_iinc (pc2 := 145) (v := y5 + 1) (lv2 := [(5, _), (4, _), (0, _), (1, _), (2, _), (3, _)]) C dX11_pick_142 5 rfl rfl (by decide) rfl rfl ?_
      refine x_goto (tgt := 18) C dX11_pick_145 (by decide) ?_
      exact x_sub (lv2 := [(5, _), (4, _), (3, _), (0, _), (1, _), (2, _)]) C [0, 1, 5, 2, 3, 4] rfl (ih (y5 + 1) j_17 (by rw [fX11_pick_l18, if_pos qg_2, if_neg qc_3, if_pos qg_5, ob_s hq_6, ob_s hq_17] at hf; exact hf) hk)
def fX11_pick (Ω : XO) (x1 : Int32) (x2 : Int32) : Option (Int32) := (if inB (((24 : Int32) * x1) + x2) 48 then (fX11_pick_l18 Ω (xI Ω 2124 0 (((24 : Int32) * x1) + x2).toNatClampNeg) x1 x2 ((xI Ω 2108 0 x1.toNatClampNeg).toNatClampNeg + 1) (0 : Int32) (-1 : Int32)).bind (fun q_3 => (some q_3.2)) else none)
set_option maxRecDepth 20000 in
theorem tX11_pick {G : XG} (hok : XK G) {x1 : Int32} {x2 : Int32} {Ω : XO} (hd0 : dm G 11 0)   {r : Int32} (hf : fX11_pick Ω x1 x2 = some r) : XM G yX11_pick cX11_pick 8 ((some FieldType.int)) (RM 1 0) [.ref (ad G 11 0), .int x1, .int x2] Ω (.inl (some (.int (r)))) Ω := by
  refine x_start (lv := [(0, .ref (ad G 11 0)), (1, .int x1), (2, .int x2)]) (own := RX11) hok (by decide +kernel) rfl (Nat.le_of_ble_eq_true rfl) rfl (fun B C => ?_)
  refine x_aload_n (pc2 := 1) C dX11_pick_0 0 rfl rfl rfl ?_
  refine x_getR (f := 1124) (k2 := 2124) (pc2 := 4) C (by assumption) kf_11_80 dX11_pick_1 rfl rfl rfl (rti_i rfl) rfl (fun qd_1 => ?_)
  refine x_bipush (pc2 := 6) (v := 24) C dX11_pick_4 rfl rfl ?_
  refine x_iload_n (pc2 := 7) C dX11_pick_6 1 rfl rfl rfl ?_
  refine x_imul (pc2 := 8) C dX11_pick_7 rfl ?_
  refine x_iload_n (pc2 := 9) C dX11_pick_8 2 rfl rfl rfl ?_
  refine x_iadd (pc2 := 10) C dX11_pick_9 rfl ?_
  rcases (Decidable.em (inB (((24 : Int32) * x1) + x2) 48)).symm with qg_2 | qg_2
  · exact absurd hf (by rw [fX11_pick, if_neg qg_2]; exact nofun)
  refine x_iald (pc2 := 11) C (by assumption) dX11_pick_10 rfl (inB_in qg_2) rfl ?_
  refine x_istore_n (pc2 := 12) (lv2 := [(3, _), (0, _), (1, _), (2, _)]) C dX11_pick_11 rfl (by decide) rfl rfl ?_
  refine x_iconst (pc2 := 13) (v := (-1)) C dX11_pick_12 rfl rfl ?_
  refine x_istore (pc2 := 15) (lv2 := [(4, _), (3, _), (0, _), (1, _), (2, _)]) C dX11_pick_13 (by decide) rfl rfl ?_
  refine x_iconst (pc2 := 16) (v := 0) C dX11_pick_15 rfl rfl ?_
  refine x_istore (pc2 := 18) (lv2 := [(5, _), (4, _), (3, _), (0, _), (1, _), (2, _)]) C dX11_pick_16 (by decide) rfl rfl ?_
  rcases opt_em (fX11_pick_l18 Ω (xI Ω 2124 0 (((24 : Int32) * x1) + x2).toNatClampNeg) x1 x2 ((xI Ω 2108 0 x1.toNatClampNeg).toNatClampNeg + 1) (0 : Int32) (-1 : Int32)) with hq_3 | ⟨q_3, hq_3⟩
  · exact absurd hf (by rw [fX11_pick, if_pos qg_2, ob_n hq_3]; exact nofun)
  refine x_sub (lv2 := [(5, _), (4, _), (3, _), (0, _), (1, _), (2, _)]) C [0, 1, 2, 3, 4, 5] rfl (lX11_pick_l18 hok (by assumption) C ((xI Ω 2108 0 x1.toNatClampNeg).toNatClampNeg + 1) (0 : Int32) (-1 : Int32) hq_3 (fun q9 h9 => ?_))
  cases h9
  refine x_iload (pc2 := 150) C dX11_pick_148 0 rfl rfl ?_
  rw [fX11_pick, if_pos qg_2, ob_s hq_3] at hf
  obtain rfl := (Option.some.inj hf).symm
  exact x_ireturn C dX11_pick_150 rfl (Nat.le_of_ble_eq_true rfl) (Nat.le_of_ble_eq_true rfl) rfl rfl
def fX11_from_l3 (Ω : XO) (y1 : Int32) (y3 : Int32) : Nat → Int32 → Option (Int32)
  | 0, _ => none
  | n + 1, y4 => (if y4 < 0 then (some y4) else (if y4 = y3 then (some y4) else (if inB (((24 : Int32) * y1) + y4) 48 then fX11_from_l3 Ω y1 y3 n (xI Ω 2120 0 (((24 : Int32) * y1) + y4).toNatClampNeg) else none)))
set_option maxRecDepth 20000 in
theorem lX11_from_l3 {G : XG} (hok : XK G) {B : XB} {y1 : Int32} {y3 : Int32} {Ω : XO} (hf0 : dm G 11 0)   {T : Option Value ⊕ String} {Ω9 : XO} (C : XC G B cX11_from RX11 (RM 0 0) 5 ((some FieldType.boolean)) T Ω9) : ∀ (n : Nat) (y4 : Int32) {r : (Int32)}, fX11_from_l3 Ω y1 y3 n y4 = some r → (∀ q, r = q → (XW G B 5 31 [(4, .int (q)), (3, .int (y3))] [] Ω 0 0)) → XW G B 5 3 [(4, .int (y4)), (0, .ref (ad G 11 (0))), (1, .int (y1)), (3, .int (y3))] [] Ω 0 0 := by
  intro n
  induction n with
  | zero => intro y4 r hf; exact absurd hf (by rw [fX11_from_l3]; exact nofun)
  | succ n ih =>
    intro y4 r hf hk
    refine x_iload (pc2 := 5) C dX11_from_3 0 rfl rfl ?_
    refine x_if_lt (tgt := 31) (pc2 := 8) C dX11_from_5 (by decide) rfl (fun qc_1 => ?_) (fun qc_1 => ?_)
    · rw [fX11_from_l3, if_pos qc_1] at hf
      exact x_sub (lv2 := [(4, _), (3, _)]) C [0, 3] rfl (hk _ (Option.some.inj hf).symm)
    · refine x_iload (pc2 := 10) C dX11_from_8 0 rfl rfl ?_
      refine x_iload_n (pc2 := 11) C dX11_from_10 3 rfl rfl rfl ?_
      refine x_icmp_eq (tgt := 31) (pc2 := 14) C dX11_from_11 (by decide) rfl (fun qc_2 => ?_) (fun qc_2 => ?_)
      · rw [fX11_from_l3, if_neg qc_1, if_pos qc_2] at hf
        exact x_sub (lv2 := [(4, _), (3, _)]) C [0, 3] rfl (hk _ (Option.some.inj hf).symm)
      · refine x_aload_n (pc2 := 15) C dX11_from_14 1 rfl rfl rfl ?_
        refine x_getR (f := 1120) (k2 := 2120) (pc2 := 18) C (by assumption) kf_11_67 dX11_from_15 rfl rfl rfl (rti_i rfl) rfl (fun qd_3 => ?_)
        refine x_bipush (pc2 := 20) (v := 24) C dX11_from_18 rfl rfl ?_
        refine x_iload_n (pc2 := 21) C dX11_from_20 2 rfl rfl rfl ?_
        refine x_imul (pc2 := 22) C dX11_from_21 rfl ?_
        refine x_iload (pc2 := 24) C dX11_from_22 0 rfl rfl ?_
        refine x_iadd (pc2 := 25) C dX11_from_24 rfl ?_
        rcases (Decidable.em (inB (((24 : Int32) * y1) + y4) 48)).symm with qg_4 | qg_4
        · exact absurd hf (by rw [fX11_from_l3, if_neg qc_1, if_neg qc_2, if_neg qg_4]; exact nofun)
        refine x_iald (pc2 := 26) C (by assumption) dX11_from_25 rfl (inB_in qg_4) rfl ?_
        refine x_istore (pc2 := 28) (lv2 := [(4, _), (0, _), (1, _), (3, _)]) C dX11_from_26 (by decide) rfl rfl ?_
        refine x_goto (tgt := 3) C dX11_from_28 (by decide) ?_
        exact x_sub (lv2 := [(4, _), (0, _), (1, _), (3, _)]) C [0, 1, 2, 3] rfl (ih (xI Ω 2120 0 (((24 : Int32) * y1) + y4).toNatClampNeg) (by rw [fX11_from_l3, if_neg qc_1, if_neg qc_2, if_pos qg_4] at hf; exact hf) hk)
def fX11_from (Ω : XO) (x1 : Int32) (x2 : Int32) (x3 : Int32) : Option (Int32) := (fX11_from_l3 Ω x1 x3 26 x2).bind (fun q_1 => (wl ((if q_1 = x3 then (1 : Int32) else (0 : Int32))) (fun (j_2 : Int32) => (if j_2 = 0 ∨ j_2 = 1 then (some j_2) else none))))
set_option maxRecDepth 20000 in
theorem tX11_from {G : XG} (hok : XK G) {x1 : Int32} {x2 : Int32} {x3 : Int32} {Ω : XO} (hd0 : dm G 11 0)   {r : Int32} (hf : fX11_from Ω x1 x2 x3 = some r) : XM G yX11_from cX11_from 5 ((some FieldType.boolean)) (RM 0 0) [.ref (ad G 11 0), .int x1, .int x2, .int x3] Ω (.inl (some (.int (r)))) Ω := by
  refine x_start (lv := [(0, .ref (ad G 11 0)), (1, .int x1), (2, .int x2), (3, .int x3)]) (own := RX11) hok (by decide +kernel) rfl (Nat.le_of_ble_eq_true rfl) rfl (fun B C => ?_)
  refine x_iload_n (pc2 := 1) C dX11_from_0 2 rfl rfl rfl ?_
  refine x_istore (pc2 := 3) (lv2 := [(4, _), (0, _), (1, _), (2, _), (3, _)]) C dX11_from_1 (by decide) rfl rfl ?_
  rcases opt_em (fX11_from_l3 Ω x1 x3 26 x2) with hq_1 | ⟨q_1, hq_1⟩
  · exact absurd hf (by rw [fX11_from, ob_n hq_1]; exact nofun)
  refine x_sub (lv2 := [(4, _), (0, _), (1, _), (3, _)]) C [0, 1, 2, 4] rfl (lX11_from_l3 hok (by assumption) C 26 x2 hq_1 (fun q9 h9 => ?_))
  cases h9
  refine x_iload (pc2 := 33) C dX11_from_31 0 rfl rfl ?_
  refine x_iload_n (pc2 := 34) C dX11_from_33 1 rfl rfl rfl ?_
  obtain ⟨j_2, hq_2⟩ : ∃ z : Int32, z = (if q_1 = x3 then (1 : Int32) else (0 : Int32)) := ⟨_, rfl⟩
  suffices hj_2 : XW G B 5 42 [] [.int (j_2)] Ω 0 0 by
    refine x_icmp_ne (tgt := 41) (pc2 := 37) C dX11_from_34 (by decide) rfl (fun qc_3 => ?_) (fun qc_3 => ?_)
    · refine x_iconst (pc2 := 42) (v := 0) C dX11_from_41 rfl rfl ?_
      rw [if_neg qc_3] at hq_2
      subst hq_2
      exact x_sub (lv2 := []) C [] rfl hj_2
    · refine x_iconst (pc2 := 38) (v := 1) C dX11_from_37 rfl rfl ?_
      refine x_goto (tgt := 42) C dX11_from_38 (by decide) ?_
      rw [if_pos qc_3] at hq_2
      subst hq_2
      exact x_sub (lv2 := []) C [] rfl hj_2
  rcases (Decidable.em (j_2 = 0 ∨ j_2 = 1)).symm with qg_4 | qg_4
  · exact absurd hf (by rw [fX11_from, ob_s hq_1, wl_eq hq_2, if_neg qg_4]; exact nofun)
  rw [fX11_from, ob_s hq_1, wl_eq hq_2, if_pos qg_4] at hf
  obtain rfl := (Option.some.inj hf).symm
  exact x_zreturn C dX11_from_42 rfl qg_4 (Nat.le_of_ble_eq_true rfl) (Nat.le_of_ble_eq_true rfl) rfl rfl
def fX11_headOf_l9 (Ω : XO) (y1 : Int32) : Nat → Int32 → Int32 → Option (Int32 × Int32)
  | 0, _, _ => none
  | n + 1, y3, y2 => (if inB y1 2 then (if (xI Ω 2109 0 y1.toNatClampNeg) ≤ y3 then (some (y3, y2)) else (if inB y1 2 then (fX11_from Ω y1 y3 (xI Ω 2110 0 y1.toNatClampNeg)).bind (fun r_6 => (((if r_6 = 0 then (some y2) else (if inB (((24 : Int32) * y1) + y3) 48 then (if inB (((24 : Int32) * y1) + y2) 48 then (if 0 < (lg_cmp (xL Ω 2123 0 (((24 : Int32) * y1) + y3).toNatClampNeg) (xL Ω 2123 0 (((24 : Int32) * y1) + y2).toNatClampNeg)) then (some y3) else (if inB (((24 : Int32) * y1) + y3) 48 then (if inB (((24 : Int32) * y1) + y2) 48 then (if (lg_cmp (xL Ω 2123 0 (((24 : Int32) * y1) + y3).toNatClampNeg) (xL Ω 2123 0 (((24 : Int32) * y1) + y2).toNatClampNeg)) = 0 then (if y2 ≤ y3 then (some y2) else (some y3)) else (some y2)) else none) else none)) else none) else none)) : Option (Int32))).bind (fun j_7 => fX11_headOf_l9 Ω y1 n (y3 + 1) j_7)) else none)) else none)
set_option maxRecDepth 20000 in
theorem lX11_headOf_l9 {G : XG} (hok : XK G) {B : XB} {y1 : Int32} {Ω : XO} (hf0 : dm G 11 0)   {T : Option Value ⊕ String} {Ω9 : XO} (C : XC G B cX11_headOf RX11 (RM 1 0) 4 ((some FieldType.int)) T Ω9) : ∀ (n : Nat) (y3 : Int32) (y2 : Int32) {r : (Int32 × Int32)}, fX11_headOf_l9 Ω y1 n y3 y2 = some r → (∀ q, r = q → (XW G B 4 103 [(2, .int (q.2))] [] Ω 0 0)) → XW G B 4 9 [(3, .int (y3)), (2, .int (y2)), (0, .ref (ad G 11 (0))), (1, .int (y1))] [] Ω 0 0 := by
  intro n
  induction n with
  | zero => intro y3 y2 r hf; exact absurd hf (by rw [fX11_headOf_l9]; exact nofun)
  | succ n ih =>
    intro y3 y2 r hf hk
    refine x_iload_n (pc2 := 10) C dX11_headOf_9 0 rfl rfl rfl ?_
    refine x_aload_n (pc2 := 11) C dX11_headOf_10 2 rfl rfl rfl ?_
    refine x_getR (f := 1109) (k2 := 2109) (pc2 := 14) C (by assumption) kf_11_34 dX11_headOf_11 rfl rfl rfl (rti_i rfl) rfl (fun qd_1 => ?_)
    refine x_iload_n (pc2 := 15) C dX11_headOf_14 3 rfl rfl rfl ?_
    rcases (Decidable.em (inB y1 2)).symm with qg_2 | qg_2
    · exact absurd hf (by rw [fX11_headOf_l9, if_neg qg_2]; exact nofun)
    refine x_iald (pc2 := 16) C (by assumption) dX11_headOf_15 rfl (inB_in qg_2) rfl ?_
    refine x_icmp_ge (tgt := 103) (pc2 := 19) C dX11_headOf_16 (by decide) rfl (fun qc_3 => ?_) (fun qc_3 => ?_)
    · rw [fX11_headOf_l9, if_pos qg_2, if_pos qc_3] at hf
      exact x_sub (lv2 := [(2, _)]) C [1] rfl (hk _ (Option.some.inj hf).symm)
    · refine x_aload_n (pc2 := 20) C dX11_headOf_19 2 rfl rfl rfl ?_
      refine x_iload_n (pc2 := 21) C dX11_headOf_20 3 rfl rfl rfl ?_
      refine x_iload_n (pc2 := 22) C dX11_headOf_21 0 rfl rfl rfl ?_
      refine x_aload_n (pc2 := 23) C dX11_headOf_22 2 rfl rfl rfl ?_
      refine x_getR (f := 1110) (k2 := 2110) (pc2 := 26) C (by assumption) kf_11_37 dX11_headOf_23 rfl rfl rfl (rti_i rfl) rfl (fun qd_4 => ?_)
      refine x_iload_n (pc2 := 27) C dX11_headOf_26 3 rfl rfl rfl ?_
      rcases (Decidable.em (inB y1 2)).symm with qg_5 | qg_5
      · exact absurd hf (by rw [fX11_headOf_l9, if_pos qg_2, if_neg qc_3, if_neg qg_5]; exact nofun)
      refine x_iald (pc2 := 28) C (by assumption) dX11_headOf_27 rfl (inB_in qg_5) rfl ?_
      rcases opt_em (fX11_from Ω y1 y3 (xI Ω 2110 0 y1.toNatClampNeg)) with hq_6 | ⟨r_6, hq_6⟩
      · exact absurd hf (by rw [fX11_headOf_l9, if_pos qg_2, if_neg qc_3, if_pos qg_5, ob_n hq_6]; exact nofun)
      refine x_ret (rest := []) (st2 := [_]) (pc2 := 31) (cu2 := 0) (su2 := 0) (x_cV C (by assumption) (Nat.le_of_ble_eq_true rfl) kmX11_from rfl kk_11_361 (tX11_from hok (by assumption)  hq_6) rfl rfl (Nat.le_of_ble_eq_true rfl) ⟨Nat.le_of_ble_eq_true rfl, Nat.le_of_ble_eq_true rfl⟩ ⟨Nat.le_of_ble_eq_true rfl, Nat.le_of_ble_eq_true rfl⟩ dX11_headOf_28) rfl rfl rfl rfl ?_
      rcases opt_em ((if r_6 = 0 then (some y2) else (if inB (((24 : Int32) * y1) + y3) 48 then (if inB (((24 : Int32) * y1) + y2) 48 then (if 0 < (lg_cmp (xL Ω 2123 0 (((24 : Int32) * y1) + y3).toNatClampNeg) (xL Ω 2123 0 (((24 : Int32) * y1) + y2).toNatClampNeg)) then (some y3) else (if inB (((24 : Int32) * y1) + y3) 48 then (if inB (((24 : Int32) * y1) + y2) 48 then (if (lg_cmp (xL Ω 2123 0 (((24 : Int32) * y1) + y3).toNatClampNeg) (xL Ω 2123 0 (((24 : Int32) * y1) + y2).toNatClampNeg)) = 0 then (if y2 ≤ y3 then (some y2) else (some y3)) else (some y2)) else none) else none)) else none) else none)) : Option (Int32)) with hq_7 | ⟨j_7, hq_7⟩
      · exact absurd hf (by rw [fX11_headOf_l9, if_pos qg_2, if_neg qc_3, if_pos qg_5, ob_s hq_6, ob_n hq_7]; exact nofun)
      suffices hj_7 : XW G B 4 96 [(0, .ref (ad G 11 (0))), (1, .int (y1)), (3, .int (y3))] [.int (j_7)] Ω 0 0 by
        refine x_if_eq (tgt := 95) (pc2 := 34) C dX11_headOf_31 (by decide) rfl (fun qc_8 => ?_) (fun qc_8 => ?_)
        · refine x_iload_n (pc2 := 96) C dX11_headOf_95 1 rfl rfl rfl ?_
          rw [if_pos qc_8] at hq_7
          obtain rfl := (Option.some.inj hq_7).symm
          exact x_sub (lv2 := [(0, _), (1, _), (3, _)]) C [2, 3, 0] rfl hj_7
        · refine x_aload_n (pc2 := 35) C dX11_headOf_34 2 rfl rfl rfl ?_
          refine x_getR (f := 1123) (k2 := 2123) (pc2 := 38) C (by assumption) kf_11_76 dX11_headOf_35 rfl rfl rfl (rti_i rfl) rfl (fun qd_9 => ?_)
          refine x_bipush (pc2 := 40) (v := 24) C dX11_headOf_38 rfl rfl ?_
          refine x_iload_n (pc2 := 41) C dX11_headOf_40 3 rfl rfl rfl ?_
          refine x_imul (pc2 := 42) C dX11_headOf_41 rfl ?_
          refine x_iload_n (pc2 := 43) C dX11_headOf_42 0 rfl rfl rfl ?_
          refine x_iadd (pc2 := 44) C dX11_headOf_43 rfl ?_
          rcases (Decidable.em (inB (((24 : Int32) * y1) + y3) 48)).symm with qg_10 | qg_10
          · exact absurd hq_7 (by rw [if_neg qc_8, if_neg qg_10]; exact nofun)
          refine x_lald (pc2 := 45) C (by assumption) dX11_headOf_44 rfl (inB_in qg_10) rfl ?_
          refine x_aload_n (pc2 := 46) C dX11_headOf_45 2 rfl rfl rfl ?_
          refine x_getR (f := 1123) (k2 := 2123) (pc2 := 49) C (by assumption) kf_11_76 dX11_headOf_46 rfl rfl rfl (rti_i rfl) rfl (fun qd_11 => ?_)
          refine x_bipush (pc2 := 51) (v := 24) C dX11_headOf_49 rfl rfl ?_
          refine x_iload_n (pc2 := 52) C dX11_headOf_51 3 rfl rfl rfl ?_
          refine x_imul (pc2 := 53) C dX11_headOf_52 rfl ?_
          refine x_iload_n (pc2 := 54) C dX11_headOf_53 1 rfl rfl rfl ?_
          refine x_iadd (pc2 := 55) C dX11_headOf_54 rfl ?_
          rcases (Decidable.em (inB (((24 : Int32) * y1) + y2) 48)).symm with qg_12 | qg_12
          · exact absurd hq_7 (by rw [if_neg qc_8, if_pos qg_10, if_neg qg_12]; exact nofun)
          refine x_lald (pc2 := 56) C (by assumption) dX11_headOf_55 rfl (inB_in qg_12) rfl ?_
          refine x_lcmp (pc2 := 57) C dX11_headOf_56 rfl ?_
          refine x_if_gt (tgt := 91) (pc2 := 60) C dX11_headOf_57 (by decide) rfl (fun qc_13 => ?_) (fun qc_13 => ?_)
          · refine x_iload_n (pc2 := 92) C dX11_headOf_91 0 rfl rfl rfl ?_
            refine x_goto (tgt := 96) C dX11_headOf_92 (by decide) ?_
            rw [if_neg qc_8, if_pos qg_10, if_pos qg_12, if_pos qc_13] at hq_7
            obtain rfl := (Option.some.inj hq_7).symm
            exact x_sub (lv2 := [(0, _), (1, _), (3, _)]) C [2, 3, 0] rfl hj_7
          · refine x_aload_n (pc2 := 61) C dX11_headOf_60 2 rfl rfl rfl ?_
            refine x_getR (f := 1123) (k2 := 2123) (pc2 := 64) C (by assumption) kf_11_76 dX11_headOf_61 rfl rfl rfl (rti_i rfl) rfl (fun qd_14 => ?_)
            refine x_bipush (pc2 := 66) (v := 24) C dX11_headOf_64 rfl rfl ?_
            refine x_iload_n (pc2 := 67) C dX11_headOf_66 3 rfl rfl rfl ?_
            refine x_imul (pc2 := 68) C dX11_headOf_67 rfl ?_
            refine x_iload_n (pc2 := 69) C dX11_headOf_68 0 rfl rfl rfl ?_
            refine x_iadd (pc2 := 70) C dX11_headOf_69 rfl ?_
            rcases (Decidable.em (inB (((24 : Int32) * y1) + y3) 48)).symm with qg_15 | qg_15
            · exact absurd hq_7 (by rw [if_neg qc_8, if_pos qg_10, if_pos qg_12, if_neg qc_13, if_neg qg_15]; exact nofun)
            refine x_lald (pc2 := 71) C (by assumption) dX11_headOf_70 rfl (inB_in qg_15) rfl ?_
            refine x_aload_n (pc2 := 72) C dX11_headOf_71 2 rfl rfl rfl ?_
            refine x_getR (f := 1123) (k2 := 2123) (pc2 := 75) C (by assumption) kf_11_76 dX11_headOf_72 rfl rfl rfl (rti_i rfl) rfl (fun qd_16 => ?_)
            refine x_bipush (pc2 := 77) (v := 24) C dX11_headOf_75 rfl rfl ?_
            refine x_iload_n (pc2 := 78) C dX11_headOf_77 3 rfl rfl rfl ?_
            refine x_imul (pc2 := 79) C dX11_headOf_78 rfl ?_
            refine x_iload_n (pc2 := 80) C dX11_headOf_79 1 rfl rfl rfl ?_
            refine x_iadd (pc2 := 81) C dX11_headOf_80 rfl ?_
            rcases (Decidable.em (inB (((24 : Int32) * y1) + y2) 48)).symm with qg_17 | qg_17
            · exact absurd hq_7 (by rw [if_neg qc_8, if_pos qg_10, if_pos qg_12, if_neg qc_13, if_pos qg_15, if_neg qg_17]; exact nofun)
            refine x_lald (pc2 := 82) C (by assumption) dX11_headOf_81 rfl (inB_in qg_17) rfl ?_
            refine x_lcmp (pc2 := 83) C dX11_headOf_82 rfl ?_
            refine x_if_ne (tgt := 95) (pc2 := 86) C dX11_headOf_83 (by decide) rfl (fun qc_18 => ?_) (fun qc_18 => ?_)
            · refine x_iload_n (pc2 := 96) C dX11_headOf_95 1 rfl rfl rfl ?_
              rw [if_neg qc_8, if_pos qg_10, if_pos qg_12, if_neg qc_13, if_pos qg_15, if_pos qg_17, if_neg qc_18] at hq_7
              obtain rfl := (Option.some.inj hq_7).symm
              exact x_sub (lv2 := [(0, _), (1, _), (3, _)]) C [2, 3, 0] rfl hj_7
            · refine x_iload_n (pc2 := 87) C dX11_headOf_86 0 rfl rfl rfl ?_
              refine x_iload_n (pc2 := 88) C dX11_headOf_87 1 rfl rfl rfl ?_
              refine x_icmp_ge (tgt := 95) (pc2 := 91) C dX11_headOf_88 (by decide) rfl (fun qc_19 => ?_) (fun qc_19 => ?_)
              · refine x_iload_n (pc2 := 96) C dX11_headOf_95 1 rfl rfl rfl ?_
                rw [if_neg qc_8, if_pos qg_10, if_pos qg_12, if_neg qc_13, if_pos qg_15, if_pos qg_17, if_pos qc_18, if_pos qc_19] at hq_7
                obtain rfl := (Option.some.inj hq_7).symm
                exact x_sub (lv2 := [(0, _), (1, _), (3, _)]) C [2, 3, 0] rfl hj_7
              · refine x_iload_n (pc2 := 92) C dX11_headOf_91 0 rfl rfl rfl ?_
                refine x_goto (tgt := 96) C dX11_headOf_92 (by decide) ?_
                rw [if_neg qc_8, if_pos qg_10, if_pos qg_12, if_neg qc_13, if_pos qg_15, if_pos qg_17, if_pos qc_18, if_neg qc_19] at hq_7
                obtain rfl := (Option.some.inj hq_7).symm
                exact x_sub (lv2 := [(0, _), (1, _), (3, _)]) C [2, 3, 0] rfl hj_7
      refine x_istore_n (pc2 := 97) (lv2 := [(2, _), (0, _), (1, _), (3, _)]) C dX11_headOf_96 rfl (by decide) rfl rfl ?_
      refine x_iinc (pc2 := 100) (v := y3 + 1) (lv2 := [(3, _), (2, _), (0, _), (1, _)]) C dX11_headOf_97 3 rfl rfl (by decide) rfl rfl ?_
      refine x_goto (tgt := 9) C dX11_headOf_100 (by decide) ?_
      exact x_sub (lv2 := [(3, _), (2, _), (0, _), (1, _)]) C [0, 1, 2, 3] rfl (ih (y3 + 1) j_7 (by rw [fX11_headOf_l9, if_pos qg_2, if_neg qc_3, if_pos qg_5, ob_s hq_6, ob_s hq_7] at hf; exact hf) hk)
def fX11_headOf (Ω : XO) (x1 : Int32) : Option (Int32) := (if inB x1 2 then (fX11_headOf_l9 Ω x1 ((xI Ω 2109 0 x1.toNatClampNeg).toNatClampNeg + 1) (0 : Int32) (xI Ω 2110 0 x1.toNatClampNeg)).bind (fun q_3 => (some q_3.2)) else none)
set_option maxRecDepth 20000 in
theorem tX11_headOf {G : XG} (hok : XK G) {x1 : Int32} {Ω : XO} (hd0 : dm G 11 0)   {r : Int32} (hf : fX11_headOf Ω x1 = some r) : XM G yX11_headOf cX11_headOf 4 ((some FieldType.int)) (RM 1 0) [.ref (ad G 11 0), .int x1] Ω (.inl (some (.int (r)))) Ω := by
  refine x_start (lv := [(0, .ref (ad G 11 0)), (1, .int x1)]) (own := RX11) hok (by decide +kernel) rfl (Nat.le_of_ble_eq_true rfl) rfl (fun B C => ?_)
  refine x_aload_n (pc2 := 1) C dX11_headOf_0 0 rfl rfl rfl ?_
  refine x_getR (f := 1110) (k2 := 2110) (pc2 := 4) C (by assumption) kf_11_37 dX11_headOf_1 rfl rfl rfl (rti_i rfl) rfl (fun qd_1 => ?_)
  refine x_iload_n (pc2 := 5) C dX11_headOf_4 1 rfl rfl rfl ?_
  rcases (Decidable.em (inB x1 2)).symm with qg_2 | qg_2
  · exact absurd hf (by rw [fX11_headOf, if_neg qg_2]; exact nofun)
  refine x_iald (pc2 := 6) C (by assumption) dX11_headOf_5 rfl (inB_in qg_2) rfl ?_
  refine x_istore_n (pc2 := 7) (lv2 := [(2, _), (0, _), (1, _)]) C dX11_headOf_6 rfl (by decide) rfl rfl ?_
  refine x_iconst (pc2 := 8) (v := 0) C dX11_headOf_7 rfl rfl ?_
  refine x_istore_n (pc2 := 9) (lv2 := [(3, _), (2, _), (0, _), (1, _)]) C dX11_headOf_8 rfl (by decide) rfl rfl ?_
  rcases opt_em (fX11_headOf_l9 Ω x1 ((xI Ω 2109 0 x1.toNatClampNeg).toNatClampNeg + 1) (0 : Int32) (xI Ω 2110 0 x1.toNatClampNeg)) with hq_3 | ⟨q_3, hq_3⟩
  · exact absurd hf (by rw [fX11_headOf, if_pos qg_2, ob_n hq_3]; exact nofun)
  refine x_sub (lv2 := [(3, _), (2, _), (0, _), (1, _)]) C [0, 1, 2, 3] rfl (lX11_headOf_l9 hok (by assumption) C ((xI Ω 2109 0 x1.toNatClampNeg).toNatClampNeg + 1) (0 : Int32) (xI Ω 2110 0 x1.toNatClampNeg) hq_3 (fun q9 h9 => ?_))
  cases h9
  refine x_iload_n (pc2 := 104) C dX11_headOf_103 0 rfl rfl rfl ?_
  rw [fX11_headOf, if_pos qg_2, ob_s hq_3] at hf
  obtain rfl := (Option.some.inj hf).symm
  exact x_ireturn C dX11_headOf_104 rfl (Nat.le_of_ble_eq_true rfl) (Nat.le_of_ble_eq_true rfl) rfl rfl
def fX11_head (Ω : XO) (x1 : Int32) : Option (Int32 × XO) := (fX11_isChain Ω x1).bind (fun r_1 => (wl ((if r_1 = 0 then (1 : Int32) else (0 : Int32))) (fun (j_2 : Int32) => (fX11_holds Ω j_2).bind (fun r_4 => (((if r_4.1 = 0 then (fX11_headOf r_4.2 x1).bind (fun r_7 => (some r_7)) else (some (-1 : Int32))) : Option (Int32))).bind (fun j_5 => (some (j_5, r_4.2)))))))
set_option maxRecDepth 20000 in
theorem tX11_head {G : XG} (hok : XK G) {x1 : Int32} {Ω : XO} (hd0 : dm G 11 0)   {r : Int32 × XO} (hf : fX11_head Ω x1 = some r) : XM G yX11_head cX11_head 2 ((some FieldType.int)) (RM 2 0) [.ref (ad G 11 0), .int x1] Ω (.inl (some (.int (r.1)))) r.2 := by
  refine x_start (lv := [(0, .ref (ad G 11 0)), (1, .int x1)]) (own := RX11) hok (by decide +kernel) rfl (Nat.le_of_ble_eq_true rfl) rfl (fun B C => ?_)
  refine x_aload_n (pc2 := 1) C dX11_head_0 0 rfl rfl rfl ?_
  refine x_aload_n (pc2 := 2) C dX11_head_1 0 rfl rfl rfl ?_
  refine x_iload_n (pc2 := 3) C dX11_head_2 1 rfl rfl rfl ?_
  rcases opt_em (fX11_isChain Ω x1) with hq_1 | ⟨r_1, hq_1⟩
  · exact absurd hf (by rw [fX11_head, ob_n hq_1]; exact nofun)
  refine x_ret (rest := [_]) (st2 := [_, _]) (pc2 := 6) (cu2 := 0) (su2 := 0) (x_cV C (by assumption) (Nat.le_of_ble_eq_true rfl) kmX11_isChain rfl kk_11_182 (tX11_isChain hok (by assumption)  hq_1) rfl rfl (Nat.le_of_ble_eq_true rfl) ⟨Nat.le_of_ble_eq_true rfl, Nat.le_of_ble_eq_true rfl⟩ ⟨Nat.le_of_ble_eq_true rfl, Nat.le_of_ble_eq_true rfl⟩ dX11_head_3) rfl rfl rfl rfl ?_
  obtain ⟨j_2, hq_2⟩ : ∃ z : Int32, z = (if r_1 = 0 then (1 : Int32) else (0 : Int32)) := ⟨_, rfl⟩
  suffices hj_2 : XW G B 2 14 [(0, .ref (ad G 11 (0))), (1, .int (x1))] [.int (j_2), .ref (ad G 11 (0))] Ω 0 0 by
    refine x_if_eq (tgt := 13) (pc2 := 9) C dX11_head_6 (by decide) rfl (fun qc_3 => ?_) (fun qc_3 => ?_)
    · refine x_iconst (pc2 := 14) (v := 1) C dX11_head_13 rfl rfl ?_
      rw [if_pos qc_3] at hq_2
      subst hq_2
      exact x_sub (lv2 := [(0, _), (1, _)]) C [0, 1] rfl hj_2
    · refine x_iconst (pc2 := 10) (v := 0) C dX11_head_9 rfl rfl ?_
      refine x_goto (tgt := 14) C dX11_head_10 (by decide) ?_
      rw [if_neg qc_3] at hq_2
      subst hq_2
      exact x_sub (lv2 := [(0, _), (1, _)]) C [0, 1] rfl hj_2
  rcases opt_em (fX11_holds Ω j_2) with hq_4 | ⟨r_4, hq_4⟩
  · exact absurd hf (by rw [fX11_head, ob_s hq_1, wl_eq hq_2, ob_n hq_4]; exact nofun)
  refine x_ret (rest := []) (st2 := [_]) (pc2 := 17) (cu2 := 0) (su2 := 0) (x_cV C (by assumption) (Nat.le_of_ble_eq_true rfl) kmX11_holds rfl kk_11_214 (tX11_holds hok (by assumption)  hq_4) rfl rfl (Nat.le_of_ble_eq_true rfl) ⟨Nat.le_of_ble_eq_true rfl, Nat.le_of_ble_eq_true rfl⟩ ⟨Nat.le_of_ble_eq_true rfl, Nat.le_of_ble_eq_true rfl⟩ dX11_head_14) rfl rfl rfl rfl ?_
  rcases opt_em ((if r_4.1 = 0 then (fX11_headOf r_4.2 x1).bind (fun r_7 => (some r_7)) else (some (-1 : Int32))) : Option (Int32)) with hq_5 | ⟨j_5, hq_5⟩
  · exact absurd hf (by rw [fX11_head, ob_s hq_1, wl_eq hq_2, ob_s hq_4, ob_n hq_5]; exact nofun)
  suffices hj_5 : XW G B 2 29 [] [.int (j_5)] r_4.2 0 0 by
    refine x_if_eq (tgt := 24) (pc2 := 20) C dX11_head_17 (by decide) rfl (fun qc_6 => ?_) (fun qc_6 => ?_)
    · refine x_aload_n (pc2 := 25) C dX11_head_24 0 rfl rfl rfl ?_
      refine x_iload_n (pc2 := 26) C dX11_head_25 1 rfl rfl rfl ?_
      rcases opt_em (fX11_headOf r_4.2 x1) with hq_7 | ⟨r_7, hq_7⟩
      · exact absurd hq_5 (by rw [if_pos qc_6, ob_n hq_7]; exact nofun)
      refine x_ret (rest := []) (st2 := [_]) (pc2 := 29) (cu2 := 0) (su2 := 0) (x_cV C (by assumption) (Nat.le_of_ble_eq_true rfl) kmX11_headOf rfl kk_11_220 (tX11_headOf hok (by assumption)  hq_7) rfl rfl (Nat.le_of_ble_eq_true rfl) ⟨Nat.le_of_ble_eq_true rfl, Nat.le_of_ble_eq_true rfl⟩ ⟨Nat.le_of_ble_eq_true rfl, Nat.le_of_ble_eq_true rfl⟩ dX11_head_26) rfl rfl rfl rfl ?_
      rw [if_pos qc_6, ob_s hq_7] at hq_5
      obtain rfl := (Option.some.inj hq_5).symm
      exact x_sub (lv2 := []) C [] rfl hj_5
    · refine x_iconst (pc2 := 21) (v := (-1)) C dX11_head_20 rfl rfl ?_
      refine x_goto (tgt := 29) C dX11_head_21 (by decide) ?_
      rw [if_neg qc_6] at hq_5
      obtain rfl := (Option.some.inj hq_5).symm
      exact x_sub (lv2 := []) C [] rfl hj_5
  rw [fX11_head, ob_s hq_1, wl_eq hq_2, ob_s hq_4, ob_s hq_5] at hf
  obtain rfl := (Option.some.inj hf).symm
  exact x_ireturn C dX11_head_29 rfl (Nat.le_of_ble_eq_true rfl) (Nat.le_of_ble_eq_true rfl) rfl rfl
def fX11_base (Ω : XO) (x1 : Int32) (x2 : Int32) : Option (Int32 × XO) := (fX11_isBlock Ω x1 x2).bind (fun r_1 => (wl ((if r_1 = 0 then (1 : Int32) else (0 : Int32))) (fun (j_2 : Int32) => (fX11_holds Ω j_2).bind (fun r_4 => (((if r_4.1 = 0 then (if inB (((24 : Int32) * x1) + x2) 48 then (some (xI r_4.2 2124 0 (((24 : Int32) * x1) + x2).toNatClampNeg)) else none) else (some (-1 : Int32))) : Option (Int32))).bind (fun j_5 => (some (j_5, r_4.2)))))))
set_option maxRecDepth 20000 in
theorem tX11_base {G : XG} (hok : XK G) {x1 : Int32} {x2 : Int32} {Ω : XO} (hd0 : dm G 11 0)   {r : Int32 × XO} (hf : fX11_base Ω x1 x2 = some r) : XM G yX11_base cX11_base 3 ((some FieldType.int)) (RM 3 0) [.ref (ad G 11 0), .int x1, .int x2] Ω (.inl (some (.int (r.1)))) r.2 := by
  refine x_start (lv := [(0, .ref (ad G 11 0)), (1, .int x1), (2, .int x2)]) (own := RX11) hok (by decide +kernel) rfl (Nat.le_of_ble_eq_true rfl) rfl (fun B C => ?_)
  refine x_aload_n (pc2 := 1) C dX11_base_0 0 rfl rfl rfl ?_
  refine x_aload_n (pc2 := 2) C dX11_base_1 0 rfl rfl rfl ?_
  refine x_iload_n (pc2 := 3) C dX11_base_2 1 rfl rfl rfl ?_
  refine x_iload_n (pc2 := 4) C dX11_base_3 2 rfl rfl rfl ?_
  rcases opt_em (fX11_isBlock Ω x1 x2) with hq_1 | ⟨r_1, hq_1⟩
  · exact absurd hf (by rw [fX11_base, ob_n hq_1]; exact nofun)
  refine x_ret (rest := [_]) (st2 := [_, _]) (pc2 := 7) (cu2 := 0) (su2 := 0) (x_cV C (by assumption) (Nat.le_of_ble_eq_true rfl) kmX11_isBlock rfl kk_11_349 (tX11_isBlock hok (by assumption)  hq_1) rfl rfl (Nat.le_of_ble_eq_true rfl) ⟨Nat.le_of_ble_eq_true rfl, Nat.le_of_ble_eq_true rfl⟩ ⟨Nat.le_of_ble_eq_true rfl, Nat.le_of_ble_eq_true rfl⟩ dX11_base_4) rfl rfl rfl rfl ?_
  obtain ⟨j_2, hq_2⟩ : ∃ z : Int32, z = (if r_1 = 0 then (1 : Int32) else (0 : Int32)) := ⟨_, rfl⟩
  suffices hj_2 : XW G B 3 15 [(0, .ref (ad G 11 (0))), (1, .int (x1)), (2, .int (x2))] [.int (j_2), .ref (ad G 11 (0))] Ω 0 0 by
    refine x_if_eq (tgt := 14) (pc2 := 10) C dX11_base_7 (by decide) rfl (fun qc_3 => ?_) (fun qc_3 => ?_)
    · refine x_iconst (pc2 := 15) (v := 1) C dX11_base_14 rfl rfl ?_
      rw [if_pos qc_3] at hq_2
      subst hq_2
      exact x_sub (lv2 := [(0, _), (1, _), (2, _)]) C [0, 1, 2] rfl hj_2
    · refine x_iconst (pc2 := 11) (v := 0) C dX11_base_10 rfl rfl ?_
      refine x_goto (tgt := 15) C dX11_base_11 (by decide) ?_
      rw [if_neg qc_3] at hq_2
      subst hq_2
      exact x_sub (lv2 := [(0, _), (1, _), (2, _)]) C [0, 1, 2] rfl hj_2
  rcases opt_em (fX11_holds Ω j_2) with hq_4 | ⟨r_4, hq_4⟩
  · exact absurd hf (by rw [fX11_base, ob_s hq_1, wl_eq hq_2, ob_n hq_4]; exact nofun)
  refine x_ret (rest := []) (st2 := [_]) (pc2 := 18) (cu2 := 0) (su2 := 0) (x_cV C (by assumption) (Nat.le_of_ble_eq_true rfl) kmX11_holds rfl kk_11_214 (tX11_holds hok (by assumption)  hq_4) rfl rfl (Nat.le_of_ble_eq_true rfl) ⟨Nat.le_of_ble_eq_true rfl, Nat.le_of_ble_eq_true rfl⟩ ⟨Nat.le_of_ble_eq_true rfl, Nat.le_of_ble_eq_true rfl⟩ dX11_base_15) rfl rfl rfl rfl ?_
  rcases opt_em ((if r_4.1 = 0 then (if inB (((24 : Int32) * x1) + x2) 48 then (some (xI r_4.2 2124 0 (((24 : Int32) * x1) + x2).toNatClampNeg)) else none) else (some (-1 : Int32))) : Option (Int32)) with hq_5 | ⟨j_5, hq_5⟩
  · exact absurd hf (by rw [fX11_base, ob_s hq_1, wl_eq hq_2, ob_s hq_4, ob_n hq_5]; exact nofun)
  suffices hj_5 : XW G B 3 36 [] [.int (j_5)] r_4.2 0 0 by
    refine x_if_eq (tgt := 25) (pc2 := 21) C dX11_base_18 (by decide) rfl (fun qc_6 => ?_) (fun qc_6 => ?_)
    · refine x_aload_n (pc2 := 26) C dX11_base_25 0 rfl rfl rfl ?_
      refine x_getR (f := 1124) (k2 := 2124) (pc2 := 29) C (by assumption) kf_11_80 dX11_base_26 rfl rfl rfl (rti_i rfl) rfl (fun qd_7 => ?_)
      refine x_bipush (pc2 := 31) (v := 24) C dX11_base_29 rfl rfl ?_
      refine x_iload_n (pc2 := 32) C dX11_base_31 1 rfl rfl rfl ?_
      refine x_imul (pc2 := 33) C dX11_base_32 rfl ?_
      refine x_iload_n (pc2 := 34) C dX11_base_33 2 rfl rfl rfl ?_
      refine x_iadd (pc2 := 35) C dX11_base_34 rfl ?_
      rcases (Decidable.em (inB (((24 : Int32) * x1) + x2) 48)).symm with qg_8 | qg_8
      · exact absurd hq_5 (by rw [if_pos qc_6, if_neg qg_8]; exact nofun)
      refine x_iald (pc2 := 36) C (by assumption) dX11_base_35 rfl (inB_in qg_8) rfl ?_
      rw [if_pos qc_6, if_pos qg_8] at hq_5
      obtain rfl := (Option.some.inj hq_5).symm
      exact x_sub (lv2 := []) C [] rfl hj_5
    · refine x_iconst (pc2 := 22) (v := (-1)) C dX11_base_21 rfl rfl ?_
      refine x_goto (tgt := 36) C dX11_base_22 (by decide) ?_
      rw [if_neg qc_6] at hq_5
      obtain rfl := (Option.some.inj hq_5).symm
      exact x_sub (lv2 := []) C [] rfl hj_5
  rw [fX11_base, ob_s hq_1, wl_eq hq_2, ob_s hq_4, ob_s hq_5] at hf
  obtain rfl := (Option.some.inj hf).symm
  exact x_ireturn C dX11_base_36 rfl (Nat.le_of_ble_eq_true rfl) (Nat.le_of_ble_eq_true rfl) rfl rfl
def fX11_used (Ω : XO) (x1 : Int32) (x2 : Int32) : Option (Int32 × XO) := (fX11_isBlock Ω x1 x2).bind (fun r_1 => (wl ((if r_1 = 0 then (1 : Int32) else (0 : Int32))) (fun (j_2 : Int32) => (fX11_holds Ω j_2).bind (fun r_4 => (((if r_4.1 = 0 then (if inB (((24 : Int32) * x1) + x2) 48 then (some (xI r_4.2 2125 0 (((24 : Int32) * x1) + x2).toNatClampNeg)) else none) else (some (-1 : Int32))) : Option (Int32))).bind (fun j_5 => (some (j_5, r_4.2)))))))
set_option maxRecDepth 20000 in
theorem tX11_used {G : XG} (hok : XK G) {x1 : Int32} {x2 : Int32} {Ω : XO} (hd0 : dm G 11 0)   {r : Int32 × XO} (hf : fX11_used Ω x1 x2 = some r) : XM G yX11_used cX11_used 3 ((some FieldType.int)) (RM 3 0) [.ref (ad G 11 0), .int x1, .int x2] Ω (.inl (some (.int (r.1)))) r.2 := by
  refine x_start (lv := [(0, .ref (ad G 11 0)), (1, .int x1), (2, .int x2)]) (own := RX11) hok (by decide +kernel) rfl (Nat.le_of_ble_eq_true rfl) rfl (fun B C => ?_)
  refine x_aload_n (pc2 := 1) C dX11_used_0 0 rfl rfl rfl ?_
  refine x_aload_n (pc2 := 2) C dX11_used_1 0 rfl rfl rfl ?_
  refine x_iload_n (pc2 := 3) C dX11_used_2 1 rfl rfl rfl ?_
  refine x_iload_n (pc2 := 4) C dX11_used_3 2 rfl rfl rfl ?_
  rcases opt_em (fX11_isBlock Ω x1 x2) with hq_1 | ⟨r_1, hq_1⟩
  · exact absurd hf (by rw [fX11_used, ob_n hq_1]; exact nofun)
  refine x_ret (rest := [_]) (st2 := [_, _]) (pc2 := 7) (cu2 := 0) (su2 := 0) (x_cV C (by assumption) (Nat.le_of_ble_eq_true rfl) kmX11_isBlock rfl kk_11_349 (tX11_isBlock hok (by assumption)  hq_1) rfl rfl (Nat.le_of_ble_eq_true rfl) ⟨Nat.le_of_ble_eq_true rfl, Nat.le_of_ble_eq_true rfl⟩ ⟨Nat.le_of_ble_eq_true rfl, Nat.le_of_ble_eq_true rfl⟩ dX11_used_4) rfl rfl rfl rfl ?_
  obtain ⟨j_2, hq_2⟩ : ∃ z : Int32, z = (if r_1 = 0 then (1 : Int32) else (0 : Int32)) := ⟨_, rfl⟩
  suffices hj_2 : XW G B 3 15 [(0, .ref (ad G 11 (0))), (1, .int (x1)), (2, .int (x2))] [.int (j_2), .ref (ad G 11 (0))] Ω 0 0 by
    refine x_if_eq (tgt := 14) (pc2 := 10) C dX11_used_7 (by decide) rfl (fun qc_3 => ?_) (fun qc_3 => ?_)
    · refine x_iconst (pc2 := 15) (v := 1) C dX11_used_14 rfl rfl ?_
      rw [if_pos qc_3] at hq_2
      subst hq_2
      exact x_sub (lv2 := [(0, _), (1, _), (2, _)]) C [0, 1, 2] rfl hj_2
    · refine x_iconst (pc2 := 11) (v := 0) C dX11_used_10 rfl rfl ?_
      refine x_goto (tgt := 15) C dX11_used_11 (by decide) ?_
      rw [if_neg qc_3] at hq_2
      subst hq_2
      exact x_sub (lv2 := [(0, _), (1, _), (2, _)]) C [0, 1, 2] rfl hj_2
  rcases opt_em (fX11_holds Ω j_2) with hq_4 | ⟨r_4, hq_4⟩
  · exact absurd hf (by rw [fX11_used, ob_s hq_1, wl_eq hq_2, ob_n hq_4]; exact nofun)
  refine x_ret (rest := []) (st2 := [_]) (pc2 := 18) (cu2 := 0) (su2 := 0) (x_cV C (by assumption) (Nat.le_of_ble_eq_true rfl) kmX11_holds rfl kk_11_214 (tX11_holds hok (by assumption)  hq_4) rfl rfl (Nat.le_of_ble_eq_true rfl) ⟨Nat.le_of_ble_eq_true rfl, Nat.le_of_ble_eq_true rfl⟩ ⟨Nat.le_of_ble_eq_true rfl, Nat.le_of_ble_eq_true rfl⟩ dX11_used_15) rfl rfl rfl rfl ?_
  rcases opt_em ((if r_4.1 = 0 then (if inB (((24 : Int32) * x1) + x2) 48 then (some (xI r_4.2 2125 0 (((24 : Int32) * x1) + x2).toNatClampNeg)) else none) else (some (-1 : Int32))) : Option (Int32)) with hq_5 | ⟨j_5, hq_5⟩
  · exact absurd hf (by rw [fX11_used, ob_s hq_1, wl_eq hq_2, ob_s hq_4, ob_n hq_5]; exact nofun)
  suffices hj_5 : XW G B 3 36 [] [.int (j_5)] r_4.2 0 0 by
    refine x_if_eq (tgt := 25) (pc2 := 21) C dX11_used_18 (by decide) rfl (fun qc_6 => ?_) (fun qc_6 => ?_)
    · refine x_aload_n (pc2 := 26) C dX11_used_25 0 rfl rfl rfl ?_
      refine x_getR (f := 1125) (k2 := 2125) (pc2 := 29) C (by assumption) kf_11_83 dX11_used_26 rfl rfl rfl (rti_i rfl) rfl (fun qd_7 => ?_)
      refine x_bipush (pc2 := 31) (v := 24) C dX11_used_29 rfl rfl ?_
      refine x_iload_n (pc2 := 32) C dX11_used_31 1 rfl rfl rfl ?_
      refine x_imul (pc2 := 33) C dX11_used_32 rfl ?_
      refine x_iload_n (pc2 := 34) C dX11_used_33 2 rfl rfl rfl ?_
      refine x_iadd (pc2 := 35) C dX11_used_34 rfl ?_
      rcases (Decidable.em (inB (((24 : Int32) * x1) + x2) 48)).symm with qg_8 | qg_8
      · exact absurd hq_5 (by rw [if_pos qc_6, if_neg qg_8]; exact nofun)
      refine x_iald (pc2 := 36) C (by assumption) dX11_used_35 rfl (inB_in qg_8) rfl ?_
      rw [if_pos qc_6, if_pos qg_8] at hq_5
      obtain rfl := (Option.some.inj hq_5).symm
      exact x_sub (lv2 := []) C [] rfl hj_5
    · refine x_iconst (pc2 := 22) (v := (-1)) C dX11_used_21 rfl rfl ?_
      refine x_goto (tgt := 36) C dX11_used_22 (by decide) ?_
      rw [if_neg qc_6] at hq_5
      obtain rfl := (Option.some.inj hq_5).symm
      exact x_sub (lv2 := []) C [] rfl hj_5
  rw [fX11_used, ob_s hq_1, wl_eq hq_2, ob_s hq_4, ob_s hq_5] at hf
  obtain rfl := (Option.some.inj hf).symm
  exact x_ireturn C dX11_used_36 rfl (Nat.le_of_ble_eq_true rfl) (Nat.le_of_ble_eq_true rfl) rfl rfl
def fX11_transactionAt (Ω : XO) (x1 : Int32) (x2 : Int32) (x3 : Int32) : Option (Int32 × XO) := (fX11_isBlock Ω x1 x2).bind (fun r_1 => (((if r_1 = 0 then (some (0 : Int32)) else (if inB (((24 : Int32) * x1) + x2) 48 then (fX11_in Ω x3 (0 : Int32) ((xI Ω 2129 0 (((24 : Int32) * x1) + x2).toNatClampNeg) - (1 : Int32))).bind (fun r_6 => (if r_6 = 0 then (some (0 : Int32)) else (some (1 : Int32)))) else none)) : Option (Int32))).bind (fun j_2 => (wl ((if j_2 = 0 then (1 : Int32) else (0 : Int32))) (fun (j_8 : Int32) => (fX11_holds Ω j_8).bind (fun r_10 => (((if r_10.1 = 0 then (if inB (((40 : Int32) * (((24 : Int32) * x1) + x2)) + x3) 1920 then (some (xI r_10.2 2131 0 (((40 : Int32) * (((24 : Int32) * x1) + x2)) + x3).toNatClampNeg)) else none) else (some (-1 : Int32))) : Option (Int32))).bind (fun j_11 => (some (j_11, r_10.2))))))))
set_option maxRecDepth 20000 in
theorem tX11_transactionAt {G : XG} (hok : XK G) {x1 : Int32} {x2 : Int32} {x3 : Int32} {Ω : XO} (hd0 : dm G 11 0)   {r : Int32 × XO} (hf : fX11_transactionAt Ω x1 x2 x3 = some r) : XM G yX11_transactionAt cX11_transactionAt 5 ((some FieldType.int)) (RM 3 0) [.ref (ad G 11 0), .int x1, .int x2, .int x3] Ω (.inl (some (.int (r.1)))) r.2 := by
  refine x_start (lv := [(0, .ref (ad G 11 0)), (1, .int x1), (2, .int x2), (3, .int x3)]) (own := RX11) hok (by decide +kernel) rfl (Nat.le_of_ble_eq_true rfl) rfl (fun B C => ?_)
  refine x_aload_n (pc2 := 1) C dX11_transactionAt_0 0 rfl rfl rfl ?_
  refine x_iload_n (pc2 := 2) C dX11_transactionAt_1 1 rfl rfl rfl ?_
  refine x_iload_n (pc2 := 3) C dX11_transactionAt_2 2 rfl rfl rfl ?_
  rcases opt_em (fX11_isBlock Ω x1 x2) with hq_1 | ⟨r_1, hq_1⟩
  · exact absurd hf (by rw [fX11_transactionAt, ob_n hq_1]; exact nofun)
  refine x_ret (rest := []) (st2 := [_]) (pc2 := 6) (cu2 := 0) (su2 := 0) (x_cV C (by assumption) (Nat.le_of_ble_eq_true rfl) kmX11_isBlock rfl kk_11_349 (tX11_isBlock hok (by assumption)  hq_1) rfl rfl (Nat.le_of_ble_eq_true rfl) ⟨Nat.le_of_ble_eq_true rfl, Nat.le_of_ble_eq_true rfl⟩ ⟨Nat.le_of_ble_eq_true rfl, Nat.le_of_ble_eq_true rfl⟩ dX11_transactionAt_3) rfl rfl rfl rfl ?_
  rcases opt_em ((if r_1 = 0 then (some (0 : Int32)) else (if inB (((24 : Int32) * x1) + x2) 48 then (fX11_in Ω x3 (0 : Int32) ((xI Ω 2129 0 (((24 : Int32) * x1) + x2).toNatClampNeg) - (1 : Int32))).bind (fun r_6 => (if r_6 = 0 then (some (0 : Int32)) else (some (1 : Int32)))) else none)) : Option (Int32)) with hq_2 | ⟨j_2, hq_2⟩
  · exact absurd hf (by rw [fX11_transactionAt, ob_s hq_1, ob_n hq_2]; exact nofun)
  suffices hj_2 : XW G B 5 36 [(0, .ref (ad G 11 (0))), (1, .int (x1)), (2, .int (x2)), (3, .int (x3))] [.int (j_2)] Ω 0 0 by
    refine x_if_eq (tgt := 35) (pc2 := 9) C dX11_transactionAt_6 (by decide) rfl (fun qc_3 => ?_) (fun qc_3 => ?_)
    · refine x_iconst (pc2 := 36) (v := 0) C dX11_transactionAt_35 rfl rfl ?_
      rw [if_pos qc_3] at hq_2
      obtain rfl := (Option.some.inj hq_2).symm
      exact x_sub (lv2 := [(0, _), (1, _), (2, _), (3, _)]) C [0, 1, 2, 3] rfl hj_2
    · refine x_aload_n (pc2 := 10) C dX11_transactionAt_9 0 rfl rfl rfl ?_
      refine x_iload_n (pc2 := 11) C dX11_transactionAt_10 3 rfl rfl rfl ?_
      refine x_iconst (pc2 := 12) (v := 0) C dX11_transactionAt_11 rfl rfl ?_
      refine x_aload_n (pc2 := 13) C dX11_transactionAt_12 0 rfl rfl rfl ?_
      refine x_getR (f := 1129) (k2 := 2129) (pc2 := 16) C (by assumption) kf_11_95 dX11_transactionAt_13 rfl rfl rfl (rti_i rfl) rfl (fun qd_4 => ?_)
      refine x_bipush (pc2 := 18) (v := 24) C dX11_transactionAt_16 rfl rfl ?_
      refine x_iload_n (pc2 := 19) C dX11_transactionAt_18 1 rfl rfl rfl ?_
      refine x_imul (pc2 := 20) C dX11_transactionAt_19 rfl ?_
      refine x_iload_n (pc2 := 21) C dX11_transactionAt_20 2 rfl rfl rfl ?_
      refine x_iadd (pc2 := 22) C dX11_transactionAt_21 rfl ?_
      rcases (Decidable.em (inB (((24 : Int32) * x1) + x2) 48)).symm with qg_5 | qg_5
      · exact absurd hq_2 (by rw [if_neg qc_3, if_neg qg_5]; exact nofun)
      refine x_iald (pc2 := 23) C (by assumption) dX11_transactionAt_22 rfl (inB_in qg_5) rfl ?_
      refine x_iconst (pc2 := 24) (v := 1) C dX11_transactionAt_23 rfl rfl ?_
      refine x_isub (pc2 := 25) C dX11_transactionAt_24 rfl ?_
      rcases opt_em (fX11_in Ω x3 (0 : Int32) ((xI Ω 2129 0 (((24 : Int32) * x1) + x2).toNatClampNeg) - (1 : Int32))) with hq_6 | ⟨r_6, hq_6⟩
      · exact absurd hq_2 (by rw [if_neg qc_3, if_pos qg_5, ob_n hq_6]; exact nofun)
      refine x_ret (rest := []) (st2 := [_]) (pc2 := 28) (cu2 := 0) (su2 := 0) (x_cV C (by assumption) (Nat.le_of_ble_eq_true rfl) kmX11_in rfl kk_11_178 (tX11_in hok (by assumption)  hq_6) rfl rfl (Nat.le_of_ble_eq_true rfl) ⟨Nat.le_of_ble_eq_true rfl, Nat.le_of_ble_eq_true rfl⟩ ⟨Nat.le_of_ble_eq_true rfl, Nat.le_of_ble_eq_true rfl⟩ dX11_transactionAt_25) rfl rfl rfl rfl ?_
      refine x_if_eq (tgt := 35) (pc2 := 31) C dX11_transactionAt_28 (by decide) rfl (fun qc_7 => ?_) (fun qc_7 => ?_)
      · refine x_iconst (pc2 := 36) (v := 0) C dX11_transactionAt_35 rfl rfl ?_
        rw [if_neg qc_3, if_pos qg_5, ob_s hq_6, if_pos qc_7] at hq_2
        obtain rfl := (Option.some.inj hq_2).symm
        exact x_sub (lv2 := [(0, _), (1, _), (2, _), (3, _)]) C [0, 1, 2, 3] rfl hj_2
      · refine x_iconst (pc2 := 32) (v := 1) C dX11_transactionAt_31 rfl rfl ?_
        refine x_goto (tgt := 36) C dX11_transactionAt_32 (by decide) ?_
        rw [if_neg qc_3, if_pos qg_5, ob_s hq_6, if_neg qc_7] at hq_2
        obtain rfl := (Option.some.inj hq_2).symm
        exact x_sub (lv2 := [(0, _), (1, _), (2, _), (3, _)]) C [0, 1, 2, 3] rfl hj_2
  refine x_istore (pc2 := 38) (lv2 := [(4, _), (0, _), (1, _), (2, _), (3, _)]) C dX11_transactionAt_36 (by decide) rfl rfl ?_
  refine x_aload_n (pc2 := 39) C dX11_transactionAt_38 1 rfl rfl rfl ?_
  refine x_iload (pc2 := 41) C dX11_transactionAt_39 0 rfl rfl ?_
  obtain ⟨j_8, hq_8⟩ : ∃ z : Int32, z = (if j_2 = 0 then (1 : Int32) else (0 : Int32)) := ⟨_, rfl⟩
  suffices hj_8 : XW G B 5 49 [(0, .ref (ad G 11 (0))), (1, .int (x1)), (2, .int (x2)), (3, .int (x3))] [.int (j_8), .ref (ad G 11 (0))] Ω 0 0 by
    refine x_if_eq (tgt := 48) (pc2 := 44) C dX11_transactionAt_41 (by decide) rfl (fun qc_9 => ?_) (fun qc_9 => ?_)
    · refine x_iconst (pc2 := 49) (v := 1) C dX11_transactionAt_48 rfl rfl ?_
      rw [if_pos qc_9] at hq_8
      subst hq_8
      exact x_sub (lv2 := [(0, _), (1, _), (2, _), (3, _)]) C [1, 2, 3, 4] rfl hj_8
    · refine x_iconst (pc2 := 45) (v := 0) C dX11_transactionAt_44 rfl rfl ?_
      refine x_goto (tgt := 49) C dX11_transactionAt_45 (by decide) ?_
      rw [if_neg qc_9] at hq_8
      subst hq_8
      exact x_sub (lv2 := [(0, _), (1, _), (2, _), (3, _)]) C [1, 2, 3, 4] rfl hj_8
  rcases opt_em (fX11_holds Ω j_8) with hq_10 | ⟨r_10, hq_10⟩
  · exact absurd hf (by rw [fX11_transactionAt, ob_s hq_1, ob_s hq_2, wl_eq hq_8, ob_n hq_10]; exact nofun)
  refine x_ret (rest := []) (st2 := [_]) (pc2 := 52) (cu2 := 0) (su2 := 0) (x_cV C (by assumption) (Nat.le_of_ble_eq_true rfl) kmX11_holds rfl kk_11_214 (tX11_holds hok (by assumption)  hq_10) rfl rfl (Nat.le_of_ble_eq_true rfl) ⟨Nat.le_of_ble_eq_true rfl, Nat.le_of_ble_eq_true rfl⟩ ⟨Nat.le_of_ble_eq_true rfl, Nat.le_of_ble_eq_true rfl⟩ dX11_transactionAt_49) rfl rfl rfl rfl ?_
  rcases opt_em ((if r_10.1 = 0 then (if inB (((40 : Int32) * (((24 : Int32) * x1) + x2)) + x3) 1920 then (some (xI r_10.2 2131 0 (((40 : Int32) * (((24 : Int32) * x1) + x2)) + x3).toNatClampNeg)) else none) else (some (-1 : Int32))) : Option (Int32)) with hq_11 | ⟨j_11, hq_11⟩
  · exact absurd hf (by rw [fX11_transactionAt, ob_s hq_1, ob_s hq_2, wl_eq hq_8, ob_s hq_10, ob_n hq_11]; exact nofun)
  suffices hj_11 : XW G B 5 75 [] [.int (j_11)] r_10.2 0 0 by
    refine x_if_eq (tgt := 59) (pc2 := 55) C dX11_transactionAt_52 (by decide) rfl (fun qc_12 => ?_) (fun qc_12 => ?_)
    · refine x_aload_n (pc2 := 60) C dX11_transactionAt_59 0 rfl rfl rfl ?_
      refine x_getR (f := 1131) (k2 := 2131) (pc2 := 63) C (by assumption) kf_11_101 dX11_transactionAt_60 rfl rfl rfl (rti_i rfl) rfl (fun qd_13 => ?_)
      refine x_bipush (pc2 := 65) (v := 40) C dX11_transactionAt_63 rfl rfl ?_
      refine x_bipush (pc2 := 67) (v := 24) C dX11_transactionAt_65 rfl rfl ?_
      refine x_iload_n (pc2 := 68) C dX11_transactionAt_67 1 rfl rfl rfl ?_
      refine x_imul (pc2 := 69) C dX11_transactionAt_68 rfl ?_
      refine x_iload_n (pc2 := 70) C dX11_transactionAt_69 2 rfl rfl rfl ?_
      refine x_iadd (pc2 := 71) C dX11_transactionAt_70 rfl ?_
      refine x_imul (pc2 := 72) C dX11_transactionAt_71 rfl ?_
      refine x_iload_n (pc2 := 73) C dX11_transactionAt_72 3 rfl rfl rfl ?_
      refine x_iadd (pc2 := 74) C dX11_transactionAt_73 rfl ?_
      rcases (Decidable.em (inB (((40 : Int32) * (((24 : Int32) * x1) + x2)) + x3) 1920)).symm with qg_14 | qg_14
      · exact absurd hq_11 (by rw [if_pos qc_12, if_neg qg_14]; exact nofun)
      refine x_iald (pc2 := 75) C (by assumption) dX11_transactionAt_74 rfl (inB_in qg_14) rfl ?_
      rw [if_pos qc_12, if_pos qg_14] at hq_11
      obtain rfl := (Option.some.inj hq_11).symm
      exact x_sub (lv2 := []) C [] rfl hj_11
    · refine x_iconst (pc2 := 56) (v := (-1)) C dX11_transactionAt_55 rfl rfl ?_
      refine x_goto (tgt := 75) C dX11_transactionAt_56 (by decide) ?_
      rw [if_neg qc_12] at hq_11
      obtain rfl := (Option.some.inj hq_11).symm
      exact x_sub (lv2 := []) C [] rfl hj_11
  rw [fX11_transactionAt, ob_s hq_1, ob_s hq_2, wl_eq hq_8, ob_s hq_10, ob_s hq_11] at hf
  obtain rfl := (Option.some.inj hf).symm
  exact x_ireturn C dX11_transactionAt_75 rfl (Nat.le_of_ble_eq_true rfl) (Nat.le_of_ble_eq_true rfl) rfl rfl
def fX11_eventAt (Ω : XO) (x1 : Int32) (x2 : Int32) (x3 : Int32) : Option (Int32 × XO) := (fX11_isBlock Ω x1 x2).bind (fun r_1 => (((if r_1 = 0 then (some (0 : Int32)) else (if inB (((24 : Int32) * x1) + x2) 48 then (fX11_in Ω x3 (0 : Int32) ((xI Ω 2130 0 (((24 : Int32) * x1) + x2).toNatClampNeg) - (1 : Int32))).bind (fun r_6 => (if r_6 = 0 then (some (0 : Int32)) else (some (1 : Int32)))) else none)) : Option (Int32))).bind (fun j_2 => (wl ((if j_2 = 0 then (1 : Int32) else (0 : Int32))) (fun (j_8 : Int32) => (fX11_holds Ω j_8).bind (fun r_10 => (((if r_10.1 = 0 then (if inB (((40 : Int32) * (((24 : Int32) * x1) + x2)) + x3) 1920 then (some (xI r_10.2 2132 0 (((40 : Int32) * (((24 : Int32) * x1) + x2)) + x3).toNatClampNeg)) else none) else (some (-1 : Int32))) : Option (Int32))).bind (fun j_11 => (some (j_11, r_10.2))))))))
set_option maxRecDepth 20000 in
theorem tX11_eventAt {G : XG} (hok : XK G) {x1 : Int32} {x2 : Int32} {x3 : Int32} {Ω : XO} (hd0 : dm G 11 0)   {r : Int32 × XO} (hf : fX11_eventAt Ω x1 x2 x3 = some r) : XM G yX11_eventAt cX11_eventAt 5 ((some FieldType.int)) (RM 3 0) [.ref (ad G 11 0), .int x1, .int x2, .int x3] Ω (.inl (some (.int (r.1)))) r.2 := by
  refine x_start (lv := [(0, .ref (ad G 11 0)), (1, .int x1), (2, .int x2), (3, .int x3)]) (own := RX11) hok (by decide +kernel) rfl (Nat.le_of_ble_eq_true rfl) rfl (fun B C => ?_)
  refine x_aload_n (pc2 := 1) C dX11_eventAt_0 0 rfl rfl rfl ?_
  refine x_iload_n (pc2 := 2) C dX11_eventAt_1 1 rfl rfl rfl ?_
  refine x_iload_n (pc2 := 3) C dX11_eventAt_2 2 rfl rfl rfl ?_
  rcases opt_em (fX11_isBlock Ω x1 x2) with hq_1 | ⟨r_1, hq_1⟩
  · exact absurd hf (by rw [fX11_eventAt, ob_n hq_1]; exact nofun)
  refine x_ret (rest := []) (st2 := [_]) (pc2 := 6) (cu2 := 0) (su2 := 0) (x_cV C (by assumption) (Nat.le_of_ble_eq_true rfl) kmX11_isBlock rfl kk_11_349 (tX11_isBlock hok (by assumption)  hq_1) rfl rfl (Nat.le_of_ble_eq_true rfl) ⟨Nat.le_of_ble_eq_true rfl, Nat.le_of_ble_eq_true rfl⟩ ⟨Nat.le_of_ble_eq_true rfl, Nat.le_of_ble_eq_true rfl⟩ dX11_eventAt_3) rfl rfl rfl rfl ?_
  rcases opt_em ((if r_1 = 0 then (some (0 : Int32)) else (if inB (((24 : Int32) * x1) + x2) 48 then (fX11_in Ω x3 (0 : Int32) ((xI Ω 2130 0 (((24 : Int32) * x1) + x2).toNatClampNeg) - (1 : Int32))).bind (fun r_6 => (if r_6 = 0 then (some (0 : Int32)) else (some (1 : Int32)))) else none)) : Option (Int32)) with hq_2 | ⟨j_2, hq_2⟩
  · exact absurd hf (by rw [fX11_eventAt, ob_s hq_1, ob_n hq_2]; exact nofun)
  suffices hj_2 : XW G B 5 36 [(0, .ref (ad G 11 (0))), (1, .int (x1)), (2, .int (x2)), (3, .int (x3))] [.int (j_2)] Ω 0 0 by
    refine x_if_eq (tgt := 35) (pc2 := 9) C dX11_eventAt_6 (by decide) rfl (fun qc_3 => ?_) (fun qc_3 => ?_)
    · refine x_iconst (pc2 := 36) (v := 0) C dX11_eventAt_35 rfl rfl ?_
      rw [if_pos qc_3] at hq_2
      obtain rfl := (Option.some.inj hq_2).symm
      exact x_sub (lv2 := [(0, _), (1, _), (2, _), (3, _)]) C [0, 1, 2, 3] rfl hj_2
    · refine x_aload_n (pc2 := 10) C dX11_eventAt_9 0 rfl rfl rfl ?_
      refine x_iload_n (pc2 := 11) C dX11_eventAt_10 3 rfl rfl rfl ?_
      refine x_iconst (pc2 := 12) (v := 0) C dX11_eventAt_11 rfl rfl ?_
      refine x_aload_n (pc2 := 13) C dX11_eventAt_12 0 rfl rfl rfl ?_
      refine x_getR (f := 1130) (k2 := 2130) (pc2 := 16) C (by assumption) kf_11_98 dX11_eventAt_13 rfl rfl rfl (rti_i rfl) rfl (fun qd_4 => ?_)
      refine x_bipush (pc2 := 18) (v := 24) C dX11_eventAt_16 rfl rfl ?_
      refine x_iload_n (pc2 := 19) C dX11_eventAt_18 1 rfl rfl rfl ?_
      refine x_imul (pc2 := 20) C dX11_eventAt_19 rfl ?_
      refine x_iload_n (pc2 := 21) C dX11_eventAt_20 2 rfl rfl rfl ?_
      refine x_iadd (pc2 := 22) C dX11_eventAt_21 rfl ?_
      rcases (Decidable.em (inB (((24 : Int32) * x1) + x2) 48)).symm with qg_5 | qg_5
      · exact absurd hq_2 (by rw [if_neg qc_3, if_neg qg_5]; exact nofun)
      refine x_iald (pc2 := 23) C (by assumption) dX11_eventAt_22 rfl (inB_in qg_5) rfl ?_
      refine x_iconst (pc2 := 24) (v := 1) C dX11_eventAt_23 rfl rfl ?_
      refine x_isub (pc2 := 25) C dX11_eventAt_24 rfl ?_
      rcases opt_em (fX11_in Ω x3 (0 : Int32) ((xI Ω 2130 0 (((24 : Int32) * x1) + x2).toNatClampNeg) - (1 : Int32))) with hq_6 | ⟨r_6, hq_6⟩
      · exact absurd hq_2 (by rw [if_neg qc_3, if_pos qg_5, ob_n hq_6]; exact nofun)
      refine x_ret (rest := []) (st2 := [_]) (pc2 := 28) (cu2 := 0) (su2 := 0) (x_cV C (by assumption) (Nat.le_of_ble_eq_true rfl) kmX11_in rfl kk_11_178 (tX11_in hok (by assumption)  hq_6) rfl rfl (Nat.le_of_ble_eq_true rfl) ⟨Nat.le_of_ble_eq_true rfl, Nat.le_of_ble_eq_true rfl⟩ ⟨Nat.le_of_ble_eq_true rfl, Nat.le_of_ble_eq_true rfl⟩ dX11_eventAt_25) rfl rfl rfl rfl ?_
      refine x_if_eq (tgt := 35) (pc2 := 31) C dX11_eventAt_28 (by decide) rfl (fun qc_7 => ?_) (fun qc_7 => ?_)
      · refine x_iconst (pc2 := 36) (v := 0) C dX11_eventAt_35 rfl rfl ?_
        rw [if_neg qc_3, if_pos qg_5, ob_s hq_6, if_pos qc_7] at hq_2
        obtain rfl := (Option.some.inj hq_2).symm
        exact x_sub (lv2 := [(0, _), (1, _), (2, _), (3, _)]) C [0, 1, 2, 3] rfl hj_2
      · refine x_iconst (pc2 := 32) (v := 1) C dX11_eventAt_31 rfl rfl ?_
        refine x_goto (tgt := 36) C dX11_eventAt_32 (by decide) ?_
        rw [if_neg qc_3, if_pos qg_5, ob_s hq_6, if_neg qc_7] at hq_2
        obtain rfl := (Option.some.inj hq_2).symm
        exact x_sub (lv2 := [(0, _), (1, _), (2, _), (3, _)]) C [0, 1, 2, 3] rfl hj_2
  refine x_istore (pc2 := 38) (lv2 := [(4, _), (0, _), (1, _), (2, _), (3, _)]) C dX11_eventAt_36 (by decide) rfl rfl ?_
  refine x_aload_n (pc2 := 39) C dX11_eventAt_38 1 rfl rfl rfl ?_
  refine x_iload (pc2 := 41) C dX11_eventAt_39 0 rfl rfl ?_
  obtain ⟨j_8, hq_8⟩ : ∃ z : Int32, z = (if j_2 = 0 then (1 : Int32) else (0 : Int32)) := ⟨_, rfl⟩
  suffices hj_8 : XW G B 5 49 [(0, .ref (ad G 11 (0))), (1, .int (x1)), (2, .int (x2)), (3, .int (x3))] [.int (j_8), .ref (ad G 11 (0))] Ω 0 0 by
    refine x_if_eq (tgt := 48) (pc2 := 44) C dX11_eventAt_41 (by decide) rfl (fun qc_9 => ?_) (fun qc_9 => ?_)
    · refine x_iconst (pc2 := 49) (v := 1) C dX11_eventAt_48 rfl rfl ?_
      rw [if_pos qc_9] at hq_8
      subst hq_8
      exact x_sub (lv2 := [(0, _), (1, _), (2, _), (3, _)]) C [1, 2, 3, 4] rfl hj_8
    · refine x_iconst (pc2 := 45) (v := 0) C dX11_eventAt_44 rfl rfl ?_
      refine x_goto (tgt := 49) C dX11_eventAt_45 (by decide) ?_
      rw [if_neg qc_9] at hq_8
      subst hq_8
      exact x_sub (lv2 := [(0, _), (1, _), (2, _), (3, _)]) C [1, 2, 3, 4] rfl hj_8
  rcases opt_em (fX11_holds Ω j_8) with hq_10 | ⟨r_10, hq_10⟩
  · exact absurd hf (by rw [fX11_eventAt, ob_s hq_1, ob_s hq_2, wl_eq hq_8, ob_n hq_10]; exact nofun)
  refine x_ret (rest := []) (st2 := [_]) (pc2 := 52) (cu2 := 0) (su2 := 0) (x_cV C (by assumption) (Nat.le_of_ble_eq_true rfl) kmX11_holds rfl kk_11_214 (tX11_holds hok (by assumption)  hq_10) rfl rfl (Nat.le_of_ble_eq_true rfl) ⟨Nat.le_of_ble_eq_true rfl, Nat.le_of_ble_eq_true rfl⟩ ⟨Nat.le_of_ble_eq_true rfl, Nat.le_of_ble_eq_true rfl⟩ dX11_eventAt_49) rfl rfl rfl rfl ?_
  rcases opt_em ((if r_10.1 = 0 then (if inB (((40 : Int32) * (((24 : Int32) * x1) + x2)) + x3) 1920 then (some (xI r_10.2 2132 0 (((40 : Int32) * (((24 : Int32) * x1) + x2)) + x3).toNatClampNeg)) else none) else (some (-1 : Int32))) : Option (Int32)) with hq_11 | ⟨j_11, hq_11⟩
  · exact absurd hf (by rw [fX11_eventAt, ob_s hq_1, ob_s hq_2, wl_eq hq_8, ob_s hq_10, ob_n hq_11]; exact nofun)
  suffices hj_11 : XW G B 5 75 [] [.int (j_11)] r_10.2 0 0 by
    refine x_if_eq (tgt := 59) (pc2 := 55) C dX11_eventAt_52 (by decide) rfl (fun qc_12 => ?_) (fun qc_12 => ?_)
    · refine x_aload_n (pc2 := 60) C dX11_eventAt_59 0 rfl rfl rfl ?_
      refine x_getR (f := 1132) (k2 := 2132) (pc2 := 63) C (by assumption) kf_11_104 dX11_eventAt_60 rfl rfl rfl (rti_i rfl) rfl (fun qd_13 => ?_)
      refine x_bipush (pc2 := 65) (v := 40) C dX11_eventAt_63 rfl rfl ?_
      refine x_bipush (pc2 := 67) (v := 24) C dX11_eventAt_65 rfl rfl ?_
      refine x_iload_n (pc2 := 68) C dX11_eventAt_67 1 rfl rfl rfl ?_
      refine x_imul (pc2 := 69) C dX11_eventAt_68 rfl ?_
      refine x_iload_n (pc2 := 70) C dX11_eventAt_69 2 rfl rfl rfl ?_
      refine x_iadd (pc2 := 71) C dX11_eventAt_70 rfl ?_
      refine x_imul (pc2 := 72) C dX11_eventAt_71 rfl ?_
      refine x_iload_n (pc2 := 73) C dX11_eventAt_72 3 rfl rfl rfl ?_
      refine x_iadd (pc2 := 74) C dX11_eventAt_73 rfl ?_
      rcases (Decidable.em (inB (((40 : Int32) * (((24 : Int32) * x1) + x2)) + x3) 1920)).symm with qg_14 | qg_14
      · exact absurd hq_11 (by rw [if_pos qc_12, if_neg qg_14]; exact nofun)
      refine x_iald (pc2 := 75) C (by assumption) dX11_eventAt_74 rfl (inB_in qg_14) rfl ?_
      rw [if_pos qc_12, if_pos qg_14] at hq_11
      obtain rfl := (Option.some.inj hq_11).symm
      exact x_sub (lv2 := []) C [] rfl hj_11
    · refine x_iconst (pc2 := 56) (v := (-1)) C dX11_eventAt_55 rfl rfl ?_
      refine x_goto (tgt := 75) C dX11_eventAt_56 (by decide) ?_
      rw [if_neg qc_12] at hq_11
      obtain rfl := (Option.some.inj hq_11).symm
      exact x_sub (lv2 := []) C [] rfl hj_11
  rw [fX11_eventAt, ob_s hq_1, ob_s hq_2, wl_eq hq_8, ob_s hq_10, ob_s hq_11] at hf
  obtain rfl := (Option.some.inj hf).symm
  exact x_ireturn C dX11_eventAt_75 rfl (Nat.le_of_ble_eq_true rfl) (Nat.le_of_ble_eq_true rfl) rfl rfl
def fX11_bloom (Ω : XO) (x1 : Int32) (x2 : Int32) : Option (Int32 × XO) := (fX11_isBlock Ω x1 x2).bind (fun r_1 => (wl ((if r_1 = 0 then (1 : Int32) else (0 : Int32))) (fun (j_2 : Int32) => (fX11_holds Ω j_2).bind (fun r_4 => (((if r_4.1 = 0 then (if inB (((24 : Int32) * x1) + x2) 48 then (some (xI r_4.2 2128 0 (((24 : Int32) * x1) + x2).toNatClampNeg)) else none) else (some (-1 : Int32))) : Option (Int32))).bind (fun j_5 => (some (j_5, r_4.2)))))))
set_option maxRecDepth 20000 in
theorem tX11_bloom {G : XG} (hok : XK G) {x1 : Int32} {x2 : Int32} {Ω : XO} (hd0 : dm G 11 0)   {r : Int32 × XO} (hf : fX11_bloom Ω x1 x2 = some r) : XM G yX11_bloom cX11_bloom 3 ((some FieldType.int)) (RM 3 0) [.ref (ad G 11 0), .int x1, .int x2] Ω (.inl (some (.int (r.1)))) r.2 := by
  refine x_start (lv := [(0, .ref (ad G 11 0)), (1, .int x1), (2, .int x2)]) (own := RX11) hok (by decide +kernel) rfl (Nat.le_of_ble_eq_true rfl) rfl (fun B C => ?_)
  refine x_aload_n (pc2 := 1) C dX11_bloom_0 0 rfl rfl rfl ?_
  refine x_aload_n (pc2 := 2) C dX11_bloom_1 0 rfl rfl rfl ?_
  refine x_iload_n (pc2 := 3) C dX11_bloom_2 1 rfl rfl rfl ?_
  refine x_iload_n (pc2 := 4) C dX11_bloom_3 2 rfl rfl rfl ?_
  rcases opt_em (fX11_isBlock Ω x1 x2) with hq_1 | ⟨r_1, hq_1⟩
  · exact absurd hf (by rw [fX11_bloom, ob_n hq_1]; exact nofun)
  refine x_ret (rest := [_]) (st2 := [_, _]) (pc2 := 7) (cu2 := 0) (su2 := 0) (x_cV C (by assumption) (Nat.le_of_ble_eq_true rfl) kmX11_isBlock rfl kk_11_349 (tX11_isBlock hok (by assumption)  hq_1) rfl rfl (Nat.le_of_ble_eq_true rfl) ⟨Nat.le_of_ble_eq_true rfl, Nat.le_of_ble_eq_true rfl⟩ ⟨Nat.le_of_ble_eq_true rfl, Nat.le_of_ble_eq_true rfl⟩ dX11_bloom_4) rfl rfl rfl rfl ?_
  obtain ⟨j_2, hq_2⟩ : ∃ z : Int32, z = (if r_1 = 0 then (1 : Int32) else (0 : Int32)) := ⟨_, rfl⟩
  suffices hj_2 : XW G B 3 15 [(0, .ref (ad G 11 (0))), (1, .int (x1)), (2, .int (x2))] [.int (j_2), .ref (ad G 11 (0))] Ω 0 0 by
    refine x_if_eq (tgt := 14) (pc2 := 10) C dX11_bloom_7 (by decide) rfl (fun qc_3 => ?_) (fun qc_3 => ?_)
    · refine x_iconst (pc2 := 15) (v := 1) C dX11_bloom_14 rfl rfl ?_
      rw [if_pos qc_3] at hq_2
      subst hq_2
      exact x_sub (lv2 := [(0, _), (1, _), (2, _)]) C [0, 1, 2] rfl hj_2
    · refine x_iconst (pc2 := 11) (v := 0) C dX11_bloom_10 rfl rfl ?_
      refine x_goto (tgt := 15) C dX11_bloom_11 (by decide) ?_
      rw [if_neg qc_3] at hq_2
      subst hq_2
      exact x_sub (lv2 := [(0, _), (1, _), (2, _)]) C [0, 1, 2] rfl hj_2
  rcases opt_em (fX11_holds Ω j_2) with hq_4 | ⟨r_4, hq_4⟩
  · exact absurd hf (by rw [fX11_bloom, ob_s hq_1, wl_eq hq_2, ob_n hq_4]; exact nofun)
  refine x_ret (rest := []) (st2 := [_]) (pc2 := 18) (cu2 := 0) (su2 := 0) (x_cV C (by assumption) (Nat.le_of_ble_eq_true rfl) kmX11_holds rfl kk_11_214 (tX11_holds hok (by assumption)  hq_4) rfl rfl (Nat.le_of_ble_eq_true rfl) ⟨Nat.le_of_ble_eq_true rfl, Nat.le_of_ble_eq_true rfl⟩ ⟨Nat.le_of_ble_eq_true rfl, Nat.le_of_ble_eq_true rfl⟩ dX11_bloom_15) rfl rfl rfl rfl ?_
  rcases opt_em ((if r_4.1 = 0 then (if inB (((24 : Int32) * x1) + x2) 48 then (some (xI r_4.2 2128 0 (((24 : Int32) * x1) + x2).toNatClampNeg)) else none) else (some (-1 : Int32))) : Option (Int32)) with hq_5 | ⟨j_5, hq_5⟩
  · exact absurd hf (by rw [fX11_bloom, ob_s hq_1, wl_eq hq_2, ob_s hq_4, ob_n hq_5]; exact nofun)
  suffices hj_5 : XW G B 3 36 [] [.int (j_5)] r_4.2 0 0 by
    refine x_if_eq (tgt := 25) (pc2 := 21) C dX11_bloom_18 (by decide) rfl (fun qc_6 => ?_) (fun qc_6 => ?_)
    · refine x_aload_n (pc2 := 26) C dX11_bloom_25 0 rfl rfl rfl ?_
      refine x_getR (f := 1128) (k2 := 2128) (pc2 := 29) C (by assumption) kf_11_92 dX11_bloom_26 rfl rfl rfl (rti_i rfl) rfl (fun qd_7 => ?_)
      refine x_bipush (pc2 := 31) (v := 24) C dX11_bloom_29 rfl rfl ?_
      refine x_iload_n (pc2 := 32) C dX11_bloom_31 1 rfl rfl rfl ?_
      refine x_imul (pc2 := 33) C dX11_bloom_32 rfl ?_
      refine x_iload_n (pc2 := 34) C dX11_bloom_33 2 rfl rfl rfl ?_
      refine x_iadd (pc2 := 35) C dX11_bloom_34 rfl ?_
      rcases (Decidable.em (inB (((24 : Int32) * x1) + x2) 48)).symm with qg_8 | qg_8
      · exact absurd hq_5 (by rw [if_pos qc_6, if_neg qg_8]; exact nofun)
      refine x_iald (pc2 := 36) C (by assumption) dX11_bloom_35 rfl (inB_in qg_8) rfl ?_
      rw [if_pos qc_6, if_pos qg_8] at hq_5
      obtain rfl := (Option.some.inj hq_5).symm
      exact x_sub (lv2 := []) C [] rfl hj_5
    · refine x_iconst (pc2 := 22) (v := (-1)) C dX11_bloom_21 rfl rfl ?_
      refine x_goto (tgt := 36) C dX11_bloom_22 (by decide) ?_
      rw [if_neg qc_6] at hq_5
      obtain rfl := (Option.some.inj hq_5).symm
      exact x_sub (lv2 := []) C [] rfl hj_5
  rw [fX11_bloom, ob_s hq_1, wl_eq hq_2, ob_s hq_4, ob_s hq_5] at hf
  obtain rfl := (Option.some.inj hf).symm
  exact x_ireturn C dX11_bloom_36 rfl (Nat.le_of_ble_eq_true rfl) (Nat.le_of_ble_eq_true rfl) rfl rfl
def fX11_find_l108 (Ω : XO) (y1 : Int32) (y2 : Int32) (y3 : Int32) (y5 : Int32) (y6 : Int32) : Nat → Int32 → Int32 → Option (Int32 × Int32)
  | 0, _, _ => none
  | n + 1, y7, y4 => (if inB y6 48 then (if (xI Ω 2130 0 y6.toNatClampNeg) ≤ y7 then (some (y7, y4)) else (if inB (((40 : Int32) * y6) + y7) 1920 then (wl ((if ((xI Ω 2132 0 (((40 : Int32) * y6) + y7).toNatClampNeg) / (100 : Int32)) = y2 then (1 : Int32) else (0 : Int32))) (fun (j_6 : Int32) => fX11_find_l108 Ω y1 y2 y3 y5 y6 n (y7 + 1) (y4 + j_6))) else none)) else none)
set_option maxRecDepth 20000 in
theorem lX11_find_l108 {G : XG} (hok : XK G) {B : XB} {y1 : Int32} {y2 : Int32} {y3 : Int32} {y5 : Int32} {y6 : Int32} {Ω : XO} (hf0 : dm G 11 0)   {T : Option Value ⊕ String} {Ω9 : XO} (C : XC G B cX11_find RX11 (RM 2 0) 8 ((some FieldType.int)) T Ω9) : ∀ (n : Nat) (y7 : Int32) (y4 : Int32) {r : (Int32 × Int32)}, fX11_find_l108 Ω y1 y2 y3 y5 y6 n y7 y4 = some r → (∀ q, r = q → (XW G B 8 156 [(4, .int (q.2)), (0, .ref (ad G 11 (0))), (1, .int (y1)), (2, .int (y2)), (3, .int (y3)), (5, .int (y5))] [] Ω 0 0)) → XW G B 8 108 [(7, .int (y7)), (4, .int (y4)), (0, .ref (ad G 11 (0))), (1, .int (y1)), (2, .int (y2)), (3, .int (y3)), (5, .int (y5)), (6, .int (y6))] [] Ω 0 0 := by
  intro n
  induction n with
  | zero => intro y7 y4 r hf; exact absurd hf (by rw [fX11_find_l108]; exact nofun)
  | succ n ih =>
    intro y7 y4 r hf hk
    refine x_iload (pc2 := 110) C dX11_find_108 0 rfl rfl ?_
    refine x_aload_n (pc2 := 111) C dX11_find_110 2 rfl rfl rfl ?_
    refine x_getR (f := 1130) (k2 := 2130) (pc2 := 114) C (by assumption) kf_11_98 dX11_find_111 rfl rfl rfl (rti_i rfl) rfl (fun qd_1 => ?_)
    refine x_iload (pc2 := 116) C dX11_find_114 7 rfl rfl ?_
    rcases (Decidable.em (inB y6 48)).symm with qg_2 | qg_2
    · exact absurd hf (by rw [fX11_find_l108, if_neg qg_2]; exact nofun)
    refine x_iald (pc2 := 117) C (by assumption) dX11_find_116 rfl (inB_in qg_2) rfl ?_
    refine x_icmp_ge (tgt := 156) (pc2 := 120) C dX11_find_117 (by decide) rfl (fun qc_3 => ?_) (fun qc_3 => ?_)
    · rw [fX11_find_l108, if_pos qg_2, if_pos qc_3] at hf
      exact x_sub (lv2 := [(4, _), (0, _), (1, _), (2, _), (3, _), (5, _)]) C [1, 2, 3, 4, 5, 6] rfl (hk _ (Option.some.inj hf).symm)
    · refine x_iload (pc2 := 122) C dX11_find_120 1 rfl rfl ?_
      refine x_aload_n (pc2 := 123) C dX11_find_122 2 rfl rfl rfl ?_
      refine x_getR (f := 1132) (k2 := 2132) (pc2 := 126) C (by assumption) kf_11_104 dX11_find_123 rfl rfl rfl (rti_i rfl) rfl (fun qd_4 => ?_)
      refine x_bipush (pc2 := 128) (v := 40) C dX11_find_126 rfl rfl ?_
      refine x_iload (pc2 := 130) C dX11_find_128 7 rfl rfl ?_
      refine x_imul (pc2 := 131) C dX11_find_130 rfl ?_
      refine x_iload (pc2 := 133) C dX11_find_131 0 rfl rfl ?_
      refine x_iadd (pc2 := 134) C dX11_find_133 rfl ?_
      rcases (Decidable.em (inB (((40 : Int32) * y6) + y7) 1920)).symm with qg_5 | qg_5
      · exact absurd hf (by rw [fX11_find_l108, if_pos qg_2, if_neg qc_3, if_neg qg_5]; exact nofun)
      refine x_iald (pc2 := 135) C (by assumption) dX11_find_134 rfl (inB_in qg_5) rfl ?_
      refine x_bipush (pc2 := 137) (v := 100) C dX11_find_135 rfl rfl ?_
      refine x_idiv (pc2 := 138) C dX11_find_137 (by decide +kernel) rfl ?_
      refine x_iload_n (pc2 := 139) C dX11_find_138 4 rfl rfl rfl ?_
      obtain ⟨j_6, hq_6⟩ : ∃ z : Int32, z = (if ((xI Ω 2132 0 (((40 : Int32) * y6) + y7).toNatClampNeg) / (100 : Int32)) = y2 then (1 : Int32) else (0 : Int32)) := ⟨_, rfl⟩
      suffices hj_6 : XW G B 8 147 [(0, .ref (ad G 11 (0))), (1, .int (y1)), (2, .int (y2)), (3, .int (y3)), (5, .int (y5)), (6, .int (y6)), (7, .int (y7))] [.int (j_6), .int (y4)] Ω 0 0 by
        refine x_icmp_ne (tgt := 146) (pc2 := 142) C dX11_find_139 (by decide) rfl (fun qc_7 => ?_) (fun qc_7 => ?_)
        · refine x_iconst (pc2 := 147) (v := 0) C dX11_find_146 rfl rfl ?_
          rw [if_neg qc_7] at hq_6
          subst hq_6
          exact x_sub (lv2 := [(0, _), (1, _), (2, _), (3, _), (5, _), (6, _), (7, _)]) C [2, 3, 4, 5, 6, 7, 0] rfl hj_6
        · refine x_iconst (pc2 := 143) (v := 1) C dX11_find_142 rfl rfl ?_
          refine x_goto (tgt := 147) C dX11_find_143 (by decide) ?_
          rw [if_pos qc_7] at hq_6
          subst hq_6
          exact x_sub (lv2 := [(0, _), (1, _), (2, _), (3, _), (5, _), (6, _), (7, _)]) C [2, 3, 4, 5, 6, 7, 0] rfl hj_6
      refine x_iadd (pc2 := 148) C dX11_find_147 rfl ?_
      refine x_istore (pc2 := 150) (lv2 := [(4, _), (0, _), (1, _), (2, _), (3, _), (5, _), (6, _), (7, _)]) C dX11_find_148 (by decide) rfl rfl ?_
      refine x_iinc (pc2 := 153) (v := y7 + 1) (lv2 := [(7, _), (4, _), (0, _), (1, _), (2, _), (3, _), (5, _), (6, _)]) C dX11_find_150 7 rfl rfl (by decide) rfl rfl ?_
      refine x_goto (tgt := 108) C dX11_find_153 (by decide) ?_
      exact x_sub (lv2 := [(7, _), (4, _), (0, _), (1, _), (2, _), (3, _), (5, _), (6, _)]) C [0, 1, 2, 3, 4, 5, 6, 7] rfl (ih (y7 + 1) (y4 + j_6) (by rw [fX11_find_l108, if_pos qg_2, if_neg qc_3, if_pos qg_5, wl_eq hq_6] at hf; exact hf) hk)
def fX11_find_l67 (Ω : XO) (y3 : Int32) (y1 : Int32) (y2 : Int32) : Nat → Int32 → Int32 → Option (Int32 × Int32)
  | 0, _, _ => none
  | n + 1, y5, y4 => (if y5 < 0 then (some (y5, y4)) else (if inB (((24 : Int32) * y1) + y5) 48 then (wl ((if ((xI Ω 2128 0 (((24 : Int32) * y1) + y5).toNatClampNeg) &&& y3) = y3 then (100 : Int32) else (0 : Int32))) (fun (j_4 : Int32) => (fX11_find_l108 Ω y1 y2 y3 y5 (((24 : Int32) * y1) + y5) ((xI Ω 2130 0 (((24 : Int32) * y1) + y5).toNatClampNeg).toNatClampNeg + 1) (0 : Int32) (y4 + j_4)).bind (fun q_6 => (if inB (((24 : Int32) * y1) + y5) 48 then fX11_find_l67 Ω y3 y1 y2 n (xI Ω 2120 0 (((24 : Int32) * y1) + y5).toNatClampNeg) q_6.2 else none)))) else none))
set_option maxRecDepth 20000 in
theorem lX11_find_l67 {G : XG} (hok : XK G) {B : XB} {y3 : Int32} {y1 : Int32} {y2 : Int32} {Ω : XO} (hf0 : dm G 11 0)   {T : Option Value ⊕ String} {Ω9 : XO} (C : XC G B cX11_find RX11 (RM 2 0) 8 ((some FieldType.int)) T Ω9) : ∀ (n : Nat) (y5 : Int32) (y4 : Int32) {r : (Int32 × Int32)}, fX11_find_l67 Ω y3 y1 y2 n y5 y4 = some r → (∀ q, r = q → (XW G B 8 173 [(4, .int (q.2))] [] Ω 0 0)) → XW G B 8 67 [(5, .int (y5)), (4, .int (y4)), (3, .int (y3)), (0, .ref (ad G 11 (0))), (1, .int (y1)), (2, .int (y2))] [] Ω 0 0 := by
  intro n
  induction n with
  | zero => intro y5 y4 r hf; exact absurd hf (by rw [fX11_find_l67]; exact nofun)
  | succ n ih =>
    intro y5 y4 r hf hk
    refine x_iload (pc2 := 69) C dX11_find_67 0 rfl rfl ?_
    refine x_if_lt (tgt := 173) (pc2 := 72) C dX11_find_69 (by decide) rfl (fun qc_1 => ?_) (fun qc_1 => ?_)
    · rw [fX11_find_l67, if_pos qc_1] at hf
      exact x_sub (lv2 := [(4, _)]) C [1] rfl (hk _ (Option.some.inj hf).symm)
    · refine x_bipush (pc2 := 74) (v := 24) C dX11_find_72 rfl rfl ?_
      refine x_iload_n (pc2 := 75) C dX11_find_74 4 rfl rfl rfl ?_
      refine x_imul (pc2 := 76) C dX11_find_75 rfl ?_
      refine x_iload (pc2 := 78) C dX11_find_76 0 rfl rfl ?_
      refine x_iadd (pc2 := 79) C dX11_find_78 rfl ?_
      refine x_istore (pc2 := 81) (lv2 := [(6, _), (5, _), (4, _), (3, _), (0, _), (1, _), (2, _)]) C dX11_find_79 (by decide) rfl rfl ?_
      refine x_iload (pc2 := 83) C dX11_find_81 2 rfl rfl ?_
      refine x_aload_n (pc2 := 84) C dX11_find_83 4 rfl rfl rfl ?_
      refine x_getR (f := 1128) (k2 := 2128) (pc2 := 87) C (by assumption) kf_11_92 dX11_find_84 rfl rfl rfl (rti_i rfl) rfl (fun qd_2 => ?_)
      refine x_iload (pc2 := 89) C dX11_find_87 0 rfl rfl ?_
      rcases (Decidable.em (inB (((24 : Int32) * y1) + y5) 48)).symm with qg_3 | qg_3
      · exact absurd hf (by rw [fX11_find_l67, if_neg qc_1, if_neg qg_3]; exact nofun)
      refine x_iald (pc2 := 90) C (by assumption) dX11_find_89 rfl (inB_in qg_3) rfl ?_
      refine x_iload_n (pc2 := 91) C dX11_find_90 3 rfl rfl rfl ?_
      refine x_iand (pc2 := 92) C dX11_find_91 rfl ?_
      refine x_iload_n (pc2 := 93) C dX11_find_92 3 rfl rfl rfl ?_
      obtain ⟨j_4, hq_4⟩ : ∃ z : Int32, z = (if ((xI Ω 2128 0 (((24 : Int32) * y1) + y5).toNatClampNeg) &&& y3) = y3 then (100 : Int32) else (0 : Int32)) := ⟨_, rfl⟩
      suffices hj_4 : XW G B 8 102 [(0, .ref (ad G 11 (0))), (1, .int (y1)), (2, .int (y2)), (3, .int (y3)), (5, .int (y5)), (6, .int (((24 : Int32) * y1) + y5))] [.int (j_4), .int (y4)] Ω 0 0 by
        refine x_icmp_ne (tgt := 101) (pc2 := 96) C dX11_find_93 (by decide) rfl (fun qc_5 => ?_) (fun qc_5 => ?_)
        · refine x_iconst (pc2 := 102) (v := 0) C dX11_find_101 rfl rfl ?_
          rw [if_neg qc_5] at hq_4
          subst hq_4
          exact x_sub (lv2 := [(0, _), (1, _), (2, _), (3, _), (5, _), (6, _)]) C [4, 5, 6, 3, 1, 0] rfl hj_4
        · refine x_bipush (pc2 := 98) (v := 100) C dX11_find_96 rfl rfl ?_
          refine x_goto (tgt := 102) C dX11_find_98 (by decide) ?_
          rw [if_pos qc_5] at hq_4
          subst hq_4
          exact x_sub (lv2 := [(0, _), (1, _), (2, _), (3, _), (5, _), (6, _)]) C [4, 5, 6, 3, 1, 0] rfl hj_4
      refine x_iadd (pc2 := 103) C dX11_find_102 rfl ?_
      refine x_istore (pc2 := 105) (lv2 := [(4, _), (0, _), (1, _), (2, _), (3, _), (5, _), (6, _)]) C dX11_find_103 (by decide) rfl rfl ?_
      refine x_iconst (pc2 := 106) (v := 0) C dX11_find_105 rfl rfl ?_
      refine x_istore (pc2 := 108) (lv2 := [(7, _), (4, _), (0, _), (1, _), (2, _), (3, _), (5, _), (6, _)]) C dX11_find_106 (by decide) rfl rfl ?_
      rcases opt_em (fX11_find_l108 Ω y1 y2 y3 y5 (((24 : Int32) * y1) + y5) ((xI Ω 2130 0 (((24 : Int32) * y1) + y5).toNatClampNeg).toNatClampNeg + 1) (0 : Int32) (y4 + j_4)) with hq_6 | ⟨q_6, hq_6⟩
      · exact absurd hf (by rw [fX11_find_l67, if_neg qc_1, if_pos qg_3, wl_eq hq_4, ob_n hq_6]; exact nofun)
      refine x_sub (lv2 := [(7, _), (4, _), (0, _), (1, _), (2, _), (3, _), (5, _), (6, _)]) C [0, 1, 2, 3, 4, 5, 6, 7] rfl (lX11_find_l108 hok (by assumption) C ((xI Ω 2130 0 (((24 : Int32) * y1) + y5).toNatClampNeg).toNatClampNeg + 1) (0 : Int32) (y4 + j_4) hq_6 (fun q9 h9 => ?_))
      cases h9
      refine x_aload_n (pc2 := 157) C dX11_find_156 1 rfl rfl rfl ?_
      refine x_getR (f := 1120) (k2 := 2120) (pc2 := 160) C (by assumption) kf_11_67 dX11_find_157 rfl rfl rfl (rti_i rfl) rfl (fun qd_7 => ?_)
      refine x_bipush (pc2 := 162) (v := 24) C dX11_find_160 rfl rfl ?_
      refine x_iload_n (pc2 := 163) C dX11_find_162 2 rfl rfl rfl ?_
      refine x_imul (pc2 := 164) C dX11_find_163 rfl ?_
      refine x_iload (pc2 := 166) C dX11_find_164 5 rfl rfl ?_
      refine x_iadd (pc2 := 167) C dX11_find_166 rfl ?_
      rcases (Decidable.em (inB (((24 : Int32) * y1) + y5) 48)).symm with qg_8 | qg_8
      · exact absurd hf (by rw [fX11_find_l67, if_neg qc_1, if_pos qg_3, wl_eq hq_4, ob_s hq_6, if_neg qg_8]; exact nofun)
      refine x_iald (pc2 := 168) C (by assumption) dX11_find_167 rfl (inB_in qg_8) rfl ?_
      refine x_istore (pc2 := 170) (lv2 := [(5, _), (4, _), (0, _), (1, _), (2, _), (3, _)]) C dX11_find_168 (by decide) rfl rfl ?_
      refine x_goto (tgt := 67) C dX11_find_170 (by decide) ?_
      exact x_sub (lv2 := [(5, _), (4, _), (3, _), (0, _), (1, _), (2, _)]) C [0, 1, 5, 2, 3, 4] rfl (ih (xI Ω 2120 0 (((24 : Int32) * y1) + y5).toNatClampNeg) q_6.2 (by rw [fX11_find_l67, if_neg qc_1, if_pos qg_3, wl_eq hq_4, ob_s hq_6, if_pos qg_8] at hf; exact hf) hk)
def fX11_find (Ω : XO) (x1 : Int32) (x2 : Int32) : Option (Int32 × XO) := (fX11_isChain Ω x1).bind (fun r_1 => (((if r_1 = 0 then (some (1 : Int32)) else (fX11_in Ω x2 (0 : Int32) (15 : Int32)).bind (fun r_4 => (if r_4 = 0 then (some (2 : Int32)) else (some (0 : Int32))))) : Option (Int32))).bind (fun j_2 => (fX11_holds Ω j_2).bind (fun r_6 => (if r_6.1 = 0 then (fX11_headOf r_6.2 x1).bind (fun r_8 => (fX11_find_l67 r_6.2 (((1 : Int32) <<< ((x2 - x2 / (8 : Int32) * (8 : Int32)) &&& 31)) ||| ((256 : Int32) <<< (((((5 : Int32) * x2) + (3 : Int32)) - (((5 : Int32) * x2) + (3 : Int32)) / (8 : Int32) * (8 : Int32)) &&& 31))) x1 x2 25 r_8 (0 : Int32)).bind (fun q_9 => (some (q_9.2, r_6.2)))) else (some ((-1 : Int32), r_6.2))))))
set_option maxRecDepth 20000 in
theorem tX11_find {G : XG} (hok : XK G) {x1 : Int32} {x2 : Int32} {Ω : XO} (hd0 : dm G 11 0)   {r : Int32 × XO} (hf : fX11_find Ω x1 x2 = some r) : XM G yX11_find cX11_find 8 ((some FieldType.int)) (RM 2 0) [.ref (ad G 11 0), .int x1, .int x2] Ω (.inl (some (.int (r.1)))) r.2 := by
  refine x_start (lv := [(0, .ref (ad G 11 0)), (1, .int x1), (2, .int x2)]) (own := RX11) hok (by decide +kernel) rfl (Nat.le_of_ble_eq_true rfl) rfl (fun B C => ?_)
  refine x_aload_n (pc2 := 1) C dX11_find_0 0 rfl rfl rfl ?_
  refine x_aload_n (pc2 := 2) C dX11_find_1 0 rfl rfl rfl ?_
  refine x_iload_n (pc2 := 3) C dX11_find_2 1 rfl rfl rfl ?_
  rcases opt_em (fX11_isChain Ω x1) with hq_1 | ⟨r_1, hq_1⟩
  · exact absurd hf (by rw [fX11_find, ob_n hq_1]; exact nofun)
  refine x_ret (rest := [_]) (st2 := [_, _]) (pc2 := 6) (cu2 := 0) (su2 := 0) (x_cV C (by assumption) (Nat.le_of_ble_eq_true rfl) kmX11_isChain rfl kk_11_182 (tX11_isChain hok (by assumption)  hq_1) rfl rfl (Nat.le_of_ble_eq_true rfl) ⟨Nat.le_of_ble_eq_true rfl, Nat.le_of_ble_eq_true rfl⟩ ⟨Nat.le_of_ble_eq_true rfl, Nat.le_of_ble_eq_true rfl⟩ dX11_find_3) rfl rfl rfl rfl ?_
  rcases opt_em ((if r_1 = 0 then (some (1 : Int32)) else (fX11_in Ω x2 (0 : Int32) (15 : Int32)).bind (fun r_4 => (if r_4 = 0 then (some (2 : Int32)) else (some (0 : Int32))))) : Option (Int32)) with hq_2 | ⟨j_2, hq_2⟩
  · exact absurd hf (by rw [fX11_find, ob_s hq_1, ob_n hq_2]; exact nofun)
  suffices hj_2 : XW G B 8 29 [(0, .ref (ad G 11 (0))), (1, .int (x1)), (2, .int (x2))] [.int (j_2), .ref (ad G 11 (0))] Ω 0 0 by
    refine x_if_ne (tgt := 13) (pc2 := 9) C dX11_find_6 (by decide) rfl (fun qc_3 => ?_) (fun qc_3 => ?_)
    · refine x_aload_n (pc2 := 14) C dX11_find_13 0 rfl rfl rfl ?_
      refine x_iload_n (pc2 := 15) C dX11_find_14 2 rfl rfl rfl ?_
      refine x_iconst (pc2 := 16) (v := 0) C dX11_find_15 rfl rfl ?_
      refine x_bipush (pc2 := 18) (v := 15) C dX11_find_16 rfl rfl ?_
      rcases opt_em (fX11_in Ω x2 (0 : Int32) (15 : Int32)) with hq_4 | ⟨r_4, hq_4⟩
      · exact absurd hq_2 (by rw [if_neg qc_3, ob_n hq_4]; exact nofun)
      refine x_ret (rest := [_]) (st2 := [_, _]) (pc2 := 21) (cu2 := 0) (su2 := 0) (x_cV C (by assumption) (Nat.le_of_ble_eq_true rfl) kmX11_in rfl kk_11_178 (tX11_in hok (by assumption)  hq_4) rfl rfl (Nat.le_of_ble_eq_true rfl) ⟨Nat.le_of_ble_eq_true rfl, Nat.le_of_ble_eq_true rfl⟩ ⟨Nat.le_of_ble_eq_true rfl, Nat.le_of_ble_eq_true rfl⟩ dX11_find_18) rfl rfl rfl rfl ?_
      refine x_if_eq (tgt := 28) (pc2 := 24) C dX11_find_21 (by decide) rfl (fun qc_5 => ?_) (fun qc_5 => ?_)
      · refine x_iconst (pc2 := 29) (v := 2) C dX11_find_28 rfl rfl ?_
        rw [if_neg qc_3, ob_s hq_4, if_pos qc_5] at hq_2
        obtain rfl := (Option.some.inj hq_2).symm
        exact x_sub (lv2 := [(0, _), (1, _), (2, _)]) C [0, 1, 2] rfl hj_2
      · refine x_iconst (pc2 := 25) (v := 0) C dX11_find_24 rfl rfl ?_
        refine x_goto (tgt := 29) C dX11_find_25 (by decide) ?_
        rw [if_neg qc_3, ob_s hq_4, if_neg qc_5] at hq_2
        obtain rfl := (Option.some.inj hq_2).symm
        exact x_sub (lv2 := [(0, _), (1, _), (2, _)]) C [0, 1, 2] rfl hj_2
    · refine x_iconst (pc2 := 10) (v := 1) C dX11_find_9 rfl rfl ?_
      refine x_goto (tgt := 29) C dX11_find_10 (by decide) ?_
      rw [if_pos qc_3] at hq_2
      obtain rfl := (Option.some.inj hq_2).symm
      exact x_sub (lv2 := [(0, _), (1, _), (2, _)]) C [0, 1, 2] rfl hj_2
  rcases opt_em (fX11_holds Ω j_2) with hq_6 | ⟨r_6, hq_6⟩
  · exact absurd hf (by rw [fX11_find, ob_s hq_1, ob_s hq_2, ob_n hq_6]; exact nofun)
  refine x_ret (rest := []) (st2 := [_]) (pc2 := 32) (cu2 := 0) (su2 := 0) (x_cV C (by assumption) (Nat.le_of_ble_eq_true rfl) kmX11_holds rfl kk_11_214 (tX11_holds hok (by assumption)  hq_6) rfl rfl (Nat.le_of_ble_eq_true rfl) ⟨Nat.le_of_ble_eq_true rfl, Nat.le_of_ble_eq_true rfl⟩ ⟨Nat.le_of_ble_eq_true rfl, Nat.le_of_ble_eq_true rfl⟩ dX11_find_29) rfl rfl rfl rfl ?_
  refine x_if_eq (tgt := 37) (pc2 := 35) C dX11_find_32 (by decide) rfl (fun qc_7 => ?_) (fun qc_7 => ?_)
  · refine x_iconst (pc2 := 38) (v := 1) C dX11_find_37 rfl rfl ?_
    refine x_iload_n (pc2 := 39) C dX11_find_38 2 rfl rfl rfl ?_
    refine x_bipush (pc2 := 41) (v := 8) C dX11_find_39 rfl rfl ?_
    refine x_irem (pc2 := 42) C dX11_find_41 (by decide +kernel) rfl ?_
    refine x_ishl (pc2 := 43) C dX11_find_42 rfl ?_
    refine x_sipush (pc2 := 46) (v := 256) C dX11_find_43 rfl rfl ?_
    refine x_iconst (pc2 := 47) (v := 5) C dX11_find_46 rfl rfl ?_
    refine x_iload_n (pc2 := 48) C dX11_find_47 2 rfl rfl rfl ?_
    refine x_imul (pc2 := 49) C dX11_find_48 rfl ?_
    refine x_iconst (pc2 := 50) (v := 3) C dX11_find_49 rfl rfl ?_
    refine x_iadd (pc2 := 51) C dX11_find_50 rfl ?_
    refine x_bipush (pc2 := 53) (v := 8) C dX11_find_51 rfl rfl ?_
    refine x_irem (pc2 := 54) C dX11_find_53 (by decide +kernel) rfl ?_
    refine x_ishl (pc2 := 55) C dX11_find_54 rfl ?_
    refine x_ior (pc2 := 56) C dX11_find_55 rfl ?_
    refine x_istore_n (pc2 := 57) (lv2 := [(3, _), (0, _), (1, _), (2, _)]) C dX11_find_56 rfl (by decide) rfl rfl ?_
    refine x_iconst (pc2 := 58) (v := 0) C dX11_find_57 rfl rfl ?_
    refine x_istore (pc2 := 60) (lv2 := [(4, _), (3, _), (0, _), (1, _), (2, _)]) C dX11_find_58 (by decide) rfl rfl ?_
    refine x_aload_n (pc2 := 61) C dX11_find_60 2 rfl rfl rfl ?_
    refine x_iload_n (pc2 := 62) C dX11_find_61 3 rfl rfl rfl ?_
    rcases opt_em (fX11_headOf r_6.2 x1) with hq_8 | ⟨r_8, hq_8⟩
    · exact absurd hf (by rw [fX11_find, ob_s hq_1, ob_s hq_2, ob_s hq_6, if_pos qc_7, ob_n hq_8]; exact nofun)
    refine x_ret (rest := []) (st2 := [_]) (pc2 := 65) (cu2 := 0) (su2 := 0) (x_cV C (by assumption) (Nat.le_of_ble_eq_true rfl) kmX11_headOf rfl kk_11_220 (tX11_headOf hok (by assumption)  hq_8) rfl rfl (Nat.le_of_ble_eq_true rfl) ⟨Nat.le_of_ble_eq_true rfl, Nat.le_of_ble_eq_true rfl⟩ ⟨Nat.le_of_ble_eq_true rfl, Nat.le_of_ble_eq_true rfl⟩ dX11_find_62) rfl rfl rfl rfl ?_
    refine x_istore (pc2 := 67) (lv2 := [(5, _), (4, _), (3, _), (0, _), (1, _), (2, _)]) C dX11_find_65 (by decide) rfl rfl ?_
    rcases opt_em (fX11_find_l67 r_6.2 (((1 : Int32) <<< ((x2 - x2 / (8 : Int32) * (8 : Int32)) &&& 31)) ||| ((256 : Int32) <<< (((((5 : Int32) * x2) + (3 : Int32)) - (((5 : Int32) * x2) + (3 : Int32)) / (8 : Int32) * (8 : Int32)) &&& 31))) x1 x2 25 r_8 (0 : Int32)) with hq_9 | ⟨q_9, hq_9⟩
    · exact absurd hf (by rw [fX11_find, ob_s hq_1, ob_s hq_2, ob_s hq_6, if_pos qc_7, ob_s hq_8, ob_n hq_9]; exact nofun)
    refine x_sub (lv2 := [(5, _), (4, _), (3, _), (0, _), (1, _), (2, _)]) C [0, 1, 2, 3, 4, 5] rfl (lX11_find_l67 hok (by assumption) C 25 r_8 (0 : Int32) hq_9 (fun q9 h9 => ?_))
    cases h9
    refine x_iload (pc2 := 175) C dX11_find_173 0 rfl rfl ?_
    rw [fX11_find, ob_s hq_1, ob_s hq_2, ob_s hq_6, if_pos qc_7, ob_s hq_8, ob_s hq_9] at hf
    obtain rfl := (Option.some.inj hf).symm
    exact x_ireturn C dX11_find_175 rfl (Nat.le_of_ble_eq_true rfl) (Nat.le_of_ble_eq_true rfl) rfl rfl
  · refine x_iconst (pc2 := 36) (v := (-1)) C dX11_find_35 rfl rfl ?_
    rw [fX11_find, ob_s hq_1, ob_s hq_2, ob_s hq_6, if_neg qc_7] at hf
    obtain rfl := (Option.some.inj hf).symm
    exact x_ireturn C dX11_find_36 rfl (Nat.le_of_ble_eq_true rfl) (Nat.le_of_ble_eq_true rfl) rfl rfl
def fX11_missing (Ω : XO) (x1 : Int32) (x2 : Int32) (x3 : Int32) : Option (Int32) := (fX11_isBlock Ω x1 x2).bind (fun r_1 => (((if r_1 = 0 then (some (1 : Int32)) else (if x3 = 0 then (some (1 : Int32)) else (if inB (((24 : Int32) * x1) + x2) 48 then (if (xI Ω 2126 0 (((24 : Int32) * x1) + x2).toNatClampNeg) = (1 : Int32) then (some (2 : Int32)) else (some (0 : Int32))) else none))) : Option (Int32))).bind (fun j_2 => (some j_2)))
set_option maxRecDepth 20000 in
theorem tX11_missing {G : XG} (hok : XK G) {x1 : Int32} {x2 : Int32} {x3 : Int32} {Ω : XO} (hd0 : dm G 11 0)   {r : Int32} (hf : fX11_missing Ω x1 x2 x3 = some r) : XM G yX11_missing cX11_missing 4 ((some FieldType.int)) (RM 3 0) [.ref (ad G 11 0), .int x1, .int x2, .int x3] Ω (.inl (some (.int (r)))) Ω := by
  refine x_start (lv := [(0, .ref (ad G 11 0)), (1, .int x1), (2, .int x2), (3, .int x3)]) (own := RX11) hok (by decide +kernel) rfl (Nat.le_of_ble_eq_true rfl) rfl (fun B C => ?_)
  refine x_aload_n (pc2 := 1) C dX11_missing_0 0 rfl rfl rfl ?_
  refine x_iload_n (pc2 := 2) C dX11_missing_1 1 rfl rfl rfl ?_
  refine x_iload_n (pc2 := 3) C dX11_missing_2 2 rfl rfl rfl ?_
  rcases opt_em (fX11_isBlock Ω x1 x2) with hq_1 | ⟨r_1, hq_1⟩
  · exact absurd hf (by rw [fX11_missing, ob_n hq_1]; exact nofun)
  refine x_ret (rest := []) (st2 := [_]) (pc2 := 6) (cu2 := 0) (su2 := 0) (x_cV C (by assumption) (Nat.le_of_ble_eq_true rfl) kmX11_isBlock rfl kk_11_349 (tX11_isBlock hok (by assumption)  hq_1) rfl rfl (Nat.le_of_ble_eq_true rfl) ⟨Nat.le_of_ble_eq_true rfl, Nat.le_of_ble_eq_true rfl⟩ ⟨Nat.le_of_ble_eq_true rfl, Nat.le_of_ble_eq_true rfl⟩ dX11_missing_3) rfl rfl rfl rfl ?_
  rcases opt_em ((if r_1 = 0 then (some (1 : Int32)) else (if x3 = 0 then (some (1 : Int32)) else (if inB (((24 : Int32) * x1) + x2) 48 then (if (xI Ω 2126 0 (((24 : Int32) * x1) + x2).toNatClampNeg) = (1 : Int32) then (some (2 : Int32)) else (some (0 : Int32))) else none))) : Option (Int32)) with hq_2 | ⟨j_2, hq_2⟩
  · exact absurd hf (by rw [fX11_missing, ob_s hq_1, ob_n hq_2]; exact nofun)
  suffices hj_2 : XW G B 4 37 [] [.int (j_2)] Ω 0 0 by
    refine x_if_eq (tgt := 13) (pc2 := 9) C dX11_missing_6 (by decide) rfl (fun qc_3 => ?_) (fun qc_3 => ?_)
    · refine x_iconst (pc2 := 14) (v := 1) C dX11_missing_13 rfl rfl ?_
      refine x_goto (tgt := 37) C dX11_missing_14 (by decide) ?_
      rw [if_pos qc_3] at hq_2
      obtain rfl := (Option.some.inj hq_2).symm
      exact x_sub (lv2 := []) C [] rfl hj_2
    · refine x_iload_n (pc2 := 10) C dX11_missing_9 3 rfl rfl rfl ?_
      refine x_if_ne (tgt := 17) (pc2 := 13) C dX11_missing_10 (by decide) rfl (fun qc_4 => ?_) (fun qc_4 => ?_)
      · refine x_aload_n (pc2 := 18) C dX11_missing_17 0 rfl rfl rfl ?_
        refine x_getR (f := 1126) (k2 := 2126) (pc2 := 21) C (by assumption) kf_11_86 dX11_missing_18 rfl rfl rfl (rti_i rfl) rfl (fun qd_5 => ?_)
        refine x_bipush (pc2 := 23) (v := 24) C dX11_missing_21 rfl rfl ?_
        refine x_iload_n (pc2 := 24) C dX11_missing_23 1 rfl rfl rfl ?_
        refine x_imul (pc2 := 25) C dX11_missing_24 rfl ?_
        refine x_iload_n (pc2 := 26) C dX11_missing_25 2 rfl rfl rfl ?_
        refine x_iadd (pc2 := 27) C dX11_missing_26 rfl ?_
        rcases (Decidable.em (inB (((24 : Int32) * x1) + x2) 48)).symm with qg_6 | qg_6
        · exact absurd hq_2 (by rw [if_neg qc_3, if_neg qc_4, if_neg qg_6]; exact nofun)
        refine x_iald (pc2 := 28) C (by assumption) dX11_missing_27 rfl (inB_in qg_6) rfl ?_
        refine x_iconst (pc2 := 29) (v := 1) C dX11_missing_28 rfl rfl ?_
        refine x_icmp_ne (tgt := 36) (pc2 := 32) C dX11_missing_29 (by decide) rfl (fun qc_7 => ?_) (fun qc_7 => ?_)
        · refine x_iconst (pc2 := 37) (v := 0) C dX11_missing_36 rfl rfl ?_
          rw [if_neg qc_3, if_neg qc_4, if_pos qg_6, if_neg qc_7] at hq_2
          obtain rfl := (Option.some.inj hq_2).symm
          exact x_sub (lv2 := []) C [] rfl hj_2
        · refine x_iconst (pc2 := 33) (v := 2) C dX11_missing_32 rfl rfl ?_
          refine x_goto (tgt := 37) C dX11_missing_33 (by decide) ?_
          rw [if_neg qc_3, if_neg qc_4, if_pos qg_6, if_pos qc_7] at hq_2
          obtain rfl := (Option.some.inj hq_2).symm
          exact x_sub (lv2 := []) C [] rfl hj_2
      · refine x_iconst (pc2 := 14) (v := 1) C dX11_missing_13 rfl rfl ?_
        refine x_goto (tgt := 37) C dX11_missing_14 (by decide) ?_
        rw [if_neg qc_3, if_pos qc_4] at hq_2
        obtain rfl := (Option.some.inj hq_2).symm
        exact x_sub (lv2 := []) C [] rfl hj_2
  rw [fX11_missing, ob_s hq_1, ob_s hq_2] at hf
  obtain rfl := (Option.some.inj hf).symm
  exact x_ireturn C dX11_missing_37 rfl (Nat.le_of_ble_eq_true rfl) (Nat.le_of_ble_eq_true rfl) rfl rfl
def fX11_at (Ω : XO) (x1 : Int32) (x2 : Int32) : Option (Int32) := (some ((120 : Int32) * (((24 : Int32) * x1) + x2)))
set_option maxRecDepth 20000 in
theorem tX11_at {G : XG} (hok : XK G) {x1 : Int32} {x2 : Int32} {Ω : XO} (hd0 : dm G 11 0)   {r : Int32} (hf : fX11_at Ω x1 x2 = some r) : XM G yX11_at cX11_at 3 ((some FieldType.int)) (RM 0 0) [.ref (ad G 11 0), .int x1, .int x2] Ω (.inl (some (.int (r)))) Ω := by
  refine x_start (lv := [(0, .ref (ad G 11 0)), (1, .int x1), (2, .int x2)]) (own := RX11) hok (by decide +kernel) rfl (Nat.le_of_ble_eq_true rfl) rfl (fun B C => ?_)
  refine x_bipush (pc2 := 2) (v := 120) C dX11_at_0 rfl rfl ?_
  refine x_bipush (pc2 := 4) (v := 24) C dX11_at_2 rfl rfl ?_
  refine x_iload_n (pc2 := 5) C dX11_at_4 1 rfl rfl rfl ?_
  refine x_imul (pc2 := 6) C dX11_at_5 rfl ?_
  refine x_iload_n (pc2 := 7) C dX11_at_6 2 rfl rfl rfl ?_
  refine x_iadd (pc2 := 8) C dX11_at_7 rfl ?_
  refine x_imul (pc2 := 9) C dX11_at_8 rfl ?_
  rw [fX11_at] at hf
  obtain rfl := (Option.some.inj hf).symm
  exact x_ireturn C dX11_at_9 rfl (Nat.le_of_ble_eq_true rfl) (Nat.le_of_ble_eq_true rfl) rfl rfl
def fX11_coins (Ω : XO) (x1 : Int32) (x2 : Int32) (x3 : Int32) : Option (Int32 × XO) := (fX11_in Ω x3 (0 : Int32) (15 : Int32)).bind (fun r_1 => (fX11_missing Ω x1 x2 r_1).bind (fun r_2 => (fX11_holds Ω r_2).bind (fun r_3 => (((if r_3.1 = 0 then (fX11_at r_3.2 x1 x2).bind (fun r_7 => (if inB (r_7 + x3) 5760 then (some (xI r_3.2 2100 0 (r_7 + x3).toNatClampNeg)) else none)) else (some (-1 : Int32))) : Option (Int32))).bind (fun j_4 => (some (j_4, r_3.2))))))
set_option maxRecDepth 20000 in
theorem tX11_coins {G : XG} (hok : XK G) {x1 : Int32} {x2 : Int32} {x3 : Int32} {Ω : XO} (hd0 : dm G 11 0)   {r : Int32 × XO} (hf : fX11_coins Ω x1 x2 x3 = some r) : XM G yX11_coins cX11_coins 4 ((some FieldType.int)) (RM 4 0) [.ref (ad G 11 0), .int x1, .int x2, .int x3] Ω (.inl (some (.int (r.1)))) r.2 := by
  refine x_start (lv := [(0, .ref (ad G 11 0)), (1, .int x1), (2, .int x2), (3, .int x3)]) (own := RX11) hok (by decide +kernel) rfl (Nat.le_of_ble_eq_true rfl) rfl (fun B C => ?_)
  refine x_aload_n (pc2 := 1) C dX11_coins_0 0 rfl rfl rfl ?_
  refine x_aload_n (pc2 := 2) C dX11_coins_1 0 rfl rfl rfl ?_
  refine x_iload_n (pc2 := 3) C dX11_coins_2 1 rfl rfl rfl ?_
  refine x_iload_n (pc2 := 4) C dX11_coins_3 2 rfl rfl rfl ?_
  refine x_aload_n (pc2 := 5) C dX11_coins_4 0 rfl rfl rfl ?_
  refine x_iload_n (pc2 := 6) C dX11_coins_5 3 rfl rfl rfl ?_
  refine x_iconst (pc2 := 7) (v := 0) C dX11_coins_6 rfl rfl ?_
  refine x_bipush (pc2 := 9) (v := 15) C dX11_coins_7 rfl rfl ?_
  rcases opt_em (fX11_in Ω x3 (0 : Int32) (15 : Int32)) with hq_1 | ⟨r_1, hq_1⟩
  · exact absurd hf (by rw [fX11_coins, ob_n hq_1]; exact nofun)
  refine x_ret (rest := [_, _, _, _]) (st2 := [_, _, _, _, _]) (pc2 := 12) (cu2 := 0) (su2 := 0) (x_cV C (by assumption) (Nat.le_of_ble_eq_true rfl) kmX11_in rfl kk_11_178 (tX11_in hok (by assumption)  hq_1) rfl rfl (Nat.le_of_ble_eq_true rfl) ⟨Nat.le_of_ble_eq_true rfl, Nat.le_of_ble_eq_true rfl⟩ ⟨Nat.le_of_ble_eq_true rfl, Nat.le_of_ble_eq_true rfl⟩ dX11_coins_9) rfl rfl rfl rfl ?_
  rcases opt_em (fX11_missing Ω x1 x2 r_1) with hq_2 | ⟨r_2, hq_2⟩
  · exact absurd hf (by rw [fX11_coins, ob_s hq_1, ob_n hq_2]; exact nofun)
  refine x_ret (rest := [_]) (st2 := [_, _]) (pc2 := 15) (cu2 := 0) (su2 := 0) (x_cV C (by assumption) (Nat.le_of_ble_eq_true rfl) kmX11_missing rfl kk_11_364 (tX11_missing hok (by assumption)  hq_2) rfl rfl (Nat.le_of_ble_eq_true rfl) ⟨Nat.le_of_ble_eq_true rfl, Nat.le_of_ble_eq_true rfl⟩ ⟨Nat.le_of_ble_eq_true rfl, Nat.le_of_ble_eq_true rfl⟩ dX11_coins_12) rfl rfl rfl rfl ?_
  rcases opt_em (fX11_holds Ω r_2) with hq_3 | ⟨r_3, hq_3⟩
  · exact absurd hf (by rw [fX11_coins, ob_s hq_1, ob_s hq_2, ob_n hq_3]; exact nofun)
  refine x_ret (rest := []) (st2 := [_]) (pc2 := 18) (cu2 := 0) (su2 := 0) (x_cV C (by assumption) (Nat.le_of_ble_eq_true rfl) kmX11_holds rfl kk_11_214 (tX11_holds hok (by assumption)  hq_3) rfl rfl (Nat.le_of_ble_eq_true rfl) ⟨Nat.le_of_ble_eq_true rfl, Nat.le_of_ble_eq_true rfl⟩ ⟨Nat.le_of_ble_eq_true rfl, Nat.le_of_ble_eq_true rfl⟩ dX11_coins_15) rfl rfl rfl rfl ?_
  rcases opt_em ((if r_3.1 = 0 then (fX11_at r_3.2 x1 x2).bind (fun r_7 => (if inB (r_7 + x3) 5760 then (some (xI r_3.2 2100 0 (r_7 + x3).toNatClampNeg)) else none)) else (some (-1 : Int32))) : Option (Int32)) with hq_4 | ⟨j_4, hq_4⟩
  · exact absurd hf (by rw [fX11_coins, ob_s hq_1, ob_s hq_2, ob_s hq_3, ob_n hq_4]; exact nofun)
  suffices hj_4 : XW G B 4 38 [] [.int (j_4)] r_3.2 0 0 by
    refine x_if_eq (tgt := 25) (pc2 := 21) C dX11_coins_18 (by decide) rfl (fun qc_5 => ?_) (fun qc_5 => ?_)
    · refine x_aload_n (pc2 := 26) C dX11_coins_25 0 rfl rfl rfl ?_
      refine x_getR (f := 1100) (k2 := 2100) (pc2 := 29) C (by assumption) kf_11_7 dX11_coins_26 rfl rfl rfl (rti_i rfl) rfl (fun qd_6 => ?_)
      refine x_aload_n (pc2 := 30) C dX11_coins_29 0 rfl rfl rfl ?_
      refine x_iload_n (pc2 := 31) C dX11_coins_30 1 rfl rfl rfl ?_
      refine x_iload_n (pc2 := 32) C dX11_coins_31 2 rfl rfl rfl ?_
      rcases opt_em (fX11_at r_3.2 x1 x2) with hq_7 | ⟨r_7, hq_7⟩
      · exact absurd hq_4 (by rw [if_pos qc_5, ob_n hq_7]; exact nofun)
      refine x_ret (rest := [_]) (st2 := [_, _]) (pc2 := 35) (cu2 := 0) (su2 := 0) (x_cV C (by assumption) (Nat.le_of_ble_eq_true rfl) kmX11_at rfl kk_11_368 (tX11_at hok (by assumption)  hq_7) rfl rfl (Nat.le_of_ble_eq_true rfl) ⟨Nat.le_of_ble_eq_true rfl, Nat.le_of_ble_eq_true rfl⟩ ⟨Nat.le_of_ble_eq_true rfl, Nat.le_of_ble_eq_true rfl⟩ dX11_coins_32) rfl rfl rfl rfl ?_
      refine x_iload_n (pc2 := 36) C dX11_coins_35 3 rfl rfl rfl ?_
      refine x_iadd (pc2 := 37) C dX11_coins_36 rfl ?_
      rcases (Decidable.em (inB (r_7 + x3) 5760)).symm with qg_8 | qg_8
      · exact absurd hq_4 (by rw [if_pos qc_5, ob_s hq_7, if_neg qg_8]; exact nofun)
      refine x_iald (pc2 := 38) C (by assumption) dX11_coins_37 rfl (inB_in qg_8) rfl ?_
      rw [if_pos qc_5, ob_s hq_7, if_pos qg_8] at hq_4
      obtain rfl := (Option.some.inj hq_4).symm
      exact x_sub (lv2 := []) C [] rfl hj_4
    · refine x_iconst (pc2 := 22) (v := (-1)) C dX11_coins_21 rfl rfl ?_
      refine x_goto (tgt := 38) C dX11_coins_22 (by decide) ?_
      rw [if_neg qc_5] at hq_4
      obtain rfl := (Option.some.inj hq_4).symm
      exact x_sub (lv2 := []) C [] rfl hj_4
  rw [fX11_coins, ob_s hq_1, ob_s hq_2, ob_s hq_3, ob_s hq_4] at hf
  obtain rfl := (Option.some.inj hf).symm
  exact x_ireturn C dX11_coins_38 rfl (Nat.le_of_ble_eq_true rfl) (Nat.le_of_ble_eq_true rfl) rfl rfl
def fX11_codeOf (Ω : XO) (x1 : Int32) (x2 : Int32) (x3 : Int32) : Option (Int32 × XO) := (fX11_in Ω x3 (0 : Int32) (15 : Int32)).bind (fun r_1 => (fX11_missing Ω x1 x2 r_1).bind (fun r_2 => (fX11_holds Ω r_2).bind (fun r_3 => (((if r_3.1 = 0 then (fX11_at r_3.2 x1 x2).bind (fun r_7 => (if inB ((r_7 + (16 : Int32)) + x3) 5760 then (fX11_at r_3.2 x1 x2).bind (fun r_10 => (if inB ((r_10 + (32 : Int32)) + x3) 5760 then (some (((10 : Int32) * (xI r_3.2 2100 0 ((r_7 + (16 : Int32)) + x3).toNatClampNeg)) + (xI r_3.2 2100 0 ((r_10 + (32 : Int32)) + x3).toNatClampNeg))) else none)) else none)) else (some (-1 : Int32))) : Option (Int32))).bind (fun j_4 => (some (j_4, r_3.2))))))
set_option maxRecDepth 20000 in
theorem tX11_codeOf {G : XG} (hok : XK G) {x1 : Int32} {x2 : Int32} {x3 : Int32} {Ω : XO} (hd0 : dm G 11 0)   {r : Int32 × XO} (hf : fX11_codeOf Ω x1 x2 x3 = some r) : XM G yX11_codeOf cX11_codeOf 4 ((some FieldType.int)) (RM 4 0) [.ref (ad G 11 0), .int x1, .int x2, .int x3] Ω (.inl (some (.int (r.1)))) r.2 := by
  refine x_start (lv := [(0, .ref (ad G 11 0)), (1, .int x1), (2, .int x2), (3, .int x3)]) (own := RX11) hok (by decide +kernel) rfl (Nat.le_of_ble_eq_true rfl) rfl (fun B C => ?_)
  refine x_aload_n (pc2 := 1) C dX11_codeOf_0 0 rfl rfl rfl ?_
  refine x_aload_n (pc2 := 2) C dX11_codeOf_1 0 rfl rfl rfl ?_
  refine x_iload_n (pc2 := 3) C dX11_codeOf_2 1 rfl rfl rfl ?_
  refine x_iload_n (pc2 := 4) C dX11_codeOf_3 2 rfl rfl rfl ?_
  refine x_aload_n (pc2 := 5) C dX11_codeOf_4 0 rfl rfl rfl ?_
  refine x_iload_n (pc2 := 6) C dX11_codeOf_5 3 rfl rfl rfl ?_
  refine x_iconst (pc2 := 7) (v := 0) C dX11_codeOf_6 rfl rfl ?_
  refine x_bipush (pc2 := 9) (v := 15) C dX11_codeOf_7 rfl rfl ?_
  rcases opt_em (fX11_in Ω x3 (0 : Int32) (15 : Int32)) with hq_1 | ⟨r_1, hq_1⟩
  · exact absurd hf (by rw [fX11_codeOf, ob_n hq_1]; exact nofun)
  refine x_ret (rest := [_, _, _, _]) (st2 := [_, _, _, _, _]) (pc2 := 12) (cu2 := 0) (su2 := 0) (x_cV C (by assumption) (Nat.le_of_ble_eq_true rfl) kmX11_in rfl kk_11_178 (tX11_in hok (by assumption)  hq_1) rfl rfl (Nat.le_of_ble_eq_true rfl) ⟨Nat.le_of_ble_eq_true rfl, Nat.le_of_ble_eq_true rfl⟩ ⟨Nat.le_of_ble_eq_true rfl, Nat.le_of_ble_eq_true rfl⟩ dX11_codeOf_9) rfl rfl rfl rfl ?_
  rcases opt_em (fX11_missing Ω x1 x2 r_1) with hq_2 | ⟨r_2, hq_2⟩
  · exact absurd hf (by rw [fX11_codeOf, ob_s hq_1, ob_n hq_2]; exact nofun)
  refine x_ret (rest := [_]) (st2 := [_, _]) (pc2 := 15) (cu2 := 0) (su2 := 0) (x_cV C (by assumption) (Nat.le_of_ble_eq_true rfl) kmX11_missing rfl kk_11_364 (tX11_missing hok (by assumption)  hq_2) rfl rfl (Nat.le_of_ble_eq_true rfl) ⟨Nat.le_of_ble_eq_true rfl, Nat.le_of_ble_eq_true rfl⟩ ⟨Nat.le_of_ble_eq_true rfl, Nat.le_of_ble_eq_true rfl⟩ dX11_codeOf_12) rfl rfl rfl rfl ?_
  rcases opt_em (fX11_holds Ω r_2) with hq_3 | ⟨r_3, hq_3⟩
  · exact absurd hf (by rw [fX11_codeOf, ob_s hq_1, ob_s hq_2, ob_n hq_3]; exact nofun)
  refine x_ret (rest := []) (st2 := [_]) (pc2 := 18) (cu2 := 0) (su2 := 0) (x_cV C (by assumption) (Nat.le_of_ble_eq_true rfl) kmX11_holds rfl kk_11_214 (tX11_holds hok (by assumption)  hq_3) rfl rfl (Nat.le_of_ble_eq_true rfl) ⟨Nat.le_of_ble_eq_true rfl, Nat.le_of_ble_eq_true rfl⟩ ⟨Nat.le_of_ble_eq_true rfl, Nat.le_of_ble_eq_true rfl⟩ dX11_codeOf_15) rfl rfl rfl rfl ?_
  rcases opt_em ((if r_3.1 = 0 then (fX11_at r_3.2 x1 x2).bind (fun r_7 => (if inB ((r_7 + (16 : Int32)) + x3) 5760 then (fX11_at r_3.2 x1 x2).bind (fun r_10 => (if inB ((r_10 + (32 : Int32)) + x3) 5760 then (some (((10 : Int32) * (xI r_3.2 2100 0 ((r_7 + (16 : Int32)) + x3).toNatClampNeg)) + (xI r_3.2 2100 0 ((r_10 + (32 : Int32)) + x3).toNatClampNeg))) else none)) else none)) else (some (-1 : Int32))) : Option (Int32)) with hq_4 | ⟨j_4, hq_4⟩
  · exact absurd hf (by rw [fX11_codeOf, ob_s hq_1, ob_s hq_2, ob_s hq_3, ob_n hq_4]; exact nofun)
  suffices hj_4 : XW G B 4 61 [] [.int (j_4)] r_3.2 0 0 by
    refine x_if_eq (tgt := 25) (pc2 := 21) C dX11_codeOf_18 (by decide) rfl (fun qc_5 => ?_) (fun qc_5 => ?_)
    · refine x_bipush (pc2 := 27) (v := 10) C dX11_codeOf_25 rfl rfl ?_
      refine x_aload_n (pc2 := 28) C dX11_codeOf_27 0 rfl rfl rfl ?_
      refine x_getR (f := 1100) (k2 := 2100) (pc2 := 31) C (by assumption) kf_11_7 dX11_codeOf_28 rfl rfl rfl (rti_i rfl) rfl (fun qd_6 => ?_)
      refine x_aload_n (pc2 := 32) C dX11_codeOf_31 0 rfl rfl rfl ?_
      refine x_iload_n (pc2 := 33) C dX11_codeOf_32 1 rfl rfl rfl ?_
      refine x_iload_n (pc2 := 34) C dX11_codeOf_33 2 rfl rfl rfl ?_
      rcases opt_em (fX11_at r_3.2 x1 x2) with hq_7 | ⟨r_7, hq_7⟩
      · exact absurd hq_4 (by rw [if_pos qc_5, ob_n hq_7]; exact nofun)
      refine x_ret (rest := [_, _]) (st2 := [_, _, _]) (pc2 := 37) (cu2 := 0) (su2 := 0) (x_cV C (by assumption) (Nat.le_of_ble_eq_true rfl) kmX11_at rfl kk_11_368 (tX11_at hok (by assumption)  hq_7) rfl rfl (Nat.le_of_ble_eq_true rfl) ⟨Nat.le_of_ble_eq_true rfl, Nat.le_of_ble_eq_true rfl⟩ ⟨Nat.le_of_ble_eq_true rfl, Nat.le_of_ble_eq_true rfl⟩ dX11_codeOf_34) rfl rfl rfl rfl ?_
      refine x_bipush (pc2 := 39) (v := 16) C dX11_codeOf_37 rfl rfl ?_
      refine x_iadd (pc2 := 40) C dX11_codeOf_39 rfl ?_
      refine x_iload_n (pc2 := 41) C dX11_codeOf_40 3 rfl rfl rfl ?_
      refine x_iadd (pc2 := 42) C dX11_codeOf_41 rfl ?_
      rcases (Decidable.em (inB ((r_7 + (16 : Int32)) + x3) 5760)).symm with qg_8 | qg_8
      · exact absurd hq_4 (by rw [if_pos qc_5, ob_s hq_7, if_neg qg_8]; exact nofun)
      refine x_iald (pc2 := 43) C (by assumption) dX11_codeOf_42 rfl (inB_in qg_8) rfl ?_
      refine x_imul (pc2 := 44) C dX11_codeOf_43 rfl ?_
      refine x_aload_n (pc2 := 45) C dX11_codeOf_44 0 rfl rfl rfl ?_
      refine x_getR (f := 1100) (k2 := 2100) (pc2 := 48) C (by assumption) kf_11_7 dX11_codeOf_45 rfl rfl rfl (rti_i rfl) rfl (fun qd_9 => ?_)
      refine x_aload_n (pc2 := 49) C dX11_codeOf_48 0 rfl rfl rfl ?_
      refine x_iload_n (pc2 := 50) C dX11_codeOf_49 1 rfl rfl rfl ?_
      refine x_iload_n (pc2 := 51) C dX11_codeOf_50 2 rfl rfl rfl ?_
      rcases opt_em (fX11_at r_3.2 x1 x2) with hq_10 | ⟨r_10, hq_10⟩
      · exact absurd hq_4 (by rw [if_pos qc_5, ob_s hq_7, if_pos qg_8, ob_n hq_10]; exact nofun)
      refine x_ret (rest := [_, _]) (st2 := [_, _, _]) (pc2 := 54) (cu2 := 0) (su2 := 0) (x_cV C (by assumption) (Nat.le_of_ble_eq_true rfl) kmX11_at rfl kk_11_368 (tX11_at hok (by assumption)  hq_10) rfl rfl (Nat.le_of_ble_eq_true rfl) ⟨Nat.le_of_ble_eq_true rfl, Nat.le_of_ble_eq_true rfl⟩ ⟨Nat.le_of_ble_eq_true rfl, Nat.le_of_ble_eq_true rfl⟩ dX11_codeOf_51) rfl rfl rfl rfl ?_
      refine x_bipush (pc2 := 56) (v := 32) C dX11_codeOf_54 rfl rfl ?_
      refine x_iadd (pc2 := 57) C dX11_codeOf_56 rfl ?_
      refine x_iload_n (pc2 := 58) C dX11_codeOf_57 3 rfl rfl rfl ?_
      refine x_iadd (pc2 := 59) C dX11_codeOf_58 rfl ?_
      rcases (Decidable.em (inB ((r_10 + (32 : Int32)) + x3) 5760)).symm with qg_11 | qg_11
      · exact absurd hq_4 (by rw [if_pos qc_5, ob_s hq_7, if_pos qg_8, ob_s hq_10, if_neg qg_11]; exact nofun)
      refine x_iald (pc2 := 60) C (by assumption) dX11_codeOf_59 rfl (inB_in qg_11) rfl ?_
      refine x_iadd (pc2 := 61) C dX11_codeOf_60 rfl ?_
      rw [if_pos qc_5, ob_s hq_7, if_pos qg_8, ob_s hq_10, if_pos qg_11] at hq_4
      obtain rfl := (Option.some.inj hq_4).symm
      exact x_sub (lv2 := []) C [] rfl hj_4
    · refine x_iconst (pc2 := 22) (v := (-1)) C dX11_codeOf_21 rfl rfl ?_
      refine x_goto (tgt := 61) C dX11_codeOf_22 (by decide) ?_
      rw [if_neg qc_5] at hq_4
      obtain rfl := (Option.some.inj hq_4).symm
      exact x_sub (lv2 := []) C [] rfl hj_4
  rw [fX11_codeOf, ob_s hq_1, ob_s hq_2, ob_s hq_3, ob_s hq_4] at hf
  obtain rfl := (Option.some.inj hf).symm
  exact x_ireturn C dX11_codeOf_61 rfl (Nat.le_of_ble_eq_true rfl) (Nat.le_of_ble_eq_true rfl) rfl rfl
def fX11_slot (Ω : XO) (x1 : Int32) (x2 : Int32) (x3 : Int32) (x4 : Int32) : Option (Int32 × XO) := (fX11_in Ω x3 (0 : Int32) (15 : Int32)).bind (fun r_1 => (((if r_1 = 0 then (some (0 : Int32)) else (fX11_in Ω x4 (0 : Int32) (3 : Int32)).bind (fun r_4 => (if r_4 = 0 then (some (0 : Int32)) else (some (1 : Int32))))) : Option (Int32))).bind (fun j_2 => (fX11_missing Ω x1 x2 j_2).bind (fun r_6 => (fX11_holds Ω r_6).bind (fun r_7 => (((if r_7.1 = 0 then (fX11_at r_7.2 x1 x2).bind (fun r_11 => (if inB (((r_11 + (48 : Int32)) + ((4 : Int32) * x3)) + x4) 5760 then (some (xI r_7.2 2100 0 (((r_11 + (48 : Int32)) + ((4 : Int32) * x3)) + x4).toNatClampNeg)) else none)) else (some (-1 : Int32))) : Option (Int32))).bind (fun j_8 => (some (j_8, r_7.2)))))))
set_option maxRecDepth 20000 in
theorem tX11_slot {G : XG} (hok : XK G) {x1 : Int32} {x2 : Int32} {x3 : Int32} {x4 : Int32} {Ω : XO} (hd0 : dm G 11 0)   {r : Int32 × XO} (hf : fX11_slot Ω x1 x2 x3 x4 = some r) : XM G yX11_slot cX11_slot 5 ((some FieldType.int)) (RM 4 0) [.ref (ad G 11 0), .int x1, .int x2, .int x3, .int x4] Ω (.inl (some (.int (r.1)))) r.2 := by
  refine x_start (lv := [(0, .ref (ad G 11 0)), (1, .int x1), (2, .int x2), (3, .int x3), (4, .int x4)]) (own := RX11) hok (by decide +kernel) rfl (Nat.le_of_ble_eq_true rfl) rfl (fun B C => ?_)
  refine x_aload_n (pc2 := 1) C dX11_slot_0 0 rfl rfl rfl ?_
  refine x_aload_n (pc2 := 2) C dX11_slot_1 0 rfl rfl rfl ?_
  refine x_iload_n (pc2 := 3) C dX11_slot_2 1 rfl rfl rfl ?_
  refine x_iload_n (pc2 := 4) C dX11_slot_3 2 rfl rfl rfl ?_
  refine x_aload_n (pc2 := 5) C dX11_slot_4 0 rfl rfl rfl ?_
  refine x_iload_n (pc2 := 6) C dX11_slot_5 3 rfl rfl rfl ?_
  refine x_iconst (pc2 := 7) (v := 0) C dX11_slot_6 rfl rfl ?_
  refine x_bipush (pc2 := 9) (v := 15) C dX11_slot_7 rfl rfl ?_
  rcases opt_em (fX11_in Ω x3 (0 : Int32) (15 : Int32)) with hq_1 | ⟨r_1, hq_1⟩
  · exact absurd hf (by rw [fX11_slot, ob_n hq_1]; exact nofun)
  refine x_ret (rest := [_, _, _, _]) (st2 := [_, _, _, _, _]) (pc2 := 12) (cu2 := 0) (su2 := 0) (x_cV C (by assumption) (Nat.le_of_ble_eq_true rfl) kmX11_in rfl kk_11_178 (tX11_in hok (by assumption)  hq_1) rfl rfl (Nat.le_of_ble_eq_true rfl) ⟨Nat.le_of_ble_eq_true rfl, Nat.le_of_ble_eq_true rfl⟩ ⟨Nat.le_of_ble_eq_true rfl, Nat.le_of_ble_eq_true rfl⟩ dX11_slot_9) rfl rfl rfl rfl ?_
  rcases opt_em ((if r_1 = 0 then (some (0 : Int32)) else (fX11_in Ω x4 (0 : Int32) (3 : Int32)).bind (fun r_4 => (if r_4 = 0 then (some (0 : Int32)) else (some (1 : Int32))))) : Option (Int32)) with hq_2 | ⟨j_2, hq_2⟩
  · exact absurd hf (by rw [fX11_slot, ob_s hq_1, ob_n hq_2]; exact nofun)
  suffices hj_2 : XW G B 5 31 [(0, .ref (ad G 11 (0))), (1, .int (x1)), (2, .int (x2)), (3, .int (x3)), (4, .int (x4))] [.int (j_2), .int (x2), .int (x1), .ref (ad G 11 (0)), .ref (ad G 11 (0))] Ω 0 0 by
    refine x_if_eq (tgt := 30) (pc2 := 15) C dX11_slot_12 (by decide) rfl (fun qc_3 => ?_) (fun qc_3 => ?_)
    · refine x_iconst (pc2 := 31) (v := 0) C dX11_slot_30 rfl rfl ?_
      rw [if_pos qc_3] at hq_2
      obtain rfl := (Option.some.inj hq_2).symm
      exact x_sub (lv2 := [(0, _), (1, _), (2, _), (3, _), (4, _)]) C [0, 1, 2, 3, 4] rfl hj_2
    · refine x_aload_n (pc2 := 16) C dX11_slot_15 0 rfl rfl rfl ?_
      refine x_iload (pc2 := 18) C dX11_slot_16 4 rfl rfl ?_
      refine x_iconst (pc2 := 19) (v := 0) C dX11_slot_18 rfl rfl ?_
      refine x_iconst (pc2 := 20) (v := 3) C dX11_slot_19 rfl rfl ?_
      rcases opt_em (fX11_in Ω x4 (0 : Int32) (3 : Int32)) with hq_4 | ⟨r_4, hq_4⟩
      · exact absurd hq_2 (by rw [if_neg qc_3, ob_n hq_4]; exact nofun)
      refine x_ret (rest := [_, _, _, _]) (st2 := [_, _, _, _, _]) (pc2 := 23) (cu2 := 0) (su2 := 0) (x_cV C (by assumption) (Nat.le_of_ble_eq_true rfl) kmX11_in rfl kk_11_178 (tX11_in hok (by assumption)  hq_4) rfl rfl (Nat.le_of_ble_eq_true rfl) ⟨Nat.le_of_ble_eq_true rfl, Nat.le_of_ble_eq_true rfl⟩ ⟨Nat.le_of_ble_eq_true rfl, Nat.le_of_ble_eq_true rfl⟩ dX11_slot_20) rfl rfl rfl rfl ?_
      refine x_if_eq (tgt := 30) (pc2 := 26) C dX11_slot_23 (by decide) rfl (fun qc_5 => ?_) (fun qc_5 => ?_)
      · refine x_iconst (pc2 := 31) (v := 0) C dX11_slot_30 rfl rfl ?_
        rw [if_neg qc_3, ob_s hq_4, if_pos qc_5] at hq_2
        obtain rfl := (Option.some.inj hq_2).symm
        exact x_sub (lv2 := [(0, _), (1, _), (2, _), (3, _), (4, _)]) C [0, 1, 2, 3, 4] rfl hj_2
      · refine x_iconst (pc2 := 27) (v := 1) C dX11_slot_26 rfl rfl ?_
        refine x_goto (tgt := 31) C dX11_slot_27 (by decide) ?_
        rw [if_neg qc_3, ob_s hq_4, if_neg qc_5] at hq_2
        obtain rfl := (Option.some.inj hq_2).symm
        exact x_sub (lv2 := [(0, _), (1, _), (2, _), (3, _), (4, _)]) C [0, 1, 2, 3, 4] rfl hj_2
  rcases opt_em (fX11_missing Ω x1 x2 j_2) with hq_6 | ⟨r_6, hq_6⟩
  · exact absurd hf (by rw [fX11_slot, ob_s hq_1, ob_s hq_2, ob_n hq_6]; exact nofun)
  refine x_ret (rest := [_]) (st2 := [_, _]) (pc2 := 34) (cu2 := 0) (su2 := 0) (x_cV C (by assumption) (Nat.le_of_ble_eq_true rfl) kmX11_missing rfl kk_11_364 (tX11_missing hok (by assumption)  hq_6) rfl rfl (Nat.le_of_ble_eq_true rfl) ⟨Nat.le_of_ble_eq_true rfl, Nat.le_of_ble_eq_true rfl⟩ ⟨Nat.le_of_ble_eq_true rfl, Nat.le_of_ble_eq_true rfl⟩ dX11_slot_31) rfl rfl rfl rfl ?_
  rcases opt_em (fX11_holds Ω r_6) with hq_7 | ⟨r_7, hq_7⟩
  · exact absurd hf (by rw [fX11_slot, ob_s hq_1, ob_s hq_2, ob_s hq_6, ob_n hq_7]; exact nofun)
  refine x_ret (rest := []) (st2 := [_]) (pc2 := 37) (cu2 := 0) (su2 := 0) (x_cV C (by assumption) (Nat.le_of_ble_eq_true rfl) kmX11_holds rfl kk_11_214 (tX11_holds hok (by assumption)  hq_7) rfl rfl (Nat.le_of_ble_eq_true rfl) ⟨Nat.le_of_ble_eq_true rfl, Nat.le_of_ble_eq_true rfl⟩ ⟨Nat.le_of_ble_eq_true rfl, Nat.le_of_ble_eq_true rfl⟩ dX11_slot_34) rfl rfl rfl rfl ?_
  rcases opt_em ((if r_7.1 = 0 then (fX11_at r_7.2 x1 x2).bind (fun r_11 => (if inB (((r_11 + (48 : Int32)) + ((4 : Int32) * x3)) + x4) 5760 then (some (xI r_7.2 2100 0 (((r_11 + (48 : Int32)) + ((4 : Int32) * x3)) + x4).toNatClampNeg)) else none)) else (some (-1 : Int32))) : Option (Int32)) with hq_8 | ⟨j_8, hq_8⟩
  · exact absurd hf (by rw [fX11_slot, ob_s hq_1, ob_s hq_2, ob_s hq_6, ob_s hq_7, ob_n hq_8]; exact nofun)
  suffices hj_8 : XW G B 5 65 [] [.int (j_8)] r_7.2 0 0 by
    refine x_if_eq (tgt := 44) (pc2 := 40) C dX11_slot_37 (by decide) rfl (fun qc_9 => ?_) (fun qc_9 => ?_)
    · refine x_aload_n (pc2 := 45) C dX11_slot_44 0 rfl rfl rfl ?_
      refine x_getR (f := 1100) (k2 := 2100) (pc2 := 48) C (by assumption) kf_11_7 dX11_slot_45 rfl rfl rfl (rti_i rfl) rfl (fun qd_10 => ?_)
      refine x_aload_n (pc2 := 49) C dX11_slot_48 0 rfl rfl rfl ?_
      refine x_iload_n (pc2 := 50) C dX11_slot_49 1 rfl rfl rfl ?_
      refine x_iload_n (pc2 := 51) C dX11_slot_50 2 rfl rfl rfl ?_
      rcases opt_em (fX11_at r_7.2 x1 x2) with hq_11 | ⟨r_11, hq_11⟩
      · exact absurd hq_8 (by rw [if_pos qc_9, ob_n hq_11]; exact nofun)
      refine x_ret (rest := [_]) (st2 := [_, _]) (pc2 := 54) (cu2 := 0) (su2 := 0) (x_cV C (by assumption) (Nat.le_of_ble_eq_true rfl) kmX11_at rfl kk_11_368 (tX11_at hok (by assumption)  hq_11) rfl rfl (Nat.le_of_ble_eq_true rfl) ⟨Nat.le_of_ble_eq_true rfl, Nat.le_of_ble_eq_true rfl⟩ ⟨Nat.le_of_ble_eq_true rfl, Nat.le_of_ble_eq_true rfl⟩ dX11_slot_51) rfl rfl rfl rfl ?_
      refine x_bipush (pc2 := 56) (v := 48) C dX11_slot_54 rfl rfl ?_
      refine x_iadd (pc2 := 57) C dX11_slot_56 rfl ?_
      refine x_iconst (pc2 := 58) (v := 4) C dX11_slot_57 rfl rfl ?_
      refine x_iload_n (pc2 := 59) C dX11_slot_58 3 rfl rfl rfl ?_
      refine x_imul (pc2 := 60) C dX11_slot_59 rfl ?_
      refine x_iadd (pc2 := 61) C dX11_slot_60 rfl ?_
      refine x_iload (pc2 := 63) C dX11_slot_61 4 rfl rfl ?_
      refine x_iadd (pc2 := 64) C dX11_slot_63 rfl ?_
      rcases (Decidable.em (inB (((r_11 + (48 : Int32)) + ((4 : Int32) * x3)) + x4) 5760)).symm with qg_12 | qg_12
      · exact absurd hq_8 (by rw [if_pos qc_9, ob_s hq_11, if_neg qg_12]; exact nofun)
      refine x_iald (pc2 := 65) C (by assumption) dX11_slot_64 rfl (inB_in qg_12) rfl ?_
      rw [if_pos qc_9, ob_s hq_11, if_pos qg_12] at hq_8
      obtain rfl := (Option.some.inj hq_8).symm
      exact x_sub (lv2 := []) C [] rfl hj_8
    · refine x_iconst (pc2 := 41) (v := (-1)) C dX11_slot_40 rfl rfl ?_
      refine x_goto (tgt := 65) C dX11_slot_41 (by decide) ?_
      rw [if_neg qc_9] at hq_8
      obtain rfl := (Option.some.inj hq_8).symm
      exact x_sub (lv2 := []) C [] rfl hj_8
  rw [fX11_slot, ob_s hq_1, ob_s hq_2, ob_s hq_6, ob_s hq_7, ob_s hq_8] at hf
  obtain rfl := (Option.some.inj hf).symm
  exact x_ireturn C dX11_slot_65 rfl (Nat.le_of_ble_eq_true rfl) (Nat.le_of_ble_eq_true rfl) rfl rfl
def fX11_burned (Ω : XO) (x1 : Int32) (x2 : Int32) : Option (Int32 × XO) := (fX11_missing Ω x1 x2 (1 : Int32)).bind (fun r_1 => (fX11_holds Ω r_1).bind (fun r_2 => (((if r_2.1 = 0 then (fX11_at r_2.2 x1 x2).bind (fun r_6 => (if inB (r_6 + (112 : Int32)) 5760 then (some (xI r_2.2 2100 0 (r_6 + (112 : Int32)).toNatClampNeg)) else none)) else (some (-1 : Int32))) : Option (Int32))).bind (fun j_3 => (some (j_3, r_2.2)))))
set_option maxRecDepth 20000 in
theorem tX11_burned {G : XG} (hok : XK G) {x1 : Int32} {x2 : Int32} {Ω : XO} (hd0 : dm G 11 0)   {r : Int32 × XO} (hf : fX11_burned Ω x1 x2 = some r) : XM G yX11_burned cX11_burned 3 ((some FieldType.int)) (RM 4 0) [.ref (ad G 11 0), .int x1, .int x2] Ω (.inl (some (.int (r.1)))) r.2 := by
  refine x_start (lv := [(0, .ref (ad G 11 0)), (1, .int x1), (2, .int x2)]) (own := RX11) hok (by decide +kernel) rfl (Nat.le_of_ble_eq_true rfl) rfl (fun B C => ?_)
  refine x_aload_n (pc2 := 1) C dX11_burned_0 0 rfl rfl rfl ?_
  refine x_aload_n (pc2 := 2) C dX11_burned_1 0 rfl rfl rfl ?_
  refine x_iload_n (pc2 := 3) C dX11_burned_2 1 rfl rfl rfl ?_
  refine x_iload_n (pc2 := 4) C dX11_burned_3 2 rfl rfl rfl ?_
  refine x_iconst (pc2 := 5) (v := 1) C dX11_burned_4 rfl rfl ?_
  rcases opt_em (fX11_missing Ω x1 x2 (1 : Int32)) with hq_1 | ⟨r_1, hq_1⟩
  · exact absurd hf (by rw [fX11_burned, ob_n hq_1]; exact nofun)
  refine x_ret (rest := [_]) (st2 := [_, _]) (pc2 := 8) (cu2 := 0) (su2 := 0) (x_cV C (by assumption) (Nat.le_of_ble_eq_true rfl) kmX11_missing rfl kk_11_364 (tX11_missing hok (by assumption)  hq_1) rfl rfl (Nat.le_of_ble_eq_true rfl) ⟨Nat.le_of_ble_eq_true rfl, Nat.le_of_ble_eq_true rfl⟩ ⟨Nat.le_of_ble_eq_true rfl, Nat.le_of_ble_eq_true rfl⟩ dX11_burned_5) rfl rfl rfl rfl ?_
  rcases opt_em (fX11_holds Ω r_1) with hq_2 | ⟨r_2, hq_2⟩
  · exact absurd hf (by rw [fX11_burned, ob_s hq_1, ob_n hq_2]; exact nofun)
  refine x_ret (rest := []) (st2 := [_]) (pc2 := 11) (cu2 := 0) (su2 := 0) (x_cV C (by assumption) (Nat.le_of_ble_eq_true rfl) kmX11_holds rfl kk_11_214 (tX11_holds hok (by assumption)  hq_2) rfl rfl (Nat.le_of_ble_eq_true rfl) ⟨Nat.le_of_ble_eq_true rfl, Nat.le_of_ble_eq_true rfl⟩ ⟨Nat.le_of_ble_eq_true rfl, Nat.le_of_ble_eq_true rfl⟩ dX11_burned_8) rfl rfl rfl rfl ?_
  rcases opt_em ((if r_2.1 = 0 then (fX11_at r_2.2 x1 x2).bind (fun r_6 => (if inB (r_6 + (112 : Int32)) 5760 then (some (xI r_2.2 2100 0 (r_6 + (112 : Int32)).toNatClampNeg)) else none)) else (some (-1 : Int32))) : Option (Int32)) with hq_3 | ⟨j_3, hq_3⟩
  · exact absurd hf (by rw [fX11_burned, ob_s hq_1, ob_s hq_2, ob_n hq_3]; exact nofun)
  suffices hj_3 : XW G B 3 32 [] [.int (j_3)] r_2.2 0 0 by
    refine x_if_eq (tgt := 18) (pc2 := 14) C dX11_burned_11 (by decide) rfl (fun qc_4 => ?_) (fun qc_4 => ?_)
    · refine x_aload_n (pc2 := 19) C dX11_burned_18 0 rfl rfl rfl ?_
      refine x_getR (f := 1100) (k2 := 2100) (pc2 := 22) C (by assumption) kf_11_7 dX11_burned_19 rfl rfl rfl (rti_i rfl) rfl (fun qd_5 => ?_)
      refine x_aload_n (pc2 := 23) C dX11_burned_22 0 rfl rfl rfl ?_
      refine x_iload_n (pc2 := 24) C dX11_burned_23 1 rfl rfl rfl ?_
      refine x_iload_n (pc2 := 25) C dX11_burned_24 2 rfl rfl rfl ?_
      rcases opt_em (fX11_at r_2.2 x1 x2) with hq_6 | ⟨r_6, hq_6⟩
      · exact absurd hq_3 (by rw [if_pos qc_4, ob_n hq_6]; exact nofun)
      refine x_ret (rest := [_]) (st2 := [_, _]) (pc2 := 28) (cu2 := 0) (su2 := 0) (x_cV C (by assumption) (Nat.le_of_ble_eq_true rfl) kmX11_at rfl kk_11_368 (tX11_at hok (by assumption)  hq_6) rfl rfl (Nat.le_of_ble_eq_true rfl) ⟨Nat.le_of_ble_eq_true rfl, Nat.le_of_ble_eq_true rfl⟩ ⟨Nat.le_of_ble_eq_true rfl, Nat.le_of_ble_eq_true rfl⟩ dX11_burned_25) rfl rfl rfl rfl ?_
      refine x_bipush (pc2 := 30) (v := 112) C dX11_burned_28 rfl rfl ?_
      refine x_iadd (pc2 := 31) C dX11_burned_30 rfl ?_
      rcases (Decidable.em (inB (r_6 + (112 : Int32)) 5760)).symm with qg_7 | qg_7
      · exact absurd hq_3 (by rw [if_pos qc_4, ob_s hq_6, if_neg qg_7]; exact nofun)
      refine x_iald (pc2 := 32) C (by assumption) dX11_burned_31 rfl (inB_in qg_7) rfl ?_
      rw [if_pos qc_4, ob_s hq_6, if_pos qg_7] at hq_3
      obtain rfl := (Option.some.inj hq_3).symm
      exact x_sub (lv2 := []) C [] rfl hj_3
    · refine x_iconst (pc2 := 15) (v := (-1)) C dX11_burned_14 rfl rfl ?_
      refine x_goto (tgt := 32) C dX11_burned_15 (by decide) ?_
      rw [if_neg qc_4] at hq_3
      obtain rfl := (Option.some.inj hq_3).symm
      exact x_sub (lv2 := []) C [] rfl hj_3
  rw [fX11_burned, ob_s hq_1, ob_s hq_2, ob_s hq_3] at hf
  obtain rfl := (Option.some.inj hf).symm
  exact x_ireturn C dX11_burned_32 rfl (Nat.le_of_ble_eq_true rfl) (Nat.le_of_ble_eq_true rfl) rfl rfl
def fX11_root (Ω : XO) (x1 : Int32) (x2 : Int32) : Option (Int32 × XO) := (fX11_isBlock Ω x1 x2).bind (fun r_1 => (wl ((if r_1 = 0 then (1 : Int32) else (0 : Int32))) (fun (j_2 : Int32) => (fX11_holds Ω j_2).bind (fun r_4 => (((if r_4.1 = 0 then (if inB (((24 : Int32) * x1) + x2) 48 then (some (xI r_4.2 2127 0 (((24 : Int32) * x1) + x2).toNatClampNeg)) else none) else (some (-1 : Int32))) : Option (Int32))).bind (fun j_5 => (some (j_5, r_4.2)))))))
set_option maxRecDepth 20000 in
theorem tX11_root {G : XG} (hok : XK G) {x1 : Int32} {x2 : Int32} {Ω : XO} (hd0 : dm G 11 0)   {r : Int32 × XO} (hf : fX11_root Ω x1 x2 = some r) : XM G yX11_root cX11_root 3 ((some FieldType.int)) (RM 3 0) [.ref (ad G 11 0), .int x1, .int x2] Ω (.inl (some (.int (r.1)))) r.2 := by
  refine x_start (lv := [(0, .ref (ad G 11 0)), (1, .int x1), (2, .int x2)]) (own := RX11) hok (by decide +kernel) rfl (Nat.le_of_ble_eq_true rfl) rfl (fun B C => ?_)
  refine x_aload_n (pc2 := 1) C dX11_root_0 0 rfl rfl rfl ?_
  refine x_aload_n (pc2 := 2) C dX11_root_1 0 rfl rfl rfl ?_
  refine x_iload_n (pc2 := 3) C dX11_root_2 1 rfl rfl rfl ?_
  refine x_iload_n (pc2 := 4) C dX11_root_3 2 rfl rfl rfl ?_
  rcases opt_em (fX11_isBlock Ω x1 x2) with hq_1 | ⟨r_1, hq_1⟩
  · exact absurd hf (by rw [fX11_root, ob_n hq_1]; exact nofun)
  refine x_ret (rest := [_]) (st2 := [_, _]) (pc2 := 7) (cu2 := 0) (su2 := 0) (x_cV C (by assumption) (Nat.le_of_ble_eq_true rfl) kmX11_isBlock rfl kk_11_349 (tX11_isBlock hok (by assumption)  hq_1) rfl rfl (Nat.le_of_ble_eq_true rfl) ⟨Nat.le_of_ble_eq_true rfl, Nat.le_of_ble_eq_true rfl⟩ ⟨Nat.le_of_ble_eq_true rfl, Nat.le_of_ble_eq_true rfl⟩ dX11_root_4) rfl rfl rfl rfl ?_
  obtain ⟨j_2, hq_2⟩ : ∃ z : Int32, z = (if r_1 = 0 then (1 : Int32) else (0 : Int32)) := ⟨_, rfl⟩
  suffices hj_2 : XW G B 3 15 [(0, .ref (ad G 11 (0))), (1, .int (x1)), (2, .int (x2))] [.int (j_2), .ref (ad G 11 (0))] Ω 0 0 by
    refine x_if_eq (tgt := 14) (pc2 := 10) C dX11_root_7 (by decide) rfl (fun qc_3 => ?_) (fun qc_3 => ?_)
    · refine x_iconst (pc2 := 15) (v := 1) C dX11_root_14 rfl rfl ?_
      rw [if_pos qc_3] at hq_2
      subst hq_2
      exact x_sub (lv2 := [(0, _), (1, _), (2, _)]) C [0, 1, 2] rfl hj_2
    · refine x_iconst (pc2 := 11) (v := 0) C dX11_root_10 rfl rfl ?_
      refine x_goto (tgt := 15) C dX11_root_11 (by decide) ?_
      rw [if_neg qc_3] at hq_2
      subst hq_2
      exact x_sub (lv2 := [(0, _), (1, _), (2, _)]) C [0, 1, 2] rfl hj_2
  rcases opt_em (fX11_holds Ω j_2) with hq_4 | ⟨r_4, hq_4⟩
  · exact absurd hf (by rw [fX11_root, ob_s hq_1, wl_eq hq_2, ob_n hq_4]; exact nofun)
  refine x_ret (rest := []) (st2 := [_]) (pc2 := 18) (cu2 := 0) (su2 := 0) (x_cV C (by assumption) (Nat.le_of_ble_eq_true rfl) kmX11_holds rfl kk_11_214 (tX11_holds hok (by assumption)  hq_4) rfl rfl (Nat.le_of_ble_eq_true rfl) ⟨Nat.le_of_ble_eq_true rfl, Nat.le_of_ble_eq_true rfl⟩ ⟨Nat.le_of_ble_eq_true rfl, Nat.le_of_ble_eq_true rfl⟩ dX11_root_15) rfl rfl rfl rfl ?_
  rcases opt_em ((if r_4.1 = 0 then (if inB (((24 : Int32) * x1) + x2) 48 then (some (xI r_4.2 2127 0 (((24 : Int32) * x1) + x2).toNatClampNeg)) else none) else (some (-1 : Int32))) : Option (Int32)) with hq_5 | ⟨j_5, hq_5⟩
  · exact absurd hf (by rw [fX11_root, ob_s hq_1, wl_eq hq_2, ob_s hq_4, ob_n hq_5]; exact nofun)
  suffices hj_5 : XW G B 3 36 [] [.int (j_5)] r_4.2 0 0 by
    refine x_if_eq (tgt := 25) (pc2 := 21) C dX11_root_18 (by decide) rfl (fun qc_6 => ?_) (fun qc_6 => ?_)
    · refine x_aload_n (pc2 := 26) C dX11_root_25 0 rfl rfl rfl ?_
      refine x_getR (f := 1127) (k2 := 2127) (pc2 := 29) C (by assumption) kf_11_89 dX11_root_26 rfl rfl rfl (rti_i rfl) rfl (fun qd_7 => ?_)
      refine x_bipush (pc2 := 31) (v := 24) C dX11_root_29 rfl rfl ?_
      refine x_iload_n (pc2 := 32) C dX11_root_31 1 rfl rfl rfl ?_
      refine x_imul (pc2 := 33) C dX11_root_32 rfl ?_
      refine x_iload_n (pc2 := 34) C dX11_root_33 2 rfl rfl rfl ?_
      refine x_iadd (pc2 := 35) C dX11_root_34 rfl ?_
      rcases (Decidable.em (inB (((24 : Int32) * x1) + x2) 48)).symm with qg_8 | qg_8
      · exact absurd hq_5 (by rw [if_pos qc_6, if_neg qg_8]; exact nofun)
      refine x_iald (pc2 := 36) C (by assumption) dX11_root_35 rfl (inB_in qg_8) rfl ?_
      rw [if_pos qc_6, if_pos qg_8] at hq_5
      obtain rfl := (Option.some.inj hq_5).symm
      exact x_sub (lv2 := []) C [] rfl hj_5
    · refine x_iconst (pc2 := 22) (v := (-1)) C dX11_root_21 rfl rfl ?_
      refine x_goto (tgt := 36) C dX11_root_22 (by decide) ?_
      rw [if_neg qc_6] at hq_5
      obtain rfl := (Option.some.inj hq_5).symm
      exact x_sub (lv2 := []) C [] rfl hj_5
  rw [fX11_root, ob_s hq_1, wl_eq hq_2, ob_s hq_4, ob_s hq_5] at hf
  obtain rfl := (Option.some.inj hf).symm
  exact x_ireturn C dX11_root_36 rfl (Nat.le_of_ble_eq_true rfl) (Nat.le_of_ble_eq_true rfl) rfl rfl
def fX11_rootAnew (Ω : XO) (x1 : Int32) (x2 : Int32) : Option (Int32 × XO) := (fX11_root Ω x1 x2).bind (fun r_1 => (some (r_1.1, r_1.2)))
set_option maxRecDepth 20000 in
theorem tX11_rootAnew {G : XG} (hok : XK G) {x1 : Int32} {x2 : Int32} {Ω : XO} (hd0 : dm G 11 0)   {r : Int32 × XO} (hf : fX11_rootAnew Ω x1 x2 = some r) : XM G yX11_rootAnew cX11_rootAnew 3 ((some FieldType.int)) (RM 4 0) [.ref (ad G 11 0), .int x1, .int x2] Ω (.inl (some (.int (r.1)))) r.2 := by
  refine x_start (lv := [(0, .ref (ad G 11 0)), (1, .int x1), (2, .int x2)]) (own := RX11) hok (by decide +kernel) rfl (Nat.le_of_ble_eq_true rfl) rfl (fun B C => ?_)
  refine x_aload_n (pc2 := 1) C dX11_rootAnew_0 0 rfl rfl rfl ?_
  refine x_iload_n (pc2 := 2) C dX11_rootAnew_1 1 rfl rfl rfl ?_
  refine x_iload_n (pc2 := 3) C dX11_rootAnew_2 2 rfl rfl rfl ?_
  rcases opt_em (fX11_root Ω x1 x2) with hq_1 | ⟨r_1, hq_1⟩
  · exact absurd hf (by rw [fX11_rootAnew, ob_n hq_1]; exact nofun)
  refine x_ret (rest := []) (st2 := [_]) (pc2 := 6) (cu2 := 0) (su2 := 0) (x_cV C (by assumption) (Nat.le_of_ble_eq_true rfl) kmX11_root rfl kk_11_371 (tX11_root hok (by assumption)  hq_1) rfl rfl (Nat.le_of_ble_eq_true rfl) ⟨Nat.le_of_ble_eq_true rfl, Nat.le_of_ble_eq_true rfl⟩ ⟨Nat.le_of_ble_eq_true rfl, Nat.le_of_ble_eq_true rfl⟩ dX11_rootAnew_3) rfl rfl rfl rfl ?_
  rw [fX11_rootAnew, ob_s hq_1] at hf
  obtain rfl := (Option.some.inj hf).symm
  exact x_ireturn C dX11_rootAnew_6 rfl (Nat.le_of_ble_eq_true rfl) (Nat.le_of_ble_eq_true rfl) rfl rfl
def fX11_leaf (Ω : XO) (x1 : Int32) (x2 : Int32) (x3 : Int32) : Option (Int32 × XO) := (fX11_in Ω x3 (0 : Int32) (15 : Int32)).bind (fun r_1 => (fX11_missing Ω x1 x2 r_1).bind (fun r_2 => (fX11_holds Ω r_2).bind (fun r_3 => (((if r_3.1 = 0 then (fX11_at r_3.2 x1 x2).bind (fun r_6 => (fX11_leafOf r_3.2 r_6 x3).bind (fun r_7 => (some r_7))) else (some (-1 : Int32))) : Option (Int32))).bind (fun j_4 => (some (j_4, r_3.2))))))
set_option maxRecDepth 20000 in
theorem tX11_leaf {G : XG} (hok : XK G) {x1 : Int32} {x2 : Int32} {x3 : Int32} {Ω : XO} (hd0 : dm G 11 0)   {r : Int32 × XO} (hf : fX11_leaf Ω x1 x2 x3 = some r) : XM G yX11_leaf cX11_leaf 4 ((some FieldType.int)) (RM 4 0) [.ref (ad G 11 0), .int x1, .int x2, .int x3] Ω (.inl (some (.int (r.1)))) r.2 := by
  refine x_start (lv := [(0, .ref (ad G 11 0)), (1, .int x1), (2, .int x2), (3, .int x3)]) (own := RX11) hok (by decide +kernel) rfl (Nat.le_of_ble_eq_true rfl) rfl (fun B C => ?_)
  refine x_aload_n (pc2 := 1) C dX11_leaf_0 0 rfl rfl rfl ?_
  refine x_aload_n (pc2 := 2) C dX11_leaf_1 0 rfl rfl rfl ?_
  refine x_iload_n (pc2 := 3) C dX11_leaf_2 1 rfl rfl rfl ?_
  refine x_iload_n (pc2 := 4) C dX11_leaf_3 2 rfl rfl rfl ?_
  refine x_aload_n (pc2 := 5) C dX11_leaf_4 0 rfl rfl rfl ?_
  refine x_iload_n (pc2 := 6) C dX11_leaf_5 3 rfl rfl rfl ?_
  refine x_iconst (pc2 := 7) (v := 0) C dX11_leaf_6 rfl rfl ?_
  refine x_bipush (pc2 := 9) (v := 15) C dX11_leaf_7 rfl rfl ?_
  rcases opt_em (fX11_in Ω x3 (0 : Int32) (15 : Int32)) with hq_1 | ⟨r_1, hq_1⟩
  · exact absurd hf (by rw [fX11_leaf, ob_n hq_1]; exact nofun)
  refine x_ret (rest := [_, _, _, _]) (st2 := [_, _, _, _, _]) (pc2 := 12) (cu2 := 0) (su2 := 0) (x_cV C (by assumption) (Nat.le_of_ble_eq_true rfl) kmX11_in rfl kk_11_178 (tX11_in hok (by assumption)  hq_1) rfl rfl (Nat.le_of_ble_eq_true rfl) ⟨Nat.le_of_ble_eq_true rfl, Nat.le_of_ble_eq_true rfl⟩ ⟨Nat.le_of_ble_eq_true rfl, Nat.le_of_ble_eq_true rfl⟩ dX11_leaf_9) rfl rfl rfl rfl ?_
  rcases opt_em (fX11_missing Ω x1 x2 r_1) with hq_2 | ⟨r_2, hq_2⟩
  · exact absurd hf (by rw [fX11_leaf, ob_s hq_1, ob_n hq_2]; exact nofun)
  refine x_ret (rest := [_]) (st2 := [_, _]) (pc2 := 15) (cu2 := 0) (su2 := 0) (x_cV C (by assumption) (Nat.le_of_ble_eq_true rfl) kmX11_missing rfl kk_11_364 (tX11_missing hok (by assumption)  hq_2) rfl rfl (Nat.le_of_ble_eq_true rfl) ⟨Nat.le_of_ble_eq_true rfl, Nat.le_of_ble_eq_true rfl⟩ ⟨Nat.le_of_ble_eq_true rfl, Nat.le_of_ble_eq_true rfl⟩ dX11_leaf_12) rfl rfl rfl rfl ?_
  rcases opt_em (fX11_holds Ω r_2) with hq_3 | ⟨r_3, hq_3⟩
  · exact absurd hf (by rw [fX11_leaf, ob_s hq_1, ob_s hq_2, ob_n hq_3]; exact nofun)
  refine x_ret (rest := []) (st2 := [_]) (pc2 := 18) (cu2 := 0) (su2 := 0) (x_cV C (by assumption) (Nat.le_of_ble_eq_true rfl) kmX11_holds rfl kk_11_214 (tX11_holds hok (by assumption)  hq_3) rfl rfl (Nat.le_of_ble_eq_true rfl) ⟨Nat.le_of_ble_eq_true rfl, Nat.le_of_ble_eq_true rfl⟩ ⟨Nat.le_of_ble_eq_true rfl, Nat.le_of_ble_eq_true rfl⟩ dX11_leaf_15) rfl rfl rfl rfl ?_
  rcases opt_em ((if r_3.1 = 0 then (fX11_at r_3.2 x1 x2).bind (fun r_6 => (fX11_leafOf r_3.2 r_6 x3).bind (fun r_7 => (some r_7))) else (some (-1 : Int32))) : Option (Int32)) with hq_4 | ⟨j_4, hq_4⟩
  · exact absurd hf (by rw [fX11_leaf, ob_s hq_1, ob_s hq_2, ob_s hq_3, ob_n hq_4]; exact nofun)
  suffices hj_4 : XW G B 4 36 [] [.int (j_4)] r_3.2 0 0 by
    refine x_if_eq (tgt := 25) (pc2 := 21) C dX11_leaf_18 (by decide) rfl (fun qc_5 => ?_) (fun qc_5 => ?_)
    · refine x_aload_n (pc2 := 26) C dX11_leaf_25 0 rfl rfl rfl ?_
      refine x_aload_n (pc2 := 27) C dX11_leaf_26 0 rfl rfl rfl ?_
      refine x_iload_n (pc2 := 28) C dX11_leaf_27 1 rfl rfl rfl ?_
      refine x_iload_n (pc2 := 29) C dX11_leaf_28 2 rfl rfl rfl ?_
      rcases opt_em (fX11_at r_3.2 x1 x2) with hq_6 | ⟨r_6, hq_6⟩
      · exact absurd hq_4 (by rw [if_pos qc_5, ob_n hq_6]; exact nofun)
      refine x_ret (rest := [_]) (st2 := [_, _]) (pc2 := 32) (cu2 := 0) (su2 := 0) (x_cV C (by assumption) (Nat.le_of_ble_eq_true rfl) kmX11_at rfl kk_11_368 (tX11_at hok (by assumption)  hq_6) rfl rfl (Nat.le_of_ble_eq_true rfl) ⟨Nat.le_of_ble_eq_true rfl, Nat.le_of_ble_eq_true rfl⟩ ⟨Nat.le_of_ble_eq_true rfl, Nat.le_of_ble_eq_true rfl⟩ dX11_leaf_29) rfl rfl rfl rfl ?_
      refine x_iload_n (pc2 := 33) C dX11_leaf_32 3 rfl rfl rfl ?_
      rcases opt_em (fX11_leafOf r_3.2 r_6 x3) with hq_7 | ⟨r_7, hq_7⟩
      · exact absurd hq_4 (by rw [if_pos qc_5, ob_s hq_6, ob_n hq_7]; exact nofun)
      refine x_ret (rest := []) (st2 := [_]) (pc2 := 36) (cu2 := 0) (su2 := 0) (x_cV C (by assumption) (Nat.le_of_ble_eq_true rfl) kmX11_leafOf rfl kk_11_199 (tX11_leafOf hok (by assumption)  hq_7) rfl rfl (Nat.le_of_ble_eq_true rfl) ⟨Nat.le_of_ble_eq_true rfl, Nat.le_of_ble_eq_true rfl⟩ ⟨Nat.le_of_ble_eq_true rfl, Nat.le_of_ble_eq_true rfl⟩ dX11_leaf_33) rfl rfl rfl rfl ?_
      rw [if_pos qc_5, ob_s hq_6, ob_s hq_7] at hq_4
      obtain rfl := (Option.some.inj hq_4).symm
      exact x_sub (lv2 := []) C [] rfl hj_4
    · refine x_iconst (pc2 := 22) (v := (-1)) C dX11_leaf_21 rfl rfl ?_
      refine x_goto (tgt := 36) C dX11_leaf_22 (by decide) ?_
      rw [if_neg qc_5] at hq_4
      obtain rfl := (Option.some.inj hq_4).symm
      exact x_sub (lv2 := []) C [] rfl hj_4
  rw [fX11_leaf, ob_s hq_1, ob_s hq_2, ob_s hq_3, ob_s hq_4] at hf
  obtain rfl := (Option.some.inj hf).symm
  exact x_ireturn C dX11_leaf_36 rfl (Nat.le_of_ble_eq_true rfl) (Nat.le_of_ble_eq_true rfl) rfl rfl
