def fX11_proof_l45 (y1 : Int32) (y2 : Int32) (y3 : Int32) (y4 : Int32) : Nat → Int32 → XO → Option (Int32 × XO)
  | 0, _, _ => none
  | n + 1, y5, Ω => (if (16 : Int32) ≤ y5 then (some (y5, Ω)) else (fX11_at Ω y1 y2).bind (fun r_3 => (fX11_leafOf Ω r_3 y5).bind (fun r_4 => (if inB y5 16 then (wl (uI Ω 2159 0 y5.toNatClampNeg r_4) (fun Ω_6 => fX11_proof_l45 y1 y2 y3 y4 n (y5 + 1) Ω_6)) else none))))
set_option maxRecDepth 20000 in
theorem lX11_proof_l45 {G : XG} (hok : XK G) {B : XB} {y1 : Int32} {y2 : Int32} {y3 : Int32} {y4 : Int32}  (hf0 : dm G 11 0)   {T : Option Value ⊕ String} {Ω9 : XO} (C : XC G B cX11_proof RX11 (RM 4 0) 6 ((some FieldType.int)) T Ω9) : ∀ (n : Nat) (y5 : Int32) (Ω : XO) {r : (Int32 × XO)}, fX11_proof_l45 y1 y2 y3 y4 n y5 Ω = some r → (∀ q, r = q → (XW G B 6 77 [(0, .ref (ad G 11 (0))), (3, .int (y3)), (4, .int (y4))] [] q.2 0 0)) → XW G B 6 45 [(5, .int (y5)), (0, .ref (ad G 11 (0))), (1, .int (y1)), (2, .int (y2)), (3, .int (y3)), (4, .int (y4))] [] Ω 0 0 := by
  intro n
  induction n with
  | zero => intro y5 Ω r hf; exact absurd hf (by rw [fX11_proof_l45]; exact nofun)
  | succ n ih =>
    intro y5 Ω r hf hk
    refine x_iload (pc2 := 47) C dX11_proof_45 0 rfl rfl ?_
    refine x_bipush (pc2 := 49) (v := 16) C dX11_proof_47 rfl rfl ?_
    refine x_icmp_ge (tgt := 77) (pc2 := 52) C dX11_proof_49 (by decide) rfl (fun qc_1 => ?_) (fun qc_1 => ?_)
    · rw [fX11_proof_l45, if_pos qc_1] at hf
      exact x_sub (lv2 := [(0, _), (3, _), (4, _)]) C [1, 4, 5] rfl (hk _ (Option.some.inj hf).symm)
    · refine x_aload_n (pc2 := 53) C dX11_proof_52 1 rfl rfl rfl ?_
      refine x_getR (f := 1159) (k2 := 2159) (pc2 := 56) C (by assumption) kf_11_167 dX11_proof_53 rfl rfl rfl (rti_i rfl) rfl (fun qd_2 => ?_)
      refine x_iload (pc2 := 58) C dX11_proof_56 0 rfl rfl ?_
      refine x_aload_n (pc2 := 59) C dX11_proof_58 1 rfl rfl rfl ?_
      refine x_aload_n (pc2 := 60) C dX11_proof_59 1 rfl rfl rfl ?_
      refine x_iload_n (pc2 := 61) C dX11_proof_60 2 rfl rfl rfl ?_
      refine x_iload_n (pc2 := 62) C dX11_proof_61 3 rfl rfl rfl ?_
      rcases opt_em (fX11_at Ω y1 y2) with hq_3 | ⟨r_3, hq_3⟩
      · exact absurd hf (by rw [fX11_proof_l45, if_neg qc_1, ob_n hq_3]; exact nofun)
      refine x_ret (rest := [_, _, _]) (st2 := [_, _, _, _]) (pc2 := 65) (cu2 := 0) (su2 := 0) (x_cV C (by assumption) (Nat.le_of_ble_eq_true rfl) kmX11_at rfl kk_11_368 (tX11_at hok (by assumption)  hq_3) rfl rfl (Nat.le_of_ble_eq_true rfl) ⟨Nat.le_of_ble_eq_true rfl, Nat.le_of_ble_eq_true rfl⟩ ⟨Nat.le_of_ble_eq_true rfl, Nat.le_of_ble_eq_true rfl⟩ dX11_proof_62) rfl rfl rfl rfl ?_
      refine x_iload (pc2 := 67) C dX11_proof_65 0 rfl rfl ?_
      rcases opt_em (fX11_leafOf Ω r_3 y5) with hq_4 | ⟨r_4, hq_4⟩
      · exact absurd hf (by rw [fX11_proof_l45, if_neg qc_1, ob_s hq_3, ob_n hq_4]; exact nofun)
      refine x_ret (rest := [_, _]) (st2 := [_, _, _]) (pc2 := 70) (cu2 := 0) (su2 := 0) (x_cV C (by assumption) (Nat.le_of_ble_eq_true rfl) kmX11_leafOf rfl kk_11_199 (tX11_leafOf hok (by assumption)  hq_4) rfl rfl (Nat.le_of_ble_eq_true rfl) ⟨Nat.le_of_ble_eq_true rfl, Nat.le_of_ble_eq_true rfl⟩ ⟨Nat.le_of_ble_eq_true rfl, Nat.le_of_ble_eq_true rfl⟩ dX11_proof_67) rfl rfl rfl rfl ?_
      rcases (Decidable.em (inB y5 16)).symm with qg_5 | qg_5
      · exact absurd hf (by rw [fX11_proof_l45, if_neg qc_1, ob_s hq_3, ob_s hq_4, if_neg qg_5]; exact nofun)
      refine x_iast (pc2 := 71) C (by assumption) dX11_proof_70 rfl (inB_in qg_5) rfl ?_
      obtain ⟨Ω_6, hw_6⟩ : ∃ z, z = uI Ω 2159 0 y5.toNatClampNeg r_4 := ⟨_, rfl⟩
      refine x_om hw_6 ?_
      refine x_iinc (pc2 := 74) (v := y5 + 1) (lv2 := [(5, _), (0, _), (1, _), (2, _), (3, _), (4, _)]) C dX11_proof_71 0 rfl rfl (by decide) rfl rfl ?_
      refine x_goto (tgt := 45) C dX11_proof_74 (by decide) ?_
      exact x_sub (lv2 := [(5, _), (0, _), (1, _), (2, _), (3, _), (4, _)]) C [0, 1, 2, 3, 4, 5] rfl (ih (y5 + 1) Ω_6 (by rw [fX11_proof_l45, if_neg qc_1, ob_s hq_3, ob_s hq_4, if_pos qg_5, wl_eq hw_6] at hf; exact hf) hk)
def fX11_proof (Ω : XO) (x1 : Int32) (x2 : Int32) (x3 : Int32) (x4 : Int32) : Option (Int32 × XO) := (fX11_in Ω x3 (0 : Int32) (15 : Int32)).bind (fun r_1 => (((if r_1 = 0 then (some (0 : Int32)) else (fX11_in Ω x4 (0 : Int32) (3 : Int32)).bind (fun r_4 => (if r_4 = 0 then (some (0 : Int32)) else (some (1 : Int32))))) : Option (Int32))).bind (fun j_2 => (fX11_missing Ω x1 x2 j_2).bind (fun r_6 => (fX11_holds Ω r_6).bind (fun r_7 => (if r_7.1 = 0 then (fX11_proof_l45 x1 x2 x3 x4 17 (0 : Int32) r_7.2).bind (fun q_9 => (fX11_fold q_9.2 x4).bind (fun r_10 => (wl ((if ((x3 >>> (x4 &&& 31)) - (x3 >>> (x4 &&& 31)) / (2 : Int32) * (2 : Int32)) = 0 then (x3 >>> (x4 &&& 31)) + (1 : Int32) else (x3 >>> (x4 &&& 31)) - (1 : Int32))) (fun (j_12 : Int32) => (if inB j_12 16 then (some (xI r_10 2159 0 j_12.toNatClampNeg, r_10)) else none))))) else (some ((-1 : Int32), r_7.2)))))))
set_option maxRecDepth 20000 in
theorem tX11_proof {G : XG} (hok : XK G) {x1 : Int32} {x2 : Int32} {x3 : Int32} {x4 : Int32} {Ω : XO} (hd0 : dm G 11 0)   {r : Int32 × XO} (hf : fX11_proof Ω x1 x2 x3 x4 = some r) : XM G yX11_proof cX11_proof 6 ((some FieldType.int)) (RM 4 0) [.ref (ad G 11 0), .int x1, .int x2, .int x3, .int x4] Ω (.inl (some (.int (r.1)))) r.2 := by
  refine x_start (lv := [(0, .ref (ad G 11 0)), (1, .int x1), (2, .int x2), (3, .int x3), (4, .int x4)]) (own := RX11) hok (by decide +kernel) rfl (Nat.le_of_ble_eq_true rfl) rfl (fun B C => ?_)
  refine x_aload_n (pc2 := 1) C dX11_proof_0 0 rfl rfl rfl ?_
  refine x_aload_n (pc2 := 2) C dX11_proof_1 0 rfl rfl rfl ?_
  refine x_iload_n (pc2 := 3) C dX11_proof_2 1 rfl rfl rfl ?_
  refine x_iload_n (pc2 := 4) C dX11_proof_3 2 rfl rfl rfl ?_
  refine x_aload_n (pc2 := 5) C dX11_proof_4 0 rfl rfl rfl ?_
  refine x_iload_n (pc2 := 6) C dX11_proof_5 3 rfl rfl rfl ?_
  refine x_iconst (pc2 := 7) (v := 0) C dX11_proof_6 rfl rfl ?_
  refine x_bipush (pc2 := 9) (v := 15) C dX11_proof_7 rfl rfl ?_
  rcases opt_em (fX11_in Ω x3 (0 : Int32) (15 : Int32)) with hq_1 | ⟨r_1, hq_1⟩
  · exact absurd hf (by rw [fX11_proof, ob_n hq_1]; exact nofun)
  refine x_ret (rest := [_, _, _, _]) (st2 := [_, _, _, _, _]) (pc2 := 12) (cu2 := 0) (su2 := 0) (x_cV C (by assumption) (Nat.le_of_ble_eq_true rfl) kmX11_in rfl kk_11_178 (tX11_in hok (by assumption)  hq_1) rfl rfl (Nat.le_of_ble_eq_true rfl) ⟨Nat.le_of_ble_eq_true rfl, Nat.le_of_ble_eq_true rfl⟩ ⟨Nat.le_of_ble_eq_true rfl, Nat.le_of_ble_eq_true rfl⟩ dX11_proof_9) rfl rfl rfl rfl ?_
  rcases opt_em ((if r_1 = 0 then (some (0 : Int32)) else (fX11_in Ω x4 (0 : Int32) (3 : Int32)).bind (fun r_4 => (if r_4 = 0 then (some (0 : Int32)) else (some (1 : Int32))))) : Option (Int32)) with hq_2 | ⟨j_2, hq_2⟩
  · exact absurd hf (by rw [fX11_proof, ob_s hq_1, ob_n hq_2]; exact nofun)
  suffices hj_2 : XW G B 6 31 [(0, .ref (ad G 11 (0))), (1, .int (x1)), (2, .int (x2)), (3, .int (x3)), (4, .int (x4))] [.int (j_2), .int (x2), .int (x1), .ref (ad G 11 (0)), .ref (ad G 11 (0))] Ω 0 0 by
    refine x_if_eq (tgt := 30) (pc2 := 15) C dX11_proof_12 (by decide) rfl (fun qc_3 => ?_) (fun qc_3 => ?_)
    · refine x_iconst (pc2 := 31) (v := 0) C dX11_proof_30 rfl rfl ?_
      rw [if_pos qc_3] at hq_2
      obtain rfl := (Option.some.inj hq_2).symm
      exact x_sub (lv2 := [(0, _), (1, _), (2, _), (3, _), (4, _)]) C [0, 1, 2, 3, 4] rfl hj_2
    · refine x_aload_n (pc2 := 16) C dX11_proof_15 0 rfl rfl rfl ?_
      refine x_iload (pc2 := 18) C dX11_proof_16 4 rfl rfl ?_
      refine x_iconst (pc2 := 19) (v := 0) C dX11_proof_18 rfl rfl ?_
      refine x_iconst (pc2 := 20) (v := 3) C dX11_proof_19 rfl rfl ?_
      rcases opt_em (fX11_in Ω x4 (0 : Int32) (3 : Int32)) with hq_4 | ⟨r_4, hq_4⟩
      · exact absurd hq_2 (by rw [if_neg qc_3, ob_n hq_4]; exact nofun)
      refine x_ret (rest := [_, _, _, _]) (st2 := [_, _, _, _, _]) (pc2 := 23) (cu2 := 0) (su2 := 0) (x_cV C (by assumption) (Nat.le_of_ble_eq_true rfl) kmX11_in rfl kk_11_178 (tX11_in hok (by assumption)  hq_4) rfl rfl (Nat.le_of_ble_eq_true rfl) ⟨Nat.le_of_ble_eq_true rfl, Nat.le_of_ble_eq_true rfl⟩ ⟨Nat.le_of_ble_eq_true rfl, Nat.le_of_ble_eq_true rfl⟩ dX11_proof_20) rfl rfl rfl rfl ?_
      refine x_if_eq (tgt := 30) (pc2 := 26) C dX11_proof_23 (by decide) rfl (fun qc_5 => ?_) (fun qc_5 => ?_)
      · refine x_iconst (pc2 := 31) (v := 0) C dX11_proof_30 rfl rfl ?_
        rw [if_neg qc_3, ob_s hq_4, if_pos qc_5] at hq_2
        obtain rfl := (Option.some.inj hq_2).symm
        exact x_sub (lv2 := [(0, _), (1, _), (2, _), (3, _), (4, _)]) C [0, 1, 2, 3, 4] rfl hj_2
      · refine x_iconst (pc2 := 27) (v := 1) C dX11_proof_26 rfl rfl ?_
        refine x_goto (tgt := 31) C dX11_proof_27 (by decide) ?_
        rw [if_neg qc_3, ob_s hq_4, if_neg qc_5] at hq_2
        obtain rfl := (Option.some.inj hq_2).symm
        exact x_sub (lv2 := [(0, _), (1, _), (2, _), (3, _), (4, _)]) C [0, 1, 2, 3, 4] rfl hj_2
  rcases opt_em (fX11_missing Ω x1 x2 j_2) with hq_6 | ⟨r_6, hq_6⟩
  · exact absurd hf (by rw [fX11_proof, ob_s hq_1, ob_s hq_2, ob_n hq_6]; exact nofun)
  refine x_ret (rest := [_]) (st2 := [_, _]) (pc2 := 34) (cu2 := 0) (su2 := 0) (x_cV C (by assumption) (Nat.le_of_ble_eq_true rfl) kmX11_missing rfl kk_11_364 (tX11_missing hok (by assumption)  hq_6) rfl rfl (Nat.le_of_ble_eq_true rfl) ⟨Nat.le_of_ble_eq_true rfl, Nat.le_of_ble_eq_true rfl⟩ ⟨Nat.le_of_ble_eq_true rfl, Nat.le_of_ble_eq_true rfl⟩ dX11_proof_31) rfl rfl rfl rfl ?_
  rcases opt_em (fX11_holds Ω r_6) with hq_7 | ⟨r_7, hq_7⟩
  · exact absurd hf (by rw [fX11_proof, ob_s hq_1, ob_s hq_2, ob_s hq_6, ob_n hq_7]; exact nofun)
  refine x_ret (rest := []) (st2 := [_]) (pc2 := 37) (cu2 := 0) (su2 := 0) (x_cV C (by assumption) (Nat.le_of_ble_eq_true rfl) kmX11_holds rfl kk_11_214 (tX11_holds hok (by assumption)  hq_7) rfl rfl (Nat.le_of_ble_eq_true rfl) ⟨Nat.le_of_ble_eq_true rfl, Nat.le_of_ble_eq_true rfl⟩ ⟨Nat.le_of_ble_eq_true rfl, Nat.le_of_ble_eq_true rfl⟩ dX11_proof_34) rfl rfl rfl rfl ?_
  refine x_if_eq (tgt := 42) (pc2 := 40) C dX11_proof_37 (by decide) rfl (fun qc_8 => ?_) (fun qc_8 => ?_)
  · refine x_iconst (pc2 := 43) (v := 0) C dX11_proof_42 rfl rfl ?_
    refine x_istore (pc2 := 45) (lv2 := [(5, _), (0, _), (1, _), (2, _), (3, _), (4, _)]) C dX11_proof_43 (by decide) rfl rfl ?_
    rcases opt_em (fX11_proof_l45 x1 x2 x3 x4 17 (0 : Int32) r_7.2) with hq_9 | ⟨q_9, hq_9⟩
    · exact absurd hf (by rw [fX11_proof, ob_s hq_1, ob_s hq_2, ob_s hq_6, ob_s hq_7, if_pos qc_8, ob_n hq_9]; exact nofun)
    refine x_sub (lv2 := [(5, _), (0, _), (1, _), (2, _), (3, _), (4, _)]) C [0, 1, 2, 3, 4, 5] rfl (lX11_proof_l45 hok (by assumption) C 17 (0 : Int32) r_7.2 hq_9 (fun q9 h9 => ?_))
    cases h9
    refine x_aload_n (pc2 := 78) C dX11_proof_77 0 rfl rfl rfl ?_
    refine x_iload (pc2 := 80) C dX11_proof_78 2 rfl rfl ?_
    rcases opt_em (fX11_fold q_9.2 x4) with hq_10 | ⟨r_10, hq_10⟩
    · exact absurd hf (by rw [fX11_proof, ob_s hq_1, ob_s hq_2, ob_s hq_6, ob_s hq_7, if_pos qc_8, ob_s hq_9, ob_n hq_10]; exact nofun)
    refine x_ret (rest := []) (st2 := []) (pc2 := 83) (cu2 := 0) (su2 := 0) (x_cV C (by assumption) (Nat.le_of_ble_eq_true rfl) kmX11_fold rfl kk_11_203 (tX11_fold hok (by assumption)  hq_10) rfl rfl (Nat.le_of_ble_eq_true rfl) ⟨Nat.le_of_ble_eq_true rfl, Nat.le_of_ble_eq_true rfl⟩ ⟨Nat.le_of_ble_eq_true rfl, Nat.le_of_ble_eq_true rfl⟩ dX11_proof_80) rfl rfl rfl rfl ?_
    refine x_aload_n (pc2 := 84) C dX11_proof_83 0 rfl rfl rfl ?_
    refine x_getR (f := 1159) (k2 := 2159) (pc2 := 87) C (by assumption) kf_11_167 dX11_proof_84 rfl rfl rfl (rti_i rfl) rfl (fun qd_11 => ?_)
    refine x_iload_n (pc2 := 88) C dX11_proof_87 1 rfl rfl rfl ?_
    refine x_iload (pc2 := 90) C dX11_proof_88 2 rfl rfl ?_
    refine x_ishr (pc2 := 91) C dX11_proof_90 rfl ?_
    refine x_iconst (pc2 := 92) (v := 2) C dX11_proof_91 rfl rfl ?_
    refine x_irem (pc2 := 93) C dX11_proof_92 (by decide +kernel) rfl ?_
    obtain ⟨j_12, hq_12⟩ : ∃ z : Int32, z = (if ((x3 >>> (x4 &&& 31)) - (x3 >>> (x4 &&& 31)) / (2 : Int32) * (2 : Int32)) = 0 then (x3 >>> (x4 &&& 31)) + (1 : Int32) else (x3 >>> (x4 &&& 31)) - (1 : Int32)) := ⟨_, rfl⟩
    suffices hj_12 : XW G B 6 111 [] [.int (j_12), .ref (ad G 2159 (0))] r_10 0 0 by
      refine x_if_ne (tgt := 105) (pc2 := 96) C dX11_proof_93 (by decide) rfl (fun qc_13 => ?_) (fun qc_13 => ?_)
      · refine x_iload_n (pc2 := 106) C dX11_proof_105 1 rfl rfl rfl ?_
        refine x_iload (pc2 := 108) C dX11_proof_106 2 rfl rfl ?_
        refine x_ishr (pc2 := 109) C dX11_proof_108 rfl ?_
        refine x_iconst (pc2 := 110) (v := 1) C dX11_proof_109 rfl rfl ?_
        refine x_isub (pc2 := 111) C dX11_proof_110 rfl ?_
        rw [if_neg qc_13] at hq_12
        subst hq_12
        exact x_sub (lv2 := []) C [] rfl hj_12
      · refine x_iload_n (pc2 := 97) C dX11_proof_96 1 rfl rfl rfl ?_
        refine x_iload (pc2 := 99) C dX11_proof_97 2 rfl rfl ?_
        refine x_ishr (pc2 := 100) C dX11_proof_99 rfl ?_
        refine x_iconst (pc2 := 101) (v := 1) C dX11_proof_100 rfl rfl ?_
        refine x_iadd (pc2 := 102) C dX11_proof_101 rfl ?_
        refine x_goto (tgt := 111) C dX11_proof_102 (by decide) ?_
        rw [if_pos qc_13] at hq_12
        subst hq_12
        exact x_sub (lv2 := []) C [] rfl hj_12
    rcases (Decidable.em (inB j_12 16)).symm with qg_14 | qg_14
    · exact absurd hf (by rw [fX11_proof, ob_s hq_1, ob_s hq_2, ob_s hq_6, ob_s hq_7, if_pos qc_8, ob_s hq_9, ob_s hq_10, wl_eq hq_12, if_neg qg_14]; exact nofun)
    refine x_iald (pc2 := 112) C (by assumption) dX11_proof_111 rfl (inB_in qg_14) rfl ?_
    rw [fX11_proof, ob_s hq_1, ob_s hq_2, ob_s hq_6, ob_s hq_7, if_pos qc_8, ob_s hq_9, ob_s hq_10, wl_eq hq_12, if_pos qg_14] at hf
    obtain rfl := (Option.some.inj hf).symm
    exact x_ireturn C dX11_proof_112 rfl (Nat.le_of_ble_eq_true rfl) (Nat.le_of_ble_eq_true rfl) rfl rfl
  · refine x_iconst (pc2 := 41) (v := (-1)) C dX11_proof_40 rfl rfl ?_
    rw [fX11_proof, ob_s hq_1, ob_s hq_2, ob_s hq_6, ob_s hq_7, if_neg qc_8] at hf
    obtain rfl := (Option.some.inj hf).symm
    exact x_ireturn C dX11_proof_41 rfl (Nat.le_of_ble_eq_true rfl) (Nat.le_of_ble_eq_true rfl) rfl rfl
def fX11_up (Ω : XO) (x1 : Int32) (x2 : Int32) (x3 : Int32) (x4 : Int32) : Option (Int32) := (((if ((x3 >>> (x2 &&& 31)) - (x3 >>> (x2 &&& 31)) / (2 : Int32) * (2 : Int32)) = 0 then (fX11_mix Ω x1.toInt64 x4.toInt64).bind (fun r_4 => (some r_4)) else (fX11_mix Ω x4.toInt64 x1.toInt64).bind (fun r_3 => (some r_3))) : Option (Int32))).bind (fun j_1 => (some j_1))
set_option maxRecDepth 20000 in
theorem tX11_up {G : XG} (hok : XK G) {x1 : Int32} {x2 : Int32} {x3 : Int32} {x4 : Int32} {Ω : XO} (hd0 : dm G 11 0)   {r : Int32} (hf : fX11_up Ω x1 x2 x3 x4 = some r) : XM G yX11_up cX11_up 5 ((some FieldType.int)) (RM 1 0) [.ref (ad G 11 0), .int x1, .int x2, .int x3, .int x4] Ω (.inl (some (.int (r)))) Ω := by
  refine x_start (lv := [(0, .ref (ad G 11 0)), (1, .int x1), (2, .int x2), (3, .int x3), (4, .int x4)]) (own := RX11) hok (by decide +kernel) rfl (Nat.le_of_ble_eq_true rfl) rfl (fun B C => ?_)
  refine x_iload_n (pc2 := 1) C dX11_up_0 3 rfl rfl rfl ?_
  refine x_iload_n (pc2 := 2) C dX11_up_1 2 rfl rfl rfl ?_
  refine x_ishr (pc2 := 3) C dX11_up_2 rfl ?_
  refine x_iconst (pc2 := 4) (v := 2) C dX11_up_3 rfl rfl ?_
  refine x_irem (pc2 := 5) C dX11_up_4 (by decide +kernel) rfl ?_
  rcases opt_em ((if ((x3 >>> (x2 &&& 31)) - (x3 >>> (x2 &&& 31)) / (2 : Int32) * (2 : Int32)) = 0 then (fX11_mix Ω x1.toInt64 x4.toInt64).bind (fun r_4 => (some r_4)) else (fX11_mix Ω x4.toInt64 x1.toInt64).bind (fun r_3 => (some r_3))) : Option (Int32)) with hq_1 | ⟨j_1, hq_1⟩
  · exact absurd hf (by rw [fX11_up, ob_n hq_1]; exact nofun)
  suffices hj_1 : XW G B 5 29 [] [.int (j_1)] Ω 0 0 by
    refine x_if_ne (tgt := 20) (pc2 := 8) C dX11_up_5 (by decide) rfl (fun qc_2 => ?_) (fun qc_2 => ?_)
    · refine x_aload_n (pc2 := 21) C dX11_up_20 0 rfl rfl rfl ?_
      refine x_iload (pc2 := 23) C dX11_up_21 4 rfl rfl ?_
      refine x_i2l (pc2 := 24) C dX11_up_23 rfl ?_
      refine x_iload_n (pc2 := 25) C dX11_up_24 1 rfl rfl rfl ?_
      refine x_i2l (pc2 := 26) C dX11_up_25 rfl ?_
      rcases opt_em (fX11_mix Ω x4.toInt64 x1.toInt64) with hq_3 | ⟨r_3, hq_3⟩
      · exact absurd hq_1 (by rw [if_neg qc_2, ob_n hq_3]; exact nofun)
      refine x_ret (rest := []) (st2 := [_]) (pc2 := 29) (cu2 := 0) (su2 := 0) (x_cV C (by assumption) (Nat.le_of_ble_eq_true rfl) kmX11_mix rfl kk_11_194 (tX11_mix hok (by assumption)  hq_3) rfl rfl (Nat.le_of_ble_eq_true rfl) ⟨Nat.le_of_ble_eq_true rfl, Nat.le_of_ble_eq_true rfl⟩ ⟨Nat.le_of_ble_eq_true rfl, Nat.le_of_ble_eq_true rfl⟩ dX11_up_26) rfl rfl rfl rfl ?_
      rw [if_neg qc_2, ob_s hq_3] at hq_1
      obtain rfl := (Option.some.inj hq_1).symm
      exact x_sub (lv2 := []) C [] rfl hj_1
    · refine x_aload_n (pc2 := 9) C dX11_up_8 0 rfl rfl rfl ?_
      refine x_iload_n (pc2 := 10) C dX11_up_9 1 rfl rfl rfl ?_
      refine x_i2l (pc2 := 11) C dX11_up_10 rfl ?_
      refine x_iload (pc2 := 13) C dX11_up_11 4 rfl rfl ?_
      refine x_i2l (pc2 := 14) C dX11_up_13 rfl ?_
      rcases opt_em (fX11_mix Ω x1.toInt64 x4.toInt64) with hq_4 | ⟨r_4, hq_4⟩
      · exact absurd hq_1 (by rw [if_pos qc_2, ob_n hq_4]; exact nofun)
      refine x_ret (rest := []) (st2 := [_]) (pc2 := 17) (cu2 := 0) (su2 := 0) (x_cV C (by assumption) (Nat.le_of_ble_eq_true rfl) kmX11_mix rfl kk_11_194 (tX11_mix hok (by assumption)  hq_4) rfl rfl (Nat.le_of_ble_eq_true rfl) ⟨Nat.le_of_ble_eq_true rfl, Nat.le_of_ble_eq_true rfl⟩ ⟨Nat.le_of_ble_eq_true rfl, Nat.le_of_ble_eq_true rfl⟩ dX11_up_14) rfl rfl rfl rfl ?_
      refine x_goto (tgt := 29) C dX11_up_17 (by decide) ?_
      rw [if_pos qc_2, ob_s hq_4] at hq_1
      obtain rfl := (Option.some.inj hq_1).symm
      exact x_sub (lv2 := []) C [] rfl hj_1
  rw [fX11_up, ob_s hq_1] at hf
  obtain rfl := (Option.some.inj hf).symm
  exact x_ireturn C dX11_up_29 rfl (Nat.le_of_ble_eq_true rfl) (Nat.le_of_ble_eq_true rfl) rfl rfl
def fX11_proves (Ω : XO) (x1 : Int32) (x2 : Int32) (x3 : Int32) (x4 : Int32) (x5 : Int32) (x6 : Int32) (x7 : Int32) (x8 : Int32) : Option (Int32 × XO) := (fX11_isBlock Ω x1 x2).bind (fun r_1 => (((if r_1 = 0 then (some (0 : Int32)) else (fX11_in Ω x3 (0 : Int32) (15 : Int32)).bind (fun r_4 => (if r_4 = 0 then (some (0 : Int32)) else (some (1 : Int32))))) : Option (Int32))).bind (fun j_2 => (fX11_in Ω x4 (0 : Int32) (1000002 : Int32)).bind (fun r_6 => (((if r_6 = 0 then (some (0 : Int32)) else (fX11_in Ω x5 (0 : Int32) (1000002 : Int32)).bind (fun r_9 => (if r_9 = 0 then (some (0 : Int32)) else (fX11_in Ω x6 (0 : Int32) (1000002 : Int32)).bind (fun r_11 => (if r_11 = 0 then (some (0 : Int32)) else (fX11_in Ω x7 (0 : Int32) (1000002 : Int32)).bind (fun r_13 => (if r_13 = 0 then (some (0 : Int32)) else (fX11_in Ω x8 (0 : Int32) (1000002 : Int32)).bind (fun r_15 => (if r_15 = 0 then (some (0 : Int32)) else (some (1 : Int32))))))))))) : Option (Int32))).bind (fun j_7 => (wl ((if j_2 = 0 then (1 : Int32) else (if j_7 = 0 then (2 : Int32) else (0 : Int32)))) (fun (j_17 : Int32) => (fX11_holds Ω j_17).bind (fun r_20 => (if r_20.1 = 0 then (fX11_up r_20.2 x4 (0 : Int32) x3 x5).bind (fun r_22 => (fX11_up r_20.2 r_22 (1 : Int32) x3 x6).bind (fun r_23 => (fX11_up r_20.2 r_23 (2 : Int32) x3 x7).bind (fun r_24 => (fX11_up r_20.2 r_24 (3 : Int32) x3 x8).bind (fun r_25 => (if inB (((24 : Int32) * x1) + x2) 48 then (wl ((if r_25 = (xI r_20.2 2127 0 (((24 : Int32) * x1) + x2).toNatClampNeg) then (1 : Int32) else (0 : Int32))) (fun (j_28 : Int32) => (if j_28 = 0 ∨ j_28 = 1 then (some (j_28, r_20.2)) else none))) else none))))) else (some ((0 : Int32), r_20.2))))))))))
set_option maxRecDepth 20000 in
theorem tX11_proves {G : XG} (hok : XK G) {x1 : Int32} {x2 : Int32} {x3 : Int32} {x4 : Int32} {x5 : Int32} {x6 : Int32} {x7 : Int32} {x8 : Int32} {Ω : XO} (hd0 : dm G 11 0)   {r : Int32 × XO} (hf : fX11_proves Ω x1 x2 x3 x4 x5 x6 x7 x8 = some r) : XM G yX11_proves cX11_proves 12 ((some FieldType.boolean)) (RM 3 0) [.ref (ad G 11 0), .int x1, .int x2, .int x3, .int x4, .int x5, .int x6, .int x7, .int x8] Ω (.inl (some (.int (r.1)))) r.2 := by
  refine x_start (lv := [(0, .ref (ad G 11 0)), (1, .int x1), (2, .int x2), (3, .int x3), (4, .int x4), (5, .int x5), (6, .int x6), (7, .int x7), (8, .int x8)]) (own := RX11) hok (by decide +kernel) rfl (Nat.le_of_ble_eq_true rfl) rfl (fun B C => ?_)
  refine x_aload_n (pc2 := 1) C dX11_proves_0 0 rfl rfl rfl ?_
  refine x_iload_n (pc2 := 2) C dX11_proves_1 1 rfl rfl rfl ?_
  refine x_iload_n (pc2 := 3) C dX11_proves_2 2 rfl rfl rfl ?_
  rcases opt_em (fX11_isBlock Ω x1 x2) with hq_1 | ⟨r_1, hq_1⟩
  · exact absurd hf (by rw [fX11_proves, ob_n hq_1]; exact nofun)
  refine x_ret (rest := []) (st2 := [_]) (pc2 := 6) (cu2 := 0) (su2 := 0) (x_cV C (by assumption) (Nat.le_of_ble_eq_true rfl) kmX11_isBlock rfl kk_11_349 (tX11_isBlock hok (by assumption)  hq_1) rfl rfl (Nat.le_of_ble_eq_true rfl) ⟨Nat.le_of_ble_eq_true rfl, Nat.le_of_ble_eq_true rfl⟩ ⟨Nat.le_of_ble_eq_true rfl, Nat.le_of_ble_eq_true rfl⟩ dX11_proves_3) rfl rfl rfl rfl ?_
  rcases opt_em ((if r_1 = 0 then (some (0 : Int32)) else (fX11_in Ω x3 (0 : Int32) (15 : Int32)).bind (fun r_4 => (if r_4 = 0 then (some (0 : Int32)) else (some (1 : Int32))))) : Option (Int32)) with hq_2 | ⟨j_2, hq_2⟩
  · exact absurd hf (by rw [fX11_proves, ob_s hq_1, ob_n hq_2]; exact nofun)
  suffices hj_2 : XW G B 12 25 [(0, .ref (ad G 11 (0))), (1, .int (x1)), (2, .int (x2)), (3, .int (x3)), (4, .int (x4)), (5, .int (x5)), (6, .int (x6)), (7, .int (x7)), (8, .int (x8))] [.int (j_2)] Ω 0 0 by
    refine x_if_eq (tgt := 24) (pc2 := 9) C dX11_proves_6 (by decide) rfl (fun qc_3 => ?_) (fun qc_3 => ?_)
    · refine x_iconst (pc2 := 25) (v := 0) C dX11_proves_24 rfl rfl ?_
      rw [if_pos qc_3] at hq_2
      obtain rfl := (Option.some.inj hq_2).symm
      exact x_sub (lv2 := [(0, _), (1, _), (2, _), (3, _), (4, _), (5, _), (6, _), (7, _), (8, _)]) C [0, 1, 2, 3, 4, 5, 6, 7, 8] rfl hj_2
    · refine x_aload_n (pc2 := 10) C dX11_proves_9 0 rfl rfl rfl ?_
      refine x_iload_n (pc2 := 11) C dX11_proves_10 3 rfl rfl rfl ?_
      refine x_iconst (pc2 := 12) (v := 0) C dX11_proves_11 rfl rfl ?_
      refine x_bipush (pc2 := 14) (v := 15) C dX11_proves_12 rfl rfl ?_
      rcases opt_em (fX11_in Ω x3 (0 : Int32) (15 : Int32)) with hq_4 | ⟨r_4, hq_4⟩
      · exact absurd hq_2 (by rw [if_neg qc_3, ob_n hq_4]; exact nofun)
      refine x_ret (rest := []) (st2 := [_]) (pc2 := 17) (cu2 := 0) (su2 := 0) (x_cV C (by assumption) (Nat.le_of_ble_eq_true rfl) kmX11_in rfl kk_11_178 (tX11_in hok (by assumption)  hq_4) rfl rfl (Nat.le_of_ble_eq_true rfl) ⟨Nat.le_of_ble_eq_true rfl, Nat.le_of_ble_eq_true rfl⟩ ⟨Nat.le_of_ble_eq_true rfl, Nat.le_of_ble_eq_true rfl⟩ dX11_proves_14) rfl rfl rfl rfl ?_
      refine x_if_eq (tgt := 24) (pc2 := 20) C dX11_proves_17 (by decide) rfl (fun qc_5 => ?_) (fun qc_5 => ?_)
      · refine x_iconst (pc2 := 25) (v := 0) C dX11_proves_24 rfl rfl ?_
        rw [if_neg qc_3, ob_s hq_4, if_pos qc_5] at hq_2
        obtain rfl := (Option.some.inj hq_2).symm
        exact x_sub (lv2 := [(0, _), (1, _), (2, _), (3, _), (4, _), (5, _), (6, _), (7, _), (8, _)]) C [0, 1, 2, 3, 4, 5, 6, 7, 8] rfl hj_2
      · refine x_iconst (pc2 := 21) (v := 1) C dX11_proves_20 rfl rfl ?_
        refine x_goto (tgt := 25) C dX11_proves_21 (by decide) ?_
        rw [if_neg qc_3, ob_s hq_4, if_neg qc_5] at hq_2
        obtain rfl := (Option.some.inj hq_2).symm
        exact x_sub (lv2 := [(0, _), (1, _), (2, _), (3, _), (4, _), (5, _), (6, _), (7, _), (8, _)]) C [0, 1, 2, 3, 4, 5, 6, 7, 8] rfl hj_2
  refine x_istore (pc2 := 27) (lv2 := [(9, _), (0, _), (1, _), (2, _), (3, _), (4, _), (5, _), (6, _), (7, _), (8, _)]) C dX11_proves_25 (by decide) rfl rfl ?_
  refine x_aload_n (pc2 := 28) C dX11_proves_27 1 rfl rfl rfl ?_
  refine x_iload (pc2 := 30) C dX11_proves_28 5 rfl rfl ?_
  refine x_iconst (pc2 := 31) (v := 0) C dX11_proves_30 rfl rfl ?_
  refine x_ldcw (pc2 := 34) C kc_11_374 dX11_proves_31 rfl ?_
  rcases opt_em (fX11_in Ω x4 (0 : Int32) (1000002 : Int32)) with hq_6 | ⟨r_6, hq_6⟩
  · exact absurd hf (by rw [fX11_proves, ob_s hq_1, ob_s hq_2, ob_n hq_6]; exact nofun)
  refine x_ret (rest := []) (st2 := [_]) (pc2 := 37) (cu2 := 0) (su2 := 0) (x_cV C (by assumption) (Nat.le_of_ble_eq_true rfl) kmX11_in rfl kk_11_178 (tX11_in hok (by assumption)  hq_6) rfl rfl (Nat.le_of_ble_eq_true rfl) ⟨Nat.le_of_ble_eq_true rfl, Nat.le_of_ble_eq_true rfl⟩ ⟨Nat.le_of_ble_eq_true rfl, Nat.le_of_ble_eq_true rfl⟩ dX11_proves_34) rfl rfl rfl rfl ?_
  rcases opt_em ((if r_6 = 0 then (some (0 : Int32)) else (fX11_in Ω x5 (0 : Int32) (1000002 : Int32)).bind (fun r_9 => (if r_9 = 0 then (some (0 : Int32)) else (fX11_in Ω x6 (0 : Int32) (1000002 : Int32)).bind (fun r_11 => (if r_11 = 0 then (some (0 : Int32)) else (fX11_in Ω x7 (0 : Int32) (1000002 : Int32)).bind (fun r_13 => (if r_13 = 0 then (some (0 : Int32)) else (fX11_in Ω x8 (0 : Int32) (1000002 : Int32)).bind (fun r_15 => (if r_15 = 0 then (some (0 : Int32)) else (some (1 : Int32))))))))))) : Option (Int32)) with hq_7 | ⟨j_7, hq_7⟩
  · exact absurd hf (by rw [fX11_proves, ob_s hq_1, ob_s hq_2, ob_s hq_6, ob_n hq_7]; exact nofun)
  suffices hj_7 : XW G B 12 97 [(0, .ref (ad G 11 (0))), (1, .int (x1)), (2, .int (x2)), (3, .int (x3)), (4, .int (x4)), (5, .int (x5)), (6, .int (x6)), (7, .int (x7)), (8, .int (x8)), (9, .int (j_2))] [.int (j_7)] Ω 0 0 by
    refine x_if_eq (tgt := 96) (pc2 := 40) C dX11_proves_37 (by decide) rfl (fun qc_8 => ?_) (fun qc_8 => ?_)
    · refine x_iconst (pc2 := 97) (v := 0) C dX11_proves_96 rfl rfl ?_
      rw [if_pos qc_8] at hq_7
      obtain rfl := (Option.some.inj hq_7).symm
      exact x_sub (lv2 := [(0, _), (1, _), (2, _), (3, _), (4, _), (5, _), (6, _), (7, _), (8, _), (9, _)]) C [1, 2, 3, 4, 5, 6, 7, 8, 9, 0] rfl hj_7
    · refine x_aload_n (pc2 := 41) C dX11_proves_40 1 rfl rfl rfl ?_
      refine x_iload (pc2 := 43) C dX11_proves_41 6 rfl rfl ?_
      refine x_iconst (pc2 := 44) (v := 0) C dX11_proves_43 rfl rfl ?_
      refine x_ldcw (pc2 := 47) C kc_11_374 dX11_proves_44 rfl ?_
      rcases opt_em (fX11_in Ω x5 (0 : Int32) (1000002 : Int32)) with hq_9 | ⟨r_9, hq_9⟩
      · exact absurd hq_7 (by rw [if_neg qc_8, ob_n hq_9]; exact nofun)
      refine x_ret (rest := []) (st2 := [_]) (pc2 := 50) (cu2 := 0) (su2 := 0) (x_cV C (by assumption) (Nat.le_of_ble_eq_true rfl) kmX11_in rfl kk_11_178 (tX11_in hok (by assumption)  hq_9) rfl rfl (Nat.le_of_ble_eq_true rfl) ⟨Nat.le_of_ble_eq_true rfl, Nat.le_of_ble_eq_true rfl⟩ ⟨Nat.le_of_ble_eq_true rfl, Nat.le_of_ble_eq_true rfl⟩ dX11_proves_47) rfl rfl rfl rfl ?_
      refine x_if_eq (tgt := 96) (pc2 := 53) C dX11_proves_50 (by decide) rfl (fun qc_10 => ?_) (fun qc_10 => ?_)
      · refine x_iconst (pc2 := 97) (v := 0) C dX11_proves_96 rfl rfl ?_
        rw [if_neg qc_8, ob_s hq_9, if_pos qc_10] at hq_7
        obtain rfl := (Option.some.inj hq_7).symm
        exact x_sub (lv2 := [(0, _), (1, _), (2, _), (3, _), (4, _), (5, _), (6, _), (7, _), (8, _), (9, _)]) C [1, 2, 3, 4, 5, 6, 7, 8, 9, 0] rfl hj_7
      · refine x_aload_n (pc2 := 54) C dX11_proves_53 1 rfl rfl rfl ?_
        refine x_iload (pc2 := 56) C dX11_proves_54 7 rfl rfl ?_
        refine x_iconst (pc2 := 57) (v := 0) C dX11_proves_56 rfl rfl ?_
        refine x_ldcw (pc2 := 60) C kc_11_374 dX11_proves_57 rfl ?_
        rcases opt_em (fX11_in Ω x6 (0 : Int32) (1000002 : Int32)) with hq_11 | ⟨r_11, hq_11⟩
        · exact absurd hq_7 (by rw [if_neg qc_8, ob_s hq_9, if_neg qc_10, ob_n hq_11]; exact nofun)
        refine x_ret (rest := []) (st2 := [_]) (pc2 := 63) (cu2 := 0) (su2 := 0) (x_cV C (by assumption) (Nat.le_of_ble_eq_true rfl) kmX11_in rfl kk_11_178 (tX11_in hok (by assumption)  hq_11) rfl rfl (Nat.le_of_ble_eq_true rfl) ⟨Nat.le_of_ble_eq_true rfl, Nat.le_of_ble_eq_true rfl⟩ ⟨Nat.le_of_ble_eq_true rfl, Nat.le_of_ble_eq_true rfl⟩ dX11_proves_60) rfl rfl rfl rfl ?_
        refine x_if_eq (tgt := 96) (pc2 := 66) C dX11_proves_63 (by decide) rfl (fun qc_12 => ?_) (fun qc_12 => ?_)
        · refine x_iconst (pc2 := 97) (v := 0) C dX11_proves_96 rfl rfl ?_
          rw [if_neg qc_8, ob_s hq_9, if_neg qc_10, ob_s hq_11, if_pos qc_12] at hq_7
          obtain rfl := (Option.some.inj hq_7).symm
          exact x_sub (lv2 := [(0, _), (1, _), (2, _), (3, _), (4, _), (5, _), (6, _), (7, _), (8, _), (9, _)]) C [1, 2, 3, 4, 5, 6, 7, 8, 9, 0] rfl hj_7
        · refine x_aload_n (pc2 := 67) C dX11_proves_66 1 rfl rfl rfl ?_
          refine x_iload (pc2 := 69) C dX11_proves_67 8 rfl rfl ?_
          refine x_iconst (pc2 := 70) (v := 0) C dX11_proves_69 rfl rfl ?_
          refine x_ldcw (pc2 := 73) C kc_11_374 dX11_proves_70 rfl ?_
          rcases opt_em (fX11_in Ω x7 (0 : Int32) (1000002 : Int32)) with hq_13 | ⟨r_13, hq_13⟩
          · exact absurd hq_7 (by rw [if_neg qc_8, ob_s hq_9, if_neg qc_10, ob_s hq_11, if_neg qc_12, ob_n hq_13]; exact nofun)
          refine x_ret (rest := []) (st2 := [_]) (pc2 := 76) (cu2 := 0) (su2 := 0) (x_cV C (by assumption) (Nat.le_of_ble_eq_true rfl) kmX11_in rfl kk_11_178 (tX11_in hok (by assumption)  hq_13) rfl rfl (Nat.le_of_ble_eq_true rfl) ⟨Nat.le_of_ble_eq_true rfl, Nat.le_of_ble_eq_true rfl⟩ ⟨Nat.le_of_ble_eq_true rfl, Nat.le_of_ble_eq_true rfl⟩ dX11_proves_73) rfl rfl rfl rfl ?_
          refine x_if_eq (tgt := 96) (pc2 := 79) C dX11_proves_76 (by decide) rfl (fun qc_14 => ?_) (fun qc_14 => ?_)
          · refine x_iconst (pc2 := 97) (v := 0) C dX11_proves_96 rfl rfl ?_
            rw [if_neg qc_8, ob_s hq_9, if_neg qc_10, ob_s hq_11, if_neg qc_12, ob_s hq_13, if_pos qc_14] at hq_7
            obtain rfl := (Option.some.inj hq_7).symm
            exact x_sub (lv2 := [(0, _), (1, _), (2, _), (3, _), (4, _), (5, _), (6, _), (7, _), (8, _), (9, _)]) C [1, 2, 3, 4, 5, 6, 7, 8, 9, 0] rfl hj_7
          · refine x_aload_n (pc2 := 80) C dX11_proves_79 1 rfl rfl rfl ?_
            refine x_iload (pc2 := 82) C dX11_proves_80 9 rfl rfl ?_
            refine x_iconst (pc2 := 83) (v := 0) C dX11_proves_82 rfl rfl ?_
            refine x_ldcw (pc2 := 86) C kc_11_374 dX11_proves_83 rfl ?_
            rcases opt_em (fX11_in Ω x8 (0 : Int32) (1000002 : Int32)) with hq_15 | ⟨r_15, hq_15⟩
            · exact absurd hq_7 (by rw [if_neg qc_8, ob_s hq_9, if_neg qc_10, ob_s hq_11, if_neg qc_12, ob_s hq_13, if_neg qc_14, ob_n hq_15]; exact nofun)
            refine x_ret (rest := []) (st2 := [_]) (pc2 := 89) (cu2 := 0) (su2 := 0) (x_cV C (by assumption) (Nat.le_of_ble_eq_true rfl) kmX11_in rfl kk_11_178 (tX11_in hok (by assumption)  hq_15) rfl rfl (Nat.le_of_ble_eq_true rfl) ⟨Nat.le_of_ble_eq_true rfl, Nat.le_of_ble_eq_true rfl⟩ ⟨Nat.le_of_ble_eq_true rfl, Nat.le_of_ble_eq_true rfl⟩ dX11_proves_86) rfl rfl rfl rfl ?_
            refine x_if_eq (tgt := 96) (pc2 := 92) C dX11_proves_89 (by decide) rfl (fun qc_16 => ?_) (fun qc_16 => ?_)
            · refine x_iconst (pc2 := 97) (v := 0) C dX11_proves_96 rfl rfl ?_
              rw [if_neg qc_8, ob_s hq_9, if_neg qc_10, ob_s hq_11, if_neg qc_12, ob_s hq_13, if_neg qc_14, ob_s hq_15, if_pos qc_16] at hq_7
              obtain rfl := (Option.some.inj hq_7).symm
              exact x_sub (lv2 := [(0, _), (1, _), (2, _), (3, _), (4, _), (5, _), (6, _), (7, _), (8, _), (9, _)]) C [1, 2, 3, 4, 5, 6, 7, 8, 9, 0] rfl hj_7
            · refine x_iconst (pc2 := 93) (v := 1) C dX11_proves_92 rfl rfl ?_
              refine x_goto (tgt := 97) C dX11_proves_93 (by decide) ?_
              rw [if_neg qc_8, ob_s hq_9, if_neg qc_10, ob_s hq_11, if_neg qc_12, ob_s hq_13, if_neg qc_14, ob_s hq_15, if_neg qc_16] at hq_7
              obtain rfl := (Option.some.inj hq_7).symm
              exact x_sub (lv2 := [(0, _), (1, _), (2, _), (3, _), (4, _), (5, _), (6, _), (7, _), (8, _), (9, _)]) C [1, 2, 3, 4, 5, 6, 7, 8, 9, 0] rfl hj_7
  refine x_istore (pc2 := 99) (lv2 := [(10, _), (0, _), (1, _), (2, _), (3, _), (4, _), (5, _), (6, _), (7, _), (8, _), (9, _)]) C dX11_proves_97 (by decide) rfl rfl ?_
  refine x_aload_n (pc2 := 100) C dX11_proves_99 1 rfl rfl rfl ?_
  refine x_iload (pc2 := 102) C dX11_proves_100 10 rfl rfl ?_
  obtain ⟨j_17, hq_17⟩ : ∃ z : Int32, z = (if j_2 = 0 then (1 : Int32) else (if j_7 = 0 then (2 : Int32) else (0 : Int32))) := ⟨_, rfl⟩
  suffices hj_17 : XW G B 12 119 [(0, .ref (ad G 11 (0))), (1, .int (x1)), (2, .int (x2)), (3, .int (x3)), (4, .int (x4)), (5, .int (x5)), (6, .int (x6)), (7, .int (x7)), (8, .int (x8))] [.int (j_17), .ref (ad G 11 (0))] Ω 0 0 by
    refine x_if_ne (tgt := 109) (pc2 := 105) C dX11_proves_102 (by decide) rfl (fun qc_18 => ?_) (fun qc_18 => ?_)
    · refine x_iload (pc2 := 111) C dX11_proves_109 0 rfl rfl ?_
      refine x_if_eq (tgt := 118) (pc2 := 114) C dX11_proves_111 (by decide) rfl (fun qc_19 => ?_) (fun qc_19 => ?_)
      · refine x_iconst (pc2 := 119) (v := 2) C dX11_proves_118 rfl rfl ?_
        rw [if_neg qc_18, if_pos qc_19] at hq_17
        subst hq_17
        exact x_sub (lv2 := [(0, _), (1, _), (2, _), (3, _), (4, _), (5, _), (6, _), (7, _), (8, _)]) C [1, 2, 3, 4, 5, 6, 7, 8, 9] rfl hj_17
      · refine x_iconst (pc2 := 115) (v := 0) C dX11_proves_114 rfl rfl ?_
        refine x_goto (tgt := 119) C dX11_proves_115 (by decide) ?_
        rw [if_neg qc_18, if_neg qc_19] at hq_17
        subst hq_17
        exact x_sub (lv2 := [(0, _), (1, _), (2, _), (3, _), (4, _), (5, _), (6, _), (7, _), (8, _)]) C [1, 2, 3, 4, 5, 6, 7, 8, 9] rfl hj_17
    · refine x_iconst (pc2 := 106) (v := 1) C dX11_proves_105 rfl rfl ?_
      refine x_goto (tgt := 119) C dX11_proves_106 (by decide) ?_
      rw [if_pos qc_18] at hq_17
      subst hq_17
      exact x_sub (lv2 := [(0, _), (1, _), (2, _), (3, _), (4, _), (5, _), (6, _), (7, _), (8, _)]) C [1, 2, 3, 4, 5, 6, 7, 8, 9] rfl hj_17
  rcases opt_em (fX11_holds Ω j_17) with hq_20 | ⟨r_20, hq_20⟩
  · exact absurd hf (by rw [fX11_proves, ob_s hq_1, ob_s hq_2, ob_s hq_6, ob_s hq_7, wl_eq hq_17, ob_n hq_20]; exact nofun)
  refine x_ret (rest := []) (st2 := [_]) (pc2 := 122) (cu2 := 0) (su2 := 0) (x_cV C (by assumption) (Nat.le_of_ble_eq_true rfl) kmX11_holds rfl kk_11_214 (tX11_holds hok (by assumption)  hq_20) rfl rfl (Nat.le_of_ble_eq_true rfl) ⟨Nat.le_of_ble_eq_true rfl, Nat.le_of_ble_eq_true rfl⟩ ⟨Nat.le_of_ble_eq_true rfl, Nat.le_of_ble_eq_true rfl⟩ dX11_proves_119) rfl rfl rfl rfl ?_
  refine x_if_eq (tgt := 127) (pc2 := 125) C dX11_proves_122 (by decide) rfl (fun qc_21 => ?_) (fun qc_21 => ?_)
  · refine x_aload_n (pc2 := 128) C dX11_proves_127 0 rfl rfl rfl ?_
    refine x_aload_n (pc2 := 129) C dX11_proves_128 0 rfl rfl rfl ?_
    refine x_iload (pc2 := 131) C dX11_proves_129 4 rfl rfl ?_
    refine x_iconst (pc2 := 132) (v := 0) C dX11_proves_131 rfl rfl ?_
    refine x_iload_n (pc2 := 133) C dX11_proves_132 3 rfl rfl rfl ?_
    refine x_iload (pc2 := 135) C dX11_proves_133 5 rfl rfl ?_
    rcases opt_em (fX11_up r_20.2 x4 (0 : Int32) x3 x5) with hq_22 | ⟨r_22, hq_22⟩
    · exact absurd hf (by rw [fX11_proves, ob_s hq_1, ob_s hq_2, ob_s hq_6, ob_s hq_7, wl_eq hq_17, ob_s hq_20, if_pos qc_21, ob_n hq_22]; exact nofun)
    refine x_ret (rest := [_]) (st2 := [_, _]) (pc2 := 138) (cu2 := 0) (su2 := 0) (x_cV C (by assumption) (Nat.le_of_ble_eq_true rfl) kmX11_up rfl kk_11_375 (tX11_up hok (by assumption)  hq_22) rfl rfl (Nat.le_of_ble_eq_true rfl) ⟨Nat.le_of_ble_eq_true rfl, Nat.le_of_ble_eq_true rfl⟩ ⟨Nat.le_of_ble_eq_true rfl, Nat.le_of_ble_eq_true rfl⟩ dX11_proves_135) rfl rfl rfl rfl ?_
    refine x_iconst (pc2 := 139) (v := 1) C dX11_proves_138 rfl rfl ?_
    refine x_iload_n (pc2 := 140) C dX11_proves_139 3 rfl rfl rfl ?_
    refine x_iload (pc2 := 142) C dX11_proves_140 6 rfl rfl ?_
    rcases opt_em (fX11_up r_20.2 r_22 (1 : Int32) x3 x6) with hq_23 | ⟨r_23, hq_23⟩
    · exact absurd hf (by rw [fX11_proves, ob_s hq_1, ob_s hq_2, ob_s hq_6, ob_s hq_7, wl_eq hq_17, ob_s hq_20, if_pos qc_21, ob_s hq_22, ob_n hq_23]; exact nofun)
    refine x_ret (rest := []) (st2 := [_]) (pc2 := 145) (cu2 := 0) (su2 := 0) (x_cV C (by assumption) (Nat.le_of_ble_eq_true rfl) kmX11_up rfl kk_11_375 (tX11_up hok (by assumption)  hq_23) rfl rfl (Nat.le_of_ble_eq_true rfl) ⟨Nat.le_of_ble_eq_true rfl, Nat.le_of_ble_eq_true rfl⟩ ⟨Nat.le_of_ble_eq_true rfl, Nat.le_of_ble_eq_true rfl⟩ dX11_proves_142) rfl rfl rfl rfl ?_
    refine x_istore (pc2 := 147) (lv2 := [(11, _), (0, _), (1, _), (2, _), (3, _), (4, _), (5, _), (6, _), (7, _), (8, _)]) C dX11_proves_145 (by decide) rfl rfl ?_
    refine x_aload_n (pc2 := 148) C dX11_proves_147 1 rfl rfl rfl ?_
    refine x_aload_n (pc2 := 149) C dX11_proves_148 1 rfl rfl rfl ?_
    refine x_iload (pc2 := 151) C dX11_proves_149 0 rfl rfl ?_
    refine x_iconst (pc2 := 152) (v := 2) C dX11_proves_151 rfl rfl ?_
    refine x_iload_n (pc2 := 153) C dX11_proves_152 4 rfl rfl rfl ?_
    refine x_iload (pc2 := 155) C dX11_proves_153 8 rfl rfl ?_
    rcases opt_em (fX11_up r_20.2 r_23 (2 : Int32) x3 x7) with hq_24 | ⟨r_24, hq_24⟩
    · exact absurd hf (by rw [fX11_proves, ob_s hq_1, ob_s hq_2, ob_s hq_6, ob_s hq_7, wl_eq hq_17, ob_s hq_20, if_pos qc_21, ob_s hq_22, ob_s hq_23, ob_n hq_24]; exact nofun)
    refine x_ret (rest := [_]) (st2 := [_, _]) (pc2 := 158) (cu2 := 0) (su2 := 0) (x_cV C (by assumption) (Nat.le_of_ble_eq_true rfl) kmX11_up rfl kk_11_375 (tX11_up hok (by assumption)  hq_24) rfl rfl (Nat.le_of_ble_eq_true rfl) ⟨Nat.le_of_ble_eq_true rfl, Nat.le_of_ble_eq_true rfl⟩ ⟨Nat.le_of_ble_eq_true rfl, Nat.le_of_ble_eq_true rfl⟩ dX11_proves_155) rfl rfl rfl rfl ?_
    refine x_iconst (pc2 := 159) (v := 3) C dX11_proves_158 rfl rfl ?_
    refine x_iload_n (pc2 := 160) C dX11_proves_159 4 rfl rfl rfl ?_
    refine x_iload (pc2 := 162) C dX11_proves_160 9 rfl rfl ?_
    rcases opt_em (fX11_up r_20.2 r_24 (3 : Int32) x3 x8) with hq_25 | ⟨r_25, hq_25⟩
    · exact absurd hf (by rw [fX11_proves, ob_s hq_1, ob_s hq_2, ob_s hq_6, ob_s hq_7, wl_eq hq_17, ob_s hq_20, if_pos qc_21, ob_s hq_22, ob_s hq_23, ob_s hq_24, ob_n hq_25]; exact nofun)
    refine x_ret (rest := []) (st2 := [_]) (pc2 := 165) (cu2 := 0) (su2 := 0) (x_cV C (by assumption) (Nat.le_of_ble_eq_true rfl) kmX11_up rfl kk_11_375 (tX11_up hok (by assumption)  hq_25) rfl rfl (Nat.le_of_ble_eq_true rfl) ⟨Nat.le_of_ble_eq_true rfl, Nat.le_of_ble_eq_true rfl⟩ ⟨Nat.le_of_ble_eq_true rfl, Nat.le_of_ble_eq_true rfl⟩ dX11_proves_162) rfl rfl rfl rfl ?_
    refine x_aload_n (pc2 := 166) C dX11_proves_165 1 rfl rfl rfl ?_
    refine x_getR (f := 1127) (k2 := 2127) (pc2 := 169) C (by assumption) kf_11_89 dX11_proves_166 rfl rfl rfl (rti_i rfl) rfl (fun qd_26 => ?_)
    refine x_bipush (pc2 := 171) (v := 24) C dX11_proves_169 rfl rfl ?_
    refine x_iload_n (pc2 := 172) C dX11_proves_171 2 rfl rfl rfl ?_
    refine x_imul (pc2 := 173) C dX11_proves_172 rfl ?_
    refine x_iload_n (pc2 := 174) C dX11_proves_173 3 rfl rfl rfl ?_
    refine x_iadd (pc2 := 175) C dX11_proves_174 rfl ?_
    rcases (Decidable.em (inB (((24 : Int32) * x1) + x2) 48)).symm with qg_27 | qg_27
    · exact absurd hf (by rw [fX11_proves, ob_s hq_1, ob_s hq_2, ob_s hq_6, ob_s hq_7, wl_eq hq_17, ob_s hq_20, if_pos qc_21, ob_s hq_22, ob_s hq_23, ob_s hq_24, ob_s hq_25, if_neg qg_27]; exact nofun)
    refine x_iald (pc2 := 176) C (by assumption) dX11_proves_175 rfl (inB_in qg_27) rfl ?_
    obtain ⟨j_28, hq_28⟩ : ∃ z : Int32, z = (if r_25 = (xI r_20.2 2127 0 (((24 : Int32) * x1) + x2).toNatClampNeg) then (1 : Int32) else (0 : Int32)) := ⟨_, rfl⟩
    suffices hj_28 : XW G B 12 184 [] [.int (j_28)] r_20.2 0 0 by
      refine x_icmp_ne (tgt := 183) (pc2 := 179) C dX11_proves_176 (by decide) rfl (fun qc_29 => ?_) (fun qc_29 => ?_)
      · refine x_iconst (pc2 := 184) (v := 0) C dX11_proves_183 rfl rfl ?_
        rw [if_neg qc_29] at hq_28
        subst hq_28
        exact x_sub (lv2 := []) C [] rfl hj_28
      · refine x_iconst (pc2 := 180) (v := 1) C dX11_proves_179 rfl rfl ?_
        refine x_goto (tgt := 184) C dX11_proves_180 (by decide) ?_
        rw [if_pos qc_29] at hq_28
        subst hq_28
        exact x_sub (lv2 := []) C [] rfl hj_28
    rcases (Decidable.em (j_28 = 0 ∨ j_28 = 1)).symm with qg_30 | qg_30
    · exact absurd hf (by rw [fX11_proves, ob_s hq_1, ob_s hq_2, ob_s hq_6, ob_s hq_7, wl_eq hq_17, ob_s hq_20, if_pos qc_21, ob_s hq_22, ob_s hq_23, ob_s hq_24, ob_s hq_25, if_pos qg_27, wl_eq hq_28, if_neg qg_30]; exact nofun)
    rw [fX11_proves, ob_s hq_1, ob_s hq_2, ob_s hq_6, ob_s hq_7, wl_eq hq_17, ob_s hq_20, if_pos qc_21, ob_s hq_22, ob_s hq_23, ob_s hq_24, ob_s hq_25, if_pos qg_27, wl_eq hq_28, if_pos qg_30] at hf
    obtain rfl := (Option.some.inj hf).symm
    exact x_zreturn C dX11_proves_184 rfl qg_30 (Nat.le_of_ble_eq_true rfl) (Nat.le_of_ble_eq_true rfl) rfl rfl
  · refine x_iconst (pc2 := 126) (v := 0) C dX11_proves_125 rfl rfl ?_
    rw [fX11_proves, ob_s hq_1, ob_s hq_2, ob_s hq_6, ob_s hq_7, wl_eq hq_17, ob_s hq_20, if_neg qc_21] at hf
    obtain rfl := (Option.some.inj hf).symm
    exact x_zreturn C dX11_proves_126 rfl (by first | exact Or.inl rfl | exact Or.inr rfl) (Nat.le_of_ble_eq_true rfl) (Nat.le_of_ble_eq_true rfl) rfl rfl
def fX11_prune_l26 (y1 : Int32) : Nat → Int32 → Int32 → XO → Option (Int32 × Int32 × XO)
  | 0, _, _, _ => none
  | n + 1, y3, y2, Ω => (if inB y1 2 then (if (xI Ω 2109 0 y1.toNatClampNeg) ≤ y3 then (some (y3, y2, Ω)) else (if inB (((24 : Int32) * y1) + y3) 48 then (((if (xI Ω 2126 0 (((24 : Int32) * y1) + y3).toNatClampNeg) = 0 then (if inB (((24 : Int32) * y1) + y3) 48 then (if inB y1 2 then (if inB (((24 : Int32) * y1) + (xI Ω 2110 0 y1.toNatClampNeg)) 48 then (if (xI Ω 2121 0 (((24 : Int32) * y1) + (xI Ω 2110 0 y1.toNatClampNeg)).toNatClampNeg) ≤ (xI Ω 2121 0 (((24 : Int32) * y1) + y3).toNatClampNeg) then (some (0 : Int32)) else (some (1 : Int32))) else none) else none) else none) else (some (0 : Int32))) : Option (Int32))).bind (fun j_6 => (((if j_6 = 0 then (if inB (((24 : Int32) * y1) + y3) 48 then (some (xI Ω 2126 0 (((24 : Int32) * y1) + y3).toNatClampNeg)) else none) else (some (1 : Int32))) : Option (Int32))).bind (fun j_16 => (if inB (((24 : Int32) * y1) + y3) 48 then (wl (uI Ω 2126 0 (((24 : Int32) * y1) + y3).toNatClampNeg j_16) (fun Ω_21 => (wl ((if j_6 = 0 then (0 : Int32) else (1 : Int32))) (fun (j_22 : Int32) => fX11_prune_l26 y1 n (y3 + 1) (y2 + j_22) Ω_21)))) else none))) else none)) else none)
set_option maxRecDepth 20000 in
theorem lX11_prune_l26 {G : XG} (hok : XK G) {B : XB} {y1 : Int32}  (hf0 : dm G 11 0)   {T : Option Value ⊕ String} {Ω9 : XO} (C : XC G B cX11_prune RX11 (RM 2 0) 5 ((some FieldType.int)) T Ω9) : ∀ (n : Nat) (y3 : Int32) (y2 : Int32) (Ω : XO) {r : (Int32 × Int32 × XO)}, fX11_prune_l26 y1 n y3 y2 Ω = some r → (∀ q, r = q → (XW G B 5 137 [(2, .int (q.2.1))] [] q.2.2 0 0)) → XW G B 5 26 [(3, .int (y3)), (2, .int (y2)), (0, .ref (ad G 11 (0))), (1, .int (y1))] [] Ω 0 0 := by
  intro n
  induction n with
  | zero => intro y3 y2 Ω r hf; exact absurd hf (by rw [fX11_prune_l26]; exact nofun)
  | succ n ih =>
    intro y3 y2 Ω r hf hk
    refine x_iload_n (pc2 := 27) C dX11_prune_26 0 rfl rfl rfl ?_
    refine x_aload_n (pc2 := 28) C dX11_prune_27 2 rfl rfl rfl ?_
    refine x_getR (f := 1109) (k2 := 2109) (pc2 := 31) C (by assumption) kf_11_34 dX11_prune_28 rfl rfl rfl (rti_i rfl) rfl (fun qd_1 => ?_)
    refine x_iload_n (pc2 := 32) C dX11_prune_31 3 rfl rfl rfl ?_
    rcases (Decidable.em (inB y1 2)).symm with qg_2 | qg_2
    · exact absurd hf (by rw [fX11_prune_l26, if_neg qg_2]; exact nofun)
    refine x_iald (pc2 := 33) C (by assumption) dX11_prune_32 rfl (inB_in qg_2) rfl ?_
    refine x_icmp_ge (tgt := 137) (pc2 := 36) C dX11_prune_33 (by decide) rfl (fun qc_3 => ?_) (fun qc_3 => ?_)
    · rw [fX11_prune_l26, if_pos qg_2, if_pos qc_3] at hf
      exact x_sub (lv2 := [(2, _)]) C [1] rfl (hk _ (Option.some.inj hf).symm)
    · refine x_aload_n (pc2 := 37) C dX11_prune_36 2 rfl rfl rfl ?_
      refine x_getR (f := 1126) (k2 := 2126) (pc2 := 40) C (by assumption) kf_11_86 dX11_prune_37 rfl rfl rfl (rti_i rfl) rfl (fun qd_4 => ?_)
      refine x_bipush (pc2 := 42) (v := 24) C dX11_prune_40 rfl rfl ?_
      refine x_iload_n (pc2 := 43) C dX11_prune_42 3 rfl rfl rfl ?_
      refine x_imul (pc2 := 44) C dX11_prune_43 rfl ?_
      refine x_iload_n (pc2 := 45) C dX11_prune_44 0 rfl rfl rfl ?_
      refine x_iadd (pc2 := 46) C dX11_prune_45 rfl ?_
      rcases (Decidable.em (inB (((24 : Int32) * y1) + y3) 48)).symm with qg_5 | qg_5
      · exact absurd hf (by rw [fX11_prune_l26, if_pos qg_2, if_neg qc_3, if_neg qg_5]; exact nofun)
      refine x_iald (pc2 := 47) C (by assumption) dX11_prune_46 rfl (inB_in qg_5) rfl ?_
      rcases opt_em ((if (xI Ω 2126 0 (((24 : Int32) * y1) + y3).toNatClampNeg) = 0 then (if inB (((24 : Int32) * y1) + y3) 48 then (if inB y1 2 then (if inB (((24 : Int32) * y1) + (xI Ω 2110 0 y1.toNatClampNeg)) 48 then (if (xI Ω 2121 0 (((24 : Int32) * y1) + (xI Ω 2110 0 y1.toNatClampNeg)).toNatClampNeg) ≤ (xI Ω 2121 0 (((24 : Int32) * y1) + y3).toNatClampNeg) then (some (0 : Int32)) else (some (1 : Int32))) else none) else none) else none) else (some (0 : Int32))) : Option (Int32)) with hq_6 | ⟨j_6, hq_6⟩
      · exact absurd hf (by rw [fX11_prune_l26, if_pos qg_2, if_neg qc_3, if_pos qg_5, ob_n hq_6]; exact nofun)
      suffices hj_6 : XW G B 5 85 [(0, .ref (ad G 11 (0))), (1, .int (y1)), (2, .int (y2)), (3, .int (y3))] [.int (j_6)] Ω 0 0 by
        refine x_if_ne (tgt := 84) (pc2 := 50) C dX11_prune_47 (by decide) rfl (fun qc_7 => ?_) (fun qc_7 => ?_)
        · refine x_iconst (pc2 := 85) (v := 0) C dX11_prune_84 rfl rfl ?_
          rw [if_neg qc_7] at hq_6
          obtain rfl := (Option.some.inj hq_6).symm
          exact x_sub (lv2 := [(0, _), (1, _), (2, _), (3, _)]) C [2, 3, 1, 0] rfl hj_6
        · refine x_aload_n (pc2 := 51) C dX11_prune_50 2 rfl rfl rfl ?_
          refine x_getR (f := 1121) (k2 := 2121) (pc2 := 54) C (by assumption) kf_11_70 dX11_prune_51 rfl rfl rfl (rti_i rfl) rfl (fun qd_8 => ?_)
          refine x_bipush (pc2 := 56) (v := 24) C dX11_prune_54 rfl rfl ?_
          refine x_iload_n (pc2 := 57) C dX11_prune_56 3 rfl rfl rfl ?_
          refine x_imul (pc2 := 58) C dX11_prune_57 rfl ?_
          refine x_iload_n (pc2 := 59) C dX11_prune_58 0 rfl rfl rfl ?_
          refine x_iadd (pc2 := 60) C dX11_prune_59 rfl ?_
          rcases (Decidable.em (inB (((24 : Int32) * y1) + y3) 48)).symm with qg_9 | qg_9
          · exact absurd hq_6 (by rw [if_pos qc_7, if_neg qg_9]; exact nofun)
          refine x_iald (pc2 := 61) C (by assumption) dX11_prune_60 rfl (inB_in qg_9) rfl ?_
          refine x_aload_n (pc2 := 62) C dX11_prune_61 2 rfl rfl rfl ?_
          refine x_getR (f := 1121) (k2 := 2121) (pc2 := 65) C (by assumption) kf_11_70 dX11_prune_62 rfl rfl rfl (rti_i rfl) rfl (fun qd_10 => ?_)
          refine x_bipush (pc2 := 67) (v := 24) C dX11_prune_65 rfl rfl ?_
          refine x_iload_n (pc2 := 68) C dX11_prune_67 3 rfl rfl rfl ?_
          refine x_imul (pc2 := 69) C dX11_prune_68 rfl ?_
          refine x_aload_n (pc2 := 70) C dX11_prune_69 2 rfl rfl rfl ?_
          refine x_getR (f := 1110) (k2 := 2110) (pc2 := 73) C (by assumption) kf_11_37 dX11_prune_70 rfl rfl rfl (rti_i rfl) rfl (fun qd_11 => ?_)
          refine x_iload_n (pc2 := 74) C dX11_prune_73 3 rfl rfl rfl ?_
          rcases (Decidable.em (inB y1 2)).symm with qg_12 | qg_12
          · exact absurd hq_6 (by rw [if_pos qc_7, if_pos qg_9, if_neg qg_12]; exact nofun)
          refine x_iald (pc2 := 75) C (by assumption) dX11_prune_74 rfl (inB_in qg_12) rfl ?_
          refine x_iadd (pc2 := 76) C dX11_prune_75 rfl ?_
          rcases (Decidable.em (inB (((24 : Int32) * y1) + (xI Ω 2110 0 y1.toNatClampNeg)) 48)).symm with qg_13 | qg_13
          · exact absurd hq_6 (by rw [if_pos qc_7, if_pos qg_9, if_pos qg_12, if_neg qg_13]; exact nofun)
          refine x_iald (pc2 := 77) C (by assumption) dX11_prune_76 rfl (inB_in qg_13) rfl ?_
          refine x_icmp_ge (tgt := 84) (pc2 := 80) C dX11_prune_77 (by decide) rfl (fun qc_14 => ?_) (fun qc_14 => ?_)
          · refine x_iconst (pc2 := 85) (v := 0) C dX11_prune_84 rfl rfl ?_
            rw [if_pos qc_7, if_pos qg_9, if_pos qg_12, if_pos qg_13, if_pos qc_14] at hq_6
            obtain rfl := (Option.some.inj hq_6).symm
            exact x_sub (lv2 := [(0, _), (1, _), (2, _), (3, _)]) C [2, 3, 1, 0] rfl hj_6
          · refine x_iconst (pc2 := 81) (v := 1) C dX11_prune_80 rfl rfl ?_
            refine x_goto (tgt := 85) C dX11_prune_81 (by decide) ?_
            rw [if_pos qc_7, if_pos qg_9, if_pos qg_12, if_pos qg_13, if_neg qc_14] at hq_6
            obtain rfl := (Option.some.inj hq_6).symm
            exact x_sub (lv2 := [(0, _), (1, _), (2, _), (3, _)]) C [2, 3, 1, 0] rfl hj_6
      refine x_istore (pc2 := 87) (lv2 := [(4, _), (0, _), (1, _), (2, _), (3, _)]) C dX11_prune_85 (by decide) rfl rfl ?_
      refine x_aload_n (pc2 := 88) C dX11_prune_87 1 rfl rfl rfl ?_
      refine x_getR (f := 1126) (k2 := 2126) (pc2 := 91) C (by assumption) kf_11_86 dX11_prune_88 rfl rfl rfl (rti_i rfl) rfl (fun qd_15 => ?_)
      refine x_bipush (pc2 := 93) (v := 24) C dX11_prune_91 rfl rfl ?_
      refine x_iload_n (pc2 := 94) C dX11_prune_93 2 rfl rfl rfl ?_
      refine x_imul (pc2 := 95) C dX11_prune_94 rfl ?_
      refine x_iload_n (pc2 := 96) C dX11_prune_95 4 rfl rfl rfl ?_
      refine x_iadd (pc2 := 97) C dX11_prune_96 rfl ?_
      refine x_iload (pc2 := 99) C dX11_prune_97 0 rfl rfl ?_
      rcases opt_em ((if j_6 = 0 then (if inB (((24 : Int32) * y1) + y3) 48 then (some (xI Ω 2126 0 (((24 : Int32) * y1) + y3).toNatClampNeg)) else none) else (some (1 : Int32))) : Option (Int32)) with hq_16 | ⟨j_16, hq_16⟩
      · exact absurd hf (by rw [fX11_prune_l26, if_pos qg_2, if_neg qc_3, if_pos qg_5, ob_s hq_6, ob_n hq_16]; exact nofun)
      suffices hj_16 : XW G B 5 117 [(0, .ref (ad G 11 (0))), (1, .int (y1)), (2, .int (y2)), (3, .int (y3)), (4, .int (j_6))] [.int (j_16), .int (((24 : Int32) * y1) + y3), .ref (ad G 2126 (0))] Ω 0 0 by
        refine x_if_eq (tgt := 106) (pc2 := 102) C dX11_prune_99 (by decide) rfl (fun qc_17 => ?_) (fun qc_17 => ?_)
        · refine x_aload_n (pc2 := 107) C dX11_prune_106 1 rfl rfl rfl ?_
          refine x_getR (f := 1126) (k2 := 2126) (pc2 := 110) C (by assumption) kf_11_86 dX11_prune_107 rfl rfl rfl (rti_i rfl) rfl (fun qd_18 => ?_)
          refine x_bipush (pc2 := 112) (v := 24) C dX11_prune_110 rfl rfl ?_
          refine x_iload_n (pc2 := 113) C dX11_prune_112 2 rfl rfl rfl ?_
          refine x_imul (pc2 := 114) C dX11_prune_113 rfl ?_
          refine x_iload_n (pc2 := 115) C dX11_prune_114 4 rfl rfl rfl ?_
          refine x_iadd (pc2 := 116) C dX11_prune_115 rfl ?_
          rcases (Decidable.em (inB (((24 : Int32) * y1) + y3) 48)).symm with qg_19 | qg_19
          · exact absurd hq_16 (by rw [if_pos qc_17, if_neg qg_19]; exact nofun)
          refine x_iald (pc2 := 117) C (by assumption) dX11_prune_116 rfl (inB_in qg_19) rfl ?_
          rw [if_pos qc_17, if_pos qg_19] at hq_16
          obtain rfl := (Option.some.inj hq_16).symm
          exact x_sub (lv2 := [(0, _), (1, _), (2, _), (3, _), (4, _)]) C [1, 2, 3, 4, 0] rfl hj_16
        · refine x_iconst (pc2 := 103) (v := 1) C dX11_prune_102 rfl rfl ?_
          refine x_goto (tgt := 117) C dX11_prune_103 (by decide) ?_
          rw [if_neg qc_17] at hq_16
          obtain rfl := (Option.some.inj hq_16).symm
          exact x_sub (lv2 := [(0, _), (1, _), (2, _), (3, _), (4, _)]) C [1, 2, 3, 4, 0] rfl hj_16
      rcases (Decidable.em (inB (((24 : Int32) * y1) + y3) 48)).symm with qg_20 | qg_20
      · exact absurd hf (by rw [fX11_prune_l26, if_pos qg_2, if_neg qc_3, if_pos qg_5, ob_s hq_6, ob_s hq_16, if_neg qg_20]; exact nofun)
      refine x_iast (pc2 := 118) C (by assumption) dX11_prune_117 rfl (inB_in qg_20) rfl ?_
      obtain ⟨Ω_21, hw_21⟩ : ∃ z, z = uI Ω 2126 0 (((24 : Int32) * y1) + y3).toNatClampNeg j_16 := ⟨_, rfl⟩
      refine x_om hw_21 ?_
      refine x_iload_n (pc2 := 119) C dX11_prune_118 2 rfl rfl rfl ?_
      refine x_iload (pc2 := 121) C dX11_prune_119 4 rfl rfl ?_
      obtain ⟨j_22, hq_22⟩ : ∃ z : Int32, z = (if j_6 = 0 then (0 : Int32) else (1 : Int32)) := ⟨_, rfl⟩
      suffices hj_22 : XW G B 5 129 [(0, .ref (ad G 11 (0))), (1, .int (y1)), (3, .int (y3))] [.int (j_22), .int (y2)] Ω_21 0 0 by
        refine x_if_eq (tgt := 128) (pc2 := 124) C dX11_prune_121 (by decide) rfl (fun qc_23 => ?_) (fun qc_23 => ?_)
        · refine x_iconst (pc2 := 129) (v := 0) C dX11_prune_128 rfl rfl ?_
          rw [if_pos qc_23] at hq_22
          subst hq_22
          exact x_sub (lv2 := [(0, _), (1, _), (3, _)]) C [0, 1, 3] rfl hj_22
        · refine x_iconst (pc2 := 125) (v := 1) C dX11_prune_124 rfl rfl ?_
          refine x_goto (tgt := 129) C dX11_prune_125 (by decide) ?_
          rw [if_neg qc_23] at hq_22
          subst hq_22
          exact x_sub (lv2 := [(0, _), (1, _), (3, _)]) C [0, 1, 3] rfl hj_22
      refine x_iadd (pc2 := 130) C dX11_prune_129 rfl ?_
      refine x_istore_n (pc2 := 131) (lv2 := [(2, _), (0, _), (1, _), (3, _)]) C dX11_prune_130 rfl (by decide) rfl rfl ?_
      refine x_iinc (pc2 := 134) (v := y3 + 1) (lv2 := [(3, _), (2, _), (0, _), (1, _)]) C dX11_prune_131 3 rfl rfl (by decide) rfl rfl ?_
      refine x_goto (tgt := 26) C dX11_prune_134 (by decide) ?_
      exact x_sub (lv2 := [(3, _), (2, _), (0, _), (1, _)]) C [0, 1, 2, 3] rfl (ih (y3 + 1) (y2 + j_22) Ω_21 (by rw [fX11_prune_l26, if_pos qg_2, if_neg qc_3, if_pos qg_5, ob_s hq_6, ob_s hq_16, if_pos qg_20, wl_eq hw_21, wl_eq hq_22] at hf; exact hf) hk)
def fX11_prune (Ω : XO) (x1 : Int32) : Option (Int32 × XO) := (fX11_isChain Ω x1).bind (fun r_1 => (wl ((if r_1 = 0 then (1 : Int32) else (0 : Int32))) (fun (j_2 : Int32) => (fX11_holds Ω j_2).bind (fun r_4 => (if r_4.1 = 0 then (fX11_prune_l26 x1 ((xI r_4.2 2109 0 x1.toNatClampNeg).toNatClampNeg + 1) (0 : Int32) (0 : Int32) r_4.2).bind (fun q_6 => (some (q_6.2.1, q_6.2.2))) else (some ((-1 : Int32), r_4.2)))))))
set_option maxRecDepth 20000 in
theorem tX11_prune {G : XG} (hok : XK G) {x1 : Int32} {Ω : XO} (hd0 : dm G 11 0)   {r : Int32 × XO} (hf : fX11_prune Ω x1 = some r) : XM G yX11_prune cX11_prune 5 ((some FieldType.int)) (RM 2 0) [.ref (ad G 11 0), .int x1] Ω (.inl (some (.int (r.1)))) r.2 := by
  refine x_start (lv := [(0, .ref (ad G 11 0)), (1, .int x1)]) (own := RX11) hok (by decide +kernel) rfl (Nat.le_of_ble_eq_true rfl) rfl (fun B C => ?_)
  refine x_aload_n (pc2 := 1) C dX11_prune_0 0 rfl rfl rfl ?_
  refine x_aload_n (pc2 := 2) C dX11_prune_1 0 rfl rfl rfl ?_
  refine x_iload_n (pc2 := 3) C dX11_prune_2 1 rfl rfl rfl ?_
  rcases opt_em (fX11_isChain Ω x1) with hq_1 | ⟨r_1, hq_1⟩
  · exact absurd hf (by rw [fX11_prune, ob_n hq_1]; exact nofun)
  refine x_ret (rest := [_]) (st2 := [_, _]) (pc2 := 6) (cu2 := 0) (su2 := 0) (x_cV C (by assumption) (Nat.le_of_ble_eq_true rfl) kmX11_isChain rfl kk_11_182 (tX11_isChain hok (by assumption)  hq_1) rfl rfl (Nat.le_of_ble_eq_true rfl) ⟨Nat.le_of_ble_eq_true rfl, Nat.le_of_ble_eq_true rfl⟩ ⟨Nat.le_of_ble_eq_true rfl, Nat.le_of_ble_eq_true rfl⟩ dX11_prune_3) rfl rfl rfl rfl ?_
  obtain ⟨j_2, hq_2⟩ : ∃ z : Int32, z = (if r_1 = 0 then (1 : Int32) else (0 : Int32)) := ⟨_, rfl⟩
  suffices hj_2 : XW G B 5 14 [(0, .ref (ad G 11 (0))), (1, .int (x1))] [.int (j_2), .ref (ad G 11 (0))] Ω 0 0 by
    refine x_if_eq (tgt := 13) (pc2 := 9) C dX11_prune_6 (by decide) rfl (fun qc_3 => ?_) (fun qc_3 => ?_)
    · refine x_iconst (pc2 := 14) (v := 1) C dX11_prune_13 rfl rfl ?_
      rw [if_pos qc_3] at hq_2
      subst hq_2
      exact x_sub (lv2 := [(0, _), (1, _)]) C [0, 1] rfl hj_2
    · refine x_iconst (pc2 := 10) (v := 0) C dX11_prune_9 rfl rfl ?_
      refine x_goto (tgt := 14) C dX11_prune_10 (by decide) ?_
      rw [if_neg qc_3] at hq_2
      subst hq_2
      exact x_sub (lv2 := [(0, _), (1, _)]) C [0, 1] rfl hj_2
  rcases opt_em (fX11_holds Ω j_2) with hq_4 | ⟨r_4, hq_4⟩
  · exact absurd hf (by rw [fX11_prune, ob_s hq_1, wl_eq hq_2, ob_n hq_4]; exact nofun)
  refine x_ret (rest := []) (st2 := [_]) (pc2 := 17) (cu2 := 0) (su2 := 0) (x_cV C (by assumption) (Nat.le_of_ble_eq_true rfl) kmX11_holds rfl kk_11_214 (tX11_holds hok (by assumption)  hq_4) rfl rfl (Nat.le_of_ble_eq_true rfl) ⟨Nat.le_of_ble_eq_true rfl, Nat.le_of_ble_eq_true rfl⟩ ⟨Nat.le_of_ble_eq_true rfl, Nat.le_of_ble_eq_true rfl⟩ dX11_prune_14) rfl rfl rfl rfl ?_
  refine x_if_eq (tgt := 22) (pc2 := 20) C dX11_prune_17 (by decide) rfl (fun qc_5 => ?_) (fun qc_5 => ?_)
  · refine x_iconst (pc2 := 23) (v := 0) C dX11_prune_22 rfl rfl ?_
    refine x_istore_n (pc2 := 24) (lv2 := [(2, _), (0, _), (1, _)]) C dX11_prune_23 rfl (by decide) rfl rfl ?_
    refine x_iconst (pc2 := 25) (v := 0) C dX11_prune_24 rfl rfl ?_
    refine x_istore_n (pc2 := 26) (lv2 := [(3, _), (2, _), (0, _), (1, _)]) C dX11_prune_25 rfl (by decide) rfl rfl ?_
    rcases opt_em (fX11_prune_l26 x1 ((xI r_4.2 2109 0 x1.toNatClampNeg).toNatClampNeg + 1) (0 : Int32) (0 : Int32) r_4.2) with hq_6 | ⟨q_6, hq_6⟩
    · exact absurd hf (by rw [fX11_prune, ob_s hq_1, wl_eq hq_2, ob_s hq_4, if_pos qc_5, ob_n hq_6]; exact nofun)
    refine x_sub (lv2 := [(3, _), (2, _), (0, _), (1, _)]) C [0, 1, 2, 3] rfl (lX11_prune_l26 hok (by assumption) C ((xI r_4.2 2109 0 x1.toNatClampNeg).toNatClampNeg + 1) (0 : Int32) (0 : Int32) r_4.2 hq_6 (fun q9 h9 => ?_))
    cases h9
    refine x_iload_n (pc2 := 138) C dX11_prune_137 0 rfl rfl rfl ?_
    rw [fX11_prune, ob_s hq_1, wl_eq hq_2, ob_s hq_4, if_pos qc_5, ob_s hq_6] at hf
    obtain rfl := (Option.some.inj hf).symm
    exact x_ireturn C dX11_prune_138 rfl (Nat.le_of_ble_eq_true rfl) (Nat.le_of_ble_eq_true rfl) rfl rfl
  · refine x_iconst (pc2 := 21) (v := (-1)) C dX11_prune_20 rfl rfl ?_
    rw [fX11_prune, ob_s hq_1, wl_eq hq_2, ob_s hq_4, if_neg qc_5] at hf
    obtain rfl := (Option.some.inj hf).symm
    exact x_ireturn C dX11_prune_21 rfl (Nat.le_of_ble_eq_true rfl) (Nat.le_of_ble_eq_true rfl) rfl rfl
def fX11_surrounds (Ω : XO) (x1 : Int32) (x2 : Int32) (x3 : Int32) (x4 : Int32) (x5 : Int32) : Option (Int32) := (if inB (((24 : Int32) * x1) + x2) 48 then (if inB (((24 : Int32) * x1) + x4) 48 then (((if (xI Ω 2121 0 (((24 : Int32) * x1) + x4).toNatClampNeg) ≤ (xI Ω 2121 0 (((24 : Int32) * x1) + x2).toNatClampNeg) then (some (0 : Int32)) else (if inB (((24 : Int32) * x1) + x3) 48 then (if inB (((24 : Int32) * x1) + x5) 48 then (if (xI Ω 2121 0 (((24 : Int32) * x1) + x3).toNatClampNeg) ≤ (xI Ω 2121 0 (((24 : Int32) * x1) + x5).toNatClampNeg) then (some (0 : Int32)) else (some (1 : Int32))) else none) else none)) : Option (Int32))).bind (fun j_5 => (if j_5 = 0 ∨ j_5 = 1 then (some j_5) else none)) else none) else none)
set_option maxRecDepth 20000 in
theorem tX11_surrounds {G : XG} (hok : XK G) {x1 : Int32} {x2 : Int32} {x3 : Int32} {x4 : Int32} {x5 : Int32} {Ω : XO} (hd0 : dm G 11 0)   {r : Int32} (hf : fX11_surrounds Ω x1 x2 x3 x4 x5 = some r) : XM G yX11_surrounds cX11_surrounds 6 ((some FieldType.boolean)) (RM 0 0) [.ref (ad G 11 0), .int x1, .int x2, .int x3, .int x4, .int x5] Ω (.inl (some (.int (r)))) Ω := by
  refine x_start (lv := [(0, .ref (ad G 11 0)), (1, .int x1), (2, .int x2), (3, .int x3), (4, .int x4), (5, .int x5)]) (own := RX11) hok (by decide +kernel) rfl (Nat.le_of_ble_eq_true rfl) rfl (fun B C => ?_)
  refine x_aload_n (pc2 := 1) C dX11_surrounds_0 0 rfl rfl rfl ?_
  refine x_getR (f := 1121) (k2 := 2121) (pc2 := 4) C (by assumption) kf_11_70 dX11_surrounds_1 rfl rfl rfl (rti_i rfl) rfl (fun qd_1 => ?_)
  refine x_bipush (pc2 := 6) (v := 24) C dX11_surrounds_4 rfl rfl ?_
  refine x_iload_n (pc2 := 7) C dX11_surrounds_6 1 rfl rfl rfl ?_
  refine x_imul (pc2 := 8) C dX11_surrounds_7 rfl ?_
  refine x_iload_n (pc2 := 9) C dX11_surrounds_8 2 rfl rfl rfl ?_
  refine x_iadd (pc2 := 10) C dX11_surrounds_9 rfl ?_
  rcases (Decidable.em (inB (((24 : Int32) * x1) + x2) 48)).symm with qg_2 | qg_2
  · exact absurd hf (by rw [fX11_surrounds, if_neg qg_2]; exact nofun)
  refine x_iald (pc2 := 11) C (by assumption) dX11_surrounds_10 rfl (inB_in qg_2) rfl ?_
  refine x_aload_n (pc2 := 12) C dX11_surrounds_11 0 rfl rfl rfl ?_
  refine x_getR (f := 1121) (k2 := 2121) (pc2 := 15) C (by assumption) kf_11_70 dX11_surrounds_12 rfl rfl rfl (rti_i rfl) rfl (fun qd_3 => ?_)
  refine x_bipush (pc2 := 17) (v := 24) C dX11_surrounds_15 rfl rfl ?_
  refine x_iload_n (pc2 := 18) C dX11_surrounds_17 1 rfl rfl rfl ?_
  refine x_imul (pc2 := 19) C dX11_surrounds_18 rfl ?_
  refine x_iload (pc2 := 21) C dX11_surrounds_19 4 rfl rfl ?_
  refine x_iadd (pc2 := 22) C dX11_surrounds_21 rfl ?_
  rcases (Decidable.em (inB (((24 : Int32) * x1) + x4) 48)).symm with qg_4 | qg_4
  · exact absurd hf (by rw [fX11_surrounds, if_pos qg_2, if_neg qg_4]; exact nofun)
  refine x_iald (pc2 := 23) C (by assumption) dX11_surrounds_22 rfl (inB_in qg_4) rfl ?_
  rcases opt_em ((if (xI Ω 2121 0 (((24 : Int32) * x1) + x4).toNatClampNeg) ≤ (xI Ω 2121 0 (((24 : Int32) * x1) + x2).toNatClampNeg) then (some (0 : Int32)) else (if inB (((24 : Int32) * x1) + x3) 48 then (if inB (((24 : Int32) * x1) + x5) 48 then (if (xI Ω 2121 0 (((24 : Int32) * x1) + x3).toNatClampNeg) ≤ (xI Ω 2121 0 (((24 : Int32) * x1) + x5).toNatClampNeg) then (some (0 : Int32)) else (some (1 : Int32))) else none) else none)) : Option (Int32)) with hq_5 | ⟨j_5, hq_5⟩
  · exact absurd hf (by rw [fX11_surrounds, if_pos qg_2, if_pos qg_4, ob_n hq_5]; exact nofun)
  suffices hj_5 : XW G B 6 57 [] [.int (j_5)] Ω 0 0 by
    refine x_icmp_ge (tgt := 56) (pc2 := 26) C dX11_surrounds_23 (by decide) rfl (fun qc_6 => ?_) (fun qc_6 => ?_)
    · refine x_iconst (pc2 := 57) (v := 0) C dX11_surrounds_56 rfl rfl ?_
      rw [if_pos qc_6] at hq_5
      obtain rfl := (Option.some.inj hq_5).symm
      exact x_sub (lv2 := []) C [] rfl hj_5
    · refine x_aload_n (pc2 := 27) C dX11_surrounds_26 0 rfl rfl rfl ?_
      refine x_getR (f := 1121) (k2 := 2121) (pc2 := 30) C (by assumption) kf_11_70 dX11_surrounds_27 rfl rfl rfl (rti_i rfl) rfl (fun qd_7 => ?_)
      refine x_bipush (pc2 := 32) (v := 24) C dX11_surrounds_30 rfl rfl ?_
      refine x_iload_n (pc2 := 33) C dX11_surrounds_32 1 rfl rfl rfl ?_
      refine x_imul (pc2 := 34) C dX11_surrounds_33 rfl ?_
      refine x_iload_n (pc2 := 35) C dX11_surrounds_34 3 rfl rfl rfl ?_
      refine x_iadd (pc2 := 36) C dX11_surrounds_35 rfl ?_
      rcases (Decidable.em (inB (((24 : Int32) * x1) + x3) 48)).symm with qg_8 | qg_8
      · exact absurd hq_5 (by rw [if_neg qc_6, if_neg qg_8]; exact nofun)
      refine x_iald (pc2 := 37) C (by assumption) dX11_surrounds_36 rfl (inB_in qg_8) rfl ?_
      refine x_aload_n (pc2 := 38) C dX11_surrounds_37 0 rfl rfl rfl ?_
      refine x_getR (f := 1121) (k2 := 2121) (pc2 := 41) C (by assumption) kf_11_70 dX11_surrounds_38 rfl rfl rfl (rti_i rfl) rfl (fun qd_9 => ?_)
      refine x_bipush (pc2 := 43) (v := 24) C dX11_surrounds_41 rfl rfl ?_
      refine x_iload_n (pc2 := 44) C dX11_surrounds_43 1 rfl rfl rfl ?_
      refine x_imul (pc2 := 45) C dX11_surrounds_44 rfl ?_
      refine x_iload (pc2 := 47) C dX11_surrounds_45 5 rfl rfl ?_
      refine x_iadd (pc2 := 48) C dX11_surrounds_47 rfl ?_
      rcases (Decidable.em (inB (((24 : Int32) * x1) + x5) 48)).symm with qg_10 | qg_10
      · exact absurd hq_5 (by rw [if_neg qc_6, if_pos qg_8, if_neg qg_10]; exact nofun)
      refine x_iald (pc2 := 49) C (by assumption) dX11_surrounds_48 rfl (inB_in qg_10) rfl ?_
      refine x_icmp_le (tgt := 56) (pc2 := 52) C dX11_surrounds_49 (by decide) rfl (fun qc_11 => ?_) (fun qc_11 => ?_)
      · refine x_iconst (pc2 := 57) (v := 0) C dX11_surrounds_56 rfl rfl ?_
        rw [if_neg qc_6, if_pos qg_8, if_pos qg_10, if_pos qc_11] at hq_5
        obtain rfl := (Option.some.inj hq_5).symm
        exact x_sub (lv2 := []) C [] rfl hj_5
      · refine x_iconst (pc2 := 53) (v := 1) C dX11_surrounds_52 rfl rfl ?_
        refine x_goto (tgt := 57) C dX11_surrounds_53 (by decide) ?_
        rw [if_neg qc_6, if_pos qg_8, if_pos qg_10, if_neg qc_11] at hq_5
        obtain rfl := (Option.some.inj hq_5).symm
        exact x_sub (lv2 := []) C [] rfl hj_5
  rcases (Decidable.em (j_5 = 0 ∨ j_5 = 1)).symm with qg_12 | qg_12
  · exact absurd hf (by rw [fX11_surrounds, if_pos qg_2, if_pos qg_4, ob_s hq_5, if_neg qg_12]; exact nofun)
  rw [fX11_surrounds, if_pos qg_2, if_pos qg_4, ob_s hq_5, if_pos qg_12] at hf
  obtain rfl := (Option.some.inj hf).symm
  exact x_zreturn C dX11_surrounds_57 rfl qg_12 (Nat.le_of_ble_eq_true rfl) (Nat.le_of_ble_eq_true rfl) rfl rfl
def fX11_behind_l18 (Ω : XO) (y5 : Int32) (y4 : Int32) (y1 : Int32) (y2 : Int32) (y3 : Int32) : Nat → Int32 → Int32 → Option (Int32 × Int32)
  | 0, _, _ => none
  | n + 1, y7, y6 => (if inB (((4 : Int32) * y1) + y5) 8 then (if (xI Ω 2138 0 (((4 : Int32) * y1) + y5).toNatClampNeg) ≤ y7 then (some (y7, y6)) else (if inB (((20 : Int32) * (((4 : Int32) * y1) + y5)) + y7) 160 then (((if (xI Ω 2137 0 (((20 : Int32) * (((4 : Int32) * y1) + y5)) + y7).toNatClampNeg) = (1 : Int32) then (if inB (((20 : Int32) * (((4 : Int32) * y1) + y5)) + y7) 160 then (if (xI Ω 2135 0 (((20 : Int32) * (((4 : Int32) * y1) + y5)) + y7).toNatClampNeg) = y2 then (if inB (((20 : Int32) * (((4 : Int32) * y1) + y5)) + y7) 160 then (if (xI Ω 2136 0 (((20 : Int32) * (((4 : Int32) * y1) + y5)) + y7).toNatClampNeg) = y3 then (some (1 : Int32)) else (some (0 : Int32))) else none) else (some (0 : Int32))) else none) else (some (0 : Int32))) : Option (Int32))).bind (fun j_6 => fX11_behind_l18 Ω y5 y4 y1 y2 y3 n (y7 + 1) (y6 ||| j_6)) else none)) else none)
set_option maxRecDepth 20000 in
theorem lX11_behind_l18 {G : XG} (hok : XK G) {B : XB} {y5 : Int32} {y4 : Int32} {y1 : Int32} {y2 : Int32} {y3 : Int32} {Ω : XO} (hf0 : dm G 11 0)   {T : Option Value ⊕ String} {Ω9 : XO} (C : XC G B cX11_behind RX11 (RM 0 0) 9 ((some FieldType.int)) T Ω9) : ∀ (n : Nat) (y7 : Int32) (y6 : Int32) {r : (Int32 × Int32)}, fX11_behind_l18 Ω y5 y4 y1 y2 y3 n y7 y6 = some r → (∀ q, r = q → (XW G B 9 97 [(6, .int (q.2)), (5, .int (y5)), (4, .int (y4)), (0, .ref (ad G 11 (0))), (1, .int (y1)), (2, .int (y2)), (3, .int (y3))] [] Ω 0 0)) → XW G B 9 18 [(7, .int (y7)), (6, .int (y6)), (5, .int (y5)), (4, .int (y4)), (0, .ref (ad G 11 (0))), (1, .int (y1)), (2, .int (y2)), (3, .int (y3))] [] Ω 0 0 := by
  intro n
  induction n with
  | zero => intro y7 y6 r hf; exact absurd hf (by rw [fX11_behind_l18]; exact nofun)
  | succ n ih =>
    intro y7 y6 r hf hk
    refine x_iload (pc2 := 20) C dX11_behind_18 0 rfl rfl ?_
    refine x_aload_n (pc2 := 21) C dX11_behind_20 4 rfl rfl rfl ?_
    refine x_getR (f := 1138) (k2 := 2138) (pc2 := 24) C (by assumption) kf_11_122 dX11_behind_21 rfl rfl rfl (rti_i rfl) rfl (fun qd_1 => ?_)
    refine x_iconst (pc2 := 25) (v := 4) C dX11_behind_24 rfl rfl ?_
    refine x_iload_n (pc2 := 26) C dX11_behind_25 5 rfl rfl rfl ?_
    refine x_imul (pc2 := 27) C dX11_behind_26 rfl ?_
    refine x_iload (pc2 := 29) C dX11_behind_27 2 rfl rfl ?_
    refine x_iadd (pc2 := 30) C dX11_behind_29 rfl ?_
    rcases (Decidable.em (inB (((4 : Int32) * y1) + y5) 8)).symm with qg_2 | qg_2
    · exact absurd hf (by rw [fX11_behind_l18, if_neg qg_2]; exact nofun)
    refine x_iald (pc2 := 31) C (by assumption) dX11_behind_30 rfl (inB_in qg_2) rfl ?_
    refine x_icmp_ge (tgt := 97) (pc2 := 34) C dX11_behind_31 (by decide) rfl (fun qc_3 => ?_) (fun qc_3 => ?_)
    · rw [fX11_behind_l18, if_pos qg_2, if_pos qc_3] at hf
      exact x_sub (lv2 := [(6, _), (5, _), (4, _), (0, _), (1, _), (2, _), (3, _)]) C [1, 2, 3, 4, 5, 6, 7] rfl (hk _ (Option.some.inj hf).symm)
    · refine x_bipush (pc2 := 36) (v := 20) C dX11_behind_34 rfl rfl ?_
      refine x_iconst (pc2 := 37) (v := 4) C dX11_behind_36 rfl rfl ?_
      refine x_iload_n (pc2 := 38) C dX11_behind_37 5 rfl rfl rfl ?_
      refine x_imul (pc2 := 39) C dX11_behind_38 rfl ?_
      refine x_iload (pc2 := 41) C dX11_behind_39 2 rfl rfl ?_
      refine x_iadd (pc2 := 42) C dX11_behind_41 rfl ?_
      refine x_imul (pc2 := 43) C dX11_behind_42 rfl ?_
      refine x_iload (pc2 := 45) C dX11_behind_43 0 rfl rfl ?_
      refine x_iadd (pc2 := 46) C dX11_behind_45 rfl ?_
      refine x_istore (pc2 := 48) (lv2 := [(8, _), (7, _), (6, _), (5, _), (4, _), (0, _), (1, _), (2, _), (3, _)]) C dX11_behind_46 (by decide) rfl rfl ?_
      refine x_iload (pc2 := 50) C dX11_behind_48 2 rfl rfl ?_
      refine x_aload_n (pc2 := 51) C dX11_behind_50 5 rfl rfl rfl ?_
      refine x_getR (f := 1137) (k2 := 2137) (pc2 := 54) C (by assumption) kf_11_119 dX11_behind_51 rfl rfl rfl (rti_i rfl) rfl (fun qd_4 => ?_)
      refine x_iload (pc2 := 56) C dX11_behind_54 0 rfl rfl ?_
      rcases (Decidable.em (inB (((20 : Int32) * (((4 : Int32) * y1) + y5)) + y7) 160)).symm with qg_5 | qg_5
      · exact absurd hf (by rw [fX11_behind_l18, if_pos qg_2, if_neg qc_3, if_neg qg_5]; exact nofun)
      refine x_iald (pc2 := 57) C (by assumption) dX11_behind_56 rfl (inB_in qg_5) rfl ?_
      refine x_iconst (pc2 := 58) (v := 1) C dX11_behind_57 rfl rfl ?_
      rcases opt_em ((if (xI Ω 2137 0 (((20 : Int32) * (((4 : Int32) * y1) + y5)) + y7).toNatClampNeg) = (1 : Int32) then (if inB (((20 : Int32) * (((4 : Int32) * y1) + y5)) + y7) 160 then (if (xI Ω 2135 0 (((20 : Int32) * (((4 : Int32) * y1) + y5)) + y7).toNatClampNeg) = y2 then (if inB (((20 : Int32) * (((4 : Int32) * y1) + y5)) + y7) 160 then (if (xI Ω 2136 0 (((20 : Int32) * (((4 : Int32) * y1) + y5)) + y7).toNatClampNeg) = y3 then (some (1 : Int32)) else (some (0 : Int32))) else none) else (some (0 : Int32))) else none) else (some (0 : Int32))) : Option (Int32)) with hq_6 | ⟨j_6, hq_6⟩
      · exact absurd hf (by rw [fX11_behind_l18, if_pos qg_2, if_neg qc_3, if_pos qg_5, ob_n hq_6]; exact nofun)
      suffices hj_6 : XW G B 9 88 [(0, .ref (ad G 11 (0))), (1, .int (y1)), (2, .int (y2)), (3, .int (y3)), (4, .int (y4)), (5, .int (y5)), (7, .int (y7))] [.int (j_6), .int (y6)] Ω 0 0 by
        refine x_icmp_ne (tgt := 87) (pc2 := 61) C dX11_behind_58 (by decide) rfl (fun qc_7 => ?_) (fun qc_7 => ?_)
        · refine x_iconst (pc2 := 88) (v := 0) C dX11_behind_87 rfl rfl ?_
          rw [if_neg qc_7] at hq_6
          obtain rfl := (Option.some.inj hq_6).symm
          exact x_sub (lv2 := [(0, _), (1, _), (2, _), (3, _), (4, _), (5, _), (7, _)]) C [5, 6, 7, 8, 4, 3, 1] rfl hj_6
        · refine x_aload_n (pc2 := 62) C dX11_behind_61 5 rfl rfl rfl ?_
          refine x_getR (f := 1135) (k2 := 2135) (pc2 := 65) C (by assumption) kf_11_113 dX11_behind_62 rfl rfl rfl (rti_i rfl) rfl (fun qd_8 => ?_)
          refine x_iload (pc2 := 67) C dX11_behind_65 0 rfl rfl ?_
          rcases (Decidable.em (inB (((20 : Int32) * (((4 : Int32) * y1) + y5)) + y7) 160)).symm with qg_9 | qg_9
          · exact absurd hq_6 (by rw [if_pos qc_7, if_neg qg_9]; exact nofun)
          refine x_iald (pc2 := 68) C (by assumption) dX11_behind_67 rfl (inB_in qg_9) rfl ?_
          refine x_iload_n (pc2 := 69) C dX11_behind_68 7 rfl rfl rfl ?_
          refine x_icmp_ne (tgt := 87) (pc2 := 72) C dX11_behind_69 (by decide) rfl (fun qc_10 => ?_) (fun qc_10 => ?_)
          · refine x_iconst (pc2 := 88) (v := 0) C dX11_behind_87 rfl rfl ?_
            rw [if_pos qc_7, if_pos qg_9, if_neg qc_10] at hq_6
            obtain rfl := (Option.some.inj hq_6).symm
            exact x_sub (lv2 := [(0, _), (1, _), (2, _), (3, _), (4, _), (5, _), (7, _)]) C [5, 6, 7, 8, 4, 3, 1] rfl hj_6
          · refine x_aload_n (pc2 := 73) C dX11_behind_72 5 rfl rfl rfl ?_
            refine x_getR (f := 1136) (k2 := 2136) (pc2 := 76) C (by assumption) kf_11_116 dX11_behind_73 rfl rfl rfl (rti_i rfl) rfl (fun qd_11 => ?_)
            refine x_iload (pc2 := 78) C dX11_behind_76 0 rfl rfl ?_
            rcases (Decidable.em (inB (((20 : Int32) * (((4 : Int32) * y1) + y5)) + y7) 160)).symm with qg_12 | qg_12
            · exact absurd hq_6 (by rw [if_pos qc_7, if_pos qg_9, if_pos qc_10, if_neg qg_12]; exact nofun)
            refine x_iald (pc2 := 79) C (by assumption) dX11_behind_78 rfl (inB_in qg_12) rfl ?_
            refine x_iload_n (pc2 := 80) C dX11_behind_79 8 rfl rfl rfl ?_
            refine x_icmp_ne (tgt := 87) (pc2 := 83) C dX11_behind_80 (by decide) rfl (fun qc_13 => ?_) (fun qc_13 => ?_)
            · refine x_iconst (pc2 := 88) (v := 0) C dX11_behind_87 rfl rfl ?_
              rw [if_pos qc_7, if_pos qg_9, if_pos qc_10, if_pos qg_12, if_neg qc_13] at hq_6
              obtain rfl := (Option.some.inj hq_6).symm
              exact x_sub (lv2 := [(0, _), (1, _), (2, _), (3, _), (4, _), (5, _), (7, _)]) C [5, 6, 7, 8, 4, 3, 1] rfl hj_6
            · refine x_iconst (pc2 := 84) (v := 1) C dX11_behind_83 rfl rfl ?_
              refine x_goto (tgt := 88) C dX11_behind_84 (by decide) ?_
              rw [if_pos qc_7, if_pos qg_9, if_pos qc_10, if_pos qg_12, if_pos qc_13] at hq_6
              obtain rfl := (Option.some.inj hq_6).symm
              exact x_sub (lv2 := [(0, _), (1, _), (2, _), (3, _), (4, _), (5, _), (7, _)]) C [5, 6, 7, 8, 4, 3, 1] rfl hj_6
      refine x_ior (pc2 := 89) C dX11_behind_88 rfl ?_
      refine x_istore (pc2 := 91) (lv2 := [(6, _), (0, _), (1, _), (2, _), (3, _), (4, _), (5, _), (7, _)]) C dX11_behind_89 (by decide) rfl rfl ?_
      refine x_iinc (pc2 := 94) (v := y7 + 1) (lv2 := [(7, _), (6, _), (0, _), (1, _), (2, _), (3, _), (4, _), (5, _)]) C dX11_behind_91 7 rfl rfl (by decide) rfl rfl ?_
      refine x_goto (tgt := 18) C dX11_behind_94 (by decide) ?_
      exact x_sub (lv2 := [(7, _), (6, _), (5, _), (4, _), (0, _), (1, _), (2, _), (3, _)]) C [0, 1, 7, 6, 2, 3, 4, 5] rfl (ih (y7 + 1) (y6 ||| j_6) (by rw [fX11_behind_l18, if_pos qg_2, if_neg qc_3, if_pos qg_5, ob_s hq_6] at hf; exact hf) hk)
def fX11_behind_l6 (Ω : XO) (y1 : Int32) (y2 : Int32) (y3 : Int32) : Nat → Int32 → Int32 → Option (Int32 × Int32)
  | 0, _, _ => none
  | n + 1, y5, y4 => (if (4 : Int32) ≤ y5 then (some (y5, y4)) else (fX11_behind_l18 Ω y5 y4 y1 y2 y3 ((xI Ω 2138 0 (((4 : Int32) * y1) + y5).toNatClampNeg).toNatClampNeg + 1) (0 : Int32) (0 : Int32)).bind (fun q_2 => (((if q_2.2 = 0 then (some (0 : Int32)) else (if inB (((4 : Int32) * y1) + y5) 8 then (some (xI Ω 2139 0 (((4 : Int32) * y1) + y5).toNatClampNeg)) else none)) : Option (Int32))).bind (fun j_3 => fX11_behind_l6 Ω y1 y2 y3 n (y5 + 1) (y4 + j_3))))
set_option maxRecDepth 20000 in
theorem lX11_behind_l6 {G : XG} (hok : XK G) {B : XB} {y1 : Int32} {y2 : Int32} {y3 : Int32} {Ω : XO} (hf0 : dm G 11 0)   {T : Option Value ⊕ String} {Ω9 : XO} (C : XC G B cX11_behind RX11 (RM 0 0) 9 ((some FieldType.int)) T Ω9) : ∀ (n : Nat) (y5 : Int32) (y4 : Int32) {r : (Int32 × Int32)}, fX11_behind_l6 Ω y1 y2 y3 n y5 y4 = some r → (∀ q, r = q → (XW G B 9 128 [(4, .int (q.2))] [] Ω 0 0)) → XW G B 9 6 [(5, .int (y5)), (4, .int (y4)), (0, .ref (ad G 11 (0))), (1, .int (y1)), (2, .int (y2)), (3, .int (y3))] [] Ω 0 0 := by
  intro n
  induction n with
  | zero => intro y5 y4 r hf; exact absurd hf (by rw [fX11_behind_l6]; exact nofun)
  | succ n ih =>
    intro y5 y4 r hf hk
    refine x_iload (pc2 := 8) C dX11_behind_6 0 rfl rfl ?_
    refine x_iconst (pc2 := 9) (v := 4) C dX11_behind_8 rfl rfl ?_
    refine x_icmp_ge (tgt := 128) (pc2 := 12) C dX11_behind_9 (by decide) rfl (fun qc_1 => ?_) (fun qc_1 => ?_)
    · rw [fX11_behind_l6, if_pos qc_1] at hf
      exact x_sub (lv2 := [(4, _)]) C [1] rfl (hk _ (Option.some.inj hf).symm)
    · refine x_iconst (pc2 := 13) (v := 0) C dX11_behind_12 rfl rfl ?_
      refine x_istore (pc2 := 15) (lv2 := [(6, _), (5, _), (4, _), (0, _), (1, _), (2, _), (3, _)]) C dX11_behind_13 (by decide) rfl rfl ?_
      refine x_iconst (pc2 := 16) (v := 0) C dX11_behind_15 rfl rfl ?_
      refine x_istore (pc2 := 18) (lv2 := [(7, _), (6, _), (5, _), (4, _), (0, _), (1, _), (2, _), (3, _)]) C dX11_behind_16 (by decide) rfl rfl ?_
      rcases opt_em (fX11_behind_l18 Ω y5 y4 y1 y2 y3 ((xI Ω 2138 0 (((4 : Int32) * y1) + y5).toNatClampNeg).toNatClampNeg + 1) (0 : Int32) (0 : Int32)) with hq_2 | ⟨q_2, hq_2⟩
      · exact absurd hf (by rw [fX11_behind_l6, if_neg qc_1, ob_n hq_2]; exact nofun)
      refine x_sub (lv2 := [(7, _), (6, _), (5, _), (4, _), (0, _), (1, _), (2, _), (3, _)]) C [0, 1, 2, 3, 4, 5, 6, 7] rfl (lX11_behind_l18 hok (by assumption) C ((xI Ω 2138 0 (((4 : Int32) * y1) + y5).toNatClampNeg).toNatClampNeg + 1) (0 : Int32) (0 : Int32) hq_2 (fun q9 h9 => ?_))
      cases h9
      refine x_iload (pc2 := 99) C dX11_behind_97 2 rfl rfl ?_
      refine x_iload (pc2 := 101) C dX11_behind_99 0 rfl rfl ?_
      rcases opt_em ((if q_2.2 = 0 then (some (0 : Int32)) else (if inB (((4 : Int32) * y1) + y5) 8 then (some (xI Ω 2139 0 (((4 : Int32) * y1) + y5).toNatClampNeg)) else none)) : Option (Int32)) with hq_3 | ⟨j_3, hq_3⟩
      · exact absurd hf (by rw [fX11_behind_l6, if_neg qc_1, ob_s hq_2, ob_n hq_3]; exact nofun)
      suffices hj_3 : XW G B 9 119 [(0, .ref (ad G 11 (0))), (1, .int (y1)), (2, .int (y2)), (3, .int (y3)), (5, .int (y5))] [.int (j_3), .int (y4)] Ω 0 0 by
        refine x_if_eq (tgt := 118) (pc2 := 104) C dX11_behind_101 (by decide) rfl (fun qc_4 => ?_) (fun qc_4 => ?_)
        · refine x_iconst (pc2 := 119) (v := 0) C dX11_behind_118 rfl rfl ?_
          rw [if_pos qc_4] at hq_3
          obtain rfl := (Option.some.inj hq_3).symm
          exact x_sub (lv2 := [(0, _), (1, _), (2, _), (3, _), (5, _)]) C [3, 4, 5, 6, 1] rfl hj_3
        · refine x_aload_n (pc2 := 105) C dX11_behind_104 3 rfl rfl rfl ?_
          refine x_getR (f := 1139) (k2 := 2139) (pc2 := 108) C (by assumption) kf_11_125 dX11_behind_105 rfl rfl rfl (rti_i rfl) rfl (fun qd_5 => ?_)
          refine x_iconst (pc2 := 109) (v := 4) C dX11_behind_108 rfl rfl ?_
          refine x_iload_n (pc2 := 110) C dX11_behind_109 4 rfl rfl rfl ?_
          refine x_imul (pc2 := 111) C dX11_behind_110 rfl ?_
          refine x_iload (pc2 := 113) C dX11_behind_111 1 rfl rfl ?_
          refine x_iadd (pc2 := 114) C dX11_behind_113 rfl ?_
          rcases (Decidable.em (inB (((4 : Int32) * y1) + y5) 8)).symm with qg_6 | qg_6
          · exact absurd hq_3 (by rw [if_neg qc_4, if_neg qg_6]; exact nofun)
          refine x_iald (pc2 := 115) C (by assumption) dX11_behind_114 rfl (inB_in qg_6) rfl ?_
          refine x_goto (tgt := 119) C dX11_behind_115 (by decide) ?_
          rw [if_neg qc_4, if_pos qg_6] at hq_3
          obtain rfl := (Option.some.inj hq_3).symm
          exact x_sub (lv2 := [(0, _), (1, _), (2, _), (3, _), (5, _)]) C [3, 4, 5, 6, 1] rfl hj_3
      refine x_iadd (pc2 := 120) C dX11_behind_119 rfl ?_
      refine x_istore (pc2 := 122) (lv2 := [(4, _), (0, _), (1, _), (2, _), (3, _), (5, _)]) C dX11_behind_120 (by decide) rfl rfl ?_
      refine x_iinc (pc2 := 125) (v := y5 + 1) (lv2 := [(5, _), (4, _), (0, _), (1, _), (2, _), (3, _)]) C dX11_behind_122 5 rfl rfl (by decide) rfl rfl ?_
      refine x_goto (tgt := 6) C dX11_behind_125 (by decide) ?_
      exact x_sub (lv2 := [(5, _), (4, _), (0, _), (1, _), (2, _), (3, _)]) C [0, 1, 2, 3, 4, 5] rfl (ih (y5 + 1) (y4 + j_3) (by rw [fX11_behind_l6, if_neg qc_1, ob_s hq_2, ob_s hq_3] at hf; exact hf) hk)
def fX11_behind (Ω : XO) (x1 : Int32) (x2 : Int32) (x3 : Int32) : Option (Int32) := (fX11_behind_l6 Ω x1 x2 x3 5 (0 : Int32) (0 : Int32)).bind (fun q_1 => (some q_1.2))
set_option maxRecDepth 20000 in
theorem tX11_behind {G : XG} (hok : XK G) {x1 : Int32} {x2 : Int32} {x3 : Int32} {Ω : XO} (hd0 : dm G 11 0)   {r : Int32} (hf : fX11_behind Ω x1 x2 x3 = some r) : XM G yX11_behind cX11_behind 9 ((some FieldType.int)) (RM 0 0) [.ref (ad G 11 0), .int x1, .int x2, .int x3] Ω (.inl (some (.int (r)))) Ω := by
  refine x_start (lv := [(0, .ref (ad G 11 0)), (1, .int x1), (2, .int x2), (3, .int x3)]) (own := RX11) hok (by decide +kernel) rfl (Nat.le_of_ble_eq_true rfl) rfl (fun B C => ?_)
  refine x_iconst (pc2 := 1) (v := 0) C dX11_behind_0 rfl rfl ?_
  refine x_istore (pc2 := 3) (lv2 := [(4, _), (0, _), (1, _), (2, _), (3, _)]) C dX11_behind_1 (by decide) rfl rfl ?_
  refine x_iconst (pc2 := 4) (v := 0) C dX11_behind_3 rfl rfl ?_
  refine x_istore (pc2 := 6) (lv2 := [(5, _), (4, _), (0, _), (1, _), (2, _), (3, _)]) C dX11_behind_4 (by decide) rfl rfl ?_
  rcases opt_em (fX11_behind_l6 Ω x1 x2 x3 5 (0 : Int32) (0 : Int32)) with hq_1 | ⟨q_1, hq_1⟩
  · exact absurd hf (by rw [fX11_behind, ob_n hq_1]; exact nofun)
  refine x_sub (lv2 := [(5, _), (4, _), (0, _), (1, _), (2, _), (3, _)]) C [0, 1, 2, 3, 4, 5] rfl (lX11_behind_l6 hok (by assumption) C 5 (0 : Int32) (0 : Int32) hq_1 (fun q9 h9 => ?_))
  cases h9
  refine x_iload (pc2 := 130) C dX11_behind_128 0 rfl rfl ?_
  rw [fX11_behind, ob_s hq_1] at hf
  obtain rfl := (Option.some.inj hf).symm
  exact x_ireturn C dX11_behind_130 rfl (Nat.le_of_ble_eq_true rfl) (Nat.le_of_ble_eq_true rfl) rfl rfl
def fX11_justify_l67 (y4 : Int32) (y2 : Int32) (y1 : Int32) : Nat → Int32 → Int32 → XO → Option (Int32 × Int32 × XO)
  | 0, _, _, _ => none
  | n + 1, y5, y3, Ω => (if inB y1 2 then (if (xI Ω 2109 0 y1.toNatClampNeg) ≤ y5 then (some (y5, y3, Ω)) else (if inB (((24 : Int32) * y1) + y4) 48 then (if (xI Ω 2133 0 (((24 : Int32) * y1) + y4).toNatClampNeg) = (1 : Int32) then (fX11_behind Ω y1 y4 y5).bind (fun r_7 => (wl ((if r_7 ≤ 0 then (0 : Int32) else (if ((3 : Int32) * r_7) < ((2 : Int32) * y2) then (0 : Int32) else (1 : Int32)))) (fun (j_8 : Int32) => (((if j_8 = 0 then (some (0 : Int32)) else (if inB ((((576 : Int32) * y1) + ((24 : Int32) * y4)) + y5) 1152 then (if (xI Ω 2134 0 ((((576 : Int32) * y1) + ((24 : Int32) * y4)) + y5).toNatClampNeg) = 0 then (some (1 : Int32)) else (some (0 : Int32))) else none)) : Option (Int32))).bind (fun j_11 => (((if j_8 = 0 then (if inB ((((576 : Int32) * y1) + ((24 : Int32) * y4)) + y5) 1152 then (some (xI Ω 2134 0 ((((576 : Int32) * y1) + ((24 : Int32) * y4)) + y5).toNatClampNeg)) else none) else (some (1 : Int32))) : Option (Int32))).bind (fun j_17 => (if inB ((((576 : Int32) * y1) + ((24 : Int32) * y4)) + y5) 1152 then (wl (uI Ω 2134 0 ((((576 : Int32) * y1) + ((24 : Int32) * y4)) + y5).toNatClampNeg j_17) (fun Ω_22 => (((if j_8 = 0 then (if inB (((24 : Int32) * y1) + y5) 48 then (some (xI Ω_22 2133 0 (((24 : Int32) * y1) + y5).toNatClampNeg)) else none) else (some (1 : Int32))) : Option (Int32))).bind (fun j_24 => (if inB (((24 : Int32) * y1) + y5) 48 then (wl (uI Ω_22 2133 0 (((24 : Int32) * y1) + y5).toNatClampNeg j_24) (fun Ω_29 => fX11_justify_l67 y4 y2 y1 n (y5 + 1) (y3 ||| j_11) Ω_29)) else none)))) else none)))))) else (some (y5, y3, Ω))) else none)) else none)
set_option maxRecDepth 20000 in
theorem lX11_justify_l67 {G : XG} (hok : XK G) {B : XB} {y4 : Int32} {y2 : Int32} {y1 : Int32}  (hf0 : dm G 11 0)   {T : Option Value ⊕ String} {Ω9 : XO} (C : XC G B cX11_justify RX11 (RM 1 0) 8 none T Ω9) : ∀ (n : Nat) (y5 : Int32) (y3 : Int32) (Ω : XO) {r : (Int32 × Int32 × XO)}, fX11_justify_l67 y4 y2 y1 n y5 y3 Ω = some r → (∀ q, r = q → (XW G B 8 248 [(4, .int (y4)), (3, .int (q.2.1)), (2, .int (y2)), (0, .ref (ad G 11 (0))), (1, .int (y1))] [] q.2.2 0 0)) → XW G B 8 67 [(5, .int (y5)), (4, .int (y4)), (3, .int (y3)), (2, .int (y2)), (0, .ref (ad G 11 (0))), (1, .int (y1))] [] Ω 0 0 := by
  intro n
  induction n with
  | zero => intro y5 y3 Ω r hf; exact absurd hf (by rw [fX11_justify_l67]; exact nofun)
  | succ n ih =>
    intro y5 y3 Ω r hf hk
    refine x_iload (pc2 := 69) C dX11_justify_67 0 rfl rfl ?_
    refine x_aload_n (pc2 := 70) C dX11_justify_69 4 rfl rfl rfl ?_
    refine x_getR (f := 1109) (k2 := 2109) (pc2 := 73) C (by assumption) kf_11_34 dX11_justify_70 rfl rfl rfl (rti_i rfl) rfl (fun qd_1 => ?_)
    refine x_iload_n (pc2 := 74) C dX11_justify_73 5 rfl rfl rfl ?_
    rcases (Decidable.em (inB y1 2)).symm with qg_2 | qg_2
    · exact absurd hf (by rw [fX11_justify_l67, if_neg qg_2]; exact nofun)
    refine x_iald (pc2 := 75) C (by assumption) dX11_justify_74 rfl (inB_in qg_2) rfl ?_
    refine x_icmp_ge (tgt := 248) (pc2 := 78) C dX11_justify_75 (by decide) rfl (fun qc_3 => ?_) (fun qc_3 => ?_)
    · rw [fX11_justify_l67, if_pos qg_2, if_pos qc_3] at hf
      exact x_sub (lv2 := [(4, _), (3, _), (2, _), (0, _), (1, _)]) C [1, 2, 3, 4, 5] rfl (hk _ (Option.some.inj hf).symm)
    · refine x_aload_n (pc2 := 79) C dX11_justify_78 4 rfl rfl rfl ?_
      refine x_getR (f := 1133) (k2 := 2133) (pc2 := 82) C (by assumption) kf_11_107 dX11_justify_79 rfl rfl rfl (rti_i rfl) rfl (fun qd_4 => ?_)
      refine x_bipush (pc2 := 84) (v := 24) C dX11_justify_82 rfl rfl ?_
      refine x_iload_n (pc2 := 85) C dX11_justify_84 5 rfl rfl rfl ?_
      refine x_imul (pc2 := 86) C dX11_justify_85 rfl ?_
      refine x_iload (pc2 := 88) C dX11_justify_86 1 rfl rfl ?_
      refine x_iadd (pc2 := 89) C dX11_justify_88 rfl ?_
      rcases (Decidable.em (inB (((24 : Int32) * y1) + y4) 48)).symm with qg_5 | qg_5
      · exact absurd hf (by rw [fX11_justify_l67, if_pos qg_2, if_neg qc_3, if_neg qg_5]; exact nofun)
      refine x_iald (pc2 := 90) C (by assumption) dX11_justify_89 rfl (inB_in qg_5) rfl ?_
      refine x_iconst (pc2 := 91) (v := 1) C dX11_justify_90 rfl rfl ?_
      refine x_icmp_ne (tgt := 248) (pc2 := 94) C dX11_justify_91 (by decide) rfl (fun qc_6 => ?_) (fun qc_6 => ?_)
      · rw [fX11_justify_l67, if_pos qg_2, if_neg qc_3, if_pos qg_5, if_neg qc_6] at hf
        exact x_sub (lv2 := [(4, _), (3, _), (2, _), (0, _), (1, _)]) C [1, 2, 3, 4, 5] rfl (hk _ (Option.some.inj hf).symm)
      · refine x_aload_n (pc2 := 95) C dX11_justify_94 4 rfl rfl rfl ?_
        refine x_iload_n (pc2 := 96) C dX11_justify_95 5 rfl rfl rfl ?_
        refine x_iload (pc2 := 98) C dX11_justify_96 1 rfl rfl ?_
        refine x_iload (pc2 := 100) C dX11_justify_98 0 rfl rfl ?_
        rcases opt_em (fX11_behind Ω y1 y4 y5) with hq_7 | ⟨r_7, hq_7⟩
        · exact absurd hf (by rw [fX11_justify_l67, if_pos qg_2, if_neg qc_3, if_pos qg_5, if_pos qc_6, ob_n hq_7]; exact nofun)
        refine x_ret (rest := []) (st2 := [_]) (pc2 := 103) (cu2 := 0) (su2 := 0) (x_cV C (by assumption) (Nat.le_of_ble_eq_true rfl) kmX11_behind rfl kk_11_378 (tX11_behind hok (by assumption)  hq_7) rfl rfl (Nat.le_of_ble_eq_true rfl) ⟨Nat.le_of_ble_eq_true rfl, Nat.le_of_ble_eq_true rfl⟩ ⟨Nat.le_of_ble_eq_true rfl, Nat.le_of_ble_eq_true rfl⟩ dX11_justify_100) rfl rfl rfl rfl ?_
        refine x_istore (pc2 := 105) (lv2 := [(6, _), (5, _), (4, _), (3, _), (2, _), (0, _), (1, _)]) C dX11_justify_103 (by decide) rfl rfl ?_
        refine x_iload (pc2 := 107) C dX11_justify_105 0 rfl rfl ?_
        obtain ⟨j_8, hq_8⟩ : ∃ z : Int32, z = (if r_7 ≤ 0 then (0 : Int32) else (if ((3 : Int32) * r_7) < ((2 : Int32) * y2) then (0 : Int32) else (1 : Int32))) := ⟨_, rfl⟩
        suffices hj_8 : XW G B 8 125 [(0, .ref (ad G 11 (0))), (1, .int (y1)), (2, .int (y2)), (3, .int (y3)), (4, .int (y4)), (5, .int (y5))] [.int (j_8)] Ω 0 0 by
          refine x_if_le (tgt := 124) (pc2 := 110) C dX11_justify_107 (by decide) rfl (fun qc_9 => ?_) (fun qc_9 => ?_)
          · refine x_iconst (pc2 := 125) (v := 0) C dX11_justify_124 rfl rfl ?_
            rw [if_pos qc_9] at hq_8
            subst hq_8
            exact x_sub (lv2 := [(0, _), (1, _), (2, _), (3, _), (4, _), (5, _)]) C [5, 6, 4, 3, 2, 1] rfl hj_8
          · refine x_iconst (pc2 := 111) (v := 3) C dX11_justify_110 rfl rfl ?_
            refine x_iload (pc2 := 113) C dX11_justify_111 0 rfl rfl ?_
            refine x_imul (pc2 := 114) C dX11_justify_113 rfl ?_
            refine x_iconst (pc2 := 115) (v := 2) C dX11_justify_114 rfl rfl ?_
            refine x_iload_n (pc2 := 116) C dX11_justify_115 4 rfl rfl rfl ?_
            refine x_imul (pc2 := 117) C dX11_justify_116 rfl ?_
            refine x_icmp_lt (tgt := 124) (pc2 := 120) C dX11_justify_117 (by decide) rfl (fun qc_10 => ?_) (fun qc_10 => ?_)
            · refine x_iconst (pc2 := 125) (v := 0) C dX11_justify_124 rfl rfl ?_
              rw [if_neg qc_9, if_pos qc_10] at hq_8
              subst hq_8
              exact x_sub (lv2 := [(0, _), (1, _), (2, _), (3, _), (4, _), (5, _)]) C [5, 6, 4, 3, 2, 1] rfl hj_8
            · refine x_iconst (pc2 := 121) (v := 1) C dX11_justify_120 rfl rfl ?_
              refine x_goto (tgt := 125) C dX11_justify_121 (by decide) ?_
              rw [if_neg qc_9, if_neg qc_10] at hq_8
              subst hq_8
              exact x_sub (lv2 := [(0, _), (1, _), (2, _), (3, _), (4, _), (5, _)]) C [5, 6, 4, 3, 2, 1] rfl hj_8
        refine x_istore (pc2 := 127) (lv2 := [(7, _), (0, _), (1, _), (2, _), (3, _), (4, _), (5, _)]) C dX11_justify_125 (by decide) rfl rfl ?_
        refine x_iload_n (pc2 := 128) C dX11_justify_127 4 rfl rfl rfl ?_
        refine x_iload (pc2 := 130) C dX11_justify_128 0 rfl rfl ?_
        rcases opt_em ((if j_8 = 0 then (some (0 : Int32)) else (if inB ((((576 : Int32) * y1) + ((24 : Int32) * y4)) + y5) 1152 then (if (xI Ω 2134 0 ((((576 : Int32) * y1) + ((24 : Int32) * y4)) + y5).toNatClampNeg) = 0 then (some (1 : Int32)) else (some (0 : Int32))) else none)) : Option (Int32)) with hq_11 | ⟨j_11, hq_11⟩
        · exact absurd hf (by rw [fX11_justify_l67, if_pos qg_2, if_neg qc_3, if_pos qg_5, if_pos qc_6, ob_s hq_7, wl_eq hq_8, ob_n hq_11]; exact nofun)
        suffices hj_11 : XW G B 8 160 [(0, .ref (ad G 11 (0))), (1, .int (y1)), (2, .int (y2)), (4, .int (y4)), (5, .int (y5)), (7, .int (j_8))] [.int (j_11), .int (y3)] Ω 0 0 by
          refine x_if_eq (tgt := 159) (pc2 := 133) C dX11_justify_130 (by decide) rfl (fun qc_12 => ?_) (fun qc_12 => ?_)
          · refine x_iconst (pc2 := 160) (v := 0) C dX11_justify_159 rfl rfl ?_
            rw [if_pos qc_12] at hq_11
            obtain rfl := (Option.some.inj hq_11).symm
            exact x_sub (lv2 := [(0, _), (1, _), (2, _), (4, _), (5, _), (7, _)]) C [1, 2, 3, 5, 6, 0] rfl hj_11
          · refine x_aload_n (pc2 := 134) C dX11_justify_133 1 rfl rfl rfl ?_
            refine x_getR (f := 1134) (k2 := 2134) (pc2 := 137) C (by assumption) kf_11_110 dX11_justify_134 rfl rfl rfl (rti_i rfl) rfl (fun qd_13 => ?_)
            refine x_sipush (pc2 := 140) (v := 576) C dX11_justify_137 rfl rfl ?_
            refine x_iload_n (pc2 := 141) C dX11_justify_140 2 rfl rfl rfl ?_
            refine x_imul (pc2 := 142) C dX11_justify_141 rfl ?_
            refine x_bipush (pc2 := 144) (v := 24) C dX11_justify_142 rfl rfl ?_
            refine x_iload (pc2 := 146) C dX11_justify_144 5 rfl rfl ?_
            refine x_imul (pc2 := 147) C dX11_justify_146 rfl ?_
            refine x_iadd (pc2 := 148) C dX11_justify_147 rfl ?_
            refine x_iload (pc2 := 150) C dX11_justify_148 6 rfl rfl ?_
            refine x_iadd (pc2 := 151) C dX11_justify_150 rfl ?_
            rcases (Decidable.em (inB ((((576 : Int32) * y1) + ((24 : Int32) * y4)) + y5) 1152)).symm with qg_14 | qg_14
            · exact absurd hq_11 (by rw [if_neg qc_12, if_neg qg_14]; exact nofun)
            refine x_iald (pc2 := 152) C (by assumption) dX11_justify_151 rfl (inB_in qg_14) rfl ?_
            refine x_if_ne (tgt := 159) (pc2 := 155) C dX11_justify_152 (by decide) rfl (fun qc_15 => ?_) (fun qc_15 => ?_)
            · refine x_iconst (pc2 := 160) (v := 0) C dX11_justify_159 rfl rfl ?_
              rw [if_neg qc_12, if_pos qg_14, if_neg qc_15] at hq_11
              obtain rfl := (Option.some.inj hq_11).symm
              exact x_sub (lv2 := [(0, _), (1, _), (2, _), (4, _), (5, _), (7, _)]) C [1, 2, 3, 5, 6, 0] rfl hj_11
            · refine x_iconst (pc2 := 156) (v := 1) C dX11_justify_155 rfl rfl ?_
              refine x_goto (tgt := 160) C dX11_justify_156 (by decide) ?_
              rw [if_neg qc_12, if_pos qg_14, if_pos qc_15] at hq_11
              obtain rfl := (Option.some.inj hq_11).symm
              exact x_sub (lv2 := [(0, _), (1, _), (2, _), (4, _), (5, _), (7, _)]) C [1, 2, 3, 5, 6, 0] rfl hj_11
        refine x_ior (pc2 := 161) C dX11_justify_160 rfl ?_
        refine x_istore_n (pc2 := 162) (lv2 := [(3, _), (0, _), (1, _), (2, _), (4, _), (5, _), (7, _)]) C dX11_justify_161 rfl (by decide) rfl rfl ?_
        refine x_aload_n (pc2 := 163) C dX11_justify_162 1 rfl rfl rfl ?_
        refine x_getR (f := 1134) (k2 := 2134) (pc2 := 166) C (by assumption) kf_11_110 dX11_justify_163 rfl rfl rfl (rti_i rfl) rfl (fun qd_16 => ?_)
        refine x_sipush (pc2 := 169) (v := 576) C dX11_justify_166 rfl rfl ?_
        refine x_iload_n (pc2 := 170) C dX11_justify_169 2 rfl rfl rfl ?_
        refine x_imul (pc2 := 171) C dX11_justify_170 rfl ?_
        refine x_bipush (pc2 := 173) (v := 24) C dX11_justify_171 rfl rfl ?_
        refine x_iload (pc2 := 175) C dX11_justify_173 4 rfl rfl ?_
        refine x_imul (pc2 := 176) C dX11_justify_175 rfl ?_
        refine x_iadd (pc2 := 177) C dX11_justify_176 rfl ?_
        refine x_iload (pc2 := 179) C dX11_justify_177 5 rfl rfl ?_
        refine x_iadd (pc2 := 180) C dX11_justify_179 rfl ?_
        refine x_iload (pc2 := 182) C dX11_justify_180 6 rfl rfl ?_
        rcases opt_em ((if j_8 = 0 then (if inB ((((576 : Int32) * y1) + ((24 : Int32) * y4)) + y5) 1152 then (some (xI Ω 2134 0 ((((576 : Int32) * y1) + ((24 : Int32) * y4)) + y5).toNatClampNeg)) else none) else (some (1 : Int32))) : Option (Int32)) with hq_17 | ⟨j_17, hq_17⟩
        · exact absurd hf (by rw [fX11_justify_l67, if_pos qg_2, if_neg qc_3, if_pos qg_5, if_pos qc_6, ob_s hq_7, wl_eq hq_8, ob_s hq_11, ob_n hq_17]; exact nofun)
        suffices hj_17 : XW G B 8 208 [(0, .ref (ad G 11 (0))), (1, .int (y1)), (2, .int (y2)), (3, .int (y3 ||| j_11)), (4, .int (y4)), (5, .int (y5)), (7, .int (j_8))] [.int (j_17), .int ((((576 : Int32) * y1) + ((24 : Int32) * y4)) + y5), .ref (ad G 2134 (0))] Ω 0 0 by
          refine x_if_eq (tgt := 189) (pc2 := 185) C dX11_justify_182 (by decide) rfl (fun qc_18 => ?_) (fun qc_18 => ?_)
          · refine x_aload_n (pc2 := 190) C dX11_justify_189 1 rfl rfl rfl ?_
            refine x_getR (f := 1134) (k2 := 2134) (pc2 := 193) C (by assumption) kf_11_110 dX11_justify_190 rfl rfl rfl (rti_i rfl) rfl (fun qd_19 => ?_)
            refine x_sipush (pc2 := 196) (v := 576) C dX11_justify_193 rfl rfl ?_
            refine x_iload_n (pc2 := 197) C dX11_justify_196 2 rfl rfl rfl ?_
            refine x_imul (pc2 := 198) C dX11_justify_197 rfl ?_
            refine x_bipush (pc2 := 200) (v := 24) C dX11_justify_198 rfl rfl ?_
            refine x_iload (pc2 := 202) C dX11_justify_200 4 rfl rfl ?_
            refine x_imul (pc2 := 203) C dX11_justify_202 rfl ?_
            refine x_iadd (pc2 := 204) C dX11_justify_203 rfl ?_
            refine x_iload (pc2 := 206) C dX11_justify_204 5 rfl rfl ?_
            refine x_iadd (pc2 := 207) C dX11_justify_206 rfl ?_
            rcases (Decidable.em (inB ((((576 : Int32) * y1) + ((24 : Int32) * y4)) + y5) 1152)).symm with qg_20 | qg_20
            · exact absurd hq_17 (by rw [if_pos qc_18, if_neg qg_20]; exact nofun)
            refine x_iald (pc2 := 208) C (by assumption) dX11_justify_207 rfl (inB_in qg_20) rfl ?_
            rw [if_pos qc_18, if_pos qg_20] at hq_17
            obtain rfl := (Option.some.inj hq_17).symm
            exact x_sub (lv2 := [(0, _), (1, _), (2, _), (3, _), (4, _), (5, _), (7, _)]) C [1, 2, 3, 0, 4, 5, 6] rfl hj_17
          · refine x_iconst (pc2 := 186) (v := 1) C dX11_justify_185 rfl rfl ?_
            refine x_goto (tgt := 208) C dX11_justify_186 (by decide) ?_
            rw [if_neg qc_18] at hq_17
            obtain rfl := (Option.some.inj hq_17).symm
            exact x_sub (lv2 := [(0, _), (1, _), (2, _), (3, _), (4, _), (5, _), (7, _)]) C [1, 2, 3, 0, 4, 5, 6] rfl hj_17
        rcases (Decidable.em (inB ((((576 : Int32) * y1) + ((24 : Int32) * y4)) + y5) 1152)).symm with qg_21 | qg_21
        · exact absurd hf (by rw [fX11_justify_l67, if_pos qg_2, if_neg qc_3, if_pos qg_5, if_pos qc_6, ob_s hq_7, wl_eq hq_8, ob_s hq_11, ob_s hq_17, if_neg qg_21]; exact nofun)
        refine x_iast (pc2 := 209) C (by assumption) dX11_justify_208 rfl (inB_in qg_21) rfl ?_
        obtain ⟨Ω_22, hw_22⟩ : ∃ z, z = uI Ω 2134 0 ((((576 : Int32) * y1) + ((24 : Int32) * y4)) + y5).toNatClampNeg j_17 := ⟨_, rfl⟩
        refine x_om hw_22 ?_
        refine x_aload_n (pc2 := 210) C dX11_justify_209 0 rfl rfl rfl ?_
        refine x_getR (f := 1133) (k2 := 2133) (pc2 := 213) C (by assumption) kf_11_107 dX11_justify_210 rfl rfl rfl (rti_i rfl) rfl (fun qd_23 => ?_)
        refine x_bipush (pc2 := 215) (v := 24) C dX11_justify_213 rfl rfl ?_
        refine x_iload_n (pc2 := 216) C dX11_justify_215 1 rfl rfl rfl ?_
        refine x_imul (pc2 := 217) C dX11_justify_216 rfl ?_
        refine x_iload (pc2 := 219) C dX11_justify_217 5 rfl rfl ?_
        refine x_iadd (pc2 := 220) C dX11_justify_219 rfl ?_
        refine x_iload (pc2 := 222) C dX11_justify_220 6 rfl rfl ?_
        rcases opt_em ((if j_8 = 0 then (if inB (((24 : Int32) * y1) + y5) 48 then (some (xI Ω_22 2133 0 (((24 : Int32) * y1) + y5).toNatClampNeg)) else none) else (some (1 : Int32))) : Option (Int32)) with hq_24 | ⟨j_24, hq_24⟩
        · exact absurd hf (by rw [fX11_justify_l67, if_pos qg_2, if_neg qc_3, if_pos qg_5, if_pos qc_6, ob_s hq_7, wl_eq hq_8, ob_s hq_11, ob_s hq_17, if_pos qg_21, wl_eq hw_22, ob_n hq_24]; exact nofun)
        suffices hj_24 : XW G B 8 241 [(0, .ref (ad G 11 (0))), (1, .int (y1)), (2, .int (y2)), (3, .int (y3 ||| j_11)), (4, .int (y4)), (5, .int (y5))] [.int (j_24), .int (((24 : Int32) * y1) + y5), .ref (ad G 2133 (0))] Ω_22 0 0 by
          refine x_if_eq (tgt := 229) (pc2 := 225) C dX11_justify_222 (by decide) rfl (fun qc_25 => ?_) (fun qc_25 => ?_)
          · refine x_aload_n (pc2 := 230) C dX11_justify_229 0 rfl rfl rfl ?_
            refine x_getR (f := 1133) (k2 := 2133) (pc2 := 233) C (by assumption) kf_11_107 dX11_justify_230 rfl rfl rfl (rti_i rfl) rfl (fun qd_26 => ?_)
            refine x_bipush (pc2 := 235) (v := 24) C dX11_justify_233 rfl rfl ?_
            refine x_iload_n (pc2 := 236) C dX11_justify_235 1 rfl rfl rfl ?_
            refine x_imul (pc2 := 237) C dX11_justify_236 rfl ?_
            refine x_iload (pc2 := 239) C dX11_justify_237 5 rfl rfl ?_
            refine x_iadd (pc2 := 240) C dX11_justify_239 rfl ?_
            rcases (Decidable.em (inB (((24 : Int32) * y1) + y5) 48)).symm with qg_27 | qg_27
            · exact absurd hq_24 (by rw [if_pos qc_25, if_neg qg_27]; exact nofun)
            refine x_iald (pc2 := 241) C (by assumption) dX11_justify_240 rfl (inB_in qg_27) rfl ?_
            rw [if_pos qc_25, if_pos qg_27] at hq_24
            obtain rfl := (Option.some.inj hq_24).symm
            exact x_sub (lv2 := [(0, _), (1, _), (2, _), (3, _), (4, _), (5, _)]) C [0, 1, 2, 3, 4, 5] rfl hj_24
          · refine x_iconst (pc2 := 226) (v := 1) C dX11_justify_225 rfl rfl ?_
            refine x_goto (tgt := 241) C dX11_justify_226 (by decide) ?_
            rw [if_neg qc_25] at hq_24
            obtain rfl := (Option.some.inj hq_24).symm
            exact x_sub (lv2 := [(0, _), (1, _), (2, _), (3, _), (4, _), (5, _)]) C [0, 1, 2, 3, 4, 5] rfl hj_24
        rcases (Decidable.em (inB (((24 : Int32) * y1) + y5) 48)).symm with qg_28 | qg_28
        · exact absurd hf (by rw [fX11_justify_l67, if_pos qg_2, if_neg qc_3, if_pos qg_5, if_pos qc_6, ob_s hq_7, wl_eq hq_8, ob_s hq_11, ob_s hq_17, if_pos qg_21, wl_eq hw_22, ob_s hq_24, if_neg qg_28]; exact nofun)
        refine x_iast (pc2 := 242) C (by assumption) dX11_justify_241 rfl (inB_in qg_28) rfl ?_
        obtain ⟨Ω_29, hw_29⟩ : ∃ z, z = uI Ω_22 2133 0 (((24 : Int32) * y1) + y5).toNatClampNeg j_24 := ⟨_, rfl⟩
        refine x_om hw_29 ?_
        refine x_iinc (pc2 := 245) (v := y5 + 1) (lv2 := [(5, _), (0, _), (1, _), (2, _), (3, _), (4, _)]) C dX11_justify_242 5 rfl rfl (by decide) rfl rfl ?_
        refine x_goto (tgt := 67) C dX11_justify_245 (by decide) ?_
        exact x_sub (lv2 := [(5, _), (4, _), (3, _), (2, _), (0, _), (1, _)]) C [0, 5, 4, 3, 1, 2] rfl (ih (y5 + 1) (y3 ||| j_11) Ω_29 (by rw [fX11_justify_l67, if_pos qg_2, if_neg qc_3, if_pos qg_5, if_pos qc_6, ob_s hq_7, wl_eq hq_8, ob_s hq_11, ob_s hq_17, if_pos qg_21, wl_eq hw_22, ob_s hq_24, if_pos qg_28, wl_eq hw_29] at hf; exact hf) hk)
def fX11_justify_l53 (y2 : Int32) (y1 : Int32) : Nat → Int32 → Int32 → XO → Option (Int32 × Int32 × XO)
  | 0, _, _, _ => none
  | n + 1, y4, y3, Ω => (if inB y1 2 then (if (xI Ω 2109 0 y1.toNatClampNeg) ≤ y4 then (some (y4, y3, Ω)) else (fX11_justify_l67 y4 y2 y1 ((xI Ω 2109 0 y1.toNatClampNeg).toNatClampNeg + 1) (0 : Int32) y3 Ω).bind (fun q_4 => fX11_justify_l53 y2 y1 n (y4 + 1) q_4.2.1 q_4.2.2)) else none)
set_option maxRecDepth 20000 in
theorem lX11_justify_l53 {G : XG} (hok : XK G) {B : XB} {y2 : Int32} {y1 : Int32}  (hf0 : dm G 11 0)   {T : Option Value ⊕ String} {Ω9 : XO} (C : XC G B cX11_justify RX11 (RM 1 0) 8 none T Ω9) : ∀ (n : Nat) (y4 : Int32) (y3 : Int32) (Ω : XO) {r : (Int32 × Int32 × XO)}, fX11_justify_l53 y2 y1 n y4 y3 Ω = some r → (∀ q, r = q → (XW G B 8 254 [(3, .int (q.2.1)), (2, .int (y2)), (0, .ref (ad G 11 (0))), (1, .int (y1))] [] q.2.2 0 0)) → XW G B 8 53 [(4, .int (y4)), (3, .int (y3)), (2, .int (y2)), (0, .ref (ad G 11 (0))), (1, .int (y1))] [] Ω 0 0 := by
  intro n
  induction n with
  | zero => intro y4 y3 Ω r hf; exact absurd hf (by rw [fX11_justify_l53]; exact nofun)
  | succ n ih =>
    intro y4 y3 Ω r hf hk
    refine x_iload (pc2 := 55) C dX11_justify_53 0 rfl rfl ?_
    refine x_aload_n (pc2 := 56) C dX11_justify_55 3 rfl rfl rfl ?_
    refine x_getR (f := 1109) (k2 := 2109) (pc2 := 59) C (by assumption) kf_11_34 dX11_justify_56 rfl rfl rfl (rti_i rfl) rfl (fun qd_1 => ?_)
    refine x_iload_n (pc2 := 60) C dX11_justify_59 4 rfl rfl rfl ?_
    rcases (Decidable.em (inB y1 2)).symm with qg_2 | qg_2
    · exact absurd hf (by rw [fX11_justify_l53, if_neg qg_2]; exact nofun)
    refine x_iald (pc2 := 61) C (by assumption) dX11_justify_60 rfl (inB_in qg_2) rfl ?_
    refine x_icmp_ge (tgt := 254) (pc2 := 64) C dX11_justify_61 (by decide) rfl (fun qc_3 => ?_) (fun qc_3 => ?_)
    · rw [fX11_justify_l53, if_pos qg_2, if_pos qc_3] at hf
      exact x_sub (lv2 := [(3, _), (2, _), (0, _), (1, _)]) C [1, 2, 3, 4] rfl (hk _ (Option.some.inj hf).symm)
    · refine x_iconst (pc2 := 65) (v := 0) C dX11_justify_64 rfl rfl ?_
      refine x_istore (pc2 := 67) (lv2 := [(5, _), (4, _), (3, _), (2, _), (0, _), (1, _)]) C dX11_justify_65 (by decide) rfl rfl ?_
      rcases opt_em (fX11_justify_l67 y4 y2 y1 ((xI Ω 2109 0 y1.toNatClampNeg).toNatClampNeg + 1) (0 : Int32) y3 Ω) with hq_4 | ⟨q_4, hq_4⟩
      · exact absurd hf (by rw [fX11_justify_l53, if_pos qg_2, if_neg qc_3, ob_n hq_4]; exact nofun)
      refine x_sub (lv2 := [(5, _), (4, _), (3, _), (2, _), (0, _), (1, _)]) C [0, 1, 2, 3, 4, 5] rfl (lX11_justify_l67 hok (by assumption) C ((xI Ω 2109 0 y1.toNatClampNeg).toNatClampNeg + 1) (0 : Int32) y3 Ω hq_4 (fun q9 h9 => ?_))
      cases h9
      refine x_iinc (pc2 := 251) (v := y4 + 1) (lv2 := [(4, _), (3, _), (2, _), (0, _), (1, _)]) C dX11_justify_248 0 rfl rfl (by decide) rfl rfl ?_
      refine x_goto (tgt := 53) C dX11_justify_251 (by decide) ?_
      exact x_sub (lv2 := [(4, _), (3, _), (2, _), (0, _), (1, _)]) C [0, 1, 2, 3, 4] rfl (ih (y4 + 1) q_4.2.1 q_4.2.2 (by rw [fX11_justify_l53, if_pos qg_2, if_neg qc_3, ob_s hq_4] at hf; exact hf) hk)
def fX11_justify_l44 (y2 : Int32) (y1 : Int32) : Nat → Int32 → XO → Option (Int32 × XO)
  | 0, _, _ => none
  | n + 1, y3, Ω => (if y3 = 0 then (some (y3, Ω)) else (fX11_justify_l53 y2 y1 ((xI Ω 2109 0 y1.toNatClampNeg).toNatClampNeg + 1) (0 : Int32) (0 : Int32) Ω).bind (fun q_2 => fX11_justify_l44 y2 y1 n q_2.2.1 q_2.2.2))
set_option maxRecDepth 20000 in
theorem lX11_justify_l44 {G : XG} (hok : XK G) {B : XB} {y2 : Int32} {y1 : Int32}  (hf0 : dm G 11 0)   {T : Option Value ⊕ String} {Ω9 : XO} (C : XC G B cX11_justify RX11 (RM 1 0) 8 none T Ω9) : ∀ (n : Nat) (y3 : Int32) (Ω : XO) {r : (Int32 × XO)}, fX11_justify_l44 y2 y1 n y3 Ω = some r → (∀ q, r = q → (XW G B 8 257 [(0, .ref (ad G 11 (0))), (1, .int (y1))] [] q.2 0 0)) → XW G B 8 44 [(3, .int (y3)), (2, .int (y2)), (0, .ref (ad G 11 (0))), (1, .int (y1))] [] Ω 0 0 := by
  intro n
  induction n with
  | zero => intro y3 Ω r hf; exact absurd hf (by rw [fX11_justify_l44]; exact nofun)
  | succ n ih =>
    intro y3 Ω r hf hk
    refine x_iload_n (pc2 := 45) C dX11_justify_44 0 rfl rfl rfl ?_
    refine x_if_eq (tgt := 257) (pc2 := 48) C dX11_justify_45 (by decide) rfl (fun qc_1 => ?_) (fun qc_1 => ?_)
    · rw [fX11_justify_l44, if_pos qc_1] at hf
      exact x_sub (lv2 := [(0, _), (1, _)]) C [2, 3] rfl (hk _ (Option.some.inj hf).symm)
    · refine x_iconst (pc2 := 49) (v := 0) C dX11_justify_48 rfl rfl ?_
      refine x_istore_n (pc2 := 50) (lv2 := [(3, _), (2, _), (0, _), (1, _)]) C dX11_justify_49 rfl (by decide) rfl rfl ?_
      refine x_iconst (pc2 := 51) (v := 0) C dX11_justify_50 rfl rfl ?_
      refine x_istore (pc2 := 53) (lv2 := [(4, _), (3, _), (2, _), (0, _), (1, _)]) C dX11_justify_51 (by decide) rfl rfl ?_
      rcases opt_em (fX11_justify_l53 y2 y1 ((xI Ω 2109 0 y1.toNatClampNeg).toNatClampNeg + 1) (0 : Int32) (0 : Int32) Ω) with hq_2 | ⟨q_2, hq_2⟩
      · exact absurd hf (by rw [fX11_justify_l44, if_neg qc_1, ob_n hq_2]; exact nofun)
      refine x_sub (lv2 := [(4, _), (3, _), (2, _), (0, _), (1, _)]) C [0, 1, 2, 3, 4] rfl (lX11_justify_l53 hok (by assumption) C ((xI Ω 2109 0 y1.toNatClampNeg).toNatClampNeg + 1) (0 : Int32) (0 : Int32) Ω hq_2 (fun q9 h9 => ?_))
      cases h9
      refine x_goto (tgt := 44) C dX11_justify_254 (by decide) ?_
      exact x_sub (lv2 := [(3, _), (2, _), (0, _), (1, _)]) C [0, 1, 2, 3] rfl (ih q_2.2.1 q_2.2.2 (by rw [fX11_justify_l44, if_neg qc_1, ob_s hq_2] at hf; exact hf) hk)
def fX11_justify_l280 (Ω : XO) (y5 : Int32) (y4 : Int32) (y1 : Int32) : Nat → Int32 → Int32 → Option (Int32 × Int32)
  | 0, _, _ => none
  | n + 1, y7, y6 => (if inB y1 2 then (if (xI Ω 2109 0 y1.toNatClampNeg) ≤ y7 then (some (y7, y6)) else (if inB ((((576 : Int32) * y1) + ((24 : Int32) * y5)) + y7) 1152 then (((if (xI Ω 2134 0 ((((576 : Int32) * y1) + ((24 : Int32) * y5)) + y7).toNatClampNeg) = (1 : Int32) then (if inB (((24 : Int32) * y1) + y7) 48 then (if inB (((24 : Int32) * y1) + y5) 48 then (if (xI Ω 2121 0 (((24 : Int32) * y1) + y7).toNatClampNeg) = ((xI Ω 2121 0 (((24 : Int32) * y1) + y5).toNatClampNeg) + (1 : Int32)) then (some (1 : Int32)) else (some (0 : Int32))) else none) else none) else (some (0 : Int32))) : Option (Int32))).bind (fun j_6 => fX11_justify_l280 Ω y5 y4 y1 n (y7 + 1) (y6 ||| j_6)) else none)) else none)
set_option maxRecDepth 20000 in
theorem lX11_justify_l280 {G : XG} (hok : XK G) {B : XB} {y5 : Int32} {y4 : Int32} {y1 : Int32} {Ω : XO} (hf0 : dm G 11 0)   {T : Option Value ⊕ String} {Ω9 : XO} (C : XC G B cX11_justify RX11 (RM 1 0) 8 none T Ω9) : ∀ (n : Nat) (y7 : Int32) (y6 : Int32) {r : (Int32 × Int32)}, fX11_justify_l280 Ω y5 y4 y1 n y7 y6 = some r → (∀ q, r = q → (XW G B 8 359 [(6, .int (q.2)), (5, .int (y5)), (4, .int (y4)), (0, .ref (ad G 11 (0))), (1, .int (y1))] [] Ω 0 0)) → XW G B 8 280 [(7, .int (y7)), (6, .int (y6)), (5, .int (y5)), (4, .int (y4)), (0, .ref (ad G 11 (0))), (1, .int (y1))] [] Ω 0 0 := by
  intro n
  induction n with
  | zero => intro y7 y6 r hf; exact absurd hf (by rw [fX11_justify_l280]; exact nofun)
  | succ n ih =>
    intro y7 y6 r hf hk
    refine x_iload (pc2 := 282) C dX11_justify_280 0 rfl rfl ?_
    refine x_aload_n (pc2 := 283) C dX11_justify_282 4 rfl rfl rfl ?_
    refine x_getR (f := 1109) (k2 := 2109) (pc2 := 286) C (by assumption) kf_11_34 dX11_justify_283 rfl rfl rfl (rti_i rfl) rfl (fun qd_1 => ?_)
    refine x_iload_n (pc2 := 287) C dX11_justify_286 5 rfl rfl rfl ?_
    rcases (Decidable.em (inB y1 2)).symm with qg_2 | qg_2
    · exact absurd hf (by rw [fX11_justify_l280, if_neg qg_2]; exact nofun)
    refine x_iald (pc2 := 288) C (by assumption) dX11_justify_287 rfl (inB_in qg_2) rfl ?_
    refine x_icmp_ge (tgt := 359) (pc2 := 291) C dX11_justify_288 (by decide) rfl (fun qc_3 => ?_) (fun qc_3 => ?_)
    · rw [fX11_justify_l280, if_pos qg_2, if_pos qc_3] at hf
      exact x_sub (lv2 := [(6, _), (5, _), (4, _), (0, _), (1, _)]) C [1, 2, 3, 4, 5] rfl (hk _ (Option.some.inj hf).symm)
    · refine x_iload (pc2 := 293) C dX11_justify_291 1 rfl rfl ?_
      refine x_aload_n (pc2 := 294) C dX11_justify_293 4 rfl rfl rfl ?_
      refine x_getR (f := 1134) (k2 := 2134) (pc2 := 297) C (by assumption) kf_11_110 dX11_justify_294 rfl rfl rfl (rti_i rfl) rfl (fun qd_4 => ?_)
      refine x_sipush (pc2 := 300) (v := 576) C dX11_justify_297 rfl rfl ?_
      refine x_iload_n (pc2 := 301) C dX11_justify_300 5 rfl rfl rfl ?_
      refine x_imul (pc2 := 302) C dX11_justify_301 rfl ?_
      refine x_bipush (pc2 := 304) (v := 24) C dX11_justify_302 rfl rfl ?_
      refine x_iload (pc2 := 306) C dX11_justify_304 2 rfl rfl ?_
      refine x_imul (pc2 := 307) C dX11_justify_306 rfl ?_
      refine x_iadd (pc2 := 308) C dX11_justify_307 rfl ?_
      refine x_iload (pc2 := 310) C dX11_justify_308 0 rfl rfl ?_
      refine x_iadd (pc2 := 311) C dX11_justify_310 rfl ?_
      rcases (Decidable.em (inB ((((576 : Int32) * y1) + ((24 : Int32) * y5)) + y7) 1152)).symm with qg_5 | qg_5
      · exact absurd hf (by rw [fX11_justify_l280, if_pos qg_2, if_neg qc_3, if_neg qg_5]; exact nofun)
      refine x_iald (pc2 := 312) C (by assumption) dX11_justify_311 rfl (inB_in qg_5) rfl ?_
      refine x_iconst (pc2 := 313) (v := 1) C dX11_justify_312 rfl rfl ?_
      rcases opt_em ((if (xI Ω 2134 0 ((((576 : Int32) * y1) + ((24 : Int32) * y5)) + y7).toNatClampNeg) = (1 : Int32) then (if inB (((24 : Int32) * y1) + y7) 48 then (if inB (((24 : Int32) * y1) + y5) 48 then (if (xI Ω 2121 0 (((24 : Int32) * y1) + y7).toNatClampNeg) = ((xI Ω 2121 0 (((24 : Int32) * y1) + y5).toNatClampNeg) + (1 : Int32)) then (some (1 : Int32)) else (some (0 : Int32))) else none) else none) else (some (0 : Int32))) : Option (Int32)) with hq_6 | ⟨j_6, hq_6⟩
      · exact absurd hf (by rw [fX11_justify_l280, if_pos qg_2, if_neg qc_3, if_pos qg_5, ob_n hq_6]; exact nofun)
      suffices hj_6 : XW G B 8 350 [(0, .ref (ad G 11 (0))), (1, .int (y1)), (4, .int (y4)), (5, .int (y5)), (7, .int (y7))] [.int (j_6), .int (y6)] Ω 0 0 by
        refine x_icmp_ne (tgt := 349) (pc2 := 316) C dX11_justify_313 (by decide) rfl (fun qc_7 => ?_) (fun qc_7 => ?_)
        · refine x_iconst (pc2 := 350) (v := 0) C dX11_justify_349 rfl rfl ?_
          rw [if_neg qc_7] at hq_6
          obtain rfl := (Option.some.inj hq_6).symm
          exact x_sub (lv2 := [(0, _), (1, _), (4, _), (5, _), (7, _)]) C [4, 5, 3, 2, 0] rfl hj_6
        · refine x_aload_n (pc2 := 317) C dX11_justify_316 4 rfl rfl rfl ?_
          refine x_getR (f := 1121) (k2 := 2121) (pc2 := 320) C (by assumption) kf_11_70 dX11_justify_317 rfl rfl rfl (rti_i rfl) rfl (fun qd_8 => ?_)
          refine x_bipush (pc2 := 322) (v := 24) C dX11_justify_320 rfl rfl ?_
          refine x_iload_n (pc2 := 323) C dX11_justify_322 5 rfl rfl rfl ?_
          refine x_imul (pc2 := 324) C dX11_justify_323 rfl ?_
          refine x_iload (pc2 := 326) C dX11_justify_324 0 rfl rfl ?_
          refine x_iadd (pc2 := 327) C dX11_justify_326 rfl ?_
          rcases (Decidable.em (inB (((24 : Int32) * y1) + y7) 48)).symm with qg_9 | qg_9
          · exact absurd hq_6 (by rw [if_pos qc_7, if_neg qg_9]; exact nofun)
          refine x_iald (pc2 := 328) C (by assumption) dX11_justify_327 rfl (inB_in qg_9) rfl ?_
          refine x_aload_n (pc2 := 329) C dX11_justify_328 4 rfl rfl rfl ?_
          refine x_getR (f := 1121) (k2 := 2121) (pc2 := 332) C (by assumption) kf_11_70 dX11_justify_329 rfl rfl rfl (rti_i rfl) rfl (fun qd_10 => ?_)
          refine x_bipush (pc2 := 334) (v := 24) C dX11_justify_332 rfl rfl ?_
          refine x_iload_n (pc2 := 335) C dX11_justify_334 5 rfl rfl rfl ?_
          refine x_imul (pc2 := 336) C dX11_justify_335 rfl ?_
          refine x_iload (pc2 := 338) C dX11_justify_336 2 rfl rfl ?_
          refine x_iadd (pc2 := 339) C dX11_justify_338 rfl ?_
          rcases (Decidable.em (inB (((24 : Int32) * y1) + y5) 48)).symm with qg_11 | qg_11
          · exact absurd hq_6 (by rw [if_pos qc_7, if_pos qg_9, if_neg qg_11]; exact nofun)
          refine x_iald (pc2 := 340) C (by assumption) dX11_justify_339 rfl (inB_in qg_11) rfl ?_
          refine x_iconst (pc2 := 341) (v := 1) C dX11_justify_340 rfl rfl ?_
          refine x_iadd (pc2 := 342) C dX11_justify_341 rfl ?_
          refine x_icmp_ne (tgt := 349) (pc2 := 345) C dX11_justify_342 (by decide) rfl (fun qc_12 => ?_) (fun qc_12 => ?_)
          · refine x_iconst (pc2 := 350) (v := 0) C dX11_justify_349 rfl rfl ?_
            rw [if_pos qc_7, if_pos qg_9, if_pos qg_11, if_neg qc_12] at hq_6
            obtain rfl := (Option.some.inj hq_6).symm
            exact x_sub (lv2 := [(0, _), (1, _), (4, _), (5, _), (7, _)]) C [4, 5, 3, 2, 0] rfl hj_6
          · refine x_iconst (pc2 := 346) (v := 1) C dX11_justify_345 rfl rfl ?_
            refine x_goto (tgt := 350) C dX11_justify_346 (by decide) ?_
            rw [if_pos qc_7, if_pos qg_9, if_pos qg_11, if_pos qc_12] at hq_6
            obtain rfl := (Option.some.inj hq_6).symm
            exact x_sub (lv2 := [(0, _), (1, _), (4, _), (5, _), (7, _)]) C [4, 5, 3, 2, 0] rfl hj_6
      refine x_ior (pc2 := 351) C dX11_justify_350 rfl ?_
      refine x_istore (pc2 := 353) (lv2 := [(6, _), (0, _), (1, _), (4, _), (5, _), (7, _)]) C dX11_justify_351 (by decide) rfl rfl ?_
      refine x_iinc (pc2 := 356) (v := y7 + 1) (lv2 := [(7, _), (6, _), (0, _), (1, _), (4, _), (5, _)]) C dX11_justify_353 5 rfl rfl (by decide) rfl rfl ?_
      refine x_goto (tgt := 280) C dX11_justify_356 (by decide) ?_
      exact x_sub (lv2 := [(7, _), (6, _), (5, _), (4, _), (0, _), (1, _)]) C [0, 1, 5, 4, 2, 3] rfl (ih (y7 + 1) (y6 ||| j_6) (by rw [fX11_justify_l280, if_pos qg_2, if_neg qc_3, if_pos qg_5, ob_s hq_6] at hf; exact hf) hk)
def fX11_justify_l263 (Ω : XO) (y1 : Int32) : Nat → Int32 → Int32 → Option (Int32 × Int32)
  | 0, _, _ => none
  | n + 1, y5, y4 => (if inB y1 2 then (if (xI Ω 2109 0 y1.toNatClampNeg) ≤ y5 then (some (y5, y4)) else (fX11_justify_l280 Ω y5 y4 y1 ((xI Ω 2109 0 y1.toNatClampNeg).toNatClampNeg + 1) (0 : Int32) (0 : Int32)).bind (fun q_4 => (((if y4 < 0 then (some (1 : Int32)) else (if inB (((24 : Int32) * y1) + y5) 48 then (if inB (((24 : Int32) * y1) + y4) 48 then (if (xI Ω 2121 0 (((24 : Int32) * y1) + y5).toNatClampNeg) ≤ (xI Ω 2121 0 (((24 : Int32) * y1) + y4).toNatClampNeg) then (some (0 : Int32)) else (some (1 : Int32))) else none) else none)) : Option (Int32))).bind (fun j_5 => (((if q_4.2 = 0 then (some y4) else (if inB (((24 : Int32) * y1) + y5) 48 then (if (xI Ω 2133 0 (((24 : Int32) * y1) + y5).toNatClampNeg) = (1 : Int32) then (if inB y1 2 then (if y5 = (xI Ω 2110 0 y1.toNatClampNeg) then (some y4) else (if inB y1 2 then (fX11_from Ω y1 y5 (xI Ω 2110 0 y1.toNatClampNeg)).bind (fun r_22 => (if r_22 = 0 then (some y4) else (if j_5 = 0 then (some y4) else (some y5)))) else none)) else none) else (some y4)) else none)) : Option (Int32))).bind (fun j_12 => fX11_justify_l263 Ω y1 n (y5 + 1) j_12)))) else none)
set_option maxRecDepth 20000 in
theorem lX11_justify_l263 {G : XG} (hok : XK G) {B : XB} {y1 : Int32} {Ω : XO} (hf0 : dm G 11 0)   {T : Option Value ⊕ String} {Ω9 : XO} (C : XC G B cX11_justify RX11 (RM 1 0) 8 none T Ω9) : ∀ (n : Nat) (y5 : Int32) (y4 : Int32) {r : (Int32 × Int32)}, fX11_justify_l263 Ω y1 n y5 y4 = some r → (∀ q, r = q → (XW G B 8 466 [(4, .int (q.2)), (0, .ref (ad G 11 (0))), (1, .int (y1))] [] Ω 0 0)) → XW G B 8 263 [(5, .int (y5)), (4, .int (y4)), (0, .ref (ad G 11 (0))), (1, .int (y1))] [] Ω 0 0 := by
  intro n
  induction n with
  | zero => intro y5 y4 r hf; exact absurd hf (by rw [fX11_justify_l263]; exact nofun)
  | succ n ih =>
    intro y5 y4 r hf hk
    refine x_iload (pc2 := 265) C dX11_justify_263 0 rfl rfl ?_
    refine x_aload_n (pc2 := 266) C dX11_justify_265 2 rfl rfl rfl ?_
    refine x_getR (f := 1109) (k2 := 2109) (pc2 := 269) C (by assumption) kf_11_34 dX11_justify_266 rfl rfl rfl (rti_i rfl) rfl (fun qd_1 => ?_)
    refine x_iload_n (pc2 := 270) C dX11_justify_269 3 rfl rfl rfl ?_
    rcases (Decidable.em (inB y1 2)).symm with qg_2 | qg_2
    · exact absurd hf (by rw [fX11_justify_l263, if_neg qg_2]; exact nofun)
    refine x_iald (pc2 := 271) C (by assumption) dX11_justify_270 rfl (inB_in qg_2) rfl ?_
    refine x_icmp_ge (tgt := 466) (pc2 := 274) C dX11_justify_271 (by decide) rfl (fun qc_3 => ?_) (fun qc_3 => ?_)
    · rw [fX11_justify_l263, if_pos qg_2, if_pos qc_3] at hf
      exact x_sub (lv2 := [(4, _), (0, _), (1, _)]) C [1, 2, 3] rfl (hk _ (Option.some.inj hf).symm)
    · refine x_iconst (pc2 := 275) (v := 0) C dX11_justify_274 rfl rfl ?_
      refine x_istore (pc2 := 277) (lv2 := [(6, _), (5, _), (4, _), (0, _), (1, _)]) C dX11_justify_275 (by decide) rfl rfl ?_
      refine x_iconst (pc2 := 278) (v := 0) C dX11_justify_277 rfl rfl ?_
      refine x_istore (pc2 := 280) (lv2 := [(7, _), (6, _), (5, _), (4, _), (0, _), (1, _)]) C dX11_justify_278 (by decide) rfl rfl ?_
      rcases opt_em (fX11_justify_l280 Ω y5 y4 y1 ((xI Ω 2109 0 y1.toNatClampNeg).toNatClampNeg + 1) (0 : Int32) (0 : Int32)) with hq_4 | ⟨q_4, hq_4⟩
      · exact absurd hf (by rw [fX11_justify_l263, if_pos qg_2, if_neg qc_3, ob_n hq_4]; exact nofun)
      refine x_sub (lv2 := [(7, _), (6, _), (5, _), (4, _), (0, _), (1, _)]) C [0, 1, 2, 3, 4, 5] rfl (lX11_justify_l280 hok (by assumption) C ((xI Ω 2109 0 y1.toNatClampNeg).toNatClampNeg + 1) (0 : Int32) (0 : Int32) hq_4 (fun q9 h9 => ?_))
      cases h9
      refine x_iload (pc2 := 361) C dX11_justify_359 2 rfl rfl ?_
      rcases opt_em ((if y4 < 0 then (some (1 : Int32)) else (if inB (((24 : Int32) * y1) + y5) 48 then (if inB (((24 : Int32) * y1) + y4) 48 then (if (xI Ω 2121 0 (((24 : Int32) * y1) + y5).toNatClampNeg) ≤ (xI Ω 2121 0 (((24 : Int32) * y1) + y4).toNatClampNeg) then (some (0 : Int32)) else (some (1 : Int32))) else none) else none)) : Option (Int32)) with hq_5 | ⟨j_5, hq_5⟩
      · exact absurd hf (by rw [fX11_justify_l263, if_pos qg_2, if_neg qc_3, ob_s hq_4, ob_n hq_5]; exact nofun)
      suffices hj_5 : XW G B 8 396 [(0, .ref (ad G 11 (0))), (1, .int (y1)), (4, .int (y4)), (5, .int (y5)), (6, .int (q_4.2))] [.int (j_5)] Ω 0 0 by
        refine x_if_lt (tgt := 391) (pc2 := 364) C dX11_justify_361 (by decide) rfl (fun qc_6 => ?_) (fun qc_6 => ?_)
        · refine x_iconst (pc2 := 392) (v := 1) C dX11_justify_391 rfl rfl ?_
          refine x_goto (tgt := 396) C dX11_justify_392 (by decide) ?_
          rw [if_pos qc_6] at hq_5
          obtain rfl := (Option.some.inj hq_5).symm
          exact x_sub (lv2 := [(0, _), (1, _), (4, _), (5, _), (6, _)]) C [3, 4, 2, 1, 0] rfl hj_5
        · refine x_aload_n (pc2 := 365) C dX11_justify_364 3 rfl rfl rfl ?_
          refine x_getR (f := 1121) (k2 := 2121) (pc2 := 368) C (by assumption) kf_11_70 dX11_justify_365 rfl rfl rfl (rti_i rfl) rfl (fun qd_7 => ?_)
          refine x_bipush (pc2 := 370) (v := 24) C dX11_justify_368 rfl rfl ?_
          refine x_iload_n (pc2 := 371) C dX11_justify_370 4 rfl rfl rfl ?_
          refine x_imul (pc2 := 372) C dX11_justify_371 rfl ?_
          refine x_iload (pc2 := 374) C dX11_justify_372 1 rfl rfl ?_
          refine x_iadd (pc2 := 375) C dX11_justify_374 rfl ?_
          rcases (Decidable.em (inB (((24 : Int32) * y1) + y5) 48)).symm with qg_8 | qg_8
          · exact absurd hq_5 (by rw [if_neg qc_6, if_neg qg_8]; exact nofun)
          refine x_iald (pc2 := 376) C (by assumption) dX11_justify_375 rfl (inB_in qg_8) rfl ?_
          refine x_aload_n (pc2 := 377) C dX11_justify_376 3 rfl rfl rfl ?_
          refine x_getR (f := 1121) (k2 := 2121) (pc2 := 380) C (by assumption) kf_11_70 dX11_justify_377 rfl rfl rfl (rti_i rfl) rfl (fun qd_9 => ?_)
          refine x_bipush (pc2 := 382) (v := 24) C dX11_justify_380 rfl rfl ?_
          refine x_iload_n (pc2 := 383) C dX11_justify_382 4 rfl rfl rfl ?_
          refine x_imul (pc2 := 384) C dX11_justify_383 rfl ?_
          refine x_iload (pc2 := 386) C dX11_justify_384 2 rfl rfl ?_
          refine x_iadd (pc2 := 387) C dX11_justify_386 rfl ?_
          rcases (Decidable.em (inB (((24 : Int32) * y1) + y4) 48)).symm with qg_10 | qg_10
          · exact absurd hq_5 (by rw [if_neg qc_6, if_pos qg_8, if_neg qg_10]; exact nofun)
          refine x_iald (pc2 := 388) C (by assumption) dX11_justify_387 rfl (inB_in qg_10) rfl ?_
          refine x_icmp_le (tgt := 395) (pc2 := 391) C dX11_justify_388 (by decide) rfl (fun qc_11 => ?_) (fun qc_11 => ?_)
          · refine x_iconst (pc2 := 396) (v := 0) C dX11_justify_395 rfl rfl ?_
            rw [if_neg qc_6, if_pos qg_8, if_pos qg_10, if_pos qc_11] at hq_5
            obtain rfl := (Option.some.inj hq_5).symm
            exact x_sub (lv2 := [(0, _), (1, _), (4, _), (5, _), (6, _)]) C [3, 4, 2, 1, 0] rfl hj_5
          · refine x_iconst (pc2 := 392) (v := 1) C dX11_justify_391 rfl rfl ?_
            refine x_goto (tgt := 396) C dX11_justify_392 (by decide) ?_
            rw [if_neg qc_6, if_pos qg_8, if_pos qg_10, if_neg qc_11] at hq_5
            obtain rfl := (Option.some.inj hq_5).symm
            exact x_sub (lv2 := [(0, _), (1, _), (4, _), (5, _), (6, _)]) C [3, 4, 2, 1, 0] rfl hj_5
      refine x_istore (pc2 := 398) (lv2 := [(7, _), (0, _), (1, _), (4, _), (5, _), (6, _)]) C dX11_justify_396 (by decide) rfl rfl ?_
      refine x_iload (pc2 := 400) C dX11_justify_398 5 rfl rfl ?_
      rcases opt_em ((if q_4.2 = 0 then (some y4) else (if inB (((24 : Int32) * y1) + y5) 48 then (if (xI Ω 2133 0 (((24 : Int32) * y1) + y5).toNatClampNeg) = (1 : Int32) then (if inB y1 2 then (if y5 = (xI Ω 2110 0 y1.toNatClampNeg) then (some y4) else (if inB y1 2 then (fX11_from Ω y1 y5 (xI Ω 2110 0 y1.toNatClampNeg)).bind (fun r_22 => (if r_22 = 0 then (some y4) else (if j_5 = 0 then (some y4) else (some y5)))) else none)) else none) else (some y4)) else none)) : Option (Int32)) with hq_12 | ⟨j_12, hq_12⟩
      · exact absurd hf (by rw [fX11_justify_l263, if_pos qg_2, if_neg qc_3, ob_s hq_4, ob_s hq_5, ob_n hq_12]; exact nofun)
      suffices hj_12 : XW G B 8 458 [(0, .ref (ad G 11 (0))), (1, .int (y1)), (5, .int (y5))] [.int (j_12)] Ω 0 0 by
        refine x_if_eq (tgt := 456) (pc2 := 403) C dX11_justify_400 (by decide) rfl (fun qc_13 => ?_) (fun qc_13 => ?_)
        · refine x_iload (pc2 := 458) C dX11_justify_456 3 rfl rfl ?_
          rw [if_pos qc_13] at hq_12
          obtain rfl := (Option.some.inj hq_12).symm
          exact x_sub (lv2 := [(0, _), (1, _), (5, _)]) C [1, 2, 4] rfl hj_12
        · refine x_aload_n (pc2 := 404) C dX11_justify_403 1 rfl rfl rfl ?_
          refine x_getR (f := 1133) (k2 := 2133) (pc2 := 407) C (by assumption) kf_11_107 dX11_justify_404 rfl rfl rfl (rti_i rfl) rfl (fun qd_14 => ?_)
          refine x_bipush (pc2 := 409) (v := 24) C dX11_justify_407 rfl rfl ?_
          refine x_iload_n (pc2 := 410) C dX11_justify_409 2 rfl rfl rfl ?_
          refine x_imul (pc2 := 411) C dX11_justify_410 rfl ?_
          refine x_iload (pc2 := 413) C dX11_justify_411 4 rfl rfl ?_
          refine x_iadd (pc2 := 414) C dX11_justify_413 rfl ?_
          rcases (Decidable.em (inB (((24 : Int32) * y1) + y5) 48)).symm with qg_15 | qg_15
          · exact absurd hq_12 (by rw [if_neg qc_13, if_neg qg_15]; exact nofun)
          refine x_iald (pc2 := 415) C (by assumption) dX11_justify_414 rfl (inB_in qg_15) rfl ?_
          refine x_iconst (pc2 := 416) (v := 1) C dX11_justify_415 rfl rfl ?_
          refine x_icmp_ne (tgt := 456) (pc2 := 419) C dX11_justify_416 (by decide) rfl (fun qc_16 => ?_) (fun qc_16 => ?_)
          · refine x_iload (pc2 := 458) C dX11_justify_456 3 rfl rfl ?_
            rw [if_neg qc_13, if_pos qg_15, if_neg qc_16] at hq_12
            obtain rfl := (Option.some.inj hq_12).symm
            exact x_sub (lv2 := [(0, _), (1, _), (5, _)]) C [1, 2, 4] rfl hj_12
          · refine x_iload (pc2 := 421) C dX11_justify_419 4 rfl rfl ?_
            refine x_aload_n (pc2 := 422) C dX11_justify_421 1 rfl rfl rfl ?_
            refine x_getR (f := 1110) (k2 := 2110) (pc2 := 425) C (by assumption) kf_11_37 dX11_justify_422 rfl rfl rfl (rti_i rfl) rfl (fun qd_17 => ?_)
            refine x_iload_n (pc2 := 426) C dX11_justify_425 2 rfl rfl rfl ?_
            rcases (Decidable.em (inB y1 2)).symm with qg_18 | qg_18
            · exact absurd hq_12 (by rw [if_neg qc_13, if_pos qg_15, if_pos qc_16, if_neg qg_18]; exact nofun)
            refine x_iald (pc2 := 427) C (by assumption) dX11_justify_426 rfl (inB_in qg_18) rfl ?_
            refine x_icmp_eq (tgt := 456) (pc2 := 430) C dX11_justify_427 (by decide) rfl (fun qc_19 => ?_) (fun qc_19 => ?_)
            · refine x_iload (pc2 := 458) C dX11_justify_456 3 rfl rfl ?_
              rw [if_neg qc_13, if_pos qg_15, if_pos qc_16, if_pos qg_18, if_pos qc_19] at hq_12
              obtain rfl := (Option.some.inj hq_12).symm
              exact x_sub (lv2 := [(0, _), (1, _), (5, _)]) C [1, 2, 4] rfl hj_12
            · refine x_aload_n (pc2 := 431) C dX11_justify_430 1 rfl rfl rfl ?_
              refine x_iload_n (pc2 := 432) C dX11_justify_431 2 rfl rfl rfl ?_
              refine x_iload (pc2 := 434) C dX11_justify_432 4 rfl rfl ?_
              refine x_aload_n (pc2 := 435) C dX11_justify_434 1 rfl rfl rfl ?_
              refine x_getR (f := 1110) (k2 := 2110) (pc2 := 438) C (by assumption) kf_11_37 dX11_justify_435 rfl rfl rfl (rti_i rfl) rfl (fun qd_20 => ?_)
              refine x_iload_n (pc2 := 439) C dX11_justify_438 2 rfl rfl rfl ?_
              rcases (Decidable.em (inB y1 2)).symm with qg_21 | qg_21
              · exact absurd hq_12 (by rw [if_neg qc_13, if_pos qg_15, if_pos qc_16, if_pos qg_18, if_neg qc_19, if_neg qg_21]; exact nofun)
              refine x_iald (pc2 := 440) C (by assumption) dX11_justify_439 rfl (inB_in qg_21) rfl ?_
              rcases opt_em (fX11_from Ω y1 y5 (xI Ω 2110 0 y1.toNatClampNeg)) with hq_22 | ⟨r_22, hq_22⟩
              · exact absurd hq_12 (by rw [if_neg qc_13, if_pos qg_15, if_pos qc_16, if_pos qg_18, if_neg qc_19, if_pos qg_21, ob_n hq_22]; exact nofun)
              refine x_ret (rest := []) (st2 := [_]) (pc2 := 443) (cu2 := 0) (su2 := 0) (x_cV C (by assumption) (Nat.le_of_ble_eq_true rfl) kmX11_from rfl kk_11_361 (tX11_from hok (by assumption)  hq_22) rfl rfl (Nat.le_of_ble_eq_true rfl) ⟨Nat.le_of_ble_eq_true rfl, Nat.le_of_ble_eq_true rfl⟩ ⟨Nat.le_of_ble_eq_true rfl, Nat.le_of_ble_eq_true rfl⟩ dX11_justify_440) rfl rfl rfl rfl ?_
              refine x_if_eq (tgt := 456) (pc2 := 446) C dX11_justify_443 (by decide) rfl (fun qc_23 => ?_) (fun qc_23 => ?_)
              · refine x_iload (pc2 := 458) C dX11_justify_456 3 rfl rfl ?_
                rw [if_neg qc_13, if_pos qg_15, if_pos qc_16, if_pos qg_18, if_neg qc_19, if_pos qg_21, ob_s hq_22, if_pos qc_23] at hq_12
                obtain rfl := (Option.some.inj hq_12).symm
                exact x_sub (lv2 := [(0, _), (1, _), (5, _)]) C [1, 2, 4] rfl hj_12
              · refine x_iload (pc2 := 448) C dX11_justify_446 0 rfl rfl ?_
                refine x_if_eq (tgt := 456) (pc2 := 451) C dX11_justify_448 (by decide) rfl (fun qc_24 => ?_) (fun qc_24 => ?_)
                · refine x_iload (pc2 := 458) C dX11_justify_456 3 rfl rfl ?_
                  rw [if_neg qc_13, if_pos qg_15, if_pos qc_16, if_pos qg_18, if_neg qc_19, if_pos qg_21, ob_s hq_22, if_neg qc_23, if_pos qc_24] at hq_12
                  obtain rfl := (Option.some.inj hq_12).symm
                  exact x_sub (lv2 := [(0, _), (1, _), (5, _)]) C [1, 2, 4] rfl hj_12
                · refine x_iload (pc2 := 453) C dX11_justify_451 4 rfl rfl ?_
                  refine x_goto (tgt := 458) C dX11_justify_453 (by decide) ?_
                  rw [if_neg qc_13, if_pos qg_15, if_pos qc_16, if_pos qg_18, if_neg qc_19, if_pos qg_21, ob_s hq_22, if_neg qc_23, if_neg qc_24] at hq_12
                  obtain rfl := (Option.some.inj hq_12).symm
                  exact x_sub (lv2 := [(0, _), (1, _), (5, _)]) C [1, 2, 4] rfl hj_12
      refine x_istore (pc2 := 460) (lv2 := [(4, _), (0, _), (1, _), (5, _)]) C dX11_justify_458 (by decide) rfl rfl ?_
      refine x_iinc (pc2 := 463) (v := y5 + 1) (lv2 := [(5, _), (4, _), (0, _), (1, _)]) C dX11_justify_460 3 rfl rfl (by decide) rfl rfl ?_
      refine x_goto (tgt := 263) C dX11_justify_463 (by decide) ?_
      exact x_sub (lv2 := [(5, _), (4, _), (0, _), (1, _)]) C [0, 1, 2, 3] rfl (ih (y5 + 1) j_12 (by rw [fX11_justify_l263, if_pos qg_2, if_neg qc_3, ob_s hq_4, ob_s hq_5, ob_s hq_12] at hf; exact hf) hk)
def fX11_justify (Ω : XO) (x1 : Int32) : Option (XO) := (if inB ((4 : Int32) * x1) 8 then (if inB (((4 : Int32) * x1) + (1 : Int32)) 8 then (if inB (((4 : Int32) * x1) + (2 : Int32)) 8 then (if inB (((4 : Int32) * x1) + (3 : Int32)) 8 then (fX11_justify_l44 ((((xI Ω 2139 0 ((4 : Int32) * x1).toNatClampNeg) + (xI Ω 2139 0 (((4 : Int32) * x1) + (1 : Int32)).toNatClampNeg)) + (xI Ω 2139 0 (((4 : Int32) * x1) + (2 : Int32)).toNatClampNeg)) + (xI Ω 2139 0 (((4 : Int32) * x1) + (3 : Int32)).toNatClampNeg)) x1 600 (1 : Int32) Ω).bind (fun q_9 => (fX11_justify_l263 q_9.2 x1 ((xI q_9.2 2109 0 x1.toNatClampNeg).toNatClampNeg + 1) (0 : Int32) (-1 : Int32)).bind (fun q_10 => (((if 0 ≤ q_10.2 then (some q_10.2) else (if inB x1 2 then (some (xI q_9.2 2110 0 x1.toNatClampNeg)) else none)) : Option (Int32))).bind (fun j_12 => (if inB x1 2 then (wl (uI q_9.2 2110 0 x1.toNatClampNeg j_12) (fun Ω_17 => (some Ω_17))) else none)))) else none) else none) else none) else none)
set_option maxRecDepth 20000 in
theorem tX11_justify {G : XG} (hok : XK G) {x1 : Int32} {Ω : XO} (hd0 : dm G 11 0)   {r : XO} (hf : fX11_justify Ω x1 = some r) : XM G yX11_justify cX11_justify 8 none (RM 1 0) [.ref (ad G 11 0), .int x1] Ω (.inl none) (r) := by
  refine x_start (lv := [(0, .ref (ad G 11 0)), (1, .int x1)]) (own := RX11) hok (by decide +kernel) rfl (Nat.le_of_ble_eq_true rfl) rfl (fun B C => ?_)
  refine x_aload_n (pc2 := 1) C dX11_justify_0 0 rfl rfl rfl ?_
  refine x_getR (f := 1139) (k2 := 2139) (pc2 := 4) C (by assumption) kf_11_125 dX11_justify_1 rfl rfl rfl (rti_i rfl) rfl (fun qd_1 => ?_)
  refine x_iconst (pc2 := 5) (v := 4) C dX11_justify_4 rfl rfl ?_
  refine x_iload_n (pc2 := 6) C dX11_justify_5 1 rfl rfl rfl ?_
  refine x_imul (pc2 := 7) C dX11_justify_6 rfl ?_
  rcases (Decidable.em (inB ((4 : Int32) * x1) 8)).symm with qg_2 | qg_2
  · exact absurd hf (by rw [fX11_justify, if_neg qg_2]; exact nofun)
  refine x_iald (pc2 := 8) C (by assumption) dX11_justify_7 rfl (inB_in qg_2) rfl ?_
  refine x_aload_n (pc2 := 9) C dX11_justify_8 0 rfl rfl rfl ?_
  refine x_getR (f := 1139) (k2 := 2139) (pc2 := 12) C (by assumption) kf_11_125 dX11_justify_9 rfl rfl rfl (rti_i rfl) rfl (fun qd_3 => ?_)
  refine x_iconst (pc2 := 13) (v := 4) C dX11_justify_12 rfl rfl ?_
  refine x_iload_n (pc2 := 14) C dX11_justify_13 1 rfl rfl rfl ?_
  refine x_imul (pc2 := 15) C dX11_justify_14 rfl ?_
  refine x_iconst (pc2 := 16) (v := 1) C dX11_justify_15 rfl rfl ?_
  refine x_iadd (pc2 := 17) C dX11_justify_16 rfl ?_
  rcases (Decidable.em (inB (((4 : Int32) * x1) + (1 : Int32)) 8)).symm with qg_4 | qg_4
  · exact absurd hf (by rw [fX11_justify, if_pos qg_2, if_neg qg_4]; exact nofun)
  refine x_iald (pc2 := 18) C (by assumption) dX11_justify_17 rfl (inB_in qg_4) rfl ?_
  refine x_iadd (pc2 := 19) C dX11_justify_18 rfl ?_
  refine x_aload_n (pc2 := 20) C dX11_justify_19 0 rfl rfl rfl ?_
  refine x_getR (f := 1139) (k2 := 2139) (pc2 := 23) C (by assumption) kf_11_125 dX11_justify_20 rfl rfl rfl (rti_i rfl) rfl (fun qd_5 => ?_)
  refine x_iconst (pc2 := 24) (v := 4) C dX11_justify_23 rfl rfl ?_
  refine x_iload_n (pc2 := 25) C dX11_justify_24 1 rfl rfl rfl ?_
  refine x_imul (pc2 := 26) C dX11_justify_25 rfl ?_
  refine x_iconst (pc2 := 27) (v := 2) C dX11_justify_26 rfl rfl ?_
  refine x_iadd (pc2 := 28) C dX11_justify_27 rfl ?_
  rcases (Decidable.em (inB (((4 : Int32) * x1) + (2 : Int32)) 8)).symm with qg_6 | qg_6
  · exact absurd hf (by rw [fX11_justify, if_pos qg_2, if_pos qg_4, if_neg qg_6]; exact nofun)
  refine x_iald (pc2 := 29) C (by assumption) dX11_justify_28 rfl (inB_in qg_6) rfl ?_
  refine x_iadd (pc2 := 30) C dX11_justify_29 rfl ?_
  refine x_aload_n (pc2 := 31) C dX11_justify_30 0 rfl rfl rfl ?_
  refine x_getR (f := 1139) (k2 := 2139) (pc2 := 34) C (by assumption) kf_11_125 dX11_justify_31 rfl rfl rfl (rti_i rfl) rfl (fun qd_7 => ?_)
  refine x_iconst (pc2 := 35) (v := 4) C dX11_justify_34 rfl rfl ?_
  refine x_iload_n (pc2 := 36) C dX11_justify_35 1 rfl rfl rfl ?_
  refine x_imul (pc2 := 37) C dX11_justify_36 rfl ?_
  refine x_iconst (pc2 := 38) (v := 3) C dX11_justify_37 rfl rfl ?_
  refine x_iadd (pc2 := 39) C dX11_justify_38 rfl ?_
  rcases (Decidable.em (inB (((4 : Int32) * x1) + (3 : Int32)) 8)).symm with qg_8 | qg_8
  · exact absurd hf (by rw [fX11_justify, if_pos qg_2, if_pos qg_4, if_pos qg_6, if_neg qg_8]; exact nofun)
  refine x_iald (pc2 := 40) C (by assumption) dX11_justify_39 rfl (inB_in qg_8) rfl ?_
  refine x_iadd (pc2 := 41) C dX11_justify_40 rfl ?_
  refine x_istore_n (pc2 := 42) (lv2 := [(2, _), (0, _), (1, _)]) C dX11_justify_41 rfl (by decide) rfl rfl ?_
  refine x_iconst (pc2 := 43) (v := 1) C dX11_justify_42 rfl rfl ?_
  refine x_istore_n (pc2 := 44) (lv2 := [(3, _), (2, _), (0, _), (1, _)]) C dX11_justify_43 rfl (by decide) rfl rfl ?_
  rcases opt_em (fX11_justify_l44 ((((xI Ω 2139 0 ((4 : Int32) * x1).toNatClampNeg) + (xI Ω 2139 0 (((4 : Int32) * x1) + (1 : Int32)).toNatClampNeg)) + (xI Ω 2139 0 (((4 : Int32) * x1) + (2 : Int32)).toNatClampNeg)) + (xI Ω 2139 0 (((4 : Int32) * x1) + (3 : Int32)).toNatClampNeg)) x1 600 (1 : Int32) Ω) with hq_9 | ⟨q_9, hq_9⟩
  · exact absurd hf (by rw [fX11_justify, if_pos qg_2, if_pos qg_4, if_pos qg_6, if_pos qg_8, ob_n hq_9]; exact nofun)
  refine x_sub (lv2 := [(3, _), (2, _), (0, _), (1, _)]) C [0, 1, 2, 3] rfl (lX11_justify_l44 hok (by assumption) C 600 (1 : Int32) Ω hq_9 (fun q9 h9 => ?_))
  cases h9
  refine x_iconst (pc2 := 258) (v := (-1)) C dX11_justify_257 rfl rfl ?_
  refine x_istore (pc2 := 260) (lv2 := [(4, _), (0, _), (1, _)]) C dX11_justify_258 (by decide) rfl rfl ?_
  refine x_iconst (pc2 := 261) (v := 0) C dX11_justify_260 rfl rfl ?_
  refine x_istore (pc2 := 263) (lv2 := [(5, _), (4, _), (0, _), (1, _)]) C dX11_justify_261 (by decide) rfl rfl ?_
  rcases opt_em (fX11_justify_l263 q_9.2 x1 ((xI q_9.2 2109 0 x1.toNatClampNeg).toNatClampNeg + 1) (0 : Int32) (-1 : Int32)) with hq_10 | ⟨q_10, hq_10⟩
  · exact absurd hf (by rw [fX11_justify, if_pos qg_2, if_pos qg_4, if_pos qg_6, if_pos qg_8, ob_s hq_9, ob_n hq_10]; exact nofun)
  refine x_sub (lv2 := [(5, _), (4, _), (0, _), (1, _)]) C [0, 1, 2, 3] rfl (lX11_justify_l263 hok (by assumption) C ((xI q_9.2 2109 0 x1.toNatClampNeg).toNatClampNeg + 1) (0 : Int32) (-1 : Int32) hq_10 (fun q9 h9 => ?_))
  cases h9
  refine x_aload_n (pc2 := 467) C dX11_justify_466 1 rfl rfl rfl ?_
  refine x_getR (f := 1110) (k2 := 2110) (pc2 := 470) C (by assumption) kf_11_37 dX11_justify_467 rfl rfl rfl (rti_i rfl) rfl (fun qd_11 => ?_)
  refine x_iload_n (pc2 := 471) C dX11_justify_470 2 rfl rfl rfl ?_
  refine x_iload (pc2 := 473) C dX11_justify_471 0 rfl rfl ?_
  rcases opt_em ((if 0 ≤ q_10.2 then (some q_10.2) else (if inB x1 2 then (some (xI q_9.2 2110 0 x1.toNatClampNeg)) else none)) : Option (Int32)) with hq_12 | ⟨j_12, hq_12⟩
  · exact absurd hf (by rw [fX11_justify, if_pos qg_2, if_pos qg_4, if_pos qg_6, if_pos qg_8, ob_s hq_9, ob_s hq_10, ob_n hq_12]; exact nofun)
  suffices hj_12 : XW G B 8 487 [] [.int (j_12), .int (x1), .ref (ad G 2110 (0))] q_9.2 0 0 by
    refine x_if_ge (tgt := 485) (pc2 := 476) C dX11_justify_473 (by decide) rfl (fun qc_13 => ?_) (fun qc_13 => ?_)
    · refine x_iload (pc2 := 487) C dX11_justify_485 0 rfl rfl ?_
      rw [if_pos qc_13] at hq_12
      obtain rfl := (Option.some.inj hq_12).symm
      exact x_sub (lv2 := []) C [] rfl hj_12
    · refine x_aload_n (pc2 := 477) C dX11_justify_476 1 rfl rfl rfl ?_
      refine x_getR (f := 1110) (k2 := 2110) (pc2 := 480) C (by assumption) kf_11_37 dX11_justify_477 rfl rfl rfl (rti_i rfl) rfl (fun qd_14 => ?_)
      refine x_iload_n (pc2 := 481) C dX11_justify_480 2 rfl rfl rfl ?_
      rcases (Decidable.em (inB x1 2)).symm with qg_15 | qg_15
      · exact absurd hq_12 (by rw [if_neg qc_13, if_neg qg_15]; exact nofun)
      refine x_iald (pc2 := 482) C (by assumption) dX11_justify_481 rfl (inB_in qg_15) rfl ?_
      refine x_goto (tgt := 487) C dX11_justify_482 (by decide) ?_
      rw [if_neg qc_13, if_pos qg_15] at hq_12
      obtain rfl := (Option.some.inj hq_12).symm
      exact x_sub (lv2 := []) C [] rfl hj_12
  rcases (Decidable.em (inB x1 2)).symm with qg_16 | qg_16
  · exact absurd hf (by rw [fX11_justify, if_pos qg_2, if_pos qg_4, if_pos qg_6, if_pos qg_8, ob_s hq_9, ob_s hq_10, ob_s hq_12, if_neg qg_16]; exact nofun)
  refine x_iast (pc2 := 488) C (by assumption) dX11_justify_487 rfl (inB_in qg_16) rfl ?_
  obtain ⟨Ω_17, hw_17⟩ : ∃ z, z = uI q_9.2 2110 0 x1.toNatClampNeg j_12 := ⟨_, rfl⟩
  refine x_om hw_17 ?_
  rw [fX11_justify, if_pos qg_2, if_pos qg_4, if_pos qg_6, if_pos qg_8, ob_s hq_9, ob_s hq_10, ob_s hq_12, if_pos qg_16, wl_eq hw_17] at hf
  obtain rfl := (Option.some.inj hf).symm
  exact x_vreturn C dX11_justify_488 rfl (Nat.le_of_ble_eq_true rfl) (Nat.le_of_ble_eq_true rfl) rfl rfl
def fX11_vote_l141 (Ω : XO) (y1 : Int32) (y3 : Int32) (y4 : Int32) (y7 : Int32) : Nat → Int32 → Int32 → Option (Int32 × Int32)
  | 0, _, _ => none
  | n + 1, y9, y8 => (if inB y7 8 then (if (xI Ω 2138 0 y7.toNatClampNeg) ≤ y9 then (some (y9, y8)) else (if inB (((20 : Int32) * y7) + y9) 160 then (((if (xI Ω 2136 0 (((20 : Int32) * y7) + y9).toNatClampNeg) = y4 then (some (0 : Int32)) else (if inB (((20 : Int32) * y7) + y9) 160 then (if inB (((24 : Int32) * y1) + (xI Ω 2136 0 (((20 : Int32) * y7) + y9).toNatClampNeg)) 48 then (if inB (((24 : Int32) * y1) + y4) 48 then (if (xI Ω 2121 0 (((24 : Int32) * y1) + (xI Ω 2136 0 (((20 : Int32) * y7) + y9).toNatClampNeg)).toNatClampNeg) = (xI Ω 2121 0 (((24 : Int32) * y1) + y4).toNatClampNeg) then (some (1 : Int32)) else (some (0 : Int32))) else none) else none) else none)) : Option (Int32))).bind (fun j_6 => (if inB (((20 : Int32) * y7) + y9) 160 then (if inB (((20 : Int32) * y7) + y9) 160 then (fX11_surrounds Ω y1 y3 y4 (xI Ω 2135 0 (((20 : Int32) * y7) + y9).toNatClampNeg) (xI Ω 2136 0 (((20 : Int32) * y7) + y9).toNatClampNeg)).bind (fun r_19 => (((if r_19 = 0 then (if inB (((20 : Int32) * y7) + y9) 160 then (if inB (((20 : Int32) * y7) + y9) 160 then (fX11_surrounds Ω y1 (xI Ω 2135 0 (((20 : Int32) * y7) + y9).toNatClampNeg) (xI Ω 2136 0 (((20 : Int32) * y7) + y9).toNatClampNeg) y3 y4).bind (fun r_26 => (if r_26 = 0 then (some (0 : Int32)) else (some (1 : Int32)))) else none) else none) else (some (1 : Int32))) : Option (Int32))).bind (fun j_20 => fX11_vote_l141 Ω y1 y3 y4 y7 n (y9 + 1) ((y8 ||| j_6) ||| j_20))) else none) else none)) else none)) else none)
set_option maxRecDepth 20000 in
theorem lX11_vote_l141 {G : XG} (hok : XK G) {B : XB} {y1 : Int32} {y3 : Int32} {y4 : Int32} {y7 : Int32} {Ω : XO} (hf0 : dm G 11 0)   {T : Option Value ⊕ String} {Ω9 : XO} (C : XC G B cX11_vote RX11 (RM 3 0) 11 ((some FieldType.boolean)) T Ω9) : ∀ (n : Nat) (y9 : Int32) (y8 : Int32) {r : (Int32 × Int32)}, fX11_vote_l141 Ω y1 y3 y4 y7 n y9 y8 = some r → (∀ q, r = q → (XW G B 11 283 [(8, .int (q.2)), (0, .ref (ad G 11 (0))), (1, .int (y1)), (3, .int (y3)), (4, .int (y4)), (7, .int (y7))] [] Ω 0 0)) → XW G B 11 141 [(9, .int (y9)), (8, .int (y8)), (0, .ref (ad G 11 (0))), (1, .int (y1)), (3, .int (y3)), (4, .int (y4)), (7, .int (y7))] [] Ω 0 0 := by
  intro n
  induction n with
  | zero => intro y9 y8 r hf; exact absurd hf (by rw [fX11_vote_l141]; exact nofun)
  | succ n ih =>
    intro y9 y8 r hf hk
    refine x_iload (pc2 := 143) C dX11_vote_141 0 rfl rfl ?_
    refine x_aload_n (pc2 := 144) C dX11_vote_143 2 rfl rfl rfl ?_
    refine x_getR (f := 1138) (k2 := 2138) (pc2 := 147) C (by assumption) kf_11_122 dX11_vote_144 rfl rfl rfl (rti_i rfl) rfl (fun qd_1 => ?_)
    refine x_iload (pc2 := 149) C dX11_vote_147 6 rfl rfl ?_
    rcases (Decidable.em (inB y7 8)).symm with qg_2 | qg_2
    · exact absurd hf (by rw [fX11_vote_l141, if_neg qg_2]; exact nofun)
    refine x_iald (pc2 := 150) C (by assumption) dX11_vote_149 rfl (inB_in qg_2) rfl ?_
    refine x_icmp_ge (tgt := 283) (pc2 := 153) C dX11_vote_150 (by decide) rfl (fun qc_3 => ?_) (fun qc_3 => ?_)
    · rw [fX11_vote_l141, if_pos qg_2, if_pos qc_3] at hf
      exact x_sub (lv2 := [(8, _), (0, _), (1, _), (3, _), (4, _), (7, _)]) C [1, 2, 3, 4, 5, 6] rfl (hk _ (Option.some.inj hf).symm)
    · refine x_bipush (pc2 := 155) (v := 20) C dX11_vote_153 rfl rfl ?_
      refine x_iload (pc2 := 157) C dX11_vote_155 6 rfl rfl ?_
      refine x_imul (pc2 := 158) C dX11_vote_157 rfl ?_
      refine x_iload (pc2 := 160) C dX11_vote_158 0 rfl rfl ?_
      refine x_iadd (pc2 := 161) C dX11_vote_160 rfl ?_
      refine x_istore (pc2 := 163) (lv2 := [(10, _), (9, _), (8, _), (0, _), (1, _), (3, _), (4, _), (7, _)]) C dX11_vote_161 (by decide) rfl rfl ?_
      refine x_iload (pc2 := 165) C dX11_vote_163 2 rfl rfl ?_
      refine x_aload_n (pc2 := 166) C dX11_vote_165 3 rfl rfl rfl ?_
      refine x_getR (f := 1136) (k2 := 2136) (pc2 := 169) C (by assumption) kf_11_116 dX11_vote_166 rfl rfl rfl (rti_i rfl) rfl (fun qd_4 => ?_)
      refine x_iload (pc2 := 171) C dX11_vote_169 0 rfl rfl ?_
      rcases (Decidable.em (inB (((20 : Int32) * y7) + y9) 160)).symm with qg_5 | qg_5
      · exact absurd hf (by rw [fX11_vote_l141, if_pos qg_2, if_neg qc_3, if_neg qg_5]; exact nofun)
      refine x_iald (pc2 := 172) C (by assumption) dX11_vote_171 rfl (inB_in qg_5) rfl ?_
      refine x_iload (pc2 := 174) C dX11_vote_172 6 rfl rfl ?_
      rcases opt_em ((if (xI Ω 2136 0 (((20 : Int32) * y7) + y9).toNatClampNeg) = y4 then (some (0 : Int32)) else (if inB (((20 : Int32) * y7) + y9) 160 then (if inB (((24 : Int32) * y1) + (xI Ω 2136 0 (((20 : Int32) * y7) + y9).toNatClampNeg)) 48 then (if inB (((24 : Int32) * y1) + y4) 48 then (if (xI Ω 2121 0 (((24 : Int32) * y1) + (xI Ω 2136 0 (((20 : Int32) * y7) + y9).toNatClampNeg)).toNatClampNeg) = (xI Ω 2121 0 (((24 : Int32) * y1) + y4).toNatClampNeg) then (some (1 : Int32)) else (some (0 : Int32))) else none) else none) else none)) : Option (Int32)) with hq_6 | ⟨j_6, hq_6⟩
      · exact absurd hf (by rw [fX11_vote_l141, if_pos qg_2, if_neg qc_3, if_pos qg_5, ob_n hq_6]; exact nofun)
      suffices hj_6 : XW G B 11 214 [(0, .ref (ad G 11 (0))), (1, .int (y1)), (3, .int (y3)), (4, .int (y4)), (7, .int (y7)), (9, .int (y9)), (10, .int (((20 : Int32) * y7) + y9))] [.int (j_6), .int (y8)] Ω 0 0 by
        refine x_icmp_eq (tgt := 213) (pc2 := 177) C dX11_vote_174 (by decide) rfl (fun qc_7 => ?_) (fun qc_7 => ?_)
        · refine x_iconst (pc2 := 214) (v := 0) C dX11_vote_213 rfl rfl ?_
          rw [if_pos qc_7] at hq_6
          obtain rfl := (Option.some.inj hq_6).symm
          exact x_sub (lv2 := [(0, _), (1, _), (3, _), (4, _), (7, _), (9, _), (10, _)]) C [3, 4, 5, 6, 7, 1, 0] rfl hj_6
        · refine x_aload_n (pc2 := 178) C dX11_vote_177 3 rfl rfl rfl ?_
          refine x_getR (f := 1121) (k2 := 2121) (pc2 := 181) C (by assumption) kf_11_70 dX11_vote_178 rfl rfl rfl (rti_i rfl) rfl (fun qd_8 => ?_)
          refine x_bipush (pc2 := 183) (v := 24) C dX11_vote_181 rfl rfl ?_
          refine x_iload_n (pc2 := 184) C dX11_vote_183 4 rfl rfl rfl ?_
          refine x_imul (pc2 := 185) C dX11_vote_184 rfl ?_
          refine x_aload_n (pc2 := 186) C dX11_vote_185 3 rfl rfl rfl ?_
          refine x_getR (f := 1136) (k2 := 2136) (pc2 := 189) C (by assumption) kf_11_116 dX11_vote_186 rfl rfl rfl (rti_i rfl) rfl (fun qd_9 => ?_)
          refine x_iload (pc2 := 191) C dX11_vote_189 0 rfl rfl ?_
          rcases (Decidable.em (inB (((20 : Int32) * y7) + y9) 160)).symm with qg_10 | qg_10
          · exact absurd hq_6 (by rw [if_neg qc_7, if_neg qg_10]; exact nofun)
          refine x_iald (pc2 := 192) C (by assumption) dX11_vote_191 rfl (inB_in qg_10) rfl ?_
          refine x_iadd (pc2 := 193) C dX11_vote_192 rfl ?_
          rcases (Decidable.em (inB (((24 : Int32) * y1) + (xI Ω 2136 0 (((20 : Int32) * y7) + y9).toNatClampNeg)) 48)).symm with qg_11 | qg_11
          · exact absurd hq_6 (by rw [if_neg qc_7, if_pos qg_10, if_neg qg_11]; exact nofun)
          refine x_iald (pc2 := 194) C (by assumption) dX11_vote_193 rfl (inB_in qg_11) rfl ?_
          refine x_aload_n (pc2 := 195) C dX11_vote_194 3 rfl rfl rfl ?_
          refine x_getR (f := 1121) (k2 := 2121) (pc2 := 198) C (by assumption) kf_11_70 dX11_vote_195 rfl rfl rfl (rti_i rfl) rfl (fun qd_12 => ?_)
          refine x_bipush (pc2 := 200) (v := 24) C dX11_vote_198 rfl rfl ?_
          refine x_iload_n (pc2 := 201) C dX11_vote_200 4 rfl rfl rfl ?_
          refine x_imul (pc2 := 202) C dX11_vote_201 rfl ?_
          refine x_iload (pc2 := 204) C dX11_vote_202 6 rfl rfl ?_
          refine x_iadd (pc2 := 205) C dX11_vote_204 rfl ?_
          rcases (Decidable.em (inB (((24 : Int32) * y1) + y4) 48)).symm with qg_13 | qg_13
          · exact absurd hq_6 (by rw [if_neg qc_7, if_pos qg_10, if_pos qg_11, if_neg qg_13]; exact nofun)
          refine x_iald (pc2 := 206) C (by assumption) dX11_vote_205 rfl (inB_in qg_13) rfl ?_
          refine x_icmp_ne (tgt := 213) (pc2 := 209) C dX11_vote_206 (by decide) rfl (fun qc_14 => ?_) (fun qc_14 => ?_)
          · refine x_iconst (pc2 := 214) (v := 0) C dX11_vote_213 rfl rfl ?_
            rw [if_neg qc_7, if_pos qg_10, if_pos qg_11, if_pos qg_13, if_neg qc_14] at hq_6
            obtain rfl := (Option.some.inj hq_6).symm
            exact x_sub (lv2 := [(0, _), (1, _), (3, _), (4, _), (7, _), (9, _), (10, _)]) C [3, 4, 5, 6, 7, 1, 0] rfl hj_6
          · refine x_iconst (pc2 := 210) (v := 1) C dX11_vote_209 rfl rfl ?_
            refine x_goto (tgt := 214) C dX11_vote_210 (by decide) ?_
            rw [if_neg qc_7, if_pos qg_10, if_pos qg_11, if_pos qg_13, if_pos qc_14] at hq_6
            obtain rfl := (Option.some.inj hq_6).symm
            exact x_sub (lv2 := [(0, _), (1, _), (3, _), (4, _), (7, _), (9, _), (10, _)]) C [3, 4, 5, 6, 7, 1, 0] rfl hj_6
      refine x_ior (pc2 := 215) C dX11_vote_214 rfl ?_
      refine x_istore (pc2 := 217) (lv2 := [(8, _), (0, _), (1, _), (3, _), (4, _), (7, _), (9, _), (10, _)]) C dX11_vote_215 (by decide) rfl rfl ?_
      refine x_iload (pc2 := 219) C dX11_vote_217 0 rfl rfl ?_
      refine x_aload_n (pc2 := 220) C dX11_vote_219 1 rfl rfl rfl ?_
      refine x_iload_n (pc2 := 221) C dX11_vote_220 2 rfl rfl rfl ?_
      refine x_iload_n (pc2 := 222) C dX11_vote_221 3 rfl rfl rfl ?_
      refine x_iload (pc2 := 224) C dX11_vote_222 4 rfl rfl ?_
      refine x_aload_n (pc2 := 225) C dX11_vote_224 1 rfl rfl rfl ?_
      refine x_getR (f := 1135) (k2 := 2135) (pc2 := 228) C (by assumption) kf_11_113 dX11_vote_225 rfl rfl rfl (rti_i rfl) rfl (fun qd_15 => ?_)
      refine x_iload (pc2 := 230) C dX11_vote_228 7 rfl rfl ?_
      rcases (Decidable.em (inB (((20 : Int32) * y7) + y9) 160)).symm with qg_16 | qg_16
      · exact absurd hf (by rw [fX11_vote_l141, if_pos qg_2, if_neg qc_3, if_pos qg_5, ob_s hq_6, if_neg qg_16]; exact nofun)
      refine x_iald (pc2 := 231) C (by assumption) dX11_vote_230 rfl (inB_in qg_16) rfl ?_
      refine x_aload_n (pc2 := 232) C dX11_vote_231 1 rfl rfl rfl ?_
      refine x_getR (f := 1136) (k2 := 2136) (pc2 := 235) C (by assumption) kf_11_116 dX11_vote_232 rfl rfl rfl (rti_i rfl) rfl (fun qd_17 => ?_)
      refine x_iload (pc2 := 237) C dX11_vote_235 7 rfl rfl ?_
      rcases (Decidable.em (inB (((20 : Int32) * y7) + y9) 160)).symm with qg_18 | qg_18
      · exact absurd hf (by rw [fX11_vote_l141, if_pos qg_2, if_neg qc_3, if_pos qg_5, ob_s hq_6, if_pos qg_16, if_neg qg_18]; exact nofun)
      refine x_iald (pc2 := 238) C (by assumption) dX11_vote_237 rfl (inB_in qg_18) rfl ?_
      rcases opt_em (fX11_surrounds Ω y1 y3 y4 (xI Ω 2135 0 (((20 : Int32) * y7) + y9).toNatClampNeg) (xI Ω 2136 0 (((20 : Int32) * y7) + y9).toNatClampNeg)) with hq_19 | ⟨r_19, hq_19⟩
      · exact absurd hf (by rw [fX11_vote_l141, if_pos qg_2, if_neg qc_3, if_pos qg_5, ob_s hq_6, if_pos qg_16, if_pos qg_18, ob_n hq_19]; exact nofun)
      refine x_ret (rest := [_]) (st2 := [_, _]) (pc2 := 241) (cu2 := 0) (su2 := 0) (x_cV C (by assumption) (Nat.le_of_ble_eq_true rfl) kmX11_surrounds rfl kk_11_381 (tX11_surrounds hok (by assumption)  hq_19) rfl rfl (Nat.le_of_ble_eq_true rfl) ⟨Nat.le_of_ble_eq_true rfl, Nat.le_of_ble_eq_true rfl⟩ ⟨Nat.le_of_ble_eq_true rfl, Nat.le_of_ble_eq_true rfl⟩ dX11_vote_238) rfl rfl rfl rfl ?_
      rcases opt_em ((if r_19 = 0 then (if inB (((20 : Int32) * y7) + y9) 160 then (if inB (((20 : Int32) * y7) + y9) 160 then (fX11_surrounds Ω y1 (xI Ω 2135 0 (((20 : Int32) * y7) + y9).toNatClampNeg) (xI Ω 2136 0 (((20 : Int32) * y7) + y9).toNatClampNeg) y3 y4).bind (fun r_26 => (if r_26 = 0 then (some (0 : Int32)) else (some (1 : Int32)))) else none) else none) else (some (1 : Int32))) : Option (Int32)) with hq_20 | ⟨j_20, hq_20⟩
      · exact absurd hf (by rw [fX11_vote_l141, if_pos qg_2, if_neg qc_3, if_pos qg_5, ob_s hq_6, if_pos qg_16, if_pos qg_18, ob_s hq_19, ob_n hq_20]; exact nofun)
      suffices hj_20 : XW G B 11 274 [(0, .ref (ad G 11 (0))), (1, .int (y1)), (3, .int (y3)), (4, .int (y4)), (7, .int (y7)), (9, .int (y9))] [.int (j_20), .int (y8 ||| j_6)] Ω 0 0 by
        refine x_if_ne (tgt := 269) (pc2 := 244) C dX11_vote_241 (by decide) rfl (fun qc_21 => ?_) (fun qc_21 => ?_)
        · refine x_iconst (pc2 := 270) (v := 1) C dX11_vote_269 rfl rfl ?_
          refine x_goto (tgt := 274) C dX11_vote_270 (by decide) ?_
          rw [if_neg qc_21] at hq_20
          obtain rfl := (Option.some.inj hq_20).symm
          exact x_sub (lv2 := [(0, _), (1, _), (3, _), (4, _), (7, _), (9, _)]) C [1, 2, 3, 4, 5, 6] rfl hj_20
        · refine x_aload_n (pc2 := 245) C dX11_vote_244 1 rfl rfl rfl ?_
          refine x_iload_n (pc2 := 246) C dX11_vote_245 2 rfl rfl rfl ?_
          refine x_aload_n (pc2 := 247) C dX11_vote_246 1 rfl rfl rfl ?_
          refine x_getR (f := 1135) (k2 := 2135) (pc2 := 250) C (by assumption) kf_11_113 dX11_vote_247 rfl rfl rfl (rti_i rfl) rfl (fun qd_22 => ?_)
          refine x_iload (pc2 := 252) C dX11_vote_250 7 rfl rfl ?_
          rcases (Decidable.em (inB (((20 : Int32) * y7) + y9) 160)).symm with qg_23 | qg_23
          · exact absurd hq_20 (by rw [if_pos qc_21, if_neg qg_23]; exact nofun)
          refine x_iald (pc2 := 253) C (by assumption) dX11_vote_252 rfl (inB_in qg_23) rfl ?_
          refine x_aload_n (pc2 := 254) C dX11_vote_253 1 rfl rfl rfl ?_
          refine x_getR (f := 1136) (k2 := 2136) (pc2 := 257) C (by assumption) kf_11_116 dX11_vote_254 rfl rfl rfl (rti_i rfl) rfl (fun qd_24 => ?_)
          refine x_iload (pc2 := 259) C dX11_vote_257 7 rfl rfl ?_
          rcases (Decidable.em (inB (((20 : Int32) * y7) + y9) 160)).symm with qg_25 | qg_25
          · exact absurd hq_20 (by rw [if_pos qc_21, if_pos qg_23, if_neg qg_25]; exact nofun)
          refine x_iald (pc2 := 260) C (by assumption) dX11_vote_259 rfl (inB_in qg_25) rfl ?_
          refine x_iload_n (pc2 := 261) C dX11_vote_260 3 rfl rfl rfl ?_
          refine x_iload (pc2 := 263) C dX11_vote_261 4 rfl rfl ?_
          rcases opt_em (fX11_surrounds Ω y1 (xI Ω 2135 0 (((20 : Int32) * y7) + y9).toNatClampNeg) (xI Ω 2136 0 (((20 : Int32) * y7) + y9).toNatClampNeg) y3 y4) with hq_26 | ⟨r_26, hq_26⟩
          · exact absurd hq_20 (by rw [if_pos qc_21, if_pos qg_23, if_pos qg_25, ob_n hq_26]; exact nofun)
          refine x_ret (rest := [_]) (st2 := [_, _]) (pc2 := 266) (cu2 := 0) (su2 := 0) (x_cV C (by assumption) (Nat.le_of_ble_eq_true rfl) kmX11_surrounds rfl kk_11_381 (tX11_surrounds hok (by assumption)  hq_26) rfl rfl (Nat.le_of_ble_eq_true rfl) ⟨Nat.le_of_ble_eq_true rfl, Nat.le_of_ble_eq_true rfl⟩ ⟨Nat.le_of_ble_eq_true rfl, Nat.le_of_ble_eq_true rfl⟩ dX11_vote_263) rfl rfl rfl rfl ?_
          refine x_if_eq (tgt := 273) (pc2 := 269) C dX11_vote_266 (by decide) rfl (fun qc_27 => ?_) (fun qc_27 => ?_)
          · refine x_iconst (pc2 := 274) (v := 0) C dX11_vote_273 rfl rfl ?_
            rw [if_pos qc_21, if_pos qg_23, if_pos qg_25, ob_s hq_26, if_pos qc_27] at hq_20
            obtain rfl := (Option.some.inj hq_20).symm
            exact x_sub (lv2 := [(0, _), (1, _), (3, _), (4, _), (7, _), (9, _)]) C [1, 2, 3, 4, 5, 6] rfl hj_20
          · refine x_iconst (pc2 := 270) (v := 1) C dX11_vote_269 rfl rfl ?_
            refine x_goto (tgt := 274) C dX11_vote_270 (by decide) ?_
            rw [if_pos qc_21, if_pos qg_23, if_pos qg_25, ob_s hq_26, if_neg qc_27] at hq_20
            obtain rfl := (Option.some.inj hq_20).symm
            exact x_sub (lv2 := [(0, _), (1, _), (3, _), (4, _), (7, _), (9, _)]) C [1, 2, 3, 4, 5, 6] rfl hj_20
      refine x_ior (pc2 := 275) C dX11_vote_274 rfl ?_
      refine x_istore (pc2 := 277) (lv2 := [(8, _), (0, _), (1, _), (3, _), (4, _), (7, _), (9, _)]) C dX11_vote_275 (by decide) rfl rfl ?_
      refine x_iinc (pc2 := 280) (v := y9 + 1) (lv2 := [(9, _), (8, _), (0, _), (1, _), (3, _), (4, _), (7, _)]) C dX11_vote_277 6 rfl rfl (by decide) rfl rfl ?_
      refine x_goto (tgt := 141) C dX11_vote_280 (by decide) ?_
      exact x_sub (lv2 := [(9, _), (8, _), (0, _), (1, _), (3, _), (4, _), (7, _)]) C [0, 1, 2, 3, 4, 5, 6] rfl (ih (y9 + 1) ((y8 ||| j_6) ||| j_20) (by rw [fX11_vote_l141, if_pos qg_2, if_neg qc_3, if_pos qg_5, ob_s hq_6, if_pos qg_16, if_pos qg_18, ob_s hq_19, ob_s hq_20] at hf; exact hf) hk)
def fX11_vote_l336 (y8 : Int32) (y1 : Int32) (y7 : Int32) : Nat → Int32 → XO → Option (Int32 × XO)
  | 0, _, _ => none
  | n + 1, y9, Ω => (if inB y7 8 then (if (xI Ω 2138 0 y7.toNatClampNeg) ≤ y9 then (some (y9, Ω)) else (wl ((if y8 = 0 then (1 : Int32) else (0 : Int32))) (fun (j_5 : Int32) => (if inB (((20 : Int32) * y7) + y9) 160 then (wl (uI Ω 2137 0 (((20 : Int32) * y7) + y9).toNatClampNeg j_5) (fun Ω_8 => fX11_vote_l336 y8 y1 y7 n (y9 + 1) Ω_8)) else none)))) else none)
set_option maxRecDepth 20000 in
theorem lX11_vote_l336 {G : XG} (hok : XK G) {B : XB} {y8 : Int32} {y1 : Int32} {y7 : Int32}  (hf0 : dm G 11 0)   {T : Option Value ⊕ String} {Ω9 : XO} (C : XC G B cX11_vote RX11 (RM 3 0) 11 ((some FieldType.boolean)) T Ω9) : ∀ (n : Nat) (y9 : Int32) (Ω : XO) {r : (Int32 × XO)}, fX11_vote_l336 y8 y1 y7 n y9 Ω = some r → (∀ q, r = q → (XW G B 11 377 [(8, .int (y8)), (0, .ref (ad G 11 (0))), (1, .int (y1)), (7, .int (y7))] [] q.2 0 0)) → XW G B 11 336 [(9, .int (y9)), (8, .int (y8)), (0, .ref (ad G 11 (0))), (1, .int (y1)), (7, .int (y7))] [] Ω 0 0 := by
  intro n
  induction n with
  | zero => intro y9 Ω r hf; exact absurd hf (by rw [fX11_vote_l336]; exact nofun)
  | succ n ih =>
    intro y9 Ω r hf hk
    refine x_iload (pc2 := 338) C dX11_vote_336 0 rfl rfl ?_
    refine x_aload_n (pc2 := 339) C dX11_vote_338 2 rfl rfl rfl ?_
    refine x_getR (f := 1138) (k2 := 2138) (pc2 := 342) C (by assumption) kf_11_122 dX11_vote_339 rfl rfl rfl (rti_i rfl) rfl (fun qd_1 => ?_)
    refine x_iload (pc2 := 344) C dX11_vote_342 4 rfl rfl ?_
    rcases (Decidable.em (inB y7 8)).symm with qg_2 | qg_2
    · exact absurd hf (by rw [fX11_vote_l336, if_neg qg_2]; exact nofun)
    refine x_iald (pc2 := 345) C (by assumption) dX11_vote_344 rfl (inB_in qg_2) rfl ?_
    refine x_icmp_ge (tgt := 377) (pc2 := 348) C dX11_vote_345 (by decide) rfl (fun qc_3 => ?_) (fun qc_3 => ?_)
    · rw [fX11_vote_l336, if_pos qg_2, if_pos qc_3] at hf
      exact x_sub (lv2 := [(8, _), (0, _), (1, _), (7, _)]) C [1, 2, 3, 4] rfl (hk _ (Option.some.inj hf).symm)
    · refine x_aload_n (pc2 := 349) C dX11_vote_348 2 rfl rfl rfl ?_
      refine x_getR (f := 1137) (k2 := 2137) (pc2 := 352) C (by assumption) kf_11_119 dX11_vote_349 rfl rfl rfl (rti_i rfl) rfl (fun qd_4 => ?_)
      refine x_bipush (pc2 := 354) (v := 20) C dX11_vote_352 rfl rfl ?_
      refine x_iload (pc2 := 356) C dX11_vote_354 4 rfl rfl ?_
      refine x_imul (pc2 := 357) C dX11_vote_356 rfl ?_
      refine x_iload (pc2 := 359) C dX11_vote_357 0 rfl rfl ?_
      refine x_iadd (pc2 := 360) C dX11_vote_359 rfl ?_
      refine x_iload (pc2 := 362) C dX11_vote_360 1 rfl rfl ?_
      obtain ⟨j_5, hq_5⟩ : ∃ z : Int32, z = (if y8 = 0 then (1 : Int32) else (0 : Int32)) := ⟨_, rfl⟩
      suffices hj_5 : XW G B 11 370 [(0, .ref (ad G 11 (0))), (1, .int (y1)), (7, .int (y7)), (8, .int (y8)), (9, .int (y9))] [.int (j_5), .int (((20 : Int32) * y7) + y9), .ref (ad G 2137 (0))] Ω 0 0 by
        refine x_if_eq (tgt := 369) (pc2 := 365) C dX11_vote_362 (by decide) rfl (fun qc_6 => ?_) (fun qc_6 => ?_)
        · refine x_iconst (pc2 := 370) (v := 1) C dX11_vote_369 rfl rfl ?_
          rw [if_pos qc_6] at hq_5
          subst hq_5
          exact x_sub (lv2 := [(0, _), (1, _), (7, _), (8, _), (9, _)]) C [2, 3, 4, 1, 0] rfl hj_5
        · refine x_iconst (pc2 := 366) (v := 0) C dX11_vote_365 rfl rfl ?_
          refine x_goto (tgt := 370) C dX11_vote_366 (by decide) ?_
          rw [if_neg qc_6] at hq_5
          subst hq_5
          exact x_sub (lv2 := [(0, _), (1, _), (7, _), (8, _), (9, _)]) C [2, 3, 4, 1, 0] rfl hj_5
      rcases (Decidable.em (inB (((20 : Int32) * y7) + y9) 160)).symm with qg_7 | qg_7
      · exact absurd hf (by rw [fX11_vote_l336, if_pos qg_2, if_neg qc_3, wl_eq hq_5, if_neg qg_7]; exact nofun)
      refine x_iast (pc2 := 371) C (by assumption) dX11_vote_370 rfl (inB_in qg_7) rfl ?_
      obtain ⟨Ω_8, hw_8⟩ : ∃ z, z = uI Ω 2137 0 (((20 : Int32) * y7) + y9).toNatClampNeg j_5 := ⟨_, rfl⟩
      refine x_om hw_8 ?_
      refine x_iinc (pc2 := 374) (v := y9 + 1) (lv2 := [(9, _), (0, _), (1, _), (7, _), (8, _)]) C dX11_vote_371 4 rfl rfl (by decide) rfl rfl ?_
      refine x_goto (tgt := 336) C dX11_vote_374 (by decide) ?_
      exact x_sub (lv2 := [(9, _), (8, _), (0, _), (1, _), (7, _)]) C [0, 4, 1, 2, 3] rfl (ih (y9 + 1) Ω_8 (by rw [fX11_vote_l336, if_pos qg_2, if_neg qc_3, wl_eq hq_5, if_pos qg_7, wl_eq hw_8] at hf; exact hf) hk)
def fX11_vote (Ω : XO) (x1 : Int32) (x2 : Int32) (x3 : Int32) (x4 : Int32) : Option (Int32 × XO) := (fX11_isBlock Ω x1 x3).bind (fun r_1 => (((if r_1 = 0 then (some (0 : Int32)) else (fX11_isBlock Ω x1 x4).bind (fun r_4 => (if r_4 = 0 then (some (0 : Int32)) else (fX11_in Ω x2 (0 : Int32) (3 : Int32)).bind (fun r_6 => (if r_6 = 0 then (some (0 : Int32)) else (some (1 : Int32))))))) : Option (Int32))).bind (fun j_2 => (((if j_2 = 0 then (some (0 : Int32)) else (if x3 = x4 then (some (0 : Int32)) else (fX11_from Ω x1 x4 x3).bind (fun r_11 => (if r_11 = 0 then (some (0 : Int32)) else (some (1 : Int32)))))) : Option (Int32))).bind (fun j_8 => (wl ((if j_2 = 0 then (0 : Int32) else ((4 : Int32) * x1) + x2)) (fun (j_13 : Int32) => (((if j_2 = 0 then (some (1 : Int32)) else (if j_8 = 0 then (some (2 : Int32)) else (if inB j_13 8 then (if (xI Ω 2139 0 j_13.toNatClampNeg) = 0 then (some (3 : Int32)) else (if inB j_13 8 then (if (xI Ω 2138 0 j_13.toNatClampNeg) = (20 : Int32) then (some (3 : Int32)) else (some (0 : Int32))) else none)) else none))) : Option (Int32))).bind (fun j_15 => (fX11_holds Ω j_15).bind (fun r_24 => (if r_24.1 = 0 then (fX11_vote_l141 r_24.2 x1 x3 x4 j_13 ((xI r_24.2 2138 0 j_13.toNatClampNeg).toNatClampNeg + 1) (0 : Int32) (0 : Int32)).bind (fun q_26 => (if inB j_13 8 then (if inB (((20 : Int32) * j_13) + (xI r_24.2 2138 0 j_13.toNatClampNeg)) 160 then (wl (uI r_24.2 2135 0 (((20 : Int32) * j_13) + (xI r_24.2 2138 0 j_13.toNatClampNeg)).toNatClampNeg x3) (fun Ω_31 => (if inB j_13 8 then (if inB (((20 : Int32) * j_13) + (xI Ω_31 2138 0 j_13.toNatClampNeg)) 160 then (wl (uI Ω_31 2136 0 (((20 : Int32) * j_13) + (xI Ω_31 2138 0 j_13.toNatClampNeg)).toNatClampNeg x4) (fun Ω_36 => (if inB j_13 8 then (if inB j_13 8 then (wl (uI Ω_36 2138 0 j_13.toNatClampNeg ((xI Ω_36 2138 0 j_13.toNatClampNeg) + (1 : Int32))) (fun Ω_40 => (fX11_vote_l336 q_26.2 x1 j_13 ((xI Ω_40 2138 0 j_13.toNatClampNeg).toNatClampNeg + 1) (0 : Int32) Ω_40).bind (fun q_41 => (((if q_26.2 = 0 then (if inB j_13 8 then (some (xI q_41.2 2139 0 j_13.toNatClampNeg)) else none) else (some (0 : Int32))) : Option (Int32))).bind (fun j_43 => (if inB j_13 8 then (wl (uI q_41.2 2139 0 j_13.toNatClampNeg j_43) (fun Ω_48 => (fX11_justify Ω_48 x1).bind (fun r_49 => (wl ((if q_26.2 = 0 then (1 : Int32) else (0 : Int32))) (fun (j_50 : Int32) => (if j_50 = 0 ∨ j_50 = 1 then (some (j_50, r_49)) else none)))))) else none))))) else none) else none))) else none) else none))) else none) else none)) else (some ((0 : Int32), r_24.2))))))))))
set_option maxRecDepth 20000 in
theorem tX11_vote {G : XG} (hok : XK G) {x1 : Int32} {x2 : Int32} {x3 : Int32} {x4 : Int32} {Ω : XO} (hd0 : dm G 11 0)   {r : Int32 × XO} (hf : fX11_vote Ω x1 x2 x3 x4 = some r) : XM G yX11_vote cX11_vote 11 ((some FieldType.boolean)) (RM 3 0) [.ref (ad G 11 0), .int x1, .int x2, .int x3, .int x4] Ω (.inl (some (.int (r.1)))) r.2 := by
  refine x_start (lv := [(0, .ref (ad G 11 0)), (1, .int x1), (2, .int x2), (3, .int x3), (4, .int x4)]) (own := RX11) hok (by decide +kernel) rfl (Nat.le_of_ble_eq_true rfl) rfl (fun B C => ?_)
  refine x_aload_n (pc2 := 1) C dX11_vote_0 0 rfl rfl rfl ?_
  refine x_iload_n (pc2 := 2) C dX11_vote_1 1 rfl rfl rfl ?_
  refine x_iload_n (pc2 := 3) C dX11_vote_2 3 rfl rfl rfl ?_
  rcases opt_em (fX11_isBlock Ω x1 x3) with hq_1 | ⟨r_1, hq_1⟩
  · exact absurd hf (by rw [fX11_vote, ob_n hq_1]; exact nofun)
  refine x_ret (rest := []) (st2 := [_]) (pc2 := 6) (cu2 := 0) (su2 := 0) (x_cV C (by assumption) (Nat.le_of_ble_eq_true rfl) kmX11_isBlock rfl kk_11_349 (tX11_isBlock hok (by assumption)  hq_1) rfl rfl (Nat.le_of_ble_eq_true rfl) ⟨Nat.le_of_ble_eq_true rfl, Nat.le_of_ble_eq_true rfl⟩ ⟨Nat.le_of_ble_eq_true rfl, Nat.le_of_ble_eq_true rfl⟩ dX11_vote_3) rfl rfl rfl rfl ?_
  rcases opt_em ((if r_1 = 0 then (some (0 : Int32)) else (fX11_isBlock Ω x1 x4).bind (fun r_4 => (if r_4 = 0 then (some (0 : Int32)) else (fX11_in Ω x2 (0 : Int32) (3 : Int32)).bind (fun r_6 => (if r_6 = 0 then (some (0 : Int32)) else (some (1 : Int32))))))) : Option (Int32)) with hq_2 | ⟨j_2, hq_2⟩
  · exact absurd hf (by rw [fX11_vote, ob_s hq_1, ob_n hq_2]; exact nofun)
  suffices hj_2 : XW G B 11 34 [(0, .ref (ad G 11 (0))), (1, .int (x1)), (2, .int (x2)), (3, .int (x3)), (4, .int (x4))] [.int (j_2)] Ω 0 0 by
    refine x_if_eq (tgt := 33) (pc2 := 9) C dX11_vote_6 (by decide) rfl (fun qc_3 => ?_) (fun qc_3 => ?_)
    · refine x_iconst (pc2 := 34) (v := 0) C dX11_vote_33 rfl rfl ?_
      rw [if_pos qc_3] at hq_2
      obtain rfl := (Option.some.inj hq_2).symm
      exact x_sub (lv2 := [(0, _), (1, _), (2, _), (3, _), (4, _)]) C [0, 1, 2, 3, 4] rfl hj_2
    · refine x_aload_n (pc2 := 10) C dX11_vote_9 0 rfl rfl rfl ?_
      refine x_iload_n (pc2 := 11) C dX11_vote_10 1 rfl rfl rfl ?_
      refine x_iload (pc2 := 13) C dX11_vote_11 4 rfl rfl ?_
      rcases opt_em (fX11_isBlock Ω x1 x4) with hq_4 | ⟨r_4, hq_4⟩
      · exact absurd hq_2 (by rw [if_neg qc_3, ob_n hq_4]; exact nofun)
      refine x_ret (rest := []) (st2 := [_]) (pc2 := 16) (cu2 := 0) (su2 := 0) (x_cV C (by assumption) (Nat.le_of_ble_eq_true rfl) kmX11_isBlock rfl kk_11_349 (tX11_isBlock hok (by assumption)  hq_4) rfl rfl (Nat.le_of_ble_eq_true rfl) ⟨Nat.le_of_ble_eq_true rfl, Nat.le_of_ble_eq_true rfl⟩ ⟨Nat.le_of_ble_eq_true rfl, Nat.le_of_ble_eq_true rfl⟩ dX11_vote_13) rfl rfl rfl rfl ?_
      refine x_if_eq (tgt := 33) (pc2 := 19) C dX11_vote_16 (by decide) rfl (fun qc_5 => ?_) (fun qc_5 => ?_)
      · refine x_iconst (pc2 := 34) (v := 0) C dX11_vote_33 rfl rfl ?_
        rw [if_neg qc_3, ob_s hq_4, if_pos qc_5] at hq_2
        obtain rfl := (Option.some.inj hq_2).symm
        exact x_sub (lv2 := [(0, _), (1, _), (2, _), (3, _), (4, _)]) C [0, 1, 2, 3, 4] rfl hj_2
      · refine x_aload_n (pc2 := 20) C dX11_vote_19 0 rfl rfl rfl ?_
        refine x_iload_n (pc2 := 21) C dX11_vote_20 2 rfl rfl rfl ?_
        refine x_iconst (pc2 := 22) (v := 0) C dX11_vote_21 rfl rfl ?_
        refine x_iconst (pc2 := 23) (v := 3) C dX11_vote_22 rfl rfl ?_
        rcases opt_em (fX11_in Ω x2 (0 : Int32) (3 : Int32)) with hq_6 | ⟨r_6, hq_6⟩
        · exact absurd hq_2 (by rw [if_neg qc_3, ob_s hq_4, if_neg qc_5, ob_n hq_6]; exact nofun)
        refine x_ret (rest := []) (st2 := [_]) (pc2 := 26) (cu2 := 0) (su2 := 0) (x_cV C (by assumption) (Nat.le_of_ble_eq_true rfl) kmX11_in rfl kk_11_178 (tX11_in hok (by assumption)  hq_6) rfl rfl (Nat.le_of_ble_eq_true rfl) ⟨Nat.le_of_ble_eq_true rfl, Nat.le_of_ble_eq_true rfl⟩ ⟨Nat.le_of_ble_eq_true rfl, Nat.le_of_ble_eq_true rfl⟩ dX11_vote_23) rfl rfl rfl rfl ?_
        refine x_if_eq (tgt := 33) (pc2 := 29) C dX11_vote_26 (by decide) rfl (fun qc_7 => ?_) (fun qc_7 => ?_)
        · refine x_iconst (pc2 := 34) (v := 0) C dX11_vote_33 rfl rfl ?_
          rw [if_neg qc_3, ob_s hq_4, if_neg qc_5, ob_s hq_6, if_pos qc_7] at hq_2
          obtain rfl := (Option.some.inj hq_2).symm
          exact x_sub (lv2 := [(0, _), (1, _), (2, _), (3, _), (4, _)]) C [0, 1, 2, 3, 4] rfl hj_2
        · refine x_iconst (pc2 := 30) (v := 1) C dX11_vote_29 rfl rfl ?_
          refine x_goto (tgt := 34) C dX11_vote_30 (by decide) ?_
          rw [if_neg qc_3, ob_s hq_4, if_neg qc_5, ob_s hq_6, if_neg qc_7] at hq_2
          obtain rfl := (Option.some.inj hq_2).symm
          exact x_sub (lv2 := [(0, _), (1, _), (2, _), (3, _), (4, _)]) C [0, 1, 2, 3, 4] rfl hj_2
  refine x_istore (pc2 := 36) (lv2 := [(5, _), (0, _), (1, _), (2, _), (3, _), (4, _)]) C dX11_vote_34 (by decide) rfl rfl ?_
  refine x_iload (pc2 := 38) C dX11_vote_36 0 rfl rfl ?_
  rcases opt_em ((if j_2 = 0 then (some (0 : Int32)) else (if x3 = x4 then (some (0 : Int32)) else (fX11_from Ω x1 x4 x3).bind (fun r_11 => (if r_11 = 0 then (some (0 : Int32)) else (some (1 : Int32)))))) : Option (Int32)) with hq_8 | ⟨j_8, hq_8⟩
  · exact absurd hf (by rw [fX11_vote, ob_s hq_1, ob_s hq_2, ob_n hq_8]; exact nofun)
  suffices hj_8 : XW G B 11 63 [(0, .ref (ad G 11 (0))), (1, .int (x1)), (2, .int (x2)), (3, .int (x3)), (4, .int (x4)), (5, .int (j_2))] [.int (j_8)] Ω 0 0 by
    refine x_if_eq (tgt := 62) (pc2 := 41) C dX11_vote_38 (by decide) rfl (fun qc_9 => ?_) (fun qc_9 => ?_)
    · refine x_iconst (pc2 := 63) (v := 0) C dX11_vote_62 rfl rfl ?_
      rw [if_pos qc_9] at hq_8
      obtain rfl := (Option.some.inj hq_8).symm
      exact x_sub (lv2 := [(0, _), (1, _), (2, _), (3, _), (4, _), (5, _)]) C [1, 2, 3, 4, 5, 0] rfl hj_8
    · refine x_iload_n (pc2 := 42) C dX11_vote_41 4 rfl rfl rfl ?_
      refine x_iload (pc2 := 44) C dX11_vote_42 5 rfl rfl ?_
      refine x_icmp_eq (tgt := 62) (pc2 := 47) C dX11_vote_44 (by decide) rfl (fun qc_10 => ?_) (fun qc_10 => ?_)
      · refine x_iconst (pc2 := 63) (v := 0) C dX11_vote_62 rfl rfl ?_
        rw [if_neg qc_9, if_pos qc_10] at hq_8
        obtain rfl := (Option.some.inj hq_8).symm
        exact x_sub (lv2 := [(0, _), (1, _), (2, _), (3, _), (4, _), (5, _)]) C [1, 2, 3, 4, 5, 0] rfl hj_8
      · refine x_aload_n (pc2 := 48) C dX11_vote_47 1 rfl rfl rfl ?_
        refine x_iload_n (pc2 := 49) C dX11_vote_48 2 rfl rfl rfl ?_
        refine x_iload (pc2 := 51) C dX11_vote_49 5 rfl rfl ?_
        refine x_iload_n (pc2 := 52) C dX11_vote_51 4 rfl rfl rfl ?_
        rcases opt_em (fX11_from Ω x1 x4 x3) with hq_11 | ⟨r_11, hq_11⟩
        · exact absurd hq_8 (by rw [if_neg qc_9, if_neg qc_10, ob_n hq_11]; exact nofun)
        refine x_ret (rest := []) (st2 := [_]) (pc2 := 55) (cu2 := 0) (su2 := 0) (x_cV C (by assumption) (Nat.le_of_ble_eq_true rfl) kmX11_from rfl kk_11_361 (tX11_from hok (by assumption)  hq_11) rfl rfl (Nat.le_of_ble_eq_true rfl) ⟨Nat.le_of_ble_eq_true rfl, Nat.le_of_ble_eq_true rfl⟩ ⟨Nat.le_of_ble_eq_true rfl, Nat.le_of_ble_eq_true rfl⟩ dX11_vote_52) rfl rfl rfl rfl ?_
        refine x_if_eq (tgt := 62) (pc2 := 58) C dX11_vote_55 (by decide) rfl (fun qc_12 => ?_) (fun qc_12 => ?_)
        · refine x_iconst (pc2 := 63) (v := 0) C dX11_vote_62 rfl rfl ?_
          rw [if_neg qc_9, if_neg qc_10, ob_s hq_11, if_pos qc_12] at hq_8
          obtain rfl := (Option.some.inj hq_8).symm
          exact x_sub (lv2 := [(0, _), (1, _), (2, _), (3, _), (4, _), (5, _)]) C [1, 2, 3, 4, 5, 0] rfl hj_8
        · refine x_iconst (pc2 := 59) (v := 1) C dX11_vote_58 rfl rfl ?_
          refine x_goto (tgt := 63) C dX11_vote_59 (by decide) ?_
          rw [if_neg qc_9, if_neg qc_10, ob_s hq_11, if_neg qc_12] at hq_8
          obtain rfl := (Option.some.inj hq_8).symm
          exact x_sub (lv2 := [(0, _), (1, _), (2, _), (3, _), (4, _), (5, _)]) C [1, 2, 3, 4, 5, 0] rfl hj_8
  refine x_istore (pc2 := 65) (lv2 := [(6, _), (0, _), (1, _), (2, _), (3, _), (4, _), (5, _)]) C dX11_vote_63 (by decide) rfl rfl ?_
  refine x_iload (pc2 := 67) C dX11_vote_65 6 rfl rfl ?_
  obtain ⟨j_13, hq_13⟩ : ∃ z : Int32, z = (if j_2 = 0 then (0 : Int32) else ((4 : Int32) * x1) + x2) := ⟨_, rfl⟩
  suffices hj_13 : XW G B 11 79 [(0, .ref (ad G 11 (0))), (1, .int (x1)), (3, .int (x3)), (4, .int (x4)), (5, .int (j_2)), (6, .int (j_8))] [.int (j_13)] Ω 0 0 by
    refine x_if_eq (tgt := 78) (pc2 := 70) C dX11_vote_67 (by decide) rfl (fun qc_14 => ?_) (fun qc_14 => ?_)
    · refine x_iconst (pc2 := 79) (v := 0) C dX11_vote_78 rfl rfl ?_
      rw [if_pos qc_14] at hq_13
      subst hq_13
      exact x_sub (lv2 := [(0, _), (1, _), (3, _), (4, _), (5, _), (6, _)]) C [1, 2, 4, 5, 6, 0] rfl hj_13
    · refine x_iconst (pc2 := 71) (v := 4) C dX11_vote_70 rfl rfl ?_
      refine x_iload_n (pc2 := 72) C dX11_vote_71 2 rfl rfl rfl ?_
      refine x_imul (pc2 := 73) C dX11_vote_72 rfl ?_
      refine x_iload_n (pc2 := 74) C dX11_vote_73 3 rfl rfl rfl ?_
      refine x_iadd (pc2 := 75) C dX11_vote_74 rfl ?_
      refine x_goto (tgt := 79) C dX11_vote_75 (by decide) ?_
      rw [if_neg qc_14] at hq_13
      subst hq_13
      exact x_sub (lv2 := [(0, _), (1, _), (3, _), (4, _), (5, _), (6, _)]) C [1, 2, 4, 5, 6, 0] rfl hj_13
  refine x_istore (pc2 := 81) (lv2 := [(7, _), (0, _), (1, _), (3, _), (4, _), (5, _), (6, _)]) C dX11_vote_79 (by decide) rfl rfl ?_
  refine x_aload_n (pc2 := 82) C dX11_vote_81 1 rfl rfl rfl ?_
  refine x_iload (pc2 := 84) C dX11_vote_82 5 rfl rfl ?_
  rcases opt_em ((if j_2 = 0 then (some (1 : Int32)) else (if j_8 = 0 then (some (2 : Int32)) else (if inB j_13 8 then (if (xI Ω 2139 0 j_13.toNatClampNeg) = 0 then (some (3 : Int32)) else (if inB j_13 8 then (if (xI Ω 2138 0 j_13.toNatClampNeg) = (20 : Int32) then (some (3 : Int32)) else (some (0 : Int32))) else none)) else none))) : Option (Int32)) with hq_15 | ⟨j_15, hq_15⟩
  · exact absurd hf (by rw [fX11_vote, ob_s hq_1, ob_s hq_2, ob_s hq_8, wl_eq hq_13, ob_n hq_15]; exact nofun)
  suffices hj_15 : XW G B 11 127 [(0, .ref (ad G 11 (0))), (1, .int (x1)), (3, .int (x3)), (4, .int (x4)), (7, .int (j_13))] [.int (j_15), .ref (ad G 11 (0))] Ω 0 0 by
    refine x_if_ne (tgt := 91) (pc2 := 87) C dX11_vote_84 (by decide) rfl (fun qc_16 => ?_) (fun qc_16 => ?_)
    · refine x_iload (pc2 := 93) C dX11_vote_91 6 rfl rfl ?_
      refine x_if_ne (tgt := 100) (pc2 := 96) C dX11_vote_93 (by decide) rfl (fun qc_17 => ?_) (fun qc_17 => ?_)
      · refine x_aload_n (pc2 := 101) C dX11_vote_100 1 rfl rfl rfl ?_
        refine x_getR (f := 1139) (k2 := 2139) (pc2 := 104) C (by assumption) kf_11_125 dX11_vote_101 rfl rfl rfl (rti_i rfl) rfl (fun qd_18 => ?_)
        refine x_iload (pc2 := 106) C dX11_vote_104 0 rfl rfl ?_
        rcases (Decidable.em (inB j_13 8)).symm with qg_19 | qg_19
        · exact absurd hq_15 (by rw [if_neg qc_16, if_neg qc_17, if_neg qg_19]; exact nofun)
        refine x_iald (pc2 := 107) C (by assumption) dX11_vote_106 rfl (inB_in qg_19) rfl ?_
        refine x_if_eq (tgt := 122) (pc2 := 110) C dX11_vote_107 (by decide) rfl (fun qc_20 => ?_) (fun qc_20 => ?_)
        · refine x_iconst (pc2 := 123) (v := 3) C dX11_vote_122 rfl rfl ?_
          refine x_goto (tgt := 127) C dX11_vote_123 (by decide) ?_
          rw [if_neg qc_16, if_neg qc_17, if_pos qg_19, if_pos qc_20] at hq_15
          obtain rfl := (Option.some.inj hq_15).symm
          exact x_sub (lv2 := [(0, _), (1, _), (3, _), (4, _), (7, _)]) C [1, 2, 3, 4, 0] rfl hj_15
        · refine x_aload_n (pc2 := 111) C dX11_vote_110 1 rfl rfl rfl ?_
          refine x_getR (f := 1138) (k2 := 2138) (pc2 := 114) C (by assumption) kf_11_122 dX11_vote_111 rfl rfl rfl (rti_i rfl) rfl (fun qd_21 => ?_)
          refine x_iload (pc2 := 116) C dX11_vote_114 0 rfl rfl ?_
          rcases (Decidable.em (inB j_13 8)).symm with qg_22 | qg_22
          · exact absurd hq_15 (by rw [if_neg qc_16, if_neg qc_17, if_pos qg_19, if_neg qc_20, if_neg qg_22]; exact nofun)
          refine x_iald (pc2 := 117) C (by assumption) dX11_vote_116 rfl (inB_in qg_22) rfl ?_
          refine x_bipush (pc2 := 119) (v := 20) C dX11_vote_117 rfl rfl ?_
          refine x_icmp_ne (tgt := 126) (pc2 := 122) C dX11_vote_119 (by decide) rfl (fun qc_23 => ?_) (fun qc_23 => ?_)
          · refine x_iconst (pc2 := 127) (v := 0) C dX11_vote_126 rfl rfl ?_
            rw [if_neg qc_16, if_neg qc_17, if_pos qg_19, if_neg qc_20, if_pos qg_22, if_neg qc_23] at hq_15
            obtain rfl := (Option.some.inj hq_15).symm
            exact x_sub (lv2 := [(0, _), (1, _), (3, _), (4, _), (7, _)]) C [1, 2, 3, 4, 0] rfl hj_15
          · refine x_iconst (pc2 := 123) (v := 3) C dX11_vote_122 rfl rfl ?_
            refine x_goto (tgt := 127) C dX11_vote_123 (by decide) ?_
            rw [if_neg qc_16, if_neg qc_17, if_pos qg_19, if_neg qc_20, if_pos qg_22, if_pos qc_23] at hq_15
            obtain rfl := (Option.some.inj hq_15).symm
            exact x_sub (lv2 := [(0, _), (1, _), (3, _), (4, _), (7, _)]) C [1, 2, 3, 4, 0] rfl hj_15
      · refine x_iconst (pc2 := 97) (v := 2) C dX11_vote_96 rfl rfl ?_
        refine x_goto (tgt := 127) C dX11_vote_97 (by decide) ?_
        rw [if_neg qc_16, if_pos qc_17] at hq_15
        obtain rfl := (Option.some.inj hq_15).symm
        exact x_sub (lv2 := [(0, _), (1, _), (3, _), (4, _), (7, _)]) C [1, 2, 3, 4, 0] rfl hj_15
    · refine x_iconst (pc2 := 88) (v := 1) C dX11_vote_87 rfl rfl ?_
      refine x_goto (tgt := 127) C dX11_vote_88 (by decide) ?_
      rw [if_pos qc_16] at hq_15
      obtain rfl := (Option.some.inj hq_15).symm
      exact x_sub (lv2 := [(0, _), (1, _), (3, _), (4, _), (7, _)]) C [1, 2, 3, 4, 0] rfl hj_15
  rcases opt_em (fX11_holds Ω j_15) with hq_24 | ⟨r_24, hq_24⟩
  · exact absurd hf (by rw [fX11_vote, ob_s hq_1, ob_s hq_2, ob_s hq_8, wl_eq hq_13, ob_s hq_15, ob_n hq_24]; exact nofun)
  refine x_ret (rest := []) (st2 := [_]) (pc2 := 130) (cu2 := 0) (su2 := 0) (x_cV C (by assumption) (Nat.le_of_ble_eq_true rfl) kmX11_holds rfl kk_11_214 (tX11_holds hok (by assumption)  hq_24) rfl rfl (Nat.le_of_ble_eq_true rfl) ⟨Nat.le_of_ble_eq_true rfl, Nat.le_of_ble_eq_true rfl⟩ ⟨Nat.le_of_ble_eq_true rfl, Nat.le_of_ble_eq_true rfl⟩ dX11_vote_127) rfl rfl rfl rfl ?_
  refine x_if_eq (tgt := 135) (pc2 := 133) C dX11_vote_130 (by decide) rfl (fun qc_25 => ?_) (fun qc_25 => ?_)
  · refine x_iconst (pc2 := 136) (v := 0) C dX11_vote_135 rfl rfl ?_
    refine x_istore (pc2 := 138) (lv2 := [(8, _), (0, _), (1, _), (3, _), (4, _), (7, _)]) C dX11_vote_136 (by decide) rfl rfl ?_
    refine x_iconst (pc2 := 139) (v := 0) C dX11_vote_138 rfl rfl ?_
    refine x_istore (pc2 := 141) (lv2 := [(9, _), (8, _), (0, _), (1, _), (3, _), (4, _), (7, _)]) C dX11_vote_139 (by decide) rfl rfl ?_
    rcases opt_em (fX11_vote_l141 r_24.2 x1 x3 x4 j_13 ((xI r_24.2 2138 0 j_13.toNatClampNeg).toNatClampNeg + 1) (0 : Int32) (0 : Int32)) with hq_26 | ⟨q_26, hq_26⟩
    · exact absurd hf (by rw [fX11_vote, ob_s hq_1, ob_s hq_2, ob_s hq_8, wl_eq hq_13, ob_s hq_15, ob_s hq_24, if_pos qc_25, ob_n hq_26]; exact nofun)
    refine x_sub (lv2 := [(9, _), (8, _), (0, _), (1, _), (3, _), (4, _), (7, _)]) C [0, 1, 2, 3, 4, 5, 6] rfl (lX11_vote_l141 hok (by assumption) C ((xI r_24.2 2138 0 j_13.toNatClampNeg).toNatClampNeg + 1) (0 : Int32) (0 : Int32) hq_26 (fun q9 h9 => ?_))
    cases h9
    refine x_aload_n (pc2 := 284) C dX11_vote_283 1 rfl rfl rfl ?_
    refine x_getR (f := 1135) (k2 := 2135) (pc2 := 287) C (by assumption) kf_11_113 dX11_vote_284 rfl rfl rfl (rti_i rfl) rfl (fun qd_27 => ?_)
    refine x_bipush (pc2 := 289) (v := 20) C dX11_vote_287 rfl rfl ?_
    refine x_iload (pc2 := 291) C dX11_vote_289 5 rfl rfl ?_
    refine x_imul (pc2 := 292) C dX11_vote_291 rfl ?_
    refine x_aload_n (pc2 := 293) C dX11_vote_292 1 rfl rfl rfl ?_
    refine x_getR (f := 1138) (k2 := 2138) (pc2 := 296) C (by assumption) kf_11_122 dX11_vote_293 rfl rfl rfl (rti_i rfl) rfl (fun qd_28 => ?_)
    refine x_iload (pc2 := 298) C dX11_vote_296 5 rfl rfl ?_
    rcases (Decidable.em (inB j_13 8)).symm with qg_29 | qg_29
    · exact absurd hf (by rw [fX11_vote, ob_s hq_1, ob_s hq_2, ob_s hq_8, wl_eq hq_13, ob_s hq_15, ob_s hq_24, if_pos qc_25, ob_s hq_26, if_neg qg_29]; exact nofun)
    refine x_iald (pc2 := 299) C (by assumption) dX11_vote_298 rfl (inB_in qg_29) rfl ?_
    refine x_iadd (pc2 := 300) C dX11_vote_299 rfl ?_
    refine x_iload_n (pc2 := 301) C dX11_vote_300 3 rfl rfl rfl ?_
    rcases (Decidable.em (inB (((20 : Int32) * j_13) + (xI r_24.2 2138 0 j_13.toNatClampNeg)) 160)).symm with qg_30 | qg_30
    · exact absurd hf (by rw [fX11_vote, ob_s hq_1, ob_s hq_2, ob_s hq_8, wl_eq hq_13, ob_s hq_15, ob_s hq_24, if_pos qc_25, ob_s hq_26, if_pos qg_29, if_neg qg_30]; exact nofun)
    refine x_iast (pc2 := 302) C (by assumption) dX11_vote_301 rfl (inB_in qg_30) rfl ?_
    obtain ⟨Ω_31, hw_31⟩ : ∃ z, z = uI r_24.2 2135 0 (((20 : Int32) * j_13) + (xI r_24.2 2138 0 j_13.toNatClampNeg)).toNatClampNeg x3 := ⟨_, rfl⟩
    refine x_om hw_31 ?_
    refine x_aload_n (pc2 := 303) C dX11_vote_302 1 rfl rfl rfl ?_
    refine x_getR (f := 1136) (k2 := 2136) (pc2 := 306) C (by assumption) kf_11_116 dX11_vote_303 rfl rfl rfl (rti_i rfl) rfl (fun qd_32 => ?_)
    refine x_bipush (pc2 := 308) (v := 20) C dX11_vote_306 rfl rfl ?_
    refine x_iload (pc2 := 310) C dX11_vote_308 5 rfl rfl ?_
    refine x_imul (pc2 := 311) C dX11_vote_310 rfl ?_
    refine x_aload_n (pc2 := 312) C dX11_vote_311 1 rfl rfl rfl ?_
    refine x_getR (f := 1138) (k2 := 2138) (pc2 := 315) C (by assumption) kf_11_122 dX11_vote_312 rfl rfl rfl (rti_i rfl) rfl (fun qd_33 => ?_)
    refine x_iload (pc2 := 317) C dX11_vote_315 5 rfl rfl ?_
    rcases (Decidable.em (inB j_13 8)).symm with qg_34 | qg_34
    · exact absurd hf (by rw [fX11_vote, ob_s hq_1, ob_s hq_2, ob_s hq_8, wl_eq hq_13, ob_s hq_15, ob_s hq_24, if_pos qc_25, ob_s hq_26, if_pos qg_29, if_pos qg_30, wl_eq hw_31, if_neg qg_34]; exact nofun)
    refine x_iald (pc2 := 318) C (by assumption) dX11_vote_317 rfl (inB_in qg_34) rfl ?_
    refine x_iadd (pc2 := 319) C dX11_vote_318 rfl ?_
    refine x_iload (pc2 := 321) C dX11_vote_319 4 rfl rfl ?_
    rcases (Decidable.em (inB (((20 : Int32) * j_13) + (xI Ω_31 2138 0 j_13.toNatClampNeg)) 160)).symm with qg_35 | qg_35
    · exact absurd hf (by rw [fX11_vote, ob_s hq_1, ob_s hq_2, ob_s hq_8, wl_eq hq_13, ob_s hq_15, ob_s hq_24, if_pos qc_25, ob_s hq_26, if_pos qg_29, if_pos qg_30, wl_eq hw_31, if_pos qg_34, if_neg qg_35]; exact nofun)
    refine x_iast (pc2 := 322) C (by assumption) dX11_vote_321 rfl (inB_in qg_35) rfl ?_
    obtain ⟨Ω_36, hw_36⟩ : ∃ z, z = uI Ω_31 2136 0 (((20 : Int32) * j_13) + (xI Ω_31 2138 0 j_13.toNatClampNeg)).toNatClampNeg x4 := ⟨_, rfl⟩
    refine x_om hw_36 ?_
    refine x_aload_n (pc2 := 323) C dX11_vote_322 1 rfl rfl rfl ?_
    refine x_getR (f := 1138) (k2 := 2138) (pc2 := 326) C (by assumption) kf_11_122 dX11_vote_323 rfl rfl rfl (rti_i rfl) rfl (fun qd_37 => ?_)
    refine x_iload (pc2 := 328) C dX11_vote_326 5 rfl rfl ?_
    refine x_dup2 (pc2 := 329) C dX11_vote_328 rfl rfl rfl ?_
    rcases (Decidable.em (inB j_13 8)).symm with qg_38 | qg_38
    · exact absurd hf (by rw [fX11_vote, ob_s hq_1, ob_s hq_2, ob_s hq_8, wl_eq hq_13, ob_s hq_15, ob_s hq_24, if_pos qc_25, ob_s hq_26, if_pos qg_29, if_pos qg_30, wl_eq hw_31, if_pos qg_34, if_pos qg_35, wl_eq hw_36, if_neg qg_38]; exact nofun)
    refine x_iald (pc2 := 330) C (by assumption) dX11_vote_329 rfl (inB_in qg_38) rfl ?_
    refine x_iconst (pc2 := 331) (v := 1) C dX11_vote_330 rfl rfl ?_
    refine x_iadd (pc2 := 332) C dX11_vote_331 rfl ?_
    rcases (Decidable.em (inB j_13 8)).symm with qg_39 | qg_39
    · exact absurd hf (by rw [fX11_vote, ob_s hq_1, ob_s hq_2, ob_s hq_8, wl_eq hq_13, ob_s hq_15, ob_s hq_24, if_pos qc_25, ob_s hq_26, if_pos qg_29, if_pos qg_30, wl_eq hw_31, if_pos qg_34, if_pos qg_35, wl_eq hw_36, if_pos qg_38, if_neg qg_39]; exact nofun)
    refine x_iast (pc2 := 333) C (by assumption) dX11_vote_332 rfl (inB_in qg_39) rfl ?_
    obtain ⟨Ω_40, hw_40⟩ : ∃ z, z = uI Ω_36 2138 0 j_13.toNatClampNeg ((xI Ω_36 2138 0 j_13.toNatClampNeg) + (1 : Int32)) := ⟨_, rfl⟩
    refine x_om hw_40 ?_
    refine x_iconst (pc2 := 334) (v := 0) C dX11_vote_333 rfl rfl ?_
    refine x_istore (pc2 := 336) (lv2 := [(9, _), (8, _), (0, _), (1, _), (3, _), (4, _), (7, _)]) C dX11_vote_334 (by decide) rfl rfl ?_
    rcases opt_em (fX11_vote_l336 q_26.2 x1 j_13 ((xI Ω_40 2138 0 j_13.toNatClampNeg).toNatClampNeg + 1) (0 : Int32) Ω_40) with hq_41 | ⟨q_41, hq_41⟩
    · exact absurd hf (by rw [fX11_vote, ob_s hq_1, ob_s hq_2, ob_s hq_8, wl_eq hq_13, ob_s hq_15, ob_s hq_24, if_pos qc_25, ob_s hq_26, if_pos qg_29, if_pos qg_30, wl_eq hw_31, if_pos qg_34, if_pos qg_35, wl_eq hw_36, if_pos qg_38, if_pos qg_39, wl_eq hw_40, ob_n hq_41]; exact nofun)
    refine x_sub (lv2 := [(9, _), (8, _), (0, _), (1, _), (7, _)]) C [0, 1, 2, 3, 6] rfl (lX11_vote_l336 hok (by assumption) C ((xI Ω_40 2138 0 j_13.toNatClampNeg).toNatClampNeg + 1) (0 : Int32) Ω_40 hq_41 (fun q9 h9 => ?_))
    cases h9
    refine x_aload_n (pc2 := 378) C dX11_vote_377 1 rfl rfl rfl ?_
    refine x_getR (f := 1139) (k2 := 2139) (pc2 := 381) C (by assumption) kf_11_125 dX11_vote_378 rfl rfl rfl (rti_i rfl) rfl (fun qd_42 => ?_)
    refine x_iload (pc2 := 383) C dX11_vote_381 3 rfl rfl ?_
    refine x_iload (pc2 := 385) C dX11_vote_383 0 rfl rfl ?_
    rcases opt_em ((if q_26.2 = 0 then (if inB j_13 8 then (some (xI q_41.2 2139 0 j_13.toNatClampNeg)) else none) else (some (0 : Int32))) : Option (Int32)) with hq_43 | ⟨j_43, hq_43⟩
    · exact absurd hf (by rw [fX11_vote, ob_s hq_1, ob_s hq_2, ob_s hq_8, wl_eq hq_13, ob_s hq_15, ob_s hq_24, if_pos qc_25, ob_s hq_26, if_pos qg_29, if_pos qg_30, wl_eq hw_31, if_pos qg_34, if_pos qg_35, wl_eq hw_36, if_pos qg_38, if_pos qg_39, wl_eq hw_40, ob_s hq_41, ob_n hq_43]; exact nofun)
    suffices hj_43 : XW G B 11 399 [(0, .ref (ad G 11 (0))), (1, .int (x1)), (8, .int (q_26.2))] [.int (j_43), .int (j_13), .ref (ad G 2139 (0))] q_41.2 0 0 by
      refine x_if_eq (tgt := 392) (pc2 := 388) C dX11_vote_385 (by decide) rfl (fun qc_44 => ?_) (fun qc_44 => ?_)
      · refine x_aload_n (pc2 := 393) C dX11_vote_392 1 rfl rfl rfl ?_
        refine x_getR (f := 1139) (k2 := 2139) (pc2 := 396) C (by assumption) kf_11_125 dX11_vote_393 rfl rfl rfl (rti_i rfl) rfl (fun qd_45 => ?_)
        refine x_iload (pc2 := 398) C dX11_vote_396 3 rfl rfl ?_
        rcases (Decidable.em (inB j_13 8)).symm with qg_46 | qg_46
        · exact absurd hq_43 (by rw [if_pos qc_44, if_neg qg_46]; exact nofun)
        refine x_iald (pc2 := 399) C (by assumption) dX11_vote_398 rfl (inB_in qg_46) rfl ?_
        rw [if_pos qc_44, if_pos qg_46] at hq_43
        obtain rfl := (Option.some.inj hq_43).symm
        exact x_sub (lv2 := [(0, _), (1, _), (8, _)]) C [1, 2, 0] rfl hj_43
      · refine x_iconst (pc2 := 389) (v := 0) C dX11_vote_388 rfl rfl ?_
        refine x_goto (tgt := 399) C dX11_vote_389 (by decide) ?_
        rw [if_neg qc_44] at hq_43
        obtain rfl := (Option.some.inj hq_43).symm
        exact x_sub (lv2 := [(0, _), (1, _), (8, _)]) C [1, 2, 0] rfl hj_43
    rcases (Decidable.em (inB j_13 8)).symm with qg_47 | qg_47
    · exact absurd hf (by rw [fX11_vote, ob_s hq_1, ob_s hq_2, ob_s hq_8, wl_eq hq_13, ob_s hq_15, ob_s hq_24, if_pos qc_25, ob_s hq_26, if_pos qg_29, if_pos qg_30, wl_eq hw_31, if_pos qg_34, if_pos qg_35, wl_eq hw_36, if_pos qg_38, if_pos qg_39, wl_eq hw_40, ob_s hq_41, ob_s hq_43, if_neg qg_47]; exact nofun)
    refine x_iast (pc2 := 400) C (by assumption) dX11_vote_399 rfl (inB_in qg_47) rfl ?_
    obtain ⟨Ω_48, hw_48⟩ : ∃ z, z = uI q_41.2 2139 0 j_13.toNatClampNeg j_43 := ⟨_, rfl⟩
    refine x_om hw_48 ?_
    refine x_aload_n (pc2 := 401) C dX11_vote_400 0 rfl rfl rfl ?_
    refine x_iload_n (pc2 := 402) C dX11_vote_401 1 rfl rfl rfl ?_
    rcases opt_em (fX11_justify Ω_48 x1) with hq_49 | ⟨r_49, hq_49⟩
    · exact absurd hf (by rw [fX11_vote, ob_s hq_1, ob_s hq_2, ob_s hq_8, wl_eq hq_13, ob_s hq_15, ob_s hq_24, if_pos qc_25, ob_s hq_26, if_pos qg_29, if_pos qg_30, wl_eq hw_31, if_pos qg_34, if_pos qg_35, wl_eq hw_36, if_pos qg_38, if_pos qg_39, wl_eq hw_40, ob_s hq_41, ob_s hq_43, if_pos qg_47, wl_eq hw_48, ob_n hq_49]; exact nofun)
    refine x_ret (rest := []) (st2 := []) (pc2 := 405) (cu2 := 0) (su2 := 0) (x_cV C (by assumption) (Nat.le_of_ble_eq_true rfl) kmX11_justify rfl kk_11_385 (tX11_justify hok (by assumption)  hq_49) rfl rfl (Nat.le_of_ble_eq_true rfl) ⟨Nat.le_of_ble_eq_true rfl, Nat.le_of_ble_eq_true rfl⟩ ⟨Nat.le_of_ble_eq_true rfl, Nat.le_of_ble_eq_true rfl⟩ dX11_vote_402) rfl rfl rfl rfl ?_
    refine x_iload (pc2 := 407) C dX11_vote_405 2 rfl rfl ?_
    obtain ⟨j_50, hq_50⟩ : ∃ z : Int32, z = (if q_26.2 = 0 then (1 : Int32) else (0 : Int32)) := ⟨_, rfl⟩
    suffices hj_50 : XW G B 11 415 [] [.int (j_50)] r_49 0 0 by
      refine x_if_ne (tgt := 414) (pc2 := 410) C dX11_vote_407 (by decide) rfl (fun qc_51 => ?_) (fun qc_51 => ?_)
      · refine x_iconst (pc2 := 415) (v := 0) C dX11_vote_414 rfl rfl ?_
        rw [if_neg qc_51] at hq_50
        subst hq_50
        exact x_sub (lv2 := []) C [] rfl hj_50
      · refine x_iconst (pc2 := 411) (v := 1) C dX11_vote_410 rfl rfl ?_
        refine x_goto (tgt := 415) C dX11_vote_411 (by decide) ?_
        rw [if_pos qc_51] at hq_50
        subst hq_50
        exact x_sub (lv2 := []) C [] rfl hj_50
    rcases (Decidable.em (j_50 = 0 ∨ j_50 = 1)).symm with qg_52 | qg_52
    · exact absurd hf (by rw [fX11_vote, ob_s hq_1, ob_s hq_2, ob_s hq_8, wl_eq hq_13, ob_s hq_15, ob_s hq_24, if_pos qc_25, ob_s hq_26, if_pos qg_29, if_pos qg_30, wl_eq hw_31, if_pos qg_34, if_pos qg_35, wl_eq hw_36, if_pos qg_38, if_pos qg_39, wl_eq hw_40, ob_s hq_41, ob_s hq_43, if_pos qg_47, wl_eq hw_48, ob_s hq_49, wl_eq hq_50, if_neg qg_52]; exact nofun)
    rw [fX11_vote, ob_s hq_1, ob_s hq_2, ob_s hq_8, wl_eq hq_13, ob_s hq_15, ob_s hq_24, if_pos qc_25, ob_s hq_26, if_pos qg_29, if_pos qg_30, wl_eq hw_31, if_pos qg_34, if_pos qg_35, wl_eq hw_36, if_pos qg_38, if_pos qg_39, wl_eq hw_40, ob_s hq_41, ob_s hq_43, if_pos qg_47, wl_eq hw_48, ob_s hq_49, wl_eq hq_50, if_pos qg_52] at hf
    obtain rfl := (Option.some.inj hf).symm
    exact x_zreturn C dX11_vote_415 rfl qg_52 (Nat.le_of_ble_eq_true rfl) (Nat.le_of_ble_eq_true rfl) rfl rfl
  · refine x_iconst (pc2 := 134) (v := 0) C dX11_vote_133 rfl rfl ?_
    rw [fX11_vote, ob_s hq_1, ob_s hq_2, ob_s hq_8, wl_eq hq_13, ob_s hq_15, ob_s hq_24, if_neg qc_25] at hf
    obtain rfl := (Option.some.inj hf).symm
    exact x_zreturn C dX11_vote_134 rfl (by first | exact Or.inl rfl | exact Or.inr rfl) (Nat.le_of_ble_eq_true rfl) (Nat.le_of_ble_eq_true rfl) rfl rfl
def fX11_isJustified (Ω : XO) (x1 : Int32) (x2 : Int32) : Option (Int32 × XO) := (fX11_isBlock Ω x1 x2).bind (fun r_1 => (wl ((if r_1 = 0 then (1 : Int32) else (0 : Int32))) (fun (j_2 : Int32) => (fX11_holds Ω j_2).bind (fun r_4 => (((if r_4.1 = 0 then (if inB (((24 : Int32) * x1) + x2) 48 then (if (xI r_4.2 2133 0 (((24 : Int32) * x1) + x2).toNatClampNeg) = (1 : Int32) then (some (1 : Int32)) else (some (0 : Int32))) else none) else (some (0 : Int32))) : Option (Int32))).bind (fun j_5 => (if j_5 = 0 ∨ j_5 = 1 then (some (j_5, r_4.2)) else none))))))
set_option maxRecDepth 20000 in
theorem tX11_isJustified {G : XG} (hok : XK G) {x1 : Int32} {x2 : Int32} {Ω : XO} (hd0 : dm G 11 0)   {r : Int32 × XO} (hf : fX11_isJustified Ω x1 x2 = some r) : XM G yX11_isJustified cX11_isJustified 3 ((some FieldType.boolean)) (RM 3 0) [.ref (ad G 11 0), .int x1, .int x2] Ω (.inl (some (.int (r.1)))) r.2 := by
  refine x_start (lv := [(0, .ref (ad G 11 0)), (1, .int x1), (2, .int x2)]) (own := RX11) hok (by decide +kernel) rfl (Nat.le_of_ble_eq_true rfl) rfl (fun B C => ?_)
  refine x_aload_n (pc2 := 1) C dX11_isJustified_0 0 rfl rfl rfl ?_
  refine x_aload_n (pc2 := 2) C dX11_isJustified_1 0 rfl rfl rfl ?_
  refine x_iload_n (pc2 := 3) C dX11_isJustified_2 1 rfl rfl rfl ?_
  refine x_iload_n (pc2 := 4) C dX11_isJustified_3 2 rfl rfl rfl ?_
  rcases opt_em (fX11_isBlock Ω x1 x2) with hq_1 | ⟨r_1, hq_1⟩
  · exact absurd hf (by rw [fX11_isJustified, ob_n hq_1]; exact nofun)
  refine x_ret (rest := [_]) (st2 := [_, _]) (pc2 := 7) (cu2 := 0) (su2 := 0) (x_cV C (by assumption) (Nat.le_of_ble_eq_true rfl) kmX11_isBlock rfl kk_11_349 (tX11_isBlock hok (by assumption)  hq_1) rfl rfl (Nat.le_of_ble_eq_true rfl) ⟨Nat.le_of_ble_eq_true rfl, Nat.le_of_ble_eq_true rfl⟩ ⟨Nat.le_of_ble_eq_true rfl, Nat.le_of_ble_eq_true rfl⟩ dX11_isJustified_4) rfl rfl rfl rfl ?_
  obtain ⟨j_2, hq_2⟩ : ∃ z : Int32, z = (if r_1 = 0 then (1 : Int32) else (0 : Int32)) := ⟨_, rfl⟩
  suffices hj_2 : XW G B 3 15 [(0, .ref (ad G 11 (0))), (1, .int (x1)), (2, .int (x2))] [.int (j_2), .ref (ad G 11 (0))] Ω 0 0 by
    refine x_if_eq (tgt := 14) (pc2 := 10) C dX11_isJustified_7 (by decide) rfl (fun qc_3 => ?_) (fun qc_3 => ?_)
    · refine x_iconst (pc2 := 15) (v := 1) C dX11_isJustified_14 rfl rfl ?_
      rw [if_pos qc_3] at hq_2
      subst hq_2
      exact x_sub (lv2 := [(0, _), (1, _), (2, _)]) C [0, 1, 2] rfl hj_2
    · refine x_iconst (pc2 := 11) (v := 0) C dX11_isJustified_10 rfl rfl ?_
      refine x_goto (tgt := 15) C dX11_isJustified_11 (by decide) ?_
      rw [if_neg qc_3] at hq_2
      subst hq_2
      exact x_sub (lv2 := [(0, _), (1, _), (2, _)]) C [0, 1, 2] rfl hj_2
  rcases opt_em (fX11_holds Ω j_2) with hq_4 | ⟨r_4, hq_4⟩
  · exact absurd hf (by rw [fX11_isJustified, ob_s hq_1, wl_eq hq_2, ob_n hq_4]; exact nofun)
  refine x_ret (rest := []) (st2 := [_]) (pc2 := 18) (cu2 := 0) (su2 := 0) (x_cV C (by assumption) (Nat.le_of_ble_eq_true rfl) kmX11_holds rfl kk_11_214 (tX11_holds hok (by assumption)  hq_4) rfl rfl (Nat.le_of_ble_eq_true rfl) ⟨Nat.le_of_ble_eq_true rfl, Nat.le_of_ble_eq_true rfl⟩ ⟨Nat.le_of_ble_eq_true rfl, Nat.le_of_ble_eq_true rfl⟩ dX11_isJustified_15) rfl rfl rfl rfl ?_
  rcases opt_em ((if r_4.1 = 0 then (if inB (((24 : Int32) * x1) + x2) 48 then (if (xI r_4.2 2133 0 (((24 : Int32) * x1) + x2).toNatClampNeg) = (1 : Int32) then (some (1 : Int32)) else (some (0 : Int32))) else none) else (some (0 : Int32))) : Option (Int32)) with hq_5 | ⟨j_5, hq_5⟩
  · exact absurd hf (by rw [fX11_isJustified, ob_s hq_1, wl_eq hq_2, ob_s hq_4, ob_n hq_5]; exact nofun)
  suffices hj_5 : XW G B 3 41 [] [.int (j_5)] r_4.2 0 0 by
    refine x_if_ne (tgt := 40) (pc2 := 21) C dX11_isJustified_18 (by decide) rfl (fun qc_6 => ?_) (fun qc_6 => ?_)
    · refine x_iconst (pc2 := 41) (v := 0) C dX11_isJustified_40 rfl rfl ?_
      rw [if_neg qc_6] at hq_5
      obtain rfl := (Option.some.inj hq_5).symm
      exact x_sub (lv2 := []) C [] rfl hj_5
    · refine x_aload_n (pc2 := 22) C dX11_isJustified_21 0 rfl rfl rfl ?_
      refine x_getR (f := 1133) (k2 := 2133) (pc2 := 25) C (by assumption) kf_11_107 dX11_isJustified_22 rfl rfl rfl (rti_i rfl) rfl (fun qd_7 => ?_)
      refine x_bipush (pc2 := 27) (v := 24) C dX11_isJustified_25 rfl rfl ?_
      refine x_iload_n (pc2 := 28) C dX11_isJustified_27 1 rfl rfl rfl ?_
      refine x_imul (pc2 := 29) C dX11_isJustified_28 rfl ?_
      refine x_iload_n (pc2 := 30) C dX11_isJustified_29 2 rfl rfl rfl ?_
      refine x_iadd (pc2 := 31) C dX11_isJustified_30 rfl ?_
      rcases (Decidable.em (inB (((24 : Int32) * x1) + x2) 48)).symm with qg_8 | qg_8
      · exact absurd hq_5 (by rw [if_pos qc_6, if_neg qg_8]; exact nofun)
      refine x_iald (pc2 := 32) C (by assumption) dX11_isJustified_31 rfl (inB_in qg_8) rfl ?_
      refine x_iconst (pc2 := 33) (v := 1) C dX11_isJustified_32 rfl rfl ?_
      refine x_icmp_ne (tgt := 40) (pc2 := 36) C dX11_isJustified_33 (by decide) rfl (fun qc_9 => ?_) (fun qc_9 => ?_)
      · refine x_iconst (pc2 := 41) (v := 0) C dX11_isJustified_40 rfl rfl ?_
        rw [if_pos qc_6, if_pos qg_8, if_neg qc_9] at hq_5
        obtain rfl := (Option.some.inj hq_5).symm
        exact x_sub (lv2 := []) C [] rfl hj_5
      · refine x_iconst (pc2 := 37) (v := 1) C dX11_isJustified_36 rfl rfl ?_
        refine x_goto (tgt := 41) C dX11_isJustified_37 (by decide) ?_
        rw [if_pos qc_6, if_pos qg_8, if_pos qc_9] at hq_5
        obtain rfl := (Option.some.inj hq_5).symm
        exact x_sub (lv2 := []) C [] rfl hj_5
  rcases (Decidable.em (j_5 = 0 ∨ j_5 = 1)).symm with qg_10 | qg_10
  · exact absurd hf (by rw [fX11_isJustified, ob_s hq_1, wl_eq hq_2, ob_s hq_4, ob_s hq_5, if_neg qg_10]; exact nofun)
  rw [fX11_isJustified, ob_s hq_1, wl_eq hq_2, ob_s hq_4, ob_s hq_5, if_pos qg_10] at hf
  obtain rfl := (Option.some.inj hf).symm
  exact x_zreturn C dX11_isJustified_41 rfl qg_10 (Nat.le_of_ble_eq_true rfl) (Nat.le_of_ble_eq_true rfl) rfl rfl
def fX11_lastFinal (Ω : XO) (x1 : Int32) : Option (Int32 × XO) := (fX11_isChain Ω x1).bind (fun r_1 => (wl ((if r_1 = 0 then (1 : Int32) else (0 : Int32))) (fun (j_2 : Int32) => (fX11_holds Ω j_2).bind (fun r_4 => (((if r_4.1 = 0 then (if inB x1 2 then (some (xI r_4.2 2110 0 x1.toNatClampNeg)) else none) else (some (-1 : Int32))) : Option (Int32))).bind (fun j_5 => (some (j_5, r_4.2)))))))
set_option maxRecDepth 20000 in
theorem tX11_lastFinal {G : XG} (hok : XK G) {x1 : Int32} {Ω : XO} (hd0 : dm G 11 0)   {r : Int32 × XO} (hf : fX11_lastFinal Ω x1 = some r) : XM G yX11_lastFinal cX11_lastFinal 2 ((some FieldType.int)) (RM 2 0) [.ref (ad G 11 0), .int x1] Ω (.inl (some (.int (r.1)))) r.2 := by
  refine x_start (lv := [(0, .ref (ad G 11 0)), (1, .int x1)]) (own := RX11) hok (by decide +kernel) rfl (Nat.le_of_ble_eq_true rfl) rfl (fun B C => ?_)
  refine x_aload_n (pc2 := 1) C dX11_lastFinal_0 0 rfl rfl rfl ?_
  refine x_aload_n (pc2 := 2) C dX11_lastFinal_1 0 rfl rfl rfl ?_
  refine x_iload_n (pc2 := 3) C dX11_lastFinal_2 1 rfl rfl rfl ?_
  rcases opt_em (fX11_isChain Ω x1) with hq_1 | ⟨r_1, hq_1⟩
  · exact absurd hf (by rw [fX11_lastFinal, ob_n hq_1]; exact nofun)
  refine x_ret (rest := [_]) (st2 := [_, _]) (pc2 := 6) (cu2 := 0) (su2 := 0) (x_cV C (by assumption) (Nat.le_of_ble_eq_true rfl) kmX11_isChain rfl kk_11_182 (tX11_isChain hok (by assumption)  hq_1) rfl rfl (Nat.le_of_ble_eq_true rfl) ⟨Nat.le_of_ble_eq_true rfl, Nat.le_of_ble_eq_true rfl⟩ ⟨Nat.le_of_ble_eq_true rfl, Nat.le_of_ble_eq_true rfl⟩ dX11_lastFinal_3) rfl rfl rfl rfl ?_
  obtain ⟨j_2, hq_2⟩ : ∃ z : Int32, z = (if r_1 = 0 then (1 : Int32) else (0 : Int32)) := ⟨_, rfl⟩
  suffices hj_2 : XW G B 2 14 [(0, .ref (ad G 11 (0))), (1, .int (x1))] [.int (j_2), .ref (ad G 11 (0))] Ω 0 0 by
    refine x_if_eq (tgt := 13) (pc2 := 9) C dX11_lastFinal_6 (by decide) rfl (fun qc_3 => ?_) (fun qc_3 => ?_)
    · refine x_iconst (pc2 := 14) (v := 1) C dX11_lastFinal_13 rfl rfl ?_
      rw [if_pos qc_3] at hq_2
      subst hq_2
      exact x_sub (lv2 := [(0, _), (1, _)]) C [0, 1] rfl hj_2
    · refine x_iconst (pc2 := 10) (v := 0) C dX11_lastFinal_9 rfl rfl ?_
      refine x_goto (tgt := 14) C dX11_lastFinal_10 (by decide) ?_
      rw [if_neg qc_3] at hq_2
      subst hq_2
      exact x_sub (lv2 := [(0, _), (1, _)]) C [0, 1] rfl hj_2
  rcases opt_em (fX11_holds Ω j_2) with hq_4 | ⟨r_4, hq_4⟩
  · exact absurd hf (by rw [fX11_lastFinal, ob_s hq_1, wl_eq hq_2, ob_n hq_4]; exact nofun)
  refine x_ret (rest := []) (st2 := [_]) (pc2 := 17) (cu2 := 0) (su2 := 0) (x_cV C (by assumption) (Nat.le_of_ble_eq_true rfl) kmX11_holds rfl kk_11_214 (tX11_holds hok (by assumption)  hq_4) rfl rfl (Nat.le_of_ble_eq_true rfl) ⟨Nat.le_of_ble_eq_true rfl, Nat.le_of_ble_eq_true rfl⟩ ⟨Nat.le_of_ble_eq_true rfl, Nat.le_of_ble_eq_true rfl⟩ dX11_lastFinal_14) rfl rfl rfl rfl ?_
  rcases opt_em ((if r_4.1 = 0 then (if inB x1 2 then (some (xI r_4.2 2110 0 x1.toNatClampNeg)) else none) else (some (-1 : Int32))) : Option (Int32)) with hq_5 | ⟨j_5, hq_5⟩
  · exact absurd hf (by rw [fX11_lastFinal, ob_s hq_1, wl_eq hq_2, ob_s hq_4, ob_n hq_5]; exact nofun)
  suffices hj_5 : XW G B 2 30 [] [.int (j_5)] r_4.2 0 0 by
    refine x_if_eq (tgt := 24) (pc2 := 20) C dX11_lastFinal_17 (by decide) rfl (fun qc_6 => ?_) (fun qc_6 => ?_)
    · refine x_aload_n (pc2 := 25) C dX11_lastFinal_24 0 rfl rfl rfl ?_
      refine x_getR (f := 1110) (k2 := 2110) (pc2 := 28) C (by assumption) kf_11_37 dX11_lastFinal_25 rfl rfl rfl (rti_i rfl) rfl (fun qd_7 => ?_)
      refine x_iload_n (pc2 := 29) C dX11_lastFinal_28 1 rfl rfl rfl ?_
      rcases (Decidable.em (inB x1 2)).symm with qg_8 | qg_8
      · exact absurd hq_5 (by rw [if_pos qc_6, if_neg qg_8]; exact nofun)
      refine x_iald (pc2 := 30) C (by assumption) dX11_lastFinal_29 rfl (inB_in qg_8) rfl ?_
      rw [if_pos qc_6, if_pos qg_8] at hq_5
      obtain rfl := (Option.some.inj hq_5).symm
      exact x_sub (lv2 := []) C [] rfl hj_5
    · refine x_iconst (pc2 := 21) (v := (-1)) C dX11_lastFinal_20 rfl rfl ?_
      refine x_goto (tgt := 30) C dX11_lastFinal_21 (by decide) ?_
      rw [if_neg qc_6] at hq_5
      obtain rfl := (Option.some.inj hq_5).symm
      exact x_sub (lv2 := []) C [] rfl hj_5
  rw [fX11_lastFinal, ob_s hq_1, wl_eq hq_2, ob_s hq_4, ob_s hq_5] at hf
  obtain rfl := (Option.some.inj hf).symm
  exact x_ireturn C dX11_lastFinal_30 rfl (Nat.le_of_ble_eq_true rfl) (Nat.le_of_ble_eq_true rfl) rfl rfl
def fX11_stake (Ω : XO) (x1 : Int32) (x2 : Int32) : Option (Int32 × XO) := (fX11_isChain Ω x1).bind (fun r_1 => (((if r_1 = 0 then (some (1 : Int32)) else (fX11_in Ω x2 (0 : Int32) (3 : Int32)).bind (fun r_4 => (if r_4 = 0 then (some (1 : Int32)) else (some (0 : Int32))))) : Option (Int32))).bind (fun j_2 => (fX11_holds Ω j_2).bind (fun r_6 => (((if r_6.1 = 0 then (if inB (((4 : Int32) * x1) + x2) 8 then (some (xI r_6.2 2139 0 (((4 : Int32) * x1) + x2).toNatClampNeg)) else none) else (some (-1 : Int32))) : Option (Int32))).bind (fun j_7 => (some (j_7, r_6.2))))))
set_option maxRecDepth 20000 in
theorem tX11_stake {G : XG} (hok : XK G) {x1 : Int32} {x2 : Int32} {Ω : XO} (hd0 : dm G 11 0)   {r : Int32 × XO} (hf : fX11_stake Ω x1 x2 = some r) : XM G yX11_stake cX11_stake 3 ((some FieldType.int)) (RM 2 0) [.ref (ad G 11 0), .int x1, .int x2] Ω (.inl (some (.int (r.1)))) r.2 := by
  refine x_start (lv := [(0, .ref (ad G 11 0)), (1, .int x1), (2, .int x2)]) (own := RX11) hok (by decide +kernel) rfl (Nat.le_of_ble_eq_true rfl) rfl (fun B C => ?_)
  refine x_aload_n (pc2 := 1) C dX11_stake_0 0 rfl rfl rfl ?_
  refine x_aload_n (pc2 := 2) C dX11_stake_1 0 rfl rfl rfl ?_
  refine x_iload_n (pc2 := 3) C dX11_stake_2 1 rfl rfl rfl ?_
  rcases opt_em (fX11_isChain Ω x1) with hq_1 | ⟨r_1, hq_1⟩
  · exact absurd hf (by rw [fX11_stake, ob_n hq_1]; exact nofun)
  refine x_ret (rest := [_]) (st2 := [_, _]) (pc2 := 6) (cu2 := 0) (su2 := 0) (x_cV C (by assumption) (Nat.le_of_ble_eq_true rfl) kmX11_isChain rfl kk_11_182 (tX11_isChain hok (by assumption)  hq_1) rfl rfl (Nat.le_of_ble_eq_true rfl) ⟨Nat.le_of_ble_eq_true rfl, Nat.le_of_ble_eq_true rfl⟩ ⟨Nat.le_of_ble_eq_true rfl, Nat.le_of_ble_eq_true rfl⟩ dX11_stake_3) rfl rfl rfl rfl ?_
  rcases opt_em ((if r_1 = 0 then (some (1 : Int32)) else (fX11_in Ω x2 (0 : Int32) (3 : Int32)).bind (fun r_4 => (if r_4 = 0 then (some (1 : Int32)) else (some (0 : Int32))))) : Option (Int32)) with hq_2 | ⟨j_2, hq_2⟩
  · exact absurd hf (by rw [fX11_stake, ob_s hq_1, ob_n hq_2]; exact nofun)
  suffices hj_2 : XW G B 3 24 [(0, .ref (ad G 11 (0))), (1, .int (x1)), (2, .int (x2))] [.int (j_2), .ref (ad G 11 (0))] Ω 0 0 by
    refine x_if_eq (tgt := 23) (pc2 := 9) C dX11_stake_6 (by decide) rfl (fun qc_3 => ?_) (fun qc_3 => ?_)
    · refine x_iconst (pc2 := 24) (v := 1) C dX11_stake_23 rfl rfl ?_
      rw [if_pos qc_3] at hq_2
      obtain rfl := (Option.some.inj hq_2).symm
      exact x_sub (lv2 := [(0, _), (1, _), (2, _)]) C [0, 1, 2] rfl hj_2
    · refine x_aload_n (pc2 := 10) C dX11_stake_9 0 rfl rfl rfl ?_
      refine x_iload_n (pc2 := 11) C dX11_stake_10 2 rfl rfl rfl ?_
      refine x_iconst (pc2 := 12) (v := 0) C dX11_stake_11 rfl rfl ?_
      refine x_iconst (pc2 := 13) (v := 3) C dX11_stake_12 rfl rfl ?_
      rcases opt_em (fX11_in Ω x2 (0 : Int32) (3 : Int32)) with hq_4 | ⟨r_4, hq_4⟩
      · exact absurd hq_2 (by rw [if_neg qc_3, ob_n hq_4]; exact nofun)
      refine x_ret (rest := [_]) (st2 := [_, _]) (pc2 := 16) (cu2 := 0) (su2 := 0) (x_cV C (by assumption) (Nat.le_of_ble_eq_true rfl) kmX11_in rfl kk_11_178 (tX11_in hok (by assumption)  hq_4) rfl rfl (Nat.le_of_ble_eq_true rfl) ⟨Nat.le_of_ble_eq_true rfl, Nat.le_of_ble_eq_true rfl⟩ ⟨Nat.le_of_ble_eq_true rfl, Nat.le_of_ble_eq_true rfl⟩ dX11_stake_13) rfl rfl rfl rfl ?_
      refine x_if_eq (tgt := 23) (pc2 := 19) C dX11_stake_16 (by decide) rfl (fun qc_5 => ?_) (fun qc_5 => ?_)
      · refine x_iconst (pc2 := 24) (v := 1) C dX11_stake_23 rfl rfl ?_
        rw [if_neg qc_3, ob_s hq_4, if_pos qc_5] at hq_2
        obtain rfl := (Option.some.inj hq_2).symm
        exact x_sub (lv2 := [(0, _), (1, _), (2, _)]) C [0, 1, 2] rfl hj_2
      · refine x_iconst (pc2 := 20) (v := 0) C dX11_stake_19 rfl rfl ?_
        refine x_goto (tgt := 24) C dX11_stake_20 (by decide) ?_
        rw [if_neg qc_3, ob_s hq_4, if_neg qc_5] at hq_2
        obtain rfl := (Option.some.inj hq_2).symm
        exact x_sub (lv2 := [(0, _), (1, _), (2, _)]) C [0, 1, 2] rfl hj_2
  rcases opt_em (fX11_holds Ω j_2) with hq_6 | ⟨r_6, hq_6⟩
  · exact absurd hf (by rw [fX11_stake, ob_s hq_1, ob_s hq_2, ob_n hq_6]; exact nofun)
  refine x_ret (rest := []) (st2 := [_]) (pc2 := 27) (cu2 := 0) (su2 := 0) (x_cV C (by assumption) (Nat.le_of_ble_eq_true rfl) kmX11_holds rfl kk_11_214 (tX11_holds hok (by assumption)  hq_6) rfl rfl (Nat.le_of_ble_eq_true rfl) ⟨Nat.le_of_ble_eq_true rfl, Nat.le_of_ble_eq_true rfl⟩ ⟨Nat.le_of_ble_eq_true rfl, Nat.le_of_ble_eq_true rfl⟩ dX11_stake_24) rfl rfl rfl rfl ?_
  rcases opt_em ((if r_6.1 = 0 then (if inB (((4 : Int32) * x1) + x2) 8 then (some (xI r_6.2 2139 0 (((4 : Int32) * x1) + x2).toNatClampNeg)) else none) else (some (-1 : Int32))) : Option (Int32)) with hq_7 | ⟨j_7, hq_7⟩
  · exact absurd hf (by rw [fX11_stake, ob_s hq_1, ob_s hq_2, ob_s hq_6, ob_n hq_7]; exact nofun)
  suffices hj_7 : XW G B 3 44 [] [.int (j_7)] r_6.2 0 0 by
    refine x_if_eq (tgt := 34) (pc2 := 30) C dX11_stake_27 (by decide) rfl (fun qc_8 => ?_) (fun qc_8 => ?_)
    · refine x_aload_n (pc2 := 35) C dX11_stake_34 0 rfl rfl rfl ?_
      refine x_getR (f := 1139) (k2 := 2139) (pc2 := 38) C (by assumption) kf_11_125 dX11_stake_35 rfl rfl rfl (rti_i rfl) rfl (fun qd_9 => ?_)
      refine x_iconst (pc2 := 39) (v := 4) C dX11_stake_38 rfl rfl ?_
      refine x_iload_n (pc2 := 40) C dX11_stake_39 1 rfl rfl rfl ?_
      refine x_imul (pc2 := 41) C dX11_stake_40 rfl ?_
      refine x_iload_n (pc2 := 42) C dX11_stake_41 2 rfl rfl rfl ?_
      refine x_iadd (pc2 := 43) C dX11_stake_42 rfl ?_
      rcases (Decidable.em (inB (((4 : Int32) * x1) + x2) 8)).symm with qg_10 | qg_10
      · exact absurd hq_7 (by rw [if_pos qc_8, if_neg qg_10]; exact nofun)
      refine x_iald (pc2 := 44) C (by assumption) dX11_stake_43 rfl (inB_in qg_10) rfl ?_
      rw [if_pos qc_8, if_pos qg_10] at hq_7
      obtain rfl := (Option.some.inj hq_7).symm
      exact x_sub (lv2 := []) C [] rfl hj_7
    · refine x_iconst (pc2 := 31) (v := (-1)) C dX11_stake_30 rfl rfl ?_
      refine x_goto (tgt := 44) C dX11_stake_31 (by decide) ?_
      rw [if_neg qc_8] at hq_7
      obtain rfl := (Option.some.inj hq_7).symm
      exact x_sub (lv2 := []) C [] rfl hj_7
  rw [fX11_stake, ob_s hq_1, ob_s hq_2, ob_s hq_6, ob_s hq_7] at hf
  obtain rfl := (Option.some.inj hf).symm
  exact x_ireturn C dX11_stake_44 rfl (Nat.le_of_ble_eq_true rfl) (Nat.le_of_ble_eq_true rfl) rfl rfl
def fX11_rootOf_l2 (y1 : Int32) : Nat → Int32 → XO → Option (Int32 × XO)
  | 0, _, _ => none
  | n + 1, y2, Ω => (if (16 : Int32) ≤ y2 then (some (y2, Ω)) else (fX11_leafOf Ω y1 y2).bind (fun r_3 => (if inB y2 16 then (wl (uI Ω 2159 0 y2.toNatClampNeg r_3) (fun Ω_5 => fX11_rootOf_l2 y1 n (y2 + 1) Ω_5)) else none)))
set_option maxRecDepth 20000 in
theorem lX11_rootOf_l2 {G : XG} (hok : XK G) {B : XB} {y1 : Int32}  (hf0 : dm G 11 0)   {T : Option Value ⊕ String} {Ω9 : XO} (C : XC G B cX11_rootOf RX11 (RM 2 0) 3 ((some FieldType.int)) T Ω9) : ∀ (n : Nat) (y2 : Int32) (Ω : XO) {r : (Int32 × XO)}, fX11_rootOf_l2 y1 n y2 Ω = some r → (∀ q, r = q → (XW G B 3 26 [(0, .ref (ad G 11 (0)))] [] q.2 0 0)) → XW G B 3 2 [(2, .int (y2)), (0, .ref (ad G 11 (0))), (1, .int (y1))] [] Ω 0 0 := by
  intro n
  induction n with
  | zero => intro y2 Ω r hf; exact absurd hf (by rw [fX11_rootOf_l2]; exact nofun)
  | succ n ih =>
    intro y2 Ω r hf hk
    refine x_iload_n (pc2 := 3) C dX11_rootOf_2 0 rfl rfl rfl ?_
    refine x_bipush (pc2 := 5) (v := 16) C dX11_rootOf_3 rfl rfl ?_
    refine x_icmp_ge (tgt := 26) (pc2 := 8) C dX11_rootOf_5 (by decide) rfl (fun qc_1 => ?_) (fun qc_1 => ?_)
    · rw [fX11_rootOf_l2, if_pos qc_1] at hf
      exact x_sub (lv2 := [(0, _)]) C [1] rfl (hk _ (Option.some.inj hf).symm)
    · refine x_aload_n (pc2 := 9) C dX11_rootOf_8 1 rfl rfl rfl ?_
      refine x_getR (f := 1159) (k2 := 2159) (pc2 := 12) C (by assumption) kf_11_167 dX11_rootOf_9 rfl rfl rfl (rti_i rfl) rfl (fun qd_2 => ?_)
      refine x_iload_n (pc2 := 13) C dX11_rootOf_12 0 rfl rfl rfl ?_
      refine x_aload_n (pc2 := 14) C dX11_rootOf_13 1 rfl rfl rfl ?_
      refine x_iload_n (pc2 := 15) C dX11_rootOf_14 2 rfl rfl rfl ?_
      refine x_iload_n (pc2 := 16) C dX11_rootOf_15 0 rfl rfl rfl ?_
      rcases opt_em (fX11_leafOf Ω y1 y2) with hq_3 | ⟨r_3, hq_3⟩
      · exact absurd hf (by rw [fX11_rootOf_l2, if_neg qc_1, ob_n hq_3]; exact nofun)
      refine x_ret (rest := [_, _]) (st2 := [_, _, _]) (pc2 := 19) (cu2 := 0) (su2 := 0) (x_cV C (by assumption) (Nat.le_of_ble_eq_true rfl) kmX11_leafOf rfl kk_11_199 (tX11_leafOf hok (by assumption)  hq_3) rfl rfl (Nat.le_of_ble_eq_true rfl) ⟨Nat.le_of_ble_eq_true rfl, Nat.le_of_ble_eq_true rfl⟩ ⟨Nat.le_of_ble_eq_true rfl, Nat.le_of_ble_eq_true rfl⟩ dX11_rootOf_16) rfl rfl rfl rfl ?_
      rcases (Decidable.em (inB y2 16)).symm with qg_4 | qg_4
      · exact absurd hf (by rw [fX11_rootOf_l2, if_neg qc_1, ob_s hq_3, if_neg qg_4]; exact nofun)
      refine x_iast (pc2 := 20) C (by assumption) dX11_rootOf_19 rfl (inB_in qg_4) rfl ?_
      obtain ⟨Ω_5, hw_5⟩ : ∃ z, z = uI Ω 2159 0 y2.toNatClampNeg r_3 := ⟨_, rfl⟩
      refine x_om hw_5 ?_
      refine x_iinc (pc2 := 23) (v := y2 + 1) (lv2 := [(2, _), (0, _), (1, _)]) C dX11_rootOf_20 0 rfl rfl (by decide) rfl rfl ?_
      refine x_goto (tgt := 2) C dX11_rootOf_23 (by decide) ?_
      exact x_sub (lv2 := [(2, _), (0, _), (1, _)]) C [0, 1, 2] rfl (ih (y2 + 1) Ω_5 (by rw [fX11_rootOf_l2, if_neg qc_1, ob_s hq_3, if_pos qg_4, wl_eq hw_5] at hf; exact hf) hk)
def fX11_rootOf (Ω : XO) (x1 : Int32) : Option (Int32 × XO) := (fX11_rootOf_l2 x1 17 (0 : Int32) Ω).bind (fun q_1 => (fX11_fold q_1.2 (4 : Int32)).bind (fun r_2 => (some (xI r_2 2159 0 (0 : Int32).toNatClampNeg, r_2))))
set_option maxRecDepth 20000 in
theorem tX11_rootOf {G : XG} (hok : XK G) {x1 : Int32} {Ω : XO} (hd0 : dm G 11 0)   {r : Int32 × XO} (hf : fX11_rootOf Ω x1 = some r) : XM G yX11_rootOf cX11_rootOf 3 ((some FieldType.int)) (RM 2 0) [.ref (ad G 11 0), .int x1] Ω (.inl (some (.int (r.1)))) r.2 := by
  refine x_start (lv := [(0, .ref (ad G 11 0)), (1, .int x1)]) (own := RX11) hok (by decide +kernel) rfl (Nat.le_of_ble_eq_true rfl) rfl (fun B C => ?_)
  refine x_iconst (pc2 := 1) (v := 0) C dX11_rootOf_0 rfl rfl ?_
  refine x_istore_n (pc2 := 2) (lv2 := [(2, _), (0, _), (1, _)]) C dX11_rootOf_1 rfl (by decide) rfl rfl ?_
  rcases opt_em (fX11_rootOf_l2 x1 17 (0 : Int32) Ω) with hq_1 | ⟨q_1, hq_1⟩
  · exact absurd hf (by rw [fX11_rootOf, ob_n hq_1]; exact nofun)
  refine x_sub (lv2 := [(2, _), (0, _), (1, _)]) C [0, 1, 2] rfl (lX11_rootOf_l2 hok (by assumption) C 17 (0 : Int32) Ω hq_1 (fun q9 h9 => ?_))
  cases h9
  refine x_aload_n (pc2 := 27) C dX11_rootOf_26 0 rfl rfl rfl ?_
  refine x_iconst (pc2 := 28) (v := 4) C dX11_rootOf_27 rfl rfl ?_
  rcases opt_em (fX11_fold q_1.2 (4 : Int32)) with hq_2 | ⟨r_2, hq_2⟩
  · exact absurd hf (by rw [fX11_rootOf, ob_s hq_1, ob_n hq_2]; exact nofun)
  refine x_ret (rest := []) (st2 := []) (pc2 := 31) (cu2 := 0) (su2 := 0) (x_cV C (by assumption) (Nat.le_of_ble_eq_true rfl) kmX11_fold rfl kk_11_203 (tX11_fold hok (by assumption)  hq_2) rfl rfl (Nat.le_of_ble_eq_true rfl) ⟨Nat.le_of_ble_eq_true rfl, Nat.le_of_ble_eq_true rfl⟩ ⟨Nat.le_of_ble_eq_true rfl, Nat.le_of_ble_eq_true rfl⟩ dX11_rootOf_28) rfl rfl rfl rfl ?_
  refine x_aload_n (pc2 := 32) C dX11_rootOf_31 0 rfl rfl rfl ?_
  refine x_getR (f := 1159) (k2 := 2159) (pc2 := 35) C (by assumption) kf_11_167 dX11_rootOf_32 rfl rfl rfl (rti_i rfl) rfl (fun qd_3 => ?_)
  refine x_iconst (pc2 := 36) (v := 0) C dX11_rootOf_35 rfl rfl ?_
  refine x_iald (pc2 := 37) C (by assumption) dX11_rootOf_36 rfl (vp_in_iff.mpr (by decide)) rfl ?_
  rw [fX11_rootOf, ob_s hq_1, ob_s hq_2] at hf
  obtain rfl := (Option.some.inj hf).symm
  exact x_ireturn C dX11_rootOf_37 rfl (Nat.le_of_ble_eq_true rfl) (Nat.le_of_ble_eq_true rfl) rfl rfl
def fX11_size_l11 (Ω : XO) (y2 : Int32) (y1 : Int32) : Nat → Int32 → Int32 → Option (Int32 × Int32)
  | 0, _, _ => none
  | n + 1, y4, y3 => (if inB y1 2 then (if (xI Ω 2108 0 y1.toNatClampNeg) ≤ y4 then (some (y4, y3)) else (fX11_pooled Ω y1 y4 y2).bind (fun r_4 => (wl ((if r_4 = 0 then (0 : Int32) else (1 : Int32))) (fun (j_5 : Int32) => fX11_size_l11 Ω y2 y1 n (y4 + 1) (y3 + j_5))))) else none)
set_option maxRecDepth 20000 in
theorem lX11_size_l11 {G : XG} (hok : XK G) {B : XB} {y2 : Int32} {y1 : Int32} {Ω : XO} (hf0 : dm G 11 0)   {T : Option Value ⊕ String} {Ω9 : XO} (C : XC G B cX11_size RX11 (RM 2 0) 5 ((some FieldType.int)) T Ω9) : ∀ (n : Nat) (y4 : Int32) (y3 : Int32) {r : (Int32 × Int32)}, fX11_size_l11 Ω y2 y1 n y4 y3 = some r → (∀ q, r = q → (XW G B 5 47 [(3, .int (q.2))] [] Ω 0 0)) → XW G B 5 11 [(4, .int (y4)), (3, .int (y3)), (2, .int (y2)), (0, .ref (ad G 11 (0))), (1, .int (y1))] [] Ω 0 0 := by
  intro n
  induction n with
  | zero => intro y4 y3 r hf; exact absurd hf (by rw [fX11_size_l11]; exact nofun)
  | succ n ih =>
    intro y4 y3 r hf hk
    refine x_iload (pc2 := 13) C dX11_size_11 0 rfl rfl ?_
    refine x_aload_n (pc2 := 14) C dX11_size_13 3 rfl rfl rfl ?_
    refine x_getR (f := 1108) (k2 := 2108) (pc2 := 17) C (by assumption) kf_11_31 dX11_size_14 rfl rfl rfl (rti_i rfl) rfl (fun qd_1 => ?_)
    refine x_iload_n (pc2 := 18) C dX11_size_17 4 rfl rfl rfl ?_
    rcases (Decidable.em (inB y1 2)).symm with qg_2 | qg_2
    · exact absurd hf (by rw [fX11_size_l11, if_neg qg_2]; exact nofun)
    refine x_iald (pc2 := 19) C (by assumption) dX11_size_18 rfl (inB_in qg_2) rfl ?_
    refine x_icmp_ge (tgt := 47) (pc2 := 22) C dX11_size_19 (by decide) rfl (fun qc_3 => ?_) (fun qc_3 => ?_)
    · rw [fX11_size_l11, if_pos qg_2, if_pos qc_3] at hf
      exact x_sub (lv2 := [(3, _)]) C [1] rfl (hk _ (Option.some.inj hf).symm)
    · refine x_iload_n (pc2 := 23) C dX11_size_22 1 rfl rfl rfl ?_
      refine x_aload_n (pc2 := 24) C dX11_size_23 3 rfl rfl rfl ?_
      refine x_iload_n (pc2 := 25) C dX11_size_24 4 rfl rfl rfl ?_
      refine x_iload (pc2 := 27) C dX11_size_25 0 rfl rfl ?_
      refine x_iload_n (pc2 := 28) C dX11_size_27 2 rfl rfl rfl ?_
      rcases opt_em (fX11_pooled Ω y1 y4 y2) with hq_4 | ⟨r_4, hq_4⟩
      · exact absurd hf (by rw [fX11_size_l11, if_pos qg_2, if_neg qc_3, ob_n hq_4]; exact nofun)
      refine x_ret (rest := [_]) (st2 := [_, _]) (pc2 := 31) (cu2 := 0) (su2 := 0) (x_cV C (by assumption) (Nat.le_of_ble_eq_true rfl) kmX11_pooled rfl kk_11_223 (tX11_pooled hok (by assumption)  hq_4) rfl rfl (Nat.le_of_ble_eq_true rfl) ⟨Nat.le_of_ble_eq_true rfl, Nat.le_of_ble_eq_true rfl⟩ ⟨Nat.le_of_ble_eq_true rfl, Nat.le_of_ble_eq_true rfl⟩ dX11_size_28) rfl rfl rfl rfl ?_
      obtain ⟨j_5, hq_5⟩ : ∃ z : Int32, z = (if r_4 = 0 then (0 : Int32) else (1 : Int32)) := ⟨_, rfl⟩
      suffices hj_5 : XW G B 5 39 [(0, .ref (ad G 11 (0))), (1, .int (y1)), (2, .int (y2)), (4, .int (y4))] [.int (j_5), .int (y3)] Ω 0 0 by
        refine x_if_eq (tgt := 38) (pc2 := 34) C dX11_size_31 (by decide) rfl (fun qc_6 => ?_) (fun qc_6 => ?_)
        · refine x_iconst (pc2 := 39) (v := 0) C dX11_size_38 rfl rfl ?_
          rw [if_pos qc_6] at hq_5
          subst hq_5
          exact x_sub (lv2 := [(0, _), (1, _), (2, _), (4, _)]) C [3, 4, 2, 0] rfl hj_5
        · refine x_iconst (pc2 := 35) (v := 1) C dX11_size_34 rfl rfl ?_
          refine x_goto (tgt := 39) C dX11_size_35 (by decide) ?_
          rw [if_neg qc_6] at hq_5
          subst hq_5
          exact x_sub (lv2 := [(0, _), (1, _), (2, _), (4, _)]) C [3, 4, 2, 0] rfl hj_5
      refine x_iadd (pc2 := 40) C dX11_size_39 rfl ?_
      refine x_istore_n (pc2 := 41) (lv2 := [(3, _), (0, _), (1, _), (2, _), (4, _)]) C dX11_size_40 rfl (by decide) rfl rfl ?_
      refine x_iinc (pc2 := 44) (v := y4 + 1) (lv2 := [(4, _), (3, _), (0, _), (1, _), (2, _)]) C dX11_size_41 4 rfl rfl (by decide) rfl rfl ?_
      refine x_goto (tgt := 11) C dX11_size_44 (by decide) ?_
      exact x_sub (lv2 := [(4, _), (3, _), (2, _), (0, _), (1, _)]) C [0, 1, 4, 2, 3] rfl (ih (y4 + 1) (y3 + j_5) (by rw [fX11_size_l11, if_pos qg_2, if_neg qc_3, ob_s hq_4, wl_eq hq_5] at hf; exact hf) hk)
def fX11_size (Ω : XO) (x1 : Int32) : Option (Int32) := (fX11_headOf Ω x1).bind (fun r_1 => (fX11_size_l11 Ω r_1 x1 ((xI Ω 2108 0 x1.toNatClampNeg).toNatClampNeg + 1) (0 : Int32) (0 : Int32)).bind (fun q_2 => (some q_2.2)))
set_option maxRecDepth 20000 in
theorem tX11_size {G : XG} (hok : XK G) {x1 : Int32} {Ω : XO} (hd0 : dm G 11 0)   {r : Int32} (hf : fX11_size Ω x1 = some r) : XM G yX11_size cX11_size 5 ((some FieldType.int)) (RM 2 0) [.ref (ad G 11 0), .int x1] Ω (.inl (some (.int (r)))) Ω := by
  refine x_start (lv := [(0, .ref (ad G 11 0)), (1, .int x1)]) (own := RX11) hok (by decide +kernel) rfl (Nat.le_of_ble_eq_true rfl) rfl (fun B C => ?_)
  refine x_aload_n (pc2 := 1) C dX11_size_0 0 rfl rfl rfl ?_
  refine x_iload_n (pc2 := 2) C dX11_size_1 1 rfl rfl rfl ?_
  rcases opt_em (fX11_headOf Ω x1) with hq_1 | ⟨r_1, hq_1⟩
  · exact absurd hf (by rw [fX11_size, ob_n hq_1]; exact nofun)
  refine x_ret (rest := []) (st2 := [_]) (pc2 := 5) (cu2 := 0) (su2 := 0) (x_cV C (by assumption) (Nat.le_of_ble_eq_true rfl) kmX11_headOf rfl kk_11_220 (tX11_headOf hok (by assumption)  hq_1) rfl rfl (Nat.le_of_ble_eq_true rfl) ⟨Nat.le_of_ble_eq_true rfl, Nat.le_of_ble_eq_true rfl⟩ ⟨Nat.le_of_ble_eq_true rfl, Nat.le_of_ble_eq_true rfl⟩ dX11_size_2) rfl rfl rfl rfl ?_
  refine x_istore_n (pc2 := 6) (lv2 := [(2, _), (0, _), (1, _)]) C dX11_size_5 rfl (by decide) rfl rfl ?_
  refine x_iconst (pc2 := 7) (v := 0) C dX11_size_6 rfl rfl ?_
  refine x_istore_n (pc2 := 8) (lv2 := [(3, _), (2, _), (0, _), (1, _)]) C dX11_size_7 rfl (by decide) rfl rfl ?_
  refine x_iconst (pc2 := 9) (v := 0) C dX11_size_8 rfl rfl ?_
  refine x_istore (pc2 := 11) (lv2 := [(4, _), (3, _), (2, _), (0, _), (1, _)]) C dX11_size_9 (by decide) rfl rfl ?_
  rcases opt_em (fX11_size_l11 Ω r_1 x1 ((xI Ω 2108 0 x1.toNatClampNeg).toNatClampNeg + 1) (0 : Int32) (0 : Int32)) with hq_2 | ⟨q_2, hq_2⟩
  · exact absurd hf (by rw [fX11_size, ob_s hq_1, ob_n hq_2]; exact nofun)
  refine x_sub (lv2 := [(4, _), (3, _), (2, _), (0, _), (1, _)]) C [0, 1, 2, 3, 4] rfl (lX11_size_l11 hok (by assumption) C ((xI Ω 2108 0 x1.toNatClampNeg).toNatClampNeg + 1) (0 : Int32) (0 : Int32) hq_2 (fun q9 h9 => ?_))
  cases h9
  refine x_iload_n (pc2 := 48) C dX11_size_47 0 rfl rfl rfl ?_
  rw [fX11_size, ob_s hq_1, ob_s hq_2] at hf
  obtain rfl := (Option.some.inj hf).symm
  exact x_ireturn C dX11_size_48 rfl (Nat.le_of_ble_eq_true rfl) (Nat.le_of_ble_eq_true rfl) rfl rfl
def fX11_enter_l16 (Ω : XO) (y10 : Int32) (y1 : Int32) (y2 : Int32) (y3 : Int32) (y4 : Int32) (y5 : Int32) (y6 : Int32) (y7 : Int32) (y8 : Int32) (y9 : Int32) : Nat → Int32 → Int32 → Int32 → Option ((Int32 × XO) ⊕ (Int32 × Int32 × Int32))
  | 0, _, _, _ => none
  | n + 1, y13, y12, y11 => (if inB y1 2 then (if (xI Ω 2108 0 y1.toNatClampNeg) ≤ y13 then (some (.inr (y13, y12, y11))) else (fX11_pooled Ω y1 y13 y10).bind (fun r_4 => (if r_4 = 0 then (((if r_4 = 0 then (some y12) else (if y12 < 0 then (some (((40 : Int32) * y1) + y13)) else (if inB (((40 : Int32) * y1) + y13) 80 then (if inB y12 80 then (if (xI Ω 2118 0 y12.toNatClampNeg) < (xI Ω 2118 0 (((40 : Int32) * y1) + y13).toNatClampNeg) then (some y12) else (some (((40 : Int32) * y1) + y13))) else none) else none))) : Option (Int32))).bind (fun j_6 => fX11_enter_l16 Ω y10 y1 y2 y3 y4 y5 y6 y7 y8 y9 n (y13 + 1) j_6 y11) else (if inB (((40 : Int32) * y1) + y13) 80 then (if (xI Ω 2111 0 (((40 : Int32) * y1) + y13).toNatClampNeg) = y2 then (if inB (((40 : Int32) * y1) + y13) 80 then (if (xI Ω 2112 0 (((40 : Int32) * y1) + y13).toNatClampNeg) = y3 then (if inB (((40 : Int32) * y1) + y13) 80 then (if ((10 : Int32) * y8) < ((11 : Int32) * (xI Ω 2117 0 (((40 : Int32) * y1) + y13).toNatClampNeg)) then (some (.inl ((-1 : Int32), Ω))) else (if inB (((40 : Int32) * y1) + y13) 80 then (if ((11 : Int32) * (xI Ω 2118 0 (((40 : Int32) * y1) + y13).toNatClampNeg)) ≤ ((10 : Int32) * y9) then (((if r_4 = 0 then (some y12) else (if y12 < 0 then (some (((40 : Int32) * y1) + y13)) else (if inB (((40 : Int32) * y1) + y13) 80 then (if inB y12 80 then (if (xI Ω 2118 0 y12.toNatClampNeg) < (xI Ω 2118 0 (((40 : Int32) * y1) + y13).toNatClampNeg) then (some y12) else (some (((40 : Int32) * y1) + y13))) else none) else none))) : Option (Int32))).bind (fun j_42 => fX11_enter_l16 Ω y10 y1 y2 y3 y4 y5 y6 y7 y8 y9 n (y13 + 1) j_42 (y11 + 1)) else (some (.inl ((-1 : Int32), Ω)))) else none)) else none) else (((if r_4 = 0 then (some y12) else (if y12 < 0 then (some (((40 : Int32) * y1) + y13)) else (if inB (((40 : Int32) * y1) + y13) 80 then (if inB y12 80 then (if (xI Ω 2118 0 y12.toNatClampNeg) < (xI Ω 2118 0 (((40 : Int32) * y1) + y13).toNatClampNeg) then (some y12) else (some (((40 : Int32) * y1) + y13))) else none) else none))) : Option (Int32))).bind (fun j_28 => fX11_enter_l16 Ω y10 y1 y2 y3 y4 y5 y6 y7 y8 y9 n (y13 + 1) j_28 y11)) else none) else (((if r_4 = 0 then (some y12) else (if y12 < 0 then (some (((40 : Int32) * y1) + y13)) else (if inB (((40 : Int32) * y1) + y13) 80 then (if inB y12 80 then (if (xI Ω 2118 0 y12.toNatClampNeg) < (xI Ω 2118 0 (((40 : Int32) * y1) + y13).toNatClampNeg) then (some y12) else (some (((40 : Int32) * y1) + y13))) else none) else none))) : Option (Int32))).bind (fun j_17 => fX11_enter_l16 Ω y10 y1 y2 y3 y4 y5 y6 y7 y8 y9 n (y13 + 1) j_17 y11)) else none)))) else none)
set_option maxRecDepth 20000 in
theorem lX11_enter_l16 {G : XG} (hok : XK G) {B : XB} {y10 : Int32} {y1 : Int32} {y2 : Int32} {y3 : Int32} {y4 : Int32} {y5 : Int32} {y6 : Int32} {y7 : Int32} {y8 : Int32} {y9 : Int32} {Ω : XO} (hf0 : dm G 11 0)   {T : Option Value ⊕ String} {Ω9 : XO} (C : XC G B cX11_enter RX11 (RM 3 0) 16 ((some FieldType.int)) T Ω9) : ∀ (n : Nat) (y13 : Int32) (y12 : Int32) (y11 : Int32) {r : ((Int32 × XO) ⊕ (Int32 × Int32 × Int32))}, fX11_enter_l16 Ω y10 y1 y2 y3 y4 y5 y6 y7 y8 y9 n y13 y12 y11 = some r → (∀ v, r = .inl v → T = (.inl (some (.int (v.1)))) ∧ Ω9 = v.2) → (∀ q, r = .inr q → (XW G B 16 157 [(12, .int (q.2.1)), (11, .int (q.2.2)), (10, .int (y10)), (0, .ref (ad G 11 (0))), (1, .int (y1)), (2, .int (y2)), (3, .int (y3)), (4, .int (y4)), (5, .int (y5)), (6, .int (y6)), (7, .int (y7)), (8, .int (y8)), (9, .int (y9))] [] Ω 0 0)) → XW G B 16 16 [(13, .int (y13)), (12, .int (y12)), (11, .int (y11)), (10, .int (y10)), (0, .ref (ad G 11 (0))), (1, .int (y1)), (2, .int (y2)), (3, .int (y3)), (4, .int (y4)), (5, .int (y5)), (6, .int (y6)), (7, .int (y7)), (8, .int (y8)), (9, .int (y9))] [] Ω 0 0 := by
  intro n
  induction n with
  | zero => intro y13 y12 y11 r hf; exact absurd hf (by rw [fX11_enter_l16]; exact nofun)
  | succ n ih =>
    intro y13 y12 y11 r hf hk hk2
    refine x_iload (pc2 := 18) C dX11_enter_16 0 rfl rfl ?_
    refine x_aload_n (pc2 := 19) C dX11_enter_18 4 rfl rfl rfl ?_
    refine x_getR (f := 1108) (k2 := 2108) (pc2 := 22) C (by assumption) kf_11_31 dX11_enter_19 rfl rfl rfl (rti_i rfl) rfl (fun qd_1 => ?_)
    refine x_iload_n (pc2 := 23) C dX11_enter_22 5 rfl rfl rfl ?_
    rcases (Decidable.em (inB y1 2)).symm with qg_2 | qg_2
    · exact absurd hf (by rw [fX11_enter_l16, if_neg qg_2]; exact nofun)
    refine x_iald (pc2 := 24) C (by assumption) dX11_enter_23 rfl (inB_in qg_2) rfl ?_
    refine x_icmp_ge (tgt := 157) (pc2 := 27) C dX11_enter_24 (by decide) rfl (fun qc_3 => ?_) (fun qc_3 => ?_)
    · rw [fX11_enter_l16, if_pos qg_2, if_pos qc_3] at hf
      exact x_sub (lv2 := [(12, _), (11, _), (10, _), (0, _), (1, _), (2, _), (3, _), (4, _), (5, _), (6, _), (7, _), (8, _), (9, _)]) C [1, 2, 3, 4, 5, 6, 7, 8, 9, 10, 11, 12, 13] rfl (hk2 _ (Option.some.inj hf).symm)
    · refine x_bipush (pc2 := 29) (v := 40) C dX11_enter_27 rfl rfl ?_
      refine x_iload_n (pc2 := 30) C dX11_enter_29 5 rfl rfl rfl ?_
      refine x_imul (pc2 := 31) C dX11_enter_30 rfl ?_
      refine x_iload (pc2 := 33) C dX11_enter_31 0 rfl rfl ?_
      refine x_iadd (pc2 := 34) C dX11_enter_33 rfl ?_
      refine x_istore (pc2 := 36) (lv2 := [(14, _), (13, _), (12, _), (11, _), (10, _), (0, _), (1, _), (2, _), (3, _), (4, _), (5, _), (6, _), (7, _), (8, _), (9, _)]) C dX11_enter_34 (by decide) rfl rfl ?_
      refine x_aload_n (pc2 := 37) C dX11_enter_36 5 rfl rfl rfl ?_
      refine x_iload_n (pc2 := 38) C dX11_enter_37 6 rfl rfl rfl ?_
      refine x_iload (pc2 := 40) C dX11_enter_38 1 rfl rfl ?_
      refine x_iload (pc2 := 42) C dX11_enter_40 4 rfl rfl ?_
      rcases opt_em (fX11_pooled Ω y1 y13 y10) with hq_4 | ⟨r_4, hq_4⟩
      · exact absurd hf (by rw [fX11_enter_l16, if_pos qg_2, if_neg qc_3, ob_n hq_4]; exact nofun)
      refine x_ret (rest := []) (st2 := [_]) (pc2 := 45) (cu2 := 0) (su2 := 0) (x_cV C (by assumption) (Nat.le_of_ble_eq_true rfl) kmX11_pooled rfl kk_11_223 (tX11_pooled hok (by assumption)  hq_4) rfl rfl (Nat.le_of_ble_eq_true rfl) ⟨Nat.le_of_ble_eq_true rfl, Nat.le_of_ble_eq_true rfl⟩ ⟨Nat.le_of_ble_eq_true rfl, Nat.le_of_ble_eq_true rfl⟩ dX11_enter_42) rfl rfl rfl rfl ?_
      refine x_istore (pc2 := 47) (lv2 := [(15, _), (14, _), (13, _), (12, _), (11, _), (10, _), (0, _), (1, _), (2, _), (3, _), (4, _), (5, _), (6, _), (7, _), (8, _), (9, _)]) C dX11_enter_45 (by decide) rfl rfl ?_
      refine x_iload (pc2 := 49) C dX11_enter_47 0 rfl rfl ?_
      refine x_if_eq (tgt := 115) (pc2 := 52) C dX11_enter_49 (by decide) rfl (fun qc_5 => ?_) (fun qc_5 => ?_)
      · refine x_iload (pc2 := 117) C dX11_enter_115 0 rfl rfl ?_
        rcases opt_em ((if r_4 = 0 then (some y12) else (if y12 < 0 then (some (((40 : Int32) * y1) + y13)) else (if inB (((40 : Int32) * y1) + y13) 80 then (if inB y12 80 then (if (xI Ω 2118 0 y12.toNatClampNeg) < (xI Ω 2118 0 (((40 : Int32) * y1) + y13).toNatClampNeg) then (some y12) else (some (((40 : Int32) * y1) + y13))) else none) else none))) : Option (Int32)) with hq_6 | ⟨j_6, hq_6⟩
        · exact absurd hf (by rw [fX11_enter_l16, if_pos qg_2, if_neg qc_3, ob_s hq_4, if_pos qc_5, ob_n hq_6]; exact nofun)
        suffices hj_6 : XW G B 16 149 [(0, .ref (ad G 11 (0))), (1, .int (y1)), (2, .int (y2)), (3, .int (y3)), (4, .int (y4)), (5, .int (y5)), (6, .int (y6)), (7, .int (y7)), (8, .int (y8)), (9, .int (y9)), (10, .int (y10)), (11, .int (y11)), (13, .int (y13))] [.int (j_6)] Ω 0 0 by
          refine x_if_eq (tgt := 147) (pc2 := 120) C dX11_enter_117 (by decide) rfl (fun qc_7 => ?_) (fun qc_7 => ?_)
          · refine x_iload (pc2 := 149) C dX11_enter_147 3 rfl rfl ?_
            rw [if_pos qc_7] at hq_6
            obtain rfl := (Option.some.inj hq_6).symm
            exact x_sub (lv2 := [(0, _), (1, _), (2, _), (3, _), (4, _), (5, _), (6, _), (7, _), (8, _), (9, _), (10, _), (11, _), (13, _)]) C [6, 7, 8, 9, 10, 11, 12, 13, 14, 15, 5, 4, 2] rfl hj_6
          · refine x_iload (pc2 := 122) C dX11_enter_120 3 rfl rfl ?_
            refine x_if_lt (tgt := 142) (pc2 := 125) C dX11_enter_122 (by decide) rfl (fun qc_8 => ?_) (fun qc_8 => ?_)
            · refine x_iload (pc2 := 144) C dX11_enter_142 1 rfl rfl ?_
              refine x_goto (tgt := 149) C dX11_enter_144 (by decide) ?_
              rw [if_neg qc_7, if_pos qc_8] at hq_6
              obtain rfl := (Option.some.inj hq_6).symm
              exact x_sub (lv2 := [(0, _), (1, _), (2, _), (3, _), (4, _), (5, _), (6, _), (7, _), (8, _), (9, _), (10, _), (11, _), (13, _)]) C [6, 7, 8, 9, 10, 11, 12, 13, 14, 15, 5, 4, 2] rfl hj_6
            · refine x_aload_n (pc2 := 126) C dX11_enter_125 6 rfl rfl rfl ?_
              refine x_getR (f := 1118) (k2 := 2118) (pc2 := 129) C (by assumption) kf_11_61 dX11_enter_126 rfl rfl rfl (rti_i rfl) rfl (fun qd_9 => ?_)
              refine x_iload (pc2 := 131) C dX11_enter_129 1 rfl rfl ?_
              rcases (Decidable.em (inB (((40 : Int32) * y1) + y13) 80)).symm with qg_10 | qg_10
              · exact absurd hq_6 (by rw [if_neg qc_7, if_neg qc_8, if_neg qg_10]; exact nofun)
              refine x_iald (pc2 := 132) C (by assumption) dX11_enter_131 rfl (inB_in qg_10) rfl ?_
              refine x_aload_n (pc2 := 133) C dX11_enter_132 6 rfl rfl rfl ?_
              refine x_getR (f := 1118) (k2 := 2118) (pc2 := 136) C (by assumption) kf_11_61 dX11_enter_133 rfl rfl rfl (rti_i rfl) rfl (fun qd_11 => ?_)
              refine x_iload (pc2 := 138) C dX11_enter_136 3 rfl rfl ?_
              rcases (Decidable.em (inB y12 80)).symm with qg_12 | qg_12
              · exact absurd hq_6 (by rw [if_neg qc_7, if_neg qc_8, if_pos qg_10, if_neg qg_12]; exact nofun)
              refine x_iald (pc2 := 139) C (by assumption) dX11_enter_138 rfl (inB_in qg_12) rfl ?_
              refine x_icmp_gt (tgt := 147) (pc2 := 142) C dX11_enter_139 (by decide) rfl (fun qc_13 => ?_) (fun qc_13 => ?_)
              · refine x_iload (pc2 := 149) C dX11_enter_147 3 rfl rfl ?_
                rw [if_neg qc_7, if_neg qc_8, if_pos qg_10, if_pos qg_12, if_pos qc_13] at hq_6
                obtain rfl := (Option.some.inj hq_6).symm
                exact x_sub (lv2 := [(0, _), (1, _), (2, _), (3, _), (4, _), (5, _), (6, _), (7, _), (8, _), (9, _), (10, _), (11, _), (13, _)]) C [6, 7, 8, 9, 10, 11, 12, 13, 14, 15, 5, 4, 2] rfl hj_6
              · refine x_iload (pc2 := 144) C dX11_enter_142 1 rfl rfl ?_
                refine x_goto (tgt := 149) C dX11_enter_144 (by decide) ?_
                rw [if_neg qc_7, if_neg qc_8, if_pos qg_10, if_pos qg_12, if_neg qc_13] at hq_6
                obtain rfl := (Option.some.inj hq_6).symm
                exact x_sub (lv2 := [(0, _), (1, _), (2, _), (3, _), (4, _), (5, _), (6, _), (7, _), (8, _), (9, _), (10, _), (11, _), (13, _)]) C [6, 7, 8, 9, 10, 11, 12, 13, 14, 15, 5, 4, 2] rfl hj_6
        refine x_istore (pc2 := 151) (lv2 := [(12, _), (0, _), (1, _), (2, _), (3, _), (4, _), (5, _), (6, _), (7, _), (8, _), (9, _), (10, _), (11, _), (13, _)]) C dX11_enter_149 (by decide) rfl rfl ?_
        refine x_iinc (pc2 := 154) (v := y13 + 1) (lv2 := [(13, _), (12, _), (0, _), (1, _), (2, _), (3, _), (4, _), (5, _), (6, _), (7, _), (8, _), (9, _), (10, _), (11, _)]) C dX11_enter_151 13 rfl rfl (by decide) rfl rfl ?_
        refine x_goto (tgt := 16) C dX11_enter_154 (by decide) ?_
        exact x_sub (lv2 := [(13, _), (12, _), (11, _), (10, _), (0, _), (1, _), (2, _), (3, _), (4, _), (5, _), (6, _), (7, _), (8, _), (9, _)]) C [0, 1, 13, 12, 2, 3, 4, 5, 6, 7, 8, 9, 10, 11] rfl (ih (y13 + 1) j_6 y11 (by rw [fX11_enter_l16, if_pos qg_2, if_neg qc_3, ob_s hq_4, if_pos qc_5, ob_s hq_6] at hf; exact hf) hk hk2)
      · refine x_aload_n (pc2 := 53) C dX11_enter_52 6 rfl rfl rfl ?_
        refine x_getR (f := 1111) (k2 := 2111) (pc2 := 56) C (by assumption) kf_11_40 dX11_enter_53 rfl rfl rfl (rti_i rfl) rfl (fun qd_14 => ?_)
        refine x_iload (pc2 := 58) C dX11_enter_56 1 rfl rfl ?_
        rcases (Decidable.em (inB (((40 : Int32) * y1) + y13) 80)).symm with qg_15 | qg_15
        · exact absurd hf (by rw [fX11_enter_l16, if_pos qg_2, if_neg qc_3, ob_s hq_4, if_neg qc_5, if_neg qg_15]; exact nofun)
        refine x_iald (pc2 := 59) C (by assumption) dX11_enter_58 rfl (inB_in qg_15) rfl ?_
        refine x_iload_n (pc2 := 60) C dX11_enter_59 8 rfl rfl rfl ?_
        refine x_icmp_ne (tgt := 115) (pc2 := 63) C dX11_enter_60 (by decide) rfl (fun qc_16 => ?_) (fun qc_16 => ?_)
        · refine x_iload (pc2 := 117) C dX11_enter_115 0 rfl rfl ?_
          rcases opt_em ((if r_4 = 0 then (some y12) else (if y12 < 0 then (some (((40 : Int32) * y1) + y13)) else (if inB (((40 : Int32) * y1) + y13) 80 then (if inB y12 80 then (if (xI Ω 2118 0 y12.toNatClampNeg) < (xI Ω 2118 0 (((40 : Int32) * y1) + y13).toNatClampNeg) then (some y12) else (some (((40 : Int32) * y1) + y13))) else none) else none))) : Option (Int32)) with hq_17 | ⟨j_17, hq_17⟩
          · exact absurd hf (by rw [fX11_enter_l16, if_pos qg_2, if_neg qc_3, ob_s hq_4, if_neg qc_5, if_pos qg_15, if_neg qc_16, ob_n hq_17]; exact nofun)
          suffices hj_17 : XW G B 16 149 [(0, .ref (ad G 11 (0))), (1, .int (y1)), (2, .int (y2)), (3, .int (y3)), (4, .int (y4)), (5, .int (y5)), (6, .int (y6)), (7, .int (y7)), (8, .int (y8)), (9, .int (y9)), (10, .int (y10)), (11, .int (y11)), (13, .int (y13))] [.int (j_17)] Ω 0 0 by
            refine x_if_eq (tgt := 147) (pc2 := 120) C dX11_enter_117 (by decide) rfl (fun qc_18 => ?_) (fun qc_18 => ?_)
            · refine x_iload (pc2 := 149) C dX11_enter_147 3 rfl rfl ?_
              rw [if_pos qc_18] at hq_17
              obtain rfl := (Option.some.inj hq_17).symm
              exact x_sub (lv2 := [(0, _), (1, _), (2, _), (3, _), (4, _), (5, _), (6, _), (7, _), (8, _), (9, _), (10, _), (11, _), (13, _)]) C [6, 7, 8, 9, 10, 11, 12, 13, 14, 15, 5, 4, 2] rfl hj_17
            · refine x_iload (pc2 := 122) C dX11_enter_120 3 rfl rfl ?_
              refine x_if_lt (tgt := 142) (pc2 := 125) C dX11_enter_122 (by decide) rfl (fun qc_19 => ?_) (fun qc_19 => ?_)
              · refine x_iload (pc2 := 144) C dX11_enter_142 1 rfl rfl ?_
                refine x_goto (tgt := 149) C dX11_enter_144 (by decide) ?_
                rw [if_neg qc_18, if_pos qc_19] at hq_17
                obtain rfl := (Option.some.inj hq_17).symm
                exact x_sub (lv2 := [(0, _), (1, _), (2, _), (3, _), (4, _), (5, _), (6, _), (7, _), (8, _), (9, _), (10, _), (11, _), (13, _)]) C [6, 7, 8, 9, 10, 11, 12, 13, 14, 15, 5, 4, 2] rfl hj_17
              · refine x_aload_n (pc2 := 126) C dX11_enter_125 6 rfl rfl rfl ?_
                refine x_getR (f := 1118) (k2 := 2118) (pc2 := 129) C (by assumption) kf_11_61 dX11_enter_126 rfl rfl rfl (rti_i rfl) rfl (fun qd_20 => ?_)
                refine x_iload (pc2 := 131) C dX11_enter_129 1 rfl rfl ?_
                rcases (Decidable.em (inB (((40 : Int32) * y1) + y13) 80)).symm with qg_21 | qg_21
                · exact absurd hq_17 (by rw [if_neg qc_18, if_neg qc_19, if_neg qg_21]; exact nofun)
                refine x_iald (pc2 := 132) C (by assumption) dX11_enter_131 rfl (inB_in qg_21) rfl ?_
                refine x_aload_n (pc2 := 133) C dX11_enter_132 6 rfl rfl rfl ?_
                refine x_getR (f := 1118) (k2 := 2118) (pc2 := 136) C (by assumption) kf_11_61 dX11_enter_133 rfl rfl rfl (rti_i rfl) rfl (fun qd_22 => ?_)
                refine x_iload (pc2 := 138) C dX11_enter_136 3 rfl rfl ?_
                rcases (Decidable.em (inB y12 80)).symm with qg_23 | qg_23
                · exact absurd hq_17 (by rw [if_neg qc_18, if_neg qc_19, if_pos qg_21, if_neg qg_23]; exact nofun)
                refine x_iald (pc2 := 139) C (by assumption) dX11_enter_138 rfl (inB_in qg_23) rfl ?_
                refine x_icmp_gt (tgt := 147) (pc2 := 142) C dX11_enter_139 (by decide) rfl (fun qc_24 => ?_) (fun qc_24 => ?_)
                · refine x_iload (pc2 := 149) C dX11_enter_147 3 rfl rfl ?_
                  rw [if_neg qc_18, if_neg qc_19, if_pos qg_21, if_pos qg_23, if_pos qc_24] at hq_17
                  obtain rfl := (Option.some.inj hq_17).symm
                  exact x_sub (lv2 := [(0, _), (1, _), (2, _), (3, _), (4, _), (5, _), (6, _), (7, _), (8, _), (9, _), (10, _), (11, _), (13, _)]) C [6, 7, 8, 9, 10, 11, 12, 13, 14, 15, 5, 4, 2] rfl hj_17
                · refine x_iload (pc2 := 144) C dX11_enter_142 1 rfl rfl ?_
                  refine x_goto (tgt := 149) C dX11_enter_144 (by decide) ?_
                  rw [if_neg qc_18, if_neg qc_19, if_pos qg_21, if_pos qg_23, if_neg qc_24] at hq_17
                  obtain rfl := (Option.some.inj hq_17).symm
                  exact x_sub (lv2 := [(0, _), (1, _), (2, _), (3, _), (4, _), (5, _), (6, _), (7, _), (8, _), (9, _), (10, _), (11, _), (13, _)]) C [6, 7, 8, 9, 10, 11, 12, 13, 14, 15, 5, 4, 2] rfl hj_17
          refine x_istore (pc2 := 151) (lv2 := [(12, _), (0, _), (1, _), (2, _), (3, _), (4, _), (5, _), (6, _), (7, _), (8, _), (9, _), (10, _), (11, _), (13, _)]) C dX11_enter_149 (by decide) rfl rfl ?_
          refine x_iinc (pc2 := 154) (v := y13 + 1) (lv2 := [(13, _), (12, _), (0, _), (1, _), (2, _), (3, _), (4, _), (5, _), (6, _), (7, _), (8, _), (9, _), (10, _), (11, _)]) C dX11_enter_151 13 rfl rfl (by decide) rfl rfl ?_
          refine x_goto (tgt := 16) C dX11_enter_154 (by decide) ?_
          exact x_sub (lv2 := [(13, _), (12, _), (11, _), (10, _), (0, _), (1, _), (2, _), (3, _), (4, _), (5, _), (6, _), (7, _), (8, _), (9, _)]) C [0, 1, 13, 12, 2, 3, 4, 5, 6, 7, 8, 9, 10, 11] rfl (ih (y13 + 1) j_17 y11 (by rw [fX11_enter_l16, if_pos qg_2, if_neg qc_3, ob_s hq_4, if_neg qc_5, if_pos qg_15, if_neg qc_16, ob_s hq_17] at hf; exact hf) hk hk2)
        · refine x_aload_n (pc2 := 64) C dX11_enter_63 6 rfl rfl rfl ?_
          refine x_getR (f := 1112) (k2 := 2112) (pc2 := 67) C (by assumption) kf_11_43 dX11_enter_64 rfl rfl rfl (rti_i rfl) rfl (fun qd_25 => ?_)
          refine x_iload (pc2 := 69) C dX11_enter_67 1 rfl rfl ?_
          rcases (Decidable.em (inB (((40 : Int32) * y1) + y13) 80)).symm with qg_26 | qg_26
          · exact absurd hf (by rw [fX11_enter_l16, if_pos qg_2, if_neg qc_3, ob_s hq_4, if_neg qc_5, if_pos qg_15, if_pos qc_16, if_neg qg_26]; exact nofun)
          refine x_iald (pc2 := 70) C (by assumption) dX11_enter_69 rfl (inB_in qg_26) rfl ?_
          refine x_iload_n (pc2 := 71) C dX11_enter_70 9 rfl rfl rfl ?_
          refine x_icmp_ne (tgt := 115) (pc2 := 74) C dX11_enter_71 (by decide) rfl (fun qc_27 => ?_) (fun qc_27 => ?_)
          · refine x_iload (pc2 := 117) C dX11_enter_115 0 rfl rfl ?_
            rcases opt_em ((if r_4 = 0 then (some y12) else (if y12 < 0 then (some (((40 : Int32) * y1) + y13)) else (if inB (((40 : Int32) * y1) + y13) 80 then (if inB y12 80 then (if (xI Ω 2118 0 y12.toNatClampNeg) < (xI Ω 2118 0 (((40 : Int32) * y1) + y13).toNatClampNeg) then (some y12) else (some (((40 : Int32) * y1) + y13))) else none) else none))) : Option (Int32)) with hq_28 | ⟨j_28, hq_28⟩
            · exact absurd hf (by rw [fX11_enter_l16, if_pos qg_2, if_neg qc_3, ob_s hq_4, if_neg qc_5, if_pos qg_15, if_pos qc_16, if_pos qg_26, if_neg qc_27, ob_n hq_28]; exact nofun)
            suffices hj_28 : XW G B 16 149 [(0, .ref (ad G 11 (0))), (1, .int (y1)), (2, .int (y2)), (3, .int (y3)), (4, .int (y4)), (5, .int (y5)), (6, .int (y6)), (7, .int (y7)), (8, .int (y8)), (9, .int (y9)), (10, .int (y10)), (11, .int (y11)), (13, .int (y13))] [.int (j_28)] Ω 0 0 by
              refine x_if_eq (tgt := 147) (pc2 := 120) C dX11_enter_117 (by decide) rfl (fun qc_29 => ?_) (fun qc_29 => ?_)
              · refine x_iload (pc2 := 149) C dX11_enter_147 3 rfl rfl ?_
                rw [if_pos qc_29] at hq_28
                obtain rfl := (Option.some.inj hq_28).symm
                exact x_sub (lv2 := [(0, _), (1, _), (2, _), (3, _), (4, _), (5, _), (6, _), (7, _), (8, _), (9, _), (10, _), (11, _), (13, _)]) C [6, 7, 8, 9, 10, 11, 12, 13, 14, 15, 5, 4, 2] rfl hj_28
              · refine x_iload (pc2 := 122) C dX11_enter_120 3 rfl rfl ?_
                refine x_if_lt (tgt := 142) (pc2 := 125) C dX11_enter_122 (by decide) rfl (fun qc_30 => ?_) (fun qc_30 => ?_)
                · refine x_iload (pc2 := 144) C dX11_enter_142 1 rfl rfl ?_
                  refine x_goto (tgt := 149) C dX11_enter_144 (by decide) ?_
                  rw [if_neg qc_29, if_pos qc_30] at hq_28
                  obtain rfl := (Option.some.inj hq_28).symm
                  exact x_sub (lv2 := [(0, _), (1, _), (2, _), (3, _), (4, _), (5, _), (6, _), (7, _), (8, _), (9, _), (10, _), (11, _), (13, _)]) C [6, 7, 8, 9, 10, 11, 12, 13, 14, 15, 5, 4, 2] rfl hj_28
                · refine x_aload_n (pc2 := 126) C dX11_enter_125 6 rfl rfl rfl ?_
                  refine x_getR (f := 1118) (k2 := 2118) (pc2 := 129) C (by assumption) kf_11_61 dX11_enter_126 rfl rfl rfl (rti_i rfl) rfl (fun qd_31 => ?_)
                  refine x_iload (pc2 := 131) C dX11_enter_129 1 rfl rfl ?_
                  rcases (Decidable.em (inB (((40 : Int32) * y1) + y13) 80)).symm with qg_32 | qg_32
                  · exact absurd hq_28 (by rw [if_neg qc_29, if_neg qc_30, if_neg qg_32]; exact nofun)
                  refine x_iald (pc2 := 132) C (by assumption) dX11_enter_131 rfl (inB_in qg_32) rfl ?_
                  refine x_aload_n (pc2 := 133) C dX11_enter_132 6 rfl rfl rfl ?_
                  refine x_getR (f := 1118) (k2 := 2118) (pc2 := 136) C (by assumption) kf_11_61 dX11_enter_133 rfl rfl rfl (rti_i rfl) rfl (fun qd_33 => ?_)
                  refine x_iload (pc2 := 138) C dX11_enter_136 3 rfl rfl ?_
                  rcases (Decidable.em (inB y12 80)).symm with qg_34 | qg_34
                  · exact absurd hq_28 (by rw [if_neg qc_29, if_neg qc_30, if_pos qg_32, if_neg qg_34]; exact nofun)
                  refine x_iald (pc2 := 139) C (by assumption) dX11_enter_138 rfl (inB_in qg_34) rfl ?_
                  refine x_icmp_gt (tgt := 147) (pc2 := 142) C dX11_enter_139 (by decide) rfl (fun qc_35 => ?_) (fun qc_35 => ?_)
                  · refine x_iload (pc2 := 149) C dX11_enter_147 3 rfl rfl ?_
                    rw [if_neg qc_29, if_neg qc_30, if_pos qg_32, if_pos qg_34, if_pos qc_35] at hq_28
                    obtain rfl := (Option.some.inj hq_28).symm
                    exact x_sub (lv2 := [(0, _), (1, _), (2, _), (3, _), (4, _), (5, _), (6, _), (7, _), (8, _), (9, _), (10, _), (11, _), (13, _)]) C [6, 7, 8, 9, 10, 11, 12, 13, 14, 15, 5, 4, 2] rfl hj_28
                  · refine x_iload (pc2 := 144) C dX11_enter_142 1 rfl rfl ?_
                    refine x_goto (tgt := 149) C dX11_enter_144 (by decide) ?_
                    rw [if_neg qc_29, if_neg qc_30, if_pos qg_32, if_pos qg_34, if_neg qc_35] at hq_28
                    obtain rfl := (Option.some.inj hq_28).symm
                    exact x_sub (lv2 := [(0, _), (1, _), (2, _), (3, _), (4, _), (5, _), (6, _), (7, _), (8, _), (9, _), (10, _), (11, _), (13, _)]) C [6, 7, 8, 9, 10, 11, 12, 13, 14, 15, 5, 4, 2] rfl hj_28
            refine x_istore (pc2 := 151) (lv2 := [(12, _), (0, _), (1, _), (2, _), (3, _), (4, _), (5, _), (6, _), (7, _), (8, _), (9, _), (10, _), (11, _), (13, _)]) C dX11_enter_149 (by decide) rfl rfl ?_
            refine x_iinc (pc2 := 154) (v := y13 + 1) (lv2 := [(13, _), (12, _), (0, _), (1, _), (2, _), (3, _), (4, _), (5, _), (6, _), (7, _), (8, _), (9, _), (10, _), (11, _)]) C dX11_enter_151 13 rfl rfl (by decide) rfl rfl ?_
            refine x_goto (tgt := 16) C dX11_enter_154 (by decide) ?_
            exact x_sub (lv2 := [(13, _), (12, _), (11, _), (10, _), (0, _), (1, _), (2, _), (3, _), (4, _), (5, _), (6, _), (7, _), (8, _), (9, _)]) C [0, 1, 13, 12, 2, 3, 4, 5, 6, 7, 8, 9, 10, 11] rfl (ih (y13 + 1) j_28 y11 (by rw [fX11_enter_l16, if_pos qg_2, if_neg qc_3, ob_s hq_4, if_neg qc_5, if_pos qg_15, if_pos qc_16, if_pos qg_26, if_neg qc_27, ob_s hq_28] at hf; exact hf) hk hk2)
          · refine x_iinc (pc2 := 77) (v := y11 + 1) (lv2 := [(11, _), (15, _), (14, _), (13, _), (12, _), (10, _), (0, _), (1, _), (2, _), (3, _), (4, _), (5, _), (6, _), (7, _), (8, _), (9, _)]) C dX11_enter_74 4 rfl rfl (by decide) rfl rfl ?_
            refine x_bipush (pc2 := 79) (v := 10) C dX11_enter_77 rfl rfl ?_
            refine x_iload (pc2 := 81) C dX11_enter_79 14 rfl rfl ?_
            refine x_imul (pc2 := 82) C dX11_enter_81 rfl ?_
            refine x_bipush (pc2 := 84) (v := 11) C dX11_enter_82 rfl rfl ?_
            refine x_aload_n (pc2 := 85) C dX11_enter_84 6 rfl rfl rfl ?_
            refine x_getR (f := 1117) (k2 := 2117) (pc2 := 88) C (by assumption) kf_11_58 dX11_enter_85 rfl rfl rfl (rti_i rfl) rfl (fun qd_36 => ?_)
            refine x_iload (pc2 := 90) C dX11_enter_88 2 rfl rfl ?_
            rcases (Decidable.em (inB (((40 : Int32) * y1) + y13) 80)).symm with qg_37 | qg_37
            · exact absurd hf (by rw [fX11_enter_l16, if_pos qg_2, if_neg qc_3, ob_s hq_4, if_neg qc_5, if_pos qg_15, if_pos qc_16, if_pos qg_26, if_pos qc_27, if_neg qg_37]; exact nofun)
            refine x_iald (pc2 := 91) C (by assumption) dX11_enter_90 rfl (inB_in qg_37) rfl ?_
            refine x_imul (pc2 := 92) C dX11_enter_91 rfl ?_
            refine x_icmp_lt (tgt := 113) (pc2 := 95) C dX11_enter_92 (by decide) rfl (fun qc_38 => ?_) (fun qc_38 => ?_)
            · refine x_iconst (pc2 := 114) (v := (-1)) C dX11_enter_113 rfl rfl ?_
              rw [fX11_enter_l16, if_pos qg_2, if_neg qc_3, ob_s hq_4, if_neg qc_5, if_pos qg_15, if_pos qc_16, if_pos qg_26, if_pos qc_27, if_pos qg_37, if_pos qc_38] at hf
              obtain ⟨hT9, hW9⟩ := hk _ (Option.some.inj hf).symm
              exact x_ireturn C dX11_enter_114 rfl (Nat.le_of_ble_eq_true rfl) (Nat.le_of_ble_eq_true rfl) hT9 hW9
            · refine x_bipush (pc2 := 97) (v := 10) C dX11_enter_95 rfl rfl ?_
              refine x_iload (pc2 := 99) C dX11_enter_97 15 rfl rfl ?_
              refine x_imul (pc2 := 100) C dX11_enter_99 rfl ?_
              refine x_bipush (pc2 := 102) (v := 11) C dX11_enter_100 rfl rfl ?_
              refine x_aload_n (pc2 := 103) C dX11_enter_102 6 rfl rfl rfl ?_
              refine x_getR (f := 1118) (k2 := 2118) (pc2 := 106) C (by assumption) kf_11_61 dX11_enter_103 rfl rfl rfl (rti_i rfl) rfl (fun qd_39 => ?_)
              refine x_iload (pc2 := 108) C dX11_enter_106 2 rfl rfl ?_
              rcases (Decidable.em (inB (((40 : Int32) * y1) + y13) 80)).symm with qg_40 | qg_40
              · exact absurd hf (by rw [fX11_enter_l16, if_pos qg_2, if_neg qc_3, ob_s hq_4, if_neg qc_5, if_pos qg_15, if_pos qc_16, if_pos qg_26, if_pos qc_27, if_pos qg_37, if_neg qc_38, if_neg qg_40]; exact nofun)
              refine x_iald (pc2 := 109) C (by assumption) dX11_enter_108 rfl (inB_in qg_40) rfl ?_
              refine x_imul (pc2 := 110) C dX11_enter_109 rfl ?_
              refine x_icmp_ge (tgt := 115) (pc2 := 113) C dX11_enter_110 (by decide) rfl (fun qc_41 => ?_) (fun qc_41 => ?_)
              · refine x_iload (pc2 := 117) C dX11_enter_115 1 rfl rfl ?_
                rcases opt_em ((if r_4 = 0 then (some y12) else (if y12 < 0 then (some (((40 : Int32) * y1) + y13)) else (if inB (((40 : Int32) * y1) + y13) 80 then (if inB y12 80 then (if (xI Ω 2118 0 y12.toNatClampNeg) < (xI Ω 2118 0 (((40 : Int32) * y1) + y13).toNatClampNeg) then (some y12) else (some (((40 : Int32) * y1) + y13))) else none) else none))) : Option (Int32)) with hq_42 | ⟨j_42, hq_42⟩
                · exact absurd hf (by rw [fX11_enter_l16, if_pos qg_2, if_neg qc_3, ob_s hq_4, if_neg qc_5, if_pos qg_15, if_pos qc_16, if_pos qg_26, if_pos qc_27, if_pos qg_37, if_neg qc_38, if_pos qg_40, if_pos qc_41, ob_n hq_42]; exact nofun)
                suffices hj_42 : XW G B 16 149 [(0, .ref (ad G 11 (0))), (1, .int (y1)), (2, .int (y2)), (3, .int (y3)), (4, .int (y4)), (5, .int (y5)), (6, .int (y6)), (7, .int (y7)), (8, .int (y8)), (9, .int (y9)), (10, .int (y10)), (11, .int (y11 + 1)), (13, .int (y13))] [.int (j_42)] Ω 0 0 by
                  refine x_if_eq (tgt := 147) (pc2 := 120) C dX11_enter_117 (by decide) rfl (fun qc_43 => ?_) (fun qc_43 => ?_)
                  · refine x_iload (pc2 := 149) C dX11_enter_147 4 rfl rfl ?_
                    rw [if_pos qc_43] at hq_42
                    obtain rfl := (Option.some.inj hq_42).symm
                    exact x_sub (lv2 := [(0, _), (1, _), (2, _), (3, _), (4, _), (5, _), (6, _), (7, _), (8, _), (9, _), (10, _), (11, _), (13, _)]) C [6, 7, 8, 9, 10, 11, 12, 13, 14, 15, 5, 0, 3] rfl hj_42
                  · refine x_iload (pc2 := 122) C dX11_enter_120 4 rfl rfl ?_
                    refine x_if_lt (tgt := 142) (pc2 := 125) C dX11_enter_122 (by decide) rfl (fun qc_44 => ?_) (fun qc_44 => ?_)
                    · refine x_iload (pc2 := 144) C dX11_enter_142 2 rfl rfl ?_
                      refine x_goto (tgt := 149) C dX11_enter_144 (by decide) ?_
                      rw [if_neg qc_43, if_pos qc_44] at hq_42
                      obtain rfl := (Option.some.inj hq_42).symm
                      exact x_sub (lv2 := [(0, _), (1, _), (2, _), (3, _), (4, _), (5, _), (6, _), (7, _), (8, _), (9, _), (10, _), (11, _), (13, _)]) C [6, 7, 8, 9, 10, 11, 12, 13, 14, 15, 5, 0, 3] rfl hj_42
                    · refine x_aload_n (pc2 := 126) C dX11_enter_125 6 rfl rfl rfl ?_
                      refine x_getR (f := 1118) (k2 := 2118) (pc2 := 129) C (by assumption) kf_11_61 dX11_enter_126 rfl rfl rfl (rti_i rfl) rfl (fun qd_45 => ?_)
                      refine x_iload (pc2 := 131) C dX11_enter_129 2 rfl rfl ?_
                      rcases (Decidable.em (inB (((40 : Int32) * y1) + y13) 80)).symm with qg_46 | qg_46
                      · exact absurd hq_42 (by rw [if_neg qc_43, if_neg qc_44, if_neg qg_46]; exact nofun)
                      refine x_iald (pc2 := 132) C (by assumption) dX11_enter_131 rfl (inB_in qg_46) rfl ?_
                      refine x_aload_n (pc2 := 133) C dX11_enter_132 6 rfl rfl rfl ?_
                      refine x_getR (f := 1118) (k2 := 2118) (pc2 := 136) C (by assumption) kf_11_61 dX11_enter_133 rfl rfl rfl (rti_i rfl) rfl (fun qd_47 => ?_)
                      refine x_iload (pc2 := 138) C dX11_enter_136 4 rfl rfl ?_
                      rcases (Decidable.em (inB y12 80)).symm with qg_48 | qg_48
                      · exact absurd hq_42 (by rw [if_neg qc_43, if_neg qc_44, if_pos qg_46, if_neg qg_48]; exact nofun)
                      refine x_iald (pc2 := 139) C (by assumption) dX11_enter_138 rfl (inB_in qg_48) rfl ?_
                      refine x_icmp_gt (tgt := 147) (pc2 := 142) C dX11_enter_139 (by decide) rfl (fun qc_49 => ?_) (fun qc_49 => ?_)
                      · refine x_iload (pc2 := 149) C dX11_enter_147 4 rfl rfl ?_
                        rw [if_neg qc_43, if_neg qc_44, if_pos qg_46, if_pos qg_48, if_pos qc_49] at hq_42
                        obtain rfl := (Option.some.inj hq_42).symm
                        exact x_sub (lv2 := [(0, _), (1, _), (2, _), (3, _), (4, _), (5, _), (6, _), (7, _), (8, _), (9, _), (10, _), (11, _), (13, _)]) C [6, 7, 8, 9, 10, 11, 12, 13, 14, 15, 5, 0, 3] rfl hj_42
                      · refine x_iload (pc2 := 144) C dX11_enter_142 2 rfl rfl ?_
                        refine x_goto (tgt := 149) C dX11_enter_144 (by decide) ?_
                        rw [if_neg qc_43, if_neg qc_44, if_pos qg_46, if_pos qg_48, if_neg qc_49] at hq_42
                        obtain rfl := (Option.some.inj hq_42).symm
                        exact x_sub (lv2 := [(0, _), (1, _), (2, _), (3, _), (4, _), (5, _), (6, _), (7, _), (8, _), (9, _), (10, _), (11, _), (13, _)]) C [6, 7, 8, 9, 10, 11, 12, 13, 14, 15, 5, 0, 3] rfl hj_42
                refine x_istore (pc2 := 151) (lv2 := [(12, _), (0, _), (1, _), (2, _), (3, _), (4, _), (5, _), (6, _), (7, _), (8, _), (9, _), (10, _), (11, _), (13, _)]) C dX11_enter_149 (by decide) rfl rfl ?_
                refine x_iinc (pc2 := 154) (v := y13 + 1) (lv2 := [(13, _), (12, _), (0, _), (1, _), (2, _), (3, _), (4, _), (5, _), (6, _), (7, _), (8, _), (9, _), (10, _), (11, _)]) C dX11_enter_151 13 rfl rfl (by decide) rfl rfl ?_
                refine x_goto (tgt := 16) C dX11_enter_154 (by decide) ?_
                exact x_sub (lv2 := [(13, _), (12, _), (11, _), (10, _), (0, _), (1, _), (2, _), (3, _), (4, _), (5, _), (6, _), (7, _), (8, _), (9, _)]) C [0, 1, 13, 12, 2, 3, 4, 5, 6, 7, 8, 9, 10, 11] rfl (ih (y13 + 1) j_42 (y11 + 1) (by rw [fX11_enter_l16, if_pos qg_2, if_neg qc_3, ob_s hq_4, if_neg qc_5, if_pos qg_15, if_pos qc_16, if_pos qg_26, if_pos qc_27, if_pos qg_37, if_neg qc_38, if_pos qg_40, if_pos qc_41, ob_s hq_42] at hf; exact hf) hk hk2)
              · refine x_iconst (pc2 := 114) (v := (-1)) C dX11_enter_113 rfl rfl ?_
                rw [fX11_enter_l16, if_pos qg_2, if_neg qc_3, ob_s hq_4, if_neg qc_5, if_pos qg_15, if_pos qc_16, if_pos qg_26, if_pos qc_27, if_pos qg_37, if_neg qc_38, if_pos qg_40, if_neg qc_41] at hf
                obtain ⟨hT9, hW9⟩ := hk _ (Option.some.inj hf).symm
                exact x_ireturn C dX11_enter_114 rfl (Nat.le_of_ble_eq_true rfl) (Nat.le_of_ble_eq_true rfl) hT9 hW9
def fX11_enter_l197 (y10 : Int32) (y1 : Int32) (y2 : Int32) (y3 : Int32) (y4 : Int32) (y5 : Int32) (y6 : Int32) (y7 : Int32) (y8 : Int32) (y9 : Int32) : Nat → Int32 → XO → Option (Int32 × XO)
  | 0, _, _ => none
  | n + 1, y13, Ω => (if inB y1 2 then (if (xI Ω 2108 0 y1.toNatClampNeg) ≤ y13 then (some (y13, Ω)) else (fX11_pooled Ω y1 y13 y10).bind (fun r_5 => (((if r_5 = 0 then (if inB (((40 : Int32) * y1) + y13) 80 then (some (xI Ω 2119 0 (((40 : Int32) * y1) + y13).toNatClampNeg)) else none) else (if inB (((40 : Int32) * y1) + y13) 80 then (if (xI Ω 2111 0 (((40 : Int32) * y1) + y13).toNatClampNeg) = y2 then (if inB (((40 : Int32) * y1) + y13) 80 then (if (xI Ω 2112 0 (((40 : Int32) * y1) + y13).toNatClampNeg) = y3 then (some (1 : Int32)) else (if inB (((40 : Int32) * y1) + y13) 80 then (some (xI Ω 2119 0 (((40 : Int32) * y1) + y13).toNatClampNeg)) else none)) else none) else (if inB (((40 : Int32) * y1) + y13) 80 then (some (xI Ω 2119 0 (((40 : Int32) * y1) + y13).toNatClampNeg)) else none)) else none)) : Option (Int32))).bind (fun j_6 => (if inB (((40 : Int32) * y1) + y13) 80 then (wl (uI Ω 2119 0 (((40 : Int32) * y1) + y13).toNatClampNeg j_6) (fun Ω_21 => fX11_enter_l197 y10 y1 y2 y3 y4 y5 y6 y7 y8 y9 n (y13 + 1) Ω_21)) else none)))) else none)
set_option maxRecDepth 20000 in
theorem lX11_enter_l197 {G : XG} (hok : XK G) {B : XB} {y10 : Int32} {y1 : Int32} {y2 : Int32} {y3 : Int32} {y4 : Int32} {y5 : Int32} {y6 : Int32} {y7 : Int32} {y8 : Int32} {y9 : Int32}  (hf0 : dm G 11 0)   {T : Option Value ⊕ String} {Ω9 : XO} (C : XC G B cX11_enter RX11 (RM 3 0) 16 ((some FieldType.int)) T Ω9) : ∀ (n : Nat) (y13 : Int32) (Ω : XO) {r : (Int32 × XO)}, fX11_enter_l197 y10 y1 y2 y3 y4 y5 y6 y7 y8 y9 n y13 Ω = some r → (∀ q, r = q → (XW G B 16 275 [(0, .ref (ad G 11 (0))), (1, .int (y1)), (2, .int (y2)), (3, .int (y3)), (4, .int (y4)), (5, .int (y5)), (6, .int (y6)), (7, .int (y7)), (8, .int (y8)), (9, .int (y9))] [] q.2 0 0)) → XW G B 16 197 [(13, .int (y13)), (10, .int (y10)), (0, .ref (ad G 11 (0))), (1, .int (y1)), (2, .int (y2)), (3, .int (y3)), (4, .int (y4)), (5, .int (y5)), (6, .int (y6)), (7, .int (y7)), (8, .int (y8)), (9, .int (y9))] [] Ω 0 0 := by
  intro n
  induction n with
  | zero => intro y13 Ω r hf; exact absurd hf (by rw [fX11_enter_l197]; exact nofun)
  | succ n ih =>
    intro y13 Ω r hf hk
    refine x_iload (pc2 := 199) C dX11_enter_197 0 rfl rfl ?_
    refine x_aload_n (pc2 := 200) C dX11_enter_199 2 rfl rfl rfl ?_
    refine x_getR (f := 1108) (k2 := 2108) (pc2 := 203) C (by assumption) kf_11_31 dX11_enter_200 rfl rfl rfl (rti_i rfl) rfl (fun qd_1 => ?_)
    refine x_iload_n (pc2 := 204) C dX11_enter_203 3 rfl rfl rfl ?_
    rcases (Decidable.em (inB y1 2)).symm with qg_2 | qg_2
    · exact absurd hf (by rw [fX11_enter_l197, if_neg qg_2]; exact nofun)
    refine x_iald (pc2 := 205) C (by assumption) dX11_enter_204 rfl (inB_in qg_2) rfl ?_
    refine x_icmp_ge (tgt := 275) (pc2 := 208) C dX11_enter_205 (by decide) rfl (fun qc_3 => ?_) (fun qc_3 => ?_)
    · rw [fX11_enter_l197, if_pos qg_2, if_pos qc_3] at hf
      exact x_sub (lv2 := [(0, _), (1, _), (2, _), (3, _), (4, _), (5, _), (6, _), (7, _), (8, _), (9, _)]) C [2, 3, 4, 5, 6, 7, 8, 9, 10, 11] rfl (hk _ (Option.some.inj hf).symm)
    · refine x_bipush (pc2 := 210) (v := 40) C dX11_enter_208 rfl rfl ?_
      refine x_iload_n (pc2 := 211) C dX11_enter_210 3 rfl rfl rfl ?_
      refine x_imul (pc2 := 212) C dX11_enter_211 rfl ?_
      refine x_iload (pc2 := 214) C dX11_enter_212 0 rfl rfl ?_
      refine x_iadd (pc2 := 215) C dX11_enter_214 rfl ?_
      refine x_istore (pc2 := 217) (lv2 := [(14, _), (13, _), (10, _), (0, _), (1, _), (2, _), (3, _), (4, _), (5, _), (6, _), (7, _), (8, _), (9, _)]) C dX11_enter_215 (by decide) rfl rfl ?_
      refine x_aload_n (pc2 := 218) C dX11_enter_217 3 rfl rfl rfl ?_
      refine x_getR (f := 1119) (k2 := 2119) (pc2 := 221) C (by assumption) kf_11_64 dX11_enter_218 rfl rfl rfl (rti_i rfl) rfl (fun qd_4 => ?_)
      refine x_iload (pc2 := 223) C dX11_enter_221 0 rfl rfl ?_
      refine x_aload_n (pc2 := 224) C dX11_enter_223 3 rfl rfl rfl ?_
      refine x_iload_n (pc2 := 225) C dX11_enter_224 4 rfl rfl rfl ?_
      refine x_iload (pc2 := 227) C dX11_enter_225 1 rfl rfl ?_
      refine x_iload (pc2 := 229) C dX11_enter_227 2 rfl rfl ?_
      rcases opt_em (fX11_pooled Ω y1 y13 y10) with hq_5 | ⟨r_5, hq_5⟩
      · exact absurd hf (by rw [fX11_enter_l197, if_pos qg_2, if_neg qc_3, ob_n hq_5]; exact nofun)
      refine x_ret (rest := [_, _]) (st2 := [_, _, _]) (pc2 := 232) (cu2 := 0) (su2 := 0) (x_cV C (by assumption) (Nat.le_of_ble_eq_true rfl) kmX11_pooled rfl kk_11_223 (tX11_pooled hok (by assumption)  hq_5) rfl rfl (Nat.le_of_ble_eq_true rfl) ⟨Nat.le_of_ble_eq_true rfl, Nat.le_of_ble_eq_true rfl⟩ ⟨Nat.le_of_ble_eq_true rfl, Nat.le_of_ble_eq_true rfl⟩ dX11_enter_229) rfl rfl rfl rfl ?_
      rcases opt_em ((if r_5 = 0 then (if inB (((40 : Int32) * y1) + y13) 80 then (some (xI Ω 2119 0 (((40 : Int32) * y1) + y13).toNatClampNeg)) else none) else (if inB (((40 : Int32) * y1) + y13) 80 then (if (xI Ω 2111 0 (((40 : Int32) * y1) + y13).toNatClampNeg) = y2 then (if inB (((40 : Int32) * y1) + y13) 80 then (if (xI Ω 2112 0 (((40 : Int32) * y1) + y13).toNatClampNeg) = y3 then (some (1 : Int32)) else (if inB (((40 : Int32) * y1) + y13) 80 then (some (xI Ω 2119 0 (((40 : Int32) * y1) + y13).toNatClampNeg)) else none)) else none) else (if inB (((40 : Int32) * y1) + y13) 80 then (some (xI Ω 2119 0 (((40 : Int32) * y1) + y13).toNatClampNeg)) else none)) else none)) : Option (Int32)) with hq_6 | ⟨j_6, hq_6⟩
      · exact absurd hf (by rw [fX11_enter_l197, if_pos qg_2, if_neg qc_3, ob_s hq_5, ob_n hq_6]; exact nofun)
      suffices hj_6 : XW G B 16 268 [(0, .ref (ad G 11 (0))), (1, .int (y1)), (2, .int (y2)), (3, .int (y3)), (4, .int (y4)), (5, .int (y5)), (6, .int (y6)), (7, .int (y7)), (8, .int (y8)), (9, .int (y9)), (10, .int (y10)), (13, .int (y13))] [.int (j_6), .int (((40 : Int32) * y1) + y13), .ref (ad G 2119 (0))] Ω 0 0 by
        refine x_if_eq (tgt := 261) (pc2 := 235) C dX11_enter_232 (by decide) rfl (fun qc_7 => ?_) (fun qc_7 => ?_)
        · refine x_aload_n (pc2 := 262) C dX11_enter_261 3 rfl rfl rfl ?_
          refine x_getR (f := 1119) (k2 := 2119) (pc2 := 265) C (by assumption) kf_11_64 dX11_enter_262 rfl rfl rfl (rti_i rfl) rfl (fun qd_8 => ?_)
          refine x_iload (pc2 := 267) C dX11_enter_265 0 rfl rfl ?_
          rcases (Decidable.em (inB (((40 : Int32) * y1) + y13) 80)).symm with qg_9 | qg_9
          · exact absurd hq_6 (by rw [if_pos qc_7, if_neg qg_9]; exact nofun)
          refine x_iald (pc2 := 268) C (by assumption) dX11_enter_267 rfl (inB_in qg_9) rfl ?_
          rw [if_pos qc_7, if_pos qg_9] at hq_6
          obtain rfl := (Option.some.inj hq_6).symm
          exact x_sub (lv2 := [(0, _), (1, _), (2, _), (3, _), (4, _), (5, _), (6, _), (7, _), (8, _), (9, _), (10, _), (13, _)]) C [3, 4, 5, 6, 7, 8, 9, 10, 11, 12, 2, 1] rfl hj_6
        · refine x_aload_n (pc2 := 236) C dX11_enter_235 3 rfl rfl rfl ?_
          refine x_getR (f := 1111) (k2 := 2111) (pc2 := 239) C (by assumption) kf_11_40 dX11_enter_236 rfl rfl rfl (rti_i rfl) rfl (fun qd_10 => ?_)
          refine x_iload (pc2 := 241) C dX11_enter_239 0 rfl rfl ?_
          rcases (Decidable.em (inB (((40 : Int32) * y1) + y13) 80)).symm with qg_11 | qg_11
          · exact absurd hq_6 (by rw [if_neg qc_7, if_neg qg_11]; exact nofun)
          refine x_iald (pc2 := 242) C (by assumption) dX11_enter_241 rfl (inB_in qg_11) rfl ?_
          refine x_iload_n (pc2 := 243) C dX11_enter_242 5 rfl rfl rfl ?_
          refine x_icmp_ne (tgt := 261) (pc2 := 246) C dX11_enter_243 (by decide) rfl (fun qc_12 => ?_) (fun qc_12 => ?_)
          · refine x_aload_n (pc2 := 262) C dX11_enter_261 3 rfl rfl rfl ?_
            refine x_getR (f := 1119) (k2 := 2119) (pc2 := 265) C (by assumption) kf_11_64 dX11_enter_262 rfl rfl rfl (rti_i rfl) rfl (fun qd_13 => ?_)
            refine x_iload (pc2 := 267) C dX11_enter_265 0 rfl rfl ?_
            rcases (Decidable.em (inB (((40 : Int32) * y1) + y13) 80)).symm with qg_14 | qg_14
            · exact absurd hq_6 (by rw [if_neg qc_7, if_pos qg_11, if_neg qc_12, if_neg qg_14]; exact nofun)
            refine x_iald (pc2 := 268) C (by assumption) dX11_enter_267 rfl (inB_in qg_14) rfl ?_
            rw [if_neg qc_7, if_pos qg_11, if_neg qc_12, if_pos qg_14] at hq_6
            obtain rfl := (Option.some.inj hq_6).symm
            exact x_sub (lv2 := [(0, _), (1, _), (2, _), (3, _), (4, _), (5, _), (6, _), (7, _), (8, _), (9, _), (10, _), (13, _)]) C [3, 4, 5, 6, 7, 8, 9, 10, 11, 12, 2, 1] rfl hj_6
          · refine x_aload_n (pc2 := 247) C dX11_enter_246 3 rfl rfl rfl ?_
            refine x_getR (f := 1112) (k2 := 2112) (pc2 := 250) C (by assumption) kf_11_43 dX11_enter_247 rfl rfl rfl (rti_i rfl) rfl (fun qd_15 => ?_)
            refine x_iload (pc2 := 252) C dX11_enter_250 0 rfl rfl ?_
            rcases (Decidable.em (inB (((40 : Int32) * y1) + y13) 80)).symm with qg_16 | qg_16
            · exact absurd hq_6 (by rw [if_neg qc_7, if_pos qg_11, if_pos qc_12, if_neg qg_16]; exact nofun)
            refine x_iald (pc2 := 253) C (by assumption) dX11_enter_252 rfl (inB_in qg_16) rfl ?_
            refine x_iload_n (pc2 := 254) C dX11_enter_253 6 rfl rfl rfl ?_
            refine x_icmp_ne (tgt := 261) (pc2 := 257) C dX11_enter_254 (by decide) rfl (fun qc_17 => ?_) (fun qc_17 => ?_)
            · refine x_aload_n (pc2 := 262) C dX11_enter_261 3 rfl rfl rfl ?_
              refine x_getR (f := 1119) (k2 := 2119) (pc2 := 265) C (by assumption) kf_11_64 dX11_enter_262 rfl rfl rfl (rti_i rfl) rfl (fun qd_18 => ?_)
              refine x_iload (pc2 := 267) C dX11_enter_265 0 rfl rfl ?_
              rcases (Decidable.em (inB (((40 : Int32) * y1) + y13) 80)).symm with qg_19 | qg_19
              · exact absurd hq_6 (by rw [if_neg qc_7, if_pos qg_11, if_pos qc_12, if_pos qg_16, if_neg qc_17, if_neg qg_19]; exact nofun)
              refine x_iald (pc2 := 268) C (by assumption) dX11_enter_267 rfl (inB_in qg_19) rfl ?_
              rw [if_neg qc_7, if_pos qg_11, if_pos qc_12, if_pos qg_16, if_neg qc_17, if_pos qg_19] at hq_6
              obtain rfl := (Option.some.inj hq_6).symm
              exact x_sub (lv2 := [(0, _), (1, _), (2, _), (3, _), (4, _), (5, _), (6, _), (7, _), (8, _), (9, _), (10, _), (13, _)]) C [3, 4, 5, 6, 7, 8, 9, 10, 11, 12, 2, 1] rfl hj_6
            · refine x_iconst (pc2 := 258) (v := 1) C dX11_enter_257 rfl rfl ?_
              refine x_goto (tgt := 268) C dX11_enter_258 (by decide) ?_
              rw [if_neg qc_7, if_pos qg_11, if_pos qc_12, if_pos qg_16, if_pos qc_17] at hq_6
              obtain rfl := (Option.some.inj hq_6).symm
              exact x_sub (lv2 := [(0, _), (1, _), (2, _), (3, _), (4, _), (5, _), (6, _), (7, _), (8, _), (9, _), (10, _), (13, _)]) C [3, 4, 5, 6, 7, 8, 9, 10, 11, 12, 2, 1] rfl hj_6
      rcases (Decidable.em (inB (((40 : Int32) * y1) + y13) 80)).symm with qg_20 | qg_20
      · exact absurd hf (by rw [fX11_enter_l197, if_pos qg_2, if_neg qc_3, ob_s hq_5, ob_s hq_6, if_neg qg_20]; exact nofun)
      refine x_iast (pc2 := 269) C (by assumption) dX11_enter_268 rfl (inB_in qg_20) rfl ?_
      obtain ⟨Ω_21, hw_21⟩ : ∃ z, z = uI Ω 2119 0 (((40 : Int32) * y1) + y13).toNatClampNeg j_6 := ⟨_, rfl⟩
      refine x_om hw_21 ?_
      refine x_iinc (pc2 := 272) (v := y13 + 1) (lv2 := [(13, _), (0, _), (1, _), (2, _), (3, _), (4, _), (5, _), (6, _), (7, _), (8, _), (9, _), (10, _)]) C dX11_enter_269 11 rfl rfl (by decide) rfl rfl ?_
      refine x_goto (tgt := 197) C dX11_enter_272 (by decide) ?_
      exact x_sub (lv2 := [(13, _), (10, _), (0, _), (1, _), (2, _), (3, _), (4, _), (5, _), (6, _), (7, _), (8, _), (9, _)]) C [0, 11, 1, 2, 3, 4, 5, 6, 7, 8, 9, 10] rfl (ih (y13 + 1) Ω_21 (by rw [fX11_enter_l197, if_pos qg_2, if_neg qc_3, ob_s hq_5, ob_s hq_6, if_pos qg_20, wl_eq hw_21] at hf; exact hf) hk)
def fX11_enter (Ω : XO) (x1 : Int32) (x2 : Int32) (x3 : Int32) (x4 : Int32) (x5 : Int32) (x6 : Int32) (x7 : Int32) (x8 : Int32) (x9 : Int32) : Option (Int32 × XO) := (fX11_headOf Ω x1).bind (fun r_1 => (fX11_enter_l16 Ω r_1 x1 x2 x3 x4 x5 x6 x7 x8 x9 ((xI Ω 2108 0 x1.toNatClampNeg).toNatClampNeg + 1) (0 : Int32) (-1 : Int32) (0 : Int32)).bind (Sum.elim (fun v => some v) (fun q_2 => (if q_2.2.2 = 0 then (fX11_size Ω x1).bind (fun r_38 => (if r_38 < (10 : Int32) then (fX11_enter_l197 r_1 x1 x2 x3 x4 x5 x6 x7 x8 x9 ((xI Ω 2108 0 x1.toNatClampNeg).toNatClampNeg + 1) (0 : Int32) Ω).bind (fun q_40 => (if inB x1 2 then (if inB (((40 : Int32) * x1) + (xI q_40.2 2108 0 x1.toNatClampNeg)) 80 then (wl (uI q_40.2 2111 0 (((40 : Int32) * x1) + (xI q_40.2 2108 0 x1.toNatClampNeg)).toNatClampNeg x2) (fun Ω_45 => (if inB (((40 : Int32) * x1) + (xI q_40.2 2108 0 x1.toNatClampNeg)) 80 then (wl (uI Ω_45 2112 0 (((40 : Int32) * x1) + (xI q_40.2 2108 0 x1.toNatClampNeg)).toNatClampNeg x3) (fun Ω_48 => (if inB (((40 : Int32) * x1) + (xI q_40.2 2108 0 x1.toNatClampNeg)) 80 then (wl (uI Ω_48 2113 0 (((40 : Int32) * x1) + (xI q_40.2 2108 0 x1.toNatClampNeg)).toNatClampNeg x4) (fun Ω_51 => (if inB (((40 : Int32) * x1) + (xI q_40.2 2108 0 x1.toNatClampNeg)) 80 then (wl (uI Ω_51 2114 0 (((40 : Int32) * x1) + (xI q_40.2 2108 0 x1.toNatClampNeg)).toNatClampNeg x5) (fun Ω_54 => (if inB (((40 : Int32) * x1) + (xI q_40.2 2108 0 x1.toNatClampNeg)) 80 then (wl (uI Ω_54 2115 0 (((40 : Int32) * x1) + (xI q_40.2 2108 0 x1.toNatClampNeg)).toNatClampNeg x6) (fun Ω_57 => (if inB (((40 : Int32) * x1) + (xI q_40.2 2108 0 x1.toNatClampNeg)) 80 then (wl (uI Ω_57 2116 0 (((40 : Int32) * x1) + (xI q_40.2 2108 0 x1.toNatClampNeg)).toNatClampNeg x7) (fun Ω_60 => (if inB (((40 : Int32) * x1) + (xI q_40.2 2108 0 x1.toNatClampNeg)) 80 then (wl (uI Ω_60 2117 0 (((40 : Int32) * x1) + (xI q_40.2 2108 0 x1.toNatClampNeg)).toNatClampNeg x8) (fun Ω_63 => (if inB (((40 : Int32) * x1) + (xI q_40.2 2108 0 x1.toNatClampNeg)) 80 then (wl (uI Ω_63 2118 0 (((40 : Int32) * x1) + (xI q_40.2 2108 0 x1.toNatClampNeg)).toNatClampNeg x9) (fun Ω_66 => (wl (uI Ω_66 1106 0 0 (1 : Int32)) (fun Ω_67 => (if inB x1 2 then (if inB x1 2 then (wl (uI Ω_67 2108 0 x1.toNatClampNeg ((xI Ω_67 2108 0 x1.toNatClampNeg) + (1 : Int32))) (fun Ω_71 => (if inB x1 2 then (some ((xI Ω_71 2108 0 x1.toNatClampNeg) - (1 : Int32), Ω_71)) else none))) else none) else none))))) else none))) else none))) else none))) else none))) else none))) else none))) else none))) else none) else none)) else (if inB q_2.2.1 80 then (if (xI Ω 2118 0 q_2.2.1.toNatClampNeg) < x9 then (if inB q_2.2.1 80 then (wl (uI Ω 2119 0 q_2.2.1.toNatClampNeg (1 : Int32)) (fun Ω_79 => (fX11_enter_l197 r_1 x1 x2 x3 x4 x5 x6 x7 x8 x9 ((xI Ω_79 2108 0 x1.toNatClampNeg).toNatClampNeg + 1) (0 : Int32) Ω_79).bind (fun q_80 => (if inB x1 2 then (if inB (((40 : Int32) * x1) + (xI q_80.2 2108 0 x1.toNatClampNeg)) 80 then (wl (uI q_80.2 2111 0 (((40 : Int32) * x1) + (xI q_80.2 2108 0 x1.toNatClampNeg)).toNatClampNeg x2) (fun Ω_85 => (if inB (((40 : Int32) * x1) + (xI q_80.2 2108 0 x1.toNatClampNeg)) 80 then (wl (uI Ω_85 2112 0 (((40 : Int32) * x1) + (xI q_80.2 2108 0 x1.toNatClampNeg)).toNatClampNeg x3) (fun Ω_88 => (if inB (((40 : Int32) * x1) + (xI q_80.2 2108 0 x1.toNatClampNeg)) 80 then (wl (uI Ω_88 2113 0 (((40 : Int32) * x1) + (xI q_80.2 2108 0 x1.toNatClampNeg)).toNatClampNeg x4) (fun Ω_91 => (if inB (((40 : Int32) * x1) + (xI q_80.2 2108 0 x1.toNatClampNeg)) 80 then (wl (uI Ω_91 2114 0 (((40 : Int32) * x1) + (xI q_80.2 2108 0 x1.toNatClampNeg)).toNatClampNeg x5) (fun Ω_94 => (if inB (((40 : Int32) * x1) + (xI q_80.2 2108 0 x1.toNatClampNeg)) 80 then (wl (uI Ω_94 2115 0 (((40 : Int32) * x1) + (xI q_80.2 2108 0 x1.toNatClampNeg)).toNatClampNeg x6) (fun Ω_97 => (if inB (((40 : Int32) * x1) + (xI q_80.2 2108 0 x1.toNatClampNeg)) 80 then (wl (uI Ω_97 2116 0 (((40 : Int32) * x1) + (xI q_80.2 2108 0 x1.toNatClampNeg)).toNatClampNeg x7) (fun Ω_100 => (if inB (((40 : Int32) * x1) + (xI q_80.2 2108 0 x1.toNatClampNeg)) 80 then (wl (uI Ω_100 2117 0 (((40 : Int32) * x1) + (xI q_80.2 2108 0 x1.toNatClampNeg)).toNatClampNeg x8) (fun Ω_103 => (if inB (((40 : Int32) * x1) + (xI q_80.2 2108 0 x1.toNatClampNeg)) 80 then (wl (uI Ω_103 2118 0 (((40 : Int32) * x1) + (xI q_80.2 2108 0 x1.toNatClampNeg)).toNatClampNeg x9) (fun Ω_106 => (wl (uI Ω_106 1106 0 0 (1 : Int32)) (fun Ω_107 => (if inB x1 2 then (if inB x1 2 then (wl (uI Ω_107 2108 0 x1.toNatClampNeg ((xI Ω_107 2108 0 x1.toNatClampNeg) + (1 : Int32))) (fun Ω_111 => (if inB x1 2 then (some ((xI Ω_111 2108 0 x1.toNatClampNeg) - (1 : Int32), Ω_111)) else none))) else none) else none))))) else none))) else none))) else none))) else none))) else none))) else none))) else none))) else none) else none)))) else none) else (some ((-1 : Int32), Ω))) else none))) else (fX11_enter_l197 r_1 x1 x2 x3 x4 x5 x6 x7 x8 x9 ((xI Ω 2108 0 x1.toNatClampNeg).toNatClampNeg + 1) (0 : Int32) Ω).bind (fun q_4 => (if inB x1 2 then (if inB (((40 : Int32) * x1) + (xI q_4.2 2108 0 x1.toNatClampNeg)) 80 then (wl (uI q_4.2 2111 0 (((40 : Int32) * x1) + (xI q_4.2 2108 0 x1.toNatClampNeg)).toNatClampNeg x2) (fun Ω_9 => (if inB (((40 : Int32) * x1) + (xI q_4.2 2108 0 x1.toNatClampNeg)) 80 then (wl (uI Ω_9 2112 0 (((40 : Int32) * x1) + (xI q_4.2 2108 0 x1.toNatClampNeg)).toNatClampNeg x3) (fun Ω_12 => (if inB (((40 : Int32) * x1) + (xI q_4.2 2108 0 x1.toNatClampNeg)) 80 then (wl (uI Ω_12 2113 0 (((40 : Int32) * x1) + (xI q_4.2 2108 0 x1.toNatClampNeg)).toNatClampNeg x4) (fun Ω_15 => (if inB (((40 : Int32) * x1) + (xI q_4.2 2108 0 x1.toNatClampNeg)) 80 then (wl (uI Ω_15 2114 0 (((40 : Int32) * x1) + (xI q_4.2 2108 0 x1.toNatClampNeg)).toNatClampNeg x5) (fun Ω_18 => (if inB (((40 : Int32) * x1) + (xI q_4.2 2108 0 x1.toNatClampNeg)) 80 then (wl (uI Ω_18 2115 0 (((40 : Int32) * x1) + (xI q_4.2 2108 0 x1.toNatClampNeg)).toNatClampNeg x6) (fun Ω_21 => (if inB (((40 : Int32) * x1) + (xI q_4.2 2108 0 x1.toNatClampNeg)) 80 then (wl (uI Ω_21 2116 0 (((40 : Int32) * x1) + (xI q_4.2 2108 0 x1.toNatClampNeg)).toNatClampNeg x7) (fun Ω_24 => (if inB (((40 : Int32) * x1) + (xI q_4.2 2108 0 x1.toNatClampNeg)) 80 then (wl (uI Ω_24 2117 0 (((40 : Int32) * x1) + (xI q_4.2 2108 0 x1.toNatClampNeg)).toNatClampNeg x8) (fun Ω_27 => (if inB (((40 : Int32) * x1) + (xI q_4.2 2108 0 x1.toNatClampNeg)) 80 then (wl (uI Ω_27 2118 0 (((40 : Int32) * x1) + (xI q_4.2 2108 0 x1.toNatClampNeg)).toNatClampNeg x9) (fun Ω_30 => (wl (uI Ω_30 1106 0 0 (1 : Int32)) (fun Ω_31 => (if inB x1 2 then (if inB x1 2 then (wl (uI Ω_31 2108 0 x1.toNatClampNeg ((xI Ω_31 2108 0 x1.toNatClampNeg) + (1 : Int32))) (fun Ω_35 => (if inB x1 2 then (some ((xI Ω_35 2108 0 x1.toNatClampNeg) - (1 : Int32), Ω_35)) else none))) else none) else none))))) else none))) else none))) else none))) else none))) else none))) else none))) else none))) else none) else none))))))
set_option maxRecDepth 20000 in
theorem tX11_enter {G : XG} (hok : XK G) {x1 : Int32} {x2 : Int32} {x3 : Int32} {x4 : Int32} {x5 : Int32} {x6 : Int32} {x7 : Int32} {x8 : Int32} {x9 : Int32} {Ω : XO} (hd0 : dm G 11 0)   {r : Int32 × XO} (hf : fX11_enter Ω x1 x2 x3 x4 x5 x6 x7 x8 x9 = some r) : XM G yX11_enter cX11_enter 16 ((some FieldType.int)) (RM 3 0) [.ref (ad G 11 0), .int x1, .int x2, .int x3, .int x4, .int x5, .int x6, .int x7, .int x8, .int x9] Ω (.inl (some (.int (r.1)))) r.2 := by
  refine x_start (lv := [(0, .ref (ad G 11 0)), (1, .int x1), (2, .int x2), (3, .int x3), (4, .int x4), (5, .int x5), (6, .int x6), (7, .int x7), (8, .int x8), (9, .int x9)]) (own := RX11) hok (by decide +kernel) rfl (Nat.le_of_ble_eq_true rfl) rfl (fun B C => ?_)
  refine x_aload_n (pc2 := 1) C dX11_enter_0 0 rfl rfl rfl ?_
  refine x_iload_n (pc2 := 2) C dX11_enter_1 1 rfl rfl rfl ?_
  rcases opt_em (fX11_headOf Ω x1) with hq_1 | ⟨r_1, hq_1⟩
  · exact absurd hf (by rw [fX11_enter, ob_n hq_1]; exact nofun)
  refine x_ret (rest := []) (st2 := [_]) (pc2 := 5) (cu2 := 0) (su2 := 0) (x_cV C (by assumption) (Nat.le_of_ble_eq_true rfl) kmX11_headOf rfl kk_11_220 (tX11_headOf hok (by assumption)  hq_1) rfl rfl (Nat.le_of_ble_eq_true rfl) ⟨Nat.le_of_ble_eq_true rfl, Nat.le_of_ble_eq_true rfl⟩ ⟨Nat.le_of_ble_eq_true rfl, Nat.le_of_ble_eq_true rfl⟩ dX11_enter_2) rfl rfl rfl rfl ?_
  refine x_istore (pc2 := 7) (lv2 := [(10, _), (0, _), (1, _), (2, _), (3, _), (4, _), (5, _), (6, _), (7, _), (8, _), (9, _)]) C dX11_enter_5 (by decide) rfl rfl ?_
  refine x_iconst (pc2 := 8) (v := 0) C dX11_enter_7 rfl rfl ?_
  refine x_istore (pc2 := 10) (lv2 := [(11, _), (10, _), (0, _), (1, _), (2, _), (3, _), (4, _), (5, _), (6, _), (7, _), (8, _), (9, _)]) C dX11_enter_8 (by decide) rfl rfl ?_
  refine x_iconst (pc2 := 11) (v := (-1)) C dX11_enter_10 rfl rfl ?_
  refine x_istore (pc2 := 13) (lv2 := [(12, _), (11, _), (10, _), (0, _), (1, _), (2, _), (3, _), (4, _), (5, _), (6, _), (7, _), (8, _), (9, _)]) C dX11_enter_11 (by decide) rfl rfl ?_
  refine x_iconst (pc2 := 14) (v := 0) C dX11_enter_13 rfl rfl ?_
  refine x_istore (pc2 := 16) (lv2 := [(13, _), (12, _), (11, _), (10, _), (0, _), (1, _), (2, _), (3, _), (4, _), (5, _), (6, _), (7, _), (8, _), (9, _)]) C dX11_enter_14 (by decide) rfl rfl ?_
  rcases opt_em2 (fX11_enter_l16 Ω r_1 x1 x2 x3 x4 x5 x6 x7 x8 x9 ((xI Ω 2108 0 x1.toNatClampNeg).toNatClampNeg + 1) (0 : Int32) (-1 : Int32) (0 : Int32)) with hq_2 | (⟨v_2, hq_2⟩ | ⟨q_2, hq_2⟩)
  · exact absurd hf (by rw [fX11_enter, ob_s hq_1, ob_n hq_2]; exact nofun)
  · exact x_sub (lv2 := [(13, _), (12, _), (11, _), (10, _), (0, _), (1, _), (2, _), (3, _), (4, _), (5, _), (6, _), (7, _), (8, _), (9, _)]) C [0, 1, 2, 3, 4, 5, 6, 7, 8, 9, 10, 11, 12, 13] rfl (lX11_enter_l16 hok (by assumption) C ((xI Ω 2108 0 x1.toNatClampNeg).toNatClampNeg + 1) (0 : Int32) (-1 : Int32) (0 : Int32) hq_2 (fun v9 h9 => by cases h9; rw [fX11_enter, ob_s hq_1, ob_s hq_2, Sum.elim_inl] at hf; obtain rfl := (Option.some.inj hf).symm; exact ⟨rfl, rfl⟩) (fun _ h9 => nomatch h9))
  refine x_sub (lv2 := [(13, _), (12, _), (11, _), (10, _), (0, _), (1, _), (2, _), (3, _), (4, _), (5, _), (6, _), (7, _), (8, _), (9, _)]) C [0, 1, 2, 3, 4, 5, 6, 7, 8, 9, 10, 11, 12, 13] rfl (lX11_enter_l16 hok (by assumption) C ((xI Ω 2108 0 x1.toNatClampNeg).toNatClampNeg + 1) (0 : Int32) (-1 : Int32) (0 : Int32) hq_2 (fun _ h9 => nomatch h9) (fun q9 h9 => ?_))
  cases h9
  refine x_iload (pc2 := 159) C dX11_enter_157 1 rfl rfl ?_
  refine x_if_ne (tgt := 194) (pc2 := 162) C dX11_enter_159 (by decide) rfl (fun qc_3 => ?_) (fun qc_3 => ?_)
  · refine x_iconst (pc2 := 195) (v := 0) C dX11_enter_194 rfl rfl ?_
    refine x_istore (pc2 := 197) (lv2 := [(13, _), (12, _), (11, _), (10, _), (0, _), (1, _), (2, _), (3, _), (4, _), (5, _), (6, _), (7, _), (8, _), (9, _)]) C dX11_enter_195 (by decide) rfl rfl ?_
    rcases opt_em (fX11_enter_l197 r_1 x1 x2 x3 x4 x5 x6 x7 x8 x9 ((xI Ω 2108 0 x1.toNatClampNeg).toNatClampNeg + 1) (0 : Int32) Ω) with hq_4 | ⟨q_4, hq_4⟩
    · exact absurd hf (by rw [fX11_enter, ob_s hq_1, ob_s hq_2, Sum.elim_inr, if_neg qc_3, ob_n hq_4]; exact nofun)
    refine x_sub (lv2 := [(13, _), (10, _), (0, _), (1, _), (2, _), (3, _), (4, _), (5, _), (6, _), (7, _), (8, _), (9, _)]) C [0, 3, 4, 5, 6, 7, 8, 9, 10, 11, 12, 13] rfl (lX11_enter_l197 hok (by assumption) C ((xI Ω 2108 0 x1.toNatClampNeg).toNatClampNeg + 1) (0 : Int32) Ω hq_4 (fun q9 h9 => ?_))
    cases h9
    refine x_bipush (pc2 := 277) (v := 40) C dX11_enter_275 rfl rfl ?_
    refine x_iload_n (pc2 := 278) C dX11_enter_277 1 rfl rfl rfl ?_
    refine x_imul (pc2 := 279) C dX11_enter_278 rfl ?_
    refine x_aload_n (pc2 := 280) C dX11_enter_279 0 rfl rfl rfl ?_
    refine x_getR (f := 1108) (k2 := 2108) (pc2 := 283) C (by assumption) kf_11_31 dX11_enter_280 rfl rfl rfl (rti_i rfl) rfl (fun qd_5 => ?_)
    refine x_iload_n (pc2 := 284) C dX11_enter_283 1 rfl rfl rfl ?_
    rcases (Decidable.em (inB x1 2)).symm with qg_6 | qg_6
    · exact absurd hf (by rw [fX11_enter, ob_s hq_1, ob_s hq_2, Sum.elim_inr, if_neg qc_3, ob_s hq_4, if_neg qg_6]; exact nofun)
    refine x_iald (pc2 := 285) C (by assumption) dX11_enter_284 rfl (inB_in qg_6) rfl ?_
    refine x_iadd (pc2 := 286) C dX11_enter_285 rfl ?_
    refine x_istore (pc2 := 288) (lv2 := [(13, _), (0, _), (1, _), (2, _), (3, _), (4, _), (5, _), (6, _), (7, _), (8, _), (9, _)]) C dX11_enter_286 (by decide) rfl rfl ?_
    refine x_aload_n (pc2 := 289) C dX11_enter_288 1 rfl rfl rfl ?_
    refine x_getR (f := 1111) (k2 := 2111) (pc2 := 292) C (by assumption) kf_11_40 dX11_enter_289 rfl rfl rfl (rti_i rfl) rfl (fun qd_7 => ?_)
    refine x_iload (pc2 := 294) C dX11_enter_292 0 rfl rfl ?_
    refine x_iload_n (pc2 := 295) C dX11_enter_294 3 rfl rfl rfl ?_
    rcases (Decidable.em (inB (((40 : Int32) * x1) + (xI q_4.2 2108 0 x1.toNatClampNeg)) 80)).symm with qg_8 | qg_8
    · exact absurd hf (by rw [fX11_enter, ob_s hq_1, ob_s hq_2, Sum.elim_inr, if_neg qc_3, ob_s hq_4, if_pos qg_6, if_neg qg_8]; exact nofun)
    refine x_iast (pc2 := 296) C (by assumption) dX11_enter_295 rfl (inB_in qg_8) rfl ?_
    obtain ⟨Ω_9, hw_9⟩ : ∃ z, z = uI q_4.2 2111 0 (((40 : Int32) * x1) + (xI q_4.2 2108 0 x1.toNatClampNeg)).toNatClampNeg x2 := ⟨_, rfl⟩
    refine x_om hw_9 ?_
    refine x_aload_n (pc2 := 297) C dX11_enter_296 1 rfl rfl rfl ?_
    refine x_getR (f := 1112) (k2 := 2112) (pc2 := 300) C (by assumption) kf_11_43 dX11_enter_297 rfl rfl rfl (rti_i rfl) rfl (fun qd_10 => ?_)
    refine x_iload (pc2 := 302) C dX11_enter_300 0 rfl rfl ?_
    refine x_iload_n (pc2 := 303) C dX11_enter_302 4 rfl rfl rfl ?_
    rcases (Decidable.em (inB (((40 : Int32) * x1) + (xI q_4.2 2108 0 x1.toNatClampNeg)) 80)).symm with qg_11 | qg_11
    · exact absurd hf (by rw [fX11_enter, ob_s hq_1, ob_s hq_2, Sum.elim_inr, if_neg qc_3, ob_s hq_4, if_pos qg_6, if_pos qg_8, wl_eq hw_9, if_neg qg_11]; exact nofun)
    refine x_iast (pc2 := 304) C (by assumption) dX11_enter_303 rfl (inB_in qg_11) rfl ?_
    obtain ⟨Ω_12, hw_12⟩ : ∃ z, z = uI Ω_9 2112 0 (((40 : Int32) * x1) + (xI q_4.2 2108 0 x1.toNatClampNeg)).toNatClampNeg x3 := ⟨_, rfl⟩
    refine x_om hw_12 ?_
    refine x_aload_n (pc2 := 305) C dX11_enter_304 1 rfl rfl rfl ?_
    refine x_getR (f := 1113) (k2 := 2113) (pc2 := 308) C (by assumption) kf_11_46 dX11_enter_305 rfl rfl rfl (rti_i rfl) rfl (fun qd_13 => ?_)
    refine x_iload (pc2 := 310) C dX11_enter_308 0 rfl rfl ?_
    refine x_iload (pc2 := 312) C dX11_enter_310 5 rfl rfl ?_
    rcases (Decidable.em (inB (((40 : Int32) * x1) + (xI q_4.2 2108 0 x1.toNatClampNeg)) 80)).symm with qg_14 | qg_14
    · exact absurd hf (by rw [fX11_enter, ob_s hq_1, ob_s hq_2, Sum.elim_inr, if_neg qc_3, ob_s hq_4, if_pos qg_6, if_pos qg_8, wl_eq hw_9, if_pos qg_11, wl_eq hw_12, if_neg qg_14]; exact nofun)
    refine x_iast (pc2 := 313) C (by assumption) dX11_enter_312 rfl (inB_in qg_14) rfl ?_
    obtain ⟨Ω_15, hw_15⟩ : ∃ z, z = uI Ω_12 2113 0 (((40 : Int32) * x1) + (xI q_4.2 2108 0 x1.toNatClampNeg)).toNatClampNeg x4 := ⟨_, rfl⟩
    refine x_om hw_15 ?_
    refine x_aload_n (pc2 := 314) C dX11_enter_313 1 rfl rfl rfl ?_
    refine x_getR (f := 1114) (k2 := 2114) (pc2 := 317) C (by assumption) kf_11_49 dX11_enter_314 rfl rfl rfl (rti_i rfl) rfl (fun qd_16 => ?_)
    refine x_iload (pc2 := 319) C dX11_enter_317 0 rfl rfl ?_
    refine x_iload (pc2 := 321) C dX11_enter_319 6 rfl rfl ?_
    rcases (Decidable.em (inB (((40 : Int32) * x1) + (xI q_4.2 2108 0 x1.toNatClampNeg)) 80)).symm with qg_17 | qg_17
    · exact absurd hf (by rw [fX11_enter, ob_s hq_1, ob_s hq_2, Sum.elim_inr, if_neg qc_3, ob_s hq_4, if_pos qg_6, if_pos qg_8, wl_eq hw_9, if_pos qg_11, wl_eq hw_12, if_pos qg_14, wl_eq hw_15, if_neg qg_17]; exact nofun)
    refine x_iast (pc2 := 322) C (by assumption) dX11_enter_321 rfl (inB_in qg_17) rfl ?_
    obtain ⟨Ω_18, hw_18⟩ : ∃ z, z = uI Ω_15 2114 0 (((40 : Int32) * x1) + (xI q_4.2 2108 0 x1.toNatClampNeg)).toNatClampNeg x5 := ⟨_, rfl⟩
    refine x_om hw_18 ?_
    refine x_aload_n (pc2 := 323) C dX11_enter_322 1 rfl rfl rfl ?_
    refine x_getR (f := 1115) (k2 := 2115) (pc2 := 326) C (by assumption) kf_11_52 dX11_enter_323 rfl rfl rfl (rti_i rfl) rfl (fun qd_19 => ?_)
    refine x_iload (pc2 := 328) C dX11_enter_326 0 rfl rfl ?_
    refine x_iload (pc2 := 330) C dX11_enter_328 7 rfl rfl ?_
    rcases (Decidable.em (inB (((40 : Int32) * x1) + (xI q_4.2 2108 0 x1.toNatClampNeg)) 80)).symm with qg_20 | qg_20
    · exact absurd hf (by rw [fX11_enter, ob_s hq_1, ob_s hq_2, Sum.elim_inr, if_neg qc_3, ob_s hq_4, if_pos qg_6, if_pos qg_8, wl_eq hw_9, if_pos qg_11, wl_eq hw_12, if_pos qg_14, wl_eq hw_15, if_pos qg_17, wl_eq hw_18, if_neg qg_20]; exact nofun)
    refine x_iast (pc2 := 331) C (by assumption) dX11_enter_330 rfl (inB_in qg_20) rfl ?_
    obtain ⟨Ω_21, hw_21⟩ : ∃ z, z = uI Ω_18 2115 0 (((40 : Int32) * x1) + (xI q_4.2 2108 0 x1.toNatClampNeg)).toNatClampNeg x6 := ⟨_, rfl⟩
    refine x_om hw_21 ?_
    refine x_aload_n (pc2 := 332) C dX11_enter_331 1 rfl rfl rfl ?_
    refine x_getR (f := 1116) (k2 := 2116) (pc2 := 335) C (by assumption) kf_11_55 dX11_enter_332 rfl rfl rfl (rti_i rfl) rfl (fun qd_22 => ?_)
    refine x_iload (pc2 := 337) C dX11_enter_335 0 rfl rfl ?_
    refine x_iload (pc2 := 339) C dX11_enter_337 8 rfl rfl ?_
    rcases (Decidable.em (inB (((40 : Int32) * x1) + (xI q_4.2 2108 0 x1.toNatClampNeg)) 80)).symm with qg_23 | qg_23
    · exact absurd hf (by rw [fX11_enter, ob_s hq_1, ob_s hq_2, Sum.elim_inr, if_neg qc_3, ob_s hq_4, if_pos qg_6, if_pos qg_8, wl_eq hw_9, if_pos qg_11, wl_eq hw_12, if_pos qg_14, wl_eq hw_15, if_pos qg_17, wl_eq hw_18, if_pos qg_20, wl_eq hw_21, if_neg qg_23]; exact nofun)
    refine x_iast (pc2 := 340) C (by assumption) dX11_enter_339 rfl (inB_in qg_23) rfl ?_
    obtain ⟨Ω_24, hw_24⟩ : ∃ z, z = uI Ω_21 2116 0 (((40 : Int32) * x1) + (xI q_4.2 2108 0 x1.toNatClampNeg)).toNatClampNeg x7 := ⟨_, rfl⟩
    refine x_om hw_24 ?_
    refine x_aload_n (pc2 := 341) C dX11_enter_340 1 rfl rfl rfl ?_
    refine x_getR (f := 1117) (k2 := 2117) (pc2 := 344) C (by assumption) kf_11_58 dX11_enter_341 rfl rfl rfl (rti_i rfl) rfl (fun qd_25 => ?_)
    refine x_iload (pc2 := 346) C dX11_enter_344 0 rfl rfl ?_
    refine x_iload (pc2 := 348) C dX11_enter_346 9 rfl rfl ?_
    rcases (Decidable.em (inB (((40 : Int32) * x1) + (xI q_4.2 2108 0 x1.toNatClampNeg)) 80)).symm with qg_26 | qg_26
    · exact absurd hf (by rw [fX11_enter, ob_s hq_1, ob_s hq_2, Sum.elim_inr, if_neg qc_3, ob_s hq_4, if_pos qg_6, if_pos qg_8, wl_eq hw_9, if_pos qg_11, wl_eq hw_12, if_pos qg_14, wl_eq hw_15, if_pos qg_17, wl_eq hw_18, if_pos qg_20, wl_eq hw_21, if_pos qg_23, wl_eq hw_24, if_neg qg_26]; exact nofun)
    refine x_iast (pc2 := 349) C (by assumption) dX11_enter_348 rfl (inB_in qg_26) rfl ?_
    obtain ⟨Ω_27, hw_27⟩ : ∃ z, z = uI Ω_24 2117 0 (((40 : Int32) * x1) + (xI q_4.2 2108 0 x1.toNatClampNeg)).toNatClampNeg x8 := ⟨_, rfl⟩
    refine x_om hw_27 ?_
    refine x_aload_n (pc2 := 350) C dX11_enter_349 1 rfl rfl rfl ?_
    refine x_getR (f := 1118) (k2 := 2118) (pc2 := 353) C (by assumption) kf_11_61 dX11_enter_350 rfl rfl rfl (rti_i rfl) rfl (fun qd_28 => ?_)
    refine x_iload (pc2 := 355) C dX11_enter_353 0 rfl rfl ?_
    refine x_iload (pc2 := 357) C dX11_enter_355 10 rfl rfl ?_
    rcases (Decidable.em (inB (((40 : Int32) * x1) + (xI q_4.2 2108 0 x1.toNatClampNeg)) 80)).symm with qg_29 | qg_29
    · exact absurd hf (by rw [fX11_enter, ob_s hq_1, ob_s hq_2, Sum.elim_inr, if_neg qc_3, ob_s hq_4, if_pos qg_6, if_pos qg_8, wl_eq hw_9, if_pos qg_11, wl_eq hw_12, if_pos qg_14, wl_eq hw_15, if_pos qg_17, wl_eq hw_18, if_pos qg_20, wl_eq hw_21, if_pos qg_23, wl_eq hw_24, if_pos qg_26, wl_eq hw_27, if_neg qg_29]; exact nofun)
    refine x_iast (pc2 := 358) C (by assumption) dX11_enter_357 rfl (inB_in qg_29) rfl ?_
    obtain ⟨Ω_30, hw_30⟩ : ∃ z, z = uI Ω_27 2118 0 (((40 : Int32) * x1) + (xI q_4.2 2108 0 x1.toNatClampNeg)).toNatClampNeg x9 := ⟨_, rfl⟩
    refine x_om hw_30 ?_
    refine x_aload_n (pc2 := 359) C dX11_enter_358 1 rfl rfl rfl ?_
    refine x_iconst (pc2 := 360) (v := 1) C dX11_enter_359 rfl rfl ?_
    refine x_putZ (pc2 := 363) (f := 1106) C (by assumption) kf_11_210 dX11_enter_360 rfl rfl rfl (by first | exact Or.inl rfl | exact Or.inr rfl) rfl rfl ?_
    obtain ⟨Ω_31, hw_31⟩ : ∃ z, z = uI Ω_30 1106 0 0 (1 : Int32) := ⟨_, rfl⟩
    refine x_om hw_31 ?_
    refine x_aload_n (pc2 := 364) C dX11_enter_363 1 rfl rfl rfl ?_
    refine x_getR (f := 1108) (k2 := 2108) (pc2 := 367) C (by assumption) kf_11_31 dX11_enter_364 rfl rfl rfl (rti_i rfl) rfl (fun qd_32 => ?_)
    refine x_iload_n (pc2 := 368) C dX11_enter_367 2 rfl rfl rfl ?_
    refine x_dup2 (pc2 := 369) C dX11_enter_368 rfl rfl rfl ?_
    rcases (Decidable.em (inB x1 2)).symm with qg_33 | qg_33
    · exact absurd hf (by rw [fX11_enter, ob_s hq_1, ob_s hq_2, Sum.elim_inr, if_neg qc_3, ob_s hq_4, if_pos qg_6, if_pos qg_8, wl_eq hw_9, if_pos qg_11, wl_eq hw_12, if_pos qg_14, wl_eq hw_15, if_pos qg_17, wl_eq hw_18, if_pos qg_20, wl_eq hw_21, if_pos qg_23, wl_eq hw_24, if_pos qg_26, wl_eq hw_27, if_pos qg_29, wl_eq hw_30, wl_eq hw_31, if_neg qg_33]; exact nofun)
    refine x_iald (pc2 := 370) C (by assumption) dX11_enter_369 rfl (inB_in qg_33) rfl ?_
    refine x_iconst (pc2 := 371) (v := 1) C dX11_enter_370 rfl rfl ?_
    refine x_iadd (pc2 := 372) C dX11_enter_371 rfl ?_
    rcases (Decidable.em (inB x1 2)).symm with qg_34 | qg_34
    · exact absurd hf (by rw [fX11_enter, ob_s hq_1, ob_s hq_2, Sum.elim_inr, if_neg qc_3, ob_s hq_4, if_pos qg_6, if_pos qg_8, wl_eq hw_9, if_pos qg_11, wl_eq hw_12, if_pos qg_14, wl_eq hw_15, if_pos qg_17, wl_eq hw_18, if_pos qg_20, wl_eq hw_21, if_pos qg_23, wl_eq hw_24, if_pos qg_26, wl_eq hw_27, if_pos qg_29, wl_eq hw_30, wl_eq hw_31, if_pos qg_33, if_neg qg_34]; exact nofun)
    refine x_iast (pc2 := 373) C (by assumption) dX11_enter_372 rfl (inB_in qg_34) rfl ?_
    obtain ⟨Ω_35, hw_35⟩ : ∃ z, z = uI Ω_31 2108 0 x1.toNatClampNeg ((xI Ω_31 2108 0 x1.toNatClampNeg) + (1 : Int32)) := ⟨_, rfl⟩
    refine x_om hw_35 ?_
    refine x_aload_n (pc2 := 374) C dX11_enter_373 1 rfl rfl rfl ?_
    refine x_getR (f := 1108) (k2 := 2108) (pc2 := 377) C (by assumption) kf_11_31 dX11_enter_374 rfl rfl rfl (rti_i rfl) rfl (fun qd_36 => ?_)
    refine x_iload_n (pc2 := 378) C dX11_enter_377 2 rfl rfl rfl ?_
    rcases (Decidable.em (inB x1 2)).symm with qg_37 | qg_37
    · exact absurd hf (by rw [fX11_enter, ob_s hq_1, ob_s hq_2, Sum.elim_inr, if_neg qc_3, ob_s hq_4, if_pos qg_6, if_pos qg_8, wl_eq hw_9, if_pos qg_11, wl_eq hw_12, if_pos qg_14, wl_eq hw_15, if_pos qg_17, wl_eq hw_18, if_pos qg_20, wl_eq hw_21, if_pos qg_23, wl_eq hw_24, if_pos qg_26, wl_eq hw_27, if_pos qg_29, wl_eq hw_30, wl_eq hw_31, if_pos qg_33, if_pos qg_34, wl_eq hw_35, if_neg qg_37]; exact nofun)
    refine x_iald (pc2 := 379) C (by assumption) dX11_enter_378 rfl (inB_in qg_37) rfl ?_
    refine x_iconst (pc2 := 380) (v := 1) C dX11_enter_379 rfl rfl ?_
    refine x_isub (pc2 := 381) C dX11_enter_380 rfl ?_
    rw [fX11_enter, ob_s hq_1, ob_s hq_2, Sum.elim_inr, if_neg qc_3, ob_s hq_4, if_pos qg_6, if_pos qg_8, wl_eq hw_9, if_pos qg_11, wl_eq hw_12, if_pos qg_14, wl_eq hw_15, if_pos qg_17, wl_eq hw_18, if_pos qg_20, wl_eq hw_21, if_pos qg_23, wl_eq hw_24, if_pos qg_26, wl_eq hw_27, if_pos qg_29, wl_eq hw_30, wl_eq hw_31, if_pos qg_33, if_pos qg_34, wl_eq hw_35, if_pos qg_37] at hf
    obtain rfl := (Option.some.inj hf).symm
    exact x_ireturn C dX11_enter_381 rfl (Nat.le_of_ble_eq_true rfl) (Nat.le_of_ble_eq_true rfl) rfl rfl
  · refine x_aload_n (pc2 := 163) C dX11_enter_162 3 rfl rfl rfl ?_
    refine x_iload_n (pc2 := 164) C dX11_enter_163 4 rfl rfl rfl ?_
    rcases opt_em (fX11_size Ω x1) with hq_38 | ⟨r_38, hq_38⟩
    · exact absurd hf (by rw [fX11_enter, ob_s hq_1, ob_s hq_2, Sum.elim_inr, if_pos qc_3, ob_n hq_38]; exact nofun)
    refine x_ret (rest := []) (st2 := [_]) (pc2 := 167) (cu2 := 0) (su2 := 0) (x_cV C (by assumption) (Nat.le_of_ble_eq_true rfl) kmX11_size rfl kk_11_226 (tX11_size hok (by assumption)  hq_38) rfl rfl (Nat.le_of_ble_eq_true rfl) ⟨Nat.le_of_ble_eq_true rfl, Nat.le_of_ble_eq_true rfl⟩ ⟨Nat.le_of_ble_eq_true rfl, Nat.le_of_ble_eq_true rfl⟩ dX11_enter_164) rfl rfl rfl rfl ?_
    refine x_bipush (pc2 := 169) (v := 10) C dX11_enter_167 rfl rfl ?_
    refine x_icmp_lt (tgt := 194) (pc2 := 172) C dX11_enter_169 (by decide) rfl (fun qc_39 => ?_) (fun qc_39 => ?_)
    · refine x_iconst (pc2 := 195) (v := 0) C dX11_enter_194 rfl rfl ?_
      refine x_istore (pc2 := 197) (lv2 := [(13, _), (12, _), (11, _), (10, _), (0, _), (1, _), (2, _), (3, _), (4, _), (5, _), (6, _), (7, _), (8, _), (9, _)]) C dX11_enter_195 (by decide) rfl rfl ?_
      rcases opt_em (fX11_enter_l197 r_1 x1 x2 x3 x4 x5 x6 x7 x8 x9 ((xI Ω 2108 0 x1.toNatClampNeg).toNatClampNeg + 1) (0 : Int32) Ω) with hq_40 | ⟨q_40, hq_40⟩
      · exact absurd hf (by rw [fX11_enter, ob_s hq_1, ob_s hq_2, Sum.elim_inr, if_pos qc_3, ob_s hq_38, if_pos qc_39, ob_n hq_40]; exact nofun)
      refine x_sub (lv2 := [(13, _), (10, _), (0, _), (1, _), (2, _), (3, _), (4, _), (5, _), (6, _), (7, _), (8, _), (9, _)]) C [0, 3, 4, 5, 6, 7, 8, 9, 10, 11, 12, 13] rfl (lX11_enter_l197 hok (by assumption) C ((xI Ω 2108 0 x1.toNatClampNeg).toNatClampNeg + 1) (0 : Int32) Ω hq_40 (fun q9 h9 => ?_))
      cases h9
      refine x_bipush (pc2 := 277) (v := 40) C dX11_enter_275 rfl rfl ?_
      refine x_iload_n (pc2 := 278) C dX11_enter_277 1 rfl rfl rfl ?_
      refine x_imul (pc2 := 279) C dX11_enter_278 rfl ?_
      refine x_aload_n (pc2 := 280) C dX11_enter_279 0 rfl rfl rfl ?_
      refine x_getR (f := 1108) (k2 := 2108) (pc2 := 283) C (by assumption) kf_11_31 dX11_enter_280 rfl rfl rfl (rti_i rfl) rfl (fun qd_41 => ?_)
      refine x_iload_n (pc2 := 284) C dX11_enter_283 1 rfl rfl rfl ?_
      rcases (Decidable.em (inB x1 2)).symm with qg_42 | qg_42
      · exact absurd hf (by rw [fX11_enter, ob_s hq_1, ob_s hq_2, Sum.elim_inr, if_pos qc_3, ob_s hq_38, if_pos qc_39, ob_s hq_40, if_neg qg_42]; exact nofun)
      refine x_iald (pc2 := 285) C (by assumption) dX11_enter_284 rfl (inB_in qg_42) rfl ?_
      refine x_iadd (pc2 := 286) C dX11_enter_285 rfl ?_
      refine x_istore (pc2 := 288) (lv2 := [(13, _), (0, _), (1, _), (2, _), (3, _), (4, _), (5, _), (6, _), (7, _), (8, _), (9, _)]) C dX11_enter_286 (by decide) rfl rfl ?_
      refine x_aload_n (pc2 := 289) C dX11_enter_288 1 rfl rfl rfl ?_
      refine x_getR (f := 1111) (k2 := 2111) (pc2 := 292) C (by assumption) kf_11_40 dX11_enter_289 rfl rfl rfl (rti_i rfl) rfl (fun qd_43 => ?_)
      refine x_iload (pc2 := 294) C dX11_enter_292 0 rfl rfl ?_
      refine x_iload_n (pc2 := 295) C dX11_enter_294 3 rfl rfl rfl ?_
      rcases (Decidable.em (inB (((40 : Int32) * x1) + (xI q_40.2 2108 0 x1.toNatClampNeg)) 80)).symm with qg_44 | qg_44
      · exact absurd hf (by rw [fX11_enter, ob_s hq_1, ob_s hq_2, Sum.elim_inr, if_pos qc_3, ob_s hq_38, if_pos qc_39, ob_s hq_40, if_pos qg_42, if_neg qg_44]; exact nofun)
      refine x_iast (pc2 := 296) C (by assumption) dX11_enter_295 rfl (inB_in qg_44) rfl ?_
      obtain ⟨Ω_45, hw_45⟩ : ∃ z, z = uI q_40.2 2111 0 (((40 : Int32) * x1) + (xI q_40.2 2108 0 x1.toNatClampNeg)).toNatClampNeg x2 := ⟨_, rfl⟩
      refine x_om hw_45 ?_
      refine x_aload_n (pc2 := 297) C dX11_enter_296 1 rfl rfl rfl ?_
      refine x_getR (f := 1112) (k2 := 2112) (pc2 := 300) C (by assumption) kf_11_43 dX11_enter_297 rfl rfl rfl (rti_i rfl) rfl (fun qd_46 => ?_)
      refine x_iload (pc2 := 302) C dX11_enter_300 0 rfl rfl ?_
      refine x_iload_n (pc2 := 303) C dX11_enter_302 4 rfl rfl rfl ?_
      rcases (Decidable.em (inB (((40 : Int32) * x1) + (xI q_40.2 2108 0 x1.toNatClampNeg)) 80)).symm with qg_47 | qg_47
      · exact absurd hf (by rw [fX11_enter, ob_s hq_1, ob_s hq_2, Sum.elim_inr, if_pos qc_3, ob_s hq_38, if_pos qc_39, ob_s hq_40, if_pos qg_42, if_pos qg_44, wl_eq hw_45, if_neg qg_47]; exact nofun)
      refine x_iast (pc2 := 304) C (by assumption) dX11_enter_303 rfl (inB_in qg_47) rfl ?_
      obtain ⟨Ω_48, hw_48⟩ : ∃ z, z = uI Ω_45 2112 0 (((40 : Int32) * x1) + (xI q_40.2 2108 0 x1.toNatClampNeg)).toNatClampNeg x3 := ⟨_, rfl⟩
      refine x_om hw_48 ?_
      refine x_aload_n (pc2 := 305) C dX11_enter_304 1 rfl rfl rfl ?_
      refine x_getR (f := 1113) (k2 := 2113) (pc2 := 308) C (by assumption) kf_11_46 dX11_enter_305 rfl rfl rfl (rti_i rfl) rfl (fun qd_49 => ?_)
      refine x_iload (pc2 := 310) C dX11_enter_308 0 rfl rfl ?_
      refine x_iload (pc2 := 312) C dX11_enter_310 5 rfl rfl ?_
      rcases (Decidable.em (inB (((40 : Int32) * x1) + (xI q_40.2 2108 0 x1.toNatClampNeg)) 80)).symm with qg_50 | qg_50
      · exact absurd hf (by rw [fX11_enter, ob_s hq_1, ob_s hq_2, Sum.elim_inr, if_pos qc_3, ob_s hq_38, if_pos qc_39, ob_s hq_40, if_pos qg_42, if_pos qg_44, wl_eq hw_45, if_pos qg_47, wl_eq hw_48, if_neg qg_50]; exact nofun)
      refine x_iast (pc2 := 313) C (by assumption) dX11_enter_312 rfl (inB_in qg_50) rfl ?_
      obtain ⟨Ω_51, hw_51⟩ : ∃ z, z = uI Ω_48 2113 0 (((40 : Int32) * x1) + (xI q_40.2 2108 0 x1.toNatClampNeg)).toNatClampNeg x4 := ⟨_, rfl⟩
      refine x_om hw_51 ?_
      refine x_aload_n (pc2 := 314) C dX11_enter_313 1 rfl rfl rfl ?_
      refine x_getR (f := 1114) (k2 := 2114) (pc2 := 317) C (by assumption) kf_11_49 dX11_enter_314 rfl rfl rfl (rti_i rfl) rfl (fun qd_52 => ?_)
      refine x_iload (pc2 := 319) C dX11_enter_317 0 rfl rfl ?_
      refine x_iload (pc2 := 321) C dX11_enter_319 6 rfl rfl ?_
      rcases (Decidable.em (inB (((40 : Int32) * x1) + (xI q_40.2 2108 0 x1.toNatClampNeg)) 80)).symm with qg_53 | qg_53
      · exact absurd hf (by rw [fX11_enter, ob_s hq_1, ob_s hq_2, Sum.elim_inr, if_pos qc_3, ob_s hq_38, if_pos qc_39, ob_s hq_40, if_pos qg_42, if_pos qg_44, wl_eq hw_45, if_pos qg_47, wl_eq hw_48, if_pos qg_50, wl_eq hw_51, if_neg qg_53]; exact nofun)
      refine x_iast (pc2 := 322) C (by assumption) dX11_enter_321 rfl (inB_in qg_53) rfl ?_
      obtain ⟨Ω_54, hw_54⟩ : ∃ z, z = uI Ω_51 2114 0 (((40 : Int32) * x1) + (xI q_40.2 2108 0 x1.toNatClampNeg)).toNatClampNeg x5 := ⟨_, rfl⟩
      refine x_om hw_54 ?_
      refine x_aload_n (pc2 := 323) C dX11_enter_322 1 rfl rfl rfl ?_
      refine x_getR (f := 1115) (k2 := 2115) (pc2 := 326) C (by assumption) kf_11_52 dX11_enter_323 rfl rfl rfl (rti_i rfl) rfl (fun qd_55 => ?_)
      refine x_iload (pc2 := 328) C dX11_enter_326 0 rfl rfl ?_
      refine x_iload (pc2 := 330) C dX11_enter_328 7 rfl rfl ?_
      rcases (Decidable.em (inB (((40 : Int32) * x1) + (xI q_40.2 2108 0 x1.toNatClampNeg)) 80)).symm with qg_56 | qg_56
      · exact absurd hf (by rw [fX11_enter, ob_s hq_1, ob_s hq_2, Sum.elim_inr, if_pos qc_3, ob_s hq_38, if_pos qc_39, ob_s hq_40, if_pos qg_42, if_pos qg_44, wl_eq hw_45, if_pos qg_47, wl_eq hw_48, if_pos qg_50, wl_eq hw_51, if_pos qg_53, wl_eq hw_54, if_neg qg_56]; exact nofun)
      refine x_iast (pc2 := 331) C (by assumption) dX11_enter_330 rfl (inB_in qg_56) rfl ?_
      obtain ⟨Ω_57, hw_57⟩ : ∃ z, z = uI Ω_54 2115 0 (((40 : Int32) * x1) + (xI q_40.2 2108 0 x1.toNatClampNeg)).toNatClampNeg x6 := ⟨_, rfl⟩
      refine x_om hw_57 ?_
      refine x_aload_n (pc2 := 332) C dX11_enter_331 1 rfl rfl rfl ?_
      refine x_getR (f := 1116) (k2 := 2116) (pc2 := 335) C (by assumption) kf_11_55 dX11_enter_332 rfl rfl rfl (rti_i rfl) rfl (fun qd_58 => ?_)
      refine x_iload (pc2 := 337) C dX11_enter_335 0 rfl rfl ?_
      refine x_iload (pc2 := 339) C dX11_enter_337 8 rfl rfl ?_
      rcases (Decidable.em (inB (((40 : Int32) * x1) + (xI q_40.2 2108 0 x1.toNatClampNeg)) 80)).symm with qg_59 | qg_59
      · exact absurd hf (by rw [fX11_enter, ob_s hq_1, ob_s hq_2, Sum.elim_inr, if_pos qc_3, ob_s hq_38, if_pos qc_39, ob_s hq_40, if_pos qg_42, if_pos qg_44, wl_eq hw_45, if_pos qg_47, wl_eq hw_48, if_pos qg_50, wl_eq hw_51, if_pos qg_53, wl_eq hw_54, if_pos qg_56, wl_eq hw_57, if_neg qg_59]; exact nofun)
      refine x_iast (pc2 := 340) C (by assumption) dX11_enter_339 rfl (inB_in qg_59) rfl ?_
      obtain ⟨Ω_60, hw_60⟩ : ∃ z, z = uI Ω_57 2116 0 (((40 : Int32) * x1) + (xI q_40.2 2108 0 x1.toNatClampNeg)).toNatClampNeg x7 := ⟨_, rfl⟩
      refine x_om hw_60 ?_
      refine x_aload_n (pc2 := 341) C dX11_enter_340 1 rfl rfl rfl ?_
      refine x_getR (f := 1117) (k2 := 2117) (pc2 := 344) C (by assumption) kf_11_58 dX11_enter_341 rfl rfl rfl (rti_i rfl) rfl (fun qd_61 => ?_)
      refine x_iload (pc2 := 346) C dX11_enter_344 0 rfl rfl ?_
      refine x_iload (pc2 := 348) C dX11_enter_346 9 rfl rfl ?_
      rcases (Decidable.em (inB (((40 : Int32) * x1) + (xI q_40.2 2108 0 x1.toNatClampNeg)) 80)).symm with qg_62 | qg_62
      · exact absurd hf (by rw [fX11_enter, ob_s hq_1, ob_s hq_2, Sum.elim_inr, if_pos qc_3, ob_s hq_38, if_pos qc_39, ob_s hq_40, if_pos qg_42, if_pos qg_44, wl_eq hw_45, if_pos qg_47, wl_eq hw_48, if_pos qg_50, wl_eq hw_51, if_pos qg_53, wl_eq hw_54, if_pos qg_56, wl_eq hw_57, if_pos qg_59, wl_eq hw_60, if_neg qg_62]; exact nofun)
      refine x_iast (pc2 := 349) C (by assumption) dX11_enter_348 rfl (inB_in qg_62) rfl ?_
      obtain ⟨Ω_63, hw_63⟩ : ∃ z, z = uI Ω_60 2117 0 (((40 : Int32) * x1) + (xI q_40.2 2108 0 x1.toNatClampNeg)).toNatClampNeg x8 := ⟨_, rfl⟩
      refine x_om hw_63 ?_
      refine x_aload_n (pc2 := 350) C dX11_enter_349 1 rfl rfl rfl ?_
      refine x_getR (f := 1118) (k2 := 2118) (pc2 := 353) C (by assumption) kf_11_61 dX11_enter_350 rfl rfl rfl (rti_i rfl) rfl (fun qd_64 => ?_)
      refine x_iload (pc2 := 355) C dX11_enter_353 0 rfl rfl ?_
      refine x_iload (pc2 := 357) C dX11_enter_355 10 rfl rfl ?_
      rcases (Decidable.em (inB (((40 : Int32) * x1) + (xI q_40.2 2108 0 x1.toNatClampNeg)) 80)).symm with qg_65 | qg_65
      · exact absurd hf (by rw [fX11_enter, ob_s hq_1, ob_s hq_2, Sum.elim_inr, if_pos qc_3, ob_s hq_38, if_pos qc_39, ob_s hq_40, if_pos qg_42, if_pos qg_44, wl_eq hw_45, if_pos qg_47, wl_eq hw_48, if_pos qg_50, wl_eq hw_51, if_pos qg_53, wl_eq hw_54, if_pos qg_56, wl_eq hw_57, if_pos qg_59, wl_eq hw_60, if_pos qg_62, wl_eq hw_63, if_neg qg_65]; exact nofun)
      refine x_iast (pc2 := 358) C (by assumption) dX11_enter_357 rfl (inB_in qg_65) rfl ?_
      obtain ⟨Ω_66, hw_66⟩ : ∃ z, z = uI Ω_63 2118 0 (((40 : Int32) * x1) + (xI q_40.2 2108 0 x1.toNatClampNeg)).toNatClampNeg x9 := ⟨_, rfl⟩
      refine x_om hw_66 ?_
      refine x_aload_n (pc2 := 359) C dX11_enter_358 1 rfl rfl rfl ?_
      refine x_iconst (pc2 := 360) (v := 1) C dX11_enter_359 rfl rfl ?_
      refine x_putZ (pc2 := 363) (f := 1106) C (by assumption) kf_11_210 dX11_enter_360 rfl rfl rfl (by first | exact Or.inl rfl | exact Or.inr rfl) rfl rfl ?_
      obtain ⟨Ω_67, hw_67⟩ : ∃ z, z = uI Ω_66 1106 0 0 (1 : Int32) := ⟨_, rfl⟩
      refine x_om hw_67 ?_
      refine x_aload_n (pc2 := 364) C dX11_enter_363 1 rfl rfl rfl ?_
      refine x_getR (f := 1108) (k2 := 2108) (pc2 := 367) C (by assumption) kf_11_31 dX11_enter_364 rfl rfl rfl (rti_i rfl) rfl (fun qd_68 => ?_)
      refine x_iload_n (pc2 := 368) C dX11_enter_367 2 rfl rfl rfl ?_
      refine x_dup2 (pc2 := 369) C dX11_enter_368 rfl rfl rfl ?_
      rcases (Decidable.em (inB x1 2)).symm with qg_69 | qg_69
      · exact absurd hf (by rw [fX11_enter, ob_s hq_1, ob_s hq_2, Sum.elim_inr, if_pos qc_3, ob_s hq_38, if_pos qc_39, ob_s hq_40, if_pos qg_42, if_pos qg_44, wl_eq hw_45, if_pos qg_47, wl_eq hw_48, if_pos qg_50, wl_eq hw_51, if_pos qg_53, wl_eq hw_54, if_pos qg_56, wl_eq hw_57, if_pos qg_59, wl_eq hw_60, if_pos qg_62, wl_eq hw_63, if_pos qg_65, wl_eq hw_66, wl_eq hw_67, if_neg qg_69]; exact nofun)
      refine x_iald (pc2 := 370) C (by assumption) dX11_enter_369 rfl (inB_in qg_69) rfl ?_
      refine x_iconst (pc2 := 371) (v := 1) C dX11_enter_370 rfl rfl ?_
      refine x_iadd (pc2 := 372) C dX11_enter_371 rfl ?_
      rcases (Decidable.em (inB x1 2)).symm with qg_70 | qg_70
      · exact absurd hf (by rw [fX11_enter, ob_s hq_1, ob_s hq_2, Sum.elim_inr, if_pos qc_3, ob_s hq_38, if_pos qc_39, ob_s hq_40, if_pos qg_42, if_pos qg_44, wl_eq hw_45, if_pos qg_47, wl_eq hw_48, if_pos qg_50, wl_eq hw_51, if_pos qg_53, wl_eq hw_54, if_pos qg_56, wl_eq hw_57, if_pos qg_59, wl_eq hw_60, if_pos qg_62, wl_eq hw_63, if_pos qg_65, wl_eq hw_66, wl_eq hw_67, if_pos qg_69, if_neg qg_70]; exact nofun)
      refine x_iast (pc2 := 373) C (by assumption) dX11_enter_372 rfl (inB_in qg_70) rfl ?_
      obtain ⟨Ω_71, hw_71⟩ : ∃ z, z = uI Ω_67 2108 0 x1.toNatClampNeg ((xI Ω_67 2108 0 x1.toNatClampNeg) + (1 : Int32)) := ⟨_, rfl⟩
      refine x_om hw_71 ?_
      refine x_aload_n (pc2 := 374) C dX11_enter_373 1 rfl rfl rfl ?_
      refine x_getR (f := 1108) (k2 := 2108) (pc2 := 377) C (by assumption) kf_11_31 dX11_enter_374 rfl rfl rfl (rti_i rfl) rfl (fun qd_72 => ?_)
      refine x_iload_n (pc2 := 378) C dX11_enter_377 2 rfl rfl rfl ?_
      rcases (Decidable.em (inB x1 2)).symm with qg_73 | qg_73
      · exact absurd hf (by rw [fX11_enter, ob_s hq_1, ob_s hq_2, Sum.elim_inr, if_pos qc_3, ob_s hq_38, if_pos qc_39, ob_s hq_40, if_pos qg_42, if_pos qg_44, wl_eq hw_45, if_pos qg_47, wl_eq hw_48, if_pos qg_50, wl_eq hw_51, if_pos qg_53, wl_eq hw_54, if_pos qg_56, wl_eq hw_57, if_pos qg_59, wl_eq hw_60, if_pos qg_62, wl_eq hw_63, if_pos qg_65, wl_eq hw_66, wl_eq hw_67, if_pos qg_69, if_pos qg_70, wl_eq hw_71, if_neg qg_73]; exact nofun)
      refine x_iald (pc2 := 379) C (by assumption) dX11_enter_378 rfl (inB_in qg_73) rfl ?_
      refine x_iconst (pc2 := 380) (v := 1) C dX11_enter_379 rfl rfl ?_
      refine x_isub (pc2 := 381) C dX11_enter_380 rfl ?_
      rw [fX11_enter, ob_s hq_1, ob_s hq_2, Sum.elim_inr, if_pos qc_3, ob_s hq_38, if_pos qc_39, ob_s hq_40, if_pos qg_42, if_pos qg_44, wl_eq hw_45, if_pos qg_47, wl_eq hw_48, if_pos qg_50, wl_eq hw_51, if_pos qg_53, wl_eq hw_54, if_pos qg_56, wl_eq hw_57, if_pos qg_59, wl_eq hw_60, if_pos qg_62, wl_eq hw_63, if_pos qg_65, wl_eq hw_66, wl_eq hw_67, if_pos qg_69, if_pos qg_70, wl_eq hw_71, if_pos qg_73] at hf
      obtain rfl := (Option.some.inj hf).symm
      exact x_ireturn C dX11_enter_381 rfl (Nat.le_of_ble_eq_true rfl) (Nat.le_of_ble_eq_true rfl) rfl rfl
    · refine x_aload_n (pc2 := 173) C dX11_enter_172 3 rfl rfl rfl ?_
      refine x_getR (f := 1118) (k2 := 2118) (pc2 := 176) C (by assumption) kf_11_61 dX11_enter_173 rfl rfl rfl (rti_i rfl) rfl (fun qd_74 => ?_)
      refine x_iload (pc2 := 178) C dX11_enter_176 0 rfl rfl ?_
      rcases (Decidable.em (inB q_2.2.1 80)).symm with qg_75 | qg_75
      · exact absurd hf (by rw [fX11_enter, ob_s hq_1, ob_s hq_2, Sum.elim_inr, if_pos qc_3, ob_s hq_38, if_neg qc_39, if_neg qg_75]; exact nofun)
      refine x_iald (pc2 := 179) C (by assumption) dX11_enter_178 rfl (inB_in qg_75) rfl ?_
      refine x_iload (pc2 := 181) C dX11_enter_179 12 rfl rfl ?_
      refine x_icmp_lt (tgt := 186) (pc2 := 184) C dX11_enter_181 (by decide) rfl (fun qc_76 => ?_) (fun qc_76 => ?_)
      · refine x_aload_n (pc2 := 187) C dX11_enter_186 3 rfl rfl rfl ?_
        refine x_getR (f := 1119) (k2 := 2119) (pc2 := 190) C (by assumption) kf_11_64 dX11_enter_187 rfl rfl rfl (rti_i rfl) rfl (fun qd_77 => ?_)
        refine x_iload (pc2 := 192) C dX11_enter_190 0 rfl rfl ?_
        refine x_iconst (pc2 := 193) (v := 1) C dX11_enter_192 rfl rfl ?_
        rcases (Decidable.em (inB q_2.2.1 80)).symm with qg_78 | qg_78
        · exact absurd hf (by rw [fX11_enter, ob_s hq_1, ob_s hq_2, Sum.elim_inr, if_pos qc_3, ob_s hq_38, if_neg qc_39, if_pos qg_75, if_pos qc_76, if_neg qg_78]; exact nofun)
        refine x_iast (pc2 := 194) C (by assumption) dX11_enter_193 rfl (inB_in qg_78) rfl ?_
        obtain ⟨Ω_79, hw_79⟩ : ∃ z, z = uI Ω 2119 0 q_2.2.1.toNatClampNeg (1 : Int32) := ⟨_, rfl⟩
        refine x_om hw_79 ?_
        refine x_iconst (pc2 := 195) (v := 0) C dX11_enter_194 rfl rfl ?_
        refine x_istore (pc2 := 197) (lv2 := [(13, _), (12, _), (11, _), (10, _), (0, _), (1, _), (2, _), (3, _), (4, _), (5, _), (6, _), (7, _), (8, _), (9, _)]) C dX11_enter_195 (by decide) rfl rfl ?_
        rcases opt_em (fX11_enter_l197 r_1 x1 x2 x3 x4 x5 x6 x7 x8 x9 ((xI Ω_79 2108 0 x1.toNatClampNeg).toNatClampNeg + 1) (0 : Int32) Ω_79) with hq_80 | ⟨q_80, hq_80⟩
        · exact absurd hf (by rw [fX11_enter, ob_s hq_1, ob_s hq_2, Sum.elim_inr, if_pos qc_3, ob_s hq_38, if_neg qc_39, if_pos qg_75, if_pos qc_76, if_pos qg_78, wl_eq hw_79, ob_n hq_80]; exact nofun)
        refine x_sub (lv2 := [(13, _), (10, _), (0, _), (1, _), (2, _), (3, _), (4, _), (5, _), (6, _), (7, _), (8, _), (9, _)]) C [0, 3, 4, 5, 6, 7, 8, 9, 10, 11, 12, 13] rfl (lX11_enter_l197 hok (by assumption) C ((xI Ω_79 2108 0 x1.toNatClampNeg).toNatClampNeg + 1) (0 : Int32) Ω_79 hq_80 (fun q9 h9 => ?_))
        cases h9
        refine x_bipush (pc2 := 277) (v := 40) C dX11_enter_275 rfl rfl ?_
        refine x_iload_n (pc2 := 278) C dX11_enter_277 1 rfl rfl rfl ?_
        refine x_imul (pc2 := 279) C dX11_enter_278 rfl ?_
        refine x_aload_n (pc2 := 280) C dX11_enter_279 0 rfl rfl rfl ?_
        refine x_getR (f := 1108) (k2 := 2108) (pc2 := 283) C (by assumption) kf_11_31 dX11_enter_280 rfl rfl rfl (rti_i rfl) rfl (fun qd_81 => ?_)
        refine x_iload_n (pc2 := 284) C dX11_enter_283 1 rfl rfl rfl ?_
        rcases (Decidable.em (inB x1 2)).symm with qg_82 | qg_82
        · exact absurd hf (by rw [fX11_enter, ob_s hq_1, ob_s hq_2, Sum.elim_inr, if_pos qc_3, ob_s hq_38, if_neg qc_39, if_pos qg_75, if_pos qc_76, if_pos qg_78, wl_eq hw_79, ob_s hq_80, if_neg qg_82]; exact nofun)
        refine x_iald (pc2 := 285) C (by assumption) dX11_enter_284 rfl (inB_in qg_82) rfl ?_
        refine x_iadd (pc2 := 286) C dX11_enter_285 rfl ?_
        refine x_istore (pc2 := 288) (lv2 := [(13, _), (0, _), (1, _), (2, _), (3, _), (4, _), (5, _), (6, _), (7, _), (8, _), (9, _)]) C dX11_enter_286 (by decide) rfl rfl ?_
        refine x_aload_n (pc2 := 289) C dX11_enter_288 1 rfl rfl rfl ?_
        refine x_getR (f := 1111) (k2 := 2111) (pc2 := 292) C (by assumption) kf_11_40 dX11_enter_289 rfl rfl rfl (rti_i rfl) rfl (fun qd_83 => ?_)
        refine x_iload (pc2 := 294) C dX11_enter_292 0 rfl rfl ?_
        refine x_iload_n (pc2 := 295) C dX11_enter_294 3 rfl rfl rfl ?_
        rcases (Decidable.em (inB (((40 : Int32) * x1) + (xI q_80.2 2108 0 x1.toNatClampNeg)) 80)).symm with qg_84 | qg_84
        · exact absurd hf (by rw [fX11_enter, ob_s hq_1, ob_s hq_2, Sum.elim_inr, if_pos qc_3, ob_s hq_38, if_neg qc_39, if_pos qg_75, if_pos qc_76, if_pos qg_78, wl_eq hw_79, ob_s hq_80, if_pos qg_82, if_neg qg_84]; exact nofun)
        refine x_iast (pc2 := 296) C (by assumption) dX11_enter_295 rfl (inB_in qg_84) rfl ?_
        obtain ⟨Ω_85, hw_85⟩ : ∃ z, z = uI q_80.2 2111 0 (((40 : Int32) * x1) + (xI q_80.2 2108 0 x1.toNatClampNeg)).toNatClampNeg x2 := ⟨_, rfl⟩
        refine x_om hw_85 ?_
        refine x_aload_n (pc2 := 297) C dX11_enter_296 1 rfl rfl rfl ?_
        refine x_getR (f := 1112) (k2 := 2112) (pc2 := 300) C (by assumption) kf_11_43 dX11_enter_297 rfl rfl rfl (rti_i rfl) rfl (fun qd_86 => ?_)
        refine x_iload (pc2 := 302) C dX11_enter_300 0 rfl rfl ?_
        refine x_iload_n (pc2 := 303) C dX11_enter_302 4 rfl rfl rfl ?_
        rcases (Decidable.em (inB (((40 : Int32) * x1) + (xI q_80.2 2108 0 x1.toNatClampNeg)) 80)).symm with qg_87 | qg_87
        · exact absurd hf (by rw [fX11_enter, ob_s hq_1, ob_s hq_2, Sum.elim_inr, if_pos qc_3, ob_s hq_38, if_neg qc_39, if_pos qg_75, if_pos qc_76, if_pos qg_78, wl_eq hw_79, ob_s hq_80, if_pos qg_82, if_pos qg_84, wl_eq hw_85, if_neg qg_87]; exact nofun)
        refine x_iast (pc2 := 304) C (by assumption) dX11_enter_303 rfl (inB_in qg_87) rfl ?_
        obtain ⟨Ω_88, hw_88⟩ : ∃ z, z = uI Ω_85 2112 0 (((40 : Int32) * x1) + (xI q_80.2 2108 0 x1.toNatClampNeg)).toNatClampNeg x3 := ⟨_, rfl⟩
        refine x_om hw_88 ?_
        refine x_aload_n (pc2 := 305) C dX11_enter_304 1 rfl rfl rfl ?_
        refine x_getR (f := 1113) (k2 := 2113) (pc2 := 308) C (by assumption) kf_11_46 dX11_enter_305 rfl rfl rfl (rti_i rfl) rfl (fun qd_89 => ?_)
        refine x_iload (pc2 := 310) C dX11_enter_308 0 rfl rfl ?_
        refine x_iload (pc2 := 312) C dX11_enter_310 5 rfl rfl ?_
        rcases (Decidable.em (inB (((40 : Int32) * x1) + (xI q_80.2 2108 0 x1.toNatClampNeg)) 80)).symm with qg_90 | qg_90
        · exact absurd hf (by rw [fX11_enter, ob_s hq_1, ob_s hq_2, Sum.elim_inr, if_pos qc_3, ob_s hq_38, if_neg qc_39, if_pos qg_75, if_pos qc_76, if_pos qg_78, wl_eq hw_79, ob_s hq_80, if_pos qg_82, if_pos qg_84, wl_eq hw_85, if_pos qg_87, wl_eq hw_88, if_neg qg_90]; exact nofun)
        refine x_iast (pc2 := 313) C (by assumption) dX11_enter_312 rfl (inB_in qg_90) rfl ?_
        obtain ⟨Ω_91, hw_91⟩ : ∃ z, z = uI Ω_88 2113 0 (((40 : Int32) * x1) + (xI q_80.2 2108 0 x1.toNatClampNeg)).toNatClampNeg x4 := ⟨_, rfl⟩
        refine x_om hw_91 ?_
        refine x_aload_n (pc2 := 314) C dX11_enter_313 1 rfl rfl rfl ?_
        refine x_getR (f := 1114) (k2 := 2114) (pc2 := 317) C (by assumption) kf_11_49 dX11_enter_314 rfl rfl rfl (rti_i rfl) rfl (fun qd_92 => ?_)
        refine x_iload (pc2 := 319) C dX11_enter_317 0 rfl rfl ?_
        refine x_iload (pc2 := 321) C dX11_enter_319 6 rfl rfl ?_
        rcases (Decidable.em (inB (((40 : Int32) * x1) + (xI q_80.2 2108 0 x1.toNatClampNeg)) 80)).symm with qg_93 | qg_93
        · exact absurd hf (by rw [fX11_enter, ob_s hq_1, ob_s hq_2, Sum.elim_inr, if_pos qc_3, ob_s hq_38, if_neg qc_39, if_pos qg_75, if_pos qc_76, if_pos qg_78, wl_eq hw_79, ob_s hq_80, if_pos qg_82, if_pos qg_84, wl_eq hw_85, if_pos qg_87, wl_eq hw_88, if_pos qg_90, wl_eq hw_91, if_neg qg_93]; exact nofun)
        refine x_iast (pc2 := 322) C (by assumption) dX11_enter_321 rfl (inB_in qg_93) rfl ?_
        obtain ⟨Ω_94, hw_94⟩ : ∃ z, z = uI Ω_91 2114 0 (((40 : Int32) * x1) + (xI q_80.2 2108 0 x1.toNatClampNeg)).toNatClampNeg x5 := ⟨_, rfl⟩
        refine x_om hw_94 ?_
        refine x_aload_n (pc2 := 323) C dX11_enter_322 1 rfl rfl rfl ?_
        refine x_getR (f := 1115) (k2 := 2115) (pc2 := 326) C (by assumption) kf_11_52 dX11_enter_323 rfl rfl rfl (rti_i rfl) rfl (fun qd_95 => ?_)
        refine x_iload (pc2 := 328) C dX11_enter_326 0 rfl rfl ?_
        refine x_iload (pc2 := 330) C dX11_enter_328 7 rfl rfl ?_
        rcases (Decidable.em (inB (((40 : Int32) * x1) + (xI q_80.2 2108 0 x1.toNatClampNeg)) 80)).symm with qg_96 | qg_96
        · exact absurd hf (by rw [fX11_enter, ob_s hq_1, ob_s hq_2, Sum.elim_inr, if_pos qc_3, ob_s hq_38, if_neg qc_39, if_pos qg_75, if_pos qc_76, if_pos qg_78, wl_eq hw_79, ob_s hq_80, if_pos qg_82, if_pos qg_84, wl_eq hw_85, if_pos qg_87, wl_eq hw_88, if_pos qg_90, wl_eq hw_91, if_pos qg_93, wl_eq hw_94, if_neg qg_96]; exact nofun)
        refine x_iast (pc2 := 331) C (by assumption) dX11_enter_330 rfl (inB_in qg_96) rfl ?_
        obtain ⟨Ω_97, hw_97⟩ : ∃ z, z = uI Ω_94 2115 0 (((40 : Int32) * x1) + (xI q_80.2 2108 0 x1.toNatClampNeg)).toNatClampNeg x6 := ⟨_, rfl⟩
        refine x_om hw_97 ?_
        refine x_aload_n (pc2 := 332) C dX11_enter_331 1 rfl rfl rfl ?_
        refine x_getR (f := 1116) (k2 := 2116) (pc2 := 335) C (by assumption) kf_11_55 dX11_enter_332 rfl rfl rfl (rti_i rfl) rfl (fun qd_98 => ?_)
        refine x_iload (pc2 := 337) C dX11_enter_335 0 rfl rfl ?_
        refine x_iload (pc2 := 339) C dX11_enter_337 8 rfl rfl ?_
        rcases (Decidable.em (inB (((40 : Int32) * x1) + (xI q_80.2 2108 0 x1.toNatClampNeg)) 80)).symm with qg_99 | qg_99
        · exact absurd hf (by rw [fX11_enter, ob_s hq_1, ob_s hq_2, Sum.elim_inr, if_pos qc_3, ob_s hq_38, if_neg qc_39, if_pos qg_75, if_pos qc_76, if_pos qg_78, wl_eq hw_79, ob_s hq_80, if_pos qg_82, if_pos qg_84, wl_eq hw_85, if_pos qg_87, wl_eq hw_88, if_pos qg_90, wl_eq hw_91, if_pos qg_93, wl_eq hw_94, if_pos qg_96, wl_eq hw_97, if_neg qg_99]; exact nofun)
        refine x_iast (pc2 := 340) C (by assumption) dX11_enter_339 rfl (inB_in qg_99) rfl ?_
        obtain ⟨Ω_100, hw_100⟩ : ∃ z, z = uI Ω_97 2116 0 (((40 : Int32) * x1) + (xI q_80.2 2108 0 x1.toNatClampNeg)).toNatClampNeg x7 := ⟨_, rfl⟩
        refine x_om hw_100 ?_
        refine x_aload_n (pc2 := 341) C dX11_enter_340 1 rfl rfl rfl ?_
        refine x_getR (f := 1117) (k2 := 2117) (pc2 := 344) C (by assumption) kf_11_58 dX11_enter_341 rfl rfl rfl (rti_i rfl) rfl (fun qd_101 => ?_)
        refine x_iload (pc2 := 346) C dX11_enter_344 0 rfl rfl ?_
        refine x_iload (pc2 := 348) C dX11_enter_346 9 rfl rfl ?_
        rcases (Decidable.em (inB (((40 : Int32) * x1) + (xI q_80.2 2108 0 x1.toNatClampNeg)) 80)).symm with qg_102 | qg_102
        · exact absurd hf (by rw [fX11_enter, ob_s hq_1, ob_s hq_2, Sum.elim_inr, if_pos qc_3, ob_s hq_38, if_neg qc_39, if_pos qg_75, if_pos qc_76, if_pos qg_78, wl_eq hw_79, ob_s hq_80, if_pos qg_82, if_pos qg_84, wl_eq hw_85, if_pos qg_87, wl_eq hw_88, if_pos qg_90, wl_eq hw_91, if_pos qg_93, wl_eq hw_94, if_pos qg_96, wl_eq hw_97, if_pos qg_99, wl_eq hw_100, if_neg qg_102]; exact nofun)
        refine x_iast (pc2 := 349) C (by assumption) dX11_enter_348 rfl (inB_in qg_102) rfl ?_
        obtain ⟨Ω_103, hw_103⟩ : ∃ z, z = uI Ω_100 2117 0 (((40 : Int32) * x1) + (xI q_80.2 2108 0 x1.toNatClampNeg)).toNatClampNeg x8 := ⟨_, rfl⟩
        refine x_om hw_103 ?_
        refine x_aload_n (pc2 := 350) C dX11_enter_349 1 rfl rfl rfl ?_
        refine x_getR (f := 1118) (k2 := 2118) (pc2 := 353) C (by assumption) kf_11_61 dX11_enter_350 rfl rfl rfl (rti_i rfl) rfl (fun qd_104 => ?_)
        refine x_iload (pc2 := 355) C dX11_enter_353 0 rfl rfl ?_
        refine x_iload (pc2 := 357) C dX11_enter_355 10 rfl rfl ?_
        rcases (Decidable.em (inB (((40 : Int32) * x1) + (xI q_80.2 2108 0 x1.toNatClampNeg)) 80)).symm with qg_105 | qg_105
        · exact absurd hf (by rw [fX11_enter, ob_s hq_1, ob_s hq_2, Sum.elim_inr, if_pos qc_3, ob_s hq_38, if_neg qc_39, if_pos qg_75, if_pos qc_76, if_pos qg_78, wl_eq hw_79, ob_s hq_80, if_pos qg_82, if_pos qg_84, wl_eq hw_85, if_pos qg_87, wl_eq hw_88, if_pos qg_90, wl_eq hw_91, if_pos qg_93, wl_eq hw_94, if_pos qg_96, wl_eq hw_97, if_pos qg_99, wl_eq hw_100, if_pos qg_102, wl_eq hw_103, if_neg qg_105]; exact nofun)
        refine x_iast (pc2 := 358) C (by assumption) dX11_enter_357 rfl (inB_in qg_105) rfl ?_
        obtain ⟨Ω_106, hw_106⟩ : ∃ z, z = uI Ω_103 2118 0 (((40 : Int32) * x1) + (xI q_80.2 2108 0 x1.toNatClampNeg)).toNatClampNeg x9 := ⟨_, rfl⟩
        refine x_om hw_106 ?_
        refine x_aload_n (pc2 := 359) C dX11_enter_358 1 rfl rfl rfl ?_
        refine x_iconst (pc2 := 360) (v := 1) C dX11_enter_359 rfl rfl ?_
        refine x_putZ (pc2 := 363) (f := 1106) C (by assumption) kf_11_210 dX11_enter_360 rfl rfl rfl (by first | exact Or.inl rfl | exact Or.inr rfl) rfl rfl ?_
        obtain ⟨Ω_107, hw_107⟩ : ∃ z, z = uI Ω_106 1106 0 0 (1 : Int32) := ⟨_, rfl⟩
        refine x_om hw_107 ?_
        refine x_aload_n (pc2 := 364) C dX11_enter_363 1 rfl rfl rfl ?_
        refine x_getR (f := 1108) (k2 := 2108) (pc2 := 367) C (by assumption) kf_11_31 dX11_enter_364 rfl rfl rfl (rti_i rfl) rfl (fun qd_108 => ?_)
        refine x_iload_n (pc2 := 368) C dX11_enter_367 2 rfl rfl rfl ?_
        refine x_dup2 (pc2 := 369) C dX11_enter_368 rfl rfl rfl ?_
        rcases (Decidable.em (inB x1 2)).symm with qg_109 | qg_109
        · exact absurd hf (by rw [fX11_enter, ob_s hq_1, ob_s hq_2, Sum.elim_inr, if_pos qc_3, ob_s hq_38, if_neg qc_39, if_pos qg_75, if_pos qc_76, if_pos qg_78, wl_eq hw_79, ob_s hq_80, if_pos qg_82, if_pos qg_84, wl_eq hw_85, if_pos qg_87, wl_eq hw_88, if_pos qg_90, wl_eq hw_91, if_pos qg_93, wl_eq hw_94, if_pos qg_96, wl_eq hw_97, if_pos qg_99, wl_eq hw_100, if_pos qg_102, wl_eq hw_103, if_pos qg_105, wl_eq hw_106, wl_eq hw_107, if_neg qg_109]; exact nofun)
        refine x_iald (pc2 := 370) C (by assumption) dX11_enter_369 rfl (inB_in qg_109) rfl ?_
        refine x_iconst (pc2 := 371) (v := 1) C dX11_enter_370 rfl rfl ?_
        refine x_iadd (pc2 := 372) C dX11_enter_371 rfl ?_
        rcases (Decidable.em (inB x1 2)).symm with qg_110 | qg_110
        · exact absurd hf (by rw [fX11_enter, ob_s hq_1, ob_s hq_2, Sum.elim_inr, if_pos qc_3, ob_s hq_38, if_neg qc_39, if_pos qg_75, if_pos qc_76, if_pos qg_78, wl_eq hw_79, ob_s hq_80, if_pos qg_82, if_pos qg_84, wl_eq hw_85, if_pos qg_87, wl_eq hw_88, if_pos qg_90, wl_eq hw_91, if_pos qg_93, wl_eq hw_94, if_pos qg_96, wl_eq hw_97, if_pos qg_99, wl_eq hw_100, if_pos qg_102, wl_eq hw_103, if_pos qg_105, wl_eq hw_106, wl_eq hw_107, if_pos qg_109, if_neg qg_110]; exact nofun)
        refine x_iast (pc2 := 373) C (by assumption) dX11_enter_372 rfl (inB_in qg_110) rfl ?_
        obtain ⟨Ω_111, hw_111⟩ : ∃ z, z = uI Ω_107 2108 0 x1.toNatClampNeg ((xI Ω_107 2108 0 x1.toNatClampNeg) + (1 : Int32)) := ⟨_, rfl⟩
        refine x_om hw_111 ?_
        refine x_aload_n (pc2 := 374) C dX11_enter_373 1 rfl rfl rfl ?_
        refine x_getR (f := 1108) (k2 := 2108) (pc2 := 377) C (by assumption) kf_11_31 dX11_enter_374 rfl rfl rfl (rti_i rfl) rfl (fun qd_112 => ?_)
        refine x_iload_n (pc2 := 378) C dX11_enter_377 2 rfl rfl rfl ?_
        rcases (Decidable.em (inB x1 2)).symm with qg_113 | qg_113
        · exact absurd hf (by rw [fX11_enter, ob_s hq_1, ob_s hq_2, Sum.elim_inr, if_pos qc_3, ob_s hq_38, if_neg qc_39, if_pos qg_75, if_pos qc_76, if_pos qg_78, wl_eq hw_79, ob_s hq_80, if_pos qg_82, if_pos qg_84, wl_eq hw_85, if_pos qg_87, wl_eq hw_88, if_pos qg_90, wl_eq hw_91, if_pos qg_93, wl_eq hw_94, if_pos qg_96, wl_eq hw_97, if_pos qg_99, wl_eq hw_100, if_pos qg_102, wl_eq hw_103, if_pos qg_105, wl_eq hw_106, wl_eq hw_107, if_pos qg_109, if_pos qg_110, wl_eq hw_111, if_neg qg_113]; exact nofun)
        refine x_iald (pc2 := 379) C (by assumption) dX11_enter_378 rfl (inB_in qg_113) rfl ?_
        refine x_iconst (pc2 := 380) (v := 1) C dX11_enter_379 rfl rfl ?_
        refine x_isub (pc2 := 381) C dX11_enter_380 rfl ?_
        rw [fX11_enter, ob_s hq_1, ob_s hq_2, Sum.elim_inr, if_pos qc_3, ob_s hq_38, if_neg qc_39, if_pos qg_75, if_pos qc_76, if_pos qg_78, wl_eq hw_79, ob_s hq_80, if_pos qg_82, if_pos qg_84, wl_eq hw_85, if_pos qg_87, wl_eq hw_88, if_pos qg_90, wl_eq hw_91, if_pos qg_93, wl_eq hw_94, if_pos qg_96, wl_eq hw_97, if_pos qg_99, wl_eq hw_100, if_pos qg_102, wl_eq hw_103, if_pos qg_105, wl_eq hw_106, wl_eq hw_107, if_pos qg_109, if_pos qg_110, wl_eq hw_111, if_pos qg_113] at hf
        obtain rfl := (Option.some.inj hf).symm
        exact x_ireturn C dX11_enter_381 rfl (Nat.le_of_ble_eq_true rfl) (Nat.le_of_ble_eq_true rfl) rfl rfl
      · refine x_iconst (pc2 := 185) (v := (-1)) C dX11_enter_184 rfl rfl ?_
        rw [fX11_enter, ob_s hq_1, ob_s hq_2, Sum.elim_inr, if_pos qc_3, ob_s hq_38, if_neg qc_39, if_pos qg_75, if_neg qc_76] at hf
        obtain rfl := (Option.some.inj hf).symm
        exact x_ireturn C dX11_enter_185 rfl (Nat.le_of_ble_eq_true rfl) (Nat.le_of_ble_eq_true rfl) rfl rfl
def fX11_submit (Ω : XO) (x1 : Int32) (x2 : Int32) (x3 : Int32) (x4 : Int32) (x5 : Int32) (x6 : Int32) (x7 : Int32) (x8 : Int32) (x9 : Int32) : Option (Int32 × XO) := (fX11_in Ω x3 (0 : Int32) (9 : Int32)).bind (fun r_1 => (((if r_1 = 0 then (some (0 : Int32)) else (fX11_in Ω x4 (0 : Int32) (23 : Int32)).bind (fun r_4 => (if r_4 = 0 then (some (0 : Int32)) else (fX11_in Ω x5 (0 : Int32) (10000 : Int32)).bind (fun r_6 => (if r_6 = 0 then (some (0 : Int32)) else (fX11_in Ω x6 (0 : Int32) (9999 : Int32)).bind (fun r_8 => (if r_8 = 0 then (some (0 : Int32)) else (fX11_in Ω x7 (20 : Int32) (600 : Int32)).bind (fun r_10 => (if r_10 = 0 then (some (0 : Int32)) else (fX11_in Ω x8 (1 : Int32) (100 : Int32)).bind (fun r_12 => (if r_12 = 0 then (some (0 : Int32)) else (fX11_in Ω x9 (0 : Int32) x8).bind (fun r_14 => (if r_14 = 0 then (some (0 : Int32)) else (some (1 : Int32))))))))))))))) : Option (Int32))).bind (fun j_2 => (fX11_isChain Ω x1).bind (fun r_16 => (((if r_16 = 0 then (some (1 : Int32)) else (fX11_in Ω x2 (0 : Int32) (5 : Int32)).bind (fun r_19 => (if r_19 = 0 then (some (1 : Int32)) else (if j_2 = 0 then (some (2 : Int32)) else (if inB x1 2 then (if (xI Ω 2108 0 x1.toNatClampNeg) = (40 : Int32) then (some (3 : Int32)) else (some (0 : Int32))) else none))))) : Option (Int32))).bind (fun j_17 => (fX11_holds Ω j_17).bind (fun r_25 => (if r_25.1 = 0 then (fX11_enter r_25.2 x1 x2 x3 x4 x5 x6 x7 x8 x9).bind (fun r_27 => (some (r_27.1, r_27.2))) else (some ((-1 : Int32), r_25.2))))))))
set_option maxRecDepth 20000 in
theorem tX11_submit {G : XG} (hok : XK G) {x1 : Int32} {x2 : Int32} {x3 : Int32} {x4 : Int32} {x5 : Int32} {x6 : Int32} {x7 : Int32} {x8 : Int32} {x9 : Int32} {Ω : XO} (hd0 : dm G 11 0)   {r : Int32 × XO} (hf : fX11_submit Ω x1 x2 x3 x4 x5 x6 x7 x8 x9 = some r) : XM G yX11_submit cX11_submit 11 ((some FieldType.int)) (RM 4 0) [.ref (ad G 11 0), .int x1, .int x2, .int x3, .int x4, .int x5, .int x6, .int x7, .int x8, .int x9] Ω (.inl (some (.int (r.1)))) r.2 := by
  refine x_start (lv := [(0, .ref (ad G 11 0)), (1, .int x1), (2, .int x2), (3, .int x3), (4, .int x4), (5, .int x5), (6, .int x6), (7, .int x7), (8, .int x8), (9, .int x9)]) (own := RX11) hok (by decide +kernel) rfl (Nat.le_of_ble_eq_true rfl) rfl (fun B C => ?_)
  refine x_aload_n (pc2 := 1) C dX11_submit_0 0 rfl rfl rfl ?_
  refine x_iload_n (pc2 := 2) C dX11_submit_1 3 rfl rfl rfl ?_
  refine x_iconst (pc2 := 3) (v := 0) C dX11_submit_2 rfl rfl ?_
  refine x_bipush (pc2 := 5) (v := 9) C dX11_submit_3 rfl rfl ?_
  rcases opt_em (fX11_in Ω x3 (0 : Int32) (9 : Int32)) with hq_1 | ⟨r_1, hq_1⟩
  · exact absurd hf (by rw [fX11_submit, ob_n hq_1]; exact nofun)
  refine x_ret (rest := []) (st2 := [_]) (pc2 := 8) (cu2 := 0) (su2 := 0) (x_cV C (by assumption) (Nat.le_of_ble_eq_true rfl) kmX11_in rfl kk_11_178 (tX11_in hok (by assumption)  hq_1) rfl rfl (Nat.le_of_ble_eq_true rfl) ⟨Nat.le_of_ble_eq_true rfl, Nat.le_of_ble_eq_true rfl⟩ ⟨Nat.le_of_ble_eq_true rfl, Nat.le_of_ble_eq_true rfl⟩ dX11_submit_5) rfl rfl rfl rfl ?_
  rcases opt_em ((if r_1 = 0 then (some (0 : Int32)) else (fX11_in Ω x4 (0 : Int32) (23 : Int32)).bind (fun r_4 => (if r_4 = 0 then (some (0 : Int32)) else (fX11_in Ω x5 (0 : Int32) (10000 : Int32)).bind (fun r_6 => (if r_6 = 0 then (some (0 : Int32)) else (fX11_in Ω x6 (0 : Int32) (9999 : Int32)).bind (fun r_8 => (if r_8 = 0 then (some (0 : Int32)) else (fX11_in Ω x7 (20 : Int32) (600 : Int32)).bind (fun r_10 => (if r_10 = 0 then (some (0 : Int32)) else (fX11_in Ω x8 (1 : Int32) (100 : Int32)).bind (fun r_12 => (if r_12 = 0 then (some (0 : Int32)) else (fX11_in Ω x9 (0 : Int32) x8).bind (fun r_14 => (if r_14 = 0 then (some (0 : Int32)) else (some (1 : Int32))))))))))))))) : Option (Int32)) with hq_2 | ⟨j_2, hq_2⟩
  · exact absurd hf (by rw [fX11_submit, ob_s hq_1, ob_n hq_2]; exact nofun)
  suffices hj_2 : XW G B 11 92 [(0, .ref (ad G 11 (0))), (1, .int (x1)), (2, .int (x2)), (3, .int (x3)), (4, .int (x4)), (5, .int (x5)), (6, .int (x6)), (7, .int (x7)), (8, .int (x8)), (9, .int (x9))] [.int (j_2)] Ω 0 0 by
    refine x_if_eq (tgt := 91) (pc2 := 11) C dX11_submit_8 (by decide) rfl (fun qc_3 => ?_) (fun qc_3 => ?_)
    · refine x_iconst (pc2 := 92) (v := 0) C dX11_submit_91 rfl rfl ?_
      rw [if_pos qc_3] at hq_2
      obtain rfl := (Option.some.inj hq_2).symm
      exact x_sub (lv2 := [(0, _), (1, _), (2, _), (3, _), (4, _), (5, _), (6, _), (7, _), (8, _), (9, _)]) C [0, 1, 2, 3, 4, 5, 6, 7, 8, 9] rfl hj_2
    · refine x_aload_n (pc2 := 12) C dX11_submit_11 0 rfl rfl rfl ?_
      refine x_iload (pc2 := 14) C dX11_submit_12 4 rfl rfl ?_
      refine x_iconst (pc2 := 15) (v := 0) C dX11_submit_14 rfl rfl ?_
      refine x_bipush (pc2 := 17) (v := 23) C dX11_submit_15 rfl rfl ?_
      rcases opt_em (fX11_in Ω x4 (0 : Int32) (23 : Int32)) with hq_4 | ⟨r_4, hq_4⟩
      · exact absurd hq_2 (by rw [if_neg qc_3, ob_n hq_4]; exact nofun)
      refine x_ret (rest := []) (st2 := [_]) (pc2 := 20) (cu2 := 0) (su2 := 0) (x_cV C (by assumption) (Nat.le_of_ble_eq_true rfl) kmX11_in rfl kk_11_178 (tX11_in hok (by assumption)  hq_4) rfl rfl (Nat.le_of_ble_eq_true rfl) ⟨Nat.le_of_ble_eq_true rfl, Nat.le_of_ble_eq_true rfl⟩ ⟨Nat.le_of_ble_eq_true rfl, Nat.le_of_ble_eq_true rfl⟩ dX11_submit_17) rfl rfl rfl rfl ?_
      refine x_if_eq (tgt := 91) (pc2 := 23) C dX11_submit_20 (by decide) rfl (fun qc_5 => ?_) (fun qc_5 => ?_)
      · refine x_iconst (pc2 := 92) (v := 0) C dX11_submit_91 rfl rfl ?_
        rw [if_neg qc_3, ob_s hq_4, if_pos qc_5] at hq_2
        obtain rfl := (Option.some.inj hq_2).symm
        exact x_sub (lv2 := [(0, _), (1, _), (2, _), (3, _), (4, _), (5, _), (6, _), (7, _), (8, _), (9, _)]) C [0, 1, 2, 3, 4, 5, 6, 7, 8, 9] rfl hj_2
      · refine x_aload_n (pc2 := 24) C dX11_submit_23 0 rfl rfl rfl ?_
        refine x_iload (pc2 := 26) C dX11_submit_24 5 rfl rfl ?_
        refine x_iconst (pc2 := 27) (v := 0) C dX11_submit_26 rfl rfl ?_
        refine x_sipush (pc2 := 30) (v := 10000) C dX11_submit_27 rfl rfl ?_
        rcases opt_em (fX11_in Ω x5 (0 : Int32) (10000 : Int32)) with hq_6 | ⟨r_6, hq_6⟩
        · exact absurd hq_2 (by rw [if_neg qc_3, ob_s hq_4, if_neg qc_5, ob_n hq_6]; exact nofun)
        refine x_ret (rest := []) (st2 := [_]) (pc2 := 33) (cu2 := 0) (su2 := 0) (x_cV C (by assumption) (Nat.le_of_ble_eq_true rfl) kmX11_in rfl kk_11_178 (tX11_in hok (by assumption)  hq_6) rfl rfl (Nat.le_of_ble_eq_true rfl) ⟨Nat.le_of_ble_eq_true rfl, Nat.le_of_ble_eq_true rfl⟩ ⟨Nat.le_of_ble_eq_true rfl, Nat.le_of_ble_eq_true rfl⟩ dX11_submit_30) rfl rfl rfl rfl ?_
        refine x_if_eq (tgt := 91) (pc2 := 36) C dX11_submit_33 (by decide) rfl (fun qc_7 => ?_) (fun qc_7 => ?_)
        · refine x_iconst (pc2 := 92) (v := 0) C dX11_submit_91 rfl rfl ?_
          rw [if_neg qc_3, ob_s hq_4, if_neg qc_5, ob_s hq_6, if_pos qc_7] at hq_2
          obtain rfl := (Option.some.inj hq_2).symm
          exact x_sub (lv2 := [(0, _), (1, _), (2, _), (3, _), (4, _), (5, _), (6, _), (7, _), (8, _), (9, _)]) C [0, 1, 2, 3, 4, 5, 6, 7, 8, 9] rfl hj_2
        · refine x_aload_n (pc2 := 37) C dX11_submit_36 0 rfl rfl rfl ?_
          refine x_iload (pc2 := 39) C dX11_submit_37 6 rfl rfl ?_
          refine x_iconst (pc2 := 40) (v := 0) C dX11_submit_39 rfl rfl ?_
          refine x_sipush (pc2 := 43) (v := 9999) C dX11_submit_40 rfl rfl ?_
          rcases opt_em (fX11_in Ω x6 (0 : Int32) (9999 : Int32)) with hq_8 | ⟨r_8, hq_8⟩
          · exact absurd hq_2 (by rw [if_neg qc_3, ob_s hq_4, if_neg qc_5, ob_s hq_6, if_neg qc_7, ob_n hq_8]; exact nofun)
          refine x_ret (rest := []) (st2 := [_]) (pc2 := 46) (cu2 := 0) (su2 := 0) (x_cV C (by assumption) (Nat.le_of_ble_eq_true rfl) kmX11_in rfl kk_11_178 (tX11_in hok (by assumption)  hq_8) rfl rfl (Nat.le_of_ble_eq_true rfl) ⟨Nat.le_of_ble_eq_true rfl, Nat.le_of_ble_eq_true rfl⟩ ⟨Nat.le_of_ble_eq_true rfl, Nat.le_of_ble_eq_true rfl⟩ dX11_submit_43) rfl rfl rfl rfl ?_
          refine x_if_eq (tgt := 91) (pc2 := 49) C dX11_submit_46 (by decide) rfl (fun qc_9 => ?_) (fun qc_9 => ?_)
          · refine x_iconst (pc2 := 92) (v := 0) C dX11_submit_91 rfl rfl ?_
            rw [if_neg qc_3, ob_s hq_4, if_neg qc_5, ob_s hq_6, if_neg qc_7, ob_s hq_8, if_pos qc_9] at hq_2
            obtain rfl := (Option.some.inj hq_2).symm
            exact x_sub (lv2 := [(0, _), (1, _), (2, _), (3, _), (4, _), (5, _), (6, _), (7, _), (8, _), (9, _)]) C [0, 1, 2, 3, 4, 5, 6, 7, 8, 9] rfl hj_2
          · refine x_aload_n (pc2 := 50) C dX11_submit_49 0 rfl rfl rfl ?_
            refine x_iload (pc2 := 52) C dX11_submit_50 7 rfl rfl ?_
            refine x_bipush (pc2 := 54) (v := 20) C dX11_submit_52 rfl rfl ?_
            refine x_sipush (pc2 := 57) (v := 600) C dX11_submit_54 rfl rfl ?_
            rcases opt_em (fX11_in Ω x7 (20 : Int32) (600 : Int32)) with hq_10 | ⟨r_10, hq_10⟩
            · exact absurd hq_2 (by rw [if_neg qc_3, ob_s hq_4, if_neg qc_5, ob_s hq_6, if_neg qc_7, ob_s hq_8, if_neg qc_9, ob_n hq_10]; exact nofun)
            refine x_ret (rest := []) (st2 := [_]) (pc2 := 60) (cu2 := 0) (su2 := 0) (x_cV C (by assumption) (Nat.le_of_ble_eq_true rfl) kmX11_in rfl kk_11_178 (tX11_in hok (by assumption)  hq_10) rfl rfl (Nat.le_of_ble_eq_true rfl) ⟨Nat.le_of_ble_eq_true rfl, Nat.le_of_ble_eq_true rfl⟩ ⟨Nat.le_of_ble_eq_true rfl, Nat.le_of_ble_eq_true rfl⟩ dX11_submit_57) rfl rfl rfl rfl ?_
            refine x_if_eq (tgt := 91) (pc2 := 63) C dX11_submit_60 (by decide) rfl (fun qc_11 => ?_) (fun qc_11 => ?_)
            · refine x_iconst (pc2 := 92) (v := 0) C dX11_submit_91 rfl rfl ?_
              rw [if_neg qc_3, ob_s hq_4, if_neg qc_5, ob_s hq_6, if_neg qc_7, ob_s hq_8, if_neg qc_9, ob_s hq_10, if_pos qc_11] at hq_2
              obtain rfl := (Option.some.inj hq_2).symm
              exact x_sub (lv2 := [(0, _), (1, _), (2, _), (3, _), (4, _), (5, _), (6, _), (7, _), (8, _), (9, _)]) C [0, 1, 2, 3, 4, 5, 6, 7, 8, 9] rfl hj_2
            · refine x_aload_n (pc2 := 64) C dX11_submit_63 0 rfl rfl rfl ?_
              refine x_iload (pc2 := 66) C dX11_submit_64 8 rfl rfl ?_
              refine x_iconst (pc2 := 67) (v := 1) C dX11_submit_66 rfl rfl ?_
              refine x_bipush (pc2 := 69) (v := 100) C dX11_submit_67 rfl rfl ?_
              rcases opt_em (fX11_in Ω x8 (1 : Int32) (100 : Int32)) with hq_12 | ⟨r_12, hq_12⟩
              · exact absurd hq_2 (by rw [if_neg qc_3, ob_s hq_4, if_neg qc_5, ob_s hq_6, if_neg qc_7, ob_s hq_8, if_neg qc_9, ob_s hq_10, if_neg qc_11, ob_n hq_12]; exact nofun)
              refine x_ret (rest := []) (st2 := [_]) (pc2 := 72) (cu2 := 0) (su2 := 0) (x_cV C (by assumption) (Nat.le_of_ble_eq_true rfl) kmX11_in rfl kk_11_178 (tX11_in hok (by assumption)  hq_12) rfl rfl (Nat.le_of_ble_eq_true rfl) ⟨Nat.le_of_ble_eq_true rfl, Nat.le_of_ble_eq_true rfl⟩ ⟨Nat.le_of_ble_eq_true rfl, Nat.le_of_ble_eq_true rfl⟩ dX11_submit_69) rfl rfl rfl rfl ?_
              refine x_if_eq (tgt := 91) (pc2 := 75) C dX11_submit_72 (by decide) rfl (fun qc_13 => ?_) (fun qc_13 => ?_)
              · refine x_iconst (pc2 := 92) (v := 0) C dX11_submit_91 rfl rfl ?_
                rw [if_neg qc_3, ob_s hq_4, if_neg qc_5, ob_s hq_6, if_neg qc_7, ob_s hq_8, if_neg qc_9, ob_s hq_10, if_neg qc_11, ob_s hq_12, if_pos qc_13] at hq_2
                obtain rfl := (Option.some.inj hq_2).symm
                exact x_sub (lv2 := [(0, _), (1, _), (2, _), (3, _), (4, _), (5, _), (6, _), (7, _), (8, _), (9, _)]) C [0, 1, 2, 3, 4, 5, 6, 7, 8, 9] rfl hj_2
              · refine x_aload_n (pc2 := 76) C dX11_submit_75 0 rfl rfl rfl ?_
                refine x_iload (pc2 := 78) C dX11_submit_76 9 rfl rfl ?_
                refine x_iconst (pc2 := 79) (v := 0) C dX11_submit_78 rfl rfl ?_
                refine x_iload (pc2 := 81) C dX11_submit_79 8 rfl rfl ?_
                rcases opt_em (fX11_in Ω x9 (0 : Int32) x8) with hq_14 | ⟨r_14, hq_14⟩
                · exact absurd hq_2 (by rw [if_neg qc_3, ob_s hq_4, if_neg qc_5, ob_s hq_6, if_neg qc_7, ob_s hq_8, if_neg qc_9, ob_s hq_10, if_neg qc_11, ob_s hq_12, if_neg qc_13, ob_n hq_14]; exact nofun)
                refine x_ret (rest := []) (st2 := [_]) (pc2 := 84) (cu2 := 0) (su2 := 0) (x_cV C (by assumption) (Nat.le_of_ble_eq_true rfl) kmX11_in rfl kk_11_178 (tX11_in hok (by assumption)  hq_14) rfl rfl (Nat.le_of_ble_eq_true rfl) ⟨Nat.le_of_ble_eq_true rfl, Nat.le_of_ble_eq_true rfl⟩ ⟨Nat.le_of_ble_eq_true rfl, Nat.le_of_ble_eq_true rfl⟩ dX11_submit_81) rfl rfl rfl rfl ?_
                refine x_if_eq (tgt := 91) (pc2 := 87) C dX11_submit_84 (by decide) rfl (fun qc_15 => ?_) (fun qc_15 => ?_)
                · refine x_iconst (pc2 := 92) (v := 0) C dX11_submit_91 rfl rfl ?_
                  rw [if_neg qc_3, ob_s hq_4, if_neg qc_5, ob_s hq_6, if_neg qc_7, ob_s hq_8, if_neg qc_9, ob_s hq_10, if_neg qc_11, ob_s hq_12, if_neg qc_13, ob_s hq_14, if_pos qc_15] at hq_2
                  obtain rfl := (Option.some.inj hq_2).symm
                  exact x_sub (lv2 := [(0, _), (1, _), (2, _), (3, _), (4, _), (5, _), (6, _), (7, _), (8, _), (9, _)]) C [0, 1, 2, 3, 4, 5, 6, 7, 8, 9] rfl hj_2
                · refine x_iconst (pc2 := 88) (v := 1) C dX11_submit_87 rfl rfl ?_
                  refine x_goto (tgt := 92) C dX11_submit_88 (by decide) ?_
                  rw [if_neg qc_3, ob_s hq_4, if_neg qc_5, ob_s hq_6, if_neg qc_7, ob_s hq_8, if_neg qc_9, ob_s hq_10, if_neg qc_11, ob_s hq_12, if_neg qc_13, ob_s hq_14, if_neg qc_15] at hq_2
                  obtain rfl := (Option.some.inj hq_2).symm
                  exact x_sub (lv2 := [(0, _), (1, _), (2, _), (3, _), (4, _), (5, _), (6, _), (7, _), (8, _), (9, _)]) C [0, 1, 2, 3, 4, 5, 6, 7, 8, 9] rfl hj_2
  refine x_istore (pc2 := 94) (lv2 := [(10, _), (0, _), (1, _), (2, _), (3, _), (4, _), (5, _), (6, _), (7, _), (8, _), (9, _)]) C dX11_submit_92 (by decide) rfl rfl ?_
  refine x_aload_n (pc2 := 95) C dX11_submit_94 1 rfl rfl rfl ?_
  refine x_aload_n (pc2 := 96) C dX11_submit_95 1 rfl rfl rfl ?_
  refine x_iload_n (pc2 := 97) C dX11_submit_96 2 rfl rfl rfl ?_
  rcases opt_em (fX11_isChain Ω x1) with hq_16 | ⟨r_16, hq_16⟩
  · exact absurd hf (by rw [fX11_submit, ob_s hq_1, ob_s hq_2, ob_n hq_16]; exact nofun)
  refine x_ret (rest := [_]) (st2 := [_, _]) (pc2 := 100) (cu2 := 0) (su2 := 0) (x_cV C (by assumption) (Nat.le_of_ble_eq_true rfl) kmX11_isChain rfl kk_11_182 (tX11_isChain hok (by assumption)  hq_16) rfl rfl (Nat.le_of_ble_eq_true rfl) ⟨Nat.le_of_ble_eq_true rfl, Nat.le_of_ble_eq_true rfl⟩ ⟨Nat.le_of_ble_eq_true rfl, Nat.le_of_ble_eq_true rfl⟩ dX11_submit_97) rfl rfl rfl rfl ?_
  rcases opt_em ((if r_16 = 0 then (some (1 : Int32)) else (fX11_in Ω x2 (0 : Int32) (5 : Int32)).bind (fun r_19 => (if r_19 = 0 then (some (1 : Int32)) else (if j_2 = 0 then (some (2 : Int32)) else (if inB x1 2 then (if (xI Ω 2108 0 x1.toNatClampNeg) = (40 : Int32) then (some (3 : Int32)) else (some (0 : Int32))) else none))))) : Option (Int32)) with hq_17 | ⟨j_17, hq_17⟩
  · exact absurd hf (by rw [fX11_submit, ob_s hq_1, ob_s hq_2, ob_s hq_16, ob_n hq_17]; exact nofun)
  suffices hj_17 : XW G B 11 142 [(0, .ref (ad G 11 (0))), (1, .int (x1)), (2, .int (x2)), (3, .int (x3)), (4, .int (x4)), (5, .int (x5)), (6, .int (x6)), (7, .int (x7)), (8, .int (x8)), (9, .int (x9))] [.int (j_17), .ref (ad G 11 (0))] Ω 0 0 by
    refine x_if_eq (tgt := 113) (pc2 := 103) C dX11_submit_100 (by decide) rfl (fun qc_18 => ?_) (fun qc_18 => ?_)
    · refine x_iconst (pc2 := 114) (v := 1) C dX11_submit_113 rfl rfl ?_
      refine x_goto (tgt := 142) C dX11_submit_114 (by decide) ?_
      rw [if_pos qc_18] at hq_17
      obtain rfl := (Option.some.inj hq_17).symm
      exact x_sub (lv2 := [(0, _), (1, _), (2, _), (3, _), (4, _), (5, _), (6, _), (7, _), (8, _), (9, _)]) C [1, 2, 3, 4, 5, 6, 7, 8, 9, 10] rfl hj_17
    · refine x_aload_n (pc2 := 104) C dX11_submit_103 1 rfl rfl rfl ?_
      refine x_iload_n (pc2 := 105) C dX11_submit_104 3 rfl rfl rfl ?_
      refine x_iconst (pc2 := 106) (v := 0) C dX11_submit_105 rfl rfl ?_
      refine x_iconst (pc2 := 107) (v := 5) C dX11_submit_106 rfl rfl ?_
      rcases opt_em (fX11_in Ω x2 (0 : Int32) (5 : Int32)) with hq_19 | ⟨r_19, hq_19⟩
      · exact absurd hq_17 (by rw [if_neg qc_18, ob_n hq_19]; exact nofun)
      refine x_ret (rest := [_]) (st2 := [_, _]) (pc2 := 110) (cu2 := 0) (su2 := 0) (x_cV C (by assumption) (Nat.le_of_ble_eq_true rfl) kmX11_in rfl kk_11_178 (tX11_in hok (by assumption)  hq_19) rfl rfl (Nat.le_of_ble_eq_true rfl) ⟨Nat.le_of_ble_eq_true rfl, Nat.le_of_ble_eq_true rfl⟩ ⟨Nat.le_of_ble_eq_true rfl, Nat.le_of_ble_eq_true rfl⟩ dX11_submit_107) rfl rfl rfl rfl ?_
      refine x_if_ne (tgt := 117) (pc2 := 113) C dX11_submit_110 (by decide) rfl (fun qc_20 => ?_) (fun qc_20 => ?_)
      · refine x_iload (pc2 := 119) C dX11_submit_117 0 rfl rfl ?_
        refine x_if_ne (tgt := 126) (pc2 := 122) C dX11_submit_119 (by decide) rfl (fun qc_21 => ?_) (fun qc_21 => ?_)
        · refine x_aload_n (pc2 := 127) C dX11_submit_126 1 rfl rfl rfl ?_
          refine x_getR (f := 1108) (k2 := 2108) (pc2 := 130) C (by assumption) kf_11_31 dX11_submit_127 rfl rfl rfl (rti_i rfl) rfl (fun qd_22 => ?_)
          refine x_iload_n (pc2 := 131) C dX11_submit_130 2 rfl rfl rfl ?_
          rcases (Decidable.em (inB x1 2)).symm with qg_23 | qg_23
          · exact absurd hq_17 (by rw [if_neg qc_18, ob_s hq_19, if_neg qc_20, if_neg qc_21, if_neg qg_23]; exact nofun)
          refine x_iald (pc2 := 132) C (by assumption) dX11_submit_131 rfl (inB_in qg_23) rfl ?_
          refine x_bipush (pc2 := 134) (v := 40) C dX11_submit_132 rfl rfl ?_
          refine x_icmp_ne (tgt := 141) (pc2 := 137) C dX11_submit_134 (by decide) rfl (fun qc_24 => ?_) (fun qc_24 => ?_)
          · refine x_iconst (pc2 := 142) (v := 0) C dX11_submit_141 rfl rfl ?_
            rw [if_neg qc_18, ob_s hq_19, if_neg qc_20, if_neg qc_21, if_pos qg_23, if_neg qc_24] at hq_17
            obtain rfl := (Option.some.inj hq_17).symm
            exact x_sub (lv2 := [(0, _), (1, _), (2, _), (3, _), (4, _), (5, _), (6, _), (7, _), (8, _), (9, _)]) C [1, 2, 3, 4, 5, 6, 7, 8, 9, 10] rfl hj_17
          · refine x_iconst (pc2 := 138) (v := 3) C dX11_submit_137 rfl rfl ?_
            refine x_goto (tgt := 142) C dX11_submit_138 (by decide) ?_
            rw [if_neg qc_18, ob_s hq_19, if_neg qc_20, if_neg qc_21, if_pos qg_23, if_pos qc_24] at hq_17
            obtain rfl := (Option.some.inj hq_17).symm
            exact x_sub (lv2 := [(0, _), (1, _), (2, _), (3, _), (4, _), (5, _), (6, _), (7, _), (8, _), (9, _)]) C [1, 2, 3, 4, 5, 6, 7, 8, 9, 10] rfl hj_17
        · refine x_iconst (pc2 := 123) (v := 2) C dX11_submit_122 rfl rfl ?_
          refine x_goto (tgt := 142) C dX11_submit_123 (by decide) ?_
          rw [if_neg qc_18, ob_s hq_19, if_neg qc_20, if_pos qc_21] at hq_17
          obtain rfl := (Option.some.inj hq_17).symm
          exact x_sub (lv2 := [(0, _), (1, _), (2, _), (3, _), (4, _), (5, _), (6, _), (7, _), (8, _), (9, _)]) C [1, 2, 3, 4, 5, 6, 7, 8, 9, 10] rfl hj_17
      · refine x_iconst (pc2 := 114) (v := 1) C dX11_submit_113 rfl rfl ?_
        refine x_goto (tgt := 142) C dX11_submit_114 (by decide) ?_
        rw [if_neg qc_18, ob_s hq_19, if_pos qc_20] at hq_17
        obtain rfl := (Option.some.inj hq_17).symm
        exact x_sub (lv2 := [(0, _), (1, _), (2, _), (3, _), (4, _), (5, _), (6, _), (7, _), (8, _), (9, _)]) C [1, 2, 3, 4, 5, 6, 7, 8, 9, 10] rfl hj_17
  rcases opt_em (fX11_holds Ω j_17) with hq_25 | ⟨r_25, hq_25⟩
  · exact absurd hf (by rw [fX11_submit, ob_s hq_1, ob_s hq_2, ob_s hq_16, ob_s hq_17, ob_n hq_25]; exact nofun)
  refine x_ret (rest := []) (st2 := [_]) (pc2 := 145) (cu2 := 0) (su2 := 0) (x_cV C (by assumption) (Nat.le_of_ble_eq_true rfl) kmX11_holds rfl kk_11_214 (tX11_holds hok (by assumption)  hq_25) rfl rfl (Nat.le_of_ble_eq_true rfl) ⟨Nat.le_of_ble_eq_true rfl, Nat.le_of_ble_eq_true rfl⟩ ⟨Nat.le_of_ble_eq_true rfl, Nat.le_of_ble_eq_true rfl⟩ dX11_submit_142) rfl rfl rfl rfl ?_
  refine x_if_eq (tgt := 150) (pc2 := 148) C dX11_submit_145 (by decide) rfl (fun qc_26 => ?_) (fun qc_26 => ?_)
  · refine x_aload_n (pc2 := 151) C dX11_submit_150 0 rfl rfl rfl ?_
    refine x_iload_n (pc2 := 152) C dX11_submit_151 1 rfl rfl rfl ?_
    refine x_iload_n (pc2 := 153) C dX11_submit_152 2 rfl rfl rfl ?_
    refine x_iload_n (pc2 := 154) C dX11_submit_153 3 rfl rfl rfl ?_
    refine x_iload (pc2 := 156) C dX11_submit_154 4 rfl rfl ?_
    refine x_iload (pc2 := 158) C dX11_submit_156 5 rfl rfl ?_
    refine x_iload (pc2 := 160) C dX11_submit_158 6 rfl rfl ?_
    refine x_iload (pc2 := 162) C dX11_submit_160 7 rfl rfl ?_
    refine x_iload (pc2 := 164) C dX11_submit_162 8 rfl rfl ?_
    refine x_iload (pc2 := 166) C dX11_submit_164 9 rfl rfl ?_
    rcases opt_em (fX11_enter r_25.2 x1 x2 x3 x4 x5 x6 x7 x8 x9) with hq_27 | ⟨r_27, hq_27⟩
    · exact absurd hf (by rw [fX11_submit, ob_s hq_1, ob_s hq_2, ob_s hq_16, ob_s hq_17, ob_s hq_25, if_pos qc_26, ob_n hq_27]; exact nofun)
    refine x_ret (rest := []) (st2 := [_]) (pc2 := 169) (cu2 := 0) (su2 := 0) (x_cV C (by assumption) (Nat.le_of_ble_eq_true rfl) kmX11_enter rfl kk_11_229 (tX11_enter hok (by assumption)  hq_27) rfl rfl (Nat.le_of_ble_eq_true rfl) ⟨Nat.le_of_ble_eq_true rfl, Nat.le_of_ble_eq_true rfl⟩ ⟨Nat.le_of_ble_eq_true rfl, Nat.le_of_ble_eq_true rfl⟩ dX11_submit_166) rfl rfl rfl rfl ?_
    rw [fX11_submit, ob_s hq_1, ob_s hq_2, ob_s hq_16, ob_s hq_17, ob_s hq_25, if_pos qc_26, ob_s hq_27] at hf
    obtain rfl := (Option.some.inj hf).symm
    exact x_ireturn C dX11_submit_169 rfl (Nat.le_of_ble_eq_true rfl) (Nat.le_of_ble_eq_true rfl) rfl rfl
  · refine x_iconst (pc2 := 149) (v := (-1)) C dX11_submit_148 rfl rfl ?_
    rw [fX11_submit, ob_s hq_1, ob_s hq_2, ob_s hq_16, ob_s hq_17, ob_s hq_25, if_neg qc_26] at hf
    obtain rfl := (Option.some.inj hf).symm
    exact x_ireturn C dX11_submit_149 rfl (Nat.le_of_ble_eq_true rfl) (Nat.le_of_ble_eq_true rfl) rfl rfl
def fX11_claim (Ω : XO) (x1 : Int32) (x2 : Int32) (x3 : Int32) (x4 : Int32) (x5 : Int32) (x6 : Int32) : Option (Int32 × XO) := (fX11_isChain Ω x1).bind (fun r_1 => (((if r_1 = 0 then (some (0 : Int32)) else (fX11_isTx Ω ((1 : Int32) - x1) x4).bind (fun r_4 => (if r_4 = 0 then (some (0 : Int32)) else (fX11_in Ω x2 (0 : Int32) (5 : Int32)).bind (fun r_6 => (if r_6 = 0 then (some (0 : Int32)) else (some (1 : Int32))))))) : Option (Int32))).bind (fun j_2 => (wl ((if j_2 = 0 then (0 : Int32) else ((40 : Int32) * ((1 : Int32) - x1)) + x4)) (fun (j_8 : Int32) => (fX11_in Ω x3 (0 : Int32) (9 : Int32)).bind (fun r_10 => (((if r_10 = 0 then (some (0 : Int32)) else (fX11_in Ω x5 (1 : Int32) (100 : Int32)).bind (fun r_13 => (if r_13 = 0 then (some (0 : Int32)) else (fX11_in Ω x6 (0 : Int32) x5).bind (fun r_15 => (if r_15 = 0 then (some (0 : Int32)) else (if inB j_8 80 then (if (xI Ω 2113 0 j_8.toNatClampNeg) = (15 : Int32) then (if inB j_8 80 then (if (xI Ω 2114 0 j_8.toNatClampNeg) ≤ 0 then (some (0 : Int32)) else (some (1 : Int32))) else none) else (some (0 : Int32))) else none)))))) : Option (Int32))).bind (fun j_11 => (((if j_2 = 0 then (some (0 : Int32)) else (if inB ((1 : Int32) - x1) 2 then (fX11_isIn Ω ((1 : Int32) - x1) (xI Ω 2110 0 ((1 : Int32) - x1).toNatClampNeg) x4).bind (fun r_27 => (if r_27 = 0 then (some (1 : Int32)) else (if inB x1 2 then (if (xI Ω 2108 0 x1.toNatClampNeg) = (40 : Int32) then (some (1 : Int32)) else (some (0 : Int32))) else none))) else none)) : Option (Int32))).bind (fun j_23 => (wl ((if j_2 = 0 then (1 : Int32) else (if j_11 = 0 then (2 : Int32) else (if j_23 = 0 then (0 : Int32) else (3 : Int32))))) (fun (j_32 : Int32) => (fX11_holds Ω j_32).bind (fun r_36 => (if r_36.1 = 0 then (fX11_enter r_36.2 x1 x2 x3 (24 : Int32) (0 : Int32) x4 (60 : Int32) x5 x6).bind (fun r_38 => (some (r_38.1, r_38.2))) else (some ((-1 : Int32), r_36.2)))))))))))))
set_option maxRecDepth 20000 in
theorem tX11_claim {G : XG} (hok : XK G) {x1 : Int32} {x2 : Int32} {x3 : Int32} {x4 : Int32} {x5 : Int32} {x6 : Int32} {Ω : XO} (hd0 : dm G 11 0)   {r : Int32 × XO} (hf : fX11_claim Ω x1 x2 x3 x4 x5 x6 = some r) : XM G yX11_claim cX11_claim 11 ((some FieldType.int)) (RM 4 0) [.ref (ad G 11 0), .int x1, .int x2, .int x3, .int x4, .int x5, .int x6] Ω (.inl (some (.int (r.1)))) r.2 := by
  refine x_start (lv := [(0, .ref (ad G 11 0)), (1, .int x1), (2, .int x2), (3, .int x3), (4, .int x4), (5, .int x5), (6, .int x6)]) (own := RX11) hok (by decide +kernel) rfl (Nat.le_of_ble_eq_true rfl) rfl (fun B C => ?_)
  refine x_aload_n (pc2 := 1) C dX11_claim_0 0 rfl rfl rfl ?_
  refine x_iload_n (pc2 := 2) C dX11_claim_1 1 rfl rfl rfl ?_
  rcases opt_em (fX11_isChain Ω x1) with hq_1 | ⟨r_1, hq_1⟩
  · exact absurd hf (by rw [fX11_claim, ob_n hq_1]; exact nofun)
  refine x_ret (rest := []) (st2 := [_]) (pc2 := 5) (cu2 := 0) (su2 := 0) (x_cV C (by assumption) (Nat.le_of_ble_eq_true rfl) kmX11_isChain rfl kk_11_182 (tX11_isChain hok (by assumption)  hq_1) rfl rfl (Nat.le_of_ble_eq_true rfl) ⟨Nat.le_of_ble_eq_true rfl, Nat.le_of_ble_eq_true rfl⟩ ⟨Nat.le_of_ble_eq_true rfl, Nat.le_of_ble_eq_true rfl⟩ dX11_claim_2) rfl rfl rfl rfl ?_
  rcases opt_em ((if r_1 = 0 then (some (0 : Int32)) else (fX11_isTx Ω ((1 : Int32) - x1) x4).bind (fun r_4 => (if r_4 = 0 then (some (0 : Int32)) else (fX11_in Ω x2 (0 : Int32) (5 : Int32)).bind (fun r_6 => (if r_6 = 0 then (some (0 : Int32)) else (some (1 : Int32))))))) : Option (Int32)) with hq_2 | ⟨j_2, hq_2⟩
  · exact absurd hf (by rw [fX11_claim, ob_s hq_1, ob_n hq_2]; exact nofun)
  suffices hj_2 : XW G B 11 35 [(0, .ref (ad G 11 (0))), (1, .int (x1)), (2, .int (x2)), (3, .int (x3)), (4, .int (x4)), (5, .int (x5)), (6, .int (x6))] [.int (j_2)] Ω 0 0 by
    refine x_if_eq (tgt := 34) (pc2 := 8) C dX11_claim_5 (by decide) rfl (fun qc_3 => ?_) (fun qc_3 => ?_)
    · refine x_iconst (pc2 := 35) (v := 0) C dX11_claim_34 rfl rfl ?_
      rw [if_pos qc_3] at hq_2
      obtain rfl := (Option.some.inj hq_2).symm
      exact x_sub (lv2 := [(0, _), (1, _), (2, _), (3, _), (4, _), (5, _), (6, _)]) C [0, 1, 2, 3, 4, 5, 6] rfl hj_2
    · refine x_aload_n (pc2 := 9) C dX11_claim_8 0 rfl rfl rfl ?_
      refine x_iconst (pc2 := 10) (v := 1) C dX11_claim_9 rfl rfl ?_
      refine x_iload_n (pc2 := 11) C dX11_claim_10 1 rfl rfl rfl ?_
      refine x_isub (pc2 := 12) C dX11_claim_11 rfl ?_
      refine x_iload (pc2 := 14) C dX11_claim_12 4 rfl rfl ?_
      rcases opt_em (fX11_isTx Ω ((1 : Int32) - x1) x4) with hq_4 | ⟨r_4, hq_4⟩
      · exact absurd hq_2 (by rw [if_neg qc_3, ob_n hq_4]; exact nofun)
      refine x_ret (rest := []) (st2 := [_]) (pc2 := 17) (cu2 := 0) (su2 := 0) (x_cV C (by assumption) (Nat.le_of_ble_eq_true rfl) kmX11_isTx rfl kk_11_233 (tX11_isTx hok (by assumption)  hq_4) rfl rfl (Nat.le_of_ble_eq_true rfl) ⟨Nat.le_of_ble_eq_true rfl, Nat.le_of_ble_eq_true rfl⟩ ⟨Nat.le_of_ble_eq_true rfl, Nat.le_of_ble_eq_true rfl⟩ dX11_claim_14) rfl rfl rfl rfl ?_
      refine x_if_eq (tgt := 34) (pc2 := 20) C dX11_claim_17 (by decide) rfl (fun qc_5 => ?_) (fun qc_5 => ?_)
      · refine x_iconst (pc2 := 35) (v := 0) C dX11_claim_34 rfl rfl ?_
        rw [if_neg qc_3, ob_s hq_4, if_pos qc_5] at hq_2
        obtain rfl := (Option.some.inj hq_2).symm
        exact x_sub (lv2 := [(0, _), (1, _), (2, _), (3, _), (4, _), (5, _), (6, _)]) C [0, 1, 2, 3, 4, 5, 6] rfl hj_2
      · refine x_aload_n (pc2 := 21) C dX11_claim_20 0 rfl rfl rfl ?_
        refine x_iload_n (pc2 := 22) C dX11_claim_21 2 rfl rfl rfl ?_
        refine x_iconst (pc2 := 23) (v := 0) C dX11_claim_22 rfl rfl ?_
        refine x_iconst (pc2 := 24) (v := 5) C dX11_claim_23 rfl rfl ?_
        rcases opt_em (fX11_in Ω x2 (0 : Int32) (5 : Int32)) with hq_6 | ⟨r_6, hq_6⟩
        · exact absurd hq_2 (by rw [if_neg qc_3, ob_s hq_4, if_neg qc_5, ob_n hq_6]; exact nofun)
        refine x_ret (rest := []) (st2 := [_]) (pc2 := 27) (cu2 := 0) (su2 := 0) (x_cV C (by assumption) (Nat.le_of_ble_eq_true rfl) kmX11_in rfl kk_11_178 (tX11_in hok (by assumption)  hq_6) rfl rfl (Nat.le_of_ble_eq_true rfl) ⟨Nat.le_of_ble_eq_true rfl, Nat.le_of_ble_eq_true rfl⟩ ⟨Nat.le_of_ble_eq_true rfl, Nat.le_of_ble_eq_true rfl⟩ dX11_claim_24) rfl rfl rfl rfl ?_
        refine x_if_eq (tgt := 34) (pc2 := 30) C dX11_claim_27 (by decide) rfl (fun qc_7 => ?_) (fun qc_7 => ?_)
        · refine x_iconst (pc2 := 35) (v := 0) C dX11_claim_34 rfl rfl ?_
          rw [if_neg qc_3, ob_s hq_4, if_neg qc_5, ob_s hq_6, if_pos qc_7] at hq_2
          obtain rfl := (Option.some.inj hq_2).symm
          exact x_sub (lv2 := [(0, _), (1, _), (2, _), (3, _), (4, _), (5, _), (6, _)]) C [0, 1, 2, 3, 4, 5, 6] rfl hj_2
        · refine x_iconst (pc2 := 31) (v := 1) C dX11_claim_30 rfl rfl ?_
          refine x_goto (tgt := 35) C dX11_claim_31 (by decide) ?_
          rw [if_neg qc_3, ob_s hq_4, if_neg qc_5, ob_s hq_6, if_neg qc_7] at hq_2
          obtain rfl := (Option.some.inj hq_2).symm
          exact x_sub (lv2 := [(0, _), (1, _), (2, _), (3, _), (4, _), (5, _), (6, _)]) C [0, 1, 2, 3, 4, 5, 6] rfl hj_2
  refine x_istore (pc2 := 37) (lv2 := [(7, _), (0, _), (1, _), (2, _), (3, _), (4, _), (5, _), (6, _)]) C dX11_claim_35 (by decide) rfl rfl ?_
  refine x_iload (pc2 := 39) C dX11_claim_37 0 rfl rfl ?_
  obtain ⟨j_8, hq_8⟩ : ∃ z : Int32, z = (if j_2 = 0 then (0 : Int32) else ((40 : Int32) * ((1 : Int32) - x1)) + x4) := ⟨_, rfl⟩
  suffices hj_8 : XW G B 11 55 [(0, .ref (ad G 11 (0))), (1, .int (x1)), (2, .int (x2)), (3, .int (x3)), (4, .int (x4)), (5, .int (x5)), (6, .int (x6)), (7, .int (j_2))] [.int (j_8)] Ω 0 0 by
    refine x_if_eq (tgt := 54) (pc2 := 42) C dX11_claim_39 (by decide) rfl (fun qc_9 => ?_) (fun qc_9 => ?_)
    · refine x_iconst (pc2 := 55) (v := 0) C dX11_claim_54 rfl rfl ?_
      rw [if_pos qc_9] at hq_8
      subst hq_8
      exact x_sub (lv2 := [(0, _), (1, _), (2, _), (3, _), (4, _), (5, _), (6, _), (7, _)]) C [1, 2, 3, 4, 5, 6, 7, 0] rfl hj_8
    · refine x_bipush (pc2 := 44) (v := 40) C dX11_claim_42 rfl rfl ?_
      refine x_iconst (pc2 := 45) (v := 1) C dX11_claim_44 rfl rfl ?_
      refine x_iload_n (pc2 := 46) C dX11_claim_45 2 rfl rfl rfl ?_
      refine x_isub (pc2 := 47) C dX11_claim_46 rfl ?_
      refine x_imul (pc2 := 48) C dX11_claim_47 rfl ?_
      refine x_iload (pc2 := 50) C dX11_claim_48 5 rfl rfl ?_
      refine x_iadd (pc2 := 51) C dX11_claim_50 rfl ?_
      refine x_goto (tgt := 55) C dX11_claim_51 (by decide) ?_
      rw [if_neg qc_9] at hq_8
      subst hq_8
      exact x_sub (lv2 := [(0, _), (1, _), (2, _), (3, _), (4, _), (5, _), (6, _), (7, _)]) C [1, 2, 3, 4, 5, 6, 7, 0] rfl hj_8
  refine x_istore (pc2 := 57) (lv2 := [(8, _), (0, _), (1, _), (2, _), (3, _), (4, _), (5, _), (6, _), (7, _)]) C dX11_claim_55 (by decide) rfl rfl ?_
  refine x_aload_n (pc2 := 58) C dX11_claim_57 1 rfl rfl rfl ?_
  refine x_iload_n (pc2 := 59) C dX11_claim_58 4 rfl rfl rfl ?_
  refine x_iconst (pc2 := 60) (v := 0) C dX11_claim_59 rfl rfl ?_
  refine x_bipush (pc2 := 62) (v := 9) C dX11_claim_60 rfl rfl ?_
  rcases opt_em (fX11_in Ω x3 (0 : Int32) (9 : Int32)) with hq_10 | ⟨r_10, hq_10⟩
  · exact absurd hf (by rw [fX11_claim, ob_s hq_1, ob_s hq_2, wl_eq hq_8, ob_n hq_10]; exact nofun)
  refine x_ret (rest := []) (st2 := [_]) (pc2 := 65) (cu2 := 0) (su2 := 0) (x_cV C (by assumption) (Nat.le_of_ble_eq_true rfl) kmX11_in rfl kk_11_178 (tX11_in hok (by assumption)  hq_10) rfl rfl (Nat.le_of_ble_eq_true rfl) ⟨Nat.le_of_ble_eq_true rfl, Nat.le_of_ble_eq_true rfl⟩ ⟨Nat.le_of_ble_eq_true rfl, Nat.le_of_ble_eq_true rfl⟩ dX11_claim_62) rfl rfl rfl rfl ?_
  rcases opt_em ((if r_10 = 0 then (some (0 : Int32)) else (fX11_in Ω x5 (1 : Int32) (100 : Int32)).bind (fun r_13 => (if r_13 = 0 then (some (0 : Int32)) else (fX11_in Ω x6 (0 : Int32) x5).bind (fun r_15 => (if r_15 = 0 then (some (0 : Int32)) else (if inB j_8 80 then (if (xI Ω 2113 0 j_8.toNatClampNeg) = (15 : Int32) then (if inB j_8 80 then (if (xI Ω 2114 0 j_8.toNatClampNeg) ≤ 0 then (some (0 : Int32)) else (some (1 : Int32))) else none) else (some (0 : Int32))) else none)))))) : Option (Int32)) with hq_11 | ⟨j_11, hq_11⟩
  · exact absurd hf (by rw [fX11_claim, ob_s hq_1, ob_s hq_2, wl_eq hq_8, ob_s hq_10, ob_n hq_11]; exact nofun)
  suffices hj_11 : XW G B 11 119 [(0, .ref (ad G 11 (0))), (1, .int (x1)), (2, .int (x2)), (3, .int (x3)), (4, .int (x4)), (5, .int (x5)), (6, .int (x6)), (7, .int (j_2))] [.int (j_11)] Ω 0 0 by
    refine x_if_eq (tgt := 118) (pc2 := 68) C dX11_claim_65 (by decide) rfl (fun qc_12 => ?_) (fun qc_12 => ?_)
    · refine x_iconst (pc2 := 119) (v := 0) C dX11_claim_118 rfl rfl ?_
      rw [if_pos qc_12] at hq_11
      obtain rfl := (Option.some.inj hq_11).symm
      exact x_sub (lv2 := [(0, _), (1, _), (2, _), (3, _), (4, _), (5, _), (6, _), (7, _)]) C [1, 2, 3, 4, 5, 6, 7, 8] rfl hj_11
    · refine x_aload_n (pc2 := 69) C dX11_claim_68 1 rfl rfl rfl ?_
      refine x_iload (pc2 := 71) C dX11_claim_69 6 rfl rfl ?_
      refine x_iconst (pc2 := 72) (v := 1) C dX11_claim_71 rfl rfl ?_
      refine x_bipush (pc2 := 74) (v := 100) C dX11_claim_72 rfl rfl ?_
      rcases opt_em (fX11_in Ω x5 (1 : Int32) (100 : Int32)) with hq_13 | ⟨r_13, hq_13⟩
      · exact absurd hq_11 (by rw [if_neg qc_12, ob_n hq_13]; exact nofun)
      refine x_ret (rest := []) (st2 := [_]) (pc2 := 77) (cu2 := 0) (su2 := 0) (x_cV C (by assumption) (Nat.le_of_ble_eq_true rfl) kmX11_in rfl kk_11_178 (tX11_in hok (by assumption)  hq_13) rfl rfl (Nat.le_of_ble_eq_true rfl) ⟨Nat.le_of_ble_eq_true rfl, Nat.le_of_ble_eq_true rfl⟩ ⟨Nat.le_of_ble_eq_true rfl, Nat.le_of_ble_eq_true rfl⟩ dX11_claim_74) rfl rfl rfl rfl ?_
      refine x_if_eq (tgt := 118) (pc2 := 80) C dX11_claim_77 (by decide) rfl (fun qc_14 => ?_) (fun qc_14 => ?_)
      · refine x_iconst (pc2 := 119) (v := 0) C dX11_claim_118 rfl rfl ?_
        rw [if_neg qc_12, ob_s hq_13, if_pos qc_14] at hq_11
        obtain rfl := (Option.some.inj hq_11).symm
        exact x_sub (lv2 := [(0, _), (1, _), (2, _), (3, _), (4, _), (5, _), (6, _), (7, _)]) C [1, 2, 3, 4, 5, 6, 7, 8] rfl hj_11
      · refine x_aload_n (pc2 := 81) C dX11_claim_80 1 rfl rfl rfl ?_
        refine x_iload (pc2 := 83) C dX11_claim_81 7 rfl rfl ?_
        refine x_iconst (pc2 := 84) (v := 0) C dX11_claim_83 rfl rfl ?_
        refine x_iload (pc2 := 86) C dX11_claim_84 6 rfl rfl ?_
        rcases opt_em (fX11_in Ω x6 (0 : Int32) x5) with hq_15 | ⟨r_15, hq_15⟩
        · exact absurd hq_11 (by rw [if_neg qc_12, ob_s hq_13, if_neg qc_14, ob_n hq_15]; exact nofun)
        refine x_ret (rest := []) (st2 := [_]) (pc2 := 89) (cu2 := 0) (su2 := 0) (x_cV C (by assumption) (Nat.le_of_ble_eq_true rfl) kmX11_in rfl kk_11_178 (tX11_in hok (by assumption)  hq_15) rfl rfl (Nat.le_of_ble_eq_true rfl) ⟨Nat.le_of_ble_eq_true rfl, Nat.le_of_ble_eq_true rfl⟩ ⟨Nat.le_of_ble_eq_true rfl, Nat.le_of_ble_eq_true rfl⟩ dX11_claim_86) rfl rfl rfl rfl ?_
        refine x_if_eq (tgt := 118) (pc2 := 92) C dX11_claim_89 (by decide) rfl (fun qc_16 => ?_) (fun qc_16 => ?_)
        · refine x_iconst (pc2 := 119) (v := 0) C dX11_claim_118 rfl rfl ?_
          rw [if_neg qc_12, ob_s hq_13, if_neg qc_14, ob_s hq_15, if_pos qc_16] at hq_11
          obtain rfl := (Option.some.inj hq_11).symm
          exact x_sub (lv2 := [(0, _), (1, _), (2, _), (3, _), (4, _), (5, _), (6, _), (7, _)]) C [1, 2, 3, 4, 5, 6, 7, 8] rfl hj_11
        · refine x_aload_n (pc2 := 93) C dX11_claim_92 1 rfl rfl rfl ?_
          refine x_getR (f := 1113) (k2 := 2113) (pc2 := 96) C (by assumption) kf_11_46 dX11_claim_93 rfl rfl rfl (rti_i rfl) rfl (fun qd_17 => ?_)
          refine x_iload (pc2 := 98) C dX11_claim_96 0 rfl rfl ?_
          rcases (Decidable.em (inB j_8 80)).symm with qg_18 | qg_18
          · exact absurd hq_11 (by rw [if_neg qc_12, ob_s hq_13, if_neg qc_14, ob_s hq_15, if_neg qc_16, if_neg qg_18]; exact nofun)
          refine x_iald (pc2 := 99) C (by assumption) dX11_claim_98 rfl (inB_in qg_18) rfl ?_
          refine x_bipush (pc2 := 101) (v := 15) C dX11_claim_99 rfl rfl ?_
          refine x_icmp_ne (tgt := 118) (pc2 := 104) C dX11_claim_101 (by decide) rfl (fun qc_19 => ?_) (fun qc_19 => ?_)
          · refine x_iconst (pc2 := 119) (v := 0) C dX11_claim_118 rfl rfl ?_
            rw [if_neg qc_12, ob_s hq_13, if_neg qc_14, ob_s hq_15, if_neg qc_16, if_pos qg_18, if_neg qc_19] at hq_11
            obtain rfl := (Option.some.inj hq_11).symm
            exact x_sub (lv2 := [(0, _), (1, _), (2, _), (3, _), (4, _), (5, _), (6, _), (7, _)]) C [1, 2, 3, 4, 5, 6, 7, 8] rfl hj_11
          · refine x_aload_n (pc2 := 105) C dX11_claim_104 1 rfl rfl rfl ?_
            refine x_getR (f := 1114) (k2 := 2114) (pc2 := 108) C (by assumption) kf_11_49 dX11_claim_105 rfl rfl rfl (rti_i rfl) rfl (fun qd_20 => ?_)
            refine x_iload (pc2 := 110) C dX11_claim_108 0 rfl rfl ?_
            rcases (Decidable.em (inB j_8 80)).symm with qg_21 | qg_21
            · exact absurd hq_11 (by rw [if_neg qc_12, ob_s hq_13, if_neg qc_14, ob_s hq_15, if_neg qc_16, if_pos qg_18, if_pos qc_19, if_neg qg_21]; exact nofun)
            refine x_iald (pc2 := 111) C (by assumption) dX11_claim_110 rfl (inB_in qg_21) rfl ?_
            refine x_if_le (tgt := 118) (pc2 := 114) C dX11_claim_111 (by decide) rfl (fun qc_22 => ?_) (fun qc_22 => ?_)
            · refine x_iconst (pc2 := 119) (v := 0) C dX11_claim_118 rfl rfl ?_
              rw [if_neg qc_12, ob_s hq_13, if_neg qc_14, ob_s hq_15, if_neg qc_16, if_pos qg_18, if_pos qc_19, if_pos qg_21, if_pos qc_22] at hq_11
              obtain rfl := (Option.some.inj hq_11).symm
              exact x_sub (lv2 := [(0, _), (1, _), (2, _), (3, _), (4, _), (5, _), (6, _), (7, _)]) C [1, 2, 3, 4, 5, 6, 7, 8] rfl hj_11
            · refine x_iconst (pc2 := 115) (v := 1) C dX11_claim_114 rfl rfl ?_
              refine x_goto (tgt := 119) C dX11_claim_115 (by decide) ?_
              rw [if_neg qc_12, ob_s hq_13, if_neg qc_14, ob_s hq_15, if_neg qc_16, if_pos qg_18, if_pos qc_19, if_pos qg_21, if_neg qc_22] at hq_11
              obtain rfl := (Option.some.inj hq_11).symm
              exact x_sub (lv2 := [(0, _), (1, _), (2, _), (3, _), (4, _), (5, _), (6, _), (7, _)]) C [1, 2, 3, 4, 5, 6, 7, 8] rfl hj_11
  refine x_istore (pc2 := 121) (lv2 := [(9, _), (0, _), (1, _), (2, _), (3, _), (4, _), (5, _), (6, _), (7, _)]) C dX11_claim_119 (by decide) rfl rfl ?_
  refine x_iload (pc2 := 123) C dX11_claim_121 8 rfl rfl ?_
  rcases opt_em ((if j_2 = 0 then (some (0 : Int32)) else (if inB ((1 : Int32) - x1) 2 then (fX11_isIn Ω ((1 : Int32) - x1) (xI Ω 2110 0 ((1 : Int32) - x1).toNatClampNeg) x4).bind (fun r_27 => (if r_27 = 0 then (some (1 : Int32)) else (if inB x1 2 then (if (xI Ω 2108 0 x1.toNatClampNeg) = (40 : Int32) then (some (1 : Int32)) else (some (0 : Int32))) else none))) else none)) : Option (Int32)) with hq_23 | ⟨j_23, hq_23⟩
  · exact absurd hf (by rw [fX11_claim, ob_s hq_1, ob_s hq_2, wl_eq hq_8, ob_s hq_10, ob_s hq_11, ob_n hq_23]; exact nofun)
  suffices hj_23 : XW G B 11 162 [(0, .ref (ad G 11 (0))), (1, .int (x1)), (2, .int (x2)), (3, .int (x3)), (4, .int (x4)), (5, .int (x5)), (6, .int (x6)), (7, .int (j_2)), (9, .int (j_11))] [.int (j_23)] Ω 0 0 by
    refine x_if_eq (tgt := 161) (pc2 := 126) C dX11_claim_123 (by decide) rfl (fun qc_24 => ?_) (fun qc_24 => ?_)
    · refine x_iconst (pc2 := 162) (v := 0) C dX11_claim_161 rfl rfl ?_
      rw [if_pos qc_24] at hq_23
      obtain rfl := (Option.some.inj hq_23).symm
      exact x_sub (lv2 := [(0, _), (1, _), (2, _), (3, _), (4, _), (5, _), (6, _), (7, _), (9, _)]) C [1, 2, 3, 4, 5, 6, 7, 8, 0] rfl hj_23
    · refine x_aload_n (pc2 := 127) C dX11_claim_126 1 rfl rfl rfl ?_
      refine x_iconst (pc2 := 128) (v := 1) C dX11_claim_127 rfl rfl ?_
      refine x_iload_n (pc2 := 129) C dX11_claim_128 2 rfl rfl rfl ?_
      refine x_isub (pc2 := 130) C dX11_claim_129 rfl ?_
      refine x_aload_n (pc2 := 131) C dX11_claim_130 1 rfl rfl rfl ?_
      refine x_getR (f := 1110) (k2 := 2110) (pc2 := 134) C (by assumption) kf_11_37 dX11_claim_131 rfl rfl rfl (rti_i rfl) rfl (fun qd_25 => ?_)
      refine x_iconst (pc2 := 135) (v := 1) C dX11_claim_134 rfl rfl ?_
      refine x_iload_n (pc2 := 136) C dX11_claim_135 2 rfl rfl rfl ?_
      refine x_isub (pc2 := 137) C dX11_claim_136 rfl ?_
      rcases (Decidable.em (inB ((1 : Int32) - x1) 2)).symm with qg_26 | qg_26
      · exact absurd hq_23 (by rw [if_neg qc_24, if_neg qg_26]; exact nofun)
      refine x_iald (pc2 := 138) C (by assumption) dX11_claim_137 rfl (inB_in qg_26) rfl ?_
      refine x_iload (pc2 := 140) C dX11_claim_138 5 rfl rfl ?_
      rcases opt_em (fX11_isIn Ω ((1 : Int32) - x1) (xI Ω 2110 0 ((1 : Int32) - x1).toNatClampNeg) x4) with hq_27 | ⟨r_27, hq_27⟩
      · exact absurd hq_23 (by rw [if_neg qc_24, if_pos qg_26, ob_n hq_27]; exact nofun)
      refine x_ret (rest := []) (st2 := [_]) (pc2 := 143) (cu2 := 0) (su2 := 0) (x_cV C (by assumption) (Nat.le_of_ble_eq_true rfl) kmX11_isIn rfl kk_11_217 (tX11_isIn hok (by assumption)  hq_27) rfl rfl (Nat.le_of_ble_eq_true rfl) ⟨Nat.le_of_ble_eq_true rfl, Nat.le_of_ble_eq_true rfl⟩ ⟨Nat.le_of_ble_eq_true rfl, Nat.le_of_ble_eq_true rfl⟩ dX11_claim_140) rfl rfl rfl rfl ?_
      refine x_if_eq (tgt := 157) (pc2 := 146) C dX11_claim_143 (by decide) rfl (fun qc_28 => ?_) (fun qc_28 => ?_)
      · refine x_iconst (pc2 := 158) (v := 1) C dX11_claim_157 rfl rfl ?_
        refine x_goto (tgt := 162) C dX11_claim_158 (by decide) ?_
        rw [if_neg qc_24, if_pos qg_26, ob_s hq_27, if_pos qc_28] at hq_23
        obtain rfl := (Option.some.inj hq_23).symm
        exact x_sub (lv2 := [(0, _), (1, _), (2, _), (3, _), (4, _), (5, _), (6, _), (7, _), (9, _)]) C [1, 2, 3, 4, 5, 6, 7, 8, 0] rfl hj_23
      · refine x_aload_n (pc2 := 147) C dX11_claim_146 1 rfl rfl rfl ?_
        refine x_getR (f := 1108) (k2 := 2108) (pc2 := 150) C (by assumption) kf_11_31 dX11_claim_147 rfl rfl rfl (rti_i rfl) rfl (fun qd_29 => ?_)
        refine x_iload_n (pc2 := 151) C dX11_claim_150 2 rfl rfl rfl ?_
        rcases (Decidable.em (inB x1 2)).symm with qg_30 | qg_30
        · exact absurd hq_23 (by rw [if_neg qc_24, if_pos qg_26, ob_s hq_27, if_neg qc_28, if_neg qg_30]; exact nofun)
        refine x_iald (pc2 := 152) C (by assumption) dX11_claim_151 rfl (inB_in qg_30) rfl ?_
        refine x_bipush (pc2 := 154) (v := 40) C dX11_claim_152 rfl rfl ?_
        refine x_icmp_ne (tgt := 161) (pc2 := 157) C dX11_claim_154 (by decide) rfl (fun qc_31 => ?_) (fun qc_31 => ?_)
        · refine x_iconst (pc2 := 162) (v := 0) C dX11_claim_161 rfl rfl ?_
          rw [if_neg qc_24, if_pos qg_26, ob_s hq_27, if_neg qc_28, if_pos qg_30, if_neg qc_31] at hq_23
          obtain rfl := (Option.some.inj hq_23).symm
          exact x_sub (lv2 := [(0, _), (1, _), (2, _), (3, _), (4, _), (5, _), (6, _), (7, _), (9, _)]) C [1, 2, 3, 4, 5, 6, 7, 8, 0] rfl hj_23
        · refine x_iconst (pc2 := 158) (v := 1) C dX11_claim_157 rfl rfl ?_
          refine x_goto (tgt := 162) C dX11_claim_158 (by decide) ?_
          rw [if_neg qc_24, if_pos qg_26, ob_s hq_27, if_neg qc_28, if_pos qg_30, if_pos qc_31] at hq_23
          obtain rfl := (Option.some.inj hq_23).symm
          exact x_sub (lv2 := [(0, _), (1, _), (2, _), (3, _), (4, _), (5, _), (6, _), (7, _), (9, _)]) C [1, 2, 3, 4, 5, 6, 7, 8, 0] rfl hj_23
  refine x_istore (pc2 := 164) (lv2 := [(10, _), (0, _), (1, _), (2, _), (3, _), (4, _), (5, _), (6, _), (7, _), (9, _)]) C dX11_claim_162 (by decide) rfl rfl ?_
  refine x_aload_n (pc2 := 165) C dX11_claim_164 1 rfl rfl rfl ?_
  refine x_iload (pc2 := 167) C dX11_claim_165 8 rfl rfl ?_
  obtain ⟨j_32, hq_32⟩ : ∃ z : Int32, z = (if j_2 = 0 then (1 : Int32) else (if j_11 = 0 then (2 : Int32) else (if j_23 = 0 then (0 : Int32) else (3 : Int32)))) := ⟨_, rfl⟩
  suffices hj_32 : XW G B 11 193 [(0, .ref (ad G 11 (0))), (1, .int (x1)), (2, .int (x2)), (3, .int (x3)), (4, .int (x4)), (5, .int (x5)), (6, .int (x6))] [.int (j_32), .ref (ad G 11 (0))] Ω 0 0 by
    refine x_if_ne (tgt := 174) (pc2 := 170) C dX11_claim_167 (by decide) rfl (fun qc_33 => ?_) (fun qc_33 => ?_)
    · refine x_iload (pc2 := 176) C dX11_claim_174 9 rfl rfl ?_
      refine x_if_ne (tgt := 183) (pc2 := 179) C dX11_claim_176 (by decide) rfl (fun qc_34 => ?_) (fun qc_34 => ?_)
      · refine x_iload (pc2 := 185) C dX11_claim_183 0 rfl rfl ?_
        refine x_if_eq (tgt := 192) (pc2 := 188) C dX11_claim_185 (by decide) rfl (fun qc_35 => ?_) (fun qc_35 => ?_)
        · refine x_iconst (pc2 := 193) (v := 0) C dX11_claim_192 rfl rfl ?_
          rw [if_neg qc_33, if_neg qc_34, if_pos qc_35] at hq_32
          subst hq_32
          exact x_sub (lv2 := [(0, _), (1, _), (2, _), (3, _), (4, _), (5, _), (6, _)]) C [1, 2, 3, 4, 5, 6, 7] rfl hj_32
        · refine x_iconst (pc2 := 189) (v := 3) C dX11_claim_188 rfl rfl ?_
          refine x_goto (tgt := 193) C dX11_claim_189 (by decide) ?_
          rw [if_neg qc_33, if_neg qc_34, if_neg qc_35] at hq_32
          subst hq_32
          exact x_sub (lv2 := [(0, _), (1, _), (2, _), (3, _), (4, _), (5, _), (6, _)]) C [1, 2, 3, 4, 5, 6, 7] rfl hj_32
      · refine x_iconst (pc2 := 180) (v := 2) C dX11_claim_179 rfl rfl ?_
        refine x_goto (tgt := 193) C dX11_claim_180 (by decide) ?_
        rw [if_neg qc_33, if_pos qc_34] at hq_32
        subst hq_32
        exact x_sub (lv2 := [(0, _), (1, _), (2, _), (3, _), (4, _), (5, _), (6, _)]) C [1, 2, 3, 4, 5, 6, 7] rfl hj_32
    · refine x_iconst (pc2 := 171) (v := 1) C dX11_claim_170 rfl rfl ?_
      refine x_goto (tgt := 193) C dX11_claim_171 (by decide) ?_
      rw [if_pos qc_33] at hq_32
      subst hq_32
      exact x_sub (lv2 := [(0, _), (1, _), (2, _), (3, _), (4, _), (5, _), (6, _)]) C [1, 2, 3, 4, 5, 6, 7] rfl hj_32
  rcases opt_em (fX11_holds Ω j_32) with hq_36 | ⟨r_36, hq_36⟩
  · exact absurd hf (by rw [fX11_claim, ob_s hq_1, ob_s hq_2, wl_eq hq_8, ob_s hq_10, ob_s hq_11, ob_s hq_23, wl_eq hq_32, ob_n hq_36]; exact nofun)
  refine x_ret (rest := []) (st2 := [_]) (pc2 := 196) (cu2 := 0) (su2 := 0) (x_cV C (by assumption) (Nat.le_of_ble_eq_true rfl) kmX11_holds rfl kk_11_214 (tX11_holds hok (by assumption)  hq_36) rfl rfl (Nat.le_of_ble_eq_true rfl) ⟨Nat.le_of_ble_eq_true rfl, Nat.le_of_ble_eq_true rfl⟩ ⟨Nat.le_of_ble_eq_true rfl, Nat.le_of_ble_eq_true rfl⟩ dX11_claim_193) rfl rfl rfl rfl ?_
  refine x_if_eq (tgt := 201) (pc2 := 199) C dX11_claim_196 (by decide) rfl (fun qc_37 => ?_) (fun qc_37 => ?_)
  · refine x_aload_n (pc2 := 202) C dX11_claim_201 0 rfl rfl rfl ?_
    refine x_iload_n (pc2 := 203) C dX11_claim_202 1 rfl rfl rfl ?_
    refine x_iload_n (pc2 := 204) C dX11_claim_203 2 rfl rfl rfl ?_
    refine x_iload_n (pc2 := 205) C dX11_claim_204 3 rfl rfl rfl ?_
    refine x_bipush (pc2 := 207) (v := 24) C dX11_claim_205 rfl rfl ?_
    refine x_iconst (pc2 := 208) (v := 0) C dX11_claim_207 rfl rfl ?_
    refine x_iload (pc2 := 210) C dX11_claim_208 4 rfl rfl ?_
    refine x_bipush (pc2 := 212) (v := 60) C dX11_claim_210 rfl rfl ?_
    refine x_iload (pc2 := 214) C dX11_claim_212 5 rfl rfl ?_
    refine x_iload (pc2 := 216) C dX11_claim_214 6 rfl rfl ?_
    rcases opt_em (fX11_enter r_36.2 x1 x2 x3 (24 : Int32) (0 : Int32) x4 (60 : Int32) x5 x6) with hq_38 | ⟨r_38, hq_38⟩
    · exact absurd hf (by rw [fX11_claim, ob_s hq_1, ob_s hq_2, wl_eq hq_8, ob_s hq_10, ob_s hq_11, ob_s hq_23, wl_eq hq_32, ob_s hq_36, if_pos qc_37, ob_n hq_38]; exact nofun)
    refine x_ret (rest := []) (st2 := [_]) (pc2 := 219) (cu2 := 0) (su2 := 0) (x_cV C (by assumption) (Nat.le_of_ble_eq_true rfl) kmX11_enter rfl kk_11_229 (tX11_enter hok (by assumption)  hq_38) rfl rfl (Nat.le_of_ble_eq_true rfl) ⟨Nat.le_of_ble_eq_true rfl, Nat.le_of_ble_eq_true rfl⟩ ⟨Nat.le_of_ble_eq_true rfl, Nat.le_of_ble_eq_true rfl⟩ dX11_claim_216) rfl rfl rfl rfl ?_
    rw [fX11_claim, ob_s hq_1, ob_s hq_2, wl_eq hq_8, ob_s hq_10, ob_s hq_11, ob_s hq_23, wl_eq hq_32, ob_s hq_36, if_pos qc_37, ob_s hq_38] at hf
    obtain rfl := (Option.some.inj hf).symm
    exact x_ireturn C dX11_claim_219 rfl (Nat.le_of_ble_eq_true rfl) (Nat.le_of_ble_eq_true rfl) rfl rfl
  · refine x_iconst (pc2 := 200) (v := (-1)) C dX11_claim_199 rfl rfl ?_
    rw [fX11_claim, ob_s hq_1, ob_s hq_2, wl_eq hq_8, ob_s hq_10, ob_s hq_11, ob_s hq_23, wl_eq hq_32, ob_s hq_36, if_neg qc_37] at hf
    obtain rfl := (Option.some.inj hf).symm
    exact x_ireturn C dX11_claim_200 rfl (Nat.le_of_ble_eq_true rfl) (Nat.le_of_ble_eq_true rfl) rfl rfl
def fX11_pool (Ω : XO) (x1 : Int32) : Option (Int32 × XO) := (fX11_isChain Ω x1).bind (fun r_1 => (wl ((if r_1 = 0 then (1 : Int32) else (0 : Int32))) (fun (j_2 : Int32) => (fX11_holds Ω j_2).bind (fun r_4 => (((if r_4.1 = 0 then (fX11_size r_4.2 x1).bind (fun r_7 => (some r_7)) else (some (-1 : Int32))) : Option (Int32))).bind (fun j_5 => (some (j_5, r_4.2)))))))
set_option maxRecDepth 20000 in
theorem tX11_pool {G : XG} (hok : XK G) {x1 : Int32} {Ω : XO} (hd0 : dm G 11 0)   {r : Int32 × XO} (hf : fX11_pool Ω x1 = some r) : XM G yX11_pool cX11_pool 2 ((some FieldType.int)) (RM 3 0) [.ref (ad G 11 0), .int x1] Ω (.inl (some (.int (r.1)))) r.2 := by
  refine x_start (lv := [(0, .ref (ad G 11 0)), (1, .int x1)]) (own := RX11) hok (by decide +kernel) rfl (Nat.le_of_ble_eq_true rfl) rfl (fun B C => ?_)
  refine x_aload_n (pc2 := 1) C dX11_pool_0 0 rfl rfl rfl ?_
  refine x_aload_n (pc2 := 2) C dX11_pool_1 0 rfl rfl rfl ?_
  refine x_iload_n (pc2 := 3) C dX11_pool_2 1 rfl rfl rfl ?_
  rcases opt_em (fX11_isChain Ω x1) with hq_1 | ⟨r_1, hq_1⟩
  · exact absurd hf (by rw [fX11_pool, ob_n hq_1]; exact nofun)
  refine x_ret (rest := [_]) (st2 := [_, _]) (pc2 := 6) (cu2 := 0) (su2 := 0) (x_cV C (by assumption) (Nat.le_of_ble_eq_true rfl) kmX11_isChain rfl kk_11_182 (tX11_isChain hok (by assumption)  hq_1) rfl rfl (Nat.le_of_ble_eq_true rfl) ⟨Nat.le_of_ble_eq_true rfl, Nat.le_of_ble_eq_true rfl⟩ ⟨Nat.le_of_ble_eq_true rfl, Nat.le_of_ble_eq_true rfl⟩ dX11_pool_3) rfl rfl rfl rfl ?_
  obtain ⟨j_2, hq_2⟩ : ∃ z : Int32, z = (if r_1 = 0 then (1 : Int32) else (0 : Int32)) := ⟨_, rfl⟩
  suffices hj_2 : XW G B 2 14 [(0, .ref (ad G 11 (0))), (1, .int (x1))] [.int (j_2), .ref (ad G 11 (0))] Ω 0 0 by
    refine x_if_eq (tgt := 13) (pc2 := 9) C dX11_pool_6 (by decide) rfl (fun qc_3 => ?_) (fun qc_3 => ?_)
    · refine x_iconst (pc2 := 14) (v := 1) C dX11_pool_13 rfl rfl ?_
      rw [if_pos qc_3] at hq_2
      subst hq_2
      exact x_sub (lv2 := [(0, _), (1, _)]) C [0, 1] rfl hj_2
    · refine x_iconst (pc2 := 10) (v := 0) C dX11_pool_9 rfl rfl ?_
      refine x_goto (tgt := 14) C dX11_pool_10 (by decide) ?_
      rw [if_neg qc_3] at hq_2
      subst hq_2
      exact x_sub (lv2 := [(0, _), (1, _)]) C [0, 1] rfl hj_2
  rcases opt_em (fX11_holds Ω j_2) with hq_4 | ⟨r_4, hq_4⟩
  · exact absurd hf (by rw [fX11_pool, ob_s hq_1, wl_eq hq_2, ob_n hq_4]; exact nofun)
  refine x_ret (rest := []) (st2 := [_]) (pc2 := 17) (cu2 := 0) (su2 := 0) (x_cV C (by assumption) (Nat.le_of_ble_eq_true rfl) kmX11_holds rfl kk_11_214 (tX11_holds hok (by assumption)  hq_4) rfl rfl (Nat.le_of_ble_eq_true rfl) ⟨Nat.le_of_ble_eq_true rfl, Nat.le_of_ble_eq_true rfl⟩ ⟨Nat.le_of_ble_eq_true rfl, Nat.le_of_ble_eq_true rfl⟩ dX11_pool_14) rfl rfl rfl rfl ?_
  rcases opt_em ((if r_4.1 = 0 then (fX11_size r_4.2 x1).bind (fun r_7 => (some r_7)) else (some (-1 : Int32))) : Option (Int32)) with hq_5 | ⟨j_5, hq_5⟩
  · exact absurd hf (by rw [fX11_pool, ob_s hq_1, wl_eq hq_2, ob_s hq_4, ob_n hq_5]; exact nofun)
  suffices hj_5 : XW G B 2 29 [] [.int (j_5)] r_4.2 0 0 by
    refine x_if_eq (tgt := 24) (pc2 := 20) C dX11_pool_17 (by decide) rfl (fun qc_6 => ?_) (fun qc_6 => ?_)
    · refine x_aload_n (pc2 := 25) C dX11_pool_24 0 rfl rfl rfl ?_
      refine x_iload_n (pc2 := 26) C dX11_pool_25 1 rfl rfl rfl ?_
      rcases opt_em (fX11_size r_4.2 x1) with hq_7 | ⟨r_7, hq_7⟩
      · exact absurd hq_5 (by rw [if_pos qc_6, ob_n hq_7]; exact nofun)
      refine x_ret (rest := []) (st2 := [_]) (pc2 := 29) (cu2 := 0) (su2 := 0) (x_cV C (by assumption) (Nat.le_of_ble_eq_true rfl) kmX11_size rfl kk_11_226 (tX11_size hok (by assumption)  hq_7) rfl rfl (Nat.le_of_ble_eq_true rfl) ⟨Nat.le_of_ble_eq_true rfl, Nat.le_of_ble_eq_true rfl⟩ ⟨Nat.le_of_ble_eq_true rfl, Nat.le_of_ble_eq_true rfl⟩ dX11_pool_26) rfl rfl rfl rfl ?_
      rw [if_pos qc_6, ob_s hq_7] at hq_5
      obtain rfl := (Option.some.inj hq_5).symm
      exact x_sub (lv2 := []) C [] rfl hj_5
    · refine x_iconst (pc2 := 21) (v := (-1)) C dX11_pool_20 rfl rfl ?_
      refine x_goto (tgt := 29) C dX11_pool_21 (by decide) ?_
      rw [if_neg qc_6] at hq_5
      obtain rfl := (Option.some.inj hq_5).symm
      exact x_sub (lv2 := []) C [] rfl hj_5
  rw [fX11_pool, ob_s hq_1, wl_eq hq_2, ob_s hq_4, ob_s hq_5] at hf
  obtain rfl := (Option.some.inj hf).symm
  exact x_ireturn C dX11_pool_29 rfl (Nat.le_of_ble_eq_true rfl) (Nat.le_of_ble_eq_true rfl) rfl rfl
def fX11_make_l270 (y1 : Int32) (y7 : Int32) : Nat → Int32 → XO → Option (Int32 × XO)
  | 0, _, _ => none
  | n + 1, y10, Ω => (if y10 < 0 then (some (y10, Ω)) else (if inB (xI Ω 1158 0 0) 48 then (fX11_runs Ω y1 y10 (xI Ω 2124 0 (xI Ω 1158 0 0).toNatClampNeg)).bind (fun r_4 => (fX11_pick r_4 y1 y7).bind (fun r_5 => fX11_make_l270 y1 y7 n r_5 r_4)) else none))
set_option maxRecDepth 20000 in
theorem lX11_make_l270 {G : XG} (hok : XK G) {B : XB} {y1 : Int32} {y7 : Int32}  (hf0 : dm G 11 0)   {T : Option Value ⊕ String} {Ω9 : XO} (C : XC G B cX11_make RX11 (RM 8 0) 12 ((some FieldType.int)) T Ω9) : ∀ (n : Nat) (y10 : Int32) (Ω : XO) {r : (Int32 × XO)}, fX11_make_l270 y1 y7 n y10 Ω = some r → (∀ q, r = q → (XW G B 12 303 [(0, .ref (ad G 11 (0))), (1, .int (y1)), (7, .int (y7))] [] q.2 0 0)) → XW G B 12 270 [(10, .int (y10)), (0, .ref (ad G 11 (0))), (1, .int (y1)), (7, .int (y7))] [] Ω 0 0 := by
  intro n
  induction n with
  | zero => intro y10 Ω r hf; exact absurd hf (by rw [fX11_make_l270]; exact nofun)
  | succ n ih =>
    intro y10 Ω r hf hk
    refine x_iload (pc2 := 272) C dX11_make_270 0 rfl rfl ?_
    refine x_if_lt (tgt := 303) (pc2 := 275) C dX11_make_272 (by decide) rfl (fun qc_1 => ?_) (fun qc_1 => ?_)
    · rw [fX11_make_l270, if_pos qc_1] at hf
      exact x_sub (lv2 := [(0, _), (1, _), (7, _)]) C [1, 2, 3] rfl (hk _ (Option.some.inj hf).symm)
    · refine x_aload_n (pc2 := 276) C dX11_make_275 1 rfl rfl rfl ?_
      refine x_iload_n (pc2 := 277) C dX11_make_276 2 rfl rfl rfl ?_
      refine x_iload (pc2 := 279) C dX11_make_277 0 rfl rfl ?_
      refine x_aload_n (pc2 := 280) C dX11_make_279 1 rfl rfl rfl ?_
      refine x_getR (f := 1124) (k2 := 2124) (pc2 := 283) C (by assumption) kf_11_80 dX11_make_280 rfl rfl rfl (rti_i rfl) rfl (fun qd_2 => ?_)
      refine x_aload_n (pc2 := 284) C dX11_make_283 1 rfl rfl rfl ?_
      refine x_getI (pc2 := 287) (f := 1158) C (by assumption) kf_11_246 dX11_make_284 rfl rfl rfl ?_
      rcases (Decidable.em (inB (xI Ω 1158 0 0) 48)).symm with qg_3 | qg_3
      · exact absurd hf (by rw [fX11_make_l270, if_neg qc_1, if_neg qg_3]; exact nofun)
      refine x_iald (pc2 := 288) C (by assumption) dX11_make_287 rfl (inB_in qg_3) rfl ?_
      rcases opt_em (fX11_runs Ω y1 y10 (xI Ω 2124 0 (xI Ω 1158 0 0).toNatClampNeg)) with hq_4 | ⟨r_4, hq_4⟩
      · exact absurd hf (by rw [fX11_make_l270, if_neg qc_1, if_pos qg_3, ob_n hq_4]; exact nofun)
      refine x_ret (rest := []) (st2 := []) (pc2 := 291) (cu2 := 0) (su2 := 0) (x_cV C (by assumption) (Nat.le_of_ble_eq_true rfl) kmX11_runs rfl kk_11_358 (tX11_runs hok (by assumption)  hq_4) rfl rfl (Nat.le_of_ble_eq_true rfl) ⟨Nat.le_of_ble_eq_true rfl, Nat.le_of_ble_eq_true rfl⟩ ⟨Nat.le_of_ble_eq_true rfl, Nat.le_of_ble_eq_true rfl⟩ dX11_make_288) rfl rfl rfl rfl ?_
      refine x_aload_n (pc2 := 292) C dX11_make_291 1 rfl rfl rfl ?_
      refine x_iload_n (pc2 := 293) C dX11_make_292 2 rfl rfl rfl ?_
      refine x_iload (pc2 := 295) C dX11_make_293 3 rfl rfl ?_
      rcases opt_em (fX11_pick r_4 y1 y7) with hq_5 | ⟨r_5, hq_5⟩
      · exact absurd hf (by rw [fX11_make_l270, if_neg qc_1, if_pos qg_3, ob_s hq_4, ob_n hq_5]; exact nofun)
      refine x_ret (rest := []) (st2 := [_]) (pc2 := 298) (cu2 := 0) (su2 := 0) (x_cV C (by assumption) (Nat.le_of_ble_eq_true rfl) kmX11_pick rfl kk_11_355 (tX11_pick hok (by assumption)  hq_5) rfl rfl (Nat.le_of_ble_eq_true rfl) ⟨Nat.le_of_ble_eq_true rfl, Nat.le_of_ble_eq_true rfl⟩ ⟨Nat.le_of_ble_eq_true rfl, Nat.le_of_ble_eq_true rfl⟩ dX11_make_295) rfl rfl rfl rfl ?_
      refine x_istore (pc2 := 300) (lv2 := [(10, _), (0, _), (1, _), (7, _)]) C dX11_make_298 (by decide) rfl rfl ?_
      refine x_goto (tgt := 270) C dX11_make_300 (by decide) ?_
      exact x_sub (lv2 := [(10, _), (0, _), (1, _), (7, _)]) C [0, 1, 2, 3] rfl (ih r_5 r_4 (by rw [fX11_make_l270, if_neg qc_1, if_pos qg_3, ob_s hq_4, ob_s hq_5] at hf; exact hf) hk)
def fX11_make_l306 (y1 : Int32) (y7 : Int32) : Nat → Int32 → XO → Option (Int32 × XO)
  | 0, _, _ => none
  | n + 1, y10, Ω => (if (120 : Int32) ≤ y10 then (some (y10, Ω)) else (if inB y10 120 then (if inB (((120 : Int32) * (xI Ω 1158 0 0)) + y10) 5760 then (wl (uI Ω 2100 0 (((120 : Int32) * (xI Ω 1158 0 0)) + y10).toNatClampNeg (xI Ω 2101 0 y10.toNatClampNeg)) (fun Ω_6 => fX11_make_l306 y1 y7 n (y10 + 1) Ω_6)) else none) else none))
set_option maxRecDepth 20000 in
theorem lX11_make_l306 {G : XG} (hok : XK G) {B : XB} {y1 : Int32} {y7 : Int32}  (hf0 : dm G 11 0)   {T : Option Value ⊕ String} {Ω9 : XO} (C : XC G B cX11_make RX11 (RM 8 0) 12 ((some FieldType.int)) T Ω9) : ∀ (n : Nat) (y10 : Int32) (Ω : XO) {r : (Int32 × XO)}, fX11_make_l306 y1 y7 n y10 Ω = some r → (∀ q, r = q → (XW G B 12 341 [(0, .ref (ad G 11 (0))), (1, .int (y1)), (7, .int (y7))] [] q.2 0 0)) → XW G B 12 306 [(10, .int (y10)), (0, .ref (ad G 11 (0))), (1, .int (y1)), (7, .int (y7))] [] Ω 0 0 := by
  intro n
  induction n with
  | zero => intro y10 Ω r hf; exact absurd hf (by rw [fX11_make_l306]; exact nofun)
  | succ n ih =>
    intro y10 Ω r hf hk
    refine x_iload (pc2 := 308) C dX11_make_306 0 rfl rfl ?_
    refine x_bipush (pc2 := 310) (v := 120) C dX11_make_308 rfl rfl ?_
    refine x_icmp_ge (tgt := 341) (pc2 := 313) C dX11_make_310 (by decide) rfl (fun qc_1 => ?_) (fun qc_1 => ?_)
    · rw [fX11_make_l306, if_pos qc_1] at hf
      exact x_sub (lv2 := [(0, _), (1, _), (7, _)]) C [1, 2, 3] rfl (hk _ (Option.some.inj hf).symm)
    · refine x_aload_n (pc2 := 314) C dX11_make_313 1 rfl rfl rfl ?_
      refine x_getR (f := 1100) (k2 := 2100) (pc2 := 317) C (by assumption) kf_11_7 dX11_make_314 rfl rfl rfl (rti_i rfl) rfl (fun qd_2 => ?_)
      refine x_bipush (pc2 := 319) (v := 120) C dX11_make_317 rfl rfl ?_
      refine x_aload_n (pc2 := 320) C dX11_make_319 1 rfl rfl rfl ?_
      refine x_getI (pc2 := 323) (f := 1158) C (by assumption) kf_11_246 dX11_make_320 rfl rfl rfl ?_
      refine x_imul (pc2 := 324) C dX11_make_323 rfl ?_
      refine x_iload (pc2 := 326) C dX11_make_324 0 rfl rfl ?_
      refine x_iadd (pc2 := 327) C dX11_make_326 rfl ?_
      refine x_aload_n (pc2 := 328) C dX11_make_327 1 rfl rfl rfl ?_
      refine x_getR (f := 1101) (k2 := 2101) (pc2 := 331) C (by assumption) kf_11_13 dX11_make_328 rfl rfl rfl (rti_i rfl) rfl (fun qd_3 => ?_)
      refine x_iload (pc2 := 333) C dX11_make_331 0 rfl rfl ?_
      rcases (Decidable.em (inB y10 120)).symm with qg_4 | qg_4
      · exact absurd hf (by rw [fX11_make_l306, if_neg qc_1, if_neg qg_4]; exact nofun)
      refine x_iald (pc2 := 334) C (by assumption) dX11_make_333 rfl (inB_in qg_4) rfl ?_
      rcases (Decidable.em (inB (((120 : Int32) * (xI Ω 1158 0 0)) + y10) 5760)).symm with qg_5 | qg_5
      · exact absurd hf (by rw [fX11_make_l306, if_neg qc_1, if_pos qg_4, if_neg qg_5]; exact nofun)
      refine x_iast (pc2 := 335) C (by assumption) dX11_make_334 rfl (inB_in qg_5) rfl ?_
      obtain ⟨Ω_6, hw_6⟩ : ∃ z, z = uI Ω 2100 0 (((120 : Int32) * (xI Ω 1158 0 0)) + y10).toNatClampNeg (xI Ω 2101 0 y10.toNatClampNeg) := ⟨_, rfl⟩
      refine x_om hw_6 ?_
      refine x_iinc (pc2 := 338) (v := y10 + 1) (lv2 := [(10, _), (0, _), (1, _), (7, _)]) C dX11_make_335 0 rfl rfl (by decide) rfl rfl ?_
      refine x_goto (tgt := 306) C dX11_make_338 (by decide) ?_
      exact x_sub (lv2 := [(10, _), (0, _), (1, _), (7, _)]) C [0, 1, 2, 3] rfl (ih (y10 + 1) Ω_6 (by rw [fX11_make_l306, if_neg qc_1, if_pos qg_4, if_pos qg_5, wl_eq hw_6] at hf; exact hf) hk)
def fX11_make_l364 (y1 : Int32) (y7 : Int32) : Nat → Int32 → XO → Option (Int32 × XO)
  | 0, _, _ => none
  | n + 1, y10, Ω => (if inB (xI Ω 1158 0 0) 48 then (if (xI Ω 2130 0 (xI Ω 1158 0 0).toNatClampNeg) ≤ y10 then (some (y10, Ω)) else (if inB (((40 : Int32) * (xI Ω 1158 0 0)) + y10) 1920 then (if inB (xI Ω 1158 0 0) 48 then (if inB (xI Ω 1158 0 0) 48 then (wl (uI Ω 2128 0 (xI Ω 1158 0 0).toNatClampNeg ((xI Ω 2128 0 (xI Ω 1158 0 0).toNatClampNeg) ||| (((1 : Int32) <<< ((((xI Ω 2132 0 (((40 : Int32) * (xI Ω 1158 0 0)) + y10).toNatClampNeg) / (100 : Int32)) - ((xI Ω 2132 0 (((40 : Int32) * (xI Ω 1158 0 0)) + y10).toNatClampNeg) / (100 : Int32)) / (8 : Int32) * (8 : Int32)) &&& 31)) ||| ((256 : Int32) <<< (((((5 : Int32) * ((xI Ω 2132 0 (((40 : Int32) * (xI Ω 1158 0 0)) + y10).toNatClampNeg) / (100 : Int32))) + (3 : Int32)) - (((5 : Int32) * ((xI Ω 2132 0 (((40 : Int32) * (xI Ω 1158 0 0)) + y10).toNatClampNeg) / (100 : Int32))) + (3 : Int32)) / (8 : Int32) * (8 : Int32)) &&& 31))))) (fun Ω_9 => fX11_make_l364 y1 y7 n (y10 + 1) Ω_9)) else none) else none) else none)) else none)
set_option maxRecDepth 20000 in
theorem lX11_make_l364 {G : XG} (hok : XK G) {B : XB} {y1 : Int32} {y7 : Int32}  (hf0 : dm G 11 0)   {T : Option Value ⊕ String} {Ω9 : XO} (C : XC G B cX11_make RX11 (RM 8 0) 12 ((some FieldType.int)) T Ω9) : ∀ (n : Nat) (y10 : Int32) (Ω : XO) {r : (Int32 × XO)}, fX11_make_l364 y1 y7 n y10 Ω = some r → (∀ q, r = q → (XW G B 12 437 [(0, .ref (ad G 11 (0))), (1, .int (y1)), (7, .int (y7))] [] q.2 0 0)) → XW G B 12 364 [(10, .int (y10)), (0, .ref (ad G 11 (0))), (1, .int (y1)), (7, .int (y7))] [] Ω 0 0 := by
  intro n
  induction n with
  | zero => intro y10 Ω r hf; exact absurd hf (by rw [fX11_make_l364]; exact nofun)
  | succ n ih =>
    intro y10 Ω r hf hk
    refine x_iload (pc2 := 366) C dX11_make_364 0 rfl rfl ?_
    refine x_aload_n (pc2 := 367) C dX11_make_366 1 rfl rfl rfl ?_
    refine x_getR (f := 1130) (k2 := 2130) (pc2 := 370) C (by assumption) kf_11_98 dX11_make_367 rfl rfl rfl (rti_i rfl) rfl (fun qd_1 => ?_)
    refine x_aload_n (pc2 := 371) C dX11_make_370 1 rfl rfl rfl ?_
    refine x_getI (pc2 := 374) (f := 1158) C (by assumption) kf_11_246 dX11_make_371 rfl rfl rfl ?_
    rcases (Decidable.em (inB (xI Ω 1158 0 0) 48)).symm with qg_2 | qg_2
    · exact absurd hf (by rw [fX11_make_l364, if_neg qg_2]; exact nofun)
    refine x_iald (pc2 := 375) C (by assumption) dX11_make_374 rfl (inB_in qg_2) rfl ?_
    refine x_icmp_ge (tgt := 437) (pc2 := 378) C dX11_make_375 (by decide) rfl (fun qc_3 => ?_) (fun qc_3 => ?_)
    · rw [fX11_make_l364, if_pos qg_2, if_pos qc_3] at hf
      exact x_sub (lv2 := [(0, _), (1, _), (7, _)]) C [1, 2, 3] rfl (hk _ (Option.some.inj hf).symm)
    · refine x_aload_n (pc2 := 379) C dX11_make_378 1 rfl rfl rfl ?_
      refine x_getR (f := 1132) (k2 := 2132) (pc2 := 382) C (by assumption) kf_11_104 dX11_make_379 rfl rfl rfl (rti_i rfl) rfl (fun qd_4 => ?_)
      refine x_bipush (pc2 := 384) (v := 40) C dX11_make_382 rfl rfl ?_
      refine x_aload_n (pc2 := 385) C dX11_make_384 1 rfl rfl rfl ?_
      refine x_getI (pc2 := 388) (f := 1158) C (by assumption) kf_11_246 dX11_make_385 rfl rfl rfl ?_
      refine x_imul (pc2 := 389) C dX11_make_388 rfl ?_
      refine x_iload (pc2 := 391) C dX11_make_389 0 rfl rfl ?_
      refine x_iadd (pc2 := 392) C dX11_make_391 rfl ?_
      rcases (Decidable.em (inB (((40 : Int32) * (xI Ω 1158 0 0)) + y10) 1920)).symm with qg_5 | qg_5
      · exact absurd hf (by rw [fX11_make_l364, if_pos qg_2, if_neg qc_3, if_neg qg_5]; exact nofun)
      refine x_iald (pc2 := 393) C (by assumption) dX11_make_392 rfl (inB_in qg_5) rfl ?_
      refine x_bipush (pc2 := 395) (v := 100) C dX11_make_393 rfl rfl ?_
      refine x_idiv (pc2 := 396) C dX11_make_395 (by decide +kernel) rfl ?_
      refine x_istore (pc2 := 398) (lv2 := [(11, _), (10, _), (0, _), (1, _), (7, _)]) C dX11_make_396 (by decide) rfl rfl ?_
      refine x_aload_n (pc2 := 399) C dX11_make_398 2 rfl rfl rfl ?_
      refine x_getR (f := 1128) (k2 := 2128) (pc2 := 402) C (by assumption) kf_11_92 dX11_make_399 rfl rfl rfl (rti_i rfl) rfl (fun qd_6 => ?_)
      refine x_aload_n (pc2 := 403) C dX11_make_402 2 rfl rfl rfl ?_
      refine x_getI (pc2 := 406) (f := 1158) C (by assumption) kf_11_246 dX11_make_403 rfl rfl rfl ?_
      refine x_dup2 (pc2 := 407) C dX11_make_406 rfl rfl rfl ?_
      rcases (Decidable.em (inB (xI Ω 1158 0 0) 48)).symm with qg_7 | qg_7
      · exact absurd hf (by rw [fX11_make_l364, if_pos qg_2, if_neg qc_3, if_pos qg_5, if_neg qg_7]; exact nofun)
      refine x_iald (pc2 := 408) C (by assumption) dX11_make_407 rfl (inB_in qg_7) rfl ?_
      refine x_iconst (pc2 := 409) (v := 1) C dX11_make_408 rfl rfl ?_
      refine x_iload (pc2 := 411) C dX11_make_409 0 rfl rfl ?_
      refine x_bipush (pc2 := 413) (v := 8) C dX11_make_411 rfl rfl ?_
      refine x_irem (pc2 := 414) C dX11_make_413 (by decide +kernel) rfl ?_
      refine x_ishl (pc2 := 415) C dX11_make_414 rfl ?_
      refine x_sipush (pc2 := 418) (v := 256) C dX11_make_415 rfl rfl ?_
      refine x_iconst (pc2 := 419) (v := 5) C dX11_make_418 rfl rfl ?_
      refine x_iload (pc2 := 421) C dX11_make_419 0 rfl rfl ?_
      refine x_imul (pc2 := 422) C dX11_make_421 rfl ?_
      refine x_iconst (pc2 := 423) (v := 3) C dX11_make_422 rfl rfl ?_
      refine x_iadd (pc2 := 424) C dX11_make_423 rfl ?_
      refine x_bipush (pc2 := 426) (v := 8) C dX11_make_424 rfl rfl ?_
      refine x_irem (pc2 := 427) C dX11_make_426 (by decide +kernel) rfl ?_
      refine x_ishl (pc2 := 428) C dX11_make_427 rfl ?_
      refine x_ior (pc2 := 429) C dX11_make_428 rfl ?_
      refine x_ior (pc2 := 430) C dX11_make_429 rfl ?_
      rcases (Decidable.em (inB (xI Ω 1158 0 0) 48)).symm with qg_8 | qg_8
      · exact absurd hf (by rw [fX11_make_l364, if_pos qg_2, if_neg qc_3, if_pos qg_5, if_pos qg_7, if_neg qg_8]; exact nofun)
      refine x_iast (pc2 := 431) C (by assumption) dX11_make_430 rfl (inB_in qg_8) rfl ?_
      obtain ⟨Ω_9, hw_9⟩ : ∃ z, z = uI Ω 2128 0 (xI Ω 1158 0 0).toNatClampNeg ((xI Ω 2128 0 (xI Ω 1158 0 0).toNatClampNeg) ||| (((1 : Int32) <<< ((((xI Ω 2132 0 (((40 : Int32) * (xI Ω 1158 0 0)) + y10).toNatClampNeg) / (100 : Int32)) - ((xI Ω 2132 0 (((40 : Int32) * (xI Ω 1158 0 0)) + y10).toNatClampNeg) / (100 : Int32)) / (8 : Int32) * (8 : Int32)) &&& 31)) ||| ((256 : Int32) <<< (((((5 : Int32) * ((xI Ω 2132 0 (((40 : Int32) * (xI Ω 1158 0 0)) + y10).toNatClampNeg) / (100 : Int32))) + (3 : Int32)) - (((5 : Int32) * ((xI Ω 2132 0 (((40 : Int32) * (xI Ω 1158 0 0)) + y10).toNatClampNeg) / (100 : Int32))) + (3 : Int32)) / (8 : Int32) * (8 : Int32)) &&& 31)))) := ⟨_, rfl⟩
      refine x_om hw_9 ?_
      refine x_iinc (pc2 := 434) (v := y10 + 1) (lv2 := [(10, _), (11, _), (0, _), (1, _), (7, _)]) C dX11_make_431 1 rfl rfl (by decide) rfl rfl ?_
      refine x_goto (tgt := 364) C dX11_make_434 (by decide) ?_
      exact x_sub (lv2 := [(10, _), (0, _), (1, _), (7, _)]) C [0, 2, 3, 4] rfl (ih (y10 + 1) Ω_9 (by rw [fX11_make_l364, if_pos qg_2, if_neg qc_3, if_pos qg_5, if_pos qg_7, if_pos qg_8, wl_eq hw_9] at hf; exact hf) hk)
def fX11_make (Ω : XO) (x1 : Int32) (x2 : Int32) (x3 : Int32) (x4 : Int32) : Option (Int32 × XO) := (fX11_isBlock Ω x1 x2).bind (fun r_1 => (((if r_1 = 0 then (some (0 : Int32)) else (fX11_in Ω x3 (0 : Int32) (5 : Int32)).bind (fun r_4 => (if r_4 = 0 then (some (0 : Int32)) else (some (1 : Int32))))) : Option (Int32))).bind (fun j_2 => (((if j_2 = 0 then (some (0 : Int32)) else (if inB x1 2 then (if (xI Ω 2109 0 x1.toNatClampNeg) = (24 : Int32) then (some (1 : Int32)) else (if inB (((24 : Int32) * x1) + x2) 48 then (if (xI Ω 2126 0 (((24 : Int32) * x1) + x2).toNatClampNeg) = (1 : Int32) then (some (1 : Int32)) else (some (0 : Int32))) else none)) else none)) : Option (Int32))).bind (fun j_6 => (((if j_2 = 0 then (some (1 : Int32)) else (fX11_in Ω x4 (1 : Int32) (9 : Int32)).bind (fun r_16 => (if r_16 = 0 then (some (2 : Int32)) else (if j_6 = 0 then (some (0 : Int32)) else (some (3 : Int32)))))) : Option (Int32))).bind (fun j_14 => (fX11_holds Ω j_14).bind (fun r_19 => (if r_19.1 = 0 then (if inB x1 2 then (wl (uI r_19.2 1157 0 0 x1) (fun Ω_23 => (wl (uI Ω_23 1158 0 0 (((24 : Int32) * x1) + (xI r_19.2 2109 0 x1.toNatClampNeg))) (fun Ω_24 => (if inB (xI Ω_24 1158 0 0) 48 then (wl (uI Ω_24 2120 0 (xI Ω_24 1158 0 0).toNatClampNeg x2) (fun Ω_27 => (if inB (((24 : Int32) * x1) + x2) 48 then (if inB (xI Ω_27 1158 0 0) 48 then (wl (uI Ω_27 2121 0 (xI Ω_27 1158 0 0).toNatClampNeg ((xI Ω_27 2121 0 (((24 : Int32) * x1) + x2).toNatClampNeg) + (1 : Int32))) (fun Ω_32 => (if inB (xI Ω_32 1158 0 0) 48 then (wl (uI Ω_32 2122 0 (xI Ω_32 1158 0 0).toNatClampNeg x3) (fun Ω_35 => (if inB (((24 : Int32) * x1) + x2) 48 then (if inB (xI Ω_35 1158 0 0) 48 then (wl (uL Ω_35 2123 0 (xI Ω_35 1158 0 0).toNatClampNeg ((xL Ω_35 2123 0 (((24 : Int32) * x1) + x2).toNatClampNeg) + x4.toInt64)) (fun Ω_40 => (if inB (((24 : Int32) * x1) + x2) 48 then (if inB (((24 : Int32) * x1) + x2) 48 then (if inB (((24 : Int32) * x1) + x2) 48 then (wl ((if (1 : Int32) ≤ ((xI Ω_40 2124 0 (((24 : Int32) * x1) + x2).toNatClampNeg) + (((xI Ω_40 2124 0 (((24 : Int32) * x1) + x2).toNatClampNeg) * ((xI Ω_40 2125 0 (((24 : Int32) * x1) + x2).toNatClampNeg) - (300 : Int32))) / (2400 : Int32))) then (xI Ω_40 2124 0 (((24 : Int32) * x1) + x2).toNatClampNeg) + (((xI Ω_40 2124 0 (((24 : Int32) * x1) + x2).toNatClampNeg) * ((xI Ω_40 2125 0 (((24 : Int32) * x1) + x2).toNatClampNeg) - (300 : Int32))) / (2400 : Int32)) else (1 : Int32))) (fun (j_48 : Int32) => (if inB (xI Ω_40 1158 0 0) 48 then (wl (uI Ω_40 2124 0 (xI Ω_40 1158 0 0).toNatClampNeg j_48) (fun Ω_51 => (fX11_copyIn Ω_51 ((120 : Int32) * (((24 : Int32) * x1) + x2))).bind (fun r_52 => (fX11_pick r_52 x1 (xI r_19.2 2109 0 x1.toNatClampNeg)).bind (fun r_53 => (fX11_make_l270 x1 (xI r_19.2 2109 0 x1.toNatClampNeg) 42 r_53 r_52).bind (fun q_54 => (fX11_make_l306 x1 (xI r_19.2 2109 0 x1.toNatClampNeg) 121 (0 : Int32) q_54.2).bind (fun q_55 => (fX11_rootOf q_55.2 ((120 : Int32) * (xI q_55.2 1158 0 0))).bind (fun r_57 => (if inB (xI q_55.2 1158 0 0) 48 then (wl (uI r_57.2 2127 0 (xI q_55.2 1158 0 0).toNatClampNeg r_57.1) (fun Ω_59 => (fX11_make_l364 x1 (xI r_19.2 2109 0 x1.toNatClampNeg) ((xI Ω_59 2130 0 (xI Ω_59 1158 0 0).toNatClampNeg).toNatClampNeg + 1) (0 : Int32) Ω_59).bind (fun q_60 => (if inB x1 2 then (if inB x1 2 then (wl (uI q_60.2 2109 0 x1.toNatClampNeg ((xI q_60.2 2109 0 x1.toNatClampNeg) + (1 : Int32))) (fun Ω_64 => (some (xI r_19.2 2109 0 x1.toNatClampNeg, Ω_64)))) else none) else none)))) else none)))))))) else none))) else none) else none) else none))) else none) else none))) else none))) else none) else none))) else none))))) else none) else (some ((-1 : Int32), r_19.2))))))))
set_option maxRecDepth 20000 in
theorem tX11_make {G : XG} (hok : XK G) {x1 : Int32} {x2 : Int32} {x3 : Int32} {x4 : Int32} {Ω : XO} (hd0 : dm G 11 0)   {r : Int32 × XO} (hf : fX11_make Ω x1 x2 x3 x4 = some r) : XM G yX11_make cX11_make 12 ((some FieldType.int)) (RM 8 0) [.ref (ad G 11 0), .int x1, .int x2, .int x3, .int x4] Ω (.inl (some (.int (r.1)))) r.2 := by
  refine x_start (lv := [(0, .ref (ad G 11 0)), (1, .int x1), (2, .int x2), (3, .int x3), (4, .int x4)]) (own := RX11) hok (by decide +kernel) rfl (Nat.le_of_ble_eq_true rfl) rfl (fun B C => ?_)
  refine x_aload_n (pc2 := 1) C dX11_make_0 0 rfl rfl rfl ?_
  refine x_iload_n (pc2 := 2) C dX11_make_1 1 rfl rfl rfl ?_
  refine x_iload_n (pc2 := 3) C dX11_make_2 2 rfl rfl rfl ?_
  rcases opt_em (fX11_isBlock Ω x1 x2) with hq_1 | ⟨r_1, hq_1⟩
  · exact absurd hf (by rw [fX11_make, ob_n hq_1]; exact nofun)
  refine x_ret (rest := []) (st2 := [_]) (pc2 := 6) (cu2 := 0) (su2 := 0) (x_cV C (by assumption) (Nat.le_of_ble_eq_true rfl) kmX11_isBlock rfl kk_11_349 (tX11_isBlock hok (by assumption)  hq_1) rfl rfl (Nat.le_of_ble_eq_true rfl) ⟨Nat.le_of_ble_eq_true rfl, Nat.le_of_ble_eq_true rfl⟩ ⟨Nat.le_of_ble_eq_true rfl, Nat.le_of_ble_eq_true rfl⟩ dX11_make_3) rfl rfl rfl rfl ?_
  rcases opt_em ((if r_1 = 0 then (some (0 : Int32)) else (fX11_in Ω x3 (0 : Int32) (5 : Int32)).bind (fun r_4 => (if r_4 = 0 then (some (0 : Int32)) else (some (1 : Int32))))) : Option (Int32)) with hq_2 | ⟨j_2, hq_2⟩
  · exact absurd hf (by rw [fX11_make, ob_s hq_1, ob_n hq_2]; exact nofun)
  suffices hj_2 : XW G B 12 24 [(0, .ref (ad G 11 (0))), (1, .int (x1)), (2, .int (x2)), (3, .int (x3)), (4, .int (x4))] [.int (j_2)] Ω 0 0 by
    refine x_if_eq (tgt := 23) (pc2 := 9) C dX11_make_6 (by decide) rfl (fun qc_3 => ?_) (fun qc_3 => ?_)
    · refine x_iconst (pc2 := 24) (v := 0) C dX11_make_23 rfl rfl ?_
      rw [if_pos qc_3] at hq_2
      obtain rfl := (Option.some.inj hq_2).symm
      exact x_sub (lv2 := [(0, _), (1, _), (2, _), (3, _), (4, _)]) C [0, 1, 2, 3, 4] rfl hj_2
    · refine x_aload_n (pc2 := 10) C dX11_make_9 0 rfl rfl rfl ?_
      refine x_iload_n (pc2 := 11) C dX11_make_10 3 rfl rfl rfl ?_
      refine x_iconst (pc2 := 12) (v := 0) C dX11_make_11 rfl rfl ?_
      refine x_iconst (pc2 := 13) (v := 5) C dX11_make_12 rfl rfl ?_
      rcases opt_em (fX11_in Ω x3 (0 : Int32) (5 : Int32)) with hq_4 | ⟨r_4, hq_4⟩
      · exact absurd hq_2 (by rw [if_neg qc_3, ob_n hq_4]; exact nofun)
      refine x_ret (rest := []) (st2 := [_]) (pc2 := 16) (cu2 := 0) (su2 := 0) (x_cV C (by assumption) (Nat.le_of_ble_eq_true rfl) kmX11_in rfl kk_11_178 (tX11_in hok (by assumption)  hq_4) rfl rfl (Nat.le_of_ble_eq_true rfl) ⟨Nat.le_of_ble_eq_true rfl, Nat.le_of_ble_eq_true rfl⟩ ⟨Nat.le_of_ble_eq_true rfl, Nat.le_of_ble_eq_true rfl⟩ dX11_make_13) rfl rfl rfl rfl ?_
      refine x_if_eq (tgt := 23) (pc2 := 19) C dX11_make_16 (by decide) rfl (fun qc_5 => ?_) (fun qc_5 => ?_)
      · refine x_iconst (pc2 := 24) (v := 0) C dX11_make_23 rfl rfl ?_
        rw [if_neg qc_3, ob_s hq_4, if_pos qc_5] at hq_2
        obtain rfl := (Option.some.inj hq_2).symm
        exact x_sub (lv2 := [(0, _), (1, _), (2, _), (3, _), (4, _)]) C [0, 1, 2, 3, 4] rfl hj_2
      · refine x_iconst (pc2 := 20) (v := 1) C dX11_make_19 rfl rfl ?_
        refine x_goto (tgt := 24) C dX11_make_20 (by decide) ?_
        rw [if_neg qc_3, ob_s hq_4, if_neg qc_5] at hq_2
        obtain rfl := (Option.some.inj hq_2).symm
        exact x_sub (lv2 := [(0, _), (1, _), (2, _), (3, _), (4, _)]) C [0, 1, 2, 3, 4] rfl hj_2
  refine x_istore (pc2 := 26) (lv2 := [(5, _), (0, _), (1, _), (2, _), (3, _), (4, _)]) C dX11_make_24 (by decide) rfl rfl ?_
  refine x_iload (pc2 := 28) C dX11_make_26 0 rfl rfl ?_
  rcases opt_em ((if j_2 = 0 then (some (0 : Int32)) else (if inB x1 2 then (if (xI Ω 2109 0 x1.toNatClampNeg) = (24 : Int32) then (some (1 : Int32)) else (if inB (((24 : Int32) * x1) + x2) 48 then (if (xI Ω 2126 0 (((24 : Int32) * x1) + x2).toNatClampNeg) = (1 : Int32) then (some (1 : Int32)) else (some (0 : Int32))) else none)) else none)) : Option (Int32)) with hq_6 | ⟨j_6, hq_6⟩
  · exact absurd hf (by rw [fX11_make, ob_s hq_1, ob_s hq_2, ob_n hq_6]; exact nofun)
  suffices hj_6 : XW G B 12 62 [(0, .ref (ad G 11 (0))), (1, .int (x1)), (2, .int (x2)), (3, .int (x3)), (4, .int (x4)), (5, .int (j_2))] [.int (j_6)] Ω 0 0 by
    refine x_if_eq (tgt := 61) (pc2 := 31) C dX11_make_28 (by decide) rfl (fun qc_7 => ?_) (fun qc_7 => ?_)
    · refine x_iconst (pc2 := 62) (v := 0) C dX11_make_61 rfl rfl ?_
      rw [if_pos qc_7] at hq_6
      obtain rfl := (Option.some.inj hq_6).symm
      exact x_sub (lv2 := [(0, _), (1, _), (2, _), (3, _), (4, _), (5, _)]) C [1, 2, 3, 4, 5, 0] rfl hj_6
    · refine x_aload_n (pc2 := 32) C dX11_make_31 1 rfl rfl rfl ?_
      refine x_getR (f := 1109) (k2 := 2109) (pc2 := 35) C (by assumption) kf_11_34 dX11_make_32 rfl rfl rfl (rti_i rfl) rfl (fun qd_8 => ?_)
      refine x_iload_n (pc2 := 36) C dX11_make_35 2 rfl rfl rfl ?_
      rcases (Decidable.em (inB x1 2)).symm with qg_9 | qg_9
      · exact absurd hq_6 (by rw [if_neg qc_7, if_neg qg_9]; exact nofun)
      refine x_iald (pc2 := 37) C (by assumption) dX11_make_36 rfl (inB_in qg_9) rfl ?_
      refine x_bipush (pc2 := 39) (v := 24) C dX11_make_37 rfl rfl ?_
      refine x_icmp_eq (tgt := 57) (pc2 := 42) C dX11_make_39 (by decide) rfl (fun qc_10 => ?_) (fun qc_10 => ?_)
      · refine x_iconst (pc2 := 58) (v := 1) C dX11_make_57 rfl rfl ?_
        refine x_goto (tgt := 62) C dX11_make_58 (by decide) ?_
        rw [if_neg qc_7, if_pos qg_9, if_pos qc_10] at hq_6
        obtain rfl := (Option.some.inj hq_6).symm
        exact x_sub (lv2 := [(0, _), (1, _), (2, _), (3, _), (4, _), (5, _)]) C [1, 2, 3, 4, 5, 0] rfl hj_6
      · refine x_aload_n (pc2 := 43) C dX11_make_42 1 rfl rfl rfl ?_
        refine x_getR (f := 1126) (k2 := 2126) (pc2 := 46) C (by assumption) kf_11_86 dX11_make_43 rfl rfl rfl (rti_i rfl) rfl (fun qd_11 => ?_)
        refine x_bipush (pc2 := 48) (v := 24) C dX11_make_46 rfl rfl ?_
        refine x_iload_n (pc2 := 49) C dX11_make_48 2 rfl rfl rfl ?_
        refine x_imul (pc2 := 50) C dX11_make_49 rfl ?_
        refine x_iload_n (pc2 := 51) C dX11_make_50 3 rfl rfl rfl ?_
        refine x_iadd (pc2 := 52) C dX11_make_51 rfl ?_
        rcases (Decidable.em (inB (((24 : Int32) * x1) + x2) 48)).symm with qg_12 | qg_12
        · exact absurd hq_6 (by rw [if_neg qc_7, if_pos qg_9, if_neg qc_10, if_neg qg_12]; exact nofun)
        refine x_iald (pc2 := 53) C (by assumption) dX11_make_52 rfl (inB_in qg_12) rfl ?_
        refine x_iconst (pc2 := 54) (v := 1) C dX11_make_53 rfl rfl ?_
        refine x_icmp_ne (tgt := 61) (pc2 := 57) C dX11_make_54 (by decide) rfl (fun qc_13 => ?_) (fun qc_13 => ?_)
        · refine x_iconst (pc2 := 62) (v := 0) C dX11_make_61 rfl rfl ?_
          rw [if_neg qc_7, if_pos qg_9, if_neg qc_10, if_pos qg_12, if_neg qc_13] at hq_6
          obtain rfl := (Option.some.inj hq_6).symm
          exact x_sub (lv2 := [(0, _), (1, _), (2, _), (3, _), (4, _), (5, _)]) C [1, 2, 3, 4, 5, 0] rfl hj_6
        · refine x_iconst (pc2 := 58) (v := 1) C dX11_make_57 rfl rfl ?_
          refine x_goto (tgt := 62) C dX11_make_58 (by decide) ?_
          rw [if_neg qc_7, if_pos qg_9, if_neg qc_10, if_pos qg_12, if_pos qc_13] at hq_6
          obtain rfl := (Option.some.inj hq_6).symm
          exact x_sub (lv2 := [(0, _), (1, _), (2, _), (3, _), (4, _), (5, _)]) C [1, 2, 3, 4, 5, 0] rfl hj_6
  refine x_istore (pc2 := 64) (lv2 := [(6, _), (0, _), (1, _), (2, _), (3, _), (4, _), (5, _)]) C dX11_make_62 (by decide) rfl rfl ?_
  refine x_aload_n (pc2 := 65) C dX11_make_64 1 rfl rfl rfl ?_
  refine x_iload (pc2 := 67) C dX11_make_65 6 rfl rfl ?_
  rcases opt_em ((if j_2 = 0 then (some (1 : Int32)) else (fX11_in Ω x4 (1 : Int32) (9 : Int32)).bind (fun r_16 => (if r_16 = 0 then (some (2 : Int32)) else (if j_6 = 0 then (some (0 : Int32)) else (some (3 : Int32)))))) : Option (Int32)) with hq_14 | ⟨j_14, hq_14⟩
  · exact absurd hf (by rw [fX11_make, ob_s hq_1, ob_s hq_2, ob_s hq_6, ob_n hq_14]; exact nofun)
  suffices hj_14 : XW G B 12 100 [(0, .ref (ad G 11 (0))), (1, .int (x1)), (2, .int (x2)), (3, .int (x3)), (4, .int (x4))] [.int (j_14), .ref (ad G 11 (0))] Ω 0 0 by
    refine x_if_ne (tgt := 74) (pc2 := 70) C dX11_make_67 (by decide) rfl (fun qc_15 => ?_) (fun qc_15 => ?_)
    · refine x_aload_n (pc2 := 75) C dX11_make_74 1 rfl rfl rfl ?_
      refine x_iload (pc2 := 77) C dX11_make_75 5 rfl rfl ?_
      refine x_iconst (pc2 := 78) (v := 1) C dX11_make_77 rfl rfl ?_
      refine x_bipush (pc2 := 80) (v := 9) C dX11_make_78 rfl rfl ?_
      rcases opt_em (fX11_in Ω x4 (1 : Int32) (9 : Int32)) with hq_16 | ⟨r_16, hq_16⟩
      · exact absurd hq_14 (by rw [if_neg qc_15, ob_n hq_16]; exact nofun)
      refine x_ret (rest := [_]) (st2 := [_, _]) (pc2 := 83) (cu2 := 0) (su2 := 0) (x_cV C (by assumption) (Nat.le_of_ble_eq_true rfl) kmX11_in rfl kk_11_178 (tX11_in hok (by assumption)  hq_16) rfl rfl (Nat.le_of_ble_eq_true rfl) ⟨Nat.le_of_ble_eq_true rfl, Nat.le_of_ble_eq_true rfl⟩ ⟨Nat.le_of_ble_eq_true rfl, Nat.le_of_ble_eq_true rfl⟩ dX11_make_80) rfl rfl rfl rfl ?_
      refine x_if_ne (tgt := 90) (pc2 := 86) C dX11_make_83 (by decide) rfl (fun qc_17 => ?_) (fun qc_17 => ?_)
      · refine x_iload (pc2 := 92) C dX11_make_90 0 rfl rfl ?_
        refine x_if_eq (tgt := 99) (pc2 := 95) C dX11_make_92 (by decide) rfl (fun qc_18 => ?_) (fun qc_18 => ?_)
        · refine x_iconst (pc2 := 100) (v := 0) C dX11_make_99 rfl rfl ?_
          rw [if_neg qc_15, ob_s hq_16, if_neg qc_17, if_pos qc_18] at hq_14
          obtain rfl := (Option.some.inj hq_14).symm
          exact x_sub (lv2 := [(0, _), (1, _), (2, _), (3, _), (4, _)]) C [1, 2, 3, 4, 5] rfl hj_14
        · refine x_iconst (pc2 := 96) (v := 3) C dX11_make_95 rfl rfl ?_
          refine x_goto (tgt := 100) C dX11_make_96 (by decide) ?_
          rw [if_neg qc_15, ob_s hq_16, if_neg qc_17, if_neg qc_18] at hq_14
          obtain rfl := (Option.some.inj hq_14).symm
          exact x_sub (lv2 := [(0, _), (1, _), (2, _), (3, _), (4, _)]) C [1, 2, 3, 4, 5] rfl hj_14
      · refine x_iconst (pc2 := 87) (v := 2) C dX11_make_86 rfl rfl ?_
        refine x_goto (tgt := 100) C dX11_make_87 (by decide) ?_
        rw [if_neg qc_15, ob_s hq_16, if_pos qc_17] at hq_14
        obtain rfl := (Option.some.inj hq_14).symm
        exact x_sub (lv2 := [(0, _), (1, _), (2, _), (3, _), (4, _)]) C [1, 2, 3, 4, 5] rfl hj_14
    · refine x_iconst (pc2 := 71) (v := 1) C dX11_make_70 rfl rfl ?_
      refine x_goto (tgt := 100) C dX11_make_71 (by decide) ?_
      rw [if_pos qc_15] at hq_14
      obtain rfl := (Option.some.inj hq_14).symm
      exact x_sub (lv2 := [(0, _), (1, _), (2, _), (3, _), (4, _)]) C [1, 2, 3, 4, 5] rfl hj_14
  rcases opt_em (fX11_holds Ω j_14) with hq_19 | ⟨r_19, hq_19⟩
  · exact absurd hf (by rw [fX11_make, ob_s hq_1, ob_s hq_2, ob_s hq_6, ob_s hq_14, ob_n hq_19]; exact nofun)
  refine x_ret (rest := []) (st2 := [_]) (pc2 := 103) (cu2 := 0) (su2 := 0) (x_cV C (by assumption) (Nat.le_of_ble_eq_true rfl) kmX11_holds rfl kk_11_214 (tX11_holds hok (by assumption)  hq_19) rfl rfl (Nat.le_of_ble_eq_true rfl) ⟨Nat.le_of_ble_eq_true rfl, Nat.le_of_ble_eq_true rfl⟩ ⟨Nat.le_of_ble_eq_true rfl, Nat.le_of_ble_eq_true rfl⟩ dX11_make_100) rfl rfl rfl rfl ?_
  refine x_if_eq (tgt := 108) (pc2 := 106) C dX11_make_103 (by decide) rfl (fun qc_20 => ?_) (fun qc_20 => ?_)
  · refine x_aload_n (pc2 := 109) C dX11_make_108 0 rfl rfl rfl ?_
    refine x_getR (f := 1109) (k2 := 2109) (pc2 := 112) C (by assumption) kf_11_34 dX11_make_109 rfl rfl rfl (rti_i rfl) rfl (fun qd_21 => ?_)
    refine x_iload_n (pc2 := 113) C dX11_make_112 1 rfl rfl rfl ?_
    rcases (Decidable.em (inB x1 2)).symm with qg_22 | qg_22
    · exact absurd hf (by rw [fX11_make, ob_s hq_1, ob_s hq_2, ob_s hq_6, ob_s hq_14, ob_s hq_19, if_pos qc_20, if_neg qg_22]; exact nofun)
    refine x_iald (pc2 := 114) C (by assumption) dX11_make_113 rfl (inB_in qg_22) rfl ?_
    refine x_istore (pc2 := 116) (lv2 := [(7, _), (0, _), (1, _), (2, _), (3, _), (4, _)]) C dX11_make_114 (by decide) rfl rfl ?_
    refine x_bipush (pc2 := 118) (v := 24) C dX11_make_116 rfl rfl ?_
    refine x_iload_n (pc2 := 119) C dX11_make_118 2 rfl rfl rfl ?_
    refine x_imul (pc2 := 120) C dX11_make_119 rfl ?_
    refine x_iload_n (pc2 := 121) C dX11_make_120 3 rfl rfl rfl ?_
    refine x_iadd (pc2 := 122) C dX11_make_121 rfl ?_
    refine x_istore (pc2 := 124) (lv2 := [(8, _), (7, _), (0, _), (1, _), (2, _), (3, _), (4, _)]) C dX11_make_122 (by decide) rfl rfl ?_
    refine x_aload_n (pc2 := 125) C dX11_make_124 2 rfl rfl rfl ?_
    refine x_iload_n (pc2 := 126) C dX11_make_125 3 rfl rfl rfl ?_
    refine x_putI (pc2 := 129) (f := 1157) C (by assumption) kf_11_255 dX11_make_126 rfl rfl rfl rfl rfl ?_
    obtain ⟨Ω_23, hw_23⟩ : ∃ z, z = uI r_19.2 1157 0 0 x1 := ⟨_, rfl⟩
    refine x_om hw_23 ?_
    refine x_aload_n (pc2 := 130) C dX11_make_129 2 rfl rfl rfl ?_
    refine x_bipush (pc2 := 132) (v := 24) C dX11_make_130 rfl rfl ?_
    refine x_iload_n (pc2 := 133) C dX11_make_132 3 rfl rfl rfl ?_
    refine x_imul (pc2 := 134) C dX11_make_133 rfl ?_
    refine x_iload (pc2 := 136) C dX11_make_134 1 rfl rfl ?_
    refine x_iadd (pc2 := 137) C dX11_make_136 rfl ?_
    refine x_putI (pc2 := 140) (f := 1158) C (by assumption) kf_11_246 dX11_make_137 rfl rfl rfl rfl rfl ?_
    obtain ⟨Ω_24, hw_24⟩ : ∃ z, z = uI Ω_23 1158 0 0 (((24 : Int32) * x1) + (xI r_19.2 2109 0 x1.toNatClampNeg)) := ⟨_, rfl⟩
    refine x_om hw_24 ?_
    refine x_aload_n (pc2 := 141) C dX11_make_140 2 rfl rfl rfl ?_
    refine x_getR (f := 1120) (k2 := 2120) (pc2 := 144) C (by assumption) kf_11_67 dX11_make_141 rfl rfl rfl (rti_i rfl) rfl (fun qd_25 => ?_)
    refine x_aload_n (pc2 := 145) C dX11_make_144 2 rfl rfl rfl ?_
    refine x_getI (pc2 := 148) (f := 1158) C (by assumption) kf_11_246 dX11_make_145 rfl rfl rfl ?_
    refine x_iload_n (pc2 := 149) C dX11_make_148 4 rfl rfl rfl ?_
    rcases (Decidable.em (inB (xI Ω_24 1158 0 0) 48)).symm with qg_26 | qg_26
    · exact absurd hf (by rw [fX11_make, ob_s hq_1, ob_s hq_2, ob_s hq_6, ob_s hq_14, ob_s hq_19, if_pos qc_20, if_pos qg_22, wl_eq hw_23, wl_eq hw_24, if_neg qg_26]; exact nofun)
    refine x_iast (pc2 := 150) C (by assumption) dX11_make_149 rfl (inB_in qg_26) rfl ?_
    obtain ⟨Ω_27, hw_27⟩ : ∃ z, z = uI Ω_24 2120 0 (xI Ω_24 1158 0 0).toNatClampNeg x2 := ⟨_, rfl⟩
    refine x_om hw_27 ?_
    refine x_aload_n (pc2 := 151) C dX11_make_150 2 rfl rfl rfl ?_
    refine x_getR (f := 1121) (k2 := 2121) (pc2 := 154) C (by assumption) kf_11_70 dX11_make_151 rfl rfl rfl (rti_i rfl) rfl (fun qd_28 => ?_)
    refine x_aload_n (pc2 := 155) C dX11_make_154 2 rfl rfl rfl ?_
    refine x_getI (pc2 := 158) (f := 1158) C (by assumption) kf_11_246 dX11_make_155 rfl rfl rfl ?_
    refine x_aload_n (pc2 := 159) C dX11_make_158 2 rfl rfl rfl ?_
    refine x_getR (f := 1121) (k2 := 2121) (pc2 := 162) C (by assumption) kf_11_70 dX11_make_159 rfl rfl rfl (rti_i rfl) rfl (fun qd_29 => ?_)
    refine x_iload (pc2 := 164) C dX11_make_162 0 rfl rfl ?_
    rcases (Decidable.em (inB (((24 : Int32) * x1) + x2) 48)).symm with qg_30 | qg_30
    · exact absurd hf (by rw [fX11_make, ob_s hq_1, ob_s hq_2, ob_s hq_6, ob_s hq_14, ob_s hq_19, if_pos qc_20, if_pos qg_22, wl_eq hw_23, wl_eq hw_24, if_pos qg_26, wl_eq hw_27, if_neg qg_30]; exact nofun)
    refine x_iald (pc2 := 165) C (by assumption) dX11_make_164 rfl (inB_in qg_30) rfl ?_
    refine x_iconst (pc2 := 166) (v := 1) C dX11_make_165 rfl rfl ?_
    refine x_iadd (pc2 := 167) C dX11_make_166 rfl ?_
    rcases (Decidable.em (inB (xI Ω_27 1158 0 0) 48)).symm with qg_31 | qg_31
    · exact absurd hf (by rw [fX11_make, ob_s hq_1, ob_s hq_2, ob_s hq_6, ob_s hq_14, ob_s hq_19, if_pos qc_20, if_pos qg_22, wl_eq hw_23, wl_eq hw_24, if_pos qg_26, wl_eq hw_27, if_pos qg_30, if_neg qg_31]; exact nofun)
    refine x_iast (pc2 := 168) C (by assumption) dX11_make_167 rfl (inB_in qg_31) rfl ?_
    obtain ⟨Ω_32, hw_32⟩ : ∃ z, z = uI Ω_27 2121 0 (xI Ω_27 1158 0 0).toNatClampNeg ((xI Ω_27 2121 0 (((24 : Int32) * x1) + x2).toNatClampNeg) + (1 : Int32)) := ⟨_, rfl⟩
    refine x_om hw_32 ?_
    refine x_aload_n (pc2 := 169) C dX11_make_168 2 rfl rfl rfl ?_
    refine x_getR (f := 1122) (k2 := 2122) (pc2 := 172) C (by assumption) kf_11_73 dX11_make_169 rfl rfl rfl (rti_i rfl) rfl (fun qd_33 => ?_)
    refine x_aload_n (pc2 := 173) C dX11_make_172 2 rfl rfl rfl ?_
    refine x_getI (pc2 := 176) (f := 1158) C (by assumption) kf_11_246 dX11_make_173 rfl rfl rfl ?_
    refine x_iload_n (pc2 := 177) C dX11_make_176 5 rfl rfl rfl ?_
    rcases (Decidable.em (inB (xI Ω_32 1158 0 0) 48)).symm with qg_34 | qg_34
    · exact absurd hf (by rw [fX11_make, ob_s hq_1, ob_s hq_2, ob_s hq_6, ob_s hq_14, ob_s hq_19, if_pos qc_20, if_pos qg_22, wl_eq hw_23, wl_eq hw_24, if_pos qg_26, wl_eq hw_27, if_pos qg_30, if_pos qg_31, wl_eq hw_32, if_neg qg_34]; exact nofun)
    refine x_iast (pc2 := 178) C (by assumption) dX11_make_177 rfl (inB_in qg_34) rfl ?_
    obtain ⟨Ω_35, hw_35⟩ : ∃ z, z = uI Ω_32 2122 0 (xI Ω_32 1158 0 0).toNatClampNeg x3 := ⟨_, rfl⟩
    refine x_om hw_35 ?_
    refine x_aload_n (pc2 := 179) C dX11_make_178 2 rfl rfl rfl ?_
    refine x_getR (f := 1123) (k2 := 2123) (pc2 := 182) C (by assumption) kf_11_76 dX11_make_179 rfl rfl rfl (rti_i rfl) rfl (fun qd_36 => ?_)
    refine x_aload_n (pc2 := 183) C dX11_make_182 2 rfl rfl rfl ?_
    refine x_getI (pc2 := 186) (f := 1158) C (by assumption) kf_11_246 dX11_make_183 rfl rfl rfl ?_
    refine x_aload_n (pc2 := 187) C dX11_make_186 2 rfl rfl rfl ?_
    refine x_getR (f := 1123) (k2 := 2123) (pc2 := 190) C (by assumption) kf_11_76 dX11_make_187 rfl rfl rfl (rti_i rfl) rfl (fun qd_37 => ?_)
    refine x_iload (pc2 := 192) C dX11_make_190 0 rfl rfl ?_
    rcases (Decidable.em (inB (((24 : Int32) * x1) + x2) 48)).symm with qg_38 | qg_38
    · exact absurd hf (by rw [fX11_make, ob_s hq_1, ob_s hq_2, ob_s hq_6, ob_s hq_14, ob_s hq_19, if_pos qc_20, if_pos qg_22, wl_eq hw_23, wl_eq hw_24, if_pos qg_26, wl_eq hw_27, if_pos qg_30, if_pos qg_31, wl_eq hw_32, if_pos qg_34, wl_eq hw_35, if_neg qg_38]; exact nofun)
    refine x_lald (pc2 := 193) C (by assumption) dX11_make_192 rfl (inB_in qg_38) rfl ?_
    refine x_iload (pc2 := 195) C dX11_make_193 6 rfl rfl ?_
    refine x_i2l (pc2 := 196) C dX11_make_195 rfl ?_
    refine x_ladd (pc2 := 197) C dX11_make_196 rfl ?_
    rcases (Decidable.em (inB (xI Ω_35 1158 0 0) 48)).symm with qg_39 | qg_39
    · exact absurd hf (by rw [fX11_make, ob_s hq_1, ob_s hq_2, ob_s hq_6, ob_s hq_14, ob_s hq_19, if_pos qc_20, if_pos qg_22, wl_eq hw_23, wl_eq hw_24, if_pos qg_26, wl_eq hw_27, if_pos qg_30, if_pos qg_31, wl_eq hw_32, if_pos qg_34, wl_eq hw_35, if_pos qg_38, if_neg qg_39]; exact nofun)
    refine x_last (pc2 := 198) C (by assumption) dX11_make_197 rfl (inB_in qg_39) rfl ?_
    obtain ⟨Ω_40, hw_40⟩ : ∃ z, z = uL Ω_35 2123 0 (xI Ω_35 1158 0 0).toNatClampNeg ((xL Ω_35 2123 0 (((24 : Int32) * x1) + x2).toNatClampNeg) + x4.toInt64) := ⟨_, rfl⟩
    refine x_om hw_40 ?_
    refine x_aload_n (pc2 := 199) C dX11_make_198 2 rfl rfl rfl ?_
    refine x_getR (f := 1124) (k2 := 2124) (pc2 := 202) C (by assumption) kf_11_80 dX11_make_199 rfl rfl rfl (rti_i rfl) rfl (fun qd_41 => ?_)
    refine x_iload (pc2 := 204) C dX11_make_202 0 rfl rfl ?_
    rcases (Decidable.em (inB (((24 : Int32) * x1) + x2) 48)).symm with qg_42 | qg_42
    · exact absurd hf (by rw [fX11_make, ob_s hq_1, ob_s hq_2, ob_s hq_6, ob_s hq_14, ob_s hq_19, if_pos qc_20, if_pos qg_22, wl_eq hw_23, wl_eq hw_24, if_pos qg_26, wl_eq hw_27, if_pos qg_30, if_pos qg_31, wl_eq hw_32, if_pos qg_34, wl_eq hw_35, if_pos qg_38, if_pos qg_39, wl_eq hw_40, if_neg qg_42]; exact nofun)
    refine x_iald (pc2 := 205) C (by assumption) dX11_make_204 rfl (inB_in qg_42) rfl ?_
    refine x_aload_n (pc2 := 206) C dX11_make_205 2 rfl rfl rfl ?_
    refine x_getR (f := 1124) (k2 := 2124) (pc2 := 209) C (by assumption) kf_11_80 dX11_make_206 rfl rfl rfl (rti_i rfl) rfl (fun qd_43 => ?_)
    refine x_iload (pc2 := 211) C dX11_make_209 0 rfl rfl ?_
    rcases (Decidable.em (inB (((24 : Int32) * x1) + x2) 48)).symm with qg_44 | qg_44
    · exact absurd hf (by rw [fX11_make, ob_s hq_1, ob_s hq_2, ob_s hq_6, ob_s hq_14, ob_s hq_19, if_pos qc_20, if_pos qg_22, wl_eq hw_23, wl_eq hw_24, if_pos qg_26, wl_eq hw_27, if_pos qg_30, if_pos qg_31, wl_eq hw_32, if_pos qg_34, wl_eq hw_35, if_pos qg_38, if_pos qg_39, wl_eq hw_40, if_pos qg_42, if_neg qg_44]; exact nofun)
    refine x_iald (pc2 := 212) C (by assumption) dX11_make_211 rfl (inB_in qg_44) rfl ?_
    refine x_aload_n (pc2 := 213) C dX11_make_212 2 rfl rfl rfl ?_
    refine x_getR (f := 1125) (k2 := 2125) (pc2 := 216) C (by assumption) kf_11_83 dX11_make_213 rfl rfl rfl (rti_i rfl) rfl (fun qd_45 => ?_)
    refine x_iload (pc2 := 218) C dX11_make_216 0 rfl rfl ?_
    rcases (Decidable.em (inB (((24 : Int32) * x1) + x2) 48)).symm with qg_46 | qg_46
    · exact absurd hf (by rw [fX11_make, ob_s hq_1, ob_s hq_2, ob_s hq_6, ob_s hq_14, ob_s hq_19, if_pos qc_20, if_pos qg_22, wl_eq hw_23, wl_eq hw_24, if_pos qg_26, wl_eq hw_27, if_pos qg_30, if_pos qg_31, wl_eq hw_32, if_pos qg_34, wl_eq hw_35, if_pos qg_38, if_pos qg_39, wl_eq hw_40, if_pos qg_42, if_pos qg_44, if_neg qg_46]; exact nofun)
    refine x_iald (pc2 := 219) C (by assumption) dX11_make_218 rfl (inB_in qg_46) rfl ?_
    refine x_sipush (pc2 := 222) (v := 300) C dX11_make_219 rfl rfl ?_
    refine x_isub (pc2 := 223) C dX11_make_222 rfl ?_
    refine x_imul (pc2 := 224) C dX11_make_223 rfl ?_
    refine x_sipush (pc2 := 227) (v := 2400) C dX11_make_224 rfl rfl ?_
    refine x_idiv (pc2 := 228) C dX11_make_227 (by decide +kernel) rfl ?_
    refine x_iadd (pc2 := 229) C dX11_make_228 rfl ?_
    refine x_istore (pc2 := 231) (lv2 := [(9, _), (8, _), (7, _), (0, _), (1, _), (2, _), (3, _), (4, _)]) C dX11_make_229 (by decide) rfl rfl ?_
    refine x_aload_n (pc2 := 232) C dX11_make_231 3 rfl rfl rfl ?_
    refine x_getR (f := 1124) (k2 := 2124) (pc2 := 235) C (by assumption) kf_11_80 dX11_make_232 rfl rfl rfl (rti_i rfl) rfl (fun qd_47 => ?_)
    refine x_aload_n (pc2 := 236) C dX11_make_235 3 rfl rfl rfl ?_
    refine x_getI (pc2 := 239) (f := 1158) C (by assumption) kf_11_246 dX11_make_236 rfl rfl rfl ?_
    refine x_iload (pc2 := 241) C dX11_make_239 0 rfl rfl ?_
    refine x_iconst (pc2 := 242) (v := 1) C dX11_make_241 rfl rfl ?_
    obtain ⟨j_48, hq_48⟩ : ∃ z : Int32, z = (if (1 : Int32) ≤ ((xI Ω_40 2124 0 (((24 : Int32) * x1) + x2).toNatClampNeg) + (((xI Ω_40 2124 0 (((24 : Int32) * x1) + x2).toNatClampNeg) * ((xI Ω_40 2125 0 (((24 : Int32) * x1) + x2).toNatClampNeg) - (300 : Int32))) / (2400 : Int32))) then (xI Ω_40 2124 0 (((24 : Int32) * x1) + x2).toNatClampNeg) + (((xI Ω_40 2124 0 (((24 : Int32) * x1) + x2).toNatClampNeg) * ((xI Ω_40 2125 0 (((24 : Int32) * x1) + x2).toNatClampNeg) - (300 : Int32))) / (2400 : Int32)) else (1 : Int32)) := ⟨_, rfl⟩
    suffices hj_48 : XW G B 12 251 [(0, .ref (ad G 11 (0))), (1, .int (x1)), (7, .int (xI r_19.2 2109 0 x1.toNatClampNeg)), (8, .int (((24 : Int32) * x1) + x2))] [.int (j_48), .int (xI Ω_40 1158 0 0), .ref (ad G 2124 (0))] Ω_40 0 0 by
      refine x_icmp_ge (tgt := 249) (pc2 := 245) C dX11_make_242 (by decide) rfl (fun qc_49 => ?_) (fun qc_49 => ?_)
      · refine x_iload (pc2 := 251) C dX11_make_249 0 rfl rfl ?_
        rw [if_pos qc_49] at hq_48
        subst hq_48
        exact x_sub (lv2 := [(0, _), (1, _), (7, _), (8, _)]) C [3, 4, 2, 1] rfl hj_48
      · refine x_iconst (pc2 := 246) (v := 1) C dX11_make_245 rfl rfl ?_
        refine x_goto (tgt := 251) C dX11_make_246 (by decide) ?_
        rw [if_neg qc_49] at hq_48
        subst hq_48
        exact x_sub (lv2 := [(0, _), (1, _), (7, _), (8, _)]) C [3, 4, 2, 1] rfl hj_48
    rcases (Decidable.em (inB (xI Ω_40 1158 0 0) 48)).symm with qg_50 | qg_50
    · exact absurd hf (by rw [fX11_make, ob_s hq_1, ob_s hq_2, ob_s hq_6, ob_s hq_14, ob_s hq_19, if_pos qc_20, if_pos qg_22, wl_eq hw_23, wl_eq hw_24, if_pos qg_26, wl_eq hw_27, if_pos qg_30, if_pos qg_31, wl_eq hw_32, if_pos qg_34, wl_eq hw_35, if_pos qg_38, if_pos qg_39, wl_eq hw_40, if_pos qg_42, if_pos qg_44, if_pos qg_46, wl_eq hq_48, if_neg qg_50]; exact nofun)
    refine x_iast (pc2 := 252) C (by assumption) dX11_make_251 rfl (inB_in qg_50) rfl ?_
    obtain ⟨Ω_51, hw_51⟩ : ∃ z, z = uI Ω_40 2124 0 (xI Ω_40 1158 0 0).toNatClampNeg j_48 := ⟨_, rfl⟩
    refine x_om hw_51 ?_
    refine x_aload_n (pc2 := 253) C dX11_make_252 0 rfl rfl rfl ?_
    refine x_bipush (pc2 := 255) (v := 120) C dX11_make_253 rfl rfl ?_
    refine x_iload (pc2 := 257) C dX11_make_255 3 rfl rfl ?_
    refine x_imul (pc2 := 258) C dX11_make_257 rfl ?_
    rcases opt_em (fX11_copyIn Ω_51 ((120 : Int32) * (((24 : Int32) * x1) + x2))) with hq_52 | ⟨r_52, hq_52⟩
    · exact absurd hf (by rw [fX11_make, ob_s hq_1, ob_s hq_2, ob_s hq_6, ob_s hq_14, ob_s hq_19, if_pos qc_20, if_pos qg_22, wl_eq hw_23, wl_eq hw_24, if_pos qg_26, wl_eq hw_27, if_pos qg_30, if_pos qg_31, wl_eq hw_32, if_pos qg_34, wl_eq hw_35, if_pos qg_38, if_pos qg_39, wl_eq hw_40, if_pos qg_42, if_pos qg_44, if_pos qg_46, wl_eq hq_48, if_pos qg_50, wl_eq hw_51, ob_n hq_52]; exact nofun)
    refine x_ret (rest := []) (st2 := []) (pc2 := 261) (cu2 := 0) (su2 := 0) (x_cV C (by assumption) (Nat.le_of_ble_eq_true rfl) kmX11_copyIn rfl kk_11_352 (tX11_copyIn hok (by assumption)  hq_52) rfl rfl (Nat.le_of_ble_eq_true rfl) ⟨Nat.le_of_ble_eq_true rfl, Nat.le_of_ble_eq_true rfl⟩ ⟨Nat.le_of_ble_eq_true rfl, Nat.le_of_ble_eq_true rfl⟩ dX11_make_258) rfl rfl rfl rfl ?_
    refine x_aload_n (pc2 := 262) C dX11_make_261 0 rfl rfl rfl ?_
    refine x_iload_n (pc2 := 263) C dX11_make_262 1 rfl rfl rfl ?_
    refine x_iload (pc2 := 265) C dX11_make_263 2 rfl rfl ?_
    rcases opt_em (fX11_pick r_52 x1 (xI r_19.2 2109 0 x1.toNatClampNeg)) with hq_53 | ⟨r_53, hq_53⟩
    · exact absurd hf (by rw [fX11_make, ob_s hq_1, ob_s hq_2, ob_s hq_6, ob_s hq_14, ob_s hq_19, if_pos qc_20, if_pos qg_22, wl_eq hw_23, wl_eq hw_24, if_pos qg_26, wl_eq hw_27, if_pos qg_30, if_pos qg_31, wl_eq hw_32, if_pos qg_34, wl_eq hw_35, if_pos qg_38, if_pos qg_39, wl_eq hw_40, if_pos qg_42, if_pos qg_44, if_pos qg_46, wl_eq hq_48, if_pos qg_50, wl_eq hw_51, ob_s hq_52, ob_n hq_53]; exact nofun)
    refine x_ret (rest := []) (st2 := [_]) (pc2 := 268) (cu2 := 0) (su2 := 0) (x_cV C (by assumption) (Nat.le_of_ble_eq_true rfl) kmX11_pick rfl kk_11_355 (tX11_pick hok (by assumption)  hq_53) rfl rfl (Nat.le_of_ble_eq_true rfl) ⟨Nat.le_of_ble_eq_true rfl, Nat.le_of_ble_eq_true rfl⟩ ⟨Nat.le_of_ble_eq_true rfl, Nat.le_of_ble_eq_true rfl⟩ dX11_make_265) rfl rfl rfl rfl ?_
    refine x_istore (pc2 := 270) (lv2 := [(10, _), (0, _), (1, _), (7, _), (8, _)]) C dX11_make_268 (by decide) rfl rfl ?_
    rcases opt_em (fX11_make_l270 x1 (xI r_19.2 2109 0 x1.toNatClampNeg) 42 r_53 r_52) with hq_54 | ⟨q_54, hq_54⟩
    · exact absurd hf (by rw [fX11_make, ob_s hq_1, ob_s hq_2, ob_s hq_6, ob_s hq_14, ob_s hq_19, if_pos qc_20, if_pos qg_22, wl_eq hw_23, wl_eq hw_24, if_pos qg_26, wl_eq hw_27, if_pos qg_30, if_pos qg_31, wl_eq hw_32, if_pos qg_34, wl_eq hw_35, if_pos qg_38, if_pos qg_39, wl_eq hw_40, if_pos qg_42, if_pos qg_44, if_pos qg_46, wl_eq hq_48, if_pos qg_50, wl_eq hw_51, ob_s hq_52, ob_s hq_53, ob_n hq_54]; exact nofun)
    refine x_sub (lv2 := [(10, _), (0, _), (1, _), (7, _)]) C [0, 1, 2, 3] rfl (lX11_make_l270 hok (by assumption) C 42 r_53 r_52 hq_54 (fun q9 h9 => ?_))
    cases h9
    refine x_iconst (pc2 := 304) (v := 0) C dX11_make_303 rfl rfl ?_
    refine x_istore (pc2 := 306) (lv2 := [(10, _), (0, _), (1, _), (7, _)]) C dX11_make_304 (by decide) rfl rfl ?_
    rcases opt_em (fX11_make_l306 x1 (xI r_19.2 2109 0 x1.toNatClampNeg) 121 (0 : Int32) q_54.2) with hq_55 | ⟨q_55, hq_55⟩
    · exact absurd hf (by rw [fX11_make, ob_s hq_1, ob_s hq_2, ob_s hq_6, ob_s hq_14, ob_s hq_19, if_pos qc_20, if_pos qg_22, wl_eq hw_23, wl_eq hw_24, if_pos qg_26, wl_eq hw_27, if_pos qg_30, if_pos qg_31, wl_eq hw_32, if_pos qg_34, wl_eq hw_35, if_pos qg_38, if_pos qg_39, wl_eq hw_40, if_pos qg_42, if_pos qg_44, if_pos qg_46, wl_eq hq_48, if_pos qg_50, wl_eq hw_51, ob_s hq_52, ob_s hq_53, ob_s hq_54, ob_n hq_55]; exact nofun)
    refine x_sub (lv2 := [(10, _), (0, _), (1, _), (7, _)]) C [0, 1, 2, 3] rfl (lX11_make_l306 hok (by assumption) C 121 (0 : Int32) q_54.2 hq_55 (fun q9 h9 => ?_))
    cases h9
    refine x_aload_n (pc2 := 342) C dX11_make_341 0 rfl rfl rfl ?_
    refine x_getR (f := 1127) (k2 := 2127) (pc2 := 345) C (by assumption) kf_11_89 dX11_make_342 rfl rfl rfl (rti_i rfl) rfl (fun qd_56 => ?_)
    refine x_aload_n (pc2 := 346) C dX11_make_345 0 rfl rfl rfl ?_
    refine x_getI (pc2 := 349) (f := 1158) C (by assumption) kf_11_246 dX11_make_346 rfl rfl rfl ?_
    refine x_aload_n (pc2 := 350) C dX11_make_349 0 rfl rfl rfl ?_
    refine x_bipush (pc2 := 352) (v := 120) C dX11_make_350 rfl rfl ?_
    refine x_aload_n (pc2 := 353) C dX11_make_352 0 rfl rfl rfl ?_
    refine x_getI (pc2 := 356) (f := 1158) C (by assumption) kf_11_246 dX11_make_353 rfl rfl rfl ?_
    refine x_imul (pc2 := 357) C dX11_make_356 rfl ?_
    rcases opt_em (fX11_rootOf q_55.2 ((120 : Int32) * (xI q_55.2 1158 0 0))) with hq_57 | ⟨r_57, hq_57⟩
    · exact absurd hf (by rw [fX11_make, ob_s hq_1, ob_s hq_2, ob_s hq_6, ob_s hq_14, ob_s hq_19, if_pos qc_20, if_pos qg_22, wl_eq hw_23, wl_eq hw_24, if_pos qg_26, wl_eq hw_27, if_pos qg_30, if_pos qg_31, wl_eq hw_32, if_pos qg_34, wl_eq hw_35, if_pos qg_38, if_pos qg_39, wl_eq hw_40, if_pos qg_42, if_pos qg_44, if_pos qg_46, wl_eq hq_48, if_pos qg_50, wl_eq hw_51, ob_s hq_52, ob_s hq_53, ob_s hq_54, ob_s hq_55, ob_n hq_57]; exact nofun)
    refine x_ret (rest := [_, _]) (st2 := [_, _, _]) (pc2 := 360) (cu2 := 0) (su2 := 0) (x_cV C (by assumption) (Nat.le_of_ble_eq_true rfl) kmX11_rootOf rfl kk_11_170 (tX11_rootOf hok (by assumption)  hq_57) rfl rfl (Nat.le_of_ble_eq_true rfl) ⟨Nat.le_of_ble_eq_true rfl, Nat.le_of_ble_eq_true rfl⟩ ⟨Nat.le_of_ble_eq_true rfl, Nat.le_of_ble_eq_true rfl⟩ dX11_make_357) rfl rfl rfl rfl ?_
    rcases (Decidable.em (inB (xI q_55.2 1158 0 0) 48)).symm with qg_58 | qg_58
    · exact absurd hf (by rw [fX11_make, ob_s hq_1, ob_s hq_2, ob_s hq_6, ob_s hq_14, ob_s hq_19, if_pos qc_20, if_pos qg_22, wl_eq hw_23, wl_eq hw_24, if_pos qg_26, wl_eq hw_27, if_pos qg_30, if_pos qg_31, wl_eq hw_32, if_pos qg_34, wl_eq hw_35, if_pos qg_38, if_pos qg_39, wl_eq hw_40, if_pos qg_42, if_pos qg_44, if_pos qg_46, wl_eq hq_48, if_pos qg_50, wl_eq hw_51, ob_s hq_52, ob_s hq_53, ob_s hq_54, ob_s hq_55, ob_s hq_57, if_neg qg_58]; exact nofun)
    refine x_iast (pc2 := 361) C (by assumption) dX11_make_360 rfl (inB_in qg_58) rfl ?_
    obtain ⟨Ω_59, hw_59⟩ : ∃ z, z = uI r_57.2 2127 0 (xI q_55.2 1158 0 0).toNatClampNeg r_57.1 := ⟨_, rfl⟩
    refine x_om hw_59 ?_
    refine x_iconst (pc2 := 362) (v := 0) C dX11_make_361 rfl rfl ?_
    refine x_istore (pc2 := 364) (lv2 := [(10, _), (0, _), (1, _), (7, _)]) C dX11_make_362 (by decide) rfl rfl ?_
    rcases opt_em (fX11_make_l364 x1 (xI r_19.2 2109 0 x1.toNatClampNeg) ((xI Ω_59 2130 0 (xI Ω_59 1158 0 0).toNatClampNeg).toNatClampNeg + 1) (0 : Int32) Ω_59) with hq_60 | ⟨q_60, hq_60⟩
    · exact absurd hf (by rw [fX11_make, ob_s hq_1, ob_s hq_2, ob_s hq_6, ob_s hq_14, ob_s hq_19, if_pos qc_20, if_pos qg_22, wl_eq hw_23, wl_eq hw_24, if_pos qg_26, wl_eq hw_27, if_pos qg_30, if_pos qg_31, wl_eq hw_32, if_pos qg_34, wl_eq hw_35, if_pos qg_38, if_pos qg_39, wl_eq hw_40, if_pos qg_42, if_pos qg_44, if_pos qg_46, wl_eq hq_48, if_pos qg_50, wl_eq hw_51, ob_s hq_52, ob_s hq_53, ob_s hq_54, ob_s hq_55, ob_s hq_57, if_pos qg_58, wl_eq hw_59, ob_n hq_60]; exact nofun)
    refine x_sub (lv2 := [(10, _), (0, _), (1, _), (7, _)]) C [0, 1, 2, 3] rfl (lX11_make_l364 hok (by assumption) C ((xI Ω_59 2130 0 (xI Ω_59 1158 0 0).toNatClampNeg).toNatClampNeg + 1) (0 : Int32) Ω_59 hq_60 (fun q9 h9 => ?_))
    cases h9
    refine x_aload_n (pc2 := 438) C dX11_make_437 0 rfl rfl rfl ?_
    refine x_getR (f := 1109) (k2 := 2109) (pc2 := 441) C (by assumption) kf_11_34 dX11_make_438 rfl rfl rfl (rti_i rfl) rfl (fun qd_61 => ?_)
    refine x_iload_n (pc2 := 442) C dX11_make_441 1 rfl rfl rfl ?_
    refine x_dup2 (pc2 := 443) C dX11_make_442 rfl rfl rfl ?_
    rcases (Decidable.em (inB x1 2)).symm with qg_62 | qg_62
    · exact absurd hf (by rw [fX11_make, ob_s hq_1, ob_s hq_2, ob_s hq_6, ob_s hq_14, ob_s hq_19, if_pos qc_20, if_pos qg_22, wl_eq hw_23, wl_eq hw_24, if_pos qg_26, wl_eq hw_27, if_pos qg_30, if_pos qg_31, wl_eq hw_32, if_pos qg_34, wl_eq hw_35, if_pos qg_38, if_pos qg_39, wl_eq hw_40, if_pos qg_42, if_pos qg_44, if_pos qg_46, wl_eq hq_48, if_pos qg_50, wl_eq hw_51, ob_s hq_52, ob_s hq_53, ob_s hq_54, ob_s hq_55, ob_s hq_57, if_pos qg_58, wl_eq hw_59, ob_s hq_60, if_neg qg_62]; exact nofun)
    refine x_iald (pc2 := 444) C (by assumption) dX11_make_443 rfl (inB_in qg_62) rfl ?_
    refine x_iconst (pc2 := 445) (v := 1) C dX11_make_444 rfl rfl ?_
    refine x_iadd (pc2 := 446) C dX11_make_445 rfl ?_
    rcases (Decidable.em (inB x1 2)).symm with qg_63 | qg_63
    · exact absurd hf (by rw [fX11_make, ob_s hq_1, ob_s hq_2, ob_s hq_6, ob_s hq_14, ob_s hq_19, if_pos qc_20, if_pos qg_22, wl_eq hw_23, wl_eq hw_24, if_pos qg_26, wl_eq hw_27, if_pos qg_30, if_pos qg_31, wl_eq hw_32, if_pos qg_34, wl_eq hw_35, if_pos qg_38, if_pos qg_39, wl_eq hw_40, if_pos qg_42, if_pos qg_44, if_pos qg_46, wl_eq hq_48, if_pos qg_50, wl_eq hw_51, ob_s hq_52, ob_s hq_53, ob_s hq_54, ob_s hq_55, ob_s hq_57, if_pos qg_58, wl_eq hw_59, ob_s hq_60, if_pos qg_62, if_neg qg_63]; exact nofun)
    refine x_iast (pc2 := 447) C (by assumption) dX11_make_446 rfl (inB_in qg_63) rfl ?_
    obtain ⟨Ω_64, hw_64⟩ : ∃ z, z = uI q_60.2 2109 0 x1.toNatClampNeg ((xI q_60.2 2109 0 x1.toNatClampNeg) + (1 : Int32)) := ⟨_, rfl⟩
    refine x_om hw_64 ?_
    refine x_iload (pc2 := 449) C dX11_make_447 2 rfl rfl ?_
    rw [fX11_make, ob_s hq_1, ob_s hq_2, ob_s hq_6, ob_s hq_14, ob_s hq_19, if_pos qc_20, if_pos qg_22, wl_eq hw_23, wl_eq hw_24, if_pos qg_26, wl_eq hw_27, if_pos qg_30, if_pos qg_31, wl_eq hw_32, if_pos qg_34, wl_eq hw_35, if_pos qg_38, if_pos qg_39, wl_eq hw_40, if_pos qg_42, if_pos qg_44, if_pos qg_46, wl_eq hq_48, if_pos qg_50, wl_eq hw_51, ob_s hq_52, ob_s hq_53, ob_s hq_54, ob_s hq_55, ob_s hq_57, if_pos qg_58, wl_eq hw_59, ob_s hq_60, if_pos qg_62, if_pos qg_63, wl_eq hw_64] at hf
    obtain rfl := (Option.some.inj hf).symm
    exact x_ireturn C dX11_make_449 rfl (Nat.le_of_ble_eq_true rfl) (Nat.le_of_ble_eq_true rfl) rfl rfl
  · refine x_iconst (pc2 := 107) (v := (-1)) C dX11_make_106 rfl rfl ?_
    rw [fX11_make, ob_s hq_1, ob_s hq_2, ob_s hq_6, ob_s hq_14, ob_s hq_19, if_neg qc_20] at hf
    obtain rfl := (Option.some.inj hf).symm
    exact x_ireturn C dX11_make_107 rfl (Nat.le_of_ble_eq_true rfl) (Nat.le_of_ble_eq_true rfl) rfl rfl
