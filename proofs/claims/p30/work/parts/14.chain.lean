def fX1_grow_l35 (y5 : Nat) (y0 : Nat) : Nat → Int32 → XO → Option (Int32 × XO)
  | 0, _, _ => none
  | n + 1, y6, Ω => (if y6 ≤ 0 then (some (y6, Ω)) else (fX1_bestFor Ω y0 y5).bind (fun r_2 => (oE r_2 ((some (y6, Ω))) (fun x_3 => (fX4_transact Ω y5 y5 x_3).bind (fun r_4 => (wl (fX0_enter r_4 y5 (xI r_4 700 x_3 0) (xI r_4 407 0 0) (xI r_4 408 0 0)) (fun Ω_5 => fX1_grow_l35 y5 y0 n (y6 + (-1)) Ω_5)))))))
set_option maxRecDepth 20000 in
theorem lX1_grow_l35 {G : XG} (hok : XK G) {B : XB} {y5 : Nat} {y0 : Nat}  (hf5 : dm G 0 y5) (hf0 : dm G 1 y0) (hf1 : dm G 4 0)   {T : Option Value ⊕ String} {Ω9 : XO} (C : XC G B cX1_grow RX1 (RM 15 0) 8 ((some FieldType.int)) T Ω9) : ∀ (n : Nat) (y6 : Int32) (Ω : XO) {r : (Int32 × XO)}, fX1_grow_l35 y5 y0 n y6 Ω = some r → (∀ q, r = q → (XW G B 8 86 [(5, .ref (ad G 0 (y5))), (0, .ref (ad G 1 (y0)))] [] q.2 0 0)) → XW G B 8 35 [(6, .int (y6)), (5, .ref (ad G 0 (y5))), (0, .ref (ad G 1 (y0))), (1, .ref (ad G 4 (0)))] [] Ω 0 0 := by
  intro n
  induction n with
  | zero => intro y6 Ω r hf; exact absurd hf (by rw [fX1_grow_l35]; exact nofun)
  | succ n ih =>
    intro y6 Ω r hf hk
    refine x_iload (pc2 := 37) C dX1_grow_35 0 rfl rfl ?_
    refine x_if_le (tgt := 86) (pc2 := 40) C dX1_grow_37 (by decide) rfl (fun qc_1 => ?_) (fun qc_1 => ?_)
    · rw [fX1_grow_l35, if_pos qc_1] at hf
      exact x_sub (lv2 := [(5, _), (0, _)]) C [1, 2] rfl (hk _ (Option.some.inj hf).symm)
    · refine x_aload_n (pc2 := 41) C dX1_grow_40 2 rfl rfl rfl ?_
      refine x_aload (pc2 := 43) C dX1_grow_41 1 rfl rfl ?_
      rcases hq_2 : fX1_bestFor Ω y0 y5 with _ | r_2
      · exact absurd hf (by rw [fX1_grow_l35, if_neg qc_1, hq_2, Option.bind_none]; exact nofun)
      refine x_ret (rest := []) (st2 := [_]) (pc2 := 46) (cu2 := 0) (su2 := 0) (x_cV C (by assumption) (Nat.le_of_ble_eq_true rfl) kmX1_bestFor rfl kk_1_117 (tX1_bestFor hok (by assumption) (by assumption)  hq_2) rfl rfl (Nat.le_of_ble_eq_true rfl) ⟨Nat.le_of_ble_eq_true rfl, Nat.le_of_ble_eq_true rfl⟩ ⟨Nat.le_of_ble_eq_true rfl, Nat.le_of_ble_eq_true rfl⟩ dX1_grow_43) rfl rfl rfl rfl ?_
      have qd_2 := D_bestFor hok (by assumption) hq_2
      refine x_astoreO (pc2 := 48) (lv2 := [(7, _), (6, _), (5, _), (0, _), (1, _)]) C dX1_grow_46 (by decide) rfl rfl ?_
      refine x_aloadO (pc2 := 50) C dX1_grow_48 0 rfl rfl ?_
      rcases r_2 with _ | x_3
      · refine x_ifnonnullN (pc2 := 53) C dX1_grow_50 rfl ?_
        refine x_goto (tgt := 86) C dX1_grow_53 (by decide) ?_
        rw [fX1_grow_l35, if_neg qc_1, hq_2, Option.bind_some, oE_n] at hf
        exact x_sub (lv2 := [(5, _), (0, _)]) C [2, 3] rfl (hk _ (Option.some.inj hf).symm)
      · have qd_x_3 := qd_2 _ rfl
        refine x_ifnonnull (tgt := 56) C dX1_grow_50 (by decide) ?_
        refine x_aload_n (pc2 := 57) C dX1_grow_56 4 rfl rfl rfl ?_
        refine x_aload (pc2 := 59) C dX1_grow_57 0 rfl rfl ?_
        rcases hq_4 : fX4_transact Ω y5 y5 x_3 with _ | r_4
        · exact absurd hf (by rw [fX1_grow_l35, if_neg qc_1, hq_2, Option.bind_some, oE_s, hq_4, Option.bind_none]; exact nofun)
        refine x_ret (rest := []) (st2 := []) (pc2 := 62) (cu2 := 0) (su2 := 0) (x_cV C (by assumption) (Nat.le_of_ble_eq_true rfl) kmX4_transact rfl kk_1_121 (tX4_transact hok (by assumption) (by assumption) (by assumption) (dm_f hok 1 (by assumption) rfl rfl (rti_i rfl))  hq_4) rfl rfl (Nat.le_of_ble_eq_true rfl) ⟨Nat.le_of_ble_eq_true rfl, Nat.le_of_ble_eq_true rfl⟩ ⟨Nat.le_of_ble_eq_true rfl, Nat.le_of_ble_eq_true rfl⟩ dX1_grow_59) rfl rfl rfl rfl ?_
        refine x_aload (pc2 := 64) C dX1_grow_62 2 rfl rfl ?_
        refine x_aload (pc2 := 66) C dX1_grow_64 0 rfl rfl ?_
        refine x_getI (pc2 := 69) (f := 700) C (by assumption) kf_1_98 dX1_grow_66 rfl rfl rfl ?_
        refine x_aload_n (pc2 := 70) C dX1_grow_69 4 rfl rfl rfl ?_
        refine x_getI (pc2 := 73) (f := 407) C (by assumption) kf_1_125 dX1_grow_70 rfl rfl rfl ?_
        refine x_aload_n (pc2 := 74) C dX1_grow_73 4 rfl rfl rfl ?_
        refine x_getI (pc2 := 77) (f := 408) C (by assumption) kf_1_128 dX1_grow_74 rfl rfl rfl ?_
        refine x_ret (rest := []) (st2 := []) (pc2 := 80) (cu2 := 0) (su2 := 0) (x_cV C (by assumption) (Nat.le_of_ble_eq_true rfl) kmX0_enter rfl kk_1_131 (tX0_enter hok (by assumption)) rfl rfl (Nat.le_of_ble_eq_true rfl) ⟨Nat.le_of_ble_eq_true rfl, Nat.le_of_ble_eq_true rfl⟩ ⟨Nat.le_of_ble_eq_true rfl, Nat.le_of_ble_eq_true rfl⟩ dX1_grow_77) rfl rfl rfl rfl ?_
        obtain ⟨Ω_5, hw_5⟩ : ∃ z, z = fX0_enter r_4 y5 (xI r_4 700 x_3 0) (xI r_4 407 0 0) (xI r_4 408 0 0) := ⟨_, rfl⟩
        refine x_om hw_5 ?_
        refine x_iinc (pc2 := 83) (v := y6 + (-1)) (lv2 := [(6, _), (7, _), (5, _), (0, _), (1, _)]) C dX1_grow_80 1 rfl rfl (by decide) rfl rfl ?_
        refine x_goto (tgt := 35) C dX1_grow_83 (by decide) ?_
        exact x_sub (lv2 := [(6, _), (5, _), (0, _), (1, _)]) C [0, 2, 3, 4] rfl (ih (y6 + (-1)) Ω_5 (by rw [fX1_grow_l35, if_neg qc_1, hq_2, Option.bind_some, oE_s, hq_4, Option.bind_some, wl_eq hw_5] at hf; exact hf) hk)
def fX1_grow (Ω : XO) (i : Nat) (i2 : Nat) (x3 : Int32) (x4 : Int32) : Option (Int32 × XO) := (wl (fX0_follow Ω (fX1_numberedBlock Ω i (xI Ω 101 i 0)) i2 x3 x4) (fun Ω_2 => (fX4_open Ω_2 (fX1_numberedBlock Ω i (xI Ω 101 i 0)) (fX1_isUpgraded Ω_2 i (fX1_numberedBlock Ω i (xI Ω 101 i 0)))).bind (fun r_3 => (fX1_grow_l35 (fX1_numberedBlock Ω i (xI Ω 101 i 0)) i 41 (40 : Int32) r_3).bind (fun q_4 => (wl (fX0_seal q_4.2 (fX1_numberedBlock Ω i (xI Ω 101 i 0))) (fun Ω_5 => (wl (uI Ω_5 101 i 0 ((xI Ω_5 101 i 0) + (1 : Int32))) (fun Ω_6 => (some (xI Ω_6 0 (fX1_numberedBlock Ω i (xI Ω 101 i 0)) 0, Ω_6))))))))))
set_option maxRecDepth 20000 in
theorem tX1_grow {G : XG} (hok : XK G) {i : Nat} {i2 : Nat} {x3 : Int32} {x4 : Int32} {Ω : XO} (hd0 : dm G 1 i) (hd1 : dm G 4 0) (hd2 : dm G 0 i2)   {r : Int32 × XO} (hf : fX1_grow Ω i i2 x3 x4 = some r) : XM G yX1_grow cX1_grow 8 ((some FieldType.int)) (RM 15 0) [.ref (ad G 1 i), .ref (ad G 4 0), .ref (ad G 0 i2), .int x3, .int x4] Ω (.inl (some (.int (r.1)))) r.2 := by
  refine x_start (lv := [(0, .ref (ad G 1 i)), (1, .ref (ad G 4 0)), (2, .ref (ad G 0 i2)), (3, .int x3), (4, .int x4)]) (own := RX1) hok (by decide +kernel) rfl (Nat.le_of_ble_eq_true rfl) rfl (fun B C => ?_)
  refine x_aload_n (pc2 := 1) C dX1_grow_0 0 rfl rfl rfl ?_
  refine x_aload_n (pc2 := 2) C dX1_grow_1 0 rfl rfl rfl ?_
  refine x_getI (pc2 := 5) (f := 101) C (by assumption) kf_1_17 dX1_grow_2 rfl rfl rfl ?_
  refine x_ret (rest := []) (st2 := [_]) (pc2 := 8) (cu2 := 0) (su2 := 0) (x_cV C (by assumption) (Nat.le_of_ble_eq_true rfl) kmX1_numberedBlock rfl kk_1_47 (tX1_numberedBlock hok (by assumption)) rfl rfl (Nat.le_of_ble_eq_true rfl) ⟨Nat.le_of_ble_eq_true rfl, Nat.le_of_ble_eq_true rfl⟩ ⟨Nat.le_of_ble_eq_true rfl, Nat.le_of_ble_eq_true rfl⟩ dX1_grow_5) rfl rfl rfl rfl ?_
  have qd_1 := D_numberedBlock hok (Ω := Ω) (i := i) (by assumption) (x1 := (xI Ω 101 i 0))
  refine x_astore (pc2 := 10) (lv2 := [(5, _), (0, _), (1, _), (2, _), (3, _), (4, _)]) C dX1_grow_8 (by decide) rfl rfl ?_
  refine x_aload (pc2 := 12) C dX1_grow_10 0 rfl rfl ?_
  refine x_aload_n (pc2 := 13) C dX1_grow_12 3 rfl rfl rfl ?_
  refine x_iload_n (pc2 := 14) C dX1_grow_13 4 rfl rfl rfl ?_
  refine x_iload (pc2 := 16) C dX1_grow_14 5 rfl rfl ?_
  refine x_ret (rest := []) (st2 := []) (pc2 := 19) (cu2 := 0) (su2 := 0) (x_cV C (by assumption) (Nat.le_of_ble_eq_true rfl) kmX0_follow rfl kk_1_104 (tX0_follow hok (by assumption) (by assumption)) rfl rfl (Nat.le_of_ble_eq_true rfl) ⟨Nat.le_of_ble_eq_true rfl, Nat.le_of_ble_eq_true rfl⟩ ⟨Nat.le_of_ble_eq_true rfl, Nat.le_of_ble_eq_true rfl⟩ dX1_grow_16) rfl rfl rfl rfl ?_
  obtain ⟨Ω_2, hw_2⟩ : ∃ z, z = fX0_follow Ω (fX1_numberedBlock Ω i (xI Ω 101 i 0)) i2 x3 x4 := ⟨_, rfl⟩
  refine x_om hw_2 ?_
  refine x_aload_n (pc2 := 20) C dX1_grow_19 2 rfl rfl rfl ?_
  refine x_aload (pc2 := 22) C dX1_grow_20 0 rfl rfl ?_
  refine x_aload_n (pc2 := 23) C dX1_grow_22 1 rfl rfl rfl ?_
  refine x_aload (pc2 := 25) C dX1_grow_23 0 rfl rfl ?_
  refine x_ret (rest := [_, _]) (st2 := [_, _, _]) (pc2 := 28) (cu2 := 0) (su2 := 0) (x_cV C (by assumption) (Nat.le_of_ble_eq_true rfl) kmX1_isUpgraded rfl kk_1_108 (tX1_isUpgraded hok (by assumption) (by assumption)) rfl rfl (Nat.le_of_ble_eq_true rfl) ⟨Nat.le_of_ble_eq_true rfl, Nat.le_of_ble_eq_true rfl⟩ ⟨Nat.le_of_ble_eq_true rfl, Nat.le_of_ble_eq_true rfl⟩ dX1_grow_25) rfl rfl rfl rfl ?_
  rcases hq_3 : fX4_open Ω_2 (fX1_numberedBlock Ω i (xI Ω 101 i 0)) (fX1_isUpgraded Ω_2 i (fX1_numberedBlock Ω i (xI Ω 101 i 0))) with _ | r_3
  · exact absurd hf (by rw [fX1_grow, wl_eq hw_2, hq_3, Option.bind_none]; exact nofun)
  refine x_ret (rest := []) (st2 := []) (pc2 := 31) (cu2 := 0) (su2 := 0) (x_cV C (by assumption) (Nat.le_of_ble_eq_true rfl) kmX4_open rfl kk_1_111 (tX4_open hok (by assumption) (by assumption)  hq_3) rfl rfl (Nat.le_of_ble_eq_true rfl) ⟨Nat.le_of_ble_eq_true rfl, Nat.le_of_ble_eq_true rfl⟩ ⟨Nat.le_of_ble_eq_true rfl, Nat.le_of_ble_eq_true rfl⟩ dX1_grow_28) rfl rfl rfl rfl ?_
  refine x_bipush (pc2 := 33) (v := 40) C dX1_grow_31 rfl rfl ?_
  refine x_istore (pc2 := 35) (lv2 := [(6, _), (5, _), (0, _), (1, _), (2, _), (3, _), (4, _)]) C dX1_grow_33 (by decide) rfl rfl ?_
  rcases hq_4 : fX1_grow_l35 (fX1_numberedBlock Ω i (xI Ω 101 i 0)) i 41 (40 : Int32) r_3 with _ | q_4
  · exact absurd hf (by rw [fX1_grow, wl_eq hw_2, hq_3, Option.bind_some, hq_4, Option.bind_none]; exact nofun)
  refine x_sub (lv2 := [(6, _), (5, _), (0, _), (1, _)]) C [0, 1, 2, 3] rfl (lX1_grow_l35 hok (by assumption) (by assumption) (by assumption) C 41 (40 : Int32) r_3 hq_4 (fun q9 h9 => ?_))
  cases h9
  refine x_aload (pc2 := 88) C dX1_grow_86 0 rfl rfl ?_
  refine x_ret (rest := []) (st2 := []) (pc2 := 91) (cu2 := 0) (su2 := 0) (x_cV C (by assumption) (Nat.le_of_ble_eq_true rfl) kmX0_seal rfl kk_1_135 (tX0_seal hok (by assumption)) rfl rfl (Nat.le_of_ble_eq_true rfl) ⟨Nat.le_of_ble_eq_true rfl, Nat.le_of_ble_eq_true rfl⟩ ⟨Nat.le_of_ble_eq_true rfl, Nat.le_of_ble_eq_true rfl⟩ dX1_grow_88) rfl rfl rfl rfl ?_
  obtain ⟨Ω_5, hw_5⟩ : ∃ z, z = fX0_seal q_4.2 (fX1_numberedBlock Ω i (xI Ω 101 i 0)) := ⟨_, rfl⟩
  refine x_om hw_5 ?_
  refine x_aload_n (pc2 := 92) C dX1_grow_91 1 rfl rfl rfl ?_
  refine x_dup (pc2 := 93) C dX1_grow_92 rfl rfl ?_
  refine x_getI (pc2 := 96) (f := 101) C (by assumption) kf_1_17 dX1_grow_93 rfl rfl rfl ?_
  refine x_iconst (pc2 := 97) (v := 1) C dX1_grow_96 rfl rfl ?_
  refine x_iadd (pc2 := 98) C dX1_grow_97 rfl ?_
  refine x_putI (pc2 := 101) (f := 101) C (by assumption) kf_1_17 dX1_grow_98 rfl rfl rfl rfl rfl ?_
  obtain ⟨Ω_6, hw_6⟩ : ∃ z, z = uI Ω_5 101 i 0 ((xI Ω_5 101 i 0) + (1 : Int32)) := ⟨_, rfl⟩
  refine x_om hw_6 ?_
  refine x_aload (pc2 := 103) C dX1_grow_101 0 rfl rfl ?_
  refine x_getI (pc2 := 106) (f := 0) C (by assumption) kf_1_138 dX1_grow_103 rfl rfl rfl ?_
  rw [fX1_grow, wl_eq hw_2, hq_3, Option.bind_some, hq_4, Option.bind_some, wl_eq hw_5, wl_eq hw_6] at hf
  obtain rfl := (Option.some.inj hf).symm
  exact x_ireturn C dX1_grow_106 rfl (Nat.le_of_ble_eq_true rfl) (Nat.le_of_ble_eq_true rfl) rfl rfl
def fX1_runAnew_l69 (y7 : Nat) (y6 : Int32) (y5 : Int32) (y4 : Nat) (y3 : Nat) (y0 : Nat) (y2 : Nat) : Nat → Int32 → XO → Option (Int32 × XO)
  | 0, _, _ => none
  | n + 1, y8, Ω => (if (xI Ω 8 y7 0) ≤ y8 then (some (y8, Ω)) else (fX4_transact Ω y3 y3 (fX1_numbered Ω y0 (fX0_transactionIn Ω y7 y8))).bind (fun r_3 => fX1_runAnew_l69 y7 y6 y5 y4 y3 y0 y2 n (y8 + 1) r_3))
set_option maxRecDepth 20000 in
theorem lX1_runAnew_l69 {G : XG} (hok : XK G) {B : XB} {y7 : Nat} {y6 : Int32} {y5 : Int32} {y4 : Nat} {y3 : Nat} {y0 : Nat} {y2 : Nat}  (hf7 : dm G 0 y7) (hf4 : dm G 2002 y4) (hf3 : dm G 0 y3) (hf0 : dm G 1 y0) (hf1 : dm G 4 0) (hf2 : dm G 0 y2)   {T : Option Value ⊕ String} {Ω9 : XO} (C : XC G B cX1_runAnew RX1 (RM 15 0) 9 ((some FieldType.int)) T Ω9) : ∀ (n : Nat) (y8 : Int32) (Ω : XO) {r : (Int32 × XO)}, fX1_runAnew_l69 y7 y6 y5 y4 y3 y0 y2 n y8 Ω = some r → (∀ q, r = q → (XW G B 9 100 [(6, .int (y6)), (5, .int (y5)), (4, .ref (ad G 2002 (y4))), (3, .ref (ad G 0 (y3))), (0, .ref (ad G 1 (y0))), (1, .ref (ad G 4 (0))), (2, .ref (ad G 0 (y2)))] [] q.2 0 0)) → XW G B 9 69 [(8, .int (y8)), (7, .ref (ad G 0 (y7))), (6, .int (y6)), (5, .int (y5)), (4, .ref (ad G 2002 (y4))), (3, .ref (ad G 0 (y3))), (0, .ref (ad G 1 (y0))), (1, .ref (ad G 4 (0))), (2, .ref (ad G 0 (y2)))] [] Ω 0 0 := by
  intro n
  induction n with
  | zero => intro y8 Ω r hf; exact absurd hf (by rw [fX1_runAnew_l69]; exact nofun)
  | succ n ih =>
    intro y8 Ω r hf hk
    refine x_iload (pc2 := 71) C dX1_runAnew_69 0 rfl rfl ?_
    refine x_aload (pc2 := 73) C dX1_runAnew_71 1 rfl rfl ?_
    refine x_getI (pc2 := 76) (f := 8) C (by assumption) kf_1_167 dX1_runAnew_73 rfl rfl rfl ?_
    refine x_icmp_ge (tgt := 100) (pc2 := 79) C dX1_runAnew_76 (by decide) rfl (fun qc_1 => ?_) (fun qc_1 => ?_)
    · rw [fX1_runAnew_l69, if_pos qc_1] at hf
      exact x_sub (lv2 := [(6, _), (5, _), (4, _), (3, _), (0, _), (1, _), (2, _)]) C [2, 3, 4, 5, 6, 7, 8] rfl (hk _ (Option.some.inj hf).symm)
    · refine x_aload_n (pc2 := 80) C dX1_runAnew_79 7 rfl rfl rfl ?_
      refine x_aload_n (pc2 := 81) C dX1_runAnew_80 6 rfl rfl rfl ?_
      refine x_aload (pc2 := 83) C dX1_runAnew_81 1 rfl rfl ?_
      refine x_iload (pc2 := 85) C dX1_runAnew_83 0 rfl rfl ?_
      refine x_ret (rest := [_, _]) (st2 := [_, _, _]) (pc2 := 88) (cu2 := 0) (su2 := 0) (x_cV C (by assumption) (Nat.le_of_ble_eq_true rfl) kmX0_transactionIn rfl kk_1_170 (tX0_transactionIn hok (by assumption)) rfl rfl (Nat.le_of_ble_eq_true rfl) ⟨Nat.le_of_ble_eq_true rfl, Nat.le_of_ble_eq_true rfl⟩ ⟨Nat.le_of_ble_eq_true rfl, Nat.le_of_ble_eq_true rfl⟩ dX1_runAnew_85) rfl rfl rfl rfl ?_
      refine x_ret (rest := [_]) (st2 := [_, _]) (pc2 := 91) (cu2 := 0) (su2 := 0) (x_cV C (by assumption) (Nat.le_of_ble_eq_true rfl) kmX1_numbered rfl kk_1_71 (tX1_numbered hok (by assumption)) rfl rfl (Nat.le_of_ble_eq_true rfl) ⟨Nat.le_of_ble_eq_true rfl, Nat.le_of_ble_eq_true rfl⟩ ⟨Nat.le_of_ble_eq_true rfl, Nat.le_of_ble_eq_true rfl⟩ dX1_runAnew_88) rfl rfl rfl rfl ?_
      have qd_2 := D_numbered hok (Ω := Ω) (i := y0) (by assumption) (x1 := (fX0_transactionIn Ω y7 y8))
      rcases hq_3 : fX4_transact Ω y3 y3 (fX1_numbered Ω y0 (fX0_transactionIn Ω y7 y8)) with _ | r_3
      · exact absurd hf (by rw [fX1_runAnew_l69, if_neg qc_1, hq_3, Option.bind_none]; exact nofun)
      refine x_ret (rest := []) (st2 := []) (pc2 := 94) (cu2 := 0) (su2 := 0) (x_cV C (by assumption) (Nat.le_of_ble_eq_true rfl) kmX4_transact rfl kk_1_121 (tX4_transact hok (by assumption) (by assumption) (by assumption) (dm_f hok 1 (by assumption) rfl rfl (rti_i rfl))  hq_3) rfl rfl (Nat.le_of_ble_eq_true rfl) ⟨Nat.le_of_ble_eq_true rfl, Nat.le_of_ble_eq_true rfl⟩ ⟨Nat.le_of_ble_eq_true rfl, Nat.le_of_ble_eq_true rfl⟩ dX1_runAnew_91) rfl rfl rfl rfl ?_
      refine x_iinc (pc2 := 97) (v := y8 + 1) (lv2 := [(8, _), (7, _), (6, _), (5, _), (4, _), (3, _), (0, _), (1, _), (2, _)]) C dX1_runAnew_94 0 rfl rfl (by decide) rfl rfl ?_
      refine x_goto (tgt := 69) C dX1_runAnew_97 (by decide) ?_
      exact x_sub (lv2 := [(8, _), (7, _), (6, _), (5, _), (4, _), (3, _), (0, _), (1, _), (2, _)]) C [0, 1, 2, 3, 4, 5, 6, 7, 8] rfl (ih (y8 + 1) r_3 (by rw [fX1_runAnew_l69, if_neg qc_1, hq_3, Option.bind_some] at hf; exact hf) hk)
def fX1_runAnew_l26 (y5 : Int32) (y4 : Nat) (y3 : Nat) (y0 : Nat) (y2 : Nat) : Nat → Int32 → XO → Option (Int32 × XO)
  | 0, _, _ => none
  | n + 1, y6, Ω => (if y5 ≤ y6 then (some (y6, Ω)) else (if inB y6 24 then (if (fX0_comesFrom Ω y2 (24 * y4 + y6.toNatClampNeg)) = 0 then fX1_runAnew_l26 y5 y4 y3 y0 y2 n (y6 + 1) Ω else (wl (fX0_imitate Ω y3 (24 * y4 + y6.toNatClampNeg)) (fun Ω_5 => (fX4_open Ω_5 y3 (fX1_isUpgraded Ω_5 y0 (24 * y4 + y6.toNatClampNeg))).bind (fun r_6 => (fX1_runAnew_l69 (24 * y4 + y6.toNatClampNeg) y6 y5 y4 y3 y0 y2 41 (0 : Int32) r_6).bind (fun q_7 => fX1_runAnew_l26 y5 y4 y3 y0 y2 n (y6 + 1) q_7.2))))) else none))
set_option maxRecDepth 20000 in
theorem lX1_runAnew_l26 {G : XG} (hok : XK G) {B : XB} {y5 : Int32} {y4 : Nat} {y3 : Nat} {y0 : Nat} {y2 : Nat}  (hf4 : dm G 2002 y4) (hf3 : dm G 0 y3) (hf0 : dm G 1 y0) (hf1 : dm G 4 0) (hf2 : dm G 0 y2)   {T : Option Value ⊕ String} {Ω9 : XO} (C : XC G B cX1_runAnew RX1 (RM 15 0) 9 ((some FieldType.int)) T Ω9) : ∀ (n : Nat) (y6 : Int32) (Ω : XO) {r : (Int32 × XO)}, fX1_runAnew_l26 y5 y4 y3 y0 y2 n y6 Ω = some r → (∀ q, r = q → (XW G B 9 106 [(3, .ref (ad G 0 (y3)))] [] q.2 0 0)) → XW G B 9 26 [(6, .int (y6)), (5, .int (y5)), (4, .ref (ad G 2002 (y4))), (3, .ref (ad G 0 (y3))), (0, .ref (ad G 1 (y0))), (1, .ref (ad G 4 (0))), (2, .ref (ad G 0 (y2)))] [] Ω 0 0 := by
  intro n
  induction n with
  | zero => intro y6 Ω r hf; exact absurd hf (by rw [fX1_runAnew_l26]; exact nofun)
  | succ n ih =>
    intro y6 Ω r hf hk
    refine x_iload (pc2 := 28) C dX1_runAnew_26 0 rfl rfl ?_
    refine x_iload (pc2 := 30) C dX1_runAnew_28 1 rfl rfl ?_
    refine x_icmp_ge (tgt := 106) (pc2 := 33) C dX1_runAnew_30 (by decide) rfl (fun qc_1 => ?_) (fun qc_1 => ?_)
    · rw [fX1_runAnew_l26, if_pos qc_1] at hf
      exact x_sub (lv2 := [(3, _)]) C [3] rfl (hk _ (Option.some.inj hf).symm)
    · refine x_aload (pc2 := 35) C dX1_runAnew_33 2 rfl rfl ?_
      refine x_iload (pc2 := 37) C dX1_runAnew_35 0 rfl rfl ?_
      rcases (Decidable.em (inB y6 24)).symm with qg_2 | qg_2
      · exact absurd hf (by rw [fX1_runAnew_l26, if_neg qc_1, if_neg qg_2]; exact nofun)
      refine x_aald (k2 := 0) (pc2 := 38) C (by assumption) dX1_runAnew_37 rfl rfl (inB_in qg_2) rfl (eli_2002 _ _) rfl (fun qd_3 => ?_)
      refine x_astore (pc2 := 40) (lv2 := [(7, _), (6, _), (5, _), (4, _), (3, _), (0, _), (1, _), (2, _)]) C dX1_runAnew_38 (by decide) rfl rfl ?_
      refine x_aload_n (pc2 := 41) C dX1_runAnew_40 7 rfl rfl rfl ?_
      refine x_aload (pc2 := 43) C dX1_runAnew_41 0 rfl rfl ?_
      refine x_ret (rest := []) (st2 := [_]) (pc2 := 46) (cu2 := 0) (su2 := 0) (x_cV C (by assumption) (Nat.le_of_ble_eq_true rfl) kmX0_comesFrom rfl kk_1_55 (tX0_comesFrom hok (by assumption) (by assumption)) rfl rfl (Nat.le_of_ble_eq_true rfl) ⟨Nat.le_of_ble_eq_true rfl, Nat.le_of_ble_eq_true rfl⟩ ⟨Nat.le_of_ble_eq_true rfl, Nat.le_of_ble_eq_true rfl⟩ dX1_runAnew_43) rfl rfl rfl rfl ?_
      refine x_if_eq (tgt := 100) (pc2 := 49) C dX1_runAnew_46 (by decide) rfl (fun qc_4 => ?_) (fun qc_4 => ?_)
      · refine x_iinc (pc2 := 103) (v := y6 + 1) (lv2 := [(6, _), (7, _), (5, _), (4, _), (3, _), (0, _), (1, _), (2, _)]) C dX1_runAnew_100 1 rfl rfl (by decide) rfl rfl ?_
        refine x_goto (tgt := 26) C dX1_runAnew_103 (by decide) ?_
        exact x_sub (lv2 := [(6, _), (5, _), (4, _), (3, _), (0, _), (1, _), (2, _)]) C [0, 2, 3, 4, 5, 6, 7] rfl (ih (y6 + 1) Ω (by rw [fX1_runAnew_l26, if_neg qc_1, if_pos qg_2, if_pos qc_4] at hf; exact hf) hk)
      · refine x_aload_n (pc2 := 50) C dX1_runAnew_49 4 rfl rfl rfl ?_
        refine x_aload (pc2 := 52) C dX1_runAnew_50 0 rfl rfl ?_
        refine x_ret (rest := []) (st2 := []) (pc2 := 55) (cu2 := 0) (su2 := 0) (x_cV C (by assumption) (Nat.le_of_ble_eq_true rfl) kmX0_imitate rfl kk_1_163 (tX0_imitate hok (by assumption) (by assumption)) rfl rfl (Nat.le_of_ble_eq_true rfl) ⟨Nat.le_of_ble_eq_true rfl, Nat.le_of_ble_eq_true rfl⟩ ⟨Nat.le_of_ble_eq_true rfl, Nat.le_of_ble_eq_true rfl⟩ dX1_runAnew_52) rfl rfl rfl rfl ?_
        obtain ⟨Ω_5, hw_5⟩ : ∃ z, z = fX0_imitate Ω y3 (24 * y4 + y6.toNatClampNeg) := ⟨_, rfl⟩
        refine x_om hw_5 ?_
        refine x_aload_n (pc2 := 56) C dX1_runAnew_55 6 rfl rfl rfl ?_
        refine x_aload_n (pc2 := 57) C dX1_runAnew_56 4 rfl rfl rfl ?_
        refine x_aload_n (pc2 := 58) C dX1_runAnew_57 5 rfl rfl rfl ?_
        refine x_aload (pc2 := 60) C dX1_runAnew_58 0 rfl rfl ?_
        refine x_ret (rest := [_, _]) (st2 := [_, _, _]) (pc2 := 63) (cu2 := 0) (su2 := 0) (x_cV C (by assumption) (Nat.le_of_ble_eq_true rfl) kmX1_isUpgraded rfl kk_1_108 (tX1_isUpgraded hok (by assumption) (by assumption)) rfl rfl (Nat.le_of_ble_eq_true rfl) ⟨Nat.le_of_ble_eq_true rfl, Nat.le_of_ble_eq_true rfl⟩ ⟨Nat.le_of_ble_eq_true rfl, Nat.le_of_ble_eq_true rfl⟩ dX1_runAnew_60) rfl rfl rfl rfl ?_
        rcases hq_6 : fX4_open Ω_5 y3 (fX1_isUpgraded Ω_5 y0 (24 * y4 + y6.toNatClampNeg)) with _ | r_6
        · exact absurd hf (by rw [fX1_runAnew_l26, if_neg qc_1, if_pos qg_2, if_neg qc_4, wl_eq hw_5, hq_6, Option.bind_none]; exact nofun)
        refine x_ret (rest := []) (st2 := []) (pc2 := 66) (cu2 := 0) (su2 := 0) (x_cV C (by assumption) (Nat.le_of_ble_eq_true rfl) kmX4_open rfl kk_1_111 (tX4_open hok (by assumption) (by assumption)  hq_6) rfl rfl (Nat.le_of_ble_eq_true rfl) ⟨Nat.le_of_ble_eq_true rfl, Nat.le_of_ble_eq_true rfl⟩ ⟨Nat.le_of_ble_eq_true rfl, Nat.le_of_ble_eq_true rfl⟩ dX1_runAnew_63) rfl rfl rfl rfl ?_
        refine x_iconst (pc2 := 67) (v := 0) C dX1_runAnew_66 rfl rfl ?_
        refine x_istore (pc2 := 69) (lv2 := [(8, _), (7, _), (6, _), (5, _), (4, _), (3, _), (0, _), (1, _), (2, _)]) C dX1_runAnew_67 (by decide) rfl rfl ?_
        rcases hq_7 : fX1_runAnew_l69 (24 * y4 + y6.toNatClampNeg) y6 y5 y4 y3 y0 y2 41 (0 : Int32) r_6 with _ | q_7
        · exact absurd hf (by rw [fX1_runAnew_l26, if_neg qc_1, if_pos qg_2, if_neg qc_4, wl_eq hw_5, hq_6, Option.bind_some, hq_7, Option.bind_none]; exact nofun)
        refine x_sub (lv2 := [(8, _), (7, _), (6, _), (5, _), (4, _), (3, _), (0, _), (1, _), (2, _)]) C [0, 1, 2, 3, 4, 5, 6, 7, 8] rfl (lX1_runAnew_l69 hok (by assumption) (by assumption) (by assumption) (by assumption) (by assumption) (by assumption) C 41 (0 : Int32) r_6 hq_7 (fun q9 h9 => ?_))
        cases h9
        refine x_iinc (pc2 := 103) (v := y6 + 1) (lv2 := [(6, _), (5, _), (4, _), (3, _), (0, _), (1, _), (2, _)]) C dX1_runAnew_100 0 rfl rfl (by decide) rfl rfl ?_
        refine x_goto (tgt := 26) C dX1_runAnew_103 (by decide) ?_
        exact x_sub (lv2 := [(6, _), (5, _), (4, _), (3, _), (0, _), (1, _), (2, _)]) C [0, 1, 2, 3, 4, 5, 6] rfl (ih (y6 + 1) q_7.2 (by rw [fX1_runAnew_l26, if_neg qc_1, if_pos qg_2, if_neg qc_4, wl_eq hw_5, hq_6, Option.bind_some, hq_7, Option.bind_some] at hf; exact hf) hk)
def fX1_runAnew (Ω : XO) (i : Nat) (i2 : Nat) : Option (Int32 × XO) := (wl (fX6_becomeFirst Ω 48) (fun Ω_3 => (fX1_runAnew_l26 (nI (alen 2002)) i 48 i i2 ((nI (alen 2002)).toNatClampNeg + 1) (0 : Int32) Ω_3).bind (fun q_5 => (some (fX10_nodeOver q_5.2 48 (4 : Int32) (0 : Int32), q_5.2)))))
set_option maxRecDepth 20000 in
theorem tX1_runAnew {G : XG} (hok : XK G) {i : Nat} {i2 : Nat} {Ω : XO} (hd0 : dm G 1 i) (hd1 : dm G 4 0) (hd2 : dm G 0 i2)   {r : Int32 × XO} (hf : fX1_runAnew Ω i i2 = some r) : XM G yX1_runAnew cX1_runAnew 9 ((some FieldType.int)) (RM 15 0) [.ref (ad G 1 i), .ref (ad G 4 0), .ref (ad G 0 i2)] Ω (.inl (some (.int (r.1)))) r.2 := by
  refine x_start (lv := [(0, .ref (ad G 1 i)), (1, .ref (ad G 4 0)), (2, .ref (ad G 0 i2))]) (own := RX1) hok (by decide +kernel) rfl (Nat.le_of_ble_eq_true rfl) rfl (fun B C => ?_)
  refine x_aload_n (pc2 := 1) C dX1_runAnew_0 1 rfl rfl rfl ?_
  refine x_getR (f := 402) (k2 := 0) (pc2 := 4) C (by assumption) kf_1_152 dX1_runAnew_1 rfl rfl rfl (rti_b _) rfl (fun qd_1 => ?_)
  refine x_astore_n (pc2 := 5) (lv2 := [(3, _), (0, _), (1, _), (2, _)]) C dX1_runAnew_4 rfl (by decide) rfl rfl ?_
  refine x_aload_n (pc2 := 6) C dX1_runAnew_5 0 rfl rfl rfl ?_
  refine x_getR (f := 1) (k2 := 6) (pc2 := 9) C (by assumption) kf_1_156 dX1_runAnew_6 rfl rfl rfl (rti_i rfl) rfl (fun qd_2 => ?_)
  refine x_ret (rest := []) (st2 := []) (pc2 := 12) (cu2 := 0) (su2 := 0) (x_cV C (by assumption) (Nat.le_of_ble_eq_true rfl) kmX6_becomeFirst rfl kk_1_160 (tX6_becomeFirst hok (by assumption)) rfl rfl (Nat.le_of_ble_eq_true rfl) ⟨Nat.le_of_ble_eq_true rfl, Nat.le_of_ble_eq_true rfl⟩ ⟨Nat.le_of_ble_eq_true rfl, Nat.le_of_ble_eq_true rfl⟩ dX1_runAnew_9) rfl rfl rfl rfl ?_
  obtain ⟨Ω_3, hw_3⟩ : ∃ z, z = fX6_becomeFirst Ω 48 := ⟨_, rfl⟩
  refine x_om hw_3 ?_
  refine x_aload_n (pc2 := 13) C dX1_runAnew_12 1 rfl rfl rfl ?_
  refine x_getR (f := 100) (k2 := 2002) (pc2 := 16) C (by assumption) kf_1_11 dX1_runAnew_13 rfl rfl rfl (rti_i rfl) rfl (fun qd_4 => ?_)
  refine x_astore (pc2 := 18) (lv2 := [(4, _), (3, _), (0, _), (1, _), (2, _)]) C dX1_runAnew_16 (by decide) rfl rfl ?_
  refine x_aload (pc2 := 20) C dX1_runAnew_18 0 rfl rfl ?_
  refine x_alen (pc2 := 21) C (by assumption) dX1_runAnew_20 rfl rfl rfl ?_
  refine x_istore (pc2 := 23) (lv2 := [(5, _), (4, _), (3, _), (0, _), (1, _), (2, _)]) C dX1_runAnew_21 (by decide) rfl rfl ?_
  refine x_iconst (pc2 := 24) (v := 0) C dX1_runAnew_23 rfl rfl ?_
  refine x_istore (pc2 := 26) (lv2 := [(6, _), (5, _), (4, _), (3, _), (0, _), (1, _), (2, _)]) C dX1_runAnew_24 (by decide) rfl rfl ?_
  rcases hq_5 : fX1_runAnew_l26 (nI (alen 2002)) i 48 i i2 ((nI (alen 2002)).toNatClampNeg + 1) (0 : Int32) Ω_3 with _ | q_5
  · exact absurd hf (by rw [fX1_runAnew, wl_eq hw_3, hq_5, Option.bind_none]; exact nofun)
  refine x_sub (lv2 := [(6, _), (5, _), (4, _), (3, _), (0, _), (1, _), (2, _)]) C [0, 1, 2, 3, 4, 5, 6] rfl (lX1_runAnew_l26 hok (by assumption) (by assumption) (by assumption) (by assumption) (by assumption) C ((nI (alen 2002)).toNatClampNeg + 1) (0 : Int32) Ω_3 hq_5 (fun q9 h9 => ?_))
  cases h9
  refine x_aload_n (pc2 := 107) C dX1_runAnew_106 0 rfl rfl rfl ?_
  refine x_getR (f := 1) (k2 := 6) (pc2 := 110) C (by assumption) kf_1_156 dX1_runAnew_107 rfl rfl rfl (rti_i rfl) rfl (fun qd_6 => ?_)
  refine x_iconst (pc2 := 111) (v := 4) C dX1_runAnew_110 rfl rfl ?_
  refine x_iconst (pc2 := 112) (v := 0) C dX1_runAnew_111 rfl rfl ?_
  refine x_ret (rest := []) (st2 := [_]) (pc2 := 115) (cu2 := 0) (su2 := 0) (x_cSN C kmX10_nodeOver ke_1_173 (tX10_nodeOver hok (by assumption)) rfl rfl (Nat.le_of_ble_eq_true rfl) ⟨Nat.le_of_ble_eq_true rfl, Nat.le_of_ble_eq_true rfl⟩ ⟨Nat.le_of_ble_eq_true rfl, Nat.le_of_ble_eq_true rfl⟩ dX1_runAnew_112) rfl rfl rfl rfl ?_
  rw [fX1_runAnew, wl_eq hw_3, hq_5, Option.bind_some] at hf
  obtain rfl := (Option.some.inj hf).symm
  exact x_ireturn C dX1_runAnew_115 rfl (Nat.le_of_ble_eq_true rfl) (Nat.le_of_ble_eq_true rfl) rfl rfl
