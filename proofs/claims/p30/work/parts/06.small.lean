
theorem R_sPut (Ω : XO) (k i : Nat) (j v : Int32) : xR (sPut Ω k i j v) = xR Ω := by
  unfold sPut
  (repeat' split) <;> rfl
theorem x_take {Ω : XO} {i : Nat} {v : Int32} (h1 : ¬ v ≤ 0) (h2 : v ≤ nI (alen 2005)) : vp_in (xI (uI Ω 301 i 0 (v - 1)) 301 i 0) (alen 2005) := by
  rw [I_uI, if_pos ⟨rfl, rfl, rfl⟩]
  have h3 : ¬ v < 0 := fun h => h1 (Int32.le_of_lt h)
  obtain ⟨j, hj, rfl⟩ := nI_of h3
  have h4 : j ≤ 16 := (nI_leI hj (by decide)).mp h2
  have h5 : ¬ j ≤ 0 := fun h => h1 ((nI_leI hj (by decide)).mpr h)
  obtain ⟨k, rfl⟩ : ∃ k, j = k + 1 := ⟨j - 1, by omega⟩
  rw [nI_pred]
  exact vp_in_nI (show k < 16 by omega) (by decide)
theorem dm_f {G : XG} (hok : XK G) {k i k2 i2 : Nat} (j : Nat) (h : dm G k i) (hs : sK 3 k j = true) (e1 : rtk k j = k2) (e2 : rti k j i = i2) : dm G k2 i2 := by
  obtain ⟨h1, h2, h3⟩ := sok hs
  rw [← e1, ← e2]
  exact hok.2.2.2.1 k j i h h1 h2 h3
theorem dm_a {G : XG} (hok : XK G) {k i k2 i2 : Nat} (j : Nat) (h : dm G k i) (hs : sB k = true) (hj : j < alen k) (e1 : elk k = k2) (e2 : eli k i j = i2) : dm G k2 i2 := by
  rw [← e1, ← e2]
  exact hok.2.2.2.2 k i j h (sbk hs).1 (sbk hs).2 hj
theorem cl_lt {x v : Int32} {n : Nat} (h1 : ¬ x < 0) (h2 : ¬ v ≤ x) (hv : v.toInt = (n : Int)) : x.toNatClampNeg < n := by
  have h := vp_in_iff.mp (x_in2 h1 h2 hv)
  show x.toInt.toNat < n
  omega
def fX0_imitate (Ω : XO) (i : Nat) (i1 : Nat) : XO := uI (uI (uI Ω 3 i 0 (xI Ω 3 i1 0)) 5 i 0 (xI (uI Ω 3 i 0 (xI Ω 3 i1 0)) 5 i1 0)) 10 i 0 (0 : Int32)
set_option maxRecDepth 20000 in
theorem tX0_imitate {G : XG} (hok : XK G) {i : Nat} {i1 : Nat} {Ω : XO} (hd0 : dm G 0 i) (hd1 : dm G 0 i1)   : XM G yX0_imitate cX0_imitate 2 none (RM 0 0) [.ref (ad G 0 i), .ref (ad G 0 i1)] Ω (.inl none) (fX0_imitate Ω i i1) := by
  refine x_start (lv := [(0, .ref (ad G 0 i)), (1, .ref (ad G 0 i1))]) (own := RX0) hok (by decide +kernel) rfl (Nat.le_of_ble_eq_true rfl) rfl (fun B C => ?_)
  refine x_aload_n (pc2 := 1) C dX0_imitate_0 0 rfl rfl rfl ?_
  refine x_aload_n (pc2 := 2) C dX0_imitate_1 1 rfl rfl rfl ?_
  refine x_getI (pc2 := 5) (f := 3) C (by assumption) kf_0_48 dX0_imitate_2 rfl rfl rfl ?_
  refine x_putI (pc2 := 8) (f := 3) C (by assumption) kf_0_48 dX0_imitate_5 rfl rfl rfl rfl rfl ?_
  refine x_aload_n (pc2 := 9) C dX0_imitate_8 0 rfl rfl rfl ?_
  refine x_aload_n (pc2 := 10) C dX0_imitate_9 1 rfl rfl rfl ?_
  refine x_getI (pc2 := 13) (f := 5) C (by assumption) kf_0_18 dX0_imitate_10 rfl rfl rfl ?_
  refine x_putI (pc2 := 16) (f := 5) C (by assumption) kf_0_18 dX0_imitate_13 rfl rfl rfl rfl rfl ?_
  refine x_aload_n (pc2 := 17) C dX0_imitate_16 0 rfl rfl rfl ?_
  refine x_iconst (pc2 := 18) (v := 0) C dX0_imitate_17 rfl rfl ?_
  refine x_putI (pc2 := 21) (f := 10) C (by assumption) kf_0_71 dX0_imitate_18 rfl rfl rfl rfl rfl ?_
  exact x_vreturn C dX0_imitate_21 rfl (Nat.le_of_ble_eq_true rfl) (Nat.le_of_ble_eq_true rfl) rfl (by rw [fX0_imitate] <;> rfl)
theorem R_fX0_imitate (Ω : XO) (i : Nat) (i1 : Nat) : xR (fX0_imitate Ω i i1) = xR Ω := by
  unfold fX0_imitate
  (repeat' split) <;> first | rfl | (funext a b9; simp only [R_uI, R_uL, R_cI, R_sPut])

def fX0_enter (Ω : XO) (i : Nat) (x1 : Int32) (x2 : Int32) (x3 : Int32) : XO := (if x3 = 0 then uL (uI (uI (sPut Ω 2000 i (xI Ω 8 i 0) ((((100000 : Int32) * x2) + ((10 : Int32) * x1)) + (0 : Int32))) 8 i 0 ((xI (sPut Ω 2000 i (xI Ω 8 i 0) ((((100000 : Int32) * x2) + ((10 : Int32) * x1)) + (0 : Int32))) 8 i 0) + (1 : Int32))) 6 i 0 ((xI (uI (sPut Ω 2000 i (xI Ω 8 i 0) ((((100000 : Int32) * x2) + ((10 : Int32) * x1)) + (0 : Int32))) 8 i 0 ((xI (sPut Ω 2000 i (xI Ω 8 i 0) ((((100000 : Int32) * x2) + ((10 : Int32) * x1)) + (0 : Int32))) 8 i 0) + (1 : Int32))) 6 i 0) + x2)) 17 i 0 ((xL (uI (uI (sPut Ω 2000 i (xI Ω 8 i 0) ((((100000 : Int32) * x2) + ((10 : Int32) * x1)) + (0 : Int32))) 8 i 0 ((xI (sPut Ω 2000 i (xI Ω 8 i 0) ((((100000 : Int32) * x2) + ((10 : Int32) * x1)) + (0 : Int32))) 8 i 0) + (1 : Int32))) 6 i 0 ((xI (uI (sPut Ω 2000 i (xI Ω 8 i 0) ((((100000 : Int32) * x2) + ((10 : Int32) * x1)) + (0 : Int32))) 8 i 0 ((xI (sPut Ω 2000 i (xI Ω 8 i 0) ((((100000 : Int32) * x2) + ((10 : Int32) * x1)) + (0 : Int32))) 8 i 0) + (1 : Int32))) 6 i 0) + x2)) 17 i 0) ||| ((1 : Int64) <<< (x1.toInt64 &&& 63))) else uL (uI (uI (sPut Ω 2000 i (xI Ω 8 i 0) ((((100000 : Int32) * x2) + ((10 : Int32) * x1)) + (1 : Int32))) 8 i 0 ((xI (sPut Ω 2000 i (xI Ω 8 i 0) ((((100000 : Int32) * x2) + ((10 : Int32) * x1)) + (1 : Int32))) 8 i 0) + (1 : Int32))) 6 i 0 ((xI (uI (sPut Ω 2000 i (xI Ω 8 i 0) ((((100000 : Int32) * x2) + ((10 : Int32) * x1)) + (1 : Int32))) 8 i 0 ((xI (sPut Ω 2000 i (xI Ω 8 i 0) ((((100000 : Int32) * x2) + ((10 : Int32) * x1)) + (1 : Int32))) 8 i 0) + (1 : Int32))) 6 i 0) + x2)) 17 i 0 ((xL (uI (uI (sPut Ω 2000 i (xI Ω 8 i 0) ((((100000 : Int32) * x2) + ((10 : Int32) * x1)) + (1 : Int32))) 8 i 0 ((xI (sPut Ω 2000 i (xI Ω 8 i 0) ((((100000 : Int32) * x2) + ((10 : Int32) * x1)) + (1 : Int32))) 8 i 0) + (1 : Int32))) 6 i 0 ((xI (uI (sPut Ω 2000 i (xI Ω 8 i 0) ((((100000 : Int32) * x2) + ((10 : Int32) * x1)) + (1 : Int32))) 8 i 0 ((xI (sPut Ω 2000 i (xI Ω 8 i 0) ((((100000 : Int32) * x2) + ((10 : Int32) * x1)) + (1 : Int32))) 8 i 0) + (1 : Int32))) 6 i 0) + x2)) 17 i 0) ||| ((1 : Int64) <<< (x1.toInt64 &&& 63))))
set_option maxRecDepth 20000 in
theorem tX0_enter {G : XG} (hok : XK G) {i : Nat} {x1 : Int32} {x2 : Int32} {x3 : Int32} {Ω : XO} (hd0 : dm G 0 i)   : XM G yX0_enter cX0_enter 4 none (RM 1 0) [.ref (ad G 0 i), .int x1, .int x2, .int x3] Ω (.inl none) (fX0_enter Ω i x1 x2 x3) := by
  refine x_start (lv := [(0, .ref (ad G 0 i)), (1, .int x1), (2, .int x2), (3, .int x3)]) (own := RX0) hok (by decide +kernel) rfl (Nat.le_of_ble_eq_true rfl) rfl (fun B C => ?_)
  refine x_aload_n (pc2 := 1) C dX0_enter_0 0 rfl rfl rfl ?_
  refine x_getR (f := 7) (k2 := 2000) (pc2 := 4) C (by assumption) kf_0_22 dX0_enter_1 rfl rfl rfl (rti_i rfl) rfl (fun qd_1 => ?_)
  refine x_aload_n (pc2 := 5) C dX0_enter_4 0 rfl rfl rfl ?_
  refine x_getI (pc2 := 8) (f := 8) C (by assumption) kf_0_74 dX0_enter_5 rfl rfl rfl ?_
  refine x_ldc (pc2 := 10) C kc_0_77 dX0_enter_8 rfl ?_
  refine x_iload_n (pc2 := 11) C dX0_enter_10 2 rfl rfl rfl ?_
  refine x_imul (pc2 := 12) C dX0_enter_11 rfl ?_
  refine x_bipush (pc2 := 14) (v := 10) C dX0_enter_12 rfl rfl ?_
  refine x_iload_n (pc2 := 15) C dX0_enter_14 1 rfl rfl rfl ?_
  refine x_imul (pc2 := 16) C dX0_enter_15 rfl ?_
  refine x_iadd (pc2 := 17) C dX0_enter_16 rfl ?_
  refine x_iload_n (pc2 := 18) C dX0_enter_17 3 rfl rfl rfl ?_
  refine x_if_eq (tgt := 25) (pc2 := 21) C dX0_enter_18 (by decide) rfl (fun qc_2 => ?_) (fun qc_2 => ?_)
  · refine x_iconst (pc2 := 26) (v := 0) C dX0_enter_25 rfl rfl ?_
    refine x_iadd (pc2 := 27) C dX0_enter_26 rfl ?_
    refine x_ret (rest := []) (st2 := []) (pc2 := 30) (cu2 := 0) (su2 := 0) (x_cSN C kmX10_put ke_0_78 (tX10_put hok (by assumption) rfl (by decide)) rfl rfl (Nat.le_of_ble_eq_true rfl) ⟨Nat.le_of_ble_eq_true rfl, Nat.le_of_ble_eq_true rfl⟩ ⟨Nat.le_of_ble_eq_true rfl, Nat.le_of_ble_eq_true rfl⟩ dX0_enter_27) rfl rfl rfl rfl ?_
    refine x_aload_n (pc2 := 31) C dX0_enter_30 0 rfl rfl rfl ?_
    refine x_dup (pc2 := 32) C dX0_enter_31 rfl rfl ?_
    refine x_getI (pc2 := 35) (f := 8) C (by assumption) kf_0_74 dX0_enter_32 rfl rfl rfl ?_
    refine x_iconst (pc2 := 36) (v := 1) C dX0_enter_35 rfl rfl ?_
    refine x_iadd (pc2 := 37) C dX0_enter_36 rfl ?_
    refine x_putI (pc2 := 40) (f := 8) C (by assumption) kf_0_74 dX0_enter_37 rfl rfl rfl rfl rfl ?_
    refine x_aload_n (pc2 := 41) C dX0_enter_40 0 rfl rfl rfl ?_
    refine x_dup (pc2 := 42) C dX0_enter_41 rfl rfl ?_
    refine x_getI (pc2 := 45) (f := 6) C (by assumption) kf_0_54 dX0_enter_42 rfl rfl rfl ?_
    refine x_iload_n (pc2 := 46) C dX0_enter_45 2 rfl rfl rfl ?_
    refine x_iadd (pc2 := 47) C dX0_enter_46 rfl ?_
    refine x_putI (pc2 := 50) (f := 6) C (by assumption) kf_0_54 dX0_enter_47 rfl rfl rfl rfl rfl ?_
    refine x_aload_n (pc2 := 51) C dX0_enter_50 0 rfl rfl rfl ?_
    refine x_dup (pc2 := 52) C dX0_enter_51 rfl rfl ?_
    refine x_getL (pc2 := 55) (f := 17) C (by assumption) kf_0_63 dX0_enter_52 rfl rfl rfl ?_
    refine x_lconst (pc2 := 56) (v := 1) C dX0_enter_55 rfl rfl ?_
    refine x_iload_n (pc2 := 57) C dX0_enter_56 1 rfl rfl rfl ?_
    refine x_lshl (pc2 := 58) C dX0_enter_57 rfl ?_
    refine x_lor (pc2 := 59) C dX0_enter_58 rfl ?_
    refine x_putL (pc2 := 62) (f := 17) C (by assumption) kf_0_63 dX0_enter_59 rfl rfl rfl rfl rfl ?_
    exact x_vreturn C dX0_enter_62 rfl (Nat.le_of_ble_eq_true rfl) (Nat.le_of_ble_eq_true rfl) rfl (by rw [fX0_enter, if_pos qc_2] <;> rfl)
  · refine x_iconst (pc2 := 22) (v := 1) C dX0_enter_21 rfl rfl ?_
    refine x_goto (tgt := 26) C dX0_enter_22 (by decide) ?_
    refine x_iadd (pc2 := 27) C dX0_enter_26 rfl ?_
    refine x_ret (rest := []) (st2 := []) (pc2 := 30) (cu2 := 0) (su2 := 0) (x_cSN C kmX10_put ke_0_78 (tX10_put hok (by assumption) rfl (by decide)) rfl rfl (Nat.le_of_ble_eq_true rfl) ⟨Nat.le_of_ble_eq_true rfl, Nat.le_of_ble_eq_true rfl⟩ ⟨Nat.le_of_ble_eq_true rfl, Nat.le_of_ble_eq_true rfl⟩ dX0_enter_27) rfl rfl rfl rfl ?_
    refine x_aload_n (pc2 := 31) C dX0_enter_30 0 rfl rfl rfl ?_
    refine x_dup (pc2 := 32) C dX0_enter_31 rfl rfl ?_
    refine x_getI (pc2 := 35) (f := 8) C (by assumption) kf_0_74 dX0_enter_32 rfl rfl rfl ?_
    refine x_iconst (pc2 := 36) (v := 1) C dX0_enter_35 rfl rfl ?_
    refine x_iadd (pc2 := 37) C dX0_enter_36 rfl ?_
    refine x_putI (pc2 := 40) (f := 8) C (by assumption) kf_0_74 dX0_enter_37 rfl rfl rfl rfl rfl ?_
    refine x_aload_n (pc2 := 41) C dX0_enter_40 0 rfl rfl rfl ?_
    refine x_dup (pc2 := 42) C dX0_enter_41 rfl rfl ?_
    refine x_getI (pc2 := 45) (f := 6) C (by assumption) kf_0_54 dX0_enter_42 rfl rfl rfl ?_
    refine x_iload_n (pc2 := 46) C dX0_enter_45 2 rfl rfl rfl ?_
    refine x_iadd (pc2 := 47) C dX0_enter_46 rfl ?_
    refine x_putI (pc2 := 50) (f := 6) C (by assumption) kf_0_54 dX0_enter_47 rfl rfl rfl rfl rfl ?_
    refine x_aload_n (pc2 := 51) C dX0_enter_50 0 rfl rfl rfl ?_
    refine x_dup (pc2 := 52) C dX0_enter_51 rfl rfl ?_
    refine x_getL (pc2 := 55) (f := 17) C (by assumption) kf_0_63 dX0_enter_52 rfl rfl rfl ?_
    refine x_lconst (pc2 := 56) (v := 1) C dX0_enter_55 rfl rfl ?_
    refine x_iload_n (pc2 := 57) C dX0_enter_56 1 rfl rfl rfl ?_
    refine x_lshl (pc2 := 58) C dX0_enter_57 rfl ?_
    refine x_lor (pc2 := 59) C dX0_enter_58 rfl ?_
    refine x_putL (pc2 := 62) (f := 17) C (by assumption) kf_0_63 dX0_enter_59 rfl rfl rfl rfl rfl ?_
    exact x_vreturn C dX0_enter_62 rfl (Nat.le_of_ble_eq_true rfl) (Nat.le_of_ble_eq_true rfl) rfl (by rw [fX0_enter, if_neg qc_2] <;> rfl)
theorem R_fX0_enter (Ω : XO) (i : Nat) (x1 : Int32) (x2 : Int32) (x3 : Int32) : xR (fX0_enter Ω i x1 x2 x3) = xR Ω := by
  unfold fX0_enter
  (repeat' split) <;> first | rfl | (funext a b9; simp only [R_uI, R_uL, R_cI, R_sPut, R_fX0_imitate])

def fX0_transactionIn (Ω : XO) (i : Nat) (x1 : Int32) : Int32 := ((sAt Ω 2000 i x1) - (sAt Ω 2000 i x1) / (100000 : Int32) * (100000 : Int32)) / (10 : Int32)
set_option maxRecDepth 20000 in
theorem tX0_transactionIn {G : XG} (hok : XK G) {i : Nat} {x1 : Int32} {Ω : XO} (hd0 : dm G 0 i)   : XM G yX0_transactionIn cX0_transactionIn 2 ((some FieldType.int)) (RM 1 0) [.ref (ad G 0 i), .int x1] Ω (.inl (some (.int (fX0_transactionIn Ω i x1)))) Ω := by
  refine x_start (lv := [(0, .ref (ad G 0 i)), (1, .int x1)]) (own := RX0) hok (by decide +kernel) rfl (Nat.le_of_ble_eq_true rfl) rfl (fun B C => ?_)
  refine x_aload_n (pc2 := 1) C dX0_transactionIn_0 0 rfl rfl rfl ?_
  refine x_getR (f := 7) (k2 := 2000) (pc2 := 4) C (by assumption) kf_0_22 dX0_transactionIn_1 rfl rfl rfl (rti_i rfl) rfl (fun qd_1 => ?_)
  refine x_iload_n (pc2 := 5) C dX0_transactionIn_4 1 rfl rfl rfl ?_
  refine x_ret (rest := []) (st2 := [_]) (pc2 := 8) (cu2 := 0) (su2 := 0) (x_cSN C kmX10_at ke_0_82 (tX10_at hok (by assumption) rfl (by decide)) rfl rfl (Nat.le_of_ble_eq_true rfl) ⟨Nat.le_of_ble_eq_true rfl, Nat.le_of_ble_eq_true rfl⟩ ⟨Nat.le_of_ble_eq_true rfl, Nat.le_of_ble_eq_true rfl⟩ dX0_transactionIn_5) rfl rfl rfl rfl ?_
  refine x_ldc (pc2 := 10) C kc_0_77 dX0_transactionIn_8 rfl ?_
  refine x_irem (pc2 := 11) C dX0_transactionIn_10 (by decide +kernel) rfl ?_
  refine x_bipush (pc2 := 13) (v := 10) C dX0_transactionIn_11 rfl rfl ?_
  refine x_idiv (pc2 := 14) C dX0_transactionIn_13 (by decide +kernel) rfl ?_
  exact x_ireturn C dX0_transactionIn_14 rfl (Nat.le_of_ble_eq_true rfl) (Nat.le_of_ble_eq_true rfl) (by rw [fX0_transactionIn] <;> rfl) rfl

def fX0_addEvent (Ω : XO) (i : Nat) (x1 : Int32) (x2 : Int32) : XO := (if (xI Ω 10 i 0) < 0 then Ω else (if (nI (alen 2001)) ≤ (xI Ω 10 i 0) then Ω else uI (uI Ω 2001 i (xI Ω 10 i 0).toNatClampNeg (((100 : Int32) * x1) + x2)) 10 i 0 ((xI (uI Ω 2001 i (xI Ω 10 i 0).toNatClampNeg (((100 : Int32) * x1) + x2)) 10 i 0) + (1 : Int32))))
set_option maxRecDepth 20000 in
theorem tX0_addEvent {G : XG} (hok : XK G) {i : Nat} {x1 : Int32} {x2 : Int32} {Ω : XO} (hd0 : dm G 0 i)   : XM G yX0_addEvent cX0_addEvent 3 none (RM 0 0) [.ref (ad G 0 i), .int x1, .int x2] Ω (.inl none) (fX0_addEvent Ω i x1 x2) := by
  refine x_start (lv := [(0, .ref (ad G 0 i)), (1, .int x1), (2, .int x2)]) (own := RX0) hok (by decide +kernel) rfl (Nat.le_of_ble_eq_true rfl) rfl (fun B C => ?_)
  refine x_aload_n (pc2 := 1) C dX0_addEvent_0 0 rfl rfl rfl ?_
  refine x_getI (pc2 := 4) (f := 10) C (by assumption) kf_0_71 dX0_addEvent_1 rfl rfl rfl ?_
  refine x_if_lt (tgt := 44) (pc2 := 7) C dX0_addEvent_4 (by decide) rfl (fun qc_1 => ?_) (fun qc_1 => ?_)
  · exact x_vreturn C dX0_addEvent_44 rfl (Nat.le_of_ble_eq_true rfl) (Nat.le_of_ble_eq_true rfl) rfl (by rw [fX0_addEvent, if_pos qc_1] <;> rfl)
  · refine x_aload_n (pc2 := 8) C dX0_addEvent_7 0 rfl rfl rfl ?_
    refine x_getI (pc2 := 11) (f := 10) C (by assumption) kf_0_71 dX0_addEvent_8 rfl rfl rfl ?_
    refine x_aload_n (pc2 := 12) C dX0_addEvent_11 0 rfl rfl rfl ?_
    refine x_getR (f := 9) (k2 := 2001) (pc2 := 15) C (by assumption) kf_0_26 dX0_addEvent_12 rfl rfl rfl (rti_i rfl) rfl (fun qd_2 => ?_)
    refine x_alen (pc2 := 16) C (by assumption) dX0_addEvent_15 rfl rfl rfl ?_
    refine x_icmp_ge (tgt := 44) (pc2 := 19) C dX0_addEvent_16 (by decide) rfl (fun qc_3 => ?_) (fun qc_3 => ?_)
    · exact x_vreturn C dX0_addEvent_44 rfl (Nat.le_of_ble_eq_true rfl) (Nat.le_of_ble_eq_true rfl) rfl (by rw [fX0_addEvent, if_neg qc_1, if_pos qc_3] <;> rfl)
    · refine x_aload_n (pc2 := 20) C dX0_addEvent_19 0 rfl rfl rfl ?_
      refine x_getR (f := 9) (k2 := 2001) (pc2 := 23) C (by assumption) kf_0_26 dX0_addEvent_20 rfl rfl rfl (rti_i rfl) rfl (fun qd_4 => ?_)
      refine x_aload_n (pc2 := 24) C dX0_addEvent_23 0 rfl rfl rfl ?_
      refine x_getI (pc2 := 27) (f := 10) C (by assumption) kf_0_71 dX0_addEvent_24 rfl rfl rfl ?_
      refine x_bipush (pc2 := 29) (v := 100) C dX0_addEvent_27 rfl rfl ?_
      refine x_iload_n (pc2 := 30) C dX0_addEvent_29 1 rfl rfl rfl ?_
      refine x_imul (pc2 := 31) C dX0_addEvent_30 rfl ?_
      refine x_iload_n (pc2 := 32) C dX0_addEvent_31 2 rfl rfl rfl ?_
      refine x_iadd (pc2 := 33) C dX0_addEvent_32 rfl ?_
      refine x_iast (pc2 := 34) C (by assumption) dX0_addEvent_33 rfl (by first | exact x_in (by assumption) (by assumption) (by decide) | exact x_in3 (by assumption) (by assumption) (by decide) | exact x_in2 (by assumption) (by assumption) (by decide)) rfl ?_
      refine x_aload_n (pc2 := 35) C dX0_addEvent_34 0 rfl rfl rfl ?_
      refine x_dup (pc2 := 36) C dX0_addEvent_35 rfl rfl ?_
      refine x_getI (pc2 := 39) (f := 10) C (by assumption) kf_0_71 dX0_addEvent_36 rfl rfl rfl ?_
      refine x_iconst (pc2 := 40) (v := 1) C dX0_addEvent_39 rfl rfl ?_
      refine x_iadd (pc2 := 41) C dX0_addEvent_40 rfl ?_
      refine x_putI (pc2 := 44) (f := 10) C (by assumption) kf_0_71 dX0_addEvent_41 rfl rfl rfl rfl rfl ?_
      exact x_vreturn C dX0_addEvent_44 rfl (Nat.le_of_ble_eq_true rfl) (Nat.le_of_ble_eq_true rfl) rfl (by rw [fX0_addEvent, if_neg qc_1, if_neg qc_3] <;> rfl)
theorem R_fX0_addEvent (Ω : XO) (i : Nat) (x1 : Int32) (x2 : Int32) : xR (fX0_addEvent Ω i x1 x2) = xR Ω := by
  unfold fX0_addEvent
  (repeat' split) <;> first | rfl | (funext a b9; simp only [R_uI, R_uL, R_cI, R_sPut, R_fX0_imitate, R_fX0_enter])

def fX0_topicIn (Ω : XO) (i : Nat) (x1 : Int32) : Int32 := (sAt Ω 2001 i x1) / (100 : Int32)
set_option maxRecDepth 20000 in
theorem tX0_topicIn {G : XG} (hok : XK G) {i : Nat} {x1 : Int32} {Ω : XO} (hd0 : dm G 0 i)   : XM G yX0_topicIn cX0_topicIn 2 ((some FieldType.int)) (RM 1 0) [.ref (ad G 0 i), .int x1] Ω (.inl (some (.int (fX0_topicIn Ω i x1)))) Ω := by
  refine x_start (lv := [(0, .ref (ad G 0 i)), (1, .int x1)]) (own := RX0) hok (by decide +kernel) rfl (Nat.le_of_ble_eq_true rfl) rfl (fun B C => ?_)
  refine x_aload_n (pc2 := 1) C dX0_topicIn_0 0 rfl rfl rfl ?_
  refine x_getR (f := 9) (k2 := 2001) (pc2 := 4) C (by assumption) kf_0_26 dX0_topicIn_1 rfl rfl rfl (rti_i rfl) rfl (fun qd_1 => ?_)
  refine x_iload_n (pc2 := 5) C dX0_topicIn_4 1 rfl rfl rfl ?_
  refine x_ret (rest := []) (st2 := [_]) (pc2 := 8) (cu2 := 0) (su2 := 0) (x_cSN C kmX10_at ke_0_82 (tX10_at hok (by assumption) rfl (by decide)) rfl rfl (Nat.le_of_ble_eq_true rfl) ⟨Nat.le_of_ble_eq_true rfl, Nat.le_of_ble_eq_true rfl⟩ ⟨Nat.le_of_ble_eq_true rfl, Nat.le_of_ble_eq_true rfl⟩ dX0_topicIn_5) rfl rfl rfl rfl ?_
  refine x_bipush (pc2 := 10) (v := 100) C dX0_topicIn_8 rfl rfl ?_
  refine x_idiv (pc2 := 11) C dX0_topicIn_10 (by decide +kernel) rfl ?_
  exact x_ireturn C dX0_topicIn_11 rfl (Nat.le_of_ble_eq_true rfl) (Nat.le_of_ble_eq_true rfl) (by rw [fX0_topicIn] <;> rfl) rfl

def fX0_comesFrom (Ω : XO) (i : Nat) (i1 : Nat) : Int32 := (if (((xI Ω 16 i 0) >>> ((xI Ω 0 i1 0) &&& 31)) &&& (1 : Int32)) = (1 : Int32) then (1 : Int32) else (0 : Int32))
set_option maxRecDepth 20000 in
theorem tX0_comesFrom {G : XG} (hok : XK G) {i : Nat} {i1 : Nat} {Ω : XO} (hd0 : dm G 0 i) (hd1 : dm G 0 i1)   : XM G yX0_comesFrom cX0_comesFrom 2 ((some FieldType.boolean)) (RM 0 0) [.ref (ad G 0 i), .ref (ad G 0 i1)] Ω (.inl (some (.int (fX0_comesFrom Ω i i1)))) Ω := by
  refine x_start (lv := [(0, .ref (ad G 0 i)), (1, .ref (ad G 0 i1))]) (own := RX0) hok (by decide +kernel) rfl (Nat.le_of_ble_eq_true rfl) rfl (fun B C => ?_)
  refine x_aload_n (pc2 := 1) C dX0_comesFrom_0 0 rfl rfl rfl ?_
  refine x_getI (pc2 := 4) (f := 16) C (by assumption) kf_0_32 dX0_comesFrom_1 rfl rfl rfl ?_
  refine x_aload_n (pc2 := 5) C dX0_comesFrom_4 1 rfl rfl rfl ?_
  refine x_getI (pc2 := 8) (f := 0) C (by assumption) kf_0_29 dX0_comesFrom_5 rfl rfl rfl ?_
  refine x_ishr (pc2 := 9) C dX0_comesFrom_8 rfl ?_
  refine x_iconst (pc2 := 10) (v := 1) C dX0_comesFrom_9 rfl rfl ?_
  refine x_iand (pc2 := 11) C dX0_comesFrom_10 rfl ?_
  refine x_iconst (pc2 := 12) (v := 1) C dX0_comesFrom_11 rfl rfl ?_
  refine x_icmp_ne (tgt := 19) (pc2 := 15) C dX0_comesFrom_12 (by decide) rfl (fun qc_1 => ?_) (fun qc_1 => ?_)
  · refine x_iconst (pc2 := 20) (v := 0) C dX0_comesFrom_19 rfl rfl ?_
    exact x_zreturn C dX0_comesFrom_20 rfl (by first | exact Or.inl rfl | exact Or.inr rfl) (Nat.le_of_ble_eq_true rfl) (Nat.le_of_ble_eq_true rfl) (by rw [fX0_comesFrom, if_neg qc_1] <;> rfl) rfl
  · refine x_iconst (pc2 := 16) (v := 1) C dX0_comesFrom_15 rfl rfl ?_
    refine x_goto (tgt := 20) C dX0_comesFrom_16 (by decide) ?_
    exact x_zreturn C dX0_comesFrom_20 rfl (by first | exact Or.inl rfl | exact Or.inr rfl) (Nat.le_of_ble_eq_true rfl) (Nat.le_of_ble_eq_true rfl) (by rw [fX0_comesFrom, if_pos qc_1] <;> rfl) rfl

def fX0_holds (Ω : XO) (i : Nat) (x1 : Int32) : Int32 := (if (lg_cmp (((xL Ω 17 i 0) >>> (x1.toInt64 &&& 63)) &&& (1 : Int64)) (1 : Int64)) = 0 then (1 : Int32) else (0 : Int32))
set_option maxRecDepth 20000 in
theorem tX0_holds {G : XG} (hok : XK G) {i : Nat} {x1 : Int32} {Ω : XO} (hd0 : dm G 0 i)   : XM G yX0_holds cX0_holds 2 ((some FieldType.boolean)) (RM 0 0) [.ref (ad G 0 i), .int x1] Ω (.inl (some (.int (fX0_holds Ω i x1)))) Ω := by
  refine x_start (lv := [(0, .ref (ad G 0 i)), (1, .int x1)]) (own := RX0) hok (by decide +kernel) rfl (Nat.le_of_ble_eq_true rfl) rfl (fun B C => ?_)
  refine x_aload_n (pc2 := 1) C dX0_holds_0 0 rfl rfl rfl ?_
  refine x_getL (pc2 := 4) (f := 17) C (by assumption) kf_0_63 dX0_holds_1 rfl rfl rfl ?_
  refine x_iload_n (pc2 := 5) C dX0_holds_4 1 rfl rfl rfl ?_
  refine x_lshr (pc2 := 6) C dX0_holds_5 rfl ?_
  refine x_lconst (pc2 := 7) (v := 1) C dX0_holds_6 rfl rfl ?_
  refine x_land (pc2 := 8) C dX0_holds_7 rfl ?_
  refine x_lconst (pc2 := 9) (v := 1) C dX0_holds_8 rfl rfl ?_
  refine x_lcmp (pc2 := 10) C dX0_holds_9 rfl ?_
  refine x_if_ne (tgt := 17) (pc2 := 13) C dX0_holds_10 (by decide) rfl (fun qc_1 => ?_) (fun qc_1 => ?_)
  · refine x_iconst (pc2 := 18) (v := 0) C dX0_holds_17 rfl rfl ?_
    exact x_zreturn C dX0_holds_18 rfl (by first | exact Or.inl rfl | exact Or.inr rfl) (Nat.le_of_ble_eq_true rfl) (Nat.le_of_ble_eq_true rfl) (by rw [fX0_holds, if_neg qc_1] <;> rfl) rfl
  · refine x_iconst (pc2 := 14) (v := 1) C dX0_holds_13 rfl rfl ?_
    refine x_goto (tgt := 18) C dX0_holds_14 (by decide) ?_
    exact x_zreturn C dX0_holds_18 rfl (by first | exact Or.inl rfl | exact Or.inr rfl) (Nat.le_of_ble_eq_true rfl) (Nat.le_of_ble_eq_true rfl) (by rw [fX0_holds, if_pos qc_1] <;> rfl) rfl

def fX0_bloomOf (Ω : XO) (x1 : Int32) : Int32 := ((1 : Int32) <<< ((x1 - x1 / (8 : Int32) * (8 : Int32)) &&& 31)) ||| ((1 : Int32) <<< (((8 : Int32) + ((((5 : Int32) * x1) + (3 : Int32)) - (((5 : Int32) * x1) + (3 : Int32)) / (8 : Int32) * (8 : Int32))) &&& 31))
set_option maxRecDepth 20000 in
theorem tX0_bloomOf {G : XG} (hok : XK G) {x1 : Int32} {Ω : XO}    : XM G yX0_bloomOf cX0_bloomOf 1 ((some FieldType.int)) (RM 0 0) [.int x1] Ω (.inl (some (.int (fX0_bloomOf Ω x1)))) Ω := by
  refine x_start (lv := [(0, .int x1)]) (own := RX0) hok (by decide +kernel) rfl (Nat.le_of_ble_eq_true rfl) rfl (fun B C => ?_)
  refine x_iconst (pc2 := 1) (v := 1) C dX0_bloomOf_0 rfl rfl ?_
  refine x_iload_n (pc2 := 2) C dX0_bloomOf_1 0 rfl rfl rfl ?_
  refine x_bipush (pc2 := 4) (v := 8) C dX0_bloomOf_2 rfl rfl ?_
  refine x_irem (pc2 := 5) C dX0_bloomOf_4 (by decide +kernel) rfl ?_
  refine x_ishl (pc2 := 6) C dX0_bloomOf_5 rfl ?_
  refine x_iconst (pc2 := 7) (v := 1) C dX0_bloomOf_6 rfl rfl ?_
  refine x_bipush (pc2 := 9) (v := 8) C dX0_bloomOf_7 rfl rfl ?_
  refine x_iconst (pc2 := 10) (v := 5) C dX0_bloomOf_9 rfl rfl ?_
  refine x_iload_n (pc2 := 11) C dX0_bloomOf_10 0 rfl rfl rfl ?_
  refine x_imul (pc2 := 12) C dX0_bloomOf_11 rfl ?_
  refine x_iconst (pc2 := 13) (v := 3) C dX0_bloomOf_12 rfl rfl ?_
  refine x_iadd (pc2 := 14) C dX0_bloomOf_13 rfl ?_
  refine x_bipush (pc2 := 16) (v := 8) C dX0_bloomOf_14 rfl rfl ?_
  refine x_irem (pc2 := 17) C dX0_bloomOf_16 (by decide +kernel) rfl ?_
  refine x_iadd (pc2 := 18) C dX0_bloomOf_17 rfl ?_
  refine x_ishl (pc2 := 19) C dX0_bloomOf_18 rfl ?_
  refine x_ior (pc2 := 20) C dX0_bloomOf_19 rfl ?_
  exact x_ireturn C dX0_bloomOf_20 rfl (Nat.le_of_ble_eq_true rfl) (Nat.le_of_ble_eq_true rfl) (by rw [fX0_bloomOf] <;> rfl) rfl

def fX1_numberedBlock (Ω : XO) (i : Nat) (x1 : Int32) : Nat := (if x1 < 0 then 24 * i + (0 : Int32).toNatClampNeg else (if (24 : Int32) ≤ x1 then 24 * i + (0 : Int32).toNatClampNeg else 24 * i + x1.toNatClampNeg))
set_option maxRecDepth 20000 in
theorem tX1_numberedBlock {G : XG} (hok : XK G) {i : Nat} {x1 : Int32} {Ω : XO} (hd0 : dm G 1 i)   : XM G yX1_numberedBlock cX1_numberedBlock 2 ((some (FieldType.object "ForkBridge$Block"))) (RM 0 0) [.ref (ad G 1 i), .int x1] Ω (.inl (some (.ref (ad G 0 (fX1_numberedBlock Ω i x1))))) Ω := by
  refine x_start (lv := [(0, .ref (ad G 1 i)), (1, .int x1)]) (own := RX1) hok (by decide +kernel) rfl (Nat.le_of_ble_eq_true rfl) rfl (fun B C => ?_)
  refine x_aload_n (pc2 := 1) C dX1_numberedBlock_0 0 rfl rfl rfl ?_
  refine x_getR (f := 100) (k2 := 2002) (pc2 := 4) C (by assumption) kf_1_11 dX1_numberedBlock_1 rfl rfl rfl (rti_i rfl) rfl (fun qd_1 => ?_)
  refine x_iload_n (pc2 := 5) C dX1_numberedBlock_4 1 rfl rfl rfl ?_
  refine x_if_lt (tgt := 18) (pc2 := 8) C dX1_numberedBlock_5 (by decide) rfl (fun qc_2 => ?_) (fun qc_2 => ?_)
  · refine x_iconst (pc2 := 19) (v := 0) C dX1_numberedBlock_18 rfl rfl ?_
    refine x_aald (k2 := 0) (pc2 := 20) C (by assumption) dX1_numberedBlock_19 rfl rfl (vp_in_iff.mpr (by decide)) rfl (eli_2002 _ _) rfl (fun qd_3 => ?_)
    exact x_areturn C dX1_numberedBlock_20 rfl (Or.inr ⟨_, rfl⟩) (Nat.le_of_ble_eq_true rfl) (Nat.le_of_ble_eq_true rfl) (by rw [fX1_numberedBlock, if_pos qc_2] <;> rfl) rfl
  · refine x_iload_n (pc2 := 9) C dX1_numberedBlock_8 1 rfl rfl rfl ?_
    refine x_bipush (pc2 := 11) (v := 24) C dX1_numberedBlock_9 rfl rfl ?_
    refine x_icmp_ge (tgt := 18) (pc2 := 14) C dX1_numberedBlock_11 (by decide) rfl (fun qc_4 => ?_) (fun qc_4 => ?_)
    · refine x_iconst (pc2 := 19) (v := 0) C dX1_numberedBlock_18 rfl rfl ?_
      refine x_aald (k2 := 0) (pc2 := 20) C (by assumption) dX1_numberedBlock_19 rfl rfl (vp_in_iff.mpr (by decide)) rfl (eli_2002 _ _) rfl (fun qd_5 => ?_)
      exact x_areturn C dX1_numberedBlock_20 rfl (Or.inr ⟨_, rfl⟩) (Nat.le_of_ble_eq_true rfl) (Nat.le_of_ble_eq_true rfl) (by rw [fX1_numberedBlock, if_neg qc_2, if_pos qc_4] <;> rfl) rfl
    · refine x_iload_n (pc2 := 15) C dX1_numberedBlock_14 1 rfl rfl rfl ?_
      refine x_goto (tgt := 19) C dX1_numberedBlock_15 (by decide) ?_
      refine x_aald (k2 := 0) (pc2 := 20) C (by assumption) dX1_numberedBlock_19 rfl rfl (by first | exact x_in (by assumption) (by assumption) (by decide) | exact x_in3 (by assumption) (by assumption) (by decide) | exact x_in2 (by assumption) (by assumption) (by decide)) rfl (eli_2002 _ _) rfl (fun qd_6 => ?_)
      exact x_areturn C dX1_numberedBlock_20 rfl (Or.inr ⟨_, rfl⟩) (Nat.le_of_ble_eq_true rfl) (Nat.le_of_ble_eq_true rfl) (by rw [fX1_numberedBlock, if_neg qc_2, if_neg qc_4] <;> rfl) rfl
theorem D_numberedBlock {G : XG} (hok : XK G) {Ω : XO} {i : Nat} (h : dm G 1 i) {x1 : Int32} : dm G 0 (fX1_numberedBlock Ω i x1) := by
  have h1 := dm_f hok 0 h rfl rfl (rti_i rfl)
  unfold fX1_numberedBlock
  split
  · exact dm_a hok 0 h1 rfl (by decide) rfl rfl
  · split
    · exact dm_a hok 0 h1 rfl (by decide) rfl rfl
    · exact dm_a hok x1.toNatClampNeg h1 rfl (cl_lt (v := 24) (by assumption) (by assumption) rfl) rfl rfl
def fX1_numbered (Ω : XO) (i : Nat) (x1 : Int32) : Nat := (if x1 < 0 then 40 * i + (0 : Int32).toNatClampNeg else (if (40 : Int32) ≤ x1 then 40 * i + (0 : Int32).toNatClampNeg else 40 * i + x1.toNatClampNeg))
set_option maxRecDepth 20000 in
theorem tX1_numbered {G : XG} (hok : XK G) {i : Nat} {x1 : Int32} {Ω : XO} (hd0 : dm G 1 i)   : XM G yX1_numbered cX1_numbered 2 ((some (FieldType.object "ForkBridge$Transaction"))) (RM 0 0) [.ref (ad G 1 i), .int x1] Ω (.inl (some (.ref (ad G 7 (fX1_numbered Ω i x1))))) Ω := by
  refine x_start (lv := [(0, .ref (ad G 1 i)), (1, .int x1)]) (own := RX1) hok (by decide +kernel) rfl (Nat.le_of_ble_eq_true rfl) rfl (fun B C => ?_)
  refine x_aload_n (pc2 := 1) C dX1_numbered_0 0 rfl rfl rfl ?_
  refine x_getR (f := 102) (k2 := 2003) (pc2 := 4) C (by assumption) kf_1_23 dX1_numbered_1 rfl rfl rfl (rti_i rfl) rfl (fun qd_1 => ?_)
  refine x_iload_n (pc2 := 5) C dX1_numbered_4 1 rfl rfl rfl ?_
  refine x_if_lt (tgt := 18) (pc2 := 8) C dX1_numbered_5 (by decide) rfl (fun qc_2 => ?_) (fun qc_2 => ?_)
  · refine x_iconst (pc2 := 19) (v := 0) C dX1_numbered_18 rfl rfl ?_
    refine x_aald (k2 := 7) (pc2 := 20) C (by assumption) dX1_numbered_19 rfl rfl (vp_in_iff.mpr (by decide)) rfl (eli_2003 _ _) rfl (fun qd_3 => ?_)
    exact x_areturn C dX1_numbered_20 rfl (Or.inr ⟨_, rfl⟩) (Nat.le_of_ble_eq_true rfl) (Nat.le_of_ble_eq_true rfl) (by rw [fX1_numbered, if_pos qc_2] <;> rfl) rfl
  · refine x_iload_n (pc2 := 9) C dX1_numbered_8 1 rfl rfl rfl ?_
    refine x_bipush (pc2 := 11) (v := 40) C dX1_numbered_9 rfl rfl ?_
    refine x_icmp_ge (tgt := 18) (pc2 := 14) C dX1_numbered_11 (by decide) rfl (fun qc_4 => ?_) (fun qc_4 => ?_)
    · refine x_iconst (pc2 := 19) (v := 0) C dX1_numbered_18 rfl rfl ?_
      refine x_aald (k2 := 7) (pc2 := 20) C (by assumption) dX1_numbered_19 rfl rfl (vp_in_iff.mpr (by decide)) rfl (eli_2003 _ _) rfl (fun qd_5 => ?_)
      exact x_areturn C dX1_numbered_20 rfl (Or.inr ⟨_, rfl⟩) (Nat.le_of_ble_eq_true rfl) (Nat.le_of_ble_eq_true rfl) (by rw [fX1_numbered, if_neg qc_2, if_pos qc_4] <;> rfl) rfl
    · refine x_iload_n (pc2 := 15) C dX1_numbered_14 1 rfl rfl rfl ?_
      refine x_goto (tgt := 19) C dX1_numbered_15 (by decide) ?_
      refine x_aald (k2 := 7) (pc2 := 20) C (by assumption) dX1_numbered_19 rfl rfl (by first | exact x_in (by assumption) (by assumption) (by decide) | exact x_in3 (by assumption) (by assumption) (by decide) | exact x_in2 (by assumption) (by assumption) (by decide)) rfl (eli_2003 _ _) rfl (fun qd_6 => ?_)
      exact x_areturn C dX1_numbered_20 rfl (Or.inr ⟨_, rfl⟩) (Nat.le_of_ble_eq_true rfl) (Nat.le_of_ble_eq_true rfl) (by rw [fX1_numbered, if_neg qc_2, if_neg qc_4] <;> rfl) rfl
theorem D_numbered {G : XG} (hok : XK G) {Ω : XO} {i : Nat} (h : dm G 1 i) {x1 : Int32} : dm G 7 (fX1_numbered Ω i x1) := by
  have h1 := dm_f hok 2 h rfl rfl (rti_i rfl)
  unfold fX1_numbered
  split
  · exact dm_a hok 0 h1 rfl (by decide) rfl rfl
  · split
    · exact dm_a hok 0 h1 rfl (by decide) rfl rfl
    · exact dm_a hok x1.toNatClampNeg h1 rfl (cl_lt (v := 40) (by assumption) (by assumption) rfl) rfl rfl
def fX1_lastFinalBlock (Ω : XO) (i : Nat) : Nat := fX1_numberedBlock Ω i (xI Ω 201 i 0)
set_option maxRecDepth 20000 in
theorem tX1_lastFinalBlock {G : XG} (hok : XK G) {i : Nat} {Ω : XO} (hd0 : dm G 1 i)   : XM G yX1_lastFinalBlock cX1_lastFinalBlock 1 ((some (FieldType.object "ForkBridge$Block"))) (RM 1 0) [.ref (ad G 1 i)] Ω (.inl (some (.ref (ad G 0 (fX1_lastFinalBlock Ω i))))) Ω := by
  refine x_start (lv := [(0, .ref (ad G 1 i))]) (own := RX1) hok (by decide +kernel) rfl (Nat.le_of_ble_eq_true rfl) rfl (fun B C => ?_)
  refine x_aload_n (pc2 := 1) C dX1_lastFinalBlock_0 0 rfl rfl rfl ?_
  refine x_aload_n (pc2 := 2) C dX1_lastFinalBlock_1 0 rfl rfl rfl ?_
  refine x_getR (f := 105) (k2 := 2) (pc2 := 5) C (by assumption) kf_1_33 dX1_lastFinalBlock_2 rfl rfl rfl (rti_i rfl) rfl (fun qd_1 => ?_)
  refine x_getI (pc2 := 8) (f := 201) C (by assumption) kf_1_44 dX1_lastFinalBlock_5 rfl rfl rfl ?_
  refine x_ret (rest := []) (st2 := [_]) (pc2 := 11) (cu2 := 0) (su2 := 0) (x_cV C (by assumption) (Nat.le_of_ble_eq_true rfl) kmX1_numberedBlock rfl kk_1_47 (tX1_numberedBlock hok (by assumption)) rfl rfl (Nat.le_of_ble_eq_true rfl) ⟨Nat.le_of_ble_eq_true rfl, Nat.le_of_ble_eq_true rfl⟩ ⟨Nat.le_of_ble_eq_true rfl, Nat.le_of_ble_eq_true rfl⟩ dX1_lastFinalBlock_8) rfl rfl rfl rfl ?_
  have qd_2 := D_numberedBlock hok (Ω := Ω) (by assumption) (x1 := (xI Ω 201 i 0))
  exact x_areturn C dX1_lastFinalBlock_11 rfl (Or.inr ⟨_, rfl⟩) (Nat.le_of_ble_eq_true rfl) (Nat.le_of_ble_eq_true rfl) (by rw [fX1_lastFinalBlock] <;> rfl) rfl
theorem D_lastFinalBlock {G : XG} (hok : XK G) {Ω : XO} {i : Nat} (h : dm G 1 i) : dm G 0 (fX1_lastFinalBlock Ω i) := D_numberedBlock hok h
def fX1_draft (Ω : XO) (i : Nat) : Nat := fX1_numbered Ω i (xI Ω 103 i 0)
set_option maxRecDepth 20000 in
theorem tX1_draft {G : XG} (hok : XK G) {i : Nat} {Ω : XO} (hd0 : dm G 1 i)   : XM G yX1_draft cX1_draft 1 ((some (FieldType.object "ForkBridge$Transaction"))) (RM 1 0) [.ref (ad G 1 i)] Ω (.inl (some (.ref (ad G 7 (fX1_draft Ω i))))) Ω := by
  refine x_start (lv := [(0, .ref (ad G 1 i))]) (own := RX1) hok (by decide +kernel) rfl (Nat.le_of_ble_eq_true rfl) rfl (fun B C => ?_)
  refine x_aload_n (pc2 := 1) C dX1_draft_0 0 rfl rfl rfl ?_
  refine x_aload_n (pc2 := 2) C dX1_draft_1 0 rfl rfl rfl ?_
  refine x_getI (pc2 := 5) (f := 103) C (by assumption) kf_1_68 dX1_draft_2 rfl rfl rfl ?_
  refine x_ret (rest := []) (st2 := [_]) (pc2 := 8) (cu2 := 0) (su2 := 0) (x_cV C (by assumption) (Nat.le_of_ble_eq_true rfl) kmX1_numbered rfl kk_1_71 (tX1_numbered hok (by assumption)) rfl rfl (Nat.le_of_ble_eq_true rfl) ⟨Nat.le_of_ble_eq_true rfl, Nat.le_of_ble_eq_true rfl⟩ ⟨Nat.le_of_ble_eq_true rfl, Nat.le_of_ble_eq_true rfl⟩ dX1_draft_5) rfl rfl rfl rfl ?_
  have qd_1 := D_numbered hok (Ω := Ω) (by assumption) (x1 := (xI Ω 103 i 0))
  exact x_areturn C dX1_draft_8 rfl (Or.inr ⟨_, rfl⟩) (Nat.le_of_ble_eq_true rfl) (Nat.le_of_ble_eq_true rfl) (by rw [fX1_draft] <;> rfl) rfl
theorem D_draft {G : XG} (hok : XK G) {Ω : XO} {i : Nat} (h : dm G 1 i) : dm G 7 (fX1_draft Ω i) := D_numbered hok h
def fX1_isUpgraded (Ω : XO) (i : Nat) (i1 : Nat) : Int32 := (if (xI Ω 2 i1 0) < (xI Ω 104 i 0) then (0 : Int32) else (1 : Int32))
set_option maxRecDepth 20000 in
theorem tX1_isUpgraded {G : XG} (hok : XK G) {i : Nat} {i1 : Nat} {Ω : XO} (hd0 : dm G 1 i) (hd1 : dm G 0 i1)   : XM G yX1_isUpgraded cX1_isUpgraded 2 ((some FieldType.boolean)) (RM 0 0) [.ref (ad G 1 i), .ref (ad G 0 i1)] Ω (.inl (some (.int (fX1_isUpgraded Ω i i1)))) Ω := by
  refine x_start (lv := [(0, .ref (ad G 1 i)), (1, .ref (ad G 0 i1))]) (own := RX1) hok (by decide +kernel) rfl (Nat.le_of_ble_eq_true rfl) rfl (fun B C => ?_)
  refine x_aload_n (pc2 := 1) C dX1_isUpgraded_0 1 rfl rfl rfl ?_
  refine x_getI (pc2 := 4) (f := 2) C (by assumption) kf_1_149 dX1_isUpgraded_1 rfl rfl rfl ?_
  refine x_aload_n (pc2 := 5) C dX1_isUpgraded_4 0 rfl rfl rfl ?_
  refine x_getI (pc2 := 8) (f := 104) C (by assumption) kf_1_27 dX1_isUpgraded_5 rfl rfl rfl ?_
  refine x_icmp_lt (tgt := 15) (pc2 := 11) C dX1_isUpgraded_8 (by decide) rfl (fun qc_1 => ?_) (fun qc_1 => ?_)
  · refine x_iconst (pc2 := 16) (v := 0) C dX1_isUpgraded_15 rfl rfl ?_
    exact x_zreturn C dX1_isUpgraded_16 rfl (by first | exact Or.inl rfl | exact Or.inr rfl) (Nat.le_of_ble_eq_true rfl) (Nat.le_of_ble_eq_true rfl) (by rw [fX1_isUpgraded, if_pos qc_1] <;> rfl) rfl
  · refine x_iconst (pc2 := 12) (v := 1) C dX1_isUpgraded_11 rfl rfl ?_
    refine x_goto (tgt := 16) C dX1_isUpgraded_12 (by decide) ?_
    exact x_zreturn C dX1_isUpgraded_16 rfl (by first | exact Or.inl rfl | exact Or.inr rfl) (Nat.le_of_ble_eq_true rfl) (Nat.le_of_ble_eq_true rfl) (by rw [fX1_isUpgraded, if_neg qc_1] <;> rfl) rfl

def fX2_validator (Ω : XO) (i : Nat) (x1 : Int32) : Nat := (if x1 < 0 then 4 * i + (0 : Int32).toNatClampNeg else (if (4 : Int32) ≤ x1 then 4 * i + (0 : Int32).toNatClampNeg else 4 * i + x1.toNatClampNeg))
set_option maxRecDepth 20000 in
theorem tX2_validator {G : XG} (hok : XK G) {i : Nat} {x1 : Int32} {Ω : XO} (hd0 : dm G 2 i)   : XM G yX2_validator cX2_validator 2 ((some (FieldType.object "ForkBridge$Validator"))) (RM 0 0) [.ref (ad G 2 i), .int x1] Ω (.inl (some (.ref (ad G 8 (fX2_validator Ω i x1))))) Ω := by
  refine x_start (lv := [(0, .ref (ad G 2 i)), (1, .int x1)]) (own := RX2) hok (by decide +kernel) rfl (Nat.le_of_ble_eq_true rfl) rfl (fun B C => ?_)
  refine x_aload_n (pc2 := 1) C dX2_validator_0 0 rfl rfl rfl ?_
  refine x_getR (f := 200) (k2 := 2004) (pc2 := 4) C (by assumption) kf_2_11 dX2_validator_1 rfl rfl rfl (rti_i rfl) rfl (fun qd_1 => ?_)
  refine x_iload_n (pc2 := 5) C dX2_validator_4 1 rfl rfl rfl ?_
  refine x_if_lt (tgt := 17) (pc2 := 8) C dX2_validator_5 (by decide) rfl (fun qc_2 => ?_) (fun qc_2 => ?_)
  · refine x_iconst (pc2 := 18) (v := 0) C dX2_validator_17 rfl rfl ?_
    refine x_aald (k2 := 8) (pc2 := 19) C (by assumption) dX2_validator_18 rfl rfl (vp_in_iff.mpr (by decide)) rfl (eli_2004 _ _) rfl (fun qd_3 => ?_)
    exact x_areturn C dX2_validator_19 rfl (Or.inr ⟨_, rfl⟩) (Nat.le_of_ble_eq_true rfl) (Nat.le_of_ble_eq_true rfl) (by rw [fX2_validator, if_pos qc_2] <;> rfl) rfl
  · refine x_iload_n (pc2 := 9) C dX2_validator_8 1 rfl rfl rfl ?_
    refine x_iconst (pc2 := 10) (v := 4) C dX2_validator_9 rfl rfl ?_
    refine x_icmp_ge (tgt := 17) (pc2 := 13) C dX2_validator_10 (by decide) rfl (fun qc_4 => ?_) (fun qc_4 => ?_)
    · refine x_iconst (pc2 := 18) (v := 0) C dX2_validator_17 rfl rfl ?_
      refine x_aald (k2 := 8) (pc2 := 19) C (by assumption) dX2_validator_18 rfl rfl (vp_in_iff.mpr (by decide)) rfl (eli_2004 _ _) rfl (fun qd_5 => ?_)
      exact x_areturn C dX2_validator_19 rfl (Or.inr ⟨_, rfl⟩) (Nat.le_of_ble_eq_true rfl) (Nat.le_of_ble_eq_true rfl) (by rw [fX2_validator, if_neg qc_2, if_pos qc_4] <;> rfl) rfl
    · refine x_iload_n (pc2 := 14) C dX2_validator_13 1 rfl rfl rfl ?_
      refine x_goto (tgt := 18) C dX2_validator_14 (by decide) ?_
      refine x_aald (k2 := 8) (pc2 := 19) C (by assumption) dX2_validator_18 rfl rfl (by first | exact x_in (by assumption) (by assumption) (by decide) | exact x_in3 (by assumption) (by assumption) (by decide) | exact x_in2 (by assumption) (by assumption) (by decide)) rfl (eli_2004 _ _) rfl (fun qd_6 => ?_)
      exact x_areturn C dX2_validator_19 rfl (Or.inr ⟨_, rfl⟩) (Nat.le_of_ble_eq_true rfl) (Nat.le_of_ble_eq_true rfl) (by rw [fX2_validator, if_neg qc_2, if_neg qc_4] <;> rfl) rfl
theorem D_validator {G : XG} (hok : XK G) {Ω : XO} {i : Nat} (h : dm G 2 i) {x1 : Int32} : dm G 8 (fX2_validator Ω i x1) := by
  have h1 := dm_f hok 0 h rfl rfl (rti_i rfl)
  unfold fX2_validator
  split
  · exact dm_a hok 0 h1 rfl (by decide) rfl rfl
  · split
    · exact dm_a hok 0 h1 rfl (by decide) rfl rfl
    · exact dm_a hok x1.toNatClampNeg h1 rfl (cl_lt (v := 4) (by assumption) (by assumption) rfl) rfl rfl
def fX3_heapAllows (Ω : XO) (i : Nat) (x1 : Int32) : Int32 := (if ((xI Ω 301 i 0) - (sTb 2 x1)) < 0 then (0 : Int32) else (if (16 : Int32) < (((xI Ω 301 i 0) - (sTb 2 x1)) + (sTb 3 x1)) then (0 : Int32) else (1 : Int32)))
set_option maxRecDepth 20000 in
theorem tX3_heapAllows {G : XG} (hok : XK G) {i : Nat} {x1 : Int32} {Ω : XO} (hd0 : dm G 3 i)   : XM G yX3_heapAllows cX3_heapAllows 3 ((some FieldType.boolean)) (RM 1 0) [.ref (ad G 3 i), .int x1] Ω (.inl (some (.int (fX3_heapAllows Ω i x1)))) Ω := by
  refine x_start (lv := [(0, .ref (ad G 3 i)), (1, .int x1)]) (own := RX3) hok (by decide +kernel) rfl (Nat.le_of_ble_eq_true rfl) rfl (fun B C => ?_)
  refine x_aload_n (pc2 := 1) C dX3_heapAllows_0 0 rfl rfl rfl ?_
  refine x_getI (pc2 := 4) (f := 301) C (by assumption) kf_3_44 dX3_heapAllows_1 rfl rfl rfl ?_
  refine x_getsN (pc2 := 7) (q := 2) C (by decide) kg_3_64 dX3_heapAllows_4 rfl ?_
  refine x_iload_n (pc2 := 8) C dX3_heapAllows_7 1 rfl rfl rfl ?_
  refine x_ret (rest := [_]) (st2 := [_, _]) (pc2 := 11) (cu2 := 0) (su2 := 0) (x_cSN C kmX10_at ke_3_67 (tX10_at_s hok (by decide)) rfl rfl (Nat.le_of_ble_eq_true rfl) ⟨Nat.le_of_ble_eq_true rfl, Nat.le_of_ble_eq_true rfl⟩ ⟨Nat.le_of_ble_eq_true rfl, Nat.le_of_ble_eq_true rfl⟩ dX3_heapAllows_8) rfl rfl rfl rfl ?_
  refine x_isub (pc2 := 12) C dX3_heapAllows_11 rfl ?_
  refine x_istore_n (pc2 := 13) (lv2 := [(2, _), (0, _), (1, _)]) C dX3_heapAllows_12 rfl (by decide) rfl rfl ?_
  refine x_iload_n (pc2 := 14) C dX3_heapAllows_13 0 rfl rfl rfl ?_
  refine x_if_lt (tgt := 35) (pc2 := 17) C dX3_heapAllows_14 (by decide) rfl (fun qc_1 => ?_) (fun qc_1 => ?_)
  · refine x_iconst (pc2 := 36) (v := 0) C dX3_heapAllows_35 rfl rfl ?_
    exact x_zreturn C dX3_heapAllows_36 rfl (by first | exact Or.inl rfl | exact Or.inr rfl) (Nat.le_of_ble_eq_true rfl) (Nat.le_of_ble_eq_true rfl) (by rw [fX3_heapAllows, if_pos qc_1] <;> rfl) rfl
  · refine x_iload_n (pc2 := 18) C dX3_heapAllows_17 0 rfl rfl rfl ?_
    refine x_getsN (pc2 := 21) (q := 3) C (by decide) kg_3_71 dX3_heapAllows_18 rfl ?_
    refine x_iload_n (pc2 := 22) C dX3_heapAllows_21 2 rfl rfl rfl ?_
    refine x_ret (rest := [_]) (st2 := [_, _]) (pc2 := 25) (cu2 := 0) (su2 := 0) (x_cSN C kmX10_at ke_3_67 (tX10_at_s hok (by decide)) rfl rfl (Nat.le_of_ble_eq_true rfl) ⟨Nat.le_of_ble_eq_true rfl, Nat.le_of_ble_eq_true rfl⟩ ⟨Nat.le_of_ble_eq_true rfl, Nat.le_of_ble_eq_true rfl⟩ dX3_heapAllows_22) rfl rfl rfl rfl ?_
    refine x_iadd (pc2 := 26) C dX3_heapAllows_25 rfl ?_
    refine x_bipush (pc2 := 28) (v := 16) C dX3_heapAllows_26 rfl rfl ?_
    refine x_icmp_gt (tgt := 35) (pc2 := 31) C dX3_heapAllows_28 (by decide) rfl (fun qc_2 => ?_) (fun qc_2 => ?_)
    · refine x_iconst (pc2 := 36) (v := 0) C dX3_heapAllows_35 rfl rfl ?_
      exact x_zreturn C dX3_heapAllows_36 rfl (by first | exact Or.inl rfl | exact Or.inr rfl) (Nat.le_of_ble_eq_true rfl) (Nat.le_of_ble_eq_true rfl) (by rw [fX3_heapAllows, if_neg qc_1, if_pos qc_2] <;> rfl) rfl
    · refine x_iconst (pc2 := 32) (v := 1) C dX3_heapAllows_31 rfl rfl ?_
      refine x_goto (tgt := 36) C dX3_heapAllows_32 (by decide) ?_
      exact x_zreturn C dX3_heapAllows_36 rfl (by first | exact Or.inl rfl | exact Or.inr rfl) (Nat.le_of_ble_eq_true rfl) (Nat.le_of_ble_eq_true rfl) (by rw [fX3_heapAllows, if_neg qc_1, if_neg qc_2] <;> rfl) rfl

def fX3_top (Ω : XO) (i : Nat) : Int32 := sAt Ω 2005 i ((xI Ω 301 i 0) - (1 : Int32))
set_option maxRecDepth 20000 in
theorem tX3_top {G : XG} (hok : XK G) {i : Nat} {Ω : XO} (hd0 : dm G 3 i)   : XM G yX3_top cX3_top 1 ((some FieldType.int)) (RM 1 0) [.ref (ad G 3 i)] Ω (.inl (some (.int (fX3_top Ω i)))) Ω := by
  refine x_start (lv := [(0, .ref (ad G 3 i))]) (own := RX3) hok (by decide +kernel) rfl (Nat.le_of_ble_eq_true rfl) rfl (fun B C => ?_)
  refine x_aload_n (pc2 := 1) C dX3_top_0 0 rfl rfl rfl ?_
  refine x_getR (f := 300) (k2 := 2005) (pc2 := 4) C (by assumption) kf_3_9 dX3_top_1 rfl rfl rfl (rti_i rfl) rfl (fun qd_1 => ?_)
  refine x_aload_n (pc2 := 5) C dX3_top_4 0 rfl rfl rfl ?_
  refine x_getI (pc2 := 8) (f := 301) C (by assumption) kf_3_44 dX3_top_5 rfl rfl rfl ?_
  refine x_iconst (pc2 := 9) (v := 1) C dX3_top_8 rfl rfl ?_
  refine x_isub (pc2 := 10) C dX3_top_9 rfl ?_
  refine x_ret (rest := []) (st2 := [_]) (pc2 := 13) (cu2 := 0) (su2 := 0) (x_cSN C kmX10_at ke_3_67 (tX10_at hok (by assumption) rfl (by decide)) rfl rfl (Nat.le_of_ble_eq_true rfl) ⟨Nat.le_of_ble_eq_true rfl, Nat.le_of_ble_eq_true rfl⟩ ⟨Nat.le_of_ble_eq_true rfl, Nat.le_of_ble_eq_true rfl⟩ dX3_top_10) rfl rfl rfl rfl ?_
  exact x_ireturn C dX3_top_13 rfl (Nat.le_of_ble_eq_true rfl) (Nat.le_of_ble_eq_true rfl) (by rw [fX3_top] <;> rfl) rfl

def fX3_take (Ω : XO) (i : Nat) : Int32 × XO := (if (xI Ω 301 i 0) ≤ 0 then ((0 : Int32), Ω) else (if (xI Ω 301 i 0) ≤ (nI (alen 2005)) then (xI (uI Ω 301 i 0 ((xI Ω 301 i 0) - (1 : Int32))) 2005 i (xI (uI Ω 301 i 0 ((xI Ω 301 i 0) - (1 : Int32))) 301 i 0).toNatClampNeg, uI Ω 301 i 0 ((xI Ω 301 i 0) - (1 : Int32))) else ((0 : Int32), Ω)))
set_option maxRecDepth 20000 in
theorem tX3_take {G : XG} (hok : XK G) {i : Nat} {Ω : XO} (hd0 : dm G 3 i)   : XM G yX3_take cX3_take 1 ((some FieldType.int)) (RM 0 0) [.ref (ad G 3 i)] Ω (.inl (some (.int ((fX3_take Ω i).1)))) (fX3_take Ω i).2 := by
  refine x_start (lv := [(0, .ref (ad G 3 i))]) (own := RX3) hok (by decide +kernel) rfl (Nat.le_of_ble_eq_true rfl) rfl (fun B C => ?_)
  refine x_aload_n (pc2 := 1) C dX3_take_0 0 rfl rfl rfl ?_
  refine x_getI (pc2 := 4) (f := 301) C (by assumption) kf_3_44 dX3_take_1 rfl rfl rfl ?_
  refine x_if_le (tgt := 19) (pc2 := 7) C dX3_take_4 (by decide) rfl (fun qc_1 => ?_) (fun qc_1 => ?_)
  · refine x_iconst (pc2 := 20) (v := 0) C dX3_take_19 rfl rfl ?_
    exact x_ireturn C dX3_take_20 rfl (Nat.le_of_ble_eq_true rfl) (Nat.le_of_ble_eq_true rfl) (by rw [fX3_take, if_pos qc_1] <;> rfl) (by rw [fX3_take, if_pos qc_1] <;> rfl)
  · refine x_aload_n (pc2 := 8) C dX3_take_7 0 rfl rfl rfl ?_
    refine x_getI (pc2 := 11) (f := 301) C (by assumption) kf_3_44 dX3_take_8 rfl rfl rfl ?_
    refine x_aload_n (pc2 := 12) C dX3_take_11 0 rfl rfl rfl ?_
    refine x_getR (f := 300) (k2 := 2005) (pc2 := 15) C (by assumption) kf_3_9 dX3_take_12 rfl rfl rfl (rti_i rfl) rfl (fun qd_2 => ?_)
    refine x_alen (pc2 := 16) C (by assumption) dX3_take_15 rfl rfl rfl ?_
    refine x_icmp_le (tgt := 21) (pc2 := 19) C dX3_take_16 (by decide) rfl (fun qc_3 => ?_) (fun qc_3 => ?_)
    · refine x_aload_n (pc2 := 22) C dX3_take_21 0 rfl rfl rfl ?_
      refine x_dup (pc2 := 23) C dX3_take_22 rfl rfl ?_
      refine x_getI (pc2 := 26) (f := 301) C (by assumption) kf_3_44 dX3_take_23 rfl rfl rfl ?_
      refine x_iconst (pc2 := 27) (v := 1) C dX3_take_26 rfl rfl ?_
      refine x_isub (pc2 := 28) C dX3_take_27 rfl ?_
      refine x_putI (pc2 := 31) (f := 301) C (by assumption) kf_3_44 dX3_take_28 rfl rfl rfl rfl rfl ?_
      refine x_aload_n (pc2 := 32) C dX3_take_31 0 rfl rfl rfl ?_
      refine x_getR (f := 300) (k2 := 2005) (pc2 := 35) C (by assumption) kf_3_9 dX3_take_32 rfl rfl rfl (rti_i rfl) rfl (fun qd_4 => ?_)
      refine x_aload_n (pc2 := 36) C dX3_take_35 0 rfl rfl rfl ?_
      refine x_getI (pc2 := 39) (f := 301) C (by assumption) kf_3_44 dX3_take_36 rfl rfl rfl ?_
      refine x_iald (pc2 := 40) C (by assumption) dX3_take_39 rfl (x_take (by assumption) (by assumption)) rfl ?_
      exact x_ireturn C dX3_take_40 rfl (Nat.le_of_ble_eq_true rfl) (Nat.le_of_ble_eq_true rfl) (by rw [fX3_take, if_neg qc_1, if_pos qc_3] <;> rfl) (by rw [fX3_take, if_neg qc_1, if_pos qc_3] <;> rfl)
    · refine x_iconst (pc2 := 20) (v := 0) C dX3_take_19 rfl rfl ?_
      exact x_ireturn C dX3_take_20 rfl (Nat.le_of_ble_eq_true rfl) (Nat.le_of_ble_eq_true rfl) (by rw [fX3_take, if_neg qc_1, if_neg qc_3] <;> rfl) (by rw [fX3_take, if_neg qc_1, if_neg qc_3] <;> rfl)
theorem R_fX3_take (Ω : XO) (i : Nat) : xR (fX3_take Ω i).2 = xR Ω := by
  unfold fX3_take
  (repeat' split) <;> first | rfl | (funext a b9; simp only [R_uI, R_uL, R_cI, R_sPut, R_fX0_imitate, R_fX0_enter, R_fX0_addEvent])

def fX3_push (Ω : XO) (i : Nat) (x1 : Int32) : XO := (if (xI Ω 301 i 0) < 0 then Ω else (if (nI (alen 2005)) ≤ (xI Ω 301 i 0) then Ω else uI (uI Ω 2005 i (xI Ω 301 i 0).toNatClampNeg x1) 301 i 0 ((xI (uI Ω 2005 i (xI Ω 301 i 0).toNatClampNeg x1) 301 i 0) + (1 : Int32))))
set_option maxRecDepth 20000 in
theorem tX3_push {G : XG} (hok : XK G) {i : Nat} {x1 : Int32} {Ω : XO} (hd0 : dm G 3 i)   : XM G yX3_push cX3_push 2 none (RM 0 0) [.ref (ad G 3 i), .int x1] Ω (.inl none) (fX3_push Ω i x1) := by
  refine x_start (lv := [(0, .ref (ad G 3 i)), (1, .int x1)]) (own := RX3) hok (by decide +kernel) rfl (Nat.le_of_ble_eq_true rfl) rfl (fun B C => ?_)
  refine x_aload_n (pc2 := 1) C dX3_push_0 0 rfl rfl rfl ?_
  refine x_getI (pc2 := 4) (f := 301) C (by assumption) kf_3_44 dX3_push_1 rfl rfl rfl ?_
  refine x_if_lt (tgt := 39) (pc2 := 7) C dX3_push_4 (by decide) rfl (fun qc_1 => ?_) (fun qc_1 => ?_)
  · exact x_vreturn C dX3_push_39 rfl (Nat.le_of_ble_eq_true rfl) (Nat.le_of_ble_eq_true rfl) rfl (by rw [fX3_push, if_pos qc_1] <;> rfl)
  · refine x_aload_n (pc2 := 8) C dX3_push_7 0 rfl rfl rfl ?_
    refine x_getI (pc2 := 11) (f := 301) C (by assumption) kf_3_44 dX3_push_8 rfl rfl rfl ?_
    refine x_aload_n (pc2 := 12) C dX3_push_11 0 rfl rfl rfl ?_
    refine x_getR (f := 300) (k2 := 2005) (pc2 := 15) C (by assumption) kf_3_9 dX3_push_12 rfl rfl rfl (rti_i rfl) rfl (fun qd_2 => ?_)
    refine x_alen (pc2 := 16) C (by assumption) dX3_push_15 rfl rfl rfl ?_
    refine x_icmp_ge (tgt := 39) (pc2 := 19) C dX3_push_16 (by decide) rfl (fun qc_3 => ?_) (fun qc_3 => ?_)
    · exact x_vreturn C dX3_push_39 rfl (Nat.le_of_ble_eq_true rfl) (Nat.le_of_ble_eq_true rfl) rfl (by rw [fX3_push, if_neg qc_1, if_pos qc_3] <;> rfl)
    · refine x_aload_n (pc2 := 20) C dX3_push_19 0 rfl rfl rfl ?_
      refine x_getR (f := 300) (k2 := 2005) (pc2 := 23) C (by assumption) kf_3_9 dX3_push_20 rfl rfl rfl (rti_i rfl) rfl (fun qd_4 => ?_)
      refine x_aload_n (pc2 := 24) C dX3_push_23 0 rfl rfl rfl ?_
      refine x_getI (pc2 := 27) (f := 301) C (by assumption) kf_3_44 dX3_push_24 rfl rfl rfl ?_
      refine x_iload_n (pc2 := 28) C dX3_push_27 1 rfl rfl rfl ?_
      refine x_iast (pc2 := 29) C (by assumption) dX3_push_28 rfl (by first | exact x_in (by assumption) (by assumption) (by decide) | exact x_in3 (by assumption) (by assumption) (by decide) | exact x_in2 (by assumption) (by assumption) (by decide)) rfl ?_
      refine x_aload_n (pc2 := 30) C dX3_push_29 0 rfl rfl rfl ?_
      refine x_dup (pc2 := 31) C dX3_push_30 rfl rfl ?_
      refine x_getI (pc2 := 34) (f := 301) C (by assumption) kf_3_44 dX3_push_31 rfl rfl rfl ?_
      refine x_iconst (pc2 := 35) (v := 1) C dX3_push_34 rfl rfl ?_
      refine x_iadd (pc2 := 36) C dX3_push_35 rfl ?_
      refine x_putI (pc2 := 39) (f := 301) C (by assumption) kf_3_44 dX3_push_36 rfl rfl rfl rfl rfl ?_
      exact x_vreturn C dX3_push_39 rfl (Nat.le_of_ble_eq_true rfl) (Nat.le_of_ble_eq_true rfl) rfl (by rw [fX3_push, if_neg qc_1, if_neg qc_3] <;> rfl)
theorem R_fX3_push (Ω : XO) (i : Nat) (x1 : Int32) : xR (fX3_push Ω i x1) = xR Ω := by
  unfold fX3_push
  (repeat' split) <;> first | rfl | (funext a b9; simp only [R_uI, R_uL, R_cI, R_sPut, R_fX0_imitate, R_fX0_enter, R_fX0_addEvent, R_fX3_take])

def fX3_memoryGas (Ω : XO) (x1 : Int32) : Int32 := ((x1 + (1 : Int32)) * (x1 + (1 : Int32))) / (2 : Int32)
set_option maxRecDepth 20000 in
theorem tX3_memoryGas {G : XG} (hok : XK G) {x1 : Int32} {Ω : XO}    : XM G yX3_memoryGas cX3_memoryGas 1 ((some FieldType.int)) (RM 0 0) [.int x1] Ω (.inl (some (.int (fX3_memoryGas Ω x1)))) Ω := by
  refine x_start (lv := [(0, .int x1)]) (own := RX3) hok (by decide +kernel) rfl (Nat.le_of_ble_eq_true rfl) rfl (fun B C => ?_)
  refine x_iload_n (pc2 := 1) C dX3_memoryGas_0 0 rfl rfl rfl ?_
  refine x_iconst (pc2 := 2) (v := 1) C dX3_memoryGas_1 rfl rfl ?_
  refine x_iadd (pc2 := 3) C dX3_memoryGas_2 rfl ?_
  refine x_iload_n (pc2 := 4) C dX3_memoryGas_3 0 rfl rfl rfl ?_
  refine x_iconst (pc2 := 5) (v := 1) C dX3_memoryGas_4 rfl rfl ?_
  refine x_iadd (pc2 := 6) C dX3_memoryGas_5 rfl ?_
  refine x_imul (pc2 := 7) C dX3_memoryGas_6 rfl ?_
  refine x_iconst (pc2 := 8) (v := 2) C dX3_memoryGas_7 rfl rfl ?_
  refine x_idiv (pc2 := 9) C dX3_memoryGas_8 (by decide +kernel) rfl ?_
  exact x_ireturn C dX3_memoryGas_9 rfl (Nat.le_of_ble_eq_true rfl) (Nat.le_of_ble_eq_true rfl) (by rw [fX3_memoryGas] <;> rfl) rfl

def fX3_reach (Ω : XO) (i : Nat) (x1 : Int32) : XO := uI Ω 303 i 0 (if (xI Ω 303 i 0) < x1 then x1 else (xI Ω 303 i 0))
set_option maxRecDepth 20000 in
theorem tX3_reach {G : XG} (hok : XK G) {i : Nat} {x1 : Int32} {Ω : XO} (hd0 : dm G 3 i)   : XM G yX3_reach cX3_reach 2 none (RM 1 0) [.ref (ad G 3 i), .int x1] Ω (.inl none) (fX3_reach Ω i x1) := by
  refine x_start (lv := [(0, .ref (ad G 3 i)), (1, .int x1)]) (own := RX3) hok (by decide +kernel) rfl (Nat.le_of_ble_eq_true rfl) rfl (fun B C => ?_)
  refine x_aload_n (pc2 := 1) C dX3_reach_0 0 rfl rfl rfl ?_
  refine x_aload_n (pc2 := 2) C dX3_reach_1 0 rfl rfl rfl ?_
  refine x_getI (pc2 := 5) (f := 303) C (by assumption) kf_3_47 dX3_reach_2 rfl rfl rfl ?_
  refine x_iload_n (pc2 := 6) C dX3_reach_5 1 rfl rfl rfl ?_
  refine x_mmax (pc2 := 9) C kmath_3_78 kms_max kmi kmc_max ⟨Nat.le_of_ble_eq_true rfl, Nat.le_of_ble_eq_true rfl⟩ (Nat.le_of_ble_eq_true rfl) (Nat.le_of_ble_eq_true rfl) dX3_reach_6 rfl ?_
  refine x_putI (pc2 := 12) (f := 303) C (by assumption) kf_3_47 dX3_reach_9 rfl rfl rfl rfl rfl ?_
  exact x_vreturn C dX3_reach_12 rfl (Nat.le_of_ble_eq_true rfl) (Nat.le_of_ble_eq_true rfl) rfl (by rw [fX3_reach] <;> rfl)
theorem R_fX3_reach (Ω : XO) (i : Nat) (x1 : Int32) : xR (fX3_reach Ω i x1) = xR Ω := by
  unfold fX3_reach
  (repeat' split) <;> first | rfl | (funext a b9; simp only [R_uI, R_uL, R_cI, R_sPut, R_fX0_imitate, R_fX0_enter, R_fX0_addEvent, R_fX3_take, R_fX3_push])

def fX5_lengthOf (Ω : XO) (i : Nat) (x1 : Int32) : Int32 := sAt Ω 2010 i x1
set_option maxRecDepth 20000 in
theorem tX5_lengthOf {G : XG} (hok : XK G) {i : Nat} {x1 : Int32} {Ω : XO} (hd0 : dm G 5 i)   : XM G yX5_lengthOf cX5_lengthOf 2 ((some FieldType.int)) (RM 1 0) [.ref (ad G 5 i), .int x1] Ω (.inl (some (.int (fX5_lengthOf Ω i x1)))) Ω := by
  refine x_start (lv := [(0, .ref (ad G 5 i)), (1, .int x1)]) (own := RX5) hok (by decide +kernel) rfl (Nat.le_of_ble_eq_true rfl) rfl (fun B C => ?_)
  refine x_aload_n (pc2 := 1) C dX5_lengthOf_0 0 rfl rfl rfl ?_
  refine x_getR (f := 502) (k2 := 2010) (pc2 := 4) C (by assumption) kf_5_18 dX5_lengthOf_1 rfl rfl rfl (rti_i rfl) rfl (fun qd_1 => ?_)
  refine x_iload_n (pc2 := 5) C dX5_lengthOf_4 1 rfl rfl rfl ?_
  refine x_ret (rest := []) (st2 := [_]) (pc2 := 8) (cu2 := 0) (su2 := 0) (x_cSN C kmX10_at ke_5_21 (tX10_at hok (by assumption) rfl (by decide)) rfl rfl (Nat.le_of_ble_eq_true rfl) ⟨Nat.le_of_ble_eq_true rfl, Nat.le_of_ble_eq_true rfl⟩ ⟨Nat.le_of_ble_eq_true rfl, Nat.le_of_ble_eq_true rfl⟩ dX5_lengthOf_5) rfl rfl rfl rfl ?_
  exact x_ireturn C dX5_lengthOf_8 rfl (Nat.le_of_ble_eq_true rfl) (Nat.le_of_ble_eq_true rfl) (by rw [fX5_lengthOf] <;> rfl) rfl

def fX5_operationAt (Ω : XO) (i : Nat) (x1 : Int32) (x2 : Int32) : Int32 := sAt Ω 2008 i ((x1 * (20 : Int32)) + x2)
set_option maxRecDepth 20000 in
theorem tX5_operationAt {G : XG} (hok : XK G) {i : Nat} {x1 : Int32} {x2 : Int32} {Ω : XO} (hd0 : dm G 5 i)   : XM G yX5_operationAt cX5_operationAt 3 ((some FieldType.int)) (RM 1 0) [.ref (ad G 5 i), .int x1, .int x2] Ω (.inl (some (.int (fX5_operationAt Ω i x1 x2)))) Ω := by
  refine x_start (lv := [(0, .ref (ad G 5 i)), (1, .int x1), (2, .int x2)]) (own := RX5) hok (by decide +kernel) rfl (Nat.le_of_ble_eq_true rfl) rfl (fun B C => ?_)
  refine x_aload_n (pc2 := 1) C dX5_operationAt_0 0 rfl rfl rfl ?_
  refine x_getR (f := 500) (k2 := 2008) (pc2 := 4) C (by assumption) kf_5_9 dX5_operationAt_1 rfl rfl rfl (rti_i rfl) rfl (fun qd_1 => ?_)
  refine x_iload_n (pc2 := 5) C dX5_operationAt_4 1 rfl rfl rfl ?_
  refine x_bipush (pc2 := 7) (v := 20) C dX5_operationAt_5 rfl rfl ?_
  refine x_imul (pc2 := 8) C dX5_operationAt_7 rfl ?_
  refine x_iload_n (pc2 := 9) C dX5_operationAt_8 2 rfl rfl rfl ?_
  refine x_iadd (pc2 := 10) C dX5_operationAt_9 rfl ?_
  refine x_ret (rest := []) (st2 := [_]) (pc2 := 13) (cu2 := 0) (su2 := 0) (x_cSN C kmX10_at ke_5_21 (tX10_at hok (by assumption) rfl (by decide)) rfl rfl (Nat.le_of_ble_eq_true rfl) ⟨Nat.le_of_ble_eq_true rfl, Nat.le_of_ble_eq_true rfl⟩ ⟨Nat.le_of_ble_eq_true rfl, Nat.le_of_ble_eq_true rfl⟩ dX5_operationAt_10) rfl rfl rfl rfl ?_
  exact x_ireturn C dX5_operationAt_13 rfl (Nat.le_of_ble_eq_true rfl) (Nat.le_of_ble_eq_true rfl) (by rw [fX5_operationAt] <;> rfl) rfl

def fX5_argumentAt (Ω : XO) (i : Nat) (x1 : Int32) (x2 : Int32) : Int32 := sAt Ω 2009 i ((x1 * (20 : Int32)) + x2)
set_option maxRecDepth 20000 in
theorem tX5_argumentAt {G : XG} (hok : XK G) {i : Nat} {x1 : Int32} {x2 : Int32} {Ω : XO} (hd0 : dm G 5 i)   : XM G yX5_argumentAt cX5_argumentAt 3 ((some FieldType.int)) (RM 1 0) [.ref (ad G 5 i), .int x1, .int x2] Ω (.inl (some (.int (fX5_argumentAt Ω i x1 x2)))) Ω := by
  refine x_start (lv := [(0, .ref (ad G 5 i)), (1, .int x1), (2, .int x2)]) (own := RX5) hok (by decide +kernel) rfl (Nat.le_of_ble_eq_true rfl) rfl (fun B C => ?_)
  refine x_aload_n (pc2 := 1) C dX5_argumentAt_0 0 rfl rfl rfl ?_
  refine x_getR (f := 501) (k2 := 2009) (pc2 := 4) C (by assumption) kf_5_15 dX5_argumentAt_1 rfl rfl rfl (rti_i rfl) rfl (fun qd_1 => ?_)
  refine x_iload_n (pc2 := 5) C dX5_argumentAt_4 1 rfl rfl rfl ?_
  refine x_bipush (pc2 := 7) (v := 20) C dX5_argumentAt_5 rfl rfl ?_
  refine x_imul (pc2 := 8) C dX5_argumentAt_7 rfl ?_
  refine x_iload_n (pc2 := 9) C dX5_argumentAt_8 2 rfl rfl rfl ?_
  refine x_iadd (pc2 := 10) C dX5_argumentAt_9 rfl ?_
  refine x_ret (rest := []) (st2 := [_]) (pc2 := 13) (cu2 := 0) (su2 := 0) (x_cSN C kmX10_at ke_5_21 (tX10_at hok (by assumption) rfl (by decide)) rfl rfl (Nat.le_of_ble_eq_true rfl) ⟨Nat.le_of_ble_eq_true rfl, Nat.le_of_ble_eq_true rfl⟩ ⟨Nat.le_of_ble_eq_true rfl, Nat.le_of_ble_eq_true rfl⟩ dX5_argumentAt_10) rfl rfl rfl rfl ?_
  exact x_ireturn C dX5_argumentAt_13 rfl (Nat.le_of_ble_eq_true rfl) (Nat.le_of_ble_eq_true rfl) (by rw [fX5_argumentAt] <;> rfl) rfl

def fX5_append (Ω : XO) (i : Nat) (x1 : Int32) (x2 : Int32) (x3 : Int32) : Int32 × XO := ((fX5_lengthOf Ω i x1) + (1 : Int32), sPut (sPut (sPut Ω 2008 i ((x1 * (20 : Int32)) + (fX5_lengthOf Ω i x1)) x2) 2009 i ((x1 * (20 : Int32)) + (fX5_lengthOf Ω i x1)) x3) 2010 i x1 ((fX5_lengthOf Ω i x1) + (1 : Int32)))
set_option maxRecDepth 20000 in
theorem tX5_append {G : XG} (hok : XK G) {i : Nat} {x1 : Int32} {x2 : Int32} {x3 : Int32} {Ω : XO} (hd0 : dm G 5 i)   : XM G yX5_append cX5_append 5 ((some FieldType.int)) (RM 2 0) [.ref (ad G 5 i), .int x1, .int x2, .int x3] Ω (.inl (some (.int ((fX5_append Ω i x1 x2 x3).1)))) (fX5_append Ω i x1 x2 x3).2 := by
  refine x_start (lv := [(0, .ref (ad G 5 i)), (1, .int x1), (2, .int x2), (3, .int x3)]) (own := RX5) hok (by decide +kernel) rfl (Nat.le_of_ble_eq_true rfl) rfl (fun B C => ?_)
  refine x_aload_n (pc2 := 1) C dX5_append_0 0 rfl rfl rfl ?_
  refine x_iload_n (pc2 := 2) C dX5_append_1 1 rfl rfl rfl ?_
  refine x_ret (rest := []) (st2 := [_]) (pc2 := 5) (cu2 := 0) (su2 := 0) (x_cV C (by assumption) (Nat.le_of_ble_eq_true rfl) kmX5_lengthOf rfl kk_5_25 (tX5_lengthOf hok (by assumption)) rfl rfl (Nat.le_of_ble_eq_true rfl) ⟨Nat.le_of_ble_eq_true rfl, Nat.le_of_ble_eq_true rfl⟩ ⟨Nat.le_of_ble_eq_true rfl, Nat.le_of_ble_eq_true rfl⟩ dX5_append_2) rfl rfl rfl rfl ?_
  refine x_istore (pc2 := 7) (lv2 := [(4, _), (0, _), (1, _), (2, _), (3, _)]) C dX5_append_5 (by decide) rfl rfl ?_
  refine x_aload_n (pc2 := 8) C dX5_append_7 1 rfl rfl rfl ?_
  refine x_getR (f := 500) (k2 := 2008) (pc2 := 11) C (by assumption) kf_5_9 dX5_append_8 rfl rfl rfl (rti_i rfl) rfl (fun qd_1 => ?_)
  refine x_iload_n (pc2 := 12) C dX5_append_11 2 rfl rfl rfl ?_
  refine x_bipush (pc2 := 14) (v := 20) C dX5_append_12 rfl rfl ?_
  refine x_imul (pc2 := 15) C dX5_append_14 rfl ?_
  refine x_iload (pc2 := 17) C dX5_append_15 0 rfl rfl ?_
  refine x_iadd (pc2 := 18) C dX5_append_17 rfl ?_
  refine x_iload_n (pc2 := 19) C dX5_append_18 3 rfl rfl rfl ?_
  refine x_ret (rest := []) (st2 := []) (pc2 := 22) (cu2 := 0) (su2 := 0) (x_cSN C kmX10_put ke_5_29 (tX10_put hok (by assumption) rfl (by decide)) rfl rfl (Nat.le_of_ble_eq_true rfl) ⟨Nat.le_of_ble_eq_true rfl, Nat.le_of_ble_eq_true rfl⟩ ⟨Nat.le_of_ble_eq_true rfl, Nat.le_of_ble_eq_true rfl⟩ dX5_append_19) rfl rfl rfl rfl ?_
  refine x_aload_n (pc2 := 23) C dX5_append_22 1 rfl rfl rfl ?_
  refine x_getR (f := 501) (k2 := 2009) (pc2 := 26) C (by assumption) kf_5_15 dX5_append_23 rfl rfl rfl (rti_i rfl) rfl (fun qd_2 => ?_)
  refine x_iload_n (pc2 := 27) C dX5_append_26 2 rfl rfl rfl ?_
  refine x_bipush (pc2 := 29) (v := 20) C dX5_append_27 rfl rfl ?_
  refine x_imul (pc2 := 30) C dX5_append_29 rfl ?_
  refine x_iload (pc2 := 32) C dX5_append_30 0 rfl rfl ?_
  refine x_iadd (pc2 := 33) C dX5_append_32 rfl ?_
  refine x_iload_n (pc2 := 34) C dX5_append_33 4 rfl rfl rfl ?_
  refine x_ret (rest := []) (st2 := []) (pc2 := 37) (cu2 := 0) (su2 := 0) (x_cSN C kmX10_put ke_5_29 (tX10_put hok (by assumption) rfl (by decide)) rfl rfl (Nat.le_of_ble_eq_true rfl) ⟨Nat.le_of_ble_eq_true rfl, Nat.le_of_ble_eq_true rfl⟩ ⟨Nat.le_of_ble_eq_true rfl, Nat.le_of_ble_eq_true rfl⟩ dX5_append_34) rfl rfl rfl rfl ?_
  refine x_aload_n (pc2 := 38) C dX5_append_37 1 rfl rfl rfl ?_
  refine x_getR (f := 502) (k2 := 2010) (pc2 := 41) C (by assumption) kf_5_18 dX5_append_38 rfl rfl rfl (rti_i rfl) rfl (fun qd_3 => ?_)
  refine x_iload_n (pc2 := 42) C dX5_append_41 2 rfl rfl rfl ?_
  refine x_iload (pc2 := 44) C dX5_append_42 0 rfl rfl ?_
  refine x_iconst (pc2 := 45) (v := 1) C dX5_append_44 rfl rfl ?_
  refine x_iadd (pc2 := 46) C dX5_append_45 rfl ?_
  refine x_ret (rest := []) (st2 := []) (pc2 := 49) (cu2 := 0) (su2 := 0) (x_cSN C kmX10_put ke_5_29 (tX10_put hok (by assumption) rfl (by decide)) rfl rfl (Nat.le_of_ble_eq_true rfl) ⟨Nat.le_of_ble_eq_true rfl, Nat.le_of_ble_eq_true rfl⟩ ⟨Nat.le_of_ble_eq_true rfl, Nat.le_of_ble_eq_true rfl⟩ dX5_append_46) rfl rfl rfl rfl ?_
  refine x_iload (pc2 := 51) C dX5_append_49 0 rfl rfl ?_
  refine x_iconst (pc2 := 52) (v := 1) C dX5_append_51 rfl rfl ?_
  refine x_iadd (pc2 := 53) C dX5_append_52 rfl ?_
  exact x_ireturn C dX5_append_53 rfl (Nat.le_of_ble_eq_true rfl) (Nat.le_of_ble_eq_true rfl) (by rw [fX5_append] <;> rfl) (by rw [fX5_append] <;> rfl)
theorem R_fX5_append (Ω : XO) (i : Nat) (x1 : Int32) (x2 : Int32) (x3 : Int32) : xR (fX5_append Ω i x1 x2 x3).2 = xR Ω := by
  unfold fX5_append
  (repeat' split) <;> first | rfl | (funext a b9; simp only [R_uI, R_uL, R_cI, R_sPut, R_fX0_imitate, R_fX0_enter, R_fX0_addEvent, R_fX3_take, R_fX3_push, R_fX3_reach])

def fX6_copyFrom (Ω : XO) (i : Nat) (i1 : Nat) : XO := uL (uI (cI (cI (cI (cI Ω 2011 i1 2011 i (0 : Int32).toNatClampNeg (0 : Int32).toNatClampNeg (16 : Int32).toNatClampNeg) 2012 i1 2012 i (0 : Int32).toNatClampNeg (0 : Int32).toNatClampNeg (16 : Int32).toNatClampNeg) 2013 i1 2013 i (0 : Int32).toNatClampNeg (0 : Int32).toNatClampNeg (16 : Int32).toNatClampNeg) 2014 i1 2014 i (0 : Int32).toNatClampNeg (0 : Int32).toNatClampNeg (64 : Int32).toNatClampNeg) 604 i 0 (xI (cI (cI (cI (cI Ω 2011 i1 2011 i (0 : Int32).toNatClampNeg (0 : Int32).toNatClampNeg (16 : Int32).toNatClampNeg) 2012 i1 2012 i (0 : Int32).toNatClampNeg (0 : Int32).toNatClampNeg (16 : Int32).toNatClampNeg) 2013 i1 2013 i (0 : Int32).toNatClampNeg (0 : Int32).toNatClampNeg (16 : Int32).toNatClampNeg) 2014 i1 2014 i (0 : Int32).toNatClampNeg (0 : Int32).toNatClampNeg (64 : Int32).toNatClampNeg) 604 i1 0)) 605 i 0 (xL (uI (cI (cI (cI (cI Ω 2011 i1 2011 i (0 : Int32).toNatClampNeg (0 : Int32).toNatClampNeg (16 : Int32).toNatClampNeg) 2012 i1 2012 i (0 : Int32).toNatClampNeg (0 : Int32).toNatClampNeg (16 : Int32).toNatClampNeg) 2013 i1 2013 i (0 : Int32).toNatClampNeg (0 : Int32).toNatClampNeg (16 : Int32).toNatClampNeg) 2014 i1 2014 i (0 : Int32).toNatClampNeg (0 : Int32).toNatClampNeg (64 : Int32).toNatClampNeg) 604 i 0 (xI (cI (cI (cI (cI Ω 2011 i1 2011 i (0 : Int32).toNatClampNeg (0 : Int32).toNatClampNeg (16 : Int32).toNatClampNeg) 2012 i1 2012 i (0 : Int32).toNatClampNeg (0 : Int32).toNatClampNeg (16 : Int32).toNatClampNeg) 2013 i1 2013 i (0 : Int32).toNatClampNeg (0 : Int32).toNatClampNeg (16 : Int32).toNatClampNeg) 2014 i1 2014 i (0 : Int32).toNatClampNeg (0 : Int32).toNatClampNeg (64 : Int32).toNatClampNeg) 604 i1 0)) 605 i1 0)
set_option maxRecDepth 20000 in
theorem tX6_copyFrom {G : XG} (hok : XK G) {i : Nat} {i1 : Nat} {Ω : XO} (hd0 : dm G 6 i) (hd1 : dm G 6 i1)   : XM G yX6_copyFrom cX6_copyFrom 2 none (RM 1 0) [.ref (ad G 6 i), .ref (ad G 6 i1)] Ω (.inl none) (fX6_copyFrom Ω i i1) := by
  refine x_start (lv := [(0, .ref (ad G 6 i)), (1, .ref (ad G 6 i1))]) (own := RX6) hok (by decide +kernel) rfl (Nat.le_of_ble_eq_true rfl) rfl (fun B C => ?_)
  refine x_aload_n (pc2 := 1) C dX6_copyFrom_0 1 rfl rfl rfl ?_
  refine x_getR (f := 600) (k2 := 2011) (pc2 := 4) C (by assumption) kf_6_9 dX6_copyFrom_1 rfl rfl rfl (rti_i rfl) rfl (fun qd_1 => ?_)
  refine x_iconst (pc2 := 5) (v := 0) C dX6_copyFrom_4 rfl rfl ?_
  refine x_aload_n (pc2 := 6) C dX6_copyFrom_5 0 rfl rfl rfl ?_
  refine x_getR (f := 600) (k2 := 2011) (pc2 := 9) C (by assumption) kf_6_9 dX6_copyFrom_6 rfl rfl rfl (rti_i rfl) rfl (fun qd_2 => ?_)
  refine x_iconst (pc2 := 10) (v := 0) C dX6_copyFrom_9 rfl rfl ?_
  refine x_bipush (pc2 := 12) (v := 16) C dX6_copyFrom_10 rfl rfl ?_
  refine x_copy (pc2 := 15) C (by assumption) (by assumption) (Nat.le_of_ble_eq_true rfl) (Nat.le_of_ble_eq_true rfl) rfl rfl kk_6_40 kcs kcn kci (by decide) (by decide) (by decide) (Nat.le_of_ble_eq_true rfl) (Nat.le_of_ble_eq_true rfl) ⟨Nat.le_of_ble_eq_true rfl, by decide +kernel⟩ dX6_copyFrom_12 rfl ?_
  refine x_aload_n (pc2 := 16) C dX6_copyFrom_15 1 rfl rfl rfl ?_
  refine x_getR (f := 601) (k2 := 2012) (pc2 := 19) C (by assumption) kf_6_15 dX6_copyFrom_16 rfl rfl rfl (rti_i rfl) rfl (fun qd_3 => ?_)
  refine x_iconst (pc2 := 20) (v := 0) C dX6_copyFrom_19 rfl rfl ?_
  refine x_aload_n (pc2 := 21) C dX6_copyFrom_20 0 rfl rfl rfl ?_
  refine x_getR (f := 601) (k2 := 2012) (pc2 := 24) C (by assumption) kf_6_15 dX6_copyFrom_21 rfl rfl rfl (rti_i rfl) rfl (fun qd_4 => ?_)
  refine x_iconst (pc2 := 25) (v := 0) C dX6_copyFrom_24 rfl rfl ?_
  refine x_bipush (pc2 := 27) (v := 16) C dX6_copyFrom_25 rfl rfl ?_
  refine x_copy (pc2 := 30) C (by assumption) (by assumption) (Nat.le_of_ble_eq_true rfl) (Nat.le_of_ble_eq_true rfl) rfl rfl kk_6_40 kcs kcn kci (by decide) (by decide) (by decide) (Nat.le_of_ble_eq_true rfl) (Nat.le_of_ble_eq_true rfl) ⟨Nat.le_of_ble_eq_true rfl, by decide +kernel⟩ dX6_copyFrom_27 rfl ?_
  refine x_aload_n (pc2 := 31) C dX6_copyFrom_30 1 rfl rfl rfl ?_
  refine x_getR (f := 602) (k2 := 2013) (pc2 := 34) C (by assumption) kf_6_18 dX6_copyFrom_31 rfl rfl rfl (rti_i rfl) rfl (fun qd_5 => ?_)
  refine x_iconst (pc2 := 35) (v := 0) C dX6_copyFrom_34 rfl rfl ?_
  refine x_aload_n (pc2 := 36) C dX6_copyFrom_35 0 rfl rfl rfl ?_
  refine x_getR (f := 602) (k2 := 2013) (pc2 := 39) C (by assumption) kf_6_18 dX6_copyFrom_36 rfl rfl rfl (rti_i rfl) rfl (fun qd_6 => ?_)
  refine x_iconst (pc2 := 40) (v := 0) C dX6_copyFrom_39 rfl rfl ?_
  refine x_bipush (pc2 := 42) (v := 16) C dX6_copyFrom_40 rfl rfl ?_
  refine x_copy (pc2 := 45) C (by assumption) (by assumption) (Nat.le_of_ble_eq_true rfl) (Nat.le_of_ble_eq_true rfl) rfl rfl kk_6_40 kcs kcn kci (by decide) (by decide) (by decide) (Nat.le_of_ble_eq_true rfl) (Nat.le_of_ble_eq_true rfl) ⟨Nat.le_of_ble_eq_true rfl, by decide +kernel⟩ dX6_copyFrom_42 rfl ?_
  refine x_aload_n (pc2 := 46) C dX6_copyFrom_45 1 rfl rfl rfl ?_
  refine x_getR (f := 603) (k2 := 2014) (pc2 := 49) C (by assumption) kf_6_21 dX6_copyFrom_46 rfl rfl rfl (rti_i rfl) rfl (fun qd_7 => ?_)
  refine x_iconst (pc2 := 50) (v := 0) C dX6_copyFrom_49 rfl rfl ?_
  refine x_aload_n (pc2 := 51) C dX6_copyFrom_50 0 rfl rfl rfl ?_
  refine x_getR (f := 603) (k2 := 2014) (pc2 := 54) C (by assumption) kf_6_21 dX6_copyFrom_51 rfl rfl rfl (rti_i rfl) rfl (fun qd_8 => ?_)
  refine x_iconst (pc2 := 55) (v := 0) C dX6_copyFrom_54 rfl rfl ?_
  refine x_bipush (pc2 := 57) (v := 64) C dX6_copyFrom_55 rfl rfl ?_
  refine x_copy (pc2 := 60) C (by assumption) (by assumption) (Nat.le_of_ble_eq_true rfl) (Nat.le_of_ble_eq_true rfl) rfl rfl kk_6_40 kcs kcn kci (by decide) (by decide) (by decide) (Nat.le_of_ble_eq_true rfl) (Nat.le_of_ble_eq_true rfl) ⟨Nat.le_of_ble_eq_true rfl, by decide +kernel⟩ dX6_copyFrom_57 rfl ?_
  refine x_aload_n (pc2 := 61) C dX6_copyFrom_60 0 rfl rfl rfl ?_
  refine x_aload_n (pc2 := 62) C dX6_copyFrom_61 1 rfl rfl rfl ?_
  refine x_getI (pc2 := 65) (f := 604) C (by assumption) kf_6_32 dX6_copyFrom_62 rfl rfl rfl ?_
  refine x_putI (pc2 := 68) (f := 604) C (by assumption) kf_6_32 dX6_copyFrom_65 rfl rfl rfl rfl rfl ?_
  refine x_aload_n (pc2 := 69) C dX6_copyFrom_68 0 rfl rfl rfl ?_
  refine x_aload_n (pc2 := 70) C dX6_copyFrom_69 1 rfl rfl rfl ?_
  refine x_getL (pc2 := 73) (f := 605) C (by assumption) kf_6_36 dX6_copyFrom_70 rfl rfl rfl ?_
  refine x_putL (pc2 := 76) (f := 605) C (by assumption) kf_6_36 dX6_copyFrom_73 rfl rfl rfl rfl rfl ?_
  exact x_vreturn C dX6_copyFrom_76 rfl (Nat.le_of_ble_eq_true rfl) (Nat.le_of_ble_eq_true rfl) rfl (by rw [fX6_copyFrom] <;> rfl)
theorem R_fX6_copyFrom (Ω : XO) (i : Nat) (i1 : Nat) : xR (fX6_copyFrom Ω i i1) = xR Ω := by
  unfold fX6_copyFrom
  (repeat' split) <;> first | rfl | (funext a b9; simp only [R_uI, R_uL, R_cI, R_sPut, R_fX0_imitate, R_fX0_enter, R_fX0_addEvent, R_fX3_take, R_fX3_push, R_fX3_reach, R_fX5_append])

def fX6_gain (Ω : XO) (i : Nat) (x1 : Int32) (x2 : Int32) : XO := (if x1 < 0 then Ω else (if (nI (alen 2011)) ≤ x1 then Ω else uI Ω 2011 i x1.toNatClampNeg ((xI Ω 2011 i x1.toNatClampNeg) + x2)))
set_option maxRecDepth 20000 in
theorem tX6_gain {G : XG} (hok : XK G) {i : Nat} {x1 : Int32} {x2 : Int32} {Ω : XO} (hd0 : dm G 6 i)   : XM G yX6_gain cX6_gain 3 none (RM 0 0) [.ref (ad G 6 i), .int x1, .int x2] Ω (.inl none) (fX6_gain Ω i x1 x2) := by
  refine x_start (lv := [(0, .ref (ad G 6 i)), (1, .int x1), (2, .int x2)]) (own := RX6) hok (by decide +kernel) rfl (Nat.le_of_ble_eq_true rfl) rfl (fun B C => ?_)
  refine x_iload_n (pc2 := 1) C dX6_gain_0 1 rfl rfl rfl ?_
  refine x_if_lt (tgt := 23) (pc2 := 4) C dX6_gain_1 (by decide) rfl (fun qc_1 => ?_) (fun qc_1 => ?_)
  · exact x_vreturn C dX6_gain_23 rfl (Nat.le_of_ble_eq_true rfl) (Nat.le_of_ble_eq_true rfl) rfl (by rw [fX6_gain, if_pos qc_1] <;> rfl)
  · refine x_iload_n (pc2 := 5) C dX6_gain_4 1 rfl rfl rfl ?_
    refine x_aload_n (pc2 := 6) C dX6_gain_5 0 rfl rfl rfl ?_
    refine x_getR (f := 600) (k2 := 2011) (pc2 := 9) C (by assumption) kf_6_9 dX6_gain_6 rfl rfl rfl (rti_i rfl) rfl (fun qd_2 => ?_)
    refine x_alen (pc2 := 10) C (by assumption) dX6_gain_9 rfl rfl rfl ?_
    refine x_icmp_ge (tgt := 23) (pc2 := 13) C dX6_gain_10 (by decide) rfl (fun qc_3 => ?_) (fun qc_3 => ?_)
    · exact x_vreturn C dX6_gain_23 rfl (Nat.le_of_ble_eq_true rfl) (Nat.le_of_ble_eq_true rfl) rfl (by rw [fX6_gain, if_neg qc_1, if_pos qc_3] <;> rfl)
    · refine x_aload_n (pc2 := 14) C dX6_gain_13 0 rfl rfl rfl ?_
      refine x_getR (f := 600) (k2 := 2011) (pc2 := 17) C (by assumption) kf_6_9 dX6_gain_14 rfl rfl rfl (rti_i rfl) rfl (fun qd_4 => ?_)
      refine x_iload_n (pc2 := 18) C dX6_gain_17 1 rfl rfl rfl ?_
      refine x_dup2 (pc2 := 19) C dX6_gain_18 rfl rfl rfl ?_
      refine x_iald (pc2 := 20) C (by assumption) dX6_gain_19 rfl (by first | exact x_in (by assumption) (by assumption) (by decide) | exact x_in3 (by assumption) (by assumption) (by decide) | exact x_in2 (by assumption) (by assumption) (by decide)) rfl ?_
      refine x_iload_n (pc2 := 21) C dX6_gain_20 2 rfl rfl rfl ?_
      refine x_iadd (pc2 := 22) C dX6_gain_21 rfl ?_
      refine x_iast (pc2 := 23) C (by assumption) dX6_gain_22 rfl (by first | exact x_in (by assumption) (by assumption) (by decide) | exact x_in3 (by assumption) (by assumption) (by decide) | exact x_in2 (by assumption) (by assumption) (by decide)) rfl ?_
      exact x_vreturn C dX6_gain_23 rfl (Nat.le_of_ble_eq_true rfl) (Nat.le_of_ble_eq_true rfl) rfl (by rw [fX6_gain, if_neg qc_1, if_neg qc_3] <;> rfl)
theorem R_fX6_gain (Ω : XO) (i : Nat) (x1 : Int32) (x2 : Int32) : xR (fX6_gain Ω i x1 x2) = xR Ω := by
  unfold fX6_gain
  (repeat' split) <;> first | rfl | (funext a b9; simp only [R_uI, R_uL, R_cI, R_sPut, R_fX0_imitate, R_fX0_enter, R_fX0_addEvent, R_fX3_take, R_fX3_push, R_fX3_reach, R_fX5_append, R_fX6_copyFrom])

def fX6_move (Ω : XO) (i : Nat) (x1 : Int32) (x2 : Int32) (x3 : Int32) : XO := (if x1 < 0 then Ω else (if (nI (alen 2011)) ≤ x1 then Ω else (if x2 < 0 then Ω else (if (nI (alen 2011)) ≤ x2 then Ω else uI (uI Ω 2011 i x1.toNatClampNeg ((xI Ω 2011 i x1.toNatClampNeg) - x3)) 2011 i x2.toNatClampNeg ((xI (uI Ω 2011 i x1.toNatClampNeg ((xI Ω 2011 i x1.toNatClampNeg) - x3)) 2011 i x2.toNatClampNeg) + x3)))))
set_option maxRecDepth 20000 in
theorem tX6_move {G : XG} (hok : XK G) {i : Nat} {x1 : Int32} {x2 : Int32} {x3 : Int32} {Ω : XO} (hd0 : dm G 6 i)   : XM G yX6_move cX6_move 4 none (RM 0 0) [.ref (ad G 6 i), .int x1, .int x2, .int x3] Ω (.inl none) (fX6_move Ω i x1 x2 x3) := by
  refine x_start (lv := [(0, .ref (ad G 6 i)), (1, .int x1), (2, .int x2), (3, .int x3)]) (own := RX6) hok (by decide +kernel) rfl (Nat.le_of_ble_eq_true rfl) rfl (fun B C => ?_)
  refine x_iload_n (pc2 := 1) C dX6_move_0 1 rfl rfl rfl ?_
  refine x_if_lt (tgt := 46) (pc2 := 4) C dX6_move_1 (by decide) rfl (fun qc_1 => ?_) (fun qc_1 => ?_)
  · exact x_vreturn C dX6_move_46 rfl (Nat.le_of_ble_eq_true rfl) (Nat.le_of_ble_eq_true rfl) rfl (by rw [fX6_move, if_pos qc_1] <;> rfl)
  · refine x_iload_n (pc2 := 5) C dX6_move_4 1 rfl rfl rfl ?_
    refine x_aload_n (pc2 := 6) C dX6_move_5 0 rfl rfl rfl ?_
    refine x_getR (f := 600) (k2 := 2011) (pc2 := 9) C (by assumption) kf_6_9 dX6_move_6 rfl rfl rfl (rti_i rfl) rfl (fun qd_2 => ?_)
    refine x_alen (pc2 := 10) C (by assumption) dX6_move_9 rfl rfl rfl ?_
    refine x_icmp_ge (tgt := 46) (pc2 := 13) C dX6_move_10 (by decide) rfl (fun qc_3 => ?_) (fun qc_3 => ?_)
    · exact x_vreturn C dX6_move_46 rfl (Nat.le_of_ble_eq_true rfl) (Nat.le_of_ble_eq_true rfl) rfl (by rw [fX6_move, if_neg qc_1, if_pos qc_3] <;> rfl)
    · refine x_iload_n (pc2 := 14) C dX6_move_13 2 rfl rfl rfl ?_
      refine x_if_lt (tgt := 46) (pc2 := 17) C dX6_move_14 (by decide) rfl (fun qc_4 => ?_) (fun qc_4 => ?_)
      · exact x_vreturn C dX6_move_46 rfl (Nat.le_of_ble_eq_true rfl) (Nat.le_of_ble_eq_true rfl) rfl (by rw [fX6_move, if_neg qc_1, if_neg qc_3, if_pos qc_4] <;> rfl)
      · refine x_iload_n (pc2 := 18) C dX6_move_17 2 rfl rfl rfl ?_
        refine x_aload_n (pc2 := 19) C dX6_move_18 0 rfl rfl rfl ?_
        refine x_getR (f := 600) (k2 := 2011) (pc2 := 22) C (by assumption) kf_6_9 dX6_move_19 rfl rfl rfl (rti_i rfl) rfl (fun qd_5 => ?_)
        refine x_alen (pc2 := 23) C (by assumption) dX6_move_22 rfl rfl rfl ?_
        refine x_icmp_ge (tgt := 46) (pc2 := 26) C dX6_move_23 (by decide) rfl (fun qc_6 => ?_) (fun qc_6 => ?_)
        · exact x_vreturn C dX6_move_46 rfl (Nat.le_of_ble_eq_true rfl) (Nat.le_of_ble_eq_true rfl) rfl (by rw [fX6_move, if_neg qc_1, if_neg qc_3, if_neg qc_4, if_pos qc_6] <;> rfl)
        · refine x_aload_n (pc2 := 27) C dX6_move_26 0 rfl rfl rfl ?_
          refine x_getR (f := 600) (k2 := 2011) (pc2 := 30) C (by assumption) kf_6_9 dX6_move_27 rfl rfl rfl (rti_i rfl) rfl (fun qd_7 => ?_)
          refine x_iload_n (pc2 := 31) C dX6_move_30 1 rfl rfl rfl ?_
          refine x_dup2 (pc2 := 32) C dX6_move_31 rfl rfl rfl ?_
          refine x_iald (pc2 := 33) C (by assumption) dX6_move_32 rfl (by first | exact x_in (by assumption) (by assumption) (by decide) | exact x_in3 (by assumption) (by assumption) (by decide) | exact x_in2 (by assumption) (by assumption) (by decide)) rfl ?_
          refine x_iload_n (pc2 := 34) C dX6_move_33 3 rfl rfl rfl ?_
          refine x_isub (pc2 := 35) C dX6_move_34 rfl ?_
          refine x_iast (pc2 := 36) C (by assumption) dX6_move_35 rfl (by first | exact x_in (by assumption) (by assumption) (by decide) | exact x_in3 (by assumption) (by assumption) (by decide) | exact x_in2 (by assumption) (by assumption) (by decide)) rfl ?_
          refine x_aload_n (pc2 := 37) C dX6_move_36 0 rfl rfl rfl ?_
          refine x_getR (f := 600) (k2 := 2011) (pc2 := 40) C (by assumption) kf_6_9 dX6_move_37 rfl rfl rfl (rti_i rfl) rfl (fun qd_8 => ?_)
          refine x_iload_n (pc2 := 41) C dX6_move_40 2 rfl rfl rfl ?_
          refine x_dup2 (pc2 := 42) C dX6_move_41 rfl rfl rfl ?_
          refine x_iald (pc2 := 43) C (by assumption) dX6_move_42 rfl (by first | exact x_in (by assumption) (by assumption) (by decide) | exact x_in3 (by assumption) (by assumption) (by decide) | exact x_in2 (by assumption) (by assumption) (by decide)) rfl ?_
          refine x_iload_n (pc2 := 44) C dX6_move_43 3 rfl rfl rfl ?_
          refine x_iadd (pc2 := 45) C dX6_move_44 rfl ?_
          refine x_iast (pc2 := 46) C (by assumption) dX6_move_45 rfl (by first | exact x_in (by assumption) (by assumption) (by decide) | exact x_in3 (by assumption) (by assumption) (by decide) | exact x_in2 (by assumption) (by assumption) (by decide)) rfl ?_
          exact x_vreturn C dX6_move_46 rfl (Nat.le_of_ble_eq_true rfl) (Nat.le_of_ble_eq_true rfl) rfl (by rw [fX6_move, if_neg qc_1, if_neg qc_3, if_neg qc_4, if_neg qc_6] <;> rfl)
theorem R_fX6_move (Ω : XO) (i : Nat) (x1 : Int32) (x2 : Int32) (x3 : Int32) : xR (fX6_move Ω i x1 x2 x3) = xR Ω := by
  unfold fX6_move
  (repeat' split) <;> first | rfl | (funext a b9; simp only [R_uI, R_uL, R_cI, R_sPut, R_fX0_imitate, R_fX0_enter, R_fX0_addEvent, R_fX3_take, R_fX3_push, R_fX3_reach, R_fX5_append, R_fX6_copyFrom, R_fX6_gain])

def fX6_raiseNonce (Ω : XO) (i : Nat) (x1 : Int32) : XO := (if x1 < 0 then Ω else (if (nI (alen 2012)) ≤ x1 then Ω else uI Ω 2012 i x1.toNatClampNeg ((xI Ω 2012 i x1.toNatClampNeg) + (1 : Int32))))
set_option maxRecDepth 20000 in
theorem tX6_raiseNonce {G : XG} (hok : XK G) {i : Nat} {x1 : Int32} {Ω : XO} (hd0 : dm G 6 i)   : XM G yX6_raiseNonce cX6_raiseNonce 2 none (RM 0 0) [.ref (ad G 6 i), .int x1] Ω (.inl none) (fX6_raiseNonce Ω i x1) := by
  refine x_start (lv := [(0, .ref (ad G 6 i)), (1, .int x1)]) (own := RX6) hok (by decide +kernel) rfl (Nat.le_of_ble_eq_true rfl) rfl (fun B C => ?_)
  refine x_iload_n (pc2 := 1) C dX6_raiseNonce_0 1 rfl rfl rfl ?_
  refine x_if_lt (tgt := 23) (pc2 := 4) C dX6_raiseNonce_1 (by decide) rfl (fun qc_1 => ?_) (fun qc_1 => ?_)
  · exact x_vreturn C dX6_raiseNonce_23 rfl (Nat.le_of_ble_eq_true rfl) (Nat.le_of_ble_eq_true rfl) rfl (by rw [fX6_raiseNonce, if_pos qc_1] <;> rfl)
  · refine x_iload_n (pc2 := 5) C dX6_raiseNonce_4 1 rfl rfl rfl ?_
    refine x_aload_n (pc2 := 6) C dX6_raiseNonce_5 0 rfl rfl rfl ?_
    refine x_getR (f := 601) (k2 := 2012) (pc2 := 9) C (by assumption) kf_6_15 dX6_raiseNonce_6 rfl rfl rfl (rti_i rfl) rfl (fun qd_2 => ?_)
    refine x_alen (pc2 := 10) C (by assumption) dX6_raiseNonce_9 rfl rfl rfl ?_
    refine x_icmp_ge (tgt := 23) (pc2 := 13) C dX6_raiseNonce_10 (by decide) rfl (fun qc_3 => ?_) (fun qc_3 => ?_)
    · exact x_vreturn C dX6_raiseNonce_23 rfl (Nat.le_of_ble_eq_true rfl) (Nat.le_of_ble_eq_true rfl) rfl (by rw [fX6_raiseNonce, if_neg qc_1, if_pos qc_3] <;> rfl)
    · refine x_aload_n (pc2 := 14) C dX6_raiseNonce_13 0 rfl rfl rfl ?_
      refine x_getR (f := 601) (k2 := 2012) (pc2 := 17) C (by assumption) kf_6_15 dX6_raiseNonce_14 rfl rfl rfl (rti_i rfl) rfl (fun qd_4 => ?_)
      refine x_iload_n (pc2 := 18) C dX6_raiseNonce_17 1 rfl rfl rfl ?_
      refine x_dup2 (pc2 := 19) C dX6_raiseNonce_18 rfl rfl rfl ?_
      refine x_iald (pc2 := 20) C (by assumption) dX6_raiseNonce_19 rfl (by first | exact x_in (by assumption) (by assumption) (by decide) | exact x_in3 (by assumption) (by assumption) (by decide) | exact x_in2 (by assumption) (by assumption) (by decide)) rfl ?_
      refine x_iconst (pc2 := 21) (v := 1) C dX6_raiseNonce_20 rfl rfl ?_
      refine x_iadd (pc2 := 22) C dX6_raiseNonce_21 rfl ?_
      refine x_iast (pc2 := 23) C (by assumption) dX6_raiseNonce_22 rfl (by first | exact x_in (by assumption) (by assumption) (by decide) | exact x_in3 (by assumption) (by assumption) (by decide) | exact x_in2 (by assumption) (by assumption) (by decide)) rfl ?_
      exact x_vreturn C dX6_raiseNonce_23 rfl (Nat.le_of_ble_eq_true rfl) (Nat.le_of_ble_eq_true rfl) rfl (by rw [fX6_raiseNonce, if_neg qc_1, if_neg qc_3] <;> rfl)
theorem R_fX6_raiseNonce (Ω : XO) (i : Nat) (x1 : Int32) : xR (fX6_raiseNonce Ω i x1) = xR Ω := by
  unfold fX6_raiseNonce
  (repeat' split) <;> first | rfl | (funext a b9; simp only [R_uI, R_uL, R_cI, R_sPut, R_fX0_imitate, R_fX0_enter, R_fX0_addEvent, R_fX3_take, R_fX3_push, R_fX3_reach, R_fX5_append, R_fX6_copyFrom, R_fX6_gain, R_fX6_move])

def fX6_isPaid (Ω : XO) (i : Nat) (x1 : Int32) : Int32 := (if (lg_cmp (((xL Ω 605 i 0) >>> (x1.toInt64 &&& 63)) &&& (1 : Int64)) (1 : Int64)) = 0 then (1 : Int32) else (0 : Int32))
set_option maxRecDepth 20000 in
theorem tX6_isPaid {G : XG} (hok : XK G) {i : Nat} {x1 : Int32} {Ω : XO} (hd0 : dm G 6 i)   : XM G yX6_isPaid cX6_isPaid 2 ((some FieldType.boolean)) (RM 0 0) [.ref (ad G 6 i), .int x1] Ω (.inl (some (.int (fX6_isPaid Ω i x1)))) Ω := by
  refine x_start (lv := [(0, .ref (ad G 6 i)), (1, .int x1)]) (own := RX6) hok (by decide +kernel) rfl (Nat.le_of_ble_eq_true rfl) rfl (fun B C => ?_)
  refine x_aload_n (pc2 := 1) C dX6_isPaid_0 0 rfl rfl rfl ?_
  refine x_getL (pc2 := 4) (f := 605) C (by assumption) kf_6_36 dX6_isPaid_1 rfl rfl rfl ?_
  refine x_iload_n (pc2 := 5) C dX6_isPaid_4 1 rfl rfl rfl ?_
  refine x_lshr (pc2 := 6) C dX6_isPaid_5 rfl ?_
  refine x_lconst (pc2 := 7) (v := 1) C dX6_isPaid_6 rfl rfl ?_
  refine x_land (pc2 := 8) C dX6_isPaid_7 rfl ?_
  refine x_lconst (pc2 := 9) (v := 1) C dX6_isPaid_8 rfl rfl ?_
  refine x_lcmp (pc2 := 10) C dX6_isPaid_9 rfl ?_
  refine x_if_ne (tgt := 17) (pc2 := 13) C dX6_isPaid_10 (by decide) rfl (fun qc_1 => ?_) (fun qc_1 => ?_)
  · refine x_iconst (pc2 := 18) (v := 0) C dX6_isPaid_17 rfl rfl ?_
    exact x_zreturn C dX6_isPaid_18 rfl (by first | exact Or.inl rfl | exact Or.inr rfl) (Nat.le_of_ble_eq_true rfl) (Nat.le_of_ble_eq_true rfl) (by rw [fX6_isPaid, if_neg qc_1] <;> rfl) rfl
  · refine x_iconst (pc2 := 14) (v := 1) C dX6_isPaid_13 rfl rfl ?_
    refine x_goto (tgt := 18) C dX6_isPaid_14 (by decide) ?_
    exact x_zreturn C dX6_isPaid_18 rfl (by first | exact Or.inl rfl | exact Or.inr rfl) (Nat.le_of_ble_eq_true rfl) (Nat.le_of_ble_eq_true rfl) (by rw [fX6_isPaid, if_pos qc_1] <;> rfl) rfl

def fX6_leafOf (Ω : XO) (i : Nat) (x1 : Int32) : Int32 := sMix ((sAt Ω 2011 i x1) - (sAt Ω 2011 i x1) / (1000003 : Int32) * (1000003 : Int32)) (sMix (sAt Ω 2012 i x1) (sMix (sAt Ω 2013 i x1) (sMix (sMix (sAt Ω 2014 i (x1 * (4 : Int32))) (sAt Ω 2014 i ((x1 * (4 : Int32)) + (1 : Int32)))) (sMix (sAt Ω 2014 i ((x1 * (4 : Int32)) + (2 : Int32))) (sAt Ω 2014 i ((x1 * (4 : Int32)) + (3 : Int32)))))))
set_option maxRecDepth 20000 in
theorem tX6_leafOf {G : XG} (hok : XK G) {i : Nat} {x1 : Int32} {Ω : XO} (hd0 : dm G 6 i)   : XM G yX6_leafOf cX6_leafOf 4 ((some FieldType.int)) (RM 1 0) [.ref (ad G 6 i), .int x1] Ω (.inl (some (.int (fX6_leafOf Ω i x1)))) Ω := by
  refine x_start (lv := [(0, .ref (ad G 6 i)), (1, .int x1)]) (own := RX6) hok (by decide +kernel) rfl (Nat.le_of_ble_eq_true rfl) rfl (fun B C => ?_)
  refine x_iload_n (pc2 := 1) C dX6_leafOf_0 1 rfl rfl rfl ?_
  refine x_iconst (pc2 := 2) (v := 4) C dX6_leafOf_1 rfl rfl ?_
  refine x_imul (pc2 := 3) C dX6_leafOf_2 rfl ?_
  refine x_istore_n (pc2 := 4) (lv2 := [(2, _), (0, _), (1, _)]) C dX6_leafOf_3 rfl (by decide) rfl rfl ?_
  refine x_aload_n (pc2 := 5) C dX6_leafOf_4 1 rfl rfl rfl ?_
  refine x_getR (f := 603) (k2 := 2014) (pc2 := 8) C (by assumption) kf_6_21 dX6_leafOf_5 rfl rfl rfl (rti_i rfl) rfl (fun qd_1 => ?_)
  refine x_iload_n (pc2 := 9) C dX6_leafOf_8 0 rfl rfl rfl ?_
  refine x_ret (rest := []) (st2 := [_]) (pc2 := 12) (cu2 := 0) (su2 := 0) (x_cSN C kmX10_at ke_6_46 (tX10_at hok (by assumption) rfl (by decide)) rfl rfl (Nat.le_of_ble_eq_true rfl) ⟨Nat.le_of_ble_eq_true rfl, Nat.le_of_ble_eq_true rfl⟩ ⟨Nat.le_of_ble_eq_true rfl, Nat.le_of_ble_eq_true rfl⟩ dX6_leafOf_9) rfl rfl rfl rfl ?_
  refine x_aload_n (pc2 := 13) C dX6_leafOf_12 1 rfl rfl rfl ?_
  refine x_getR (f := 603) (k2 := 2014) (pc2 := 16) C (by assumption) kf_6_21 dX6_leafOf_13 rfl rfl rfl (rti_i rfl) rfl (fun qd_2 => ?_)
  refine x_iload_n (pc2 := 17) C dX6_leafOf_16 0 rfl rfl rfl ?_
  refine x_iconst (pc2 := 18) (v := 1) C dX6_leafOf_17 rfl rfl ?_
  refine x_iadd (pc2 := 19) C dX6_leafOf_18 rfl ?_
  refine x_ret (rest := [_]) (st2 := [_, _]) (pc2 := 22) (cu2 := 0) (su2 := 0) (x_cSN C kmX10_at ke_6_46 (tX10_at hok (by assumption) rfl (by decide)) rfl rfl (Nat.le_of_ble_eq_true rfl) ⟨Nat.le_of_ble_eq_true rfl, Nat.le_of_ble_eq_true rfl⟩ ⟨Nat.le_of_ble_eq_true rfl, Nat.le_of_ble_eq_true rfl⟩ dX6_leafOf_19) rfl rfl rfl rfl ?_
  refine x_ret (rest := []) (st2 := [_]) (pc2 := 25) (cu2 := 0) (su2 := 0) (x_cSN C kmX10_mix ke_6_50 (tX10_mix hok) rfl rfl (Nat.le_of_ble_eq_true rfl) ⟨Nat.le_of_ble_eq_true rfl, Nat.le_of_ble_eq_true rfl⟩ ⟨Nat.le_of_ble_eq_true rfl, Nat.le_of_ble_eq_true rfl⟩ dX6_leafOf_22) rfl rfl rfl rfl ?_
  refine x_aload_n (pc2 := 26) C dX6_leafOf_25 1 rfl rfl rfl ?_
  refine x_getR (f := 603) (k2 := 2014) (pc2 := 29) C (by assumption) kf_6_21 dX6_leafOf_26 rfl rfl rfl (rti_i rfl) rfl (fun qd_3 => ?_)
  refine x_iload_n (pc2 := 30) C dX6_leafOf_29 0 rfl rfl rfl ?_
  refine x_iconst (pc2 := 31) (v := 2) C dX6_leafOf_30 rfl rfl ?_
  refine x_iadd (pc2 := 32) C dX6_leafOf_31 rfl ?_
  refine x_ret (rest := [_]) (st2 := [_, _]) (pc2 := 35) (cu2 := 0) (su2 := 0) (x_cSN C kmX10_at ke_6_46 (tX10_at hok (by assumption) rfl (by decide)) rfl rfl (Nat.le_of_ble_eq_true rfl) ⟨Nat.le_of_ble_eq_true rfl, Nat.le_of_ble_eq_true rfl⟩ ⟨Nat.le_of_ble_eq_true rfl, Nat.le_of_ble_eq_true rfl⟩ dX6_leafOf_32) rfl rfl rfl rfl ?_
  refine x_aload_n (pc2 := 36) C dX6_leafOf_35 1 rfl rfl rfl ?_
  refine x_getR (f := 603) (k2 := 2014) (pc2 := 39) C (by assumption) kf_6_21 dX6_leafOf_36 rfl rfl rfl (rti_i rfl) rfl (fun qd_4 => ?_)
  refine x_iload_n (pc2 := 40) C dX6_leafOf_39 0 rfl rfl rfl ?_
  refine x_iconst (pc2 := 41) (v := 3) C dX6_leafOf_40 rfl rfl ?_
  refine x_iadd (pc2 := 42) C dX6_leafOf_41 rfl ?_
  refine x_ret (rest := [_, _]) (st2 := [_, _, _]) (pc2 := 45) (cu2 := 0) (su2 := 0) (x_cSN C kmX10_at ke_6_46 (tX10_at hok (by assumption) rfl (by decide)) rfl rfl (Nat.le_of_ble_eq_true rfl) ⟨Nat.le_of_ble_eq_true rfl, Nat.le_of_ble_eq_true rfl⟩ ⟨Nat.le_of_ble_eq_true rfl, Nat.le_of_ble_eq_true rfl⟩ dX6_leafOf_42) rfl rfl rfl rfl ?_
  refine x_ret (rest := [_]) (st2 := [_, _]) (pc2 := 48) (cu2 := 0) (su2 := 0) (x_cSN C kmX10_mix ke_6_50 (tX10_mix hok) rfl rfl (Nat.le_of_ble_eq_true rfl) ⟨Nat.le_of_ble_eq_true rfl, Nat.le_of_ble_eq_true rfl⟩ ⟨Nat.le_of_ble_eq_true rfl, Nat.le_of_ble_eq_true rfl⟩ dX6_leafOf_45) rfl rfl rfl rfl ?_
  refine x_ret (rest := []) (st2 := [_]) (pc2 := 51) (cu2 := 0) (su2 := 0) (x_cSN C kmX10_mix ke_6_50 (tX10_mix hok) rfl rfl (Nat.le_of_ble_eq_true rfl) ⟨Nat.le_of_ble_eq_true rfl, Nat.le_of_ble_eq_true rfl⟩ ⟨Nat.le_of_ble_eq_true rfl, Nat.le_of_ble_eq_true rfl⟩ dX6_leafOf_48) rfl rfl rfl rfl ?_
  refine x_istore_n (pc2 := 52) (lv2 := [(3, _), (2, _), (0, _), (1, _)]) C dX6_leafOf_51 rfl (by decide) rfl rfl ?_
  refine x_aload_n (pc2 := 53) C dX6_leafOf_52 2 rfl rfl rfl ?_
  refine x_getR (f := 600) (k2 := 2011) (pc2 := 56) C (by assumption) kf_6_9 dX6_leafOf_53 rfl rfl rfl (rti_i rfl) rfl (fun qd_5 => ?_)
  refine x_iload_n (pc2 := 57) C dX6_leafOf_56 3 rfl rfl rfl ?_
  refine x_ret (rest := []) (st2 := [_]) (pc2 := 60) (cu2 := 0) (su2 := 0) (x_cSN C kmX10_at ke_6_46 (tX10_at hok (by assumption) rfl (by decide)) rfl rfl (Nat.le_of_ble_eq_true rfl) ⟨Nat.le_of_ble_eq_true rfl, Nat.le_of_ble_eq_true rfl⟩ ⟨Nat.le_of_ble_eq_true rfl, Nat.le_of_ble_eq_true rfl⟩ dX6_leafOf_57) rfl rfl rfl rfl ?_
  refine x_ldc (pc2 := 62) C kc_6_54 dX6_leafOf_60 rfl ?_
  refine x_irem (pc2 := 63) C dX6_leafOf_62 (by decide +kernel) rfl ?_
  refine x_aload_n (pc2 := 64) C dX6_leafOf_63 2 rfl rfl rfl ?_
  refine x_getR (f := 601) (k2 := 2012) (pc2 := 67) C (by assumption) kf_6_15 dX6_leafOf_64 rfl rfl rfl (rti_i rfl) rfl (fun qd_6 => ?_)
  refine x_iload_n (pc2 := 68) C dX6_leafOf_67 3 rfl rfl rfl ?_
  refine x_ret (rest := [_]) (st2 := [_, _]) (pc2 := 71) (cu2 := 0) (su2 := 0) (x_cSN C kmX10_at ke_6_46 (tX10_at hok (by assumption) rfl (by decide)) rfl rfl (Nat.le_of_ble_eq_true rfl) ⟨Nat.le_of_ble_eq_true rfl, Nat.le_of_ble_eq_true rfl⟩ ⟨Nat.le_of_ble_eq_true rfl, Nat.le_of_ble_eq_true rfl⟩ dX6_leafOf_68) rfl rfl rfl rfl ?_
  refine x_aload_n (pc2 := 72) C dX6_leafOf_71 2 rfl rfl rfl ?_
  refine x_getR (f := 602) (k2 := 2013) (pc2 := 75) C (by assumption) kf_6_18 dX6_leafOf_72 rfl rfl rfl (rti_i rfl) rfl (fun qd_7 => ?_)
  refine x_iload_n (pc2 := 76) C dX6_leafOf_75 3 rfl rfl rfl ?_
  refine x_ret (rest := [_, _]) (st2 := [_, _, _]) (pc2 := 79) (cu2 := 0) (su2 := 0) (x_cSN C kmX10_at ke_6_46 (tX10_at hok (by assumption) rfl (by decide)) rfl rfl (Nat.le_of_ble_eq_true rfl) ⟨Nat.le_of_ble_eq_true rfl, Nat.le_of_ble_eq_true rfl⟩ ⟨Nat.le_of_ble_eq_true rfl, Nat.le_of_ble_eq_true rfl⟩ dX6_leafOf_76) rfl rfl rfl rfl ?_
  refine x_iload_n (pc2 := 80) C dX6_leafOf_79 0 rfl rfl rfl ?_
  refine x_ret (rest := [_, _]) (st2 := [_, _, _]) (pc2 := 83) (cu2 := 0) (su2 := 0) (x_cSN C kmX10_mix ke_6_50 (tX10_mix hok) rfl rfl (Nat.le_of_ble_eq_true rfl) ⟨Nat.le_of_ble_eq_true rfl, Nat.le_of_ble_eq_true rfl⟩ ⟨Nat.le_of_ble_eq_true rfl, Nat.le_of_ble_eq_true rfl⟩ dX6_leafOf_80) rfl rfl rfl rfl ?_
  refine x_ret (rest := [_]) (st2 := [_, _]) (pc2 := 86) (cu2 := 0) (su2 := 0) (x_cSN C kmX10_mix ke_6_50 (tX10_mix hok) rfl rfl (Nat.le_of_ble_eq_true rfl) ⟨Nat.le_of_ble_eq_true rfl, Nat.le_of_ble_eq_true rfl⟩ ⟨Nat.le_of_ble_eq_true rfl, Nat.le_of_ble_eq_true rfl⟩ dX6_leafOf_83) rfl rfl rfl rfl ?_
  refine x_ret (rest := []) (st2 := [_]) (pc2 := 89) (cu2 := 0) (su2 := 0) (x_cSN C kmX10_mix ke_6_50 (tX10_mix hok) rfl rfl (Nat.le_of_ble_eq_true rfl) ⟨Nat.le_of_ble_eq_true rfl, Nat.le_of_ble_eq_true rfl⟩ ⟨Nat.le_of_ble_eq_true rfl, Nat.le_of_ble_eq_true rfl⟩ dX6_leafOf_86) rfl rfl rfl rfl ?_
  exact x_ireturn C dX6_leafOf_89 rfl (Nat.le_of_ble_eq_true rfl) (Nat.le_of_ble_eq_true rfl) (by rw [fX6_leafOf] <;> rfl) rfl

def fX7_order (Ω : XO) (i : Nat) (x1 : Int32) (x2 : Int32) (x3 : Int32) (x4 : Int32) (x5 : Int32) (x6 : Int32) : XO := uI (uI (uI (uI (uI (uI (uI Ω 701 i 0 x1) 702 i 0 x2) 703 i 0 x3) 704 i 0 x4) 705 i 0 x5) 706 i 0 x6) 709 i 0 (-1 : Int32)
set_option maxRecDepth 20000 in
theorem tX7_order {G : XG} (hok : XK G) {i : Nat} {x1 : Int32} {x2 : Int32} {x3 : Int32} {x4 : Int32} {x5 : Int32} {x6 : Int32} {Ω : XO} (hd0 : dm G 7 i)   : XM G yX7_order cX7_order 7 none (RM 0 0) [.ref (ad G 7 i), .int x1, .int x2, .int x3, .int x4, .int x5, .int x6] Ω (.inl none) (fX7_order Ω i x1 x2 x3 x4 x5 x6) := by
  refine x_start (lv := [(0, .ref (ad G 7 i)), (1, .int x1), (2, .int x2), (3, .int x3), (4, .int x4), (5, .int x5), (6, .int x6)]) (own := RX7) hok (by decide +kernel) rfl (Nat.le_of_ble_eq_true rfl) rfl (fun B C => ?_)
  refine x_aload_n (pc2 := 1) C dX7_order_0 0 rfl rfl rfl ?_
  refine x_iload_n (pc2 := 2) C dX7_order_1 1 rfl rfl rfl ?_
  refine x_putI (pc2 := 5) (f := 701) C (by assumption) kf_7_18 dX7_order_2 rfl rfl rfl rfl rfl ?_
  refine x_aload_n (pc2 := 6) C dX7_order_5 0 rfl rfl rfl ?_
  refine x_iload_n (pc2 := 7) C dX7_order_6 2 rfl rfl rfl ?_
  refine x_putI (pc2 := 10) (f := 702) C (by assumption) kf_7_21 dX7_order_7 rfl rfl rfl rfl rfl ?_
  refine x_aload_n (pc2 := 11) C dX7_order_10 0 rfl rfl rfl ?_
  refine x_iload_n (pc2 := 12) C dX7_order_11 3 rfl rfl rfl ?_
  refine x_putI (pc2 := 15) (f := 703) C (by assumption) kf_7_24 dX7_order_12 rfl rfl rfl rfl rfl ?_
  refine x_aload_n (pc2 := 16) C dX7_order_15 0 rfl rfl rfl ?_
  refine x_iload (pc2 := 18) C dX7_order_16 4 rfl rfl ?_
  refine x_putI (pc2 := 21) (f := 704) C (by assumption) kf_7_27 dX7_order_18 rfl rfl rfl rfl rfl ?_
  refine x_aload_n (pc2 := 22) C dX7_order_21 0 rfl rfl rfl ?_
  refine x_iload (pc2 := 24) C dX7_order_22 5 rfl rfl ?_
  refine x_putI (pc2 := 27) (f := 705) C (by assumption) kf_7_30 dX7_order_24 rfl rfl rfl rfl rfl ?_
  refine x_aload_n (pc2 := 28) C dX7_order_27 0 rfl rfl rfl ?_
  refine x_iload (pc2 := 30) C dX7_order_28 6 rfl rfl ?_
  refine x_putI (pc2 := 33) (f := 706) C (by assumption) kf_7_33 dX7_order_30 rfl rfl rfl rfl rfl ?_
  refine x_aload_n (pc2 := 34) C dX7_order_33 0 rfl rfl rfl ?_
  refine x_iconst (pc2 := 35) (v := (-1)) C dX7_order_34 rfl rfl ?_
  refine x_putI (pc2 := 38) (f := 709) C (by assumption) kf_7_9 dX7_order_35 rfl rfl rfl rfl rfl ?_
  exact x_vreturn C dX7_order_38 rfl (Nat.le_of_ble_eq_true rfl) (Nat.le_of_ble_eq_true rfl) rfl (by rw [fX7_order] <;> rfl)
theorem R_fX7_order (Ω : XO) (i : Nat) (x1 : Int32) (x2 : Int32) (x3 : Int32) (x4 : Int32) (x5 : Int32) (x6 : Int32) : xR (fX7_order Ω i x1 x2 x3 x4 x5 x6) = xR Ω := by
  unfold fX7_order
  (repeat' split) <;> first | rfl | (funext a b9; simp only [R_uI, R_uL, R_cI, R_sPut, R_fX0_imitate, R_fX0_enter, R_fX0_addEvent, R_fX3_take, R_fX3_push, R_fX3_reach, R_fX5_append, R_fX6_copyFrom, R_fX6_gain, R_fX6_move, R_fX6_raiseNonce])

def fX7_bid (Ω : XO) (i : Nat) (x1 : Int32) (x2 : Int32) : XO := uI (uI Ω 707 i 0 x1) 708 i 0 x2
set_option maxRecDepth 20000 in
theorem tX7_bid {G : XG} (hok : XK G) {i : Nat} {x1 : Int32} {x2 : Int32} {Ω : XO} (hd0 : dm G 7 i)   : XM G yX7_bid cX7_bid 3 none (RM 0 0) [.ref (ad G 7 i), .int x1, .int x2] Ω (.inl none) (fX7_bid Ω i x1 x2) := by
  refine x_start (lv := [(0, .ref (ad G 7 i)), (1, .int x1), (2, .int x2)]) (own := RX7) hok (by decide +kernel) rfl (Nat.le_of_ble_eq_true rfl) rfl (fun B C => ?_)
  refine x_aload_n (pc2 := 1) C dX7_bid_0 0 rfl rfl rfl ?_
  refine x_iload_n (pc2 := 2) C dX7_bid_1 1 rfl rfl rfl ?_
  refine x_putI (pc2 := 5) (f := 707) C (by assumption) kf_7_36 dX7_bid_2 rfl rfl rfl rfl rfl ?_
  refine x_aload_n (pc2 := 6) C dX7_bid_5 0 rfl rfl rfl ?_
  refine x_iload_n (pc2 := 7) C dX7_bid_6 2 rfl rfl rfl ?_
  refine x_putI (pc2 := 10) (f := 708) C (by assumption) kf_7_39 dX7_bid_7 rfl rfl rfl rfl rfl ?_
  exact x_vreturn C dX7_bid_10 rfl (Nat.le_of_ble_eq_true rfl) (Nat.le_of_ble_eq_true rfl) rfl (by rw [fX7_bid] <;> rfl)
theorem R_fX7_bid (Ω : XO) (i : Nat) (x1 : Int32) (x2 : Int32) : xR (fX7_bid Ω i x1 x2) = xR Ω := by
  unfold fX7_bid
  (repeat' split) <;> first | rfl | (funext a b9; simp only [R_uI, R_uL, R_cI, R_sPut, R_fX0_imitate, R_fX0_enter, R_fX0_addEvent, R_fX3_take, R_fX3_push, R_fX3_reach, R_fX5_append, R_fX6_copyFrom, R_fX6_gain, R_fX6_move, R_fX6_raiseNonce, R_fX7_order])

def fX7_nameLock (Ω : XO) (i : Nat) (i1 : Nat) : XO := uI (uI (uI Ω 709 i 0 (xI Ω 700 i1 0)) 710 i 0 (xI (uI Ω 709 i 0 (xI Ω 700 i1 0)) 704 i1 0)) 711 i 0 ((xI (uI (uI Ω 709 i 0 (xI Ω 700 i1 0)) 710 i 0 (xI (uI Ω 709 i 0 (xI Ω 700 i1 0)) 704 i1 0)) 705 i1 0) - (xI (uI (uI Ω 709 i 0 (xI Ω 700 i1 0)) 710 i 0 (xI (uI Ω 709 i 0 (xI Ω 700 i1 0)) 704 i1 0)) 705 i1 0) / (6 : Int32) * (6 : Int32))
set_option maxRecDepth 20000 in
theorem tX7_nameLock {G : XG} (hok : XK G) {i : Nat} {i1 : Nat} {Ω : XO} (hd0 : dm G 7 i) (hd1 : dm G 7 i1)   : XM G yX7_nameLock cX7_nameLock 2 none (RM 0 0) [.ref (ad G 7 i), .ref (ad G 7 i1)] Ω (.inl none) (fX7_nameLock Ω i i1) := by
  refine x_start (lv := [(0, .ref (ad G 7 i)), (1, .ref (ad G 7 i1))]) (own := RX7) hok (by decide +kernel) rfl (Nat.le_of_ble_eq_true rfl) rfl (fun B C => ?_)
  refine x_aload_n (pc2 := 1) C dX7_nameLock_0 0 rfl rfl rfl ?_
  refine x_aload_n (pc2 := 2) C dX7_nameLock_1 1 rfl rfl rfl ?_
  refine x_getI (pc2 := 5) (f := 700) C (by assumption) kf_7_15 dX7_nameLock_2 rfl rfl rfl ?_
  refine x_putI (pc2 := 8) (f := 709) C (by assumption) kf_7_9 dX7_nameLock_5 rfl rfl rfl rfl rfl ?_
  refine x_aload_n (pc2 := 9) C dX7_nameLock_8 0 rfl rfl rfl ?_
  refine x_aload_n (pc2 := 10) C dX7_nameLock_9 1 rfl rfl rfl ?_
  refine x_getI (pc2 := 13) (f := 704) C (by assumption) kf_7_27 dX7_nameLock_10 rfl rfl rfl ?_
  refine x_putI (pc2 := 16) (f := 710) C (by assumption) kf_7_42 dX7_nameLock_13 rfl rfl rfl rfl rfl ?_
  refine x_aload_n (pc2 := 17) C dX7_nameLock_16 0 rfl rfl rfl ?_
  refine x_aload_n (pc2 := 18) C dX7_nameLock_17 1 rfl rfl rfl ?_
  refine x_getI (pc2 := 21) (f := 705) C (by assumption) kf_7_30 dX7_nameLock_18 rfl rfl rfl ?_
  refine x_bipush (pc2 := 23) (v := 6) C dX7_nameLock_21 rfl rfl ?_
  refine x_irem (pc2 := 24) C dX7_nameLock_23 (by decide +kernel) rfl ?_
  refine x_putI (pc2 := 27) (f := 711) C (by assumption) kf_7_45 dX7_nameLock_24 rfl rfl rfl rfl rfl ?_
  exact x_vreturn C dX7_nameLock_27 rfl (Nat.le_of_ble_eq_true rfl) (Nat.le_of_ble_eq_true rfl) rfl (by rw [fX7_nameLock] <;> rfl)
theorem R_fX7_nameLock (Ω : XO) (i : Nat) (i1 : Nat) : xR (fX7_nameLock Ω i i1) = xR Ω := by
  unfold fX7_nameLock
  (repeat' split) <;> first | rfl | (funext a b9; simp only [R_uI, R_uL, R_cI, R_sPut, R_fX0_imitate, R_fX0_enter, R_fX0_addEvent, R_fX3_take, R_fX3_push, R_fX3_reach, R_fX5_append, R_fX6_copyFrom, R_fX6_gain, R_fX6_move, R_fX6_raiseNonce, R_fX7_order, R_fX7_bid])

def fX7_isLock (Ω : XO) (i : Nat) : Int32 := (if (xI Ω 703 i 0) = (15 : Int32) then (if (xI Ω 704 i 0) ≤ 0 then (0 : Int32) else (1 : Int32)) else (0 : Int32))
set_option maxRecDepth 20000 in
theorem tX7_isLock {G : XG} (hok : XK G) {i : Nat} {Ω : XO} (hd0 : dm G 7 i)   : XM G yX7_isLock cX7_isLock 1 ((some FieldType.boolean)) (RM 0 0) [.ref (ad G 7 i)] Ω (.inl (some (.int (fX7_isLock Ω i)))) Ω := by
  refine x_start (lv := [(0, .ref (ad G 7 i))]) (own := RX7) hok (by decide +kernel) rfl (Nat.le_of_ble_eq_true rfl) rfl (fun B C => ?_)
  refine x_aload_n (pc2 := 1) C dX7_isLock_0 0 rfl rfl rfl ?_
  refine x_getI (pc2 := 4) (f := 703) C (by assumption) kf_7_24 dX7_isLock_1 rfl rfl rfl ?_
  refine x_bipush (pc2 := 6) (v := 15) C dX7_isLock_4 rfl rfl ?_
  refine x_icmp_ne (tgt := 20) (pc2 := 9) C dX7_isLock_6 (by decide) rfl (fun qc_1 => ?_) (fun qc_1 => ?_)
  · refine x_iconst (pc2 := 21) (v := 0) C dX7_isLock_20 rfl rfl ?_
    exact x_zreturn C dX7_isLock_21 rfl (by first | exact Or.inl rfl | exact Or.inr rfl) (Nat.le_of_ble_eq_true rfl) (Nat.le_of_ble_eq_true rfl) (by rw [fX7_isLock, if_neg qc_1] <;> rfl) rfl
  · refine x_aload_n (pc2 := 10) C dX7_isLock_9 0 rfl rfl rfl ?_
    refine x_getI (pc2 := 13) (f := 704) C (by assumption) kf_7_27 dX7_isLock_10 rfl rfl rfl ?_
    refine x_if_le (tgt := 20) (pc2 := 16) C dX7_isLock_13 (by decide) rfl (fun qc_2 => ?_) (fun qc_2 => ?_)
    · refine x_iconst (pc2 := 21) (v := 0) C dX7_isLock_20 rfl rfl ?_
      exact x_zreturn C dX7_isLock_21 rfl (by first | exact Or.inl rfl | exact Or.inr rfl) (Nat.le_of_ble_eq_true rfl) (Nat.le_of_ble_eq_true rfl) (by rw [fX7_isLock, if_pos qc_1, if_pos qc_2] <;> rfl) rfl
    · refine x_iconst (pc2 := 17) (v := 1) C dX7_isLock_16 rfl rfl ?_
      refine x_goto (tgt := 21) C dX7_isLock_17 (by decide) ?_
      exact x_zreturn C dX7_isLock_21 rfl (by first | exact Or.inl rfl | exact Or.inr rfl) (Nat.le_of_ble_eq_true rfl) (Nat.le_of_ble_eq_true rfl) (by rw [fX7_isLock, if_pos qc_1, if_neg qc_2] <;> rfl) rfl

def fX7_rivals (Ω : XO) (i : Nat) (i1 : Nat) : Int32 := (if (xI Ω 701 i 0) = (xI Ω 701 i1 0) then (if (xI Ω 702 i 0) = (xI Ω 702 i1 0) then (1 : Int32) else (0 : Int32)) else (0 : Int32))
set_option maxRecDepth 20000 in
theorem tX7_rivals {G : XG} (hok : XK G) {i : Nat} {i1 : Nat} {Ω : XO} (hd0 : dm G 7 i) (hd1 : dm G 7 i1)   : XM G yX7_rivals cX7_rivals 2 ((some FieldType.boolean)) (RM 0 0) [.ref (ad G 7 i), .ref (ad G 7 i1)] Ω (.inl (some (.int (fX7_rivals Ω i i1)))) Ω := by
  refine x_start (lv := [(0, .ref (ad G 7 i)), (1, .ref (ad G 7 i1))]) (own := RX7) hok (by decide +kernel) rfl (Nat.le_of_ble_eq_true rfl) rfl (fun B C => ?_)
  refine x_aload_n (pc2 := 1) C dX7_rivals_0 0 rfl rfl rfl ?_
  refine x_getI (pc2 := 4) (f := 701) C (by assumption) kf_7_18 dX7_rivals_1 rfl rfl rfl ?_
  refine x_aload_n (pc2 := 5) C dX7_rivals_4 1 rfl rfl rfl ?_
  refine x_getI (pc2 := 8) (f := 701) C (by assumption) kf_7_18 dX7_rivals_5 rfl rfl rfl ?_
  refine x_icmp_ne (tgt := 26) (pc2 := 11) C dX7_rivals_8 (by decide) rfl (fun qc_1 => ?_) (fun qc_1 => ?_)
  · refine x_iconst (pc2 := 27) (v := 0) C dX7_rivals_26 rfl rfl ?_
    exact x_zreturn C dX7_rivals_27 rfl (by first | exact Or.inl rfl | exact Or.inr rfl) (Nat.le_of_ble_eq_true rfl) (Nat.le_of_ble_eq_true rfl) (by rw [fX7_rivals, if_neg qc_1] <;> rfl) rfl
  · refine x_aload_n (pc2 := 12) C dX7_rivals_11 0 rfl rfl rfl ?_
    refine x_getI (pc2 := 15) (f := 702) C (by assumption) kf_7_21 dX7_rivals_12 rfl rfl rfl ?_
    refine x_aload_n (pc2 := 16) C dX7_rivals_15 1 rfl rfl rfl ?_
    refine x_getI (pc2 := 19) (f := 702) C (by assumption) kf_7_21 dX7_rivals_16 rfl rfl rfl ?_
    refine x_icmp_ne (tgt := 26) (pc2 := 22) C dX7_rivals_19 (by decide) rfl (fun qc_2 => ?_) (fun qc_2 => ?_)
    · refine x_iconst (pc2 := 27) (v := 0) C dX7_rivals_26 rfl rfl ?_
      exact x_zreturn C dX7_rivals_27 rfl (by first | exact Or.inl rfl | exact Or.inr rfl) (Nat.le_of_ble_eq_true rfl) (Nat.le_of_ble_eq_true rfl) (by rw [fX7_rivals, if_pos qc_1, if_neg qc_2] <;> rfl) rfl
    · refine x_iconst (pc2 := 23) (v := 1) C dX7_rivals_22 rfl rfl ?_
      refine x_goto (tgt := 27) C dX7_rivals_23 (by decide) ?_
      exact x_zreturn C dX7_rivals_27 rfl (by first | exact Or.inl rfl | exact Or.inr rfl) (Nat.le_of_ble_eq_true rfl) (Nat.le_of_ble_eq_true rfl) (by rw [fX7_rivals, if_pos qc_1, if_pos qc_2] <;> rfl) rfl

def fX7_outbids (Ω : XO) (i : Nat) (i1 : Nat) : Int32 := (if ((10 : Int32) * (xI Ω 707 i 0)) < ((11 : Int32) * (xI Ω 707 i1 0)) then (0 : Int32) else (if ((10 : Int32) * (xI Ω 708 i 0)) < ((11 : Int32) * (xI Ω 708 i1 0)) then (0 : Int32) else (1 : Int32)))
set_option maxRecDepth 20000 in
theorem tX7_outbids {G : XG} (hok : XK G) {i : Nat} {i1 : Nat} {Ω : XO} (hd0 : dm G 7 i) (hd1 : dm G 7 i1)   : XM G yX7_outbids cX7_outbids 2 ((some FieldType.boolean)) (RM 0 0) [.ref (ad G 7 i), .ref (ad G 7 i1)] Ω (.inl (some (.int (fX7_outbids Ω i i1)))) Ω := by
  refine x_start (lv := [(0, .ref (ad G 7 i)), (1, .ref (ad G 7 i1))]) (own := RX7) hok (by decide +kernel) rfl (Nat.le_of_ble_eq_true rfl) rfl (fun B C => ?_)
  refine x_bipush (pc2 := 2) (v := 10) C dX7_outbids_0 rfl rfl ?_
  refine x_aload_n (pc2 := 3) C dX7_outbids_2 0 rfl rfl rfl ?_
  refine x_getI (pc2 := 6) (f := 707) C (by assumption) kf_7_36 dX7_outbids_3 rfl rfl rfl ?_
  refine x_imul (pc2 := 7) C dX7_outbids_6 rfl ?_
  refine x_bipush (pc2 := 9) (v := 11) C dX7_outbids_7 rfl rfl ?_
  refine x_aload_n (pc2 := 10) C dX7_outbids_9 1 rfl rfl rfl ?_
  refine x_getI (pc2 := 13) (f := 707) C (by assumption) kf_7_36 dX7_outbids_10 rfl rfl rfl ?_
  refine x_imul (pc2 := 14) C dX7_outbids_13 rfl ?_
  refine x_icmp_lt (tgt := 38) (pc2 := 17) C dX7_outbids_14 (by decide) rfl (fun qc_1 => ?_) (fun qc_1 => ?_)
  · refine x_iconst (pc2 := 39) (v := 0) C dX7_outbids_38 rfl rfl ?_
    exact x_zreturn C dX7_outbids_39 rfl (by first | exact Or.inl rfl | exact Or.inr rfl) (Nat.le_of_ble_eq_true rfl) (Nat.le_of_ble_eq_true rfl) (by rw [fX7_outbids, if_pos qc_1] <;> rfl) rfl
  · refine x_bipush (pc2 := 19) (v := 10) C dX7_outbids_17 rfl rfl ?_
    refine x_aload_n (pc2 := 20) C dX7_outbids_19 0 rfl rfl rfl ?_
    refine x_getI (pc2 := 23) (f := 708) C (by assumption) kf_7_39 dX7_outbids_20 rfl rfl rfl ?_
    refine x_imul (pc2 := 24) C dX7_outbids_23 rfl ?_
    refine x_bipush (pc2 := 26) (v := 11) C dX7_outbids_24 rfl rfl ?_
    refine x_aload_n (pc2 := 27) C dX7_outbids_26 1 rfl rfl rfl ?_
    refine x_getI (pc2 := 30) (f := 708) C (by assumption) kf_7_39 dX7_outbids_27 rfl rfl rfl ?_
    refine x_imul (pc2 := 31) C dX7_outbids_30 rfl ?_
    refine x_icmp_lt (tgt := 38) (pc2 := 34) C dX7_outbids_31 (by decide) rfl (fun qc_2 => ?_) (fun qc_2 => ?_)
    · refine x_iconst (pc2 := 39) (v := 0) C dX7_outbids_38 rfl rfl ?_
      exact x_zreturn C dX7_outbids_39 rfl (by first | exact Or.inl rfl | exact Or.inr rfl) (Nat.le_of_ble_eq_true rfl) (Nat.le_of_ble_eq_true rfl) (by rw [fX7_outbids, if_neg qc_1, if_pos qc_2] <;> rfl) rfl
    · refine x_iconst (pc2 := 35) (v := 1) C dX7_outbids_34 rfl rfl ?_
      refine x_goto (tgt := 39) C dX7_outbids_35 (by decide) ?_
      exact x_zreturn C dX7_outbids_39 rfl (by first | exact Or.inl rfl | exact Or.inr rfl) (Nat.le_of_ble_eq_true rfl) (Nat.le_of_ble_eq_true rfl) (by rw [fX7_outbids, if_neg qc_1, if_neg qc_2] <;> rfl) rfl

def fX7_waitsBehind (Ω : XO) (i : Nat) (i1 : Nat) : Int32 := (if (xI Ω 712 i 0) = 0 then (0 : Int32) else (if (fX0_holds Ω i1 (xI Ω 700 i 0)) = 0 then (1 : Int32) else (0 : Int32)))
set_option maxRecDepth 20000 in
theorem tX7_waitsBehind {G : XG} (hok : XK G) {i : Nat} {i1 : Nat} {Ω : XO} (hd0 : dm G 7 i) (hd1 : dm G 0 i1)   : XM G yX7_waitsBehind cX7_waitsBehind 2 ((some FieldType.boolean)) (RM 1 0) [.ref (ad G 7 i), .ref (ad G 0 i1)] Ω (.inl (some (.int (fX7_waitsBehind Ω i i1)))) Ω := by
  refine x_start (lv := [(0, .ref (ad G 7 i)), (1, .ref (ad G 0 i1))]) (own := RX7) hok (by decide +kernel) rfl (Nat.le_of_ble_eq_true rfl) rfl (fun B C => ?_)
  refine x_aload_n (pc2 := 1) C dX7_waitsBehind_0 0 rfl rfl rfl ?_
  refine x_getI (pc2 := 4) (f := 712) C (by assumption) kf_7_48 dX7_waitsBehind_1 rfl rfl rfl ?_
  refine x_if_eq (tgt := 22) (pc2 := 7) C dX7_waitsBehind_4 (by decide) rfl (fun qc_1 => ?_) (fun qc_1 => ?_)
  · refine x_iconst (pc2 := 23) (v := 0) C dX7_waitsBehind_22 rfl rfl ?_
    exact x_zreturn C dX7_waitsBehind_23 rfl (by first | exact Or.inl rfl | exact Or.inr rfl) (Nat.le_of_ble_eq_true rfl) (Nat.le_of_ble_eq_true rfl) (by rw [fX7_waitsBehind, if_pos qc_1] <;> rfl) rfl
  · refine x_aload_n (pc2 := 8) C dX7_waitsBehind_7 1 rfl rfl rfl ?_
    refine x_aload_n (pc2 := 9) C dX7_waitsBehind_8 0 rfl rfl rfl ?_
    refine x_getI (pc2 := 12) (f := 700) C (by assumption) kf_7_15 dX7_waitsBehind_9 rfl rfl rfl ?_
    refine x_ret (rest := []) (st2 := [_]) (pc2 := 15) (cu2 := 0) (su2 := 0) (x_cV C (by assumption) (Nat.le_of_ble_eq_true rfl) kmX0_holds rfl kk_7_52 (tX0_holds hok (by assumption)) rfl rfl (Nat.le_of_ble_eq_true rfl) ⟨Nat.le_of_ble_eq_true rfl, Nat.le_of_ble_eq_true rfl⟩ ⟨Nat.le_of_ble_eq_true rfl, Nat.le_of_ble_eq_true rfl⟩ dX7_waitsBehind_12) rfl rfl rfl rfl ?_
    refine x_if_ne (tgt := 22) (pc2 := 18) C dX7_waitsBehind_15 (by decide) rfl (fun qc_2 => ?_) (fun qc_2 => ?_)
    · refine x_iconst (pc2 := 23) (v := 0) C dX7_waitsBehind_22 rfl rfl ?_
      exact x_zreturn C dX7_waitsBehind_23 rfl (by first | exact Or.inl rfl | exact Or.inr rfl) (Nat.le_of_ble_eq_true rfl) (Nat.le_of_ble_eq_true rfl) (by rw [fX7_waitsBehind, if_neg qc_1, if_neg qc_2] <;> rfl) rfl
    · refine x_iconst (pc2 := 19) (v := 1) C dX7_waitsBehind_18 rfl rfl ?_
      refine x_goto (tgt := 23) C dX7_waitsBehind_19 (by decide) ?_
      exact x_zreturn C dX7_waitsBehind_23 rfl (by first | exact Or.inl rfl | exact Or.inr rfl) (Nat.le_of_ble_eq_true rfl) (Nat.le_of_ble_eq_true rfl) (by rw [fX7_waitsBehind, if_neg qc_1, if_pos qc_2] <;> rfl) rfl

def fX7_priceAt (Ω : XO) (i : Nat) (x1 : Int32) : Int32 := if (x1 + (xI Ω 708 i 0)) < (xI Ω 707 i 0) then (x1 + (xI Ω 708 i 0)) else (xI Ω 707 i 0)
set_option maxRecDepth 20000 in
theorem tX7_priceAt {G : XG} (hok : XK G) {i : Nat} {x1 : Int32} {Ω : XO} (hd0 : dm G 7 i)   : XM G yX7_priceAt cX7_priceAt 2 ((some FieldType.int)) (RM 1 0) [.ref (ad G 7 i), .int x1] Ω (.inl (some (.int (fX7_priceAt Ω i x1)))) Ω := by
  refine x_start (lv := [(0, .ref (ad G 7 i)), (1, .int x1)]) (own := RX7) hok (by decide +kernel) rfl (Nat.le_of_ble_eq_true rfl) rfl (fun B C => ?_)
  refine x_aload_n (pc2 := 1) C dX7_priceAt_0 0 rfl rfl rfl ?_
  refine x_getI (pc2 := 4) (f := 707) C (by assumption) kf_7_36 dX7_priceAt_1 rfl rfl rfl ?_
  refine x_iload_n (pc2 := 5) C dX7_priceAt_4 1 rfl rfl rfl ?_
  refine x_aload_n (pc2 := 6) C dX7_priceAt_5 0 rfl rfl rfl ?_
  refine x_getI (pc2 := 9) (f := 708) C (by assumption) kf_7_39 dX7_priceAt_6 rfl rfl rfl ?_
  refine x_iadd (pc2 := 10) C dX7_priceAt_9 rfl ?_
  refine x_mmin (pc2 := 13) C kmath_7_58 kms_min kmi kmc_min ⟨Nat.le_of_ble_eq_true rfl, Nat.le_of_ble_eq_true rfl⟩ (Nat.le_of_ble_eq_true rfl) (Nat.le_of_ble_eq_true rfl) dX7_priceAt_10 rfl ?_
  exact x_ireturn C dX7_priceAt_13 rfl (Nat.le_of_ble_eq_true rfl) (Nat.le_of_ble_eq_true rfl) (by rw [fX7_priceAt] <;> rfl) rfl

def fX7_fits (Ω : XO) (i : Nat) (i1 : Nat) : Int32 := (if (xI Ω 707 i 0) < (xI Ω 5 i1 0) then (0 : Int32) else (if ((600 : Int32) - (xI Ω 6 i1 0)) < (xI Ω 706 i 0) then (0 : Int32) else (if (sAt Ω 2012 i1 (xI Ω 701 i 0)) = (xI Ω 702 i 0) then (if (sAt Ω 2011 i1 (xI Ω 701 i 0)) < ((xI Ω 704 i 0) + ((xI Ω 706 i 0) * (xI Ω 707 i 0))) then (0 : Int32) else (1 : Int32)) else (0 : Int32))))
set_option maxRecDepth 20000 in
theorem tX7_fits {G : XG} (hok : XK G) {i : Nat} {i1 : Nat} {Ω : XO} (hd0 : dm G 7 i) (hd1 : dm G 0 i1)   : XM G yX7_fits cX7_fits 2 ((some FieldType.boolean)) (RM 1 0) [.ref (ad G 7 i), .ref (ad G 0 i1)] Ω (.inl (some (.int (fX7_fits Ω i i1)))) Ω := by
  refine x_start (lv := [(0, .ref (ad G 7 i)), (1, .ref (ad G 0 i1))]) (own := RX7) hok (by decide +kernel) rfl (Nat.le_of_ble_eq_true rfl) rfl (fun B C => ?_)
  refine x_aload_n (pc2 := 1) C dX7_fits_0 0 rfl rfl rfl ?_
  refine x_getI (pc2 := 4) (f := 707) C (by assumption) kf_7_36 dX7_fits_1 rfl rfl rfl ?_
  refine x_aload_n (pc2 := 5) C dX7_fits_4 1 rfl rfl rfl ?_
  refine x_getI (pc2 := 8) (f := 5) C (by assumption) kf_7_64 dX7_fits_5 rfl rfl rfl ?_
  refine x_icmp_lt (tgt := 82) (pc2 := 11) C dX7_fits_8 (by decide) rfl (fun qc_1 => ?_) (fun qc_1 => ?_)
  · refine x_iconst (pc2 := 83) (v := 0) C dX7_fits_82 rfl rfl ?_
    exact x_zreturn C dX7_fits_83 rfl (by first | exact Or.inl rfl | exact Or.inr rfl) (Nat.le_of_ble_eq_true rfl) (Nat.le_of_ble_eq_true rfl) (by rw [fX7_fits, if_pos qc_1] <;> rfl) rfl
  · refine x_aload_n (pc2 := 12) C dX7_fits_11 0 rfl rfl rfl ?_
    refine x_getI (pc2 := 15) (f := 706) C (by assumption) kf_7_33 dX7_fits_12 rfl rfl rfl ?_
    refine x_sipush (pc2 := 18) (v := 600) C dX7_fits_15 rfl rfl ?_
    refine x_aload_n (pc2 := 19) C dX7_fits_18 1 rfl rfl rfl ?_
    refine x_getI (pc2 := 22) (f := 6) C (by assumption) kf_7_67 dX7_fits_19 rfl rfl rfl ?_
    refine x_isub (pc2 := 23) C dX7_fits_22 rfl ?_
    refine x_icmp_gt (tgt := 82) (pc2 := 26) C dX7_fits_23 (by decide) rfl (fun qc_2 => ?_) (fun qc_2 => ?_)
    · refine x_iconst (pc2 := 83) (v := 0) C dX7_fits_82 rfl rfl ?_
      exact x_zreturn C dX7_fits_83 rfl (by first | exact Or.inl rfl | exact Or.inr rfl) (Nat.le_of_ble_eq_true rfl) (Nat.le_of_ble_eq_true rfl) (by rw [fX7_fits, if_neg qc_1, if_pos qc_2] <;> rfl) rfl
    · refine x_aload_n (pc2 := 27) C dX7_fits_26 1 rfl rfl rfl ?_
      refine x_getR (f := 1) (k2 := 6) (pc2 := 30) C (by assumption) kf_7_70 dX7_fits_27 rfl rfl rfl (rti_i rfl) rfl (fun qd_3 => ?_)
      refine x_getR (f := 601) (k2 := 2012) (pc2 := 33) C (by assumption) kf_7_74 dX7_fits_30 rfl rfl rfl (rti_i rfl) rfl (fun qd_4 => ?_)
      refine x_aload_n (pc2 := 34) C dX7_fits_33 0 rfl rfl rfl ?_
      refine x_getI (pc2 := 37) (f := 701) C (by assumption) kf_7_18 dX7_fits_34 rfl rfl rfl ?_
      refine x_ret (rest := []) (st2 := [_]) (pc2 := 40) (cu2 := 0) (su2 := 0) (x_cSN C kmX10_at ke_7_80 (tX10_at hok (by assumption) rfl (by decide)) rfl rfl (Nat.le_of_ble_eq_true rfl) ⟨Nat.le_of_ble_eq_true rfl, Nat.le_of_ble_eq_true rfl⟩ ⟨Nat.le_of_ble_eq_true rfl, Nat.le_of_ble_eq_true rfl⟩ dX7_fits_37) rfl rfl rfl rfl ?_
      refine x_aload_n (pc2 := 41) C dX7_fits_40 0 rfl rfl rfl ?_
      refine x_getI (pc2 := 44) (f := 702) C (by assumption) kf_7_21 dX7_fits_41 rfl rfl rfl ?_
      refine x_icmp_ne (tgt := 82) (pc2 := 47) C dX7_fits_44 (by decide) rfl (fun qc_5 => ?_) (fun qc_5 => ?_)
      · refine x_iconst (pc2 := 83) (v := 0) C dX7_fits_82 rfl rfl ?_
        exact x_zreturn C dX7_fits_83 rfl (by first | exact Or.inl rfl | exact Or.inr rfl) (Nat.le_of_ble_eq_true rfl) (Nat.le_of_ble_eq_true rfl) (by rw [fX7_fits, if_neg qc_1, if_neg qc_2, if_neg qc_5] <;> rfl) rfl
      · refine x_aload_n (pc2 := 48) C dX7_fits_47 1 rfl rfl rfl ?_
        refine x_getR (f := 1) (k2 := 6) (pc2 := 51) C (by assumption) kf_7_70 dX7_fits_48 rfl rfl rfl (rti_i rfl) rfl (fun qd_6 => ?_)
        refine x_getR (f := 600) (k2 := 2011) (pc2 := 54) C (by assumption) kf_7_84 dX7_fits_51 rfl rfl rfl (rti_i rfl) rfl (fun qd_7 => ?_)
        refine x_aload_n (pc2 := 55) C dX7_fits_54 0 rfl rfl rfl ?_
        refine x_getI (pc2 := 58) (f := 701) C (by assumption) kf_7_18 dX7_fits_55 rfl rfl rfl ?_
        refine x_ret (rest := []) (st2 := [_]) (pc2 := 61) (cu2 := 0) (su2 := 0) (x_cSN C kmX10_at ke_7_80 (tX10_at hok (by assumption) rfl (by decide)) rfl rfl (Nat.le_of_ble_eq_true rfl) ⟨Nat.le_of_ble_eq_true rfl, Nat.le_of_ble_eq_true rfl⟩ ⟨Nat.le_of_ble_eq_true rfl, Nat.le_of_ble_eq_true rfl⟩ dX7_fits_58) rfl rfl rfl rfl ?_
        refine x_aload_n (pc2 := 62) C dX7_fits_61 0 rfl rfl rfl ?_
        refine x_getI (pc2 := 65) (f := 704) C (by assumption) kf_7_27 dX7_fits_62 rfl rfl rfl ?_
        refine x_aload_n (pc2 := 66) C dX7_fits_65 0 rfl rfl rfl ?_
        refine x_getI (pc2 := 69) (f := 706) C (by assumption) kf_7_33 dX7_fits_66 rfl rfl rfl ?_
        refine x_aload_n (pc2 := 70) C dX7_fits_69 0 rfl rfl rfl ?_
        refine x_getI (pc2 := 73) (f := 707) C (by assumption) kf_7_36 dX7_fits_70 rfl rfl rfl ?_
        refine x_imul (pc2 := 74) C dX7_fits_73 rfl ?_
        refine x_iadd (pc2 := 75) C dX7_fits_74 rfl ?_
        refine x_icmp_lt (tgt := 82) (pc2 := 78) C dX7_fits_75 (by decide) rfl (fun qc_8 => ?_) (fun qc_8 => ?_)
        · refine x_iconst (pc2 := 83) (v := 0) C dX7_fits_82 rfl rfl ?_
          exact x_zreturn C dX7_fits_83 rfl (by first | exact Or.inl rfl | exact Or.inr rfl) (Nat.le_of_ble_eq_true rfl) (Nat.le_of_ble_eq_true rfl) (by rw [fX7_fits, if_neg qc_1, if_neg qc_2, if_pos qc_5, if_pos qc_8] <;> rfl) rfl
        · refine x_iconst (pc2 := 79) (v := 1) C dX7_fits_78 rfl rfl ?_
          refine x_goto (tgt := 83) C dX7_fits_79 (by decide) ?_
          exact x_zreturn C dX7_fits_83 rfl (by first | exact Or.inl rfl | exact Or.inr rfl) (Nat.le_of_ble_eq_true rfl) (Nat.le_of_ble_eq_true rfl) (by rw [fX7_fits, if_neg qc_1, if_neg qc_2, if_pos qc_5, if_neg qc_8] <;> rfl) rfl

def fX8_stakeNow (Ω : XO) (i : Nat) : Int32 := (if (xI Ω 802 i 0) = 0 then (100 : Int32) else (0 : Int32))
set_option maxRecDepth 20000 in
theorem tX8_stakeNow {G : XG} (hok : XK G) {i : Nat} {Ω : XO} (hd0 : dm G 8 i)   : XM G yX8_stakeNow cX8_stakeNow 1 ((some FieldType.int)) (RM 0 0) [.ref (ad G 8 i)] Ω (.inl (some (.int (fX8_stakeNow Ω i)))) Ω := by
  refine x_start (lv := [(0, .ref (ad G 8 i))]) (own := RX8) hok (by decide +kernel) rfl (Nat.le_of_ble_eq_true rfl) rfl (fun B C => ?_)
  refine x_aload_n (pc2 := 1) C dX8_stakeNow_0 0 rfl rfl rfl ?_
  refine x_getI (pc2 := 4) (f := 802) C (by assumption) kf_8_18 dX8_stakeNow_1 rfl rfl rfl ?_
  refine x_if_eq (tgt := 11) (pc2 := 7) C dX8_stakeNow_4 (by decide) rfl (fun qc_1 => ?_) (fun qc_1 => ?_)
  · refine x_bipush (pc2 := 13) (v := 100) C dX8_stakeNow_11 rfl rfl ?_
    exact x_ireturn C dX8_stakeNow_13 rfl (Nat.le_of_ble_eq_true rfl) (Nat.le_of_ble_eq_true rfl) (by rw [fX8_stakeNow, if_pos qc_1] <;> rfl) rfl
  · refine x_iconst (pc2 := 8) (v := 0) C dX8_stakeNow_7 rfl rfl ?_
    refine x_goto (tgt := 13) C dX8_stakeNow_8 (by decide) ?_
    exact x_ireturn C dX8_stakeNow_13 rfl (Nat.le_of_ble_eq_true rfl) (Nat.le_of_ble_eq_true rfl) (by rw [fX8_stakeNow, if_neg qc_1] <;> rfl) rfl

def fX8_countingVotes (Ω : XO) (i : Nat) : Int32 := (if (xI Ω 802 i 0) = 0 then if (20 : Int32) < (xI Ω 801 i 0) then (20 : Int32) else (xI Ω 801 i 0) else (0 : Int32))
set_option maxRecDepth 20000 in
theorem tX8_countingVotes {G : XG} (hok : XK G) {i : Nat} {Ω : XO} (hd0 : dm G 8 i)   : XM G yX8_countingVotes cX8_countingVotes 1 ((some FieldType.int)) (RM 1 0) [.ref (ad G 8 i)] Ω (.inl (some (.int (fX8_countingVotes Ω i)))) Ω := by
  refine x_start (lv := [(0, .ref (ad G 8 i))]) (own := RX8) hok (by decide +kernel) rfl (Nat.le_of_ble_eq_true rfl) rfl (fun B C => ?_)
  refine x_aload_n (pc2 := 1) C dX8_countingVotes_0 0 rfl rfl rfl ?_
  refine x_getI (pc2 := 4) (f := 802) C (by assumption) kf_8_18 dX8_countingVotes_1 rfl rfl rfl ?_
  refine x_if_eq (tgt := 11) (pc2 := 7) C dX8_countingVotes_4 (by decide) rfl (fun qc_1 => ?_) (fun qc_1 => ?_)
  · refine x_aload_n (pc2 := 12) C dX8_countingVotes_11 0 rfl rfl rfl ?_
    refine x_getI (pc2 := 15) (f := 801) C (by assumption) kf_8_22 dX8_countingVotes_12 rfl rfl rfl ?_
    refine x_bipush (pc2 := 17) (v := 20) C dX8_countingVotes_15 rfl rfl ?_
    refine x_mmin (pc2 := 20) C kmath_8_26 kms_min kmi kmc_min ⟨Nat.le_of_ble_eq_true rfl, Nat.le_of_ble_eq_true rfl⟩ (Nat.le_of_ble_eq_true rfl) (Nat.le_of_ble_eq_true rfl) dX8_countingVotes_17 rfl ?_
    exact x_ireturn C dX8_countingVotes_20 rfl (Nat.le_of_ble_eq_true rfl) (Nat.le_of_ble_eq_true rfl) (by rw [fX8_countingVotes, if_pos qc_1] <;> rfl) rfl
  · refine x_iconst (pc2 := 8) (v := 0) C dX8_countingVotes_7 rfl rfl ?_
    refine x_goto (tgt := 20) C dX8_countingVotes_8 (by decide) ?_
    exact x_ireturn C dX8_countingVotes_20 rfl (Nat.le_of_ble_eq_true rfl) (Nat.le_of_ble_eq_true rfl) (by rw [fX8_countingVotes, if_neg qc_1] <;> rfl) rfl

def fX8_voteAt (Ω : XO) (i : Nat) (x1 : Int32) : Nat := (if x1 < 0 then 20 * i + (0 : Int32).toNatClampNeg else (if (20 : Int32) ≤ x1 then 20 * i + (0 : Int32).toNatClampNeg else 20 * i + x1.toNatClampNeg))
set_option maxRecDepth 20000 in
theorem tX8_voteAt {G : XG} (hok : XK G) {i : Nat} {x1 : Int32} {Ω : XO} (hd0 : dm G 8 i)   : XM G yX8_voteAt cX8_voteAt 2 ((some (FieldType.object "ForkBridge$Vote"))) (RM 0 0) [.ref (ad G 8 i), .int x1] Ω (.inl (some (.ref (ad G 9 (fX8_voteAt Ω i x1))))) Ω := by
  refine x_start (lv := [(0, .ref (ad G 8 i)), (1, .int x1)]) (own := RX8) hok (by decide +kernel) rfl (Nat.le_of_ble_eq_true rfl) rfl (fun B C => ?_)
  refine x_aload_n (pc2 := 1) C dX8_voteAt_0 0 rfl rfl rfl ?_
  refine x_getR (f := 800) (k2 := 2015) (pc2 := 4) C (by assumption) kf_8_11 dX8_voteAt_1 rfl rfl rfl (rti_i rfl) rfl (fun qd_1 => ?_)
  refine x_iload_n (pc2 := 5) C dX8_voteAt_4 1 rfl rfl rfl ?_
  refine x_if_lt (tgt := 18) (pc2 := 8) C dX8_voteAt_5 (by decide) rfl (fun qc_2 => ?_) (fun qc_2 => ?_)
  · refine x_iconst (pc2 := 19) (v := 0) C dX8_voteAt_18 rfl rfl ?_
    refine x_aald (k2 := 9) (pc2 := 20) C (by assumption) dX8_voteAt_19 rfl rfl (vp_in_iff.mpr (by decide)) rfl (eli_2015 _ _) rfl (fun qd_3 => ?_)
    exact x_areturn C dX8_voteAt_20 rfl (Or.inr ⟨_, rfl⟩) (Nat.le_of_ble_eq_true rfl) (Nat.le_of_ble_eq_true rfl) (by rw [fX8_voteAt, if_pos qc_2] <;> rfl) rfl
  · refine x_iload_n (pc2 := 9) C dX8_voteAt_8 1 rfl rfl rfl ?_
    refine x_bipush (pc2 := 11) (v := 20) C dX8_voteAt_9 rfl rfl ?_
    refine x_icmp_ge (tgt := 18) (pc2 := 14) C dX8_voteAt_11 (by decide) rfl (fun qc_4 => ?_) (fun qc_4 => ?_)
    · refine x_iconst (pc2 := 19) (v := 0) C dX8_voteAt_18 rfl rfl ?_
      refine x_aald (k2 := 9) (pc2 := 20) C (by assumption) dX8_voteAt_19 rfl rfl (vp_in_iff.mpr (by decide)) rfl (eli_2015 _ _) rfl (fun qd_5 => ?_)
      exact x_areturn C dX8_voteAt_20 rfl (Or.inr ⟨_, rfl⟩) (Nat.le_of_ble_eq_true rfl) (Nat.le_of_ble_eq_true rfl) (by rw [fX8_voteAt, if_neg qc_2, if_pos qc_4] <;> rfl) rfl
    · refine x_iload_n (pc2 := 15) C dX8_voteAt_14 1 rfl rfl rfl ?_
      refine x_goto (tgt := 19) C dX8_voteAt_15 (by decide) ?_
      refine x_aald (k2 := 9) (pc2 := 20) C (by assumption) dX8_voteAt_19 rfl rfl (by first | exact x_in (by assumption) (by assumption) (by decide) | exact x_in3 (by assumption) (by assumption) (by decide) | exact x_in2 (by assumption) (by assumption) (by decide)) rfl (eli_2015 _ _) rfl (fun qd_6 => ?_)
      exact x_areturn C dX8_voteAt_20 rfl (Or.inr ⟨_, rfl⟩) (Nat.le_of_ble_eq_true rfl) (Nat.le_of_ble_eq_true rfl) (by rw [fX8_voteAt, if_neg qc_2, if_neg qc_4] <;> rfl) rfl
theorem D_voteAt {G : XG} (hok : XK G) {Ω : XO} {i : Nat} (h : dm G 8 i) {x1 : Int32} : dm G 9 (fX8_voteAt Ω i x1) := by
  have h1 := dm_f hok 0 h rfl rfl (rti_i rfl)
  unfold fX8_voteAt
  split
  · exact dm_a hok 0 h1 rfl (by decide) rfl rfl
  · split
    · exact dm_a hok 0 h1 rfl (by decide) rfl rfl
    · exact dm_a hok x1.toNatClampNeg h1 rfl (cl_lt (v := 20) (by assumption) (by assumption) rfl) rfl rfl
def fX9_become (Ω : XO) (i : Nat) (i1 : Nat) (i2 : Nat) : XO := uI (uI (uI (uI Ω 900 i 0 (xI Ω 0 i1 0)) 901 i 0 (xI (uI Ω 900 i 0 (xI Ω 0 i1 0)) 0 i2 0)) 902 i 0 (xI (uI (uI Ω 900 i 0 (xI Ω 0 i1 0)) 901 i 0 (xI (uI Ω 900 i 0 (xI Ω 0 i1 0)) 0 i2 0)) 2 i1 0)) 903 i 0 (xI (uI (uI (uI Ω 900 i 0 (xI Ω 0 i1 0)) 901 i 0 (xI (uI Ω 900 i 0 (xI Ω 0 i1 0)) 0 i2 0)) 902 i 0 (xI (uI (uI Ω 900 i 0 (xI Ω 0 i1 0)) 901 i 0 (xI (uI Ω 900 i 0 (xI Ω 0 i1 0)) 0 i2 0)) 2 i1 0)) 2 i2 0)
set_option maxRecDepth 20000 in
theorem tX9_become {G : XG} (hok : XK G) {i : Nat} {i1 : Nat} {i2 : Nat} {Ω : XO} (hd0 : dm G 9 i) (hd1 : dm G 0 i1) (hd2 : dm G 0 i2)   : XM G yX9_become cX9_become 3 none (RM 0 0) [.ref (ad G 9 i), .ref (ad G 0 i1), .ref (ad G 0 i2)] Ω (.inl none) (fX9_become Ω i i1 i2) := by
  refine x_start (lv := [(0, .ref (ad G 9 i)), (1, .ref (ad G 0 i1)), (2, .ref (ad G 0 i2))]) (own := RX9) hok (by decide +kernel) rfl (Nat.le_of_ble_eq_true rfl) rfl (fun B C => ?_)
  refine x_aload_n (pc2 := 1) C dX9_become_0 0 rfl rfl rfl ?_
  refine x_aload_n (pc2 := 2) C dX9_become_1 1 rfl rfl rfl ?_
  refine x_getI (pc2 := 5) (f := 0) C (by assumption) kf_9_7 dX9_become_2 rfl rfl rfl ?_
  refine x_putI (pc2 := 8) (f := 900) C (by assumption) kf_9_13 dX9_become_5 rfl rfl rfl rfl rfl ?_
  refine x_aload_n (pc2 := 9) C dX9_become_8 0 rfl rfl rfl ?_
  refine x_aload_n (pc2 := 10) C dX9_become_9 2 rfl rfl rfl ?_
  refine x_getI (pc2 := 13) (f := 0) C (by assumption) kf_9_7 dX9_become_10 rfl rfl rfl ?_
  refine x_putI (pc2 := 16) (f := 901) C (by assumption) kf_9_18 dX9_become_13 rfl rfl rfl rfl rfl ?_
  refine x_aload_n (pc2 := 17) C dX9_become_16 0 rfl rfl rfl ?_
  refine x_aload_n (pc2 := 18) C dX9_become_17 1 rfl rfl rfl ?_
  refine x_getI (pc2 := 21) (f := 2) C (by assumption) kf_9_21 dX9_become_18 rfl rfl rfl ?_
  refine x_putI (pc2 := 24) (f := 902) C (by assumption) kf_9_24 dX9_become_21 rfl rfl rfl rfl rfl ?_
  refine x_aload_n (pc2 := 25) C dX9_become_24 0 rfl rfl rfl ?_
  refine x_aload_n (pc2 := 26) C dX9_become_25 2 rfl rfl rfl ?_
  refine x_getI (pc2 := 29) (f := 2) C (by assumption) kf_9_21 dX9_become_26 rfl rfl rfl ?_
  refine x_putI (pc2 := 32) (f := 903) C (by assumption) kf_9_27 dX9_become_29 rfl rfl rfl rfl rfl ?_
  exact x_vreturn C dX9_become_32 rfl (Nat.le_of_ble_eq_true rfl) (Nat.le_of_ble_eq_true rfl) rfl (by rw [fX9_become] <;> rfl)
theorem R_fX9_become (Ω : XO) (i : Nat) (i1 : Nat) (i2 : Nat) : xR (fX9_become Ω i i1 i2) = xR Ω := by
  unfold fX9_become
  (repeat' split) <;> first | rfl | (funext a b9; simp only [R_uI, R_uL, R_cI, R_sPut, R_fX0_imitate, R_fX0_enter, R_fX0_addEvent, R_fX3_take, R_fX3_push, R_fX3_reach, R_fX5_append, R_fX6_copyFrom, R_fX6_gain, R_fX6_move, R_fX6_raiseNonce, R_fX7_order, R_fX7_bid, R_fX7_nameLock])

def fX9_surrounds (Ω : XO) (i : Nat) (i1 : Nat) : Int32 := (if (xI Ω 902 i1 0) ≤ (xI Ω 902 i 0) then (0 : Int32) else (if (xI Ω 903 i 0) ≤ (xI Ω 903 i1 0) then (0 : Int32) else (1 : Int32)))
set_option maxRecDepth 20000 in
theorem tX9_surrounds {G : XG} (hok : XK G) {i : Nat} {i1 : Nat} {Ω : XO} (hd0 : dm G 9 i) (hd1 : dm G 9 i1)   : XM G yX9_surrounds cX9_surrounds 2 ((some FieldType.boolean)) (RM 0 0) [.ref (ad G 9 i), .ref (ad G 9 i1)] Ω (.inl (some (.int (fX9_surrounds Ω i i1)))) Ω := by
  refine x_start (lv := [(0, .ref (ad G 9 i)), (1, .ref (ad G 9 i1))]) (own := RX9) hok (by decide +kernel) rfl (Nat.le_of_ble_eq_true rfl) rfl (fun B C => ?_)
  refine x_aload_n (pc2 := 1) C dX9_surrounds_0 0 rfl rfl rfl ?_
  refine x_getI (pc2 := 4) (f := 902) C (by assumption) kf_9_24 dX9_surrounds_1 rfl rfl rfl ?_
  refine x_aload_n (pc2 := 5) C dX9_surrounds_4 1 rfl rfl rfl ?_
  refine x_getI (pc2 := 8) (f := 902) C (by assumption) kf_9_24 dX9_surrounds_5 rfl rfl rfl ?_
  refine x_icmp_ge (tgt := 26) (pc2 := 11) C dX9_surrounds_8 (by decide) rfl (fun qc_1 => ?_) (fun qc_1 => ?_)
  · refine x_iconst (pc2 := 27) (v := 0) C dX9_surrounds_26 rfl rfl ?_
    exact x_zreturn C dX9_surrounds_27 rfl (by first | exact Or.inl rfl | exact Or.inr rfl) (Nat.le_of_ble_eq_true rfl) (Nat.le_of_ble_eq_true rfl) (by rw [fX9_surrounds, if_pos qc_1] <;> rfl) rfl
  · refine x_aload_n (pc2 := 12) C dX9_surrounds_11 0 rfl rfl rfl ?_
    refine x_getI (pc2 := 15) (f := 903) C (by assumption) kf_9_27 dX9_surrounds_12 rfl rfl rfl ?_
    refine x_aload_n (pc2 := 16) C dX9_surrounds_15 1 rfl rfl rfl ?_
    refine x_getI (pc2 := 19) (f := 903) C (by assumption) kf_9_27 dX9_surrounds_16 rfl rfl rfl ?_
    refine x_icmp_le (tgt := 26) (pc2 := 22) C dX9_surrounds_19 (by decide) rfl (fun qc_2 => ?_) (fun qc_2 => ?_)
    · refine x_iconst (pc2 := 27) (v := 0) C dX9_surrounds_26 rfl rfl ?_
      exact x_zreturn C dX9_surrounds_27 rfl (by first | exact Or.inl rfl | exact Or.inr rfl) (Nat.le_of_ble_eq_true rfl) (Nat.le_of_ble_eq_true rfl) (by rw [fX9_surrounds, if_neg qc_1, if_pos qc_2] <;> rfl) rfl
    · refine x_iconst (pc2 := 23) (v := 1) C dX9_surrounds_22 rfl rfl ?_
      refine x_goto (tgt := 27) C dX9_surrounds_23 (by decide) ?_
      exact x_zreturn C dX9_surrounds_27 rfl (by first | exact Or.inl rfl | exact Or.inr rfl) (Nat.le_of_ble_eq_true rfl) (Nat.le_of_ble_eq_true rfl) (by rw [fX9_surrounds, if_neg qc_1, if_neg qc_2] <;> rfl) rfl

def fX0_follow (Ω : XO) (i : Nat) (i1 : Nat) (x2 : Int32) (x3 : Int32) : XO := fX6_copyFrom (uL (uI (uI (uI (uI (uI Ω 2 i 0 ((xI Ω 2 i1 0) + (1 : Int32))) 3 i 0 x2) 4 i 0 ((xI (uI (uI Ω 2 i 0 ((xI Ω 2 i1 0) + (1 : Int32))) 3 i 0 x2) 4 i1 0) + x3)) 5 i 0 (if (1 : Int32) < ((xI (uI (uI (uI Ω 2 i 0 ((xI Ω 2 i1 0) + (1 : Int32))) 3 i 0 x2) 4 i 0 ((xI (uI (uI Ω 2 i 0 ((xI Ω 2 i1 0) + (1 : Int32))) 3 i 0 x2) 4 i1 0) + x3)) 5 i1 0) + (((xI (uI (uI (uI Ω 2 i 0 ((xI Ω 2 i1 0) + (1 : Int32))) 3 i 0 x2) 4 i 0 ((xI (uI (uI Ω 2 i 0 ((xI Ω 2 i1 0) + (1 : Int32))) 3 i 0 x2) 4 i1 0) + x3)) 5 i1 0) * ((xI (uI (uI (uI Ω 2 i 0 ((xI Ω 2 i1 0) + (1 : Int32))) 3 i 0 x2) 4 i 0 ((xI (uI (uI Ω 2 i 0 ((xI Ω 2 i1 0) + (1 : Int32))) 3 i 0 x2) 4 i1 0) + x3)) 6 i1 0) - (300 : Int32))) / (2400 : Int32))) then ((xI (uI (uI (uI Ω 2 i 0 ((xI Ω 2 i1 0) + (1 : Int32))) 3 i 0 x2) 4 i 0 ((xI (uI (uI Ω 2 i 0 ((xI Ω 2 i1 0) + (1 : Int32))) 3 i 0 x2) 4 i1 0) + x3)) 5 i1 0) + (((xI (uI (uI (uI Ω 2 i 0 ((xI Ω 2 i1 0) + (1 : Int32))) 3 i 0 x2) 4 i 0 ((xI (uI (uI Ω 2 i 0 ((xI Ω 2 i1 0) + (1 : Int32))) 3 i 0 x2) 4 i1 0) + x3)) 5 i1 0) * ((xI (uI (uI (uI Ω 2 i 0 ((xI Ω 2 i1 0) + (1 : Int32))) 3 i 0 x2) 4 i 0 ((xI (uI (uI Ω 2 i 0 ((xI Ω 2 i1 0) + (1 : Int32))) 3 i 0 x2) 4 i1 0) + x3)) 6 i1 0) - (300 : Int32))) / (2400 : Int32))) else (1 : Int32))) 16 i 0 ((xI (uI (uI (uI (uI Ω 2 i 0 ((xI Ω 2 i1 0) + (1 : Int32))) 3 i 0 x2) 4 i 0 ((xI (uI (uI Ω 2 i 0 ((xI Ω 2 i1 0) + (1 : Int32))) 3 i 0 x2) 4 i1 0) + x3)) 5 i 0 (if (1 : Int32) < ((xI (uI (uI (uI Ω 2 i 0 ((xI Ω 2 i1 0) + (1 : Int32))) 3 i 0 x2) 4 i 0 ((xI (uI (uI Ω 2 i 0 ((xI Ω 2 i1 0) + (1 : Int32))) 3 i 0 x2) 4 i1 0) + x3)) 5 i1 0) + (((xI (uI (uI (uI Ω 2 i 0 ((xI Ω 2 i1 0) + (1 : Int32))) 3 i 0 x2) 4 i 0 ((xI (uI (uI Ω 2 i 0 ((xI Ω 2 i1 0) + (1 : Int32))) 3 i 0 x2) 4 i1 0) + x3)) 5 i1 0) * ((xI (uI (uI (uI Ω 2 i 0 ((xI Ω 2 i1 0) + (1 : Int32))) 3 i 0 x2) 4 i 0 ((xI (uI (uI Ω 2 i 0 ((xI Ω 2 i1 0) + (1 : Int32))) 3 i 0 x2) 4 i1 0) + x3)) 6 i1 0) - (300 : Int32))) / (2400 : Int32))) then ((xI (uI (uI (uI Ω 2 i 0 ((xI Ω 2 i1 0) + (1 : Int32))) 3 i 0 x2) 4 i 0 ((xI (uI (uI Ω 2 i 0 ((xI Ω 2 i1 0) + (1 : Int32))) 3 i 0 x2) 4 i1 0) + x3)) 5 i1 0) + (((xI (uI (uI (uI Ω 2 i 0 ((xI Ω 2 i1 0) + (1 : Int32))) 3 i 0 x2) 4 i 0 ((xI (uI (uI Ω 2 i 0 ((xI Ω 2 i1 0) + (1 : Int32))) 3 i 0 x2) 4 i1 0) + x3)) 5 i1 0) * ((xI (uI (uI (uI Ω 2 i 0 ((xI Ω 2 i1 0) + (1 : Int32))) 3 i 0 x2) 4 i 0 ((xI (uI (uI Ω 2 i 0 ((xI Ω 2 i1 0) + (1 : Int32))) 3 i 0 x2) 4 i1 0) + x3)) 6 i1 0) - (300 : Int32))) / (2400 : Int32))) else (1 : Int32))) 16 i1 0) ||| ((1 : Int32) <<< ((xI (uI (uI (uI (uI Ω 2 i 0 ((xI Ω 2 i1 0) + (1 : Int32))) 3 i 0 x2) 4 i 0 ((xI (uI (uI Ω 2 i 0 ((xI Ω 2 i1 0) + (1 : Int32))) 3 i 0 x2) 4 i1 0) + x3)) 5 i 0 (if (1 : Int32) < ((xI (uI (uI (uI Ω 2 i 0 ((xI Ω 2 i1 0) + (1 : Int32))) 3 i 0 x2) 4 i 0 ((xI (uI (uI Ω 2 i 0 ((xI Ω 2 i1 0) + (1 : Int32))) 3 i 0 x2) 4 i1 0) + x3)) 5 i1 0) + (((xI (uI (uI (uI Ω 2 i 0 ((xI Ω 2 i1 0) + (1 : Int32))) 3 i 0 x2) 4 i 0 ((xI (uI (uI Ω 2 i 0 ((xI Ω 2 i1 0) + (1 : Int32))) 3 i 0 x2) 4 i1 0) + x3)) 5 i1 0) * ((xI (uI (uI (uI Ω 2 i 0 ((xI Ω 2 i1 0) + (1 : Int32))) 3 i 0 x2) 4 i 0 ((xI (uI (uI Ω 2 i 0 ((xI Ω 2 i1 0) + (1 : Int32))) 3 i 0 x2) 4 i1 0) + x3)) 6 i1 0) - (300 : Int32))) / (2400 : Int32))) then ((xI (uI (uI (uI Ω 2 i 0 ((xI Ω 2 i1 0) + (1 : Int32))) 3 i 0 x2) 4 i 0 ((xI (uI (uI Ω 2 i 0 ((xI Ω 2 i1 0) + (1 : Int32))) 3 i 0 x2) 4 i1 0) + x3)) 5 i1 0) + (((xI (uI (uI (uI Ω 2 i 0 ((xI Ω 2 i1 0) + (1 : Int32))) 3 i 0 x2) 4 i 0 ((xI (uI (uI Ω 2 i 0 ((xI Ω 2 i1 0) + (1 : Int32))) 3 i 0 x2) 4 i1 0) + x3)) 5 i1 0) * ((xI (uI (uI (uI Ω 2 i 0 ((xI Ω 2 i1 0) + (1 : Int32))) 3 i 0 x2) 4 i 0 ((xI (uI (uI Ω 2 i 0 ((xI Ω 2 i1 0) + (1 : Int32))) 3 i 0 x2) 4 i1 0) + x3)) 6 i1 0) - (300 : Int32))) / (2400 : Int32))) else (1 : Int32))) 0 i 0) &&& 31)))) 17 i 0 (xL (uI (uI (uI (uI (uI Ω 2 i 0 ((xI Ω 2 i1 0) + (1 : Int32))) 3 i 0 x2) 4 i 0 ((xI (uI (uI Ω 2 i 0 ((xI Ω 2 i1 0) + (1 : Int32))) 3 i 0 x2) 4 i1 0) + x3)) 5 i 0 (if (1 : Int32) < ((xI (uI (uI (uI Ω 2 i 0 ((xI Ω 2 i1 0) + (1 : Int32))) 3 i 0 x2) 4 i 0 ((xI (uI (uI Ω 2 i 0 ((xI Ω 2 i1 0) + (1 : Int32))) 3 i 0 x2) 4 i1 0) + x3)) 5 i1 0) + (((xI (uI (uI (uI Ω 2 i 0 ((xI Ω 2 i1 0) + (1 : Int32))) 3 i 0 x2) 4 i 0 ((xI (uI (uI Ω 2 i 0 ((xI Ω 2 i1 0) + (1 : Int32))) 3 i 0 x2) 4 i1 0) + x3)) 5 i1 0) * ((xI (uI (uI (uI Ω 2 i 0 ((xI Ω 2 i1 0) + (1 : Int32))) 3 i 0 x2) 4 i 0 ((xI (uI (uI Ω 2 i 0 ((xI Ω 2 i1 0) + (1 : Int32))) 3 i 0 x2) 4 i1 0) + x3)) 6 i1 0) - (300 : Int32))) / (2400 : Int32))) then ((xI (uI (uI (uI Ω 2 i 0 ((xI Ω 2 i1 0) + (1 : Int32))) 3 i 0 x2) 4 i 0 ((xI (uI (uI Ω 2 i 0 ((xI Ω 2 i1 0) + (1 : Int32))) 3 i 0 x2) 4 i1 0) + x3)) 5 i1 0) + (((xI (uI (uI (uI Ω 2 i 0 ((xI Ω 2 i1 0) + (1 : Int32))) 3 i 0 x2) 4 i 0 ((xI (uI (uI Ω 2 i 0 ((xI Ω 2 i1 0) + (1 : Int32))) 3 i 0 x2) 4 i1 0) + x3)) 5 i1 0) * ((xI (uI (uI (uI Ω 2 i 0 ((xI Ω 2 i1 0) + (1 : Int32))) 3 i 0 x2) 4 i 0 ((xI (uI (uI Ω 2 i 0 ((xI Ω 2 i1 0) + (1 : Int32))) 3 i 0 x2) 4 i1 0) + x3)) 6 i1 0) - (300 : Int32))) / (2400 : Int32))) else (1 : Int32))) 16 i 0 ((xI (uI (uI (uI (uI Ω 2 i 0 ((xI Ω 2 i1 0) + (1 : Int32))) 3 i 0 x2) 4 i 0 ((xI (uI (uI Ω 2 i 0 ((xI Ω 2 i1 0) + (1 : Int32))) 3 i 0 x2) 4 i1 0) + x3)) 5 i 0 (if (1 : Int32) < ((xI (uI (uI (uI Ω 2 i 0 ((xI Ω 2 i1 0) + (1 : Int32))) 3 i 0 x2) 4 i 0 ((xI (uI (uI Ω 2 i 0 ((xI Ω 2 i1 0) + (1 : Int32))) 3 i 0 x2) 4 i1 0) + x3)) 5 i1 0) + (((xI (uI (uI (uI Ω 2 i 0 ((xI Ω 2 i1 0) + (1 : Int32))) 3 i 0 x2) 4 i 0 ((xI (uI (uI Ω 2 i 0 ((xI Ω 2 i1 0) + (1 : Int32))) 3 i 0 x2) 4 i1 0) + x3)) 5 i1 0) * ((xI (uI (uI (uI Ω 2 i 0 ((xI Ω 2 i1 0) + (1 : Int32))) 3 i 0 x2) 4 i 0 ((xI (uI (uI Ω 2 i 0 ((xI Ω 2 i1 0) + (1 : Int32))) 3 i 0 x2) 4 i1 0) + x3)) 6 i1 0) - (300 : Int32))) / (2400 : Int32))) then ((xI (uI (uI (uI Ω 2 i 0 ((xI Ω 2 i1 0) + (1 : Int32))) 3 i 0 x2) 4 i 0 ((xI (uI (uI Ω 2 i 0 ((xI Ω 2 i1 0) + (1 : Int32))) 3 i 0 x2) 4 i1 0) + x3)) 5 i1 0) + (((xI (uI (uI (uI Ω 2 i 0 ((xI Ω 2 i1 0) + (1 : Int32))) 3 i 0 x2) 4 i 0 ((xI (uI (uI Ω 2 i 0 ((xI Ω 2 i1 0) + (1 : Int32))) 3 i 0 x2) 4 i1 0) + x3)) 5 i1 0) * ((xI (uI (uI (uI Ω 2 i 0 ((xI Ω 2 i1 0) + (1 : Int32))) 3 i 0 x2) 4 i 0 ((xI (uI (uI Ω 2 i 0 ((xI Ω 2 i1 0) + (1 : Int32))) 3 i 0 x2) 4 i1 0) + x3)) 6 i1 0) - (300 : Int32))) / (2400 : Int32))) else (1 : Int32))) 16 i1 0) ||| ((1 : Int32) <<< ((xI (uI (uI (uI (uI Ω 2 i 0 ((xI Ω 2 i1 0) + (1 : Int32))) 3 i 0 x2) 4 i 0 ((xI (uI (uI Ω 2 i 0 ((xI Ω 2 i1 0) + (1 : Int32))) 3 i 0 x2) 4 i1 0) + x3)) 5 i 0 (if (1 : Int32) < ((xI (uI (uI (uI Ω 2 i 0 ((xI Ω 2 i1 0) + (1 : Int32))) 3 i 0 x2) 4 i 0 ((xI (uI (uI Ω 2 i 0 ((xI Ω 2 i1 0) + (1 : Int32))) 3 i 0 x2) 4 i1 0) + x3)) 5 i1 0) + (((xI (uI (uI (uI Ω 2 i 0 ((xI Ω 2 i1 0) + (1 : Int32))) 3 i 0 x2) 4 i 0 ((xI (uI (uI Ω 2 i 0 ((xI Ω 2 i1 0) + (1 : Int32))) 3 i 0 x2) 4 i1 0) + x3)) 5 i1 0) * ((xI (uI (uI (uI Ω 2 i 0 ((xI Ω 2 i1 0) + (1 : Int32))) 3 i 0 x2) 4 i 0 ((xI (uI (uI Ω 2 i 0 ((xI Ω 2 i1 0) + (1 : Int32))) 3 i 0 x2) 4 i1 0) + x3)) 6 i1 0) - (300 : Int32))) / (2400 : Int32))) then ((xI (uI (uI (uI Ω 2 i 0 ((xI Ω 2 i1 0) + (1 : Int32))) 3 i 0 x2) 4 i 0 ((xI (uI (uI Ω 2 i 0 ((xI Ω 2 i1 0) + (1 : Int32))) 3 i 0 x2) 4 i1 0) + x3)) 5 i1 0) + (((xI (uI (uI (uI Ω 2 i 0 ((xI Ω 2 i1 0) + (1 : Int32))) 3 i 0 x2) 4 i 0 ((xI (uI (uI Ω 2 i 0 ((xI Ω 2 i1 0) + (1 : Int32))) 3 i 0 x2) 4 i1 0) + x3)) 5 i1 0) * ((xI (uI (uI (uI Ω 2 i 0 ((xI Ω 2 i1 0) + (1 : Int32))) 3 i 0 x2) 4 i 0 ((xI (uI (uI Ω 2 i 0 ((xI Ω 2 i1 0) + (1 : Int32))) 3 i 0 x2) 4 i1 0) + x3)) 6 i1 0) - (300 : Int32))) / (2400 : Int32))) else (1 : Int32))) 0 i 0) &&& 31)))) 17 i1 0)) i i1
set_option maxRecDepth 20000 in
theorem tX0_follow {G : XG} (hok : XK G) {i : Nat} {i1 : Nat} {x2 : Int32} {x3 : Int32} {Ω : XO} (hd0 : dm G 0 i) (hd1 : dm G 0 i1)   : XM G yX0_follow cX0_follow 4 none (RM 2 0) [.ref (ad G 0 i), .ref (ad G 0 i1), .int x2, .int x3] Ω (.inl none) (fX0_follow Ω i i1 x2 x3) := by
  refine x_start (lv := [(0, .ref (ad G 0 i)), (1, .ref (ad G 0 i1)), (2, .int x2), (3, .int x3)]) (own := RX0) hok (by decide +kernel) rfl (Nat.le_of_ble_eq_true rfl) rfl (fun B C => ?_)
  refine x_aload_n (pc2 := 1) C dX0_follow_0 0 rfl rfl rfl ?_
  refine x_aload_n (pc2 := 2) C dX0_follow_1 1 rfl rfl rfl ?_
  refine x_getI (pc2 := 5) (f := 2) C (by assumption) kf_0_45 dX0_follow_2 rfl rfl rfl ?_
  refine x_iconst (pc2 := 6) (v := 1) C dX0_follow_5 rfl rfl ?_
  refine x_iadd (pc2 := 7) C dX0_follow_6 rfl ?_
  refine x_putI (pc2 := 10) (f := 2) C (by assumption) kf_0_45 dX0_follow_7 rfl rfl rfl rfl rfl ?_
  refine x_aload_n (pc2 := 11) C dX0_follow_10 0 rfl rfl rfl ?_
  refine x_iload_n (pc2 := 12) C dX0_follow_11 2 rfl rfl rfl ?_
  refine x_putI (pc2 := 15) (f := 3) C (by assumption) kf_0_48 dX0_follow_12 rfl rfl rfl rfl rfl ?_
  refine x_aload_n (pc2 := 16) C dX0_follow_15 0 rfl rfl rfl ?_
  refine x_aload_n (pc2 := 17) C dX0_follow_16 1 rfl rfl rfl ?_
  refine x_getI (pc2 := 20) (f := 4) C (by assumption) kf_0_51 dX0_follow_17 rfl rfl rfl ?_
  refine x_iload_n (pc2 := 21) C dX0_follow_20 3 rfl rfl rfl ?_
  refine x_iadd (pc2 := 22) C dX0_follow_21 rfl ?_
  refine x_putI (pc2 := 25) (f := 4) C (by assumption) kf_0_51 dX0_follow_22 rfl rfl rfl rfl rfl ?_
  refine x_aload_n (pc2 := 26) C dX0_follow_25 0 rfl rfl rfl ?_
  refine x_iconst (pc2 := 27) (v := 1) C dX0_follow_26 rfl rfl ?_
  refine x_aload_n (pc2 := 28) C dX0_follow_27 1 rfl rfl rfl ?_
  refine x_getI (pc2 := 31) (f := 5) C (by assumption) kf_0_18 dX0_follow_28 rfl rfl rfl ?_
  refine x_aload_n (pc2 := 32) C dX0_follow_31 1 rfl rfl rfl ?_
  refine x_getI (pc2 := 35) (f := 5) C (by assumption) kf_0_18 dX0_follow_32 rfl rfl rfl ?_
  refine x_aload_n (pc2 := 36) C dX0_follow_35 1 rfl rfl rfl ?_
  refine x_getI (pc2 := 39) (f := 6) C (by assumption) kf_0_54 dX0_follow_36 rfl rfl rfl ?_
  refine x_sipush (pc2 := 42) (v := 300) C dX0_follow_39 rfl rfl ?_
  refine x_isub (pc2 := 43) C dX0_follow_42 rfl ?_
  refine x_imul (pc2 := 44) C dX0_follow_43 rfl ?_
  refine x_sipush (pc2 := 47) (v := 2400) C dX0_follow_44 rfl rfl ?_
  refine x_idiv (pc2 := 48) C dX0_follow_47 (by decide +kernel) rfl ?_
  refine x_iadd (pc2 := 49) C dX0_follow_48 rfl ?_
  refine x_mmax (pc2 := 52) C kmath_0_57 kms_max kmi kmc_max ⟨Nat.le_of_ble_eq_true rfl, Nat.le_of_ble_eq_true rfl⟩ (Nat.le_of_ble_eq_true rfl) (Nat.le_of_ble_eq_true rfl) dX0_follow_49 rfl ?_
  refine x_putI (pc2 := 55) (f := 5) C (by assumption) kf_0_18 dX0_follow_52 rfl rfl rfl rfl rfl ?_
  refine x_aload_n (pc2 := 56) C dX0_follow_55 0 rfl rfl rfl ?_
  refine x_aload_n (pc2 := 57) C dX0_follow_56 1 rfl rfl rfl ?_
  refine x_getI (pc2 := 60) (f := 16) C (by assumption) kf_0_32 dX0_follow_57 rfl rfl rfl ?_
  refine x_iconst (pc2 := 61) (v := 1) C dX0_follow_60 rfl rfl ?_
  refine x_aload_n (pc2 := 62) C dX0_follow_61 0 rfl rfl rfl ?_
  refine x_getI (pc2 := 65) (f := 0) C (by assumption) kf_0_29 dX0_follow_62 rfl rfl rfl ?_
  refine x_ishl (pc2 := 66) C dX0_follow_65 rfl ?_
  refine x_ior (pc2 := 67) C dX0_follow_66 rfl ?_
  refine x_putI (pc2 := 70) (f := 16) C (by assumption) kf_0_32 dX0_follow_67 rfl rfl rfl rfl rfl ?_
  refine x_aload_n (pc2 := 71) C dX0_follow_70 0 rfl rfl rfl ?_
  refine x_aload_n (pc2 := 72) C dX0_follow_71 1 rfl rfl rfl ?_
  refine x_getL (pc2 := 75) (f := 17) C (by assumption) kf_0_63 dX0_follow_72 rfl rfl rfl ?_
  refine x_putL (pc2 := 78) (f := 17) C (by assumption) kf_0_63 dX0_follow_75 rfl rfl rfl rfl rfl ?_
  refine x_aload_n (pc2 := 79) C dX0_follow_78 0 rfl rfl rfl ?_
  refine x_getR (f := 1) (k2 := 6) (pc2 := 82) C (by assumption) kf_0_12 dX0_follow_79 rfl rfl rfl (rti_i rfl) rfl (fun qd_1 => ?_)
  refine x_aload_n (pc2 := 83) C dX0_follow_82 1 rfl rfl rfl ?_
  refine x_getR (f := 1) (k2 := 6) (pc2 := 86) C (by assumption) kf_0_12 dX0_follow_83 rfl rfl rfl (rti_i rfl) rfl (fun qd_2 => ?_)
  refine x_ret (rest := []) (st2 := []) (pc2 := 89) (cu2 := 0) (su2 := 0) (x_cV C (by assumption) (Nat.le_of_ble_eq_true rfl) kmX6_copyFrom rfl kk_0_67 (tX6_copyFrom hok (by assumption) (by assumption)) rfl rfl (Nat.le_of_ble_eq_true rfl) ⟨Nat.le_of_ble_eq_true rfl, Nat.le_of_ble_eq_true rfl⟩ ⟨Nat.le_of_ble_eq_true rfl, Nat.le_of_ble_eq_true rfl⟩ dX0_follow_86) rfl rfl rfl rfl ?_
  exact x_vreturn C dX0_follow_89 rfl (Nat.le_of_ble_eq_true rfl) (Nat.le_of_ble_eq_true rfl) rfl (by rw [fX0_follow] <;> rfl)
theorem R_fX0_follow (Ω : XO) (i : Nat) (i1 : Nat) (x2 : Int32) (x3 : Int32) : xR (fX0_follow Ω i i1 x2 x3) = xR Ω := by
  unfold fX0_follow
  (repeat' split) <;> first | rfl | (funext a b9; simp only [R_uI, R_uL, R_cI, R_sPut, R_fX0_imitate, R_fX0_enter, R_fX0_addEvent, R_fX3_take, R_fX3_push, R_fX3_reach, R_fX5_append, R_fX6_copyFrom, R_fX6_gain, R_fX6_move, R_fX6_raiseNonce, R_fX7_order, R_fX7_bid, R_fX7_nameLock, R_fX9_become])

def fX0_hasBloomOf (Ω : XO) (i : Nat) (x1 : Int32) : Int32 := (if ((xI Ω 11 i 0) &&& (fX0_bloomOf Ω x1)) = (fX0_bloomOf Ω x1) then (1 : Int32) else (0 : Int32))
def fX3_save (Ω : XO) (i : Nat) (i1 : Nat) (x2 : Int32) (x3 : Int32) : XO := uI (uI (fX6_copyFrom Ω (49 + i) i1) 312 i 0 x2) 313 i 0 x3
set_option maxRecDepth 20000 in
theorem tX3_save {G : XG} (hok : XK G) {i : Nat} {i1 : Nat} {x2 : Int32} {x3 : Int32} {Ω : XO} (hd0 : dm G 3 i) (hd1 : dm G 6 i1)   : XM G yX3_save cX3_save 4 none (RM 2 0) [.ref (ad G 3 i), .ref (ad G 6 i1), .int x2, .int x3] Ω (.inl none) (fX3_save Ω i i1 x2 x3) := by
  refine x_start (lv := [(0, .ref (ad G 3 i)), (1, .ref (ad G 6 i1)), (2, .int x2), (3, .int x3)]) (own := RX3) hok (by decide +kernel) rfl (Nat.le_of_ble_eq_true rfl) rfl (fun B C => ?_)
  refine x_aload_n (pc2 := 1) C dX3_save_0 0 rfl rfl rfl ?_
  refine x_getR (f := 311) (k2 := 6) (pc2 := 4) C (by assumption) kf_3_21 dX3_save_1 rfl rfl rfl (rti_f _) rfl (fun qd_1 => ?_)
  refine x_aload_n (pc2 := 5) C dX3_save_4 1 rfl rfl rfl ?_
  refine x_ret (rest := []) (st2 := []) (pc2 := 8) (cu2 := 0) (su2 := 0) (x_cV C (by assumption) (Nat.le_of_ble_eq_true rfl) kmX6_copyFrom rfl kk_3_54 (tX6_copyFrom hok (by assumption) (by assumption)) rfl rfl (Nat.le_of_ble_eq_true rfl) ⟨Nat.le_of_ble_eq_true rfl, Nat.le_of_ble_eq_true rfl⟩ ⟨Nat.le_of_ble_eq_true rfl, Nat.le_of_ble_eq_true rfl⟩ dX3_save_5) rfl rfl rfl rfl ?_
  refine x_aload_n (pc2 := 9) C dX3_save_8 0 rfl rfl rfl ?_
  refine x_iload_n (pc2 := 10) C dX3_save_9 2 rfl rfl rfl ?_
  refine x_putI (pc2 := 13) (f := 312) C (by assumption) kf_3_58 dX3_save_10 rfl rfl rfl rfl rfl ?_
  refine x_aload_n (pc2 := 14) C dX3_save_13 0 rfl rfl rfl ?_
  refine x_iload_n (pc2 := 15) C dX3_save_14 3 rfl rfl rfl ?_
  refine x_putI (pc2 := 18) (f := 313) C (by assumption) kf_3_61 dX3_save_15 rfl rfl rfl rfl rfl ?_
  exact x_vreturn C dX3_save_18 rfl (Nat.le_of_ble_eq_true rfl) (Nat.le_of_ble_eq_true rfl) rfl (by rw [fX3_save] <;> rfl)
theorem R_fX3_save (Ω : XO) (i : Nat) (i1 : Nat) (x2 : Int32) (x3 : Int32) : xR (fX3_save Ω i i1 x2 x3) = xR Ω := by
  unfold fX3_save
  (repeat' split) <;> first | rfl | (funext a b9; simp only [R_uI, R_uL, R_cI, R_sPut, R_fX0_imitate, R_fX0_enter, R_fX0_addEvent, R_fX3_take, R_fX3_push, R_fX3_reach, R_fX5_append, R_fX6_copyFrom, R_fX6_gain, R_fX6_move, R_fX6_raiseNonce, R_fX7_order, R_fX7_bid, R_fX7_nameLock, R_fX9_become, R_fX0_follow])

def fX3_growthTo (Ω : XO) (i : Nat) (x1 : Int32) : Int32 := (if x1 ≤ (xI Ω 303 i 0) then (0 : Int32) else (fX3_memoryGas Ω x1) - (fX3_memoryGas Ω (xI Ω 303 i 0)))
set_option maxRecDepth 20000 in
theorem tX3_growthTo {G : XG} (hok : XK G) {i : Nat} {x1 : Int32} {Ω : XO} (hd0 : dm G 3 i)   : XM G yX3_growthTo cX3_growthTo 2 ((some FieldType.int)) (RM 1 0) [.ref (ad G 3 i), .int x1] Ω (.inl (some (.int (fX3_growthTo Ω i x1)))) Ω := by
  refine x_start (lv := [(0, .ref (ad G 3 i)), (1, .int x1)]) (own := RX3) hok (by decide +kernel) rfl (Nat.le_of_ble_eq_true rfl) rfl (fun B C => ?_)
  refine x_iload_n (pc2 := 1) C dX3_growthTo_0 1 rfl rfl rfl ?_
  refine x_aload_n (pc2 := 2) C dX3_growthTo_1 0 rfl rfl rfl ?_
  refine x_getI (pc2 := 5) (f := 303) C (by assumption) kf_3_47 dX3_growthTo_2 rfl rfl rfl ?_
  refine x_icmp_le (tgt := 23) (pc2 := 8) C dX3_growthTo_5 (by decide) rfl (fun qc_1 => ?_) (fun qc_1 => ?_)
  · refine x_iconst (pc2 := 24) (v := 0) C dX3_growthTo_23 rfl rfl ?_
    exact x_ireturn C dX3_growthTo_24 rfl (Nat.le_of_ble_eq_true rfl) (Nat.le_of_ble_eq_true rfl) (by rw [fX3_growthTo, if_pos qc_1] <;> rfl) rfl
  · refine x_iload_n (pc2 := 9) C dX3_growthTo_8 1 rfl rfl rfl ?_
    refine x_ret (rest := []) (st2 := [_]) (pc2 := 12) (cu2 := 0) (su2 := 0) (x_cS C kmX3_memoryGas kk_3_74 (tX3_memoryGas hok ) rfl rfl (Nat.le_of_ble_eq_true rfl) ⟨Nat.le_of_ble_eq_true rfl, Nat.le_of_ble_eq_true rfl⟩ ⟨Nat.le_of_ble_eq_true rfl, Nat.le_of_ble_eq_true rfl⟩ dX3_growthTo_9) rfl rfl rfl rfl ?_
    refine x_aload_n (pc2 := 13) C dX3_growthTo_12 0 rfl rfl rfl ?_
    refine x_getI (pc2 := 16) (f := 303) C (by assumption) kf_3_47 dX3_growthTo_13 rfl rfl rfl ?_
    refine x_ret (rest := [_]) (st2 := [_, _]) (pc2 := 19) (cu2 := 0) (su2 := 0) (x_cS C kmX3_memoryGas kk_3_74 (tX3_memoryGas hok ) rfl rfl (Nat.le_of_ble_eq_true rfl) ⟨Nat.le_of_ble_eq_true rfl, Nat.le_of_ble_eq_true rfl⟩ ⟨Nat.le_of_ble_eq_true rfl, Nat.le_of_ble_eq_true rfl⟩ dX3_growthTo_16) rfl rfl rfl rfl ?_
    refine x_isub (pc2 := 20) C dX3_growthTo_19 rfl ?_
    refine x_goto (tgt := 24) C dX3_growthTo_20 (by decide) ?_
    exact x_ireturn C dX3_growthTo_24 rfl (Nat.le_of_ble_eq_true rfl) (Nat.le_of_ble_eq_true rfl) (by rw [fX3_growthTo, if_neg qc_1] <;> rfl) rfl

def fX9_clashesWith (Ω : XO) (i : Nat) (i1 : Nat) : Int32 := (if (xI Ω 903 i 0) = (xI Ω 903 i1 0) then (if (xI Ω 901 i 0) = (xI Ω 901 i1 0) then (if (fX9_surrounds Ω i i1) = 0 then (if (fX9_surrounds Ω i1 i) = 0 then (0 : Int32) else (1 : Int32)) else (1 : Int32)) else (1 : Int32)) else (if (fX9_surrounds Ω i i1) = 0 then (if (fX9_surrounds Ω i1 i) = 0 then (0 : Int32) else (1 : Int32)) else (1 : Int32)))
set_option maxRecDepth 20000 in
theorem tX9_clashesWith {G : XG} (hok : XK G) {i : Nat} {i1 : Nat} {Ω : XO} (hd0 : dm G 9 i) (hd1 : dm G 9 i1)   : XM G yX9_clashesWith cX9_clashesWith 2 ((some FieldType.boolean)) (RM 1 0) [.ref (ad G 9 i), .ref (ad G 9 i1)] Ω (.inl (some (.int (fX9_clashesWith Ω i i1)))) Ω := by
  refine x_start (lv := [(0, .ref (ad G 9 i)), (1, .ref (ad G 9 i1))]) (own := RX9) hok (by decide +kernel) rfl (Nat.le_of_ble_eq_true rfl) rfl (fun B C => ?_)
  refine x_aload_n (pc2 := 1) C dX9_clashesWith_0 0 rfl rfl rfl ?_
  refine x_getI (pc2 := 4) (f := 903) C (by assumption) kf_9_27 dX9_clashesWith_1 rfl rfl rfl ?_
  refine x_aload_n (pc2 := 5) C dX9_clashesWith_4 1 rfl rfl rfl ?_
  refine x_getI (pc2 := 8) (f := 903) C (by assumption) kf_9_27 dX9_clashesWith_5 rfl rfl rfl ?_
  refine x_icmp_ne (tgt := 22) (pc2 := 11) C dX9_clashesWith_8 (by decide) rfl (fun qc_1 => ?_) (fun qc_1 => ?_)
  · refine x_aload_n (pc2 := 23) C dX9_clashesWith_22 0 rfl rfl rfl ?_
    refine x_aload_n (pc2 := 24) C dX9_clashesWith_23 1 rfl rfl rfl ?_
    refine x_ret (rest := []) (st2 := [_]) (pc2 := 27) (cu2 := 0) (su2 := 0) (x_cV C (by assumption) (Nat.le_of_ble_eq_true rfl) kmX9_surrounds rfl kk_9_30 (tX9_surrounds hok (by assumption) (by assumption)) rfl rfl (Nat.le_of_ble_eq_true rfl) ⟨Nat.le_of_ble_eq_true rfl, Nat.le_of_ble_eq_true rfl⟩ ⟨Nat.le_of_ble_eq_true rfl, Nat.le_of_ble_eq_true rfl⟩ dX9_clashesWith_24) rfl rfl rfl rfl ?_
    refine x_if_ne (tgt := 38) (pc2 := 30) C dX9_clashesWith_27 (by decide) rfl (fun qc_2 => ?_) (fun qc_2 => ?_)
    · refine x_iconst (pc2 := 39) (v := 1) C dX9_clashesWith_38 rfl rfl ?_
      refine x_goto (tgt := 43) C dX9_clashesWith_39 (by decide) ?_
      exact x_zreturn C dX9_clashesWith_43 rfl (by first | exact Or.inl rfl | exact Or.inr rfl) (Nat.le_of_ble_eq_true rfl) (Nat.le_of_ble_eq_true rfl) (by rw [fX9_clashesWith, if_neg qc_1, if_neg qc_2] <;> rfl) rfl
    · refine x_aload_n (pc2 := 31) C dX9_clashesWith_30 1 rfl rfl rfl ?_
      refine x_aload_n (pc2 := 32) C dX9_clashesWith_31 0 rfl rfl rfl ?_
      refine x_ret (rest := []) (st2 := [_]) (pc2 := 35) (cu2 := 0) (su2 := 0) (x_cV C (by assumption) (Nat.le_of_ble_eq_true rfl) kmX9_surrounds rfl kk_9_30 (tX9_surrounds hok (by assumption) (by assumption)) rfl rfl (Nat.le_of_ble_eq_true rfl) ⟨Nat.le_of_ble_eq_true rfl, Nat.le_of_ble_eq_true rfl⟩ ⟨Nat.le_of_ble_eq_true rfl, Nat.le_of_ble_eq_true rfl⟩ dX9_clashesWith_32) rfl rfl rfl rfl ?_
      refine x_if_eq (tgt := 42) (pc2 := 38) C dX9_clashesWith_35 (by decide) rfl (fun qc_3 => ?_) (fun qc_3 => ?_)
      · refine x_iconst (pc2 := 43) (v := 0) C dX9_clashesWith_42 rfl rfl ?_
        exact x_zreturn C dX9_clashesWith_43 rfl (by first | exact Or.inl rfl | exact Or.inr rfl) (Nat.le_of_ble_eq_true rfl) (Nat.le_of_ble_eq_true rfl) (by rw [fX9_clashesWith, if_neg qc_1, if_pos qc_2, if_pos qc_3] <;> rfl) rfl
      · refine x_iconst (pc2 := 39) (v := 1) C dX9_clashesWith_38 rfl rfl ?_
        refine x_goto (tgt := 43) C dX9_clashesWith_39 (by decide) ?_
        exact x_zreturn C dX9_clashesWith_43 rfl (by first | exact Or.inl rfl | exact Or.inr rfl) (Nat.le_of_ble_eq_true rfl) (Nat.le_of_ble_eq_true rfl) (by rw [fX9_clashesWith, if_neg qc_1, if_pos qc_2, if_neg qc_3] <;> rfl) rfl
  · refine x_aload_n (pc2 := 12) C dX9_clashesWith_11 0 rfl rfl rfl ?_
    refine x_getI (pc2 := 15) (f := 901) C (by assumption) kf_9_18 dX9_clashesWith_12 rfl rfl rfl ?_
    refine x_aload_n (pc2 := 16) C dX9_clashesWith_15 1 rfl rfl rfl ?_
    refine x_getI (pc2 := 19) (f := 901) C (by assumption) kf_9_18 dX9_clashesWith_16 rfl rfl rfl ?_
    refine x_icmp_ne (tgt := 38) (pc2 := 22) C dX9_clashesWith_19 (by decide) rfl (fun qc_4 => ?_) (fun qc_4 => ?_)
    · refine x_iconst (pc2 := 39) (v := 1) C dX9_clashesWith_38 rfl rfl ?_
      refine x_goto (tgt := 43) C dX9_clashesWith_39 (by decide) ?_
      exact x_zreturn C dX9_clashesWith_43 rfl (by first | exact Or.inl rfl | exact Or.inr rfl) (Nat.le_of_ble_eq_true rfl) (Nat.le_of_ble_eq_true rfl) (by rw [fX9_clashesWith, if_pos qc_1, if_neg qc_4] <;> rfl) rfl
    · refine x_aload_n (pc2 := 23) C dX9_clashesWith_22 0 rfl rfl rfl ?_
      refine x_aload_n (pc2 := 24) C dX9_clashesWith_23 1 rfl rfl rfl ?_
      refine x_ret (rest := []) (st2 := [_]) (pc2 := 27) (cu2 := 0) (su2 := 0) (x_cV C (by assumption) (Nat.le_of_ble_eq_true rfl) kmX9_surrounds rfl kk_9_30 (tX9_surrounds hok (by assumption) (by assumption)) rfl rfl (Nat.le_of_ble_eq_true rfl) ⟨Nat.le_of_ble_eq_true rfl, Nat.le_of_ble_eq_true rfl⟩ ⟨Nat.le_of_ble_eq_true rfl, Nat.le_of_ble_eq_true rfl⟩ dX9_clashesWith_24) rfl rfl rfl rfl ?_
      refine x_if_ne (tgt := 38) (pc2 := 30) C dX9_clashesWith_27 (by decide) rfl (fun qc_5 => ?_) (fun qc_5 => ?_)
      · refine x_iconst (pc2 := 39) (v := 1) C dX9_clashesWith_38 rfl rfl ?_
        refine x_goto (tgt := 43) C dX9_clashesWith_39 (by decide) ?_
        exact x_zreturn C dX9_clashesWith_43 rfl (by first | exact Or.inl rfl | exact Or.inr rfl) (Nat.le_of_ble_eq_true rfl) (Nat.le_of_ble_eq_true rfl) (by rw [fX9_clashesWith, if_pos qc_1, if_pos qc_4, if_neg qc_5] <;> rfl) rfl
      · refine x_aload_n (pc2 := 31) C dX9_clashesWith_30 1 rfl rfl rfl ?_
        refine x_aload_n (pc2 := 32) C dX9_clashesWith_31 0 rfl rfl rfl ?_
        refine x_ret (rest := []) (st2 := [_]) (pc2 := 35) (cu2 := 0) (su2 := 0) (x_cV C (by assumption) (Nat.le_of_ble_eq_true rfl) kmX9_surrounds rfl kk_9_30 (tX9_surrounds hok (by assumption) (by assumption)) rfl rfl (Nat.le_of_ble_eq_true rfl) ⟨Nat.le_of_ble_eq_true rfl, Nat.le_of_ble_eq_true rfl⟩ ⟨Nat.le_of_ble_eq_true rfl, Nat.le_of_ble_eq_true rfl⟩ dX9_clashesWith_32) rfl rfl rfl rfl ?_
        refine x_if_eq (tgt := 42) (pc2 := 38) C dX9_clashesWith_35 (by decide) rfl (fun qc_6 => ?_) (fun qc_6 => ?_)
        · refine x_iconst (pc2 := 43) (v := 0) C dX9_clashesWith_42 rfl rfl ?_
          exact x_zreturn C dX9_clashesWith_43 rfl (by first | exact Or.inl rfl | exact Or.inr rfl) (Nat.le_of_ble_eq_true rfl) (Nat.le_of_ble_eq_true rfl) (by rw [fX9_clashesWith, if_pos qc_1, if_pos qc_4, if_pos qc_5, if_pos qc_6] <;> rfl) rfl
        · refine x_iconst (pc2 := 39) (v := 1) C dX9_clashesWith_38 rfl rfl ?_
          refine x_goto (tgt := 43) C dX9_clashesWith_39 (by decide) ?_
          exact x_zreturn C dX9_clashesWith_43 rfl (by first | exact Or.inl rfl | exact Or.inr rfl) (Nat.le_of_ble_eq_true rfl) (Nat.le_of_ble_eq_true rfl) (by rw [fX9_clashesWith, if_pos qc_1, if_pos qc_4, if_pos qc_5, if_neg qc_6] <;> rfl) rfl
